set_option maxHeartbeats 4000000 in
theorem s2_X5_lookEverywhere {l : Launch} {dC : Nat → ClassId} {dI : Nat → Nat → Nat} {ad : Nat → Nat} {cA : Nat → ClassId} {pr : Nat → Nat → Bool} {Kz : mm_M} {M0 : mm_M} (hM0 : INV pr Kz M0) (hpr : PX pr) {v1 : Nat} (cv1 : s_c v1 = 6) (hp0 : b01 (APX M0 v1) = 1) (hp1 : b01 (LAW M0 v1) = 1) (hp2 : b01 (PRR (rwX M0 v1 12)) = 1) (hp3 : (M0.1 12 3).toInt < pw2 (M0.1 12 0).toInt) : Cv l 5 yX5_lookEverywhere wsX5_lookEverywhere dC dI ad cA [.ref (ad 88), .ref (ad v1), .ref (ad 12)] M0 (fun M' => INV pr Kz M' ∧ FX [81, 82, 83, 84, 85, 86, 88, 89, 90] M0 M' ∧ (b01 (TN M' v1 (rwX M0 v1 12)) = 1)) := by
  refine cv_of (cc := cX5_lookEverywhere) (maxL := 4) (lv := [(0, .ref (ad 88)), (1, .ref (ad v1)), (2, .ref (ad 12))]) (by decide) rfl (Nat.le_of_ble_eq_true rfl) rfl ?_
  intro p e s m args below meth c A Q C hret
  refine j_aload_n C 0 0 dX5_lookEverywhere_0 rfl rfl ?_
  refine j_aload_n C 1 1 dX5_lookEverywhere_1 rfl rfl ?_
  refine j_aload_n C 2 2 dX5_lookEverywhere_2 rfl rfl ?_
  refine j_aload_n C 2 2 dX5_lookEverywhere_3 rfl rfl ?_
  refine y_getI C 8 _ _ fX5_lookEverywhere_89 rfl rfl ft_8_4 sb_8_4 hM0 dX5_lookEverywhere_4 (fun a101 ea101 la101 ua101 => ?_)
  refine j_callVv C (d := 1) (As := [.ref (ad v1), .ref (ad 12), .int (sI a101)]) (st := []) 88 (s_lt rfl rfl) (s_kc (c := 4) rfl rfl) (by decide) rfl (s2_X5_aim hM0 hpr cv1 a101 (by omega) (by omega) (by omega) (by omega) (by omega) (by omega)) gX5_lookEverywhere_X5_aim rfl hdX5_aim (by decide) (Nat.le_of_ble_eq_true rfl) dX5_lookEverywhere_7 rfl (fun M105 h106 => ?_)
  obtain ⟨hM105, fM105, h107⟩ := h106
  refine y_iconst C dX5_lookEverywhere_10 ?_
  refine j_istore_n C 3 [(3, .int (sI 0)), (0, .ref (ad 88)), (1, .ref (ad v1)), (2, .ref (ad 12))] dX5_lookEverywhere_11 rfl (by decide) rfl ?_
  have u109p : M105.2.2 88 9 = v1 := (b01_e (P := AIM M105 v1 (seH (rwX M0 v1 12) (sI a101))) (by omega)).1
  have L463 : ∀ (n461 : Nat), ∀ (a464 : Int) (M465 : mm_M), (0 ≤ a464 ∧ a464 ≤ 256 ∧ (b01 (TN M465 v1 (rwX M0 v1 12)) = 1) ∧ (M465.2.2 88 9 = v1) ∧ (256 - a464) < (n461 : Int)) → INV pr Kz M465 → FX [81, 82, 83, 84, 85, 86, 88, 89, 90] M0 M465 → jj p l e (cn_R 5) s m args below meth c 0 0 Q 4 dC dI ad cA A M465 12 [(0, .ref (ad 88)), (2, .ref (ad 12)), (3, .int (sI a464))] [] := by
    intro n461
    induction n461 with
    | zero =>
      intro a464 M465 h466 hM465 fM465
      exfalso; omega
    | succ n461 ih462 =>
      intro a464 M465 h466 hM465 fM465
      have e88M465 : v1 = M465.2.2 88 9 := by omega
      refine j_iload_n C 2 3 dX5_lookEverywhere_12 rfl rfl ?_
      refine j_aload_n C 0 0 dX5_lookEverywhere_13 rfl rfl ?_
      refine y_getI C 4 _ _ fX5_lookEverywhere_38 rfl rfl ft_4_11 sb_4_11 hM465 dX5_lookEverywhere_14 (fun a468 ea468 la468 ua468 => ?_)
      refine y_icmp_gt C 35 dX5_lookEverywhere_17 (by decide) (by omega) (fun h470 => ?_) (fun h470 => ?_)
      · exact hret _ _ _ dX5_lookEverywhere_35 ⟨hM465, (FX.rf.tr fM465 (by decide)), by omega⟩
      · refine j_aload_n C 0 0 dX5_lookEverywhere_20 rfl rfl ?_
        refine j_iload_n C 2 3 dX5_lookEverywhere_21 rfl rfl ?_
        refine j_aload_n C 1 2 dX5_lookEverywhere_22 rfl rfl ?_
        refine y_getI C 8 _ _ fX5_lookEverywhere_89 rfl rfl ft_8_4 sb_8_4 hM465 dX5_lookEverywhere_23 (fun a471 ea471 la471 ua471 => ?_)
        have qa471 : a471 = a101 := (s_fX fM465 (by decide) (ea471)).trans ea101.symm
        refine j_callVv C (d := 4) (As := [.int (sI a464), .int (sI a471)]) (st := []) 88 (s_lt rfl rfl) (s_kc (c := 4) rfl rfl) (by decide) rfl (s3_X5_meet hM465 hpr a464 (by omega) a471 (by omega) v1 cv1 (e88M465) (rwX M0 v1 12) (by omega) (by omega) (by omega)) gX5_lookEverywhere_X5_meet rfl hdX5_meet (by decide) (Nat.le_of_ble_eq_true rfl) dX5_lookEverywhere_26 rfl (fun M474 h475 => ?_)
        obtain ⟨hM474, fM474, h476⟩ := h475
        refine y_iinc C 2 [(3, .int (sI (a464 + 1))), (0, .ref (ad 88)), (2, .ref (ad 12))] dX5_lookEverywhere_29 rfl (by decide) rfl ?_
        refine j_goto C 12 dX5_lookEverywhere_32 (by decide) ?_
        have u477p : M474.2.2 88 9 = v1 := (fM474.2.1 88 9 (by decide)).trans (by omega)
        refine j_lv [1, 2, 0] rfl ?_; exact ih462 (a464 + 1) M474 (by omega) hM474 ((FX.rf.tr fM465 (by decide)).tr fM474 (by decide))
  refine j_lv [1, 3, 0] rfl ?_; exact L463 2010 0 M105 (by omega) hM105 (FX.rf.tr fM105 (by decide))
set_option maxHeartbeats 4000000 in
theorem s2_X0_gather {l : Launch} {dC : Nat → ClassId} {dI : Nat → Nat → Nat} {ad : Nat → Nat} {cA : Nat → ClassId} {pr : Nat → Nat → Bool} {Kz : mm_M} {M0 : mm_M} (hM0 : INV pr Kz M0) (hpr : PX pr) {v1 : Nat} (cv1 : s_c v1 = 9) : Cv l 3 yX0_gather wsX0_gather dC dI ad cA [.ref (ad 95), .ref (ad v1)] M0 (fun M' => INV pr Kz M' ∧ FX [95, 96] M0 M') := by
  refine cv_of (cc := cX0_gather) (maxL := 3) (lv := [(0, .ref (ad 95)), (1, .ref (ad v1))]) (by decide) rfl (Nat.le_of_ble_eq_true rfl) rfl ?_
  intro p e s m args below meth c A Q C hret
  refine j_aload_n C 0 0 dX0_gather_0 rfl rfl ?_
  refine y_iconst C dX0_gather_1 ?_
  refine y_putIF C 0 qX0_gather_18 rfl rfl ft_0_3 sb_0_3 hM0 (PX.w hpr rfl rfl) dX0_gather_2 (fun M101 eM101 hM101 => ?_)
  refine j_aload_n C 0 0 dX0_gather_5 rfl rfl ?_
  refine j_aload_n C 0 0 dX0_gather_6 rfl rfl ?_
  refine y_getC C 0 88 fX0_gather_25 rfl rfl ft_0_0 sm_0_0 rfl hM101 dX0_gather_7 ?_
  refine j_callVi C (d := 0) (As := []) (st := [.ref (ad 95)]) 88 (s_lt rfl rfl) (s_kc (c := 4) rfl rfl) (by decide) rfl (s1_X5_everyKind hM101) gX0_gather_X5_everyKind rfl hdX5_everyKind (by decide) (Nat.le_of_ble_eq_true rfl) dX0_gather_10 rfl (fun r102 M103 h104 => ?_)
  obtain ⟨a106, rfl, rfl, h105⟩ := h104
  refine y_putIF C 0 qX0_gather_22 rfl rfl ft_0_4 sb_0_4 hM101 (PX.w hpr rfl rfl) dX0_gather_13 (fun M107 eM107 hM107 => ?_)
  refine y_iconst C dX0_gather_16 ?_
  refine j_istore_n C 2 [(2, .int (sI 0)), (0, .ref (ad 95)), (1, .ref (ad v1))] dX0_gather_17 rfl (by decide) rfl ?_
  have L758 : ∀ (n756 : Nat), ∀ (a759 : Int) (M760 : mm_M), (0 ≤ a759 ∧ a759 ≤ 256 ∧ (256 - a759) < (n756 : Int)) → INV pr Kz M760 → FX [95, 96] M0 M760 → jj p l e (cn_R 3) s m args below meth c 0 0 Q 3 dC dI ad cA A M760 18 [(0, .ref (ad 95)), (1, .ref (ad v1)), (2, .int (sI a759))] [] := by
    intro n756
    induction n756 with
    | zero =>
      intro a759 M760 h761 hM760 fM760
      exfalso; omega
    | succ n756 ih757 =>
      intro a759 M760 h761 hM760 fM760
      refine j_iload_n C 2 2 dX0_gather_18 rfl rfl ?_
      refine j_aload_n C 0 0 dX0_gather_19 rfl rfl ?_
      refine y_getC C 0 88 fX0_gather_25 rfl rfl ft_0_0 sm_0_0 rfl hM760 dX0_gather_20 ?_
      refine j_callVi C (d := 0) (As := []) (st := [.int (sI a759)]) 88 (s_lt rfl rfl) (s_kc (c := 4) rfl rfl) (by decide) rfl (s1_X5_everyKind hM760) gX0_gather_X5_everyKind rfl hdX5_everyKind (by decide) (Nat.le_of_ble_eq_true rfl) dX0_gather_23 rfl (fun r762 M763 h764 => ?_)
      obtain ⟨a766, rfl, rfl, h765⟩ := h764
      refine y_icmp_gt C 77 dX0_gather_26 (by decide) (by omega) (fun h767 => ?_) (fun h767 => ?_)
      · exact hret _ _ _ dX0_gather_77 ⟨hM760, (FX.rf.tr fM760 (by decide))⟩
      · refine j_aload_n C 0 0 dX0_gather_29 rfl rfl ?_
        refine y_getC C 0 96 fX0_gather_9 rfl rfl ft_0_1 sm_0_1 rfl hM760 dX0_gather_30 ?_
        refine j_iload_n C 2 2 dX0_gather_33 rfl rfl ?_
        refine j_aload_n C 0 0 dX0_gather_34 rfl rfl ?_
        refine j_iload_n C 2 2 dX0_gather_35 rfl rfl ?_
        refine j_aload_n C 1 1 dX0_gather_36 rfl rfl ?_
        refine j_callVi C (d := 2) (As := [.int (sI a759), .ref (ad v1)]) (st := [.int (sI a759), .ref (ad 96)]) 95 (s_lt rfl rfl) (s_kc (c := 0) rfl rfl) (by decide) rfl (s1_X0_behind hM760 a759 (by omega) cv1) gX0_gather_X0_behind rfl hdX0_behind (by decide) (Nat.le_of_ble_eq_true rfl) dX0_gather_37 rfl (fun r768 M769 h770 => ?_)
        obtain ⟨a772, rfl, rfl, h771⟩ := h770
        refine y_iastF C 43 256 rfl rfl rfl ak_43 an_43 rfl (sb_43 _) hM760 (PX.w hpr rfl rfl) dX0_gather_40 (by omega) (fun M773 eM773 hM773 => ?_)
        refine j_aload_n C 0 0 dX0_gather_41 rfl rfl ?_
        refine y_getC C 0 96 fX0_gather_9 rfl rfl ft_0_1 sm_0_1 rfl hM773 dX0_gather_42 ?_
        refine j_iload_n C 2 2 dX0_gather_45 rfl rfl ?_
        refine y_iald C 43 256 _ _ rfl rfl rfl ak_43 an_43 rfl (sb_43 _) hM773 dX0_gather_46 (by omega) (fun a774 ea774 la774 ua774 => ?_)
        refine y_iconst C dX0_gather_47 ?_
        refine y_icmp_eq C 71 dX0_gather_48 (by decide) (by omega) (fun h775 => ?_) (fun h775 => ?_)
        · refine y_iinc C 2 [(2, .int (sI (a759 + 1))), (0, .ref (ad 95)), (1, .ref (ad v1))] dX0_gather_71 rfl (by decide) rfl ?_
          refine j_goto C 18 dX0_gather_74 (by decide) ?_
          refine j_lv [1, 2, 0] rfl ?_; exact ih757 (a759 + 1) M773 (by omega) hM773 ((FX.rf.tr fM760 (by decide)).wI eM773 (by decide))
        · refine j_aload_n C 0 0 dX0_gather_51 rfl rfl ?_
          refine j_dup C dX0_gather_52 rfl ?_
          refine y_getI C 0 _ _ fX0_gather_18 rfl rfl ft_0_3 sb_0_3 hM773 dX0_gather_53 (fun a776 ea776 la776 ua776 => ?_)
          refine y_iconst C dX0_gather_56 ?_
          refine y_iadd0 C dX0_gather_57 (fun a778 la778 ua778 => ?_)
          refine y_putIF C 0 qX0_gather_18 rfl rfl ft_0_3 sb_0_3 hM773 (PX.w hpr rfl rfl) dX0_gather_58 (fun M779 eM779 hM779 => ?_)
          refine j_aload_n C 0 0 dX0_gather_61 rfl rfl ?_
          refine j_dup C dX0_gather_62 rfl ?_
          refine y_getI C 0 _ _ fX0_gather_22 rfl rfl ft_0_4 sb_0_4 hM779 dX0_gather_63 (fun a780 ea780 la780 ua780 => ?_)
          refine j_iload_n C 2 2 dX0_gather_66 rfl rfl ?_
          refine y_iandR C dX0_gather_67 (by omega) (fun a782 la782 ua782 => ?_)
          refine y_putIF C 0 qX0_gather_22 rfl rfl ft_0_4 sb_0_4 hM779 (PX.w hpr rfl rfl) dX0_gather_68 (fun M783 eM783 hM783 => ?_)
          refine y_iinc C 2 [(2, .int (sI (a759 + 1))), (0, .ref (ad 95)), (1, .ref (ad v1))] dX0_gather_71 rfl (by decide) rfl ?_
          refine j_goto C 18 dX0_gather_74 (by decide) ?_
          refine j_lv [1, 2, 0] rfl ?_; exact ih757 (a759 + 1) M783 (by omega) hM783 ((((FX.rf.tr fM760 (by decide)).wI eM773 (by decide)).wI eM779 (by decide)).wI eM783 (by decide))
  refine j_lv [1, 2, 0] rfl ?_; exact L758 2010 0 M107 (by omega) hM107 ((FX.rf.wI eM101 (by decide)).wI eM107 (by decide))
set_option maxHeartbeats 4000000 in
theorem s2_X11_seen {l : Launch} {dC : Nat → ClassId} {dI : Nat → Nat → Nat} {ad : Nat → Nat} {cA : Nat → ClassId} {pr : Nat → Nat → Bool} {Kz : mm_M} {M0 : mm_M} (hM0 : INV pr Kz M0) (hpr : PX pr) (a1 : Int) (ha1 : -2147483648 ≤ a1 ∧ a1 ≤ 2147483647) (gp : Nat) (cgp : s_c gp = 6) (egp : gp = M0.2.2 0 4) (hp0 : b01 (APX M0 gp) = 1) (hp1 : b01 (LAW M0 gp) = 1) (hp2 : b01 (PRR (rwX M0 gp 12)) = 1) (hp3 : (M0.1 12 3).toInt < pw2 (M0.1 12 0).toInt) : Ci l 6 yX11_seen wsX11_seen dC dI ad cA [.ref (ad 0), .int (sI a1)] M0 (fun r M' => ∃ a : Int, r = sI a ∧ INV pr Kz M' ∧ FX [81, 82, 83, 84, 85, 86, 88, 89, 90, 95, 96] M0 M' ∧ (-2147483648) ≤ a ∧ a ≤ 2147483647 ∧ (b01 (APX M' gp) = 1)) := by
  refine ci_of (cc := cX11_seen) (maxL := 3) (ty := .int) (lv := [(0, .ref (ad 0)), (1, .int (sI a1))]) (by decide) rfl (fun r M' hp => rfl) (Nat.le_of_ble_eq_true rfl) rfl ?_
  intro p e s m args below meth c A Q C hret
  refine j_aload_n C 0 0 dX11_seen_0 rfl rfl ?_
  refine j_iload_n C 1 1 dX11_seen_1 rfl rfl ?_
  refine j_callVi C (d := 2) (As := [.int (sI a1)]) (st := []) 0 (s_lt rfl rfl) (s_kc (c := 10) rfl rfl) (by decide) rfl (s1_X11_seenRefusal hM0 a1 (by omega)) gX11_seen_X11_seenRefusal rfl hdX11_seenRefusal (by decide) (Nat.le_of_ble_eq_true rfl) dX11_seen_2 rfl (fun r102 M103 h104 => ?_)
  obtain ⟨a106, rfl, rfl, h105⟩ := h104
  refine j_istore_n C 2 [(2, .int (sI a106)), (0, .ref (ad 0)), (1, .int (sI a1))] dX11_seen_5 rfl (by decide) rfl ?_
  refine j_iload_n C 0 2 dX11_seen_6 rfl rfl ?_
  refine y_if_eq C 12 dX11_seen_7 (by decide) (by omega) (fun h107 => ?_) (fun h107 => ?_)
  · refine j_aload_n C 1 0 dX11_seen_12 rfl rfl ?_
    refine y_getC C 10 88 fX11_seen_94 rfl rfl ft_10_14 sm_10_14 rfl hM0 dX11_seen_13 ?_
    refine j_aload_n C 1 0 dX11_seen_16 rfl rfl ?_
    refine y_getV C 10 gp fX11_seen_26 rfl rfl ft_10_4 (egp) dX11_seen_17 ?_
    refine j_aload_n C 1 0 dX11_seen_20 rfl rfl ?_
    refine y_getC C 10 12 fX11_seen_36 rfl rfl ft_10_6 sm_10_6 rfl hM0 dX11_seen_21 ?_
    refine j_callVv C (d := 5) (As := [.ref (ad gp), .ref (ad 12)]) (st := []) 88 (s_lt rfl rfl) (s_kc (c := 4) rfl rfl) (by decide) rfl (s2_X5_lookEverywhere hM0 hpr cgp (by omega) (by omega) (by omega) (by omega)) gX11_seen_X5_lookEverywhere rfl hdX5_lookEverywhere (by decide) (Nat.le_of_ble_eq_true rfl) dX11_seen_24 rfl (fun M110 h111 => ?_)
    obtain ⟨hM110, fM110, h112⟩ := h111
    have u113a := tn_a (M := M110) (p := gp) (f := rwX M0 gp 12) (by omega)
    refine j_aload_n C 1 0 dX11_seen_27 rfl rfl ?_
    refine y_getC C 10 95 fX11_seen_103 rfl rfl ft_10_15 sm_10_15 rfl hM110 dX11_seen_28 ?_
    refine j_aload_n C 1 0 dX11_seen_31 rfl rfl ?_
    refine y_getC C 10 50 fX11_seen_52 rfl rfl ft_10_9 sm_10_9 rfl hM110 dX11_seen_32 ?_
    refine j_iload_n C 2 1 dX11_seen_35 rfl rfl ?_
    refine y_aald C 28 4 9 rfl rfl rfl rfl an_28 rfl sma_28 sta_28 (by decide) hM110 dX11_seen_36 (by omega) (fun v114 cv114 => ?_)
    refine j_callVv C (d := 3) (As := [.ref (ad v114)]) (st := []) 95 (s_lt rfl rfl) (s_kc (c := 0) rfl rfl) (by decide) rfl (s2_X0_gather hM110 hpr cv114) gX11_seen_X0_gather rfl hdX0_gather (by decide) (Nat.le_of_ble_eq_true rfl) dX11_seen_37 rfl (fun M116 h117 => ?_)
    obtain ⟨hM116, fM116⟩ := h117
    refine j_aload_n C 1 0 dX11_seen_40 rfl rfl ?_
    refine y_getC C 10 95 fX11_seen_103 rfl rfl ft_10_15 sm_10_15 rfl hM116 dX11_seen_41 ?_
    refine y_getI C 0 _ _ fX11_seen_354 rfl rfl ft_0_3 sb_0_3 hM116 dX11_seen_44 (fun a119 ea119 la119 ua119 => ?_)
    have u121A7 := hM110.rd (i := gp) (c := 6) (k := 7) cgp (show s_b 6 7 = (0, 900) from rfl)
    have u121A9 := hM110.rd (i := gp) (c := 6) (k := 9) cgp (show s_b 6 9 = (0, 900) from rfl)
    have u121A := apx_o (M := M110) (N := M116) (p := gp) (ple_f (p := gp) ((FX.rf.tr fM116 (by decide)) : FX [95, 96] M110 M116) cgp (by decide)) (((FX.rf.tr fM116 (by decide)) : FX [95, 96] M110 M116).cell (by decide)) (((FX.rf.tr fM116 (by decide)) : FX [95, 96] M110 M116).cell (by decide)) (((FX.rf.tr fM116 (by decide)) : FX [95, 96] M110 M116).cell (by decide)) u121A7.1 u121A9.1 (by omega)
    exact hret _ _ _ _ dX11_seen_47 ⟨a119, rfl, hM116, ((FX.rf.tr fM110 (by decide)).tr fM116 (by decide)), by omega⟩
  · refine j_iload_n C 0 2 dX11_seen_10 rfl rfl ?_
    exact hret _ _ _ _ dX11_seen_11 ⟨a106, rfl, hM0, FX.rf, by omega⟩
set_option maxHeartbeats 4000000 in
theorem s2_X11_sureGone {l : Launch} {dC : Nat → ClassId} {dI : Nat → Nat → Nat} {ad : Nat → Nat} {cA : Nat → ClassId} {pr : Nat → Nat → Bool} {Kz : mm_M} {M0 : mm_M} (hM0 : INV pr Kz M0) (hpr : PX pr) (a1 : Int) (ha1 : -2147483648 ≤ a1 ∧ a1 ≤ 2147483647) (gp : Nat) (cgp : s_c gp = 6) (egp : gp = M0.2.2 0 4) (hp0 : b01 (APX M0 gp) = 1) (hp1 : b01 (LAW M0 gp) = 1) (hp2 : b01 (PRR (rwX M0 gp 12)) = 1) (hp3 : (M0.1 12 3).toInt < pw2 (M0.1 12 0).toInt) : Ci l 6 yX11_sureGone wsX11_sureGone dC dI ad cA [.ref (ad 0), .int (sI a1)] M0 (fun r M' => ∃ a : Int, r = sI a ∧ INV pr Kz M' ∧ FX [81, 82, 83, 84, 85, 86, 88, 89, 90, 95, 96] M0 M' ∧ (-2147483648) ≤ a ∧ a ≤ 2147483647 ∧ (b01 (APX M' gp) = 1)) := by
  refine ci_of (cc := cX11_sureGone) (maxL := 3) (ty := .int) (lv := [(0, .ref (ad 0)), (1, .int (sI a1))]) (by decide) rfl (fun r M' hp => rfl) (Nat.le_of_ble_eq_true rfl) rfl ?_
  intro p e s m args below meth c A Q C hret
  refine j_aload_n C 0 0 dX11_sureGone_0 rfl rfl ?_
  refine j_iload_n C 1 1 dX11_sureGone_1 rfl rfl ?_
  refine j_callVi C (d := 2) (As := [.int (sI a1)]) (st := []) 0 (s_lt rfl rfl) (s_kc (c := 10) rfl rfl) (by decide) rfl (s1_X11_seenRefusal hM0 a1 (by omega)) gX11_sureGone_X11_seenRefusal rfl hdX11_seenRefusal (by decide) (Nat.le_of_ble_eq_true rfl) dX11_sureGone_2 rfl (fun r102 M103 h104 => ?_)
  obtain ⟨a106, rfl, rfl, h105⟩ := h104
  refine j_istore_n C 2 [(2, .int (sI a106)), (0, .ref (ad 0)), (1, .int (sI a1))] dX11_sureGone_5 rfl (by decide) rfl ?_
  refine j_iload_n C 0 2 dX11_sureGone_6 rfl rfl ?_
  refine y_if_eq C 12 dX11_sureGone_7 (by decide) (by omega) (fun h107 => ?_) (fun h107 => ?_)
  · refine j_aload_n C 1 0 dX11_sureGone_12 rfl rfl ?_
    refine y_getC C 10 88 fX11_sureGone_94 rfl rfl ft_10_14 sm_10_14 rfl hM0 dX11_sureGone_13 ?_
    refine j_aload_n C 1 0 dX11_sureGone_16 rfl rfl ?_
    refine y_getV C 10 gp fX11_sureGone_26 rfl rfl ft_10_4 (egp) dX11_sureGone_17 ?_
    refine j_aload_n C 1 0 dX11_sureGone_20 rfl rfl ?_
    refine y_getC C 10 12 fX11_sureGone_36 rfl rfl ft_10_6 sm_10_6 rfl hM0 dX11_sureGone_21 ?_
    refine j_callVv C (d := 5) (As := [.ref (ad gp), .ref (ad 12)]) (st := []) 88 (s_lt rfl rfl) (s_kc (c := 4) rfl rfl) (by decide) rfl (s2_X5_lookEverywhere hM0 hpr cgp (by omega) (by omega) (by omega) (by omega)) gX11_sureGone_X5_lookEverywhere rfl hdX5_lookEverywhere (by decide) (Nat.le_of_ble_eq_true rfl) dX11_sureGone_24 rfl (fun M110 h111 => ?_)
    obtain ⟨hM110, fM110, h112⟩ := h111
    have u113a := tn_a (M := M110) (p := gp) (f := rwX M0 gp 12) (by omega)
    refine j_aload_n C 1 0 dX11_sureGone_27 rfl rfl ?_
    refine y_getC C 10 95 fX11_sureGone_103 rfl rfl ft_10_15 sm_10_15 rfl hM110 dX11_sureGone_28 ?_
    refine j_aload_n C 1 0 dX11_sureGone_31 rfl rfl ?_
    refine y_getC C 10 50 fX11_sureGone_52 rfl rfl ft_10_9 sm_10_9 rfl hM110 dX11_sureGone_32 ?_
    refine j_iload_n C 2 1 dX11_sureGone_35 rfl rfl ?_
    refine y_aald C 28 4 9 rfl rfl rfl rfl an_28 rfl sma_28 sta_28 (by decide) hM110 dX11_sureGone_36 (by omega) (fun v114 cv114 => ?_)
    refine j_callVv C (d := 3) (As := [.ref (ad v114)]) (st := []) 95 (s_lt rfl rfl) (s_kc (c := 0) rfl rfl) (by decide) rfl (s2_X0_gather hM110 hpr cv114) gX11_sureGone_X0_gather rfl hdX0_gather (by decide) (Nat.le_of_ble_eq_true rfl) dX11_sureGone_37 rfl (fun M116 h117 => ?_)
    obtain ⟨hM116, fM116⟩ := h117
    refine j_aload_n C 1 0 dX11_sureGone_40 rfl rfl ?_
    refine y_getC C 10 95 fX11_sureGone_103 rfl rfl ft_10_15 sm_10_15 rfl hM116 dX11_sureGone_41 ?_
    refine y_getI C 0 _ _ fX11_sureGone_354 rfl rfl ft_0_3 sb_0_3 hM116 dX11_sureGone_44 (fun a119 ea119 la119 ua119 => ?_)
    refine y_if_ne C 54 dX11_sureGone_47 (by decide) (by omega) (fun h121 => ?_) (fun h121 => ?_)
    · refine j_aload_n C 1 0 dX11_sureGone_54 rfl rfl ?_
      refine y_getC C 10 95 fX11_sureGone_103 rfl rfl ft_10_15 sm_10_15 rfl hM116 dX11_sureGone_55 ?_
      refine y_getI C 0 _ _ fX11_sureGone_357 rfl rfl ft_0_4 sb_0_4 hM116 dX11_sureGone_58 (fun a122 ea122 la122 ua122 => ?_)
      have u124A7 := hM110.rd (i := gp) (c := 6) (k := 7) cgp (show s_b 6 7 = (0, 900) from rfl)
      have u124A9 := hM110.rd (i := gp) (c := 6) (k := 9) cgp (show s_b 6 9 = (0, 900) from rfl)
      have u124A := apx_o (M := M110) (N := M116) (p := gp) (ple_f (p := gp) ((FX.rf.tr fM116 (by decide)) : FX [95, 96] M110 M116) cgp (by decide)) (((FX.rf.tr fM116 (by decide)) : FX [95, 96] M110 M116).cell (by decide)) (((FX.rf.tr fM116 (by decide)) : FX [95, 96] M110 M116).cell (by decide)) (((FX.rf.tr fM116 (by decide)) : FX [95, 96] M110 M116).cell (by decide)) u124A7.1 u124A9.1 (by omega)
      exact hret _ _ _ _ dX11_sureGone_61 ⟨a122, rfl, hM116, ((FX.rf.tr fM110 (by decide)).tr fM116 (by decide)), by omega⟩
    · refine y_iconst C dX11_sureGone_50 ?_
      refine j_goto C 61 dX11_sureGone_51 (by decide) ?_
      have u125A7 := hM110.rd (i := gp) (c := 6) (k := 7) cgp (show s_b 6 7 = (0, 900) from rfl)
      have u125A9 := hM110.rd (i := gp) (c := 6) (k := 9) cgp (show s_b 6 9 = (0, 900) from rfl)
      have u125A := apx_o (M := M110) (N := M116) (p := gp) (ple_f (p := gp) ((FX.rf.tr fM116 (by decide)) : FX [95, 96] M110 M116) cgp (by decide)) (((FX.rf.tr fM116 (by decide)) : FX [95, 96] M110 M116).cell (by decide)) (((FX.rf.tr fM116 (by decide)) : FX [95, 96] M110 M116).cell (by decide)) (((FX.rf.tr fM116 (by decide)) : FX [95, 96] M110 M116).cell (by decide)) u125A7.1 u125A9.1 (by omega)
      exact hret _ _ _ _ dX11_sureGone_61 ⟨0, rfl, hM116, ((FX.rf.tr fM110 (by decide)).tr fM116 (by decide)), by omega⟩
  · refine j_iload_n C 0 2 dX11_sureGone_10 rfl rfl ?_
    exact hret _ _ _ _ dX11_sureGone_11 ⟨a106, rfl, hM0, FX.rf, by omega⟩
set_option maxHeartbeats 4000000 in
theorem s7_J7_fill_53178 {l : Launch} {dC : Nat → ClassId} {dI : Nat → Nat → Nat} {ad : Nat → Nat} {cA : Nat → ClassId} {pr : Nat → Nat → Bool} {Kz : mm_M} {M0 : mm_M} (hM0 : INV pr Kz M0) (hpr : PX pr) (a1 : Int) (ha1 : -2147483648 ≤ a1 ∧ a1 ≤ 2147483647) : Cv l 0 yJ7_fill_53178 wsJ7_fill_53178 dC dI ad cA [.ref (ad 97), .int (sI a1)] M0 (fun M' => INV pr Kz M' ∧ FX [97] M0 M' ∧ (b01 (FIL M' 97 a1 10) = 1)) := by
  refine cv_of (cc := cJ7_fill_53178) (maxL := 4) (lv := [(0, .ref (ad 97)), (1, .int (sI a1))]) (by decide) rfl (Nat.le_of_ble_eq_true rfl) rfl ?_
  intro p e s m args below meth c A Q C hret
  refine y_iconst C dJ7_fill_53178_0 ?_
  refine j_istore_n C 2 [(2, .int (sI 0)), (0, .ref (ad 97)), (1, .int (sI a1))] dJ7_fill_53178_1 rfl (by decide) rfl ?_
  refine j_aload_n C 1 0 dJ7_fill_53178_2 rfl rfl ?_
  refine y_alen C 44 10 rfl rfl rfl an_44 rfl rfl dJ7_fill_53178_3 ?_
  refine j_istore_n C 3 [(3, .int (sI 10)), (2, .int (sI 0)), (0, .ref (ad 97)), (1, .int (sI a1))] dJ7_fill_53178_4 rfl (by decide) rfl ?_
  have u101z := fil_0 M0 97 a1
  have L170 : ∀ (n168 : Nat), ∀ (a171 : Int) (M172 : mm_M), (0 ≤ a171 ∧ a171 ≤ 10 ∧ (b01 (FIL M172 97 a1 a171) = 1) ∧ (10 - a171) < (n168 : Int)) → INV pr Kz M172 → FX [97] M0 M172 → jj p l e (cn_R 0) s m args below meth c 0 0 Q 4 dC dI ad cA A M172 5 [(0, .ref (ad 97)), (1, .int (sI a1)), (2, .int (sI a171)), (3, .int (sI 10))] [] := by
    intro n168
    induction n168 with
    | zero =>
      intro a171 M172 h173 hM172 fM172
      exfalso; omega
    | succ n168 ih169 =>
      intro a171 M172 h173 hM172 fM172
      refine j_iload_n C 2 2 dJ7_fill_53178_5 rfl rfl ?_
      refine j_iload_n C 3 3 dJ7_fill_53178_6 rfl rfl ?_
      refine y_icmp_ge C 20 dJ7_fill_53178_7 (by decide) (by omega) (fun h175 => ?_) (fun h175 => ?_)
      · have u178x : b01 (FIL M172 97 a1 10) = 1 := b01_i (fun k hk => b01_e (P := FIL M172 97 a1 a171) (by omega) k (by omega))
        exact hret _ _ _ dJ7_fill_53178_20 ⟨hM172, (FX.rf.tr fM172 (by decide)), by omega⟩
      · refine j_aload_n C 0 0 dJ7_fill_53178_10 rfl rfl ?_
        refine j_iload_n C 2 2 dJ7_fill_53178_11 rfl rfl ?_
        refine j_iload_n C 1 1 dJ7_fill_53178_12 rfl rfl ?_
        refine y_iastF C 44 10 rfl rfl rfl ak_44 an_44 rfl (sb_44 _) hM172 (PX.w hpr rfl rfl) dJ7_fill_53178_13 (by omega) (fun M176 eM176 hM176 => ?_)
        refine y_iinc C 2 [(2, .int (sI (a171 + 1))), (0, .ref (ad 97)), (1, .int (sI a1)), (3, .int (sI 10))] dJ7_fill_53178_14 rfl (by decide) rfl ?_
        refine j_goto C 5 dJ7_fill_53178_17 (by decide) ?_
        have u177z := fil_s (M := M172) (N := M176) (c := 97) (v := a1) (n := a171) (n' := (a171 + 1)) (by omega) eM176 (by omega)
        refine j_lv [1, 2, 0, 3] rfl ?_; exact ih169 (a171 + 1) M176 (by omega) hM176 ((FX.rf.tr fM172 (by decide)).wI eM176 (by decide))
  refine j_lv [2, 3, 1, 0] rfl ?_; exact L170 2010 0 M0 (by omega) hM0 FX.rf
set_option maxHeartbeats 4000000 in
theorem s2_X0_mostAlike {l : Launch} {dC : Nat → ClassId} {dI : Nat → Nat → Nat} {ad : Nat → Nat} {cA : Nat → ClassId} {pr : Nat → Nat → Bool} {Kz : mm_M} {M0 : mm_M} (hM0 : INV pr Kz M0) (hpr : PX pr) (a1 : Int) (ha1 : -2147483648 ≤ a1 ∧ a1 ≤ 2147483647) : Ci l 1 yX0_mostAlike wsX0_mostAlike dC dI ad cA [.ref (ad 95), .int (sI a1)] M0 (fun r M' => ∃ a : Int, r = sI a ∧ INV pr Kz M' ∧ FX [97] M0 M' ∧ 0 ≤ a ∧ a ≤ 2147483647) := by
  refine ci_of (cc := cX0_mostAlike) (maxL := 6) (ty := .int) (lv := [(0, .ref (ad 95)), (1, .int (sI a1))]) (by decide) rfl (fun r M' hp => rfl) (Nat.le_of_ble_eq_true rfl) rfl ?_
  intro p e s m args below meth c A Q C hret
  refine j_aload_n C 0 0 dX0_mostAlike_0 rfl rfl ?_
  refine y_getC C 0 97 fX0_mostAlike_15 rfl rfl ft_0_2 sm_0_2 rfl hM0 dX0_mostAlike_1 ?_
  refine y_iconst C dX0_mostAlike_4 ?_
  refine j_callSv C (d := 0) (As := [.ref (ad 97), .int (sI 0)]) (st := []) (s7_J7_fill_53178 hM0 hpr 0 (by omega)) gX0_mostAlike_J7_fill_53178 rfl hdJ7_fill_53178s (by decide) (Nat.le_of_ble_eq_true rfl) dX0_mostAlike_5 rfl (fun M102 h103 => ?_)
  obtain ⟨hM102, fM102, h104⟩ := h103
  refine y_iconst C dX0_mostAlike_8 ?_
  refine j_istore_n C 2 [(2, .int (sI 0)), (0, .ref (ad 95)), (1, .int (sI a1))] dX0_mostAlike_9 rfl (by decide) rfl ?_
  refine y_iconst C dX0_mostAlike_10 ?_
  refine j_istore_n C 3 [(3, .int (sI 0)), (2, .int (sI 0)), (0, .ref (ad 95)), (1, .int (sI a1))] dX0_mostAlike_11 rfl (by decide) rfl ?_
  have L809 : ∀ (n807 : Nat), ∀ (a810 : Int) (a811 : Int) (M812 : mm_M), (0 ≤ a810 ∧ a810 ≤ 2147483647 ∧ 0 ≤ a811 ∧ a811 ≤ 256 ∧ (256 - a811) < (n807 : Int)) → INV pr Kz M812 → FX [97] M0 M812 → jj p l e (cn_R 1) s m args below meth c 0 0 Q 6 dC dI ad cA A M812 12 [(0, .ref (ad 95)), (1, .int (sI a1)), (2, .int (sI a810)), (3, .int (sI a811))] [] := by
    intro n807
    induction n807 with
    | zero =>
      intro a810 a811 M812 h813 hM812 fM812
      exfalso; omega
    | succ n807 ih808 =>
      intro a810 a811 M812 h813 hM812 fM812
      refine j_iload_n C 3 3 dX0_mostAlike_12 rfl rfl ?_
      refine j_aload_n C 0 0 dX0_mostAlike_13 rfl rfl ?_
      refine y_getC C 0 88 fX0_mostAlike_25 rfl rfl ft_0_0 sm_0_0 rfl hM812 dX0_mostAlike_14 ?_
      refine j_callVi C (d := 0) (As := []) (st := [.int (sI a811)]) 88 (s_lt rfl rfl) (s_kc (c := 4) rfl rfl) (by decide) rfl (s1_X5_everyKind hM812) gX0_mostAlike_X5_everyKind rfl hdX5_everyKind (by decide) (Nat.le_of_ble_eq_true rfl) dX0_mostAlike_17 rfl (fun r814 M815 h816 => ?_)
      obtain ⟨a818, rfl, rfl, h817⟩ := h816
      refine y_icmp_gt C 92 dX0_mostAlike_20 (by decide) (by omega) (fun h819 => ?_) (fun h819 => ?_)
      · refine j_iload_n C 2 2 dX0_mostAlike_92 rfl rfl ?_
        exact hret _ _ _ _ dX0_mostAlike_93 ⟨a810, rfl, hM812, (FX.rf.tr fM812 (by decide)), by omega⟩
      · refine j_aload_n C 0 0 dX0_mostAlike_23 rfl rfl ?_
        refine y_getC C 0 96 fX0_mostAlike_9 rfl rfl ft_0_1 sm_0_1 rfl hM812 dX0_mostAlike_24 ?_
        refine j_iload_n C 3 3 dX0_mostAlike_27 rfl rfl ?_
        refine y_iald C 43 256 _ _ rfl rfl rfl ak_43 an_43 rfl (sb_43 _) hM812 dX0_mostAlike_28 (by omega) (fun a820 ea820 la820 ua820 => ?_)
        refine y_iconst C dX0_mostAlike_29 ?_
        refine y_icmp_eq C 86 dX0_mostAlike_30 (by decide) (by omega) (fun h821 => ?_) (fun h821 => ?_)
        · refine y_iinc C 3 [(3, .int (sI (a811 + 1))), (0, .ref (ad 95)), (1, .int (sI a1)), (2, .int (sI a810))] dX0_mostAlike_86 rfl (by decide) rfl ?_
          refine j_goto C 12 dX0_mostAlike_89 (by decide) ?_
          refine j_lv [1, 2, 3, 0] rfl ?_; exact ih808 a810 (a811 + 1) M812 (by omega) hM812 (FX.rf.tr fM812 (by decide))
        · refine j_aload_n C 0 0 dX0_mostAlike_33 rfl rfl ?_
          refine y_getC C 0 88 fX0_mostAlike_25 rfl rfl ft_0_0 sm_0_0 rfl hM812 dX0_mostAlike_34 ?_
          refine j_aload_n C 0 0 dX0_mostAlike_37 rfl rfl ?_
          refine y_getC C 0 96 fX0_mostAlike_9 rfl rfl ft_0_1 sm_0_1 rfl hM812 dX0_mostAlike_38 ?_
          refine j_iload_n C 3 3 dX0_mostAlike_41 rfl rfl ?_
          refine y_iald C 43 256 _ _ rfl rfl rfl ak_43 an_43 rfl (sb_43 _) hM812 dX0_mostAlike_42 (by omega) (fun a822 ea822 la822 ua822 => ?_)
          refine j_iload_n C 1 1 dX0_mostAlike_43 rfl rfl ?_
          refine j_callVi C (d := 0) (As := [.int (sI a822), .int (sI a1)]) (st := []) 88 (s_lt rfl rfl) (s_kc (c := 4) rfl rfl) (by decide) rfl (s1_X5_pick hM812 a822 (by omega) a1 (by omega)) gX0_mostAlike_X5_pick rfl hdX5_pick (by decide) (Nat.le_of_ble_eq_true rfl) dX0_mostAlike_44 rfl (fun r823 M824 h825 => ?_)
          obtain ⟨a827, rfl, rfl, h826⟩ := h825
          refine j_istore C 4 [(4, .int (sI a827)), (0, .ref (ad 95)), (1, .int (sI a1)), (2, .int (sI a810)), (3, .int (sI a811))] dX0_mostAlike_47 (by decide) rfl ?_
          refine j_iload C 0 dX0_mostAlike_49 rfl ?_
          have J830 : ∀ (a829 : Int), (0 ≤ a829 ∧ a829 ≤ 9) → jj p l e (cn_R 1) s m args below meth c 0 0 Q 6 dC dI ad cA A M812 61 [(0, .ref (ad 95)), (1, .int (sI a1)), (2, .int (sI a810)), (3, .int (sI a811))] [.int (sI a829)] := by
            intro a829 h831
            refine j_istore C 5 [(5, .int (sI a829)), (0, .ref (ad 95)), (1, .int (sI a1)), (2, .int (sI a810)), (3, .int (sI a811))] dX0_mostAlike_61 (by decide) rfl ?_
            refine j_aload_n C 1 0 dX0_mostAlike_63 rfl rfl ?_
            refine y_getC C 0 97 fX0_mostAlike_15 rfl rfl ft_0_2 sm_0_2 rfl hM812 dX0_mostAlike_64 ?_
            refine j_iload C 0 dX0_mostAlike_67 rfl ?_
            refine j_dup2 C dX0_mostAlike_69 rfl rfl ?_
            refine y_iald C 44 10 _ _ rfl rfl rfl ak_44 an_44 rfl (sb_44 _) hM812 dX0_mostAlike_70 (by omega) (fun a832 ea832 la832 ua832 => ?_)
            refine y_iconst C dX0_mostAlike_71 ?_
            refine y_iadd0 C dX0_mostAlike_72 (fun a833 la833 ua833 => ?_)
            refine y_iastF C 44 10 rfl rfl rfl ak_44 an_44 rfl (sb_44 _) hM812 (PX.w hpr rfl rfl) dX0_mostAlike_73 (by omega) (fun M834 eM834 hM834 => ?_)
            refine j_iload_n C 3 2 dX0_mostAlike_74 rfl rfl ?_
            refine j_aload_n C 1 0 dX0_mostAlike_75 rfl rfl ?_
            refine y_getC C 0 97 fX0_mostAlike_15 rfl rfl ft_0_2 sm_0_2 rfl hM834 dX0_mostAlike_76 ?_
            refine j_iload C 0 dX0_mostAlike_79 rfl ?_
            refine y_iald C 44 10 _ _ rfl rfl rfl ak_44 an_44 rfl (sb_44 _) hM834 dX0_mostAlike_81 (by omega) (fun a835 ea835 la835 ua835 => ?_)
            refine y_mmax C wX0_mostAlike_65_0 wX0_mostAlike_65_1 wX0_mostAlike_65_2 wX0_mostAlike_65_3 (by decide) (Nat.le_of_ble_eq_true rfl) dX0_mostAlike_82 (by omega) (fun a836 ha836 => ?_)
            refine j_istore_n C 2 [(2, .int (sI a836)), (5, .int (sI a829)), (0, .ref (ad 95)), (1, .int (sI a1)), (3, .int (sI a811))] dX0_mostAlike_85 rfl (by decide) rfl ?_
            refine y_iinc C 4 [(3, .int (sI (a811 + 1))), (2, .int (sI a836)), (5, .int (sI a829)), (0, .ref (ad 95)), (1, .int (sI a1))] dX0_mostAlike_86 rfl (by decide) rfl ?_
            refine j_goto C 12 dX0_mostAlike_89 (by decide) ?_
            refine j_lv [3, 4, 1, 0] rfl ?_; exact ih808 a836 (a811 + 1) M834 (by omega) hM834 ((FX.rf.tr fM812 (by decide)).wI eM834 (by decide))
          refine y_if_lt C 59 dX0_mostAlike_51 (by decide) (by omega) (fun h828 => ?_) (fun h828 => ?_)
          · refine y_bipush C dX0_mostAlike_59 rfl ?_
            refine j_lv [1, 2, 3, 4] rfl ?_; exact J830 9 (by omega)
          · refine j_iload C 0 dX0_mostAlike_54 rfl ?_
            refine j_goto C 61 dX0_mostAlike_56 (by decide) ?_
            refine j_lv [1, 2, 3, 4] rfl ?_; exact J830 a827 (by omega)
  refine j_lv [2, 3, 1, 0] rfl ?_; exact L809 4294967304 0 0 M102 (by omega) hM102 (FX.rf.tr fM102 (by decide))
set_option maxHeartbeats 4000000 in
theorem s2_X0_mostTelling {l : Launch} {dC : Nat → ClassId} {dI : Nat → Nat → Nat} {ad : Nat → Nat} {cA : Nat → ClassId} {pr : Nat → Nat → Bool} {Kz : mm_M} {M0 : mm_M} (hM0 : INV pr Kz M0) (hpr : PX pr)  : Ci l 2 yX0_mostTelling wsX0_mostTelling dC dI ad cA [.ref (ad 95)] M0 (fun r M' => ∃ a : Int, r = sI a ∧ INV pr Kz M' ∧ FX [97] M0 M' ∧ (-1) ≤ a ∧ a ≤ 5) := by
  refine ci_of (cc := cX0_mostTelling) (maxL := 5) (ty := .int) (lv := [(0, .ref (ad 95))]) (by decide) rfl (fun r M' hp => rfl) (Nat.le_of_ble_eq_true rfl) rfl ?_
  intro p e s m args below meth c A Q C hret
  refine y_iconst C dX0_mostTelling_0 ?_
  refine j_istore_n C 1 [(1, .int (sI (-1))), (0, .ref (ad 95))] dX0_mostTelling_1 rfl (by decide) rfl ?_
  refine y_sipush C dX0_mostTelling_2 rfl ?_
  refine j_istore_n C 2 [(2, .int (sI 257)), (1, .int (sI (-1))), (0, .ref (ad 95))] dX0_mostTelling_5 rfl (by decide) rfl ?_
  refine y_iconst C dX0_mostTelling_6 ?_
  refine j_istore_n C 3 [(3, .int (sI 0)), (2, .int (sI 257)), (1, .int (sI (-1))), (0, .ref (ad 95))] dX0_mostTelling_7 rfl (by decide) rfl ?_
  have L215 : ∀ (n213 : Nat), ∀ (a216 : Int) (a217 : Int) (a218 : Int) (M219 : mm_M), ((-1) ≤ a216 ∧ a216 ≤ 5 ∧ 0 ≤ a217 ∧ a217 ≤ 257 ∧ 0 ≤ a218 ∧ a218 ≤ 6 ∧ (6 - a218) < (n213 : Int)) → INV pr Kz M219 → FX [97] M0 M219 → jj p l e (cn_R 2) s m args below meth c 0 0 Q 5 dC dI ad cA A M219 8 [(0, .ref (ad 95)), (1, .int (sI a216)), (2, .int (sI a217)), (3, .int (sI a218))] [] := by
    intro n213
    induction n213 with
    | zero =>
      intro a216 a217 a218 M219 h220 hM219 fM219
      exfalso; omega
    | succ n213 ih214 =>
      intro a216 a217 a218 M219 h220 hM219 fM219
      refine j_iload_n C 3 3 dX0_mostTelling_8 rfl rfl ?_
      refine j_aload_n C 0 0 dX0_mostTelling_9 rfl rfl ?_
      refine y_getC C 0 88 fX0_mostTelling_25 rfl rfl ft_0_0 sm_0_0 rfl hM219 dX0_mostTelling_10 ?_
      refine j_callVi C (d := 0) (As := []) (st := [.int (sI a218)]) 88 (s_lt rfl rfl) (s_kc (c := 4) rfl rfl) (by decide) rfl (s1_X5_buyers hM219) gX0_mostTelling_X5_buyers rfl hdX5_buyers (by decide) (Nat.le_of_ble_eq_true rfl) dX0_mostTelling_13 rfl (fun r221 M222 h223 => ?_)
      obtain ⟨a225, rfl, rfl, h224⟩ := h223
      refine y_icmp_ge C 43 dX0_mostTelling_16 (by decide) (by omega) (fun h226 => ?_) (fun h226 => ?_)
      · refine j_iload_n C 1 1 dX0_mostTelling_43 rfl rfl ?_
        exact hret _ _ _ _ dX0_mostTelling_44 ⟨a216, rfl, hM219, (FX.rf.tr fM219 (by decide)), by omega⟩
      · refine j_aload_n C 0 0 dX0_mostTelling_19 rfl rfl ?_
        refine j_iload_n C 3 3 dX0_mostTelling_20 rfl rfl ?_
        refine j_callVi C (d := 1) (As := [.int (sI a218)]) (st := []) 95 (s_lt rfl rfl) (s_kc (c := 0) rfl rfl) (by decide) rfl (s2_X0_mostAlike hM219 hpr a218 (by omega)) gX0_mostTelling_X0_mostAlike rfl hdX0_mostAlike (by decide) (Nat.le_of_ble_eq_true rfl) dX0_mostTelling_21 rfl (fun r227 M228 h229 => ?_)
        obtain ⟨a231, rfl, hM228, fM228, h230⟩ := h229
        refine j_istore C 4 [(4, .int (sI a231)), (0, .ref (ad 95)), (1, .int (sI a216)), (2, .int (sI a217)), (3, .int (sI a218))] dX0_mostTelling_24 (by decide) rfl ?_
        refine j_iload C 0 dX0_mostTelling_26 rfl ?_
        refine j_iload_n C 3 2 dX0_mostTelling_28 rfl rfl ?_
        refine y_icmp_ge C 37 dX0_mostTelling_29 (by decide) (by omega) (fun h232 => ?_) (fun h232 => ?_)
        · refine y_iinc C 4 [(3, .int (sI (a218 + 1))), (4, .int (sI a231)), (0, .ref (ad 95)), (1, .int (sI a216)), (2, .int (sI a217))] dX0_mostTelling_37 rfl (by decide) rfl ?_
          refine j_goto C 8 dX0_mostTelling_40 (by decide) ?_
          refine j_lv [2, 3, 4, 0] rfl ?_; exact ih214 a216 a217 (a218 + 1) M228 (by omega) hM228 ((FX.rf.tr fM219 (by decide)).tr fM228 (by decide))
        · refine j_iload C 0 dX0_mostTelling_32 rfl ?_
          refine j_istore_n C 2 [(2, .int (sI a231)), (4, .int (sI a231)), (0, .ref (ad 95)), (1, .int (sI a216)), (3, .int (sI a218))] dX0_mostTelling_34 rfl (by decide) rfl ?_
          refine j_iload_n C 4 3 dX0_mostTelling_35 rfl rfl ?_
          refine j_istore_n C 1 [(1, .int (sI a218)), (2, .int (sI a231)), (4, .int (sI a231)), (0, .ref (ad 95)), (3, .int (sI a218))] dX0_mostTelling_36 rfl (by decide) rfl ?_
          refine y_iinc C 4 [(3, .int (sI (a218 + 1))), (1, .int (sI a218)), (2, .int (sI a231)), (4, .int (sI a231)), (0, .ref (ad 95))] dX0_mostTelling_37 rfl (by decide) rfl ?_
          refine j_goto C 8 dX0_mostTelling_40 (by decide) ?_
          refine j_lv [4, 1, 2, 0] rfl ?_; exact ih214 a218 a231 (a218 + 1) M228 (by omega) hM228 ((FX.rf.tr fM219 (by decide)).tr fM228 (by decide))
  refine j_lv [3, 2, 1, 0] rfl ?_; exact L215 2010 (-1) 257 0 M0 (by omega) hM0 FX.rf
set_option maxHeartbeats 4000000 in
theorem s2_X11_ask {l : Launch} {dC : Nat → ClassId} {dI : Nat → Nat → Nat} {ad : Nat → Nat} {cA : Nat → ClassId} {pr : Nat → Nat → Bool} {Kz : mm_M} {M0 : mm_M} (hM0 : INV pr Kz M0) (hpr : PX pr) (a1 : Int) (ha1 : -2147483648 ≤ a1 ∧ a1 ≤ 2147483647) (gp : Nat) (cgp : s_c gp = 6) (egp : gp = M0.2.2 0 4) (hp0 : b01 (APX M0 gp) = 1) (hp1 : b01 (LAW M0 gp) = 1) (hp2 : b01 (PRR (rwX M0 gp 12)) = 1) (hp3 : (M0.1 12 3).toInt < pw2 (M0.1 12 0).toInt) : Ci l 6 yX11_ask wsX11_ask dC dI ad cA [.ref (ad 0), .int (sI a1)] M0 (fun r M' => ∃ a : Int, r = sI a ∧ INV pr Kz M' ∧ FX [81, 82, 83, 84, 85, 86, 88, 89, 90, 95, 96, 97] M0 M' ∧ (-6) ≤ a ∧ a ≤ 5 ∧ (b01 (APX M' gp) = 1)) := by
  refine ci_of (cc := cX11_ask) (maxL := 3) (ty := .int) (lv := [(0, .ref (ad 0)), (1, .int (sI a1))]) (by decide) rfl (fun r M' hp => rfl) (Nat.le_of_ble_eq_true rfl) rfl ?_
  intro p e s m args below meth c A Q C hret
  refine j_aload_n C 0 0 dX11_ask_0 rfl rfl ?_
  refine j_iload_n C 1 1 dX11_ask_1 rfl rfl ?_
  refine j_callVi C (d := 2) (As := [.int (sI a1)]) (st := []) 0 (s_lt rfl rfl) (s_kc (c := 10) rfl rfl) (by decide) rfl (s1_X11_seenRefusal hM0 a1 (by omega)) gX11_ask_X11_seenRefusal rfl hdX11_seenRefusal (by decide) (Nat.le_of_ble_eq_true rfl) dX11_ask_2 rfl (fun r102 M103 h104 => ?_)
  obtain ⟨a106, rfl, rfl, h105⟩ := h104
  refine j_istore_n C 2 [(2, .int (sI a106)), (0, .ref (ad 0)), (1, .int (sI a1))] dX11_ask_5 rfl (by decide) rfl ?_
  refine j_iload_n C 0 2 dX11_ask_6 rfl rfl ?_
  refine y_if_eq C 12 dX11_ask_7 (by decide) (by omega) (fun h107 => ?_) (fun h107 => ?_)
  · refine j_aload_n C 1 0 dX11_ask_12 rfl rfl ?_
    refine y_getC C 10 88 fX11_ask_94 rfl rfl ft_10_14 sm_10_14 rfl hM0 dX11_ask_13 ?_
    refine j_aload_n C 1 0 dX11_ask_16 rfl rfl ?_
    refine y_getV C 10 gp fX11_ask_26 rfl rfl ft_10_4 (egp) dX11_ask_17 ?_
    refine j_aload_n C 1 0 dX11_ask_20 rfl rfl ?_
    refine y_getC C 10 12 fX11_ask_36 rfl rfl ft_10_6 sm_10_6 rfl hM0 dX11_ask_21 ?_
    refine j_callVv C (d := 5) (As := [.ref (ad gp), .ref (ad 12)]) (st := []) 88 (s_lt rfl rfl) (s_kc (c := 4) rfl rfl) (by decide) rfl (s2_X5_lookEverywhere hM0 hpr cgp (by omega) (by omega) (by omega) (by omega)) gX11_ask_X5_lookEverywhere rfl hdX5_lookEverywhere (by decide) (Nat.le_of_ble_eq_true rfl) dX11_ask_24 rfl (fun M110 h111 => ?_)
    obtain ⟨hM110, fM110, h112⟩ := h111
    have u113a := tn_a (M := M110) (p := gp) (f := rwX M0 gp 12) (by omega)
    refine j_aload_n C 1 0 dX11_ask_27 rfl rfl ?_
    refine y_getC C 10 95 fX11_ask_103 rfl rfl ft_10_15 sm_10_15 rfl hM110 dX11_ask_28 ?_
    refine j_aload_n C 1 0 dX11_ask_31 rfl rfl ?_
    refine y_getC C 10 50 fX11_ask_52 rfl rfl ft_10_9 sm_10_9 rfl hM110 dX11_ask_32 ?_
    refine j_iload_n C 2 1 dX11_ask_35 rfl rfl ?_
    refine y_aald C 28 4 9 rfl rfl rfl rfl an_28 rfl sma_28 sta_28 (by decide) hM110 dX11_ask_36 (by omega) (fun v114 cv114 => ?_)
    refine j_callVv C (d := 3) (As := [.ref (ad v114)]) (st := []) 95 (s_lt rfl rfl) (s_kc (c := 0) rfl rfl) (by decide) rfl (s2_X0_gather hM110 hpr cv114) gX11_ask_X0_gather rfl hdX0_gather (by decide) (Nat.le_of_ble_eq_true rfl) dX11_ask_37 rfl (fun M116 h117 => ?_)
    obtain ⟨hM116, fM116⟩ := h117
    refine j_aload_n C 1 0 dX11_ask_40 rfl rfl ?_
    refine y_getC C 10 95 fX11_ask_103 rfl rfl ft_10_15 sm_10_15 rfl hM116 dX11_ask_41 ?_
    refine y_getI C 0 _ _ fX11_ask_354 rfl rfl ft_0_3 sb_0_3 hM116 dX11_ask_44 (fun a119 ea119 la119 ua119 => ?_)
    refine y_if_ne C 54 dX11_ask_47 (by decide) (by omega) (fun h121 => ?_) (fun h121 => ?_)
    · refine j_aload_n C 1 0 dX11_ask_54 rfl rfl ?_
      refine y_getC C 10 95 fX11_ask_103 rfl rfl ft_10_15 sm_10_15 rfl hM116 dX11_ask_55 ?_
      refine j_callVi C (d := 2) (As := []) (st := []) 95 (s_lt rfl rfl) (s_kc (c := 0) rfl rfl) (by decide) rfl (s2_X0_mostTelling hM116 hpr) gX11_ask_X0_mostTelling rfl hdX0_mostTelling (by decide) (Nat.le_of_ble_eq_true rfl) dX11_ask_58 rfl (fun r122 M123 h124 => ?_)
      obtain ⟨a126, rfl, hM123, fM123, h125⟩ := h124
      have u127A7 := hM110.rd (i := gp) (c := 6) (k := 7) cgp (show s_b 6 7 = (0, 900) from rfl)
      have u127A9 := hM110.rd (i := gp) (c := 6) (k := 9) cgp (show s_b 6 9 = (0, 900) from rfl)
      have u127A := apx_o (M := M110) (N := M123) (p := gp) (ple_f (p := gp) (((FX.rf.tr fM116 (by decide)).tr fM123 (by decide)) : FX [95, 96, 97] M110 M123) cgp (by decide)) ((((FX.rf.tr fM116 (by decide)).tr fM123 (by decide)) : FX [95, 96, 97] M110 M123).cell (by decide)) ((((FX.rf.tr fM116 (by decide)).tr fM123 (by decide)) : FX [95, 96, 97] M110 M123).cell (by decide)) ((((FX.rf.tr fM116 (by decide)).tr fM123 (by decide)) : FX [95, 96, 97] M110 M123).cell (by decide)) u127A7.1 u127A9.1 (by omega)
      exact hret _ _ _ _ dX11_ask_61 ⟨a126, rfl, hM123, (((FX.rf.tr fM110 (by decide)).tr fM116 (by decide)).tr fM123 (by decide)), by omega⟩
    · refine y_iconst C dX11_ask_50 ?_
      refine j_goto C 61 dX11_ask_51 (by decide) ?_
      have u128A7 := hM110.rd (i := gp) (c := 6) (k := 7) cgp (show s_b 6 7 = (0, 900) from rfl)
      have u128A9 := hM110.rd (i := gp) (c := 6) (k := 9) cgp (show s_b 6 9 = (0, 900) from rfl)
      have u128A := apx_o (M := M110) (N := M116) (p := gp) (ple_f (p := gp) ((FX.rf.tr fM116 (by decide)) : FX [95, 96] M110 M116) cgp (by decide)) (((FX.rf.tr fM116 (by decide)) : FX [95, 96] M110 M116).cell (by decide)) (((FX.rf.tr fM116 (by decide)) : FX [95, 96] M110 M116).cell (by decide)) (((FX.rf.tr fM116 (by decide)) : FX [95, 96] M110 M116).cell (by decide)) u128A7.1 u128A9.1 (by omega)
      exact hret _ _ _ _ dX11_ask_61 ⟨(-1), rfl, hM116, ((FX.rf.tr fM110 (by decide)).tr fM116 (by decide)), by omega⟩
  · refine j_iload_n C 0 2 dX11_ask_10 rfl rfl ?_
    exact hret _ _ _ _ dX11_ask_11 ⟨a106, rfl, hM0, FX.rf, by omega⟩
set_option maxHeartbeats 4000000 in
theorem s2_X0_rows {l : Launch} {dC : Nat → ClassId} {dI : Nat → Nat → Nat} {ad : Nat → Nat} {cA : Nat → ClassId} {pr : Nat → Nat → Bool} {Kz : mm_M} {M0 : mm_M} (hM0 : INV pr Kz M0) (hpr : PX pr) {v1 : Nat} (cv1 : s_c v1 = 9) : Cj l 2 yX0_rows wsX0_rows dC dI ad cA [.ref (ad 95), .ref (ad v1)] M0 (fun r M' => ∃ a : Int, r = sJ a ∧ INV pr Kz M' ∧ FX [88, 92, 93] M0 M' ∧ (-9223372036854775808) ≤ a ∧ a ≤ 9223372036854775807) := by
  refine cj_of (cc := cX0_rows) (maxL := 3) (lv := [(0, .ref (ad 95)), (1, .ref (ad v1))]) (by decide) rfl (Nat.le_of_ble_eq_true rfl) rfl ?_
  intro p e s m args below meth c A Q C hret
  refine j_aload_n C 0 0 dX0_rows_0 rfl rfl ?_
  refine y_getC C 0 88 fX0_rows_25 rfl rfl ft_0_0 sm_0_0 rfl hM0 dX0_rows_1 ?_
  refine j_callVv C (d := 1) (As := []) (st := []) 88 (s_lt rfl rfl) (s_kc (c := 4) rfl rfl) (by decide) rfl (s2_X5_beginRows hM0 hpr) gX0_rows_X5_beginRows rfl hdX5_beginRows (by decide) (Nat.le_of_ble_eq_true rfl) dX0_rows_4 rfl (fun M102 h103 => ?_)
  obtain ⟨hM102, fM102⟩ := h103
  refine y_iconst C dX0_rows_7 ?_
  refine j_istore_n C 2 [(2, .int (sI 0)), (0, .ref (ad 95)), (1, .ref (ad v1))] dX0_rows_8 rfl (by decide) rfl ?_
  have L413 : ∀ (n411 : Nat), ∀ (a414 : Int) (M415 : mm_M), (0 ≤ a414 ∧ a414 ≤ 40 ∧ (40 - a414) < (n411 : Int)) → INV pr Kz M415 → FX [88, 92, 93] M0 M415 → jj p l e (cn_R 2) s m args below meth c 0 0 Q 3 dC dI ad cA A M415 9 [(0, .ref (ad 95)), (1, .ref (ad v1)), (2, .int (sI a414))] [] := by
    intro n411
    induction n411 with
    | zero =>
      intro a414 M415 h416 hM415 fM415
      exfalso; omega
    | succ n411 ih412 =>
      intro a414 M415 h416 hM415 fM415
      refine j_iload_n C 2 2 dX0_rows_9 rfl rfl ?_
      refine j_aload_n C 1 1 dX0_rows_10 rfl rfl ?_
      refine j_callVi C (d := 1) (As := []) (st := [.int (sI a414)]) v1 (s_lt cv1 rfl) (s_kc (c := 9) cv1 rfl) (by decide) rfl (s1_X10_size hM415 cv1) gX0_rows_X10_size rfl hdX10_size (by decide) (Nat.le_of_ble_eq_true rfl) dX0_rows_11 rfl (fun r417 M418 h419 => ?_)
      obtain ⟨a421, rfl, rfl, h420⟩ := h419
      refine y_icmp_ge C 36 dX0_rows_14 (by decide) (by omega) (fun h422 => ?_) (fun h422 => ?_)
      · refine j_aload_n C 0 0 dX0_rows_36 rfl rfl ?_
        refine y_getC C 0 88 fX0_rows_25 rfl rfl ft_0_0 sm_0_0 rfl hM415 dX0_rows_37 ?_
        refine j_callVj C (d := 0) (As := []) (st := []) 88 (s_lt rfl rfl) (s_kc (c := 4) rfl rfl) (by decide) rfl (s1_X5_allWays hM415) gX0_rows_X5_allWays rfl hdX5_allWays (by decide) (Nat.le_of_ble_eq_true rfl) dX0_rows_40 rfl (fun r433 M434 h435 => ?_)
        obtain ⟨a437, rfl, rfl, h436⟩ := h435
        exact hret _ _ _ _ dX0_rows_43 ⟨a437, rfl, hM415, (FX.rf.tr fM415 (by decide)), by omega⟩
      · refine j_aload_n C 0 0 dX0_rows_17 rfl rfl ?_
        refine y_getC C 0 88 fX0_rows_25 rfl rfl ft_0_0 sm_0_0 rfl hM415 dX0_rows_18 ?_
        refine j_aload_n C 1 1 dX0_rows_21 rfl rfl ?_
        refine j_iload_n C 2 2 dX0_rows_22 rfl rfl ?_
        refine j_callVj C (d := 1) (As := [.int (sI a414)]) (st := [.ref (ad 88)]) v1 (s_lt cv1 rfl) (s_kc (c := 9) cv1 rfl) (by decide) rfl (s1_X10_numberAt hM415 cv1 a414 (by omega)) gX0_rows_X10_numberAt rfl hdX10_numberAt (by decide) (Nat.le_of_ble_eq_true rfl) dX0_rows_23 rfl (fun r423 M424 h425 => ?_)
        obtain ⟨a427, rfl, rfl, h426⟩ := h425
        refine y_l2i C dX0_rows_26 ?_
        refine y_topI (fun a428 la428 ua428 => ?_)
        refine j_callVv C (d := 1) (As := [.int (sI a428)]) (st := []) 88 (s_lt rfl rfl) (s_kc (c := 4) rfl rfl) (by decide) rfl (s2_X5_lengthenRows hM415 hpr a428 (by omega)) gX0_rows_X5_lengthenRows rfl hdX5_lengthenRows (by decide) (Nat.le_of_ble_eq_true rfl) dX0_rows_27 rfl (fun M430 h431 => ?_)
        obtain ⟨hM430, fM430⟩ := h431
        refine y_iinc C 2 [(2, .int (sI (a414 + 1))), (0, .ref (ad 95)), (1, .ref (ad v1))] dX0_rows_30 rfl (by decide) rfl ?_
        refine j_goto C 9 dX0_rows_33 (by decide) ?_
        refine j_lv [1, 2, 0] rfl ?_; exact ih412 (a414 + 1) M430 (by omega) hM430 ((FX.rf.tr fM415 (by decide)).tr fM430 (by decide))
  refine j_lv [1, 2, 0] rfl ?_; exact L413 2010 0 M102 (by omega) hM102 (FX.rf.tr fM102 (by decide))
set_option maxHeartbeats 4000000 in
theorem s2_X11_came {l : Launch} {dC : Nat → ClassId} {dI : Nat → Nat → Nat} {ad : Nat → Nat} {cA : Nat → ClassId} {pr : Nat → Nat → Bool} {Kz : mm_M} {M0 : mm_M} (hM0 : INV pr Kz M0) (hpr : PX pr) (a1 : Int) (ha1 : -2147483648 ≤ a1 ∧ a1 ≤ 2147483647) (gp : Nat) (cgp : s_c gp = 6) (egp : gp = M0.2.2 0 4) (hp0 : b01 (APX M0 gp) = 1) (hp1 : b01 (LAW M0 gp) = 1) (hp2 : b01 (PRR (rwX M0 gp 12)) = 1) (hp3 : (M0.1 12 3).toInt < pw2 (M0.1 12 0).toInt) : Cj l 6 yX11_came wsX11_came dC dI ad cA [.ref (ad 0), .int (sI a1)] M0 (fun r M' => ∃ a : Int, r = sJ a ∧ INV pr Kz M' ∧ FX [81, 82, 83, 84, 85, 86, 88, 89, 90, 92, 93] M0 M' ∧ (-9223372036854775808) ≤ a ∧ a ≤ 9223372036854775807 ∧ (b01 (APX M' gp) = 1)) := by
  refine cj_of (cc := cX11_came) (maxL := 3) (lv := [(0, .ref (ad 0)), (1, .int (sI a1))]) (by decide) rfl (Nat.le_of_ble_eq_true rfl) rfl ?_
  intro p e s m args below meth c A Q C hret
  refine j_aload_n C 0 0 dX11_came_0 rfl rfl ?_
  refine j_iload_n C 1 1 dX11_came_1 rfl rfl ?_
  refine j_callVi C (d := 2) (As := [.int (sI a1)]) (st := []) 0 (s_lt rfl rfl) (s_kc (c := 10) rfl rfl) (by decide) rfl (s1_X11_cameRefusal hM0 a1 (by omega)) gX11_came_X11_cameRefusal rfl hdX11_cameRefusal (by decide) (Nat.le_of_ble_eq_true rfl) dX11_came_2 rfl (fun r102 M103 h104 => ?_)
  obtain ⟨a106, rfl, rfl, h105⟩ := h104
  refine j_istore_n C 2 [(2, .int (sI a106)), (0, .ref (ad 0)), (1, .int (sI a1))] dX11_came_5 rfl (by decide) rfl ?_
  refine j_iload_n C 0 2 dX11_came_6 rfl rfl ?_
  refine y_if_eq C 13 dX11_came_7 (by decide) (by omega) (fun h107 => ?_) (fun h107 => ?_)
  · refine j_aload_n C 1 0 dX11_came_13 rfl rfl ?_
    refine y_getC C 10 88 fX11_came_94 rfl rfl ft_10_14 sm_10_14 rfl hM0 dX11_came_14 ?_
    refine j_aload_n C 1 0 dX11_came_17 rfl rfl ?_
    refine y_getV C 10 gp fX11_came_26 rfl rfl ft_10_4 (egp) dX11_came_18 ?_
    refine j_aload_n C 1 0 dX11_came_21 rfl rfl ?_
    refine y_getC C 10 12 fX11_came_36 rfl rfl ft_10_6 sm_10_6 rfl hM0 dX11_came_22 ?_
    refine j_aload_n C 1 0 dX11_came_25 rfl rfl ?_
    refine y_getC C 10 12 fX11_came_36 rfl rfl ft_10_6 sm_10_6 rfl hM0 dX11_came_26 ?_
    refine y_getI C 8 _ _ fX11_came_153 rfl rfl ft_8_4 sb_8_4 hM0 dX11_came_29 (fun a108 ea108 la108 ua108 => ?_)
    refine j_callVv C (d := 5) (As := [.ref (ad gp), .ref (ad 12), .int (sI a108)]) (st := []) 88 (s_lt rfl rfl) (s_kc (c := 4) rfl rfl) (by decide) rfl (s2_X5_look hM0 hpr cgp a108 (by omega) (by omega) (by omega) (by omega) (by omega) (by omega)) gX11_came_X5_look rfl hdX5_look (by decide) (Nat.le_of_ble_eq_true rfl) dX11_came_32 rfl (fun M112 h113 => ?_)
    obtain ⟨hM112, fM112, h114⟩ := h113
    have u115a := tn_a (M := M112) (p := gp) (f := rwX M0 gp 12) (by omega)
    refine j_aload_n C 1 0 dX11_came_35 rfl rfl ?_
    refine y_getC C 10 95 fX11_came_103 rfl rfl ft_10_15 sm_10_15 rfl hM112 dX11_came_36 ?_
    refine j_aload_n C 1 0 dX11_came_39 rfl rfl ?_
    refine y_getC C 10 50 fX11_came_52 rfl rfl ft_10_9 sm_10_9 rfl hM112 dX11_came_40 ?_
    refine j_iload_n C 2 1 dX11_came_43 rfl rfl ?_
    refine y_aald C 28 4 9 rfl rfl rfl rfl an_28 rfl sma_28 sta_28 (by decide) hM112 dX11_came_44 (by omega) (fun v116 cv116 => ?_)
    refine j_callVj C (d := 2) (As := [.ref (ad v116)]) (st := []) 95 (s_lt rfl rfl) (s_kc (c := 0) rfl rfl) (by decide) rfl (s2_X0_rows hM112 hpr cv116) gX11_came_X0_rows rfl hdX0_rows (by decide) (Nat.le_of_ble_eq_true rfl) dX11_came_45 rfl (fun r117 M118 h119 => ?_)
    obtain ⟨a121, rfl, hM118, fM118, h120⟩ := h119
    have u122A7 := hM112.rd (i := gp) (c := 6) (k := 7) cgp (show s_b 6 7 = (0, 900) from rfl)
    have u122A9 := hM112.rd (i := gp) (c := 6) (k := 9) cgp (show s_b 6 9 = (0, 900) from rfl)
    have u122A := apx_o (M := M112) (N := M118) (p := gp) (ple_f (p := gp) ((FX.rf.tr fM118 (by decide)) : FX [88, 92, 93] M112 M118) cgp (by decide)) (((FX.rf.tr fM118 (by decide)) : FX [88, 92, 93] M112 M118).cell (by decide)) (((FX.rf.tr fM118 (by decide)) : FX [88, 92, 93] M112 M118).cell (by decide)) (((FX.rf.tr fM118 (by decide)) : FX [88, 92, 93] M112 M118).cell (by decide)) u122A7.1 u122A9.1 (by omega)
    exact hret _ _ _ _ dX11_came_48 ⟨a121, rfl, hM118, ((FX.rf.tr fM112 (by decide)).tr fM118 (by decide)), by omega⟩
  · refine j_iload_n C 0 2 dX11_came_10 rfl rfl ?_
    refine y_i2l C dX11_came_11 (by omega) ?_
    exact hret _ _ _ _ dX11_came_12 ⟨a106, rfl, hM0, FX.rf, by omega⟩
set_option maxHeartbeats 4000000 in
theorem s8_J7_fill_53178 {l : Launch} {dC : Nat → ClassId} {dI : Nat → Nat → Nat} {ad : Nat → Nat} {cA : Nat → ClassId} {pr : Nat → Nat → Bool} {Kz : mm_M} {M0 : mm_M} (hM0 : INV pr Kz M0) (hpr : PX pr) (a1 : Int) (ha1 : -2147483648 ≤ a1 ∧ a1 ≤ 2147483647) : Cv l 0 yJ7_fill_53178 wsJ7_fill_53178 dC dI ad cA [.ref (ad 96), .int (sI a1)] M0 (fun M' => INV pr Kz M' ∧ FX [96] M0 M' ∧ (b01 (FIL M' 96 a1 256) = 1)) := by
  refine cv_of (cc := cJ7_fill_53178) (maxL := 4) (lv := [(0, .ref (ad 96)), (1, .int (sI a1))]) (by decide) rfl (Nat.le_of_ble_eq_true rfl) rfl ?_
  intro p e s m args below meth c A Q C hret
  refine y_iconst C dJ7_fill_53178_0 ?_
  refine j_istore_n C 2 [(2, .int (sI 0)), (0, .ref (ad 96)), (1, .int (sI a1))] dJ7_fill_53178_1 rfl (by decide) rfl ?_
  refine j_aload_n C 1 0 dJ7_fill_53178_2 rfl rfl ?_
  refine y_alen C 43 256 rfl rfl rfl an_43 rfl rfl dJ7_fill_53178_3 ?_
  refine j_istore_n C 3 [(3, .int (sI 256)), (2, .int (sI 0)), (0, .ref (ad 96)), (1, .int (sI a1))] dJ7_fill_53178_4 rfl (by decide) rfl ?_
  have u101z := fil_0 M0 96 a1
  have L266 : ∀ (n264 : Nat), ∀ (a267 : Int) (M268 : mm_M), (0 ≤ a267 ∧ a267 ≤ 256 ∧ (b01 (FIL M268 96 a1 a267) = 1) ∧ (256 - a267) < (n264 : Int)) → INV pr Kz M268 → FX [96] M0 M268 → jj p l e (cn_R 0) s m args below meth c 0 0 Q 4 dC dI ad cA A M268 5 [(0, .ref (ad 96)), (1, .int (sI a1)), (2, .int (sI a267)), (3, .int (sI 256))] [] := by
    intro n264
    induction n264 with
    | zero =>
      intro a267 M268 h269 hM268 fM268
      exfalso; omega
    | succ n264 ih265 =>
      intro a267 M268 h269 hM268 fM268
      refine j_iload_n C 2 2 dJ7_fill_53178_5 rfl rfl ?_
      refine j_iload_n C 3 3 dJ7_fill_53178_6 rfl rfl ?_
      refine y_icmp_ge C 20 dJ7_fill_53178_7 (by decide) (by omega) (fun h271 => ?_) (fun h271 => ?_)
      · have u274x : b01 (FIL M268 96 a1 256) = 1 := b01_i (fun k hk => b01_e (P := FIL M268 96 a1 a267) (by omega) k (by omega))
        exact hret _ _ _ dJ7_fill_53178_20 ⟨hM268, (FX.rf.tr fM268 (by decide)), by omega⟩
      · refine j_aload_n C 0 0 dJ7_fill_53178_10 rfl rfl ?_
        refine j_iload_n C 2 2 dJ7_fill_53178_11 rfl rfl ?_
        refine j_iload_n C 1 1 dJ7_fill_53178_12 rfl rfl ?_
        refine y_iastF C 43 256 rfl rfl rfl ak_43 an_43 rfl (sb_43 _) hM268 (PX.w hpr rfl rfl) dJ7_fill_53178_13 (by omega) (fun M272 eM272 hM272 => ?_)
        refine y_iinc C 2 [(2, .int (sI (a267 + 1))), (0, .ref (ad 96)), (1, .int (sI a1)), (3, .int (sI 256))] dJ7_fill_53178_14 rfl (by decide) rfl ?_
        refine j_goto C 5 dJ7_fill_53178_17 (by decide) ?_
        have u273z := fil_s (M := M268) (N := M272) (c := 96) (v := a1) (n := a267) (n' := (a267 + 1)) (by omega) eM272 (by omega)
        refine j_lv [1, 2, 0, 3] rfl ?_; exact ih265 (a267 + 1) M272 (by omega) hM272 ((FX.rf.tr fM268 (by decide)).wI eM272 (by decide))
  refine j_lv [2, 3, 1, 0] rfl ?_; exact L266 2010 0 M0 (by omega) hM0 FX.rf
set_option maxHeartbeats 4000000 in
theorem s2_X0_stepBack {l : Launch} {dC : Nat → ClassId} {dI : Nat → Nat → Nat} {ad : Nat → Nat} {cA : Nat → ClassId} {pr : Nat → Nat → Bool} {Kz : mm_M} {M0 : mm_M} (hM0 : INV pr Kz M0) (hpr : PX pr) (a1 : Int) (ha1 : -2147483648 ≤ a1 ∧ a1 ≤ 2147483647) : Cv l 2 yX0_stepBack wsX0_stepBack dC dI ad cA [.ref (ad 95), .int (sI a1)] M0 (fun M' => INV pr Kz M' ∧ FX [96] M0 M') := by
  refine cv_of (cc := cX0_stepBack) (maxL := 3) (lv := [(0, .ref (ad 95)), (1, .int (sI a1))]) (by decide) rfl (Nat.le_of_ble_eq_true rfl) rfl ?_
  intro p e s m args below meth c A Q C hret
  refine y_iconst C dX0_stepBack_0 ?_
  refine j_istore_n C 2 [(2, .int (sI 0)), (0, .ref (ad 95)), (1, .int (sI a1))] dX0_stepBack_1 rfl (by decide) rfl ?_
  have L724 : ∀ (n722 : Nat), ∀ (a725 : Int) (M726 : mm_M), (0 ≤ a725 ∧ a725 ≤ 256 ∧ (256 - a725) < (n722 : Int)) → INV pr Kz M726 → FX [96] M0 M726 → jj p l e (cn_R 2) s m args below meth c 0 0 Q 3 dC dI ad cA A M726 2 [(0, .ref (ad 95)), (1, .int (sI a1)), (2, .int (sI a725))] [] := by
    intro n722
    induction n722 with
    | zero =>
      intro a725 M726 h727 hM726 fM726
      exfalso; omega
    | succ n722 ih723 =>
      intro a725 M726 h727 hM726 fM726
      refine j_iload_n C 2 2 dX0_stepBack_2 rfl rfl ?_
      refine j_aload_n C 0 0 dX0_stepBack_3 rfl rfl ?_
      refine y_getC C 0 88 fX0_stepBack_25 rfl rfl ft_0_0 sm_0_0 rfl hM726 dX0_stepBack_4 ?_
      refine j_callVi C (d := 0) (As := []) (st := [.int (sI a725)]) 88 (s_lt rfl rfl) (s_kc (c := 4) rfl rfl) (by decide) rfl (s1_X5_everyKind hM726) gX0_stepBack_X5_everyKind rfl hdX5_everyKind (by decide) (Nat.le_of_ble_eq_true rfl) dX0_stepBack_7 rfl (fun r728 M729 h730 => ?_)
      obtain ⟨a732, rfl, rfl, h731⟩ := h730
      refine y_icmp_gt C 50 dX0_stepBack_10 (by decide) (by omega) (fun h733 => ?_) (fun h733 => ?_)
      · exact hret _ _ _ dX0_stepBack_50 ⟨hM726, (FX.rf.tr fM726 (by decide))⟩
      · refine j_aload_n C 0 0 dX0_stepBack_13 rfl rfl ?_
        refine y_getC C 0 96 fX0_stepBack_9 rfl rfl ft_0_1 sm_0_1 rfl hM726 dX0_stepBack_14 ?_
        refine j_iload_n C 2 2 dX0_stepBack_17 rfl rfl ?_
        refine j_aload_n C 0 0 dX0_stepBack_18 rfl rfl ?_
        refine y_getC C 0 88 fX0_stepBack_25 rfl rfl ft_0_0 sm_0_0 rfl hM726 dX0_stepBack_19 ?_
        refine j_iload_n C 2 2 dX0_stepBack_22 rfl rfl ?_
        refine j_callVi C (d := 0) (As := [.int (sI a725)]) (st := [.int (sI a725), .ref (ad 96)]) 88 (s_lt rfl rfl) (s_kc (c := 4) rfl rfl) (by decide) rfl (s1_X5_isMet hM726 a725 (by omega) (by omega)) gX0_stepBack_X5_isMet rfl hdX5_isMet (by decide) (Nat.le_of_ble_eq_true rfl) dX0_stepBack_23 rfl (fun r734 M735 h736 => ?_)
        obtain ⟨a738, rfl, rfl, h737⟩ := h736
        refine y_if_eq C 42 dX0_stepBack_26 (by decide) (by omega) (fun h739 => ?_) (fun h739 => ?_)
        · refine y_iconst C dX0_stepBack_42 ?_
          refine y_iastF C 43 256 rfl rfl rfl ak_43 an_43 rfl (sb_43 _) hM726 (PX.w hpr rfl rfl) dX0_stepBack_43 (by omega) (fun M740 eM740 hM740 => ?_)
          refine y_iinc C 2 [(2, .int (sI (a725 + 1))), (0, .ref (ad 95)), (1, .int (sI a1))] dX0_stepBack_44 rfl (by decide) rfl ?_
          refine j_goto C 2 dX0_stepBack_47 (by decide) ?_
          refine j_lv [1, 2, 0] rfl ?_; exact ih723 (a725 + 1) M740 (by omega) hM740 ((FX.rf.tr fM726 (by decide)).wI eM740 (by decide))
        · refine j_aload_n C 0 0 dX0_stepBack_29 rfl rfl ?_
          refine j_iload_n C 2 2 dX0_stepBack_30 rfl rfl ?_
          refine j_iload_n C 1 1 dX0_stepBack_31 rfl rfl ?_
          refine j_callVi C (d := 1) (As := [.int (sI a725), .int (sI a1)]) (st := [.int (sI a725), .ref (ad 96)]) 95 (s_lt rfl rfl) (s_kc (c := 0) rfl rfl) (by decide) rfl (s1_X0_fitting hM726 a725 (by omega) a1 (by omega) (by omega)) gX0_stepBack_X0_fitting rfl hdX0_fitting (by decide) (Nat.le_of_ble_eq_true rfl) dX0_stepBack_32 rfl (fun r741 M742 h743 => ?_)
          obtain ⟨a745, rfl, rfl, h744⟩ := h743
          refine y_if_eq C 42 dX0_stepBack_35 (by decide) (by omega) (fun h746 => ?_) (fun h746 => ?_)
          · refine y_iconst C dX0_stepBack_42 ?_
            refine y_iastF C 43 256 rfl rfl rfl ak_43 an_43 rfl (sb_43 _) hM726 (PX.w hpr rfl rfl) dX0_stepBack_43 (by omega) (fun M747 eM747 hM747 => ?_)
            refine y_iinc C 2 [(2, .int (sI (a725 + 1))), (0, .ref (ad 95)), (1, .int (sI a1))] dX0_stepBack_44 rfl (by decide) rfl ?_
            refine j_goto C 2 dX0_stepBack_47 (by decide) ?_
            refine j_lv [1, 2, 0] rfl ?_; exact ih723 (a725 + 1) M747 (by omega) hM747 ((FX.rf.tr fM726 (by decide)).wI eM747 (by decide))
          · refine y_iconst C dX0_stepBack_38 ?_
            refine j_goto C 43 dX0_stepBack_39 (by decide) ?_
            refine y_iastF C 43 256 rfl rfl rfl ak_43 an_43 rfl (sb_43 _) hM726 (PX.w hpr rfl rfl) dX0_stepBack_43 (by omega) (fun M748 eM748 hM748 => ?_)
            refine y_iinc C 2 [(2, .int (sI (a725 + 1))), (0, .ref (ad 95)), (1, .int (sI a1))] dX0_stepBack_44 rfl (by decide) rfl ?_
            refine j_goto C 2 dX0_stepBack_47 (by decide) ?_
            refine j_lv [1, 2, 0] rfl ?_; exact ih723 (a725 + 1) M748 (by omega) hM748 ((FX.rf.tr fM726 (by decide)).wI eM748 (by decide))
  refine j_lv [1, 2, 0] rfl ?_; exact L724 2010 0 M0 (by omega) hM0 FX.rf
set_option maxHeartbeats 4000000 in
theorem s2_X0_comers {l : Launch} {dC : Nat → ClassId} {dI : Nat → Nat → Nat} {ad : Nat → Nat} {cA : Nat → ClassId} {pr : Nat → Nat → Bool} {Kz : mm_M} {M0 : mm_M} (hM0 : INV pr Kz M0) (hpr : PX pr) {v1 : Nat} (cv1 : s_c v1 = 9) (a2 : Int) (ha2 : -2147483648 ≤ a2 ∧ a2 ≤ 2147483647) : Ci l 3 yX0_comers wsX0_comers dC dI ad cA [.ref (ad 95), .ref (ad v1), .int (sI a2)] M0 (fun r M' => ∃ a : Int, r = sI a ∧ INV pr Kz M' ∧ FX [88, 92, 93, 96] M0 M' ∧ 0 ≤ a ∧ a ≤ 63) := by
  refine ci_of (cc := cX0_comers) (maxL := 5) (ty := .int) (lv := [(0, .ref (ad 95)), (1, .ref (ad v1)), (2, .int (sI a2))]) (by decide) rfl (fun r M' hp => rfl) (Nat.le_of_ble_eq_true rfl) rfl ?_
  intro p e s m args below meth c A Q C hret
  refine j_aload_n C 0 0 dX0_comers_0 rfl rfl ?_
  refine y_getC C 0 96 fX0_comers_9 rfl rfl ft_0_1 sm_0_1 rfl hM0 dX0_comers_1 ?_
  refine y_iconst C dX0_comers_4 ?_
  refine j_callSv C (d := 0) (As := [.ref (ad 96), .int (sI 1)]) (st := []) (s8_J7_fill_53178 hM0 hpr 1 (by omega)) gX0_comers_J7_fill_53178 rfl hdJ7_fill_53178s (by decide) (Nat.le_of_ble_eq_true rfl) dX0_comers_5 rfl (fun M102 h103 => ?_)
  obtain ⟨hM102, fM102, h104⟩ := h103
  refine j_aload_n C 1 1 dX0_comers_8 rfl rfl ?_
  refine j_callVi C (d := 1) (As := []) (st := []) v1 (s_lt cv1 rfl) (s_kc (c := 9) cv1 rfl) (by decide) rfl (s1_X10_size hM102 cv1) gX0_comers_X10_size rfl hdX10_size (by decide) (Nat.le_of_ble_eq_true rfl) dX0_comers_9 rfl (fun r105 M106 h107 => ?_)
  obtain ⟨a109, rfl, rfl, h108⟩ := h107
  refine y_iconst C dX0_comers_12 ?_
  refine y_isub C dX0_comers_13 ?_
  refine j_istore_n C 3 [(3, .int (sI (a109 - 1))), (0, .ref (ad 95)), (1, .ref (ad v1)), (2, .int (sI a2))] dX0_comers_14 rfl (by decide) rfl ?_
  have L164 : ∀ (n162 : Nat), ∀ (a165 : Int) (M166 : mm_M), ((-2147483648) ≤ a165 ∧ a165 ≤ 39 ∧ (a165 - (-2147483648)) < (n162 : Int)) → INV pr Kz M166 → FX [88, 92, 93, 96] M0 M166 → jj p l e (cn_R 3) s m args below meth c 0 0 Q 5 dC dI ad cA A M166 15 [(0, .ref (ad 95)), (1, .ref (ad v1)), (2, .int (sI a2)), (3, .int (sI a165))] [] := by
    intro n162
    induction n162 with
    | zero =>
      intro a165 M166 h167 hM166 fM166
      exfalso; omega
    | succ n162 ih163 =>
      intro a165 M166 h167 hM166 fM166
      refine j_iload_n C 3 3 dX0_comers_15 rfl rfl ?_
      refine j_iload_n C 2 2 dX0_comers_16 rfl rfl ?_
      refine y_icmp_le C 36 dX0_comers_17 (by decide) (by omega) (fun h168 => ?_) (fun h168 => ?_)
      · refine j_aload_n C 0 0 dX0_comers_36 rfl rfl ?_
        refine y_getC C 0 88 fX0_comers_25 rfl rfl ft_0_0 sm_0_0 rfl hM166 dX0_comers_37 ?_
        refine j_callVv C (d := 1) (As := []) (st := []) 88 (s_lt rfl rfl) (s_kc (c := 4) rfl rfl) (by decide) rfl (s2_X5_beginRows hM166 hpr) gX0_comers_X5_beginRows rfl hdX5_beginRows (by decide) (Nat.le_of_ble_eq_true rfl) dX0_comers_40 rfl (fun M180 h181 => ?_)
        obtain ⟨hM180, fM180⟩ := h181
        refine y_iconst C dX0_comers_43 ?_
        refine j_istore_n C 3 [(3, .int (sI 0)), (0, .ref (ad 95)), (1, .ref (ad v1)), (2, .int (sI a2))] dX0_comers_44 rfl (by decide) rfl ?_
        have L627 : ∀ (n625 : Nat), ∀ (a628 : Int) (M629 : mm_M), (0 ≤ a628 ∧ a628 ≤ 2147483647 ∧ (2147483647 - a628) < (n625 : Int)) → INV pr Kz M629 → FX [88, 92, 93, 96] M0 M629 → jj p l e (cn_R 3) s m args below meth c 0 0 Q 5 dC dI ad cA A M629 45 [(0, .ref (ad 95)), (1, .ref (ad v1)), (2, .int (sI a2)), (3, .int (sI a628))] [] := by
          intro n625
          induction n625 with
          | zero =>
            intro a628 M629 h630 hM629 fM629
            exfalso; omega
          | succ n625 ih626 =>
            intro a628 M629 h630 hM629 fM629
            refine j_iload_n C 3 3 dX0_comers_45 rfl rfl ?_
            refine j_iload_n C 2 2 dX0_comers_46 rfl rfl ?_
            refine y_icmp_ge C 69 dX0_comers_47 (by decide) (by omega) (fun h631 => ?_) (fun h631 => ?_)
            · refine y_iconst C dX0_comers_69 ?_
              refine j_istore_n C 3 [(3, .int (sI 0)), (0, .ref (ad 95)), (1, .ref (ad v1)), (2, .int (sI a2))] dX0_comers_70 rfl (by decide) rfl ?_
              refine y_iconst C dX0_comers_71 ?_
              refine j_istore C 4 [(4, .int (sI 0)), (3, .int (sI 0)), (0, .ref (ad 95)), (1, .ref (ad v1)), (2, .int (sI a2))] dX0_comers_72 (by decide) rfl ?_
              have L1346 : ∀ (n1344 : Nat), ∀ (a1347 : Int) (a1348 : Int), (0 ≤ a1347 ∧ a1347 ≤ 63 ∧ 0 ≤ a1348 ∧ a1348 ≤ 256 ∧ (256 - a1348) < (n1344 : Int)) → jj p l e (cn_R 3) s m args below meth c 0 0 Q 5 dC dI ad cA A M629 74 [(0, .ref (ad 95)), (1, .ref (ad v1)), (2, .int (sI a2)), (3, .int (sI a1347)), (4, .int (sI a1348))] [] := by
                intro n1344
                induction n1344 with
                | zero =>
                  intro a1347 a1348 h1349
                  exfalso; omega
                | succ n1344 ih1345 =>
                  intro a1347 a1348 h1349
                  refine j_iload C 4 dX0_comers_74 rfl ?_
                  refine j_aload_n C 0 0 dX0_comers_76 rfl rfl ?_
                  refine y_getC C 0 88 fX0_comers_25 rfl rfl ft_0_0 sm_0_0 rfl hM629 dX0_comers_77 ?_
                  refine j_callVi C (d := 0) (As := []) (st := [.int (sI a1348)]) 88 (s_lt rfl rfl) (s_kc (c := 4) rfl rfl) (by decide) rfl (s1_X5_everyKind hM629) gX0_comers_X5_everyKind rfl hdX5_everyKind (by decide) (Nat.le_of_ble_eq_true rfl) dX0_comers_80 rfl (fun r1350 M1351 h1352 => ?_)
                  obtain ⟨a1354, rfl, rfl, h1353⟩ := h1352
                  refine y_icmp_gt C 119 dX0_comers_83 (by decide) (by omega) (fun h1355 => ?_) (fun h1355 => ?_)
                  · refine j_iload_n C 3 3 dX0_comers_119 rfl rfl ?_
                    exact hret _ _ _ _ dX0_comers_120 ⟨a1347, rfl, hM629, (FX.rf.tr fM629 (by decide)), by omega⟩
                  · refine j_aload_n C 0 0 dX0_comers_86 rfl rfl ?_
                    refine y_getC C 0 88 fX0_comers_25 rfl rfl ft_0_0 sm_0_0 rfl hM629 dX0_comers_87 ?_
                    refine j_iload C 4 dX0_comers_90 rfl ?_
                    refine j_callVi C (d := 0) (As := [.int (sI a1348)]) (st := []) 88 (s_lt rfl rfl) (s_kc (c := 4) rfl rfl) (by decide) rfl (s1_X5_isOnRow hM629 a1348 (by omega) (by omega)) gX0_comers_X5_isOnRow rfl hdX5_isOnRow (by decide) (Nat.le_of_ble_eq_true rfl) dX0_comers_92 rfl (fun r1356 M1357 h1358 => ?_)
                    obtain ⟨a1360, rfl, rfl, h1359⟩ := h1358
                    refine y_if_eq C 113 dX0_comers_95 (by decide) (by omega) (fun h1361 => ?_) (fun h1361 => ?_)
                    · refine y_iinc C 4 [(4, .int (sI (a1348 + 1))), (0, .ref (ad 95)), (1, .ref (ad v1)), (2, .int (sI a2)), (3, .int (sI a1347))] dX0_comers_113 rfl (by decide) rfl ?_
                      refine j_goto C 74 dX0_comers_116 (by decide) ?_
                      refine j_lv [1, 2, 3, 4, 0] rfl ?_; exact ih1345 a1347 (a1348 + 1) (by omega)
                    · refine j_iload_n C 3 3 dX0_comers_98 rfl rfl ?_
                      refine j_aload_n C 0 0 dX0_comers_99 rfl rfl ?_
                      refine j_iload C 4 dX0_comers_100 rfl ?_
                      refine j_aload_n C 1 1 dX0_comers_102 rfl rfl ?_
                      refine j_iload_n C 2 2 dX0_comers_103 rfl rfl ?_
                      refine j_callVj C (d := 1) (As := [.int (sI a2)]) (st := [.int (sI a1348), .ref (ad 95), .int (sI a1347)]) v1 (s_lt cv1 rfl) (s_kc (c := 9) cv1 rfl) (by decide) rfl (s1_X10_numberAt hM629 cv1 a2 (by omega)) gX0_comers_X10_numberAt rfl hdX10_numberAt (by decide) (Nat.le_of_ble_eq_true rfl) dX0_comers_104 rfl (fun r1362 M1363 h1364 => ?_)
                      obtain ⟨a1366, rfl, rfl, h1365⟩ := h1364
                      refine y_l2i C dX0_comers_107 ?_
                      refine y_topI (fun a1367 la1367 ua1367 => ?_)
                      refine j_callVi C (d := 1) (As := [.int (sI a1348), .int (sI a1367)]) (st := [.int (sI a1347)]) 95 (s_lt rfl rfl) (s_kc (c := 0) rfl rfl) (by decide) rfl (s1_X0_fitting hM629 a1348 (by omega) a1367 (by omega) (by omega)) gX0_comers_X0_fitting rfl hdX0_fitting (by decide) (Nat.le_of_ble_eq_true rfl) dX0_comers_108 rfl (fun r1368 M1369 h1370 => ?_)
                      obtain ⟨a1372, rfl, rfl, h1371⟩ := h1370
                      refine y_iorN C 6 63 dX0_comers_111 rfl (by decide) (by omega) (fun a1373 la1373 ua1373 => ?_)
                      refine j_istore_n C 3 [(3, .int (sI a1373)), (0, .ref (ad 95)), (1, .ref (ad v1)), (2, .int (sI a2)), (4, .int (sI a1348))] dX0_comers_112 rfl (by decide) rfl ?_
                      refine y_iinc C 4 [(4, .int (sI (a1348 + 1))), (3, .int (sI a1373)), (0, .ref (ad 95)), (1, .ref (ad v1)), (2, .int (sI a2))] dX0_comers_113 rfl (by decide) rfl ?_
                      refine j_goto C 74 dX0_comers_116 (by decide) ?_
                      refine j_lv [2, 3, 4, 1, 0] rfl ?_; exact ih1345 a1373 (a1348 + 1) (by omega)
              refine j_lv [2, 3, 4, 1, 0] rfl ?_; exact L1346 2010 0 0 (by omega)
            · refine j_aload_n C 0 0 dX0_comers_50 rfl rfl ?_
              refine y_getC C 0 88 fX0_comers_25 rfl rfl ft_0_0 sm_0_0 rfl hM629 dX0_comers_51 ?_
              refine j_aload_n C 1 1 dX0_comers_54 rfl rfl ?_
              refine j_iload_n C 3 3 dX0_comers_55 rfl rfl ?_
              refine j_callVj C (d := 1) (As := [.int (sI a628)]) (st := [.ref (ad 88)]) v1 (s_lt cv1 rfl) (s_kc (c := 9) cv1 rfl) (by decide) rfl (s1_X10_numberAt hM629 cv1 a628 (by omega)) gX0_comers_X10_numberAt rfl hdX10_numberAt (by decide) (Nat.le_of_ble_eq_true rfl) dX0_comers_56 rfl (fun r632 M633 h634 => ?_)
              obtain ⟨a636, rfl, rfl, h635⟩ := h634
              refine y_l2i C dX0_comers_59 ?_
              refine y_topI (fun a637 la637 ua637 => ?_)
              refine j_callVv C (d := 1) (As := [.int (sI a637)]) (st := []) 88 (s_lt rfl rfl) (s_kc (c := 4) rfl rfl) (by decide) rfl (s2_X5_lengthenRows hM629 hpr a637 (by omega)) gX0_comers_X5_lengthenRows rfl hdX5_lengthenRows (by decide) (Nat.le_of_ble_eq_true rfl) dX0_comers_60 rfl (fun M639 h640 => ?_)
              obtain ⟨hM639, fM639⟩ := h640
              refine y_iinc C 3 [(3, .int (sI (a628 + 1))), (0, .ref (ad 95)), (1, .ref (ad v1)), (2, .int (sI a2))] dX0_comers_63 rfl (by decide) rfl ?_
              refine j_goto C 45 dX0_comers_66 (by decide) ?_
              refine j_lv [1, 2, 3, 0] rfl ?_; exact ih626 (a628 + 1) M639 (by omega) hM639 ((FX.rf.tr fM629 (by decide)).tr fM639 (by decide))
        refine j_lv [1, 2, 3, 0] rfl ?_; exact L627 4294967304 0 M180 (by omega) hM180 ((FX.rf.tr fM166 (by decide)).tr fM180 (by decide))
      · refine j_aload_n C 0 0 dX0_comers_20 rfl rfl ?_
        refine j_aload_n C 1 1 dX0_comers_21 rfl rfl ?_
        refine j_iload_n C 3 3 dX0_comers_22 rfl rfl ?_
        refine j_callVj C (d := 1) (As := [.int (sI a165)]) (st := [.ref (ad 95)]) v1 (s_lt cv1 rfl) (s_kc (c := 9) cv1 rfl) (by decide) rfl (s1_X10_numberAt hM166 cv1 a165 (by omega)) gX0_comers_X10_numberAt rfl hdX10_numberAt (by decide) (Nat.le_of_ble_eq_true rfl) dX0_comers_23 rfl (fun r169 M170 h171 => ?_)
        obtain ⟨a173, rfl, rfl, h172⟩ := h171
        refine y_l2i C dX0_comers_26 ?_
        refine y_topI (fun a174 la174 ua174 => ?_)
        refine j_callVv C (d := 2) (As := [.int (sI a174)]) (st := []) 95 (s_lt rfl rfl) (s_kc (c := 0) rfl rfl) (by decide) rfl (s2_X0_stepBack hM166 hpr a174 (by omega)) gX0_comers_X0_stepBack rfl hdX0_stepBack (by decide) (Nat.le_of_ble_eq_true rfl) dX0_comers_27 rfl (fun M176 h177 => ?_)
        obtain ⟨hM176, fM176⟩ := h177
        refine y_iinc C 3 [(3, .int (sI (a165 + (-1)))), (0, .ref (ad 95)), (1, .ref (ad v1)), (2, .int (sI a2))] dX0_comers_30 rfl (by decide) rfl ?_
        refine j_goto C 15 dX0_comers_33 (by decide) ?_
        refine j_lv [1, 2, 3, 0] rfl ?_; exact ih163 (a165 + (-1)) M176 (by omega) hM176 ((FX.rf.tr fM166 (by decide)).tr fM176 (by decide))
  refine j_lv [1, 2, 3, 0] rfl ?_; exact L164 4294967306 (a109 - 1) M102 (by omega) hM102 (FX.rf.tr fM102 (by decide))
