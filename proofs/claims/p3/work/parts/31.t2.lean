set_option maxHeartbeats 4000000 in
theorem s1_X11_shop {l : Launch} {dC : Nat → ClassId} {dI : Nat → Nat → Nat} {ad : Nat → Nat} {cA : Nat → ClassId} {pr : Nat → Nat → Bool} {Kz : mm_M} {M0 : mm_M} (hM0 : INV pr Kz M0) (hpr : PX pr) (hq7_3 : ∀ i, s_c i = 7 → pr i 3 = false) (hq7_4 : ∀ i, s_c i = 7 → pr i 4 = false) (hq6_0 : ∀ i, s_c i = 6 → pr i 0 = false) (hq6_1 : ∀ i, s_c i = 6 → pr i 1 = false) (hq8_0 : ∀ i, s_c i = 8 → pr i 0 = false) (hq10_1 : ∀ i, s_c i = 10 → pr i 1 = false) (hq10_2 : ∀ i, s_c i = 10 → pr i 2 = false) (hq10_3 : ∀ i, s_c i = 10 → pr i 3 = false) (hq10_4 : ∀ i, s_c i = 10 → pr i 4 = false) (hq10_5 : ∀ i, s_c i = 10 → pr i 5 = false) (a1 : Int) (ha1 : -2147483648 ≤ a1 ∧ a1 ≤ 2147483647) : Ci l 29 yX11_shop wsX11_shop dC dI ad cA [.ref (ad 0), .int (sI a1)] M0 (fun r M' => ∃ a : Int, r = sI a ∧ INV pr Kz M' ∧ (-2147483648) ≤ a ∧ a ≤ 2147483647 ∧ (0 ≤ a1 ∧ a1 ≤ (M0.1 0 1).toInt ∧ (M'.1 0 1).toInt = 0 ∧ (M'.1 0 2).toInt = (rdP (mskT (M0.1 1) a1) a1).1 ∧ ((rdP (mskT (M0.1 1) a1) a1).1 = 0 ∧ (M'.1 0 3).toInt = -1 ∧ a = (rdP (mskT (M0.1 1) a1) a1).2.2 ∨ ¬ (rdP (mskT (M0.1 1) a1) a1).1 = 0 ∧ (M'.1 0 3).toInt = (rdP (mskT (M0.1 1) a1) a1).2.1 ∧ a = -30 - (rdP (mskT (M0.1 1) a1) a1).1) ∨ (a1 < 0 ∨ (M0.1 0 1).toInt < a1) ∧ a = -3 ∧ (M'.1 0 1).toInt = (M0.1 0 1).toInt ∧ (M'.1 0 2).toInt = (M0.1 0 2).toInt ∧ (M'.1 0 3).toInt = (M0.1 0 3).toInt)) := by
  refine ci_of (cc := cX11_shop) (maxL := 3) (ty := .int) (lv := [(0, .ref (ad 0)), (1, .int (sI a1))]) (by decide) rfl (fun r M' hp => rfl) (Nat.le_of_ble_eq_true rfl) rfl ?_
  intro p e s m args below meth c A Q C hret
  refine j_iload_n C 1 1 dX11_shop_0 rfl rfl ?_
  refine y_if_lt C 12 dX11_shop_1 (by decide) (by omega) (fun h101 => ?_) (fun h101 => ?_)
  · refine y_bipush C dX11_shop_12 rfl ?_
    exact hret _ _ _ _ dX11_shop_14 ⟨(-3), rfl, hM0, by omega⟩
  · refine j_iload_n C 1 1 dX11_shop_4 rfl rfl ?_
    refine j_aload_n C 0 0 dX11_shop_5 rfl rfl ?_
    refine y_getI C 10 _ _ fX11_shop_13 rfl rfl ft_10_1 sb_10_1 hM0 dX11_shop_6 (fun a102 ea102 la102 ua102 => ?_)
    refine y_icmp_le C 15 dX11_shop_9 (by decide) (by omega) (fun h104 => ?_) (fun h104 => ?_)
    · refine j_aload_n C 0 0 dX11_shop_15 rfl rfl ?_
      refine y_getC C 10 78 fX11_shop_67 rfl rfl ft_10_11 sm_10_11 rfl hM0 dX11_shop_16 ?_
      refine j_aload_n C 0 0 dX11_shop_19 rfl rfl ?_
      refine y_getC C 10 1 fX11_shop_9 rfl rfl ft_10_0 sm_10_0 rfl hM0 dX11_shop_20 ?_
      refine j_iload_n C 1 1 dX11_shop_23 rfl rfl ?_
      refine j_aload_n C 0 0 dX11_shop_24 rfl rfl ?_
      refine y_getM C 10 6 fX11_shop_30 rfl rfl ft_10_5 sm_10_5 (by decide) hM0 dX11_shop_25 (fun v105 ev105 cv105 => ?_)
      refine j_aload_n C 0 0 dX11_shop_28 rfl rfl ?_
      refine y_getC C 10 15 fX11_shop_40 rfl rfl ft_10_7 sm_10_7 rfl hM0 dX11_shop_29 ?_
      have u106t := tp_0 M0 a1
      obtain ⟨prz107, Kzz107, hprz107, hz107, hnez107, hbkz107⟩ := fzXs [10] hpr hM0
      refine j_callVv C (d := 28) (As := [.ref (ad 1), .int (sI a1), .ref (ad v105), .ref (ad 15)]) (st := []) 78 (s_lt rfl rfl) (s_kc (c := 7) rfl rfl) (by decide) rfl (s1_X8_read hz107 hprz107 (fun i h => hnez107 i 3 (by rw [h]; rfl) (hq7_3 i h)) (fun i h => hnez107 i 4 (by rw [h]; rfl) (hq7_4 i h)) (fun i h => hnez107 i 0 (by rw [h]; rfl) (hq6_0 i h)) (fun i h => hnez107 i 1 (by rw [h]; rfl) (hq6_1 i h)) (fun i h => hnez107 i 0 (by rw [h]; rfl) (hq8_0 i h)) a1 (by omega) cv105 rfl (mskT (M0.1 1) a1) a1 (by omega) (by omega) (by omega)) gX11_shop_X8_read rfl hdX8_read (by decide) (Nat.le_of_ble_eq_true rfl) dX11_shop_32 rfl (fun M109 h110 => ?_)
      obtain ⟨hM109, h111⟩ := h110
      have zbM109 := (hbkz107 _ hM109).2
      have hM109 := (hbkz107 _ hM109).1
      have u1121 := congrArg Int32.toInt (zbM109 0 1 rfl rfl).1
      have u1122 := congrArg Int32.toInt (zbM109 0 2 rfl rfl).1
      have u1123 := congrArg Int32.toInt (zbM109 0 3 rfl rfl).1
      have u112s := (zbM109 0 5 rfl rfl).2
      refine j_aload_n C 0 0 dX11_shop_35 rfl rfl ?_
      refine y_iconst C dX11_shop_36 ?_
      refine y_putI C 10 _ _ qX11_shop_13 rfl rfl ft_10_1 sb_10_1 hM109 (hq10_1 _ rfl) dX11_shop_37 (by omega) (fun M113 eM113 hM113 => ?_)
      refine j_aload_n C 0 0 dX11_shop_40 rfl rfl ?_
      refine j_aload_n C 0 0 dX11_shop_41 rfl rfl ?_
      refine y_getC C 10 78 fX11_shop_67 rfl rfl ft_10_11 sm_10_11 rfl hM113 dX11_shop_42 ?_
      refine y_getI C 7 _ _ fX11_shop_117 rfl rfl ft_7_5 sb_7_5 hM113 dX11_shop_45 (fun a114 ea114 la114 ua114 => ?_)
      have qa114 : a114 = (M109.1 78 5).toInt := s_fa eM113 (by decide) (ea114)
      refine y_putIF C 10 qX11_shop_17 rfl rfl ft_10_2 sb_10_2 hM113 (hq10_2 _ rfl) dX11_shop_48 (fun M116 eM116 hM116 => ?_)
      refine j_aload_n C 0 0 dX11_shop_51 rfl rfl ?_
      refine j_aload_n C 0 0 dX11_shop_52 rfl rfl ?_
      refine y_getC C 10 78 fX11_shop_67 rfl rfl ft_10_11 sm_10_11 rfl hM116 dX11_shop_53 ?_
      refine y_getI C 7 _ _ fX11_shop_120 rfl rfl ft_7_6 sb_7_6 hM116 dX11_shop_56 (fun a117 ea117 la117 ua117 => ?_)
      have qa117 : a117 = (M109.1 78 6).toInt := s_fa eM113 (by decide) (s_fa eM116 (by decide) (ea117))
      refine y_putIF C 10 qX11_shop_20 rfl rfl ft_10_3 sb_10_3 hM116 (hq10_3 _ rfl) dX11_shop_59 (fun M119 eM119 hM119 => ?_)
      refine j_aload_n C 0 0 dX11_shop_62 rfl rfl ?_
      refine y_getI C 10 _ _ fX11_shop_17 rfl rfl ft_10_2 sb_10_2 hM119 dX11_shop_63 (fun a120 ea120 la120 ua120 => ?_)
      have qa120 : a120 = (M116.1 0 2).toInt := s_fb eM119 (by decide) (ea120)
      have zz0_2 := (Eq.trans (s_fb eM119 (by decide) (rfl) : (M119.1 0 2).toInt = (M116.1 0 2).toInt) (s_wr eM116 (by omega)))
      refine y_if_eq C 77 dX11_shop_66 (by decide) (by omega) (fun h123 => ?_) (fun h123 => ?_)
      · refine j_aload_n C 0 0 dX11_shop_77 rfl rfl ?_
        refine y_getM C 10 6 fX11_shop_26 rfl rfl ft_10_4 sm_10_4 (by decide) hM119 dX11_shop_78 (fun v124 ev124 cv124 => ?_)
        refine j_astore_n C 2 [(2, .ref (ad v124)), (0, .ref (ad 0)), (1, .int (sI a1))] dX11_shop_81 rfl (by decide) rfl ?_
        refine j_aload_n C 1 0 dX11_shop_82 rfl rfl ?_
        refine j_aload_n C 1 0 dX11_shop_83 rfl rfl ?_
        refine y_getM C 10 6 fX11_shop_30 rfl rfl ft_10_5 sm_10_5 (by decide) hM119 dX11_shop_84 (fun v125 ev125 cv125 => ?_)
        refine y_putP C 10 6 qX11_shop_26 rfl rfl rfl rfl ft_10_4 sm_10_4 (by decide) hM119 (hq10_4 _ rfl) cv125 dX11_shop_87 (fun M126 eM126 hM126 => ?_)
        refine j_aload_n C 1 0 dX11_shop_90 rfl rfl ?_
        refine j_aload_n C 0 2 dX11_shop_91 rfl rfl ?_
        refine y_putP C 10 6 qX11_shop_30 rfl rfl rfl rfl ft_10_5 sm_10_5 (by decide) hM126 (hq10_5 _ rfl) cv124 dX11_shop_92 (fun M127 eM127 hM127 => ?_)
        refine j_aload_n C 1 0 dX11_shop_95 rfl rfl ?_
        refine y_getC C 10 15 fX11_shop_40 rfl rfl ft_10_7 sm_10_7 rfl hM127 dX11_shop_96 ?_
        refine j_aload_n C 1 0 dX11_shop_99 rfl rfl ?_
        refine y_getC C 10 12 fX11_shop_36 rfl rfl ft_10_6 sm_10_6 rfl hM127 dX11_shop_100 ?_
        refine y_getI C 8 _ _ fX11_shop_121 rfl rfl ft_8_7 sb_8_7 hM127 dX11_shop_103 (fun a128 ea128 la128 ua128 => ?_)
        have qa128 : a128 = (M109.1 12 7).toInt := s_fa eM113 (by decide) (s_fa eM116 (by decide) (s_fa eM119 (by decide) (s_fP eM126 (s_fP eM127 (ea128)))))
        refine y_putIF C 8 qX11_shop_121 rfl rfl ft_8_7 sb_8_7 hM127 (PX.w hpr rfl rfl) dX11_shop_106 (fun M130 eM130 hM130 => ?_)
        have u131z : M119.2.2 0 5 = M109.2.2 0 5 := by rw [eM119, eM116, eM113]
        have u131l : (M130.1 v105 1).toInt = (M109.1 v105 1).toInt := s_fa eM113 (s_ne (c := 6) (d := 10) cv105 rfl (by decide)) (s_fa eM116 (s_ne (c := 6) (d := 10) cv105 rfl (by decide)) (s_fa eM119 (s_ne (c := 6) (d := 10) cv105 rfl (by decide)) (s_fP eM126 (s_fP eM127 (s_fa eM130 (s_ne (c := 6) (d := 8) cv105 rfl (by decide)) (rfl))))))
        have u131p : v125 = M130.2.2 0 4 := s_pI eM130 (s_pP eM127 (by decide) (s_pW eM126))
        have u131q : v125 = v105 := by omega
        have zz0_1 := (Eq.trans (s_fb eM116 (by decide) (s_fb eM119 (by decide) (s_fP eM126 (s_fP eM127 (s_fa eM130 (by decide) (rfl))))) : (M130.1 0 1).toInt = (M113.1 0 1).toInt) (s_wr eM113 (by omega)))
        have zz0_2 := (Eq.trans (s_fb eM119 (by decide) (s_fP eM126 (s_fP eM127 (s_fa eM130 (by decide) (rfl)))) : (M130.1 0 2).toInt = (M116.1 0 2).toInt) (s_wr eM116 (by omega)))
        have zz0_3 := (Eq.trans (s_fP eM126 (s_fP eM127 (s_fa eM130 (by decide) (rfl))) : (M130.1 0 3).toInt = (M119.1 0 3).toInt) (s_wr eM119 (by omega)))
        obtain ⟨pr, Kz, hpr, hM130, hne, hbk⟩ := fzXs [6, 10] hpr hM130
        have hq8_0 : ∀ i, s_c i = 8 → pr i 0 = false := fun i h => hne i 0 (by rw [h]; rfl) (hq8_0 i h)
        refine j_aload_n C 1 0 dX11_shop_109 rfl rfl ?_
        refine y_getC C 10 12 fX11_shop_36 rfl rfl ft_10_6 sm_10_6 rfl hM130 dX11_shop_110 ?_
        refine j_aload_n C 1 0 dX11_shop_113 rfl rfl ?_
        refine y_getC C 10 15 fX11_shop_40 rfl rfl ft_10_7 sm_10_7 rfl hM130 dX11_shop_114 ?_
        refine j_callVv C (d := 0) (As := [.ref (ad 15)]) (st := []) 12 (s_lt rfl rfl) (s_kc (c := 8) rfl rfl) (by decide) rfl (s1_X9_copyFrom hM130 hpr hq8_0 rfl rfl) gX11_shop_X9_copyFrom rfl hdX9_copyFrom (by decide) (Nat.le_of_ble_eq_true rfl) dX11_shop_117 rfl (fun M133 h134 => ?_)
        have hM133 := h134
        refine j_aload_n C 1 0 dX11_shop_120 rfl rfl ?_
        refine j_callVv C (d := 2) (As := []) (st := []) 0 (s_lt rfl rfl) (s_kc (c := 10) rfl rfl) (by decide) rfl (s1_X11_beginAnew hM133 hpr) gX11_shop_X11_beginAnew rfl hdX11_beginAnew (by decide) (Nat.le_of_ble_eq_true rfl) dX11_shop_121 rfl (fun M137 h138 => ?_)
        have hM137 := h138
        refine j_aload_n C 1 0 dX11_shop_124 rfl rfl ?_
        refine y_getM C 10 6 fX11_shop_26 rfl rfl ft_10_4 sm_10_4 (by decide) hM137 dX11_shop_125 (fun v140 ev140 cv140 => ?_)
        have u141p := ((hbk _ hM137).2 0 4 rfl rfl).2
        obtain rfl : v105 = v140 := by omega
        refine y_getI C 6 _ _ fX11_shop_131 cv140 rfl ft_6_1 sb_6_1 hM137 dX11_shop_128 (fun a142 ea142 la142 ua142 => ?_)
        have u1441 := congrArg Int32.toInt ((hbk _ hM137).2 0 1 rfl rfl).1
        have u1442 := congrArg Int32.toInt ((hbk _ hM137).2 0 2 rfl rfl).1
        have u1443 := congrArg Int32.toInt ((hbk _ hM137).2 0 3 rfl rfl).1
        have u144l := congrArg Int32.toInt ((hbk _ hM137).2 v105 1 (by rw [cv105]; rfl) (by rw [cv105]; rfl)).1
        have hM137 := (hbk _ hM137).1
        exact hret _ _ _ _ dX11_shop_131 ⟨a142, rfl, hM137, by omega⟩
      · refine y_bipush C dX11_shop_69 rfl ?_
        refine j_aload_n C 0 0 dX11_shop_71 rfl rfl ?_
        refine y_getI C 10 _ _ fX11_shop_17 rfl rfl ft_10_2 sb_10_2 hM119 dX11_shop_72 (fun a145 ea145 la145 ua145 => ?_)
        have u147 : 0 ≤ a145 ∧ a145 ≤ 4 := by omega
        refine y_isub C dX11_shop_75 ?_
        have zz0_1 := (Eq.trans (s_fb eM116 (by decide) (s_fb eM119 (by decide) (rfl)) : (M119.1 0 1).toInt = (M113.1 0 1).toInt) (s_wr eM113 (by omega))); have zz0_2 := (Eq.trans (s_fb eM119 (by decide) (rfl) : (M119.1 0 2).toInt = (M116.1 0 2).toInt) (s_wr eM116 (by omega))); have zz0_3 := (Eq.trans (rfl : (M119.1 0 3).toInt = (M119.1 0 3).toInt) (s_wr eM119 (by omega))); exact hret _ _ _ _ dX11_shop_76 ⟨((-30) - a145), rfl, hM119, by omega⟩
    · refine y_bipush C dX11_shop_12 rfl ?_
      exact hret _ _ _ _ dX11_shop_14 ⟨(-3), rfl, hM0, by omega⟩
set_option maxHeartbeats 4000000 in
theorem s1_X11_fault {l : Launch} {dC : Nat → ClassId} {dI : Nat → Nat → Nat} {ad : Nat → Nat} {cA : Nat → ClassId} {pr : Nat → Nat → Bool} {Kz : mm_M} {M0 : mm_M} (hM0 : INV pr Kz M0) (a1 : Int) (ha1 : -2147483648 ≤ a1 ∧ a1 ≤ 2147483647) : Ci l 0 yX11_fault wsX11_fault dC dI ad cA [.ref (ad 0), .int (sI a1)] M0 (fun r M' => ∃ a : Int, r = sI a ∧ M0 = M' ∧ (-2147483648) ≤ a ∧ a ≤ 2147483647 ∧ (a1 = 0 ∧ a = (M0.1 0 2).toInt ∨ a1 = 1 ∧ a = (M0.1 0 3).toInt ∨ ¬ a1 = 0 ∧ ¬ a1 = 1 ∧ a = -1)) := by
  refine ci_of (cc := cX11_fault) (maxL := 2) (ty := .int) (lv := [(0, .ref (ad 0)), (1, .int (sI a1))]) (by decide) rfl (fun r M' hp => rfl) (Nat.le_of_ble_eq_true rfl) rfl ?_
  intro p e s m args below meth c A Q C hret
  refine j_iload_n C 1 1 dX11_fault_0 rfl rfl ?_
  refine y_if_ne C 9 dX11_fault_1 (by decide) (by omega) (fun h101 => ?_) (fun h101 => ?_)
  · refine j_iload_n C 1 1 dX11_fault_9 rfl rfl ?_
    refine y_iconst C dX11_fault_10 ?_
    refine y_icmp_ne C 21 dX11_fault_11 (by decide) (by omega) (fun h102 => ?_) (fun h102 => ?_)
    · refine y_iconst C dX11_fault_21 ?_
      exact hret _ _ _ _ dX11_fault_22 ⟨(-1), rfl, rfl, by omega⟩
    · refine j_aload_n C 0 0 dX11_fault_14 rfl rfl ?_
      refine y_getI C 10 _ _ fX11_fault_20 rfl rfl ft_10_3 sb_10_3 hM0 dX11_fault_15 (fun a103 ea103 la103 ua103 => ?_)
      refine j_goto C 22 dX11_fault_18 (by decide) ?_
      exact hret _ _ _ _ dX11_fault_22 ⟨a103, rfl, rfl, by omega⟩
  · refine j_aload_n C 0 0 dX11_fault_4 rfl rfl ?_
    refine y_getI C 10 _ _ fX11_fault_17 rfl rfl ft_10_2 sb_10_2 hM0 dX11_fault_5 (fun a105 ea105 la105 ua105 => ?_)
    exact hret _ _ _ _ dX11_fault_8 ⟨a105, rfl, rfl, by omega⟩
set_option maxHeartbeats 4000000 in
theorem s1_X11_isKind {l : Launch} {dC : Nat → ClassId} {dI : Nat → Nat → Nat} {ad : Nat → Nat} {cA : Nat → ClassId} {pr : Nat → Nat → Bool} {Kz : mm_M} {M0 : mm_M} (hM0 : INV pr Kz M0) (a1 : Int) (ha1 : -2147483648 ≤ a1 ∧ a1 ≤ 2147483647) : Ci l 0 yX11_isKind wsX11_isKind dC dI ad cA [.ref (ad 0), .int (sI a1)] M0 (fun r M' => ∃ a : Int, r = sI a ∧ M0 = M' ∧ 0 ≤ a ∧ a ≤ 1 ∧ ((a1 < 0 ∧ a = 0) ∨ (0 ≤ (M0.1 12 0).toInt ∧ (M0.1 12 0).toInt ≤ 8 ∧ 0 ≤ a1 ∧ (M0.1 12 0).toInt ≤ a1 ∧ a = 0) ∨ (1 ≤ (M0.1 12 0).toInt ∧ (M0.1 12 0).toInt ≤ 8 ∧ 0 ≤ a1 ∧ a1 < (M0.1 12 0).toInt ∧ a = 1))) := by
  refine ci_of (cc := cX11_isKind) (maxL := 2) (ty := .boolean) (lv := [(0, .ref (ad 0)), (1, .int (sI a1))]) (by decide) rfl (fun r M' hp => by obtain ⟨a, rfl, -, h⟩ := hp; rcases (show a = 0 ∨ a = 1 by omega) with rfl | rfl <;> rfl) (Nat.le_of_ble_eq_true rfl) rfl ?_
  intro p e s m args below meth c A Q C hret
  refine j_iload_n C 1 1 dX11_isKind_0 rfl rfl ?_
  refine y_if_lt C 19 dX11_isKind_1 (by decide) (by omega) (fun h101 => ?_) (fun h101 => ?_)
  · refine y_iconst C dX11_isKind_19 ?_
    exact hret _ _ _ _ dX11_isKind_20 ⟨0, rfl, rfl, by omega⟩
  · refine j_iload_n C 1 1 dX11_isKind_4 rfl rfl ?_
    refine j_aload_n C 0 0 dX11_isKind_5 rfl rfl ?_
    refine y_getC C 10 12 fX11_isKind_36 rfl rfl ft_10_6 sm_10_6 rfl hM0 dX11_isKind_6 ?_
    refine y_getI C 8 _ _ fX11_isKind_160 rfl rfl ft_8_0 sb_8_0 hM0 dX11_isKind_9 (fun a102 ea102 la102 ua102 => ?_)
    refine y_icmp_ge C 19 dX11_isKind_12 (by decide) (by omega) (fun h104 => ?_) (fun h104 => ?_)
    · refine y_iconst C dX11_isKind_19 ?_
      exact hret _ _ _ _ dX11_isKind_20 ⟨0, rfl, rfl, by omega⟩
    · refine y_iconst C dX11_isKind_15 ?_
      refine j_goto C 20 dX11_isKind_16 (by decide) ?_
      exact hret _ _ _ _ dX11_isKind_20 ⟨1, rfl, rfl, by omega⟩
set_option maxHeartbeats 4000000 in
theorem s1_X4_tune {l : Launch} {dC : Nat → ClassId} {dI : Nat → Nat → Nat} {ad : Nat → Nat} {cA : Nat → ClassId} {pr : Nat → Nat → Bool} {Kz : mm_M} {M0 : mm_M} (hM0 : INV pr Kz M0) (hpr : PX pr) {v1 : Nat} (cv1 : s_c v1 = 6) {v2 : Nat} (cv2 : s_c v2 = 8) : Cv l 0 yX4_tune wsX4_tune dC dI ad cA [.ref (ad 81), .ref (ad v1), .ref (ad v2)] M0 (fun M' => INV pr Kz M') := by
  refine cv_of (cc := cX4_tune) (maxL := 5) (lv := [(0, .ref (ad 81)), (1, .ref (ad v1)), (2, .ref (ad v2))]) (by decide) rfl (Nat.le_of_ble_eq_true rfl) rfl ?_
  intro p e s m args below meth c A Q C hret
  refine j_aload_n C 0 0 dX4_tune_0 rfl rfl ?_
  refine j_aload_n C 1 1 dX4_tune_1 rfl rfl ?_
  refine y_putP C 3 6 qX4_tune_33 rfl rfl rfl rfl ft_3_5 sm_3_5 (by decide) hM0 (PX.w hpr rfl rfl) cv1 dX4_tune_2 (fun M101 eM101 hM101 => ?_)
  refine j_aload_n C 0 0 dX4_tune_5 rfl rfl ?_
  refine j_aload_n C 2 2 dX4_tune_6 rfl rfl ?_
  refine y_getI C 8 _ _ fX4_tune_43 cv2 rfl ft_8_0 sb_8_0 hM101 dX4_tune_7 (fun a102 ea102 la102 ua102 => ?_)
  refine y_putI C 3 _ _ qX4_tune_29 rfl rfl ft_3_6 sb_3_6 hM101 (PX.w hpr rfl rfl) dX4_tune_10 (by omega) (fun M104 eM104 hM104 => ?_)
  refine y_iconst C dX4_tune_13 ?_
  refine j_istore_n C 3 [(3, .int (sI 0)), (0, .ref (ad 81)), (1, .ref (ad v1)), (2, .ref (ad v2))] dX4_tune_14 rfl (by decide) rfl ?_
  have L1104 : ∀ (n1102 : Nat), ∀ (a1105 : Int) (M1106 : mm_M), (0 ≤ a1105 ∧ a1105 ≤ 8 ∧ (8 - a1105) < (n1102 : Int)) → INV pr Kz M1106 → jj p l e (cn_R 0) s m args below meth c 0 0 Q 5 dC dI ad cA A M1106 15 [(0, .ref (ad 81)), (2, .ref (ad v2)), (3, .int (sI a1105))] [] := by
    intro n1102
    induction n1102 with
    | zero =>
      intro a1105 M1106 h1107 hM1106
      exfalso; omega
    | succ n1102 ih1103 =>
      intro a1105 M1106 h1107 hM1106
      refine j_iload_n C 2 3 dX4_tune_15 rfl rfl ?_
      refine j_aload_n C 0 0 dX4_tune_16 rfl rfl ?_
      refine y_getI C 3 _ _ fX4_tune_29 rfl rfl ft_3_6 sb_3_6 hM1106 dX4_tune_17 (fun a1108 ea1108 la1108 ua1108 => ?_)
      refine y_icmp_ge C 124 dX4_tune_20 (by decide) (by omega) (fun h1110 => ?_) (fun h1110 => ?_)
      · exact hret _ _ _ dX4_tune_124 hM1106
      · refine j_aload_n C 0 0 dX4_tune_23 rfl rfl ?_
        refine y_getC C 3 83 fX4_tune_15 rfl rfl ft_3_1 sm_3_1 rfl hM1106 dX4_tune_24 ?_
        refine j_iload_n C 2 3 dX4_tune_27 rfl rfl ?_
        refine y_iald C 34 8 _ _ rfl rfl rfl ak_34 an_34 rfl (sb_34 _) hM1106 dX4_tune_28 (by omega) (fun a1111 ea1111 la1111 ua1111 => ?_)
        refine j_aload_n C 1 2 dX4_tune_29 rfl rfl ?_
        refine y_getT C 8 25 fX4_tune_46 cv2 rfl ft_8_1 rfl sm_8_1 st_8_1 (by decide) hM1106 dX4_tune_30 (fun v1112 cv1112 => ?_)
        refine j_iload_n C 2 3 dX4_tune_33 rfl rfl ?_
        refine y_iald C 25 8 _ _ cv1112 rfl rfl ak_25 an_25 rfl (sb_25 _) hM1106 dX4_tune_34 (by omega) (fun a1113 ea1113 la1113 ua1113 => ?_)
        refine y_icmp_ne C 53 dX4_tune_35 (by decide) (by omega) (fun h1114 => ?_) (fun h1114 => ?_)
        · refine j_aload_n C 0 0 dX4_tune_53 rfl rfl ?_
          refine y_getC C 3 83 fX4_tune_15 rfl rfl ft_3_1 sm_3_1 rfl hM1106 dX4_tune_54 ?_
          refine j_iload_n C 2 3 dX4_tune_57 rfl rfl ?_
          refine j_aload_n C 1 2 dX4_tune_58 rfl rfl ?_
          refine y_getT C 8 25 fX4_tune_46 cv2 rfl ft_8_1 rfl sm_8_1 st_8_1 (by decide) hM1106 dX4_tune_59 (fun v1115 cv1115 => ?_)
          refine j_iload_n C 2 3 dX4_tune_62 rfl rfl ?_
          refine y_iald C 25 8 _ _ cv1115 rfl rfl ak_25 an_25 rfl (sb_25 _) hM1106 dX4_tune_63 (by omega) (fun a1116 ea1116 la1116 ua1116 => ?_)
          refine y_iastF C 34 8 rfl rfl rfl ak_34 an_34 rfl (sb_34 _) hM1106 (PX.w hpr rfl rfl) dX4_tune_64 (by omega) (fun M1117 eM1117 hM1117 => ?_)
          refine j_aload_n C 0 0 dX4_tune_65 rfl rfl ?_
          refine y_getC C 3 84 fX4_tune_18 rfl rfl ft_3_2 sm_3_2 rfl hM1117 dX4_tune_66 ?_
          refine j_iload_n C 2 3 dX4_tune_69 rfl rfl ?_
          refine j_aload_n C 1 2 dX4_tune_70 rfl rfl ?_
          refine y_getT C 8 26 fX4_tune_47 cv2 rfl ft_8_2 rfl sm_8_2 st_8_2 (by decide) hM1117 dX4_tune_71 (fun v1118 cv1118 => ?_)
          refine j_iload_n C 2 3 dX4_tune_74 rfl rfl ?_
          refine y_iald C 26 8 _ _ cv1118 rfl rfl ak_26 an_26 rfl (sb_26 _) hM1117 dX4_tune_75 (by omega) (fun a1119 ea1119 la1119 ua1119 => ?_)
          refine y_iastF C 35 8 rfl rfl rfl ak_35 an_35 rfl (sb_35 _) hM1117 (PX.w hpr rfl rfl) dX4_tune_76 (by omega) (fun M1120 eM1120 hM1120 => ?_)
          refine j_iload_n C 2 3 dX4_tune_77 rfl rfl ?_
          refine y_bipush C dX4_tune_78 rfl ?_
          refine y_imul C dX4_tune_80 ?_
          refine j_istore C 4 [(4, .int (sI (a1105 * 108))), (0, .ref (ad 81)), (2, .ref (ad v2)), (3, .int (sI a1105))] dX4_tune_81 (by decide) rfl ?_
          have L1143 : ∀ (n1141 : Nat), ∀ (a1144 : Int) (M1145 : mm_M), (0 ≤ a1144 ∧ a1144 ≤ 899 ∧ (899 - a1144) < (n1141 : Int)) → INV pr Kz M1145 → jj p l e (cn_R 0) s m args below meth c 0 0 Q 5 dC dI ad cA A M1145 83 [(0, .ref (ad 81)), (2, .ref (ad v2)), (3, .int (sI a1105)), (4, .int (sI a1144))] [] := by
            intro n1141
            induction n1141 with
            | zero =>
              intro a1144 M1145 h1146 hM1145
              exfalso; omega
            | succ n1141 ih1142 =>
              intro a1144 M1145 h1146 hM1145
              refine j_iload C 3 dX4_tune_83 rfl ?_
              refine j_iload_n C 2 3 dX4_tune_85 rfl rfl ?_
              refine y_iconst C dX4_tune_86 ?_
              refine y_iadd C dX4_tune_87 ?_
              refine y_bipush C dX4_tune_88 rfl ?_
              refine y_imul C dX4_tune_90 ?_
              refine y_icmp_ge C 118 dX4_tune_91 (by decide) (by omega) (fun h1147 => ?_) (fun h1147 => ?_)
              · refine y_iinc C 2 [(3, .int (sI (a1105 + 1))), (0, .ref (ad 81)), (2, .ref (ad v2)), (4, .int (sI a1144))] dX4_tune_118 rfl (by decide) rfl ?_
                refine j_goto C 15 dX4_tune_121 (by decide) ?_
                refine j_lv [1, 2, 0] rfl ?_; exact ih1103 (a1105 + 1) M1145 (by omega) hM1145
              · refine j_iload C 3 dX4_tune_94 rfl ?_
                refine j_aload_n C 0 0 dX4_tune_96 rfl rfl ?_
                refine y_getC C 3 82 fX4_tune_11 rfl rfl ft_3_0 sm_3_0 rfl hM1145 dX4_tune_97 ?_
                refine y_alen C 33 864 rfl rfl rfl an_33 rfl rfl dX4_tune_100 ?_
                refine y_icmp_ge C 118 dX4_tune_101 (by decide) (by omega) (fun h1148 => ?_) (fun h1148 => ?_)
                · exfalso; omega
                · refine j_aload_n C 0 0 dX4_tune_104 rfl rfl ?_
                  refine y_getC C 3 82 fX4_tune_11 rfl rfl ft_3_0 sm_3_0 rfl hM1145 dX4_tune_105 ?_
                  refine j_iload C 3 dX4_tune_108 rfl ?_
                  refine y_iconst C dX4_tune_110 ?_
                  refine y_iastF C 33 864 rfl rfl rfl ak_33 an_33 rfl (sb_33 _) hM1145 (PX.w hpr rfl rfl) dX4_tune_111 (by omega) (fun M1149 eM1149 hM1149 => ?_)
                  refine y_iinc C 3 [(4, .int (sI (a1144 + 1))), (0, .ref (ad 81)), (2, .ref (ad v2)), (3, .int (sI a1105))] dX4_tune_112 rfl (by decide) rfl ?_
                  refine j_goto C 83 dX4_tune_115 (by decide) ?_
                  refine j_lv [1, 2, 3, 0] rfl ?_; exact ih1142 (a1144 + 1) M1149 (by omega) hM1149
          refine j_lv [1, 2, 3, 0] rfl ?_; exact L1143 2010 (a1105 * 108) M1120 (by omega) hM1120
        · refine j_aload_n C 0 0 dX4_tune_38 rfl rfl ?_
          refine y_getC C 3 84 fX4_tune_18 rfl rfl ft_3_2 sm_3_2 rfl hM1106 dX4_tune_39 ?_
          refine j_iload_n C 2 3 dX4_tune_42 rfl rfl ?_
          refine y_iald C 35 8 _ _ rfl rfl rfl ak_35 an_35 rfl (sb_35 _) hM1106 dX4_tune_43 (by omega) (fun a1150 ea1150 la1150 ua1150 => ?_)
          refine j_aload_n C 1 2 dX4_tune_44 rfl rfl ?_
          refine y_getT C 8 26 fX4_tune_47 cv2 rfl ft_8_2 rfl sm_8_2 st_8_2 (by decide) hM1106 dX4_tune_45 (fun v1151 cv1151 => ?_)
          refine j_iload_n C 2 3 dX4_tune_48 rfl rfl ?_
          refine y_iald C 26 8 _ _ cv1151 rfl rfl ak_26 an_26 rfl (sb_26 _) hM1106 dX4_tune_49 (by omega) (fun a1152 ea1152 la1152 ua1152 => ?_)
          refine y_icmp_eq C 118 dX4_tune_50 (by decide) (by omega) (fun h1153 => ?_) (fun h1153 => ?_)
          · refine y_iinc C 2 [(3, .int (sI (a1105 + 1))), (0, .ref (ad 81)), (2, .ref (ad v2))] dX4_tune_118 rfl (by decide) rfl ?_
            refine j_goto C 15 dX4_tune_121 (by decide) ?_
            refine j_lv [1, 2, 0] rfl ?_; exact ih1103 (a1105 + 1) M1106 (by omega) hM1106
          · refine j_aload_n C 0 0 dX4_tune_53 rfl rfl ?_
            refine y_getC C 3 83 fX4_tune_15 rfl rfl ft_3_1 sm_3_1 rfl hM1106 dX4_tune_54 ?_
            refine j_iload_n C 2 3 dX4_tune_57 rfl rfl ?_
            refine j_aload_n C 1 2 dX4_tune_58 rfl rfl ?_
            refine y_getT C 8 25 fX4_tune_46 cv2 rfl ft_8_1 rfl sm_8_1 st_8_1 (by decide) hM1106 dX4_tune_59 (fun v1154 cv1154 => ?_)
            refine j_iload_n C 2 3 dX4_tune_62 rfl rfl ?_
            refine y_iald C 25 8 _ _ cv1154 rfl rfl ak_25 an_25 rfl (sb_25 _) hM1106 dX4_tune_63 (by omega) (fun a1155 ea1155 la1155 ua1155 => ?_)
            refine y_iastF C 34 8 rfl rfl rfl ak_34 an_34 rfl (sb_34 _) hM1106 (PX.w hpr rfl rfl) dX4_tune_64 (by omega) (fun M1156 eM1156 hM1156 => ?_)
            refine j_aload_n C 0 0 dX4_tune_65 rfl rfl ?_
            refine y_getC C 3 84 fX4_tune_18 rfl rfl ft_3_2 sm_3_2 rfl hM1156 dX4_tune_66 ?_
            refine j_iload_n C 2 3 dX4_tune_69 rfl rfl ?_
            refine j_aload_n C 1 2 dX4_tune_70 rfl rfl ?_
            refine y_getT C 8 26 fX4_tune_47 cv2 rfl ft_8_2 rfl sm_8_2 st_8_2 (by decide) hM1156 dX4_tune_71 (fun v1157 cv1157 => ?_)
            refine j_iload_n C 2 3 dX4_tune_74 rfl rfl ?_
            refine y_iald C 26 8 _ _ cv1157 rfl rfl ak_26 an_26 rfl (sb_26 _) hM1156 dX4_tune_75 (by omega) (fun a1158 ea1158 la1158 ua1158 => ?_)
            refine y_iastF C 35 8 rfl rfl rfl ak_35 an_35 rfl (sb_35 _) hM1156 (PX.w hpr rfl rfl) dX4_tune_76 (by omega) (fun M1159 eM1159 hM1159 => ?_)
            refine j_iload_n C 2 3 dX4_tune_77 rfl rfl ?_
            refine y_bipush C dX4_tune_78 rfl ?_
            refine y_imul C dX4_tune_80 ?_
            refine j_istore C 4 [(4, .int (sI (a1105 * 108))), (0, .ref (ad 81)), (2, .ref (ad v2)), (3, .int (sI a1105))] dX4_tune_81 (by decide) rfl ?_
            have L1182 : ∀ (n1180 : Nat), ∀ (a1183 : Int) (M1184 : mm_M), (0 ≤ a1183 ∧ a1183 ≤ 899 ∧ (899 - a1183) < (n1180 : Int)) → INV pr Kz M1184 → jj p l e (cn_R 0) s m args below meth c 0 0 Q 5 dC dI ad cA A M1184 83 [(0, .ref (ad 81)), (2, .ref (ad v2)), (3, .int (sI a1105)), (4, .int (sI a1183))] [] := by
              intro n1180
              induction n1180 with
              | zero =>
                intro a1183 M1184 h1185 hM1184
                exfalso; omega
              | succ n1180 ih1181 =>
                intro a1183 M1184 h1185 hM1184
                refine j_iload C 3 dX4_tune_83 rfl ?_
                refine j_iload_n C 2 3 dX4_tune_85 rfl rfl ?_
                refine y_iconst C dX4_tune_86 ?_
                refine y_iadd C dX4_tune_87 ?_
                refine y_bipush C dX4_tune_88 rfl ?_
                refine y_imul C dX4_tune_90 ?_
                refine y_icmp_ge C 118 dX4_tune_91 (by decide) (by omega) (fun h1186 => ?_) (fun h1186 => ?_)
                · refine y_iinc C 2 [(3, .int (sI (a1105 + 1))), (0, .ref (ad 81)), (2, .ref (ad v2)), (4, .int (sI a1183))] dX4_tune_118 rfl (by decide) rfl ?_
                  refine j_goto C 15 dX4_tune_121 (by decide) ?_
                  refine j_lv [1, 2, 0] rfl ?_; exact ih1103 (a1105 + 1) M1184 (by omega) hM1184
                · refine j_iload C 3 dX4_tune_94 rfl ?_
                  refine j_aload_n C 0 0 dX4_tune_96 rfl rfl ?_
                  refine y_getC C 3 82 fX4_tune_11 rfl rfl ft_3_0 sm_3_0 rfl hM1184 dX4_tune_97 ?_
                  refine y_alen C 33 864 rfl rfl rfl an_33 rfl rfl dX4_tune_100 ?_
                  refine y_icmp_ge C 118 dX4_tune_101 (by decide) (by omega) (fun h1187 => ?_) (fun h1187 => ?_)
                  · exfalso; omega
                  · refine j_aload_n C 0 0 dX4_tune_104 rfl rfl ?_
                    refine y_getC C 3 82 fX4_tune_11 rfl rfl ft_3_0 sm_3_0 rfl hM1184 dX4_tune_105 ?_
                    refine j_iload C 3 dX4_tune_108 rfl ?_
                    refine y_iconst C dX4_tune_110 ?_
                    refine y_iastF C 33 864 rfl rfl rfl ak_33 an_33 rfl (sb_33 _) hM1184 (PX.w hpr rfl rfl) dX4_tune_111 (by omega) (fun M1188 eM1188 hM1188 => ?_)
                    refine y_iinc C 3 [(4, .int (sI (a1183 + 1))), (0, .ref (ad 81)), (2, .ref (ad v2)), (3, .int (sI a1105))] dX4_tune_112 rfl (by decide) rfl ?_
                    refine j_goto C 83 dX4_tune_115 (by decide) ?_
                    refine j_lv [1, 2, 3, 0] rfl ?_; exact ih1181 (a1183 + 1) M1188 (by omega) hM1188
            refine j_lv [1, 2, 3, 0] rfl ?_; exact L1182 2010 (a1105 * 108) M1159 (by omega) hM1159
  refine j_lv [1, 3, 0] rfl ?_; exact L1104 2010 0 M104 (by omega) hM104
set_option maxHeartbeats 4000000 in
theorem s1_J6_bitCount_0f7a4 {l : Launch} {dC : Nat → ClassId} {dI : Nat → Nat → Nat} {ad : Nat → Nat} {cA : Nat → ClassId} {pr : Nat → Nat → Bool} {Kz : mm_M} {M0 : mm_M} (hM0 : INV pr Kz M0) (a0 : Int) (ha0 : -2147483648 ≤ a0 ∧ a0 ≤ 2147483647) : Ci l 0 yJ6_bitCount_0f7a4 wsJ6_bitCount_0f7a4 dC dI ad cA [.int (sI a0)] M0 (fun r M' => ∃ a : Int, r = sI a ∧ M0 = M' ∧ 0 ≤ a ∧ a ≤ 63 ∧ ((0 ≤ a ∧ a ≤ 63))) := by
  refine ci_of (cc := cJ6_bitCount_0f7a4) (maxL := 1) (ty := .int) (lv := [(0, .int (sI a0))]) (by decide) rfl (fun r M' hp => rfl) (Nat.le_of_ble_eq_true rfl) rfl ?_
  intro p e s m args below meth c A Q C hret
  refine j_iload_n C 0 0 dJ6_bitCount_0f7a4_0 rfl rfl ?_
  refine j_iload_n C 0 0 dJ6_bitCount_0f7a4_1 rfl rfl ?_
  refine y_iconst C dJ6_bitCount_0f7a4_2 ?_
  refine y_iushr0 C dJ6_bitCount_0f7a4_3 (fun a101 la101 ua101 => ?_)
  refine y_ldcw C 1431655765 dJ6_bitCount_0f7a4_4 kJ6_bitCount_0f7a4_265 rfl ?_
  refine y_iandR C dJ6_bitCount_0f7a4_7 (by omega) (fun a102 la102 ua102 => ?_)
  refine y_isub0 C dJ6_bitCount_0f7a4_8 (fun a103 la103 ua103 => ?_)
  refine j_istore_n C 0 [(0, .int (sI a103))] dJ6_bitCount_0f7a4_9 rfl (by decide) rfl ?_
  refine j_iload_n C 0 0 dJ6_bitCount_0f7a4_10 rfl rfl ?_
  refine y_ldcw C 858993459 dJ6_bitCount_0f7a4_11 kJ6_bitCount_0f7a4_266 rfl ?_
  refine y_iandR C dJ6_bitCount_0f7a4_14 (by omega) (fun a104 la104 ua104 => ?_)
  refine j_iload_n C 0 0 dJ6_bitCount_0f7a4_15 rfl rfl ?_
  refine y_iconst C dJ6_bitCount_0f7a4_16 ?_
  refine y_iushr0 C dJ6_bitCount_0f7a4_17 (fun a105 la105 ua105 => ?_)
  refine y_ldcw C 858993459 dJ6_bitCount_0f7a4_18 kJ6_bitCount_0f7a4_266 rfl ?_
  refine y_iandR C dJ6_bitCount_0f7a4_21 (by omega) (fun a106 la106 ua106 => ?_)
  refine y_iadd C dJ6_bitCount_0f7a4_22 ?_
  refine j_istore_n C 0 [(0, .int (sI (a104 + a106)))] dJ6_bitCount_0f7a4_23 rfl (by decide) rfl ?_
  refine j_iload_n C 0 0 dJ6_bitCount_0f7a4_24 rfl rfl ?_
  refine j_iload_n C 0 0 dJ6_bitCount_0f7a4_25 rfl rfl ?_
  refine y_iconst C dJ6_bitCount_0f7a4_26 ?_
  refine y_iushr0 C dJ6_bitCount_0f7a4_27 (fun a107 la107 ua107 => ?_)
  refine y_iadd0 C dJ6_bitCount_0f7a4_28 (fun a108 la108 ua108 => ?_)
  refine y_ldcw C 252645135 dJ6_bitCount_0f7a4_29 kJ6_bitCount_0f7a4_267 rfl ?_
  refine y_iandR C dJ6_bitCount_0f7a4_32 (by omega) (fun a109 la109 ua109 => ?_)
  refine j_istore_n C 0 [(0, .int (sI a109))] dJ6_bitCount_0f7a4_33 rfl (by decide) rfl ?_
  refine j_iload_n C 0 0 dJ6_bitCount_0f7a4_34 rfl rfl ?_
  refine j_iload_n C 0 0 dJ6_bitCount_0f7a4_35 rfl rfl ?_
  refine y_bipush C dJ6_bitCount_0f7a4_36 rfl ?_
  refine y_iushr0 C dJ6_bitCount_0f7a4_38 (fun a110 la110 ua110 => ?_)
  refine y_iadd0 C dJ6_bitCount_0f7a4_39 (fun a111 la111 ua111 => ?_)
  refine j_istore_n C 0 [(0, .int (sI a111))] dJ6_bitCount_0f7a4_40 rfl (by decide) rfl ?_
  refine j_iload_n C 0 0 dJ6_bitCount_0f7a4_41 rfl rfl ?_
  refine j_iload_n C 0 0 dJ6_bitCount_0f7a4_42 rfl rfl ?_
  refine y_bipush C dJ6_bitCount_0f7a4_43 rfl ?_
  refine y_iushr16 C dJ6_bitCount_0f7a4_45 (fun a112 la112 ua112 => ?_)
  refine y_iadd0 C dJ6_bitCount_0f7a4_46 (fun a113 la113 ua113 => ?_)
  refine j_istore_n C 0 [(0, .int (sI a113))] dJ6_bitCount_0f7a4_47 rfl (by decide) rfl ?_
  refine j_iload_n C 0 0 dJ6_bitCount_0f7a4_48 rfl rfl ?_
  refine y_bipush C dJ6_bitCount_0f7a4_49 rfl ?_
  refine y_iandR C dJ6_bitCount_0f7a4_51 (by omega) (fun a114 la114 ua114 => ?_)
  exact hret _ _ _ _ dJ6_bitCount_0f7a4_52 ⟨a114, rfl, rfl, by omega⟩
set_option maxHeartbeats 4000000 in
theorem s1_X4_learn {l : Launch} {dC : Nat → ClassId} {dI : Nat → Nat → Nat} {ad : Nat → Nat} {cA : Nat → ClassId} {pr : Nat → Nat → Bool} {Kz : mm_M} {M0 : mm_M} (hM0 : INV pr Kz M0) (hpr : PX pr) (a1 : Int) (ha1 : -2147483648 ≤ a1 ∧ a1 ≤ 2147483647) (a2 : Int) (ha2 : -2147483648 ≤ a2 ∧ a2 ≤ 2147483647) (a3 : Int) (ha3 : -2147483648 ≤ a3 ∧ a3 ≤ 2147483647) (hp0 : 0 ≤ a1 ∧ a1 ≤ 5) (hp1 : 0 ≤ a2 ∧ a2 ≤ 7) : Cv l 1 yX4_learn wsX4_learn dC dI ad cA [.ref (ad 81), .int (sI a1), .int (sI a2), .int (sI a3)] M0 (fun M' => INV pr Kz M') := by
  refine cv_of (cc := cX4_learn) (maxL := 4) (lv := [(0, .ref (ad 81)), (1, .int (sI a1)), (2, .int (sI a2)), (3, .int (sI a3))]) (by decide) rfl (Nat.le_of_ble_eq_true rfl) rfl ?_
  intro p e s m args below meth c A Q C hret
  refine j_aload_n C 0 0 dX4_learn_0 rfl rfl ?_
  refine y_getC C 3 85 fX4_learn_23 rfl rfl ft_3_3 sm_3_3 rfl hM0 dX4_learn_1 ?_
  refine y_iconst C dX4_learn_4 ?_
  refine j_iload_n C 1 1 dX4_learn_5 rfl rfl ?_
  refine y_iastF C 36 8 rfl rfl rfl ak_36 an_36 rfl (sb_36 _) hM0 (PX.w hpr rfl rfl) dX4_learn_6 (by omega) (fun M101 eM101 hM101 => ?_)
  refine j_aload_n C 0 0 dX4_learn_7 rfl rfl ?_
  refine y_getC C 3 85 fX4_learn_23 rfl rfl ft_3_3 sm_3_3 rfl hM101 dX4_learn_8 ?_
  refine y_iconst C dX4_learn_11 ?_
  refine j_aload_n C 0 0 dX4_learn_12 rfl rfl ?_
  refine y_getM C 3 6 fX4_learn_33 rfl rfl ft_3_5 sm_3_5 (by decide) hM101 dX4_learn_13 (fun v102 ev102 cv102 => ?_)
  refine y_getT C 6 21 fX4_learn_68 cv102 rfl ft_6_2 rfl sm_6_2 st_6_2 (by decide) hM101 dX4_learn_16 (fun v103 cv103 => ?_)
  refine j_iload_n C 1 1 dX4_learn_19 rfl rfl ?_
  refine y_iald C 21 6 _ _ cv103 rfl rfl ak_21 an_21 rfl (sb_21 _) hM101 dX4_learn_20 (by omega) (fun a104 ea104 la104 ua104 => ?_)
  refine y_iastF C 36 8 rfl rfl rfl ak_36 an_36 rfl (sb_36 _) hM101 (PX.w hpr rfl rfl) dX4_learn_21 (by omega) (fun M105 eM105 hM105 => ?_)
  refine j_aload_n C 0 0 dX4_learn_22 rfl rfl ?_
  refine y_getC C 3 85 fX4_learn_23 rfl rfl ft_3_3 sm_3_3 rfl hM105 dX4_learn_23 ?_
  refine y_iconst C dX4_learn_26 ?_
  refine j_aload_n C 0 0 dX4_learn_27 rfl rfl ?_
  refine y_getV C 3 v102 fX4_learn_33 rfl rfl ft_3_5 (s_pI eM105 (ev102)) dX4_learn_28 ?_
  refine y_getT C 6 22 fX4_learn_92 cv102 rfl ft_6_3 rfl sm_6_3 st_6_3 (by decide) hM105 dX4_learn_31 (fun v106 cv106 => ?_)
  refine j_iload_n C 1 1 dX4_learn_34 rfl rfl ?_
  refine y_iald C 22 6 _ _ cv106 rfl rfl ak_22 an_22 rfl (sb_22 _) hM105 dX4_learn_35 (by omega) (fun a107 ea107 la107 ua107 => ?_)
  refine y_iastF C 36 8 rfl rfl rfl ak_36 an_36 rfl (sb_36 _) hM105 (PX.w hpr rfl rfl) dX4_learn_36 (by omega) (fun M108 eM108 hM108 => ?_)
  refine j_aload_n C 0 0 dX4_learn_37 rfl rfl ?_
  refine y_getC C 3 85 fX4_learn_23 rfl rfl ft_3_3 sm_3_3 rfl hM108 dX4_learn_38 ?_
  refine y_iconst C dX4_learn_41 ?_
  refine j_iload_n C 2 2 dX4_learn_42 rfl rfl ?_
  refine y_iastF C 36 8 rfl rfl rfl ak_36 an_36 rfl (sb_36 _) hM108 (PX.w hpr rfl rfl) dX4_learn_43 (by omega) (fun M109 eM109 hM109 => ?_)
  refine j_aload_n C 0 0 dX4_learn_44 rfl rfl ?_
  refine y_getC C 3 85 fX4_learn_23 rfl rfl ft_3_3 sm_3_3 rfl hM109 dX4_learn_45 ?_
  refine y_iconst C dX4_learn_48 ?_
  refine j_aload_n C 0 0 dX4_learn_49 rfl rfl ?_
  refine y_getC C 3 83 fX4_learn_15 rfl rfl ft_3_1 sm_3_1 rfl hM109 dX4_learn_50 ?_
  refine j_iload_n C 2 2 dX4_learn_53 rfl rfl ?_
  refine y_iald C 34 8 _ _ rfl rfl rfl ak_34 an_34 rfl (sb_34 _) hM109 dX4_learn_54 (by omega) (fun a110 ea110 la110 ua110 => ?_)
  refine y_iastF C 36 8 rfl rfl rfl ak_36 an_36 rfl (sb_36 _) hM109 (PX.w hpr rfl rfl) dX4_learn_55 (by omega) (fun M111 eM111 hM111 => ?_)
  refine j_aload_n C 0 0 dX4_learn_56 rfl rfl ?_
  refine y_getC C 3 85 fX4_learn_23 rfl rfl ft_3_3 sm_3_3 rfl hM111 dX4_learn_57 ?_
  refine y_iconst C dX4_learn_60 ?_
  refine j_aload_n C 0 0 dX4_learn_61 rfl rfl ?_
  refine y_getC C 3 84 fX4_learn_18 rfl rfl ft_3_2 sm_3_2 rfl hM111 dX4_learn_62 ?_
  refine j_iload_n C 2 2 dX4_learn_65 rfl rfl ?_
  refine y_iald C 35 8 _ _ rfl rfl rfl ak_35 an_35 rfl (sb_35 _) hM111 dX4_learn_66 (by omega) (fun a112 ea112 la112 ua112 => ?_)
  refine y_iastF C 36 8 rfl rfl rfl ak_36 an_36 rfl (sb_36 _) hM111 (PX.w hpr rfl rfl) dX4_learn_67 (by omega) (fun M113 eM113 hM113 => ?_)
  refine j_aload_n C 0 0 dX4_learn_68 rfl rfl ?_
  refine y_getC C 3 85 fX4_learn_23 rfl rfl ft_3_3 sm_3_3 rfl hM113 dX4_learn_69 ?_
  refine y_bipush C dX4_learn_72 rfl ?_
  refine j_iload_n C 3 3 dX4_learn_74 rfl rfl ?_
  refine j_callSi C (d := 0) (As := [.int (sI a3)]) (st := [.int (sI 6), .ref (ad 85)]) (s1_J6_bitCount_0f7a4 hM113 a3 (by omega)) gX4_learn_J6_bitCount_0f7a4 rfl hdJ6_bitCount_0f7a4s (by decide) (Nat.le_of_ble_eq_true rfl) dX4_learn_75 rfl (fun r114 M115 h116 => ?_)
  obtain ⟨a118, rfl, rfl, h117⟩ := h116
  refine y_iastF C 36 8 rfl rfl rfl ak_36 an_36 rfl (sb_36 _) hM113 (PX.w hpr rfl rfl) dX4_learn_78 (by omega) (fun M119 eM119 hM119 => ?_)
  refine j_aload_n C 0 0 dX4_learn_79 rfl rfl ?_
  refine y_getC C 3 85 fX4_learn_23 rfl rfl ft_3_3 sm_3_3 rfl hM119 dX4_learn_80 ?_
  refine y_bipush C dX4_learn_83 rfl ?_
  refine j_iload_n C 3 3 dX4_learn_85 rfl rfl ?_
  refine j_iload_n C 2 2 dX4_learn_86 rfl rfl ?_
  refine y_ishr0 C dX4_learn_87 (fun a120 la120 ua120 => ?_)
  refine y_iconst C dX4_learn_88 ?_
  refine y_iandR C dX4_learn_89 (by omega) (fun a121 la121 ua121 => ?_)
  refine y_iastF C 36 8 rfl rfl rfl ak_36 an_36 rfl (sb_36 _) hM119 (PX.w hpr rfl rfl) dX4_learn_90 (by omega) (fun M122 eM122 hM122 => ?_)
  exact hret _ _ _ dX4_learn_91 hM122
set_option maxHeartbeats 4000000 in
theorem s1_X4_joined {l : Launch} {dC : Nat → ClassId} {dI : Nat → Nat → Nat} {ad : Nat → Nat} {cA : Nat → ClassId} {pr : Nat → Nat → Bool} {Kz : mm_M} {M0 : mm_M} (hM0 : INV pr Kz M0) (a0 : Int) (ha0 : -9223372036854775808 ≤ a0 ∧ a0 ≤ 9223372036854775807) (a2 : Int) (ha2 : -2147483648 ≤ a2 ∧ a2 ≤ 2147483647) (a3 : Int) (ha3 : -9223372036854775808 ≤ a3 ∧ a3 ≤ 9223372036854775807) : Ci l 0 yX4_joined wsX4_joined dC dI ad cA [.long (sJ a0), .int (sI a2), .long (sJ a3)] M0 (fun r M' => ∃ a : Int, r = sI a ∧ M0 = M' ∧ (-2147483648) ≤ a ∧ a ≤ 2147483647) := by
  refine ci_of (cc := cX4_joined) (maxL := 7) (ty := .int) (lv := [(0, .long (sJ a0)), (2, .int (sI a2)), (3, .long (sJ a3))]) (by decide) rfl (fun r M' hp => rfl) (Nat.le_of_ble_eq_true rfl) rfl ?_
  intro p e s m args below meth c A Q C hret
  refine j_iload_n C 1 2 dX4_joined_0 rfl rfl ?_
  rcases (show a2 = 1015 ∨ a2 = 2042 ∨ a2 = 2043 ∨ a2 = 2045 ∨ a2 = 2060 ∨ a2 = 2061 ∨ a2 = 2062 ∨ (¬ a2 = 1015 ∧ ¬ a2 = 2042 ∧ ¬ a2 = 2043 ∧ ¬ a2 = 2045 ∧ ¬ a2 = 2060 ∧ ¬ a2 = 2061 ∧ ¬ a2 = 2062) by omega) with h101 | h101 | h101 | h101 | h101 | h101 | h101 | h101
  · refine y_lk C (off := 127) 128 dX4_joined_1 (by decide) (by decide) (by omega) (by rw [h101]; rfl) ?_
    refine j_lload_n C 0 0 dX4_joined_128 rfl rfl ?_
    refine j_lload_n C 2 3 dX4_joined_129 rfl rfl ?_
    refine y_land0 C dX4_joined_130 (fun a102 la102 ua102 => ?_)
    refine y_l2i C dX4_joined_131 ?_
    refine y_topI (fun a103 la103 ua103 => ?_)
    exact hret _ _ _ _ dX4_joined_132 ⟨a103, rfl, rfl, by omega⟩
  · refine y_lk C (off := 83) 84 dX4_joined_1 (by decide) (by decide) (by omega) (by rw [h101]; rfl) ?_
    refine j_lload_n C 0 0 dX4_joined_84 rfl rfl ?_
    refine j_lload_n C 2 3 dX4_joined_85 rfl rfl ?_
    refine y_lmul0 C dX4_joined_86 (fun a104 la104 ua104 => ?_)
    refine j_lstore C 5 [(5, .long (sJ a104)), (0, .long (sJ a0)), (2, .int (sI a2)), (3, .long (sJ a3))] dX4_joined_87 (by decide) rfl ?_
    refine j_goto C 138 dX4_joined_89 (by decide) ?_
    refine j_lload C 0 dX4_joined_138 rfl ?_
    refine y_ldc2 C 1000000 dX4_joined_140 kX4_joined_102 rfl ?_
    refine y_lcmp_le C 150 dX4_joined_143 dX4_joined_144 (by decide) (by omega) (fun h105 => ?_) (fun h105 => ?_)
    · refine j_lload C 0 dX4_joined_150 rfl ?_
      refine y_ldc2 C (-1000000) dX4_joined_152 kX4_joined_105 rfl ?_
      refine y_lcmp_ge C 164 dX4_joined_155 dX4_joined_156 (by decide) (by omega) (fun h106 => ?_) (fun h106 => ?_)
      · refine j_lload C 0 dX4_joined_164 rfl ?_
        refine y_l2i C dX4_joined_166 ?_
        exact hret _ _ _ _ dX4_joined_167 ⟨a104, rfl, rfl, by omega⟩
      · refine y_ldc C (-1000000) dX4_joined_159 kX4_joined_107 rfl ?_
        refine j_goto C 167 dX4_joined_161 (by decide) ?_
        exact hret _ _ _ _ dX4_joined_167 ⟨(-1000000), rfl, rfl, by omega⟩
    · refine y_ldc C 1000000 dX4_joined_147 kX4_joined_104 rfl ?_
      exact hret _ _ _ _ dX4_joined_149 ⟨1000000, rfl, rfl, by omega⟩
  · refine y_lk C (off := 67) 68 dX4_joined_1 (by decide) (by decide) (by omega) (by rw [h101]; rfl) ?_
    refine j_lload_n C 0 0 dX4_joined_68 rfl rfl ?_
    refine j_lload_n C 2 3 dX4_joined_69 rfl rfl ?_
    refine y_ladd0 C dX4_joined_70 (fun a107 la107 ua107 => ?_)
    refine j_lstore C 5 [(5, .long (sJ a107)), (0, .long (sJ a0)), (2, .int (sI a2)), (3, .long (sJ a3))] dX4_joined_71 (by decide) rfl ?_
    refine j_goto C 138 dX4_joined_73 (by decide) ?_
    refine j_lload C 0 dX4_joined_138 rfl ?_
    refine y_ldc2 C 1000000 dX4_joined_140 kX4_joined_102 rfl ?_
    refine y_lcmp_le C 150 dX4_joined_143 dX4_joined_144 (by decide) (by omega) (fun h108 => ?_) (fun h108 => ?_)
    · refine j_lload C 0 dX4_joined_150 rfl ?_
      refine y_ldc2 C (-1000000) dX4_joined_152 kX4_joined_105 rfl ?_
      refine y_lcmp_ge C 164 dX4_joined_155 dX4_joined_156 (by decide) (by omega) (fun h109 => ?_) (fun h109 => ?_)
      · refine j_lload C 0 dX4_joined_164 rfl ?_
        refine y_l2i C dX4_joined_166 ?_
        exact hret _ _ _ _ dX4_joined_167 ⟨a107, rfl, rfl, by omega⟩
      · refine y_ldc C (-1000000) dX4_joined_159 kX4_joined_107 rfl ?_
        refine j_goto C 167 dX4_joined_161 (by decide) ?_
        exact hret _ _ _ _ dX4_joined_167 ⟨(-1000000), rfl, rfl, by omega⟩
    · refine y_ldc C 1000000 dX4_joined_147 kX4_joined_104 rfl ?_
      exact hret _ _ _ _ dX4_joined_149 ⟨1000000, rfl, rfl, by omega⟩
  · refine y_lk C (off := 75) 76 dX4_joined_1 (by decide) (by decide) (by omega) (by rw [h101]; rfl) ?_
    refine j_lload_n C 0 0 dX4_joined_76 rfl rfl ?_
    refine j_lload_n C 2 3 dX4_joined_77 rfl rfl ?_
    refine y_lsub0 C dX4_joined_78 (fun a110 la110 ua110 => ?_)
    refine j_lstore C 5 [(5, .long (sJ a110)), (0, .long (sJ a0)), (2, .int (sI a2)), (3, .long (sJ a3))] dX4_joined_79 (by decide) rfl ?_
    refine j_goto C 138 dX4_joined_81 (by decide) ?_
    refine j_lload C 0 dX4_joined_138 rfl ?_
    refine y_ldc2 C 1000000 dX4_joined_140 kX4_joined_102 rfl ?_
    refine y_lcmp_le C 150 dX4_joined_143 dX4_joined_144 (by decide) (by omega) (fun h111 => ?_) (fun h111 => ?_)
    · refine j_lload C 0 dX4_joined_150 rfl ?_
      refine y_ldc2 C (-1000000) dX4_joined_152 kX4_joined_105 rfl ?_
      refine y_lcmp_ge C 164 dX4_joined_155 dX4_joined_156 (by decide) (by omega) (fun h112 => ?_) (fun h112 => ?_)
      · refine j_lload C 0 dX4_joined_164 rfl ?_
        refine y_l2i C dX4_joined_166 ?_
        exact hret _ _ _ _ dX4_joined_167 ⟨a110, rfl, rfl, by omega⟩
      · refine y_ldc C (-1000000) dX4_joined_159 kX4_joined_107 rfl ?_
        refine j_goto C 167 dX4_joined_161 (by decide) ?_
        exact hret _ _ _ _ dX4_joined_167 ⟨(-1000000), rfl, rfl, by omega⟩
    · refine y_ldc C 1000000 dX4_joined_147 kX4_joined_104 rfl ?_
      exact hret _ _ _ _ dX4_joined_149 ⟨1000000, rfl, rfl, by omega⟩
  · refine y_lk C (off := 103) 104 dX4_joined_1 (by decide) (by decide) (by omega) (by rw [h101]; rfl) ?_
    refine j_lload_n C 0 0 dX4_joined_104 rfl rfl ?_
    refine j_lload_n C 2 3 dX4_joined_105 rfl rfl ?_
    refine y_lcmp_ge C 114 dX4_joined_106 dX4_joined_107 (by decide) (by omega) (fun h113 => ?_) (fun h113 => ?_)
    · refine y_iconst C dX4_joined_114 ?_
      exact hret _ _ _ _ dX4_joined_115 ⟨0, rfl, rfl, by omega⟩
    · refine y_iconst C dX4_joined_110 ?_
      refine j_goto C 115 dX4_joined_111 (by decide) ?_
      exact hret _ _ _ _ dX4_joined_115 ⟨1, rfl, rfl, by omega⟩
  · refine y_lk C (off := 91) 92 dX4_joined_1 (by decide) (by decide) (by omega) (by rw [h101]; rfl) ?_
    refine j_lload_n C 0 0 dX4_joined_92 rfl rfl ?_
    refine j_lload_n C 2 3 dX4_joined_93 rfl rfl ?_
    refine y_lcmp_ne C 102 dX4_joined_94 dX4_joined_95 (by decide) (by omega) (fun h114 => ?_) (fun h114 => ?_)
    · refine y_iconst C dX4_joined_102 ?_
      exact hret _ _ _ _ dX4_joined_103 ⟨0, rfl, rfl, by omega⟩
    · refine y_iconst C dX4_joined_98 ?_
      refine j_goto C 103 dX4_joined_99 (by decide) ?_
      exact hret _ _ _ _ dX4_joined_103 ⟨1, rfl, rfl, by omega⟩
  · refine y_lk C (off := 115) 116 dX4_joined_1 (by decide) (by decide) (by omega) (by rw [h101]; rfl) ?_
    refine j_lload_n C 0 0 dX4_joined_116 rfl rfl ?_
    refine j_lload_n C 2 3 dX4_joined_117 rfl rfl ?_
    refine y_lcmp_le C 126 dX4_joined_118 dX4_joined_119 (by decide) (by omega) (fun h115 => ?_) (fun h115 => ?_)
    · refine y_iconst C dX4_joined_126 ?_
      exact hret _ _ _ _ dX4_joined_127 ⟨0, rfl, rfl, by omega⟩
    · refine y_iconst C dX4_joined_122 ?_
      refine j_goto C 127 dX4_joined_123 (by decide) ?_
      exact hret _ _ _ _ dX4_joined_127 ⟨1, rfl, rfl, by omega⟩
  · refine y_lk C (off := 132) 133 dX4_joined_1 (by decide) (by decide) (by omega) (by show Op.lookupswitch.offset [(1015, 127), (2042, 83), (2043, 67), (2045, 75), (2060, 103), (2061, 91), (2062, 115)] 132 a2 = 132; simp only [Op.lookupswitch.offset]; (repeat' split) <;> first | rfl | omega) ?_
    refine j_lload_n C 0 0 dX4_joined_133 rfl rfl ?_
    refine j_lload_n C 2 3 dX4_joined_134 rfl rfl ?_
    refine y_lor0 C dX4_joined_135 (fun a116 la116 ua116 => ?_)
    refine y_l2i C dX4_joined_136 ?_
    refine y_topI (fun a117 la117 ua117 => ?_)
    exact hret _ _ _ _ dX4_joined_137 ⟨a117, rfl, rfl, by omega⟩
set_option maxHeartbeats 4000000 in
theorem s1_X4_reckon {l : Launch} {dC : Nat → ClassId} {dI : Nat → Nat → Nat} {ad : Nat → Nat} {cA : Nat → ClassId} {pr : Nat → Nat → Bool} {Kz : mm_M} {M0 : mm_M} (hM0 : INV pr Kz M0) (hpr : PX pr) (a1 : Int) (ha1 : -2147483648 ≤ a1 ∧ a1 ≤ 2147483647) (a2 : Int) (ha2 : -2147483648 ≤ a2 ∧ a2 ≤ 2147483647) (hp0 : 0 ≤ a1 ∧ a1 ≤ 900) (hp1 : 0 ≤ a2 ∧ a2 ≤ 900) : Ci l 1 yX4_reckon wsX4_reckon dC dI ad cA [.ref (ad 81), .int (sI a1), .int (sI a2)] M0 (fun r M' => ∃ a : Int, r = sI a ∧ INV pr Kz M' ∧ (-2147483648) ≤ a ∧ a ≤ 2147483647) := by
  refine ci_of (cc := cX4_reckon) (maxL := 6) (ty := .int) (lv := [(0, .ref (ad 81)), (1, .int (sI a1)), (2, .int (sI a2))]) (by decide) rfl (fun r M' hp => rfl) (Nat.le_of_ble_eq_true rfl) rfl ?_
  intro p e s m args below meth c A Q C hret
  refine y_iconst C dX4_reckon_0 ?_
  refine j_istore_n C 3 [(3, .int (sI 0)), (0, .ref (ad 81)), (1, .int (sI a1)), (2, .int (sI a2))] dX4_reckon_1 rfl (by decide) rfl ?_
  refine j_iload_n C 2 1 dX4_reckon_2 rfl rfl ?_
  refine j_istore C 4 [(4, .int (sI a1)), (3, .int (sI 0)), (0, .ref (ad 81)), (1, .int (sI a1)), (2, .int (sI a2))] dX4_reckon_3 (by decide) rfl ?_
  have L664 : ∀ (n662 : Nat), ∀ (a665 : Int) (a666 : Int) (M667 : mm_M), (0 ≤ a665 ∧ a665 ≤ 64 ∧ 0 ≤ a666 ∧ a666 ≤ 900 ∧ (900 - a666) < (n662 : Int)) → INV pr Kz M667 → jj p l e (cn_R 1) s m args below meth c 0 0 Q 6 dC dI ad cA A M667 5 [(0, .ref (ad 81)), (2, .int (sI a2)), (3, .int (sI a665)), (4, .int (sI a666))] [] := by
    intro n662
    induction n662 with
    | zero =>
      intro a665 a666 M667 h668 hM667
      exfalso; omega
    | succ n662 ih663 =>
      intro a665 a666 M667 h668 hM667
      refine j_iload C 3 dX4_reckon_5 rfl ?_
      refine j_iload_n C 1 2 dX4_reckon_7 rfl rfl ?_
      refine y_icmp_ge C 166 dX4_reckon_8 (by decide) (by omega) (fun h669 => ?_) (fun h669 => ?_)
      · refine j_iload_n C 2 3 dX4_reckon_166 rfl rfl ?_
        refine y_if_le C 181 dX4_reckon_167 (by decide) (by omega) (fun h695 => ?_) (fun h695 => ?_)
        · refine y_iconst C dX4_reckon_181 ?_
          exact hret _ _ _ _ dX4_reckon_182 ⟨0, rfl, hM667, by omega⟩
        · refine j_aload_n C 0 0 dX4_reckon_170 rfl rfl ?_
          refine y_getC C 3 86 fX4_reckon_26 rfl rfl ft_3_4 sm_3_4 rfl hM667 dX4_reckon_171 ?_
          refine j_iload_n C 2 3 dX4_reckon_174 rfl rfl ?_
          refine y_iconst C dX4_reckon_175 ?_
          refine y_isub C dX4_reckon_176 ?_
          refine y_iald C 37 64 _ _ rfl rfl rfl ak_37 an_37 rfl (sb_37 _) hM667 dX4_reckon_177 (by omega) (fun a696 ea696 la696 ua696 => ?_)
          refine j_goto C 182 dX4_reckon_178 (by decide) ?_
          exact hret _ _ _ _ dX4_reckon_182 ⟨a696, rfl, hM667, by omega⟩
      · refine j_iload C 3 dX4_reckon_11 rfl ?_
        refine j_aload_n C 0 0 dX4_reckon_13 rfl rfl ?_
        refine y_getM C 3 6 fX4_reckon_33 rfl rfl ft_3_5 sm_3_5 (by decide) hM667 dX4_reckon_14 (fun v670 ev670 cv670 => ?_)
        refine y_getT C 6 24 fX4_reckon_95 cv670 rfl ft_6_5 rfl sm_6_5 st_6_5 (by decide) hM667 dX4_reckon_17 (fun v671 cv671 => ?_)
        refine y_alen C 24 900 cv671 rfl rfl an_24 rfl rfl dX4_reckon_20 ?_
        refine y_icmp_ge C 166 dX4_reckon_21 (by decide) (by omega) (fun h672 => ?_) (fun h672 => ?_)
        · exfalso; omega
        · refine j_aload_n C 0 0 dX4_reckon_24 rfl rfl ?_
          refine y_getV C 3 v670 fX4_reckon_33 rfl rfl ft_3_5 (ev670) dX4_reckon_25 ?_
          refine y_getT C 6 24 fX4_reckon_95 cv670 rfl ft_6_5 rfl sm_6_5 st_6_5 (by decide) hM667 dX4_reckon_28 (fun v673 cv673 => ?_)
          refine j_iload C 3 dX4_reckon_31 rfl ?_
          refine y_iald C 24 900 _ _ cv673 rfl rfl ak_24 an_24 rfl (sb_24 _) hM667 dX4_reckon_33 (by omega) (fun a674 ea674 la674 ua674 => ?_)
          refine j_istore C 5 [(5, .int (sI a674)), (0, .ref (ad 81)), (2, .int (sI a2)), (3, .int (sI a665)), (4, .int (sI a666))] dX4_reckon_34 (by decide) rfl ?_
          refine j_iload C 0 dX4_reckon_36 rfl ?_
          refine y_sipush C dX4_reckon_38 rfl ?_
          refine y_icmp_ge C 89 dX4_reckon_41 (by decide) (by omega) (fun h675 => ?_) (fun h675 => ?_)
          · refine j_iload C 0 dX4_reckon_89 rfl ?_
            refine y_sipush C dX4_reckon_91 rfl ?_
            refine y_icmp_ne C 123 dX4_reckon_94 (by decide) (by omega) (fun h676 => ?_) (fun h676 => ?_)
            · refine j_iload_n C 3 3 dX4_reckon_123 rfl rfl ?_
              refine y_iconst C dX4_reckon_124 ?_
              refine y_icmp_lt C 160 dX4_reckon_125 (by decide) (by omega) (fun h677 => ?_) (fun h677 => ?_)
              · refine y_iinc C 4 [(4, .int (sI (a666 + 1))), (5, .int (sI a674)), (0, .ref (ad 81)), (2, .int (sI a2)), (3, .int (sI a665))] dX4_reckon_160 rfl (by decide) rfl ?_
                refine j_goto C 5 dX4_reckon_163 (by decide) ?_
                refine j_lv [2, 3, 4, 0] rfl ?_; exact ih663 a665 (a666 + 1) M667 (by omega) hM667
              · refine y_iinc C 3 [(3, .int (sI (a665 + (-1)))), (5, .int (sI a674)), (0, .ref (ad 81)), (2, .int (sI a2)), (4, .int (sI a666))] dX4_reckon_128 rfl (by decide) rfl ?_
                refine j_aload_n C 2 0 dX4_reckon_131 rfl rfl ?_
                refine y_getC C 3 86 fX4_reckon_26 rfl rfl ft_3_4 sm_3_4 rfl hM667 dX4_reckon_132 ?_
                refine j_iload_n C 0 3 dX4_reckon_135 rfl rfl ?_
                refine y_iconst C dX4_reckon_136 ?_
                refine y_isub C dX4_reckon_137 ?_
                refine j_aload_n C 2 0 dX4_reckon_138 rfl rfl ?_
                refine y_getC C 3 86 fX4_reckon_26 rfl rfl ft_3_4 sm_3_4 rfl hM667 dX4_reckon_139 ?_
                refine j_iload_n C 0 3 dX4_reckon_142 rfl rfl ?_
                refine y_iconst C dX4_reckon_143 ?_
                refine y_isub C dX4_reckon_144 ?_
                refine y_iald C 37 64 _ _ rfl rfl rfl ak_37 an_37 rfl (sb_37 _) hM667 dX4_reckon_145 (by omega) (fun a678 ea678 la678 ua678 => ?_)
                refine y_i2l C dX4_reckon_146 (by omega) ?_
                refine j_iload C 1 dX4_reckon_147 rfl ?_
                refine j_aload_n C 2 0 dX4_reckon_149 rfl rfl ?_
                refine y_getC C 3 86 fX4_reckon_26 rfl rfl ft_3_4 sm_3_4 rfl hM667 dX4_reckon_150 ?_
                refine j_iload_n C 0 3 dX4_reckon_153 rfl rfl ?_
                refine y_iald C 37 64 _ _ rfl rfl rfl ak_37 an_37 rfl (sb_37 _) hM667 dX4_reckon_154 (by omega) (fun a679 ea679 la679 ua679 => ?_)
                refine y_i2l C dX4_reckon_155 (by omega) ?_
                refine j_callSi C (d := 0) (As := [.long (sJ a678), .int (sI a674), .long (sJ a679)]) (st := [.int (sI ((a665 + (-1)) - 1)), .ref (ad 86)]) (s1_X4_joined hM667 a678 (by omega) a674 (by omega) a679 (by omega)) gX4_reckon_X4_joined rfl hdX4_joineds (by decide) (Nat.le_of_ble_eq_true rfl) dX4_reckon_156 rfl (fun r680 M681 h682 => ?_)
                obtain ⟨a684, rfl, rfl, h683⟩ := h682
                refine y_iastF C 37 64 rfl rfl rfl ak_37 an_37 rfl (sb_37 _) hM667 (PX.w hpr rfl rfl) dX4_reckon_159 (by omega) (fun M685 eM685 hM685 => ?_)
                refine y_iinc C 4 [(4, .int (sI (a666 + 1))), (3, .int (sI (a665 + (-1)))), (5, .int (sI a674)), (0, .ref (ad 81)), (2, .int (sI a2))] dX4_reckon_160 rfl (by decide) rfl ?_
                refine j_goto C 5 dX4_reckon_163 (by decide) ?_
                refine j_lv [3, 4, 1, 0] rfl ?_; exact ih663 (a665 + (-1)) (a666 + 1) M685 (by omega) hM685
            · refine j_iload_n C 3 3 dX4_reckon_97 rfl rfl ?_
              refine y_iconst C dX4_reckon_98 ?_
              refine y_icmp_lt C 160 dX4_reckon_99 (by decide) (by omega) (fun h686 => ?_) (fun h686 => ?_)
              · refine y_iinc C 4 [(4, .int (sI (a666 + 1))), (5, .int (sI a674)), (0, .ref (ad 81)), (2, .int (sI a2)), (3, .int (sI a665))] dX4_reckon_160 rfl (by decide) rfl ?_
                refine j_goto C 5 dX4_reckon_163 (by decide) ?_
                refine j_lv [2, 3, 4, 0] rfl ?_; exact ih663 a665 (a666 + 1) M667 (by omega) hM667
              · refine j_aload_n C 1 0 dX4_reckon_102 rfl rfl ?_
                refine y_getC C 3 86 fX4_reckon_26 rfl rfl ft_3_4 sm_3_4 rfl hM667 dX4_reckon_103 ?_
                refine j_iload_n C 3 3 dX4_reckon_106 rfl rfl ?_
                refine y_iconst C dX4_reckon_107 ?_
                refine y_isub C dX4_reckon_108 ?_
                refine y_iconst C dX4_reckon_109 ?_
                refine j_aload_n C 1 0 dX4_reckon_110 rfl rfl ?_
                refine y_getC C 3 86 fX4_reckon_26 rfl rfl ft_3_4 sm_3_4 rfl hM667 dX4_reckon_111 ?_
                refine j_iload_n C 3 3 dX4_reckon_114 rfl rfl ?_
                refine y_iconst C dX4_reckon_115 ?_
                refine y_isub C dX4_reckon_116 ?_
                refine y_iald C 37 64 _ _ rfl rfl rfl ak_37 an_37 rfl (sb_37 _) hM667 dX4_reckon_117 (by omega) (fun a687 ea687 la687 ua687 => ?_)
                refine y_isub0 C dX4_reckon_118 (fun a688 la688 ua688 => ?_)
                refine y_iastF C 37 64 rfl rfl rfl ak_37 an_37 rfl (sb_37 _) hM667 (PX.w hpr rfl rfl) dX4_reckon_119 (by omega) (fun M689 eM689 hM689 => ?_)
                refine j_goto C 160 dX4_reckon_120 (by decide) ?_
                refine y_iinc C 4 [(4, .int (sI (a666 + 1))), (5, .int (sI a674)), (0, .ref (ad 81)), (2, .int (sI a2)), (3, .int (sI a665))] dX4_reckon_160 rfl (by decide) rfl ?_
                refine j_goto C 5 dX4_reckon_163 (by decide) ?_
                refine j_lv [2, 3, 4, 0] rfl ?_; exact ih663 a665 (a666 + 1) M689 (by omega) hM689
          · refine j_iload_n C 3 3 dX4_reckon_44 rfl rfl ?_
            refine j_aload_n C 1 0 dX4_reckon_45 rfl rfl ?_
            refine y_getC C 3 86 fX4_reckon_26 rfl rfl ft_3_4 sm_3_4 rfl hM667 dX4_reckon_46 ?_
            refine y_alen C 37 64 rfl rfl rfl an_37 rfl rfl dX4_reckon_49 ?_
            refine y_icmp_ge C 160 dX4_reckon_50 (by decide) (by omega) (fun h690 => ?_) (fun h690 => ?_)
            · refine y_iinc C 4 [(4, .int (sI (a666 + 1))), (5, .int (sI a674)), (0, .ref (ad 81)), (2, .int (sI a2)), (3, .int (sI a665))] dX4_reckon_160 rfl (by decide) rfl ?_
              refine j_goto C 5 dX4_reckon_163 (by decide) ?_
              refine j_lv [2, 3, 4, 0] rfl ?_; exact ih663 a665 (a666 + 1) M667 (by omega) hM667
            · refine j_aload_n C 1 0 dX4_reckon_53 rfl rfl ?_
              refine y_getC C 3 86 fX4_reckon_26 rfl rfl ft_3_4 sm_3_4 rfl hM667 dX4_reckon_54 ?_
              refine j_iload_n C 3 3 dX4_reckon_57 rfl rfl ?_
              refine j_iload C 0 dX4_reckon_58 rfl ?_
              refine y_sipush C dX4_reckon_60 rfl ?_
              refine y_icmp_ge C 71 dX4_reckon_63 (by decide) (by omega) (fun h691 => ?_) (fun h691 => ?_)
              · refine j_aload_n C 1 0 dX4_reckon_71 rfl rfl ?_
                refine y_getC C 3 85 fX4_reckon_23 rfl rfl ft_3_3 sm_3_3 rfl hM667 dX4_reckon_72 ?_
                refine j_iload C 0 dX4_reckon_75 rfl ?_
                refine y_sipush C dX4_reckon_77 rfl ?_
                refine y_isub C dX4_reckon_80 ?_
                refine y_iald C 36 8 _ _ rfl rfl rfl ak_36 an_36 rfl (sb_36 _) hM667 dX4_reckon_81 (by omega) (fun a692 ea692 la692 ua692 => ?_)
                refine y_iastF C 37 64 rfl rfl rfl ak_37 an_37 rfl (sb_37 _) hM667 (PX.w hpr rfl rfl) dX4_reckon_82 (by omega) (fun M693 eM693 hM693 => ?_)
                refine y_iinc C 3 [(3, .int (sI (a665 + 1))), (5, .int (sI a674)), (0, .ref (ad 81)), (2, .int (sI a2)), (4, .int (sI a666))] dX4_reckon_83 rfl (by decide) rfl ?_
                refine j_goto C 160 dX4_reckon_86 (by decide) ?_
                refine y_iinc C 4 [(4, .int (sI (a666 + 1))), (3, .int (sI (a665 + 1))), (5, .int (sI a674)), (0, .ref (ad 81)), (2, .int (sI a2))] dX4_reckon_160 rfl (by decide) rfl ?_
                refine j_goto C 5 dX4_reckon_163 (by decide) ?_
                refine j_lv [3, 4, 1, 0] rfl ?_; exact ih663 (a665 + 1) (a666 + 1) M693 (by omega) hM693
              · refine j_iload C 0 dX4_reckon_66 rfl ?_
                refine j_goto C 82 dX4_reckon_68 (by decide) ?_
                refine y_iastF C 37 64 rfl rfl rfl ak_37 an_37 rfl (sb_37 _) hM667 (PX.w hpr rfl rfl) dX4_reckon_82 (by omega) (fun M694 eM694 hM694 => ?_)
                refine y_iinc C 3 [(3, .int (sI (a665 + 1))), (5, .int (sI a674)), (0, .ref (ad 81)), (2, .int (sI a2)), (4, .int (sI a666))] dX4_reckon_83 rfl (by decide) rfl ?_
                refine j_goto C 160 dX4_reckon_86 (by decide) ?_
                refine y_iinc C 4 [(4, .int (sI (a666 + 1))), (3, .int (sI (a665 + 1))), (5, .int (sI a674)), (0, .ref (ad 81)), (2, .int (sI a2))] dX4_reckon_160 rfl (by decide) rfl ?_
                refine j_goto C 5 dX4_reckon_163 (by decide) ?_
                refine j_lv [3, 4, 1, 0] rfl ?_; exact ih663 (a665 + 1) (a666 + 1) M694 (by omega) hM694
  refine j_lv [2, 4, 1, 0] rfl ?_; exact L664 2010 0 a1 M0 (by omega) hM0
set_option maxHeartbeats 4000000 in
theorem s1_X4_lets {l : Launch} {dC : Nat → ClassId} {dI : Nat → Nat → Nat} {ad : Nat → Nat} {cA : Nat → ClassId} {pr : Nat → Nat → Bool} {Kz : mm_M} {M0 : mm_M} (hM0 : INV pr Kz M0) (hpr : PX pr) (a1 : Int) (ha1 : -2147483648 ≤ a1 ∧ a1 ≤ 2147483647) (a2 : Int) (ha2 : -2147483648 ≤ a2 ∧ a2 ≤ 2147483647) (a3 : Int) (ha3 : -2147483648 ≤ a3 ∧ a3 ≤ 2147483647) (hp0 : 0 ≤ a1 ∧ a1 ≤ 5) (hp1 : 0 ≤ a2 ∧ a2 ≤ 7) : Ci l 2 yX4_lets wsX4_lets dC dI ad cA [.ref (ad 81), .int (sI a1), .int (sI a2), .int (sI a3)] M0 (fun r M' => ∃ a : Int, r = sI a ∧ INV pr Kz M' ∧ 0 ≤ a ∧ a ≤ 1) := by
  refine ci_of (cc := cX4_lets) (maxL := 4) (ty := .boolean) (lv := [(0, .ref (ad 81)), (1, .int (sI a1)), (2, .int (sI a2)), (3, .int (sI a3))]) (by decide) rfl (fun r M' hp => by obtain ⟨a, rfl, -, h⟩ := hp; rcases (show a = 0 ∨ a = 1 by omega) with rfl | rfl <;> rfl) (Nat.le_of_ble_eq_true rfl) rfl ?_
  intro p e s m args below meth c A Q C hret
  refine j_aload_n C 0 0 dX4_lets_0 rfl rfl ?_
  refine y_getC C 3 83 fX4_lets_15 rfl rfl ft_3_1 sm_3_1 rfl hM0 dX4_lets_1 ?_
  refine j_iload_n C 2 2 dX4_lets_4 rfl rfl ?_
  refine y_iald C 34 8 _ _ rfl rfl rfl ak_34 an_34 rfl (sb_34 _) hM0 dX4_lets_5 (by omega) (fun a101 ea101 la101 ua101 => ?_)
  refine j_aload_n C 0 0 dX4_lets_6 rfl rfl ?_
  refine y_getM C 3 6 fX4_lets_33 rfl rfl ft_3_5 sm_3_5 (by decide) hM0 dX4_lets_7 (fun v102 ev102 cv102 => ?_)
  refine y_getT C 6 21 fX4_lets_68 cv102 rfl ft_6_2 rfl sm_6_2 st_6_2 (by decide) hM0 dX4_lets_10 (fun v103 cv103 => ?_)
  refine j_iload_n C 1 1 dX4_lets_13 rfl rfl ?_
  refine y_iald C 21 6 _ _ cv103 rfl rfl ak_21 an_21 rfl (sb_21 _) hM0 dX4_lets_14 (by omega) (fun a104 ea104 la104 ua104 => ?_)
  refine y_icmp_le C 20 dX4_lets_15 (by decide) (by omega) (fun h105 => ?_) (fun h105 => ?_)
  · refine j_aload_n C 0 0 dX4_lets_20 rfl rfl ?_
    refine y_getV C 3 v102 fX4_lets_33 rfl rfl ft_3_5 (ev102) dX4_lets_21 ?_
    refine y_getI C 6 _ _ fX4_lets_73 cv102 rfl ft_6_9 sb_6_9 hM0 dX4_lets_24 (fun a106 ea106 la106 ua106 => ?_)
    refine j_aload_n C 0 0 dX4_lets_27 rfl rfl ?_
    refine y_getV C 3 v102 fX4_lets_33 rfl rfl ft_3_5 (ev102) dX4_lets_28 ?_
    refine y_getI C 6 _ _ fX4_lets_76 cv102 rfl ft_6_10 sb_6_10 hM0 dX4_lets_31 (fun a108 ea108 la108 ua108 => ?_)
    refine y_icmp_ne C 39 dX4_lets_34 (by decide) (by omega) (fun h110 => ?_) (fun h110 => ?_)
    · refine j_aload_n C 0 0 dX4_lets_39 rfl rfl ?_
      refine j_iload_n C 1 1 dX4_lets_40 rfl rfl ?_
      refine j_iload_n C 2 2 dX4_lets_41 rfl rfl ?_
      refine j_iload_n C 3 3 dX4_lets_42 rfl rfl ?_
      refine j_callVv C (d := 1) (As := [.int (sI a1), .int (sI a2), .int (sI a3)]) (st := []) 81 (s_lt rfl rfl) (s_kc (c := 3) rfl rfl) (by decide) rfl (s1_X4_learn hM0 hpr a1 (by omega) a2 (by omega) a3 (by omega) (by omega) (by omega)) gX4_lets_X4_learn rfl hdX4_learn (by decide) (Nat.le_of_ble_eq_true rfl) dX4_lets_43 rfl (fun M112 h113 => ?_)
      have hM112 := h113
      refine j_aload_n C 0 0 dX4_lets_46 rfl rfl ?_
      refine j_aload_n C 0 0 dX4_lets_47 rfl rfl ?_
      refine y_getM C 3 6 fX4_lets_33 rfl rfl ft_3_5 sm_3_5 (by decide) hM112 dX4_lets_48 (fun v115 ev115 cv115 => ?_)
      refine y_getI C 6 _ _ fX4_lets_73 cv115 rfl ft_6_9 sb_6_9 hM112 dX4_lets_51 (fun a116 ea116 la116 ua116 => ?_)
      refine j_aload_n C 0 0 dX4_lets_54 rfl rfl ?_
      refine y_getV C 3 v115 fX4_lets_33 rfl rfl ft_3_5 (ev115) dX4_lets_55 ?_
      refine y_getI C 6 _ _ fX4_lets_76 cv115 rfl ft_6_10 sb_6_10 hM112 dX4_lets_58 (fun a118 ea118 la118 ua118 => ?_)
      refine j_callVi C (d := 1) (As := [.int (sI a116), .int (sI a118)]) (st := []) 81 (s_lt rfl rfl) (s_kc (c := 3) rfl rfl) (by decide) rfl (s1_X4_reckon hM112 hpr a116 (by omega) a118 (by omega) (by omega) (by omega)) gX4_lets_X4_reckon rfl hdX4_reckon (by decide) (Nat.le_of_ble_eq_true rfl) dX4_lets_61 rfl (fun r120 M121 h122 => ?_)
      obtain ⟨a124, rfl, hM121, h123⟩ := h122
      refine y_if_eq C 71 dX4_lets_64 (by decide) (by omega) (fun h125 => ?_) (fun h125 => ?_)
      · refine y_iconst C dX4_lets_71 ?_
        exact hret _ _ _ _ dX4_lets_72 ⟨0, rfl, hM121, by omega⟩
      · refine y_iconst C dX4_lets_67 ?_
        refine j_goto C 72 dX4_lets_68 (by decide) ?_
        exact hret _ _ _ _ dX4_lets_72 ⟨1, rfl, hM121, by omega⟩
    · refine y_iconst C dX4_lets_37 ?_
      exact hret _ _ _ _ dX4_lets_38 ⟨1, rfl, hM0, by omega⟩
  · refine y_iconst C dX4_lets_18 ?_
    exact hret _ _ _ _ dX4_lets_19 ⟨0, rfl, hM0, by omega⟩
set_option maxHeartbeats 4000000 in
theorem s1_X4_wish {l : Launch} {dC : Nat → ClassId} {dI : Nat → Nat → Nat} {ad : Nat → Nat} {cA : Nat → ClassId} {pr : Nat → Nat → Bool} {Kz : mm_M} {M0 : mm_M} (hM0 : INV pr Kz M0) (hpr : PX pr) (a1 : Int) (ha1 : -2147483648 ≤ a1 ∧ a1 ≤ 2147483647) (a2 : Int) (ha2 : -2147483648 ≤ a2 ∧ a2 ≤ 2147483647) (a3 : Int) (ha3 : -2147483648 ≤ a3 ∧ a3 ≤ 2147483647) (hp0 : 0 ≤ a1 ∧ a1 ≤ 5) (hp1 : 0 ≤ a2 ∧ a2 ≤ 7) : Ci l 2 yX4_wish wsX4_wish dC dI ad cA [.ref (ad 81), .int (sI a1), .int (sI a2), .int (sI a3)] M0 (fun r M' => ∃ a : Int, r = sI a ∧ INV pr Kz M' ∧ (-2147483648) ≤ a ∧ a ≤ 2147483647) := by
  refine ci_of (cc := cX4_wish) (maxL := 4) (ty := .int) (lv := [(0, .ref (ad 81)), (1, .int (sI a1)), (2, .int (sI a2)), (3, .int (sI a3))]) (by decide) rfl (fun r M' hp => rfl) (Nat.le_of_ble_eq_true rfl) rfl ?_
  intro p e s m args below meth c A Q C hret
  refine j_aload_n C 0 0 dX4_wish_0 rfl rfl ?_
  refine y_getM C 3 6 fX4_wish_33 rfl rfl ft_3_5 sm_3_5 (by decide) hM0 dX4_wish_1 (fun v101 ev101 cv101 => ?_)
  refine y_getI C 6 _ _ fX4_wish_86 cv101 rfl ft_6_7 sb_6_7 hM0 dX4_wish_4 (fun a102 ea102 la102 ua102 => ?_)
  refine j_aload_n C 0 0 dX4_wish_7 rfl rfl ?_
  refine y_getV C 3 v101 fX4_wish_33 rfl rfl ft_3_5 (ev101) dX4_wish_8 ?_
  refine y_getI C 6 _ _ fX4_wish_89 cv101 rfl ft_6_8 sb_6_8 hM0 dX4_wish_11 (fun a104 ea104 la104 ua104 => ?_)
  refine y_icmp_ne C 34 dX4_wish_14 (by decide) (by omega) (fun h106 => ?_) (fun h106 => ?_)
  · refine j_aload_n C 0 0 dX4_wish_34 rfl rfl ?_
    refine j_iload_n C 1 1 dX4_wish_35 rfl rfl ?_
    refine j_iload_n C 2 2 dX4_wish_36 rfl rfl ?_
    refine j_iload_n C 3 3 dX4_wish_37 rfl rfl ?_
    refine j_callVv C (d := 1) (As := [.int (sI a1), .int (sI a2), .int (sI a3)]) (st := []) 81 (s_lt rfl rfl) (s_kc (c := 3) rfl rfl) (by decide) rfl (s1_X4_learn hM0 hpr a1 (by omega) a2 (by omega) a3 (by omega) (by omega) (by omega)) gX4_wish_X4_learn rfl hdX4_learn (by decide) (Nat.le_of_ble_eq_true rfl) dX4_wish_38 rfl (fun M108 h109 => ?_)
    have hM108 := h109
    refine j_aload_n C 0 0 dX4_wish_41 rfl rfl ?_
    refine j_aload_n C 0 0 dX4_wish_42 rfl rfl ?_
    refine y_getM C 3 6 fX4_wish_33 rfl rfl ft_3_5 sm_3_5 (by decide) hM108 dX4_wish_43 (fun v111 ev111 cv111 => ?_)
    refine y_getI C 6 _ _ fX4_wish_86 cv111 rfl ft_6_7 sb_6_7 hM108 dX4_wish_46 (fun a112 ea112 la112 ua112 => ?_)
    refine j_aload_n C 0 0 dX4_wish_49 rfl rfl ?_
    refine y_getV C 3 v111 fX4_wish_33 rfl rfl ft_3_5 (ev111) dX4_wish_50 ?_
    refine y_getI C 6 _ _ fX4_wish_89 cv111 rfl ft_6_8 sb_6_8 hM108 dX4_wish_53 (fun a114 ea114 la114 ua114 => ?_)
    refine j_callVi C (d := 1) (As := [.int (sI a112), .int (sI a114)]) (st := []) 81 (s_lt rfl rfl) (s_kc (c := 3) rfl rfl) (by decide) rfl (s1_X4_reckon hM108 hpr a112 (by omega) a114 (by omega) (by omega) (by omega)) gX4_wish_X4_reckon rfl hdX4_reckon (by decide) (Nat.le_of_ble_eq_true rfl) dX4_wish_56 rfl (fun r116 M117 h118 => ?_)
    obtain ⟨a120, rfl, hM117, h119⟩ := h118
    exact hret _ _ _ _ dX4_wish_59 ⟨a120, rfl, hM117, by omega⟩
  · refine j_aload_n C 0 0 dX4_wish_17 rfl rfl ?_
    refine y_getV C 3 v101 fX4_wish_33 rfl rfl ft_3_5 (ev101) dX4_wish_18 ?_
    refine y_getT C 6 21 fX4_wish_68 cv101 rfl ft_6_2 rfl sm_6_2 st_6_2 (by decide) hM0 dX4_wish_21 (fun v121 cv121 => ?_)
    refine j_iload_n C 1 1 dX4_wish_24 rfl rfl ?_
    refine y_iald C 21 6 _ _ cv121 rfl rfl ak_21 an_21 rfl (sb_21 _) hM0 dX4_wish_25 (by omega) (fun a122 ea122 la122 ua122 => ?_)
    refine j_aload_n C 0 0 dX4_wish_26 rfl rfl ?_
    refine y_getC C 3 83 fX4_wish_15 rfl rfl ft_3_1 sm_3_1 rfl hM0 dX4_wish_27 ?_
    refine j_iload_n C 2 2 dX4_wish_30 rfl rfl ?_
    refine y_iald C 34 8 _ _ rfl rfl rfl ak_34 an_34 rfl (sb_34 _) hM0 dX4_wish_31 (by omega) (fun a123 ea123 la123 ua123 => ?_)
    refine y_isub0 C dX4_wish_32 (fun a124 la124 ua124 => ?_)
    exact hret _ _ _ _ dX4_wish_33 ⟨a124, rfl, hM0, by omega⟩
set_option maxHeartbeats 4000000 in
theorem s1_X4_choice {l : Launch} {dC : Nat → ClassId} {dI : Nat → Nat → Nat} {ad : Nat → Nat} {cA : Nat → ClassId} {pr : Nat → Nat → Bool} {Kz : mm_M} {M0 : mm_M} (hM0 : INV pr Kz M0) (hpr : PX pr) (a1 : Int) (ha1 : -2147483648 ≤ a1 ∧ a1 ≤ 2147483647) (a2 : Int) (ha2 : -2147483648 ≤ a2 ∧ a2 ≤ 2147483647) (a3 : Int) (ha3 : -2147483648 ≤ a3 ∧ a3 ≤ 2147483647) (hp0 : 0 ≤ a1 ∧ a1 ≤ 5) : Ci l 3 yX4_choice wsX4_choice dC dI ad cA [.ref (ad 81), .int (sI a1), .int (sI a2), .int (sI a3)] M0 (fun r M' => ∃ a : Int, r = sI a ∧ INV pr Kz M' ∧ (-1) ≤ a ∧ a ≤ 7) := by
  refine ci_of (cc := cX4_choice) (maxL := 10) (ty := .int) (lv := [(0, .ref (ad 81)), (1, .int (sI a1)), (2, .int (sI a2)), (3, .int (sI a3))]) (by decide) rfl (fun r M' hp => rfl) (Nat.le_of_ble_eq_true rfl) rfl ?_
  intro p e s m args below meth c A Q C hret
  refine y_iconst C dX4_choice_0 ?_
  refine j_istore C 4 [(4, .int (sI (-1))), (0, .ref (ad 81)), (1, .int (sI a1)), (2, .int (sI a2)), (3, .int (sI a3))] dX4_choice_1 (by decide) rfl ?_
  refine y_iconst C dX4_choice_3 ?_
  refine j_istore C 5 [(5, .int (sI 0)), (4, .int (sI (-1))), (0, .ref (ad 81)), (1, .int (sI a1)), (2, .int (sI a2)), (3, .int (sI a3))] dX4_choice_4 (by decide) rfl ?_
  refine y_iconst C dX4_choice_6 ?_
  refine j_aload_n C 2 0 dX4_choice_7 rfl rfl ?_
  refine y_getI C 3 _ _ fX4_choice_29 rfl rfl ft_3_6 sb_3_6 hM0 dX4_choice_8 (fun a101 ea101 la101 ua101 => ?_)
  refine y_shl1 C 8 256 dX4_choice_11 rfl (by decide) (by omega) (fun a103 la103 ua103 => ?_)
  refine y_iconst C dX4_choice_12 ?_
  refine y_isub C dX4_choice_13 ?_
  refine j_iload_n C 5 3 dX4_choice_14 rfl rfl ?_
  refine y_iconst C dX4_choice_15 ?_
  refine y_not C dX4_choice_16 ?_
  refine y_iandL C dX4_choice_17 (by omega) (fun a104 la104 ua104 => ?_)
  refine j_iload_n C 4 2 dX4_choice_18 rfl rfl ?_
  refine y_iconst C dX4_choice_19 ?_
  refine y_not C dX4_choice_20 ?_
  refine y_iandL C dX4_choice_21 (by omega) (fun a105 la105 ua105 => ?_)
  refine y_if_ne C 28 dX4_choice_22 (by decide) (by omega) (fun h106 => ?_) (fun h106 => ?_)
  · refine j_iload_n C 4 2 dX4_choice_28 rfl rfl ?_
    refine j_callSi C (d := 0) (As := [.int (sI a2)]) (st := []) (s1_J6_bitCount_0f7a4 hM0 a2 (by omega)) gX4_choice_J6_bitCount_0f7a4 rfl hdJ6_bitCount_0f7a4s (by decide) (Nat.le_of_ble_eq_true rfl) dX4_choice_29 rfl (fun r107 M108 h109 => ?_)
    obtain ⟨a111, rfl, rfl, h110⟩ := h109
    refine j_istore C 6 [(6, .int (sI a111)), (5, .int (sI 0)), (4, .int (sI (-1))), (0, .ref (ad 81)), (1, .int (sI a1)), (2, .int (sI a2)), (3, .int (sI a3))] dX4_choice_32 (by decide) rfl ?_
    refine y_iconst C dX4_choice_34 ?_
    refine j_istore C 7 [(7, .int (sI 0)), (6, .int (sI a111)), (5, .int (sI 0)), (4, .int (sI (-1))), (0, .ref (ad 81)), (1, .int (sI a1)), (2, .int (sI a2)), (3, .int (sI a3))] dX4_choice_35 (by decide) rfl ?_
    have L438 : ∀ (n436 : Nat), ∀ (a439 : Int) (a440 : Int) (a441 : Int) (M442 : mm_M), ((-1) ≤ a439 ∧ a439 ≤ 7 ∧ 0 ≤ a440 ∧ a440 ≤ 2147483647 ∧ 0 ≤ a441 ∧ a441 ≤ 8 ∧ (8 - a441) < (n436 : Int)) → INV pr Kz M442 → jj p l e (cn_R 3) s m args below meth c 0 0 Q 10 dC dI ad cA A M442 37 [(0, .ref (ad 81)), (1, .int (sI a1)), (2, .int (sI a2)), (3, .int (sI a3)), (4, .int (sI a439)), (5, .int (sI a440)), (6, .int (sI a111)), (7, .int (sI a441))] [] := by
      intro n436
      induction n436 with
      | zero =>
        intro a439 a440 a441 M442 h443 hM442
        exfalso; omega
      | succ n436 ih437 =>
        intro a439 a440 a441 M442 h443 hM442
        refine j_iload C 7 dX4_choice_37 rfl ?_
        refine j_aload_n C 0 0 dX4_choice_39 rfl rfl ?_
        refine y_getI C 3 _ _ fX4_choice_29 rfl rfl ft_3_6 sb_3_6 hM442 dX4_choice_40 (fun a444 ea444 la444 ua444 => ?_)
        refine y_icmp_ge C 172 dX4_choice_43 (by decide) (by omega) (fun h446 => ?_) (fun h446 => ?_)
        · refine j_iload C 4 dX4_choice_172 rfl ?_
          exact hret _ _ _ _ dX4_choice_174 ⟨a439, rfl, hM442, by omega⟩
        · refine j_iload_n C 3 3 dX4_choice_46 rfl rfl ?_
          refine j_iload C 7 dX4_choice_47 rfl ?_
          refine y_ishr0 C dX4_choice_49 (fun a447 la447 ua447 => ?_)
          refine y_iconst C dX4_choice_50 ?_
          refine y_iandR C dX4_choice_51 (by omega) (fun a448 la448 ua448 => ?_)
          refine y_if_ne C 166 dX4_choice_52 (by decide) (by omega) (fun h449 => ?_) (fun h449 => ?_)
          · refine y_iinc C 7 [(7, .int (sI (a441 + 1))), (0, .ref (ad 81)), (1, .int (sI a1)), (2, .int (sI a2)), (3, .int (sI a3)), (4, .int (sI a439)), (5, .int (sI a440)), (6, .int (sI a111))] dX4_choice_166 rfl (by decide) rfl ?_
            refine j_goto C 37 dX4_choice_169 (by decide) ?_
            refine j_lv [1, 2, 3, 4, 5, 6, 7, 0] rfl ?_; exact ih437 a439 a440 (a441 + 1) M442 (by omega) hM442
          · refine j_iload C 7 dX4_choice_55 rfl ?_
            refine y_bipush C dX4_choice_57 rfl ?_
            refine y_imul C dX4_choice_59 ?_
            refine j_iload_n C 1 1 dX4_choice_60 rfl rfl ?_
            refine y_bipush C dX4_choice_61 rfl ?_
            refine y_imul C dX4_choice_63 ?_
            refine j_iload C 6 dX4_choice_64 rfl ?_
            refine y_iadd C dX4_choice_66 ?_
            refine y_iconst C dX4_choice_67 ?_
            refine y_imul C dX4_choice_68 ?_
            refine y_iadd C dX4_choice_69 ?_
            refine j_iload_n C 2 2 dX4_choice_70 rfl rfl ?_
            refine j_iload C 7 dX4_choice_71 rfl ?_
            refine y_ishr0 C dX4_choice_73 (fun a450 la450 ua450 => ?_)
            refine y_iconst C dX4_choice_74 ?_
            refine y_iandR C dX4_choice_75 (by omega) (fun a451 la451 ua451 => ?_)
            refine y_iadd C dX4_choice_76 ?_
            refine j_istore C 8 [(8, .int (sI (((a441 * 108) + (((a1 * 9) + a111) * 2)) + a451))), (0, .ref (ad 81)), (1, .int (sI a1)), (2, .int (sI a2)), (3, .int (sI a3)), (4, .int (sI a439)), (5, .int (sI a440)), (6, .int (sI a111)), (7, .int (sI a441))] dX4_choice_77 (by decide) rfl ?_
            refine j_iload C 0 dX4_choice_79 rfl ?_
            have J456 : ∀ (a455 : Int), ((-2147483648) ≤ a455 ∧ a455 ≤ 2147483647 ∧ (¬ a455 = -1 ∨ (0 ≤ (((a441 * 108) + (((a1 * 9) + a111) * 2)) + a451) ∧ (((a441 * 108) + (((a1 * 9) + a111) * 2)) + a451) < 864))) → jj p l e (cn_R 3) s m args below meth c 0 0 Q 10 dC dI ad cA A M442 105 [(0, .ref (ad 81)), (1, .int (sI a1)), (2, .int (sI a2)), (3, .int (sI a3)), (4, .int (sI a439)), (5, .int (sI a440)), (6, .int (sI a111)), (7, .int (sI a441)), (8, .int (sI (((a441 * 108) + (((a1 * 9) + a111) * 2)) + a451)))] [.int (sI a455)] := by
              intro a455 h457
              refine j_istore C 9 [(9, .int (sI a455)), (0, .ref (ad 81)), (1, .int (sI a1)), (2, .int (sI a2)), (3, .int (sI a3)), (4, .int (sI a439)), (5, .int (sI a440)), (6, .int (sI a111)), (7, .int (sI a441)), (8, .int (sI (((a441 * 108) + (((a1 * 9) + a111) * 2)) + a451)))] dX4_choice_105 (by decide) rfl ?_
              refine j_iload C 0 dX4_choice_107 rfl ?_
              refine y_iconst C dX4_choice_109 ?_
              refine y_icmp_ne C 151 dX4_choice_110 (by decide) (by omega) (fun h458 => ?_) (fun h458 => ?_)
              · refine j_iload C 0 dX4_choice_151 rfl ?_
                refine j_iload C 6 dX4_choice_153 rfl ?_
                refine y_icmp_le C 166 dX4_choice_155 (by decide) (by omega) (fun h459 => ?_) (fun h459 => ?_)
                · refine y_iinc C 8 [(7, .int (sI (a441 + 1))), (9, .int (sI a455)), (0, .ref (ad 81)), (1, .int (sI a1)), (2, .int (sI a2)), (3, .int (sI a3)), (4, .int (sI a439)), (5, .int (sI a440)), (6, .int (sI a111)), (8, .int (sI (((a441 * 108) + (((a1 * 9) + a111) * 2)) + a451)))] dX4_choice_166 rfl (by decide) rfl ?_
                  refine j_goto C 37 dX4_choice_169 (by decide) ?_
                  refine j_lv [2, 3, 4, 5, 6, 7, 8, 0] rfl ?_; exact ih437 a439 a440 (a441 + 1) M442 (by omega) hM442
                · refine j_iload C 0 dX4_choice_158 rfl ?_
                  refine j_istore C 5 [(5, .int (sI a455)), (9, .int (sI a455)), (0, .ref (ad 81)), (1, .int (sI a1)), (2, .int (sI a2)), (3, .int (sI a3)), (4, .int (sI a439)), (6, .int (sI a111)), (7, .int (sI a441)), (8, .int (sI (((a441 * 108) + (((a1 * 9) + a111) * 2)) + a451)))] dX4_choice_160 (by decide) rfl ?_
                  refine j_iload C 8 dX4_choice_162 rfl ?_
                  refine j_istore C 4 [(4, .int (sI a441)), (5, .int (sI a455)), (9, .int (sI a455)), (0, .ref (ad 81)), (1, .int (sI a1)), (2, .int (sI a2)), (3, .int (sI a3)), (6, .int (sI a111)), (7, .int (sI a441)), (8, .int (sI (((a441 * 108) + (((a1 * 9) + a111) * 2)) + a451)))] dX4_choice_164 (by decide) rfl ?_
                  refine y_iinc C 8 [(7, .int (sI (a441 + 1))), (4, .int (sI a441)), (5, .int (sI a455)), (9, .int (sI a455)), (0, .ref (ad 81)), (1, .int (sI a1)), (2, .int (sI a2)), (3, .int (sI a3)), (6, .int (sI a111)), (8, .int (sI (((a441 * 108) + (((a1 * 9) + a111) * 2)) + a451)))] dX4_choice_166 rfl (by decide) rfl ?_
                  refine j_goto C 37 dX4_choice_169 (by decide) ?_
                  refine j_lv [4, 5, 6, 7, 1, 2, 8, 0] rfl ?_; exact ih437 a441 a455 (a441 + 1) M442 (by omega) hM442
              · refine j_aload_n C 1 0 dX4_choice_113 rfl rfl ?_
                refine j_iload_n C 2 1 dX4_choice_114 rfl rfl ?_
                refine j_iload C 8 dX4_choice_115 rfl ?_
                refine j_iload_n C 3 2 dX4_choice_117 rfl rfl ?_
                refine j_callVi C (d := 2) (As := [.int (sI a1), .int (sI a441), .int (sI a2)]) (st := []) 81 (s_lt rfl rfl) (s_kc (c := 3) rfl rfl) (by decide) rfl (s1_X4_lets hM442 hpr a1 (by omega) a441 (by omega) a2 (by omega) (by omega) (by omega)) gX4_choice_X4_lets rfl hdX4_lets (by decide) (Nat.le_of_ble_eq_true rfl) dX4_choice_118 rfl (fun r460 M461 h462 => ?_)
                obtain ⟨a464, rfl, hM461, h463⟩ := h462
                have J474 : ∀ (a472 : Int) (M473 : mm_M), (0 ≤ a472 ∧ a472 ≤ 2147483647) → INV pr Kz M473 → jj p l e (cn_R 3) s m args below meth c 0 0 Q 10 dC dI ad cA A M473 140 [(0, .ref (ad 81)), (1, .int (sI a1)), (2, .int (sI a2)), (3, .int (sI a3)), (4, .int (sI a439)), (5, .int (sI a440)), (6, .int (sI a111)), (7, .int (sI a441)), (8, .int (sI (((a441 * 108) + (((a1 * 9) + a111) * 2)) + a451)))] [.int (sI a472)] := by
                  intro a472 M473 h475 hM473
                  refine j_istore C 9 [(9, .int (sI a472)), (0, .ref (ad 81)), (1, .int (sI a1)), (2, .int (sI a2)), (3, .int (sI a3)), (4, .int (sI a439)), (5, .int (sI a440)), (6, .int (sI a111)), (7, .int (sI a441)), (8, .int (sI (((a441 * 108) + (((a1 * 9) + a111) * 2)) + a451)))] dX4_choice_140 (by decide) rfl ?_
                  refine j_aload_n C 1 0 dX4_choice_142 rfl rfl ?_
                  refine y_getC C 3 82 fX4_choice_11 rfl rfl ft_3_0 sm_3_0 rfl hM473 dX4_choice_143 ?_
                  refine j_iload C 9 dX4_choice_146 rfl ?_
                  refine j_iload C 0 dX4_choice_148 rfl ?_
                  refine y_iastF C 33 864 rfl rfl rfl ak_33 an_33 rfl (sb_33 _) hM473 (PX.w hpr rfl rfl) dX4_choice_150 (by omega) (fun M476 eM476 hM476 => ?_)
                  refine j_iload C 0 dX4_choice_151 rfl ?_
                  refine j_iload C 6 dX4_choice_153 rfl ?_
                  refine y_icmp_le C 166 dX4_choice_155 (by decide) (by omega) (fun h477 => ?_) (fun h477 => ?_)
                  · refine y_iinc C 8 [(7, .int (sI (a441 + 1))), (9, .int (sI a472)), (0, .ref (ad 81)), (1, .int (sI a1)), (2, .int (sI a2)), (3, .int (sI a3)), (4, .int (sI a439)), (5, .int (sI a440)), (6, .int (sI a111)), (8, .int (sI (((a441 * 108) + (((a1 * 9) + a111) * 2)) + a451)))] dX4_choice_166 rfl (by decide) rfl ?_
                    refine j_goto C 37 dX4_choice_169 (by decide) ?_
                    refine j_lv [2, 3, 4, 5, 6, 7, 8, 0] rfl ?_; exact ih437 a439 a440 (a441 + 1) M476 (by omega) hM476
                  · refine j_iload C 0 dX4_choice_158 rfl ?_
                    refine j_istore C 5 [(5, .int (sI a472)), (9, .int (sI a472)), (0, .ref (ad 81)), (1, .int (sI a1)), (2, .int (sI a2)), (3, .int (sI a3)), (4, .int (sI a439)), (6, .int (sI a111)), (7, .int (sI a441)), (8, .int (sI (((a441 * 108) + (((a1 * 9) + a111) * 2)) + a451)))] dX4_choice_160 (by decide) rfl ?_
                    refine j_iload C 8 dX4_choice_162 rfl ?_
                    refine j_istore C 4 [(4, .int (sI a441)), (5, .int (sI a472)), (9, .int (sI a472)), (0, .ref (ad 81)), (1, .int (sI a1)), (2, .int (sI a2)), (3, .int (sI a3)), (6, .int (sI a111)), (7, .int (sI a441)), (8, .int (sI (((a441 * 108) + (((a1 * 9) + a111) * 2)) + a451)))] dX4_choice_164 (by decide) rfl ?_
                    refine y_iinc C 8 [(7, .int (sI (a441 + 1))), (4, .int (sI a441)), (5, .int (sI a472)), (9, .int (sI a472)), (0, .ref (ad 81)), (1, .int (sI a1)), (2, .int (sI a2)), (3, .int (sI a3)), (6, .int (sI a111)), (8, .int (sI (((a441 * 108) + (((a1 * 9) + a111) * 2)) + a451)))] dX4_choice_166 rfl (by decide) rfl ?_
                    refine j_goto C 37 dX4_choice_169 (by decide) ?_
                    refine j_lv [4, 5, 6, 7, 1, 2, 8, 0] rfl ?_; exact ih437 a441 a472 (a441 + 1) M476 (by omega) hM476
                refine y_if_eq C 139 dX4_choice_121 (by decide) (by omega) (fun h465 => ?_) (fun h465 => ?_)
                · refine y_iconst C dX4_choice_139 ?_
                  refine j_lv [1, 2, 3, 4, 5, 6, 7, 8, 9] rfl ?_; exact J474 0 M461 (by omega) hM461
                · refine y_iconst C dX4_choice_124 ?_
                  refine j_aload_n C 1 0 dX4_choice_125 rfl rfl ?_
                  refine j_iload_n C 2 1 dX4_choice_126 rfl rfl ?_
                  refine j_iload C 8 dX4_choice_127 rfl ?_
                  refine j_iload_n C 3 2 dX4_choice_129 rfl rfl ?_
                  refine j_callVi C (d := 2) (As := [.int (sI a1), .int (sI a441), .int (sI a2)]) (st := [.int (sI 0)]) 81 (s_lt rfl rfl) (s_kc (c := 3) rfl rfl) (by decide) rfl (s1_X4_wish hM461 hpr a1 (by omega) a441 (by omega) a2 (by omega) (by omega) (by omega)) gX4_choice_X4_wish rfl hdX4_wish (by decide) (Nat.le_of_ble_eq_true rfl) dX4_choice_130 rfl (fun r466 M467 h468 => ?_)
                  obtain ⟨a470, rfl, hM467, h469⟩ := h468
                  refine y_mmax C wX4_choice_62_0 wX4_choice_62_1 wX4_choice_62_2 wX4_choice_62_3 (by decide) (Nat.le_of_ble_eq_true rfl) dX4_choice_133 (by omega) (fun a471 ha471 => ?_)
                  refine j_goto C 140 dX4_choice_136 (by decide) ?_
                  refine j_lv [1, 2, 3, 4, 5, 6, 7, 8, 9] rfl ?_; exact J474 a471 M467 (by omega) hM467
            refine y_if_lt C 104 dX4_choice_81 (by decide) (by omega) (fun h452 => ?_) (fun h452 => ?_)
            · exfalso; omega
            · refine j_iload C 0 dX4_choice_84 rfl ?_
              refine j_aload_n C 1 0 dX4_choice_86 rfl rfl ?_
              refine y_getC C 3 82 fX4_choice_11 rfl rfl ft_3_0 sm_3_0 rfl hM442 dX4_choice_87 ?_
              refine y_alen C 33 864 rfl rfl rfl an_33 rfl rfl dX4_choice_90 ?_
              refine y_icmp_ge C 104 dX4_choice_91 (by decide) (by omega) (fun h453 => ?_) (fun h453 => ?_)
              · refine y_iconst C dX4_choice_104 ?_
                refine j_lv [1, 2, 3, 4, 5, 6, 7, 8, 0] rfl ?_; exact J456 0 (by omega)
              · refine j_aload_n C 1 0 dX4_choice_94 rfl rfl ?_
                refine y_getC C 3 82 fX4_choice_11 rfl rfl ft_3_0 sm_3_0 rfl hM442 dX4_choice_95 ?_
                refine j_iload C 0 dX4_choice_98 rfl ?_
                refine y_iald C 33 864 _ _ rfl rfl rfl ak_33 an_33 rfl (sb_33 _) hM442 dX4_choice_100 (by omega) (fun a454 ea454 la454 ua454 => ?_)
                refine j_goto C 105 dX4_choice_101 (by decide) ?_
                refine j_lv [1, 2, 3, 4, 5, 6, 7, 8, 0] rfl ?_; exact J456 a454 (by omega)
    refine j_lv [4, 5, 6, 7, 3, 2, 1, 0] rfl ?_; exact L438 4294967304 (-1) 0 0 M0 (by omega) hM0
  · refine j_iload C 1 dX4_choice_25 rfl ?_
    exact hret _ _ _ _ dX4_choice_27 ⟨(-1), rfl, hM0, by omega⟩
set_option maxHeartbeats 4000000 in
theorem s1_X11_takersOf {l : Launch} {dC : Nat → ClassId} {dI : Nat → Nat → Nat} {ad : Nat → Nat} {cA : Nat → ClassId} {pr : Nat → Nat → Bool} {Kz : mm_M} {M0 : mm_M} (hM0 : INV pr Kz M0) (hpr : PX pr) (a1 : Int) (ha1 : -2147483648 ≤ a1 ∧ a1 ≤ 2147483647) : Ci l 4 yX11_takersOf wsX11_takersOf dC dI ad cA [.ref (ad 0), .int (sI a1)] M0 (fun r M' => ∃ a : Int, r = sI a ∧ INV pr Kz M' ∧ 0 ≤ a ∧ a ≤ 63) := by
  refine ci_of (cc := cX11_takersOf) (maxL := 4) (ty := .int) (lv := [(0, .ref (ad 0)), (1, .int (sI a1))]) (by decide) rfl (fun r M' hp => rfl) (Nat.le_of_ble_eq_true rfl) rfl ?_
  intro p e s m args below meth c A Q C hret
  refine j_aload_n C 0 0 dX11_takersOf_0 rfl rfl ?_
  refine y_getC C 10 81 fX11_takersOf_76 rfl rfl ft_10_12 sm_10_12 rfl hM0 dX11_takersOf_1 ?_
  refine j_aload_n C 0 0 dX11_takersOf_4 rfl rfl ?_
  refine y_getM C 10 6 fX11_takersOf_26 rfl rfl ft_10_4 sm_10_4 (by decide) hM0 dX11_takersOf_5 (fun v101 ev101 cv101 => ?_)
  refine j_aload_n C 0 0 dX11_takersOf_8 rfl rfl ?_
  refine y_getC C 10 12 fX11_takersOf_36 rfl rfl ft_10_6 sm_10_6 rfl hM0 dX11_takersOf_9 ?_
  refine j_callVv C (d := 0) (As := [.ref (ad v101), .ref (ad 12)]) (st := []) 81 (s_lt rfl rfl) (s_kc (c := 3) rfl rfl) (by decide) rfl (s1_X4_tune hM0 hpr cv101 rfl) gX11_takersOf_X4_tune rfl hdX4_tune (by decide) (Nat.le_of_ble_eq_true rfl) dX11_takersOf_12 rfl (fun M103 h104 => ?_)
  have hM103 := h104
  refine y_iconst C dX11_takersOf_15 ?_
  refine j_istore_n C 2 [(2, .int (sI 0)), (0, .ref (ad 0)), (1, .int (sI a1))] dX11_takersOf_16 rfl (by decide) rfl ?_
  refine y_iconst C dX11_takersOf_17 ?_
  refine j_istore_n C 3 [(3, .int (sI 0)), (2, .int (sI 0)), (0, .ref (ad 0)), (1, .int (sI a1))] dX11_takersOf_18 rfl (by decide) rfl ?_
  have L241 : ∀ (n239 : Nat), ∀ (a242 : Int) (a243 : Int) (M244 : mm_M), (0 ≤ a242 ∧ a242 ≤ 63 ∧ 0 ≤ a243 ∧ a243 ≤ 6 ∧ (6 - a243) < (n239 : Int)) → INV pr Kz M244 → jj p l e (cn_R 4) s m args below meth c 0 0 Q 4 dC dI ad cA A M244 19 [(0, .ref (ad 0)), (1, .int (sI a1)), (2, .int (sI a242)), (3, .int (sI a243))] [] := by
    intro n239
    induction n239 with
    | zero =>
      intro a242 a243 M244 h245 hM244
      exfalso; omega
    | succ n239 ih240 =>
      intro a242 a243 M244 h245 hM244
      refine j_iload_n C 3 3 dX11_takersOf_19 rfl rfl ?_
      refine j_aload_n C 0 0 dX11_takersOf_20 rfl rfl ?_
      refine y_getM C 10 6 fX11_takersOf_26 rfl rfl ft_10_4 sm_10_4 (by decide) hM244 dX11_takersOf_21 (fun v246 ev246 cv246 => ?_)
      refine y_getI C 6 _ _ fX11_takersOf_163 cv246 rfl ft_6_0 sb_6_0 hM244 dX11_takersOf_24 (fun a247 ea247 la247 ua247 => ?_)
      refine y_icmp_ge C 68 dX11_takersOf_27 (by decide) (by omega) (fun h249 => ?_) (fun h249 => ?_)
      · refine j_iload_n C 2 2 dX11_takersOf_68 rfl rfl ?_
        exact hret _ _ _ _ dX11_takersOf_69 ⟨a242, rfl, hM244, by omega⟩
      · refine j_aload_n C 0 0 dX11_takersOf_30 rfl rfl ?_
        refine y_getC C 10 81 fX11_takersOf_76 rfl rfl ft_10_12 sm_10_12 rfl hM244 dX11_takersOf_31 ?_
        refine j_iload_n C 3 3 dX11_takersOf_34 rfl rfl ?_
        refine j_aload_n C 0 0 dX11_takersOf_35 rfl rfl ?_
        refine y_getC C 10 12 fX11_takersOf_36 rfl rfl ft_10_6 sm_10_6 rfl hM244 dX11_takersOf_36 ?_
        refine y_getI C 8 _ _ fX11_takersOf_150 rfl rfl ft_8_3 sb_8_3 hM244 dX11_takersOf_39 (fun a250 ea250 la250 ua250 => ?_)
        refine j_aload_n C 0 0 dX11_takersOf_42 rfl rfl ?_
        refine y_getC C 10 12 fX11_takersOf_36 rfl rfl ft_10_6 sm_10_6 rfl hM244 dX11_takersOf_43 ?_
        refine y_getI C 8 _ _ fX11_takersOf_153 rfl rfl ft_8_4 sb_8_4 hM244 dX11_takersOf_46 (fun a252 ea252 la252 ua252 => ?_)
        refine j_callVi C (d := 3) (As := [.int (sI a243), .int (sI a250), .int (sI a252)]) (st := []) 81 (s_lt rfl rfl) (s_kc (c := 3) rfl rfl) (by decide) rfl (s1_X4_choice hM244 hpr a243 (by omega) a250 (by omega) a252 (by omega) (by omega)) gX11_takersOf_X4_choice rfl hdX4_choice (by decide) (Nat.le_of_ble_eq_true rfl) dX11_takersOf_49 rfl (fun r254 M255 h256 => ?_)
        obtain ⟨a258, rfl, hM255, h257⟩ := h256
        refine j_iload_n C 1 1 dX11_takersOf_52 rfl rfl ?_
        refine y_icmp_ne C 62 dX11_takersOf_53 (by decide) (by omega) (fun h259 => ?_) (fun h259 => ?_)
        · refine y_iinc C 3 [(3, .int (sI (a243 + 1))), (0, .ref (ad 0)), (1, .int (sI a1)), (2, .int (sI a242))] dX11_takersOf_62 rfl (by decide) rfl ?_
          refine j_goto C 19 dX11_takersOf_65 (by decide) ?_
          refine j_lv [1, 2, 3, 0] rfl ?_; exact ih240 a242 (a243 + 1) M255 (by omega) hM255
        · refine j_iload_n C 2 2 dX11_takersOf_56 rfl rfl ?_
          refine y_iconst C dX11_takersOf_57 ?_
          refine j_iload_n C 3 3 dX11_takersOf_58 rfl rfl ?_
          refine y_shl1 C 5 32 dX11_takersOf_59 rfl (by decide) (by omega) (fun a260 la260 ua260 => ?_)
          refine y_iorN C 6 63 dX11_takersOf_60 rfl (by decide) (by omega) (fun a261 la261 ua261 => ?_)
          refine j_istore_n C 2 [(2, .int (sI a261)), (0, .ref (ad 0)), (1, .int (sI a1)), (3, .int (sI a243))] dX11_takersOf_61 rfl (by decide) rfl ?_
          refine y_iinc C 3 [(3, .int (sI (a243 + 1))), (2, .int (sI a261)), (0, .ref (ad 0)), (1, .int (sI a1))] dX11_takersOf_62 rfl (by decide) rfl ?_
          refine j_goto C 19 dX11_takersOf_65 (by decide) ?_
          refine j_lv [2, 3, 1, 0] rfl ?_; exact ih240 a261 (a243 + 1) M255 (by omega) hM255
  refine j_lv [2, 3, 1, 0] rfl ?_; exact L241 2010 0 0 M103 (by omega) hM103
set_option maxHeartbeats 4000000 in
theorem s1_X11_kind {l : Launch} {dC : Nat → ClassId} {dI : Nat → Nat → Nat} {ad : Nat → Nat} {cA : Nat → ClassId} {pr : Nat → Nat → Bool} {Kz : mm_M} {M0 : mm_M} (hM0 : INV pr Kz M0) (hpr : PX pr) (a1 : Int) (ha1 : -2147483648 ≤ a1 ∧ a1 ≤ 2147483647) (a2 : Int) (ha2 : -2147483648 ≤ a2 ∧ a2 ≤ 2147483647) : Ci l 5 yX11_kind wsX11_kind dC dI ad cA [.ref (ad 0), .int (sI a1), .int (sI a2)] M0 (fun r M' => ∃ a : Int, r = sI a ∧ INV pr Kz M' ∧ (-2147483648) ≤ a ∧ a ≤ 2147483647) := by
  refine ci_of (cc := cX11_kind) (maxL := 3) (ty := .int) (lv := [(0, .ref (ad 0)), (1, .int (sI a1)), (2, .int (sI a2))]) (by decide) rfl (fun r M' hp => rfl) (Nat.le_of_ble_eq_true rfl) rfl ?_
  intro p e s m args below meth c A Q C hret
  refine j_aload_n C 0 0 dX11_kind_0 rfl rfl ?_
  refine j_iload_n C 1 1 dX11_kind_1 rfl rfl ?_
  refine j_callVi C (d := 0) (As := [.int (sI a1)]) (st := []) 0 (s_lt rfl rfl) (s_kc (c := 10) rfl rfl) (by decide) rfl (s1_X11_isKind hM0 a1 (by omega)) gX11_kind_X11_isKind rfl hdX11_isKind (by decide) (Nat.le_of_ble_eq_true rfl) dX11_kind_2 rfl (fun r101 M102 h103 => ?_)
  obtain ⟨a105, rfl, rfl, h104⟩ := h103
  refine y_if_ne C 11 dX11_kind_5 (by decide) (by omega) (fun h106 => ?_) (fun h106 => ?_)
  · refine j_iload_n C 2 2 dX11_kind_11 rfl rfl ?_
    rcases (show (a2 < 0 ∨ 4 < a2) ∨ a2 = 0 ∨ a2 = 1 ∨ a2 = 2 ∨ a2 = 3 ∨ a2 = 4 by omega) with h107 | h107 | h107 | h107 | h107 | h107
    · refine y_tabO C 98 dX11_kind_12 (by decide) (by omega) ?_
      refine y_bipush C dX11_kind_98 rfl ?_
      exact hret _ _ _ _ dX11_kind_100 ⟨(-2), rfl, hM0, by omega⟩
    · refine y_tabI C (off := 36) 48 0 dX11_kind_12 (by decide) rfl (by decide) h107 ?_
      refine j_aload_n C 0 0 dX11_kind_48 rfl rfl ?_
      refine y_getC C 10 12 fX11_kind_36 rfl rfl ft_10_6 sm_10_6 rfl hM0 dX11_kind_49 ?_
      refine y_getC C 8 13 fX11_kind_144 rfl rfl ft_8_1 sm_8_1 rfl hM0 dX11_kind_52 ?_
      refine j_iload_n C 1 1 dX11_kind_55 rfl rfl ?_
      refine y_iald C 25 8 _ _ rfl rfl rfl ak_25 an_25 rfl (sb_25 _) hM0 dX11_kind_56 (by omega) (fun a108 ea108 la108 ua108 => ?_)
      exact hret _ _ _ _ dX11_kind_57 ⟨a108, rfl, hM0, by omega⟩
    · refine y_tabI C (off := 46) 58 1 dX11_kind_12 (by decide) rfl (by decide) h107 ?_
      refine j_aload_n C 0 0 dX11_kind_58 rfl rfl ?_
      refine y_getC C 10 12 fX11_kind_36 rfl rfl ft_10_6 sm_10_6 rfl hM0 dX11_kind_59 ?_
      refine y_getC C 8 14 fX11_kind_147 rfl rfl ft_8_2 sm_8_2 rfl hM0 dX11_kind_62 ?_
      refine j_iload_n C 1 1 dX11_kind_65 rfl rfl ?_
      refine y_iald C 26 8 _ _ rfl rfl rfl ak_26 an_26 rfl (sb_26 _) hM0 dX11_kind_66 (by omega) (fun a109 ea109 la109 ua109 => ?_)
      exact hret _ _ _ _ dX11_kind_67 ⟨a109, rfl, hM0, by omega⟩
    · refine y_tabI C (off := 56) 68 2 dX11_kind_12 (by decide) rfl (by decide) h107 ?_
      refine j_aload_n C 0 0 dX11_kind_68 rfl rfl ?_
      refine y_getC C 10 12 fX11_kind_36 rfl rfl ft_10_6 sm_10_6 rfl hM0 dX11_kind_69 ?_
      refine y_getI C 8 _ _ fX11_kind_150 rfl rfl ft_8_3 sb_8_3 hM0 dX11_kind_72 (fun a110 ea110 la110 ua110 => ?_)
      refine j_iload_n C 1 1 dX11_kind_75 rfl rfl ?_
      refine y_ishrP C dX11_kind_76 (by omega) (fun a112 la112 ua112 => ?_)
      refine y_iconst C dX11_kind_77 ?_
      refine y_iandR C dX11_kind_78 (by omega) (fun a113 la113 ua113 => ?_)
      exact hret _ _ _ _ dX11_kind_79 ⟨a113, rfl, hM0, by omega⟩
    · refine y_tabI C (off := 68) 80 3 dX11_kind_12 (by decide) rfl (by decide) h107 ?_
      refine j_aload_n C 0 0 dX11_kind_80 rfl rfl ?_
      refine y_getC C 10 12 fX11_kind_36 rfl rfl ft_10_6 sm_10_6 rfl hM0 dX11_kind_81 ?_
      refine y_getI C 8 _ _ fX11_kind_153 rfl rfl ft_8_4 sb_8_4 hM0 dX11_kind_84 (fun a114 ea114 la114 ua114 => ?_)
      refine j_iload_n C 1 1 dX11_kind_87 rfl rfl ?_
      refine y_ishrP C dX11_kind_88 (by omega) (fun a116 la116 ua116 => ?_)
      refine y_iconst C dX11_kind_89 ?_
      refine y_iandR C dX11_kind_90 (by omega) (fun a117 la117 ua117 => ?_)
      exact hret _ _ _ _ dX11_kind_91 ⟨a117, rfl, hM0, by omega⟩
    · refine y_tabI C (off := 80) 92 4 dX11_kind_12 (by decide) rfl (by decide) h107 ?_
      refine j_aload_n C 0 0 dX11_kind_92 rfl rfl ?_
      refine j_iload_n C 1 1 dX11_kind_93 rfl rfl ?_
      refine j_callVi C (d := 4) (As := [.int (sI a1)]) (st := []) 0 (s_lt rfl rfl) (s_kc (c := 10) rfl rfl) (by decide) rfl (s1_X11_takersOf hM0 hpr a1 (by omega)) gX11_kind_X11_takersOf rfl hdX11_takersOf (by decide) (Nat.le_of_ble_eq_true rfl) dX11_kind_94 rfl (fun r118 M119 h120 => ?_)
      obtain ⟨a122, rfl, hM119, h121⟩ := h120
      exact hret _ _ _ _ dX11_kind_97 ⟨a122, rfl, hM119, by omega⟩
  · refine y_bipush C dX11_kind_8 rfl ?_
    exact hret _ _ _ _ dX11_kind_10 ⟨(-2), rfl, hM0, by omega⟩
set_option maxHeartbeats 4000000 in
theorem s1_X11_isBuyer {l : Launch} {dC : Nat → ClassId} {dI : Nat → Nat → Nat} {ad : Nat → Nat} {cA : Nat → ClassId} {pr : Nat → Nat → Bool} {Kz : mm_M} {M0 : mm_M} (hM0 : INV pr Kz M0) (a1 : Int) (ha1 : -2147483648 ≤ a1 ∧ a1 ≤ 2147483647) : Ci l 0 yX11_isBuyer wsX11_isBuyer dC dI ad cA [.ref (ad 0), .int (sI a1)] M0 (fun r M' => ∃ a : Int, r = sI a ∧ M0 = M' ∧ 0 ≤ a ∧ a ≤ 1 ∧ ((a1 < 0 ∧ a = 0) ∨ (0 ≤ a1 ∧ 0 ≤ a1 ∧ a = 0) ∨ (0 ≤ a1 ∧ a1 < 6 ∧ a = 1))) := by
  refine ci_of (cc := cX11_isBuyer) (maxL := 2) (ty := .boolean) (lv := [(0, .ref (ad 0)), (1, .int (sI a1))]) (by decide) rfl (fun r M' hp => by obtain ⟨a, rfl, -, h⟩ := hp; rcases (show a = 0 ∨ a = 1 by omega) with rfl | rfl <;> rfl) (Nat.le_of_ble_eq_true rfl) rfl ?_
  intro p e s m args below meth c A Q C hret
  refine j_iload_n C 1 1 dX11_isBuyer_0 rfl rfl ?_
  refine y_if_lt C 19 dX11_isBuyer_1 (by decide) (by omega) (fun h101 => ?_) (fun h101 => ?_)
  · refine y_iconst C dX11_isBuyer_19 ?_
    exact hret _ _ _ _ dX11_isBuyer_20 ⟨0, rfl, rfl, by omega⟩
  · refine j_iload_n C 1 1 dX11_isBuyer_4 rfl rfl ?_
    refine j_aload_n C 0 0 dX11_isBuyer_5 rfl rfl ?_
    refine y_getM C 10 6 fX11_isBuyer_26 rfl rfl ft_10_4 sm_10_4 (by decide) hM0 dX11_isBuyer_6 (fun v102 ev102 cv102 => ?_)
    refine y_getI C 6 _ _ fX11_isBuyer_163 cv102 rfl ft_6_0 sb_6_0 hM0 dX11_isBuyer_9 (fun a103 ea103 la103 ua103 => ?_)
    refine y_icmp_ge C 19 dX11_isBuyer_12 (by decide) (by omega) (fun h105 => ?_) (fun h105 => ?_)
    · refine y_iconst C dX11_isBuyer_19 ?_
      exact hret _ _ _ _ dX11_isBuyer_20 ⟨0, rfl, rfl, by omega⟩
    · refine y_iconst C dX11_isBuyer_15 ?_
      refine j_goto C 20 dX11_isBuyer_16 (by decide) ?_
      exact hret _ _ _ _ dX11_isBuyer_20 ⟨1, rfl, rfl, by omega⟩
set_option maxHeartbeats 4000000 in
theorem s1_X4_allowed {l : Launch} {dC : Nat → ClassId} {dI : Nat → Nat → Nat} {ad : Nat → Nat} {cA : Nat → ClassId} {pr : Nat → Nat → Bool} {Kz : mm_M} {M0 : mm_M} (hM0 : INV pr Kz M0) (hpr : PX pr) (a1 : Int) (ha1 : -2147483648 ≤ a1 ∧ a1 ≤ 2147483647) (a2 : Int) (ha2 : -2147483648 ≤ a2 ∧ a2 ≤ 2147483647) (a3 : Int) (ha3 : -2147483648 ≤ a3 ∧ a3 ≤ 2147483647) (hp0 : 0 ≤ a1 ∧ a1 ≤ 5) : Ci l 3 yX4_allowed wsX4_allowed dC dI ad cA [.ref (ad 81), .int (sI a1), .int (sI a2), .int (sI a3)] M0 (fun r M' => ∃ a : Int, r = sI a ∧ INV pr Kz M' ∧ 0 ≤ a ∧ a ≤ 255) := by
  refine ci_of (cc := cX4_allowed) (maxL := 6) (ty := .int) (lv := [(0, .ref (ad 81)), (1, .int (sI a1)), (2, .int (sI a2)), (3, .int (sI a3))]) (by decide) rfl (fun r M' hp => rfl) (Nat.le_of_ble_eq_true rfl) rfl ?_
  intro p e s m args below meth c A Q C hret
  refine y_iconst C dX4_allowed_0 ?_
  refine j_istore C 4 [(4, .int (sI 0)), (0, .ref (ad 81)), (1, .int (sI a1)), (2, .int (sI a2)), (3, .int (sI a3))] dX4_allowed_1 (by decide) rfl ?_
  refine y_iconst C dX4_allowed_3 ?_
  refine j_istore C 5 [(5, .int (sI 0)), (4, .int (sI 0)), (0, .ref (ad 81)), (1, .int (sI a1)), (2, .int (sI a2)), (3, .int (sI a3))] dX4_allowed_4 (by decide) rfl ?_
  have L256 : ∀ (n254 : Nat), ∀ (a257 : Int) (a258 : Int) (M259 : mm_M), (0 ≤ a257 ∧ a257 ≤ 255 ∧ 0 ≤ a258 ∧ a258 ≤ 8 ∧ (8 - a258) < (n254 : Int)) → INV pr Kz M259 → jj p l e (cn_R 3) s m args below meth c 0 0 Q 6 dC dI ad cA A M259 6 [(0, .ref (ad 81)), (1, .int (sI a1)), (2, .int (sI a2)), (3, .int (sI a3)), (4, .int (sI a257)), (5, .int (sI a258))] [] := by
    intro n254
    induction n254 with
    | zero =>
      intro a257 a258 M259 h260 hM259
      exfalso; omega
    | succ n254 ih255 =>
      intro a257 a258 M259 h260 hM259
      refine j_iload C 5 dX4_allowed_6 rfl ?_
      refine j_aload_n C 0 0 dX4_allowed_8 rfl rfl ?_
      refine y_getI C 3 _ _ fX4_allowed_29 rfl rfl ft_3_6 sb_3_6 hM259 dX4_allowed_9 (fun a261 ea261 la261 ua261 => ?_)
      refine y_icmp_ge C 50 dX4_allowed_12 (by decide) (by omega) (fun h263 => ?_) (fun h263 => ?_)
      · refine j_iload C 4 dX4_allowed_50 rfl ?_
        exact hret _ _ _ _ dX4_allowed_52 ⟨a257, rfl, hM259, by omega⟩
      · refine j_iload_n C 3 3 dX4_allowed_15 rfl rfl ?_
        refine j_iload C 5 dX4_allowed_16 rfl ?_
        refine y_ishr0 C dX4_allowed_18 (fun a264 la264 ua264 => ?_)
        refine y_iconst C dX4_allowed_19 ?_
        refine y_iandR C dX4_allowed_20 (by omega) (fun a265 la265 ua265 => ?_)
        refine y_if_ne C 44 dX4_allowed_21 (by decide) (by omega) (fun h266 => ?_) (fun h266 => ?_)
        · refine y_iinc C 5 [(5, .int (sI (a258 + 1))), (0, .ref (ad 81)), (1, .int (sI a1)), (2, .int (sI a2)), (3, .int (sI a3)), (4, .int (sI a257))] dX4_allowed_44 rfl (by decide) rfl ?_
          refine j_goto C 6 dX4_allowed_47 (by decide) ?_
          refine j_lv [1, 2, 3, 4, 5, 0] rfl ?_; exact ih255 a257 (a258 + 1) M259 (by omega) hM259
        · refine j_aload_n C 0 0 dX4_allowed_24 rfl rfl ?_
          refine j_iload_n C 1 1 dX4_allowed_25 rfl rfl ?_
          refine j_iload C 5 dX4_allowed_26 rfl ?_
          refine j_iload_n C 2 2 dX4_allowed_28 rfl rfl ?_
          refine j_callVi C (d := 2) (As := [.int (sI a1), .int (sI a258), .int (sI a2)]) (st := []) 81 (s_lt rfl rfl) (s_kc (c := 3) rfl rfl) (by decide) rfl (s1_X4_lets hM259 hpr a1 (by omega) a258 (by omega) a2 (by omega) (by omega) (by omega)) gX4_allowed_X4_lets rfl hdX4_lets (by decide) (Nat.le_of_ble_eq_true rfl) dX4_allowed_29 rfl (fun r267 M268 h269 => ?_)
          obtain ⟨a271, rfl, hM268, h270⟩ := h269
          refine y_if_eq C 44 dX4_allowed_32 (by decide) (by omega) (fun h272 => ?_) (fun h272 => ?_)
          · refine y_iinc C 5 [(5, .int (sI (a258 + 1))), (0, .ref (ad 81)), (1, .int (sI a1)), (2, .int (sI a2)), (3, .int (sI a3)), (4, .int (sI a257))] dX4_allowed_44 rfl (by decide) rfl ?_
            refine j_goto C 6 dX4_allowed_47 (by decide) ?_
            refine j_lv [1, 2, 3, 4, 5, 0] rfl ?_; exact ih255 a257 (a258 + 1) M268 (by omega) hM268
          · refine j_iload C 4 dX4_allowed_35 rfl ?_
            refine y_iconst C dX4_allowed_37 ?_
            refine j_iload C 5 dX4_allowed_38 rfl ?_
            refine y_shl1 C 7 128 dX4_allowed_40 rfl (by decide) (by omega) (fun a273 la273 ua273 => ?_)
            refine y_iorN C 8 255 dX4_allowed_41 rfl (by decide) (by omega) (fun a274 la274 ua274 => ?_)
            refine j_istore C 4 [(4, .int (sI a274)), (0, .ref (ad 81)), (1, .int (sI a1)), (2, .int (sI a2)), (3, .int (sI a3)), (5, .int (sI a258))] dX4_allowed_42 (by decide) rfl ?_
            refine y_iinc C 5 [(5, .int (sI (a258 + 1))), (4, .int (sI a274)), (0, .ref (ad 81)), (1, .int (sI a1)), (2, .int (sI a2)), (3, .int (sI a3))] dX4_allowed_44 rfl (by decide) rfl ?_
            refine j_goto C 6 dX4_allowed_47 (by decide) ?_
            refine j_lv [2, 3, 4, 5, 1, 0] rfl ?_; exact ih255 a274 (a258 + 1) M268 (by omega) hM268
  refine j_lv [2, 3, 4, 5, 1, 0] rfl ?_; exact L256 2010 0 0 M0 (by omega) hM0
set_option maxHeartbeats 4000000 in
theorem s1_X11_buyer {l : Launch} {dC : Nat → ClassId} {dI : Nat → Nat → Nat} {ad : Nat → Nat} {cA : Nat → ClassId} {pr : Nat → Nat → Bool} {Kz : mm_M} {M0 : mm_M} (hM0 : INV pr Kz M0) (hpr : PX pr) (a1 : Int) (ha1 : -2147483648 ≤ a1 ∧ a1 ≤ 2147483647) (a2 : Int) (ha2 : -2147483648 ≤ a2 ∧ a2 ≤ 2147483647) : Ci l 4 yX11_buyer wsX11_buyer dC dI ad cA [.ref (ad 0), .int (sI a1), .int (sI a2)] M0 (fun r M' => ∃ a : Int, r = sI a ∧ INV pr Kz M' ∧ (-2147483648) ≤ a ∧ a ≤ 2147483647) := by
  refine ci_of (cc := cX11_buyer) (maxL := 3) (ty := .int) (lv := [(0, .ref (ad 0)), (1, .int (sI a1)), (2, .int (sI a2))]) (by decide) rfl (fun r M' hp => rfl) (Nat.le_of_ble_eq_true rfl) rfl ?_
  intro p e s m args below meth c A Q C hret
  refine j_aload_n C 0 0 dX11_buyer_0 rfl rfl ?_
  refine j_iload_n C 1 1 dX11_buyer_1 rfl rfl ?_
  refine j_callVi C (d := 0) (As := [.int (sI a1)]) (st := []) 0 (s_lt rfl rfl) (s_kc (c := 10) rfl rfl) (by decide) rfl (s1_X11_isBuyer hM0 a1 (by omega)) gX11_buyer_X11_isBuyer rfl hdX11_isBuyer (by decide) (Nat.le_of_ble_eq_true rfl) dX11_buyer_2 rfl (fun r101 M102 h103 => ?_)
  obtain ⟨a105, rfl, rfl, h104⟩ := h103
  refine y_if_ne C 11 dX11_buyer_5 (by decide) (by omega) (fun h106 => ?_) (fun h106 => ?_)
  · refine j_aload_n C 0 0 dX11_buyer_11 rfl rfl ?_
    refine y_getC C 10 81 fX11_buyer_76 rfl rfl ft_10_12 sm_10_12 rfl hM0 dX11_buyer_12 ?_
    refine j_aload_n C 0 0 dX11_buyer_15 rfl rfl ?_
    refine y_getM C 10 6 fX11_buyer_26 rfl rfl ft_10_4 sm_10_4 (by decide) hM0 dX11_buyer_16 (fun v107 ev107 cv107 => ?_)
    refine j_aload_n C 0 0 dX11_buyer_19 rfl rfl ?_
    refine y_getC C 10 12 fX11_buyer_36 rfl rfl ft_10_6 sm_10_6 rfl hM0 dX11_buyer_20 ?_
    refine j_callVv C (d := 0) (As := [.ref (ad v107), .ref (ad 12)]) (st := []) 81 (s_lt rfl rfl) (s_kc (c := 3) rfl rfl) (by decide) rfl (s1_X4_tune hM0 hpr cv107 rfl) gX11_buyer_X4_tune rfl hdX4_tune (by decide) (Nat.le_of_ble_eq_true rfl) dX11_buyer_23 rfl (fun M109 h110 => ?_)
    have hM109 := h110
    refine j_iload_n C 2 2 dX11_buyer_26 rfl rfl ?_
    rcases (show (a2 < 0 ∨ 4 < a2) ∨ a2 = 0 ∨ a2 = 1 ∨ a2 = 2 ∨ a2 = 3 ∨ a2 = 4 by omega) with h112 | h112 | h112 | h112 | h112 | h112
    · refine y_tabO C 136 dX11_buyer_27 (by decide) (by omega) ?_
      refine y_bipush C dX11_buyer_136 rfl ?_
      exact hret _ _ _ _ dX11_buyer_138 ⟨(-2), rfl, hM109, by omega⟩
    · refine y_tabI C (off := 33) 60 0 dX11_buyer_27 (by decide) rfl (by decide) h112 ?_
      refine j_aload_n C 0 0 dX11_buyer_60 rfl rfl ?_
      refine y_getM C 10 6 fX11_buyer_26 rfl rfl ft_10_4 sm_10_4 (by decide) hM109 dX11_buyer_61 (fun v113 ev113 cv113 => ?_)
      refine y_getT C 6 21 fX11_buyer_176 cv113 rfl ft_6_2 rfl sm_6_2 st_6_2 (by decide) hM109 dX11_buyer_64 (fun v114 cv114 => ?_)
      refine j_iload_n C 1 1 dX11_buyer_67 rfl rfl ?_
      refine y_iald C 21 6 _ _ cv114 rfl rfl ak_21 an_21 rfl (sb_21 _) hM109 dX11_buyer_68 (by omega) (fun a115 ea115 la115 ua115 => ?_)
      exact hret _ _ _ _ dX11_buyer_69 ⟨a115, rfl, hM109, by omega⟩
    · refine y_tabI C (off := 43) 70 1 dX11_buyer_27 (by decide) rfl (by decide) h112 ?_
      refine j_aload_n C 0 0 dX11_buyer_70 rfl rfl ?_
      refine y_getM C 10 6 fX11_buyer_26 rfl rfl ft_10_4 sm_10_4 (by decide) hM109 dX11_buyer_71 (fun v116 ev116 cv116 => ?_)
      refine y_getT C 6 22 fX11_buyer_179 cv116 rfl ft_6_3 rfl sm_6_3 st_6_3 (by decide) hM109 dX11_buyer_74 (fun v117 cv117 => ?_)
      refine j_iload_n C 1 1 dX11_buyer_77 rfl rfl ?_
      refine y_iald C 22 6 _ _ cv117 rfl rfl ak_22 an_22 rfl (sb_22 _) hM109 dX11_buyer_78 (by omega) (fun a118 ea118 la118 ua118 => ?_)
      exact hret _ _ _ _ dX11_buyer_79 ⟨a118, rfl, hM109, by omega⟩
    · refine y_tabI C (off := 53) 80 2 dX11_buyer_27 (by decide) rfl (by decide) h112 ?_
      refine j_aload_n C 0 0 dX11_buyer_80 rfl rfl ?_
      refine y_getM C 10 6 fX11_buyer_26 rfl rfl ft_10_4 sm_10_4 (by decide) hM109 dX11_buyer_81 (fun v119 ev119 cv119 => ?_)
      refine y_getT C 6 23 fX11_buyer_182 cv119 rfl ft_6_4 rfl sm_6_4 st_6_4 (by decide) hM109 dX11_buyer_84 (fun v120 cv120 => ?_)
      refine j_iload_n C 1 1 dX11_buyer_87 rfl rfl ?_
      refine y_iald C 23 6 _ _ cv120 rfl rfl ak_23 an_23 rfl (sb_23 _) hM109 dX11_buyer_88 (by omega) (fun a121 ea121 la121 ua121 => ?_)
      exact hret _ _ _ _ dX11_buyer_89 ⟨a121, rfl, hM109, by omega⟩
    · refine y_tabI C (off := 63) 90 3 dX11_buyer_27 (by decide) rfl (by decide) h112 ?_
      refine j_aload_n C 0 0 dX11_buyer_90 rfl rfl ?_
      refine y_getC C 10 81 fX11_buyer_76 rfl rfl ft_10_12 sm_10_12 rfl hM109 dX11_buyer_91 ?_
      refine j_iload_n C 1 1 dX11_buyer_94 rfl rfl ?_
      refine j_aload_n C 0 0 dX11_buyer_95 rfl rfl ?_
      refine y_getC C 10 12 fX11_buyer_36 rfl rfl ft_10_6 sm_10_6 rfl hM109 dX11_buyer_96 ?_
      refine y_getI C 8 _ _ fX11_buyer_150 rfl rfl ft_8_3 sb_8_3 hM109 dX11_buyer_99 (fun a122 ea122 la122 ua122 => ?_)
      refine j_aload_n C 0 0 dX11_buyer_102 rfl rfl ?_
      refine y_getC C 10 12 fX11_buyer_36 rfl rfl ft_10_6 sm_10_6 rfl hM109 dX11_buyer_103 ?_
      refine y_getI C 8 _ _ fX11_buyer_153 rfl rfl ft_8_4 sb_8_4 hM109 dX11_buyer_106 (fun a124 ea124 la124 ua124 => ?_)
      refine j_callVi C (d := 3) (As := [.int (sI a1), .int (sI a122), .int (sI a124)]) (st := []) 81 (s_lt rfl rfl) (s_kc (c := 3) rfl rfl) (by decide) rfl (s1_X4_allowed hM109 hpr a1 (by omega) a122 (by omega) a124 (by omega) (by omega)) gX11_buyer_X4_allowed rfl hdX4_allowed (by decide) (Nat.le_of_ble_eq_true rfl) dX11_buyer_109 rfl (fun r126 M127 h128 => ?_)
      obtain ⟨a130, rfl, hM127, h129⟩ := h128
      exact hret _ _ _ _ dX11_buyer_112 ⟨a130, rfl, hM127, by omega⟩
    · refine y_tabI C (off := 86) 113 4 dX11_buyer_27 (by decide) rfl (by decide) h112 ?_
      refine j_aload_n C 0 0 dX11_buyer_113 rfl rfl ?_
      refine y_getC C 10 81 fX11_buyer_76 rfl rfl ft_10_12 sm_10_12 rfl hM109 dX11_buyer_114 ?_
      refine j_iload_n C 1 1 dX11_buyer_117 rfl rfl ?_
      refine j_aload_n C 0 0 dX11_buyer_118 rfl rfl ?_
      refine y_getC C 10 12 fX11_buyer_36 rfl rfl ft_10_6 sm_10_6 rfl hM109 dX11_buyer_119 ?_
      refine y_getI C 8 _ _ fX11_buyer_150 rfl rfl ft_8_3 sb_8_3 hM109 dX11_buyer_122 (fun a131 ea131 la131 ua131 => ?_)
      refine j_aload_n C 0 0 dX11_buyer_125 rfl rfl ?_
      refine y_getC C 10 12 fX11_buyer_36 rfl rfl ft_10_6 sm_10_6 rfl hM109 dX11_buyer_126 ?_
      refine y_getI C 8 _ _ fX11_buyer_153 rfl rfl ft_8_4 sb_8_4 hM109 dX11_buyer_129 (fun a133 ea133 la133 ua133 => ?_)
      refine j_callVi C (d := 3) (As := [.int (sI a1), .int (sI a131), .int (sI a133)]) (st := []) 81 (s_lt rfl rfl) (s_kc (c := 3) rfl rfl) (by decide) rfl (s1_X4_choice hM109 hpr a1 (by omega) a131 (by omega) a133 (by omega) (by omega)) gX11_buyer_X4_choice rfl hdX4_choice (by decide) (Nat.le_of_ble_eq_true rfl) dX11_buyer_132 rfl (fun r135 M136 h137 => ?_)
      obtain ⟨a139, rfl, hM136, h138⟩ := h137
      exact hret _ _ _ _ dX11_buyer_135 ⟨a139, rfl, hM136, by omega⟩
  · refine y_bipush C dX11_buyer_8 rfl ?_
    exact hret _ _ _ _ dX11_buyer_10 ⟨(-2), rfl, hM0, by omega⟩
set_option maxHeartbeats 4000000 in
theorem s1_X11_wants {l : Launch} {dC : Nat → ClassId} {dI : Nat → Nat → Nat} {ad : Nat → Nat} {cA : Nat → ClassId} {pr : Nat → Nat → Bool} {Kz : mm_M} {M0 : mm_M} (hM0 : INV pr Kz M0) (hpr : PX pr) (a1 : Int) (ha1 : -2147483648 ≤ a1 ∧ a1 ≤ 2147483647) (a2 : Int) (ha2 : -2147483648 ≤ a2 ∧ a2 ≤ 2147483647) : Ci l 3 yX11_wants wsX11_wants dC dI ad cA [.ref (ad 0), .int (sI a1), .int (sI a2)] M0 (fun r M' => ∃ a : Int, r = sI a ∧ INV pr Kz M' ∧ (-2147483648) ≤ a ∧ a ≤ 2147483647) := by
  refine ci_of (cc := cX11_wants) (maxL := 3) (ty := .int) (lv := [(0, .ref (ad 0)), (1, .int (sI a1)), (2, .int (sI a2))]) (by decide) rfl (fun r M' hp => rfl) (Nat.le_of_ble_eq_true rfl) rfl ?_
  intro p e s m args below meth c A Q C hret
  refine j_aload_n C 0 0 dX11_wants_0 rfl rfl ?_
  refine j_iload_n C 1 1 dX11_wants_1 rfl rfl ?_
  refine j_callVi C (d := 0) (As := [.int (sI a1)]) (st := []) 0 (s_lt rfl rfl) (s_kc (c := 10) rfl rfl) (by decide) rfl (s1_X11_isBuyer hM0 a1 (by omega)) gX11_wants_X11_isBuyer rfl hdX11_isBuyer (by decide) (Nat.le_of_ble_eq_true rfl) dX11_wants_2 rfl (fun r101 M102 h103 => ?_)
  obtain ⟨a105, rfl, rfl, h104⟩ := h103
  refine y_if_eq C 16 dX11_wants_5 (by decide) (by omega) (fun h106 => ?_) (fun h106 => ?_)
  · refine y_ldc C (-99000002) dX11_wants_16 kX11_wants_188 rfl ?_
    exact hret _ _ _ _ dX11_wants_18 ⟨(-99000002), rfl, hM0, by omega⟩
  · refine j_aload_n C 0 0 dX11_wants_8 rfl rfl ?_
    refine j_iload_n C 2 2 dX11_wants_9 rfl rfl ?_
    refine j_callVi C (d := 0) (As := [.int (sI a2)]) (st := []) 0 (s_lt rfl rfl) (s_kc (c := 10) rfl rfl) (by decide) rfl (s1_X11_isKind hM0 a2 (by omega)) gX11_wants_X11_isKind rfl hdX11_isKind (by decide) (Nat.le_of_ble_eq_true rfl) dX11_wants_10 rfl (fun r107 M108 h109 => ?_)
    obtain ⟨a111, rfl, rfl, h110⟩ := h109
    refine y_if_ne C 19 dX11_wants_13 (by decide) (by omega) (fun h112 => ?_) (fun h112 => ?_)
    · refine j_aload_n C 0 0 dX11_wants_19 rfl rfl ?_
      refine y_getC C 10 81 fX11_wants_76 rfl rfl ft_10_12 sm_10_12 rfl hM0 dX11_wants_20 ?_
      refine j_aload_n C 0 0 dX11_wants_23 rfl rfl ?_
      refine y_getM C 10 6 fX11_wants_26 rfl rfl ft_10_4 sm_10_4 (by decide) hM0 dX11_wants_24 (fun v113 ev113 cv113 => ?_)
      refine j_aload_n C 0 0 dX11_wants_27 rfl rfl ?_
      refine y_getC C 10 12 fX11_wants_36 rfl rfl ft_10_6 sm_10_6 rfl hM0 dX11_wants_28 ?_
      refine j_callVv C (d := 0) (As := [.ref (ad v113), .ref (ad 12)]) (st := []) 81 (s_lt rfl rfl) (s_kc (c := 3) rfl rfl) (by decide) rfl (s1_X4_tune hM0 hpr cv113 rfl) gX11_wants_X4_tune rfl hdX4_tune (by decide) (Nat.le_of_ble_eq_true rfl) dX11_wants_31 rfl (fun M115 h116 => ?_)
      have hM115 := h116
      refine j_aload_n C 0 0 dX11_wants_34 rfl rfl ?_
      refine y_getC C 10 81 fX11_wants_76 rfl rfl ft_10_12 sm_10_12 rfl hM115 dX11_wants_35 ?_
      refine j_iload_n C 1 1 dX11_wants_38 rfl rfl ?_
      refine j_iload_n C 2 2 dX11_wants_39 rfl rfl ?_
      refine j_aload_n C 0 0 dX11_wants_40 rfl rfl ?_
      refine y_getC C 10 12 fX11_wants_36 rfl rfl ft_10_6 sm_10_6 rfl hM115 dX11_wants_41 ?_
      refine y_getI C 8 _ _ fX11_wants_150 rfl rfl ft_8_3 sb_8_3 hM115 dX11_wants_44 (fun a118 ea118 la118 ua118 => ?_)
      refine j_callVi C (d := 2) (As := [.int (sI a1), .int (sI a2), .int (sI a118)]) (st := []) 81 (s_lt rfl rfl) (s_kc (c := 3) rfl rfl) (by decide) rfl (s1_X4_wish hM115 hpr a1 (by omega) a2 (by omega) a118 (by omega) (by omega) (by omega)) gX11_wants_X4_wish rfl hdX4_wish (by decide) (Nat.le_of_ble_eq_true rfl) dX11_wants_47 rfl (fun r120 M121 h122 => ?_)
      obtain ⟨a124, rfl, hM121, h123⟩ := h122
      exact hret _ _ _ _ dX11_wants_50 ⟨a124, rfl, hM121, by omega⟩
    · refine y_ldc C (-99000002) dX11_wants_16 kX11_wants_188 rfl ?_
      exact hret _ _ _ _ dX11_wants_18 ⟨(-99000002), rfl, hM0, by omega⟩
set_option maxHeartbeats 4000000 in
theorem s1_X6_keep {l : Launch} {dC : Nat → ClassId} {dI : Nat → Nat → Nat} {ad : Nat → Nat} {cA : Nat → ClassId} {pr : Nat → Nat → Bool} {Kz : mm_M} {M0 : mm_M} (hM0 : INV pr Kz M0) (hpr : PX pr) (hq8_0 : ∀ i, s_c i = 8 → pr i 0 = false) {v1 : Nat} (cv1 : s_c v1 = 8) : Cv l 1 yX6_keep wsX6_keep dC dI ad cA [.ref (ad 18), .ref (ad v1)] M0 (fun M' => INV pr Kz M') := by
  refine cv_of (cc := cX6_keep) (maxL := 2) (lv := [(0, .ref (ad 18)), (1, .ref (ad v1))]) (by decide) rfl (Nat.le_of_ble_eq_true rfl) rfl ?_
  intro p e s m args below meth c A Q C hret
  refine j_aload_n C 0 0 dX6_keep_0 rfl rfl ?_
  refine y_getC C 5 19 fX6_keep_11 rfl rfl ft_5_0 sm_5_0 rfl hM0 dX6_keep_1 ?_
  refine j_aload_n C 0 0 dX6_keep_4 rfl rfl ?_
  refine y_getI C 5 _ _ fX6_keep_17 rfl rfl ft_5_1 sb_5_1 hM0 dX6_keep_5 (fun a101 ea101 la101 ua101 => ?_)
  refine y_aald C 27 10 8 rfl rfl rfl rfl an_27 rfl sma_27 sta_27 (by decide) hM0 dX6_keep_8 (by omega) (fun v103 cv103 => ?_)
  refine j_aload_n C 1 1 dX6_keep_9 rfl rfl ?_
  refine j_callVv C (d := 0) (As := [.ref (ad v1)]) (st := []) v103 (s_lt cv103 rfl) (s_kc (c := 8) cv103 rfl) (by decide) rfl (s1_X9_copyFrom hM0 hpr hq8_0 cv103 cv1) gX6_keep_X9_copyFrom rfl hdX9_copyFrom (by decide) (Nat.le_of_ble_eq_true rfl) dX6_keep_10 rfl (fun M105 h106 => ?_)
  have hM105 := h106
  refine j_aload_n C 0 0 dX6_keep_13 rfl rfl ?_
  refine j_aload_n C 0 0 dX6_keep_14 rfl rfl ?_
  refine y_getI C 5 _ _ fX6_keep_17 rfl rfl ft_5_1 sb_5_1 hM105 dX6_keep_15 (fun a108 ea108 la108 ua108 => ?_)
  refine y_iconst C dX6_keep_18 ?_
  refine y_iadd C dX6_keep_19 ?_
  refine y_bipush C dX6_keep_20 rfl ?_
  refine y_irem C dX6_keep_22 (by omega) ?_
  refine y_putI C 5 _ _ qX6_keep_17 rfl rfl ft_5_1 sb_5_1 hM105 (PX.w hpr rfl rfl) dX6_keep_23 (by omega) (fun M110 eM110 hM110 => ?_)
  refine j_aload_n C 0 0 dX6_keep_26 rfl rfl ?_
  refine j_aload_n C 0 0 dX6_keep_27 rfl rfl ?_
  refine y_getI C 5 _ _ fX6_keep_21 rfl rfl ft_5_2 sb_5_2 hM110 dX6_keep_28 (fun a111 ea111 la111 ua111 => ?_)
  refine y_iconst C dX6_keep_31 ?_
  refine y_iadd C dX6_keep_32 ?_
  refine y_bipush C dX6_keep_33 rfl ?_
  refine y_mmin C wX6_keep_29_0 wX6_keep_29_1 wX6_keep_29_2 wX6_keep_29_3 (by decide) (Nat.le_of_ble_eq_true rfl) dX6_keep_35 (by omega) (fun a113 ha113 => ?_)
  refine y_putI C 5 _ _ qX6_keep_21 rfl rfl ft_5_2 sb_5_2 hM110 (PX.w hpr rfl rfl) dX6_keep_38 (by omega) (fun M114 eM114 hM114 => ?_)
  exact hret _ _ _ dX6_keep_41 hM114
set_option maxHeartbeats 4000000 in
theorem s1_X11_seed {l : Launch} {dC : Nat → ClassId} {dI : Nat → Nat → Nat} {ad : Nat → Nat} {cA : Nat → ClassId} {pr : Nat → Nat → Bool} {Kz : mm_M} {M0 : mm_M} (hM0 : INV pr Kz M0) (hpr : PX pr) (hq8_0 : ∀ i, s_c i = 8 → pr i 0 = false) (a1 : Int) (ha1 : -2147483648 ≤ a1 ∧ a1 ≤ 2147483647) : Ci l 2 yX11_seed wsX11_seed dC dI ad cA [.ref (ad 0), .int (sI a1)] M0 (fun r M' => ∃ a : Int, r = sI a ∧ INV pr Kz M' ∧ (-2147483648) ≤ a ∧ a ≤ 2147483647) := by
  refine ci_of (cc := cX11_seed) (maxL := 3) (ty := .int) (lv := [(0, .ref (ad 0)), (1, .int (sI a1))]) (by decide) rfl (fun r M' hp => rfl) (Nat.le_of_ble_eq_true rfl) rfl ?_
  intro p e s m args below meth c A Q C hret
  refine j_aload_n C 0 0 dX11_seed_0 rfl rfl ?_
  refine y_getC C 10 18 fX11_seed_46 rfl rfl ft_10_8 sm_10_8 rfl hM0 dX11_seed_1 ?_
  refine j_aload_n C 0 0 dX11_seed_4 rfl rfl ?_
  refine y_getC C 10 12 fX11_seed_36 rfl rfl ft_10_6 sm_10_6 rfl hM0 dX11_seed_5 ?_
  refine j_callVv C (d := 1) (As := [.ref (ad 12)]) (st := []) 18 (s_lt rfl rfl) (s_kc (c := 5) rfl rfl) (by decide) rfl (s1_X6_keep hM0 hpr hq8_0 rfl) gX11_seed_X6_keep rfl hdX6_keep (by decide) (Nat.le_of_ble_eq_true rfl) dX11_seed_8 rfl (fun M102 h103 => ?_)
  have hM102 := h103
  refine j_aload_n C 0 0 dX11_seed_11 rfl rfl ?_
  refine y_getC C 10 12 fX11_seed_36 rfl rfl ft_10_6 sm_10_6 rfl hM102 dX11_seed_12 ?_
  refine y_getI C 8 _ _ fX11_seed_195 rfl rfl ft_8_8 sb_8_8 hM102 dX11_seed_15 (fun a105 ea105 la105 ua105 => ?_)
  refine j_istore_n C 2 [(2, .int (sI a105)), (0, .ref (ad 0)), (1, .int (sI a1))] dX11_seed_18 rfl (by decide) rfl ?_
  refine j_aload_n C 1 0 dX11_seed_19 rfl rfl ?_
  refine y_getC C 10 12 fX11_seed_36 rfl rfl ft_10_6 sm_10_6 rfl hM102 dX11_seed_20 ?_
  refine j_iload_n C 2 1 dX11_seed_23 rfl rfl ?_
  refine y_putIF C 8 qX11_seed_195 rfl rfl ft_8_8 sb_8_8 hM102 (PX.w hpr rfl rfl) dX11_seed_24 (fun M107 eM107 hM107 => ?_)
  refine j_iload_n C 0 2 dX11_seed_27 rfl rfl ?_
  exact hret _ _ _ _ dX11_seed_28 ⟨a105, rfl, hM107, by omega⟩
set_option maxHeartbeats 4000000 in
theorem s1_X9_everyKind {l : Launch} {dC : Nat → ClassId} {dI : Nat → Nat → Nat} {ad : Nat → Nat} {cA : Nat → ClassId} {pr : Nat → Nat → Bool} {Kz : mm_M} {M0 : mm_M} (hM0 : INV pr Kz M0) {v0 : Nat} (cv0 : s_c v0 = 8) : Ci l 0 yX9_everyKind wsX9_everyKind dC dI ad cA [.ref (ad v0)] M0 (fun r M' => ∃ a : Int, r = sI a ∧ M0 = M' ∧ 0 ≤ a ∧ a ≤ 255 ∧ ((0 ≤ a ∧ a ≤ 255))) := by
  refine ci_of (cc := cX9_everyKind) (maxL := 1) (ty := .int) (lv := [(0, .ref (ad v0))]) (by decide) rfl (fun r M' hp => rfl) (Nat.le_of_ble_eq_true rfl) rfl ?_
  intro p e s m args below meth c A Q C hret
  refine y_iconst C dX9_everyKind_0 ?_
  refine j_aload_n C 0 0 dX9_everyKind_1 rfl rfl ?_
  refine y_getI C 8 _ _ fX9_everyKind_9 cv0 rfl ft_8_0 sb_8_0 hM0 dX9_everyKind_2 (fun a101 ea101 la101 ua101 => ?_)
  refine y_shl1 C 8 256 dX9_everyKind_5 rfl (by decide) (by omega) (fun a103 la103 ua103 => ?_)
  refine y_iconst C dX9_everyKind_6 ?_
  refine y_isub C dX9_everyKind_7 ?_
  exact hret _ _ _ _ dX9_everyKind_8 ⟨(a103 - 1), rfl, rfl, by omega⟩
set_option maxHeartbeats 4000000 in
theorem s1_X9_isShut {l : Launch} {dC : Nat → ClassId} {dI : Nat → Nat → Nat} {ad : Nat → Nat} {cA : Nat → ClassId} {pr : Nat → Nat → Bool} {Kz : mm_M} {M0 : mm_M} (hM0 : INV pr Kz M0) {v0 : Nat} (cv0 : s_c v0 = 8) : Ci l 1 yX9_isShut wsX9_isShut dC dI ad cA [.ref (ad v0)] M0 (fun r M' => ∃ a : Int, r = sI a ∧ M0 = M' ∧ 0 ≤ a ∧ a ≤ 1 ∧ ((a = 0) ∨ (a = 1))) := by
  refine ci_of (cc := cX9_isShut) (maxL := 1) (ty := .boolean) (lv := [(0, .ref (ad v0))]) (by decide) rfl (fun r M' hp => by obtain ⟨a, rfl, -, h⟩ := hp; rcases (show a = 0 ∨ a = 1 by omega) with rfl | rfl <;> rfl) (Nat.le_of_ble_eq_true rfl) rfl ?_
  intro p e s m args below meth c A Q C hret
  refine j_aload_n C 0 0 dX9_isShut_0 rfl rfl ?_
  refine j_callVi C (d := 0) (As := []) (st := []) v0 (s_lt cv0 rfl) (s_kc (c := 8) cv0 rfl) (by decide) rfl (s1_X9_everyKind hM0 cv0) gX9_isShut_X9_everyKind rfl hdX9_everyKind (by decide) (Nat.le_of_ble_eq_true rfl) dX9_isShut_1 rfl (fun r101 M102 h103 => ?_)
  obtain ⟨a105, rfl, rfl, h104⟩ := h103
  refine j_aload_n C 0 0 dX9_isShut_4 rfl rfl ?_
  refine y_getI C 8 _ _ fX9_isShut_25 cv0 rfl ft_8_4 sb_8_4 hM0 dX9_isShut_5 (fun a106 ea106 la106 ua106 => ?_)
  refine y_iconst C dX9_isShut_8 ?_
  refine y_not C dX9_isShut_9 ?_
  refine y_iandL C dX9_isShut_10 (by omega) (fun a108 la108 ua108 => ?_)
  refine j_aload_n C 0 0 dX9_isShut_11 rfl rfl ?_
  refine y_getI C 8 _ _ fX9_isShut_22 cv0 rfl ft_8_3 sb_8_3 hM0 dX9_isShut_12 (fun a109 ea109 la109 ua109 => ?_)
  refine y_iconst C dX9_isShut_15 ?_
  refine y_not C dX9_isShut_16 ?_
  refine y_iandL C dX9_isShut_17 (by omega) (fun a111 la111 ua111 => ?_)
  refine y_if_ne C 25 dX9_isShut_18 (by decide) (by omega) (fun h112 => ?_) (fun h112 => ?_)
  · refine y_iconst C dX9_isShut_25 ?_
    exact hret _ _ _ _ dX9_isShut_26 ⟨0, rfl, rfl, by omega⟩
  · refine y_iconst C dX9_isShut_21 ?_
    refine j_goto C 26 dX9_isShut_22 (by decide) ?_
    exact hret _ _ _ _ dX9_isShut_26 ⟨1, rfl, rfl, by omega⟩
set_option maxHeartbeats 4000000 in
theorem s1_X1_visitBy {l : Launch} {dC : Nat → ClassId} {dI : Nat → Nat → Nat} {ad : Nat → Nat} {cA : Nat → ClassId} {pr : Nat → Nat → Bool} {Kz : mm_M} {M0 : mm_M} (hM0 : INV pr Kz M0) (hpr : PX pr) {v1 : Nat} (cv1 : s_c v1 = 6) {v2 : Nat} (cv2 : s_c v2 = 8) (a3 : Int) (ha3 : -2147483648 ≤ a3 ∧ a3 ≤ 2147483647) : Ci l 4 yX1_visitBy wsX1_visitBy dC dI ad cA [.ref (ad 87), .ref (ad v1), .ref (ad v2), .int (sI a3)] M0 (fun r M' => ∃ a : Int, r = sI a ∧ INV pr Kz M' ∧ (-13) ≤ a ∧ a ≤ 7) := by
  refine ci_of (cc := cX1_visitBy) (maxL := 5) (ty := .int) (lv := [(0, .ref (ad 87)), (1, .ref (ad v1)), (2, .ref (ad v2)), (3, .int (sI a3))]) (by decide) rfl (fun r M' hp => rfl) (Nat.le_of_ble_eq_true rfl) rfl ?_
  intro p e s m args below meth c A Q C hret
  refine j_iload_n C 3 3 dX1_visitBy_0 rfl rfl ?_
  refine y_if_lt C 12 dX1_visitBy_1 (by decide) (by omega) (fun h101 => ?_) (fun h101 => ?_)
  · refine y_bipush C dX1_visitBy_12 rfl ?_
    exact hret _ _ _ _ dX1_visitBy_14 ⟨(-11), rfl, hM0, by omega⟩
  · refine j_iload_n C 3 3 dX1_visitBy_4 rfl rfl ?_
    refine j_aload_n C 1 1 dX1_visitBy_5 rfl rfl ?_
    refine y_getI C 6 _ _ fX1_visitBy_15 cv1 rfl ft_6_0 sb_6_0 hM0 dX1_visitBy_6 (fun a102 ea102 la102 ua102 => ?_)
    refine y_icmp_lt C 15 dX1_visitBy_9 (by decide) (by omega) (fun h104 => ?_) (fun h104 => ?_)
    · refine j_aload_n C 2 2 dX1_visitBy_15 rfl rfl ?_
      refine j_callVi C (d := 1) (As := []) (st := []) v2 (s_lt cv2 rfl) (s_kc (c := 8) cv2 rfl) (by decide) rfl (s1_X9_isShut hM0 cv2) gX1_visitBy_X9_isShut rfl hdX9_isShut (by decide) (Nat.le_of_ble_eq_true rfl) dX1_visitBy_16 rfl (fun r105 M106 h107 => ?_)
      obtain ⟨a109, rfl, rfl, h108⟩ := h107
      refine y_if_eq C 25 dX1_visitBy_19 (by decide) (by omega) (fun h110 => ?_) (fun h110 => ?_)
      · refine j_aload_n C 0 0 dX1_visitBy_25 rfl rfl ?_
        refine y_getC C 1 81 fX1_visitBy_9 rfl rfl ft_1_0 sm_1_0 rfl hM0 dX1_visitBy_26 ?_
        refine j_aload_n C 1 1 dX1_visitBy_29 rfl rfl ?_
        refine j_aload_n C 2 2 dX1_visitBy_30 rfl rfl ?_
        refine j_callVv C (d := 0) (As := [.ref (ad v1), .ref (ad v2)]) (st := []) 81 (s_lt rfl rfl) (s_kc (c := 3) rfl rfl) (by decide) rfl (s1_X4_tune hM0 hpr cv1 cv2) gX1_visitBy_X4_tune rfl hdX4_tune (by decide) (Nat.le_of_ble_eq_true rfl) dX1_visitBy_31 rfl (fun M112 h113 => ?_)
        have hM112 := h113
        refine j_aload_n C 0 0 dX1_visitBy_34 rfl rfl ?_
        refine y_getC C 1 81 fX1_visitBy_9 rfl rfl ft_1_0 sm_1_0 rfl hM112 dX1_visitBy_35 ?_
        refine j_iload_n C 3 3 dX1_visitBy_38 rfl rfl ?_
        refine j_aload_n C 2 2 dX1_visitBy_39 rfl rfl ?_
        refine y_getI C 8 _ _ fX1_visitBy_33 cv2 rfl ft_8_3 sb_8_3 hM112 dX1_visitBy_40 (fun a115 ea115 la115 ua115 => ?_)
        refine j_aload_n C 2 2 dX1_visitBy_43 rfl rfl ?_
        refine y_getI C 8 _ _ fX1_visitBy_36 cv2 rfl ft_8_4 sb_8_4 hM112 dX1_visitBy_44 (fun a117 ea117 la117 ua117 => ?_)
        refine j_callVi C (d := 3) (As := [.int (sI a3), .int (sI a115), .int (sI a117)]) (st := []) 81 (s_lt rfl rfl) (s_kc (c := 3) rfl rfl) (by decide) rfl (s1_X4_choice hM112 hpr a3 (by omega) a115 (by omega) a117 (by omega) (by omega)) gX1_visitBy_X4_choice rfl hdX4_choice (by decide) (Nat.le_of_ble_eq_true rfl) dX1_visitBy_47 rfl (fun r119 M120 h121 => ?_)
        obtain ⟨a123, rfl, hM120, h122⟩ := h121
        refine j_istore C 4 [(4, .int (sI a123)), (0, .ref (ad 87)), (1, .ref (ad v1)), (2, .ref (ad v2)), (3, .int (sI a3))] dX1_visitBy_50 (by decide) rfl ?_
        refine j_iload C 0 dX1_visitBy_52 rfl ?_
        refine y_if_ge C 60 dX1_visitBy_54 (by decide) (by omega) (fun h124 => ?_) (fun h124 => ?_)
        · refine j_aload_n C 3 2 dX1_visitBy_60 rfl rfl ?_
          refine j_dup C dX1_visitBy_61 rfl ?_
          refine y_getI C 8 _ _ fX1_visitBy_33 cv2 rfl ft_8_3 sb_8_3 hM120 dX1_visitBy_62 (fun a125 ea125 la125 ua125 => ?_)
          refine y_iconst C dX1_visitBy_65 ?_
          refine j_iload C 0 dX1_visitBy_66 rfl ?_
          refine y_shl1 C 7 128 dX1_visitBy_68 rfl (by decide) (by omega) (fun a127 la127 ua127 => ?_)
          refine y_iorN C 8 255 dX1_visitBy_69 rfl (by decide) (by omega) (fun a128 la128 ua128 => ?_)
          refine y_putI C 8 _ _ qX1_visitBy_33 cv2 rfl ft_8_3 sb_8_3 hM120 (PX.w hpr cv2 rfl) dX1_visitBy_70 (by omega) (fun M129 eM129 hM129 => ?_)
          refine j_aload_n C 3 2 dX1_visitBy_73 rfl rfl ?_
          refine j_dup C dX1_visitBy_74 rfl ?_
          refine y_getI C 8 _ _ fX1_visitBy_43 cv2 rfl ft_8_5 sb_8_5 hM129 dX1_visitBy_75 (fun a130 ea130 la130 ua130 => ?_)
          refine j_aload_n C 3 2 dX1_visitBy_78 rfl rfl ?_
          refine y_getT C 8 25 fX1_visitBy_46 cv2 rfl ft_8_1 rfl sm_8_1 st_8_1 (by decide) hM129 dX1_visitBy_79 (fun v132 cv132 => ?_)
          refine j_iload C 0 dX1_visitBy_82 rfl ?_
          refine y_iald C 25 8 _ _ cv132 rfl rfl ak_25 an_25 rfl (sb_25 _) hM129 dX1_visitBy_84 (by omega) (fun a133 ea133 la133 ua133 => ?_)
          refine y_iadd0 C dX1_visitBy_85 (fun a134 la134 ua134 => ?_)
          refine y_putIF C 8 qX1_visitBy_43 cv2 rfl ft_8_5 sb_8_5 hM129 (PX.w hpr cv2 rfl) dX1_visitBy_86 (fun M135 eM135 hM135 => ?_)
          refine j_iload C 0 dX1_visitBy_89 rfl ?_
          exact hret _ _ _ _ dX1_visitBy_91 ⟨a123, rfl, hM135, by omega⟩
        · refine y_bipush C dX1_visitBy_57 rfl ?_
          exact hret _ _ _ _ dX1_visitBy_59 ⟨(-13), rfl, hM120, by omega⟩
      · refine y_bipush C dX1_visitBy_22 rfl ?_
        exact hret _ _ _ _ dX1_visitBy_24 ⟨(-12), rfl, hM0, by omega⟩
    · refine y_bipush C dX1_visitBy_12 rfl ?_
      exact hret _ _ _ _ dX1_visitBy_14 ⟨(-11), rfl, hM0, by omega⟩
set_option maxHeartbeats 4000000 in
theorem s1_X11_settle {l : Launch} {dC : Nat → ClassId} {dI : Nat → Nat → Nat} {ad : Nat → Nat} {cA : Nat → ClassId} {pr : Nat → Nat → Bool} {Kz : mm_M} {M0 : mm_M} (hM0 : INV pr Kz M0) (hpr : PX pr) (hq8_0 : ∀ i, s_c i = 8 → pr i 0 = false) (a1 : Int) (ha1 : -2147483648 ≤ a1 ∧ a1 ≤ 2147483647) : Ci l 2 yX11_settle wsX11_settle dC dI ad cA [.ref (ad 0), .int (sI a1)] M0 (fun r M' => ∃ a : Int, r = sI a ∧ INV pr Kz M' ∧ (-2147483648) ≤ a ∧ a ≤ 2147483647) := by
  refine ci_of (cc := cX11_settle) (maxL := 2) (ty := .int) (lv := [(0, .ref (ad 0)), (1, .int (sI a1))]) (by decide) rfl (fun r M' hp => rfl) (Nat.le_of_ble_eq_true rfl) rfl ?_
  intro p e s m args below meth c A Q C hret
  refine j_iload_n C 1 1 dX11_settle_0 rfl rfl ?_
  refine y_if_lt C 15 dX11_settle_1 (by decide) (by omega) (fun h101 => ?_) (fun h101 => ?_)
  · refine j_iload_n C 1 1 dX11_settle_15 rfl rfl ?_
    exact hret _ _ _ _ dX11_settle_16 ⟨a1, rfl, hM0, by omega⟩
  · refine j_aload_n C 0 0 dX11_settle_4 rfl rfl ?_
    refine y_getC C 10 18 fX11_settle_46 rfl rfl ft_10_8 sm_10_8 rfl hM0 dX11_settle_5 ?_
    refine j_aload_n C 0 0 dX11_settle_8 rfl rfl ?_
    refine y_getC C 10 15 fX11_settle_40 rfl rfl ft_10_7 sm_10_7 rfl hM0 dX11_settle_9 ?_
    refine j_callVv C (d := 1) (As := [.ref (ad 15)]) (st := []) 18 (s_lt rfl rfl) (s_kc (c := 5) rfl rfl) (by decide) rfl (s1_X6_keep hM0 hpr hq8_0 rfl) gX11_settle_X6_keep rfl hdX6_keep (by decide) (Nat.le_of_ble_eq_true rfl) dX11_settle_12 rfl (fun M103 h104 => ?_)
    have hM103 := h104
    refine j_iload_n C 1 1 dX11_settle_15 rfl rfl ?_
    exact hret _ _ _ _ dX11_settle_16 ⟨a1, rfl, hM103, by omega⟩
set_option maxHeartbeats 4000000 in
theorem s1_X11_visit {l : Launch} {dC : Nat → ClassId} {dI : Nat → Nat → Nat} {ad : Nat → Nat} {cA : Nat → ClassId} {pr : Nat → Nat → Bool} {Kz : mm_M} {M0 : mm_M} (hM0 : INV pr Kz M0) (hpr : PX pr) (hq8_0 : ∀ i, s_c i = 8 → pr i 0 = false) (a1 : Int) (ha1 : -2147483648 ≤ a1 ∧ a1 ≤ 2147483647) : Ci l 5 yX11_visit wsX11_visit dC dI ad cA [.ref (ad 0), .int (sI a1)] M0 (fun r M' => ∃ a : Int, r = sI a ∧ INV pr Kz M' ∧ (-2147483648) ≤ a ∧ a ≤ 2147483647) := by
  refine ci_of (cc := cX11_visit) (maxL := 2) (ty := .int) (lv := [(0, .ref (ad 0)), (1, .int (sI a1))]) (by decide) rfl (fun r M' hp => rfl) (Nat.le_of_ble_eq_true rfl) rfl ?_
  intro p e s m args below meth c A Q C hret
  refine j_aload_n C 0 0 dX11_visit_0 rfl rfl ?_
  refine y_getC C 10 15 fX11_visit_40 rfl rfl ft_10_7 sm_10_7 rfl hM0 dX11_visit_1 ?_
  refine j_aload_n C 0 0 dX11_visit_4 rfl rfl ?_
  refine y_getC C 10 12 fX11_visit_36 rfl rfl ft_10_6 sm_10_6 rfl hM0 dX11_visit_5 ?_
  refine j_callVv C (d := 0) (As := [.ref (ad 12)]) (st := []) 15 (s_lt rfl rfl) (s_kc (c := 8) rfl rfl) (by decide) rfl (s1_X9_copyFrom hM0 hpr hq8_0 rfl rfl) gX11_visit_X9_copyFrom rfl hdX9_copyFrom (by decide) (Nat.le_of_ble_eq_true rfl) dX11_visit_8 rfl (fun M102 h103 => ?_)
  have hM102 := h103
  refine j_aload_n C 0 0 dX11_visit_11 rfl rfl ?_
  refine j_aload_n C 0 0 dX11_visit_12 rfl rfl ?_
  refine y_getC C 10 87 fX11_visit_85 rfl rfl ft_10_13 sm_10_13 rfl hM102 dX11_visit_13 ?_
  refine j_aload_n C 0 0 dX11_visit_16 rfl rfl ?_
  refine y_getM C 10 6 fX11_visit_26 rfl rfl ft_10_4 sm_10_4 (by decide) hM102 dX11_visit_17 (fun v105 ev105 cv105 => ?_)
  refine j_aload_n C 0 0 dX11_visit_20 rfl rfl ?_
  refine y_getC C 10 12 fX11_visit_36 rfl rfl ft_10_6 sm_10_6 rfl hM102 dX11_visit_21 ?_
  refine j_iload_n C 1 1 dX11_visit_24 rfl rfl ?_
  refine j_callVi C (d := 4) (As := [.ref (ad v105), .ref (ad 12), .int (sI a1)]) (st := [.ref (ad 0)]) 87 (s_lt rfl rfl) (s_kc (c := 1) rfl rfl) (by decide) rfl (s1_X1_visitBy hM102 hpr cv105 rfl a1 (by omega)) gX11_visit_X1_visitBy rfl hdX1_visitBy (by decide) (Nat.le_of_ble_eq_true rfl) dX11_visit_25 rfl (fun r106 M107 h108 => ?_)
  obtain ⟨a110, rfl, hM107, h109⟩ := h108
  refine j_callVi C (d := 2) (As := [.int (sI a110)]) (st := []) 0 (s_lt rfl rfl) (s_kc (c := 10) rfl rfl) (by decide) rfl (s1_X11_settle hM107 hpr hq8_0 a110 (by omega)) gX11_visit_X11_settle rfl hdX11_settle (by decide) (Nat.le_of_ble_eq_true rfl) dX11_visit_28 rfl (fun r111 M112 h113 => ?_)
  obtain ⟨a115, rfl, hM112, h114⟩ := h113
  exact hret _ _ _ _ dX11_visit_31 ⟨a115, rfl, hM112, by omega⟩
set_option maxHeartbeats 4000000 in
theorem s1_X9_holds {l : Launch} {dC : Nat → ClassId} {dI : Nat → Nat → Nat} {ad : Nat → Nat} {cA : Nat → ClassId} {pr : Nat → Nat → Bool} {Kz : mm_M} {M0 : mm_M} (hM0 : INV pr Kz M0) {v0 : Nat} (cv0 : s_c v0 = 8) (a1 : Int) (ha1 : -2147483648 ≤ a1 ∧ a1 ≤ 2147483647) : Ci l 0 yX9_holds wsX9_holds dC dI ad cA [.ref (ad v0), .int (sI a1)] M0 (fun r M' => ∃ a : Int, r = sI a ∧ M0 = M' ∧ 0 ≤ a ∧ a ≤ 1 ∧ ((a1 < 0 ∧ a = 0) ∨ (0 ≤ (M0.1 v0 0).toInt ∧ (M0.1 v0 0).toInt ≤ 8 ∧ 0 ≤ a1 ∧ (M0.1 v0 0).toInt ≤ a1 ∧ a = 0) ∨ (1 ≤ (M0.1 v0 0).toInt ∧ (M0.1 v0 0).toInt ≤ 8 ∧ 0 ≤ a1 ∧ a1 < (M0.1 v0 0).toInt ∧ a = 1))) := by
  refine ci_of (cc := cX9_holds) (maxL := 2) (ty := .boolean) (lv := [(0, .ref (ad v0)), (1, .int (sI a1))]) (by decide) rfl (fun r M' hp => by obtain ⟨a, rfl, -, h⟩ := hp; rcases (show a = 0 ∨ a = 1 by omega) with rfl | rfl <;> rfl) (Nat.le_of_ble_eq_true rfl) rfl ?_
  intro p e s m args below meth c A Q C hret
  refine j_iload_n C 1 1 dX9_holds_0 rfl rfl ?_
  refine y_if_lt C 16 dX9_holds_1 (by decide) (by omega) (fun h101 => ?_) (fun h101 => ?_)
  · refine y_iconst C dX9_holds_16 ?_
    exact hret _ _ _ _ dX9_holds_17 ⟨0, rfl, rfl, by omega⟩
  · refine j_iload_n C 1 1 dX9_holds_4 rfl rfl ?_
    refine j_aload_n C 0 0 dX9_holds_5 rfl rfl ?_
    refine y_getI C 8 _ _ fX9_holds_9 cv0 rfl ft_8_0 sb_8_0 hM0 dX9_holds_6 (fun a102 ea102 la102 ua102 => ?_)
    refine y_icmp_ge C 16 dX9_holds_9 (by decide) (by omega) (fun h104 => ?_) (fun h104 => ?_)
    · refine y_iconst C dX9_holds_16 ?_
      exact hret _ _ _ _ dX9_holds_17 ⟨0, rfl, rfl, by omega⟩
    · refine y_iconst C dX9_holds_12 ?_
      refine j_goto C 17 dX9_holds_13 (by decide) ?_
      exact hret _ _ _ _ dX9_holds_17 ⟨1, rfl, rfl, by omega⟩
set_option maxHeartbeats 4000000 in
theorem s1_X1_giveAway {l : Launch} {dC : Nat → ClassId} {dI : Nat → Nat → Nat} {ad : Nat → Nat} {cA : Nat → ClassId} {pr : Nat → Nat → Bool} {Kz : mm_M} {M0 : mm_M} (hM0 : INV pr Kz M0) (hpr : PX pr) {v1 : Nat} (cv1 : s_c v1 = 8) (a2 : Int) (ha2 : -2147483648 ≤ a2 ∧ a2 ≤ 2147483647) : Ci l 2 yX1_giveAway wsX1_giveAway dC dI ad cA [.ref (ad 87), .ref (ad v1), .int (sI a2)] M0 (fun r M' => ∃ a : Int, r = sI a ∧ INV pr Kz M' ∧ (-2147483648) ≤ a ∧ a ≤ 2147483647) := by
  refine ci_of (cc := cX1_giveAway) (maxL := 3) (ty := .int) (lv := [(0, .ref (ad 87)), (1, .ref (ad v1)), (2, .int (sI a2))]) (by decide) rfl (fun r M' hp => rfl) (Nat.le_of_ble_eq_true rfl) rfl ?_
  intro p e s m args below meth c A Q C hret
  refine j_aload_n C 1 1 dX1_giveAway_0 rfl rfl ?_
  refine j_iload_n C 2 2 dX1_giveAway_1 rfl rfl ?_
  refine j_callVi C (d := 0) (As := [.int (sI a2)]) (st := []) v1 (s_lt cv1 rfl) (s_kc (c := 8) cv1 rfl) (by decide) rfl (s1_X9_holds hM0 cv1 a2 (by omega)) gX1_giveAway_X9_holds rfl hdX9_holds (by decide) (Nat.le_of_ble_eq_true rfl) dX1_giveAway_2 rfl (fun r101 M102 h103 => ?_)
  obtain ⟨a105, rfl, rfl, h104⟩ := h103
  refine y_if_ne C 11 dX1_giveAway_5 (by decide) (by omega) (fun h106 => ?_) (fun h106 => ?_)
  · refine j_aload_n C 1 1 dX1_giveAway_11 rfl rfl ?_
    refine j_callVi C (d := 1) (As := []) (st := []) v1 (s_lt cv1 rfl) (s_kc (c := 8) cv1 rfl) (by decide) rfl (s1_X9_isShut hM0 cv1) gX1_giveAway_X9_isShut rfl hdX9_isShut (by decide) (Nat.le_of_ble_eq_true rfl) dX1_giveAway_12 rfl (fun r107 M108 h109 => ?_)
    obtain ⟨a111, rfl, rfl, h110⟩ := h109
    refine y_if_eq C 21 dX1_giveAway_15 (by decide) (by omega) (fun h112 => ?_) (fun h112 => ?_)
    · refine j_aload_n C 1 1 dX1_giveAway_21 rfl rfl ?_
      refine j_dup C dX1_giveAway_22 rfl ?_
      refine y_getI C 8 _ _ fX1_giveAway_54 cv1 rfl ft_8_6 sb_8_6 hM0 dX1_giveAway_23 (fun a113 ea113 la113 ua113 => ?_)
      refine y_iconst C dX1_giveAway_26 ?_
      refine y_iadd0 C dX1_giveAway_27 (fun a115 la115 ua115 => ?_)
      refine y_putIF C 8 qX1_giveAway_54 cv1 rfl ft_8_6 sb_8_6 hM0 (PX.w hpr cv1 rfl) dX1_giveAway_28 (fun M116 eM116 hM116 => ?_)
      refine j_aload_n C 1 1 dX1_giveAway_31 rfl rfl ?_
      refine y_getI C 8 _ _ fX1_giveAway_54 cv1 rfl ft_8_6 sb_8_6 hM116 dX1_giveAway_32 (fun a117 ea117 la117 ua117 => ?_)
      exact hret _ _ _ _ dX1_giveAway_35 ⟨a117, rfl, hM116, by omega⟩
    · refine y_bipush C dX1_giveAway_18 rfl ?_
      exact hret _ _ _ _ dX1_giveAway_20 ⟨(-12), rfl, hM0, by omega⟩
  · refine y_bipush C dX1_giveAway_8 rfl ?_
    exact hret _ _ _ _ dX1_giveAway_10 ⟨(-11), rfl, hM0, by omega⟩
set_option maxHeartbeats 4000000 in
theorem s1_X11_gift {l : Launch} {dC : Nat → ClassId} {dI : Nat → Nat → Nat} {ad : Nat → Nat} {cA : Nat → ClassId} {pr : Nat → Nat → Bool} {Kz : mm_M} {M0 : mm_M} (hM0 : INV pr Kz M0) (hpr : PX pr) (hq8_0 : ∀ i, s_c i = 8 → pr i 0 = false) (a1 : Int) (ha1 : -2147483648 ≤ a1 ∧ a1 ≤ 2147483647) : Ci l 3 yX11_gift wsX11_gift dC dI ad cA [.ref (ad 0), .int (sI a1)] M0 (fun r M' => ∃ a : Int, r = sI a ∧ INV pr Kz M' ∧ (-2147483648) ≤ a ∧ a ≤ 2147483647) := by
  refine ci_of (cc := cX11_gift) (maxL := 2) (ty := .int) (lv := [(0, .ref (ad 0)), (1, .int (sI a1))]) (by decide) rfl (fun r M' hp => rfl) (Nat.le_of_ble_eq_true rfl) rfl ?_
  intro p e s m args below meth c A Q C hret
  refine j_aload_n C 0 0 dX11_gift_0 rfl rfl ?_
  refine y_getC C 10 15 fX11_gift_40 rfl rfl ft_10_7 sm_10_7 rfl hM0 dX11_gift_1 ?_
  refine j_aload_n C 0 0 dX11_gift_4 rfl rfl ?_
  refine y_getC C 10 12 fX11_gift_36 rfl rfl ft_10_6 sm_10_6 rfl hM0 dX11_gift_5 ?_
  refine j_callVv C (d := 0) (As := [.ref (ad 12)]) (st := []) 15 (s_lt rfl rfl) (s_kc (c := 8) rfl rfl) (by decide) rfl (s1_X9_copyFrom hM0 hpr hq8_0 rfl rfl) gX11_gift_X9_copyFrom rfl hdX9_copyFrom (by decide) (Nat.le_of_ble_eq_true rfl) dX11_gift_8 rfl (fun M102 h103 => ?_)
  have hM102 := h103
  refine j_aload_n C 0 0 dX11_gift_11 rfl rfl ?_
  refine j_aload_n C 0 0 dX11_gift_12 rfl rfl ?_
  refine y_getC C 10 87 fX11_gift_85 rfl rfl ft_10_13 sm_10_13 rfl hM102 dX11_gift_13 ?_
  refine j_aload_n C 0 0 dX11_gift_16 rfl rfl ?_
  refine y_getC C 10 12 fX11_gift_36 rfl rfl ft_10_6 sm_10_6 rfl hM102 dX11_gift_17 ?_
  refine j_iload_n C 1 1 dX11_gift_20 rfl rfl ?_
  refine j_callVi C (d := 2) (As := [.ref (ad 12), .int (sI a1)]) (st := [.ref (ad 0)]) 87 (s_lt rfl rfl) (s_kc (c := 1) rfl rfl) (by decide) rfl (s1_X1_giveAway hM102 hpr rfl a1 (by omega)) gX11_gift_X1_giveAway rfl hdX1_giveAway (by decide) (Nat.le_of_ble_eq_true rfl) dX11_gift_21 rfl (fun r105 M106 h107 => ?_)
  obtain ⟨a109, rfl, hM106, h108⟩ := h107
  refine j_callVi C (d := 2) (As := [.int (sI a109)]) (st := []) 0 (s_lt rfl rfl) (s_kc (c := 10) rfl rfl) (by decide) rfl (s1_X11_settle hM106 hpr hq8_0 a109 (by omega)) gX11_gift_X11_settle rfl hdX11_settle (by decide) (Nat.le_of_ble_eq_true rfl) dX11_gift_24 rfl (fun r110 M111 h112 => ?_)
  obtain ⟨a114, rfl, hM111, h113⟩ := h112
  exact hret _ _ _ _ dX11_gift_27 ⟨a114, rfl, hM111, by omega⟩
set_option maxHeartbeats 4000000 in
theorem s1_X1_turn {l : Launch} {dC : Nat → ClassId} {dI : Nat → Nat → Nat} {ad : Nat → Nat} {cA : Nat → ClassId} {pr : Nat → Nat → Bool} {Kz : mm_M} {M0 : mm_M} (hM0 : INV pr Kz M0) (hpr : PX pr) {v1 : Nat} (cv1 : s_c v1 = 8) (a2 : Int) (ha2 : -2147483648 ≤ a2 ∧ a2 ≤ 2147483647) : Ci l 2 yX1_turn wsX1_turn dC dI ad cA [.ref (ad 87), .ref (ad v1), .int (sI a2)] M0 (fun r M' => ∃ a : Int, r = sI a ∧ INV pr Kz M' ∧ (-12) ≤ a ∧ a ≤ 1) := by
  refine ci_of (cc := cX1_turn) (maxL := 3) (ty := .int) (lv := [(0, .ref (ad 87)), (1, .ref (ad v1)), (2, .int (sI a2))]) (by decide) rfl (fun r M' hp => rfl) (Nat.le_of_ble_eq_true rfl) rfl ?_
  intro p e s m args below meth c A Q C hret
  refine j_aload_n C 1 1 dX1_turn_0 rfl rfl ?_
  refine j_iload_n C 2 2 dX1_turn_1 rfl rfl ?_
  refine j_callVi C (d := 0) (As := [.int (sI a2)]) (st := []) v1 (s_lt cv1 rfl) (s_kc (c := 8) cv1 rfl) (by decide) rfl (s1_X9_holds hM0 cv1 a2 (by omega)) gX1_turn_X9_holds rfl hdX9_holds (by decide) (Nat.le_of_ble_eq_true rfl) dX1_turn_2 rfl (fun r101 M102 h103 => ?_)
  obtain ⟨a105, rfl, rfl, h104⟩ := h103
  refine y_if_ne C 11 dX1_turn_5 (by decide) (by omega) (fun h106 => ?_) (fun h106 => ?_)
  · refine j_aload_n C 1 1 dX1_turn_11 rfl rfl ?_
    refine j_callVi C (d := 1) (As := []) (st := []) v1 (s_lt cv1 rfl) (s_kc (c := 8) cv1 rfl) (by decide) rfl (s1_X9_isShut hM0 cv1) gX1_turn_X9_isShut rfl hdX9_isShut (by decide) (Nat.le_of_ble_eq_true rfl) dX1_turn_12 rfl (fun r107 M108 h109 => ?_)
    obtain ⟨a111, rfl, rfl, h110⟩ := h109
    refine y_if_eq C 21 dX1_turn_15 (by decide) (by omega) (fun h112 => ?_) (fun h112 => ?_)
    · refine j_aload_n C 1 1 dX1_turn_21 rfl rfl ?_
      refine j_dup C dX1_turn_22 rfl ?_
      refine y_getI C 8 _ _ fX1_turn_36 cv1 rfl ft_8_4 sb_8_4 hM0 dX1_turn_23 (fun a113 ea113 la113 ua113 => ?_)
      refine y_iconst C dX1_turn_26 ?_
      refine j_iload_n C 2 2 dX1_turn_27 rfl rfl ?_
      refine y_shl1 C 7 128 dX1_turn_28 rfl (by decide) (by omega) (fun a115 la115 ua115 => ?_)
      refine y_ixorN C 8 255 dX1_turn_29 rfl (by decide) (by omega) (fun a116 la116 ua116 => ?_)
      refine y_putI C 8 _ _ qX1_turn_36 cv1 rfl ft_8_4 sb_8_4 hM0 (PX.w hpr cv1 rfl) dX1_turn_30 (by omega) (fun M117 eM117 hM117 => ?_)
      refine j_aload_n C 1 1 dX1_turn_33 rfl rfl ?_
      refine y_getI C 8 _ _ fX1_turn_36 cv1 rfl ft_8_4 sb_8_4 hM117 dX1_turn_34 (fun a118 ea118 la118 ua118 => ?_)
      refine j_iload_n C 2 2 dX1_turn_37 rfl rfl ?_
      refine y_ishrP C dX1_turn_38 (by omega) (fun a120 la120 ua120 => ?_)
      refine y_iconst C dX1_turn_39 ?_
      refine y_iandR C dX1_turn_40 (by omega) (fun a121 la121 ua121 => ?_)
      exact hret _ _ _ _ dX1_turn_41 ⟨a121, rfl, hM117, by omega⟩
    · refine y_bipush C dX1_turn_18 rfl ?_
      exact hret _ _ _ _ dX1_turn_20 ⟨(-12), rfl, hM0, by omega⟩
  · refine y_bipush C dX1_turn_8 rfl ?_
    exact hret _ _ _ _ dX1_turn_10 ⟨(-11), rfl, hM0, by omega⟩
set_option maxHeartbeats 4000000 in
theorem s1_X11_hide {l : Launch} {dC : Nat → ClassId} {dI : Nat → Nat → Nat} {ad : Nat → Nat} {cA : Nat → ClassId} {pr : Nat → Nat → Bool} {Kz : mm_M} {M0 : mm_M} (hM0 : INV pr Kz M0) (hpr : PX pr) (hq8_0 : ∀ i, s_c i = 8 → pr i 0 = false) (a1 : Int) (ha1 : -2147483648 ≤ a1 ∧ a1 ≤ 2147483647) : Ci l 3 yX11_hide wsX11_hide dC dI ad cA [.ref (ad 0), .int (sI a1)] M0 (fun r M' => ∃ a : Int, r = sI a ∧ INV pr Kz M' ∧ (-2147483648) ≤ a ∧ a ≤ 2147483647) := by
  refine ci_of (cc := cX11_hide) (maxL := 2) (ty := .int) (lv := [(0, .ref (ad 0)), (1, .int (sI a1))]) (by decide) rfl (fun r M' hp => rfl) (Nat.le_of_ble_eq_true rfl) rfl ?_
  intro p e s m args below meth c A Q C hret
  refine j_aload_n C 0 0 dX11_hide_0 rfl rfl ?_
  refine y_getC C 10 15 fX11_hide_40 rfl rfl ft_10_7 sm_10_7 rfl hM0 dX11_hide_1 ?_
  refine j_aload_n C 0 0 dX11_hide_4 rfl rfl ?_
  refine y_getC C 10 12 fX11_hide_36 rfl rfl ft_10_6 sm_10_6 rfl hM0 dX11_hide_5 ?_
  refine j_callVv C (d := 0) (As := [.ref (ad 12)]) (st := []) 15 (s_lt rfl rfl) (s_kc (c := 8) rfl rfl) (by decide) rfl (s1_X9_copyFrom hM0 hpr hq8_0 rfl rfl) gX11_hide_X9_copyFrom rfl hdX9_copyFrom (by decide) (Nat.le_of_ble_eq_true rfl) dX11_hide_8 rfl (fun M102 h103 => ?_)
  have hM102 := h103
  refine j_aload_n C 0 0 dX11_hide_11 rfl rfl ?_
  refine j_aload_n C 0 0 dX11_hide_12 rfl rfl ?_
  refine y_getC C 10 87 fX11_hide_85 rfl rfl ft_10_13 sm_10_13 rfl hM102 dX11_hide_13 ?_
  refine j_aload_n C 0 0 dX11_hide_16 rfl rfl ?_
  refine y_getC C 10 12 fX11_hide_36 rfl rfl ft_10_6 sm_10_6 rfl hM102 dX11_hide_17 ?_
  refine j_iload_n C 1 1 dX11_hide_20 rfl rfl ?_
  refine j_callVi C (d := 2) (As := [.ref (ad 12), .int (sI a1)]) (st := [.ref (ad 0)]) 87 (s_lt rfl rfl) (s_kc (c := 1) rfl rfl) (by decide) rfl (s1_X1_turn hM102 hpr rfl a1 (by omega)) gX11_hide_X1_turn rfl hdX1_turn (by decide) (Nat.le_of_ble_eq_true rfl) dX11_hide_21 rfl (fun r105 M106 h107 => ?_)
  obtain ⟨a109, rfl, hM106, h108⟩ := h107
  refine j_callVi C (d := 2) (As := [.int (sI a109)]) (st := []) 0 (s_lt rfl rfl) (s_kc (c := 10) rfl rfl) (by decide) rfl (s1_X11_settle hM106 hpr hq8_0 a109 (by omega)) gX11_hide_X11_settle rfl hdX11_settle (by decide) (Nat.le_of_ble_eq_true rfl) dX11_hide_24 rfl (fun r110 M111 h112 => ?_)
  obtain ⟨a114, rfl, hM111, h113⟩ := h112
  exact hret _ _ _ _ dX11_hide_27 ⟨a114, rfl, hM111, by omega⟩
set_option maxHeartbeats 4000000 in
theorem s1_X1_bringIn {l : Launch} {dC : Nat → ClassId} {dI : Nat → Nat → Nat} {ad : Nat → Nat} {cA : Nat → ClassId} {pr : Nat → Nat → Bool} {Kz : mm_M} {M0 : mm_M} (hM0 : INV pr Kz M0) (hpr : PX pr) (hq8_0 : ∀ i, s_c i = 8 → pr i 0 = false) {v1 : Nat} (cv1 : s_c v1 = 8) (a2 : Int) (ha2 : -2147483648 ≤ a2 ∧ a2 ≤ 2147483647) (a3 : Int) (ha3 : -2147483648 ≤ a3 ∧ a3 ≤ 2147483647) : Ci l 2 yX1_bringIn wsX1_bringIn dC dI ad cA [.ref (ad 87), .ref (ad v1), .int (sI a2), .int (sI a3)] M0 (fun r M' => ∃ a : Int, r = sI a ∧ INV pr Kz M' ∧ (-13) ≤ a ∧ a ≤ 7) := by
  refine ci_of (cc := cX1_bringIn) (maxL := 4) (ty := .int) (lv := [(0, .ref (ad 87)), (1, .ref (ad v1)), (2, .int (sI a2)), (3, .int (sI a3))]) (by decide) rfl (fun r M' hp => rfl) (Nat.le_of_ble_eq_true rfl) rfl ?_
  intro p e s m args below meth c A Q C hret
  refine j_iload_n C 2 2 dX1_bringIn_0 rfl rfl ?_
  refine y_iconst C dX1_bringIn_1 ?_
  refine y_icmp_lt C 21 dX1_bringIn_2 (by decide) (by omega) (fun h101 => ?_) (fun h101 => ?_)
  · refine y_bipush C dX1_bringIn_21 rfl ?_
    exact hret _ _ _ _ dX1_bringIn_23 ⟨(-11), rfl, hM0, by omega⟩
  · refine j_iload_n C 2 2 dX1_bringIn_5 rfl rfl ?_
    refine y_bipush C dX1_bringIn_6 rfl ?_
    refine y_icmp_gt C 21 dX1_bringIn_8 (by decide) (by omega) (fun h102 => ?_) (fun h102 => ?_)
    · refine y_bipush C dX1_bringIn_21 rfl ?_
      exact hret _ _ _ _ dX1_bringIn_23 ⟨(-11), rfl, hM0, by omega⟩
    · refine j_iload_n C 3 3 dX1_bringIn_11 rfl rfl ?_
      refine y_if_lt C 21 dX1_bringIn_12 (by decide) (by omega) (fun h103 => ?_) (fun h103 => ?_)
      · refine y_bipush C dX1_bringIn_21 rfl ?_
        exact hret _ _ _ _ dX1_bringIn_23 ⟨(-11), rfl, hM0, by omega⟩
      · refine j_iload_n C 3 3 dX1_bringIn_15 rfl rfl ?_
        refine y_bipush C dX1_bringIn_16 rfl ?_
        refine y_icmp_le C 24 dX1_bringIn_18 (by decide) (by omega) (fun h104 => ?_) (fun h104 => ?_)
        · refine j_aload_n C 1 1 dX1_bringIn_24 rfl rfl ?_
          refine j_callVi C (d := 1) (As := []) (st := []) v1 (s_lt cv1 rfl) (s_kc (c := 8) cv1 rfl) (by decide) rfl (s1_X9_isShut hM0 cv1) gX1_bringIn_X9_isShut rfl hdX9_isShut (by decide) (Nat.le_of_ble_eq_true rfl) dX1_bringIn_25 rfl (fun r105 M106 h107 => ?_)
          obtain ⟨a109, rfl, rfl, h108⟩ := h107
          refine y_if_eq C 34 dX1_bringIn_28 (by decide) (by omega) (fun h110 => ?_) (fun h110 => ?_)
          · refine j_aload_n C 1 1 dX1_bringIn_34 rfl rfl ?_
            refine y_getI C 8 _ _ fX1_bringIn_57 cv1 rfl ft_8_0 sb_8_0 hM0 dX1_bringIn_35 (fun a111 ea111 la111 ua111 => ?_)
            refine y_bipush C dX1_bringIn_38 rfl ?_
            refine y_icmp_lt C 46 dX1_bringIn_40 (by decide) (by omega) (fun h113 => ?_) (fun h113 => ?_)
            · refine j_aload_n C 1 1 dX1_bringIn_46 rfl rfl ?_
              refine y_getT C 8 25 fX1_bringIn_46 cv1 rfl ft_8_1 rfl sm_8_1 st_8_1 (by decide) hM0 dX1_bringIn_47 (fun v114 cv114 => ?_)
              refine j_aload_n C 1 1 dX1_bringIn_50 rfl rfl ?_
              refine y_getI C 8 _ _ fX1_bringIn_57 cv1 rfl ft_8_0 sb_8_0 hM0 dX1_bringIn_51 (fun a115 ea115 la115 ua115 => ?_)
              refine j_iload_n C 2 2 dX1_bringIn_54 rfl rfl ?_
              refine y_iastF C 25 8 cv114 rfl rfl ak_25 an_25 rfl (sb_25 _) hM0 (PX.w hpr cv114 rfl) dX1_bringIn_55 (by omega) (fun M117 eM117 hM117 => ?_)
              refine j_aload_n C 1 1 dX1_bringIn_56 rfl rfl ?_
              refine y_getT C 8 26 fX1_bringIn_60 cv1 rfl ft_8_2 rfl sm_8_2 st_8_2 (by decide) hM117 dX1_bringIn_57 (fun v118 cv118 => ?_)
              refine j_aload_n C 1 1 dX1_bringIn_60 rfl rfl ?_
              refine y_getI C 8 _ _ fX1_bringIn_57 cv1 rfl ft_8_0 sb_8_0 hM117 dX1_bringIn_61 (fun a119 ea119 la119 ua119 => ?_)
              have qa119 : a119 = a111 := (s_fa eM117 (s_ne (c := 8) (d := 25) cv1 cv114 (by decide)) (ea119)).trans ea111.symm
              refine j_iload_n C 3 3 dX1_bringIn_64 rfl rfl ?_
              refine y_iastF C 26 8 cv118 rfl rfl ak_26 an_26 rfl (sb_26 _) hM117 (PX.w hpr cv118 rfl) dX1_bringIn_65 (by omega) (fun M121 eM121 hM121 => ?_)
              refine j_aload_n C 1 1 dX1_bringIn_66 rfl rfl ?_
              refine j_dup C dX1_bringIn_67 rfl ?_
              refine y_getI C 8 _ _ fX1_bringIn_57 cv1 rfl ft_8_0 sb_8_0 hM121 dX1_bringIn_68 (fun a122 ea122 la122 ua122 => ?_)
              have qa122 : a122 = a119 := (s_fa eM121 (s_ne (c := 8) (d := 26) cv1 cv118 (by decide)) (ea122)).trans ea119.symm
              refine y_iconst C dX1_bringIn_71 ?_
              refine y_iadd C dX1_bringIn_72 ?_
              refine y_putI C 8 _ _ qX1_bringIn_57 cv1 rfl ft_8_0 sb_8_0 hM121 (hq8_0 _ cv1) dX1_bringIn_73 (by omega) (fun M124 eM124 hM124 => ?_)
              refine j_aload_n C 1 1 dX1_bringIn_76 rfl rfl ?_
              refine y_getI C 8 _ _ fX1_bringIn_57 cv1 rfl ft_8_0 sb_8_0 hM124 dX1_bringIn_77 (fun a125 ea125 la125 ua125 => ?_)
              refine y_iconst C dX1_bringIn_80 ?_
              refine y_isub C dX1_bringIn_81 ?_
              exact hret _ _ _ _ dX1_bringIn_82 ⟨(a125 - 1), rfl, hM124, by omega⟩
            · refine y_bipush C dX1_bringIn_43 rfl ?_
              exact hret _ _ _ _ dX1_bringIn_45 ⟨(-13), rfl, hM0, by omega⟩
          · refine y_bipush C dX1_bringIn_31 rfl ?_
            exact hret _ _ _ _ dX1_bringIn_33 ⟨(-12), rfl, hM0, by omega⟩
        · refine y_bipush C dX1_bringIn_21 rfl ?_
          exact hret _ _ _ _ dX1_bringIn_23 ⟨(-11), rfl, hM0, by omega⟩
set_option maxHeartbeats 4000000 in
theorem s1_X11_add {l : Launch} {dC : Nat → ClassId} {dI : Nat → Nat → Nat} {ad : Nat → Nat} {cA : Nat → ClassId} {pr : Nat → Nat → Bool} {Kz : mm_M} {M0 : mm_M} (hM0 : INV pr Kz M0) (hpr : PX pr) (hq8_0 : ∀ i, s_c i = 8 → pr i 0 = false) (a1 : Int) (ha1 : -2147483648 ≤ a1 ∧ a1 ≤ 2147483647) (a2 : Int) (ha2 : -2147483648 ≤ a2 ∧ a2 ≤ 2147483647) : Ci l 3 yX11_add wsX11_add dC dI ad cA [.ref (ad 0), .int (sI a1), .int (sI a2)] M0 (fun r M' => ∃ a : Int, r = sI a ∧ INV pr Kz M' ∧ (-2147483648) ≤ a ∧ a ≤ 2147483647) := by
  refine ci_of (cc := cX11_add) (maxL := 3) (ty := .int) (lv := [(0, .ref (ad 0)), (1, .int (sI a1)), (2, .int (sI a2))]) (by decide) rfl (fun r M' hp => rfl) (Nat.le_of_ble_eq_true rfl) rfl ?_
  intro p e s m args below meth c A Q C hret
  refine j_aload_n C 0 0 dX11_add_0 rfl rfl ?_
  refine y_getC C 10 15 fX11_add_40 rfl rfl ft_10_7 sm_10_7 rfl hM0 dX11_add_1 ?_
  refine j_aload_n C 0 0 dX11_add_4 rfl rfl ?_
  refine y_getC C 10 12 fX11_add_36 rfl rfl ft_10_6 sm_10_6 rfl hM0 dX11_add_5 ?_
  refine j_callVv C (d := 0) (As := [.ref (ad 12)]) (st := []) 15 (s_lt rfl rfl) (s_kc (c := 8) rfl rfl) (by decide) rfl (s1_X9_copyFrom hM0 hpr hq8_0 rfl rfl) gX11_add_X9_copyFrom rfl hdX9_copyFrom (by decide) (Nat.le_of_ble_eq_true rfl) dX11_add_8 rfl (fun M102 h103 => ?_)
  have hM102 := h103
  refine j_aload_n C 0 0 dX11_add_11 rfl rfl ?_
  refine j_aload_n C 0 0 dX11_add_12 rfl rfl ?_
  refine y_getC C 10 87 fX11_add_85 rfl rfl ft_10_13 sm_10_13 rfl hM102 dX11_add_13 ?_
  refine j_aload_n C 0 0 dX11_add_16 rfl rfl ?_
  refine y_getC C 10 12 fX11_add_36 rfl rfl ft_10_6 sm_10_6 rfl hM102 dX11_add_17 ?_
  refine j_iload_n C 1 1 dX11_add_20 rfl rfl ?_
  refine j_iload_n C 2 2 dX11_add_21 rfl rfl ?_
  refine j_callVi C (d := 2) (As := [.ref (ad 12), .int (sI a1), .int (sI a2)]) (st := [.ref (ad 0)]) 87 (s_lt rfl rfl) (s_kc (c := 1) rfl rfl) (by decide) rfl (s1_X1_bringIn hM102 hpr hq8_0 rfl a1 (by omega) a2 (by omega)) gX11_add_X1_bringIn rfl hdX1_bringIn (by decide) (Nat.le_of_ble_eq_true rfl) dX11_add_22 rfl (fun r105 M106 h107 => ?_)
  obtain ⟨a109, rfl, hM106, h108⟩ := h107
  refine j_callVi C (d := 2) (As := [.int (sI a109)]) (st := []) 0 (s_lt rfl rfl) (s_kc (c := 10) rfl rfl) (by decide) rfl (s1_X11_settle hM106 hpr hq8_0 a109 (by omega)) gX11_add_X11_settle rfl hdX11_settle (by decide) (Nat.le_of_ble_eq_true rfl) dX11_add_25 rfl (fun r110 M111 h112 => ?_)
  obtain ⟨a114, rfl, hM111, h113⟩ := h112
  exact hret _ _ _ _ dX11_add_28 ⟨a114, rfl, hM111, by omega⟩
set_option maxHeartbeats 4000000 in
theorem s1_X1_reprice {l : Launch} {dC : Nat → ClassId} {dI : Nat → Nat → Nat} {ad : Nat → Nat} {cA : Nat → ClassId} {pr : Nat → Nat → Bool} {Kz : mm_M} {M0 : mm_M} (hM0 : INV pr Kz M0) (hpr : PX pr) {v1 : Nat} (cv1 : s_c v1 = 8) (a2 : Int) (ha2 : -2147483648 ≤ a2 ∧ a2 ≤ 2147483647) (a3 : Int) (ha3 : -2147483648 ≤ a3 ∧ a3 ≤ 2147483647) : Ci l 2 yX1_reprice wsX1_reprice dC dI ad cA [.ref (ad 87), .ref (ad v1), .int (sI a2), .int (sI a3)] M0 (fun r M' => ∃ a : Int, r = sI a ∧ INV pr Kz M' ∧ (-2147483648) ≤ a ∧ a ≤ 2147483647) := by
  refine ci_of (cc := cX1_reprice) (maxL := 5) (ty := .int) (lv := [(0, .ref (ad 87)), (1, .ref (ad v1)), (2, .int (sI a2)), (3, .int (sI a3))]) (by decide) rfl (fun r M' hp => rfl) (Nat.le_of_ble_eq_true rfl) rfl ?_
  intro p e s m args below meth c A Q C hret
  refine j_aload_n C 1 1 dX1_reprice_0 rfl rfl ?_
  refine j_iload_n C 2 2 dX1_reprice_1 rfl rfl ?_
  refine j_callVi C (d := 0) (As := [.int (sI a2)]) (st := []) v1 (s_lt cv1 rfl) (s_kc (c := 8) cv1 rfl) (by decide) rfl (s1_X9_holds hM0 cv1 a2 (by omega)) gX1_reprice_X9_holds rfl hdX9_holds (by decide) (Nat.le_of_ble_eq_true rfl) dX1_reprice_2 rfl (fun r101 M102 h103 => ?_)
  obtain ⟨a105, rfl, rfl, h104⟩ := h103
  refine y_if_eq C 19 dX1_reprice_5 (by decide) (by omega) (fun h106 => ?_) (fun h106 => ?_)
  · refine y_bipush C dX1_reprice_19 rfl ?_
    exact hret _ _ _ _ dX1_reprice_21 ⟨(-11), rfl, hM0, by omega⟩
  · refine j_iload_n C 3 3 dX1_reprice_8 rfl rfl ?_
    refine y_iconst C dX1_reprice_9 ?_
    refine y_icmp_lt C 19 dX1_reprice_10 (by decide) (by omega) (fun h107 => ?_) (fun h107 => ?_)
    · refine y_bipush C dX1_reprice_19 rfl ?_
      exact hret _ _ _ _ dX1_reprice_21 ⟨(-11), rfl, hM0, by omega⟩
    · refine j_iload_n C 3 3 dX1_reprice_13 rfl rfl ?_
      refine y_bipush C dX1_reprice_14 rfl ?_
      refine y_icmp_le C 22 dX1_reprice_16 (by decide) (by omega) (fun h108 => ?_) (fun h108 => ?_)
      · refine j_aload_n C 1 1 dX1_reprice_22 rfl rfl ?_
        refine j_callVi C (d := 1) (As := []) (st := []) v1 (s_lt cv1 rfl) (s_kc (c := 8) cv1 rfl) (by decide) rfl (s1_X9_isShut hM0 cv1) gX1_reprice_X9_isShut rfl hdX9_isShut (by decide) (Nat.le_of_ble_eq_true rfl) dX1_reprice_23 rfl (fun r109 M110 h111 => ?_)
        obtain ⟨a113, rfl, rfl, h112⟩ := h111
        refine y_if_eq C 32 dX1_reprice_26 (by decide) (by omega) (fun h114 => ?_) (fun h114 => ?_)
        · refine j_aload_n C 1 1 dX1_reprice_32 rfl rfl ?_
          refine y_getT C 8 25 fX1_reprice_46 cv1 rfl ft_8_1 rfl sm_8_1 st_8_1 (by decide) hM0 dX1_reprice_33 (fun v115 cv115 => ?_)
          refine j_iload_n C 2 2 dX1_reprice_36 rfl rfl ?_
          refine y_iald C 25 8 _ _ cv115 rfl rfl ak_25 an_25 rfl (sb_25 _) hM0 dX1_reprice_37 (by omega) (fun a116 ea116 la116 ua116 => ?_)
          refine j_istore C 4 [(4, .int (sI a116)), (0, .ref (ad 87)), (1, .ref (ad v1)), (2, .int (sI a2)), (3, .int (sI a3))] dX1_reprice_38 (by decide) rfl ?_
          refine j_aload_n C 2 1 dX1_reprice_40 rfl rfl ?_
          refine y_getT C 8 25 fX1_reprice_46 cv1 rfl ft_8_1 rfl sm_8_1 st_8_1 (by decide) hM0 dX1_reprice_41 (fun v117 cv117 => ?_)
          refine j_iload_n C 3 2 dX1_reprice_44 rfl rfl ?_
          refine j_iload_n C 4 3 dX1_reprice_45 rfl rfl ?_
          refine y_iastF C 25 8 cv117 rfl rfl ak_25 an_25 rfl (sb_25 _) hM0 (PX.w hpr cv117 rfl) dX1_reprice_46 (by omega) (fun M118 eM118 hM118 => ?_)
          refine j_iload C 0 dX1_reprice_47 rfl ?_
          exact hret _ _ _ _ dX1_reprice_49 ⟨a116, rfl, hM118, by omega⟩
        · refine y_bipush C dX1_reprice_29 rfl ?_
          exact hret _ _ _ _ dX1_reprice_31 ⟨(-12), rfl, hM0, by omega⟩
      · refine y_bipush C dX1_reprice_19 rfl ?_
        exact hret _ _ _ _ dX1_reprice_21 ⟨(-11), rfl, hM0, by omega⟩
set_option maxHeartbeats 4000000 in
theorem s1_X11_price {l : Launch} {dC : Nat → ClassId} {dI : Nat → Nat → Nat} {ad : Nat → Nat} {cA : Nat → ClassId} {pr : Nat → Nat → Bool} {Kz : mm_M} {M0 : mm_M} (hM0 : INV pr Kz M0) (hpr : PX pr) (hq8_0 : ∀ i, s_c i = 8 → pr i 0 = false) (a1 : Int) (ha1 : -2147483648 ≤ a1 ∧ a1 ≤ 2147483647) (a2 : Int) (ha2 : -2147483648 ≤ a2 ∧ a2 ≤ 2147483647) : Ci l 3 yX11_price wsX11_price dC dI ad cA [.ref (ad 0), .int (sI a1), .int (sI a2)] M0 (fun r M' => ∃ a : Int, r = sI a ∧ INV pr Kz M' ∧ (-2147483648) ≤ a ∧ a ≤ 2147483647) := by
  refine ci_of (cc := cX11_price) (maxL := 3) (ty := .int) (lv := [(0, .ref (ad 0)), (1, .int (sI a1)), (2, .int (sI a2))]) (by decide) rfl (fun r M' hp => rfl) (Nat.le_of_ble_eq_true rfl) rfl ?_
  intro p e s m args below meth c A Q C hret
  refine j_aload_n C 0 0 dX11_price_0 rfl rfl ?_
  refine y_getC C 10 15 fX11_price_40 rfl rfl ft_10_7 sm_10_7 rfl hM0 dX11_price_1 ?_
  refine j_aload_n C 0 0 dX11_price_4 rfl rfl ?_
  refine y_getC C 10 12 fX11_price_36 rfl rfl ft_10_6 sm_10_6 rfl hM0 dX11_price_5 ?_
  refine j_callVv C (d := 0) (As := [.ref (ad 12)]) (st := []) 15 (s_lt rfl rfl) (s_kc (c := 8) rfl rfl) (by decide) rfl (s1_X9_copyFrom hM0 hpr hq8_0 rfl rfl) gX11_price_X9_copyFrom rfl hdX9_copyFrom (by decide) (Nat.le_of_ble_eq_true rfl) dX11_price_8 rfl (fun M102 h103 => ?_)
  have hM102 := h103
  refine j_aload_n C 0 0 dX11_price_11 rfl rfl ?_
  refine j_aload_n C 0 0 dX11_price_12 rfl rfl ?_
  refine y_getC C 10 87 fX11_price_85 rfl rfl ft_10_13 sm_10_13 rfl hM102 dX11_price_13 ?_
  refine j_aload_n C 0 0 dX11_price_16 rfl rfl ?_
  refine y_getC C 10 12 fX11_price_36 rfl rfl ft_10_6 sm_10_6 rfl hM102 dX11_price_17 ?_
  refine j_iload_n C 1 1 dX11_price_20 rfl rfl ?_
  refine j_iload_n C 2 2 dX11_price_21 rfl rfl ?_
  refine j_callVi C (d := 2) (As := [.ref (ad 12), .int (sI a1), .int (sI a2)]) (st := [.ref (ad 0)]) 87 (s_lt rfl rfl) (s_kc (c := 1) rfl rfl) (by decide) rfl (s1_X1_reprice hM102 hpr rfl a1 (by omega) a2 (by omega)) gX11_price_X1_reprice rfl hdX1_reprice (by decide) (Nat.le_of_ble_eq_true rfl) dX11_price_22 rfl (fun r105 M106 h107 => ?_)
  obtain ⟨a109, rfl, hM106, h108⟩ := h107
  refine j_callVi C (d := 2) (As := [.int (sI a109)]) (st := []) 0 (s_lt rfl rfl) (s_kc (c := 10) rfl rfl) (by decide) rfl (s1_X11_settle hM106 hpr hq8_0 a109 (by omega)) gX11_price_X11_settle rfl hdX11_settle (by decide) (Nat.le_of_ble_eq_true rfl) dX11_price_25 rfl (fun r110 M111 h112 => ?_)
  obtain ⟨a114, rfl, hM111, h113⟩ := h112
  exact hret _ _ _ _ dX11_price_28 ⟨a114, rfl, hM111, by omega⟩
set_option maxHeartbeats 4000000 in
theorem s1_X7_together {l : Launch} {dC : Nat → ClassId} {dI : Nat → Nat → Nat} {ad : Nat → Nat} {cA : Nat → ClassId} {pr : Nat → Nat → Bool} {Kz : mm_M} {M0 : mm_M} (hM0 : INV pr Kz M0) {v0 : Nat} (cv0 : s_c v0 = 6) : Ci l 0 yX7_together wsX7_together dC dI ad cA [.ref (ad v0)] M0 (fun r M' => ∃ a : Int, r = sI a ∧ M0 = M' ∧ (-2147483648) ≤ a ∧ a ≤ 2147483647) := by
  refine ci_of (cc := cX7_together) (maxL := 3) (ty := .int) (lv := [(0, .ref (ad v0))]) (by decide) rfl (fun r M' hp => rfl) (Nat.le_of_ble_eq_true rfl) rfl ?_
  intro p e s m args below meth c A Q C hret
  refine y_iconst C dX7_together_0 ?_
  refine j_istore_n C 1 [(1, .int (sI 0)), (0, .ref (ad v0))] dX7_together_1 rfl (by decide) rfl ?_
  refine y_iconst C dX7_together_2 ?_
  refine j_istore_n C 2 [(2, .int (sI 0)), (1, .int (sI 0)), (0, .ref (ad v0))] dX7_together_3 rfl (by decide) rfl ?_
  have L158 : ∀ (n156 : Nat), ∀ (a159 : Int) (a160 : Int), ((-2147483648) ≤ a159 ∧ a159 ≤ 2147483647 ∧ 0 ≤ a160 ∧ a160 ≤ 6 ∧ (6 - a160) < (n156 : Int)) → jj p l e (cn_R 0) s m args below meth c 0 0 Q 3 dC dI ad cA A M0 4 [(0, .ref (ad v0)), (1, .int (sI a159)), (2, .int (sI a160))] [] := by
    intro n156
    induction n156 with
    | zero =>
      intro a159 a160 h161
      exfalso; omega
    | succ n156 ih157 =>
      intro a159 a160 h161
      refine j_iload_n C 2 2 dX7_together_4 rfl rfl ?_
      refine j_aload_n C 0 0 dX7_together_5 rfl rfl ?_
      refine y_getI C 6 _ _ fX7_together_9 cv0 rfl ft_6_0 sb_6_0 hM0 dX7_together_6 (fun a162 ea162 la162 ua162 => ?_)
      refine y_icmp_ge C 27 dX7_together_9 (by decide) (by omega) (fun h164 => ?_) (fun h164 => ?_)
      · refine j_iload_n C 1 1 dX7_together_27 rfl rfl ?_
        exact hret _ _ _ _ dX7_together_28 ⟨a159, rfl, rfl, by omega⟩
      · refine j_iload_n C 1 1 dX7_together_12 rfl rfl ?_
        refine j_aload_n C 0 0 dX7_together_13 rfl rfl ?_
        refine y_getT C 6 23 fX7_together_25 cv0 rfl ft_6_4 rfl sm_6_4 st_6_4 (by decide) hM0 dX7_together_14 (fun v165 cv165 => ?_)
        refine j_iload_n C 2 2 dX7_together_17 rfl rfl ?_
        refine y_iald C 23 6 _ _ cv165 rfl rfl ak_23 an_23 rfl (sb_23 _) hM0 dX7_together_18 (by omega) (fun a166 ea166 la166 ua166 => ?_)
        refine y_iadd0 C dX7_together_19 (fun a167 la167 ua167 => ?_)
        refine j_istore_n C 1 [(1, .int (sI a167)), (0, .ref (ad v0)), (2, .int (sI a160))] dX7_together_20 rfl (by decide) rfl ?_
        refine y_iinc C 2 [(2, .int (sI (a160 + 1))), (1, .int (sI a167)), (0, .ref (ad v0))] dX7_together_21 rfl (by decide) rfl ?_
        refine j_goto C 4 dX7_together_24 (by decide) ?_
        refine j_lv [2, 1, 0] rfl ?_; exact ih157 a167 (a160 + 1) (by omega)
  refine j_lv [2, 1, 0] rfl ?_; exact L158 4294967306 0 0 (by omega)
set_option maxHeartbeats 4000000 in
theorem s1_X9_draw {l : Launch} {dC : Nat → ClassId} {dI : Nat → Nat → Nat} {ad : Nat → Nat} {cA : Nat → ClassId} {pr : Nat → Nat → Bool} {Kz : mm_M} {M0 : mm_M} (hM0 : INV pr Kz M0) (hpr : PX pr) {v0 : Nat} (cv0 : s_c v0 = 8) : Ci l 0 yX9_draw wsX9_draw dC dI ad cA [.ref (ad v0)] M0 (fun r M' => ∃ a : Int, r = sI a ∧ INV pr Kz M' ∧ 0 ≤ a ∧ a ≤ 65535) := by
  refine ci_of (cc := cX9_draw) (maxL := 1) (ty := .int) (lv := [(0, .ref (ad v0))]) (by decide) rfl (fun r M' hp => rfl) (Nat.le_of_ble_eq_true rfl) rfl ?_
  intro p e s m args below meth c A Q C hret
  refine j_aload_n C 0 0 dX9_draw_0 rfl rfl ?_
  refine y_ldc C 1103515245 dX9_draw_1 kX9_draw_44 rfl ?_
  refine j_aload_n C 0 0 dX9_draw_3 rfl rfl ?_
  refine y_getI C 8 _ _ fX9_draw_37 cv0 rfl ft_8_8 sb_8_8 hM0 dX9_draw_4 (fun a101 ea101 la101 ua101 => ?_)
  refine y_imul0 C dX9_draw_7 (fun a103 la103 ua103 => ?_)
  refine y_sipush C dX9_draw_8 rfl ?_
  refine y_iadd0 C dX9_draw_11 (fun a104 la104 ua104 => ?_)
  refine y_putIF C 8 qX9_draw_37 cv0 rfl ft_8_8 sb_8_8 hM0 (PX.w hpr cv0 rfl) dX9_draw_12 (fun M105 eM105 hM105 => ?_)
  refine j_aload_n C 0 0 dX9_draw_15 rfl rfl ?_
  refine y_getI C 8 _ _ fX9_draw_37 cv0 rfl ft_8_8 sb_8_8 hM105 dX9_draw_16 (fun a106 ea106 la106 ua106 => ?_)
  refine y_bipush C dX9_draw_19 rfl ?_
  refine y_iushr16 C dX9_draw_21 (fun a108 la108 ua108 => ?_)
  exact hret _ _ _ _ dX9_draw_22 ⟨a108, rfl, hM105, by omega⟩
set_option maxHeartbeats 4000000 in
theorem s1_X7_comerFor {l : Launch} {dC : Nat → ClassId} {dI : Nat → Nat → Nat} {ad : Nat → Nat} {cA : Nat → ClassId} {pr : Nat → Nat → Bool} {Kz : mm_M} {M0 : mm_M} (hM0 : INV pr Kz M0) {v0 : Nat} (cv0 : s_c v0 = 6) (a1 : Int) (ha1 : -2147483648 ≤ a1 ∧ a1 ≤ 2147483647) : Ci l 0 yX7_comerFor wsX7_comerFor dC dI ad cA [.ref (ad v0), .int (sI a1)] M0 (fun r M' => ∃ a : Int, r = sI a ∧ M0 = M' ∧ (-1) ≤ a ∧ a ≤ 5) := by
  refine ci_of (cc := cX7_comerFor) (maxL := 4) (ty := .int) (lv := [(0, .ref (ad v0)), (1, .int (sI a1))]) (by decide) rfl (fun r M' hp => rfl) (Nat.le_of_ble_eq_true rfl) rfl ?_
  intro p e s m args below meth c A Q C hret
  refine y_iconst C dX7_comerFor_0 ?_
  refine j_istore_n C 2 [(2, .int (sI 0)), (0, .ref (ad v0)), (1, .int (sI a1))] dX7_comerFor_1 rfl (by decide) rfl ?_
  refine y_iconst C dX7_comerFor_2 ?_
  refine j_istore_n C 3 [(3, .int (sI 0)), (2, .int (sI 0)), (0, .ref (ad v0)), (1, .int (sI a1))] dX7_comerFor_3 rfl (by decide) rfl ?_
  have L165 : ∀ (n163 : Nat), ∀ (a166 : Int) (a167 : Int), ((-2147483648) ≤ a166 ∧ a166 ≤ 2147483647 ∧ 0 ≤ a167 ∧ a167 ≤ 6 ∧ (6 - a167) < (n163 : Int)) → jj p l e (cn_R 0) s m args below meth c 0 0 Q 4 dC dI ad cA A M0 4 [(0, .ref (ad v0)), (1, .int (sI a1)), (2, .int (sI a166)), (3, .int (sI a167))] [] := by
    intro n163
    induction n163 with
    | zero =>
      intro a166 a167 h168
      exfalso; omega
    | succ n163 ih164 =>
      intro a166 a167 h168
      refine j_iload_n C 3 3 dX7_comerFor_4 rfl rfl ?_
      refine j_aload_n C 0 0 dX7_comerFor_5 rfl rfl ?_
      refine y_getI C 6 _ _ fX7_comerFor_9 cv0 rfl ft_6_0 sb_6_0 hM0 dX7_comerFor_6 (fun a169 ea169 la169 ua169 => ?_)
      refine y_icmp_ge C 34 dX7_comerFor_9 (by decide) (by omega) (fun h171 => ?_) (fun h171 => ?_)
      · refine y_iconst C dX7_comerFor_34 ?_
        exact hret _ _ _ _ dX7_comerFor_35 ⟨(-1), rfl, rfl, by omega⟩
      · refine j_iload_n C 2 2 dX7_comerFor_12 rfl rfl ?_
        refine j_aload_n C 0 0 dX7_comerFor_13 rfl rfl ?_
        refine y_getT C 6 23 fX7_comerFor_25 cv0 rfl ft_6_4 rfl sm_6_4 st_6_4 (by decide) hM0 dX7_comerFor_14 (fun v172 cv172 => ?_)
        refine j_iload_n C 3 3 dX7_comerFor_17 rfl rfl ?_
        refine y_iald C 23 6 _ _ cv172 rfl rfl ak_23 an_23 rfl (sb_23 _) hM0 dX7_comerFor_18 (by omega) (fun a173 ea173 la173 ua173 => ?_)
        refine y_iadd0 C dX7_comerFor_19 (fun a174 la174 ua174 => ?_)
        refine j_istore_n C 2 [(2, .int (sI a174)), (0, .ref (ad v0)), (1, .int (sI a1)), (3, .int (sI a167))] dX7_comerFor_20 rfl (by decide) rfl ?_
        refine j_iload_n C 0 2 dX7_comerFor_21 rfl rfl ?_
        refine j_iload_n C 2 1 dX7_comerFor_22 rfl rfl ?_
        refine y_icmp_le C 28 dX7_comerFor_23 (by decide) (by omega) (fun h175 => ?_) (fun h175 => ?_)
        · refine y_iinc C 3 [(3, .int (sI (a167 + 1))), (2, .int (sI a174)), (0, .ref (ad v0)), (1, .int (sI a1))] dX7_comerFor_28 rfl (by decide) rfl ?_
          refine j_goto C 4 dX7_comerFor_31 (by decide) ?_
          refine j_lv [2, 3, 1, 0] rfl ?_; exact ih164 a174 (a167 + 1) (by omega)
        · refine j_iload_n C 3 3 dX7_comerFor_26 rfl rfl ?_
          exact hret _ _ _ _ dX7_comerFor_27 ⟨a167, rfl, rfl, by omega⟩
  refine j_lv [2, 3, 1, 0] rfl ?_; exact L165 4294967306 0 0 (by omega)
set_option maxHeartbeats 4000000 in
theorem s1_X1_passDay {l : Launch} {dC : Nat → ClassId} {dI : Nat → Nat → Nat} {ad : Nat → Nat} {cA : Nat → ClassId} {pr : Nat → Nat → Bool} {Kz : mm_M} {M0 : mm_M} (hM0 : INV pr Kz M0) (hpr : PX pr) {v1 : Nat} (cv1 : s_c v1 = 6) {v2 : Nat} (cv2 : s_c v2 = 8) : Ci l 1 yX1_passDay wsX1_passDay dC dI ad cA [.ref (ad 87), .ref (ad v1), .ref (ad v2)] M0 (fun r M' => ∃ a : Int, r = sI a ∧ INV pr Kz M' ∧ (-1) ≤ a ∧ a ≤ 5) := by
  refine ci_of (cc := cX1_passDay) (maxL := 4) (ty := .int) (lv := [(0, .ref (ad 87)), (1, .ref (ad v1)), (2, .ref (ad v2))]) (by decide) rfl (fun r M' hp => rfl) (Nat.le_of_ble_eq_true rfl) rfl ?_
  intro p e s m args below meth c A Q C hret
  refine j_aload_n C 2 2 dX1_passDay_0 rfl rfl ?_
  refine j_dup C dX1_passDay_1 rfl ?_
  refine y_getI C 8 _ _ fX1_passDay_63 cv2 rfl ft_8_7 sb_8_7 hM0 dX1_passDay_2 (fun a101 ea101 la101 ua101 => ?_)
  refine y_iconst C dX1_passDay_5 ?_
  refine y_iadd0 C dX1_passDay_6 (fun a103 la103 ua103 => ?_)
  refine y_putIF C 8 qX1_passDay_63 cv2 rfl ft_8_7 sb_8_7 hM0 (PX.w hpr cv2 rfl) dX1_passDay_7 (fun M104 eM104 hM104 => ?_)
  refine j_aload_n C 1 1 dX1_passDay_10 rfl rfl ?_
  refine j_callVi C (d := 0) (As := []) (st := []) v1 (s_lt cv1 rfl) (s_kc (c := 6) cv1 rfl) (by decide) rfl (s1_X7_together hM104 cv1) gX1_passDay_X7_together rfl hdX7_together (by decide) (Nat.le_of_ble_eq_true rfl) dX1_passDay_11 rfl (fun r105 M106 h107 => ?_)
  obtain ⟨a109, rfl, rfl, h108⟩ := h107
  refine j_istore_n C 3 [(3, .int (sI a109)), (0, .ref (ad 87)), (1, .ref (ad v1)), (2, .ref (ad v2))] dX1_passDay_14 rfl (by decide) rfl ?_
  refine j_iload_n C 0 3 dX1_passDay_15 rfl rfl ?_
  refine y_if_le C 32 dX1_passDay_16 (by decide) (by omega) (fun h110 => ?_) (fun h110 => ?_)
  · refine y_iconst C dX1_passDay_32 ?_
    exact hret _ _ _ _ dX1_passDay_33 ⟨(-1), rfl, hM104, by omega⟩
  · refine j_aload_n C 2 1 dX1_passDay_19 rfl rfl ?_
    refine j_aload_n C 3 2 dX1_passDay_20 rfl rfl ?_
    refine j_callVi C (d := 0) (As := []) (st := [.ref (ad v1)]) v2 (s_lt cv2 rfl) (s_kc (c := 8) cv2 rfl) (by decide) rfl (s1_X9_draw hM104 hpr cv2) gX1_passDay_X9_draw rfl hdX9_draw (by decide) (Nat.le_of_ble_eq_true rfl) dX1_passDay_21 rfl (fun r111 M112 h113 => ?_)
    obtain ⟨a115, rfl, hM112, h114⟩ := h113
    refine j_iload_n C 0 3 dX1_passDay_24 rfl rfl ?_
    refine y_iremV C dX1_passDay_25 (by omega) (fun a116 la116 ua116 => ?_)
    refine j_callVi C (d := 0) (As := [.int (sI a116)]) (st := []) v1 (s_lt cv1 rfl) (s_kc (c := 6) cv1 rfl) (by decide) rfl (s1_X7_comerFor hM112 cv1 a116 (by omega)) gX1_passDay_X7_comerFor rfl hdX7_comerFor (by decide) (Nat.le_of_ble_eq_true rfl) dX1_passDay_26 rfl (fun r117 M118 h119 => ?_)
    obtain ⟨a121, rfl, rfl, h120⟩ := h119
    refine j_goto C 33 dX1_passDay_29 (by decide) ?_
    exact hret _ _ _ _ dX1_passDay_33 ⟨a121, rfl, hM112, by omega⟩
set_option maxHeartbeats 4000000 in
theorem s1_X1_carryOut {l : Launch} {dC : Nat → ClassId} {dI : Nat → Nat → Nat} {ad : Nat → Nat} {cA : Nat → ClassId} {pr : Nat → Nat → Bool} {Kz : mm_M} {M0 : mm_M} (hM0 : INV pr Kz M0) (hpr : PX pr) {v1 : Nat} (cv1 : s_c v1 = 6) {v2 : Nat} (cv2 : s_c v2 = 8) (a3 : Int) (ha3 : -9223372036854775808 ≤ a3 ∧ a3 ≤ 9223372036854775807) : Ci l 5 yX1_carryOut wsX1_carryOut dC dI ad cA [.ref (ad 87), .ref (ad v1), .ref (ad v2), .long (sJ a3)] M0 (fun r M' => ∃ a : Int, r = sI a ∧ INV pr Kz M' ∧ (-2147483648) ≤ a ∧ a ≤ 2147483647) := by
  refine ci_of (cc := cX1_carryOut) (maxL := 7) (ty := .int) (lv := [(0, .ref (ad 87)), (1, .ref (ad v1)), (2, .ref (ad v2)), (3, .long (sJ a3))]) (by decide) rfl (fun r M' hp => rfl) (Nat.le_of_ble_eq_true rfl) rfl ?_
  intro p e s m args below meth c A Q C hret
  refine j_lload_n C 3 3 dX1_carryOut_0 rfl rfl ?_
  refine y_ldc2 C (-1) dX1_carryOut_1 kX1_carryOut_77 rfl ?_
  refine y_lcmp_lt C 16 dX1_carryOut_4 dX1_carryOut_5 (by decide) (by omega) (fun h101 => ?_) (fun h101 => ?_)
  · refine y_bipush C dX1_carryOut_16 rfl ?_
    exact hret _ _ _ _ dX1_carryOut_18 ⟨(-11), rfl, hM0, by omega⟩
  · refine j_lload_n C 3 3 dX1_carryOut_8 rfl rfl ?_
    refine y_ldc2 C 1999 dX1_carryOut_9 kX1_carryOut_79 rfl ?_
    refine y_lcmp_le C 19 dX1_carryOut_12 dX1_carryOut_13 (by decide) (by omega) (fun h102 => ?_) (fun h102 => ?_)
    · refine j_lload_n C 3 3 dX1_carryOut_19 rfl rfl ?_
      refine y_l2i C dX1_carryOut_20 ?_
      refine j_istore C 5 [(5, .int (sI a3)), (0, .ref (ad 87)), (1, .ref (ad v1)), (2, .ref (ad v2)), (3, .long (sJ a3))] dX1_carryOut_21 (by decide) rfl ?_
      refine j_iload C 0 dX1_carryOut_23 rfl ?_
      refine y_iconst C dX1_carryOut_25 ?_
      refine y_icmp_ne C 54 dX1_carryOut_26 (by decide) (by omega) (fun h103 => ?_) (fun h103 => ?_)
      · refine j_iload C 0 dX1_carryOut_54 rfl ?_
        refine y_bipush C dX1_carryOut_56 rfl ?_
        refine y_icmp_gt C 70 dX1_carryOut_58 (by decide) (by omega) (fun h104 => ?_) (fun h104 => ?_)
        · refine j_iload C 0 dX1_carryOut_70 rfl ?_
          refine y_bipush C dX1_carryOut_72 rfl ?_
          refine y_icmp_lt C 95 dX1_carryOut_74 (by decide) (by omega) (fun h105 => ?_) (fun h105 => ?_)
          · refine j_iload C 0 dX1_carryOut_95 rfl ?_
            refine y_sipush C dX1_carryOut_97 rfl ?_
            refine y_icmp_lt C 123 dX1_carryOut_100 (by decide) (by omega) (fun h106 => ?_) (fun h106 => ?_)
            · refine j_iload C 0 dX1_carryOut_123 rfl ?_
              refine y_sipush C dX1_carryOut_125 rfl ?_
              refine y_icmp_lt C 151 dX1_carryOut_128 (by decide) (by omega) (fun h107 => ?_) (fun h107 => ?_)
              · refine y_bipush C dX1_carryOut_151 rfl ?_
                exact hret _ _ _ _ dX1_carryOut_153 ⟨(-11), rfl, hM0, by omega⟩
              · exfalso; omega
            · exfalso; omega
          · refine j_iload C 0 dX1_carryOut_77 rfl ?_
            refine y_bipush C dX1_carryOut_79 rfl ?_
            refine y_icmp_gt C 95 dX1_carryOut_81 (by decide) (by omega) (fun h108 => ?_) (fun h108 => ?_)
            · refine j_iload C 0 dX1_carryOut_95 rfl ?_
              refine y_sipush C dX1_carryOut_97 rfl ?_
              refine y_icmp_lt C 123 dX1_carryOut_100 (by decide) (by omega) (fun h109 => ?_) (fun h109 => ?_)
              · refine j_iload C 0 dX1_carryOut_123 rfl ?_
                refine y_sipush C dX1_carryOut_125 rfl ?_
                refine y_icmp_lt C 151 dX1_carryOut_128 (by decide) (by omega) (fun h110 => ?_) (fun h110 => ?_)
                · refine y_bipush C dX1_carryOut_151 rfl ?_
                  exact hret _ _ _ _ dX1_carryOut_153 ⟨(-11), rfl, hM0, by omega⟩
                · exfalso; omega
              · refine j_iload C 0 dX1_carryOut_103 rfl ?_
                refine y_sipush C dX1_carryOut_105 rfl ?_
                refine y_icmp_gt C 123 dX1_carryOut_108 (by decide) (by omega) (fun h111 => ?_) (fun h111 => ?_)
                · refine j_iload C 0 dX1_carryOut_123 rfl ?_
                  refine y_sipush C dX1_carryOut_125 rfl ?_
                  refine y_icmp_lt C 151 dX1_carryOut_128 (by decide) (by omega) (fun h112 => ?_) (fun h112 => ?_)
                  · refine y_bipush C dX1_carryOut_151 rfl ?_
                    exact hret _ _ _ _ dX1_carryOut_153 ⟨(-11), rfl, hM0, by omega⟩
                  · refine j_aload_n C 1 0 dX1_carryOut_131 rfl rfl ?_
                    refine j_aload_n C 3 2 dX1_carryOut_132 rfl rfl ?_
                    refine j_iload C 0 dX1_carryOut_133 rfl ?_
                    refine y_sipush C dX1_carryOut_135 rfl ?_
                    refine y_isub C dX1_carryOut_138 ?_
                    refine y_bipush C dX1_carryOut_139 rfl ?_
                    refine y_idiv C dX1_carryOut_141 (by omega) ?_
                    refine j_iload C 0 dX1_carryOut_142 rfl ?_
                    refine y_bipush C dX1_carryOut_144 rfl ?_
                    refine y_irem C dX1_carryOut_146 (by omega) ?_
                    refine j_callVi C (d := 2) (As := [.ref (ad v2), .int (sI ((a3 - 1000) / 100)), .int (sI (a3 % 100))]) (st := []) 87 (s_lt rfl rfl) (s_kc (c := 1) rfl rfl) (by decide) rfl (s1_X1_reprice hM0 hpr cv2 ((a3 - 1000) / 100) (by omega) (a3 % 100) (by omega)) gX1_carryOut_X1_reprice rfl hdX1_reprice (by decide) (Nat.le_of_ble_eq_true rfl) dX1_carryOut_147 rfl (fun r113 M114 h115 => ?_)
                    obtain ⟨a117, rfl, hM114, h116⟩ := h115
                    exact hret _ _ _ _ dX1_carryOut_150 ⟨a117, rfl, hM114, by omega⟩
                · refine j_aload_n C 1 0 dX1_carryOut_111 rfl rfl ?_
                  refine j_aload_n C 3 2 dX1_carryOut_112 rfl rfl ?_
                  refine j_iload C 0 dX1_carryOut_113 rfl ?_
                  refine y_sipush C dX1_carryOut_115 rfl ?_
                  refine y_isub C dX1_carryOut_118 ?_
                  refine j_callVi C (d := 2) (As := [.ref (ad v2), .int (sI (a3 - 200))]) (st := []) 87 (s_lt rfl rfl) (s_kc (c := 1) rfl rfl) (by decide) rfl (s1_X1_turn hM0 hpr cv2 (a3 - 200) (by omega)) gX1_carryOut_X1_turn rfl hdX1_turn (by decide) (Nat.le_of_ble_eq_true rfl) dX1_carryOut_119 rfl (fun r118 M119 h120 => ?_)
                  obtain ⟨a122, rfl, hM119, h121⟩ := h120
                  exact hret _ _ _ _ dX1_carryOut_122 ⟨a122, rfl, hM119, by omega⟩
            · refine j_aload_n C 1 0 dX1_carryOut_84 rfl rfl ?_
              refine j_aload_n C 3 2 dX1_carryOut_85 rfl rfl ?_
              refine j_iload C 0 dX1_carryOut_86 rfl ?_
              refine y_bipush C dX1_carryOut_88 rfl ?_
              refine y_isub C dX1_carryOut_90 ?_
              refine j_callVi C (d := 2) (As := [.ref (ad v2), .int (sI (a3 - 100))]) (st := []) 87 (s_lt rfl rfl) (s_kc (c := 1) rfl rfl) (by decide) rfl (s1_X1_giveAway hM0 hpr cv2 (a3 - 100) (by omega)) gX1_carryOut_X1_giveAway rfl hdX1_giveAway (by decide) (Nat.le_of_ble_eq_true rfl) dX1_carryOut_91 rfl (fun r123 M124 h125 => ?_)
              obtain ⟨a127, rfl, hM124, h126⟩ := h125
              exact hret _ _ _ _ dX1_carryOut_94 ⟨a127, rfl, hM124, by omega⟩
        · refine j_aload_n C 1 0 dX1_carryOut_61 rfl rfl ?_
          refine j_aload_n C 2 1 dX1_carryOut_62 rfl rfl ?_
          refine j_aload_n C 3 2 dX1_carryOut_63 rfl rfl ?_
          refine j_iload C 0 dX1_carryOut_64 rfl ?_
          refine j_callVi C (d := 4) (As := [.ref (ad v1), .ref (ad v2), .int (sI a3)]) (st := []) 87 (s_lt rfl rfl) (s_kc (c := 1) rfl rfl) (by decide) rfl (s1_X1_visitBy hM0 hpr cv1 cv2 a3 (by omega)) gX1_carryOut_X1_visitBy rfl hdX1_visitBy (by decide) (Nat.le_of_ble_eq_true rfl) dX1_carryOut_66 rfl (fun r128 M129 h130 => ?_)
          obtain ⟨a132, rfl, hM129, h131⟩ := h130
          exact hret _ _ _ _ dX1_carryOut_69 ⟨a132, rfl, hM129, by omega⟩
      · refine j_aload_n C 1 0 dX1_carryOut_29 rfl rfl ?_
        refine j_aload_n C 2 1 dX1_carryOut_30 rfl rfl ?_
        refine j_aload_n C 3 2 dX1_carryOut_31 rfl rfl ?_
        refine j_callVi C (d := 1) (As := [.ref (ad v1), .ref (ad v2)]) (st := []) 87 (s_lt rfl rfl) (s_kc (c := 1) rfl rfl) (by decide) rfl (s1_X1_passDay hM0 hpr cv1 cv2) gX1_carryOut_X1_passDay rfl hdX1_passDay (by decide) (Nat.le_of_ble_eq_true rfl) dX1_carryOut_32 rfl (fun r133 M134 h135 => ?_)
        obtain ⟨a137, rfl, hM134, h136⟩ := h135
        refine j_istore C 6 [(6, .int (sI a137)), (5, .int (sI a3)), (0, .ref (ad 87)), (1, .ref (ad v1)), (2, .ref (ad v2)), (3, .long (sJ a3))] dX1_carryOut_35 (by decide) rfl ?_
        refine j_aload_n C 2 0 dX1_carryOut_37 rfl rfl ?_
        refine j_aload_n C 3 1 dX1_carryOut_38 rfl rfl ?_
        refine j_aload_n C 4 2 dX1_carryOut_39 rfl rfl ?_
        refine j_iload C 0 dX1_carryOut_40 rfl ?_
        refine j_callVi C (d := 4) (As := [.ref (ad v1), .ref (ad v2), .int (sI a137)]) (st := []) 87 (s_lt rfl rfl) (s_kc (c := 1) rfl rfl) (by decide) rfl (s1_X1_visitBy hM134 hpr cv1 cv2 a137 (by omega)) gX1_carryOut_X1_visitBy rfl hdX1_visitBy (by decide) (Nat.le_of_ble_eq_true rfl) dX1_carryOut_42 rfl (fun r138 M139 h140 => ?_)
        obtain ⟨a142, rfl, hM139, h141⟩ := h140
        refine y_if_lt C 52 dX1_carryOut_45 (by decide) (by omega) (fun h143 => ?_) (fun h143 => ?_)
        · refine y_iconst C dX1_carryOut_52 ?_
          exact hret _ _ _ _ dX1_carryOut_53 ⟨0, rfl, hM139, by omega⟩
        · refine y_iconst C dX1_carryOut_48 ?_
          refine j_goto C 53 dX1_carryOut_49 (by decide) ?_
          exact hret _ _ _ _ dX1_carryOut_53 ⟨1, rfl, hM139, by omega⟩
    · refine y_bipush C dX1_carryOut_16 rfl ?_
      exact hret _ _ _ _ dX1_carryOut_18 ⟨(-11), rfl, hM0, by omega⟩
set_option maxHeartbeats 4000000 in
theorem s1_X11_days {l : Launch} {dC : Nat → ClassId} {dI : Nat → Nat → Nat} {ad : Nat → Nat} {cA : Nat → ClassId} {pr : Nat → Nat → Bool} {Kz : mm_M} {M0 : mm_M} (hM0 : INV pr Kz M0) (hpr : PX pr) (hq8_0 : ∀ i, s_c i = 8 → pr i 0 = false) (a1 : Int) (ha1 : -2147483648 ≤ a1 ∧ a1 ≤ 2147483647) : Ci l 6 yX11_days wsX11_days dC dI ad cA [.ref (ad 0), .int (sI a1)] M0 (fun r M' => ∃ a : Int, r = sI a ∧ INV pr Kz M' ∧ (-2147483648) ≤ a ∧ a ≤ 2147483647) := by
  refine ci_of (cc := cX11_days) (maxL := 4) (ty := .int) (lv := [(0, .ref (ad 0)), (1, .int (sI a1))]) (by decide) rfl (fun r M' hp => rfl) (Nat.le_of_ble_eq_true rfl) rfl ?_
  intro p e s m args below meth c A Q C hret
  refine j_iload_n C 1 1 dX11_days_0 rfl rfl ?_
  refine y_iconst C dX11_days_1 ?_
  refine y_icmp_lt C 11 dX11_days_2 (by decide) (by omega) (fun h101 => ?_) (fun h101 => ?_)
  · refine y_bipush C dX11_days_11 rfl ?_
    exact hret _ _ _ _ dX11_days_13 ⟨(-3), rfl, hM0, by omega⟩
  · refine j_iload_n C 1 1 dX11_days_5 rfl rfl ?_
    refine y_bipush C dX11_days_6 rfl ?_
    refine y_icmp_le C 14 dX11_days_8 (by decide) (by omega) (fun h102 => ?_) (fun h102 => ?_)
    · refine j_aload_n C 0 0 dX11_days_14 rfl rfl ?_
      refine y_getC C 10 15 fX11_days_40 rfl rfl ft_10_7 sm_10_7 rfl hM0 dX11_days_15 ?_
      refine j_aload_n C 0 0 dX11_days_18 rfl rfl ?_
      refine y_getC C 10 12 fX11_days_36 rfl rfl ft_10_6 sm_10_6 rfl hM0 dX11_days_19 ?_
      refine j_callVv C (d := 0) (As := [.ref (ad 12)]) (st := []) 15 (s_lt rfl rfl) (s_kc (c := 8) rfl rfl) (by decide) rfl (s1_X9_copyFrom hM0 hpr hq8_0 rfl rfl) gX11_days_X9_copyFrom rfl hdX9_copyFrom (by decide) (Nat.le_of_ble_eq_true rfl) dX11_days_22 rfl (fun M104 h105 => ?_)
      have hM104 := h105
      refine y_iconst C dX11_days_25 ?_
      refine j_istore_n C 2 [(2, .int (sI 0)), (0, .ref (ad 0)), (1, .int (sI a1))] dX11_days_26 rfl (by decide) rfl ?_
      refine y_iconst C dX11_days_27 ?_
      refine j_istore_n C 3 [(3, .int (sI 0)), (2, .int (sI 0)), (0, .ref (ad 0)), (1, .int (sI a1))] dX11_days_28 rfl (by decide) rfl ?_
      have L350 : ∀ (n348 : Nat), ∀ (a351 : Int) (a352 : Int) (M353 : mm_M), ((-2147483648) ≤ a351 ∧ a351 ≤ 2147483647 ∧ 0 ≤ a352 ∧ a352 ≤ 99 ∧ (99 - a352) < (n348 : Int)) → INV pr Kz M353 → jj p l e (cn_R 6) s m args below meth c 0 0 Q 4 dC dI ad cA A M353 29 [(0, .ref (ad 0)), (1, .int (sI a1)), (2, .int (sI a351)), (3, .int (sI a352))] [] := by
        intro n348
        induction n348 with
        | zero =>
          intro a351 a352 M353 h354 hM353
          exfalso; omega
        | succ n348 ih349 =>
          intro a351 a352 M353 h354 hM353
          refine j_iload_n C 3 3 dX11_days_29 rfl rfl ?_
          refine j_iload_n C 1 1 dX11_days_30 rfl rfl ?_
          refine y_icmp_ge C 61 dX11_days_31 (by decide) (by omega) (fun h355 => ?_) (fun h355 => ?_)
          · refine j_aload_n C 0 0 dX11_days_61 rfl rfl ?_
            refine y_getC C 10 18 fX11_days_46 rfl rfl ft_10_8 sm_10_8 rfl hM353 dX11_days_62 ?_
            refine j_aload_n C 0 0 dX11_days_65 rfl rfl ?_
            refine y_getC C 10 15 fX11_days_40 rfl rfl ft_10_7 sm_10_7 rfl hM353 dX11_days_66 ?_
            refine j_callVv C (d := 1) (As := [.ref (ad 15)]) (st := []) 18 (s_lt rfl rfl) (s_kc (c := 5) rfl rfl) (by decide) rfl (s1_X6_keep hM353 hpr hq8_0 rfl) gX11_days_X6_keep rfl hdX6_keep (by decide) (Nat.le_of_ble_eq_true rfl) dX11_days_69 rfl (fun M364 h365 => ?_)
            have hM364 := h365
            refine j_iload_n C 2 2 dX11_days_72 rfl rfl ?_
            exact hret _ _ _ _ dX11_days_73 ⟨a351, rfl, hM364, by omega⟩
          · refine j_iload_n C 2 2 dX11_days_34 rfl rfl ?_
            refine j_aload_n C 0 0 dX11_days_35 rfl rfl ?_
            refine y_getC C 10 87 fX11_days_85 rfl rfl ft_10_13 sm_10_13 rfl hM353 dX11_days_36 ?_
            refine j_aload_n C 0 0 dX11_days_39 rfl rfl ?_
            refine y_getM C 10 6 fX11_days_26 rfl rfl ft_10_4 sm_10_4 (by decide) hM353 dX11_days_40 (fun v356 ev356 cv356 => ?_)
            refine j_aload_n C 0 0 dX11_days_43 rfl rfl ?_
            refine y_getC C 10 12 fX11_days_36 rfl rfl ft_10_6 sm_10_6 rfl hM353 dX11_days_44 ?_
            refine y_ldc2 C (-1) dX11_days_47 kX11_days_219 rfl ?_
            refine j_callVi C (d := 5) (As := [.ref (ad v356), .ref (ad 12), .long (sJ (-1))]) (st := [.int (sI a351)]) 87 (s_lt rfl rfl) (s_kc (c := 1) rfl rfl) (by decide) rfl (s1_X1_carryOut hM353 hpr cv356 rfl (-1) (by omega)) gX11_days_X1_carryOut rfl hdX1_carryOut (by decide) (Nat.le_of_ble_eq_true rfl) dX11_days_50 rfl (fun r357 M358 h359 => ?_)
            obtain ⟨a361, rfl, hM358, h360⟩ := h359
            refine y_iadd0 C dX11_days_53 (fun a362 la362 ua362 => ?_)
            refine j_istore_n C 2 [(2, .int (sI a362)), (0, .ref (ad 0)), (1, .int (sI a1)), (3, .int (sI a352))] dX11_days_54 rfl (by decide) rfl ?_
            refine y_iinc C 3 [(3, .int (sI (a352 + 1))), (2, .int (sI a362)), (0, .ref (ad 0)), (1, .int (sI a1))] dX11_days_55 rfl (by decide) rfl ?_
            refine j_goto C 29 dX11_days_58 (by decide) ?_
            refine j_lv [2, 3, 1, 0] rfl ?_; exact ih349 a362 (a352 + 1) M358 (by omega) hM358
      refine j_lv [2, 3, 1, 0] rfl ?_; exact L350 4294967306 0 0 M104 (by omega) hM104
    · refine y_bipush C dX11_days_11 rfl ?_
      exact hret _ _ _ _ dX11_days_13 ⟨(-3), rfl, hM0, by omega⟩
set_option maxHeartbeats 4000000 in
theorem s1_J9_floorMod_7cf53 {l : Launch} {dC : Nat → ClassId} {dI : Nat → Nat → Nat} {ad : Nat → Nat} {cA : Nat → ClassId} {pr : Nat → Nat → Bool} {Kz : mm_M} {M0 : mm_M} (hM0 : INV pr Kz M0) (a0 : Int) (ha0 : -2147483648 ≤ a0 ∧ a0 ≤ 2147483647) : Ci l 0 yJ9_floorMod_7cf53 wsJ9_floorMod_7cf53 dC dI ad cA [.int (sI a0), .int (sI 10)] M0 (fun r M' => ∃ a : Int, r = sI a ∧ M0 = M' ∧ 0 ≤ a ∧ a ≤ 9) := by
  refine ci_ofF (cc := cJ9_floorMod_7cf53) (maxL := 3) (ty := .int) (lv := [(0, .int (sI a0)), (1, .int (sI 10))]) (by decide +kernel) rfl (fun r M' hp => rfl) (Nat.le_of_ble_eq_true rfl) rfl ?_
  intro p e s m args below meth c A Q C hret
  refine j_iload_n C 0 0 dJ9_floorMod_7cf53_0 rfl rfl ?_
  refine j_iload_n C 1 1 dJ9_floorMod_7cf53_1 rfl rfl ?_
  refine y_iremS C dJ9_floorMod_7cf53_2 (by omega) (fun a101 la101 ua101 ha101 => ?_)
  refine j_istore_n C 2 [(2, .int (sI a101)), (0, .int (sI a0)), (1, .int (sI 10))] dJ9_floorMod_7cf53_3 rfl (by decide) rfl ?_
  refine j_iload_n C 1 0 dJ9_floorMod_7cf53_4 rfl rfl ?_
  refine j_iload_n C 2 1 dJ9_floorMod_7cf53_5 rfl rfl ?_
  refine y_ixorS C dJ9_floorMod_7cf53_6 (by omega) (fun a102 la102 ua102 ha102 => ?_)
  refine y_if_ge C 18 dJ9_floorMod_7cf53_7 (by decide) (by omega) (fun h103 => ?_) (fun h103 => ?_)
  · refine j_iload_n C 0 2 dJ9_floorMod_7cf53_18 rfl rfl ?_
    exact hret _ _ _ _ dJ9_floorMod_7cf53_19 ⟨a101, rfl, rfl, by omega⟩
  · refine j_iload_n C 0 2 dJ9_floorMod_7cf53_10 rfl rfl ?_
    refine y_if_eq C 18 dJ9_floorMod_7cf53_11 (by decide) (by omega) (fun h104 => ?_) (fun h104 => ?_)
    · refine j_iload_n C 0 2 dJ9_floorMod_7cf53_18 rfl rfl ?_
      exact hret _ _ _ _ dJ9_floorMod_7cf53_19 ⟨a101, rfl, rfl, by omega⟩
    · refine j_iload_n C 0 2 dJ9_floorMod_7cf53_14 rfl rfl ?_
      refine j_iload_n C 2 1 dJ9_floorMod_7cf53_15 rfl rfl ?_
      refine y_iadd C dJ9_floorMod_7cf53_16 ?_
      exact hret _ _ _ _ dJ9_floorMod_7cf53_17 ⟨(a101 + 10), rfl, rfl, by omega⟩
set_option maxHeartbeats 4000000 in
theorem s1_X6_bringBack {l : Launch} {dC : Nat → ClassId} {dI : Nat → Nat → Nat} {ad : Nat → Nat} {cA : Nat → ClassId} {pr : Nat → Nat → Bool} {Kz : mm_M} {M0 : mm_M} (hM0 : INV pr Kz M0) (hpr : PX pr) (hq8_0 : ∀ i, s_c i = 8 → pr i 0 = false) (a1 : Int) (ha1 : -2147483648 ≤ a1 ∧ a1 ≤ 2147483647) {v2 : Nat} (cv2 : s_c v2 = 8) (hp0 : 1 ≤ a1 ∧ a1 ≤ (M0.1 18 2).toInt) (hp1 : 1 ≤ a1 ∧ a1 ≤ 10) : Cv l 1 yX6_bringBack wsX6_bringBack dC dI ad cA [.ref (ad 18), .int (sI a1), .ref (ad v2)] M0 (fun M' => INV pr Kz M') := by
  refine cv_of (cc := cX6_bringBack) (maxL := 3) (lv := [(0, .ref (ad 18)), (1, .int (sI a1)), (2, .ref (ad v2))]) (by decide) rfl (Nat.le_of_ble_eq_true rfl) rfl ?_
  intro p e s m args below meth c A Q C hret
  refine j_aload_n C 0 0 dX6_bringBack_0 rfl rfl ?_
  refine j_aload_n C 0 0 dX6_bringBack_1 rfl rfl ?_
  refine y_getI C 5 _ _ fX6_bringBack_17 rfl rfl ft_5_1 sb_5_1 hM0 dX6_bringBack_2 (fun a101 ea101 la101 ua101 => ?_)
  refine j_iload_n C 1 1 dX6_bringBack_5 rfl rfl ?_
  refine y_isub C dX6_bringBack_6 ?_
  refine y_bipush C dX6_bringBack_7 rfl ?_
  refine j_callSi C (d := 0) (As := [.int (sI (a101 - a1)), .int (sI 10)]) (st := [.ref (ad 18)]) (s1_J9_floorMod_7cf53 hM0 (a101 - a1) (by omega)) gX6_bringBack_J9_floorMod_7cf53 rfl hdJ9_floorMod_7cf53s (by decide) (Nat.le_of_ble_eq_true rfl) dX6_bringBack_9 rfl (fun r103 M104 h105 => ?_)
  obtain ⟨a107, rfl, rfl, h106⟩ := h105
  refine y_putI C 5 _ _ qX6_bringBack_17 rfl rfl ft_5_1 sb_5_1 hM0 (PX.w hpr rfl rfl) dX6_bringBack_12 (by omega) (fun M108 eM108 hM108 => ?_)
  refine j_aload_n C 0 0 dX6_bringBack_15 rfl rfl ?_
  refine j_dup C dX6_bringBack_16 rfl ?_
  refine y_getI C 5 _ _ fX6_bringBack_21 rfl rfl ft_5_2 sb_5_2 hM108 dX6_bringBack_17 (fun a109 ea109 la109 ua109 => ?_)
  have qa109 : a109 = (M0.1 18 2).toInt := s_fb eM108 (by decide) (ea109)
  refine j_iload_n C 1 1 dX6_bringBack_20 rfl rfl ?_
  refine y_isub C dX6_bringBack_21 ?_
  refine y_putI C 5 _ _ qX6_bringBack_21 rfl rfl ft_5_2 sb_5_2 hM108 (PX.w hpr rfl rfl) dX6_bringBack_22 (by omega) (fun M111 eM111 hM111 => ?_)
  refine j_aload_n C 2 2 dX6_bringBack_25 rfl rfl ?_
  refine j_aload_n C 0 0 dX6_bringBack_26 rfl rfl ?_
  refine y_getC C 5 19 fX6_bringBack_11 rfl rfl ft_5_0 sm_5_0 rfl hM111 dX6_bringBack_27 ?_
  refine j_aload_n C 0 0 dX6_bringBack_30 rfl rfl ?_
  refine y_getI C 5 _ _ fX6_bringBack_17 rfl rfl ft_5_1 sb_5_1 hM111 dX6_bringBack_31 (fun a112 ea112 la112 ua112 => ?_)
  have qa112 : a112 = (M108.1 18 1).toInt := s_fb eM111 (by decide) (ea112)
  refine y_aald C 27 10 8 rfl rfl rfl rfl an_27 rfl sma_27 sta_27 (by decide) hM111 dX6_bringBack_34 (by omega) (fun v114 cv114 => ?_)
  refine j_callVv C (d := 0) (As := [.ref (ad v114)]) (st := []) v2 (s_lt cv2 rfl) (s_kc (c := 8) cv2 rfl) (by decide) rfl (s1_X9_copyFrom hM111 hpr hq8_0 cv2 cv114) gX6_bringBack_X9_copyFrom rfl hdX9_copyFrom (by decide) (Nat.le_of_ble_eq_true rfl) dX6_bringBack_35 rfl (fun M116 h117 => ?_)
  have hM116 := h117
  exact hret _ _ _ dX6_bringBack_38 hM116
set_option maxHeartbeats 4000000 in
theorem s1_X11_undo {l : Launch} {dC : Nat → ClassId} {dI : Nat → Nat → Nat} {ad : Nat → Nat} {cA : Nat → ClassId} {pr : Nat → Nat → Bool} {Kz : mm_M} {M0 : mm_M} (hM0 : INV pr Kz M0) (hpr : PX pr) (hq8_0 : ∀ i, s_c i = 8 → pr i 0 = false) (a1 : Int) (ha1 : -2147483648 ≤ a1 ∧ a1 ≤ 2147483647) : Ci l 2 yX11_undo wsX11_undo dC dI ad cA [.ref (ad 0), .int (sI a1)] M0 (fun r M' => ∃ a : Int, r = sI a ∧ INV pr Kz M' ∧ (-3) ≤ a ∧ a ≤ 10) := by
  refine ci_of (cc := cX11_undo) (maxL := 2) (ty := .int) (lv := [(0, .ref (ad 0)), (1, .int (sI a1))]) (by decide) rfl (fun r M' hp => rfl) (Nat.le_of_ble_eq_true rfl) rfl ?_
  intro p e s m args below meth c A Q C hret
  refine j_iload_n C 1 1 dX11_undo_0 rfl rfl ?_
  refine y_iconst C dX11_undo_1 ?_
  refine y_icmp_lt C 16 dX11_undo_2 (by decide) (by omega) (fun h101 => ?_) (fun h101 => ?_)
  · refine y_bipush C dX11_undo_16 rfl ?_
    exact hret _ _ _ _ dX11_undo_18 ⟨(-3), rfl, hM0, by omega⟩
  · refine j_iload_n C 1 1 dX11_undo_5 rfl rfl ?_
    refine j_aload_n C 0 0 dX11_undo_6 rfl rfl ?_
    refine y_getC C 10 18 fX11_undo_46 rfl rfl ft_10_8 sm_10_8 rfl hM0 dX11_undo_7 ?_
    refine y_getI C 5 _ _ fX11_undo_225 rfl rfl ft_5_2 sb_5_2 hM0 dX11_undo_10 (fun a102 ea102 la102 ua102 => ?_)
    refine y_icmp_le C 19 dX11_undo_13 (by decide) (by omega) (fun h104 => ?_) (fun h104 => ?_)
    · refine j_aload_n C 0 0 dX11_undo_19 rfl rfl ?_
      refine y_getC C 10 18 fX11_undo_46 rfl rfl ft_10_8 sm_10_8 rfl hM0 dX11_undo_20 ?_
      refine j_iload_n C 1 1 dX11_undo_23 rfl rfl ?_
      refine j_aload_n C 0 0 dX11_undo_24 rfl rfl ?_
      refine y_getC C 10 12 fX11_undo_36 rfl rfl ft_10_6 sm_10_6 rfl hM0 dX11_undo_25 ?_
      refine j_callVv C (d := 1) (As := [.int (sI a1), .ref (ad 12)]) (st := []) 18 (s_lt rfl rfl) (s_kc (c := 5) rfl rfl) (by decide) rfl (s1_X6_bringBack hM0 hpr hq8_0 a1 (by omega) rfl (by omega) (by omega)) gX11_undo_X6_bringBack rfl hdX6_bringBack (by decide) (Nat.le_of_ble_eq_true rfl) dX11_undo_28 rfl (fun M106 h107 => ?_)
      have hM106 := h107
      refine j_aload_n C 0 0 dX11_undo_31 rfl rfl ?_
      refine y_getC C 10 18 fX11_undo_46 rfl rfl ft_10_8 sm_10_8 rfl hM106 dX11_undo_32 ?_
      refine y_getI C 5 _ _ fX11_undo_225 rfl rfl ft_5_2 sb_5_2 hM106 dX11_undo_35 (fun a109 ea109 la109 ua109 => ?_)
      exact hret _ _ _ _ dX11_undo_38 ⟨a109, rfl, hM106, by omega⟩
    · refine y_bipush C dX11_undo_16 rfl ?_
      exact hret _ _ _ _ dX11_undo_18 ⟨(-3), rfl, hM0, by omega⟩
set_option maxHeartbeats 4000000 in
theorem s1_X11_isTray {l : Launch} {dC : Nat → ClassId} {dI : Nat → Nat → Nat} {ad : Nat → Nat} {cA : Nat → ClassId} {pr : Nat → Nat → Bool} {Kz : mm_M} {M0 : mm_M} (hM0 : INV pr Kz M0) (a0 : Int) (ha0 : -2147483648 ≤ a0 ∧ a0 ≤ 2147483647) : Ci l 0 yX11_isTray wsX11_isTray dC dI ad cA [.int (sI a0)] M0 (fun r M' => ∃ a : Int, r = sI a ∧ M0 = M' ∧ 0 ≤ a ∧ a ≤ 1 ∧ ((a0 < 0 ∧ a = 0) ∨ (0 ≤ a0 ∧ 4 ≤ a0 ∧ a = 0) ∨ (0 ≤ a0 ∧ a0 < 4 ∧ a = 1))) := by
  refine ci_of (cc := cX11_isTray) (maxL := 1) (ty := .boolean) (lv := [(0, .int (sI a0))]) (by decide) rfl (fun r M' hp => by obtain ⟨a, rfl, -, h⟩ := hp; rcases (show a = 0 ∨ a = 1 by omega) with rfl | rfl <;> rfl) (Nat.le_of_ble_eq_true rfl) rfl ?_
  intro p e s m args below meth c A Q C hret
  refine j_iload_n C 0 0 dX11_isTray_0 rfl rfl ?_
  refine y_if_lt C 13 dX11_isTray_1 (by decide) (by omega) (fun h101 => ?_) (fun h101 => ?_)
  · refine y_iconst C dX11_isTray_13 ?_
    exact hret _ _ _ _ dX11_isTray_14 ⟨0, rfl, rfl, by omega⟩
  · refine j_iload_n C 0 0 dX11_isTray_4 rfl rfl ?_
    refine y_iconst C dX11_isTray_5 ?_
    refine y_icmp_ge C 13 dX11_isTray_6 (by decide) (by omega) (fun h102 => ?_) (fun h102 => ?_)
    · refine y_iconst C dX11_isTray_13 ?_
      exact hret _ _ _ _ dX11_isTray_14 ⟨0, rfl, rfl, by omega⟩
    · refine y_iconst C dX11_isTray_9 ?_
      refine j_goto C 14 dX11_isTray_10 (by decide) ?_
      exact hret _ _ _ _ dX11_isTray_14 ⟨1, rfl, rfl, by omega⟩
set_option maxHeartbeats 4000000 in
theorem s1_X10_isMissing {l : Launch} {dC : Nat → ClassId} {dI : Nat → Nat → Nat} {ad : Nat → Nat} {cA : Nat → ClassId} {pr : Nat → Nat → Bool} {Kz : mm_M} {M0 : mm_M} (hM0 : INV pr Kz M0) {v0 : Nat} (cv0 : s_c v0 = 9) : Ci l 0 yX10_isMissing wsX10_isMissing dC dI ad cA [.ref (ad v0)] M0 (fun r M' => ∃ a : Int, r = sI a ∧ M0 = M' ∧ 0 ≤ a ∧ a ≤ 1 ∧ ((0 ≤ (M0.1 v0 2).toInt ∧ (M0.1 v0 2).toInt ≤ 40 ∧ ¬ (M0.1 v0 2).toInt = (-1) ∧ a = 0) ∨ ((-1) ≤ (M0.1 v0 2).toInt ∧ (M0.1 v0 2).toInt ≤ (-1) ∧ (M0.1 v0 2).toInt = (-1) ∧ a = 1))) := by
  refine ci_of (cc := cX10_isMissing) (maxL := 1) (ty := .boolean) (lv := [(0, .ref (ad v0))]) (by decide) rfl (fun r M' hp => by obtain ⟨a, rfl, -, h⟩ := hp; rcases (show a = 0 ∨ a = 1 by omega) with rfl | rfl <;> rfl) (Nat.le_of_ble_eq_true rfl) rfl ?_
  intro p e s m args below meth c A Q C hret
  refine j_aload_n C 0 0 dX10_isMissing_0 rfl rfl ?_
  refine y_getI C 9 _ _ fX10_isMissing_19 cv0 rfl ft_9_2 sb_9_2 hM0 dX10_isMissing_1 (fun a101 ea101 la101 ua101 => ?_)
  refine y_iconst C dX10_isMissing_4 ?_
  refine y_icmp_ne C 12 dX10_isMissing_5 (by decide) (by omega) (fun h103 => ?_) (fun h103 => ?_)
  · refine y_iconst C dX10_isMissing_12 ?_
    exact hret _ _ _ _ dX10_isMissing_13 ⟨0, rfl, rfl, by omega⟩
  · refine y_iconst C dX10_isMissing_8 ?_
    refine j_goto C 13 dX10_isMissing_9 (by decide) ?_
    exact hret _ _ _ _ dX10_isMissing_13 ⟨1, rfl, rfl, by omega⟩
set_option maxHeartbeats 4000000 in
theorem s1_X10_size {l : Launch} {dC : Nat → ClassId} {dI : Nat → Nat → Nat} {ad : Nat → Nat} {cA : Nat → ClassId} {pr : Nat → Nat → Bool} {Kz : mm_M} {M0 : mm_M} (hM0 : INV pr Kz M0) {v0 : Nat} (cv0 : s_c v0 = 9) : Ci l 1 yX10_size wsX10_size dC dI ad cA [.ref (ad v0)] M0 (fun r M' => ∃ a : Int, r = sI a ∧ M0 = M' ∧ 0 ≤ a ∧ a ≤ 40 ∧ ((0 ≤ a ∧ a ≤ 40))) := by
  refine ci_of (cc := cX10_size) (maxL := 1) (ty := .int) (lv := [(0, .ref (ad v0))]) (by decide) rfl (fun r M' hp => rfl) (Nat.le_of_ble_eq_true rfl) rfl ?_
  intro p e s m args below meth c A Q C hret
  refine j_aload_n C 0 0 dX10_size_0 rfl rfl ?_
  refine y_getI C 9 _ _ fX10_size_19 cv0 rfl ft_9_2 sb_9_2 hM0 dX10_size_1 (fun a101 ea101 la101 ua101 => ?_)
  refine y_iconst C dX10_size_4 ?_
  refine y_mmax C wX10_size_22_0 wX10_size_22_1 wX10_size_22_2 wX10_size_22_3 (by decide) (Nat.le_of_ble_eq_true rfl) dX10_size_5 (by omega) (fun a103 ha103 => ?_)
  exact hret _ _ _ _ dX10_size_8 ⟨a103, rfl, rfl, by omega⟩
set_option maxHeartbeats 4000000 in
theorem s1_X10_has {l : Launch} {dC : Nat → ClassId} {dI : Nat → Nat → Nat} {ad : Nat → Nat} {cA : Nat → ClassId} {pr : Nat → Nat → Bool} {Kz : mm_M} {M0 : mm_M} (hM0 : INV pr Kz M0) {v0 : Nat} (cv0 : s_c v0 = 9) (a1 : Int) (ha1 : -2147483648 ≤ a1 ∧ a1 ≤ 2147483647) : Ci l 0 yX10_has wsX10_has dC dI ad cA [.ref (ad v0), .int (sI a1)] M0 (fun r M' => ∃ a : Int, r = sI a ∧ M0 = M' ∧ 0 ≤ a ∧ a ≤ 1 ∧ ((a1 < 0 ∧ a = 0) ∨ ((-1) ≤ (M0.1 v0 2).toInt ∧ (M0.1 v0 2).toInt ≤ 40 ∧ 0 ≤ a1 ∧ (M0.1 v0 2).toInt ≤ a1 ∧ a = 0) ∨ (1 ≤ (M0.1 v0 2).toInt ∧ (M0.1 v0 2).toInt ≤ 40 ∧ 0 ≤ a1 ∧ a1 < (M0.1 v0 2).toInt ∧ a = 1))) := by
  refine ci_of (cc := cX10_has) (maxL := 2) (ty := .boolean) (lv := [(0, .ref (ad v0)), (1, .int (sI a1))]) (by decide) rfl (fun r M' hp => by obtain ⟨a, rfl, -, h⟩ := hp; rcases (show a = 0 ∨ a = 1 by omega) with rfl | rfl <;> rfl) (Nat.le_of_ble_eq_true rfl) rfl ?_
  intro p e s m args below meth c A Q C hret
  refine j_iload_n C 1 1 dX10_has_0 rfl rfl ?_
  refine y_if_lt C 16 dX10_has_1 (by decide) (by omega) (fun h101 => ?_) (fun h101 => ?_)
  · refine y_iconst C dX10_has_16 ?_
    exact hret _ _ _ _ dX10_has_17 ⟨0, rfl, rfl, by omega⟩
  · refine j_iload_n C 1 1 dX10_has_4 rfl rfl ?_
    refine j_aload_n C 0 0 dX10_has_5 rfl rfl ?_
    refine y_getI C 9 _ _ fX10_has_19 cv0 rfl ft_9_2 sb_9_2 hM0 dX10_has_6 (fun a102 ea102 la102 ua102 => ?_)
    refine y_icmp_ge C 16 dX10_has_9 (by decide) (by omega) (fun h104 => ?_) (fun h104 => ?_)
    · refine y_iconst C dX10_has_16 ?_
      exact hret _ _ _ _ dX10_has_17 ⟨0, rfl, rfl, by omega⟩
    · refine y_iconst C dX10_has_12 ?_
      refine j_goto C 17 dX10_has_13 (by decide) ?_
      exact hret _ _ _ _ dX10_has_17 ⟨1, rfl, rfl, by omega⟩
set_option maxHeartbeats 4000000 in
theorem s1_X10_numberAt {l : Launch} {dC : Nat → ClassId} {dI : Nat → Nat → Nat} {ad : Nat → Nat} {cA : Nat → ClassId} {pr : Nat → Nat → Bool} {Kz : mm_M} {M0 : mm_M} (hM0 : INV pr Kz M0) {v0 : Nat} (cv0 : s_c v0 = 9) (a1 : Int) (ha1 : -2147483648 ≤ a1 ∧ a1 ≤ 2147483647) : Cj l 1 yX10_numberAt wsX10_numberAt dC dI ad cA [.ref (ad v0), .int (sI a1)] M0 (fun r M' => ∃ a : Int, r = sJ a ∧ M0 = M' ∧ (-9223372036854775808) ≤ a ∧ a ≤ 9223372036854775807) := by
  refine cj_of (cc := cX10_numberAt) (maxL := 2) (lv := [(0, .ref (ad v0)), (1, .int (sI a1))]) (by decide) rfl (Nat.le_of_ble_eq_true rfl) rfl ?_
  intro p e s m args below meth c A Q C hret
  refine j_aload_n C 0 0 dX10_numberAt_0 rfl rfl ?_
  refine j_iload_n C 1 1 dX10_numberAt_1 rfl rfl ?_
  refine j_callVi C (d := 0) (As := [.int (sI a1)]) (st := []) v0 (s_lt cv0 rfl) (s_kc (c := 9) cv0 rfl) (by decide) rfl (s1_X10_has hM0 cv0 a1 (by omega)) gX10_numberAt_X10_has rfl hdX10_has (by decide) (Nat.le_of_ble_eq_true rfl) dX10_numberAt_2 rfl (fun r101 M102 h103 => ?_)
  obtain ⟨a105, rfl, rfl, h104⟩ := h103
  refine y_if_eq C 17 dX10_numberAt_5 (by decide) (by omega) (fun h106 => ?_) (fun h106 => ?_)
  · refine y_lconst C 0 dX10_numberAt_17 rfl ?_
    exact hret _ _ _ _ dX10_numberAt_18 ⟨0, rfl, rfl, by omega⟩
  · refine j_aload_n C 0 0 dX10_numberAt_8 rfl rfl ?_
    refine y_getT C 9 29 fX10_numberAt_9 cv0 rfl ft_9_0 rfl sm_9_0 st_9_0 (by decide) hM0 dX10_numberAt_9 (fun v107 cv107 => ?_)
    refine j_iload_n C 1 1 dX10_numberAt_12 rfl rfl ?_
    refine y_lald C 29 40 cv107 rfl rfl ak_29 an_29 rfl dX10_numberAt_13 (by omega) (fun a108 ea108 la108 ua108 => ?_)
    refine j_goto C 18 dX10_numberAt_14 (by decide) ?_
    exact hret _ _ _ _ dX10_numberAt_18 ⟨a108, rfl, rfl, by omega⟩
set_option maxHeartbeats 4000000 in
theorem s1_X11_judge {l : Launch} {dC : Nat → ClassId} {dI : Nat → Nat → Nat} {ad : Nat → Nat} {cA : Nat → ClassId} {pr : Nat → Nat → Bool} {Kz : mm_M} {M0 : mm_M} (hM0 : INV pr Kz M0) (hpr : PX pr) (hq8_0 : ∀ i, s_c i = 8 → pr i 0 = false) (a1 : Int) (ha1 : -2147483648 ≤ a1 ∧ a1 ≤ 2147483647) (a2 : Int) (ha2 : -2147483648 ≤ a2 ∧ a2 ≤ 2147483647) : Ci l 6 yX11_judge wsX11_judge dC dI ad cA [.ref (ad 0), .int (sI a1), .int (sI a2)] M0 (fun r M' => ∃ a : Int, r = sI a ∧ INV pr Kz M' ∧ (-2147483648) ≤ a ∧ a ≤ 2147483647) := by
  refine ci_of (cc := cX11_judge) (maxL := 7) (ty := .int) (lv := [(0, .ref (ad 0)), (1, .int (sI a1)), (2, .int (sI a2))]) (by decide) rfl (fun r M' hp => rfl) (Nat.le_of_ble_eq_true rfl) rfl ?_
  intro p e s m args below meth c A Q C hret
  refine j_iload_n C 1 1 dX11_judge_0 rfl rfl ?_
  refine j_callSi C (d := 0) (As := [.int (sI a1)]) (st := []) (s1_X11_isTray hM0 a1 (by omega)) gX11_judge_X11_isTray rfl hdX11_isTrays (by decide) (Nat.le_of_ble_eq_true rfl) dX11_judge_1 rfl (fun r101 M102 h103 => ?_)
  obtain ⟨a105, rfl, rfl, h104⟩ := h103
  refine y_if_eq C 16 dX11_judge_4 (by decide) (by omega) (fun h106 => ?_) (fun h106 => ?_)
  · refine y_bipush C dX11_judge_16 rfl ?_
    exact hret _ _ _ _ dX11_judge_18 ⟨(-2), rfl, hM0, by omega⟩
  · refine j_iload_n C 2 2 dX11_judge_7 rfl rfl ?_
    refine y_if_lt C 16 dX11_judge_8 (by decide) (by omega) (fun h107 => ?_) (fun h107 => ?_)
    · refine y_bipush C dX11_judge_16 rfl ?_
      exact hret _ _ _ _ dX11_judge_18 ⟨(-2), rfl, hM0, by omega⟩
    · refine j_iload_n C 2 2 dX11_judge_11 rfl rfl ?_
      refine y_iconst C dX11_judge_12 ?_
      refine y_icmp_le C 19 dX11_judge_13 (by decide) (by omega) (fun h108 => ?_) (fun h108 => ?_)
      · refine j_aload_n C 0 0 dX11_judge_19 rfl rfl ?_
        refine y_getC C 10 50 fX11_judge_52 rfl rfl ft_10_9 sm_10_9 rfl hM0 dX11_judge_20 ?_
        refine j_iload_n C 1 1 dX11_judge_23 rfl rfl ?_
        refine y_aald C 28 4 9 rfl rfl rfl rfl an_28 rfl sma_28 sta_28 (by decide) hM0 dX11_judge_24 (by omega) (fun v109 cv109 => ?_)
        refine j_astore_n C 3 [(3, .ref (ad v109)), (0, .ref (ad 0)), (1, .int (sI a1)), (2, .int (sI a2))] dX11_judge_25 rfl (by decide) rfl ?_
        refine j_aload_n C 0 3 dX11_judge_26 rfl rfl ?_
        refine j_callVi C (d := 0) (As := []) (st := []) v109 (s_lt cv109 rfl) (s_kc (c := 9) cv109 rfl) (by decide) rfl (s1_X10_isMissing hM0 cv109) gX11_judge_X10_isMissing rfl hdX10_isMissing (by decide) (Nat.le_of_ble_eq_true rfl) dX11_judge_27 rfl (fun r110 M111 h112 => ?_)
        obtain ⟨a114, rfl, rfl, h113⟩ := h112
        refine y_if_eq C 36 dX11_judge_30 (by decide) (by omega) (fun h115 => ?_) (fun h115 => ?_)
        · refine j_aload_n C 1 0 dX11_judge_36 rfl rfl ?_
          refine y_getC C 10 15 fX11_judge_40 rfl rfl ft_10_7 sm_10_7 rfl hM0 dX11_judge_37 ?_
          refine j_aload_n C 1 0 dX11_judge_40 rfl rfl ?_
          refine y_getC C 10 12 fX11_judge_36 rfl rfl ft_10_6 sm_10_6 rfl hM0 dX11_judge_41 ?_
          refine j_callVv C (d := 0) (As := [.ref (ad 12)]) (st := []) 15 (s_lt rfl rfl) (s_kc (c := 8) rfl rfl) (by decide) rfl (s1_X9_copyFrom hM0 hpr hq8_0 rfl rfl) gX11_judge_X9_copyFrom rfl hdX9_copyFrom (by decide) (Nat.le_of_ble_eq_true rfl) dX11_judge_44 rfl (fun M117 h118 => ?_)
          have hM117 := h118
          refine y_iconst C dX11_judge_47 ?_
          refine j_istore C 4 [(4, .int (sI 0)), (3, .ref (ad v109)), (0, .ref (ad 0)), (1, .int (sI a1)), (2, .int (sI a2))] dX11_judge_48 (by decide) rfl ?_
          refine y_iconst C dX11_judge_50 ?_
          refine j_istore C 5 [(5, .int (sI 0)), (4, .int (sI 0)), (3, .ref (ad v109)), (0, .ref (ad 0)), (1, .int (sI a1)), (2, .int (sI a2))] dX11_judge_51 (by decide) rfl ?_
          refine y_iconst C dX11_judge_53 ?_
          refine j_istore C 6 [(6, .int (sI 0)), (5, .int (sI 0)), (4, .int (sI 0)), (3, .ref (ad v109)), (0, .ref (ad 0)), (1, .int (sI a1)), (2, .int (sI a2))] dX11_judge_54 (by decide) rfl ?_
          have X541 : ∀ (a538 : Int) (a539 : Int) (M540 : mm_M), ((-2147483648) ≤ a538 ∧ a538 ≤ 0 ∧ 0 ≤ a539 ∧ a539 ≤ 39) → INV pr Kz M540 → jj p l e (cn_R 6) s m args below meth c 0 0 Q 7 dC dI ad cA A M540 107 [(0, .ref (ad 0)), (2, .int (sI a2)), (4, .int (sI a538)), (5, .int (sI a539))] [] := by
            intro a538 a539 M540 h542 hM540
            refine j_iload_n C 1 2 dX11_judge_107 rfl rfl ?_
            refine y_if_ne C 123 dX11_judge_108 (by decide) (by omega) (fun h543 => ?_) (fun h543 => ?_)
            · refine j_iload_n C 1 2 dX11_judge_123 rfl rfl ?_
              refine y_iconst C dX11_judge_124 ?_
              refine y_icmp_ne C 143 dX11_judge_125 (by decide) (by omega) (fun h544 => ?_) (fun h544 => ?_)
              · refine j_iload_n C 1 2 dX11_judge_143 rfl rfl ?_
                refine y_iconst C dX11_judge_144 ?_
                refine y_icmp_ne C 158 dX11_judge_145 (by decide) (by omega) (fun h545 => ?_) (fun h545 => ?_)
                · refine j_aload_n C 0 0 dX11_judge_158 rfl rfl ?_
                  refine y_getC C 10 15 fX11_judge_40 rfl rfl ft_10_7 sm_10_7 rfl hM540 dX11_judge_159 ?_
                  refine y_getI C 8 _ _ fX11_judge_252 rfl rfl ft_8_5 sb_8_5 hM540 dX11_judge_162 (fun a546 ea546 la546 ua546 => ?_)
                  exact hret _ _ _ _ dX11_judge_165 ⟨a546, rfl, hM540, by omega⟩
                · refine j_aload_n C 0 0 dX11_judge_148 rfl rfl ?_
                  refine y_getC C 10 15 fX11_judge_40 rfl rfl ft_10_7 sm_10_7 rfl hM540 dX11_judge_149 ?_
                  refine y_getI C 8 _ _ fX11_judge_150 rfl rfl ft_8_3 sb_8_3 hM540 dX11_judge_152 (fun a548 ea548 la548 ua548 => ?_)
                  refine j_goto C 165 dX11_judge_155 (by decide) ?_
                  exact hret _ _ _ _ dX11_judge_165 ⟨a548, rfl, hM540, by omega⟩
              · refine j_iload C 2 dX11_judge_128 rfl ?_
                refine y_if_ne C 137 dX11_judge_130 (by decide) (by omega) (fun h550 => ?_) (fun h550 => ?_)
                · refine y_bipush C dX11_judge_137 rfl ?_
                  refine j_iload C 2 dX11_judge_139 rfl ?_
                  refine y_isub C dX11_judge_141 ?_
                  exact hret _ _ _ _ dX11_judge_142 ⟨((-10) - a538), rfl, hM540, by omega⟩
                · refine y_iconst C dX11_judge_133 ?_
                  refine j_goto C 142 dX11_judge_134 (by decide) ?_
                  exact hret _ _ _ _ dX11_judge_142 ⟨0, rfl, hM540, by omega⟩
            · refine j_iload C 2 dX11_judge_111 rfl ?_
              refine y_if_ne C 120 dX11_judge_113 (by decide) (by omega) (fun h551 => ?_) (fun h551 => ?_)
              · refine j_iload C 3 dX11_judge_120 rfl ?_
                exact hret _ _ _ _ dX11_judge_122 ⟨a539, rfl, hM540, by omega⟩
              · refine y_iconst C dX11_judge_116 ?_
                refine j_goto C 122 dX11_judge_117 (by decide) ?_
                exact hret _ _ _ _ dX11_judge_122 ⟨(-1), rfl, hM540, by omega⟩
          have L513 : ∀ (n511 : Nat), ∀ (a514 : Int) (a515 : Int) (a516 : Int) (M517 : mm_M), ((-2147483648) ≤ a514 ∧ a514 ≤ 0 ∧ 0 ≤ a515 ∧ a515 ≤ 39 ∧ 0 ≤ a516 ∧ a516 ≤ 40 ∧ (40 - a516) < (n511 : Int)) → INV pr Kz M517 → jj p l e (cn_R 6) s m args below meth c 0 0 Q 7 dC dI ad cA A M517 56 [(0, .ref (ad 0)), (2, .int (sI a2)), (3, .ref (ad v109)), (4, .int (sI a514)), (5, .int (sI a515)), (6, .int (sI a516))] [] := by
            intro n511
            induction n511 with
            | zero =>
              intro a514 a515 a516 M517 h518 hM517
              exfalso; omega
            | succ n511 ih512 =>
              intro a514 a515 a516 M517 h518 hM517
              refine j_iload C 5 dX11_judge_56 rfl ?_
              refine j_aload_n C 2 3 dX11_judge_58 rfl rfl ?_
              refine j_callVi C (d := 1) (As := []) (st := [.int (sI a516)]) v109 (s_lt cv109 rfl) (s_kc (c := 9) cv109 rfl) (by decide) rfl (s1_X10_size hM517 cv109) gX11_judge_X10_size rfl hdX10_size (by decide) (Nat.le_of_ble_eq_true rfl) dX11_judge_59 rfl (fun r519 M520 h521 => ?_)
              obtain ⟨a523, rfl, rfl, h522⟩ := h521
              refine y_icmp_ge C 107 dX11_judge_62 (by decide) (by omega) (fun h524 => ?_) (fun h524 => ?_)
              · refine j_lv [0, 1, 3, 4] rfl ?_; exact X541 a514 a515 M517 (by omega) hM517
              · refine j_iload C 3 dX11_judge_65 rfl ?_
                refine y_if_ne C 107 dX11_judge_67 (by decide) (by omega) (fun h525 => ?_) (fun h525 => ?_)
                · refine j_lv [0, 1, 3, 4] rfl ?_; exact X541 a514 a515 M517 (by omega) hM517
                · refine y_iconst C dX11_judge_70 ?_
                  refine j_aload_n C 0 0 dX11_judge_71 rfl rfl ?_
                  refine y_getC C 10 87 fX11_judge_85 rfl rfl ft_10_13 sm_10_13 rfl hM517 dX11_judge_72 ?_
                  refine j_aload_n C 0 0 dX11_judge_75 rfl rfl ?_
                  refine y_getM C 10 6 fX11_judge_26 rfl rfl ft_10_4 sm_10_4 (by decide) hM517 dX11_judge_76 (fun v526 ev526 cv526 => ?_)
                  refine j_aload_n C 0 0 dX11_judge_79 rfl rfl ?_
                  refine y_getC C 10 15 fX11_judge_40 rfl rfl ft_10_7 sm_10_7 rfl hM517 dX11_judge_80 ?_
                  refine j_aload_n C 2 3 dX11_judge_83 rfl rfl ?_
                  refine j_iload C 5 dX11_judge_84 rfl ?_
                  refine j_callVj C (d := 1) (As := [.int (sI a516)]) (st := [.ref (ad 15), .ref (ad v526), .ref (ad 87), .int (sI 0)]) v109 (s_lt cv109 rfl) (s_kc (c := 9) cv109 rfl) (by decide) rfl (s1_X10_numberAt hM517 cv109 a516 (by omega)) gX11_judge_X10_numberAt rfl hdX10_numberAt (by decide) (Nat.le_of_ble_eq_true rfl) dX11_judge_86 rfl (fun r527 M528 h529 => ?_)
                  obtain ⟨a531, rfl, rfl, h530⟩ := h529
                  refine j_callVi C (d := 5) (As := [.ref (ad v526), .ref (ad 15), .long (sJ a531)]) (st := [.int (sI 0)]) 87 (s_lt rfl rfl) (s_kc (c := 1) rfl rfl) (by decide) rfl (s1_X1_carryOut hM517 hpr cv526 rfl a531 (by omega)) gX11_judge_X1_carryOut rfl hdX1_carryOut (by decide) (Nat.le_of_ble_eq_true rfl) dX11_judge_89 rfl (fun r532 M533 h534 => ?_)
                  obtain ⟨a536, rfl, hM533, h535⟩ := h534
                  refine y_mmin C wX11_judge_246_0 wX11_judge_246_1 wX11_judge_246_2 wX11_judge_246_3 (by decide) (Nat.le_of_ble_eq_true rfl) dX11_judge_92 (by omega) (fun a537 ha537 => ?_)
                  refine j_istore C 4 [(4, .int (sI a537)), (0, .ref (ad 0)), (2, .int (sI a2)), (3, .ref (ad v109)), (5, .int (sI a515)), (6, .int (sI a516))] dX11_judge_95 (by decide) rfl ?_
                  refine j_iload C 5 dX11_judge_97 rfl ?_
                  refine j_istore C 5 [(5, .int (sI a516)), (4, .int (sI a537)), (0, .ref (ad 0)), (2, .int (sI a2)), (3, .ref (ad v109)), (6, .int (sI a516))] dX11_judge_99 (by decide) rfl ?_
                  refine y_iinc C 5 [(6, .int (sI (a516 + 1))), (5, .int (sI a516)), (4, .int (sI a537)), (0, .ref (ad 0)), (2, .int (sI a2)), (3, .ref (ad v109))] dX11_judge_101 rfl (by decide) rfl ?_
                  refine j_goto C 56 dX11_judge_104 (by decide) ?_
                  refine j_lv [3, 4, 5, 2, 1, 0] rfl ?_; exact ih512 a537 a516 (a516 + 1) M533 (by omega) hM533
          refine j_lv [4, 6, 3, 2, 1, 0] rfl ?_; exact L513 4294967306 0 0 0 M117 (by omega) hM117
        · refine y_bipush C dX11_judge_33 rfl ?_
          exact hret _ _ _ _ dX11_judge_35 ⟨(-6), rfl, hM0, by omega⟩
      · refine y_bipush C dX11_judge_16 rfl ?_
        exact hret _ _ _ _ dX11_judge_18 ⟨(-2), rfl, hM0, by omega⟩
set_option maxHeartbeats 4000000 in
theorem s1_X11_trayRefusal {l : Launch} {dC : Nat → ClassId} {dI : Nat → Nat → Nat} {ad : Nat → Nat} {cA : Nat → ClassId} {pr : Nat → Nat → Bool} {Kz : mm_M} {M0 : mm_M} (hM0 : INV pr Kz M0) (a1 : Int) (ha1 : -2147483648 ≤ a1 ∧ a1 ≤ 2147483647) : Ci l 1 yX11_trayRefusal wsX11_trayRefusal dC dI ad cA [.ref (ad 0), .int (sI a1)] M0 (fun r M' => ∃ a : Int, r = sI a ∧ M0 = M' ∧ (-6) ≤ a ∧ a ≤ 0 ∧ ((0 ≤ a1 ∧ a1 < 4 ∧ a = 0) ∨ (0 ≤ a1 ∧ a1 < 4 ∧ a = (-6)) ∨ (a = (-2)))) := by
  refine ci_of (cc := cX11_trayRefusal) (maxL := 2) (ty := .int) (lv := [(0, .ref (ad 0)), (1, .int (sI a1))]) (by decide) rfl (fun r M' hp => rfl) (Nat.le_of_ble_eq_true rfl) rfl ?_
  intro p e s m args below meth c A Q C hret
  refine j_iload_n C 1 1 dX11_trayRefusal_0 rfl rfl ?_
  refine j_callSi C (d := 0) (As := [.int (sI a1)]) (st := []) (s1_X11_isTray hM0 a1 (by omega)) gX11_trayRefusal_X11_isTray rfl hdX11_isTrays (by decide) (Nat.le_of_ble_eq_true rfl) dX11_trayRefusal_1 rfl (fun r101 M102 h103 => ?_)
  obtain ⟨a105, rfl, rfl, h104⟩ := h103
  refine y_if_ne C 10 dX11_trayRefusal_4 (by decide) (by omega) (fun h106 => ?_) (fun h106 => ?_)
  · refine j_aload_n C 0 0 dX11_trayRefusal_10 rfl rfl ?_
    refine y_getC C 10 50 fX11_trayRefusal_52 rfl rfl ft_10_9 sm_10_9 rfl hM0 dX11_trayRefusal_11 ?_
    refine j_iload_n C 1 1 dX11_trayRefusal_14 rfl rfl ?_
    refine y_aald C 28 4 9 rfl rfl rfl rfl an_28 rfl sma_28 sta_28 (by decide) hM0 dX11_trayRefusal_15 (by omega) (fun v107 cv107 => ?_)
    refine j_callVi C (d := 0) (As := []) (st := []) v107 (s_lt cv107 rfl) (s_kc (c := 9) cv107 rfl) (by decide) rfl (s1_X10_isMissing hM0 cv107) gX11_trayRefusal_X10_isMissing rfl hdX10_isMissing (by decide) (Nat.le_of_ble_eq_true rfl) dX11_trayRefusal_16 rfl (fun r108 M109 h110 => ?_)
    obtain ⟨a112, rfl, rfl, h111⟩ := h110
    refine y_if_eq C 27 dX11_trayRefusal_19 (by decide) (by omega) (fun h113 => ?_) (fun h113 => ?_)
    · refine y_iconst C dX11_trayRefusal_27 ?_
      exact hret _ _ _ _ dX11_trayRefusal_28 ⟨0, rfl, rfl, by omega⟩
    · refine y_bipush C dX11_trayRefusal_22 rfl ?_
      refine j_goto C 28 dX11_trayRefusal_24 (by decide) ?_
      exact hret _ _ _ _ dX11_trayRefusal_28 ⟨(-6), rfl, rfl, by omega⟩
  · refine y_bipush C dX11_trayRefusal_7 rfl ?_
    exact hret _ _ _ _ dX11_trayRefusal_9 ⟨(-2), rfl, rfl, by omega⟩
set_option maxHeartbeats 4000000 in
theorem s1_X11_perform {l : Launch} {dC : Nat → ClassId} {dI : Nat → Nat → Nat} {ad : Nat → Nat} {cA : Nat → ClassId} {pr : Nat → Nat → Bool} {Kz : mm_M} {M0 : mm_M} (hM0 : INV pr Kz M0) (hpr : PX pr) (hq8_0 : ∀ i, s_c i = 8 → pr i 0 = false) (a1 : Int) (ha1 : -2147483648 ≤ a1 ∧ a1 ≤ 2147483647) : Ci l 6 yX11_perform wsX11_perform dC dI ad cA [.ref (ad 0), .int (sI a1)] M0 (fun r M' => ∃ a : Int, r = sI a ∧ INV pr Kz M' ∧ (-6) ≤ a ∧ a ≤ 40) := by
  refine ci_of (cc := cX11_perform) (maxL := 6) (ty := .int) (lv := [(0, .ref (ad 0)), (1, .int (sI a1))]) (by decide) rfl (fun r M' hp => rfl) (Nat.le_of_ble_eq_true rfl) rfl ?_
  intro p e s m args below meth c A Q C hret
  refine j_aload_n C 0 0 dX11_perform_0 rfl rfl ?_
  refine j_iload_n C 1 1 dX11_perform_1 rfl rfl ?_
  refine j_callVi C (d := 1) (As := [.int (sI a1)]) (st := []) 0 (s_lt rfl rfl) (s_kc (c := 10) rfl rfl) (by decide) rfl (s1_X11_trayRefusal hM0 a1 (by omega)) gX11_perform_X11_trayRefusal rfl hdX11_trayRefusal (by decide) (Nat.le_of_ble_eq_true rfl) dX11_perform_2 rfl (fun r101 M102 h103 => ?_)
  obtain ⟨a105, rfl, rfl, h104⟩ := h103
  refine j_istore_n C 2 [(2, .int (sI a105)), (0, .ref (ad 0)), (1, .int (sI a1))] dX11_perform_5 rfl (by decide) rfl ?_
  refine j_iload_n C 0 2 dX11_perform_6 rfl rfl ?_
  refine y_if_eq C 12 dX11_perform_7 (by decide) (by omega) (fun h106 => ?_) (fun h106 => ?_)
  · refine j_aload_n C 1 0 dX11_perform_12 rfl rfl ?_
    refine y_getC C 10 50 fX11_perform_52 rfl rfl ft_10_9 sm_10_9 rfl hM0 dX11_perform_13 ?_
    refine j_iload_n C 2 1 dX11_perform_16 rfl rfl ?_
    refine y_aald C 28 4 9 rfl rfl rfl rfl an_28 rfl sma_28 sta_28 (by decide) hM0 dX11_perform_17 (by omega) (fun v107 cv107 => ?_)
    refine j_astore_n C 3 [(3, .ref (ad v107)), (2, .int (sI a105)), (0, .ref (ad 0)), (1, .int (sI a1))] dX11_perform_18 rfl (by decide) rfl ?_
    refine j_aload_n C 2 0 dX11_perform_19 rfl rfl ?_
    refine y_getC C 10 15 fX11_perform_40 rfl rfl ft_10_7 sm_10_7 rfl hM0 dX11_perform_20 ?_
    refine j_aload_n C 2 0 dX11_perform_23 rfl rfl ?_
    refine y_getC C 10 12 fX11_perform_36 rfl rfl ft_10_6 sm_10_6 rfl hM0 dX11_perform_24 ?_
    refine j_callVv C (d := 0) (As := [.ref (ad 12)]) (st := []) 15 (s_lt rfl rfl) (s_kc (c := 8) rfl rfl) (by decide) rfl (s1_X9_copyFrom hM0 hpr hq8_0 rfl rfl) gX11_perform_X9_copyFrom rfl hdX9_copyFrom (by decide) (Nat.le_of_ble_eq_true rfl) dX11_perform_27 rfl (fun M109 h110 => ?_)
    have hM109 := h110
    refine y_iconst C dX11_perform_30 ?_
    refine j_istore C 4 [(4, .int (sI 0)), (3, .ref (ad v107)), (2, .int (sI a105)), (0, .ref (ad 0)), (1, .int (sI a1))] dX11_perform_31 (by decide) rfl ?_
    refine y_iconst C dX11_perform_33 ?_
    refine j_istore C 5 [(5, .int (sI 0)), (4, .int (sI 0)), (3, .ref (ad v107)), (2, .int (sI a105)), (0, .ref (ad 0)), (1, .int (sI a1))] dX11_perform_34 (by decide) rfl ?_
    have X514 : ∀ (a512 : Int) (M513 : mm_M), (0 ≤ a512 ∧ a512 ≤ 40) → INV pr Kz M513 → jj p l e (cn_R 6) s m args below meth c 0 0 Q 6 dC dI ad cA A M513 85 [(0, .ref (ad 0)), (4, .int (sI a512))] [] := by
      intro a512 M513 h515 hM513
      refine j_iload C 1 dX11_perform_85 rfl ?_
      refine y_if_le C 101 dX11_perform_87 (by decide) (by omega) (fun h516 => ?_) (fun h516 => ?_)
      · refine j_iload C 1 dX11_perform_101 rfl ?_
        exact hret _ _ _ _ dX11_perform_103 ⟨a512, rfl, hM513, by omega⟩
      · refine j_aload_n C 0 0 dX11_perform_90 rfl rfl ?_
        refine y_getC C 10 18 fX11_perform_46 rfl rfl ft_10_8 sm_10_8 rfl hM513 dX11_perform_91 ?_
        refine j_aload_n C 0 0 dX11_perform_94 rfl rfl ?_
        refine y_getC C 10 15 fX11_perform_40 rfl rfl ft_10_7 sm_10_7 rfl hM513 dX11_perform_95 ?_
        refine j_callVv C (d := 1) (As := [.ref (ad 15)]) (st := []) 18 (s_lt rfl rfl) (s_kc (c := 5) rfl rfl) (by decide) rfl (s1_X6_keep hM513 hpr hq8_0 rfl) gX11_perform_X6_keep rfl hdX6_keep (by decide) (Nat.le_of_ble_eq_true rfl) dX11_perform_98 rfl (fun M518 h519 => ?_)
        have hM518 := h519
        refine j_iload C 1 dX11_perform_101 rfl ?_
        exact hret _ _ _ _ dX11_perform_103 ⟨a512, rfl, hM518, by omega⟩
    have L488 : ∀ (n486 : Nat), ∀ (a489 : Int) (a490 : Int) (M491 : mm_M), (0 ≤ a489 ∧ a489 ≤ 40 ∧ 0 ≤ a490 ∧ a490 ≤ 40 ∧ (40 - a490) < (n486 : Int)) → INV pr Kz M491 → jj p l e (cn_R 6) s m args below meth c 0 0 Q 6 dC dI ad cA A M491 36 [(0, .ref (ad 0)), (3, .ref (ad v107)), (4, .int (sI a489)), (5, .int (sI a490))] [] := by
      intro n486
      induction n486 with
      | zero =>
        intro a489 a490 M491 h492 hM491
        exfalso; omega
      | succ n486 ih487 =>
        intro a489 a490 M491 h492 hM491
        refine j_iload C 3 dX11_perform_36 rfl ?_
        refine j_aload_n C 1 3 dX11_perform_38 rfl rfl ?_
        refine j_callVi C (d := 1) (As := []) (st := [.int (sI a490)]) v107 (s_lt cv107 rfl) (s_kc (c := 9) cv107 rfl) (by decide) rfl (s1_X10_size hM491 cv107) gX11_perform_X10_size rfl hdX10_size (by decide) (Nat.le_of_ble_eq_true rfl) dX11_perform_39 rfl (fun r493 M494 h495 => ?_)
        obtain ⟨a497, rfl, rfl, h496⟩ := h495
        refine y_icmp_ge C 85 dX11_perform_42 (by decide) (by omega) (fun h498 => ?_) (fun h498 => ?_)
        · refine j_lv [0, 2] rfl ?_; exact X514 a489 M491 (by omega) hM491
        · refine j_iload C 2 dX11_perform_45 rfl ?_
          refine j_iload C 3 dX11_perform_47 rfl ?_
          refine y_icmp_ne C 85 dX11_perform_49 (by decide) (by omega) (fun h499 => ?_) (fun h499 => ?_)
          · refine j_lv [0, 2] rfl ?_; exact X514 a489 M491 (by omega) hM491
          · refine j_aload_n C 0 0 dX11_perform_52 rfl rfl ?_
            refine y_getC C 10 87 fX11_perform_85 rfl rfl ft_10_13 sm_10_13 rfl hM491 dX11_perform_53 ?_
            refine j_aload_n C 0 0 dX11_perform_56 rfl rfl ?_
            refine y_getM C 10 6 fX11_perform_26 rfl rfl ft_10_4 sm_10_4 (by decide) hM491 dX11_perform_57 (fun v500 ev500 cv500 => ?_)
            refine j_aload_n C 0 0 dX11_perform_60 rfl rfl ?_
            refine y_getC C 10 12 fX11_perform_36 rfl rfl ft_10_6 sm_10_6 rfl hM491 dX11_perform_61 ?_
            refine j_aload_n C 1 3 dX11_perform_64 rfl rfl ?_
            refine j_iload C 3 dX11_perform_65 rfl ?_
            refine j_callVj C (d := 1) (As := [.int (sI a490)]) (st := [.ref (ad 12), .ref (ad v500), .ref (ad 87)]) v107 (s_lt cv107 rfl) (s_kc (c := 9) cv107 rfl) (by decide) rfl (s1_X10_numberAt hM491 cv107 a490 (by omega)) gX11_perform_X10_numberAt rfl hdX10_numberAt (by decide) (Nat.le_of_ble_eq_true rfl) dX11_perform_67 rfl (fun r501 M502 h503 => ?_)
            obtain ⟨a505, rfl, rfl, h504⟩ := h503
            refine j_callVi C (d := 5) (As := [.ref (ad v500), .ref (ad 12), .long (sJ a505)]) (st := []) 87 (s_lt rfl rfl) (s_kc (c := 1) rfl rfl) (by decide) rfl (s1_X1_carryOut hM491 hpr cv500 rfl a505 (by omega)) gX11_perform_X1_carryOut rfl hdX1_carryOut (by decide) (Nat.le_of_ble_eq_true rfl) dX11_perform_70 rfl (fun r506 M507 h508 => ?_)
            obtain ⟨a510, rfl, hM507, h509⟩ := h508
            refine y_if_lt C 79 dX11_perform_73 (by decide) (by omega) (fun h511 => ?_) (fun h511 => ?_)
            · refine y_iinc C 3 [(5, .int (sI (a490 + 1))), (0, .ref (ad 0)), (3, .ref (ad v107)), (4, .int (sI a489))] dX11_perform_79 rfl (by decide) rfl ?_
              refine j_goto C 36 dX11_perform_82 (by decide) ?_
              refine j_lv [1, 2, 3, 0] rfl ?_; exact ih487 a489 (a490 + 1) M507 (by omega) hM507
            · refine y_iinc C 2 [(4, .int (sI (a489 + 1))), (0, .ref (ad 0)), (3, .ref (ad v107)), (5, .int (sI a490))] dX11_perform_76 rfl (by decide) rfl ?_
              refine y_iinc C 3 [(5, .int (sI (a490 + 1))), (4, .int (sI (a489 + 1))), (0, .ref (ad 0)), (3, .ref (ad v107))] dX11_perform_79 rfl (by decide) rfl ?_
              refine j_goto C 36 dX11_perform_82 (by decide) ?_
              refine j_lv [2, 3, 1, 0] rfl ?_; exact ih487 (a489 + 1) (a490 + 1) M507 (by omega) hM507
    refine j_lv [4, 2, 1, 0] rfl ?_; exact L488 2010 0 0 M109 (by omega) hM109
  · refine j_iload_n C 0 2 dX11_perform_10 rfl rfl ?_
    exact hret _ _ _ _ dX11_perform_11 ⟨a105, rfl, hM0, by omega⟩
set_option maxHeartbeats 4000000 in
theorem s1_X1_drawDeed {l : Launch} {dC : Nat → ClassId} {dI : Nat → Nat → Nat} {ad : Nat → Nat} {cA : Nat → ClassId} {pr : Nat → Nat → Bool} {Kz : mm_M} {M0 : mm_M} (hM0 : INV pr Kz M0) (hpr : PX pr) {v1 : Nat} (cv1 : s_c v1 = 8) : Ci l 1 yX1_drawDeed wsX1_drawDeed dC dI ad cA [.ref (ad 87), .ref (ad v1)] M0 (fun r M' => ∃ a : Int, r = sI a ∧ INV pr Kz M' ∧ (-2147483648) ≤ a ∧ a ≤ 2147483647) := by
  refine ci_of (cc := cX1_drawDeed) (maxL := 2) (ty := .int) (lv := [(0, .ref (ad 87)), (1, .ref (ad v1))]) (by decide) rfl (fun r M' hp => rfl) (Nat.le_of_ble_eq_true rfl) rfl ?_
  intro p e s m args below meth c A Q C hret
  refine j_aload_n C 1 1 dX1_drawDeed_0 rfl rfl ?_
  refine j_callVi C (d := 0) (As := []) (st := []) v1 (s_lt cv1 rfl) (s_kc (c := 8) cv1 rfl) (by decide) rfl (s1_X9_draw hM0 hpr cv1) gX1_drawDeed_X9_draw rfl hdX9_draw (by decide) (Nat.le_of_ble_eq_true rfl) dX1_drawDeed_1 rfl (fun r101 M102 h103 => ?_)
  obtain ⟨a105, rfl, hM102, h104⟩ := h103
  refine y_iconst C dX1_drawDeed_4 ?_
  refine y_irem C dX1_drawDeed_5 (by omega) ?_
  rcases (show ((a105 % 5) < 2 ∨ 4 < (a105 % 5)) ∨ (a105 % 5) = 2 ∨ (a105 % 5) = 3 ∨ (a105 % 5) = 4 by omega) with h106 | h106 | h106 | h106
  · refine y_tabO C 63 dX1_drawDeed_6 (by decide) (by omega) ?_
    refine y_iconst C dX1_drawDeed_63 ?_
    exact hret _ _ _ _ dX1_drawDeed_64 ⟨(-1), rfl, hM102, by omega⟩
  · refine y_tabI C (off := 26) 32 2 dX1_drawDeed_6 (by decide) rfl (by decide) h106 ?_
    refine j_aload_n C 1 1 dX1_drawDeed_32 rfl rfl ?_
    refine j_callVi C (d := 0) (As := []) (st := []) v1 (s_lt cv1 rfl) (s_kc (c := 8) cv1 rfl) (by decide) rfl (s1_X9_draw hM102 hpr cv1) gX1_drawDeed_X9_draw rfl hdX9_draw (by decide) (Nat.le_of_ble_eq_true rfl) dX1_drawDeed_33 rfl (fun r107 M108 h109 => ?_)
    obtain ⟨a111, rfl, hM108, h110⟩ := h109
    refine y_bipush C dX1_drawDeed_36 rfl ?_
    refine y_irem C dX1_drawDeed_38 (by omega) ?_
    exact hret _ _ _ _ dX1_drawDeed_39 ⟨(a111 % 6), rfl, hM108, by omega⟩
  · refine y_tabI C (off := 34) 40 3 dX1_drawDeed_6 (by decide) rfl (by decide) h106 ?_
    refine y_bipush C dX1_drawDeed_40 rfl ?_
    refine j_aload_n C 1 1 dX1_drawDeed_42 rfl rfl ?_
    refine j_callVi C (d := 0) (As := []) (st := [.int (sI 100)]) v1 (s_lt cv1 rfl) (s_kc (c := 8) cv1 rfl) (by decide) rfl (s1_X9_draw hM102 hpr cv1) gX1_drawDeed_X9_draw rfl hdX9_draw (by decide) (Nat.le_of_ble_eq_true rfl) dX1_drawDeed_43 rfl (fun r112 M113 h114 => ?_)
    obtain ⟨a116, rfl, hM113, h115⟩ := h114
    refine y_bipush C dX1_drawDeed_46 rfl ?_
    refine y_irem C dX1_drawDeed_48 (by omega) ?_
    refine y_iadd0 C dX1_drawDeed_49 (fun a117 la117 ua117 => ?_)
    exact hret _ _ _ _ dX1_drawDeed_50 ⟨a117, rfl, hM113, by omega⟩
  · refine y_tabI C (off := 45) 51 4 dX1_drawDeed_6 (by decide) rfl (by decide) h106 ?_
    refine y_sipush C dX1_drawDeed_51 rfl ?_
    refine j_aload_n C 1 1 dX1_drawDeed_54 rfl rfl ?_
    refine j_callVi C (d := 0) (As := []) (st := [.int (sI 200)]) v1 (s_lt cv1 rfl) (s_kc (c := 8) cv1 rfl) (by decide) rfl (s1_X9_draw hM102 hpr cv1) gX1_drawDeed_X9_draw rfl hdX9_draw (by decide) (Nat.le_of_ble_eq_true rfl) dX1_drawDeed_55 rfl (fun r118 M119 h120 => ?_)
    obtain ⟨a122, rfl, hM119, h121⟩ := h120
    refine y_bipush C dX1_drawDeed_58 rfl ?_
    refine y_irem C dX1_drawDeed_60 (by omega) ?_
    refine y_iadd0 C dX1_drawDeed_61 (fun a123 la123 ua123 => ?_)
    exact hret _ _ _ _ dX1_drawDeed_62 ⟨a123, rfl, hM119, by omega⟩
set_option maxHeartbeats 4000000 in
theorem s1_X11_season {l : Launch} {dC : Nat → ClassId} {dI : Nat → Nat → Nat} {ad : Nat → Nat} {cA : Nat → ClassId} {pr : Nat → Nat → Bool} {Kz : mm_M} {M0 : mm_M} (hM0 : INV pr Kz M0) (hpr : PX pr) (hq8_0 : ∀ i, s_c i = 8 → pr i 0 = false) (a1 : Int) (ha1 : -2147483648 ≤ a1 ∧ a1 ≤ 2147483647) (a2 : Int) (ha2 : -2147483648 ≤ a2 ∧ a2 ≤ 2147483647) : Ci l 6 yX11_season wsX11_season dC dI ad cA [.ref (ad 0), .int (sI a1), .int (sI a2)] M0 (fun r M' => ∃ a : Int, r = sI a ∧ INV pr Kz M' ∧ (-3) ≤ a ∧ a ≤ 40) := by
  refine ci_of (cc := cX11_season) (maxL := 5) (ty := .int) (lv := [(0, .ref (ad 0)), (1, .int (sI a1)), (2, .int (sI a2))]) (by decide) rfl (fun r M' hp => rfl) (Nat.le_of_ble_eq_true rfl) rfl ?_
  intro p e s m args below meth c A Q C hret
  refine j_iload_n C 2 2 dX11_season_0 rfl rfl ?_
  refine y_iconst C dX11_season_1 ?_
  refine y_icmp_lt C 11 dX11_season_2 (by decide) (by omega) (fun h101 => ?_) (fun h101 => ?_)
  · refine y_bipush C dX11_season_11 rfl ?_
    exact hret _ _ _ _ dX11_season_13 ⟨(-3), rfl, hM0, by omega⟩
  · refine j_iload_n C 2 2 dX11_season_5 rfl rfl ?_
    refine y_bipush C dX11_season_6 rfl ?_
    refine y_icmp_le C 14 dX11_season_8 (by decide) (by omega) (fun h102 => ?_) (fun h102 => ?_)
    · refine j_aload_n C 0 0 dX11_season_14 rfl rfl ?_
      refine y_getC C 10 15 fX11_season_40 rfl rfl ft_10_7 sm_10_7 rfl hM0 dX11_season_15 ?_
      refine j_aload_n C 0 0 dX11_season_18 rfl rfl ?_
      refine y_getC C 10 12 fX11_season_36 rfl rfl ft_10_6 sm_10_6 rfl hM0 dX11_season_19 ?_
      refine j_callVv C (d := 0) (As := [.ref (ad 12)]) (st := []) 15 (s_lt rfl rfl) (s_kc (c := 8) rfl rfl) (by decide) rfl (s1_X9_copyFrom hM0 hpr hq8_0 rfl rfl) gX11_season_X9_copyFrom rfl hdX9_copyFrom (by decide) (Nat.le_of_ble_eq_true rfl) dX11_season_22 rfl (fun M104 h105 => ?_)
      have hM104 := h105
      refine j_aload_n C 0 0 dX11_season_25 rfl rfl ?_
      refine y_getC C 10 12 fX11_season_36 rfl rfl ft_10_6 sm_10_6 rfl hM104 dX11_season_26 ?_
      refine j_iload_n C 1 1 dX11_season_29 rfl rfl ?_
      refine y_putIF C 8 qX11_season_195 rfl rfl ft_8_8 sb_8_8 hM104 (PX.w hpr rfl rfl) dX11_season_30 (fun M107 eM107 hM107 => ?_)
      refine y_iconst C dX11_season_33 ?_
      refine j_istore_n C 3 [(3, .int (sI 0)), (0, .ref (ad 0)), (1, .int (sI a1)), (2, .int (sI a2))] dX11_season_34 rfl (by decide) rfl ?_
      refine y_iconst C dX11_season_35 ?_
      refine j_istore C 4 [(4, .int (sI 0)), (3, .int (sI 0)), (0, .ref (ad 0)), (1, .int (sI a1)), (2, .int (sI a2))] dX11_season_36 (by decide) rfl ?_
      have L382 : ∀ (n380 : Nat), ∀ (a383 : Int) (a384 : Int) (M385 : mm_M), (0 ≤ a383 ∧ a383 ≤ 40 ∧ 0 ≤ a384 ∧ a384 ≤ 40 ∧ (a383 ≤ a384) ∧ (40 - a384) < (n380 : Int)) → INV pr Kz M385 → jj p l e (cn_R 6) s m args below meth c 0 0 Q 5 dC dI ad cA A M385 38 [(0, .ref (ad 0)), (2, .int (sI a2)), (3, .int (sI a383)), (4, .int (sI a384))] [] := by
        intro n380
        induction n380 with
        | zero =>
          intro a383 a384 M385 h386 hM385
          exfalso; omega
        | succ n380 ih381 =>
          intro a383 a384 M385 h386 hM385
          refine j_iload C 3 dX11_season_38 rfl ?_
          refine j_iload_n C 1 2 dX11_season_40 rfl rfl ?_
          refine y_icmp_ge C 83 dX11_season_41 (by decide) (by omega) (fun h387 => ?_) (fun h387 => ?_)
          · refine j_iload_n C 2 3 dX11_season_83 rfl rfl ?_
            refine y_if_ne C 101 dX11_season_84 (by decide) (by omega) (fun h400 => ?_) (fun h400 => ?_)
            · refine j_aload_n C 0 0 dX11_season_101 rfl rfl ?_
              refine y_getC C 10 18 fX11_season_46 rfl rfl ft_10_8 sm_10_8 rfl hM385 dX11_season_102 ?_
              refine j_aload_n C 0 0 dX11_season_105 rfl rfl ?_
              refine y_getC C 10 15 fX11_season_40 rfl rfl ft_10_7 sm_10_7 rfl hM385 dX11_season_106 ?_
              refine j_callVv C (d := 1) (As := [.ref (ad 15)]) (st := []) 18 (s_lt rfl rfl) (s_kc (c := 5) rfl rfl) (by decide) rfl (s1_X6_keep hM385 hpr hq8_0 rfl) gX11_season_X6_keep rfl hdX6_keep (by decide) (Nat.le_of_ble_eq_true rfl) dX11_season_109 rfl (fun M402 h403 => ?_)
              have hM402 := h403
              refine j_iload_n C 2 3 dX11_season_112 rfl rfl ?_
              exact hret _ _ _ _ dX11_season_113 ⟨a383, rfl, hM402, by omega⟩
            · refine j_aload_n C 0 0 dX11_season_87 rfl rfl ?_
              refine y_getC C 10 12 fX11_season_36 rfl rfl ft_10_6 sm_10_6 rfl hM385 dX11_season_88 ?_
              refine j_aload_n C 0 0 dX11_season_91 rfl rfl ?_
              refine y_getC C 10 15 fX11_season_40 rfl rfl ft_10_7 sm_10_7 rfl hM385 dX11_season_92 ?_
              refine j_callVv C (d := 0) (As := [.ref (ad 15)]) (st := []) 12 (s_lt rfl rfl) (s_kc (c := 8) rfl rfl) (by decide) rfl (s1_X9_copyFrom hM385 hpr hq8_0 rfl rfl) gX11_season_X9_copyFrom rfl hdX9_copyFrom (by decide) (Nat.le_of_ble_eq_true rfl) dX11_season_95 rfl (fun M406 h407 => ?_)
              have hM406 := h407
              refine j_goto C 112 dX11_season_98 (by decide) ?_
              refine j_iload_n C 2 3 dX11_season_112 rfl rfl ?_
              exact hret _ _ _ _ dX11_season_113 ⟨a383, rfl, hM406, by omega⟩
          · refine j_aload_n C 0 0 dX11_season_44 rfl rfl ?_
            refine y_getC C 10 87 fX11_season_85 rfl rfl ft_10_13 sm_10_13 rfl hM385 dX11_season_45 ?_
            refine j_aload_n C 0 0 dX11_season_48 rfl rfl ?_
            refine y_getM C 10 6 fX11_season_26 rfl rfl ft_10_4 sm_10_4 (by decide) hM385 dX11_season_49 (fun v388 ev388 cv388 => ?_)
            refine j_aload_n C 0 0 dX11_season_52 rfl rfl ?_
            refine y_getC C 10 12 fX11_season_36 rfl rfl ft_10_6 sm_10_6 rfl hM385 dX11_season_53 ?_
            refine j_aload_n C 0 0 dX11_season_56 rfl rfl ?_
            refine y_getC C 10 87 fX11_season_85 rfl rfl ft_10_13 sm_10_13 rfl hM385 dX11_season_57 ?_
            refine j_aload_n C 0 0 dX11_season_60 rfl rfl ?_
            refine y_getC C 10 12 fX11_season_36 rfl rfl ft_10_6 sm_10_6 rfl hM385 dX11_season_61 ?_
            refine j_callVi C (d := 1) (As := [.ref (ad 12)]) (st := [.ref (ad 12), .ref (ad v388), .ref (ad 87)]) 87 (s_lt rfl rfl) (s_kc (c := 1) rfl rfl) (by decide) rfl (s1_X1_drawDeed hM385 hpr rfl) gX11_season_X1_drawDeed rfl hdX1_drawDeed (by decide) (Nat.le_of_ble_eq_true rfl) dX11_season_64 rfl (fun r389 M390 h391 => ?_)
            obtain ⟨a393, rfl, hM390, h392⟩ := h391
            refine y_i2l C dX11_season_67 (by omega) ?_
            refine j_callVi C (d := 5) (As := [.ref (ad v388), .ref (ad 12), .long (sJ a393)]) (st := []) 87 (s_lt rfl rfl) (s_kc (c := 1) rfl rfl) (by decide) rfl (s1_X1_carryOut hM390 hpr cv388 rfl a393 (by omega)) gX11_season_X1_carryOut rfl hdX1_carryOut (by decide) (Nat.le_of_ble_eq_true rfl) dX11_season_68 rfl (fun r394 M395 h396 => ?_)
            obtain ⟨a398, rfl, hM395, h397⟩ := h396
            refine y_if_lt C 77 dX11_season_71 (by decide) (by omega) (fun h399 => ?_) (fun h399 => ?_)
            · refine y_iinc C 3 [(4, .int (sI (a384 + 1))), (0, .ref (ad 0)), (2, .int (sI a2)), (3, .int (sI a383))] dX11_season_77 rfl (by decide) rfl ?_
              refine j_goto C 38 dX11_season_80 (by decide) ?_
              refine j_lv [1, 2, 3, 0] rfl ?_; exact ih381 a383 (a384 + 1) M395 (by omega) hM395
            · refine y_iinc C 2 [(3, .int (sI (a383 + 1))), (0, .ref (ad 0)), (2, .int (sI a2)), (4, .int (sI a384))] dX11_season_74 rfl (by decide) rfl ?_
              refine y_iinc C 3 [(4, .int (sI (a384 + 1))), (3, .int (sI (a383 + 1))), (0, .ref (ad 0)), (2, .int (sI a2))] dX11_season_77 rfl (by decide) rfl ?_
              refine j_goto C 38 dX11_season_80 (by decide) ?_
              refine j_lv [2, 3, 1, 0] rfl ?_; exact ih381 (a383 + 1) (a384 + 1) M395 (by omega) hM395
      refine j_lv [2, 4, 1, 0] rfl ?_; exact L382 2010 0 0 M107 (by omega) hM107
    · refine y_bipush C dX11_season_11 rfl ?_
      exact hret _ _ _ _ dX11_season_13 ⟨(-3), rfl, hM0, by omega⟩
set_option maxHeartbeats 4000000 in
theorem s1_X5_aim {l : Launch} {dC : Nat → ClassId} {dI : Nat → Nat → Nat} {ad : Nat → Nat} {cA : Nat → ClassId} {pr : Nat → Nat → Bool} {Kz : mm_M} {M0 : mm_M} (hM0 : INV pr Kz M0) (hpr : PX pr) {v1 : Nat} (cv1 : s_c v1 = 6) {v2 : Nat} (cv2 : s_c v2 = 8) (a3 : Int) (ha3 : -2147483648 ≤ a3 ∧ a3 ≤ 2147483647) : Cv l 1 yX5_aim wsX5_aim dC dI ad cA [.ref (ad 88), .ref (ad v1), .ref (ad v2), .int (sI a3)] M0 (fun M' => INV pr Kz M') := by
  refine cv_of (cc := cX5_aim) (maxL := 4) (lv := [(0, .ref (ad 88)), (1, .ref (ad v1)), (2, .ref (ad v2)), (3, .int (sI a3))]) (by decide) rfl (Nat.le_of_ble_eq_true rfl) rfl ?_
  intro p e s m args below meth c A Q C hret
  refine j_aload_n C 0 0 dX5_aim_0 rfl rfl ?_
  refine j_aload_n C 1 1 dX5_aim_1 rfl rfl ?_
  refine y_putP C 4 6 qX5_aim_52 rfl rfl rfl rfl ft_4_9 sm_4_9 (by decide) hM0 (PX.w hpr rfl rfl) cv1 dX5_aim_2 (fun M101 eM101 hM101 => ?_)
  refine j_aload_n C 0 0 dX5_aim_5 rfl rfl ?_
  refine j_aload_n C 2 2 dX5_aim_6 rfl rfl ?_
  refine y_putP C 4 8 qX5_aim_56 rfl rfl rfl rfl ft_4_10 sm_4_10 (by decide) hM101 (PX.w hpr rfl rfl) cv2 dX5_aim_7 (fun M102 eM102 hM102 => ?_)
  refine j_aload_n C 0 0 dX5_aim_10 rfl rfl ?_
  refine j_aload_n C 0 0 dX5_aim_11 rfl rfl ?_
  refine y_getV C 4 v2 fX5_aim_56 rfl rfl ft_4_10 (s_pW eM102) dX5_aim_12 ?_
  refine j_callVi C (d := 0) (As := []) (st := [.ref (ad 88)]) v2 (s_lt cv2 rfl) (s_kc (c := 8) cv2 rfl) (by decide) rfl (s1_X9_everyKind hM102 cv2) gX5_aim_X9_everyKind rfl hdX9_everyKind (by decide) (Nat.le_of_ble_eq_true rfl) dX5_aim_15 rfl (fun r103 M104 h105 => ?_)
  obtain ⟨a107, rfl, rfl, h106⟩ := h105
  refine y_putI C 4 _ _ qX5_aim_38 rfl rfl ft_4_11 sb_4_11 hM102 (PX.w hpr rfl rfl) dX5_aim_18 (by omega) (fun M108 eM108 hM108 => ?_)
  refine j_aload_n C 0 0 dX5_aim_21 rfl rfl ?_
  refine j_aload_n C 0 0 dX5_aim_22 rfl rfl ?_
  refine y_getI C 4 _ _ fX5_aim_38 rfl rfl ft_4_11 sb_4_11 hM108 dX5_aim_23 (fun a109 ea109 la109 ua109 => ?_)
  refine j_iload_n C 3 3 dX5_aim_26 rfl rfl ?_
  refine y_iconst C dX5_aim_27 ?_
  refine y_not C dX5_aim_28 ?_
  refine y_iandL C dX5_aim_29 (by omega) (fun a111 la111 ua111 => ?_)
  refine y_putI C 4 _ _ qX5_aim_42 rfl rfl ft_4_12 sb_4_12 hM108 (PX.w hpr rfl rfl) dX5_aim_30 (by omega) (fun M112 eM112 hM112 => ?_)
  refine j_aload_n C 0 0 dX5_aim_33 rfl rfl ?_
  refine j_aload_n C 0 0 dX5_aim_34 rfl rfl ?_
  refine y_getV C 4 v2 fX5_aim_56 rfl rfl ft_4_10 (s_pI eM112 (s_pI eM108 (s_pW eM102))) dX5_aim_35 ?_
  refine y_getI C 8 _ _ fX5_aim_66 cv2 rfl ft_8_3 sb_8_3 hM112 dX5_aim_38 (fun a113 ea113 la113 ua113 => ?_)
  refine j_aload_n C 0 0 dX5_aim_41 rfl rfl ?_
  refine y_getI C 4 _ _ fX5_aim_38 rfl rfl ft_4_11 sb_4_11 hM112 dX5_aim_42 (fun a115 ea115 la115 ua115 => ?_)
  have qa115 : a115 = a109 := (s_fb eM112 (by decide) (ea115)).trans ea109.symm
  refine y_iandR C dX5_aim_45 (by omega) (fun a117 la117 ua117 => ?_)
  refine y_putI C 4 _ _ qX5_aim_45 rfl rfl ft_4_13 sb_4_13 hM112 (PX.w hpr rfl rfl) dX5_aim_46 (by omega) (fun M118 eM118 hM118 => ?_)
  refine j_aload_n C 0 0 dX5_aim_49 rfl rfl ?_
  refine y_getC C 4 81 fX5_aim_48 rfl rfl ft_4_0 sm_4_0 rfl hM118 dX5_aim_50 ?_
  refine j_aload_n C 0 0 dX5_aim_53 rfl rfl ?_
  refine y_getV C 4 v1 fX5_aim_52 rfl rfl ft_4_9 (s_pI eM118 (s_pI eM112 (s_pI eM108 (s_pP eM102 (by decide) (s_pW eM101))))) dX5_aim_54 ?_
  refine j_aload_n C 0 0 dX5_aim_57 rfl rfl ?_
  refine y_getV C 4 v2 fX5_aim_56 rfl rfl ft_4_10 (s_pI eM118 (s_pI eM112 (s_pI eM108 (s_pW eM102)))) dX5_aim_58 ?_
  refine j_callVv C (d := 0) (As := [.ref (ad v1), .ref (ad v2)]) (st := []) 81 (s_lt rfl rfl) (s_kc (c := 3) rfl rfl) (by decide) rfl (s1_X4_tune hM118 hpr cv1 cv2) gX5_aim_X4_tune rfl hdX4_tune (by decide) (Nat.le_of_ble_eq_true rfl) dX5_aim_61 rfl (fun M120 h121 => ?_)
  have hM120 := h121
  exact hret _ _ _ dX5_aim_64 hM120
set_option maxHeartbeats 4000000 in
theorem s2_J7_fill_53178 {l : Launch} {dC : Nat → ClassId} {dI : Nat → Nat → Nat} {ad : Nat → Nat} {cA : Nat → ClassId} {pr : Nat → Nat → Bool} {Kz : mm_M} {M0 : mm_M} (hM0 : INV pr Kz M0) (hpr : PX pr) (a1 : Int) (ha1 : -2147483648 ≤ a1 ∧ a1 ≤ 2147483647) : Cv l 0 yJ7_fill_53178 wsJ7_fill_53178 dC dI ad cA [.ref (ad 90), .int (sI a1)] M0 (fun M' => INV pr Kz M') := by
  refine cv_of (cc := cJ7_fill_53178) (maxL := 4) (lv := [(0, .ref (ad 90)), (1, .int (sI a1))]) (by decide) rfl (Nat.le_of_ble_eq_true rfl) rfl ?_
  intro p e s m args below meth c A Q C hret
  refine y_iconst C dJ7_fill_53178_0 ?_
  refine j_istore_n C 2 [(2, .int (sI 0)), (0, .ref (ad 90)), (1, .int (sI a1))] dJ7_fill_53178_1 rfl (by decide) rfl ?_
  refine j_aload_n C 1 0 dJ7_fill_53178_2 rfl rfl ?_
  refine y_alen C 39 256 rfl rfl rfl an_39 rfl rfl dJ7_fill_53178_3 ?_
  refine j_istore_n C 3 [(3, .int (sI 256)), (2, .int (sI 0)), (0, .ref (ad 90)), (1, .int (sI a1))] dJ7_fill_53178_4 rfl (by decide) rfl ?_
  have L211 : ∀ (n209 : Nat), ∀ (a212 : Int) (M213 : mm_M), (0 ≤ a212 ∧ a212 ≤ 256 ∧ (256 - a212) < (n209 : Int)) → INV pr Kz M213 → jj p l e (cn_R 0) s m args below meth c 0 0 Q 4 dC dI ad cA A M213 5 [(0, .ref (ad 90)), (1, .int (sI a1)), (2, .int (sI a212)), (3, .int (sI 256))] [] := by
    intro n209
    induction n209 with
    | zero =>
      intro a212 M213 h214 hM213
      exfalso; omega
    | succ n209 ih210 =>
      intro a212 M213 h214 hM213
      refine j_iload_n C 2 2 dJ7_fill_53178_5 rfl rfl ?_
      refine j_iload_n C 3 3 dJ7_fill_53178_6 rfl rfl ?_
      refine y_icmp_ge C 20 dJ7_fill_53178_7 (by decide) (by omega) (fun h215 => ?_) (fun h215 => ?_)
      · exact hret _ _ _ dJ7_fill_53178_20 hM213
      · refine j_aload_n C 0 0 dJ7_fill_53178_10 rfl rfl ?_
        refine j_iload_n C 2 2 dJ7_fill_53178_11 rfl rfl ?_
        refine j_iload_n C 1 1 dJ7_fill_53178_12 rfl rfl ?_
        refine y_iastF C 39 256 rfl rfl rfl ak_39 an_39 rfl (sb_39 _) hM213 (PX.w hpr rfl rfl) dJ7_fill_53178_13 (by omega) (fun M216 eM216 hM216 => ?_)
        refine y_iinc C 2 [(2, .int (sI (a212 + 1))), (0, .ref (ad 90)), (1, .int (sI a1)), (3, .int (sI 256))] dJ7_fill_53178_14 rfl (by decide) rfl ?_
        refine j_goto C 5 dJ7_fill_53178_17 (by decide) ?_
        refine j_lv [1, 2, 0, 3] rfl ?_; exact ih210 (a212 + 1) M216 (by omega) hM216
  refine j_lv [2, 3, 1, 0] rfl ?_; exact L211 2010 0 M0 (by omega) hM0
set_option maxHeartbeats 4000000 in
theorem s1_X5_meet {l : Launch} {dC : Nat → ClassId} {dI : Nat → Nat → Nat} {ad : Nat → Nat} {cA : Nat → ClassId} {pr : Nat → Nat → Bool} {Kz : mm_M} {M0 : mm_M} (hM0 : INV pr Kz M0) (hpr : PX pr) (a1 : Int) (ha1 : -2147483648 ≤ a1 ∧ a1 ≤ 2147483647) (a2 : Int) (ha2 : -2147483648 ≤ a2 ∧ a2 ≤ 2147483647) (hp0 : 0 ≤ a1 ∧ a1 ≤ 255) : Cv l 4 yX5_meet wsX5_meet dC dI ad cA [.ref (ad 88), .int (sI a1), .int (sI a2)] M0 (fun M' => INV pr Kz M') := by
  refine cv_of (cc := cX5_meet) (maxL := 5) (lv := [(0, .ref (ad 88)), (1, .int (sI a1)), (2, .int (sI a2))]) (by decide) rfl (Nat.le_of_ble_eq_true rfl) rfl ?_
  intro p e s m args below meth c A Q C hret
  refine j_aload_n C 0 0 dX5_meet_0 rfl rfl ?_
  refine y_getC C 4 90 fX5_meet_15 rfl rfl ft_4_2 sm_4_2 rfl hM0 dX5_meet_1 ?_
  refine j_iload_n C 1 1 dX5_meet_4 rfl rfl ?_
  refine y_iconst C dX5_meet_5 ?_
  refine y_iastF C 39 256 rfl rfl rfl ak_39 an_39 rfl (sb_39 _) hM0 (PX.w hpr rfl rfl) dX5_meet_6 (by omega) (fun M101 eM101 hM101 => ?_)
  refine y_iconst C dX5_meet_7 ?_
  refine j_istore_n C 3 [(3, .int (sI 0)), (0, .ref (ad 88)), (1, .int (sI a1)), (2, .int (sI a2))] dX5_meet_8 rfl (by decide) rfl ?_
  have L216 : ∀ (n214 : Nat), ∀ (a217 : Int) (M218 : mm_M), (0 ≤ a217 ∧ a217 ≤ 6 ∧ (6 - a217) < (n214 : Int)) → INV pr Kz M218 → jj p l e (cn_R 4) s m args below meth c 0 0 Q 5 dC dI ad cA A M218 9 [(0, .ref (ad 88)), (1, .int (sI a1)), (2, .int (sI a2)), (3, .int (sI a217))] [] := by
    intro n214
    induction n214 with
    | zero =>
      intro a217 M218 h219 hM218
      exfalso; omega
    | succ n214 ih215 =>
      intro a217 M218 h219 hM218
      refine j_iload_n C 3 3 dX5_meet_9 rfl rfl ?_
      refine j_aload_n C 0 0 dX5_meet_10 rfl rfl ?_
      refine y_getM C 4 6 fX5_meet_52 rfl rfl ft_4_9 sm_4_9 (by decide) hM218 dX5_meet_11 (fun v220 ev220 cv220 => ?_)
      refine y_getI C 6 _ _ fX5_meet_92 cv220 rfl ft_6_0 sb_6_0 hM218 dX5_meet_14 (fun a221 ea221 la221 ua221 => ?_)
      refine y_icmp_ge C 68 dX5_meet_17 (by decide) (by omega) (fun h223 => ?_) (fun h223 => ?_)
      · exact hret _ _ _ dX5_meet_68 hM218
      · refine j_aload_n C 0 0 dX5_meet_20 rfl rfl ?_
        refine y_getC C 4 81 fX5_meet_48 rfl rfl ft_4_0 sm_4_0 rfl hM218 dX5_meet_21 ?_
        refine j_iload_n C 3 3 dX5_meet_24 rfl rfl ?_
        refine j_iload_n C 1 1 dX5_meet_25 rfl rfl ?_
        refine j_iload_n C 2 2 dX5_meet_26 rfl rfl ?_
        refine j_callVi C (d := 3) (As := [.int (sI a217), .int (sI a1), .int (sI a2)]) (st := []) 81 (s_lt rfl rfl) (s_kc (c := 3) rfl rfl) (by decide) rfl (s1_X4_choice hM218 hpr a217 (by omega) a1 (by omega) a2 (by omega) (by omega)) gX5_meet_X4_choice rfl hdX4_choice (by decide) (Nat.le_of_ble_eq_true rfl) dX5_meet_27 rfl (fun r224 M225 h226 => ?_)
        obtain ⟨a228, rfl, hM225, h227⟩ := h226
        refine j_istore C 4 [(4, .int (sI a228)), (0, .ref (ad 88)), (1, .int (sI a1)), (2, .int (sI a2)), (3, .int (sI a217))] dX5_meet_30 (by decide) rfl ?_
        refine j_aload_n C 1 0 dX5_meet_32 rfl rfl ?_
        refine y_getC C 4 89 fX5_meet_9 rfl rfl ft_4_1 sm_4_1 rfl hM225 dX5_meet_33 ?_
        refine j_iload_n C 2 1 dX5_meet_36 rfl rfl ?_
        refine y_bipush C dX5_meet_37 rfl ?_
        refine y_imul C dX5_meet_39 ?_
        refine j_iload_n C 4 3 dX5_meet_40 rfl rfl ?_
        refine y_iadd C dX5_meet_41 ?_
        refine j_iload C 0 dX5_meet_42 rfl ?_
        refine y_iast C 38 1536 _ _ rfl rfl rfl ak_38 an_38 rfl (sb_38 _) hM225 (PX.w hpr rfl rfl) dX5_meet_44 (by omega) (by omega) (fun M229 eM229 hM229 => ?_)
        refine j_iload C 0 dX5_meet_45 rfl ?_
        refine y_if_lt C 62 dX5_meet_47 (by decide) (by omega) (fun h230 => ?_) (fun h230 => ?_)
        · refine y_iinc C 4 [(3, .int (sI (a217 + 1))), (4, .int (sI a228)), (0, .ref (ad 88)), (1, .int (sI a1)), (2, .int (sI a2))] dX5_meet_62 rfl (by decide) rfl ?_
          refine j_goto C 9 dX5_meet_65 (by decide) ?_
          refine j_lv [2, 3, 4, 0] rfl ?_; exact ih215 (a217 + 1) M229 (by omega) hM229
        · refine j_aload_n C 1 0 dX5_meet_50 rfl rfl ?_
          refine y_getC C 4 90 fX5_meet_15 rfl rfl ft_4_2 sm_4_2 rfl hM229 dX5_meet_51 ?_
          refine j_iload_n C 2 1 dX5_meet_54 rfl rfl ?_
          refine y_iconst C dX5_meet_55 ?_
          refine j_iload C 0 dX5_meet_56 rfl ?_
          refine y_shl1 C 7 128 dX5_meet_58 rfl (by decide) (by omega) (fun a231 la231 ua231 => ?_)
          refine y_iorN C 8 255 dX5_meet_59 rfl (by decide) (by omega) (fun a232 la232 ua232 => ?_)
          refine y_iconst C dX5_meet_60 ?_
          refine y_iastF C 39 256 rfl rfl rfl ak_39 an_39 rfl (sb_39 _) hM229 (PX.w hpr rfl rfl) dX5_meet_61 (by omega) (fun M233 eM233 hM233 => ?_)
          refine y_iinc C 4 [(3, .int (sI (a217 + 1))), (4, .int (sI a228)), (0, .ref (ad 88)), (1, .int (sI a1)), (2, .int (sI a2))] dX5_meet_62 rfl (by decide) rfl ?_
          refine j_goto C 9 dX5_meet_65 (by decide) ?_
          refine j_lv [2, 3, 4, 0] rfl ?_; exact ih215 (a217 + 1) M233 (by omega) hM233
  refine j_lv [1, 2, 3, 0] rfl ?_; exact L216 2010 0 M101 (by omega) hM101
set_option maxHeartbeats 4000000 in
theorem s1_X5_look {l : Launch} {dC : Nat → ClassId} {dI : Nat → Nat → Nat} {ad : Nat → Nat} {cA : Nat → ClassId} {pr : Nat → Nat → Bool} {Kz : mm_M} {M0 : mm_M} (hM0 : INV pr Kz M0) (hpr : PX pr) {v1 : Nat} (cv1 : s_c v1 = 6) {v2 : Nat} (cv2 : s_c v2 = 8) (a3 : Int) (ha3 : -2147483648 ≤ a3 ∧ a3 ≤ 2147483647) : Cv l 5 yX5_look wsX5_look dC dI ad cA [.ref (ad 88), .ref (ad v1), .ref (ad v2), .int (sI a3)] M0 (fun M' => INV pr Kz M') := by
  refine cv_of (cc := cX5_look) (maxL := 5) (lv := [(0, .ref (ad 88)), (1, .ref (ad v1)), (2, .ref (ad v2)), (3, .int (sI a3))]) (by decide) rfl (Nat.le_of_ble_eq_true rfl) rfl ?_
  intro p e s m args below meth c A Q C hret
  refine j_aload_n C 0 0 dX5_look_0 rfl rfl ?_
  refine j_aload_n C 1 1 dX5_look_1 rfl rfl ?_
  refine j_aload_n C 2 2 dX5_look_2 rfl rfl ?_
  refine j_iload_n C 3 3 dX5_look_3 rfl rfl ?_
  refine j_callVv C (d := 1) (As := [.ref (ad v1), .ref (ad v2), .int (sI a3)]) (st := []) 88 (s_lt rfl rfl) (s_kc (c := 4) rfl rfl) (by decide) rfl (s1_X5_aim hM0 hpr cv1 cv2 a3 (by omega)) gX5_look_X5_aim rfl hdX5_aim (by decide) (Nat.le_of_ble_eq_true rfl) dX5_look_4 rfl (fun M102 h103 => ?_)
  have hM102 := h103
  refine j_aload_n C 0 0 dX5_look_7 rfl rfl ?_
  refine y_getC C 4 90 fX5_look_15 rfl rfl ft_4_2 sm_4_2 rfl hM102 dX5_look_8 ?_
  refine y_iconst C dX5_look_11 ?_
  refine j_callSv C (d := 0) (As := [.ref (ad 90), .int (sI 0)]) (st := []) (s2_J7_fill_53178 hM102 hpr 0 (by omega)) gX5_look_J7_fill_53178 rfl hdJ7_fill_53178s (by decide) (Nat.le_of_ble_eq_true rfl) dX5_look_12 rfl (fun M106 h107 => ?_)
  have hM106 := h107
  refine j_aload_n C 0 0 dX5_look_15 rfl rfl ?_
  refine y_getC C 4 90 fX5_look_15 rfl rfl ft_4_2 sm_4_2 rfl hM106 dX5_look_16 ?_
  refine j_aload_n C 0 0 dX5_look_19 rfl rfl ?_
  refine y_getI C 4 _ _ fX5_look_45 rfl rfl ft_4_13 sb_4_13 hM106 dX5_look_20 (fun a109 ea109 la109 ua109 => ?_)
  refine y_iconst C dX5_look_23 ?_
  refine y_iastF C 39 256 rfl rfl rfl ak_39 an_39 rfl (sb_39 _) hM106 (PX.w hpr rfl rfl) dX5_look_24 (by omega) (fun M111 eM111 hM111 => ?_)
  refine j_aload_n C 0 0 dX5_look_25 rfl rfl ?_
  refine y_getI C 4 _ _ fX5_look_45 rfl rfl ft_4_13 sb_4_13 hM111 dX5_look_26 (fun a112 ea112 la112 ua112 => ?_)
  have qa112 : a112 = a109 := (s_fa eM111 (by decide) (ea112)).trans ea109.symm
  refine j_istore C 4 [(4, .int (sI a112)), (0, .ref (ad 88)), (1, .ref (ad v1)), (2, .ref (ad v2)), (3, .int (sI a3))] dX5_look_29 (by decide) rfl ?_
  have L138 : ∀ (n136 : Nat), ∀ (a139 : Int) (M140 : mm_M), (0 ≤ a139 ∧ a139 ≤ 256 ∧ (256 - a139) < (n136 : Int)) → INV pr Kz M140 → jj p l e (cn_R 5) s m args below meth c 0 0 Q 5 dC dI ad cA A M140 31 [(0, .ref (ad 88)), (3, .int (sI a3)), (4, .int (sI a139))] [] := by
    intro n136
    induction n136 with
    | zero =>
      intro a139 M140 h141 hM140
      exfalso; omega
    | succ n136 ih137 =>
      intro a139 M140 h141 hM140
      refine j_iload C 2 dX5_look_31 rfl ?_
      refine j_aload_n C 0 0 dX5_look_33 rfl rfl ?_
      refine y_getI C 4 _ _ fX5_look_38 rfl rfl ft_4_11 sb_4_11 hM140 dX5_look_34 (fun a142 ea142 la142 ua142 => ?_)
      refine y_icmp_gt C 64 dX5_look_37 (by decide) (by omega) (fun h144 => ?_) (fun h144 => ?_)
      · exact hret _ _ _ dX5_look_64 hM140
      · refine j_aload_n C 0 0 dX5_look_40 rfl rfl ?_
        refine y_getC C 4 90 fX5_look_15 rfl rfl ft_4_2 sm_4_2 rfl hM140 dX5_look_41 ?_
        refine j_iload C 2 dX5_look_44 rfl ?_
        refine y_iald C 39 256 _ _ rfl rfl rfl ak_39 an_39 rfl (sb_39 _) hM140 dX5_look_46 (by omega) (fun a145 ea145 la145 ua145 => ?_)
        refine y_iconst C dX5_look_47 ?_
        refine y_icmp_ne C 58 dX5_look_48 (by decide) (by omega) (fun h146 => ?_) (fun h146 => ?_)
        · refine y_iinc C 2 [(4, .int (sI (a139 + 1))), (0, .ref (ad 88)), (3, .int (sI a3))] dX5_look_58 rfl (by decide) rfl ?_
          refine j_goto C 31 dX5_look_61 (by decide) ?_
          refine j_lv [1, 2, 0] rfl ?_; exact ih137 (a139 + 1) M140 (by omega) hM140
        · refine j_aload_n C 0 0 dX5_look_51 rfl rfl ?_
          refine j_iload C 2 dX5_look_52 rfl ?_
          refine j_iload_n C 1 3 dX5_look_54 rfl rfl ?_
          refine j_callVv C (d := 4) (As := [.int (sI a139), .int (sI a3)]) (st := []) 88 (s_lt rfl rfl) (s_kc (c := 4) rfl rfl) (by decide) rfl (s1_X5_meet hM140 hpr a139 (by omega) a3 (by omega) (by omega)) gX5_look_X5_meet rfl hdX5_meet (by decide) (Nat.le_of_ble_eq_true rfl) dX5_look_55 rfl (fun M148 h149 => ?_)
          have hM148 := h149
          refine y_iinc C 2 [(4, .int (sI (a139 + 1))), (0, .ref (ad 88)), (3, .int (sI a3))] dX5_look_58 rfl (by decide) rfl ?_
          refine j_goto C 31 dX5_look_61 (by decide) ?_
          refine j_lv [1, 2, 0] rfl ?_; exact ih137 (a139 + 1) M148 (by omega) hM148
  refine j_lv [1, 4, 0] rfl ?_; exact L138 2010 a112 M111 (by omega) hM111
set_option maxHeartbeats 4000000 in
theorem s1_X5_isShutAt {l : Launch} {dC : Nat → ClassId} {dI : Nat → Nat → Nat} {ad : Nat → Nat} {cA : Nat → ClassId} {pr : Nat → Nat → Bool} {Kz : mm_M} {M0 : mm_M} (hM0 : INV pr Kz M0) (a1 : Int) (ha1 : -2147483648 ≤ a1 ∧ a1 ≤ 2147483647) : Ci l 0 yX5_isShutAt wsX5_isShutAt dC dI ad cA [.ref (ad 88), .int (sI a1)] M0 (fun r M' => ∃ a : Int, r = sI a ∧ M0 = M' ∧ 0 ≤ a ∧ a ≤ 1 ∧ ((a = 0) ∨ (a = 1))) := by
  refine ci_of (cc := cX5_isShutAt) (maxL := 2) (ty := .boolean) (lv := [(0, .ref (ad 88)), (1, .int (sI a1))]) (by decide) rfl (fun r M' hp => by obtain ⟨a, rfl, -, h⟩ := hp; rcases (show a = 0 ∨ a = 1 by omega) with rfl | rfl <;> rfl) (Nat.le_of_ble_eq_true rfl) rfl ?_
  intro p e s m args below meth c A Q C hret
  refine j_aload_n C 0 0 dX5_isShutAt_0 rfl rfl ?_
  refine y_getI C 4 _ _ fX5_isShutAt_42 rfl rfl ft_4_12 sb_4_12 hM0 dX5_isShutAt_1 (fun a101 ea101 la101 ua101 => ?_)
  refine j_iload_n C 1 1 dX5_isShutAt_4 rfl rfl ?_
  refine y_iconst C dX5_isShutAt_5 ?_
  refine y_not C dX5_isShutAt_6 ?_
  refine y_iandL C dX5_isShutAt_7 (by omega) (fun a103 la103 ua103 => ?_)
  refine y_if_ne C 15 dX5_isShutAt_8 (by decide) (by omega) (fun h104 => ?_) (fun h104 => ?_)
  · refine y_iconst C dX5_isShutAt_15 ?_
    exact hret _ _ _ _ dX5_isShutAt_16 ⟨0, rfl, rfl, by omega⟩
  · refine y_iconst C dX5_isShutAt_11 ?_
    refine j_goto C 16 dX5_isShutAt_12 (by decide) ?_
    exact hret _ _ _ _ dX5_isShutAt_16 ⟨1, rfl, rfl, by omega⟩
set_option maxHeartbeats 4000000 in
theorem s1_X5_pick {l : Launch} {dC : Nat → ClassId} {dI : Nat → Nat → Nat} {ad : Nat → Nat} {cA : Nat → ClassId} {pr : Nat → Nat → Bool} {Kz : mm_M} {M0 : mm_M} (hM0 : INV pr Kz M0) (a1 : Int) (ha1 : -2147483648 ≤ a1 ∧ a1 ≤ 2147483647) (a2 : Int) (ha2 : -2147483648 ≤ a2 ∧ a2 ≤ 2147483647) : Ci l 0 yX5_pick wsX5_pick dC dI ad cA [.ref (ad 88), .int (sI a1), .int (sI a2)] M0 (fun r M' => ∃ a : Int, r = sI a ∧ M0 = M' ∧ (-1) ≤ a ∧ a ≤ 7 ∧ ((a = (-1)) ∨ ((-1) ≤ a ∧ a ≤ 7))) := by
  refine ci_of (cc := cX5_pick) (maxL := 4) (ty := .int) (lv := [(0, .ref (ad 88)), (1, .int (sI a1)), (2, .int (sI a2))]) (by decide) rfl (fun r M' hp => rfl) (Nat.le_of_ble_eq_true rfl) rfl ?_
  intro p e s m args below meth c A Q C hret
  refine j_iload_n C 1 1 dX5_pick_0 rfl rfl ?_
  refine y_bipush C dX5_pick_1 rfl ?_
  refine y_imul0 C dX5_pick_3 (fun a101 la101 ua101 => ?_)
  refine j_iload_n C 2 2 dX5_pick_4 rfl rfl ?_
  refine y_iadd0 C dX5_pick_5 (fun a102 la102 ua102 => ?_)
  refine j_istore_n C 3 [(3, .int (sI a102)), (0, .ref (ad 88)), (1, .int (sI a1)), (2, .int (sI a2))] dX5_pick_6 rfl (by decide) rfl ?_
  refine j_iload_n C 0 3 dX5_pick_7 rfl rfl ?_
  refine y_if_lt C 29 dX5_pick_8 (by decide) (by omega) (fun h103 => ?_) (fun h103 => ?_)
  · refine y_iconst C dX5_pick_29 ?_
    exact hret _ _ _ _ dX5_pick_30 ⟨(-1), rfl, rfl, by omega⟩
  · refine j_iload_n C 0 3 dX5_pick_11 rfl rfl ?_
    refine j_aload_n C 1 0 dX5_pick_12 rfl rfl ?_
    refine y_getC C 4 89 fX5_pick_9 rfl rfl ft_4_1 sm_4_1 rfl hM0 dX5_pick_13 ?_
    refine y_alen C 38 1536 rfl rfl rfl an_38 rfl rfl dX5_pick_16 ?_
    refine y_icmp_ge C 29 dX5_pick_17 (by decide) (by omega) (fun h104 => ?_) (fun h104 => ?_)
    · refine y_iconst C dX5_pick_29 ?_
      exact hret _ _ _ _ dX5_pick_30 ⟨(-1), rfl, rfl, by omega⟩
    · refine j_aload_n C 1 0 dX5_pick_20 rfl rfl ?_
      refine y_getC C 4 89 fX5_pick_9 rfl rfl ft_4_1 sm_4_1 rfl hM0 dX5_pick_21 ?_
      refine j_iload_n C 0 3 dX5_pick_24 rfl rfl ?_
      refine y_iald C 38 1536 _ _ rfl rfl rfl ak_38 an_38 rfl (sb_38 _) hM0 dX5_pick_25 (by omega) (fun a105 ea105 la105 ua105 => ?_)
      refine j_goto C 30 dX5_pick_26 (by decide) ?_
      exact hret _ _ _ _ dX5_pick_30 ⟨a105, rfl, rfl, by omega⟩
set_option maxHeartbeats 4000000 in
theorem s1_X5_stepsFrom {l : Launch} {dC : Nat → ClassId} {dI : Nat → Nat → Nat} {ad : Nat → Nat} {cA : Nat → ClassId} {pr : Nat → Nat → Bool} {Kz : mm_M} {M0 : mm_M} (hM0 : INV pr Kz M0) (a1 : Int) (ha1 : -2147483648 ≤ a1 ∧ a1 ≤ 2147483647) (a2 : Int) (ha2 : -2147483648 ≤ a2 ∧ a2 ≤ 2147483647) (hp0 : 0 ≤ a1 ∧ a1 ≤ 255) : Ci l 1 yX5_stepsFrom wsX5_stepsFrom dC dI ad cA [.ref (ad 88), .int (sI a1), .int (sI a2)] M0 (fun r M' => ∃ a : Int, r = sI a ∧ M0 = M' ∧ (-2147483648) ≤ a ∧ a ≤ 2147483647) := by
  refine ci_of (cc := cX5_stepsFrom) (maxL := 7) (ty := .int) (lv := [(0, .ref (ad 88)), (1, .int (sI a1)), (2, .int (sI a2))]) (by decide) rfl (fun r M' hp => rfl) (Nat.le_of_ble_eq_true rfl) rfl ?_
  intro p e s m args below meth c A Q C hret
  refine y_iconst C dX5_stepsFrom_0 ?_
  refine j_istore_n C 3 [(3, .int (sI (-1))), (0, .ref (ad 88)), (1, .int (sI a1)), (2, .int (sI a2))] dX5_stepsFrom_1 rfl (by decide) rfl ?_
  refine y_iconst C dX5_stepsFrom_2 ?_
  refine j_istore C 4 [(4, .int (sI 0)), (3, .int (sI (-1))), (0, .ref (ad 88)), (1, .int (sI a1)), (2, .int (sI a2))] dX5_stepsFrom_3 (by decide) rfl ?_
  have L289 : ∀ (n287 : Nat), ∀ (a290 : Int) (a291 : Int), ((-2147483648) ≤ a290 ∧ a290 ≤ 2147483647 ∧ 0 ≤ a291 ∧ a291 ≤ 6 ∧ (6 - a291) < (n287 : Int)) → jj p l e (cn_R 1) s m args below meth c 0 0 Q 7 dC dI ad cA A M0 5 [(0, .ref (ad 88)), (1, .int (sI a1)), (2, .int (sI a2)), (3, .int (sI a290)), (4, .int (sI a291))] [] := by
    intro n287
    induction n287 with
    | zero =>
      intro a290 a291 h292
      exfalso; omega
    | succ n287 ih288 =>
      intro a290 a291 h292
      refine j_iload C 4 dX5_stepsFrom_5 rfl ?_
      refine j_aload_n C 0 0 dX5_stepsFrom_7 rfl rfl ?_
      refine y_getM C 4 6 fX5_stepsFrom_52 rfl rfl ft_4_9 sm_4_9 (by decide) hM0 dX5_stepsFrom_8 (fun v293 ev293 cv293 => ?_)
      refine y_getI C 6 _ _ fX5_stepsFrom_92 cv293 rfl ft_6_0 sb_6_0 hM0 dX5_stepsFrom_11 (fun a294 ea294 la294 ua294 => ?_)
      refine y_icmp_ge C 92 dX5_stepsFrom_14 (by decide) (by omega) (fun h296 => ?_) (fun h296 => ?_)
      · refine j_iload_n C 3 3 dX5_stepsFrom_92 rfl rfl ?_
        exact hret _ _ _ _ dX5_stepsFrom_93 ⟨a290, rfl, rfl, by omega⟩
      · refine j_aload_n C 0 0 dX5_stepsFrom_17 rfl rfl ?_
        refine j_iload_n C 1 1 dX5_stepsFrom_18 rfl rfl ?_
        refine j_iload C 4 dX5_stepsFrom_19 rfl ?_
        refine j_callVi C (d := 0) (As := [.int (sI a1), .int (sI a291)]) (st := []) 88 (s_lt rfl rfl) (s_kc (c := 4) rfl rfl) (by decide) rfl (s1_X5_pick hM0 a1 (by omega) a291 (by omega)) gX5_stepsFrom_X5_pick rfl hdX5_pick (by decide) (Nat.le_of_ble_eq_true rfl) dX5_stepsFrom_21 rfl (fun r297 M298 h299 => ?_)
        obtain ⟨a301, rfl, rfl, h300⟩ := h299
        refine j_istore C 5 [(5, .int (sI a301)), (0, .ref (ad 88)), (1, .int (sI a1)), (2, .int (sI a2)), (3, .int (sI a290)), (4, .int (sI a291))] dX5_stepsFrom_24 (by decide) rfl ?_
        refine j_iload_n C 3 2 dX5_stepsFrom_26 rfl rfl ?_
        refine j_iload C 5 dX5_stepsFrom_27 rfl ?_
        refine y_ishr0 C dX5_stepsFrom_29 (fun a302 la302 ua302 => ?_)
        refine y_iconst C dX5_stepsFrom_30 ?_
        refine y_iandR C dX5_stepsFrom_31 (by omega) (fun a303 la303 ua303 => ?_)
        refine y_iconst C dX5_stepsFrom_32 ?_
        refine y_icmp_ne C 86 dX5_stepsFrom_33 (by decide) (by omega) (fun h304 => ?_) (fun h304 => ?_)
        · refine y_iinc C 5 [(4, .int (sI (a291 + 1))), (5, .int (sI a301)), (0, .ref (ad 88)), (1, .int (sI a1)), (2, .int (sI a2)), (3, .int (sI a290))] dX5_stepsFrom_86 rfl (by decide) rfl ?_
          refine j_goto C 5 dX5_stepsFrom_89 (by decide) ?_
          refine j_lv [2, 3, 4, 5, 0] rfl ?_; exact ih288 a290 (a291 + 1) (by omega)
        · refine j_iload C 0 dX5_stepsFrom_36 rfl ?_
          refine y_if_lt C 86 dX5_stepsFrom_38 (by decide) (by omega) (fun h305 => ?_) (fun h305 => ?_)
          · refine y_iinc C 5 [(4, .int (sI (a291 + 1))), (5, .int (sI a301)), (0, .ref (ad 88)), (1, .int (sI a1)), (2, .int (sI a2)), (3, .int (sI a290))] dX5_stepsFrom_86 rfl (by decide) rfl ?_
            refine j_goto C 5 dX5_stepsFrom_89 (by decide) ?_
            refine j_lv [2, 3, 4, 5, 0] rfl ?_; exact ih288 a290 (a291 + 1) (by omega)
          · refine j_iload_n C 2 1 dX5_stepsFrom_41 rfl rfl ?_
            refine j_iload C 0 dX5_stepsFrom_42 rfl ?_
            refine y_ishrP C dX5_stepsFrom_44 (by omega) (fun a306 la306 ua306 => ?_)
            refine y_iconst C dX5_stepsFrom_45 ?_
            refine y_iandR C dX5_stepsFrom_46 (by omega) (fun a307 la307 ua307 => ?_)
            refine y_if_ne C 86 dX5_stepsFrom_47 (by decide) (by omega) (fun h308 => ?_) (fun h308 => ?_)
            · refine y_iinc C 5 [(4, .int (sI (a291 + 1))), (5, .int (sI a301)), (0, .ref (ad 88)), (1, .int (sI a1)), (2, .int (sI a2)), (3, .int (sI a290))] dX5_stepsFrom_86 rfl (by decide) rfl ?_
              refine j_goto C 5 dX5_stepsFrom_89 (by decide) ?_
              refine j_lv [2, 3, 4, 5, 0] rfl ?_; exact ih288 a290 (a291 + 1) (by omega)
            · refine j_aload_n C 1 0 dX5_stepsFrom_50 rfl rfl ?_
              refine y_getC C 4 91 fX5_stepsFrom_18 rfl rfl ft_4_3 sm_4_3 rfl hM0 dX5_stepsFrom_51 ?_
              refine j_iload_n C 2 1 dX5_stepsFrom_54 rfl rfl ?_
              refine y_iconst C dX5_stepsFrom_55 ?_
              refine j_iload C 0 dX5_stepsFrom_56 rfl ?_
              refine y_shl1 C 7 128 dX5_stepsFrom_58 rfl (by decide) (by omega) (fun a309 la309 ua309 => ?_)
              refine y_iorN C 8 255 dX5_stepsFrom_59 rfl (by decide) (by omega) (fun a310 la310 ua310 => ?_)
              refine y_iald C 40 256 _ _ rfl rfl rfl ak_40 an_40 rfl (sb_40 _) hM0 dX5_stepsFrom_60 (by omega) (fun a311 ea311 la311 ua311 => ?_)
              refine j_istore C 6 [(6, .int (sI a311)), (5, .int (sI a301)), (0, .ref (ad 88)), (1, .int (sI a1)), (2, .int (sI a2)), (3, .int (sI a290)), (4, .int (sI a291))] dX5_stepsFrom_61 (by decide) rfl ?_
              refine j_iload C 0 dX5_stepsFrom_63 rfl ?_
              refine y_if_lt C 86 dX5_stepsFrom_65 (by decide) (by omega) (fun h312 => ?_) (fun h312 => ?_)
              · refine y_iinc C 6 [(4, .int (sI (a291 + 1))), (6, .int (sI a311)), (5, .int (sI a301)), (0, .ref (ad 88)), (1, .int (sI a1)), (2, .int (sI a2)), (3, .int (sI a290))] dX5_stepsFrom_86 rfl (by decide) rfl ?_
                refine j_goto C 5 dX5_stepsFrom_89 (by decide) ?_
                refine j_lv [3, 4, 5, 6, 0] rfl ?_; exact ih288 a290 (a291 + 1) (by omega)
              · refine j_iload_n C 5 3 dX5_stepsFrom_68 rfl rfl ?_
                refine y_iconst C dX5_stepsFrom_69 ?_
                refine y_icmp_eq C 81 dX5_stepsFrom_70 (by decide) (by omega) (fun h313 => ?_) (fun h313 => ?_)
                · refine j_iload C 0 dX5_stepsFrom_81 rfl ?_
                  refine y_iconst C dX5_stepsFrom_83 ?_
                  refine y_iadd0 C dX5_stepsFrom_84 (fun a314 la314 ua314 => ?_)
                  refine j_istore_n C 3 [(3, .int (sI a314)), (6, .int (sI a311)), (5, .int (sI a301)), (0, .ref (ad 88)), (1, .int (sI a1)), (2, .int (sI a2)), (4, .int (sI a291))] dX5_stepsFrom_85 rfl (by decide) rfl ?_
                  refine y_iinc C 6 [(4, .int (sI (a291 + 1))), (3, .int (sI a314)), (6, .int (sI a311)), (5, .int (sI a301)), (0, .ref (ad 88)), (1, .int (sI a1)), (2, .int (sI a2))] dX5_stepsFrom_86 rfl (by decide) rfl ?_
                  refine j_goto C 5 dX5_stepsFrom_89 (by decide) ?_
                  refine j_lv [4, 5, 6, 1, 0] rfl ?_; exact ih288 a314 (a291 + 1) (by omega)
                · refine j_iload C 0 dX5_stepsFrom_73 rfl ?_
                  refine y_iconst C dX5_stepsFrom_75 ?_
                  refine y_iadd0 C dX5_stepsFrom_76 (fun a315 la315 ua315 => ?_)
                  refine j_iload_n C 5 3 dX5_stepsFrom_77 rfl rfl ?_
                  refine y_icmp_ge C 86 dX5_stepsFrom_78 (by decide) (by omega) (fun h316 => ?_) (fun h316 => ?_)
                  · refine y_iinc C 6 [(4, .int (sI (a291 + 1))), (6, .int (sI a311)), (5, .int (sI a301)), (0, .ref (ad 88)), (1, .int (sI a1)), (2, .int (sI a2)), (3, .int (sI a290))] dX5_stepsFrom_86 rfl (by decide) rfl ?_
                    refine j_goto C 5 dX5_stepsFrom_89 (by decide) ?_
                    refine j_lv [3, 4, 5, 6, 0] rfl ?_; exact ih288 a290 (a291 + 1) (by omega)
                  · refine j_iload C 0 dX5_stepsFrom_81 rfl ?_
                    refine y_iconst C dX5_stepsFrom_83 ?_
                    refine y_iadd0 C dX5_stepsFrom_84 (fun a317 la317 ua317 => ?_)
                    refine j_istore_n C 3 [(3, .int (sI a317)), (6, .int (sI a311)), (5, .int (sI a301)), (0, .ref (ad 88)), (1, .int (sI a1)), (2, .int (sI a2)), (4, .int (sI a291))] dX5_stepsFrom_85 rfl (by decide) rfl ?_
                    refine y_iinc C 6 [(4, .int (sI (a291 + 1))), (3, .int (sI a317)), (6, .int (sI a311)), (5, .int (sI a301)), (0, .ref (ad 88)), (1, .int (sI a1)), (2, .int (sI a2))] dX5_stepsFrom_86 rfl (by decide) rfl ?_
                    refine j_goto C 5 dX5_stepsFrom_89 (by decide) ?_
                    refine j_lv [4, 5, 6, 1, 0] rfl ?_; exact ih288 a317 (a291 + 1) (by omega)
  refine j_lv [2, 3, 4, 1, 0] rfl ?_; exact L289 4294967306 (-1) 0 (by omega)
set_option maxHeartbeats 4000000 in
theorem s1_X5_measure {l : Launch} {dC : Nat → ClassId} {dI : Nat → Nat → Nat} {ad : Nat → Nat} {cA : Nat → ClassId} {pr : Nat → Nat → Bool} {Kz : mm_M} {M0 : mm_M} (hM0 : INV pr Kz M0) (hpr : PX pr) (a1 : Int) (ha1 : -2147483648 ≤ a1 ∧ a1 ≤ 2147483647) : Ci l 2 yX5_measure wsX5_measure dC dI ad cA [.ref (ad 88), .int (sI a1)] M0 (fun r M' => ∃ a : Int, r = sI a ∧ INV pr Kz M' ∧ (-2147483648) ≤ a ∧ a ≤ 2147483647) := by
  refine ci_of (cc := cX5_measure) (maxL := 3) (ty := .int) (lv := [(0, .ref (ad 88)), (1, .int (sI a1))]) (by decide) rfl (fun r M' hp => rfl) (Nat.le_of_ble_eq_true rfl) rfl ?_
  intro p e s m args below meth c A Q C hret
  refine j_aload_n C 0 0 dX5_measure_0 rfl rfl ?_
  refine y_getI C 4 _ _ fX5_measure_38 rfl rfl ft_4_11 sb_4_11 hM0 dX5_measure_1 (fun a101 ea101 la101 ua101 => ?_)
  refine j_istore_n C 2 [(2, .int (sI a101)), (0, .ref (ad 88)), (1, .int (sI a1))] dX5_measure_4 rfl (by decide) rfl ?_
  have L145 : ∀ (n143 : Nat), ∀ (a146 : Int) (M147 : mm_M), ((-1) ≤ a146 ∧ a146 ≤ 255 ∧ (a146 - (-1)) < (n143 : Int)) → INV pr Kz M147 → jj p l e (cn_R 2) s m args below meth c 0 0 Q 3 dC dI ad cA A M147 5 [(0, .ref (ad 88)), (1, .int (sI a1)), (2, .int (sI a146))] [] := by
    intro n143
    induction n143 with
    | zero =>
      intro a146 M147 h148 hM147
      exfalso; omega
    | succ n143 ih144 =>
      intro a146 M147 h148 hM147
      refine j_iload_n C 2 2 dX5_measure_5 rfl rfl ?_
      refine j_aload_n C 0 0 dX5_measure_6 rfl rfl ?_
      refine y_getI C 4 _ _ fX5_measure_45 rfl rfl ft_4_13 sb_4_13 hM147 dX5_measure_7 (fun a149 ea149 la149 ua149 => ?_)
      refine y_icmp_lt C 53 dX5_measure_10 (by decide) (by omega) (fun h151 => ?_) (fun h151 => ?_)
      · refine j_aload_n C 0 0 dX5_measure_53 rfl rfl ?_
        refine y_getC C 4 91 fX5_measure_18 rfl rfl ft_4_3 sm_4_3 rfl hM147 dX5_measure_54 ?_
        refine j_aload_n C 0 0 dX5_measure_57 rfl rfl ?_
        refine y_getI C 4 _ _ fX5_measure_45 rfl rfl ft_4_13 sb_4_13 hM147 dX5_measure_58 (fun a167 ea167 la167 ua167 => ?_)
        refine y_iald C 40 256 _ _ rfl rfl rfl ak_40 an_40 rfl (sb_40 _) hM147 dX5_measure_61 (by omega) (fun a169 ea169 la169 ua169 => ?_)
        exact hret _ _ _ _ dX5_measure_62 ⟨a169, rfl, hM147, by omega⟩
      · refine j_aload_n C 0 0 dX5_measure_13 rfl rfl ?_
        refine y_getC C 4 90 fX5_measure_15 rfl rfl ft_4_2 sm_4_2 rfl hM147 dX5_measure_14 ?_
        refine j_iload_n C 2 2 dX5_measure_17 rfl rfl ?_
        refine y_iald C 39 256 _ _ rfl rfl rfl ak_39 an_39 rfl (sb_39 _) hM147 dX5_measure_18 (by omega) (fun a152 ea152 la152 ua152 => ?_)
        refine y_iconst C dX5_measure_19 ?_
        refine y_icmp_ne C 47 dX5_measure_20 (by decide) (by omega) (fun h153 => ?_) (fun h153 => ?_)
        · refine y_iinc C 2 [(2, .int (sI (a146 + (-1)))), (0, .ref (ad 88)), (1, .int (sI a1))] dX5_measure_47 rfl (by decide) rfl ?_
          refine j_goto C 5 dX5_measure_50 (by decide) ?_
          refine j_lv [1, 2, 0] rfl ?_; exact ih144 (a146 + (-1)) M147 (by omega) hM147
        · refine j_aload_n C 0 0 dX5_measure_23 rfl rfl ?_
          refine y_getC C 4 91 fX5_measure_18 rfl rfl ft_4_3 sm_4_3 rfl hM147 dX5_measure_24 ?_
          refine j_iload_n C 2 2 dX5_measure_27 rfl rfl ?_
          refine j_aload_n C 0 0 dX5_measure_28 rfl rfl ?_
          refine j_iload_n C 2 2 dX5_measure_29 rfl rfl ?_
          refine j_callVi C (d := 0) (As := [.int (sI a146)]) (st := [.int (sI a146), .ref (ad 91)]) 88 (s_lt rfl rfl) (s_kc (c := 4) rfl rfl) (by decide) rfl (s1_X5_isShutAt hM147 a146 (by omega)) gX5_measure_X5_isShutAt rfl hdX5_isShutAt (by decide) (Nat.le_of_ble_eq_true rfl) dX5_measure_30 rfl (fun r154 M155 h156 => ?_)
          obtain ⟨a158, rfl, rfl, h157⟩ := h156
          refine y_if_eq C 40 dX5_measure_33 (by decide) (by omega) (fun h159 => ?_) (fun h159 => ?_)
          · refine j_aload_n C 0 0 dX5_measure_40 rfl rfl ?_
            refine j_iload_n C 2 2 dX5_measure_41 rfl rfl ?_
            refine j_iload_n C 1 1 dX5_measure_42 rfl rfl ?_
            refine j_callVi C (d := 1) (As := [.int (sI a146), .int (sI a1)]) (st := [.int (sI a146), .ref (ad 91)]) 88 (s_lt rfl rfl) (s_kc (c := 4) rfl rfl) (by decide) rfl (s1_X5_stepsFrom hM147 a146 (by omega) a1 (by omega) (by omega)) gX5_measure_X5_stepsFrom rfl hdX5_stepsFrom (by decide) (Nat.le_of_ble_eq_true rfl) dX5_measure_43 rfl (fun r160 M161 h162 => ?_)
            obtain ⟨a164, rfl, rfl, h163⟩ := h162
            refine y_iastF C 40 256 rfl rfl rfl ak_40 an_40 rfl (sb_40 _) hM147 (PX.w hpr rfl rfl) dX5_measure_46 (by omega) (fun M165 eM165 hM165 => ?_)
            refine y_iinc C 2 [(2, .int (sI (a146 + (-1)))), (0, .ref (ad 88)), (1, .int (sI a1))] dX5_measure_47 rfl (by decide) rfl ?_
            refine j_goto C 5 dX5_measure_50 (by decide) ?_
            refine j_lv [1, 2, 0] rfl ?_; exact ih144 (a146 + (-1)) M165 (by omega) hM165
          · refine y_iconst C dX5_measure_36 ?_
            refine j_goto C 46 dX5_measure_37 (by decide) ?_
            refine y_iastF C 40 256 rfl rfl rfl ak_40 an_40 rfl (sb_40 _) hM147 (PX.w hpr rfl rfl) dX5_measure_46 (by omega) (fun M166 eM166 hM166 => ?_)
            refine y_iinc C 2 [(2, .int (sI (a146 + (-1)))), (0, .ref (ad 88)), (1, .int (sI a1))] dX5_measure_47 rfl (by decide) rfl ?_
            refine j_goto C 5 dX5_measure_50 (by decide) ?_
            refine j_lv [1, 2, 0] rfl ?_; exact ih144 (a146 + (-1)) M166 (by omega) hM166
  refine j_lv [1, 2, 0] rfl ?_; exact L145 2010 a101 M0 (by omega) hM0
set_option maxHeartbeats 4000000 in
theorem s1_X5_shortest {l : Launch} {dC : Nat → ClassId} {dI : Nat → Nat → Nat} {ad : Nat → Nat} {cA : Nat → ClassId} {pr : Nat → Nat → Bool} {Kz : mm_M} {M0 : mm_M} (hM0 : INV pr Kz M0) (hpr : PX pr)  : Ci l 3 yX5_shortest wsX5_shortest dC dI ad cA [.ref (ad 88)] M0 (fun r M' => ∃ a : Int, r = sI a ∧ INV pr Kz M' ∧ (-2147483648) ≤ a ∧ a ≤ 2147483647) := by
  refine ci_of (cc := cX5_shortest) (maxL := 1) (ty := .int) (lv := [(0, .ref (ad 88))]) (by decide) rfl (fun r M' hp => rfl) (Nat.le_of_ble_eq_true rfl) rfl ?_
  intro p e s m args below meth c A Q C hret
  refine j_aload_n C 0 0 dX5_shortest_0 rfl rfl ?_
  refine y_iconst C dX5_shortest_1 ?_
  refine j_aload_n C 0 0 dX5_shortest_2 rfl rfl ?_
  refine y_getM C 4 6 fX5_shortest_52 rfl rfl ft_4_9 sm_4_9 (by decide) hM0 dX5_shortest_3 (fun v101 ev101 cv101 => ?_)
  refine y_getI C 6 _ _ fX5_shortest_92 cv101 rfl ft_6_0 sb_6_0 hM0 dX5_shortest_6 (fun a102 ea102 la102 ua102 => ?_)
  refine y_shl1 C 6 64 dX5_shortest_9 rfl (by decide) (by omega) (fun a104 la104 ua104 => ?_)
  refine y_iconst C dX5_shortest_10 ?_
  refine y_isub C dX5_shortest_11 ?_
  refine j_callVi C (d := 2) (As := [.int (sI (a104 - 1))]) (st := []) 88 (s_lt rfl rfl) (s_kc (c := 4) rfl rfl) (by decide) rfl (s1_X5_measure hM0 hpr (a104 - 1) (by omega)) gX5_shortest_X5_measure rfl hdX5_measure (by decide) (Nat.le_of_ble_eq_true rfl) dX5_shortest_12 rfl (fun r105 M106 h107 => ?_)
  obtain ⟨a109, rfl, hM106, h108⟩ := h107
  exact hret _ _ _ _ dX5_shortest_15 ⟨a109, rfl, hM106, by omega⟩
set_option maxHeartbeats 4000000 in
theorem s1_X11_ending {l : Launch} {dC : Nat → ClassId} {dI : Nat → Nat → Nat} {ad : Nat → Nat} {cA : Nat → ClassId} {pr : Nat → Nat → Bool} {Kz : mm_M} {M0 : mm_M} (hM0 : INV pr Kz M0) (hpr : PX pr)  : Ci l 6 yX11_ending wsX11_ending dC dI ad cA [.ref (ad 0)] M0 (fun r M' => ∃ a : Int, r = sI a ∧ INV pr Kz M' ∧ (-2147483648) ≤ a ∧ a ≤ 2147483647) := by
  refine ci_of (cc := cX11_ending) (maxL := 1) (ty := .int) (lv := [(0, .ref (ad 0))]) (by decide) rfl (fun r M' hp => rfl) (Nat.le_of_ble_eq_true rfl) rfl ?_
  intro p e s m args below meth c A Q C hret
  refine j_aload_n C 0 0 dX11_ending_0 rfl rfl ?_
  refine y_getC C 10 88 fX11_ending_94 rfl rfl ft_10_14 sm_10_14 rfl hM0 dX11_ending_1 ?_
  refine j_aload_n C 0 0 dX11_ending_4 rfl rfl ?_
  refine y_getM C 10 6 fX11_ending_26 rfl rfl ft_10_4 sm_10_4 (by decide) hM0 dX11_ending_5 (fun v101 ev101 cv101 => ?_)
  refine j_aload_n C 0 0 dX11_ending_8 rfl rfl ?_
  refine y_getC C 10 12 fX11_ending_36 rfl rfl ft_10_6 sm_10_6 rfl hM0 dX11_ending_9 ?_
  refine j_aload_n C 0 0 dX11_ending_12 rfl rfl ?_
  refine y_getC C 10 12 fX11_ending_36 rfl rfl ft_10_6 sm_10_6 rfl hM0 dX11_ending_13 ?_
  refine y_getI C 8 _ _ fX11_ending_153 rfl rfl ft_8_4 sb_8_4 hM0 dX11_ending_16 (fun a102 ea102 la102 ua102 => ?_)
  refine j_callVv C (d := 5) (As := [.ref (ad v101), .ref (ad 12), .int (sI a102)]) (st := []) 88 (s_lt rfl rfl) (s_kc (c := 4) rfl rfl) (by decide) rfl (s1_X5_look hM0 hpr cv101 rfl a102 (by omega)) gX11_ending_X5_look rfl hdX5_look (by decide) (Nat.le_of_ble_eq_true rfl) dX11_ending_19 rfl (fun M105 h106 => ?_)
  have hM105 := h106
  refine j_aload_n C 0 0 dX11_ending_22 rfl rfl ?_
  refine y_getC C 10 88 fX11_ending_94 rfl rfl ft_10_14 sm_10_14 rfl hM105 dX11_ending_23 ?_
  refine j_callVi C (d := 3) (As := []) (st := []) 88 (s_lt rfl rfl) (s_kc (c := 4) rfl rfl) (by decide) rfl (s1_X5_shortest hM105 hpr) gX11_ending_X5_shortest rfl hdX5_shortest (by decide) (Nat.le_of_ble_eq_true rfl) dX11_ending_26 rfl (fun r108 M109 h110 => ?_)
  obtain ⟨a112, rfl, hM109, h111⟩ := h110
  exact hret _ _ _ _ dX11_ending_29 ⟨a112, rfl, hM109, by omega⟩
set_option maxHeartbeats 4000000 in
theorem s2_X5_pick {l : Launch} {dC : Nat → ClassId} {dI : Nat → Nat → Nat} {ad : Nat → Nat} {cA : Nat → ClassId} {pr : Nat → Nat → Bool} {Kz : mm_M} {M0 : mm_M} (hM0 : INV pr Kz M0) (a1 : Int) (ha1 : -2147483648 ≤ a1 ∧ a1 ≤ 2147483647) (a2 : Int) (ha2 : -2147483648 ≤ a2 ∧ a2 ≤ 2147483647) (hp0 : 0 ≤ a1 ∧ a1 ≤ 255) (hp1 : 0 ≤ a2 ∧ a2 ≤ 5) : Ci l 0 yX5_pick wsX5_pick dC dI ad cA [.ref (ad 88), .int (sI a1), .int (sI a2)] M0 (fun r M' => ∃ a : Int, r = sI a ∧ M0 = M' ∧ (-1) ≤ a ∧ a ≤ 7 ∧ ((0 ≤ ((a1 * 6) + a2) ∧ ((a1 * 6) + a2) < 1536 ∧ a = (M0.1 89 (((a1 * 6) + a2)).toNat).toInt))) := by
  refine ci_of (cc := cX5_pick) (maxL := 4) (ty := .int) (lv := [(0, .ref (ad 88)), (1, .int (sI a1)), (2, .int (sI a2))]) (by decide) rfl (fun r M' hp => rfl) (Nat.le_of_ble_eq_true rfl) rfl ?_
  intro p e s m args below meth c A Q C hret
  refine j_iload_n C 1 1 dX5_pick_0 rfl rfl ?_
  refine y_bipush C dX5_pick_1 rfl ?_
  refine y_imul C dX5_pick_3 ?_
  refine j_iload_n C 2 2 dX5_pick_4 rfl rfl ?_
  refine y_iadd C dX5_pick_5 ?_
  refine j_istore_n C 3 [(3, .int (sI ((a1 * 6) + a2))), (0, .ref (ad 88)), (1, .int (sI a1)), (2, .int (sI a2))] dX5_pick_6 rfl (by decide) rfl ?_
  refine j_iload_n C 0 3 dX5_pick_7 rfl rfl ?_
  refine y_if_lt C 29 dX5_pick_8 (by decide) (by omega) (fun h101 => ?_) (fun h101 => ?_)
  · exfalso; omega
  · refine j_iload_n C 0 3 dX5_pick_11 rfl rfl ?_
    refine j_aload_n C 1 0 dX5_pick_12 rfl rfl ?_
    refine y_getC C 4 89 fX5_pick_9 rfl rfl ft_4_1 sm_4_1 rfl hM0 dX5_pick_13 ?_
    refine y_alen C 38 1536 rfl rfl rfl an_38 rfl rfl dX5_pick_16 ?_
    refine y_icmp_ge C 29 dX5_pick_17 (by decide) (by omega) (fun h102 => ?_) (fun h102 => ?_)
    · exfalso; omega
    · refine j_aload_n C 1 0 dX5_pick_20 rfl rfl ?_
      refine y_getC C 4 89 fX5_pick_9 rfl rfl ft_4_1 sm_4_1 rfl hM0 dX5_pick_21 ?_
      refine j_iload_n C 0 3 dX5_pick_24 rfl rfl ?_
      refine y_iald C 38 1536 _ _ rfl rfl rfl ak_38 an_38 rfl (sb_38 _) hM0 dX5_pick_25 (by omega) (fun a103 ea103 la103 ua103 => ?_)
      refine j_goto C 30 dX5_pick_26 (by decide) ?_
      exact hret _ _ _ _ dX5_pick_30 ⟨a103, rfl, rfl, by omega⟩
set_option maxHeartbeats 4000000 in
theorem s1_X5_nearestComer {l : Launch} {dC : Nat → ClassId} {dI : Nat → Nat → Nat} {ad : Nat → Nat} {cA : Nat → ClassId} {pr : Nat → Nat → Bool} {Kz : mm_M} {M0 : mm_M} (hM0 : INV pr Kz M0) (a1 : Int) (ha1 : -2147483648 ≤ a1 ∧ a1 ≤ 2147483647) (hp0 : 0 ≤ a1 ∧ a1 ≤ 255) : Ci l 1 yX5_nearestComer wsX5_nearestComer dC dI ad cA [.ref (ad 88), .int (sI a1)] M0 (fun r M' => ∃ a : Int, r = sI a ∧ M0 = M' ∧ (-1) ≤ a ∧ a ≤ 5 ∧ (a = -1 ∨ 0 ≤ a ∧ a < 6 ∧ 0 ≤ (M0.1 89 ((a1 * 6) + a).toNat).toInt)) := by
  refine ci_of (cc := cX5_nearestComer) (maxL := 4) (ty := .int) (lv := [(0, .ref (ad 88)), (1, .int (sI a1))]) (by decide) rfl (fun r M' hp => rfl) (Nat.le_of_ble_eq_true rfl) rfl ?_
  intro p e s m args below meth c A Q C hret
  refine y_iconst C dX5_nearestComer_0 ?_
  refine j_istore_n C 2 [(2, .int (sI 0)), (0, .ref (ad 88)), (1, .int (sI a1))] dX5_nearestComer_1 rfl (by decide) rfl ?_
  have L264 : ∀ (n262 : Nat), ∀ (a265 : Int), (0 ≤ a265 ∧ a265 ≤ 6 ∧ (6 - a265) < (n262 : Int)) → jj p l e (cn_R 1) s m args below meth c 0 0 Q 4 dC dI ad cA A M0 2 [(0, .ref (ad 88)), (1, .int (sI a1)), (2, .int (sI a265))] [] := by
    intro n262
    induction n262 with
    | zero =>
      intro a265 h266
      exfalso; omega
    | succ n262 ih263 =>
      intro a265 h266
      refine j_iload_n C 2 2 dX5_nearestComer_2 rfl rfl ?_
      refine j_aload_n C 0 0 dX5_nearestComer_3 rfl rfl ?_
      refine y_getM C 4 6 fX5_nearestComer_52 rfl rfl ft_4_9 sm_4_9 (by decide) hM0 dX5_nearestComer_4 (fun v267 ev267 cv267 => ?_)
      refine y_getI C 6 _ _ fX5_nearestComer_92 cv267 rfl ft_6_0 sb_6_0 hM0 dX5_nearestComer_7 (fun a268 ea268 la268 ua268 => ?_)
      refine y_icmp_ge C 72 dX5_nearestComer_10 (by decide) (by omega) (fun h270 => ?_) (fun h270 => ?_)
      · refine y_iconst C dX5_nearestComer_72 ?_
        exact hret _ _ _ _ dX5_nearestComer_73 ⟨(-1), rfl, rfl, by omega⟩
      · refine j_aload_n C 0 0 dX5_nearestComer_13 rfl rfl ?_
        refine j_iload_n C 1 1 dX5_nearestComer_14 rfl rfl ?_
        refine j_iload_n C 2 2 dX5_nearestComer_15 rfl rfl ?_
        refine j_callVi C (d := 0) (As := [.int (sI a1), .int (sI a265)]) (st := []) 88 (s_lt rfl rfl) (s_kc (c := 4) rfl rfl) (by decide) rfl (s2_X5_pick hM0 a1 (by omega) a265 (by omega) (by omega) (by omega)) gX5_nearestComer_X5_pick rfl hdX5_pick (by decide) (Nat.le_of_ble_eq_true rfl) dX5_nearestComer_16 rfl (fun r271 M272 h273 => ?_)
        obtain ⟨a275, rfl, rfl, h274⟩ := h273
        refine j_istore_n C 3 [(3, .int (sI a275)), (0, .ref (ad 88)), (1, .int (sI a1)), (2, .int (sI a265))] dX5_nearestComer_19 rfl (by decide) rfl ?_
        refine j_iload_n C 0 3 dX5_nearestComer_20 rfl rfl ?_
        refine y_if_lt C 66 dX5_nearestComer_21 (by decide) (by omega) (fun h276 => ?_) (fun h276 => ?_)
        · refine y_iinc C 3 [(2, .int (sI (a265 + 1))), (3, .int (sI a275)), (0, .ref (ad 88)), (1, .int (sI a1))] dX5_nearestComer_66 rfl (by decide) rfl ?_
          refine j_goto C 2 dX5_nearestComer_69 (by decide) ?_
          refine j_lv [2, 3, 0] rfl ?_; exact ih263 (a265 + 1) (by omega)
        · refine j_iload_n C 2 1 dX5_nearestComer_24 rfl rfl ?_
          refine j_iload_n C 0 3 dX5_nearestComer_25 rfl rfl ?_
          refine y_ishrP C dX5_nearestComer_26 (by omega) (fun a277 la277 ua277 => ?_)
          refine y_iconst C dX5_nearestComer_27 ?_
          refine y_iandR C dX5_nearestComer_28 (by omega) (fun a278 la278 ua278 => ?_)
          refine y_if_ne C 66 dX5_nearestComer_29 (by decide) (by omega) (fun h279 => ?_) (fun h279 => ?_)
          · refine y_iinc C 3 [(2, .int (sI (a265 + 1))), (3, .int (sI a275)), (0, .ref (ad 88)), (1, .int (sI a1))] dX5_nearestComer_66 rfl (by decide) rfl ?_
            refine j_goto C 2 dX5_nearestComer_69 (by decide) ?_
            refine j_lv [2, 3, 0] rfl ?_; exact ih263 (a265 + 1) (by omega)
          · refine j_aload_n C 1 0 dX5_nearestComer_32 rfl rfl ?_
            refine y_getC C 4 91 fX5_nearestComer_18 rfl rfl ft_4_3 sm_4_3 rfl hM0 dX5_nearestComer_33 ?_
            refine j_iload_n C 2 1 dX5_nearestComer_36 rfl rfl ?_
            refine y_iconst C dX5_nearestComer_37 ?_
            refine j_iload_n C 0 3 dX5_nearestComer_38 rfl rfl ?_
            refine y_shl1 C 7 128 dX5_nearestComer_39 rfl (by decide) (by omega) (fun a280 la280 ua280 => ?_)
            refine y_iorN C 8 255 dX5_nearestComer_40 rfl (by decide) (by omega) (fun a281 la281 ua281 => ?_)
            refine y_iald C 40 256 _ _ rfl rfl rfl ak_40 an_40 rfl (sb_40 _) hM0 dX5_nearestComer_41 (by omega) (fun a282 ea282 la282 ua282 => ?_)
            refine y_if_lt C 66 dX5_nearestComer_42 (by decide) (by omega) (fun h283 => ?_) (fun h283 => ?_)
            · refine y_iinc C 3 [(2, .int (sI (a265 + 1))), (3, .int (sI a275)), (0, .ref (ad 88)), (1, .int (sI a1))] dX5_nearestComer_66 rfl (by decide) rfl ?_
              refine j_goto C 2 dX5_nearestComer_69 (by decide) ?_
              refine j_lv [2, 3, 0] rfl ?_; exact ih263 (a265 + 1) (by omega)
            · refine j_aload_n C 1 0 dX5_nearestComer_45 rfl rfl ?_
              refine y_getC C 4 91 fX5_nearestComer_18 rfl rfl ft_4_3 sm_4_3 rfl hM0 dX5_nearestComer_46 ?_
              refine j_iload_n C 2 1 dX5_nearestComer_49 rfl rfl ?_
              refine y_iconst C dX5_nearestComer_50 ?_
              refine j_iload_n C 0 3 dX5_nearestComer_51 rfl rfl ?_
              refine y_shl1 C 7 128 dX5_nearestComer_52 rfl (by decide) (by omega) (fun a284 la284 ua284 => ?_)
              refine y_iorN C 8 255 dX5_nearestComer_53 rfl (by decide) (by omega) (fun a285 la285 ua285 => ?_)
              refine y_iald C 40 256 _ _ rfl rfl rfl ak_40 an_40 rfl (sb_40 _) hM0 dX5_nearestComer_54 (by omega) (fun a286 ea286 la286 ua286 => ?_)
              refine j_aload_n C 1 0 dX5_nearestComer_55 rfl rfl ?_
              refine y_getC C 4 91 fX5_nearestComer_18 rfl rfl ft_4_3 sm_4_3 rfl hM0 dX5_nearestComer_56 ?_
              refine j_iload_n C 2 1 dX5_nearestComer_59 rfl rfl ?_
              refine y_iald C 40 256 _ _ rfl rfl rfl ak_40 an_40 rfl (sb_40 _) hM0 dX5_nearestComer_60 (by omega) (fun a287 ea287 la287 ua287 => ?_)
              refine y_icmp_ge C 66 dX5_nearestComer_61 (by decide) (by omega) (fun h288 => ?_) (fun h288 => ?_)
              · refine y_iinc C 3 [(2, .int (sI (a265 + 1))), (3, .int (sI a275)), (0, .ref (ad 88)), (1, .int (sI a1))] dX5_nearestComer_66 rfl (by decide) rfl ?_
                refine j_goto C 2 dX5_nearestComer_69 (by decide) ?_
                refine j_lv [2, 3, 0] rfl ?_; exact ih263 (a265 + 1) (by omega)
              · refine j_iload_n C 3 2 dX5_nearestComer_64 rfl rfl ?_
                exact hret _ _ _ _ dX5_nearestComer_65 ⟨a265, rfl, rfl, by omega⟩
  refine j_lv [1, 2, 0] rfl ?_; exact L264 2010 0 (by omega)
set_option maxHeartbeats 4000000 in
theorem s1_X5_comerAt {l : Launch} {dC : Nat → ClassId} {dI : Nat → Nat → Nat} {ad : Nat → Nat} {cA : Nat → ClassId} {pr : Nat → Nat → Bool} {Kz : mm_M} {M0 : mm_M} (hM0 : INV pr Kz M0) (a1 : Int) (ha1 : -2147483648 ≤ a1 ∧ a1 ≤ 2147483647) : Ci l 2 yX5_comerAt wsX5_comerAt dC dI ad cA [.ref (ad 88), .int (sI a1)] M0 (fun r M' => ∃ a : Int, r = sI a ∧ M0 = M' ∧ (-1) ≤ a ∧ a ≤ 5) := by
  refine ci_of (cc := cX5_comerAt) (maxL := 5) (ty := .int) (lv := [(0, .ref (ad 88)), (1, .int (sI a1))]) (by decide) rfl (fun r M' hp => rfl) (Nat.le_of_ble_eq_true rfl) rfl ?_
  intro p e s m args below meth c A Q C hret
  refine j_aload_n C 0 0 dX5_comerAt_0 rfl rfl ?_
  refine y_getI C 4 _ _ fX5_comerAt_45 rfl rfl ft_4_13 sb_4_13 hM0 dX5_comerAt_1 (fun a101 ea101 la101 ua101 => ?_)
  refine j_istore_n C 2 [(2, .int (sI a101)), (0, .ref (ad 88)), (1, .int (sI a1))] dX5_comerAt_4 rfl (by decide) rfl ?_
  refine y_iconst C dX5_comerAt_5 ?_
  refine j_istore_n C 3 [(3, .int (sI (-1))), (2, .int (sI a101)), (0, .ref (ad 88)), (1, .int (sI a1))] dX5_comerAt_6 rfl (by decide) rfl ?_
  refine y_iconst C dX5_comerAt_7 ?_
  refine j_istore C 4 [(4, .int (sI 0)), (3, .int (sI (-1))), (2, .int (sI a101)), (0, .ref (ad 88)), (1, .int (sI a1))] dX5_comerAt_8 (by decide) rfl ?_
  have L285 : ∀ (n283 : Nat), ∀ (a286 : Int) (a287 : Int) (a288 : Int), (0 ≤ a286 ∧ a286 ≤ 255 ∧ (-1) ≤ a287 ∧ a287 ≤ 5 ∧ 0 ≤ a288 ∧ a288 ≤ 9 ∧ (9 - a288) < (n283 : Int)) → jj p l e (cn_R 2) s m args below meth c 0 0 Q 5 dC dI ad cA A M0 10 [(0, .ref (ad 88)), (1, .int (sI a1)), (2, .int (sI a286)), (3, .int (sI a287)), (4, .int (sI a288))] [] := by
    intro n283
    induction n283 with
    | zero =>
      intro a286 a287 a288 h289
      exfalso; omega
    | succ n283 ih284 =>
      intro a286 a287 a288 h289
      refine j_iload C 4 dX5_comerAt_10 rfl ?_
      refine j_iload_n C 1 1 dX5_comerAt_12 rfl rfl ?_
      refine y_icmp_gt C 53 dX5_comerAt_13 (by decide) (by omega) (fun h290 => ?_) (fun h290 => ?_)
      · refine j_iload_n C 3 3 dX5_comerAt_53 rfl rfl ?_
        exact hret _ _ _ _ dX5_comerAt_54 ⟨a287, rfl, rfl, by omega⟩
      · refine j_iload C 4 dX5_comerAt_16 rfl ?_
        refine y_bipush C dX5_comerAt_18 rfl ?_
        refine y_icmp_gt C 53 dX5_comerAt_20 (by decide) (by omega) (fun h291 => ?_) (fun h291 => ?_)
        · refine j_iload_n C 3 3 dX5_comerAt_53 rfl rfl ?_
          exact hret _ _ _ _ dX5_comerAt_54 ⟨a287, rfl, rfl, by omega⟩
        · refine j_aload_n C 0 0 dX5_comerAt_23 rfl rfl ?_
          refine j_iload_n C 2 2 dX5_comerAt_24 rfl rfl ?_
          refine j_callVi C (d := 1) (As := [.int (sI a286)]) (st := []) 88 (s_lt rfl rfl) (s_kc (c := 4) rfl rfl) (by decide) rfl (s1_X5_nearestComer hM0 a286 (by omega) (by omega)) gX5_comerAt_X5_nearestComer rfl hdX5_nearestComer (by decide) (Nat.le_of_ble_eq_true rfl) dX5_comerAt_25 rfl (fun r292 M293 h294 => ?_)
          obtain ⟨a296, rfl, rfl, h295⟩ := h294
          refine j_istore_n C 3 [(3, .int (sI a296)), (0, .ref (ad 88)), (1, .int (sI a1)), (2, .int (sI a286)), (4, .int (sI a288))] dX5_comerAt_28 rfl (by decide) rfl ?_
          refine j_iload_n C 0 3 dX5_comerAt_29 rfl rfl ?_
          refine y_iconst C dX5_comerAt_30 ?_
          refine y_icmp_ne C 36 dX5_comerAt_31 (by decide) (by omega) (fun h297 => ?_) (fun h297 => ?_)
          · refine j_iload_n C 3 2 dX5_comerAt_36 rfl rfl ?_
            refine y_iconst C dX5_comerAt_37 ?_
            refine j_aload_n C 1 0 dX5_comerAt_38 rfl rfl ?_
            refine j_iload_n C 3 2 dX5_comerAt_39 rfl rfl ?_
            refine j_iload_n C 0 3 dX5_comerAt_40 rfl rfl ?_
            refine j_callVi C (d := 0) (As := [.int (sI a286), .int (sI a296)]) (st := [.int (sI 1), .int (sI a286)]) 88 (s_lt rfl rfl) (s_kc (c := 4) rfl rfl) (by decide) rfl (s2_X5_pick hM0 a286 (by omega) a296 (by omega) (by omega) (by omega)) gX5_comerAt_X5_pick rfl hdX5_pick (by decide) (Nat.le_of_ble_eq_true rfl) dX5_comerAt_41 rfl (fun r298 M299 h300 => ?_)
            obtain ⟨a302, rfl, rfl, h301⟩ := h300
            have na302 : 0 ≤ a302 ∧ a302 ≤ 7 := by omega
            refine y_shl1 C 7 128 dX5_comerAt_44 rfl (by decide) (by omega) (fun a303 la303 ua303 => ?_)
            refine y_iorN C 8 255 dX5_comerAt_45 rfl (by decide) (by omega) (fun a304 la304 ua304 => ?_)
            refine j_istore_n C 2 [(2, .int (sI a304)), (3, .int (sI a296)), (0, .ref (ad 88)), (1, .int (sI a1)), (4, .int (sI a288))] dX5_comerAt_46 rfl (by decide) rfl ?_
            refine y_iinc C 4 [(4, .int (sI (a288 + 1))), (2, .int (sI a304)), (3, .int (sI a296)), (0, .ref (ad 88)), (1, .int (sI a1))] dX5_comerAt_47 rfl (by decide) rfl ?_
            refine j_goto C 10 dX5_comerAt_50 (by decide) ?_
            refine j_lv [3, 4, 1, 2, 0] rfl ?_; exact ih284 a304 a296 (a288 + 1) (by omega)
          · refine y_iconst C dX5_comerAt_34 ?_
            exact hret _ _ _ _ dX5_comerAt_35 ⟨(-1), rfl, rfl, by omega⟩
  refine j_lv [3, 4, 2, 1, 0] rfl ?_; exact L285 2010 a101 (-1) 0 (by omega)
set_option maxHeartbeats 4000000 in
theorem s1_X11_endingBy {l : Launch} {dC : Nat → ClassId} {dI : Nat → Nat → Nat} {ad : Nat → Nat} {cA : Nat → ClassId} {pr : Nat → Nat → Bool} {Kz : mm_M} {M0 : mm_M} (hM0 : INV pr Kz M0) (hpr : PX pr) (a1 : Int) (ha1 : -2147483648 ≤ a1 ∧ a1 ≤ 2147483647) : Ci l 6 yX11_endingBy wsX11_endingBy dC dI ad cA [.ref (ad 0), .int (sI a1)] M0 (fun r M' => ∃ a : Int, r = sI a ∧ INV pr Kz M' ∧ (-3) ≤ a ∧ a ≤ 5) := by
  refine ci_of (cc := cX11_endingBy) (maxL := 2) (ty := .int) (lv := [(0, .ref (ad 0)), (1, .int (sI a1))]) (by decide) rfl (fun r M' hp => rfl) (Nat.le_of_ble_eq_true rfl) rfl ?_
  intro p e s m args below meth c A Q C hret
  refine j_iload_n C 1 1 dX11_endingBy_0 rfl rfl ?_
  refine y_if_ge C 7 dX11_endingBy_1 (by decide) (by omega) (fun h101 => ?_) (fun h101 => ?_)
  · refine j_aload_n C 0 0 dX11_endingBy_7 rfl rfl ?_
    refine y_getC C 10 88 fX11_endingBy_94 rfl rfl ft_10_14 sm_10_14 rfl hM0 dX11_endingBy_8 ?_
    refine j_aload_n C 0 0 dX11_endingBy_11 rfl rfl ?_
    refine y_getM C 10 6 fX11_endingBy_26 rfl rfl ft_10_4 sm_10_4 (by decide) hM0 dX11_endingBy_12 (fun v102 ev102 cv102 => ?_)
    refine j_aload_n C 0 0 dX11_endingBy_15 rfl rfl ?_
    refine y_getC C 10 12 fX11_endingBy_36 rfl rfl ft_10_6 sm_10_6 rfl hM0 dX11_endingBy_16 ?_
    refine j_aload_n C 0 0 dX11_endingBy_19 rfl rfl ?_
    refine y_getC C 10 12 fX11_endingBy_36 rfl rfl ft_10_6 sm_10_6 rfl hM0 dX11_endingBy_20 ?_
    refine y_getI C 8 _ _ fX11_endingBy_153 rfl rfl ft_8_4 sb_8_4 hM0 dX11_endingBy_23 (fun a103 ea103 la103 ua103 => ?_)
    refine j_callVv C (d := 5) (As := [.ref (ad v102), .ref (ad 12), .int (sI a103)]) (st := []) 88 (s_lt rfl rfl) (s_kc (c := 4) rfl rfl) (by decide) rfl (s1_X5_look hM0 hpr cv102 rfl a103 (by omega)) gX11_endingBy_X5_look rfl hdX5_look (by decide) (Nat.le_of_ble_eq_true rfl) dX11_endingBy_26 rfl (fun M106 h107 => ?_)
    have hM106 := h107
    refine j_iload_n C 1 1 dX11_endingBy_29 rfl rfl ?_
    refine j_aload_n C 0 0 dX11_endingBy_30 rfl rfl ?_
    refine y_getC C 10 88 fX11_endingBy_94 rfl rfl ft_10_14 sm_10_14 rfl hM106 dX11_endingBy_31 ?_
    refine j_callVi C (d := 3) (As := []) (st := [.int (sI a1)]) 88 (s_lt rfl rfl) (s_kc (c := 4) rfl rfl) (by decide) rfl (s1_X5_shortest hM106 hpr) gX11_endingBy_X5_shortest rfl hdX5_shortest (by decide) (Nat.le_of_ble_eq_true rfl) dX11_endingBy_34 rfl (fun r109 M110 h111 => ?_)
    obtain ⟨a113, rfl, hM110, h112⟩ := h111
    refine y_icmp_ge C 51 dX11_endingBy_37 (by decide) (by omega) (fun h114 => ?_) (fun h114 => ?_)
    · refine y_iconst C dX11_endingBy_51 ?_
      exact hret _ _ _ _ dX11_endingBy_52 ⟨(-1), rfl, hM110, by omega⟩
    · refine j_aload_n C 0 0 dX11_endingBy_40 rfl rfl ?_
      refine y_getC C 10 88 fX11_endingBy_94 rfl rfl ft_10_14 sm_10_14 rfl hM110 dX11_endingBy_41 ?_
      refine j_iload_n C 1 1 dX11_endingBy_44 rfl rfl ?_
      refine j_callVi C (d := 2) (As := [.int (sI a1)]) (st := []) 88 (s_lt rfl rfl) (s_kc (c := 4) rfl rfl) (by decide) rfl (s1_X5_comerAt hM110 a1 (by omega)) gX11_endingBy_X5_comerAt rfl hdX5_comerAt (by decide) (Nat.le_of_ble_eq_true rfl) dX11_endingBy_45 rfl (fun r115 M116 h117 => ?_)
      obtain ⟨a119, rfl, rfl, h118⟩ := h117
      refine j_goto C 52 dX11_endingBy_48 (by decide) ?_
      exact hret _ _ _ _ dX11_endingBy_52 ⟨a119, rfl, hM110, by omega⟩
  · refine y_bipush C dX11_endingBy_4 rfl ?_
    exact hret _ _ _ _ dX11_endingBy_6 ⟨(-3), rfl, hM0, by omega⟩
set_option maxHeartbeats 4000000 in
theorem s1_J7_fill_d0a16 {l : Launch} {dC : Nat → ClassId} {dI : Nat → Nat → Nat} {ad : Nat → Nat} {cA : Nat → ClassId} {pr : Nat → Nat → Bool} {Kz : mm_M} {M0 : mm_M} (hM0 : INV pr Kz M0) (hpr : PX pr) {v0 : Nat} (cv0 : s_c v0 = 41) (a1 : Int) (ha1 : -9223372036854775808 ≤ a1 ∧ a1 ≤ 9223372036854775807) : Cv l 0 yJ7_fill_d0a16 wsJ7_fill_d0a16 dC dI ad cA [.ref (ad v0), .long (sJ a1)] M0 (fun M' => INV pr Kz M') := by
  refine cv_of (cc := cJ7_fill_d0a16) (maxL := 5) (lv := [(0, .ref (ad v0)), (1, .long (sJ a1))]) (by decide) rfl (Nat.le_of_ble_eq_true rfl) rfl ?_
  intro p e s m args below meth c A Q C hret
  refine y_iconst C dJ7_fill_d0a16_0 ?_
  refine j_istore_n C 3 [(3, .int (sI 0)), (0, .ref (ad v0)), (1, .long (sJ a1))] dJ7_fill_d0a16_1 rfl (by decide) rfl ?_
  refine j_aload_n C 1 0 dJ7_fill_d0a16_2 rfl rfl ?_
  refine y_alen C 41 256 cv0 rfl rfl an_41 rfl rfl dJ7_fill_d0a16_3 ?_
  refine j_istore C 4 [(4, .int (sI 256)), (3, .int (sI 0)), (0, .ref (ad v0)), (1, .long (sJ a1))] dJ7_fill_d0a16_4 (by decide) rfl ?_
  have L211 : ∀ (n209 : Nat), ∀ (a212 : Int) (M213 : mm_M), (0 ≤ a212 ∧ a212 ≤ 256 ∧ (256 - a212) < (n209 : Int)) → INV pr Kz M213 → jj p l e (cn_R 0) s m args below meth c 0 0 Q 5 dC dI ad cA A M213 6 [(0, .ref (ad v0)), (1, .long (sJ a1)), (3, .int (sI a212)), (4, .int (sI 256))] [] := by
    intro n209
    induction n209 with
    | zero =>
      intro a212 M213 h214 hM213
      exfalso; omega
    | succ n209 ih210 =>
      intro a212 M213 h214 hM213
      refine j_iload_n C 2 3 dJ7_fill_d0a16_6 rfl rfl ?_
      refine j_iload C 3 dJ7_fill_d0a16_7 rfl ?_
      refine y_icmp_ge C 22 dJ7_fill_d0a16_9 (by decide) (by omega) (fun h215 => ?_) (fun h215 => ?_)
      · exact hret _ _ _ dJ7_fill_d0a16_22 hM213
      · refine j_aload_n C 0 0 dJ7_fill_d0a16_12 rfl rfl ?_
        refine j_iload_n C 2 3 dJ7_fill_d0a16_13 rfl rfl ?_
        refine j_lload_n C 1 1 dJ7_fill_d0a16_14 rfl rfl ?_
        refine y_last C 41 256 cv0 rfl rfl ak_41 an_41 rfl hM213 (PX.w hpr cv0 rfl) dJ7_fill_d0a16_15 (by omega) (fun M216 eM216 hM216 => ?_)
        refine y_iinc C 2 [(3, .int (sI (a212 + 1))), (0, .ref (ad v0)), (1, .long (sJ a1)), (4, .int (sI 256))] dJ7_fill_d0a16_16 rfl (by decide) rfl ?_
        refine j_goto C 6 dJ7_fill_d0a16_19 (by decide) ?_
        refine j_lv [1, 2, 0, 3] rfl ?_; exact ih210 (a212 + 1) M216 (by omega) hM216
  refine j_lv [2, 3, 1, 0] rfl ?_; exact L211 2010 0 M0 (by omega) hM0
set_option maxHeartbeats 4000000 in
theorem s1_X5_beginRows {l : Launch} {dC : Nat → ClassId} {dI : Nat → Nat → Nat} {ad : Nat → Nat} {cA : Nat → ClassId} {pr : Nat → Nat → Bool} {Kz : mm_M} {M0 : mm_M} (hM0 : INV pr Kz M0) (hpr : PX pr)  : Cv l 1 yX5_beginRows wsX5_beginRows dC dI ad cA [.ref (ad 88)] M0 (fun M' => INV pr Kz M') := by
  refine cv_of (cc := cX5_beginRows) (maxL := 1) (lv := [(0, .ref (ad 88))]) (by decide) rfl (Nat.le_of_ble_eq_true rfl) rfl ?_
  intro p e s m args below meth c A Q C hret
  refine j_aload_n C 0 0 dX5_beginRows_0 rfl rfl ?_
  refine y_getM C 4 41 fX5_beginRows_21 rfl rfl ft_4_4 sm_4_4 (by decide) hM0 dX5_beginRows_1 (fun v101 ev101 cv101 => ?_)
  refine y_lconst C 0 dX5_beginRows_4 rfl ?_
  refine j_callSv C (d := 0) (As := [.ref (ad v101), .long (sJ 0)]) (st := []) (s1_J7_fill_d0a16 hM0 hpr cv101 0 (by omega)) gX5_beginRows_J7_fill_d0a16 rfl hdJ7_fill_d0a16s (by decide) (Nat.le_of_ble_eq_true rfl) dX5_beginRows_5 rfl (fun M103 h104 => ?_)
  have hM103 := h104
  refine j_aload_n C 0 0 dX5_beginRows_8 rfl rfl ?_
  refine y_getM C 4 41 fX5_beginRows_21 rfl rfl ft_4_4 sm_4_4 (by decide) hM103 dX5_beginRows_9 (fun v106 ev106 cv106 => ?_)
  refine j_aload_n C 0 0 dX5_beginRows_12 rfl rfl ?_
  refine y_getI C 4 _ _ fX5_beginRows_45 rfl rfl ft_4_13 sb_4_13 hM103 dX5_beginRows_13 (fun a107 ea107 la107 ua107 => ?_)
  refine y_lconst C 1 dX5_beginRows_16 rfl ?_
  refine y_last C 41 256 cv106 rfl rfl ak_41 an_41 rfl hM103 (PX.w hpr cv106 rfl) dX5_beginRows_17 (by omega) (fun M109 eM109 hM109 => ?_)
  exact hret _ _ _ dX5_beginRows_18 hM109
set_option maxHeartbeats 4000000 in
theorem s1_X5_swapWays {l : Launch} {dC : Nat → ClassId} {dI : Nat → Nat → Nat} {ad : Nat → Nat} {cA : Nat → ClassId} {pr : Nat → Nat → Bool} {Kz : mm_M} {M0 : mm_M} (hM0 : INV pr Kz M0) (hpr : PX pr)  : Cv l 0 yX5_swapWays wsX5_swapWays dC dI ad cA [.ref (ad 88)] M0 (fun M' => INV pr Kz M') := by
  refine cv_of (cc := cX5_swapWays) (maxL := 2) (lv := [(0, .ref (ad 88))]) (by decide) rfl (Nat.le_of_ble_eq_true rfl) rfl ?_
  intro p e s m args below meth c A Q C hret
  refine j_aload_n C 0 0 dX5_swapWays_0 rfl rfl ?_
  refine y_getM C 4 41 fX5_swapWays_21 rfl rfl ft_4_4 sm_4_4 (by decide) hM0 dX5_swapWays_1 (fun v101 ev101 cv101 => ?_)
  refine j_astore_n C 1 [(1, .ref (ad v101)), (0, .ref (ad 88))] dX5_swapWays_4 rfl (by decide) rfl ?_
  refine j_aload_n C 1 0 dX5_swapWays_5 rfl rfl ?_
  refine j_aload_n C 1 0 dX5_swapWays_6 rfl rfl ?_
  refine y_getM C 4 41 fX5_swapWays_25 rfl rfl ft_4_5 sm_4_5 (by decide) hM0 dX5_swapWays_7 (fun v102 ev102 cv102 => ?_)
  refine y_putP C 4 41 qX5_swapWays_21 rfl rfl rfl rfl ft_4_4 sm_4_4 (by decide) hM0 (PX.w hpr rfl rfl) cv102 dX5_swapWays_10 (fun M103 eM103 hM103 => ?_)
  refine j_aload_n C 1 0 dX5_swapWays_13 rfl rfl ?_
  refine j_aload_n C 0 1 dX5_swapWays_14 rfl rfl ?_
  refine y_putP C 4 41 qX5_swapWays_25 rfl rfl rfl rfl ft_4_5 sm_4_5 (by decide) hM103 (PX.w hpr rfl rfl) cv101 dX5_swapWays_15 (fun M104 eM104 hM104 => ?_)
  exact hret _ _ _ dX5_swapWays_18 hM104
set_option maxHeartbeats 4000000 in
theorem s1_X5_lengthenRows {l : Launch} {dC : Nat → ClassId} {dI : Nat → Nat → Nat} {ad : Nat → Nat} {cA : Nat → ClassId} {pr : Nat → Nat → Bool} {Kz : mm_M} {M0 : mm_M} (hM0 : INV pr Kz M0) (hpr : PX pr) (a1 : Int) (ha1 : -2147483648 ≤ a1 ∧ a1 ≤ 2147483647) : Cv l 1 yX5_lengthenRows wsX5_lengthenRows dC dI ad cA [.ref (ad 88), .int (sI a1)] M0 (fun M' => INV pr Kz M') := by
  refine cv_of (cc := cX5_lengthenRows) (maxL := 5) (lv := [(0, .ref (ad 88)), (1, .int (sI a1))]) (by decide) rfl (Nat.le_of_ble_eq_true rfl) rfl ?_
  intro p e s m args below meth c A Q C hret
  refine j_aload_n C 0 0 dX5_lengthenRows_0 rfl rfl ?_
  refine y_getM C 4 41 fX5_lengthenRows_25 rfl rfl ft_4_5 sm_4_5 (by decide) hM0 dX5_lengthenRows_1 (fun v101 ev101 cv101 => ?_)
  refine y_lconst C 0 dX5_lengthenRows_4 rfl ?_
  refine j_callSv C (d := 0) (As := [.ref (ad v101), .long (sJ 0)]) (st := []) (s1_J7_fill_d0a16 hM0 hpr cv101 0 (by omega)) gX5_lengthenRows_J7_fill_d0a16 rfl hdJ7_fill_d0a16s (by decide) (Nat.le_of_ble_eq_true rfl) dX5_lengthenRows_5 rfl (fun M103 h104 => ?_)
  have hM103 := h104
  refine j_aload_n C 0 0 dX5_lengthenRows_8 rfl rfl ?_
  refine y_getI C 4 _ _ fX5_lengthenRows_45 rfl rfl ft_4_13 sb_4_13 hM103 dX5_lengthenRows_9 (fun a106 ea106 la106 ua106 => ?_)
  refine j_istore_n C 2 [(2, .int (sI a106)), (0, .ref (ad 88)), (1, .int (sI a1))] dX5_lengthenRows_12 rfl (by decide) rfl ?_
  have L624 : ∀ (n622 : Nat), ∀ (a625 : Int) (M626 : mm_M), (0 ≤ a625 ∧ a625 ≤ 256 ∧ (256 - a625) < (n622 : Int)) → INV pr Kz M626 → jj p l e (cn_R 1) s m args below meth c 0 0 Q 5 dC dI ad cA A M626 13 [(0, .ref (ad 88)), (1, .int (sI a1)), (2, .int (sI a625))] [] := by
    intro n622
    induction n622 with
    | zero =>
      intro a625 M626 h627 hM626
      exfalso; omega
    | succ n622 ih623 =>
      intro a625 M626 h627 hM626
      refine j_iload_n C 2 2 dX5_lengthenRows_13 rfl rfl ?_
      refine j_aload_n C 0 0 dX5_lengthenRows_14 rfl rfl ?_
      refine y_getI C 4 _ _ fX5_lengthenRows_38 rfl rfl ft_4_11 sb_4_11 hM626 dX5_lengthenRows_15 (fun a628 ea628 la628 ua628 => ?_)
      refine y_icmp_gt C 101 dX5_lengthenRows_18 (by decide) (by omega) (fun h630 => ?_) (fun h630 => ?_)
      · refine j_aload_n C 0 0 dX5_lengthenRows_101 rfl rfl ?_
        refine j_callVv C (d := 0) (As := []) (st := []) 88 (s_lt rfl rfl) (s_kc (c := 4) rfl rfl) (by decide) rfl (s1_X5_swapWays hM626 hpr) gX5_lengthenRows_X5_swapWays rfl hdX5_swapWays (by decide) (Nat.le_of_ble_eq_true rfl) dX5_lengthenRows_102 rfl (fun M884 h885 => ?_)
        have hM884 := h885
        exact hret _ _ _ dX5_lengthenRows_105 hM884
      · refine y_iconst C dX5_lengthenRows_21 ?_
        refine j_istore_n C 3 [(3, .int (sI 0)), (0, .ref (ad 88)), (1, .int (sI a1)), (2, .int (sI a625))] dX5_lengthenRows_22 rfl (by decide) rfl ?_
        have L850 : ∀ (n848 : Nat), ∀ (a851 : Int) (M852 : mm_M), (0 ≤ a851 ∧ a851 ≤ 6 ∧ (6 - a851) < (n848 : Int)) → INV pr Kz M852 → jj p l e (cn_R 1) s m args below meth c 0 0 Q 5 dC dI ad cA A M852 23 [(0, .ref (ad 88)), (1, .int (sI a1)), (2, .int (sI a625)), (3, .int (sI a851))] [] := by
          intro n848
          induction n848 with
          | zero =>
            intro a851 M852 h853 hM852
            exfalso; omega
          | succ n848 ih849 =>
            intro a851 M852 h853 hM852
            refine j_iload_n C 3 3 dX5_lengthenRows_23 rfl rfl ?_
            refine j_aload_n C 0 0 dX5_lengthenRows_24 rfl rfl ?_
            refine y_getM C 4 6 fX5_lengthenRows_52 rfl rfl ft_4_9 sm_4_9 (by decide) hM852 dX5_lengthenRows_25 (fun v854 ev854 cv854 => ?_)
            refine y_getI C 6 _ _ fX5_lengthenRows_92 cv854 rfl ft_6_0 sb_6_0 hM852 dX5_lengthenRows_28 (fun a855 ea855 la855 ua855 => ?_)
            refine y_icmp_ge C 95 dX5_lengthenRows_31 (by decide) (by omega) (fun h857 => ?_) (fun h857 => ?_)
            · refine y_iinc C 2 [(2, .int (sI (a625 + 1))), (0, .ref (ad 88)), (1, .int (sI a1)), (3, .int (sI a851))] dX5_lengthenRows_95 rfl (by decide) rfl ?_
              refine j_goto C 13 dX5_lengthenRows_98 (by decide) ?_
              refine j_lv [1, 2, 0] rfl ?_; exact ih623 (a625 + 1) M852 (by omega) hM852
            · refine j_aload_n C 0 0 dX5_lengthenRows_34 rfl rfl ?_
              refine y_getM C 4 41 fX5_lengthenRows_21 rfl rfl ft_4_4 sm_4_4 (by decide) hM852 dX5_lengthenRows_35 (fun v858 ev858 cv858 => ?_)
              refine j_iload_n C 2 2 dX5_lengthenRows_38 rfl rfl ?_
              refine y_lald C 41 256 cv858 rfl rfl ak_41 an_41 rfl dX5_lengthenRows_39 (by omega) (fun a859 ea859 la859 ua859 => ?_)
              refine y_lconst C 0 dX5_lengthenRows_40 rfl ?_
              refine y_lcmp_eq C 95 dX5_lengthenRows_41 dX5_lengthenRows_42 (by decide) (by omega) (fun h860 => ?_) (fun h860 => ?_)
              · refine y_iinc C 2 [(2, .int (sI (a625 + 1))), (0, .ref (ad 88)), (1, .int (sI a1)), (3, .int (sI a851))] dX5_lengthenRows_95 rfl (by decide) rfl ?_
                refine j_goto C 13 dX5_lengthenRows_98 (by decide) ?_
                refine j_lv [1, 2, 0] rfl ?_; exact ih623 (a625 + 1) M852 (by omega) hM852
              · refine j_aload_n C 0 0 dX5_lengthenRows_45 rfl rfl ?_
                refine j_iload_n C 2 2 dX5_lengthenRows_46 rfl rfl ?_
                refine j_iload_n C 3 3 dX5_lengthenRows_47 rfl rfl ?_
                refine j_callVi C (d := 0) (As := [.int (sI a625), .int (sI a851)]) (st := []) 88 (s_lt rfl rfl) (s_kc (c := 4) rfl rfl) (by decide) rfl (s1_X5_pick hM852 a625 (by omega) a851 (by omega)) gX5_lengthenRows_X5_pick rfl hdX5_pick (by decide) (Nat.le_of_ble_eq_true rfl) dX5_lengthenRows_48 rfl (fun r861 M862 h863 => ?_)
                obtain ⟨a865, rfl, rfl, h864⟩ := h863
                refine j_istore C 4 [(4, .int (sI a865)), (0, .ref (ad 88)), (1, .int (sI a1)), (2, .int (sI a625)), (3, .int (sI a851))] dX5_lengthenRows_51 (by decide) rfl ?_
                refine j_iload C 0 dX5_lengthenRows_53 rfl ?_
                refine y_if_lt C 89 dX5_lengthenRows_55 (by decide) (by omega) (fun h866 => ?_) (fun h866 => ?_)
                · refine y_iinc C 4 [(3, .int (sI (a851 + 1))), (4, .int (sI a865)), (0, .ref (ad 88)), (1, .int (sI a1)), (2, .int (sI a625))] dX5_lengthenRows_89 rfl (by decide) rfl ?_
                  refine j_goto C 23 dX5_lengthenRows_92 (by decide) ?_
                  refine j_lv [2, 3, 4, 0] rfl ?_; exact ih849 (a851 + 1) M852 (by omega) hM852
                · refine j_iload_n C 2 1 dX5_lengthenRows_58 rfl rfl ?_
                  refine y_iconst C dX5_lengthenRows_59 ?_
                  refine y_icmp_eq C 69 dX5_lengthenRows_60 (by decide) (by omega) (fun h867 => ?_) (fun h867 => ?_)
                  · refine j_aload_n C 1 0 dX5_lengthenRows_69 rfl rfl ?_
                    refine y_getM C 4 41 fX5_lengthenRows_25 rfl rfl ft_4_5 sm_4_5 (by decide) hM852 dX5_lengthenRows_70 (fun v868 ev868 cv868 => ?_)
                    refine j_iload_n C 3 2 dX5_lengthenRows_73 rfl rfl ?_
                    refine y_iconst C dX5_lengthenRows_74 ?_
                    refine j_iload C 0 dX5_lengthenRows_75 rfl ?_
                    refine y_shl1 C 7 128 dX5_lengthenRows_77 rfl (by decide) (by omega) (fun a869 la869 ua869 => ?_)
                    refine y_iorN C 8 255 dX5_lengthenRows_78 rfl (by decide) (by omega) (fun a870 la870 ua870 => ?_)
                    refine j_dup2 C dX5_lengthenRows_79 rfl rfl ?_
                    refine y_lald C 41 256 cv868 rfl rfl ak_41 an_41 rfl dX5_lengthenRows_80 (by omega) (fun a871 ea871 la871 ua871 => ?_)
                    refine j_aload_n C 1 0 dX5_lengthenRows_81 rfl rfl ?_
                    refine y_getV C 4 v858 fX5_lengthenRows_21 rfl rfl ft_4_4 (ev858) dX5_lengthenRows_82 ?_
                    refine j_iload_n C 3 2 dX5_lengthenRows_85 rfl rfl ?_
                    refine y_lald C 41 256 cv858 rfl rfl ak_41 an_41 rfl dX5_lengthenRows_86 (by omega) (fun a872 ea872 la872 ua872 => ?_)
                    refine y_ladd0 C dX5_lengthenRows_87 (fun a873 la873 ua873 => ?_)
                    refine y_last C 41 256 cv868 rfl rfl ak_41 an_41 rfl hM852 (PX.w hpr cv868 rfl) dX5_lengthenRows_88 (by omega) (fun M874 eM874 hM874 => ?_)
                    refine y_iinc C 4 [(3, .int (sI (a851 + 1))), (4, .int (sI a865)), (0, .ref (ad 88)), (1, .int (sI a1)), (2, .int (sI a625))] dX5_lengthenRows_89 rfl (by decide) rfl ?_
                    refine j_goto C 23 dX5_lengthenRows_92 (by decide) ?_
                    refine j_lv [2, 3, 4, 0] rfl ?_; exact ih849 (a851 + 1) M874 (by omega) hM874
                  · refine j_iload_n C 2 1 dX5_lengthenRows_63 rfl rfl ?_
                    refine j_iload C 0 dX5_lengthenRows_64 rfl ?_
                    refine y_icmp_ne C 89 dX5_lengthenRows_66 (by decide) (by omega) (fun h875 => ?_) (fun h875 => ?_)
                    · refine y_iinc C 4 [(3, .int (sI (a851 + 1))), (4, .int (sI a865)), (0, .ref (ad 88)), (1, .int (sI a1)), (2, .int (sI a625))] dX5_lengthenRows_89 rfl (by decide) rfl ?_
                      refine j_goto C 23 dX5_lengthenRows_92 (by decide) ?_
                      refine j_lv [2, 3, 4, 0] rfl ?_; exact ih849 (a851 + 1) M852 (by omega) hM852
                    · refine j_aload_n C 1 0 dX5_lengthenRows_69 rfl rfl ?_
                      refine y_getM C 4 41 fX5_lengthenRows_25 rfl rfl ft_4_5 sm_4_5 (by decide) hM852 dX5_lengthenRows_70 (fun v876 ev876 cv876 => ?_)
                      refine j_iload_n C 3 2 dX5_lengthenRows_73 rfl rfl ?_
                      refine y_iconst C dX5_lengthenRows_74 ?_
                      refine j_iload C 0 dX5_lengthenRows_75 rfl ?_
                      refine y_shl1 C 7 128 dX5_lengthenRows_77 rfl (by decide) (by omega) (fun a877 la877 ua877 => ?_)
                      refine y_iorN C 8 255 dX5_lengthenRows_78 rfl (by decide) (by omega) (fun a878 la878 ua878 => ?_)
                      refine j_dup2 C dX5_lengthenRows_79 rfl rfl ?_
                      refine y_lald C 41 256 cv876 rfl rfl ak_41 an_41 rfl dX5_lengthenRows_80 (by omega) (fun a879 ea879 la879 ua879 => ?_)
                      refine j_aload_n C 1 0 dX5_lengthenRows_81 rfl rfl ?_
                      refine y_getV C 4 v858 fX5_lengthenRows_21 rfl rfl ft_4_4 (ev858) dX5_lengthenRows_82 ?_
                      refine j_iload_n C 3 2 dX5_lengthenRows_85 rfl rfl ?_
                      refine y_lald C 41 256 cv858 rfl rfl ak_41 an_41 rfl dX5_lengthenRows_86 (by omega) (fun a880 ea880 la880 ua880 => ?_)
                      refine y_ladd0 C dX5_lengthenRows_87 (fun a881 la881 ua881 => ?_)
                      refine y_last C 41 256 cv876 rfl rfl ak_41 an_41 rfl hM852 (PX.w hpr cv876 rfl) dX5_lengthenRows_88 (by omega) (fun M882 eM882 hM882 => ?_)
                      refine y_iinc C 4 [(3, .int (sI (a851 + 1))), (4, .int (sI a865)), (0, .ref (ad 88)), (1, .int (sI a1)), (2, .int (sI a625))] dX5_lengthenRows_89 rfl (by decide) rfl ?_
                      refine j_goto C 23 dX5_lengthenRows_92 (by decide) ?_
                      refine j_lv [2, 3, 4, 0] rfl ?_; exact ih849 (a851 + 1) M882 (by omega) hM882
        refine j_lv [1, 2, 3, 0] rfl ?_; exact L850 2010 0 M626 (by omega) hM626
  refine j_lv [1, 2, 0] rfl ?_; exact L624 2010 a106 M103 (by omega) hM103
set_option maxHeartbeats 4000000 in
theorem s1_X5_allWays {l : Launch} {dC : Nat → ClassId} {dI : Nat → Nat → Nat} {ad : Nat → Nat} {cA : Nat → ClassId} {pr : Nat → Nat → Bool} {Kz : mm_M} {M0 : mm_M} (hM0 : INV pr Kz M0)  : Cj l 0 yX5_allWays wsX5_allWays dC dI ad cA [.ref (ad 88)] M0 (fun r M' => ∃ a : Int, r = sJ a ∧ M0 = M' ∧ (-9223372036854775808) ≤ a ∧ a ≤ 9223372036854775807) := by
  refine cj_of (cc := cX5_allWays) (maxL := 4) (lv := [(0, .ref (ad 88))]) (by decide) rfl (Nat.le_of_ble_eq_true rfl) rfl ?_
  intro p e s m args below meth c A Q C hret
  refine y_lconst C 0 dX5_allWays_0 rfl ?_
  refine j_lstore_n C 1 [(1, .long (sJ 0)), (0, .ref (ad 88))] dX5_allWays_1 rfl (by decide) rfl ?_
  refine j_aload_n C 1 0 dX5_allWays_2 rfl rfl ?_
  refine y_getI C 4 _ _ fX5_allWays_45 rfl rfl ft_4_13 sb_4_13 hM0 dX5_allWays_3 (fun a101 ea101 la101 ua101 => ?_)
  refine j_istore_n C 3 [(3, .int (sI a101)), (1, .long (sJ 0)), (0, .ref (ad 88))] dX5_allWays_6 rfl (by decide) rfl ?_
  have L120 : ∀ (n118 : Nat), ∀ (a121 : Int) (a122 : Int), ((-9223372036854775808) ≤ a121 ∧ a121 ≤ 9223372036854775807 ∧ 0 ≤ a122 ∧ a122 ≤ 256 ∧ (256 - a122) < (n118 : Int)) → jj p l e (cn_R 0) s m args below meth c 0 0 Q 4 dC dI ad cA A M0 7 [(0, .ref (ad 88)), (1, .long (sJ a121)), (3, .int (sI a122))] [] := by
    intro n118
    induction n118 with
    | zero =>
      intro a121 a122 h123
      exfalso; omega
    | succ n118 ih119 =>
      intro a121 a122 h123
      refine j_iload_n C 2 3 dX5_allWays_7 rfl rfl ?_
      refine j_aload_n C 0 0 dX5_allWays_8 rfl rfl ?_
      refine y_getI C 4 _ _ fX5_allWays_38 rfl rfl ft_4_11 sb_4_11 hM0 dX5_allWays_9 (fun a124 ea124 la124 ua124 => ?_)
      refine y_icmp_gt C 30 dX5_allWays_12 (by decide) (by omega) (fun h126 => ?_) (fun h126 => ?_)
      · refine j_lload_n C 1 1 dX5_allWays_30 rfl rfl ?_
        exact hret _ _ _ _ dX5_allWays_31 ⟨a121, rfl, rfl, by omega⟩
      · refine j_lload_n C 1 1 dX5_allWays_15 rfl rfl ?_
        refine j_aload_n C 0 0 dX5_allWays_16 rfl rfl ?_
        refine y_getM C 4 41 fX5_allWays_21 rfl rfl ft_4_4 sm_4_4 (by decide) hM0 dX5_allWays_17 (fun v127 ev127 cv127 => ?_)
        refine j_iload_n C 2 3 dX5_allWays_20 rfl rfl ?_
        refine y_lald C 41 256 cv127 rfl rfl ak_41 an_41 rfl dX5_allWays_21 (by omega) (fun a128 ea128 la128 ua128 => ?_)
        refine y_ladd0 C dX5_allWays_22 (fun a129 la129 ua129 => ?_)
        refine j_lstore_n C 1 [(1, .long (sJ a129)), (0, .ref (ad 88)), (3, .int (sI a122))] dX5_allWays_23 rfl (by decide) rfl ?_
        refine y_iinc C 2 [(3, .int (sI (a122 + 1))), (1, .long (sJ a129)), (0, .ref (ad 88))] dX5_allWays_24 rfl (by decide) rfl ?_
        refine j_goto C 7 dX5_allWays_27 (by decide) ?_
        refine j_lv [2, 1, 0] rfl ?_; exact ih119 a129 (a122 + 1) (by omega)
  refine j_lv [2, 1, 0] rfl ?_; exact L120 2010 0 a101 (by omega)
set_option maxHeartbeats 4000000 in
theorem s1_X5_openWays {l : Launch} {dC : Nat → ClassId} {dI : Nat → Nat → Nat} {ad : Nat → Nat} {cA : Nat → ClassId} {pr : Nat → Nat → Bool} {Kz : mm_M} {M0 : mm_M} (hM0 : INV pr Kz M0)  : Cj l 1 yX5_openWays wsX5_openWays dC dI ad cA [.ref (ad 88)] M0 (fun r M' => ∃ a : Int, r = sJ a ∧ M0 = M' ∧ (-9223372036854775808) ≤ a ∧ a ≤ 9223372036854775807) := by
  refine cj_of (cc := cX5_openWays) (maxL := 4) (lv := [(0, .ref (ad 88))]) (by decide) rfl (Nat.le_of_ble_eq_true rfl) rfl ?_
  intro p e s m args below meth c A Q C hret
  refine y_lconst C 0 dX5_openWays_0 rfl ?_
  refine j_lstore_n C 1 [(1, .long (sJ 0)), (0, .ref (ad 88))] dX5_openWays_1 rfl (by decide) rfl ?_
  refine j_aload_n C 1 0 dX5_openWays_2 rfl rfl ?_
  refine y_getI C 4 _ _ fX5_openWays_45 rfl rfl ft_4_13 sb_4_13 hM0 dX5_openWays_3 (fun a101 ea101 la101 ua101 => ?_)
  refine j_istore_n C 3 [(3, .int (sI a101)), (1, .long (sJ 0)), (0, .ref (ad 88))] dX5_openWays_6 rfl (by decide) rfl ?_
  have L132 : ∀ (n130 : Nat), ∀ (a133 : Int) (a134 : Int), ((-9223372036854775808) ≤ a133 ∧ a133 ≤ 9223372036854775807 ∧ 0 ≤ a134 ∧ a134 ≤ 256 ∧ (256 - a134) < (n130 : Int)) → jj p l e (cn_R 1) s m args below meth c 0 0 Q 4 dC dI ad cA A M0 7 [(0, .ref (ad 88)), (1, .long (sJ a133)), (3, .int (sI a134))] [] := by
    intro n130
    induction n130 with
    | zero =>
      intro a133 a134 h135
      exfalso; omega
    | succ n130 ih131 =>
      intro a133 a134 h135
      refine j_iload_n C 2 3 dX5_openWays_7 rfl rfl ?_
      refine j_aload_n C 0 0 dX5_openWays_8 rfl rfl ?_
      refine y_getI C 4 _ _ fX5_openWays_38 rfl rfl ft_4_11 sb_4_11 hM0 dX5_openWays_9 (fun a136 ea136 la136 ua136 => ?_)
      refine y_icmp_gt C 42 dX5_openWays_12 (by decide) (by omega) (fun h138 => ?_) (fun h138 => ?_)
      · refine j_lload_n C 1 1 dX5_openWays_42 rfl rfl ?_
        exact hret _ _ _ _ dX5_openWays_43 ⟨a133, rfl, rfl, by omega⟩
      · refine j_lload_n C 1 1 dX5_openWays_15 rfl rfl ?_
        refine j_aload_n C 0 0 dX5_openWays_16 rfl rfl ?_
        refine j_iload_n C 2 3 dX5_openWays_17 rfl rfl ?_
        refine j_callVi C (d := 0) (As := [.int (sI a134)]) (st := [.long (sJ a133)]) 88 (s_lt rfl rfl) (s_kc (c := 4) rfl rfl) (by decide) rfl (s1_X5_isShutAt hM0 a134 (by omega)) gX5_openWays_X5_isShutAt rfl hdX5_isShutAt (by decide) (Nat.le_of_ble_eq_true rfl) dX5_openWays_18 rfl (fun r139 M140 h141 => ?_)
        obtain ⟨a143, rfl, rfl, h142⟩ := h141
        refine y_if_eq C 28 dX5_openWays_21 (by decide) (by omega) (fun h144 => ?_) (fun h144 => ?_)
        · refine j_aload_n C 0 0 dX5_openWays_28 rfl rfl ?_
          refine y_getM C 4 41 fX5_openWays_21 rfl rfl ft_4_4 sm_4_4 (by decide) hM0 dX5_openWays_29 (fun v145 ev145 cv145 => ?_)
          refine j_iload_n C 2 3 dX5_openWays_32 rfl rfl ?_
          refine y_lald C 41 256 cv145 rfl rfl ak_41 an_41 rfl dX5_openWays_33 (by omega) (fun a146 ea146 la146 ua146 => ?_)
          refine y_ladd0 C dX5_openWays_34 (fun a147 la147 ua147 => ?_)
          refine j_lstore_n C 1 [(1, .long (sJ a147)), (0, .ref (ad 88)), (3, .int (sI a134))] dX5_openWays_35 rfl (by decide) rfl ?_
          refine y_iinc C 2 [(3, .int (sI (a134 + 1))), (1, .long (sJ a147)), (0, .ref (ad 88))] dX5_openWays_36 rfl (by decide) rfl ?_
          refine j_goto C 7 dX5_openWays_39 (by decide) ?_
          refine j_lv [2, 1, 0] rfl ?_; exact ih131 a147 (a134 + 1) (by omega)
        · refine y_lconst C 0 dX5_openWays_24 rfl ?_
          refine j_goto C 34 dX5_openWays_25 (by decide) ?_
          refine y_ladd C dX5_openWays_34 ?_
          refine j_lstore_n C 1 [(1, .long (sJ (a133 + 0))), (0, .ref (ad 88)), (3, .int (sI a134))] dX5_openWays_35 rfl (by decide) rfl ?_
          refine y_iinc C 2 [(3, .int (sI (a134 + 1))), (1, .long (sJ (a133 + 0))), (0, .ref (ad 88))] dX5_openWays_36 rfl (by decide) rfl ?_
          refine j_goto C 7 dX5_openWays_39 (by decide) ?_
          refine j_lv [2, 1, 0] rfl ?_; exact ih131 (a133 + 0) (a134 + 1) (by omega)
  refine j_lv [2, 1, 0] rfl ?_; exact L132 2010 0 a101 (by omega)
set_option maxHeartbeats 4000000 in
theorem s1_X5_rowsToShut {l : Launch} {dC : Nat → ClassId} {dI : Nat → Nat → Nat} {ad : Nat → Nat} {cA : Nat → ClassId} {pr : Nat → Nat → Bool} {Kz : mm_M} {M0 : mm_M} (hM0 : INV pr Kz M0) (hpr : PX pr) (a1 : Int) (ha1 : -2147483648 ≤ a1 ∧ a1 ≤ 2147483647) : Cj l 2 yX5_rowsToShut wsX5_rowsToShut dC dI ad cA [.ref (ad 88), .int (sI a1)] M0 (fun r M' => ∃ a : Int, r = sJ a ∧ INV pr Kz M' ∧ (-9223372036854775808) ≤ a ∧ a ≤ 9223372036854775807) := by
  refine cj_of (cc := cX5_rowsToShut) (maxL := 3) (lv := [(0, .ref (ad 88)), (1, .int (sI a1))]) (by decide) rfl (Nat.le_of_ble_eq_true rfl) rfl ?_
  intro p e s m args below meth c A Q C hret
  refine j_aload_n C 0 0 dX5_rowsToShut_0 rfl rfl ?_
  refine j_callVv C (d := 1) (As := []) (st := []) 88 (s_lt rfl rfl) (s_kc (c := 4) rfl rfl) (by decide) rfl (s1_X5_beginRows hM0 hpr) gX5_rowsToShut_X5_beginRows rfl hdX5_beginRows (by decide) (Nat.le_of_ble_eq_true rfl) dX5_rowsToShut_1 rfl (fun M102 h103 => ?_)
  have hM102 := h103
  refine y_iconst C dX5_rowsToShut_4 ?_
  refine j_istore_n C 2 [(2, .int (sI 0)), (0, .ref (ad 88)), (1, .int (sI a1))] dX5_rowsToShut_5 rfl (by decide) rfl ?_
  have L345 : ∀ (n343 : Nat), ∀ (a346 : Int) (M347 : mm_M), (0 ≤ a346 ∧ a346 ≤ 2147483647 ∧ (2147483647 - a346) < (n343 : Int)) → INV pr Kz M347 → jj p l e (cn_R 2) s m args below meth c 0 0 Q 3 dC dI ad cA A M347 6 [(0, .ref (ad 88)), (1, .int (sI a1)), (2, .int (sI a346))] [] := by
    intro n343
    induction n343 with
    | zero =>
      intro a346 M347 h348 hM347
      exfalso; omega
    | succ n343 ih344 =>
      intro a346 M347 h348 hM347
      refine j_iload_n C 2 2 dX5_rowsToShut_6 rfl rfl ?_
      refine j_iload_n C 1 1 dX5_rowsToShut_7 rfl rfl ?_
      refine y_icmp_ge C 22 dX5_rowsToShut_8 (by decide) (by omega) (fun h349 => ?_) (fun h349 => ?_)
      · refine j_aload_n C 0 0 dX5_rowsToShut_22 rfl rfl ?_
        refine j_callVj C (d := 0) (As := []) (st := []) 88 (s_lt rfl rfl) (s_kc (c := 4) rfl rfl) (by decide) rfl (s1_X5_allWays hM347) gX5_rowsToShut_X5_allWays rfl hdX5_allWays (by decide) (Nat.le_of_ble_eq_true rfl) dX5_rowsToShut_23 rfl (fun r354 M355 h356 => ?_)
        obtain ⟨a358, rfl, rfl, h357⟩ := h356
        refine j_aload_n C 0 0 dX5_rowsToShut_26 rfl rfl ?_
        refine j_callVj C (d := 1) (As := []) (st := [.long (sJ a358)]) 88 (s_lt rfl rfl) (s_kc (c := 4) rfl rfl) (by decide) rfl (s1_X5_openWays hM347) gX5_rowsToShut_X5_openWays rfl hdX5_openWays (by decide) (Nat.le_of_ble_eq_true rfl) dX5_rowsToShut_27 rfl (fun r359 M360 h361 => ?_)
        obtain ⟨a363, rfl, rfl, h362⟩ := h361
        refine y_lsub0 C dX5_rowsToShut_30 (fun a364 la364 ua364 => ?_)
        exact hret _ _ _ _ dX5_rowsToShut_31 ⟨a364, rfl, hM347, by omega⟩
      · refine j_aload_n C 0 0 dX5_rowsToShut_11 rfl rfl ?_
        refine y_iconst C dX5_rowsToShut_12 ?_
        refine j_callVv C (d := 1) (As := [.int (sI (-1))]) (st := []) 88 (s_lt rfl rfl) (s_kc (c := 4) rfl rfl) (by decide) rfl (s1_X5_lengthenRows hM347 hpr (-1) (by omega)) gX5_rowsToShut_X5_lengthenRows rfl hdX5_lengthenRows (by decide) (Nat.le_of_ble_eq_true rfl) dX5_rowsToShut_13 rfl (fun M351 h352 => ?_)
        have hM351 := h352
        refine y_iinc C 2 [(2, .int (sI (a346 + 1))), (0, .ref (ad 88)), (1, .int (sI a1))] dX5_rowsToShut_16 rfl (by decide) rfl ?_
        refine j_goto C 6 dX5_rowsToShut_19 (by decide) ?_
        refine j_lv [1, 2, 0] rfl ?_; exact ih344 (a346 + 1) M351 (by omega) hM351
  refine j_lv [1, 2, 0] rfl ?_; exact L345 4294967304 0 M102 (by omega) hM102
set_option maxHeartbeats 4000000 in
theorem s1_X11_endings {l : Launch} {dC : Nat → ClassId} {dI : Nat → Nat → Nat} {ad : Nat → Nat} {cA : Nat → ClassId} {pr : Nat → Nat → Bool} {Kz : mm_M} {M0 : mm_M} (hM0 : INV pr Kz M0) (hpr : PX pr) (a1 : Int) (ha1 : -2147483648 ≤ a1 ∧ a1 ≤ 2147483647) : Cj l 6 yX11_endings wsX11_endings dC dI ad cA [.ref (ad 0), .int (sI a1)] M0 (fun r M' => ∃ a : Int, r = sJ a ∧ INV pr Kz M' ∧ (-9223372036854775808) ≤ a ∧ a ≤ 9223372036854775807) := by
  refine cj_of (cc := cX11_endings) (maxL := 2) (lv := [(0, .ref (ad 0)), (1, .int (sI a1))]) (by decide) rfl (Nat.le_of_ble_eq_true rfl) rfl ?_
  intro p e s m args below meth c A Q C hret
  refine j_iload_n C 1 1 dX11_endings_0 rfl rfl ?_
  refine y_if_lt C 10 dX11_endings_1 (by decide) (by omega) (fun h101 => ?_) (fun h101 => ?_)
  · refine y_ldc2 C (-3) dX11_endings_10 kX11_endings_272 rfl ?_
    exact hret _ _ _ _ dX11_endings_13 ⟨(-3), rfl, hM0, by omega⟩
  · refine j_iload_n C 1 1 dX11_endings_4 rfl rfl ?_
    refine y_bipush C dX11_endings_5 rfl ?_
    refine y_icmp_le C 14 dX11_endings_7 (by decide) (by omega) (fun h102 => ?_) (fun h102 => ?_)
    · refine j_aload_n C 0 0 dX11_endings_14 rfl rfl ?_
      refine y_getC C 10 88 fX11_endings_94 rfl rfl ft_10_14 sm_10_14 rfl hM0 dX11_endings_15 ?_
      refine j_aload_n C 0 0 dX11_endings_18 rfl rfl ?_
      refine y_getM C 10 6 fX11_endings_26 rfl rfl ft_10_4 sm_10_4 (by decide) hM0 dX11_endings_19 (fun v103 ev103 cv103 => ?_)
      refine j_aload_n C 0 0 dX11_endings_22 rfl rfl ?_
      refine y_getC C 10 12 fX11_endings_36 rfl rfl ft_10_6 sm_10_6 rfl hM0 dX11_endings_23 ?_
      refine j_aload_n C 0 0 dX11_endings_26 rfl rfl ?_
      refine y_getC C 10 12 fX11_endings_36 rfl rfl ft_10_6 sm_10_6 rfl hM0 dX11_endings_27 ?_
      refine y_getI C 8 _ _ fX11_endings_153 rfl rfl ft_8_4 sb_8_4 hM0 dX11_endings_30 (fun a104 ea104 la104 ua104 => ?_)
      refine j_callVv C (d := 5) (As := [.ref (ad v103), .ref (ad 12), .int (sI a104)]) (st := []) 88 (s_lt rfl rfl) (s_kc (c := 4) rfl rfl) (by decide) rfl (s1_X5_look hM0 hpr cv103 rfl a104 (by omega)) gX11_endings_X5_look rfl hdX5_look (by decide) (Nat.le_of_ble_eq_true rfl) dX11_endings_33 rfl (fun M107 h108 => ?_)
      have hM107 := h108
      refine j_aload_n C 0 0 dX11_endings_36 rfl rfl ?_
      refine y_getC C 10 88 fX11_endings_94 rfl rfl ft_10_14 sm_10_14 rfl hM107 dX11_endings_37 ?_
      refine j_iload_n C 1 1 dX11_endings_40 rfl rfl ?_
      refine j_callVj C (d := 2) (As := [.int (sI a1)]) (st := []) 88 (s_lt rfl rfl) (s_kc (c := 4) rfl rfl) (by decide) rfl (s1_X5_rowsToShut hM107 hpr a1 (by omega)) gX11_endings_X5_rowsToShut rfl hdX5_rowsToShut (by decide) (Nat.le_of_ble_eq_true rfl) dX11_endings_41 rfl (fun r110 M111 h112 => ?_)
      obtain ⟨a114, rfl, hM111, h113⟩ := h112
      exact hret _ _ _ _ dX11_endings_44 ⟨a114, rfl, hM111, by omega⟩
    · refine y_ldc2 C (-3) dX11_endings_10 kX11_endings_272 rfl ?_
      exact hret _ _ _ _ dX11_endings_13 ⟨(-3), rfl, hM0, by omega⟩
set_option maxHeartbeats 4000000 in
theorem s1_X5_neededBuyers {l : Launch} {dC : Nat → ClassId} {dI : Nat → Nat → Nat} {ad : Nat → Nat} {cA : Nat → ClassId} {pr : Nat → Nat → Bool} {Kz : mm_M} {M0 : mm_M} (hM0 : INV pr Kz M0) (hpr : PX pr)  : Ci l 3 yX5_neededBuyers wsX5_neededBuyers dC dI ad cA [.ref (ad 88)] M0 (fun r M' => ∃ a : Int, r = sI a ∧ INV pr Kz M' ∧ 0 ≤ a ∧ a ≤ 63) := by
  refine ci_of (cc := cX5_neededBuyers) (maxL := 4) (ty := .int) (lv := [(0, .ref (ad 88))]) (by decide) rfl (fun r M' hp => rfl) (Nat.le_of_ble_eq_true rfl) rfl ?_
  intro p e s m args below meth c A Q C hret
  refine y_iconst C dX5_neededBuyers_0 ?_
  refine j_istore_n C 1 [(1, .int (sI 0)), (0, .ref (ad 88))] dX5_neededBuyers_1 rfl (by decide) rfl ?_
  refine y_iconst C dX5_neededBuyers_2 ?_
  refine j_aload_n C 1 0 dX5_neededBuyers_3 rfl rfl ?_
  refine y_getM C 4 6 fX5_neededBuyers_52 rfl rfl ft_4_9 sm_4_9 (by decide) hM0 dX5_neededBuyers_4 (fun v101 ev101 cv101 => ?_)
  refine y_getI C 6 _ _ fX5_neededBuyers_92 cv101 rfl ft_6_0 sb_6_0 hM0 dX5_neededBuyers_7 (fun a102 ea102 la102 ua102 => ?_)
  refine y_shl1 C 6 64 dX5_neededBuyers_10 rfl (by decide) (by omega) (fun a104 la104 ua104 => ?_)
  refine y_iconst C dX5_neededBuyers_11 ?_
  refine y_isub C dX5_neededBuyers_12 ?_
  refine j_istore_n C 2 [(2, .int (sI (a104 - 1))), (1, .int (sI 0)), (0, .ref (ad 88))] dX5_neededBuyers_13 rfl (by decide) rfl ?_
  refine j_aload_n C 2 0 dX5_neededBuyers_14 rfl rfl ?_
  refine j_iload_n C 0 2 dX5_neededBuyers_15 rfl rfl ?_
  refine j_callVi C (d := 2) (As := [.int (sI (a104 - 1))]) (st := []) 88 (s_lt rfl rfl) (s_kc (c := 4) rfl rfl) (by decide) rfl (s1_X5_measure hM0 hpr (a104 - 1) (by omega)) gX5_neededBuyers_X5_measure rfl hdX5_measure (by decide) (Nat.le_of_ble_eq_true rfl) dX5_neededBuyers_16 rfl (fun r105 M106 h107 => ?_)
  obtain ⟨a109, rfl, hM106, h108⟩ := h107
  refine y_iconst C dX5_neededBuyers_19 ?_
  refine y_icmp_ne C 25 dX5_neededBuyers_20 (by decide) (by omega) (fun h110 => ?_) (fun h110 => ?_)
  · refine y_iconst C dX5_neededBuyers_25 ?_
    refine j_istore_n C 3 [(3, .int (sI 0)), (2, .int (sI (a104 - 1))), (1, .int (sI 0)), (0, .ref (ad 88))] dX5_neededBuyers_26 rfl (by decide) rfl ?_
    have L232 : ∀ (n230 : Nat), ∀ (a233 : Int) (a234 : Int) (M235 : mm_M), (0 ≤ a233 ∧ a233 ≤ 63 ∧ 0 ≤ a234 ∧ a234 ≤ 6 ∧ (6 - a234) < (n230 : Int)) → INV pr Kz M235 → jj p l e (cn_R 3) s m args below meth c 0 0 Q 4 dC dI ad cA A M235 27 [(0, .ref (ad 88)), (1, .int (sI a233)), (2, .int (sI (a104 - 1))), (3, .int (sI a234))] [] := by
      intro n230
      induction n230 with
      | zero =>
        intro a233 a234 M235 h236 hM235
        exfalso; omega
      | succ n230 ih231 =>
        intro a233 a234 M235 h236 hM235
        refine j_iload_n C 3 3 dX5_neededBuyers_27 rfl rfl ?_
        refine j_aload_n C 0 0 dX5_neededBuyers_28 rfl rfl ?_
        refine y_getM C 4 6 fX5_neededBuyers_52 rfl rfl ft_4_9 sm_4_9 (by decide) hM235 dX5_neededBuyers_29 (fun v237 ev237 cv237 => ?_)
        refine y_getI C 6 _ _ fX5_neededBuyers_92 cv237 rfl ft_6_0 sb_6_0 hM235 dX5_neededBuyers_32 (fun a238 ea238 la238 ua238 => ?_)
        refine y_icmp_ge C 65 dX5_neededBuyers_35 (by decide) (by omega) (fun h240 => ?_) (fun h240 => ?_)
        · refine j_iload_n C 1 1 dX5_neededBuyers_65 rfl rfl ?_
          exact hret _ _ _ _ dX5_neededBuyers_66 ⟨a233, rfl, hM235, by omega⟩
        · refine j_aload_n C 0 0 dX5_neededBuyers_38 rfl rfl ?_
          refine j_iload_n C 2 2 dX5_neededBuyers_39 rfl rfl ?_
          refine y_iconst C dX5_neededBuyers_40 ?_
          refine j_iload_n C 3 3 dX5_neededBuyers_41 rfl rfl ?_
          refine y_shl1 C 5 32 dX5_neededBuyers_42 rfl (by decide) (by omega) (fun a241 la241 ua241 => ?_)
          refine y_iconst C dX5_neededBuyers_43 ?_
          refine y_not C dX5_neededBuyers_44 ?_
          refine y_iandL C dX5_neededBuyers_45 (by omega) (fun a242 la242 ua242 => ?_)
          refine j_callVi C (d := 2) (As := [.int (sI a242)]) (st := []) 88 (s_lt rfl rfl) (s_kc (c := 4) rfl rfl) (by decide) rfl (s1_X5_measure hM235 hpr a242 (by omega)) gX5_neededBuyers_X5_measure rfl hdX5_measure (by decide) (Nat.le_of_ble_eq_true rfl) dX5_neededBuyers_46 rfl (fun r243 M244 h245 => ?_)
          obtain ⟨a247, rfl, hM244, h246⟩ := h245
          refine y_iconst C dX5_neededBuyers_49 ?_
          refine y_icmp_ne C 59 dX5_neededBuyers_50 (by decide) (by omega) (fun h248 => ?_) (fun h248 => ?_)
          · refine y_iinc C 3 [(3, .int (sI (a234 + 1))), (0, .ref (ad 88)), (1, .int (sI a233)), (2, .int (sI (a104 - 1)))] dX5_neededBuyers_59 rfl (by decide) rfl ?_
            refine j_goto C 27 dX5_neededBuyers_62 (by decide) ?_
            refine j_lv [1, 2, 3, 0] rfl ?_; exact ih231 a233 (a234 + 1) M244 (by omega) hM244
          · refine j_iload_n C 1 1 dX5_neededBuyers_53 rfl rfl ?_
            refine y_iconst C dX5_neededBuyers_54 ?_
            refine j_iload_n C 3 3 dX5_neededBuyers_55 rfl rfl ?_
            refine y_shl1 C 5 32 dX5_neededBuyers_56 rfl (by decide) (by omega) (fun a249 la249 ua249 => ?_)
            refine y_iorN C 6 63 dX5_neededBuyers_57 rfl (by decide) (by omega) (fun a250 la250 ua250 => ?_)
            refine j_istore_n C 1 [(1, .int (sI a250)), (0, .ref (ad 88)), (2, .int (sI (a104 - 1))), (3, .int (sI a234))] dX5_neededBuyers_58 rfl (by decide) rfl ?_
            refine y_iinc C 3 [(3, .int (sI (a234 + 1))), (1, .int (sI a250)), (0, .ref (ad 88)), (2, .int (sI (a104 - 1)))] dX5_neededBuyers_59 rfl (by decide) rfl ?_
            refine j_goto C 27 dX5_neededBuyers_62 (by decide) ?_
            refine j_lv [2, 1, 3, 0] rfl ?_; exact ih231 a250 (a234 + 1) M244 (by omega) hM244
    refine j_lv [3, 2, 1, 0] rfl ?_; exact L232 2010 0 0 M106 (by omega) hM106
  · refine j_iload_n C 1 1 dX5_neededBuyers_23 rfl rfl ?_
    exact hret _ _ _ _ dX5_neededBuyers_24 ⟨0, rfl, hM106, by omega⟩
set_option maxHeartbeats 4000000 in
theorem s1_X11_needed {l : Launch} {dC : Nat → ClassId} {dI : Nat → Nat → Nat} {ad : Nat → Nat} {cA : Nat → ClassId} {pr : Nat → Nat → Bool} {Kz : mm_M} {M0 : mm_M} (hM0 : INV pr Kz M0) (hpr : PX pr)  : Ci l 6 yX11_needed wsX11_needed dC dI ad cA [.ref (ad 0)] M0 (fun r M' => ∃ a : Int, r = sI a ∧ INV pr Kz M' ∧ 0 ≤ a ∧ a ≤ 63) := by
  refine ci_of (cc := cX11_needed) (maxL := 1) (ty := .int) (lv := [(0, .ref (ad 0))]) (by decide) rfl (fun r M' hp => rfl) (Nat.le_of_ble_eq_true rfl) rfl ?_
  intro p e s m args below meth c A Q C hret
  refine j_aload_n C 0 0 dX11_needed_0 rfl rfl ?_
  refine y_getC C 10 88 fX11_needed_94 rfl rfl ft_10_14 sm_10_14 rfl hM0 dX11_needed_1 ?_
  refine j_aload_n C 0 0 dX11_needed_4 rfl rfl ?_
  refine y_getM C 10 6 fX11_needed_26 rfl rfl ft_10_4 sm_10_4 (by decide) hM0 dX11_needed_5 (fun v101 ev101 cv101 => ?_)
  refine j_aload_n C 0 0 dX11_needed_8 rfl rfl ?_
  refine y_getC C 10 12 fX11_needed_36 rfl rfl ft_10_6 sm_10_6 rfl hM0 dX11_needed_9 ?_
  refine j_aload_n C 0 0 dX11_needed_12 rfl rfl ?_
  refine y_getC C 10 12 fX11_needed_36 rfl rfl ft_10_6 sm_10_6 rfl hM0 dX11_needed_13 ?_
  refine y_getI C 8 _ _ fX11_needed_153 rfl rfl ft_8_4 sb_8_4 hM0 dX11_needed_16 (fun a102 ea102 la102 ua102 => ?_)
  refine j_callVv C (d := 5) (As := [.ref (ad v101), .ref (ad 12), .int (sI a102)]) (st := []) 88 (s_lt rfl rfl) (s_kc (c := 4) rfl rfl) (by decide) rfl (s1_X5_look hM0 hpr cv101 rfl a102 (by omega)) gX11_needed_X5_look rfl hdX5_look (by decide) (Nat.le_of_ble_eq_true rfl) dX11_needed_19 rfl (fun M105 h106 => ?_)
  have hM105 := h106
  refine j_aload_n C 0 0 dX11_needed_22 rfl rfl ?_
  refine y_getC C 10 88 fX11_needed_94 rfl rfl ft_10_14 sm_10_14 rfl hM105 dX11_needed_23 ?_
  refine j_callVi C (d := 3) (As := []) (st := []) 88 (s_lt rfl rfl) (s_kc (c := 4) rfl rfl) (by decide) rfl (s1_X5_neededBuyers hM105 hpr) gX11_needed_X5_neededBuyers rfl hdX5_neededBuyers (by decide) (Nat.le_of_ble_eq_true rfl) dX11_needed_26 rfl (fun r108 M109 h110 => ?_)
  obtain ⟨a112, rfl, hM109, h111⟩ := h110
  exact hret _ _ _ _ dX11_needed_29 ⟨a112, rfl, hM109, by omega⟩
set_option maxHeartbeats 4000000 in
theorem s1_X5_everSold {l : Launch} {dC : Nat → ClassId} {dI : Nat → Nat → Nat} {ad : Nat → Nat} {cA : Nat → ClassId} {pr : Nat → Nat → Bool} {Kz : mm_M} {M0 : mm_M} (hM0 : INV pr Kz M0)  : Ci l 0 yX5_everSold wsX5_everSold dC dI ad cA [.ref (ad 88)] M0 (fun r M' => ∃ a : Int, r = sI a ∧ M0 = M' ∧ 0 ≤ a ∧ a ≤ 255) := by
  refine ci_of (cc := cX5_everSold) (maxL := 3) (ty := .int) (lv := [(0, .ref (ad 88))]) (by decide) rfl (fun r M' hp => rfl) (Nat.le_of_ble_eq_true rfl) rfl ?_
  intro p e s m args below meth c A Q C hret
  refine j_aload_n C 0 0 dX5_everSold_0 rfl rfl ?_
  refine y_getI C 4 _ _ fX5_everSold_45 rfl rfl ft_4_13 sb_4_13 hM0 dX5_everSold_1 (fun a101 ea101 la101 ua101 => ?_)
  refine j_istore_n C 1 [(1, .int (sI a101)), (0, .ref (ad 88))] dX5_everSold_4 rfl (by decide) rfl ?_
  refine j_aload_n C 1 0 dX5_everSold_5 rfl rfl ?_
  refine y_getI C 4 _ _ fX5_everSold_45 rfl rfl ft_4_13 sb_4_13 hM0 dX5_everSold_6 (fun a103 ea103 la103 ua103 => ?_)
  refine j_istore_n C 2 [(2, .int (sI a103)), (1, .int (sI a101)), (0, .ref (ad 88))] dX5_everSold_9 rfl (by decide) rfl ?_
  have L125 : ∀ (n123 : Nat), ∀ (a126 : Int) (a127 : Int), (0 ≤ a126 ∧ a126 ≤ 255 ∧ 0 ≤ a127 ∧ a127 ≤ 256 ∧ (256 - a127) < (n123 : Int)) → jj p l e (cn_R 0) s m args below meth c 0 0 Q 3 dC dI ad cA A M0 10 [(0, .ref (ad 88)), (1, .int (sI a126)), (2, .int (sI a127))] [] := by
    intro n123
    induction n123 with
    | zero =>
      intro a126 a127 h128
      exfalso; omega
    | succ n123 ih124 =>
      intro a126 a127 h128
      refine j_iload_n C 2 2 dX5_everSold_10 rfl rfl ?_
      refine j_aload_n C 0 0 dX5_everSold_11 rfl rfl ?_
      refine y_getI C 4 _ _ fX5_everSold_38 rfl rfl ft_4_11 sb_4_11 hM0 dX5_everSold_12 (fun a129 ea129 la129 ua129 => ?_)
      refine y_icmp_gt C 42 dX5_everSold_15 (by decide) (by omega) (fun h131 => ?_) (fun h131 => ?_)
      · refine j_iload_n C 1 1 dX5_everSold_42 rfl rfl ?_
        exact hret _ _ _ _ dX5_everSold_43 ⟨a126, rfl, rfl, by omega⟩
      · refine j_iload_n C 1 1 dX5_everSold_18 rfl rfl ?_
        refine j_aload_n C 0 0 dX5_everSold_19 rfl rfl ?_
        refine y_getC C 4 90 fX5_everSold_15 rfl rfl ft_4_2 sm_4_2 rfl hM0 dX5_everSold_20 ?_
        refine j_iload_n C 2 2 dX5_everSold_23 rfl rfl ?_
        refine y_iald C 39 256 _ _ rfl rfl rfl ak_39 an_39 rfl (sb_39 _) hM0 dX5_everSold_24 (by omega) (fun a132 ea132 la132 ua132 => ?_)
        refine y_iconst C dX5_everSold_25 ?_
        refine y_icmp_ne C 33 dX5_everSold_26 (by decide) (by omega) (fun h133 => ?_) (fun h133 => ?_)
        · refine y_iconst C dX5_everSold_33 ?_
          refine y_iorN C 8 255 dX5_everSold_34 rfl (by decide) (by omega) (fun a134 la134 ua134 => ?_)
          refine j_istore_n C 1 [(1, .int (sI a134)), (0, .ref (ad 88)), (2, .int (sI a127))] dX5_everSold_35 rfl (by decide) rfl ?_
          refine y_iinc C 2 [(2, .int (sI (a127 + 1))), (1, .int (sI a134)), (0, .ref (ad 88))] dX5_everSold_36 rfl (by decide) rfl ?_
          refine j_goto C 10 dX5_everSold_39 (by decide) ?_
          refine j_lv [2, 1, 0] rfl ?_; exact ih124 a134 (a127 + 1) (by omega)
        · refine j_iload_n C 2 2 dX5_everSold_29 rfl rfl ?_
          refine j_goto C 34 dX5_everSold_30 (by decide) ?_
          refine y_iorN C 8 255 dX5_everSold_34 rfl (by decide) (by omega) (fun a135 la135 ua135 => ?_)
          refine j_istore_n C 1 [(1, .int (sI a135)), (0, .ref (ad 88)), (2, .int (sI a127))] dX5_everSold_35 rfl (by decide) rfl ?_
          refine y_iinc C 2 [(2, .int (sI (a127 + 1))), (1, .int (sI a135)), (0, .ref (ad 88))] dX5_everSold_36 rfl (by decide) rfl ?_
          refine j_goto C 10 dX5_everSold_39 (by decide) ?_
          refine j_lv [2, 1, 0] rfl ?_; exact ih124 a135 (a127 + 1) (by omega)
  refine j_lv [2, 1, 0] rfl ?_; exact L125 2010 a101 a103 (by omega)
set_option maxHeartbeats 4000000 in
theorem s1_X11_sellable {l : Launch} {dC : Nat → ClassId} {dI : Nat → Nat → Nat} {ad : Nat → Nat} {cA : Nat → ClassId} {pr : Nat → Nat → Bool} {Kz : mm_M} {M0 : mm_M} (hM0 : INV pr Kz M0) (hpr : PX pr)  : Ci l 6 yX11_sellable wsX11_sellable dC dI ad cA [.ref (ad 0)] M0 (fun r M' => ∃ a : Int, r = sI a ∧ INV pr Kz M' ∧ 0 ≤ a ∧ a ≤ 255) := by
  refine ci_of (cc := cX11_sellable) (maxL := 1) (ty := .int) (lv := [(0, .ref (ad 0))]) (by decide) rfl (fun r M' hp => rfl) (Nat.le_of_ble_eq_true rfl) rfl ?_
  intro p e s m args below meth c A Q C hret
  refine j_aload_n C 0 0 dX11_sellable_0 rfl rfl ?_
  refine y_getC C 10 88 fX11_sellable_94 rfl rfl ft_10_14 sm_10_14 rfl hM0 dX11_sellable_1 ?_
  refine j_aload_n C 0 0 dX11_sellable_4 rfl rfl ?_
  refine y_getM C 10 6 fX11_sellable_26 rfl rfl ft_10_4 sm_10_4 (by decide) hM0 dX11_sellable_5 (fun v101 ev101 cv101 => ?_)
  refine j_aload_n C 0 0 dX11_sellable_8 rfl rfl ?_
  refine y_getC C 10 12 fX11_sellable_36 rfl rfl ft_10_6 sm_10_6 rfl hM0 dX11_sellable_9 ?_
  refine j_aload_n C 0 0 dX11_sellable_12 rfl rfl ?_
  refine y_getC C 10 12 fX11_sellable_36 rfl rfl ft_10_6 sm_10_6 rfl hM0 dX11_sellable_13 ?_
  refine y_getI C 8 _ _ fX11_sellable_153 rfl rfl ft_8_4 sb_8_4 hM0 dX11_sellable_16 (fun a102 ea102 la102 ua102 => ?_)
  refine j_callVv C (d := 5) (As := [.ref (ad v101), .ref (ad 12), .int (sI a102)]) (st := []) 88 (s_lt rfl rfl) (s_kc (c := 4) rfl rfl) (by decide) rfl (s1_X5_look hM0 hpr cv101 rfl a102 (by omega)) gX11_sellable_X5_look rfl hdX5_look (by decide) (Nat.le_of_ble_eq_true rfl) dX11_sellable_19 rfl (fun M105 h106 => ?_)
  have hM105 := h106
  refine j_aload_n C 0 0 dX11_sellable_22 rfl rfl ?_
  refine y_getC C 10 88 fX11_sellable_94 rfl rfl ft_10_14 sm_10_14 rfl hM105 dX11_sellable_23 ?_
  refine j_callVi C (d := 0) (As := []) (st := []) 88 (s_lt rfl rfl) (s_kc (c := 4) rfl rfl) (by decide) rfl (s1_X5_everSold hM105) gX11_sellable_X5_everSold rfl hdX5_everSold (by decide) (Nat.le_of_ble_eq_true rfl) dX11_sellable_26 rfl (fun r108 M109 h110 => ?_)
  obtain ⟨a112, rfl, rfl, h111⟩ := h110
  exact hret _ _ _ _ dX11_sellable_29 ⟨a112, rfl, hM105, by omega⟩
set_option maxHeartbeats 4000000 in
theorem s1_X11_guards {l : Launch} {dC : Nat → ClassId} {dI : Nat → Nat → Nat} {ad : Nat → Nat} {cA : Nat → ClassId} {pr : Nat → Nat → Bool} {Kz : mm_M} {M0 : mm_M} (hM0 : INV pr Kz M0) (hpr : PX pr)  : Ci l 6 yX11_guards wsX11_guards dC dI ad cA [.ref (ad 0)] M0 (fun r M' => ∃ a : Int, r = sI a ∧ INV pr Kz M' ∧ 0 ≤ a ∧ a ≤ 255) := by
  refine ci_of (cc := cX11_guards) (maxL := 3) (ty := .int) (lv := [(0, .ref (ad 0))]) (by decide) rfl (fun r M' hp => rfl) (Nat.le_of_ble_eq_true rfl) rfl ?_
  intro p e s m args below meth c A Q C hret
  refine y_iconst C dX11_guards_0 ?_
  refine j_istore_n C 1 [(1, .int (sI 0)), (0, .ref (ad 0))] dX11_guards_1 rfl (by decide) rfl ?_
  refine j_aload_n C 1 0 dX11_guards_2 rfl rfl ?_
  refine y_getC C 10 88 fX11_guards_94 rfl rfl ft_10_14 sm_10_14 rfl hM0 dX11_guards_3 ?_
  refine j_aload_n C 1 0 dX11_guards_6 rfl rfl ?_
  refine y_getM C 10 6 fX11_guards_26 rfl rfl ft_10_4 sm_10_4 (by decide) hM0 dX11_guards_7 (fun v101 ev101 cv101 => ?_)
  refine j_aload_n C 1 0 dX11_guards_10 rfl rfl ?_
  refine y_getC C 10 12 fX11_guards_36 rfl rfl ft_10_6 sm_10_6 rfl hM0 dX11_guards_11 ?_
  refine j_aload_n C 1 0 dX11_guards_14 rfl rfl ?_
  refine y_getC C 10 12 fX11_guards_36 rfl rfl ft_10_6 sm_10_6 rfl hM0 dX11_guards_15 ?_
  refine y_getI C 8 _ _ fX11_guards_153 rfl rfl ft_8_4 sb_8_4 hM0 dX11_guards_18 (fun a102 ea102 la102 ua102 => ?_)
  refine j_callVv C (d := 5) (As := [.ref (ad v101), .ref (ad 12), .int (sI a102)]) (st := []) 88 (s_lt rfl rfl) (s_kc (c := 4) rfl rfl) (by decide) rfl (s1_X5_look hM0 hpr cv101 rfl a102 (by omega)) gX11_guards_X5_look rfl hdX5_look (by decide) (Nat.le_of_ble_eq_true rfl) dX11_guards_21 rfl (fun M105 h106 => ?_)
  have hM105 := h106
  refine j_aload_n C 1 0 dX11_guards_24 rfl rfl ?_
  refine y_getC C 10 88 fX11_guards_94 rfl rfl ft_10_14 sm_10_14 rfl hM105 dX11_guards_25 ?_
  refine j_callVi C (d := 3) (As := []) (st := []) 88 (s_lt rfl rfl) (s_kc (c := 4) rfl rfl) (by decide) rfl (s1_X5_shortest hM105 hpr) gX11_guards_X5_shortest rfl hdX5_shortest (by decide) (Nat.le_of_ble_eq_true rfl) dX11_guards_28 rfl (fun r108 M109 h110 => ?_)
  obtain ⟨a112, rfl, hM109, h111⟩ := h110
  refine y_iconst C dX11_guards_31 ?_
  refine y_icmp_ne C 37 dX11_guards_32 (by decide) (by omega) (fun h113 => ?_) (fun h113 => ?_)
  · refine y_iconst C dX11_guards_37 ?_
    refine j_istore_n C 2 [(2, .int (sI 0)), (1, .int (sI 0)), (0, .ref (ad 0))] dX11_guards_38 rfl (by decide) rfl ?_
    have L377 : ∀ (n375 : Nat), ∀ (a378 : Int) (a379 : Int) (M380 : mm_M), (0 ≤ a378 ∧ a378 ≤ 255 ∧ 0 ≤ a379 ∧ a379 ≤ 8 ∧ (8 - a379) < (n375 : Int)) → INV pr Kz M380 → jj p l e (cn_R 6) s m args below meth c 0 0 Q 3 dC dI ad cA A M380 39 [(0, .ref (ad 0)), (1, .int (sI a378)), (2, .int (sI a379))] [] := by
      intro n375
      induction n375 with
      | zero =>
        intro a378 a379 M380 h381 hM380
        exfalso; omega
      | succ n375 ih376 =>
        intro a378 a379 M380 h381 hM380
        refine j_iload_n C 2 2 dX11_guards_39 rfl rfl ?_
        refine j_aload_n C 0 0 dX11_guards_40 rfl rfl ?_
        refine y_getC C 10 12 fX11_guards_36 rfl rfl ft_10_6 sm_10_6 rfl hM380 dX11_guards_41 ?_
        refine y_getI C 8 _ _ fX11_guards_160 rfl rfl ft_8_0 sb_8_0 hM380 dX11_guards_44 (fun a382 ea382 la382 ua382 => ?_)
        refine y_icmp_ge C 117 dX11_guards_47 (by decide) (by omega) (fun h384 => ?_) (fun h384 => ?_)
        · refine j_iload_n C 1 1 dX11_guards_117 rfl rfl ?_
          exact hret _ _ _ _ dX11_guards_118 ⟨a378, rfl, hM380, by omega⟩
        · refine j_aload_n C 0 0 dX11_guards_50 rfl rfl ?_
          refine y_getC C 10 12 fX11_guards_36 rfl rfl ft_10_6 sm_10_6 rfl hM380 dX11_guards_51 ?_
          refine y_getI C 8 _ _ fX11_guards_153 rfl rfl ft_8_4 sb_8_4 hM380 dX11_guards_54 (fun a385 ea385 la385 ua385 => ?_)
          refine j_iload_n C 2 2 dX11_guards_57 rfl rfl ?_
          refine y_ishrP C dX11_guards_58 (by omega) (fun a387 la387 ua387 => ?_)
          refine y_iconst C dX11_guards_59 ?_
          refine y_iandR C dX11_guards_60 (by omega) (fun a388 la388 ua388 => ?_)
          refine y_if_ne C 111 dX11_guards_61 (by decide) (by omega) (fun h389 => ?_) (fun h389 => ?_)
          · refine y_iinc C 2 [(2, .int (sI (a379 + 1))), (0, .ref (ad 0)), (1, .int (sI a378))] dX11_guards_111 rfl (by decide) rfl ?_
            refine j_goto C 39 dX11_guards_114 (by decide) ?_
            refine j_lv [1, 2, 0] rfl ?_; exact ih376 a378 (a379 + 1) M380 (by omega) hM380
          · refine j_aload_n C 0 0 dX11_guards_64 rfl rfl ?_
            refine y_getC C 10 88 fX11_guards_94 rfl rfl ft_10_14 sm_10_14 rfl hM380 dX11_guards_65 ?_
            refine j_aload_n C 0 0 dX11_guards_68 rfl rfl ?_
            refine y_getM C 10 6 fX11_guards_26 rfl rfl ft_10_4 sm_10_4 (by decide) hM380 dX11_guards_69 (fun v390 ev390 cv390 => ?_)
            refine j_aload_n C 0 0 dX11_guards_72 rfl rfl ?_
            refine y_getC C 10 12 fX11_guards_36 rfl rfl ft_10_6 sm_10_6 rfl hM380 dX11_guards_73 ?_
            refine j_aload_n C 0 0 dX11_guards_76 rfl rfl ?_
            refine y_getC C 10 12 fX11_guards_36 rfl rfl ft_10_6 sm_10_6 rfl hM380 dX11_guards_77 ?_
            refine y_getI C 8 _ _ fX11_guards_153 rfl rfl ft_8_4 sb_8_4 hM380 dX11_guards_80 (fun a391 ea391 la391 ua391 => ?_)
            refine y_iconst C dX11_guards_83 ?_
            refine j_iload_n C 2 2 dX11_guards_84 rfl rfl ?_
            refine y_shl1 C 7 128 dX11_guards_85 rfl (by decide) (by omega) (fun a393 la393 ua393 => ?_)
            refine y_iorN C 8 255 dX11_guards_86 rfl (by decide) (by omega) (fun a394 la394 ua394 => ?_)
            refine j_callVv C (d := 5) (As := [.ref (ad v390), .ref (ad 12), .int (sI a394)]) (st := []) 88 (s_lt rfl rfl) (s_kc (c := 4) rfl rfl) (by decide) rfl (s1_X5_look hM380 hpr cv390 rfl a394 (by omega)) gX11_guards_X5_look rfl hdX5_look (by decide) (Nat.le_of_ble_eq_true rfl) dX11_guards_87 rfl (fun M396 h397 => ?_)
            have hM396 := h397
            refine j_iload_n C 1 1 dX11_guards_90 rfl rfl ?_
            refine j_aload_n C 0 0 dX11_guards_91 rfl rfl ?_
            refine y_getC C 10 88 fX11_guards_94 rfl rfl ft_10_14 sm_10_14 rfl hM396 dX11_guards_92 ?_
            refine j_callVi C (d := 3) (As := []) (st := [.int (sI a378)]) 88 (s_lt rfl rfl) (s_kc (c := 4) rfl rfl) (by decide) rfl (s1_X5_shortest hM396 hpr) gX11_guards_X5_shortest rfl hdX5_shortest (by decide) (Nat.le_of_ble_eq_true rfl) dX11_guards_95 rfl (fun r399 M400 h401 => ?_)
            obtain ⟨a403, rfl, hM400, h402⟩ := h401
            refine y_iconst C dX11_guards_98 ?_
            refine y_icmp_ne C 108 dX11_guards_99 (by decide) (by omega) (fun h404 => ?_) (fun h404 => ?_)
            · refine y_iconst C dX11_guards_108 ?_
              refine y_iorN C 8 255 dX11_guards_109 rfl (by decide) (by omega) (fun a405 la405 ua405 => ?_)
              refine j_istore_n C 1 [(1, .int (sI a405)), (0, .ref (ad 0)), (2, .int (sI a379))] dX11_guards_110 rfl (by decide) rfl ?_
              refine y_iinc C 2 [(2, .int (sI (a379 + 1))), (1, .int (sI a405)), (0, .ref (ad 0))] dX11_guards_111 rfl (by decide) rfl ?_
              refine j_goto C 39 dX11_guards_114 (by decide) ?_
              refine j_lv [2, 1, 0] rfl ?_; exact ih376 a405 (a379 + 1) M400 (by omega) hM400
            · refine y_iconst C dX11_guards_102 ?_
              refine j_iload_n C 2 2 dX11_guards_103 rfl rfl ?_
              refine y_shl1 C 7 128 dX11_guards_104 rfl (by decide) (by omega) (fun a406 la406 ua406 => ?_)
              refine j_goto C 109 dX11_guards_105 (by decide) ?_
              refine y_iorN C 8 255 dX11_guards_109 rfl (by decide) (by omega) (fun a407 la407 ua407 => ?_)
              refine j_istore_n C 1 [(1, .int (sI a407)), (0, .ref (ad 0)), (2, .int (sI a379))] dX11_guards_110 rfl (by decide) rfl ?_
              refine y_iinc C 2 [(2, .int (sI (a379 + 1))), (1, .int (sI a407)), (0, .ref (ad 0))] dX11_guards_111 rfl (by decide) rfl ?_
              refine j_goto C 39 dX11_guards_114 (by decide) ?_
              refine j_lv [2, 1, 0] rfl ?_; exact ih376 a407 (a379 + 1) M400 (by omega) hM400
    refine j_lv [2, 1, 0] rfl ?_; exact L377 2010 0 0 M109 (by omega) hM109
  · refine j_iload_n C 0 1 dX11_guards_35 rfl rfl ?_
    exact hret _ _ _ _ dX11_guards_36 ⟨0, rfl, hM109, by omega⟩
set_option maxHeartbeats 4000000 in
theorem s1_X5_lastLeft {l : Launch} {dC : Nat → ClassId} {dI : Nat → Nat → Nat} {ad : Nat → Nat} {cA : Nat → ClassId} {pr : Nat → Nat → Bool} {Kz : mm_M} {M0 : mm_M} (hM0 : INV pr Kz M0)  : Ci l 1 yX5_lastLeft wsX5_lastLeft dC dI ad cA [.ref (ad 88)] M0 (fun r M' => ∃ a : Int, r = sI a ∧ M0 = M' ∧ 0 ≤ a ∧ a ≤ 255) := by
  refine ci_of (cc := cX5_lastLeft) (maxL := 4) (ty := .int) (lv := [(0, .ref (ad 88))]) (by decide) rfl (fun r M' hp => rfl) (Nat.le_of_ble_eq_true rfl) rfl ?_
  intro p e s m args below meth c A Q C hret
  refine y_iconst C dX5_lastLeft_0 ?_
  refine j_istore_n C 1 [(1, .int (sI 0)), (0, .ref (ad 88))] dX5_lastLeft_1 rfl (by decide) rfl ?_
  refine j_aload_n C 1 0 dX5_lastLeft_2 rfl rfl ?_
  refine y_getI C 4 _ _ fX5_lastLeft_45 rfl rfl ft_4_13 sb_4_13 hM0 dX5_lastLeft_3 (fun a101 ea101 la101 ua101 => ?_)
  refine j_istore_n C 2 [(2, .int (sI a101)), (1, .int (sI 0)), (0, .ref (ad 88))] dX5_lastLeft_6 rfl (by decide) rfl ?_
  have L139 : ∀ (n137 : Nat), ∀ (a140 : Int) (a141 : Int), (0 ≤ a140 ∧ a140 ≤ 255 ∧ 0 ≤ a141 ∧ a141 ≤ 256 ∧ (256 - a141) < (n137 : Int)) → jj p l e (cn_R 1) s m args below meth c 0 0 Q 4 dC dI ad cA A M0 7 [(0, .ref (ad 88)), (1, .int (sI a140)), (2, .int (sI a141))] [] := by
    intro n137
    induction n137 with
    | zero =>
      intro a140 a141 h142
      exfalso; omega
    | succ n137 ih138 =>
      intro a140 a141 h142
      refine j_iload_n C 2 2 dX5_lastLeft_7 rfl rfl ?_
      refine j_aload_n C 0 0 dX5_lastLeft_8 rfl rfl ?_
      refine y_getI C 4 _ _ fX5_lastLeft_38 rfl rfl ft_4_11 sb_4_11 hM0 dX5_lastLeft_9 (fun a143 ea143 la143 ua143 => ?_)
      refine y_icmp_gt C 52 dX5_lastLeft_12 (by decide) (by omega) (fun h145 => ?_) (fun h145 => ?_)
      · refine j_iload_n C 1 1 dX5_lastLeft_52 rfl rfl ?_
        exact hret _ _ _ _ dX5_lastLeft_53 ⟨a140, rfl, rfl, by omega⟩
      · refine j_aload_n C 0 0 dX5_lastLeft_15 rfl rfl ?_
        refine y_getI C 4 _ _ fX5_lastLeft_42 rfl rfl ft_4_12 sb_4_12 hM0 dX5_lastLeft_16 (fun a146 ea146 la146 ua146 => ?_)
        refine j_iload_n C 2 2 dX5_lastLeft_19 rfl rfl ?_
        refine y_iconst C dX5_lastLeft_20 ?_
        refine y_not C dX5_lastLeft_21 ?_
        refine y_iandL C dX5_lastLeft_22 (by omega) (fun a148 la148 ua148 => ?_)
        refine j_istore_n C 3 [(3, .int (sI a148)), (0, .ref (ad 88)), (1, .int (sI a140)), (2, .int (sI a141))] dX5_lastLeft_23 rfl (by decide) rfl ?_
        refine j_aload_n C 1 0 dX5_lastLeft_24 rfl rfl ?_
        refine y_getC C 4 90 fX5_lastLeft_15 rfl rfl ft_4_2 sm_4_2 rfl hM0 dX5_lastLeft_25 ?_
        refine j_iload_n C 3 2 dX5_lastLeft_28 rfl rfl ?_
        refine y_iald C 39 256 _ _ rfl rfl rfl ak_39 an_39 rfl (sb_39 _) hM0 dX5_lastLeft_29 (by omega) (fun a149 ea149 la149 ua149 => ?_)
        refine y_iconst C dX5_lastLeft_30 ?_
        refine y_icmp_ne C 46 dX5_lastLeft_31 (by decide) (by omega) (fun h150 => ?_) (fun h150 => ?_)
        · refine y_iinc C 3 [(2, .int (sI (a141 + 1))), (3, .int (sI a148)), (0, .ref (ad 88)), (1, .int (sI a140))] dX5_lastLeft_46 rfl (by decide) rfl ?_
          refine j_goto C 7 dX5_lastLeft_49 (by decide) ?_
          refine j_lv [2, 3, 0] rfl ?_; exact ih138 a140 (a141 + 1) (by omega)
        · refine j_iload_n C 0 3 dX5_lastLeft_34 rfl rfl ?_
          refine j_callSi C (d := 0) (As := [.int (sI a148)]) (st := []) (s1_J6_bitCount_0f7a4 hM0 a148 (by omega)) gX5_lastLeft_J6_bitCount_0f7a4 rfl hdJ6_bitCount_0f7a4s (by decide) (Nat.le_of_ble_eq_true rfl) dX5_lastLeft_35 rfl (fun r151 M152 h153 => ?_)
          obtain ⟨a155, rfl, rfl, h154⟩ := h153
          refine y_iconst C dX5_lastLeft_38 ?_
          refine y_icmp_ne C 46 dX5_lastLeft_39 (by decide) (by omega) (fun h156 => ?_) (fun h156 => ?_)
          · refine y_iinc C 3 [(2, .int (sI (a141 + 1))), (3, .int (sI a148)), (0, .ref (ad 88)), (1, .int (sI a140))] dX5_lastLeft_46 rfl (by decide) rfl ?_
            refine j_goto C 7 dX5_lastLeft_49 (by decide) ?_
            refine j_lv [2, 3, 0] rfl ?_; exact ih138 a140 (a141 + 1) (by omega)
          · refine j_iload_n C 2 1 dX5_lastLeft_42 rfl rfl ?_
            refine j_iload_n C 0 3 dX5_lastLeft_43 rfl rfl ?_
            refine y_iorN C 8 255 dX5_lastLeft_44 rfl (by decide) (by omega) (fun a157 la157 ua157 => ?_)
            refine j_istore_n C 1 [(1, .int (sI a157)), (3, .int (sI a148)), (0, .ref (ad 88)), (2, .int (sI a141))] dX5_lastLeft_45 rfl (by decide) rfl ?_
            refine y_iinc C 3 [(2, .int (sI (a141 + 1))), (1, .int (sI a157)), (3, .int (sI a148)), (0, .ref (ad 88))] dX5_lastLeft_46 rfl (by decide) rfl ?_
            refine j_goto C 7 dX5_lastLeft_49 (by decide) ?_
            refine j_lv [3, 1, 0] rfl ?_; exact ih138 a157 (a141 + 1) (by omega)
  refine j_lv [2, 1, 0] rfl ?_; exact L139 2010 0 a101 (by omega)
set_option maxHeartbeats 4000000 in
theorem s1_X11_last {l : Launch} {dC : Nat → ClassId} {dI : Nat → Nat → Nat} {ad : Nat → Nat} {cA : Nat → ClassId} {pr : Nat → Nat → Bool} {Kz : mm_M} {M0 : mm_M} (hM0 : INV pr Kz M0) (hpr : PX pr)  : Ci l 6 yX11_last wsX11_last dC dI ad cA [.ref (ad 0)] M0 (fun r M' => ∃ a : Int, r = sI a ∧ INV pr Kz M' ∧ 0 ≤ a ∧ a ≤ 255) := by
  refine ci_of (cc := cX11_last) (maxL := 1) (ty := .int) (lv := [(0, .ref (ad 0))]) (by decide) rfl (fun r M' hp => rfl) (Nat.le_of_ble_eq_true rfl) rfl ?_
  intro p e s m args below meth c A Q C hret
  refine j_aload_n C 0 0 dX11_last_0 rfl rfl ?_
  refine y_getC C 10 88 fX11_last_94 rfl rfl ft_10_14 sm_10_14 rfl hM0 dX11_last_1 ?_
  refine j_aload_n C 0 0 dX11_last_4 rfl rfl ?_
  refine y_getM C 10 6 fX11_last_26 rfl rfl ft_10_4 sm_10_4 (by decide) hM0 dX11_last_5 (fun v101 ev101 cv101 => ?_)
  refine j_aload_n C 0 0 dX11_last_8 rfl rfl ?_
  refine y_getC C 10 12 fX11_last_36 rfl rfl ft_10_6 sm_10_6 rfl hM0 dX11_last_9 ?_
  refine j_aload_n C 0 0 dX11_last_12 rfl rfl ?_
  refine y_getC C 10 12 fX11_last_36 rfl rfl ft_10_6 sm_10_6 rfl hM0 dX11_last_13 ?_
  refine y_getI C 8 _ _ fX11_last_153 rfl rfl ft_8_4 sb_8_4 hM0 dX11_last_16 (fun a102 ea102 la102 ua102 => ?_)
  refine j_callVv C (d := 5) (As := [.ref (ad v101), .ref (ad 12), .int (sI a102)]) (st := []) 88 (s_lt rfl rfl) (s_kc (c := 4) rfl rfl) (by decide) rfl (s1_X5_look hM0 hpr cv101 rfl a102 (by omega)) gX11_last_X5_look rfl hdX5_look (by decide) (Nat.le_of_ble_eq_true rfl) dX11_last_19 rfl (fun M105 h106 => ?_)
  have hM105 := h106
  refine j_aload_n C 0 0 dX11_last_22 rfl rfl ?_
  refine y_getC C 10 88 fX11_last_94 rfl rfl ft_10_14 sm_10_14 rfl hM105 dX11_last_23 ?_
  refine j_callVi C (d := 1) (As := []) (st := []) 88 (s_lt rfl rfl) (s_kc (c := 4) rfl rfl) (by decide) rfl (s1_X5_lastLeft hM105) gX11_last_X5_lastLeft rfl hdX5_lastLeft (by decide) (Nat.le_of_ble_eq_true rfl) dX11_last_26 rfl (fun r108 M109 h110 => ?_)
  obtain ⟨a112, rfl, rfl, h111⟩ := h110
  exact hret _ _ _ _ dX11_last_29 ⟨a112, rfl, hM105, by omega⟩
set_option maxHeartbeats 4000000 in
theorem s1_X11_chanceRefusal {l : Launch} {dC : Nat → ClassId} {dI : Nat → Nat → Nat} {ad : Nat → Nat} {cA : Nat → ClassId} {pr : Nat → Nat → Bool} {Kz : mm_M} {M0 : mm_M} (hM0 : INV pr Kz M0) (a0 : Int) (ha0 : -2147483648 ≤ a0 ∧ a0 ≤ 2147483647) (a1 : Int) (ha1 : -2147483648 ≤ a1 ∧ a1 ≤ 2147483647) (a2 : Int) (ha2 : -2147483648 ≤ a2 ∧ a2 ≤ 2147483647) : Ci l 0 yX11_chanceRefusal wsX11_chanceRefusal dC dI ad cA [.int (sI a0), .int (sI a1), .int (sI a2)] M0 (fun r M' => ∃ a : Int, r = sI a ∧ M0 = M' ∧ (-3) ≤ a ∧ a ≤ 0 ∧ ((a0 < 0 ∧ a = (-2)) ∨ (0 ≤ a0 ∧ a0 ≤ 1 ∧ a1 < 0 ∧ a = (-3)) ∨ (0 ≤ a0 ∧ a0 ≤ 1 ∧ 0 ≤ a1 ∧ a1 ≤ a2 ∧ a = 0) ∨ (0 ≤ a0 ∧ a0 ≤ 1 ∧ 0 ≤ a1 ∧ a2 < a1 ∧ a = (-3)) ∨ (0 ≤ a0 ∧ 1 < a0 ∧ a = (-2)))) := by
  refine ci_of (cc := cX11_chanceRefusal) (maxL := 3) (ty := .int) (lv := [(0, .int (sI a0)), (1, .int (sI a1)), (2, .int (sI a2))]) (by decide) rfl (fun r M' hp => rfl) (Nat.le_of_ble_eq_true rfl) rfl ?_
  intro p e s m args below meth c A Q C hret
  refine j_iload_n C 0 0 dX11_chanceRefusal_0 rfl rfl ?_
  refine y_if_lt C 9 dX11_chanceRefusal_1 (by decide) (by omega) (fun h101 => ?_) (fun h101 => ?_)
  · refine y_bipush C dX11_chanceRefusal_9 rfl ?_
    exact hret _ _ _ _ dX11_chanceRefusal_11 ⟨(-2), rfl, rfl, by omega⟩
  · refine j_iload_n C 0 0 dX11_chanceRefusal_4 rfl rfl ?_
    refine y_iconst C dX11_chanceRefusal_5 ?_
    refine y_icmp_le C 12 dX11_chanceRefusal_6 (by decide) (by omega) (fun h102 => ?_) (fun h102 => ?_)
    · refine j_iload_n C 1 1 dX11_chanceRefusal_12 rfl rfl ?_
      refine y_if_lt C 21 dX11_chanceRefusal_13 (by decide) (by omega) (fun h103 => ?_) (fun h103 => ?_)
      · refine y_bipush C dX11_chanceRefusal_21 rfl ?_
        refine j_goto C 27 dX11_chanceRefusal_23 (by decide) ?_
        exact hret _ _ _ _ dX11_chanceRefusal_27 ⟨(-3), rfl, rfl, by omega⟩
      · refine j_iload_n C 1 1 dX11_chanceRefusal_16 rfl rfl ?_
        refine j_iload_n C 2 2 dX11_chanceRefusal_17 rfl rfl ?_
        refine y_icmp_le C 26 dX11_chanceRefusal_18 (by decide) (by omega) (fun h104 => ?_) (fun h104 => ?_)
        · refine y_iconst C dX11_chanceRefusal_26 ?_
          exact hret _ _ _ _ dX11_chanceRefusal_27 ⟨0, rfl, rfl, by omega⟩
        · refine y_bipush C dX11_chanceRefusal_21 rfl ?_
          refine j_goto C 27 dX11_chanceRefusal_23 (by decide) ?_
          exact hret _ _ _ _ dX11_chanceRefusal_27 ⟨(-3), rfl, rfl, by omega⟩
    · refine y_bipush C dX11_chanceRefusal_9 rfl ?_
      exact hret _ _ _ _ dX11_chanceRefusal_11 ⟨(-2), rfl, rfl, by omega⟩
set_option maxHeartbeats 4000000 in
theorem s2_J7_fill_d0a16 {l : Launch} {dC : Nat → ClassId} {dI : Nat → Nat → Nat} {ad : Nat → Nat} {cA : Nat → ClassId} {pr : Nat → Nat → Bool} {Kz : mm_M} {M0 : mm_M} (hM0 : INV pr Kz M0) (hpr : PX pr) (a1 : Int) (ha1 : -9223372036854775808 ≤ a1 ∧ a1 ≤ 9223372036854775807) : Cv l 0 yJ7_fill_d0a16 wsJ7_fill_d0a16 dC dI ad cA [.ref (ad 94), .long (sJ a1)] M0 (fun M' => INV pr Kz M') := by
  refine cv_of (cc := cJ7_fill_d0a16) (maxL := 5) (lv := [(0, .ref (ad 94)), (1, .long (sJ a1))]) (by decide) rfl (Nat.le_of_ble_eq_true rfl) rfl ?_
  intro p e s m args below meth c A Q C hret
  refine y_iconst C dJ7_fill_d0a16_0 ?_
  refine j_istore_n C 3 [(3, .int (sI 0)), (0, .ref (ad 94)), (1, .long (sJ a1))] dJ7_fill_d0a16_1 rfl (by decide) rfl ?_
  refine j_aload_n C 1 0 dJ7_fill_d0a16_2 rfl rfl ?_
  refine y_alen C 42 6 rfl rfl rfl an_42 rfl rfl dJ7_fill_d0a16_3 ?_
  refine j_istore C 4 [(4, .int (sI 6)), (3, .int (sI 0)), (0, .ref (ad 94)), (1, .long (sJ a1))] dJ7_fill_d0a16_4 (by decide) rfl ?_
  have L131 : ∀ (n129 : Nat), ∀ (a132 : Int) (M133 : mm_M), (0 ≤ a132 ∧ a132 ≤ 6 ∧ (6 - a132) < (n129 : Int)) → INV pr Kz M133 → jj p l e (cn_R 0) s m args below meth c 0 0 Q 5 dC dI ad cA A M133 6 [(0, .ref (ad 94)), (1, .long (sJ a1)), (3, .int (sI a132)), (4, .int (sI 6))] [] := by
    intro n129
    induction n129 with
    | zero =>
      intro a132 M133 h134 hM133
      exfalso; omega
    | succ n129 ih130 =>
      intro a132 M133 h134 hM133
      refine j_iload_n C 2 3 dJ7_fill_d0a16_6 rfl rfl ?_
      refine j_iload C 3 dJ7_fill_d0a16_7 rfl ?_
      refine y_icmp_ge C 22 dJ7_fill_d0a16_9 (by decide) (by omega) (fun h135 => ?_) (fun h135 => ?_)
      · exact hret _ _ _ dJ7_fill_d0a16_22 hM133
      · refine j_aload_n C 0 0 dJ7_fill_d0a16_12 rfl rfl ?_
        refine j_iload_n C 2 3 dJ7_fill_d0a16_13 rfl rfl ?_
        refine j_lload_n C 1 1 dJ7_fill_d0a16_14 rfl rfl ?_
        refine y_last C 42 6 rfl rfl rfl ak_42 an_42 rfl hM133 (PX.w hpr rfl rfl) dJ7_fill_d0a16_15 (by omega) (fun M136 eM136 hM136 => ?_)
        refine y_iinc C 2 [(3, .int (sI (a132 + 1))), (0, .ref (ad 94)), (1, .long (sJ a1)), (4, .int (sI 6))] dJ7_fill_d0a16_16 rfl (by decide) rfl ?_
        refine j_goto C 6 dJ7_fill_d0a16_19 (by decide) ?_
        refine j_lv [1, 2, 0, 3] rfl ?_; exact ih130 (a132 + 1) M136 (by omega) hM136
  refine j_lv [2, 3, 1, 0] rfl ?_; exact L131 2010 0 M0 (by omega) hM0
set_option maxHeartbeats 4000000 in
theorem s1_X5_spread {l : Launch} {dC : Nat → ClassId} {dI : Nat → Nat → Nat} {ad : Nat → Nat} {cA : Nat → ClassId} {pr : Nat → Nat → Bool} {Kz : mm_M} {M0 : mm_M} (hM0 : INV pr Kz M0) (hpr : PX pr) (a1 : Int) (ha1 : -2147483648 ≤ a1 ∧ a1 ≤ 2147483647) (hp0 : 0 ≤ a1 ∧ a1 ≤ 255) : Cv l 1 yX5_spread wsX5_spread dC dI ad cA [.ref (ad 88), .int (sI a1)] M0 (fun M' => INV pr Kz M') := by
  refine cv_of (cc := cX5_spread) (maxL := 7) (lv := [(0, .ref (ad 88)), (1, .int (sI a1))]) (by decide) rfl (Nat.le_of_ble_eq_true rfl) rfl ?_
  intro p e s m args below meth c A Q C hret
  refine y_iconst C dX5_spread_0 ?_
  refine j_istore_n C 2 [(2, .int (sI 0)), (0, .ref (ad 88)), (1, .int (sI a1))] dX5_spread_1 rfl (by decide) rfl ?_
  have L411 : ∀ (n409 : Nat), ∀ (a412 : Int) (M413 : mm_M), (0 ≤ a412 ∧ a412 ≤ 6 ∧ (6 - a412) < (n409 : Int)) → INV pr Kz M413 → jj p l e (cn_R 1) s m args below meth c 0 0 Q 7 dC dI ad cA A M413 2 [(0, .ref (ad 88)), (1, .int (sI a1)), (2, .int (sI a412))] [] := by
    intro n409
    induction n409 with
    | zero =>
      intro a412 M413 h414 hM413
      exfalso; omega
    | succ n409 ih410 =>
      intro a412 M413 h414 hM413
      refine j_iload_n C 2 2 dX5_spread_2 rfl rfl ?_
      refine j_aload_n C 0 0 dX5_spread_3 rfl rfl ?_
      refine y_getM C 4 6 fX5_spread_52 rfl rfl ft_4_9 sm_4_9 (by decide) hM413 dX5_spread_4 (fun v415 ev415 cv415 => ?_)
      refine y_getI C 6 _ _ fX5_spread_92 cv415 rfl ft_6_0 sb_6_0 hM413 dX5_spread_7 (fun a416 ea416 la416 ua416 => ?_)
      refine y_icmp_ge C 127 dX5_spread_10 (by decide) (by omega) (fun h418 => ?_) (fun h418 => ?_)
      · exact hret _ _ _ dX5_spread_127 hM413
      · refine j_aload_n C 0 0 dX5_spread_13 rfl rfl ?_
        refine y_getM C 4 41 fX5_spread_21 rfl rfl ft_4_4 sm_4_4 (by decide) hM413 dX5_spread_14 (fun v419 ev419 cv419 => ?_)
        refine j_iload_n C 1 1 dX5_spread_17 rfl rfl ?_
        refine y_lald C 41 256 cv419 rfl rfl ak_41 an_41 rfl dX5_spread_18 (by omega) (fun a420 ea420 la420 ua420 => ?_)
        refine j_aload_n C 0 0 dX5_spread_19 rfl rfl ?_
        refine y_getV C 4 v415 fX5_spread_52 rfl rfl ft_4_9 (ev415) dX5_spread_20 ?_
        refine y_getT C 6 23 fX5_spread_153 cv415 rfl ft_6_4 rfl sm_6_4 st_6_4 (by decide) hM413 dX5_spread_23 (fun v421 cv421 => ?_)
        refine j_iload_n C 2 2 dX5_spread_26 rfl rfl ?_
        refine y_iald C 23 6 _ _ cv421 rfl rfl ak_23 an_23 rfl (sb_23 _) hM413 dX5_spread_27 (by omega) (fun a422 ea422 la422 ua422 => ?_)
        refine y_i2l C dX5_spread_28 (by omega) ?_
        refine y_lmul0 C dX5_spread_29 (fun a423 la423 ua423 => ?_)
        refine j_lstore_n C 3 [(3, .long (sJ a423)), (0, .ref (ad 88)), (1, .int (sI a1)), (2, .int (sI a412))] dX5_spread_30 rfl (by decide) rfl ?_
        refine j_aload_n C 1 0 dX5_spread_31 rfl rfl ?_
        refine j_iload_n C 2 1 dX5_spread_32 rfl rfl ?_
        refine j_iload_n C 3 2 dX5_spread_33 rfl rfl ?_
        refine j_callVi C (d := 0) (As := [.int (sI a1), .int (sI a412)]) (st := []) 88 (s_lt rfl rfl) (s_kc (c := 4) rfl rfl) (by decide) rfl (s1_X5_pick hM413 a1 (by omega) a412 (by omega)) gX5_spread_X5_pick rfl hdX5_pick (by decide) (Nat.le_of_ble_eq_true rfl) dX5_spread_34 rfl (fun r424 M425 h426 => ?_)
        obtain ⟨a428, rfl, rfl, h427⟩ := h426
        refine j_istore C 5 [(5, .int (sI a428)), (3, .long (sJ a423)), (0, .ref (ad 88)), (1, .int (sI a1)), (2, .int (sI a412))] dX5_spread_37 (by decide) rfl ?_
        refine j_iload C 0 dX5_spread_39 rfl ?_
        refine y_if_ge C 57 dX5_spread_41 (by decide) (by omega) (fun h429 => ?_) (fun h429 => ?_)
        · refine j_iload_n C 3 1 dX5_spread_57 rfl rfl ?_
          refine y_iconst C dX5_spread_58 ?_
          refine j_iload C 0 dX5_spread_59 rfl ?_
          refine y_shl1 C 7 128 dX5_spread_61 rfl (by decide) (by omega) (fun a430 la430 ua430 => ?_)
          refine y_iorN C 8 255 dX5_spread_62 rfl (by decide) (by omega) (fun a431 la431 ua431 => ?_)
          refine j_istore C 6 [(6, .int (sI a431)), (5, .int (sI a428)), (3, .long (sJ a423)), (0, .ref (ad 88)), (1, .int (sI a1)), (2, .int (sI a412))] dX5_spread_63 (by decide) rfl ?_
          refine j_aload_n C 3 0 dX5_spread_65 rfl rfl ?_
          refine y_getM C 4 41 fX5_spread_25 rfl rfl ft_4_5 sm_4_5 (by decide) hM413 dX5_spread_66 (fun v432 ev432 cv432 => ?_)
          refine j_iload C 0 dX5_spread_69 rfl ?_
          refine j_dup2 C dX5_spread_71 rfl rfl ?_
          refine y_lald C 41 256 cv432 rfl rfl ak_41 an_41 rfl dX5_spread_72 (by omega) (fun a433 ea433 la433 ua433 => ?_)
          refine j_lload_n C 2 3 dX5_spread_73 rfl rfl ?_
          refine y_ladd0 C dX5_spread_74 (fun a434 la434 ua434 => ?_)
          refine y_last C 41 256 cv432 rfl rfl ak_41 an_41 rfl hM413 (PX.w hpr cv432 rfl) dX5_spread_75 (by omega) (fun M435 eM435 hM435 => ?_)
          refine j_aload_n C 3 0 dX5_spread_76 rfl rfl ?_
          refine j_dup C dX5_spread_77 rfl ?_
          refine y_getJ C 4 fX5_spread_35 rfl rfl ft_4_8 dX5_spread_78 (fun a436 ea436 la436 ua436 => ?_)
          refine j_lload_n C 2 3 dX5_spread_81 rfl rfl ?_
          refine j_aload_n C 3 0 dX5_spread_82 rfl rfl ?_
          refine y_getM C 4 8 fX5_spread_56 rfl rfl ft_4_10 sm_4_10 (by decide) hM435 dX5_spread_83 (fun v437 ev437 cv437 => ?_)
          refine y_getT C 8 25 fX5_spread_156 cv437 rfl ft_8_1 rfl sm_8_1 st_8_1 (by decide) hM435 dX5_spread_86 (fun v438 cv438 => ?_)
          refine j_iload C 1 dX5_spread_89 rfl ?_
          refine y_iald C 25 8 _ _ cv438 rfl rfl ak_25 an_25 rfl (sb_25 _) hM435 dX5_spread_91 (by omega) (fun a439 ea439 la439 ua439 => ?_)
          refine y_i2l C dX5_spread_92 (by omega) ?_
          refine y_lmul0 C dX5_spread_93 (fun a440 la440 ua440 => ?_)
          refine y_ladd0 C dX5_spread_94 (fun a441 la441 ua441 => ?_)
          refine y_putJ C 4 qX5_spread_35 rfl rfl ft_4_8 hM435 (PX.w hpr rfl rfl) dX5_spread_95 (fun M442 eM442 hM442 => ?_)
          refine j_aload_n C 3 0 dX5_spread_98 rfl rfl ?_
          refine y_getC C 4 94 fX5_spread_28 rfl rfl ft_4_6 sm_4_6 rfl hM442 dX5_spread_99 ?_
          refine j_iload_n C 5 2 dX5_spread_102 rfl rfl ?_
          refine j_dup2 C dX5_spread_103 rfl rfl ?_
          refine y_lald C 42 6 rfl rfl rfl ak_42 an_42 rfl dX5_spread_104 (by omega) (fun a443 ea443 la443 ua443 => ?_)
          refine j_aload_n C 3 0 dX5_spread_105 rfl rfl ?_
          refine j_iload C 0 dX5_spread_106 rfl ?_
          refine j_callVi C (d := 0) (As := [.int (sI a431)]) (st := [.long (sJ a443), .int (sI a412), .ref (ad 94)]) 88 (s_lt rfl rfl) (s_kc (c := 4) rfl rfl) (by decide) rfl (s1_X5_isShutAt hM442 a431 (by omega)) gX5_spread_X5_isShutAt rfl hdX5_isShutAt (by decide) (Nat.le_of_ble_eq_true rfl) dX5_spread_108 rfl (fun r444 M445 h446 => ?_)
          obtain ⟨a448, rfl, rfl, h447⟩ := h446
          refine y_if_eq C 118 dX5_spread_111 (by decide) (by omega) (fun h449 => ?_) (fun h449 => ?_)
          · refine y_lconst C 0 dX5_spread_118 rfl ?_
            refine y_ladd C dX5_spread_119 ?_
            refine y_last C 42 6 rfl rfl rfl ak_42 an_42 rfl hM442 (PX.w hpr rfl rfl) dX5_spread_120 (by omega) (fun M450 eM450 hM450 => ?_)
            refine y_iinc C 5 [(2, .int (sI (a412 + 1))), (6, .int (sI a431)), (5, .int (sI a428)), (3, .long (sJ a423)), (0, .ref (ad 88)), (1, .int (sI a1))] dX5_spread_121 rfl (by decide) rfl ?_
            refine j_goto C 2 dX5_spread_124 (by decide) ?_
            refine j_lv [4, 5, 0] rfl ?_; exact ih410 (a412 + 1) M450 (by omega) hM450
          · refine j_lload_n C 2 3 dX5_spread_114 rfl rfl ?_
            refine j_goto C 119 dX5_spread_115 (by decide) ?_
            refine y_ladd0 C dX5_spread_119 (fun a451 la451 ua451 => ?_)
            refine y_last C 42 6 rfl rfl rfl ak_42 an_42 rfl hM442 (PX.w hpr rfl rfl) dX5_spread_120 (by omega) (fun M452 eM452 hM452 => ?_)
            refine y_iinc C 5 [(2, .int (sI (a412 + 1))), (6, .int (sI a431)), (5, .int (sI a428)), (3, .long (sJ a423)), (0, .ref (ad 88)), (1, .int (sI a1))] dX5_spread_121 rfl (by decide) rfl ?_
            refine j_goto C 2 dX5_spread_124 (by decide) ?_
            refine j_lv [4, 5, 0] rfl ?_; exact ih410 (a412 + 1) M452 (by omega) hM452
        · refine j_aload_n C 2 0 dX5_spread_44 rfl rfl ?_
          refine y_getM C 4 41 fX5_spread_25 rfl rfl ft_4_5 sm_4_5 (by decide) hM413 dX5_spread_45 (fun v453 ev453 cv453 => ?_)
          refine j_iload_n C 3 1 dX5_spread_48 rfl rfl ?_
          refine j_dup2 C dX5_spread_49 rfl rfl ?_
          refine y_lald C 41 256 cv453 rfl rfl ak_41 an_41 rfl dX5_spread_50 (by omega) (fun a454 ea454 la454 ua454 => ?_)
          refine j_lload_n C 1 3 dX5_spread_51 rfl rfl ?_
          refine y_ladd0 C dX5_spread_52 (fun a455 la455 ua455 => ?_)
          refine y_last C 41 256 cv453 rfl rfl ak_41 an_41 rfl hM413 (PX.w hpr cv453 rfl) dX5_spread_53 (by omega) (fun M456 eM456 hM456 => ?_)
          refine j_goto C 121 dX5_spread_54 (by decide) ?_
          refine y_iinc C 4 [(2, .int (sI (a412 + 1))), (5, .int (sI a428)), (3, .long (sJ a423)), (0, .ref (ad 88)), (1, .int (sI a1))] dX5_spread_121 rfl (by decide) rfl ?_
          refine j_goto C 2 dX5_spread_124 (by decide) ?_
          refine j_lv [3, 4, 0] rfl ?_; exact ih410 (a412 + 1) M456 (by omega) hM456
  refine j_lv [1, 2, 0] rfl ?_; exact L411 2010 0 M0 (by omega) hM0
set_option maxHeartbeats 4000000 in
theorem s1_X5_passDay {l : Launch} {dC : Nat → ClassId} {dI : Nat → Nat → Nat} {ad : Nat → Nat} {cA : Nat → ClassId} {pr : Nat → Nat → Bool} {Kz : mm_M} {M0 : mm_M} (hM0 : INV pr Kz M0) (hpr : PX pr) (a1 : Int) (ha1 : -2147483648 ≤ a1 ∧ a1 ≤ 2147483647) : Cv l 2 yX5_passDay wsX5_passDay dC dI ad cA [.ref (ad 88), .int (sI a1)] M0 (fun M' => INV pr Kz M') := by
  refine cv_of (cc := cX5_passDay) (maxL := 3) (lv := [(0, .ref (ad 88)), (1, .int (sI a1))]) (by decide) rfl (Nat.le_of_ble_eq_true rfl) rfl ?_
  intro p e s m args below meth c A Q C hret
  refine j_aload_n C 0 0 dX5_passDay_0 rfl rfl ?_
  refine y_getM C 4 41 fX5_passDay_25 rfl rfl ft_4_5 sm_4_5 (by decide) hM0 dX5_passDay_1 (fun v101 ev101 cv101 => ?_)
  refine y_lconst C 0 dX5_passDay_4 rfl ?_
  refine j_callSv C (d := 0) (As := [.ref (ad v101), .long (sJ 0)]) (st := []) (s1_J7_fill_d0a16 hM0 hpr cv101 0 (by omega)) gX5_passDay_J7_fill_d0a16 rfl hdJ7_fill_d0a16s (by decide) (Nat.le_of_ble_eq_true rfl) dX5_passDay_5 rfl (fun M103 h104 => ?_)
  have hM103 := h104
  refine j_aload_n C 0 0 dX5_passDay_8 rfl rfl ?_
  refine j_dup C dX5_passDay_9 rfl ?_
  refine y_getJ C 4 fX5_passDay_31 rfl rfl ft_4_7 dX5_passDay_10 (fun a106 ea106 la106 ua106 => ?_)
  refine j_iload_n C 1 1 dX5_passDay_13 rfl rfl ?_
  refine y_i2l C dX5_passDay_14 (by omega) ?_
  refine y_lmul0 C dX5_passDay_15 (fun a107 la107 ua107 => ?_)
  refine y_putJ C 4 qX5_passDay_31 rfl rfl ft_4_7 hM103 (PX.w hpr rfl rfl) dX5_passDay_16 (fun M108 eM108 hM108 => ?_)
  refine j_aload_n C 0 0 dX5_passDay_19 rfl rfl ?_
  refine j_dup C dX5_passDay_20 rfl ?_
  refine y_getJ C 4 fX5_passDay_35 rfl rfl ft_4_8 dX5_passDay_21 (fun a109 ea109 la109 ua109 => ?_)
  refine j_iload_n C 1 1 dX5_passDay_24 rfl rfl ?_
  refine y_i2l C dX5_passDay_25 (by omega) ?_
  refine y_lmul0 C dX5_passDay_26 (fun a110 la110 ua110 => ?_)
  refine y_putJ C 4 qX5_passDay_35 rfl rfl ft_4_8 hM108 (PX.w hpr rfl rfl) dX5_passDay_27 (fun M111 eM111 hM111 => ?_)
  refine y_iconst C dX5_passDay_30 ?_
  refine j_istore_n C 2 [(2, .int (sI 0)), (0, .ref (ad 88)), (1, .int (sI a1))] dX5_passDay_31 rfl (by decide) rfl ?_
  have L177 : ∀ (n175 : Nat), ∀ (a178 : Int) (M179 : mm_M), (0 ≤ a178 ∧ a178 ≤ 6 ∧ (6 - a178) < (n175 : Int)) → INV pr Kz M179 → jj p l e (cn_R 2) s m args below meth c 0 0 Q 3 dC dI ad cA A M179 32 [(0, .ref (ad 88)), (1, .int (sI a1)), (2, .int (sI a178))] [] := by
    intro n175
    induction n175 with
    | zero =>
      intro a178 M179 h180 hM179
      exfalso; omega
    | succ n175 ih176 =>
      intro a178 M179 h180 hM179
      refine j_iload_n C 2 2 dX5_passDay_32 rfl rfl ?_
      refine j_aload_n C 0 0 dX5_passDay_33 rfl rfl ?_
      refine y_getM C 4 6 fX5_passDay_52 rfl rfl ft_4_9 sm_4_9 (by decide) hM179 dX5_passDay_34 (fun v181 ev181 cv181 => ?_)
      refine y_getI C 6 _ _ fX5_passDay_92 cv181 rfl ft_6_0 sb_6_0 hM179 dX5_passDay_37 (fun a182 ea182 la182 ua182 => ?_)
      refine y_icmp_ge C 60 dX5_passDay_40 (by decide) (by omega) (fun h184 => ?_) (fun h184 => ?_)
      · refine j_aload_n C 0 0 dX5_passDay_60 rfl rfl ?_
        refine y_getI C 4 _ _ fX5_passDay_45 rfl rfl ft_4_13 sb_4_13 hM179 dX5_passDay_61 (fun a188 ea188 la188 ua188 => ?_)
        refine j_istore_n C 2 [(2, .int (sI a188)), (0, .ref (ad 88)), (1, .int (sI a1))] dX5_passDay_64 rfl (by decide) rfl ?_
        have L216 : ∀ (n214 : Nat), ∀ (a217 : Int) (M218 : mm_M), (0 ≤ a217 ∧ a217 ≤ 256 ∧ (256 - a217) < (n214 : Int)) → INV pr Kz M218 → jj p l e (cn_R 2) s m args below meth c 0 0 Q 3 dC dI ad cA A M218 65 [(0, .ref (ad 88)), (2, .int (sI a217))] [] := by
          intro n214
          induction n214 with
          | zero =>
            intro a217 M218 h219 hM218
            exfalso; omega
          | succ n214 ih215 =>
            intro a217 M218 h219 hM218
            refine j_iload_n C 1 2 dX5_passDay_65 rfl rfl ?_
            refine j_aload_n C 0 0 dX5_passDay_66 rfl rfl ?_
            refine y_getI C 4 _ _ fX5_passDay_38 rfl rfl ft_4_11 sb_4_11 hM218 dX5_passDay_67 (fun a220 ea220 la220 ua220 => ?_)
            refine y_icmp_gt C 95 dX5_passDay_70 (by decide) (by omega) (fun h222 => ?_) (fun h222 => ?_)
            · refine j_aload_n C 0 0 dX5_passDay_95 rfl rfl ?_
              refine j_callVv C (d := 0) (As := []) (st := []) 88 (s_lt rfl rfl) (s_kc (c := 4) rfl rfl) (by decide) rfl (s1_X5_swapWays hM218 hpr) gX5_passDay_X5_swapWays rfl hdX5_swapWays (by decide) (Nat.le_of_ble_eq_true rfl) dX5_passDay_96 rfl (fun M231 h232 => ?_)
              have hM231 := h232
              exact hret _ _ _ dX5_passDay_99 hM231
            · refine j_aload_n C 0 0 dX5_passDay_73 rfl rfl ?_
              refine y_getM C 4 41 fX5_passDay_21 rfl rfl ft_4_4 sm_4_4 (by decide) hM218 dX5_passDay_74 (fun v223 ev223 cv223 => ?_)
              refine j_iload_n C 1 2 dX5_passDay_77 rfl rfl ?_
              refine y_lald C 41 256 cv223 rfl rfl ak_41 an_41 rfl dX5_passDay_78 (by omega) (fun a224 ea224 la224 ua224 => ?_)
              refine y_lconst C 0 dX5_passDay_79 rfl ?_
              refine y_lcmp_eq C 89 dX5_passDay_80 dX5_passDay_81 (by decide) (by omega) (fun h225 => ?_) (fun h225 => ?_)
              · refine y_iinc C 1 [(2, .int (sI (a217 + 1))), (0, .ref (ad 88))] dX5_passDay_89 rfl (by decide) rfl ?_
                refine j_goto C 65 dX5_passDay_92 (by decide) ?_
                refine j_lv [1, 0] rfl ?_; exact ih215 (a217 + 1) M218 (by omega) hM218
              · refine j_aload_n C 0 0 dX5_passDay_84 rfl rfl ?_
                refine j_iload_n C 1 2 dX5_passDay_85 rfl rfl ?_
                refine j_callVv C (d := 1) (As := [.int (sI a217)]) (st := []) 88 (s_lt rfl rfl) (s_kc (c := 4) rfl rfl) (by decide) rfl (s1_X5_spread hM218 hpr a217 (by omega) (by omega)) gX5_passDay_X5_spread rfl hdX5_spread (by decide) (Nat.le_of_ble_eq_true rfl) dX5_passDay_86 rfl (fun M227 h228 => ?_)
                have hM227 := h228
                refine y_iinc C 1 [(2, .int (sI (a217 + 1))), (0, .ref (ad 88))] dX5_passDay_89 rfl (by decide) rfl ?_
                refine j_goto C 65 dX5_passDay_92 (by decide) ?_
                refine j_lv [1, 0] rfl ?_; exact ih215 (a217 + 1) M227 (by omega) hM227
        refine j_lv [1, 0] rfl ?_; exact L216 2010 a188 M179 (by omega) hM179
      · refine j_aload_n C 0 0 dX5_passDay_43 rfl rfl ?_
        refine y_getC C 4 94 fX5_passDay_28 rfl rfl ft_4_6 sm_4_6 rfl hM179 dX5_passDay_44 ?_
        refine j_iload_n C 2 2 dX5_passDay_47 rfl rfl ?_
        refine j_dup2 C dX5_passDay_48 rfl rfl ?_
        refine y_lald C 42 6 rfl rfl rfl ak_42 an_42 rfl dX5_passDay_49 (by omega) (fun a185 ea185 la185 ua185 => ?_)
        refine j_iload_n C 1 1 dX5_passDay_50 rfl rfl ?_
        refine y_i2l C dX5_passDay_51 (by omega) ?_
        refine y_lmul0 C dX5_passDay_52 (fun a186 la186 ua186 => ?_)
        refine y_last C 42 6 rfl rfl rfl ak_42 an_42 rfl hM179 (PX.w hpr rfl rfl) dX5_passDay_53 (by omega) (fun M187 eM187 hM187 => ?_)
        refine y_iinc C 2 [(2, .int (sI (a178 + 1))), (0, .ref (ad 88)), (1, .int (sI a1))] dX5_passDay_54 rfl (by decide) rfl ?_
        refine j_goto C 32 dX5_passDay_57 (by decide) ?_
        refine j_lv [1, 2, 0] rfl ?_; exact ih176 (a178 + 1) M187 (by omega) hM187
  refine j_lv [1, 2, 0] rfl ?_; exact L177 2010 0 M111 (by omega) hM111
set_option maxHeartbeats 4000000 in
theorem s1_X5_passDays {l : Launch} {dC : Nat → ClassId} {dI : Nat → Nat → Nat} {ad : Nat → Nat} {cA : Nat → ClassId} {pr : Nat → Nat → Bool} {Kz : mm_M} {M0 : mm_M} (hM0 : INV pr Kz M0) (hpr : PX pr) (a1 : Int) (ha1 : -2147483648 ≤ a1 ∧ a1 ≤ 2147483647) : Cv l 3 yX5_passDays wsX5_passDays dC dI ad cA [.ref (ad 88), .int (sI a1)] M0 (fun M' => INV pr Kz M') := by
  refine cv_of (cc := cX5_passDays) (maxL := 4) (lv := [(0, .ref (ad 88)), (1, .int (sI a1))]) (by decide) rfl (Nat.le_of_ble_eq_true rfl) rfl ?_
  intro p e s m args below meth c A Q C hret
  refine j_aload_n C 0 0 dX5_passDays_0 rfl rfl ?_
  refine j_callVv C (d := 1) (As := []) (st := []) 88 (s_lt rfl rfl) (s_kc (c := 4) rfl rfl) (by decide) rfl (s1_X5_beginRows hM0 hpr) gX5_passDays_X5_beginRows rfl hdX5_beginRows (by decide) (Nat.le_of_ble_eq_true rfl) dX5_passDays_1 rfl (fun M102 h103 => ?_)
  have hM102 := h103
  refine j_aload_n C 0 0 dX5_passDays_4 rfl rfl ?_
  refine y_getC C 4 94 fX5_passDays_28 rfl rfl ft_4_6 sm_4_6 rfl hM102 dX5_passDays_5 ?_
  refine y_lconst C 0 dX5_passDays_8 rfl ?_
  refine j_callSv C (d := 0) (As := [.ref (ad 94), .long (sJ 0)]) (st := []) (s2_J7_fill_d0a16 hM102 hpr 0 (by omega)) gX5_passDays_J7_fill_d0a16 rfl hdJ7_fill_d0a16s (by decide) (Nat.le_of_ble_eq_true rfl) dX5_passDays_9 rfl (fun M106 h107 => ?_)
  have hM106 := h107
  refine j_aload_n C 0 0 dX5_passDays_12 rfl rfl ?_
  refine y_lconst C 1 dX5_passDays_13 rfl ?_
  refine y_putJ C 4 qX5_passDays_31 rfl rfl ft_4_7 hM106 (PX.w hpr rfl rfl) dX5_passDays_14 (fun M109 eM109 hM109 => ?_)
  refine j_aload_n C 0 0 dX5_passDays_17 rfl rfl ?_
  refine y_lconst C 0 dX5_passDays_18 rfl ?_
  refine y_putJ C 4 qX5_passDays_35 rfl rfl ft_4_8 hM109 (PX.w hpr rfl rfl) dX5_passDays_19 (fun M110 eM110 hM110 => ?_)
  refine j_aload_n C 0 0 dX5_passDays_22 rfl rfl ?_
  refine y_getM C 4 6 fX5_passDays_52 rfl rfl ft_4_9 sm_4_9 (by decide) hM110 dX5_passDays_23 (fun v111 ev111 cv111 => ?_)
  refine j_callVi C (d := 0) (As := []) (st := []) v111 (s_lt cv111 rfl) (s_kc (c := 6) cv111 rfl) (by decide) rfl (s1_X7_together hM110 cv111) gX5_passDays_X7_together rfl hdX7_together (by decide) (Nat.le_of_ble_eq_true rfl) dX5_passDays_26 rfl (fun r112 M113 h114 => ?_)
  obtain ⟨a116, rfl, rfl, h115⟩ := h114
  refine j_istore_n C 2 [(2, .int (sI a116)), (0, .ref (ad 88)), (1, .int (sI a1))] dX5_passDays_29 rfl (by decide) rfl ?_
  refine y_iconst C dX5_passDays_30 ?_
  refine j_istore_n C 3 [(3, .int (sI 0)), (2, .int (sI a116)), (0, .ref (ad 88)), (1, .int (sI a1))] dX5_passDays_31 rfl (by decide) rfl ?_
  have L391 : ∀ (n389 : Nat), ∀ (a392 : Int) (M393 : mm_M), (0 ≤ a392 ∧ a392 ≤ 2147483647 ∧ (2147483647 - a392) < (n389 : Int)) → INV pr Kz M393 → jj p l e (cn_R 3) s m args below meth c 0 0 Q 4 dC dI ad cA A M393 32 [(0, .ref (ad 88)), (1, .int (sI a1)), (2, .int (sI a116)), (3, .int (sI a392))] [] := by
    intro n389
    induction n389 with
    | zero =>
      intro a392 M393 h394 hM393
      exfalso; omega
    | succ n389 ih390 =>
      intro a392 M393 h394 hM393
      refine j_iload_n C 3 3 dX5_passDays_32 rfl rfl ?_
      refine j_iload_n C 1 1 dX5_passDays_33 rfl rfl ?_
      refine y_icmp_ge C 52 dX5_passDays_34 (by decide) (by omega) (fun h395 => ?_) (fun h395 => ?_)
      · exact hret _ _ _ dX5_passDays_52 hM393
      · refine j_iload_n C 2 2 dX5_passDays_37 rfl rfl ?_
        refine y_if_le C 52 dX5_passDays_38 (by decide) (by omega) (fun h396 => ?_) (fun h396 => ?_)
        · exact hret _ _ _ dX5_passDays_52 hM393
        · refine j_aload_n C 0 0 dX5_passDays_41 rfl rfl ?_
          refine j_iload_n C 2 2 dX5_passDays_42 rfl rfl ?_
          refine j_callVv C (d := 2) (As := [.int (sI a116)]) (st := []) 88 (s_lt rfl rfl) (s_kc (c := 4) rfl rfl) (by decide) rfl (s1_X5_passDay hM393 hpr a116 (by omega)) gX5_passDays_X5_passDay rfl hdX5_passDay (by decide) (Nat.le_of_ble_eq_true rfl) dX5_passDays_43 rfl (fun M398 h399 => ?_)
          have hM398 := h399
          refine y_iinc C 3 [(3, .int (sI (a392 + 1))), (0, .ref (ad 88)), (1, .int (sI a1)), (2, .int (sI a116))] dX5_passDays_46 rfl (by decide) rfl ?_
          refine j_goto C 32 dX5_passDays_49 (by decide) ?_
          refine j_lv [1, 2, 3, 0] rfl ?_; exact ih390 (a392 + 1) M398 (by omega) hM398
  refine j_lv [2, 3, 1, 0] rfl ?_; exact L391 4294967304 0 M110 (by omega) hM110
set_option maxHeartbeats 4000000 in
theorem s1_X11_commonDivisor {l : Launch} {dC : Nat → ClassId} {dI : Nat → Nat → Nat} {ad : Nat → Nat} {cA : Nat → ClassId} {pr : Nat → Nat → Bool} {Kz : mm_M} {M0 : mm_M} (hM0 : INV pr Kz M0) (a0 : Int) (ha0 : -9223372036854775808 ≤ a0 ∧ a0 ≤ 9223372036854775807) (a2 : Int) (ha2 : -9223372036854775808 ≤ a2 ∧ a2 ≤ 9223372036854775807) : Cj l 0 yX11_commonDivisor wsX11_commonDivisor dC dI ad cA [.long (sJ a0), .long (sJ a2)] M0 (fun r M' => ∃ a : Int, r = sJ a ∧ M0 = M' ∧ (-9223372036854775808) ≤ a ∧ a ≤ 9223372036854775807) := by
  refine cj_of (cc := cX11_commonDivisor) (maxL := 11) (lv := [(0, .long (sJ a0)), (2, .long (sJ a2))]) (by decide) rfl (Nat.le_of_ble_eq_true rfl) rfl ?_
  intro p e s m args below meth c A Q C hret
  refine j_lload_n C 0 0 dX11_commonDivisor_0 rfl rfl ?_
  refine j_lstore C 4 [(4, .long (sJ a0)), (0, .long (sJ a0)), (2, .long (sJ a2))] dX11_commonDivisor_1 (by decide) rfl ?_
  refine j_lload_n C 2 2 dX11_commonDivisor_3 rfl rfl ?_
  refine j_lstore C 6 [(6, .long (sJ a2)), (4, .long (sJ a0)), (0, .long (sJ a0)), (2, .long (sJ a2))] dX11_commonDivisor_4 (by decide) rfl ?_
  refine y_iconst C dX11_commonDivisor_6 ?_
  refine j_istore C 8 [(8, .int (sI 0)), (6, .long (sJ a2)), (4, .long (sJ a0)), (0, .long (sJ a0)), (2, .long (sJ a2))] dX11_commonDivisor_7 (by decide) rfl ?_
  have L253 : ∀ (n251 : Nat), ∀ (a254 : Int) (a255 : Int) (a256 : Int), ((-9223372036854775808) ≤ a254 ∧ a254 ≤ 9223372036854775807 ∧ (-9223372036854775808) ≤ a255 ∧ a255 ≤ 9223372036854775807 ∧ 0 ≤ a256 ∧ a256 ≤ 200 ∧ (200 - a256) < (n251 : Int)) → jj p l e (cn_R 0) s m args below meth c 0 0 Q 11 dC dI ad cA A M0 9 [(4, .long (sJ a254)), (6, .long (sJ a255)), (8, .int (sI a256))] [] := by
    intro n251
    induction n251 with
    | zero =>
      intro a254 a255 a256 h257
      exfalso; omega
    | succ n251 ih252 =>
      intro a254 a255 a256 h257
      refine j_iload C 2 dX11_commonDivisor_9 rfl ?_
      refine y_sipush C dX11_commonDivisor_11 rfl ?_
      refine y_icmp_ge C 45 dX11_commonDivisor_14 (by decide) (by omega) (fun h258 => ?_) (fun h258 => ?_)
      · refine j_lload C 0 dX11_commonDivisor_45 rfl ?_
        exact hret _ _ _ _ dX11_commonDivisor_47 ⟨a254, rfl, rfl, by omega⟩
      · refine j_lload C 1 dX11_commonDivisor_17 rfl ?_
        refine y_lconst C 0 dX11_commonDivisor_19 rfl ?_
        refine y_lcmp_eq C 45 dX11_commonDivisor_20 dX11_commonDivisor_21 (by decide) (by omega) (fun h259 => ?_) (fun h259 => ?_)
        · refine j_lload C 0 dX11_commonDivisor_45 rfl ?_
          exact hret _ _ _ _ dX11_commonDivisor_47 ⟨a254, rfl, rfl, by omega⟩
        · refine j_lload C 0 dX11_commonDivisor_24 rfl ?_
          refine j_lload C 1 dX11_commonDivisor_26 rfl ?_
          refine y_lrem0 C dX11_commonDivisor_28 (by omega) (fun a260 la260 ua260 => ?_)
          refine j_lstore C 9 [(9, .long (sJ a260)), (4, .long (sJ a254)), (6, .long (sJ a255)), (8, .int (sI a256))] dX11_commonDivisor_29 (by decide) rfl ?_
          refine j_lload C 2 dX11_commonDivisor_31 rfl ?_
          refine j_lstore C 4 [(4, .long (sJ a255)), (9, .long (sJ a260)), (6, .long (sJ a255)), (8, .int (sI a256))] dX11_commonDivisor_33 (by decide) rfl ?_
          refine j_lload C 1 dX11_commonDivisor_35 rfl ?_
          refine j_lstore C 6 [(6, .long (sJ a260)), (4, .long (sJ a255)), (9, .long (sJ a260)), (8, .int (sI a256))] dX11_commonDivisor_37 (by decide) rfl ?_
          refine y_iinc C 3 [(8, .int (sI (a256 + 1))), (6, .long (sJ a260)), (4, .long (sJ a255)), (9, .long (sJ a260))] dX11_commonDivisor_39 rfl (by decide) rfl ?_
          refine j_goto C 9 dX11_commonDivisor_42 (by decide) ?_
          refine j_lv [2, 1, 0] rfl ?_; exact ih252 a255 a260 (a256 + 1) (by omega)
  refine j_lv [2, 1, 0] rfl ?_; exact L253 2010 a0 a2 0 (by omega)
set_option maxHeartbeats 4000000 in
theorem s1_X11_inLowestTerms {l : Launch} {dC : Nat → ClassId} {dI : Nat → Nat → Nat} {ad : Nat → Nat} {cA : Nat → ClassId} {pr : Nat → Nat → Bool} {Kz : mm_M} {M0 : mm_M} (hM0 : INV pr Kz M0) (a0 : Int) (ha0 : -9223372036854775808 ≤ a0 ∧ a0 ≤ 9223372036854775807) (a2 : Int) (ha2 : -9223372036854775808 ≤ a2 ∧ a2 ≤ 9223372036854775807) (a4 : Int) (ha4 : -2147483648 ≤ a4 ∧ a4 ≤ 2147483647) : Cj l 1 yX11_inLowestTerms wsX11_inLowestTerms dC dI ad cA [.long (sJ a0), .long (sJ a2), .int (sI a4)] M0 (fun r M' => ∃ a : Int, r = sJ a ∧ M0 = M' ∧ (-9223372036854775808) ≤ a ∧ a ≤ 9223372036854775807) := by
  refine cj_of (cc := cX11_inLowestTerms) (maxL := 9) (lv := [(0, .long (sJ a0)), (2, .long (sJ a2)), (4, .int (sI a4))]) (by decide) rfl (Nat.le_of_ble_eq_true rfl) rfl ?_
  intro p e s m args below meth c A Q C hret
  refine j_lload_n C 0 0 dX11_inLowestTerms_0 rfl rfl ?_
  refine j_lload_n C 1 2 dX11_inLowestTerms_1 rfl rfl ?_
  refine j_callSj C (d := 0) (As := [.long (sJ a0), .long (sJ a2)]) (st := []) (s1_X11_commonDivisor hM0 a0 (by omega) a2 (by omega)) gX11_inLowestTerms_X11_commonDivisor rfl hdX11_commonDivisors (by decide) (Nat.le_of_ble_eq_true rfl) dX11_inLowestTerms_2 rfl (fun r101 M102 h103 => ?_)
  obtain ⟨a105, rfl, rfl, h104⟩ := h103
  refine j_lstore C 5 [(5, .long (sJ a105)), (0, .long (sJ a0)), (2, .long (sJ a2)), (4, .int (sI a4))] dX11_inLowestTerms_5 (by decide) rfl ?_
  refine j_iload C 3 dX11_inLowestTerms_7 rfl ?_
  have J108 : ∀ (a107 : Int), ((-9223372036854775808) ≤ a107 ∧ a107 ≤ 9223372036854775807) → jj p l e (cn_R 1) s m args below meth c 0 0 Q 9 dC dI ad cA A M0 17 [(5, .long (sJ a105))] [.long (sJ a107)] := by
    intro a107 h109
    refine j_lstore C 7 [(7, .long (sJ a107)), (5, .long (sJ a105))] dX11_inLowestTerms_17 (by decide) rfl ?_
    refine j_lload C 1 dX11_inLowestTerms_19 rfl ?_
    refine y_lconst C 0 dX11_inLowestTerms_21 rfl ?_
    refine y_lcmp_le C 34 dX11_inLowestTerms_22 dX11_inLowestTerms_23 (by decide) (by omega) (fun h110 => ?_) (fun h110 => ?_)
    · refine j_lload C 0 dX11_inLowestTerms_34 rfl ?_
      exact hret _ _ _ _ dX11_inLowestTerms_36 ⟨a107, rfl, rfl, by omega⟩
    · refine j_lload C 0 dX11_inLowestTerms_26 rfl ?_
      refine j_lload C 1 dX11_inLowestTerms_28 rfl ?_
      refine y_ldiv0 C dX11_inLowestTerms_30 (by omega) (fun a111 la111 ua111 => ?_)
      refine j_goto C 36 dX11_inLowestTerms_31 (by decide) ?_
      exact hret _ _ _ _ dX11_inLowestTerms_36 ⟨a111, rfl, rfl, by omega⟩
  refine y_if_ne C 16 dX11_inLowestTerms_9 (by decide) (by omega) (fun h106 => ?_) (fun h106 => ?_)
  · refine j_lload_n C 2 2 dX11_inLowestTerms_16 rfl rfl ?_
    refine j_lv [0] rfl ?_; exact J108 a2 (by omega)
  · refine j_lload_n C 1 0 dX11_inLowestTerms_12 rfl rfl ?_
    refine j_goto C 17 dX11_inLowestTerms_13 (by decide) ?_
    refine j_lv [0] rfl ?_; exact J108 a0 (by omega)
set_option maxHeartbeats 4000000 in
theorem s1_X11_open {l : Launch} {dC : Nat → ClassId} {dI : Nat → Nat → Nat} {ad : Nat → Nat} {cA : Nat → ClassId} {pr : Nat → Nat → Bool} {Kz : mm_M} {M0 : mm_M} (hM0 : INV pr Kz M0) (hpr : PX pr) (a1 : Int) (ha1 : -2147483648 ≤ a1 ∧ a1 ≤ 2147483647) (a2 : Int) (ha2 : -2147483648 ≤ a2 ∧ a2 ≤ 2147483647) : Cj l 6 yX11_open wsX11_open dC dI ad cA [.ref (ad 0), .int (sI a1), .int (sI a2)] M0 (fun r M' => ∃ a : Int, r = sJ a ∧ INV pr Kz M' ∧ (-9223372036854775808) ≤ a ∧ a ≤ 9223372036854775807) := by
  refine cj_of (cc := cX11_open) (maxL := 4) (lv := [(0, .ref (ad 0)), (1, .int (sI a1)), (2, .int (sI a2))]) (by decide) rfl (Nat.le_of_ble_eq_true rfl) rfl ?_
  intro p e s m args below meth c A Q C hret
  refine j_iload_n C 2 2 dX11_open_0 rfl rfl ?_
  refine j_iload_n C 1 1 dX11_open_1 rfl rfl ?_
  refine y_bipush C dX11_open_2 rfl ?_
  refine j_callSi C (d := 0) (As := [.int (sI a2), .int (sI a1), .int (sI 10)]) (st := []) (s1_X11_chanceRefusal hM0 a2 (by omega) a1 (by omega) 10 (by omega)) gX11_open_X11_chanceRefusal rfl hdX11_chanceRefusals (by decide) (Nat.le_of_ble_eq_true rfl) dX11_open_4 rfl (fun r101 M102 h103 => ?_)
  obtain ⟨a105, rfl, rfl, h104⟩ := h103
  refine j_istore_n C 3 [(3, .int (sI a105)), (0, .ref (ad 0)), (1, .int (sI a1)), (2, .int (sI a2))] dX11_open_7 rfl (by decide) rfl ?_
  refine j_iload_n C 0 3 dX11_open_8 rfl rfl ?_
  refine y_if_eq C 15 dX11_open_9 (by decide) (by omega) (fun h106 => ?_) (fun h106 => ?_)
  · refine j_aload_n C 1 0 dX11_open_15 rfl rfl ?_
    refine y_getC C 10 88 fX11_open_94 rfl rfl ft_10_14 sm_10_14 rfl hM0 dX11_open_16 ?_
    refine j_aload_n C 1 0 dX11_open_19 rfl rfl ?_
    refine y_getM C 10 6 fX11_open_26 rfl rfl ft_10_4 sm_10_4 (by decide) hM0 dX11_open_20 (fun v107 ev107 cv107 => ?_)
    refine j_aload_n C 1 0 dX11_open_23 rfl rfl ?_
    refine y_getC C 10 12 fX11_open_36 rfl rfl ft_10_6 sm_10_6 rfl hM0 dX11_open_24 ?_
    refine j_aload_n C 1 0 dX11_open_27 rfl rfl ?_
    refine y_getC C 10 12 fX11_open_36 rfl rfl ft_10_6 sm_10_6 rfl hM0 dX11_open_28 ?_
    refine y_getI C 8 _ _ fX11_open_153 rfl rfl ft_8_4 sb_8_4 hM0 dX11_open_31 (fun a108 ea108 la108 ua108 => ?_)
    refine j_callVv C (d := 5) (As := [.ref (ad v107), .ref (ad 12), .int (sI a108)]) (st := []) 88 (s_lt rfl rfl) (s_kc (c := 4) rfl rfl) (by decide) rfl (s1_X5_look hM0 hpr cv107 rfl a108 (by omega)) gX11_open_X5_look rfl hdX5_look (by decide) (Nat.le_of_ble_eq_true rfl) dX11_open_34 rfl (fun M111 h112 => ?_)
    have hM111 := h112
    refine j_aload_n C 1 0 dX11_open_37 rfl rfl ?_
    refine y_getC C 10 88 fX11_open_94 rfl rfl ft_10_14 sm_10_14 rfl hM111 dX11_open_38 ?_
    refine j_iload_n C 2 1 dX11_open_41 rfl rfl ?_
    refine j_callVv C (d := 3) (As := [.int (sI a1)]) (st := []) 88 (s_lt rfl rfl) (s_kc (c := 4) rfl rfl) (by decide) rfl (s1_X5_passDays hM111 hpr a1 (by omega)) gX11_open_X5_passDays rfl hdX5_passDays (by decide) (Nat.le_of_ble_eq_true rfl) dX11_open_42 rfl (fun M115 h116 => ?_)
    have hM115 := h116
    refine j_aload_n C 1 0 dX11_open_45 rfl rfl ?_
    refine y_getC C 10 88 fX11_open_94 rfl rfl ft_10_14 sm_10_14 rfl hM115 dX11_open_46 ?_
    refine j_callVj C (d := 1) (As := []) (st := []) 88 (s_lt rfl rfl) (s_kc (c := 4) rfl rfl) (by decide) rfl (s1_X5_openWays hM115) gX11_open_X5_openWays rfl hdX5_openWays (by decide) (Nat.le_of_ble_eq_true rfl) dX11_open_49 rfl (fun r118 M119 h120 => ?_)
    obtain ⟨a122, rfl, rfl, h121⟩ := h120
    refine j_aload_n C 1 0 dX11_open_52 rfl rfl ?_
    refine y_getC C 10 88 fX11_open_94 rfl rfl ft_10_14 sm_10_14 rfl hM115 dX11_open_53 ?_
    refine y_getJ C 4 fX11_open_296 rfl rfl ft_4_7 dX11_open_56 (fun a123 ea123 la123 ua123 => ?_)
    refine j_iload_n C 3 2 dX11_open_59 rfl rfl ?_
    refine j_callSj C (d := 1) (As := [.long (sJ a122), .long (sJ a123), .int (sI a2)]) (st := []) (s1_X11_inLowestTerms hM115 a122 (by omega) a123 (by omega) a2 (by omega)) gX11_open_X11_inLowestTerms rfl hdX11_inLowestTermss (by decide) (Nat.le_of_ble_eq_true rfl) dX11_open_60 rfl (fun r124 M125 h126 => ?_)
    obtain ⟨a128, rfl, rfl, h127⟩ := h126
    exact hret _ _ _ _ dX11_open_63 ⟨a128, rfl, hM115, by omega⟩
  · refine j_iload_n C 0 3 dX11_open_12 rfl rfl ?_
    refine y_i2l C dX11_open_13 (by omega) ?_
    exact hret _ _ _ _ dX11_open_14 ⟨a105, rfl, hM0, by omega⟩
set_option maxHeartbeats 4000000 in
theorem s1_X11_hundredths {l : Launch} {dC : Nat → ClassId} {dI : Nat → Nat → Nat} {ad : Nat → Nat} {cA : Nat → ClassId} {pr : Nat → Nat → Bool} {Kz : mm_M} {M0 : mm_M} (hM0 : INV pr Kz M0) (a0 : Int) (ha0 : -9223372036854775808 ≤ a0 ∧ a0 ≤ 9223372036854775807) (a2 : Int) (ha2 : -9223372036854775808 ≤ a2 ∧ a2 ≤ 9223372036854775807) : Cj l 0 yX11_hundredths wsX11_hundredths dC dI ad cA [.long (sJ a0), .long (sJ a2)] M0 (fun r M' => ∃ a : Int, r = sJ a ∧ M0 = M' ∧ (-9223372036854775808) ≤ a ∧ a ≤ 9223372036854775807) := by
  refine cj_of (cc := cX11_hundredths) (maxL := 8) (lv := [(0, .long (sJ a0)), (2, .long (sJ a2))]) (by decide) rfl (Nat.le_of_ble_eq_true rfl) rfl ?_
  intro p e s m args below meth c A Q C hret
  refine j_lload_n C 1 2 dX11_hundredths_0 rfl rfl ?_
  refine y_lconst C 0 dX11_hundredths_1 rfl ?_
  refine y_lcmp_gt C 8 dX11_hundredths_2 dX11_hundredths_3 (by decide) (by omega) (fun h101 => ?_) (fun h101 => ?_)
  · refine j_lload_n C 0 0 dX11_hundredths_8 rfl rfl ?_
    refine y_ldc2 C 10 dX11_hundredths_9 kX11_hundredths_318 rfl ?_
    refine y_lmul0 C dX11_hundredths_12 (fun a102 la102 ua102 => ?_)
    refine j_lload_n C 1 2 dX11_hundredths_13 rfl rfl ?_
    refine y_ldiv0 C dX11_hundredths_14 (by omega) (fun a103 la103 ua103 => ?_)
    refine j_lstore C 4 [(4, .long (sJ a103)), (0, .long (sJ a0)), (2, .long (sJ a2))] dX11_hundredths_15 (by decide) rfl ?_
    refine j_lload_n C 1 0 dX11_hundredths_17 rfl rfl ?_
    refine y_ldc2 C 10 dX11_hundredths_18 kX11_hundredths_318 rfl ?_
    refine y_lmul0 C dX11_hundredths_21 (fun a104 la104 ua104 => ?_)
    refine j_lload_n C 2 2 dX11_hundredths_22 rfl rfl ?_
    refine y_lrem0 C dX11_hundredths_23 (by omega) (fun a105 la105 ua105 => ?_)
    refine j_lstore C 6 [(6, .long (sJ a105)), (4, .long (sJ a103)), (0, .long (sJ a0)), (2, .long (sJ a2))] dX11_hundredths_24 (by decide) rfl ?_
    refine j_lload C 1 dX11_hundredths_26 rfl ?_
    refine y_ldc2 C 10 dX11_hundredths_28 kX11_hundredths_318 rfl ?_
    refine y_lmul0 C dX11_hundredths_31 (fun a106 la106 ua106 => ?_)
    refine j_lload C 0 dX11_hundredths_32 rfl ?_
    refine y_ldc2 C 10 dX11_hundredths_34 kX11_hundredths_318 rfl ?_
    refine y_lmul0 C dX11_hundredths_37 (fun a107 la107 ua107 => ?_)
    refine j_lload_n C 3 2 dX11_hundredths_38 rfl rfl ?_
    refine y_ldiv0 C dX11_hundredths_39 (by omega) (fun a108 la108 ua108 => ?_)
    refine y_ladd0 C dX11_hundredths_40 (fun a109 la109 ua109 => ?_)
    exact hret _ _ _ _ dX11_hundredths_41 ⟨a109, rfl, rfl, by omega⟩
  · refine y_lconst C 0 dX11_hundredths_6 rfl ?_
    exact hret _ _ _ _ dX11_hundredths_7 ⟨0, rfl, rfl, by omega⟩
set_option maxHeartbeats 4000000 in
theorem s1_X11_likely {l : Launch} {dC : Nat → ClassId} {dI : Nat → Nat → Nat} {ad : Nat → Nat} {cA : Nat → ClassId} {pr : Nat → Nat → Bool} {Kz : mm_M} {M0 : mm_M} (hM0 : INV pr Kz M0) (hpr : PX pr) (a1 : Int) (ha1 : -2147483648 ≤ a1 ∧ a1 ≤ 2147483647) : Ci l 6 yX11_likely wsX11_likely dC dI ad cA [.ref (ad 0), .int (sI a1)] M0 (fun r M' => ∃ a : Int, r = sI a ∧ INV pr Kz M' ∧ (-3) ≤ a ∧ a ≤ 10) := by
  refine ci_of (cc := cX11_likely) (maxL := 3) (ty := .int) (lv := [(0, .ref (ad 0)), (1, .int (sI a1))]) (by decide) rfl (fun r M' hp => rfl) (Nat.le_of_ble_eq_true rfl) rfl ?_
  intro p e s m args below meth c A Q C hret
  refine j_iload_n C 1 1 dX11_likely_0 rfl rfl ?_
  refine y_if_lt C 10 dX11_likely_1 (by decide) (by omega) (fun h101 => ?_) (fun h101 => ?_)
  · refine y_bipush C dX11_likely_10 rfl ?_
    exact hret _ _ _ _ dX11_likely_12 ⟨(-3), rfl, hM0, by omega⟩
  · refine j_iload_n C 1 1 dX11_likely_4 rfl rfl ?_
    refine y_bipush C dX11_likely_5 rfl ?_
    refine y_icmp_le C 13 dX11_likely_7 (by decide) (by omega) (fun h102 => ?_) (fun h102 => ?_)
    · refine j_aload_n C 0 0 dX11_likely_13 rfl rfl ?_
      refine y_getC C 10 88 fX11_likely_94 rfl rfl ft_10_14 sm_10_14 rfl hM0 dX11_likely_14 ?_
      refine j_aload_n C 0 0 dX11_likely_17 rfl rfl ?_
      refine y_getM C 10 6 fX11_likely_26 rfl rfl ft_10_4 sm_10_4 (by decide) hM0 dX11_likely_18 (fun v103 ev103 cv103 => ?_)
      refine j_aload_n C 0 0 dX11_likely_21 rfl rfl ?_
      refine y_getC C 10 12 fX11_likely_36 rfl rfl ft_10_6 sm_10_6 rfl hM0 dX11_likely_22 ?_
      refine j_aload_n C 0 0 dX11_likely_25 rfl rfl ?_
      refine y_getC C 10 12 fX11_likely_36 rfl rfl ft_10_6 sm_10_6 rfl hM0 dX11_likely_26 ?_
      refine y_getI C 8 _ _ fX11_likely_153 rfl rfl ft_8_4 sb_8_4 hM0 dX11_likely_29 (fun a104 ea104 la104 ua104 => ?_)
      refine j_callVv C (d := 5) (As := [.ref (ad v103), .ref (ad 12), .int (sI a104)]) (st := []) 88 (s_lt rfl rfl) (s_kc (c := 4) rfl rfl) (by decide) rfl (s1_X5_look hM0 hpr cv103 rfl a104 (by omega)) gX11_likely_X5_look rfl hdX5_look (by decide) (Nat.le_of_ble_eq_true rfl) dX11_likely_32 rfl (fun M107 h108 => ?_)
      have hM107 := h108
      refine y_iconst C dX11_likely_35 ?_
      refine j_istore_n C 2 [(2, .int (sI 0)), (0, .ref (ad 0)), (1, .int (sI a1))] dX11_likely_36 rfl (by decide) rfl ?_
      have L364 : ∀ (n362 : Nat), ∀ (a365 : Int) (M366 : mm_M), (0 ≤ a365 ∧ a365 ≤ 11 ∧ (11 - a365) < (n362 : Int)) → INV pr Kz M366 → jj p l e (cn_R 6) s m args below meth c 0 0 Q 3 dC dI ad cA A M366 37 [(0, .ref (ad 0)), (1, .int (sI a1)), (2, .int (sI a365))] [] := by
        intro n362
        induction n362 with
        | zero =>
          intro a365 M366 h367 hM366
          exfalso; omega
        | succ n362 ih363 =>
          intro a365 M366 h367 hM366
          refine j_iload_n C 2 2 dX11_likely_37 rfl rfl ?_
          refine y_bipush C dX11_likely_38 rfl ?_
          refine y_icmp_gt C 90 dX11_likely_40 (by decide) (by omega) (fun h368 => ?_) (fun h368 => ?_)
          · refine y_iconst C dX11_likely_90 ?_
            exact hret _ _ _ _ dX11_likely_91 ⟨(-1), rfl, hM366, by omega⟩
          · refine j_aload_n C 0 0 dX11_likely_43 rfl rfl ?_
            refine y_getC C 10 88 fX11_likely_94 rfl rfl ft_10_14 sm_10_14 rfl hM366 dX11_likely_44 ?_
            refine j_iload_n C 2 2 dX11_likely_47 rfl rfl ?_
            refine j_callVv C (d := 3) (As := [.int (sI a365)]) (st := []) 88 (s_lt rfl rfl) (s_kc (c := 4) rfl rfl) (by decide) rfl (s1_X5_passDays hM366 hpr a365 (by omega)) gX11_likely_X5_passDays rfl hdX5_passDays (by decide) (Nat.le_of_ble_eq_true rfl) dX11_likely_48 rfl (fun M370 h371 => ?_)
            have hM370 := h371
            refine j_aload_n C 0 0 dX11_likely_51 rfl rfl ?_
            refine y_getC C 10 88 fX11_likely_94 rfl rfl ft_10_14 sm_10_14 rfl hM370 dX11_likely_52 ?_
            refine y_getJ C 4 fX11_likely_296 rfl rfl ft_4_7 dX11_likely_55 (fun a373 ea373 la373 ua373 => ?_)
            refine j_aload_n C 0 0 dX11_likely_58 rfl rfl ?_
            refine y_getC C 10 88 fX11_likely_94 rfl rfl ft_10_14 sm_10_14 rfl hM370 dX11_likely_59 ?_
            refine j_callVj C (d := 1) (As := []) (st := [.long (sJ a373)]) 88 (s_lt rfl rfl) (s_kc (c := 4) rfl rfl) (by decide) rfl (s1_X5_openWays hM370) gX11_likely_X5_openWays rfl hdX5_openWays (by decide) (Nat.le_of_ble_eq_true rfl) dX11_likely_62 rfl (fun r374 M375 h376 => ?_)
            obtain ⟨a378, rfl, rfl, h377⟩ := h376
            refine y_lsub0 C dX11_likely_65 (fun a379 la379 ua379 => ?_)
            refine j_aload_n C 0 0 dX11_likely_66 rfl rfl ?_
            refine y_getC C 10 88 fX11_likely_94 rfl rfl ft_10_14 sm_10_14 rfl hM370 dX11_likely_67 ?_
            refine y_getJ C 4 fX11_likely_296 rfl rfl ft_4_7 dX11_likely_70 (fun a380 ea380 la380 ua380 => ?_)
            refine j_callSj C (d := 0) (As := [.long (sJ a379), .long (sJ a380)]) (st := []) (s1_X11_hundredths hM370 a379 (by omega) a380 (by omega)) gX11_likely_X11_hundredths rfl hdX11_hundredthss (by decide) (Nat.le_of_ble_eq_true rfl) dX11_likely_73 rfl (fun r381 M382 h383 => ?_)
            obtain ⟨a385, rfl, rfl, h384⟩ := h383
            refine j_iload_n C 1 1 dX11_likely_76 rfl rfl ?_
            refine y_i2l C dX11_likely_77 (by omega) ?_
            refine y_lcmp_lt C 84 dX11_likely_78 dX11_likely_79 (by decide) (by omega) (fun h386 => ?_) (fun h386 => ?_)
            · refine y_iinc C 2 [(2, .int (sI (a365 + 1))), (0, .ref (ad 0)), (1, .int (sI a1))] dX11_likely_84 rfl (by decide) rfl ?_
              refine j_goto C 37 dX11_likely_87 (by decide) ?_
              refine j_lv [1, 2, 0] rfl ?_; exact ih363 (a365 + 1) M370 (by omega) hM370
            · refine j_iload_n C 2 2 dX11_likely_82 rfl rfl ?_
              exact hret _ _ _ _ dX11_likely_83 ⟨a365, rfl, hM370, by omega⟩
      refine j_lv [1, 2, 0] rfl ?_; exact L364 2010 0 M107 (by omega) hM107
    · refine y_bipush C dX11_likely_10 rfl ?_
      exact hret _ _ _ _ dX11_likely_12 ⟨(-3), rfl, hM0, by omega⟩
set_option maxHeartbeats 4000000 in
theorem s1_X11_shutsBy {l : Launch} {dC : Nat → ClassId} {dI : Nat → Nat → Nat} {ad : Nat → Nat} {cA : Nat → ClassId} {pr : Nat → Nat → Bool} {Kz : mm_M} {M0 : mm_M} (hM0 : INV pr Kz M0) (hpr : PX pr) (a1 : Int) (ha1 : -2147483648 ≤ a1 ∧ a1 ≤ 2147483647) (a2 : Int) (ha2 : -2147483648 ≤ a2 ∧ a2 ≤ 2147483647) (a3 : Int) (ha3 : -2147483648 ≤ a3 ∧ a3 ≤ 2147483647) : Cj l 6 yX11_shutsBy wsX11_shutsBy dC dI ad cA [.ref (ad 0), .int (sI a1), .int (sI a2), .int (sI a3)] M0 (fun r M' => ∃ a : Int, r = sJ a ∧ INV pr Kz M' ∧ (-9223372036854775808) ≤ a ∧ a ≤ 9223372036854775807) := by
  refine cj_of (cc := cX11_shutsBy) (maxL := 5) (lv := [(0, .ref (ad 0)), (1, .int (sI a1)), (2, .int (sI a2)), (3, .int (sI a3))]) (by decide) rfl (Nat.le_of_ble_eq_true rfl) rfl ?_
  intro p e s m args below meth c A Q C hret
  refine j_aload_n C 0 0 dX11_shutsBy_0 rfl rfl ?_
  refine j_iload_n C 1 1 dX11_shutsBy_1 rfl rfl ?_
  refine j_callVi C (d := 0) (As := [.int (sI a1)]) (st := []) 0 (s_lt rfl rfl) (s_kc (c := 10) rfl rfl) (by decide) rfl (s1_X11_isBuyer hM0 a1 (by omega)) gX11_shutsBy_X11_isBuyer rfl hdX11_isBuyer (by decide) (Nat.le_of_ble_eq_true rfl) dX11_shutsBy_2 rfl (fun r101 M102 h103 => ?_)
  obtain ⟨a105, rfl, rfl, h104⟩ := h103
  have J113 : ∀ (a112 : Int), ((-3) ≤ a112 ∧ a112 ≤ 0 ∧ (¬ a112 = 0 ∨ (0 ≤ a1 ∧ a1 < 6))) → jj p l e (cn_R 6) s m args below meth c 0 0 Q 5 dC dI ad cA A M0 20 [(0, .ref (ad 0)), (1, .int (sI a1)), (2, .int (sI a2)), (3, .int (sI a3))] [.int (sI a112)] := by
    intro a112 h114
    refine j_istore C 4 [(4, .int (sI a112)), (0, .ref (ad 0)), (1, .int (sI a1)), (2, .int (sI a2)), (3, .int (sI a3))] dX11_shutsBy_20 (by decide) rfl ?_
    refine j_iload C 0 dX11_shutsBy_22 rfl ?_
    refine y_if_eq C 31 dX11_shutsBy_24 (by decide) (by omega) (fun h115 => ?_) (fun h115 => ?_)
    · refine j_aload_n C 1 0 dX11_shutsBy_31 rfl rfl ?_
      refine y_getC C 10 88 fX11_shutsBy_94 rfl rfl ft_10_14 sm_10_14 rfl hM0 dX11_shutsBy_32 ?_
      refine j_aload_n C 1 0 dX11_shutsBy_35 rfl rfl ?_
      refine y_getM C 10 6 fX11_shutsBy_26 rfl rfl ft_10_4 sm_10_4 (by decide) hM0 dX11_shutsBy_36 (fun v116 ev116 cv116 => ?_)
      refine j_aload_n C 1 0 dX11_shutsBy_39 rfl rfl ?_
      refine y_getC C 10 12 fX11_shutsBy_36 rfl rfl ft_10_6 sm_10_6 rfl hM0 dX11_shutsBy_40 ?_
      refine j_aload_n C 1 0 dX11_shutsBy_43 rfl rfl ?_
      refine y_getC C 10 12 fX11_shutsBy_36 rfl rfl ft_10_6 sm_10_6 rfl hM0 dX11_shutsBy_44 ?_
      refine y_getI C 8 _ _ fX11_shutsBy_153 rfl rfl ft_8_4 sb_8_4 hM0 dX11_shutsBy_47 (fun a117 ea117 la117 ua117 => ?_)
      refine j_callVv C (d := 5) (As := [.ref (ad v116), .ref (ad 12), .int (sI a117)]) (st := []) 88 (s_lt rfl rfl) (s_kc (c := 4) rfl rfl) (by decide) rfl (s1_X5_look hM0 hpr cv116 rfl a117 (by omega)) gX11_shutsBy_X5_look rfl hdX5_look (by decide) (Nat.le_of_ble_eq_true rfl) dX11_shutsBy_50 rfl (fun M120 h121 => ?_)
      have hM120 := h121
      refine j_aload_n C 1 0 dX11_shutsBy_53 rfl rfl ?_
      refine y_getC C 10 88 fX11_shutsBy_94 rfl rfl ft_10_14 sm_10_14 rfl hM120 dX11_shutsBy_54 ?_
      refine j_iload_n C 3 2 dX11_shutsBy_57 rfl rfl ?_
      refine j_callVv C (d := 3) (As := [.int (sI a2)]) (st := []) 88 (s_lt rfl rfl) (s_kc (c := 4) rfl rfl) (by decide) rfl (s1_X5_passDays hM120 hpr a2 (by omega)) gX11_shutsBy_X5_passDays rfl hdX5_passDays (by decide) (Nat.le_of_ble_eq_true rfl) dX11_shutsBy_58 rfl (fun M124 h125 => ?_)
      have hM124 := h125
      refine j_aload_n C 1 0 dX11_shutsBy_61 rfl rfl ?_
      refine y_getC C 10 88 fX11_shutsBy_94 rfl rfl ft_10_14 sm_10_14 rfl hM124 dX11_shutsBy_62 ?_
      refine y_getC C 4 94 fX11_shutsBy_308 rfl rfl ft_4_6 sm_4_6 rfl hM124 dX11_shutsBy_65 ?_
      refine j_iload_n C 2 1 dX11_shutsBy_68 rfl rfl ?_
      refine y_lald C 42 6 rfl rfl rfl ak_42 an_42 rfl dX11_shutsBy_69 (by omega) (fun a127 ea127 la127 ua127 => ?_)
      refine j_aload_n C 1 0 dX11_shutsBy_70 rfl rfl ?_
      refine y_getC C 10 88 fX11_shutsBy_94 rfl rfl ft_10_14 sm_10_14 rfl hM124 dX11_shutsBy_71 ?_
      refine y_getJ C 4 fX11_shutsBy_296 rfl rfl ft_4_7 dX11_shutsBy_74 (fun a128 ea128 la128 ua128 => ?_)
      refine j_iload_n C 4 3 dX11_shutsBy_77 rfl rfl ?_
      refine j_callSj C (d := 1) (As := [.long (sJ a127), .long (sJ a128), .int (sI a3)]) (st := []) (s1_X11_inLowestTerms hM124 a127 (by omega) a128 (by omega) a3 (by omega)) gX11_shutsBy_X11_inLowestTerms rfl hdX11_inLowestTermss (by decide) (Nat.le_of_ble_eq_true rfl) dX11_shutsBy_78 rfl (fun r129 M130 h131 => ?_)
      obtain ⟨a133, rfl, rfl, h132⟩ := h131
      exact hret _ _ _ _ dX11_shutsBy_81 ⟨a133, rfl, hM124, by omega⟩
    · refine j_iload C 0 dX11_shutsBy_27 rfl ?_
      refine y_i2l C dX11_shutsBy_29 (by omega) ?_
      exact hret _ _ _ _ dX11_shutsBy_30 ⟨a112, rfl, hM0, by omega⟩
  refine y_if_eq C 18 dX11_shutsBy_5 (by decide) (by omega) (fun h106 => ?_) (fun h106 => ?_)
  · refine y_bipush C dX11_shutsBy_18 rfl ?_
    exact J113 (-2) (by omega)
  · refine j_iload_n C 3 3 dX11_shutsBy_8 rfl rfl ?_
    refine j_iload_n C 2 2 dX11_shutsBy_9 rfl rfl ?_
    refine y_bipush C dX11_shutsBy_10 rfl ?_
    refine j_callSi C (d := 0) (As := [.int (sI a3), .int (sI a2), .int (sI 10)]) (st := []) (s1_X11_chanceRefusal hM0 a3 (by omega) a2 (by omega) 10 (by omega)) gX11_shutsBy_X11_chanceRefusal rfl hdX11_chanceRefusals (by decide) (Nat.le_of_ble_eq_true rfl) dX11_shutsBy_12 rfl (fun r107 M108 h109 => ?_)
    obtain ⟨a111, rfl, rfl, h110⟩ := h109
    refine j_goto C 20 dX11_shutsBy_15 (by decide) ?_
    exact J113 a111 (by omega)
set_option maxHeartbeats 4000000 in
theorem s1_X11_closer {l : Launch} {dC : Nat → ClassId} {dI : Nat → Nat → Nat} {ad : Nat → Nat} {cA : Nat → ClassId} {pr : Nat → Nat → Bool} {Kz : mm_M} {M0 : mm_M} (hM0 : INV pr Kz M0) (hpr : PX pr) (a1 : Int) (ha1 : -2147483648 ≤ a1 ∧ a1 ≤ 2147483647) : Ci l 6 yX11_closer wsX11_closer dC dI ad cA [.ref (ad 0), .int (sI a1)] M0 (fun r M' => ∃ a : Int, r = sI a ∧ INV pr Kz M' ∧ (-3) ≤ a ∧ a ≤ 5) := by
  refine ci_of (cc := cX11_closer) (maxL := 6) (ty := .int) (lv := [(0, .ref (ad 0)), (1, .int (sI a1))]) (by decide) rfl (fun r M' hp => rfl) (Nat.le_of_ble_eq_true rfl) rfl ?_
  intro p e s m args below meth c A Q C hret
  refine j_iload_n C 1 1 dX11_closer_0 rfl rfl ?_
  refine y_if_lt C 10 dX11_closer_1 (by decide) (by omega) (fun h101 => ?_) (fun h101 => ?_)
  · refine y_bipush C dX11_closer_10 rfl ?_
    exact hret _ _ _ _ dX11_closer_12 ⟨(-3), rfl, hM0, by omega⟩
  · refine j_iload_n C 1 1 dX11_closer_4 rfl rfl ?_
    refine y_bipush C dX11_closer_5 rfl ?_
    refine y_icmp_le C 13 dX11_closer_7 (by decide) (by omega) (fun h102 => ?_) (fun h102 => ?_)
    · refine j_aload_n C 0 0 dX11_closer_13 rfl rfl ?_
      refine y_getC C 10 88 fX11_closer_94 rfl rfl ft_10_14 sm_10_14 rfl hM0 dX11_closer_14 ?_
      refine j_aload_n C 0 0 dX11_closer_17 rfl rfl ?_
      refine y_getM C 10 6 fX11_closer_26 rfl rfl ft_10_4 sm_10_4 (by decide) hM0 dX11_closer_18 (fun v103 ev103 cv103 => ?_)
      refine j_aload_n C 0 0 dX11_closer_21 rfl rfl ?_
      refine y_getC C 10 12 fX11_closer_36 rfl rfl ft_10_6 sm_10_6 rfl hM0 dX11_closer_22 ?_
      refine j_aload_n C 0 0 dX11_closer_25 rfl rfl ?_
      refine y_getC C 10 12 fX11_closer_36 rfl rfl ft_10_6 sm_10_6 rfl hM0 dX11_closer_26 ?_
      refine y_getI C 8 _ _ fX11_closer_153 rfl rfl ft_8_4 sb_8_4 hM0 dX11_closer_29 (fun a104 ea104 la104 ua104 => ?_)
      refine j_callVv C (d := 5) (As := [.ref (ad v103), .ref (ad 12), .int (sI a104)]) (st := []) 88 (s_lt rfl rfl) (s_kc (c := 4) rfl rfl) (by decide) rfl (s1_X5_look hM0 hpr cv103 rfl a104 (by omega)) gX11_closer_X5_look rfl hdX5_look (by decide) (Nat.le_of_ble_eq_true rfl) dX11_closer_32 rfl (fun M107 h108 => ?_)
      have hM107 := h108
      refine j_aload_n C 0 0 dX11_closer_35 rfl rfl ?_
      refine y_getC C 10 88 fX11_closer_94 rfl rfl ft_10_14 sm_10_14 rfl hM107 dX11_closer_36 ?_
      refine j_iload_n C 1 1 dX11_closer_39 rfl rfl ?_
      refine j_callVv C (d := 3) (As := [.int (sI a1)]) (st := []) 88 (s_lt rfl rfl) (s_kc (c := 4) rfl rfl) (by decide) rfl (s1_X5_passDays hM107 hpr a1 (by omega)) gX11_closer_X5_passDays rfl hdX5_passDays (by decide) (Nat.le_of_ble_eq_true rfl) dX11_closer_40 rfl (fun M111 h112 => ?_)
      have hM111 := h112
      refine y_iconst C dX11_closer_43 ?_
      refine j_istore_n C 2 [(2, .int (sI (-1))), (0, .ref (ad 0)), (1, .int (sI a1))] dX11_closer_44 rfl (by decide) rfl ?_
      refine y_lconst C 0 dX11_closer_45 rfl ?_
      refine j_lstore_n C 3 [(3, .long (sJ 0)), (2, .int (sI (-1))), (0, .ref (ad 0)), (1, .int (sI a1))] dX11_closer_46 rfl (by decide) rfl ?_
      refine y_iconst C dX11_closer_47 ?_
      refine j_istore C 5 [(5, .int (sI 0)), (3, .long (sJ 0)), (2, .int (sI (-1))), (0, .ref (ad 0)), (1, .int (sI a1))] dX11_closer_48 (by decide) rfl ?_
      have L186 : ∀ (n184 : Nat), ∀ (a187 : Int) (a188 : Int) (a189 : Int), ((-1) ≤ a187 ∧ a187 ≤ 5 ∧ (-9223372036854775808) ≤ a188 ∧ a188 ≤ 9223372036854775807 ∧ 0 ≤ a189 ∧ a189 ≤ 6 ∧ (6 - a189) < (n184 : Int)) → jj p l e (cn_R 6) s m args below meth c 0 0 Q 6 dC dI ad cA A M111 50 [(0, .ref (ad 0)), (2, .int (sI a187)), (3, .long (sJ a188)), (5, .int (sI a189))] [] := by
        intro n184
        induction n184 with
        | zero =>
          intro a187 a188 a189 h190
          exfalso; omega
        | succ n184 ih185 =>
          intro a187 a188 a189 h190
          refine j_iload C 3 dX11_closer_50 rfl ?_
          refine j_aload_n C 0 0 dX11_closer_52 rfl rfl ?_
          refine y_getM C 10 6 fX11_closer_26 rfl rfl ft_10_4 sm_10_4 (by decide) hM111 dX11_closer_53 (fun v191 ev191 cv191 => ?_)
          refine y_getI C 6 _ _ fX11_closer_163 cv191 rfl ft_6_0 sb_6_0 hM111 dX11_closer_56 (fun a192 ea192 la192 ua192 => ?_)
          refine y_icmp_ge C 97 dX11_closer_59 (by decide) (by omega) (fun h194 => ?_) (fun h194 => ?_)
          · refine j_iload_n C 1 2 dX11_closer_97 rfl rfl ?_
            exact hret _ _ _ _ dX11_closer_98 ⟨a187, rfl, hM111, by omega⟩
          · refine j_aload_n C 0 0 dX11_closer_62 rfl rfl ?_
            refine y_getC C 10 88 fX11_closer_94 rfl rfl ft_10_14 sm_10_14 rfl hM111 dX11_closer_63 ?_
            refine y_getC C 4 94 fX11_closer_308 rfl rfl ft_4_6 sm_4_6 rfl hM111 dX11_closer_66 ?_
            refine j_iload C 3 dX11_closer_69 rfl ?_
            refine y_lald C 42 6 rfl rfl rfl ak_42 an_42 rfl dX11_closer_71 (by omega) (fun a195 ea195 la195 ua195 => ?_)
            refine j_lload_n C 2 3 dX11_closer_72 rfl rfl ?_
            refine y_lcmp_le C 91 dX11_closer_73 dX11_closer_74 (by decide) (by omega) (fun h196 => ?_) (fun h196 => ?_)
            · refine y_iinc C 3 [(5, .int (sI (a189 + 1))), (0, .ref (ad 0)), (2, .int (sI a187)), (3, .long (sJ a188))] dX11_closer_91 rfl (by decide) rfl ?_
              refine j_goto C 50 dX11_closer_94 (by decide) ?_
              refine j_lv [1, 2, 3, 0] rfl ?_; exact ih185 a187 a188 (a189 + 1) (by omega)
            · refine j_aload_n C 0 0 dX11_closer_77 rfl rfl ?_
              refine y_getC C 10 88 fX11_closer_94 rfl rfl ft_10_14 sm_10_14 rfl hM111 dX11_closer_78 ?_
              refine y_getC C 4 94 fX11_closer_308 rfl rfl ft_4_6 sm_4_6 rfl hM111 dX11_closer_81 ?_
              refine j_iload C 3 dX11_closer_84 rfl ?_
              refine y_lald C 42 6 rfl rfl rfl ak_42 an_42 rfl dX11_closer_86 (by omega) (fun a197 ea197 la197 ua197 => ?_)
              refine j_lstore_n C 3 [(3, .long (sJ a197)), (0, .ref (ad 0)), (2, .int (sI a187)), (5, .int (sI a189))] dX11_closer_87 rfl (by decide) rfl ?_
              refine j_iload C 3 dX11_closer_88 rfl ?_
              refine j_istore_n C 2 [(2, .int (sI a189)), (3, .long (sJ a197)), (0, .ref (ad 0)), (5, .int (sI a189))] dX11_closer_90 rfl (by decide) rfl ?_
              refine y_iinc C 3 [(5, .int (sI (a189 + 1))), (2, .int (sI a189)), (3, .long (sJ a197)), (0, .ref (ad 0))] dX11_closer_91 rfl (by decide) rfl ?_
              refine j_goto C 50 dX11_closer_94 (by decide) ?_
              refine j_lv [3, 1, 2, 0] rfl ?_; exact ih185 a189 a197 (a189 + 1) (by omega)
      refine j_lv [3, 2, 1, 0] rfl ?_; exact L186 2010 (-1) 0 0 (by omega)
    · refine y_bipush C dX11_closer_10 rfl ?_
      exact hret _ _ _ _ dX11_closer_12 ⟨(-3), rfl, hM0, by omega⟩
set_option maxHeartbeats 4000000 in
theorem s1_X5_soldWays {l : Launch} {dC : Nat → ClassId} {dI : Nat → Nat → Nat} {ad : Nat → Nat} {cA : Nat → ClassId} {pr : Nat → Nat → Bool} {Kz : mm_M} {M0 : mm_M} (hM0 : INV pr Kz M0) (a1 : Int) (ha1 : -2147483648 ≤ a1 ∧ a1 ≤ 2147483647) : Cj l 0 yX5_soldWays wsX5_soldWays dC dI ad cA [.ref (ad 88), .int (sI a1)] M0 (fun r M' => ∃ a : Int, r = sJ a ∧ M0 = M' ∧ (-9223372036854775808) ≤ a ∧ a ≤ 9223372036854775807) := by
  refine cj_of (cc := cX5_soldWays) (maxL := 5) (lv := [(0, .ref (ad 88)), (1, .int (sI a1))]) (by decide) rfl (Nat.le_of_ble_eq_true rfl) rfl ?_
  intro p e s m args below meth c A Q C hret
  refine y_lconst C 0 dX5_soldWays_0 rfl ?_
  refine j_lstore_n C 2 [(2, .long (sJ 0)), (0, .ref (ad 88)), (1, .int (sI a1))] dX5_soldWays_1 rfl (by decide) rfl ?_
  refine j_aload_n C 1 0 dX5_soldWays_2 rfl rfl ?_
  refine y_getI C 4 _ _ fX5_soldWays_45 rfl rfl ft_4_13 sb_4_13 hM0 dX5_soldWays_3 (fun a101 ea101 la101 ua101 => ?_)
  refine j_istore C 4 [(4, .int (sI a101)), (2, .long (sJ 0)), (0, .ref (ad 88)), (1, .int (sI a1))] dX5_soldWays_6 (by decide) rfl ?_
  have L126 : ∀ (n124 : Nat), ∀ (a127 : Int) (a128 : Int), ((-9223372036854775808) ≤ a127 ∧ a127 ≤ 9223372036854775807 ∧ 0 ≤ a128 ∧ a128 ≤ 256 ∧ (256 - a128) < (n124 : Int)) → jj p l e (cn_R 0) s m args below meth c 0 0 Q 5 dC dI ad cA A M0 8 [(0, .ref (ad 88)), (1, .int (sI a1)), (2, .long (sJ a127)), (4, .int (sI a128))] [] := by
    intro n124
    induction n124 with
    | zero =>
      intro a127 a128 h129
      exfalso; omega
    | succ n124 ih125 =>
      intro a127 a128 h129
      refine j_iload C 3 dX5_soldWays_8 rfl ?_
      refine j_aload_n C 0 0 dX5_soldWays_10 rfl rfl ?_
      refine y_getI C 4 _ _ fX5_soldWays_38 rfl rfl ft_4_11 sb_4_11 hM0 dX5_soldWays_11 (fun a130 ea130 la130 ua130 => ?_)
      refine y_icmp_gt C 47 dX5_soldWays_14 (by decide) (by omega) (fun h132 => ?_) (fun h132 => ?_)
      · refine j_lload_n C 2 2 dX5_soldWays_47 rfl rfl ?_
        exact hret _ _ _ _ dX5_soldWays_48 ⟨a127, rfl, rfl, by omega⟩
      · refine j_lload_n C 2 2 dX5_soldWays_17 rfl rfl ?_
        refine j_iload C 3 dX5_soldWays_18 rfl ?_
        refine j_iload_n C 1 1 dX5_soldWays_20 rfl rfl ?_
        refine y_ishrP C dX5_soldWays_21 (by omega) (fun a133 la133 ua133 => ?_)
        refine y_iconst C dX5_soldWays_22 ?_
        refine y_iandR C dX5_soldWays_23 (by omega) (fun a134 la134 ua134 => ?_)
        refine y_iconst C dX5_soldWays_24 ?_
        refine y_icmp_ne C 38 dX5_soldWays_25 (by decide) (by omega) (fun h135 => ?_) (fun h135 => ?_)
        · refine y_lconst C 0 dX5_soldWays_38 rfl ?_
          refine y_ladd C dX5_soldWays_39 ?_
          refine j_lstore_n C 2 [(2, .long (sJ (a127 + 0))), (0, .ref (ad 88)), (1, .int (sI a1)), (4, .int (sI a128))] dX5_soldWays_40 rfl (by decide) rfl ?_
          refine y_iinc C 3 [(4, .int (sI (a128 + 1))), (2, .long (sJ (a127 + 0))), (0, .ref (ad 88)), (1, .int (sI a1))] dX5_soldWays_41 rfl (by decide) rfl ?_
          refine j_goto C 8 dX5_soldWays_44 (by decide) ?_
          refine j_lv [2, 3, 1, 0] rfl ?_; exact ih125 (a127 + 0) (a128 + 1) (by omega)
        · refine j_aload_n C 0 0 dX5_soldWays_28 rfl rfl ?_
          refine y_getM C 4 41 fX5_soldWays_21 rfl rfl ft_4_4 sm_4_4 (by decide) hM0 dX5_soldWays_29 (fun v136 ev136 cv136 => ?_)
          refine j_iload C 3 dX5_soldWays_32 rfl ?_
          refine y_lald C 41 256 cv136 rfl rfl ak_41 an_41 rfl dX5_soldWays_34 (by omega) (fun a137 ea137 la137 ua137 => ?_)
          refine j_goto C 39 dX5_soldWays_35 (by decide) ?_
          refine y_ladd0 C dX5_soldWays_39 (fun a138 la138 ua138 => ?_)
          refine j_lstore_n C 2 [(2, .long (sJ a138)), (0, .ref (ad 88)), (1, .int (sI a1)), (4, .int (sI a128))] dX5_soldWays_40 rfl (by decide) rfl ?_
          refine y_iinc C 3 [(4, .int (sI (a128 + 1))), (2, .long (sJ a138)), (0, .ref (ad 88)), (1, .int (sI a1))] dX5_soldWays_41 rfl (by decide) rfl ?_
          refine j_goto C 8 dX5_soldWays_44 (by decide) ?_
          refine j_lv [2, 3, 1, 0] rfl ?_; exact ih125 a138 (a128 + 1) (by omega)
  refine j_lv [2, 3, 1, 0] rfl ?_; exact L126 2010 0 a101 (by omega)
set_option maxHeartbeats 4000000 in
theorem s1_X11_soldIn {l : Launch} {dC : Nat → ClassId} {dI : Nat → Nat → Nat} {ad : Nat → Nat} {cA : Nat → ClassId} {pr : Nat → Nat → Bool} {Kz : mm_M} {M0 : mm_M} (hM0 : INV pr Kz M0) (hpr : PX pr) (a1 : Int) (ha1 : -2147483648 ≤ a1 ∧ a1 ≤ 2147483647) (a2 : Int) (ha2 : -2147483648 ≤ a2 ∧ a2 ≤ 2147483647) (a3 : Int) (ha3 : -2147483648 ≤ a3 ∧ a3 ≤ 2147483647) : Cj l 6 yX11_soldIn wsX11_soldIn dC dI ad cA [.ref (ad 0), .int (sI a1), .int (sI a2), .int (sI a3)] M0 (fun r M' => ∃ a : Int, r = sJ a ∧ INV pr Kz M' ∧ (-9223372036854775808) ≤ a ∧ a ≤ 9223372036854775807) := by
  refine cj_of (cc := cX11_soldIn) (maxL := 5) (lv := [(0, .ref (ad 0)), (1, .int (sI a1)), (2, .int (sI a2)), (3, .int (sI a3))]) (by decide) rfl (Nat.le_of_ble_eq_true rfl) rfl ?_
  intro p e s m args below meth c A Q C hret
  refine j_aload_n C 0 0 dX11_soldIn_0 rfl rfl ?_
  refine j_iload_n C 1 1 dX11_soldIn_1 rfl rfl ?_
  refine j_callVi C (d := 0) (As := [.int (sI a1)]) (st := []) 0 (s_lt rfl rfl) (s_kc (c := 10) rfl rfl) (by decide) rfl (s1_X11_isKind hM0 a1 (by omega)) gX11_soldIn_X11_isKind rfl hdX11_isKind (by decide) (Nat.le_of_ble_eq_true rfl) dX11_soldIn_2 rfl (fun r101 M102 h103 => ?_)
  obtain ⟨a105, rfl, rfl, h104⟩ := h103
  have J113 : ∀ (a112 : Int), ((-3) ≤ a112 ∧ a112 ≤ 0) → jj p l e (cn_R 6) s m args below meth c 0 0 Q 5 dC dI ad cA A M0 20 [(0, .ref (ad 0)), (1, .int (sI a1)), (2, .int (sI a2)), (3, .int (sI a3))] [.int (sI a112)] := by
    intro a112 h114
    refine j_istore C 4 [(4, .int (sI a112)), (0, .ref (ad 0)), (1, .int (sI a1)), (2, .int (sI a2)), (3, .int (sI a3))] dX11_soldIn_20 (by decide) rfl ?_
    refine j_iload C 0 dX11_soldIn_22 rfl ?_
    refine y_if_eq C 31 dX11_soldIn_24 (by decide) (by omega) (fun h115 => ?_) (fun h115 => ?_)
    · refine j_aload_n C 1 0 dX11_soldIn_31 rfl rfl ?_
      refine y_getC C 10 88 fX11_soldIn_94 rfl rfl ft_10_14 sm_10_14 rfl hM0 dX11_soldIn_32 ?_
      refine j_aload_n C 1 0 dX11_soldIn_35 rfl rfl ?_
      refine y_getM C 10 6 fX11_soldIn_26 rfl rfl ft_10_4 sm_10_4 (by decide) hM0 dX11_soldIn_36 (fun v116 ev116 cv116 => ?_)
      refine j_aload_n C 1 0 dX11_soldIn_39 rfl rfl ?_
      refine y_getC C 10 12 fX11_soldIn_36 rfl rfl ft_10_6 sm_10_6 rfl hM0 dX11_soldIn_40 ?_
      refine j_aload_n C 1 0 dX11_soldIn_43 rfl rfl ?_
      refine y_getC C 10 12 fX11_soldIn_36 rfl rfl ft_10_6 sm_10_6 rfl hM0 dX11_soldIn_44 ?_
      refine y_getI C 8 _ _ fX11_soldIn_153 rfl rfl ft_8_4 sb_8_4 hM0 dX11_soldIn_47 (fun a117 ea117 la117 ua117 => ?_)
      refine j_callVv C (d := 5) (As := [.ref (ad v116), .ref (ad 12), .int (sI a117)]) (st := []) 88 (s_lt rfl rfl) (s_kc (c := 4) rfl rfl) (by decide) rfl (s1_X5_look hM0 hpr cv116 rfl a117 (by omega)) gX11_soldIn_X5_look rfl hdX5_look (by decide) (Nat.le_of_ble_eq_true rfl) dX11_soldIn_50 rfl (fun M120 h121 => ?_)
      have hM120 := h121
      refine j_aload_n C 1 0 dX11_soldIn_53 rfl rfl ?_
      refine y_getC C 10 88 fX11_soldIn_94 rfl rfl ft_10_14 sm_10_14 rfl hM120 dX11_soldIn_54 ?_
      refine j_iload_n C 3 2 dX11_soldIn_57 rfl rfl ?_
      refine j_callVv C (d := 3) (As := [.int (sI a2)]) (st := []) 88 (s_lt rfl rfl) (s_kc (c := 4) rfl rfl) (by decide) rfl (s1_X5_passDays hM120 hpr a2 (by omega)) gX11_soldIn_X5_passDays rfl hdX5_passDays (by decide) (Nat.le_of_ble_eq_true rfl) dX11_soldIn_58 rfl (fun M124 h125 => ?_)
      have hM124 := h125
      refine j_aload_n C 1 0 dX11_soldIn_61 rfl rfl ?_
      refine y_getC C 10 88 fX11_soldIn_94 rfl rfl ft_10_14 sm_10_14 rfl hM124 dX11_soldIn_62 ?_
      refine j_iload_n C 2 1 dX11_soldIn_65 rfl rfl ?_
      refine j_callVj C (d := 0) (As := [.int (sI a1)]) (st := []) 88 (s_lt rfl rfl) (s_kc (c := 4) rfl rfl) (by decide) rfl (s1_X5_soldWays hM124 a1 (by omega)) gX11_soldIn_X5_soldWays rfl hdX5_soldWays (by decide) (Nat.le_of_ble_eq_true rfl) dX11_soldIn_66 rfl (fun r127 M128 h129 => ?_)
      obtain ⟨a131, rfl, rfl, h130⟩ := h129
      refine j_aload_n C 1 0 dX11_soldIn_69 rfl rfl ?_
      refine y_getC C 10 88 fX11_soldIn_94 rfl rfl ft_10_14 sm_10_14 rfl hM124 dX11_soldIn_70 ?_
      refine y_getJ C 4 fX11_soldIn_296 rfl rfl ft_4_7 dX11_soldIn_73 (fun a132 ea132 la132 ua132 => ?_)
      refine j_iload_n C 4 3 dX11_soldIn_76 rfl rfl ?_
      refine j_callSj C (d := 1) (As := [.long (sJ a131), .long (sJ a132), .int (sI a3)]) (st := []) (s1_X11_inLowestTerms hM124 a131 (by omega) a132 (by omega) a3 (by omega)) gX11_soldIn_X11_inLowestTerms rfl hdX11_inLowestTermss (by decide) (Nat.le_of_ble_eq_true rfl) dX11_soldIn_77 rfl (fun r133 M134 h135 => ?_)
      obtain ⟨a137, rfl, rfl, h136⟩ := h135
      exact hret _ _ _ _ dX11_soldIn_80 ⟨a137, rfl, hM124, by omega⟩
    · refine j_iload C 0 dX11_soldIn_27 rfl ?_
      refine y_i2l C dX11_soldIn_29 (by omega) ?_
      exact hret _ _ _ _ dX11_soldIn_30 ⟨a112, rfl, hM0, by omega⟩
  refine y_if_eq C 18 dX11_soldIn_5 (by decide) (by omega) (fun h106 => ?_) (fun h106 => ?_)
  · refine y_bipush C dX11_soldIn_18 rfl ?_
    exact J113 (-2) (by omega)
  · refine j_iload_n C 3 3 dX11_soldIn_8 rfl rfl ?_
    refine j_iload_n C 2 2 dX11_soldIn_9 rfl rfl ?_
    refine y_bipush C dX11_soldIn_10 rfl ?_
    refine j_callSi C (d := 0) (As := [.int (sI a3), .int (sI a2), .int (sI 10)]) (st := []) (s1_X11_chanceRefusal hM0 a3 (by omega) a2 (by omega) 10 (by omega)) gX11_soldIn_X11_chanceRefusal rfl hdX11_chanceRefusals (by decide) (Nat.le_of_ble_eq_true rfl) dX11_soldIn_12 rfl (fun r107 M108 h109 => ?_)
    obtain ⟨a111, rfl, rfl, h110⟩ := h109
    refine j_goto C 20 dX11_soldIn_15 (by decide) ?_
    exact J113 a111 (by omega)
set_option maxHeartbeats 4000000 in
theorem s1_X11_isHideable {l : Launch} {dC : Nat → ClassId} {dI : Nat → Nat → Nat} {ad : Nat → Nat} {cA : Nat → ClassId} {pr : Nat → Nat → Bool} {Kz : mm_M} {M0 : mm_M} (hM0 : INV pr Kz M0) (a1 : Int) (ha1 : -2147483648 ≤ a1 ∧ a1 ≤ 2147483647) (a2 : Int) (ha2 : -2147483648 ≤ a2 ∧ a2 ≤ 2147483647) : Ci l 1 yX11_isHideable wsX11_isHideable dC dI ad cA [.ref (ad 0), .int (sI a1), .int (sI a2)] M0 (fun r M' => ∃ a : Int, r = sI a ∧ M0 = M' ∧ 0 ≤ a ∧ a ≤ 1 ∧ ((a = 0) ∨ (a = 1))) := by
  refine ci_of (cc := cX11_isHideable) (maxL := 3) (ty := .boolean) (lv := [(0, .ref (ad 0)), (1, .int (sI a1)), (2, .int (sI a2))]) (by decide) rfl (fun r M' hp => by obtain ⟨a, rfl, -, h⟩ := hp; rcases (show a = 0 ∨ a = 1 by omega) with rfl | rfl <;> rfl) (Nat.le_of_ble_eq_true rfl) rfl ?_
  intro p e s m args below meth c A Q C hret
  refine j_iload_n C 1 1 dX11_isHideable_0 rfl rfl ?_
  refine j_callSi C (d := 0) (As := [.int (sI a1)]) (st := []) (s1_J6_bitCount_0f7a4 hM0 a1 (by omega)) gX11_isHideable_J6_bitCount_0f7a4 rfl hdJ6_bitCount_0f7a4s (by decide) (Nat.le_of_ble_eq_true rfl) dX11_isHideable_1 rfl (fun r101 M102 h103 => ?_)
  obtain ⟨a105, rfl, rfl, h104⟩ := h103
  refine j_iload_n C 2 2 dX11_isHideable_4 rfl rfl ?_
  refine y_icmp_ne C 24 dX11_isHideable_5 (by decide) (by omega) (fun h106 => ?_) (fun h106 => ?_)
  · refine y_iconst C dX11_isHideable_24 ?_
    exact hret _ _ _ _ dX11_isHideable_25 ⟨0, rfl, rfl, by omega⟩
  · refine j_iload_n C 1 1 dX11_isHideable_8 rfl rfl ?_
    refine j_aload_n C 0 0 dX11_isHideable_9 rfl rfl ?_
    refine y_getC C 10 12 fX11_isHideable_36 rfl rfl ft_10_6 sm_10_6 rfl hM0 dX11_isHideable_10 ?_
    refine y_getI C 8 _ _ fX11_isHideable_153 rfl rfl ft_8_4 sb_8_4 hM0 dX11_isHideable_13 (fun a107 ea107 la107 ua107 => ?_)
    refine y_iandR C dX11_isHideable_16 (by omega) (fun a109 la109 ua109 => ?_)
    refine y_if_ne C 24 dX11_isHideable_17 (by decide) (by omega) (fun h110 => ?_) (fun h110 => ?_)
    · refine y_iconst C dX11_isHideable_24 ?_
      exact hret _ _ _ _ dX11_isHideable_25 ⟨0, rfl, rfl, by omega⟩
    · refine y_iconst C dX11_isHideable_20 ?_
      refine j_goto C 25 dX11_isHideable_21 (by decide) ?_
      exact hret _ _ _ _ dX11_isHideable_25 ⟨1, rfl, rfl, by omega⟩
set_option maxHeartbeats 4000000 in
theorem s1_X11_hides {l : Launch} {dC : Nat → ClassId} {dI : Nat → Nat → Nat} {ad : Nat → Nat} {cA : Nat → ClassId} {pr : Nat → Nat → Bool} {Kz : mm_M} {M0 : mm_M} (hM0 : INV pr Kz M0) (hpr : PX pr) (a1 : Int) (ha1 : -2147483648 ≤ a1 ∧ a1 ≤ 2147483647) (a2 : Int) (ha2 : -2147483648 ≤ a2 ∧ a2 ≤ 2147483647) (a3 : Int) (ha3 : -2147483648 ≤ a3 ∧ a3 ≤ 2147483647) : Ci l 6 yX11_hides wsX11_hides dC dI ad cA [.ref (ad 0), .int (sI a1), .int (sI a2), .int (sI a3)] M0 (fun r M' => ∃ a : Int, r = sI a ∧ INV pr Kz M' ∧ (-5) ≤ a ∧ a ≤ 255) := by
  refine ci_of (cc := cX11_hides) (maxL := 11) (ty := .int) (lv := [(0, .ref (ad 0)), (1, .int (sI a1)), (2, .int (sI a2)), (3, .int (sI a3))]) (by decide) rfl (fun r M' hp => rfl) (Nat.le_of_ble_eq_true rfl) rfl ?_
  intro p e s m args below meth c A Q C hret
  refine j_iload_n C 3 3 dX11_hides_0 rfl rfl ?_
  refine y_if_lt C 9 dX11_hides_1 (by decide) (by omega) (fun h101 => ?_) (fun h101 => ?_)
  · refine y_bipush C dX11_hides_9 rfl ?_
    exact hret _ _ _ _ dX11_hides_11 ⟨(-2), rfl, hM0, by omega⟩
  · refine j_iload_n C 3 3 dX11_hides_4 rfl rfl ?_
    refine y_iconst C dX11_hides_5 ?_
    refine y_icmp_le C 12 dX11_hides_6 (by decide) (by omega) (fun h102 => ?_) (fun h102 => ?_)
    · refine j_iload_n C 1 1 dX11_hides_12 rfl rfl ?_
      refine y_if_lt C 32 dX11_hides_13 (by decide) (by omega) (fun h103 => ?_) (fun h103 => ?_)
      · refine y_bipush C dX11_hides_32 rfl ?_
        exact hret _ _ _ _ dX11_hides_34 ⟨(-3), rfl, hM0, by omega⟩
      · refine j_iload_n C 1 1 dX11_hides_16 rfl rfl ?_
        refine y_iconst C dX11_hides_17 ?_
        refine y_icmp_gt C 32 dX11_hides_18 (by decide) (by omega) (fun h104 => ?_) (fun h104 => ?_)
        · refine y_bipush C dX11_hides_32 rfl ?_
          exact hret _ _ _ _ dX11_hides_34 ⟨(-3), rfl, hM0, by omega⟩
        · refine j_iload_n C 2 2 dX11_hides_21 rfl rfl ?_
          refine y_iconst C dX11_hides_22 ?_
          refine y_icmp_lt C 32 dX11_hides_23 (by decide) (by omega) (fun h105 => ?_) (fun h105 => ?_)
          · refine y_bipush C dX11_hides_32 rfl ?_
            exact hret _ _ _ _ dX11_hides_34 ⟨(-3), rfl, hM0, by omega⟩
          · refine j_iload_n C 2 2 dX11_hides_26 rfl rfl ?_
            refine y_bipush C dX11_hides_27 rfl ?_
            refine y_icmp_le C 35 dX11_hides_29 (by decide) (by omega) (fun h106 => ?_) (fun h106 => ?_)
            · refine j_aload_n C 0 0 dX11_hides_35 rfl rfl ?_
              refine y_getC C 10 12 fX11_hides_36 rfl rfl ft_10_6 sm_10_6 rfl hM0 dX11_hides_36 ?_
              refine j_callVi C (d := 1) (As := []) (st := []) 12 (s_lt rfl rfl) (s_kc (c := 8) rfl rfl) (by decide) rfl (s1_X9_isShut hM0 rfl) gX11_hides_X9_isShut rfl hdX9_isShut (by decide) (Nat.le_of_ble_eq_true rfl) dX11_hides_39 rfl (fun r107 M108 h109 => ?_)
              obtain ⟨a111, rfl, rfl, h110⟩ := h109
              refine y_if_eq C 48 dX11_hides_42 (by decide) (by omega) (fun h112 => ?_) (fun h112 => ?_)
              · refine y_iconst C dX11_hides_48 ?_
                refine j_istore C 4 [(4, .int (sI 0)), (0, .ref (ad 0)), (1, .int (sI a1)), (2, .int (sI a2)), (3, .int (sI a3))] dX11_hides_49 (by decide) rfl ?_
                refine y_ldc2 C (-1) dX11_hides_51 kX11_hides_219 rfl ?_
                refine j_lstore C 5 [(5, .long (sJ (-1))), (4, .int (sI 0)), (0, .ref (ad 0)), (1, .int (sI a1)), (2, .int (sI a2)), (3, .int (sI a3))] dX11_hides_54 (by decide) rfl ?_
                refine y_iconst C dX11_hides_56 ?_
                refine j_istore C 7 [(7, .int (sI 0)), (5, .long (sJ (-1))), (4, .int (sI 0)), (0, .ref (ad 0)), (1, .int (sI a1)), (2, .int (sI a2)), (3, .int (sI a3))] dX11_hides_57 (by decide) rfl ?_
                have L5480 : ∀ (n5478 : Nat), ∀ (a5481 : Int) (a5482 : Int) (a5483 : Int) (M5484 : mm_M), (0 ≤ a5481 ∧ a5481 ≤ 255 ∧ (-9223372036854775808) ≤ a5482 ∧ a5482 ≤ 9223372036854775807 ∧ 0 ≤ a5483 ∧ a5483 ≤ 4 ∧ (4 - a5483) < (n5478 : Int)) → INV pr Kz M5484 → jj p l e (cn_R 6) s m args below meth c 0 0 Q 11 dC dI ad cA A M5484 59 [(0, .ref (ad 0)), (1, .int (sI a1)), (2, .int (sI a2)), (3, .int (sI a3)), (4, .int (sI a5481)), (5, .long (sJ a5482)), (7, .int (sI a5483))] [] := by
                  intro n5478
                  induction n5478 with
                  | zero =>
                    intro a5481 a5482 a5483 M5484 h5485 hM5484
                    exfalso; omega
                  | succ n5478 ih5479 =>
                    intro a5481 a5482 a5483 M5484 h5485 hM5484
                    refine j_iload C 6 dX11_hides_59 rfl ?_
                    refine j_iload_n C 1 1 dX11_hides_61 rfl rfl ?_
                    refine y_icmp_gt C 171 dX11_hides_62 (by decide) (by omega) (fun h5486 => ?_) (fun h5486 => ?_)
                    · refine j_iload_n C 3 3 dX11_hides_171 rfl rfl ?_
                      refine y_if_ne C 183 dX11_hides_172 (by decide) (by omega) (fun h6555 => ?_) (fun h6555 => ?_)
                      · refine j_iload C 4 dX11_hides_183 rfl ?_
                        exact hret _ _ _ _ dX11_hides_185 ⟨a5481, rfl, hM5484, by omega⟩
                      · refine j_iload C 4 dX11_hides_175 rfl ?_
                        refine j_callSi C (d := 0) (As := [.int (sI a5481)]) (st := []) (s1_J6_bitCount_0f7a4 hM5484 a5481 (by omega)) gX11_hides_J6_bitCount_0f7a4 rfl hdJ6_bitCount_0f7a4s (by decide) (Nat.le_of_ble_eq_true rfl) dX11_hides_177 rfl (fun r6556 M6557 h6558 => ?_)
                        obtain ⟨a6560, rfl, rfl, h6559⟩ := h6558
                        refine j_goto C 185 dX11_hides_180 (by decide) ?_
                        exact hret _ _ _ _ dX11_hides_185 ⟨a6560, rfl, hM5484, by omega⟩
                    · refine y_iconst C dX11_hides_65 ?_
                      refine j_istore C 8 [(8, .int (sI 0)), (0, .ref (ad 0)), (1, .int (sI a1)), (2, .int (sI a2)), (3, .int (sI a3)), (4, .int (sI a5481)), (5, .long (sJ a5482)), (7, .int (sI a5483))] dX11_hides_66 (by decide) rfl ?_
                      have L6515 : ∀ (n6513 : Nat), ∀ (a6516 : Int) (a6517 : Int) (a6518 : Int) (M6519 : mm_M), (0 ≤ a6516 ∧ a6516 ≤ 255 ∧ (-9223372036854775808) ≤ a6517 ∧ a6517 ≤ 9223372036854775807 ∧ 0 ≤ a6518 ∧ a6518 ≤ 256 ∧ (256 - a6518) < (n6513 : Int)) → INV pr Kz M6519 → jj p l e (cn_R 6) s m args below meth c 0 0 Q 11 dC dI ad cA A M6519 68 [(0, .ref (ad 0)), (1, .int (sI a1)), (2, .int (sI a2)), (3, .int (sI a3)), (4, .int (sI a6516)), (5, .long (sJ a6517)), (7, .int (sI a5483)), (8, .int (sI a6518))] [] := by
                        intro n6513
                        induction n6513 with
                        | zero =>
                          intro a6516 a6517 a6518 M6519 h6520 hM6519
                          exfalso; omega
                        | succ n6513 ih6514 =>
                          intro a6516 a6517 a6518 M6519 h6520 hM6519
                          refine j_iload C 7 dX11_hides_68 rfl ?_
                          refine j_aload_n C 0 0 dX11_hides_70 rfl rfl ?_
                          refine y_getC C 10 12 fX11_hides_36 rfl rfl ft_10_6 sm_10_6 rfl hM6519 dX11_hides_71 ?_
                          refine j_callVi C (d := 0) (As := []) (st := [.int (sI a6518)]) 12 (s_lt rfl rfl) (s_kc (c := 8) rfl rfl) (by decide) rfl (s1_X9_everyKind hM6519 rfl) gX11_hides_X9_everyKind rfl hdX9_everyKind (by decide) (Nat.le_of_ble_eq_true rfl) dX11_hides_74 rfl (fun r6521 M6522 h6523 => ?_)
                          obtain ⟨a6525, rfl, rfl, h6524⟩ := h6523
                          refine y_icmp_gt C 165 dX11_hides_77 (by decide) (by omega) (fun h6526 => ?_) (fun h6526 => ?_)
                          · refine y_iinc C 6 [(7, .int (sI (a5483 + 1))), (0, .ref (ad 0)), (1, .int (sI a1)), (2, .int (sI a2)), (3, .int (sI a3)), (4, .int (sI a6516)), (5, .long (sJ a6517)), (8, .int (sI a6518))] dX11_hides_165 rfl (by decide) rfl ?_
                            refine j_goto C 59 dX11_hides_168 (by decide) ?_
                            refine j_lv [1, 2, 3, 4, 5, 6, 0] rfl ?_; exact ih5479 a6516 a6517 (a5483 + 1) M6519 (by omega) hM6519
                          · refine j_aload_n C 0 0 dX11_hides_80 rfl rfl ?_
                            refine j_iload C 7 dX11_hides_81 rfl ?_
                            refine j_iload C 6 dX11_hides_83 rfl ?_
                            refine j_callVi C (d := 1) (As := [.int (sI a6518), .int (sI a5483)]) (st := []) 0 (s_lt rfl rfl) (s_kc (c := 10) rfl rfl) (by decide) rfl (s1_X11_isHideable hM6519 a6518 (by omega) a5483 (by omega)) gX11_hides_X11_isHideable rfl hdX11_isHideable (by decide) (Nat.le_of_ble_eq_true rfl) dX11_hides_85 rfl (fun r6527 M6528 h6529 => ?_)
                            obtain ⟨a6531, rfl, rfl, h6530⟩ := h6529
                            refine y_if_eq C 159 dX11_hides_88 (by decide) (by omega) (fun h6532 => ?_) (fun h6532 => ?_)
                            · refine y_iinc C 7 [(8, .int (sI (a6518 + 1))), (0, .ref (ad 0)), (1, .int (sI a1)), (2, .int (sI a2)), (3, .int (sI a3)), (4, .int (sI a6516)), (5, .long (sJ a6517)), (7, .int (sI a5483))] dX11_hides_159 rfl (by decide) rfl ?_
                              refine j_goto C 68 dX11_hides_162 (by decide) ?_
                              refine j_lv [1, 2, 3, 4, 5, 6, 7, 0] rfl ?_; exact ih6514 a6516 a6517 (a6518 + 1) M6519 (by omega) hM6519
                            · refine j_aload_n C 0 0 dX11_hides_91 rfl rfl ?_
                              refine y_getC C 10 88 fX11_hides_94 rfl rfl ft_10_14 sm_10_14 rfl hM6519 dX11_hides_92 ?_
                              refine j_aload_n C 0 0 dX11_hides_95 rfl rfl ?_
                              refine y_getM C 10 6 fX11_hides_26 rfl rfl ft_10_4 sm_10_4 (by decide) hM6519 dX11_hides_96 (fun v6533 ev6533 cv6533 => ?_)
                              refine j_aload_n C 0 0 dX11_hides_99 rfl rfl ?_
                              refine y_getC C 10 12 fX11_hides_36 rfl rfl ft_10_6 sm_10_6 rfl hM6519 dX11_hides_100 ?_
                              refine j_aload_n C 0 0 dX11_hides_103 rfl rfl ?_
                              refine y_getC C 10 12 fX11_hides_36 rfl rfl ft_10_6 sm_10_6 rfl hM6519 dX11_hides_104 ?_
                              refine y_getI C 8 _ _ fX11_hides_153 rfl rfl ft_8_4 sb_8_4 hM6519 dX11_hides_107 (fun a6534 ea6534 la6534 ua6534 => ?_)
                              refine j_iload C 7 dX11_hides_110 rfl ?_
                              refine y_iorN C 8 255 dX11_hides_112 rfl (by decide) (by omega) (fun a6536 la6536 ua6536 => ?_)
                              refine j_callVv C (d := 5) (As := [.ref (ad v6533), .ref (ad 12), .int (sI a6536)]) (st := []) 88 (s_lt rfl rfl) (s_kc (c := 4) rfl rfl) (by decide) rfl (s1_X5_look hM6519 hpr cv6533 rfl a6536 (by omega)) gX11_hides_X5_look rfl hdX5_look (by decide) (Nat.le_of_ble_eq_true rfl) dX11_hides_113 rfl (fun M6538 h6539 => ?_)
                              have hM6538 := h6539
                              refine j_aload_n C 0 0 dX11_hides_116 rfl rfl ?_
                              refine y_getC C 10 88 fX11_hides_94 rfl rfl ft_10_14 sm_10_14 rfl hM6538 dX11_hides_117 ?_
                              refine j_iload_n C 2 2 dX11_hides_120 rfl rfl ?_
                              refine j_callVv C (d := 3) (As := [.int (sI a2)]) (st := []) 88 (s_lt rfl rfl) (s_kc (c := 4) rfl rfl) (by decide) rfl (s1_X5_passDays hM6538 hpr a2 (by omega)) gX11_hides_X5_passDays rfl hdX5_passDays (by decide) (Nat.le_of_ble_eq_true rfl) dX11_hides_121 rfl (fun M6542 h6543 => ?_)
                              have hM6542 := h6543
                              refine j_aload_n C 0 0 dX11_hides_124 rfl rfl ?_
                              refine y_getC C 10 88 fX11_hides_94 rfl rfl ft_10_14 sm_10_14 rfl hM6542 dX11_hides_125 ?_
                              refine j_callVj C (d := 1) (As := []) (st := []) 88 (s_lt rfl rfl) (s_kc (c := 4) rfl rfl) (by decide) rfl (s1_X5_openWays hM6542) gX11_hides_X5_openWays rfl hdX5_openWays (by decide) (Nat.le_of_ble_eq_true rfl) dX11_hides_128 rfl (fun r6545 M6546 h6547 => ?_)
                              obtain ⟨a6549, rfl, rfl, h6548⟩ := h6547
                              refine j_lstore C 9 [(9, .long (sJ a6549)), (0, .ref (ad 0)), (1, .int (sI a1)), (2, .int (sI a2)), (3, .int (sI a3)), (4, .int (sI a6516)), (5, .long (sJ a6517)), (7, .int (sI a5483)), (8, .int (sI a6518))] dX11_hides_131 (by decide) rfl ?_
                              refine j_lload C 0 dX11_hides_133 rfl ?_
                              refine j_lload C 6 dX11_hides_135 rfl ?_
                              have J6552 : ∀ (a6551 : Int), (0 ≤ a6551 ∧ a6551 ≤ 255) → jj p l e (cn_R 6) s m args below meth c 0 0 Q 11 dC dI ad cA A M6542 148 [(0, .ref (ad 0)), (1, .int (sI a1)), (2, .int (sI a2)), (3, .int (sI a3)), (5, .long (sJ a6517)), (7, .int (sI a5483)), (8, .int (sI a6518)), (9, .long (sJ a6549))] [.int (sI a6551)] := by
                                intro a6551 h6553
                                refine j_istore C 4 [(4, .int (sI a6551)), (0, .ref (ad 0)), (1, .int (sI a1)), (2, .int (sI a2)), (3, .int (sI a3)), (5, .long (sJ a6517)), (7, .int (sI a5483)), (8, .int (sI a6518)), (9, .long (sJ a6549))] dX11_hides_148 (by decide) rfl ?_
                                refine j_lload C 5 dX11_hides_150 rfl ?_
                                refine j_lload C 8 dX11_hides_152 rfl ?_
                                refine y_mmaxl C wX11_hides_330_0 wX11_hides_330_1 wX11_hides_330_2 wX11_hides_330_3 (by decide) (Nat.le_of_ble_eq_true rfl) dX11_hides_154 (fun a6554 la6554 ua6554 => ?_)
                                refine j_lstore C 5 [(5, .long (sJ a6554)), (4, .int (sI a6551)), (0, .ref (ad 0)), (1, .int (sI a1)), (2, .int (sI a2)), (3, .int (sI a3)), (7, .int (sI a5483)), (8, .int (sI a6518)), (9, .long (sJ a6549))] dX11_hides_157 (by decide) rfl ?_
                                refine y_iinc C 7 [(8, .int (sI (a6518 + 1))), (5, .long (sJ a6554)), (4, .int (sI a6551)), (0, .ref (ad 0)), (1, .int (sI a1)), (2, .int (sI a2)), (3, .int (sI a3)), (7, .int (sI a5483)), (9, .long (sJ a6549))] dX11_hides_159 rfl (by decide) rfl ?_
                                refine j_goto C 68 dX11_hides_162 (by decide) ?_
                                refine j_lv [3, 4, 5, 6, 2, 1, 7, 0] rfl ?_; exact ih6514 a6551 a6554 (a6518 + 1) M6542 (by omega) hM6542
                              refine y_lcmp_le C 146 dX11_hides_137 dX11_hides_138 (by decide) (by omega) (fun h6550 => ?_) (fun h6550 => ?_)
                              · refine j_iload C 5 dX11_hides_146 rfl ?_
                                refine j_lv [1, 2, 3, 4, 6, 7, 8, 0] rfl ?_; exact J6552 a6516 (by omega)
                              · refine j_iload C 8 dX11_hides_141 rfl ?_
                                refine j_goto C 148 dX11_hides_143 (by decide) ?_
                                refine j_lv [1, 2, 3, 4, 6, 7, 8, 0] rfl ?_; exact J6552 a6518 (by omega)
                      refine j_lv [1, 2, 3, 4, 5, 6, 7, 0] rfl ?_; exact L6515 2010 a5481 a5482 0 M5484 (by omega) hM5484
                refine j_lv [3, 4, 5, 6, 2, 1, 0] rfl ?_; exact L5480 2010 0 (-1) 0 M0 (by omega) hM0
              · refine y_bipush C dX11_hides_45 rfl ?_
                exact hret _ _ _ _ dX11_hides_47 ⟨(-5), rfl, hM0, by omega⟩
            · refine y_bipush C dX11_hides_32 rfl ?_
              exact hret _ _ _ _ dX11_hides_34 ⟨(-3), rfl, hM0, by omega⟩
    · refine y_bipush C dX11_hides_9 rfl ?_
      exact hret _ _ _ _ dX11_hides_11 ⟨(-2), rfl, hM0, by omega⟩
set_option maxHeartbeats 4000000 in
theorem s1_X5_takersNow {l : Launch} {dC : Nat → ClassId} {dI : Nat → Nat → Nat} {ad : Nat → Nat} {cA : Nat → ClassId} {pr : Nat → Nat → Bool} {Kz : mm_M} {M0 : mm_M} (hM0 : INV pr Kz M0)  : Ci l 1 yX5_takersNow wsX5_takersNow dC dI ad cA [.ref (ad 88)] M0 (fun r M' => ∃ a : Int, r = sI a ∧ M0 = M' ∧ 0 ≤ a ∧ a ≤ 63) := by
  refine ci_of (cc := cX5_takersNow) (maxL := 3) (ty := .int) (lv := [(0, .ref (ad 88))]) (by decide) rfl (fun r M' hp => rfl) (Nat.le_of_ble_eq_true rfl) rfl ?_
  intro p e s m args below meth c A Q C hret
  refine y_iconst C dX5_takersNow_0 ?_
  refine j_istore_n C 1 [(1, .int (sI 0)), (0, .ref (ad 88))] dX5_takersNow_1 rfl (by decide) rfl ?_
  refine y_iconst C dX5_takersNow_2 ?_
  refine j_istore_n C 2 [(2, .int (sI 0)), (1, .int (sI 0)), (0, .ref (ad 88))] dX5_takersNow_3 rfl (by decide) rfl ?_
  have L215 : ∀ (n213 : Nat), ∀ (a216 : Int) (a217 : Int), (0 ≤ a216 ∧ a216 ≤ 63 ∧ 0 ≤ a217 ∧ a217 ≤ 6 ∧ (6 - a217) < (n213 : Int)) → jj p l e (cn_R 1) s m args below meth c 0 0 Q 3 dC dI ad cA A M0 4 [(0, .ref (ad 88)), (1, .int (sI a216)), (2, .int (sI a217))] [] := by
    intro n213
    induction n213 with
    | zero =>
      intro a216 a217 h218
      exfalso; omega
    | succ n213 ih214 =>
      intro a216 a217 h218
      refine j_iload_n C 2 2 dX5_takersNow_4 rfl rfl ?_
      refine j_aload_n C 0 0 dX5_takersNow_5 rfl rfl ?_
      refine y_getM C 4 6 fX5_takersNow_52 rfl rfl ft_4_9 sm_4_9 (by decide) hM0 dX5_takersNow_6 (fun v219 ev219 cv219 => ?_)
      refine y_getI C 6 _ _ fX5_takersNow_92 cv219 rfl ft_6_0 sb_6_0 hM0 dX5_takersNow_9 (fun a220 ea220 la220 ua220 => ?_)
      refine y_icmp_ge C 39 dX5_takersNow_12 (by decide) (by omega) (fun h222 => ?_) (fun h222 => ?_)
      · refine j_iload_n C 1 1 dX5_takersNow_39 rfl rfl ?_
        exact hret _ _ _ _ dX5_takersNow_40 ⟨a216, rfl, rfl, by omega⟩
      · refine j_aload_n C 0 0 dX5_takersNow_15 rfl rfl ?_
        refine j_aload_n C 0 0 dX5_takersNow_16 rfl rfl ?_
        refine y_getI C 4 _ _ fX5_takersNow_45 rfl rfl ft_4_13 sb_4_13 hM0 dX5_takersNow_17 (fun a223 ea223 la223 ua223 => ?_)
        refine j_iload_n C 2 2 dX5_takersNow_20 rfl rfl ?_
        refine j_callVi C (d := 0) (As := [.int (sI a223), .int (sI a217)]) (st := []) 88 (s_lt rfl rfl) (s_kc (c := 4) rfl rfl) (by decide) rfl (s1_X5_pick hM0 a223 (by omega) a217 (by omega)) gX5_takersNow_X5_pick rfl hdX5_pick (by decide) (Nat.le_of_ble_eq_true rfl) dX5_takersNow_21 rfl (fun r225 M226 h227 => ?_)
        obtain ⟨a229, rfl, rfl, h228⟩ := h227
        refine y_if_lt C 33 dX5_takersNow_24 (by decide) (by omega) (fun h230 => ?_) (fun h230 => ?_)
        · refine y_iinc C 2 [(2, .int (sI (a217 + 1))), (0, .ref (ad 88)), (1, .int (sI a216))] dX5_takersNow_33 rfl (by decide) rfl ?_
          refine j_goto C 4 dX5_takersNow_36 (by decide) ?_
          refine j_lv [1, 2, 0] rfl ?_; exact ih214 a216 (a217 + 1) (by omega)
        · refine j_iload_n C 1 1 dX5_takersNow_27 rfl rfl ?_
          refine y_iconst C dX5_takersNow_28 ?_
          refine j_iload_n C 2 2 dX5_takersNow_29 rfl rfl ?_
          refine y_shl1 C 5 32 dX5_takersNow_30 rfl (by decide) (by omega) (fun a231 la231 ua231 => ?_)
          refine y_iorN C 6 63 dX5_takersNow_31 rfl (by decide) (by omega) (fun a232 la232 ua232 => ?_)
          refine j_istore_n C 1 [(1, .int (sI a232)), (0, .ref (ad 88)), (2, .int (sI a217))] dX5_takersNow_32 rfl (by decide) rfl ?_
          refine y_iinc C 2 [(2, .int (sI (a217 + 1))), (1, .int (sI a232)), (0, .ref (ad 88))] dX5_takersNow_33 rfl (by decide) rfl ?_
          refine j_goto C 4 dX5_takersNow_36 (by decide) ?_
          refine j_lv [2, 1, 0] rfl ?_; exact ih214 a232 (a217 + 1) (by omega)
  refine j_lv [2, 1, 0] rfl ?_; exact L215 2010 0 0 (by omega)
set_option maxHeartbeats 4000000 in
theorem s1_X11_rota {l : Launch} {dC : Nat → ClassId} {dI : Nat → Nat → Nat} {ad : Nat → Nat} {cA : Nat → ClassId} {pr : Nat → Nat → Bool} {Kz : mm_M} {M0 : mm_M} (hM0 : INV pr Kz M0) (hpr : PX pr) (a1 : Int) (ha1 : -2147483648 ≤ a1 ∧ a1 ≤ 2147483647) : Ci l 6 yX11_rota wsX11_rota dC dI ad cA [.ref (ad 0), .int (sI a1)] M0 (fun r M' => ∃ a : Int, r = sI a ∧ INV pr Kz M' ∧ (-5) ≤ a ∧ a ≤ 255) := by
  refine ci_of (cc := cX11_rota) (maxL := 5) (ty := .int) (lv := [(0, .ref (ad 0)), (1, .int (sI a1))]) (by decide) rfl (fun r M' hp => rfl) (Nat.le_of_ble_eq_true rfl) rfl ?_
  intro p e s m args below meth c A Q C hret
  refine j_iload_n C 1 1 dX11_rota_0 rfl rfl ?_
  refine y_if_lt C 9 dX11_rota_1 (by decide) (by omega) (fun h101 => ?_) (fun h101 => ?_)
  · refine y_bipush C dX11_rota_9 rfl ?_
    exact hret _ _ _ _ dX11_rota_11 ⟨(-2), rfl, hM0, by omega⟩
  · refine j_iload_n C 1 1 dX11_rota_4 rfl rfl ?_
    refine y_iconst C dX11_rota_5 ?_
    refine y_icmp_le C 12 dX11_rota_6 (by decide) (by omega) (fun h102 => ?_) (fun h102 => ?_)
    · refine j_aload_n C 0 0 dX11_rota_12 rfl rfl ?_
      refine y_getC C 10 12 fX11_rota_36 rfl rfl ft_10_6 sm_10_6 rfl hM0 dX11_rota_13 ?_
      refine j_callVi C (d := 1) (As := []) (st := []) 12 (s_lt rfl rfl) (s_kc (c := 8) rfl rfl) (by decide) rfl (s1_X9_isShut hM0 rfl) gX11_rota_X9_isShut rfl hdX9_isShut (by decide) (Nat.le_of_ble_eq_true rfl) dX11_rota_16 rfl (fun r103 M104 h105 => ?_)
      obtain ⟨a107, rfl, rfl, h106⟩ := h105
      refine y_if_eq C 25 dX11_rota_19 (by decide) (by omega) (fun h108 => ?_) (fun h108 => ?_)
      · refine j_aload_n C 0 0 dX11_rota_25 rfl rfl ?_
        refine y_getC C 10 88 fX11_rota_94 rfl rfl ft_10_14 sm_10_14 rfl hM0 dX11_rota_26 ?_
        refine j_aload_n C 0 0 dX11_rota_29 rfl rfl ?_
        refine y_getM C 10 6 fX11_rota_26 rfl rfl ft_10_4 sm_10_4 (by decide) hM0 dX11_rota_30 (fun v109 ev109 cv109 => ?_)
        refine j_aload_n C 0 0 dX11_rota_33 rfl rfl ?_
        refine y_getC C 10 12 fX11_rota_36 rfl rfl ft_10_6 sm_10_6 rfl hM0 dX11_rota_34 ?_
        refine j_aload_n C 0 0 dX11_rota_37 rfl rfl ?_
        refine y_getC C 10 12 fX11_rota_36 rfl rfl ft_10_6 sm_10_6 rfl hM0 dX11_rota_38 ?_
        refine y_getI C 8 _ _ fX11_rota_153 rfl rfl ft_8_4 sb_8_4 hM0 dX11_rota_41 (fun a110 ea110 la110 ua110 => ?_)
        refine j_callVv C (d := 5) (As := [.ref (ad v109), .ref (ad 12), .int (sI a110)]) (st := []) 88 (s_lt rfl rfl) (s_kc (c := 4) rfl rfl) (by decide) rfl (s1_X5_look hM0 hpr cv109 rfl a110 (by omega)) gX11_rota_X5_look rfl hdX5_look (by decide) (Nat.le_of_ble_eq_true rfl) dX11_rota_44 rfl (fun M113 h114 => ?_)
        have hM113 := h114
        refine j_aload_n C 0 0 dX11_rota_47 rfl rfl ?_
        refine y_getC C 10 88 fX11_rota_94 rfl rfl ft_10_14 sm_10_14 rfl hM113 dX11_rota_48 ?_
        refine j_callVi C (d := 1) (As := []) (st := []) 88 (s_lt rfl rfl) (s_kc (c := 4) rfl rfl) (by decide) rfl (s1_X5_takersNow hM113) gX11_rota_X5_takersNow rfl hdX5_takersNow (by decide) (Nat.le_of_ble_eq_true rfl) dX11_rota_51 rfl (fun r116 M117 h118 => ?_)
        obtain ⟨a120, rfl, rfl, h119⟩ := h118
        refine j_istore_n C 2 [(2, .int (sI a120)), (0, .ref (ad 0)), (1, .int (sI a1))] dX11_rota_54 rfl (by decide) rfl ?_
        refine y_iconst C dX11_rota_55 ?_
        refine j_istore_n C 3 [(3, .int (sI 0)), (2, .int (sI a120)), (0, .ref (ad 0)), (1, .int (sI a1))] dX11_rota_56 rfl (by decide) rfl ?_
        have L10293 : ∀ (n10291 : Nat), ∀ (a10294 : Int) (M10295 : mm_M), (0 ≤ a10294 ∧ a10294 ≤ 9 ∧ (9 - a10294) < (n10291 : Int)) → INV pr Kz M10295 → jj p l e (cn_R 6) s m args below meth c 0 0 Q 5 dC dI ad cA A M10295 57 [(0, .ref (ad 0)), (1, .int (sI a1)), (2, .int (sI a120)), (3, .int (sI a10294))] [] := by
          intro n10291
          induction n10291 with
          | zero =>
            intro a10294 M10295 h10296 hM10295
            exfalso; omega
          | succ n10291 ih10292 =>
            intro a10294 M10295 h10296 hM10295
            refine j_iload_n C 3 3 dX11_rota_57 rfl rfl ?_
            refine j_aload_n C 0 0 dX11_rota_58 rfl rfl ?_
            refine y_getC C 10 12 fX11_rota_36 rfl rfl ft_10_6 sm_10_6 rfl hM10295 dX11_rota_59 ?_
            refine y_getI C 8 _ _ fX11_rota_160 rfl rfl ft_8_0 sb_8_0 hM10295 dX11_rota_62 (fun a10297 ea10297 la10297 ua10297 => ?_)
            refine y_icmp_gt C 166 dX11_rota_65 (by decide) (by omega) (fun h10299 => ?_) (fun h10299 => ?_)
            · refine y_iconst C dX11_rota_166 ?_
              exact hret _ _ _ _ dX11_rota_167 ⟨(-1), rfl, hM10295, by omega⟩
            · refine y_iconst C dX11_rota_68 ?_
              refine j_istore C 4 [(4, .int (sI 0)), (0, .ref (ad 0)), (1, .int (sI a1)), (2, .int (sI a120)), (3, .int (sI a10294))] dX11_rota_69 (by decide) rfl ?_
              have L11274 : ∀ (n11272 : Nat), ∀ (a11275 : Int) (M11276 : mm_M), (0 ≤ a11275 ∧ a11275 ≤ 256 ∧ (256 - a11275) < (n11272 : Int)) → INV pr Kz M11276 → jj p l e (cn_R 6) s m args below meth c 0 0 Q 5 dC dI ad cA A M11276 71 [(0, .ref (ad 0)), (1, .int (sI a1)), (2, .int (sI a120)), (3, .int (sI a10294)), (4, .int (sI a11275))] [] := by
                intro n11272
                induction n11272 with
                | zero =>
                  intro a11275 M11276 h11277 hM11276
                  exfalso; omega
                | succ n11272 ih11273 =>
                  intro a11275 M11276 h11277 hM11276
                  refine j_iload C 4 dX11_rota_71 rfl ?_
                  refine j_aload_n C 0 0 dX11_rota_73 rfl rfl ?_
                  refine y_getC C 10 12 fX11_rota_36 rfl rfl ft_10_6 sm_10_6 rfl hM11276 dX11_rota_74 ?_
                  refine j_callVi C (d := 0) (As := []) (st := [.int (sI a11275)]) 12 (s_lt rfl rfl) (s_kc (c := 8) rfl rfl) (by decide) rfl (s1_X9_everyKind hM11276 rfl) gX11_rota_X9_everyKind rfl hdX9_everyKind (by decide) (Nat.le_of_ble_eq_true rfl) dX11_rota_77 rfl (fun r11278 M11279 h11280 => ?_)
                  obtain ⟨a11282, rfl, rfl, h11281⟩ := h11280
                  refine y_icmp_gt C 160 dX11_rota_80 (by decide) (by omega) (fun h11283 => ?_) (fun h11283 => ?_)
                  · refine y_iinc C 3 [(3, .int (sI (a10294 + 1))), (0, .ref (ad 0)), (1, .int (sI a1)), (2, .int (sI a120)), (4, .int (sI a11275))] dX11_rota_160 rfl (by decide) rfl ?_
                    refine j_goto C 57 dX11_rota_163 (by decide) ?_
                    refine j_lv [1, 2, 3, 0] rfl ?_; exact ih10292 (a10294 + 1) M11276 (by omega) hM11276
                  · refine j_aload_n C 0 0 dX11_rota_83 rfl rfl ?_
                    refine j_iload C 4 dX11_rota_84 rfl ?_
                    refine j_iload_n C 3 3 dX11_rota_86 rfl rfl ?_
                    refine j_callVi C (d := 1) (As := [.int (sI a11275), .int (sI a10294)]) (st := []) 0 (s_lt rfl rfl) (s_kc (c := 10) rfl rfl) (by decide) rfl (s1_X11_isHideable hM11276 a11275 (by omega) a10294 (by omega)) gX11_rota_X11_isHideable rfl hdX11_isHideable (by decide) (Nat.le_of_ble_eq_true rfl) dX11_rota_87 rfl (fun r11284 M11285 h11286 => ?_)
                    obtain ⟨a11288, rfl, rfl, h11287⟩ := h11286
                    refine y_if_eq C 154 dX11_rota_90 (by decide) (by omega) (fun h11289 => ?_) (fun h11289 => ?_)
                    · refine y_iinc C 4 [(4, .int (sI (a11275 + 1))), (0, .ref (ad 0)), (1, .int (sI a1)), (2, .int (sI a120)), (3, .int (sI a10294))] dX11_rota_154 rfl (by decide) rfl ?_
                      refine j_goto C 71 dX11_rota_157 (by decide) ?_
                      refine j_lv [1, 2, 3, 4, 0] rfl ?_; exact ih11273 (a11275 + 1) M11276 (by omega) hM11276
                    · refine j_aload_n C 0 0 dX11_rota_93 rfl rfl ?_
                      refine y_getC C 10 88 fX11_rota_94 rfl rfl ft_10_14 sm_10_14 rfl hM11276 dX11_rota_94 ?_
                      refine j_aload_n C 0 0 dX11_rota_97 rfl rfl ?_
                      refine y_getM C 10 6 fX11_rota_26 rfl rfl ft_10_4 sm_10_4 (by decide) hM11276 dX11_rota_98 (fun v11290 ev11290 cv11290 => ?_)
                      refine j_aload_n C 0 0 dX11_rota_101 rfl rfl ?_
                      refine y_getC C 10 12 fX11_rota_36 rfl rfl ft_10_6 sm_10_6 rfl hM11276 dX11_rota_102 ?_
                      refine j_aload_n C 0 0 dX11_rota_105 rfl rfl ?_
                      refine y_getC C 10 12 fX11_rota_36 rfl rfl ft_10_6 sm_10_6 rfl hM11276 dX11_rota_106 ?_
                      refine y_getI C 8 _ _ fX11_rota_153 rfl rfl ft_8_4 sb_8_4 hM11276 dX11_rota_109 (fun a11291 ea11291 la11291 ua11291 => ?_)
                      refine j_iload C 4 dX11_rota_112 rfl ?_
                      refine y_iorN C 8 255 dX11_rota_114 rfl (by decide) (by omega) (fun a11293 la11293 ua11293 => ?_)
                      refine j_callVv C (d := 5) (As := [.ref (ad v11290), .ref (ad 12), .int (sI a11293)]) (st := []) 88 (s_lt rfl rfl) (s_kc (c := 4) rfl rfl) (by decide) rfl (s1_X5_look hM11276 hpr cv11290 rfl a11293 (by omega)) gX11_rota_X5_look rfl hdX5_look (by decide) (Nat.le_of_ble_eq_true rfl) dX11_rota_115 rfl (fun M11295 h11296 => ?_)
                      have hM11295 := h11296
                      refine j_iload_n C 2 2 dX11_rota_118 rfl rfl ?_
                      refine j_aload_n C 0 0 dX11_rota_119 rfl rfl ?_
                      refine y_getC C 10 88 fX11_rota_94 rfl rfl ft_10_14 sm_10_14 rfl hM11295 dX11_rota_120 ?_
                      refine j_callVi C (d := 1) (As := []) (st := [.int (sI a120)]) 88 (s_lt rfl rfl) (s_kc (c := 4) rfl rfl) (by decide) rfl (s1_X5_takersNow hM11295) gX11_rota_X5_takersNow rfl hdX5_takersNow (by decide) (Nat.le_of_ble_eq_true rfl) dX11_rota_123 rfl (fun r11298 M11299 h11300 => ?_)
                      obtain ⟨a11302, rfl, rfl, h11301⟩ := h11300
                      refine y_iconst C dX11_rota_126 ?_
                      refine y_not C dX11_rota_127 ?_
                      refine y_iandL C dX11_rota_128 (by omega) (fun a11303 la11303 ua11303 => ?_)
                      refine y_if_ne C 154 dX11_rota_129 (by decide) (by omega) (fun h11304 => ?_) (fun h11304 => ?_)
                      · refine y_iinc C 4 [(4, .int (sI (a11275 + 1))), (0, .ref (ad 0)), (1, .int (sI a1)), (2, .int (sI a120)), (3, .int (sI a10294))] dX11_rota_154 rfl (by decide) rfl ?_
                        refine j_goto C 71 dX11_rota_157 (by decide) ?_
                        refine j_lv [1, 2, 3, 4, 0] rfl ?_; exact ih11273 (a11275 + 1) M11295 (by omega) hM11295
                      · refine j_aload_n C 0 0 dX11_rota_132 rfl rfl ?_
                        refine y_getC C 10 88 fX11_rota_94 rfl rfl ft_10_14 sm_10_14 rfl hM11295 dX11_rota_133 ?_
                        refine j_callVi C (d := 3) (As := []) (st := []) 88 (s_lt rfl rfl) (s_kc (c := 4) rfl rfl) (by decide) rfl (s1_X5_shortest hM11295 hpr) gX11_rota_X5_shortest rfl hdX5_shortest (by decide) (Nat.le_of_ble_eq_true rfl) dX11_rota_136 rfl (fun r11305 M11306 h11307 => ?_)
                        obtain ⟨a11309, rfl, hM11306, h11308⟩ := h11307
                        refine y_iconst C dX11_rota_139 ?_
                        refine y_icmp_ne C 154 dX11_rota_140 (by decide) (by omega) (fun h11310 => ?_) (fun h11310 => ?_)
                        · refine y_iinc C 4 [(4, .int (sI (a11275 + 1))), (0, .ref (ad 0)), (1, .int (sI a1)), (2, .int (sI a120)), (3, .int (sI a10294))] dX11_rota_154 rfl (by decide) rfl ?_
                          refine j_goto C 71 dX11_rota_157 (by decide) ?_
                          refine j_lv [1, 2, 3, 4, 0] rfl ?_; exact ih11273 (a11275 + 1) M11306 (by omega) hM11306
                        · refine j_iload_n C 1 1 dX11_rota_143 rfl rfl ?_
                          refine y_if_ne C 151 dX11_rota_144 (by decide) (by omega) (fun h11311 => ?_) (fun h11311 => ?_)
                          · refine j_iload C 4 dX11_rota_151 rfl ?_
                            exact hret _ _ _ _ dX11_rota_153 ⟨a11275, rfl, hM11306, by omega⟩
                          · refine j_iload_n C 3 3 dX11_rota_147 rfl rfl ?_
                            refine j_goto C 153 dX11_rota_148 (by decide) ?_
                            exact hret _ _ _ _ dX11_rota_153 ⟨a10294, rfl, hM11306, by omega⟩
              refine j_lv [1, 2, 3, 4, 0] rfl ?_; exact L11274 2010 0 M10295 (by omega) hM10295
        refine j_lv [2, 3, 1, 0] rfl ?_; exact L10293 2010 0 M113 (by omega) hM113
      · refine y_bipush C dX11_rota_22 rfl ?_
        exact hret _ _ _ _ dX11_rota_24 ⟨(-5), rfl, hM0, by omega⟩
    · refine y_bipush C dX11_rota_9 rfl ?_
      exact hret _ _ _ _ dX11_rota_11 ⟨(-2), rfl, hM0, by omega⟩
set_option maxHeartbeats 4000000 in
theorem s1_X11_earns {l : Launch} {dC : Nat → ClassId} {dI : Nat → Nat → Nat} {ad : Nat → Nat} {cA : Nat → ClassId} {pr : Nat → Nat → Bool} {Kz : mm_M} {M0 : mm_M} (hM0 : INV pr Kz M0) (hpr : PX pr) (a1 : Int) (ha1 : -2147483648 ≤ a1 ∧ a1 ≤ 2147483647) (a2 : Int) (ha2 : -2147483648 ≤ a2 ∧ a2 ≤ 2147483647) : Cj l 6 yX11_earns wsX11_earns dC dI ad cA [.ref (ad 0), .int (sI a1), .int (sI a2)] M0 (fun r M' => ∃ a : Int, r = sJ a ∧ INV pr Kz M' ∧ (-9223372036854775808) ≤ a ∧ a ≤ 9223372036854775807) := by
  refine cj_of (cc := cX11_earns) (maxL := 4) (lv := [(0, .ref (ad 0)), (1, .int (sI a1)), (2, .int (sI a2))]) (by decide) rfl (Nat.le_of_ble_eq_true rfl) rfl ?_
  intro p e s m args below meth c A Q C hret
  refine j_iload_n C 2 2 dX11_earns_0 rfl rfl ?_
  refine j_iload_n C 1 1 dX11_earns_1 rfl rfl ?_
  refine y_bipush C dX11_earns_2 rfl ?_
  refine j_callSi C (d := 0) (As := [.int (sI a2), .int (sI a1), .int (sI 8)]) (st := []) (s1_X11_chanceRefusal hM0 a2 (by omega) a1 (by omega) 8 (by omega)) gX11_earns_X11_chanceRefusal rfl hdX11_chanceRefusals (by decide) (Nat.le_of_ble_eq_true rfl) dX11_earns_4 rfl (fun r101 M102 h103 => ?_)
  obtain ⟨a105, rfl, rfl, h104⟩ := h103
  refine j_istore_n C 3 [(3, .int (sI a105)), (0, .ref (ad 0)), (1, .int (sI a1)), (2, .int (sI a2))] dX11_earns_7 rfl (by decide) rfl ?_
  refine j_iload_n C 0 3 dX11_earns_8 rfl rfl ?_
  refine y_if_eq C 15 dX11_earns_9 (by decide) (by omega) (fun h106 => ?_) (fun h106 => ?_)
  · refine j_aload_n C 1 0 dX11_earns_15 rfl rfl ?_
    refine y_getC C 10 88 fX11_earns_94 rfl rfl ft_10_14 sm_10_14 rfl hM0 dX11_earns_16 ?_
    refine j_aload_n C 1 0 dX11_earns_19 rfl rfl ?_
    refine y_getM C 10 6 fX11_earns_26 rfl rfl ft_10_4 sm_10_4 (by decide) hM0 dX11_earns_20 (fun v107 ev107 cv107 => ?_)
    refine j_aload_n C 1 0 dX11_earns_23 rfl rfl ?_
    refine y_getC C 10 12 fX11_earns_36 rfl rfl ft_10_6 sm_10_6 rfl hM0 dX11_earns_24 ?_
    refine j_aload_n C 1 0 dX11_earns_27 rfl rfl ?_
    refine y_getC C 10 12 fX11_earns_36 rfl rfl ft_10_6 sm_10_6 rfl hM0 dX11_earns_28 ?_
    refine y_getI C 8 _ _ fX11_earns_153 rfl rfl ft_8_4 sb_8_4 hM0 dX11_earns_31 (fun a108 ea108 la108 ua108 => ?_)
    refine j_callVv C (d := 5) (As := [.ref (ad v107), .ref (ad 12), .int (sI a108)]) (st := []) 88 (s_lt rfl rfl) (s_kc (c := 4) rfl rfl) (by decide) rfl (s1_X5_look hM0 hpr cv107 rfl a108 (by omega)) gX11_earns_X5_look rfl hdX5_look (by decide) (Nat.le_of_ble_eq_true rfl) dX11_earns_34 rfl (fun M111 h112 => ?_)
    have hM111 := h112
    refine j_aload_n C 1 0 dX11_earns_37 rfl rfl ?_
    refine y_getC C 10 88 fX11_earns_94 rfl rfl ft_10_14 sm_10_14 rfl hM111 dX11_earns_38 ?_
    refine j_iload_n C 2 1 dX11_earns_41 rfl rfl ?_
    refine j_callVv C (d := 3) (As := [.int (sI a1)]) (st := []) 88 (s_lt rfl rfl) (s_kc (c := 4) rfl rfl) (by decide) rfl (s1_X5_passDays hM111 hpr a1 (by omega)) gX11_earns_X5_passDays rfl hdX5_passDays (by decide) (Nat.le_of_ble_eq_true rfl) dX11_earns_42 rfl (fun M115 h116 => ?_)
    have hM115 := h116
    refine j_aload_n C 1 0 dX11_earns_45 rfl rfl ?_
    refine y_getC C 10 88 fX11_earns_94 rfl rfl ft_10_14 sm_10_14 rfl hM115 dX11_earns_46 ?_
    refine y_getJ C 4 fX11_earns_341 rfl rfl ft_4_8 dX11_earns_49 (fun a118 ea118 la118 ua118 => ?_)
    refine j_aload_n C 1 0 dX11_earns_52 rfl rfl ?_
    refine y_getC C 10 88 fX11_earns_94 rfl rfl ft_10_14 sm_10_14 rfl hM115 dX11_earns_53 ?_
    refine y_getJ C 4 fX11_earns_296 rfl rfl ft_4_7 dX11_earns_56 (fun a119 ea119 la119 ua119 => ?_)
    refine j_iload_n C 3 2 dX11_earns_59 rfl rfl ?_
    refine j_callSj C (d := 1) (As := [.long (sJ a118), .long (sJ a119), .int (sI a2)]) (st := []) (s1_X11_inLowestTerms hM115 a118 (by omega) a119 (by omega) a2 (by omega)) gX11_earns_X11_inLowestTerms rfl hdX11_inLowestTermss (by decide) (Nat.le_of_ble_eq_true rfl) dX11_earns_60 rfl (fun r120 M121 h122 => ?_)
    obtain ⟨a124, rfl, rfl, h123⟩ := h122
    exact hret _ _ _ _ dX11_earns_63 ⟨a124, rfl, hM115, by omega⟩
  · refine j_iload_n C 0 3 dX11_earns_12 rfl rfl ?_
    refine y_i2l C dX11_earns_13 (by omega) ?_
    exact hret _ _ _ _ dX11_earns_14 ⟨a105, rfl, hM0, by omega⟩
set_option maxHeartbeats 4000000 in
theorem s1_X11_bestPrice {l : Launch} {dC : Nat → ClassId} {dI : Nat → Nat → Nat} {ad : Nat → Nat} {cA : Nat → ClassId} {pr : Nat → Nat → Bool} {Kz : mm_M} {M0 : mm_M} (hM0 : INV pr Kz M0) (hpr : PX pr) (hq8_0 : ∀ i, s_c i = 8 → pr i 0 = false) (a1 : Int) (ha1 : -2147483648 ≤ a1 ∧ a1 ≤ 2147483647) (a2 : Int) (ha2 : -2147483648 ≤ a2 ∧ a2 ≤ 2147483647) : Ci l 6 yX11_bestPrice wsX11_bestPrice dC dI ad cA [.ref (ad 0), .int (sI a1), .int (sI a2)] M0 (fun r M' => ∃ a : Int, r = sI a ∧ INV pr Kz M' ∧ (-5) ≤ a ∧ a ≤ 99) := by
  refine ci_of (cc := cX11_bestPrice) (maxL := 7) (ty := .int) (lv := [(0, .ref (ad 0)), (1, .int (sI a1)), (2, .int (sI a2))]) (by decide) rfl (fun r M' hp => rfl) (Nat.le_of_ble_eq_true rfl) rfl ?_
  intro p e s m args below meth c A Q C hret
  refine j_aload_n C 0 0 dX11_bestPrice_0 rfl rfl ?_
  refine j_iload_n C 1 1 dX11_bestPrice_1 rfl rfl ?_
  refine j_callVi C (d := 0) (As := [.int (sI a1)]) (st := []) 0 (s_lt rfl rfl) (s_kc (c := 10) rfl rfl) (by decide) rfl (s1_X11_isKind hM0 a1 (by omega)) gX11_bestPrice_X11_isKind rfl hdX11_isKind (by decide) (Nat.le_of_ble_eq_true rfl) dX11_bestPrice_2 rfl (fun r101 M102 h103 => ?_)
  obtain ⟨a105, rfl, rfl, h104⟩ := h103
  refine y_if_ne C 11 dX11_bestPrice_5 (by decide) (by omega) (fun h106 => ?_) (fun h106 => ?_)
  · refine j_iload_n C 2 2 dX11_bestPrice_11 rfl rfl ?_
    refine y_iconst C dX11_bestPrice_12 ?_
    refine y_icmp_lt C 21 dX11_bestPrice_13 (by decide) (by omega) (fun h107 => ?_) (fun h107 => ?_)
    · refine y_bipush C dX11_bestPrice_21 rfl ?_
      exact hret _ _ _ _ dX11_bestPrice_23 ⟨(-3), rfl, hM0, by omega⟩
    · refine j_iload_n C 2 2 dX11_bestPrice_16 rfl rfl ?_
      refine y_iconst C dX11_bestPrice_17 ?_
      refine y_icmp_le C 24 dX11_bestPrice_18 (by decide) (by omega) (fun h108 => ?_) (fun h108 => ?_)
      · refine j_aload_n C 0 0 dX11_bestPrice_24 rfl rfl ?_
        refine y_getC C 10 12 fX11_bestPrice_36 rfl rfl ft_10_6 sm_10_6 rfl hM0 dX11_bestPrice_25 ?_
        refine j_callVi C (d := 1) (As := []) (st := []) 12 (s_lt rfl rfl) (s_kc (c := 8) rfl rfl) (by decide) rfl (s1_X9_isShut hM0 rfl) gX11_bestPrice_X9_isShut rfl hdX9_isShut (by decide) (Nat.le_of_ble_eq_true rfl) dX11_bestPrice_28 rfl (fun r109 M110 h111 => ?_)
        obtain ⟨a113, rfl, rfl, h112⟩ := h111
        refine y_if_eq C 37 dX11_bestPrice_31 (by decide) (by omega) (fun h114 => ?_) (fun h114 => ?_)
        · refine j_aload_n C 0 0 dX11_bestPrice_37 rfl rfl ?_
          refine y_getC C 10 15 fX11_bestPrice_40 rfl rfl ft_10_7 sm_10_7 rfl hM0 dX11_bestPrice_38 ?_
          refine j_aload_n C 0 0 dX11_bestPrice_41 rfl rfl ?_
          refine y_getC C 10 12 fX11_bestPrice_36 rfl rfl ft_10_6 sm_10_6 rfl hM0 dX11_bestPrice_42 ?_
          refine j_callVv C (d := 0) (As := [.ref (ad 12)]) (st := []) 15 (s_lt rfl rfl) (s_kc (c := 8) rfl rfl) (by decide) rfl (s1_X9_copyFrom hM0 hpr hq8_0 rfl rfl) gX11_bestPrice_X9_copyFrom rfl hdX9_copyFrom (by decide) (Nat.le_of_ble_eq_true rfl) dX11_bestPrice_45 rfl (fun M116 h117 => ?_)
          have hM116 := h117
          refine y_iconst C dX11_bestPrice_48 ?_
          refine j_istore_n C 3 [(3, .int (sI 1)), (0, .ref (ad 0)), (1, .int (sI a1)), (2, .int (sI a2))] dX11_bestPrice_49 rfl (by decide) rfl ?_
          refine y_ldc2 C (-1) dX11_bestPrice_50 kX11_bestPrice_219 rfl ?_
          refine j_lstore C 4 [(4, .long (sJ (-1))), (3, .int (sI 1)), (0, .ref (ad 0)), (1, .int (sI a1)), (2, .int (sI a2))] dX11_bestPrice_53 (by decide) rfl ?_
          refine y_iconst C dX11_bestPrice_55 ?_
          refine j_istore C 6 [(6, .int (sI 1)), (4, .long (sJ (-1))), (3, .int (sI 1)), (0, .ref (ad 0)), (1, .int (sI a1)), (2, .int (sI a2))] dX11_bestPrice_56 (by decide) rfl ?_
          have L649 : ∀ (n647 : Nat), ∀ (a650 : Int) (a651 : Int) (a652 : Int) (M653 : mm_M), (1 ≤ a650 ∧ a650 ≤ 99 ∧ (-9223372036854775808) ≤ a651 ∧ a651 ≤ 9223372036854775807 ∧ 1 ≤ a652 ∧ a652 ≤ 100 ∧ (100 - a652) < (n647 : Int)) → INV pr Kz M653 → jj p l e (cn_R 6) s m args below meth c 0 0 Q 7 dC dI ad cA A M653 58 [(0, .ref (ad 0)), (1, .int (sI a1)), (2, .int (sI a2)), (3, .int (sI a650)), (4, .long (sJ a651)), (6, .int (sI a652))] [] := by
            intro n647
            induction n647 with
            | zero =>
              intro a650 a651 a652 M653 h654 hM653
              exfalso; omega
            | succ n647 ih648 =>
              intro a650 a651 a652 M653 h654 hM653
              refine j_iload C 5 dX11_bestPrice_58 rfl ?_
              refine y_bipush C dX11_bestPrice_60 rfl ?_
              refine y_icmp_gt C 146 dX11_bestPrice_62 (by decide) (by omega) (fun h655 => ?_) (fun h655 => ?_)
              · refine j_iload_n C 3 3 dX11_bestPrice_146 rfl rfl ?_
                exact hret _ _ _ _ dX11_bestPrice_147 ⟨a650, rfl, hM653, by omega⟩
              · refine j_aload_n C 0 0 dX11_bestPrice_65 rfl rfl ?_
                refine y_getC C 10 15 fX11_bestPrice_40 rfl rfl ft_10_7 sm_10_7 rfl hM653 dX11_bestPrice_66 ?_
                refine y_getC C 8 16 fX11_bestPrice_144 rfl rfl ft_8_1 sm_8_1 rfl hM653 dX11_bestPrice_69 ?_
                refine j_iload_n C 1 1 dX11_bestPrice_72 rfl rfl ?_
                refine j_iload C 5 dX11_bestPrice_73 rfl ?_
                refine y_iastF C 25 8 rfl rfl rfl ak_25 an_25 rfl (sb_25 _) hM653 (PX.w hpr rfl rfl) dX11_bestPrice_75 (by omega) (fun M656 eM656 hM656 => ?_)
                refine j_aload_n C 0 0 dX11_bestPrice_76 rfl rfl ?_
                refine y_getC C 10 88 fX11_bestPrice_94 rfl rfl ft_10_14 sm_10_14 rfl hM656 dX11_bestPrice_77 ?_
                refine j_aload_n C 0 0 dX11_bestPrice_80 rfl rfl ?_
                refine y_getM C 10 6 fX11_bestPrice_26 rfl rfl ft_10_4 sm_10_4 (by decide) hM656 dX11_bestPrice_81 (fun v657 ev657 cv657 => ?_)
                refine j_aload_n C 0 0 dX11_bestPrice_84 rfl rfl ?_
                refine y_getC C 10 15 fX11_bestPrice_40 rfl rfl ft_10_7 sm_10_7 rfl hM656 dX11_bestPrice_85 ?_
                refine j_aload_n C 0 0 dX11_bestPrice_88 rfl rfl ?_
                refine y_getC C 10 15 fX11_bestPrice_40 rfl rfl ft_10_7 sm_10_7 rfl hM656 dX11_bestPrice_89 ?_
                refine y_getI C 8 _ _ fX11_bestPrice_153 rfl rfl ft_8_4 sb_8_4 hM656 dX11_bestPrice_92 (fun a658 ea658 la658 ua658 => ?_)
                refine j_callVv C (d := 5) (As := [.ref (ad v657), .ref (ad 15), .int (sI a658)]) (st := []) 88 (s_lt rfl rfl) (s_kc (c := 4) rfl rfl) (by decide) rfl (s1_X5_look hM656 hpr cv657 rfl a658 (by omega)) gX11_bestPrice_X5_look rfl hdX5_look (by decide) (Nat.le_of_ble_eq_true rfl) dX11_bestPrice_95 rfl (fun M661 h662 => ?_)
                have hM661 := h662
                refine j_aload_n C 0 0 dX11_bestPrice_98 rfl rfl ?_
                refine y_getC C 10 88 fX11_bestPrice_94 rfl rfl ft_10_14 sm_10_14 rfl hM661 dX11_bestPrice_99 ?_
                refine j_iload_n C 2 2 dX11_bestPrice_102 rfl rfl ?_
                refine j_callVv C (d := 3) (As := [.int (sI a2)]) (st := []) 88 (s_lt rfl rfl) (s_kc (c := 4) rfl rfl) (by decide) rfl (s1_X5_passDays hM661 hpr a2 (by omega)) gX11_bestPrice_X5_passDays rfl hdX5_passDays (by decide) (Nat.le_of_ble_eq_true rfl) dX11_bestPrice_103 rfl (fun M665 h666 => ?_)
                have hM665 := h666
                refine j_aload_n C 0 0 dX11_bestPrice_106 rfl rfl ?_
                refine y_getC C 10 88 fX11_bestPrice_94 rfl rfl ft_10_14 sm_10_14 rfl hM665 dX11_bestPrice_107 ?_
                refine y_getJ C 4 fX11_bestPrice_341 rfl rfl ft_4_8 dX11_bestPrice_110 (fun a668 ea668 la668 ua668 => ?_)
                refine j_lload C 4 dX11_bestPrice_113 rfl ?_
                have J671 : ∀ (a670 : Int), (1 ≤ a670 ∧ a670 ≤ 99) → jj p l e (cn_R 6) s m args below meth c 0 0 Q 7 dC dI ad cA A M665 125 [(0, .ref (ad 0)), (1, .int (sI a1)), (2, .int (sI a2)), (4, .long (sJ a651)), (6, .int (sI a652))] [.int (sI a670)] := by
                  intro a670 h672
                  refine j_istore_n C 3 [(3, .int (sI a670)), (0, .ref (ad 0)), (1, .int (sI a1)), (2, .int (sI a2)), (4, .long (sJ a651)), (6, .int (sI a652))] dX11_bestPrice_125 rfl (by decide) rfl ?_
                  refine j_lload C 4 dX11_bestPrice_126 rfl ?_
                  refine j_aload_n C 1 0 dX11_bestPrice_128 rfl rfl ?_
                  refine y_getC C 10 88 fX11_bestPrice_94 rfl rfl ft_10_14 sm_10_14 rfl hM665 dX11_bestPrice_129 ?_
                  refine y_getJ C 4 fX11_bestPrice_341 rfl rfl ft_4_8 dX11_bestPrice_132 (fun a673 ea673 la673 ua673 => ?_)
                  refine y_mmaxl C wX11_bestPrice_330_0 wX11_bestPrice_330_1 wX11_bestPrice_330_2 wX11_bestPrice_330_3 (by decide) (Nat.le_of_ble_eq_true rfl) dX11_bestPrice_135 (fun a674 la674 ua674 => ?_)
                  refine j_lstore C 4 [(4, .long (sJ a674)), (3, .int (sI a670)), (0, .ref (ad 0)), (1, .int (sI a1)), (2, .int (sI a2)), (6, .int (sI a652))] dX11_bestPrice_138 (by decide) rfl ?_
                  refine y_iinc C 5 [(6, .int (sI (a652 + 1))), (4, .long (sJ a674)), (3, .int (sI a670)), (0, .ref (ad 0)), (1, .int (sI a1)), (2, .int (sI a2))] dX11_bestPrice_140 rfl (by decide) rfl ?_
                  refine j_goto C 58 dX11_bestPrice_143 (by decide) ?_
                  refine j_lv [3, 4, 5, 2, 1, 0] rfl ?_; exact ih648 a670 a674 (a652 + 1) M665 (by omega) hM665
                refine y_lcmp_le C 124 dX11_bestPrice_115 dX11_bestPrice_116 (by decide) (by omega) (fun h669 => ?_) (fun h669 => ?_)
                · refine j_iload_n C 3 3 dX11_bestPrice_124 rfl rfl ?_
                  refine j_lv [0, 1, 2, 4, 5] rfl ?_; exact J671 a650 (by omega)
                · refine j_iload C 5 dX11_bestPrice_119 rfl ?_
                  refine j_goto C 125 dX11_bestPrice_121 (by decide) ?_
                  refine j_lv [0, 1, 2, 4, 5] rfl ?_; exact J671 a652 (by omega)
          refine j_lv [3, 4, 5, 2, 1, 0] rfl ?_; exact L649 2010 1 (-1) 1 M116 (by omega) hM116
        · refine y_bipush C dX11_bestPrice_34 rfl ?_
          exact hret _ _ _ _ dX11_bestPrice_36 ⟨(-5), rfl, hM0, by omega⟩
      · refine y_bipush C dX11_bestPrice_21 rfl ?_
        exact hret _ _ _ _ dX11_bestPrice_23 ⟨(-3), rfl, hM0, by omega⟩
  · refine y_bipush C dX11_bestPrice_8 rfl ?_
    exact hret _ _ _ _ dX11_bestPrice_10 ⟨(-2), rfl, hM0, by omega⟩
set_option maxHeartbeats 4000000 in
theorem s1_X11_isSight {l : Launch} {dC : Nat → ClassId} {dI : Nat → Nat → Nat} {ad : Nat → Nat} {cA : Nat → ClassId} {pr : Nat → Nat → Bool} {Kz : mm_M} {M0 : mm_M} (hM0 : INV pr Kz M0) (a1 : Int) (ha1 : -9223372036854775808 ≤ a1 ∧ a1 ≤ 9223372036854775807) : Ci l 0 yX11_isSight wsX11_isSight dC dI ad cA [.ref (ad 0), .long (sJ a1)] M0 (fun r M' => ∃ a : Int, r = sI a ∧ M0 = M' ∧ 0 ≤ a ∧ a ≤ 1 ∧ ((a1 < 0 ∧ a = 0) ∨ (0 ≤ a1 ∧ 0 ≤ (a1 / 10) ∧ a = 0) ∨ (0 ≤ a1 ∧ (a1 / 10) < 6 ∧ a = 1) ∨ (0 ≤ (M0.1 12 0).toInt ∧ (M0.1 12 0).toInt ≤ 8 ∧ 0 ≤ a1 ∧ (a1 / 10) < 6 ∧ (M0.1 12 0).toInt ≤ 9223372036854775807 ∧ a = 0) ∨ (0 ≤ (M0.1 12 0).toInt ∧ (M0.1 12 0).toInt ≤ 8 ∧ 0 ≤ a1 ∧ (a1 / 10) < 6 ∧ (-9223372036854775808) < (M0.1 12 0).toInt ∧ a = 1))) := by
  refine ci_of (cc := cX11_isSight) (maxL := 5) (ty := .boolean) (lv := [(0, .ref (ad 0)), (1, .long (sJ a1))]) (by decide) rfl (fun r M' hp => by obtain ⟨a, rfl, -, h⟩ := hp; rcases (show a = 0 ∨ a = 1 by omega) with rfl | rfl <;> rfl) (Nat.le_of_ble_eq_true rfl) rfl ?_
  intro p e s m args below meth c A Q C hret
  refine j_lload_n C 1 1 dX11_isSight_0 rfl rfl ?_
  refine y_ldc2 C 10 dX11_isSight_1 kX11_isSight_318 rfl ?_
  refine y_lrem0 C dX11_isSight_4 (by omega) (fun a101 la101 ua101 => ?_)
  refine j_lstore_n C 3 [(3, .long (sJ a101)), (0, .ref (ad 0)), (1, .long (sJ a1))] dX11_isSight_5 rfl (by decide) rfl ?_
  refine j_lload_n C 2 1 dX11_isSight_6 rfl rfl ?_
  refine y_lconst C 0 dX11_isSight_7 rfl ?_
  refine y_lcmp_lt C 54 dX11_isSight_8 dX11_isSight_9 (by decide) (by omega) (fun h102 => ?_) (fun h102 => ?_)
  · refine y_iconst C dX11_isSight_54 ?_
    exact hret _ _ _ _ dX11_isSight_55 ⟨0, rfl, rfl, by omega⟩
  · refine j_lload_n C 2 1 dX11_isSight_12 rfl rfl ?_
    refine y_ldc2 C 10 dX11_isSight_13 kX11_isSight_318 rfl ?_
    refine y_ldiv C dX11_isSight_16 (by omega) ?_
    refine j_aload_n C 1 0 dX11_isSight_17 rfl rfl ?_
    refine y_getM C 10 6 fX11_isSight_26 rfl rfl ft_10_4 sm_10_4 (by decide) hM0 dX11_isSight_18 (fun v103 ev103 cv103 => ?_)
    refine y_getI C 6 _ _ fX11_isSight_163 cv103 rfl ft_6_0 sb_6_0 hM0 dX11_isSight_21 (fun a104 ea104 la104 ua104 => ?_)
    refine y_i2l C dX11_isSight_24 (by omega) ?_
    refine y_lcmp_ge C 54 dX11_isSight_25 dX11_isSight_26 (by decide) (by omega) (fun h106 => ?_) (fun h106 => ?_)
    · refine y_iconst C dX11_isSight_54 ?_
      exact hret _ _ _ _ dX11_isSight_55 ⟨0, rfl, rfl, by omega⟩
    · refine j_lload_n C 0 3 dX11_isSight_29 rfl rfl ?_
      refine y_ldc2 C 9 dX11_isSight_30 kX11_isSight_367 rfl ?_
      refine y_lcmp_eq C 50 dX11_isSight_33 dX11_isSight_34 (by decide) (by omega) (fun h107 => ?_) (fun h107 => ?_)
      · refine y_iconst C dX11_isSight_50 ?_
        refine j_goto C 55 dX11_isSight_51 (by decide) ?_
        exact hret _ _ _ _ dX11_isSight_55 ⟨1, rfl, rfl, by omega⟩
      · refine j_lload_n C 0 3 dX11_isSight_37 rfl rfl ?_
        refine j_aload_n C 1 0 dX11_isSight_38 rfl rfl ?_
        refine y_getC C 10 12 fX11_isSight_36 rfl rfl ft_10_6 sm_10_6 rfl hM0 dX11_isSight_39 ?_
        refine y_getI C 8 _ _ fX11_isSight_160 rfl rfl ft_8_0 sb_8_0 hM0 dX11_isSight_42 (fun a108 ea108 la108 ua108 => ?_)
        refine y_i2l C dX11_isSight_45 (by omega) ?_
        refine y_lcmp_ge C 54 dX11_isSight_46 dX11_isSight_47 (by decide) (by omega) (fun h110 => ?_) (fun h110 => ?_)
        · refine y_iconst C dX11_isSight_54 ?_
          exact hret _ _ _ _ dX11_isSight_55 ⟨0, rfl, rfl, by omega⟩
        · refine y_iconst C dX11_isSight_50 ?_
          refine j_goto C 55 dX11_isSight_51 (by decide) ?_
          exact hret _ _ _ _ dX11_isSight_55 ⟨1, rfl, rfl, by omega⟩
set_option maxHeartbeats 4000000 in
theorem s1_X11_seenRefusal {l : Launch} {dC : Nat → ClassId} {dI : Nat → Nat → Nat} {ad : Nat → Nat} {cA : Nat → ClassId} {pr : Nat → Nat → Bool} {Kz : mm_M} {M0 : mm_M} (hM0 : INV pr Kz M0) (a1 : Int) (ha1 : -2147483648 ≤ a1 ∧ a1 ≤ 2147483647) : Ci l 2 yX11_seenRefusal wsX11_seenRefusal dC dI ad cA [.ref (ad 0), .int (sI a1)] M0 (fun r M' => ∃ a : Int, r = sI a ∧ M0 = M' ∧ (-6) ≤ a ∧ a ≤ 0 ∧ (¬ a = 0 ∨ (0 ≤ a1 ∧ a1 < 4))) := by
  refine ci_of (cc := cX11_seenRefusal) (maxL := 5) (ty := .int) (lv := [(0, .ref (ad 0)), (1, .int (sI a1))]) (by decide) rfl (fun r M' hp => rfl) (Nat.le_of_ble_eq_true rfl) rfl ?_
  intro p e s m args below meth c A Q C hret
  refine j_aload_n C 0 0 dX11_seenRefusal_0 rfl rfl ?_
  refine j_iload_n C 1 1 dX11_seenRefusal_1 rfl rfl ?_
  refine j_callVi C (d := 1) (As := [.int (sI a1)]) (st := []) 0 (s_lt rfl rfl) (s_kc (c := 10) rfl rfl) (by decide) rfl (s1_X11_trayRefusal hM0 a1 (by omega)) gX11_seenRefusal_X11_trayRefusal rfl hdX11_trayRefusal (by decide) (Nat.le_of_ble_eq_true rfl) dX11_seenRefusal_2 rfl (fun r101 M102 h103 => ?_)
  obtain ⟨a105, rfl, rfl, h104⟩ := h103
  refine j_istore_n C 2 [(2, .int (sI a105)), (0, .ref (ad 0)), (1, .int (sI a1))] dX11_seenRefusal_5 rfl (by decide) rfl ?_
  refine j_iload_n C 0 2 dX11_seenRefusal_6 rfl rfl ?_
  refine y_if_eq C 12 dX11_seenRefusal_7 (by decide) (by omega) (fun h106 => ?_) (fun h106 => ?_)
  · refine j_aload_n C 1 0 dX11_seenRefusal_12 rfl rfl ?_
    refine y_getC C 10 50 fX11_seenRefusal_52 rfl rfl ft_10_9 sm_10_9 rfl hM0 dX11_seenRefusal_13 ?_
    refine j_iload_n C 2 1 dX11_seenRefusal_16 rfl rfl ?_
    refine y_aald C 28 4 9 rfl rfl rfl rfl an_28 rfl sma_28 sta_28 (by decide) hM0 dX11_seenRefusal_17 (by omega) (fun v107 cv107 => ?_)
    refine j_astore_n C 3 [(3, .ref (ad v107)), (2, .int (sI a105)), (0, .ref (ad 0)), (1, .int (sI a1))] dX11_seenRefusal_18 rfl (by decide) rfl ?_
    refine j_aload_n C 0 3 dX11_seenRefusal_19 rfl rfl ?_
    refine j_callVi C (d := 1) (As := []) (st := []) v107 (s_lt cv107 rfl) (s_kc (c := 9) cv107 rfl) (by decide) rfl (s1_X10_size hM0 cv107) gX11_seenRefusal_X10_size rfl hdX10_size (by decide) (Nat.le_of_ble_eq_true rfl) dX11_seenRefusal_20 rfl (fun r108 M109 h110 => ?_)
    obtain ⟨a112, rfl, rfl, h111⟩ := h110
    refine y_iconst C dX11_seenRefusal_23 ?_
    refine y_icmp_lt C 36 dX11_seenRefusal_24 (by decide) (by omega) (fun h113 => ?_) (fun h113 => ?_)
    · refine y_bipush C dX11_seenRefusal_36 rfl ?_
      exact hret _ _ _ _ dX11_seenRefusal_38 ⟨(-4), rfl, rfl, by omega⟩
    · refine j_aload_n C 0 3 dX11_seenRefusal_27 rfl rfl ?_
      refine j_callVi C (d := 1) (As := []) (st := []) v107 (s_lt cv107 rfl) (s_kc (c := 9) cv107 rfl) (by decide) rfl (s1_X10_size hM0 cv107) gX11_seenRefusal_X10_size rfl hdX10_size (by decide) (Nat.le_of_ble_eq_true rfl) dX11_seenRefusal_28 rfl (fun r114 M115 h116 => ?_)
      obtain ⟨a118, rfl, rfl, h117⟩ := h116
      refine y_bipush C dX11_seenRefusal_31 rfl ?_
      refine y_icmp_le C 39 dX11_seenRefusal_33 (by decide) (by omega) (fun h119 => ?_) (fun h119 => ?_)
      · refine y_iconst C dX11_seenRefusal_39 ?_
        refine j_istore C 4 [(4, .int (sI 0)), (3, .ref (ad v107)), (2, .int (sI a105)), (0, .ref (ad 0)), (1, .int (sI a1))] dX11_seenRefusal_40 (by decide) rfl ?_
        have L428 : ∀ (n426 : Nat), ∀ (a429 : Int), (0 ≤ a429 ∧ a429 ≤ 40 ∧ (40 - a429) < (n426 : Int)) → jj p l e (cn_R 2) s m args below meth c 0 0 Q 5 dC dI ad cA A M0 42 [(0, .ref (ad 0)), (3, .ref (ad v107)), (4, .int (sI a429))] [] := by
          intro n426
          induction n426 with
          | zero =>
            intro a429 h430
            exfalso; omega
          | succ n426 ih427 =>
            intro a429 h430
            refine j_iload C 2 dX11_seenRefusal_42 rfl ?_
            refine j_aload_n C 1 3 dX11_seenRefusal_44 rfl rfl ?_
            refine j_callVi C (d := 1) (As := []) (st := [.int (sI a429)]) v107 (s_lt cv107 rfl) (s_kc (c := 9) cv107 rfl) (by decide) rfl (s1_X10_size hM0 cv107) gX11_seenRefusal_X10_size rfl hdX10_size (by decide) (Nat.le_of_ble_eq_true rfl) dX11_seenRefusal_45 rfl (fun r431 M432 h433 => ?_)
            obtain ⟨a435, rfl, rfl, h434⟩ := h433
            refine y_icmp_ge C 73 dX11_seenRefusal_48 (by decide) (by omega) (fun h436 => ?_) (fun h436 => ?_)
            · refine y_iconst C dX11_seenRefusal_73 ?_
              exact hret _ _ _ _ dX11_seenRefusal_74 ⟨0, rfl, rfl, by omega⟩
            · refine j_aload_n C 0 0 dX11_seenRefusal_51 rfl rfl ?_
              refine j_aload_n C 1 3 dX11_seenRefusal_52 rfl rfl ?_
              refine j_iload C 2 dX11_seenRefusal_53 rfl ?_
              refine j_callVj C (d := 1) (As := [.int (sI a429)]) (st := [.ref (ad 0)]) v107 (s_lt cv107 rfl) (s_kc (c := 9) cv107 rfl) (by decide) rfl (s1_X10_numberAt hM0 cv107 a429 (by omega)) gX11_seenRefusal_X10_numberAt rfl hdX10_numberAt (by decide) (Nat.le_of_ble_eq_true rfl) dX11_seenRefusal_55 rfl (fun r437 M438 h439 => ?_)
              obtain ⟨a441, rfl, rfl, h440⟩ := h439
              refine j_callVi C (d := 0) (As := [.long (sJ a441)]) (st := []) 0 (s_lt rfl rfl) (s_kc (c := 10) rfl rfl) (by decide) rfl (s1_X11_isSight hM0 a441 (by omega)) gX11_seenRefusal_X11_isSight rfl hdX11_isSight (by decide) (Nat.le_of_ble_eq_true rfl) dX11_seenRefusal_58 rfl (fun r442 M443 h444 => ?_)
              obtain ⟨a446, rfl, rfl, h445⟩ := h444
              refine y_if_ne C 67 dX11_seenRefusal_61 (by decide) (by omega) (fun h447 => ?_) (fun h447 => ?_)
              · refine y_iinc C 2 [(4, .int (sI (a429 + 1))), (0, .ref (ad 0)), (3, .ref (ad v107))] dX11_seenRefusal_67 rfl (by decide) rfl ?_
                refine j_goto C 42 dX11_seenRefusal_70 (by decide) ?_
                refine j_lv [1, 2, 0] rfl ?_; exact ih427 (a429 + 1) (by omega)
              · refine y_bipush C dX11_seenRefusal_64 rfl ?_
                exact hret _ _ _ _ dX11_seenRefusal_66 ⟨(-3), rfl, rfl, by omega⟩
        refine j_lv [3, 1, 0] rfl ?_; exact L428 2010 0 (by omega)
      · refine y_bipush C dX11_seenRefusal_36 rfl ?_
        exact hret _ _ _ _ dX11_seenRefusal_38 ⟨(-4), rfl, rfl, by omega⟩
  · refine j_iload_n C 0 2 dX11_seenRefusal_10 rfl rfl ?_
    exact hret _ _ _ _ dX11_seenRefusal_11 ⟨a105, rfl, rfl, by omega⟩
set_option maxHeartbeats 4000000 in
theorem s1_X5_lookEverywhere {l : Launch} {dC : Nat → ClassId} {dI : Nat → Nat → Nat} {ad : Nat → Nat} {cA : Nat → ClassId} {pr : Nat → Nat → Bool} {Kz : mm_M} {M0 : mm_M} (hM0 : INV pr Kz M0) (hpr : PX pr) {v1 : Nat} (cv1 : s_c v1 = 6) {v2 : Nat} (cv2 : s_c v2 = 8) : Cv l 5 yX5_lookEverywhere wsX5_lookEverywhere dC dI ad cA [.ref (ad 88), .ref (ad v1), .ref (ad v2)] M0 (fun M' => INV pr Kz M') := by
  refine cv_of (cc := cX5_lookEverywhere) (maxL := 4) (lv := [(0, .ref (ad 88)), (1, .ref (ad v1)), (2, .ref (ad v2))]) (by decide) rfl (Nat.le_of_ble_eq_true rfl) rfl ?_
  intro p e s m args below meth c A Q C hret
  refine j_aload_n C 0 0 dX5_lookEverywhere_0 rfl rfl ?_
  refine j_aload_n C 1 1 dX5_lookEverywhere_1 rfl rfl ?_
  refine j_aload_n C 2 2 dX5_lookEverywhere_2 rfl rfl ?_
  refine j_aload_n C 2 2 dX5_lookEverywhere_3 rfl rfl ?_
  refine y_getI C 8 _ _ fX5_lookEverywhere_89 cv2 rfl ft_8_4 sb_8_4 hM0 dX5_lookEverywhere_4 (fun a101 ea101 la101 ua101 => ?_)
  refine j_callVv C (d := 1) (As := [.ref (ad v1), .ref (ad v2), .int (sI a101)]) (st := []) 88 (s_lt rfl rfl) (s_kc (c := 4) rfl rfl) (by decide) rfl (s1_X5_aim hM0 hpr cv1 cv2 a101 (by omega)) gX5_lookEverywhere_X5_aim rfl hdX5_aim (by decide) (Nat.le_of_ble_eq_true rfl) dX5_lookEverywhere_7 rfl (fun M104 h105 => ?_)
  have hM104 := h105
  refine y_iconst C dX5_lookEverywhere_10 ?_
  refine j_istore_n C 3 [(3, .int (sI 0)), (0, .ref (ad 88)), (1, .ref (ad v1)), (2, .ref (ad v2))] dX5_lookEverywhere_11 rfl (by decide) rfl ?_
  have L406 : ∀ (n404 : Nat), ∀ (a407 : Int) (M408 : mm_M), (0 ≤ a407 ∧ a407 ≤ 256 ∧ (256 - a407) < (n404 : Int)) → INV pr Kz M408 → jj p l e (cn_R 5) s m args below meth c 0 0 Q 4 dC dI ad cA A M408 12 [(0, .ref (ad 88)), (2, .ref (ad v2)), (3, .int (sI a407))] [] := by
    intro n404
    induction n404 with
    | zero =>
      intro a407 M408 h409 hM408
      exfalso; omega
    | succ n404 ih405 =>
      intro a407 M408 h409 hM408
      refine j_iload_n C 2 3 dX5_lookEverywhere_12 rfl rfl ?_
      refine j_aload_n C 0 0 dX5_lookEverywhere_13 rfl rfl ?_
      refine y_getI C 4 _ _ fX5_lookEverywhere_38 rfl rfl ft_4_11 sb_4_11 hM408 dX5_lookEverywhere_14 (fun a410 ea410 la410 ua410 => ?_)
      refine y_icmp_gt C 35 dX5_lookEverywhere_17 (by decide) (by omega) (fun h412 => ?_) (fun h412 => ?_)
      · exact hret _ _ _ dX5_lookEverywhere_35 hM408
      · refine j_aload_n C 0 0 dX5_lookEverywhere_20 rfl rfl ?_
        refine j_iload_n C 2 3 dX5_lookEverywhere_21 rfl rfl ?_
        refine j_aload_n C 1 2 dX5_lookEverywhere_22 rfl rfl ?_
        refine y_getI C 8 _ _ fX5_lookEverywhere_89 cv2 rfl ft_8_4 sb_8_4 hM408 dX5_lookEverywhere_23 (fun a413 ea413 la413 ua413 => ?_)
        refine j_callVv C (d := 4) (As := [.int (sI a407), .int (sI a413)]) (st := []) 88 (s_lt rfl rfl) (s_kc (c := 4) rfl rfl) (by decide) rfl (s1_X5_meet hM408 hpr a407 (by omega) a413 (by omega) (by omega)) gX5_lookEverywhere_X5_meet rfl hdX5_meet (by decide) (Nat.le_of_ble_eq_true rfl) dX5_lookEverywhere_26 rfl (fun M416 h417 => ?_)
        have hM416 := h417
        refine y_iinc C 2 [(3, .int (sI (a407 + 1))), (0, .ref (ad 88)), (2, .ref (ad v2))] dX5_lookEverywhere_29 rfl (by decide) rfl ?_
        refine j_goto C 12 dX5_lookEverywhere_32 (by decide) ?_
        refine j_lv [1, 2, 0] rfl ?_; exact ih405 (a407 + 1) M416 (by omega) hM416
  refine j_lv [1, 3, 0] rfl ?_; exact L406 2010 0 M104 (by omega) hM104
set_option maxHeartbeats 4000000 in
theorem s1_X5_everyKind {l : Launch} {dC : Nat → ClassId} {dI : Nat → Nat → Nat} {ad : Nat → Nat} {cA : Nat → ClassId} {pr : Nat → Nat → Bool} {Kz : mm_M} {M0 : mm_M} (hM0 : INV pr Kz M0)  : Ci l 0 yX5_everyKind wsX5_everyKind dC dI ad cA [.ref (ad 88)] M0 (fun r M' => ∃ a : Int, r = sI a ∧ M0 = M' ∧ 0 ≤ a ∧ a ≤ 255 ∧ ((a = (M0.1 88 11).toInt))) := by
  refine ci_of (cc := cX5_everyKind) (maxL := 1) (ty := .int) (lv := [(0, .ref (ad 88))]) (by decide) rfl (fun r M' hp => rfl) (Nat.le_of_ble_eq_true rfl) rfl ?_
  intro p e s m args below meth c A Q C hret
  refine j_aload_n C 0 0 dX5_everyKind_0 rfl rfl ?_
  refine y_getI C 4 _ _ fX5_everyKind_38 rfl rfl ft_4_11 sb_4_11 hM0 dX5_everyKind_1 (fun a101 ea101 la101 ua101 => ?_)
  exact hret _ _ _ _ dX5_everyKind_4 ⟨a101, rfl, rfl, by omega⟩
set_option maxHeartbeats 4000000 in
theorem s1_X0_behind {l : Launch} {dC : Nat → ClassId} {dI : Nat → Nat → Nat} {ad : Nat → Nat} {cA : Nat → ClassId} {pr : Nat → Nat → Bool} {Kz : mm_M} {M0 : mm_M} (hM0 : INV pr Kz M0) (a1 : Int) (ha1 : -2147483648 ≤ a1 ∧ a1 ≤ 2147483647) {v2 : Nat} (cv2 : s_c v2 = 9) : Ci l 2 yX0_behind wsX0_behind dC dI ad cA [.ref (ad 95), .int (sI a1), .ref (ad v2)] M0 (fun r M' => ∃ a : Int, r = sI a ∧ M0 = M' ∧ (-2147483648) ≤ a ∧ a ≤ 2147483647) := by
  refine ci_of (cc := cX0_behind) (maxL := 7) (ty := .int) (lv := [(0, .ref (ad 95)), (1, .int (sI a1)), (2, .ref (ad v2))]) (by decide) rfl (fun r M' hp => rfl) (Nat.le_of_ble_eq_true rfl) rfl ?_
  intro p e s m args below meth c A Q C hret
  refine j_iload_n C 1 1 dX0_behind_0 rfl rfl ?_
  refine j_istore_n C 3 [(3, .int (sI a1)), (0, .ref (ad 95)), (1, .int (sI a1)), (2, .ref (ad v2))] dX0_behind_1 rfl (by decide) rfl ?_
  refine y_iconst C dX0_behind_2 ?_
  refine j_istore C 4 [(4, .int (sI 0)), (3, .int (sI a1)), (0, .ref (ad 95)), (1, .int (sI a1)), (2, .ref (ad v2))] dX0_behind_3 (by decide) rfl ?_
  have L630 : ∀ (n628 : Nat), ∀ (a631 : Int) (a632 : Int), ((-2147483648) ≤ a631 ∧ a631 ≤ 2147483647 ∧ 0 ≤ a632 ∧ a632 ≤ 40 ∧ (40 - a632) < (n628 : Int)) → jj p l e (cn_R 2) s m args below meth c 0 0 Q 7 dC dI ad cA A M0 5 [(0, .ref (ad 95)), (2, .ref (ad v2)), (3, .int (sI a631)), (4, .int (sI a632))] [] := by
    intro n628
    induction n628 with
    | zero =>
      intro a631 a632 h633
      exfalso; omega
    | succ n628 ih629 =>
      intro a631 a632 h633
      refine j_iload C 3 dX0_behind_5 rfl ?_
      refine j_aload_n C 1 2 dX0_behind_7 rfl rfl ?_
      refine j_callVi C (d := 1) (As := []) (st := [.int (sI a632)]) v2 (s_lt cv2 rfl) (s_kc (c := 9) cv2 rfl) (by decide) rfl (s1_X10_size hM0 cv2) gX0_behind_X10_size rfl hdX10_size (by decide) (Nat.le_of_ble_eq_true rfl) dX0_behind_8 rfl (fun r634 M635 h636 => ?_)
      obtain ⟨a638, rfl, rfl, h637⟩ := h636
      refine y_icmp_ge C 86 dX0_behind_11 (by decide) (by omega) (fun h639 => ?_) (fun h639 => ?_)
      · refine j_iload_n C 2 3 dX0_behind_86 rfl rfl ?_
        exact hret _ _ _ _ dX0_behind_87 ⟨a631, rfl, rfl, by omega⟩
      · refine j_aload_n C 1 2 dX0_behind_14 rfl rfl ?_
        refine j_iload C 3 dX0_behind_15 rfl ?_
        refine j_callVj C (d := 1) (As := [.int (sI a632)]) (st := []) v2 (s_lt cv2 rfl) (s_kc (c := 9) cv2 rfl) (by decide) rfl (s1_X10_numberAt hM0 cv2 a632 (by omega)) gX0_behind_X10_numberAt rfl hdX10_numberAt (by decide) (Nat.le_of_ble_eq_true rfl) dX0_behind_17 rfl (fun r640 M641 h642 => ?_)
        obtain ⟨a644, rfl, rfl, h643⟩ := h642
        refine y_l2i C dX0_behind_20 ?_
        refine y_topI (fun a645 la645 ua645 => ?_)
        refine j_istore C 5 [(5, .int (sI a645)), (0, .ref (ad 95)), (2, .ref (ad v2)), (3, .int (sI a631)), (4, .int (sI a632))] dX0_behind_21 (by decide) rfl ?_
        refine j_aload_n C 1 0 dX0_behind_23 rfl rfl ?_
        refine y_getC C 0 88 fX0_behind_25 rfl rfl ft_0_0 sm_0_0 rfl hM0 dX0_behind_24 ?_
        refine j_iload_n C 3 3 dX0_behind_27 rfl rfl ?_
        refine j_iload C 0 dX0_behind_28 rfl ?_
        refine y_bipush C dX0_behind_30 rfl ?_
        refine y_idiv0 C dX0_behind_32 (by omega) (fun a646 la646 ua646 => ?_)
        refine j_callVi C (d := 0) (As := [.int (sI a631), .int (sI a646)]) (st := []) 88 (s_lt rfl rfl) (s_kc (c := 4) rfl rfl) (by decide) rfl (s1_X5_pick hM0 a631 (by omega) a646 (by omega)) gX0_behind_X5_pick rfl hdX5_pick (by decide) (Nat.le_of_ble_eq_true rfl) dX0_behind_33 rfl (fun r647 M648 h649 => ?_)
        obtain ⟨a651, rfl, rfl, h650⟩ := h649
        refine j_istore C 6 [(6, .int (sI a651)), (5, .int (sI a645)), (0, .ref (ad 95)), (2, .ref (ad v2)), (3, .int (sI a631)), (4, .int (sI a632))] dX0_behind_36 (by decide) rfl ?_
        refine j_iload C 0 dX0_behind_38 rfl ?_
        refine j_iload C 1 dX0_behind_40 rfl ?_
        refine y_bipush C dX0_behind_42 rfl ?_
        refine y_iremS C dX0_behind_44 (by omega) (fun a652 la652 ua652 ha652 => ?_)
        refine y_bipush C dX0_behind_45 rfl ?_
        have J656 : ∀ (a655 : Int), ((-9) ≤ a655 ∧ a655 ≤ 9) → jj p l e (cn_R 2) s m args below meth c 0 0 Q 7 dC dI ad cA A M0 59 [(0, .ref (ad 95)), (2, .ref (ad v2)), (3, .int (sI a631)), (4, .int (sI a632)), (6, .int (sI a651))] [.int (sI a655), .int (sI a651)] := by
          intro a655 h657
          refine y_icmp_eq C 64 dX0_behind_59 (by decide) (by omega) (fun h658 => ?_) (fun h658 => ?_)
          · refine j_iload_n C 2 3 dX0_behind_64 rfl rfl ?_
            refine j_iload C 4 dX0_behind_65 rfl ?_
            refine y_if_lt C 77 dX0_behind_67 (by decide) (by omega) (fun h659 => ?_) (fun h659 => ?_)
            · refine y_iconst C dX0_behind_77 ?_
              refine y_ior0 C dX0_behind_78 (fun a660 la660 ua660 => ?_)
              refine j_istore_n C 3 [(3, .int (sI a660)), (0, .ref (ad 95)), (2, .ref (ad v2)), (4, .int (sI a632)), (6, .int (sI a651))] dX0_behind_79 rfl (by decide) rfl ?_
              refine y_iinc C 3 [(4, .int (sI (a632 + 1))), (3, .int (sI a660)), (0, .ref (ad 95)), (2, .ref (ad v2)), (6, .int (sI a651))] dX0_behind_80 rfl (by decide) rfl ?_
              refine j_goto C 5 dX0_behind_83 (by decide) ?_
              refine j_lv [2, 3, 1, 0] rfl ?_; exact ih629 a660 (a632 + 1) (by omega)
            · refine y_iconst C dX0_behind_70 ?_
              refine j_iload C 4 dX0_behind_71 rfl ?_
              refine y_shl1 C 7 128 dX0_behind_73 rfl (by decide) (by omega) (fun a661 la661 ua661 => ?_)
              refine j_goto C 78 dX0_behind_74 (by decide) ?_
              refine y_ior0 C dX0_behind_78 (fun a662 la662 ua662 => ?_)
              refine j_istore_n C 3 [(3, .int (sI a662)), (0, .ref (ad 95)), (2, .ref (ad v2)), (4, .int (sI a632)), (6, .int (sI a651))] dX0_behind_79 rfl (by decide) rfl ?_
              refine y_iinc C 3 [(4, .int (sI (a632 + 1))), (3, .int (sI a662)), (0, .ref (ad 95)), (2, .ref (ad v2)), (6, .int (sI a651))] dX0_behind_80 rfl (by decide) rfl ?_
              refine j_goto C 5 dX0_behind_83 (by decide) ?_
              refine j_lv [2, 3, 1, 0] rfl ?_; exact ih629 a662 (a632 + 1) (by omega)
          · refine y_iconst C dX0_behind_62 ?_
            exact hret _ _ _ _ dX0_behind_63 ⟨(-1), rfl, rfl, by omega⟩
        refine y_icmp_ne C 54 dX0_behind_47 (by decide) (by omega) (fun h653 => ?_) (fun h653 => ?_)
        · refine j_iload C 1 dX0_behind_54 rfl ?_
          refine y_bipush C dX0_behind_56 rfl ?_
          refine y_iremS C dX0_behind_58 (by omega) (fun a654 la654 ua654 ha654 => ?_)
          refine j_lv [2, 3, 4, 5, 0] rfl ?_; exact J656 a654 (by omega)
        · refine y_iconst C dX0_behind_50 ?_
          refine j_goto C 59 dX0_behind_51 (by decide) ?_
          refine j_lv [2, 3, 4, 5, 0] rfl ?_; exact J656 (-1) (by omega)
  refine j_lv [2, 4, 1, 0] rfl ?_; exact L630 4294967306 a1 0 (by omega)
set_option maxHeartbeats 4000000 in
theorem s1_X0_gather {l : Launch} {dC : Nat → ClassId} {dI : Nat → Nat → Nat} {ad : Nat → Nat} {cA : Nat → ClassId} {pr : Nat → Nat → Bool} {Kz : mm_M} {M0 : mm_M} (hM0 : INV pr Kz M0) (hpr : PX pr) {v1 : Nat} (cv1 : s_c v1 = 9) : Cv l 3 yX0_gather wsX0_gather dC dI ad cA [.ref (ad 95), .ref (ad v1)] M0 (fun M' => INV pr Kz M') := by
  refine cv_of (cc := cX0_gather) (maxL := 3) (lv := [(0, .ref (ad 95)), (1, .ref (ad v1))]) (by decide) rfl (Nat.le_of_ble_eq_true rfl) rfl ?_
  intro p e s m args below meth c A Q C hret
  refine j_aload_n C 0 0 dX0_gather_0 rfl rfl ?_
  refine y_iconst C dX0_gather_1 ?_
  refine y_putIF C 0 qX0_gather_18 rfl rfl ft_0_3 sb_0_3 hM0 (PX.w hpr rfl rfl) dX0_gather_2 (fun M101 eM101 hM101 => ?_)
  refine j_aload_n C 0 0 dX0_gather_5 rfl rfl ?_
  refine j_aload_n C 0 0 dX0_gather_6 rfl rfl ?_
  refine y_getC C 0 88 fX0_gather_25 rfl rfl ft_0_0 sm_0_0 rfl hM101 dX0_gather_7 ?_
  refine j_callVi C (d := 0) (As := []) (st := [.ref (ad 95)]) 88 (s_lt rfl rfl) (s_kc (c := 4) rfl rfl) (by decide) rfl (s1_X5_everyKind hM101) gX0_gather_X5_everyKind rfl hdX5_everyKind (by decide) (Nat.le_of_ble_eq_true rfl) dX0_gather_10 rfl (fun r102 M103 h104 => ?_)
  obtain ⟨a106, rfl, rfl, h105⟩ := h104
  refine y_putIF C 0 qX0_gather_22 rfl rfl ft_0_4 sb_0_4 hM101 (PX.w hpr rfl rfl) dX0_gather_13 (fun M107 eM107 hM107 => ?_)
  refine y_iconst C dX0_gather_16 ?_
  refine j_istore_n C 2 [(2, .int (sI 0)), (0, .ref (ad 95)), (1, .ref (ad v1))] dX0_gather_17 rfl (by decide) rfl ?_
  have L758 : ∀ (n756 : Nat), ∀ (a759 : Int) (M760 : mm_M), (0 ≤ a759 ∧ a759 ≤ 256 ∧ (256 - a759) < (n756 : Int)) → INV pr Kz M760 → jj p l e (cn_R 3) s m args below meth c 0 0 Q 3 dC dI ad cA A M760 18 [(0, .ref (ad 95)), (1, .ref (ad v1)), (2, .int (sI a759))] [] := by
    intro n756
    induction n756 with
    | zero =>
      intro a759 M760 h761 hM760
      exfalso; omega
    | succ n756 ih757 =>
      intro a759 M760 h761 hM760
      refine j_iload_n C 2 2 dX0_gather_18 rfl rfl ?_
      refine j_aload_n C 0 0 dX0_gather_19 rfl rfl ?_
      refine y_getC C 0 88 fX0_gather_25 rfl rfl ft_0_0 sm_0_0 rfl hM760 dX0_gather_20 ?_
      refine j_callVi C (d := 0) (As := []) (st := [.int (sI a759)]) 88 (s_lt rfl rfl) (s_kc (c := 4) rfl rfl) (by decide) rfl (s1_X5_everyKind hM760) gX0_gather_X5_everyKind rfl hdX5_everyKind (by decide) (Nat.le_of_ble_eq_true rfl) dX0_gather_23 rfl (fun r762 M763 h764 => ?_)
      obtain ⟨a766, rfl, rfl, h765⟩ := h764
      refine y_icmp_gt C 77 dX0_gather_26 (by decide) (by omega) (fun h767 => ?_) (fun h767 => ?_)
      · exact hret _ _ _ dX0_gather_77 hM760
      · refine j_aload_n C 0 0 dX0_gather_29 rfl rfl ?_
        refine y_getC C 0 96 fX0_gather_9 rfl rfl ft_0_1 sm_0_1 rfl hM760 dX0_gather_30 ?_
        refine j_iload_n C 2 2 dX0_gather_33 rfl rfl ?_
        refine j_aload_n C 0 0 dX0_gather_34 rfl rfl ?_
        refine j_iload_n C 2 2 dX0_gather_35 rfl rfl ?_
        refine j_aload_n C 1 1 dX0_gather_36 rfl rfl ?_
        refine j_callVi C (d := 2) (As := [.int (sI a759), .ref (ad v1)]) (st := [.int (sI a759), .ref (ad 96)]) 95 (s_lt rfl rfl) (s_kc (c := 0) rfl rfl) (by decide) rfl (s1_X0_behind hM760 a759 (by omega) cv1) gX0_gather_X0_behind rfl hdX0_behind (by decide) (Nat.le_of_ble_eq_true rfl) dX0_gather_37 rfl (fun r768 M769 h770 => ?_)
        obtain ⟨a772, rfl, rfl, h771⟩ := h770
        refine y_iastF C 43 256 rfl rfl rfl ak_43 an_43 rfl (sb_43 _) hM760 (PX.w hpr rfl rfl) dX0_gather_40 (by omega) (fun M773 eM773 hM773 => ?_)
        refine j_aload_n C 0 0 dX0_gather_41 rfl rfl ?_
        refine y_getC C 0 96 fX0_gather_9 rfl rfl ft_0_1 sm_0_1 rfl hM773 dX0_gather_42 ?_
        refine j_iload_n C 2 2 dX0_gather_45 rfl rfl ?_
        refine y_iald C 43 256 _ _ rfl rfl rfl ak_43 an_43 rfl (sb_43 _) hM773 dX0_gather_46 (by omega) (fun a774 ea774 la774 ua774 => ?_)
        refine y_iconst C dX0_gather_47 ?_
        refine y_icmp_eq C 71 dX0_gather_48 (by decide) (by omega) (fun h775 => ?_) (fun h775 => ?_)
        · refine y_iinc C 2 [(2, .int (sI (a759 + 1))), (0, .ref (ad 95)), (1, .ref (ad v1))] dX0_gather_71 rfl (by decide) rfl ?_
          refine j_goto C 18 dX0_gather_74 (by decide) ?_
          refine j_lv [1, 2, 0] rfl ?_; exact ih757 (a759 + 1) M773 (by omega) hM773
        · refine j_aload_n C 0 0 dX0_gather_51 rfl rfl ?_
          refine j_dup C dX0_gather_52 rfl ?_
          refine y_getI C 0 _ _ fX0_gather_18 rfl rfl ft_0_3 sb_0_3 hM773 dX0_gather_53 (fun a776 ea776 la776 ua776 => ?_)
          refine y_iconst C dX0_gather_56 ?_
          refine y_iadd0 C dX0_gather_57 (fun a778 la778 ua778 => ?_)
          refine y_putIF C 0 qX0_gather_18 rfl rfl ft_0_3 sb_0_3 hM773 (PX.w hpr rfl rfl) dX0_gather_58 (fun M779 eM779 hM779 => ?_)
          refine j_aload_n C 0 0 dX0_gather_61 rfl rfl ?_
          refine j_dup C dX0_gather_62 rfl ?_
          refine y_getI C 0 _ _ fX0_gather_22 rfl rfl ft_0_4 sb_0_4 hM779 dX0_gather_63 (fun a780 ea780 la780 ua780 => ?_)
          refine j_iload_n C 2 2 dX0_gather_66 rfl rfl ?_
          refine y_iandR C dX0_gather_67 (by omega) (fun a782 la782 ua782 => ?_)
          refine y_putIF C 0 qX0_gather_22 rfl rfl ft_0_4 sb_0_4 hM779 (PX.w hpr rfl rfl) dX0_gather_68 (fun M783 eM783 hM783 => ?_)
          refine y_iinc C 2 [(2, .int (sI (a759 + 1))), (0, .ref (ad 95)), (1, .ref (ad v1))] dX0_gather_71 rfl (by decide) rfl ?_
          refine j_goto C 18 dX0_gather_74 (by decide) ?_
          refine j_lv [1, 2, 0] rfl ?_; exact ih757 (a759 + 1) M783 (by omega) hM783
  refine j_lv [1, 2, 0] rfl ?_; exact L758 2010 0 M107 (by omega) hM107
set_option maxHeartbeats 4000000 in
theorem s1_X11_seen {l : Launch} {dC : Nat → ClassId} {dI : Nat → Nat → Nat} {ad : Nat → Nat} {cA : Nat → ClassId} {pr : Nat → Nat → Bool} {Kz : mm_M} {M0 : mm_M} (hM0 : INV pr Kz M0) (hpr : PX pr) (a1 : Int) (ha1 : -2147483648 ≤ a1 ∧ a1 ≤ 2147483647) : Ci l 6 yX11_seen wsX11_seen dC dI ad cA [.ref (ad 0), .int (sI a1)] M0 (fun r M' => ∃ a : Int, r = sI a ∧ INV pr Kz M' ∧ (-2147483648) ≤ a ∧ a ≤ 2147483647) := by
  refine ci_of (cc := cX11_seen) (maxL := 3) (ty := .int) (lv := [(0, .ref (ad 0)), (1, .int (sI a1))]) (by decide) rfl (fun r M' hp => rfl) (Nat.le_of_ble_eq_true rfl) rfl ?_
  intro p e s m args below meth c A Q C hret
  refine j_aload_n C 0 0 dX11_seen_0 rfl rfl ?_
  refine j_iload_n C 1 1 dX11_seen_1 rfl rfl ?_
  refine j_callVi C (d := 2) (As := [.int (sI a1)]) (st := []) 0 (s_lt rfl rfl) (s_kc (c := 10) rfl rfl) (by decide) rfl (s1_X11_seenRefusal hM0 a1 (by omega)) gX11_seen_X11_seenRefusal rfl hdX11_seenRefusal (by decide) (Nat.le_of_ble_eq_true rfl) dX11_seen_2 rfl (fun r101 M102 h103 => ?_)
  obtain ⟨a105, rfl, rfl, h104⟩ := h103
  refine j_istore_n C 2 [(2, .int (sI a105)), (0, .ref (ad 0)), (1, .int (sI a1))] dX11_seen_5 rfl (by decide) rfl ?_
  refine j_iload_n C 0 2 dX11_seen_6 rfl rfl ?_
  refine y_if_eq C 12 dX11_seen_7 (by decide) (by omega) (fun h106 => ?_) (fun h106 => ?_)
  · refine j_aload_n C 1 0 dX11_seen_12 rfl rfl ?_
    refine y_getC C 10 88 fX11_seen_94 rfl rfl ft_10_14 sm_10_14 rfl hM0 dX11_seen_13 ?_
    refine j_aload_n C 1 0 dX11_seen_16 rfl rfl ?_
    refine y_getM C 10 6 fX11_seen_26 rfl rfl ft_10_4 sm_10_4 (by decide) hM0 dX11_seen_17 (fun v107 ev107 cv107 => ?_)
    refine j_aload_n C 1 0 dX11_seen_20 rfl rfl ?_
    refine y_getC C 10 12 fX11_seen_36 rfl rfl ft_10_6 sm_10_6 rfl hM0 dX11_seen_21 ?_
    refine j_callVv C (d := 5) (As := [.ref (ad v107), .ref (ad 12)]) (st := []) 88 (s_lt rfl rfl) (s_kc (c := 4) rfl rfl) (by decide) rfl (s1_X5_lookEverywhere hM0 hpr cv107 rfl) gX11_seen_X5_lookEverywhere rfl hdX5_lookEverywhere (by decide) (Nat.le_of_ble_eq_true rfl) dX11_seen_24 rfl (fun M109 h110 => ?_)
    have hM109 := h110
    refine j_aload_n C 1 0 dX11_seen_27 rfl rfl ?_
    refine y_getC C 10 95 fX11_seen_103 rfl rfl ft_10_15 sm_10_15 rfl hM109 dX11_seen_28 ?_
    refine j_aload_n C 1 0 dX11_seen_31 rfl rfl ?_
    refine y_getC C 10 50 fX11_seen_52 rfl rfl ft_10_9 sm_10_9 rfl hM109 dX11_seen_32 ?_
    refine j_iload_n C 2 1 dX11_seen_35 rfl rfl ?_
    refine y_aald C 28 4 9 rfl rfl rfl rfl an_28 rfl sma_28 sta_28 (by decide) hM109 dX11_seen_36 (by omega) (fun v112 cv112 => ?_)
    refine j_callVv C (d := 3) (As := [.ref (ad v112)]) (st := []) 95 (s_lt rfl rfl) (s_kc (c := 0) rfl rfl) (by decide) rfl (s1_X0_gather hM109 hpr cv112) gX11_seen_X0_gather rfl hdX0_gather (by decide) (Nat.le_of_ble_eq_true rfl) dX11_seen_37 rfl (fun M114 h115 => ?_)
    have hM114 := h115
    refine j_aload_n C 1 0 dX11_seen_40 rfl rfl ?_
    refine y_getC C 10 95 fX11_seen_103 rfl rfl ft_10_15 sm_10_15 rfl hM114 dX11_seen_41 ?_
    refine y_getI C 0 _ _ fX11_seen_354 rfl rfl ft_0_3 sb_0_3 hM114 dX11_seen_44 (fun a117 ea117 la117 ua117 => ?_)
    exact hret _ _ _ _ dX11_seen_47 ⟨a117, rfl, hM114, by omega⟩
  · refine j_iload_n C 0 2 dX11_seen_10 rfl rfl ?_
    exact hret _ _ _ _ dX11_seen_11 ⟨a105, rfl, hM0, by omega⟩
set_option maxHeartbeats 4000000 in
theorem s1_X11_sureGone {l : Launch} {dC : Nat → ClassId} {dI : Nat → Nat → Nat} {ad : Nat → Nat} {cA : Nat → ClassId} {pr : Nat → Nat → Bool} {Kz : mm_M} {M0 : mm_M} (hM0 : INV pr Kz M0) (hpr : PX pr) (a1 : Int) (ha1 : -2147483648 ≤ a1 ∧ a1 ≤ 2147483647) : Ci l 6 yX11_sureGone wsX11_sureGone dC dI ad cA [.ref (ad 0), .int (sI a1)] M0 (fun r M' => ∃ a : Int, r = sI a ∧ INV pr Kz M' ∧ (-2147483648) ≤ a ∧ a ≤ 2147483647) := by
  refine ci_of (cc := cX11_sureGone) (maxL := 3) (ty := .int) (lv := [(0, .ref (ad 0)), (1, .int (sI a1))]) (by decide) rfl (fun r M' hp => rfl) (Nat.le_of_ble_eq_true rfl) rfl ?_
  intro p e s m args below meth c A Q C hret
  refine j_aload_n C 0 0 dX11_sureGone_0 rfl rfl ?_
  refine j_iload_n C 1 1 dX11_sureGone_1 rfl rfl ?_
  refine j_callVi C (d := 2) (As := [.int (sI a1)]) (st := []) 0 (s_lt rfl rfl) (s_kc (c := 10) rfl rfl) (by decide) rfl (s1_X11_seenRefusal hM0 a1 (by omega)) gX11_sureGone_X11_seenRefusal rfl hdX11_seenRefusal (by decide) (Nat.le_of_ble_eq_true rfl) dX11_sureGone_2 rfl (fun r101 M102 h103 => ?_)
  obtain ⟨a105, rfl, rfl, h104⟩ := h103
  refine j_istore_n C 2 [(2, .int (sI a105)), (0, .ref (ad 0)), (1, .int (sI a1))] dX11_sureGone_5 rfl (by decide) rfl ?_
  refine j_iload_n C 0 2 dX11_sureGone_6 rfl rfl ?_
  refine y_if_eq C 12 dX11_sureGone_7 (by decide) (by omega) (fun h106 => ?_) (fun h106 => ?_)
  · refine j_aload_n C 1 0 dX11_sureGone_12 rfl rfl ?_
    refine y_getC C 10 88 fX11_sureGone_94 rfl rfl ft_10_14 sm_10_14 rfl hM0 dX11_sureGone_13 ?_
    refine j_aload_n C 1 0 dX11_sureGone_16 rfl rfl ?_
    refine y_getM C 10 6 fX11_sureGone_26 rfl rfl ft_10_4 sm_10_4 (by decide) hM0 dX11_sureGone_17 (fun v107 ev107 cv107 => ?_)
    refine j_aload_n C 1 0 dX11_sureGone_20 rfl rfl ?_
    refine y_getC C 10 12 fX11_sureGone_36 rfl rfl ft_10_6 sm_10_6 rfl hM0 dX11_sureGone_21 ?_
    refine j_callVv C (d := 5) (As := [.ref (ad v107), .ref (ad 12)]) (st := []) 88 (s_lt rfl rfl) (s_kc (c := 4) rfl rfl) (by decide) rfl (s1_X5_lookEverywhere hM0 hpr cv107 rfl) gX11_sureGone_X5_lookEverywhere rfl hdX5_lookEverywhere (by decide) (Nat.le_of_ble_eq_true rfl) dX11_sureGone_24 rfl (fun M109 h110 => ?_)
    have hM109 := h110
    refine j_aload_n C 1 0 dX11_sureGone_27 rfl rfl ?_
    refine y_getC C 10 95 fX11_sureGone_103 rfl rfl ft_10_15 sm_10_15 rfl hM109 dX11_sureGone_28 ?_
    refine j_aload_n C 1 0 dX11_sureGone_31 rfl rfl ?_
    refine y_getC C 10 50 fX11_sureGone_52 rfl rfl ft_10_9 sm_10_9 rfl hM109 dX11_sureGone_32 ?_
    refine j_iload_n C 2 1 dX11_sureGone_35 rfl rfl ?_
    refine y_aald C 28 4 9 rfl rfl rfl rfl an_28 rfl sma_28 sta_28 (by decide) hM109 dX11_sureGone_36 (by omega) (fun v112 cv112 => ?_)
    refine j_callVv C (d := 3) (As := [.ref (ad v112)]) (st := []) 95 (s_lt rfl rfl) (s_kc (c := 0) rfl rfl) (by decide) rfl (s1_X0_gather hM109 hpr cv112) gX11_sureGone_X0_gather rfl hdX0_gather (by decide) (Nat.le_of_ble_eq_true rfl) dX11_sureGone_37 rfl (fun M114 h115 => ?_)
    have hM114 := h115
    refine j_aload_n C 1 0 dX11_sureGone_40 rfl rfl ?_
    refine y_getC C 10 95 fX11_sureGone_103 rfl rfl ft_10_15 sm_10_15 rfl hM114 dX11_sureGone_41 ?_
    refine y_getI C 0 _ _ fX11_sureGone_354 rfl rfl ft_0_3 sb_0_3 hM114 dX11_sureGone_44 (fun a117 ea117 la117 ua117 => ?_)
    refine y_if_ne C 54 dX11_sureGone_47 (by decide) (by omega) (fun h119 => ?_) (fun h119 => ?_)
    · refine j_aload_n C 1 0 dX11_sureGone_54 rfl rfl ?_
      refine y_getC C 10 95 fX11_sureGone_103 rfl rfl ft_10_15 sm_10_15 rfl hM114 dX11_sureGone_55 ?_
      refine y_getI C 0 _ _ fX11_sureGone_357 rfl rfl ft_0_4 sb_0_4 hM114 dX11_sureGone_58 (fun a120 ea120 la120 ua120 => ?_)
      exact hret _ _ _ _ dX11_sureGone_61 ⟨a120, rfl, hM114, by omega⟩
    · refine y_iconst C dX11_sureGone_50 ?_
      refine j_goto C 61 dX11_sureGone_51 (by decide) ?_
      exact hret _ _ _ _ dX11_sureGone_61 ⟨0, rfl, hM114, by omega⟩
  · refine j_iload_n C 0 2 dX11_sureGone_10 rfl rfl ?_
    exact hret _ _ _ _ dX11_sureGone_11 ⟨a105, rfl, hM0, by omega⟩
set_option maxHeartbeats 4000000 in
theorem s1_X5_buyers {l : Launch} {dC : Nat → ClassId} {dI : Nat → Nat → Nat} {ad : Nat → Nat} {cA : Nat → ClassId} {pr : Nat → Nat → Bool} {Kz : mm_M} {M0 : mm_M} (hM0 : INV pr Kz M0)  : Ci l 0 yX5_buyers wsX5_buyers dC dI ad cA [.ref (ad 88)] M0 (fun r M' => ∃ a : Int, r = sI a ∧ M0 = M' ∧ 0 ≤ a ∧ a ≤ 6 ∧ ((0 ≤ a ∧ a ≤ 6))) := by
  refine ci_of (cc := cX5_buyers) (maxL := 1) (ty := .int) (lv := [(0, .ref (ad 88))]) (by decide) rfl (fun r M' hp => rfl) (Nat.le_of_ble_eq_true rfl) rfl ?_
  intro p e s m args below meth c A Q C hret
  refine j_aload_n C 0 0 dX5_buyers_0 rfl rfl ?_
  refine y_getM C 4 6 fX5_buyers_52 rfl rfl ft_4_9 sm_4_9 (by decide) hM0 dX5_buyers_1 (fun v101 ev101 cv101 => ?_)
  refine y_getI C 6 _ _ fX5_buyers_92 cv101 rfl ft_6_0 sb_6_0 hM0 dX5_buyers_4 (fun a102 ea102 la102 ua102 => ?_)
  exact hret _ _ _ _ dX5_buyers_7 ⟨a102, rfl, rfl, by omega⟩
set_option maxHeartbeats 4000000 in
theorem s3_J7_fill_53178 {l : Launch} {dC : Nat → ClassId} {dI : Nat → Nat → Nat} {ad : Nat → Nat} {cA : Nat → ClassId} {pr : Nat → Nat → Bool} {Kz : mm_M} {M0 : mm_M} (hM0 : INV pr Kz M0) (hpr : PX pr) (a1 : Int) (ha1 : -2147483648 ≤ a1 ∧ a1 ≤ 2147483647) : Cv l 0 yJ7_fill_53178 wsJ7_fill_53178 dC dI ad cA [.ref (ad 97), .int (sI a1)] M0 (fun M' => INV pr Kz M') := by
  refine cv_of (cc := cJ7_fill_53178) (maxL := 4) (lv := [(0, .ref (ad 97)), (1, .int (sI a1))]) (by decide) rfl (Nat.le_of_ble_eq_true rfl) rfl ?_
  intro p e s m args below meth c A Q C hret
  refine y_iconst C dJ7_fill_53178_0 ?_
  refine j_istore_n C 2 [(2, .int (sI 0)), (0, .ref (ad 97)), (1, .int (sI a1))] dJ7_fill_53178_1 rfl (by decide) rfl ?_
  refine j_aload_n C 1 0 dJ7_fill_53178_2 rfl rfl ?_
  refine y_alen C 44 10 rfl rfl rfl an_44 rfl rfl dJ7_fill_53178_3 ?_
  refine j_istore_n C 3 [(3, .int (sI 10)), (2, .int (sI 0)), (0, .ref (ad 97)), (1, .int (sI a1))] dJ7_fill_53178_4 rfl (by decide) rfl ?_
  have L147 : ∀ (n145 : Nat), ∀ (a148 : Int) (M149 : mm_M), (0 ≤ a148 ∧ a148 ≤ 10 ∧ (10 - a148) < (n145 : Int)) → INV pr Kz M149 → jj p l e (cn_R 0) s m args below meth c 0 0 Q 4 dC dI ad cA A M149 5 [(0, .ref (ad 97)), (1, .int (sI a1)), (2, .int (sI a148)), (3, .int (sI 10))] [] := by
    intro n145
    induction n145 with
    | zero =>
      intro a148 M149 h150 hM149
      exfalso; omega
    | succ n145 ih146 =>
      intro a148 M149 h150 hM149
      refine j_iload_n C 2 2 dJ7_fill_53178_5 rfl rfl ?_
      refine j_iload_n C 3 3 dJ7_fill_53178_6 rfl rfl ?_
      refine y_icmp_ge C 20 dJ7_fill_53178_7 (by decide) (by omega) (fun h151 => ?_) (fun h151 => ?_)
      · exact hret _ _ _ dJ7_fill_53178_20 hM149
      · refine j_aload_n C 0 0 dJ7_fill_53178_10 rfl rfl ?_
        refine j_iload_n C 2 2 dJ7_fill_53178_11 rfl rfl ?_
        refine j_iload_n C 1 1 dJ7_fill_53178_12 rfl rfl ?_
        refine y_iastF C 44 10 rfl rfl rfl ak_44 an_44 rfl (sb_44 _) hM149 (PX.w hpr rfl rfl) dJ7_fill_53178_13 (by omega) (fun M152 eM152 hM152 => ?_)
        refine y_iinc C 2 [(2, .int (sI (a148 + 1))), (0, .ref (ad 97)), (1, .int (sI a1)), (3, .int (sI 10))] dJ7_fill_53178_14 rfl (by decide) rfl ?_
        refine j_goto C 5 dJ7_fill_53178_17 (by decide) ?_
        refine j_lv [1, 2, 0, 3] rfl ?_; exact ih146 (a148 + 1) M152 (by omega) hM152
  refine j_lv [2, 3, 1, 0] rfl ?_; exact L147 2010 0 M0 (by omega) hM0
set_option maxHeartbeats 4000000 in
theorem s1_X0_mostAlike {l : Launch} {dC : Nat → ClassId} {dI : Nat → Nat → Nat} {ad : Nat → Nat} {cA : Nat → ClassId} {pr : Nat → Nat → Bool} {Kz : mm_M} {M0 : mm_M} (hM0 : INV pr Kz M0) (hpr : PX pr) (a1 : Int) (ha1 : -2147483648 ≤ a1 ∧ a1 ≤ 2147483647) : Ci l 1 yX0_mostAlike wsX0_mostAlike dC dI ad cA [.ref (ad 95), .int (sI a1)] M0 (fun r M' => ∃ a : Int, r = sI a ∧ INV pr Kz M' ∧ 0 ≤ a ∧ a ≤ 2147483647) := by
  refine ci_of (cc := cX0_mostAlike) (maxL := 6) (ty := .int) (lv := [(0, .ref (ad 95)), (1, .int (sI a1))]) (by decide) rfl (fun r M' hp => rfl) (Nat.le_of_ble_eq_true rfl) rfl ?_
  intro p e s m args below meth c A Q C hret
  refine j_aload_n C 0 0 dX0_mostAlike_0 rfl rfl ?_
  refine y_getC C 0 97 fX0_mostAlike_15 rfl rfl ft_0_2 sm_0_2 rfl hM0 dX0_mostAlike_1 ?_
  refine y_iconst C dX0_mostAlike_4 ?_
  refine j_callSv C (d := 0) (As := [.ref (ad 97), .int (sI 0)]) (st := []) (s3_J7_fill_53178 hM0 hpr 0 (by omega)) gX0_mostAlike_J7_fill_53178 rfl hdJ7_fill_53178s (by decide) (Nat.le_of_ble_eq_true rfl) dX0_mostAlike_5 rfl (fun M102 h103 => ?_)
  have hM102 := h103
  refine y_iconst C dX0_mostAlike_8 ?_
  refine j_istore_n C 2 [(2, .int (sI 0)), (0, .ref (ad 95)), (1, .int (sI a1))] dX0_mostAlike_9 rfl (by decide) rfl ?_
  refine y_iconst C dX0_mostAlike_10 ?_
  refine j_istore_n C 3 [(3, .int (sI 0)), (2, .int (sI 0)), (0, .ref (ad 95)), (1, .int (sI a1))] dX0_mostAlike_11 rfl (by decide) rfl ?_
  have L809 : ∀ (n807 : Nat), ∀ (a810 : Int) (a811 : Int) (M812 : mm_M), (0 ≤ a810 ∧ a810 ≤ 2147483647 ∧ 0 ≤ a811 ∧ a811 ≤ 256 ∧ (256 - a811) < (n807 : Int)) → INV pr Kz M812 → jj p l e (cn_R 1) s m args below meth c 0 0 Q 6 dC dI ad cA A M812 12 [(0, .ref (ad 95)), (1, .int (sI a1)), (2, .int (sI a810)), (3, .int (sI a811))] [] := by
    intro n807
    induction n807 with
    | zero =>
      intro a810 a811 M812 h813 hM812
      exfalso; omega
    | succ n807 ih808 =>
      intro a810 a811 M812 h813 hM812
      refine j_iload_n C 3 3 dX0_mostAlike_12 rfl rfl ?_
      refine j_aload_n C 0 0 dX0_mostAlike_13 rfl rfl ?_
      refine y_getC C 0 88 fX0_mostAlike_25 rfl rfl ft_0_0 sm_0_0 rfl hM812 dX0_mostAlike_14 ?_
      refine j_callVi C (d := 0) (As := []) (st := [.int (sI a811)]) 88 (s_lt rfl rfl) (s_kc (c := 4) rfl rfl) (by decide) rfl (s1_X5_everyKind hM812) gX0_mostAlike_X5_everyKind rfl hdX5_everyKind (by decide) (Nat.le_of_ble_eq_true rfl) dX0_mostAlike_17 rfl (fun r814 M815 h816 => ?_)
      obtain ⟨a818, rfl, rfl, h817⟩ := h816
      refine y_icmp_gt C 92 dX0_mostAlike_20 (by decide) (by omega) (fun h819 => ?_) (fun h819 => ?_)
      · refine j_iload_n C 2 2 dX0_mostAlike_92 rfl rfl ?_
        exact hret _ _ _ _ dX0_mostAlike_93 ⟨a810, rfl, hM812, by omega⟩
      · refine j_aload_n C 0 0 dX0_mostAlike_23 rfl rfl ?_
        refine y_getC C 0 96 fX0_mostAlike_9 rfl rfl ft_0_1 sm_0_1 rfl hM812 dX0_mostAlike_24 ?_
        refine j_iload_n C 3 3 dX0_mostAlike_27 rfl rfl ?_
        refine y_iald C 43 256 _ _ rfl rfl rfl ak_43 an_43 rfl (sb_43 _) hM812 dX0_mostAlike_28 (by omega) (fun a820 ea820 la820 ua820 => ?_)
        refine y_iconst C dX0_mostAlike_29 ?_
        refine y_icmp_eq C 86 dX0_mostAlike_30 (by decide) (by omega) (fun h821 => ?_) (fun h821 => ?_)
        · refine y_iinc C 3 [(3, .int (sI (a811 + 1))), (0, .ref (ad 95)), (1, .int (sI a1)), (2, .int (sI a810))] dX0_mostAlike_86 rfl (by decide) rfl ?_
          refine j_goto C 12 dX0_mostAlike_89 (by decide) ?_
          refine j_lv [1, 2, 3, 0] rfl ?_; exact ih808 a810 (a811 + 1) M812 (by omega) hM812
        · refine j_aload_n C 0 0 dX0_mostAlike_33 rfl rfl ?_
          refine y_getC C 0 88 fX0_mostAlike_25 rfl rfl ft_0_0 sm_0_0 rfl hM812 dX0_mostAlike_34 ?_
          refine j_aload_n C 0 0 dX0_mostAlike_37 rfl rfl ?_
          refine y_getC C 0 96 fX0_mostAlike_9 rfl rfl ft_0_1 sm_0_1 rfl hM812 dX0_mostAlike_38 ?_
          refine j_iload_n C 3 3 dX0_mostAlike_41 rfl rfl ?_
          refine y_iald C 43 256 _ _ rfl rfl rfl ak_43 an_43 rfl (sb_43 _) hM812 dX0_mostAlike_42 (by omega) (fun a822 ea822 la822 ua822 => ?_)
          refine j_iload_n C 1 1 dX0_mostAlike_43 rfl rfl ?_
          refine j_callVi C (d := 0) (As := [.int (sI a822), .int (sI a1)]) (st := []) 88 (s_lt rfl rfl) (s_kc (c := 4) rfl rfl) (by decide) rfl (s1_X5_pick hM812 a822 (by omega) a1 (by omega)) gX0_mostAlike_X5_pick rfl hdX5_pick (by decide) (Nat.le_of_ble_eq_true rfl) dX0_mostAlike_44 rfl (fun r823 M824 h825 => ?_)
          obtain ⟨a827, rfl, rfl, h826⟩ := h825
          refine j_istore C 4 [(4, .int (sI a827)), (0, .ref (ad 95)), (1, .int (sI a1)), (2, .int (sI a810)), (3, .int (sI a811))] dX0_mostAlike_47 (by decide) rfl ?_
          refine j_iload C 0 dX0_mostAlike_49 rfl ?_
          have J830 : ∀ (a829 : Int), (0 ≤ a829 ∧ a829 ≤ 9) → jj p l e (cn_R 1) s m args below meth c 0 0 Q 6 dC dI ad cA A M812 61 [(0, .ref (ad 95)), (1, .int (sI a1)), (2, .int (sI a810)), (3, .int (sI a811))] [.int (sI a829)] := by
            intro a829 h831
            refine j_istore C 5 [(5, .int (sI a829)), (0, .ref (ad 95)), (1, .int (sI a1)), (2, .int (sI a810)), (3, .int (sI a811))] dX0_mostAlike_61 (by decide) rfl ?_
            refine j_aload_n C 1 0 dX0_mostAlike_63 rfl rfl ?_
            refine y_getC C 0 97 fX0_mostAlike_15 rfl rfl ft_0_2 sm_0_2 rfl hM812 dX0_mostAlike_64 ?_
            refine j_iload C 0 dX0_mostAlike_67 rfl ?_
            refine j_dup2 C dX0_mostAlike_69 rfl rfl ?_
            refine y_iald C 44 10 _ _ rfl rfl rfl ak_44 an_44 rfl (sb_44 _) hM812 dX0_mostAlike_70 (by omega) (fun a832 ea832 la832 ua832 => ?_)
            refine y_iconst C dX0_mostAlike_71 ?_
            refine y_iadd0 C dX0_mostAlike_72 (fun a833 la833 ua833 => ?_)
            refine y_iastF C 44 10 rfl rfl rfl ak_44 an_44 rfl (sb_44 _) hM812 (PX.w hpr rfl rfl) dX0_mostAlike_73 (by omega) (fun M834 eM834 hM834 => ?_)
            refine j_iload_n C 3 2 dX0_mostAlike_74 rfl rfl ?_
            refine j_aload_n C 1 0 dX0_mostAlike_75 rfl rfl ?_
            refine y_getC C 0 97 fX0_mostAlike_15 rfl rfl ft_0_2 sm_0_2 rfl hM834 dX0_mostAlike_76 ?_
            refine j_iload C 0 dX0_mostAlike_79 rfl ?_
            refine y_iald C 44 10 _ _ rfl rfl rfl ak_44 an_44 rfl (sb_44 _) hM834 dX0_mostAlike_81 (by omega) (fun a835 ea835 la835 ua835 => ?_)
            refine y_mmax C wX0_mostAlike_65_0 wX0_mostAlike_65_1 wX0_mostAlike_65_2 wX0_mostAlike_65_3 (by decide) (Nat.le_of_ble_eq_true rfl) dX0_mostAlike_82 (by omega) (fun a836 ha836 => ?_)
            refine j_istore_n C 2 [(2, .int (sI a836)), (5, .int (sI a829)), (0, .ref (ad 95)), (1, .int (sI a1)), (3, .int (sI a811))] dX0_mostAlike_85 rfl (by decide) rfl ?_
            refine y_iinc C 4 [(3, .int (sI (a811 + 1))), (2, .int (sI a836)), (5, .int (sI a829)), (0, .ref (ad 95)), (1, .int (sI a1))] dX0_mostAlike_86 rfl (by decide) rfl ?_
            refine j_goto C 12 dX0_mostAlike_89 (by decide) ?_
            refine j_lv [3, 4, 1, 0] rfl ?_; exact ih808 a836 (a811 + 1) M834 (by omega) hM834
          refine y_if_lt C 59 dX0_mostAlike_51 (by decide) (by omega) (fun h828 => ?_) (fun h828 => ?_)
          · refine y_bipush C dX0_mostAlike_59 rfl ?_
            refine j_lv [1, 2, 3, 4] rfl ?_; exact J830 9 (by omega)
          · refine j_iload C 0 dX0_mostAlike_54 rfl ?_
            refine j_goto C 61 dX0_mostAlike_56 (by decide) ?_
            refine j_lv [1, 2, 3, 4] rfl ?_; exact J830 a827 (by omega)
  refine j_lv [2, 3, 1, 0] rfl ?_; exact L809 4294967304 0 0 M102 (by omega) hM102
set_option maxHeartbeats 4000000 in
theorem s1_X0_mostTelling {l : Launch} {dC : Nat → ClassId} {dI : Nat → Nat → Nat} {ad : Nat → Nat} {cA : Nat → ClassId} {pr : Nat → Nat → Bool} {Kz : mm_M} {M0 : mm_M} (hM0 : INV pr Kz M0) (hpr : PX pr)  : Ci l 2 yX0_mostTelling wsX0_mostTelling dC dI ad cA [.ref (ad 95)] M0 (fun r M' => ∃ a : Int, r = sI a ∧ INV pr Kz M' ∧ (-1) ≤ a ∧ a ≤ 5) := by
  refine ci_of (cc := cX0_mostTelling) (maxL := 5) (ty := .int) (lv := [(0, .ref (ad 95))]) (by decide) rfl (fun r M' hp => rfl) (Nat.le_of_ble_eq_true rfl) rfl ?_
  intro p e s m args below meth c A Q C hret
  refine y_iconst C dX0_mostTelling_0 ?_
  refine j_istore_n C 1 [(1, .int (sI (-1))), (0, .ref (ad 95))] dX0_mostTelling_1 rfl (by decide) rfl ?_
  refine y_sipush C dX0_mostTelling_2 rfl ?_
  refine j_istore_n C 2 [(2, .int (sI 257)), (1, .int (sI (-1))), (0, .ref (ad 95))] dX0_mostTelling_5 rfl (by decide) rfl ?_
  refine y_iconst C dX0_mostTelling_6 ?_
  refine j_istore_n C 3 [(3, .int (sI 0)), (2, .int (sI 257)), (1, .int (sI (-1))), (0, .ref (ad 95))] dX0_mostTelling_7 rfl (by decide) rfl ?_
  have L215 : ∀ (n213 : Nat), ∀ (a216 : Int) (a217 : Int) (a218 : Int) (M219 : mm_M), ((-1) ≤ a216 ∧ a216 ≤ 5 ∧ 0 ≤ a217 ∧ a217 ≤ 257 ∧ 0 ≤ a218 ∧ a218 ≤ 6 ∧ (6 - a218) < (n213 : Int)) → INV pr Kz M219 → jj p l e (cn_R 2) s m args below meth c 0 0 Q 5 dC dI ad cA A M219 8 [(0, .ref (ad 95)), (1, .int (sI a216)), (2, .int (sI a217)), (3, .int (sI a218))] [] := by
    intro n213
    induction n213 with
    | zero =>
      intro a216 a217 a218 M219 h220 hM219
      exfalso; omega
    | succ n213 ih214 =>
      intro a216 a217 a218 M219 h220 hM219
      refine j_iload_n C 3 3 dX0_mostTelling_8 rfl rfl ?_
      refine j_aload_n C 0 0 dX0_mostTelling_9 rfl rfl ?_
      refine y_getC C 0 88 fX0_mostTelling_25 rfl rfl ft_0_0 sm_0_0 rfl hM219 dX0_mostTelling_10 ?_
      refine j_callVi C (d := 0) (As := []) (st := [.int (sI a218)]) 88 (s_lt rfl rfl) (s_kc (c := 4) rfl rfl) (by decide) rfl (s1_X5_buyers hM219) gX0_mostTelling_X5_buyers rfl hdX5_buyers (by decide) (Nat.le_of_ble_eq_true rfl) dX0_mostTelling_13 rfl (fun r221 M222 h223 => ?_)
      obtain ⟨a225, rfl, rfl, h224⟩ := h223
      refine y_icmp_ge C 43 dX0_mostTelling_16 (by decide) (by omega) (fun h226 => ?_) (fun h226 => ?_)
      · refine j_iload_n C 1 1 dX0_mostTelling_43 rfl rfl ?_
        exact hret _ _ _ _ dX0_mostTelling_44 ⟨a216, rfl, hM219, by omega⟩
      · refine j_aload_n C 0 0 dX0_mostTelling_19 rfl rfl ?_
        refine j_iload_n C 3 3 dX0_mostTelling_20 rfl rfl ?_
        refine j_callVi C (d := 1) (As := [.int (sI a218)]) (st := []) 95 (s_lt rfl rfl) (s_kc (c := 0) rfl rfl) (by decide) rfl (s1_X0_mostAlike hM219 hpr a218 (by omega)) gX0_mostTelling_X0_mostAlike rfl hdX0_mostAlike (by decide) (Nat.le_of_ble_eq_true rfl) dX0_mostTelling_21 rfl (fun r227 M228 h229 => ?_)
        obtain ⟨a231, rfl, hM228, h230⟩ := h229
        refine j_istore C 4 [(4, .int (sI a231)), (0, .ref (ad 95)), (1, .int (sI a216)), (2, .int (sI a217)), (3, .int (sI a218))] dX0_mostTelling_24 (by decide) rfl ?_
        refine j_iload C 0 dX0_mostTelling_26 rfl ?_
        refine j_iload_n C 3 2 dX0_mostTelling_28 rfl rfl ?_
        refine y_icmp_ge C 37 dX0_mostTelling_29 (by decide) (by omega) (fun h232 => ?_) (fun h232 => ?_)
        · refine y_iinc C 4 [(3, .int (sI (a218 + 1))), (4, .int (sI a231)), (0, .ref (ad 95)), (1, .int (sI a216)), (2, .int (sI a217))] dX0_mostTelling_37 rfl (by decide) rfl ?_
          refine j_goto C 8 dX0_mostTelling_40 (by decide) ?_
          refine j_lv [2, 3, 4, 0] rfl ?_; exact ih214 a216 a217 (a218 + 1) M228 (by omega) hM228
        · refine j_iload C 0 dX0_mostTelling_32 rfl ?_
          refine j_istore_n C 2 [(2, .int (sI a231)), (4, .int (sI a231)), (0, .ref (ad 95)), (1, .int (sI a216)), (3, .int (sI a218))] dX0_mostTelling_34 rfl (by decide) rfl ?_
          refine j_iload_n C 4 3 dX0_mostTelling_35 rfl rfl ?_
          refine j_istore_n C 1 [(1, .int (sI a218)), (2, .int (sI a231)), (4, .int (sI a231)), (0, .ref (ad 95)), (3, .int (sI a218))] dX0_mostTelling_36 rfl (by decide) rfl ?_
          refine y_iinc C 4 [(3, .int (sI (a218 + 1))), (1, .int (sI a218)), (2, .int (sI a231)), (4, .int (sI a231)), (0, .ref (ad 95))] dX0_mostTelling_37 rfl (by decide) rfl ?_
          refine j_goto C 8 dX0_mostTelling_40 (by decide) ?_
          refine j_lv [4, 1, 2, 0] rfl ?_; exact ih214 a218 a231 (a218 + 1) M228 (by omega) hM228
  refine j_lv [3, 2, 1, 0] rfl ?_; exact L215 2010 (-1) 257 0 M0 (by omega) hM0
set_option maxHeartbeats 4000000 in
theorem s1_X11_ask {l : Launch} {dC : Nat → ClassId} {dI : Nat → Nat → Nat} {ad : Nat → Nat} {cA : Nat → ClassId} {pr : Nat → Nat → Bool} {Kz : mm_M} {M0 : mm_M} (hM0 : INV pr Kz M0) (hpr : PX pr) (a1 : Int) (ha1 : -2147483648 ≤ a1 ∧ a1 ≤ 2147483647) : Ci l 6 yX11_ask wsX11_ask dC dI ad cA [.ref (ad 0), .int (sI a1)] M0 (fun r M' => ∃ a : Int, r = sI a ∧ INV pr Kz M' ∧ (-6) ≤ a ∧ a ≤ 5) := by
  refine ci_of (cc := cX11_ask) (maxL := 3) (ty := .int) (lv := [(0, .ref (ad 0)), (1, .int (sI a1))]) (by decide) rfl (fun r M' hp => rfl) (Nat.le_of_ble_eq_true rfl) rfl ?_
  intro p e s m args below meth c A Q C hret
  refine j_aload_n C 0 0 dX11_ask_0 rfl rfl ?_
  refine j_iload_n C 1 1 dX11_ask_1 rfl rfl ?_
  refine j_callVi C (d := 2) (As := [.int (sI a1)]) (st := []) 0 (s_lt rfl rfl) (s_kc (c := 10) rfl rfl) (by decide) rfl (s1_X11_seenRefusal hM0 a1 (by omega)) gX11_ask_X11_seenRefusal rfl hdX11_seenRefusal (by decide) (Nat.le_of_ble_eq_true rfl) dX11_ask_2 rfl (fun r101 M102 h103 => ?_)
  obtain ⟨a105, rfl, rfl, h104⟩ := h103
  refine j_istore_n C 2 [(2, .int (sI a105)), (0, .ref (ad 0)), (1, .int (sI a1))] dX11_ask_5 rfl (by decide) rfl ?_
  refine j_iload_n C 0 2 dX11_ask_6 rfl rfl ?_
  refine y_if_eq C 12 dX11_ask_7 (by decide) (by omega) (fun h106 => ?_) (fun h106 => ?_)
  · refine j_aload_n C 1 0 dX11_ask_12 rfl rfl ?_
    refine y_getC C 10 88 fX11_ask_94 rfl rfl ft_10_14 sm_10_14 rfl hM0 dX11_ask_13 ?_
    refine j_aload_n C 1 0 dX11_ask_16 rfl rfl ?_
    refine y_getM C 10 6 fX11_ask_26 rfl rfl ft_10_4 sm_10_4 (by decide) hM0 dX11_ask_17 (fun v107 ev107 cv107 => ?_)
    refine j_aload_n C 1 0 dX11_ask_20 rfl rfl ?_
    refine y_getC C 10 12 fX11_ask_36 rfl rfl ft_10_6 sm_10_6 rfl hM0 dX11_ask_21 ?_
    refine j_callVv C (d := 5) (As := [.ref (ad v107), .ref (ad 12)]) (st := []) 88 (s_lt rfl rfl) (s_kc (c := 4) rfl rfl) (by decide) rfl (s1_X5_lookEverywhere hM0 hpr cv107 rfl) gX11_ask_X5_lookEverywhere rfl hdX5_lookEverywhere (by decide) (Nat.le_of_ble_eq_true rfl) dX11_ask_24 rfl (fun M109 h110 => ?_)
    have hM109 := h110
    refine j_aload_n C 1 0 dX11_ask_27 rfl rfl ?_
    refine y_getC C 10 95 fX11_ask_103 rfl rfl ft_10_15 sm_10_15 rfl hM109 dX11_ask_28 ?_
    refine j_aload_n C 1 0 dX11_ask_31 rfl rfl ?_
    refine y_getC C 10 50 fX11_ask_52 rfl rfl ft_10_9 sm_10_9 rfl hM109 dX11_ask_32 ?_
    refine j_iload_n C 2 1 dX11_ask_35 rfl rfl ?_
    refine y_aald C 28 4 9 rfl rfl rfl rfl an_28 rfl sma_28 sta_28 (by decide) hM109 dX11_ask_36 (by omega) (fun v112 cv112 => ?_)
    refine j_callVv C (d := 3) (As := [.ref (ad v112)]) (st := []) 95 (s_lt rfl rfl) (s_kc (c := 0) rfl rfl) (by decide) rfl (s1_X0_gather hM109 hpr cv112) gX11_ask_X0_gather rfl hdX0_gather (by decide) (Nat.le_of_ble_eq_true rfl) dX11_ask_37 rfl (fun M114 h115 => ?_)
    have hM114 := h115
    refine j_aload_n C 1 0 dX11_ask_40 rfl rfl ?_
    refine y_getC C 10 95 fX11_ask_103 rfl rfl ft_10_15 sm_10_15 rfl hM114 dX11_ask_41 ?_
    refine y_getI C 0 _ _ fX11_ask_354 rfl rfl ft_0_3 sb_0_3 hM114 dX11_ask_44 (fun a117 ea117 la117 ua117 => ?_)
    refine y_if_ne C 54 dX11_ask_47 (by decide) (by omega) (fun h119 => ?_) (fun h119 => ?_)
    · refine j_aload_n C 1 0 dX11_ask_54 rfl rfl ?_
      refine y_getC C 10 95 fX11_ask_103 rfl rfl ft_10_15 sm_10_15 rfl hM114 dX11_ask_55 ?_
      refine j_callVi C (d := 2) (As := []) (st := []) 95 (s_lt rfl rfl) (s_kc (c := 0) rfl rfl) (by decide) rfl (s1_X0_mostTelling hM114 hpr) gX11_ask_X0_mostTelling rfl hdX0_mostTelling (by decide) (Nat.le_of_ble_eq_true rfl) dX11_ask_58 rfl (fun r120 M121 h122 => ?_)
      obtain ⟨a124, rfl, hM121, h123⟩ := h122
      exact hret _ _ _ _ dX11_ask_61 ⟨a124, rfl, hM121, by omega⟩
    · refine y_iconst C dX11_ask_50 ?_
      refine j_goto C 61 dX11_ask_51 (by decide) ?_
      exact hret _ _ _ _ dX11_ask_61 ⟨(-1), rfl, hM114, by omega⟩
  · refine j_iload_n C 0 2 dX11_ask_10 rfl rfl ?_
    exact hret _ _ _ _ dX11_ask_11 ⟨a105, rfl, hM0, by omega⟩
set_option maxHeartbeats 4000000 in
theorem s1_X11_cameRefusal {l : Launch} {dC : Nat → ClassId} {dI : Nat → Nat → Nat} {ad : Nat → Nat} {cA : Nat → ClassId} {pr : Nat → Nat → Bool} {Kz : mm_M} {M0 : mm_M} (hM0 : INV pr Kz M0) (a1 : Int) (ha1 : -2147483648 ≤ a1 ∧ a1 ≤ 2147483647) : Ci l 2 yX11_cameRefusal wsX11_cameRefusal dC dI ad cA [.ref (ad 0), .int (sI a1)] M0 (fun r M' => ∃ a : Int, r = sI a ∧ M0 = M' ∧ (-6) ≤ a ∧ a ≤ 0 ∧ (¬ a = 0 ∨ (0 ≤ a1 ∧ a1 < 4))) := by
  refine ci_of (cc := cX11_cameRefusal) (maxL := 5) (ty := .int) (lv := [(0, .ref (ad 0)), (1, .int (sI a1))]) (by decide) rfl (fun r M' hp => rfl) (Nat.le_of_ble_eq_true rfl) rfl ?_
  intro p e s m args below meth c A Q C hret
  refine j_aload_n C 0 0 dX11_cameRefusal_0 rfl rfl ?_
  refine j_iload_n C 1 1 dX11_cameRefusal_1 rfl rfl ?_
  refine j_callVi C (d := 1) (As := [.int (sI a1)]) (st := []) 0 (s_lt rfl rfl) (s_kc (c := 10) rfl rfl) (by decide) rfl (s1_X11_trayRefusal hM0 a1 (by omega)) gX11_cameRefusal_X11_trayRefusal rfl hdX11_trayRefusal (by decide) (Nat.le_of_ble_eq_true rfl) dX11_cameRefusal_2 rfl (fun r101 M102 h103 => ?_)
  obtain ⟨a105, rfl, rfl, h104⟩ := h103
  refine j_istore_n C 2 [(2, .int (sI a105)), (0, .ref (ad 0)), (1, .int (sI a1))] dX11_cameRefusal_5 rfl (by decide) rfl ?_
  refine j_iload_n C 0 2 dX11_cameRefusal_6 rfl rfl ?_
  refine y_if_eq C 12 dX11_cameRefusal_7 (by decide) (by omega) (fun h106 => ?_) (fun h106 => ?_)
  · refine j_aload_n C 1 0 dX11_cameRefusal_12 rfl rfl ?_
    refine y_getC C 10 50 fX11_cameRefusal_52 rfl rfl ft_10_9 sm_10_9 rfl hM0 dX11_cameRefusal_13 ?_
    refine j_iload_n C 2 1 dX11_cameRefusal_16 rfl rfl ?_
    refine y_aald C 28 4 9 rfl rfl rfl rfl an_28 rfl sma_28 sta_28 (by decide) hM0 dX11_cameRefusal_17 (by omega) (fun v107 cv107 => ?_)
    refine j_astore_n C 3 [(3, .ref (ad v107)), (2, .int (sI a105)), (0, .ref (ad 0)), (1, .int (sI a1))] dX11_cameRefusal_18 rfl (by decide) rfl ?_
    refine j_aload_n C 0 3 dX11_cameRefusal_19 rfl rfl ?_
    refine j_callVi C (d := 1) (As := []) (st := []) v107 (s_lt cv107 rfl) (s_kc (c := 9) cv107 rfl) (by decide) rfl (s1_X10_size hM0 cv107) gX11_cameRefusal_X10_size rfl hdX10_size (by decide) (Nat.le_of_ble_eq_true rfl) dX11_cameRefusal_20 rfl (fun r108 M109 h110 => ?_)
    obtain ⟨a112, rfl, rfl, h111⟩ := h110
    refine y_iconst C dX11_cameRefusal_23 ?_
    refine y_icmp_lt C 36 dX11_cameRefusal_24 (by decide) (by omega) (fun h113 => ?_) (fun h113 => ?_)
    · refine y_bipush C dX11_cameRefusal_36 rfl ?_
      exact hret _ _ _ _ dX11_cameRefusal_38 ⟨(-4), rfl, rfl, by omega⟩
    · refine j_aload_n C 0 3 dX11_cameRefusal_27 rfl rfl ?_
      refine j_callVi C (d := 1) (As := []) (st := []) v107 (s_lt cv107 rfl) (s_kc (c := 9) cv107 rfl) (by decide) rfl (s1_X10_size hM0 cv107) gX11_cameRefusal_X10_size rfl hdX10_size (by decide) (Nat.le_of_ble_eq_true rfl) dX11_cameRefusal_28 rfl (fun r114 M115 h116 => ?_)
      obtain ⟨a118, rfl, rfl, h117⟩ := h116
      refine y_bipush C dX11_cameRefusal_31 rfl ?_
      refine y_icmp_le C 39 dX11_cameRefusal_33 (by decide) (by omega) (fun h119 => ?_) (fun h119 => ?_)
      · refine y_iconst C dX11_cameRefusal_39 ?_
        refine j_istore C 4 [(4, .int (sI 0)), (3, .ref (ad v107)), (2, .int (sI a105)), (0, .ref (ad 0)), (1, .int (sI a1))] dX11_cameRefusal_40 (by decide) rfl ?_
        have L479 : ∀ (n477 : Nat), ∀ (a480 : Int), (0 ≤ a480 ∧ a480 ≤ 40 ∧ (40 - a480) < (n477 : Int)) → jj p l e (cn_R 2) s m args below meth c 0 0 Q 5 dC dI ad cA A M0 42 [(0, .ref (ad 0)), (3, .ref (ad v107)), (4, .int (sI a480))] [] := by
          intro n477
          induction n477 with
          | zero =>
            intro a480 h481
            exfalso; omega
          | succ n477 ih478 =>
            intro a480 h481
            refine j_iload C 2 dX11_cameRefusal_42 rfl ?_
            refine j_aload_n C 1 3 dX11_cameRefusal_44 rfl rfl ?_
            refine j_callVi C (d := 1) (As := []) (st := [.int (sI a480)]) v107 (s_lt cv107 rfl) (s_kc (c := 9) cv107 rfl) (by decide) rfl (s1_X10_size hM0 cv107) gX11_cameRefusal_X10_size rfl hdX10_size (by decide) (Nat.le_of_ble_eq_true rfl) dX11_cameRefusal_45 rfl (fun r482 M483 h484 => ?_)
            obtain ⟨a486, rfl, rfl, h485⟩ := h484
            refine y_icmp_ge C 91 dX11_cameRefusal_48 (by decide) (by omega) (fun h487 => ?_) (fun h487 => ?_)
            · refine y_iconst C dX11_cameRefusal_91 ?_
              exact hret _ _ _ _ dX11_cameRefusal_92 ⟨0, rfl, rfl, by omega⟩
            · refine j_aload_n C 1 3 dX11_cameRefusal_51 rfl rfl ?_
              refine j_iload C 2 dX11_cameRefusal_52 rfl ?_
              refine j_callVj C (d := 1) (As := [.int (sI a480)]) (st := []) v107 (s_lt cv107 rfl) (s_kc (c := 9) cv107 rfl) (by decide) rfl (s1_X10_numberAt hM0 cv107 a480 (by omega)) gX11_cameRefusal_X10_numberAt rfl hdX10_numberAt (by decide) (Nat.le_of_ble_eq_true rfl) dX11_cameRefusal_54 rfl (fun r488 M489 h490 => ?_)
              obtain ⟨a492, rfl, rfl, h491⟩ := h490
              refine y_ldc2 C (-1) dX11_cameRefusal_57 kX11_cameRefusal_219 rfl ?_
              refine y_lcmp_lt C 82 dX11_cameRefusal_60 dX11_cameRefusal_61 (by decide) (by omega) (fun h493 => ?_) (fun h493 => ?_)
              · refine y_bipush C dX11_cameRefusal_82 rfl ?_
                exact hret _ _ _ _ dX11_cameRefusal_84 ⟨(-3), rfl, rfl, by omega⟩
              · refine j_aload_n C 1 3 dX11_cameRefusal_64 rfl rfl ?_
                refine j_iload C 2 dX11_cameRefusal_65 rfl ?_
                refine j_callVj C (d := 1) (As := [.int (sI a480)]) (st := []) v107 (s_lt cv107 rfl) (s_kc (c := 9) cv107 rfl) (by decide) rfl (s1_X10_numberAt hM0 cv107 a480 (by omega)) gX11_cameRefusal_X10_numberAt rfl hdX10_numberAt (by decide) (Nat.le_of_ble_eq_true rfl) dX11_cameRefusal_67 rfl (fun r494 M495 h496 => ?_)
                obtain ⟨a498, rfl, rfl, h497⟩ := h496
                refine j_aload_n C 0 0 dX11_cameRefusal_70 rfl rfl ?_
                refine y_getC C 10 12 fX11_cameRefusal_36 rfl rfl ft_10_6 sm_10_6 rfl hM0 dX11_cameRefusal_71 ?_
                refine y_getI C 8 _ _ fX11_cameRefusal_160 rfl rfl ft_8_0 sb_8_0 hM0 dX11_cameRefusal_74 (fun a499 ea499 la499 ua499 => ?_)
                refine y_i2l C dX11_cameRefusal_77 (by omega) ?_
                refine y_lcmp_lt C 85 dX11_cameRefusal_78 dX11_cameRefusal_79 (by decide) (by omega) (fun h501 => ?_) (fun h501 => ?_)
                · refine y_iinc C 2 [(4, .int (sI (a480 + 1))), (0, .ref (ad 0)), (3, .ref (ad v107))] dX11_cameRefusal_85 rfl (by decide) rfl ?_
                  refine j_goto C 42 dX11_cameRefusal_88 (by decide) ?_
                  refine j_lv [1, 2, 0] rfl ?_; exact ih478 (a480 + 1) (by omega)
                · refine y_bipush C dX11_cameRefusal_82 rfl ?_
                  exact hret _ _ _ _ dX11_cameRefusal_84 ⟨(-3), rfl, rfl, by omega⟩
        refine j_lv [3, 1, 0] rfl ?_; exact L479 2010 0 (by omega)
      · refine y_bipush C dX11_cameRefusal_36 rfl ?_
        exact hret _ _ _ _ dX11_cameRefusal_38 ⟨(-4), rfl, rfl, by omega⟩
  · refine j_iload_n C 0 2 dX11_cameRefusal_10 rfl rfl ?_
    exact hret _ _ _ _ dX11_cameRefusal_11 ⟨a105, rfl, rfl, by omega⟩
set_option maxHeartbeats 4000000 in
theorem s1_X0_rows {l : Launch} {dC : Nat → ClassId} {dI : Nat → Nat → Nat} {ad : Nat → Nat} {cA : Nat → ClassId} {pr : Nat → Nat → Bool} {Kz : mm_M} {M0 : mm_M} (hM0 : INV pr Kz M0) (hpr : PX pr) {v1 : Nat} (cv1 : s_c v1 = 9) : Cj l 2 yX0_rows wsX0_rows dC dI ad cA [.ref (ad 95), .ref (ad v1)] M0 (fun r M' => ∃ a : Int, r = sJ a ∧ INV pr Kz M' ∧ (-9223372036854775808) ≤ a ∧ a ≤ 9223372036854775807) := by
  refine cj_of (cc := cX0_rows) (maxL := 3) (lv := [(0, .ref (ad 95)), (1, .ref (ad v1))]) (by decide) rfl (Nat.le_of_ble_eq_true rfl) rfl ?_
  intro p e s m args below meth c A Q C hret
  refine j_aload_n C 0 0 dX0_rows_0 rfl rfl ?_
  refine y_getC C 0 88 fX0_rows_25 rfl rfl ft_0_0 sm_0_0 rfl hM0 dX0_rows_1 ?_
  refine j_callVv C (d := 1) (As := []) (st := []) 88 (s_lt rfl rfl) (s_kc (c := 4) rfl rfl) (by decide) rfl (s1_X5_beginRows hM0 hpr) gX0_rows_X5_beginRows rfl hdX5_beginRows (by decide) (Nat.le_of_ble_eq_true rfl) dX0_rows_4 rfl (fun M102 h103 => ?_)
  have hM102 := h103
  refine y_iconst C dX0_rows_7 ?_
  refine j_istore_n C 2 [(2, .int (sI 0)), (0, .ref (ad 95)), (1, .ref (ad v1))] dX0_rows_8 rfl (by decide) rfl ?_
  have L413 : ∀ (n411 : Nat), ∀ (a414 : Int) (M415 : mm_M), (0 ≤ a414 ∧ a414 ≤ 40 ∧ (40 - a414) < (n411 : Int)) → INV pr Kz M415 → jj p l e (cn_R 2) s m args below meth c 0 0 Q 3 dC dI ad cA A M415 9 [(0, .ref (ad 95)), (1, .ref (ad v1)), (2, .int (sI a414))] [] := by
    intro n411
    induction n411 with
    | zero =>
      intro a414 M415 h416 hM415
      exfalso; omega
    | succ n411 ih412 =>
      intro a414 M415 h416 hM415
      refine j_iload_n C 2 2 dX0_rows_9 rfl rfl ?_
      refine j_aload_n C 1 1 dX0_rows_10 rfl rfl ?_
      refine j_callVi C (d := 1) (As := []) (st := [.int (sI a414)]) v1 (s_lt cv1 rfl) (s_kc (c := 9) cv1 rfl) (by decide) rfl (s1_X10_size hM415 cv1) gX0_rows_X10_size rfl hdX10_size (by decide) (Nat.le_of_ble_eq_true rfl) dX0_rows_11 rfl (fun r417 M418 h419 => ?_)
      obtain ⟨a421, rfl, rfl, h420⟩ := h419
      refine y_icmp_ge C 36 dX0_rows_14 (by decide) (by omega) (fun h422 => ?_) (fun h422 => ?_)
      · refine j_aload_n C 0 0 dX0_rows_36 rfl rfl ?_
        refine y_getC C 0 88 fX0_rows_25 rfl rfl ft_0_0 sm_0_0 rfl hM415 dX0_rows_37 ?_
        refine j_callVj C (d := 0) (As := []) (st := []) 88 (s_lt rfl rfl) (s_kc (c := 4) rfl rfl) (by decide) rfl (s1_X5_allWays hM415) gX0_rows_X5_allWays rfl hdX5_allWays (by decide) (Nat.le_of_ble_eq_true rfl) dX0_rows_40 rfl (fun r433 M434 h435 => ?_)
        obtain ⟨a437, rfl, rfl, h436⟩ := h435
        exact hret _ _ _ _ dX0_rows_43 ⟨a437, rfl, hM415, by omega⟩
      · refine j_aload_n C 0 0 dX0_rows_17 rfl rfl ?_
        refine y_getC C 0 88 fX0_rows_25 rfl rfl ft_0_0 sm_0_0 rfl hM415 dX0_rows_18 ?_
        refine j_aload_n C 1 1 dX0_rows_21 rfl rfl ?_
        refine j_iload_n C 2 2 dX0_rows_22 rfl rfl ?_
        refine j_callVj C (d := 1) (As := [.int (sI a414)]) (st := [.ref (ad 88)]) v1 (s_lt cv1 rfl) (s_kc (c := 9) cv1 rfl) (by decide) rfl (s1_X10_numberAt hM415 cv1 a414 (by omega)) gX0_rows_X10_numberAt rfl hdX10_numberAt (by decide) (Nat.le_of_ble_eq_true rfl) dX0_rows_23 rfl (fun r423 M424 h425 => ?_)
        obtain ⟨a427, rfl, rfl, h426⟩ := h425
        refine y_l2i C dX0_rows_26 ?_
        refine y_topI (fun a428 la428 ua428 => ?_)
        refine j_callVv C (d := 1) (As := [.int (sI a428)]) (st := []) 88 (s_lt rfl rfl) (s_kc (c := 4) rfl rfl) (by decide) rfl (s1_X5_lengthenRows hM415 hpr a428 (by omega)) gX0_rows_X5_lengthenRows rfl hdX5_lengthenRows (by decide) (Nat.le_of_ble_eq_true rfl) dX0_rows_27 rfl (fun M430 h431 => ?_)
        have hM430 := h431
        refine y_iinc C 2 [(2, .int (sI (a414 + 1))), (0, .ref (ad 95)), (1, .ref (ad v1))] dX0_rows_30 rfl (by decide) rfl ?_
        refine j_goto C 9 dX0_rows_33 (by decide) ?_
        refine j_lv [1, 2, 0] rfl ?_; exact ih412 (a414 + 1) M430 (by omega) hM430
  refine j_lv [1, 2, 0] rfl ?_; exact L413 2010 0 M102 (by omega) hM102
set_option maxHeartbeats 4000000 in
theorem s1_X11_came {l : Launch} {dC : Nat → ClassId} {dI : Nat → Nat → Nat} {ad : Nat → Nat} {cA : Nat → ClassId} {pr : Nat → Nat → Bool} {Kz : mm_M} {M0 : mm_M} (hM0 : INV pr Kz M0) (hpr : PX pr) (a1 : Int) (ha1 : -2147483648 ≤ a1 ∧ a1 ≤ 2147483647) : Cj l 6 yX11_came wsX11_came dC dI ad cA [.ref (ad 0), .int (sI a1)] M0 (fun r M' => ∃ a : Int, r = sJ a ∧ INV pr Kz M' ∧ (-9223372036854775808) ≤ a ∧ a ≤ 9223372036854775807) := by
  refine cj_of (cc := cX11_came) (maxL := 3) (lv := [(0, .ref (ad 0)), (1, .int (sI a1))]) (by decide) rfl (Nat.le_of_ble_eq_true rfl) rfl ?_
  intro p e s m args below meth c A Q C hret
  refine j_aload_n C 0 0 dX11_came_0 rfl rfl ?_
  refine j_iload_n C 1 1 dX11_came_1 rfl rfl ?_
  refine j_callVi C (d := 2) (As := [.int (sI a1)]) (st := []) 0 (s_lt rfl rfl) (s_kc (c := 10) rfl rfl) (by decide) rfl (s1_X11_cameRefusal hM0 a1 (by omega)) gX11_came_X11_cameRefusal rfl hdX11_cameRefusal (by decide) (Nat.le_of_ble_eq_true rfl) dX11_came_2 rfl (fun r101 M102 h103 => ?_)
  obtain ⟨a105, rfl, rfl, h104⟩ := h103
  refine j_istore_n C 2 [(2, .int (sI a105)), (0, .ref (ad 0)), (1, .int (sI a1))] dX11_came_5 rfl (by decide) rfl ?_
  refine j_iload_n C 0 2 dX11_came_6 rfl rfl ?_
  refine y_if_eq C 13 dX11_came_7 (by decide) (by omega) (fun h106 => ?_) (fun h106 => ?_)
  · refine j_aload_n C 1 0 dX11_came_13 rfl rfl ?_
    refine y_getC C 10 88 fX11_came_94 rfl rfl ft_10_14 sm_10_14 rfl hM0 dX11_came_14 ?_
    refine j_aload_n C 1 0 dX11_came_17 rfl rfl ?_
    refine y_getM C 10 6 fX11_came_26 rfl rfl ft_10_4 sm_10_4 (by decide) hM0 dX11_came_18 (fun v107 ev107 cv107 => ?_)
    refine j_aload_n C 1 0 dX11_came_21 rfl rfl ?_
    refine y_getC C 10 12 fX11_came_36 rfl rfl ft_10_6 sm_10_6 rfl hM0 dX11_came_22 ?_
    refine j_aload_n C 1 0 dX11_came_25 rfl rfl ?_
    refine y_getC C 10 12 fX11_came_36 rfl rfl ft_10_6 sm_10_6 rfl hM0 dX11_came_26 ?_
    refine y_getI C 8 _ _ fX11_came_153 rfl rfl ft_8_4 sb_8_4 hM0 dX11_came_29 (fun a108 ea108 la108 ua108 => ?_)
    refine j_callVv C (d := 5) (As := [.ref (ad v107), .ref (ad 12), .int (sI a108)]) (st := []) 88 (s_lt rfl rfl) (s_kc (c := 4) rfl rfl) (by decide) rfl (s1_X5_look hM0 hpr cv107 rfl a108 (by omega)) gX11_came_X5_look rfl hdX5_look (by decide) (Nat.le_of_ble_eq_true rfl) dX11_came_32 rfl (fun M111 h112 => ?_)
    have hM111 := h112
    refine j_aload_n C 1 0 dX11_came_35 rfl rfl ?_
    refine y_getC C 10 95 fX11_came_103 rfl rfl ft_10_15 sm_10_15 rfl hM111 dX11_came_36 ?_
    refine j_aload_n C 1 0 dX11_came_39 rfl rfl ?_
    refine y_getC C 10 50 fX11_came_52 rfl rfl ft_10_9 sm_10_9 rfl hM111 dX11_came_40 ?_
    refine j_iload_n C 2 1 dX11_came_43 rfl rfl ?_
    refine y_aald C 28 4 9 rfl rfl rfl rfl an_28 rfl sma_28 sta_28 (by decide) hM111 dX11_came_44 (by omega) (fun v114 cv114 => ?_)
    refine j_callVj C (d := 2) (As := [.ref (ad v114)]) (st := []) 95 (s_lt rfl rfl) (s_kc (c := 0) rfl rfl) (by decide) rfl (s1_X0_rows hM111 hpr cv114) gX11_came_X0_rows rfl hdX0_rows (by decide) (Nat.le_of_ble_eq_true rfl) dX11_came_45 rfl (fun r115 M116 h117 => ?_)
    obtain ⟨a119, rfl, hM116, h118⟩ := h117
    exact hret _ _ _ _ dX11_came_48 ⟨a119, rfl, hM116, by omega⟩
  · refine j_iload_n C 0 2 dX11_came_10 rfl rfl ?_
    refine y_i2l C dX11_came_11 (by omega) ?_
    exact hret _ _ _ _ dX11_came_12 ⟨a105, rfl, hM0, by omega⟩
set_option maxHeartbeats 4000000 in
theorem s4_J7_fill_53178 {l : Launch} {dC : Nat → ClassId} {dI : Nat → Nat → Nat} {ad : Nat → Nat} {cA : Nat → ClassId} {pr : Nat → Nat → Bool} {Kz : mm_M} {M0 : mm_M} (hM0 : INV pr Kz M0) (hpr : PX pr) (a1 : Int) (ha1 : -2147483648 ≤ a1 ∧ a1 ≤ 2147483647) : Cv l 0 yJ7_fill_53178 wsJ7_fill_53178 dC dI ad cA [.ref (ad 96), .int (sI a1)] M0 (fun M' => INV pr Kz M') := by
  refine cv_of (cc := cJ7_fill_53178) (maxL := 4) (lv := [(0, .ref (ad 96)), (1, .int (sI a1))]) (by decide) rfl (Nat.le_of_ble_eq_true rfl) rfl ?_
  intro p e s m args below meth c A Q C hret
  refine y_iconst C dJ7_fill_53178_0 ?_
  refine j_istore_n C 2 [(2, .int (sI 0)), (0, .ref (ad 96)), (1, .int (sI a1))] dJ7_fill_53178_1 rfl (by decide) rfl ?_
  refine j_aload_n C 1 0 dJ7_fill_53178_2 rfl rfl ?_
  refine y_alen C 43 256 rfl rfl rfl an_43 rfl rfl dJ7_fill_53178_3 ?_
  refine j_istore_n C 3 [(3, .int (sI 256)), (2, .int (sI 0)), (0, .ref (ad 96)), (1, .int (sI a1))] dJ7_fill_53178_4 rfl (by decide) rfl ?_
  have L211 : ∀ (n209 : Nat), ∀ (a212 : Int) (M213 : mm_M), (0 ≤ a212 ∧ a212 ≤ 256 ∧ (256 - a212) < (n209 : Int)) → INV pr Kz M213 → jj p l e (cn_R 0) s m args below meth c 0 0 Q 4 dC dI ad cA A M213 5 [(0, .ref (ad 96)), (1, .int (sI a1)), (2, .int (sI a212)), (3, .int (sI 256))] [] := by
    intro n209
    induction n209 with
    | zero =>
      intro a212 M213 h214 hM213
      exfalso; omega
    | succ n209 ih210 =>
      intro a212 M213 h214 hM213
      refine j_iload_n C 2 2 dJ7_fill_53178_5 rfl rfl ?_
      refine j_iload_n C 3 3 dJ7_fill_53178_6 rfl rfl ?_
      refine y_icmp_ge C 20 dJ7_fill_53178_7 (by decide) (by omega) (fun h215 => ?_) (fun h215 => ?_)
      · exact hret _ _ _ dJ7_fill_53178_20 hM213
      · refine j_aload_n C 0 0 dJ7_fill_53178_10 rfl rfl ?_
        refine j_iload_n C 2 2 dJ7_fill_53178_11 rfl rfl ?_
        refine j_iload_n C 1 1 dJ7_fill_53178_12 rfl rfl ?_
        refine y_iastF C 43 256 rfl rfl rfl ak_43 an_43 rfl (sb_43 _) hM213 (PX.w hpr rfl rfl) dJ7_fill_53178_13 (by omega) (fun M216 eM216 hM216 => ?_)
        refine y_iinc C 2 [(2, .int (sI (a212 + 1))), (0, .ref (ad 96)), (1, .int (sI a1)), (3, .int (sI 256))] dJ7_fill_53178_14 rfl (by decide) rfl ?_
        refine j_goto C 5 dJ7_fill_53178_17 (by decide) ?_
        refine j_lv [1, 2, 0, 3] rfl ?_; exact ih210 (a212 + 1) M216 (by omega) hM216
  refine j_lv [2, 3, 1, 0] rfl ?_; exact L211 2010 0 M0 (by omega) hM0
set_option maxHeartbeats 4000000 in
theorem s1_X5_isMet {l : Launch} {dC : Nat → ClassId} {dI : Nat → Nat → Nat} {ad : Nat → Nat} {cA : Nat → ClassId} {pr : Nat → Nat → Bool} {Kz : mm_M} {M0 : mm_M} (hM0 : INV pr Kz M0) (a1 : Int) (ha1 : -2147483648 ≤ a1 ∧ a1 ≤ 2147483647) (hp0 : 0 ≤ a1 ∧ a1 ≤ 255) : Ci l 0 yX5_isMet wsX5_isMet dC dI ad cA [.ref (ad 88), .int (sI a1)] M0 (fun r M' => ∃ a : Int, r = sI a ∧ M0 = M' ∧ 0 ≤ a ∧ a ≤ 1 ∧ ((¬ (M0.1 90 (a1).toNat).toInt = 1 ∧ a = 0) ∨ (1 ≤ (M0.1 90 (a1).toNat).toInt ∧ (M0.1 90 (a1).toNat).toInt ≤ 1 ∧ (M0.1 90 (a1).toNat).toInt = 1 ∧ a = 1))) := by
  refine ci_of (cc := cX5_isMet) (maxL := 2) (ty := .boolean) (lv := [(0, .ref (ad 88)), (1, .int (sI a1))]) (by decide) rfl (fun r M' hp => by obtain ⟨a, rfl, -, h⟩ := hp; rcases (show a = 0 ∨ a = 1 by omega) with rfl | rfl <;> rfl) (Nat.le_of_ble_eq_true rfl) rfl ?_
  intro p e s m args below meth c A Q C hret
  refine j_aload_n C 0 0 dX5_isMet_0 rfl rfl ?_
  refine y_getC C 4 90 fX5_isMet_15 rfl rfl ft_4_2 sm_4_2 rfl hM0 dX5_isMet_1 ?_
  refine j_iload_n C 1 1 dX5_isMet_4 rfl rfl ?_
  refine y_iald C 39 256 _ _ rfl rfl rfl ak_39 an_39 rfl (sb_39 _) hM0 dX5_isMet_5 (by omega) (fun a101 ea101 la101 ua101 => ?_)
  refine y_iconst C dX5_isMet_6 ?_
  refine y_icmp_ne C 14 dX5_isMet_7 (by decide) (by omega) (fun h102 => ?_) (fun h102 => ?_)
  · refine y_iconst C dX5_isMet_14 ?_
    exact hret _ _ _ _ dX5_isMet_15 ⟨0, rfl, rfl, by omega⟩
  · refine y_iconst C dX5_isMet_10 ?_
    refine j_goto C 15 dX5_isMet_11 (by decide) ?_
    exact hret _ _ _ _ dX5_isMet_15 ⟨1, rfl, rfl, by omega⟩
set_option maxHeartbeats 4000000 in
theorem s1_X0_fitting {l : Launch} {dC : Nat → ClassId} {dI : Nat → Nat → Nat} {ad : Nat → Nat} {cA : Nat → ClassId} {pr : Nat → Nat → Bool} {Kz : mm_M} {M0 : mm_M} (hM0 : INV pr Kz M0) (a1 : Int) (ha1 : -2147483648 ≤ a1 ∧ a1 ≤ 2147483647) (a2 : Int) (ha2 : -2147483648 ≤ a2 ∧ a2 ≤ 2147483647) (hp0 : 0 ≤ a1 ∧ a1 ≤ 255) : Ci l 1 yX0_fitting wsX0_fitting dC dI ad cA [.ref (ad 95), .int (sI a1), .int (sI a2)] M0 (fun r M' => ∃ a : Int, r = sI a ∧ M0 = M' ∧ 0 ≤ a ∧ a ≤ 63) := by
  refine ci_of (cc := cX0_fitting) (maxL := 6) (ty := .int) (lv := [(0, .ref (ad 95)), (1, .int (sI a1)), (2, .int (sI a2))]) (by decide) rfl (fun r M' hp => rfl) (Nat.le_of_ble_eq_true rfl) rfl ?_
  intro p e s m args below meth c A Q C hret
  refine y_iconst C dX0_fitting_0 ?_
  refine j_istore_n C 3 [(3, .int (sI 0)), (0, .ref (ad 95)), (1, .int (sI a1)), (2, .int (sI a2))] dX0_fitting_1 rfl (by decide) rfl ?_
  refine y_iconst C dX0_fitting_2 ?_
  refine j_istore C 4 [(4, .int (sI 0)), (3, .int (sI 0)), (0, .ref (ad 95)), (1, .int (sI a1)), (2, .int (sI a2))] dX0_fitting_3 (by decide) rfl ?_
  have L299 : ∀ (n297 : Nat), ∀ (a300 : Int) (a301 : Int), (0 ≤ a300 ∧ a300 ≤ 63 ∧ 0 ≤ a301 ∧ a301 ≤ 6 ∧ (6 - a301) < (n297 : Int)) → jj p l e (cn_R 1) s m args below meth c 0 0 Q 6 dC dI ad cA A M0 5 [(0, .ref (ad 95)), (1, .int (sI a1)), (2, .int (sI a2)), (3, .int (sI a300)), (4, .int (sI a301))] [] := by
    intro n297
    induction n297 with
    | zero =>
      intro a300 a301 h302
      exfalso; omega
    | succ n297 ih298 =>
      intro a300 a301 h302
      refine j_iload C 4 dX0_fitting_5 rfl ?_
      refine j_aload_n C 0 0 dX0_fitting_7 rfl rfl ?_
      refine y_getC C 0 88 fX0_fitting_25 rfl rfl ft_0_0 sm_0_0 rfl hM0 dX0_fitting_8 ?_
      refine j_callVi C (d := 0) (As := []) (st := [.int (sI a301)]) 88 (s_lt rfl rfl) (s_kc (c := 4) rfl rfl) (by decide) rfl (s1_X5_buyers hM0) gX0_fitting_X5_buyers rfl hdX5_buyers (by decide) (Nat.le_of_ble_eq_true rfl) dX0_fitting_11 rfl (fun r303 M304 h305 => ?_)
      obtain ⟨a307, rfl, rfl, h306⟩ := h305
      refine y_icmp_ge C 73 dX0_fitting_14 (by decide) (by omega) (fun h308 => ?_) (fun h308 => ?_)
      · refine j_iload_n C 3 3 dX0_fitting_73 rfl rfl ?_
        exact hret _ _ _ _ dX0_fitting_74 ⟨a300, rfl, rfl, by omega⟩
      · refine j_aload_n C 0 0 dX0_fitting_17 rfl rfl ?_
        refine y_getC C 0 88 fX0_fitting_25 rfl rfl ft_0_0 sm_0_0 rfl hM0 dX0_fitting_18 ?_
        refine j_iload_n C 1 1 dX0_fitting_21 rfl rfl ?_
        refine j_iload C 4 dX0_fitting_22 rfl ?_
        refine j_callVi C (d := 0) (As := [.int (sI a1), .int (sI a301)]) (st := []) 88 (s_lt rfl rfl) (s_kc (c := 4) rfl rfl) (by decide) rfl (s1_X5_pick hM0 a1 (by omega) a301 (by omega)) gX0_fitting_X5_pick rfl hdX5_pick (by decide) (Nat.le_of_ble_eq_true rfl) dX0_fitting_24 rfl (fun r309 M310 h311 => ?_)
        obtain ⟨a313, rfl, rfl, h312⟩ := h311
        refine j_istore C 5 [(5, .int (sI a313)), (0, .ref (ad 95)), (1, .int (sI a1)), (2, .int (sI a2)), (3, .int (sI a300)), (4, .int (sI a301))] dX0_fitting_27 (by decide) rfl ?_
        refine j_iload C 0 dX0_fitting_29 rfl ?_
        refine y_if_lt C 67 dX0_fitting_31 (by decide) (by omega) (fun h314 => ?_) (fun h314 => ?_)
        · refine y_iinc C 5 [(4, .int (sI (a301 + 1))), (5, .int (sI a313)), (0, .ref (ad 95)), (1, .int (sI a1)), (2, .int (sI a2)), (3, .int (sI a300))] dX0_fitting_67 rfl (by decide) rfl ?_
          refine j_goto C 5 dX0_fitting_70 (by decide) ?_
          refine j_lv [2, 3, 4, 5, 0] rfl ?_; exact ih298 a300 (a301 + 1) (by omega)
        · refine j_iload_n C 3 2 dX0_fitting_34 rfl rfl ?_
          refine y_iconst C dX0_fitting_35 ?_
          refine y_icmp_eq C 45 dX0_fitting_36 (by decide) (by omega) (fun h315 => ?_) (fun h315 => ?_)
          · refine j_aload_n C 1 0 dX0_fitting_45 rfl rfl ?_
            refine y_getC C 0 96 fX0_fitting_9 rfl rfl ft_0_1 sm_0_1 rfl hM0 dX0_fitting_46 ?_
            refine j_iload_n C 2 1 dX0_fitting_49 rfl rfl ?_
            refine y_iconst C dX0_fitting_50 ?_
            refine j_iload C 0 dX0_fitting_51 rfl ?_
            refine y_shl1 C 7 128 dX0_fitting_53 rfl (by decide) (by omega) (fun a316 la316 ua316 => ?_)
            refine y_iorN C 8 255 dX0_fitting_54 rfl (by decide) (by omega) (fun a317 la317 ua317 => ?_)
            refine y_iald C 43 256 _ _ rfl rfl rfl ak_43 an_43 rfl (sb_43 _) hM0 dX0_fitting_55 (by omega) (fun a318 ea318 la318 ua318 => ?_)
            refine y_iconst C dX0_fitting_56 ?_
            refine y_icmp_ne C 67 dX0_fitting_57 (by decide) (by omega) (fun h319 => ?_) (fun h319 => ?_)
            · refine y_iinc C 5 [(4, .int (sI (a301 + 1))), (5, .int (sI a313)), (0, .ref (ad 95)), (1, .int (sI a1)), (2, .int (sI a2)), (3, .int (sI a300))] dX0_fitting_67 rfl (by decide) rfl ?_
              refine j_goto C 5 dX0_fitting_70 (by decide) ?_
              refine j_lv [2, 3, 4, 5, 0] rfl ?_; exact ih298 a300 (a301 + 1) (by omega)
            · refine j_iload_n C 4 3 dX0_fitting_60 rfl rfl ?_
              refine y_iconst C dX0_fitting_61 ?_
              refine j_iload C 5 dX0_fitting_62 rfl ?_
              refine y_shl1 C 5 32 dX0_fitting_64 rfl (by decide) (by omega) (fun a320 la320 ua320 => ?_)
              refine y_iorN C 6 63 dX0_fitting_65 rfl (by decide) (by omega) (fun a321 la321 ua321 => ?_)
              refine j_istore_n C 3 [(3, .int (sI a321)), (5, .int (sI a313)), (0, .ref (ad 95)), (1, .int (sI a1)), (2, .int (sI a2)), (4, .int (sI a301))] dX0_fitting_66 rfl (by decide) rfl ?_
              refine y_iinc C 5 [(4, .int (sI (a301 + 1))), (3, .int (sI a321)), (5, .int (sI a313)), (0, .ref (ad 95)), (1, .int (sI a1)), (2, .int (sI a2))] dX0_fitting_67 rfl (by decide) rfl ?_
              refine j_goto C 5 dX0_fitting_70 (by decide) ?_
              refine j_lv [3, 4, 5, 1, 0] rfl ?_; exact ih298 a321 (a301 + 1) (by omega)
          · refine j_iload_n C 3 2 dX0_fitting_39 rfl rfl ?_
            refine j_iload C 0 dX0_fitting_40 rfl ?_
            refine y_icmp_ne C 67 dX0_fitting_42 (by decide) (by omega) (fun h322 => ?_) (fun h322 => ?_)
            · refine y_iinc C 5 [(4, .int (sI (a301 + 1))), (5, .int (sI a313)), (0, .ref (ad 95)), (1, .int (sI a1)), (2, .int (sI a2)), (3, .int (sI a300))] dX0_fitting_67 rfl (by decide) rfl ?_
              refine j_goto C 5 dX0_fitting_70 (by decide) ?_
              refine j_lv [2, 3, 4, 5, 0] rfl ?_; exact ih298 a300 (a301 + 1) (by omega)
            · refine j_aload_n C 1 0 dX0_fitting_45 rfl rfl ?_
              refine y_getC C 0 96 fX0_fitting_9 rfl rfl ft_0_1 sm_0_1 rfl hM0 dX0_fitting_46 ?_
              refine j_iload_n C 2 1 dX0_fitting_49 rfl rfl ?_
              refine y_iconst C dX0_fitting_50 ?_
              refine j_iload C 0 dX0_fitting_51 rfl ?_
              refine y_shl1 C 7 128 dX0_fitting_53 rfl (by decide) (by omega) (fun a323 la323 ua323 => ?_)
              refine y_iorN C 8 255 dX0_fitting_54 rfl (by decide) (by omega) (fun a324 la324 ua324 => ?_)
              refine y_iald C 43 256 _ _ rfl rfl rfl ak_43 an_43 rfl (sb_43 _) hM0 dX0_fitting_55 (by omega) (fun a325 ea325 la325 ua325 => ?_)
              refine y_iconst C dX0_fitting_56 ?_
              refine y_icmp_ne C 67 dX0_fitting_57 (by decide) (by omega) (fun h326 => ?_) (fun h326 => ?_)
              · refine y_iinc C 5 [(4, .int (sI (a301 + 1))), (5, .int (sI a313)), (0, .ref (ad 95)), (1, .int (sI a1)), (2, .int (sI a2)), (3, .int (sI a300))] dX0_fitting_67 rfl (by decide) rfl ?_
                refine j_goto C 5 dX0_fitting_70 (by decide) ?_
                refine j_lv [2, 3, 4, 5, 0] rfl ?_; exact ih298 a300 (a301 + 1) (by omega)
              · refine j_iload_n C 4 3 dX0_fitting_60 rfl rfl ?_
                refine y_iconst C dX0_fitting_61 ?_
                refine j_iload C 5 dX0_fitting_62 rfl ?_
                refine y_shl1 C 5 32 dX0_fitting_64 rfl (by decide) (by omega) (fun a327 la327 ua327 => ?_)
                refine y_iorN C 6 63 dX0_fitting_65 rfl (by decide) (by omega) (fun a328 la328 ua328 => ?_)
                refine j_istore_n C 3 [(3, .int (sI a328)), (5, .int (sI a313)), (0, .ref (ad 95)), (1, .int (sI a1)), (2, .int (sI a2)), (4, .int (sI a301))] dX0_fitting_66 rfl (by decide) rfl ?_
                refine y_iinc C 5 [(4, .int (sI (a301 + 1))), (3, .int (sI a328)), (5, .int (sI a313)), (0, .ref (ad 95)), (1, .int (sI a1)), (2, .int (sI a2))] dX0_fitting_67 rfl (by decide) rfl ?_
                refine j_goto C 5 dX0_fitting_70 (by decide) ?_
                refine j_lv [3, 4, 5, 1, 0] rfl ?_; exact ih298 a328 (a301 + 1) (by omega)
  refine j_lv [2, 3, 4, 1, 0] rfl ?_; exact L299 2010 0 0 (by omega)
set_option maxHeartbeats 4000000 in
theorem s1_X0_stepBack {l : Launch} {dC : Nat → ClassId} {dI : Nat → Nat → Nat} {ad : Nat → Nat} {cA : Nat → ClassId} {pr : Nat → Nat → Bool} {Kz : mm_M} {M0 : mm_M} (hM0 : INV pr Kz M0) (hpr : PX pr) (a1 : Int) (ha1 : -2147483648 ≤ a1 ∧ a1 ≤ 2147483647) : Cv l 2 yX0_stepBack wsX0_stepBack dC dI ad cA [.ref (ad 95), .int (sI a1)] M0 (fun M' => INV pr Kz M') := by
  refine cv_of (cc := cX0_stepBack) (maxL := 3) (lv := [(0, .ref (ad 95)), (1, .int (sI a1))]) (by decide) rfl (Nat.le_of_ble_eq_true rfl) rfl ?_
  intro p e s m args below meth c A Q C hret
  refine y_iconst C dX0_stepBack_0 ?_
  refine j_istore_n C 2 [(2, .int (sI 0)), (0, .ref (ad 95)), (1, .int (sI a1))] dX0_stepBack_1 rfl (by decide) rfl ?_
  have L724 : ∀ (n722 : Nat), ∀ (a725 : Int) (M726 : mm_M), (0 ≤ a725 ∧ a725 ≤ 256 ∧ (256 - a725) < (n722 : Int)) → INV pr Kz M726 → jj p l e (cn_R 2) s m args below meth c 0 0 Q 3 dC dI ad cA A M726 2 [(0, .ref (ad 95)), (1, .int (sI a1)), (2, .int (sI a725))] [] := by
    intro n722
    induction n722 with
    | zero =>
      intro a725 M726 h727 hM726
      exfalso; omega
    | succ n722 ih723 =>
      intro a725 M726 h727 hM726
      refine j_iload_n C 2 2 dX0_stepBack_2 rfl rfl ?_
      refine j_aload_n C 0 0 dX0_stepBack_3 rfl rfl ?_
      refine y_getC C 0 88 fX0_stepBack_25 rfl rfl ft_0_0 sm_0_0 rfl hM726 dX0_stepBack_4 ?_
      refine j_callVi C (d := 0) (As := []) (st := [.int (sI a725)]) 88 (s_lt rfl rfl) (s_kc (c := 4) rfl rfl) (by decide) rfl (s1_X5_everyKind hM726) gX0_stepBack_X5_everyKind rfl hdX5_everyKind (by decide) (Nat.le_of_ble_eq_true rfl) dX0_stepBack_7 rfl (fun r728 M729 h730 => ?_)
      obtain ⟨a732, rfl, rfl, h731⟩ := h730
      refine y_icmp_gt C 50 dX0_stepBack_10 (by decide) (by omega) (fun h733 => ?_) (fun h733 => ?_)
      · exact hret _ _ _ dX0_stepBack_50 hM726
      · refine j_aload_n C 0 0 dX0_stepBack_13 rfl rfl ?_
        refine y_getC C 0 96 fX0_stepBack_9 rfl rfl ft_0_1 sm_0_1 rfl hM726 dX0_stepBack_14 ?_
        refine j_iload_n C 2 2 dX0_stepBack_17 rfl rfl ?_
        refine j_aload_n C 0 0 dX0_stepBack_18 rfl rfl ?_
        refine y_getC C 0 88 fX0_stepBack_25 rfl rfl ft_0_0 sm_0_0 rfl hM726 dX0_stepBack_19 ?_
        refine j_iload_n C 2 2 dX0_stepBack_22 rfl rfl ?_
        refine j_callVi C (d := 0) (As := [.int (sI a725)]) (st := [.int (sI a725), .ref (ad 96)]) 88 (s_lt rfl rfl) (s_kc (c := 4) rfl rfl) (by decide) rfl (s1_X5_isMet hM726 a725 (by omega) (by omega)) gX0_stepBack_X5_isMet rfl hdX5_isMet (by decide) (Nat.le_of_ble_eq_true rfl) dX0_stepBack_23 rfl (fun r734 M735 h736 => ?_)
        obtain ⟨a738, rfl, rfl, h737⟩ := h736
        refine y_if_eq C 42 dX0_stepBack_26 (by decide) (by omega) (fun h739 => ?_) (fun h739 => ?_)
        · refine y_iconst C dX0_stepBack_42 ?_
          refine y_iastF C 43 256 rfl rfl rfl ak_43 an_43 rfl (sb_43 _) hM726 (PX.w hpr rfl rfl) dX0_stepBack_43 (by omega) (fun M740 eM740 hM740 => ?_)
          refine y_iinc C 2 [(2, .int (sI (a725 + 1))), (0, .ref (ad 95)), (1, .int (sI a1))] dX0_stepBack_44 rfl (by decide) rfl ?_
          refine j_goto C 2 dX0_stepBack_47 (by decide) ?_
          refine j_lv [1, 2, 0] rfl ?_; exact ih723 (a725 + 1) M740 (by omega) hM740
        · refine j_aload_n C 0 0 dX0_stepBack_29 rfl rfl ?_
          refine j_iload_n C 2 2 dX0_stepBack_30 rfl rfl ?_
          refine j_iload_n C 1 1 dX0_stepBack_31 rfl rfl ?_
          refine j_callVi C (d := 1) (As := [.int (sI a725), .int (sI a1)]) (st := [.int (sI a725), .ref (ad 96)]) 95 (s_lt rfl rfl) (s_kc (c := 0) rfl rfl) (by decide) rfl (s1_X0_fitting hM726 a725 (by omega) a1 (by omega) (by omega)) gX0_stepBack_X0_fitting rfl hdX0_fitting (by decide) (Nat.le_of_ble_eq_true rfl) dX0_stepBack_32 rfl (fun r741 M742 h743 => ?_)
          obtain ⟨a745, rfl, rfl, h744⟩ := h743
          refine y_if_eq C 42 dX0_stepBack_35 (by decide) (by omega) (fun h746 => ?_) (fun h746 => ?_)
          · refine y_iconst C dX0_stepBack_42 ?_
            refine y_iastF C 43 256 rfl rfl rfl ak_43 an_43 rfl (sb_43 _) hM726 (PX.w hpr rfl rfl) dX0_stepBack_43 (by omega) (fun M747 eM747 hM747 => ?_)
            refine y_iinc C 2 [(2, .int (sI (a725 + 1))), (0, .ref (ad 95)), (1, .int (sI a1))] dX0_stepBack_44 rfl (by decide) rfl ?_
            refine j_goto C 2 dX0_stepBack_47 (by decide) ?_
            refine j_lv [1, 2, 0] rfl ?_; exact ih723 (a725 + 1) M747 (by omega) hM747
          · refine y_iconst C dX0_stepBack_38 ?_
            refine j_goto C 43 dX0_stepBack_39 (by decide) ?_
            refine y_iastF C 43 256 rfl rfl rfl ak_43 an_43 rfl (sb_43 _) hM726 (PX.w hpr rfl rfl) dX0_stepBack_43 (by omega) (fun M748 eM748 hM748 => ?_)
            refine y_iinc C 2 [(2, .int (sI (a725 + 1))), (0, .ref (ad 95)), (1, .int (sI a1))] dX0_stepBack_44 rfl (by decide) rfl ?_
            refine j_goto C 2 dX0_stepBack_47 (by decide) ?_
            refine j_lv [1, 2, 0] rfl ?_; exact ih723 (a725 + 1) M748 (by omega) hM748
  refine j_lv [1, 2, 0] rfl ?_; exact L724 2010 0 M0 (by omega) hM0
set_option maxHeartbeats 4000000 in
theorem s1_X5_isOnRow {l : Launch} {dC : Nat → ClassId} {dI : Nat → Nat → Nat} {ad : Nat → Nat} {cA : Nat → ClassId} {pr : Nat → Nat → Bool} {Kz : mm_M} {M0 : mm_M} (hM0 : INV pr Kz M0) (a1 : Int) (ha1 : -2147483648 ≤ a1 ∧ a1 ≤ 2147483647) (hp0 : 0 ≤ a1 ∧ a1 ≤ 255) : Ci l 0 yX5_isOnRow wsX5_isOnRow dC dI ad cA [.ref (ad 88), .int (sI a1)] M0 (fun r M' => ∃ a : Int, r = sI a ∧ M0 = M' ∧ 0 ≤ a ∧ a ≤ 1 ∧ ((a = 0) ∨ (a = 1))) := by
  refine ci_of (cc := cX5_isOnRow) (maxL := 2) (ty := .boolean) (lv := [(0, .ref (ad 88)), (1, .int (sI a1))]) (by decide) rfl (fun r M' hp => by obtain ⟨a, rfl, -, h⟩ := hp; rcases (show a = 0 ∨ a = 1 by omega) with rfl | rfl <;> rfl) (Nat.le_of_ble_eq_true rfl) rfl ?_
  intro p e s m args below meth c A Q C hret
  refine j_aload_n C 0 0 dX5_isOnRow_0 rfl rfl ?_
  refine y_getM C 4 41 fX5_isOnRow_21 rfl rfl ft_4_4 sm_4_4 (by decide) hM0 dX5_isOnRow_1 (fun v101 ev101 cv101 => ?_)
  refine j_iload_n C 1 1 dX5_isOnRow_4 rfl rfl ?_
  refine y_lald C 41 256 cv101 rfl rfl ak_41 an_41 rfl dX5_isOnRow_5 (by omega) (fun a102 ea102 la102 ua102 => ?_)
  refine y_lconst C 0 dX5_isOnRow_6 rfl ?_
  refine y_lcmp_eq C 15 dX5_isOnRow_7 dX5_isOnRow_8 (by decide) (by omega) (fun h103 => ?_) (fun h103 => ?_)
  · refine y_iconst C dX5_isOnRow_15 ?_
    exact hret _ _ _ _ dX5_isOnRow_16 ⟨0, rfl, rfl, by omega⟩
  · refine y_iconst C dX5_isOnRow_11 ?_
    refine j_goto C 16 dX5_isOnRow_12 (by decide) ?_
    exact hret _ _ _ _ dX5_isOnRow_16 ⟨1, rfl, rfl, by omega⟩
set_option maxHeartbeats 4000000 in
theorem s1_X0_comers {l : Launch} {dC : Nat → ClassId} {dI : Nat → Nat → Nat} {ad : Nat → Nat} {cA : Nat → ClassId} {pr : Nat → Nat → Bool} {Kz : mm_M} {M0 : mm_M} (hM0 : INV pr Kz M0) (hpr : PX pr) {v1 : Nat} (cv1 : s_c v1 = 9) (a2 : Int) (ha2 : -2147483648 ≤ a2 ∧ a2 ≤ 2147483647) : Ci l 3 yX0_comers wsX0_comers dC dI ad cA [.ref (ad 95), .ref (ad v1), .int (sI a2)] M0 (fun r M' => ∃ a : Int, r = sI a ∧ INV pr Kz M' ∧ 0 ≤ a ∧ a ≤ 63) := by
  refine ci_of (cc := cX0_comers) (maxL := 5) (ty := .int) (lv := [(0, .ref (ad 95)), (1, .ref (ad v1)), (2, .int (sI a2))]) (by decide) rfl (fun r M' hp => rfl) (Nat.le_of_ble_eq_true rfl) rfl ?_
  intro p e s m args below meth c A Q C hret
  refine j_aload_n C 0 0 dX0_comers_0 rfl rfl ?_
  refine y_getC C 0 96 fX0_comers_9 rfl rfl ft_0_1 sm_0_1 rfl hM0 dX0_comers_1 ?_
  refine y_iconst C dX0_comers_4 ?_
  refine j_callSv C (d := 0) (As := [.ref (ad 96), .int (sI 1)]) (st := []) (s4_J7_fill_53178 hM0 hpr 1 (by omega)) gX0_comers_J7_fill_53178 rfl hdJ7_fill_53178s (by decide) (Nat.le_of_ble_eq_true rfl) dX0_comers_5 rfl (fun M102 h103 => ?_)
  have hM102 := h103
  refine j_aload_n C 1 1 dX0_comers_8 rfl rfl ?_
  refine j_callVi C (d := 1) (As := []) (st := []) v1 (s_lt cv1 rfl) (s_kc (c := 9) cv1 rfl) (by decide) rfl (s1_X10_size hM102 cv1) gX0_comers_X10_size rfl hdX10_size (by decide) (Nat.le_of_ble_eq_true rfl) dX0_comers_9 rfl (fun r105 M106 h107 => ?_)
  obtain ⟨a109, rfl, rfl, h108⟩ := h107
  refine y_iconst C dX0_comers_12 ?_
  refine y_isub C dX0_comers_13 ?_
  refine j_istore_n C 3 [(3, .int (sI (a109 - 1))), (0, .ref (ad 95)), (1, .ref (ad v1)), (2, .int (sI a2))] dX0_comers_14 rfl (by decide) rfl ?_
  have L164 : ∀ (n162 : Nat), ∀ (a165 : Int) (M166 : mm_M), ((-2147483648) ≤ a165 ∧ a165 ≤ 39 ∧ (a165 - (-2147483648)) < (n162 : Int)) → INV pr Kz M166 → jj p l e (cn_R 3) s m args below meth c 0 0 Q 5 dC dI ad cA A M166 15 [(0, .ref (ad 95)), (1, .ref (ad v1)), (2, .int (sI a2)), (3, .int (sI a165))] [] := by
    intro n162
    induction n162 with
    | zero =>
      intro a165 M166 h167 hM166
      exfalso; omega
    | succ n162 ih163 =>
      intro a165 M166 h167 hM166
      refine j_iload_n C 3 3 dX0_comers_15 rfl rfl ?_
      refine j_iload_n C 2 2 dX0_comers_16 rfl rfl ?_
      refine y_icmp_le C 36 dX0_comers_17 (by decide) (by omega) (fun h168 => ?_) (fun h168 => ?_)
      · refine j_aload_n C 0 0 dX0_comers_36 rfl rfl ?_
        refine y_getC C 0 88 fX0_comers_25 rfl rfl ft_0_0 sm_0_0 rfl hM166 dX0_comers_37 ?_
        refine j_callVv C (d := 1) (As := []) (st := []) 88 (s_lt rfl rfl) (s_kc (c := 4) rfl rfl) (by decide) rfl (s1_X5_beginRows hM166 hpr) gX0_comers_X5_beginRows rfl hdX5_beginRows (by decide) (Nat.le_of_ble_eq_true rfl) dX0_comers_40 rfl (fun M180 h181 => ?_)
        have hM180 := h181
        refine y_iconst C dX0_comers_43 ?_
        refine j_istore_n C 3 [(3, .int (sI 0)), (0, .ref (ad 95)), (1, .ref (ad v1)), (2, .int (sI a2))] dX0_comers_44 rfl (by decide) rfl ?_
        have L627 : ∀ (n625 : Nat), ∀ (a628 : Int) (M629 : mm_M), (0 ≤ a628 ∧ a628 ≤ 2147483647 ∧ (2147483647 - a628) < (n625 : Int)) → INV pr Kz M629 → jj p l e (cn_R 3) s m args below meth c 0 0 Q 5 dC dI ad cA A M629 45 [(0, .ref (ad 95)), (1, .ref (ad v1)), (2, .int (sI a2)), (3, .int (sI a628))] [] := by
          intro n625
          induction n625 with
          | zero =>
            intro a628 M629 h630 hM629
            exfalso; omega
          | succ n625 ih626 =>
            intro a628 M629 h630 hM629
            refine j_iload_n C 3 3 dX0_comers_45 rfl rfl ?_
            refine j_iload_n C 2 2 dX0_comers_46 rfl rfl ?_
            refine y_icmp_ge C 69 dX0_comers_47 (by decide) (by omega) (fun h631 => ?_) (fun h631 => ?_)
            · refine y_iconst C dX0_comers_69 ?_
              refine j_istore_n C 3 [(3, .int (sI 0)), (0, .ref (ad 95)), (1, .ref (ad v1)), (2, .int (sI a2))] dX0_comers_70 rfl (by decide) rfl ?_
              refine y_iconst C dX0_comers_71 ?_
              refine j_istore C 4 [(4, .int (sI 0)), (3, .int (sI 0)), (0, .ref (ad 95)), (1, .ref (ad v1)), (2, .int (sI a2))] dX0_comers_72 (by decide) rfl ?_
              have L1346 : ∀ (n1344 : Nat), ∀ (a1347 : Int) (a1348 : Int), (0 ≤ a1347 ∧ a1347 ≤ 63 ∧ 0 ≤ a1348 ∧ a1348 ≤ 256 ∧ (256 - a1348) < (n1344 : Int)) → jj p l e (cn_R 3) s m args below meth c 0 0 Q 5 dC dI ad cA A M629 74 [(0, .ref (ad 95)), (1, .ref (ad v1)), (2, .int (sI a2)), (3, .int (sI a1347)), (4, .int (sI a1348))] [] := by
                intro n1344
                induction n1344 with
                | zero =>
                  intro a1347 a1348 h1349
                  exfalso; omega
                | succ n1344 ih1345 =>
                  intro a1347 a1348 h1349
                  refine j_iload C 4 dX0_comers_74 rfl ?_
                  refine j_aload_n C 0 0 dX0_comers_76 rfl rfl ?_
                  refine y_getC C 0 88 fX0_comers_25 rfl rfl ft_0_0 sm_0_0 rfl hM629 dX0_comers_77 ?_
                  refine j_callVi C (d := 0) (As := []) (st := [.int (sI a1348)]) 88 (s_lt rfl rfl) (s_kc (c := 4) rfl rfl) (by decide) rfl (s1_X5_everyKind hM629) gX0_comers_X5_everyKind rfl hdX5_everyKind (by decide) (Nat.le_of_ble_eq_true rfl) dX0_comers_80 rfl (fun r1350 M1351 h1352 => ?_)
                  obtain ⟨a1354, rfl, rfl, h1353⟩ := h1352
                  refine y_icmp_gt C 119 dX0_comers_83 (by decide) (by omega) (fun h1355 => ?_) (fun h1355 => ?_)
                  · refine j_iload_n C 3 3 dX0_comers_119 rfl rfl ?_
                    exact hret _ _ _ _ dX0_comers_120 ⟨a1347, rfl, hM629, by omega⟩
                  · refine j_aload_n C 0 0 dX0_comers_86 rfl rfl ?_
                    refine y_getC C 0 88 fX0_comers_25 rfl rfl ft_0_0 sm_0_0 rfl hM629 dX0_comers_87 ?_
                    refine j_iload C 4 dX0_comers_90 rfl ?_
                    refine j_callVi C (d := 0) (As := [.int (sI a1348)]) (st := []) 88 (s_lt rfl rfl) (s_kc (c := 4) rfl rfl) (by decide) rfl (s1_X5_isOnRow hM629 a1348 (by omega) (by omega)) gX0_comers_X5_isOnRow rfl hdX5_isOnRow (by decide) (Nat.le_of_ble_eq_true rfl) dX0_comers_92 rfl (fun r1356 M1357 h1358 => ?_)
                    obtain ⟨a1360, rfl, rfl, h1359⟩ := h1358
                    refine y_if_eq C 113 dX0_comers_95 (by decide) (by omega) (fun h1361 => ?_) (fun h1361 => ?_)
                    · refine y_iinc C 4 [(4, .int (sI (a1348 + 1))), (0, .ref (ad 95)), (1, .ref (ad v1)), (2, .int (sI a2)), (3, .int (sI a1347))] dX0_comers_113 rfl (by decide) rfl ?_
                      refine j_goto C 74 dX0_comers_116 (by decide) ?_
                      refine j_lv [1, 2, 3, 4, 0] rfl ?_; exact ih1345 a1347 (a1348 + 1) (by omega)
                    · refine j_iload_n C 3 3 dX0_comers_98 rfl rfl ?_
                      refine j_aload_n C 0 0 dX0_comers_99 rfl rfl ?_
                      refine j_iload C 4 dX0_comers_100 rfl ?_
                      refine j_aload_n C 1 1 dX0_comers_102 rfl rfl ?_
                      refine j_iload_n C 2 2 dX0_comers_103 rfl rfl ?_
                      refine j_callVj C (d := 1) (As := [.int (sI a2)]) (st := [.int (sI a1348), .ref (ad 95), .int (sI a1347)]) v1 (s_lt cv1 rfl) (s_kc (c := 9) cv1 rfl) (by decide) rfl (s1_X10_numberAt hM629 cv1 a2 (by omega)) gX0_comers_X10_numberAt rfl hdX10_numberAt (by decide) (Nat.le_of_ble_eq_true rfl) dX0_comers_104 rfl (fun r1362 M1363 h1364 => ?_)
                      obtain ⟨a1366, rfl, rfl, h1365⟩ := h1364
                      refine y_l2i C dX0_comers_107 ?_
                      refine y_topI (fun a1367 la1367 ua1367 => ?_)
                      refine j_callVi C (d := 1) (As := [.int (sI a1348), .int (sI a1367)]) (st := [.int (sI a1347)]) 95 (s_lt rfl rfl) (s_kc (c := 0) rfl rfl) (by decide) rfl (s1_X0_fitting hM629 a1348 (by omega) a1367 (by omega) (by omega)) gX0_comers_X0_fitting rfl hdX0_fitting (by decide) (Nat.le_of_ble_eq_true rfl) dX0_comers_108 rfl (fun r1368 M1369 h1370 => ?_)
                      obtain ⟨a1372, rfl, rfl, h1371⟩ := h1370
                      refine y_iorN C 6 63 dX0_comers_111 rfl (by decide) (by omega) (fun a1373 la1373 ua1373 => ?_)
                      refine j_istore_n C 3 [(3, .int (sI a1373)), (0, .ref (ad 95)), (1, .ref (ad v1)), (2, .int (sI a2)), (4, .int (sI a1348))] dX0_comers_112 rfl (by decide) rfl ?_
                      refine y_iinc C 4 [(4, .int (sI (a1348 + 1))), (3, .int (sI a1373)), (0, .ref (ad 95)), (1, .ref (ad v1)), (2, .int (sI a2))] dX0_comers_113 rfl (by decide) rfl ?_
                      refine j_goto C 74 dX0_comers_116 (by decide) ?_
                      refine j_lv [2, 3, 4, 1, 0] rfl ?_; exact ih1345 a1373 (a1348 + 1) (by omega)
              refine j_lv [2, 3, 4, 1, 0] rfl ?_; exact L1346 2010 0 0 (by omega)
            · refine j_aload_n C 0 0 dX0_comers_50 rfl rfl ?_
              refine y_getC C 0 88 fX0_comers_25 rfl rfl ft_0_0 sm_0_0 rfl hM629 dX0_comers_51 ?_
              refine j_aload_n C 1 1 dX0_comers_54 rfl rfl ?_
              refine j_iload_n C 3 3 dX0_comers_55 rfl rfl ?_
              refine j_callVj C (d := 1) (As := [.int (sI a628)]) (st := [.ref (ad 88)]) v1 (s_lt cv1 rfl) (s_kc (c := 9) cv1 rfl) (by decide) rfl (s1_X10_numberAt hM629 cv1 a628 (by omega)) gX0_comers_X10_numberAt rfl hdX10_numberAt (by decide) (Nat.le_of_ble_eq_true rfl) dX0_comers_56 rfl (fun r632 M633 h634 => ?_)
              obtain ⟨a636, rfl, rfl, h635⟩ := h634
              refine y_l2i C dX0_comers_59 ?_
              refine y_topI (fun a637 la637 ua637 => ?_)
              refine j_callVv C (d := 1) (As := [.int (sI a637)]) (st := []) 88 (s_lt rfl rfl) (s_kc (c := 4) rfl rfl) (by decide) rfl (s1_X5_lengthenRows hM629 hpr a637 (by omega)) gX0_comers_X5_lengthenRows rfl hdX5_lengthenRows (by decide) (Nat.le_of_ble_eq_true rfl) dX0_comers_60 rfl (fun M639 h640 => ?_)
              have hM639 := h640
              refine y_iinc C 3 [(3, .int (sI (a628 + 1))), (0, .ref (ad 95)), (1, .ref (ad v1)), (2, .int (sI a2))] dX0_comers_63 rfl (by decide) rfl ?_
              refine j_goto C 45 dX0_comers_66 (by decide) ?_
              refine j_lv [1, 2, 3, 0] rfl ?_; exact ih626 (a628 + 1) M639 (by omega) hM639
        refine j_lv [1, 2, 3, 0] rfl ?_; exact L627 4294967304 0 M180 (by omega) hM180
      · refine j_aload_n C 0 0 dX0_comers_20 rfl rfl ?_
        refine j_aload_n C 1 1 dX0_comers_21 rfl rfl ?_
        refine j_iload_n C 3 3 dX0_comers_22 rfl rfl ?_
        refine j_callVj C (d := 1) (As := [.int (sI a165)]) (st := [.ref (ad 95)]) v1 (s_lt cv1 rfl) (s_kc (c := 9) cv1 rfl) (by decide) rfl (s1_X10_numberAt hM166 cv1 a165 (by omega)) gX0_comers_X10_numberAt rfl hdX10_numberAt (by decide) (Nat.le_of_ble_eq_true rfl) dX0_comers_23 rfl (fun r169 M170 h171 => ?_)
        obtain ⟨a173, rfl, rfl, h172⟩ := h171
        refine y_l2i C dX0_comers_26 ?_
        refine y_topI (fun a174 la174 ua174 => ?_)
        refine j_callVv C (d := 2) (As := [.int (sI a174)]) (st := []) 95 (s_lt rfl rfl) (s_kc (c := 0) rfl rfl) (by decide) rfl (s1_X0_stepBack hM166 hpr a174 (by omega)) gX0_comers_X0_stepBack rfl hdX0_stepBack (by decide) (Nat.le_of_ble_eq_true rfl) dX0_comers_27 rfl (fun M176 h177 => ?_)
        have hM176 := h177
        refine y_iinc C 3 [(3, .int (sI (a165 + (-1)))), (0, .ref (ad 95)), (1, .ref (ad v1)), (2, .int (sI a2))] dX0_comers_30 rfl (by decide) rfl ?_
        refine j_goto C 15 dX0_comers_33 (by decide) ?_
        refine j_lv [1, 2, 3, 0] rfl ?_; exact ih163 (a165 + (-1)) M176 (by omega) hM176
  refine j_lv [1, 2, 3, 0] rfl ?_; exact L164 4294967306 (a109 - 1) M102 (by omega) hM102
set_option maxHeartbeats 4000000 in
theorem s1_X11_who {l : Launch} {dC : Nat → ClassId} {dI : Nat → Nat → Nat} {ad : Nat → Nat} {cA : Nat → ClassId} {pr : Nat → Nat → Bool} {Kz : mm_M} {M0 : mm_M} (hM0 : INV pr Kz M0) (hpr : PX pr) (a1 : Int) (ha1 : -2147483648 ≤ a1 ∧ a1 ≤ 2147483647) (a2 : Int) (ha2 : -2147483648 ≤ a2 ∧ a2 ≤ 2147483647) : Ci l 6 yX11_who wsX11_who dC dI ad cA [.ref (ad 0), .int (sI a1), .int (sI a2)] M0 (fun r M' => ∃ a : Int, r = sI a ∧ INV pr Kz M' ∧ (-7) ≤ a ∧ a ≤ 63) := by
  refine ci_of (cc := cX11_who) (maxL := 4) (ty := .int) (lv := [(0, .ref (ad 0)), (1, .int (sI a1)), (2, .int (sI a2))]) (by decide) rfl (fun r M' hp => rfl) (Nat.le_of_ble_eq_true rfl) rfl ?_
  intro p e s m args below meth c A Q C hret
  refine j_aload_n C 0 0 dX11_who_0 rfl rfl ?_
  refine j_iload_n C 1 1 dX11_who_1 rfl rfl ?_
  refine j_callVi C (d := 2) (As := [.int (sI a1)]) (st := []) 0 (s_lt rfl rfl) (s_kc (c := 10) rfl rfl) (by decide) rfl (s1_X11_cameRefusal hM0 a1 (by omega)) gX11_who_X11_cameRefusal rfl hdX11_cameRefusal (by decide) (Nat.le_of_ble_eq_true rfl) dX11_who_2 rfl (fun r101 M102 h103 => ?_)
  obtain ⟨a105, rfl, rfl, h104⟩ := h103
  refine j_istore_n C 3 [(3, .int (sI a105)), (0, .ref (ad 0)), (1, .int (sI a1)), (2, .int (sI a2))] dX11_who_5 rfl (by decide) rfl ?_
  refine j_iload_n C 0 3 dX11_who_6 rfl rfl ?_
  refine y_if_eq C 12 dX11_who_7 (by decide) (by omega) (fun h106 => ?_) (fun h106 => ?_)
  · refine j_aload_n C 1 0 dX11_who_12 rfl rfl ?_
    refine y_getC C 10 50 fX11_who_52 rfl rfl ft_10_9 sm_10_9 rfl hM0 dX11_who_13 ?_
    refine j_iload_n C 2 1 dX11_who_16 rfl rfl ?_
    refine y_aald C 28 4 9 rfl rfl rfl rfl an_28 rfl sma_28 sta_28 (by decide) hM0 dX11_who_17 (by omega) (fun v107 cv107 => ?_)
    refine j_iload_n C 3 2 dX11_who_18 rfl rfl ?_
    refine j_callVi C (d := 0) (As := [.int (sI a2)]) (st := []) v107 (s_lt cv107 rfl) (s_kc (c := 9) cv107 rfl) (by decide) rfl (s1_X10_has hM0 cv107 a2 (by omega)) gX11_who_X10_has rfl hdX10_has (by decide) (Nat.le_of_ble_eq_true rfl) dX11_who_19 rfl (fun r108 M109 h110 => ?_)
    obtain ⟨a112, rfl, rfl, h111⟩ := h110
    refine y_if_ne C 28 dX11_who_22 (by decide) (by omega) (fun h113 => ?_) (fun h113 => ?_)
    · refine j_aload_n C 1 0 dX11_who_28 rfl rfl ?_
      refine y_getC C 10 88 fX11_who_94 rfl rfl ft_10_14 sm_10_14 rfl hM0 dX11_who_29 ?_
      refine j_aload_n C 1 0 dX11_who_32 rfl rfl ?_
      refine y_getM C 10 6 fX11_who_26 rfl rfl ft_10_4 sm_10_4 (by decide) hM0 dX11_who_33 (fun v114 ev114 cv114 => ?_)
      refine j_aload_n C 1 0 dX11_who_36 rfl rfl ?_
      refine y_getC C 10 12 fX11_who_36 rfl rfl ft_10_6 sm_10_6 rfl hM0 dX11_who_37 ?_
      refine j_aload_n C 1 0 dX11_who_40 rfl rfl ?_
      refine y_getC C 10 12 fX11_who_36 rfl rfl ft_10_6 sm_10_6 rfl hM0 dX11_who_41 ?_
      refine y_getI C 8 _ _ fX11_who_153 rfl rfl ft_8_4 sb_8_4 hM0 dX11_who_44 (fun a115 ea115 la115 ua115 => ?_)
      refine j_callVv C (d := 5) (As := [.ref (ad v114), .ref (ad 12), .int (sI a115)]) (st := []) 88 (s_lt rfl rfl) (s_kc (c := 4) rfl rfl) (by decide) rfl (s1_X5_look hM0 hpr cv114 rfl a115 (by omega)) gX11_who_X5_look rfl hdX5_look (by decide) (Nat.le_of_ble_eq_true rfl) dX11_who_47 rfl (fun M118 h119 => ?_)
      have hM118 := h119
      refine j_aload_n C 1 0 dX11_who_50 rfl rfl ?_
      refine y_getC C 10 95 fX11_who_103 rfl rfl ft_10_15 sm_10_15 rfl hM118 dX11_who_51 ?_
      refine j_aload_n C 1 0 dX11_who_54 rfl rfl ?_
      refine y_getC C 10 50 fX11_who_52 rfl rfl ft_10_9 sm_10_9 rfl hM118 dX11_who_55 ?_
      refine j_iload_n C 2 1 dX11_who_58 rfl rfl ?_
      refine y_aald C 28 4 9 rfl rfl rfl rfl an_28 rfl sma_28 sta_28 (by decide) hM118 dX11_who_59 (by omega) (fun v121 cv121 => ?_)
      refine j_iload_n C 3 2 dX11_who_60 rfl rfl ?_
      refine j_callVi C (d := 3) (As := [.ref (ad v121), .int (sI a2)]) (st := []) 95 (s_lt rfl rfl) (s_kc (c := 0) rfl rfl) (by decide) rfl (s1_X0_comers hM118 hpr cv121 a2 (by omega)) gX11_who_X0_comers rfl hdX0_comers (by decide) (Nat.le_of_ble_eq_true rfl) dX11_who_61 rfl (fun r122 M123 h124 => ?_)
      obtain ⟨a126, rfl, hM123, h125⟩ := h124
      exact hret _ _ _ _ dX11_who_64 ⟨a126, rfl, hM123, by omega⟩
    · refine y_bipush C dX11_who_25 rfl ?_
      exact hret _ _ _ _ dX11_who_27 ⟨(-7), rfl, hM0, by omega⟩
  · refine j_iload_n C 0 3 dX11_who_10 rfl rfl ?_
    exact hret _ _ _ _ dX11_who_11 ⟨a105, rfl, hM0, by omega⟩
set_option maxHeartbeats 4000000 in
theorem s3_J7_fill_d0a16 {l : Launch} {dC : Nat → ClassId} {dI : Nat → Nat → Nat} {ad : Nat → Nat} {cA : Nat → ClassId} {pr : Nat → Nat → Bool} {Kz : mm_M} {M0 : mm_M} (hM0 : INV pr Kz M0) (hpr : PX pr) {v0 : Nat} (cv0 : s_c v0 = 29) (a1 : Int) (ha1 : -9223372036854775808 ≤ a1 ∧ a1 ≤ 9223372036854775807) : Cv l 0 yJ7_fill_d0a16 wsJ7_fill_d0a16 dC dI ad cA [.ref (ad v0), .long (sJ a1)] M0 (fun M' => INV pr Kz M') := by
  refine cv_of (cc := cJ7_fill_d0a16) (maxL := 5) (lv := [(0, .ref (ad v0)), (1, .long (sJ a1))]) (by decide) rfl (Nat.le_of_ble_eq_true rfl) rfl ?_
  intro p e s m args below meth c A Q C hret
  refine y_iconst C dJ7_fill_d0a16_0 ?_
  refine j_istore_n C 3 [(3, .int (sI 0)), (0, .ref (ad v0)), (1, .long (sJ a1))] dJ7_fill_d0a16_1 rfl (by decide) rfl ?_
  refine j_aload_n C 1 0 dJ7_fill_d0a16_2 rfl rfl ?_
  refine y_alen C 29 40 cv0 rfl rfl an_29 rfl rfl dJ7_fill_d0a16_3 ?_
  refine j_istore C 4 [(4, .int (sI 40)), (3, .int (sI 0)), (0, .ref (ad v0)), (1, .long (sJ a1))] dJ7_fill_d0a16_4 (by decide) rfl ?_
  have L171 : ∀ (n169 : Nat), ∀ (a172 : Int) (M173 : mm_M), (0 ≤ a172 ∧ a172 ≤ 40 ∧ (40 - a172) < (n169 : Int)) → INV pr Kz M173 → jj p l e (cn_R 0) s m args below meth c 0 0 Q 5 dC dI ad cA A M173 6 [(0, .ref (ad v0)), (1, .long (sJ a1)), (3, .int (sI a172)), (4, .int (sI 40))] [] := by
    intro n169
    induction n169 with
    | zero =>
      intro a172 M173 h174 hM173
      exfalso; omega
    | succ n169 ih170 =>
      intro a172 M173 h174 hM173
      refine j_iload_n C 2 3 dJ7_fill_d0a16_6 rfl rfl ?_
      refine j_iload C 3 dJ7_fill_d0a16_7 rfl ?_
      refine y_icmp_ge C 22 dJ7_fill_d0a16_9 (by decide) (by omega) (fun h175 => ?_) (fun h175 => ?_)
      · exact hret _ _ _ dJ7_fill_d0a16_22 hM173
      · refine j_aload_n C 0 0 dJ7_fill_d0a16_12 rfl rfl ?_
        refine j_iload_n C 2 3 dJ7_fill_d0a16_13 rfl rfl ?_
        refine j_lload_n C 1 1 dJ7_fill_d0a16_14 rfl rfl ?_
        refine y_last C 29 40 cv0 rfl rfl ak_29 an_29 rfl hM173 (PX.w hpr cv0 rfl) dJ7_fill_d0a16_15 (by omega) (fun M176 eM176 hM176 => ?_)
        refine y_iinc C 2 [(3, .int (sI (a172 + 1))), (0, .ref (ad v0)), (1, .long (sJ a1)), (4, .int (sI 40))] dJ7_fill_d0a16_16 rfl (by decide) rfl ?_
        refine j_goto C 6 dJ7_fill_d0a16_19 (by decide) ?_
        refine j_lv [1, 2, 0, 3] rfl ?_; exact ih170 (a172 + 1) M176 (by omega) hM176
  refine j_lv [2, 3, 1, 0] rfl ?_; exact L171 2010 0 M0 (by omega) hM0
set_option maxHeartbeats 4000000 in
theorem s1_X10_layOut {l : Launch} {dC : Nat → ClassId} {dI : Nat → Nat → Nat} {ad : Nat → Nat} {cA : Nat → ClassId} {pr : Nat → Nat → Bool} {Kz : mm_M} {M0 : mm_M} (hM0 : INV pr Kz M0) (hpr : PX pr) (hq9_1 : ∀ i, s_c i = 9 → pr i 1 = false) (hq9_2 : ∀ i, s_c i = 9 → pr i 2 = false) {v0 : Nat} (cv0 : s_c v0 = 9) (a1 : Int) (ha1 : -2147483648 ≤ a1 ∧ a1 ≤ 2147483647) (a2 : Int) (ha2 : -2147483648 ≤ a2 ∧ a2 ≤ 2147483647) (hp0 : 0 ≤ a1 ∧ a1 ≤ 3) (hp1 : 0 ≤ a2 ∧ a2 ≤ 40) : Cv l 1 yX10_layOut wsX10_layOut dC dI ad cA [.ref (ad v0), .int (sI a1), .int (sI a2)] M0 (fun M' => INV pr Kz M' ∧ ((M'.1 v0 1).toInt = a1 ∧ (M'.1 v0 2).toInt = a2) ∧ (b01 (LYX M0 M' v0) = 1)) := by
  refine cv_of (cc := cX10_layOut) (maxL := 3) (lv := [(0, .ref (ad v0)), (1, .int (sI a1)), (2, .int (sI a2))]) (by decide) rfl (Nat.le_of_ble_eq_true rfl) rfl ?_
  intro p e s m args below meth c A Q C hret
  refine j_aload_n C 0 0 dX10_layOut_0 rfl rfl ?_
  refine y_getT C 9 29 fX10_layOut_9 cv0 rfl ft_9_0 rfl sm_9_0 st_9_0 (by decide) hM0 dX10_layOut_1 (fun v101 cv101 => ?_)
  refine y_lconst C 0 dX10_layOut_4 rfl ?_
  have hprO := hpr
  obtain ⟨pr2, Kz2, hpr, hM0, hbk⟩ := fzX hpr hM0
  refine j_callSv C (d := 0) (As := [.ref (ad v101), .long (sJ 0)]) (st := []) (s3_J7_fill_d0a16 hM0 hpr cv101 0 (by omega)) gX10_layOut_J7_fill_d0a16 rfl hdJ7_fill_d0a16s (by decide) (Nat.le_of_ble_eq_true rfl) dX10_layOut_5 rfl (fun M104 h105 => ?_)
  have hM104 := h105
  have hz9 := (hbk _ hM104).2
  have hM104 := (hbk _ hM104).1
  have hpr := hprO
  refine j_aload_n C 0 0 dX10_layOut_8 rfl rfl ?_
  refine j_iload_n C 1 1 dX10_layOut_9 rfl rfl ?_
  refine y_putI C 9 _ _ qX10_layOut_15 cv0 rfl ft_9_1 sb_9_1 hM104 (hq9_1 _ cv0) dX10_layOut_10 (by omega) (fun M108 eM108 hM108 => ?_)
  refine j_aload_n C 0 0 dX10_layOut_13 rfl rfl ?_
  refine j_iload_n C 2 2 dX10_layOut_14 rfl rfl ?_
  refine y_putI C 9 _ _ qX10_layOut_19 cv0 rfl ft_9_2 sb_9_2 hM108 (hq9_2 _ cv0) dX10_layOut_15 (by omega) (fun M109 eM109 hM109 => ?_)
  have u110a := lyx hz9 eM108 eM109
  have u110b : (M109.1 v0 2).toInt = a2 := s_wr eM109 (by omega)
  have u110c : (M109.1 v0 1).toInt = a1 := (s_fb eM109 (by decide) rfl).trans (s_wr eM108 (by omega))
  exact hret _ _ _ dX10_layOut_18 ⟨hM109, by omega⟩
set_option maxHeartbeats 4000000 in
theorem s1_X11_numbers {l : Launch} {dC : Nat → ClassId} {dI : Nat → Nat → Nat} {ad : Nat → Nat} {cA : Nat → ClassId} {pr : Nat → Nat → Bool} {Kz : mm_M} {M0 : mm_M} (hM0 : INV pr Kz M0) (hpr : PX pr) (hq9_1 : ∀ i, s_c i = 9 → pr i 1 = false) (hq9_2 : ∀ i, s_c i = 9 → pr i 2 = false) (a1 : Int) (ha1 : -2147483648 ≤ a1 ∧ a1 ≤ 2147483647) (a2 : Int) (ha2 : -2147483648 ≤ a2 ∧ a2 ≤ 2147483647) (a3 : Int) (ha3 : -2147483648 ≤ a3 ∧ a3 ≤ 2147483647) : Ci l 2 yX11_numbers wsX11_numbers dC dI ad cA [.ref (ad 0), .int (sI a1), .int (sI a2), .int (sI a3)] M0 (fun r M' => ∃ a : Int, r = sI a ∧ INV pr Kz M' ∧ (-3) ≤ a ∧ a ≤ 0 ∧ (a = nuF a1 a2 a3) ∧ (b01 (NBX M0 M' a1 a2 a3) = 1)) := by
  refine ci_of (cc := cX11_numbers) (maxL := 4) (ty := .int) (lv := [(0, .ref (ad 0)), (1, .int (sI a1)), (2, .int (sI a2)), (3, .int (sI a3))]) (by decide) rfl (fun r M' hp => rfl) (Nat.le_of_ble_eq_true rfl) rfl ?_
  intro p e s m args below meth c A Q C hret
  refine j_iload_n C 1 1 dX11_numbers_0 rfl rfl ?_
  refine j_callSi C (d := 0) (As := [.int (sI a1)]) (st := []) (s1_X11_isTray hM0 a1 (by omega)) gX11_numbers_X11_isTray rfl hdX11_isTrays (by decide) (Nat.le_of_ble_eq_true rfl) dX11_numbers_1 rfl (fun r101 M102 h103 => ?_)
  obtain ⟨a105, rfl, rfl, h104⟩ := h103
  refine y_if_eq C 16 dX11_numbers_4 (by decide) (by omega) (fun h106 => ?_) (fun h106 => ?_)
  · refine y_bipush C dX11_numbers_16 rfl ?_
    have u107x := nbx_no (M := M0) (t := a1) (s := a2) (n := a3) (by omega)
    have u108n := nuF_s a1 a2 a3
    exact hret _ _ _ _ dX11_numbers_18 ⟨(-2), rfl, hM0, by omega⟩
  · refine j_iload_n C 2 2 dX11_numbers_7 rfl rfl ?_
    refine y_if_lt C 16 dX11_numbers_8 (by decide) (by omega) (fun h109 => ?_) (fun h109 => ?_)
    · refine y_bipush C dX11_numbers_16 rfl ?_
      have u110x := nbx_no (M := M0) (t := a1) (s := a2) (n := a3) (by omega)
      have u111n := nuF_s a1 a2 a3
      exact hret _ _ _ _ dX11_numbers_18 ⟨(-2), rfl, hM0, by omega⟩
    · refine j_iload_n C 2 2 dX11_numbers_11 rfl rfl ?_
      refine y_iconst C dX11_numbers_12 ?_
      refine y_icmp_le C 19 dX11_numbers_13 (by decide) (by omega) (fun h112 => ?_) (fun h112 => ?_)
      · refine j_iload_n C 3 3 dX11_numbers_19 rfl rfl ?_
        refine y_if_lt C 29 dX11_numbers_20 (by decide) (by omega) (fun h113 => ?_) (fun h113 => ?_)
        · refine y_bipush C dX11_numbers_29 rfl ?_
          have u114x := nbx_no (M := M0) (t := a1) (s := a2) (n := a3) (by omega)
          have u115n := nuF_s a1 a2 a3
          exact hret _ _ _ _ dX11_numbers_31 ⟨(-3), rfl, hM0, by omega⟩
        · refine j_iload_n C 3 3 dX11_numbers_23 rfl rfl ?_
          refine y_bipush C dX11_numbers_24 rfl ?_
          refine y_icmp_le C 32 dX11_numbers_26 (by decide) (by omega) (fun h116 => ?_) (fun h116 => ?_)
          · refine j_aload_n C 0 0 dX11_numbers_32 rfl rfl ?_
            refine y_getC C 10 50 fX11_numbers_52 rfl rfl ft_10_9 sm_10_9 rfl hM0 dX11_numbers_33 ?_
            refine j_iload_n C 1 1 dX11_numbers_36 rfl rfl ?_
            refine y_aaldE C 28 4 9 rfl rfl rfl rfl an_28 rfl sma_28 sta_28 (by decide) hM0 dX11_numbers_37 (by omega) (fun cv117 => ?_)
            refine j_iload_n C 2 2 dX11_numbers_38 rfl rfl ?_
            refine j_iload_n C 3 3 dX11_numbers_39 rfl rfl ?_
            refine j_callVv C (d := 1) (As := [.int (sI a2), .int (sI a3)]) (st := []) (s_p0 50 (a1).toNat) (s_lt cv117 rfl) (s_kc (c := 9) cv117 rfl) (by decide) rfl (s1_X10_layOut hM0 hpr hq9_1 hq9_2 cv117 a2 (by omega) a3 (by omega) (by omega) (by omega)) gX11_numbers_X10_layOut rfl hdX10_layOut (by decide) (Nat.le_of_ble_eq_true rfl) dX11_numbers_40 rfl (fun M119 h120 => ?_)
            obtain ⟨hM119, h121⟩ := h120
            refine y_iconst C dX11_numbers_43 ?_
            have u122x := nbx_yes (M := M0) (N := M119) (t := a1) (s := a2) (n := a3) (by omega) (by omega) (by omega)
            have u123n := nuF_s a1 a2 a3
            exact hret _ _ _ _ dX11_numbers_44 ⟨0, rfl, hM119, by omega⟩
          · refine y_bipush C dX11_numbers_29 rfl ?_
            have u124x := nbx_no (M := M0) (t := a1) (s := a2) (n := a3) (by omega)
            have u125n := nuF_s a1 a2 a3
            exact hret _ _ _ _ dX11_numbers_31 ⟨(-3), rfl, hM0, by omega⟩
      · refine y_bipush C dX11_numbers_16 rfl ?_
        have u126x := nbx_no (M := M0) (t := a1) (s := a2) (n := a3) (by omega)
        have u127n := nuF_s a1 a2 a3
        exact hret _ _ _ _ dX11_numbers_18 ⟨(-2), rfl, hM0, by omega⟩
set_option maxHeartbeats 4000000 in
theorem s2_X11_trayRefusal {l : Launch} {dC : Nat → ClassId} {dI : Nat → Nat → Nat} {ad : Nat → Nat} {cA : Nat → ClassId} {pr : Nat → Nat → Bool} {Kz : mm_M} {M0 : mm_M} (hM0 : INV pr Kz M0) (a1 : Int) (ha1 : -2147483648 ≤ a1 ∧ a1 ≤ 2147483647) : Ci l 1 yX11_trayRefusal wsX11_trayRefusal dC dI ad cA [.ref (ad 0), .int (sI a1)] M0 (fun r M' => ∃ a : Int, r = sI a ∧ M0 = M' ∧ (-6) ≤ a ∧ a ≤ 0 ∧ ((a1 < 0 ∨ 3 < a1) ∧ a = -2 ∨ 0 ≤ a1 ∧ a1 ≤ 3 ∧ (M0.1 (s_p0 50 (a1).toNat) 2).toInt = -1 ∧ a = -6 ∨ 0 ≤ a1 ∧ a1 ≤ 3 ∧ ¬ (M0.1 (s_p0 50 (a1).toNat) 2).toInt = -1 ∧ a = 0)) := by
  refine ci_of (cc := cX11_trayRefusal) (maxL := 2) (ty := .int) (lv := [(0, .ref (ad 0)), (1, .int (sI a1))]) (by decide) rfl (fun r M' hp => rfl) (Nat.le_of_ble_eq_true rfl) rfl ?_
  intro p e s m args below meth c A Q C hret
  refine j_iload_n C 1 1 dX11_trayRefusal_0 rfl rfl ?_
  refine j_callSi C (d := 0) (As := [.int (sI a1)]) (st := []) (s1_X11_isTray hM0 a1 (by omega)) gX11_trayRefusal_X11_isTray rfl hdX11_isTrays (by decide) (Nat.le_of_ble_eq_true rfl) dX11_trayRefusal_1 rfl (fun r101 M102 h103 => ?_)
  obtain ⟨a105, rfl, rfl, h104⟩ := h103
  refine y_if_ne C 10 dX11_trayRefusal_4 (by decide) (by omega) (fun h106 => ?_) (fun h106 => ?_)
  · refine j_aload_n C 0 0 dX11_trayRefusal_10 rfl rfl ?_
    refine y_getC C 10 50 fX11_trayRefusal_52 rfl rfl ft_10_9 sm_10_9 rfl hM0 dX11_trayRefusal_11 ?_
    refine j_iload_n C 1 1 dX11_trayRefusal_14 rfl rfl ?_
    refine y_aaldE C 28 4 9 rfl rfl rfl rfl an_28 rfl sma_28 sta_28 (by decide) hM0 dX11_trayRefusal_15 (by omega) (fun cv107 => ?_)
    refine j_callVi C (d := 0) (As := []) (st := []) (s_p0 50 (a1).toNat) (s_lt cv107 rfl) (s_kc (c := 9) cv107 rfl) (by decide) rfl (s1_X10_isMissing hM0 cv107) gX11_trayRefusal_X10_isMissing rfl hdX10_isMissing (by decide) (Nat.le_of_ble_eq_true rfl) dX11_trayRefusal_16 rfl (fun r108 M109 h110 => ?_)
    obtain ⟨a112, rfl, rfl, h111⟩ := h110
    refine y_if_eq C 27 dX11_trayRefusal_19 (by decide) (by omega) (fun h113 => ?_) (fun h113 => ?_)
    · refine y_iconst C dX11_trayRefusal_27 ?_
      exact hret _ _ _ _ dX11_trayRefusal_28 ⟨0, rfl, rfl, by omega⟩
    · refine y_bipush C dX11_trayRefusal_22 rfl ?_
      refine j_goto C 28 dX11_trayRefusal_24 (by decide) ?_
      exact hret _ _ _ _ dX11_trayRefusal_28 ⟨(-6), rfl, rfl, by omega⟩
  · refine y_bipush C dX11_trayRefusal_7 rfl ?_
    exact hret _ _ _ _ dX11_trayRefusal_9 ⟨(-2), rfl, rfl, by omega⟩
set_option maxHeartbeats 4000000 in
theorem s1_X10_cut {l : Launch} {dC : Nat → ClassId} {dI : Nat → Nat → Nat} {ad : Nat → Nat} {cA : Nat → ClassId} {pr : Nat → Nat → Bool} {Kz : mm_M} {M0 : mm_M} (hM0 : INV pr Kz M0) {v0 : Nat} (cv0 : s_c v0 = 9) (a1 : Int) (ha1 : -9223372036854775808 ≤ a1 ∧ a1 ≤ 9223372036854775807) : Cj l 0 yX10_cut wsX10_cut dC dI ad cA [.ref (ad v0), .long (sJ a1)] M0 (fun r M' => ∃ a : Int, r = sJ a ∧ M0 = M' ∧ (-9223372036854775808) ≤ a ∧ a ≤ 9223372036854775807 ∧ (a = ctF a1 (M0.1 v0 1).toInt)) := by
  refine cj_of (cc := cX10_cut) (maxL := 3) (lv := [(0, .ref (ad v0)), (1, .long (sJ a1))]) (by decide) rfl (Nat.le_of_ble_eq_true rfl) rfl ?_
  intro p e s m args below meth c A Q C hret
  refine j_aload_n C 0 0 dX10_cut_0 rfl rfl ?_
  refine y_getI C 9 _ _ fX10_cut_15 cv0 rfl ft_9_1 sb_9_1 hM0 dX10_cut_1 (fun a101 ea101 la101 ua101 => ?_)
  rcases (show (a101 < 0 ∨ 2 < a101) ∨ a101 = 0 ∨ a101 = 1 ∨ a101 = 2 by omega) with h103 | h103 | h103 | h103
  · refine y_tabO C 46 dX10_cut_4 (by decide) (by omega) ?_
    refine j_lload_n C 1 1 dX10_cut_46 rfl rfl ?_
    have u104 := ctF_s a1 (M0.1 v0 1).toInt
    exact hret _ _ _ _ dX10_cut_47 ⟨a1, rfl, rfl, by omega⟩
  · refine y_tabI C (off := 28) 32 0 dX10_cut_4 (by decide) rfl (by decide) h103 ?_
    refine j_lload_n C 1 1 dX10_cut_32 rfl rfl ?_
    refine e_l2i C dX10_cut_33 (fun lb105 ub105 => ?_)
    refine e_i2b C dX10_cut_34 (fun lb106 ub106 => ?_)
    refine y_i2l C dX10_cut_35 (by omega) ?_
    have u107 := ctF_s a1 (M0.1 v0 1).toInt
    exact hret _ _ _ _ dX10_cut_36 ⟨(i8F (w32 a1)), rfl, rfl, by omega⟩
  · refine y_tabI C (off := 33) 37 1 dX10_cut_4 (by decide) rfl (by decide) h103 ?_
    refine j_lload_n C 1 1 dX10_cut_37 rfl rfl ?_
    refine e_l2i C dX10_cut_38 (fun lb108 ub108 => ?_)
    refine e_i2s C dX10_cut_39 (fun lb109 ub109 => ?_)
    refine y_i2l C dX10_cut_40 (by omega) ?_
    have u110 := ctF_s a1 (M0.1 v0 1).toInt
    exact hret _ _ _ _ dX10_cut_41 ⟨(i16F (w32 a1)), rfl, rfl, by omega⟩
  · refine y_tabI C (off := 38) 42 2 dX10_cut_4 (by decide) rfl (by decide) h103 ?_
    refine j_lload_n C 1 1 dX10_cut_42 rfl rfl ?_
    refine e_l2i C dX10_cut_43 (fun lb111 ub111 => ?_)
    refine y_i2l C dX10_cut_44 (by omega) ?_
    have u112 := ctF_s a1 (M0.1 v0 1).toInt
    exact hret _ _ _ _ dX10_cut_45 ⟨(w32 a1), rfl, rfl, by omega⟩
set_option maxHeartbeats 4000000 in
theorem s1_X10_put {l : Launch} {dC : Nat → ClassId} {dI : Nat → Nat → Nat} {ad : Nat → Nat} {cA : Nat → ClassId} {pr : Nat → Nat → Bool} {Kz : mm_M} {M0 : mm_M} (hM0 : INV pr Kz M0) (hpr : PX pr) {v0 : Nat} (cv0 : s_c v0 = 9) (a1 : Int) (ha1 : -2147483648 ≤ a1 ∧ a1 ≤ 2147483647) (a2 : Int) (ha2 : -9223372036854775808 ≤ a2 ∧ a2 ≤ 9223372036854775807) : Cv l 1 yX10_put wsX10_put dC dI ad cA [.ref (ad v0), .int (sI a1), .long (sJ a2)] M0 (fun M' => INV pr Kz M' ∧ (0 ≤ a1 ∧ a1 < (M0.1 v0 2).toInt ∧ (M'.2.1 (s_p0 v0 0) (a1).toNat).toInt = ctF a2 (M0.1 v0 1).toInt ∨ (a1 < 0 ∨ (M0.1 v0 2).toInt ≤ a1))) := by
  refine cv_of (cc := cX10_put) (maxL := 4) (lv := [(0, .ref (ad v0)), (1, .int (sI a1)), (2, .long (sJ a2))]) (by decide) rfl (Nat.le_of_ble_eq_true rfl) rfl ?_
  intro p e s m args below meth c A Q C hret
  refine j_aload_n C 0 0 dX10_put_0 rfl rfl ?_
  refine j_iload_n C 1 1 dX10_put_1 rfl rfl ?_
  refine j_callVi C (d := 0) (As := [.int (sI a1)]) (st := []) v0 (s_lt cv0 rfl) (s_kc (c := 9) cv0 rfl) (by decide) rfl (s1_X10_has hM0 cv0 a1 (by omega)) gX10_put_X10_has rfl hdX10_has (by decide) (Nat.le_of_ble_eq_true rfl) dX10_put_2 rfl (fun r101 M102 h103 => ?_)
  obtain ⟨a105, rfl, rfl, h104⟩ := h103
  refine y_if_eq C 19 dX10_put_5 (by decide) (by omega) (fun h106 => ?_) (fun h106 => ?_)
  · exact hret _ _ _ dX10_put_19 ⟨hM0, by omega⟩
  · refine j_aload_n C 0 0 dX10_put_8 rfl rfl ?_
    refine y_getTE C 9 29 fX10_put_9 cv0 rfl ft_9_0 rfl sm_9_0 st_9_0 (by decide) hM0 dX10_put_9 (fun cv108 => ?_)
    refine j_iload_n C 1 1 dX10_put_12 rfl rfl ?_
    refine j_aload_n C 0 0 dX10_put_13 rfl rfl ?_
    refine j_lload_n C 2 2 dX10_put_14 rfl rfl ?_
    refine j_callVj C (d := 0) (As := [.long (sJ a2)]) (st := [.int (sI a1), .ref (ad (s_p0 v0 0))]) v0 (s_lt cv0 rfl) (s_kc (c := 9) cv0 rfl) (by decide) rfl (s1_X10_cut hM0 cv0 a2 (by omega)) gX10_put_X10_cut rfl hdX10_cut (by decide) (Nat.le_of_ble_eq_true rfl) dX10_put_15 rfl (fun r109 M110 h111 => ?_)
    obtain ⟨a113, rfl, rfl, h112⟩ := h111
    refine y_last C 29 40 cv108 rfl rfl ak_29 an_29 rfl hM0 (PX.w hpr cv108 rfl) dX10_put_18 (by omega) (fun M114 eM114 hM114 => ?_)
    have u115 := wJ_rd eM114 (by omega)
    exact hret _ _ _ dX10_put_19 ⟨hM114, by omega⟩
set_option maxHeartbeats 4000000 in
theorem s2_X10_numberAt {l : Launch} {dC : Nat → ClassId} {dI : Nat → Nat → Nat} {ad : Nat → Nat} {cA : Nat → ClassId} {pr : Nat → Nat → Bool} {Kz : mm_M} {M0 : mm_M} (hM0 : INV pr Kz M0) {v0 : Nat} (cv0 : s_c v0 = 9) (a1 : Int) (ha1 : -2147483648 ≤ a1 ∧ a1 ≤ 2147483647) : Cj l 1 yX10_numberAt wsX10_numberAt dC dI ad cA [.ref (ad v0), .int (sI a1)] M0 (fun r M' => ∃ a : Int, r = sJ a ∧ M0 = M' ∧ (-9223372036854775808) ≤ a ∧ a ≤ 9223372036854775807 ∧ (0 ≤ a1 ∧ a1 < (M0.1 v0 2).toInt ∧ a = (M0.2.1 (s_p0 v0 0) (a1).toNat).toInt ∨ (a1 < 0 ∨ (M0.1 v0 2).toInt ≤ a1) ∧ a = 0)) := by
  refine cj_of (cc := cX10_numberAt) (maxL := 2) (lv := [(0, .ref (ad v0)), (1, .int (sI a1))]) (by decide) rfl (Nat.le_of_ble_eq_true rfl) rfl ?_
  intro p e s m args below meth c A Q C hret
  refine j_aload_n C 0 0 dX10_numberAt_0 rfl rfl ?_
  refine j_iload_n C 1 1 dX10_numberAt_1 rfl rfl ?_
  refine j_callVi C (d := 0) (As := [.int (sI a1)]) (st := []) v0 (s_lt cv0 rfl) (s_kc (c := 9) cv0 rfl) (by decide) rfl (s1_X10_has hM0 cv0 a1 (by omega)) gX10_numberAt_X10_has rfl hdX10_has (by decide) (Nat.le_of_ble_eq_true rfl) dX10_numberAt_2 rfl (fun r101 M102 h103 => ?_)
  obtain ⟨a105, rfl, rfl, h104⟩ := h103
  refine y_if_eq C 17 dX10_numberAt_5 (by decide) (by omega) (fun h106 => ?_) (fun h106 => ?_)
  · refine y_lconst C 0 dX10_numberAt_17 rfl ?_
    exact hret _ _ _ _ dX10_numberAt_18 ⟨0, rfl, rfl, by omega⟩
  · refine j_aload_n C 0 0 dX10_numberAt_8 rfl rfl ?_
    refine y_getTE C 9 29 fX10_numberAt_9 cv0 rfl ft_9_0 rfl sm_9_0 st_9_0 (by decide) hM0 dX10_numberAt_9 (fun cv107 => ?_)
    refine j_iload_n C 1 1 dX10_numberAt_12 rfl rfl ?_
    refine y_lald C 29 40 cv107 rfl rfl ak_29 an_29 rfl dX10_numberAt_13 (by omega) (fun a108 ea108 la108 ua108 => ?_)
    refine j_goto C 18 dX10_numberAt_14 (by decide) ?_
    exact hret _ _ _ _ dX10_numberAt_18 ⟨a108, rfl, rfl, by omega⟩
set_option maxHeartbeats 4000000 in
theorem s1_X11_write {l : Launch} {dC : Nat → ClassId} {dI : Nat → Nat → Nat} {ad : Nat → Nat} {cA : Nat → ClassId} {pr : Nat → Nat → Bool} {Kz : mm_M} {M0 : mm_M} (hM0 : INV pr Kz M0) (hpr : PX pr) (a1 : Int) (ha1 : -2147483648 ≤ a1 ∧ a1 ≤ 2147483647) (a2 : Int) (ha2 : -2147483648 ≤ a2 ∧ a2 ≤ 2147483647) (a3 : Int) (ha3 : -9223372036854775808 ≤ a3 ∧ a3 ≤ 9223372036854775807) : Cj l 2 yX11_write wsX11_write dC dI ad cA [.ref (ad 0), .int (sI a1), .int (sI a2), .long (sJ a3)] M0 (fun r M' => ∃ a : Int, r = sJ a ∧ INV pr Kz M' ∧ (-9223372036854775808) ≤ a ∧ a ≤ 9223372036854775807 ∧ ((a1 < 0 ∨ 3 < a1) ∧ a = -2 ∨ 0 ≤ a1 ∧ a1 ≤ 3 ∧ (M0.1 (s_p0 50 (a1).toNat) 2).toInt = -1 ∧ a = -6 ∨ 0 ≤ a1 ∧ a1 ≤ 3 ∧ ¬ (M0.1 (s_p0 50 (a1).toNat) 2).toInt = -1 ∧ (a2 < 0 ∨ (M0.1 (s_p0 50 (a1).toNat) 2).toInt ≤ a2) ∧ a = -7 ∨ 0 ≤ a1 ∧ a1 ≤ 3 ∧ ¬ (M0.1 (s_p0 50 (a1).toNat) 2).toInt = -1 ∧ 0 ≤ a2 ∧ a2 < (M0.1 (s_p0 50 (a1).toNat) 2).toInt ∧ a = ctF a3 (M0.1 (s_p0 50 (a1).toNat) 1).toInt)) := by
  refine cj_of (cc := cX11_write) (maxL := 6) (lv := [(0, .ref (ad 0)), (1, .int (sI a1)), (2, .int (sI a2)), (3, .long (sJ a3))]) (by decide) rfl (Nat.le_of_ble_eq_true rfl) rfl ?_
  intro p e s m args below meth c A Q C hret
  refine j_aload_n C 0 0 dX11_write_0 rfl rfl ?_
  refine j_iload_n C 1 1 dX11_write_1 rfl rfl ?_
  refine j_callVi C (d := 1) (As := [.int (sI a1)]) (st := []) 0 (s_lt rfl rfl) (s_kc (c := 10) rfl rfl) (by decide) rfl (s2_X11_trayRefusal hM0 a1 (by omega)) gX11_write_X11_trayRefusal rfl hdX11_trayRefusal (by decide) (Nat.le_of_ble_eq_true rfl) dX11_write_2 rfl (fun r101 M102 h103 => ?_)
  obtain ⟨a105, rfl, rfl, h104⟩ := h103
  refine j_istore C 5 [(5, .int (sI a105)), (0, .ref (ad 0)), (1, .int (sI a1)), (2, .int (sI a2)), (3, .long (sJ a3))] dX11_write_5 (by decide) rfl ?_
  refine j_iload C 0 dX11_write_7 rfl ?_
  refine y_if_eq C 16 dX11_write_9 (by decide) (by omega) (fun h106 => ?_) (fun h106 => ?_)
  · refine j_aload_n C 1 0 dX11_write_16 rfl rfl ?_
    refine y_getC C 10 50 fX11_write_52 rfl rfl ft_10_9 sm_10_9 rfl hM0 dX11_write_17 ?_
    refine j_iload_n C 2 1 dX11_write_20 rfl rfl ?_
    refine y_aaldE C 28 4 9 rfl rfl rfl rfl an_28 rfl sma_28 sta_28 (by decide) hM0 dX11_write_21 (by omega) (fun cv107 => ?_)
    refine j_iload_n C 3 2 dX11_write_22 rfl rfl ?_
    refine j_callVi C (d := 0) (As := [.int (sI a2)]) (st := []) (s_p0 50 (a1).toNat) (s_lt cv107 rfl) (s_kc (c := 9) cv107 rfl) (by decide) rfl (s1_X10_has hM0 cv107 a2 (by omega)) gX11_write_X10_has rfl hdX10_has (by decide) (Nat.le_of_ble_eq_true rfl) dX11_write_23 rfl (fun r108 M109 h110 => ?_)
    obtain ⟨a112, rfl, rfl, h111⟩ := h110
    refine y_if_ne C 33 dX11_write_26 (by decide) (by omega) (fun h113 => ?_) (fun h113 => ?_)
    · refine j_aload_n C 1 0 dX11_write_33 rfl rfl ?_
      refine y_getC C 10 50 fX11_write_52 rfl rfl ft_10_9 sm_10_9 rfl hM0 dX11_write_34 ?_
      refine j_iload_n C 2 1 dX11_write_37 rfl rfl ?_
      refine y_aaldE C 28 4 9 rfl rfl rfl rfl an_28 rfl sma_28 sta_28 (by decide) hM0 dX11_write_38 (by omega) (fun cv114 => ?_)
      refine j_iload_n C 3 2 dX11_write_39 rfl rfl ?_
      refine j_lload_n C 4 3 dX11_write_40 rfl rfl ?_
      have hprO := hpr
      obtain ⟨pr2, Kz2, hpr, hM0, hbk⟩ := fzX hpr hM0
      refine j_callVv C (d := 1) (As := [.int (sI a2), .long (sJ a3)]) (st := []) (s_p0 50 (a1).toNat) (s_lt cv114 rfl) (s_kc (c := 9) cv114 rfl) (by decide) rfl (s1_X10_put hM0 hpr cv114 a2 (by omega) a3 (by omega)) gX11_write_X10_put rfl hdX10_put (by decide) (Nat.le_of_ble_eq_true rfl) dX11_write_41 rfl (fun M117 h118 => ?_)
      obtain ⟨hM117, h119⟩ := h118
      have u120z := congrArg Int32.toInt ((hbk _ hM117).2 (s_p0 50 (a1).toNat) 2 (by rw [p50_c (a1).toNat (by omega)]; rfl))
      have hM117 := (hbk _ hM117).1
      have hpr := hprO
      refine j_aload_n C 1 0 dX11_write_44 rfl rfl ?_
      refine y_getC C 10 50 fX11_write_52 rfl rfl ft_10_9 sm_10_9 rfl hM117 dX11_write_45 ?_
      refine j_iload_n C 2 1 dX11_write_48 rfl rfl ?_
      refine y_aaldE C 28 4 9 rfl rfl rfl rfl an_28 rfl sma_28 sta_28 (by decide) hM117 dX11_write_49 (by omega) (fun cv121 => ?_)
      refine j_iload_n C 3 2 dX11_write_50 rfl rfl ?_
      refine j_callVj C (d := 1) (As := [.int (sI a2)]) (st := []) (s_p0 50 (a1).toNat) (s_lt cv121 rfl) (s_kc (c := 9) cv121 rfl) (by decide) rfl (s2_X10_numberAt hM117 cv121 a2 (by omega)) gX11_write_X10_numberAt rfl hdX10_numberAt (by decide) (Nat.le_of_ble_eq_true rfl) dX11_write_51 rfl (fun r122 M123 h124 => ?_)
      obtain ⟨a126, rfl, rfl, h125⟩ := h124
      exact hret _ _ _ _ dX11_write_54 ⟨a126, rfl, hM117, by omega⟩
    · refine y_ldc2 C (-7) dX11_write_29 kX11_write_387 rfl ?_
      exact hret _ _ _ _ dX11_write_32 ⟨(-7), rfl, hM0, by omega⟩
  · refine j_iload C 0 dX11_write_12 rfl ?_
    refine y_i2l C dX11_write_14 (by omega) ?_
    exact hret _ _ _ _ dX11_write_15 ⟨a105, rfl, hM0, by omega⟩
set_option maxHeartbeats 4000000 in
theorem s2_X10_put {l : Launch} {dC : Nat → ClassId} {dI : Nat → Nat → Nat} {ad : Nat → Nat} {cA : Nat → ClassId} {pr : Nat → Nat → Bool} {Kz : mm_M} {M0 : mm_M} (hM0 : INV pr Kz M0) (hpr : PX pr) {v0 : Nat} (cv0 : s_c v0 = 9) (a1 : Int) (ha1 : -2147483648 ≤ a1 ∧ a1 ≤ 2147483647) (a2 : Int) (ha2 : -9223372036854775808 ≤ a2 ∧ a2 ≤ 9223372036854775807) : Cv l 1 yX10_put wsX10_put dC dI ad cA [.ref (ad v0), .int (sI a1), .long (sJ a2)] M0 (fun M' => INV pr Kz M') := by
  refine cv_of (cc := cX10_put) (maxL := 4) (lv := [(0, .ref (ad v0)), (1, .int (sI a1)), (2, .long (sJ a2))]) (by decide) rfl (Nat.le_of_ble_eq_true rfl) rfl ?_
  intro p e s m args below meth c A Q C hret
  refine j_aload_n C 0 0 dX10_put_0 rfl rfl ?_
  refine j_iload_n C 1 1 dX10_put_1 rfl rfl ?_
  refine j_callVi C (d := 0) (As := [.int (sI a1)]) (st := []) v0 (s_lt cv0 rfl) (s_kc (c := 9) cv0 rfl) (by decide) rfl (s1_X10_has hM0 cv0 a1 (by omega)) gX10_put_X10_has rfl hdX10_has (by decide) (Nat.le_of_ble_eq_true rfl) dX10_put_2 rfl (fun r101 M102 h103 => ?_)
  obtain ⟨a105, rfl, rfl, h104⟩ := h103
  refine y_if_eq C 19 dX10_put_5 (by decide) (by omega) (fun h106 => ?_) (fun h106 => ?_)
  · exact hret _ _ _ dX10_put_19 hM0
  · refine j_aload_n C 0 0 dX10_put_8 rfl rfl ?_
    refine y_getT C 9 29 fX10_put_9 cv0 rfl ft_9_0 rfl sm_9_0 st_9_0 (by decide) hM0 dX10_put_9 (fun v107 cv107 => ?_)
    refine j_iload_n C 1 1 dX10_put_12 rfl rfl ?_
    refine j_aload_n C 0 0 dX10_put_13 rfl rfl ?_
    refine j_lload_n C 2 2 dX10_put_14 rfl rfl ?_
    refine j_callVj C (d := 0) (As := [.long (sJ a2)]) (st := [.int (sI a1), .ref (ad v107)]) v0 (s_lt cv0 rfl) (s_kc (c := 9) cv0 rfl) (by decide) rfl (s1_X10_cut hM0 cv0 a2 (by omega)) gX10_put_X10_cut rfl hdX10_cut (by decide) (Nat.le_of_ble_eq_true rfl) dX10_put_15 rfl (fun r108 M109 h110 => ?_)
    obtain ⟨a112, rfl, rfl, h111⟩ := h110
    refine y_last C 29 40 cv107 rfl rfl ak_29 an_29 rfl hM0 (PX.w hpr cv107 rfl) dX10_put_18 (by omega) (fun M113 eM113 hM113 => ?_)
    exact hret _ _ _ dX10_put_19 hM113
set_option maxHeartbeats 4000000 in
theorem s1_X11_lists {l : Launch} {dC : Nat → ClassId} {dI : Nat → Nat → Nat} {ad : Nat → Nat} {cA : Nat → ClassId} {pr : Nat → Nat → Bool} {Kz : mm_M} {M0 : mm_M} (hM0 : INV pr Kz M0) (hpr : PX pr) (a1 : Int) (ha1 : -2147483648 ≤ a1 ∧ a1 ≤ 2147483647) : Ci l 6 yX11_lists wsX11_lists dC dI ad cA [.ref (ad 0), .int (sI a1)] M0 (fun r M' => ∃ a : Int, r = sI a ∧ INV pr Kz M' ∧ (-2147483648) ≤ a ∧ a ≤ 40) := by
  refine ci_of (cc := cX11_lists) (maxL := 6) (ty := .int) (lv := [(0, .ref (ad 0)), (1, .int (sI a1))]) (by decide) rfl (fun r M' hp => rfl) (Nat.le_of_ble_eq_true rfl) rfl ?_
  intro p e s m args below meth c A Q C hret
  refine j_aload_n C 0 0 dX11_lists_0 rfl rfl ?_
  refine j_iload_n C 1 1 dX11_lists_1 rfl rfl ?_
  refine j_callVi C (d := 1) (As := [.int (sI a1)]) (st := []) 0 (s_lt rfl rfl) (s_kc (c := 10) rfl rfl) (by decide) rfl (s1_X11_trayRefusal hM0 a1 (by omega)) gX11_lists_X11_trayRefusal rfl hdX11_trayRefusal (by decide) (Nat.le_of_ble_eq_true rfl) dX11_lists_2 rfl (fun r101 M102 h103 => ?_)
  obtain ⟨a105, rfl, rfl, h104⟩ := h103
  refine j_istore_n C 2 [(2, .int (sI a105)), (0, .ref (ad 0)), (1, .int (sI a1))] dX11_lists_5 rfl (by decide) rfl ?_
  refine j_iload_n C 0 2 dX11_lists_6 rfl rfl ?_
  refine y_if_eq C 12 dX11_lists_7 (by decide) (by omega) (fun h106 => ?_) (fun h106 => ?_)
  · refine j_aload_n C 1 0 dX11_lists_12 rfl rfl ?_
    refine y_getC C 10 88 fX11_lists_94 rfl rfl ft_10_14 sm_10_14 rfl hM0 dX11_lists_13 ?_
    refine j_aload_n C 1 0 dX11_lists_16 rfl rfl ?_
    refine y_getM C 10 6 fX11_lists_26 rfl rfl ft_10_4 sm_10_4 (by decide) hM0 dX11_lists_17 (fun v107 ev107 cv107 => ?_)
    refine j_aload_n C 1 0 dX11_lists_20 rfl rfl ?_
    refine y_getC C 10 12 fX11_lists_36 rfl rfl ft_10_6 sm_10_6 rfl hM0 dX11_lists_21 ?_
    refine j_aload_n C 1 0 dX11_lists_24 rfl rfl ?_
    refine y_getC C 10 12 fX11_lists_36 rfl rfl ft_10_6 sm_10_6 rfl hM0 dX11_lists_25 ?_
    refine y_getI C 8 _ _ fX11_lists_153 rfl rfl ft_8_4 sb_8_4 hM0 dX11_lists_28 (fun a108 ea108 la108 ua108 => ?_)
    refine j_callVv C (d := 5) (As := [.ref (ad v107), .ref (ad 12), .int (sI a108)]) (st := []) 88 (s_lt rfl rfl) (s_kc (c := 4) rfl rfl) (by decide) rfl (s1_X5_look hM0 hpr cv107 rfl a108 (by omega)) gX11_lists_X5_look rfl hdX5_look (by decide) (Nat.le_of_ble_eq_true rfl) dX11_lists_31 rfl (fun M111 h112 => ?_)
    have hM111 := h112
    refine j_aload_n C 1 0 dX11_lists_34 rfl rfl ?_
    refine y_getC C 10 88 fX11_lists_94 rfl rfl ft_10_14 sm_10_14 rfl hM111 dX11_lists_35 ?_
    refine j_callVi C (d := 3) (As := []) (st := []) 88 (s_lt rfl rfl) (s_kc (c := 4) rfl rfl) (by decide) rfl (s1_X5_shortest hM111 hpr) gX11_lists_X5_shortest rfl hdX5_shortest (by decide) (Nat.le_of_ble_eq_true rfl) dX11_lists_38 rfl (fun r114 M115 h116 => ?_)
    obtain ⟨a118, rfl, hM115, h117⟩ := h116
    refine j_istore_n C 3 [(3, .int (sI a118)), (2, .int (sI a105)), (0, .ref (ad 0)), (1, .int (sI a1))] dX11_lists_41 rfl (by decide) rfl ?_
    refine j_iload_n C 0 3 dX11_lists_42 rfl rfl ?_
    refine y_iconst C dX11_lists_43 ?_
    refine y_icmp_ne C 50 dX11_lists_44 (by decide) (by omega) (fun h119 => ?_) (fun h119 => ?_)
    · refine j_iload_n C 0 3 dX11_lists_50 rfl rfl ?_
      refine j_aload_n C 2 0 dX11_lists_51 rfl rfl ?_
      refine y_getC C 10 50 fX11_lists_52 rfl rfl ft_10_9 sm_10_9 rfl hM115 dX11_lists_52 ?_
      refine j_iload_n C 3 1 dX11_lists_55 rfl rfl ?_
      refine y_aald C 28 4 9 rfl rfl rfl rfl an_28 rfl sma_28 sta_28 (by decide) hM115 dX11_lists_56 (by omega) (fun v120 cv120 => ?_)
      refine j_callVi C (d := 1) (As := []) (st := [.int (sI a118)]) v120 (s_lt cv120 rfl) (s_kc (c := 9) cv120 rfl) (by decide) rfl (s1_X10_size hM115 cv120) gX11_lists_X10_size rfl hdX10_size (by decide) (Nat.le_of_ble_eq_true rfl) dX11_lists_57 rfl (fun r121 M122 h123 => ?_)
      obtain ⟨a125, rfl, rfl, h124⟩ := h123
      refine y_mmin C wX11_lists_246_0 wX11_lists_246_1 wX11_lists_246_2 wX11_lists_246_3 (by decide) (Nat.le_of_ble_eq_true rfl) dX11_lists_60 (by omega) (fun a126 ha126 => ?_)
      refine j_istore C 4 [(4, .int (sI a126)), (3, .int (sI a118)), (2, .int (sI a105)), (0, .ref (ad 0)), (1, .int (sI a1))] dX11_lists_63 (by decide) rfl ?_
      refine y_iconst C dX11_lists_65 ?_
      refine j_istore C 5 [(5, .int (sI 0)), (4, .int (sI a126)), (3, .int (sI a118)), (2, .int (sI a105)), (0, .ref (ad 0)), (1, .int (sI a1))] dX11_lists_66 (by decide) rfl ?_
      have L350 : ∀ (n348 : Nat), ∀ (a351 : Int) (M352 : mm_M), (0 ≤ a351 ∧ a351 ≤ 40 ∧ (40 - a351) < (n348 : Int)) → INV pr Kz M352 → jj p l e (cn_R 6) s m args below meth c 0 0 Q 6 dC dI ad cA A M352 68 [(0, .ref (ad 0)), (1, .int (sI a1)), (4, .int (sI a126)), (5, .int (sI a351))] [] := by
        intro n348
        induction n348 with
        | zero =>
          intro a351 M352 h353 hM352
          exfalso; omega
        | succ n348 ih349 =>
          intro a351 M352 h353 hM352
          refine j_iload C 3 dX11_lists_68 rfl ?_
          refine j_iload C 2 dX11_lists_70 rfl ?_
          refine y_icmp_ge C 102 dX11_lists_72 (by decide) (by omega) (fun h354 => ?_) (fun h354 => ?_)
          · refine j_iload C 2 dX11_lists_102 rfl ?_
            exact hret _ _ _ _ dX11_lists_104 ⟨a126, rfl, hM352, by omega⟩
          · refine j_aload_n C 0 0 dX11_lists_75 rfl rfl ?_
            refine y_getC C 10 50 fX11_lists_52 rfl rfl ft_10_9 sm_10_9 rfl hM352 dX11_lists_76 ?_
            refine j_iload_n C 1 1 dX11_lists_79 rfl rfl ?_
            refine y_aald C 28 4 9 rfl rfl rfl rfl an_28 rfl sma_28 sta_28 (by decide) hM352 dX11_lists_80 (by omega) (fun v355 cv355 => ?_)
            refine j_iload C 3 dX11_lists_81 rfl ?_
            refine j_aload_n C 0 0 dX11_lists_83 rfl rfl ?_
            refine y_getC C 10 88 fX11_lists_94 rfl rfl ft_10_14 sm_10_14 rfl hM352 dX11_lists_84 ?_
            refine j_iload C 3 dX11_lists_87 rfl ?_
            refine j_callVi C (d := 2) (As := [.int (sI a351)]) (st := [.int (sI a351), .ref (ad v355)]) 88 (s_lt rfl rfl) (s_kc (c := 4) rfl rfl) (by decide) rfl (s1_X5_comerAt hM352 a351 (by omega)) gX11_lists_X5_comerAt rfl hdX5_comerAt (by decide) (Nat.le_of_ble_eq_true rfl) dX11_lists_89 rfl (fun r356 M357 h358 => ?_)
            obtain ⟨a360, rfl, rfl, h359⟩ := h358
            refine y_i2l C dX11_lists_92 (by omega) ?_
            refine j_callVv C (d := 1) (As := [.int (sI a351), .long (sJ a360)]) (st := []) v355 (s_lt cv355 rfl) (s_kc (c := 9) cv355 rfl) (by decide) rfl (s2_X10_put hM352 hpr cv355 a351 (by omega) a360 (by omega)) gX11_lists_X10_put rfl hdX10_put (by decide) (Nat.le_of_ble_eq_true rfl) dX11_lists_93 rfl (fun M362 h363 => ?_)
            have hM362 := h363
            refine y_iinc C 3 [(5, .int (sI (a351 + 1))), (0, .ref (ad 0)), (1, .int (sI a1)), (4, .int (sI a126))] dX11_lists_96 rfl (by decide) rfl ?_
            refine j_goto C 68 dX11_lists_99 (by decide) ?_
            refine j_lv [1, 2, 3, 0] rfl ?_; exact ih349 (a351 + 1) M362 (by omega) hM362
      refine j_lv [4, 5, 1, 0] rfl ?_; exact L350 2010 0 M115 (by omega) hM115
    · refine y_bipush C dX11_lists_47 rfl ?_
      exact hret _ _ _ _ dX11_lists_49 ⟨(-5), rfl, hM115, by omega⟩
  · refine j_iload_n C 0 2 dX11_lists_10 rfl rfl ?_
    exact hret _ _ _ _ dX11_lists_11 ⟨a105, rfl, hM0, by omega⟩
set_option maxHeartbeats 4000000 in
theorem s1_X7_copyFrom {l : Launch} {dC : Nat → ClassId} {dI : Nat → Nat → Nat} {ad : Nat → Nat} {cA : Nat → ClassId} {pr : Nat → Nat → Bool} {Kz : mm_M} {M0 : mm_M} (hM0 : INV pr Kz M0) (hpr : PX pr) (hq6_0 : ∀ i, s_c i = 6 → pr i 0 = false) (hq6_1 : ∀ i, s_c i = 6 → pr i 1 = false) {v0 : Nat} (cv0 : s_c v0 = 6) {v1 : Nat} (cv1 : s_c v1 = 6) : Cv l 0 yX7_copyFrom wsX7_copyFrom dC dI ad cA [.ref (ad v0), .ref (ad v1)] M0 (fun M' => INV pr Kz M') := by
  refine cv_of (cc := cX7_copyFrom) (maxL := 3) (lv := [(0, .ref (ad v0)), (1, .ref (ad v1))]) (by decide) rfl (Nat.le_of_ble_eq_true rfl) rfl ?_
  intro p e s m args below meth c A Q C hret
  refine j_aload_n C 0 0 dX7_copyFrom_0 rfl rfl ?_
  refine j_aload_n C 1 1 dX7_copyFrom_1 rfl rfl ?_
  refine y_getI C 6 _ _ fX7_copyFrom_9 cv1 rfl ft_6_0 sb_6_0 hM0 dX7_copyFrom_2 (fun a101 ea101 la101 ua101 => ?_)
  refine y_putI C 6 _ _ qX7_copyFrom_9 cv0 rfl ft_6_0 sb_6_0 hM0 (hq6_0 _ cv0) dX7_copyFrom_5 (by omega) (fun M103 eM103 hM103 => ?_)
  refine j_aload_n C 0 0 dX7_copyFrom_8 rfl rfl ?_
  refine j_aload_n C 1 1 dX7_copyFrom_9 rfl rfl ?_
  refine y_getI C 6 _ _ fX7_copyFrom_15 cv1 rfl ft_6_1 sb_6_1 hM103 dX7_copyFrom_10 (fun a104 ea104 la104 ua104 => ?_)
  refine y_putIF C 6 qX7_copyFrom_15 cv0 rfl ft_6_1 sb_6_1 hM103 (hq6_1 _ cv0) dX7_copyFrom_13 (fun M106 eM106 hM106 => ?_)
  refine j_aload_n C 0 0 dX7_copyFrom_16 rfl rfl ?_
  refine j_aload_n C 1 1 dX7_copyFrom_17 rfl rfl ?_
  refine y_getI C 6 _ _ fX7_copyFrom_31 cv1 rfl ft_6_6 sb_6_6 hM106 dX7_copyFrom_18 (fun a107 ea107 la107 ua107 => ?_)
  refine y_putI C 6 _ _ qX7_copyFrom_31 cv0 rfl ft_6_6 sb_6_6 hM106 (PX.w hpr cv0 rfl) dX7_copyFrom_21 (by omega) (fun M109 eM109 hM109 => ?_)
  refine j_aload_n C 0 0 dX7_copyFrom_24 rfl rfl ?_
  refine j_aload_n C 1 1 dX7_copyFrom_25 rfl rfl ?_
  refine y_getI C 6 _ _ fX7_copyFrom_34 cv1 rfl ft_6_7 sb_6_7 hM109 dX7_copyFrom_26 (fun a110 ea110 la110 ua110 => ?_)
  refine y_putI C 6 _ _ qX7_copyFrom_34 cv0 rfl ft_6_7 sb_6_7 hM109 (PX.w hpr cv0 rfl) dX7_copyFrom_29 (by omega) (fun M112 eM112 hM112 => ?_)
  refine j_aload_n C 0 0 dX7_copyFrom_32 rfl rfl ?_
  refine j_aload_n C 1 1 dX7_copyFrom_33 rfl rfl ?_
  refine y_getI C 6 _ _ fX7_copyFrom_37 cv1 rfl ft_6_8 sb_6_8 hM112 dX7_copyFrom_34 (fun a113 ea113 la113 ua113 => ?_)
  refine y_putI C 6 _ _ qX7_copyFrom_37 cv0 rfl ft_6_8 sb_6_8 hM112 (PX.w hpr cv0 rfl) dX7_copyFrom_37 (by omega) (fun M115 eM115 hM115 => ?_)
  refine j_aload_n C 0 0 dX7_copyFrom_40 rfl rfl ?_
  refine j_aload_n C 1 1 dX7_copyFrom_41 rfl rfl ?_
  refine y_getI C 6 _ _ fX7_copyFrom_40 cv1 rfl ft_6_9 sb_6_9 hM115 dX7_copyFrom_42 (fun a116 ea116 la116 ua116 => ?_)
  refine y_putI C 6 _ _ qX7_copyFrom_40 cv0 rfl ft_6_9 sb_6_9 hM115 (PX.w hpr cv0 rfl) dX7_copyFrom_45 (by omega) (fun M118 eM118 hM118 => ?_)
  refine j_aload_n C 0 0 dX7_copyFrom_48 rfl rfl ?_
  refine j_aload_n C 1 1 dX7_copyFrom_49 rfl rfl ?_
  refine y_getI C 6 _ _ fX7_copyFrom_43 cv1 rfl ft_6_10 sb_6_10 hM118 dX7_copyFrom_50 (fun a119 ea119 la119 ua119 => ?_)
  refine y_putI C 6 _ _ qX7_copyFrom_43 cv0 rfl ft_6_10 sb_6_10 hM118 (PX.w hpr cv0 rfl) dX7_copyFrom_53 (by omega) (fun M121 eM121 hM121 => ?_)
  refine y_iconst C dX7_copyFrom_56 ?_
  refine j_istore_n C 2 [(2, .int (sI 0)), (0, .ref (ad v0)), (1, .ref (ad v1))] dX7_copyFrom_57 rfl (by decide) rfl ?_
  have L229 : ∀ (n227 : Nat), ∀ (a230 : Int) (M231 : mm_M), (0 ≤ a230 ∧ a230 ≤ 6 ∧ (6 - a230) < (n227 : Int)) → INV pr Kz M231 → jj p l e (cn_R 0) s m args below meth c 0 0 Q 3 dC dI ad cA A M231 58 [(0, .ref (ad v0)), (1, .ref (ad v1)), (2, .int (sI a230))] [] := by
    intro n227
    induction n227 with
    | zero =>
      intro a230 M231 h232 hM231
      exfalso; omega
    | succ n227 ih228 =>
      intro a230 M231 h232 hM231
      refine j_iload_n C 2 2 dX7_copyFrom_58 rfl rfl ?_
      refine y_bipush C dX7_copyFrom_59 rfl ?_
      refine y_icmp_ge C 106 dX7_copyFrom_61 (by decide) (by omega) (fun h233 => ?_) (fun h233 => ?_)
      · refine y_iconst C dX7_copyFrom_106 ?_
        refine j_istore_n C 2 [(2, .int (sI 0)), (0, .ref (ad v0)), (1, .ref (ad v1))] dX7_copyFrom_107 rfl (by decide) rfl ?_
        have L578 : ∀ (n576 : Nat), ∀ (a579 : Int) (M580 : mm_M), (0 ≤ a579 ∧ a579 ≤ 900 ∧ (900 - a579) < (n576 : Int)) → INV pr Kz M580 → jj p l e (cn_R 0) s m args below meth c 0 0 Q 3 dC dI ad cA A M580 108 [(0, .ref (ad v0)), (1, .ref (ad v1)), (2, .int (sI a579))] [] := by
          intro n576
          induction n576 with
          | zero =>
            intro a579 M580 h581 hM580
            exfalso; omega
          | succ n576 ih577 =>
            intro a579 M580 h581 hM580
            refine j_iload_n C 2 2 dX7_copyFrom_108 rfl rfl ?_
            refine j_aload_n C 0 0 dX7_copyFrom_109 rfl rfl ?_
            refine y_getI C 6 _ _ fX7_copyFrom_31 cv0 rfl ft_6_6 sb_6_6 hM580 dX7_copyFrom_110 (fun a582 ea582 la582 ua582 => ?_)
            refine y_icmp_ge C 143 dX7_copyFrom_113 (by decide) (by omega) (fun h584 => ?_) (fun h584 => ?_)
            · exact hret _ _ _ dX7_copyFrom_143 hM580
            · refine j_iload_n C 2 2 dX7_copyFrom_116 rfl rfl ?_
              refine j_aload_n C 0 0 dX7_copyFrom_117 rfl rfl ?_
              refine y_getT C 6 24 fX7_copyFrom_28 cv0 rfl ft_6_5 rfl sm_6_5 st_6_5 (by decide) hM580 dX7_copyFrom_118 (fun v585 cv585 => ?_)
              refine y_alen C 24 900 cv585 rfl rfl an_24 rfl rfl dX7_copyFrom_121 ?_
              refine y_icmp_ge C 143 dX7_copyFrom_122 (by decide) (by omega) (fun h586 => ?_) (fun h586 => ?_)
              · exfalso; omega
              · refine j_aload_n C 0 0 dX7_copyFrom_125 rfl rfl ?_
                refine y_getT C 6 24 fX7_copyFrom_28 cv0 rfl ft_6_5 rfl sm_6_5 st_6_5 (by decide) hM580 dX7_copyFrom_126 (fun v587 cv587 => ?_)
                refine j_iload_n C 2 2 dX7_copyFrom_129 rfl rfl ?_
                refine j_aload_n C 1 1 dX7_copyFrom_130 rfl rfl ?_
                refine y_getT C 6 24 fX7_copyFrom_28 cv1 rfl ft_6_5 rfl sm_6_5 st_6_5 (by decide) hM580 dX7_copyFrom_131 (fun v588 cv588 => ?_)
                refine j_iload_n C 2 2 dX7_copyFrom_134 rfl rfl ?_
                refine y_iald C 24 900 _ _ cv588 rfl rfl ak_24 an_24 rfl (sb_24 _) hM580 dX7_copyFrom_135 (by omega) (fun a589 ea589 la589 ua589 => ?_)
                refine y_iastF C 24 900 cv587 rfl rfl ak_24 an_24 rfl (sb_24 _) hM580 (PX.w hpr cv587 rfl) dX7_copyFrom_136 (by omega) (fun M590 eM590 hM590 => ?_)
                refine y_iinc C 2 [(2, .int (sI (a579 + 1))), (0, .ref (ad v0)), (1, .ref (ad v1))] dX7_copyFrom_137 rfl (by decide) rfl ?_
                refine j_goto C 108 dX7_copyFrom_140 (by decide) ?_
                refine j_lv [1, 2, 0] rfl ?_; exact ih577 (a579 + 1) M590 (by omega) hM590
        refine j_lv [1, 2, 0] rfl ?_; exact L578 2010 0 M231 (by omega) hM231
      · refine j_aload_n C 0 0 dX7_copyFrom_64 rfl rfl ?_
        refine y_getT C 6 21 fX7_copyFrom_18 cv0 rfl ft_6_2 rfl sm_6_2 st_6_2 (by decide) hM231 dX7_copyFrom_65 (fun v234 cv234 => ?_)
        refine j_iload_n C 2 2 dX7_copyFrom_68 rfl rfl ?_
        refine j_aload_n C 1 1 dX7_copyFrom_69 rfl rfl ?_
        refine y_getT C 6 21 fX7_copyFrom_18 cv1 rfl ft_6_2 rfl sm_6_2 st_6_2 (by decide) hM231 dX7_copyFrom_70 (fun v235 cv235 => ?_)
        refine j_iload_n C 2 2 dX7_copyFrom_73 rfl rfl ?_
        refine y_iald C 21 6 _ _ cv235 rfl rfl ak_21 an_21 rfl (sb_21 _) hM231 dX7_copyFrom_74 (by omega) (fun a236 ea236 la236 ua236 => ?_)
        refine y_iastF C 21 6 cv234 rfl rfl ak_21 an_21 rfl (sb_21 _) hM231 (PX.w hpr cv234 rfl) dX7_copyFrom_75 (by omega) (fun M237 eM237 hM237 => ?_)
        refine j_aload_n C 0 0 dX7_copyFrom_76 rfl rfl ?_
        refine y_getT C 6 22 fX7_copyFrom_22 cv0 rfl ft_6_3 rfl sm_6_3 st_6_3 (by decide) hM237 dX7_copyFrom_77 (fun v238 cv238 => ?_)
        refine j_iload_n C 2 2 dX7_copyFrom_80 rfl rfl ?_
        refine j_aload_n C 1 1 dX7_copyFrom_81 rfl rfl ?_
        refine y_getT C 6 22 fX7_copyFrom_22 cv1 rfl ft_6_3 rfl sm_6_3 st_6_3 (by decide) hM237 dX7_copyFrom_82 (fun v239 cv239 => ?_)
        refine j_iload_n C 2 2 dX7_copyFrom_85 rfl rfl ?_
        refine y_iald C 22 6 _ _ cv239 rfl rfl ak_22 an_22 rfl (sb_22 _) hM237 dX7_copyFrom_86 (by omega) (fun a240 ea240 la240 ua240 => ?_)
        refine y_iastF C 22 6 cv238 rfl rfl ak_22 an_22 rfl (sb_22 _) hM237 (PX.w hpr cv238 rfl) dX7_copyFrom_87 (by omega) (fun M241 eM241 hM241 => ?_)
        refine j_aload_n C 0 0 dX7_copyFrom_88 rfl rfl ?_
        refine y_getT C 6 23 fX7_copyFrom_25 cv0 rfl ft_6_4 rfl sm_6_4 st_6_4 (by decide) hM241 dX7_copyFrom_89 (fun v242 cv242 => ?_)
        refine j_iload_n C 2 2 dX7_copyFrom_92 rfl rfl ?_
        refine j_aload_n C 1 1 dX7_copyFrom_93 rfl rfl ?_
        refine y_getT C 6 23 fX7_copyFrom_25 cv1 rfl ft_6_4 rfl sm_6_4 st_6_4 (by decide) hM241 dX7_copyFrom_94 (fun v243 cv243 => ?_)
        refine j_iload_n C 2 2 dX7_copyFrom_97 rfl rfl ?_
        refine y_iald C 23 6 _ _ cv243 rfl rfl ak_23 an_23 rfl (sb_23 _) hM241 dX7_copyFrom_98 (by omega) (fun a244 ea244 la244 ua244 => ?_)
        refine y_iastF C 23 6 cv242 rfl rfl ak_23 an_23 rfl (sb_23 _) hM241 (PX.w hpr cv242 rfl) dX7_copyFrom_99 (by omega) (fun M245 eM245 hM245 => ?_)
        refine y_iinc C 2 [(2, .int (sI (a230 + 1))), (0, .ref (ad v0)), (1, .ref (ad v1))] dX7_copyFrom_100 rfl (by decide) rfl ?_
        refine j_goto C 58 dX7_copyFrom_103 (by decide) ?_
        refine j_lv [1, 2, 0] rfl ?_; exact ih228 (a230 + 1) M245 (by omega) hM245
  refine j_lv [1, 2, 0] rfl ?_; exact L229 2010 0 M121 (by omega) hM121
set_option maxHeartbeats 4000000 in
theorem s1_X11_image {l : Launch} {dC : Nat → ClassId} {dI : Nat → Nat → Nat} {ad : Nat → Nat} {cA : Nat → ClassId} {pr : Nat → Nat → Bool} {Kz : mm_M} {M0 : mm_M} (hM0 : INV pr Kz M0) (hpr : PX pr) (hq2_0 : ∀ i, s_c i = 2 → pr i 0 = false) (hq6_0 : ∀ i, s_c i = 6 → pr i 0 = false) (hq6_1 : ∀ i, s_c i = 6 → pr i 1 = false) (hq8_0 : ∀ i, s_c i = 8 → pr i 0 = false) (a1 : Int) (ha1 : -2147483648 ≤ a1 ∧ a1 ≤ 2147483647) : Ci l 1 yX11_image wsX11_image dC dI ad cA [.ref (ad 0), .int (sI a1)] M0 (fun r M' => ∃ a : Int, r = sI a ∧ INV pr Kz M' ∧ (-2) ≤ a ∧ a ≤ 0 ∧ (a1 = 0 ∧ a = 0 ∧ (M'.1 60 0).toInt = 1 ∧ (M'.1 69 0).toInt = (M0.1 69 0).toInt ∨ a1 = 1 ∧ a = 0 ∧ (M'.1 60 0).toInt = (M0.1 60 0).toInt ∧ (M'.1 69 0).toInt = 1 ∨ (a1 < 0 ∨ 1 < a1) ∧ a = -2 ∧ (M'.1 60 0).toInt = (M0.1 60 0).toInt ∧ (M'.1 69 0).toInt = (M0.1 69 0).toInt)) := by
  refine ci_of (cc := cX11_image) (maxL := 2) (ty := .int) (lv := [(0, .ref (ad 0)), (1, .int (sI a1))]) (by decide) rfl (fun r M' hp => rfl) (Nat.le_of_ble_eq_true rfl) rfl ?_
  intro p e s m args below meth c A Q C hret
  refine j_iload_n C 1 1 dX11_image_0 rfl rfl ?_
  refine y_if_lt C 13 dX11_image_1 (by decide) (by omega) (fun h101 => ?_) (fun h101 => ?_)
  · refine y_bipush C dX11_image_13 rfl ?_
    exact hret _ _ _ _ dX11_image_15 ⟨(-2), rfl, hM0, by omega⟩
  · refine j_iload_n C 1 1 dX11_image_4 rfl rfl ?_
    refine j_aload_n C 0 0 dX11_image_5 rfl rfl ?_
    refine y_getC C 10 59 fX11_image_58 rfl rfl ft_10_10 sm_10_10 rfl hM0 dX11_image_6 ?_
    refine y_alen C 30 2 rfl rfl rfl an_30 rfl rfl dX11_image_9 ?_
    refine y_icmp_lt C 16 dX11_image_10 (by decide) (by omega) (fun h102 => ?_) (fun h102 => ?_)
    · refine j_aload_n C 0 0 dX11_image_16 rfl rfl ?_
      refine y_getC C 10 59 fX11_image_58 rfl rfl ft_10_10 sm_10_10 rfl hM0 dX11_image_17 ?_
      refine j_iload_n C 1 1 dX11_image_20 rfl rfl ?_
      refine y_aaldE C 30 2 2 rfl rfl rfl rfl an_30 rfl sma_30 sta_30 (by decide) hM0 dX11_image_21 (by omega) (fun cv103 => ?_)
      refine y_iconst C dX11_image_22 ?_
      refine y_putZ C 2 qX11_image_393 cv103 rfl ft_2_0 sb_2_0 hM0 (hq2_0 _ cv103) dX11_image_23 (by omega) (fun M104 eM104 hM104 => ?_)
      have u105p := p59 (x := a1) (by omega)
      have u105a := w_or eM104 (by omega) 60 0
      have u105b := w_or eM104 (by omega) 69 0
      obtain ⟨pr, Kz, hpr, hM104, hne, hbk⟩ := fzXs [2] hpr hM104
      have hq6_0 : ∀ i, s_c i = 6 → pr i 0 = false := fun i h => hne i 0 (by rw [h]; rfl) (hq6_0 i h)
      have hq6_1 : ∀ i, s_c i = 6 → pr i 1 = false := fun i h => hne i 1 (by rw [h]; rfl) (hq6_1 i h)
      have hq8_0 : ∀ i, s_c i = 8 → pr i 0 = false := fun i h => hne i 0 (by rw [h]; rfl) (hq8_0 i h)
      refine j_aload_n C 0 0 dX11_image_26 rfl rfl ?_
      refine y_getC C 10 59 fX11_image_58 rfl rfl ft_10_10 sm_10_10 rfl hM104 dX11_image_27 ?_
      refine j_iload_n C 1 1 dX11_image_30 rfl rfl ?_
      refine y_aaldE C 30 2 2 rfl rfl rfl rfl an_30 rfl sma_30 sta_30 (by decide) hM104 dX11_image_31 (by omega) (fun cv106 => ?_)
      refine y_getTE C 2 6 fX11_image_397 cv106 rfl ft_2_1 rfl sm_2_1 st_2_1 (by decide) hM104 dX11_image_32 (fun cv107 => ?_)
      refine j_aload_n C 0 0 dX11_image_35 rfl rfl ?_
      refine y_getM C 10 6 fX11_image_26 rfl rfl ft_10_4 sm_10_4 (by decide) hM104 dX11_image_36 (fun v108 ev108 cv108 => ?_)
      refine j_callVv C (d := 0) (As := [.ref (ad v108)]) (st := []) (s_p0 (s_p0 59 (a1).toNat) 1) (s_lt cv107 rfl) (s_kc (c := 6) cv107 rfl) (by decide) rfl (s1_X7_copyFrom hM104 hpr hq6_0 hq6_1 cv107 cv108) gX11_image_X7_copyFrom rfl hdX7_copyFrom (by decide) (Nat.le_of_ble_eq_true rfl) dX11_image_39 rfl (fun M110 h111 => ?_)
      have hM110 := h111
      refine j_aload_n C 0 0 dX11_image_42 rfl rfl ?_
      refine y_getC C 10 59 fX11_image_58 rfl rfl ft_10_10 sm_10_10 rfl hM110 dX11_image_43 ?_
      refine j_iload_n C 1 1 dX11_image_46 rfl rfl ?_
      refine y_aaldE C 30 2 2 rfl rfl rfl rfl an_30 rfl sma_30 sta_30 (by decide) hM110 dX11_image_47 (by omega) (fun cv113 => ?_)
      refine y_getTE C 2 8 fX11_image_400 cv113 rfl ft_2_2 rfl sm_2_2 st_2_2 (by decide) hM110 dX11_image_48 (fun cv114 => ?_)
      refine j_aload_n C 0 0 dX11_image_51 rfl rfl ?_
      refine y_getC C 10 12 fX11_image_36 rfl rfl ft_10_6 sm_10_6 rfl hM110 dX11_image_52 ?_
      refine j_callVv C (d := 0) (As := [.ref (ad 12)]) (st := []) (s_p0 (s_p0 59 (a1).toNat) 2) (s_lt cv114 rfl) (s_kc (c := 8) cv114 rfl) (by decide) rfl (s1_X9_copyFrom hM110 hpr hq8_0 cv114 rfl) gX11_image_X9_copyFrom rfl hdX9_copyFrom (by decide) (Nat.le_of_ble_eq_true rfl) dX11_image_55 rfl (fun M116 h117 => ?_)
      have hM116 := h117
      refine y_iconst C dX11_image_58 ?_
      have u119a := congrArg Int32.toInt ((hbk _ hM116).2 60 0 rfl rfl).1
      have u119b := congrArg Int32.toInt ((hbk _ hM116).2 69 0 rfl rfl).1
      have hM116 := (hbk _ hM116).1
      exact hret _ _ _ _ dX11_image_59 ⟨0, rfl, hM116, by omega⟩
    · refine y_bipush C dX11_image_13 rfl ?_
      exact hret _ _ _ _ dX11_image_15 ⟨(-2), rfl, hM0, by omega⟩
set_option maxHeartbeats 4000000 in
theorem s1_X11_restore {l : Launch} {dC : Nat → ClassId} {dI : Nat → Nat → Nat} {ad : Nat → Nat} {cA : Nat → ClassId} {pr : Nat → Nat → Bool} {Kz : mm_M} {M0 : mm_M} (hM0 : INV pr Kz M0) (hpr : PX pr) (hq6_0 : ∀ i, s_c i = 6 → pr i 0 = false) (hq6_1 : ∀ i, s_c i = 6 → pr i 1 = false) (hq8_0 : ∀ i, s_c i = 8 → pr i 0 = false) (a1 : Int) (ha1 : -2147483648 ≤ a1 ∧ a1 ≤ 2147483647) : Ci l 3 yX11_restore wsX11_restore dC dI ad cA [.ref (ad 0), .int (sI a1)] M0 (fun r M' => ∃ a : Int, r = sI a ∧ INV pr Kz M' ∧ (-5) ≤ a ∧ a ≤ 0 ∧ (a1 = 0 ∧ ((M0.1 60 0).toInt = 0 ∧ a = -5 ∨ ¬ (M0.1 60 0).toInt = 0 ∧ a = 0) ∨ a1 = 1 ∧ ((M0.1 69 0).toInt = 0 ∧ a = -5 ∨ ¬ (M0.1 69 0).toInt = 0 ∧ a = 0) ∨ (a1 < 0 ∨ 1 < a1) ∧ a = -2)) := by
  refine ci_of (cc := cX11_restore) (maxL := 2) (ty := .int) (lv := [(0, .ref (ad 0)), (1, .int (sI a1))]) (by decide) rfl (fun r M' hp => rfl) (Nat.le_of_ble_eq_true rfl) rfl ?_
  intro p e s m args below meth c A Q C hret
  refine j_iload_n C 1 1 dX11_restore_0 rfl rfl ?_
  refine y_if_lt C 13 dX11_restore_1 (by decide) (by omega) (fun h101 => ?_) (fun h101 => ?_)
  · refine y_bipush C dX11_restore_13 rfl ?_
    exact hret _ _ _ _ dX11_restore_15 ⟨(-2), rfl, hM0, by omega⟩
  · refine j_iload_n C 1 1 dX11_restore_4 rfl rfl ?_
    refine j_aload_n C 0 0 dX11_restore_5 rfl rfl ?_
    refine y_getC C 10 59 fX11_restore_58 rfl rfl ft_10_10 sm_10_10 rfl hM0 dX11_restore_6 ?_
    refine y_alen C 30 2 rfl rfl rfl an_30 rfl rfl dX11_restore_9 ?_
    refine y_icmp_lt C 16 dX11_restore_10 (by decide) (by omega) (fun h102 => ?_) (fun h102 => ?_)
    · refine j_aload_n C 0 0 dX11_restore_16 rfl rfl ?_
      refine y_getC C 10 59 fX11_restore_58 rfl rfl ft_10_10 sm_10_10 rfl hM0 dX11_restore_17 ?_
      refine j_iload_n C 1 1 dX11_restore_20 rfl rfl ?_
      refine y_aaldE C 30 2 2 rfl rfl rfl rfl an_30 rfl sma_30 sta_30 (by decide) hM0 dX11_restore_21 (by omega) (fun cv103 => ?_)
      refine y_getI C 2 _ _ fX11_restore_393 cv103 rfl ft_2_0 sb_2_0 hM0 dX11_restore_22 (fun a104 ea104 la104 ua104 => ?_)
      have u106p := p59 (x := a1) (by omega)
      have u106a := rd_or M0 (s_p0 59 (a1).toNat) 60 0
      have u106b := rd_or M0 (s_p0 59 (a1).toNat) 69 0
      refine y_if_ne C 31 dX11_restore_25 (by decide) (by omega) (fun h107 => ?_) (fun h107 => ?_)
      · refine j_aload_n C 0 0 dX11_restore_31 rfl rfl ?_
        refine y_getM C 10 6 fX11_restore_26 rfl rfl ft_10_4 sm_10_4 (by decide) hM0 dX11_restore_32 (fun v108 ev108 cv108 => ?_)
        refine j_aload_n C 0 0 dX11_restore_35 rfl rfl ?_
        refine y_getC C 10 59 fX11_restore_58 rfl rfl ft_10_10 sm_10_10 rfl hM0 dX11_restore_36 ?_
        refine j_iload_n C 1 1 dX11_restore_39 rfl rfl ?_
        refine y_aaldE C 30 2 2 rfl rfl rfl rfl an_30 rfl sma_30 sta_30 (by decide) hM0 dX11_restore_40 (by omega) (fun cv109 => ?_)
        refine y_getTE C 2 6 fX11_restore_397 cv109 rfl ft_2_1 rfl sm_2_1 st_2_1 (by decide) hM0 dX11_restore_41 (fun cv110 => ?_)
        refine j_callVv C (d := 0) (As := [.ref (ad (s_p0 (s_p0 59 (a1).toNat) 1))]) (st := []) v108 (s_lt cv108 rfl) (s_kc (c := 6) cv108 rfl) (by decide) rfl (s1_X7_copyFrom hM0 hpr hq6_0 hq6_1 cv108 cv110) gX11_restore_X7_copyFrom rfl hdX7_copyFrom (by decide) (Nat.le_of_ble_eq_true rfl) dX11_restore_44 rfl (fun M112 h113 => ?_)
        have hM112 := h113
        refine j_aload_n C 0 0 dX11_restore_47 rfl rfl ?_
        refine y_getC C 10 12 fX11_restore_36 rfl rfl ft_10_6 sm_10_6 rfl hM112 dX11_restore_48 ?_
        refine j_aload_n C 0 0 dX11_restore_51 rfl rfl ?_
        refine y_getC C 10 59 fX11_restore_58 rfl rfl ft_10_10 sm_10_10 rfl hM112 dX11_restore_52 ?_
        refine j_iload_n C 1 1 dX11_restore_55 rfl rfl ?_
        refine y_aaldE C 30 2 2 rfl rfl rfl rfl an_30 rfl sma_30 sta_30 (by decide) hM112 dX11_restore_56 (by omega) (fun cv115 => ?_)
        refine y_getTE C 2 8 fX11_restore_400 cv115 rfl ft_2_2 rfl sm_2_2 st_2_2 (by decide) hM112 dX11_restore_57 (fun cv116 => ?_)
        refine j_callVv C (d := 0) (As := [.ref (ad (s_p0 (s_p0 59 (a1).toNat) 2))]) (st := []) 12 (s_lt rfl rfl) (s_kc (c := 8) rfl rfl) (by decide) rfl (s1_X9_copyFrom hM112 hpr hq8_0 rfl cv116) gX11_restore_X9_copyFrom rfl hdX9_copyFrom (by decide) (Nat.le_of_ble_eq_true rfl) dX11_restore_60 rfl (fun M118 h119 => ?_)
        have hM118 := h119
        refine j_aload_n C 0 0 dX11_restore_63 rfl rfl ?_
        refine j_callVv C (d := 2) (As := []) (st := []) 0 (s_lt rfl rfl) (s_kc (c := 10) rfl rfl) (by decide) rfl (s1_X11_beginAnew hM118 hpr) gX11_restore_X11_beginAnew rfl hdX11_beginAnew (by decide) (Nat.le_of_ble_eq_true rfl) dX11_restore_64 rfl (fun M122 h123 => ?_)
        have hM122 := h123
        refine y_iconst C dX11_restore_67 ?_
        exact hret _ _ _ _ dX11_restore_68 ⟨0, rfl, hM122, by omega⟩
      · refine y_bipush C dX11_restore_28 rfl ?_
        exact hret _ _ _ _ dX11_restore_30 ⟨(-5), rfl, hM0, by omega⟩
    · refine y_bipush C dX11_restore_13 rfl ?_
      exact hret _ _ _ _ dX11_restore_15 ⟨(-2), rfl, hM0, by omega⟩
set_option maxHeartbeats 4000000 in
theorem s1_X11_count {l : Launch} {dC : Nat → ClassId} {dI : Nat → Nat → Nat} {ad : Nat → Nat} {cA : Nat → ClassId} {pr : Nat → Nat → Bool} {Kz : mm_M} {M0 : mm_M} (hM0 : INV pr Kz M0) (a1 : Int) (ha1 : -2147483648 ≤ a1 ∧ a1 ≤ 2147483647) : Ci l 2 yX11_count wsX11_count dC dI ad cA [.ref (ad 0), .int (sI a1)] M0 (fun r M' => ∃ a : Int, r = sI a ∧ M0 = M' ∧ (-2147483648) ≤ a ∧ a ≤ 2147483647) := by
  refine ci_of (cc := cX11_count) (maxL := 2) (ty := .int) (lv := [(0, .ref (ad 0)), (1, .int (sI a1))]) (by decide) rfl (fun r M' hp => rfl) (Nat.le_of_ble_eq_true rfl) rfl ?_
  intro p e s m args below meth c A Q C hret
  refine j_iload_n C 1 1 dX11_count_0 rfl rfl ?_
  rcases (show (a1 < 0 ∨ 11 < a1) ∨ a1 = 0 ∨ a1 = 1 ∨ a1 = 2 ∨ a1 = 3 ∨ a1 = 4 ∨ a1 = 5 ∨ a1 = 6 ∨ a1 = 7 ∨ a1 = 8 ∨ a1 = 9 ∨ a1 = 10 ∨ a1 = 11 by omega) with h101 | h101 | h101 | h101 | h101 | h101 | h101 | h101 | h101 | h101 | h101 | h101 | h101
  · refine y_tabO C 165 dX11_count_1 (by decide) (by omega) ?_
    refine y_iconst C dX11_count_165 ?_
    exact hret _ _ _ _ dX11_count_166 ⟨(-1), rfl, rfl, by omega⟩
  · refine y_tabI C (off := 63) 64 0 dX11_count_1 (by decide) rfl (by decide) h101 ?_
    refine j_aload_n C 0 0 dX11_count_64 rfl rfl ?_
    refine y_getC C 10 12 fX11_count_36 rfl rfl ft_10_6 sm_10_6 rfl hM0 dX11_count_65 ?_
    refine y_getI C 8 _ _ fX11_count_160 rfl rfl ft_8_0 sb_8_0 hM0 dX11_count_68 (fun a102 ea102 la102 ua102 => ?_)
    exact hret _ _ _ _ dX11_count_71 ⟨a102, rfl, rfl, by omega⟩
  · refine y_tabI C (off := 71) 72 1 dX11_count_1 (by decide) rfl (by decide) h101 ?_
    refine j_aload_n C 0 0 dX11_count_72 rfl rfl ?_
    refine y_getM C 10 6 fX11_count_26 rfl rfl ft_10_4 sm_10_4 (by decide) hM0 dX11_count_73 (fun v104 ev104 cv104 => ?_)
    refine y_getI C 6 _ _ fX11_count_163 cv104 rfl ft_6_0 sb_6_0 hM0 dX11_count_76 (fun a105 ea105 la105 ua105 => ?_)
    exact hret _ _ _ _ dX11_count_79 ⟨a105, rfl, rfl, by omega⟩
  · refine y_tabI C (off := 79) 80 2 dX11_count_1 (by decide) rfl (by decide) h101 ?_
    refine j_aload_n C 0 0 dX11_count_80 rfl rfl ?_
    refine y_getC C 10 12 fX11_count_36 rfl rfl ft_10_6 sm_10_6 rfl hM0 dX11_count_81 ?_
    refine y_getI C 8 _ _ fX11_count_150 rfl rfl ft_8_3 sb_8_3 hM0 dX11_count_84 (fun a107 ea107 la107 ua107 => ?_)
    exact hret _ _ _ _ dX11_count_87 ⟨a107, rfl, rfl, by omega⟩
  · refine y_tabI C (off := 87) 88 3 dX11_count_1 (by decide) rfl (by decide) h101 ?_
    refine j_aload_n C 0 0 dX11_count_88 rfl rfl ?_
    refine y_getC C 10 12 fX11_count_36 rfl rfl ft_10_6 sm_10_6 rfl hM0 dX11_count_89 ?_
    refine y_getI C 8 _ _ fX11_count_153 rfl rfl ft_8_4 sb_8_4 hM0 dX11_count_92 (fun a109 ea109 la109 ua109 => ?_)
    exact hret _ _ _ _ dX11_count_95 ⟨a109, rfl, rfl, by omega⟩
  · refine y_tabI C (off := 95) 96 4 dX11_count_1 (by decide) rfl (by decide) h101 ?_
    refine j_aload_n C 0 0 dX11_count_96 rfl rfl ?_
    refine y_getC C 10 12 fX11_count_36 rfl rfl ft_10_6 sm_10_6 rfl hM0 dX11_count_97 ?_
    refine j_callVi C (d := 1) (As := []) (st := []) 12 (s_lt rfl rfl) (s_kc (c := 8) rfl rfl) (by decide) rfl (s1_X9_isShut hM0 rfl) gX11_count_X9_isShut rfl hdX9_isShut (by decide) (Nat.le_of_ble_eq_true rfl) dX11_count_100 rfl (fun r111 M112 h113 => ?_)
    obtain ⟨a115, rfl, rfl, h114⟩ := h113
    refine y_if_eq C 110 dX11_count_103 (by decide) (by omega) (fun h116 => ?_) (fun h116 => ?_)
    · refine y_iconst C dX11_count_110 ?_
      exact hret _ _ _ _ dX11_count_111 ⟨0, rfl, rfl, by omega⟩
    · refine y_iconst C dX11_count_106 ?_
      refine j_goto C 111 dX11_count_107 (by decide) ?_
      exact hret _ _ _ _ dX11_count_111 ⟨1, rfl, rfl, by omega⟩
  · refine y_tabI C (off := 111) 112 5 dX11_count_1 (by decide) rfl (by decide) h101 ?_
    refine j_aload_n C 0 0 dX11_count_112 rfl rfl ?_
    refine y_getC C 10 12 fX11_count_36 rfl rfl ft_10_6 sm_10_6 rfl hM0 dX11_count_113 ?_
    refine y_getI C 8 _ _ fX11_count_252 rfl rfl ft_8_5 sb_8_5 hM0 dX11_count_116 (fun a117 ea117 la117 ua117 => ?_)
    exact hret _ _ _ _ dX11_count_119 ⟨a117, rfl, rfl, by omega⟩
  · refine y_tabI C (off := 119) 120 6 dX11_count_1 (by decide) rfl (by decide) h101 ?_
    refine j_aload_n C 0 0 dX11_count_120 rfl rfl ?_
    refine y_getC C 10 12 fX11_count_36 rfl rfl ft_10_6 sm_10_6 rfl hM0 dX11_count_121 ?_
    refine y_getI C 8 _ _ fX11_count_401 rfl rfl ft_8_6 sb_8_6 hM0 dX11_count_124 (fun a119 ea119 la119 ua119 => ?_)
    exact hret _ _ _ _ dX11_count_127 ⟨a119, rfl, rfl, by omega⟩
  · refine y_tabI C (off := 127) 128 7 dX11_count_1 (by decide) rfl (by decide) h101 ?_
    refine j_aload_n C 0 0 dX11_count_128 rfl rfl ?_
    refine y_getC C 10 12 fX11_count_36 rfl rfl ft_10_6 sm_10_6 rfl hM0 dX11_count_129 ?_
    refine y_getI C 8 _ _ fX11_count_121 rfl rfl ft_8_7 sb_8_7 hM0 dX11_count_132 (fun a121 ea121 la121 ua121 => ?_)
    exact hret _ _ _ _ dX11_count_135 ⟨a121, rfl, rfl, by omega⟩
  · refine y_tabI C (off := 135) 136 8 dX11_count_1 (by decide) rfl (by decide) h101 ?_
    refine j_aload_n C 0 0 dX11_count_136 rfl rfl ?_
    refine y_getM C 10 6 fX11_count_26 rfl rfl ft_10_4 sm_10_4 (by decide) hM0 dX11_count_137 (fun v123 ev123 cv123 => ?_)
    refine j_callVi C (d := 0) (As := []) (st := []) v123 (s_lt cv123 rfl) (s_kc (c := 6) cv123 rfl) (by decide) rfl (s1_X7_together hM0 cv123) gX11_count_X7_together rfl hdX7_together (by decide) (Nat.le_of_ble_eq_true rfl) dX11_count_140 rfl (fun r124 M125 h126 => ?_)
    obtain ⟨a128, rfl, rfl, h127⟩ := h126
    exact hret _ _ _ _ dX11_count_143 ⟨a128, rfl, rfl, by omega⟩
  · refine y_tabI C (off := 143) 144 9 dX11_count_1 (by decide) rfl (by decide) h101 ?_
    refine j_aload_n C 0 0 dX11_count_144 rfl rfl ?_
    refine y_getC C 10 18 fX11_count_46 rfl rfl ft_10_8 sm_10_8 rfl hM0 dX11_count_145 ?_
    refine y_getI C 5 _ _ fX11_count_225 rfl rfl ft_5_2 sb_5_2 hM0 dX11_count_148 (fun a129 ea129 la129 ua129 => ?_)
    exact hret _ _ _ _ dX11_count_151 ⟨a129, rfl, rfl, by omega⟩
  · refine y_tabI C (off := 151) 152 10 dX11_count_1 (by decide) rfl (by decide) h101 ?_
    refine j_aload_n C 0 0 dX11_count_152 rfl rfl ?_
    refine y_getI C 10 _ _ fX11_count_13 rfl rfl ft_10_1 sb_10_1 hM0 dX11_count_153 (fun a131 ea131 la131 ua131 => ?_)
    exact hret _ _ _ _ dX11_count_156 ⟨a131, rfl, rfl, by omega⟩
  · refine y_tabI C (off := 156) 157 11 dX11_count_1 (by decide) rfl (by decide) h101 ?_
    refine j_aload_n C 0 0 dX11_count_157 rfl rfl ?_
    refine y_getM C 10 6 fX11_count_26 rfl rfl ft_10_4 sm_10_4 (by decide) hM0 dX11_count_158 (fun v133 ev133 cv133 => ?_)
    refine y_getI C 6 _ _ fX11_count_131 cv133 rfl ft_6_1 sb_6_1 hM0 dX11_count_161 (fun a134 ea134 la134 ua134 => ?_)
    exact hret _ _ _ _ dX11_count_164 ⟨a134, rfl, rfl, by omega⟩
