set_option maxHeartbeats 4000000 in
theorem s2_X11_takersOf {l : Launch} {dC : Nat → ClassId} {dI : Nat → Nat → Nat} {ad : Nat → Nat} {cA : Nat → ClassId} {pr : Nat → Nat → Bool} {Kz : mm_M} {M0 : mm_M} (hM0 : INV pr Kz M0) (hpr : PX pr) (a1 : Int) (ha1 : -2147483648 ≤ a1 ∧ a1 ≤ 2147483647) (gp : Nat) (cgp : s_c gp = 6) (egp : gp = M0.2.2 0 4) (hp0 : b01 (APX M0 gp) = 1) (hp1 : b01 (LAW M0 gp) = 1) (hp2 : b01 (PRR (rwX M0 gp 12)) = 1) : Ci l 4 yX11_takersOf wsX11_takersOf dC dI ad cA [.ref (ad 0), .int (sI a1)] M0 (fun r M' => ∃ a : Int, r = sI a ∧ INV pr Kz M' ∧ FX [81, 82, 83, 84, 85, 86] M0 M' ∧ 0 ≤ a ∧ a ≤ 63 ∧ (a = (wbF (rwX M0 gp 12) a1 (M0.1 gp 0).toInt.toNat)) ∧ (b01 (APX M' gp) = 1)) := by
  refine ci_of (cc := cX11_takersOf) (maxL := 4) (ty := .int) (lv := [(0, .ref (ad 0)), (1, .int (sI a1))]) (by decide) rfl (fun r M' hp => rfl) (Nat.le_of_ble_eq_true rfl) rfl ?_
  intro p e s m args below meth c A Q C hret
  refine j_aload_n C 0 0 dX11_takersOf_0 rfl rfl ?_
  refine y_getC C 10 81 fX11_takersOf_76 rfl rfl ft_10_12 sm_10_12 rfl hM0 dX11_takersOf_1 ?_
  refine j_aload_n C 0 0 dX11_takersOf_4 rfl rfl ?_
  refine y_getV C 10 gp fX11_takersOf_26 rfl rfl ft_10_4 (egp) dX11_takersOf_5 ?_
  refine j_aload_n C 0 0 dX11_takersOf_8 rfl rfl ?_
  refine y_getC C 10 12 fX11_takersOf_36 rfl rfl ft_10_6 sm_10_6 rfl hM0 dX11_takersOf_9 ?_
  refine j_callVv C (d := 0) (As := [.ref (ad gp), .ref (ad 12)]) (st := []) 81 (s_lt rfl rfl) (s_kc (c := 3) rfl rfl) (by decide) rfl (s2_X4_tune hM0 hpr cgp rfl (by omega)) gX11_takersOf_X4_tune rfl hdX4_tune (by decide) (Nat.le_of_ble_eq_true rfl) dX11_takersOf_12 rfl (fun M102 h103 => ?_)
  obtain ⟨hM102, fM102, h104⟩ := h103
  have egp81 : gp = M102.2.2 81 5 := by omega
  have u1057 := hM0.rd (i := gp) (c := 6) (k := 7) cgp (show s_b 6 7 = (0, 900) from rfl)
  have u1059 := hM0.rd (i := gp) (c := 6) (k := 9) cgp (show s_b 6 9 = (0, 900) from rfl)
  have u105T := tn_0 (M := M0) (N := M102) (p := gp) (v := 12) (ple_f (p := gp) ((FX.rf.tr fM102 (by decide)) : FX [81, 82, 83, 84] M0 M102) cgp (by decide)) (by omega) (by omega) (by omega) (by omega) (by omega) (by omega) u1057.1 u1059.1
  have u105E := tn_e (M := M102) (p := gp) (f := (rwX M0 gp 12)) u105T
  have u105B := hM0.rd (i := gp) (c := 6) (k := 0) cgp (show s_b 6 0 = (0, 6) from rfl)
  have u105K : ((rwX M0 gp 12) 26).toInt = (M0.1 12 0).toInt := rfl
  refine y_iconst C dX11_takersOf_15 ?_
  refine j_istore_n C 2 [(2, .int (sI 0)), (0, .ref (ad 0)), (1, .int (sI a1))] dX11_takersOf_16 rfl (by decide) rfl ?_
  refine y_iconst C dX11_takersOf_17 ?_
  refine j_istore_n C 3 [(3, .int (sI 0)), (2, .int (sI 0)), (0, .ref (ad 0)), (1, .int (sI a1))] dX11_takersOf_18 rfl (by decide) rfl ?_
  have u106z : wbF (rwX M0 gp 12) a1 (0 : Int).toNat = 0 := rfl
  have L131 : ∀ (n129 : Nat), ∀ (a132 : Int) (a133 : Int) (M134 : mm_M), (0 ≤ a132 ∧ a132 ≤ 63 ∧ 0 ≤ a133 ∧ a133 ≤ 6 ∧ (b01 (TN M134 gp (rwX M0 gp 12)) = 1) ∧ (a132 = wbF (rwX M0 gp 12) a1 (a133).toNat) ∧ (a133 ≤ (M0.1 gp 0).toInt) ∧ (6 - a133) < (n129 : Int)) → INV pr Kz M134 → FX [81, 82, 83, 84, 85, 86] M0 M134 → jj p l e (cn_R 4) s m args below meth c 0 0 Q 4 dC dI ad cA A M134 19 [(0, .ref (ad 0)), (1, .int (sI a1)), (2, .int (sI a132)), (3, .int (sI a133))] [] := by
    intro n129
    induction n129 with
    | zero =>
      intro a132 a133 M134 h135 hM134 fM134
      exfalso; omega
    | succ n129 ih130 =>
      intro a132 a133 M134 h135 hM134 fM134
      have e81M134 : gp = M134.2.2 81 5 := (b01_e (P := TN M134 gp (rwX M0 gp 12)) (by omega)).1.1.symm
      have u136E := tn_e (M := M134) (p := gp) (f := (rwX M0 gp 12)) (by omega)
      have u136B := hM0.rd (i := gp) (c := 6) (k := 0) cgp (show s_b 6 0 = (0, 6) from rfl)
      refine j_iload_n C 3 3 dX11_takersOf_19 rfl rfl ?_
      refine j_aload_n C 0 0 dX11_takersOf_20 rfl rfl ?_
      refine y_getV C 10 gp fX11_takersOf_26 rfl rfl ft_10_4 (s_pX fM134 (egp)) dX11_takersOf_21 ?_
      refine y_getI C 6 _ _ fX11_takersOf_163 cgp rfl ft_6_0 sb_6_0 hM134 dX11_takersOf_24 (fun a137 ea137 la137 ua137 => ?_)
      obtain rfl : a137 = (M0.1 gp 0).toInt := s_fX fM134 (s_nin cgp (by decide)) (ea137)
      refine y_icmp_ge C 68 dX11_takersOf_27 (by decide) (by omega) (fun h139 => ?_) (fun h139 => ?_)
      · have u155x : a133 = (M0.1 gp 0).toInt := by omega
        have u155y : wbF (rwX M0 gp 12) a1 (a133).toNat = wbF (rwX M0 gp 12) a1 (M0.1 gp 0).toInt.toNat := by rw [u155x]
        refine j_iload_n C 2 2 dX11_takersOf_68 rfl rfl ?_
        have u156E := tn_e (M := M134) (p := gp) (f := (rwX M0 gp 12)) (by omega)
        exact hret _ _ _ _ dX11_takersOf_69 ⟨a132, rfl, hM134, (FX.rf.tr fM134 (by decide)), by omega⟩
      · refine j_aload_n C 0 0 dX11_takersOf_30 rfl rfl ?_
        refine y_getC C 10 81 fX11_takersOf_76 rfl rfl ft_10_12 sm_10_12 rfl hM134 dX11_takersOf_31 ?_
        refine j_iload_n C 3 3 dX11_takersOf_34 rfl rfl ?_
        refine j_aload_n C 0 0 dX11_takersOf_35 rfl rfl ?_
        refine y_getC C 10 12 fX11_takersOf_36 rfl rfl ft_10_6 sm_10_6 rfl hM134 dX11_takersOf_36 ?_
        refine y_getI C 8 _ _ fX11_takersOf_150 rfl rfl ft_8_3 sb_8_3 hM134 dX11_takersOf_39 (fun a140 ea140 la140 ua140 => ?_)
        obtain rfl : a140 = (M0.1 12 3).toInt := s_fX fM134 (by decide) (ea140)
        refine j_aload_n C 0 0 dX11_takersOf_42 rfl rfl ?_
        refine y_getC C 10 12 fX11_takersOf_36 rfl rfl ft_10_6 sm_10_6 rfl hM134 dX11_takersOf_43 ?_
        refine y_getI C 8 _ _ fX11_takersOf_153 rfl rfl ft_8_4 sb_8_4 hM134 dX11_takersOf_46 (fun a142 ea142 la142 ua142 => ?_)
        obtain rfl : a142 = (M0.1 12 4).toInt := s_fX fM134 (by decide) (ea142)
        refine j_callVi C (d := 3) (As := [.int (sI a133), .int (sI (M0.1 12 3).toInt), .int (sI (M0.1 12 4).toInt)]) (st := []) 81 (s_lt rfl rfl) (s_kc (c := 3) rfl rfl) (by decide) rfl (s2_X4_choice hM134 hpr a133 (by omega) (M0.1 12 3).toInt (by omega) (M0.1 12 4).toInt (by omega) gp cgp (e81M134) (by omega) (by omega) (by omega) (by omega) (by omega) (by omega) (by omega) (by omega)) gX11_takersOf_X4_choice rfl hdX4_choice (by decide) (Nat.le_of_ble_eq_true rfl) dX11_takersOf_49 rfl (fun r144 M145 h146 => ?_)
        obtain ⟨a148, rfl, hM145, fM145, h147⟩ := h146
        obtain rfl : a148 = (boF (mdX M134 gp (sI (M0.1 12 4).toInt)) a133 (M0.1 12 3).toInt) := by omega
        have u149b := tn_b (M := M134) (p := gp) (f := (rwX M0 gp 12)) (b := a133) (s := (M0.1 12 3).toInt) (hx := (M0.1 12 4).toInt) (by omega) (by omega) rfl rfl
        have u149T := tn_f (M := M134) (N := M145) (p := gp) (f := (rwX M0 gp 12)) (by omega) fM145 (by decide) cgp (by omega)
        have u149w := wb_x (rwX M0 gp 12) a1 (x := a133) (x' := a133 + 1) (a := a132) (by omega) rfl (by omega)
        refine j_iload_n C 1 1 dX11_takersOf_52 rfl rfl ?_
        refine y_icmp_ne C 62 dX11_takersOf_53 (by decide) (by omega) (fun h150 => ?_) (fun h150 => ?_)
        · refine y_iinc C 3 [(3, .int (sI (a133 + 1))), (0, .ref (ad 0)), (1, .int (sI a1)), (2, .int (sI a132))] dX11_takersOf_62 rfl (by decide) rfl ?_
          refine j_goto C 19 dX11_takersOf_65 (by decide) ?_
          refine j_lv [1, 2, 3, 0] rfl ?_; exact ih130 a132 (a133 + 1) M145 (by omega) hM145 ((FX.rf.tr fM134 (by decide)).tr fM145 (by decide))
        · refine j_iload_n C 2 2 dX11_takersOf_56 rfl rfl ?_
          refine y_iconst C dX11_takersOf_57 ?_
          refine j_iload_n C 3 3 dX11_takersOf_58 rfl rfl ?_
          refine e_shl1 C 5 32 dX11_takersOf_59 rfl (by decide) (by omega) (fun lb152 ub152 => ?_)
          refine e_iorN C 6 63 dX11_takersOf_60 rfl (by decide) (by omega) (fun lb153 ub153 ob153 => ?_)
          refine j_istore_n C 2 [(2, .int (sI (orI a132 (pw2 a133)))), (0, .ref (ad 0)), (1, .int (sI a1)), (3, .int (sI a133))] dX11_takersOf_61 rfl (by decide) rfl ?_
          refine y_iinc C 3 [(3, .int (sI (a133 + 1))), (2, .int (sI (orI a132 (pw2 a133)))), (0, .ref (ad 0)), (1, .int (sI a1))] dX11_takersOf_62 rfl (by decide) rfl ?_
          refine j_goto C 19 dX11_takersOf_65 (by decide) ?_
          refine j_lv [2, 3, 1, 0] rfl ?_; exact ih130 (orI a132 (pw2 a133)) (a133 + 1) M145 (by omega) hM145 ((FX.rf.tr fM134 (by decide)).tr fM145 (by decide))
  refine j_lv [2, 3, 1, 0] rfl ?_; exact L131 2010 0 0 M102 (by omega) hM102 (FX.rf.tr fM102 (by decide))
set_option maxHeartbeats 4000000 in
theorem s2_X11_kind {l : Launch} {dC : Nat → ClassId} {dI : Nat → Nat → Nat} {ad : Nat → Nat} {cA : Nat → ClassId} {pr : Nat → Nat → Bool} {Kz : mm_M} {M0 : mm_M} (hM0 : INV pr Kz M0) (hpr : PX pr) (a1 : Int) (ha1 : -2147483648 ≤ a1 ∧ a1 ≤ 2147483647) (a2 : Int) (ha2 : -2147483648 ≤ a2 ∧ a2 ≤ 2147483647) (gp : Nat) (cgp : s_c gp = 6) (egp : gp = M0.2.2 0 4) (hp0 : b01 (APX M0 gp) = 1) (hp1 : b01 (LAW M0 gp) = 1) (hp2 : b01 (PRR (rwX M0 gp 12)) = 1) : Ci l 5 yX11_kind wsX11_kind dC dI ad cA [.ref (ad 0), .int (sI a1), .int (sI a2)] M0 (fun r M' => ∃ a : Int, r = sI a ∧ INV pr Kz M' ∧ FX [81, 82, 83, 84, 85, 86] M0 M' ∧ (-2147483648) ≤ a ∧ a ≤ 2147483647 ∧ (a = (knF (rwX M0 gp 12) a1 a2)) ∧ (b01 (APX M' gp) = 1)) := by
  refine ci_of (cc := cX11_kind) (maxL := 3) (ty := .int) (lv := [(0, .ref (ad 0)), (1, .int (sI a1)), (2, .int (sI a2))]) (by decide) rfl (fun r M' hp => rfl) (Nat.le_of_ble_eq_true rfl) rfl ?_
  intro p e s m args below meth c A Q C hret
  refine j_aload_n C 0 0 dX11_kind_0 rfl rfl ?_
  refine j_iload_n C 1 1 dX11_kind_1 rfl rfl ?_
  refine j_callVi C (d := 0) (As := [.int (sI a1)]) (st := []) 0 (s_lt rfl rfl) (s_kc (c := 10) rfl rfl) (by decide) rfl (s1_X11_isKind hM0 a1 (by omega)) gX11_kind_X11_isKind rfl hdX11_isKind (by decide) (Nat.le_of_ble_eq_true rfl) dX11_kind_2 rfl (fun r101 M102 h103 => ?_)
  obtain ⟨a105, rfl, rfl, h104⟩ := h103
  refine y_if_ne C 11 dX11_kind_5 (by decide) (by omega) (fun h106 => ?_) (fun h106 => ?_)
  · refine j_iload_n C 2 2 dX11_kind_11 rfl rfl ?_
    rcases (show (a2 < 0 ∨ 4 < a2) ∨ a2 = 0 ∨ a2 = 1 ∨ a2 = 2 ∨ a2 = 3 ∨ a2 = 4 by omega) with h107 | h107 | h107 | h107 | h107 | h107
    · refine y_tabO C 98 dX11_kind_12 (by decide) (by omega) ?_
      refine y_bipush C dX11_kind_98 rfl ?_
      have u108s := knF_s (rwX M0 gp 12) a1 a2
      have u108K : ((rwX M0 gp 12) 26).toInt = (M0.1 12 0).toInt := rfl
      have u108B := hM0.rd (i := 12) (c := 8) (k := 0) rfl (show s_b 8 0 = (0, 8) from rfl)
      have u1082 : andI (shrI ((rwX M0 gp 12) 27).toInt a1) 1 = andI (shrI (M0.1 12 3).toInt a1) 1 := rfl
      have u1083 : andI (shrI ((rwX M0 gp 12) 28).toInt a1) 1 = andI (shrI (M0.1 12 4).toInt a1) 1 := rfl
      have u1084 : wbF (rwX M0 gp 12) a1 ((rwX M0 gp 12) 1).toInt.toNat = wbF (rwX M0 gp 12) a1 (M0.1 gp 0).toInt.toNat := rfl
      exact hret _ _ _ _ dX11_kind_100 ⟨(-2), rfl, hM0, FX.rf, by omega⟩
    · refine y_tabI C (off := 36) 48 0 dX11_kind_12 (by decide) rfl (by decide) h107 ?_
      refine j_aload_n C 0 0 dX11_kind_48 rfl rfl ?_
      refine y_getC C 10 12 fX11_kind_36 rfl rfl ft_10_6 sm_10_6 rfl hM0 dX11_kind_49 ?_
      refine y_getC C 8 13 fX11_kind_144 rfl rfl ft_8_1 sm_8_1 rfl hM0 dX11_kind_52 ?_
      refine j_iload_n C 1 1 dX11_kind_55 rfl rfl ?_
      refine y_iald C 25 8 _ _ rfl rfl rfl ak_25 an_25 rfl (sb_25 _) hM0 dX11_kind_56 (by omega) (fun a109 ea109 la109 ua109 => ?_)
      obtain rfl : a109 = (M0.1 13 (a1).toNat).toInt := ea109
      have u110s := knF_s (rwX M0 gp 12) a1 a2
      have u110K : ((rwX M0 gp 12) 26).toInt = (M0.1 12 0).toInt := rfl
      have u110B := hM0.rd (i := 12) (c := 8) (k := 0) rfl (show s_b 8 0 = (0, 8) from rfl)
      have u1102 : andI (shrI ((rwX M0 gp 12) 27).toInt a1) 1 = andI (shrI (M0.1 12 3).toInt a1) 1 := rfl
      have u1103 : andI (shrI ((rwX M0 gp 12) 28).toInt a1) 1 = andI (shrI (M0.1 12 4).toInt a1) 1 := rfl
      have u1104 : wbF (rwX M0 gp 12) a1 ((rwX M0 gp 12) 1).toInt.toNat = wbF (rwX M0 gp 12) a1 (M0.1 gp 0).toInt.toNat := rfl
      have u110p : ((rwX M0 gp 12) (33 + a1).toNat).toInt = (M0.1 13 (a1).toNat).toInt := congrArg Int32.toInt (rx_k M0 gp 12 (k := a1) (by omega)).1
      exact hret _ _ _ _ dX11_kind_57 ⟨(M0.1 13 (a1).toNat).toInt, rfl, hM0, FX.rf, by omega⟩
    · refine y_tabI C (off := 46) 58 1 dX11_kind_12 (by decide) rfl (by decide) h107 ?_
      refine j_aload_n C 0 0 dX11_kind_58 rfl rfl ?_
      refine y_getC C 10 12 fX11_kind_36 rfl rfl ft_10_6 sm_10_6 rfl hM0 dX11_kind_59 ?_
      refine y_getC C 8 14 fX11_kind_147 rfl rfl ft_8_2 sm_8_2 rfl hM0 dX11_kind_62 ?_
      refine j_iload_n C 1 1 dX11_kind_65 rfl rfl ?_
      refine y_iald C 26 8 _ _ rfl rfl rfl ak_26 an_26 rfl (sb_26 _) hM0 dX11_kind_66 (by omega) (fun a111 ea111 la111 ua111 => ?_)
      obtain rfl : a111 = (M0.1 14 (a1).toNat).toInt := ea111
      have u112s := knF_s (rwX M0 gp 12) a1 a2
      have u112K : ((rwX M0 gp 12) 26).toInt = (M0.1 12 0).toInt := rfl
      have u112B := hM0.rd (i := 12) (c := 8) (k := 0) rfl (show s_b 8 0 = (0, 8) from rfl)
      have u1122 : andI (shrI ((rwX M0 gp 12) 27).toInt a1) 1 = andI (shrI (M0.1 12 3).toInt a1) 1 := rfl
      have u1123 : andI (shrI ((rwX M0 gp 12) 28).toInt a1) 1 = andI (shrI (M0.1 12 4).toInt a1) 1 := rfl
      have u1124 : wbF (rwX M0 gp 12) a1 ((rwX M0 gp 12) 1).toInt.toNat = wbF (rwX M0 gp 12) a1 (M0.1 gp 0).toInt.toNat := rfl
      have u112p : ((rwX M0 gp 12) (41 + a1).toNat).toInt = (M0.1 14 (a1).toNat).toInt := congrArg Int32.toInt (rx_k M0 gp 12 (k := a1) (by omega)).2
      exact hret _ _ _ _ dX11_kind_67 ⟨(M0.1 14 (a1).toNat).toInt, rfl, hM0, FX.rf, by omega⟩
    · refine y_tabI C (off := 56) 68 2 dX11_kind_12 (by decide) rfl (by decide) h107 ?_
      refine j_aload_n C 0 0 dX11_kind_68 rfl rfl ?_
      refine y_getC C 10 12 fX11_kind_36 rfl rfl ft_10_6 sm_10_6 rfl hM0 dX11_kind_69 ?_
      refine y_getI C 8 _ _ fX11_kind_150 rfl rfl ft_8_3 sb_8_3 hM0 dX11_kind_72 (fun a113 ea113 la113 ua113 => ?_)
      obtain rfl : a113 = (M0.1 12 3).toInt := ea113
      refine j_iload_n C 1 1 dX11_kind_75 rfl rfl ?_
      refine e_ishrP C dX11_kind_76 (by omega) (fun lb115 ub115 => ?_)
      refine y_iconst C dX11_kind_77 ?_
      refine e_iandR C dX11_kind_78 (by omega) (fun lb116 ub116 => ?_)
      have u117s := knF_s (rwX M0 gp 12) a1 a2
      have u117K : ((rwX M0 gp 12) 26).toInt = (M0.1 12 0).toInt := rfl
      have u117B := hM0.rd (i := 12) (c := 8) (k := 0) rfl (show s_b 8 0 = (0, 8) from rfl)
      have u1172 : andI (shrI ((rwX M0 gp 12) 27).toInt a1) 1 = andI (shrI (M0.1 12 3).toInt a1) 1 := rfl
      have u1173 : andI (shrI ((rwX M0 gp 12) 28).toInt a1) 1 = andI (shrI (M0.1 12 4).toInt a1) 1 := rfl
      have u1174 : wbF (rwX M0 gp 12) a1 ((rwX M0 gp 12) 1).toInt.toNat = wbF (rwX M0 gp 12) a1 (M0.1 gp 0).toInt.toNat := rfl
      exact hret _ _ _ _ dX11_kind_79 ⟨(andI (shrI (M0.1 12 3).toInt a1) 1), rfl, hM0, FX.rf, by omega⟩
    · refine y_tabI C (off := 68) 80 3 dX11_kind_12 (by decide) rfl (by decide) h107 ?_
      refine j_aload_n C 0 0 dX11_kind_80 rfl rfl ?_
      refine y_getC C 10 12 fX11_kind_36 rfl rfl ft_10_6 sm_10_6 rfl hM0 dX11_kind_81 ?_
      refine y_getI C 8 _ _ fX11_kind_153 rfl rfl ft_8_4 sb_8_4 hM0 dX11_kind_84 (fun a118 ea118 la118 ua118 => ?_)
      obtain rfl : a118 = (M0.1 12 4).toInt := ea118
      refine j_iload_n C 1 1 dX11_kind_87 rfl rfl ?_
      refine e_ishrP C dX11_kind_88 (by omega) (fun lb120 ub120 => ?_)
      refine y_iconst C dX11_kind_89 ?_
      refine e_iandR C dX11_kind_90 (by omega) (fun lb121 ub121 => ?_)
      have u122s := knF_s (rwX M0 gp 12) a1 a2
      have u122K : ((rwX M0 gp 12) 26).toInt = (M0.1 12 0).toInt := rfl
      have u122B := hM0.rd (i := 12) (c := 8) (k := 0) rfl (show s_b 8 0 = (0, 8) from rfl)
      have u1222 : andI (shrI ((rwX M0 gp 12) 27).toInt a1) 1 = andI (shrI (M0.1 12 3).toInt a1) 1 := rfl
      have u1223 : andI (shrI ((rwX M0 gp 12) 28).toInt a1) 1 = andI (shrI (M0.1 12 4).toInt a1) 1 := rfl
      have u1224 : wbF (rwX M0 gp 12) a1 ((rwX M0 gp 12) 1).toInt.toNat = wbF (rwX M0 gp 12) a1 (M0.1 gp 0).toInt.toNat := rfl
      exact hret _ _ _ _ dX11_kind_91 ⟨(andI (shrI (M0.1 12 4).toInt a1) 1), rfl, hM0, FX.rf, by omega⟩
    · refine y_tabI C (off := 80) 92 4 dX11_kind_12 (by decide) rfl (by decide) h107 ?_
      refine j_aload_n C 0 0 dX11_kind_92 rfl rfl ?_
      refine j_iload_n C 1 1 dX11_kind_93 rfl rfl ?_
      refine j_callVi C (d := 4) (As := [.int (sI a1)]) (st := []) 0 (s_lt rfl rfl) (s_kc (c := 10) rfl rfl) (by decide) rfl (s2_X11_takersOf hM0 hpr a1 (by omega) gp cgp (egp) (by omega) (by omega) (by omega)) gX11_kind_X11_takersOf rfl hdX11_takersOf (by decide) (Nat.le_of_ble_eq_true rfl) dX11_kind_94 rfl (fun r123 M124 h125 => ?_)
      obtain ⟨a127, rfl, hM124, fM124, h126⟩ := h125
      obtain rfl : a127 = (wbF (rwX M0 gp 12) a1 (M0.1 gp 0).toInt.toNat) := by omega
      have u128s := knF_s (rwX M0 gp 12) a1 a2
      have u128K : ((rwX M0 gp 12) 26).toInt = (M0.1 12 0).toInt := rfl
      have u128B := hM0.rd (i := 12) (c := 8) (k := 0) rfl (show s_b 8 0 = (0, 8) from rfl)
      have u1282 : andI (shrI ((rwX M0 gp 12) 27).toInt a1) 1 = andI (shrI (M0.1 12 3).toInt a1) 1 := rfl
      have u1283 : andI (shrI ((rwX M0 gp 12) 28).toInt a1) 1 = andI (shrI (M0.1 12 4).toInt a1) 1 := rfl
      have u1284 : wbF (rwX M0 gp 12) a1 ((rwX M0 gp 12) 1).toInt.toNat = wbF (rwX M0 gp 12) a1 (M0.1 gp 0).toInt.toNat := rfl
      exact hret _ _ _ _ dX11_kind_97 ⟨(wbF (rwX M0 gp 12) a1 (M0.1 gp 0).toInt.toNat), rfl, hM124, (FX.rf.tr fM124 (by decide)), by omega⟩
  · refine y_bipush C dX11_kind_8 rfl ?_
    have u129s := knF_s (rwX M0 gp 12) a1 a2
    have u129K : ((rwX M0 gp 12) 26).toInt = (M0.1 12 0).toInt := rfl
    have u129B := hM0.rd (i := 12) (c := 8) (k := 0) rfl (show s_b 8 0 = (0, 8) from rfl)
    have u1292 : andI (shrI ((rwX M0 gp 12) 27).toInt a1) 1 = andI (shrI (M0.1 12 3).toInt a1) 1 := rfl
    have u1293 : andI (shrI ((rwX M0 gp 12) 28).toInt a1) 1 = andI (shrI (M0.1 12 4).toInt a1) 1 := rfl
    have u1294 : wbF (rwX M0 gp 12) a1 ((rwX M0 gp 12) 1).toInt.toNat = wbF (rwX M0 gp 12) a1 (M0.1 gp 0).toInt.toNat := rfl
    exact hret _ _ _ _ dX11_kind_10 ⟨(-2), rfl, hM0, FX.rf, by omega⟩
set_option maxHeartbeats 4000000 in
theorem s2_X11_isBuyer {l : Launch} {dC : Nat → ClassId} {dI : Nat → Nat → Nat} {ad : Nat → Nat} {cA : Nat → ClassId} {pr : Nat → Nat → Bool} {Kz : mm_M} {M0 : mm_M} (hM0 : INV pr Kz M0) (a1 : Int) (ha1 : -2147483648 ≤ a1 ∧ a1 ≤ 2147483647) (gp : Nat) (cgp : s_c gp = 6) (egp : gp = M0.2.2 0 4) : Ci l 0 yX11_isBuyer wsX11_isBuyer dC dI ad cA [.ref (ad 0), .int (sI a1)] M0 (fun r M' => ∃ a : Int, r = sI a ∧ M0 = M' ∧ 0 ≤ a ∧ a ≤ 1 ∧ ((0 ≤ a1 ∧ a1 < (M0.1 gp 0).toInt) ∧ a = 1 ∨ (a1 < 0 ∨ (M0.1 gp 0).toInt ≤ a1) ∧ a = 0) ∧ ((M0.1 gp 0).toInt ≤ 6)) := by
  refine ci_of (cc := cX11_isBuyer) (maxL := 2) (ty := .boolean) (lv := [(0, .ref (ad 0)), (1, .int (sI a1))]) (by decide) rfl (fun r M' hp => by obtain ⟨a, rfl, -, h⟩ := hp; rcases (show a = 0 ∨ a = 1 by omega) with rfl | rfl <;> rfl) (Nat.le_of_ble_eq_true rfl) rfl ?_
  intro p e s m args below meth c A Q C hret
  have u101B := hM0.rd (i := gp) (c := 6) (k := 0) cgp (show s_b 6 0 = (0, 6) from rfl)
  refine j_iload_n C 1 1 dX11_isBuyer_0 rfl rfl ?_
  refine y_if_lt C 19 dX11_isBuyer_1 (by decide) (by omega) (fun h102 => ?_) (fun h102 => ?_)
  · refine y_iconst C dX11_isBuyer_19 ?_
    exact hret _ _ _ _ dX11_isBuyer_20 ⟨0, rfl, rfl, by omega⟩
  · refine j_iload_n C 1 1 dX11_isBuyer_4 rfl rfl ?_
    refine j_aload_n C 0 0 dX11_isBuyer_5 rfl rfl ?_
    refine y_getV C 10 gp fX11_isBuyer_26 rfl rfl ft_10_4 (egp) dX11_isBuyer_6 ?_
    refine y_getI C 6 _ _ fX11_isBuyer_163 cgp rfl ft_6_0 sb_6_0 hM0 dX11_isBuyer_9 (fun a103 ea103 la103 ua103 => ?_)
    obtain rfl : a103 = (M0.1 gp 0).toInt := ea103
    refine y_icmp_ge C 19 dX11_isBuyer_12 (by decide) (by omega) (fun h105 => ?_) (fun h105 => ?_)
    · refine y_iconst C dX11_isBuyer_19 ?_
      exact hret _ _ _ _ dX11_isBuyer_20 ⟨0, rfl, rfl, by omega⟩
    · refine y_iconst C dX11_isBuyer_15 ?_
      refine j_goto C 20 dX11_isBuyer_16 (by decide) ?_
      exact hret _ _ _ _ dX11_isBuyer_20 ⟨1, rfl, rfl, by omega⟩
set_option maxHeartbeats 4000000 in
theorem s2_X4_allowed {l : Launch} {dC : Nat → ClassId} {dI : Nat → Nat → Nat} {ad : Nat → Nat} {cA : Nat → ClassId} {pr : Nat → Nat → Bool} {Kz : mm_M} {M0 : mm_M} (hM0 : INV pr Kz M0) (hpr : PX pr) (a1 : Int) (ha1 : -2147483648 ≤ a1 ∧ a1 ≤ 2147483647) (a2 : Int) (ha2 : -2147483648 ≤ a2 ∧ a2 ≤ 2147483647) (a3 : Int) (ha3 : -2147483648 ≤ a3 ∧ a3 ≤ 2147483647) (gp : Nat) (cgp : s_c gp = 6) (egp : gp = M0.2.2 81 5) (hp0 : b01 (LWX M0 gp 9 10) = 1) (hp1 : b01 (BTX M0 gp) = 1) (hp2 : 0 ≤ a1 ∧ a1 ≤ 5) (hp3 : 0 ≤ a2 ∧ a2 ≤ 255) (hp4 : 0 ≤ a3 ∧ a3 ≤ 255) : Ci l 3 yX4_allowed wsX4_allowed dC dI ad cA [.ref (ad 81), .int (sI a1), .int (sI a2), .int (sI a3)] M0 (fun r M' => ∃ a : Int, r = sI a ∧ INV pr Kz M' ∧ FX [85, 86] M0 M' ∧ 0 ≤ a ∧ a ≤ 255 ∧ (a = (mwG (mdX M0 gp (sI a3)) a1 a2 (M0.1 81 6).toInt.toNat))) := by
  refine ci_of (cc := cX4_allowed) (maxL := 6) (ty := .int) (lv := [(0, .ref (ad 81)), (1, .int (sI a1)), (2, .int (sI a2)), (3, .int (sI a3))]) (by decide) rfl (fun r M' hp => rfl) (Nat.le_of_ble_eq_true rfl) rfl ?_
  intro p e s m args below meth c A Q C hret
  refine y_iconst C dX4_allowed_0 ?_
  refine j_istore C 4 [(4, .int (sI 0)), (0, .ref (ad 81)), (1, .int (sI a1)), (2, .int (sI a2)), (3, .int (sI a3))] dX4_allowed_1 (by decide) rfl ?_
  refine y_iconst C dX4_allowed_3 ?_
  refine j_istore C 5 [(5, .int (sI 0)), (4, .int (sI 0)), (0, .ref (ad 81)), (1, .int (sI a1)), (2, .int (sI a2)), (3, .int (sI a3))] dX4_allowed_4 (by decide) rfl ?_
  have u101z : mwG (mdX M0 gp (sI a3)) a1 a2 (0 : Int).toNat = 0 := rfl
  have u101k := hM0.rd (i := 81) (c := 3) (k := 6) rfl (show s_b 3 6 = (0, 8) from rfl)
  have L126 : ∀ (n124 : Nat), ∀ (a127 : Int) (a128 : Int) (M129 : mm_M), (0 ≤ a127 ∧ a127 ≤ 255 ∧ 0 ≤ a128 ∧ a128 ≤ 8 ∧ (a127 = mwG (mdX M0 gp (sI a3)) a1 a2 (a128).toNat) ∧ (a128 ≤ (M0.1 81 6).toInt) ∧ (8 - a128) < (n124 : Int)) → INV pr Kz M129 → FX [85, 86] M0 M129 → jj p l e (cn_R 3) s m args below meth c 0 0 Q 6 dC dI ad cA A M129 6 [(0, .ref (ad 81)), (1, .int (sI a1)), (2, .int (sI a2)), (3, .int (sI a3)), (4, .int (sI a127)), (5, .int (sI a128))] [] := by
    intro n124
    induction n124 with
    | zero =>
      intro a127 a128 M129 h130 hM129 fM129
      exfalso; omega
    | succ n124 ih125 =>
      intro a127 a128 M129 h130 hM129 fM129
      refine j_iload C 5 dX4_allowed_6 rfl ?_
      refine j_aload_n C 0 0 dX4_allowed_8 rfl rfl ?_
      refine y_getI C 3 _ _ fX4_allowed_29 rfl rfl ft_3_6 sb_3_6 hM129 dX4_allowed_9 (fun a131 ea131 la131 ua131 => ?_)
      obtain rfl : a131 = (M0.1 81 6).toInt := s_fX fM129 (by decide) (ea131)
      refine y_icmp_ge C 50 dX4_allowed_12 (by decide) (by omega) (fun h133 => ?_) (fun h133 => ?_)
      · have u150x : a128 = (M0.1 81 6).toInt := by omega
        have u150y : mwG (mdX M0 gp (sI a3)) a1 a2 (a128).toNat = mwG (mdX M0 gp (sI a3)) a1 a2 (M0.1 81 6).toInt.toNat := by rw [u150x]
        refine j_iload C 4 dX4_allowed_50 rfl ?_
        exact hret _ _ _ _ dX4_allowed_52 ⟨a127, rfl, hM129, (FX.rf.tr fM129 (by decide)), by omega⟩
      · have u1349 := hM0.rd (i := gp) (c := 6) (k := 9) cgp (show s_b 6 9 = (0, 900) from rfl)
        have u134m := mb_X M0 gp (b := a1) (k := a128) (s := a2) (h := a3) (by omega) (by omega) (by omega) (by omega) u1349.1
        have u134w := mwG_s (mdX M0 gp (sI a3)) a1 a2 (x := a128) (x' := a128 + 1) (a := a127) (by omega) rfl (by omega)
        have u134l := lwx_fr (i := 9) (j := 10) ((FX.rf.tr fM129 (by decide)) : FX [85, 86] M0 M129) (by decide) cgp (by omega)
        refine j_iload_n C 3 3 dX4_allowed_15 rfl rfl ?_
        refine j_iload C 5 dX4_allowed_16 rfl ?_
        refine e_ishrP C dX4_allowed_18 (by omega) (fun lb135 ub135 => ?_)
        refine y_iconst C dX4_allowed_19 ?_
        refine e_iandR C dX4_allowed_20 (by omega) (fun lb136 ub136 => ?_)
        refine y_if_ne C 44 dX4_allowed_21 (by decide) (by omega) (fun h137 => ?_) (fun h137 => ?_)
        · refine y_iinc C 5 [(5, .int (sI (a128 + 1))), (0, .ref (ad 81)), (1, .int (sI a1)), (2, .int (sI a2)), (3, .int (sI a3)), (4, .int (sI a127))] dX4_allowed_44 rfl (by decide) rfl ?_
          refine j_goto C 6 dX4_allowed_47 (by decide) ?_
          refine j_lv [1, 2, 3, 4, 5, 0] rfl ?_; exact ih125 a127 (a128 + 1) M129 (by omega) hM129 (FX.rf.tr fM129 (by decide))
        · refine j_aload_n C 0 0 dX4_allowed_24 rfl rfl ?_
          refine j_iload_n C 1 1 dX4_allowed_25 rfl rfl ?_
          refine j_iload C 5 dX4_allowed_26 rfl ?_
          refine j_iload_n C 2 2 dX4_allowed_28 rfl rfl ?_
          refine j_callVi C (d := 2) (As := [.int (sI a1), .int (sI a128), .int (sI a2)]) (st := []) 81 (s_lt rfl rfl) (s_kc (c := 3) rfl rfl) (by decide) rfl (s2_X4_lets hM129 hpr a1 (by omega) a128 (by omega) a2 (by omega) gp cgp (s_pX fM129 (egp)) (by omega) (by omega) (by omega) (by omega)) gX4_allowed_X4_lets rfl hdX4_lets (by decide) (Nat.le_of_ble_eq_true rfl) dX4_allowed_29 rfl (fun r139 M140 h141 => ?_)
          obtain ⟨a143, rfl, hM140, fM140, h142⟩ := h141
          obtain rfl : a143 = (ltO (mdX M129 gp 0) a1 a128 (bsF a2 (8 : Int).toNat) (andI (shrI a2 a128) 1)) := by omega
          have u144f := (ltO_f ((FX.rf.tr fM129 (by decide)) : FX [85, 86] M0 M129) (by decide) cgp a1 a128 (bsF a2 (8 : Int).toNat) (andI (shrI a2 a128) 1)).1
          refine y_if_eq C 44 dX4_allowed_32 (by decide) (by omega) (fun h145 => ?_) (fun h145 => ?_)
          · refine y_iinc C 5 [(5, .int (sI (a128 + 1))), (0, .ref (ad 81)), (1, .int (sI a1)), (2, .int (sI a2)), (3, .int (sI a3)), (4, .int (sI a127))] dX4_allowed_44 rfl (by decide) rfl ?_
            refine j_goto C 6 dX4_allowed_47 (by decide) ?_
            refine j_lv [1, 2, 3, 4, 5, 0] rfl ?_; exact ih125 a127 (a128 + 1) M140 (by omega) hM140 ((FX.rf.tr fM129 (by decide)).tr fM140 (by decide))
          · refine j_iload C 4 dX4_allowed_35 rfl ?_
            refine y_iconst C dX4_allowed_37 ?_
            refine j_iload C 5 dX4_allowed_38 rfl ?_
            refine e_shl1 C 7 128 dX4_allowed_40 rfl (by decide) (by omega) (fun lb147 ub147 => ?_)
            refine e_iorN C 8 255 dX4_allowed_41 rfl (by decide) (by omega) (fun lb148 ub148 ob148 => ?_)
            refine j_istore C 4 [(4, .int (sI (orI a127 (pw2 a128)))), (0, .ref (ad 81)), (1, .int (sI a1)), (2, .int (sI a2)), (3, .int (sI a3)), (5, .int (sI a128))] dX4_allowed_42 (by decide) rfl ?_
            refine y_iinc C 5 [(5, .int (sI (a128 + 1))), (4, .int (sI (orI a127 (pw2 a128)))), (0, .ref (ad 81)), (1, .int (sI a1)), (2, .int (sI a2)), (3, .int (sI a3))] dX4_allowed_44 rfl (by decide) rfl ?_
            refine j_goto C 6 dX4_allowed_47 (by decide) ?_
            refine j_lv [2, 3, 4, 5, 1, 0] rfl ?_; exact ih125 (orI a127 (pw2 a128)) (a128 + 1) M140 (by omega) hM140 ((FX.rf.tr fM129 (by decide)).tr fM140 (by decide))
  refine j_lv [2, 3, 4, 5, 1, 0] rfl ?_; exact L126 2010 0 0 M0 (by omega) hM0 FX.rf
set_option maxHeartbeats 4000000 in
theorem s2_X11_buyer {l : Launch} {dC : Nat → ClassId} {dI : Nat → Nat → Nat} {ad : Nat → Nat} {cA : Nat → ClassId} {pr : Nat → Nat → Bool} {Kz : mm_M} {M0 : mm_M} (hM0 : INV pr Kz M0) (hpr : PX pr) (a1 : Int) (ha1 : -2147483648 ≤ a1 ∧ a1 ≤ 2147483647) (a2 : Int) (ha2 : -2147483648 ≤ a2 ∧ a2 ≤ 2147483647) (gp : Nat) (cgp : s_c gp = 6) (egp : gp = M0.2.2 0 4) (hp0 : b01 (APX M0 gp) = 1) (hp1 : b01 (LAW M0 gp) = 1) (hp2 : b01 (PRR (rwX M0 gp 12)) = 1) : Ci l 4 yX11_buyer wsX11_buyer dC dI ad cA [.ref (ad 0), .int (sI a1), .int (sI a2)] M0 (fun r M' => ∃ a : Int, r = sI a ∧ INV pr Kz M' ∧ FX [81, 82, 83, 84, 85, 86] M0 M' ∧ (-2147483648) ≤ a ∧ a ≤ 2147483647 ∧ (a = (byF (rwX M0 gp 12) a1 a2)) ∧ (b01 (APX M' gp) = 1)) := by
  refine ci_of (cc := cX11_buyer) (maxL := 3) (ty := .int) (lv := [(0, .ref (ad 0)), (1, .int (sI a1)), (2, .int (sI a2))]) (by decide) rfl (fun r M' hp => rfl) (Nat.le_of_ble_eq_true rfl) rfl ?_
  intro p e s m args below meth c A Q C hret
  refine j_aload_n C 0 0 dX11_buyer_0 rfl rfl ?_
  refine j_iload_n C 1 1 dX11_buyer_1 rfl rfl ?_
  refine j_callVi C (d := 0) (As := [.int (sI a1)]) (st := []) 0 (s_lt rfl rfl) (s_kc (c := 10) rfl rfl) (by decide) rfl (s2_X11_isBuyer hM0 a1 (by omega) gp cgp (egp)) gX11_buyer_X11_isBuyer rfl hdX11_isBuyer (by decide) (Nat.le_of_ble_eq_true rfl) dX11_buyer_2 rfl (fun r101 M102 h103 => ?_)
  obtain ⟨a105, rfl, rfl, h104⟩ := h103
  refine y_if_ne C 11 dX11_buyer_5 (by decide) (by omega) (fun h106 => ?_) (fun h106 => ?_)
  · refine j_aload_n C 0 0 dX11_buyer_11 rfl rfl ?_
    refine y_getC C 10 81 fX11_buyer_76 rfl rfl ft_10_12 sm_10_12 rfl hM0 dX11_buyer_12 ?_
    refine j_aload_n C 0 0 dX11_buyer_15 rfl rfl ?_
    refine y_getV C 10 gp fX11_buyer_26 rfl rfl ft_10_4 (egp) dX11_buyer_16 ?_
    refine j_aload_n C 0 0 dX11_buyer_19 rfl rfl ?_
    refine y_getC C 10 12 fX11_buyer_36 rfl rfl ft_10_6 sm_10_6 rfl hM0 dX11_buyer_20 ?_
    refine j_callVv C (d := 0) (As := [.ref (ad gp), .ref (ad 12)]) (st := []) 81 (s_lt rfl rfl) (s_kc (c := 3) rfl rfl) (by decide) rfl (s2_X4_tune hM0 hpr cgp rfl (by omega)) gX11_buyer_X4_tune rfl hdX4_tune (by decide) (Nat.le_of_ble_eq_true rfl) dX11_buyer_23 rfl (fun M108 h109 => ?_)
    obtain ⟨hM108, fM108, h110⟩ := h109
    have egp81 : gp = M108.2.2 81 5 := by omega
    have u1117 := hM0.rd (i := gp) (c := 6) (k := 7) cgp (show s_b 6 7 = (0, 900) from rfl)
    have u1119 := hM0.rd (i := gp) (c := 6) (k := 9) cgp (show s_b 6 9 = (0, 900) from rfl)
    have u111T := tn_0 (M := M0) (N := M108) (p := gp) (v := 12) (ple_f (p := gp) ((FX.rf.tr fM108 (by decide)) : FX [81, 82, 83, 84] M0 M108) cgp (by decide)) (by omega) (by omega) (by omega) (by omega) (by omega) (by omega) u1117.1 u1119.1
    have u111E := tn_e (M := M108) (p := gp) (f := (rwX M0 gp 12)) u111T
    have u111B := hM0.rd (i := gp) (c := 6) (k := 0) cgp (show s_b 6 0 = (0, 6) from rfl)
    have u111K : ((rwX M0 gp 12) 26).toInt = (M0.1 12 0).toInt := rfl
    refine j_iload_n C 2 2 dX11_buyer_26 rfl rfl ?_
    rcases (show (a2 < 0 ∨ 4 < a2) ∨ a2 = 0 ∨ a2 = 1 ∨ a2 = 2 ∨ a2 = 3 ∨ a2 = 4 by omega) with h112 | h112 | h112 | h112 | h112 | h112
    · refine y_tabO C 136 dX11_buyer_27 (by decide) (by omega) ?_
      refine y_bipush C dX11_buyer_136 rfl ?_
      have u113s := byF_s (rwX M0 gp 12) a1 a2
      have u113B : ((rwX M0 gp 12) 1).toInt = (M0.1 gp 0).toInt := rfl
      exact hret _ _ _ _ dX11_buyer_138 ⟨(-2), rfl, hM108, (FX.rf.tr fM108 (by decide)), by omega⟩
    · refine y_tabI C (off := 33) 60 0 dX11_buyer_27 (by decide) rfl (by decide) h112 ?_
      refine j_aload_n C 0 0 dX11_buyer_60 rfl rfl ?_
      refine y_getV C 10 gp fX11_buyer_26 rfl rfl ft_10_4 (s_pX fM108 (egp)) dX11_buyer_61 ?_
      refine y_getTE C 6 21 fX11_buyer_176 cgp rfl ft_6_2 rfl sm_6_2 st_6_2 (by decide) hM108 dX11_buyer_64 (fun cv114 => ?_)
      refine j_iload_n C 1 1 dX11_buyer_67 rfl rfl ?_
      refine y_iald C 21 6 _ _ cv114 rfl rfl ak_21 an_21 rfl (sb_21 _) hM108 dX11_buyer_68 (by omega) (fun a115 ea115 la115 ua115 => ?_)
      obtain rfl : a115 = (M0.1 (s_p0 gp 2) (a1).toNat).toInt := s_fX fM108 (s_nin cv114 (by decide)) (ea115)
      have u116s := byF_s (rwX M0 gp 12) a1 a2
      have u116B : ((rwX M0 gp 12) 1).toInt = (M0.1 gp 0).toInt := rfl
      have u116p : ((rwX M0 gp 12) (8 + a1).toNat).toInt = (M0.1 (s_p0 gp 2) (a1).toNat).toInt := congrArg Int32.toInt (rx_b M0 gp 12 (b := a1) (by omega)).1
      exact hret _ _ _ _ dX11_buyer_69 ⟨(M0.1 (s_p0 gp 2) (a1).toNat).toInt, rfl, hM108, (FX.rf.tr fM108 (by decide)), by omega⟩
    · refine y_tabI C (off := 43) 70 1 dX11_buyer_27 (by decide) rfl (by decide) h112 ?_
      refine j_aload_n C 0 0 dX11_buyer_70 rfl rfl ?_
      refine y_getV C 10 gp fX11_buyer_26 rfl rfl ft_10_4 (s_pX fM108 (egp)) dX11_buyer_71 ?_
      refine y_getTE C 6 22 fX11_buyer_179 cgp rfl ft_6_3 rfl sm_6_3 st_6_3 (by decide) hM108 dX11_buyer_74 (fun cv117 => ?_)
      refine j_iload_n C 1 1 dX11_buyer_77 rfl rfl ?_
      refine y_iald C 22 6 _ _ cv117 rfl rfl ak_22 an_22 rfl (sb_22 _) hM108 dX11_buyer_78 (by omega) (fun a118 ea118 la118 ua118 => ?_)
      obtain rfl : a118 = (M0.1 (s_p0 gp 3) (a1).toNat).toInt := s_fX fM108 (s_nin cv117 (by decide)) (ea118)
      have u119s := byF_s (rwX M0 gp 12) a1 a2
      have u119B : ((rwX M0 gp 12) 1).toInt = (M0.1 gp 0).toInt := rfl
      have u119p : ((rwX M0 gp 12) (14 + a1).toNat).toInt = (M0.1 (s_p0 gp 3) (a1).toNat).toInt := congrArg Int32.toInt (rx_b M0 gp 12 (b := a1) (by omega)).2.1
      exact hret _ _ _ _ dX11_buyer_79 ⟨(M0.1 (s_p0 gp 3) (a1).toNat).toInt, rfl, hM108, (FX.rf.tr fM108 (by decide)), by omega⟩
    · refine y_tabI C (off := 53) 80 2 dX11_buyer_27 (by decide) rfl (by decide) h112 ?_
      refine j_aload_n C 0 0 dX11_buyer_80 rfl rfl ?_
      refine y_getV C 10 gp fX11_buyer_26 rfl rfl ft_10_4 (s_pX fM108 (egp)) dX11_buyer_81 ?_
      refine y_getTE C 6 23 fX11_buyer_182 cgp rfl ft_6_4 rfl sm_6_4 st_6_4 (by decide) hM108 dX11_buyer_84 (fun cv120 => ?_)
      refine j_iload_n C 1 1 dX11_buyer_87 rfl rfl ?_
      refine y_iald C 23 6 _ _ cv120 rfl rfl ak_23 an_23 rfl (sb_23 _) hM108 dX11_buyer_88 (by omega) (fun a121 ea121 la121 ua121 => ?_)
      obtain rfl : a121 = (M0.1 (s_p0 gp 4) (a1).toNat).toInt := s_fX fM108 (s_nin cv120 (by decide)) (ea121)
      have u122s := byF_s (rwX M0 gp 12) a1 a2
      have u122B : ((rwX M0 gp 12) 1).toInt = (M0.1 gp 0).toInt := rfl
      have u122p : ((rwX M0 gp 12) (20 + a1).toNat).toInt = (M0.1 (s_p0 gp 4) (a1).toNat).toInt := congrArg Int32.toInt (rx_b M0 gp 12 (b := a1) (by omega)).2.2
      exact hret _ _ _ _ dX11_buyer_89 ⟨(M0.1 (s_p0 gp 4) (a1).toNat).toInt, rfl, hM108, (FX.rf.tr fM108 (by decide)), by omega⟩
    · refine y_tabI C (off := 63) 90 3 dX11_buyer_27 (by decide) rfl (by decide) h112 ?_
      refine j_aload_n C 0 0 dX11_buyer_90 rfl rfl ?_
      refine y_getC C 10 81 fX11_buyer_76 rfl rfl ft_10_12 sm_10_12 rfl hM108 dX11_buyer_91 ?_
      refine j_iload_n C 1 1 dX11_buyer_94 rfl rfl ?_
      refine j_aload_n C 0 0 dX11_buyer_95 rfl rfl ?_
      refine y_getC C 10 12 fX11_buyer_36 rfl rfl ft_10_6 sm_10_6 rfl hM108 dX11_buyer_96 ?_
      refine y_getI C 8 _ _ fX11_buyer_150 rfl rfl ft_8_3 sb_8_3 hM108 dX11_buyer_99 (fun a123 ea123 la123 ua123 => ?_)
      obtain rfl : a123 = (M0.1 12 3).toInt := s_fX fM108 (by decide) (ea123)
      refine j_aload_n C 0 0 dX11_buyer_102 rfl rfl ?_
      refine y_getC C 10 12 fX11_buyer_36 rfl rfl ft_10_6 sm_10_6 rfl hM108 dX11_buyer_103 ?_
      refine y_getI C 8 _ _ fX11_buyer_153 rfl rfl ft_8_4 sb_8_4 hM108 dX11_buyer_106 (fun a125 ea125 la125 ua125 => ?_)
      obtain rfl : a125 = (M0.1 12 4).toInt := s_fX fM108 (by decide) (ea125)
      refine j_callVi C (d := 3) (As := [.int (sI a1), .int (sI (M0.1 12 3).toInt), .int (sI (M0.1 12 4).toInt)]) (st := []) 81 (s_lt rfl rfl) (s_kc (c := 3) rfl rfl) (by decide) rfl (s2_X4_allowed hM108 hpr a1 (by omega) (M0.1 12 3).toInt (by omega) (M0.1 12 4).toInt (by omega) gp cgp (egp81) (by omega) (by omega) (by omega) (by omega) (by omega)) gX11_buyer_X4_allowed rfl hdX4_allowed (by decide) (Nat.le_of_ble_eq_true rfl) dX11_buyer_109 rfl (fun r127 M128 h129 => ?_)
      obtain ⟨a131, rfl, hM128, fM128, h130⟩ := h129
      obtain rfl : a131 = (mwG (mdX M108 gp (sI (M0.1 12 4).toInt)) a1 (M0.1 12 3).toInt (M108.1 81 6).toInt.toNat) := by omega
      have u132s := byF_s (rwX M0 gp 12) a1 a2
      have u132B : ((rwX M0 gp 12) 1).toInt = (M0.1 gp 0).toInt := rfl
      have u132b := tn_m (M := M108) (p := gp) (f := (rwX M0 gp 12)) (b := a1) (s := (M0.1 12 3).toInt) (hx := (M0.1 12 4).toInt) (by omega) (by omega) rfl rfl
      have u132A7 := hM108.rd (i := gp) (c := 6) (k := 7) cgp (show s_b 6 7 = (0, 900) from rfl)
      have u132A9 := hM108.rd (i := gp) (c := 6) (k := 9) cgp (show s_b 6 9 = (0, 900) from rfl)
      have u132A := apx_o (M := M108) (N := M128) (p := gp) (ple_f (p := gp) ((FX.rf.tr fM128 (by decide)) : FX [85, 86] M108 M128) cgp (by decide)) (((FX.rf.tr fM128 (by decide)) : FX [85, 86] M108 M128).cell (by decide)) (((FX.rf.tr fM128 (by decide)) : FX [85, 86] M108 M128).cell (by decide)) (((FX.rf.tr fM128 (by decide)) : FX [85, 86] M108 M128).cell (by decide)) u132A7.1 u132A9.1 (by omega)
      exact hret _ _ _ _ dX11_buyer_112 ⟨(mwG (mdX M108 gp (sI (M0.1 12 4).toInt)) a1 (M0.1 12 3).toInt (M108.1 81 6).toInt.toNat), rfl, hM128, ((FX.rf.tr fM108 (by decide)).tr fM128 (by decide)), by omega⟩
    · refine y_tabI C (off := 86) 113 4 dX11_buyer_27 (by decide) rfl (by decide) h112 ?_
      refine j_aload_n C 0 0 dX11_buyer_113 rfl rfl ?_
      refine y_getC C 10 81 fX11_buyer_76 rfl rfl ft_10_12 sm_10_12 rfl hM108 dX11_buyer_114 ?_
      refine j_iload_n C 1 1 dX11_buyer_117 rfl rfl ?_
      refine j_aload_n C 0 0 dX11_buyer_118 rfl rfl ?_
      refine y_getC C 10 12 fX11_buyer_36 rfl rfl ft_10_6 sm_10_6 rfl hM108 dX11_buyer_119 ?_
      refine y_getI C 8 _ _ fX11_buyer_150 rfl rfl ft_8_3 sb_8_3 hM108 dX11_buyer_122 (fun a133 ea133 la133 ua133 => ?_)
      obtain rfl : a133 = (M0.1 12 3).toInt := s_fX fM108 (by decide) (ea133)
      refine j_aload_n C 0 0 dX11_buyer_125 rfl rfl ?_
      refine y_getC C 10 12 fX11_buyer_36 rfl rfl ft_10_6 sm_10_6 rfl hM108 dX11_buyer_126 ?_
      refine y_getI C 8 _ _ fX11_buyer_153 rfl rfl ft_8_4 sb_8_4 hM108 dX11_buyer_129 (fun a135 ea135 la135 ua135 => ?_)
      obtain rfl : a135 = (M0.1 12 4).toInt := s_fX fM108 (by decide) (ea135)
      refine j_callVi C (d := 3) (As := [.int (sI a1), .int (sI (M0.1 12 3).toInt), .int (sI (M0.1 12 4).toInt)]) (st := []) 81 (s_lt rfl rfl) (s_kc (c := 3) rfl rfl) (by decide) rfl (s2_X4_choice hM108 hpr a1 (by omega) (M0.1 12 3).toInt (by omega) (M0.1 12 4).toInt (by omega) gp cgp (egp81) (by omega) (by omega) (by omega) (by omega) (by omega) (by omega) (by omega) (by omega)) gX11_buyer_X4_choice rfl hdX4_choice (by decide) (Nat.le_of_ble_eq_true rfl) dX11_buyer_132 rfl (fun r137 M138 h139 => ?_)
      obtain ⟨a141, rfl, hM138, fM138, h140⟩ := h139
      obtain rfl : a141 = (boF (mdX M108 gp (sI (M0.1 12 4).toInt)) a1 (M0.1 12 3).toInt) := by omega
      have u142s := byF_s (rwX M0 gp 12) a1 a2
      have u142B : ((rwX M0 gp 12) 1).toInt = (M0.1 gp 0).toInt := rfl
      have u142b := tn_b (M := M108) (p := gp) (f := (rwX M0 gp 12)) (b := a1) (s := (M0.1 12 3).toInt) (hx := (M0.1 12 4).toInt) (by omega) (by omega) rfl rfl
      exact hret _ _ _ _ dX11_buyer_135 ⟨(boF (mdX M108 gp (sI (M0.1 12 4).toInt)) a1 (M0.1 12 3).toInt), rfl, hM138, ((FX.rf.tr fM108 (by decide)).tr fM138 (by decide)), by omega⟩
  · refine y_bipush C dX11_buyer_8 rfl ?_
    have u143s := byF_s (rwX M0 gp 12) a1 a2
    have u143B : ((rwX M0 gp 12) 1).toInt = (M0.1 gp 0).toInt := rfl
    exact hret _ _ _ _ dX11_buyer_10 ⟨(-2), rfl, hM0, FX.rf, by omega⟩
set_option maxHeartbeats 4000000 in
theorem s2_X11_wants {l : Launch} {dC : Nat → ClassId} {dI : Nat → Nat → Nat} {ad : Nat → Nat} {cA : Nat → ClassId} {pr : Nat → Nat → Bool} {Kz : mm_M} {M0 : mm_M} (hM0 : INV pr Kz M0) (hpr : PX pr) (a1 : Int) (ha1 : -2147483648 ≤ a1 ∧ a1 ≤ 2147483647) (a2 : Int) (ha2 : -2147483648 ≤ a2 ∧ a2 ≤ 2147483647) (gp : Nat) (cgp : s_c gp = 6) (egp : gp = M0.2.2 0 4) (hp0 : b01 (APX M0 gp) = 1) (hp1 : b01 (LAW M0 gp) = 1) (hp2 : b01 (PRR (rwX M0 gp 12)) = 1) : Ci l 3 yX11_wants wsX11_wants dC dI ad cA [.ref (ad 0), .int (sI a1), .int (sI a2)] M0 (fun r M' => ∃ a : Int, r = sI a ∧ INV pr Kz M' ∧ FX [81, 82, 83, 84, 85, 86] M0 M' ∧ (-2147483648) ≤ a ∧ a ≤ 2147483647 ∧ (a = (wsF (rwX M0 gp 12) a1 a2)) ∧ (b01 (APX M' gp) = 1)) := by
  refine ci_of (cc := cX11_wants) (maxL := 3) (ty := .int) (lv := [(0, .ref (ad 0)), (1, .int (sI a1)), (2, .int (sI a2))]) (by decide) rfl (fun r M' hp => rfl) (Nat.le_of_ble_eq_true rfl) rfl ?_
  intro p e s m args below meth c A Q C hret
  refine j_aload_n C 0 0 dX11_wants_0 rfl rfl ?_
  refine j_iload_n C 1 1 dX11_wants_1 rfl rfl ?_
  refine j_callVi C (d := 0) (As := [.int (sI a1)]) (st := []) 0 (s_lt rfl rfl) (s_kc (c := 10) rfl rfl) (by decide) rfl (s2_X11_isBuyer hM0 a1 (by omega) gp cgp (egp)) gX11_wants_X11_isBuyer rfl hdX11_isBuyer (by decide) (Nat.le_of_ble_eq_true rfl) dX11_wants_2 rfl (fun r101 M102 h103 => ?_)
  obtain ⟨a105, rfl, rfl, h104⟩ := h103
  refine y_if_eq C 16 dX11_wants_5 (by decide) (by omega) (fun h106 => ?_) (fun h106 => ?_)
  · refine y_ldc C (-99000002) dX11_wants_16 kX11_wants_188 rfl ?_
    have u107s := wsF_s (rwX M0 gp 12) a1 a2
    have u107B : ((rwX M0 gp 12) 1).toInt = (M0.1 gp 0).toInt := rfl
    have u107K : ((rwX M0 gp 12) 26).toInt = (M0.1 12 0).toInt := rfl
    exact hret _ _ _ _ dX11_wants_18 ⟨(-99000002), rfl, hM0, FX.rf, by omega⟩
  · refine j_aload_n C 0 0 dX11_wants_8 rfl rfl ?_
    refine j_iload_n C 2 2 dX11_wants_9 rfl rfl ?_
    refine j_callVi C (d := 0) (As := [.int (sI a2)]) (st := []) 0 (s_lt rfl rfl) (s_kc (c := 10) rfl rfl) (by decide) rfl (s1_X11_isKind hM0 a2 (by omega)) gX11_wants_X11_isKind rfl hdX11_isKind (by decide) (Nat.le_of_ble_eq_true rfl) dX11_wants_10 rfl (fun r108 M109 h110 => ?_)
    obtain ⟨a112, rfl, rfl, h111⟩ := h110
    refine y_if_ne C 19 dX11_wants_13 (by decide) (by omega) (fun h113 => ?_) (fun h113 => ?_)
    · refine j_aload_n C 0 0 dX11_wants_19 rfl rfl ?_
      refine y_getC C 10 81 fX11_wants_76 rfl rfl ft_10_12 sm_10_12 rfl hM0 dX11_wants_20 ?_
      refine j_aload_n C 0 0 dX11_wants_23 rfl rfl ?_
      refine y_getV C 10 gp fX11_wants_26 rfl rfl ft_10_4 (egp) dX11_wants_24 ?_
      refine j_aload_n C 0 0 dX11_wants_27 rfl rfl ?_
      refine y_getC C 10 12 fX11_wants_36 rfl rfl ft_10_6 sm_10_6 rfl hM0 dX11_wants_28 ?_
      refine j_callVv C (d := 0) (As := [.ref (ad gp), .ref (ad 12)]) (st := []) 81 (s_lt rfl rfl) (s_kc (c := 3) rfl rfl) (by decide) rfl (s2_X4_tune hM0 hpr cgp rfl (by omega)) gX11_wants_X4_tune rfl hdX4_tune (by decide) (Nat.le_of_ble_eq_true rfl) dX11_wants_31 rfl (fun M115 h116 => ?_)
      obtain ⟨hM115, fM115, h117⟩ := h116
      have egp81 : gp = M115.2.2 81 5 := by omega
      have u1187 := hM0.rd (i := gp) (c := 6) (k := 7) cgp (show s_b 6 7 = (0, 900) from rfl)
      have u1189 := hM0.rd (i := gp) (c := 6) (k := 9) cgp (show s_b 6 9 = (0, 900) from rfl)
      have u118T := tn_0 (M := M0) (N := M115) (p := gp) (v := 12) (ple_f (p := gp) ((FX.rf.tr fM115 (by decide)) : FX [81, 82, 83, 84] M0 M115) cgp (by decide)) (by omega) (by omega) (by omega) (by omega) (by omega) (by omega) u1187.1 u1189.1
      have u118E := tn_e (M := M115) (p := gp) (f := (rwX M0 gp 12)) u118T
      have u118B := hM0.rd (i := gp) (c := 6) (k := 0) cgp (show s_b 6 0 = (0, 6) from rfl)
      have u118K : ((rwX M0 gp 12) 26).toInt = (M0.1 12 0).toInt := rfl
      refine j_aload_n C 0 0 dX11_wants_34 rfl rfl ?_
      refine y_getC C 10 81 fX11_wants_76 rfl rfl ft_10_12 sm_10_12 rfl hM115 dX11_wants_35 ?_
      refine j_iload_n C 1 1 dX11_wants_38 rfl rfl ?_
      refine j_iload_n C 2 2 dX11_wants_39 rfl rfl ?_
      refine j_aload_n C 0 0 dX11_wants_40 rfl rfl ?_
      refine y_getC C 10 12 fX11_wants_36 rfl rfl ft_10_6 sm_10_6 rfl hM115 dX11_wants_41 ?_
      refine y_getI C 8 _ _ fX11_wants_150 rfl rfl ft_8_3 sb_8_3 hM115 dX11_wants_44 (fun a119 ea119 la119 ua119 => ?_)
      obtain rfl : a119 = (M0.1 12 3).toInt := s_fX fM115 (by decide) (ea119)
      refine j_callVi C (d := 2) (As := [.int (sI a1), .int (sI a2), .int (sI (M0.1 12 3).toInt)]) (st := []) 81 (s_lt rfl rfl) (s_kc (c := 3) rfl rfl) (by decide) rfl (s2_X4_wish hM115 hpr a1 (by omega) a2 (by omega) (M0.1 12 3).toInt (by omega) gp cgp (egp81) (by omega) (by omega) (by omega) (by omega)) gX11_wants_X4_wish rfl hdX4_wish (by decide) (Nat.le_of_ble_eq_true rfl) dX11_wants_47 rfl (fun r121 M122 h123 => ?_)
      obtain ⟨a125, rfl, hM122, fM122, h124⟩ := h123
      obtain rfl : a125 = (wtO (mdX M115 gp 0) a1 a2 (bsF (M0.1 12 3).toInt (8 : Int).toNat) (andI (shrI (M0.1 12 3).toInt a2) 1)) := by omega
      have u126s := wsF_s (rwX M0 gp 12) a1 a2
      have u126B : ((rwX M0 gp 12) 1).toInt = (M0.1 gp 0).toInt := rfl
      have u126K : ((rwX M0 gp 12) 26).toInt = (M0.1 12 0).toInt := rfl
      have u126w := tn_w (M := M115) (p := gp) (f := (rwX M0 gp 12)) (b := a1) (k := a2) (s := (M0.1 12 3).toInt) (by omega) (by omega) (by omega) rfl
      have u126A7 := hM115.rd (i := gp) (c := 6) (k := 7) cgp (show s_b 6 7 = (0, 900) from rfl)
      have u126A9 := hM115.rd (i := gp) (c := 6) (k := 9) cgp (show s_b 6 9 = (0, 900) from rfl)
      have u126A := apx_o (M := M115) (N := M122) (p := gp) (ple_f (p := gp) ((FX.rf.tr fM122 (by decide)) : FX [85, 86] M115 M122) cgp (by decide)) (((FX.rf.tr fM122 (by decide)) : FX [85, 86] M115 M122).cell (by decide)) (((FX.rf.tr fM122 (by decide)) : FX [85, 86] M115 M122).cell (by decide)) (((FX.rf.tr fM122 (by decide)) : FX [85, 86] M115 M122).cell (by decide)) u126A7.1 u126A9.1 (by omega)
      exact hret _ _ _ _ dX11_wants_50 ⟨(wtO (mdX M115 gp 0) a1 a2 (bsF (M0.1 12 3).toInt (8 : Int).toNat) (andI (shrI (M0.1 12 3).toInt a2) 1)), rfl, hM122, ((FX.rf.tr fM115 (by decide)).tr fM122 (by decide)), by omega⟩
    · refine y_ldc C (-99000002) dX11_wants_16 kX11_wants_188 rfl ?_
      have u127s := wsF_s (rwX M0 gp 12) a1 a2
      have u127B : ((rwX M0 gp 12) 1).toInt = (M0.1 gp 0).toInt := rfl
      have u127K : ((rwX M0 gp 12) 26).toInt = (M0.1 12 0).toInt := rfl
      exact hret _ _ _ _ dX11_wants_18 ⟨(-99000002), rfl, hM0, FX.rf, by omega⟩
