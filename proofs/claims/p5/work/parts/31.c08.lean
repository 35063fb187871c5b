set_option maxHeartbeats 4000000 in
theorem s1_X11_fault {l : Launch} {dC : Nat → ClassId} {dI : Nat → Nat → Nat} {ad : Nat → Nat} {cA : Nat → ClassId} {pr : Nat → Nat → Bool} {Kz : mm_M} {M0 : mm_M} (hM0 : INV pr Kz M0) (a1 : Int) (ha1 : -2147483648 ≤ a1 ∧ a1 ≤ 2147483647) : Ci l 0 yX11_fault wsX11_fault dC dI ad cA [.ref (ad 0), .int (sI a1)] M0 (fun r M' => ∃ a : Int, r = sI a ∧ M0 = M' ∧ (-2147483648) ≤ a ∧ a ≤ 2147483647 ∧ (a1 = 0 ∧ a = (M0.1 0 2).toInt ∨ a1 = 1 ∧ a = (M0.1 0 3).toInt ∨ ¬ a1 = 0 ∧ ¬ a1 = 1 ∧ a = -1)) := by
  refine ci_of (cc := cX11_fault) (maxL := 2) (ty := .int) (lv := [(0, .ref (ad 0)), (1, .int (sI a1))]) (by decide) rfl (fun r M' hp => rfl) (Nat.le_of_ble_eq_true rfl) rfl ?_
  intro p e s m args below meth c A Q C hret
  refine j_iload_n C 1 1 dX11_fault_0 rfl rfl ?_
  refine y_if_ne C 9 dX11_fault_1 (by decide) (by omega) (fun h101 => ?_) (fun h101 => ?_)
  · refine j_iload_n C 1 1 dX11_fault_9 rfl rfl ?_
    refine y_iconst C dX11_fault_10 ?_
    refine y_icmp_ne C 21 dX11_fault_11 (by decide) (by omega) (fun h102 => ?_) (fun h102 => ?_)
    · refine y_iconst C dX11_fault_21 ?_
      exact hret _ _ _ _ dX11_fault_22 ⟨(-1), rfl, rfl, by omega⟩
    · refine j_aload_n C 0 0 dX11_fault_14 rfl rfl ?_
      refine y_getI C 10 _ _ fX11_fault_20 rfl rfl ft_10_3 sb_10_3 hM0 dX11_fault_15 (fun a103 ea103 la103 ua103 => ?_)
      refine j_goto C 22 dX11_fault_18 (by decide) ?_
      exact hret _ _ _ _ dX11_fault_22 ⟨a103, rfl, rfl, by omega⟩
  · refine j_aload_n C 0 0 dX11_fault_4 rfl rfl ?_
    refine y_getI C 10 _ _ fX11_fault_17 rfl rfl ft_10_2 sb_10_2 hM0 dX11_fault_5 (fun a105 ea105 la105 ua105 => ?_)
    exact hret _ _ _ _ dX11_fault_8 ⟨a105, rfl, rfl, by omega⟩
set_option maxHeartbeats 4000000 in
theorem s1_X11_isKind {l : Launch} {dC : Nat → ClassId} {dI : Nat → Nat → Nat} {ad : Nat → Nat} {cA : Nat → ClassId} {pr : Nat → Nat → Bool} {Kz : mm_M} {M0 : mm_M} (hM0 : INV pr Kz M0) (a1 : Int) (ha1 : -2147483648 ≤ a1 ∧ a1 ≤ 2147483647) : Ci l 0 yX11_isKind wsX11_isKind dC dI ad cA [.ref (ad 0), .int (sI a1)] M0 (fun r M' => ∃ a : Int, r = sI a ∧ M0 = M' ∧ 0 ≤ a ∧ a ≤ 1 ∧ ((a1 < 0 ∧ a = 0) ∨ (0 ≤ (M0.1 12 0).toInt ∧ (M0.1 12 0).toInt ≤ 8 ∧ 0 ≤ a1 ∧ (M0.1 12 0).toInt ≤ a1 ∧ a = 0) ∨ (1 ≤ (M0.1 12 0).toInt ∧ (M0.1 12 0).toInt ≤ 8 ∧ 0 ≤ a1 ∧ a1 < (M0.1 12 0).toInt ∧ a = 1))) := by
  refine ci_of (cc := cX11_isKind) (maxL := 2) (ty := .boolean) (lv := [(0, .ref (ad 0)), (1, .int (sI a1))]) (by decide) rfl (fun r M' hp => by obtain ⟨a, rfl, -, h⟩ := hp; rcases (show a = 0 ∨ a = 1 by omega) with rfl | rfl <;> rfl) (Nat.le_of_ble_eq_true rfl) rfl ?_
  intro p e s m args below meth c A Q C hret
  refine j_iload_n C 1 1 dX11_isKind_0 rfl rfl ?_
  refine y_if_lt C 19 dX11_isKind_1 (by decide) (by omega) (fun h101 => ?_) (fun h101 => ?_)
  · refine y_iconst C dX11_isKind_19 ?_
    exact hret _ _ _ _ dX11_isKind_20 ⟨0, rfl, rfl, by omega⟩
  · refine j_iload_n C 1 1 dX11_isKind_4 rfl rfl ?_
    refine j_aload_n C 0 0 dX11_isKind_5 rfl rfl ?_
    refine y_getC C 10 12 fX11_isKind_36 rfl rfl ft_10_6 sm_10_6 rfl hM0 dX11_isKind_6 ?_
    refine y_getI C 8 _ _ fX11_isKind_160 rfl rfl ft_8_0 sb_8_0 hM0 dX11_isKind_9 (fun a102 ea102 la102 ua102 => ?_)
    refine y_icmp_ge C 19 dX11_isKind_12 (by decide) (by omega) (fun h104 => ?_) (fun h104 => ?_)
    · refine y_iconst C dX11_isKind_19 ?_
      exact hret _ _ _ _ dX11_isKind_20 ⟨0, rfl, rfl, by omega⟩
    · refine y_iconst C dX11_isKind_15 ?_
      refine j_goto C 20 dX11_isKind_16 (by decide) ?_
      exact hret _ _ _ _ dX11_isKind_20 ⟨1, rfl, rfl, by omega⟩
set_option maxHeartbeats 4000000 in
theorem s1_X4_tune {l : Launch} {dC : Nat → ClassId} {dI : Nat → Nat → Nat} {ad : Nat → Nat} {cA : Nat → ClassId} {pr : Nat → Nat → Bool} {Kz : mm_M} {M0 : mm_M} (hM0 : INV pr Kz M0) (hpr : PX pr) {v1 : Nat} (cv1 : s_c v1 = 6) {v2 : Nat} (cv2 : s_c v2 = 8) : Cv l 0 yX4_tune wsX4_tune dC dI ad cA [.ref (ad 81), .ref (ad v1), .ref (ad v2)] M0 (fun M' => INV pr Kz M') := by
  refine cv_of (cc := cX4_tune) (maxL := 5) (lv := [(0, .ref (ad 81)), (1, .ref (ad v1)), (2, .ref (ad v2))]) (by decide) rfl (Nat.le_of_ble_eq_true rfl) rfl ?_
  intro p e s m args below meth c A Q C hret
  refine j_aload_n C 0 0 dX4_tune_0 rfl rfl ?_
  refine j_aload_n C 1 1 dX4_tune_1 rfl rfl ?_
  refine y_putP C 3 6 qX4_tune_33 rfl rfl rfl rfl ft_3_5 sm_3_5 (by decide) hM0 (PX.w hpr rfl rfl) cv1 dX4_tune_2 (fun M101 eM101 hM101 => ?_)
  refine j_aload_n C 0 0 dX4_tune_5 rfl rfl ?_
  refine j_aload_n C 2 2 dX4_tune_6 rfl rfl ?_
  refine y_getI C 8 _ _ fX4_tune_43 cv2 rfl ft_8_0 sb_8_0 hM101 dX4_tune_7 (fun a102 ea102 la102 ua102 => ?_)
  refine y_putI C 3 _ _ qX4_tune_29 rfl rfl ft_3_6 sb_3_6 hM101 (PX.w hpr rfl rfl) dX4_tune_10 (by omega) (fun M104 eM104 hM104 => ?_)
  refine y_iconst C dX4_tune_13 ?_
  refine j_istore_n C 3 [(3, .int (sI 0)), (0, .ref (ad 81)), (1, .ref (ad v1)), (2, .ref (ad v2))] dX4_tune_14 rfl (by decide) rfl ?_
  have L1104 : ∀ (n1102 : Nat), ∀ (a1105 : Int) (M1106 : mm_M), (0 ≤ a1105 ∧ a1105 ≤ 8 ∧ (8 - a1105) < (n1102 : Int)) → INV pr Kz M1106 → jj p l e (cn_R 0) s m args below meth c 0 0 Q 5 dC dI ad cA A M1106 15 [(0, .ref (ad 81)), (2, .ref (ad v2)), (3, .int (sI a1105))] [] := by
    intro n1102
    induction n1102 with
    | zero =>
      intro a1105 M1106 h1107 hM1106
      exfalso; omega
    | succ n1102 ih1103 =>
      intro a1105 M1106 h1107 hM1106
      refine j_iload_n C 2 3 dX4_tune_15 rfl rfl ?_
      refine j_aload_n C 0 0 dX4_tune_16 rfl rfl ?_
      refine y_getI C 3 _ _ fX4_tune_29 rfl rfl ft_3_6 sb_3_6 hM1106 dX4_tune_17 (fun a1108 ea1108 la1108 ua1108 => ?_)
      refine y_icmp_ge C 124 dX4_tune_20 (by decide) (by omega) (fun h1110 => ?_) (fun h1110 => ?_)
      · exact hret _ _ _ dX4_tune_124 hM1106
      · refine j_aload_n C 0 0 dX4_tune_23 rfl rfl ?_
        refine y_getC C 3 83 fX4_tune_15 rfl rfl ft_3_1 sm_3_1 rfl hM1106 dX4_tune_24 ?_
        refine j_iload_n C 2 3 dX4_tune_27 rfl rfl ?_
        refine y_iald C 34 8 _ _ rfl rfl rfl ak_34 an_34 rfl (sb_34 _) hM1106 dX4_tune_28 (by omega) (fun a1111 ea1111 la1111 ua1111 => ?_)
        refine j_aload_n C 1 2 dX4_tune_29 rfl rfl ?_
        refine y_getT C 8 25 fX4_tune_46 cv2 rfl ft_8_1 rfl sm_8_1 st_8_1 (by decide) hM1106 dX4_tune_30 (fun v1112 cv1112 => ?_)
        refine j_iload_n C 2 3 dX4_tune_33 rfl rfl ?_
        refine y_iald C 25 8 _ _ cv1112 rfl rfl ak_25 an_25 rfl (sb_25 _) hM1106 dX4_tune_34 (by omega) (fun a1113 ea1113 la1113 ua1113 => ?_)
        refine y_icmp_ne C 53 dX4_tune_35 (by decide) (by omega) (fun h1114 => ?_) (fun h1114 => ?_)
        · refine j_aload_n C 0 0 dX4_tune_53 rfl rfl ?_
          refine y_getC C 3 83 fX4_tune_15 rfl rfl ft_3_1 sm_3_1 rfl hM1106 dX4_tune_54 ?_
          refine j_iload_n C 2 3 dX4_tune_57 rfl rfl ?_
          refine j_aload_n C 1 2 dX4_tune_58 rfl rfl ?_
          refine y_getT C 8 25 fX4_tune_46 cv2 rfl ft_8_1 rfl sm_8_1 st_8_1 (by decide) hM1106 dX4_tune_59 (fun v1115 cv1115 => ?_)
          refine j_iload_n C 2 3 dX4_tune_62 rfl rfl ?_
          refine y_iald C 25 8 _ _ cv1115 rfl rfl ak_25 an_25 rfl (sb_25 _) hM1106 dX4_tune_63 (by omega) (fun a1116 ea1116 la1116 ua1116 => ?_)
          refine y_iastF C 34 8 rfl rfl rfl ak_34 an_34 rfl (sb_34 _) hM1106 (PX.w hpr rfl rfl) dX4_tune_64 (by omega) (fun M1117 eM1117 hM1117 => ?_)
          refine j_aload_n C 0 0 dX4_tune_65 rfl rfl ?_
          refine y_getC C 3 84 fX4_tune_18 rfl rfl ft_3_2 sm_3_2 rfl hM1117 dX4_tune_66 ?_
          refine j_iload_n C 2 3 dX4_tune_69 rfl rfl ?_
          refine j_aload_n C 1 2 dX4_tune_70 rfl rfl ?_
          refine y_getT C 8 26 fX4_tune_47 cv2 rfl ft_8_2 rfl sm_8_2 st_8_2 (by decide) hM1117 dX4_tune_71 (fun v1118 cv1118 => ?_)
          refine j_iload_n C 2 3 dX4_tune_74 rfl rfl ?_
          refine y_iald C 26 8 _ _ cv1118 rfl rfl ak_26 an_26 rfl (sb_26 _) hM1117 dX4_tune_75 (by omega) (fun a1119 ea1119 la1119 ua1119 => ?_)
          refine y_iastF C 35 8 rfl rfl rfl ak_35 an_35 rfl (sb_35 _) hM1117 (PX.w hpr rfl rfl) dX4_tune_76 (by omega) (fun M1120 eM1120 hM1120 => ?_)
          refine j_iload_n C 2 3 dX4_tune_77 rfl rfl ?_
          refine y_bipush C dX4_tune_78 rfl ?_
          refine y_imul C dX4_tune_80 ?_
          refine j_istore C 4 [(4, .int (sI (a1105 * 108))), (0, .ref (ad 81)), (2, .ref (ad v2)), (3, .int (sI a1105))] dX4_tune_81 (by decide) rfl ?_
          have L1143 : ∀ (n1141 : Nat), ∀ (a1144 : Int) (M1145 : mm_M), (0 ≤ a1144 ∧ a1144 ≤ 899 ∧ (899 - a1144) < (n1141 : Int)) → INV pr Kz M1145 → jj p l e (cn_R 0) s m args below meth c 0 0 Q 5 dC dI ad cA A M1145 83 [(0, .ref (ad 81)), (2, .ref (ad v2)), (3, .int (sI a1105)), (4, .int (sI a1144))] [] := by
            intro n1141
            induction n1141 with
            | zero =>
              intro a1144 M1145 h1146 hM1145
              exfalso; omega
            | succ n1141 ih1142 =>
              intro a1144 M1145 h1146 hM1145
              refine j_iload C 3 dX4_tune_83 rfl ?_
              refine j_iload_n C 2 3 dX4_tune_85 rfl rfl ?_
              refine y_iconst C dX4_tune_86 ?_
              refine y_iadd C dX4_tune_87 ?_
              refine y_bipush C dX4_tune_88 rfl ?_
              refine y_imul C dX4_tune_90 ?_
              refine y_icmp_ge C 118 dX4_tune_91 (by decide) (by omega) (fun h1147 => ?_) (fun h1147 => ?_)
              · refine y_iinc C 2 [(3, .int (sI (a1105 + 1))), (0, .ref (ad 81)), (2, .ref (ad v2)), (4, .int (sI a1144))] dX4_tune_118 rfl (by decide) rfl ?_
                refine j_goto C 15 dX4_tune_121 (by decide) ?_
                refine j_lv [1, 2, 0] rfl ?_; exact ih1103 (a1105 + 1) M1145 (by omega) hM1145
              · refine j_iload C 3 dX4_tune_94 rfl ?_
                refine j_aload_n C 0 0 dX4_tune_96 rfl rfl ?_
                refine y_getC C 3 82 fX4_tune_11 rfl rfl ft_3_0 sm_3_0 rfl hM1145 dX4_tune_97 ?_
                refine y_alen C 33 864 rfl rfl rfl an_33 rfl rfl dX4_tune_100 ?_
                refine y_icmp_ge C 118 dX4_tune_101 (by decide) (by omega) (fun h1148 => ?_) (fun h1148 => ?_)
                · exfalso; omega
                · refine j_aload_n C 0 0 dX4_tune_104 rfl rfl ?_
                  refine y_getC C 3 82 fX4_tune_11 rfl rfl ft_3_0 sm_3_0 rfl hM1145 dX4_tune_105 ?_
                  refine j_iload C 3 dX4_tune_108 rfl ?_
                  refine y_iconst C dX4_tune_110 ?_
                  refine y_iastF C 33 864 rfl rfl rfl ak_33 an_33 rfl (sb_33 _) hM1145 (PX.w hpr rfl rfl) dX4_tune_111 (by omega) (fun M1149 eM1149 hM1149 => ?_)
                  refine y_iinc C 3 [(4, .int (sI (a1144 + 1))), (0, .ref (ad 81)), (2, .ref (ad v2)), (3, .int (sI a1105))] dX4_tune_112 rfl (by decide) rfl ?_
                  refine j_goto C 83 dX4_tune_115 (by decide) ?_
                  refine j_lv [1, 2, 3, 0] rfl ?_; exact ih1142 (a1144 + 1) M1149 (by omega) hM1149
          refine j_lv [1, 2, 3, 0] rfl ?_; exact L1143 2010 (a1105 * 108) M1120 (by omega) hM1120
        · refine j_aload_n C 0 0 dX4_tune_38 rfl rfl ?_
          refine y_getC C 3 84 fX4_tune_18 rfl rfl ft_3_2 sm_3_2 rfl hM1106 dX4_tune_39 ?_
          refine j_iload_n C 2 3 dX4_tune_42 rfl rfl ?_
          refine y_iald C 35 8 _ _ rfl rfl rfl ak_35 an_35 rfl (sb_35 _) hM1106 dX4_tune_43 (by omega) (fun a1150 ea1150 la1150 ua1150 => ?_)
          refine j_aload_n C 1 2 dX4_tune_44 rfl rfl ?_
          refine y_getT C 8 26 fX4_tune_47 cv2 rfl ft_8_2 rfl sm_8_2 st_8_2 (by decide) hM1106 dX4_tune_45 (fun v1151 cv1151 => ?_)
          refine j_iload_n C 2 3 dX4_tune_48 rfl rfl ?_
          refine y_iald C 26 8 _ _ cv1151 rfl rfl ak_26 an_26 rfl (sb_26 _) hM1106 dX4_tune_49 (by omega) (fun a1152 ea1152 la1152 ua1152 => ?_)
          refine y_icmp_eq C 118 dX4_tune_50 (by decide) (by omega) (fun h1153 => ?_) (fun h1153 => ?_)
          · refine y_iinc C 2 [(3, .int (sI (a1105 + 1))), (0, .ref (ad 81)), (2, .ref (ad v2))] dX4_tune_118 rfl (by decide) rfl ?_
            refine j_goto C 15 dX4_tune_121 (by decide) ?_
            refine j_lv [1, 2, 0] rfl ?_; exact ih1103 (a1105 + 1) M1106 (by omega) hM1106
          · refine j_aload_n C 0 0 dX4_tune_53 rfl rfl ?_
            refine y_getC C 3 83 fX4_tune_15 rfl rfl ft_3_1 sm_3_1 rfl hM1106 dX4_tune_54 ?_
            refine j_iload_n C 2 3 dX4_tune_57 rfl rfl ?_
            refine j_aload_n C 1 2 dX4_tune_58 rfl rfl ?_
            refine y_getT C 8 25 fX4_tune_46 cv2 rfl ft_8_1 rfl sm_8_1 st_8_1 (by decide) hM1106 dX4_tune_59 (fun v1154 cv1154 => ?_)
            refine j_iload_n C 2 3 dX4_tune_62 rfl rfl ?_
            refine y_iald C 25 8 _ _ cv1154 rfl rfl ak_25 an_25 rfl (sb_25 _) hM1106 dX4_tune_63 (by omega) (fun a1155 ea1155 la1155 ua1155 => ?_)
            refine y_iastF C 34 8 rfl rfl rfl ak_34 an_34 rfl (sb_34 _) hM1106 (PX.w hpr rfl rfl) dX4_tune_64 (by omega) (fun M1156 eM1156 hM1156 => ?_)
            refine j_aload_n C 0 0 dX4_tune_65 rfl rfl ?_
            refine y_getC C 3 84 fX4_tune_18 rfl rfl ft_3_2 sm_3_2 rfl hM1156 dX4_tune_66 ?_
            refine j_iload_n C 2 3 dX4_tune_69 rfl rfl ?_
            refine j_aload_n C 1 2 dX4_tune_70 rfl rfl ?_
            refine y_getT C 8 26 fX4_tune_47 cv2 rfl ft_8_2 rfl sm_8_2 st_8_2 (by decide) hM1156 dX4_tune_71 (fun v1157 cv1157 => ?_)
            refine j_iload_n C 2 3 dX4_tune_74 rfl rfl ?_
            refine y_iald C 26 8 _ _ cv1157 rfl rfl ak_26 an_26 rfl (sb_26 _) hM1156 dX4_tune_75 (by omega) (fun a1158 ea1158 la1158 ua1158 => ?_)
            refine y_iastF C 35 8 rfl rfl rfl ak_35 an_35 rfl (sb_35 _) hM1156 (PX.w hpr rfl rfl) dX4_tune_76 (by omega) (fun M1159 eM1159 hM1159 => ?_)
            refine j_iload_n C 2 3 dX4_tune_77 rfl rfl ?_
            refine y_bipush C dX4_tune_78 rfl ?_
            refine y_imul C dX4_tune_80 ?_
            refine j_istore C 4 [(4, .int (sI (a1105 * 108))), (0, .ref (ad 81)), (2, .ref (ad v2)), (3, .int (sI a1105))] dX4_tune_81 (by decide) rfl ?_
            have L1182 : ∀ (n1180 : Nat), ∀ (a1183 : Int) (M1184 : mm_M), (0 ≤ a1183 ∧ a1183 ≤ 899 ∧ (899 - a1183) < (n1180 : Int)) → INV pr Kz M1184 → jj p l e (cn_R 0) s m args below meth c 0 0 Q 5 dC dI ad cA A M1184 83 [(0, .ref (ad 81)), (2, .ref (ad v2)), (3, .int (sI a1105)), (4, .int (sI a1183))] [] := by
              intro n1180
              induction n1180 with
              | zero =>
                intro a1183 M1184 h1185 hM1184
                exfalso; omega
              | succ n1180 ih1181 =>
                intro a1183 M1184 h1185 hM1184
                refine j_iload C 3 dX4_tune_83 rfl ?_
                refine j_iload_n C 2 3 dX4_tune_85 rfl rfl ?_
                refine y_iconst C dX4_tune_86 ?_
                refine y_iadd C dX4_tune_87 ?_
                refine y_bipush C dX4_tune_88 rfl ?_
                refine y_imul C dX4_tune_90 ?_
                refine y_icmp_ge C 118 dX4_tune_91 (by decide) (by omega) (fun h1186 => ?_) (fun h1186 => ?_)
                · refine y_iinc C 2 [(3, .int (sI (a1105 + 1))), (0, .ref (ad 81)), (2, .ref (ad v2)), (4, .int (sI a1183))] dX4_tune_118 rfl (by decide) rfl ?_
                  refine j_goto C 15 dX4_tune_121 (by decide) ?_
                  refine j_lv [1, 2, 0] rfl ?_; exact ih1103 (a1105 + 1) M1184 (by omega) hM1184
                · refine j_iload C 3 dX4_tune_94 rfl ?_
                  refine j_aload_n C 0 0 dX4_tune_96 rfl rfl ?_
                  refine y_getC C 3 82 fX4_tune_11 rfl rfl ft_3_0 sm_3_0 rfl hM1184 dX4_tune_97 ?_
                  refine y_alen C 33 864 rfl rfl rfl an_33 rfl rfl dX4_tune_100 ?_
                  refine y_icmp_ge C 118 dX4_tune_101 (by decide) (by omega) (fun h1187 => ?_) (fun h1187 => ?_)
                  · exfalso; omega
                  · refine j_aload_n C 0 0 dX4_tune_104 rfl rfl ?_
                    refine y_getC C 3 82 fX4_tune_11 rfl rfl ft_3_0 sm_3_0 rfl hM1184 dX4_tune_105 ?_
                    refine j_iload C 3 dX4_tune_108 rfl ?_
                    refine y_iconst C dX4_tune_110 ?_
                    refine y_iastF C 33 864 rfl rfl rfl ak_33 an_33 rfl (sb_33 _) hM1184 (PX.w hpr rfl rfl) dX4_tune_111 (by omega) (fun M1188 eM1188 hM1188 => ?_)
                    refine y_iinc C 3 [(4, .int (sI (a1183 + 1))), (0, .ref (ad 81)), (2, .ref (ad v2)), (3, .int (sI a1105))] dX4_tune_112 rfl (by decide) rfl ?_
                    refine j_goto C 83 dX4_tune_115 (by decide) ?_
                    refine j_lv [1, 2, 3, 0] rfl ?_; exact ih1181 (a1183 + 1) M1188 (by omega) hM1188
            refine j_lv [1, 2, 3, 0] rfl ?_; exact L1182 2010 (a1105 * 108) M1159 (by omega) hM1159
  refine j_lv [1, 3, 0] rfl ?_; exact L1104 2010 0 M104 (by omega) hM104
set_option maxHeartbeats 4000000 in
theorem s1_J6_bitCount_0f7a4 {l : Launch} {dC : Nat → ClassId} {dI : Nat → Nat → Nat} {ad : Nat → Nat} {cA : Nat → ClassId} {pr : Nat → Nat → Bool} {Kz : mm_M} {M0 : mm_M} (hM0 : INV pr Kz M0) (a0 : Int) (ha0 : -2147483648 ≤ a0 ∧ a0 ≤ 2147483647) : Ci l 0 yJ6_bitCount_0f7a4 wsJ6_bitCount_0f7a4 dC dI ad cA [.int (sI a0)] M0 (fun r M' => ∃ a : Int, r = sI a ∧ M0 = M' ∧ 0 ≤ a ∧ a ≤ 63 ∧ ((0 ≤ a ∧ a ≤ 63))) := by
  refine ci_of (cc := cJ6_bitCount_0f7a4) (maxL := 1) (ty := .int) (lv := [(0, .int (sI a0))]) (by decide) rfl (fun r M' hp => rfl) (Nat.le_of_ble_eq_true rfl) rfl ?_
  intro p e s m args below meth c A Q C hret
  refine j_iload_n C 0 0 dJ6_bitCount_0f7a4_0 rfl rfl ?_
  refine j_iload_n C 0 0 dJ6_bitCount_0f7a4_1 rfl rfl ?_
  refine y_iconst C dJ6_bitCount_0f7a4_2 ?_
  refine y_iushr0 C dJ6_bitCount_0f7a4_3 (fun a101 la101 ua101 => ?_)
  refine y_ldcw C 1431655765 dJ6_bitCount_0f7a4_4 kJ6_bitCount_0f7a4_265 rfl ?_
  refine y_iandR C dJ6_bitCount_0f7a4_7 (by omega) (fun a102 la102 ua102 => ?_)
  refine y_isub0 C dJ6_bitCount_0f7a4_8 (fun a103 la103 ua103 => ?_)
  refine j_istore_n C 0 [(0, .int (sI a103))] dJ6_bitCount_0f7a4_9 rfl (by decide) rfl ?_
  refine j_iload_n C 0 0 dJ6_bitCount_0f7a4_10 rfl rfl ?_
  refine y_ldcw C 858993459 dJ6_bitCount_0f7a4_11 kJ6_bitCount_0f7a4_266 rfl ?_
  refine y_iandR C dJ6_bitCount_0f7a4_14 (by omega) (fun a104 la104 ua104 => ?_)
  refine j_iload_n C 0 0 dJ6_bitCount_0f7a4_15 rfl rfl ?_
  refine y_iconst C dJ6_bitCount_0f7a4_16 ?_
  refine y_iushr0 C dJ6_bitCount_0f7a4_17 (fun a105 la105 ua105 => ?_)
  refine y_ldcw C 858993459 dJ6_bitCount_0f7a4_18 kJ6_bitCount_0f7a4_266 rfl ?_
  refine y_iandR C dJ6_bitCount_0f7a4_21 (by omega) (fun a106 la106 ua106 => ?_)
  refine y_iadd C dJ6_bitCount_0f7a4_22 ?_
  refine j_istore_n C 0 [(0, .int (sI (a104 + a106)))] dJ6_bitCount_0f7a4_23 rfl (by decide) rfl ?_
  refine j_iload_n C 0 0 dJ6_bitCount_0f7a4_24 rfl rfl ?_
  refine j_iload_n C 0 0 dJ6_bitCount_0f7a4_25 rfl rfl ?_
  refine y_iconst C dJ6_bitCount_0f7a4_26 ?_
  refine y_iushr0 C dJ6_bitCount_0f7a4_27 (fun a107 la107 ua107 => ?_)
  refine y_iadd0 C dJ6_bitCount_0f7a4_28 (fun a108 la108 ua108 => ?_)
  refine y_ldcw C 252645135 dJ6_bitCount_0f7a4_29 kJ6_bitCount_0f7a4_267 rfl ?_
  refine y_iandR C dJ6_bitCount_0f7a4_32 (by omega) (fun a109 la109 ua109 => ?_)
  refine j_istore_n C 0 [(0, .int (sI a109))] dJ6_bitCount_0f7a4_33 rfl (by decide) rfl ?_
  refine j_iload_n C 0 0 dJ6_bitCount_0f7a4_34 rfl rfl ?_
  refine j_iload_n C 0 0 dJ6_bitCount_0f7a4_35 rfl rfl ?_
  refine y_bipush C dJ6_bitCount_0f7a4_36 rfl ?_
  refine y_iushr0 C dJ6_bitCount_0f7a4_38 (fun a110 la110 ua110 => ?_)
  refine y_iadd0 C dJ6_bitCount_0f7a4_39 (fun a111 la111 ua111 => ?_)
  refine j_istore_n C 0 [(0, .int (sI a111))] dJ6_bitCount_0f7a4_40 rfl (by decide) rfl ?_
  refine j_iload_n C 0 0 dJ6_bitCount_0f7a4_41 rfl rfl ?_
  refine j_iload_n C 0 0 dJ6_bitCount_0f7a4_42 rfl rfl ?_
  refine y_bipush C dJ6_bitCount_0f7a4_43 rfl ?_
  refine y_iushr16 C dJ6_bitCount_0f7a4_45 (fun a112 la112 ua112 => ?_)
  refine y_iadd0 C dJ6_bitCount_0f7a4_46 (fun a113 la113 ua113 => ?_)
  refine j_istore_n C 0 [(0, .int (sI a113))] dJ6_bitCount_0f7a4_47 rfl (by decide) rfl ?_
  refine j_iload_n C 0 0 dJ6_bitCount_0f7a4_48 rfl rfl ?_
  refine y_bipush C dJ6_bitCount_0f7a4_49 rfl ?_
  refine y_iandR C dJ6_bitCount_0f7a4_51 (by omega) (fun a114 la114 ua114 => ?_)
  exact hret _ _ _ _ dJ6_bitCount_0f7a4_52 ⟨a114, rfl, rfl, by omega⟩
set_option maxHeartbeats 4000000 in
theorem s1_X4_learn {l : Launch} {dC : Nat → ClassId} {dI : Nat → Nat → Nat} {ad : Nat → Nat} {cA : Nat → ClassId} {pr : Nat → Nat → Bool} {Kz : mm_M} {M0 : mm_M} (hM0 : INV pr Kz M0) (hpr : PX pr) (a1 : Int) (ha1 : -2147483648 ≤ a1 ∧ a1 ≤ 2147483647) (a2 : Int) (ha2 : -2147483648 ≤ a2 ∧ a2 ≤ 2147483647) (a3 : Int) (ha3 : -2147483648 ≤ a3 ∧ a3 ≤ 2147483647) (hp0 : 0 ≤ a1 ∧ a1 ≤ 5) (hp1 : 0 ≤ a2 ∧ a2 ≤ 7) : Cv l 1 yX4_learn wsX4_learn dC dI ad cA [.ref (ad 81), .int (sI a1), .int (sI a2), .int (sI a3)] M0 (fun M' => INV pr Kz M') := by
  refine cv_of (cc := cX4_learn) (maxL := 4) (lv := [(0, .ref (ad 81)), (1, .int (sI a1)), (2, .int (sI a2)), (3, .int (sI a3))]) (by decide) rfl (Nat.le_of_ble_eq_true rfl) rfl ?_
  intro p e s m args below meth c A Q C hret
  refine j_aload_n C 0 0 dX4_learn_0 rfl rfl ?_
  refine y_getC C 3 85 fX4_learn_23 rfl rfl ft_3_3 sm_3_3 rfl hM0 dX4_learn_1 ?_
  refine y_iconst C dX4_learn_4 ?_
  refine j_iload_n C 1 1 dX4_learn_5 rfl rfl ?_
  refine y_iastF C 36 8 rfl rfl rfl ak_36 an_36 rfl (sb_36 _) hM0 (PX.w hpr rfl rfl) dX4_learn_6 (by omega) (fun M101 eM101 hM101 => ?_)
  refine j_aload_n C 0 0 dX4_learn_7 rfl rfl ?_
  refine y_getC C 3 85 fX4_learn_23 rfl rfl ft_3_3 sm_3_3 rfl hM101 dX4_learn_8 ?_
  refine y_iconst C dX4_learn_11 ?_
  refine j_aload_n C 0 0 dX4_learn_12 rfl rfl ?_
  refine y_getM C 3 6 fX4_learn_33 rfl rfl ft_3_5 sm_3_5 (by decide) hM101 dX4_learn_13 (fun v102 ev102 cv102 => ?_)
  refine y_getT C 6 21 fX4_learn_68 cv102 rfl ft_6_2 rfl sm_6_2 st_6_2 (by decide) hM101 dX4_learn_16 (fun v103 cv103 => ?_)
  refine j_iload_n C 1 1 dX4_learn_19 rfl rfl ?_
  refine y_iald C 21 6 _ _ cv103 rfl rfl ak_21 an_21 rfl (sb_21 _) hM101 dX4_learn_20 (by omega) (fun a104 ea104 la104 ua104 => ?_)
  refine y_iastF C 36 8 rfl rfl rfl ak_36 an_36 rfl (sb_36 _) hM101 (PX.w hpr rfl rfl) dX4_learn_21 (by omega) (fun M105 eM105 hM105 => ?_)
  refine j_aload_n C 0 0 dX4_learn_22 rfl rfl ?_
  refine y_getC C 3 85 fX4_learn_23 rfl rfl ft_3_3 sm_3_3 rfl hM105 dX4_learn_23 ?_
  refine y_iconst C dX4_learn_26 ?_
  refine j_aload_n C 0 0 dX4_learn_27 rfl rfl ?_
  refine y_getV C 3 v102 fX4_learn_33 rfl rfl ft_3_5 (s_pI eM105 (ev102)) dX4_learn_28 ?_
  refine y_getT C 6 22 fX4_learn_92 cv102 rfl ft_6_3 rfl sm_6_3 st_6_3 (by decide) hM105 dX4_learn_31 (fun v106 cv106 => ?_)
  refine j_iload_n C 1 1 dX4_learn_34 rfl rfl ?_
  refine y_iald C 22 6 _ _ cv106 rfl rfl ak_22 an_22 rfl (sb_22 _) hM105 dX4_learn_35 (by omega) (fun a107 ea107 la107 ua107 => ?_)
  refine y_iastF C 36 8 rfl rfl rfl ak_36 an_36 rfl (sb_36 _) hM105 (PX.w hpr rfl rfl) dX4_learn_36 (by omega) (fun M108 eM108 hM108 => ?_)
  refine j_aload_n C 0 0 dX4_learn_37 rfl rfl ?_
  refine y_getC C 3 85 fX4_learn_23 rfl rfl ft_3_3 sm_3_3 rfl hM108 dX4_learn_38 ?_
  refine y_iconst C dX4_learn_41 ?_
  refine j_iload_n C 2 2 dX4_learn_42 rfl rfl ?_
  refine y_iastF C 36 8 rfl rfl rfl ak_36 an_36 rfl (sb_36 _) hM108 (PX.w hpr rfl rfl) dX4_learn_43 (by omega) (fun M109 eM109 hM109 => ?_)
  refine j_aload_n C 0 0 dX4_learn_44 rfl rfl ?_
  refine y_getC C 3 85 fX4_learn_23 rfl rfl ft_3_3 sm_3_3 rfl hM109 dX4_learn_45 ?_
  refine y_iconst C dX4_learn_48 ?_
  refine j_aload_n C 0 0 dX4_learn_49 rfl rfl ?_
  refine y_getC C 3 83 fX4_learn_15 rfl rfl ft_3_1 sm_3_1 rfl hM109 dX4_learn_50 ?_
  refine j_iload_n C 2 2 dX4_learn_53 rfl rfl ?_
  refine y_iald C 34 8 _ _ rfl rfl rfl ak_34 an_34 rfl (sb_34 _) hM109 dX4_learn_54 (by omega) (fun a110 ea110 la110 ua110 => ?_)
  refine y_iastF C 36 8 rfl rfl rfl ak_36 an_36 rfl (sb_36 _) hM109 (PX.w hpr rfl rfl) dX4_learn_55 (by omega) (fun M111 eM111 hM111 => ?_)
  refine j_aload_n C 0 0 dX4_learn_56 rfl rfl ?_
  refine y_getC C 3 85 fX4_learn_23 rfl rfl ft_3_3 sm_3_3 rfl hM111 dX4_learn_57 ?_
  refine y_iconst C dX4_learn_60 ?_
  refine j_aload_n C 0 0 dX4_learn_61 rfl rfl ?_
  refine y_getC C 3 84 fX4_learn_18 rfl rfl ft_3_2 sm_3_2 rfl hM111 dX4_learn_62 ?_
  refine j_iload_n C 2 2 dX4_learn_65 rfl rfl ?_
  refine y_iald C 35 8 _ _ rfl rfl rfl ak_35 an_35 rfl (sb_35 _) hM111 dX4_learn_66 (by omega) (fun a112 ea112 la112 ua112 => ?_)
  refine y_iastF C 36 8 rfl rfl rfl ak_36 an_36 rfl (sb_36 _) hM111 (PX.w hpr rfl rfl) dX4_learn_67 (by omega) (fun M113 eM113 hM113 => ?_)
  refine j_aload_n C 0 0 dX4_learn_68 rfl rfl ?_
  refine y_getC C 3 85 fX4_learn_23 rfl rfl ft_3_3 sm_3_3 rfl hM113 dX4_learn_69 ?_
  refine y_bipush C dX4_learn_72 rfl ?_
  refine j_iload_n C 3 3 dX4_learn_74 rfl rfl ?_
  refine j_callSi C (d := 0) (As := [.int (sI a3)]) (st := [.int (sI 6), .ref (ad 85)]) (s1_J6_bitCount_0f7a4 hM113 a3 (by omega)) gX4_learn_J6_bitCount_0f7a4 rfl hdJ6_bitCount_0f7a4s (by decide) (Nat.le_of_ble_eq_true rfl) dX4_learn_75 rfl (fun r114 M115 h116 => ?_)
  obtain ⟨a118, rfl, rfl, h117⟩ := h116
  refine y_iastF C 36 8 rfl rfl rfl ak_36 an_36 rfl (sb_36 _) hM113 (PX.w hpr rfl rfl) dX4_learn_78 (by omega) (fun M119 eM119 hM119 => ?_)
  refine j_aload_n C 0 0 dX4_learn_79 rfl rfl ?_
  refine y_getC C 3 85 fX4_learn_23 rfl rfl ft_3_3 sm_3_3 rfl hM119 dX4_learn_80 ?_
  refine y_bipush C dX4_learn_83 rfl ?_
  refine j_iload_n C 3 3 dX4_learn_85 rfl rfl ?_
  refine j_iload_n C 2 2 dX4_learn_86 rfl rfl ?_
  refine y_ishr0 C dX4_learn_87 (fun a120 la120 ua120 => ?_)
  refine y_iconst C dX4_learn_88 ?_
  refine y_iandR C dX4_learn_89 (by omega) (fun a121 la121 ua121 => ?_)
  refine y_iastF C 36 8 rfl rfl rfl ak_36 an_36 rfl (sb_36 _) hM119 (PX.w hpr rfl rfl) dX4_learn_90 (by omega) (fun M122 eM122 hM122 => ?_)
  exact hret _ _ _ dX4_learn_91 hM122
set_option maxHeartbeats 4000000 in
theorem s1_X4_joined {l : Launch} {dC : Nat → ClassId} {dI : Nat → Nat → Nat} {ad : Nat → Nat} {cA : Nat → ClassId} {pr : Nat → Nat → Bool} {Kz : mm_M} {M0 : mm_M} (hM0 : INV pr Kz M0) (a0 : Int) (ha0 : -9223372036854775808 ≤ a0 ∧ a0 ≤ 9223372036854775807) (a2 : Int) (ha2 : -2147483648 ≤ a2 ∧ a2 ≤ 2147483647) (a3 : Int) (ha3 : -9223372036854775808 ≤ a3 ∧ a3 ≤ 9223372036854775807) : Ci l 0 yX4_joined wsX4_joined dC dI ad cA [.long (sJ a0), .int (sI a2), .long (sJ a3)] M0 (fun r M' => ∃ a : Int, r = sI a ∧ M0 = M' ∧ (-2147483648) ≤ a ∧ a ≤ 2147483647) := by
  refine ci_of (cc := cX4_joined) (maxL := 7) (ty := .int) (lv := [(0, .long (sJ a0)), (2, .int (sI a2)), (3, .long (sJ a3))]) (by decide) rfl (fun r M' hp => rfl) (Nat.le_of_ble_eq_true rfl) rfl ?_
  intro p e s m args below meth c A Q C hret
  refine j_iload_n C 1 2 dX4_joined_0 rfl rfl ?_
  rcases (show a2 = 1015 ∨ a2 = 2042 ∨ a2 = 2043 ∨ a2 = 2045 ∨ a2 = 2060 ∨ a2 = 2061 ∨ a2 = 2062 ∨ (¬ a2 = 1015 ∧ ¬ a2 = 2042 ∧ ¬ a2 = 2043 ∧ ¬ a2 = 2045 ∧ ¬ a2 = 2060 ∧ ¬ a2 = 2061 ∧ ¬ a2 = 2062) by omega) with h101 | h101 | h101 | h101 | h101 | h101 | h101 | h101
  · refine y_lk C (off := 127) 128 dX4_joined_1 (by decide) (by decide) (by omega) (by rw [h101]; rfl) ?_
    refine j_lload_n C 0 0 dX4_joined_128 rfl rfl ?_
    refine j_lload_n C 2 3 dX4_joined_129 rfl rfl ?_
    refine y_land0 C dX4_joined_130 (fun a102 la102 ua102 => ?_)
    refine y_l2i C dX4_joined_131 ?_
    refine y_topI (fun a103 la103 ua103 => ?_)
    exact hret _ _ _ _ dX4_joined_132 ⟨a103, rfl, rfl, by omega⟩
  · refine y_lk C (off := 83) 84 dX4_joined_1 (by decide) (by decide) (by omega) (by rw [h101]; rfl) ?_
    refine j_lload_n C 0 0 dX4_joined_84 rfl rfl ?_
    refine j_lload_n C 2 3 dX4_joined_85 rfl rfl ?_
    refine y_lmul0 C dX4_joined_86 (fun a104 la104 ua104 => ?_)
    refine j_lstore C 5 [(5, .long (sJ a104)), (0, .long (sJ a0)), (2, .int (sI a2)), (3, .long (sJ a3))] dX4_joined_87 (by decide) rfl ?_
    refine j_goto C 138 dX4_joined_89 (by decide) ?_
    refine j_lload C 0 dX4_joined_138 rfl ?_
    refine y_ldc2 C 1000000 dX4_joined_140 kX4_joined_102 rfl ?_
    refine y_lcmp_le C 150 dX4_joined_143 dX4_joined_144 (by decide) (by omega) (fun h105 => ?_) (fun h105 => ?_)
    · refine j_lload C 0 dX4_joined_150 rfl ?_
      refine y_ldc2 C (-1000000) dX4_joined_152 kX4_joined_105 rfl ?_
      refine y_lcmp_ge C 164 dX4_joined_155 dX4_joined_156 (by decide) (by omega) (fun h106 => ?_) (fun h106 => ?_)
      · refine j_lload C 0 dX4_joined_164 rfl ?_
        refine y_l2i C dX4_joined_166 ?_
        exact hret _ _ _ _ dX4_joined_167 ⟨a104, rfl, rfl, by omega⟩
      · refine y_ldc C (-1000000) dX4_joined_159 kX4_joined_107 rfl ?_
        refine j_goto C 167 dX4_joined_161 (by decide) ?_
        exact hret _ _ _ _ dX4_joined_167 ⟨(-1000000), rfl, rfl, by omega⟩
    · refine y_ldc C 1000000 dX4_joined_147 kX4_joined_104 rfl ?_
      exact hret _ _ _ _ dX4_joined_149 ⟨1000000, rfl, rfl, by omega⟩
  · refine y_lk C (off := 67) 68 dX4_joined_1 (by decide) (by decide) (by omega) (by rw [h101]; rfl) ?_
    refine j_lload_n C 0 0 dX4_joined_68 rfl rfl ?_
    refine j_lload_n C 2 3 dX4_joined_69 rfl rfl ?_
    refine y_ladd0 C dX4_joined_70 (fun a107 la107 ua107 => ?_)
    refine j_lstore C 5 [(5, .long (sJ a107)), (0, .long (sJ a0)), (2, .int (sI a2)), (3, .long (sJ a3))] dX4_joined_71 (by decide) rfl ?_
    refine j_goto C 138 dX4_joined_73 (by decide) ?_
    refine j_lload C 0 dX4_joined_138 rfl ?_
    refine y_ldc2 C 1000000 dX4_joined_140 kX4_joined_102 rfl ?_
    refine y_lcmp_le C 150 dX4_joined_143 dX4_joined_144 (by decide) (by omega) (fun h108 => ?_) (fun h108 => ?_)
    · refine j_lload C 0 dX4_joined_150 rfl ?_
      refine y_ldc2 C (-1000000) dX4_joined_152 kX4_joined_105 rfl ?_
      refine y_lcmp_ge C 164 dX4_joined_155 dX4_joined_156 (by decide) (by omega) (fun h109 => ?_) (fun h109 => ?_)
      · refine j_lload C 0 dX4_joined_164 rfl ?_
        refine y_l2i C dX4_joined_166 ?_
        exact hret _ _ _ _ dX4_joined_167 ⟨a107, rfl, rfl, by omega⟩
      · refine y_ldc C (-1000000) dX4_joined_159 kX4_joined_107 rfl ?_
        refine j_goto C 167 dX4_joined_161 (by decide) ?_
        exact hret _ _ _ _ dX4_joined_167 ⟨(-1000000), rfl, rfl, by omega⟩
    · refine y_ldc C 1000000 dX4_joined_147 kX4_joined_104 rfl ?_
      exact hret _ _ _ _ dX4_joined_149 ⟨1000000, rfl, rfl, by omega⟩
  · refine y_lk C (off := 75) 76 dX4_joined_1 (by decide) (by decide) (by omega) (by rw [h101]; rfl) ?_
    refine j_lload_n C 0 0 dX4_joined_76 rfl rfl ?_
    refine j_lload_n C 2 3 dX4_joined_77 rfl rfl ?_
    refine y_lsub0 C dX4_joined_78 (fun a110 la110 ua110 => ?_)
    refine j_lstore C 5 [(5, .long (sJ a110)), (0, .long (sJ a0)), (2, .int (sI a2)), (3, .long (sJ a3))] dX4_joined_79 (by decide) rfl ?_
    refine j_goto C 138 dX4_joined_81 (by decide) ?_
    refine j_lload C 0 dX4_joined_138 rfl ?_
    refine y_ldc2 C 1000000 dX4_joined_140 kX4_joined_102 rfl ?_
    refine y_lcmp_le C 150 dX4_joined_143 dX4_joined_144 (by decide) (by omega) (fun h111 => ?_) (fun h111 => ?_)
    · refine j_lload C 0 dX4_joined_150 rfl ?_
      refine y_ldc2 C (-1000000) dX4_joined_152 kX4_joined_105 rfl ?_
      refine y_lcmp_ge C 164 dX4_joined_155 dX4_joined_156 (by decide) (by omega) (fun h112 => ?_) (fun h112 => ?_)
      · refine j_lload C 0 dX4_joined_164 rfl ?_
        refine y_l2i C dX4_joined_166 ?_
        exact hret _ _ _ _ dX4_joined_167 ⟨a110, rfl, rfl, by omega⟩
      · refine y_ldc C (-1000000) dX4_joined_159 kX4_joined_107 rfl ?_
        refine j_goto C 167 dX4_joined_161 (by decide) ?_
        exact hret _ _ _ _ dX4_joined_167 ⟨(-1000000), rfl, rfl, by omega⟩
    · refine y_ldc C 1000000 dX4_joined_147 kX4_joined_104 rfl ?_
      exact hret _ _ _ _ dX4_joined_149 ⟨1000000, rfl, rfl, by omega⟩
  · refine y_lk C (off := 103) 104 dX4_joined_1 (by decide) (by decide) (by omega) (by rw [h101]; rfl) ?_
    refine j_lload_n C 0 0 dX4_joined_104 rfl rfl ?_
    refine j_lload_n C 2 3 dX4_joined_105 rfl rfl ?_
    refine y_lcmp_ge C 114 dX4_joined_106 dX4_joined_107 (by decide) (by omega) (fun h113 => ?_) (fun h113 => ?_)
    · refine y_iconst C dX4_joined_114 ?_
      exact hret _ _ _ _ dX4_joined_115 ⟨0, rfl, rfl, by omega⟩
    · refine y_iconst C dX4_joined_110 ?_
      refine j_goto C 115 dX4_joined_111 (by decide) ?_
      exact hret _ _ _ _ dX4_joined_115 ⟨1, rfl, rfl, by omega⟩
  · refine y_lk C (off := 91) 92 dX4_joined_1 (by decide) (by decide) (by omega) (by rw [h101]; rfl) ?_
    refine j_lload_n C 0 0 dX4_joined_92 rfl rfl ?_
    refine j_lload_n C 2 3 dX4_joined_93 rfl rfl ?_
    refine y_lcmp_ne C 102 dX4_joined_94 dX4_joined_95 (by decide) (by omega) (fun h114 => ?_) (fun h114 => ?_)
    · refine y_iconst C dX4_joined_102 ?_
      exact hret _ _ _ _ dX4_joined_103 ⟨0, rfl, rfl, by omega⟩
    · refine y_iconst C dX4_joined_98 ?_
      refine j_goto C 103 dX4_joined_99 (by decide) ?_
      exact hret _ _ _ _ dX4_joined_103 ⟨1, rfl, rfl, by omega⟩
  · refine y_lk C (off := 115) 116 dX4_joined_1 (by decide) (by decide) (by omega) (by rw [h101]; rfl) ?_
    refine j_lload_n C 0 0 dX4_joined_116 rfl rfl ?_
    refine j_lload_n C 2 3 dX4_joined_117 rfl rfl ?_
    refine y_lcmp_le C 126 dX4_joined_118 dX4_joined_119 (by decide) (by omega) (fun h115 => ?_) (fun h115 => ?_)
    · refine y_iconst C dX4_joined_126 ?_
      exact hret _ _ _ _ dX4_joined_127 ⟨0, rfl, rfl, by omega⟩
    · refine y_iconst C dX4_joined_122 ?_
      refine j_goto C 127 dX4_joined_123 (by decide) ?_
      exact hret _ _ _ _ dX4_joined_127 ⟨1, rfl, rfl, by omega⟩
  · refine y_lk C (off := 132) 133 dX4_joined_1 (by decide) (by decide) (by omega) (by show Op.lookupswitch.offset [(1015, 127), (2042, 83), (2043, 67), (2045, 75), (2060, 103), (2061, 91), (2062, 115)] 132 a2 = 132; simp only [Op.lookupswitch.offset]; (repeat' split) <;> first | rfl | omega) ?_
    refine j_lload_n C 0 0 dX4_joined_133 rfl rfl ?_
    refine j_lload_n C 2 3 dX4_joined_134 rfl rfl ?_
    refine y_lor0 C dX4_joined_135 (fun a116 la116 ua116 => ?_)
    refine y_l2i C dX4_joined_136 ?_
    refine y_topI (fun a117 la117 ua117 => ?_)
    exact hret _ _ _ _ dX4_joined_137 ⟨a117, rfl, rfl, by omega⟩
set_option maxHeartbeats 4000000 in
theorem s1_X4_reckon {l : Launch} {dC : Nat → ClassId} {dI : Nat → Nat → Nat} {ad : Nat → Nat} {cA : Nat → ClassId} {pr : Nat → Nat → Bool} {Kz : mm_M} {M0 : mm_M} (hM0 : INV pr Kz M0) (hpr : PX pr) (a1 : Int) (ha1 : -2147483648 ≤ a1 ∧ a1 ≤ 2147483647) (a2 : Int) (ha2 : -2147483648 ≤ a2 ∧ a2 ≤ 2147483647) (hp0 : 0 ≤ a1 ∧ a1 ≤ 900) (hp1 : 0 ≤ a2 ∧ a2 ≤ 900) : Ci l 1 yX4_reckon wsX4_reckon dC dI ad cA [.ref (ad 81), .int (sI a1), .int (sI a2)] M0 (fun r M' => ∃ a : Int, r = sI a ∧ INV pr Kz M' ∧ (-2147483648) ≤ a ∧ a ≤ 2147483647) := by
  refine ci_of (cc := cX4_reckon) (maxL := 6) (ty := .int) (lv := [(0, .ref (ad 81)), (1, .int (sI a1)), (2, .int (sI a2))]) (by decide) rfl (fun r M' hp => rfl) (Nat.le_of_ble_eq_true rfl) rfl ?_
  intro p e s m args below meth c A Q C hret
  refine y_iconst C dX4_reckon_0 ?_
  refine j_istore_n C 3 [(3, .int (sI 0)), (0, .ref (ad 81)), (1, .int (sI a1)), (2, .int (sI a2))] dX4_reckon_1 rfl (by decide) rfl ?_
  refine j_iload_n C 2 1 dX4_reckon_2 rfl rfl ?_
  refine j_istore C 4 [(4, .int (sI a1)), (3, .int (sI 0)), (0, .ref (ad 81)), (1, .int (sI a1)), (2, .int (sI a2))] dX4_reckon_3 (by decide) rfl ?_
  have L664 : ∀ (n662 : Nat), ∀ (a665 : Int) (a666 : Int) (M667 : mm_M), (0 ≤ a665 ∧ a665 ≤ 64 ∧ 0 ≤ a666 ∧ a666 ≤ 900 ∧ (900 - a666) < (n662 : Int)) → INV pr Kz M667 → jj p l e (cn_R 1) s m args below meth c 0 0 Q 6 dC dI ad cA A M667 5 [(0, .ref (ad 81)), (2, .int (sI a2)), (3, .int (sI a665)), (4, .int (sI a666))] [] := by
    intro n662
    induction n662 with
    | zero =>
      intro a665 a666 M667 h668 hM667
      exfalso; omega
    | succ n662 ih663 =>
      intro a665 a666 M667 h668 hM667
      refine j_iload C 3 dX4_reckon_5 rfl ?_
      refine j_iload_n C 1 2 dX4_reckon_7 rfl rfl ?_
      refine y_icmp_ge C 166 dX4_reckon_8 (by decide) (by omega) (fun h669 => ?_) (fun h669 => ?_)
      · refine j_iload_n C 2 3 dX4_reckon_166 rfl rfl ?_
        refine y_if_le C 181 dX4_reckon_167 (by decide) (by omega) (fun h695 => ?_) (fun h695 => ?_)
        · refine y_iconst C dX4_reckon_181 ?_
          exact hret _ _ _ _ dX4_reckon_182 ⟨0, rfl, hM667, by omega⟩
        · refine j_aload_n C 0 0 dX4_reckon_170 rfl rfl ?_
          refine y_getC C 3 86 fX4_reckon_26 rfl rfl ft_3_4 sm_3_4 rfl hM667 dX4_reckon_171 ?_
          refine j_iload_n C 2 3 dX4_reckon_174 rfl rfl ?_
          refine y_iconst C dX4_reckon_175 ?_
          refine y_isub C dX4_reckon_176 ?_
          refine y_iald C 37 64 _ _ rfl rfl rfl ak_37 an_37 rfl (sb_37 _) hM667 dX4_reckon_177 (by omega) (fun a696 ea696 la696 ua696 => ?_)
          refine j_goto C 182 dX4_reckon_178 (by decide) ?_
          exact hret _ _ _ _ dX4_reckon_182 ⟨a696, rfl, hM667, by omega⟩
      · refine j_iload C 3 dX4_reckon_11 rfl ?_
        refine j_aload_n C 0 0 dX4_reckon_13 rfl rfl ?_
        refine y_getM C 3 6 fX4_reckon_33 rfl rfl ft_3_5 sm_3_5 (by decide) hM667 dX4_reckon_14 (fun v670 ev670 cv670 => ?_)
        refine y_getT C 6 24 fX4_reckon_95 cv670 rfl ft_6_5 rfl sm_6_5 st_6_5 (by decide) hM667 dX4_reckon_17 (fun v671 cv671 => ?_)
        refine y_alen C 24 900 cv671 rfl rfl an_24 rfl rfl dX4_reckon_20 ?_
        refine y_icmp_ge C 166 dX4_reckon_21 (by decide) (by omega) (fun h672 => ?_) (fun h672 => ?_)
        · exfalso; omega
        · refine j_aload_n C 0 0 dX4_reckon_24 rfl rfl ?_
          refine y_getV C 3 v670 fX4_reckon_33 rfl rfl ft_3_5 (ev670) dX4_reckon_25 ?_
          refine y_getT C 6 24 fX4_reckon_95 cv670 rfl ft_6_5 rfl sm_6_5 st_6_5 (by decide) hM667 dX4_reckon_28 (fun v673 cv673 => ?_)
          refine j_iload C 3 dX4_reckon_31 rfl ?_
          refine y_iald C 24 900 _ _ cv673 rfl rfl ak_24 an_24 rfl (sb_24 _) hM667 dX4_reckon_33 (by omega) (fun a674 ea674 la674 ua674 => ?_)
          refine j_istore C 5 [(5, .int (sI a674)), (0, .ref (ad 81)), (2, .int (sI a2)), (3, .int (sI a665)), (4, .int (sI a666))] dX4_reckon_34 (by decide) rfl ?_
          refine j_iload C 0 dX4_reckon_36 rfl ?_
          refine y_sipush C dX4_reckon_38 rfl ?_
          refine y_icmp_ge C 89 dX4_reckon_41 (by decide) (by omega) (fun h675 => ?_) (fun h675 => ?_)
          · refine j_iload C 0 dX4_reckon_89 rfl ?_
            refine y_sipush C dX4_reckon_91 rfl ?_
            refine y_icmp_ne C 123 dX4_reckon_94 (by decide) (by omega) (fun h676 => ?_) (fun h676 => ?_)
            · refine j_iload_n C 3 3 dX4_reckon_123 rfl rfl ?_
              refine y_iconst C dX4_reckon_124 ?_
              refine y_icmp_lt C 160 dX4_reckon_125 (by decide) (by omega) (fun h677 => ?_) (fun h677 => ?_)
              · refine y_iinc C 4 [(4, .int (sI (a666 + 1))), (5, .int (sI a674)), (0, .ref (ad 81)), (2, .int (sI a2)), (3, .int (sI a665))] dX4_reckon_160 rfl (by decide) rfl ?_
                refine j_goto C 5 dX4_reckon_163 (by decide) ?_
                refine j_lv [2, 3, 4, 0] rfl ?_; exact ih663 a665 (a666 + 1) M667 (by omega) hM667
              · refine y_iinc C 3 [(3, .int (sI (a665 + (-1)))), (5, .int (sI a674)), (0, .ref (ad 81)), (2, .int (sI a2)), (4, .int (sI a666))] dX4_reckon_128 rfl (by decide) rfl ?_
                refine j_aload_n C 2 0 dX4_reckon_131 rfl rfl ?_
                refine y_getC C 3 86 fX4_reckon_26 rfl rfl ft_3_4 sm_3_4 rfl hM667 dX4_reckon_132 ?_
                refine j_iload_n C 0 3 dX4_reckon_135 rfl rfl ?_
                refine y_iconst C dX4_reckon_136 ?_
                refine y_isub C dX4_reckon_137 ?_
                refine j_aload_n C 2 0 dX4_reckon_138 rfl rfl ?_
                refine y_getC C 3 86 fX4_reckon_26 rfl rfl ft_3_4 sm_3_4 rfl hM667 dX4_reckon_139 ?_
                refine j_iload_n C 0 3 dX4_reckon_142 rfl rfl ?_
                refine y_iconst C dX4_reckon_143 ?_
                refine y_isub C dX4_reckon_144 ?_
                refine y_iald C 37 64 _ _ rfl rfl rfl ak_37 an_37 rfl (sb_37 _) hM667 dX4_reckon_145 (by omega) (fun a678 ea678 la678 ua678 => ?_)
                refine y_i2l C dX4_reckon_146 (by omega) ?_
                refine j_iload C 1 dX4_reckon_147 rfl ?_
                refine j_aload_n C 2 0 dX4_reckon_149 rfl rfl ?_
                refine y_getC C 3 86 fX4_reckon_26 rfl rfl ft_3_4 sm_3_4 rfl hM667 dX4_reckon_150 ?_
                refine j_iload_n C 0 3 dX4_reckon_153 rfl rfl ?_
                refine y_iald C 37 64 _ _ rfl rfl rfl ak_37 an_37 rfl (sb_37 _) hM667 dX4_reckon_154 (by omega) (fun a679 ea679 la679 ua679 => ?_)
                refine y_i2l C dX4_reckon_155 (by omega) ?_
                refine j_callSi C (d := 0) (As := [.long (sJ a678), .int (sI a674), .long (sJ a679)]) (st := [.int (sI ((a665 + (-1)) - 1)), .ref (ad 86)]) (s1_X4_joined hM667 a678 (by omega) a674 (by omega) a679 (by omega)) gX4_reckon_X4_joined rfl hdX4_joineds (by decide) (Nat.le_of_ble_eq_true rfl) dX4_reckon_156 rfl (fun r680 M681 h682 => ?_)
                obtain ⟨a684, rfl, rfl, h683⟩ := h682
                refine y_iastF C 37 64 rfl rfl rfl ak_37 an_37 rfl (sb_37 _) hM667 (PX.w hpr rfl rfl) dX4_reckon_159 (by omega) (fun M685 eM685 hM685 => ?_)
                refine y_iinc C 4 [(4, .int (sI (a666 + 1))), (3, .int (sI (a665 + (-1)))), (5, .int (sI a674)), (0, .ref (ad 81)), (2, .int (sI a2))] dX4_reckon_160 rfl (by decide) rfl ?_
                refine j_goto C 5 dX4_reckon_163 (by decide) ?_
                refine j_lv [3, 4, 1, 0] rfl ?_; exact ih663 (a665 + (-1)) (a666 + 1) M685 (by omega) hM685
            · refine j_iload_n C 3 3 dX4_reckon_97 rfl rfl ?_
              refine y_iconst C dX4_reckon_98 ?_
              refine y_icmp_lt C 160 dX4_reckon_99 (by decide) (by omega) (fun h686 => ?_) (fun h686 => ?_)
              · refine y_iinc C 4 [(4, .int (sI (a666 + 1))), (5, .int (sI a674)), (0, .ref (ad 81)), (2, .int (sI a2)), (3, .int (sI a665))] dX4_reckon_160 rfl (by decide) rfl ?_
                refine j_goto C 5 dX4_reckon_163 (by decide) ?_
                refine j_lv [2, 3, 4, 0] rfl ?_; exact ih663 a665 (a666 + 1) M667 (by omega) hM667
              · refine j_aload_n C 1 0 dX4_reckon_102 rfl rfl ?_
                refine y_getC C 3 86 fX4_reckon_26 rfl rfl ft_3_4 sm_3_4 rfl hM667 dX4_reckon_103 ?_
                refine j_iload_n C 3 3 dX4_reckon_106 rfl rfl ?_
                refine y_iconst C dX4_reckon_107 ?_
                refine y_isub C dX4_reckon_108 ?_
                refine y_iconst C dX4_reckon_109 ?_
                refine j_aload_n C 1 0 dX4_reckon_110 rfl rfl ?_
                refine y_getC C 3 86 fX4_reckon_26 rfl rfl ft_3_4 sm_3_4 rfl hM667 dX4_reckon_111 ?_
                refine j_iload_n C 3 3 dX4_reckon_114 rfl rfl ?_
                refine y_iconst C dX4_reckon_115 ?_
                refine y_isub C dX4_reckon_116 ?_
                refine y_iald C 37 64 _ _ rfl rfl rfl ak_37 an_37 rfl (sb_37 _) hM667 dX4_reckon_117 (by omega) (fun a687 ea687 la687 ua687 => ?_)
                refine y_isub0 C dX4_reckon_118 (fun a688 la688 ua688 => ?_)
                refine y_iastF C 37 64 rfl rfl rfl ak_37 an_37 rfl (sb_37 _) hM667 (PX.w hpr rfl rfl) dX4_reckon_119 (by omega) (fun M689 eM689 hM689 => ?_)
                refine j_goto C 160 dX4_reckon_120 (by decide) ?_
                refine y_iinc C 4 [(4, .int (sI (a666 + 1))), (5, .int (sI a674)), (0, .ref (ad 81)), (2, .int (sI a2)), (3, .int (sI a665))] dX4_reckon_160 rfl (by decide) rfl ?_
                refine j_goto C 5 dX4_reckon_163 (by decide) ?_
                refine j_lv [2, 3, 4, 0] rfl ?_; exact ih663 a665 (a666 + 1) M689 (by omega) hM689
          · refine j_iload_n C 3 3 dX4_reckon_44 rfl rfl ?_
            refine j_aload_n C 1 0 dX4_reckon_45 rfl rfl ?_
            refine y_getC C 3 86 fX4_reckon_26 rfl rfl ft_3_4 sm_3_4 rfl hM667 dX4_reckon_46 ?_
            refine y_alen C 37 64 rfl rfl rfl an_37 rfl rfl dX4_reckon_49 ?_
            refine y_icmp_ge C 160 dX4_reckon_50 (by decide) (by omega) (fun h690 => ?_) (fun h690 => ?_)
            · refine y_iinc C 4 [(4, .int (sI (a666 + 1))), (5, .int (sI a674)), (0, .ref (ad 81)), (2, .int (sI a2)), (3, .int (sI a665))] dX4_reckon_160 rfl (by decide) rfl ?_
              refine j_goto C 5 dX4_reckon_163 (by decide) ?_
              refine j_lv [2, 3, 4, 0] rfl ?_; exact ih663 a665 (a666 + 1) M667 (by omega) hM667
            · refine j_aload_n C 1 0 dX4_reckon_53 rfl rfl ?_
              refine y_getC C 3 86 fX4_reckon_26 rfl rfl ft_3_4 sm_3_4 rfl hM667 dX4_reckon_54 ?_
              refine j_iload_n C 3 3 dX4_reckon_57 rfl rfl ?_
              refine j_iload C 0 dX4_reckon_58 rfl ?_
              refine y_sipush C dX4_reckon_60 rfl ?_
              refine y_icmp_ge C 71 dX4_reckon_63 (by decide) (by omega) (fun h691 => ?_) (fun h691 => ?_)
              · refine j_aload_n C 1 0 dX4_reckon_71 rfl rfl ?_
                refine y_getC C 3 85 fX4_reckon_23 rfl rfl ft_3_3 sm_3_3 rfl hM667 dX4_reckon_72 ?_
                refine j_iload C 0 dX4_reckon_75 rfl ?_
                refine y_sipush C dX4_reckon_77 rfl ?_
                refine y_isub C dX4_reckon_80 ?_
                refine y_iald C 36 8 _ _ rfl rfl rfl ak_36 an_36 rfl (sb_36 _) hM667 dX4_reckon_81 (by omega) (fun a692 ea692 la692 ua692 => ?_)
                refine y_iastF C 37 64 rfl rfl rfl ak_37 an_37 rfl (sb_37 _) hM667 (PX.w hpr rfl rfl) dX4_reckon_82 (by omega) (fun M693 eM693 hM693 => ?_)
                refine y_iinc C 3 [(3, .int (sI (a665 + 1))), (5, .int (sI a674)), (0, .ref (ad 81)), (2, .int (sI a2)), (4, .int (sI a666))] dX4_reckon_83 rfl (by decide) rfl ?_
                refine j_goto C 160 dX4_reckon_86 (by decide) ?_
                refine y_iinc C 4 [(4, .int (sI (a666 + 1))), (3, .int (sI (a665 + 1))), (5, .int (sI a674)), (0, .ref (ad 81)), (2, .int (sI a2))] dX4_reckon_160 rfl (by decide) rfl ?_
                refine j_goto C 5 dX4_reckon_163 (by decide) ?_
                refine j_lv [3, 4, 1, 0] rfl ?_; exact ih663 (a665 + 1) (a666 + 1) M693 (by omega) hM693
              · refine j_iload C 0 dX4_reckon_66 rfl ?_
                refine j_goto C 82 dX4_reckon_68 (by decide) ?_
                refine y_iastF C 37 64 rfl rfl rfl ak_37 an_37 rfl (sb_37 _) hM667 (PX.w hpr rfl rfl) dX4_reckon_82 (by omega) (fun M694 eM694 hM694 => ?_)
                refine y_iinc C 3 [(3, .int (sI (a665 + 1))), (5, .int (sI a674)), (0, .ref (ad 81)), (2, .int (sI a2)), (4, .int (sI a666))] dX4_reckon_83 rfl (by decide) rfl ?_
                refine j_goto C 160 dX4_reckon_86 (by decide) ?_
                refine y_iinc C 4 [(4, .int (sI (a666 + 1))), (3, .int (sI (a665 + 1))), (5, .int (sI a674)), (0, .ref (ad 81)), (2, .int (sI a2))] dX4_reckon_160 rfl (by decide) rfl ?_
                refine j_goto C 5 dX4_reckon_163 (by decide) ?_
                refine j_lv [3, 4, 1, 0] rfl ?_; exact ih663 (a665 + 1) (a666 + 1) M694 (by omega) hM694
  refine j_lv [2, 4, 1, 0] rfl ?_; exact L664 2010 0 a1 M0 (by omega) hM0
set_option maxHeartbeats 4000000 in
theorem s1_X4_lets {l : Launch} {dC : Nat → ClassId} {dI : Nat → Nat → Nat} {ad : Nat → Nat} {cA : Nat → ClassId} {pr : Nat → Nat → Bool} {Kz : mm_M} {M0 : mm_M} (hM0 : INV pr Kz M0) (hpr : PX pr) (a1 : Int) (ha1 : -2147483648 ≤ a1 ∧ a1 ≤ 2147483647) (a2 : Int) (ha2 : -2147483648 ≤ a2 ∧ a2 ≤ 2147483647) (a3 : Int) (ha3 : -2147483648 ≤ a3 ∧ a3 ≤ 2147483647) (hp0 : 0 ≤ a1 ∧ a1 ≤ 5) (hp1 : 0 ≤ a2 ∧ a2 ≤ 7) : Ci l 2 yX4_lets wsX4_lets dC dI ad cA [.ref (ad 81), .int (sI a1), .int (sI a2), .int (sI a3)] M0 (fun r M' => ∃ a : Int, r = sI a ∧ INV pr Kz M' ∧ 0 ≤ a ∧ a ≤ 1) := by
  refine ci_of (cc := cX4_lets) (maxL := 4) (ty := .boolean) (lv := [(0, .ref (ad 81)), (1, .int (sI a1)), (2, .int (sI a2)), (3, .int (sI a3))]) (by decide) rfl (fun r M' hp => by obtain ⟨a, rfl, -, h⟩ := hp; rcases (show a = 0 ∨ a = 1 by omega) with rfl | rfl <;> rfl) (Nat.le_of_ble_eq_true rfl) rfl ?_
  intro p e s m args below meth c A Q C hret
  refine j_aload_n C 0 0 dX4_lets_0 rfl rfl ?_
  refine y_getC C 3 83 fX4_lets_15 rfl rfl ft_3_1 sm_3_1 rfl hM0 dX4_lets_1 ?_
  refine j_iload_n C 2 2 dX4_lets_4 rfl rfl ?_
  refine y_iald C 34 8 _ _ rfl rfl rfl ak_34 an_34 rfl (sb_34 _) hM0 dX4_lets_5 (by omega) (fun a101 ea101 la101 ua101 => ?_)
  refine j_aload_n C 0 0 dX4_lets_6 rfl rfl ?_
  refine y_getM C 3 6 fX4_lets_33 rfl rfl ft_3_5 sm_3_5 (by decide) hM0 dX4_lets_7 (fun v102 ev102 cv102 => ?_)
  refine y_getT C 6 21 fX4_lets_68 cv102 rfl ft_6_2 rfl sm_6_2 st_6_2 (by decide) hM0 dX4_lets_10 (fun v103 cv103 => ?_)
  refine j_iload_n C 1 1 dX4_lets_13 rfl rfl ?_
  refine y_iald C 21 6 _ _ cv103 rfl rfl ak_21 an_21 rfl (sb_21 _) hM0 dX4_lets_14 (by omega) (fun a104 ea104 la104 ua104 => ?_)
  refine y_icmp_le C 20 dX4_lets_15 (by decide) (by omega) (fun h105 => ?_) (fun h105 => ?_)
  · refine j_aload_n C 0 0 dX4_lets_20 rfl rfl ?_
    refine y_getV C 3 v102 fX4_lets_33 rfl rfl ft_3_5 (ev102) dX4_lets_21 ?_
    refine y_getI C 6 _ _ fX4_lets_73 cv102 rfl ft_6_9 sb_6_9 hM0 dX4_lets_24 (fun a106 ea106 la106 ua106 => ?_)
    refine j_aload_n C 0 0 dX4_lets_27 rfl rfl ?_
    refine y_getV C 3 v102 fX4_lets_33 rfl rfl ft_3_5 (ev102) dX4_lets_28 ?_
    refine y_getI C 6 _ _ fX4_lets_76 cv102 rfl ft_6_10 sb_6_10 hM0 dX4_lets_31 (fun a108 ea108 la108 ua108 => ?_)
    refine y_icmp_ne C 39 dX4_lets_34 (by decide) (by omega) (fun h110 => ?_) (fun h110 => ?_)
    · refine j_aload_n C 0 0 dX4_lets_39 rfl rfl ?_
      refine j_iload_n C 1 1 dX4_lets_40 rfl rfl ?_
      refine j_iload_n C 2 2 dX4_lets_41 rfl rfl ?_
      refine j_iload_n C 3 3 dX4_lets_42 rfl rfl ?_
      refine j_callVv C (d := 1) (As := [.int (sI a1), .int (sI a2), .int (sI a3)]) (st := []) 81 (s_lt rfl rfl) (s_kc (c := 3) rfl rfl) (by decide) rfl (s1_X4_learn hM0 hpr a1 (by omega) a2 (by omega) a3 (by omega) (by omega) (by omega)) gX4_lets_X4_learn rfl hdX4_learn (by decide) (Nat.le_of_ble_eq_true rfl) dX4_lets_43 rfl (fun M112 h113 => ?_)
      have hM112 := h113
      refine j_aload_n C 0 0 dX4_lets_46 rfl rfl ?_
      refine j_aload_n C 0 0 dX4_lets_47 rfl rfl ?_
      refine y_getM C 3 6 fX4_lets_33 rfl rfl ft_3_5 sm_3_5 (by decide) hM112 dX4_lets_48 (fun v115 ev115 cv115 => ?_)
      refine y_getI C 6 _ _ fX4_lets_73 cv115 rfl ft_6_9 sb_6_9 hM112 dX4_lets_51 (fun a116 ea116 la116 ua116 => ?_)
      refine j_aload_n C 0 0 dX4_lets_54 rfl rfl ?_
      refine y_getV C 3 v115 fX4_lets_33 rfl rfl ft_3_5 (ev115) dX4_lets_55 ?_
      refine y_getI C 6 _ _ fX4_lets_76 cv115 rfl ft_6_10 sb_6_10 hM112 dX4_lets_58 (fun a118 ea118 la118 ua118 => ?_)
      refine j_callVi C (d := 1) (As := [.int (sI a116), .int (sI a118)]) (st := []) 81 (s_lt rfl rfl) (s_kc (c := 3) rfl rfl) (by decide) rfl (s1_X4_reckon hM112 hpr a116 (by omega) a118 (by omega) (by omega) (by omega)) gX4_lets_X4_reckon rfl hdX4_reckon (by decide) (Nat.le_of_ble_eq_true rfl) dX4_lets_61 rfl (fun r120 M121 h122 => ?_)
      obtain ⟨a124, rfl, hM121, h123⟩ := h122
      refine y_if_eq C 71 dX4_lets_64 (by decide) (by omega) (fun h125 => ?_) (fun h125 => ?_)
      · refine y_iconst C dX4_lets_71 ?_
        exact hret _ _ _ _ dX4_lets_72 ⟨0, rfl, hM121, by omega⟩
      · refine y_iconst C dX4_lets_67 ?_
        refine j_goto C 72 dX4_lets_68 (by decide) ?_
        exact hret _ _ _ _ dX4_lets_72 ⟨1, rfl, hM121, by omega⟩
    · refine y_iconst C dX4_lets_37 ?_
      exact hret _ _ _ _ dX4_lets_38 ⟨1, rfl, hM0, by omega⟩
  · refine y_iconst C dX4_lets_18 ?_
    exact hret _ _ _ _ dX4_lets_19 ⟨0, rfl, hM0, by omega⟩
set_option maxHeartbeats 4000000 in
theorem s1_X4_wish {l : Launch} {dC : Nat → ClassId} {dI : Nat → Nat → Nat} {ad : Nat → Nat} {cA : Nat → ClassId} {pr : Nat → Nat → Bool} {Kz : mm_M} {M0 : mm_M} (hM0 : INV pr Kz M0) (hpr : PX pr) (a1 : Int) (ha1 : -2147483648 ≤ a1 ∧ a1 ≤ 2147483647) (a2 : Int) (ha2 : -2147483648 ≤ a2 ∧ a2 ≤ 2147483647) (a3 : Int) (ha3 : -2147483648 ≤ a3 ∧ a3 ≤ 2147483647) (hp0 : 0 ≤ a1 ∧ a1 ≤ 5) (hp1 : 0 ≤ a2 ∧ a2 ≤ 7) : Ci l 2 yX4_wish wsX4_wish dC dI ad cA [.ref (ad 81), .int (sI a1), .int (sI a2), .int (sI a3)] M0 (fun r M' => ∃ a : Int, r = sI a ∧ INV pr Kz M' ∧ (-2147483648) ≤ a ∧ a ≤ 2147483647) := by
  refine ci_of (cc := cX4_wish) (maxL := 4) (ty := .int) (lv := [(0, .ref (ad 81)), (1, .int (sI a1)), (2, .int (sI a2)), (3, .int (sI a3))]) (by decide) rfl (fun r M' hp => rfl) (Nat.le_of_ble_eq_true rfl) rfl ?_
  intro p e s m args below meth c A Q C hret
  refine j_aload_n C 0 0 dX4_wish_0 rfl rfl ?_
  refine y_getM C 3 6 fX4_wish_33 rfl rfl ft_3_5 sm_3_5 (by decide) hM0 dX4_wish_1 (fun v101 ev101 cv101 => ?_)
  refine y_getI C 6 _ _ fX4_wish_86 cv101 rfl ft_6_7 sb_6_7 hM0 dX4_wish_4 (fun a102 ea102 la102 ua102 => ?_)
  refine j_aload_n C 0 0 dX4_wish_7 rfl rfl ?_
  refine y_getV C 3 v101 fX4_wish_33 rfl rfl ft_3_5 (ev101) dX4_wish_8 ?_
  refine y_getI C 6 _ _ fX4_wish_89 cv101 rfl ft_6_8 sb_6_8 hM0 dX4_wish_11 (fun a104 ea104 la104 ua104 => ?_)
  refine y_icmp_ne C 34 dX4_wish_14 (by decide) (by omega) (fun h106 => ?_) (fun h106 => ?_)
  · refine j_aload_n C 0 0 dX4_wish_34 rfl rfl ?_
    refine j_iload_n C 1 1 dX4_wish_35 rfl rfl ?_
    refine j_iload_n C 2 2 dX4_wish_36 rfl rfl ?_
    refine j_iload_n C 3 3 dX4_wish_37 rfl rfl ?_
    refine j_callVv C (d := 1) (As := [.int (sI a1), .int (sI a2), .int (sI a3)]) (st := []) 81 (s_lt rfl rfl) (s_kc (c := 3) rfl rfl) (by decide) rfl (s1_X4_learn hM0 hpr a1 (by omega) a2 (by omega) a3 (by omega) (by omega) (by omega)) gX4_wish_X4_learn rfl hdX4_learn (by decide) (Nat.le_of_ble_eq_true rfl) dX4_wish_38 rfl (fun M108 h109 => ?_)
    have hM108 := h109
    refine j_aload_n C 0 0 dX4_wish_41 rfl rfl ?_
    refine j_aload_n C 0 0 dX4_wish_42 rfl rfl ?_
    refine y_getM C 3 6 fX4_wish_33 rfl rfl ft_3_5 sm_3_5 (by decide) hM108 dX4_wish_43 (fun v111 ev111 cv111 => ?_)
    refine y_getI C 6 _ _ fX4_wish_86 cv111 rfl ft_6_7 sb_6_7 hM108 dX4_wish_46 (fun a112 ea112 la112 ua112 => ?_)
    refine j_aload_n C 0 0 dX4_wish_49 rfl rfl ?_
    refine y_getV C 3 v111 fX4_wish_33 rfl rfl ft_3_5 (ev111) dX4_wish_50 ?_
    refine y_getI C 6 _ _ fX4_wish_89 cv111 rfl ft_6_8 sb_6_8 hM108 dX4_wish_53 (fun a114 ea114 la114 ua114 => ?_)
    refine j_callVi C (d := 1) (As := [.int (sI a112), .int (sI a114)]) (st := []) 81 (s_lt rfl rfl) (s_kc (c := 3) rfl rfl) (by decide) rfl (s1_X4_reckon hM108 hpr a112 (by omega) a114 (by omega) (by omega) (by omega)) gX4_wish_X4_reckon rfl hdX4_reckon (by decide) (Nat.le_of_ble_eq_true rfl) dX4_wish_56 rfl (fun r116 M117 h118 => ?_)
    obtain ⟨a120, rfl, hM117, h119⟩ := h118
    exact hret _ _ _ _ dX4_wish_59 ⟨a120, rfl, hM117, by omega⟩
  · refine j_aload_n C 0 0 dX4_wish_17 rfl rfl ?_
    refine y_getV C 3 v101 fX4_wish_33 rfl rfl ft_3_5 (ev101) dX4_wish_18 ?_
    refine y_getT C 6 21 fX4_wish_68 cv101 rfl ft_6_2 rfl sm_6_2 st_6_2 (by decide) hM0 dX4_wish_21 (fun v121 cv121 => ?_)
    refine j_iload_n C 1 1 dX4_wish_24 rfl rfl ?_
    refine y_iald C 21 6 _ _ cv121 rfl rfl ak_21 an_21 rfl (sb_21 _) hM0 dX4_wish_25 (by omega) (fun a122 ea122 la122 ua122 => ?_)
    refine j_aload_n C 0 0 dX4_wish_26 rfl rfl ?_
    refine y_getC C 3 83 fX4_wish_15 rfl rfl ft_3_1 sm_3_1 rfl hM0 dX4_wish_27 ?_
    refine j_iload_n C 2 2 dX4_wish_30 rfl rfl ?_
    refine y_iald C 34 8 _ _ rfl rfl rfl ak_34 an_34 rfl (sb_34 _) hM0 dX4_wish_31 (by omega) (fun a123 ea123 la123 ua123 => ?_)
    refine y_isub0 C dX4_wish_32 (fun a124 la124 ua124 => ?_)
    exact hret _ _ _ _ dX4_wish_33 ⟨a124, rfl, hM0, by omega⟩
set_option maxHeartbeats 4000000 in
theorem s1_X4_choice {l : Launch} {dC : Nat → ClassId} {dI : Nat → Nat → Nat} {ad : Nat → Nat} {cA : Nat → ClassId} {pr : Nat → Nat → Bool} {Kz : mm_M} {M0 : mm_M} (hM0 : INV pr Kz M0) (hpr : PX pr) (a1 : Int) (ha1 : -2147483648 ≤ a1 ∧ a1 ≤ 2147483647) (a2 : Int) (ha2 : -2147483648 ≤ a2 ∧ a2 ≤ 2147483647) (a3 : Int) (ha3 : -2147483648 ≤ a3 ∧ a3 ≤ 2147483647) (hp0 : 0 ≤ a1 ∧ a1 ≤ 5) : Ci l 3 yX4_choice wsX4_choice dC dI ad cA [.ref (ad 81), .int (sI a1), .int (sI a2), .int (sI a3)] M0 (fun r M' => ∃ a : Int, r = sI a ∧ INV pr Kz M' ∧ (-1) ≤ a ∧ a ≤ 7) := by
  refine ci_of (cc := cX4_choice) (maxL := 10) (ty := .int) (lv := [(0, .ref (ad 81)), (1, .int (sI a1)), (2, .int (sI a2)), (3, .int (sI a3))]) (by decide) rfl (fun r M' hp => rfl) (Nat.le_of_ble_eq_true rfl) rfl ?_
  intro p e s m args below meth c A Q C hret
  refine y_iconst C dX4_choice_0 ?_
  refine j_istore C 4 [(4, .int (sI (-1))), (0, .ref (ad 81)), (1, .int (sI a1)), (2, .int (sI a2)), (3, .int (sI a3))] dX4_choice_1 (by decide) rfl ?_
  refine y_iconst C dX4_choice_3 ?_
  refine j_istore C 5 [(5, .int (sI 0)), (4, .int (sI (-1))), (0, .ref (ad 81)), (1, .int (sI a1)), (2, .int (sI a2)), (3, .int (sI a3))] dX4_choice_4 (by decide) rfl ?_
  refine y_iconst C dX4_choice_6 ?_
  refine j_aload_n C 2 0 dX4_choice_7 rfl rfl ?_
  refine y_getI C 3 _ _ fX4_choice_29 rfl rfl ft_3_6 sb_3_6 hM0 dX4_choice_8 (fun a101 ea101 la101 ua101 => ?_)
  refine y_shl1 C 8 256 dX4_choice_11 rfl (by decide) (by omega) (fun a103 la103 ua103 => ?_)
  refine y_iconst C dX4_choice_12 ?_
  refine y_isub C dX4_choice_13 ?_
  refine j_iload_n C 5 3 dX4_choice_14 rfl rfl ?_
  refine y_iconst C dX4_choice_15 ?_
  refine y_not C dX4_choice_16 ?_
  refine y_iandL C dX4_choice_17 (by omega) (fun a104 la104 ua104 => ?_)
  refine j_iload_n C 4 2 dX4_choice_18 rfl rfl ?_
  refine y_iconst C dX4_choice_19 ?_
  refine y_not C dX4_choice_20 ?_
  refine y_iandL C dX4_choice_21 (by omega) (fun a105 la105 ua105 => ?_)
  refine y_if_ne C 28 dX4_choice_22 (by decide) (by omega) (fun h106 => ?_) (fun h106 => ?_)
  · refine j_iload_n C 4 2 dX4_choice_28 rfl rfl ?_
    refine j_callSi C (d := 0) (As := [.int (sI a2)]) (st := []) (s1_J6_bitCount_0f7a4 hM0 a2 (by omega)) gX4_choice_J6_bitCount_0f7a4 rfl hdJ6_bitCount_0f7a4s (by decide) (Nat.le_of_ble_eq_true rfl) dX4_choice_29 rfl (fun r107 M108 h109 => ?_)
    obtain ⟨a111, rfl, rfl, h110⟩ := h109
    refine j_istore C 6 [(6, .int (sI a111)), (5, .int (sI 0)), (4, .int (sI (-1))), (0, .ref (ad 81)), (1, .int (sI a1)), (2, .int (sI a2)), (3, .int (sI a3))] dX4_choice_32 (by decide) rfl ?_
    refine y_iconst C dX4_choice_34 ?_
    refine j_istore C 7 [(7, .int (sI 0)), (6, .int (sI a111)), (5, .int (sI 0)), (4, .int (sI (-1))), (0, .ref (ad 81)), (1, .int (sI a1)), (2, .int (sI a2)), (3, .int (sI a3))] dX4_choice_35 (by decide) rfl ?_
    have L438 : ∀ (n436 : Nat), ∀ (a439 : Int) (a440 : Int) (a441 : Int) (M442 : mm_M), ((-1) ≤ a439 ∧ a439 ≤ 7 ∧ 0 ≤ a440 ∧ a440 ≤ 2147483647 ∧ 0 ≤ a441 ∧ a441 ≤ 8 ∧ (8 - a441) < (n436 : Int)) → INV pr Kz M442 → jj p l e (cn_R 3) s m args below meth c 0 0 Q 10 dC dI ad cA A M442 37 [(0, .ref (ad 81)), (1, .int (sI a1)), (2, .int (sI a2)), (3, .int (sI a3)), (4, .int (sI a439)), (5, .int (sI a440)), (6, .int (sI a111)), (7, .int (sI a441))] [] := by
      intro n436
      induction n436 with
      | zero =>
        intro a439 a440 a441 M442 h443 hM442
        exfalso; omega
      | succ n436 ih437 =>
        intro a439 a440 a441 M442 h443 hM442
        refine j_iload C 7 dX4_choice_37 rfl ?_
        refine j_aload_n C 0 0 dX4_choice_39 rfl rfl ?_
        refine y_getI C 3 _ _ fX4_choice_29 rfl rfl ft_3_6 sb_3_6 hM442 dX4_choice_40 (fun a444 ea444 la444 ua444 => ?_)
        refine y_icmp_ge C 172 dX4_choice_43 (by decide) (by omega) (fun h446 => ?_) (fun h446 => ?_)
        · refine j_iload C 4 dX4_choice_172 rfl ?_
          exact hret _ _ _ _ dX4_choice_174 ⟨a439, rfl, hM442, by omega⟩
        · refine j_iload_n C 3 3 dX4_choice_46 rfl rfl ?_
          refine j_iload C 7 dX4_choice_47 rfl ?_
          refine y_ishr0 C dX4_choice_49 (fun a447 la447 ua447 => ?_)
          refine y_iconst C dX4_choice_50 ?_
          refine y_iandR C dX4_choice_51 (by omega) (fun a448 la448 ua448 => ?_)
          refine y_if_ne C 166 dX4_choice_52 (by decide) (by omega) (fun h449 => ?_) (fun h449 => ?_)
          · refine y_iinc C 7 [(7, .int (sI (a441 + 1))), (0, .ref (ad 81)), (1, .int (sI a1)), (2, .int (sI a2)), (3, .int (sI a3)), (4, .int (sI a439)), (5, .int (sI a440)), (6, .int (sI a111))] dX4_choice_166 rfl (by decide) rfl ?_
            refine j_goto C 37 dX4_choice_169 (by decide) ?_
            refine j_lv [1, 2, 3, 4, 5, 6, 7, 0] rfl ?_; exact ih437 a439 a440 (a441 + 1) M442 (by omega) hM442
          · refine j_iload C 7 dX4_choice_55 rfl ?_
            refine y_bipush C dX4_choice_57 rfl ?_
            refine y_imul C dX4_choice_59 ?_
            refine j_iload_n C 1 1 dX4_choice_60 rfl rfl ?_
            refine y_bipush C dX4_choice_61 rfl ?_
            refine y_imul C dX4_choice_63 ?_
            refine j_iload C 6 dX4_choice_64 rfl ?_
            refine y_iadd C dX4_choice_66 ?_
            refine y_iconst C dX4_choice_67 ?_
            refine y_imul C dX4_choice_68 ?_
            refine y_iadd C dX4_choice_69 ?_
            refine j_iload_n C 2 2 dX4_choice_70 rfl rfl ?_
            refine j_iload C 7 dX4_choice_71 rfl ?_
            refine y_ishr0 C dX4_choice_73 (fun a450 la450 ua450 => ?_)
            refine y_iconst C dX4_choice_74 ?_
            refine y_iandR C dX4_choice_75 (by omega) (fun a451 la451 ua451 => ?_)
            refine y_iadd C dX4_choice_76 ?_
            refine j_istore C 8 [(8, .int (sI (((a441 * 108) + (((a1 * 9) + a111) * 2)) + a451))), (0, .ref (ad 81)), (1, .int (sI a1)), (2, .int (sI a2)), (3, .int (sI a3)), (4, .int (sI a439)), (5, .int (sI a440)), (6, .int (sI a111)), (7, .int (sI a441))] dX4_choice_77 (by decide) rfl ?_
            refine j_iload C 0 dX4_choice_79 rfl ?_
            have J456 : ∀ (a455 : Int), ((-2147483648) ≤ a455 ∧ a455 ≤ 2147483647 ∧ (¬ a455 = -1 ∨ (0 ≤ (((a441 * 108) + (((a1 * 9) + a111) * 2)) + a451) ∧ (((a441 * 108) + (((a1 * 9) + a111) * 2)) + a451) < 864))) → jj p l e (cn_R 3) s m args below meth c 0 0 Q 10 dC dI ad cA A M442 105 [(0, .ref (ad 81)), (1, .int (sI a1)), (2, .int (sI a2)), (3, .int (sI a3)), (4, .int (sI a439)), (5, .int (sI a440)), (6, .int (sI a111)), (7, .int (sI a441)), (8, .int (sI (((a441 * 108) + (((a1 * 9) + a111) * 2)) + a451)))] [.int (sI a455)] := by
              intro a455 h457
              refine j_istore C 9 [(9, .int (sI a455)), (0, .ref (ad 81)), (1, .int (sI a1)), (2, .int (sI a2)), (3, .int (sI a3)), (4, .int (sI a439)), (5, .int (sI a440)), (6, .int (sI a111)), (7, .int (sI a441)), (8, .int (sI (((a441 * 108) + (((a1 * 9) + a111) * 2)) + a451)))] dX4_choice_105 (by decide) rfl ?_
              refine j_iload C 0 dX4_choice_107 rfl ?_
              refine y_iconst C dX4_choice_109 ?_
              refine y_icmp_ne C 151 dX4_choice_110 (by decide) (by omega) (fun h458 => ?_) (fun h458 => ?_)
              · refine j_iload C 0 dX4_choice_151 rfl ?_
                refine j_iload C 6 dX4_choice_153 rfl ?_
                refine y_icmp_le C 166 dX4_choice_155 (by decide) (by omega) (fun h459 => ?_) (fun h459 => ?_)
                · refine y_iinc C 8 [(7, .int (sI (a441 + 1))), (9, .int (sI a455)), (0, .ref (ad 81)), (1, .int (sI a1)), (2, .int (sI a2)), (3, .int (sI a3)), (4, .int (sI a439)), (5, .int (sI a440)), (6, .int (sI a111)), (8, .int (sI (((a441 * 108) + (((a1 * 9) + a111) * 2)) + a451)))] dX4_choice_166 rfl (by decide) rfl ?_
                  refine j_goto C 37 dX4_choice_169 (by decide) ?_
                  refine j_lv [2, 3, 4, 5, 6, 7, 8, 0] rfl ?_; exact ih437 a439 a440 (a441 + 1) M442 (by omega) hM442
                · refine j_iload C 0 dX4_choice_158 rfl ?_
                  refine j_istore C 5 [(5, .int (sI a455)), (9, .int (sI a455)), (0, .ref (ad 81)), (1, .int (sI a1)), (2, .int (sI a2)), (3, .int (sI a3)), (4, .int (sI a439)), (6, .int (sI a111)), (7, .int (sI a441)), (8, .int (sI (((a441 * 108) + (((a1 * 9) + a111) * 2)) + a451)))] dX4_choice_160 (by decide) rfl ?_
                  refine j_iload C 8 dX4_choice_162 rfl ?_
                  refine j_istore C 4 [(4, .int (sI a441)), (5, .int (sI a455)), (9, .int (sI a455)), (0, .ref (ad 81)), (1, .int (sI a1)), (2, .int (sI a2)), (3, .int (sI a3)), (6, .int (sI a111)), (7, .int (sI a441)), (8, .int (sI (((a441 * 108) + (((a1 * 9) + a111) * 2)) + a451)))] dX4_choice_164 (by decide) rfl ?_
                  refine y_iinc C 8 [(7, .int (sI (a441 + 1))), (4, .int (sI a441)), (5, .int (sI a455)), (9, .int (sI a455)), (0, .ref (ad 81)), (1, .int (sI a1)), (2, .int (sI a2)), (3, .int (sI a3)), (6, .int (sI a111)), (8, .int (sI (((a441 * 108) + (((a1 * 9) + a111) * 2)) + a451)))] dX4_choice_166 rfl (by decide) rfl ?_
                  refine j_goto C 37 dX4_choice_169 (by decide) ?_
                  refine j_lv [4, 5, 6, 7, 1, 2, 8, 0] rfl ?_; exact ih437 a441 a455 (a441 + 1) M442 (by omega) hM442
              · refine j_aload_n C 1 0 dX4_choice_113 rfl rfl ?_
                refine j_iload_n C 2 1 dX4_choice_114 rfl rfl ?_
                refine j_iload C 8 dX4_choice_115 rfl ?_
                refine j_iload_n C 3 2 dX4_choice_117 rfl rfl ?_
                refine j_callVi C (d := 2) (As := [.int (sI a1), .int (sI a441), .int (sI a2)]) (st := []) 81 (s_lt rfl rfl) (s_kc (c := 3) rfl rfl) (by decide) rfl (s1_X4_lets hM442 hpr a1 (by omega) a441 (by omega) a2 (by omega) (by omega) (by omega)) gX4_choice_X4_lets rfl hdX4_lets (by decide) (Nat.le_of_ble_eq_true rfl) dX4_choice_118 rfl (fun r460 M461 h462 => ?_)
                obtain ⟨a464, rfl, hM461, h463⟩ := h462
                have J474 : ∀ (a472 : Int) (M473 : mm_M), (0 ≤ a472 ∧ a472 ≤ 2147483647) → INV pr Kz M473 → jj p l e (cn_R 3) s m args below meth c 0 0 Q 10 dC dI ad cA A M473 140 [(0, .ref (ad 81)), (1, .int (sI a1)), (2, .int (sI a2)), (3, .int (sI a3)), (4, .int (sI a439)), (5, .int (sI a440)), (6, .int (sI a111)), (7, .int (sI a441)), (8, .int (sI (((a441 * 108) + (((a1 * 9) + a111) * 2)) + a451)))] [.int (sI a472)] := by
                  intro a472 M473 h475 hM473
                  refine j_istore C 9 [(9, .int (sI a472)), (0, .ref (ad 81)), (1, .int (sI a1)), (2, .int (sI a2)), (3, .int (sI a3)), (4, .int (sI a439)), (5, .int (sI a440)), (6, .int (sI a111)), (7, .int (sI a441)), (8, .int (sI (((a441 * 108) + (((a1 * 9) + a111) * 2)) + a451)))] dX4_choice_140 (by decide) rfl ?_
                  refine j_aload_n C 1 0 dX4_choice_142 rfl rfl ?_
                  refine y_getC C 3 82 fX4_choice_11 rfl rfl ft_3_0 sm_3_0 rfl hM473 dX4_choice_143 ?_
                  refine j_iload C 9 dX4_choice_146 rfl ?_
                  refine j_iload C 0 dX4_choice_148 rfl ?_
                  refine y_iastF C 33 864 rfl rfl rfl ak_33 an_33 rfl (sb_33 _) hM473 (PX.w hpr rfl rfl) dX4_choice_150 (by omega) (fun M476 eM476 hM476 => ?_)
                  refine j_iload C 0 dX4_choice_151 rfl ?_
                  refine j_iload C 6 dX4_choice_153 rfl ?_
                  refine y_icmp_le C 166 dX4_choice_155 (by decide) (by omega) (fun h477 => ?_) (fun h477 => ?_)
                  · refine y_iinc C 8 [(7, .int (sI (a441 + 1))), (9, .int (sI a472)), (0, .ref (ad 81)), (1, .int (sI a1)), (2, .int (sI a2)), (3, .int (sI a3)), (4, .int (sI a439)), (5, .int (sI a440)), (6, .int (sI a111)), (8, .int (sI (((a441 * 108) + (((a1 * 9) + a111) * 2)) + a451)))] dX4_choice_166 rfl (by decide) rfl ?_
                    refine j_goto C 37 dX4_choice_169 (by decide) ?_
                    refine j_lv [2, 3, 4, 5, 6, 7, 8, 0] rfl ?_; exact ih437 a439 a440 (a441 + 1) M476 (by omega) hM476
                  · refine j_iload C 0 dX4_choice_158 rfl ?_
                    refine j_istore C 5 [(5, .int (sI a472)), (9, .int (sI a472)), (0, .ref (ad 81)), (1, .int (sI a1)), (2, .int (sI a2)), (3, .int (sI a3)), (4, .int (sI a439)), (6, .int (sI a111)), (7, .int (sI a441)), (8, .int (sI (((a441 * 108) + (((a1 * 9) + a111) * 2)) + a451)))] dX4_choice_160 (by decide) rfl ?_
                    refine j_iload C 8 dX4_choice_162 rfl ?_
                    refine j_istore C 4 [(4, .int (sI a441)), (5, .int (sI a472)), (9, .int (sI a472)), (0, .ref (ad 81)), (1, .int (sI a1)), (2, .int (sI a2)), (3, .int (sI a3)), (6, .int (sI a111)), (7, .int (sI a441)), (8, .int (sI (((a441 * 108) + (((a1 * 9) + a111) * 2)) + a451)))] dX4_choice_164 (by decide) rfl ?_
                    refine y_iinc C 8 [(7, .int (sI (a441 + 1))), (4, .int (sI a441)), (5, .int (sI a472)), (9, .int (sI a472)), (0, .ref (ad 81)), (1, .int (sI a1)), (2, .int (sI a2)), (3, .int (sI a3)), (6, .int (sI a111)), (8, .int (sI (((a441 * 108) + (((a1 * 9) + a111) * 2)) + a451)))] dX4_choice_166 rfl (by decide) rfl ?_
                    refine j_goto C 37 dX4_choice_169 (by decide) ?_
                    refine j_lv [4, 5, 6, 7, 1, 2, 8, 0] rfl ?_; exact ih437 a441 a472 (a441 + 1) M476 (by omega) hM476
                refine y_if_eq C 139 dX4_choice_121 (by decide) (by omega) (fun h465 => ?_) (fun h465 => ?_)
                · refine y_iconst C dX4_choice_139 ?_
                  refine j_lv [1, 2, 3, 4, 5, 6, 7, 8, 9] rfl ?_; exact J474 0 M461 (by omega) hM461
                · refine y_iconst C dX4_choice_124 ?_
                  refine j_aload_n C 1 0 dX4_choice_125 rfl rfl ?_
                  refine j_iload_n C 2 1 dX4_choice_126 rfl rfl ?_
                  refine j_iload C 8 dX4_choice_127 rfl ?_
                  refine j_iload_n C 3 2 dX4_choice_129 rfl rfl ?_
                  refine j_callVi C (d := 2) (As := [.int (sI a1), .int (sI a441), .int (sI a2)]) (st := [.int (sI 0)]) 81 (s_lt rfl rfl) (s_kc (c := 3) rfl rfl) (by decide) rfl (s1_X4_wish hM461 hpr a1 (by omega) a441 (by omega) a2 (by omega) (by omega) (by omega)) gX4_choice_X4_wish rfl hdX4_wish (by decide) (Nat.le_of_ble_eq_true rfl) dX4_choice_130 rfl (fun r466 M467 h468 => ?_)
                  obtain ⟨a470, rfl, hM467, h469⟩ := h468
                  refine y_mmax C wX4_choice_62_0 wX4_choice_62_1 wX4_choice_62_2 wX4_choice_62_3 (by decide) (Nat.le_of_ble_eq_true rfl) dX4_choice_133 (by omega) (fun a471 ha471 => ?_)
                  refine j_goto C 140 dX4_choice_136 (by decide) ?_
                  refine j_lv [1, 2, 3, 4, 5, 6, 7, 8, 9] rfl ?_; exact J474 a471 M467 (by omega) hM467
            refine y_if_lt C 104 dX4_choice_81 (by decide) (by omega) (fun h452 => ?_) (fun h452 => ?_)
            · exfalso; omega
            · refine j_iload C 0 dX4_choice_84 rfl ?_
              refine j_aload_n C 1 0 dX4_choice_86 rfl rfl ?_
              refine y_getC C 3 82 fX4_choice_11 rfl rfl ft_3_0 sm_3_0 rfl hM442 dX4_choice_87 ?_
              refine y_alen C 33 864 rfl rfl rfl an_33 rfl rfl dX4_choice_90 ?_
              refine y_icmp_ge C 104 dX4_choice_91 (by decide) (by omega) (fun h453 => ?_) (fun h453 => ?_)
              · refine y_iconst C dX4_choice_104 ?_
                refine j_lv [1, 2, 3, 4, 5, 6, 7, 8, 0] rfl ?_; exact J456 0 (by omega)
              · refine j_aload_n C 1 0 dX4_choice_94 rfl rfl ?_
                refine y_getC C 3 82 fX4_choice_11 rfl rfl ft_3_0 sm_3_0 rfl hM442 dX4_choice_95 ?_
                refine j_iload C 0 dX4_choice_98 rfl ?_
                refine y_iald C 33 864 _ _ rfl rfl rfl ak_33 an_33 rfl (sb_33 _) hM442 dX4_choice_100 (by omega) (fun a454 ea454 la454 ua454 => ?_)
                refine j_goto C 105 dX4_choice_101 (by decide) ?_
                refine j_lv [1, 2, 3, 4, 5, 6, 7, 8, 0] rfl ?_; exact J456 a454 (by omega)
    refine j_lv [4, 5, 6, 7, 3, 2, 1, 0] rfl ?_; exact L438 4294967304 (-1) 0 0 M0 (by omega) hM0
  · refine j_iload C 1 dX4_choice_25 rfl ?_
    exact hret _ _ _ _ dX4_choice_27 ⟨(-1), rfl, hM0, by omega⟩
set_option maxHeartbeats 4000000 in
theorem s1_X11_takersOf {l : Launch} {dC : Nat → ClassId} {dI : Nat → Nat → Nat} {ad : Nat → Nat} {cA : Nat → ClassId} {pr : Nat → Nat → Bool} {Kz : mm_M} {M0 : mm_M} (hM0 : INV pr Kz M0) (hpr : PX pr) (a1 : Int) (ha1 : -2147483648 ≤ a1 ∧ a1 ≤ 2147483647) : Ci l 4 yX11_takersOf wsX11_takersOf dC dI ad cA [.ref (ad 0), .int (sI a1)] M0 (fun r M' => ∃ a : Int, r = sI a ∧ INV pr Kz M' ∧ 0 ≤ a ∧ a ≤ 63) := by
  refine ci_of (cc := cX11_takersOf) (maxL := 4) (ty := .int) (lv := [(0, .ref (ad 0)), (1, .int (sI a1))]) (by decide) rfl (fun r M' hp => rfl) (Nat.le_of_ble_eq_true rfl) rfl ?_
  intro p e s m args below meth c A Q C hret
  refine j_aload_n C 0 0 dX11_takersOf_0 rfl rfl ?_
  refine y_getC C 10 81 fX11_takersOf_76 rfl rfl ft_10_12 sm_10_12 rfl hM0 dX11_takersOf_1 ?_
  refine j_aload_n C 0 0 dX11_takersOf_4 rfl rfl ?_
  refine y_getM C 10 6 fX11_takersOf_26 rfl rfl ft_10_4 sm_10_4 (by decide) hM0 dX11_takersOf_5 (fun v101 ev101 cv101 => ?_)
  refine j_aload_n C 0 0 dX11_takersOf_8 rfl rfl ?_
  refine y_getC C 10 12 fX11_takersOf_36 rfl rfl ft_10_6 sm_10_6 rfl hM0 dX11_takersOf_9 ?_
  refine j_callVv C (d := 0) (As := [.ref (ad v101), .ref (ad 12)]) (st := []) 81 (s_lt rfl rfl) (s_kc (c := 3) rfl rfl) (by decide) rfl (s1_X4_tune hM0 hpr cv101 rfl) gX11_takersOf_X4_tune rfl hdX4_tune (by decide) (Nat.le_of_ble_eq_true rfl) dX11_takersOf_12 rfl (fun M103 h104 => ?_)
  have hM103 := h104
  refine y_iconst C dX11_takersOf_15 ?_
  refine j_istore_n C 2 [(2, .int (sI 0)), (0, .ref (ad 0)), (1, .int (sI a1))] dX11_takersOf_16 rfl (by decide) rfl ?_
  refine y_iconst C dX11_takersOf_17 ?_
  refine j_istore_n C 3 [(3, .int (sI 0)), (2, .int (sI 0)), (0, .ref (ad 0)), (1, .int (sI a1))] dX11_takersOf_18 rfl (by decide) rfl ?_
  have L241 : ∀ (n239 : Nat), ∀ (a242 : Int) (a243 : Int) (M244 : mm_M), (0 ≤ a242 ∧ a242 ≤ 63 ∧ 0 ≤ a243 ∧ a243 ≤ 6 ∧ (6 - a243) < (n239 : Int)) → INV pr Kz M244 → jj p l e (cn_R 4) s m args below meth c 0 0 Q 4 dC dI ad cA A M244 19 [(0, .ref (ad 0)), (1, .int (sI a1)), (2, .int (sI a242)), (3, .int (sI a243))] [] := by
    intro n239
    induction n239 with
    | zero =>
      intro a242 a243 M244 h245 hM244
      exfalso; omega
    | succ n239 ih240 =>
      intro a242 a243 M244 h245 hM244
      refine j_iload_n C 3 3 dX11_takersOf_19 rfl rfl ?_
      refine j_aload_n C 0 0 dX11_takersOf_20 rfl rfl ?_
      refine y_getM C 10 6 fX11_takersOf_26 rfl rfl ft_10_4 sm_10_4 (by decide) hM244 dX11_takersOf_21 (fun v246 ev246 cv246 => ?_)
      refine y_getI C 6 _ _ fX11_takersOf_163 cv246 rfl ft_6_0 sb_6_0 hM244 dX11_takersOf_24 (fun a247 ea247 la247 ua247 => ?_)
      refine y_icmp_ge C 68 dX11_takersOf_27 (by decide) (by omega) (fun h249 => ?_) (fun h249 => ?_)
      · refine j_iload_n C 2 2 dX11_takersOf_68 rfl rfl ?_
        exact hret _ _ _ _ dX11_takersOf_69 ⟨a242, rfl, hM244, by omega⟩
      · refine j_aload_n C 0 0 dX11_takersOf_30 rfl rfl ?_
        refine y_getC C 10 81 fX11_takersOf_76 rfl rfl ft_10_12 sm_10_12 rfl hM244 dX11_takersOf_31 ?_
        refine j_iload_n C 3 3 dX11_takersOf_34 rfl rfl ?_
        refine j_aload_n C 0 0 dX11_takersOf_35 rfl rfl ?_
        refine y_getC C 10 12 fX11_takersOf_36 rfl rfl ft_10_6 sm_10_6 rfl hM244 dX11_takersOf_36 ?_
        refine y_getI C 8 _ _ fX11_takersOf_150 rfl rfl ft_8_3 sb_8_3 hM244 dX11_takersOf_39 (fun a250 ea250 la250 ua250 => ?_)
        refine j_aload_n C 0 0 dX11_takersOf_42 rfl rfl ?_
        refine y_getC C 10 12 fX11_takersOf_36 rfl rfl ft_10_6 sm_10_6 rfl hM244 dX11_takersOf_43 ?_
        refine y_getI C 8 _ _ fX11_takersOf_153 rfl rfl ft_8_4 sb_8_4 hM244 dX11_takersOf_46 (fun a252 ea252 la252 ua252 => ?_)
        refine j_callVi C (d := 3) (As := [.int (sI a243), .int (sI a250), .int (sI a252)]) (st := []) 81 (s_lt rfl rfl) (s_kc (c := 3) rfl rfl) (by decide) rfl (s1_X4_choice hM244 hpr a243 (by omega) a250 (by omega) a252 (by omega) (by omega)) gX11_takersOf_X4_choice rfl hdX4_choice (by decide) (Nat.le_of_ble_eq_true rfl) dX11_takersOf_49 rfl (fun r254 M255 h256 => ?_)
        obtain ⟨a258, rfl, hM255, h257⟩ := h256
        refine j_iload_n C 1 1 dX11_takersOf_52 rfl rfl ?_
        refine y_icmp_ne C 62 dX11_takersOf_53 (by decide) (by omega) (fun h259 => ?_) (fun h259 => ?_)
        · refine y_iinc C 3 [(3, .int (sI (a243 + 1))), (0, .ref (ad 0)), (1, .int (sI a1)), (2, .int (sI a242))] dX11_takersOf_62 rfl (by decide) rfl ?_
          refine j_goto C 19 dX11_takersOf_65 (by decide) ?_
          refine j_lv [1, 2, 3, 0] rfl ?_; exact ih240 a242 (a243 + 1) M255 (by omega) hM255
        · refine j_iload_n C 2 2 dX11_takersOf_56 rfl rfl ?_
          refine y_iconst C dX11_takersOf_57 ?_
          refine j_iload_n C 3 3 dX11_takersOf_58 rfl rfl ?_
          refine y_shl1 C 5 32 dX11_takersOf_59 rfl (by decide) (by omega) (fun a260 la260 ua260 => ?_)
          refine y_iorN C 6 63 dX11_takersOf_60 rfl (by decide) (by omega) (fun a261 la261 ua261 => ?_)
          refine j_istore_n C 2 [(2, .int (sI a261)), (0, .ref (ad 0)), (1, .int (sI a1)), (3, .int (sI a243))] dX11_takersOf_61 rfl (by decide) rfl ?_
          refine y_iinc C 3 [(3, .int (sI (a243 + 1))), (2, .int (sI a261)), (0, .ref (ad 0)), (1, .int (sI a1))] dX11_takersOf_62 rfl (by decide) rfl ?_
          refine j_goto C 19 dX11_takersOf_65 (by decide) ?_
          refine j_lv [2, 3, 1, 0] rfl ?_; exact ih240 a261 (a243 + 1) M255 (by omega) hM255
  refine j_lv [2, 3, 1, 0] rfl ?_; exact L241 2010 0 0 M103 (by omega) hM103
set_option maxHeartbeats 4000000 in
theorem s1_X11_kind {l : Launch} {dC : Nat → ClassId} {dI : Nat → Nat → Nat} {ad : Nat → Nat} {cA : Nat → ClassId} {pr : Nat → Nat → Bool} {Kz : mm_M} {M0 : mm_M} (hM0 : INV pr Kz M0) (hpr : PX pr) (a1 : Int) (ha1 : -2147483648 ≤ a1 ∧ a1 ≤ 2147483647) (a2 : Int) (ha2 : -2147483648 ≤ a2 ∧ a2 ≤ 2147483647) : Ci l 5 yX11_kind wsX11_kind dC dI ad cA [.ref (ad 0), .int (sI a1), .int (sI a2)] M0 (fun r M' => ∃ a : Int, r = sI a ∧ INV pr Kz M' ∧ (-2147483648) ≤ a ∧ a ≤ 2147483647) := by
  refine ci_of (cc := cX11_kind) (maxL := 3) (ty := .int) (lv := [(0, .ref (ad 0)), (1, .int (sI a1)), (2, .int (sI a2))]) (by decide) rfl (fun r M' hp => rfl) (Nat.le_of_ble_eq_true rfl) rfl ?_
  intro p e s m args below meth c A Q C hret
  refine j_aload_n C 0 0 dX11_kind_0 rfl rfl ?_
  refine j_iload_n C 1 1 dX11_kind_1 rfl rfl ?_
  refine j_callVi C (d := 0) (As := [.int (sI a1)]) (st := []) 0 (s_lt rfl rfl) (s_kc (c := 10) rfl rfl) (by decide) rfl (s1_X11_isKind hM0 a1 (by omega)) gX11_kind_X11_isKind rfl hdX11_isKind (by decide) (Nat.le_of_ble_eq_true rfl) dX11_kind_2 rfl (fun r101 M102 h103 => ?_)
  obtain ⟨a105, rfl, rfl, h104⟩ := h103
  refine y_if_ne C 11 dX11_kind_5 (by decide) (by omega) (fun h106 => ?_) (fun h106 => ?_)
  · refine j_iload_n C 2 2 dX11_kind_11 rfl rfl ?_
    rcases (show (a2 < 0 ∨ 4 < a2) ∨ a2 = 0 ∨ a2 = 1 ∨ a2 = 2 ∨ a2 = 3 ∨ a2 = 4 by omega) with h107 | h107 | h107 | h107 | h107 | h107
    · refine y_tabO C 98 dX11_kind_12 (by decide) (by omega) ?_
      refine y_bipush C dX11_kind_98 rfl ?_
      exact hret _ _ _ _ dX11_kind_100 ⟨(-2), rfl, hM0, by omega⟩
    · refine y_tabI C (off := 36) 48 0 dX11_kind_12 (by decide) rfl (by decide) h107 ?_
      refine j_aload_n C 0 0 dX11_kind_48 rfl rfl ?_
      refine y_getC C 10 12 fX11_kind_36 rfl rfl ft_10_6 sm_10_6 rfl hM0 dX11_kind_49 ?_
      refine y_getC C 8 13 fX11_kind_144 rfl rfl ft_8_1 sm_8_1 rfl hM0 dX11_kind_52 ?_
      refine j_iload_n C 1 1 dX11_kind_55 rfl rfl ?_
      refine y_iald C 25 8 _ _ rfl rfl rfl ak_25 an_25 rfl (sb_25 _) hM0 dX11_kind_56 (by omega) (fun a108 ea108 la108 ua108 => ?_)
      exact hret _ _ _ _ dX11_kind_57 ⟨a108, rfl, hM0, by omega⟩
    · refine y_tabI C (off := 46) 58 1 dX11_kind_12 (by decide) rfl (by decide) h107 ?_
      refine j_aload_n C 0 0 dX11_kind_58 rfl rfl ?_
      refine y_getC C 10 12 fX11_kind_36 rfl rfl ft_10_6 sm_10_6 rfl hM0 dX11_kind_59 ?_
      refine y_getC C 8 14 fX11_kind_147 rfl rfl ft_8_2 sm_8_2 rfl hM0 dX11_kind_62 ?_
      refine j_iload_n C 1 1 dX11_kind_65 rfl rfl ?_
      refine y_iald C 26 8 _ _ rfl rfl rfl ak_26 an_26 rfl (sb_26 _) hM0 dX11_kind_66 (by omega) (fun a109 ea109 la109 ua109 => ?_)
      exact hret _ _ _ _ dX11_kind_67 ⟨a109, rfl, hM0, by omega⟩
    · refine y_tabI C (off := 56) 68 2 dX11_kind_12 (by decide) rfl (by decide) h107 ?_
      refine j_aload_n C 0 0 dX11_kind_68 rfl rfl ?_
      refine y_getC C 10 12 fX11_kind_36 rfl rfl ft_10_6 sm_10_6 rfl hM0 dX11_kind_69 ?_
      refine y_getI C 8 _ _ fX11_kind_150 rfl rfl ft_8_3 sb_8_3 hM0 dX11_kind_72 (fun a110 ea110 la110 ua110 => ?_)
      refine j_iload_n C 1 1 dX11_kind_75 rfl rfl ?_
      refine y_ishrP C dX11_kind_76 (by omega) (fun a112 la112 ua112 => ?_)
      refine y_iconst C dX11_kind_77 ?_
      refine y_iandR C dX11_kind_78 (by omega) (fun a113 la113 ua113 => ?_)
      exact hret _ _ _ _ dX11_kind_79 ⟨a113, rfl, hM0, by omega⟩
    · refine y_tabI C (off := 68) 80 3 dX11_kind_12 (by decide) rfl (by decide) h107 ?_
      refine j_aload_n C 0 0 dX11_kind_80 rfl rfl ?_
      refine y_getC C 10 12 fX11_kind_36 rfl rfl ft_10_6 sm_10_6 rfl hM0 dX11_kind_81 ?_
      refine y_getI C 8 _ _ fX11_kind_153 rfl rfl ft_8_4 sb_8_4 hM0 dX11_kind_84 (fun a114 ea114 la114 ua114 => ?_)
      refine j_iload_n C 1 1 dX11_kind_87 rfl rfl ?_
      refine y_ishrP C dX11_kind_88 (by omega) (fun a116 la116 ua116 => ?_)
      refine y_iconst C dX11_kind_89 ?_
      refine y_iandR C dX11_kind_90 (by omega) (fun a117 la117 ua117 => ?_)
      exact hret _ _ _ _ dX11_kind_91 ⟨a117, rfl, hM0, by omega⟩
    · refine y_tabI C (off := 80) 92 4 dX11_kind_12 (by decide) rfl (by decide) h107 ?_
      refine j_aload_n C 0 0 dX11_kind_92 rfl rfl ?_
      refine j_iload_n C 1 1 dX11_kind_93 rfl rfl ?_
      refine j_callVi C (d := 4) (As := [.int (sI a1)]) (st := []) 0 (s_lt rfl rfl) (s_kc (c := 10) rfl rfl) (by decide) rfl (s1_X11_takersOf hM0 hpr a1 (by omega)) gX11_kind_X11_takersOf rfl hdX11_takersOf (by decide) (Nat.le_of_ble_eq_true rfl) dX11_kind_94 rfl (fun r118 M119 h120 => ?_)
      obtain ⟨a122, rfl, hM119, h121⟩ := h120
      exact hret _ _ _ _ dX11_kind_97 ⟨a122, rfl, hM119, by omega⟩
  · refine y_bipush C dX11_kind_8 rfl ?_
    exact hret _ _ _ _ dX11_kind_10 ⟨(-2), rfl, hM0, by omega⟩
set_option maxHeartbeats 4000000 in
theorem s1_X11_isBuyer {l : Launch} {dC : Nat → ClassId} {dI : Nat → Nat → Nat} {ad : Nat → Nat} {cA : Nat → ClassId} {pr : Nat → Nat → Bool} {Kz : mm_M} {M0 : mm_M} (hM0 : INV pr Kz M0) (a1 : Int) (ha1 : -2147483648 ≤ a1 ∧ a1 ≤ 2147483647) : Ci l 0 yX11_isBuyer wsX11_isBuyer dC dI ad cA [.ref (ad 0), .int (sI a1)] M0 (fun r M' => ∃ a : Int, r = sI a ∧ M0 = M' ∧ 0 ≤ a ∧ a ≤ 1 ∧ ((a1 < 0 ∧ a = 0) ∨ (0 ≤ a1 ∧ 0 ≤ a1 ∧ a = 0) ∨ (0 ≤ a1 ∧ a1 < 6 ∧ a = 1))) := by
  refine ci_of (cc := cX11_isBuyer) (maxL := 2) (ty := .boolean) (lv := [(0, .ref (ad 0)), (1, .int (sI a1))]) (by decide) rfl (fun r M' hp => by obtain ⟨a, rfl, -, h⟩ := hp; rcases (show a = 0 ∨ a = 1 by omega) with rfl | rfl <;> rfl) (Nat.le_of_ble_eq_true rfl) rfl ?_
  intro p e s m args below meth c A Q C hret
  refine j_iload_n C 1 1 dX11_isBuyer_0 rfl rfl ?_
  refine y_if_lt C 19 dX11_isBuyer_1 (by decide) (by omega) (fun h101 => ?_) (fun h101 => ?_)
  · refine y_iconst C dX11_isBuyer_19 ?_
    exact hret _ _ _ _ dX11_isBuyer_20 ⟨0, rfl, rfl, by omega⟩
  · refine j_iload_n C 1 1 dX11_isBuyer_4 rfl rfl ?_
    refine j_aload_n C 0 0 dX11_isBuyer_5 rfl rfl ?_
    refine y_getM C 10 6 fX11_isBuyer_26 rfl rfl ft_10_4 sm_10_4 (by decide) hM0 dX11_isBuyer_6 (fun v102 ev102 cv102 => ?_)
    refine y_getI C 6 _ _ fX11_isBuyer_163 cv102 rfl ft_6_0 sb_6_0 hM0 dX11_isBuyer_9 (fun a103 ea103 la103 ua103 => ?_)
    refine y_icmp_ge C 19 dX11_isBuyer_12 (by decide) (by omega) (fun h105 => ?_) (fun h105 => ?_)
    · refine y_iconst C dX11_isBuyer_19 ?_
      exact hret _ _ _ _ dX11_isBuyer_20 ⟨0, rfl, rfl, by omega⟩
    · refine y_iconst C dX11_isBuyer_15 ?_
      refine j_goto C 20 dX11_isBuyer_16 (by decide) ?_
      exact hret _ _ _ _ dX11_isBuyer_20 ⟨1, rfl, rfl, by omega⟩
set_option maxHeartbeats 4000000 in
theorem s1_X4_allowed {l : Launch} {dC : Nat → ClassId} {dI : Nat → Nat → Nat} {ad : Nat → Nat} {cA : Nat → ClassId} {pr : Nat → Nat → Bool} {Kz : mm_M} {M0 : mm_M} (hM0 : INV pr Kz M0) (hpr : PX pr) (a1 : Int) (ha1 : -2147483648 ≤ a1 ∧ a1 ≤ 2147483647) (a2 : Int) (ha2 : -2147483648 ≤ a2 ∧ a2 ≤ 2147483647) (a3 : Int) (ha3 : -2147483648 ≤ a3 ∧ a3 ≤ 2147483647) (hp0 : 0 ≤ a1 ∧ a1 ≤ 5) : Ci l 3 yX4_allowed wsX4_allowed dC dI ad cA [.ref (ad 81), .int (sI a1), .int (sI a2), .int (sI a3)] M0 (fun r M' => ∃ a : Int, r = sI a ∧ INV pr Kz M' ∧ 0 ≤ a ∧ a ≤ 255) := by
  refine ci_of (cc := cX4_allowed) (maxL := 6) (ty := .int) (lv := [(0, .ref (ad 81)), (1, .int (sI a1)), (2, .int (sI a2)), (3, .int (sI a3))]) (by decide) rfl (fun r M' hp => rfl) (Nat.le_of_ble_eq_true rfl) rfl ?_
  intro p e s m args below meth c A Q C hret
  refine y_iconst C dX4_allowed_0 ?_
  refine j_istore C 4 [(4, .int (sI 0)), (0, .ref (ad 81)), (1, .int (sI a1)), (2, .int (sI a2)), (3, .int (sI a3))] dX4_allowed_1 (by decide) rfl ?_
  refine y_iconst C dX4_allowed_3 ?_
  refine j_istore C 5 [(5, .int (sI 0)), (4, .int (sI 0)), (0, .ref (ad 81)), (1, .int (sI a1)), (2, .int (sI a2)), (3, .int (sI a3))] dX4_allowed_4 (by decide) rfl ?_
  have L256 : ∀ (n254 : Nat), ∀ (a257 : Int) (a258 : Int) (M259 : mm_M), (0 ≤ a257 ∧ a257 ≤ 255 ∧ 0 ≤ a258 ∧ a258 ≤ 8 ∧ (8 - a258) < (n254 : Int)) → INV pr Kz M259 → jj p l e (cn_R 3) s m args below meth c 0 0 Q 6 dC dI ad cA A M259 6 [(0, .ref (ad 81)), (1, .int (sI a1)), (2, .int (sI a2)), (3, .int (sI a3)), (4, .int (sI a257)), (5, .int (sI a258))] [] := by
    intro n254
    induction n254 with
    | zero =>
      intro a257 a258 M259 h260 hM259
      exfalso; omega
    | succ n254 ih255 =>
      intro a257 a258 M259 h260 hM259
      refine j_iload C 5 dX4_allowed_6 rfl ?_
      refine j_aload_n C 0 0 dX4_allowed_8 rfl rfl ?_
      refine y_getI C 3 _ _ fX4_allowed_29 rfl rfl ft_3_6 sb_3_6 hM259 dX4_allowed_9 (fun a261 ea261 la261 ua261 => ?_)
      refine y_icmp_ge C 50 dX4_allowed_12 (by decide) (by omega) (fun h263 => ?_) (fun h263 => ?_)
      · refine j_iload C 4 dX4_allowed_50 rfl ?_
        exact hret _ _ _ _ dX4_allowed_52 ⟨a257, rfl, hM259, by omega⟩
      · refine j_iload_n C 3 3 dX4_allowed_15 rfl rfl ?_
        refine j_iload C 5 dX4_allowed_16 rfl ?_
        refine y_ishr0 C dX4_allowed_18 (fun a264 la264 ua264 => ?_)
        refine y_iconst C dX4_allowed_19 ?_
        refine y_iandR C dX4_allowed_20 (by omega) (fun a265 la265 ua265 => ?_)
        refine y_if_ne C 44 dX4_allowed_21 (by decide) (by omega) (fun h266 => ?_) (fun h266 => ?_)
        · refine y_iinc C 5 [(5, .int (sI (a258 + 1))), (0, .ref (ad 81)), (1, .int (sI a1)), (2, .int (sI a2)), (3, .int (sI a3)), (4, .int (sI a257))] dX4_allowed_44 rfl (by decide) rfl ?_
          refine j_goto C 6 dX4_allowed_47 (by decide) ?_
          refine j_lv [1, 2, 3, 4, 5, 0] rfl ?_; exact ih255 a257 (a258 + 1) M259 (by omega) hM259
        · refine j_aload_n C 0 0 dX4_allowed_24 rfl rfl ?_
          refine j_iload_n C 1 1 dX4_allowed_25 rfl rfl ?_
          refine j_iload C 5 dX4_allowed_26 rfl ?_
          refine j_iload_n C 2 2 dX4_allowed_28 rfl rfl ?_
          refine j_callVi C (d := 2) (As := [.int (sI a1), .int (sI a258), .int (sI a2)]) (st := []) 81 (s_lt rfl rfl) (s_kc (c := 3) rfl rfl) (by decide) rfl (s1_X4_lets hM259 hpr a1 (by omega) a258 (by omega) a2 (by omega) (by omega) (by omega)) gX4_allowed_X4_lets rfl hdX4_lets (by decide) (Nat.le_of_ble_eq_true rfl) dX4_allowed_29 rfl (fun r267 M268 h269 => ?_)
          obtain ⟨a271, rfl, hM268, h270⟩ := h269
          refine y_if_eq C 44 dX4_allowed_32 (by decide) (by omega) (fun h272 => ?_) (fun h272 => ?_)
          · refine y_iinc C 5 [(5, .int (sI (a258 + 1))), (0, .ref (ad 81)), (1, .int (sI a1)), (2, .int (sI a2)), (3, .int (sI a3)), (4, .int (sI a257))] dX4_allowed_44 rfl (by decide) rfl ?_
            refine j_goto C 6 dX4_allowed_47 (by decide) ?_
            refine j_lv [1, 2, 3, 4, 5, 0] rfl ?_; exact ih255 a257 (a258 + 1) M268 (by omega) hM268
          · refine j_iload C 4 dX4_allowed_35 rfl ?_
            refine y_iconst C dX4_allowed_37 ?_
            refine j_iload C 5 dX4_allowed_38 rfl ?_
            refine y_shl1 C 7 128 dX4_allowed_40 rfl (by decide) (by omega) (fun a273 la273 ua273 => ?_)
            refine y_iorN C 8 255 dX4_allowed_41 rfl (by decide) (by omega) (fun a274 la274 ua274 => ?_)
            refine j_istore C 4 [(4, .int (sI a274)), (0, .ref (ad 81)), (1, .int (sI a1)), (2, .int (sI a2)), (3, .int (sI a3)), (5, .int (sI a258))] dX4_allowed_42 (by decide) rfl ?_
            refine y_iinc C 5 [(5, .int (sI (a258 + 1))), (4, .int (sI a274)), (0, .ref (ad 81)), (1, .int (sI a1)), (2, .int (sI a2)), (3, .int (sI a3))] dX4_allowed_44 rfl (by decide) rfl ?_
            refine j_goto C 6 dX4_allowed_47 (by decide) ?_
            refine j_lv [2, 3, 4, 5, 1, 0] rfl ?_; exact ih255 a274 (a258 + 1) M268 (by omega) hM268
  refine j_lv [2, 3, 4, 5, 1, 0] rfl ?_; exact L256 2010 0 0 M0 (by omega) hM0
set_option maxHeartbeats 4000000 in
theorem s1_X11_buyer {l : Launch} {dC : Nat → ClassId} {dI : Nat → Nat → Nat} {ad : Nat → Nat} {cA : Nat → ClassId} {pr : Nat → Nat → Bool} {Kz : mm_M} {M0 : mm_M} (hM0 : INV pr Kz M0) (hpr : PX pr) (a1 : Int) (ha1 : -2147483648 ≤ a1 ∧ a1 ≤ 2147483647) (a2 : Int) (ha2 : -2147483648 ≤ a2 ∧ a2 ≤ 2147483647) : Ci l 4 yX11_buyer wsX11_buyer dC dI ad cA [.ref (ad 0), .int (sI a1), .int (sI a2)] M0 (fun r M' => ∃ a : Int, r = sI a ∧ INV pr Kz M' ∧ (-2147483648) ≤ a ∧ a ≤ 2147483647) := by
  refine ci_of (cc := cX11_buyer) (maxL := 3) (ty := .int) (lv := [(0, .ref (ad 0)), (1, .int (sI a1)), (2, .int (sI a2))]) (by decide) rfl (fun r M' hp => rfl) (Nat.le_of_ble_eq_true rfl) rfl ?_
  intro p e s m args below meth c A Q C hret
  refine j_aload_n C 0 0 dX11_buyer_0 rfl rfl ?_
  refine j_iload_n C 1 1 dX11_buyer_1 rfl rfl ?_
  refine j_callVi C (d := 0) (As := [.int (sI a1)]) (st := []) 0 (s_lt rfl rfl) (s_kc (c := 10) rfl rfl) (by decide) rfl (s1_X11_isBuyer hM0 a1 (by omega)) gX11_buyer_X11_isBuyer rfl hdX11_isBuyer (by decide) (Nat.le_of_ble_eq_true rfl) dX11_buyer_2 rfl (fun r101 M102 h103 => ?_)
  obtain ⟨a105, rfl, rfl, h104⟩ := h103
  refine y_if_ne C 11 dX11_buyer_5 (by decide) (by omega) (fun h106 => ?_) (fun h106 => ?_)
  · refine j_aload_n C 0 0 dX11_buyer_11 rfl rfl ?_
    refine y_getC C 10 81 fX11_buyer_76 rfl rfl ft_10_12 sm_10_12 rfl hM0 dX11_buyer_12 ?_
    refine j_aload_n C 0 0 dX11_buyer_15 rfl rfl ?_
    refine y_getM C 10 6 fX11_buyer_26 rfl rfl ft_10_4 sm_10_4 (by decide) hM0 dX11_buyer_16 (fun v107 ev107 cv107 => ?_)
    refine j_aload_n C 0 0 dX11_buyer_19 rfl rfl ?_
    refine y_getC C 10 12 fX11_buyer_36 rfl rfl ft_10_6 sm_10_6 rfl hM0 dX11_buyer_20 ?_
    refine j_callVv C (d := 0) (As := [.ref (ad v107), .ref (ad 12)]) (st := []) 81 (s_lt rfl rfl) (s_kc (c := 3) rfl rfl) (by decide) rfl (s1_X4_tune hM0 hpr cv107 rfl) gX11_buyer_X4_tune rfl hdX4_tune (by decide) (Nat.le_of_ble_eq_true rfl) dX11_buyer_23 rfl (fun M109 h110 => ?_)
    have hM109 := h110
    refine j_iload_n C 2 2 dX11_buyer_26 rfl rfl ?_
    rcases (show (a2 < 0 ∨ 4 < a2) ∨ a2 = 0 ∨ a2 = 1 ∨ a2 = 2 ∨ a2 = 3 ∨ a2 = 4 by omega) with h112 | h112 | h112 | h112 | h112 | h112
    · refine y_tabO C 136 dX11_buyer_27 (by decide) (by omega) ?_
      refine y_bipush C dX11_buyer_136 rfl ?_
      exact hret _ _ _ _ dX11_buyer_138 ⟨(-2), rfl, hM109, by omega⟩
    · refine y_tabI C (off := 33) 60 0 dX11_buyer_27 (by decide) rfl (by decide) h112 ?_
      refine j_aload_n C 0 0 dX11_buyer_60 rfl rfl ?_
      refine y_getM C 10 6 fX11_buyer_26 rfl rfl ft_10_4 sm_10_4 (by decide) hM109 dX11_buyer_61 (fun v113 ev113 cv113 => ?_)
      refine y_getT C 6 21 fX11_buyer_176 cv113 rfl ft_6_2 rfl sm_6_2 st_6_2 (by decide) hM109 dX11_buyer_64 (fun v114 cv114 => ?_)
      refine j_iload_n C 1 1 dX11_buyer_67 rfl rfl ?_
      refine y_iald C 21 6 _ _ cv114 rfl rfl ak_21 an_21 rfl (sb_21 _) hM109 dX11_buyer_68 (by omega) (fun a115 ea115 la115 ua115 => ?_)
      exact hret _ _ _ _ dX11_buyer_69 ⟨a115, rfl, hM109, by omega⟩
    · refine y_tabI C (off := 43) 70 1 dX11_buyer_27 (by decide) rfl (by decide) h112 ?_
      refine j_aload_n C 0 0 dX11_buyer_70 rfl rfl ?_
      refine y_getM C 10 6 fX11_buyer_26 rfl rfl ft_10_4 sm_10_4 (by decide) hM109 dX11_buyer_71 (fun v116 ev116 cv116 => ?_)
      refine y_getT C 6 22 fX11_buyer_179 cv116 rfl ft_6_3 rfl sm_6_3 st_6_3 (by decide) hM109 dX11_buyer_74 (fun v117 cv117 => ?_)
      refine j_iload_n C 1 1 dX11_buyer_77 rfl rfl ?_
      refine y_iald C 22 6 _ _ cv117 rfl rfl ak_22 an_22 rfl (sb_22 _) hM109 dX11_buyer_78 (by omega) (fun a118 ea118 la118 ua118 => ?_)
      exact hret _ _ _ _ dX11_buyer_79 ⟨a118, rfl, hM109, by omega⟩
    · refine y_tabI C (off := 53) 80 2 dX11_buyer_27 (by decide) rfl (by decide) h112 ?_
      refine j_aload_n C 0 0 dX11_buyer_80 rfl rfl ?_
      refine y_getM C 10 6 fX11_buyer_26 rfl rfl ft_10_4 sm_10_4 (by decide) hM109 dX11_buyer_81 (fun v119 ev119 cv119 => ?_)
      refine y_getT C 6 23 fX11_buyer_182 cv119 rfl ft_6_4 rfl sm_6_4 st_6_4 (by decide) hM109 dX11_buyer_84 (fun v120 cv120 => ?_)
      refine j_iload_n C 1 1 dX11_buyer_87 rfl rfl ?_
      refine y_iald C 23 6 _ _ cv120 rfl rfl ak_23 an_23 rfl (sb_23 _) hM109 dX11_buyer_88 (by omega) (fun a121 ea121 la121 ua121 => ?_)
      exact hret _ _ _ _ dX11_buyer_89 ⟨a121, rfl, hM109, by omega⟩
    · refine y_tabI C (off := 63) 90 3 dX11_buyer_27 (by decide) rfl (by decide) h112 ?_
      refine j_aload_n C 0 0 dX11_buyer_90 rfl rfl ?_
      refine y_getC C 10 81 fX11_buyer_76 rfl rfl ft_10_12 sm_10_12 rfl hM109 dX11_buyer_91 ?_
      refine j_iload_n C 1 1 dX11_buyer_94 rfl rfl ?_
      refine j_aload_n C 0 0 dX11_buyer_95 rfl rfl ?_
      refine y_getC C 10 12 fX11_buyer_36 rfl rfl ft_10_6 sm_10_6 rfl hM109 dX11_buyer_96 ?_
      refine y_getI C 8 _ _ fX11_buyer_150 rfl rfl ft_8_3 sb_8_3 hM109 dX11_buyer_99 (fun a122 ea122 la122 ua122 => ?_)
      refine j_aload_n C 0 0 dX11_buyer_102 rfl rfl ?_
      refine y_getC C 10 12 fX11_buyer_36 rfl rfl ft_10_6 sm_10_6 rfl hM109 dX11_buyer_103 ?_
      refine y_getI C 8 _ _ fX11_buyer_153 rfl rfl ft_8_4 sb_8_4 hM109 dX11_buyer_106 (fun a124 ea124 la124 ua124 => ?_)
      refine j_callVi C (d := 3) (As := [.int (sI a1), .int (sI a122), .int (sI a124)]) (st := []) 81 (s_lt rfl rfl) (s_kc (c := 3) rfl rfl) (by decide) rfl (s1_X4_allowed hM109 hpr a1 (by omega) a122 (by omega) a124 (by omega) (by omega)) gX11_buyer_X4_allowed rfl hdX4_allowed (by decide) (Nat.le_of_ble_eq_true rfl) dX11_buyer_109 rfl (fun r126 M127 h128 => ?_)
      obtain ⟨a130, rfl, hM127, h129⟩ := h128
      exact hret _ _ _ _ dX11_buyer_112 ⟨a130, rfl, hM127, by omega⟩
    · refine y_tabI C (off := 86) 113 4 dX11_buyer_27 (by decide) rfl (by decide) h112 ?_
      refine j_aload_n C 0 0 dX11_buyer_113 rfl rfl ?_
      refine y_getC C 10 81 fX11_buyer_76 rfl rfl ft_10_12 sm_10_12 rfl hM109 dX11_buyer_114 ?_
      refine j_iload_n C 1 1 dX11_buyer_117 rfl rfl ?_
      refine j_aload_n C 0 0 dX11_buyer_118 rfl rfl ?_
      refine y_getC C 10 12 fX11_buyer_36 rfl rfl ft_10_6 sm_10_6 rfl hM109 dX11_buyer_119 ?_
      refine y_getI C 8 _ _ fX11_buyer_150 rfl rfl ft_8_3 sb_8_3 hM109 dX11_buyer_122 (fun a131 ea131 la131 ua131 => ?_)
      refine j_aload_n C 0 0 dX11_buyer_125 rfl rfl ?_
      refine y_getC C 10 12 fX11_buyer_36 rfl rfl ft_10_6 sm_10_6 rfl hM109 dX11_buyer_126 ?_
      refine y_getI C 8 _ _ fX11_buyer_153 rfl rfl ft_8_4 sb_8_4 hM109 dX11_buyer_129 (fun a133 ea133 la133 ua133 => ?_)
      refine j_callVi C (d := 3) (As := [.int (sI a1), .int (sI a131), .int (sI a133)]) (st := []) 81 (s_lt rfl rfl) (s_kc (c := 3) rfl rfl) (by decide) rfl (s1_X4_choice hM109 hpr a1 (by omega) a131 (by omega) a133 (by omega) (by omega)) gX11_buyer_X4_choice rfl hdX4_choice (by decide) (Nat.le_of_ble_eq_true rfl) dX11_buyer_132 rfl (fun r135 M136 h137 => ?_)
      obtain ⟨a139, rfl, hM136, h138⟩ := h137
      exact hret _ _ _ _ dX11_buyer_135 ⟨a139, rfl, hM136, by omega⟩
  · refine y_bipush C dX11_buyer_8 rfl ?_
    exact hret _ _ _ _ dX11_buyer_10 ⟨(-2), rfl, hM0, by omega⟩
set_option maxHeartbeats 4000000 in
theorem s1_X11_wants {l : Launch} {dC : Nat → ClassId} {dI : Nat → Nat → Nat} {ad : Nat → Nat} {cA : Nat → ClassId} {pr : Nat → Nat → Bool} {Kz : mm_M} {M0 : mm_M} (hM0 : INV pr Kz M0) (hpr : PX pr) (a1 : Int) (ha1 : -2147483648 ≤ a1 ∧ a1 ≤ 2147483647) (a2 : Int) (ha2 : -2147483648 ≤ a2 ∧ a2 ≤ 2147483647) : Ci l 3 yX11_wants wsX11_wants dC dI ad cA [.ref (ad 0), .int (sI a1), .int (sI a2)] M0 (fun r M' => ∃ a : Int, r = sI a ∧ INV pr Kz M' ∧ (-2147483648) ≤ a ∧ a ≤ 2147483647) := by
  refine ci_of (cc := cX11_wants) (maxL := 3) (ty := .int) (lv := [(0, .ref (ad 0)), (1, .int (sI a1)), (2, .int (sI a2))]) (by decide) rfl (fun r M' hp => rfl) (Nat.le_of_ble_eq_true rfl) rfl ?_
  intro p e s m args below meth c A Q C hret
  refine j_aload_n C 0 0 dX11_wants_0 rfl rfl ?_
  refine j_iload_n C 1 1 dX11_wants_1 rfl rfl ?_
  refine j_callVi C (d := 0) (As := [.int (sI a1)]) (st := []) 0 (s_lt rfl rfl) (s_kc (c := 10) rfl rfl) (by decide) rfl (s1_X11_isBuyer hM0 a1 (by omega)) gX11_wants_X11_isBuyer rfl hdX11_isBuyer (by decide) (Nat.le_of_ble_eq_true rfl) dX11_wants_2 rfl (fun r101 M102 h103 => ?_)
  obtain ⟨a105, rfl, rfl, h104⟩ := h103
  refine y_if_eq C 16 dX11_wants_5 (by decide) (by omega) (fun h106 => ?_) (fun h106 => ?_)
  · refine y_ldc C (-99000002) dX11_wants_16 kX11_wants_188 rfl ?_
    exact hret _ _ _ _ dX11_wants_18 ⟨(-99000002), rfl, hM0, by omega⟩
  · refine j_aload_n C 0 0 dX11_wants_8 rfl rfl ?_
    refine j_iload_n C 2 2 dX11_wants_9 rfl rfl ?_
    refine j_callVi C (d := 0) (As := [.int (sI a2)]) (st := []) 0 (s_lt rfl rfl) (s_kc (c := 10) rfl rfl) (by decide) rfl (s1_X11_isKind hM0 a2 (by omega)) gX11_wants_X11_isKind rfl hdX11_isKind (by decide) (Nat.le_of_ble_eq_true rfl) dX11_wants_10 rfl (fun r107 M108 h109 => ?_)
    obtain ⟨a111, rfl, rfl, h110⟩ := h109
    refine y_if_ne C 19 dX11_wants_13 (by decide) (by omega) (fun h112 => ?_) (fun h112 => ?_)
    · refine j_aload_n C 0 0 dX11_wants_19 rfl rfl ?_
      refine y_getC C 10 81 fX11_wants_76 rfl rfl ft_10_12 sm_10_12 rfl hM0 dX11_wants_20 ?_
      refine j_aload_n C 0 0 dX11_wants_23 rfl rfl ?_
      refine y_getM C 10 6 fX11_wants_26 rfl rfl ft_10_4 sm_10_4 (by decide) hM0 dX11_wants_24 (fun v113 ev113 cv113 => ?_)
      refine j_aload_n C 0 0 dX11_wants_27 rfl rfl ?_
      refine y_getC C 10 12 fX11_wants_36 rfl rfl ft_10_6 sm_10_6 rfl hM0 dX11_wants_28 ?_
      refine j_callVv C (d := 0) (As := [.ref (ad v113), .ref (ad 12)]) (st := []) 81 (s_lt rfl rfl) (s_kc (c := 3) rfl rfl) (by decide) rfl (s1_X4_tune hM0 hpr cv113 rfl) gX11_wants_X4_tune rfl hdX4_tune (by decide) (Nat.le_of_ble_eq_true rfl) dX11_wants_31 rfl (fun M115 h116 => ?_)
      have hM115 := h116
      refine j_aload_n C 0 0 dX11_wants_34 rfl rfl ?_
      refine y_getC C 10 81 fX11_wants_76 rfl rfl ft_10_12 sm_10_12 rfl hM115 dX11_wants_35 ?_
      refine j_iload_n C 1 1 dX11_wants_38 rfl rfl ?_
      refine j_iload_n C 2 2 dX11_wants_39 rfl rfl ?_
      refine j_aload_n C 0 0 dX11_wants_40 rfl rfl ?_
      refine y_getC C 10 12 fX11_wants_36 rfl rfl ft_10_6 sm_10_6 rfl hM115 dX11_wants_41 ?_
      refine y_getI C 8 _ _ fX11_wants_150 rfl rfl ft_8_3 sb_8_3 hM115 dX11_wants_44 (fun a118 ea118 la118 ua118 => ?_)
      refine j_callVi C (d := 2) (As := [.int (sI a1), .int (sI a2), .int (sI a118)]) (st := []) 81 (s_lt rfl rfl) (s_kc (c := 3) rfl rfl) (by decide) rfl (s1_X4_wish hM115 hpr a1 (by omega) a2 (by omega) a118 (by omega) (by omega) (by omega)) gX11_wants_X4_wish rfl hdX4_wish (by decide) (Nat.le_of_ble_eq_true rfl) dX11_wants_47 rfl (fun r120 M121 h122 => ?_)
      obtain ⟨a124, rfl, hM121, h123⟩ := h122
      exact hret _ _ _ _ dX11_wants_50 ⟨a124, rfl, hM121, by omega⟩
    · refine y_ldc C (-99000002) dX11_wants_16 kX11_wants_188 rfl ?_
      exact hret _ _ _ _ dX11_wants_18 ⟨(-99000002), rfl, hM0, by omega⟩
set_option maxHeartbeats 4000000 in
theorem s1_X6_keep {l : Launch} {dC : Nat → ClassId} {dI : Nat → Nat → Nat} {ad : Nat → Nat} {cA : Nat → ClassId} {pr : Nat → Nat → Bool} {Kz : mm_M} {M0 : mm_M} (hM0 : INV pr Kz M0) (hpr : PX pr) (hq8_0 : ∀ i, s_c i = 8 → pr i 0 = false) {v1 : Nat} (cv1 : s_c v1 = 8) : Cv l 1 yX6_keep wsX6_keep dC dI ad cA [.ref (ad 18), .ref (ad v1)] M0 (fun M' => INV pr Kz M') := by
  refine cv_of (cc := cX6_keep) (maxL := 2) (lv := [(0, .ref (ad 18)), (1, .ref (ad v1))]) (by decide) rfl (Nat.le_of_ble_eq_true rfl) rfl ?_
  intro p e s m args below meth c A Q C hret
  refine j_aload_n C 0 0 dX6_keep_0 rfl rfl ?_
  refine y_getC C 5 19 fX6_keep_11 rfl rfl ft_5_0 sm_5_0 rfl hM0 dX6_keep_1 ?_
  refine j_aload_n C 0 0 dX6_keep_4 rfl rfl ?_
  refine y_getI C 5 _ _ fX6_keep_17 rfl rfl ft_5_1 sb_5_1 hM0 dX6_keep_5 (fun a101 ea101 la101 ua101 => ?_)
  refine y_aald C 27 10 8 rfl rfl rfl rfl an_27 rfl sma_27 sta_27 (by decide) hM0 dX6_keep_8 (by omega) (fun v103 cv103 => ?_)
  refine j_aload_n C 1 1 dX6_keep_9 rfl rfl ?_
  refine j_callVv C (d := 0) (As := [.ref (ad v1)]) (st := []) v103 (s_lt cv103 rfl) (s_kc (c := 8) cv103 rfl) (by decide) rfl (s1_X9_copyFrom hM0 hpr hq8_0 cv103 cv1) gX6_keep_X9_copyFrom rfl hdX9_copyFrom (by decide) (Nat.le_of_ble_eq_true rfl) dX6_keep_10 rfl (fun M105 h106 => ?_)
  have hM105 := h106
  refine j_aload_n C 0 0 dX6_keep_13 rfl rfl ?_
  refine j_aload_n C 0 0 dX6_keep_14 rfl rfl ?_
  refine y_getI C 5 _ _ fX6_keep_17 rfl rfl ft_5_1 sb_5_1 hM105 dX6_keep_15 (fun a108 ea108 la108 ua108 => ?_)
  refine y_iconst C dX6_keep_18 ?_
  refine y_iadd C dX6_keep_19 ?_
  refine y_bipush C dX6_keep_20 rfl ?_
  refine y_irem C dX6_keep_22 (by omega) ?_
  refine y_putI C 5 _ _ qX6_keep_17 rfl rfl ft_5_1 sb_5_1 hM105 (PX.w hpr rfl rfl) dX6_keep_23 (by omega) (fun M110 eM110 hM110 => ?_)
  refine j_aload_n C 0 0 dX6_keep_26 rfl rfl ?_
  refine j_aload_n C 0 0 dX6_keep_27 rfl rfl ?_
  refine y_getI C 5 _ _ fX6_keep_21 rfl rfl ft_5_2 sb_5_2 hM110 dX6_keep_28 (fun a111 ea111 la111 ua111 => ?_)
  refine y_iconst C dX6_keep_31 ?_
  refine y_iadd C dX6_keep_32 ?_
  refine y_bipush C dX6_keep_33 rfl ?_
  refine y_mmin C wX6_keep_29_0 wX6_keep_29_1 wX6_keep_29_2 wX6_keep_29_3 (by decide) (Nat.le_of_ble_eq_true rfl) dX6_keep_35 (by omega) (fun a113 ha113 => ?_)
  refine y_putI C 5 _ _ qX6_keep_21 rfl rfl ft_5_2 sb_5_2 hM110 (PX.w hpr rfl rfl) dX6_keep_38 (by omega) (fun M114 eM114 hM114 => ?_)
  exact hret _ _ _ dX6_keep_41 hM114
set_option maxHeartbeats 4000000 in
theorem s1_X11_seed {l : Launch} {dC : Nat → ClassId} {dI : Nat → Nat → Nat} {ad : Nat → Nat} {cA : Nat → ClassId} {pr : Nat → Nat → Bool} {Kz : mm_M} {M0 : mm_M} (hM0 : INV pr Kz M0) (hpr : PX pr) (hq8_0 : ∀ i, s_c i = 8 → pr i 0 = false) (a1 : Int) (ha1 : -2147483648 ≤ a1 ∧ a1 ≤ 2147483647) : Ci l 2 yX11_seed wsX11_seed dC dI ad cA [.ref (ad 0), .int (sI a1)] M0 (fun r M' => ∃ a : Int, r = sI a ∧ INV pr Kz M' ∧ (-2147483648) ≤ a ∧ a ≤ 2147483647) := by
  refine ci_of (cc := cX11_seed) (maxL := 3) (ty := .int) (lv := [(0, .ref (ad 0)), (1, .int (sI a1))]) (by decide) rfl (fun r M' hp => rfl) (Nat.le_of_ble_eq_true rfl) rfl ?_
  intro p e s m args below meth c A Q C hret
  refine j_aload_n C 0 0 dX11_seed_0 rfl rfl ?_
  refine y_getC C 10 18 fX11_seed_46 rfl rfl ft_10_8 sm_10_8 rfl hM0 dX11_seed_1 ?_
  refine j_aload_n C 0 0 dX11_seed_4 rfl rfl ?_
  refine y_getC C 10 12 fX11_seed_36 rfl rfl ft_10_6 sm_10_6 rfl hM0 dX11_seed_5 ?_
  refine j_callVv C (d := 1) (As := [.ref (ad 12)]) (st := []) 18 (s_lt rfl rfl) (s_kc (c := 5) rfl rfl) (by decide) rfl (s1_X6_keep hM0 hpr hq8_0 rfl) gX11_seed_X6_keep rfl hdX6_keep (by decide) (Nat.le_of_ble_eq_true rfl) dX11_seed_8 rfl (fun M102 h103 => ?_)
  have hM102 := h103
  refine j_aload_n C 0 0 dX11_seed_11 rfl rfl ?_
  refine y_getC C 10 12 fX11_seed_36 rfl rfl ft_10_6 sm_10_6 rfl hM102 dX11_seed_12 ?_
  refine y_getI C 8 _ _ fX11_seed_195 rfl rfl ft_8_8 sb_8_8 hM102 dX11_seed_15 (fun a105 ea105 la105 ua105 => ?_)
  refine j_istore_n C 2 [(2, .int (sI a105)), (0, .ref (ad 0)), (1, .int (sI a1))] dX11_seed_18 rfl (by decide) rfl ?_
  refine j_aload_n C 1 0 dX11_seed_19 rfl rfl ?_
  refine y_getC C 10 12 fX11_seed_36 rfl rfl ft_10_6 sm_10_6 rfl hM102 dX11_seed_20 ?_
  refine j_iload_n C 2 1 dX11_seed_23 rfl rfl ?_
  refine y_putIF C 8 qX11_seed_195 rfl rfl ft_8_8 sb_8_8 hM102 (PX.w hpr rfl rfl) dX11_seed_24 (fun M107 eM107 hM107 => ?_)
  refine j_iload_n C 0 2 dX11_seed_27 rfl rfl ?_
  exact hret _ _ _ _ dX11_seed_28 ⟨a105, rfl, hM107, by omega⟩
set_option maxHeartbeats 4000000 in
theorem s1_X9_everyKind {l : Launch} {dC : Nat → ClassId} {dI : Nat → Nat → Nat} {ad : Nat → Nat} {cA : Nat → ClassId} {pr : Nat → Nat → Bool} {Kz : mm_M} {M0 : mm_M} (hM0 : INV pr Kz M0) {v0 : Nat} (cv0 : s_c v0 = 8) : Ci l 0 yX9_everyKind wsX9_everyKind dC dI ad cA [.ref (ad v0)] M0 (fun r M' => ∃ a : Int, r = sI a ∧ M0 = M' ∧ 0 ≤ a ∧ a ≤ 255 ∧ ((0 ≤ a ∧ a ≤ 255))) := by
  refine ci_of (cc := cX9_everyKind) (maxL := 1) (ty := .int) (lv := [(0, .ref (ad v0))]) (by decide) rfl (fun r M' hp => rfl) (Nat.le_of_ble_eq_true rfl) rfl ?_
  intro p e s m args below meth c A Q C hret
  refine y_iconst C dX9_everyKind_0 ?_
  refine j_aload_n C 0 0 dX9_everyKind_1 rfl rfl ?_
  refine y_getI C 8 _ _ fX9_everyKind_9 cv0 rfl ft_8_0 sb_8_0 hM0 dX9_everyKind_2 (fun a101 ea101 la101 ua101 => ?_)
  refine y_shl1 C 8 256 dX9_everyKind_5 rfl (by decide) (by omega) (fun a103 la103 ua103 => ?_)
  refine y_iconst C dX9_everyKind_6 ?_
  refine y_isub C dX9_everyKind_7 ?_
  exact hret _ _ _ _ dX9_everyKind_8 ⟨(a103 - 1), rfl, rfl, by omega⟩
set_option maxHeartbeats 4000000 in
theorem s1_X9_isShut {l : Launch} {dC : Nat → ClassId} {dI : Nat → Nat → Nat} {ad : Nat → Nat} {cA : Nat → ClassId} {pr : Nat → Nat → Bool} {Kz : mm_M} {M0 : mm_M} (hM0 : INV pr Kz M0) {v0 : Nat} (cv0 : s_c v0 = 8) : Ci l 1 yX9_isShut wsX9_isShut dC dI ad cA [.ref (ad v0)] M0 (fun r M' => ∃ a : Int, r = sI a ∧ M0 = M' ∧ 0 ≤ a ∧ a ≤ 1 ∧ ((a = 0) ∨ (a = 1))) := by
  refine ci_of (cc := cX9_isShut) (maxL := 1) (ty := .boolean) (lv := [(0, .ref (ad v0))]) (by decide) rfl (fun r M' hp => by obtain ⟨a, rfl, -, h⟩ := hp; rcases (show a = 0 ∨ a = 1 by omega) with rfl | rfl <;> rfl) (Nat.le_of_ble_eq_true rfl) rfl ?_
  intro p e s m args below meth c A Q C hret
  refine j_aload_n C 0 0 dX9_isShut_0 rfl rfl ?_
  refine j_callVi C (d := 0) (As := []) (st := []) v0 (s_lt cv0 rfl) (s_kc (c := 8) cv0 rfl) (by decide) rfl (s1_X9_everyKind hM0 cv0) gX9_isShut_X9_everyKind rfl hdX9_everyKind (by decide) (Nat.le_of_ble_eq_true rfl) dX9_isShut_1 rfl (fun r101 M102 h103 => ?_)
  obtain ⟨a105, rfl, rfl, h104⟩ := h103
  refine j_aload_n C 0 0 dX9_isShut_4 rfl rfl ?_
  refine y_getI C 8 _ _ fX9_isShut_25 cv0 rfl ft_8_4 sb_8_4 hM0 dX9_isShut_5 (fun a106 ea106 la106 ua106 => ?_)
  refine y_iconst C dX9_isShut_8 ?_
  refine y_not C dX9_isShut_9 ?_
  refine y_iandL C dX9_isShut_10 (by omega) (fun a108 la108 ua108 => ?_)
  refine j_aload_n C 0 0 dX9_isShut_11 rfl rfl ?_
  refine y_getI C 8 _ _ fX9_isShut_22 cv0 rfl ft_8_3 sb_8_3 hM0 dX9_isShut_12 (fun a109 ea109 la109 ua109 => ?_)
  refine y_iconst C dX9_isShut_15 ?_
  refine y_not C dX9_isShut_16 ?_
  refine y_iandL C dX9_isShut_17 (by omega) (fun a111 la111 ua111 => ?_)
  refine y_if_ne C 25 dX9_isShut_18 (by decide) (by omega) (fun h112 => ?_) (fun h112 => ?_)
  · refine y_iconst C dX9_isShut_25 ?_
    exact hret _ _ _ _ dX9_isShut_26 ⟨0, rfl, rfl, by omega⟩
  · refine y_iconst C dX9_isShut_21 ?_
    refine j_goto C 26 dX9_isShut_22 (by decide) ?_
    exact hret _ _ _ _ dX9_isShut_26 ⟨1, rfl, rfl, by omega⟩
set_option maxHeartbeats 4000000 in
theorem s1_X1_visitBy {l : Launch} {dC : Nat → ClassId} {dI : Nat → Nat → Nat} {ad : Nat → Nat} {cA : Nat → ClassId} {pr : Nat → Nat → Bool} {Kz : mm_M} {M0 : mm_M} (hM0 : INV pr Kz M0) (hpr : PX pr) {v1 : Nat} (cv1 : s_c v1 = 6) {v2 : Nat} (cv2 : s_c v2 = 8) (a3 : Int) (ha3 : -2147483648 ≤ a3 ∧ a3 ≤ 2147483647) : Ci l 4 yX1_visitBy wsX1_visitBy dC dI ad cA [.ref (ad 87), .ref (ad v1), .ref (ad v2), .int (sI a3)] M0 (fun r M' => ∃ a : Int, r = sI a ∧ INV pr Kz M' ∧ (-13) ≤ a ∧ a ≤ 7) := by
  refine ci_of (cc := cX1_visitBy) (maxL := 5) (ty := .int) (lv := [(0, .ref (ad 87)), (1, .ref (ad v1)), (2, .ref (ad v2)), (3, .int (sI a3))]) (by decide) rfl (fun r M' hp => rfl) (Nat.le_of_ble_eq_true rfl) rfl ?_
  intro p e s m args below meth c A Q C hret
  refine j_iload_n C 3 3 dX1_visitBy_0 rfl rfl ?_
  refine y_if_lt C 12 dX1_visitBy_1 (by decide) (by omega) (fun h101 => ?_) (fun h101 => ?_)
  · refine y_bipush C dX1_visitBy_12 rfl ?_
    exact hret _ _ _ _ dX1_visitBy_14 ⟨(-11), rfl, hM0, by omega⟩
  · refine j_iload_n C 3 3 dX1_visitBy_4 rfl rfl ?_
    refine j_aload_n C 1 1 dX1_visitBy_5 rfl rfl ?_
    refine y_getI C 6 _ _ fX1_visitBy_15 cv1 rfl ft_6_0 sb_6_0 hM0 dX1_visitBy_6 (fun a102 ea102 la102 ua102 => ?_)
    refine y_icmp_lt C 15 dX1_visitBy_9 (by decide) (by omega) (fun h104 => ?_) (fun h104 => ?_)
    · refine j_aload_n C 2 2 dX1_visitBy_15 rfl rfl ?_
      refine j_callVi C (d := 1) (As := []) (st := []) v2 (s_lt cv2 rfl) (s_kc (c := 8) cv2 rfl) (by decide) rfl (s1_X9_isShut hM0 cv2) gX1_visitBy_X9_isShut rfl hdX9_isShut (by decide) (Nat.le_of_ble_eq_true rfl) dX1_visitBy_16 rfl (fun r105 M106 h107 => ?_)
      obtain ⟨a109, rfl, rfl, h108⟩ := h107
      refine y_if_eq C 25 dX1_visitBy_19 (by decide) (by omega) (fun h110 => ?_) (fun h110 => ?_)
      · refine j_aload_n C 0 0 dX1_visitBy_25 rfl rfl ?_
        refine y_getC C 1 81 fX1_visitBy_9 rfl rfl ft_1_0 sm_1_0 rfl hM0 dX1_visitBy_26 ?_
        refine j_aload_n C 1 1 dX1_visitBy_29 rfl rfl ?_
        refine j_aload_n C 2 2 dX1_visitBy_30 rfl rfl ?_
        refine j_callVv C (d := 0) (As := [.ref (ad v1), .ref (ad v2)]) (st := []) 81 (s_lt rfl rfl) (s_kc (c := 3) rfl rfl) (by decide) rfl (s1_X4_tune hM0 hpr cv1 cv2) gX1_visitBy_X4_tune rfl hdX4_tune (by decide) (Nat.le_of_ble_eq_true rfl) dX1_visitBy_31 rfl (fun M112 h113 => ?_)
        have hM112 := h113
        refine j_aload_n C 0 0 dX1_visitBy_34 rfl rfl ?_
        refine y_getC C 1 81 fX1_visitBy_9 rfl rfl ft_1_0 sm_1_0 rfl hM112 dX1_visitBy_35 ?_
        refine j_iload_n C 3 3 dX1_visitBy_38 rfl rfl ?_
        refine j_aload_n C 2 2 dX1_visitBy_39 rfl rfl ?_
        refine y_getI C 8 _ _ fX1_visitBy_33 cv2 rfl ft_8_3 sb_8_3 hM112 dX1_visitBy_40 (fun a115 ea115 la115 ua115 => ?_)
        refine j_aload_n C 2 2 dX1_visitBy_43 rfl rfl ?_
        refine y_getI C 8 _ _ fX1_visitBy_36 cv2 rfl ft_8_4 sb_8_4 hM112 dX1_visitBy_44 (fun a117 ea117 la117 ua117 => ?_)
        refine j_callVi C (d := 3) (As := [.int (sI a3), .int (sI a115), .int (sI a117)]) (st := []) 81 (s_lt rfl rfl) (s_kc (c := 3) rfl rfl) (by decide) rfl (s1_X4_choice hM112 hpr a3 (by omega) a115 (by omega) a117 (by omega) (by omega)) gX1_visitBy_X4_choice rfl hdX4_choice (by decide) (Nat.le_of_ble_eq_true rfl) dX1_visitBy_47 rfl (fun r119 M120 h121 => ?_)
        obtain ⟨a123, rfl, hM120, h122⟩ := h121
        refine j_istore C 4 [(4, .int (sI a123)), (0, .ref (ad 87)), (1, .ref (ad v1)), (2, .ref (ad v2)), (3, .int (sI a3))] dX1_visitBy_50 (by decide) rfl ?_
        refine j_iload C 0 dX1_visitBy_52 rfl ?_
        refine y_if_ge C 60 dX1_visitBy_54 (by decide) (by omega) (fun h124 => ?_) (fun h124 => ?_)
        · refine j_aload_n C 3 2 dX1_visitBy_60 rfl rfl ?_
          refine j_dup C dX1_visitBy_61 rfl ?_
          refine y_getI C 8 _ _ fX1_visitBy_33 cv2 rfl ft_8_3 sb_8_3 hM120 dX1_visitBy_62 (fun a125 ea125 la125 ua125 => ?_)
          refine y_iconst C dX1_visitBy_65 ?_
          refine j_iload C 0 dX1_visitBy_66 rfl ?_
          refine y_shl1 C 7 128 dX1_visitBy_68 rfl (by decide) (by omega) (fun a127 la127 ua127 => ?_)
          refine y_iorN C 8 255 dX1_visitBy_69 rfl (by decide) (by omega) (fun a128 la128 ua128 => ?_)
          refine y_putI C 8 _ _ qX1_visitBy_33 cv2 rfl ft_8_3 sb_8_3 hM120 (PX.w hpr cv2 rfl) dX1_visitBy_70 (by omega) (fun M129 eM129 hM129 => ?_)
          refine j_aload_n C 3 2 dX1_visitBy_73 rfl rfl ?_
          refine j_dup C dX1_visitBy_74 rfl ?_
          refine y_getI C 8 _ _ fX1_visitBy_43 cv2 rfl ft_8_5 sb_8_5 hM129 dX1_visitBy_75 (fun a130 ea130 la130 ua130 => ?_)
          refine j_aload_n C 3 2 dX1_visitBy_78 rfl rfl ?_
          refine y_getT C 8 25 fX1_visitBy_46 cv2 rfl ft_8_1 rfl sm_8_1 st_8_1 (by decide) hM129 dX1_visitBy_79 (fun v132 cv132 => ?_)
          refine j_iload C 0 dX1_visitBy_82 rfl ?_
          refine y_iald C 25 8 _ _ cv132 rfl rfl ak_25 an_25 rfl (sb_25 _) hM129 dX1_visitBy_84 (by omega) (fun a133 ea133 la133 ua133 => ?_)
          refine y_iadd0 C dX1_visitBy_85 (fun a134 la134 ua134 => ?_)
          refine y_putIF C 8 qX1_visitBy_43 cv2 rfl ft_8_5 sb_8_5 hM129 (PX.w hpr cv2 rfl) dX1_visitBy_86 (fun M135 eM135 hM135 => ?_)
          refine j_iload C 0 dX1_visitBy_89 rfl ?_
          exact hret _ _ _ _ dX1_visitBy_91 ⟨a123, rfl, hM135, by omega⟩
        · refine y_bipush C dX1_visitBy_57 rfl ?_
          exact hret _ _ _ _ dX1_visitBy_59 ⟨(-13), rfl, hM120, by omega⟩
      · refine y_bipush C dX1_visitBy_22 rfl ?_
        exact hret _ _ _ _ dX1_visitBy_24 ⟨(-12), rfl, hM0, by omega⟩
    · refine y_bipush C dX1_visitBy_12 rfl ?_
      exact hret _ _ _ _ dX1_visitBy_14 ⟨(-11), rfl, hM0, by omega⟩
set_option maxHeartbeats 4000000 in
theorem s1_X11_settle {l : Launch} {dC : Nat → ClassId} {dI : Nat → Nat → Nat} {ad : Nat → Nat} {cA : Nat → ClassId} {pr : Nat → Nat → Bool} {Kz : mm_M} {M0 : mm_M} (hM0 : INV pr Kz M0) (hpr : PX pr) (hq8_0 : ∀ i, s_c i = 8 → pr i 0 = false) (a1 : Int) (ha1 : -2147483648 ≤ a1 ∧ a1 ≤ 2147483647) : Ci l 2 yX11_settle wsX11_settle dC dI ad cA [.ref (ad 0), .int (sI a1)] M0 (fun r M' => ∃ a : Int, r = sI a ∧ INV pr Kz M' ∧ (-2147483648) ≤ a ∧ a ≤ 2147483647) := by
  refine ci_of (cc := cX11_settle) (maxL := 2) (ty := .int) (lv := [(0, .ref (ad 0)), (1, .int (sI a1))]) (by decide) rfl (fun r M' hp => rfl) (Nat.le_of_ble_eq_true rfl) rfl ?_
  intro p e s m args below meth c A Q C hret
  refine j_iload_n C 1 1 dX11_settle_0 rfl rfl ?_
  refine y_if_lt C 15 dX11_settle_1 (by decide) (by omega) (fun h101 => ?_) (fun h101 => ?_)
  · refine j_iload_n C 1 1 dX11_settle_15 rfl rfl ?_
    exact hret _ _ _ _ dX11_settle_16 ⟨a1, rfl, hM0, by omega⟩
  · refine j_aload_n C 0 0 dX11_settle_4 rfl rfl ?_
    refine y_getC C 10 18 fX11_settle_46 rfl rfl ft_10_8 sm_10_8 rfl hM0 dX11_settle_5 ?_
    refine j_aload_n C 0 0 dX11_settle_8 rfl rfl ?_
    refine y_getC C 10 15 fX11_settle_40 rfl rfl ft_10_7 sm_10_7 rfl hM0 dX11_settle_9 ?_
    refine j_callVv C (d := 1) (As := [.ref (ad 15)]) (st := []) 18 (s_lt rfl rfl) (s_kc (c := 5) rfl rfl) (by decide) rfl (s1_X6_keep hM0 hpr hq8_0 rfl) gX11_settle_X6_keep rfl hdX6_keep (by decide) (Nat.le_of_ble_eq_true rfl) dX11_settle_12 rfl (fun M103 h104 => ?_)
    have hM103 := h104
    refine j_iload_n C 1 1 dX11_settle_15 rfl rfl ?_
    exact hret _ _ _ _ dX11_settle_16 ⟨a1, rfl, hM103, by omega⟩
set_option maxHeartbeats 4000000 in
theorem s1_X11_visit {l : Launch} {dC : Nat → ClassId} {dI : Nat → Nat → Nat} {ad : Nat → Nat} {cA : Nat → ClassId} {pr : Nat → Nat → Bool} {Kz : mm_M} {M0 : mm_M} (hM0 : INV pr Kz M0) (hpr : PX pr) (hq8_0 : ∀ i, s_c i = 8 → pr i 0 = false) (a1 : Int) (ha1 : -2147483648 ≤ a1 ∧ a1 ≤ 2147483647) : Ci l 5 yX11_visit wsX11_visit dC dI ad cA [.ref (ad 0), .int (sI a1)] M0 (fun r M' => ∃ a : Int, r = sI a ∧ INV pr Kz M' ∧ (-2147483648) ≤ a ∧ a ≤ 2147483647) := by
  refine ci_of (cc := cX11_visit) (maxL := 2) (ty := .int) (lv := [(0, .ref (ad 0)), (1, .int (sI a1))]) (by decide) rfl (fun r M' hp => rfl) (Nat.le_of_ble_eq_true rfl) rfl ?_
  intro p e s m args below meth c A Q C hret
  refine j_aload_n C 0 0 dX11_visit_0 rfl rfl ?_
  refine y_getC C 10 15 fX11_visit_40 rfl rfl ft_10_7 sm_10_7 rfl hM0 dX11_visit_1 ?_
  refine j_aload_n C 0 0 dX11_visit_4 rfl rfl ?_
  refine y_getC C 10 12 fX11_visit_36 rfl rfl ft_10_6 sm_10_6 rfl hM0 dX11_visit_5 ?_
  refine j_callVv C (d := 0) (As := [.ref (ad 12)]) (st := []) 15 (s_lt rfl rfl) (s_kc (c := 8) rfl rfl) (by decide) rfl (s1_X9_copyFrom hM0 hpr hq8_0 rfl rfl) gX11_visit_X9_copyFrom rfl hdX9_copyFrom (by decide) (Nat.le_of_ble_eq_true rfl) dX11_visit_8 rfl (fun M102 h103 => ?_)
  have hM102 := h103
  refine j_aload_n C 0 0 dX11_visit_11 rfl rfl ?_
  refine j_aload_n C 0 0 dX11_visit_12 rfl rfl ?_
  refine y_getC C 10 87 fX11_visit_85 rfl rfl ft_10_13 sm_10_13 rfl hM102 dX11_visit_13 ?_
  refine j_aload_n C 0 0 dX11_visit_16 rfl rfl ?_
  refine y_getM C 10 6 fX11_visit_26 rfl rfl ft_10_4 sm_10_4 (by decide) hM102 dX11_visit_17 (fun v105 ev105 cv105 => ?_)
  refine j_aload_n C 0 0 dX11_visit_20 rfl rfl ?_
  refine y_getC C 10 12 fX11_visit_36 rfl rfl ft_10_6 sm_10_6 rfl hM102 dX11_visit_21 ?_
  refine j_iload_n C 1 1 dX11_visit_24 rfl rfl ?_
  refine j_callVi C (d := 4) (As := [.ref (ad v105), .ref (ad 12), .int (sI a1)]) (st := [.ref (ad 0)]) 87 (s_lt rfl rfl) (s_kc (c := 1) rfl rfl) (by decide) rfl (s1_X1_visitBy hM102 hpr cv105 rfl a1 (by omega)) gX11_visit_X1_visitBy rfl hdX1_visitBy (by decide) (Nat.le_of_ble_eq_true rfl) dX11_visit_25 rfl (fun r106 M107 h108 => ?_)
  obtain ⟨a110, rfl, hM107, h109⟩ := h108
  refine j_callVi C (d := 2) (As := [.int (sI a110)]) (st := []) 0 (s_lt rfl rfl) (s_kc (c := 10) rfl rfl) (by decide) rfl (s1_X11_settle hM107 hpr hq8_0 a110 (by omega)) gX11_visit_X11_settle rfl hdX11_settle (by decide) (Nat.le_of_ble_eq_true rfl) dX11_visit_28 rfl (fun r111 M112 h113 => ?_)
  obtain ⟨a115, rfl, hM112, h114⟩ := h113
  exact hret _ _ _ _ dX11_visit_31 ⟨a115, rfl, hM112, by omega⟩
set_option maxHeartbeats 4000000 in
theorem s1_X9_holds {l : Launch} {dC : Nat → ClassId} {dI : Nat → Nat → Nat} {ad : Nat → Nat} {cA : Nat → ClassId} {pr : Nat → Nat → Bool} {Kz : mm_M} {M0 : mm_M} (hM0 : INV pr Kz M0) {v0 : Nat} (cv0 : s_c v0 = 8) (a1 : Int) (ha1 : -2147483648 ≤ a1 ∧ a1 ≤ 2147483647) : Ci l 0 yX9_holds wsX9_holds dC dI ad cA [.ref (ad v0), .int (sI a1)] M0 (fun r M' => ∃ a : Int, r = sI a ∧ M0 = M' ∧ 0 ≤ a ∧ a ≤ 1 ∧ ((a1 < 0 ∧ a = 0) ∨ (0 ≤ (M0.1 v0 0).toInt ∧ (M0.1 v0 0).toInt ≤ 8 ∧ 0 ≤ a1 ∧ (M0.1 v0 0).toInt ≤ a1 ∧ a = 0) ∨ (1 ≤ (M0.1 v0 0).toInt ∧ (M0.1 v0 0).toInt ≤ 8 ∧ 0 ≤ a1 ∧ a1 < (M0.1 v0 0).toInt ∧ a = 1))) := by
  refine ci_of (cc := cX9_holds) (maxL := 2) (ty := .boolean) (lv := [(0, .ref (ad v0)), (1, .int (sI a1))]) (by decide) rfl (fun r M' hp => by obtain ⟨a, rfl, -, h⟩ := hp; rcases (show a = 0 ∨ a = 1 by omega) with rfl | rfl <;> rfl) (Nat.le_of_ble_eq_true rfl) rfl ?_
  intro p e s m args below meth c A Q C hret
  refine j_iload_n C 1 1 dX9_holds_0 rfl rfl ?_
  refine y_if_lt C 16 dX9_holds_1 (by decide) (by omega) (fun h101 => ?_) (fun h101 => ?_)
  · refine y_iconst C dX9_holds_16 ?_
    exact hret _ _ _ _ dX9_holds_17 ⟨0, rfl, rfl, by omega⟩
  · refine j_iload_n C 1 1 dX9_holds_4 rfl rfl ?_
    refine j_aload_n C 0 0 dX9_holds_5 rfl rfl ?_
    refine y_getI C 8 _ _ fX9_holds_9 cv0 rfl ft_8_0 sb_8_0 hM0 dX9_holds_6 (fun a102 ea102 la102 ua102 => ?_)
    refine y_icmp_ge C 16 dX9_holds_9 (by decide) (by omega) (fun h104 => ?_) (fun h104 => ?_)
    · refine y_iconst C dX9_holds_16 ?_
      exact hret _ _ _ _ dX9_holds_17 ⟨0, rfl, rfl, by omega⟩
    · refine y_iconst C dX9_holds_12 ?_
      refine j_goto C 17 dX9_holds_13 (by decide) ?_
      exact hret _ _ _ _ dX9_holds_17 ⟨1, rfl, rfl, by omega⟩
set_option maxHeartbeats 4000000 in
theorem s1_X1_giveAway {l : Launch} {dC : Nat → ClassId} {dI : Nat → Nat → Nat} {ad : Nat → Nat} {cA : Nat → ClassId} {pr : Nat → Nat → Bool} {Kz : mm_M} {M0 : mm_M} (hM0 : INV pr Kz M0) (hpr : PX pr) {v1 : Nat} (cv1 : s_c v1 = 8) (a2 : Int) (ha2 : -2147483648 ≤ a2 ∧ a2 ≤ 2147483647) : Ci l 2 yX1_giveAway wsX1_giveAway dC dI ad cA [.ref (ad 87), .ref (ad v1), .int (sI a2)] M0 (fun r M' => ∃ a : Int, r = sI a ∧ INV pr Kz M' ∧ (-2147483648) ≤ a ∧ a ≤ 2147483647) := by
  refine ci_of (cc := cX1_giveAway) (maxL := 3) (ty := .int) (lv := [(0, .ref (ad 87)), (1, .ref (ad v1)), (2, .int (sI a2))]) (by decide) rfl (fun r M' hp => rfl) (Nat.le_of_ble_eq_true rfl) rfl ?_
  intro p e s m args below meth c A Q C hret
  refine j_aload_n C 1 1 dX1_giveAway_0 rfl rfl ?_
  refine j_iload_n C 2 2 dX1_giveAway_1 rfl rfl ?_
  refine j_callVi C (d := 0) (As := [.int (sI a2)]) (st := []) v1 (s_lt cv1 rfl) (s_kc (c := 8) cv1 rfl) (by decide) rfl (s1_X9_holds hM0 cv1 a2 (by omega)) gX1_giveAway_X9_holds rfl hdX9_holds (by decide) (Nat.le_of_ble_eq_true rfl) dX1_giveAway_2 rfl (fun r101 M102 h103 => ?_)
  obtain ⟨a105, rfl, rfl, h104⟩ := h103
  refine y_if_ne C 11 dX1_giveAway_5 (by decide) (by omega) (fun h106 => ?_) (fun h106 => ?_)
  · refine j_aload_n C 1 1 dX1_giveAway_11 rfl rfl ?_
    refine j_callVi C (d := 1) (As := []) (st := []) v1 (s_lt cv1 rfl) (s_kc (c := 8) cv1 rfl) (by decide) rfl (s1_X9_isShut hM0 cv1) gX1_giveAway_X9_isShut rfl hdX9_isShut (by decide) (Nat.le_of_ble_eq_true rfl) dX1_giveAway_12 rfl (fun r107 M108 h109 => ?_)
    obtain ⟨a111, rfl, rfl, h110⟩ := h109
    refine y_if_eq C 21 dX1_giveAway_15 (by decide) (by omega) (fun h112 => ?_) (fun h112 => ?_)
    · refine j_aload_n C 1 1 dX1_giveAway_21 rfl rfl ?_
      refine j_dup C dX1_giveAway_22 rfl ?_
      refine y_getI C 8 _ _ fX1_giveAway_54 cv1 rfl ft_8_6 sb_8_6 hM0 dX1_giveAway_23 (fun a113 ea113 la113 ua113 => ?_)
      refine y_iconst C dX1_giveAway_26 ?_
      refine y_iadd0 C dX1_giveAway_27 (fun a115 la115 ua115 => ?_)
      refine y_putIF C 8 qX1_giveAway_54 cv1 rfl ft_8_6 sb_8_6 hM0 (PX.w hpr cv1 rfl) dX1_giveAway_28 (fun M116 eM116 hM116 => ?_)
      refine j_aload_n C 1 1 dX1_giveAway_31 rfl rfl ?_
      refine y_getI C 8 _ _ fX1_giveAway_54 cv1 rfl ft_8_6 sb_8_6 hM116 dX1_giveAway_32 (fun a117 ea117 la117 ua117 => ?_)
      exact hret _ _ _ _ dX1_giveAway_35 ⟨a117, rfl, hM116, by omega⟩
    · refine y_bipush C dX1_giveAway_18 rfl ?_
      exact hret _ _ _ _ dX1_giveAway_20 ⟨(-12), rfl, hM0, by omega⟩
  · refine y_bipush C dX1_giveAway_8 rfl ?_
    exact hret _ _ _ _ dX1_giveAway_10 ⟨(-11), rfl, hM0, by omega⟩
