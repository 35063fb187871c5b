set_option maxHeartbeats 4000000 in
set_option maxRecDepth 100000 in
theorem om_feed {l : Launch} {dC : Nat → ClassId} {dI : Nat → Nat → Nat} {ad : Nat → Nat} {cA : Nat → ClassId} {B : mm_M} (hB : MB B) (p0 : Int32) (p1 : Int32) (p2 : Int32) (p3 : Int32) (p4 : Int32) : Ci l 0 yX12_feed wsX12_feed dC dI ad cA [.ref (ad 98), .int p0, .int p1, .int p2, .int p3, .int p4] B (fun r _ => r = fo_feed p0 p1 p2 p3 p4) := by
  refine ci_of (cc := cX12_feed) (maxL := 8) (ty := .int) (lv := [(0, .ref (ad 98)), (1, .int p0), (2, .int p1), (3, .int p2), (4, .int p3), (5, .int p4)]) (by decide) rfl (fun r M' hp => rfl) (Nat.le_of_ble_eq_true rfl) rfl ?_
  intro p e s m args below meth c A Q C hret
  refine j_aload_n C 0 0 dX12_feed_0 rfl rfl ?_
  refine j_iconst C 0 dX12_feed_1 (by decide) ?_
  refine j_putI C 11 qX12_feed_1 rfl rfl (by decide) rfl (by decide) rfl dX12_feed_2 ?_
  refine z_noI (show B.1 98 0 = 0 from hB.1 98 0 (by decide)) ?_
  refine j_aload_n C 0 0 dX12_feed_5 rfl rfl ?_
  refine j_getI C 11 0 fX12_feed_80 (by decide) rfl (by decide) rfl (show B.1 98 5 = 0 from hB.1 98 5 (by decide)) dX12_feed_6 ?_
  refine j_bipush C 20 dX12_feed_9 (by decide) ?_
  refine z_iadd C 20 (by decide) dX12_feed_11 ?_
  refine j_sipush C 900 dX12_feed_12 (by decide) ?_
  refine j_icmp_le_t C 21 dX12_feed_15 (by decide) (by decide) ?_
  refine j_iconst C 0 dX12_feed_21 (by decide) ?_
  refine j_istore C 6 [(6, .int 0), (0, .ref (ad 98)), (1, .int p0), (2, .int p1), (3, .int p2), (4, .int p3), (5, .int p4)] dX12_feed_22 (by decide) rfl ?_
  refine j_iload C 0 dX12_feed_24 rfl ?_
  refine j_bipush C 20 dX12_feed_26 (by decide) ?_
  refine j_icmp_ge_f C 121 dX12_feed_28 (by decide) (by decide) ?_
  refine j_iload C 0 dX12_feed_31 rfl ?_
  refine j_iconst C 4 dX12_feed_33 (by decide) ?_
  refine j_icmp_ge_f C 41 dX12_feed_34 (by decide) (by decide) ?_
  refine j_iload_n C 2 1 dX12_feed_37 rfl rfl ?_
  refine j_goto C 77 dX12_feed_38 (by decide) ?_
  refine j_istore C 7 [(7, .int p0), (6, .int 0), (0, .ref (ad 98)), (1, .int p0), (2, .int p1), (3, .int p2), (4, .int p3), (5, .int p4)] dX12_feed_77 (by decide) rfl ?_
  refine j_aload_n C 2 0 dX12_feed_79 rfl rfl ?_
  refine j_getP C 11 101 fX12_feed_21 (by decide) rfl (by decide) rfl (show B.2.2 98 3 = 101 from hB.2.2 98 3 (by decide)) dX12_feed_80 ?_
  refine j_aload_n C 2 0 dX12_feed_83 rfl rfl ?_
  refine j_getI C 11 0 fX12_feed_80 (by decide) rfl (by decide) rfl (show B.1 98 5 = 0 from hB.1 98 5 (by decide)) dX12_feed_84 ?_
  refine j_iload C 0 dX12_feed_87 rfl ?_
  refine j_bipush C 24 dX12_feed_89 (by decide) ?_
  refine j_bipush C 8 dX12_feed_91 (by decide) ?_
  refine j_iload C 1 dX12_feed_93 rfl ?_
  refine j_iconst C 4 dX12_feed_95 (by decide) ?_
  refine z_irem C 0 (by decide) (by decide) dX12_feed_96 ?_
  refine z_imul C 0 (by decide) dX12_feed_97 ?_
  refine z_isub C 24 (by decide) dX12_feed_98 ?_
  refine z_ishr C (p0 >>> ((24 : Int32) &&& 31)) rfl dX12_feed_99 ?_
  refine j_sipush C 255 dX12_feed_100 (by decide) ?_
  refine z_iand C ((p0 >>> ((24 : Int32) &&& 31)) &&& (255 : Int32)) rfl dX12_feed_103 ?_
  refine x_iast C 0 900 (by decide) rfl rfl rfl (by decide) (by decide) dX12_feed_104 ?_
  refine j_aload_n C 2 0 dX12_feed_105 rfl rfl ?_
  refine j_dup C dX12_feed_106 rfl ?_
  refine j_getI C 11 0 fX12_feed_80 (by decide) rfl (by decide) rfl (show B.1 98 5 = 0 from hB.1 98 5 (by decide)) dX12_feed_107 ?_
  refine j_iconst C 1 dX12_feed_110 (by decide) ?_
  refine z_iadd C 1 (by decide) dX12_feed_111 ?_
  refine j_putI C 11 qX12_feed_80 rfl rfl (by decide) rfl (by decide) rfl dX12_feed_112 ?_
  refine j_iinc C 1 1 [(6, .int 1), (7, .int p0), (0, .ref (ad 98)), (1, .int p0), (2, .int p1), (3, .int p2), (4, .int p3), (5, .int p4)] dX12_feed_115 rfl (by decide) (by decide) rfl ?_
  refine j_goto C 24 dX12_feed_118 (by decide) ?_
  refine j_iload C 0 dX12_feed_24 rfl ?_
  refine j_bipush C 20 dX12_feed_26 (by decide) ?_
  refine j_icmp_ge_f C 121 dX12_feed_28 (by decide) (by decide) ?_
  refine j_iload C 0 dX12_feed_31 rfl ?_
  refine j_iconst C 4 dX12_feed_33 (by decide) ?_
  refine j_icmp_ge_f C 41 dX12_feed_34 (by decide) (by decide) ?_
  refine j_iload_n C 3 1 dX12_feed_37 rfl rfl ?_
  refine j_goto C 77 dX12_feed_38 (by decide) ?_
  refine j_istore C 7 [(7, .int p0), (6, .int 1), (0, .ref (ad 98)), (1, .int p0), (2, .int p1), (3, .int p2), (4, .int p3), (5, .int p4)] dX12_feed_77 (by decide) rfl ?_
  refine j_aload_n C 2 0 dX12_feed_79 rfl rfl ?_
  refine j_getP C 11 101 fX12_feed_21 (by decide) rfl (by decide) rfl (show B.2.2 98 3 = 101 from hB.2.2 98 3 (by decide)) dX12_feed_80 ?_
  refine j_aload_n C 2 0 dX12_feed_83 rfl rfl ?_
  refine j_getI C 11 1 fX12_feed_80 (by decide) rfl (by decide) rfl rfl dX12_feed_84 ?_
  refine j_iload C 0 dX12_feed_87 rfl ?_
  refine j_bipush C 24 dX12_feed_89 (by decide) ?_
  refine j_bipush C 8 dX12_feed_91 (by decide) ?_
  refine j_iload C 1 dX12_feed_93 rfl ?_
  refine j_iconst C 4 dX12_feed_95 (by decide) ?_
  refine z_irem C 1 (by decide) (by decide) dX12_feed_96 ?_
  refine z_imul C 8 (by decide) dX12_feed_97 ?_
  refine z_isub C 16 (by decide) dX12_feed_98 ?_
  refine z_ishr C (p0 >>> ((16 : Int32) &&& 31)) rfl dX12_feed_99 ?_
  refine j_sipush C 255 dX12_feed_100 (by decide) ?_
  refine z_iand C ((p0 >>> ((16 : Int32) &&& 31)) &&& (255 : Int32)) rfl dX12_feed_103 ?_
  refine x_iast C 1 900 (by decide) rfl rfl rfl (by decide) (by decide) dX12_feed_104 ?_
  refine j_aload_n C 2 0 dX12_feed_105 rfl rfl ?_
  refine j_dup C dX12_feed_106 rfl ?_
  refine j_getI C 11 1 fX12_feed_80 (by decide) rfl (by decide) rfl rfl dX12_feed_107 ?_
  refine j_iconst C 1 dX12_feed_110 (by decide) ?_
  refine z_iadd C 2 (by decide) dX12_feed_111 ?_
  refine j_putI C 11 qX12_feed_80 rfl rfl (by decide) rfl (by decide) rfl dX12_feed_112 ?_
  refine j_M (M' := (wI (wI (wI B 101 0 ((p0 >>> ((24 : Int32) &&& 31)) &&& (255 : Int32))) 98 5 2) 101 1 ((p0 >>> ((16 : Int32) &&& 31)) &&& (255 : Int32)))) ((wI_c (by decide)).trans (congrArg (fun X => wI X 101 1 ((p0 >>> ((16 : Int32) &&& 31)) &&& (255 : Int32))) (wI_w _ _ _ _ _))) ?_
  refine j_iinc C 1 2 [(6, .int 2), (7, .int p0), (0, .ref (ad 98)), (1, .int p0), (2, .int p1), (3, .int p2), (4, .int p3), (5, .int p4)] dX12_feed_115 rfl (by decide) (by decide) rfl ?_
  refine j_goto C 24 dX12_feed_118 (by decide) ?_
  refine j_iload C 0 dX12_feed_24 rfl ?_
  refine j_bipush C 20 dX12_feed_26 (by decide) ?_
  refine j_icmp_ge_f C 121 dX12_feed_28 (by decide) (by decide) ?_
  refine j_iload C 0 dX12_feed_31 rfl ?_
  refine j_iconst C 4 dX12_feed_33 (by decide) ?_
  refine j_icmp_ge_f C 41 dX12_feed_34 (by decide) (by decide) ?_
  refine j_iload_n C 3 1 dX12_feed_37 rfl rfl ?_
  refine j_goto C 77 dX12_feed_38 (by decide) ?_
  refine j_istore C 7 [(7, .int p0), (6, .int 2), (0, .ref (ad 98)), (1, .int p0), (2, .int p1), (3, .int p2), (4, .int p3), (5, .int p4)] dX12_feed_77 (by decide) rfl ?_
  refine j_aload_n C 2 0 dX12_feed_79 rfl rfl ?_
  refine j_getP C 11 101 fX12_feed_21 (by decide) rfl (by decide) rfl (show B.2.2 98 3 = 101 from hB.2.2 98 3 (by decide)) dX12_feed_80 ?_
  refine j_aload_n C 2 0 dX12_feed_83 rfl rfl ?_
  refine j_getI C 11 2 fX12_feed_80 (by decide) rfl (by decide) rfl rfl dX12_feed_84 ?_
  refine j_iload C 0 dX12_feed_87 rfl ?_
  refine j_bipush C 24 dX12_feed_89 (by decide) ?_
  refine j_bipush C 8 dX12_feed_91 (by decide) ?_
  refine j_iload C 1 dX12_feed_93 rfl ?_
  refine j_iconst C 4 dX12_feed_95 (by decide) ?_
  refine z_irem C 2 (by decide) (by decide) dX12_feed_96 ?_
  refine z_imul C 16 (by decide) dX12_feed_97 ?_
  refine z_isub C 8 (by decide) dX12_feed_98 ?_
  refine z_ishr C (p0 >>> ((8 : Int32) &&& 31)) rfl dX12_feed_99 ?_
  refine j_sipush C 255 dX12_feed_100 (by decide) ?_
  refine z_iand C ((p0 >>> ((8 : Int32) &&& 31)) &&& (255 : Int32)) rfl dX12_feed_103 ?_
  refine x_iast C 2 900 (by decide) rfl rfl rfl (by decide) (by decide) dX12_feed_104 ?_
  refine j_aload_n C 2 0 dX12_feed_105 rfl rfl ?_
  refine j_dup C dX12_feed_106 rfl ?_
  refine j_getI C 11 2 fX12_feed_80 (by decide) rfl (by decide) rfl rfl dX12_feed_107 ?_
  refine j_iconst C 1 dX12_feed_110 (by decide) ?_
  refine z_iadd C 3 (by decide) dX12_feed_111 ?_
  refine j_putI C 11 qX12_feed_80 rfl rfl (by decide) rfl (by decide) rfl dX12_feed_112 ?_
  refine j_M (M' := (wI (wI (wI (wI B 101 0 ((p0 >>> ((24 : Int32) &&& 31)) &&& (255 : Int32))) 98 5 3) 101 1 ((p0 >>> ((16 : Int32) &&& 31)) &&& (255 : Int32))) 101 2 ((p0 >>> ((8 : Int32) &&& 31)) &&& (255 : Int32)))) ((wI_c (by decide)).trans (congrArg (fun X => wI X 101 2 ((p0 >>> ((8 : Int32) &&& 31)) &&& (255 : Int32))) ((wI_c (by decide)).trans (congrArg (fun X => wI X 101 1 ((p0 >>> ((16 : Int32) &&& 31)) &&& (255 : Int32))) (wI_w _ _ _ _ _))))) ?_
  refine j_iinc C 1 3 [(6, .int 3), (7, .int p0), (0, .ref (ad 98)), (1, .int p0), (2, .int p1), (3, .int p2), (4, .int p3), (5, .int p4)] dX12_feed_115 rfl (by decide) (by decide) rfl ?_
  refine j_goto C 24 dX12_feed_118 (by decide) ?_
  refine j_iload C 0 dX12_feed_24 rfl ?_
  refine j_bipush C 20 dX12_feed_26 (by decide) ?_
  refine j_icmp_ge_f C 121 dX12_feed_28 (by decide) (by decide) ?_
  refine j_iload C 0 dX12_feed_31 rfl ?_
  refine j_iconst C 4 dX12_feed_33 (by decide) ?_
  refine j_icmp_ge_f C 41 dX12_feed_34 (by decide) (by decide) ?_
  refine j_iload_n C 3 1 dX12_feed_37 rfl rfl ?_
  refine j_goto C 77 dX12_feed_38 (by decide) ?_
  refine j_istore C 7 [(7, .int p0), (6, .int 3), (0, .ref (ad 98)), (1, .int p0), (2, .int p1), (3, .int p2), (4, .int p3), (5, .int p4)] dX12_feed_77 (by decide) rfl ?_
  refine j_aload_n C 2 0 dX12_feed_79 rfl rfl ?_
  refine j_getP C 11 101 fX12_feed_21 (by decide) rfl (by decide) rfl (show B.2.2 98 3 = 101 from hB.2.2 98 3 (by decide)) dX12_feed_80 ?_
  refine j_aload_n C 2 0 dX12_feed_83 rfl rfl ?_
  refine j_getI C 11 3 fX12_feed_80 (by decide) rfl (by decide) rfl rfl dX12_feed_84 ?_
  refine j_iload C 0 dX12_feed_87 rfl ?_
  refine j_bipush C 24 dX12_feed_89 (by decide) ?_
  refine j_bipush C 8 dX12_feed_91 (by decide) ?_
  refine j_iload C 1 dX12_feed_93 rfl ?_
  refine j_iconst C 4 dX12_feed_95 (by decide) ?_
  refine z_irem C 3 (by decide) (by decide) dX12_feed_96 ?_
  refine z_imul C 24 (by decide) dX12_feed_97 ?_
  refine z_isub C 0 (by decide) dX12_feed_98 ?_
  refine z_ishr C (p0 >>> ((0 : Int32) &&& 31)) rfl dX12_feed_99 ?_
  refine j_sipush C 255 dX12_feed_100 (by decide) ?_
  refine z_iand C ((p0 >>> ((0 : Int32) &&& 31)) &&& (255 : Int32)) rfl dX12_feed_103 ?_
  refine x_iast C 3 900 (by decide) rfl rfl rfl (by decide) (by decide) dX12_feed_104 ?_
  refine j_aload_n C 2 0 dX12_feed_105 rfl rfl ?_
  refine j_dup C dX12_feed_106 rfl ?_
  refine j_getI C 11 3 fX12_feed_80 (by decide) rfl (by decide) rfl rfl dX12_feed_107 ?_
  refine j_iconst C 1 dX12_feed_110 (by decide) ?_
  refine z_iadd C 4 (by decide) dX12_feed_111 ?_
  refine j_putI C 11 qX12_feed_80 rfl rfl (by decide) rfl (by decide) rfl dX12_feed_112 ?_
  refine j_M (M' := (wI (wI (wI (wI (wI B 101 0 ((p0 >>> ((24 : Int32) &&& 31)) &&& (255 : Int32))) 98 5 4) 101 1 ((p0 >>> ((16 : Int32) &&& 31)) &&& (255 : Int32))) 101 2 ((p0 >>> ((8 : Int32) &&& 31)) &&& (255 : Int32))) 101 3 ((p0 >>> ((0 : Int32) &&& 31)) &&& (255 : Int32)))) ((wI_c (by decide)).trans (congrArg (fun X => wI X 101 3 ((p0 >>> ((0 : Int32) &&& 31)) &&& (255 : Int32))) ((wI_c (by decide)).trans (congrArg (fun X => wI X 101 2 ((p0 >>> ((8 : Int32) &&& 31)) &&& (255 : Int32))) ((wI_c (by decide)).trans (congrArg (fun X => wI X 101 1 ((p0 >>> ((16 : Int32) &&& 31)) &&& (255 : Int32))) (wI_w _ _ _ _ _))))))) ?_
  refine j_iinc C 1 4 [(6, .int 4), (7, .int p0), (0, .ref (ad 98)), (1, .int p0), (2, .int p1), (3, .int p2), (4, .int p3), (5, .int p4)] dX12_feed_115 rfl (by decide) (by decide) rfl ?_
  refine j_goto C 24 dX12_feed_118 (by decide) ?_
  refine j_iload C 0 dX12_feed_24 rfl ?_
  refine j_bipush C 20 dX12_feed_26 (by decide) ?_
  refine j_icmp_ge_f C 121 dX12_feed_28 (by decide) (by decide) ?_
  refine j_iload C 0 dX12_feed_31 rfl ?_
  refine j_iconst C 4 dX12_feed_33 (by decide) ?_
  refine j_icmp_ge_t C 41 dX12_feed_34 (by decide) (by decide) ?_
  refine j_iload C 0 dX12_feed_41 rfl ?_
  refine j_bipush C 8 dX12_feed_43 (by decide) ?_
  refine j_icmp_ge_f C 52 dX12_feed_45 (by decide) (by decide) ?_
  refine j_iload_n C 4 2 dX12_feed_48 rfl rfl ?_
  refine j_goto C 77 dX12_feed_49 (by decide) ?_
  refine j_istore C 7 [(7, .int p1), (6, .int 4), (0, .ref (ad 98)), (1, .int p0), (2, .int p1), (3, .int p2), (4, .int p3), (5, .int p4)] dX12_feed_77 (by decide) rfl ?_
  refine j_aload_n C 2 0 dX12_feed_79 rfl rfl ?_
  refine j_getP C 11 101 fX12_feed_21 (by decide) rfl (by decide) rfl (show B.2.2 98 3 = 101 from hB.2.2 98 3 (by decide)) dX12_feed_80 ?_
  refine j_aload_n C 2 0 dX12_feed_83 rfl rfl ?_
  refine j_getI C 11 4 fX12_feed_80 (by decide) rfl (by decide) rfl rfl dX12_feed_84 ?_
  refine j_iload C 0 dX12_feed_87 rfl ?_
  refine j_bipush C 24 dX12_feed_89 (by decide) ?_
  refine j_bipush C 8 dX12_feed_91 (by decide) ?_
  refine j_iload C 1 dX12_feed_93 rfl ?_
  refine j_iconst C 4 dX12_feed_95 (by decide) ?_
  refine z_irem C 0 (by decide) (by decide) dX12_feed_96 ?_
  refine z_imul C 0 (by decide) dX12_feed_97 ?_
  refine z_isub C 24 (by decide) dX12_feed_98 ?_
  refine z_ishr C (p1 >>> ((24 : Int32) &&& 31)) rfl dX12_feed_99 ?_
  refine j_sipush C 255 dX12_feed_100 (by decide) ?_
  refine z_iand C ((p1 >>> ((24 : Int32) &&& 31)) &&& (255 : Int32)) rfl dX12_feed_103 ?_
  refine x_iast C 4 900 (by decide) rfl rfl rfl (by decide) (by decide) dX12_feed_104 ?_
  refine j_aload_n C 2 0 dX12_feed_105 rfl rfl ?_
  refine j_dup C dX12_feed_106 rfl ?_
  refine j_getI C 11 4 fX12_feed_80 (by decide) rfl (by decide) rfl rfl dX12_feed_107 ?_
  refine j_iconst C 1 dX12_feed_110 (by decide) ?_
  refine z_iadd C 5 (by decide) dX12_feed_111 ?_
  refine j_putI C 11 qX12_feed_80 rfl rfl (by decide) rfl (by decide) rfl dX12_feed_112 ?_
  refine j_M (M' := (wI (wI (wI (wI (wI (wI B 101 0 ((p0 >>> ((24 : Int32) &&& 31)) &&& (255 : Int32))) 98 5 5) 101 1 ((p0 >>> ((16 : Int32) &&& 31)) &&& (255 : Int32))) 101 2 ((p0 >>> ((8 : Int32) &&& 31)) &&& (255 : Int32))) 101 3 ((p0 >>> ((0 : Int32) &&& 31)) &&& (255 : Int32))) 101 4 ((p1 >>> ((24 : Int32) &&& 31)) &&& (255 : Int32)))) ((wI_c (by decide)).trans (congrArg (fun X => wI X 101 4 ((p1 >>> ((24 : Int32) &&& 31)) &&& (255 : Int32))) ((wI_c (by decide)).trans (congrArg (fun X => wI X 101 3 ((p0 >>> ((0 : Int32) &&& 31)) &&& (255 : Int32))) ((wI_c (by decide)).trans (congrArg (fun X => wI X 101 2 ((p0 >>> ((8 : Int32) &&& 31)) &&& (255 : Int32))) ((wI_c (by decide)).trans (congrArg (fun X => wI X 101 1 ((p0 >>> ((16 : Int32) &&& 31)) &&& (255 : Int32))) (wI_w _ _ _ _ _))))))))) ?_
  refine j_iinc C 1 5 [(6, .int 5), (7, .int p1), (0, .ref (ad 98)), (1, .int p0), (2, .int p1), (3, .int p2), (4, .int p3), (5, .int p4)] dX12_feed_115 rfl (by decide) (by decide) rfl ?_
  refine j_goto C 24 dX12_feed_118 (by decide) ?_
  refine j_iload C 0 dX12_feed_24 rfl ?_
  refine j_bipush C 20 dX12_feed_26 (by decide) ?_
  refine j_icmp_ge_f C 121 dX12_feed_28 (by decide) (by decide) ?_
  refine j_iload C 0 dX12_feed_31 rfl ?_
  refine j_iconst C 4 dX12_feed_33 (by decide) ?_
  refine j_icmp_ge_t C 41 dX12_feed_34 (by decide) (by decide) ?_
  refine j_iload C 0 dX12_feed_41 rfl ?_
  refine j_bipush C 8 dX12_feed_43 (by decide) ?_
  refine j_icmp_ge_f C 52 dX12_feed_45 (by decide) (by decide) ?_
  refine j_iload_n C 4 2 dX12_feed_48 rfl rfl ?_
  refine j_goto C 77 dX12_feed_49 (by decide) ?_
  refine j_istore C 7 [(7, .int p1), (6, .int 5), (0, .ref (ad 98)), (1, .int p0), (2, .int p1), (3, .int p2), (4, .int p3), (5, .int p4)] dX12_feed_77 (by decide) rfl ?_
  refine j_aload_n C 2 0 dX12_feed_79 rfl rfl ?_
  refine j_getP C 11 101 fX12_feed_21 (by decide) rfl (by decide) rfl (show B.2.2 98 3 = 101 from hB.2.2 98 3 (by decide)) dX12_feed_80 ?_
  refine j_aload_n C 2 0 dX12_feed_83 rfl rfl ?_
  refine j_getI C 11 5 fX12_feed_80 (by decide) rfl (by decide) rfl rfl dX12_feed_84 ?_
  refine j_iload C 0 dX12_feed_87 rfl ?_
  refine j_bipush C 24 dX12_feed_89 (by decide) ?_
  refine j_bipush C 8 dX12_feed_91 (by decide) ?_
  refine j_iload C 1 dX12_feed_93 rfl ?_
  refine j_iconst C 4 dX12_feed_95 (by decide) ?_
  refine z_irem C 1 (by decide) (by decide) dX12_feed_96 ?_
  refine z_imul C 8 (by decide) dX12_feed_97 ?_
  refine z_isub C 16 (by decide) dX12_feed_98 ?_
  refine z_ishr C (p1 >>> ((16 : Int32) &&& 31)) rfl dX12_feed_99 ?_
  refine j_sipush C 255 dX12_feed_100 (by decide) ?_
  refine z_iand C ((p1 >>> ((16 : Int32) &&& 31)) &&& (255 : Int32)) rfl dX12_feed_103 ?_
  refine x_iast C 5 900 (by decide) rfl rfl rfl (by decide) (by decide) dX12_feed_104 ?_
  refine j_aload_n C 2 0 dX12_feed_105 rfl rfl ?_
  refine j_dup C dX12_feed_106 rfl ?_
  refine j_getI C 11 5 fX12_feed_80 (by decide) rfl (by decide) rfl rfl dX12_feed_107 ?_
  refine j_iconst C 1 dX12_feed_110 (by decide) ?_
  refine z_iadd C 6 (by decide) dX12_feed_111 ?_
  refine j_putI C 11 qX12_feed_80 rfl rfl (by decide) rfl (by decide) rfl dX12_feed_112 ?_
  refine j_M (M' := (wI (wI (wI (wI (wI (wI (wI B 101 0 ((p0 >>> ((24 : Int32) &&& 31)) &&& (255 : Int32))) 98 5 6) 101 1 ((p0 >>> ((16 : Int32) &&& 31)) &&& (255 : Int32))) 101 2 ((p0 >>> ((8 : Int32) &&& 31)) &&& (255 : Int32))) 101 3 ((p0 >>> ((0 : Int32) &&& 31)) &&& (255 : Int32))) 101 4 ((p1 >>> ((24 : Int32) &&& 31)) &&& (255 : Int32))) 101 5 ((p1 >>> ((16 : Int32) &&& 31)) &&& (255 : Int32)))) ((wI_c (by decide)).trans (congrArg (fun X => wI X 101 5 ((p1 >>> ((16 : Int32) &&& 31)) &&& (255 : Int32))) ((wI_c (by decide)).trans (congrArg (fun X => wI X 101 4 ((p1 >>> ((24 : Int32) &&& 31)) &&& (255 : Int32))) ((wI_c (by decide)).trans (congrArg (fun X => wI X 101 3 ((p0 >>> ((0 : Int32) &&& 31)) &&& (255 : Int32))) ((wI_c (by decide)).trans (congrArg (fun X => wI X 101 2 ((p0 >>> ((8 : Int32) &&& 31)) &&& (255 : Int32))) ((wI_c (by decide)).trans (congrArg (fun X => wI X 101 1 ((p0 >>> ((16 : Int32) &&& 31)) &&& (255 : Int32))) (wI_w _ _ _ _ _))))))))))) ?_
  refine j_iinc C 1 6 [(6, .int 6), (7, .int p1), (0, .ref (ad 98)), (1, .int p0), (2, .int p1), (3, .int p2), (4, .int p3), (5, .int p4)] dX12_feed_115 rfl (by decide) (by decide) rfl ?_
  refine j_goto C 24 dX12_feed_118 (by decide) ?_
  refine j_iload C 0 dX12_feed_24 rfl ?_
  refine j_bipush C 20 dX12_feed_26 (by decide) ?_
  refine j_icmp_ge_f C 121 dX12_feed_28 (by decide) (by decide) ?_
  refine j_iload C 0 dX12_feed_31 rfl ?_
  refine j_iconst C 4 dX12_feed_33 (by decide) ?_
  refine j_icmp_ge_t C 41 dX12_feed_34 (by decide) (by decide) ?_
  refine j_iload C 0 dX12_feed_41 rfl ?_
  refine j_bipush C 8 dX12_feed_43 (by decide) ?_
  refine j_icmp_ge_f C 52 dX12_feed_45 (by decide) (by decide) ?_
  refine j_iload_n C 4 2 dX12_feed_48 rfl rfl ?_
  refine j_goto C 77 dX12_feed_49 (by decide) ?_
  refine j_istore C 7 [(7, .int p1), (6, .int 6), (0, .ref (ad 98)), (1, .int p0), (2, .int p1), (3, .int p2), (4, .int p3), (5, .int p4)] dX12_feed_77 (by decide) rfl ?_
  refine j_aload_n C 2 0 dX12_feed_79 rfl rfl ?_
  refine j_getP C 11 101 fX12_feed_21 (by decide) rfl (by decide) rfl (show B.2.2 98 3 = 101 from hB.2.2 98 3 (by decide)) dX12_feed_80 ?_
  refine j_aload_n C 2 0 dX12_feed_83 rfl rfl ?_
  refine j_getI C 11 6 fX12_feed_80 (by decide) rfl (by decide) rfl rfl dX12_feed_84 ?_
  refine j_iload C 0 dX12_feed_87 rfl ?_
  refine j_bipush C 24 dX12_feed_89 (by decide) ?_
  refine j_bipush C 8 dX12_feed_91 (by decide) ?_
  refine j_iload C 1 dX12_feed_93 rfl ?_
  refine j_iconst C 4 dX12_feed_95 (by decide) ?_
  refine z_irem C 2 (by decide) (by decide) dX12_feed_96 ?_
  refine z_imul C 16 (by decide) dX12_feed_97 ?_
  refine z_isub C 8 (by decide) dX12_feed_98 ?_
  refine z_ishr C (p1 >>> ((8 : Int32) &&& 31)) rfl dX12_feed_99 ?_
  refine j_sipush C 255 dX12_feed_100 (by decide) ?_
  refine z_iand C ((p1 >>> ((8 : Int32) &&& 31)) &&& (255 : Int32)) rfl dX12_feed_103 ?_
  refine x_iast C 6 900 (by decide) rfl rfl rfl (by decide) (by decide) dX12_feed_104 ?_
  refine j_aload_n C 2 0 dX12_feed_105 rfl rfl ?_
  refine j_dup C dX12_feed_106 rfl ?_
  refine j_getI C 11 6 fX12_feed_80 (by decide) rfl (by decide) rfl rfl dX12_feed_107 ?_
  refine j_iconst C 1 dX12_feed_110 (by decide) ?_
  refine z_iadd C 7 (by decide) dX12_feed_111 ?_
  refine j_putI C 11 qX12_feed_80 rfl rfl (by decide) rfl (by decide) rfl dX12_feed_112 ?_
  refine j_M (M' := (wI (wI (wI (wI (wI (wI (wI (wI B 101 0 ((p0 >>> ((24 : Int32) &&& 31)) &&& (255 : Int32))) 98 5 7) 101 1 ((p0 >>> ((16 : Int32) &&& 31)) &&& (255 : Int32))) 101 2 ((p0 >>> ((8 : Int32) &&& 31)) &&& (255 : Int32))) 101 3 ((p0 >>> ((0 : Int32) &&& 31)) &&& (255 : Int32))) 101 4 ((p1 >>> ((24 : Int32) &&& 31)) &&& (255 : Int32))) 101 5 ((p1 >>> ((16 : Int32) &&& 31)) &&& (255 : Int32))) 101 6 ((p1 >>> ((8 : Int32) &&& 31)) &&& (255 : Int32)))) ((wI_c (by decide)).trans (congrArg (fun X => wI X 101 6 ((p1 >>> ((8 : Int32) &&& 31)) &&& (255 : Int32))) ((wI_c (by decide)).trans (congrArg (fun X => wI X 101 5 ((p1 >>> ((16 : Int32) &&& 31)) &&& (255 : Int32))) ((wI_c (by decide)).trans (congrArg (fun X => wI X 101 4 ((p1 >>> ((24 : Int32) &&& 31)) &&& (255 : Int32))) ((wI_c (by decide)).trans (congrArg (fun X => wI X 101 3 ((p0 >>> ((0 : Int32) &&& 31)) &&& (255 : Int32))) ((wI_c (by decide)).trans (congrArg (fun X => wI X 101 2 ((p0 >>> ((8 : Int32) &&& 31)) &&& (255 : Int32))) ((wI_c (by decide)).trans (congrArg (fun X => wI X 101 1 ((p0 >>> ((16 : Int32) &&& 31)) &&& (255 : Int32))) (wI_w _ _ _ _ _))))))))))))) ?_
  refine j_iinc C 1 7 [(6, .int 7), (7, .int p1), (0, .ref (ad 98)), (1, .int p0), (2, .int p1), (3, .int p2), (4, .int p3), (5, .int p4)] dX12_feed_115 rfl (by decide) (by decide) rfl ?_
  refine j_goto C 24 dX12_feed_118 (by decide) ?_
  refine j_iload C 0 dX12_feed_24 rfl ?_
  refine j_bipush C 20 dX12_feed_26 (by decide) ?_
  refine j_icmp_ge_f C 121 dX12_feed_28 (by decide) (by decide) ?_
  refine j_iload C 0 dX12_feed_31 rfl ?_
  refine j_iconst C 4 dX12_feed_33 (by decide) ?_
  refine j_icmp_ge_t C 41 dX12_feed_34 (by decide) (by decide) ?_
  refine j_iload C 0 dX12_feed_41 rfl ?_
  refine j_bipush C 8 dX12_feed_43 (by decide) ?_
  refine j_icmp_ge_f C 52 dX12_feed_45 (by decide) (by decide) ?_
  refine j_iload_n C 4 2 dX12_feed_48 rfl rfl ?_
  refine j_goto C 77 dX12_feed_49 (by decide) ?_
  refine j_istore C 7 [(7, .int p1), (6, .int 7), (0, .ref (ad 98)), (1, .int p0), (2, .int p1), (3, .int p2), (4, .int p3), (5, .int p4)] dX12_feed_77 (by decide) rfl ?_
  refine j_aload_n C 2 0 dX12_feed_79 rfl rfl ?_
  refine j_getP C 11 101 fX12_feed_21 (by decide) rfl (by decide) rfl (show B.2.2 98 3 = 101 from hB.2.2 98 3 (by decide)) dX12_feed_80 ?_
  refine j_aload_n C 2 0 dX12_feed_83 rfl rfl ?_
  refine j_getI C 11 7 fX12_feed_80 (by decide) rfl (by decide) rfl rfl dX12_feed_84 ?_
  refine j_iload C 0 dX12_feed_87 rfl ?_
  refine j_bipush C 24 dX12_feed_89 (by decide) ?_
  refine j_bipush C 8 dX12_feed_91 (by decide) ?_
  refine j_iload C 1 dX12_feed_93 rfl ?_
  refine j_iconst C 4 dX12_feed_95 (by decide) ?_
  refine z_irem C 3 (by decide) (by decide) dX12_feed_96 ?_
  refine z_imul C 24 (by decide) dX12_feed_97 ?_
  refine z_isub C 0 (by decide) dX12_feed_98 ?_
  refine z_ishr C (p1 >>> ((0 : Int32) &&& 31)) rfl dX12_feed_99 ?_
  refine j_sipush C 255 dX12_feed_100 (by decide) ?_
  refine z_iand C ((p1 >>> ((0 : Int32) &&& 31)) &&& (255 : Int32)) rfl dX12_feed_103 ?_
  refine x_iast C 7 900 (by decide) rfl rfl rfl (by decide) (by decide) dX12_feed_104 ?_
  refine j_aload_n C 2 0 dX12_feed_105 rfl rfl ?_
  refine j_dup C dX12_feed_106 rfl ?_
  refine j_getI C 11 7 fX12_feed_80 (by decide) rfl (by decide) rfl rfl dX12_feed_107 ?_
  refine j_iconst C 1 dX12_feed_110 (by decide) ?_
  refine z_iadd C 8 (by decide) dX12_feed_111 ?_
  refine j_putI C 11 qX12_feed_80 rfl rfl (by decide) rfl (by decide) rfl dX12_feed_112 ?_
  refine j_M (M' := (wI (wI (wI (wI (wI (wI (wI (wI (wI B 101 0 ((p0 >>> ((24 : Int32) &&& 31)) &&& (255 : Int32))) 98 5 8) 101 1 ((p0 >>> ((16 : Int32) &&& 31)) &&& (255 : Int32))) 101 2 ((p0 >>> ((8 : Int32) &&& 31)) &&& (255 : Int32))) 101 3 ((p0 >>> ((0 : Int32) &&& 31)) &&& (255 : Int32))) 101 4 ((p1 >>> ((24 : Int32) &&& 31)) &&& (255 : Int32))) 101 5 ((p1 >>> ((16 : Int32) &&& 31)) &&& (255 : Int32))) 101 6 ((p1 >>> ((8 : Int32) &&& 31)) &&& (255 : Int32))) 101 7 ((p1 >>> ((0 : Int32) &&& 31)) &&& (255 : Int32)))) ((wI_c (by decide)).trans (congrArg (fun X => wI X 101 7 ((p1 >>> ((0 : Int32) &&& 31)) &&& (255 : Int32))) ((wI_c (by decide)).trans (congrArg (fun X => wI X 101 6 ((p1 >>> ((8 : Int32) &&& 31)) &&& (255 : Int32))) ((wI_c (by decide)).trans (congrArg (fun X => wI X 101 5 ((p1 >>> ((16 : Int32) &&& 31)) &&& (255 : Int32))) ((wI_c (by decide)).trans (congrArg (fun X => wI X 101 4 ((p1 >>> ((24 : Int32) &&& 31)) &&& (255 : Int32))) ((wI_c (by decide)).trans (congrArg (fun X => wI X 101 3 ((p0 >>> ((0 : Int32) &&& 31)) &&& (255 : Int32))) ((wI_c (by decide)).trans (congrArg (fun X => wI X 101 2 ((p0 >>> ((8 : Int32) &&& 31)) &&& (255 : Int32))) ((wI_c (by decide)).trans (congrArg (fun X => wI X 101 1 ((p0 >>> ((16 : Int32) &&& 31)) &&& (255 : Int32))) (wI_w _ _ _ _ _))))))))))))))) ?_
  refine j_iinc C 1 8 [(6, .int 8), (7, .int p1), (0, .ref (ad 98)), (1, .int p0), (2, .int p1), (3, .int p2), (4, .int p3), (5, .int p4)] dX12_feed_115 rfl (by decide) (by decide) rfl ?_
  refine j_goto C 24 dX12_feed_118 (by decide) ?_
  refine j_iload C 0 dX12_feed_24 rfl ?_
  refine j_bipush C 20 dX12_feed_26 (by decide) ?_
  refine j_icmp_ge_f C 121 dX12_feed_28 (by decide) (by decide) ?_
  refine j_iload C 0 dX12_feed_31 rfl ?_
  refine j_iconst C 4 dX12_feed_33 (by decide) ?_
  refine j_icmp_ge_t C 41 dX12_feed_34 (by decide) (by decide) ?_
  refine j_iload C 0 dX12_feed_41 rfl ?_
  refine j_bipush C 8 dX12_feed_43 (by decide) ?_
  refine j_icmp_ge_t C 52 dX12_feed_45 (by decide) (by decide) ?_
  refine j_iload C 0 dX12_feed_52 rfl ?_
  refine j_bipush C 12 dX12_feed_54 (by decide) ?_
  refine j_icmp_ge_f C 63 dX12_feed_56 (by decide) (by decide) ?_
  refine j_iload_n C 5 3 dX12_feed_59 rfl rfl ?_
  refine j_goto C 77 dX12_feed_60 (by decide) ?_
  refine j_istore C 7 [(7, .int p2), (6, .int 8), (0, .ref (ad 98)), (1, .int p0), (2, .int p1), (3, .int p2), (4, .int p3), (5, .int p4)] dX12_feed_77 (by decide) rfl ?_
  refine j_aload_n C 2 0 dX12_feed_79 rfl rfl ?_
  refine j_getP C 11 101 fX12_feed_21 (by decide) rfl (by decide) rfl (show B.2.2 98 3 = 101 from hB.2.2 98 3 (by decide)) dX12_feed_80 ?_
  refine j_aload_n C 2 0 dX12_feed_83 rfl rfl ?_
  refine j_getI C 11 8 fX12_feed_80 (by decide) rfl (by decide) rfl rfl dX12_feed_84 ?_
  refine j_iload C 0 dX12_feed_87 rfl ?_
  refine j_bipush C 24 dX12_feed_89 (by decide) ?_
  refine j_bipush C 8 dX12_feed_91 (by decide) ?_
  refine j_iload C 1 dX12_feed_93 rfl ?_
  refine j_iconst C 4 dX12_feed_95 (by decide) ?_
  refine z_irem C 0 (by decide) (by decide) dX12_feed_96 ?_
  refine z_imul C 0 (by decide) dX12_feed_97 ?_
  refine z_isub C 24 (by decide) dX12_feed_98 ?_
  refine z_ishr C (p2 >>> ((24 : Int32) &&& 31)) rfl dX12_feed_99 ?_
  refine j_sipush C 255 dX12_feed_100 (by decide) ?_
  refine z_iand C ((p2 >>> ((24 : Int32) &&& 31)) &&& (255 : Int32)) rfl dX12_feed_103 ?_
  refine x_iast C 8 900 (by decide) rfl rfl rfl (by decide) (by decide) dX12_feed_104 ?_
  refine j_aload_n C 2 0 dX12_feed_105 rfl rfl ?_
  refine j_dup C dX12_feed_106 rfl ?_
  refine j_getI C 11 8 fX12_feed_80 (by decide) rfl (by decide) rfl rfl dX12_feed_107 ?_
  refine j_iconst C 1 dX12_feed_110 (by decide) ?_
  refine z_iadd C 9 (by decide) dX12_feed_111 ?_
  refine j_putI C 11 qX12_feed_80 rfl rfl (by decide) rfl (by decide) rfl dX12_feed_112 ?_
  refine j_M (M' := (wI (wI (wI (wI (wI (wI (wI (wI (wI (wI B 101 0 ((p0 >>> ((24 : Int32) &&& 31)) &&& (255 : Int32))) 98 5 9) 101 1 ((p0 >>> ((16 : Int32) &&& 31)) &&& (255 : Int32))) 101 2 ((p0 >>> ((8 : Int32) &&& 31)) &&& (255 : Int32))) 101 3 ((p0 >>> ((0 : Int32) &&& 31)) &&& (255 : Int32))) 101 4 ((p1 >>> ((24 : Int32) &&& 31)) &&& (255 : Int32))) 101 5 ((p1 >>> ((16 : Int32) &&& 31)) &&& (255 : Int32))) 101 6 ((p1 >>> ((8 : Int32) &&& 31)) &&& (255 : Int32))) 101 7 ((p1 >>> ((0 : Int32) &&& 31)) &&& (255 : Int32))) 101 8 ((p2 >>> ((24 : Int32) &&& 31)) &&& (255 : Int32)))) ((wI_c (by decide)).trans (congrArg (fun X => wI X 101 8 ((p2 >>> ((24 : Int32) &&& 31)) &&& (255 : Int32))) ((wI_c (by decide)).trans (congrArg (fun X => wI X 101 7 ((p1 >>> ((0 : Int32) &&& 31)) &&& (255 : Int32))) ((wI_c (by decide)).trans (congrArg (fun X => wI X 101 6 ((p1 >>> ((8 : Int32) &&& 31)) &&& (255 : Int32))) ((wI_c (by decide)).trans (congrArg (fun X => wI X 101 5 ((p1 >>> ((16 : Int32) &&& 31)) &&& (255 : Int32))) ((wI_c (by decide)).trans (congrArg (fun X => wI X 101 4 ((p1 >>> ((24 : Int32) &&& 31)) &&& (255 : Int32))) ((wI_c (by decide)).trans (congrArg (fun X => wI X 101 3 ((p0 >>> ((0 : Int32) &&& 31)) &&& (255 : Int32))) ((wI_c (by decide)).trans (congrArg (fun X => wI X 101 2 ((p0 >>> ((8 : Int32) &&& 31)) &&& (255 : Int32))) ((wI_c (by decide)).trans (congrArg (fun X => wI X 101 1 ((p0 >>> ((16 : Int32) &&& 31)) &&& (255 : Int32))) (wI_w _ _ _ _ _))))))))))))))))) ?_
  refine j_iinc C 1 9 [(6, .int 9), (7, .int p2), (0, .ref (ad 98)), (1, .int p0), (2, .int p1), (3, .int p2), (4, .int p3), (5, .int p4)] dX12_feed_115 rfl (by decide) (by decide) rfl ?_
  refine j_goto C 24 dX12_feed_118 (by decide) ?_
  refine j_iload C 0 dX12_feed_24 rfl ?_
  refine j_bipush C 20 dX12_feed_26 (by decide) ?_
  refine j_icmp_ge_f C 121 dX12_feed_28 (by decide) (by decide) ?_
  refine j_iload C 0 dX12_feed_31 rfl ?_
  refine j_iconst C 4 dX12_feed_33 (by decide) ?_
  refine j_icmp_ge_t C 41 dX12_feed_34 (by decide) (by decide) ?_
  refine j_iload C 0 dX12_feed_41 rfl ?_
  refine j_bipush C 8 dX12_feed_43 (by decide) ?_
  refine j_icmp_ge_t C 52 dX12_feed_45 (by decide) (by decide) ?_
  refine j_iload C 0 dX12_feed_52 rfl ?_
  refine j_bipush C 12 dX12_feed_54 (by decide) ?_
  refine j_icmp_ge_f C 63 dX12_feed_56 (by decide) (by decide) ?_
  refine j_iload_n C 5 3 dX12_feed_59 rfl rfl ?_
  refine j_goto C 77 dX12_feed_60 (by decide) ?_
  refine j_istore C 7 [(7, .int p2), (6, .int 9), (0, .ref (ad 98)), (1, .int p0), (2, .int p1), (3, .int p2), (4, .int p3), (5, .int p4)] dX12_feed_77 (by decide) rfl ?_
  refine j_aload_n C 2 0 dX12_feed_79 rfl rfl ?_
  refine j_getP C 11 101 fX12_feed_21 (by decide) rfl (by decide) rfl (show B.2.2 98 3 = 101 from hB.2.2 98 3 (by decide)) dX12_feed_80 ?_
  refine j_aload_n C 2 0 dX12_feed_83 rfl rfl ?_
  refine j_getI C 11 9 fX12_feed_80 (by decide) rfl (by decide) rfl rfl dX12_feed_84 ?_
  refine j_iload C 0 dX12_feed_87 rfl ?_
  refine j_bipush C 24 dX12_feed_89 (by decide) ?_
  refine j_bipush C 8 dX12_feed_91 (by decide) ?_
  refine j_iload C 1 dX12_feed_93 rfl ?_
  refine j_iconst C 4 dX12_feed_95 (by decide) ?_
  refine z_irem C 1 (by decide) (by decide) dX12_feed_96 ?_
  refine z_imul C 8 (by decide) dX12_feed_97 ?_
  refine z_isub C 16 (by decide) dX12_feed_98 ?_
  refine z_ishr C (p2 >>> ((16 : Int32) &&& 31)) rfl dX12_feed_99 ?_
  refine j_sipush C 255 dX12_feed_100 (by decide) ?_
  refine z_iand C ((p2 >>> ((16 : Int32) &&& 31)) &&& (255 : Int32)) rfl dX12_feed_103 ?_
  refine x_iast C 9 900 (by decide) rfl rfl rfl (by decide) (by decide) dX12_feed_104 ?_
  refine j_aload_n C 2 0 dX12_feed_105 rfl rfl ?_
  refine j_dup C dX12_feed_106 rfl ?_
  refine j_getI C 11 9 fX12_feed_80 (by decide) rfl (by decide) rfl rfl dX12_feed_107 ?_
  refine j_iconst C 1 dX12_feed_110 (by decide) ?_
  refine z_iadd C 10 (by decide) dX12_feed_111 ?_
  refine j_putI C 11 qX12_feed_80 rfl rfl (by decide) rfl (by decide) rfl dX12_feed_112 ?_
  refine j_M (M' := (wI (wI (wI (wI (wI (wI (wI (wI (wI (wI (wI B 101 0 ((p0 >>> ((24 : Int32) &&& 31)) &&& (255 : Int32))) 98 5 10) 101 1 ((p0 >>> ((16 : Int32) &&& 31)) &&& (255 : Int32))) 101 2 ((p0 >>> ((8 : Int32) &&& 31)) &&& (255 : Int32))) 101 3 ((p0 >>> ((0 : Int32) &&& 31)) &&& (255 : Int32))) 101 4 ((p1 >>> ((24 : Int32) &&& 31)) &&& (255 : Int32))) 101 5 ((p1 >>> ((16 : Int32) &&& 31)) &&& (255 : Int32))) 101 6 ((p1 >>> ((8 : Int32) &&& 31)) &&& (255 : Int32))) 101 7 ((p1 >>> ((0 : Int32) &&& 31)) &&& (255 : Int32))) 101 8 ((p2 >>> ((24 : Int32) &&& 31)) &&& (255 : Int32))) 101 9 ((p2 >>> ((16 : Int32) &&& 31)) &&& (255 : Int32)))) ((wI_c (by decide)).trans (congrArg (fun X => wI X 101 9 ((p2 >>> ((16 : Int32) &&& 31)) &&& (255 : Int32))) ((wI_c (by decide)).trans (congrArg (fun X => wI X 101 8 ((p2 >>> ((24 : Int32) &&& 31)) &&& (255 : Int32))) ((wI_c (by decide)).trans (congrArg (fun X => wI X 101 7 ((p1 >>> ((0 : Int32) &&& 31)) &&& (255 : Int32))) ((wI_c (by decide)).trans (congrArg (fun X => wI X 101 6 ((p1 >>> ((8 : Int32) &&& 31)) &&& (255 : Int32))) ((wI_c (by decide)).trans (congrArg (fun X => wI X 101 5 ((p1 >>> ((16 : Int32) &&& 31)) &&& (255 : Int32))) ((wI_c (by decide)).trans (congrArg (fun X => wI X 101 4 ((p1 >>> ((24 : Int32) &&& 31)) &&& (255 : Int32))) ((wI_c (by decide)).trans (congrArg (fun X => wI X 101 3 ((p0 >>> ((0 : Int32) &&& 31)) &&& (255 : Int32))) ((wI_c (by decide)).trans (congrArg (fun X => wI X 101 2 ((p0 >>> ((8 : Int32) &&& 31)) &&& (255 : Int32))) ((wI_c (by decide)).trans (congrArg (fun X => wI X 101 1 ((p0 >>> ((16 : Int32) &&& 31)) &&& (255 : Int32))) (wI_w _ _ _ _ _))))))))))))))))))) ?_
  refine j_iinc C 1 10 [(6, .int 10), (7, .int p2), (0, .ref (ad 98)), (1, .int p0), (2, .int p1), (3, .int p2), (4, .int p3), (5, .int p4)] dX12_feed_115 rfl (by decide) (by decide) rfl ?_
  refine j_goto C 24 dX12_feed_118 (by decide) ?_
  refine j_iload C 0 dX12_feed_24 rfl ?_
  refine j_bipush C 20 dX12_feed_26 (by decide) ?_
  refine j_icmp_ge_f C 121 dX12_feed_28 (by decide) (by decide) ?_
  refine j_iload C 0 dX12_feed_31 rfl ?_
  refine j_iconst C 4 dX12_feed_33 (by decide) ?_
  refine j_icmp_ge_t C 41 dX12_feed_34 (by decide) (by decide) ?_
  refine j_iload C 0 dX12_feed_41 rfl ?_
  refine j_bipush C 8 dX12_feed_43 (by decide) ?_
  refine j_icmp_ge_t C 52 dX12_feed_45 (by decide) (by decide) ?_
  refine j_iload C 0 dX12_feed_52 rfl ?_
  refine j_bipush C 12 dX12_feed_54 (by decide) ?_
  refine j_icmp_ge_f C 63 dX12_feed_56 (by decide) (by decide) ?_
  refine j_iload_n C 5 3 dX12_feed_59 rfl rfl ?_
  refine j_goto C 77 dX12_feed_60 (by decide) ?_
  refine j_istore C 7 [(7, .int p2), (6, .int 10), (0, .ref (ad 98)), (1, .int p0), (2, .int p1), (3, .int p2), (4, .int p3), (5, .int p4)] dX12_feed_77 (by decide) rfl ?_
  refine j_aload_n C 2 0 dX12_feed_79 rfl rfl ?_
  refine j_getP C 11 101 fX12_feed_21 (by decide) rfl (by decide) rfl (show B.2.2 98 3 = 101 from hB.2.2 98 3 (by decide)) dX12_feed_80 ?_
  refine j_aload_n C 2 0 dX12_feed_83 rfl rfl ?_
  refine j_getI C 11 10 fX12_feed_80 (by decide) rfl (by decide) rfl rfl dX12_feed_84 ?_
  refine j_iload C 0 dX12_feed_87 rfl ?_
  refine j_bipush C 24 dX12_feed_89 (by decide) ?_
  refine j_bipush C 8 dX12_feed_91 (by decide) ?_
  refine j_iload C 1 dX12_feed_93 rfl ?_
  refine j_iconst C 4 dX12_feed_95 (by decide) ?_
  refine z_irem C 2 (by decide) (by decide) dX12_feed_96 ?_
  refine z_imul C 16 (by decide) dX12_feed_97 ?_
  refine z_isub C 8 (by decide) dX12_feed_98 ?_
  refine z_ishr C (p2 >>> ((8 : Int32) &&& 31)) rfl dX12_feed_99 ?_
  refine j_sipush C 255 dX12_feed_100 (by decide) ?_
  refine z_iand C ((p2 >>> ((8 : Int32) &&& 31)) &&& (255 : Int32)) rfl dX12_feed_103 ?_
  refine x_iast C 10 900 (by decide) rfl rfl rfl (by decide) (by decide) dX12_feed_104 ?_
  refine j_aload_n C 2 0 dX12_feed_105 rfl rfl ?_
  refine j_dup C dX12_feed_106 rfl ?_
  refine j_getI C 11 10 fX12_feed_80 (by decide) rfl (by decide) rfl rfl dX12_feed_107 ?_
  refine j_iconst C 1 dX12_feed_110 (by decide) ?_
  refine z_iadd C 11 (by decide) dX12_feed_111 ?_
  refine j_putI C 11 qX12_feed_80 rfl rfl (by decide) rfl (by decide) rfl dX12_feed_112 ?_
  refine j_M (M' := (wI (wI (wI (wI (wI (wI (wI (wI (wI (wI (wI (wI B 101 0 ((p0 >>> ((24 : Int32) &&& 31)) &&& (255 : Int32))) 98 5 11) 101 1 ((p0 >>> ((16 : Int32) &&& 31)) &&& (255 : Int32))) 101 2 ((p0 >>> ((8 : Int32) &&& 31)) &&& (255 : Int32))) 101 3 ((p0 >>> ((0 : Int32) &&& 31)) &&& (255 : Int32))) 101 4 ((p1 >>> ((24 : Int32) &&& 31)) &&& (255 : Int32))) 101 5 ((p1 >>> ((16 : Int32) &&& 31)) &&& (255 : Int32))) 101 6 ((p1 >>> ((8 : Int32) &&& 31)) &&& (255 : Int32))) 101 7 ((p1 >>> ((0 : Int32) &&& 31)) &&& (255 : Int32))) 101 8 ((p2 >>> ((24 : Int32) &&& 31)) &&& (255 : Int32))) 101 9 ((p2 >>> ((16 : Int32) &&& 31)) &&& (255 : Int32))) 101 10 ((p2 >>> ((8 : Int32) &&& 31)) &&& (255 : Int32)))) ((wI_c (by decide)).trans (congrArg (fun X => wI X 101 10 ((p2 >>> ((8 : Int32) &&& 31)) &&& (255 : Int32))) ((wI_c (by decide)).trans (congrArg (fun X => wI X 101 9 ((p2 >>> ((16 : Int32) &&& 31)) &&& (255 : Int32))) ((wI_c (by decide)).trans (congrArg (fun X => wI X 101 8 ((p2 >>> ((24 : Int32) &&& 31)) &&& (255 : Int32))) ((wI_c (by decide)).trans (congrArg (fun X => wI X 101 7 ((p1 >>> ((0 : Int32) &&& 31)) &&& (255 : Int32))) ((wI_c (by decide)).trans (congrArg (fun X => wI X 101 6 ((p1 >>> ((8 : Int32) &&& 31)) &&& (255 : Int32))) ((wI_c (by decide)).trans (congrArg (fun X => wI X 101 5 ((p1 >>> ((16 : Int32) &&& 31)) &&& (255 : Int32))) ((wI_c (by decide)).trans (congrArg (fun X => wI X 101 4 ((p1 >>> ((24 : Int32) &&& 31)) &&& (255 : Int32))) ((wI_c (by decide)).trans (congrArg (fun X => wI X 101 3 ((p0 >>> ((0 : Int32) &&& 31)) &&& (255 : Int32))) ((wI_c (by decide)).trans (congrArg (fun X => wI X 101 2 ((p0 >>> ((8 : Int32) &&& 31)) &&& (255 : Int32))) ((wI_c (by decide)).trans (congrArg (fun X => wI X 101 1 ((p0 >>> ((16 : Int32) &&& 31)) &&& (255 : Int32))) (wI_w _ _ _ _ _))))))))))))))))))))) ?_
  refine j_iinc C 1 11 [(6, .int 11), (7, .int p2), (0, .ref (ad 98)), (1, .int p0), (2, .int p1), (3, .int p2), (4, .int p3), (5, .int p4)] dX12_feed_115 rfl (by decide) (by decide) rfl ?_
  refine j_goto C 24 dX12_feed_118 (by decide) ?_
  refine j_iload C 0 dX12_feed_24 rfl ?_
  refine j_bipush C 20 dX12_feed_26 (by decide) ?_
  refine j_icmp_ge_f C 121 dX12_feed_28 (by decide) (by decide) ?_
  refine j_iload C 0 dX12_feed_31 rfl ?_
  refine j_iconst C 4 dX12_feed_33 (by decide) ?_
  refine j_icmp_ge_t C 41 dX12_feed_34 (by decide) (by decide) ?_
  refine j_iload C 0 dX12_feed_41 rfl ?_
  refine j_bipush C 8 dX12_feed_43 (by decide) ?_
  refine j_icmp_ge_t C 52 dX12_feed_45 (by decide) (by decide) ?_
  refine j_iload C 0 dX12_feed_52 rfl ?_
  refine j_bipush C 12 dX12_feed_54 (by decide) ?_
  refine j_icmp_ge_f C 63 dX12_feed_56 (by decide) (by decide) ?_
  refine j_iload_n C 5 3 dX12_feed_59 rfl rfl ?_
  refine j_goto C 77 dX12_feed_60 (by decide) ?_
  refine j_istore C 7 [(7, .int p2), (6, .int 11), (0, .ref (ad 98)), (1, .int p0), (2, .int p1), (3, .int p2), (4, .int p3), (5, .int p4)] dX12_feed_77 (by decide) rfl ?_
  refine j_aload_n C 2 0 dX12_feed_79 rfl rfl ?_
  refine j_getP C 11 101 fX12_feed_21 (by decide) rfl (by decide) rfl (show B.2.2 98 3 = 101 from hB.2.2 98 3 (by decide)) dX12_feed_80 ?_
  refine j_aload_n C 2 0 dX12_feed_83 rfl rfl ?_
  refine j_getI C 11 11 fX12_feed_80 (by decide) rfl (by decide) rfl rfl dX12_feed_84 ?_
  refine j_iload C 0 dX12_feed_87 rfl ?_
  refine j_bipush C 24 dX12_feed_89 (by decide) ?_
  refine j_bipush C 8 dX12_feed_91 (by decide) ?_
  refine j_iload C 1 dX12_feed_93 rfl ?_
  refine j_iconst C 4 dX12_feed_95 (by decide) ?_
  refine z_irem C 3 (by decide) (by decide) dX12_feed_96 ?_
  refine z_imul C 24 (by decide) dX12_feed_97 ?_
  refine z_isub C 0 (by decide) dX12_feed_98 ?_
  refine z_ishr C (p2 >>> ((0 : Int32) &&& 31)) rfl dX12_feed_99 ?_
  refine j_sipush C 255 dX12_feed_100 (by decide) ?_
  refine z_iand C ((p2 >>> ((0 : Int32) &&& 31)) &&& (255 : Int32)) rfl dX12_feed_103 ?_
  refine x_iast C 11 900 (by decide) rfl rfl rfl (by decide) (by decide) dX12_feed_104 ?_
  refine j_aload_n C 2 0 dX12_feed_105 rfl rfl ?_
  refine j_dup C dX12_feed_106 rfl ?_
  refine j_getI C 11 11 fX12_feed_80 (by decide) rfl (by decide) rfl rfl dX12_feed_107 ?_
  refine j_iconst C 1 dX12_feed_110 (by decide) ?_
  refine z_iadd C 12 (by decide) dX12_feed_111 ?_
  refine j_putI C 11 qX12_feed_80 rfl rfl (by decide) rfl (by decide) rfl dX12_feed_112 ?_
  refine j_M (M' := (wI (wI (wI (wI (wI (wI (wI (wI (wI (wI (wI (wI (wI B 101 0 ((p0 >>> ((24 : Int32) &&& 31)) &&& (255 : Int32))) 98 5 12) 101 1 ((p0 >>> ((16 : Int32) &&& 31)) &&& (255 : Int32))) 101 2 ((p0 >>> ((8 : Int32) &&& 31)) &&& (255 : Int32))) 101 3 ((p0 >>> ((0 : Int32) &&& 31)) &&& (255 : Int32))) 101 4 ((p1 >>> ((24 : Int32) &&& 31)) &&& (255 : Int32))) 101 5 ((p1 >>> ((16 : Int32) &&& 31)) &&& (255 : Int32))) 101 6 ((p1 >>> ((8 : Int32) &&& 31)) &&& (255 : Int32))) 101 7 ((p1 >>> ((0 : Int32) &&& 31)) &&& (255 : Int32))) 101 8 ((p2 >>> ((24 : Int32) &&& 31)) &&& (255 : Int32))) 101 9 ((p2 >>> ((16 : Int32) &&& 31)) &&& (255 : Int32))) 101 10 ((p2 >>> ((8 : Int32) &&& 31)) &&& (255 : Int32))) 101 11 ((p2 >>> ((0 : Int32) &&& 31)) &&& (255 : Int32)))) ((wI_c (by decide)).trans (congrArg (fun X => wI X 101 11 ((p2 >>> ((0 : Int32) &&& 31)) &&& (255 : Int32))) ((wI_c (by decide)).trans (congrArg (fun X => wI X 101 10 ((p2 >>> ((8 : Int32) &&& 31)) &&& (255 : Int32))) ((wI_c (by decide)).trans (congrArg (fun X => wI X 101 9 ((p2 >>> ((16 : Int32) &&& 31)) &&& (255 : Int32))) ((wI_c (by decide)).trans (congrArg (fun X => wI X 101 8 ((p2 >>> ((24 : Int32) &&& 31)) &&& (255 : Int32))) ((wI_c (by decide)).trans (congrArg (fun X => wI X 101 7 ((p1 >>> ((0 : Int32) &&& 31)) &&& (255 : Int32))) ((wI_c (by decide)).trans (congrArg (fun X => wI X 101 6 ((p1 >>> ((8 : Int32) &&& 31)) &&& (255 : Int32))) ((wI_c (by decide)).trans (congrArg (fun X => wI X 101 5 ((p1 >>> ((16 : Int32) &&& 31)) &&& (255 : Int32))) ((wI_c (by decide)).trans (congrArg (fun X => wI X 101 4 ((p1 >>> ((24 : Int32) &&& 31)) &&& (255 : Int32))) ((wI_c (by decide)).trans (congrArg (fun X => wI X 101 3 ((p0 >>> ((0 : Int32) &&& 31)) &&& (255 : Int32))) ((wI_c (by decide)).trans (congrArg (fun X => wI X 101 2 ((p0 >>> ((8 : Int32) &&& 31)) &&& (255 : Int32))) ((wI_c (by decide)).trans (congrArg (fun X => wI X 101 1 ((p0 >>> ((16 : Int32) &&& 31)) &&& (255 : Int32))) (wI_w _ _ _ _ _))))))))))))))))))))))) ?_
  refine j_iinc C 1 12 [(6, .int 12), (7, .int p2), (0, .ref (ad 98)), (1, .int p0), (2, .int p1), (3, .int p2), (4, .int p3), (5, .int p4)] dX12_feed_115 rfl (by decide) (by decide) rfl ?_
  refine j_goto C 24 dX12_feed_118 (by decide) ?_
  refine j_iload C 0 dX12_feed_24 rfl ?_
  refine j_bipush C 20 dX12_feed_26 (by decide) ?_
  refine j_icmp_ge_f C 121 dX12_feed_28 (by decide) (by decide) ?_
  refine j_iload C 0 dX12_feed_31 rfl ?_
  refine j_iconst C 4 dX12_feed_33 (by decide) ?_
  refine j_icmp_ge_t C 41 dX12_feed_34 (by decide) (by decide) ?_
  refine j_iload C 0 dX12_feed_41 rfl ?_
  refine j_bipush C 8 dX12_feed_43 (by decide) ?_
  refine j_icmp_ge_t C 52 dX12_feed_45 (by decide) (by decide) ?_
  refine j_iload C 0 dX12_feed_52 rfl ?_
  refine j_bipush C 12 dX12_feed_54 (by decide) ?_
  refine j_icmp_ge_t C 63 dX12_feed_56 (by decide) (by decide) ?_
  refine j_iload C 0 dX12_feed_63 rfl ?_
  refine j_bipush C 16 dX12_feed_65 (by decide) ?_
  refine j_icmp_ge_f C 75 dX12_feed_67 (by decide) (by decide) ?_
  refine j_iload C 6 dX12_feed_70 rfl ?_
  refine j_goto C 77 dX12_feed_72 (by decide) ?_
  refine j_istore C 7 [(7, .int p3), (6, .int 12), (0, .ref (ad 98)), (1, .int p0), (2, .int p1), (3, .int p2), (4, .int p3), (5, .int p4)] dX12_feed_77 (by decide) rfl ?_
  refine j_aload_n C 2 0 dX12_feed_79 rfl rfl ?_
  refine j_getP C 11 101 fX12_feed_21 (by decide) rfl (by decide) rfl (show B.2.2 98 3 = 101 from hB.2.2 98 3 (by decide)) dX12_feed_80 ?_
  refine j_aload_n C 2 0 dX12_feed_83 rfl rfl ?_
  refine j_getI C 11 12 fX12_feed_80 (by decide) rfl (by decide) rfl rfl dX12_feed_84 ?_
  refine j_iload C 0 dX12_feed_87 rfl ?_
  refine j_bipush C 24 dX12_feed_89 (by decide) ?_
  refine j_bipush C 8 dX12_feed_91 (by decide) ?_
  refine j_iload C 1 dX12_feed_93 rfl ?_
  refine j_iconst C 4 dX12_feed_95 (by decide) ?_
  refine z_irem C 0 (by decide) (by decide) dX12_feed_96 ?_
  refine z_imul C 0 (by decide) dX12_feed_97 ?_
  refine z_isub C 24 (by decide) dX12_feed_98 ?_
  refine z_ishr C (p3 >>> ((24 : Int32) &&& 31)) rfl dX12_feed_99 ?_
  refine j_sipush C 255 dX12_feed_100 (by decide) ?_
  refine z_iand C ((p3 >>> ((24 : Int32) &&& 31)) &&& (255 : Int32)) rfl dX12_feed_103 ?_
  refine x_iast C 12 900 (by decide) rfl rfl rfl (by decide) (by decide) dX12_feed_104 ?_
  refine j_aload_n C 2 0 dX12_feed_105 rfl rfl ?_
  refine j_dup C dX12_feed_106 rfl ?_
  refine j_getI C 11 12 fX12_feed_80 (by decide) rfl (by decide) rfl rfl dX12_feed_107 ?_
  refine j_iconst C 1 dX12_feed_110 (by decide) ?_
  refine z_iadd C 13 (by decide) dX12_feed_111 ?_
  refine j_putI C 11 qX12_feed_80 rfl rfl (by decide) rfl (by decide) rfl dX12_feed_112 ?_
  refine j_M (M' := (wI (wI (wI (wI (wI (wI (wI (wI (wI (wI (wI (wI (wI (wI B 101 0 ((p0 >>> ((24 : Int32) &&& 31)) &&& (255 : Int32))) 98 5 13) 101 1 ((p0 >>> ((16 : Int32) &&& 31)) &&& (255 : Int32))) 101 2 ((p0 >>> ((8 : Int32) &&& 31)) &&& (255 : Int32))) 101 3 ((p0 >>> ((0 : Int32) &&& 31)) &&& (255 : Int32))) 101 4 ((p1 >>> ((24 : Int32) &&& 31)) &&& (255 : Int32))) 101 5 ((p1 >>> ((16 : Int32) &&& 31)) &&& (255 : Int32))) 101 6 ((p1 >>> ((8 : Int32) &&& 31)) &&& (255 : Int32))) 101 7 ((p1 >>> ((0 : Int32) &&& 31)) &&& (255 : Int32))) 101 8 ((p2 >>> ((24 : Int32) &&& 31)) &&& (255 : Int32))) 101 9 ((p2 >>> ((16 : Int32) &&& 31)) &&& (255 : Int32))) 101 10 ((p2 >>> ((8 : Int32) &&& 31)) &&& (255 : Int32))) 101 11 ((p2 >>> ((0 : Int32) &&& 31)) &&& (255 : Int32))) 101 12 ((p3 >>> ((24 : Int32) &&& 31)) &&& (255 : Int32)))) ((wI_c (by decide)).trans (congrArg (fun X => wI X 101 12 ((p3 >>> ((24 : Int32) &&& 31)) &&& (255 : Int32))) ((wI_c (by decide)).trans (congrArg (fun X => wI X 101 11 ((p2 >>> ((0 : Int32) &&& 31)) &&& (255 : Int32))) ((wI_c (by decide)).trans (congrArg (fun X => wI X 101 10 ((p2 >>> ((8 : Int32) &&& 31)) &&& (255 : Int32))) ((wI_c (by decide)).trans (congrArg (fun X => wI X 101 9 ((p2 >>> ((16 : Int32) &&& 31)) &&& (255 : Int32))) ((wI_c (by decide)).trans (congrArg (fun X => wI X 101 8 ((p2 >>> ((24 : Int32) &&& 31)) &&& (255 : Int32))) ((wI_c (by decide)).trans (congrArg (fun X => wI X 101 7 ((p1 >>> ((0 : Int32) &&& 31)) &&& (255 : Int32))) ((wI_c (by decide)).trans (congrArg (fun X => wI X 101 6 ((p1 >>> ((8 : Int32) &&& 31)) &&& (255 : Int32))) ((wI_c (by decide)).trans (congrArg (fun X => wI X 101 5 ((p1 >>> ((16 : Int32) &&& 31)) &&& (255 : Int32))) ((wI_c (by decide)).trans (congrArg (fun X => wI X 101 4 ((p1 >>> ((24 : Int32) &&& 31)) &&& (255 : Int32))) ((wI_c (by decide)).trans (congrArg (fun X => wI X 101 3 ((p0 >>> ((0 : Int32) &&& 31)) &&& (255 : Int32))) ((wI_c (by decide)).trans (congrArg (fun X => wI X 101 2 ((p0 >>> ((8 : Int32) &&& 31)) &&& (255 : Int32))) ((wI_c (by decide)).trans (congrArg (fun X => wI X 101 1 ((p0 >>> ((16 : Int32) &&& 31)) &&& (255 : Int32))) (wI_w _ _ _ _ _))))))))))))))))))))))))) ?_
  refine j_iinc C 1 13 [(6, .int 13), (7, .int p3), (0, .ref (ad 98)), (1, .int p0), (2, .int p1), (3, .int p2), (4, .int p3), (5, .int p4)] dX12_feed_115 rfl (by decide) (by decide) rfl ?_
  refine j_goto C 24 dX12_feed_118 (by decide) ?_
  refine j_iload C 0 dX12_feed_24 rfl ?_
  refine j_bipush C 20 dX12_feed_26 (by decide) ?_
  refine j_icmp_ge_f C 121 dX12_feed_28 (by decide) (by decide) ?_
  refine j_iload C 0 dX12_feed_31 rfl ?_
  refine j_iconst C 4 dX12_feed_33 (by decide) ?_
  refine j_icmp_ge_t C 41 dX12_feed_34 (by decide) (by decide) ?_
  refine j_iload C 0 dX12_feed_41 rfl ?_
  refine j_bipush C 8 dX12_feed_43 (by decide) ?_
  refine j_icmp_ge_t C 52 dX12_feed_45 (by decide) (by decide) ?_
  refine j_iload C 0 dX12_feed_52 rfl ?_
  refine j_bipush C 12 dX12_feed_54 (by decide) ?_
  refine j_icmp_ge_t C 63 dX12_feed_56 (by decide) (by decide) ?_
  refine j_iload C 0 dX12_feed_63 rfl ?_
  refine j_bipush C 16 dX12_feed_65 (by decide) ?_
  refine j_icmp_ge_f C 75 dX12_feed_67 (by decide) (by decide) ?_
  refine j_iload C 6 dX12_feed_70 rfl ?_
  refine j_goto C 77 dX12_feed_72 (by decide) ?_
  refine j_istore C 7 [(7, .int p3), (6, .int 13), (0, .ref (ad 98)), (1, .int p0), (2, .int p1), (3, .int p2), (4, .int p3), (5, .int p4)] dX12_feed_77 (by decide) rfl ?_
  refine j_aload_n C 2 0 dX12_feed_79 rfl rfl ?_
  refine j_getP C 11 101 fX12_feed_21 (by decide) rfl (by decide) rfl (show B.2.2 98 3 = 101 from hB.2.2 98 3 (by decide)) dX12_feed_80 ?_
  refine j_aload_n C 2 0 dX12_feed_83 rfl rfl ?_
  refine j_getI C 11 13 fX12_feed_80 (by decide) rfl (by decide) rfl rfl dX12_feed_84 ?_
  refine j_iload C 0 dX12_feed_87 rfl ?_
  refine j_bipush C 24 dX12_feed_89 (by decide) ?_
  refine j_bipush C 8 dX12_feed_91 (by decide) ?_
  refine j_iload C 1 dX12_feed_93 rfl ?_
  refine j_iconst C 4 dX12_feed_95 (by decide) ?_
  refine z_irem C 1 (by decide) (by decide) dX12_feed_96 ?_
  refine z_imul C 8 (by decide) dX12_feed_97 ?_
  refine z_isub C 16 (by decide) dX12_feed_98 ?_
  refine z_ishr C (p3 >>> ((16 : Int32) &&& 31)) rfl dX12_feed_99 ?_
  refine j_sipush C 255 dX12_feed_100 (by decide) ?_
  refine z_iand C ((p3 >>> ((16 : Int32) &&& 31)) &&& (255 : Int32)) rfl dX12_feed_103 ?_
  refine x_iast C 13 900 (by decide) rfl rfl rfl (by decide) (by decide) dX12_feed_104 ?_
  refine j_aload_n C 2 0 dX12_feed_105 rfl rfl ?_
  refine j_dup C dX12_feed_106 rfl ?_
  refine j_getI C 11 13 fX12_feed_80 (by decide) rfl (by decide) rfl rfl dX12_feed_107 ?_
  refine j_iconst C 1 dX12_feed_110 (by decide) ?_
  refine z_iadd C 14 (by decide) dX12_feed_111 ?_
  refine j_putI C 11 qX12_feed_80 rfl rfl (by decide) rfl (by decide) rfl dX12_feed_112 ?_
  refine j_M (M' := (wI (wI (wI (wI (wI (wI (wI (wI (wI (wI (wI (wI (wI (wI (wI B 101 0 ((p0 >>> ((24 : Int32) &&& 31)) &&& (255 : Int32))) 98 5 14) 101 1 ((p0 >>> ((16 : Int32) &&& 31)) &&& (255 : Int32))) 101 2 ((p0 >>> ((8 : Int32) &&& 31)) &&& (255 : Int32))) 101 3 ((p0 >>> ((0 : Int32) &&& 31)) &&& (255 : Int32))) 101 4 ((p1 >>> ((24 : Int32) &&& 31)) &&& (255 : Int32))) 101 5 ((p1 >>> ((16 : Int32) &&& 31)) &&& (255 : Int32))) 101 6 ((p1 >>> ((8 : Int32) &&& 31)) &&& (255 : Int32))) 101 7 ((p1 >>> ((0 : Int32) &&& 31)) &&& (255 : Int32))) 101 8 ((p2 >>> ((24 : Int32) &&& 31)) &&& (255 : Int32))) 101 9 ((p2 >>> ((16 : Int32) &&& 31)) &&& (255 : Int32))) 101 10 ((p2 >>> ((8 : Int32) &&& 31)) &&& (255 : Int32))) 101 11 ((p2 >>> ((0 : Int32) &&& 31)) &&& (255 : Int32))) 101 12 ((p3 >>> ((24 : Int32) &&& 31)) &&& (255 : Int32))) 101 13 ((p3 >>> ((16 : Int32) &&& 31)) &&& (255 : Int32)))) ((wI_c (by decide)).trans (congrArg (fun X => wI X 101 13 ((p3 >>> ((16 : Int32) &&& 31)) &&& (255 : Int32))) ((wI_c (by decide)).trans (congrArg (fun X => wI X 101 12 ((p3 >>> ((24 : Int32) &&& 31)) &&& (255 : Int32))) ((wI_c (by decide)).trans (congrArg (fun X => wI X 101 11 ((p2 >>> ((0 : Int32) &&& 31)) &&& (255 : Int32))) ((wI_c (by decide)).trans (congrArg (fun X => wI X 101 10 ((p2 >>> ((8 : Int32) &&& 31)) &&& (255 : Int32))) ((wI_c (by decide)).trans (congrArg (fun X => wI X 101 9 ((p2 >>> ((16 : Int32) &&& 31)) &&& (255 : Int32))) ((wI_c (by decide)).trans (congrArg (fun X => wI X 101 8 ((p2 >>> ((24 : Int32) &&& 31)) &&& (255 : Int32))) ((wI_c (by decide)).trans (congrArg (fun X => wI X 101 7 ((p1 >>> ((0 : Int32) &&& 31)) &&& (255 : Int32))) ((wI_c (by decide)).trans (congrArg (fun X => wI X 101 6 ((p1 >>> ((8 : Int32) &&& 31)) &&& (255 : Int32))) ((wI_c (by decide)).trans (congrArg (fun X => wI X 101 5 ((p1 >>> ((16 : Int32) &&& 31)) &&& (255 : Int32))) ((wI_c (by decide)).trans (congrArg (fun X => wI X 101 4 ((p1 >>> ((24 : Int32) &&& 31)) &&& (255 : Int32))) ((wI_c (by decide)).trans (congrArg (fun X => wI X 101 3 ((p0 >>> ((0 : Int32) &&& 31)) &&& (255 : Int32))) ((wI_c (by decide)).trans (congrArg (fun X => wI X 101 2 ((p0 >>> ((8 : Int32) &&& 31)) &&& (255 : Int32))) ((wI_c (by decide)).trans (congrArg (fun X => wI X 101 1 ((p0 >>> ((16 : Int32) &&& 31)) &&& (255 : Int32))) (wI_w _ _ _ _ _))))))))))))))))))))))))))) ?_
  refine j_iinc C 1 14 [(6, .int 14), (7, .int p3), (0, .ref (ad 98)), (1, .int p0), (2, .int p1), (3, .int p2), (4, .int p3), (5, .int p4)] dX12_feed_115 rfl (by decide) (by decide) rfl ?_
  refine j_goto C 24 dX12_feed_118 (by decide) ?_
  refine j_iload C 0 dX12_feed_24 rfl ?_
  refine j_bipush C 20 dX12_feed_26 (by decide) ?_
  refine j_icmp_ge_f C 121 dX12_feed_28 (by decide) (by decide) ?_
  refine j_iload C 0 dX12_feed_31 rfl ?_
  refine j_iconst C 4 dX12_feed_33 (by decide) ?_
  refine j_icmp_ge_t C 41 dX12_feed_34 (by decide) (by decide) ?_
  refine j_iload C 0 dX12_feed_41 rfl ?_
  refine j_bipush C 8 dX12_feed_43 (by decide) ?_
  refine j_icmp_ge_t C 52 dX12_feed_45 (by decide) (by decide) ?_
  refine j_iload C 0 dX12_feed_52 rfl ?_
  refine j_bipush C 12 dX12_feed_54 (by decide) ?_
  refine j_icmp_ge_t C 63 dX12_feed_56 (by decide) (by decide) ?_
  refine j_iload C 0 dX12_feed_63 rfl ?_
  refine j_bipush C 16 dX12_feed_65 (by decide) ?_
  refine j_icmp_ge_f C 75 dX12_feed_67 (by decide) (by decide) ?_
  refine j_iload C 6 dX12_feed_70 rfl ?_
  refine j_goto C 77 dX12_feed_72 (by decide) ?_
  refine j_istore C 7 [(7, .int p3), (6, .int 14), (0, .ref (ad 98)), (1, .int p0), (2, .int p1), (3, .int p2), (4, .int p3), (5, .int p4)] dX12_feed_77 (by decide) rfl ?_
  refine j_aload_n C 2 0 dX12_feed_79 rfl rfl ?_
  refine j_getP C 11 101 fX12_feed_21 (by decide) rfl (by decide) rfl (show B.2.2 98 3 = 101 from hB.2.2 98 3 (by decide)) dX12_feed_80 ?_
  refine j_aload_n C 2 0 dX12_feed_83 rfl rfl ?_
  refine j_getI C 11 14 fX12_feed_80 (by decide) rfl (by decide) rfl rfl dX12_feed_84 ?_
  refine j_iload C 0 dX12_feed_87 rfl ?_
  refine j_bipush C 24 dX12_feed_89 (by decide) ?_
  refine j_bipush C 8 dX12_feed_91 (by decide) ?_
  refine j_iload C 1 dX12_feed_93 rfl ?_
  refine j_iconst C 4 dX12_feed_95 (by decide) ?_
  refine z_irem C 2 (by decide) (by decide) dX12_feed_96 ?_
  refine z_imul C 16 (by decide) dX12_feed_97 ?_
  refine z_isub C 8 (by decide) dX12_feed_98 ?_
  refine z_ishr C (p3 >>> ((8 : Int32) &&& 31)) rfl dX12_feed_99 ?_
  refine j_sipush C 255 dX12_feed_100 (by decide) ?_
  refine z_iand C ((p3 >>> ((8 : Int32) &&& 31)) &&& (255 : Int32)) rfl dX12_feed_103 ?_
  refine x_iast C 14 900 (by decide) rfl rfl rfl (by decide) (by decide) dX12_feed_104 ?_
  refine j_aload_n C 2 0 dX12_feed_105 rfl rfl ?_
  refine j_dup C dX12_feed_106 rfl ?_
  refine j_getI C 11 14 fX12_feed_80 (by decide) rfl (by decide) rfl rfl dX12_feed_107 ?_
  refine j_iconst C 1 dX12_feed_110 (by decide) ?_
  refine z_iadd C 15 (by decide) dX12_feed_111 ?_
  refine j_putI C 11 qX12_feed_80 rfl rfl (by decide) rfl (by decide) rfl dX12_feed_112 ?_
  refine j_M (M' := (wI (wI (wI (wI (wI (wI (wI (wI (wI (wI (wI (wI (wI (wI (wI (wI B 101 0 ((p0 >>> ((24 : Int32) &&& 31)) &&& (255 : Int32))) 98 5 15) 101 1 ((p0 >>> ((16 : Int32) &&& 31)) &&& (255 : Int32))) 101 2 ((p0 >>> ((8 : Int32) &&& 31)) &&& (255 : Int32))) 101 3 ((p0 >>> ((0 : Int32) &&& 31)) &&& (255 : Int32))) 101 4 ((p1 >>> ((24 : Int32) &&& 31)) &&& (255 : Int32))) 101 5 ((p1 >>> ((16 : Int32) &&& 31)) &&& (255 : Int32))) 101 6 ((p1 >>> ((8 : Int32) &&& 31)) &&& (255 : Int32))) 101 7 ((p1 >>> ((0 : Int32) &&& 31)) &&& (255 : Int32))) 101 8 ((p2 >>> ((24 : Int32) &&& 31)) &&& (255 : Int32))) 101 9 ((p2 >>> ((16 : Int32) &&& 31)) &&& (255 : Int32))) 101 10 ((p2 >>> ((8 : Int32) &&& 31)) &&& (255 : Int32))) 101 11 ((p2 >>> ((0 : Int32) &&& 31)) &&& (255 : Int32))) 101 12 ((p3 >>> ((24 : Int32) &&& 31)) &&& (255 : Int32))) 101 13 ((p3 >>> ((16 : Int32) &&& 31)) &&& (255 : Int32))) 101 14 ((p3 >>> ((8 : Int32) &&& 31)) &&& (255 : Int32)))) ((wI_c (by decide)).trans (congrArg (fun X => wI X 101 14 ((p3 >>> ((8 : Int32) &&& 31)) &&& (255 : Int32))) ((wI_c (by decide)).trans (congrArg (fun X => wI X 101 13 ((p3 >>> ((16 : Int32) &&& 31)) &&& (255 : Int32))) ((wI_c (by decide)).trans (congrArg (fun X => wI X 101 12 ((p3 >>> ((24 : Int32) &&& 31)) &&& (255 : Int32))) ((wI_c (by decide)).trans (congrArg (fun X => wI X 101 11 ((p2 >>> ((0 : Int32) &&& 31)) &&& (255 : Int32))) ((wI_c (by decide)).trans (congrArg (fun X => wI X 101 10 ((p2 >>> ((8 : Int32) &&& 31)) &&& (255 : Int32))) ((wI_c (by decide)).trans (congrArg (fun X => wI X 101 9 ((p2 >>> ((16 : Int32) &&& 31)) &&& (255 : Int32))) ((wI_c (by decide)).trans (congrArg (fun X => wI X 101 8 ((p2 >>> ((24 : Int32) &&& 31)) &&& (255 : Int32))) ((wI_c (by decide)).trans (congrArg (fun X => wI X 101 7 ((p1 >>> ((0 : Int32) &&& 31)) &&& (255 : Int32))) ((wI_c (by decide)).trans (congrArg (fun X => wI X 101 6 ((p1 >>> ((8 : Int32) &&& 31)) &&& (255 : Int32))) ((wI_c (by decide)).trans (congrArg (fun X => wI X 101 5 ((p1 >>> ((16 : Int32) &&& 31)) &&& (255 : Int32))) ((wI_c (by decide)).trans (congrArg (fun X => wI X 101 4 ((p1 >>> ((24 : Int32) &&& 31)) &&& (255 : Int32))) ((wI_c (by decide)).trans (congrArg (fun X => wI X 101 3 ((p0 >>> ((0 : Int32) &&& 31)) &&& (255 : Int32))) ((wI_c (by decide)).trans (congrArg (fun X => wI X 101 2 ((p0 >>> ((8 : Int32) &&& 31)) &&& (255 : Int32))) ((wI_c (by decide)).trans (congrArg (fun X => wI X 101 1 ((p0 >>> ((16 : Int32) &&& 31)) &&& (255 : Int32))) (wI_w _ _ _ _ _))))))))))))))))))))))))))))) ?_
  refine j_iinc C 1 15 [(6, .int 15), (7, .int p3), (0, .ref (ad 98)), (1, .int p0), (2, .int p1), (3, .int p2), (4, .int p3), (5, .int p4)] dX12_feed_115 rfl (by decide) (by decide) rfl ?_
  refine j_goto C 24 dX12_feed_118 (by decide) ?_
  refine j_iload C 0 dX12_feed_24 rfl ?_
  refine j_bipush C 20 dX12_feed_26 (by decide) ?_
  refine j_icmp_ge_f C 121 dX12_feed_28 (by decide) (by decide) ?_
  refine j_iload C 0 dX12_feed_31 rfl ?_
  refine j_iconst C 4 dX12_feed_33 (by decide) ?_
  refine j_icmp_ge_t C 41 dX12_feed_34 (by decide) (by decide) ?_
  refine j_iload C 0 dX12_feed_41 rfl ?_
  refine j_bipush C 8 dX12_feed_43 (by decide) ?_
  refine j_icmp_ge_t C 52 dX12_feed_45 (by decide) (by decide) ?_
  refine j_iload C 0 dX12_feed_52 rfl ?_
  refine j_bipush C 12 dX12_feed_54 (by decide) ?_
  refine j_icmp_ge_t C 63 dX12_feed_56 (by decide) (by decide) ?_
  refine j_iload C 0 dX12_feed_63 rfl ?_
  refine j_bipush C 16 dX12_feed_65 (by decide) ?_
  refine j_icmp_ge_f C 75 dX12_feed_67 (by decide) (by decide) ?_
  refine j_iload C 6 dX12_feed_70 rfl ?_
  refine j_goto C 77 dX12_feed_72 (by decide) ?_
  refine j_istore C 7 [(7, .int p3), (6, .int 15), (0, .ref (ad 98)), (1, .int p0), (2, .int p1), (3, .int p2), (4, .int p3), (5, .int p4)] dX12_feed_77 (by decide) rfl ?_
  refine j_aload_n C 2 0 dX12_feed_79 rfl rfl ?_
  refine j_getP C 11 101 fX12_feed_21 (by decide) rfl (by decide) rfl (show B.2.2 98 3 = 101 from hB.2.2 98 3 (by decide)) dX12_feed_80 ?_
  refine j_aload_n C 2 0 dX12_feed_83 rfl rfl ?_
  refine j_getI C 11 15 fX12_feed_80 (by decide) rfl (by decide) rfl rfl dX12_feed_84 ?_
  refine j_iload C 0 dX12_feed_87 rfl ?_
  refine j_bipush C 24 dX12_feed_89 (by decide) ?_
  refine j_bipush C 8 dX12_feed_91 (by decide) ?_
  refine j_iload C 1 dX12_feed_93 rfl ?_
  refine j_iconst C 4 dX12_feed_95 (by decide) ?_
  refine z_irem C 3 (by decide) (by decide) dX12_feed_96 ?_
  refine z_imul C 24 (by decide) dX12_feed_97 ?_
  refine z_isub C 0 (by decide) dX12_feed_98 ?_
  refine z_ishr C (p3 >>> ((0 : Int32) &&& 31)) rfl dX12_feed_99 ?_
  refine j_sipush C 255 dX12_feed_100 (by decide) ?_
  refine z_iand C ((p3 >>> ((0 : Int32) &&& 31)) &&& (255 : Int32)) rfl dX12_feed_103 ?_
  refine x_iast C 15 900 (by decide) rfl rfl rfl (by decide) (by decide) dX12_feed_104 ?_
  refine j_aload_n C 2 0 dX12_feed_105 rfl rfl ?_
  refine j_dup C dX12_feed_106 rfl ?_
  refine j_getI C 11 15 fX12_feed_80 (by decide) rfl (by decide) rfl rfl dX12_feed_107 ?_
  refine j_iconst C 1 dX12_feed_110 (by decide) ?_
  refine z_iadd C 16 (by decide) dX12_feed_111 ?_
  refine j_putI C 11 qX12_feed_80 rfl rfl (by decide) rfl (by decide) rfl dX12_feed_112 ?_
  refine j_M (M' := (wI (wI (wI (wI (wI (wI (wI (wI (wI (wI (wI (wI (wI (wI (wI (wI (wI B 101 0 ((p0 >>> ((24 : Int32) &&& 31)) &&& (255 : Int32))) 98 5 16) 101 1 ((p0 >>> ((16 : Int32) &&& 31)) &&& (255 : Int32))) 101 2 ((p0 >>> ((8 : Int32) &&& 31)) &&& (255 : Int32))) 101 3 ((p0 >>> ((0 : Int32) &&& 31)) &&& (255 : Int32))) 101 4 ((p1 >>> ((24 : Int32) &&& 31)) &&& (255 : Int32))) 101 5 ((p1 >>> ((16 : Int32) &&& 31)) &&& (255 : Int32))) 101 6 ((p1 >>> ((8 : Int32) &&& 31)) &&& (255 : Int32))) 101 7 ((p1 >>> ((0 : Int32) &&& 31)) &&& (255 : Int32))) 101 8 ((p2 >>> ((24 : Int32) &&& 31)) &&& (255 : Int32))) 101 9 ((p2 >>> ((16 : Int32) &&& 31)) &&& (255 : Int32))) 101 10 ((p2 >>> ((8 : Int32) &&& 31)) &&& (255 : Int32))) 101 11 ((p2 >>> ((0 : Int32) &&& 31)) &&& (255 : Int32))) 101 12 ((p3 >>> ((24 : Int32) &&& 31)) &&& (255 : Int32))) 101 13 ((p3 >>> ((16 : Int32) &&& 31)) &&& (255 : Int32))) 101 14 ((p3 >>> ((8 : Int32) &&& 31)) &&& (255 : Int32))) 101 15 ((p3 >>> ((0 : Int32) &&& 31)) &&& (255 : Int32)))) ((wI_c (by decide)).trans (congrArg (fun X => wI X 101 15 ((p3 >>> ((0 : Int32) &&& 31)) &&& (255 : Int32))) ((wI_c (by decide)).trans (congrArg (fun X => wI X 101 14 ((p3 >>> ((8 : Int32) &&& 31)) &&& (255 : Int32))) ((wI_c (by decide)).trans (congrArg (fun X => wI X 101 13 ((p3 >>> ((16 : Int32) &&& 31)) &&& (255 : Int32))) ((wI_c (by decide)).trans (congrArg (fun X => wI X 101 12 ((p3 >>> ((24 : Int32) &&& 31)) &&& (255 : Int32))) ((wI_c (by decide)).trans (congrArg (fun X => wI X 101 11 ((p2 >>> ((0 : Int32) &&& 31)) &&& (255 : Int32))) ((wI_c (by decide)).trans (congrArg (fun X => wI X 101 10 ((p2 >>> ((8 : Int32) &&& 31)) &&& (255 : Int32))) ((wI_c (by decide)).trans (congrArg (fun X => wI X 101 9 ((p2 >>> ((16 : Int32) &&& 31)) &&& (255 : Int32))) ((wI_c (by decide)).trans (congrArg (fun X => wI X 101 8 ((p2 >>> ((24 : Int32) &&& 31)) &&& (255 : Int32))) ((wI_c (by decide)).trans (congrArg (fun X => wI X 101 7 ((p1 >>> ((0 : Int32) &&& 31)) &&& (255 : Int32))) ((wI_c (by decide)).trans (congrArg (fun X => wI X 101 6 ((p1 >>> ((8 : Int32) &&& 31)) &&& (255 : Int32))) ((wI_c (by decide)).trans (congrArg (fun X => wI X 101 5 ((p1 >>> ((16 : Int32) &&& 31)) &&& (255 : Int32))) ((wI_c (by decide)).trans (congrArg (fun X => wI X 101 4 ((p1 >>> ((24 : Int32) &&& 31)) &&& (255 : Int32))) ((wI_c (by decide)).trans (congrArg (fun X => wI X 101 3 ((p0 >>> ((0 : Int32) &&& 31)) &&& (255 : Int32))) ((wI_c (by decide)).trans (congrArg (fun X => wI X 101 2 ((p0 >>> ((8 : Int32) &&& 31)) &&& (255 : Int32))) ((wI_c (by decide)).trans (congrArg (fun X => wI X 101 1 ((p0 >>> ((16 : Int32) &&& 31)) &&& (255 : Int32))) (wI_w _ _ _ _ _))))))))))))))))))))))))))))))) ?_
  refine j_iinc C 1 16 [(6, .int 16), (7, .int p3), (0, .ref (ad 98)), (1, .int p0), (2, .int p1), (3, .int p2), (4, .int p3), (5, .int p4)] dX12_feed_115 rfl (by decide) (by decide) rfl ?_
  refine j_goto C 24 dX12_feed_118 (by decide) ?_
  refine j_iload C 0 dX12_feed_24 rfl ?_
  refine j_bipush C 20 dX12_feed_26 (by decide) ?_
  refine j_icmp_ge_f C 121 dX12_feed_28 (by decide) (by decide) ?_
  refine j_iload C 0 dX12_feed_31 rfl ?_
  refine j_iconst C 4 dX12_feed_33 (by decide) ?_
  refine j_icmp_ge_t C 41 dX12_feed_34 (by decide) (by decide) ?_
  refine j_iload C 0 dX12_feed_41 rfl ?_
  refine j_bipush C 8 dX12_feed_43 (by decide) ?_
  refine j_icmp_ge_t C 52 dX12_feed_45 (by decide) (by decide) ?_
  refine j_iload C 0 dX12_feed_52 rfl ?_
  refine j_bipush C 12 dX12_feed_54 (by decide) ?_
  refine j_icmp_ge_t C 63 dX12_feed_56 (by decide) (by decide) ?_
  refine j_iload C 0 dX12_feed_63 rfl ?_
  refine j_bipush C 16 dX12_feed_65 (by decide) ?_
  refine j_icmp_ge_t C 75 dX12_feed_67 (by decide) (by decide) ?_
  refine j_iload C 7 dX12_feed_75 rfl ?_
  refine j_istore C 7 [(7, .int p4), (6, .int 16), (0, .ref (ad 98)), (1, .int p0), (2, .int p1), (3, .int p2), (4, .int p3), (5, .int p4)] dX12_feed_77 (by decide) rfl ?_
  refine j_aload_n C 2 0 dX12_feed_79 rfl rfl ?_
  refine j_getP C 11 101 fX12_feed_21 (by decide) rfl (by decide) rfl (show B.2.2 98 3 = 101 from hB.2.2 98 3 (by decide)) dX12_feed_80 ?_
  refine j_aload_n C 2 0 dX12_feed_83 rfl rfl ?_
  refine j_getI C 11 16 fX12_feed_80 (by decide) rfl (by decide) rfl rfl dX12_feed_84 ?_
  refine j_iload C 0 dX12_feed_87 rfl ?_
  refine j_bipush C 24 dX12_feed_89 (by decide) ?_
  refine j_bipush C 8 dX12_feed_91 (by decide) ?_
  refine j_iload C 1 dX12_feed_93 rfl ?_
  refine j_iconst C 4 dX12_feed_95 (by decide) ?_
  refine z_irem C 0 (by decide) (by decide) dX12_feed_96 ?_
  refine z_imul C 0 (by decide) dX12_feed_97 ?_
  refine z_isub C 24 (by decide) dX12_feed_98 ?_
  refine z_ishr C (p4 >>> ((24 : Int32) &&& 31)) rfl dX12_feed_99 ?_
  refine j_sipush C 255 dX12_feed_100 (by decide) ?_
  refine z_iand C ((p4 >>> ((24 : Int32) &&& 31)) &&& (255 : Int32)) rfl dX12_feed_103 ?_
  refine x_iast C 16 900 (by decide) rfl rfl rfl (by decide) (by decide) dX12_feed_104 ?_
  refine j_aload_n C 2 0 dX12_feed_105 rfl rfl ?_
  refine j_dup C dX12_feed_106 rfl ?_
  refine j_getI C 11 16 fX12_feed_80 (by decide) rfl (by decide) rfl rfl dX12_feed_107 ?_
  refine j_iconst C 1 dX12_feed_110 (by decide) ?_
  refine z_iadd C 17 (by decide) dX12_feed_111 ?_
  refine j_putI C 11 qX12_feed_80 rfl rfl (by decide) rfl (by decide) rfl dX12_feed_112 ?_
  refine j_M (M' := (wI (wI (wI (wI (wI (wI (wI (wI (wI (wI (wI (wI (wI (wI (wI (wI (wI (wI B 101 0 ((p0 >>> ((24 : Int32) &&& 31)) &&& (255 : Int32))) 98 5 17) 101 1 ((p0 >>> ((16 : Int32) &&& 31)) &&& (255 : Int32))) 101 2 ((p0 >>> ((8 : Int32) &&& 31)) &&& (255 : Int32))) 101 3 ((p0 >>> ((0 : Int32) &&& 31)) &&& (255 : Int32))) 101 4 ((p1 >>> ((24 : Int32) &&& 31)) &&& (255 : Int32))) 101 5 ((p1 >>> ((16 : Int32) &&& 31)) &&& (255 : Int32))) 101 6 ((p1 >>> ((8 : Int32) &&& 31)) &&& (255 : Int32))) 101 7 ((p1 >>> ((0 : Int32) &&& 31)) &&& (255 : Int32))) 101 8 ((p2 >>> ((24 : Int32) &&& 31)) &&& (255 : Int32))) 101 9 ((p2 >>> ((16 : Int32) &&& 31)) &&& (255 : Int32))) 101 10 ((p2 >>> ((8 : Int32) &&& 31)) &&& (255 : Int32))) 101 11 ((p2 >>> ((0 : Int32) &&& 31)) &&& (255 : Int32))) 101 12 ((p3 >>> ((24 : Int32) &&& 31)) &&& (255 : Int32))) 101 13 ((p3 >>> ((16 : Int32) &&& 31)) &&& (255 : Int32))) 101 14 ((p3 >>> ((8 : Int32) &&& 31)) &&& (255 : Int32))) 101 15 ((p3 >>> ((0 : Int32) &&& 31)) &&& (255 : Int32))) 101 16 ((p4 >>> ((24 : Int32) &&& 31)) &&& (255 : Int32)))) ((wI_c (by decide)).trans (congrArg (fun X => wI X 101 16 ((p4 >>> ((24 : Int32) &&& 31)) &&& (255 : Int32))) ((wI_c (by decide)).trans (congrArg (fun X => wI X 101 15 ((p3 >>> ((0 : Int32) &&& 31)) &&& (255 : Int32))) ((wI_c (by decide)).trans (congrArg (fun X => wI X 101 14 ((p3 >>> ((8 : Int32) &&& 31)) &&& (255 : Int32))) ((wI_c (by decide)).trans (congrArg (fun X => wI X 101 13 ((p3 >>> ((16 : Int32) &&& 31)) &&& (255 : Int32))) ((wI_c (by decide)).trans (congrArg (fun X => wI X 101 12 ((p3 >>> ((24 : Int32) &&& 31)) &&& (255 : Int32))) ((wI_c (by decide)).trans (congrArg (fun X => wI X 101 11 ((p2 >>> ((0 : Int32) &&& 31)) &&& (255 : Int32))) ((wI_c (by decide)).trans (congrArg (fun X => wI X 101 10 ((p2 >>> ((8 : Int32) &&& 31)) &&& (255 : Int32))) ((wI_c (by decide)).trans (congrArg (fun X => wI X 101 9 ((p2 >>> ((16 : Int32) &&& 31)) &&& (255 : Int32))) ((wI_c (by decide)).trans (congrArg (fun X => wI X 101 8 ((p2 >>> ((24 : Int32) &&& 31)) &&& (255 : Int32))) ((wI_c (by decide)).trans (congrArg (fun X => wI X 101 7 ((p1 >>> ((0 : Int32) &&& 31)) &&& (255 : Int32))) ((wI_c (by decide)).trans (congrArg (fun X => wI X 101 6 ((p1 >>> ((8 : Int32) &&& 31)) &&& (255 : Int32))) ((wI_c (by decide)).trans (congrArg (fun X => wI X 101 5 ((p1 >>> ((16 : Int32) &&& 31)) &&& (255 : Int32))) ((wI_c (by decide)).trans (congrArg (fun X => wI X 101 4 ((p1 >>> ((24 : Int32) &&& 31)) &&& (255 : Int32))) ((wI_c (by decide)).trans (congrArg (fun X => wI X 101 3 ((p0 >>> ((0 : Int32) &&& 31)) &&& (255 : Int32))) ((wI_c (by decide)).trans (congrArg (fun X => wI X 101 2 ((p0 >>> ((8 : Int32) &&& 31)) &&& (255 : Int32))) ((wI_c (by decide)).trans (congrArg (fun X => wI X 101 1 ((p0 >>> ((16 : Int32) &&& 31)) &&& (255 : Int32))) (wI_w _ _ _ _ _))))))))))))))))))))))))))))))))) ?_
  refine j_iinc C 1 17 [(6, .int 17), (7, .int p4), (0, .ref (ad 98)), (1, .int p0), (2, .int p1), (3, .int p2), (4, .int p3), (5, .int p4)] dX12_feed_115 rfl (by decide) (by decide) rfl ?_
  refine j_goto C 24 dX12_feed_118 (by decide) ?_
  refine j_iload C 0 dX12_feed_24 rfl ?_
  refine j_bipush C 20 dX12_feed_26 (by decide) ?_
  refine j_icmp_ge_f C 121 dX12_feed_28 (by decide) (by decide) ?_
  refine j_iload C 0 dX12_feed_31 rfl ?_
  refine j_iconst C 4 dX12_feed_33 (by decide) ?_
  refine j_icmp_ge_t C 41 dX12_feed_34 (by decide) (by decide) ?_
  refine j_iload C 0 dX12_feed_41 rfl ?_
  refine j_bipush C 8 dX12_feed_43 (by decide) ?_
  refine j_icmp_ge_t C 52 dX12_feed_45 (by decide) (by decide) ?_
  refine j_iload C 0 dX12_feed_52 rfl ?_
  refine j_bipush C 12 dX12_feed_54 (by decide) ?_
  refine j_icmp_ge_t C 63 dX12_feed_56 (by decide) (by decide) ?_
  refine j_iload C 0 dX12_feed_63 rfl ?_
  refine j_bipush C 16 dX12_feed_65 (by decide) ?_
  refine j_icmp_ge_t C 75 dX12_feed_67 (by decide) (by decide) ?_
  refine j_iload C 7 dX12_feed_75 rfl ?_
  refine j_istore C 7 [(7, .int p4), (6, .int 17), (0, .ref (ad 98)), (1, .int p0), (2, .int p1), (3, .int p2), (4, .int p3), (5, .int p4)] dX12_feed_77 (by decide) rfl ?_
  refine j_aload_n C 2 0 dX12_feed_79 rfl rfl ?_
  refine j_getP C 11 101 fX12_feed_21 (by decide) rfl (by decide) rfl (show B.2.2 98 3 = 101 from hB.2.2 98 3 (by decide)) dX12_feed_80 ?_
  refine j_aload_n C 2 0 dX12_feed_83 rfl rfl ?_
  refine j_getI C 11 17 fX12_feed_80 (by decide) rfl (by decide) rfl rfl dX12_feed_84 ?_
  refine j_iload C 0 dX12_feed_87 rfl ?_
  refine j_bipush C 24 dX12_feed_89 (by decide) ?_
  refine j_bipush C 8 dX12_feed_91 (by decide) ?_
  refine j_iload C 1 dX12_feed_93 rfl ?_
  refine j_iconst C 4 dX12_feed_95 (by decide) ?_
  refine z_irem C 1 (by decide) (by decide) dX12_feed_96 ?_
  refine z_imul C 8 (by decide) dX12_feed_97 ?_
  refine z_isub C 16 (by decide) dX12_feed_98 ?_
  refine z_ishr C (p4 >>> ((16 : Int32) &&& 31)) rfl dX12_feed_99 ?_
  refine j_sipush C 255 dX12_feed_100 (by decide) ?_
  refine z_iand C ((p4 >>> ((16 : Int32) &&& 31)) &&& (255 : Int32)) rfl dX12_feed_103 ?_
  refine x_iast C 17 900 (by decide) rfl rfl rfl (by decide) (by decide) dX12_feed_104 ?_
  refine j_aload_n C 2 0 dX12_feed_105 rfl rfl ?_
  refine j_dup C dX12_feed_106 rfl ?_
  refine j_getI C 11 17 fX12_feed_80 (by decide) rfl (by decide) rfl rfl dX12_feed_107 ?_
  refine j_iconst C 1 dX12_feed_110 (by decide) ?_
  refine z_iadd C 18 (by decide) dX12_feed_111 ?_
  refine j_putI C 11 qX12_feed_80 rfl rfl (by decide) rfl (by decide) rfl dX12_feed_112 ?_
  refine j_M (M' := (wI (wI (wI (wI (wI (wI (wI (wI (wI (wI (wI (wI (wI (wI (wI (wI (wI (wI (wI B 101 0 ((p0 >>> ((24 : Int32) &&& 31)) &&& (255 : Int32))) 98 5 18) 101 1 ((p0 >>> ((16 : Int32) &&& 31)) &&& (255 : Int32))) 101 2 ((p0 >>> ((8 : Int32) &&& 31)) &&& (255 : Int32))) 101 3 ((p0 >>> ((0 : Int32) &&& 31)) &&& (255 : Int32))) 101 4 ((p1 >>> ((24 : Int32) &&& 31)) &&& (255 : Int32))) 101 5 ((p1 >>> ((16 : Int32) &&& 31)) &&& (255 : Int32))) 101 6 ((p1 >>> ((8 : Int32) &&& 31)) &&& (255 : Int32))) 101 7 ((p1 >>> ((0 : Int32) &&& 31)) &&& (255 : Int32))) 101 8 ((p2 >>> ((24 : Int32) &&& 31)) &&& (255 : Int32))) 101 9 ((p2 >>> ((16 : Int32) &&& 31)) &&& (255 : Int32))) 101 10 ((p2 >>> ((8 : Int32) &&& 31)) &&& (255 : Int32))) 101 11 ((p2 >>> ((0 : Int32) &&& 31)) &&& (255 : Int32))) 101 12 ((p3 >>> ((24 : Int32) &&& 31)) &&& (255 : Int32))) 101 13 ((p3 >>> ((16 : Int32) &&& 31)) &&& (255 : Int32))) 101 14 ((p3 >>> ((8 : Int32) &&& 31)) &&& (255 : Int32))) 101 15 ((p3 >>> ((0 : Int32) &&& 31)) &&& (255 : Int32))) 101 16 ((p4 >>> ((24 : Int32) &&& 31)) &&& (255 : Int32))) 101 17 ((p4 >>> ((16 : Int32) &&& 31)) &&& (255 : Int32)))) ((wI_c (by decide)).trans (congrArg (fun X => wI X 101 17 ((p4 >>> ((16 : Int32) &&& 31)) &&& (255 : Int32))) ((wI_c (by decide)).trans (congrArg (fun X => wI X 101 16 ((p4 >>> ((24 : Int32) &&& 31)) &&& (255 : Int32))) ((wI_c (by decide)).trans (congrArg (fun X => wI X 101 15 ((p3 >>> ((0 : Int32) &&& 31)) &&& (255 : Int32))) ((wI_c (by decide)).trans (congrArg (fun X => wI X 101 14 ((p3 >>> ((8 : Int32) &&& 31)) &&& (255 : Int32))) ((wI_c (by decide)).trans (congrArg (fun X => wI X 101 13 ((p3 >>> ((16 : Int32) &&& 31)) &&& (255 : Int32))) ((wI_c (by decide)).trans (congrArg (fun X => wI X 101 12 ((p3 >>> ((24 : Int32) &&& 31)) &&& (255 : Int32))) ((wI_c (by decide)).trans (congrArg (fun X => wI X 101 11 ((p2 >>> ((0 : Int32) &&& 31)) &&& (255 : Int32))) ((wI_c (by decide)).trans (congrArg (fun X => wI X 101 10 ((p2 >>> ((8 : Int32) &&& 31)) &&& (255 : Int32))) ((wI_c (by decide)).trans (congrArg (fun X => wI X 101 9 ((p2 >>> ((16 : Int32) &&& 31)) &&& (255 : Int32))) ((wI_c (by decide)).trans (congrArg (fun X => wI X 101 8 ((p2 >>> ((24 : Int32) &&& 31)) &&& (255 : Int32))) ((wI_c (by decide)).trans (congrArg (fun X => wI X 101 7 ((p1 >>> ((0 : Int32) &&& 31)) &&& (255 : Int32))) ((wI_c (by decide)).trans (congrArg (fun X => wI X 101 6 ((p1 >>> ((8 : Int32) &&& 31)) &&& (255 : Int32))) ((wI_c (by decide)).trans (congrArg (fun X => wI X 101 5 ((p1 >>> ((16 : Int32) &&& 31)) &&& (255 : Int32))) ((wI_c (by decide)).trans (congrArg (fun X => wI X 101 4 ((p1 >>> ((24 : Int32) &&& 31)) &&& (255 : Int32))) ((wI_c (by decide)).trans (congrArg (fun X => wI X 101 3 ((p0 >>> ((0 : Int32) &&& 31)) &&& (255 : Int32))) ((wI_c (by decide)).trans (congrArg (fun X => wI X 101 2 ((p0 >>> ((8 : Int32) &&& 31)) &&& (255 : Int32))) ((wI_c (by decide)).trans (congrArg (fun X => wI X 101 1 ((p0 >>> ((16 : Int32) &&& 31)) &&& (255 : Int32))) (wI_w _ _ _ _ _))))))))))))))))))))))))))))))))))) ?_
  refine j_iinc C 1 18 [(6, .int 18), (7, .int p4), (0, .ref (ad 98)), (1, .int p0), (2, .int p1), (3, .int p2), (4, .int p3), (5, .int p4)] dX12_feed_115 rfl (by decide) (by decide) rfl ?_
  refine j_goto C 24 dX12_feed_118 (by decide) ?_
  refine j_iload C 0 dX12_feed_24 rfl ?_
  refine j_bipush C 20 dX12_feed_26 (by decide) ?_
  refine j_icmp_ge_f C 121 dX12_feed_28 (by decide) (by decide) ?_
  refine j_iload C 0 dX12_feed_31 rfl ?_
  refine j_iconst C 4 dX12_feed_33 (by decide) ?_
  refine j_icmp_ge_t C 41 dX12_feed_34 (by decide) (by decide) ?_
  refine j_iload C 0 dX12_feed_41 rfl ?_
  refine j_bipush C 8 dX12_feed_43 (by decide) ?_
  refine j_icmp_ge_t C 52 dX12_feed_45 (by decide) (by decide) ?_
  refine j_iload C 0 dX12_feed_52 rfl ?_
  refine j_bipush C 12 dX12_feed_54 (by decide) ?_
  refine j_icmp_ge_t C 63 dX12_feed_56 (by decide) (by decide) ?_
  refine j_iload C 0 dX12_feed_63 rfl ?_
  refine j_bipush C 16 dX12_feed_65 (by decide) ?_
  refine j_icmp_ge_t C 75 dX12_feed_67 (by decide) (by decide) ?_
  refine j_iload C 7 dX12_feed_75 rfl ?_
  refine j_istore C 7 [(7, .int p4), (6, .int 18), (0, .ref (ad 98)), (1, .int p0), (2, .int p1), (3, .int p2), (4, .int p3), (5, .int p4)] dX12_feed_77 (by decide) rfl ?_
  refine j_aload_n C 2 0 dX12_feed_79 rfl rfl ?_
  refine j_getP C 11 101 fX12_feed_21 (by decide) rfl (by decide) rfl (show B.2.2 98 3 = 101 from hB.2.2 98 3 (by decide)) dX12_feed_80 ?_
  refine j_aload_n C 2 0 dX12_feed_83 rfl rfl ?_
  refine j_getI C 11 18 fX12_feed_80 (by decide) rfl (by decide) rfl rfl dX12_feed_84 ?_
  refine j_iload C 0 dX12_feed_87 rfl ?_
  refine j_bipush C 24 dX12_feed_89 (by decide) ?_
  refine j_bipush C 8 dX12_feed_91 (by decide) ?_
  refine j_iload C 1 dX12_feed_93 rfl ?_
  refine j_iconst C 4 dX12_feed_95 (by decide) ?_
  refine z_irem C 2 (by decide) (by decide) dX12_feed_96 ?_
  refine z_imul C 16 (by decide) dX12_feed_97 ?_
  refine z_isub C 8 (by decide) dX12_feed_98 ?_
  refine z_ishr C (p4 >>> ((8 : Int32) &&& 31)) rfl dX12_feed_99 ?_
  refine j_sipush C 255 dX12_feed_100 (by decide) ?_
  refine z_iand C ((p4 >>> ((8 : Int32) &&& 31)) &&& (255 : Int32)) rfl dX12_feed_103 ?_
  refine x_iast C 18 900 (by decide) rfl rfl rfl (by decide) (by decide) dX12_feed_104 ?_
  refine j_aload_n C 2 0 dX12_feed_105 rfl rfl ?_
  refine j_dup C dX12_feed_106 rfl ?_
  refine j_getI C 11 18 fX12_feed_80 (by decide) rfl (by decide) rfl rfl dX12_feed_107 ?_
  refine j_iconst C 1 dX12_feed_110 (by decide) ?_
  refine z_iadd C 19 (by decide) dX12_feed_111 ?_
  refine j_putI C 11 qX12_feed_80 rfl rfl (by decide) rfl (by decide) rfl dX12_feed_112 ?_
  refine j_M (M' := (wI (wI (wI (wI (wI (wI (wI (wI (wI (wI (wI (wI (wI (wI (wI (wI (wI (wI (wI (wI B 101 0 ((p0 >>> ((24 : Int32) &&& 31)) &&& (255 : Int32))) 98 5 19) 101 1 ((p0 >>> ((16 : Int32) &&& 31)) &&& (255 : Int32))) 101 2 ((p0 >>> ((8 : Int32) &&& 31)) &&& (255 : Int32))) 101 3 ((p0 >>> ((0 : Int32) &&& 31)) &&& (255 : Int32))) 101 4 ((p1 >>> ((24 : Int32) &&& 31)) &&& (255 : Int32))) 101 5 ((p1 >>> ((16 : Int32) &&& 31)) &&& (255 : Int32))) 101 6 ((p1 >>> ((8 : Int32) &&& 31)) &&& (255 : Int32))) 101 7 ((p1 >>> ((0 : Int32) &&& 31)) &&& (255 : Int32))) 101 8 ((p2 >>> ((24 : Int32) &&& 31)) &&& (255 : Int32))) 101 9 ((p2 >>> ((16 : Int32) &&& 31)) &&& (255 : Int32))) 101 10 ((p2 >>> ((8 : Int32) &&& 31)) &&& (255 : Int32))) 101 11 ((p2 >>> ((0 : Int32) &&& 31)) &&& (255 : Int32))) 101 12 ((p3 >>> ((24 : Int32) &&& 31)) &&& (255 : Int32))) 101 13 ((p3 >>> ((16 : Int32) &&& 31)) &&& (255 : Int32))) 101 14 ((p3 >>> ((8 : Int32) &&& 31)) &&& (255 : Int32))) 101 15 ((p3 >>> ((0 : Int32) &&& 31)) &&& (255 : Int32))) 101 16 ((p4 >>> ((24 : Int32) &&& 31)) &&& (255 : Int32))) 101 17 ((p4 >>> ((16 : Int32) &&& 31)) &&& (255 : Int32))) 101 18 ((p4 >>> ((8 : Int32) &&& 31)) &&& (255 : Int32)))) ((wI_c (by decide)).trans (congrArg (fun X => wI X 101 18 ((p4 >>> ((8 : Int32) &&& 31)) &&& (255 : Int32))) ((wI_c (by decide)).trans (congrArg (fun X => wI X 101 17 ((p4 >>> ((16 : Int32) &&& 31)) &&& (255 : Int32))) ((wI_c (by decide)).trans (congrArg (fun X => wI X 101 16 ((p4 >>> ((24 : Int32) &&& 31)) &&& (255 : Int32))) ((wI_c (by decide)).trans (congrArg (fun X => wI X 101 15 ((p3 >>> ((0 : Int32) &&& 31)) &&& (255 : Int32))) ((wI_c (by decide)).trans (congrArg (fun X => wI X 101 14 ((p3 >>> ((8 : Int32) &&& 31)) &&& (255 : Int32))) ((wI_c (by decide)).trans (congrArg (fun X => wI X 101 13 ((p3 >>> ((16 : Int32) &&& 31)) &&& (255 : Int32))) ((wI_c (by decide)).trans (congrArg (fun X => wI X 101 12 ((p3 >>> ((24 : Int32) &&& 31)) &&& (255 : Int32))) ((wI_c (by decide)).trans (congrArg (fun X => wI X 101 11 ((p2 >>> ((0 : Int32) &&& 31)) &&& (255 : Int32))) ((wI_c (by decide)).trans (congrArg (fun X => wI X 101 10 ((p2 >>> ((8 : Int32) &&& 31)) &&& (255 : Int32))) ((wI_c (by decide)).trans (congrArg (fun X => wI X 101 9 ((p2 >>> ((16 : Int32) &&& 31)) &&& (255 : Int32))) ((wI_c (by decide)).trans (congrArg (fun X => wI X 101 8 ((p2 >>> ((24 : Int32) &&& 31)) &&& (255 : Int32))) ((wI_c (by decide)).trans (congrArg (fun X => wI X 101 7 ((p1 >>> ((0 : Int32) &&& 31)) &&& (255 : Int32))) ((wI_c (by decide)).trans (congrArg (fun X => wI X 101 6 ((p1 >>> ((8 : Int32) &&& 31)) &&& (255 : Int32))) ((wI_c (by decide)).trans (congrArg (fun X => wI X 101 5 ((p1 >>> ((16 : Int32) &&& 31)) &&& (255 : Int32))) ((wI_c (by decide)).trans (congrArg (fun X => wI X 101 4 ((p1 >>> ((24 : Int32) &&& 31)) &&& (255 : Int32))) ((wI_c (by decide)).trans (congrArg (fun X => wI X 101 3 ((p0 >>> ((0 : Int32) &&& 31)) &&& (255 : Int32))) ((wI_c (by decide)).trans (congrArg (fun X => wI X 101 2 ((p0 >>> ((8 : Int32) &&& 31)) &&& (255 : Int32))) ((wI_c (by decide)).trans (congrArg (fun X => wI X 101 1 ((p0 >>> ((16 : Int32) &&& 31)) &&& (255 : Int32))) (wI_w _ _ _ _ _))))))))))))))))))))))))))))))))))))) ?_
  refine j_iinc C 1 19 [(6, .int 19), (7, .int p4), (0, .ref (ad 98)), (1, .int p0), (2, .int p1), (3, .int p2), (4, .int p3), (5, .int p4)] dX12_feed_115 rfl (by decide) (by decide) rfl ?_
  refine j_goto C 24 dX12_feed_118 (by decide) ?_
  refine j_iload C 0 dX12_feed_24 rfl ?_
  refine j_bipush C 20 dX12_feed_26 (by decide) ?_
  refine j_icmp_ge_f C 121 dX12_feed_28 (by decide) (by decide) ?_
  refine j_iload C 0 dX12_feed_31 rfl ?_
  refine j_iconst C 4 dX12_feed_33 (by decide) ?_
  refine j_icmp_ge_t C 41 dX12_feed_34 (by decide) (by decide) ?_
  refine j_iload C 0 dX12_feed_41 rfl ?_
  refine j_bipush C 8 dX12_feed_43 (by decide) ?_
  refine j_icmp_ge_t C 52 dX12_feed_45 (by decide) (by decide) ?_
  refine j_iload C 0 dX12_feed_52 rfl ?_
  refine j_bipush C 12 dX12_feed_54 (by decide) ?_
  refine j_icmp_ge_t C 63 dX12_feed_56 (by decide) (by decide) ?_
  refine j_iload C 0 dX12_feed_63 rfl ?_
  refine j_bipush C 16 dX12_feed_65 (by decide) ?_
  refine j_icmp_ge_t C 75 dX12_feed_67 (by decide) (by decide) ?_
  refine j_iload C 7 dX12_feed_75 rfl ?_
  refine j_istore C 7 [(7, .int p4), (6, .int 19), (0, .ref (ad 98)), (1, .int p0), (2, .int p1), (3, .int p2), (4, .int p3), (5, .int p4)] dX12_feed_77 (by decide) rfl ?_
  refine j_aload_n C 2 0 dX12_feed_79 rfl rfl ?_
  refine j_getP C 11 101 fX12_feed_21 (by decide) rfl (by decide) rfl (show B.2.2 98 3 = 101 from hB.2.2 98 3 (by decide)) dX12_feed_80 ?_
  refine j_aload_n C 2 0 dX12_feed_83 rfl rfl ?_
  refine j_getI C 11 19 fX12_feed_80 (by decide) rfl (by decide) rfl rfl dX12_feed_84 ?_
  refine j_iload C 0 dX12_feed_87 rfl ?_
  refine j_bipush C 24 dX12_feed_89 (by decide) ?_
  refine j_bipush C 8 dX12_feed_91 (by decide) ?_
  refine j_iload C 1 dX12_feed_93 rfl ?_
  refine j_iconst C 4 dX12_feed_95 (by decide) ?_
  refine z_irem C 3 (by decide) (by decide) dX12_feed_96 ?_
  refine z_imul C 24 (by decide) dX12_feed_97 ?_
  refine z_isub C 0 (by decide) dX12_feed_98 ?_
  refine z_ishr C (p4 >>> ((0 : Int32) &&& 31)) rfl dX12_feed_99 ?_
  refine j_sipush C 255 dX12_feed_100 (by decide) ?_
  refine z_iand C ((p4 >>> ((0 : Int32) &&& 31)) &&& (255 : Int32)) rfl dX12_feed_103 ?_
  refine x_iast C 19 900 (by decide) rfl rfl rfl (by decide) (by decide) dX12_feed_104 ?_
  refine j_aload_n C 2 0 dX12_feed_105 rfl rfl ?_
  refine j_dup C dX12_feed_106 rfl ?_
  refine j_getI C 11 19 fX12_feed_80 (by decide) rfl (by decide) rfl rfl dX12_feed_107 ?_
  refine j_iconst C 1 dX12_feed_110 (by decide) ?_
  refine z_iadd C 20 (by decide) dX12_feed_111 ?_
  refine j_putI C 11 qX12_feed_80 rfl rfl (by decide) rfl (by decide) rfl dX12_feed_112 ?_
  refine j_M (M' := (wI (wI (wI (wI (wI (wI (wI (wI (wI (wI (wI (wI (wI (wI (wI (wI (wI (wI (wI (wI (wI B 101 0 ((p0 >>> ((24 : Int32) &&& 31)) &&& (255 : Int32))) 98 5 20) 101 1 ((p0 >>> ((16 : Int32) &&& 31)) &&& (255 : Int32))) 101 2 ((p0 >>> ((8 : Int32) &&& 31)) &&& (255 : Int32))) 101 3 ((p0 >>> ((0 : Int32) &&& 31)) &&& (255 : Int32))) 101 4 ((p1 >>> ((24 : Int32) &&& 31)) &&& (255 : Int32))) 101 5 ((p1 >>> ((16 : Int32) &&& 31)) &&& (255 : Int32))) 101 6 ((p1 >>> ((8 : Int32) &&& 31)) &&& (255 : Int32))) 101 7 ((p1 >>> ((0 : Int32) &&& 31)) &&& (255 : Int32))) 101 8 ((p2 >>> ((24 : Int32) &&& 31)) &&& (255 : Int32))) 101 9 ((p2 >>> ((16 : Int32) &&& 31)) &&& (255 : Int32))) 101 10 ((p2 >>> ((8 : Int32) &&& 31)) &&& (255 : Int32))) 101 11 ((p2 >>> ((0 : Int32) &&& 31)) &&& (255 : Int32))) 101 12 ((p3 >>> ((24 : Int32) &&& 31)) &&& (255 : Int32))) 101 13 ((p3 >>> ((16 : Int32) &&& 31)) &&& (255 : Int32))) 101 14 ((p3 >>> ((8 : Int32) &&& 31)) &&& (255 : Int32))) 101 15 ((p3 >>> ((0 : Int32) &&& 31)) &&& (255 : Int32))) 101 16 ((p4 >>> ((24 : Int32) &&& 31)) &&& (255 : Int32))) 101 17 ((p4 >>> ((16 : Int32) &&& 31)) &&& (255 : Int32))) 101 18 ((p4 >>> ((8 : Int32) &&& 31)) &&& (255 : Int32))) 101 19 ((p4 >>> ((0 : Int32) &&& 31)) &&& (255 : Int32)))) ((wI_c (by decide)).trans (congrArg (fun X => wI X 101 19 ((p4 >>> ((0 : Int32) &&& 31)) &&& (255 : Int32))) ((wI_c (by decide)).trans (congrArg (fun X => wI X 101 18 ((p4 >>> ((8 : Int32) &&& 31)) &&& (255 : Int32))) ((wI_c (by decide)).trans (congrArg (fun X => wI X 101 17 ((p4 >>> ((16 : Int32) &&& 31)) &&& (255 : Int32))) ((wI_c (by decide)).trans (congrArg (fun X => wI X 101 16 ((p4 >>> ((24 : Int32) &&& 31)) &&& (255 : Int32))) ((wI_c (by decide)).trans (congrArg (fun X => wI X 101 15 ((p3 >>> ((0 : Int32) &&& 31)) &&& (255 : Int32))) ((wI_c (by decide)).trans (congrArg (fun X => wI X 101 14 ((p3 >>> ((8 : Int32) &&& 31)) &&& (255 : Int32))) ((wI_c (by decide)).trans (congrArg (fun X => wI X 101 13 ((p3 >>> ((16 : Int32) &&& 31)) &&& (255 : Int32))) ((wI_c (by decide)).trans (congrArg (fun X => wI X 101 12 ((p3 >>> ((24 : Int32) &&& 31)) &&& (255 : Int32))) ((wI_c (by decide)).trans (congrArg (fun X => wI X 101 11 ((p2 >>> ((0 : Int32) &&& 31)) &&& (255 : Int32))) ((wI_c (by decide)).trans (congrArg (fun X => wI X 101 10 ((p2 >>> ((8 : Int32) &&& 31)) &&& (255 : Int32))) ((wI_c (by decide)).trans (congrArg (fun X => wI X 101 9 ((p2 >>> ((16 : Int32) &&& 31)) &&& (255 : Int32))) ((wI_c (by decide)).trans (congrArg (fun X => wI X 101 8 ((p2 >>> ((24 : Int32) &&& 31)) &&& (255 : Int32))) ((wI_c (by decide)).trans (congrArg (fun X => wI X 101 7 ((p1 >>> ((0 : Int32) &&& 31)) &&& (255 : Int32))) ((wI_c (by decide)).trans (congrArg (fun X => wI X 101 6 ((p1 >>> ((8 : Int32) &&& 31)) &&& (255 : Int32))) ((wI_c (by decide)).trans (congrArg (fun X => wI X 101 5 ((p1 >>> ((16 : Int32) &&& 31)) &&& (255 : Int32))) ((wI_c (by decide)).trans (congrArg (fun X => wI X 101 4 ((p1 >>> ((24 : Int32) &&& 31)) &&& (255 : Int32))) ((wI_c (by decide)).trans (congrArg (fun X => wI X 101 3 ((p0 >>> ((0 : Int32) &&& 31)) &&& (255 : Int32))) ((wI_c (by decide)).trans (congrArg (fun X => wI X 101 2 ((p0 >>> ((8 : Int32) &&& 31)) &&& (255 : Int32))) ((wI_c (by decide)).trans (congrArg (fun X => wI X 101 1 ((p0 >>> ((16 : Int32) &&& 31)) &&& (255 : Int32))) (wI_w _ _ _ _ _))))))))))))))))))))))))))))))))))))))) ?_
  refine j_iinc C 1 20 [(6, .int 20), (7, .int p4), (0, .ref (ad 98)), (1, .int p0), (2, .int p1), (3, .int p2), (4, .int p3), (5, .int p4)] dX12_feed_115 rfl (by decide) (by decide) rfl ?_
  refine j_goto C 24 dX12_feed_118 (by decide) ?_
  refine j_iload C 0 dX12_feed_24 rfl ?_
  refine j_bipush C 20 dX12_feed_26 (by decide) ?_
  refine j_icmp_ge_t C 121 dX12_feed_28 (by decide) (by decide) ?_
  refine j_aload_n C 2 0 dX12_feed_121 rfl rfl ?_
  refine j_getI C 11 20 fX12_feed_80 (by decide) rfl (by decide) rfl rfl dX12_feed_122 ?_
  exact hret _ _ _ _ dX12_feed_125 (by first | rfl | (unfold fo_feed; rw [if_pos (by rw [nI_toInt (by omega)]; omega), nI_clamp (by omega)]; exact hrel) | (unfold fo_feed; (repeat' split) <;> first | rfl | (exfalso; omega) | (exfalso; simp_all; done)))
set_option maxHeartbeats 4000000 in
set_option maxRecDepth 100000 in
theorem k18_X12_within {l : Launch} {dC : Nat → ClassId} {dI : Nat → Nat → Nat} {ad : Nat → Nat} {cA : Nat → ClassId} {B : mm_M} (hB : MB B) (p0 : Int32) : Ci l 0 yX12_within wsX12_within dC dI ad cA [.long p0.toInt64, .long 0, .long 0] B (fun r M' => ((p0.toInt < 0) ∧ 0 = r ∧ B = M') ∨ ((¬ p0.toInt < 0 ∧ 0 < p0.toInt) ∧ 0 = r ∧ B = M') ∨ ((¬ p0.toInt < 0 ∧ ¬ 0 < p0.toInt ∧ p0 = 0) ∧ 1 = r ∧ B = M')) := by
  refine ci_of (cc := cX12_within) (maxL := 6) (ty := .boolean) (lv := [(0, .long p0.toInt64), (2, .long 0), (4, .long 0)]) (by decide) rfl (fun r M' hp => by rcases hp with ⟨-, rfl, rfl⟩ | ⟨-, rfl, rfl⟩ | ⟨-, rfl, rfl⟩ <;> rfl) (Nat.le_of_ble_eq_true rfl) rfl ?_
  intro p e s m args below meth c A Q C hret
  refine j_lload_n C 0 0 dX12_within_0 rfl rfl ?_
  refine j_lload_n C 1 2 dX12_within_1 rfl rfl ?_
  refine z_lcmp_lt C 17 p0.toInt 0 ((Int32.toInt_toInt64 p0).trans rfl) (by decide) dX12_within_2 dX12_within_3 (by decide) (fun h1 => ?_) (fun h1 => ?_)
  · refine j_iconst C 0 dX12_within_17 (by decide) ?_
    exact hret _ _ _ _ dX12_within_18 (Or.inl ⟨h1, rfl, rfl⟩)
  · refine j_lload_n C 0 0 dX12_within_6 rfl rfl ?_
    refine j_lload C 2 dX12_within_7 rfl ?_
    refine z_lcmp_gt C 17 p0.toInt 0 ((Int32.toInt_toInt64 p0).trans rfl) (by decide) dX12_within_9 dX12_within_10 (by decide) (fun h2 => ?_) (fun h2 => ?_)
    · refine j_iconst C 0 dX12_within_17 (by decide) ?_
      exact hret _ _ _ _ dX12_within_18 (Or.inr (Or.inl ⟨⟨h1, h2⟩, rfl, rfl⟩))
    · obtain rfl : p0 = 0 := Int32.toInt_inj.mp (show p0.toInt = (0 : Int32).toInt by rw [show (0 : Int32).toInt = 0 from rfl]; omega)
      show jj _ _ _ _ _ _ _ _ _ _ _ _ _ _ _ _ _ _ _ B 13 [(0, .long 0), (2, .long 0), (4, .long 0)] []
      refine j_iconst C 1 dX12_within_13 (by decide) ?_
      refine j_goto C 18 dX12_within_14 (by decide) ?_
      exact hret _ _ _ _ dX12_within_18 (Or.inr (Or.inr ⟨⟨h1, h2, rfl⟩, rfl, rfl⟩))
set_option maxHeartbeats 4000000 in
set_option maxRecDepth 100000 in
theorem k19_X12_plain {l : Launch} {dC : Nat → ClassId} {dI : Nat → Nat → Nat} {ad : Nat → Nat} {cA : Nat → ClassId} {B : mm_M} (hB : MB B) : Cv l 0 yX12_plain wsX12_plain dC dI ad cA [.ref (ad 102)] B (fun M' => B = M') := by
  refine cv_of (cc := cX12_plain) (maxL := 2) (lv := [(0, .ref (ad 102))]) (by decide) rfl (Nat.le_of_ble_eq_true rfl) rfl ?_
  intro p e s m args below meth c A Q C hret
  refine j_iconst C 0 dX12_plain_0 (by decide) ?_
  refine j_istore_n C 1 [(1, .int 0), (0, .ref (ad 102))] dX12_plain_1 rfl (by decide) rfl ?_
  refine j_lv [1, 0] rfl ?_
  have L : ∀ (n i : Nat), 0 ≤ i → i + n = 1181 → jj p l e (cn_R 0) s m args below meth c 0 0 Q 2 dC dI ad cA A B 2 [(0, .ref (ad 102)), (1, .int (nI i))] [] := by
    intro n
    induction n with
    | zero =>
      intro i h1 h2
      obtain rfl : i = 1181 := by omega
      refine j_iload_n C 1 1 dX12_plain_2 rfl rfl ?_
      refine j_sipush C 1181 dX12_plain_3 (by decide) ?_
      refine j_icmp_ge_t C 19 dX12_plain_6 (by decide) (by decide) ?_
      exact hret _ _ _ dX12_plain_19 rfl
    | succ n ih =>
      intro i h1 h2
      refine j_iload_n C 1 1 dX12_plain_2 rfl rfl ?_
      refine j_sipush C 1181 dX12_plain_3 (by decide) ?_
      refine z_icmp_ge C 19 (i : Int) 1181 (nI_toInt (n := i) (by omega)) (by decide) dX12_plain_6 (by decide) (fun h1 => ?_) (fun h1 => ?_)
      · exfalso; omega
      · refine j_aload_n C 0 0 dX12_plain_9 rfl rfl ?_
        refine j_iload_n C 1 1 dX12_plain_10 rfl rfl ?_
        refine j_iconst C 0 dX12_plain_11 (by decide) ?_
        refine x_iast C i 1181 (by decide) rfl rfl rfl (by omega) (by decide) dX12_plain_12 ?_
        refine z_noI (show B.1 102 i = 0 from hB.1 102 i (by decide)) ?_
        refine j_iinc C 1 (nI (i + 1)) [(1, .int (nI (i + 1))), (0, .ref (ad 102))] dX12_plain_13 rfl (nI_1 i) (by decide) rfl ?_
        refine j_goto C 2 dX12_plain_16 (by decide) ?_
        refine j_lv [1, 0] rfl ?_
        exact ih (i + 1) (by omega) (by omega)
  exact L (1181 - 0) 0 (by omega) (by omega)
set_option maxHeartbeats 4000000 in
set_option maxRecDepth 100000 in
theorem k20_X12_see {l : Launch} {dC : Nat → ClassId} {dI : Nat → Nat → Nat} {ad : Nat → Nat} {cA : Nat → ClassId} {B : mm_M} (hB : MB B) : Ci l 0 yX12_see wsX12_see dC dI ad cA [.ref (ad 98), .int 0] B (fun r M' => (-1) = r ∧ B = M') := by
  refine ci_of (cc := cX12_see) (maxL := 2) (ty := .int) (lv := [(0, .ref (ad 98)), (1, .int 0)]) (by decide) rfl (fun r M' hp => rfl) (Nat.le_of_ble_eq_true rfl) rfl ?_
  intro p e s m args below meth c A Q C hret
  refine j_iload_n C 1 1 dX12_see_0 rfl rfl ?_
  refine j_aload_n C 0 0 dX12_see_1 rfl rfl ?_
  refine j_getI C 11 0 fX12_see_83 (by decide) rfl (by decide) rfl (show B.1 98 8 = 0 from hB.1 98 8 (by decide)) dX12_see_2 ?_
  refine j_icmp_ge_t C 17 dX12_see_5 (by decide) (by decide) ?_
  refine j_iconst C (-1) dX12_see_17 (by decide) ?_
  exact hret _ _ _ _ dX12_see_18 ⟨rfl, rfl⟩
set_option maxHeartbeats 4000000 in
set_option maxRecDepth 100000 in
theorem k21_X12_next {l : Launch} {dC : Nat → ClassId} {dI : Nat → Nat → Nat} {ad : Nat → Nat} {cA : Nat → ClassId} {B : mm_M} (hB : MB B) : Cv l 1 yX12_next wsX12_next dC dI ad cA [.ref (ad 98)] B (fun M' => (wI B 98 9 24) = M') := by
  refine cv_of (cc := cX12_next) (maxL := 2) (lv := [(0, .ref (ad 98))]) (by decide) rfl (Nat.le_of_ble_eq_true rfl) rfl ?_
  intro p e s m args below meth c A Q C hret
  refine j_aload_n C 0 0 dX12_next_0 rfl rfl ?_
  refine j_aload_n C 0 0 dX12_next_1 rfl rfl ?_
  refine j_getI C 11 0 fX12_next_101 (by decide) rfl (by decide) rfl (show B.1 98 7 = 0 from hB.1 98 7 (by decide)) dX12_next_2 ?_
  refine j_putI C 11 qX12_next_98 rfl rfl (by decide) rfl (by decide) rfl dX12_next_5 ?_
  refine z_noI (show B.1 98 6 = 0 from hB.1 98 6 (by decide)) ?_
  refine j_aload_n C 0 0 dX12_next_8 rfl rfl ?_
  refine j_aload_n C 0 0 dX12_next_9 rfl rfl ?_
  refine j_getI C 11 0 fX12_next_98 (by decide) rfl (by decide) rfl (show B.1 98 6 = 0 from hB.1 98 6 (by decide)) dX12_next_10 ?_
  refine j_callVi C (d := 0) (As := [.int 0]) (st := []) 98 (by decide) rfl (by decide) rfl (k20_X12_see hB) gX12_next_X12_see rfl hdX12_see (by decide) (Nat.le_of_ble_eq_true rfl) dX12_next_13 rfl (fun r M' hp => ?_)
  obtain ⟨rfl, rfl⟩ := hp
  refine j_bipush C 10 dX12_next_16 (by decide) ?_
  refine j_icmp_eq_f C 34 dX12_next_18 (by decide) (by decide) ?_
  refine j_aload_n C 0 0 dX12_next_21 rfl rfl ?_
  refine j_aload_n C 0 0 dX12_next_22 rfl rfl ?_
  refine j_getI C 11 0 fX12_next_98 (by decide) rfl (by decide) rfl (show B.1 98 6 = 0 from hB.1 98 6 (by decide)) dX12_next_23 ?_
  refine j_callVi C (d := 0) (As := [.int 0]) (st := []) 98 (by decide) rfl (by decide) rfl (k20_X12_see hB) gX12_next_X12_see rfl hdX12_see (by decide) (Nat.le_of_ble_eq_true rfl) dX12_next_26 rfl (fun r M' hp => ?_)
  obtain ⟨rfl, rfl⟩ := hp
  refine j_bipush C 32 dX12_next_29 (by decide) ?_
  refine j_icmp_ne_t C 47 dX12_next_31 (by decide) (by decide) ?_
  refine j_aload_n C 0 0 dX12_next_47 rfl rfl ?_
  refine j_aload_n C 0 0 dX12_next_48 rfl rfl ?_
  refine j_getI C 11 0 fX12_next_98 (by decide) rfl (by decide) rfl (show B.1 98 6 = 0 from hB.1 98 6 (by decide)) dX12_next_49 ?_
  refine j_putI C 11 qX12_next_101 rfl rfl (by decide) rfl (by decide) rfl dX12_next_52 ?_
  refine z_noI (show B.1 98 7 = 0 from hB.1 98 7 (by decide)) ?_
  refine j_aload_n C 0 0 dX12_next_55 rfl rfl ?_
  refine j_getI C 11 0 fX12_next_98 (by decide) rfl (by decide) rfl (show B.1 98 6 = 0 from hB.1 98 6 (by decide)) dX12_next_56 ?_
  refine j_aload_n C 0 0 dX12_next_59 rfl rfl ?_
  refine j_getI C 11 0 fX12_next_83 (by decide) rfl (by decide) rfl (show B.1 98 8 = 0 from hB.1 98 8 (by decide)) dX12_next_60 ?_
  refine j_icmp_lt_f C 75 dX12_next_63 (by decide) (by decide) ?_
  refine j_aload_n C 0 0 dX12_next_66 rfl rfl ?_
  refine j_bipush C 24 dX12_next_67 (by decide) ?_
  refine j_putI C 11 qX12_next_108 rfl rfl (by decide) rfl (by decide) rfl dX12_next_69 ?_
  refine j_goto C 294 dX12_next_72 (by decide) ?_
  exact hret _ _ _ dX12_next_294 rfl
set_option maxHeartbeats 4000000 in
set_option maxRecDepth 100000 in
theorem k22_X12_is {l : Launch} {dC : Nat → ClassId} {dI : Nat → Nat → Nat} {ad : Nat → Nat} {cA : Nat → ClassId} {B : mm_M} (hB : MB B) : Ci l 0 yX12_is wsX12_is dC dI ad cA [.ref (ad 98), .int 0] (wI B 98 9 24) (fun r M' => 0 = r ∧ (wI B 98 9 24) = M') := by
  refine ci_of (cc := cX12_is) (maxL := 2) (ty := .boolean) (lv := [(0, .ref (ad 98)), (1, .int 0)]) (by decide) rfl (fun r M' hp => by obtain ⟨rfl, rfl⟩ := hp; rfl) (Nat.le_of_ble_eq_true rfl) rfl ?_
  intro p e s m args below meth c A Q C hret
  refine j_aload_n C 0 0 dX12_is_0 rfl rfl ?_
  refine j_getI C 11 0 fX12_is_126 (by decide) rfl (by decide) rfl (show B.1 98 11 = 0 from hB.1 98 11 (by decide)) dX12_is_1 ?_
  refine j_if_ne_f C 19 dX12_is_4 (by decide) (by decide) ?_
  refine j_aload_n C 0 0 dX12_is_7 rfl rfl ?_
  refine j_getI C 11 24 fX12_is_108 (by decide) rfl (by decide) rfl rfl dX12_is_8 ?_
  refine j_iload_n C 1 1 dX12_is_11 rfl rfl ?_
  refine j_icmp_ne_t C 19 dX12_is_12 (by decide) (by decide) ?_
  refine j_iconst C 0 dX12_is_19 (by decide) ?_
  exact hret _ _ _ _ dX12_is_20 ⟨rfl, rfl⟩
set_option maxHeartbeats 4000000 in
set_option maxRecDepth 100000 in
theorem k23_X12_eats {l : Launch} {dC : Nat → ClassId} {dI : Nat → Nat → Nat} {ad : Nat → Nat} {cA : Nat → ClassId} {B : mm_M} (hB : MB B) : Ci l 1 yX12_eats wsX12_eats dC dI ad cA [.ref (ad 98), .int 0] (wI B 98 9 24) (fun r M' => 0 = r ∧ (wI B 98 9 24) = M') := by
  refine ci_of (cc := cX12_eats) (maxL := 2) (ty := .boolean) (lv := [(0, .ref (ad 98)), (1, .int 0)]) (by decide) rfl (fun r M' hp => by obtain ⟨rfl, rfl⟩ := hp; rfl) (Nat.le_of_ble_eq_true rfl) rfl ?_
  intro p e s m args below meth c A Q C hret
  refine j_aload_n C 0 0 dX12_eats_0 rfl rfl ?_
  refine j_iload_n C 1 1 dX12_eats_1 rfl rfl ?_
  refine j_callVi C (d := 0) (As := [.int 0]) (st := []) 98 (by decide) rfl (by decide) rfl (k22_X12_is hB) gX12_eats_X12_is rfl hdX12_is (by decide) (Nat.le_of_ble_eq_true rfl) dX12_eats_2 rfl (fun r M' hp => ?_)
  obtain ⟨rfl, rfl⟩ := hp
  refine j_if_ne_f C 10 dX12_eats_5 (by decide) (by decide) ?_
  refine j_iconst C 0 dX12_eats_8 (by decide) ?_
  exact hret _ _ _ _ dX12_eats_9 ⟨rfl, rfl⟩
set_option maxHeartbeats 4000000 in
set_option maxRecDepth 100000 in
theorem k24_X12_fails {l : Launch} {dC : Nat → ClassId} {dI : Nat → Nat → Nat} {ad : Nat → Nat} {cA : Nat → ClassId} {B : mm_M} (hB : MB B) : Cv l 0 yX12_fails wsX12_fails dC dI ad cA [.ref (ad 98), .int 2] (wI B 98 9 24) (fun M' => (wI (wI B 98 9 24) 98 11 2) = M') := by
  refine cv_of (cc := cX12_fails) (maxL := 2) (lv := [(0, .ref (ad 98)), (1, .int 2)]) (by decide) rfl (Nat.le_of_ble_eq_true rfl) rfl ?_
  intro p e s m args below meth c A Q C hret
  refine j_aload_n C 0 0 dX12_fails_0 rfl rfl ?_
  refine j_getI C 11 0 fX12_fails_126 (by decide) rfl (by decide) rfl (show B.1 98 11 = 0 from hB.1 98 11 (by decide)) dX12_fails_1 ?_
  refine j_if_eq_t C 8 dX12_fails_4 (by decide) (by decide) ?_
  refine j_aload_n C 0 0 dX12_fails_8 rfl rfl ?_
  refine j_aload_n C 0 0 dX12_fails_9 rfl rfl ?_
  refine j_getI C 11 24 fX12_fails_108 (by decide) rfl (by decide) rfl rfl dX12_fails_10 ?_
  refine j_bipush C 25 dX12_fails_13 (by decide) ?_
  refine j_icmp_ne_t C 22 dX12_fails_15 (by decide) (by decide) ?_
  refine j_iload_n C 1 1 dX12_fails_22 rfl rfl ?_
  refine j_putI C 11 qX12_fails_126 rfl rfl (by decide) rfl (by decide) rfl dX12_fails_23 ?_
  refine j_aload_n C 0 0 dX12_fails_26 rfl rfl ?_
  refine j_aload_n C 0 0 dX12_fails_27 rfl rfl ?_
  refine j_getI C 11 0 fX12_fails_98 (by decide) rfl (by decide) rfl (show B.1 98 6 = 0 from hB.1 98 6 (by decide)) dX12_fails_28 ?_
  refine j_putI C 11 qX12_fails_129 rfl rfl (by decide) rfl (by decide) rfl dX12_fails_31 ?_
  refine z_noI (show B.1 98 12 = 0 from hB.1 98 12 (by decide)) ?_
  exact hret _ _ _ dX12_fails_34 rfl
set_option maxHeartbeats 4000000 in
set_option maxRecDepth 100000 in
theorem k25_X12_is {l : Launch} {dC : Nat → ClassId} {dI : Nat → Nat → Nat} {ad : Nat → Nat} {cA : Nat → ClassId} {B : mm_M} (hB : MB B) : Ci l 0 yX12_is wsX12_is dC dI ad cA [.ref (ad 98), .int 30] (wI (wI B 98 9 24) 98 11 2) (fun r M' => 0 = r ∧ (wI (wI B 98 9 24) 98 11 2) = M') := by
  refine ci_of (cc := cX12_is) (maxL := 2) (ty := .boolean) (lv := [(0, .ref (ad 98)), (1, .int 30)]) (by decide) rfl (fun r M' hp => by obtain ⟨rfl, rfl⟩ := hp; rfl) (Nat.le_of_ble_eq_true rfl) rfl ?_
  intro p e s m args below meth c A Q C hret
  refine j_aload_n C 0 0 dX12_is_0 rfl rfl ?_
  refine j_getI C 11 2 fX12_is_126 (by decide) rfl (by decide) rfl rfl dX12_is_1 ?_
  refine j_if_ne_t C 19 dX12_is_4 (by decide) (by decide) ?_
  refine j_iconst C 0 dX12_is_19 (by decide) ?_
  exact hret _ _ _ _ dX12_is_20 ⟨rfl, rfl⟩
set_option maxHeartbeats 4000000 in
set_option maxRecDepth 100000 in
theorem k26_X12_eats {l : Launch} {dC : Nat → ClassId} {dI : Nat → Nat → Nat} {ad : Nat → Nat} {cA : Nat → ClassId} {B : mm_M} (hB : MB B) : Ci l 1 yX12_eats wsX12_eats dC dI ad cA [.ref (ad 98), .int 30] (wI (wI B 98 9 24) 98 11 2) (fun r M' => 0 = r ∧ (wI (wI B 98 9 24) 98 11 2) = M') := by
  refine ci_of (cc := cX12_eats) (maxL := 2) (ty := .boolean) (lv := [(0, .ref (ad 98)), (1, .int 30)]) (by decide) rfl (fun r M' hp => by obtain ⟨rfl, rfl⟩ := hp; rfl) (Nat.le_of_ble_eq_true rfl) rfl ?_
  intro p e s m args below meth c A Q C hret
  refine j_aload_n C 0 0 dX12_eats_0 rfl rfl ?_
  refine j_iload_n C 1 1 dX12_eats_1 rfl rfl ?_
  refine j_callVi C (d := 0) (As := [.int 30]) (st := []) 98 (by decide) rfl (by decide) rfl (k25_X12_is hB) gX12_eats_X12_is rfl hdX12_is (by decide) (Nat.le_of_ble_eq_true rfl) dX12_eats_2 rfl (fun r M' hp => ?_)
  obtain ⟨rfl, rfl⟩ := hp
  refine j_if_ne_f C 10 dX12_eats_5 (by decide) (by decide) ?_
  refine j_iconst C 0 dX12_eats_8 (by decide) ?_
  exact hret _ _ _ _ dX12_eats_9 ⟨rfl, rfl⟩
set_option maxHeartbeats 4000000 in
set_option maxRecDepth 100000 in
theorem k27_X12_fails {l : Launch} {dC : Nat → ClassId} {dI : Nat → Nat → Nat} {ad : Nat → Nat} {cA : Nat → ClassId} {B : mm_M} (hB : MB B) : Cv l 0 yX12_fails wsX12_fails dC dI ad cA [.ref (ad 98), .int 2] (wI (wI B 98 9 24) 98 11 2) (fun M' => (wI (wI B 98 9 24) 98 11 2) = M') := by
  refine cv_of (cc := cX12_fails) (maxL := 2) (lv := [(0, .ref (ad 98)), (1, .int 2)]) (by decide) rfl (Nat.le_of_ble_eq_true rfl) rfl ?_
  intro p e s m args below meth c A Q C hret
  refine j_aload_n C 0 0 dX12_fails_0 rfl rfl ?_
  refine j_getI C 11 2 fX12_fails_126 (by decide) rfl (by decide) rfl rfl dX12_fails_1 ?_
  refine j_if_eq_f C 8 dX12_fails_4 (by decide) (by decide) ?_
  exact hret _ _ _ dX12_fails_7 rfl
set_option maxHeartbeats 4000000 in
set_option maxRecDepth 100000 in
theorem k28_X12_ends {l : Launch} {dC : Nat → ClassId} {dI : Nat → Nat → Nat} {ad : Nat → Nat} {cA : Nat → ClassId} {B : mm_M} (hB : MB B) : Cv l 2 yX12_ends wsX12_ends dC dI ad cA [.ref (ad 98)] (wI (wI B 98 9 24) 98 11 2) (fun M' => (wI (wI (wI B 98 9 24) 98 11 2) 102 0 1) = M') := by
  refine cv_of (cc := cX12_ends) (maxL := 1) (lv := [(0, .ref (ad 98))]) (by decide) rfl (Nat.le_of_ble_eq_true rfl) rfl ?_
  intro p e s m args below meth c A Q C hret
  refine j_aload_n C 0 0 dX12_ends_0 rfl rfl ?_
  refine j_bipush C 30 dX12_ends_1 (by decide) ?_
  refine j_callVi C (d := 1) (As := [.int 30]) (st := []) 98 (by decide) rfl (by decide) rfl (k26_X12_eats hB) gX12_ends_X12_eats rfl hdX12_eats (by decide) (Nat.le_of_ble_eq_true rfl) dX12_ends_3 rfl (fun r M' hp => ?_)
  obtain ⟨rfl, rfl⟩ := hp
  refine j_if_ne_f C 14 dX12_ends_6 (by decide) (by decide) ?_
  refine j_aload_n C 0 0 dX12_ends_9 rfl rfl ?_
  refine j_iconst C 2 dX12_ends_10 (by decide) ?_
  refine j_callVv C (d := 0) (As := [.int 2]) (st := []) 98 (by decide) rfl (by decide) rfl (k27_X12_fails hB) gX12_ends_X12_fails rfl hdX12_fails (by decide) (Nat.le_of_ble_eq_true rfl) dX12_ends_11 rfl (fun M' hp => ?_)
  obtain rfl := hp
  refine j_aload_n C 0 0 dX12_ends_14 rfl rfl ?_
  refine j_getP C 11 102 fX12_ends_24 (by decide) rfl (by decide) rfl (show B.2.2 98 4 = 102 from hB.2.2 98 4 (by decide)) dX12_ends_15 ?_
  refine j_iconst C 0 dX12_ends_18 (by decide) ?_
  refine j_dup2 C dX12_ends_19 rfl rfl ?_
  refine x_iald C 0 1181 0 (by decide) rfl rfl rfl (by decide) (by decide) (show B.1 102 0 = 0 from hB.1 102 0 (by decide)) dX12_ends_20 ?_
  refine j_iconst C 1 dX12_ends_21 (by decide) ?_
  refine z_iadd C 1 (by decide) dX12_ends_22 ?_
  refine x_iast C 0 1181 (by decide) rfl rfl rfl (by decide) (by decide) dX12_ends_23 ?_
  exact hret _ _ _ dX12_ends_24 rfl
set_option maxHeartbeats 4000000 in
set_option maxRecDepth 100000 in
theorem om_shop {l : Launch} {dC : Nat → ClassId} {dI : Nat → Nat → Nat} {ad : Nat → Nat} {cA : Nat → ClassId} {B : mm_M} (hB : MB B) (p0 : Int32) : Ci l 3 yX12_shop wsX12_shop dC dI ad cA [.ref (ad 98), .int p0] B (fun r _ => r = fo_shop p0) := by
  refine ci_of (cc := cX12_shop) (maxL := 3) (ty := .int) (lv := [(0, .ref (ad 98)), (1, .int p0)]) (by decide) rfl (fun r M' hp => rfl) (Nat.le_of_ble_eq_true rfl) rfl ?_
  intro p e s m args below meth c A Q C hret
  refine j_aload_n C 0 0 dX12_shop_0 rfl rfl ?_
  refine j_iconst C 0 dX12_shop_1 (by decide) ?_
  refine j_putI C 11 qX12_shop_1 rfl rfl (by decide) rfl (by decide) rfl dX12_shop_2 ?_
  refine z_noI (show B.1 98 0 = 0 from hB.1 98 0 (by decide)) ?_
  refine j_iload_n C 1 1 dX12_shop_5 rfl rfl ?_
  refine z_i2l C p0.toInt64 rfl dX12_shop_6 ?_
  refine j_lconst C 0 dX12_shop_7 (by decide) ?_
  refine j_aload_n C 0 0 dX12_shop_8 rfl rfl ?_
  refine j_getI C 11 0 fX12_shop_80 (by decide) rfl (by decide) rfl (show B.1 98 5 = 0 from hB.1 98 5 (by decide)) dX12_shop_9 ?_
  refine z_i2l C 0 (by decide) dX12_shop_12 ?_
  refine j_callSi C (d := 0) (As := [.long p0.toInt64, .long 0, .long 0]) (st := []) (k18_X12_within hB p0) gX12_shop_X12_within rfl hdX12_withins (by decide) (Nat.le_of_ble_eq_true rfl) dX12_shop_13 rfl (fun r M' hp => ?_)
  rcases hp with ⟨h1, rfl, rfl⟩ | ⟨⟨h2, h3⟩, rfl, rfl⟩ | ⟨⟨h4, h5, h6⟩, rfl, rfl⟩
  · refine j_if_ne_f C 22 dX12_shop_16 (by decide) (by decide) ?_
    refine j_bipush C (-3) dX12_shop_19 (by decide) ?_
    exact hret _ _ _ _ dX12_shop_21 (by first | rfl | (unfold fo_shop; rw [if_pos (by rw [nI_toInt (by omega)]; omega), nI_clamp (by omega)]; exact hrel) | (unfold fo_shop; (repeat' split) <;> first | rfl | (exfalso; omega) | (exfalso; simp_all; done)))
  · refine j_if_ne_f C 22 dX12_shop_16 (by decide) (by decide) ?_
    refine j_bipush C (-3) dX12_shop_19 (by decide) ?_
    exact hret _ _ _ _ dX12_shop_21 (by first | rfl | (unfold fo_shop; rw [if_pos (by rw [nI_toInt (by omega)]; omega), nI_clamp (by omega)]; exact hrel) | (unfold fo_shop; (repeat' split) <;> first | rfl | (exfalso; omega) | (exfalso; simp_all; done)))
  · obtain rfl : p0 = 0 := Int32.toInt_inj.mp (show p0.toInt = (0 : Int32).toInt by rw [show (0 : Int32).toInt = 0 from rfl]; omega)
    show jj _ _ _ _ _ _ _ _ _ _ _ _ _ _ _ _ _ _ _ B 16 [(0, .ref (ad 98)), (1, .int 0)] [.int 1]
    refine j_if_ne_t C 22 dX12_shop_16 (by decide) (by decide) ?_
    refine j_aload_n C 0 0 dX12_shop_22 rfl rfl ?_
    refine j_iload_n C 1 1 dX12_shop_23 rfl rfl ?_
    refine j_putI C 11 qX12_shop_83 rfl rfl (by decide) rfl (by decide) rfl dX12_shop_24 ?_
    refine z_noI (show B.1 98 8 = 0 from hB.1 98 8 (by decide)) ?_
    refine j_aload_n C 0 0 dX12_shop_27 rfl rfl ?_
    refine j_iconst C 0 dX12_shop_28 (by decide) ?_
    refine j_putI C 11 qX12_shop_80 rfl rfl (by decide) rfl (by decide) rfl dX12_shop_29 ?_
    refine z_noI (show B.1 98 5 = 0 from hB.1 98 5 (by decide)) ?_
    refine j_aload_n C 0 0 dX12_shop_32 rfl rfl ?_
    refine j_iconst C 0 dX12_shop_33 (by decide) ?_
    refine j_putI C 11 qX12_shop_101 rfl rfl (by decide) rfl (by decide) rfl dX12_shop_34 ?_
    refine z_noI (show B.1 98 7 = 0 from hB.1 98 7 (by decide)) ?_
    refine j_aload_n C 0 0 dX12_shop_37 rfl rfl ?_
    refine j_iconst C 0 dX12_shop_38 (by decide) ?_
    refine j_putI C 11 qX12_shop_126 rfl rfl (by decide) rfl (by decide) rfl dX12_shop_39 ?_
    refine z_noI (show B.1 98 11 = 0 from hB.1 98 11 (by decide)) ?_
    refine j_aload_n C 0 0 dX12_shop_42 rfl rfl ?_
    refine j_getP C 11 102 fX12_shop_24 (by decide) rfl (by decide) rfl (show B.2.2 98 4 = 102 from hB.2.2 98 4 (by decide)) dX12_shop_43 ?_
    refine j_callSv C (d := 0) (As := [.ref (ad 102)]) (st := []) (k19_X12_plain hB) gX12_shop_X12_plain rfl hdX12_plains (by decide) (Nat.le_of_ble_eq_true rfl) dX12_shop_46 rfl (fun M' hp => ?_)
    obtain rfl := hp
    refine j_aload_n C 0 0 dX12_shop_49 rfl rfl ?_
    refine j_callVv C (d := 1) (As := []) (st := []) 98 (by decide) rfl (by decide) rfl (k21_X12_next hB) gX12_shop_X12_next rfl hdX12_next (by decide) (Nat.le_of_ble_eq_true rfl) dX12_shop_50 rfl (fun M' hp => ?_)
    obtain rfl := hp
    refine j_aload_n C 0 0 dX12_shop_53 rfl rfl ?_
    refine j_iconst C 0 dX12_shop_54 (by decide) ?_
    refine j_callVi C (d := 1) (As := [.int 0]) (st := []) 98 (by decide) rfl (by decide) rfl (k23_X12_eats hB) gX12_shop_X12_eats rfl hdX12_eats (by decide) (Nat.le_of_ble_eq_true rfl) dX12_shop_55 rfl (fun r M' hp => ?_)
    obtain ⟨rfl, rfl⟩ := hp
    refine j_if_ne_f C 66 dX12_shop_58 (by decide) (by decide) ?_
    refine j_aload_n C 0 0 dX12_shop_61 rfl rfl ?_
    refine j_iconst C 2 dX12_shop_62 (by decide) ?_
    refine j_callVv C (d := 0) (As := [.int 2]) (st := []) 98 (by decide) rfl (by decide) rfl (k24_X12_fails hB) gX12_shop_X12_fails rfl hdX12_fails (by decide) (Nat.le_of_ble_eq_true rfl) dX12_shop_63 rfl (fun M' hp => ?_)
    obtain rfl := hp
    refine j_aload_n C 0 0 dX12_shop_66 rfl rfl ?_
    refine j_callVv C (d := 2) (As := []) (st := []) 98 (by decide) rfl (by decide) rfl (k28_X12_ends hB) gX12_shop_X12_ends rfl hdX12_ends (by decide) (Nat.le_of_ble_eq_true rfl) dX12_shop_67 rfl (fun M' hp => ?_)
    obtain rfl := hp
    refine j_aload_n C 0 0 dX12_shop_70 rfl rfl ?_
    refine j_getI C 11 2 fX12_shop_126 (by decide) rfl (by decide) rfl rfl dX12_shop_71 ?_
    refine j_if_ne_t C 97 dX12_shop_74 (by decide) (by decide) ?_
    refine j_aload_n C 0 0 dX12_shop_97 rfl rfl ?_
    refine j_aload_n C 0 0 dX12_shop_98 rfl rfl ?_
    refine j_getI C 11 2 fX12_shop_126 (by decide) rfl (by decide) rfl rfl dX12_shop_99 ?_
    refine j_putI C 11 qX12_shop_201 rfl rfl (by decide) rfl (by decide) rfl dX12_shop_102 ?_
    refine j_aload_n C 0 0 dX12_shop_105 rfl rfl ?_
    refine j_aload_n C 0 0 dX12_shop_106 rfl rfl ?_
    refine j_getI C 11 2 fX12_shop_126 (by decide) rfl (by decide) rfl rfl dX12_shop_107 ?_
    refine j_if_ne_t C 117 dX12_shop_110 (by decide) (by decide) ?_
    refine j_aload_n C 0 0 dX12_shop_117 rfl rfl ?_
    refine j_getI C 11 0 fX12_shop_129 (by decide) rfl (by decide) rfl (show B.1 98 12 = 0 from hB.1 98 12 (by decide)) dX12_shop_118 ?_
    refine j_putI C 11 qX12_shop_27 rfl rfl (by decide) rfl (by decide) rfl dX12_shop_121 ?_
    refine j_aload_n C 0 0 dX12_shop_124 rfl rfl ?_
    refine j_getI C 11 2 fX12_shop_126 (by decide) rfl (by decide) rfl rfl dX12_shop_125 ?_
    refine j_if_eq_f C 139 dX12_shop_128 (by decide) (by decide) ?_
    refine j_bipush C (-30) dX12_shop_131 (by decide) ?_
    refine j_aload_n C 0 0 dX12_shop_133 rfl rfl ?_
    refine j_getI C 11 2 fX12_shop_126 (by decide) rfl (by decide) rfl rfl dX12_shop_134 ?_
    refine z_isub C (-32) (by decide) dX12_shop_137 ?_
    exact hret _ _ _ _ dX12_shop_138 (by first | rfl | (unfold fo_shop; rw [if_pos (by rw [nI_toInt (by omega)]; omega), nI_clamp (by omega)]; exact hrel) | (unfold fo_shop; (repeat' split) <;> first | rfl | (exfalso; omega) | (exfalso; simp_all; done)))
set_option maxHeartbeats 4000000 in
set_option maxRecDepth 100000 in
theorem om_fault {l : Launch} {dC : Nat → ClassId} {dI : Nat → Nat → Nat} {ad : Nat → Nat} {cA : Nat → ClassId} {B : mm_M} (hB : MB B) (p0 : Int32) : Ci l 0 yX12_fault wsX12_fault dC dI ad cA [.ref (ad 98), .int p0] B (fun r _ => r = fo_fault p0) := by
  refine ci_of (cc := cX12_fault) (maxL := 2) (ty := .int) (lv := [(0, .ref (ad 98)), (1, .int p0)]) (by decide) rfl (fun r M' hp => rfl) (Nat.le_of_ble_eq_true rfl) rfl ?_
  intro p e s m args below meth c A Q C hret
  refine j_aload_n C 0 0 dX12_fault_0 rfl rfl ?_
  refine j_iconst C 0 dX12_fault_1 (by decide) ?_
  refine j_putI C 11 qX12_fault_1 rfl rfl (by decide) rfl (by decide) rfl dX12_fault_2 ?_
  refine z_noI (show B.1 98 0 = 0 from hB.1 98 0 (by decide)) ?_
  refine j_iload_n C 1 1 dX12_fault_5 rfl rfl ?_
  refine z_if_ne C 16 p0.toInt rfl dX12_fault_6 (by decide) (fun h1 => ?_) (fun h1 => ?_)
  · refine j_iload_n C 1 1 dX12_fault_16 rfl rfl ?_
    refine j_iconst C 1 dX12_fault_17 (by decide) ?_
    refine z_icmp_ne C 28 p0.toInt 1 rfl (by decide) dX12_fault_18 (by decide) (fun h2 => ?_) (fun h2 => ?_)
    · refine j_iconst C (-1) dX12_fault_28 (by decide) ?_
      exact hret _ _ _ _ dX12_fault_29 (by first | rfl | (unfold fo_fault; rw [if_pos (by rw [nI_toInt (by omega)]; omega), nI_clamp (by omega)]; exact hrel) | (unfold fo_fault; (repeat' split) <;> first | rfl | (exfalso; omega) | (exfalso; simp_all; done)))
    · obtain rfl : p0 = 1 := Int32.toInt_inj.mp (show p0.toInt = (1 : Int32).toInt by rw [show (1 : Int32).toInt = 1 from rfl]; omega)
      show jj _ _ _ _ _ _ _ _ _ _ _ _ _ _ _ _ _ _ _ B 21 [(0, .ref (ad 98)), (1, .int 1)] []
      refine j_aload_n C 0 0 dX12_fault_21 rfl rfl ?_
      refine j_getI C 11 (-1) fX12_fault_27 (by decide) rfl (by decide) rfl (show B.1 98 14 = (-1) from hB.1 98 14 (by decide)) dX12_fault_22 ?_
      refine j_goto C 29 dX12_fault_25 (by decide) ?_
      exact hret _ _ _ _ dX12_fault_29 (by first | rfl | (unfold fo_fault; rw [if_pos (by rw [nI_toInt (by omega)]; omega), nI_clamp (by omega)]; exact hrel) | (unfold fo_fault; (repeat' split) <;> first | rfl | (exfalso; omega) | (exfalso; simp_all; done)))
  · obtain rfl : p0 = 0 := Int32.toInt_inj.mp (show p0.toInt = (0 : Int32).toInt by rw [show (0 : Int32).toInt = 0 from rfl]; omega)
    show jj _ _ _ _ _ _ _ _ _ _ _ _ _ _ _ _ _ _ _ B 9 [(0, .ref (ad 98)), (1, .int 0)] []
    refine j_aload_n C 0 0 dX12_fault_9 rfl rfl ?_
    refine j_getI C 11 0 fX12_fault_201 (by decide) rfl (by decide) rfl (show B.1 98 13 = 0 from hB.1 98 13 (by decide)) dX12_fault_10 ?_
    refine j_goto C 29 dX12_fault_13 (by decide) ?_
    exact hret _ _ _ _ dX12_fault_29 (by first | rfl | (unfold fo_fault; rw [if_pos (by rw [nI_toInt (by omega)]; omega), nI_clamp (by omega)]; exact hrel) | (unfold fo_fault; (repeat' split) <;> first | rfl | (exfalso; omega) | (exfalso; simp_all; done)))
set_option maxHeartbeats 4000000 in
set_option maxRecDepth 100000 in
theorem k34_X12_within {l : Launch} {dC : Nat → ClassId} {dI : Nat → Nat → Nat} {ad : Nat → Nat} {cA : Nat → ClassId} {B : mm_M} (hB : MB B) (p0 : Int32) : Ci l 0 yX12_within wsX12_within dC dI ad cA [.long p0.toInt64, .long 0, .long (-1)] B (fun r M' => 0 = r ∧ B = M') := by
  refine ci_of (cc := cX12_within) (maxL := 6) (ty := .boolean) (lv := [(0, .long p0.toInt64), (2, .long 0), (4, .long (-1))]) (by decide) rfl (fun r M' hp => by obtain ⟨rfl, rfl⟩ := hp; rfl) (Nat.le_of_ble_eq_true rfl) rfl ?_
  intro p e s m args below meth c A Q C hret
  refine j_lload_n C 0 0 dX12_within_0 rfl rfl ?_
  refine j_lload_n C 1 2 dX12_within_1 rfl rfl ?_
  refine z_lcmp_lt C 17 p0.toInt 0 ((Int32.toInt_toInt64 p0).trans rfl) (by decide) dX12_within_2 dX12_within_3 (by decide) (fun h1 => ?_) (fun h1 => ?_)
  · refine j_iconst C 0 dX12_within_17 (by decide) ?_
    exact hret _ _ _ _ dX12_within_18 ⟨rfl, rfl⟩
  · refine j_lload_n C 0 0 dX12_within_6 rfl rfl ?_
    refine j_lload C 2 dX12_within_7 rfl ?_
    refine z_lcmp_gt C 17 p0.toInt (-1) ((Int32.toInt_toInt64 p0).trans rfl) (by decide) dX12_within_9 dX12_within_10 (by decide) (fun h2 => ?_) (fun h2 => ?_)
    · refine j_iconst C 0 dX12_within_17 (by decide) ?_
      exact hret _ _ _ _ dX12_within_18 ⟨rfl, rfl⟩
    · exfalso; omega
set_option maxHeartbeats 4000000 in
set_option maxRecDepth 100000 in
theorem k35_X12_isKind {l : Launch} {dC : Nat → ClassId} {dI : Nat → Nat → Nat} {ad : Nat → Nat} {cA : Nat → ClassId} {B : mm_M} (hB : MB B) (p0 : Int32) : Ci l 1 yX12_isKind wsX12_isKind dC dI ad cA [.ref (ad 98), .long p0.toInt64] B (fun r M' => 0 = r ∧ B = M') := by
  refine ci_of (cc := cX12_isKind) (maxL := 3) (ty := .boolean) (lv := [(0, .ref (ad 98)), (1, .long p0.toInt64)]) (by decide) rfl (fun r M' hp => by obtain ⟨rfl, rfl⟩ := hp; rfl) (Nat.le_of_ble_eq_true rfl) rfl ?_
  intro p e s m args below meth c A Q C hret
  refine j_lload_n C 1 1 dX12_isKind_0 rfl rfl ?_
  refine j_lconst C 0 dX12_isKind_1 (by decide) ?_
  refine j_aload_n C 0 0 dX12_isKind_2 rfl rfl ?_
  refine j_getP C 11 99 fX12_isKind_13 (by decide) rfl (by decide) rfl (show B.2.2 98 1 = 99 from hB.2.2 98 1 (by decide)) dX12_isKind_3 ?_
  refine j_bipush C 26 dX12_isKind_6 (by decide) ?_
  refine x_iald C 26 3543 0 (by decide) rfl rfl rfl (by decide) (by decide) (show B.1 99 26 = 0 from hB.1 99 26 (by decide)) dX12_isKind_8 ?_
  refine j_iconst C 1 dX12_isKind_9 (by decide) ?_
  refine z_isub C (-1) (by decide) dX12_isKind_10 ?_
  refine z_i2l C (-1) (by decide) dX12_isKind_11 ?_
  refine j_callSi C (d := 0) (As := [.long p0.toInt64, .long 0, .long (-1)]) (st := []) (k34_X12_within hB p0) gX12_isKind_X12_within rfl hdX12_withins (by decide) (Nat.le_of_ble_eq_true rfl) dX12_isKind_12 rfl (fun r M' hp => ?_)
  obtain ⟨rfl, rfl⟩ := hp
  exact hret _ _ _ _ dX12_isKind_15 ⟨rfl, rfl⟩
set_option maxHeartbeats 4000000 in
set_option maxRecDepth 100000 in
theorem om_kind {l : Launch} {dC : Nat → ClassId} {dI : Nat → Nat → Nat} {ad : Nat → Nat} {cA : Nat → ClassId} {B : mm_M} (hB : MB B) (p0 : Int32) (p1 : Int32) : Ci l 2 yX12_kind wsX12_kind dC dI ad cA [.ref (ad 98), .int p0, .int p1] B (fun r _ => r = fo_kind p0 p1) := by
  refine ci_of (cc := cX12_kind) (maxL := 3) (ty := .int) (lv := [(0, .ref (ad 98)), (1, .int p0), (2, .int p1)]) (by decide) rfl (fun r M' hp => rfl) (Nat.le_of_ble_eq_true rfl) rfl ?_
  intro p e s m args below meth c A Q C hret
  refine j_aload_n C 0 0 dX12_kind_0 rfl rfl ?_
  refine j_iconst C 0 dX12_kind_1 (by decide) ?_
  refine j_putI C 11 qX12_kind_1 rfl rfl (by decide) rfl (by decide) rfl dX12_kind_2 ?_
  refine z_noI (show B.1 98 0 = 0 from hB.1 98 0 (by decide)) ?_
  refine j_aload_n C 0 0 dX12_kind_5 rfl rfl ?_
  refine j_iload_n C 1 1 dX12_kind_6 rfl rfl ?_
  refine z_i2l C p0.toInt64 rfl dX12_kind_7 ?_
  refine j_callVi C (d := 1) (As := [.long p0.toInt64]) (st := []) 98 (by decide) rfl (by decide) rfl (k35_X12_isKind hB p0) gX12_kind_X12_isKind rfl hdX12_isKind (by decide) (Nat.le_of_ble_eq_true rfl) dX12_kind_8 rfl (fun r M' hp => ?_)
  obtain ⟨rfl, rfl⟩ := hp
  refine j_if_ne_f C 17 dX12_kind_11 (by decide) (by decide) ?_
  refine j_bipush C (-2) dX12_kind_14 (by decide) ?_
  exact hret _ _ _ _ dX12_kind_16 (by first | rfl | (unfold fo_kind; rw [if_pos (by rw [nI_toInt (by omega)]; omega), nI_clamp (by omega)]; exact hrel) | (unfold fo_kind; (repeat' split) <;> first | rfl | (exfalso; omega) | (exfalso; simp_all; done)))
set_option maxHeartbeats 4000000 in
set_option maxRecDepth 100000 in
theorem k39_X12_isBuyer {l : Launch} {dC : Nat → ClassId} {dI : Nat → Nat → Nat} {ad : Nat → Nat} {cA : Nat → ClassId} {B : mm_M} (hB : MB B) (p0 : Int32) : Ci l 1 yX12_isBuyer wsX12_isBuyer dC dI ad cA [.ref (ad 98), .long p0.toInt64] B (fun r M' => 0 = r ∧ B = M') := by
  refine ci_of (cc := cX12_isBuyer) (maxL := 3) (ty := .boolean) (lv := [(0, .ref (ad 98)), (1, .long p0.toInt64)]) (by decide) rfl (fun r M' hp => by obtain ⟨rfl, rfl⟩ := hp; rfl) (Nat.le_of_ble_eq_true rfl) rfl ?_
  intro p e s m args below meth c A Q C hret
  refine j_lload_n C 1 1 dX12_isBuyer_0 rfl rfl ?_
  refine j_lconst C 0 dX12_isBuyer_1 (by decide) ?_
  refine j_aload_n C 0 0 dX12_isBuyer_2 rfl rfl ?_
  refine j_getP C 11 99 fX12_isBuyer_13 (by decide) rfl (by decide) rfl (show B.2.2 98 1 = 99 from hB.2.2 98 1 (by decide)) dX12_isBuyer_3 ?_
  refine j_iconst C 1 dX12_isBuyer_6 (by decide) ?_
  refine x_iald C 1 3543 0 (by decide) rfl rfl rfl (by decide) (by decide) (show B.1 99 1 = 0 from hB.1 99 1 (by decide)) dX12_isBuyer_7 ?_
  refine j_iconst C 1 dX12_isBuyer_8 (by decide) ?_
  refine z_isub C (-1) (by decide) dX12_isBuyer_9 ?_
  refine z_i2l C (-1) (by decide) dX12_isBuyer_10 ?_
  refine j_callSi C (d := 0) (As := [.long p0.toInt64, .long 0, .long (-1)]) (st := []) (k34_X12_within hB p0) gX12_isBuyer_X12_within rfl hdX12_withins (by decide) (Nat.le_of_ble_eq_true rfl) dX12_isBuyer_11 rfl (fun r M' hp => ?_)
  obtain ⟨rfl, rfl⟩ := hp
  exact hret _ _ _ _ dX12_isBuyer_14 ⟨rfl, rfl⟩
set_option maxHeartbeats 4000000 in
set_option maxRecDepth 100000 in
theorem om_buyer {l : Launch} {dC : Nat → ClassId} {dI : Nat → Nat → Nat} {ad : Nat → Nat} {cA : Nat → ClassId} {B : mm_M} (hB : MB B) (p0 : Int32) (p1 : Int32) : Ci l 2 yX12_buyer wsX12_buyer dC dI ad cA [.ref (ad 98), .int p0, .int p1] B (fun r _ => r = fo_buyer p0 p1) := by
  refine ci_of (cc := cX12_buyer) (maxL := 3) (ty := .int) (lv := [(0, .ref (ad 98)), (1, .int p0), (2, .int p1)]) (by decide) rfl (fun r M' hp => rfl) (Nat.le_of_ble_eq_true rfl) rfl ?_
  intro p e s m args below meth c A Q C hret
  refine j_aload_n C 0 0 dX12_buyer_0 rfl rfl ?_
  refine j_iconst C 0 dX12_buyer_1 (by decide) ?_
  refine j_putI C 11 qX12_buyer_1 rfl rfl (by decide) rfl (by decide) rfl dX12_buyer_2 ?_
  refine z_noI (show B.1 98 0 = 0 from hB.1 98 0 (by decide)) ?_
  refine j_aload_n C 0 0 dX12_buyer_5 rfl rfl ?_
  refine j_iload_n C 1 1 dX12_buyer_6 rfl rfl ?_
  refine z_i2l C p0.toInt64 rfl dX12_buyer_7 ?_
  refine j_callVi C (d := 1) (As := [.long p0.toInt64]) (st := []) 98 (by decide) rfl (by decide) rfl (k39_X12_isBuyer hB p0) gX12_buyer_X12_isBuyer rfl hdX12_isBuyer (by decide) (Nat.le_of_ble_eq_true rfl) dX12_buyer_8 rfl (fun r M' hp => ?_)
  obtain ⟨rfl, rfl⟩ := hp
  refine j_if_ne_f C 17 dX12_buyer_11 (by decide) (by decide) ?_
  refine j_bipush C (-2) dX12_buyer_14 (by decide) ?_
  exact hret _ _ _ _ dX12_buyer_16 (by first | rfl | (unfold fo_buyer; rw [if_pos (by rw [nI_toInt (by omega)]; omega), nI_clamp (by omega)]; exact hrel) | (unfold fo_buyer; (repeat' split) <;> first | rfl | (exfalso; omega) | (exfalso; simp_all; done)))
set_option maxHeartbeats 4000000 in
set_option maxRecDepth 100000 in
theorem om_wants {l : Launch} {dC : Nat → ClassId} {dI : Nat → Nat → Nat} {ad : Nat → Nat} {cA : Nat → ClassId} {B : mm_M} (hB : MB B) (p0 : Int32) (p1 : Int32) : Ci l 2 yX12_wants wsX12_wants dC dI ad cA [.ref (ad 98), .int p0, .int p1] B (fun r _ => r = fo_wants p0 p1) := by
  refine ci_of (cc := cX12_wants) (maxL := 3) (ty := .int) (lv := [(0, .ref (ad 98)), (1, .int p0), (2, .int p1)]) (by decide) rfl (fun r M' hp => rfl) (Nat.le_of_ble_eq_true rfl) rfl ?_
  intro p e s m args below meth c A Q C hret
  refine j_aload_n C 0 0 dX12_wants_0 rfl rfl ?_
  refine j_iconst C 0 dX12_wants_1 (by decide) ?_
  refine j_putI C 11 qX12_wants_1 rfl rfl (by decide) rfl (by decide) rfl dX12_wants_2 ?_
  refine z_noI (show B.1 98 0 = 0 from hB.1 98 0 (by decide)) ?_
  refine j_aload_n C 0 0 dX12_wants_5 rfl rfl ?_
  refine j_iload_n C 1 1 dX12_wants_6 rfl rfl ?_
  refine z_i2l C p0.toInt64 rfl dX12_wants_7 ?_
  refine j_callVi C (d := 1) (As := [.long p0.toInt64]) (st := []) 98 (by decide) rfl (by decide) rfl (k39_X12_isBuyer hB p0) gX12_wants_X12_isBuyer rfl hdX12_isBuyer (by decide) (Nat.le_of_ble_eq_true rfl) dX12_wants_8 rfl (fun r M' hp => ?_)
  obtain ⟨rfl, rfl⟩ := hp
  refine j_if_eq_t C 39 dX12_wants_11 (by decide) (by decide) ?_
  refine j_ldcw C (-99000002) dX12_wants_39 (by decide +kernel) ?_
  exact hret _ _ _ _ dX12_wants_42 (by first | rfl | (unfold fo_wants; rw [if_pos (by rw [nI_toInt (by omega)]; omega), nI_clamp (by omega)]; exact hrel) | (unfold fo_wants; (repeat' split) <;> first | rfl | (exfalso; omega) | (exfalso; simp_all; done)))
set_option maxHeartbeats 4000000 in
set_option maxRecDepth 100000 in
theorem k46_X12_keeps {l : Launch} {dC : Nat → ClassId} {dI : Nat → Nat → Nat} {ad : Nat → Nat} {cA : Nat → ClassId} {B : mm_M} (hB : MB B) : Cv l 0 yX12_keeps wsX12_keeps dC dI ad cA [.ref (ad 98)] B (fun M' => B = M') := by
  refine cv_of (cc := cX12_keeps) (maxL := 2) (lv := [(0, .ref (ad 98))]) (by decide) rfl (Nat.le_of_ble_eq_true rfl) rfl ?_
  intro p e s m args below meth c A Q C hret
  refine j_iconst C 0 dX12_keeps_0 (by decide) ?_
  refine j_istore_n C 1 [(1, .int 0), (0, .ref (ad 98))] dX12_keeps_1 rfl (by decide) rfl ?_
  refine j_lv [1, 0] rfl ?_
  have L : ∀ (n i : Nat), 0 ≤ i → i + n = 23 → jj p l e (cn_R 0) s m args below meth c 0 0 Q 2 dC dI ad cA A B 2 [(0, .ref (ad 98)), (1, .int (nI i))] [] := by
    intro n
    induction n with
    | zero =>
      intro i h1 h2
      obtain rfl : i = 23 := by omega
      refine j_iload_n C 1 1 dX12_keeps_2 rfl rfl ?_
      refine j_bipush C 23 dX12_keeps_3 (by decide) ?_
      refine j_icmp_ge_t C 29 dX12_keeps_5 (by decide) (by decide) ?_
      exact hret _ _ _ dX12_keeps_29 rfl
    | succ n ih =>
      intro i h1 h2
      refine j_iload_n C 1 1 dX12_keeps_2 rfl rfl ?_
      refine j_bipush C 23 dX12_keeps_3 (by decide) ?_
      refine z_icmp_ge C 29 (i : Int) 23 (nI_toInt (n := i) (by omega)) (by decide) dX12_keeps_5 (by decide) (fun h1 => ?_) (fun h1 => ?_)
      · exfalso; omega
      · refine j_aload_n C 0 0 dX12_keeps_8 rfl rfl ?_
        refine j_getP C 11 105 fX12_keeps_36 (by decide) rfl (by decide) rfl (show B.2.2 98 17 = 105 from hB.2.2 98 17 (by decide)) dX12_keeps_9 ?_
        refine j_iload_n C 1 1 dX12_keeps_12 rfl rfl ?_
        refine j_aload_n C 0 0 dX12_keeps_13 rfl rfl ?_
        refine j_getP C 11 99 fX12_keeps_13 (by decide) rfl (by decide) rfl (show B.2.2 98 1 = 99 from hB.2.2 98 1 (by decide)) dX12_keeps_14 ?_
        refine j_bipush C 26 dX12_keeps_17 (by decide) ?_
        refine j_iload_n C 1 1 dX12_keeps_19 rfl rfl ?_
        refine z_iadd C (nI (i + 26)) ((nI_add 26 i).trans (congrArg nI (by omega))) dX12_keeps_20 ?_
        refine x_iald C (i + 26) 3543 0 (by decide) rfl rfl rfl (by omega) (by decide) (show B.1 99 (i + 26) = 0 from hB.1 99 (i + 26) (by decide)) dX12_keeps_21 ?_
        refine x_iast C i 23 (by decide) rfl rfl rfl (by omega) (by decide) dX12_keeps_22 ?_
        refine z_noI (show B.1 105 i = 0 from hB.1 105 i (by decide)) ?_
        refine j_iinc C 1 (nI (i + 1)) [(1, .int (nI (i + 1))), (0, .ref (ad 98))] dX12_keeps_23 rfl (nI_1 i) (by decide) rfl ?_
        refine j_goto C 2 dX12_keeps_26 (by decide) ?_
        refine j_lv [1, 0] rfl ?_
        exact ih (i + 1) (by omega) (by omega)
  exact L (23 - 0) 0 (by omega) (by omega)
set_option maxHeartbeats 4000000 in
set_option maxRecDepth 100000 in
theorem k47_X12_notes {l : Launch} {dC : Nat → ClassId} {dI : Nat → Nat → Nat} {ad : Nat → Nat} {cA : Nat → ClassId} {B : mm_M} (hB : MB B) (p0 : Int32) : Cv l 0 yX12_notes wsX12_notes dC dI ad cA [.ref (ad 98)] (wI B 99 32 p0) (fun M' => (wI (wI B 99 32 p0) 99 49 1) = M') := by
  refine cv_of (cc := cX12_notes) (maxL := 2) (lv := [(0, .ref (ad 98))]) (by decide) rfl (Nat.le_of_ble_eq_true rfl) rfl ?_
  intro p e s m args below meth c A Q C hret
  refine j_aload_n C 0 0 dX12_notes_0 rfl rfl ?_
  refine j_getP C 11 99 fX12_notes_13 (by decide) rfl (by decide) rfl (show B.2.2 98 1 = 99 from hB.2.2 98 1 (by decide)) dX12_notes_1 ?_
  refine j_bipush C 49 dX12_notes_4 (by decide) ?_
  refine x_iald C 49 3543 0 (by decide) rfl rfl rfl (by decide) (by decide) (show B.1 99 49 = 0 from hB.1 99 49 (by decide)) dX12_notes_6 ?_
  refine j_bipush C 10 dX12_notes_7 (by decide) ?_
  refine j_icmp_ne_t C 56 dX12_notes_9 (by decide) (by decide) ?_
  refine j_iconst C 0 dX12_notes_56 (by decide) ?_
  refine j_istore_n C 1 [(1, .int 0), (0, .ref (ad 98))] dX12_notes_57 rfl (by decide) rfl ?_
  refine j_lv [1, 0] rfl ?_
  have L : ∀ (n i : Nat), 0 ≤ i → i + n = 23 → jj p l e (cn_R 0) s m args below meth c 0 0 Q 2 dC dI ad cA A (wI B 99 32 p0) 58 [(0, .ref (ad 98)), (1, .int (nI i))] [] := by
    intro n
    induction n with
    | zero =>
      intro i h1 h2
      obtain rfl : i = 23 := by omega
      refine j_iload_n C 1 1 dX12_notes_58 rfl rfl ?_
      refine j_bipush C 23 dX12_notes_59 (by decide) ?_
      refine j_icmp_ge_t C 96 dX12_notes_61 (by decide) (by decide) ?_
      refine j_aload_n C 0 0 dX12_notes_96 rfl rfl ?_
      refine j_getP C 11 99 fX12_notes_13 (by decide) rfl (by decide) rfl (show B.2.2 98 1 = 99 from hB.2.2 98 1 (by decide)) dX12_notes_97 ?_
      refine j_bipush C 49 dX12_notes_100 (by decide) ?_
      refine j_dup2 C dX12_notes_102 rfl rfl ?_
      refine x_iald C 49 3543 0 (by decide) rfl rfl rfl (by decide) (by decide) (show B.1 99 49 = 0 from hB.1 99 49 (by decide)) dX12_notes_103 ?_
      refine j_iconst C 1 dX12_notes_104 (by decide) ?_
      refine z_iadd C 1 (by decide) dX12_notes_105 ?_
      refine x_iast C 49 3543 (by decide) rfl rfl rfl (by decide) (by decide) dX12_notes_106 ?_
      exact hret _ _ _ dX12_notes_107 rfl
    | succ n ih =>
      intro i h1 h2
      refine j_iload_n C 1 1 dX12_notes_58 rfl rfl ?_
      refine j_bipush C 23 dX12_notes_59 (by decide) ?_
      refine z_icmp_ge C 96 (i : Int) 23 (nI_toInt (n := i) (by omega)) (by decide) dX12_notes_61 (by decide) (fun h1 => ?_) (fun h1 => ?_)
      · exfalso; omega
      · refine j_aload_n C 0 0 dX12_notes_64 rfl rfl ?_
        refine j_getP C 11 99 fX12_notes_13 (by decide) rfl (by decide) rfl (show B.2.2 98 1 = 99 from hB.2.2 98 1 (by decide)) dX12_notes_65 ?_
        refine j_bipush C 50 dX12_notes_68 (by decide) ?_
        refine j_bipush C 23 dX12_notes_70 (by decide) ?_
        refine j_aload_n C 0 0 dX12_notes_72 rfl rfl ?_
        refine j_getP C 11 99 fX12_notes_13 (by decide) rfl (by decide) rfl (show B.2.2 98 1 = 99 from hB.2.2 98 1 (by decide)) dX12_notes_73 ?_
        refine j_bipush C 49 dX12_notes_76 (by decide) ?_
        refine x_iald C 49 3543 0 (by decide) rfl rfl rfl (by decide) (by decide) (show B.1 99 49 = 0 from hB.1 99 49 (by decide)) dX12_notes_78 ?_
        refine z_imul C 0 (by decide) dX12_notes_79 ?_
        refine z_iadd C 50 (by decide) dX12_notes_80 ?_
        refine j_iload_n C 1 1 dX12_notes_81 rfl rfl ?_
        refine z_iadd C (nI (i + 50)) ((nI_add 50 i).trans (congrArg nI (by omega))) dX12_notes_82 ?_
        refine j_aload_n C 0 0 dX12_notes_83 rfl rfl ?_
        refine j_getP C 11 105 fX12_notes_36 (by decide) rfl (by decide) rfl (show B.2.2 98 17 = 105 from hB.2.2 98 17 (by decide)) dX12_notes_84 ?_
        refine j_iload_n C 1 1 dX12_notes_87 rfl rfl ?_
        refine x_iald C i 23 0 (by decide) rfl rfl rfl (by omega) (by decide) (show B.1 105 i = 0 from hB.1 105 i (by decide)) dX12_notes_88 ?_
        refine x_iast C (i + 50) 3543 (by decide) rfl rfl rfl (by omega) (by decide) dX12_notes_89 ?_
        refine z_noI ((u2_b (i := 99) (k := 32) (a := 99) (b := (i + 50)) _ (p0 : Int32) (by omega)).trans (show B.1 99 (i + 50) = 0 from hB.1 99 (i + 50) (by decide))) ?_
        refine j_iinc C 1 (nI (i + 1)) [(1, .int (nI (i + 1))), (0, .ref (ad 98))] dX12_notes_90 rfl (nI_1 i) (by decide) rfl ?_
        refine j_goto C 58 dX12_notes_93 (by decide) ?_
        refine j_lv [1, 0] rfl ?_
        exact ih (i + 1) (by omega) (by omega)
  exact L (23 - 0) 0 (by omega) (by omega)
set_option maxHeartbeats 4000000 in
set_option maxRecDepth 100000 in
theorem om_seed {l : Launch} {dC : Nat → ClassId} {dI : Nat → Nat → Nat} {ad : Nat → Nat} {cA : Nat → ClassId} {B : mm_M} (hB : MB B) (p0 : Int32) : Ci l 1 yX12_seed wsX12_seed dC dI ad cA [.ref (ad 98), .int p0] B (fun r _ => r = fo_seed p0) := by
  refine ci_of (cc := cX12_seed) (maxL := 2) (ty := .int) (lv := [(0, .ref (ad 98)), (1, .int p0)]) (by decide) rfl (fun r M' hp => rfl) (Nat.le_of_ble_eq_true rfl) rfl ?_
  intro p e s m args below meth c A Q C hret
  refine j_aload_n C 0 0 dX12_seed_0 rfl rfl ?_
  refine j_iconst C 0 dX12_seed_1 (by decide) ?_
  refine j_putI C 11 qX12_seed_1 rfl rfl (by decide) rfl (by decide) rfl dX12_seed_2 ?_
  refine z_noI (show B.1 98 0 = 0 from hB.1 98 0 (by decide)) ?_
  refine j_aload_n C 0 0 dX12_seed_5 rfl rfl ?_
  refine j_callVv C (d := 0) (As := []) (st := []) 98 (by decide) rfl (by decide) rfl (k46_X12_keeps hB) gX12_seed_X12_keeps rfl hdX12_keeps (by decide) (Nat.le_of_ble_eq_true rfl) dX12_seed_6 rfl (fun M' hp => ?_)
  obtain rfl := hp
  refine j_aload_n C 0 0 dX12_seed_9 rfl rfl ?_
  refine j_getP C 11 99 fX12_seed_13 (by decide) rfl (by decide) rfl (show B.2.2 98 1 = 99 from hB.2.2 98 1 (by decide)) dX12_seed_10 ?_
  refine j_bipush C 32 dX12_seed_13 (by decide) ?_
  refine j_iload_n C 1 1 dX12_seed_15 rfl rfl ?_
  refine x_iast C 32 3543 (by decide) rfl rfl rfl (by decide) (by decide) dX12_seed_16 ?_
  refine j_aload_n C 0 0 dX12_seed_17 rfl rfl ?_
  refine j_callVv C (d := 0) (As := []) (st := []) 98 (by decide) rfl (by decide) rfl (k47_X12_notes hB p0) gX12_seed_X12_notes rfl hdX12_notes (by decide) (Nat.le_of_ble_eq_true rfl) dX12_seed_18 rfl (fun M' hp => ?_)
  obtain rfl := hp
  refine j_aload_n C 0 0 dX12_seed_21 rfl rfl ?_
  refine j_getP C 11 105 fX12_seed_36 (by decide) rfl (by decide) rfl (show B.2.2 98 17 = 105 from hB.2.2 98 17 (by decide)) dX12_seed_22 ?_
  refine j_bipush C 6 dX12_seed_25 (by decide) ?_
  refine x_iald C 6 23 0 (by decide) rfl rfl rfl (by decide) (by decide) (show B.1 105 6 = 0 from hB.1 105 6 (by decide)) dX12_seed_27 ?_
  exact hret _ _ _ _ dX12_seed_28 (by first | rfl | (unfold fo_seed; rw [if_pos (by rw [nI_toInt (by omega)]; omega), nI_clamp (by omega)]; exact hrel) | (unfold fo_seed; (repeat' split) <;> first | rfl | (exfalso; omega) | (exfalso; simp_all; done)))
set_option maxHeartbeats 4000000 in
set_option maxRecDepth 100000 in
theorem k53_X12_whyVisit {l : Launch} {dC : Nat → ClassId} {dI : Nat → Nat → Nat} {ad : Nat → Nat} {cA : Nat → ClassId} {B : mm_M} (hB : MB B) (p0 : Int32) : Ci l 2 yX12_whyVisit wsX12_whyVisit dC dI ad cA [.ref (ad 98), .long p0.toInt64] B (fun r M' => 1 = r ∧ B = M') := by
  refine ci_of (cc := cX12_whyVisit) (maxL := 3) (ty := .int) (lv := [(0, .ref (ad 98)), (1, .long p0.toInt64)]) (by decide) rfl (fun r M' hp => rfl) (Nat.le_of_ble_eq_true rfl) rfl ?_
  intro p e s m args below meth c A Q C hret
  refine j_aload_n C 0 0 dX12_whyVisit_0 rfl rfl ?_
  refine j_lload_n C 1 1 dX12_whyVisit_1 rfl rfl ?_
  refine j_callVi C (d := 1) (As := [.long p0.toInt64]) (st := []) 98 (by decide) rfl (by decide) rfl (k39_X12_isBuyer hB p0) gX12_whyVisit_X12_isBuyer rfl hdX12_isBuyer (by decide) (Nat.le_of_ble_eq_true rfl) dX12_whyVisit_2 rfl (fun r M' hp => ?_)
  obtain ⟨rfl, rfl⟩ := hp
  refine j_if_ne_f C 12 dX12_whyVisit_5 (by decide) (by decide) ?_
  refine j_iconst C 1 dX12_whyVisit_8 (by decide) ?_
  refine j_goto C 38 dX12_whyVisit_9 (by decide) ?_
  exact hret _ _ _ _ dX12_whyVisit_38 ⟨rfl, rfl⟩
set_option maxHeartbeats 4000000 in
set_option maxRecDepth 100000 in
theorem om_visit {l : Launch} {dC : Nat → ClassId} {dI : Nat → Nat → Nat} {ad : Nat → Nat} {cA : Nat → ClassId} {B : mm_M} (hB : MB B) (p0 : Int32) : Ci l 3 yX12_visit wsX12_visit dC dI ad cA [.ref (ad 98), .int p0] B (fun r _ => r = fo_visit p0) := by
  refine ci_of (cc := cX12_visit) (maxL := 4) (ty := .int) (lv := [(0, .ref (ad 98)), (1, .int p0)]) (by decide) rfl (fun r M' hp => rfl) (Nat.le_of_ble_eq_true rfl) rfl ?_
  intro p e s m args below meth c A Q C hret
  refine j_aload_n C 0 0 dX12_visit_0 rfl rfl ?_
  refine j_iconst C 0 dX12_visit_1 (by decide) ?_
  refine j_putI C 11 qX12_visit_1 rfl rfl (by decide) rfl (by decide) rfl dX12_visit_2 ?_
  refine z_noI (show B.1 98 0 = 0 from hB.1 98 0 (by decide)) ?_
  refine j_aload_n C 0 0 dX12_visit_5 rfl rfl ?_
  refine j_iload_n C 1 1 dX12_visit_6 rfl rfl ?_
  refine z_i2l C p0.toInt64 rfl dX12_visit_7 ?_
  refine j_callVi C (d := 2) (As := [.long p0.toInt64]) (st := []) 98 (by decide) rfl (by decide) rfl (k53_X12_whyVisit hB p0) gX12_visit_X12_whyVisit rfl hdX12_whyVisit (by decide) (Nat.le_of_ble_eq_true rfl) dX12_visit_8 rfl (fun r M' hp => ?_)
  obtain ⟨rfl, rfl⟩ := hp
  refine j_istore_n C 2 [(2, .int 1), (0, .ref (ad 98)), (1, .int p0)] dX12_visit_11 rfl (by decide) rfl ?_
  refine j_iload_n C 0 2 dX12_visit_12 rfl rfl ?_
  refine j_if_eq_f C 21 dX12_visit_13 (by decide) (by decide) ?_
  refine j_bipush C (-10) dX12_visit_16 (by decide) ?_
  refine j_iload_n C 0 2 dX12_visit_18 rfl rfl ?_
  refine z_isub C (-11) (by decide) dX12_visit_19 ?_
  exact hret _ _ _ _ dX12_visit_20 (by first | rfl | (unfold fo_visit; rw [if_pos (by rw [nI_toInt (by omega)]; omega), nI_clamp (by omega)]; exact hrel) | (unfold fo_visit; (repeat' split) <;> first | rfl | (exfalso; omega) | (exfalso; simp_all; done)))
set_option maxHeartbeats 4000000 in
set_option maxRecDepth 100000 in
theorem k58_X12_whyKind {l : Launch} {dC : Nat → ClassId} {dI : Nat → Nat → Nat} {ad : Nat → Nat} {cA : Nat → ClassId} {B : mm_M} (hB : MB B) (p0 : Int32) : Ci l 2 yX12_whyKind wsX12_whyKind dC dI ad cA [.ref (ad 98), .long p0.toInt64] B (fun r M' => 1 = r ∧ B = M') := by
  refine ci_of (cc := cX12_whyKind) (maxL := 3) (ty := .int) (lv := [(0, .ref (ad 98)), (1, .long p0.toInt64)]) (by decide) rfl (fun r M' hp => rfl) (Nat.le_of_ble_eq_true rfl) rfl ?_
  intro p e s m args below meth c A Q C hret
  refine j_aload_n C 0 0 dX12_whyKind_0 rfl rfl ?_
  refine j_lload_n C 1 1 dX12_whyKind_1 rfl rfl ?_
  refine j_callVi C (d := 1) (As := [.long p0.toInt64]) (st := []) 98 (by decide) rfl (by decide) rfl (k35_X12_isKind hB p0) gX12_whyKind_X12_isKind rfl hdX12_isKind (by decide) (Nat.le_of_ble_eq_true rfl) dX12_whyKind_2 rfl (fun r M' hp => ?_)
  obtain ⟨rfl, rfl⟩ := hp
  refine j_if_ne_f C 12 dX12_whyKind_5 (by decide) (by decide) ?_
  refine j_iconst C 1 dX12_whyKind_8 (by decide) ?_
  refine j_goto C 24 dX12_whyKind_9 (by decide) ?_
  exact hret _ _ _ _ dX12_whyKind_24 ⟨rfl, rfl⟩
set_option maxHeartbeats 4000000 in
set_option maxRecDepth 100000 in
theorem om_gift {l : Launch} {dC : Nat → ClassId} {dI : Nat → Nat → Nat} {ad : Nat → Nat} {cA : Nat → ClassId} {B : mm_M} (hB : MB B) (p0 : Int32) : Ci l 3 yX12_gift wsX12_gift dC dI ad cA [.ref (ad 98), .int p0] B (fun r _ => r = fo_gift p0) := by
  refine ci_of (cc := cX12_gift) (maxL := 3) (ty := .int) (lv := [(0, .ref (ad 98)), (1, .int p0)]) (by decide) rfl (fun r M' hp => rfl) (Nat.le_of_ble_eq_true rfl) rfl ?_
  intro p e s m args below meth c A Q C hret
  refine j_aload_n C 0 0 dX12_gift_0 rfl rfl ?_
  refine j_iconst C 0 dX12_gift_1 (by decide) ?_
  refine j_putI C 11 qX12_gift_1 rfl rfl (by decide) rfl (by decide) rfl dX12_gift_2 ?_
  refine z_noI (show B.1 98 0 = 0 from hB.1 98 0 (by decide)) ?_
  refine j_aload_n C 0 0 dX12_gift_5 rfl rfl ?_
  refine j_iload_n C 1 1 dX12_gift_6 rfl rfl ?_
  refine z_i2l C p0.toInt64 rfl dX12_gift_7 ?_
  refine j_callVi C (d := 2) (As := [.long p0.toInt64]) (st := []) 98 (by decide) rfl (by decide) rfl (k58_X12_whyKind hB p0) gX12_gift_X12_whyKind rfl hdX12_whyKind (by decide) (Nat.le_of_ble_eq_true rfl) dX12_gift_8 rfl (fun r M' hp => ?_)
  obtain ⟨rfl, rfl⟩ := hp
  refine j_istore_n C 2 [(2, .int 1), (0, .ref (ad 98)), (1, .int p0)] dX12_gift_11 rfl (by decide) rfl ?_
  refine j_iload_n C 0 2 dX12_gift_12 rfl rfl ?_
  refine j_if_eq_f C 21 dX12_gift_13 (by decide) (by decide) ?_
  refine j_bipush C (-10) dX12_gift_16 (by decide) ?_
  refine j_iload_n C 0 2 dX12_gift_18 rfl rfl ?_
  refine z_isub C (-11) (by decide) dX12_gift_19 ?_
  exact hret _ _ _ _ dX12_gift_20 (by first | rfl | (unfold fo_gift; rw [if_pos (by rw [nI_toInt (by omega)]; omega), nI_clamp (by omega)]; exact hrel) | (unfold fo_gift; (repeat' split) <;> first | rfl | (exfalso; omega) | (exfalso; simp_all; done)))
set_option maxHeartbeats 4000000 in
set_option maxRecDepth 100000 in
theorem om_hide {l : Launch} {dC : Nat → ClassId} {dI : Nat → Nat → Nat} {ad : Nat → Nat} {cA : Nat → ClassId} {B : mm_M} (hB : MB B) (p0 : Int32) : Ci l 3 yX12_hide wsX12_hide dC dI ad cA [.ref (ad 98), .int p0] B (fun r _ => r = fo_hide p0) := by
  refine ci_of (cc := cX12_hide) (maxL := 3) (ty := .int) (lv := [(0, .ref (ad 98)), (1, .int p0)]) (by decide) rfl (fun r M' hp => rfl) (Nat.le_of_ble_eq_true rfl) rfl ?_
  intro p e s m args below meth c A Q C hret
  refine j_aload_n C 0 0 dX12_hide_0 rfl rfl ?_
  refine j_iconst C 0 dX12_hide_1 (by decide) ?_
  refine j_putI C 11 qX12_hide_1 rfl rfl (by decide) rfl (by decide) rfl dX12_hide_2 ?_
  refine z_noI (show B.1 98 0 = 0 from hB.1 98 0 (by decide)) ?_
  refine j_aload_n C 0 0 dX12_hide_5 rfl rfl ?_
  refine j_iload_n C 1 1 dX12_hide_6 rfl rfl ?_
  refine z_i2l C p0.toInt64 rfl dX12_hide_7 ?_
  refine j_callVi C (d := 2) (As := [.long p0.toInt64]) (st := []) 98 (by decide) rfl (by decide) rfl (k58_X12_whyKind hB p0) gX12_hide_X12_whyKind rfl hdX12_whyKind (by decide) (Nat.le_of_ble_eq_true rfl) dX12_hide_8 rfl (fun r M' hp => ?_)
  obtain ⟨rfl, rfl⟩ := hp
  refine j_istore_n C 2 [(2, .int 1), (0, .ref (ad 98)), (1, .int p0)] dX12_hide_11 rfl (by decide) rfl ?_
  refine j_iload_n C 0 2 dX12_hide_12 rfl rfl ?_
  refine j_if_eq_f C 21 dX12_hide_13 (by decide) (by decide) ?_
  refine j_bipush C (-10) dX12_hide_16 (by decide) ?_
  refine j_iload_n C 0 2 dX12_hide_18 rfl rfl ?_
  refine z_isub C (-11) (by decide) dX12_hide_19 ?_
  exact hret _ _ _ _ dX12_hide_20 (by first | rfl | (unfold fo_hide; rw [if_pos (by rw [nI_toInt (by omega)]; omega), nI_clamp (by omega)]; exact hrel) | (unfold fo_hide; (repeat' split) <;> first | rfl | (exfalso; omega) | (exfalso; simp_all; done)))
