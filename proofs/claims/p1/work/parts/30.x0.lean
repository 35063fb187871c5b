set_option maxHeartbeats 4000000 in
set_option maxRecDepth 100000 in
theorem k1_X11_putBytes {l : Launch} {dC : Nat → ClassId} {dI : Nat → Nat → Nat} {ad : Nat → Nat} {cA : Nat → ClassId} (p0 : Int32) : Cv l 0 yX11_putBytes wsX11_putBytes dC dI ad cA [.ref (ad 0), .int p0] M0 (fun M' => (wI (wI (wI (wI (wI M0 1 0 (((p0.toUInt32 >>> ((24 : Int32).toUInt32 &&& Int32.toUInt32 31)).toInt32) &&& (255 : Int32))) 0 1 4) 1 1 ((su p0) &&& (255 : Int32))) 1 2 (((p0.toUInt32 >>> ((8 : Int32).toUInt32 &&& Int32.toUInt32 31)).toInt32) &&& (255 : Int32))) 1 3 (((p0.toUInt32 >>> ((0 : Int32).toUInt32 &&& Int32.toUInt32 31)).toInt32) &&& (255 : Int32))) = M') := by
  refine cv_of (cc := cX11_putBytes) (maxL := 3) (lv := [(0, .ref (ad 0)), (1, .int p0)]) (by decide) rfl (Nat.le_of_ble_eq_true rfl) rfl ?_
  intro p e s m args below meth c A Q C hret
  refine j_bipush C 24 dX11_putBytes_0 (by decide) ?_
  refine j_istore_n C 2 [(2, .int 24), (0, .ref (ad 0)), (1, .int p0)] dX11_putBytes_2 rfl (by decide) rfl ?_
  refine j_iload_n C 0 2 dX11_putBytes_3 rfl rfl ?_
  refine j_if_lt_f C 51 dX11_putBytes_4 (by decide) (by decide) ?_
  refine j_aload_n C 1 0 dX11_putBytes_7 rfl rfl ?_
  refine j_getI C 10 0 fX11_putBytes_13 (by decide) rfl (by decide) rfl rfl dX11_putBytes_8 ?_
  refine j_aload_n C 1 0 dX11_putBytes_11 rfl rfl ?_
  refine j_getP C 10 1 fX11_putBytes_9 (by decide) rfl (by decide) rfl rfl dX11_putBytes_12 ?_
  refine j_alen C 900 (by decide) (by decide) (by decide) dX11_putBytes_15 ?_
  refine j_icmp_ge_f C 51 dX11_putBytes_16 (by decide) (by decide) ?_
  refine j_aload_n C 1 0 dX11_putBytes_19 rfl rfl ?_
  refine j_getP C 10 1 fX11_putBytes_9 (by decide) rfl (by decide) rfl rfl dX11_putBytes_20 ?_
  refine j_aload_n C 1 0 dX11_putBytes_23 rfl rfl ?_
  refine j_getI C 10 0 fX11_putBytes_13 (by decide) rfl (by decide) rfl rfl dX11_putBytes_24 ?_
  refine j_iload_n C 2 1 dX11_putBytes_27 rfl rfl ?_
  refine j_iload_n C 0 2 dX11_putBytes_28 rfl rfl ?_
  refine z_iushr C ((p0.toUInt32 >>> ((24 : Int32).toUInt32 &&& Int32.toUInt32 31)).toInt32) rfl dX11_putBytes_29 ?_
  refine j_sipush C 255 dX11_putBytes_30 (by decide) ?_
  refine z_iand C (((p0.toUInt32 >>> ((24 : Int32).toUInt32 &&& Int32.toUInt32 31)).toInt32) &&& (255 : Int32)) rfl dX11_putBytes_33 ?_
  refine x_iast C 0 900 (by decide) rfl rfl rfl (by decide) (by decide) dX11_putBytes_34 ?_
  refine j_aload_n C 1 0 dX11_putBytes_35 rfl rfl ?_
  refine j_dup C dX11_putBytes_36 rfl ?_
  refine j_getI C 10 0 fX11_putBytes_13 (by decide) rfl (by decide) rfl rfl dX11_putBytes_37 ?_
  refine j_iconst C 1 dX11_putBytes_40 (by decide) ?_
  refine z_iadd C 1 (by decide) dX11_putBytes_41 ?_
  refine j_putI C 10 qX11_putBytes_13 rfl rfl (by decide) rfl (by decide) rfl dX11_putBytes_42 ?_
  refine j_iinc C 0 16 [(2, .int 16), (0, .ref (ad 0)), (1, .int p0)] dX11_putBytes_45 rfl (by decide) (by decide) rfl ?_
  refine j_goto C 3 dX11_putBytes_48 (by decide) ?_
  refine j_iload_n C 0 2 dX11_putBytes_3 rfl rfl ?_
  refine j_if_lt_f C 51 dX11_putBytes_4 (by decide) (by decide) ?_
  refine j_aload_n C 1 0 dX11_putBytes_7 rfl rfl ?_
  refine j_getI C 10 1 fX11_putBytes_13 (by decide) rfl (by decide) rfl rfl dX11_putBytes_8 ?_
  refine j_aload_n C 1 0 dX11_putBytes_11 rfl rfl ?_
  refine j_getP C 10 1 fX11_putBytes_9 (by decide) rfl (by decide) rfl rfl dX11_putBytes_12 ?_
  refine j_alen C 900 (by decide) (by decide) (by decide) dX11_putBytes_15 ?_
  refine j_icmp_ge_f C 51 dX11_putBytes_16 (by decide) (by decide) ?_
  refine j_aload_n C 1 0 dX11_putBytes_19 rfl rfl ?_
  refine j_getP C 10 1 fX11_putBytes_9 (by decide) rfl (by decide) rfl rfl dX11_putBytes_20 ?_
  refine j_aload_n C 1 0 dX11_putBytes_23 rfl rfl ?_
  refine j_getI C 10 1 fX11_putBytes_13 (by decide) rfl (by decide) rfl rfl dX11_putBytes_24 ?_
  refine j_iload_n C 2 1 dX11_putBytes_27 rfl rfl ?_
  refine j_iload_n C 0 2 dX11_putBytes_28 rfl rfl ?_
  refine z_iushr C (su p0) rfl dX11_putBytes_29 ?_
  refine j_sipush C 255 dX11_putBytes_30 (by decide) ?_
  refine z_iand C ((su p0) &&& (255 : Int32)) rfl dX11_putBytes_33 ?_
  refine x_iast C 1 900 (by decide) rfl rfl rfl (by decide) (by decide) dX11_putBytes_34 ?_
  refine j_aload_n C 1 0 dX11_putBytes_35 rfl rfl ?_
  refine j_dup C dX11_putBytes_36 rfl ?_
  refine j_getI C 10 1 fX11_putBytes_13 (by decide) rfl (by decide) rfl rfl dX11_putBytes_37 ?_
  refine j_iconst C 1 dX11_putBytes_40 (by decide) ?_
  refine z_iadd C 2 (by decide) dX11_putBytes_41 ?_
  refine j_putI C 10 qX11_putBytes_13 rfl rfl (by decide) rfl (by decide) rfl dX11_putBytes_42 ?_
  refine j_M (M' := (wI (wI (wI M0 1 0 (((p0.toUInt32 >>> ((24 : Int32).toUInt32 &&& Int32.toUInt32 31)).toInt32) &&& (255 : Int32))) 0 1 2) 1 1 ((su p0) &&& (255 : Int32)))) ((wI_c (by decide)).trans (congrArg (fun X => wI X 1 1 ((su p0) &&& (255 : Int32))) (wI_w _ _ _ _ _))) ?_
  refine j_iinc C 0 8 [(2, .int 8), (0, .ref (ad 0)), (1, .int p0)] dX11_putBytes_45 rfl (by decide) (by decide) rfl ?_
  refine j_goto C 3 dX11_putBytes_48 (by decide) ?_
  refine j_iload_n C 0 2 dX11_putBytes_3 rfl rfl ?_
  refine j_if_lt_f C 51 dX11_putBytes_4 (by decide) (by decide) ?_
  refine j_aload_n C 1 0 dX11_putBytes_7 rfl rfl ?_
  refine j_getI C 10 2 fX11_putBytes_13 (by decide) rfl (by decide) rfl rfl dX11_putBytes_8 ?_
  refine j_aload_n C 1 0 dX11_putBytes_11 rfl rfl ?_
  refine j_getP C 10 1 fX11_putBytes_9 (by decide) rfl (by decide) rfl rfl dX11_putBytes_12 ?_
  refine j_alen C 900 (by decide) (by decide) (by decide) dX11_putBytes_15 ?_
  refine j_icmp_ge_f C 51 dX11_putBytes_16 (by decide) (by decide) ?_
  refine j_aload_n C 1 0 dX11_putBytes_19 rfl rfl ?_
  refine j_getP C 10 1 fX11_putBytes_9 (by decide) rfl (by decide) rfl rfl dX11_putBytes_20 ?_
  refine j_aload_n C 1 0 dX11_putBytes_23 rfl rfl ?_
  refine j_getI C 10 2 fX11_putBytes_13 (by decide) rfl (by decide) rfl rfl dX11_putBytes_24 ?_
  refine j_iload_n C 2 1 dX11_putBytes_27 rfl rfl ?_
  refine j_iload_n C 0 2 dX11_putBytes_28 rfl rfl ?_
  refine z_iushr C ((p0.toUInt32 >>> ((8 : Int32).toUInt32 &&& Int32.toUInt32 31)).toInt32) rfl dX11_putBytes_29 ?_
  refine j_sipush C 255 dX11_putBytes_30 (by decide) ?_
  refine z_iand C (((p0.toUInt32 >>> ((8 : Int32).toUInt32 &&& Int32.toUInt32 31)).toInt32) &&& (255 : Int32)) rfl dX11_putBytes_33 ?_
  refine x_iast C 2 900 (by decide) rfl rfl rfl (by decide) (by decide) dX11_putBytes_34 ?_
  refine j_aload_n C 1 0 dX11_putBytes_35 rfl rfl ?_
  refine j_dup C dX11_putBytes_36 rfl ?_
  refine j_getI C 10 2 fX11_putBytes_13 (by decide) rfl (by decide) rfl rfl dX11_putBytes_37 ?_
  refine j_iconst C 1 dX11_putBytes_40 (by decide) ?_
  refine z_iadd C 3 (by decide) dX11_putBytes_41 ?_
  refine j_putI C 10 qX11_putBytes_13 rfl rfl (by decide) rfl (by decide) rfl dX11_putBytes_42 ?_
  refine j_M (M' := (wI (wI (wI (wI M0 1 0 (((p0.toUInt32 >>> ((24 : Int32).toUInt32 &&& Int32.toUInt32 31)).toInt32) &&& (255 : Int32))) 0 1 3) 1 1 ((su p0) &&& (255 : Int32))) 1 2 (((p0.toUInt32 >>> ((8 : Int32).toUInt32 &&& Int32.toUInt32 31)).toInt32) &&& (255 : Int32)))) ((wI_c (by decide)).trans (congrArg (fun X => wI X 1 2 (((p0.toUInt32 >>> ((8 : Int32).toUInt32 &&& Int32.toUInt32 31)).toInt32) &&& (255 : Int32))) ((wI_c (by decide)).trans (congrArg (fun X => wI X 1 1 ((su p0) &&& (255 : Int32))) (wI_w _ _ _ _ _))))) ?_
  refine j_iinc C 0 0 [(2, .int 0), (0, .ref (ad 0)), (1, .int p0)] dX11_putBytes_45 rfl (by decide) (by decide) rfl ?_
  refine j_goto C 3 dX11_putBytes_48 (by decide) ?_
  refine j_iload_n C 0 2 dX11_putBytes_3 rfl rfl ?_
  refine j_if_lt_f C 51 dX11_putBytes_4 (by decide) (by decide) ?_
  refine j_aload_n C 1 0 dX11_putBytes_7 rfl rfl ?_
  refine j_getI C 10 3 fX11_putBytes_13 (by decide) rfl (by decide) rfl rfl dX11_putBytes_8 ?_
  refine j_aload_n C 1 0 dX11_putBytes_11 rfl rfl ?_
  refine j_getP C 10 1 fX11_putBytes_9 (by decide) rfl (by decide) rfl rfl dX11_putBytes_12 ?_
  refine j_alen C 900 (by decide) (by decide) (by decide) dX11_putBytes_15 ?_
  refine j_icmp_ge_f C 51 dX11_putBytes_16 (by decide) (by decide) ?_
  refine j_aload_n C 1 0 dX11_putBytes_19 rfl rfl ?_
  refine j_getP C 10 1 fX11_putBytes_9 (by decide) rfl (by decide) rfl rfl dX11_putBytes_20 ?_
  refine j_aload_n C 1 0 dX11_putBytes_23 rfl rfl ?_
  refine j_getI C 10 3 fX11_putBytes_13 (by decide) rfl (by decide) rfl rfl dX11_putBytes_24 ?_
  refine j_iload_n C 2 1 dX11_putBytes_27 rfl rfl ?_
  refine j_iload_n C 0 2 dX11_putBytes_28 rfl rfl ?_
  refine z_iushr C ((p0.toUInt32 >>> ((0 : Int32).toUInt32 &&& Int32.toUInt32 31)).toInt32) rfl dX11_putBytes_29 ?_
  refine j_sipush C 255 dX11_putBytes_30 (by decide) ?_
  refine z_iand C (((p0.toUInt32 >>> ((0 : Int32).toUInt32 &&& Int32.toUInt32 31)).toInt32) &&& (255 : Int32)) rfl dX11_putBytes_33 ?_
  refine x_iast C 3 900 (by decide) rfl rfl rfl (by decide) (by decide) dX11_putBytes_34 ?_
  refine j_aload_n C 1 0 dX11_putBytes_35 rfl rfl ?_
  refine j_dup C dX11_putBytes_36 rfl ?_
  refine j_getI C 10 3 fX11_putBytes_13 (by decide) rfl (by decide) rfl rfl dX11_putBytes_37 ?_
  refine j_iconst C 1 dX11_putBytes_40 (by decide) ?_
  refine z_iadd C 4 (by decide) dX11_putBytes_41 ?_
  refine j_putI C 10 qX11_putBytes_13 rfl rfl (by decide) rfl (by decide) rfl dX11_putBytes_42 ?_
  refine j_M (M' := (wI (wI (wI (wI (wI M0 1 0 (((p0.toUInt32 >>> ((24 : Int32).toUInt32 &&& Int32.toUInt32 31)).toInt32) &&& (255 : Int32))) 0 1 4) 1 1 ((su p0) &&& (255 : Int32))) 1 2 (((p0.toUInt32 >>> ((8 : Int32).toUInt32 &&& Int32.toUInt32 31)).toInt32) &&& (255 : Int32))) 1 3 (((p0.toUInt32 >>> ((0 : Int32).toUInt32 &&& Int32.toUInt32 31)).toInt32) &&& (255 : Int32)))) ((wI_c (by decide)).trans (congrArg (fun X => wI X 1 3 (((p0.toUInt32 >>> ((0 : Int32).toUInt32 &&& Int32.toUInt32 31)).toInt32) &&& (255 : Int32))) ((wI_c (by decide)).trans (congrArg (fun X => wI X 1 2 (((p0.toUInt32 >>> ((8 : Int32).toUInt32 &&& Int32.toUInt32 31)).toInt32) &&& (255 : Int32))) ((wI_c (by decide)).trans (congrArg (fun X => wI X 1 1 ((su p0) &&& (255 : Int32))) (wI_w _ _ _ _ _))))))) ?_
  refine j_iinc C 0 (-8) [(2, .int (-8)), (0, .ref (ad 0)), (1, .int p0)] dX11_putBytes_45 rfl (by decide) (by decide) rfl ?_
  refine j_goto C 3 dX11_putBytes_48 (by decide) ?_
  refine j_iload_n C 0 2 dX11_putBytes_3 rfl rfl ?_
  refine j_if_lt_t C 51 dX11_putBytes_4 (by decide) (by decide) ?_
  exact hret _ _ _ dX11_putBytes_51 rfl
set_option maxHeartbeats 4000000 in
set_option maxRecDepth 100000 in
theorem k2_X11_putBytes {l : Launch} {dC : Nat → ClassId} {dI : Nat → Nat → Nat} {ad : Nat → Nat} {cA : Nat → ClassId} (p0 : Int32) (p1 : Int32) : Cv l 0 yX11_putBytes wsX11_putBytes dC dI ad cA [.ref (ad 0), .int p0] (wI (wI (wI (wI (wI M0 1 0 (((p1.toUInt32 >>> ((24 : Int32).toUInt32 &&& Int32.toUInt32 31)).toInt32) &&& (255 : Int32))) 0 1 4) 1 1 ((su p1) &&& (255 : Int32))) 1 2 (((p1.toUInt32 >>> ((8 : Int32).toUInt32 &&& Int32.toUInt32 31)).toInt32) &&& (255 : Int32))) 1 3 (((p1.toUInt32 >>> ((0 : Int32).toUInt32 &&& Int32.toUInt32 31)).toInt32) &&& (255 : Int32))) (fun M' => (wI (wI (wI (wI (wI (wI (wI (wI (wI M0 1 0 (((p1.toUInt32 >>> ((24 : Int32).toUInt32 &&& Int32.toUInt32 31)).toInt32) &&& (255 : Int32))) 0 1 8) 1 1 ((su p1) &&& (255 : Int32))) 1 2 (((p1.toUInt32 >>> ((8 : Int32).toUInt32 &&& Int32.toUInt32 31)).toInt32) &&& (255 : Int32))) 1 3 (((p1.toUInt32 >>> ((0 : Int32).toUInt32 &&& Int32.toUInt32 31)).toInt32) &&& (255 : Int32))) 1 4 (((p0.toUInt32 >>> ((24 : Int32).toUInt32 &&& Int32.toUInt32 31)).toInt32) &&& (255 : Int32))) 1 5 ((su p0) &&& (255 : Int32))) 1 6 (((p0.toUInt32 >>> ((8 : Int32).toUInt32 &&& Int32.toUInt32 31)).toInt32) &&& (255 : Int32))) 1 7 (((p0.toUInt32 >>> ((0 : Int32).toUInt32 &&& Int32.toUInt32 31)).toInt32) &&& (255 : Int32))) = M') := by
  refine cv_of (cc := cX11_putBytes) (maxL := 3) (lv := [(0, .ref (ad 0)), (1, .int p0)]) (by decide) rfl (Nat.le_of_ble_eq_true rfl) rfl ?_
  intro p e s m args below meth c A Q C hret
  refine j_bipush C 24 dX11_putBytes_0 (by decide) ?_
  refine j_istore_n C 2 [(2, .int 24), (0, .ref (ad 0)), (1, .int p0)] dX11_putBytes_2 rfl (by decide) rfl ?_
  refine j_iload_n C 0 2 dX11_putBytes_3 rfl rfl ?_
  refine j_if_lt_f C 51 dX11_putBytes_4 (by decide) (by decide) ?_
  refine j_aload_n C 1 0 dX11_putBytes_7 rfl rfl ?_
  refine j_getI C 10 4 fX11_putBytes_13 (by decide) rfl (by decide) rfl rfl dX11_putBytes_8 ?_
  refine j_aload_n C 1 0 dX11_putBytes_11 rfl rfl ?_
  refine j_getP C 10 1 fX11_putBytes_9 (by decide) rfl (by decide) rfl rfl dX11_putBytes_12 ?_
  refine j_alen C 900 (by decide) (by decide) (by decide) dX11_putBytes_15 ?_
  refine j_icmp_ge_f C 51 dX11_putBytes_16 (by decide) (by decide) ?_
  refine j_aload_n C 1 0 dX11_putBytes_19 rfl rfl ?_
  refine j_getP C 10 1 fX11_putBytes_9 (by decide) rfl (by decide) rfl rfl dX11_putBytes_20 ?_
  refine j_aload_n C 1 0 dX11_putBytes_23 rfl rfl ?_
  refine j_getI C 10 4 fX11_putBytes_13 (by decide) rfl (by decide) rfl rfl dX11_putBytes_24 ?_
  refine j_iload_n C 2 1 dX11_putBytes_27 rfl rfl ?_
  refine j_iload_n C 0 2 dX11_putBytes_28 rfl rfl ?_
  refine z_iushr C ((p0.toUInt32 >>> ((24 : Int32).toUInt32 &&& Int32.toUInt32 31)).toInt32) rfl dX11_putBytes_29 ?_
  refine j_sipush C 255 dX11_putBytes_30 (by decide) ?_
  refine z_iand C (((p0.toUInt32 >>> ((24 : Int32).toUInt32 &&& Int32.toUInt32 31)).toInt32) &&& (255 : Int32)) rfl dX11_putBytes_33 ?_
  refine x_iast C 4 900 (by decide) rfl rfl rfl (by decide) (by decide) dX11_putBytes_34 ?_
  refine j_aload_n C 1 0 dX11_putBytes_35 rfl rfl ?_
  refine j_dup C dX11_putBytes_36 rfl ?_
  refine j_getI C 10 4 fX11_putBytes_13 (by decide) rfl (by decide) rfl rfl dX11_putBytes_37 ?_
  refine j_iconst C 1 dX11_putBytes_40 (by decide) ?_
  refine z_iadd C 5 (by decide) dX11_putBytes_41 ?_
  refine j_putI C 10 qX11_putBytes_13 rfl rfl (by decide) rfl (by decide) rfl dX11_putBytes_42 ?_
  refine j_M (M' := (wI (wI (wI (wI (wI (wI M0 1 0 (((p1.toUInt32 >>> ((24 : Int32).toUInt32 &&& Int32.toUInt32 31)).toInt32) &&& (255 : Int32))) 0 1 5) 1 1 ((su p1) &&& (255 : Int32))) 1 2 (((p1.toUInt32 >>> ((8 : Int32).toUInt32 &&& Int32.toUInt32 31)).toInt32) &&& (255 : Int32))) 1 3 (((p1.toUInt32 >>> ((0 : Int32).toUInt32 &&& Int32.toUInt32 31)).toInt32) &&& (255 : Int32))) 1 4 (((p0.toUInt32 >>> ((24 : Int32).toUInt32 &&& Int32.toUInt32 31)).toInt32) &&& (255 : Int32)))) ((wI_c (by decide)).trans (congrArg (fun X => wI X 1 4 (((p0.toUInt32 >>> ((24 : Int32).toUInt32 &&& Int32.toUInt32 31)).toInt32) &&& (255 : Int32))) ((wI_c (by decide)).trans (congrArg (fun X => wI X 1 3 (((p1.toUInt32 >>> ((0 : Int32).toUInt32 &&& Int32.toUInt32 31)).toInt32) &&& (255 : Int32))) ((wI_c (by decide)).trans (congrArg (fun X => wI X 1 2 (((p1.toUInt32 >>> ((8 : Int32).toUInt32 &&& Int32.toUInt32 31)).toInt32) &&& (255 : Int32))) ((wI_c (by decide)).trans (congrArg (fun X => wI X 1 1 ((su p1) &&& (255 : Int32))) (wI_w _ _ _ _ _))))))))) ?_
  refine j_iinc C 0 16 [(2, .int 16), (0, .ref (ad 0)), (1, .int p0)] dX11_putBytes_45 rfl (by decide) (by decide) rfl ?_
  refine j_goto C 3 dX11_putBytes_48 (by decide) ?_
  refine j_iload_n C 0 2 dX11_putBytes_3 rfl rfl ?_
  refine j_if_lt_f C 51 dX11_putBytes_4 (by decide) (by decide) ?_
  refine j_aload_n C 1 0 dX11_putBytes_7 rfl rfl ?_
  refine j_getI C 10 5 fX11_putBytes_13 (by decide) rfl (by decide) rfl rfl dX11_putBytes_8 ?_
  refine j_aload_n C 1 0 dX11_putBytes_11 rfl rfl ?_
  refine j_getP C 10 1 fX11_putBytes_9 (by decide) rfl (by decide) rfl rfl dX11_putBytes_12 ?_
  refine j_alen C 900 (by decide) (by decide) (by decide) dX11_putBytes_15 ?_
  refine j_icmp_ge_f C 51 dX11_putBytes_16 (by decide) (by decide) ?_
  refine j_aload_n C 1 0 dX11_putBytes_19 rfl rfl ?_
  refine j_getP C 10 1 fX11_putBytes_9 (by decide) rfl (by decide) rfl rfl dX11_putBytes_20 ?_
  refine j_aload_n C 1 0 dX11_putBytes_23 rfl rfl ?_
  refine j_getI C 10 5 fX11_putBytes_13 (by decide) rfl (by decide) rfl rfl dX11_putBytes_24 ?_
  refine j_iload_n C 2 1 dX11_putBytes_27 rfl rfl ?_
  refine j_iload_n C 0 2 dX11_putBytes_28 rfl rfl ?_
  refine z_iushr C (su p0) rfl dX11_putBytes_29 ?_
  refine j_sipush C 255 dX11_putBytes_30 (by decide) ?_
  refine z_iand C ((su p0) &&& (255 : Int32)) rfl dX11_putBytes_33 ?_
  refine x_iast C 5 900 (by decide) rfl rfl rfl (by decide) (by decide) dX11_putBytes_34 ?_
  refine j_aload_n C 1 0 dX11_putBytes_35 rfl rfl ?_
  refine j_dup C dX11_putBytes_36 rfl ?_
  refine j_getI C 10 5 fX11_putBytes_13 (by decide) rfl (by decide) rfl rfl dX11_putBytes_37 ?_
  refine j_iconst C 1 dX11_putBytes_40 (by decide) ?_
  refine z_iadd C 6 (by decide) dX11_putBytes_41 ?_
  refine j_putI C 10 qX11_putBytes_13 rfl rfl (by decide) rfl (by decide) rfl dX11_putBytes_42 ?_
  refine j_M (M' := (wI (wI (wI (wI (wI (wI (wI M0 1 0 (((p1.toUInt32 >>> ((24 : Int32).toUInt32 &&& Int32.toUInt32 31)).toInt32) &&& (255 : Int32))) 0 1 6) 1 1 ((su p1) &&& (255 : Int32))) 1 2 (((p1.toUInt32 >>> ((8 : Int32).toUInt32 &&& Int32.toUInt32 31)).toInt32) &&& (255 : Int32))) 1 3 (((p1.toUInt32 >>> ((0 : Int32).toUInt32 &&& Int32.toUInt32 31)).toInt32) &&& (255 : Int32))) 1 4 (((p0.toUInt32 >>> ((24 : Int32).toUInt32 &&& Int32.toUInt32 31)).toInt32) &&& (255 : Int32))) 1 5 ((su p0) &&& (255 : Int32)))) ((wI_c (by decide)).trans (congrArg (fun X => wI X 1 5 ((su p0) &&& (255 : Int32))) ((wI_c (by decide)).trans (congrArg (fun X => wI X 1 4 (((p0.toUInt32 >>> ((24 : Int32).toUInt32 &&& Int32.toUInt32 31)).toInt32) &&& (255 : Int32))) ((wI_c (by decide)).trans (congrArg (fun X => wI X 1 3 (((p1.toUInt32 >>> ((0 : Int32).toUInt32 &&& Int32.toUInt32 31)).toInt32) &&& (255 : Int32))) ((wI_c (by decide)).trans (congrArg (fun X => wI X 1 2 (((p1.toUInt32 >>> ((8 : Int32).toUInt32 &&& Int32.toUInt32 31)).toInt32) &&& (255 : Int32))) ((wI_c (by decide)).trans (congrArg (fun X => wI X 1 1 ((su p1) &&& (255 : Int32))) (wI_w _ _ _ _ _))))))))))) ?_
  refine j_iinc C 0 8 [(2, .int 8), (0, .ref (ad 0)), (1, .int p0)] dX11_putBytes_45 rfl (by decide) (by decide) rfl ?_
  refine j_goto C 3 dX11_putBytes_48 (by decide) ?_
  refine j_iload_n C 0 2 dX11_putBytes_3 rfl rfl ?_
  refine j_if_lt_f C 51 dX11_putBytes_4 (by decide) (by decide) ?_
  refine j_aload_n C 1 0 dX11_putBytes_7 rfl rfl ?_
  refine j_getI C 10 6 fX11_putBytes_13 (by decide) rfl (by decide) rfl rfl dX11_putBytes_8 ?_
  refine j_aload_n C 1 0 dX11_putBytes_11 rfl rfl ?_
  refine j_getP C 10 1 fX11_putBytes_9 (by decide) rfl (by decide) rfl rfl dX11_putBytes_12 ?_
  refine j_alen C 900 (by decide) (by decide) (by decide) dX11_putBytes_15 ?_
  refine j_icmp_ge_f C 51 dX11_putBytes_16 (by decide) (by decide) ?_
  refine j_aload_n C 1 0 dX11_putBytes_19 rfl rfl ?_
  refine j_getP C 10 1 fX11_putBytes_9 (by decide) rfl (by decide) rfl rfl dX11_putBytes_20 ?_
  refine j_aload_n C 1 0 dX11_putBytes_23 rfl rfl ?_
  refine j_getI C 10 6 fX11_putBytes_13 (by decide) rfl (by decide) rfl rfl dX11_putBytes_24 ?_
  refine j_iload_n C 2 1 dX11_putBytes_27 rfl rfl ?_
  refine j_iload_n C 0 2 dX11_putBytes_28 rfl rfl ?_
  refine z_iushr C ((p0.toUInt32 >>> ((8 : Int32).toUInt32 &&& Int32.toUInt32 31)).toInt32) rfl dX11_putBytes_29 ?_
  refine j_sipush C 255 dX11_putBytes_30 (by decide) ?_
  refine z_iand C (((p0.toUInt32 >>> ((8 : Int32).toUInt32 &&& Int32.toUInt32 31)).toInt32) &&& (255 : Int32)) rfl dX11_putBytes_33 ?_
  refine x_iast C 6 900 (by decide) rfl rfl rfl (by decide) (by decide) dX11_putBytes_34 ?_
  refine j_aload_n C 1 0 dX11_putBytes_35 rfl rfl ?_
  refine j_dup C dX11_putBytes_36 rfl ?_
  refine j_getI C 10 6 fX11_putBytes_13 (by decide) rfl (by decide) rfl rfl dX11_putBytes_37 ?_
  refine j_iconst C 1 dX11_putBytes_40 (by decide) ?_
  refine z_iadd C 7 (by decide) dX11_putBytes_41 ?_
  refine j_putI C 10 qX11_putBytes_13 rfl rfl (by decide) rfl (by decide) rfl dX11_putBytes_42 ?_
  refine j_M (M' := (wI (wI (wI (wI (wI (wI (wI (wI M0 1 0 (((p1.toUInt32 >>> ((24 : Int32).toUInt32 &&& Int32.toUInt32 31)).toInt32) &&& (255 : Int32))) 0 1 7) 1 1 ((su p1) &&& (255 : Int32))) 1 2 (((p1.toUInt32 >>> ((8 : Int32).toUInt32 &&& Int32.toUInt32 31)).toInt32) &&& (255 : Int32))) 1 3 (((p1.toUInt32 >>> ((0 : Int32).toUInt32 &&& Int32.toUInt32 31)).toInt32) &&& (255 : Int32))) 1 4 (((p0.toUInt32 >>> ((24 : Int32).toUInt32 &&& Int32.toUInt32 31)).toInt32) &&& (255 : Int32))) 1 5 ((su p0) &&& (255 : Int32))) 1 6 (((p0.toUInt32 >>> ((8 : Int32).toUInt32 &&& Int32.toUInt32 31)).toInt32) &&& (255 : Int32)))) ((wI_c (by decide)).trans (congrArg (fun X => wI X 1 6 (((p0.toUInt32 >>> ((8 : Int32).toUInt32 &&& Int32.toUInt32 31)).toInt32) &&& (255 : Int32))) ((wI_c (by decide)).trans (congrArg (fun X => wI X 1 5 ((su p0) &&& (255 : Int32))) ((wI_c (by decide)).trans (congrArg (fun X => wI X 1 4 (((p0.toUInt32 >>> ((24 : Int32).toUInt32 &&& Int32.toUInt32 31)).toInt32) &&& (255 : Int32))) ((wI_c (by decide)).trans (congrArg (fun X => wI X 1 3 (((p1.toUInt32 >>> ((0 : Int32).toUInt32 &&& Int32.toUInt32 31)).toInt32) &&& (255 : Int32))) ((wI_c (by decide)).trans (congrArg (fun X => wI X 1 2 (((p1.toUInt32 >>> ((8 : Int32).toUInt32 &&& Int32.toUInt32 31)).toInt32) &&& (255 : Int32))) ((wI_c (by decide)).trans (congrArg (fun X => wI X 1 1 ((su p1) &&& (255 : Int32))) (wI_w _ _ _ _ _))))))))))))) ?_
  refine j_iinc C 0 0 [(2, .int 0), (0, .ref (ad 0)), (1, .int p0)] dX11_putBytes_45 rfl (by decide) (by decide) rfl ?_
  refine j_goto C 3 dX11_putBytes_48 (by decide) ?_
  refine j_iload_n C 0 2 dX11_putBytes_3 rfl rfl ?_
  refine j_if_lt_f C 51 dX11_putBytes_4 (by decide) (by decide) ?_
  refine j_aload_n C 1 0 dX11_putBytes_7 rfl rfl ?_
  refine j_getI C 10 7 fX11_putBytes_13 (by decide) rfl (by decide) rfl rfl dX11_putBytes_8 ?_
  refine j_aload_n C 1 0 dX11_putBytes_11 rfl rfl ?_
  refine j_getP C 10 1 fX11_putBytes_9 (by decide) rfl (by decide) rfl rfl dX11_putBytes_12 ?_
  refine j_alen C 900 (by decide) (by decide) (by decide) dX11_putBytes_15 ?_
  refine j_icmp_ge_f C 51 dX11_putBytes_16 (by decide) (by decide) ?_
  refine j_aload_n C 1 0 dX11_putBytes_19 rfl rfl ?_
  refine j_getP C 10 1 fX11_putBytes_9 (by decide) rfl (by decide) rfl rfl dX11_putBytes_20 ?_
  refine j_aload_n C 1 0 dX11_putBytes_23 rfl rfl ?_
  refine j_getI C 10 7 fX11_putBytes_13 (by decide) rfl (by decide) rfl rfl dX11_putBytes_24 ?_
  refine j_iload_n C 2 1 dX11_putBytes_27 rfl rfl ?_
  refine j_iload_n C 0 2 dX11_putBytes_28 rfl rfl ?_
  refine z_iushr C ((p0.toUInt32 >>> ((0 : Int32).toUInt32 &&& Int32.toUInt32 31)).toInt32) rfl dX11_putBytes_29 ?_
  refine j_sipush C 255 dX11_putBytes_30 (by decide) ?_
  refine z_iand C (((p0.toUInt32 >>> ((0 : Int32).toUInt32 &&& Int32.toUInt32 31)).toInt32) &&& (255 : Int32)) rfl dX11_putBytes_33 ?_
  refine x_iast C 7 900 (by decide) rfl rfl rfl (by decide) (by decide) dX11_putBytes_34 ?_
  refine j_aload_n C 1 0 dX11_putBytes_35 rfl rfl ?_
  refine j_dup C dX11_putBytes_36 rfl ?_
  refine j_getI C 10 7 fX11_putBytes_13 (by decide) rfl (by decide) rfl rfl dX11_putBytes_37 ?_
  refine j_iconst C 1 dX11_putBytes_40 (by decide) ?_
  refine z_iadd C 8 (by decide) dX11_putBytes_41 ?_
  refine j_putI C 10 qX11_putBytes_13 rfl rfl (by decide) rfl (by decide) rfl dX11_putBytes_42 ?_
  refine j_M (M' := (wI (wI (wI (wI (wI (wI (wI (wI (wI M0 1 0 (((p1.toUInt32 >>> ((24 : Int32).toUInt32 &&& Int32.toUInt32 31)).toInt32) &&& (255 : Int32))) 0 1 8) 1 1 ((su p1) &&& (255 : Int32))) 1 2 (((p1.toUInt32 >>> ((8 : Int32).toUInt32 &&& Int32.toUInt32 31)).toInt32) &&& (255 : Int32))) 1 3 (((p1.toUInt32 >>> ((0 : Int32).toUInt32 &&& Int32.toUInt32 31)).toInt32) &&& (255 : Int32))) 1 4 (((p0.toUInt32 >>> ((24 : Int32).toUInt32 &&& Int32.toUInt32 31)).toInt32) &&& (255 : Int32))) 1 5 ((su p0) &&& (255 : Int32))) 1 6 (((p0.toUInt32 >>> ((8 : Int32).toUInt32 &&& Int32.toUInt32 31)).toInt32) &&& (255 : Int32))) 1 7 (((p0.toUInt32 >>> ((0 : Int32).toUInt32 &&& Int32.toUInt32 31)).toInt32) &&& (255 : Int32)))) ((wI_c (by decide)).trans (congrArg (fun X => wI X 1 7 (((p0.toUInt32 >>> ((0 : Int32).toUInt32 &&& Int32.toUInt32 31)).toInt32) &&& (255 : Int32))) ((wI_c (by decide)).trans (congrArg (fun X => wI X 1 6 (((p0.toUInt32 >>> ((8 : Int32).toUInt32 &&& Int32.toUInt32 31)).toInt32) &&& (255 : Int32))) ((wI_c (by decide)).trans (congrArg (fun X => wI X 1 5 ((su p0) &&& (255 : Int32))) ((wI_c (by decide)).trans (congrArg (fun X => wI X 1 4 (((p0.toUInt32 >>> ((24 : Int32).toUInt32 &&& Int32.toUInt32 31)).toInt32) &&& (255 : Int32))) ((wI_c (by decide)).trans (congrArg (fun X => wI X 1 3 (((p1.toUInt32 >>> ((0 : Int32).toUInt32 &&& Int32.toUInt32 31)).toInt32) &&& (255 : Int32))) ((wI_c (by decide)).trans (congrArg (fun X => wI X 1 2 (((p1.toUInt32 >>> ((8 : Int32).toUInt32 &&& Int32.toUInt32 31)).toInt32) &&& (255 : Int32))) ((wI_c (by decide)).trans (congrArg (fun X => wI X 1 1 ((su p1) &&& (255 : Int32))) (wI_w _ _ _ _ _))))))))))))))) ?_
  refine j_iinc C 0 (-8) [(2, .int (-8)), (0, .ref (ad 0)), (1, .int p0)] dX11_putBytes_45 rfl (by decide) (by decide) rfl ?_
  refine j_goto C 3 dX11_putBytes_48 (by decide) ?_
  refine j_iload_n C 0 2 dX11_putBytes_3 rfl rfl ?_
  refine j_if_lt_t C 51 dX11_putBytes_4 (by decide) (by decide) ?_
  exact hret _ _ _ dX11_putBytes_51 rfl
set_option maxHeartbeats 4000000 in
set_option maxRecDepth 100000 in
theorem k3_X11_putBytes {l : Launch} {dC : Nat → ClassId} {dI : Nat → Nat → Nat} {ad : Nat → Nat} {cA : Nat → ClassId} (p0 : Int32) (p1 : Int32) (p2 : Int32) : Cv l 0 yX11_putBytes wsX11_putBytes dC dI ad cA [.ref (ad 0), .int p0] (wI (wI (wI (wI (wI (wI (wI (wI (wI M0 1 0 (((p1.toUInt32 >>> ((24 : Int32).toUInt32 &&& Int32.toUInt32 31)).toInt32) &&& (255 : Int32))) 0 1 8) 1 1 ((su p1) &&& (255 : Int32))) 1 2 (((p1.toUInt32 >>> ((8 : Int32).toUInt32 &&& Int32.toUInt32 31)).toInt32) &&& (255 : Int32))) 1 3 (((p1.toUInt32 >>> ((0 : Int32).toUInt32 &&& Int32.toUInt32 31)).toInt32) &&& (255 : Int32))) 1 4 (((p2.toUInt32 >>> ((24 : Int32).toUInt32 &&& Int32.toUInt32 31)).toInt32) &&& (255 : Int32))) 1 5 ((su p2) &&& (255 : Int32))) 1 6 (((p2.toUInt32 >>> ((8 : Int32).toUInt32 &&& Int32.toUInt32 31)).toInt32) &&& (255 : Int32))) 1 7 (((p2.toUInt32 >>> ((0 : Int32).toUInt32 &&& Int32.toUInt32 31)).toInt32) &&& (255 : Int32))) (fun M' => (wI (wI (wI (wI (wI (wI (wI (wI (wI (wI (wI (wI (wI M0 1 0 (((p1.toUInt32 >>> ((24 : Int32).toUInt32 &&& Int32.toUInt32 31)).toInt32) &&& (255 : Int32))) 0 1 12) 1 1 ((su p1) &&& (255 : Int32))) 1 2 (((p1.toUInt32 >>> ((8 : Int32).toUInt32 &&& Int32.toUInt32 31)).toInt32) &&& (255 : Int32))) 1 3 (((p1.toUInt32 >>> ((0 : Int32).toUInt32 &&& Int32.toUInt32 31)).toInt32) &&& (255 : Int32))) 1 4 (((p2.toUInt32 >>> ((24 : Int32).toUInt32 &&& Int32.toUInt32 31)).toInt32) &&& (255 : Int32))) 1 5 ((su p2) &&& (255 : Int32))) 1 6 (((p2.toUInt32 >>> ((8 : Int32).toUInt32 &&& Int32.toUInt32 31)).toInt32) &&& (255 : Int32))) 1 7 (((p2.toUInt32 >>> ((0 : Int32).toUInt32 &&& Int32.toUInt32 31)).toInt32) &&& (255 : Int32))) 1 8 (((p0.toUInt32 >>> ((24 : Int32).toUInt32 &&& Int32.toUInt32 31)).toInt32) &&& (255 : Int32))) 1 9 ((su p0) &&& (255 : Int32))) 1 10 (((p0.toUInt32 >>> ((8 : Int32).toUInt32 &&& Int32.toUInt32 31)).toInt32) &&& (255 : Int32))) 1 11 (((p0.toUInt32 >>> ((0 : Int32).toUInt32 &&& Int32.toUInt32 31)).toInt32) &&& (255 : Int32))) = M') := by
  refine cv_of (cc := cX11_putBytes) (maxL := 3) (lv := [(0, .ref (ad 0)), (1, .int p0)]) (by decide) rfl (Nat.le_of_ble_eq_true rfl) rfl ?_
  intro p e s m args below meth c A Q C hret
  refine j_bipush C 24 dX11_putBytes_0 (by decide) ?_
  refine j_istore_n C 2 [(2, .int 24), (0, .ref (ad 0)), (1, .int p0)] dX11_putBytes_2 rfl (by decide) rfl ?_
  refine j_iload_n C 0 2 dX11_putBytes_3 rfl rfl ?_
  refine j_if_lt_f C 51 dX11_putBytes_4 (by decide) (by decide) ?_
  refine j_aload_n C 1 0 dX11_putBytes_7 rfl rfl ?_
  refine j_getI C 10 8 fX11_putBytes_13 (by decide) rfl (by decide) rfl rfl dX11_putBytes_8 ?_
  refine j_aload_n C 1 0 dX11_putBytes_11 rfl rfl ?_
  refine j_getP C 10 1 fX11_putBytes_9 (by decide) rfl (by decide) rfl rfl dX11_putBytes_12 ?_
  refine j_alen C 900 (by decide) (by decide) (by decide) dX11_putBytes_15 ?_
  refine j_icmp_ge_f C 51 dX11_putBytes_16 (by decide) (by decide) ?_
  refine j_aload_n C 1 0 dX11_putBytes_19 rfl rfl ?_
  refine j_getP C 10 1 fX11_putBytes_9 (by decide) rfl (by decide) rfl rfl dX11_putBytes_20 ?_
  refine j_aload_n C 1 0 dX11_putBytes_23 rfl rfl ?_
  refine j_getI C 10 8 fX11_putBytes_13 (by decide) rfl (by decide) rfl rfl dX11_putBytes_24 ?_
  refine j_iload_n C 2 1 dX11_putBytes_27 rfl rfl ?_
  refine j_iload_n C 0 2 dX11_putBytes_28 rfl rfl ?_
  refine z_iushr C ((p0.toUInt32 >>> ((24 : Int32).toUInt32 &&& Int32.toUInt32 31)).toInt32) rfl dX11_putBytes_29 ?_
  refine j_sipush C 255 dX11_putBytes_30 (by decide) ?_
  refine z_iand C (((p0.toUInt32 >>> ((24 : Int32).toUInt32 &&& Int32.toUInt32 31)).toInt32) &&& (255 : Int32)) rfl dX11_putBytes_33 ?_
  refine x_iast C 8 900 (by decide) rfl rfl rfl (by decide) (by decide) dX11_putBytes_34 ?_
  refine j_aload_n C 1 0 dX11_putBytes_35 rfl rfl ?_
  refine j_dup C dX11_putBytes_36 rfl ?_
  refine j_getI C 10 8 fX11_putBytes_13 (by decide) rfl (by decide) rfl rfl dX11_putBytes_37 ?_
  refine j_iconst C 1 dX11_putBytes_40 (by decide) ?_
  refine z_iadd C 9 (by decide) dX11_putBytes_41 ?_
  refine j_putI C 10 qX11_putBytes_13 rfl rfl (by decide) rfl (by decide) rfl dX11_putBytes_42 ?_
  refine j_M (M' := (wI (wI (wI (wI (wI (wI (wI (wI (wI (wI M0 1 0 (((p1.toUInt32 >>> ((24 : Int32).toUInt32 &&& Int32.toUInt32 31)).toInt32) &&& (255 : Int32))) 0 1 9) 1 1 ((su p1) &&& (255 : Int32))) 1 2 (((p1.toUInt32 >>> ((8 : Int32).toUInt32 &&& Int32.toUInt32 31)).toInt32) &&& (255 : Int32))) 1 3 (((p1.toUInt32 >>> ((0 : Int32).toUInt32 &&& Int32.toUInt32 31)).toInt32) &&& (255 : Int32))) 1 4 (((p2.toUInt32 >>> ((24 : Int32).toUInt32 &&& Int32.toUInt32 31)).toInt32) &&& (255 : Int32))) 1 5 ((su p2) &&& (255 : Int32))) 1 6 (((p2.toUInt32 >>> ((8 : Int32).toUInt32 &&& Int32.toUInt32 31)).toInt32) &&& (255 : Int32))) 1 7 (((p2.toUInt32 >>> ((0 : Int32).toUInt32 &&& Int32.toUInt32 31)).toInt32) &&& (255 : Int32))) 1 8 (((p0.toUInt32 >>> ((24 : Int32).toUInt32 &&& Int32.toUInt32 31)).toInt32) &&& (255 : Int32)))) ((wI_c (by decide)).trans (congrArg (fun X => wI X 1 8 (((p0.toUInt32 >>> ((24 : Int32).toUInt32 &&& Int32.toUInt32 31)).toInt32) &&& (255 : Int32))) ((wI_c (by decide)).trans (congrArg (fun X => wI X 1 7 (((p2.toUInt32 >>> ((0 : Int32).toUInt32 &&& Int32.toUInt32 31)).toInt32) &&& (255 : Int32))) ((wI_c (by decide)).trans (congrArg (fun X => wI X 1 6 (((p2.toUInt32 >>> ((8 : Int32).toUInt32 &&& Int32.toUInt32 31)).toInt32) &&& (255 : Int32))) ((wI_c (by decide)).trans (congrArg (fun X => wI X 1 5 ((su p2) &&& (255 : Int32))) ((wI_c (by decide)).trans (congrArg (fun X => wI X 1 4 (((p2.toUInt32 >>> ((24 : Int32).toUInt32 &&& Int32.toUInt32 31)).toInt32) &&& (255 : Int32))) ((wI_c (by decide)).trans (congrArg (fun X => wI X 1 3 (((p1.toUInt32 >>> ((0 : Int32).toUInt32 &&& Int32.toUInt32 31)).toInt32) &&& (255 : Int32))) ((wI_c (by decide)).trans (congrArg (fun X => wI X 1 2 (((p1.toUInt32 >>> ((8 : Int32).toUInt32 &&& Int32.toUInt32 31)).toInt32) &&& (255 : Int32))) ((wI_c (by decide)).trans (congrArg (fun X => wI X 1 1 ((su p1) &&& (255 : Int32))) (wI_w _ _ _ _ _))))))))))))))))) ?_
  refine j_iinc C 0 16 [(2, .int 16), (0, .ref (ad 0)), (1, .int p0)] dX11_putBytes_45 rfl (by decide) (by decide) rfl ?_
  refine j_goto C 3 dX11_putBytes_48 (by decide) ?_
  refine j_iload_n C 0 2 dX11_putBytes_3 rfl rfl ?_
  refine j_if_lt_f C 51 dX11_putBytes_4 (by decide) (by decide) ?_
  refine j_aload_n C 1 0 dX11_putBytes_7 rfl rfl ?_
  refine j_getI C 10 9 fX11_putBytes_13 (by decide) rfl (by decide) rfl rfl dX11_putBytes_8 ?_
  refine j_aload_n C 1 0 dX11_putBytes_11 rfl rfl ?_
  refine j_getP C 10 1 fX11_putBytes_9 (by decide) rfl (by decide) rfl rfl dX11_putBytes_12 ?_
  refine j_alen C 900 (by decide) (by decide) (by decide) dX11_putBytes_15 ?_
  refine j_icmp_ge_f C 51 dX11_putBytes_16 (by decide) (by decide) ?_
  refine j_aload_n C 1 0 dX11_putBytes_19 rfl rfl ?_
  refine j_getP C 10 1 fX11_putBytes_9 (by decide) rfl (by decide) rfl rfl dX11_putBytes_20 ?_
  refine j_aload_n C 1 0 dX11_putBytes_23 rfl rfl ?_
  refine j_getI C 10 9 fX11_putBytes_13 (by decide) rfl (by decide) rfl rfl dX11_putBytes_24 ?_
  refine j_iload_n C 2 1 dX11_putBytes_27 rfl rfl ?_
  refine j_iload_n C 0 2 dX11_putBytes_28 rfl rfl ?_
  refine z_iushr C (su p0) rfl dX11_putBytes_29 ?_
  refine j_sipush C 255 dX11_putBytes_30 (by decide) ?_
  refine z_iand C ((su p0) &&& (255 : Int32)) rfl dX11_putBytes_33 ?_
  refine x_iast C 9 900 (by decide) rfl rfl rfl (by decide) (by decide) dX11_putBytes_34 ?_
  refine j_aload_n C 1 0 dX11_putBytes_35 rfl rfl ?_
  refine j_dup C dX11_putBytes_36 rfl ?_
  refine j_getI C 10 9 fX11_putBytes_13 (by decide) rfl (by decide) rfl rfl dX11_putBytes_37 ?_
  refine j_iconst C 1 dX11_putBytes_40 (by decide) ?_
  refine z_iadd C 10 (by decide) dX11_putBytes_41 ?_
  refine j_putI C 10 qX11_putBytes_13 rfl rfl (by decide) rfl (by decide) rfl dX11_putBytes_42 ?_
  refine j_M (M' := (wI (wI (wI (wI (wI (wI (wI (wI (wI (wI (wI M0 1 0 (((p1.toUInt32 >>> ((24 : Int32).toUInt32 &&& Int32.toUInt32 31)).toInt32) &&& (255 : Int32))) 0 1 10) 1 1 ((su p1) &&& (255 : Int32))) 1 2 (((p1.toUInt32 >>> ((8 : Int32).toUInt32 &&& Int32.toUInt32 31)).toInt32) &&& (255 : Int32))) 1 3 (((p1.toUInt32 >>> ((0 : Int32).toUInt32 &&& Int32.toUInt32 31)).toInt32) &&& (255 : Int32))) 1 4 (((p2.toUInt32 >>> ((24 : Int32).toUInt32 &&& Int32.toUInt32 31)).toInt32) &&& (255 : Int32))) 1 5 ((su p2) &&& (255 : Int32))) 1 6 (((p2.toUInt32 >>> ((8 : Int32).toUInt32 &&& Int32.toUInt32 31)).toInt32) &&& (255 : Int32))) 1 7 (((p2.toUInt32 >>> ((0 : Int32).toUInt32 &&& Int32.toUInt32 31)).toInt32) &&& (255 : Int32))) 1 8 (((p0.toUInt32 >>> ((24 : Int32).toUInt32 &&& Int32.toUInt32 31)).toInt32) &&& (255 : Int32))) 1 9 ((su p0) &&& (255 : Int32)))) ((wI_c (by decide)).trans (congrArg (fun X => wI X 1 9 ((su p0) &&& (255 : Int32))) ((wI_c (by decide)).trans (congrArg (fun X => wI X 1 8 (((p0.toUInt32 >>> ((24 : Int32).toUInt32 &&& Int32.toUInt32 31)).toInt32) &&& (255 : Int32))) ((wI_c (by decide)).trans (congrArg (fun X => wI X 1 7 (((p2.toUInt32 >>> ((0 : Int32).toUInt32 &&& Int32.toUInt32 31)).toInt32) &&& (255 : Int32))) ((wI_c (by decide)).trans (congrArg (fun X => wI X 1 6 (((p2.toUInt32 >>> ((8 : Int32).toUInt32 &&& Int32.toUInt32 31)).toInt32) &&& (255 : Int32))) ((wI_c (by decide)).trans (congrArg (fun X => wI X 1 5 ((su p2) &&& (255 : Int32))) ((wI_c (by decide)).trans (congrArg (fun X => wI X 1 4 (((p2.toUInt32 >>> ((24 : Int32).toUInt32 &&& Int32.toUInt32 31)).toInt32) &&& (255 : Int32))) ((wI_c (by decide)).trans (congrArg (fun X => wI X 1 3 (((p1.toUInt32 >>> ((0 : Int32).toUInt32 &&& Int32.toUInt32 31)).toInt32) &&& (255 : Int32))) ((wI_c (by decide)).trans (congrArg (fun X => wI X 1 2 (((p1.toUInt32 >>> ((8 : Int32).toUInt32 &&& Int32.toUInt32 31)).toInt32) &&& (255 : Int32))) ((wI_c (by decide)).trans (congrArg (fun X => wI X 1 1 ((su p1) &&& (255 : Int32))) (wI_w _ _ _ _ _))))))))))))))))))) ?_
  refine j_iinc C 0 8 [(2, .int 8), (0, .ref (ad 0)), (1, .int p0)] dX11_putBytes_45 rfl (by decide) (by decide) rfl ?_
  refine j_goto C 3 dX11_putBytes_48 (by decide) ?_
  refine j_iload_n C 0 2 dX11_putBytes_3 rfl rfl ?_
  refine j_if_lt_f C 51 dX11_putBytes_4 (by decide) (by decide) ?_
  refine j_aload_n C 1 0 dX11_putBytes_7 rfl rfl ?_
  refine j_getI C 10 10 fX11_putBytes_13 (by decide) rfl (by decide) rfl rfl dX11_putBytes_8 ?_
  refine j_aload_n C 1 0 dX11_putBytes_11 rfl rfl ?_
  refine j_getP C 10 1 fX11_putBytes_9 (by decide) rfl (by decide) rfl rfl dX11_putBytes_12 ?_
  refine j_alen C 900 (by decide) (by decide) (by decide) dX11_putBytes_15 ?_
  refine j_icmp_ge_f C 51 dX11_putBytes_16 (by decide) (by decide) ?_
  refine j_aload_n C 1 0 dX11_putBytes_19 rfl rfl ?_
  refine j_getP C 10 1 fX11_putBytes_9 (by decide) rfl (by decide) rfl rfl dX11_putBytes_20 ?_
  refine j_aload_n C 1 0 dX11_putBytes_23 rfl rfl ?_
  refine j_getI C 10 10 fX11_putBytes_13 (by decide) rfl (by decide) rfl rfl dX11_putBytes_24 ?_
  refine j_iload_n C 2 1 dX11_putBytes_27 rfl rfl ?_
  refine j_iload_n C 0 2 dX11_putBytes_28 rfl rfl ?_
  refine z_iushr C ((p0.toUInt32 >>> ((8 : Int32).toUInt32 &&& Int32.toUInt32 31)).toInt32) rfl dX11_putBytes_29 ?_
  refine j_sipush C 255 dX11_putBytes_30 (by decide) ?_
  refine z_iand C (((p0.toUInt32 >>> ((8 : Int32).toUInt32 &&& Int32.toUInt32 31)).toInt32) &&& (255 : Int32)) rfl dX11_putBytes_33 ?_
  refine x_iast C 10 900 (by decide) rfl rfl rfl (by decide) (by decide) dX11_putBytes_34 ?_
  refine j_aload_n C 1 0 dX11_putBytes_35 rfl rfl ?_
  refine j_dup C dX11_putBytes_36 rfl ?_
  refine j_getI C 10 10 fX11_putBytes_13 (by decide) rfl (by decide) rfl rfl dX11_putBytes_37 ?_
  refine j_iconst C 1 dX11_putBytes_40 (by decide) ?_
  refine z_iadd C 11 (by decide) dX11_putBytes_41 ?_
  refine j_putI C 10 qX11_putBytes_13 rfl rfl (by decide) rfl (by decide) rfl dX11_putBytes_42 ?_
  refine j_M (M' := (wI (wI (wI (wI (wI (wI (wI (wI (wI (wI (wI (wI M0 1 0 (((p1.toUInt32 >>> ((24 : Int32).toUInt32 &&& Int32.toUInt32 31)).toInt32) &&& (255 : Int32))) 0 1 11) 1 1 ((su p1) &&& (255 : Int32))) 1 2 (((p1.toUInt32 >>> ((8 : Int32).toUInt32 &&& Int32.toUInt32 31)).toInt32) &&& (255 : Int32))) 1 3 (((p1.toUInt32 >>> ((0 : Int32).toUInt32 &&& Int32.toUInt32 31)).toInt32) &&& (255 : Int32))) 1 4 (((p2.toUInt32 >>> ((24 : Int32).toUInt32 &&& Int32.toUInt32 31)).toInt32) &&& (255 : Int32))) 1 5 ((su p2) &&& (255 : Int32))) 1 6 (((p2.toUInt32 >>> ((8 : Int32).toUInt32 &&& Int32.toUInt32 31)).toInt32) &&& (255 : Int32))) 1 7 (((p2.toUInt32 >>> ((0 : Int32).toUInt32 &&& Int32.toUInt32 31)).toInt32) &&& (255 : Int32))) 1 8 (((p0.toUInt32 >>> ((24 : Int32).toUInt32 &&& Int32.toUInt32 31)).toInt32) &&& (255 : Int32))) 1 9 ((su p0) &&& (255 : Int32))) 1 10 (((p0.toUInt32 >>> ((8 : Int32).toUInt32 &&& Int32.toUInt32 31)).toInt32) &&& (255 : Int32)))) ((wI_c (by decide)).trans (congrArg (fun X => wI X 1 10 (((p0.toUInt32 >>> ((8 : Int32).toUInt32 &&& Int32.toUInt32 31)).toInt32) &&& (255 : Int32))) ((wI_c (by decide)).trans (congrArg (fun X => wI X 1 9 ((su p0) &&& (255 : Int32))) ((wI_c (by decide)).trans (congrArg (fun X => wI X 1 8 (((p0.toUInt32 >>> ((24 : Int32).toUInt32 &&& Int32.toUInt32 31)).toInt32) &&& (255 : Int32))) ((wI_c (by decide)).trans (congrArg (fun X => wI X 1 7 (((p2.toUInt32 >>> ((0 : Int32).toUInt32 &&& Int32.toUInt32 31)).toInt32) &&& (255 : Int32))) ((wI_c (by decide)).trans (congrArg (fun X => wI X 1 6 (((p2.toUInt32 >>> ((8 : Int32).toUInt32 &&& Int32.toUInt32 31)).toInt32) &&& (255 : Int32))) ((wI_c (by decide)).trans (congrArg (fun X => wI X 1 5 ((su p2) &&& (255 : Int32))) ((wI_c (by decide)).trans (congrArg (fun X => wI X 1 4 (((p2.toUInt32 >>> ((24 : Int32).toUInt32 &&& Int32.toUInt32 31)).toInt32) &&& (255 : Int32))) ((wI_c (by decide)).trans (congrArg (fun X => wI X 1 3 (((p1.toUInt32 >>> ((0 : Int32).toUInt32 &&& Int32.toUInt32 31)).toInt32) &&& (255 : Int32))) ((wI_c (by decide)).trans (congrArg (fun X => wI X 1 2 (((p1.toUInt32 >>> ((8 : Int32).toUInt32 &&& Int32.toUInt32 31)).toInt32) &&& (255 : Int32))) ((wI_c (by decide)).trans (congrArg (fun X => wI X 1 1 ((su p1) &&& (255 : Int32))) (wI_w _ _ _ _ _))))))))))))))))))))) ?_
  refine j_iinc C 0 0 [(2, .int 0), (0, .ref (ad 0)), (1, .int p0)] dX11_putBytes_45 rfl (by decide) (by decide) rfl ?_
  refine j_goto C 3 dX11_putBytes_48 (by decide) ?_
  refine j_iload_n C 0 2 dX11_putBytes_3 rfl rfl ?_
  refine j_if_lt_f C 51 dX11_putBytes_4 (by decide) (by decide) ?_
  refine j_aload_n C 1 0 dX11_putBytes_7 rfl rfl ?_
  refine j_getI C 10 11 fX11_putBytes_13 (by decide) rfl (by decide) rfl rfl dX11_putBytes_8 ?_
  refine j_aload_n C 1 0 dX11_putBytes_11 rfl rfl ?_
  refine j_getP C 10 1 fX11_putBytes_9 (by decide) rfl (by decide) rfl rfl dX11_putBytes_12 ?_
  refine j_alen C 900 (by decide) (by decide) (by decide) dX11_putBytes_15 ?_
  refine j_icmp_ge_f C 51 dX11_putBytes_16 (by decide) (by decide) ?_
  refine j_aload_n C 1 0 dX11_putBytes_19 rfl rfl ?_
  refine j_getP C 10 1 fX11_putBytes_9 (by decide) rfl (by decide) rfl rfl dX11_putBytes_20 ?_
  refine j_aload_n C 1 0 dX11_putBytes_23 rfl rfl ?_
  refine j_getI C 10 11 fX11_putBytes_13 (by decide) rfl (by decide) rfl rfl dX11_putBytes_24 ?_
  refine j_iload_n C 2 1 dX11_putBytes_27 rfl rfl ?_
  refine j_iload_n C 0 2 dX11_putBytes_28 rfl rfl ?_
  refine z_iushr C ((p0.toUInt32 >>> ((0 : Int32).toUInt32 &&& Int32.toUInt32 31)).toInt32) rfl dX11_putBytes_29 ?_
  refine j_sipush C 255 dX11_putBytes_30 (by decide) ?_
  refine z_iand C (((p0.toUInt32 >>> ((0 : Int32).toUInt32 &&& Int32.toUInt32 31)).toInt32) &&& (255 : Int32)) rfl dX11_putBytes_33 ?_
  refine x_iast C 11 900 (by decide) rfl rfl rfl (by decide) (by decide) dX11_putBytes_34 ?_
  refine j_aload_n C 1 0 dX11_putBytes_35 rfl rfl ?_
  refine j_dup C dX11_putBytes_36 rfl ?_
  refine j_getI C 10 11 fX11_putBytes_13 (by decide) rfl (by decide) rfl rfl dX11_putBytes_37 ?_
  refine j_iconst C 1 dX11_putBytes_40 (by decide) ?_
  refine z_iadd C 12 (by decide) dX11_putBytes_41 ?_
  refine j_putI C 10 qX11_putBytes_13 rfl rfl (by decide) rfl (by decide) rfl dX11_putBytes_42 ?_
  refine j_M (M' := (wI (wI (wI (wI (wI (wI (wI (wI (wI (wI (wI (wI (wI M0 1 0 (((p1.toUInt32 >>> ((24 : Int32).toUInt32 &&& Int32.toUInt32 31)).toInt32) &&& (255 : Int32))) 0 1 12) 1 1 ((su p1) &&& (255 : Int32))) 1 2 (((p1.toUInt32 >>> ((8 : Int32).toUInt32 &&& Int32.toUInt32 31)).toInt32) &&& (255 : Int32))) 1 3 (((p1.toUInt32 >>> ((0 : Int32).toUInt32 &&& Int32.toUInt32 31)).toInt32) &&& (255 : Int32))) 1 4 (((p2.toUInt32 >>> ((24 : Int32).toUInt32 &&& Int32.toUInt32 31)).toInt32) &&& (255 : Int32))) 1 5 ((su p2) &&& (255 : Int32))) 1 6 (((p2.toUInt32 >>> ((8 : Int32).toUInt32 &&& Int32.toUInt32 31)).toInt32) &&& (255 : Int32))) 1 7 (((p2.toUInt32 >>> ((0 : Int32).toUInt32 &&& Int32.toUInt32 31)).toInt32) &&& (255 : Int32))) 1 8 (((p0.toUInt32 >>> ((24 : Int32).toUInt32 &&& Int32.toUInt32 31)).toInt32) &&& (255 : Int32))) 1 9 ((su p0) &&& (255 : Int32))) 1 10 (((p0.toUInt32 >>> ((8 : Int32).toUInt32 &&& Int32.toUInt32 31)).toInt32) &&& (255 : Int32))) 1 11 (((p0.toUInt32 >>> ((0 : Int32).toUInt32 &&& Int32.toUInt32 31)).toInt32) &&& (255 : Int32)))) ((wI_c (by decide)).trans (congrArg (fun X => wI X 1 11 (((p0.toUInt32 >>> ((0 : Int32).toUInt32 &&& Int32.toUInt32 31)).toInt32) &&& (255 : Int32))) ((wI_c (by decide)).trans (congrArg (fun X => wI X 1 10 (((p0.toUInt32 >>> ((8 : Int32).toUInt32 &&& Int32.toUInt32 31)).toInt32) &&& (255 : Int32))) ((wI_c (by decide)).trans (congrArg (fun X => wI X 1 9 ((su p0) &&& (255 : Int32))) ((wI_c (by decide)).trans (congrArg (fun X => wI X 1 8 (((p0.toUInt32 >>> ((24 : Int32).toUInt32 &&& Int32.toUInt32 31)).toInt32) &&& (255 : Int32))) ((wI_c (by decide)).trans (congrArg (fun X => wI X 1 7 (((p2.toUInt32 >>> ((0 : Int32).toUInt32 &&& Int32.toUInt32 31)).toInt32) &&& (255 : Int32))) ((wI_c (by decide)).trans (congrArg (fun X => wI X 1 6 (((p2.toUInt32 >>> ((8 : Int32).toUInt32 &&& Int32.toUInt32 31)).toInt32) &&& (255 : Int32))) ((wI_c (by decide)).trans (congrArg (fun X => wI X 1 5 ((su p2) &&& (255 : Int32))) ((wI_c (by decide)).trans (congrArg (fun X => wI X 1 4 (((p2.toUInt32 >>> ((24 : Int32).toUInt32 &&& Int32.toUInt32 31)).toInt32) &&& (255 : Int32))) ((wI_c (by decide)).trans (congrArg (fun X => wI X 1 3 (((p1.toUInt32 >>> ((0 : Int32).toUInt32 &&& Int32.toUInt32 31)).toInt32) &&& (255 : Int32))) ((wI_c (by decide)).trans (congrArg (fun X => wI X 1 2 (((p1.toUInt32 >>> ((8 : Int32).toUInt32 &&& Int32.toUInt32 31)).toInt32) &&& (255 : Int32))) ((wI_c (by decide)).trans (congrArg (fun X => wI X 1 1 ((su p1) &&& (255 : Int32))) (wI_w _ _ _ _ _))))))))))))))))))))))) ?_
  refine j_iinc C 0 (-8) [(2, .int (-8)), (0, .ref (ad 0)), (1, .int p0)] dX11_putBytes_45 rfl (by decide) (by decide) rfl ?_
  refine j_goto C 3 dX11_putBytes_48 (by decide) ?_
  refine j_iload_n C 0 2 dX11_putBytes_3 rfl rfl ?_
  refine j_if_lt_t C 51 dX11_putBytes_4 (by decide) (by decide) ?_
  exact hret _ _ _ dX11_putBytes_51 rfl
set_option maxHeartbeats 4000000 in
set_option maxRecDepth 100000 in
theorem k4_X11_putBytes {l : Launch} {dC : Nat → ClassId} {dI : Nat → Nat → Nat} {ad : Nat → Nat} {cA : Nat → ClassId} (p0 : Int32) (p1 : Int32) (p2 : Int32) (p3 : Int32) : Cv l 0 yX11_putBytes wsX11_putBytes dC dI ad cA [.ref (ad 0), .int p0] (wI (wI (wI (wI (wI (wI (wI (wI (wI (wI (wI (wI (wI M0 1 0 (((p1.toUInt32 >>> ((24 : Int32).toUInt32 &&& Int32.toUInt32 31)).toInt32) &&& (255 : Int32))) 0 1 12) 1 1 ((su p1) &&& (255 : Int32))) 1 2 (((p1.toUInt32 >>> ((8 : Int32).toUInt32 &&& Int32.toUInt32 31)).toInt32) &&& (255 : Int32))) 1 3 (((p1.toUInt32 >>> ((0 : Int32).toUInt32 &&& Int32.toUInt32 31)).toInt32) &&& (255 : Int32))) 1 4 (((p2.toUInt32 >>> ((24 : Int32).toUInt32 &&& Int32.toUInt32 31)).toInt32) &&& (255 : Int32))) 1 5 ((su p2) &&& (255 : Int32))) 1 6 (((p2.toUInt32 >>> ((8 : Int32).toUInt32 &&& Int32.toUInt32 31)).toInt32) &&& (255 : Int32))) 1 7 (((p2.toUInt32 >>> ((0 : Int32).toUInt32 &&& Int32.toUInt32 31)).toInt32) &&& (255 : Int32))) 1 8 (((p3.toUInt32 >>> ((24 : Int32).toUInt32 &&& Int32.toUInt32 31)).toInt32) &&& (255 : Int32))) 1 9 ((su p3) &&& (255 : Int32))) 1 10 (((p3.toUInt32 >>> ((8 : Int32).toUInt32 &&& Int32.toUInt32 31)).toInt32) &&& (255 : Int32))) 1 11 (((p3.toUInt32 >>> ((0 : Int32).toUInt32 &&& Int32.toUInt32 31)).toInt32) &&& (255 : Int32))) (fun M' => (wI (wI (wI (wI (wI (wI (wI (wI (wI (wI (wI (wI (wI (wI (wI (wI (wI M0 1 0 (((p1.toUInt32 >>> ((24 : Int32).toUInt32 &&& Int32.toUInt32 31)).toInt32) &&& (255 : Int32))) 0 1 16) 1 1 ((su p1) &&& (255 : Int32))) 1 2 (((p1.toUInt32 >>> ((8 : Int32).toUInt32 &&& Int32.toUInt32 31)).toInt32) &&& (255 : Int32))) 1 3 (((p1.toUInt32 >>> ((0 : Int32).toUInt32 &&& Int32.toUInt32 31)).toInt32) &&& (255 : Int32))) 1 4 (((p2.toUInt32 >>> ((24 : Int32).toUInt32 &&& Int32.toUInt32 31)).toInt32) &&& (255 : Int32))) 1 5 ((su p2) &&& (255 : Int32))) 1 6 (((p2.toUInt32 >>> ((8 : Int32).toUInt32 &&& Int32.toUInt32 31)).toInt32) &&& (255 : Int32))) 1 7 (((p2.toUInt32 >>> ((0 : Int32).toUInt32 &&& Int32.toUInt32 31)).toInt32) &&& (255 : Int32))) 1 8 (((p3.toUInt32 >>> ((24 : Int32).toUInt32 &&& Int32.toUInt32 31)).toInt32) &&& (255 : Int32))) 1 9 ((su p3) &&& (255 : Int32))) 1 10 (((p3.toUInt32 >>> ((8 : Int32).toUInt32 &&& Int32.toUInt32 31)).toInt32) &&& (255 : Int32))) 1 11 (((p3.toUInt32 >>> ((0 : Int32).toUInt32 &&& Int32.toUInt32 31)).toInt32) &&& (255 : Int32))) 1 12 (((p0.toUInt32 >>> ((24 : Int32).toUInt32 &&& Int32.toUInt32 31)).toInt32) &&& (255 : Int32))) 1 13 ((su p0) &&& (255 : Int32))) 1 14 (((p0.toUInt32 >>> ((8 : Int32).toUInt32 &&& Int32.toUInt32 31)).toInt32) &&& (255 : Int32))) 1 15 (((p0.toUInt32 >>> ((0 : Int32).toUInt32 &&& Int32.toUInt32 31)).toInt32) &&& (255 : Int32))) = M') := by
  refine cv_of (cc := cX11_putBytes) (maxL := 3) (lv := [(0, .ref (ad 0)), (1, .int p0)]) (by decide) rfl (Nat.le_of_ble_eq_true rfl) rfl ?_
  intro p e s m args below meth c A Q C hret
  refine j_bipush C 24 dX11_putBytes_0 (by decide) ?_
  refine j_istore_n C 2 [(2, .int 24), (0, .ref (ad 0)), (1, .int p0)] dX11_putBytes_2 rfl (by decide) rfl ?_
  refine j_iload_n C 0 2 dX11_putBytes_3 rfl rfl ?_
  refine j_if_lt_f C 51 dX11_putBytes_4 (by decide) (by decide) ?_
  refine j_aload_n C 1 0 dX11_putBytes_7 rfl rfl ?_
  refine j_getI C 10 12 fX11_putBytes_13 (by decide) rfl (by decide) rfl rfl dX11_putBytes_8 ?_
  refine j_aload_n C 1 0 dX11_putBytes_11 rfl rfl ?_
  refine j_getP C 10 1 fX11_putBytes_9 (by decide) rfl (by decide) rfl rfl dX11_putBytes_12 ?_
  refine j_alen C 900 (by decide) (by decide) (by decide) dX11_putBytes_15 ?_
  refine j_icmp_ge_f C 51 dX11_putBytes_16 (by decide) (by decide) ?_
  refine j_aload_n C 1 0 dX11_putBytes_19 rfl rfl ?_
  refine j_getP C 10 1 fX11_putBytes_9 (by decide) rfl (by decide) rfl rfl dX11_putBytes_20 ?_
  refine j_aload_n C 1 0 dX11_putBytes_23 rfl rfl ?_
  refine j_getI C 10 12 fX11_putBytes_13 (by decide) rfl (by decide) rfl rfl dX11_putBytes_24 ?_
  refine j_iload_n C 2 1 dX11_putBytes_27 rfl rfl ?_
  refine j_iload_n C 0 2 dX11_putBytes_28 rfl rfl ?_
  refine z_iushr C ((p0.toUInt32 >>> ((24 : Int32).toUInt32 &&& Int32.toUInt32 31)).toInt32) rfl dX11_putBytes_29 ?_
  refine j_sipush C 255 dX11_putBytes_30 (by decide) ?_
  refine z_iand C (((p0.toUInt32 >>> ((24 : Int32).toUInt32 &&& Int32.toUInt32 31)).toInt32) &&& (255 : Int32)) rfl dX11_putBytes_33 ?_
  refine x_iast C 12 900 (by decide) rfl rfl rfl (by decide) (by decide) dX11_putBytes_34 ?_
  refine j_aload_n C 1 0 dX11_putBytes_35 rfl rfl ?_
  refine j_dup C dX11_putBytes_36 rfl ?_
  refine j_getI C 10 12 fX11_putBytes_13 (by decide) rfl (by decide) rfl rfl dX11_putBytes_37 ?_
  refine j_iconst C 1 dX11_putBytes_40 (by decide) ?_
  refine z_iadd C 13 (by decide) dX11_putBytes_41 ?_
  refine j_putI C 10 qX11_putBytes_13 rfl rfl (by decide) rfl (by decide) rfl dX11_putBytes_42 ?_
  refine j_M (M' := (wI (wI (wI (wI (wI (wI (wI (wI (wI (wI (wI (wI (wI (wI M0 1 0 (((p1.toUInt32 >>> ((24 : Int32).toUInt32 &&& Int32.toUInt32 31)).toInt32) &&& (255 : Int32))) 0 1 13) 1 1 ((su p1) &&& (255 : Int32))) 1 2 (((p1.toUInt32 >>> ((8 : Int32).toUInt32 &&& Int32.toUInt32 31)).toInt32) &&& (255 : Int32))) 1 3 (((p1.toUInt32 >>> ((0 : Int32).toUInt32 &&& Int32.toUInt32 31)).toInt32) &&& (255 : Int32))) 1 4 (((p2.toUInt32 >>> ((24 : Int32).toUInt32 &&& Int32.toUInt32 31)).toInt32) &&& (255 : Int32))) 1 5 ((su p2) &&& (255 : Int32))) 1 6 (((p2.toUInt32 >>> ((8 : Int32).toUInt32 &&& Int32.toUInt32 31)).toInt32) &&& (255 : Int32))) 1 7 (((p2.toUInt32 >>> ((0 : Int32).toUInt32 &&& Int32.toUInt32 31)).toInt32) &&& (255 : Int32))) 1 8 (((p3.toUInt32 >>> ((24 : Int32).toUInt32 &&& Int32.toUInt32 31)).toInt32) &&& (255 : Int32))) 1 9 ((su p3) &&& (255 : Int32))) 1 10 (((p3.toUInt32 >>> ((8 : Int32).toUInt32 &&& Int32.toUInt32 31)).toInt32) &&& (255 : Int32))) 1 11 (((p3.toUInt32 >>> ((0 : Int32).toUInt32 &&& Int32.toUInt32 31)).toInt32) &&& (255 : Int32))) 1 12 (((p0.toUInt32 >>> ((24 : Int32).toUInt32 &&& Int32.toUInt32 31)).toInt32) &&& (255 : Int32)))) ((wI_c (by decide)).trans (congrArg (fun X => wI X 1 12 (((p0.toUInt32 >>> ((24 : Int32).toUInt32 &&& Int32.toUInt32 31)).toInt32) &&& (255 : Int32))) ((wI_c (by decide)).trans (congrArg (fun X => wI X 1 11 (((p3.toUInt32 >>> ((0 : Int32).toUInt32 &&& Int32.toUInt32 31)).toInt32) &&& (255 : Int32))) ((wI_c (by decide)).trans (congrArg (fun X => wI X 1 10 (((p3.toUInt32 >>> ((8 : Int32).toUInt32 &&& Int32.toUInt32 31)).toInt32) &&& (255 : Int32))) ((wI_c (by decide)).trans (congrArg (fun X => wI X 1 9 ((su p3) &&& (255 : Int32))) ((wI_c (by decide)).trans (congrArg (fun X => wI X 1 8 (((p3.toUInt32 >>> ((24 : Int32).toUInt32 &&& Int32.toUInt32 31)).toInt32) &&& (255 : Int32))) ((wI_c (by decide)).trans (congrArg (fun X => wI X 1 7 (((p2.toUInt32 >>> ((0 : Int32).toUInt32 &&& Int32.toUInt32 31)).toInt32) &&& (255 : Int32))) ((wI_c (by decide)).trans (congrArg (fun X => wI X 1 6 (((p2.toUInt32 >>> ((8 : Int32).toUInt32 &&& Int32.toUInt32 31)).toInt32) &&& (255 : Int32))) ((wI_c (by decide)).trans (congrArg (fun X => wI X 1 5 ((su p2) &&& (255 : Int32))) ((wI_c (by decide)).trans (congrArg (fun X => wI X 1 4 (((p2.toUInt32 >>> ((24 : Int32).toUInt32 &&& Int32.toUInt32 31)).toInt32) &&& (255 : Int32))) ((wI_c (by decide)).trans (congrArg (fun X => wI X 1 3 (((p1.toUInt32 >>> ((0 : Int32).toUInt32 &&& Int32.toUInt32 31)).toInt32) &&& (255 : Int32))) ((wI_c (by decide)).trans (congrArg (fun X => wI X 1 2 (((p1.toUInt32 >>> ((8 : Int32).toUInt32 &&& Int32.toUInt32 31)).toInt32) &&& (255 : Int32))) ((wI_c (by decide)).trans (congrArg (fun X => wI X 1 1 ((su p1) &&& (255 : Int32))) (wI_w _ _ _ _ _))))))))))))))))))))))))) ?_
  refine j_iinc C 0 16 [(2, .int 16), (0, .ref (ad 0)), (1, .int p0)] dX11_putBytes_45 rfl (by decide) (by decide) rfl ?_
  refine j_goto C 3 dX11_putBytes_48 (by decide) ?_
  refine j_iload_n C 0 2 dX11_putBytes_3 rfl rfl ?_
  refine j_if_lt_f C 51 dX11_putBytes_4 (by decide) (by decide) ?_
  refine j_aload_n C 1 0 dX11_putBytes_7 rfl rfl ?_
  refine j_getI C 10 13 fX11_putBytes_13 (by decide) rfl (by decide) rfl rfl dX11_putBytes_8 ?_
  refine j_aload_n C 1 0 dX11_putBytes_11 rfl rfl ?_
  refine j_getP C 10 1 fX11_putBytes_9 (by decide) rfl (by decide) rfl rfl dX11_putBytes_12 ?_
  refine j_alen C 900 (by decide) (by decide) (by decide) dX11_putBytes_15 ?_
  refine j_icmp_ge_f C 51 dX11_putBytes_16 (by decide) (by decide) ?_
  refine j_aload_n C 1 0 dX11_putBytes_19 rfl rfl ?_
  refine j_getP C 10 1 fX11_putBytes_9 (by decide) rfl (by decide) rfl rfl dX11_putBytes_20 ?_
  refine j_aload_n C 1 0 dX11_putBytes_23 rfl rfl ?_
  refine j_getI C 10 13 fX11_putBytes_13 (by decide) rfl (by decide) rfl rfl dX11_putBytes_24 ?_
  refine j_iload_n C 2 1 dX11_putBytes_27 rfl rfl ?_
  refine j_iload_n C 0 2 dX11_putBytes_28 rfl rfl ?_
  refine z_iushr C (su p0) rfl dX11_putBytes_29 ?_
  refine j_sipush C 255 dX11_putBytes_30 (by decide) ?_
  refine z_iand C ((su p0) &&& (255 : Int32)) rfl dX11_putBytes_33 ?_
  refine x_iast C 13 900 (by decide) rfl rfl rfl (by decide) (by decide) dX11_putBytes_34 ?_
  refine j_aload_n C 1 0 dX11_putBytes_35 rfl rfl ?_
  refine j_dup C dX11_putBytes_36 rfl ?_
  refine j_getI C 10 13 fX11_putBytes_13 (by decide) rfl (by decide) rfl rfl dX11_putBytes_37 ?_
  refine j_iconst C 1 dX11_putBytes_40 (by decide) ?_
  refine z_iadd C 14 (by decide) dX11_putBytes_41 ?_
  refine j_putI C 10 qX11_putBytes_13 rfl rfl (by decide) rfl (by decide) rfl dX11_putBytes_42 ?_
  refine j_M (M' := (wI (wI (wI (wI (wI (wI (wI (wI (wI (wI (wI (wI (wI (wI (wI M0 1 0 (((p1.toUInt32 >>> ((24 : Int32).toUInt32 &&& Int32.toUInt32 31)).toInt32) &&& (255 : Int32))) 0 1 14) 1 1 ((su p1) &&& (255 : Int32))) 1 2 (((p1.toUInt32 >>> ((8 : Int32).toUInt32 &&& Int32.toUInt32 31)).toInt32) &&& (255 : Int32))) 1 3 (((p1.toUInt32 >>> ((0 : Int32).toUInt32 &&& Int32.toUInt32 31)).toInt32) &&& (255 : Int32))) 1 4 (((p2.toUInt32 >>> ((24 : Int32).toUInt32 &&& Int32.toUInt32 31)).toInt32) &&& (255 : Int32))) 1 5 ((su p2) &&& (255 : Int32))) 1 6 (((p2.toUInt32 >>> ((8 : Int32).toUInt32 &&& Int32.toUInt32 31)).toInt32) &&& (255 : Int32))) 1 7 (((p2.toUInt32 >>> ((0 : Int32).toUInt32 &&& Int32.toUInt32 31)).toInt32) &&& (255 : Int32))) 1 8 (((p3.toUInt32 >>> ((24 : Int32).toUInt32 &&& Int32.toUInt32 31)).toInt32) &&& (255 : Int32))) 1 9 ((su p3) &&& (255 : Int32))) 1 10 (((p3.toUInt32 >>> ((8 : Int32).toUInt32 &&& Int32.toUInt32 31)).toInt32) &&& (255 : Int32))) 1 11 (((p3.toUInt32 >>> ((0 : Int32).toUInt32 &&& Int32.toUInt32 31)).toInt32) &&& (255 : Int32))) 1 12 (((p0.toUInt32 >>> ((24 : Int32).toUInt32 &&& Int32.toUInt32 31)).toInt32) &&& (255 : Int32))) 1 13 ((su p0) &&& (255 : Int32)))) ((wI_c (by decide)).trans (congrArg (fun X => wI X 1 13 ((su p0) &&& (255 : Int32))) ((wI_c (by decide)).trans (congrArg (fun X => wI X 1 12 (((p0.toUInt32 >>> ((24 : Int32).toUInt32 &&& Int32.toUInt32 31)).toInt32) &&& (255 : Int32))) ((wI_c (by decide)).trans (congrArg (fun X => wI X 1 11 (((p3.toUInt32 >>> ((0 : Int32).toUInt32 &&& Int32.toUInt32 31)).toInt32) &&& (255 : Int32))) ((wI_c (by decide)).trans (congrArg (fun X => wI X 1 10 (((p3.toUInt32 >>> ((8 : Int32).toUInt32 &&& Int32.toUInt32 31)).toInt32) &&& (255 : Int32))) ((wI_c (by decide)).trans (congrArg (fun X => wI X 1 9 ((su p3) &&& (255 : Int32))) ((wI_c (by decide)).trans (congrArg (fun X => wI X 1 8 (((p3.toUInt32 >>> ((24 : Int32).toUInt32 &&& Int32.toUInt32 31)).toInt32) &&& (255 : Int32))) ((wI_c (by decide)).trans (congrArg (fun X => wI X 1 7 (((p2.toUInt32 >>> ((0 : Int32).toUInt32 &&& Int32.toUInt32 31)).toInt32) &&& (255 : Int32))) ((wI_c (by decide)).trans (congrArg (fun X => wI X 1 6 (((p2.toUInt32 >>> ((8 : Int32).toUInt32 &&& Int32.toUInt32 31)).toInt32) &&& (255 : Int32))) ((wI_c (by decide)).trans (congrArg (fun X => wI X 1 5 ((su p2) &&& (255 : Int32))) ((wI_c (by decide)).trans (congrArg (fun X => wI X 1 4 (((p2.toUInt32 >>> ((24 : Int32).toUInt32 &&& Int32.toUInt32 31)).toInt32) &&& (255 : Int32))) ((wI_c (by decide)).trans (congrArg (fun X => wI X 1 3 (((p1.toUInt32 >>> ((0 : Int32).toUInt32 &&& Int32.toUInt32 31)).toInt32) &&& (255 : Int32))) ((wI_c (by decide)).trans (congrArg (fun X => wI X 1 2 (((p1.toUInt32 >>> ((8 : Int32).toUInt32 &&& Int32.toUInt32 31)).toInt32) &&& (255 : Int32))) ((wI_c (by decide)).trans (congrArg (fun X => wI X 1 1 ((su p1) &&& (255 : Int32))) (wI_w _ _ _ _ _))))))))))))))))))))))))))) ?_
  refine j_iinc C 0 8 [(2, .int 8), (0, .ref (ad 0)), (1, .int p0)] dX11_putBytes_45 rfl (by decide) (by decide) rfl ?_
  refine j_goto C 3 dX11_putBytes_48 (by decide) ?_
  refine j_iload_n C 0 2 dX11_putBytes_3 rfl rfl ?_
  refine j_if_lt_f C 51 dX11_putBytes_4 (by decide) (by decide) ?_
  refine j_aload_n C 1 0 dX11_putBytes_7 rfl rfl ?_
  refine j_getI C 10 14 fX11_putBytes_13 (by decide) rfl (by decide) rfl rfl dX11_putBytes_8 ?_
  refine j_aload_n C 1 0 dX11_putBytes_11 rfl rfl ?_
  refine j_getP C 10 1 fX11_putBytes_9 (by decide) rfl (by decide) rfl rfl dX11_putBytes_12 ?_
  refine j_alen C 900 (by decide) (by decide) (by decide) dX11_putBytes_15 ?_
  refine j_icmp_ge_f C 51 dX11_putBytes_16 (by decide) (by decide) ?_
  refine j_aload_n C 1 0 dX11_putBytes_19 rfl rfl ?_
  refine j_getP C 10 1 fX11_putBytes_9 (by decide) rfl (by decide) rfl rfl dX11_putBytes_20 ?_
  refine j_aload_n C 1 0 dX11_putBytes_23 rfl rfl ?_
  refine j_getI C 10 14 fX11_putBytes_13 (by decide) rfl (by decide) rfl rfl dX11_putBytes_24 ?_
  refine j_iload_n C 2 1 dX11_putBytes_27 rfl rfl ?_
  refine j_iload_n C 0 2 dX11_putBytes_28 rfl rfl ?_
  refine z_iushr C ((p0.toUInt32 >>> ((8 : Int32).toUInt32 &&& Int32.toUInt32 31)).toInt32) rfl dX11_putBytes_29 ?_
  refine j_sipush C 255 dX11_putBytes_30 (by decide) ?_
  refine z_iand C (((p0.toUInt32 >>> ((8 : Int32).toUInt32 &&& Int32.toUInt32 31)).toInt32) &&& (255 : Int32)) rfl dX11_putBytes_33 ?_
  refine x_iast C 14 900 (by decide) rfl rfl rfl (by decide) (by decide) dX11_putBytes_34 ?_
  refine j_aload_n C 1 0 dX11_putBytes_35 rfl rfl ?_
  refine j_dup C dX11_putBytes_36 rfl ?_
  refine j_getI C 10 14 fX11_putBytes_13 (by decide) rfl (by decide) rfl rfl dX11_putBytes_37 ?_
  refine j_iconst C 1 dX11_putBytes_40 (by decide) ?_
  refine z_iadd C 15 (by decide) dX11_putBytes_41 ?_
  refine j_putI C 10 qX11_putBytes_13 rfl rfl (by decide) rfl (by decide) rfl dX11_putBytes_42 ?_
  refine j_M (M' := (wI (wI (wI (wI (wI (wI (wI (wI (wI (wI (wI (wI (wI (wI (wI (wI M0 1 0 (((p1.toUInt32 >>> ((24 : Int32).toUInt32 &&& Int32.toUInt32 31)).toInt32) &&& (255 : Int32))) 0 1 15) 1 1 ((su p1) &&& (255 : Int32))) 1 2 (((p1.toUInt32 >>> ((8 : Int32).toUInt32 &&& Int32.toUInt32 31)).toInt32) &&& (255 : Int32))) 1 3 (((p1.toUInt32 >>> ((0 : Int32).toUInt32 &&& Int32.toUInt32 31)).toInt32) &&& (255 : Int32))) 1 4 (((p2.toUInt32 >>> ((24 : Int32).toUInt32 &&& Int32.toUInt32 31)).toInt32) &&& (255 : Int32))) 1 5 ((su p2) &&& (255 : Int32))) 1 6 (((p2.toUInt32 >>> ((8 : Int32).toUInt32 &&& Int32.toUInt32 31)).toInt32) &&& (255 : Int32))) 1 7 (((p2.toUInt32 >>> ((0 : Int32).toUInt32 &&& Int32.toUInt32 31)).toInt32) &&& (255 : Int32))) 1 8 (((p3.toUInt32 >>> ((24 : Int32).toUInt32 &&& Int32.toUInt32 31)).toInt32) &&& (255 : Int32))) 1 9 ((su p3) &&& (255 : Int32))) 1 10 (((p3.toUInt32 >>> ((8 : Int32).toUInt32 &&& Int32.toUInt32 31)).toInt32) &&& (255 : Int32))) 1 11 (((p3.toUInt32 >>> ((0 : Int32).toUInt32 &&& Int32.toUInt32 31)).toInt32) &&& (255 : Int32))) 1 12 (((p0.toUInt32 >>> ((24 : Int32).toUInt32 &&& Int32.toUInt32 31)).toInt32) &&& (255 : Int32))) 1 13 ((su p0) &&& (255 : Int32))) 1 14 (((p0.toUInt32 >>> ((8 : Int32).toUInt32 &&& Int32.toUInt32 31)).toInt32) &&& (255 : Int32)))) ((wI_c (by decide)).trans (congrArg (fun X => wI X 1 14 (((p0.toUInt32 >>> ((8 : Int32).toUInt32 &&& Int32.toUInt32 31)).toInt32) &&& (255 : Int32))) ((wI_c (by decide)).trans (congrArg (fun X => wI X 1 13 ((su p0) &&& (255 : Int32))) ((wI_c (by decide)).trans (congrArg (fun X => wI X 1 12 (((p0.toUInt32 >>> ((24 : Int32).toUInt32 &&& Int32.toUInt32 31)).toInt32) &&& (255 : Int32))) ((wI_c (by decide)).trans (congrArg (fun X => wI X 1 11 (((p3.toUInt32 >>> ((0 : Int32).toUInt32 &&& Int32.toUInt32 31)).toInt32) &&& (255 : Int32))) ((wI_c (by decide)).trans (congrArg (fun X => wI X 1 10 (((p3.toUInt32 >>> ((8 : Int32).toUInt32 &&& Int32.toUInt32 31)).toInt32) &&& (255 : Int32))) ((wI_c (by decide)).trans (congrArg (fun X => wI X 1 9 ((su p3) &&& (255 : Int32))) ((wI_c (by decide)).trans (congrArg (fun X => wI X 1 8 (((p3.toUInt32 >>> ((24 : Int32).toUInt32 &&& Int32.toUInt32 31)).toInt32) &&& (255 : Int32))) ((wI_c (by decide)).trans (congrArg (fun X => wI X 1 7 (((p2.toUInt32 >>> ((0 : Int32).toUInt32 &&& Int32.toUInt32 31)).toInt32) &&& (255 : Int32))) ((wI_c (by decide)).trans (congrArg (fun X => wI X 1 6 (((p2.toUInt32 >>> ((8 : Int32).toUInt32 &&& Int32.toUInt32 31)).toInt32) &&& (255 : Int32))) ((wI_c (by decide)).trans (congrArg (fun X => wI X 1 5 ((su p2) &&& (255 : Int32))) ((wI_c (by decide)).trans (congrArg (fun X => wI X 1 4 (((p2.toUInt32 >>> ((24 : Int32).toUInt32 &&& Int32.toUInt32 31)).toInt32) &&& (255 : Int32))) ((wI_c (by decide)).trans (congrArg (fun X => wI X 1 3 (((p1.toUInt32 >>> ((0 : Int32).toUInt32 &&& Int32.toUInt32 31)).toInt32) &&& (255 : Int32))) ((wI_c (by decide)).trans (congrArg (fun X => wI X 1 2 (((p1.toUInt32 >>> ((8 : Int32).toUInt32 &&& Int32.toUInt32 31)).toInt32) &&& (255 : Int32))) ((wI_c (by decide)).trans (congrArg (fun X => wI X 1 1 ((su p1) &&& (255 : Int32))) (wI_w _ _ _ _ _))))))))))))))))))))))))))))) ?_
  refine j_iinc C 0 0 [(2, .int 0), (0, .ref (ad 0)), (1, .int p0)] dX11_putBytes_45 rfl (by decide) (by decide) rfl ?_
  refine j_goto C 3 dX11_putBytes_48 (by decide) ?_
  refine j_iload_n C 0 2 dX11_putBytes_3 rfl rfl ?_
  refine j_if_lt_f C 51 dX11_putBytes_4 (by decide) (by decide) ?_
  refine j_aload_n C 1 0 dX11_putBytes_7 rfl rfl ?_
  refine j_getI C 10 15 fX11_putBytes_13 (by decide) rfl (by decide) rfl rfl dX11_putBytes_8 ?_
  refine j_aload_n C 1 0 dX11_putBytes_11 rfl rfl ?_
  refine j_getP C 10 1 fX11_putBytes_9 (by decide) rfl (by decide) rfl rfl dX11_putBytes_12 ?_
  refine j_alen C 900 (by decide) (by decide) (by decide) dX11_putBytes_15 ?_
  refine j_icmp_ge_f C 51 dX11_putBytes_16 (by decide) (by decide) ?_
  refine j_aload_n C 1 0 dX11_putBytes_19 rfl rfl ?_
  refine j_getP C 10 1 fX11_putBytes_9 (by decide) rfl (by decide) rfl rfl dX11_putBytes_20 ?_
  refine j_aload_n C 1 0 dX11_putBytes_23 rfl rfl ?_
  refine j_getI C 10 15 fX11_putBytes_13 (by decide) rfl (by decide) rfl rfl dX11_putBytes_24 ?_
  refine j_iload_n C 2 1 dX11_putBytes_27 rfl rfl ?_
  refine j_iload_n C 0 2 dX11_putBytes_28 rfl rfl ?_
  refine z_iushr C ((p0.toUInt32 >>> ((0 : Int32).toUInt32 &&& Int32.toUInt32 31)).toInt32) rfl dX11_putBytes_29 ?_
  refine j_sipush C 255 dX11_putBytes_30 (by decide) ?_
  refine z_iand C (((p0.toUInt32 >>> ((0 : Int32).toUInt32 &&& Int32.toUInt32 31)).toInt32) &&& (255 : Int32)) rfl dX11_putBytes_33 ?_
  refine x_iast C 15 900 (by decide) rfl rfl rfl (by decide) (by decide) dX11_putBytes_34 ?_
  refine j_aload_n C 1 0 dX11_putBytes_35 rfl rfl ?_
  refine j_dup C dX11_putBytes_36 rfl ?_
  refine j_getI C 10 15 fX11_putBytes_13 (by decide) rfl (by decide) rfl rfl dX11_putBytes_37 ?_
  refine j_iconst C 1 dX11_putBytes_40 (by decide) ?_
  refine z_iadd C 16 (by decide) dX11_putBytes_41 ?_
  refine j_putI C 10 qX11_putBytes_13 rfl rfl (by decide) rfl (by decide) rfl dX11_putBytes_42 ?_
  refine j_M (M' := (wI (wI (wI (wI (wI (wI (wI (wI (wI (wI (wI (wI (wI (wI (wI (wI (wI M0 1 0 (((p1.toUInt32 >>> ((24 : Int32).toUInt32 &&& Int32.toUInt32 31)).toInt32) &&& (255 : Int32))) 0 1 16) 1 1 ((su p1) &&& (255 : Int32))) 1 2 (((p1.toUInt32 >>> ((8 : Int32).toUInt32 &&& Int32.toUInt32 31)).toInt32) &&& (255 : Int32))) 1 3 (((p1.toUInt32 >>> ((0 : Int32).toUInt32 &&& Int32.toUInt32 31)).toInt32) &&& (255 : Int32))) 1 4 (((p2.toUInt32 >>> ((24 : Int32).toUInt32 &&& Int32.toUInt32 31)).toInt32) &&& (255 : Int32))) 1 5 ((su p2) &&& (255 : Int32))) 1 6 (((p2.toUInt32 >>> ((8 : Int32).toUInt32 &&& Int32.toUInt32 31)).toInt32) &&& (255 : Int32))) 1 7 (((p2.toUInt32 >>> ((0 : Int32).toUInt32 &&& Int32.toUInt32 31)).toInt32) &&& (255 : Int32))) 1 8 (((p3.toUInt32 >>> ((24 : Int32).toUInt32 &&& Int32.toUInt32 31)).toInt32) &&& (255 : Int32))) 1 9 ((su p3) &&& (255 : Int32))) 1 10 (((p3.toUInt32 >>> ((8 : Int32).toUInt32 &&& Int32.toUInt32 31)).toInt32) &&& (255 : Int32))) 1 11 (((p3.toUInt32 >>> ((0 : Int32).toUInt32 &&& Int32.toUInt32 31)).toInt32) &&& (255 : Int32))) 1 12 (((p0.toUInt32 >>> ((24 : Int32).toUInt32 &&& Int32.toUInt32 31)).toInt32) &&& (255 : Int32))) 1 13 ((su p0) &&& (255 : Int32))) 1 14 (((p0.toUInt32 >>> ((8 : Int32).toUInt32 &&& Int32.toUInt32 31)).toInt32) &&& (255 : Int32))) 1 15 (((p0.toUInt32 >>> ((0 : Int32).toUInt32 &&& Int32.toUInt32 31)).toInt32) &&& (255 : Int32)))) ((wI_c (by decide)).trans (congrArg (fun X => wI X 1 15 (((p0.toUInt32 >>> ((0 : Int32).toUInt32 &&& Int32.toUInt32 31)).toInt32) &&& (255 : Int32))) ((wI_c (by decide)).trans (congrArg (fun X => wI X 1 14 (((p0.toUInt32 >>> ((8 : Int32).toUInt32 &&& Int32.toUInt32 31)).toInt32) &&& (255 : Int32))) ((wI_c (by decide)).trans (congrArg (fun X => wI X 1 13 ((su p0) &&& (255 : Int32))) ((wI_c (by decide)).trans (congrArg (fun X => wI X 1 12 (((p0.toUInt32 >>> ((24 : Int32).toUInt32 &&& Int32.toUInt32 31)).toInt32) &&& (255 : Int32))) ((wI_c (by decide)).trans (congrArg (fun X => wI X 1 11 (((p3.toUInt32 >>> ((0 : Int32).toUInt32 &&& Int32.toUInt32 31)).toInt32) &&& (255 : Int32))) ((wI_c (by decide)).trans (congrArg (fun X => wI X 1 10 (((p3.toUInt32 >>> ((8 : Int32).toUInt32 &&& Int32.toUInt32 31)).toInt32) &&& (255 : Int32))) ((wI_c (by decide)).trans (congrArg (fun X => wI X 1 9 ((su p3) &&& (255 : Int32))) ((wI_c (by decide)).trans (congrArg (fun X => wI X 1 8 (((p3.toUInt32 >>> ((24 : Int32).toUInt32 &&& Int32.toUInt32 31)).toInt32) &&& (255 : Int32))) ((wI_c (by decide)).trans (congrArg (fun X => wI X 1 7 (((p2.toUInt32 >>> ((0 : Int32).toUInt32 &&& Int32.toUInt32 31)).toInt32) &&& (255 : Int32))) ((wI_c (by decide)).trans (congrArg (fun X => wI X 1 6 (((p2.toUInt32 >>> ((8 : Int32).toUInt32 &&& Int32.toUInt32 31)).toInt32) &&& (255 : Int32))) ((wI_c (by decide)).trans (congrArg (fun X => wI X 1 5 ((su p2) &&& (255 : Int32))) ((wI_c (by decide)).trans (congrArg (fun X => wI X 1 4 (((p2.toUInt32 >>> ((24 : Int32).toUInt32 &&& Int32.toUInt32 31)).toInt32) &&& (255 : Int32))) ((wI_c (by decide)).trans (congrArg (fun X => wI X 1 3 (((p1.toUInt32 >>> ((0 : Int32).toUInt32 &&& Int32.toUInt32 31)).toInt32) &&& (255 : Int32))) ((wI_c (by decide)).trans (congrArg (fun X => wI X 1 2 (((p1.toUInt32 >>> ((8 : Int32).toUInt32 &&& Int32.toUInt32 31)).toInt32) &&& (255 : Int32))) ((wI_c (by decide)).trans (congrArg (fun X => wI X 1 1 ((su p1) &&& (255 : Int32))) (wI_w _ _ _ _ _))))))))))))))))))))))))))))))) ?_
  refine j_iinc C 0 (-8) [(2, .int (-8)), (0, .ref (ad 0)), (1, .int p0)] dX11_putBytes_45 rfl (by decide) (by decide) rfl ?_
  refine j_goto C 3 dX11_putBytes_48 (by decide) ?_
  refine j_iload_n C 0 2 dX11_putBytes_3 rfl rfl ?_
  refine j_if_lt_t C 51 dX11_putBytes_4 (by decide) (by decide) ?_
  exact hret _ _ _ dX11_putBytes_51 rfl
set_option maxHeartbeats 4000000 in
set_option maxRecDepth 100000 in
theorem k5_X11_putBytes {l : Launch} {dC : Nat → ClassId} {dI : Nat → Nat → Nat} {ad : Nat → Nat} {cA : Nat → ClassId} (p0 : Int32) (p1 : Int32) (p2 : Int32) (p3 : Int32) (p4 : Int32) : Cv l 0 yX11_putBytes wsX11_putBytes dC dI ad cA [.ref (ad 0), .int p0] (wI (wI (wI (wI (wI (wI (wI (wI (wI (wI (wI (wI (wI (wI (wI (wI (wI M0 1 0 (((p1.toUInt32 >>> ((24 : Int32).toUInt32 &&& Int32.toUInt32 31)).toInt32) &&& (255 : Int32))) 0 1 16) 1 1 ((su p1) &&& (255 : Int32))) 1 2 (((p1.toUInt32 >>> ((8 : Int32).toUInt32 &&& Int32.toUInt32 31)).toInt32) &&& (255 : Int32))) 1 3 (((p1.toUInt32 >>> ((0 : Int32).toUInt32 &&& Int32.toUInt32 31)).toInt32) &&& (255 : Int32))) 1 4 (((p2.toUInt32 >>> ((24 : Int32).toUInt32 &&& Int32.toUInt32 31)).toInt32) &&& (255 : Int32))) 1 5 ((su p2) &&& (255 : Int32))) 1 6 (((p2.toUInt32 >>> ((8 : Int32).toUInt32 &&& Int32.toUInt32 31)).toInt32) &&& (255 : Int32))) 1 7 (((p2.toUInt32 >>> ((0 : Int32).toUInt32 &&& Int32.toUInt32 31)).toInt32) &&& (255 : Int32))) 1 8 (((p3.toUInt32 >>> ((24 : Int32).toUInt32 &&& Int32.toUInt32 31)).toInt32) &&& (255 : Int32))) 1 9 ((su p3) &&& (255 : Int32))) 1 10 (((p3.toUInt32 >>> ((8 : Int32).toUInt32 &&& Int32.toUInt32 31)).toInt32) &&& (255 : Int32))) 1 11 (((p3.toUInt32 >>> ((0 : Int32).toUInt32 &&& Int32.toUInt32 31)).toInt32) &&& (255 : Int32))) 1 12 (((p4.toUInt32 >>> ((24 : Int32).toUInt32 &&& Int32.toUInt32 31)).toInt32) &&& (255 : Int32))) 1 13 ((su p4) &&& (255 : Int32))) 1 14 (((p4.toUInt32 >>> ((8 : Int32).toUInt32 &&& Int32.toUInt32 31)).toInt32) &&& (255 : Int32))) 1 15 (((p4.toUInt32 >>> ((0 : Int32).toUInt32 &&& Int32.toUInt32 31)).toInt32) &&& (255 : Int32))) (fun M' => (wI (wI (wI (wI (wI (wI (wI (wI (wI (wI (wI (wI (wI (wI (wI (wI (wI (wI (wI (wI (wI M0 1 0 (((p1.toUInt32 >>> ((24 : Int32).toUInt32 &&& Int32.toUInt32 31)).toInt32) &&& (255 : Int32))) 0 1 20) 1 1 ((su p1) &&& (255 : Int32))) 1 2 (((p1.toUInt32 >>> ((8 : Int32).toUInt32 &&& Int32.toUInt32 31)).toInt32) &&& (255 : Int32))) 1 3 (((p1.toUInt32 >>> ((0 : Int32).toUInt32 &&& Int32.toUInt32 31)).toInt32) &&& (255 : Int32))) 1 4 (((p2.toUInt32 >>> ((24 : Int32).toUInt32 &&& Int32.toUInt32 31)).toInt32) &&& (255 : Int32))) 1 5 ((su p2) &&& (255 : Int32))) 1 6 (((p2.toUInt32 >>> ((8 : Int32).toUInt32 &&& Int32.toUInt32 31)).toInt32) &&& (255 : Int32))) 1 7 (((p2.toUInt32 >>> ((0 : Int32).toUInt32 &&& Int32.toUInt32 31)).toInt32) &&& (255 : Int32))) 1 8 (((p3.toUInt32 >>> ((24 : Int32).toUInt32 &&& Int32.toUInt32 31)).toInt32) &&& (255 : Int32))) 1 9 ((su p3) &&& (255 : Int32))) 1 10 (((p3.toUInt32 >>> ((8 : Int32).toUInt32 &&& Int32.toUInt32 31)).toInt32) &&& (255 : Int32))) 1 11 (((p3.toUInt32 >>> ((0 : Int32).toUInt32 &&& Int32.toUInt32 31)).toInt32) &&& (255 : Int32))) 1 12 (((p4.toUInt32 >>> ((24 : Int32).toUInt32 &&& Int32.toUInt32 31)).toInt32) &&& (255 : Int32))) 1 13 ((su p4) &&& (255 : Int32))) 1 14 (((p4.toUInt32 >>> ((8 : Int32).toUInt32 &&& Int32.toUInt32 31)).toInt32) &&& (255 : Int32))) 1 15 (((p4.toUInt32 >>> ((0 : Int32).toUInt32 &&& Int32.toUInt32 31)).toInt32) &&& (255 : Int32))) 1 16 (((p0.toUInt32 >>> ((24 : Int32).toUInt32 &&& Int32.toUInt32 31)).toInt32) &&& (255 : Int32))) 1 17 ((su p0) &&& (255 : Int32))) 1 18 (((p0.toUInt32 >>> ((8 : Int32).toUInt32 &&& Int32.toUInt32 31)).toInt32) &&& (255 : Int32))) 1 19 (((p0.toUInt32 >>> ((0 : Int32).toUInt32 &&& Int32.toUInt32 31)).toInt32) &&& (255 : Int32))) = M') := by
  refine cv_of (cc := cX11_putBytes) (maxL := 3) (lv := [(0, .ref (ad 0)), (1, .int p0)]) (by decide) rfl (Nat.le_of_ble_eq_true rfl) rfl ?_
  intro p e s m args below meth c A Q C hret
  refine j_bipush C 24 dX11_putBytes_0 (by decide) ?_
  refine j_istore_n C 2 [(2, .int 24), (0, .ref (ad 0)), (1, .int p0)] dX11_putBytes_2 rfl (by decide) rfl ?_
  refine j_iload_n C 0 2 dX11_putBytes_3 rfl rfl ?_
  refine j_if_lt_f C 51 dX11_putBytes_4 (by decide) (by decide) ?_
  refine j_aload_n C 1 0 dX11_putBytes_7 rfl rfl ?_
  refine j_getI C 10 16 fX11_putBytes_13 (by decide) rfl (by decide) rfl rfl dX11_putBytes_8 ?_
  refine j_aload_n C 1 0 dX11_putBytes_11 rfl rfl ?_
  refine j_getP C 10 1 fX11_putBytes_9 (by decide) rfl (by decide) rfl rfl dX11_putBytes_12 ?_
  refine j_alen C 900 (by decide) (by decide) (by decide) dX11_putBytes_15 ?_
  refine j_icmp_ge_f C 51 dX11_putBytes_16 (by decide) (by decide) ?_
  refine j_aload_n C 1 0 dX11_putBytes_19 rfl rfl ?_
  refine j_getP C 10 1 fX11_putBytes_9 (by decide) rfl (by decide) rfl rfl dX11_putBytes_20 ?_
  refine j_aload_n C 1 0 dX11_putBytes_23 rfl rfl ?_
  refine j_getI C 10 16 fX11_putBytes_13 (by decide) rfl (by decide) rfl rfl dX11_putBytes_24 ?_
  refine j_iload_n C 2 1 dX11_putBytes_27 rfl rfl ?_
  refine j_iload_n C 0 2 dX11_putBytes_28 rfl rfl ?_
  refine z_iushr C ((p0.toUInt32 >>> ((24 : Int32).toUInt32 &&& Int32.toUInt32 31)).toInt32) rfl dX11_putBytes_29 ?_
  refine j_sipush C 255 dX11_putBytes_30 (by decide) ?_
  refine z_iand C (((p0.toUInt32 >>> ((24 : Int32).toUInt32 &&& Int32.toUInt32 31)).toInt32) &&& (255 : Int32)) rfl dX11_putBytes_33 ?_
  refine x_iast C 16 900 (by decide) rfl rfl rfl (by decide) (by decide) dX11_putBytes_34 ?_
  refine j_aload_n C 1 0 dX11_putBytes_35 rfl rfl ?_
  refine j_dup C dX11_putBytes_36 rfl ?_
  refine j_getI C 10 16 fX11_putBytes_13 (by decide) rfl (by decide) rfl rfl dX11_putBytes_37 ?_
  refine j_iconst C 1 dX11_putBytes_40 (by decide) ?_
  refine z_iadd C 17 (by decide) dX11_putBytes_41 ?_
  refine j_putI C 10 qX11_putBytes_13 rfl rfl (by decide) rfl (by decide) rfl dX11_putBytes_42 ?_
  refine j_M (M' := (wI (wI (wI (wI (wI (wI (wI (wI (wI (wI (wI (wI (wI (wI (wI (wI (wI (wI M0 1 0 (((p1.toUInt32 >>> ((24 : Int32).toUInt32 &&& Int32.toUInt32 31)).toInt32) &&& (255 : Int32))) 0 1 17) 1 1 ((su p1) &&& (255 : Int32))) 1 2 (((p1.toUInt32 >>> ((8 : Int32).toUInt32 &&& Int32.toUInt32 31)).toInt32) &&& (255 : Int32))) 1 3 (((p1.toUInt32 >>> ((0 : Int32).toUInt32 &&& Int32.toUInt32 31)).toInt32) &&& (255 : Int32))) 1 4 (((p2.toUInt32 >>> ((24 : Int32).toUInt32 &&& Int32.toUInt32 31)).toInt32) &&& (255 : Int32))) 1 5 ((su p2) &&& (255 : Int32))) 1 6 (((p2.toUInt32 >>> ((8 : Int32).toUInt32 &&& Int32.toUInt32 31)).toInt32) &&& (255 : Int32))) 1 7 (((p2.toUInt32 >>> ((0 : Int32).toUInt32 &&& Int32.toUInt32 31)).toInt32) &&& (255 : Int32))) 1 8 (((p3.toUInt32 >>> ((24 : Int32).toUInt32 &&& Int32.toUInt32 31)).toInt32) &&& (255 : Int32))) 1 9 ((su p3) &&& (255 : Int32))) 1 10 (((p3.toUInt32 >>> ((8 : Int32).toUInt32 &&& Int32.toUInt32 31)).toInt32) &&& (255 : Int32))) 1 11 (((p3.toUInt32 >>> ((0 : Int32).toUInt32 &&& Int32.toUInt32 31)).toInt32) &&& (255 : Int32))) 1 12 (((p4.toUInt32 >>> ((24 : Int32).toUInt32 &&& Int32.toUInt32 31)).toInt32) &&& (255 : Int32))) 1 13 ((su p4) &&& (255 : Int32))) 1 14 (((p4.toUInt32 >>> ((8 : Int32).toUInt32 &&& Int32.toUInt32 31)).toInt32) &&& (255 : Int32))) 1 15 (((p4.toUInt32 >>> ((0 : Int32).toUInt32 &&& Int32.toUInt32 31)).toInt32) &&& (255 : Int32))) 1 16 (((p0.toUInt32 >>> ((24 : Int32).toUInt32 &&& Int32.toUInt32 31)).toInt32) &&& (255 : Int32)))) ((wI_c (by decide)).trans (congrArg (fun X => wI X 1 16 (((p0.toUInt32 >>> ((24 : Int32).toUInt32 &&& Int32.toUInt32 31)).toInt32) &&& (255 : Int32))) ((wI_c (by decide)).trans (congrArg (fun X => wI X 1 15 (((p4.toUInt32 >>> ((0 : Int32).toUInt32 &&& Int32.toUInt32 31)).toInt32) &&& (255 : Int32))) ((wI_c (by decide)).trans (congrArg (fun X => wI X 1 14 (((p4.toUInt32 >>> ((8 : Int32).toUInt32 &&& Int32.toUInt32 31)).toInt32) &&& (255 : Int32))) ((wI_c (by decide)).trans (congrArg (fun X => wI X 1 13 ((su p4) &&& (255 : Int32))) ((wI_c (by decide)).trans (congrArg (fun X => wI X 1 12 (((p4.toUInt32 >>> ((24 : Int32).toUInt32 &&& Int32.toUInt32 31)).toInt32) &&& (255 : Int32))) ((wI_c (by decide)).trans (congrArg (fun X => wI X 1 11 (((p3.toUInt32 >>> ((0 : Int32).toUInt32 &&& Int32.toUInt32 31)).toInt32) &&& (255 : Int32))) ((wI_c (by decide)).trans (congrArg (fun X => wI X 1 10 (((p3.toUInt32 >>> ((8 : Int32).toUInt32 &&& Int32.toUInt32 31)).toInt32) &&& (255 : Int32))) ((wI_c (by decide)).trans (congrArg (fun X => wI X 1 9 ((su p3) &&& (255 : Int32))) ((wI_c (by decide)).trans (congrArg (fun X => wI X 1 8 (((p3.toUInt32 >>> ((24 : Int32).toUInt32 &&& Int32.toUInt32 31)).toInt32) &&& (255 : Int32))) ((wI_c (by decide)).trans (congrArg (fun X => wI X 1 7 (((p2.toUInt32 >>> ((0 : Int32).toUInt32 &&& Int32.toUInt32 31)).toInt32) &&& (255 : Int32))) ((wI_c (by decide)).trans (congrArg (fun X => wI X 1 6 (((p2.toUInt32 >>> ((8 : Int32).toUInt32 &&& Int32.toUInt32 31)).toInt32) &&& (255 : Int32))) ((wI_c (by decide)).trans (congrArg (fun X => wI X 1 5 ((su p2) &&& (255 : Int32))) ((wI_c (by decide)).trans (congrArg (fun X => wI X 1 4 (((p2.toUInt32 >>> ((24 : Int32).toUInt32 &&& Int32.toUInt32 31)).toInt32) &&& (255 : Int32))) ((wI_c (by decide)).trans (congrArg (fun X => wI X 1 3 (((p1.toUInt32 >>> ((0 : Int32).toUInt32 &&& Int32.toUInt32 31)).toInt32) &&& (255 : Int32))) ((wI_c (by decide)).trans (congrArg (fun X => wI X 1 2 (((p1.toUInt32 >>> ((8 : Int32).toUInt32 &&& Int32.toUInt32 31)).toInt32) &&& (255 : Int32))) ((wI_c (by decide)).trans (congrArg (fun X => wI X 1 1 ((su p1) &&& (255 : Int32))) (wI_w _ _ _ _ _))))))))))))))))))))))))))))))))) ?_
  refine j_iinc C 0 16 [(2, .int 16), (0, .ref (ad 0)), (1, .int p0)] dX11_putBytes_45 rfl (by decide) (by decide) rfl ?_
  refine j_goto C 3 dX11_putBytes_48 (by decide) ?_
  refine j_iload_n C 0 2 dX11_putBytes_3 rfl rfl ?_
  refine j_if_lt_f C 51 dX11_putBytes_4 (by decide) (by decide) ?_
  refine j_aload_n C 1 0 dX11_putBytes_7 rfl rfl ?_
  refine j_getI C 10 17 fX11_putBytes_13 (by decide) rfl (by decide) rfl rfl dX11_putBytes_8 ?_
  refine j_aload_n C 1 0 dX11_putBytes_11 rfl rfl ?_
  refine j_getP C 10 1 fX11_putBytes_9 (by decide) rfl (by decide) rfl rfl dX11_putBytes_12 ?_
  refine j_alen C 900 (by decide) (by decide) (by decide) dX11_putBytes_15 ?_
  refine j_icmp_ge_f C 51 dX11_putBytes_16 (by decide) (by decide) ?_
  refine j_aload_n C 1 0 dX11_putBytes_19 rfl rfl ?_
  refine j_getP C 10 1 fX11_putBytes_9 (by decide) rfl (by decide) rfl rfl dX11_putBytes_20 ?_
  refine j_aload_n C 1 0 dX11_putBytes_23 rfl rfl ?_
  refine j_getI C 10 17 fX11_putBytes_13 (by decide) rfl (by decide) rfl rfl dX11_putBytes_24 ?_
  refine j_iload_n C 2 1 dX11_putBytes_27 rfl rfl ?_
  refine j_iload_n C 0 2 dX11_putBytes_28 rfl rfl ?_
  refine z_iushr C (su p0) rfl dX11_putBytes_29 ?_
  refine j_sipush C 255 dX11_putBytes_30 (by decide) ?_
  refine z_iand C ((su p0) &&& (255 : Int32)) rfl dX11_putBytes_33 ?_
  refine x_iast C 17 900 (by decide) rfl rfl rfl (by decide) (by decide) dX11_putBytes_34 ?_
  refine j_aload_n C 1 0 dX11_putBytes_35 rfl rfl ?_
  refine j_dup C dX11_putBytes_36 rfl ?_
  refine j_getI C 10 17 fX11_putBytes_13 (by decide) rfl (by decide) rfl rfl dX11_putBytes_37 ?_
  refine j_iconst C 1 dX11_putBytes_40 (by decide) ?_
  refine z_iadd C 18 (by decide) dX11_putBytes_41 ?_
  refine j_putI C 10 qX11_putBytes_13 rfl rfl (by decide) rfl (by decide) rfl dX11_putBytes_42 ?_
  refine j_M (M' := (wI (wI (wI (wI (wI (wI (wI (wI (wI (wI (wI (wI (wI (wI (wI (wI (wI (wI (wI M0 1 0 (((p1.toUInt32 >>> ((24 : Int32).toUInt32 &&& Int32.toUInt32 31)).toInt32) &&& (255 : Int32))) 0 1 18) 1 1 ((su p1) &&& (255 : Int32))) 1 2 (((p1.toUInt32 >>> ((8 : Int32).toUInt32 &&& Int32.toUInt32 31)).toInt32) &&& (255 : Int32))) 1 3 (((p1.toUInt32 >>> ((0 : Int32).toUInt32 &&& Int32.toUInt32 31)).toInt32) &&& (255 : Int32))) 1 4 (((p2.toUInt32 >>> ((24 : Int32).toUInt32 &&& Int32.toUInt32 31)).toInt32) &&& (255 : Int32))) 1 5 ((su p2) &&& (255 : Int32))) 1 6 (((p2.toUInt32 >>> ((8 : Int32).toUInt32 &&& Int32.toUInt32 31)).toInt32) &&& (255 : Int32))) 1 7 (((p2.toUInt32 >>> ((0 : Int32).toUInt32 &&& Int32.toUInt32 31)).toInt32) &&& (255 : Int32))) 1 8 (((p3.toUInt32 >>> ((24 : Int32).toUInt32 &&& Int32.toUInt32 31)).toInt32) &&& (255 : Int32))) 1 9 ((su p3) &&& (255 : Int32))) 1 10 (((p3.toUInt32 >>> ((8 : Int32).toUInt32 &&& Int32.toUInt32 31)).toInt32) &&& (255 : Int32))) 1 11 (((p3.toUInt32 >>> ((0 : Int32).toUInt32 &&& Int32.toUInt32 31)).toInt32) &&& (255 : Int32))) 1 12 (((p4.toUInt32 >>> ((24 : Int32).toUInt32 &&& Int32.toUInt32 31)).toInt32) &&& (255 : Int32))) 1 13 ((su p4) &&& (255 : Int32))) 1 14 (((p4.toUInt32 >>> ((8 : Int32).toUInt32 &&& Int32.toUInt32 31)).toInt32) &&& (255 : Int32))) 1 15 (((p4.toUInt32 >>> ((0 : Int32).toUInt32 &&& Int32.toUInt32 31)).toInt32) &&& (255 : Int32))) 1 16 (((p0.toUInt32 >>> ((24 : Int32).toUInt32 &&& Int32.toUInt32 31)).toInt32) &&& (255 : Int32))) 1 17 ((su p0) &&& (255 : Int32)))) ((wI_c (by decide)).trans (congrArg (fun X => wI X 1 17 ((su p0) &&& (255 : Int32))) ((wI_c (by decide)).trans (congrArg (fun X => wI X 1 16 (((p0.toUInt32 >>> ((24 : Int32).toUInt32 &&& Int32.toUInt32 31)).toInt32) &&& (255 : Int32))) ((wI_c (by decide)).trans (congrArg (fun X => wI X 1 15 (((p4.toUInt32 >>> ((0 : Int32).toUInt32 &&& Int32.toUInt32 31)).toInt32) &&& (255 : Int32))) ((wI_c (by decide)).trans (congrArg (fun X => wI X 1 14 (((p4.toUInt32 >>> ((8 : Int32).toUInt32 &&& Int32.toUInt32 31)).toInt32) &&& (255 : Int32))) ((wI_c (by decide)).trans (congrArg (fun X => wI X 1 13 ((su p4) &&& (255 : Int32))) ((wI_c (by decide)).trans (congrArg (fun X => wI X 1 12 (((p4.toUInt32 >>> ((24 : Int32).toUInt32 &&& Int32.toUInt32 31)).toInt32) &&& (255 : Int32))) ((wI_c (by decide)).trans (congrArg (fun X => wI X 1 11 (((p3.toUInt32 >>> ((0 : Int32).toUInt32 &&& Int32.toUInt32 31)).toInt32) &&& (255 : Int32))) ((wI_c (by decide)).trans (congrArg (fun X => wI X 1 10 (((p3.toUInt32 >>> ((8 : Int32).toUInt32 &&& Int32.toUInt32 31)).toInt32) &&& (255 : Int32))) ((wI_c (by decide)).trans (congrArg (fun X => wI X 1 9 ((su p3) &&& (255 : Int32))) ((wI_c (by decide)).trans (congrArg (fun X => wI X 1 8 (((p3.toUInt32 >>> ((24 : Int32).toUInt32 &&& Int32.toUInt32 31)).toInt32) &&& (255 : Int32))) ((wI_c (by decide)).trans (congrArg (fun X => wI X 1 7 (((p2.toUInt32 >>> ((0 : Int32).toUInt32 &&& Int32.toUInt32 31)).toInt32) &&& (255 : Int32))) ((wI_c (by decide)).trans (congrArg (fun X => wI X 1 6 (((p2.toUInt32 >>> ((8 : Int32).toUInt32 &&& Int32.toUInt32 31)).toInt32) &&& (255 : Int32))) ((wI_c (by decide)).trans (congrArg (fun X => wI X 1 5 ((su p2) &&& (255 : Int32))) ((wI_c (by decide)).trans (congrArg (fun X => wI X 1 4 (((p2.toUInt32 >>> ((24 : Int32).toUInt32 &&& Int32.toUInt32 31)).toInt32) &&& (255 : Int32))) ((wI_c (by decide)).trans (congrArg (fun X => wI X 1 3 (((p1.toUInt32 >>> ((0 : Int32).toUInt32 &&& Int32.toUInt32 31)).toInt32) &&& (255 : Int32))) ((wI_c (by decide)).trans (congrArg (fun X => wI X 1 2 (((p1.toUInt32 >>> ((8 : Int32).toUInt32 &&& Int32.toUInt32 31)).toInt32) &&& (255 : Int32))) ((wI_c (by decide)).trans (congrArg (fun X => wI X 1 1 ((su p1) &&& (255 : Int32))) (wI_w _ _ _ _ _))))))))))))))))))))))))))))))))))) ?_
  refine j_iinc C 0 8 [(2, .int 8), (0, .ref (ad 0)), (1, .int p0)] dX11_putBytes_45 rfl (by decide) (by decide) rfl ?_
  refine j_goto C 3 dX11_putBytes_48 (by decide) ?_
  refine j_iload_n C 0 2 dX11_putBytes_3 rfl rfl ?_
  refine j_if_lt_f C 51 dX11_putBytes_4 (by decide) (by decide) ?_
  refine j_aload_n C 1 0 dX11_putBytes_7 rfl rfl ?_
  refine j_getI C 10 18 fX11_putBytes_13 (by decide) rfl (by decide) rfl rfl dX11_putBytes_8 ?_
  refine j_aload_n C 1 0 dX11_putBytes_11 rfl rfl ?_
  refine j_getP C 10 1 fX11_putBytes_9 (by decide) rfl (by decide) rfl rfl dX11_putBytes_12 ?_
  refine j_alen C 900 (by decide) (by decide) (by decide) dX11_putBytes_15 ?_
  refine j_icmp_ge_f C 51 dX11_putBytes_16 (by decide) (by decide) ?_
  refine j_aload_n C 1 0 dX11_putBytes_19 rfl rfl ?_
  refine j_getP C 10 1 fX11_putBytes_9 (by decide) rfl (by decide) rfl rfl dX11_putBytes_20 ?_
  refine j_aload_n C 1 0 dX11_putBytes_23 rfl rfl ?_
  refine j_getI C 10 18 fX11_putBytes_13 (by decide) rfl (by decide) rfl rfl dX11_putBytes_24 ?_
  refine j_iload_n C 2 1 dX11_putBytes_27 rfl rfl ?_
  refine j_iload_n C 0 2 dX11_putBytes_28 rfl rfl ?_
  refine z_iushr C ((p0.toUInt32 >>> ((8 : Int32).toUInt32 &&& Int32.toUInt32 31)).toInt32) rfl dX11_putBytes_29 ?_
  refine j_sipush C 255 dX11_putBytes_30 (by decide) ?_
  refine z_iand C (((p0.toUInt32 >>> ((8 : Int32).toUInt32 &&& Int32.toUInt32 31)).toInt32) &&& (255 : Int32)) rfl dX11_putBytes_33 ?_
  refine x_iast C 18 900 (by decide) rfl rfl rfl (by decide) (by decide) dX11_putBytes_34 ?_
  refine j_aload_n C 1 0 dX11_putBytes_35 rfl rfl ?_
  refine j_dup C dX11_putBytes_36 rfl ?_
  refine j_getI C 10 18 fX11_putBytes_13 (by decide) rfl (by decide) rfl rfl dX11_putBytes_37 ?_
  refine j_iconst C 1 dX11_putBytes_40 (by decide) ?_
  refine z_iadd C 19 (by decide) dX11_putBytes_41 ?_
  refine j_putI C 10 qX11_putBytes_13 rfl rfl (by decide) rfl (by decide) rfl dX11_putBytes_42 ?_
  refine j_M (M' := (wI (wI (wI (wI (wI (wI (wI (wI (wI (wI (wI (wI (wI (wI (wI (wI (wI (wI (wI (wI M0 1 0 (((p1.toUInt32 >>> ((24 : Int32).toUInt32 &&& Int32.toUInt32 31)).toInt32) &&& (255 : Int32))) 0 1 19) 1 1 ((su p1) &&& (255 : Int32))) 1 2 (((p1.toUInt32 >>> ((8 : Int32).toUInt32 &&& Int32.toUInt32 31)).toInt32) &&& (255 : Int32))) 1 3 (((p1.toUInt32 >>> ((0 : Int32).toUInt32 &&& Int32.toUInt32 31)).toInt32) &&& (255 : Int32))) 1 4 (((p2.toUInt32 >>> ((24 : Int32).toUInt32 &&& Int32.toUInt32 31)).toInt32) &&& (255 : Int32))) 1 5 ((su p2) &&& (255 : Int32))) 1 6 (((p2.toUInt32 >>> ((8 : Int32).toUInt32 &&& Int32.toUInt32 31)).toInt32) &&& (255 : Int32))) 1 7 (((p2.toUInt32 >>> ((0 : Int32).toUInt32 &&& Int32.toUInt32 31)).toInt32) &&& (255 : Int32))) 1 8 (((p3.toUInt32 >>> ((24 : Int32).toUInt32 &&& Int32.toUInt32 31)).toInt32) &&& (255 : Int32))) 1 9 ((su p3) &&& (255 : Int32))) 1 10 (((p3.toUInt32 >>> ((8 : Int32).toUInt32 &&& Int32.toUInt32 31)).toInt32) &&& (255 : Int32))) 1 11 (((p3.toUInt32 >>> ((0 : Int32).toUInt32 &&& Int32.toUInt32 31)).toInt32) &&& (255 : Int32))) 1 12 (((p4.toUInt32 >>> ((24 : Int32).toUInt32 &&& Int32.toUInt32 31)).toInt32) &&& (255 : Int32))) 1 13 ((su p4) &&& (255 : Int32))) 1 14 (((p4.toUInt32 >>> ((8 : Int32).toUInt32 &&& Int32.toUInt32 31)).toInt32) &&& (255 : Int32))) 1 15 (((p4.toUInt32 >>> ((0 : Int32).toUInt32 &&& Int32.toUInt32 31)).toInt32) &&& (255 : Int32))) 1 16 (((p0.toUInt32 >>> ((24 : Int32).toUInt32 &&& Int32.toUInt32 31)).toInt32) &&& (255 : Int32))) 1 17 ((su p0) &&& (255 : Int32))) 1 18 (((p0.toUInt32 >>> ((8 : Int32).toUInt32 &&& Int32.toUInt32 31)).toInt32) &&& (255 : Int32)))) ((wI_c (by decide)).trans (congrArg (fun X => wI X 1 18 (((p0.toUInt32 >>> ((8 : Int32).toUInt32 &&& Int32.toUInt32 31)).toInt32) &&& (255 : Int32))) ((wI_c (by decide)).trans (congrArg (fun X => wI X 1 17 ((su p0) &&& (255 : Int32))) ((wI_c (by decide)).trans (congrArg (fun X => wI X 1 16 (((p0.toUInt32 >>> ((24 : Int32).toUInt32 &&& Int32.toUInt32 31)).toInt32) &&& (255 : Int32))) ((wI_c (by decide)).trans (congrArg (fun X => wI X 1 15 (((p4.toUInt32 >>> ((0 : Int32).toUInt32 &&& Int32.toUInt32 31)).toInt32) &&& (255 : Int32))) ((wI_c (by decide)).trans (congrArg (fun X => wI X 1 14 (((p4.toUInt32 >>> ((8 : Int32).toUInt32 &&& Int32.toUInt32 31)).toInt32) &&& (255 : Int32))) ((wI_c (by decide)).trans (congrArg (fun X => wI X 1 13 ((su p4) &&& (255 : Int32))) ((wI_c (by decide)).trans (congrArg (fun X => wI X 1 12 (((p4.toUInt32 >>> ((24 : Int32).toUInt32 &&& Int32.toUInt32 31)).toInt32) &&& (255 : Int32))) ((wI_c (by decide)).trans (congrArg (fun X => wI X 1 11 (((p3.toUInt32 >>> ((0 : Int32).toUInt32 &&& Int32.toUInt32 31)).toInt32) &&& (255 : Int32))) ((wI_c (by decide)).trans (congrArg (fun X => wI X 1 10 (((p3.toUInt32 >>> ((8 : Int32).toUInt32 &&& Int32.toUInt32 31)).toInt32) &&& (255 : Int32))) ((wI_c (by decide)).trans (congrArg (fun X => wI X 1 9 ((su p3) &&& (255 : Int32))) ((wI_c (by decide)).trans (congrArg (fun X => wI X 1 8 (((p3.toUInt32 >>> ((24 : Int32).toUInt32 &&& Int32.toUInt32 31)).toInt32) &&& (255 : Int32))) ((wI_c (by decide)).trans (congrArg (fun X => wI X 1 7 (((p2.toUInt32 >>> ((0 : Int32).toUInt32 &&& Int32.toUInt32 31)).toInt32) &&& (255 : Int32))) ((wI_c (by decide)).trans (congrArg (fun X => wI X 1 6 (((p2.toUInt32 >>> ((8 : Int32).toUInt32 &&& Int32.toUInt32 31)).toInt32) &&& (255 : Int32))) ((wI_c (by decide)).trans (congrArg (fun X => wI X 1 5 ((su p2) &&& (255 : Int32))) ((wI_c (by decide)).trans (congrArg (fun X => wI X 1 4 (((p2.toUInt32 >>> ((24 : Int32).toUInt32 &&& Int32.toUInt32 31)).toInt32) &&& (255 : Int32))) ((wI_c (by decide)).trans (congrArg (fun X => wI X 1 3 (((p1.toUInt32 >>> ((0 : Int32).toUInt32 &&& Int32.toUInt32 31)).toInt32) &&& (255 : Int32))) ((wI_c (by decide)).trans (congrArg (fun X => wI X 1 2 (((p1.toUInt32 >>> ((8 : Int32).toUInt32 &&& Int32.toUInt32 31)).toInt32) &&& (255 : Int32))) ((wI_c (by decide)).trans (congrArg (fun X => wI X 1 1 ((su p1) &&& (255 : Int32))) (wI_w _ _ _ _ _))))))))))))))))))))))))))))))))))))) ?_
  refine j_iinc C 0 0 [(2, .int 0), (0, .ref (ad 0)), (1, .int p0)] dX11_putBytes_45 rfl (by decide) (by decide) rfl ?_
  refine j_goto C 3 dX11_putBytes_48 (by decide) ?_
  refine j_iload_n C 0 2 dX11_putBytes_3 rfl rfl ?_
  refine j_if_lt_f C 51 dX11_putBytes_4 (by decide) (by decide) ?_
  refine j_aload_n C 1 0 dX11_putBytes_7 rfl rfl ?_
  refine j_getI C 10 19 fX11_putBytes_13 (by decide) rfl (by decide) rfl rfl dX11_putBytes_8 ?_
  refine j_aload_n C 1 0 dX11_putBytes_11 rfl rfl ?_
  refine j_getP C 10 1 fX11_putBytes_9 (by decide) rfl (by decide) rfl rfl dX11_putBytes_12 ?_
  refine j_alen C 900 (by decide) (by decide) (by decide) dX11_putBytes_15 ?_
  refine j_icmp_ge_f C 51 dX11_putBytes_16 (by decide) (by decide) ?_
  refine j_aload_n C 1 0 dX11_putBytes_19 rfl rfl ?_
  refine j_getP C 10 1 fX11_putBytes_9 (by decide) rfl (by decide) rfl rfl dX11_putBytes_20 ?_
  refine j_aload_n C 1 0 dX11_putBytes_23 rfl rfl ?_
  refine j_getI C 10 19 fX11_putBytes_13 (by decide) rfl (by decide) rfl rfl dX11_putBytes_24 ?_
  refine j_iload_n C 2 1 dX11_putBytes_27 rfl rfl ?_
  refine j_iload_n C 0 2 dX11_putBytes_28 rfl rfl ?_
  refine z_iushr C ((p0.toUInt32 >>> ((0 : Int32).toUInt32 &&& Int32.toUInt32 31)).toInt32) rfl dX11_putBytes_29 ?_
  refine j_sipush C 255 dX11_putBytes_30 (by decide) ?_
  refine z_iand C (((p0.toUInt32 >>> ((0 : Int32).toUInt32 &&& Int32.toUInt32 31)).toInt32) &&& (255 : Int32)) rfl dX11_putBytes_33 ?_
  refine x_iast C 19 900 (by decide) rfl rfl rfl (by decide) (by decide) dX11_putBytes_34 ?_
  refine j_aload_n C 1 0 dX11_putBytes_35 rfl rfl ?_
  refine j_dup C dX11_putBytes_36 rfl ?_
  refine j_getI C 10 19 fX11_putBytes_13 (by decide) rfl (by decide) rfl rfl dX11_putBytes_37 ?_
  refine j_iconst C 1 dX11_putBytes_40 (by decide) ?_
  refine z_iadd C 20 (by decide) dX11_putBytes_41 ?_
  refine j_putI C 10 qX11_putBytes_13 rfl rfl (by decide) rfl (by decide) rfl dX11_putBytes_42 ?_
  refine j_M (M' := (wI (wI (wI (wI (wI (wI (wI (wI (wI (wI (wI (wI (wI (wI (wI (wI (wI (wI (wI (wI (wI M0 1 0 (((p1.toUInt32 >>> ((24 : Int32).toUInt32 &&& Int32.toUInt32 31)).toInt32) &&& (255 : Int32))) 0 1 20) 1 1 ((su p1) &&& (255 : Int32))) 1 2 (((p1.toUInt32 >>> ((8 : Int32).toUInt32 &&& Int32.toUInt32 31)).toInt32) &&& (255 : Int32))) 1 3 (((p1.toUInt32 >>> ((0 : Int32).toUInt32 &&& Int32.toUInt32 31)).toInt32) &&& (255 : Int32))) 1 4 (((p2.toUInt32 >>> ((24 : Int32).toUInt32 &&& Int32.toUInt32 31)).toInt32) &&& (255 : Int32))) 1 5 ((su p2) &&& (255 : Int32))) 1 6 (((p2.toUInt32 >>> ((8 : Int32).toUInt32 &&& Int32.toUInt32 31)).toInt32) &&& (255 : Int32))) 1 7 (((p2.toUInt32 >>> ((0 : Int32).toUInt32 &&& Int32.toUInt32 31)).toInt32) &&& (255 : Int32))) 1 8 (((p3.toUInt32 >>> ((24 : Int32).toUInt32 &&& Int32.toUInt32 31)).toInt32) &&& (255 : Int32))) 1 9 ((su p3) &&& (255 : Int32))) 1 10 (((p3.toUInt32 >>> ((8 : Int32).toUInt32 &&& Int32.toUInt32 31)).toInt32) &&& (255 : Int32))) 1 11 (((p3.toUInt32 >>> ((0 : Int32).toUInt32 &&& Int32.toUInt32 31)).toInt32) &&& (255 : Int32))) 1 12 (((p4.toUInt32 >>> ((24 : Int32).toUInt32 &&& Int32.toUInt32 31)).toInt32) &&& (255 : Int32))) 1 13 ((su p4) &&& (255 : Int32))) 1 14 (((p4.toUInt32 >>> ((8 : Int32).toUInt32 &&& Int32.toUInt32 31)).toInt32) &&& (255 : Int32))) 1 15 (((p4.toUInt32 >>> ((0 : Int32).toUInt32 &&& Int32.toUInt32 31)).toInt32) &&& (255 : Int32))) 1 16 (((p0.toUInt32 >>> ((24 : Int32).toUInt32 &&& Int32.toUInt32 31)).toInt32) &&& (255 : Int32))) 1 17 ((su p0) &&& (255 : Int32))) 1 18 (((p0.toUInt32 >>> ((8 : Int32).toUInt32 &&& Int32.toUInt32 31)).toInt32) &&& (255 : Int32))) 1 19 (((p0.toUInt32 >>> ((0 : Int32).toUInt32 &&& Int32.toUInt32 31)).toInt32) &&& (255 : Int32)))) ((wI_c (by decide)).trans (congrArg (fun X => wI X 1 19 (((p0.toUInt32 >>> ((0 : Int32).toUInt32 &&& Int32.toUInt32 31)).toInt32) &&& (255 : Int32))) ((wI_c (by decide)).trans (congrArg (fun X => wI X 1 18 (((p0.toUInt32 >>> ((8 : Int32).toUInt32 &&& Int32.toUInt32 31)).toInt32) &&& (255 : Int32))) ((wI_c (by decide)).trans (congrArg (fun X => wI X 1 17 ((su p0) &&& (255 : Int32))) ((wI_c (by decide)).trans (congrArg (fun X => wI X 1 16 (((p0.toUInt32 >>> ((24 : Int32).toUInt32 &&& Int32.toUInt32 31)).toInt32) &&& (255 : Int32))) ((wI_c (by decide)).trans (congrArg (fun X => wI X 1 15 (((p4.toUInt32 >>> ((0 : Int32).toUInt32 &&& Int32.toUInt32 31)).toInt32) &&& (255 : Int32))) ((wI_c (by decide)).trans (congrArg (fun X => wI X 1 14 (((p4.toUInt32 >>> ((8 : Int32).toUInt32 &&& Int32.toUInt32 31)).toInt32) &&& (255 : Int32))) ((wI_c (by decide)).trans (congrArg (fun X => wI X 1 13 ((su p4) &&& (255 : Int32))) ((wI_c (by decide)).trans (congrArg (fun X => wI X 1 12 (((p4.toUInt32 >>> ((24 : Int32).toUInt32 &&& Int32.toUInt32 31)).toInt32) &&& (255 : Int32))) ((wI_c (by decide)).trans (congrArg (fun X => wI X 1 11 (((p3.toUInt32 >>> ((0 : Int32).toUInt32 &&& Int32.toUInt32 31)).toInt32) &&& (255 : Int32))) ((wI_c (by decide)).trans (congrArg (fun X => wI X 1 10 (((p3.toUInt32 >>> ((8 : Int32).toUInt32 &&& Int32.toUInt32 31)).toInt32) &&& (255 : Int32))) ((wI_c (by decide)).trans (congrArg (fun X => wI X 1 9 ((su p3) &&& (255 : Int32))) ((wI_c (by decide)).trans (congrArg (fun X => wI X 1 8 (((p3.toUInt32 >>> ((24 : Int32).toUInt32 &&& Int32.toUInt32 31)).toInt32) &&& (255 : Int32))) ((wI_c (by decide)).trans (congrArg (fun X => wI X 1 7 (((p2.toUInt32 >>> ((0 : Int32).toUInt32 &&& Int32.toUInt32 31)).toInt32) &&& (255 : Int32))) ((wI_c (by decide)).trans (congrArg (fun X => wI X 1 6 (((p2.toUInt32 >>> ((8 : Int32).toUInt32 &&& Int32.toUInt32 31)).toInt32) &&& (255 : Int32))) ((wI_c (by decide)).trans (congrArg (fun X => wI X 1 5 ((su p2) &&& (255 : Int32))) ((wI_c (by decide)).trans (congrArg (fun X => wI X 1 4 (((p2.toUInt32 >>> ((24 : Int32).toUInt32 &&& Int32.toUInt32 31)).toInt32) &&& (255 : Int32))) ((wI_c (by decide)).trans (congrArg (fun X => wI X 1 3 (((p1.toUInt32 >>> ((0 : Int32).toUInt32 &&& Int32.toUInt32 31)).toInt32) &&& (255 : Int32))) ((wI_c (by decide)).trans (congrArg (fun X => wI X 1 2 (((p1.toUInt32 >>> ((8 : Int32).toUInt32 &&& Int32.toUInt32 31)).toInt32) &&& (255 : Int32))) ((wI_c (by decide)).trans (congrArg (fun X => wI X 1 1 ((su p1) &&& (255 : Int32))) (wI_w _ _ _ _ _))))))))))))))))))))))))))))))))))))))) ?_
  refine j_iinc C 0 (-8) [(2, .int (-8)), (0, .ref (ad 0)), (1, .int p0)] dX11_putBytes_45 rfl (by decide) (by decide) rfl ?_
  refine j_goto C 3 dX11_putBytes_48 (by decide) ?_
  refine j_iload_n C 0 2 dX11_putBytes_3 rfl rfl ?_
  refine j_if_lt_t C 51 dX11_putBytes_4 (by decide) (by decide) ?_
  exact hret _ _ _ dX11_putBytes_51 rfl
set_option maxHeartbeats 4000000 in
set_option maxRecDepth 100000 in
theorem ox_feed {l : Launch} {dC : Nat → ClassId} {dI : Nat → Nat → Nat} {ad : Nat → Nat} {cA : Nat → ClassId} (p0 : Int32) (p1 : Int32) (p2 : Int32) (p3 : Int32) (p4 : Int32) : Ci l 1 yX11_feed wsX11_feed dC dI ad cA [.ref (ad 0), .int p0, .int p1, .int p2, .int p3, .int p4] M0 (fun r M' => r = fo_feed p0 p1 p2 p3 p4 ∧ MB M') := by
  refine ci_of (cc := cX11_feed) (maxL := 6) (ty := .int) (lv := [(0, .ref (ad 0)), (1, .int p0), (2, .int p1), (3, .int p2), (4, .int p3), (5, .int p4)]) (by decide) rfl (fun r M' hp => rfl) (Nat.le_of_ble_eq_true rfl) rfl ?_
  intro p e s m args below meth c A Q C hret
  refine j_aload_n C 0 0 dX11_feed_0 rfl rfl ?_
  refine j_getI C 10 0 fX11_feed_13 (by decide) rfl (by decide) rfl rfl dX11_feed_1 ?_
  refine j_bipush C 20 dX11_feed_4 (by decide) ?_
  refine z_iadd C 20 (by decide) dX11_feed_6 ?_
  refine j_sipush C 900 dX11_feed_7 (by decide) ?_
  refine j_icmp_le_t C 16 dX11_feed_10 (by decide) (by decide) ?_
  refine j_aload_n C 0 0 dX11_feed_16 rfl rfl ?_
  refine j_iload_n C 1 1 dX11_feed_17 rfl rfl ?_
  refine j_callVv C (d := 0) (As := [.int p0]) (st := []) 0 (by decide) rfl (by decide) rfl (k1_X11_putBytes p0) gX11_feed_X11_putBytes rfl hdX11_putBytes (by decide) (Nat.le_of_ble_eq_true rfl) dX11_feed_18 rfl (fun M' hp => ?_)
  obtain rfl := hp
  refine j_aload_n C 0 0 dX11_feed_21 rfl rfl ?_
  refine j_iload_n C 2 2 dX11_feed_22 rfl rfl ?_
  refine j_callVv C (d := 0) (As := [.int p1]) (st := []) 0 (by decide) rfl (by decide) rfl (k2_X11_putBytes p1 p0) gX11_feed_X11_putBytes rfl hdX11_putBytes (by decide) (Nat.le_of_ble_eq_true rfl) dX11_feed_23 rfl (fun M' hp => ?_)
  obtain rfl := hp
  refine j_aload_n C 0 0 dX11_feed_26 rfl rfl ?_
  refine j_iload_n C 3 3 dX11_feed_27 rfl rfl ?_
  refine j_callVv C (d := 0) (As := [.int p2]) (st := []) 0 (by decide) rfl (by decide) rfl (k3_X11_putBytes p2 p0 p1) gX11_feed_X11_putBytes rfl hdX11_putBytes (by decide) (Nat.le_of_ble_eq_true rfl) dX11_feed_28 rfl (fun M' hp => ?_)
  obtain rfl := hp
  refine j_aload_n C 0 0 dX11_feed_31 rfl rfl ?_
  refine j_iload C 4 dX11_feed_32 rfl ?_
  refine j_callVv C (d := 0) (As := [.int p3]) (st := []) 0 (by decide) rfl (by decide) rfl (k4_X11_putBytes p3 p0 p1 p2) gX11_feed_X11_putBytes rfl hdX11_putBytes (by decide) (Nat.le_of_ble_eq_true rfl) dX11_feed_34 rfl (fun M' hp => ?_)
  obtain rfl := hp
  refine j_aload_n C 0 0 dX11_feed_37 rfl rfl ?_
  refine j_iload C 5 dX11_feed_38 rfl ?_
  refine j_callVv C (d := 0) (As := [.int p4]) (st := []) 0 (by decide) rfl (by decide) rfl (k5_X11_putBytes p4 p0 p1 p2 p3) gX11_feed_X11_putBytes rfl hdX11_putBytes (by decide) (Nat.le_of_ble_eq_true rfl) dX11_feed_40 rfl (fun M' hp => ?_)
  obtain rfl := hp
  refine j_aload_n C 0 0 dX11_feed_43 rfl rfl ?_
  refine j_getI C 10 20 fX11_feed_13 (by decide) rfl (by decide) rfl rfl dX11_feed_44 ?_
  exact hret _ _ _ _ dX11_feed_47 ⟨by first | rfl | (unfold fo_feed; rw [if_pos (by rw [nI_toInt (by omega)]; omega), nI_clamp (by omega)]; exact hrel) | (unfold fo_feed; (repeat' split) <;> first | rfl | (exfalso; omega) | (exfalso; simp_all; done)), (MB_I (MB_I (MB_I (MB_I (MB_I (MB_I (MB_I (MB_I (MB_I (MB_I (MB_I (MB_I (MB_I (MB_I (MB_I (MB_I (MB_I (MB_I (MB_I (MB_I (MB_I MB_0 (by decide)) (by decide)) (by decide)) (by decide)) (by decide)) (by decide)) (by decide)) (by decide)) (by decide)) (by decide)) (by decide)) (by decide)) (by decide)) (by decide)) (by decide)) (by decide)) (by decide)) (by decide)) (by decide)) (by decide)) (by decide))⟩
set_option maxHeartbeats 4000000 in
set_option maxRecDepth 100000 in
theorem k8_X7_clear {l : Launch} {dC : Nat → ClassId} {dI : Nat → Nat → Nat} {ad : Nat → Nat} {cA : Nat → ClassId} : Cv l 0 yX7_clear wsX7_clear dC dI ad cA [.ref (ad 7)] M0 (fun M' => M0 = M') := by
  refine cv_of (cc := cX7_clear) (maxL := 1) (lv := [(0, .ref (ad 7))]) (by decide) rfl (Nat.le_of_ble_eq_true rfl) rfl ?_
  intro p e s m args below meth c A Q C hret
  refine j_aload_n C 0 0 dX7_clear_0 rfl rfl ?_
  refine j_iconst C 0 dX7_clear_1 (by decide) ?_
  refine j_putI C 6 qX7_clear_9 rfl rfl (by decide) rfl (by decide) rfl dX7_clear_2 ?_
  refine z_noI rfl ?_
  refine j_aload_n C 0 0 dX7_clear_5 rfl rfl ?_
  refine j_iconst C 0 dX7_clear_6 (by decide) ?_
  refine j_putI C 6 qX7_clear_15 rfl rfl (by decide) rfl (by decide) rfl dX7_clear_7 ?_
  refine z_noI rfl ?_
  refine j_aload_n C 0 0 dX7_clear_10 rfl rfl ?_
  refine j_iconst C 0 dX7_clear_11 (by decide) ?_
  refine j_putI C 6 qX7_clear_31 rfl rfl (by decide) rfl (by decide) rfl dX7_clear_12 ?_
  refine z_noI rfl ?_
  refine j_aload_n C 0 0 dX7_clear_15 rfl rfl ?_
  refine j_iconst C 0 dX7_clear_16 (by decide) ?_
  refine j_putI C 6 qX7_clear_34 rfl rfl (by decide) rfl (by decide) rfl dX7_clear_17 ?_
  refine z_noI rfl ?_
  refine j_aload_n C 0 0 dX7_clear_20 rfl rfl ?_
  refine j_iconst C 0 dX7_clear_21 (by decide) ?_
  refine j_putI C 6 qX7_clear_37 rfl rfl (by decide) rfl (by decide) rfl dX7_clear_22 ?_
  refine z_noI rfl ?_
  refine j_aload_n C 0 0 dX7_clear_25 rfl rfl ?_
  refine j_iconst C 0 dX7_clear_26 (by decide) ?_
  refine j_putI C 6 qX7_clear_40 rfl rfl (by decide) rfl (by decide) rfl dX7_clear_27 ?_
  refine z_noI rfl ?_
  refine j_aload_n C 0 0 dX7_clear_30 rfl rfl ?_
  refine j_iconst C 0 dX7_clear_31 (by decide) ?_
  refine j_putI C 6 qX7_clear_43 rfl rfl (by decide) rfl (by decide) rfl dX7_clear_32 ?_
  refine z_noI rfl ?_
  exact hret _ _ _ dX7_clear_35 rfl
set_option maxHeartbeats 4000000 in
set_option maxRecDepth 100000 in
theorem k9_X9_clear {l : Launch} {dC : Nat → ClassId} {dI : Nat → Nat → Nat} {ad : Nat → Nat} {cA : Nat → ClassId} : Cv l 0 yX9_clear wsX9_clear dC dI ad cA [.ref (ad 15)] M0 (fun M' => M0 = M') := by
  refine cv_of (cc := cX9_clear) (maxL := 1) (lv := [(0, .ref (ad 15))]) (by decide) rfl (Nat.le_of_ble_eq_true rfl) rfl ?_
  intro p e s m args below meth c A Q C hret
  refine j_aload_n C 0 0 dX9_clear_0 rfl rfl ?_
  refine j_iconst C 0 dX9_clear_1 (by decide) ?_
  refine j_putI C 8 qX9_clear_9 rfl rfl (by decide) rfl (by decide) rfl dX9_clear_2 ?_
  refine z_noI rfl ?_
  refine j_aload_n C 0 0 dX9_clear_5 rfl rfl ?_
  refine j_iconst C 0 dX9_clear_6 (by decide) ?_
  refine j_putI C 8 qX9_clear_22 rfl rfl (by decide) rfl (by decide) rfl dX9_clear_7 ?_
  refine z_noI rfl ?_
  refine j_aload_n C 0 0 dX9_clear_10 rfl rfl ?_
  refine j_iconst C 0 dX9_clear_11 (by decide) ?_
  refine j_putI C 8 qX9_clear_25 rfl rfl (by decide) rfl (by decide) rfl dX9_clear_12 ?_
  refine z_noI rfl ?_
  refine j_aload_n C 0 0 dX9_clear_15 rfl rfl ?_
  refine j_iconst C 0 dX9_clear_16 (by decide) ?_
  refine j_putI C 8 qX9_clear_28 rfl rfl (by decide) rfl (by decide) rfl dX9_clear_17 ?_
  refine z_noI rfl ?_
  refine j_aload_n C 0 0 dX9_clear_20 rfl rfl ?_
  refine j_iconst C 0 dX9_clear_21 (by decide) ?_
  refine j_putI C 8 qX9_clear_31 rfl rfl (by decide) rfl (by decide) rfl dX9_clear_22 ?_
  refine z_noI rfl ?_
  refine j_aload_n C 0 0 dX9_clear_25 rfl rfl ?_
  refine j_iconst C 0 dX9_clear_26 (by decide) ?_
  refine j_putI C 8 qX9_clear_34 rfl rfl (by decide) rfl (by decide) rfl dX9_clear_27 ?_
  refine z_noI rfl ?_
  refine j_aload_n C 0 0 dX9_clear_30 rfl rfl ?_
  refine j_iconst C 0 dX9_clear_31 (by decide) ?_
  refine j_putI C 8 qX9_clear_37 rfl rfl (by decide) rfl (by decide) rfl dX9_clear_32 ?_
  refine z_noI rfl ?_
  exact hret _ _ _ dX9_clear_35 rfl
set_option maxHeartbeats 4000000 in
set_option maxRecDepth 100000 in
theorem k10_X8_split {l : Launch} {dC : Nat → ClassId} {dI : Nat → Nat → Nat} {ad : Nat → Nat} {cA : Nat → ClassId} : Cv l 0 yX8_split wsX8_split dC dI ad cA [.ref (ad 78), .ref (ad 1), .int 0] M0 (fun M' => (wI M0 79 0 3001) = M') := by
  refine cv_of (cc := cX8_split) (maxL := 7) (lv := [(0, .ref (ad 78)), (1, .ref (ad 1)), (2, .int 0)]) (by decide) rfl (Nat.le_of_ble_eq_true rfl) rfl ?_
  intro p e s m args below meth c A Q C hret
  refine j_iconst C 0 dX8_split_0 (by decide) ?_
  refine j_istore_n C 3 [(3, .int 0), (0, .ref (ad 78)), (1, .ref (ad 1)), (2, .int 0)] dX8_split_1 rfl (by decide) rfl ?_
  refine j_iconst C 0 dX8_split_2 (by decide) ?_
  refine j_istore C 4 [(4, .int 0), (3, .int 0), (0, .ref (ad 78)), (1, .ref (ad 1)), (2, .int 0)] dX8_split_3 (by decide) rfl ?_
  refine j_iconst C 1 dX8_split_5 (by decide) ?_
  refine j_istore C 5 [(5, .int 1), (4, .int 0), (3, .int 0), (0, .ref (ad 78)), (1, .ref (ad 1)), (2, .int 0)] dX8_split_6 (by decide) rfl ?_
  refine j_iload C 1 dX8_split_8 rfl ?_
  refine j_iload_n C 5 2 dX8_split_10 rfl rfl ?_
  refine j_icmp_ge_t C 109 dX8_split_11 (by decide) (by decide) ?_
  refine j_aload_n C 3 0 dX8_split_109 rfl rfl ?_
  refine j_getP C 7 80 fX8_split_15 (by decide) rfl (by decide) rfl rfl dX8_split_110 ?_
  refine j_iload_n C 2 3 dX8_split_113 rfl rfl ?_
  refine j_iload_n C 5 2 dX8_split_114 rfl rfl ?_
  refine x_iast C 0 901 (by decide) rfl rfl rfl (by decide) (by decide) dX8_split_115 ?_
  refine z_noI rfl ?_
  refine j_aload_n C 3 0 dX8_split_116 rfl rfl ?_
  refine j_getP C 7 79 fX8_split_9 (by decide) rfl (by decide) rfl rfl dX8_split_117 ?_
  refine j_iload_n C 2 3 dX8_split_120 rfl rfl ?_
  refine j_sipush C 3001 dX8_split_121 (by decide) ?_
  refine x_iast C 0 901 (by decide) rfl rfl rfl (by decide) (by decide) dX8_split_124 ?_
  exact hret _ _ _ dX8_split_125 rfl
set_option maxHeartbeats 4000000 in
set_option maxRecDepth 100000 in
theorem k11_X8_token {l : Launch} {dC : Nat → ClassId} {dI : Nat → Nat → Nat} {ad : Nat → Nat} {cA : Nat → ClassId} : Ci l 0 yX8_token wsX8_token dC dI ad cA [.ref (ad 78)] (wI M0 79 0 3001) (fun r M' => 3001 = r ∧ (wI M0 79 0 3001) = M') := by
  refine ci_of (cc := cX8_token) (maxL := 1) (ty := .int) (lv := [(0, .ref (ad 78))]) (by decide) rfl (fun r M' hp => rfl) (Nat.le_of_ble_eq_true rfl) rfl ?_
  intro p e s m args below meth c A Q C hret
  refine j_aload_n C 0 0 dX8_token_0 rfl rfl ?_
  refine j_getI C 7 0 fX8_token_18 (by decide) rfl (by decide) rfl rfl dX8_token_1 ?_
  refine j_aload_n C 0 0 dX8_token_4 rfl rfl ?_
  refine j_getP C 7 79 fX8_token_9 (by decide) rfl (by decide) rfl rfl dX8_token_5 ?_
  refine j_alen C 901 (by decide) (by decide) (by decide) dX8_token_8 ?_
  refine j_icmp_ge_f C 24 dX8_token_9 (by decide) (by decide) ?_
  refine j_aload_n C 0 0 dX8_token_12 rfl rfl ?_
  refine j_getP C 7 79 fX8_token_9 (by decide) rfl (by decide) rfl rfl dX8_token_13 ?_
  refine j_aload_n C 0 0 dX8_token_16 rfl rfl ?_
  refine j_getI C 7 0 fX8_token_18 (by decide) rfl (by decide) rfl rfl dX8_token_17 ?_
  refine x_iald C 0 901 3001 (by decide) rfl rfl rfl (by decide) (by decide) rfl dX8_token_20 ?_
  refine j_goto C 27 dX8_token_21 (by decide) ?_
  exact hret _ _ _ _ dX8_token_27 ⟨rfl, rfl⟩
set_option maxHeartbeats 4000000 in
set_option maxRecDepth 100000 in
theorem k12_X8_fail {l : Launch} {dC : Nat → ClassId} {dI : Nat → Nat → Nat} {ad : Nat → Nat} {cA : Nat → ClassId} : Cv l 0 yX8_fail wsX8_fail dC dI ad cA [.ref (ad 78), .int 2] (wI M0 79 0 3001) (fun M' => (wI (wI (wI M0 79 0 3001) 78 5 2) 78 6 0) = M') := by
  refine cv_of (cc := cX8_fail) (maxL := 2) (lv := [(0, .ref (ad 78)), (1, .int 2)]) (by decide) rfl (Nat.le_of_ble_eq_true rfl) rfl ?_
  intro p e s m args below meth c A Q C hret
  refine j_aload_n C 0 0 dX8_fail_0 rfl rfl ?_
  refine j_getI C 7 0 fX8_fail_22 (by decide) rfl (by decide) rfl rfl dX8_fail_1 ?_
  refine j_if_ne_f C 56 dX8_fail_4 (by decide) (by decide) ?_
  refine j_aload_n C 0 0 dX8_fail_7 rfl rfl ?_
  refine j_getI C 7 0 fX8_fail_18 (by decide) rfl (by decide) rfl rfl dX8_fail_8 ?_
  refine j_aload_n C 0 0 dX8_fail_11 rfl rfl ?_
  refine j_getP C 7 79 fX8_fail_9 (by decide) rfl (by decide) rfl rfl dX8_fail_12 ?_
  refine j_alen C 901 (by decide) (by decide) (by decide) dX8_fail_15 ?_
  refine j_icmp_ge_f C 56 dX8_fail_16 (by decide) (by decide) ?_
  refine j_aload_n C 0 0 dX8_fail_19 rfl rfl ?_
  refine j_aload_n C 0 0 dX8_fail_20 rfl rfl ?_
  refine j_getP C 7 79 fX8_fail_9 (by decide) rfl (by decide) rfl rfl dX8_fail_21 ?_
  refine j_aload_n C 0 0 dX8_fail_24 rfl rfl ?_
  refine j_getI C 7 0 fX8_fail_18 (by decide) rfl (by decide) rfl rfl dX8_fail_25 ?_
  refine x_iald C 0 901 3001 (by decide) rfl rfl rfl (by decide) (by decide) rfl dX8_fail_28 ?_
  refine j_sipush C 3000 dX8_fail_29 (by decide) ?_
  refine j_icmp_ne_t C 39 dX8_fail_32 (by decide) (by decide) ?_
  refine j_iload_n C 1 1 dX8_fail_39 rfl rfl ?_
  refine j_putI C 7 qX8_fail_22 rfl rfl (by decide) rfl (by decide) rfl dX8_fail_40 ?_
  refine j_aload_n C 0 0 dX8_fail_43 rfl rfl ?_
  refine j_aload_n C 0 0 dX8_fail_44 rfl rfl ?_
  refine j_getP C 7 80 fX8_fail_15 (by decide) rfl (by decide) rfl rfl dX8_fail_45 ?_
  refine j_aload_n C 0 0 dX8_fail_48 rfl rfl ?_
  refine j_getI C 7 0 fX8_fail_18 (by decide) rfl (by decide) rfl rfl dX8_fail_49 ?_
  refine x_iald C 0 901 0 (by decide) rfl rfl rfl (by decide) (by decide) rfl dX8_fail_52 ?_
  refine j_putI C 7 qX8_fail_25 rfl rfl (by decide) rfl (by decide) rfl dX8_fail_53 ?_
  exact hret _ _ _ dX8_fail_56 rfl
set_option maxHeartbeats 4000000 in
set_option maxRecDepth 100000 in
theorem k13_X8_expect {l : Launch} {dC : Nat → ClassId} {dI : Nat → Nat → Nat} {ad : Nat → Nat} {cA : Nat → ClassId} : Cv l 1 yX8_expect wsX8_expect dC dI ad cA [.ref (ad 78), .int 1008] (wI M0 79 0 3001) (fun M' => (wI (wI (wI M0 79 0 3001) 78 5 2) 78 6 0) = M') := by
  refine cv_of (cc := cX8_expect) (maxL := 2) (lv := [(0, .ref (ad 78)), (1, .int 1008)]) (by decide) rfl (Nat.le_of_ble_eq_true rfl) rfl ?_
  intro p e s m args below meth c A Q C hret
  refine j_aload_n C 0 0 dX8_expect_0 rfl rfl ?_
  refine j_getI C 7 0 fX8_expect_22 (by decide) rfl (by decide) rfl rfl dX8_expect_1 ?_
  refine j_if_eq_t C 8 dX8_expect_4 (by decide) (by decide) ?_
  refine j_aload_n C 0 0 dX8_expect_8 rfl rfl ?_
  refine j_callVi C (d := 0) (As := []) (st := []) 78 (by decide) rfl (by decide) rfl (k11_X8_token) gX8_expect_X8_token rfl hdX8_token (by decide) (Nat.le_of_ble_eq_true rfl) dX8_expect_9 rfl (fun r M' hp => ?_)
  obtain ⟨rfl, rfl⟩ := hp
  refine j_iload_n C 1 1 dX8_expect_12 rfl rfl ?_
  refine j_icmp_ne_t C 29 dX8_expect_13 (by decide) (by decide) ?_
  refine j_aload_n C 0 0 dX8_expect_29 rfl rfl ?_
  refine j_iconst C 2 dX8_expect_30 (by decide) ?_
  refine j_callVv C (d := 0) (As := [.int 2]) (st := []) 78 (by decide) rfl (by decide) rfl (k12_X8_fail) gX8_expect_X8_fail rfl hdX8_fail (by decide) (Nat.le_of_ble_eq_true rfl) dX8_expect_31 rfl (fun M' hp => ?_)
  obtain rfl := hp
  exact hret _ _ _ dX8_expect_34 rfl
set_option maxHeartbeats 4000000 in
set_option maxRecDepth 100000 in
theorem k14_X8_expect {l : Launch} {dC : Nat → ClassId} {dI : Nat → Nat → Nat} {ad : Nat → Nat} {cA : Nat → ClassId} : Cv l 0 yX8_expect wsX8_expect dC dI ad cA [.ref (ad 78), .int 2059] (wI (wI (wI M0 79 0 3001) 78 5 2) 78 6 0) (fun M' => (wI (wI (wI M0 79 0 3001) 78 5 2) 78 6 0) = M') := by
  refine cv_of (cc := cX8_expect) (maxL := 2) (lv := [(0, .ref (ad 78)), (1, .int 2059)]) (by decide) rfl (Nat.le_of_ble_eq_true rfl) rfl ?_
  intro p e s m args below meth c A Q C hret
  refine j_aload_n C 0 0 dX8_expect_0 rfl rfl ?_
  refine j_getI C 7 2 fX8_expect_22 (by decide) rfl (by decide) rfl rfl dX8_expect_1 ?_
  refine j_if_eq_f C 8 dX8_expect_4 (by decide) (by decide) ?_
  exact hret _ _ _ dX8_expect_7 rfl
set_option maxHeartbeats 4000000 in
set_option maxRecDepth 100000 in
theorem k15_X8_endLine {l : Launch} {dC : Nat → ClassId} {dI : Nat → Nat → Nat} {ad : Nat → Nat} {cA : Nat → ClassId} : Cv l 1 yX8_endLine wsX8_endLine dC dI ad cA [.ref (ad 78)] (wI (wI (wI M0 79 0 3001) 78 5 2) 78 6 0) (fun M' => (wI (wI (wI (wI M0 79 0 3001) 78 5 2) 78 6 0) 7 1 1) = M') := by
  refine cv_of (cc := cX8_endLine) (maxL := 1) (lv := [(0, .ref (ad 78))]) (by decide) rfl (Nat.le_of_ble_eq_true rfl) rfl ?_
  intro p e s m args below meth c A Q C hret
  refine j_aload_n C 0 0 dX8_endLine_0 rfl rfl ?_
  refine j_sipush C 2059 dX8_endLine_1 (by decide) ?_
  refine j_callVv C (d := 0) (As := [.int 2059]) (st := []) 78 (by decide) rfl (by decide) rfl (k14_X8_expect) gX8_endLine_X8_expect rfl hdX8_expect (by decide) (Nat.le_of_ble_eq_true rfl) dX8_endLine_4 rfl (fun M' hp => ?_)
  obtain rfl := hp
  refine j_aload_n C 0 0 dX8_endLine_7 rfl rfl ?_
  refine j_getP C 7 7 fX8_endLine_28 (by decide) rfl (by decide) rfl rfl dX8_endLine_8 ?_
  refine j_dup C dX8_endLine_11 rfl ?_
  refine j_getI C 6 0 fX8_endLine_84 (by decide) rfl (by decide) rfl rfl dX8_endLine_12 ?_
  refine j_iconst C 1 dX8_endLine_15 (by decide) ?_
  refine z_iadd C 1 (by decide) dX8_endLine_16 ?_
  refine j_putI C 6 qX8_endLine_84 rfl rfl (by decide) rfl (by decide) rfl dX8_endLine_17 ?_
  exact hret _ _ _ dX8_endLine_20 rfl
set_option maxHeartbeats 4000000 in
set_option maxRecDepth 100000 in
theorem k16_X8_read {l : Launch} {dC : Nat → ClassId} {dI : Nat → Nat → Nat} {ad : Nat → Nat} {cA : Nat → ClassId} : Cv l 2 yX8_read wsX8_read dC dI ad cA [.ref (ad 78), .ref (ad 1), .int 0, .ref (ad 7), .ref (ad 15)] M0 (fun M' => (wI (wI (wI (wI M0 79 0 3001) 78 5 2) 78 6 0) 7 1 1) = M') := by
  refine cv_of (cc := cX8_read) (maxL := 6) (lv := [(0, .ref (ad 78)), (1, .ref (ad 1)), (2, .int 0), (3, .ref (ad 7)), (4, .ref (ad 15))]) (by decide) rfl (Nat.le_of_ble_eq_true rfl) rfl ?_
  intro p e s m args below meth c A Q C hret
  refine j_aload_n C 0 0 dX8_read_0 rfl rfl ?_
  refine j_aload_n C 3 3 dX8_read_1 rfl rfl ?_
  refine j_putP C 7 qX8_read_28 rfl rfl (by decide) rfl (by decide) rfl dX8_read_2 ?_
  refine z_noP rfl ?_
  refine j_aload_n C 0 0 dX8_read_5 rfl rfl ?_
  refine j_aload C 4 dX8_read_6 rfl ?_
  refine j_putP C 7 qX8_read_32 rfl rfl (by decide) rfl (by decide) rfl dX8_read_8 ?_
  refine z_noP rfl ?_
  refine j_aload_n C 0 0 dX8_read_11 rfl rfl ?_
  refine j_getP C 7 7 fX8_read_28 (by decide) rfl (by decide) rfl rfl dX8_read_12 ?_
  refine j_callVv C (d := 0) (As := []) (st := []) 7 (by decide) rfl (by decide) rfl (k8_X7_clear) gX8_read_X7_clear rfl hdX7_clear (by decide) (Nat.le_of_ble_eq_true rfl) dX8_read_15 rfl (fun M' hp => ?_)
  obtain rfl := hp
  refine j_aload_n C 0 0 dX8_read_18 rfl rfl ?_
  refine j_getP C 7 15 fX8_read_32 (by decide) rfl (by decide) rfl rfl dX8_read_19 ?_
  refine j_callVv C (d := 0) (As := []) (st := []) 15 (by decide) rfl (by decide) rfl (k9_X9_clear) gX8_read_X9_clear rfl hdX9_clear (by decide) (Nat.le_of_ble_eq_true rfl) dX8_read_22 rfl (fun M' hp => ?_)
  obtain rfl := hp
  refine j_aload_n C 0 0 dX8_read_25 rfl rfl ?_
  refine j_aload_n C 1 1 dX8_read_26 rfl rfl ?_
  refine j_iload_n C 2 2 dX8_read_27 rfl rfl ?_
  refine j_callVv C (d := 0) (As := [.ref (ad 1), .int 0]) (st := []) 78 (by decide) rfl (by decide) rfl (k10_X8_split) gX8_read_X8_split rfl hdX8_split (by decide) (Nat.le_of_ble_eq_true rfl) dX8_read_28 rfl (fun M' hp => ?_)
  obtain rfl := hp
  refine j_aload_n C 0 0 dX8_read_31 rfl rfl ?_
  refine j_iconst C 0 dX8_read_32 (by decide) ?_
  refine j_putI C 7 qX8_read_18 rfl rfl (by decide) rfl (by decide) rfl dX8_read_33 ?_
  refine z_noI rfl ?_
  refine j_aload_n C 0 0 dX8_read_36 rfl rfl ?_
  refine j_iconst C 0 dX8_read_37 (by decide) ?_
  refine j_putI C 7 qX8_read_22 rfl rfl (by decide) rfl (by decide) rfl dX8_read_38 ?_
  refine z_noI rfl ?_
  refine j_aload_n C 0 0 dX8_read_41 rfl rfl ?_
  refine j_iconst C (-1) dX8_read_42 (by decide) ?_
  refine j_putI C 7 qX8_read_25 rfl rfl (by decide) rfl (by decide) rfl dX8_read_43 ?_
  refine z_noI rfl ?_
  refine j_aload_n C 0 0 dX8_read_46 rfl rfl ?_
  refine j_sipush C 1008 dX8_read_47 (by decide) ?_
  refine j_callVv C (d := 1) (As := [.int 1008]) (st := []) 78 (by decide) rfl (by decide) rfl (k13_X8_expect) gX8_read_X8_expect rfl hdX8_expect (by decide) (Nat.le_of_ble_eq_true rfl) dX8_read_50 rfl (fun M' hp => ?_)
  obtain rfl := hp
  refine j_aload_n C 0 0 dX8_read_53 rfl rfl ?_
  refine j_callVv C (d := 1) (As := []) (st := []) 78 (by decide) rfl (by decide) rfl (k15_X8_endLine) gX8_read_X8_endLine rfl hdX8_endLine (by decide) (Nat.le_of_ble_eq_true rfl) dX8_read_54 rfl (fun M' hp => ?_)
  obtain rfl := hp
  refine j_iconst C 0 dX8_read_57 (by decide) ?_
  refine j_istore C 5 [(5, .int 0), (0, .ref (ad 78)), (1, .ref (ad 1)), (2, .int 0), (3, .ref (ad 7)), (4, .ref (ad 15))] dX8_read_58 (by decide) rfl ?_
  refine j_iload C 0 dX8_read_60 rfl ?_
  refine j_sipush C 900 dX8_read_62 (by decide) ?_
  refine j_icmp_ge_f C 99 dX8_read_65 (by decide) (by decide) ?_
  refine j_aload_n C 1 0 dX8_read_68 rfl rfl ?_
  refine j_getI C 7 2 fX8_read_22 (by decide) rfl (by decide) rfl rfl dX8_read_69 ?_
  refine j_if_ne_t C 99 dX8_read_72 (by decide) (by decide) ?_
  exact hret _ _ _ dX8_read_99 rfl
set_option maxHeartbeats 4000000 in
set_option maxRecDepth 100000 in
theorem ox_shop {l : Launch} {dC : Nat → ClassId} {dI : Nat → Nat → Nat} {ad : Nat → Nat} {cA : Nat → ClassId} (p0 : Int32) : Ci l 3 yX11_shop wsX11_shop dC dI ad cA [.ref (ad 0), .int p0] M0 (fun r M' => r = fo_shop p0 ∧ MB M') := by
  refine ci_of (cc := cX11_shop) (maxL := 3) (ty := .int) (lv := [(0, .ref (ad 0)), (1, .int p0)]) (by decide) rfl (fun r M' hp => rfl) (Nat.le_of_ble_eq_true rfl) rfl ?_
  intro p e s m args below meth c A Q C hret
  refine j_iload_n C 1 1 dX11_shop_0 rfl rfl ?_
  refine z_if_lt C 12 p0.toInt rfl dX11_shop_1 (by decide) (fun h1 => ?_) (fun h1 => ?_)
  · refine j_bipush C (-3) dX11_shop_12 (by decide) ?_
    exact hret _ _ _ _ dX11_shop_14 ⟨by first | rfl | (unfold fo_shop; rw [if_pos (by rw [nI_toInt (by omega)]; omega), nI_clamp (by omega)]; exact hrel) | (unfold fo_shop; (repeat' split) <;> first | rfl | (exfalso; omega) | (exfalso; simp_all; done)), MB_0⟩
  · refine j_iload_n C 1 1 dX11_shop_4 rfl rfl ?_
    refine j_aload_n C 0 0 dX11_shop_5 rfl rfl ?_
    refine j_getI C 10 0 fX11_shop_13 (by decide) rfl (by decide) rfl rfl dX11_shop_6 ?_
    refine z_icmp_le C 15 p0.toInt 0 rfl (by decide) dX11_shop_9 (by decide) (fun h2 => ?_) (fun h2 => ?_)
    · obtain rfl : p0 = 0 := Int32.toInt_inj.mp (show p0.toInt = (0 : Int32).toInt by rw [show (0 : Int32).toInt = 0 from rfl]; omega)
      show jj _ _ _ _ _ _ _ _ _ _ _ _ _ _ _ _ _ _ _ M0 15 [(0, .ref (ad 0)), (1, .int 0)] []
      refine j_aload_n C 0 0 dX11_shop_15 rfl rfl ?_
      refine j_getP C 10 78 fX11_shop_67 (by decide) rfl (by decide) rfl rfl dX11_shop_16 ?_
      refine j_aload_n C 0 0 dX11_shop_19 rfl rfl ?_
      refine j_getP C 10 1 fX11_shop_9 (by decide) rfl (by decide) rfl rfl dX11_shop_20 ?_
      refine j_iload_n C 1 1 dX11_shop_23 rfl rfl ?_
      refine j_aload_n C 0 0 dX11_shop_24 rfl rfl ?_
      refine j_getP C 10 7 fX11_shop_30 (by decide) rfl (by decide) rfl rfl dX11_shop_25 ?_
      refine j_aload_n C 0 0 dX11_shop_28 rfl rfl ?_
      refine j_getP C 10 15 fX11_shop_40 (by decide) rfl (by decide) rfl rfl dX11_shop_29 ?_
      refine j_callVv C (d := 2) (As := [.ref (ad 1), .int 0, .ref (ad 7), .ref (ad 15)]) (st := []) 78 (by decide) rfl (by decide) rfl (k16_X8_read) gX11_shop_X8_read rfl hdX8_read (by decide) (Nat.le_of_ble_eq_true rfl) dX11_shop_32 rfl (fun M' hp => ?_)
      obtain rfl := hp
      refine j_aload_n C 0 0 dX11_shop_35 rfl rfl ?_
      refine j_iconst C 0 dX11_shop_36 (by decide) ?_
      refine j_putI C 10 qX11_shop_13 rfl rfl (by decide) rfl (by decide) rfl dX11_shop_37 ?_
      refine z_noI rfl ?_
      refine j_aload_n C 0 0 dX11_shop_40 rfl rfl ?_
      refine j_aload_n C 0 0 dX11_shop_41 rfl rfl ?_
      refine j_getP C 10 78 fX11_shop_67 (by decide) rfl (by decide) rfl rfl dX11_shop_42 ?_
      refine j_getI C 7 2 fX11_shop_117 (by decide) rfl (by decide) rfl rfl dX11_shop_45 ?_
      refine j_putI C 10 qX11_shop_17 rfl rfl (by decide) rfl (by decide) rfl dX11_shop_48 ?_
      refine j_aload_n C 0 0 dX11_shop_51 rfl rfl ?_
      refine j_aload_n C 0 0 dX11_shop_52 rfl rfl ?_
      refine j_getP C 10 78 fX11_shop_67 (by decide) rfl (by decide) rfl rfl dX11_shop_53 ?_
      refine j_getI C 7 0 fX11_shop_120 (by decide) rfl (by decide) rfl rfl dX11_shop_56 ?_
      refine j_putI C 10 qX11_shop_20 rfl rfl (by decide) rfl (by decide) rfl dX11_shop_59 ?_
      refine j_aload_n C 0 0 dX11_shop_62 rfl rfl ?_
      refine j_getI C 10 2 fX11_shop_17 (by decide) rfl (by decide) rfl rfl dX11_shop_63 ?_
      refine j_if_eq_f C 77 dX11_shop_66 (by decide) (by decide) ?_
      refine j_bipush C (-30) dX11_shop_69 (by decide) ?_
      refine j_aload_n C 0 0 dX11_shop_71 rfl rfl ?_
      refine j_getI C 10 2 fX11_shop_17 (by decide) rfl (by decide) rfl rfl dX11_shop_72 ?_
      refine z_isub C (-32) (by decide) dX11_shop_75 ?_
      exact hret _ _ _ _ dX11_shop_76 ⟨by first | rfl | (unfold fo_shop; rw [if_pos (by rw [nI_toInt (by omega)]; omega), nI_clamp (by omega)]; exact hrel) | (unfold fo_shop; (repeat' split) <;> first | rfl | (exfalso; omega) | (exfalso; simp_all; done)), (MB_I (MB_I (MB_I (MB_I (MB_I (MB_I MB_0 (by decide)) (by decide)) (by decide)) (by decide)) (by decide)) (by decide))⟩
    · refine j_bipush C (-3) dX11_shop_12 (by decide) ?_
      exact hret _ _ _ _ dX11_shop_14 ⟨by first | rfl | (unfold fo_shop; rw [if_pos (by rw [nI_toInt (by omega)]; omega), nI_clamp (by omega)]; exact hrel) | (unfold fo_shop; (repeat' split) <;> first | rfl | (exfalso; omega) | (exfalso; simp_all; done)), MB_0⟩
set_option maxHeartbeats 4000000 in
set_option maxRecDepth 100000 in
theorem ox_fault {l : Launch} {dC : Nat → ClassId} {dI : Nat → Nat → Nat} {ad : Nat → Nat} {cA : Nat → ClassId} (p0 : Int32) : Ci l 0 yX11_fault wsX11_fault dC dI ad cA [.ref (ad 0), .int p0] M0 (fun r M' => r = fo_fault p0 ∧ MB M') := by
  refine ci_of (cc := cX11_fault) (maxL := 2) (ty := .int) (lv := [(0, .ref (ad 0)), (1, .int p0)]) (by decide) rfl (fun r M' hp => rfl) (Nat.le_of_ble_eq_true rfl) rfl ?_
  intro p e s m args below meth c A Q C hret
  refine j_iload_n C 1 1 dX11_fault_0 rfl rfl ?_
  refine z_if_ne C 9 p0.toInt rfl dX11_fault_1 (by decide) (fun h1 => ?_) (fun h1 => ?_)
  · refine j_iload_n C 1 1 dX11_fault_9 rfl rfl ?_
    refine j_iconst C 1 dX11_fault_10 (by decide) ?_
    refine z_icmp_ne C 21 p0.toInt 1 rfl (by decide) dX11_fault_11 (by decide) (fun h2 => ?_) (fun h2 => ?_)
    · refine j_iconst C (-1) dX11_fault_21 (by decide) ?_
      exact hret _ _ _ _ dX11_fault_22 ⟨by first | rfl | (unfold fo_fault; rw [if_pos (by rw [nI_toInt (by omega)]; omega), nI_clamp (by omega)]; exact hrel) | (unfold fo_fault; (repeat' split) <;> first | rfl | (exfalso; omega) | (exfalso; simp_all; done)), MB_0⟩
    · obtain rfl : p0 = 1 := Int32.toInt_inj.mp (show p0.toInt = (1 : Int32).toInt by rw [show (1 : Int32).toInt = 1 from rfl]; omega)
      show jj _ _ _ _ _ _ _ _ _ _ _ _ _ _ _ _ _ _ _ M0 14 [(0, .ref (ad 0)), (1, .int 1)] []
      refine j_aload_n C 0 0 dX11_fault_14 rfl rfl ?_
      refine j_getI C 10 (-1) fX11_fault_20 (by decide) rfl (by decide) rfl rfl dX11_fault_15 ?_
      refine j_goto C 22 dX11_fault_18 (by decide) ?_
      exact hret _ _ _ _ dX11_fault_22 ⟨by first | rfl | (unfold fo_fault; rw [if_pos (by rw [nI_toInt (by omega)]; omega), nI_clamp (by omega)]; exact hrel) | (unfold fo_fault; (repeat' split) <;> first | rfl | (exfalso; omega) | (exfalso; simp_all; done)), MB_0⟩
  · obtain rfl : p0 = 0 := Int32.toInt_inj.mp (show p0.toInt = (0 : Int32).toInt by rw [show (0 : Int32).toInt = 0 from rfl]; omega)
    show jj _ _ _ _ _ _ _ _ _ _ _ _ _ _ _ _ _ _ _ M0 4 [(0, .ref (ad 0)), (1, .int 0)] []
    refine j_aload_n C 0 0 dX11_fault_4 rfl rfl ?_
    refine j_getI C 10 0 fX11_fault_17 (by decide) rfl (by decide) rfl rfl dX11_fault_5 ?_
    exact hret _ _ _ _ dX11_fault_8 ⟨by first | rfl | (unfold fo_fault; rw [if_pos (by rw [nI_toInt (by omega)]; omega), nI_clamp (by omega)]; exact hrel) | (unfold fo_fault; (repeat' split) <;> first | rfl | (exfalso; omega) | (exfalso; simp_all; done)), MB_0⟩
set_option maxHeartbeats 4000000 in
set_option maxRecDepth 100000 in
theorem k32_X11_isKind {l : Launch} {dC : Nat → ClassId} {dI : Nat → Nat → Nat} {ad : Nat → Nat} {cA : Nat → ClassId} (p0 : Int32) : Ci l 0 yX11_isKind wsX11_isKind dC dI ad cA [.ref (ad 0), .int p0] M0 (fun r M' => 0 = r ∧ M0 = M') := by
  refine ci_of (cc := cX11_isKind) (maxL := 2) (ty := .boolean) (lv := [(0, .ref (ad 0)), (1, .int p0)]) (by decide) rfl (fun r M' hp => by obtain ⟨rfl, rfl⟩ := hp; rfl) (Nat.le_of_ble_eq_true rfl) rfl ?_
  intro p e s m args below meth c A Q C hret
  refine j_iload_n C 1 1 dX11_isKind_0 rfl rfl ?_
  refine z_if_lt C 19 p0.toInt rfl dX11_isKind_1 (by decide) (fun h1 => ?_) (fun h1 => ?_)
  · refine j_iconst C 0 dX11_isKind_19 (by decide) ?_
    exact hret _ _ _ _ dX11_isKind_20 ⟨rfl, rfl⟩
  · refine j_iload_n C 1 1 dX11_isKind_4 rfl rfl ?_
    refine j_aload_n C 0 0 dX11_isKind_5 rfl rfl ?_
    refine j_getP C 10 12 fX11_isKind_36 (by decide) rfl (by decide) rfl rfl dX11_isKind_6 ?_
    refine j_getI C 8 0 fX11_isKind_160 (by decide) rfl (by decide) rfl rfl dX11_isKind_9 ?_
    refine z_icmp_ge C 19 p0.toInt 0 rfl (by decide) dX11_isKind_12 (by decide) (fun h2 => ?_) (fun h2 => ?_)
    · refine j_iconst C 0 dX11_isKind_19 (by decide) ?_
      exact hret _ _ _ _ dX11_isKind_20 ⟨rfl, rfl⟩
    · exfalso; omega
set_option maxHeartbeats 4000000 in
set_option maxRecDepth 100000 in
theorem ox_kind {l : Launch} {dC : Nat → ClassId} {dI : Nat → Nat → Nat} {ad : Nat → Nat} {cA : Nat → ClassId} (p0 : Int32) (p1 : Int32) : Ci l 1 yX11_kind wsX11_kind dC dI ad cA [.ref (ad 0), .int p0, .int p1] M0 (fun r M' => r = fo_kind p0 p1 ∧ MB M') := by
  refine ci_of (cc := cX11_kind) (maxL := 3) (ty := .int) (lv := [(0, .ref (ad 0)), (1, .int p0), (2, .int p1)]) (by decide) rfl (fun r M' hp => rfl) (Nat.le_of_ble_eq_true rfl) rfl ?_
  intro p e s m args below meth c A Q C hret
  refine j_aload_n C 0 0 dX11_kind_0 rfl rfl ?_
  refine j_iload_n C 1 1 dX11_kind_1 rfl rfl ?_
  refine j_callVi C (d := 0) (As := [.int p0]) (st := []) 0 (by decide) rfl (by decide) rfl (k32_X11_isKind p0) gX11_kind_X11_isKind rfl hdX11_isKind (by decide) (Nat.le_of_ble_eq_true rfl) dX11_kind_2 rfl (fun r M' hp => ?_)
  obtain ⟨rfl, rfl⟩ := hp
  refine j_if_ne_f C 11 dX11_kind_5 (by decide) (by decide) ?_
  refine j_bipush C (-2) dX11_kind_8 (by decide) ?_
  exact hret _ _ _ _ dX11_kind_10 ⟨by first | rfl | (unfold fo_kind; rw [if_pos (by rw [nI_toInt (by omega)]; omega), nI_clamp (by omega)]; exact hrel) | (unfold fo_kind; (repeat' split) <;> first | rfl | (exfalso; omega) | (exfalso; simp_all; done)), MB_0⟩
set_option maxHeartbeats 4000000 in
set_option maxRecDepth 100000 in
theorem k37_X11_isBuyer {l : Launch} {dC : Nat → ClassId} {dI : Nat → Nat → Nat} {ad : Nat → Nat} {cA : Nat → ClassId} (p0 : Int32) : Ci l 0 yX11_isBuyer wsX11_isBuyer dC dI ad cA [.ref (ad 0), .int p0] M0 (fun r M' => 0 = r ∧ M0 = M') := by
  refine ci_of (cc := cX11_isBuyer) (maxL := 2) (ty := .boolean) (lv := [(0, .ref (ad 0)), (1, .int p0)]) (by decide) rfl (fun r M' hp => by obtain ⟨rfl, rfl⟩ := hp; rfl) (Nat.le_of_ble_eq_true rfl) rfl ?_
  intro p e s m args below meth c A Q C hret
  refine j_iload_n C 1 1 dX11_isBuyer_0 rfl rfl ?_
  refine z_if_lt C 19 p0.toInt rfl dX11_isBuyer_1 (by decide) (fun h1 => ?_) (fun h1 => ?_)
  · refine j_iconst C 0 dX11_isBuyer_19 (by decide) ?_
    exact hret _ _ _ _ dX11_isBuyer_20 ⟨rfl, rfl⟩
  · refine j_iload_n C 1 1 dX11_isBuyer_4 rfl rfl ?_
    refine j_aload_n C 0 0 dX11_isBuyer_5 rfl rfl ?_
    refine j_getP C 10 2 fX11_isBuyer_26 (by decide) rfl (by decide) rfl rfl dX11_isBuyer_6 ?_
    refine j_getI C 6 0 fX11_isBuyer_163 (by decide) rfl (by decide) rfl rfl dX11_isBuyer_9 ?_
    refine z_icmp_ge C 19 p0.toInt 0 rfl (by decide) dX11_isBuyer_12 (by decide) (fun h2 => ?_) (fun h2 => ?_)
    · refine j_iconst C 0 dX11_isBuyer_19 (by decide) ?_
      exact hret _ _ _ _ dX11_isBuyer_20 ⟨rfl, rfl⟩
    · exfalso; omega
set_option maxHeartbeats 4000000 in
set_option maxRecDepth 100000 in
theorem ox_buyer {l : Launch} {dC : Nat → ClassId} {dI : Nat → Nat → Nat} {ad : Nat → Nat} {cA : Nat → ClassId} (p0 : Int32) (p1 : Int32) : Ci l 1 yX11_buyer wsX11_buyer dC dI ad cA [.ref (ad 0), .int p0, .int p1] M0 (fun r M' => r = fo_buyer p0 p1 ∧ MB M') := by
  refine ci_of (cc := cX11_buyer) (maxL := 3) (ty := .int) (lv := [(0, .ref (ad 0)), (1, .int p0), (2, .int p1)]) (by decide) rfl (fun r M' hp => rfl) (Nat.le_of_ble_eq_true rfl) rfl ?_
  intro p e s m args below meth c A Q C hret
  refine j_aload_n C 0 0 dX11_buyer_0 rfl rfl ?_
  refine j_iload_n C 1 1 dX11_buyer_1 rfl rfl ?_
  refine j_callVi C (d := 0) (As := [.int p0]) (st := []) 0 (by decide) rfl (by decide) rfl (k37_X11_isBuyer p0) gX11_buyer_X11_isBuyer rfl hdX11_isBuyer (by decide) (Nat.le_of_ble_eq_true rfl) dX11_buyer_2 rfl (fun r M' hp => ?_)
  obtain ⟨rfl, rfl⟩ := hp
  refine j_if_ne_f C 11 dX11_buyer_5 (by decide) (by decide) ?_
  refine j_bipush C (-2) dX11_buyer_8 (by decide) ?_
  exact hret _ _ _ _ dX11_buyer_10 ⟨by first | rfl | (unfold fo_buyer; rw [if_pos (by rw [nI_toInt (by omega)]; omega), nI_clamp (by omega)]; exact hrel) | (unfold fo_buyer; (repeat' split) <;> first | rfl | (exfalso; omega) | (exfalso; simp_all; done)), MB_0⟩
set_option maxHeartbeats 4000000 in
set_option maxRecDepth 100000 in
theorem ox_wants {l : Launch} {dC : Nat → ClassId} {dI : Nat → Nat → Nat} {ad : Nat → Nat} {cA : Nat → ClassId} (p0 : Int32) (p1 : Int32) : Ci l 1 yX11_wants wsX11_wants dC dI ad cA [.ref (ad 0), .int p0, .int p1] M0 (fun r M' => r = fo_wants p0 p1 ∧ MB M') := by
  refine ci_of (cc := cX11_wants) (maxL := 3) (ty := .int) (lv := [(0, .ref (ad 0)), (1, .int p0), (2, .int p1)]) (by decide) rfl (fun r M' hp => rfl) (Nat.le_of_ble_eq_true rfl) rfl ?_
  intro p e s m args below meth c A Q C hret
  refine j_aload_n C 0 0 dX11_wants_0 rfl rfl ?_
  refine j_iload_n C 1 1 dX11_wants_1 rfl rfl ?_
  refine j_callVi C (d := 0) (As := [.int p0]) (st := []) 0 (by decide) rfl (by decide) rfl (k37_X11_isBuyer p0) gX11_wants_X11_isBuyer rfl hdX11_isBuyer (by decide) (Nat.le_of_ble_eq_true rfl) dX11_wants_2 rfl (fun r M' hp => ?_)
  obtain ⟨rfl, rfl⟩ := hp
  refine j_if_eq_t C 16 dX11_wants_5 (by decide) (by decide) ?_
  refine j_ldc C (-99000002) dX11_wants_16 (by decide +kernel) ?_
  exact hret _ _ _ _ dX11_wants_18 ⟨by first | rfl | (unfold fo_wants; rw [if_pos (by rw [nI_toInt (by omega)]; omega), nI_clamp (by omega)]; exact hrel) | (unfold fo_wants; (repeat' split) <;> first | rfl | (exfalso; omega) | (exfalso; simp_all; done)), MB_0⟩
set_option maxHeartbeats 4000000 in
set_option maxRecDepth 100000 in
theorem k43_X9_copyFrom {l : Launch} {dC : Nat → ClassId} {dI : Nat → Nat → Nat} {ad : Nat → Nat} {cA : Nat → ClassId} : Cv l 0 yX9_copyFrom wsX9_copyFrom dC dI ad cA [.ref (ad 20), .ref (ad 12)] M0 (fun M' => M0 = M') := by
  refine cv_of (cc := cX9_copyFrom) (maxL := 3) (lv := [(0, .ref (ad 20)), (1, .ref (ad 12))]) (by decide) rfl (Nat.le_of_ble_eq_true rfl) rfl ?_
  intro p e s m args below meth c A Q C hret
  refine j_aload_n C 0 0 dX9_copyFrom_0 rfl rfl ?_
  refine j_aload_n C 1 1 dX9_copyFrom_1 rfl rfl ?_
  refine j_getI C 8 0 fX9_copyFrom_9 (by decide) rfl (by decide) rfl rfl dX9_copyFrom_2 ?_
  refine j_putI C 8 qX9_copyFrom_9 rfl rfl (by decide) rfl (by decide) rfl dX9_copyFrom_5 ?_
  refine z_noI rfl ?_
  refine j_iconst C 0 dX9_copyFrom_8 (by decide) ?_
  refine j_istore_n C 2 [(2, .int 0), (0, .ref (ad 20)), (1, .ref (ad 12))] dX9_copyFrom_9 rfl (by decide) rfl ?_
  refine j_lv [1, 2, 0] rfl ?_
  have L : ∀ (n i : Nat), 0 ≤ i → i + n = 8 → jj p l e (cn_R 0) s m args below meth c 0 0 Q 3 dC dI ad cA A M0 10 [(0, .ref (ad 20)), (1, .ref (ad 12)), (2, .int (nI i))] [] := by
    intro n
    induction n with
    | zero =>
      intro i h1 h2
      obtain rfl : i = 8 := by omega
      refine j_iload_n C 2 2 dX9_copyFrom_10 rfl rfl ?_
      refine j_bipush C 8 dX9_copyFrom_11 (by decide) ?_
      refine j_icmp_ge_t C 46 dX9_copyFrom_13 (by decide) (by decide) ?_
      refine j_aload_n C 0 0 dX9_copyFrom_46 rfl rfl ?_
      refine j_aload_n C 1 1 dX9_copyFrom_47 rfl rfl ?_
      refine j_getI C 8 0 fX9_copyFrom_22 (by decide) rfl (by decide) rfl rfl dX9_copyFrom_48 ?_
      refine j_putI C 8 qX9_copyFrom_22 rfl rfl (by decide) rfl (by decide) rfl dX9_copyFrom_51 ?_
      refine z_noI rfl ?_
      refine j_aload_n C 0 0 dX9_copyFrom_54 rfl rfl ?_
      refine j_aload_n C 1 1 dX9_copyFrom_55 rfl rfl ?_
      refine j_getI C 8 0 fX9_copyFrom_25 (by decide) rfl (by decide) rfl rfl dX9_copyFrom_56 ?_
      refine j_putI C 8 qX9_copyFrom_25 rfl rfl (by decide) rfl (by decide) rfl dX9_copyFrom_59 ?_
      refine z_noI rfl ?_
      refine j_aload_n C 0 0 dX9_copyFrom_62 rfl rfl ?_
      refine j_aload_n C 1 1 dX9_copyFrom_63 rfl rfl ?_
      refine j_getI C 8 0 fX9_copyFrom_28 (by decide) rfl (by decide) rfl rfl dX9_copyFrom_64 ?_
      refine j_putI C 8 qX9_copyFrom_28 rfl rfl (by decide) rfl (by decide) rfl dX9_copyFrom_67 ?_
      refine z_noI rfl ?_
      refine j_aload_n C 0 0 dX9_copyFrom_70 rfl rfl ?_
      refine j_aload_n C 1 1 dX9_copyFrom_71 rfl rfl ?_
      refine j_getI C 8 0 fX9_copyFrom_31 (by decide) rfl (by decide) rfl rfl dX9_copyFrom_72 ?_
      refine j_putI C 8 qX9_copyFrom_31 rfl rfl (by decide) rfl (by decide) rfl dX9_copyFrom_75 ?_
      refine z_noI rfl ?_
      refine j_aload_n C 0 0 dX9_copyFrom_78 rfl rfl ?_
      refine j_aload_n C 1 1 dX9_copyFrom_79 rfl rfl ?_
      refine j_getI C 8 0 fX9_copyFrom_34 (by decide) rfl (by decide) rfl rfl dX9_copyFrom_80 ?_
      refine j_putI C 8 qX9_copyFrom_34 rfl rfl (by decide) rfl (by decide) rfl dX9_copyFrom_83 ?_
      refine z_noI rfl ?_
      refine j_aload_n C 0 0 dX9_copyFrom_86 rfl rfl ?_
      refine j_aload_n C 1 1 dX9_copyFrom_87 rfl rfl ?_
      refine j_getI C 8 0 fX9_copyFrom_37 (by decide) rfl (by decide) rfl rfl dX9_copyFrom_88 ?_
      refine j_putI C 8 qX9_copyFrom_37 rfl rfl (by decide) rfl (by decide) rfl dX9_copyFrom_91 ?_
      refine z_noI rfl ?_
      exact hret _ _ _ dX9_copyFrom_94 rfl
    | succ n ih =>
      intro i h1 h2
      refine j_iload_n C 2 2 dX9_copyFrom_10 rfl rfl ?_
      refine j_bipush C 8 dX9_copyFrom_11 (by decide) ?_
      refine z_icmp_ge C 46 (i : Int) 8 (nI_toInt (n := i) (by omega)) (by decide) dX9_copyFrom_13 (by decide) (fun h1 => ?_) (fun h1 => ?_)
      · exfalso; omega
      · refine j_aload_n C 0 0 dX9_copyFrom_16 rfl rfl ?_
        refine j_getP C 8 21 fX9_copyFrom_15 (by decide) rfl (by decide) rfl rfl dX9_copyFrom_17 ?_
        refine j_iload_n C 2 2 dX9_copyFrom_20 rfl rfl ?_
        refine j_aload_n C 1 1 dX9_copyFrom_21 rfl rfl ?_
        refine j_getP C 8 13 fX9_copyFrom_15 (by decide) rfl (by decide) rfl rfl dX9_copyFrom_22 ?_
        refine j_iload_n C 2 2 dX9_copyFrom_25 rfl rfl ?_
        refine x_iald C i 8 0 (by decide) rfl rfl rfl (by omega) (by decide) rfl dX9_copyFrom_26 ?_
        refine x_iast C i 8 (by decide) rfl rfl rfl (by omega) (by decide) dX9_copyFrom_27 ?_
        refine z_noI rfl ?_
        refine j_aload_n C 0 0 dX9_copyFrom_28 rfl rfl ?_
        refine j_getP C 8 22 fX9_copyFrom_19 (by decide) rfl (by decide) rfl rfl dX9_copyFrom_29 ?_
        refine j_iload_n C 2 2 dX9_copyFrom_32 rfl rfl ?_
        refine j_aload_n C 1 1 dX9_copyFrom_33 rfl rfl ?_
        refine j_getP C 8 14 fX9_copyFrom_19 (by decide) rfl (by decide) rfl rfl dX9_copyFrom_34 ?_
        refine j_iload_n C 2 2 dX9_copyFrom_37 rfl rfl ?_
        refine x_iald C i 8 0 (by decide) rfl rfl rfl (by omega) (by decide) rfl dX9_copyFrom_38 ?_
        refine x_iast C i 8 (by decide) rfl rfl rfl (by omega) (by decide) dX9_copyFrom_39 ?_
        refine z_noI rfl ?_
        refine j_iinc C 2 (nI (i + 1)) [(2, .int (nI (i + 1))), (0, .ref (ad 20)), (1, .ref (ad 12))] dX9_copyFrom_40 rfl (nI_1 i) (by decide) rfl ?_
        refine j_goto C 10 dX9_copyFrom_43 (by decide) ?_
        refine j_lv [1, 2, 0] rfl ?_
        exact ih (i + 1) (by omega) (by omega)
  exact L (8 - 0) 0 (by omega) (by omega)
set_option maxHeartbeats 4000000 in
set_option maxRecDepth 100000 in
theorem k44_X6_keep {l : Launch} {dC : Nat → ClassId} {dI : Nat → Nat → Nat} {ad : Nat → Nat} {cA : Nat → ClassId} : Cv l 1 yX6_keep wsX6_keep dC dI ad cA [.ref (ad 18), .ref (ad 12)] M0 (fun M' => (wI (wI M0 18 1 1) 18 2 1) = M') := by
  refine cv_of (cc := cX6_keep) (maxL := 2) (lv := [(0, .ref (ad 18)), (1, .ref (ad 12))]) (by decide) rfl (Nat.le_of_ble_eq_true rfl) rfl ?_
  intro p e s m args below meth c A Q C hret
  refine j_aload_n C 0 0 dX6_keep_0 rfl rfl ?_
  refine j_getP C 5 19 fX6_keep_11 (by decide) rfl (by decide) rfl rfl dX6_keep_1 ?_
  refine j_aload_n C 0 0 dX6_keep_4 rfl rfl ?_
  refine j_getI C 5 0 fX6_keep_17 (by decide) rfl (by decide) rfl rfl dX6_keep_5 ?_
  refine x_aald C 0 10 20 (by decide) (by decide) rfl rfl (by decide) (by decide) rfl dX6_keep_8 ?_
  refine j_aload_n C 1 1 dX6_keep_9 rfl rfl ?_
  refine j_callVv C (d := 0) (As := [.ref (ad 12)]) (st := []) 20 (by decide) rfl (by decide) rfl (k43_X9_copyFrom) gX6_keep_X9_copyFrom rfl hdX9_copyFrom (by decide) (Nat.le_of_ble_eq_true rfl) dX6_keep_10 rfl (fun M' hp => ?_)
  obtain rfl := hp
  refine j_aload_n C 0 0 dX6_keep_13 rfl rfl ?_
  refine j_aload_n C 0 0 dX6_keep_14 rfl rfl ?_
  refine j_getI C 5 0 fX6_keep_17 (by decide) rfl (by decide) rfl rfl dX6_keep_15 ?_
  refine j_iconst C 1 dX6_keep_18 (by decide) ?_
  refine z_iadd C 1 (by decide) dX6_keep_19 ?_
  refine j_bipush C 10 dX6_keep_20 (by decide) ?_
  refine z_irem C 1 (by decide) (by decide) dX6_keep_22 ?_
  refine j_putI C 5 qX6_keep_17 rfl rfl (by decide) rfl (by decide) rfl dX6_keep_23 ?_
  refine j_aload_n C 0 0 dX6_keep_26 rfl rfl ?_
  refine j_aload_n C 0 0 dX6_keep_27 rfl rfl ?_
  refine j_getI C 5 0 fX6_keep_21 (by decide) rfl (by decide) rfl rfl dX6_keep_28 ?_
  refine j_iconst C 1 dX6_keep_31 (by decide) ?_
  refine z_iadd C 1 (by decide) dX6_keep_32 ?_
  refine j_bipush C 10 dX6_keep_33 (by decide) ?_
  refine j_mmin C 1 (by decide) (by decide +kernel) (by decide +kernel) (by decide +kernel) (by decide +kernel) (by decide) (Nat.le_of_ble_eq_true rfl) dX6_keep_35 ?_
  refine j_putI C 5 qX6_keep_21 rfl rfl (by decide) rfl (by decide) rfl dX6_keep_38 ?_
  exact hret _ _ _ dX6_keep_41 rfl
set_option maxHeartbeats 4000000 in
set_option maxRecDepth 100000 in
theorem ox_seed {l : Launch} {dC : Nat → ClassId} {dI : Nat → Nat → Nat} {ad : Nat → Nat} {cA : Nat → ClassId} (p0 : Int32) : Ci l 2 yX11_seed wsX11_seed dC dI ad cA [.ref (ad 0), .int p0] M0 (fun r M' => r = fo_seed p0 ∧ MB M') := by
  refine ci_of (cc := cX11_seed) (maxL := 3) (ty := .int) (lv := [(0, .ref (ad 0)), (1, .int p0)]) (by decide) rfl (fun r M' hp => rfl) (Nat.le_of_ble_eq_true rfl) rfl ?_
  intro p e s m args below meth c A Q C hret
  refine j_aload_n C 0 0 dX11_seed_0 rfl rfl ?_
  refine j_getP C 10 18 fX11_seed_46 (by decide) rfl (by decide) rfl rfl dX11_seed_1 ?_
  refine j_aload_n C 0 0 dX11_seed_4 rfl rfl ?_
  refine j_getP C 10 12 fX11_seed_36 (by decide) rfl (by decide) rfl rfl dX11_seed_5 ?_
  refine j_callVv C (d := 1) (As := [.ref (ad 12)]) (st := []) 18 (by decide) rfl (by decide) rfl (k44_X6_keep) gX11_seed_X6_keep rfl hdX6_keep (by decide) (Nat.le_of_ble_eq_true rfl) dX11_seed_8 rfl (fun M' hp => ?_)
  obtain rfl := hp
  refine j_aload_n C 0 0 dX11_seed_11 rfl rfl ?_
  refine j_getP C 10 12 fX11_seed_36 (by decide) rfl (by decide) rfl rfl dX11_seed_12 ?_
  refine j_getI C 8 0 fX11_seed_195 (by decide) rfl (by decide) rfl rfl dX11_seed_15 ?_
  refine j_istore_n C 2 [(2, .int 0), (0, .ref (ad 0)), (1, .int p0)] dX11_seed_18 rfl (by decide) rfl ?_
  refine j_aload_n C 1 0 dX11_seed_19 rfl rfl ?_
  refine j_getP C 10 12 fX11_seed_36 (by decide) rfl (by decide) rfl rfl dX11_seed_20 ?_
  refine j_iload_n C 2 1 dX11_seed_23 rfl rfl ?_
  refine j_putI C 8 qX11_seed_195 rfl rfl (by decide) rfl (by decide) rfl dX11_seed_24 ?_
  refine j_iload_n C 0 2 dX11_seed_27 rfl rfl ?_
  exact hret _ _ _ _ dX11_seed_28 ⟨by first | rfl | (unfold fo_seed; rw [if_pos (by rw [nI_toInt (by omega)]; omega), nI_clamp (by omega)]; exact hrel) | (unfold fo_seed; (repeat' split) <;> first | rfl | (exfalso; omega) | (exfalso; simp_all; done)), (MB_I (MB_I (MB_I MB_0 (by decide)) (by decide)) (by decide))⟩
set_option maxHeartbeats 4000000 in
set_option maxRecDepth 100000 in
theorem k49_X9_copyFrom {l : Launch} {dC : Nat → ClassId} {dI : Nat → Nat → Nat} {ad : Nat → Nat} {cA : Nat → ClassId} : Cv l 0 yX9_copyFrom wsX9_copyFrom dC dI ad cA [.ref (ad 15), .ref (ad 12)] M0 (fun M' => M0 = M') := by
  refine cv_of (cc := cX9_copyFrom) (maxL := 3) (lv := [(0, .ref (ad 15)), (1, .ref (ad 12))]) (by decide) rfl (Nat.le_of_ble_eq_true rfl) rfl ?_
  intro p e s m args below meth c A Q C hret
  refine j_aload_n C 0 0 dX9_copyFrom_0 rfl rfl ?_
  refine j_aload_n C 1 1 dX9_copyFrom_1 rfl rfl ?_
  refine j_getI C 8 0 fX9_copyFrom_9 (by decide) rfl (by decide) rfl rfl dX9_copyFrom_2 ?_
  refine j_putI C 8 qX9_copyFrom_9 rfl rfl (by decide) rfl (by decide) rfl dX9_copyFrom_5 ?_
  refine z_noI rfl ?_
  refine j_iconst C 0 dX9_copyFrom_8 (by decide) ?_
  refine j_istore_n C 2 [(2, .int 0), (0, .ref (ad 15)), (1, .ref (ad 12))] dX9_copyFrom_9 rfl (by decide) rfl ?_
  refine j_lv [1, 2, 0] rfl ?_
  have L : ∀ (n i : Nat), 0 ≤ i → i + n = 8 → jj p l e (cn_R 0) s m args below meth c 0 0 Q 3 dC dI ad cA A M0 10 [(0, .ref (ad 15)), (1, .ref (ad 12)), (2, .int (nI i))] [] := by
    intro n
    induction n with
    | zero =>
      intro i h1 h2
      obtain rfl : i = 8 := by omega
      refine j_iload_n C 2 2 dX9_copyFrom_10 rfl rfl ?_
      refine j_bipush C 8 dX9_copyFrom_11 (by decide) ?_
      refine j_icmp_ge_t C 46 dX9_copyFrom_13 (by decide) (by decide) ?_
      refine j_aload_n C 0 0 dX9_copyFrom_46 rfl rfl ?_
      refine j_aload_n C 1 1 dX9_copyFrom_47 rfl rfl ?_
      refine j_getI C 8 0 fX9_copyFrom_22 (by decide) rfl (by decide) rfl rfl dX9_copyFrom_48 ?_
      refine j_putI C 8 qX9_copyFrom_22 rfl rfl (by decide) rfl (by decide) rfl dX9_copyFrom_51 ?_
      refine z_noI rfl ?_
      refine j_aload_n C 0 0 dX9_copyFrom_54 rfl rfl ?_
      refine j_aload_n C 1 1 dX9_copyFrom_55 rfl rfl ?_
      refine j_getI C 8 0 fX9_copyFrom_25 (by decide) rfl (by decide) rfl rfl dX9_copyFrom_56 ?_
      refine j_putI C 8 qX9_copyFrom_25 rfl rfl (by decide) rfl (by decide) rfl dX9_copyFrom_59 ?_
      refine z_noI rfl ?_
      refine j_aload_n C 0 0 dX9_copyFrom_62 rfl rfl ?_
      refine j_aload_n C 1 1 dX9_copyFrom_63 rfl rfl ?_
      refine j_getI C 8 0 fX9_copyFrom_28 (by decide) rfl (by decide) rfl rfl dX9_copyFrom_64 ?_
      refine j_putI C 8 qX9_copyFrom_28 rfl rfl (by decide) rfl (by decide) rfl dX9_copyFrom_67 ?_
      refine z_noI rfl ?_
      refine j_aload_n C 0 0 dX9_copyFrom_70 rfl rfl ?_
      refine j_aload_n C 1 1 dX9_copyFrom_71 rfl rfl ?_
      refine j_getI C 8 0 fX9_copyFrom_31 (by decide) rfl (by decide) rfl rfl dX9_copyFrom_72 ?_
      refine j_putI C 8 qX9_copyFrom_31 rfl rfl (by decide) rfl (by decide) rfl dX9_copyFrom_75 ?_
      refine z_noI rfl ?_
      refine j_aload_n C 0 0 dX9_copyFrom_78 rfl rfl ?_
      refine j_aload_n C 1 1 dX9_copyFrom_79 rfl rfl ?_
      refine j_getI C 8 0 fX9_copyFrom_34 (by decide) rfl (by decide) rfl rfl dX9_copyFrom_80 ?_
      refine j_putI C 8 qX9_copyFrom_34 rfl rfl (by decide) rfl (by decide) rfl dX9_copyFrom_83 ?_
      refine z_noI rfl ?_
      refine j_aload_n C 0 0 dX9_copyFrom_86 rfl rfl ?_
      refine j_aload_n C 1 1 dX9_copyFrom_87 rfl rfl ?_
      refine j_getI C 8 0 fX9_copyFrom_37 (by decide) rfl (by decide) rfl rfl dX9_copyFrom_88 ?_
      refine j_putI C 8 qX9_copyFrom_37 rfl rfl (by decide) rfl (by decide) rfl dX9_copyFrom_91 ?_
      refine z_noI rfl ?_
      exact hret _ _ _ dX9_copyFrom_94 rfl
    | succ n ih =>
      intro i h1 h2
      refine j_iload_n C 2 2 dX9_copyFrom_10 rfl rfl ?_
      refine j_bipush C 8 dX9_copyFrom_11 (by decide) ?_
      refine z_icmp_ge C 46 (i : Int) 8 (nI_toInt (n := i) (by omega)) (by decide) dX9_copyFrom_13 (by decide) (fun h1 => ?_) (fun h1 => ?_)
      · exfalso; omega
      · refine j_aload_n C 0 0 dX9_copyFrom_16 rfl rfl ?_
        refine j_getP C 8 16 fX9_copyFrom_15 (by decide) rfl (by decide) rfl rfl dX9_copyFrom_17 ?_
        refine j_iload_n C 2 2 dX9_copyFrom_20 rfl rfl ?_
        refine j_aload_n C 1 1 dX9_copyFrom_21 rfl rfl ?_
        refine j_getP C 8 13 fX9_copyFrom_15 (by decide) rfl (by decide) rfl rfl dX9_copyFrom_22 ?_
        refine j_iload_n C 2 2 dX9_copyFrom_25 rfl rfl ?_
        refine x_iald C i 8 0 (by decide) rfl rfl rfl (by omega) (by decide) rfl dX9_copyFrom_26 ?_
        refine x_iast C i 8 (by decide) rfl rfl rfl (by omega) (by decide) dX9_copyFrom_27 ?_
        refine z_noI rfl ?_
        refine j_aload_n C 0 0 dX9_copyFrom_28 rfl rfl ?_
        refine j_getP C 8 17 fX9_copyFrom_19 (by decide) rfl (by decide) rfl rfl dX9_copyFrom_29 ?_
        refine j_iload_n C 2 2 dX9_copyFrom_32 rfl rfl ?_
        refine j_aload_n C 1 1 dX9_copyFrom_33 rfl rfl ?_
        refine j_getP C 8 14 fX9_copyFrom_19 (by decide) rfl (by decide) rfl rfl dX9_copyFrom_34 ?_
        refine j_iload_n C 2 2 dX9_copyFrom_37 rfl rfl ?_
        refine x_iald C i 8 0 (by decide) rfl rfl rfl (by omega) (by decide) rfl dX9_copyFrom_38 ?_
        refine x_iast C i 8 (by decide) rfl rfl rfl (by omega) (by decide) dX9_copyFrom_39 ?_
        refine z_noI rfl ?_
        refine j_iinc C 2 (nI (i + 1)) [(2, .int (nI (i + 1))), (0, .ref (ad 15)), (1, .ref (ad 12))] dX9_copyFrom_40 rfl (nI_1 i) (by decide) rfl ?_
        refine j_goto C 10 dX9_copyFrom_43 (by decide) ?_
        refine j_lv [1, 2, 0] rfl ?_
        exact ih (i + 1) (by omega) (by omega)
  exact L (8 - 0) 0 (by omega) (by omega)
set_option maxHeartbeats 4000000 in
set_option maxRecDepth 100000 in
theorem k50_X1_visitBy {l : Launch} {dC : Nat → ClassId} {dI : Nat → Nat → Nat} {ad : Nat → Nat} {cA : Nat → ClassId} (p0 : Int32) : Ci l 0 yX1_visitBy wsX1_visitBy dC dI ad cA [.ref (ad 87), .ref (ad 2), .ref (ad 12), .int p0] M0 (fun r M' => (-11) = r ∧ M0 = M') := by
  refine ci_of (cc := cX1_visitBy) (maxL := 5) (ty := .int) (lv := [(0, .ref (ad 87)), (1, .ref (ad 2)), (2, .ref (ad 12)), (3, .int p0)]) (by decide) rfl (fun r M' hp => rfl) (Nat.le_of_ble_eq_true rfl) rfl ?_
  intro p e s m args below meth c A Q C hret
  refine j_iload_n C 3 3 dX1_visitBy_0 rfl rfl ?_
  refine z_if_lt C 12 p0.toInt rfl dX1_visitBy_1 (by decide) (fun h1 => ?_) (fun h1 => ?_)
  · refine j_bipush C (-11) dX1_visitBy_12 (by decide) ?_
    exact hret _ _ _ _ dX1_visitBy_14 ⟨rfl, rfl⟩
  · refine j_iload_n C 3 3 dX1_visitBy_4 rfl rfl ?_
    refine j_aload_n C 1 1 dX1_visitBy_5 rfl rfl ?_
    refine j_getI C 6 0 fX1_visitBy_15 (by decide) rfl (by decide) rfl rfl dX1_visitBy_6 ?_
    refine z_icmp_lt C 15 p0.toInt 0 rfl (by decide) dX1_visitBy_9 (by decide) (fun h2 => ?_) (fun h2 => ?_)
    · exfalso; omega
    · refine j_bipush C (-11) dX1_visitBy_12 (by decide) ?_
      exact hret _ _ _ _ dX1_visitBy_14 ⟨rfl, rfl⟩
set_option maxHeartbeats 4000000 in
set_option maxRecDepth 100000 in
theorem k51_X11_settle {l : Launch} {dC : Nat → ClassId} {dI : Nat → Nat → Nat} {ad : Nat → Nat} {cA : Nat → ClassId} : Ci l 0 yX11_settle wsX11_settle dC dI ad cA [.ref (ad 0), .int (-11)] M0 (fun r M' => (-11) = r ∧ M0 = M') := by
  refine ci_of (cc := cX11_settle) (maxL := 2) (ty := .int) (lv := [(0, .ref (ad 0)), (1, .int (-11))]) (by decide) rfl (fun r M' hp => rfl) (Nat.le_of_ble_eq_true rfl) rfl ?_
  intro p e s m args below meth c A Q C hret
  refine j_iload_n C 1 1 dX11_settle_0 rfl rfl ?_
  refine j_if_lt_t C 15 dX11_settle_1 (by decide) (by decide) ?_
  refine j_iload_n C 1 1 dX11_settle_15 rfl rfl ?_
  exact hret _ _ _ _ dX11_settle_16 ⟨rfl, rfl⟩
set_option maxHeartbeats 4000000 in
set_option maxRecDepth 100000 in
theorem ox_visit {l : Launch} {dC : Nat → ClassId} {dI : Nat → Nat → Nat} {ad : Nat → Nat} {cA : Nat → ClassId} (p0 : Int32) : Ci l 1 yX11_visit wsX11_visit dC dI ad cA [.ref (ad 0), .int p0] M0 (fun r M' => r = fo_visit p0 ∧ MB M') := by
  refine ci_of (cc := cX11_visit) (maxL := 2) (ty := .int) (lv := [(0, .ref (ad 0)), (1, .int p0)]) (by decide) rfl (fun r M' hp => rfl) (Nat.le_of_ble_eq_true rfl) rfl ?_
  intro p e s m args below meth c A Q C hret
  refine j_aload_n C 0 0 dX11_visit_0 rfl rfl ?_
  refine j_getP C 10 15 fX11_visit_40 (by decide) rfl (by decide) rfl rfl dX11_visit_1 ?_
  refine j_aload_n C 0 0 dX11_visit_4 rfl rfl ?_
  refine j_getP C 10 12 fX11_visit_36 (by decide) rfl (by decide) rfl rfl dX11_visit_5 ?_
  refine j_callVv C (d := 0) (As := [.ref (ad 12)]) (st := []) 15 (by decide) rfl (by decide) rfl (k49_X9_copyFrom) gX11_visit_X9_copyFrom rfl hdX9_copyFrom (by decide) (Nat.le_of_ble_eq_true rfl) dX11_visit_8 rfl (fun M' hp => ?_)
  obtain rfl := hp
  refine j_aload_n C 0 0 dX11_visit_11 rfl rfl ?_
  refine j_aload_n C 0 0 dX11_visit_12 rfl rfl ?_
  refine j_getP C 10 87 fX11_visit_85 (by decide) rfl (by decide) rfl rfl dX11_visit_13 ?_
  refine j_aload_n C 0 0 dX11_visit_16 rfl rfl ?_
  refine j_getP C 10 2 fX11_visit_26 (by decide) rfl (by decide) rfl rfl dX11_visit_17 ?_
  refine j_aload_n C 0 0 dX11_visit_20 rfl rfl ?_
  refine j_getP C 10 12 fX11_visit_36 (by decide) rfl (by decide) rfl rfl dX11_visit_21 ?_
  refine j_iload_n C 1 1 dX11_visit_24 rfl rfl ?_
  refine j_callVi C (d := 0) (As := [.ref (ad 2), .ref (ad 12), .int p0]) (st := [.ref (ad 0)]) 87 (by decide) rfl (by decide) rfl (k50_X1_visitBy p0) gX11_visit_X1_visitBy rfl hdX1_visitBy (by decide) (Nat.le_of_ble_eq_true rfl) dX11_visit_25 rfl (fun r M' hp => ?_)
  obtain ⟨rfl, rfl⟩ := hp
  refine j_callVi C (d := 0) (As := [.int (-11)]) (st := []) 0 (by decide) rfl (by decide) rfl (k51_X11_settle) gX11_visit_X11_settle rfl hdX11_settle (by decide) (Nat.le_of_ble_eq_true rfl) dX11_visit_28 rfl (fun r M' hp => ?_)
  obtain ⟨rfl, rfl⟩ := hp
  exact hret _ _ _ _ dX11_visit_31 ⟨by first | rfl | (unfold fo_visit; rw [if_pos (by rw [nI_toInt (by omega)]; omega), nI_clamp (by omega)]; exact hrel) | (unfold fo_visit; (repeat' split) <;> first | rfl | (exfalso; omega) | (exfalso; simp_all; done)), MB_0⟩
set_option maxHeartbeats 4000000 in
set_option maxRecDepth 100000 in
theorem k55_X9_holds {l : Launch} {dC : Nat → ClassId} {dI : Nat → Nat → Nat} {ad : Nat → Nat} {cA : Nat → ClassId} (p0 : Int32) : Ci l 0 yX9_holds wsX9_holds dC dI ad cA [.ref (ad 12), .int p0] M0 (fun r M' => 0 = r ∧ M0 = M') := by
  refine ci_of (cc := cX9_holds) (maxL := 2) (ty := .boolean) (lv := [(0, .ref (ad 12)), (1, .int p0)]) (by decide) rfl (fun r M' hp => by obtain ⟨rfl, rfl⟩ := hp; rfl) (Nat.le_of_ble_eq_true rfl) rfl ?_
  intro p e s m args below meth c A Q C hret
  refine j_iload_n C 1 1 dX9_holds_0 rfl rfl ?_
  refine z_if_lt C 16 p0.toInt rfl dX9_holds_1 (by decide) (fun h1 => ?_) (fun h1 => ?_)
  · refine j_iconst C 0 dX9_holds_16 (by decide) ?_
    exact hret _ _ _ _ dX9_holds_17 ⟨rfl, rfl⟩
  · refine j_iload_n C 1 1 dX9_holds_4 rfl rfl ?_
    refine j_aload_n C 0 0 dX9_holds_5 rfl rfl ?_
    refine j_getI C 8 0 fX9_holds_9 (by decide) rfl (by decide) rfl rfl dX9_holds_6 ?_
    refine z_icmp_ge C 16 p0.toInt 0 rfl (by decide) dX9_holds_9 (by decide) (fun h2 => ?_) (fun h2 => ?_)
    · refine j_iconst C 0 dX9_holds_16 (by decide) ?_
      exact hret _ _ _ _ dX9_holds_17 ⟨rfl, rfl⟩
    · exfalso; omega
set_option maxHeartbeats 4000000 in
set_option maxRecDepth 100000 in
theorem k56_X1_giveAway {l : Launch} {dC : Nat → ClassId} {dI : Nat → Nat → Nat} {ad : Nat → Nat} {cA : Nat → ClassId} (p0 : Int32) : Ci l 1 yX1_giveAway wsX1_giveAway dC dI ad cA [.ref (ad 87), .ref (ad 12), .int p0] M0 (fun r M' => (-11) = r ∧ M0 = M') := by
  refine ci_of (cc := cX1_giveAway) (maxL := 3) (ty := .int) (lv := [(0, .ref (ad 87)), (1, .ref (ad 12)), (2, .int p0)]) (by decide) rfl (fun r M' hp => rfl) (Nat.le_of_ble_eq_true rfl) rfl ?_
  intro p e s m args below meth c A Q C hret
  refine j_aload_n C 1 1 dX1_giveAway_0 rfl rfl ?_
  refine j_iload_n C 2 2 dX1_giveAway_1 rfl rfl ?_
  refine j_callVi C (d := 0) (As := [.int p0]) (st := []) 12 (by decide) rfl (by decide) rfl (k55_X9_holds p0) gX1_giveAway_X9_holds rfl hdX9_holds (by decide) (Nat.le_of_ble_eq_true rfl) dX1_giveAway_2 rfl (fun r M' hp => ?_)
  obtain ⟨rfl, rfl⟩ := hp
  refine j_if_ne_f C 11 dX1_giveAway_5 (by decide) (by decide) ?_
  refine j_bipush C (-11) dX1_giveAway_8 (by decide) ?_
  exact hret _ _ _ _ dX1_giveAway_10 ⟨rfl, rfl⟩
set_option maxHeartbeats 4000000 in
set_option maxRecDepth 100000 in
theorem ox_gift {l : Launch} {dC : Nat → ClassId} {dI : Nat → Nat → Nat} {ad : Nat → Nat} {cA : Nat → ClassId} (p0 : Int32) : Ci l 2 yX11_gift wsX11_gift dC dI ad cA [.ref (ad 0), .int p0] M0 (fun r M' => r = fo_gift p0 ∧ MB M') := by
  refine ci_of (cc := cX11_gift) (maxL := 2) (ty := .int) (lv := [(0, .ref (ad 0)), (1, .int p0)]) (by decide) rfl (fun r M' hp => rfl) (Nat.le_of_ble_eq_true rfl) rfl ?_
  intro p e s m args below meth c A Q C hret
  refine j_aload_n C 0 0 dX11_gift_0 rfl rfl ?_
  refine j_getP C 10 15 fX11_gift_40 (by decide) rfl (by decide) rfl rfl dX11_gift_1 ?_
  refine j_aload_n C 0 0 dX11_gift_4 rfl rfl ?_
  refine j_getP C 10 12 fX11_gift_36 (by decide) rfl (by decide) rfl rfl dX11_gift_5 ?_
  refine j_callVv C (d := 0) (As := [.ref (ad 12)]) (st := []) 15 (by decide) rfl (by decide) rfl (k49_X9_copyFrom) gX11_gift_X9_copyFrom rfl hdX9_copyFrom (by decide) (Nat.le_of_ble_eq_true rfl) dX11_gift_8 rfl (fun M' hp => ?_)
  obtain rfl := hp
  refine j_aload_n C 0 0 dX11_gift_11 rfl rfl ?_
  refine j_aload_n C 0 0 dX11_gift_12 rfl rfl ?_
  refine j_getP C 10 87 fX11_gift_85 (by decide) rfl (by decide) rfl rfl dX11_gift_13 ?_
  refine j_aload_n C 0 0 dX11_gift_16 rfl rfl ?_
  refine j_getP C 10 12 fX11_gift_36 (by decide) rfl (by decide) rfl rfl dX11_gift_17 ?_
  refine j_iload_n C 1 1 dX11_gift_20 rfl rfl ?_
  refine j_callVi C (d := 1) (As := [.ref (ad 12), .int p0]) (st := [.ref (ad 0)]) 87 (by decide) rfl (by decide) rfl (k56_X1_giveAway p0) gX11_gift_X1_giveAway rfl hdX1_giveAway (by decide) (Nat.le_of_ble_eq_true rfl) dX11_gift_21 rfl (fun r M' hp => ?_)
  obtain ⟨rfl, rfl⟩ := hp
  refine j_callVi C (d := 0) (As := [.int (-11)]) (st := []) 0 (by decide) rfl (by decide) rfl (k51_X11_settle) gX11_gift_X11_settle rfl hdX11_settle (by decide) (Nat.le_of_ble_eq_true rfl) dX11_gift_24 rfl (fun r M' hp => ?_)
  obtain ⟨rfl, rfl⟩ := hp
  exact hret _ _ _ _ dX11_gift_27 ⟨by first | rfl | (unfold fo_gift; rw [if_pos (by rw [nI_toInt (by omega)]; omega), nI_clamp (by omega)]; exact hrel) | (unfold fo_gift; (repeat' split) <;> first | rfl | (exfalso; omega) | (exfalso; simp_all; done)), MB_0⟩
set_option maxHeartbeats 4000000 in
set_option maxRecDepth 100000 in
theorem k60_X1_turn {l : Launch} {dC : Nat → ClassId} {dI : Nat → Nat → Nat} {ad : Nat → Nat} {cA : Nat → ClassId} (p0 : Int32) : Ci l 1 yX1_turn wsX1_turn dC dI ad cA [.ref (ad 87), .ref (ad 12), .int p0] M0 (fun r M' => (-11) = r ∧ M0 = M') := by
  refine ci_of (cc := cX1_turn) (maxL := 3) (ty := .int) (lv := [(0, .ref (ad 87)), (1, .ref (ad 12)), (2, .int p0)]) (by decide) rfl (fun r M' hp => rfl) (Nat.le_of_ble_eq_true rfl) rfl ?_
  intro p e s m args below meth c A Q C hret
  refine j_aload_n C 1 1 dX1_turn_0 rfl rfl ?_
  refine j_iload_n C 2 2 dX1_turn_1 rfl rfl ?_
  refine j_callVi C (d := 0) (As := [.int p0]) (st := []) 12 (by decide) rfl (by decide) rfl (k55_X9_holds p0) gX1_turn_X9_holds rfl hdX9_holds (by decide) (Nat.le_of_ble_eq_true rfl) dX1_turn_2 rfl (fun r M' hp => ?_)
  obtain ⟨rfl, rfl⟩ := hp
  refine j_if_ne_f C 11 dX1_turn_5 (by decide) (by decide) ?_
  refine j_bipush C (-11) dX1_turn_8 (by decide) ?_
  exact hret _ _ _ _ dX1_turn_10 ⟨rfl, rfl⟩
set_option maxHeartbeats 4000000 in
set_option maxRecDepth 100000 in
theorem ox_hide {l : Launch} {dC : Nat → ClassId} {dI : Nat → Nat → Nat} {ad : Nat → Nat} {cA : Nat → ClassId} (p0 : Int32) : Ci l 2 yX11_hide wsX11_hide dC dI ad cA [.ref (ad 0), .int p0] M0 (fun r M' => r = fo_hide p0 ∧ MB M') := by
  refine ci_of (cc := cX11_hide) (maxL := 2) (ty := .int) (lv := [(0, .ref (ad 0)), (1, .int p0)]) (by decide) rfl (fun r M' hp => rfl) (Nat.le_of_ble_eq_true rfl) rfl ?_
  intro p e s m args below meth c A Q C hret
  refine j_aload_n C 0 0 dX11_hide_0 rfl rfl ?_
  refine j_getP C 10 15 fX11_hide_40 (by decide) rfl (by decide) rfl rfl dX11_hide_1 ?_
  refine j_aload_n C 0 0 dX11_hide_4 rfl rfl ?_
  refine j_getP C 10 12 fX11_hide_36 (by decide) rfl (by decide) rfl rfl dX11_hide_5 ?_
  refine j_callVv C (d := 0) (As := [.ref (ad 12)]) (st := []) 15 (by decide) rfl (by decide) rfl (k49_X9_copyFrom) gX11_hide_X9_copyFrom rfl hdX9_copyFrom (by decide) (Nat.le_of_ble_eq_true rfl) dX11_hide_8 rfl (fun M' hp => ?_)
  obtain rfl := hp
  refine j_aload_n C 0 0 dX11_hide_11 rfl rfl ?_
  refine j_aload_n C 0 0 dX11_hide_12 rfl rfl ?_
  refine j_getP C 10 87 fX11_hide_85 (by decide) rfl (by decide) rfl rfl dX11_hide_13 ?_
  refine j_aload_n C 0 0 dX11_hide_16 rfl rfl ?_
  refine j_getP C 10 12 fX11_hide_36 (by decide) rfl (by decide) rfl rfl dX11_hide_17 ?_
  refine j_iload_n C 1 1 dX11_hide_20 rfl rfl ?_
  refine j_callVi C (d := 1) (As := [.ref (ad 12), .int p0]) (st := [.ref (ad 0)]) 87 (by decide) rfl (by decide) rfl (k60_X1_turn p0) gX11_hide_X1_turn rfl hdX1_turn (by decide) (Nat.le_of_ble_eq_true rfl) dX11_hide_21 rfl (fun r M' hp => ?_)
  obtain ⟨rfl, rfl⟩ := hp
  refine j_callVi C (d := 0) (As := [.int (-11)]) (st := []) 0 (by decide) rfl (by decide) rfl (k51_X11_settle) gX11_hide_X11_settle rfl hdX11_settle (by decide) (Nat.le_of_ble_eq_true rfl) dX11_hide_24 rfl (fun r M' hp => ?_)
  obtain ⟨rfl, rfl⟩ := hp
  exact hret _ _ _ _ dX11_hide_27 ⟨by first | rfl | (unfold fo_hide; rw [if_pos (by rw [nI_toInt (by omega)]; omega), nI_clamp (by omega)]; exact hrel) | (unfold fo_hide; (repeat' split) <;> first | rfl | (exfalso; omega) | (exfalso; simp_all; done)), MB_0⟩
set_option maxHeartbeats 4000000 in
set_option maxRecDepth 100000 in
theorem k63_X9_everyKind {l : Launch} {dC : Nat → ClassId} {dI : Nat → Nat → Nat} {ad : Nat → Nat} {cA : Nat → ClassId} : Ci l 0 yX9_everyKind wsX9_everyKind dC dI ad cA [.ref (ad 12)] M0 (fun r M' => 0 = r ∧ M0 = M') := by
  refine ci_of (cc := cX9_everyKind) (maxL := 1) (ty := .int) (lv := [(0, .ref (ad 12))]) (by decide) rfl (fun r M' hp => rfl) (Nat.le_of_ble_eq_true rfl) rfl ?_
  intro p e s m args below meth c A Q C hret
  refine j_iconst C 1 dX9_everyKind_0 (by decide) ?_
  refine j_aload_n C 0 0 dX9_everyKind_1 rfl rfl ?_
  refine j_getI C 8 0 fX9_everyKind_9 (by decide) rfl (by decide) rfl rfl dX9_everyKind_2 ?_
  refine z_ishl C 1 (by decide) dX9_everyKind_5 ?_
  refine j_iconst C 1 dX9_everyKind_6 (by decide) ?_
  refine z_isub C 0 (by decide) dX9_everyKind_7 ?_
  exact hret _ _ _ _ dX9_everyKind_8 ⟨rfl, rfl⟩
set_option maxHeartbeats 4000000 in
set_option maxRecDepth 100000 in
theorem k64_X9_isShut {l : Launch} {dC : Nat → ClassId} {dI : Nat → Nat → Nat} {ad : Nat → Nat} {cA : Nat → ClassId} : Ci l 1 yX9_isShut wsX9_isShut dC dI ad cA [.ref (ad 12)] M0 (fun r M' => 1 = r ∧ M0 = M') := by
  refine ci_of (cc := cX9_isShut) (maxL := 1) (ty := .boolean) (lv := [(0, .ref (ad 12))]) (by decide) rfl (fun r M' hp => by obtain ⟨rfl, rfl⟩ := hp; rfl) (Nat.le_of_ble_eq_true rfl) rfl ?_
  intro p e s m args below meth c A Q C hret
  refine j_aload_n C 0 0 dX9_isShut_0 rfl rfl ?_
  refine j_callVi C (d := 0) (As := []) (st := []) 12 (by decide) rfl (by decide) rfl (k63_X9_everyKind) gX9_isShut_X9_everyKind rfl hdX9_everyKind (by decide) (Nat.le_of_ble_eq_true rfl) dX9_isShut_1 rfl (fun r M' hp => ?_)
  obtain ⟨rfl, rfl⟩ := hp
  refine j_aload_n C 0 0 dX9_isShut_4 rfl rfl ?_
  refine j_getI C 8 0 fX9_isShut_25 (by decide) rfl (by decide) rfl rfl dX9_isShut_5 ?_
  refine j_iconst C (-1) dX9_isShut_8 (by decide) ?_
  refine z_ixor C (-1) (by decide) dX9_isShut_9 ?_
  refine z_iand C 0 (by decide) dX9_isShut_10 ?_
  refine j_aload_n C 0 0 dX9_isShut_11 rfl rfl ?_
  refine j_getI C 8 0 fX9_isShut_22 (by decide) rfl (by decide) rfl rfl dX9_isShut_12 ?_
  refine j_iconst C (-1) dX9_isShut_15 (by decide) ?_
  refine z_ixor C (-1) (by decide) dX9_isShut_16 ?_
  refine z_iand C 0 (by decide) dX9_isShut_17 ?_
  refine j_if_ne_f C 25 dX9_isShut_18 (by decide) (by decide) ?_
  refine j_iconst C 1 dX9_isShut_21 (by decide) ?_
  refine j_goto C 26 dX9_isShut_22 (by decide) ?_
  exact hret _ _ _ _ dX9_isShut_26 ⟨rfl, rfl⟩
set_option maxHeartbeats 4000000 in
set_option maxRecDepth 100000 in
theorem k65_X1_bringIn {l : Launch} {dC : Nat → ClassId} {dI : Nat → Nat → Nat} {ad : Nat → Nat} {cA : Nat → ClassId} (p0 : Int32) (p1 : Int32) : Ci l 2 yX1_bringIn wsX1_bringIn dC dI ad cA [.ref (ad 87), .ref (ad 12), .int p0, .int p1] M0 (fun r M' => ((p0.toInt < 1) ∧ (-11) = r ∧ M0 = M') ∨ ((¬ p0.toInt < 1 ∧ 99 < p0.toInt) ∧ (-11) = r ∧ M0 = M') ∨ ((¬ p0.toInt < 1 ∧ ¬ 99 < p0.toInt ∧ p1.toInt < 0) ∧ (-11) = r ∧ M0 = M') ∨ ((¬ p0.toInt < 1 ∧ ¬ 99 < p0.toInt ∧ ¬ p1.toInt < 0 ∧ p1.toInt ≤ 9) ∧ (-12) = r ∧ M0 = M') ∨ ((¬ p0.toInt < 1 ∧ ¬ 99 < p0.toInt ∧ ¬ p1.toInt < 0 ∧ ¬ p1.toInt ≤ 9) ∧ (-11) = r ∧ M0 = M')) := by
  refine ci_of (cc := cX1_bringIn) (maxL := 4) (ty := .int) (lv := [(0, .ref (ad 87)), (1, .ref (ad 12)), (2, .int p0), (3, .int p1)]) (by decide) rfl (fun r M' hp => rfl) (Nat.le_of_ble_eq_true rfl) rfl ?_
  intro p e s m args below meth c A Q C hret
  refine j_iload_n C 2 2 dX1_bringIn_0 rfl rfl ?_
  refine j_iconst C 1 dX1_bringIn_1 (by decide) ?_
  refine z_icmp_lt C 21 p0.toInt 1 rfl (by decide) dX1_bringIn_2 (by decide) (fun h1 => ?_) (fun h1 => ?_)
  · refine j_bipush C (-11) dX1_bringIn_21 (by decide) ?_
    exact hret _ _ _ _ dX1_bringIn_23 (Or.inl ⟨h1, rfl, rfl⟩)
  · refine j_iload_n C 2 2 dX1_bringIn_5 rfl rfl ?_
    refine j_bipush C 99 dX1_bringIn_6 (by decide) ?_
    refine z_icmp_gt C 21 p0.toInt 99 rfl (by decide) dX1_bringIn_8 (by decide) (fun h2 => ?_) (fun h2 => ?_)
    · refine j_bipush C (-11) dX1_bringIn_21 (by decide) ?_
      exact hret _ _ _ _ dX1_bringIn_23 (Or.inr (Or.inl ⟨⟨h1, h2⟩, rfl, rfl⟩))
    · refine j_iload_n C 3 3 dX1_bringIn_11 rfl rfl ?_
      refine z_if_lt C 21 p1.toInt rfl dX1_bringIn_12 (by decide) (fun h3 => ?_) (fun h3 => ?_)
      · refine j_bipush C (-11) dX1_bringIn_21 (by decide) ?_
        exact hret _ _ _ _ dX1_bringIn_23 (Or.inr (Or.inr (Or.inl ⟨⟨h1, h2, h3⟩, rfl, rfl⟩)))
      · refine j_iload_n C 3 3 dX1_bringIn_15 rfl rfl ?_
        refine j_bipush C 9 dX1_bringIn_16 (by decide) ?_
        refine z_icmp_le C 24 p1.toInt 9 rfl (by decide) dX1_bringIn_18 (by decide) (fun h4 => ?_) (fun h4 => ?_)
        · refine j_aload_n C 1 1 dX1_bringIn_24 rfl rfl ?_
          refine j_callVi C (d := 1) (As := []) (st := []) 12 (by decide) rfl (by decide) rfl (k64_X9_isShut) gX1_bringIn_X9_isShut rfl hdX9_isShut (by decide) (Nat.le_of_ble_eq_true rfl) dX1_bringIn_25 rfl (fun r M' hp => ?_)
          obtain ⟨rfl, rfl⟩ := hp
          refine j_if_eq_f C 34 dX1_bringIn_28 (by decide) (by decide) ?_
          refine j_bipush C (-12) dX1_bringIn_31 (by decide) ?_
          exact hret _ _ _ _ dX1_bringIn_33 (Or.inr (Or.inr (Or.inr (Or.inl ⟨⟨h1, h2, h3, h4⟩, rfl, rfl⟩))))
        · refine j_bipush C (-11) dX1_bringIn_21 (by decide) ?_
          exact hret _ _ _ _ dX1_bringIn_23 (Or.inr (Or.inr (Or.inr (Or.inr ⟨⟨h1, h2, h3, h4⟩, rfl, rfl⟩))))
set_option maxHeartbeats 4000000 in
set_option maxRecDepth 100000 in
theorem k66_X11_settle {l : Launch} {dC : Nat → ClassId} {dI : Nat → Nat → Nat} {ad : Nat → Nat} {cA : Nat → ClassId} : Ci l 0 yX11_settle wsX11_settle dC dI ad cA [.ref (ad 0), .int (-12)] M0 (fun r M' => (-12) = r ∧ M0 = M') := by
  refine ci_of (cc := cX11_settle) (maxL := 2) (ty := .int) (lv := [(0, .ref (ad 0)), (1, .int (-12))]) (by decide) rfl (fun r M' hp => rfl) (Nat.le_of_ble_eq_true rfl) rfl ?_
  intro p e s m args below meth c A Q C hret
  refine j_iload_n C 1 1 dX11_settle_0 rfl rfl ?_
  refine j_if_lt_t C 15 dX11_settle_1 (by decide) (by decide) ?_
  refine j_iload_n C 1 1 dX11_settle_15 rfl rfl ?_
  exact hret _ _ _ _ dX11_settle_16 ⟨rfl, rfl⟩
set_option maxHeartbeats 4000000 in
set_option maxRecDepth 100000 in
theorem ox_add {l : Launch} {dC : Nat → ClassId} {dI : Nat → Nat → Nat} {ad : Nat → Nat} {cA : Nat → ClassId} (p0 : Int32) (p1 : Int32) : Ci l 3 yX11_add wsX11_add dC dI ad cA [.ref (ad 0), .int p0, .int p1] M0 (fun r M' => r = fo_add p0 p1 ∧ MB M') := by
  refine ci_of (cc := cX11_add) (maxL := 3) (ty := .int) (lv := [(0, .ref (ad 0)), (1, .int p0), (2, .int p1)]) (by decide) rfl (fun r M' hp => rfl) (Nat.le_of_ble_eq_true rfl) rfl ?_
  intro p e s m args below meth c A Q C hret
  refine j_aload_n C 0 0 dX11_add_0 rfl rfl ?_
  refine j_getP C 10 15 fX11_add_40 (by decide) rfl (by decide) rfl rfl dX11_add_1 ?_
  refine j_aload_n C 0 0 dX11_add_4 rfl rfl ?_
  refine j_getP C 10 12 fX11_add_36 (by decide) rfl (by decide) rfl rfl dX11_add_5 ?_
  refine j_callVv C (d := 0) (As := [.ref (ad 12)]) (st := []) 15 (by decide) rfl (by decide) rfl (k49_X9_copyFrom) gX11_add_X9_copyFrom rfl hdX9_copyFrom (by decide) (Nat.le_of_ble_eq_true rfl) dX11_add_8 rfl (fun M' hp => ?_)
  obtain rfl := hp
  refine j_aload_n C 0 0 dX11_add_11 rfl rfl ?_
  refine j_aload_n C 0 0 dX11_add_12 rfl rfl ?_
  refine j_getP C 10 87 fX11_add_85 (by decide) rfl (by decide) rfl rfl dX11_add_13 ?_
  refine j_aload_n C 0 0 dX11_add_16 rfl rfl ?_
  refine j_getP C 10 12 fX11_add_36 (by decide) rfl (by decide) rfl rfl dX11_add_17 ?_
  refine j_iload_n C 1 1 dX11_add_20 rfl rfl ?_
  refine j_iload_n C 2 2 dX11_add_21 rfl rfl ?_
  refine j_callVi C (d := 2) (As := [.ref (ad 12), .int p0, .int p1]) (st := [.ref (ad 0)]) 87 (by decide) rfl (by decide) rfl (k65_X1_bringIn p0 p1) gX11_add_X1_bringIn rfl hdX1_bringIn (by decide) (Nat.le_of_ble_eq_true rfl) dX11_add_22 rfl (fun r M' hp => ?_)
  rcases hp with ⟨h1, rfl, rfl⟩ | ⟨⟨h2, h3⟩, rfl, rfl⟩ | ⟨⟨h4, h5, h6⟩, rfl, rfl⟩ | ⟨⟨h7, h8, h9, h10⟩, rfl, rfl⟩ | ⟨⟨h11, h12, h13, h14⟩, rfl, rfl⟩
  · refine j_callVi C (d := 0) (As := [.int (-11)]) (st := []) 0 (by decide) rfl (by decide) rfl (k51_X11_settle) gX11_add_X11_settle rfl hdX11_settle (by decide) (Nat.le_of_ble_eq_true rfl) dX11_add_25 rfl (fun r M' hp => ?_)
    obtain ⟨rfl, rfl⟩ := hp
    exact hret _ _ _ _ dX11_add_28 ⟨by first | rfl | (unfold fo_add; rw [if_pos (by rw [nI_toInt (by omega)]; omega), nI_clamp (by omega)]; exact hrel) | (unfold fo_add; (repeat' split) <;> first | rfl | (exfalso; omega) | (exfalso; simp_all; done)), MB_0⟩
  · refine j_callVi C (d := 0) (As := [.int (-11)]) (st := []) 0 (by decide) rfl (by decide) rfl (k51_X11_settle) gX11_add_X11_settle rfl hdX11_settle (by decide) (Nat.le_of_ble_eq_true rfl) dX11_add_25 rfl (fun r M' hp => ?_)
    obtain ⟨rfl, rfl⟩ := hp
    exact hret _ _ _ _ dX11_add_28 ⟨by first | rfl | (unfold fo_add; rw [if_pos (by rw [nI_toInt (by omega)]; omega), nI_clamp (by omega)]; exact hrel) | (unfold fo_add; (repeat' split) <;> first | rfl | (exfalso; omega) | (exfalso; simp_all; done)), MB_0⟩
  · refine j_callVi C (d := 0) (As := [.int (-11)]) (st := []) 0 (by decide) rfl (by decide) rfl (k51_X11_settle) gX11_add_X11_settle rfl hdX11_settle (by decide) (Nat.le_of_ble_eq_true rfl) dX11_add_25 rfl (fun r M' hp => ?_)
    obtain ⟨rfl, rfl⟩ := hp
    exact hret _ _ _ _ dX11_add_28 ⟨by first | rfl | (unfold fo_add; rw [if_pos (by rw [nI_toInt (by omega)]; omega), nI_clamp (by omega)]; exact hrel) | (unfold fo_add; (repeat' split) <;> first | rfl | (exfalso; omega) | (exfalso; simp_all; done)), MB_0⟩
  · refine j_callVi C (d := 0) (As := [.int (-12)]) (st := []) 0 (by decide) rfl (by decide) rfl (k66_X11_settle) gX11_add_X11_settle rfl hdX11_settle (by decide) (Nat.le_of_ble_eq_true rfl) dX11_add_25 rfl (fun r M' hp => ?_)
    obtain ⟨rfl, rfl⟩ := hp
    exact hret _ _ _ _ dX11_add_28 ⟨by first | rfl | (unfold fo_add; rw [if_pos (by rw [nI_toInt (by omega)]; omega), nI_clamp (by omega)]; exact hrel) | (unfold fo_add; (repeat' split) <;> first | rfl | (exfalso; omega) | (exfalso; simp_all; done)), MB_0⟩
  · refine j_callVi C (d := 0) (As := [.int (-11)]) (st := []) 0 (by decide) rfl (by decide) rfl (k51_X11_settle) gX11_add_X11_settle rfl hdX11_settle (by decide) (Nat.le_of_ble_eq_true rfl) dX11_add_25 rfl (fun r M' hp => ?_)
    obtain ⟨rfl, rfl⟩ := hp
    exact hret _ _ _ _ dX11_add_28 ⟨by first | rfl | (unfold fo_add; rw [if_pos (by rw [nI_toInt (by omega)]; omega), nI_clamp (by omega)]; exact hrel) | (unfold fo_add; (repeat' split) <;> first | rfl | (exfalso; omega) | (exfalso; simp_all; done)), MB_0⟩
