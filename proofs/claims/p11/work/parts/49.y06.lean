section
set_option maxHeartbeats 4000000 in
theorem s2_X7_copyFrom {l : Launch} {dC : Nat → ClassId} {dI : Nat → Nat → Nat} {ad : Nat → Nat} {cA : Nat → ClassId} {pr : Nat → Nat → Bool} {Kz : mm_M} {M0 : mm_M} (hM0 : INV pr Kz M0) (hpr : PX pr) (hq6_0 : ∀ i, s_c i = 6 → pr i 0 = false) (hq6_1 : ∀ i, s_c i = 6 → pr i 1 = false)  : Cv l 0 yX7_copyFrom wsX7_copyFrom dC dI ad cA [.ref (ad 61), .ref (ad 2)] M0 (fun M' => INV pr Kz M' ∧ FX [61, 62, 63, 64, 65] M0 M' ∧ (b01 (PCP M' M0 61 2) = 1)) := by
  refine cv_of (cc := cX7_copyFrom) (maxL := 3) (lv := [(0, .ref (ad 61)), (1, .ref (ad 2))]) (by decide) rfl (Nat.le_of_ble_eq_true rfl) rfl ?_
  intro p e s m args below meth c A Q C hret
  refine j_aload_n C 0 0 dX7_copyFrom_0 rfl rfl ?_
  refine j_aload_n C 1 1 dX7_copyFrom_1 rfl rfl ?_
  refine y_getI C 6 _ _ fX7_copyFrom_9 rfl rfl ft_6_0 sb_6_0 hM0 dX7_copyFrom_2 (fun a101 ea101 la101 ua101 => ?_)
  obtain rfl : a101 = (M0.1 2 0).toInt := ea101
  refine y_putI C 6 _ _ qX7_copyFrom_9 rfl rfl ft_6_0 sb_6_0 hM0 (hq6_0 _ rfl) dX7_copyFrom_5 (by exact ⟨⟨(by omega), (by omega)⟩, ⟨la101, ua101⟩⟩) (fun M103 eM103 hM103 => ?_)
  refine j_aload_n C 0 0 dX7_copyFrom_8 rfl rfl ?_
  refine j_aload_n C 1 1 dX7_copyFrom_9 rfl rfl ?_
  refine y_getI C 6 _ _ fX7_copyFrom_15 rfl rfl ft_6_1 sb_6_1 hM103 dX7_copyFrom_10 (fun a104 ea104 la104 ua104 => ?_)
  obtain rfl : a104 = (M0.1 2 1).toInt := s_fa eM103 (by decide) (ea104)
  refine y_putIF C 6 qX7_copyFrom_15 rfl rfl ft_6_1 sb_6_1 hM103 (hq6_1 _ rfl) dX7_copyFrom_13 (fun M106 eM106 hM106 => ?_)
  refine j_aload_n C 0 0 dX7_copyFrom_16 rfl rfl ?_
  refine j_aload_n C 1 1 dX7_copyFrom_17 rfl rfl ?_
  refine y_getI C 6 _ _ fX7_copyFrom_31 rfl rfl ft_6_6 sb_6_6 hM106 dX7_copyFrom_18 (fun a107 ea107 la107 ua107 => ?_)
  obtain rfl : a107 = (M0.1 2 6).toInt := s_fa eM103 (by decide) (s_fa eM106 (by decide) (ea107))
  refine y_putI C 6 _ _ qX7_copyFrom_31 rfl rfl ft_6_6 sb_6_6 hM106 (PX.w hpr rfl rfl) dX7_copyFrom_21 (by exact ⟨⟨(by (clear hM106 eM106 ua104 la104 ea104 hM103 eM103 ua101 la101 hret C hq6_1 hq6_0 hpr hM0; omega)), (by (clear hM106 eM106 ua104 la104 ea104 hM103 eM103 ua101 la101 hret C hq6_1 hq6_0 hpr hM0; omega))⟩, ⟨la107, ua107⟩⟩) (fun M109 eM109 hM109 => ?_)
  refine j_aload_n C 0 0 dX7_copyFrom_24 rfl rfl ?_
  refine j_aload_n C 1 1 dX7_copyFrom_25 rfl rfl ?_
  refine y_getI C 6 _ _ fX7_copyFrom_34 rfl rfl ft_6_7 sb_6_7 hM109 dX7_copyFrom_26 (fun a110 ea110 la110 ua110 => ?_)
  obtain rfl : a110 = (M0.1 2 7).toInt := s_fa eM103 (by decide) (s_fa eM106 (by decide) (s_fa eM109 (by decide) (ea110)))
  refine y_putI C 6 _ _ qX7_copyFrom_34 rfl rfl ft_6_7 sb_6_7 hM109 (PX.w hpr rfl rfl) dX7_copyFrom_29 (by exact ⟨⟨(by (clear hM109 eM109 ua107 la107 ea107 hM106 eM106 ua104 la104 ea104 hM103 eM103 ua101 la101 hret C hq6_1 hq6_0 hpr hM0; omega)), (by (clear hM109 eM109 ua107 la107 ea107 hM106 eM106 ua104 la104 ea104 hM103 eM103 ua101 la101 hret C hq6_1 hq6_0 hpr hM0; omega))⟩, ⟨la110, ua110⟩⟩) (fun M112 eM112 hM112 => ?_)
  refine j_aload_n C 0 0 dX7_copyFrom_32 rfl rfl ?_
  refine j_aload_n C 1 1 dX7_copyFrom_33 rfl rfl ?_
  refine y_getI C 6 _ _ fX7_copyFrom_37 rfl rfl ft_6_8 sb_6_8 hM112 dX7_copyFrom_34 (fun a113 ea113 la113 ua113 => ?_)
  obtain rfl : a113 = (M0.1 2 8).toInt := s_fa eM103 (by decide) (s_fa eM106 (by decide) (s_fa eM109 (by decide) (s_fa eM112 (by decide) (ea113))))
  refine y_putI C 6 _ _ qX7_copyFrom_37 rfl rfl ft_6_8 sb_6_8 hM112 (PX.w hpr rfl rfl) dX7_copyFrom_37 (by exact ⟨⟨(by (clear hM112 eM112 ua110 la110 ea110 hM109 eM109 ua107 la107 ea107 hM106 eM106 ua104 la104 ea104 hM103 eM103 ua101 la101 hret C hq6_1 hq6_0 hpr hM0; omega)), (by (clear hM112 eM112 ua110 la110 ea110 hM109 eM109 ua107 la107 ea107 hM106 eM106 ua104 la104 ea104 hM103 eM103 ua101 la101 hret C hq6_1 hq6_0 hpr hM0; omega))⟩, ⟨la113, ua113⟩⟩) (fun M115 eM115 hM115 => ?_)
  refine j_aload_n C 0 0 dX7_copyFrom_40 rfl rfl ?_
  refine j_aload_n C 1 1 dX7_copyFrom_41 rfl rfl ?_
  refine y_getI C 6 _ _ fX7_copyFrom_40 rfl rfl ft_6_9 sb_6_9 hM115 dX7_copyFrom_42 (fun a116 ea116 la116 ua116 => ?_)
  obtain rfl : a116 = (M0.1 2 9).toInt := s_fa eM103 (by decide) (s_fa eM106 (by decide) (s_fa eM109 (by decide) (s_fa eM112 (by decide) (s_fa eM115 (by decide) (ea116)))))
  refine y_putI C 6 _ _ qX7_copyFrom_40 rfl rfl ft_6_9 sb_6_9 hM115 (PX.w hpr rfl rfl) dX7_copyFrom_45 (by exact ⟨⟨(by (clear hM115 eM115 ua113 la113 ea113 hM112 eM112 ua110 la110 ea110 hM109 eM109 ua107 la107 ea107 hM106 eM106 ua104 la104 ea104 hM103 eM103 ua101 la101 hret C hq6_1 hq6_0 hpr hM0; omega)), (by (clear hM115 eM115 ua113 la113 ea113 hM112 eM112 ua110 la110 ea110 hM109 eM109 ua107 la107 ea107 hM106 eM106 ua104 la104 ea104 hM103 eM103 ua101 la101 hret C hq6_1 hq6_0 hpr hM0; omega))⟩, ⟨la116, ua116⟩⟩) (fun M118 eM118 hM118 => ?_)
  refine j_aload_n C 0 0 dX7_copyFrom_48 rfl rfl ?_
  refine j_aload_n C 1 1 dX7_copyFrom_49 rfl rfl ?_
  refine y_getI C 6 _ _ fX7_copyFrom_43 rfl rfl ft_6_10 sb_6_10 hM118 dX7_copyFrom_50 (fun a119 ea119 la119 ua119 => ?_)
  obtain rfl : a119 = (M0.1 2 10).toInt := s_fa eM103 (by decide) (s_fa eM106 (by decide) (s_fa eM109 (by decide) (s_fa eM112 (by decide) (s_fa eM115 (by decide) (s_fa eM118 (by decide) (ea119))))))
  refine y_putI C 6 _ _ qX7_copyFrom_43 rfl rfl ft_6_10 sb_6_10 hM118 (PX.w hpr rfl rfl) dX7_copyFrom_53 (by exact ⟨⟨(by (clear hM118 eM118 ua116 la116 ea116 hM115 eM115 ua113 la113 ea113 hM112 eM112 ua110 la110 ea110 hM109 eM109 ua107 la107 ea107 hM106 eM106 ua104 la104 ea104 hM103 eM103 ua101 la101 hret C hq6_1 hq6_0 hpr hM0; omega)), (by (clear hM118 eM118 ua116 la116 ea116 hM115 eM115 ua113 la113 ea113 hM112 eM112 ua110 la110 ea110 hM109 eM109 ua107 la107 ea107 hM106 eM106 ua104 la104 ea104 hM103 eM103 ua101 la101 hret C hq6_1 hq6_0 hpr hM0; omega))⟩, ⟨la119, ua119⟩⟩) (fun M121 eM121 hM121 => ?_)
  refine y_iconst C dX7_copyFrom_56 ?_
  refine j_istore_n C 2 [(2, .int (sI 0)), (0, .ref (ad 61)), (1, .ref (ad 2))] dX7_copyFrom_57 rfl (by decide) rfl ?_
  have u122z := pca_0 M121 M0 61 2
  have L202 : ∀ (n200 : Nat), ∀ (a203 : Int) (M204 : mm_M), (0 ≤ a203 ∧ a203 ≤ 6 ∧ ((M204.1 61 0).toInt = (M0.1 2 0).toInt) ∧ ((M204.1 61 1).toInt = (M0.1 2 1).toInt) ∧ ((M204.1 61 6).toInt = (M0.1 2 6).toInt) ∧ ((M204.1 61 7).toInt = (M0.1 2 7).toInt) ∧ ((M204.1 61 8).toInt = (M0.1 2 8).toInt) ∧ ((M204.1 61 9).toInt = (M0.1 2 9).toInt) ∧ ((M204.1 61 10).toInt = (M0.1 2 10).toInt) ∧ (b01 (PCA M204 M0 61 2 a203) = 1) ∧ (6 - a203) < (n200 : Int)) → INV pr Kz M204 → FX [61, 62, 63, 64, 65] M0 M204 → jj p l e (cn_R 0) s m args below meth c 0 0 Q 3 dC dI ad cA A M204 58 [(0, .ref (ad 61)), (1, .ref (ad 2)), (2, .int (sI a203))] [] := by
    intro n200
    induction n200 with
    | zero =>
      intro a203 M204 h205 hM204 fM204
      exfalso; omega
    | succ n200 ih201 =>
      intro a203 M204 h205 hM204 fM204
      refine j_iload_n C 2 2 dX7_copyFrom_58 rfl rfl ?_
      refine y_bipush C dX7_copyFrom_59 rfl ?_
      refine y_icmp_ge C 106 dX7_copyFrom_61 (by decide) (by exact ⟨⟨(by (clear fM204 hM204 ih201 u122z hM121 eM121 ua119 la119 ea119 hM118 eM118 ua116 la116 ea116 hM115 eM115 ua113 la113 ea113 hM112 eM112 ua110 la110 ea110 hM109 eM109 ua107 la107 ea107 hM106 eM106 ua104 la104 ea104 hM103 eM103 ua101 la101 hret C hq6_1 hq6_0 hpr hM0; omega)), (by (clear fM204 hM204 ih201 u122z hM121 eM121 ua119 la119 ea119 hM118 eM118 ua116 la116 ea116 hM115 eM115 ua113 la113 ea113 hM112 eM112 ua110 la110 ea110 hM109 eM109 ua107 la107 ea107 hM106 eM106 ua104 la104 ea104 hM103 eM103 ua101 la101 hret C hq6_1 hq6_0 hpr hM0; omega))⟩, ⟨(by decide), (by decide)⟩⟩) (fun h207 => ?_) (fun h207 => ?_)
      · refine y_iconst C dX7_copyFrom_106 ?_
        refine j_istore_n C 2 [(2, .int (sI 0)), (0, .ref (ad 61)), (1, .ref (ad 2))] dX7_copyFrom_107 rfl (by decide) rfl ?_
        have u215z := pcc_0 M204 M0 61 2
        have u215y := pca_c (A := M204) (B := M204) (M := M0) (d := 61) (s := 2) (n := a203) (n' := 6) (by exact h205.2.2.2.2.2.2.2.2.2.1) (by exact h207) ⟨rfl, rfl, rfl⟩
        have u215b := hM0.rd (i := 2) (c := 6) (k := 6) rfl (show s_b 6 6 = (0, 900) from rfl)
        have L228 : ∀ (n226 : Nat), ∀ (a229 : Int) (M230 : mm_M), (0 ≤ a229 ∧ a229 ≤ 900 ∧ ((M230.1 61 0).toInt = (M0.1 2 0).toInt) ∧ ((M230.1 61 1).toInt = (M0.1 2 1).toInt) ∧ ((M230.1 61 6).toInt = (M0.1 2 6).toInt) ∧ ((M230.1 61 7).toInt = (M0.1 2 7).toInt) ∧ ((M230.1 61 8).toInt = (M0.1 2 8).toInt) ∧ ((M230.1 61 9).toInt = (M0.1 2 9).toInt) ∧ ((M230.1 61 10).toInt = (M0.1 2 10).toInt) ∧ (b01 (PCA M230 M0 61 2 6) = 1) ∧ (b01 (PCC M230 M0 61 2 a229) = 1) ∧ (a229 ≤ (M0.1 2 6).toInt) ∧ (900 - a229) < (n226 : Int)) → INV pr Kz M230 → FX [61, 62, 63, 64, 65] M0 M230 → jj p l e (cn_R 0) s m args below meth c 0 0 Q 3 dC dI ad cA A M230 108 [(0, .ref (ad 61)), (1, .ref (ad 2)), (2, .int (sI a229))] [] := by
          intro n226
          induction n226 with
          | zero =>
            intro a229 M230 h231 hM230 fM230
            exfalso; (clear fM230 hM230 u215b u215y u215z h207 fM204 hM204 h205 ih201 u122z hM121 eM121 ua119 la119 ea119 hM118 eM118 ua116 la116 ea116 hM115 eM115 ua113 la113 ea113 hM112 eM112 ua110 la110 ea110 hM109 eM109 ua107 la107 ea107 hM106 eM106 ua104 la104 ea104 hM103 eM103 ua101 la101 hret C hq6_1 hq6_0 hpr hM0; omega)
          | succ n226 ih227 =>
            intro a229 M230 h231 hM230 fM230
            have u232b := hM0.rd (i := 2) (c := 6) (k := 6) rfl (show s_b 6 6 = (0, 900) from rfl)
            refine j_iload_n C 2 2 dX7_copyFrom_108 rfl rfl ?_
            refine j_aload_n C 0 0 dX7_copyFrom_109 rfl rfl ?_
            refine y_getI C 6 _ _ fX7_copyFrom_31 rfl rfl ft_6_6 sb_6_6 hM230 dX7_copyFrom_110 (fun a233 ea233 la233 ua233 => ?_)
            obtain rfl : a233 = (M230.1 61 6).toInt := ea233
            refine y_icmp_ge C 143 dX7_copyFrom_113 (by decide) (by (clear ua233 la233 u232b fM230 hM230 ih227 u215b u215y u215z h207 fM204 hM204 ih201 u122z hM121 eM121 ua119 la119 ea119 hM118 eM118 ua116 la116 ea116 hM115 eM115 ua113 la113 ea113 hM112 eM112 ua110 la110 ea110 hM109 eM109 hM106 eM106 ua104 la104 ea104 hM103 eM103 ua101 la101 hret C hq6_1 hq6_0 hpr hM0; omega)) (fun h235 => ?_) (fun h235 => ?_)
            · have u240f := pcf_i (N := M230) (M := M0) (d := 61) (s := 2) (by exact h231.2.2.1) (by exact h231.2.2.2.1) (by exact h231.2.2.2.2.1) (by exact h231.2.2.2.2.2.1) (by exact h231.2.2.2.2.2.2.1) (by exact h231.2.2.2.2.2.2.2.1) (by exact h231.2.2.2.2.2.2.2.2.1)
              have u240k := pcp_i (n := a229) u240f (by exact h231.2.2.2.2.2.2.2.2.2.1) (by exact h231.2.2.2.2.2.2.2.2.2.2.1) (by (clear u240f ua233 la233 u232b fM230 hM230 ih227 u215b u215y u215z h207 fM204 hM204 ih201 u122z hM121 eM121 ua119 la119 ea119 hM118 eM118 ua116 la116 ea116 hM115 eM115 ua113 la113 ea113 hM112 eM112 ua110 la110 ea110 hM109 eM109 ua107 la107 hM106 eM106 ua104 la104 ea104 hM103 eM103 ua101 la101 hret C hq6_1 hq6_0 hpr hM0; omega))
              exact hret _ _ _ dX7_copyFrom_143 ⟨hM230, (FX.rf.tr fM230 (by decide)), by exact u240k⟩
            · refine j_iload_n C 2 2 dX7_copyFrom_116 rfl rfl ?_
              refine j_aload_n C 0 0 dX7_copyFrom_117 rfl rfl ?_
              refine y_getC C 6 65 fX7_copyFrom_28 rfl rfl ft_6_5 sm_6_5 rfl hM230 dX7_copyFrom_118 ?_
              refine y_alen C 24 900 rfl rfl rfl an_24 rfl rfl dX7_copyFrom_121 ?_
              refine y_icmp_ge C 143 dX7_copyFrom_122 (by decide) (by exact ⟨⟨(by (clear h235 ua233 la233 u232b fM230 hM230 ih227 u215b u215y u215z h207 fM204 hM204 h205 ih201 u122z hM121 eM121 ua119 la119 ea119 hM118 eM118 ua116 la116 ea116 hM115 eM115 ua113 la113 ea113 hM112 eM112 ua110 la110 ea110 hM109 eM109 ua107 la107 ea107 hM106 eM106 ua104 la104 ea104 hM103 eM103 ua101 la101 hret C hq6_1 hq6_0 hpr hM0; omega)), (by (clear h235 ua233 la233 u232b fM230 hM230 ih227 u215b u215y u215z h207 fM204 hM204 h205 ih201 u122z hM121 eM121 ua119 la119 ea119 hM118 eM118 ua116 la116 ea116 hM115 eM115 ua113 la113 ea113 hM112 eM112 ua110 la110 ea110 hM109 eM109 ua107 la107 ea107 hM106 eM106 ua104 la104 ea104 hM103 eM103 ua101 la101 hret C hq6_1 hq6_0 hpr hM0; omega))⟩, ⟨(by decide), (by decide)⟩⟩) (fun h236 => ?_) (fun h236 => ?_)
              · exfalso; (clear ua233 la233 u232b fM230 hM230 ih227 u215b u215y u215z h207 fM204 hM204 ih201 u122z hM121 eM121 ua119 la119 ea119 hM118 eM118 ua116 la116 ea116 hM115 eM115 ua113 la113 ea113 hM112 eM112 ua110 la110 ea110 hM109 eM109 hM106 eM106 ua104 la104 ea104 hM103 eM103 ua101 la101 hret C hq6_1 hq6_0 hpr hM0; omega)
              · refine j_aload_n C 0 0 dX7_copyFrom_125 rfl rfl ?_
                refine y_getC C 6 65 fX7_copyFrom_28 rfl rfl ft_6_5 sm_6_5 rfl hM230 dX7_copyFrom_126 ?_
                refine j_iload_n C 2 2 dX7_copyFrom_129 rfl rfl ?_
                refine j_aload_n C 1 1 dX7_copyFrom_130 rfl rfl ?_
                refine y_getC C 6 6 fX7_copyFrom_28 rfl rfl ft_6_5 sm_6_5 rfl hM230 dX7_copyFrom_131 ?_
                refine j_iload_n C 2 2 dX7_copyFrom_134 rfl rfl ?_
                refine y_iald C 24 900 _ _ rfl rfl rfl ak_24 an_24 rfl (sb_24 _) hM230 dX7_copyFrom_135 (by exact ⟨h231.1, (by (clear h235 ua233 la233 u232b fM230 hM230 ih227 u215b u215y u215z h207 fM204 hM204 h205 ih201 u122z hM121 eM121 ua119 la119 ea119 hM118 eM118 ua116 la116 ea116 hM115 eM115 ua113 la113 ea113 hM112 eM112 ua110 la110 ea110 hM109 eM109 ua107 la107 ea107 hM106 eM106 ua104 la104 ea104 hM103 eM103 ua101 la101 hret C hq6_1 hq6_0 hpr hM0; omega))⟩) (fun a237 ea237 la237 ua237 => ?_)
                obtain rfl : a237 = (M0.1 6 (a229).toNat).toInt := s_fX fM230 (by decide) (ea237)
                refine y_iastF C 24 900 rfl rfl rfl ak_24 an_24 rfl (sb_24 _) hM230 (PX.w hpr rfl rfl) dX7_copyFrom_136 (by exact ⟨h231.1, (by omega)⟩) (fun M238 eM238 hM238 => ?_)
                refine y_iinc C 2 [(2, .int (sI (a229 + 1))), (0, .ref (ad 61)), (1, .ref (ad 2))] dX7_copyFrom_137 rfl (by decide) rfl ?_
                refine j_goto C 108 dX7_copyFrom_140 (by decide) ?_
                have u239s := pcc_s (A := M230) (B := M238) (M := M0) (d := 61) (s := 2) (n := a229) (n' := (a229 + 1)) (by exact h231.2.2.2.2.2.2.2.2.2.2.1) (by (clear hM238 eM238 ua237 la237 ea237 h235 ua233 la233 u232b fM230 hM230 ih227 u215b u215y u215z h207 fM204 hM204 h205 ih201 u122z hM121 eM121 ua119 la119 ea119 hM118 eM118 ua116 la116 ea116 hM115 eM115 ua113 la113 ea113 hM112 eM112 ua110 la110 ea110 hM109 eM109 ua107 la107 ea107 hM106 eM106 ua104 la104 ea104 hM103 eM103 ua101 la101 hret C hq6_1 hq6_0 hpr hM0; omega)) eM238
                have u239y := pca_c (A := M230) (B := M238) (M := M0) (d := 61) (s := 2) (n := 6) (n' := 6) (by exact h231.2.2.2.2.2.2.2.2.2.1) (by exact (by decide)) ⟨wI_cell eM238 (by decide), wI_cell eM238 (by decide), wI_cell eM238 (by decide)⟩
                have zz61_9 : (M238.1 61 9).toInt = (M230.1 61 9).toInt := s_fa eM238 (by decide) (rfl); have zz61_8 : (M238.1 61 8).toInt = (M230.1 61 8).toInt := s_fa eM238 (by decide) (rfl); have zz61_7 : (M238.1 61 7).toInt = (M230.1 61 7).toInt := s_fa eM238 (by decide) (rfl); have zz61_6 : (M238.1 61 6).toInt = (M230.1 61 6).toInt := s_fa eM238 (by decide) (rfl); have zz61_10 : (M238.1 61 10).toInt = (M230.1 61 10).toInt := s_fa eM238 (by decide) (rfl); have zz61_1 : (M238.1 61 1).toInt = (M230.1 61 1).toInt := s_fa eM238 (by decide) (rfl); have zz61_0 : (M238.1 61 0).toInt = (M230.1 61 0).toInt := s_fa eM238 (by decide) (rfl); refine j_lv [1, 2, 0] rfl ?_; exact ih227 (a229 + 1) M238 (by (clear hM238 eM238 ua237 la237 ea237 ua233 la233 u232b fM230 hM230 ih227 u215b u215y u215z h207 fM204 hM204 ih201 u122z hM121 eM121 ua119 la119 hM118 eM118 ua116 la116 hM115 eM115 ua113 la113 hM112 eM112 ua110 la110 hM109 eM109 ua107 la107 hM106 eM106 ua104 la104 hM103 eM103 ua101 la101 hret C hq6_1 hq6_0 hpr hM0; omega)) hM238 ((FX.rf.tr fM230 (by decide)).wI eM238 (by decide))
        refine j_lv [1, 2, 0] rfl ?_; exact L228 2010 0 M204 (by exact ⟨(by decide), ⟨(by decide), ⟨h205.2.2.1, ⟨h205.2.2.2.1, ⟨h205.2.2.2.2.1, ⟨h205.2.2.2.2.2.1, ⟨h205.2.2.2.2.2.2.1, ⟨h205.2.2.2.2.2.2.2.1, ⟨h205.2.2.2.2.2.2.2.2.1, ⟨u215y, ⟨u215z, ⟨la107, (by decide)⟩⟩⟩⟩⟩⟩⟩⟩⟩⟩⟩⟩) hM204 (FX.rf.tr fM204 (by decide))
      · refine j_aload_n C 0 0 dX7_copyFrom_64 rfl rfl ?_
        refine y_getC C 6 62 fX7_copyFrom_18 rfl rfl ft_6_2 sm_6_2 rfl hM204 dX7_copyFrom_65 ?_
        refine j_iload_n C 2 2 dX7_copyFrom_68 rfl rfl ?_
        refine j_aload_n C 1 1 dX7_copyFrom_69 rfl rfl ?_
        refine y_getC C 6 3 fX7_copyFrom_18 rfl rfl ft_6_2 sm_6_2 rfl hM204 dX7_copyFrom_70 ?_
        refine j_iload_n C 2 2 dX7_copyFrom_73 rfl rfl ?_
        refine y_iald C 21 6 _ _ rfl rfl rfl ak_21 an_21 rfl (sb_21 _) hM204 dX7_copyFrom_74 (by exact ⟨h205.1, (by (clear fM204 hM204 ih201 u122z hM121 eM121 ua119 la119 ea119 hM118 eM118 ua116 la116 ea116 hM115 eM115 ua113 la113 ea113 hM112 eM112 ua110 la110 ea110 hM109 eM109 ua107 la107 ea107 hM106 eM106 ua104 la104 ea104 hM103 eM103 ua101 la101 hret C hq6_1 hq6_0 hpr hM0; omega))⟩) (fun a208 ea208 la208 ua208 => ?_)
        obtain rfl : a208 = (M0.1 3 (a203).toNat).toInt := s_fX fM204 (by decide) (ea208)
        refine y_iastF C 21 6 rfl rfl rfl ak_21 an_21 rfl (sb_21 _) hM204 (PX.w hpr rfl rfl) dX7_copyFrom_75 (by exact ⟨h205.1, (by omega)⟩) (fun M209 eM209 hM209 => ?_)
        refine j_aload_n C 0 0 dX7_copyFrom_76 rfl rfl ?_
        refine y_getC C 6 63 fX7_copyFrom_22 rfl rfl ft_6_3 sm_6_3 rfl hM209 dX7_copyFrom_77 ?_
        refine j_iload_n C 2 2 dX7_copyFrom_80 rfl rfl ?_
        refine j_aload_n C 1 1 dX7_copyFrom_81 rfl rfl ?_
        refine y_getC C 6 4 fX7_copyFrom_22 rfl rfl ft_6_3 sm_6_3 rfl hM209 dX7_copyFrom_82 ?_
        refine j_iload_n C 2 2 dX7_copyFrom_85 rfl rfl ?_
        refine y_iald C 22 6 _ _ rfl rfl rfl ak_22 an_22 rfl (sb_22 _) hM209 dX7_copyFrom_86 (by exact ⟨h205.1, (by omega)⟩) (fun a210 ea210 la210 ua210 => ?_)
        obtain rfl : a210 = (M0.1 4 (a203).toNat).toInt := s_fX fM204 (by decide) (s_fa eM209 (by decide) (ea210))
        refine y_iastF C 22 6 rfl rfl rfl ak_22 an_22 rfl (sb_22 _) hM209 (PX.w hpr rfl rfl) dX7_copyFrom_87 (by exact ⟨h205.1, (by (clear ua210 la210 ea210 hM209 eM209 ua208 la208 ea208 fM204 hM204 ih201 u122z hM121 eM121 ua119 la119 ea119 hM118 eM118 ua116 la116 ea116 hM115 eM115 ua113 la113 ea113 hM112 eM112 ua110 la110 ea110 hM109 eM109 ua107 la107 ea107 hM106 eM106 ua104 la104 ea104 hM103 eM103 ua101 la101 hret C hq6_1 hq6_0 hpr hM0; omega))⟩) (fun M211 eM211 hM211 => ?_)
        refine j_aload_n C 0 0 dX7_copyFrom_88 rfl rfl ?_
        refine y_getC C 6 64 fX7_copyFrom_25 rfl rfl ft_6_4 sm_6_4 rfl hM211 dX7_copyFrom_89 ?_
        refine j_iload_n C 2 2 dX7_copyFrom_92 rfl rfl ?_
        refine j_aload_n C 1 1 dX7_copyFrom_93 rfl rfl ?_
        refine y_getC C 6 5 fX7_copyFrom_25 rfl rfl ft_6_4 sm_6_4 rfl hM211 dX7_copyFrom_94 ?_
        refine j_iload_n C 2 2 dX7_copyFrom_97 rfl rfl ?_
        refine y_iald C 23 6 _ _ rfl rfl rfl ak_23 an_23 rfl (sb_23 _) hM211 dX7_copyFrom_98 (by exact ⟨h205.1, (by omega)⟩) (fun a212 ea212 la212 ua212 => ?_)
        obtain rfl : a212 = (M0.1 5 (a203).toNat).toInt := s_fX fM204 (by decide) (s_fa eM209 (by decide) (s_fa eM211 (by decide) (ea212)))
        refine y_iastF C 23 6 rfl rfl rfl ak_23 an_23 rfl (sb_23 _) hM211 (PX.w hpr rfl rfl) dX7_copyFrom_99 (by exact ⟨h205.1, (by (clear ua212 la212 ea212 hM211 eM211 ua210 la210 ea210 hM209 eM209 ua208 la208 ea208 fM204 hM204 ih201 u122z hM121 eM121 ua119 la119 ea119 hM118 eM118 ua116 la116 ea116 hM115 eM115 ua113 la113 ea113 hM112 eM112 ua110 la110 ea110 hM109 eM109 ua107 la107 ea107 hM106 eM106 ua104 la104 ea104 hM103 eM103 ua101 la101 hret C hq6_1 hq6_0 hpr hM0; omega))⟩) (fun M213 eM213 hM213 => ?_)
        refine y_iinc C 2 [(2, .int (sI (a203 + 1))), (0, .ref (ad 61)), (1, .ref (ad 2))] dX7_copyFrom_100 rfl (by decide) rfl ?_
        refine j_goto C 58 dX7_copyFrom_103 (by decide) ?_
        have u214s := pca_s (A := M204) (B := M209) (C := M211) (D := M213) (M := M0) (d := 61) (s := 2) (n := a203) (n' := (a203 + 1)) (by exact h205.2.2.2.2.2.2.2.2.2.1) (by (clear hM213 eM213 ua212 la212 ea212 hM211 eM211 ua210 la210 ea210 hM209 eM209 ua208 la208 ea208 fM204 hM204 ih201 u122z hM121 eM121 ua119 la119 ea119 hM118 eM118 ua116 la116 ea116 hM115 eM115 ua113 la113 ea113 hM112 eM112 ua110 la110 ea110 hM109 eM109 ua107 la107 ea107 hM106 eM106 ua104 la104 ea104 hM103 eM103 ua101 la101 hret C hq6_1 hq6_0 hpr hM0; omega)) eM209 eM211 eM213 (by decide)
        have zz61_9 : (M213.1 61 9).toInt = (M204.1 61 9).toInt := s_fa eM209 (by decide) (s_fa eM211 (by decide) (s_fa eM213 (by decide) (rfl))); have zz61_8 : (M213.1 61 8).toInt = (M204.1 61 8).toInt := s_fa eM209 (by decide) (s_fa eM211 (by decide) (s_fa eM213 (by decide) (rfl))); have zz61_7 : (M213.1 61 7).toInt = (M204.1 61 7).toInt := s_fa eM209 (by decide) (s_fa eM211 (by decide) (s_fa eM213 (by decide) (rfl))); have zz61_6 : (M213.1 61 6).toInt = (M204.1 61 6).toInt := s_fa eM209 (by decide) (s_fa eM211 (by decide) (s_fa eM213 (by decide) (rfl))); have zz61_10 : (M213.1 61 10).toInt = (M204.1 61 10).toInt := s_fa eM209 (by decide) (s_fa eM211 (by decide) (s_fa eM213 (by decide) (rfl))); have zz61_1 : (M213.1 61 1).toInt = (M204.1 61 1).toInt := s_fa eM209 (by decide) (s_fa eM211 (by decide) (s_fa eM213 (by decide) (rfl))); have zz61_0 : (M213.1 61 0).toInt = (M204.1 61 0).toInt := s_fa eM209 (by decide) (s_fa eM211 (by decide) (s_fa eM213 (by decide) (rfl))); refine j_lv [1, 2, 0] rfl ?_; exact ih201 (a203 + 1) M213 (by (clear hM213 eM213 ua212 la212 ea212 hM211 eM211 ua210 la210 ea210 hM209 eM209 ua208 la208 ea208 fM204 hM204 ih201 u122z hM121 eM121 ua119 la119 hM118 eM118 ua116 la116 hM115 eM115 ua113 la113 hM112 eM112 ua110 la110 hM109 eM109 ua107 la107 hM106 eM106 ua104 la104 hM103 eM103 ua101 la101 hret C hq6_1 hq6_0 hpr hM0; omega)) hM213 ((((FX.rf.tr fM204 (by decide)).wI eM209 (by decide)).wI eM211 (by decide)).wI eM213 (by decide))
  have zz61_9 := (Eq.trans (s_fb eM121 (by decide) (rfl) : (M121.1 61 9).toInt = (M118.1 61 9).toInt) (s_wr eM118 (by (clear L202 u122z hM121 eM121 ua119 la119 ea119 hM118 eM118 hM115 eM115 ua113 la113 ea113 hM112 eM112 ua110 la110 ea110 hM109 eM109 ua107 la107 ea107 hM106 eM106 ua104 la104 ea104 hM103 eM103 ua101 la101 hret C hq6_1 hq6_0 hpr hM0; omega)))); have zz61_8 := (Eq.trans (s_fb eM118 (by decide) (s_fb eM121 (by decide) (rfl)) : (M121.1 61 8).toInt = (M115.1 61 8).toInt) (s_wr eM115 (by (clear zz61_9 L202 u122z hM121 eM121 ua119 la119 ea119 hM118 eM118 ua116 la116 ea116 hM115 eM115 hM112 eM112 ua110 la110 ea110 hM109 eM109 ua107 la107 ea107 hM106 eM106 ua104 la104 ea104 hM103 eM103 ua101 la101 hret C hq6_1 hq6_0 hpr hM0; omega)))); have zz61_7 := (Eq.trans (s_fb eM115 (by decide) (s_fb eM118 (by decide) (s_fb eM121 (by decide) (rfl))) : (M121.1 61 7).toInt = (M112.1 61 7).toInt) (s_wr eM112 (by (clear zz61_8 zz61_9 L202 u122z hM121 eM121 ua119 la119 ea119 hM118 eM118 ua116 la116 ea116 hM115 eM115 ua113 la113 ea113 hM112 eM112 hM109 eM109 ua107 la107 ea107 hM106 eM106 ua104 la104 ea104 hM103 eM103 ua101 la101 hret C hq6_1 hq6_0 hpr hM0; omega)))); have zz61_6 := (Eq.trans (s_fb eM112 (by decide) (s_fb eM115 (by decide) (s_fb eM118 (by decide) (s_fb eM121 (by decide) (rfl)))) : (M121.1 61 6).toInt = (M109.1 61 6).toInt) (s_wr eM109 (by (clear zz61_7 zz61_8 zz61_9 L202 u122z hM121 eM121 ua119 la119 ea119 hM118 eM118 ua116 la116 ea116 hM115 eM115 ua113 la113 ea113 hM112 eM112 ua110 la110 ea110 hM109 eM109 hM106 eM106 ua104 la104 ea104 hM103 eM103 ua101 la101 hret C hq6_1 hq6_0 hpr hM0; omega)))); have zz61_10 := (Eq.trans (rfl : (M121.1 61 10).toInt = (M121.1 61 10).toInt) (s_wr eM121 (by (clear zz61_6 zz61_7 zz61_8 zz61_9 L202 u122z hM121 eM121 hM118 eM118 ua116 la116 ea116 hM115 eM115 ua113 la113 ea113 hM112 eM112 ua110 la110 ea110 hM109 eM109 ua107 la107 ea107 hM106 eM106 ua104 la104 ea104 hM103 eM103 ua101 la101 hret C hq6_1 hq6_0 hpr hM0; omega)))); have zz61_1 := (Eq.trans (s_fb eM109 (by decide) (s_fb eM112 (by decide) (s_fb eM115 (by decide) (s_fb eM118 (by decide) (s_fb eM121 (by decide) (rfl))))) : (M121.1 61 1).toInt = (M106.1 61 1).toInt) (s_wr eM106 (by exact ⟨la104, ua104⟩))); have zz61_0 := (Eq.trans (s_fb eM106 (by decide) (s_fb eM109 (by decide) (s_fb eM112 (by decide) (s_fb eM115 (by decide) (s_fb eM118 (by decide) (s_fb eM121 (by decide) (rfl)))))) : (M121.1 61 0).toInt = (M103.1 61 0).toInt) (s_wr eM103 (by omega))); refine j_lv [1, 2, 0] rfl ?_; exact L202 2010 0 M121 (by exact ⟨(by decide), ⟨(by decide), ⟨zz61_0, ⟨zz61_1, ⟨zz61_6, ⟨zz61_7, ⟨zz61_8, ⟨zz61_9, ⟨zz61_10, ⟨u122z, (by decide)⟩⟩⟩⟩⟩⟩⟩⟩⟩⟩) hM121 (((((((FX.rf.wI eM103 (by decide)).wI eM106 (by decide)).wI eM109 (by decide)).wI eM112 (by decide)).wI eM115 (by decide)).wI eM118 (by decide)).wI eM121 (by decide))
set_option maxHeartbeats 4000000 in
theorem s34_X9_copyFrom {l : Launch} {dC : Nat → ClassId} {dI : Nat → Nat → Nat} {ad : Nat → Nat} {cA : Nat → ClassId} {pr : Nat → Nat → Bool} {Kz : mm_M} {M0 : mm_M} (hM0 : INV pr Kz M0) (hpr : PX pr) (hq8_0 : ∀ i, s_c i = 8 → pr i 0 = false)  : Cv l 0 yX9_copyFrom wsX9_copyFrom dC dI ad cA [.ref (ad 66), .ref (ad 12)] M0 (fun M' => INV pr Kz M' ∧ FX [66, 67, 68] M0 M' ∧ (b01 (skX M' 66 = skX M0 12) = 1)) := by
  refine cv_of (cc := cX9_copyFrom) (maxL := 3) (lv := [(0, .ref (ad 66)), (1, .ref (ad 12))]) (by decide) rfl (Nat.le_of_ble_eq_true rfl) rfl ?_
  intro p e s m args below meth c A Q C hret
  refine j_aload_n C 0 0 dX9_copyFrom_0 rfl rfl ?_
  refine j_aload_n C 1 1 dX9_copyFrom_1 rfl rfl ?_
  refine y_getI C 8 _ _ fX9_copyFrom_9 rfl rfl ft_8_0 sb_8_0 hM0 dX9_copyFrom_2 (fun a101 ea101 la101 ua101 => ?_)
  obtain rfl : a101 = (M0.1 12 0).toInt := ea101
  refine y_putI C 8 _ _ qX9_copyFrom_9 rfl rfl ft_8_0 sb_8_0 hM0 (hq8_0 _ rfl) dX9_copyFrom_5 (by exact ⟨⟨(by (clear hret C hq8_0 hpr hM0; omega)), (by (clear hret C hq8_0 hpr hM0; omega))⟩, ⟨la101, ua101⟩⟩) (fun M103 eM103 hM103 => ?_)
  refine y_iconst C dX9_copyFrom_8 ?_
  refine j_istore_n C 2 [(2, .int (sI 0)), (0, .ref (ad 66)), (1, .ref (ad 12))] dX9_copyFrom_9 rfl (by decide) rfl ?_
  have u104z := cpa_0 M103 M0 67 13 68 14
  have L188 : ∀ (n186 : Nat), ∀ (a189 : Int) (M190 : mm_M), (0 ≤ a189 ∧ a189 ≤ 8 ∧ ((M190.1 66 0).toInt = (M0.1 12 0).toInt) ∧ (b01 (CPA M190 M0 67 13 68 14 a189) = 1) ∧ (8 - a189) < (n186 : Int)) → INV pr Kz M190 → FX [66, 67, 68] M0 M190 → jj p l e (cn_R 0) s m args below meth c 0 0 Q 3 dC dI ad cA A M190 10 [(0, .ref (ad 66)), (1, .ref (ad 12)), (2, .int (sI a189))] [] := by
    intro n186
    induction n186 with
    | zero =>
      intro a189 M190 h191 hM190 fM190
      exfalso; omega
    | succ n186 ih187 =>
      intro a189 M190 h191 hM190 fM190
      refine j_iload_n C 2 2 dX9_copyFrom_10 rfl rfl ?_
      refine y_bipush C dX9_copyFrom_11 rfl ?_
      refine y_icmp_ge C 46 dX9_copyFrom_13 (by decide) (by exact ⟨⟨(by (clear fM190 hM190 ih187 u104z hM103 eM103 ua101 la101 hret C hq8_0 hpr hM0; omega)), (by (clear fM190 hM190 ih187 u104z hM103 eM103 ua101 la101 hret C hq8_0 hpr hM0; omega))⟩, ⟨(by decide), (by decide)⟩⟩) (fun h193 => ?_) (fun h193 => ?_)
      · refine j_aload_n C 0 0 dX9_copyFrom_46 rfl rfl ?_
        refine j_aload_n C 1 1 dX9_copyFrom_47 rfl rfl ?_
        refine y_getI C 8 _ _ fX9_copyFrom_22 rfl rfl ft_8_3 sb_8_3 hM190 dX9_copyFrom_48 (fun a199 ea199 la199 ua199 => ?_)
        obtain rfl : a199 = (M0.1 12 3).toInt := s_fX fM190 (by decide) (ea199)
        refine y_putI C 8 _ _ qX9_copyFrom_22 rfl rfl ft_8_3 sb_8_3 hM190 (PX.w hpr rfl rfl) dX9_copyFrom_51 (by exact ⟨⟨(by (clear h193 fM190 hM190 h191 ih187 u104z hM103 eM103 ua101 la101 hret C hq8_0 hpr hM0; omega)), (by (clear h193 fM190 hM190 h191 ih187 u104z hM103 eM103 ua101 la101 hret C hq8_0 hpr hM0; omega))⟩, ⟨la199, ua199⟩⟩) (fun M201 eM201 hM201 => ?_)
        refine j_aload_n C 0 0 dX9_copyFrom_54 rfl rfl ?_
        refine j_aload_n C 1 1 dX9_copyFrom_55 rfl rfl ?_
        refine y_getI C 8 _ _ fX9_copyFrom_25 rfl rfl ft_8_4 sb_8_4 hM201 dX9_copyFrom_56 (fun a202 ea202 la202 ua202 => ?_)
        obtain rfl : a202 = (M0.1 12 4).toInt := s_fX fM190 (by decide) (s_fa eM201 (by decide) (ea202))
        refine y_putI C 8 _ _ qX9_copyFrom_25 rfl rfl ft_8_4 sb_8_4 hM201 (PX.w hpr rfl rfl) dX9_copyFrom_59 (by exact ⟨⟨(by (clear hM201 eM201 ua199 la199 ea199 h193 fM190 hM190 h191 ih187 u104z hM103 eM103 ua101 la101 hret C hq8_0 hpr hM0; omega)), (by (clear hM201 eM201 ua199 la199 ea199 h193 fM190 hM190 h191 ih187 u104z hM103 eM103 ua101 la101 hret C hq8_0 hpr hM0; omega))⟩, ⟨la202, ua202⟩⟩) (fun M204 eM204 hM204 => ?_)
        refine j_aload_n C 0 0 dX9_copyFrom_62 rfl rfl ?_
        refine j_aload_n C 1 1 dX9_copyFrom_63 rfl rfl ?_
        refine y_getI C 8 _ _ fX9_copyFrom_28 rfl rfl ft_8_5 sb_8_5 hM204 dX9_copyFrom_64 (fun a205 ea205 la205 ua205 => ?_)
        obtain rfl : a205 = (M0.1 12 5).toInt := s_fX fM190 (by decide) (s_fa eM201 (by decide) (s_fa eM204 (by decide) (ea205)))
        refine y_putIF C 8 qX9_copyFrom_28 rfl rfl ft_8_5 sb_8_5 hM204 (PX.w hpr rfl rfl) dX9_copyFrom_67 (fun M207 eM207 hM207 => ?_)
        refine j_aload_n C 0 0 dX9_copyFrom_70 rfl rfl ?_
        refine j_aload_n C 1 1 dX9_copyFrom_71 rfl rfl ?_
        refine y_getI C 8 _ _ fX9_copyFrom_31 rfl rfl ft_8_6 sb_8_6 hM207 dX9_copyFrom_72 (fun a208 ea208 la208 ua208 => ?_)
        obtain rfl : a208 = (M0.1 12 6).toInt := s_fX fM190 (by decide) (s_fa eM201 (by decide) (s_fa eM204 (by decide) (s_fa eM207 (by decide) (ea208))))
        refine y_putIF C 8 qX9_copyFrom_31 rfl rfl ft_8_6 sb_8_6 hM207 (PX.w hpr rfl rfl) dX9_copyFrom_75 (fun M210 eM210 hM210 => ?_)
        refine j_aload_n C 0 0 dX9_copyFrom_78 rfl rfl ?_
        refine j_aload_n C 1 1 dX9_copyFrom_79 rfl rfl ?_
        refine y_getI C 8 _ _ fX9_copyFrom_34 rfl rfl ft_8_7 sb_8_7 hM210 dX9_copyFrom_80 (fun a211 ea211 la211 ua211 => ?_)
        obtain rfl : a211 = (M0.1 12 7).toInt := s_fX fM190 (by decide) (s_fa eM201 (by decide) (s_fa eM204 (by decide) (s_fa eM207 (by decide) (s_fa eM210 (by decide) (ea211)))))
        refine y_putIF C 8 qX9_copyFrom_34 rfl rfl ft_8_7 sb_8_7 hM210 (PX.w hpr rfl rfl) dX9_copyFrom_83 (fun M213 eM213 hM213 => ?_)
        refine j_aload_n C 0 0 dX9_copyFrom_86 rfl rfl ?_
        refine j_aload_n C 1 1 dX9_copyFrom_87 rfl rfl ?_
        refine y_getI C 8 _ _ fX9_copyFrom_37 rfl rfl ft_8_8 sb_8_8 hM213 dX9_copyFrom_88 (fun a214 ea214 la214 ua214 => ?_)
        obtain rfl : a214 = (M0.1 12 8).toInt := s_fX fM190 (by decide) (s_fa eM201 (by decide) (s_fa eM204 (by decide) (s_fa eM207 (by decide) (s_fa eM210 (by decide) (s_fa eM213 (by decide) (ea214))))))
        refine y_putIF C 8 qX9_copyFrom_37 rfl rfl ft_8_8 sb_8_8 hM213 (PX.w hpr rfl rfl) dX9_copyFrom_91 (fun M216 eM216 hM216 => ?_)
        have u217c := cpa_c (M := M190) (M' := M216) (B := M0) (p0 := 67) (p1 := 13) (g0 := 68) (g1 := 14) (n := a189) (n' := 8) (by exact h191.2.2.2.1) ((((((wI_cell eM216 (by decide)).trans (wI_cell eM213 (by decide))).trans (wI_cell eM210 (by decide))).trans (wI_cell eM207 (by decide))).trans (wI_cell eM204 (by decide))).trans (wI_cell eM201 (by decide))) ((((((wI_cell eM216 (by decide)).trans (wI_cell eM213 (by decide))).trans (wI_cell eM210 (by decide))).trans (wI_cell eM207 (by decide))).trans (wI_cell eM204 (by decide))).trans (wI_cell eM201 (by decide))) (by omega)
        have zz66_0 : (M216.1 66 0).toInt = (M190.1 66 0).toInt := s_fb eM201 (by decide) (s_fb eM204 (by decide) (s_fb eM207 (by decide) (s_fb eM210 (by decide) (s_fb eM213 (by decide) (s_fb eM216 (by decide) (rfl))))))
        have zz66_3 := (Eq.trans (s_fb eM204 (by decide) (s_fb eM207 (by decide) (s_fb eM210 (by decide) (s_fb eM213 (by decide) (s_fb eM216 (by decide) (rfl))))) : (M216.1 66 3).toInt = (M201.1 66 3).toInt) (s_wr eM201 (by (clear zz66_0 u217c hM216 eM216 ua214 la214 ea214 hM213 eM213 ua211 la211 ea211 hM210 eM210 ua208 la208 ea208 hM207 eM207 ua205 la205 ea205 hM204 eM204 ua202 la202 ea202 hM201 eM201 h193 fM190 hM190 h191 ih187 u104z hM103 eM103 ua101 la101 hret C hq8_0 hpr hM0; omega))))
        have zz66_4 := (Eq.trans (s_fb eM207 (by decide) (s_fb eM210 (by decide) (s_fb eM213 (by decide) (s_fb eM216 (by decide) (rfl)))) : (M216.1 66 4).toInt = (M204.1 66 4).toInt) (s_wr eM204 (by (clear zz66_3 zz66_0 u217c hM216 eM216 ua214 la214 ea214 hM213 eM213 ua211 la211 ea211 hM210 eM210 ua208 la208 ea208 hM207 eM207 ua205 la205 ea205 hM204 eM204 hM201 eM201 ua199 la199 ea199 h193 fM190 hM190 h191 ih187 u104z hM103 eM103 ua101 la101 hret C hq8_0 hpr hM0; omega))))
        have zz66_5 := (Eq.trans (s_fb eM210 (by decide) (s_fb eM213 (by decide) (s_fb eM216 (by decide) (rfl))) : (M216.1 66 5).toInt = (M207.1 66 5).toInt) (s_wr eM207 (by exact ⟨la205, ua205⟩)))
        have zz66_6 := (Eq.trans (s_fb eM213 (by decide) (s_fb eM216 (by decide) (rfl)) : (M216.1 66 6).toInt = (M210.1 66 6).toInt) (s_wr eM210 (by exact ⟨la208, ua208⟩)))
        have zz66_7 := (Eq.trans (s_fb eM216 (by decide) (rfl) : (M216.1 66 7).toInt = (M213.1 66 7).toInt) (s_wr eM213 (by exact ⟨la211, ua211⟩)))
        have zz66_8 := (Eq.trans (rfl : (M216.1 66 8).toInt = (M216.1 66 8).toInt) (s_wr eM216 (by exact ⟨la214, ua214⟩)))
        have u217k := copy_k (M := M0) (N := M216) (d := 66) (s := 12) (p := 0) (by (clear zz66_8 zz66_7 zz66_6 zz66_5 zz66_4 zz66_3 u217c hM216 eM216 ua214 la214 ea214 hM213 eM213 ua211 la211 ea211 hM210 eM210 ua208 la208 ea208 hM207 eM207 ua205 la205 ea205 hM204 eM204 ua202 la202 ea202 hM201 eM201 ua199 la199 ea199 h193 fM190 hM190 ih187 u104z hM103 eM103 ua101 la101 hret C hq8_0 hpr hM0; omega)) (by exact zz66_3) (by exact zz66_4) (by exact zz66_5) (by exact zz66_6) (by exact zz66_7) (by exact zz66_8) (show b01 (CPA M216 M0 67 13 68 14 8) = 1 from by exact u217c)
        exact hret _ _ _ dX9_copyFrom_94 ⟨hM216, (((((((FX.rf.tr fM190 (by decide)).wI eM201 (by decide)).wI eM204 (by decide)).wI eM207 (by decide)).wI eM210 (by decide)).wI eM213 (by decide)).wI eM216 (by decide)), by exact u217k⟩
      · refine j_aload_n C 0 0 dX9_copyFrom_16 rfl rfl ?_
        refine y_getC C 8 67 fX9_copyFrom_15 rfl rfl ft_8_1 sm_8_1 rfl hM190 dX9_copyFrom_17 ?_
        refine j_iload_n C 2 2 dX9_copyFrom_20 rfl rfl ?_
        refine j_aload_n C 1 1 dX9_copyFrom_21 rfl rfl ?_
        refine y_getC C 8 13 fX9_copyFrom_15 rfl rfl ft_8_1 sm_8_1 rfl hM190 dX9_copyFrom_22 ?_
        refine j_iload_n C 2 2 dX9_copyFrom_25 rfl rfl ?_
        refine y_iald C 25 8 _ _ rfl rfl rfl ak_25 an_25 rfl (sb_25 _) hM190 dX9_copyFrom_26 (by exact ⟨h191.1, (by omega)⟩) (fun a194 ea194 la194 ua194 => ?_)
        obtain rfl : a194 = (M0.1 13 (a189).toNat).toInt := s_fX fM190 (by decide) (ea194)
        refine y_iastF C 25 8 rfl rfl rfl ak_25 an_25 rfl (sb_25 _) hM190 (PX.w hpr rfl rfl) dX9_copyFrom_27 (by exact ⟨h191.1, (by omega)⟩) (fun M195 eM195 hM195 => ?_)
        refine j_aload_n C 0 0 dX9_copyFrom_28 rfl rfl ?_
        refine y_getC C 8 68 fX9_copyFrom_19 rfl rfl ft_8_2 sm_8_2 rfl hM195 dX9_copyFrom_29 ?_
        refine j_iload_n C 2 2 dX9_copyFrom_32 rfl rfl ?_
        refine j_aload_n C 1 1 dX9_copyFrom_33 rfl rfl ?_
        refine y_getC C 8 14 fX9_copyFrom_19 rfl rfl ft_8_2 sm_8_2 rfl hM195 dX9_copyFrom_34 ?_
        refine j_iload_n C 2 2 dX9_copyFrom_37 rfl rfl ?_
        refine y_iald C 26 8 _ _ rfl rfl rfl ak_26 an_26 rfl (sb_26 _) hM195 dX9_copyFrom_38 (by exact ⟨h191.1, (by omega)⟩) (fun a196 ea196 la196 ua196 => ?_)
        obtain rfl : a196 = (M0.1 14 (a189).toNat).toInt := s_fX fM190 (by decide) (s_fa eM195 (by decide) (ea196))
        refine y_iastF C 26 8 rfl rfl rfl ak_26 an_26 rfl (sb_26 _) hM195 (PX.w hpr rfl rfl) dX9_copyFrom_39 (by exact ⟨h191.1, (by omega)⟩) (fun M197 eM197 hM197 => ?_)
        refine y_iinc C 2 [(2, .int (sI (a189 + 1))), (0, .ref (ad 66)), (1, .ref (ad 12))] dX9_copyFrom_40 rfl (by decide) rfl ?_
        refine j_goto C 10 dX9_copyFrom_43 (by decide) ?_
        have u198s := cpa_s (B := M0) (p1 := 13) (g1 := 14) (n := a189) (n' := (a189 + 1)) (by exact h191.2.2.2.1) (by omega) eM195 eM197 (by decide)
        have zz66_0 : (M197.1 66 0).toInt = (M190.1 66 0).toInt := s_fa eM195 (by decide) (s_fa eM197 (by decide) (rfl)); refine j_lv [1, 2, 0] rfl ?_; exact ih187 (a189 + 1) M197 (by exact ⟨(by (clear hM197 eM197 ua196 la196 ea196 hM195 eM195 ua194 la194 ea194 fM190 hM190 ih187 u104z hM103 eM103 ua101 la101 hret C hq8_0 hpr hM0; omega)), ⟨(by (clear hM197 eM197 ua196 la196 ea196 hM195 eM195 ua194 la194 ea194 fM190 hM190 ih187 u104z hM103 eM103 ua101 la101 hret C hq8_0 hpr hM0; omega)), ⟨(by (clear hM197 eM197 ua196 la196 ea196 hM195 eM195 ua194 la194 ea194 fM190 hM190 ih187 u104z hM103 eM103 ua101 la101 hret C hq8_0 hpr hM0; omega)), ⟨u198s, (by (clear hM197 eM197 ua196 la196 ea196 hM195 eM195 ua194 la194 ea194 fM190 hM190 ih187 u104z hM103 eM103 ua101 la101 hret C hq8_0 hpr hM0; omega))⟩⟩⟩⟩) hM197 (((FX.rf.tr fM190 (by decide)).wI eM195 (by decide)).wI eM197 (by decide))
  have zz66_0 := (Eq.trans (rfl : (M103.1 66 0).toInt = (M103.1 66 0).toInt) (s_wr eM103 (by omega))); refine j_lv [1, 2, 0] rfl ?_; exact L188 2010 0 M103 (by exact ⟨(by decide), ⟨(by decide), ⟨zz66_0, ⟨u104z, (by decide)⟩⟩⟩⟩) hM103 (FX.rf.wI eM103 (by decide))
set_option maxHeartbeats 4000000 in
theorem s3_X7_copyFrom {l : Launch} {dC : Nat → ClassId} {dI : Nat → Nat → Nat} {ad : Nat → Nat} {cA : Nat → ClassId} {pr : Nat → Nat → Bool} {Kz : mm_M} {M0 : mm_M} (hM0 : INV pr Kz M0) (hpr : PX pr) (hq6_0 : ∀ i, s_c i = 6 → pr i 0 = false) (hq6_1 : ∀ i, s_c i = 6 → pr i 1 = false)  : Cv l 0 yX7_copyFrom wsX7_copyFrom dC dI ad cA [.ref (ad 70), .ref (ad 2)] M0 (fun M' => INV pr Kz M' ∧ FX [70, 71, 72, 73, 74] M0 M' ∧ (b01 (PCP M' M0 70 2) = 1)) := by
  refine cv_of (cc := cX7_copyFrom) (maxL := 3) (lv := [(0, .ref (ad 70)), (1, .ref (ad 2))]) (by decide) rfl (Nat.le_of_ble_eq_true rfl) rfl ?_
  intro p e s m args below meth c A Q C hret
  refine j_aload_n C 0 0 dX7_copyFrom_0 rfl rfl ?_
  refine j_aload_n C 1 1 dX7_copyFrom_1 rfl rfl ?_
  refine y_getI C 6 _ _ fX7_copyFrom_9 rfl rfl ft_6_0 sb_6_0 hM0 dX7_copyFrom_2 (fun a101 ea101 la101 ua101 => ?_)
  obtain rfl : a101 = (M0.1 2 0).toInt := ea101
  refine y_putI C 6 _ _ qX7_copyFrom_9 rfl rfl ft_6_0 sb_6_0 hM0 (hq6_0 _ rfl) dX7_copyFrom_5 (by exact ⟨⟨(by omega), (by omega)⟩, ⟨la101, ua101⟩⟩) (fun M103 eM103 hM103 => ?_)
  refine j_aload_n C 0 0 dX7_copyFrom_8 rfl rfl ?_
  refine j_aload_n C 1 1 dX7_copyFrom_9 rfl rfl ?_
  refine y_getI C 6 _ _ fX7_copyFrom_15 rfl rfl ft_6_1 sb_6_1 hM103 dX7_copyFrom_10 (fun a104 ea104 la104 ua104 => ?_)
  obtain rfl : a104 = (M0.1 2 1).toInt := s_fa eM103 (by decide) (ea104)
  refine y_putIF C 6 qX7_copyFrom_15 rfl rfl ft_6_1 sb_6_1 hM103 (hq6_1 _ rfl) dX7_copyFrom_13 (fun M106 eM106 hM106 => ?_)
  refine j_aload_n C 0 0 dX7_copyFrom_16 rfl rfl ?_
  refine j_aload_n C 1 1 dX7_copyFrom_17 rfl rfl ?_
  refine y_getI C 6 _ _ fX7_copyFrom_31 rfl rfl ft_6_6 sb_6_6 hM106 dX7_copyFrom_18 (fun a107 ea107 la107 ua107 => ?_)
  obtain rfl : a107 = (M0.1 2 6).toInt := s_fa eM103 (by decide) (s_fa eM106 (by decide) (ea107))
  refine y_putI C 6 _ _ qX7_copyFrom_31 rfl rfl ft_6_6 sb_6_6 hM106 (PX.w hpr rfl rfl) dX7_copyFrom_21 (by exact ⟨⟨(by omega), (by omega)⟩, ⟨la107, ua107⟩⟩) (fun M109 eM109 hM109 => ?_)
  refine j_aload_n C 0 0 dX7_copyFrom_24 rfl rfl ?_
  refine j_aload_n C 1 1 dX7_copyFrom_25 rfl rfl ?_
  refine y_getI C 6 _ _ fX7_copyFrom_34 rfl rfl ft_6_7 sb_6_7 hM109 dX7_copyFrom_26 (fun a110 ea110 la110 ua110 => ?_)
  obtain rfl : a110 = (M0.1 2 7).toInt := s_fa eM103 (by decide) (s_fa eM106 (by decide) (s_fa eM109 (by decide) (ea110)))
  refine y_putI C 6 _ _ qX7_copyFrom_34 rfl rfl ft_6_7 sb_6_7 hM109 (PX.w hpr rfl rfl) dX7_copyFrom_29 (by exact ⟨⟨(by omega), (by omega)⟩, ⟨la110, ua110⟩⟩) (fun M112 eM112 hM112 => ?_)
  refine j_aload_n C 0 0 dX7_copyFrom_32 rfl rfl ?_
  refine j_aload_n C 1 1 dX7_copyFrom_33 rfl rfl ?_
  refine y_getI C 6 _ _ fX7_copyFrom_37 rfl rfl ft_6_8 sb_6_8 hM112 dX7_copyFrom_34 (fun a113 ea113 la113 ua113 => ?_)
  obtain rfl : a113 = (M0.1 2 8).toInt := s_fa eM103 (by decide) (s_fa eM106 (by decide) (s_fa eM109 (by decide) (s_fa eM112 (by decide) (ea113))))
  refine y_putI C 6 _ _ qX7_copyFrom_37 rfl rfl ft_6_8 sb_6_8 hM112 (PX.w hpr rfl rfl) dX7_copyFrom_37 (by exact ⟨⟨(by omega), (by omega)⟩, ⟨la113, ua113⟩⟩) (fun M115 eM115 hM115 => ?_)
  refine j_aload_n C 0 0 dX7_copyFrom_40 rfl rfl ?_
  refine j_aload_n C 1 1 dX7_copyFrom_41 rfl rfl ?_
  refine y_getI C 6 _ _ fX7_copyFrom_40 rfl rfl ft_6_9 sb_6_9 hM115 dX7_copyFrom_42 (fun a116 ea116 la116 ua116 => ?_)
  obtain rfl : a116 = (M0.1 2 9).toInt := s_fa eM103 (by decide) (s_fa eM106 (by decide) (s_fa eM109 (by decide) (s_fa eM112 (by decide) (s_fa eM115 (by decide) (ea116)))))
  refine y_putI C 6 _ _ qX7_copyFrom_40 rfl rfl ft_6_9 sb_6_9 hM115 (PX.w hpr rfl rfl) dX7_copyFrom_45 (by exact ⟨⟨(by omega), (by omega)⟩, ⟨la116, ua116⟩⟩) (fun M118 eM118 hM118 => ?_)
  refine j_aload_n C 0 0 dX7_copyFrom_48 rfl rfl ?_
  refine j_aload_n C 1 1 dX7_copyFrom_49 rfl rfl ?_
  refine y_getI C 6 _ _ fX7_copyFrom_43 rfl rfl ft_6_10 sb_6_10 hM118 dX7_copyFrom_50 (fun a119 ea119 la119 ua119 => ?_)
  obtain rfl : a119 = (M0.1 2 10).toInt := s_fa eM103 (by decide) (s_fa eM106 (by decide) (s_fa eM109 (by decide) (s_fa eM112 (by decide) (s_fa eM115 (by decide) (s_fa eM118 (by decide) (ea119))))))
  refine y_putI C 6 _ _ qX7_copyFrom_43 rfl rfl ft_6_10 sb_6_10 hM118 (PX.w hpr rfl rfl) dX7_copyFrom_53 (by exact ⟨⟨(by omega), (by omega)⟩, ⟨la119, ua119⟩⟩) (fun M121 eM121 hM121 => ?_)
  refine y_iconst C dX7_copyFrom_56 ?_
  refine j_istore_n C 2 [(2, .int (sI 0)), (0, .ref (ad 70)), (1, .ref (ad 2))] dX7_copyFrom_57 rfl (by decide) rfl ?_
  have u122z := pca_0 M121 M0 70 2
  have L202 : ∀ (n200 : Nat), ∀ (a203 : Int) (M204 : mm_M), (0 ≤ a203 ∧ a203 ≤ 6 ∧ ((M204.1 70 0).toInt = (M0.1 2 0).toInt) ∧ ((M204.1 70 1).toInt = (M0.1 2 1).toInt) ∧ ((M204.1 70 6).toInt = (M0.1 2 6).toInt) ∧ ((M204.1 70 7).toInt = (M0.1 2 7).toInt) ∧ ((M204.1 70 8).toInt = (M0.1 2 8).toInt) ∧ ((M204.1 70 9).toInt = (M0.1 2 9).toInt) ∧ ((M204.1 70 10).toInt = (M0.1 2 10).toInt) ∧ (b01 (PCA M204 M0 70 2 a203) = 1) ∧ (6 - a203) < (n200 : Int)) → INV pr Kz M204 → FX [70, 71, 72, 73, 74] M0 M204 → jj p l e (cn_R 0) s m args below meth c 0 0 Q 3 dC dI ad cA A M204 58 [(0, .ref (ad 70)), (1, .ref (ad 2)), (2, .int (sI a203))] [] := by
    intro n200
    induction n200 with
    | zero =>
      intro a203 M204 h205 hM204 fM204
      exfalso; omega
    | succ n200 ih201 =>
      intro a203 M204 h205 hM204 fM204
      refine j_iload_n C 2 2 dX7_copyFrom_58 rfl rfl ?_
      refine y_bipush C dX7_copyFrom_59 rfl ?_
      refine y_icmp_ge C 106 dX7_copyFrom_61 (by decide) (by exact ⟨⟨(by (clear fM204 hM204 ih201 u122z hM121 eM121 ua119 la119 ea119 hM118 eM118 ua116 la116 ea116 hM115 eM115 ua113 la113 ea113 hM112 eM112 ua110 la110 ea110 hM109 eM109 ua107 la107 ea107 hM106 eM106 ua104 la104 ea104 hM103 eM103 ua101 la101 hret C hq6_1 hq6_0 hpr hM0; omega)), (by (clear fM204 hM204 ih201 u122z hM121 eM121 ua119 la119 ea119 hM118 eM118 ua116 la116 ea116 hM115 eM115 ua113 la113 ea113 hM112 eM112 ua110 la110 ea110 hM109 eM109 ua107 la107 ea107 hM106 eM106 ua104 la104 ea104 hM103 eM103 ua101 la101 hret C hq6_1 hq6_0 hpr hM0; omega))⟩, ⟨(by decide), (by decide)⟩⟩) (fun h207 => ?_) (fun h207 => ?_)
      · refine y_iconst C dX7_copyFrom_106 ?_
        refine j_istore_n C 2 [(2, .int (sI 0)), (0, .ref (ad 70)), (1, .ref (ad 2))] dX7_copyFrom_107 rfl (by decide) rfl ?_
        have u215z := pcc_0 M204 M0 70 2
        have u215y := pca_c (A := M204) (B := M204) (M := M0) (d := 70) (s := 2) (n := a203) (n' := 6) (by exact h205.2.2.2.2.2.2.2.2.2.1) (by exact h207) ⟨rfl, rfl, rfl⟩
        have u215b := hM0.rd (i := 2) (c := 6) (k := 6) rfl (show s_b 6 6 = (0, 900) from rfl)
        have L228 : ∀ (n226 : Nat), ∀ (a229 : Int) (M230 : mm_M), (0 ≤ a229 ∧ a229 ≤ 900 ∧ ((M230.1 70 0).toInt = (M0.1 2 0).toInt) ∧ ((M230.1 70 1).toInt = (M0.1 2 1).toInt) ∧ ((M230.1 70 6).toInt = (M0.1 2 6).toInt) ∧ ((M230.1 70 7).toInt = (M0.1 2 7).toInt) ∧ ((M230.1 70 8).toInt = (M0.1 2 8).toInt) ∧ ((M230.1 70 9).toInt = (M0.1 2 9).toInt) ∧ ((M230.1 70 10).toInt = (M0.1 2 10).toInt) ∧ (b01 (PCA M230 M0 70 2 6) = 1) ∧ (b01 (PCC M230 M0 70 2 a229) = 1) ∧ (a229 ≤ (M0.1 2 6).toInt) ∧ (900 - a229) < (n226 : Int)) → INV pr Kz M230 → FX [70, 71, 72, 73, 74] M0 M230 → jj p l e (cn_R 0) s m args below meth c 0 0 Q 3 dC dI ad cA A M230 108 [(0, .ref (ad 70)), (1, .ref (ad 2)), (2, .int (sI a229))] [] := by
          intro n226
          induction n226 with
          | zero =>
            intro a229 M230 h231 hM230 fM230
            exfalso; (clear fM230 hM230 u215b u215y u215z h207 fM204 hM204 h205 ih201 u122z hM121 eM121 ua119 la119 ea119 hM118 eM118 ua116 la116 ea116 hM115 eM115 ua113 la113 ea113 hM112 eM112 ua110 la110 ea110 hM109 eM109 ua107 la107 ea107 hM106 eM106 ua104 la104 ea104 hM103 eM103 ua101 la101 hret C hq6_1 hq6_0 hpr hM0; omega)
          | succ n226 ih227 =>
            intro a229 M230 h231 hM230 fM230
            have u232b := hM0.rd (i := 2) (c := 6) (k := 6) rfl (show s_b 6 6 = (0, 900) from rfl)
            refine j_iload_n C 2 2 dX7_copyFrom_108 rfl rfl ?_
            refine j_aload_n C 0 0 dX7_copyFrom_109 rfl rfl ?_
            refine y_getI C 6 _ _ fX7_copyFrom_31 rfl rfl ft_6_6 sb_6_6 hM230 dX7_copyFrom_110 (fun a233 ea233 la233 ua233 => ?_)
            obtain rfl : a233 = (M230.1 70 6).toInt := ea233
            refine y_icmp_ge C 143 dX7_copyFrom_113 (by decide) (by (clear ua233 la233 u232b fM230 hM230 ih227 u215b u215y u215z h207 fM204 hM204 ih201 u122z hM121 eM121 ua119 la119 ea119 hM118 eM118 ua116 la116 ea116 hM115 eM115 ua113 la113 ea113 hM112 eM112 ua110 la110 ea110 hM109 eM109 hM106 eM106 ua104 la104 ea104 hM103 eM103 ua101 la101 hret C hq6_1 hq6_0 hpr hM0; omega)) (fun h235 => ?_) (fun h235 => ?_)
            · have u240f := pcf_i (N := M230) (M := M0) (d := 70) (s := 2) (by exact h231.2.2.1) (by exact h231.2.2.2.1) (by exact h231.2.2.2.2.1) (by exact h231.2.2.2.2.2.1) (by exact h231.2.2.2.2.2.2.1) (by exact h231.2.2.2.2.2.2.2.1) (by exact h231.2.2.2.2.2.2.2.2.1)
              have u240k := pcp_i (n := a229) u240f (by exact h231.2.2.2.2.2.2.2.2.2.1) (by exact h231.2.2.2.2.2.2.2.2.2.2.1) (by (clear u240f ua233 la233 u232b fM230 hM230 ih227 u215b u215y u215z h207 fM204 hM204 ih201 u122z hM121 eM121 ua119 la119 ea119 hM118 eM118 ua116 la116 ea116 hM115 eM115 ua113 la113 ea113 hM112 eM112 ua110 la110 ea110 hM109 eM109 ua107 la107 hM106 eM106 ua104 la104 ea104 hM103 eM103 ua101 la101 hret C hq6_1 hq6_0 hpr hM0; omega))
              exact hret _ _ _ dX7_copyFrom_143 ⟨hM230, (FX.rf.tr fM230 (by decide)), by exact u240k⟩
            · refine j_iload_n C 2 2 dX7_copyFrom_116 rfl rfl ?_
              refine j_aload_n C 0 0 dX7_copyFrom_117 rfl rfl ?_
              refine y_getC C 6 74 fX7_copyFrom_28 rfl rfl ft_6_5 sm_6_5 rfl hM230 dX7_copyFrom_118 ?_
              refine y_alen C 24 900 rfl rfl rfl an_24 rfl rfl dX7_copyFrom_121 ?_
              refine y_icmp_ge C 143 dX7_copyFrom_122 (by decide) (by exact ⟨⟨(by (clear h235 ua233 la233 u232b fM230 hM230 ih227 u215b u215y u215z h207 fM204 hM204 h205 ih201 u122z hM121 eM121 ua119 la119 ea119 hM118 eM118 ua116 la116 ea116 hM115 eM115 ua113 la113 ea113 hM112 eM112 ua110 la110 ea110 hM109 eM109 ua107 la107 ea107 hM106 eM106 ua104 la104 ea104 hM103 eM103 ua101 la101 hret C hq6_1 hq6_0 hpr hM0; omega)), (by (clear h235 ua233 la233 u232b fM230 hM230 ih227 u215b u215y u215z h207 fM204 hM204 h205 ih201 u122z hM121 eM121 ua119 la119 ea119 hM118 eM118 ua116 la116 ea116 hM115 eM115 ua113 la113 ea113 hM112 eM112 ua110 la110 ea110 hM109 eM109 ua107 la107 ea107 hM106 eM106 ua104 la104 ea104 hM103 eM103 ua101 la101 hret C hq6_1 hq6_0 hpr hM0; omega))⟩, ⟨(by decide), (by decide)⟩⟩) (fun h236 => ?_) (fun h236 => ?_)
              · exfalso; (clear ua233 la233 u232b fM230 hM230 ih227 u215b u215y u215z h207 fM204 hM204 ih201 u122z hM121 eM121 ua119 la119 ea119 hM118 eM118 ua116 la116 ea116 hM115 eM115 ua113 la113 ea113 hM112 eM112 ua110 la110 ea110 hM109 eM109 hM106 eM106 ua104 la104 ea104 hM103 eM103 ua101 la101 hret C hq6_1 hq6_0 hpr hM0; omega)
              · refine j_aload_n C 0 0 dX7_copyFrom_125 rfl rfl ?_
                refine y_getC C 6 74 fX7_copyFrom_28 rfl rfl ft_6_5 sm_6_5 rfl hM230 dX7_copyFrom_126 ?_
                refine j_iload_n C 2 2 dX7_copyFrom_129 rfl rfl ?_
                refine j_aload_n C 1 1 dX7_copyFrom_130 rfl rfl ?_
                refine y_getC C 6 6 fX7_copyFrom_28 rfl rfl ft_6_5 sm_6_5 rfl hM230 dX7_copyFrom_131 ?_
                refine j_iload_n C 2 2 dX7_copyFrom_134 rfl rfl ?_
                refine y_iald C 24 900 _ _ rfl rfl rfl ak_24 an_24 rfl (sb_24 _) hM230 dX7_copyFrom_135 (by exact ⟨h231.1, (by (clear h235 ua233 la233 u232b fM230 hM230 ih227 u215b u215y u215z h207 fM204 hM204 h205 ih201 u122z hM121 eM121 ua119 la119 ea119 hM118 eM118 ua116 la116 ea116 hM115 eM115 ua113 la113 ea113 hM112 eM112 ua110 la110 ea110 hM109 eM109 ua107 la107 ea107 hM106 eM106 ua104 la104 ea104 hM103 eM103 ua101 la101 hret C hq6_1 hq6_0 hpr hM0; omega))⟩) (fun a237 ea237 la237 ua237 => ?_)
                obtain rfl : a237 = (M0.1 6 (a229).toNat).toInt := s_fX fM230 (by decide) (ea237)
                refine y_iastF C 24 900 rfl rfl rfl ak_24 an_24 rfl (sb_24 _) hM230 (PX.w hpr rfl rfl) dX7_copyFrom_136 (by exact ⟨h231.1, (by omega)⟩) (fun M238 eM238 hM238 => ?_)
                refine y_iinc C 2 [(2, .int (sI (a229 + 1))), (0, .ref (ad 70)), (1, .ref (ad 2))] dX7_copyFrom_137 rfl (by decide) rfl ?_
                refine j_goto C 108 dX7_copyFrom_140 (by decide) ?_
                have u239s := pcc_s (A := M230) (B := M238) (M := M0) (d := 70) (s := 2) (n := a229) (n' := (a229 + 1)) (by exact h231.2.2.2.2.2.2.2.2.2.2.1) (by (clear hM238 eM238 ua237 la237 ea237 h235 ua233 la233 u232b fM230 hM230 ih227 u215b u215y u215z h207 fM204 hM204 h205 ih201 u122z hM121 eM121 ua119 la119 ea119 hM118 eM118 ua116 la116 ea116 hM115 eM115 ua113 la113 ea113 hM112 eM112 ua110 la110 ea110 hM109 eM109 ua107 la107 ea107 hM106 eM106 ua104 la104 ea104 hM103 eM103 ua101 la101 hret C hq6_1 hq6_0 hpr hM0; omega)) eM238
                have u239y := pca_c (A := M230) (B := M238) (M := M0) (d := 70) (s := 2) (n := 6) (n' := 6) (by exact h231.2.2.2.2.2.2.2.2.2.1) (by exact (by decide)) ⟨wI_cell eM238 (by decide), wI_cell eM238 (by decide), wI_cell eM238 (by decide)⟩
                have zz70_9 : (M238.1 70 9).toInt = (M230.1 70 9).toInt := s_fa eM238 (by decide) (rfl); have zz70_8 : (M238.1 70 8).toInt = (M230.1 70 8).toInt := s_fa eM238 (by decide) (rfl); have zz70_7 : (M238.1 70 7).toInt = (M230.1 70 7).toInt := s_fa eM238 (by decide) (rfl); have zz70_6 : (M238.1 70 6).toInt = (M230.1 70 6).toInt := s_fa eM238 (by decide) (rfl); have zz70_10 : (M238.1 70 10).toInt = (M230.1 70 10).toInt := s_fa eM238 (by decide) (rfl); have zz70_1 : (M238.1 70 1).toInt = (M230.1 70 1).toInt := s_fa eM238 (by decide) (rfl); have zz70_0 : (M238.1 70 0).toInt = (M230.1 70 0).toInt := s_fa eM238 (by decide) (rfl); refine j_lv [1, 2, 0] rfl ?_; exact ih227 (a229 + 1) M238 (by (clear hM238 eM238 ua237 la237 ea237 ua233 la233 u232b fM230 hM230 ih227 u215b u215y u215z h207 fM204 hM204 ih201 u122z hM121 eM121 ua119 la119 hM118 eM118 ua116 la116 hM115 eM115 ua113 la113 hM112 eM112 ua110 la110 hM109 eM109 ua107 la107 hM106 eM106 ua104 la104 hM103 eM103 ua101 la101 hret C hq6_1 hq6_0 hpr hM0; omega)) hM238 ((FX.rf.tr fM230 (by decide)).wI eM238 (by decide))
        refine j_lv [1, 2, 0] rfl ?_; exact L228 2010 0 M204 (by exact ⟨(by decide), ⟨(by decide), ⟨h205.2.2.1, ⟨h205.2.2.2.1, ⟨h205.2.2.2.2.1, ⟨h205.2.2.2.2.2.1, ⟨h205.2.2.2.2.2.2.1, ⟨h205.2.2.2.2.2.2.2.1, ⟨h205.2.2.2.2.2.2.2.2.1, ⟨u215y, ⟨u215z, ⟨la107, (by decide)⟩⟩⟩⟩⟩⟩⟩⟩⟩⟩⟩⟩) hM204 (FX.rf.tr fM204 (by decide))
      · refine j_aload_n C 0 0 dX7_copyFrom_64 rfl rfl ?_
        refine y_getC C 6 71 fX7_copyFrom_18 rfl rfl ft_6_2 sm_6_2 rfl hM204 dX7_copyFrom_65 ?_
        refine j_iload_n C 2 2 dX7_copyFrom_68 rfl rfl ?_
        refine j_aload_n C 1 1 dX7_copyFrom_69 rfl rfl ?_
        refine y_getC C 6 3 fX7_copyFrom_18 rfl rfl ft_6_2 sm_6_2 rfl hM204 dX7_copyFrom_70 ?_
        refine j_iload_n C 2 2 dX7_copyFrom_73 rfl rfl ?_
        refine y_iald C 21 6 _ _ rfl rfl rfl ak_21 an_21 rfl (sb_21 _) hM204 dX7_copyFrom_74 (by exact ⟨h205.1, (by (clear fM204 hM204 ih201 u122z hM121 eM121 ua119 la119 ea119 hM118 eM118 ua116 la116 ea116 hM115 eM115 ua113 la113 ea113 hM112 eM112 ua110 la110 ea110 hM109 eM109 ua107 la107 ea107 hM106 eM106 ua104 la104 ea104 hM103 eM103 ua101 la101 hret C hq6_1 hq6_0 hpr hM0; omega))⟩) (fun a208 ea208 la208 ua208 => ?_)
        obtain rfl : a208 = (M0.1 3 (a203).toNat).toInt := s_fX fM204 (by decide) (ea208)
        refine y_iastF C 21 6 rfl rfl rfl ak_21 an_21 rfl (sb_21 _) hM204 (PX.w hpr rfl rfl) dX7_copyFrom_75 (by exact ⟨h205.1, (by omega)⟩) (fun M209 eM209 hM209 => ?_)
        refine j_aload_n C 0 0 dX7_copyFrom_76 rfl rfl ?_
        refine y_getC C 6 72 fX7_copyFrom_22 rfl rfl ft_6_3 sm_6_3 rfl hM209 dX7_copyFrom_77 ?_
        refine j_iload_n C 2 2 dX7_copyFrom_80 rfl rfl ?_
        refine j_aload_n C 1 1 dX7_copyFrom_81 rfl rfl ?_
        refine y_getC C 6 4 fX7_copyFrom_22 rfl rfl ft_6_3 sm_6_3 rfl hM209 dX7_copyFrom_82 ?_
        refine j_iload_n C 2 2 dX7_copyFrom_85 rfl rfl ?_
        refine y_iald C 22 6 _ _ rfl rfl rfl ak_22 an_22 rfl (sb_22 _) hM209 dX7_copyFrom_86 (by exact ⟨h205.1, (by omega)⟩) (fun a210 ea210 la210 ua210 => ?_)
        obtain rfl : a210 = (M0.1 4 (a203).toNat).toInt := s_fX fM204 (by decide) (s_fa eM209 (by decide) (ea210))
        refine y_iastF C 22 6 rfl rfl rfl ak_22 an_22 rfl (sb_22 _) hM209 (PX.w hpr rfl rfl) dX7_copyFrom_87 (by exact ⟨h205.1, (by (clear ua210 la210 ea210 hM209 eM209 ua208 la208 ea208 fM204 hM204 ih201 u122z hM121 eM121 ua119 la119 ea119 hM118 eM118 ua116 la116 ea116 hM115 eM115 ua113 la113 ea113 hM112 eM112 ua110 la110 ea110 hM109 eM109 ua107 la107 ea107 hM106 eM106 ua104 la104 ea104 hM103 eM103 ua101 la101 hret C hq6_1 hq6_0 hpr hM0; omega))⟩) (fun M211 eM211 hM211 => ?_)
        refine j_aload_n C 0 0 dX7_copyFrom_88 rfl rfl ?_
        refine y_getC C 6 73 fX7_copyFrom_25 rfl rfl ft_6_4 sm_6_4 rfl hM211 dX7_copyFrom_89 ?_
        refine j_iload_n C 2 2 dX7_copyFrom_92 rfl rfl ?_
        refine j_aload_n C 1 1 dX7_copyFrom_93 rfl rfl ?_
        refine y_getC C 6 5 fX7_copyFrom_25 rfl rfl ft_6_4 sm_6_4 rfl hM211 dX7_copyFrom_94 ?_
        refine j_iload_n C 2 2 dX7_copyFrom_97 rfl rfl ?_
        refine y_iald C 23 6 _ _ rfl rfl rfl ak_23 an_23 rfl (sb_23 _) hM211 dX7_copyFrom_98 (by exact ⟨h205.1, (by omega)⟩) (fun a212 ea212 la212 ua212 => ?_)
        obtain rfl : a212 = (M0.1 5 (a203).toNat).toInt := s_fX fM204 (by decide) (s_fa eM209 (by decide) (s_fa eM211 (by decide) (ea212)))
        refine y_iastF C 23 6 rfl rfl rfl ak_23 an_23 rfl (sb_23 _) hM211 (PX.w hpr rfl rfl) dX7_copyFrom_99 (by exact ⟨h205.1, (by (clear ua212 la212 ea212 hM211 eM211 ua210 la210 ea210 hM209 eM209 ua208 la208 ea208 fM204 hM204 ih201 u122z hM121 eM121 ua119 la119 ea119 hM118 eM118 ua116 la116 ea116 hM115 eM115 ua113 la113 ea113 hM112 eM112 ua110 la110 ea110 hM109 eM109 ua107 la107 ea107 hM106 eM106 ua104 la104 ea104 hM103 eM103 ua101 la101 hret C hq6_1 hq6_0 hpr hM0; omega))⟩) (fun M213 eM213 hM213 => ?_)
        refine y_iinc C 2 [(2, .int (sI (a203 + 1))), (0, .ref (ad 70)), (1, .ref (ad 2))] dX7_copyFrom_100 rfl (by decide) rfl ?_
        refine j_goto C 58 dX7_copyFrom_103 (by decide) ?_
        have u214s := pca_s (A := M204) (B := M209) (C := M211) (D := M213) (M := M0) (d := 70) (s := 2) (n := a203) (n' := (a203 + 1)) (by exact h205.2.2.2.2.2.2.2.2.2.1) (by (clear hM213 eM213 ua212 la212 ea212 hM211 eM211 ua210 la210 ea210 hM209 eM209 ua208 la208 ea208 fM204 hM204 ih201 u122z hM121 eM121 ua119 la119 ea119 hM118 eM118 ua116 la116 ea116 hM115 eM115 ua113 la113 ea113 hM112 eM112 ua110 la110 ea110 hM109 eM109 ua107 la107 ea107 hM106 eM106 ua104 la104 ea104 hM103 eM103 ua101 la101 hret C hq6_1 hq6_0 hpr hM0; omega)) eM209 eM211 eM213 (by decide)
        have zz70_9 : (M213.1 70 9).toInt = (M204.1 70 9).toInt := s_fa eM209 (by decide) (s_fa eM211 (by decide) (s_fa eM213 (by decide) (rfl))); have zz70_8 : (M213.1 70 8).toInt = (M204.1 70 8).toInt := s_fa eM209 (by decide) (s_fa eM211 (by decide) (s_fa eM213 (by decide) (rfl))); have zz70_7 : (M213.1 70 7).toInt = (M204.1 70 7).toInt := s_fa eM209 (by decide) (s_fa eM211 (by decide) (s_fa eM213 (by decide) (rfl))); have zz70_6 : (M213.1 70 6).toInt = (M204.1 70 6).toInt := s_fa eM209 (by decide) (s_fa eM211 (by decide) (s_fa eM213 (by decide) (rfl))); have zz70_10 : (M213.1 70 10).toInt = (M204.1 70 10).toInt := s_fa eM209 (by decide) (s_fa eM211 (by decide) (s_fa eM213 (by decide) (rfl))); have zz70_1 : (M213.1 70 1).toInt = (M204.1 70 1).toInt := s_fa eM209 (by decide) (s_fa eM211 (by decide) (s_fa eM213 (by decide) (rfl))); have zz70_0 : (M213.1 70 0).toInt = (M204.1 70 0).toInt := s_fa eM209 (by decide) (s_fa eM211 (by decide) (s_fa eM213 (by decide) (rfl))); refine j_lv [1, 2, 0] rfl ?_; exact ih201 (a203 + 1) M213 (by (clear hM213 eM213 ua212 la212 ea212 hM211 eM211 ua210 la210 ea210 hM209 eM209 ua208 la208 ea208 fM204 hM204 ih201 u122z hM121 eM121 ua119 la119 hM118 eM118 ua116 la116 hM115 eM115 ua113 la113 hM112 eM112 ua110 la110 hM109 eM109 ua107 la107 hM106 eM106 ua104 la104 hM103 eM103 ua101 la101 hret C hq6_1 hq6_0 hpr hM0; omega)) hM213 ((((FX.rf.tr fM204 (by decide)).wI eM209 (by decide)).wI eM211 (by decide)).wI eM213 (by decide))
  have zz70_9 := (Eq.trans (s_fb eM121 (by decide) (rfl) : (M121.1 70 9).toInt = (M118.1 70 9).toInt) (s_wr eM118 (by omega))); have zz70_8 := (Eq.trans (s_fb eM118 (by decide) (s_fb eM121 (by decide) (rfl)) : (M121.1 70 8).toInt = (M115.1 70 8).toInt) (s_wr eM115 (by omega))); have zz70_7 := (Eq.trans (s_fb eM115 (by decide) (s_fb eM118 (by decide) (s_fb eM121 (by decide) (rfl))) : (M121.1 70 7).toInt = (M112.1 70 7).toInt) (s_wr eM112 (by omega))); have zz70_6 := (Eq.trans (s_fb eM112 (by decide) (s_fb eM115 (by decide) (s_fb eM118 (by decide) (s_fb eM121 (by decide) (rfl)))) : (M121.1 70 6).toInt = (M109.1 70 6).toInt) (s_wr eM109 (by omega))); have zz70_10 := (Eq.trans (rfl : (M121.1 70 10).toInt = (M121.1 70 10).toInt) (s_wr eM121 (by omega))); have zz70_1 := (Eq.trans (s_fb eM109 (by decide) (s_fb eM112 (by decide) (s_fb eM115 (by decide) (s_fb eM118 (by decide) (s_fb eM121 (by decide) (rfl))))) : (M121.1 70 1).toInt = (M106.1 70 1).toInt) (s_wr eM106 (by exact ⟨la104, ua104⟩))); have zz70_0 := (Eq.trans (s_fb eM106 (by decide) (s_fb eM109 (by decide) (s_fb eM112 (by decide) (s_fb eM115 (by decide) (s_fb eM118 (by decide) (s_fb eM121 (by decide) (rfl)))))) : (M121.1 70 0).toInt = (M103.1 70 0).toInt) (s_wr eM103 (by omega))); refine j_lv [1, 2, 0] rfl ?_; exact L202 2010 0 M121 (by exact ⟨(by decide), ⟨(by decide), ⟨zz70_0, ⟨zz70_1, ⟨zz70_6, ⟨zz70_7, ⟨zz70_8, ⟨zz70_9, ⟨zz70_10, ⟨u122z, (by decide)⟩⟩⟩⟩⟩⟩⟩⟩⟩⟩) hM121 (((((((FX.rf.wI eM103 (by decide)).wI eM106 (by decide)).wI eM109 (by decide)).wI eM112 (by decide)).wI eM115 (by decide)).wI eM118 (by decide)).wI eM121 (by decide))
set_option maxHeartbeats 4000000 in
theorem s35_X9_copyFrom {l : Launch} {dC : Nat → ClassId} {dI : Nat → Nat → Nat} {ad : Nat → Nat} {cA : Nat → ClassId} {pr : Nat → Nat → Bool} {Kz : mm_M} {M0 : mm_M} (hM0 : INV pr Kz M0) (hpr : PX pr) (hq8_0 : ∀ i, s_c i = 8 → pr i 0 = false)  : Cv l 0 yX9_copyFrom wsX9_copyFrom dC dI ad cA [.ref (ad 75), .ref (ad 12)] M0 (fun M' => INV pr Kz M' ∧ FX [75, 76, 77] M0 M' ∧ (b01 (skX M' 75 = skX M0 12) = 1)) := by
  refine cv_of (cc := cX9_copyFrom) (maxL := 3) (lv := [(0, .ref (ad 75)), (1, .ref (ad 12))]) (by decide) rfl (Nat.le_of_ble_eq_true rfl) rfl ?_
  intro p e s m args below meth c A Q C hret
  refine j_aload_n C 0 0 dX9_copyFrom_0 rfl rfl ?_
  refine j_aload_n C 1 1 dX9_copyFrom_1 rfl rfl ?_
  refine y_getI C 8 _ _ fX9_copyFrom_9 rfl rfl ft_8_0 sb_8_0 hM0 dX9_copyFrom_2 (fun a101 ea101 la101 ua101 => ?_)
  obtain rfl : a101 = (M0.1 12 0).toInt := ea101
  refine y_putI C 8 _ _ qX9_copyFrom_9 rfl rfl ft_8_0 sb_8_0 hM0 (hq8_0 _ rfl) dX9_copyFrom_5 (by exact ⟨⟨(by omega), (by omega)⟩, ⟨la101, ua101⟩⟩) (fun M103 eM103 hM103 => ?_)
  refine y_iconst C dX9_copyFrom_8 ?_
  refine j_istore_n C 2 [(2, .int (sI 0)), (0, .ref (ad 75)), (1, .ref (ad 12))] dX9_copyFrom_9 rfl (by decide) rfl ?_
  have u104z := cpa_0 M103 M0 76 13 77 14
  have L188 : ∀ (n186 : Nat), ∀ (a189 : Int) (M190 : mm_M), (0 ≤ a189 ∧ a189 ≤ 8 ∧ ((M190.1 75 0).toInt = (M0.1 12 0).toInt) ∧ (b01 (CPA M190 M0 76 13 77 14 a189) = 1) ∧ (8 - a189) < (n186 : Int)) → INV pr Kz M190 → FX [75, 76, 77] M0 M190 → jj p l e (cn_R 0) s m args below meth c 0 0 Q 3 dC dI ad cA A M190 10 [(0, .ref (ad 75)), (1, .ref (ad 12)), (2, .int (sI a189))] [] := by
    intro n186
    induction n186 with
    | zero =>
      intro a189 M190 h191 hM190 fM190
      exfalso; omega
    | succ n186 ih187 =>
      intro a189 M190 h191 hM190 fM190
      refine j_iload_n C 2 2 dX9_copyFrom_10 rfl rfl ?_
      refine y_bipush C dX9_copyFrom_11 rfl ?_
      refine y_icmp_ge C 46 dX9_copyFrom_13 (by decide) (by exact ⟨⟨(by omega), (by omega)⟩, ⟨(by decide), (by decide)⟩⟩) (fun h193 => ?_) (fun h193 => ?_)
      · refine j_aload_n C 0 0 dX9_copyFrom_46 rfl rfl ?_
        refine j_aload_n C 1 1 dX9_copyFrom_47 rfl rfl ?_
        refine y_getI C 8 _ _ fX9_copyFrom_22 rfl rfl ft_8_3 sb_8_3 hM190 dX9_copyFrom_48 (fun a199 ea199 la199 ua199 => ?_)
        obtain rfl : a199 = (M0.1 12 3).toInt := s_fX fM190 (by decide) (ea199)
        refine y_putI C 8 _ _ qX9_copyFrom_22 rfl rfl ft_8_3 sb_8_3 hM190 (PX.w hpr rfl rfl) dX9_copyFrom_51 (by exact ⟨⟨(by omega), (by omega)⟩, ⟨la199, ua199⟩⟩) (fun M201 eM201 hM201 => ?_)
        refine j_aload_n C 0 0 dX9_copyFrom_54 rfl rfl ?_
        refine j_aload_n C 1 1 dX9_copyFrom_55 rfl rfl ?_
        refine y_getI C 8 _ _ fX9_copyFrom_25 rfl rfl ft_8_4 sb_8_4 hM201 dX9_copyFrom_56 (fun a202 ea202 la202 ua202 => ?_)
        obtain rfl : a202 = (M0.1 12 4).toInt := s_fX fM190 (by decide) (s_fa eM201 (by decide) (ea202))
        refine y_putI C 8 _ _ qX9_copyFrom_25 rfl rfl ft_8_4 sb_8_4 hM201 (PX.w hpr rfl rfl) dX9_copyFrom_59 (by exact ⟨⟨(by omega), (by omega)⟩, ⟨la202, ua202⟩⟩) (fun M204 eM204 hM204 => ?_)
        refine j_aload_n C 0 0 dX9_copyFrom_62 rfl rfl ?_
        refine j_aload_n C 1 1 dX9_copyFrom_63 rfl rfl ?_
        refine y_getI C 8 _ _ fX9_copyFrom_28 rfl rfl ft_8_5 sb_8_5 hM204 dX9_copyFrom_64 (fun a205 ea205 la205 ua205 => ?_)
        obtain rfl : a205 = (M0.1 12 5).toInt := s_fX fM190 (by decide) (s_fa eM201 (by decide) (s_fa eM204 (by decide) (ea205)))
        refine y_putIF C 8 qX9_copyFrom_28 rfl rfl ft_8_5 sb_8_5 hM204 (PX.w hpr rfl rfl) dX9_copyFrom_67 (fun M207 eM207 hM207 => ?_)
        refine j_aload_n C 0 0 dX9_copyFrom_70 rfl rfl ?_
        refine j_aload_n C 1 1 dX9_copyFrom_71 rfl rfl ?_
        refine y_getI C 8 _ _ fX9_copyFrom_31 rfl rfl ft_8_6 sb_8_6 hM207 dX9_copyFrom_72 (fun a208 ea208 la208 ua208 => ?_)
        obtain rfl : a208 = (M0.1 12 6).toInt := s_fX fM190 (by decide) (s_fa eM201 (by decide) (s_fa eM204 (by decide) (s_fa eM207 (by decide) (ea208))))
        refine y_putIF C 8 qX9_copyFrom_31 rfl rfl ft_8_6 sb_8_6 hM207 (PX.w hpr rfl rfl) dX9_copyFrom_75 (fun M210 eM210 hM210 => ?_)
        refine j_aload_n C 0 0 dX9_copyFrom_78 rfl rfl ?_
        refine j_aload_n C 1 1 dX9_copyFrom_79 rfl rfl ?_
        refine y_getI C 8 _ _ fX9_copyFrom_34 rfl rfl ft_8_7 sb_8_7 hM210 dX9_copyFrom_80 (fun a211 ea211 la211 ua211 => ?_)
        obtain rfl : a211 = (M0.1 12 7).toInt := s_fX fM190 (by decide) (s_fa eM201 (by decide) (s_fa eM204 (by decide) (s_fa eM207 (by decide) (s_fa eM210 (by decide) (ea211)))))
        refine y_putIF C 8 qX9_copyFrom_34 rfl rfl ft_8_7 sb_8_7 hM210 (PX.w hpr rfl rfl) dX9_copyFrom_83 (fun M213 eM213 hM213 => ?_)
        refine j_aload_n C 0 0 dX9_copyFrom_86 rfl rfl ?_
        refine j_aload_n C 1 1 dX9_copyFrom_87 rfl rfl ?_
        refine y_getI C 8 _ _ fX9_copyFrom_37 rfl rfl ft_8_8 sb_8_8 hM213 dX9_copyFrom_88 (fun a214 ea214 la214 ua214 => ?_)
        obtain rfl : a214 = (M0.1 12 8).toInt := s_fX fM190 (by decide) (s_fa eM201 (by decide) (s_fa eM204 (by decide) (s_fa eM207 (by decide) (s_fa eM210 (by decide) (s_fa eM213 (by decide) (ea214))))))
        refine y_putIF C 8 qX9_copyFrom_37 rfl rfl ft_8_8 sb_8_8 hM213 (PX.w hpr rfl rfl) dX9_copyFrom_91 (fun M216 eM216 hM216 => ?_)
        have u217c := cpa_c (M := M190) (M' := M216) (B := M0) (p0 := 76) (p1 := 13) (g0 := 77) (g1 := 14) (n := a189) (n' := 8) (by exact h191.2.2.2.1) ((((((wI_cell eM216 (by decide)).trans (wI_cell eM213 (by decide))).trans (wI_cell eM210 (by decide))).trans (wI_cell eM207 (by decide))).trans (wI_cell eM204 (by decide))).trans (wI_cell eM201 (by decide))) ((((((wI_cell eM216 (by decide)).trans (wI_cell eM213 (by decide))).trans (wI_cell eM210 (by decide))).trans (wI_cell eM207 (by decide))).trans (wI_cell eM204 (by decide))).trans (wI_cell eM201 (by decide))) (by omega)
        have zz75_0 : (M216.1 75 0).toInt = (M190.1 75 0).toInt := s_fb eM201 (by decide) (s_fb eM204 (by decide) (s_fb eM207 (by decide) (s_fb eM210 (by decide) (s_fb eM213 (by decide) (s_fb eM216 (by decide) (rfl))))))
        have zz75_3 := (Eq.trans (s_fb eM204 (by decide) (s_fb eM207 (by decide) (s_fb eM210 (by decide) (s_fb eM213 (by decide) (s_fb eM216 (by decide) (rfl))))) : (M216.1 75 3).toInt = (M201.1 75 3).toInt) (s_wr eM201 (by omega)))
        have zz75_4 := (Eq.trans (s_fb eM207 (by decide) (s_fb eM210 (by decide) (s_fb eM213 (by decide) (s_fb eM216 (by decide) (rfl)))) : (M216.1 75 4).toInt = (M204.1 75 4).toInt) (s_wr eM204 (by omega)))
        have zz75_5 := (Eq.trans (s_fb eM210 (by decide) (s_fb eM213 (by decide) (s_fb eM216 (by decide) (rfl))) : (M216.1 75 5).toInt = (M207.1 75 5).toInt) (s_wr eM207 (by exact ⟨la205, ua205⟩)))
        have zz75_6 := (Eq.trans (s_fb eM213 (by decide) (s_fb eM216 (by decide) (rfl)) : (M216.1 75 6).toInt = (M210.1 75 6).toInt) (s_wr eM210 (by exact ⟨la208, ua208⟩)))
        have zz75_7 := (Eq.trans (s_fb eM216 (by decide) (rfl) : (M216.1 75 7).toInt = (M213.1 75 7).toInt) (s_wr eM213 (by exact ⟨la211, ua211⟩)))
        have zz75_8 := (Eq.trans (rfl : (M216.1 75 8).toInt = (M216.1 75 8).toInt) (s_wr eM216 (by exact ⟨la214, ua214⟩)))
        have u217k := copy_k (M := M0) (N := M216) (d := 75) (s := 12) (p := 0) (by (clear zz75_8 zz75_7 zz75_6 zz75_5 zz75_4 zz75_3 u217c hM216 eM216 ua214 la214 ea214 hM213 eM213 ua211 la211 ea211 hM210 eM210 ua208 la208 ea208 hM207 eM207 ua205 la205 ea205 hM204 eM204 ua202 la202 ea202 hM201 eM201 ua199 la199 ea199 h193 fM190 hM190 ih187 u104z hM103 eM103 ua101 la101 hret C hq8_0 hpr hM0; omega)) (by exact zz75_3) (by exact zz75_4) (by exact zz75_5) (by exact zz75_6) (by exact zz75_7) (by exact zz75_8) (show b01 (CPA M216 M0 76 13 77 14 8) = 1 from by exact u217c)
        exact hret _ _ _ dX9_copyFrom_94 ⟨hM216, (((((((FX.rf.tr fM190 (by decide)).wI eM201 (by decide)).wI eM204 (by decide)).wI eM207 (by decide)).wI eM210 (by decide)).wI eM213 (by decide)).wI eM216 (by decide)), by exact u217k⟩
      · refine j_aload_n C 0 0 dX9_copyFrom_16 rfl rfl ?_
        refine y_getC C 8 76 fX9_copyFrom_15 rfl rfl ft_8_1 sm_8_1 rfl hM190 dX9_copyFrom_17 ?_
        refine j_iload_n C 2 2 dX9_copyFrom_20 rfl rfl ?_
        refine j_aload_n C 1 1 dX9_copyFrom_21 rfl rfl ?_
        refine y_getC C 8 13 fX9_copyFrom_15 rfl rfl ft_8_1 sm_8_1 rfl hM190 dX9_copyFrom_22 ?_
        refine j_iload_n C 2 2 dX9_copyFrom_25 rfl rfl ?_
        refine y_iald C 25 8 _ _ rfl rfl rfl ak_25 an_25 rfl (sb_25 _) hM190 dX9_copyFrom_26 (by exact ⟨h191.1, (by omega)⟩) (fun a194 ea194 la194 ua194 => ?_)
        obtain rfl : a194 = (M0.1 13 (a189).toNat).toInt := s_fX fM190 (by decide) (ea194)
        refine y_iastF C 25 8 rfl rfl rfl ak_25 an_25 rfl (sb_25 _) hM190 (PX.w hpr rfl rfl) dX9_copyFrom_27 (by exact ⟨h191.1, (by omega)⟩) (fun M195 eM195 hM195 => ?_)
        refine j_aload_n C 0 0 dX9_copyFrom_28 rfl rfl ?_
        refine y_getC C 8 77 fX9_copyFrom_19 rfl rfl ft_8_2 sm_8_2 rfl hM195 dX9_copyFrom_29 ?_
        refine j_iload_n C 2 2 dX9_copyFrom_32 rfl rfl ?_
        refine j_aload_n C 1 1 dX9_copyFrom_33 rfl rfl ?_
        refine y_getC C 8 14 fX9_copyFrom_19 rfl rfl ft_8_2 sm_8_2 rfl hM195 dX9_copyFrom_34 ?_
        refine j_iload_n C 2 2 dX9_copyFrom_37 rfl rfl ?_
        refine y_iald C 26 8 _ _ rfl rfl rfl ak_26 an_26 rfl (sb_26 _) hM195 dX9_copyFrom_38 (by exact ⟨h191.1, (by omega)⟩) (fun a196 ea196 la196 ua196 => ?_)
        obtain rfl : a196 = (M0.1 14 (a189).toNat).toInt := s_fX fM190 (by decide) (s_fa eM195 (by decide) (ea196))
        refine y_iastF C 26 8 rfl rfl rfl ak_26 an_26 rfl (sb_26 _) hM195 (PX.w hpr rfl rfl) dX9_copyFrom_39 (by exact ⟨h191.1, (by omega)⟩) (fun M197 eM197 hM197 => ?_)
        refine y_iinc C 2 [(2, .int (sI (a189 + 1))), (0, .ref (ad 75)), (1, .ref (ad 12))] dX9_copyFrom_40 rfl (by decide) rfl ?_
        refine j_goto C 10 dX9_copyFrom_43 (by decide) ?_
        have u198s := cpa_s (B := M0) (p1 := 13) (g1 := 14) (n := a189) (n' := (a189 + 1)) (by exact h191.2.2.2.1) (by omega) eM195 eM197 (by decide)
        have zz75_0 : (M197.1 75 0).toInt = (M190.1 75 0).toInt := s_fa eM195 (by decide) (s_fa eM197 (by decide) (rfl)); refine j_lv [1, 2, 0] rfl ?_; exact ih187 (a189 + 1) M197 (by exact ⟨(by (clear hM197 eM197 ua196 la196 ea196 hM195 eM195 ua194 la194 ea194 fM190 hM190 ih187 u104z hM103 eM103 ua101 la101 hret C hq8_0 hpr hM0; omega)), ⟨(by (clear hM197 eM197 ua196 la196 ea196 hM195 eM195 ua194 la194 ea194 fM190 hM190 ih187 u104z hM103 eM103 ua101 la101 hret C hq8_0 hpr hM0; omega)), ⟨(by (clear hM197 eM197 ua196 la196 ea196 hM195 eM195 ua194 la194 ea194 fM190 hM190 ih187 u104z hM103 eM103 ua101 la101 hret C hq8_0 hpr hM0; omega)), ⟨u198s, (by (clear hM197 eM197 ua196 la196 ea196 hM195 eM195 ua194 la194 ea194 fM190 hM190 ih187 u104z hM103 eM103 ua101 la101 hret C hq8_0 hpr hM0; omega))⟩⟩⟩⟩) hM197 (((FX.rf.tr fM190 (by decide)).wI eM195 (by decide)).wI eM197 (by decide))
  have zz75_0 := (Eq.trans (rfl : (M103.1 75 0).toInt = (M103.1 75 0).toInt) (s_wr eM103 (by omega))); refine j_lv [1, 2, 0] rfl ?_; exact L188 2010 0 M103 (by exact ⟨(by decide), ⟨(by decide), ⟨zz75_0, ⟨u104z, (by decide)⟩⟩⟩⟩) hM103 (FX.rf.wI eM103 (by decide))
set_option maxHeartbeats 4000000 in
theorem s2_X11_image {l : Launch} {dC : Nat → ClassId} {dI : Nat → Nat → Nat} {ad : Nat → Nat} {cA : Nat → ClassId} {pr : Nat → Nat → Bool} {Kz : mm_M} {M0 : mm_M} (hM0 : INV pr Kz M0) (hpr : PX pr) (hq2_0 : ∀ i, s_c i = 2 → pr i 0 = false) (hq6_0 : ∀ i, s_c i = 6 → pr i 0 = false) (hq6_1 : ∀ i, s_c i = 6 → pr i 1 = false) (hq8_0 : ∀ i, s_c i = 8 → pr i 0 = false) (a1 : Int) (ha1 : -2147483648 ≤ a1 ∧ a1 ≤ 2147483647) (hp0 : M0.2.2 0 4 = 2) (hp1 : M0.2.2 0 5 = 7) : Ci l 1 yX11_image wsX11_image dC dI ad cA [.ref (ad 0), .int (sI a1)] M0 (fun r M' => ∃ a : Int, r = sI a ∧ INV pr Kz M' ∧ FX [60, 61, 62, 63, 64, 65, 66, 67, 68, 69, 70, 71, 72, 73, 74, 75, 76, 77] M0 M' ∧ (-2) ≤ a ∧ a ≤ 0 ∧ (a1 = 0 ∧ a = 0 ∧ (M'.1 60 0).toInt = 1 ∧ b01 (PCP M' M0 61 2) = 1 ∧ b01 (skX M' 66 = skX M0 12) = 1 ∧ b01 (SMC M' M0 [69, 70, 71, 72, 73, 74, 75, 76, 77]) = 1 ∨ a1 = 1 ∧ a = 0 ∧ (M'.1 69 0).toInt = 1 ∧ b01 (PCP M' M0 70 2) = 1 ∧ b01 (skX M' 75 = skX M0 12) = 1 ∧ b01 (SMC M' M0 [60, 61, 62, 63, 64, 65, 66, 67, 68]) = 1 ∨ (a1 < 0 ∨ 1 < a1) ∧ a = -2 ∧ b01 (SMC M' M0 [60, 61, 62, 63, 64, 65, 66, 67, 68]) = 1 ∧ b01 (SMC M' M0 [69, 70, 71, 72, 73, 74, 75, 76, 77]) = 1)) := by
  refine ci_of (cc := cX11_image) (maxL := 2) (ty := .int) (lv := [(0, .ref (ad 0)), (1, .int (sI a1))]) (by decide) rfl (fun r M' hp => rfl) (Nat.le_of_ble_eq_true rfl) rfl ?_
  intro p e s m args below meth c A Q C hret
  have epc0_4 : 2 = M0.2.2 0 4 := by exact hp0.symm
  refine j_iload_n C 1 1 dX11_image_0 rfl rfl ?_
  refine y_if_lt C 13 dX11_image_1 (by decide) (by exact ⟨ha1.1, ha1.2⟩) (fun h102 => ?_) (fun h102 => ?_)
  · refine y_bipush C dX11_image_13 rfl ?_
    have u103a := smc_r M0 [60, 61, 62, 63, 64, 65, 66, 67, 68]
    have u103b := smc_r M0 [69, 70, 71, 72, 73, 74, 75, 76, 77]
    exact hret _ _ _ _ dX11_image_15 ⟨(-2), rfl, hM0, FX.rf, by exact ⟨(by decide), ⟨(by decide), (by (clear epc0_4 hret C hp1 hp0 hq8_0 hq6_1 hq6_0 hq2_0 hpr hM0; omega))⟩⟩⟩
  · refine j_iload_n C 1 1 dX11_image_4 rfl rfl ?_
    refine j_aload_n C 0 0 dX11_image_5 rfl rfl ?_
    refine y_getC C 10 59 fX11_image_58 rfl rfl ft_10_10 sm_10_10 rfl hM0 dX11_image_6 ?_
    refine y_alen C 30 2 rfl rfl rfl an_30 rfl rfl dX11_image_9 ?_
    refine y_icmp_lt C 16 dX11_image_10 (by decide) (by exact ⟨⟨ha1.1, ha1.2⟩, ⟨(by decide), (by decide)⟩⟩) (fun h104 => ?_) (fun h104 => ?_)
    · refine j_aload_n C 0 0 dX11_image_16 rfl rfl ?_
      refine y_getC C 10 59 fX11_image_58 rfl rfl ft_10_10 sm_10_10 rfl hM0 dX11_image_17 ?_
      refine j_iload_n C 1 1 dX11_image_20 rfl rfl ?_
      rcases (show a1 = 0 ∨ a1 = 1 by (clear epc0_4 hret C hp1 hp0 hq8_0 hq6_1 hq6_0 hq2_0 hpr hM0; omega)) with h105 | h105
      · rw [h105]
        refine y_aaldK C 30 2 2 60 rfl rfl rfl rfl an_30 rfl sma_30 sta_30 (by decide) hM0 dX11_image_21 (by exact ⟨(by decide), (by decide)⟩) rfl ?_
        refine y_iconst C dX11_image_22 ?_
        refine y_putZ C 2 qX11_image_393 rfl rfl ft_2_0 sb_2_0 hM0 (hq2_0 _ rfl) dX11_image_23 (by exact ⟨(by decide), (by decide)⟩) (fun M107 eM107 hM107 => ?_)
        refine j_aload_n C 0 0 dX11_image_26 rfl rfl ?_
        refine y_getC C 10 59 fX11_image_58 rfl rfl ft_10_10 sm_10_10 rfl hM107 dX11_image_27 ?_
        refine j_iload_n C 1 1 dX11_image_30 rfl rfl ?_
        refine y_aaldK C 30 2 2 60 rfl rfl rfl rfl an_30 rfl sma_30 sta_30 (by decide) hM107 dX11_image_31 (by exact ⟨(by decide), (by decide)⟩) rfl ?_
        refine y_getC C 2 61 fX11_image_397 rfl rfl ft_2_1 sm_2_1 rfl hM107 dX11_image_32 ?_
        refine j_aload_n C 0 0 dX11_image_35 rfl rfl ?_
        refine y_getV C 10 2 fX11_image_26 rfl rfl ft_10_4 (s_pI eM107 (epc0_4)) dX11_image_36 ?_
        refine j_callVv C (d := 0) (As := [.ref (ad 2)]) (st := []) 61 (s_lt rfl rfl) (s_kc (c := 6) rfl rfl) (by decide) rfl (s2_X7_copyFrom hM107 hpr hq6_0 hq6_1) gX11_image_X7_copyFrom rfl hdX7_copyFrom (by decide) (Nat.le_of_ble_eq_true rfl) dX11_image_39 rfl (fun M110 h111 => ?_)
        obtain ⟨hM110, fM110, h112⟩ := h111
        refine j_aload_n C 0 0 dX11_image_42 rfl rfl ?_
        refine y_getC C 10 59 fX11_image_58 rfl rfl ft_10_10 sm_10_10 rfl hM110 dX11_image_43 ?_
        refine j_iload_n C 1 1 dX11_image_46 rfl rfl ?_
        refine y_aaldK C 30 2 2 60 rfl rfl rfl rfl an_30 rfl sma_30 sta_30 (by decide) hM110 dX11_image_47 (by exact ⟨(by decide), (by decide)⟩) rfl ?_
        refine y_getC C 2 66 fX11_image_400 rfl rfl ft_2_2 sm_2_2 rfl hM110 dX11_image_48 ?_
        refine j_aload_n C 0 0 dX11_image_51 rfl rfl ?_
        refine y_getC C 10 12 fX11_image_36 rfl rfl ft_10_6 sm_10_6 rfl hM110 dX11_image_52 ?_
        refine j_callVv C (d := 0) (As := [.ref (ad 12)]) (st := []) 66 (s_lt rfl rfl) (s_kc (c := 8) rfl rfl) (by decide) rfl (s34_X9_copyFrom hM110 hpr hq8_0) gX11_image_X9_copyFrom rfl hdX9_copyFrom (by decide) (Nat.le_of_ble_eq_true rfl) dX11_image_55 rfl (fun M115 h116 => ?_)
        obtain ⟨hM115, fM115, h117⟩ := h116
        refine y_iconst C dX11_image_58 ?_
        have u118m : (M115.1 60 0).toInt = 1 := by rw [show M115.1 60 = M107.1 60 from (((FX.rf.tr fM110 (by decide)).tr fM115 (by decide)) : FX [61, 62, 63, 64, 65, 66, 67, 68] M107 M115).cell (by decide)]; exact s_wr eM107 (by exact ⟨(by decide), (by decide)⟩)
        have u118p : b01 (PCP M115 M0 61 2) = 1 := pcp_m (B := M107) (C := M110) (b01_e (by exact h112)) (ple_f (p := 2) ((FX.rf.wI eM107 (by decide)) : FX [60] M0 M107) rfl (by decide)) (ple_f (p := 61) ((FX.rf.tr fM115 (by decide)) : FX [66, 67, 68] M110 M115) rfl (by decide))
        have u118s : b01 (skX M115 66 = skX M0 12) = 1 := b01_i ((b01_e (P := skX M115 66 = skX M110 12) (by exact h117)).trans (sk_f (ske_n (((FX.rf.wI eM107 (by decide)).tr fM110 (by decide)) : FX [60, 61, 62, 63, 64, 65] M0 M110) ⟨by decide, by decide, by decide⟩)))
        have u118c := smc_f (L := [69, 70, 71, 72, 73, 74, 75, 76, 77]) ((((FX.rf.wI eM107 (by decide)).tr fM110 (by decide)).tr fM115 (by decide)) : FX [60, 61, 62, 63, 64, 65, 66, 67, 68] M0 M115) (by decide)
        have zz60_0 := (Eq.trans (s_fX fM110 (by decide) (s_fX fM115 (by decide) (rfl)) : (M115.1 60 0).toInt = (M107.1 60 0).toInt) (s_wr eM107 (by exact ⟨(by decide), (by decide)⟩))); have zz69_0 : (M115.1 69 0).toInt = (M0.1 69 0).toInt := s_fa eM107 (by decide) (s_fX fM110 (by decide) (s_fX fM115 (by decide) (rfl))); exact hret _ _ _ _ dX11_image_59 ⟨0, rfl, hM115, (((FX.rf.wI eM107 (by decide)).tr fM110 (by decide)).tr fM115 (by decide)), by exact ⟨(by decide), ⟨(by decide), (by (clear zz69_0 zz60_0 h117 fM115 hM115 h112 fM110 hM110 hM107 eM107 h104 h102 epc0_4 hret C hp1 hp0 ha1 hq8_0 hq6_1 hq6_0 hq2_0 hpr hM0; omega))⟩⟩⟩
      · rw [h105]
        refine y_aaldK C 30 2 2 69 rfl rfl rfl rfl an_30 rfl sma_30 sta_30 (by decide) hM0 dX11_image_21 (by exact ⟨(by decide), (by decide)⟩) rfl ?_
        refine y_iconst C dX11_image_22 ?_
        refine y_putZ C 2 qX11_image_393 rfl rfl ft_2_0 sb_2_0 hM0 (hq2_0 _ rfl) dX11_image_23 (by exact ⟨(by decide), (by decide)⟩) (fun M120 eM120 hM120 => ?_)
        refine j_aload_n C 0 0 dX11_image_26 rfl rfl ?_
        refine y_getC C 10 59 fX11_image_58 rfl rfl ft_10_10 sm_10_10 rfl hM120 dX11_image_27 ?_
        refine j_iload_n C 1 1 dX11_image_30 rfl rfl ?_
        refine y_aaldK C 30 2 2 69 rfl rfl rfl rfl an_30 rfl sma_30 sta_30 (by decide) hM120 dX11_image_31 (by exact ⟨(by decide), (by decide)⟩) rfl ?_
        refine y_getC C 2 70 fX11_image_397 rfl rfl ft_2_1 sm_2_1 rfl hM120 dX11_image_32 ?_
        refine j_aload_n C 0 0 dX11_image_35 rfl rfl ?_
        refine y_getV C 10 2 fX11_image_26 rfl rfl ft_10_4 (s_pI eM120 (epc0_4)) dX11_image_36 ?_
        refine j_callVv C (d := 0) (As := [.ref (ad 2)]) (st := []) 70 (s_lt rfl rfl) (s_kc (c := 6) rfl rfl) (by decide) rfl (s3_X7_copyFrom hM120 hpr hq6_0 hq6_1) gX11_image_X7_copyFrom rfl hdX7_copyFrom (by decide) (Nat.le_of_ble_eq_true rfl) dX11_image_39 rfl (fun M123 h124 => ?_)
        obtain ⟨hM123, fM123, h125⟩ := h124
        refine j_aload_n C 0 0 dX11_image_42 rfl rfl ?_
        refine y_getC C 10 59 fX11_image_58 rfl rfl ft_10_10 sm_10_10 rfl hM123 dX11_image_43 ?_
        refine j_iload_n C 1 1 dX11_image_46 rfl rfl ?_
        refine y_aaldK C 30 2 2 69 rfl rfl rfl rfl an_30 rfl sma_30 sta_30 (by decide) hM123 dX11_image_47 (by exact ⟨(by decide), (by decide)⟩) rfl ?_
        refine y_getC C 2 75 fX11_image_400 rfl rfl ft_2_2 sm_2_2 rfl hM123 dX11_image_48 ?_
        refine j_aload_n C 0 0 dX11_image_51 rfl rfl ?_
        refine y_getC C 10 12 fX11_image_36 rfl rfl ft_10_6 sm_10_6 rfl hM123 dX11_image_52 ?_
        refine j_callVv C (d := 0) (As := [.ref (ad 12)]) (st := []) 75 (s_lt rfl rfl) (s_kc (c := 8) rfl rfl) (by decide) rfl (s35_X9_copyFrom hM123 hpr hq8_0) gX11_image_X9_copyFrom rfl hdX9_copyFrom (by decide) (Nat.le_of_ble_eq_true rfl) dX11_image_55 rfl (fun M128 h129 => ?_)
        obtain ⟨hM128, fM128, h130⟩ := h129
        refine y_iconst C dX11_image_58 ?_
        have u131m : (M128.1 69 0).toInt = 1 := by rw [show M128.1 69 = M120.1 69 from (((FX.rf.tr fM123 (by decide)).tr fM128 (by decide)) : FX [70, 71, 72, 73, 74, 75, 76, 77] M120 M128).cell (by decide)]; exact s_wr eM120 (by exact ⟨(by decide), (by decide)⟩)
        have u131p : b01 (PCP M128 M0 70 2) = 1 := pcp_m (B := M120) (C := M123) (b01_e (by exact h125)) (ple_f (p := 2) ((FX.rf.wI eM120 (by decide)) : FX [69] M0 M120) rfl (by decide)) (ple_f (p := 70) ((FX.rf.tr fM128 (by decide)) : FX [75, 76, 77] M123 M128) rfl (by decide))
        have u131s : b01 (skX M128 75 = skX M0 12) = 1 := b01_i ((b01_e (P := skX M128 75 = skX M123 12) (by exact h130)).trans (sk_f (ske_n (((FX.rf.wI eM120 (by decide)).tr fM123 (by decide)) : FX [69, 70, 71, 72, 73, 74] M0 M123) ⟨by decide, by decide, by decide⟩)))
        have u131c := smc_f (L := [60, 61, 62, 63, 64, 65, 66, 67, 68]) ((((FX.rf.wI eM120 (by decide)).tr fM123 (by decide)).tr fM128 (by decide)) : FX [69, 70, 71, 72, 73, 74, 75, 76, 77] M0 M128) (by decide)
        have zz60_0 : (M128.1 60 0).toInt = (M0.1 60 0).toInt := s_fa eM120 (by decide) (s_fX fM123 (by decide) (s_fX fM128 (by decide) (rfl))); have zz69_0 := (Eq.trans (s_fX fM123 (by decide) (s_fX fM128 (by decide) (rfl)) : (M128.1 69 0).toInt = (M120.1 69 0).toInt) (s_wr eM120 (by exact ⟨(by decide), (by decide)⟩))); exact hret _ _ _ _ dX11_image_59 ⟨0, rfl, hM128, (((FX.rf.wI eM120 (by decide)).tr fM123 (by decide)).tr fM128 (by decide)), by exact ⟨(by decide), ⟨(by decide), (by (clear zz69_0 zz60_0 h130 fM128 hM128 h125 fM123 hM123 hM120 eM120 h104 h102 epc0_4 hret C hp1 hp0 ha1 hq8_0 hq6_1 hq6_0 hq2_0 hpr hM0; omega))⟩⟩⟩
    · refine y_bipush C dX11_image_13 rfl ?_
      have u132a := smc_r M0 [60, 61, 62, 63, 64, 65, 66, 67, 68]
      have u132b := smc_r M0 [69, 70, 71, 72, 73, 74, 75, 76, 77]
      exact hret _ _ _ _ dX11_image_15 ⟨(-2), rfl, hM0, FX.rf, by exact ⟨(by decide), ⟨(by decide), (by (clear epc0_4 hret C hp1 hp0 hq8_0 hq6_1 hq6_0 hq2_0 hpr hM0; omega))⟩⟩⟩
end
section
set_option maxHeartbeats 4000000 in
theorem s4_X7_copyFrom {l : Launch} {dC : Nat → ClassId} {dI : Nat → Nat → Nat} {ad : Nat → Nat} {cA : Nat → ClassId} {pr : Nat → Nat → Bool} {Kz : mm_M} {M0 : mm_M} (hM0 : INV pr Kz M0) (hpr : PX pr) (hq6_0 : ∀ i, s_c i = 6 → pr i 0 = false) (hq6_1 : ∀ i, s_c i = 6 → pr i 1 = false)  : Cv l 0 yX7_copyFrom wsX7_copyFrom dC dI ad cA [.ref (ad 61), .ref (ad 7)] M0 (fun M' => INV pr Kz M' ∧ FX [61, 62, 63, 64, 65] M0 M' ∧ (b01 (PCP M' M0 61 7) = 1)) := by
  refine cv_of (cc := cX7_copyFrom) (maxL := 3) (lv := [(0, .ref (ad 61)), (1, .ref (ad 7))]) (by decide) rfl (Nat.le_of_ble_eq_true rfl) rfl ?_
  intro p e s m args below meth c A Q C hret
  refine j_aload_n C 0 0 dX7_copyFrom_0 rfl rfl ?_
  refine j_aload_n C 1 1 dX7_copyFrom_1 rfl rfl ?_
  refine y_getI C 6 _ _ fX7_copyFrom_9 rfl rfl ft_6_0 sb_6_0 hM0 dX7_copyFrom_2 (fun a101 ea101 la101 ua101 => ?_)
  obtain rfl : a101 = (M0.1 7 0).toInt := ea101
  refine y_putI C 6 _ _ qX7_copyFrom_9 rfl rfl ft_6_0 sb_6_0 hM0 (hq6_0 _ rfl) dX7_copyFrom_5 (by exact ⟨⟨(by (clear hret C hq6_1 hq6_0 hpr hM0; omega)), (by (clear hret C hq6_1 hq6_0 hpr hM0; omega))⟩, ⟨la101, ua101⟩⟩) (fun M103 eM103 hM103 => ?_)
  refine j_aload_n C 0 0 dX7_copyFrom_8 rfl rfl ?_
  refine j_aload_n C 1 1 dX7_copyFrom_9 rfl rfl ?_
  refine y_getI C 6 _ _ fX7_copyFrom_15 rfl rfl ft_6_1 sb_6_1 hM103 dX7_copyFrom_10 (fun a104 ea104 la104 ua104 => ?_)
  obtain rfl : a104 = (M0.1 7 1).toInt := s_fa eM103 (by decide) (ea104)
  refine y_putIF C 6 qX7_copyFrom_15 rfl rfl ft_6_1 sb_6_1 hM103 (hq6_1 _ rfl) dX7_copyFrom_13 (fun M106 eM106 hM106 => ?_)
  refine j_aload_n C 0 0 dX7_copyFrom_16 rfl rfl ?_
  refine j_aload_n C 1 1 dX7_copyFrom_17 rfl rfl ?_
  refine y_getI C 6 _ _ fX7_copyFrom_31 rfl rfl ft_6_6 sb_6_6 hM106 dX7_copyFrom_18 (fun a107 ea107 la107 ua107 => ?_)
  obtain rfl : a107 = (M0.1 7 6).toInt := s_fa eM103 (by decide) (s_fa eM106 (by decide) (ea107))
  refine y_putI C 6 _ _ qX7_copyFrom_31 rfl rfl ft_6_6 sb_6_6 hM106 (PX.w hpr rfl rfl) dX7_copyFrom_21 (by exact ⟨⟨(by (clear hM106 eM106 ua104 la104 ea104 hM103 eM103 ua101 la101 hret C hq6_1 hq6_0 hpr hM0; omega)), (by (clear hM106 eM106 ua104 la104 ea104 hM103 eM103 ua101 la101 hret C hq6_1 hq6_0 hpr hM0; omega))⟩, ⟨la107, ua107⟩⟩) (fun M109 eM109 hM109 => ?_)
  refine j_aload_n C 0 0 dX7_copyFrom_24 rfl rfl ?_
  refine j_aload_n C 1 1 dX7_copyFrom_25 rfl rfl ?_
  refine y_getI C 6 _ _ fX7_copyFrom_34 rfl rfl ft_6_7 sb_6_7 hM109 dX7_copyFrom_26 (fun a110 ea110 la110 ua110 => ?_)
  obtain rfl : a110 = (M0.1 7 7).toInt := s_fa eM103 (by decide) (s_fa eM106 (by decide) (s_fa eM109 (by decide) (ea110)))
  refine y_putI C 6 _ _ qX7_copyFrom_34 rfl rfl ft_6_7 sb_6_7 hM109 (PX.w hpr rfl rfl) dX7_copyFrom_29 (by exact ⟨⟨(by (clear hM109 eM109 ua107 la107 ea107 hM106 eM106 ua104 la104 ea104 hM103 eM103 ua101 la101 hret C hq6_1 hq6_0 hpr hM0; omega)), (by (clear hM109 eM109 ua107 la107 ea107 hM106 eM106 ua104 la104 ea104 hM103 eM103 ua101 la101 hret C hq6_1 hq6_0 hpr hM0; omega))⟩, ⟨la110, ua110⟩⟩) (fun M112 eM112 hM112 => ?_)
  refine j_aload_n C 0 0 dX7_copyFrom_32 rfl rfl ?_
  refine j_aload_n C 1 1 dX7_copyFrom_33 rfl rfl ?_
  refine y_getI C 6 _ _ fX7_copyFrom_37 rfl rfl ft_6_8 sb_6_8 hM112 dX7_copyFrom_34 (fun a113 ea113 la113 ua113 => ?_)
  obtain rfl : a113 = (M0.1 7 8).toInt := s_fa eM103 (by decide) (s_fa eM106 (by decide) (s_fa eM109 (by decide) (s_fa eM112 (by decide) (ea113))))
  refine y_putI C 6 _ _ qX7_copyFrom_37 rfl rfl ft_6_8 sb_6_8 hM112 (PX.w hpr rfl rfl) dX7_copyFrom_37 (by exact ⟨⟨(by (clear hM112 eM112 ua110 la110 ea110 hM109 eM109 ua107 la107 ea107 hM106 eM106 ua104 la104 ea104 hM103 eM103 ua101 la101 hret C hq6_1 hq6_0 hpr hM0; omega)), (by (clear hM112 eM112 ua110 la110 ea110 hM109 eM109 ua107 la107 ea107 hM106 eM106 ua104 la104 ea104 hM103 eM103 ua101 la101 hret C hq6_1 hq6_0 hpr hM0; omega))⟩, ⟨la113, ua113⟩⟩) (fun M115 eM115 hM115 => ?_)
  refine j_aload_n C 0 0 dX7_copyFrom_40 rfl rfl ?_
  refine j_aload_n C 1 1 dX7_copyFrom_41 rfl rfl ?_
  refine y_getI C 6 _ _ fX7_copyFrom_40 rfl rfl ft_6_9 sb_6_9 hM115 dX7_copyFrom_42 (fun a116 ea116 la116 ua116 => ?_)
  obtain rfl : a116 = (M0.1 7 9).toInt := s_fa eM103 (by decide) (s_fa eM106 (by decide) (s_fa eM109 (by decide) (s_fa eM112 (by decide) (s_fa eM115 (by decide) (ea116)))))
  refine y_putI C 6 _ _ qX7_copyFrom_40 rfl rfl ft_6_9 sb_6_9 hM115 (PX.w hpr rfl rfl) dX7_copyFrom_45 (by exact ⟨⟨(by (clear hM115 eM115 ua113 la113 ea113 hM112 eM112 ua110 la110 ea110 hM109 eM109 ua107 la107 ea107 hM106 eM106 ua104 la104 ea104 hM103 eM103 ua101 la101 hret C hq6_1 hq6_0 hpr hM0; omega)), (by (clear hM115 eM115 ua113 la113 ea113 hM112 eM112 ua110 la110 ea110 hM109 eM109 ua107 la107 ea107 hM106 eM106 ua104 la104 ea104 hM103 eM103 ua101 la101 hret C hq6_1 hq6_0 hpr hM0; omega))⟩, ⟨la116, ua116⟩⟩) (fun M118 eM118 hM118 => ?_)
  refine j_aload_n C 0 0 dX7_copyFrom_48 rfl rfl ?_
  refine j_aload_n C 1 1 dX7_copyFrom_49 rfl rfl ?_
  refine y_getI C 6 _ _ fX7_copyFrom_43 rfl rfl ft_6_10 sb_6_10 hM118 dX7_copyFrom_50 (fun a119 ea119 la119 ua119 => ?_)
  obtain rfl : a119 = (M0.1 7 10).toInt := s_fa eM103 (by decide) (s_fa eM106 (by decide) (s_fa eM109 (by decide) (s_fa eM112 (by decide) (s_fa eM115 (by decide) (s_fa eM118 (by decide) (ea119))))))
  refine y_putI C 6 _ _ qX7_copyFrom_43 rfl rfl ft_6_10 sb_6_10 hM118 (PX.w hpr rfl rfl) dX7_copyFrom_53 (by exact ⟨⟨(by (clear hM118 eM118 ua116 la116 ea116 hM115 eM115 ua113 la113 ea113 hM112 eM112 ua110 la110 ea110 hM109 eM109 ua107 la107 ea107 hM106 eM106 ua104 la104 ea104 hM103 eM103 ua101 la101 hret C hq6_1 hq6_0 hpr hM0; omega)), (by (clear hM118 eM118 ua116 la116 ea116 hM115 eM115 ua113 la113 ea113 hM112 eM112 ua110 la110 ea110 hM109 eM109 ua107 la107 ea107 hM106 eM106 ua104 la104 ea104 hM103 eM103 ua101 la101 hret C hq6_1 hq6_0 hpr hM0; omega))⟩, ⟨la119, ua119⟩⟩) (fun M121 eM121 hM121 => ?_)
  refine y_iconst C dX7_copyFrom_56 ?_
  refine j_istore_n C 2 [(2, .int (sI 0)), (0, .ref (ad 61)), (1, .ref (ad 7))] dX7_copyFrom_57 rfl (by decide) rfl ?_
  have u122z := pca_0 M121 M0 61 7
  have L202 : ∀ (n200 : Nat), ∀ (a203 : Int) (M204 : mm_M), (0 ≤ a203 ∧ a203 ≤ 6 ∧ ((M204.1 61 0).toInt = (M0.1 7 0).toInt) ∧ ((M204.1 61 1).toInt = (M0.1 7 1).toInt) ∧ ((M204.1 61 6).toInt = (M0.1 7 6).toInt) ∧ ((M204.1 61 7).toInt = (M0.1 7 7).toInt) ∧ ((M204.1 61 8).toInt = (M0.1 7 8).toInt) ∧ ((M204.1 61 9).toInt = (M0.1 7 9).toInt) ∧ ((M204.1 61 10).toInt = (M0.1 7 10).toInt) ∧ (b01 (PCA M204 M0 61 7 a203) = 1) ∧ (6 - a203) < (n200 : Int)) → INV pr Kz M204 → FX [61, 62, 63, 64, 65] M0 M204 → jj p l e (cn_R 0) s m args below meth c 0 0 Q 3 dC dI ad cA A M204 58 [(0, .ref (ad 61)), (1, .ref (ad 7)), (2, .int (sI a203))] [] := by
    intro n200
    induction n200 with
    | zero =>
      intro a203 M204 h205 hM204 fM204
      exfalso; omega
    | succ n200 ih201 =>
      intro a203 M204 h205 hM204 fM204
      refine j_iload_n C 2 2 dX7_copyFrom_58 rfl rfl ?_
      refine y_bipush C dX7_copyFrom_59 rfl ?_
      refine y_icmp_ge C 106 dX7_copyFrom_61 (by decide) (by exact ⟨⟨(by (clear fM204 hM204 ih201 u122z hM121 eM121 ua119 la119 ea119 hM118 eM118 ua116 la116 ea116 hM115 eM115 ua113 la113 ea113 hM112 eM112 ua110 la110 ea110 hM109 eM109 ua107 la107 ea107 hM106 eM106 ua104 la104 ea104 hM103 eM103 ua101 la101 hret C hq6_1 hq6_0 hpr hM0; omega)), (by (clear fM204 hM204 ih201 u122z hM121 eM121 ua119 la119 ea119 hM118 eM118 ua116 la116 ea116 hM115 eM115 ua113 la113 ea113 hM112 eM112 ua110 la110 ea110 hM109 eM109 ua107 la107 ea107 hM106 eM106 ua104 la104 ea104 hM103 eM103 ua101 la101 hret C hq6_1 hq6_0 hpr hM0; omega))⟩, ⟨(by decide), (by decide)⟩⟩) (fun h207 => ?_) (fun h207 => ?_)
      · refine y_iconst C dX7_copyFrom_106 ?_
        refine j_istore_n C 2 [(2, .int (sI 0)), (0, .ref (ad 61)), (1, .ref (ad 7))] dX7_copyFrom_107 rfl (by decide) rfl ?_
        have u215z := pcc_0 M204 M0 61 7
        have u215y := pca_c (A := M204) (B := M204) (M := M0) (d := 61) (s := 7) (n := a203) (n' := 6) (by exact h205.2.2.2.2.2.2.2.2.2.1) (by exact h207) ⟨rfl, rfl, rfl⟩
        have u215b := hM0.rd (i := 7) (c := 6) (k := 6) rfl (show s_b 6 6 = (0, 900) from rfl)
        have L228 : ∀ (n226 : Nat), ∀ (a229 : Int) (M230 : mm_M), (0 ≤ a229 ∧ a229 ≤ 900 ∧ ((M230.1 61 0).toInt = (M0.1 7 0).toInt) ∧ ((M230.1 61 1).toInt = (M0.1 7 1).toInt) ∧ ((M230.1 61 6).toInt = (M0.1 7 6).toInt) ∧ ((M230.1 61 7).toInt = (M0.1 7 7).toInt) ∧ ((M230.1 61 8).toInt = (M0.1 7 8).toInt) ∧ ((M230.1 61 9).toInt = (M0.1 7 9).toInt) ∧ ((M230.1 61 10).toInt = (M0.1 7 10).toInt) ∧ (b01 (PCA M230 M0 61 7 6) = 1) ∧ (b01 (PCC M230 M0 61 7 a229) = 1) ∧ (a229 ≤ (M0.1 7 6).toInt) ∧ (900 - a229) < (n226 : Int)) → INV pr Kz M230 → FX [61, 62, 63, 64, 65] M0 M230 → jj p l e (cn_R 0) s m args below meth c 0 0 Q 3 dC dI ad cA A M230 108 [(0, .ref (ad 61)), (1, .ref (ad 7)), (2, .int (sI a229))] [] := by
          intro n226
          induction n226 with
          | zero =>
            intro a229 M230 h231 hM230 fM230
            exfalso; (clear fM230 hM230 u215b u215y u215z h207 fM204 hM204 h205 ih201 u122z hM121 eM121 ua119 la119 ea119 hM118 eM118 ua116 la116 ea116 hM115 eM115 ua113 la113 ea113 hM112 eM112 ua110 la110 ea110 hM109 eM109 ua107 la107 ea107 hM106 eM106 ua104 la104 ea104 hM103 eM103 ua101 la101 hret C hq6_1 hq6_0 hpr hM0; omega)
          | succ n226 ih227 =>
            intro a229 M230 h231 hM230 fM230
            have u232b := hM0.rd (i := 7) (c := 6) (k := 6) rfl (show s_b 6 6 = (0, 900) from rfl)
            refine j_iload_n C 2 2 dX7_copyFrom_108 rfl rfl ?_
            refine j_aload_n C 0 0 dX7_copyFrom_109 rfl rfl ?_
            refine y_getI C 6 _ _ fX7_copyFrom_31 rfl rfl ft_6_6 sb_6_6 hM230 dX7_copyFrom_110 (fun a233 ea233 la233 ua233 => ?_)
            obtain rfl : a233 = (M230.1 61 6).toInt := ea233
            refine y_icmp_ge C 143 dX7_copyFrom_113 (by decide) (by (clear ua233 la233 u232b fM230 hM230 ih227 u215b u215y u215z h207 fM204 hM204 ih201 u122z hM121 eM121 ua119 la119 ea119 hM118 eM118 ua116 la116 ea116 hM115 eM115 ua113 la113 ea113 hM112 eM112 ua110 la110 ea110 hM109 eM109 hM106 eM106 ua104 la104 ea104 hM103 eM103 ua101 la101 hret C hq6_1 hq6_0 hpr hM0; omega)) (fun h235 => ?_) (fun h235 => ?_)
            · have u240f := pcf_i (N := M230) (M := M0) (d := 61) (s := 7) (by exact h231.2.2.1) (by exact h231.2.2.2.1) (by exact h231.2.2.2.2.1) (by exact h231.2.2.2.2.2.1) (by exact h231.2.2.2.2.2.2.1) (by exact h231.2.2.2.2.2.2.2.1) (by exact h231.2.2.2.2.2.2.2.2.1)
              have u240k := pcp_i (n := a229) u240f (by exact h231.2.2.2.2.2.2.2.2.2.1) (by exact h231.2.2.2.2.2.2.2.2.2.2.1) (by (clear u240f ua233 la233 u232b fM230 hM230 ih227 u215b u215y u215z h207 fM204 hM204 ih201 u122z hM121 eM121 ua119 la119 ea119 hM118 eM118 ua116 la116 ea116 hM115 eM115 ua113 la113 ea113 hM112 eM112 ua110 la110 ea110 hM109 eM109 ua107 la107 hM106 eM106 ua104 la104 ea104 hM103 eM103 ua101 la101 hret C hq6_1 hq6_0 hpr hM0; omega))
              exact hret _ _ _ dX7_copyFrom_143 ⟨hM230, (FX.rf.tr fM230 (by decide)), by exact u240k⟩
            · refine j_iload_n C 2 2 dX7_copyFrom_116 rfl rfl ?_
              refine j_aload_n C 0 0 dX7_copyFrom_117 rfl rfl ?_
              refine y_getC C 6 65 fX7_copyFrom_28 rfl rfl ft_6_5 sm_6_5 rfl hM230 dX7_copyFrom_118 ?_
              refine y_alen C 24 900 rfl rfl rfl an_24 rfl rfl dX7_copyFrom_121 ?_
              refine y_icmp_ge C 143 dX7_copyFrom_122 (by decide) (by exact ⟨⟨(by (clear h235 ua233 la233 u232b fM230 hM230 ih227 u215b u215y u215z h207 fM204 hM204 h205 ih201 u122z hM121 eM121 ua119 la119 ea119 hM118 eM118 ua116 la116 ea116 hM115 eM115 ua113 la113 ea113 hM112 eM112 ua110 la110 ea110 hM109 eM109 ua107 la107 ea107 hM106 eM106 ua104 la104 ea104 hM103 eM103 ua101 la101 hret C hq6_1 hq6_0 hpr hM0; omega)), (by (clear h235 ua233 la233 u232b fM230 hM230 ih227 u215b u215y u215z h207 fM204 hM204 h205 ih201 u122z hM121 eM121 ua119 la119 ea119 hM118 eM118 ua116 la116 ea116 hM115 eM115 ua113 la113 ea113 hM112 eM112 ua110 la110 ea110 hM109 eM109 ua107 la107 ea107 hM106 eM106 ua104 la104 ea104 hM103 eM103 ua101 la101 hret C hq6_1 hq6_0 hpr hM0; omega))⟩, ⟨(by decide), (by decide)⟩⟩) (fun h236 => ?_) (fun h236 => ?_)
              · exfalso; (clear ua233 la233 u232b fM230 hM230 ih227 u215b u215y u215z h207 fM204 hM204 ih201 u122z hM121 eM121 ua119 la119 ea119 hM118 eM118 ua116 la116 ea116 hM115 eM115 ua113 la113 ea113 hM112 eM112 ua110 la110 ea110 hM109 eM109 hM106 eM106 ua104 la104 ea104 hM103 eM103 ua101 la101 hret C hq6_1 hq6_0 hpr hM0; omega)
              · refine j_aload_n C 0 0 dX7_copyFrom_125 rfl rfl ?_
                refine y_getC C 6 65 fX7_copyFrom_28 rfl rfl ft_6_5 sm_6_5 rfl hM230 dX7_copyFrom_126 ?_
                refine j_iload_n C 2 2 dX7_copyFrom_129 rfl rfl ?_
                refine j_aload_n C 1 1 dX7_copyFrom_130 rfl rfl ?_
                refine y_getC C 6 11 fX7_copyFrom_28 rfl rfl ft_6_5 sm_6_5 rfl hM230 dX7_copyFrom_131 ?_
                refine j_iload_n C 2 2 dX7_copyFrom_134 rfl rfl ?_
                refine y_iald C 24 900 _ _ rfl rfl rfl ak_24 an_24 rfl (sb_24 _) hM230 dX7_copyFrom_135 (by exact ⟨h231.1, (by (clear h235 ua233 la233 u232b fM230 hM230 ih227 u215b u215y u215z h207 fM204 hM204 h205 ih201 u122z hM121 eM121 ua119 la119 ea119 hM118 eM118 ua116 la116 ea116 hM115 eM115 ua113 la113 ea113 hM112 eM112 ua110 la110 ea110 hM109 eM109 ua107 la107 ea107 hM106 eM106 ua104 la104 ea104 hM103 eM103 ua101 la101 hret C hq6_1 hq6_0 hpr hM0; omega))⟩) (fun a237 ea237 la237 ua237 => ?_)
                obtain rfl : a237 = (M0.1 11 (a229).toNat).toInt := s_fX fM230 (by decide) (ea237)
                refine y_iastF C 24 900 rfl rfl rfl ak_24 an_24 rfl (sb_24 _) hM230 (PX.w hpr rfl rfl) dX7_copyFrom_136 (by exact ⟨h231.1, (by omega)⟩) (fun M238 eM238 hM238 => ?_)
                refine y_iinc C 2 [(2, .int (sI (a229 + 1))), (0, .ref (ad 61)), (1, .ref (ad 7))] dX7_copyFrom_137 rfl (by decide) rfl ?_
                refine j_goto C 108 dX7_copyFrom_140 (by decide) ?_
                have u239s := pcc_s (A := M230) (B := M238) (M := M0) (d := 61) (s := 7) (n := a229) (n' := (a229 + 1)) (by exact h231.2.2.2.2.2.2.2.2.2.2.1) (by (clear hM238 eM238 ua237 la237 ea237 h235 ua233 la233 u232b fM230 hM230 ih227 u215b u215y u215z h207 fM204 hM204 h205 ih201 u122z hM121 eM121 ua119 la119 ea119 hM118 eM118 ua116 la116 ea116 hM115 eM115 ua113 la113 ea113 hM112 eM112 ua110 la110 ea110 hM109 eM109 ua107 la107 ea107 hM106 eM106 ua104 la104 ea104 hM103 eM103 ua101 la101 hret C hq6_1 hq6_0 hpr hM0; omega)) eM238
                have u239y := pca_c (A := M230) (B := M238) (M := M0) (d := 61) (s := 7) (n := 6) (n' := 6) (by exact h231.2.2.2.2.2.2.2.2.2.1) (by exact (by decide)) ⟨wI_cell eM238 (by decide), wI_cell eM238 (by decide), wI_cell eM238 (by decide)⟩
                have zz61_9 : (M238.1 61 9).toInt = (M230.1 61 9).toInt := s_fa eM238 (by decide) (rfl); have zz61_8 : (M238.1 61 8).toInt = (M230.1 61 8).toInt := s_fa eM238 (by decide) (rfl); have zz61_7 : (M238.1 61 7).toInt = (M230.1 61 7).toInt := s_fa eM238 (by decide) (rfl); have zz61_6 : (M238.1 61 6).toInt = (M230.1 61 6).toInt := s_fa eM238 (by decide) (rfl); have zz61_10 : (M238.1 61 10).toInt = (M230.1 61 10).toInt := s_fa eM238 (by decide) (rfl); have zz61_1 : (M238.1 61 1).toInt = (M230.1 61 1).toInt := s_fa eM238 (by decide) (rfl); have zz61_0 : (M238.1 61 0).toInt = (M230.1 61 0).toInt := s_fa eM238 (by decide) (rfl); refine j_lv [1, 2, 0] rfl ?_; exact ih227 (a229 + 1) M238 (by (clear hM238 eM238 ua237 la237 ea237 ua233 la233 u232b fM230 hM230 ih227 u215b u215y u215z h207 fM204 hM204 ih201 u122z hM121 eM121 ua119 la119 hM118 eM118 ua116 la116 hM115 eM115 ua113 la113 hM112 eM112 ua110 la110 hM109 eM109 ua107 la107 hM106 eM106 ua104 la104 hM103 eM103 ua101 la101 hret C hq6_1 hq6_0 hpr hM0; omega)) hM238 ((FX.rf.tr fM230 (by decide)).wI eM238 (by decide))
        refine j_lv [1, 2, 0] rfl ?_; exact L228 2010 0 M204 (by exact ⟨(by decide), ⟨(by decide), ⟨h205.2.2.1, ⟨h205.2.2.2.1, ⟨h205.2.2.2.2.1, ⟨h205.2.2.2.2.2.1, ⟨h205.2.2.2.2.2.2.1, ⟨h205.2.2.2.2.2.2.2.1, ⟨h205.2.2.2.2.2.2.2.2.1, ⟨u215y, ⟨u215z, ⟨la107, (by decide)⟩⟩⟩⟩⟩⟩⟩⟩⟩⟩⟩⟩) hM204 (FX.rf.tr fM204 (by decide))
      · refine j_aload_n C 0 0 dX7_copyFrom_64 rfl rfl ?_
        refine y_getC C 6 62 fX7_copyFrom_18 rfl rfl ft_6_2 sm_6_2 rfl hM204 dX7_copyFrom_65 ?_
        refine j_iload_n C 2 2 dX7_copyFrom_68 rfl rfl ?_
        refine j_aload_n C 1 1 dX7_copyFrom_69 rfl rfl ?_
        refine y_getC C 6 8 fX7_copyFrom_18 rfl rfl ft_6_2 sm_6_2 rfl hM204 dX7_copyFrom_70 ?_
        refine j_iload_n C 2 2 dX7_copyFrom_73 rfl rfl ?_
        refine y_iald C 21 6 _ _ rfl rfl rfl ak_21 an_21 rfl (sb_21 _) hM204 dX7_copyFrom_74 (by exact ⟨h205.1, (by (clear fM204 hM204 ih201 u122z hM121 eM121 ua119 la119 ea119 hM118 eM118 ua116 la116 ea116 hM115 eM115 ua113 la113 ea113 hM112 eM112 ua110 la110 ea110 hM109 eM109 ua107 la107 ea107 hM106 eM106 ua104 la104 ea104 hM103 eM103 ua101 la101 hret C hq6_1 hq6_0 hpr hM0; omega))⟩) (fun a208 ea208 la208 ua208 => ?_)
        obtain rfl : a208 = (M0.1 8 (a203).toNat).toInt := s_fX fM204 (by decide) (ea208)
        refine y_iastF C 21 6 rfl rfl rfl ak_21 an_21 rfl (sb_21 _) hM204 (PX.w hpr rfl rfl) dX7_copyFrom_75 (by exact ⟨h205.1, (by omega)⟩) (fun M209 eM209 hM209 => ?_)
        refine j_aload_n C 0 0 dX7_copyFrom_76 rfl rfl ?_
        refine y_getC C 6 63 fX7_copyFrom_22 rfl rfl ft_6_3 sm_6_3 rfl hM209 dX7_copyFrom_77 ?_
        refine j_iload_n C 2 2 dX7_copyFrom_80 rfl rfl ?_
        refine j_aload_n C 1 1 dX7_copyFrom_81 rfl rfl ?_
        refine y_getC C 6 9 fX7_copyFrom_22 rfl rfl ft_6_3 sm_6_3 rfl hM209 dX7_copyFrom_82 ?_
        refine j_iload_n C 2 2 dX7_copyFrom_85 rfl rfl ?_
        refine y_iald C 22 6 _ _ rfl rfl rfl ak_22 an_22 rfl (sb_22 _) hM209 dX7_copyFrom_86 (by exact ⟨h205.1, (by omega)⟩) (fun a210 ea210 la210 ua210 => ?_)
        obtain rfl : a210 = (M0.1 9 (a203).toNat).toInt := s_fX fM204 (by decide) (s_fa eM209 (by decide) (ea210))
        refine y_iastF C 22 6 rfl rfl rfl ak_22 an_22 rfl (sb_22 _) hM209 (PX.w hpr rfl rfl) dX7_copyFrom_87 (by exact ⟨h205.1, (by (clear ua210 la210 ea210 hM209 eM209 ua208 la208 ea208 fM204 hM204 ih201 u122z hM121 eM121 ua119 la119 ea119 hM118 eM118 ua116 la116 ea116 hM115 eM115 ua113 la113 ea113 hM112 eM112 ua110 la110 ea110 hM109 eM109 ua107 la107 ea107 hM106 eM106 ua104 la104 ea104 hM103 eM103 ua101 la101 hret C hq6_1 hq6_0 hpr hM0; omega))⟩) (fun M211 eM211 hM211 => ?_)
        refine j_aload_n C 0 0 dX7_copyFrom_88 rfl rfl ?_
        refine y_getC C 6 64 fX7_copyFrom_25 rfl rfl ft_6_4 sm_6_4 rfl hM211 dX7_copyFrom_89 ?_
        refine j_iload_n C 2 2 dX7_copyFrom_92 rfl rfl ?_
        refine j_aload_n C 1 1 dX7_copyFrom_93 rfl rfl ?_
        refine y_getC C 6 10 fX7_copyFrom_25 rfl rfl ft_6_4 sm_6_4 rfl hM211 dX7_copyFrom_94 ?_
        refine j_iload_n C 2 2 dX7_copyFrom_97 rfl rfl ?_
        refine y_iald C 23 6 _ _ rfl rfl rfl ak_23 an_23 rfl (sb_23 _) hM211 dX7_copyFrom_98 (by exact ⟨h205.1, (by omega)⟩) (fun a212 ea212 la212 ua212 => ?_)
        obtain rfl : a212 = (M0.1 10 (a203).toNat).toInt := s_fX fM204 (by decide) (s_fa eM209 (by decide) (s_fa eM211 (by decide) (ea212)))
        refine y_iastF C 23 6 rfl rfl rfl ak_23 an_23 rfl (sb_23 _) hM211 (PX.w hpr rfl rfl) dX7_copyFrom_99 (by exact ⟨h205.1, (by (clear ua212 la212 ea212 hM211 eM211 ua210 la210 ea210 hM209 eM209 ua208 la208 ea208 fM204 hM204 ih201 u122z hM121 eM121 ua119 la119 ea119 hM118 eM118 ua116 la116 ea116 hM115 eM115 ua113 la113 ea113 hM112 eM112 ua110 la110 ea110 hM109 eM109 ua107 la107 ea107 hM106 eM106 ua104 la104 ea104 hM103 eM103 ua101 la101 hret C hq6_1 hq6_0 hpr hM0; omega))⟩) (fun M213 eM213 hM213 => ?_)
        refine y_iinc C 2 [(2, .int (sI (a203 + 1))), (0, .ref (ad 61)), (1, .ref (ad 7))] dX7_copyFrom_100 rfl (by decide) rfl ?_
        refine j_goto C 58 dX7_copyFrom_103 (by decide) ?_
        have u214s := pca_s (A := M204) (B := M209) (C := M211) (D := M213) (M := M0) (d := 61) (s := 7) (n := a203) (n' := (a203 + 1)) (by exact h205.2.2.2.2.2.2.2.2.2.1) (by (clear hM213 eM213 ua212 la212 ea212 hM211 eM211 ua210 la210 ea210 hM209 eM209 ua208 la208 ea208 fM204 hM204 ih201 u122z hM121 eM121 ua119 la119 ea119 hM118 eM118 ua116 la116 ea116 hM115 eM115 ua113 la113 ea113 hM112 eM112 ua110 la110 ea110 hM109 eM109 ua107 la107 ea107 hM106 eM106 ua104 la104 ea104 hM103 eM103 ua101 la101 hret C hq6_1 hq6_0 hpr hM0; omega)) eM209 eM211 eM213 (by decide)
        have zz61_9 : (M213.1 61 9).toInt = (M204.1 61 9).toInt := s_fa eM209 (by decide) (s_fa eM211 (by decide) (s_fa eM213 (by decide) (rfl))); have zz61_8 : (M213.1 61 8).toInt = (M204.1 61 8).toInt := s_fa eM209 (by decide) (s_fa eM211 (by decide) (s_fa eM213 (by decide) (rfl))); have zz61_7 : (M213.1 61 7).toInt = (M204.1 61 7).toInt := s_fa eM209 (by decide) (s_fa eM211 (by decide) (s_fa eM213 (by decide) (rfl))); have zz61_6 : (M213.1 61 6).toInt = (M204.1 61 6).toInt := s_fa eM209 (by decide) (s_fa eM211 (by decide) (s_fa eM213 (by decide) (rfl))); have zz61_10 : (M213.1 61 10).toInt = (M204.1 61 10).toInt := s_fa eM209 (by decide) (s_fa eM211 (by decide) (s_fa eM213 (by decide) (rfl))); have zz61_1 : (M213.1 61 1).toInt = (M204.1 61 1).toInt := s_fa eM209 (by decide) (s_fa eM211 (by decide) (s_fa eM213 (by decide) (rfl))); have zz61_0 : (M213.1 61 0).toInt = (M204.1 61 0).toInt := s_fa eM209 (by decide) (s_fa eM211 (by decide) (s_fa eM213 (by decide) (rfl))); refine j_lv [1, 2, 0] rfl ?_; exact ih201 (a203 + 1) M213 (by (clear hM213 eM213 ua212 la212 ea212 hM211 eM211 ua210 la210 ea210 hM209 eM209 ua208 la208 ea208 fM204 hM204 ih201 u122z hM121 eM121 ua119 la119 hM118 eM118 ua116 la116 hM115 eM115 ua113 la113 hM112 eM112 ua110 la110 hM109 eM109 ua107 la107 hM106 eM106 ua104 la104 hM103 eM103 ua101 la101 hret C hq6_1 hq6_0 hpr hM0; omega)) hM213 ((((FX.rf.tr fM204 (by decide)).wI eM209 (by decide)).wI eM211 (by decide)).wI eM213 (by decide))
  have zz61_9 := (Eq.trans (s_fb eM121 (by decide) (rfl) : (M121.1 61 9).toInt = (M118.1 61 9).toInt) (s_wr eM118 (by (clear L202 u122z hM121 eM121 ua119 la119 ea119 hM118 eM118 hM115 eM115 ua113 la113 ea113 hM112 eM112 ua110 la110 ea110 hM109 eM109 ua107 la107 ea107 hM106 eM106 ua104 la104 ea104 hM103 eM103 ua101 la101 hret C hq6_1 hq6_0 hpr hM0; omega)))); have zz61_8 := (Eq.trans (s_fb eM118 (by decide) (s_fb eM121 (by decide) (rfl)) : (M121.1 61 8).toInt = (M115.1 61 8).toInt) (s_wr eM115 (by (clear zz61_9 L202 u122z hM121 eM121 ua119 la119 ea119 hM118 eM118 ua116 la116 ea116 hM115 eM115 hM112 eM112 ua110 la110 ea110 hM109 eM109 ua107 la107 ea107 hM106 eM106 ua104 la104 ea104 hM103 eM103 ua101 la101 hret C hq6_1 hq6_0 hpr hM0; omega)))); have zz61_7 := (Eq.trans (s_fb eM115 (by decide) (s_fb eM118 (by decide) (s_fb eM121 (by decide) (rfl))) : (M121.1 61 7).toInt = (M112.1 61 7).toInt) (s_wr eM112 (by (clear zz61_8 zz61_9 L202 u122z hM121 eM121 ua119 la119 ea119 hM118 eM118 ua116 la116 ea116 hM115 eM115 ua113 la113 ea113 hM112 eM112 hM109 eM109 ua107 la107 ea107 hM106 eM106 ua104 la104 ea104 hM103 eM103 ua101 la101 hret C hq6_1 hq6_0 hpr hM0; omega)))); have zz61_6 := (Eq.trans (s_fb eM112 (by decide) (s_fb eM115 (by decide) (s_fb eM118 (by decide) (s_fb eM121 (by decide) (rfl)))) : (M121.1 61 6).toInt = (M109.1 61 6).toInt) (s_wr eM109 (by (clear zz61_7 zz61_8 zz61_9 L202 u122z hM121 eM121 ua119 la119 ea119 hM118 eM118 ua116 la116 ea116 hM115 eM115 ua113 la113 ea113 hM112 eM112 ua110 la110 ea110 hM109 eM109 hM106 eM106 ua104 la104 ea104 hM103 eM103 ua101 la101 hret C hq6_1 hq6_0 hpr hM0; omega)))); have zz61_10 := (Eq.trans (rfl : (M121.1 61 10).toInt = (M121.1 61 10).toInt) (s_wr eM121 (by (clear zz61_6 zz61_7 zz61_8 zz61_9 L202 u122z hM121 eM121 hM118 eM118 ua116 la116 ea116 hM115 eM115 ua113 la113 ea113 hM112 eM112 ua110 la110 ea110 hM109 eM109 ua107 la107 ea107 hM106 eM106 ua104 la104 ea104 hM103 eM103 ua101 la101 hret C hq6_1 hq6_0 hpr hM0; omega)))); have zz61_1 := (Eq.trans (s_fb eM109 (by decide) (s_fb eM112 (by decide) (s_fb eM115 (by decide) (s_fb eM118 (by decide) (s_fb eM121 (by decide) (rfl))))) : (M121.1 61 1).toInt = (M106.1 61 1).toInt) (s_wr eM106 (by exact ⟨la104, ua104⟩))); have zz61_0 := (Eq.trans (s_fb eM106 (by decide) (s_fb eM109 (by decide) (s_fb eM112 (by decide) (s_fb eM115 (by decide) (s_fb eM118 (by decide) (s_fb eM121 (by decide) (rfl)))))) : (M121.1 61 0).toInt = (M103.1 61 0).toInt) (s_wr eM103 (by omega))); refine j_lv [1, 2, 0] rfl ?_; exact L202 2010 0 M121 (by exact ⟨(by decide), ⟨(by decide), ⟨zz61_0, ⟨zz61_1, ⟨zz61_6, ⟨zz61_7, ⟨zz61_8, ⟨zz61_9, ⟨zz61_10, ⟨u122z, (by decide)⟩⟩⟩⟩⟩⟩⟩⟩⟩⟩) hM121 (((((((FX.rf.wI eM103 (by decide)).wI eM106 (by decide)).wI eM109 (by decide)).wI eM112 (by decide)).wI eM115 (by decide)).wI eM118 (by decide)).wI eM121 (by decide))
set_option maxHeartbeats 4000000 in
theorem s5_X7_copyFrom {l : Launch} {dC : Nat → ClassId} {dI : Nat → Nat → Nat} {ad : Nat → Nat} {cA : Nat → ClassId} {pr : Nat → Nat → Bool} {Kz : mm_M} {M0 : mm_M} (hM0 : INV pr Kz M0) (hpr : PX pr) (hq6_0 : ∀ i, s_c i = 6 → pr i 0 = false) (hq6_1 : ∀ i, s_c i = 6 → pr i 1 = false)  : Cv l 0 yX7_copyFrom wsX7_copyFrom dC dI ad cA [.ref (ad 70), .ref (ad 7)] M0 (fun M' => INV pr Kz M' ∧ FX [70, 71, 72, 73, 74] M0 M' ∧ (b01 (PCP M' M0 70 7) = 1)) := by
  refine cv_of (cc := cX7_copyFrom) (maxL := 3) (lv := [(0, .ref (ad 70)), (1, .ref (ad 7))]) (by decide) rfl (Nat.le_of_ble_eq_true rfl) rfl ?_
  intro p e s m args below meth c A Q C hret
  refine j_aload_n C 0 0 dX7_copyFrom_0 rfl rfl ?_
  refine j_aload_n C 1 1 dX7_copyFrom_1 rfl rfl ?_
  refine y_getI C 6 _ _ fX7_copyFrom_9 rfl rfl ft_6_0 sb_6_0 hM0 dX7_copyFrom_2 (fun a101 ea101 la101 ua101 => ?_)
  obtain rfl : a101 = (M0.1 7 0).toInt := ea101
  refine y_putI C 6 _ _ qX7_copyFrom_9 rfl rfl ft_6_0 sb_6_0 hM0 (hq6_0 _ rfl) dX7_copyFrom_5 (by exact ⟨⟨(by omega), (by omega)⟩, ⟨la101, ua101⟩⟩) (fun M103 eM103 hM103 => ?_)
  refine j_aload_n C 0 0 dX7_copyFrom_8 rfl rfl ?_
  refine j_aload_n C 1 1 dX7_copyFrom_9 rfl rfl ?_
  refine y_getI C 6 _ _ fX7_copyFrom_15 rfl rfl ft_6_1 sb_6_1 hM103 dX7_copyFrom_10 (fun a104 ea104 la104 ua104 => ?_)
  obtain rfl : a104 = (M0.1 7 1).toInt := s_fa eM103 (by decide) (ea104)
  refine y_putIF C 6 qX7_copyFrom_15 rfl rfl ft_6_1 sb_6_1 hM103 (hq6_1 _ rfl) dX7_copyFrom_13 (fun M106 eM106 hM106 => ?_)
  refine j_aload_n C 0 0 dX7_copyFrom_16 rfl rfl ?_
  refine j_aload_n C 1 1 dX7_copyFrom_17 rfl rfl ?_
  refine y_getI C 6 _ _ fX7_copyFrom_31 rfl rfl ft_6_6 sb_6_6 hM106 dX7_copyFrom_18 (fun a107 ea107 la107 ua107 => ?_)
  obtain rfl : a107 = (M0.1 7 6).toInt := s_fa eM103 (by decide) (s_fa eM106 (by decide) (ea107))
  refine y_putI C 6 _ _ qX7_copyFrom_31 rfl rfl ft_6_6 sb_6_6 hM106 (PX.w hpr rfl rfl) dX7_copyFrom_21 (by exact ⟨⟨(by omega), (by omega)⟩, ⟨la107, ua107⟩⟩) (fun M109 eM109 hM109 => ?_)
  refine j_aload_n C 0 0 dX7_copyFrom_24 rfl rfl ?_
  refine j_aload_n C 1 1 dX7_copyFrom_25 rfl rfl ?_
  refine y_getI C 6 _ _ fX7_copyFrom_34 rfl rfl ft_6_7 sb_6_7 hM109 dX7_copyFrom_26 (fun a110 ea110 la110 ua110 => ?_)
  obtain rfl : a110 = (M0.1 7 7).toInt := s_fa eM103 (by decide) (s_fa eM106 (by decide) (s_fa eM109 (by decide) (ea110)))
  refine y_putI C 6 _ _ qX7_copyFrom_34 rfl rfl ft_6_7 sb_6_7 hM109 (PX.w hpr rfl rfl) dX7_copyFrom_29 (by exact ⟨⟨(by omega), (by omega)⟩, ⟨la110, ua110⟩⟩) (fun M112 eM112 hM112 => ?_)
  refine j_aload_n C 0 0 dX7_copyFrom_32 rfl rfl ?_
  refine j_aload_n C 1 1 dX7_copyFrom_33 rfl rfl ?_
  refine y_getI C 6 _ _ fX7_copyFrom_37 rfl rfl ft_6_8 sb_6_8 hM112 dX7_copyFrom_34 (fun a113 ea113 la113 ua113 => ?_)
  obtain rfl : a113 = (M0.1 7 8).toInt := s_fa eM103 (by decide) (s_fa eM106 (by decide) (s_fa eM109 (by decide) (s_fa eM112 (by decide) (ea113))))
  refine y_putI C 6 _ _ qX7_copyFrom_37 rfl rfl ft_6_8 sb_6_8 hM112 (PX.w hpr rfl rfl) dX7_copyFrom_37 (by exact ⟨⟨(by omega), (by omega)⟩, ⟨la113, ua113⟩⟩) (fun M115 eM115 hM115 => ?_)
  refine j_aload_n C 0 0 dX7_copyFrom_40 rfl rfl ?_
  refine j_aload_n C 1 1 dX7_copyFrom_41 rfl rfl ?_
  refine y_getI C 6 _ _ fX7_copyFrom_40 rfl rfl ft_6_9 sb_6_9 hM115 dX7_copyFrom_42 (fun a116 ea116 la116 ua116 => ?_)
  obtain rfl : a116 = (M0.1 7 9).toInt := s_fa eM103 (by decide) (s_fa eM106 (by decide) (s_fa eM109 (by decide) (s_fa eM112 (by decide) (s_fa eM115 (by decide) (ea116)))))
  refine y_putI C 6 _ _ qX7_copyFrom_40 rfl rfl ft_6_9 sb_6_9 hM115 (PX.w hpr rfl rfl) dX7_copyFrom_45 (by exact ⟨⟨(by omega), (by omega)⟩, ⟨la116, ua116⟩⟩) (fun M118 eM118 hM118 => ?_)
  refine j_aload_n C 0 0 dX7_copyFrom_48 rfl rfl ?_
  refine j_aload_n C 1 1 dX7_copyFrom_49 rfl rfl ?_
  refine y_getI C 6 _ _ fX7_copyFrom_43 rfl rfl ft_6_10 sb_6_10 hM118 dX7_copyFrom_50 (fun a119 ea119 la119 ua119 => ?_)
  obtain rfl : a119 = (M0.1 7 10).toInt := s_fa eM103 (by decide) (s_fa eM106 (by decide) (s_fa eM109 (by decide) (s_fa eM112 (by decide) (s_fa eM115 (by decide) (s_fa eM118 (by decide) (ea119))))))
  refine y_putI C 6 _ _ qX7_copyFrom_43 rfl rfl ft_6_10 sb_6_10 hM118 (PX.w hpr rfl rfl) dX7_copyFrom_53 (by exact ⟨⟨(by omega), (by omega)⟩, ⟨la119, ua119⟩⟩) (fun M121 eM121 hM121 => ?_)
  refine y_iconst C dX7_copyFrom_56 ?_
  refine j_istore_n C 2 [(2, .int (sI 0)), (0, .ref (ad 70)), (1, .ref (ad 7))] dX7_copyFrom_57 rfl (by decide) rfl ?_
  have u122z := pca_0 M121 M0 70 7
  have L202 : ∀ (n200 : Nat), ∀ (a203 : Int) (M204 : mm_M), (0 ≤ a203 ∧ a203 ≤ 6 ∧ ((M204.1 70 0).toInt = (M0.1 7 0).toInt) ∧ ((M204.1 70 1).toInt = (M0.1 7 1).toInt) ∧ ((M204.1 70 6).toInt = (M0.1 7 6).toInt) ∧ ((M204.1 70 7).toInt = (M0.1 7 7).toInt) ∧ ((M204.1 70 8).toInt = (M0.1 7 8).toInt) ∧ ((M204.1 70 9).toInt = (M0.1 7 9).toInt) ∧ ((M204.1 70 10).toInt = (M0.1 7 10).toInt) ∧ (b01 (PCA M204 M0 70 7 a203) = 1) ∧ (6 - a203) < (n200 : Int)) → INV pr Kz M204 → FX [70, 71, 72, 73, 74] M0 M204 → jj p l e (cn_R 0) s m args below meth c 0 0 Q 3 dC dI ad cA A M204 58 [(0, .ref (ad 70)), (1, .ref (ad 7)), (2, .int (sI a203))] [] := by
    intro n200
    induction n200 with
    | zero =>
      intro a203 M204 h205 hM204 fM204
      exfalso; omega
    | succ n200 ih201 =>
      intro a203 M204 h205 hM204 fM204
      refine j_iload_n C 2 2 dX7_copyFrom_58 rfl rfl ?_
      refine y_bipush C dX7_copyFrom_59 rfl ?_
      refine y_icmp_ge C 106 dX7_copyFrom_61 (by decide) (by exact ⟨⟨(by (clear fM204 hM204 ih201 u122z hM121 eM121 ua119 la119 ea119 hM118 eM118 ua116 la116 ea116 hM115 eM115 ua113 la113 ea113 hM112 eM112 ua110 la110 ea110 hM109 eM109 ua107 la107 ea107 hM106 eM106 ua104 la104 ea104 hM103 eM103 ua101 la101 hret C hq6_1 hq6_0 hpr hM0; omega)), (by (clear fM204 hM204 ih201 u122z hM121 eM121 ua119 la119 ea119 hM118 eM118 ua116 la116 ea116 hM115 eM115 ua113 la113 ea113 hM112 eM112 ua110 la110 ea110 hM109 eM109 ua107 la107 ea107 hM106 eM106 ua104 la104 ea104 hM103 eM103 ua101 la101 hret C hq6_1 hq6_0 hpr hM0; omega))⟩, ⟨(by decide), (by decide)⟩⟩) (fun h207 => ?_) (fun h207 => ?_)
      · refine y_iconst C dX7_copyFrom_106 ?_
        refine j_istore_n C 2 [(2, .int (sI 0)), (0, .ref (ad 70)), (1, .ref (ad 7))] dX7_copyFrom_107 rfl (by decide) rfl ?_
        have u215z := pcc_0 M204 M0 70 7
        have u215y := pca_c (A := M204) (B := M204) (M := M0) (d := 70) (s := 7) (n := a203) (n' := 6) (by exact h205.2.2.2.2.2.2.2.2.2.1) (by exact h207) ⟨rfl, rfl, rfl⟩
        have u215b := hM0.rd (i := 7) (c := 6) (k := 6) rfl (show s_b 6 6 = (0, 900) from rfl)
        have L228 : ∀ (n226 : Nat), ∀ (a229 : Int) (M230 : mm_M), (0 ≤ a229 ∧ a229 ≤ 900 ∧ ((M230.1 70 0).toInt = (M0.1 7 0).toInt) ∧ ((M230.1 70 1).toInt = (M0.1 7 1).toInt) ∧ ((M230.1 70 6).toInt = (M0.1 7 6).toInt) ∧ ((M230.1 70 7).toInt = (M0.1 7 7).toInt) ∧ ((M230.1 70 8).toInt = (M0.1 7 8).toInt) ∧ ((M230.1 70 9).toInt = (M0.1 7 9).toInt) ∧ ((M230.1 70 10).toInt = (M0.1 7 10).toInt) ∧ (b01 (PCA M230 M0 70 7 6) = 1) ∧ (b01 (PCC M230 M0 70 7 a229) = 1) ∧ (a229 ≤ (M0.1 7 6).toInt) ∧ (900 - a229) < (n226 : Int)) → INV pr Kz M230 → FX [70, 71, 72, 73, 74] M0 M230 → jj p l e (cn_R 0) s m args below meth c 0 0 Q 3 dC dI ad cA A M230 108 [(0, .ref (ad 70)), (1, .ref (ad 7)), (2, .int (sI a229))] [] := by
          intro n226
          induction n226 with
          | zero =>
            intro a229 M230 h231 hM230 fM230
            exfalso; (clear fM230 hM230 u215b u215y u215z h207 fM204 hM204 h205 ih201 u122z hM121 eM121 ua119 la119 ea119 hM118 eM118 ua116 la116 ea116 hM115 eM115 ua113 la113 ea113 hM112 eM112 ua110 la110 ea110 hM109 eM109 ua107 la107 ea107 hM106 eM106 ua104 la104 ea104 hM103 eM103 ua101 la101 hret C hq6_1 hq6_0 hpr hM0; omega)
          | succ n226 ih227 =>
            intro a229 M230 h231 hM230 fM230
            have u232b := hM0.rd (i := 7) (c := 6) (k := 6) rfl (show s_b 6 6 = (0, 900) from rfl)
            refine j_iload_n C 2 2 dX7_copyFrom_108 rfl rfl ?_
            refine j_aload_n C 0 0 dX7_copyFrom_109 rfl rfl ?_
            refine y_getI C 6 _ _ fX7_copyFrom_31 rfl rfl ft_6_6 sb_6_6 hM230 dX7_copyFrom_110 (fun a233 ea233 la233 ua233 => ?_)
            obtain rfl : a233 = (M230.1 70 6).toInt := ea233
            refine y_icmp_ge C 143 dX7_copyFrom_113 (by decide) (by (clear ua233 la233 u232b fM230 hM230 ih227 u215b u215y u215z h207 fM204 hM204 ih201 u122z hM121 eM121 ua119 la119 ea119 hM118 eM118 ua116 la116 ea116 hM115 eM115 ua113 la113 ea113 hM112 eM112 ua110 la110 ea110 hM109 eM109 hM106 eM106 ua104 la104 ea104 hM103 eM103 ua101 la101 hret C hq6_1 hq6_0 hpr hM0; omega)) (fun h235 => ?_) (fun h235 => ?_)
            · have u240f := pcf_i (N := M230) (M := M0) (d := 70) (s := 7) (by exact h231.2.2.1) (by exact h231.2.2.2.1) (by exact h231.2.2.2.2.1) (by exact h231.2.2.2.2.2.1) (by exact h231.2.2.2.2.2.2.1) (by exact h231.2.2.2.2.2.2.2.1) (by exact h231.2.2.2.2.2.2.2.2.1)
              have u240k := pcp_i (n := a229) u240f (by exact h231.2.2.2.2.2.2.2.2.2.1) (by exact h231.2.2.2.2.2.2.2.2.2.2.1) (by (clear u240f ua233 la233 u232b fM230 hM230 ih227 u215b u215y u215z h207 fM204 hM204 ih201 u122z hM121 eM121 ua119 la119 ea119 hM118 eM118 ua116 la116 ea116 hM115 eM115 ua113 la113 ea113 hM112 eM112 ua110 la110 ea110 hM109 eM109 ua107 la107 hM106 eM106 ua104 la104 ea104 hM103 eM103 ua101 la101 hret C hq6_1 hq6_0 hpr hM0; omega))
              exact hret _ _ _ dX7_copyFrom_143 ⟨hM230, (FX.rf.tr fM230 (by decide)), by exact u240k⟩
            · refine j_iload_n C 2 2 dX7_copyFrom_116 rfl rfl ?_
              refine j_aload_n C 0 0 dX7_copyFrom_117 rfl rfl ?_
              refine y_getC C 6 74 fX7_copyFrom_28 rfl rfl ft_6_5 sm_6_5 rfl hM230 dX7_copyFrom_118 ?_
              refine y_alen C 24 900 rfl rfl rfl an_24 rfl rfl dX7_copyFrom_121 ?_
              refine y_icmp_ge C 143 dX7_copyFrom_122 (by decide) (by exact ⟨⟨(by (clear h235 ua233 la233 u232b fM230 hM230 ih227 u215b u215y u215z h207 fM204 hM204 h205 ih201 u122z hM121 eM121 ua119 la119 ea119 hM118 eM118 ua116 la116 ea116 hM115 eM115 ua113 la113 ea113 hM112 eM112 ua110 la110 ea110 hM109 eM109 ua107 la107 ea107 hM106 eM106 ua104 la104 ea104 hM103 eM103 ua101 la101 hret C hq6_1 hq6_0 hpr hM0; omega)), (by (clear h235 ua233 la233 u232b fM230 hM230 ih227 u215b u215y u215z h207 fM204 hM204 h205 ih201 u122z hM121 eM121 ua119 la119 ea119 hM118 eM118 ua116 la116 ea116 hM115 eM115 ua113 la113 ea113 hM112 eM112 ua110 la110 ea110 hM109 eM109 ua107 la107 ea107 hM106 eM106 ua104 la104 ea104 hM103 eM103 ua101 la101 hret C hq6_1 hq6_0 hpr hM0; omega))⟩, ⟨(by decide), (by decide)⟩⟩) (fun h236 => ?_) (fun h236 => ?_)
              · exfalso; (clear ua233 la233 u232b fM230 hM230 ih227 u215b u215y u215z h207 fM204 hM204 ih201 u122z hM121 eM121 ua119 la119 ea119 hM118 eM118 ua116 la116 ea116 hM115 eM115 ua113 la113 ea113 hM112 eM112 ua110 la110 ea110 hM109 eM109 hM106 eM106 ua104 la104 ea104 hM103 eM103 ua101 la101 hret C hq6_1 hq6_0 hpr hM0; omega)
              · refine j_aload_n C 0 0 dX7_copyFrom_125 rfl rfl ?_
                refine y_getC C 6 74 fX7_copyFrom_28 rfl rfl ft_6_5 sm_6_5 rfl hM230 dX7_copyFrom_126 ?_
                refine j_iload_n C 2 2 dX7_copyFrom_129 rfl rfl ?_
                refine j_aload_n C 1 1 dX7_copyFrom_130 rfl rfl ?_
                refine y_getC C 6 11 fX7_copyFrom_28 rfl rfl ft_6_5 sm_6_5 rfl hM230 dX7_copyFrom_131 ?_
                refine j_iload_n C 2 2 dX7_copyFrom_134 rfl rfl ?_
                refine y_iald C 24 900 _ _ rfl rfl rfl ak_24 an_24 rfl (sb_24 _) hM230 dX7_copyFrom_135 (by exact ⟨h231.1, (by (clear h235 ua233 la233 u232b fM230 hM230 ih227 u215b u215y u215z h207 fM204 hM204 h205 ih201 u122z hM121 eM121 ua119 la119 ea119 hM118 eM118 ua116 la116 ea116 hM115 eM115 ua113 la113 ea113 hM112 eM112 ua110 la110 ea110 hM109 eM109 ua107 la107 ea107 hM106 eM106 ua104 la104 ea104 hM103 eM103 ua101 la101 hret C hq6_1 hq6_0 hpr hM0; omega))⟩) (fun a237 ea237 la237 ua237 => ?_)
                obtain rfl : a237 = (M0.1 11 (a229).toNat).toInt := s_fX fM230 (by decide) (ea237)
                refine y_iastF C 24 900 rfl rfl rfl ak_24 an_24 rfl (sb_24 _) hM230 (PX.w hpr rfl rfl) dX7_copyFrom_136 (by exact ⟨h231.1, (by omega)⟩) (fun M238 eM238 hM238 => ?_)
                refine y_iinc C 2 [(2, .int (sI (a229 + 1))), (0, .ref (ad 70)), (1, .ref (ad 7))] dX7_copyFrom_137 rfl (by decide) rfl ?_
                refine j_goto C 108 dX7_copyFrom_140 (by decide) ?_
                have u239s := pcc_s (A := M230) (B := M238) (M := M0) (d := 70) (s := 7) (n := a229) (n' := (a229 + 1)) (by exact h231.2.2.2.2.2.2.2.2.2.2.1) (by (clear hM238 eM238 ua237 la237 ea237 h235 ua233 la233 u232b fM230 hM230 ih227 u215b u215y u215z h207 fM204 hM204 h205 ih201 u122z hM121 eM121 ua119 la119 ea119 hM118 eM118 ua116 la116 ea116 hM115 eM115 ua113 la113 ea113 hM112 eM112 ua110 la110 ea110 hM109 eM109 ua107 la107 ea107 hM106 eM106 ua104 la104 ea104 hM103 eM103 ua101 la101 hret C hq6_1 hq6_0 hpr hM0; omega)) eM238
                have u239y := pca_c (A := M230) (B := M238) (M := M0) (d := 70) (s := 7) (n := 6) (n' := 6) (by exact h231.2.2.2.2.2.2.2.2.2.1) (by exact (by decide)) ⟨wI_cell eM238 (by decide), wI_cell eM238 (by decide), wI_cell eM238 (by decide)⟩
                have zz70_9 : (M238.1 70 9).toInt = (M230.1 70 9).toInt := s_fa eM238 (by decide) (rfl); have zz70_8 : (M238.1 70 8).toInt = (M230.1 70 8).toInt := s_fa eM238 (by decide) (rfl); have zz70_7 : (M238.1 70 7).toInt = (M230.1 70 7).toInt := s_fa eM238 (by decide) (rfl); have zz70_6 : (M238.1 70 6).toInt = (M230.1 70 6).toInt := s_fa eM238 (by decide) (rfl); have zz70_10 : (M238.1 70 10).toInt = (M230.1 70 10).toInt := s_fa eM238 (by decide) (rfl); have zz70_1 : (M238.1 70 1).toInt = (M230.1 70 1).toInt := s_fa eM238 (by decide) (rfl); have zz70_0 : (M238.1 70 0).toInt = (M230.1 70 0).toInt := s_fa eM238 (by decide) (rfl); refine j_lv [1, 2, 0] rfl ?_; exact ih227 (a229 + 1) M238 (by (clear hM238 eM238 ua237 la237 ea237 ua233 la233 u232b fM230 hM230 ih227 u215b u215y u215z h207 fM204 hM204 ih201 u122z hM121 eM121 ua119 la119 hM118 eM118 ua116 la116 hM115 eM115 ua113 la113 hM112 eM112 ua110 la110 hM109 eM109 ua107 la107 hM106 eM106 ua104 la104 hM103 eM103 ua101 la101 hret C hq6_1 hq6_0 hpr hM0; omega)) hM238 ((FX.rf.tr fM230 (by decide)).wI eM238 (by decide))
        refine j_lv [1, 2, 0] rfl ?_; exact L228 2010 0 M204 (by exact ⟨(by decide), ⟨(by decide), ⟨h205.2.2.1, ⟨h205.2.2.2.1, ⟨h205.2.2.2.2.1, ⟨h205.2.2.2.2.2.1, ⟨h205.2.2.2.2.2.2.1, ⟨h205.2.2.2.2.2.2.2.1, ⟨h205.2.2.2.2.2.2.2.2.1, ⟨u215y, ⟨u215z, ⟨la107, (by decide)⟩⟩⟩⟩⟩⟩⟩⟩⟩⟩⟩⟩) hM204 (FX.rf.tr fM204 (by decide))
      · refine j_aload_n C 0 0 dX7_copyFrom_64 rfl rfl ?_
        refine y_getC C 6 71 fX7_copyFrom_18 rfl rfl ft_6_2 sm_6_2 rfl hM204 dX7_copyFrom_65 ?_
        refine j_iload_n C 2 2 dX7_copyFrom_68 rfl rfl ?_
        refine j_aload_n C 1 1 dX7_copyFrom_69 rfl rfl ?_
        refine y_getC C 6 8 fX7_copyFrom_18 rfl rfl ft_6_2 sm_6_2 rfl hM204 dX7_copyFrom_70 ?_
        refine j_iload_n C 2 2 dX7_copyFrom_73 rfl rfl ?_
        refine y_iald C 21 6 _ _ rfl rfl rfl ak_21 an_21 rfl (sb_21 _) hM204 dX7_copyFrom_74 (by exact ⟨h205.1, (by (clear fM204 hM204 ih201 u122z hM121 eM121 ua119 la119 ea119 hM118 eM118 ua116 la116 ea116 hM115 eM115 ua113 la113 ea113 hM112 eM112 ua110 la110 ea110 hM109 eM109 ua107 la107 ea107 hM106 eM106 ua104 la104 ea104 hM103 eM103 ua101 la101 hret C hq6_1 hq6_0 hpr hM0; omega))⟩) (fun a208 ea208 la208 ua208 => ?_)
        obtain rfl : a208 = (M0.1 8 (a203).toNat).toInt := s_fX fM204 (by decide) (ea208)
        refine y_iastF C 21 6 rfl rfl rfl ak_21 an_21 rfl (sb_21 _) hM204 (PX.w hpr rfl rfl) dX7_copyFrom_75 (by exact ⟨h205.1, (by omega)⟩) (fun M209 eM209 hM209 => ?_)
        refine j_aload_n C 0 0 dX7_copyFrom_76 rfl rfl ?_
        refine y_getC C 6 72 fX7_copyFrom_22 rfl rfl ft_6_3 sm_6_3 rfl hM209 dX7_copyFrom_77 ?_
        refine j_iload_n C 2 2 dX7_copyFrom_80 rfl rfl ?_
        refine j_aload_n C 1 1 dX7_copyFrom_81 rfl rfl ?_
        refine y_getC C 6 9 fX7_copyFrom_22 rfl rfl ft_6_3 sm_6_3 rfl hM209 dX7_copyFrom_82 ?_
        refine j_iload_n C 2 2 dX7_copyFrom_85 rfl rfl ?_
        refine y_iald C 22 6 _ _ rfl rfl rfl ak_22 an_22 rfl (sb_22 _) hM209 dX7_copyFrom_86 (by exact ⟨h205.1, (by omega)⟩) (fun a210 ea210 la210 ua210 => ?_)
        obtain rfl : a210 = (M0.1 9 (a203).toNat).toInt := s_fX fM204 (by decide) (s_fa eM209 (by decide) (ea210))
        refine y_iastF C 22 6 rfl rfl rfl ak_22 an_22 rfl (sb_22 _) hM209 (PX.w hpr rfl rfl) dX7_copyFrom_87 (by exact ⟨h205.1, (by (clear ua210 la210 ea210 hM209 eM209 ua208 la208 ea208 fM204 hM204 ih201 u122z hM121 eM121 ua119 la119 ea119 hM118 eM118 ua116 la116 ea116 hM115 eM115 ua113 la113 ea113 hM112 eM112 ua110 la110 ea110 hM109 eM109 ua107 la107 ea107 hM106 eM106 ua104 la104 ea104 hM103 eM103 ua101 la101 hret C hq6_1 hq6_0 hpr hM0; omega))⟩) (fun M211 eM211 hM211 => ?_)
        refine j_aload_n C 0 0 dX7_copyFrom_88 rfl rfl ?_
        refine y_getC C 6 73 fX7_copyFrom_25 rfl rfl ft_6_4 sm_6_4 rfl hM211 dX7_copyFrom_89 ?_
        refine j_iload_n C 2 2 dX7_copyFrom_92 rfl rfl ?_
        refine j_aload_n C 1 1 dX7_copyFrom_93 rfl rfl ?_
        refine y_getC C 6 10 fX7_copyFrom_25 rfl rfl ft_6_4 sm_6_4 rfl hM211 dX7_copyFrom_94 ?_
        refine j_iload_n C 2 2 dX7_copyFrom_97 rfl rfl ?_
        refine y_iald C 23 6 _ _ rfl rfl rfl ak_23 an_23 rfl (sb_23 _) hM211 dX7_copyFrom_98 (by exact ⟨h205.1, (by omega)⟩) (fun a212 ea212 la212 ua212 => ?_)
        obtain rfl : a212 = (M0.1 10 (a203).toNat).toInt := s_fX fM204 (by decide) (s_fa eM209 (by decide) (s_fa eM211 (by decide) (ea212)))
        refine y_iastF C 23 6 rfl rfl rfl ak_23 an_23 rfl (sb_23 _) hM211 (PX.w hpr rfl rfl) dX7_copyFrom_99 (by exact ⟨h205.1, (by (clear ua212 la212 ea212 hM211 eM211 ua210 la210 ea210 hM209 eM209 ua208 la208 ea208 fM204 hM204 ih201 u122z hM121 eM121 ua119 la119 ea119 hM118 eM118 ua116 la116 ea116 hM115 eM115 ua113 la113 ea113 hM112 eM112 ua110 la110 ea110 hM109 eM109 ua107 la107 ea107 hM106 eM106 ua104 la104 ea104 hM103 eM103 ua101 la101 hret C hq6_1 hq6_0 hpr hM0; omega))⟩) (fun M213 eM213 hM213 => ?_)
        refine y_iinc C 2 [(2, .int (sI (a203 + 1))), (0, .ref (ad 70)), (1, .ref (ad 7))] dX7_copyFrom_100 rfl (by decide) rfl ?_
        refine j_goto C 58 dX7_copyFrom_103 (by decide) ?_
        have u214s := pca_s (A := M204) (B := M209) (C := M211) (D := M213) (M := M0) (d := 70) (s := 7) (n := a203) (n' := (a203 + 1)) (by exact h205.2.2.2.2.2.2.2.2.2.1) (by (clear hM213 eM213 ua212 la212 ea212 hM211 eM211 ua210 la210 ea210 hM209 eM209 ua208 la208 ea208 fM204 hM204 ih201 u122z hM121 eM121 ua119 la119 ea119 hM118 eM118 ua116 la116 ea116 hM115 eM115 ua113 la113 ea113 hM112 eM112 ua110 la110 ea110 hM109 eM109 ua107 la107 ea107 hM106 eM106 ua104 la104 ea104 hM103 eM103 ua101 la101 hret C hq6_1 hq6_0 hpr hM0; omega)) eM209 eM211 eM213 (by decide)
        have zz70_9 : (M213.1 70 9).toInt = (M204.1 70 9).toInt := s_fa eM209 (by decide) (s_fa eM211 (by decide) (s_fa eM213 (by decide) (rfl))); have zz70_8 : (M213.1 70 8).toInt = (M204.1 70 8).toInt := s_fa eM209 (by decide) (s_fa eM211 (by decide) (s_fa eM213 (by decide) (rfl))); have zz70_7 : (M213.1 70 7).toInt = (M204.1 70 7).toInt := s_fa eM209 (by decide) (s_fa eM211 (by decide) (s_fa eM213 (by decide) (rfl))); have zz70_6 : (M213.1 70 6).toInt = (M204.1 70 6).toInt := s_fa eM209 (by decide) (s_fa eM211 (by decide) (s_fa eM213 (by decide) (rfl))); have zz70_10 : (M213.1 70 10).toInt = (M204.1 70 10).toInt := s_fa eM209 (by decide) (s_fa eM211 (by decide) (s_fa eM213 (by decide) (rfl))); have zz70_1 : (M213.1 70 1).toInt = (M204.1 70 1).toInt := s_fa eM209 (by decide) (s_fa eM211 (by decide) (s_fa eM213 (by decide) (rfl))); have zz70_0 : (M213.1 70 0).toInt = (M204.1 70 0).toInt := s_fa eM209 (by decide) (s_fa eM211 (by decide) (s_fa eM213 (by decide) (rfl))); refine j_lv [1, 2, 0] rfl ?_; exact ih201 (a203 + 1) M213 (by (clear hM213 eM213 ua212 la212 ea212 hM211 eM211 ua210 la210 ea210 hM209 eM209 ua208 la208 ea208 fM204 hM204 ih201 u122z hM121 eM121 ua119 la119 hM118 eM118 ua116 la116 hM115 eM115 ua113 la113 hM112 eM112 ua110 la110 hM109 eM109 ua107 la107 hM106 eM106 ua104 la104 hM103 eM103 ua101 la101 hret C hq6_1 hq6_0 hpr hM0; omega)) hM213 ((((FX.rf.tr fM204 (by decide)).wI eM209 (by decide)).wI eM211 (by decide)).wI eM213 (by decide))
  have zz70_9 := (Eq.trans (s_fb eM121 (by decide) (rfl) : (M121.1 70 9).toInt = (M118.1 70 9).toInt) (s_wr eM118 (by omega))); have zz70_8 := (Eq.trans (s_fb eM118 (by decide) (s_fb eM121 (by decide) (rfl)) : (M121.1 70 8).toInt = (M115.1 70 8).toInt) (s_wr eM115 (by omega))); have zz70_7 := (Eq.trans (s_fb eM115 (by decide) (s_fb eM118 (by decide) (s_fb eM121 (by decide) (rfl))) : (M121.1 70 7).toInt = (M112.1 70 7).toInt) (s_wr eM112 (by omega))); have zz70_6 := (Eq.trans (s_fb eM112 (by decide) (s_fb eM115 (by decide) (s_fb eM118 (by decide) (s_fb eM121 (by decide) (rfl)))) : (M121.1 70 6).toInt = (M109.1 70 6).toInt) (s_wr eM109 (by omega))); have zz70_10 := (Eq.trans (rfl : (M121.1 70 10).toInt = (M121.1 70 10).toInt) (s_wr eM121 (by omega))); have zz70_1 := (Eq.trans (s_fb eM109 (by decide) (s_fb eM112 (by decide) (s_fb eM115 (by decide) (s_fb eM118 (by decide) (s_fb eM121 (by decide) (rfl))))) : (M121.1 70 1).toInt = (M106.1 70 1).toInt) (s_wr eM106 (by exact ⟨la104, ua104⟩))); have zz70_0 := (Eq.trans (s_fb eM106 (by decide) (s_fb eM109 (by decide) (s_fb eM112 (by decide) (s_fb eM115 (by decide) (s_fb eM118 (by decide) (s_fb eM121 (by decide) (rfl)))))) : (M121.1 70 0).toInt = (M103.1 70 0).toInt) (s_wr eM103 (by omega))); refine j_lv [1, 2, 0] rfl ?_; exact L202 2010 0 M121 (by exact ⟨(by decide), ⟨(by decide), ⟨zz70_0, ⟨zz70_1, ⟨zz70_6, ⟨zz70_7, ⟨zz70_8, ⟨zz70_9, ⟨zz70_10, ⟨u122z, (by decide)⟩⟩⟩⟩⟩⟩⟩⟩⟩⟩) hM121 (((((((FX.rf.wI eM103 (by decide)).wI eM106 (by decide)).wI eM109 (by decide)).wI eM112 (by decide)).wI eM115 (by decide)).wI eM118 (by decide)).wI eM121 (by decide))
set_option maxHeartbeats 4000000 in
theorem s3_X11_image {l : Launch} {dC : Nat → ClassId} {dI : Nat → Nat → Nat} {ad : Nat → Nat} {cA : Nat → ClassId} {pr : Nat → Nat → Bool} {Kz : mm_M} {M0 : mm_M} (hM0 : INV pr Kz M0) (hpr : PX pr) (hq2_0 : ∀ i, s_c i = 2 → pr i 0 = false) (hq6_0 : ∀ i, s_c i = 6 → pr i 0 = false) (hq6_1 : ∀ i, s_c i = 6 → pr i 1 = false) (hq8_0 : ∀ i, s_c i = 8 → pr i 0 = false) (a1 : Int) (ha1 : -2147483648 ≤ a1 ∧ a1 ≤ 2147483647) (hp0 : M0.2.2 0 4 = 7) (hp1 : M0.2.2 0 5 = 2) : Ci l 1 yX11_image wsX11_image dC dI ad cA [.ref (ad 0), .int (sI a1)] M0 (fun r M' => ∃ a : Int, r = sI a ∧ INV pr Kz M' ∧ FX [60, 61, 62, 63, 64, 65, 66, 67, 68, 69, 70, 71, 72, 73, 74, 75, 76, 77] M0 M' ∧ (-2) ≤ a ∧ a ≤ 0 ∧ (a1 = 0 ∧ a = 0 ∧ (M'.1 60 0).toInt = 1 ∧ b01 (PCP M' M0 61 7) = 1 ∧ b01 (skX M' 66 = skX M0 12) = 1 ∧ b01 (SMC M' M0 [69, 70, 71, 72, 73, 74, 75, 76, 77]) = 1 ∨ a1 = 1 ∧ a = 0 ∧ (M'.1 69 0).toInt = 1 ∧ b01 (PCP M' M0 70 7) = 1 ∧ b01 (skX M' 75 = skX M0 12) = 1 ∧ b01 (SMC M' M0 [60, 61, 62, 63, 64, 65, 66, 67, 68]) = 1 ∨ (a1 < 0 ∨ 1 < a1) ∧ a = -2 ∧ b01 (SMC M' M0 [60, 61, 62, 63, 64, 65, 66, 67, 68]) = 1 ∧ b01 (SMC M' M0 [69, 70, 71, 72, 73, 74, 75, 76, 77]) = 1)) := by
  refine ci_of (cc := cX11_image) (maxL := 2) (ty := .int) (lv := [(0, .ref (ad 0)), (1, .int (sI a1))]) (by decide) rfl (fun r M' hp => rfl) (Nat.le_of_ble_eq_true rfl) rfl ?_
  intro p e s m args below meth c A Q C hret
  have epc0_4 : 7 = M0.2.2 0 4 := by exact hp0.symm
  refine j_iload_n C 1 1 dX11_image_0 rfl rfl ?_
  refine y_if_lt C 13 dX11_image_1 (by decide) (by exact ⟨ha1.1, ha1.2⟩) (fun h102 => ?_) (fun h102 => ?_)
  · refine y_bipush C dX11_image_13 rfl ?_
    have u103a := smc_r M0 [60, 61, 62, 63, 64, 65, 66, 67, 68]
    have u103b := smc_r M0 [69, 70, 71, 72, 73, 74, 75, 76, 77]
    exact hret _ _ _ _ dX11_image_15 ⟨(-2), rfl, hM0, FX.rf, by exact ⟨(by decide), ⟨(by decide), (by (clear epc0_4 hret C hp1 hp0 hq8_0 hq6_1 hq6_0 hq2_0 hpr hM0; omega))⟩⟩⟩
  · refine j_iload_n C 1 1 dX11_image_4 rfl rfl ?_
    refine j_aload_n C 0 0 dX11_image_5 rfl rfl ?_
    refine y_getC C 10 59 fX11_image_58 rfl rfl ft_10_10 sm_10_10 rfl hM0 dX11_image_6 ?_
    refine y_alen C 30 2 rfl rfl rfl an_30 rfl rfl dX11_image_9 ?_
    refine y_icmp_lt C 16 dX11_image_10 (by decide) (by exact ⟨⟨ha1.1, ha1.2⟩, ⟨(by decide), (by decide)⟩⟩) (fun h104 => ?_) (fun h104 => ?_)
    · refine j_aload_n C 0 0 dX11_image_16 rfl rfl ?_
      refine y_getC C 10 59 fX11_image_58 rfl rfl ft_10_10 sm_10_10 rfl hM0 dX11_image_17 ?_
      refine j_iload_n C 1 1 dX11_image_20 rfl rfl ?_
      rcases (show a1 = 0 ∨ a1 = 1 by omega) with h105 | h105
      · rw [h105]
        refine y_aaldK C 30 2 2 60 rfl rfl rfl rfl an_30 rfl sma_30 sta_30 (by decide) hM0 dX11_image_21 (by exact ⟨(by decide), (by decide)⟩) rfl ?_
        refine y_iconst C dX11_image_22 ?_
        refine y_putZ C 2 qX11_image_393 rfl rfl ft_2_0 sb_2_0 hM0 (hq2_0 _ rfl) dX11_image_23 (by exact ⟨(by decide), (by decide)⟩) (fun M107 eM107 hM107 => ?_)
        refine j_aload_n C 0 0 dX11_image_26 rfl rfl ?_
        refine y_getC C 10 59 fX11_image_58 rfl rfl ft_10_10 sm_10_10 rfl hM107 dX11_image_27 ?_
        refine j_iload_n C 1 1 dX11_image_30 rfl rfl ?_
        refine y_aaldK C 30 2 2 60 rfl rfl rfl rfl an_30 rfl sma_30 sta_30 (by decide) hM107 dX11_image_31 (by exact ⟨(by decide), (by decide)⟩) rfl ?_
        refine y_getC C 2 61 fX11_image_397 rfl rfl ft_2_1 sm_2_1 rfl hM107 dX11_image_32 ?_
        refine j_aload_n C 0 0 dX11_image_35 rfl rfl ?_
        refine y_getV C 10 7 fX11_image_26 rfl rfl ft_10_4 (s_pI eM107 (epc0_4)) dX11_image_36 ?_
        refine j_callVv C (d := 0) (As := [.ref (ad 7)]) (st := []) 61 (s_lt rfl rfl) (s_kc (c := 6) rfl rfl) (by decide) rfl (s4_X7_copyFrom hM107 hpr hq6_0 hq6_1) gX11_image_X7_copyFrom rfl hdX7_copyFrom (by decide) (Nat.le_of_ble_eq_true rfl) dX11_image_39 rfl (fun M110 h111 => ?_)
        obtain ⟨hM110, fM110, h112⟩ := h111
        refine j_aload_n C 0 0 dX11_image_42 rfl rfl ?_
        refine y_getC C 10 59 fX11_image_58 rfl rfl ft_10_10 sm_10_10 rfl hM110 dX11_image_43 ?_
        refine j_iload_n C 1 1 dX11_image_46 rfl rfl ?_
        refine y_aaldK C 30 2 2 60 rfl rfl rfl rfl an_30 rfl sma_30 sta_30 (by decide) hM110 dX11_image_47 (by exact ⟨(by decide), (by decide)⟩) rfl ?_
        refine y_getC C 2 66 fX11_image_400 rfl rfl ft_2_2 sm_2_2 rfl hM110 dX11_image_48 ?_
        refine j_aload_n C 0 0 dX11_image_51 rfl rfl ?_
        refine y_getC C 10 12 fX11_image_36 rfl rfl ft_10_6 sm_10_6 rfl hM110 dX11_image_52 ?_
        refine j_callVv C (d := 0) (As := [.ref (ad 12)]) (st := []) 66 (s_lt rfl rfl) (s_kc (c := 8) rfl rfl) (by decide) rfl (s34_X9_copyFrom hM110 hpr hq8_0) gX11_image_X9_copyFrom rfl hdX9_copyFrom (by decide) (Nat.le_of_ble_eq_true rfl) dX11_image_55 rfl (fun M115 h116 => ?_)
        obtain ⟨hM115, fM115, h117⟩ := h116
        refine y_iconst C dX11_image_58 ?_
        have u118m : (M115.1 60 0).toInt = 1 := by rw [show M115.1 60 = M107.1 60 from (((FX.rf.tr fM110 (by decide)).tr fM115 (by decide)) : FX [61, 62, 63, 64, 65, 66, 67, 68] M107 M115).cell (by decide)]; exact s_wr eM107 (by exact ⟨(by decide), (by decide)⟩)
        have u118p : b01 (PCP M115 M0 61 7) = 1 := pcp_m (B := M107) (C := M110) (b01_e (by exact h112)) (ple_f (p := 7) ((FX.rf.wI eM107 (by decide)) : FX [60] M0 M107) rfl (by decide)) (ple_f (p := 61) ((FX.rf.tr fM115 (by decide)) : FX [66, 67, 68] M110 M115) rfl (by decide))
        have u118s : b01 (skX M115 66 = skX M0 12) = 1 := b01_i ((b01_e (P := skX M115 66 = skX M110 12) (by exact h117)).trans (sk_f (ske_n (((FX.rf.wI eM107 (by decide)).tr fM110 (by decide)) : FX [60, 61, 62, 63, 64, 65] M0 M110) ⟨by decide, by decide, by decide⟩)))
        have u118c := smc_f (L := [69, 70, 71, 72, 73, 74, 75, 76, 77]) ((((FX.rf.wI eM107 (by decide)).tr fM110 (by decide)).tr fM115 (by decide)) : FX [60, 61, 62, 63, 64, 65, 66, 67, 68] M0 M115) (by decide)
        have zz60_0 := (Eq.trans (s_fX fM110 (by decide) (s_fX fM115 (by decide) (rfl)) : (M115.1 60 0).toInt = (M107.1 60 0).toInt) (s_wr eM107 (by exact ⟨(by decide), (by decide)⟩))); have zz69_0 : (M115.1 69 0).toInt = (M0.1 69 0).toInt := s_fa eM107 (by decide) (s_fX fM110 (by decide) (s_fX fM115 (by decide) (rfl))); exact hret _ _ _ _ dX11_image_59 ⟨0, rfl, hM115, (((FX.rf.wI eM107 (by decide)).tr fM110 (by decide)).tr fM115 (by decide)), by exact ⟨(by decide), ⟨(by decide), (by (clear zz69_0 zz60_0 h117 fM115 hM115 h112 fM110 hM110 hM107 eM107 h104 h102 epc0_4 hret C hp1 hp0 ha1 hq8_0 hq6_1 hq6_0 hq2_0 hpr hM0; omega))⟩⟩⟩
      · rw [h105]
        refine y_aaldK C 30 2 2 69 rfl rfl rfl rfl an_30 rfl sma_30 sta_30 (by decide) hM0 dX11_image_21 (by exact ⟨(by decide), (by decide)⟩) rfl ?_
        refine y_iconst C dX11_image_22 ?_
        refine y_putZ C 2 qX11_image_393 rfl rfl ft_2_0 sb_2_0 hM0 (hq2_0 _ rfl) dX11_image_23 (by exact ⟨(by decide), (by decide)⟩) (fun M120 eM120 hM120 => ?_)
        refine j_aload_n C 0 0 dX11_image_26 rfl rfl ?_
        refine y_getC C 10 59 fX11_image_58 rfl rfl ft_10_10 sm_10_10 rfl hM120 dX11_image_27 ?_
        refine j_iload_n C 1 1 dX11_image_30 rfl rfl ?_
        refine y_aaldK C 30 2 2 69 rfl rfl rfl rfl an_30 rfl sma_30 sta_30 (by decide) hM120 dX11_image_31 (by exact ⟨(by decide), (by decide)⟩) rfl ?_
        refine y_getC C 2 70 fX11_image_397 rfl rfl ft_2_1 sm_2_1 rfl hM120 dX11_image_32 ?_
        refine j_aload_n C 0 0 dX11_image_35 rfl rfl ?_
        refine y_getV C 10 7 fX11_image_26 rfl rfl ft_10_4 (s_pI eM120 (epc0_4)) dX11_image_36 ?_
        refine j_callVv C (d := 0) (As := [.ref (ad 7)]) (st := []) 70 (s_lt rfl rfl) (s_kc (c := 6) rfl rfl) (by decide) rfl (s5_X7_copyFrom hM120 hpr hq6_0 hq6_1) gX11_image_X7_copyFrom rfl hdX7_copyFrom (by decide) (Nat.le_of_ble_eq_true rfl) dX11_image_39 rfl (fun M123 h124 => ?_)
        obtain ⟨hM123, fM123, h125⟩ := h124
        refine j_aload_n C 0 0 dX11_image_42 rfl rfl ?_
        refine y_getC C 10 59 fX11_image_58 rfl rfl ft_10_10 sm_10_10 rfl hM123 dX11_image_43 ?_
        refine j_iload_n C 1 1 dX11_image_46 rfl rfl ?_
        refine y_aaldK C 30 2 2 69 rfl rfl rfl rfl an_30 rfl sma_30 sta_30 (by decide) hM123 dX11_image_47 (by exact ⟨(by decide), (by decide)⟩) rfl ?_
        refine y_getC C 2 75 fX11_image_400 rfl rfl ft_2_2 sm_2_2 rfl hM123 dX11_image_48 ?_
        refine j_aload_n C 0 0 dX11_image_51 rfl rfl ?_
        refine y_getC C 10 12 fX11_image_36 rfl rfl ft_10_6 sm_10_6 rfl hM123 dX11_image_52 ?_
        refine j_callVv C (d := 0) (As := [.ref (ad 12)]) (st := []) 75 (s_lt rfl rfl) (s_kc (c := 8) rfl rfl) (by decide) rfl (s35_X9_copyFrom hM123 hpr hq8_0) gX11_image_X9_copyFrom rfl hdX9_copyFrom (by decide) (Nat.le_of_ble_eq_true rfl) dX11_image_55 rfl (fun M128 h129 => ?_)
        obtain ⟨hM128, fM128, h130⟩ := h129
        refine y_iconst C dX11_image_58 ?_
        have u131m : (M128.1 69 0).toInt = 1 := by rw [show M128.1 69 = M120.1 69 from (((FX.rf.tr fM123 (by decide)).tr fM128 (by decide)) : FX [70, 71, 72, 73, 74, 75, 76, 77] M120 M128).cell (by decide)]; exact s_wr eM120 (by exact ⟨(by decide), (by decide)⟩)
        have u131p : b01 (PCP M128 M0 70 7) = 1 := pcp_m (B := M120) (C := M123) (b01_e (by exact h125)) (ple_f (p := 7) ((FX.rf.wI eM120 (by decide)) : FX [69] M0 M120) rfl (by decide)) (ple_f (p := 70) ((FX.rf.tr fM128 (by decide)) : FX [75, 76, 77] M123 M128) rfl (by decide))
        have u131s : b01 (skX M128 75 = skX M0 12) = 1 := b01_i ((b01_e (P := skX M128 75 = skX M123 12) (by exact h130)).trans (sk_f (ske_n (((FX.rf.wI eM120 (by decide)).tr fM123 (by decide)) : FX [69, 70, 71, 72, 73, 74] M0 M123) ⟨by decide, by decide, by decide⟩)))
        have u131c := smc_f (L := [60, 61, 62, 63, 64, 65, 66, 67, 68]) ((((FX.rf.wI eM120 (by decide)).tr fM123 (by decide)).tr fM128 (by decide)) : FX [69, 70, 71, 72, 73, 74, 75, 76, 77] M0 M128) (by decide)
        have zz60_0 : (M128.1 60 0).toInt = (M0.1 60 0).toInt := s_fa eM120 (by decide) (s_fX fM123 (by decide) (s_fX fM128 (by decide) (rfl))); have zz69_0 := (Eq.trans (s_fX fM123 (by decide) (s_fX fM128 (by decide) (rfl)) : (M128.1 69 0).toInt = (M120.1 69 0).toInt) (s_wr eM120 (by exact ⟨(by decide), (by decide)⟩))); exact hret _ _ _ _ dX11_image_59 ⟨0, rfl, hM128, (((FX.rf.wI eM120 (by decide)).tr fM123 (by decide)).tr fM128 (by decide)), by exact ⟨(by decide), ⟨(by decide), (by (clear zz69_0 zz60_0 h130 fM128 hM128 h125 fM123 hM123 hM120 eM120 h104 h102 epc0_4 hret C hp1 hp0 ha1 hq8_0 hq6_1 hq6_0 hq2_0 hpr hM0; omega))⟩⟩⟩
    · refine y_bipush C dX11_image_13 rfl ?_
      have u132a := smc_r M0 [60, 61, 62, 63, 64, 65, 66, 67, 68]
      have u132b := smc_r M0 [69, 70, 71, 72, 73, 74, 75, 76, 77]
      exact hret _ _ _ _ dX11_image_15 ⟨(-2), rfl, hM0, FX.rf, by exact ⟨(by decide), ⟨(by decide), (by (clear epc0_4 hret C hp1 hp0 hq8_0 hq6_1 hq6_0 hq2_0 hpr hM0; omega))⟩⟩⟩
set_option maxHeartbeats 4000000 in
theorem s6_X7_copyFrom {l : Launch} {dC : Nat → ClassId} {dI : Nat → Nat → Nat} {ad : Nat → Nat} {cA : Nat → ClassId} {pr : Nat → Nat → Bool} {Kz : mm_M} {M0 : mm_M} (hM0 : INV pr Kz M0) (hpr : PX pr) (hq6_0 : ∀ i, s_c i = 6 → pr i 0 = false) (hq6_1 : ∀ i, s_c i = 6 → pr i 1 = false)  : Cv l 0 yX7_copyFrom wsX7_copyFrom dC dI ad cA [.ref (ad 2), .ref (ad 61)] M0 (fun M' => INV pr Kz M' ∧ FX [2, 3, 4, 5, 6] M0 M' ∧ (b01 (PCP M' M0 2 61) = 1)) := by
  refine cv_of (cc := cX7_copyFrom) (maxL := 3) (lv := [(0, .ref (ad 2)), (1, .ref (ad 61))]) (by decide) rfl (Nat.le_of_ble_eq_true rfl) rfl ?_
  intro p e s m args below meth c A Q C hret
  refine j_aload_n C 0 0 dX7_copyFrom_0 rfl rfl ?_
  refine j_aload_n C 1 1 dX7_copyFrom_1 rfl rfl ?_
  refine y_getI C 6 _ _ fX7_copyFrom_9 rfl rfl ft_6_0 sb_6_0 hM0 dX7_copyFrom_2 (fun a101 ea101 la101 ua101 => ?_)
  obtain rfl : a101 = (M0.1 61 0).toInt := ea101
  refine y_putI C 6 _ _ qX7_copyFrom_9 rfl rfl ft_6_0 sb_6_0 hM0 (hq6_0 _ rfl) dX7_copyFrom_5 (by exact ⟨⟨(by (clear hret C hq6_1 hq6_0 hpr hM0; omega)), (by (clear hret C hq6_1 hq6_0 hpr hM0; omega))⟩, ⟨la101, ua101⟩⟩) (fun M103 eM103 hM103 => ?_)
  refine j_aload_n C 0 0 dX7_copyFrom_8 rfl rfl ?_
  refine j_aload_n C 1 1 dX7_copyFrom_9 rfl rfl ?_
  refine y_getI C 6 _ _ fX7_copyFrom_15 rfl rfl ft_6_1 sb_6_1 hM103 dX7_copyFrom_10 (fun a104 ea104 la104 ua104 => ?_)
  obtain rfl : a104 = (M0.1 61 1).toInt := s_fa eM103 (by decide) (ea104)
  refine y_putIF C 6 qX7_copyFrom_15 rfl rfl ft_6_1 sb_6_1 hM103 (hq6_1 _ rfl) dX7_copyFrom_13 (fun M106 eM106 hM106 => ?_)
  refine j_aload_n C 0 0 dX7_copyFrom_16 rfl rfl ?_
  refine j_aload_n C 1 1 dX7_copyFrom_17 rfl rfl ?_
  refine y_getI C 6 _ _ fX7_copyFrom_31 rfl rfl ft_6_6 sb_6_6 hM106 dX7_copyFrom_18 (fun a107 ea107 la107 ua107 => ?_)
  obtain rfl : a107 = (M0.1 61 6).toInt := s_fa eM103 (by decide) (s_fa eM106 (by decide) (ea107))
  refine y_putI C 6 _ _ qX7_copyFrom_31 rfl rfl ft_6_6 sb_6_6 hM106 (PX.w hpr rfl rfl) dX7_copyFrom_21 (by exact ⟨⟨(by (clear hM106 eM106 ua104 la104 ea104 hM103 eM103 ua101 la101 hret C hq6_1 hq6_0 hpr hM0; omega)), (by (clear hM106 eM106 ua104 la104 ea104 hM103 eM103 ua101 la101 hret C hq6_1 hq6_0 hpr hM0; omega))⟩, ⟨la107, ua107⟩⟩) (fun M109 eM109 hM109 => ?_)
  refine j_aload_n C 0 0 dX7_copyFrom_24 rfl rfl ?_
  refine j_aload_n C 1 1 dX7_copyFrom_25 rfl rfl ?_
  refine y_getI C 6 _ _ fX7_copyFrom_34 rfl rfl ft_6_7 sb_6_7 hM109 dX7_copyFrom_26 (fun a110 ea110 la110 ua110 => ?_)
  obtain rfl : a110 = (M0.1 61 7).toInt := s_fa eM103 (by decide) (s_fa eM106 (by decide) (s_fa eM109 (by decide) (ea110)))
  refine y_putI C 6 _ _ qX7_copyFrom_34 rfl rfl ft_6_7 sb_6_7 hM109 (PX.w hpr rfl rfl) dX7_copyFrom_29 (by exact ⟨⟨(by (clear hM109 eM109 ua107 la107 ea107 hM106 eM106 ua104 la104 ea104 hM103 eM103 ua101 la101 hret C hq6_1 hq6_0 hpr hM0; omega)), (by (clear hM109 eM109 ua107 la107 ea107 hM106 eM106 ua104 la104 ea104 hM103 eM103 ua101 la101 hret C hq6_1 hq6_0 hpr hM0; omega))⟩, ⟨la110, ua110⟩⟩) (fun M112 eM112 hM112 => ?_)
  refine j_aload_n C 0 0 dX7_copyFrom_32 rfl rfl ?_
  refine j_aload_n C 1 1 dX7_copyFrom_33 rfl rfl ?_
  refine y_getI C 6 _ _ fX7_copyFrom_37 rfl rfl ft_6_8 sb_6_8 hM112 dX7_copyFrom_34 (fun a113 ea113 la113 ua113 => ?_)
  obtain rfl : a113 = (M0.1 61 8).toInt := s_fa eM103 (by decide) (s_fa eM106 (by decide) (s_fa eM109 (by decide) (s_fa eM112 (by decide) (ea113))))
  refine y_putI C 6 _ _ qX7_copyFrom_37 rfl rfl ft_6_8 sb_6_8 hM112 (PX.w hpr rfl rfl) dX7_copyFrom_37 (by exact ⟨⟨(by (clear hM112 eM112 ua110 la110 ea110 hM109 eM109 ua107 la107 ea107 hM106 eM106 ua104 la104 ea104 hM103 eM103 ua101 la101 hret C hq6_1 hq6_0 hpr hM0; omega)), (by (clear hM112 eM112 ua110 la110 ea110 hM109 eM109 ua107 la107 ea107 hM106 eM106 ua104 la104 ea104 hM103 eM103 ua101 la101 hret C hq6_1 hq6_0 hpr hM0; omega))⟩, ⟨la113, ua113⟩⟩) (fun M115 eM115 hM115 => ?_)
  refine j_aload_n C 0 0 dX7_copyFrom_40 rfl rfl ?_
  refine j_aload_n C 1 1 dX7_copyFrom_41 rfl rfl ?_
  refine y_getI C 6 _ _ fX7_copyFrom_40 rfl rfl ft_6_9 sb_6_9 hM115 dX7_copyFrom_42 (fun a116 ea116 la116 ua116 => ?_)
  obtain rfl : a116 = (M0.1 61 9).toInt := s_fa eM103 (by decide) (s_fa eM106 (by decide) (s_fa eM109 (by decide) (s_fa eM112 (by decide) (s_fa eM115 (by decide) (ea116)))))
  refine y_putI C 6 _ _ qX7_copyFrom_40 rfl rfl ft_6_9 sb_6_9 hM115 (PX.w hpr rfl rfl) dX7_copyFrom_45 (by exact ⟨⟨(by (clear hM115 eM115 ua113 la113 ea113 hM112 eM112 ua110 la110 ea110 hM109 eM109 ua107 la107 ea107 hM106 eM106 ua104 la104 ea104 hM103 eM103 ua101 la101 hret C hq6_1 hq6_0 hpr hM0; omega)), (by (clear hM115 eM115 ua113 la113 ea113 hM112 eM112 ua110 la110 ea110 hM109 eM109 ua107 la107 ea107 hM106 eM106 ua104 la104 ea104 hM103 eM103 ua101 la101 hret C hq6_1 hq6_0 hpr hM0; omega))⟩, ⟨la116, ua116⟩⟩) (fun M118 eM118 hM118 => ?_)
  refine j_aload_n C 0 0 dX7_copyFrom_48 rfl rfl ?_
  refine j_aload_n C 1 1 dX7_copyFrom_49 rfl rfl ?_
  refine y_getI C 6 _ _ fX7_copyFrom_43 rfl rfl ft_6_10 sb_6_10 hM118 dX7_copyFrom_50 (fun a119 ea119 la119 ua119 => ?_)
  obtain rfl : a119 = (M0.1 61 10).toInt := s_fa eM103 (by decide) (s_fa eM106 (by decide) (s_fa eM109 (by decide) (s_fa eM112 (by decide) (s_fa eM115 (by decide) (s_fa eM118 (by decide) (ea119))))))
  refine y_putI C 6 _ _ qX7_copyFrom_43 rfl rfl ft_6_10 sb_6_10 hM118 (PX.w hpr rfl rfl) dX7_copyFrom_53 (by exact ⟨⟨(by (clear hM118 eM118 ua116 la116 ea116 hM115 eM115 ua113 la113 ea113 hM112 eM112 ua110 la110 ea110 hM109 eM109 ua107 la107 ea107 hM106 eM106 ua104 la104 ea104 hM103 eM103 ua101 la101 hret C hq6_1 hq6_0 hpr hM0; omega)), (by (clear hM118 eM118 ua116 la116 ea116 hM115 eM115 ua113 la113 ea113 hM112 eM112 ua110 la110 ea110 hM109 eM109 ua107 la107 ea107 hM106 eM106 ua104 la104 ea104 hM103 eM103 ua101 la101 hret C hq6_1 hq6_0 hpr hM0; omega))⟩, ⟨la119, ua119⟩⟩) (fun M121 eM121 hM121 => ?_)
  refine y_iconst C dX7_copyFrom_56 ?_
  refine j_istore_n C 2 [(2, .int (sI 0)), (0, .ref (ad 2)), (1, .ref (ad 61))] dX7_copyFrom_57 rfl (by decide) rfl ?_
  have u122z := pca_0 M121 M0 2 61
  have L202 : ∀ (n200 : Nat), ∀ (a203 : Int) (M204 : mm_M), (0 ≤ a203 ∧ a203 ≤ 6 ∧ ((M204.1 2 0).toInt = (M0.1 61 0).toInt) ∧ ((M204.1 2 1).toInt = (M0.1 61 1).toInt) ∧ ((M204.1 2 6).toInt = (M0.1 61 6).toInt) ∧ ((M204.1 2 7).toInt = (M0.1 61 7).toInt) ∧ ((M204.1 2 8).toInt = (M0.1 61 8).toInt) ∧ ((M204.1 2 9).toInt = (M0.1 61 9).toInt) ∧ ((M204.1 2 10).toInt = (M0.1 61 10).toInt) ∧ (b01 (PCA M204 M0 2 61 a203) = 1) ∧ (6 - a203) < (n200 : Int)) → INV pr Kz M204 → FX [2, 3, 4, 5, 6] M0 M204 → jj p l e (cn_R 0) s m args below meth c 0 0 Q 3 dC dI ad cA A M204 58 [(0, .ref (ad 2)), (1, .ref (ad 61)), (2, .int (sI a203))] [] := by
    intro n200
    induction n200 with
    | zero =>
      intro a203 M204 h205 hM204 fM204
      exfalso; omega
    | succ n200 ih201 =>
      intro a203 M204 h205 hM204 fM204
      refine j_iload_n C 2 2 dX7_copyFrom_58 rfl rfl ?_
      refine y_bipush C dX7_copyFrom_59 rfl ?_
      refine y_icmp_ge C 106 dX7_copyFrom_61 (by decide) (by exact ⟨⟨(by (clear fM204 hM204 ih201 u122z hM121 eM121 ua119 la119 ea119 hM118 eM118 ua116 la116 ea116 hM115 eM115 ua113 la113 ea113 hM112 eM112 ua110 la110 ea110 hM109 eM109 ua107 la107 ea107 hM106 eM106 ua104 la104 ea104 hM103 eM103 ua101 la101 hret C hq6_1 hq6_0 hpr hM0; omega)), (by (clear fM204 hM204 ih201 u122z hM121 eM121 ua119 la119 ea119 hM118 eM118 ua116 la116 ea116 hM115 eM115 ua113 la113 ea113 hM112 eM112 ua110 la110 ea110 hM109 eM109 ua107 la107 ea107 hM106 eM106 ua104 la104 ea104 hM103 eM103 ua101 la101 hret C hq6_1 hq6_0 hpr hM0; omega))⟩, ⟨(by decide), (by decide)⟩⟩) (fun h207 => ?_) (fun h207 => ?_)
      · refine y_iconst C dX7_copyFrom_106 ?_
        refine j_istore_n C 2 [(2, .int (sI 0)), (0, .ref (ad 2)), (1, .ref (ad 61))] dX7_copyFrom_107 rfl (by decide) rfl ?_
        have u215z := pcc_0 M204 M0 2 61
        have u215y := pca_c (A := M204) (B := M204) (M := M0) (d := 2) (s := 61) (n := a203) (n' := 6) (by exact h205.2.2.2.2.2.2.2.2.2.1) (by exact h207) ⟨rfl, rfl, rfl⟩
        have u215b := hM0.rd (i := 61) (c := 6) (k := 6) rfl (show s_b 6 6 = (0, 900) from rfl)
        have L228 : ∀ (n226 : Nat), ∀ (a229 : Int) (M230 : mm_M), (0 ≤ a229 ∧ a229 ≤ 900 ∧ ((M230.1 2 0).toInt = (M0.1 61 0).toInt) ∧ ((M230.1 2 1).toInt = (M0.1 61 1).toInt) ∧ ((M230.1 2 6).toInt = (M0.1 61 6).toInt) ∧ ((M230.1 2 7).toInt = (M0.1 61 7).toInt) ∧ ((M230.1 2 8).toInt = (M0.1 61 8).toInt) ∧ ((M230.1 2 9).toInt = (M0.1 61 9).toInt) ∧ ((M230.1 2 10).toInt = (M0.1 61 10).toInt) ∧ (b01 (PCA M230 M0 2 61 6) = 1) ∧ (b01 (PCC M230 M0 2 61 a229) = 1) ∧ (a229 ≤ (M0.1 61 6).toInt) ∧ (900 - a229) < (n226 : Int)) → INV pr Kz M230 → FX [2, 3, 4, 5, 6] M0 M230 → jj p l e (cn_R 0) s m args below meth c 0 0 Q 3 dC dI ad cA A M230 108 [(0, .ref (ad 2)), (1, .ref (ad 61)), (2, .int (sI a229))] [] := by
          intro n226
          induction n226 with
          | zero =>
            intro a229 M230 h231 hM230 fM230
            exfalso; (clear fM230 hM230 u215b u215y u215z h207 fM204 hM204 h205 ih201 u122z hM121 eM121 ua119 la119 ea119 hM118 eM118 ua116 la116 ea116 hM115 eM115 ua113 la113 ea113 hM112 eM112 ua110 la110 ea110 hM109 eM109 ua107 la107 ea107 hM106 eM106 ua104 la104 ea104 hM103 eM103 ua101 la101 hret C hq6_1 hq6_0 hpr hM0; omega)
          | succ n226 ih227 =>
            intro a229 M230 h231 hM230 fM230
            have u232b := hM0.rd (i := 61) (c := 6) (k := 6) rfl (show s_b 6 6 = (0, 900) from rfl)
            refine j_iload_n C 2 2 dX7_copyFrom_108 rfl rfl ?_
            refine j_aload_n C 0 0 dX7_copyFrom_109 rfl rfl ?_
            refine y_getI C 6 _ _ fX7_copyFrom_31 rfl rfl ft_6_6 sb_6_6 hM230 dX7_copyFrom_110 (fun a233 ea233 la233 ua233 => ?_)
            obtain rfl : a233 = (M230.1 2 6).toInt := ea233
            refine y_icmp_ge C 143 dX7_copyFrom_113 (by decide) (by (clear ua233 la233 u232b fM230 hM230 ih227 u215b u215y u215z h207 fM204 hM204 ih201 u122z hM121 eM121 ua119 la119 ea119 hM118 eM118 ua116 la116 ea116 hM115 eM115 ua113 la113 ea113 hM112 eM112 ua110 la110 ea110 hM109 eM109 hM106 eM106 ua104 la104 ea104 hM103 eM103 ua101 la101 hret C hq6_1 hq6_0 hpr hM0; omega)) (fun h235 => ?_) (fun h235 => ?_)
            · have u240f := pcf_i (N := M230) (M := M0) (d := 2) (s := 61) (by exact h231.2.2.1) (by exact h231.2.2.2.1) (by exact h231.2.2.2.2.1) (by exact h231.2.2.2.2.2.1) (by exact h231.2.2.2.2.2.2.1) (by exact h231.2.2.2.2.2.2.2.1) (by exact h231.2.2.2.2.2.2.2.2.1)
              have u240k := pcp_i (n := a229) u240f (by exact h231.2.2.2.2.2.2.2.2.2.1) (by exact h231.2.2.2.2.2.2.2.2.2.2.1) (by (clear u240f ua233 la233 u232b fM230 hM230 ih227 u215b u215y u215z h207 fM204 hM204 ih201 u122z hM121 eM121 ua119 la119 ea119 hM118 eM118 ua116 la116 ea116 hM115 eM115 ua113 la113 ea113 hM112 eM112 ua110 la110 ea110 hM109 eM109 ua107 la107 hM106 eM106 ua104 la104 ea104 hM103 eM103 ua101 la101 hret C hq6_1 hq6_0 hpr hM0; omega))
              exact hret _ _ _ dX7_copyFrom_143 ⟨hM230, (FX.rf.tr fM230 (by decide)), by exact u240k⟩
            · refine j_iload_n C 2 2 dX7_copyFrom_116 rfl rfl ?_
              refine j_aload_n C 0 0 dX7_copyFrom_117 rfl rfl ?_
              refine y_getC C 6 6 fX7_copyFrom_28 rfl rfl ft_6_5 sm_6_5 rfl hM230 dX7_copyFrom_118 ?_
              refine y_alen C 24 900 rfl rfl rfl an_24 rfl rfl dX7_copyFrom_121 ?_
              refine y_icmp_ge C 143 dX7_copyFrom_122 (by decide) (by exact ⟨⟨(by (clear h235 ua233 la233 u232b fM230 hM230 ih227 u215b u215y u215z h207 fM204 hM204 h205 ih201 u122z hM121 eM121 ua119 la119 ea119 hM118 eM118 ua116 la116 ea116 hM115 eM115 ua113 la113 ea113 hM112 eM112 ua110 la110 ea110 hM109 eM109 ua107 la107 ea107 hM106 eM106 ua104 la104 ea104 hM103 eM103 ua101 la101 hret C hq6_1 hq6_0 hpr hM0; omega)), (by (clear h235 ua233 la233 u232b fM230 hM230 ih227 u215b u215y u215z h207 fM204 hM204 h205 ih201 u122z hM121 eM121 ua119 la119 ea119 hM118 eM118 ua116 la116 ea116 hM115 eM115 ua113 la113 ea113 hM112 eM112 ua110 la110 ea110 hM109 eM109 ua107 la107 ea107 hM106 eM106 ua104 la104 ea104 hM103 eM103 ua101 la101 hret C hq6_1 hq6_0 hpr hM0; omega))⟩, ⟨(by decide), (by decide)⟩⟩) (fun h236 => ?_) (fun h236 => ?_)
              · exfalso; (clear ua233 la233 u232b fM230 hM230 ih227 u215b u215y u215z h207 fM204 hM204 ih201 u122z hM121 eM121 ua119 la119 ea119 hM118 eM118 ua116 la116 ea116 hM115 eM115 ua113 la113 ea113 hM112 eM112 ua110 la110 ea110 hM109 eM109 hM106 eM106 ua104 la104 ea104 hM103 eM103 ua101 la101 hret C hq6_1 hq6_0 hpr hM0; omega)
              · refine j_aload_n C 0 0 dX7_copyFrom_125 rfl rfl ?_
                refine y_getC C 6 6 fX7_copyFrom_28 rfl rfl ft_6_5 sm_6_5 rfl hM230 dX7_copyFrom_126 ?_
                refine j_iload_n C 2 2 dX7_copyFrom_129 rfl rfl ?_
                refine j_aload_n C 1 1 dX7_copyFrom_130 rfl rfl ?_
                refine y_getC C 6 65 fX7_copyFrom_28 rfl rfl ft_6_5 sm_6_5 rfl hM230 dX7_copyFrom_131 ?_
                refine j_iload_n C 2 2 dX7_copyFrom_134 rfl rfl ?_
                refine y_iald C 24 900 _ _ rfl rfl rfl ak_24 an_24 rfl (sb_24 _) hM230 dX7_copyFrom_135 (by exact ⟨h231.1, (by (clear h235 ua233 la233 u232b fM230 hM230 ih227 u215b u215y u215z h207 fM204 hM204 h205 ih201 u122z hM121 eM121 ua119 la119 ea119 hM118 eM118 ua116 la116 ea116 hM115 eM115 ua113 la113 ea113 hM112 eM112 ua110 la110 ea110 hM109 eM109 ua107 la107 ea107 hM106 eM106 ua104 la104 ea104 hM103 eM103 ua101 la101 hret C hq6_1 hq6_0 hpr hM0; omega))⟩) (fun a237 ea237 la237 ua237 => ?_)
                obtain rfl : a237 = (M0.1 65 (a229).toNat).toInt := s_fX fM230 (by decide) (ea237)
                refine y_iastF C 24 900 rfl rfl rfl ak_24 an_24 rfl (sb_24 _) hM230 (PX.w hpr rfl rfl) dX7_copyFrom_136 (by exact ⟨h231.1, (by omega)⟩) (fun M238 eM238 hM238 => ?_)
                refine y_iinc C 2 [(2, .int (sI (a229 + 1))), (0, .ref (ad 2)), (1, .ref (ad 61))] dX7_copyFrom_137 rfl (by decide) rfl ?_
                refine j_goto C 108 dX7_copyFrom_140 (by decide) ?_
                have u239s := pcc_s (A := M230) (B := M238) (M := M0) (d := 2) (s := 61) (n := a229) (n' := (a229 + 1)) (by exact h231.2.2.2.2.2.2.2.2.2.2.1) (by (clear hM238 eM238 ua237 la237 ea237 h235 ua233 la233 u232b fM230 hM230 ih227 u215b u215y u215z h207 fM204 hM204 h205 ih201 u122z hM121 eM121 ua119 la119 ea119 hM118 eM118 ua116 la116 ea116 hM115 eM115 ua113 la113 ea113 hM112 eM112 ua110 la110 ea110 hM109 eM109 ua107 la107 ea107 hM106 eM106 ua104 la104 ea104 hM103 eM103 ua101 la101 hret C hq6_1 hq6_0 hpr hM0; omega)) eM238
                have u239y := pca_c (A := M230) (B := M238) (M := M0) (d := 2) (s := 61) (n := 6) (n' := 6) (by exact h231.2.2.2.2.2.2.2.2.2.1) (by exact (by decide)) ⟨wI_cell eM238 (by decide), wI_cell eM238 (by decide), wI_cell eM238 (by decide)⟩
                have zz2_9 : (M238.1 2 9).toInt = (M230.1 2 9).toInt := s_fa eM238 (by decide) (rfl); have zz2_8 : (M238.1 2 8).toInt = (M230.1 2 8).toInt := s_fa eM238 (by decide) (rfl); have zz2_7 : (M238.1 2 7).toInt = (M230.1 2 7).toInt := s_fa eM238 (by decide) (rfl); have zz2_6 : (M238.1 2 6).toInt = (M230.1 2 6).toInt := s_fa eM238 (by decide) (rfl); have zz2_10 : (M238.1 2 10).toInt = (M230.1 2 10).toInt := s_fa eM238 (by decide) (rfl); have zz2_1 : (M238.1 2 1).toInt = (M230.1 2 1).toInt := s_fa eM238 (by decide) (rfl); have zz2_0 : (M238.1 2 0).toInt = (M230.1 2 0).toInt := s_fa eM238 (by decide) (rfl); refine j_lv [1, 2, 0] rfl ?_; exact ih227 (a229 + 1) M238 (by (clear hM238 eM238 ua237 la237 ea237 ua233 la233 u232b fM230 hM230 ih227 u215b u215y u215z h207 fM204 hM204 ih201 u122z hM121 eM121 ua119 la119 hM118 eM118 ua116 la116 hM115 eM115 ua113 la113 hM112 eM112 ua110 la110 hM109 eM109 ua107 la107 hM106 eM106 ua104 la104 hM103 eM103 ua101 la101 hret C hq6_1 hq6_0 hpr hM0; omega)) hM238 ((FX.rf.tr fM230 (by decide)).wI eM238 (by decide))
        refine j_lv [1, 2, 0] rfl ?_; exact L228 2010 0 M204 (by exact ⟨(by decide), ⟨(by decide), ⟨h205.2.2.1, ⟨h205.2.2.2.1, ⟨h205.2.2.2.2.1, ⟨h205.2.2.2.2.2.1, ⟨h205.2.2.2.2.2.2.1, ⟨h205.2.2.2.2.2.2.2.1, ⟨h205.2.2.2.2.2.2.2.2.1, ⟨u215y, ⟨u215z, ⟨la107, (by decide)⟩⟩⟩⟩⟩⟩⟩⟩⟩⟩⟩⟩) hM204 (FX.rf.tr fM204 (by decide))
      · refine j_aload_n C 0 0 dX7_copyFrom_64 rfl rfl ?_
        refine y_getC C 6 3 fX7_copyFrom_18 rfl rfl ft_6_2 sm_6_2 rfl hM204 dX7_copyFrom_65 ?_
        refine j_iload_n C 2 2 dX7_copyFrom_68 rfl rfl ?_
        refine j_aload_n C 1 1 dX7_copyFrom_69 rfl rfl ?_
        refine y_getC C 6 62 fX7_copyFrom_18 rfl rfl ft_6_2 sm_6_2 rfl hM204 dX7_copyFrom_70 ?_
        refine j_iload_n C 2 2 dX7_copyFrom_73 rfl rfl ?_
        refine y_iald C 21 6 _ _ rfl rfl rfl ak_21 an_21 rfl (sb_21 _) hM204 dX7_copyFrom_74 (by exact ⟨h205.1, (by (clear fM204 hM204 ih201 u122z hM121 eM121 ua119 la119 ea119 hM118 eM118 ua116 la116 ea116 hM115 eM115 ua113 la113 ea113 hM112 eM112 ua110 la110 ea110 hM109 eM109 ua107 la107 ea107 hM106 eM106 ua104 la104 ea104 hM103 eM103 ua101 la101 hret C hq6_1 hq6_0 hpr hM0; omega))⟩) (fun a208 ea208 la208 ua208 => ?_)
        obtain rfl : a208 = (M0.1 62 (a203).toNat).toInt := s_fX fM204 (by decide) (ea208)
        refine y_iastF C 21 6 rfl rfl rfl ak_21 an_21 rfl (sb_21 _) hM204 (PX.w hpr rfl rfl) dX7_copyFrom_75 (by exact ⟨h205.1, (by omega)⟩) (fun M209 eM209 hM209 => ?_)
        refine j_aload_n C 0 0 dX7_copyFrom_76 rfl rfl ?_
        refine y_getC C 6 4 fX7_copyFrom_22 rfl rfl ft_6_3 sm_6_3 rfl hM209 dX7_copyFrom_77 ?_
        refine j_iload_n C 2 2 dX7_copyFrom_80 rfl rfl ?_
        refine j_aload_n C 1 1 dX7_copyFrom_81 rfl rfl ?_
        refine y_getC C 6 63 fX7_copyFrom_22 rfl rfl ft_6_3 sm_6_3 rfl hM209 dX7_copyFrom_82 ?_
        refine j_iload_n C 2 2 dX7_copyFrom_85 rfl rfl ?_
        refine y_iald C 22 6 _ _ rfl rfl rfl ak_22 an_22 rfl (sb_22 _) hM209 dX7_copyFrom_86 (by exact ⟨h205.1, (by omega)⟩) (fun a210 ea210 la210 ua210 => ?_)
        obtain rfl : a210 = (M0.1 63 (a203).toNat).toInt := s_fX fM204 (by decide) (s_fa eM209 (by decide) (ea210))
        refine y_iastF C 22 6 rfl rfl rfl ak_22 an_22 rfl (sb_22 _) hM209 (PX.w hpr rfl rfl) dX7_copyFrom_87 (by exact ⟨h205.1, (by (clear ua210 la210 ea210 hM209 eM209 ua208 la208 ea208 fM204 hM204 ih201 u122z hM121 eM121 ua119 la119 ea119 hM118 eM118 ua116 la116 ea116 hM115 eM115 ua113 la113 ea113 hM112 eM112 ua110 la110 ea110 hM109 eM109 ua107 la107 ea107 hM106 eM106 ua104 la104 ea104 hM103 eM103 ua101 la101 hret C hq6_1 hq6_0 hpr hM0; omega))⟩) (fun M211 eM211 hM211 => ?_)
        refine j_aload_n C 0 0 dX7_copyFrom_88 rfl rfl ?_
        refine y_getC C 6 5 fX7_copyFrom_25 rfl rfl ft_6_4 sm_6_4 rfl hM211 dX7_copyFrom_89 ?_
        refine j_iload_n C 2 2 dX7_copyFrom_92 rfl rfl ?_
        refine j_aload_n C 1 1 dX7_copyFrom_93 rfl rfl ?_
        refine y_getC C 6 64 fX7_copyFrom_25 rfl rfl ft_6_4 sm_6_4 rfl hM211 dX7_copyFrom_94 ?_
        refine j_iload_n C 2 2 dX7_copyFrom_97 rfl rfl ?_
        refine y_iald C 23 6 _ _ rfl rfl rfl ak_23 an_23 rfl (sb_23 _) hM211 dX7_copyFrom_98 (by exact ⟨h205.1, (by omega)⟩) (fun a212 ea212 la212 ua212 => ?_)
        obtain rfl : a212 = (M0.1 64 (a203).toNat).toInt := s_fX fM204 (by decide) (s_fa eM209 (by decide) (s_fa eM211 (by decide) (ea212)))
        refine y_iastF C 23 6 rfl rfl rfl ak_23 an_23 rfl (sb_23 _) hM211 (PX.w hpr rfl rfl) dX7_copyFrom_99 (by exact ⟨h205.1, (by (clear ua212 la212 ea212 hM211 eM211 ua210 la210 ea210 hM209 eM209 ua208 la208 ea208 fM204 hM204 ih201 u122z hM121 eM121 ua119 la119 ea119 hM118 eM118 ua116 la116 ea116 hM115 eM115 ua113 la113 ea113 hM112 eM112 ua110 la110 ea110 hM109 eM109 ua107 la107 ea107 hM106 eM106 ua104 la104 ea104 hM103 eM103 ua101 la101 hret C hq6_1 hq6_0 hpr hM0; omega))⟩) (fun M213 eM213 hM213 => ?_)
        refine y_iinc C 2 [(2, .int (sI (a203 + 1))), (0, .ref (ad 2)), (1, .ref (ad 61))] dX7_copyFrom_100 rfl (by decide) rfl ?_
        refine j_goto C 58 dX7_copyFrom_103 (by decide) ?_
        have u214s := pca_s (A := M204) (B := M209) (C := M211) (D := M213) (M := M0) (d := 2) (s := 61) (n := a203) (n' := (a203 + 1)) (by exact h205.2.2.2.2.2.2.2.2.2.1) (by (clear hM213 eM213 ua212 la212 ea212 hM211 eM211 ua210 la210 ea210 hM209 eM209 ua208 la208 ea208 fM204 hM204 ih201 u122z hM121 eM121 ua119 la119 ea119 hM118 eM118 ua116 la116 ea116 hM115 eM115 ua113 la113 ea113 hM112 eM112 ua110 la110 ea110 hM109 eM109 ua107 la107 ea107 hM106 eM106 ua104 la104 ea104 hM103 eM103 ua101 la101 hret C hq6_1 hq6_0 hpr hM0; omega)) eM209 eM211 eM213 (by decide)
        have zz2_9 : (M213.1 2 9).toInt = (M204.1 2 9).toInt := s_fa eM209 (by decide) (s_fa eM211 (by decide) (s_fa eM213 (by decide) (rfl))); have zz2_8 : (M213.1 2 8).toInt = (M204.1 2 8).toInt := s_fa eM209 (by decide) (s_fa eM211 (by decide) (s_fa eM213 (by decide) (rfl))); have zz2_7 : (M213.1 2 7).toInt = (M204.1 2 7).toInt := s_fa eM209 (by decide) (s_fa eM211 (by decide) (s_fa eM213 (by decide) (rfl))); have zz2_6 : (M213.1 2 6).toInt = (M204.1 2 6).toInt := s_fa eM209 (by decide) (s_fa eM211 (by decide) (s_fa eM213 (by decide) (rfl))); have zz2_10 : (M213.1 2 10).toInt = (M204.1 2 10).toInt := s_fa eM209 (by decide) (s_fa eM211 (by decide) (s_fa eM213 (by decide) (rfl))); have zz2_1 : (M213.1 2 1).toInt = (M204.1 2 1).toInt := s_fa eM209 (by decide) (s_fa eM211 (by decide) (s_fa eM213 (by decide) (rfl))); have zz2_0 : (M213.1 2 0).toInt = (M204.1 2 0).toInt := s_fa eM209 (by decide) (s_fa eM211 (by decide) (s_fa eM213 (by decide) (rfl))); refine j_lv [1, 2, 0] rfl ?_; exact ih201 (a203 + 1) M213 (by (clear hM213 eM213 ua212 la212 ea212 hM211 eM211 ua210 la210 ea210 hM209 eM209 ua208 la208 ea208 fM204 hM204 ih201 u122z hM121 eM121 ua119 la119 hM118 eM118 ua116 la116 hM115 eM115 ua113 la113 hM112 eM112 ua110 la110 hM109 eM109 ua107 la107 hM106 eM106 ua104 la104 hM103 eM103 ua101 la101 hret C hq6_1 hq6_0 hpr hM0; omega)) hM213 ((((FX.rf.tr fM204 (by decide)).wI eM209 (by decide)).wI eM211 (by decide)).wI eM213 (by decide))
  have zz2_9 := (Eq.trans (s_fb eM121 (by decide) (rfl) : (M121.1 2 9).toInt = (M118.1 2 9).toInt) (s_wr eM118 (by (clear L202 u122z hM121 eM121 ua119 la119 ea119 hM118 eM118 hM115 eM115 ua113 la113 ea113 hM112 eM112 ua110 la110 ea110 hM109 eM109 ua107 la107 ea107 hM106 eM106 ua104 la104 ea104 hM103 eM103 ua101 la101 hret C hq6_1 hq6_0 hpr hM0; omega)))); have zz2_8 := (Eq.trans (s_fb eM118 (by decide) (s_fb eM121 (by decide) (rfl)) : (M121.1 2 8).toInt = (M115.1 2 8).toInt) (s_wr eM115 (by (clear zz2_9 L202 u122z hM121 eM121 ua119 la119 ea119 hM118 eM118 ua116 la116 ea116 hM115 eM115 hM112 eM112 ua110 la110 ea110 hM109 eM109 ua107 la107 ea107 hM106 eM106 ua104 la104 ea104 hM103 eM103 ua101 la101 hret C hq6_1 hq6_0 hpr hM0; omega)))); have zz2_7 := (Eq.trans (s_fb eM115 (by decide) (s_fb eM118 (by decide) (s_fb eM121 (by decide) (rfl))) : (M121.1 2 7).toInt = (M112.1 2 7).toInt) (s_wr eM112 (by (clear zz2_8 zz2_9 L202 u122z hM121 eM121 ua119 la119 ea119 hM118 eM118 ua116 la116 ea116 hM115 eM115 ua113 la113 ea113 hM112 eM112 hM109 eM109 ua107 la107 ea107 hM106 eM106 ua104 la104 ea104 hM103 eM103 ua101 la101 hret C hq6_1 hq6_0 hpr hM0; omega)))); have zz2_6 := (Eq.trans (s_fb eM112 (by decide) (s_fb eM115 (by decide) (s_fb eM118 (by decide) (s_fb eM121 (by decide) (rfl)))) : (M121.1 2 6).toInt = (M109.1 2 6).toInt) (s_wr eM109 (by (clear zz2_7 zz2_8 zz2_9 L202 u122z hM121 eM121 ua119 la119 ea119 hM118 eM118 ua116 la116 ea116 hM115 eM115 ua113 la113 ea113 hM112 eM112 ua110 la110 ea110 hM109 eM109 hM106 eM106 ua104 la104 ea104 hM103 eM103 ua101 la101 hret C hq6_1 hq6_0 hpr hM0; omega)))); have zz2_10 := (Eq.trans (rfl : (M121.1 2 10).toInt = (M121.1 2 10).toInt) (s_wr eM121 (by (clear zz2_6 zz2_7 zz2_8 zz2_9 L202 u122z hM121 eM121 hM118 eM118 ua116 la116 ea116 hM115 eM115 ua113 la113 ea113 hM112 eM112 ua110 la110 ea110 hM109 eM109 ua107 la107 ea107 hM106 eM106 ua104 la104 ea104 hM103 eM103 ua101 la101 hret C hq6_1 hq6_0 hpr hM0; omega)))); have zz2_1 := (Eq.trans (s_fb eM109 (by decide) (s_fb eM112 (by decide) (s_fb eM115 (by decide) (s_fb eM118 (by decide) (s_fb eM121 (by decide) (rfl))))) : (M121.1 2 1).toInt = (M106.1 2 1).toInt) (s_wr eM106 (by exact ⟨la104, ua104⟩))); have zz2_0 := (Eq.trans (s_fb eM106 (by decide) (s_fb eM109 (by decide) (s_fb eM112 (by decide) (s_fb eM115 (by decide) (s_fb eM118 (by decide) (s_fb eM121 (by decide) (rfl)))))) : (M121.1 2 0).toInt = (M103.1 2 0).toInt) (s_wr eM103 (by omega))); refine j_lv [1, 2, 0] rfl ?_; exact L202 2010 0 M121 (by exact ⟨(by decide), ⟨(by decide), ⟨zz2_0, ⟨zz2_1, ⟨zz2_6, ⟨zz2_7, ⟨zz2_8, ⟨zz2_9, ⟨zz2_10, ⟨u122z, (by decide)⟩⟩⟩⟩⟩⟩⟩⟩⟩⟩) hM121 (((((((FX.rf.wI eM103 (by decide)).wI eM106 (by decide)).wI eM109 (by decide)).wI eM112 (by decide)).wI eM115 (by decide)).wI eM118 (by decide)).wI eM121 (by decide))
set_option maxHeartbeats 4000000 in
theorem s36_X9_copyFrom {l : Launch} {dC : Nat → ClassId} {dI : Nat → Nat → Nat} {ad : Nat → Nat} {cA : Nat → ClassId} {pr : Nat → Nat → Bool} {Kz : mm_M} {M0 : mm_M} (hM0 : INV pr Kz M0) (hpr : PX pr) (hq8_0 : ∀ i, s_c i = 8 → pr i 0 = false)  : Cv l 0 yX9_copyFrom wsX9_copyFrom dC dI ad cA [.ref (ad 12), .ref (ad 66)] M0 (fun M' => INV pr Kz M' ∧ FX [12, 13, 14] M0 M' ∧ (b01 (skX M' 12 = skX M0 66) = 1)) := by
  refine cv_of (cc := cX9_copyFrom) (maxL := 3) (lv := [(0, .ref (ad 12)), (1, .ref (ad 66))]) (by decide) rfl (Nat.le_of_ble_eq_true rfl) rfl ?_
  intro p e s m args below meth c A Q C hret
  refine j_aload_n C 0 0 dX9_copyFrom_0 rfl rfl ?_
  refine j_aload_n C 1 1 dX9_copyFrom_1 rfl rfl ?_
  refine y_getI C 8 _ _ fX9_copyFrom_9 rfl rfl ft_8_0 sb_8_0 hM0 dX9_copyFrom_2 (fun a101 ea101 la101 ua101 => ?_)
  obtain rfl : a101 = (M0.1 66 0).toInt := ea101
  refine y_putI C 8 _ _ qX9_copyFrom_9 rfl rfl ft_8_0 sb_8_0 hM0 (hq8_0 _ rfl) dX9_copyFrom_5 (by exact ⟨⟨(by omega), (by omega)⟩, ⟨la101, ua101⟩⟩) (fun M103 eM103 hM103 => ?_)
  refine y_iconst C dX9_copyFrom_8 ?_
  refine j_istore_n C 2 [(2, .int (sI 0)), (0, .ref (ad 12)), (1, .ref (ad 66))] dX9_copyFrom_9 rfl (by decide) rfl ?_
  have u104z := cpa_0 M103 M0 13 67 14 68
  have L188 : ∀ (n186 : Nat), ∀ (a189 : Int) (M190 : mm_M), (0 ≤ a189 ∧ a189 ≤ 8 ∧ ((M190.1 12 0).toInt = (M0.1 66 0).toInt) ∧ (b01 (CPA M190 M0 13 67 14 68 a189) = 1) ∧ (8 - a189) < (n186 : Int)) → INV pr Kz M190 → FX [12, 13, 14] M0 M190 → jj p l e (cn_R 0) s m args below meth c 0 0 Q 3 dC dI ad cA A M190 10 [(0, .ref (ad 12)), (1, .ref (ad 66)), (2, .int (sI a189))] [] := by
    intro n186
    induction n186 with
    | zero =>
      intro a189 M190 h191 hM190 fM190
      exfalso; omega
    | succ n186 ih187 =>
      intro a189 M190 h191 hM190 fM190
      refine j_iload_n C 2 2 dX9_copyFrom_10 rfl rfl ?_
      refine y_bipush C dX9_copyFrom_11 rfl ?_
      refine y_icmp_ge C 46 dX9_copyFrom_13 (by decide) (by exact ⟨⟨(by (clear fM190 hM190 ih187 u104z hM103 eM103 ua101 la101 hret C hq8_0 hpr hM0; omega)), (by (clear fM190 hM190 ih187 u104z hM103 eM103 ua101 la101 hret C hq8_0 hpr hM0; omega))⟩, ⟨(by decide), (by decide)⟩⟩) (fun h193 => ?_) (fun h193 => ?_)
      · refine j_aload_n C 0 0 dX9_copyFrom_46 rfl rfl ?_
        refine j_aload_n C 1 1 dX9_copyFrom_47 rfl rfl ?_
        refine y_getI C 8 _ _ fX9_copyFrom_22 rfl rfl ft_8_3 sb_8_3 hM190 dX9_copyFrom_48 (fun a199 ea199 la199 ua199 => ?_)
        obtain rfl : a199 = (M0.1 66 3).toInt := s_fX fM190 (by decide) (ea199)
        refine y_putI C 8 _ _ qX9_copyFrom_22 rfl rfl ft_8_3 sb_8_3 hM190 (PX.w hpr rfl rfl) dX9_copyFrom_51 (by exact ⟨⟨(by (clear h193 fM190 hM190 h191 ih187 u104z hM103 eM103 ua101 la101 hret C hq8_0 hpr hM0; omega)), (by (clear h193 fM190 hM190 h191 ih187 u104z hM103 eM103 ua101 la101 hret C hq8_0 hpr hM0; omega))⟩, ⟨la199, ua199⟩⟩) (fun M201 eM201 hM201 => ?_)
        refine j_aload_n C 0 0 dX9_copyFrom_54 rfl rfl ?_
        refine j_aload_n C 1 1 dX9_copyFrom_55 rfl rfl ?_
        refine y_getI C 8 _ _ fX9_copyFrom_25 rfl rfl ft_8_4 sb_8_4 hM201 dX9_copyFrom_56 (fun a202 ea202 la202 ua202 => ?_)
        obtain rfl : a202 = (M0.1 66 4).toInt := s_fX fM190 (by decide) (s_fa eM201 (by decide) (ea202))
        refine y_putI C 8 _ _ qX9_copyFrom_25 rfl rfl ft_8_4 sb_8_4 hM201 (PX.w hpr rfl rfl) dX9_copyFrom_59 (by exact ⟨⟨(by (clear hM201 eM201 ua199 la199 ea199 h193 fM190 hM190 h191 ih187 u104z hM103 eM103 ua101 la101 hret C hq8_0 hpr hM0; omega)), (by (clear hM201 eM201 ua199 la199 ea199 h193 fM190 hM190 h191 ih187 u104z hM103 eM103 ua101 la101 hret C hq8_0 hpr hM0; omega))⟩, ⟨la202, ua202⟩⟩) (fun M204 eM204 hM204 => ?_)
        refine j_aload_n C 0 0 dX9_copyFrom_62 rfl rfl ?_
        refine j_aload_n C 1 1 dX9_copyFrom_63 rfl rfl ?_
        refine y_getI C 8 _ _ fX9_copyFrom_28 rfl rfl ft_8_5 sb_8_5 hM204 dX9_copyFrom_64 (fun a205 ea205 la205 ua205 => ?_)
        obtain rfl : a205 = (M0.1 66 5).toInt := s_fX fM190 (by decide) (s_fa eM201 (by decide) (s_fa eM204 (by decide) (ea205)))
        refine y_putIF C 8 qX9_copyFrom_28 rfl rfl ft_8_5 sb_8_5 hM204 (PX.w hpr rfl rfl) dX9_copyFrom_67 (fun M207 eM207 hM207 => ?_)
        refine j_aload_n C 0 0 dX9_copyFrom_70 rfl rfl ?_
        refine j_aload_n C 1 1 dX9_copyFrom_71 rfl rfl ?_
        refine y_getI C 8 _ _ fX9_copyFrom_31 rfl rfl ft_8_6 sb_8_6 hM207 dX9_copyFrom_72 (fun a208 ea208 la208 ua208 => ?_)
        obtain rfl : a208 = (M0.1 66 6).toInt := s_fX fM190 (by decide) (s_fa eM201 (by decide) (s_fa eM204 (by decide) (s_fa eM207 (by decide) (ea208))))
        refine y_putIF C 8 qX9_copyFrom_31 rfl rfl ft_8_6 sb_8_6 hM207 (PX.w hpr rfl rfl) dX9_copyFrom_75 (fun M210 eM210 hM210 => ?_)
        refine j_aload_n C 0 0 dX9_copyFrom_78 rfl rfl ?_
        refine j_aload_n C 1 1 dX9_copyFrom_79 rfl rfl ?_
        refine y_getI C 8 _ _ fX9_copyFrom_34 rfl rfl ft_8_7 sb_8_7 hM210 dX9_copyFrom_80 (fun a211 ea211 la211 ua211 => ?_)
        obtain rfl : a211 = (M0.1 66 7).toInt := s_fX fM190 (by decide) (s_fa eM201 (by decide) (s_fa eM204 (by decide) (s_fa eM207 (by decide) (s_fa eM210 (by decide) (ea211)))))
        refine y_putIF C 8 qX9_copyFrom_34 rfl rfl ft_8_7 sb_8_7 hM210 (PX.w hpr rfl rfl) dX9_copyFrom_83 (fun M213 eM213 hM213 => ?_)
        refine j_aload_n C 0 0 dX9_copyFrom_86 rfl rfl ?_
        refine j_aload_n C 1 1 dX9_copyFrom_87 rfl rfl ?_
        refine y_getI C 8 _ _ fX9_copyFrom_37 rfl rfl ft_8_8 sb_8_8 hM213 dX9_copyFrom_88 (fun a214 ea214 la214 ua214 => ?_)
        obtain rfl : a214 = (M0.1 66 8).toInt := s_fX fM190 (by decide) (s_fa eM201 (by decide) (s_fa eM204 (by decide) (s_fa eM207 (by decide) (s_fa eM210 (by decide) (s_fa eM213 (by decide) (ea214))))))
        refine y_putIF C 8 qX9_copyFrom_37 rfl rfl ft_8_8 sb_8_8 hM213 (PX.w hpr rfl rfl) dX9_copyFrom_91 (fun M216 eM216 hM216 => ?_)
        have u217c := cpa_c (M := M190) (M' := M216) (B := M0) (p0 := 13) (p1 := 67) (g0 := 14) (g1 := 68) (n := a189) (n' := 8) (by exact h191.2.2.2.1) ((((((wI_cell eM216 (by decide)).trans (wI_cell eM213 (by decide))).trans (wI_cell eM210 (by decide))).trans (wI_cell eM207 (by decide))).trans (wI_cell eM204 (by decide))).trans (wI_cell eM201 (by decide))) ((((((wI_cell eM216 (by decide)).trans (wI_cell eM213 (by decide))).trans (wI_cell eM210 (by decide))).trans (wI_cell eM207 (by decide))).trans (wI_cell eM204 (by decide))).trans (wI_cell eM201 (by decide))) (by omega)
        have zz12_0 : (M216.1 12 0).toInt = (M190.1 12 0).toInt := s_fb eM201 (by decide) (s_fb eM204 (by decide) (s_fb eM207 (by decide) (s_fb eM210 (by decide) (s_fb eM213 (by decide) (s_fb eM216 (by decide) (rfl))))))
        have zz12_3 := (Eq.trans (s_fb eM204 (by decide) (s_fb eM207 (by decide) (s_fb eM210 (by decide) (s_fb eM213 (by decide) (s_fb eM216 (by decide) (rfl))))) : (M216.1 12 3).toInt = (M201.1 12 3).toInt) (s_wr eM201 (by (clear zz12_0 u217c hM216 eM216 ua214 la214 ea214 hM213 eM213 ua211 la211 ea211 hM210 eM210 ua208 la208 ea208 hM207 eM207 ua205 la205 ea205 hM204 eM204 ua202 la202 ea202 hM201 eM201 h193 fM190 hM190 h191 ih187 u104z hM103 eM103 ua101 la101 hret C hq8_0 hpr hM0; omega))))
        have zz12_4 := (Eq.trans (s_fb eM207 (by decide) (s_fb eM210 (by decide) (s_fb eM213 (by decide) (s_fb eM216 (by decide) (rfl)))) : (M216.1 12 4).toInt = (M204.1 12 4).toInt) (s_wr eM204 (by (clear zz12_3 zz12_0 u217c hM216 eM216 ua214 la214 ea214 hM213 eM213 ua211 la211 ea211 hM210 eM210 ua208 la208 ea208 hM207 eM207 ua205 la205 ea205 hM204 eM204 hM201 eM201 ua199 la199 ea199 h193 fM190 hM190 h191 ih187 u104z hM103 eM103 ua101 la101 hret C hq8_0 hpr hM0; omega))))
        have zz12_5 := (Eq.trans (s_fb eM210 (by decide) (s_fb eM213 (by decide) (s_fb eM216 (by decide) (rfl))) : (M216.1 12 5).toInt = (M207.1 12 5).toInt) (s_wr eM207 (by exact ⟨la205, ua205⟩)))
        have zz12_6 := (Eq.trans (s_fb eM213 (by decide) (s_fb eM216 (by decide) (rfl)) : (M216.1 12 6).toInt = (M210.1 12 6).toInt) (s_wr eM210 (by exact ⟨la208, ua208⟩)))
        have zz12_7 := (Eq.trans (s_fb eM216 (by decide) (rfl) : (M216.1 12 7).toInt = (M213.1 12 7).toInt) (s_wr eM213 (by exact ⟨la211, ua211⟩)))
        have zz12_8 := (Eq.trans (rfl : (M216.1 12 8).toInt = (M216.1 12 8).toInt) (s_wr eM216 (by exact ⟨la214, ua214⟩)))
        have u217k := copy_k (M := M0) (N := M216) (d := 12) (s := 66) (p := 0) (by (clear zz12_8 zz12_7 zz12_6 zz12_5 zz12_4 zz12_3 u217c hM216 eM216 ua214 la214 ea214 hM213 eM213 ua211 la211 ea211 hM210 eM210 ua208 la208 ea208 hM207 eM207 ua205 la205 ea205 hM204 eM204 ua202 la202 ea202 hM201 eM201 ua199 la199 ea199 h193 fM190 hM190 ih187 u104z hM103 eM103 ua101 la101 hret C hq8_0 hpr hM0; omega)) (by exact zz12_3) (by exact zz12_4) (by exact zz12_5) (by exact zz12_6) (by exact zz12_7) (by exact zz12_8) (show b01 (CPA M216 M0 13 67 14 68 8) = 1 from by exact u217c)
        exact hret _ _ _ dX9_copyFrom_94 ⟨hM216, (((((((FX.rf.tr fM190 (by decide)).wI eM201 (by decide)).wI eM204 (by decide)).wI eM207 (by decide)).wI eM210 (by decide)).wI eM213 (by decide)).wI eM216 (by decide)), by exact u217k⟩
      · refine j_aload_n C 0 0 dX9_copyFrom_16 rfl rfl ?_
        refine y_getC C 8 13 fX9_copyFrom_15 rfl rfl ft_8_1 sm_8_1 rfl hM190 dX9_copyFrom_17 ?_
        refine j_iload_n C 2 2 dX9_copyFrom_20 rfl rfl ?_
        refine j_aload_n C 1 1 dX9_copyFrom_21 rfl rfl ?_
        refine y_getC C 8 67 fX9_copyFrom_15 rfl rfl ft_8_1 sm_8_1 rfl hM190 dX9_copyFrom_22 ?_
        refine j_iload_n C 2 2 dX9_copyFrom_25 rfl rfl ?_
        refine y_iald C 25 8 _ _ rfl rfl rfl ak_25 an_25 rfl (sb_25 _) hM190 dX9_copyFrom_26 (by exact ⟨h191.1, (by omega)⟩) (fun a194 ea194 la194 ua194 => ?_)
        obtain rfl : a194 = (M0.1 67 (a189).toNat).toInt := s_fX fM190 (by decide) (ea194)
        refine y_iastF C 25 8 rfl rfl rfl ak_25 an_25 rfl (sb_25 _) hM190 (PX.w hpr rfl rfl) dX9_copyFrom_27 (by exact ⟨h191.1, (by omega)⟩) (fun M195 eM195 hM195 => ?_)
        refine j_aload_n C 0 0 dX9_copyFrom_28 rfl rfl ?_
        refine y_getC C 8 14 fX9_copyFrom_19 rfl rfl ft_8_2 sm_8_2 rfl hM195 dX9_copyFrom_29 ?_
        refine j_iload_n C 2 2 dX9_copyFrom_32 rfl rfl ?_
        refine j_aload_n C 1 1 dX9_copyFrom_33 rfl rfl ?_
        refine y_getC C 8 68 fX9_copyFrom_19 rfl rfl ft_8_2 sm_8_2 rfl hM195 dX9_copyFrom_34 ?_
        refine j_iload_n C 2 2 dX9_copyFrom_37 rfl rfl ?_
        refine y_iald C 26 8 _ _ rfl rfl rfl ak_26 an_26 rfl (sb_26 _) hM195 dX9_copyFrom_38 (by exact ⟨h191.1, (by omega)⟩) (fun a196 ea196 la196 ua196 => ?_)
        obtain rfl : a196 = (M0.1 68 (a189).toNat).toInt := s_fX fM190 (by decide) (s_fa eM195 (by decide) (ea196))
        refine y_iastF C 26 8 rfl rfl rfl ak_26 an_26 rfl (sb_26 _) hM195 (PX.w hpr rfl rfl) dX9_copyFrom_39 (by exact ⟨h191.1, (by omega)⟩) (fun M197 eM197 hM197 => ?_)
        refine y_iinc C 2 [(2, .int (sI (a189 + 1))), (0, .ref (ad 12)), (1, .ref (ad 66))] dX9_copyFrom_40 rfl (by decide) rfl ?_
        refine j_goto C 10 dX9_copyFrom_43 (by decide) ?_
        have u198s := cpa_s (B := M0) (p1 := 67) (g1 := 68) (n := a189) (n' := (a189 + 1)) (by exact h191.2.2.2.1) (by omega) eM195 eM197 (by decide)
        have zz12_0 : (M197.1 12 0).toInt = (M190.1 12 0).toInt := s_fa eM195 (by decide) (s_fa eM197 (by decide) (rfl)); refine j_lv [1, 2, 0] rfl ?_; exact ih187 (a189 + 1) M197 (by exact ⟨(by (clear hM197 eM197 ua196 la196 ea196 hM195 eM195 ua194 la194 ea194 fM190 hM190 ih187 u104z hM103 eM103 ua101 la101 hret C hq8_0 hpr hM0; omega)), ⟨(by (clear hM197 eM197 ua196 la196 ea196 hM195 eM195 ua194 la194 ea194 fM190 hM190 ih187 u104z hM103 eM103 ua101 la101 hret C hq8_0 hpr hM0; omega)), ⟨(by (clear hM197 eM197 ua196 la196 ea196 hM195 eM195 ua194 la194 ea194 fM190 hM190 ih187 u104z hM103 eM103 ua101 la101 hret C hq8_0 hpr hM0; omega)), ⟨u198s, (by (clear hM197 eM197 ua196 la196 ea196 hM195 eM195 ua194 la194 ea194 fM190 hM190 ih187 u104z hM103 eM103 ua101 la101 hret C hq8_0 hpr hM0; omega))⟩⟩⟩⟩) hM197 (((FX.rf.tr fM190 (by decide)).wI eM195 (by decide)).wI eM197 (by decide))
  have zz12_0 := (Eq.trans (rfl : (M103.1 12 0).toInt = (M103.1 12 0).toInt) (s_wr eM103 (by omega))); refine j_lv [1, 2, 0] rfl ?_; exact L188 2010 0 M103 (by exact ⟨(by decide), ⟨(by decide), ⟨zz12_0, ⟨u104z, (by decide)⟩⟩⟩⟩) hM103 (FX.rf.wI eM103 (by decide))
end
