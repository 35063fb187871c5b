set_option maxHeartbeats 4000000 in
theorem s16_X9_copyFrom {l : Launch} {dC : Nat → ClassId} {dI : Nat → Nat → Nat} {ad : Nat → Nat} {cA : Nat → ClassId} {pr : Nat → Nat → Bool} {Kz : mm_M} {M0 : mm_M} (hM0 : INV pr Kz M0) (hpr : PX pr) (hq8_0 : ∀ i, s_c i = 8 → pr i 0 = false)  : Cv l 0 yX9_copyFrom wsX9_copyFrom dC dI ad cA [.ref (ad 29), .ref (ad 12)] M0 (fun M' => INV pr Kz M' ∧ FX [29, 30, 31] M0 M' ∧ (b01 (skX M' 29 = skX M0 12) = 1)) := by
  refine cv_of (cc := cX9_copyFrom) (maxL := 3) (lv := [(0, .ref (ad 29)), (1, .ref (ad 12))]) (by decide) rfl (Nat.le_of_ble_eq_true rfl) rfl ?_
  intro p e s m args below meth c A Q C hret
  refine j_aload_n C 0 0 dX9_copyFrom_0 rfl rfl ?_
  refine j_aload_n C 1 1 dX9_copyFrom_1 rfl rfl ?_
  refine y_getI C 8 _ _ fX9_copyFrom_9 rfl rfl ft_8_0 sb_8_0 hM0 dX9_copyFrom_2 (fun a101 ea101 la101 ua101 => ?_)
  obtain rfl : a101 = (M0.1 12 0).toInt := ea101
  refine y_putI C 8 _ _ qX9_copyFrom_9 rfl rfl ft_8_0 sb_8_0 hM0 (hq8_0 _ rfl) dX9_copyFrom_5 (by omega) (fun M103 eM103 hM103 => ?_)
  refine y_iconst C dX9_copyFrom_8 ?_
  refine j_istore_n C 2 [(2, .int (sI 0)), (0, .ref (ad 29)), (1, .ref (ad 12))] dX9_copyFrom_9 rfl (by decide) rfl ?_
  have u104z := cpa_0 M103 M0 30 13 31 14
  have L188 : ∀ (n186 : Nat), ∀ (a189 : Int) (M190 : mm_M), (0 ≤ a189 ∧ a189 ≤ 8 ∧ ((M190.1 29 0).toInt = (M0.1 12 0).toInt) ∧ (b01 (CPA M190 M0 30 13 31 14 a189) = 1) ∧ (8 - a189) < (n186 : Int)) → INV pr Kz M190 → FX [29, 30, 31] M0 M190 → jj p l e (cn_R 0) s m args below meth c 0 0 Q 3 dC dI ad cA A M190 10 [(0, .ref (ad 29)), (1, .ref (ad 12)), (2, .int (sI a189))] [] := by
    intro n186
    induction n186 with
    | zero =>
      intro a189 M190 h191 hM190 fM190
      exfalso; omega
    | succ n186 ih187 =>
      intro a189 M190 h191 hM190 fM190
      refine j_iload_n C 2 2 dX9_copyFrom_10 rfl rfl ?_
      refine y_bipush C dX9_copyFrom_11 rfl ?_
      refine y_icmp_ge C 46 dX9_copyFrom_13 (by decide) (by omega) (fun h193 => ?_) (fun h193 => ?_)
      · refine j_aload_n C 0 0 dX9_copyFrom_46 rfl rfl ?_
        refine j_aload_n C 1 1 dX9_copyFrom_47 rfl rfl ?_
        refine y_getI C 8 _ _ fX9_copyFrom_22 rfl rfl ft_8_3 sb_8_3 hM190 dX9_copyFrom_48 (fun a199 ea199 la199 ua199 => ?_)
        obtain rfl : a199 = (M0.1 12 3).toInt := s_fX fM190 (by decide) (ea199)
        refine y_putI C 8 _ _ qX9_copyFrom_22 rfl rfl ft_8_3 sb_8_3 hM190 (PX.w hpr rfl rfl) dX9_copyFrom_51 (by omega) (fun M201 eM201 hM201 => ?_)
        refine j_aload_n C 0 0 dX9_copyFrom_54 rfl rfl ?_
        refine j_aload_n C 1 1 dX9_copyFrom_55 rfl rfl ?_
        refine y_getI C 8 _ _ fX9_copyFrom_25 rfl rfl ft_8_4 sb_8_4 hM201 dX9_copyFrom_56 (fun a202 ea202 la202 ua202 => ?_)
        obtain rfl : a202 = (M0.1 12 4).toInt := s_fX fM190 (by decide) (s_fa eM201 (by decide) (ea202))
        refine y_putI C 8 _ _ qX9_copyFrom_25 rfl rfl ft_8_4 sb_8_4 hM201 (PX.w hpr rfl rfl) dX9_copyFrom_59 (by omega) (fun M204 eM204 hM204 => ?_)
        refine j_aload_n C 0 0 dX9_copyFrom_62 rfl rfl ?_
        refine j_aload_n C 1 1 dX9_copyFrom_63 rfl rfl ?_
        refine y_getI C 8 _ _ fX9_copyFrom_28 rfl rfl ft_8_5 sb_8_5 hM204 dX9_copyFrom_64 (fun a205 ea205 la205 ua205 => ?_)
        obtain rfl : a205 = (M0.1 12 5).toInt := s_fX fM190 (by decide) (s_fa eM201 (by decide) (s_fa eM204 (by decide) (ea205)))
        refine y_putIF C 8 qX9_copyFrom_28 rfl rfl ft_8_5 sb_8_5 hM204 (PX.w hpr rfl rfl) dX9_copyFrom_67 (fun M207 eM207 hM207 => ?_)
        refine j_aload_n C 0 0 dX9_copyFrom_70 rfl rfl ?_
        refine j_aload_n C 1 1 dX9_copyFrom_71 rfl rfl ?_
        refine y_getI C 8 _ _ fX9_copyFrom_31 rfl rfl ft_8_6 sb_8_6 hM207 dX9_copyFrom_72 (fun a208 ea208 la208 ua208 => ?_)
        obtain rfl : a208 = (M0.1 12 6).toInt := s_fX fM190 (by decide) (s_fa eM201 (by decide) (s_fa eM204 (by decide) (s_fa eM207 (by decide) (ea208))))
        refine y_putIF C 8 qX9_copyFrom_31 rfl rfl ft_8_6 sb_8_6 hM207 (PX.w hpr rfl rfl) dX9_copyFrom_75 (fun M210 eM210 hM210 => ?_)
        refine j_aload_n C 0 0 dX9_copyFrom_78 rfl rfl ?_
        refine j_aload_n C 1 1 dX9_copyFrom_79 rfl rfl ?_
        refine y_getI C 8 _ _ fX9_copyFrom_34 rfl rfl ft_8_7 sb_8_7 hM210 dX9_copyFrom_80 (fun a211 ea211 la211 ua211 => ?_)
        obtain rfl : a211 = (M0.1 12 7).toInt := s_fX fM190 (by decide) (s_fa eM201 (by decide) (s_fa eM204 (by decide) (s_fa eM207 (by decide) (s_fa eM210 (by decide) (ea211)))))
        refine y_putIF C 8 qX9_copyFrom_34 rfl rfl ft_8_7 sb_8_7 hM210 (PX.w hpr rfl rfl) dX9_copyFrom_83 (fun M213 eM213 hM213 => ?_)
        refine j_aload_n C 0 0 dX9_copyFrom_86 rfl rfl ?_
        refine j_aload_n C 1 1 dX9_copyFrom_87 rfl rfl ?_
        refine y_getI C 8 _ _ fX9_copyFrom_37 rfl rfl ft_8_8 sb_8_8 hM213 dX9_copyFrom_88 (fun a214 ea214 la214 ua214 => ?_)
        obtain rfl : a214 = (M0.1 12 8).toInt := s_fX fM190 (by decide) (s_fa eM201 (by decide) (s_fa eM204 (by decide) (s_fa eM207 (by decide) (s_fa eM210 (by decide) (s_fa eM213 (by decide) (ea214))))))
        refine y_putIF C 8 qX9_copyFrom_37 rfl rfl ft_8_8 sb_8_8 hM213 (PX.w hpr rfl rfl) dX9_copyFrom_91 (fun M216 eM216 hM216 => ?_)
        have u217c := cpa_c (M := M190) (M' := M216) (B := M0) (p0 := 30) (p1 := 13) (g0 := 31) (g1 := 14) (n := a189) (n' := 8) (by omega) ((((((wI_cell eM216 (by decide)).trans (wI_cell eM213 (by decide))).trans (wI_cell eM210 (by decide))).trans (wI_cell eM207 (by decide))).trans (wI_cell eM204 (by decide))).trans (wI_cell eM201 (by decide))) ((((((wI_cell eM216 (by decide)).trans (wI_cell eM213 (by decide))).trans (wI_cell eM210 (by decide))).trans (wI_cell eM207 (by decide))).trans (wI_cell eM204 (by decide))).trans (wI_cell eM201 (by decide))) (by omega)
        have zz29_0 : (M216.1 29 0).toInt = (M190.1 29 0).toInt := s_fb eM201 (by decide) (s_fb eM204 (by decide) (s_fb eM207 (by decide) (s_fb eM210 (by decide) (s_fb eM213 (by decide) (s_fb eM216 (by decide) (rfl))))))
        have zz29_3 := (Eq.trans (s_fb eM204 (by decide) (s_fb eM207 (by decide) (s_fb eM210 (by decide) (s_fb eM213 (by decide) (s_fb eM216 (by decide) (rfl))))) : (M216.1 29 3).toInt = (M201.1 29 3).toInt) (s_wr eM201 (by omega)))
        have zz29_4 := (Eq.trans (s_fb eM207 (by decide) (s_fb eM210 (by decide) (s_fb eM213 (by decide) (s_fb eM216 (by decide) (rfl)))) : (M216.1 29 4).toInt = (M204.1 29 4).toInt) (s_wr eM204 (by omega)))
        have zz29_5 := (Eq.trans (s_fb eM210 (by decide) (s_fb eM213 (by decide) (s_fb eM216 (by decide) (rfl))) : (M216.1 29 5).toInt = (M207.1 29 5).toInt) (s_wr eM207 (by omega)))
        have zz29_6 := (Eq.trans (s_fb eM213 (by decide) (s_fb eM216 (by decide) (rfl)) : (M216.1 29 6).toInt = (M210.1 29 6).toInt) (s_wr eM210 (by omega)))
        have zz29_7 := (Eq.trans (s_fb eM216 (by decide) (rfl) : (M216.1 29 7).toInt = (M213.1 29 7).toInt) (s_wr eM213 (by omega)))
        have zz29_8 := (Eq.trans (rfl : (M216.1 29 8).toInt = (M216.1 29 8).toInt) (s_wr eM216 (by omega)))
        have u217k := copy_k (M := M0) (N := M216) (d := 29) (s := 12) (p := 0) (by omega) (by omega) (by omega) (by omega) (by omega) (by omega) (by omega) (show b01 (CPA M216 M0 30 13 31 14 8) = 1 from by omega)
        exact hret _ _ _ dX9_copyFrom_94 ⟨hM216, (((((((FX.rf.tr fM190 (by decide)).wI eM201 (by decide)).wI eM204 (by decide)).wI eM207 (by decide)).wI eM210 (by decide)).wI eM213 (by decide)).wI eM216 (by decide)), by omega⟩
      · refine j_aload_n C 0 0 dX9_copyFrom_16 rfl rfl ?_
        refine y_getC C 8 30 fX9_copyFrom_15 rfl rfl ft_8_1 sm_8_1 rfl hM190 dX9_copyFrom_17 ?_
        refine j_iload_n C 2 2 dX9_copyFrom_20 rfl rfl ?_
        refine j_aload_n C 1 1 dX9_copyFrom_21 rfl rfl ?_
        refine y_getC C 8 13 fX9_copyFrom_15 rfl rfl ft_8_1 sm_8_1 rfl hM190 dX9_copyFrom_22 ?_
        refine j_iload_n C 2 2 dX9_copyFrom_25 rfl rfl ?_
        refine y_iald C 25 8 _ _ rfl rfl rfl ak_25 an_25 rfl (sb_25 _) hM190 dX9_copyFrom_26 (by omega) (fun a194 ea194 la194 ua194 => ?_)
        obtain rfl : a194 = (M0.1 13 (a189).toNat).toInt := s_fX fM190 (by decide) (ea194)
        refine y_iastF C 25 8 rfl rfl rfl ak_25 an_25 rfl (sb_25 _) hM190 (PX.w hpr rfl rfl) dX9_copyFrom_27 (by omega) (fun M195 eM195 hM195 => ?_)
        refine j_aload_n C 0 0 dX9_copyFrom_28 rfl rfl ?_
        refine y_getC C 8 31 fX9_copyFrom_19 rfl rfl ft_8_2 sm_8_2 rfl hM195 dX9_copyFrom_29 ?_
        refine j_iload_n C 2 2 dX9_copyFrom_32 rfl rfl ?_
        refine j_aload_n C 1 1 dX9_copyFrom_33 rfl rfl ?_
        refine y_getC C 8 14 fX9_copyFrom_19 rfl rfl ft_8_2 sm_8_2 rfl hM195 dX9_copyFrom_34 ?_
        refine j_iload_n C 2 2 dX9_copyFrom_37 rfl rfl ?_
        refine y_iald C 26 8 _ _ rfl rfl rfl ak_26 an_26 rfl (sb_26 _) hM195 dX9_copyFrom_38 (by omega) (fun a196 ea196 la196 ua196 => ?_)
        obtain rfl : a196 = (M0.1 14 (a189).toNat).toInt := s_fX fM190 (by decide) (s_fa eM195 (by decide) (ea196))
        refine y_iastF C 26 8 rfl rfl rfl ak_26 an_26 rfl (sb_26 _) hM195 (PX.w hpr rfl rfl) dX9_copyFrom_39 (by omega) (fun M197 eM197 hM197 => ?_)
        refine y_iinc C 2 [(2, .int (sI (a189 + 1))), (0, .ref (ad 29)), (1, .ref (ad 12))] dX9_copyFrom_40 rfl (by decide) rfl ?_
        refine j_goto C 10 dX9_copyFrom_43 (by decide) ?_
        have u198s := cpa_s (B := M0) (p1 := 13) (g1 := 14) (n := a189) (n' := (a189 + 1)) (by omega) (by omega) eM195 eM197 (by decide)
        have zz29_0 : (M197.1 29 0).toInt = (M190.1 29 0).toInt := s_fa eM195 (by decide) (s_fa eM197 (by decide) (rfl)); refine j_lv [1, 2, 0] rfl ?_; exact ih187 (a189 + 1) M197 (by omega) hM197 (((FX.rf.tr fM190 (by decide)).wI eM195 (by decide)).wI eM197 (by decide))
  have zz29_0 := (Eq.trans (rfl : (M103.1 29 0).toInt = (M103.1 29 0).toInt) (s_wr eM103 (by omega))); refine j_lv [1, 2, 0] rfl ?_; exact L188 2010 0 M103 (by omega) hM103 (FX.rf.wI eM103 (by decide))
set_option maxHeartbeats 4000000 in
theorem s17_X9_copyFrom {l : Launch} {dC : Nat → ClassId} {dI : Nat → Nat → Nat} {ad : Nat → Nat} {cA : Nat → ClassId} {pr : Nat → Nat → Bool} {Kz : mm_M} {M0 : mm_M} (hM0 : INV pr Kz M0) (hpr : PX pr) (hq8_0 : ∀ i, s_c i = 8 → pr i 0 = false)  : Cv l 0 yX9_copyFrom wsX9_copyFrom dC dI ad cA [.ref (ad 32), .ref (ad 12)] M0 (fun M' => INV pr Kz M' ∧ FX [32, 33, 34] M0 M' ∧ (b01 (skX M' 32 = skX M0 12) = 1)) := by
  refine cv_of (cc := cX9_copyFrom) (maxL := 3) (lv := [(0, .ref (ad 32)), (1, .ref (ad 12))]) (by decide) rfl (Nat.le_of_ble_eq_true rfl) rfl ?_
  intro p e s m args below meth c A Q C hret
  refine j_aload_n C 0 0 dX9_copyFrom_0 rfl rfl ?_
  refine j_aload_n C 1 1 dX9_copyFrom_1 rfl rfl ?_
  refine y_getI C 8 _ _ fX9_copyFrom_9 rfl rfl ft_8_0 sb_8_0 hM0 dX9_copyFrom_2 (fun a101 ea101 la101 ua101 => ?_)
  obtain rfl : a101 = (M0.1 12 0).toInt := ea101
  refine y_putI C 8 _ _ qX9_copyFrom_9 rfl rfl ft_8_0 sb_8_0 hM0 (hq8_0 _ rfl) dX9_copyFrom_5 (by omega) (fun M103 eM103 hM103 => ?_)
  refine y_iconst C dX9_copyFrom_8 ?_
  refine j_istore_n C 2 [(2, .int (sI 0)), (0, .ref (ad 32)), (1, .ref (ad 12))] dX9_copyFrom_9 rfl (by decide) rfl ?_
  have u104z := cpa_0 M103 M0 33 13 34 14
  have L188 : ∀ (n186 : Nat), ∀ (a189 : Int) (M190 : mm_M), (0 ≤ a189 ∧ a189 ≤ 8 ∧ ((M190.1 32 0).toInt = (M0.1 12 0).toInt) ∧ (b01 (CPA M190 M0 33 13 34 14 a189) = 1) ∧ (8 - a189) < (n186 : Int)) → INV pr Kz M190 → FX [32, 33, 34] M0 M190 → jj p l e (cn_R 0) s m args below meth c 0 0 Q 3 dC dI ad cA A M190 10 [(0, .ref (ad 32)), (1, .ref (ad 12)), (2, .int (sI a189))] [] := by
    intro n186
    induction n186 with
    | zero =>
      intro a189 M190 h191 hM190 fM190
      exfalso; omega
    | succ n186 ih187 =>
      intro a189 M190 h191 hM190 fM190
      refine j_iload_n C 2 2 dX9_copyFrom_10 rfl rfl ?_
      refine y_bipush C dX9_copyFrom_11 rfl ?_
      refine y_icmp_ge C 46 dX9_copyFrom_13 (by decide) (by omega) (fun h193 => ?_) (fun h193 => ?_)
      · refine j_aload_n C 0 0 dX9_copyFrom_46 rfl rfl ?_
        refine j_aload_n C 1 1 dX9_copyFrom_47 rfl rfl ?_
        refine y_getI C 8 _ _ fX9_copyFrom_22 rfl rfl ft_8_3 sb_8_3 hM190 dX9_copyFrom_48 (fun a199 ea199 la199 ua199 => ?_)
        obtain rfl : a199 = (M0.1 12 3).toInt := s_fX fM190 (by decide) (ea199)
        refine y_putI C 8 _ _ qX9_copyFrom_22 rfl rfl ft_8_3 sb_8_3 hM190 (PX.w hpr rfl rfl) dX9_copyFrom_51 (by omega) (fun M201 eM201 hM201 => ?_)
        refine j_aload_n C 0 0 dX9_copyFrom_54 rfl rfl ?_
        refine j_aload_n C 1 1 dX9_copyFrom_55 rfl rfl ?_
        refine y_getI C 8 _ _ fX9_copyFrom_25 rfl rfl ft_8_4 sb_8_4 hM201 dX9_copyFrom_56 (fun a202 ea202 la202 ua202 => ?_)
        obtain rfl : a202 = (M0.1 12 4).toInt := s_fX fM190 (by decide) (s_fa eM201 (by decide) (ea202))
        refine y_putI C 8 _ _ qX9_copyFrom_25 rfl rfl ft_8_4 sb_8_4 hM201 (PX.w hpr rfl rfl) dX9_copyFrom_59 (by omega) (fun M204 eM204 hM204 => ?_)
        refine j_aload_n C 0 0 dX9_copyFrom_62 rfl rfl ?_
        refine j_aload_n C 1 1 dX9_copyFrom_63 rfl rfl ?_
        refine y_getI C 8 _ _ fX9_copyFrom_28 rfl rfl ft_8_5 sb_8_5 hM204 dX9_copyFrom_64 (fun a205 ea205 la205 ua205 => ?_)
        obtain rfl : a205 = (M0.1 12 5).toInt := s_fX fM190 (by decide) (s_fa eM201 (by decide) (s_fa eM204 (by decide) (ea205)))
        refine y_putIF C 8 qX9_copyFrom_28 rfl rfl ft_8_5 sb_8_5 hM204 (PX.w hpr rfl rfl) dX9_copyFrom_67 (fun M207 eM207 hM207 => ?_)
        refine j_aload_n C 0 0 dX9_copyFrom_70 rfl rfl ?_
        refine j_aload_n C 1 1 dX9_copyFrom_71 rfl rfl ?_
        refine y_getI C 8 _ _ fX9_copyFrom_31 rfl rfl ft_8_6 sb_8_6 hM207 dX9_copyFrom_72 (fun a208 ea208 la208 ua208 => ?_)
        obtain rfl : a208 = (M0.1 12 6).toInt := s_fX fM190 (by decide) (s_fa eM201 (by decide) (s_fa eM204 (by decide) (s_fa eM207 (by decide) (ea208))))
        refine y_putIF C 8 qX9_copyFrom_31 rfl rfl ft_8_6 sb_8_6 hM207 (PX.w hpr rfl rfl) dX9_copyFrom_75 (fun M210 eM210 hM210 => ?_)
        refine j_aload_n C 0 0 dX9_copyFrom_78 rfl rfl ?_
        refine j_aload_n C 1 1 dX9_copyFrom_79 rfl rfl ?_
        refine y_getI C 8 _ _ fX9_copyFrom_34 rfl rfl ft_8_7 sb_8_7 hM210 dX9_copyFrom_80 (fun a211 ea211 la211 ua211 => ?_)
        obtain rfl : a211 = (M0.1 12 7).toInt := s_fX fM190 (by decide) (s_fa eM201 (by decide) (s_fa eM204 (by decide) (s_fa eM207 (by decide) (s_fa eM210 (by decide) (ea211)))))
        refine y_putIF C 8 qX9_copyFrom_34 rfl rfl ft_8_7 sb_8_7 hM210 (PX.w hpr rfl rfl) dX9_copyFrom_83 (fun M213 eM213 hM213 => ?_)
        refine j_aload_n C 0 0 dX9_copyFrom_86 rfl rfl ?_
        refine j_aload_n C 1 1 dX9_copyFrom_87 rfl rfl ?_
        refine y_getI C 8 _ _ fX9_copyFrom_37 rfl rfl ft_8_8 sb_8_8 hM213 dX9_copyFrom_88 (fun a214 ea214 la214 ua214 => ?_)
        obtain rfl : a214 = (M0.1 12 8).toInt := s_fX fM190 (by decide) (s_fa eM201 (by decide) (s_fa eM204 (by decide) (s_fa eM207 (by decide) (s_fa eM210 (by decide) (s_fa eM213 (by decide) (ea214))))))
        refine y_putIF C 8 qX9_copyFrom_37 rfl rfl ft_8_8 sb_8_8 hM213 (PX.w hpr rfl rfl) dX9_copyFrom_91 (fun M216 eM216 hM216 => ?_)
        have u217c := cpa_c (M := M190) (M' := M216) (B := M0) (p0 := 33) (p1 := 13) (g0 := 34) (g1 := 14) (n := a189) (n' := 8) (by omega) ((((((wI_cell eM216 (by decide)).trans (wI_cell eM213 (by decide))).trans (wI_cell eM210 (by decide))).trans (wI_cell eM207 (by decide))).trans (wI_cell eM204 (by decide))).trans (wI_cell eM201 (by decide))) ((((((wI_cell eM216 (by decide)).trans (wI_cell eM213 (by decide))).trans (wI_cell eM210 (by decide))).trans (wI_cell eM207 (by decide))).trans (wI_cell eM204 (by decide))).trans (wI_cell eM201 (by decide))) (by omega)
        have zz32_0 : (M216.1 32 0).toInt = (M190.1 32 0).toInt := s_fb eM201 (by decide) (s_fb eM204 (by decide) (s_fb eM207 (by decide) (s_fb eM210 (by decide) (s_fb eM213 (by decide) (s_fb eM216 (by decide) (rfl))))))
        have zz32_3 := (Eq.trans (s_fb eM204 (by decide) (s_fb eM207 (by decide) (s_fb eM210 (by decide) (s_fb eM213 (by decide) (s_fb eM216 (by decide) (rfl))))) : (M216.1 32 3).toInt = (M201.1 32 3).toInt) (s_wr eM201 (by omega)))
        have zz32_4 := (Eq.trans (s_fb eM207 (by decide) (s_fb eM210 (by decide) (s_fb eM213 (by decide) (s_fb eM216 (by decide) (rfl)))) : (M216.1 32 4).toInt = (M204.1 32 4).toInt) (s_wr eM204 (by omega)))
        have zz32_5 := (Eq.trans (s_fb eM210 (by decide) (s_fb eM213 (by decide) (s_fb eM216 (by decide) (rfl))) : (M216.1 32 5).toInt = (M207.1 32 5).toInt) (s_wr eM207 (by omega)))
        have zz32_6 := (Eq.trans (s_fb eM213 (by decide) (s_fb eM216 (by decide) (rfl)) : (M216.1 32 6).toInt = (M210.1 32 6).toInt) (s_wr eM210 (by omega)))
        have zz32_7 := (Eq.trans (s_fb eM216 (by decide) (rfl) : (M216.1 32 7).toInt = (M213.1 32 7).toInt) (s_wr eM213 (by omega)))
        have zz32_8 := (Eq.trans (rfl : (M216.1 32 8).toInt = (M216.1 32 8).toInt) (s_wr eM216 (by omega)))
        have u217k := copy_k (M := M0) (N := M216) (d := 32) (s := 12) (p := 0) (by omega) (by omega) (by omega) (by omega) (by omega) (by omega) (by omega) (show b01 (CPA M216 M0 33 13 34 14 8) = 1 from by omega)
        exact hret _ _ _ dX9_copyFrom_94 ⟨hM216, (((((((FX.rf.tr fM190 (by decide)).wI eM201 (by decide)).wI eM204 (by decide)).wI eM207 (by decide)).wI eM210 (by decide)).wI eM213 (by decide)).wI eM216 (by decide)), by omega⟩
      · refine j_aload_n C 0 0 dX9_copyFrom_16 rfl rfl ?_
        refine y_getC C 8 33 fX9_copyFrom_15 rfl rfl ft_8_1 sm_8_1 rfl hM190 dX9_copyFrom_17 ?_
        refine j_iload_n C 2 2 dX9_copyFrom_20 rfl rfl ?_
        refine j_aload_n C 1 1 dX9_copyFrom_21 rfl rfl ?_
        refine y_getC C 8 13 fX9_copyFrom_15 rfl rfl ft_8_1 sm_8_1 rfl hM190 dX9_copyFrom_22 ?_
        refine j_iload_n C 2 2 dX9_copyFrom_25 rfl rfl ?_
        refine y_iald C 25 8 _ _ rfl rfl rfl ak_25 an_25 rfl (sb_25 _) hM190 dX9_copyFrom_26 (by omega) (fun a194 ea194 la194 ua194 => ?_)
        obtain rfl : a194 = (M0.1 13 (a189).toNat).toInt := s_fX fM190 (by decide) (ea194)
        refine y_iastF C 25 8 rfl rfl rfl ak_25 an_25 rfl (sb_25 _) hM190 (PX.w hpr rfl rfl) dX9_copyFrom_27 (by omega) (fun M195 eM195 hM195 => ?_)
        refine j_aload_n C 0 0 dX9_copyFrom_28 rfl rfl ?_
        refine y_getC C 8 34 fX9_copyFrom_19 rfl rfl ft_8_2 sm_8_2 rfl hM195 dX9_copyFrom_29 ?_
        refine j_iload_n C 2 2 dX9_copyFrom_32 rfl rfl ?_
        refine j_aload_n C 1 1 dX9_copyFrom_33 rfl rfl ?_
        refine y_getC C 8 14 fX9_copyFrom_19 rfl rfl ft_8_2 sm_8_2 rfl hM195 dX9_copyFrom_34 ?_
        refine j_iload_n C 2 2 dX9_copyFrom_37 rfl rfl ?_
        refine y_iald C 26 8 _ _ rfl rfl rfl ak_26 an_26 rfl (sb_26 _) hM195 dX9_copyFrom_38 (by omega) (fun a196 ea196 la196 ua196 => ?_)
        obtain rfl : a196 = (M0.1 14 (a189).toNat).toInt := s_fX fM190 (by decide) (s_fa eM195 (by decide) (ea196))
        refine y_iastF C 26 8 rfl rfl rfl ak_26 an_26 rfl (sb_26 _) hM195 (PX.w hpr rfl rfl) dX9_copyFrom_39 (by omega) (fun M197 eM197 hM197 => ?_)
        refine y_iinc C 2 [(2, .int (sI (a189 + 1))), (0, .ref (ad 32)), (1, .ref (ad 12))] dX9_copyFrom_40 rfl (by decide) rfl ?_
        refine j_goto C 10 dX9_copyFrom_43 (by decide) ?_
        have u198s := cpa_s (B := M0) (p1 := 13) (g1 := 14) (n := a189) (n' := (a189 + 1)) (by omega) (by omega) eM195 eM197 (by decide)
        have zz32_0 : (M197.1 32 0).toInt = (M190.1 32 0).toInt := s_fa eM195 (by decide) (s_fa eM197 (by decide) (rfl)); refine j_lv [1, 2, 0] rfl ?_; exact ih187 (a189 + 1) M197 (by omega) hM197 (((FX.rf.tr fM190 (by decide)).wI eM195 (by decide)).wI eM197 (by decide))
  have zz32_0 := (Eq.trans (rfl : (M103.1 32 0).toInt = (M103.1 32 0).toInt) (s_wr eM103 (by omega))); refine j_lv [1, 2, 0] rfl ?_; exact L188 2010 0 M103 (by omega) hM103 (FX.rf.wI eM103 (by decide))
set_option maxHeartbeats 4000000 in
theorem s18_X9_copyFrom {l : Launch} {dC : Nat → ClassId} {dI : Nat → Nat → Nat} {ad : Nat → Nat} {cA : Nat → ClassId} {pr : Nat → Nat → Bool} {Kz : mm_M} {M0 : mm_M} (hM0 : INV pr Kz M0) (hpr : PX pr) (hq8_0 : ∀ i, s_c i = 8 → pr i 0 = false)  : Cv l 0 yX9_copyFrom wsX9_copyFrom dC dI ad cA [.ref (ad 35), .ref (ad 12)] M0 (fun M' => INV pr Kz M' ∧ FX [35, 36, 37] M0 M' ∧ (b01 (skX M' 35 = skX M0 12) = 1)) := by
  refine cv_of (cc := cX9_copyFrom) (maxL := 3) (lv := [(0, .ref (ad 35)), (1, .ref (ad 12))]) (by decide) rfl (Nat.le_of_ble_eq_true rfl) rfl ?_
  intro p e s m args below meth c A Q C hret
  refine j_aload_n C 0 0 dX9_copyFrom_0 rfl rfl ?_
  refine j_aload_n C 1 1 dX9_copyFrom_1 rfl rfl ?_
  refine y_getI C 8 _ _ fX9_copyFrom_9 rfl rfl ft_8_0 sb_8_0 hM0 dX9_copyFrom_2 (fun a101 ea101 la101 ua101 => ?_)
  obtain rfl : a101 = (M0.1 12 0).toInt := ea101
  refine y_putI C 8 _ _ qX9_copyFrom_9 rfl rfl ft_8_0 sb_8_0 hM0 (hq8_0 _ rfl) dX9_copyFrom_5 (by omega) (fun M103 eM103 hM103 => ?_)
  refine y_iconst C dX9_copyFrom_8 ?_
  refine j_istore_n C 2 [(2, .int (sI 0)), (0, .ref (ad 35)), (1, .ref (ad 12))] dX9_copyFrom_9 rfl (by decide) rfl ?_
  have u104z := cpa_0 M103 M0 36 13 37 14
  have L188 : ∀ (n186 : Nat), ∀ (a189 : Int) (M190 : mm_M), (0 ≤ a189 ∧ a189 ≤ 8 ∧ ((M190.1 35 0).toInt = (M0.1 12 0).toInt) ∧ (b01 (CPA M190 M0 36 13 37 14 a189) = 1) ∧ (8 - a189) < (n186 : Int)) → INV pr Kz M190 → FX [35, 36, 37] M0 M190 → jj p l e (cn_R 0) s m args below meth c 0 0 Q 3 dC dI ad cA A M190 10 [(0, .ref (ad 35)), (1, .ref (ad 12)), (2, .int (sI a189))] [] := by
    intro n186
    induction n186 with
    | zero =>
      intro a189 M190 h191 hM190 fM190
      exfalso; omega
    | succ n186 ih187 =>
      intro a189 M190 h191 hM190 fM190
      refine j_iload_n C 2 2 dX9_copyFrom_10 rfl rfl ?_
      refine y_bipush C dX9_copyFrom_11 rfl ?_
      refine y_icmp_ge C 46 dX9_copyFrom_13 (by decide) (by omega) (fun h193 => ?_) (fun h193 => ?_)
      · refine j_aload_n C 0 0 dX9_copyFrom_46 rfl rfl ?_
        refine j_aload_n C 1 1 dX9_copyFrom_47 rfl rfl ?_
        refine y_getI C 8 _ _ fX9_copyFrom_22 rfl rfl ft_8_3 sb_8_3 hM190 dX9_copyFrom_48 (fun a199 ea199 la199 ua199 => ?_)
        obtain rfl : a199 = (M0.1 12 3).toInt := s_fX fM190 (by decide) (ea199)
        refine y_putI C 8 _ _ qX9_copyFrom_22 rfl rfl ft_8_3 sb_8_3 hM190 (PX.w hpr rfl rfl) dX9_copyFrom_51 (by omega) (fun M201 eM201 hM201 => ?_)
        refine j_aload_n C 0 0 dX9_copyFrom_54 rfl rfl ?_
        refine j_aload_n C 1 1 dX9_copyFrom_55 rfl rfl ?_
        refine y_getI C 8 _ _ fX9_copyFrom_25 rfl rfl ft_8_4 sb_8_4 hM201 dX9_copyFrom_56 (fun a202 ea202 la202 ua202 => ?_)
        obtain rfl : a202 = (M0.1 12 4).toInt := s_fX fM190 (by decide) (s_fa eM201 (by decide) (ea202))
        refine y_putI C 8 _ _ qX9_copyFrom_25 rfl rfl ft_8_4 sb_8_4 hM201 (PX.w hpr rfl rfl) dX9_copyFrom_59 (by omega) (fun M204 eM204 hM204 => ?_)
        refine j_aload_n C 0 0 dX9_copyFrom_62 rfl rfl ?_
        refine j_aload_n C 1 1 dX9_copyFrom_63 rfl rfl ?_
        refine y_getI C 8 _ _ fX9_copyFrom_28 rfl rfl ft_8_5 sb_8_5 hM204 dX9_copyFrom_64 (fun a205 ea205 la205 ua205 => ?_)
        obtain rfl : a205 = (M0.1 12 5).toInt := s_fX fM190 (by decide) (s_fa eM201 (by decide) (s_fa eM204 (by decide) (ea205)))
        refine y_putIF C 8 qX9_copyFrom_28 rfl rfl ft_8_5 sb_8_5 hM204 (PX.w hpr rfl rfl) dX9_copyFrom_67 (fun M207 eM207 hM207 => ?_)
        refine j_aload_n C 0 0 dX9_copyFrom_70 rfl rfl ?_
        refine j_aload_n C 1 1 dX9_copyFrom_71 rfl rfl ?_
        refine y_getI C 8 _ _ fX9_copyFrom_31 rfl rfl ft_8_6 sb_8_6 hM207 dX9_copyFrom_72 (fun a208 ea208 la208 ua208 => ?_)
        obtain rfl : a208 = (M0.1 12 6).toInt := s_fX fM190 (by decide) (s_fa eM201 (by decide) (s_fa eM204 (by decide) (s_fa eM207 (by decide) (ea208))))
        refine y_putIF C 8 qX9_copyFrom_31 rfl rfl ft_8_6 sb_8_6 hM207 (PX.w hpr rfl rfl) dX9_copyFrom_75 (fun M210 eM210 hM210 => ?_)
        refine j_aload_n C 0 0 dX9_copyFrom_78 rfl rfl ?_
        refine j_aload_n C 1 1 dX9_copyFrom_79 rfl rfl ?_
        refine y_getI C 8 _ _ fX9_copyFrom_34 rfl rfl ft_8_7 sb_8_7 hM210 dX9_copyFrom_80 (fun a211 ea211 la211 ua211 => ?_)
        obtain rfl : a211 = (M0.1 12 7).toInt := s_fX fM190 (by decide) (s_fa eM201 (by decide) (s_fa eM204 (by decide) (s_fa eM207 (by decide) (s_fa eM210 (by decide) (ea211)))))
        refine y_putIF C 8 qX9_copyFrom_34 rfl rfl ft_8_7 sb_8_7 hM210 (PX.w hpr rfl rfl) dX9_copyFrom_83 (fun M213 eM213 hM213 => ?_)
        refine j_aload_n C 0 0 dX9_copyFrom_86 rfl rfl ?_
        refine j_aload_n C 1 1 dX9_copyFrom_87 rfl rfl ?_
        refine y_getI C 8 _ _ fX9_copyFrom_37 rfl rfl ft_8_8 sb_8_8 hM213 dX9_copyFrom_88 (fun a214 ea214 la214 ua214 => ?_)
        obtain rfl : a214 = (M0.1 12 8).toInt := s_fX fM190 (by decide) (s_fa eM201 (by decide) (s_fa eM204 (by decide) (s_fa eM207 (by decide) (s_fa eM210 (by decide) (s_fa eM213 (by decide) (ea214))))))
        refine y_putIF C 8 qX9_copyFrom_37 rfl rfl ft_8_8 sb_8_8 hM213 (PX.w hpr rfl rfl) dX9_copyFrom_91 (fun M216 eM216 hM216 => ?_)
        have u217c := cpa_c (M := M190) (M' := M216) (B := M0) (p0 := 36) (p1 := 13) (g0 := 37) (g1 := 14) (n := a189) (n' := 8) (by omega) ((((((wI_cell eM216 (by decide)).trans (wI_cell eM213 (by decide))).trans (wI_cell eM210 (by decide))).trans (wI_cell eM207 (by decide))).trans (wI_cell eM204 (by decide))).trans (wI_cell eM201 (by decide))) ((((((wI_cell eM216 (by decide)).trans (wI_cell eM213 (by decide))).trans (wI_cell eM210 (by decide))).trans (wI_cell eM207 (by decide))).trans (wI_cell eM204 (by decide))).trans (wI_cell eM201 (by decide))) (by omega)
        have zz35_0 : (M216.1 35 0).toInt = (M190.1 35 0).toInt := s_fb eM201 (by decide) (s_fb eM204 (by decide) (s_fb eM207 (by decide) (s_fb eM210 (by decide) (s_fb eM213 (by decide) (s_fb eM216 (by decide) (rfl))))))
        have zz35_3 := (Eq.trans (s_fb eM204 (by decide) (s_fb eM207 (by decide) (s_fb eM210 (by decide) (s_fb eM213 (by decide) (s_fb eM216 (by decide) (rfl))))) : (M216.1 35 3).toInt = (M201.1 35 3).toInt) (s_wr eM201 (by omega)))
        have zz35_4 := (Eq.trans (s_fb eM207 (by decide) (s_fb eM210 (by decide) (s_fb eM213 (by decide) (s_fb eM216 (by decide) (rfl)))) : (M216.1 35 4).toInt = (M204.1 35 4).toInt) (s_wr eM204 (by omega)))
        have zz35_5 := (Eq.trans (s_fb eM210 (by decide) (s_fb eM213 (by decide) (s_fb eM216 (by decide) (rfl))) : (M216.1 35 5).toInt = (M207.1 35 5).toInt) (s_wr eM207 (by omega)))
        have zz35_6 := (Eq.trans (s_fb eM213 (by decide) (s_fb eM216 (by decide) (rfl)) : (M216.1 35 6).toInt = (M210.1 35 6).toInt) (s_wr eM210 (by omega)))
        have zz35_7 := (Eq.trans (s_fb eM216 (by decide) (rfl) : (M216.1 35 7).toInt = (M213.1 35 7).toInt) (s_wr eM213 (by omega)))
        have zz35_8 := (Eq.trans (rfl : (M216.1 35 8).toInt = (M216.1 35 8).toInt) (s_wr eM216 (by omega)))
        have u217k := copy_k (M := M0) (N := M216) (d := 35) (s := 12) (p := 0) (by omega) (by omega) (by omega) (by omega) (by omega) (by omega) (by omega) (show b01 (CPA M216 M0 36 13 37 14 8) = 1 from by omega)
        exact hret _ _ _ dX9_copyFrom_94 ⟨hM216, (((((((FX.rf.tr fM190 (by decide)).wI eM201 (by decide)).wI eM204 (by decide)).wI eM207 (by decide)).wI eM210 (by decide)).wI eM213 (by decide)).wI eM216 (by decide)), by omega⟩
      · refine j_aload_n C 0 0 dX9_copyFrom_16 rfl rfl ?_
        refine y_getC C 8 36 fX9_copyFrom_15 rfl rfl ft_8_1 sm_8_1 rfl hM190 dX9_copyFrom_17 ?_
        refine j_iload_n C 2 2 dX9_copyFrom_20 rfl rfl ?_
        refine j_aload_n C 1 1 dX9_copyFrom_21 rfl rfl ?_
        refine y_getC C 8 13 fX9_copyFrom_15 rfl rfl ft_8_1 sm_8_1 rfl hM190 dX9_copyFrom_22 ?_
        refine j_iload_n C 2 2 dX9_copyFrom_25 rfl rfl ?_
        refine y_iald C 25 8 _ _ rfl rfl rfl ak_25 an_25 rfl (sb_25 _) hM190 dX9_copyFrom_26 (by omega) (fun a194 ea194 la194 ua194 => ?_)
        obtain rfl : a194 = (M0.1 13 (a189).toNat).toInt := s_fX fM190 (by decide) (ea194)
        refine y_iastF C 25 8 rfl rfl rfl ak_25 an_25 rfl (sb_25 _) hM190 (PX.w hpr rfl rfl) dX9_copyFrom_27 (by omega) (fun M195 eM195 hM195 => ?_)
        refine j_aload_n C 0 0 dX9_copyFrom_28 rfl rfl ?_
        refine y_getC C 8 37 fX9_copyFrom_19 rfl rfl ft_8_2 sm_8_2 rfl hM195 dX9_copyFrom_29 ?_
        refine j_iload_n C 2 2 dX9_copyFrom_32 rfl rfl ?_
        refine j_aload_n C 1 1 dX9_copyFrom_33 rfl rfl ?_
        refine y_getC C 8 14 fX9_copyFrom_19 rfl rfl ft_8_2 sm_8_2 rfl hM195 dX9_copyFrom_34 ?_
        refine j_iload_n C 2 2 dX9_copyFrom_37 rfl rfl ?_
        refine y_iald C 26 8 _ _ rfl rfl rfl ak_26 an_26 rfl (sb_26 _) hM195 dX9_copyFrom_38 (by omega) (fun a196 ea196 la196 ua196 => ?_)
        obtain rfl : a196 = (M0.1 14 (a189).toNat).toInt := s_fX fM190 (by decide) (s_fa eM195 (by decide) (ea196))
        refine y_iastF C 26 8 rfl rfl rfl ak_26 an_26 rfl (sb_26 _) hM195 (PX.w hpr rfl rfl) dX9_copyFrom_39 (by omega) (fun M197 eM197 hM197 => ?_)
        refine y_iinc C 2 [(2, .int (sI (a189 + 1))), (0, .ref (ad 35)), (1, .ref (ad 12))] dX9_copyFrom_40 rfl (by decide) rfl ?_
        refine j_goto C 10 dX9_copyFrom_43 (by decide) ?_
        have u198s := cpa_s (B := M0) (p1 := 13) (g1 := 14) (n := a189) (n' := (a189 + 1)) (by omega) (by omega) eM195 eM197 (by decide)
        have zz35_0 : (M197.1 35 0).toInt = (M190.1 35 0).toInt := s_fa eM195 (by decide) (s_fa eM197 (by decide) (rfl)); refine j_lv [1, 2, 0] rfl ?_; exact ih187 (a189 + 1) M197 (by omega) hM197 (((FX.rf.tr fM190 (by decide)).wI eM195 (by decide)).wI eM197 (by decide))
  have zz35_0 := (Eq.trans (rfl : (M103.1 35 0).toInt = (M103.1 35 0).toInt) (s_wr eM103 (by omega))); refine j_lv [1, 2, 0] rfl ?_; exact L188 2010 0 M103 (by omega) hM103 (FX.rf.wI eM103 (by decide))
set_option maxHeartbeats 4000000 in
theorem s19_X9_copyFrom {l : Launch} {dC : Nat → ClassId} {dI : Nat → Nat → Nat} {ad : Nat → Nat} {cA : Nat → ClassId} {pr : Nat → Nat → Bool} {Kz : mm_M} {M0 : mm_M} (hM0 : INV pr Kz M0) (hpr : PX pr) (hq8_0 : ∀ i, s_c i = 8 → pr i 0 = false)  : Cv l 0 yX9_copyFrom wsX9_copyFrom dC dI ad cA [.ref (ad 38), .ref (ad 12)] M0 (fun M' => INV pr Kz M' ∧ FX [38, 39, 40] M0 M' ∧ (b01 (skX M' 38 = skX M0 12) = 1)) := by
  refine cv_of (cc := cX9_copyFrom) (maxL := 3) (lv := [(0, .ref (ad 38)), (1, .ref (ad 12))]) (by decide) rfl (Nat.le_of_ble_eq_true rfl) rfl ?_
  intro p e s m args below meth c A Q C hret
  refine j_aload_n C 0 0 dX9_copyFrom_0 rfl rfl ?_
  refine j_aload_n C 1 1 dX9_copyFrom_1 rfl rfl ?_
  refine y_getI C 8 _ _ fX9_copyFrom_9 rfl rfl ft_8_0 sb_8_0 hM0 dX9_copyFrom_2 (fun a101 ea101 la101 ua101 => ?_)
  obtain rfl : a101 = (M0.1 12 0).toInt := ea101
  refine y_putI C 8 _ _ qX9_copyFrom_9 rfl rfl ft_8_0 sb_8_0 hM0 (hq8_0 _ rfl) dX9_copyFrom_5 (by omega) (fun M103 eM103 hM103 => ?_)
  refine y_iconst C dX9_copyFrom_8 ?_
  refine j_istore_n C 2 [(2, .int (sI 0)), (0, .ref (ad 38)), (1, .ref (ad 12))] dX9_copyFrom_9 rfl (by decide) rfl ?_
  have u104z := cpa_0 M103 M0 39 13 40 14
  have L188 : ∀ (n186 : Nat), ∀ (a189 : Int) (M190 : mm_M), (0 ≤ a189 ∧ a189 ≤ 8 ∧ ((M190.1 38 0).toInt = (M0.1 12 0).toInt) ∧ (b01 (CPA M190 M0 39 13 40 14 a189) = 1) ∧ (8 - a189) < (n186 : Int)) → INV pr Kz M190 → FX [38, 39, 40] M0 M190 → jj p l e (cn_R 0) s m args below meth c 0 0 Q 3 dC dI ad cA A M190 10 [(0, .ref (ad 38)), (1, .ref (ad 12)), (2, .int (sI a189))] [] := by
    intro n186
    induction n186 with
    | zero =>
      intro a189 M190 h191 hM190 fM190
      exfalso; omega
    | succ n186 ih187 =>
      intro a189 M190 h191 hM190 fM190
      refine j_iload_n C 2 2 dX9_copyFrom_10 rfl rfl ?_
      refine y_bipush C dX9_copyFrom_11 rfl ?_
      refine y_icmp_ge C 46 dX9_copyFrom_13 (by decide) (by omega) (fun h193 => ?_) (fun h193 => ?_)
      · refine j_aload_n C 0 0 dX9_copyFrom_46 rfl rfl ?_
        refine j_aload_n C 1 1 dX9_copyFrom_47 rfl rfl ?_
        refine y_getI C 8 _ _ fX9_copyFrom_22 rfl rfl ft_8_3 sb_8_3 hM190 dX9_copyFrom_48 (fun a199 ea199 la199 ua199 => ?_)
        obtain rfl : a199 = (M0.1 12 3).toInt := s_fX fM190 (by decide) (ea199)
        refine y_putI C 8 _ _ qX9_copyFrom_22 rfl rfl ft_8_3 sb_8_3 hM190 (PX.w hpr rfl rfl) dX9_copyFrom_51 (by omega) (fun M201 eM201 hM201 => ?_)
        refine j_aload_n C 0 0 dX9_copyFrom_54 rfl rfl ?_
        refine j_aload_n C 1 1 dX9_copyFrom_55 rfl rfl ?_
        refine y_getI C 8 _ _ fX9_copyFrom_25 rfl rfl ft_8_4 sb_8_4 hM201 dX9_copyFrom_56 (fun a202 ea202 la202 ua202 => ?_)
        obtain rfl : a202 = (M0.1 12 4).toInt := s_fX fM190 (by decide) (s_fa eM201 (by decide) (ea202))
        refine y_putI C 8 _ _ qX9_copyFrom_25 rfl rfl ft_8_4 sb_8_4 hM201 (PX.w hpr rfl rfl) dX9_copyFrom_59 (by omega) (fun M204 eM204 hM204 => ?_)
        refine j_aload_n C 0 0 dX9_copyFrom_62 rfl rfl ?_
        refine j_aload_n C 1 1 dX9_copyFrom_63 rfl rfl ?_
        refine y_getI C 8 _ _ fX9_copyFrom_28 rfl rfl ft_8_5 sb_8_5 hM204 dX9_copyFrom_64 (fun a205 ea205 la205 ua205 => ?_)
        obtain rfl : a205 = (M0.1 12 5).toInt := s_fX fM190 (by decide) (s_fa eM201 (by decide) (s_fa eM204 (by decide) (ea205)))
        refine y_putIF C 8 qX9_copyFrom_28 rfl rfl ft_8_5 sb_8_5 hM204 (PX.w hpr rfl rfl) dX9_copyFrom_67 (fun M207 eM207 hM207 => ?_)
        refine j_aload_n C 0 0 dX9_copyFrom_70 rfl rfl ?_
        refine j_aload_n C 1 1 dX9_copyFrom_71 rfl rfl ?_
        refine y_getI C 8 _ _ fX9_copyFrom_31 rfl rfl ft_8_6 sb_8_6 hM207 dX9_copyFrom_72 (fun a208 ea208 la208 ua208 => ?_)
        obtain rfl : a208 = (M0.1 12 6).toInt := s_fX fM190 (by decide) (s_fa eM201 (by decide) (s_fa eM204 (by decide) (s_fa eM207 (by decide) (ea208))))
        refine y_putIF C 8 qX9_copyFrom_31 rfl rfl ft_8_6 sb_8_6 hM207 (PX.w hpr rfl rfl) dX9_copyFrom_75 (fun M210 eM210 hM210 => ?_)
        refine j_aload_n C 0 0 dX9_copyFrom_78 rfl rfl ?_
        refine j_aload_n C 1 1 dX9_copyFrom_79 rfl rfl ?_
        refine y_getI C 8 _ _ fX9_copyFrom_34 rfl rfl ft_8_7 sb_8_7 hM210 dX9_copyFrom_80 (fun a211 ea211 la211 ua211 => ?_)
        obtain rfl : a211 = (M0.1 12 7).toInt := s_fX fM190 (by decide) (s_fa eM201 (by decide) (s_fa eM204 (by decide) (s_fa eM207 (by decide) (s_fa eM210 (by decide) (ea211)))))
        refine y_putIF C 8 qX9_copyFrom_34 rfl rfl ft_8_7 sb_8_7 hM210 (PX.w hpr rfl rfl) dX9_copyFrom_83 (fun M213 eM213 hM213 => ?_)
        refine j_aload_n C 0 0 dX9_copyFrom_86 rfl rfl ?_
        refine j_aload_n C 1 1 dX9_copyFrom_87 rfl rfl ?_
        refine y_getI C 8 _ _ fX9_copyFrom_37 rfl rfl ft_8_8 sb_8_8 hM213 dX9_copyFrom_88 (fun a214 ea214 la214 ua214 => ?_)
        obtain rfl : a214 = (M0.1 12 8).toInt := s_fX fM190 (by decide) (s_fa eM201 (by decide) (s_fa eM204 (by decide) (s_fa eM207 (by decide) (s_fa eM210 (by decide) (s_fa eM213 (by decide) (ea214))))))
        refine y_putIF C 8 qX9_copyFrom_37 rfl rfl ft_8_8 sb_8_8 hM213 (PX.w hpr rfl rfl) dX9_copyFrom_91 (fun M216 eM216 hM216 => ?_)
        have u217c := cpa_c (M := M190) (M' := M216) (B := M0) (p0 := 39) (p1 := 13) (g0 := 40) (g1 := 14) (n := a189) (n' := 8) (by omega) ((((((wI_cell eM216 (by decide)).trans (wI_cell eM213 (by decide))).trans (wI_cell eM210 (by decide))).trans (wI_cell eM207 (by decide))).trans (wI_cell eM204 (by decide))).trans (wI_cell eM201 (by decide))) ((((((wI_cell eM216 (by decide)).trans (wI_cell eM213 (by decide))).trans (wI_cell eM210 (by decide))).trans (wI_cell eM207 (by decide))).trans (wI_cell eM204 (by decide))).trans (wI_cell eM201 (by decide))) (by omega)
        have zz38_0 : (M216.1 38 0).toInt = (M190.1 38 0).toInt := s_fb eM201 (by decide) (s_fb eM204 (by decide) (s_fb eM207 (by decide) (s_fb eM210 (by decide) (s_fb eM213 (by decide) (s_fb eM216 (by decide) (rfl))))))
        have zz38_3 := (Eq.trans (s_fb eM204 (by decide) (s_fb eM207 (by decide) (s_fb eM210 (by decide) (s_fb eM213 (by decide) (s_fb eM216 (by decide) (rfl))))) : (M216.1 38 3).toInt = (M201.1 38 3).toInt) (s_wr eM201 (by omega)))
        have zz38_4 := (Eq.trans (s_fb eM207 (by decide) (s_fb eM210 (by decide) (s_fb eM213 (by decide) (s_fb eM216 (by decide) (rfl)))) : (M216.1 38 4).toInt = (M204.1 38 4).toInt) (s_wr eM204 (by omega)))
        have zz38_5 := (Eq.trans (s_fb eM210 (by decide) (s_fb eM213 (by decide) (s_fb eM216 (by decide) (rfl))) : (M216.1 38 5).toInt = (M207.1 38 5).toInt) (s_wr eM207 (by omega)))
        have zz38_6 := (Eq.trans (s_fb eM213 (by decide) (s_fb eM216 (by decide) (rfl)) : (M216.1 38 6).toInt = (M210.1 38 6).toInt) (s_wr eM210 (by omega)))
        have zz38_7 := (Eq.trans (s_fb eM216 (by decide) (rfl) : (M216.1 38 7).toInt = (M213.1 38 7).toInt) (s_wr eM213 (by omega)))
        have zz38_8 := (Eq.trans (rfl : (M216.1 38 8).toInt = (M216.1 38 8).toInt) (s_wr eM216 (by omega)))
        have u217k := copy_k (M := M0) (N := M216) (d := 38) (s := 12) (p := 0) (by omega) (by omega) (by omega) (by omega) (by omega) (by omega) (by omega) (show b01 (CPA M216 M0 39 13 40 14 8) = 1 from by omega)
        exact hret _ _ _ dX9_copyFrom_94 ⟨hM216, (((((((FX.rf.tr fM190 (by decide)).wI eM201 (by decide)).wI eM204 (by decide)).wI eM207 (by decide)).wI eM210 (by decide)).wI eM213 (by decide)).wI eM216 (by decide)), by omega⟩
      · refine j_aload_n C 0 0 dX9_copyFrom_16 rfl rfl ?_
        refine y_getC C 8 39 fX9_copyFrom_15 rfl rfl ft_8_1 sm_8_1 rfl hM190 dX9_copyFrom_17 ?_
        refine j_iload_n C 2 2 dX9_copyFrom_20 rfl rfl ?_
        refine j_aload_n C 1 1 dX9_copyFrom_21 rfl rfl ?_
        refine y_getC C 8 13 fX9_copyFrom_15 rfl rfl ft_8_1 sm_8_1 rfl hM190 dX9_copyFrom_22 ?_
        refine j_iload_n C 2 2 dX9_copyFrom_25 rfl rfl ?_
        refine y_iald C 25 8 _ _ rfl rfl rfl ak_25 an_25 rfl (sb_25 _) hM190 dX9_copyFrom_26 (by omega) (fun a194 ea194 la194 ua194 => ?_)
        obtain rfl : a194 = (M0.1 13 (a189).toNat).toInt := s_fX fM190 (by decide) (ea194)
        refine y_iastF C 25 8 rfl rfl rfl ak_25 an_25 rfl (sb_25 _) hM190 (PX.w hpr rfl rfl) dX9_copyFrom_27 (by omega) (fun M195 eM195 hM195 => ?_)
        refine j_aload_n C 0 0 dX9_copyFrom_28 rfl rfl ?_
        refine y_getC C 8 40 fX9_copyFrom_19 rfl rfl ft_8_2 sm_8_2 rfl hM195 dX9_copyFrom_29 ?_
        refine j_iload_n C 2 2 dX9_copyFrom_32 rfl rfl ?_
        refine j_aload_n C 1 1 dX9_copyFrom_33 rfl rfl ?_
        refine y_getC C 8 14 fX9_copyFrom_19 rfl rfl ft_8_2 sm_8_2 rfl hM195 dX9_copyFrom_34 ?_
        refine j_iload_n C 2 2 dX9_copyFrom_37 rfl rfl ?_
        refine y_iald C 26 8 _ _ rfl rfl rfl ak_26 an_26 rfl (sb_26 _) hM195 dX9_copyFrom_38 (by omega) (fun a196 ea196 la196 ua196 => ?_)
        obtain rfl : a196 = (M0.1 14 (a189).toNat).toInt := s_fX fM190 (by decide) (s_fa eM195 (by decide) (ea196))
        refine y_iastF C 26 8 rfl rfl rfl ak_26 an_26 rfl (sb_26 _) hM195 (PX.w hpr rfl rfl) dX9_copyFrom_39 (by omega) (fun M197 eM197 hM197 => ?_)
        refine y_iinc C 2 [(2, .int (sI (a189 + 1))), (0, .ref (ad 38)), (1, .ref (ad 12))] dX9_copyFrom_40 rfl (by decide) rfl ?_
        refine j_goto C 10 dX9_copyFrom_43 (by decide) ?_
        have u198s := cpa_s (B := M0) (p1 := 13) (g1 := 14) (n := a189) (n' := (a189 + 1)) (by omega) (by omega) eM195 eM197 (by decide)
        have zz38_0 : (M197.1 38 0).toInt = (M190.1 38 0).toInt := s_fa eM195 (by decide) (s_fa eM197 (by decide) (rfl)); refine j_lv [1, 2, 0] rfl ?_; exact ih187 (a189 + 1) M197 (by omega) hM197 (((FX.rf.tr fM190 (by decide)).wI eM195 (by decide)).wI eM197 (by decide))
  have zz38_0 := (Eq.trans (rfl : (M103.1 38 0).toInt = (M103.1 38 0).toInt) (s_wr eM103 (by omega))); refine j_lv [1, 2, 0] rfl ?_; exact L188 2010 0 M103 (by omega) hM103 (FX.rf.wI eM103 (by decide))
set_option maxHeartbeats 4000000 in
theorem s20_X9_copyFrom {l : Launch} {dC : Nat → ClassId} {dI : Nat → Nat → Nat} {ad : Nat → Nat} {cA : Nat → ClassId} {pr : Nat → Nat → Bool} {Kz : mm_M} {M0 : mm_M} (hM0 : INV pr Kz M0) (hpr : PX pr) (hq8_0 : ∀ i, s_c i = 8 → pr i 0 = false)  : Cv l 0 yX9_copyFrom wsX9_copyFrom dC dI ad cA [.ref (ad 41), .ref (ad 12)] M0 (fun M' => INV pr Kz M' ∧ FX [41, 42, 43] M0 M' ∧ (b01 (skX M' 41 = skX M0 12) = 1)) := by
  refine cv_of (cc := cX9_copyFrom) (maxL := 3) (lv := [(0, .ref (ad 41)), (1, .ref (ad 12))]) (by decide) rfl (Nat.le_of_ble_eq_true rfl) rfl ?_
  intro p e s m args below meth c A Q C hret
  refine j_aload_n C 0 0 dX9_copyFrom_0 rfl rfl ?_
  refine j_aload_n C 1 1 dX9_copyFrom_1 rfl rfl ?_
  refine y_getI C 8 _ _ fX9_copyFrom_9 rfl rfl ft_8_0 sb_8_0 hM0 dX9_copyFrom_2 (fun a101 ea101 la101 ua101 => ?_)
  obtain rfl : a101 = (M0.1 12 0).toInt := ea101
  refine y_putI C 8 _ _ qX9_copyFrom_9 rfl rfl ft_8_0 sb_8_0 hM0 (hq8_0 _ rfl) dX9_copyFrom_5 (by omega) (fun M103 eM103 hM103 => ?_)
  refine y_iconst C dX9_copyFrom_8 ?_
  refine j_istore_n C 2 [(2, .int (sI 0)), (0, .ref (ad 41)), (1, .ref (ad 12))] dX9_copyFrom_9 rfl (by decide) rfl ?_
  have u104z := cpa_0 M103 M0 42 13 43 14
  have L188 : ∀ (n186 : Nat), ∀ (a189 : Int) (M190 : mm_M), (0 ≤ a189 ∧ a189 ≤ 8 ∧ ((M190.1 41 0).toInt = (M0.1 12 0).toInt) ∧ (b01 (CPA M190 M0 42 13 43 14 a189) = 1) ∧ (8 - a189) < (n186 : Int)) → INV pr Kz M190 → FX [41, 42, 43] M0 M190 → jj p l e (cn_R 0) s m args below meth c 0 0 Q 3 dC dI ad cA A M190 10 [(0, .ref (ad 41)), (1, .ref (ad 12)), (2, .int (sI a189))] [] := by
    intro n186
    induction n186 with
    | zero =>
      intro a189 M190 h191 hM190 fM190
      exfalso; omega
    | succ n186 ih187 =>
      intro a189 M190 h191 hM190 fM190
      refine j_iload_n C 2 2 dX9_copyFrom_10 rfl rfl ?_
      refine y_bipush C dX9_copyFrom_11 rfl ?_
      refine y_icmp_ge C 46 dX9_copyFrom_13 (by decide) (by omega) (fun h193 => ?_) (fun h193 => ?_)
      · refine j_aload_n C 0 0 dX9_copyFrom_46 rfl rfl ?_
        refine j_aload_n C 1 1 dX9_copyFrom_47 rfl rfl ?_
        refine y_getI C 8 _ _ fX9_copyFrom_22 rfl rfl ft_8_3 sb_8_3 hM190 dX9_copyFrom_48 (fun a199 ea199 la199 ua199 => ?_)
        obtain rfl : a199 = (M0.1 12 3).toInt := s_fX fM190 (by decide) (ea199)
        refine y_putI C 8 _ _ qX9_copyFrom_22 rfl rfl ft_8_3 sb_8_3 hM190 (PX.w hpr rfl rfl) dX9_copyFrom_51 (by omega) (fun M201 eM201 hM201 => ?_)
        refine j_aload_n C 0 0 dX9_copyFrom_54 rfl rfl ?_
        refine j_aload_n C 1 1 dX9_copyFrom_55 rfl rfl ?_
        refine y_getI C 8 _ _ fX9_copyFrom_25 rfl rfl ft_8_4 sb_8_4 hM201 dX9_copyFrom_56 (fun a202 ea202 la202 ua202 => ?_)
        obtain rfl : a202 = (M0.1 12 4).toInt := s_fX fM190 (by decide) (s_fa eM201 (by decide) (ea202))
        refine y_putI C 8 _ _ qX9_copyFrom_25 rfl rfl ft_8_4 sb_8_4 hM201 (PX.w hpr rfl rfl) dX9_copyFrom_59 (by omega) (fun M204 eM204 hM204 => ?_)
        refine j_aload_n C 0 0 dX9_copyFrom_62 rfl rfl ?_
        refine j_aload_n C 1 1 dX9_copyFrom_63 rfl rfl ?_
        refine y_getI C 8 _ _ fX9_copyFrom_28 rfl rfl ft_8_5 sb_8_5 hM204 dX9_copyFrom_64 (fun a205 ea205 la205 ua205 => ?_)
        obtain rfl : a205 = (M0.1 12 5).toInt := s_fX fM190 (by decide) (s_fa eM201 (by decide) (s_fa eM204 (by decide) (ea205)))
        refine y_putIF C 8 qX9_copyFrom_28 rfl rfl ft_8_5 sb_8_5 hM204 (PX.w hpr rfl rfl) dX9_copyFrom_67 (fun M207 eM207 hM207 => ?_)
        refine j_aload_n C 0 0 dX9_copyFrom_70 rfl rfl ?_
        refine j_aload_n C 1 1 dX9_copyFrom_71 rfl rfl ?_
        refine y_getI C 8 _ _ fX9_copyFrom_31 rfl rfl ft_8_6 sb_8_6 hM207 dX9_copyFrom_72 (fun a208 ea208 la208 ua208 => ?_)
        obtain rfl : a208 = (M0.1 12 6).toInt := s_fX fM190 (by decide) (s_fa eM201 (by decide) (s_fa eM204 (by decide) (s_fa eM207 (by decide) (ea208))))
        refine y_putIF C 8 qX9_copyFrom_31 rfl rfl ft_8_6 sb_8_6 hM207 (PX.w hpr rfl rfl) dX9_copyFrom_75 (fun M210 eM210 hM210 => ?_)
        refine j_aload_n C 0 0 dX9_copyFrom_78 rfl rfl ?_
        refine j_aload_n C 1 1 dX9_copyFrom_79 rfl rfl ?_
        refine y_getI C 8 _ _ fX9_copyFrom_34 rfl rfl ft_8_7 sb_8_7 hM210 dX9_copyFrom_80 (fun a211 ea211 la211 ua211 => ?_)
        obtain rfl : a211 = (M0.1 12 7).toInt := s_fX fM190 (by decide) (s_fa eM201 (by decide) (s_fa eM204 (by decide) (s_fa eM207 (by decide) (s_fa eM210 (by decide) (ea211)))))
        refine y_putIF C 8 qX9_copyFrom_34 rfl rfl ft_8_7 sb_8_7 hM210 (PX.w hpr rfl rfl) dX9_copyFrom_83 (fun M213 eM213 hM213 => ?_)
        refine j_aload_n C 0 0 dX9_copyFrom_86 rfl rfl ?_
        refine j_aload_n C 1 1 dX9_copyFrom_87 rfl rfl ?_
        refine y_getI C 8 _ _ fX9_copyFrom_37 rfl rfl ft_8_8 sb_8_8 hM213 dX9_copyFrom_88 (fun a214 ea214 la214 ua214 => ?_)
        obtain rfl : a214 = (M0.1 12 8).toInt := s_fX fM190 (by decide) (s_fa eM201 (by decide) (s_fa eM204 (by decide) (s_fa eM207 (by decide) (s_fa eM210 (by decide) (s_fa eM213 (by decide) (ea214))))))
        refine y_putIF C 8 qX9_copyFrom_37 rfl rfl ft_8_8 sb_8_8 hM213 (PX.w hpr rfl rfl) dX9_copyFrom_91 (fun M216 eM216 hM216 => ?_)
        have u217c := cpa_c (M := M190) (M' := M216) (B := M0) (p0 := 42) (p1 := 13) (g0 := 43) (g1 := 14) (n := a189) (n' := 8) (by omega) ((((((wI_cell eM216 (by decide)).trans (wI_cell eM213 (by decide))).trans (wI_cell eM210 (by decide))).trans (wI_cell eM207 (by decide))).trans (wI_cell eM204 (by decide))).trans (wI_cell eM201 (by decide))) ((((((wI_cell eM216 (by decide)).trans (wI_cell eM213 (by decide))).trans (wI_cell eM210 (by decide))).trans (wI_cell eM207 (by decide))).trans (wI_cell eM204 (by decide))).trans (wI_cell eM201 (by decide))) (by omega)
        have zz41_0 : (M216.1 41 0).toInt = (M190.1 41 0).toInt := s_fb eM201 (by decide) (s_fb eM204 (by decide) (s_fb eM207 (by decide) (s_fb eM210 (by decide) (s_fb eM213 (by decide) (s_fb eM216 (by decide) (rfl))))))
        have zz41_3 := (Eq.trans (s_fb eM204 (by decide) (s_fb eM207 (by decide) (s_fb eM210 (by decide) (s_fb eM213 (by decide) (s_fb eM216 (by decide) (rfl))))) : (M216.1 41 3).toInt = (M201.1 41 3).toInt) (s_wr eM201 (by omega)))
        have zz41_4 := (Eq.trans (s_fb eM207 (by decide) (s_fb eM210 (by decide) (s_fb eM213 (by decide) (s_fb eM216 (by decide) (rfl)))) : (M216.1 41 4).toInt = (M204.1 41 4).toInt) (s_wr eM204 (by omega)))
        have zz41_5 := (Eq.trans (s_fb eM210 (by decide) (s_fb eM213 (by decide) (s_fb eM216 (by decide) (rfl))) : (M216.1 41 5).toInt = (M207.1 41 5).toInt) (s_wr eM207 (by omega)))
        have zz41_6 := (Eq.trans (s_fb eM213 (by decide) (s_fb eM216 (by decide) (rfl)) : (M216.1 41 6).toInt = (M210.1 41 6).toInt) (s_wr eM210 (by omega)))
        have zz41_7 := (Eq.trans (s_fb eM216 (by decide) (rfl) : (M216.1 41 7).toInt = (M213.1 41 7).toInt) (s_wr eM213 (by omega)))
        have zz41_8 := (Eq.trans (rfl : (M216.1 41 8).toInt = (M216.1 41 8).toInt) (s_wr eM216 (by omega)))
        have u217k := copy_k (M := M0) (N := M216) (d := 41) (s := 12) (p := 0) (by omega) (by omega) (by omega) (by omega) (by omega) (by omega) (by omega) (show b01 (CPA M216 M0 42 13 43 14 8) = 1 from by omega)
        exact hret _ _ _ dX9_copyFrom_94 ⟨hM216, (((((((FX.rf.tr fM190 (by decide)).wI eM201 (by decide)).wI eM204 (by decide)).wI eM207 (by decide)).wI eM210 (by decide)).wI eM213 (by decide)).wI eM216 (by decide)), by omega⟩
      · refine j_aload_n C 0 0 dX9_copyFrom_16 rfl rfl ?_
        refine y_getC C 8 42 fX9_copyFrom_15 rfl rfl ft_8_1 sm_8_1 rfl hM190 dX9_copyFrom_17 ?_
        refine j_iload_n C 2 2 dX9_copyFrom_20 rfl rfl ?_
        refine j_aload_n C 1 1 dX9_copyFrom_21 rfl rfl ?_
        refine y_getC C 8 13 fX9_copyFrom_15 rfl rfl ft_8_1 sm_8_1 rfl hM190 dX9_copyFrom_22 ?_
        refine j_iload_n C 2 2 dX9_copyFrom_25 rfl rfl ?_
        refine y_iald C 25 8 _ _ rfl rfl rfl ak_25 an_25 rfl (sb_25 _) hM190 dX9_copyFrom_26 (by omega) (fun a194 ea194 la194 ua194 => ?_)
        obtain rfl : a194 = (M0.1 13 (a189).toNat).toInt := s_fX fM190 (by decide) (ea194)
        refine y_iastF C 25 8 rfl rfl rfl ak_25 an_25 rfl (sb_25 _) hM190 (PX.w hpr rfl rfl) dX9_copyFrom_27 (by omega) (fun M195 eM195 hM195 => ?_)
        refine j_aload_n C 0 0 dX9_copyFrom_28 rfl rfl ?_
        refine y_getC C 8 43 fX9_copyFrom_19 rfl rfl ft_8_2 sm_8_2 rfl hM195 dX9_copyFrom_29 ?_
        refine j_iload_n C 2 2 dX9_copyFrom_32 rfl rfl ?_
        refine j_aload_n C 1 1 dX9_copyFrom_33 rfl rfl ?_
        refine y_getC C 8 14 fX9_copyFrom_19 rfl rfl ft_8_2 sm_8_2 rfl hM195 dX9_copyFrom_34 ?_
        refine j_iload_n C 2 2 dX9_copyFrom_37 rfl rfl ?_
        refine y_iald C 26 8 _ _ rfl rfl rfl ak_26 an_26 rfl (sb_26 _) hM195 dX9_copyFrom_38 (by omega) (fun a196 ea196 la196 ua196 => ?_)
        obtain rfl : a196 = (M0.1 14 (a189).toNat).toInt := s_fX fM190 (by decide) (s_fa eM195 (by decide) (ea196))
        refine y_iastF C 26 8 rfl rfl rfl ak_26 an_26 rfl (sb_26 _) hM195 (PX.w hpr rfl rfl) dX9_copyFrom_39 (by omega) (fun M197 eM197 hM197 => ?_)
        refine y_iinc C 2 [(2, .int (sI (a189 + 1))), (0, .ref (ad 41)), (1, .ref (ad 12))] dX9_copyFrom_40 rfl (by decide) rfl ?_
        refine j_goto C 10 dX9_copyFrom_43 (by decide) ?_
        have u198s := cpa_s (B := M0) (p1 := 13) (g1 := 14) (n := a189) (n' := (a189 + 1)) (by omega) (by omega) eM195 eM197 (by decide)
        have zz41_0 : (M197.1 41 0).toInt = (M190.1 41 0).toInt := s_fa eM195 (by decide) (s_fa eM197 (by decide) (rfl)); refine j_lv [1, 2, 0] rfl ?_; exact ih187 (a189 + 1) M197 (by omega) hM197 (((FX.rf.tr fM190 (by decide)).wI eM195 (by decide)).wI eM197 (by decide))
  have zz41_0 := (Eq.trans (rfl : (M103.1 41 0).toInt = (M103.1 41 0).toInt) (s_wr eM103 (by omega))); refine j_lv [1, 2, 0] rfl ?_; exact L188 2010 0 M103 (by omega) hM103 (FX.rf.wI eM103 (by decide))
set_option maxHeartbeats 4000000 in
theorem s21_X9_copyFrom {l : Launch} {dC : Nat → ClassId} {dI : Nat → Nat → Nat} {ad : Nat → Nat} {cA : Nat → ClassId} {pr : Nat → Nat → Bool} {Kz : mm_M} {M0 : mm_M} (hM0 : INV pr Kz M0) (hpr : PX pr) (hq8_0 : ∀ i, s_c i = 8 → pr i 0 = false)  : Cv l 0 yX9_copyFrom wsX9_copyFrom dC dI ad cA [.ref (ad 44), .ref (ad 12)] M0 (fun M' => INV pr Kz M' ∧ FX [44, 45, 46] M0 M' ∧ (b01 (skX M' 44 = skX M0 12) = 1)) := by
  refine cv_of (cc := cX9_copyFrom) (maxL := 3) (lv := [(0, .ref (ad 44)), (1, .ref (ad 12))]) (by decide) rfl (Nat.le_of_ble_eq_true rfl) rfl ?_
  intro p e s m args below meth c A Q C hret
  refine j_aload_n C 0 0 dX9_copyFrom_0 rfl rfl ?_
  refine j_aload_n C 1 1 dX9_copyFrom_1 rfl rfl ?_
  refine y_getI C 8 _ _ fX9_copyFrom_9 rfl rfl ft_8_0 sb_8_0 hM0 dX9_copyFrom_2 (fun a101 ea101 la101 ua101 => ?_)
  obtain rfl : a101 = (M0.1 12 0).toInt := ea101
  refine y_putI C 8 _ _ qX9_copyFrom_9 rfl rfl ft_8_0 sb_8_0 hM0 (hq8_0 _ rfl) dX9_copyFrom_5 (by omega) (fun M103 eM103 hM103 => ?_)
  refine y_iconst C dX9_copyFrom_8 ?_
  refine j_istore_n C 2 [(2, .int (sI 0)), (0, .ref (ad 44)), (1, .ref (ad 12))] dX9_copyFrom_9 rfl (by decide) rfl ?_
  have u104z := cpa_0 M103 M0 45 13 46 14
  have L188 : ∀ (n186 : Nat), ∀ (a189 : Int) (M190 : mm_M), (0 ≤ a189 ∧ a189 ≤ 8 ∧ ((M190.1 44 0).toInt = (M0.1 12 0).toInt) ∧ (b01 (CPA M190 M0 45 13 46 14 a189) = 1) ∧ (8 - a189) < (n186 : Int)) → INV pr Kz M190 → FX [44, 45, 46] M0 M190 → jj p l e (cn_R 0) s m args below meth c 0 0 Q 3 dC dI ad cA A M190 10 [(0, .ref (ad 44)), (1, .ref (ad 12)), (2, .int (sI a189))] [] := by
    intro n186
    induction n186 with
    | zero =>
      intro a189 M190 h191 hM190 fM190
      exfalso; omega
    | succ n186 ih187 =>
      intro a189 M190 h191 hM190 fM190
      refine j_iload_n C 2 2 dX9_copyFrom_10 rfl rfl ?_
      refine y_bipush C dX9_copyFrom_11 rfl ?_
      refine y_icmp_ge C 46 dX9_copyFrom_13 (by decide) (by omega) (fun h193 => ?_) (fun h193 => ?_)
      · refine j_aload_n C 0 0 dX9_copyFrom_46 rfl rfl ?_
        refine j_aload_n C 1 1 dX9_copyFrom_47 rfl rfl ?_
        refine y_getI C 8 _ _ fX9_copyFrom_22 rfl rfl ft_8_3 sb_8_3 hM190 dX9_copyFrom_48 (fun a199 ea199 la199 ua199 => ?_)
        obtain rfl : a199 = (M0.1 12 3).toInt := s_fX fM190 (by decide) (ea199)
        refine y_putI C 8 _ _ qX9_copyFrom_22 rfl rfl ft_8_3 sb_8_3 hM190 (PX.w hpr rfl rfl) dX9_copyFrom_51 (by omega) (fun M201 eM201 hM201 => ?_)
        refine j_aload_n C 0 0 dX9_copyFrom_54 rfl rfl ?_
        refine j_aload_n C 1 1 dX9_copyFrom_55 rfl rfl ?_
        refine y_getI C 8 _ _ fX9_copyFrom_25 rfl rfl ft_8_4 sb_8_4 hM201 dX9_copyFrom_56 (fun a202 ea202 la202 ua202 => ?_)
        obtain rfl : a202 = (M0.1 12 4).toInt := s_fX fM190 (by decide) (s_fa eM201 (by decide) (ea202))
        refine y_putI C 8 _ _ qX9_copyFrom_25 rfl rfl ft_8_4 sb_8_4 hM201 (PX.w hpr rfl rfl) dX9_copyFrom_59 (by omega) (fun M204 eM204 hM204 => ?_)
        refine j_aload_n C 0 0 dX9_copyFrom_62 rfl rfl ?_
        refine j_aload_n C 1 1 dX9_copyFrom_63 rfl rfl ?_
        refine y_getI C 8 _ _ fX9_copyFrom_28 rfl rfl ft_8_5 sb_8_5 hM204 dX9_copyFrom_64 (fun a205 ea205 la205 ua205 => ?_)
        obtain rfl : a205 = (M0.1 12 5).toInt := s_fX fM190 (by decide) (s_fa eM201 (by decide) (s_fa eM204 (by decide) (ea205)))
        refine y_putIF C 8 qX9_copyFrom_28 rfl rfl ft_8_5 sb_8_5 hM204 (PX.w hpr rfl rfl) dX9_copyFrom_67 (fun M207 eM207 hM207 => ?_)
        refine j_aload_n C 0 0 dX9_copyFrom_70 rfl rfl ?_
        refine j_aload_n C 1 1 dX9_copyFrom_71 rfl rfl ?_
        refine y_getI C 8 _ _ fX9_copyFrom_31 rfl rfl ft_8_6 sb_8_6 hM207 dX9_copyFrom_72 (fun a208 ea208 la208 ua208 => ?_)
        obtain rfl : a208 = (M0.1 12 6).toInt := s_fX fM190 (by decide) (s_fa eM201 (by decide) (s_fa eM204 (by decide) (s_fa eM207 (by decide) (ea208))))
        refine y_putIF C 8 qX9_copyFrom_31 rfl rfl ft_8_6 sb_8_6 hM207 (PX.w hpr rfl rfl) dX9_copyFrom_75 (fun M210 eM210 hM210 => ?_)
        refine j_aload_n C 0 0 dX9_copyFrom_78 rfl rfl ?_
        refine j_aload_n C 1 1 dX9_copyFrom_79 rfl rfl ?_
        refine y_getI C 8 _ _ fX9_copyFrom_34 rfl rfl ft_8_7 sb_8_7 hM210 dX9_copyFrom_80 (fun a211 ea211 la211 ua211 => ?_)
        obtain rfl : a211 = (M0.1 12 7).toInt := s_fX fM190 (by decide) (s_fa eM201 (by decide) (s_fa eM204 (by decide) (s_fa eM207 (by decide) (s_fa eM210 (by decide) (ea211)))))
        refine y_putIF C 8 qX9_copyFrom_34 rfl rfl ft_8_7 sb_8_7 hM210 (PX.w hpr rfl rfl) dX9_copyFrom_83 (fun M213 eM213 hM213 => ?_)
        refine j_aload_n C 0 0 dX9_copyFrom_86 rfl rfl ?_
        refine j_aload_n C 1 1 dX9_copyFrom_87 rfl rfl ?_
        refine y_getI C 8 _ _ fX9_copyFrom_37 rfl rfl ft_8_8 sb_8_8 hM213 dX9_copyFrom_88 (fun a214 ea214 la214 ua214 => ?_)
        obtain rfl : a214 = (M0.1 12 8).toInt := s_fX fM190 (by decide) (s_fa eM201 (by decide) (s_fa eM204 (by decide) (s_fa eM207 (by decide) (s_fa eM210 (by decide) (s_fa eM213 (by decide) (ea214))))))
        refine y_putIF C 8 qX9_copyFrom_37 rfl rfl ft_8_8 sb_8_8 hM213 (PX.w hpr rfl rfl) dX9_copyFrom_91 (fun M216 eM216 hM216 => ?_)
        have u217c := cpa_c (M := M190) (M' := M216) (B := M0) (p0 := 45) (p1 := 13) (g0 := 46) (g1 := 14) (n := a189) (n' := 8) (by omega) ((((((wI_cell eM216 (by decide)).trans (wI_cell eM213 (by decide))).trans (wI_cell eM210 (by decide))).trans (wI_cell eM207 (by decide))).trans (wI_cell eM204 (by decide))).trans (wI_cell eM201 (by decide))) ((((((wI_cell eM216 (by decide)).trans (wI_cell eM213 (by decide))).trans (wI_cell eM210 (by decide))).trans (wI_cell eM207 (by decide))).trans (wI_cell eM204 (by decide))).trans (wI_cell eM201 (by decide))) (by omega)
        have zz44_0 : (M216.1 44 0).toInt = (M190.1 44 0).toInt := s_fb eM201 (by decide) (s_fb eM204 (by decide) (s_fb eM207 (by decide) (s_fb eM210 (by decide) (s_fb eM213 (by decide) (s_fb eM216 (by decide) (rfl))))))
        have zz44_3 := (Eq.trans (s_fb eM204 (by decide) (s_fb eM207 (by decide) (s_fb eM210 (by decide) (s_fb eM213 (by decide) (s_fb eM216 (by decide) (rfl))))) : (M216.1 44 3).toInt = (M201.1 44 3).toInt) (s_wr eM201 (by omega)))
        have zz44_4 := (Eq.trans (s_fb eM207 (by decide) (s_fb eM210 (by decide) (s_fb eM213 (by decide) (s_fb eM216 (by decide) (rfl)))) : (M216.1 44 4).toInt = (M204.1 44 4).toInt) (s_wr eM204 (by omega)))
        have zz44_5 := (Eq.trans (s_fb eM210 (by decide) (s_fb eM213 (by decide) (s_fb eM216 (by decide) (rfl))) : (M216.1 44 5).toInt = (M207.1 44 5).toInt) (s_wr eM207 (by omega)))
        have zz44_6 := (Eq.trans (s_fb eM213 (by decide) (s_fb eM216 (by decide) (rfl)) : (M216.1 44 6).toInt = (M210.1 44 6).toInt) (s_wr eM210 (by omega)))
        have zz44_7 := (Eq.trans (s_fb eM216 (by decide) (rfl) : (M216.1 44 7).toInt = (M213.1 44 7).toInt) (s_wr eM213 (by omega)))
        have zz44_8 := (Eq.trans (rfl : (M216.1 44 8).toInt = (M216.1 44 8).toInt) (s_wr eM216 (by omega)))
        have u217k := copy_k (M := M0) (N := M216) (d := 44) (s := 12) (p := 0) (by omega) (by omega) (by omega) (by omega) (by omega) (by omega) (by omega) (show b01 (CPA M216 M0 45 13 46 14 8) = 1 from by omega)
        exact hret _ _ _ dX9_copyFrom_94 ⟨hM216, (((((((FX.rf.tr fM190 (by decide)).wI eM201 (by decide)).wI eM204 (by decide)).wI eM207 (by decide)).wI eM210 (by decide)).wI eM213 (by decide)).wI eM216 (by decide)), by omega⟩
      · refine j_aload_n C 0 0 dX9_copyFrom_16 rfl rfl ?_
        refine y_getC C 8 45 fX9_copyFrom_15 rfl rfl ft_8_1 sm_8_1 rfl hM190 dX9_copyFrom_17 ?_
        refine j_iload_n C 2 2 dX9_copyFrom_20 rfl rfl ?_
        refine j_aload_n C 1 1 dX9_copyFrom_21 rfl rfl ?_
        refine y_getC C 8 13 fX9_copyFrom_15 rfl rfl ft_8_1 sm_8_1 rfl hM190 dX9_copyFrom_22 ?_
        refine j_iload_n C 2 2 dX9_copyFrom_25 rfl rfl ?_
        refine y_iald C 25 8 _ _ rfl rfl rfl ak_25 an_25 rfl (sb_25 _) hM190 dX9_copyFrom_26 (by omega) (fun a194 ea194 la194 ua194 => ?_)
        obtain rfl : a194 = (M0.1 13 (a189).toNat).toInt := s_fX fM190 (by decide) (ea194)
        refine y_iastF C 25 8 rfl rfl rfl ak_25 an_25 rfl (sb_25 _) hM190 (PX.w hpr rfl rfl) dX9_copyFrom_27 (by omega) (fun M195 eM195 hM195 => ?_)
        refine j_aload_n C 0 0 dX9_copyFrom_28 rfl rfl ?_
        refine y_getC C 8 46 fX9_copyFrom_19 rfl rfl ft_8_2 sm_8_2 rfl hM195 dX9_copyFrom_29 ?_
        refine j_iload_n C 2 2 dX9_copyFrom_32 rfl rfl ?_
        refine j_aload_n C 1 1 dX9_copyFrom_33 rfl rfl ?_
        refine y_getC C 8 14 fX9_copyFrom_19 rfl rfl ft_8_2 sm_8_2 rfl hM195 dX9_copyFrom_34 ?_
        refine j_iload_n C 2 2 dX9_copyFrom_37 rfl rfl ?_
        refine y_iald C 26 8 _ _ rfl rfl rfl ak_26 an_26 rfl (sb_26 _) hM195 dX9_copyFrom_38 (by omega) (fun a196 ea196 la196 ua196 => ?_)
        obtain rfl : a196 = (M0.1 14 (a189).toNat).toInt := s_fX fM190 (by decide) (s_fa eM195 (by decide) (ea196))
        refine y_iastF C 26 8 rfl rfl rfl ak_26 an_26 rfl (sb_26 _) hM195 (PX.w hpr rfl rfl) dX9_copyFrom_39 (by omega) (fun M197 eM197 hM197 => ?_)
        refine y_iinc C 2 [(2, .int (sI (a189 + 1))), (0, .ref (ad 44)), (1, .ref (ad 12))] dX9_copyFrom_40 rfl (by decide) rfl ?_
        refine j_goto C 10 dX9_copyFrom_43 (by decide) ?_
        have u198s := cpa_s (B := M0) (p1 := 13) (g1 := 14) (n := a189) (n' := (a189 + 1)) (by omega) (by omega) eM195 eM197 (by decide)
        have zz44_0 : (M197.1 44 0).toInt = (M190.1 44 0).toInt := s_fa eM195 (by decide) (s_fa eM197 (by decide) (rfl)); refine j_lv [1, 2, 0] rfl ?_; exact ih187 (a189 + 1) M197 (by omega) hM197 (((FX.rf.tr fM190 (by decide)).wI eM195 (by decide)).wI eM197 (by decide))
  have zz44_0 := (Eq.trans (rfl : (M103.1 44 0).toInt = (M103.1 44 0).toInt) (s_wr eM103 (by omega))); refine j_lv [1, 2, 0] rfl ?_; exact L188 2010 0 M103 (by omega) hM103 (FX.rf.wI eM103 (by decide))
set_option maxHeartbeats 4000000 in
theorem s22_X9_copyFrom {l : Launch} {dC : Nat → ClassId} {dI : Nat → Nat → Nat} {ad : Nat → Nat} {cA : Nat → ClassId} {pr : Nat → Nat → Bool} {Kz : mm_M} {M0 : mm_M} (hM0 : INV pr Kz M0) (hpr : PX pr) (hq8_0 : ∀ i, s_c i = 8 → pr i 0 = false)  : Cv l 0 yX9_copyFrom wsX9_copyFrom dC dI ad cA [.ref (ad 47), .ref (ad 12)] M0 (fun M' => INV pr Kz M' ∧ FX [47, 48, 49] M0 M' ∧ (b01 (skX M' 47 = skX M0 12) = 1)) := by
  refine cv_of (cc := cX9_copyFrom) (maxL := 3) (lv := [(0, .ref (ad 47)), (1, .ref (ad 12))]) (by decide) rfl (Nat.le_of_ble_eq_true rfl) rfl ?_
  intro p e s m args below meth c A Q C hret
  refine j_aload_n C 0 0 dX9_copyFrom_0 rfl rfl ?_
  refine j_aload_n C 1 1 dX9_copyFrom_1 rfl rfl ?_
  refine y_getI C 8 _ _ fX9_copyFrom_9 rfl rfl ft_8_0 sb_8_0 hM0 dX9_copyFrom_2 (fun a101 ea101 la101 ua101 => ?_)
  obtain rfl : a101 = (M0.1 12 0).toInt := ea101
  refine y_putI C 8 _ _ qX9_copyFrom_9 rfl rfl ft_8_0 sb_8_0 hM0 (hq8_0 _ rfl) dX9_copyFrom_5 (by omega) (fun M103 eM103 hM103 => ?_)
  refine y_iconst C dX9_copyFrom_8 ?_
  refine j_istore_n C 2 [(2, .int (sI 0)), (0, .ref (ad 47)), (1, .ref (ad 12))] dX9_copyFrom_9 rfl (by decide) rfl ?_
  have u104z := cpa_0 M103 M0 48 13 49 14
  have L188 : ∀ (n186 : Nat), ∀ (a189 : Int) (M190 : mm_M), (0 ≤ a189 ∧ a189 ≤ 8 ∧ ((M190.1 47 0).toInt = (M0.1 12 0).toInt) ∧ (b01 (CPA M190 M0 48 13 49 14 a189) = 1) ∧ (8 - a189) < (n186 : Int)) → INV pr Kz M190 → FX [47, 48, 49] M0 M190 → jj p l e (cn_R 0) s m args below meth c 0 0 Q 3 dC dI ad cA A M190 10 [(0, .ref (ad 47)), (1, .ref (ad 12)), (2, .int (sI a189))] [] := by
    intro n186
    induction n186 with
    | zero =>
      intro a189 M190 h191 hM190 fM190
      exfalso; omega
    | succ n186 ih187 =>
      intro a189 M190 h191 hM190 fM190
      refine j_iload_n C 2 2 dX9_copyFrom_10 rfl rfl ?_
      refine y_bipush C dX9_copyFrom_11 rfl ?_
      refine y_icmp_ge C 46 dX9_copyFrom_13 (by decide) (by omega) (fun h193 => ?_) (fun h193 => ?_)
      · refine j_aload_n C 0 0 dX9_copyFrom_46 rfl rfl ?_
        refine j_aload_n C 1 1 dX9_copyFrom_47 rfl rfl ?_
        refine y_getI C 8 _ _ fX9_copyFrom_22 rfl rfl ft_8_3 sb_8_3 hM190 dX9_copyFrom_48 (fun a199 ea199 la199 ua199 => ?_)
        obtain rfl : a199 = (M0.1 12 3).toInt := s_fX fM190 (by decide) (ea199)
        refine y_putI C 8 _ _ qX9_copyFrom_22 rfl rfl ft_8_3 sb_8_3 hM190 (PX.w hpr rfl rfl) dX9_copyFrom_51 (by omega) (fun M201 eM201 hM201 => ?_)
        refine j_aload_n C 0 0 dX9_copyFrom_54 rfl rfl ?_
        refine j_aload_n C 1 1 dX9_copyFrom_55 rfl rfl ?_
        refine y_getI C 8 _ _ fX9_copyFrom_25 rfl rfl ft_8_4 sb_8_4 hM201 dX9_copyFrom_56 (fun a202 ea202 la202 ua202 => ?_)
        obtain rfl : a202 = (M0.1 12 4).toInt := s_fX fM190 (by decide) (s_fa eM201 (by decide) (ea202))
        refine y_putI C 8 _ _ qX9_copyFrom_25 rfl rfl ft_8_4 sb_8_4 hM201 (PX.w hpr rfl rfl) dX9_copyFrom_59 (by omega) (fun M204 eM204 hM204 => ?_)
        refine j_aload_n C 0 0 dX9_copyFrom_62 rfl rfl ?_
        refine j_aload_n C 1 1 dX9_copyFrom_63 rfl rfl ?_
        refine y_getI C 8 _ _ fX9_copyFrom_28 rfl rfl ft_8_5 sb_8_5 hM204 dX9_copyFrom_64 (fun a205 ea205 la205 ua205 => ?_)
        obtain rfl : a205 = (M0.1 12 5).toInt := s_fX fM190 (by decide) (s_fa eM201 (by decide) (s_fa eM204 (by decide) (ea205)))
        refine y_putIF C 8 qX9_copyFrom_28 rfl rfl ft_8_5 sb_8_5 hM204 (PX.w hpr rfl rfl) dX9_copyFrom_67 (fun M207 eM207 hM207 => ?_)
        refine j_aload_n C 0 0 dX9_copyFrom_70 rfl rfl ?_
        refine j_aload_n C 1 1 dX9_copyFrom_71 rfl rfl ?_
        refine y_getI C 8 _ _ fX9_copyFrom_31 rfl rfl ft_8_6 sb_8_6 hM207 dX9_copyFrom_72 (fun a208 ea208 la208 ua208 => ?_)
        obtain rfl : a208 = (M0.1 12 6).toInt := s_fX fM190 (by decide) (s_fa eM201 (by decide) (s_fa eM204 (by decide) (s_fa eM207 (by decide) (ea208))))
        refine y_putIF C 8 qX9_copyFrom_31 rfl rfl ft_8_6 sb_8_6 hM207 (PX.w hpr rfl rfl) dX9_copyFrom_75 (fun M210 eM210 hM210 => ?_)
        refine j_aload_n C 0 0 dX9_copyFrom_78 rfl rfl ?_
        refine j_aload_n C 1 1 dX9_copyFrom_79 rfl rfl ?_
        refine y_getI C 8 _ _ fX9_copyFrom_34 rfl rfl ft_8_7 sb_8_7 hM210 dX9_copyFrom_80 (fun a211 ea211 la211 ua211 => ?_)
        obtain rfl : a211 = (M0.1 12 7).toInt := s_fX fM190 (by decide) (s_fa eM201 (by decide) (s_fa eM204 (by decide) (s_fa eM207 (by decide) (s_fa eM210 (by decide) (ea211)))))
        refine y_putIF C 8 qX9_copyFrom_34 rfl rfl ft_8_7 sb_8_7 hM210 (PX.w hpr rfl rfl) dX9_copyFrom_83 (fun M213 eM213 hM213 => ?_)
        refine j_aload_n C 0 0 dX9_copyFrom_86 rfl rfl ?_
        refine j_aload_n C 1 1 dX9_copyFrom_87 rfl rfl ?_
        refine y_getI C 8 _ _ fX9_copyFrom_37 rfl rfl ft_8_8 sb_8_8 hM213 dX9_copyFrom_88 (fun a214 ea214 la214 ua214 => ?_)
        obtain rfl : a214 = (M0.1 12 8).toInt := s_fX fM190 (by decide) (s_fa eM201 (by decide) (s_fa eM204 (by decide) (s_fa eM207 (by decide) (s_fa eM210 (by decide) (s_fa eM213 (by decide) (ea214))))))
        refine y_putIF C 8 qX9_copyFrom_37 rfl rfl ft_8_8 sb_8_8 hM213 (PX.w hpr rfl rfl) dX9_copyFrom_91 (fun M216 eM216 hM216 => ?_)
        have u217c := cpa_c (M := M190) (M' := M216) (B := M0) (p0 := 48) (p1 := 13) (g0 := 49) (g1 := 14) (n := a189) (n' := 8) (by omega) ((((((wI_cell eM216 (by decide)).trans (wI_cell eM213 (by decide))).trans (wI_cell eM210 (by decide))).trans (wI_cell eM207 (by decide))).trans (wI_cell eM204 (by decide))).trans (wI_cell eM201 (by decide))) ((((((wI_cell eM216 (by decide)).trans (wI_cell eM213 (by decide))).trans (wI_cell eM210 (by decide))).trans (wI_cell eM207 (by decide))).trans (wI_cell eM204 (by decide))).trans (wI_cell eM201 (by decide))) (by omega)
        have zz47_0 : (M216.1 47 0).toInt = (M190.1 47 0).toInt := s_fb eM201 (by decide) (s_fb eM204 (by decide) (s_fb eM207 (by decide) (s_fb eM210 (by decide) (s_fb eM213 (by decide) (s_fb eM216 (by decide) (rfl))))))
        have zz47_3 := (Eq.trans (s_fb eM204 (by decide) (s_fb eM207 (by decide) (s_fb eM210 (by decide) (s_fb eM213 (by decide) (s_fb eM216 (by decide) (rfl))))) : (M216.1 47 3).toInt = (M201.1 47 3).toInt) (s_wr eM201 (by omega)))
        have zz47_4 := (Eq.trans (s_fb eM207 (by decide) (s_fb eM210 (by decide) (s_fb eM213 (by decide) (s_fb eM216 (by decide) (rfl)))) : (M216.1 47 4).toInt = (M204.1 47 4).toInt) (s_wr eM204 (by omega)))
        have zz47_5 := (Eq.trans (s_fb eM210 (by decide) (s_fb eM213 (by decide) (s_fb eM216 (by decide) (rfl))) : (M216.1 47 5).toInt = (M207.1 47 5).toInt) (s_wr eM207 (by omega)))
        have zz47_6 := (Eq.trans (s_fb eM213 (by decide) (s_fb eM216 (by decide) (rfl)) : (M216.1 47 6).toInt = (M210.1 47 6).toInt) (s_wr eM210 (by omega)))
        have zz47_7 := (Eq.trans (s_fb eM216 (by decide) (rfl) : (M216.1 47 7).toInt = (M213.1 47 7).toInt) (s_wr eM213 (by omega)))
        have zz47_8 := (Eq.trans (rfl : (M216.1 47 8).toInt = (M216.1 47 8).toInt) (s_wr eM216 (by omega)))
        have u217k := copy_k (M := M0) (N := M216) (d := 47) (s := 12) (p := 0) (by omega) (by omega) (by omega) (by omega) (by omega) (by omega) (by omega) (show b01 (CPA M216 M0 48 13 49 14 8) = 1 from by omega)
        exact hret _ _ _ dX9_copyFrom_94 ⟨hM216, (((((((FX.rf.tr fM190 (by decide)).wI eM201 (by decide)).wI eM204 (by decide)).wI eM207 (by decide)).wI eM210 (by decide)).wI eM213 (by decide)).wI eM216 (by decide)), by omega⟩
      · refine j_aload_n C 0 0 dX9_copyFrom_16 rfl rfl ?_
        refine y_getC C 8 48 fX9_copyFrom_15 rfl rfl ft_8_1 sm_8_1 rfl hM190 dX9_copyFrom_17 ?_
        refine j_iload_n C 2 2 dX9_copyFrom_20 rfl rfl ?_
        refine j_aload_n C 1 1 dX9_copyFrom_21 rfl rfl ?_
        refine y_getC C 8 13 fX9_copyFrom_15 rfl rfl ft_8_1 sm_8_1 rfl hM190 dX9_copyFrom_22 ?_
        refine j_iload_n C 2 2 dX9_copyFrom_25 rfl rfl ?_
        refine y_iald C 25 8 _ _ rfl rfl rfl ak_25 an_25 rfl (sb_25 _) hM190 dX9_copyFrom_26 (by omega) (fun a194 ea194 la194 ua194 => ?_)
        obtain rfl : a194 = (M0.1 13 (a189).toNat).toInt := s_fX fM190 (by decide) (ea194)
        refine y_iastF C 25 8 rfl rfl rfl ak_25 an_25 rfl (sb_25 _) hM190 (PX.w hpr rfl rfl) dX9_copyFrom_27 (by omega) (fun M195 eM195 hM195 => ?_)
        refine j_aload_n C 0 0 dX9_copyFrom_28 rfl rfl ?_
        refine y_getC C 8 49 fX9_copyFrom_19 rfl rfl ft_8_2 sm_8_2 rfl hM195 dX9_copyFrom_29 ?_
        refine j_iload_n C 2 2 dX9_copyFrom_32 rfl rfl ?_
        refine j_aload_n C 1 1 dX9_copyFrom_33 rfl rfl ?_
        refine y_getC C 8 14 fX9_copyFrom_19 rfl rfl ft_8_2 sm_8_2 rfl hM195 dX9_copyFrom_34 ?_
        refine j_iload_n C 2 2 dX9_copyFrom_37 rfl rfl ?_
        refine y_iald C 26 8 _ _ rfl rfl rfl ak_26 an_26 rfl (sb_26 _) hM195 dX9_copyFrom_38 (by omega) (fun a196 ea196 la196 ua196 => ?_)
        obtain rfl : a196 = (M0.1 14 (a189).toNat).toInt := s_fX fM190 (by decide) (s_fa eM195 (by decide) (ea196))
        refine y_iastF C 26 8 rfl rfl rfl ak_26 an_26 rfl (sb_26 _) hM195 (PX.w hpr rfl rfl) dX9_copyFrom_39 (by omega) (fun M197 eM197 hM197 => ?_)
        refine y_iinc C 2 [(2, .int (sI (a189 + 1))), (0, .ref (ad 47)), (1, .ref (ad 12))] dX9_copyFrom_40 rfl (by decide) rfl ?_
        refine j_goto C 10 dX9_copyFrom_43 (by decide) ?_
        have u198s := cpa_s (B := M0) (p1 := 13) (g1 := 14) (n := a189) (n' := (a189 + 1)) (by omega) (by omega) eM195 eM197 (by decide)
        have zz47_0 : (M197.1 47 0).toInt = (M190.1 47 0).toInt := s_fa eM195 (by decide) (s_fa eM197 (by decide) (rfl)); refine j_lv [1, 2, 0] rfl ?_; exact ih187 (a189 + 1) M197 (by omega) hM197 (((FX.rf.tr fM190 (by decide)).wI eM195 (by decide)).wI eM197 (by decide))
  have zz47_0 := (Eq.trans (rfl : (M103.1 47 0).toInt = (M103.1 47 0).toInt) (s_wr eM103 (by omega))); refine j_lv [1, 2, 0] rfl ?_; exact L188 2010 0 M103 (by omega) hM103 (FX.rf.wI eM103 (by decide))
