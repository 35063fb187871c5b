section
set_option maxHeartbeats 4000000 in
theorem s9_X9_copyFrom {l : Launch} {dC : Nat → ClassId} {dI : Nat → Nat → Nat} {ad : Nat → Nat} {cA : Nat → ClassId} {pr : Nat → Nat → Bool} {Kz : mm_M} {M0 : mm_M} (hM0 : INV pr Kz M0) (hpr : PX pr) (hq8_0 : ∀ i, s_c i = 8 → pr i 0 = false)  : Cv l 0 yX9_copyFrom wsX9_copyFrom dC dI ad cA [.ref (ad 38), .ref (ad 15)] M0 (fun M' => INV pr Kz M' ∧ FX [38, 39, 40] M0 M' ∧ (b01 (skX M' 38 = skX M0 15) = 1)) := by
  refine cv_of (cc := cX9_copyFrom) (maxL := 3) (lv := [(0, .ref (ad 38)), (1, .ref (ad 15))]) (by decide) rfl (Nat.le_of_ble_eq_true rfl) rfl ?_
  intro p e s m args below meth c A Q C hret
  refine j_aload_n C 0 0 dX9_copyFrom_0 rfl rfl ?_
  refine j_aload_n C 1 1 dX9_copyFrom_1 rfl rfl ?_
  refine y_getI C 8 _ _ fX9_copyFrom_9 rfl rfl ft_8_0 sb_8_0 hM0 dX9_copyFrom_2 (fun a101 ea101 la101 ua101 => ?_)
  obtain rfl : a101 = (M0.1 15 0).toInt := ea101
  refine y_putI C 8 _ _ qX9_copyFrom_9 rfl rfl ft_8_0 sb_8_0 hM0 (hq8_0 _ rfl) dX9_copyFrom_5 (by exact ⟨⟨(by omega), (by omega)⟩, ⟨la101, ua101⟩⟩) (fun M103 eM103 hM103 => ?_)
  refine y_iconst C dX9_copyFrom_8 ?_
  refine j_istore_n C 2 [(2, .int (sI 0)), (0, .ref (ad 38)), (1, .ref (ad 15))] dX9_copyFrom_9 rfl (by decide) rfl ?_
  have u104z := cpa_0 M103 M0 39 16 40 17
  have L188 : ∀ (n186 : Nat), ∀ (a189 : Int) (M190 : mm_M), (0 ≤ a189 ∧ a189 ≤ 8 ∧ ((M190.1 38 0).toInt = (M0.1 15 0).toInt) ∧ (b01 (CPA M190 M0 39 16 40 17 a189) = 1) ∧ (8 - a189) < (n186 : Int)) → INV pr Kz M190 → FX [38, 39, 40] M0 M190 → jj p l e (cn_R 0) s m args below meth c 0 0 Q 3 dC dI ad cA A M190 10 [(0, .ref (ad 38)), (1, .ref (ad 15)), (2, .int (sI a189))] [] := by
    intro n186
    induction n186 with
    | zero =>
      intro a189 M190 h191 hM190 fM190
      exfalso; omega
    | succ n186 ih187 =>
      intro a189 M190 h191 hM190 fM190
      refine j_iload_n C 2 2 dX9_copyFrom_10 rfl rfl ?_
      refine y_bipush C dX9_copyFrom_11 rfl ?_
      refine y_icmp_ge C 46 dX9_copyFrom_13 (by decide) (by exact ⟨⟨(by omega), (by omega)⟩, ⟨(by decide), (by decide)⟩⟩) (fun h193 => ?_) (fun h193 => ?_)
      · refine j_aload_n C 0 0 dX9_copyFrom_46 rfl rfl ?_
        refine j_aload_n C 1 1 dX9_copyFrom_47 rfl rfl ?_
        refine y_getI C 8 _ _ fX9_copyFrom_22 rfl rfl ft_8_3 sb_8_3 hM190 dX9_copyFrom_48 (fun a199 ea199 la199 ua199 => ?_)
        obtain rfl : a199 = (M0.1 15 3).toInt := s_fX fM190 (by decide) (ea199)
        refine y_putI C 8 _ _ qX9_copyFrom_22 rfl rfl ft_8_3 sb_8_3 hM190 (PX.w hpr rfl rfl) dX9_copyFrom_51 (by exact ⟨⟨(by (clear h193 fM190 hM190 h191 ih187 u104z hM103 eM103 ua101 la101 hret C hq8_0 hpr hM0; omega)), (by (clear h193 fM190 hM190 h191 ih187 u104z hM103 eM103 ua101 la101 hret C hq8_0 hpr hM0; omega))⟩, ⟨la199, ua199⟩⟩) (fun M201 eM201 hM201 => ?_)
        refine j_aload_n C 0 0 dX9_copyFrom_54 rfl rfl ?_
        refine j_aload_n C 1 1 dX9_copyFrom_55 rfl rfl ?_
        refine y_getI C 8 _ _ fX9_copyFrom_25 rfl rfl ft_8_4 sb_8_4 hM201 dX9_copyFrom_56 (fun a202 ea202 la202 ua202 => ?_)
        obtain rfl : a202 = (M0.1 15 4).toInt := s_fX fM190 (by decide) (s_fa eM201 (by decide) (ea202))
        refine y_putI C 8 _ _ qX9_copyFrom_25 rfl rfl ft_8_4 sb_8_4 hM201 (PX.w hpr rfl rfl) dX9_copyFrom_59 (by exact ⟨⟨(by (clear hM201 eM201 ua199 la199 ea199 h193 fM190 hM190 h191 ih187 u104z hM103 eM103 ua101 la101 hret C hq8_0 hpr hM0; omega)), (by (clear hM201 eM201 ua199 la199 ea199 h193 fM190 hM190 h191 ih187 u104z hM103 eM103 ua101 la101 hret C hq8_0 hpr hM0; omega))⟩, ⟨la202, ua202⟩⟩) (fun M204 eM204 hM204 => ?_)
        refine j_aload_n C 0 0 dX9_copyFrom_62 rfl rfl ?_
        refine j_aload_n C 1 1 dX9_copyFrom_63 rfl rfl ?_
        refine y_getI C 8 _ _ fX9_copyFrom_28 rfl rfl ft_8_5 sb_8_5 hM204 dX9_copyFrom_64 (fun a205 ea205 la205 ua205 => ?_)
        obtain rfl : a205 = (M0.1 15 5).toInt := s_fX fM190 (by decide) (s_fa eM201 (by decide) (s_fa eM204 (by decide) (ea205)))
        refine y_putIF C 8 qX9_copyFrom_28 rfl rfl ft_8_5 sb_8_5 hM204 (PX.w hpr rfl rfl) dX9_copyFrom_67 (fun M207 eM207 hM207 => ?_)
        refine j_aload_n C 0 0 dX9_copyFrom_70 rfl rfl ?_
        refine j_aload_n C 1 1 dX9_copyFrom_71 rfl rfl ?_
        refine y_getI C 8 _ _ fX9_copyFrom_31 rfl rfl ft_8_6 sb_8_6 hM207 dX9_copyFrom_72 (fun a208 ea208 la208 ua208 => ?_)
        obtain rfl : a208 = (M0.1 15 6).toInt := s_fX fM190 (by decide) (s_fa eM201 (by decide) (s_fa eM204 (by decide) (s_fa eM207 (by decide) (ea208))))
        refine y_putIF C 8 qX9_copyFrom_31 rfl rfl ft_8_6 sb_8_6 hM207 (PX.w hpr rfl rfl) dX9_copyFrom_75 (fun M210 eM210 hM210 => ?_)
        refine j_aload_n C 0 0 dX9_copyFrom_78 rfl rfl ?_
        refine j_aload_n C 1 1 dX9_copyFrom_79 rfl rfl ?_
        refine y_getI C 8 _ _ fX9_copyFrom_34 rfl rfl ft_8_7 sb_8_7 hM210 dX9_copyFrom_80 (fun a211 ea211 la211 ua211 => ?_)
        obtain rfl : a211 = (M0.1 15 7).toInt := s_fX fM190 (by decide) (s_fa eM201 (by decide) (s_fa eM204 (by decide) (s_fa eM207 (by decide) (s_fa eM210 (by decide) (ea211)))))
        refine y_putIF C 8 qX9_copyFrom_34 rfl rfl ft_8_7 sb_8_7 hM210 (PX.w hpr rfl rfl) dX9_copyFrom_83 (fun M213 eM213 hM213 => ?_)
        refine j_aload_n C 0 0 dX9_copyFrom_86 rfl rfl ?_
        refine j_aload_n C 1 1 dX9_copyFrom_87 rfl rfl ?_
        refine y_getI C 8 _ _ fX9_copyFrom_37 rfl rfl ft_8_8 sb_8_8 hM213 dX9_copyFrom_88 (fun a214 ea214 la214 ua214 => ?_)
        obtain rfl : a214 = (M0.1 15 8).toInt := s_fX fM190 (by decide) (s_fa eM201 (by decide) (s_fa eM204 (by decide) (s_fa eM207 (by decide) (s_fa eM210 (by decide) (s_fa eM213 (by decide) (ea214))))))
        refine y_putIF C 8 qX9_copyFrom_37 rfl rfl ft_8_8 sb_8_8 hM213 (PX.w hpr rfl rfl) dX9_copyFrom_91 (fun M216 eM216 hM216 => ?_)
        have u217c := cpa_c (M := M190) (M' := M216) (B := M0) (p0 := 39) (p1 := 16) (g0 := 40) (g1 := 17) (n := a189) (n' := 8) (by exact h191.2.2.2.1) ((((((wI_cell eM216 (by decide)).trans (wI_cell eM213 (by decide))).trans (wI_cell eM210 (by decide))).trans (wI_cell eM207 (by decide))).trans (wI_cell eM204 (by decide))).trans (wI_cell eM201 (by decide))) ((((((wI_cell eM216 (by decide)).trans (wI_cell eM213 (by decide))).trans (wI_cell eM210 (by decide))).trans (wI_cell eM207 (by decide))).trans (wI_cell eM204 (by decide))).trans (wI_cell eM201 (by decide))) (by omega)
        have zz38_0 : (M216.1 38 0).toInt = (M190.1 38 0).toInt := s_fb eM201 (by decide) (s_fb eM204 (by decide) (s_fb eM207 (by decide) (s_fb eM210 (by decide) (s_fb eM213 (by decide) (s_fb eM216 (by decide) (rfl))))))
        have zz38_3 := (Eq.trans (s_fb eM204 (by decide) (s_fb eM207 (by decide) (s_fb eM210 (by decide) (s_fb eM213 (by decide) (s_fb eM216 (by decide) (rfl))))) : (M216.1 38 3).toInt = (M201.1 38 3).toInt) (s_wr eM201 (by (clear zz38_0 u217c hM216 eM216 ua214 la214 ea214 hM213 eM213 ua211 la211 ea211 hM210 eM210 ua208 la208 ea208 hM207 eM207 ua205 la205 ea205 hM204 eM204 ua202 la202 ea202 hM201 eM201 h193 fM190 hM190 h191 ih187 u104z hM103 eM103 ua101 la101 hret C hq8_0 hpr hM0; omega))))
        have zz38_4 := (Eq.trans (s_fb eM207 (by decide) (s_fb eM210 (by decide) (s_fb eM213 (by decide) (s_fb eM216 (by decide) (rfl)))) : (M216.1 38 4).toInt = (M204.1 38 4).toInt) (s_wr eM204 (by (clear zz38_3 zz38_0 u217c hM216 eM216 ua214 la214 ea214 hM213 eM213 ua211 la211 ea211 hM210 eM210 ua208 la208 ea208 hM207 eM207 ua205 la205 ea205 hM204 eM204 hM201 eM201 ua199 la199 ea199 h193 fM190 hM190 h191 ih187 u104z hM103 eM103 ua101 la101 hret C hq8_0 hpr hM0; omega))))
        have zz38_5 := (Eq.trans (s_fb eM210 (by decide) (s_fb eM213 (by decide) (s_fb eM216 (by decide) (rfl))) : (M216.1 38 5).toInt = (M207.1 38 5).toInt) (s_wr eM207 (by exact ⟨la205, ua205⟩)))
        have zz38_6 := (Eq.trans (s_fb eM213 (by decide) (s_fb eM216 (by decide) (rfl)) : (M216.1 38 6).toInt = (M210.1 38 6).toInt) (s_wr eM210 (by exact ⟨la208, ua208⟩)))
        have zz38_7 := (Eq.trans (s_fb eM216 (by decide) (rfl) : (M216.1 38 7).toInt = (M213.1 38 7).toInt) (s_wr eM213 (by exact ⟨la211, ua211⟩)))
        have zz38_8 := (Eq.trans (rfl : (M216.1 38 8).toInt = (M216.1 38 8).toInt) (s_wr eM216 (by exact ⟨la214, ua214⟩)))
        have u217k := copy_k (M := M0) (N := M216) (d := 38) (s := 15) (p := 0) (by (clear zz38_8 zz38_7 zz38_6 zz38_5 zz38_4 zz38_3 u217c hM216 eM216 ua214 la214 ea214 hM213 eM213 ua211 la211 ea211 hM210 eM210 ua208 la208 ea208 hM207 eM207 ua205 la205 ea205 hM204 eM204 ua202 la202 ea202 hM201 eM201 ua199 la199 ea199 h193 fM190 hM190 ih187 u104z hM103 eM103 ua101 la101 hret C hq8_0 hpr hM0; omega)) (by exact zz38_3) (by exact zz38_4) (by exact zz38_5) (by exact zz38_6) (by exact zz38_7) (by exact zz38_8) (show b01 (CPA M216 M0 39 16 40 17 8) = 1 from by exact u217c)
        exact hret _ _ _ dX9_copyFrom_94 ⟨hM216, (((((((FX.rf.tr fM190 (by decide)).wI eM201 (by decide)).wI eM204 (by decide)).wI eM207 (by decide)).wI eM210 (by decide)).wI eM213 (by decide)).wI eM216 (by decide)), by exact u217k⟩
      · refine j_aload_n C 0 0 dX9_copyFrom_16 rfl rfl ?_
        refine y_getC C 8 39 fX9_copyFrom_15 rfl rfl ft_8_1 sm_8_1 rfl hM190 dX9_copyFrom_17 ?_
        refine j_iload_n C 2 2 dX9_copyFrom_20 rfl rfl ?_
        refine j_aload_n C 1 1 dX9_copyFrom_21 rfl rfl ?_
        refine y_getC C 8 16 fX9_copyFrom_15 rfl rfl ft_8_1 sm_8_1 rfl hM190 dX9_copyFrom_22 ?_
        refine j_iload_n C 2 2 dX9_copyFrom_25 rfl rfl ?_
        refine y_iald C 25 8 _ _ rfl rfl rfl ak_25 an_25 rfl (sb_25 _) hM190 dX9_copyFrom_26 (by exact ⟨h191.1, (by omega)⟩) (fun a194 ea194 la194 ua194 => ?_)
        obtain rfl : a194 = (M0.1 16 (a189).toNat).toInt := s_fX fM190 (by decide) (ea194)
        refine y_iastF C 25 8 rfl rfl rfl ak_25 an_25 rfl (sb_25 _) hM190 (PX.w hpr rfl rfl) dX9_copyFrom_27 (by exact ⟨h191.1, (by omega)⟩) (fun M195 eM195 hM195 => ?_)
        refine j_aload_n C 0 0 dX9_copyFrom_28 rfl rfl ?_
        refine y_getC C 8 40 fX9_copyFrom_19 rfl rfl ft_8_2 sm_8_2 rfl hM195 dX9_copyFrom_29 ?_
        refine j_iload_n C 2 2 dX9_copyFrom_32 rfl rfl ?_
        refine j_aload_n C 1 1 dX9_copyFrom_33 rfl rfl ?_
        refine y_getC C 8 17 fX9_copyFrom_19 rfl rfl ft_8_2 sm_8_2 rfl hM195 dX9_copyFrom_34 ?_
        refine j_iload_n C 2 2 dX9_copyFrom_37 rfl rfl ?_
        refine y_iald C 26 8 _ _ rfl rfl rfl ak_26 an_26 rfl (sb_26 _) hM195 dX9_copyFrom_38 (by exact ⟨h191.1, (by omega)⟩) (fun a196 ea196 la196 ua196 => ?_)
        obtain rfl : a196 = (M0.1 17 (a189).toNat).toInt := s_fX fM190 (by decide) (s_fa eM195 (by decide) (ea196))
        refine y_iastF C 26 8 rfl rfl rfl ak_26 an_26 rfl (sb_26 _) hM195 (PX.w hpr rfl rfl) dX9_copyFrom_39 (by exact ⟨h191.1, (by omega)⟩) (fun M197 eM197 hM197 => ?_)
        refine y_iinc C 2 [(2, .int (sI (a189 + 1))), (0, .ref (ad 38)), (1, .ref (ad 15))] dX9_copyFrom_40 rfl (by decide) rfl ?_
        refine j_goto C 10 dX9_copyFrom_43 (by decide) ?_
        have u198s := cpa_s (B := M0) (p1 := 16) (g1 := 17) (n := a189) (n' := (a189 + 1)) (by exact h191.2.2.2.1) (by omega) eM195 eM197 (by decide)
        have zz38_0 : (M197.1 38 0).toInt = (M190.1 38 0).toInt := s_fa eM195 (by decide) (s_fa eM197 (by decide) (rfl)); refine j_lv [1, 2, 0] rfl ?_; exact ih187 (a189 + 1) M197 (by exact ⟨(by (clear hM197 eM197 ua196 la196 ea196 hM195 eM195 ua194 la194 ea194 fM190 hM190 ih187 u104z hM103 eM103 ua101 la101 hret C hq8_0 hpr hM0; omega)), ⟨(by (clear hM197 eM197 ua196 la196 ea196 hM195 eM195 ua194 la194 ea194 fM190 hM190 ih187 u104z hM103 eM103 ua101 la101 hret C hq8_0 hpr hM0; omega)), ⟨(by (clear hM197 eM197 ua196 la196 ea196 hM195 eM195 ua194 la194 ea194 fM190 hM190 ih187 u104z hM103 eM103 ua101 la101 hret C hq8_0 hpr hM0; omega)), ⟨u198s, (by (clear hM197 eM197 ua196 la196 ea196 hM195 eM195 ua194 la194 ea194 fM190 hM190 ih187 u104z hM103 eM103 ua101 la101 hret C hq8_0 hpr hM0; omega))⟩⟩⟩⟩) hM197 (((FX.rf.tr fM190 (by decide)).wI eM195 (by decide)).wI eM197 (by decide))
  have zz38_0 := (Eq.trans (rfl : (M103.1 38 0).toInt = (M103.1 38 0).toInt) (s_wr eM103 (by omega))); refine j_lv [1, 2, 0] rfl ?_; exact L188 2010 0 M103 (by exact ⟨(by decide), ⟨(by decide), ⟨zz38_0, ⟨u104z, (by decide)⟩⟩⟩⟩) hM103 (FX.rf.wI eM103 (by decide))
set_option maxHeartbeats 4000000 in
theorem s10_X9_copyFrom {l : Launch} {dC : Nat → ClassId} {dI : Nat → Nat → Nat} {ad : Nat → Nat} {cA : Nat → ClassId} {pr : Nat → Nat → Bool} {Kz : mm_M} {M0 : mm_M} (hM0 : INV pr Kz M0) (hpr : PX pr) (hq8_0 : ∀ i, s_c i = 8 → pr i 0 = false)  : Cv l 0 yX9_copyFrom wsX9_copyFrom dC dI ad cA [.ref (ad 41), .ref (ad 15)] M0 (fun M' => INV pr Kz M' ∧ FX [41, 42, 43] M0 M' ∧ (b01 (skX M' 41 = skX M0 15) = 1)) := by
  refine cv_of (cc := cX9_copyFrom) (maxL := 3) (lv := [(0, .ref (ad 41)), (1, .ref (ad 15))]) (by decide) rfl (Nat.le_of_ble_eq_true rfl) rfl ?_
  intro p e s m args below meth c A Q C hret
  refine j_aload_n C 0 0 dX9_copyFrom_0 rfl rfl ?_
  refine j_aload_n C 1 1 dX9_copyFrom_1 rfl rfl ?_
  refine y_getI C 8 _ _ fX9_copyFrom_9 rfl rfl ft_8_0 sb_8_0 hM0 dX9_copyFrom_2 (fun a101 ea101 la101 ua101 => ?_)
  obtain rfl : a101 = (M0.1 15 0).toInt := ea101
  refine y_putI C 8 _ _ qX9_copyFrom_9 rfl rfl ft_8_0 sb_8_0 hM0 (hq8_0 _ rfl) dX9_copyFrom_5 (by exact ⟨⟨(by omega), (by omega)⟩, ⟨la101, ua101⟩⟩) (fun M103 eM103 hM103 => ?_)
  refine y_iconst C dX9_copyFrom_8 ?_
  refine j_istore_n C 2 [(2, .int (sI 0)), (0, .ref (ad 41)), (1, .ref (ad 15))] dX9_copyFrom_9 rfl (by decide) rfl ?_
  have u104z := cpa_0 M103 M0 42 16 43 17
  have L188 : ∀ (n186 : Nat), ∀ (a189 : Int) (M190 : mm_M), (0 ≤ a189 ∧ a189 ≤ 8 ∧ ((M190.1 41 0).toInt = (M0.1 15 0).toInt) ∧ (b01 (CPA M190 M0 42 16 43 17 a189) = 1) ∧ (8 - a189) < (n186 : Int)) → INV pr Kz M190 → FX [41, 42, 43] M0 M190 → jj p l e (cn_R 0) s m args below meth c 0 0 Q 3 dC dI ad cA A M190 10 [(0, .ref (ad 41)), (1, .ref (ad 15)), (2, .int (sI a189))] [] := by
    intro n186
    induction n186 with
    | zero =>
      intro a189 M190 h191 hM190 fM190
      exfalso; omega
    | succ n186 ih187 =>
      intro a189 M190 h191 hM190 fM190
      refine j_iload_n C 2 2 dX9_copyFrom_10 rfl rfl ?_
      refine y_bipush C dX9_copyFrom_11 rfl ?_
      refine y_icmp_ge C 46 dX9_copyFrom_13 (by decide) (by exact ⟨⟨(by omega), (by omega)⟩, ⟨(by decide), (by decide)⟩⟩) (fun h193 => ?_) (fun h193 => ?_)
      · refine j_aload_n C 0 0 dX9_copyFrom_46 rfl rfl ?_
        refine j_aload_n C 1 1 dX9_copyFrom_47 rfl rfl ?_
        refine y_getI C 8 _ _ fX9_copyFrom_22 rfl rfl ft_8_3 sb_8_3 hM190 dX9_copyFrom_48 (fun a199 ea199 la199 ua199 => ?_)
        obtain rfl : a199 = (M0.1 15 3).toInt := s_fX fM190 (by decide) (ea199)
        refine y_putI C 8 _ _ qX9_copyFrom_22 rfl rfl ft_8_3 sb_8_3 hM190 (PX.w hpr rfl rfl) dX9_copyFrom_51 (by exact ⟨⟨(by omega), (by omega)⟩, ⟨la199, ua199⟩⟩) (fun M201 eM201 hM201 => ?_)
        refine j_aload_n C 0 0 dX9_copyFrom_54 rfl rfl ?_
        refine j_aload_n C 1 1 dX9_copyFrom_55 rfl rfl ?_
        refine y_getI C 8 _ _ fX9_copyFrom_25 rfl rfl ft_8_4 sb_8_4 hM201 dX9_copyFrom_56 (fun a202 ea202 la202 ua202 => ?_)
        obtain rfl : a202 = (M0.1 15 4).toInt := s_fX fM190 (by decide) (s_fa eM201 (by decide) (ea202))
        refine y_putI C 8 _ _ qX9_copyFrom_25 rfl rfl ft_8_4 sb_8_4 hM201 (PX.w hpr rfl rfl) dX9_copyFrom_59 (by exact ⟨⟨(by omega), (by omega)⟩, ⟨la202, ua202⟩⟩) (fun M204 eM204 hM204 => ?_)
        refine j_aload_n C 0 0 dX9_copyFrom_62 rfl rfl ?_
        refine j_aload_n C 1 1 dX9_copyFrom_63 rfl rfl ?_
        refine y_getI C 8 _ _ fX9_copyFrom_28 rfl rfl ft_8_5 sb_8_5 hM204 dX9_copyFrom_64 (fun a205 ea205 la205 ua205 => ?_)
        obtain rfl : a205 = (M0.1 15 5).toInt := s_fX fM190 (by decide) (s_fa eM201 (by decide) (s_fa eM204 (by decide) (ea205)))
        refine y_putIF C 8 qX9_copyFrom_28 rfl rfl ft_8_5 sb_8_5 hM204 (PX.w hpr rfl rfl) dX9_copyFrom_67 (fun M207 eM207 hM207 => ?_)
        refine j_aload_n C 0 0 dX9_copyFrom_70 rfl rfl ?_
        refine j_aload_n C 1 1 dX9_copyFrom_71 rfl rfl ?_
        refine y_getI C 8 _ _ fX9_copyFrom_31 rfl rfl ft_8_6 sb_8_6 hM207 dX9_copyFrom_72 (fun a208 ea208 la208 ua208 => ?_)
        obtain rfl : a208 = (M0.1 15 6).toInt := s_fX fM190 (by decide) (s_fa eM201 (by decide) (s_fa eM204 (by decide) (s_fa eM207 (by decide) (ea208))))
        refine y_putIF C 8 qX9_copyFrom_31 rfl rfl ft_8_6 sb_8_6 hM207 (PX.w hpr rfl rfl) dX9_copyFrom_75 (fun M210 eM210 hM210 => ?_)
        refine j_aload_n C 0 0 dX9_copyFrom_78 rfl rfl ?_
        refine j_aload_n C 1 1 dX9_copyFrom_79 rfl rfl ?_
        refine y_getI C 8 _ _ fX9_copyFrom_34 rfl rfl ft_8_7 sb_8_7 hM210 dX9_copyFrom_80 (fun a211 ea211 la211 ua211 => ?_)
        obtain rfl : a211 = (M0.1 15 7).toInt := s_fX fM190 (by decide) (s_fa eM201 (by decide) (s_fa eM204 (by decide) (s_fa eM207 (by decide) (s_fa eM210 (by decide) (ea211)))))
        refine y_putIF C 8 qX9_copyFrom_34 rfl rfl ft_8_7 sb_8_7 hM210 (PX.w hpr rfl rfl) dX9_copyFrom_83 (fun M213 eM213 hM213 => ?_)
        refine j_aload_n C 0 0 dX9_copyFrom_86 rfl rfl ?_
        refine j_aload_n C 1 1 dX9_copyFrom_87 rfl rfl ?_
        refine y_getI C 8 _ _ fX9_copyFrom_37 rfl rfl ft_8_8 sb_8_8 hM213 dX9_copyFrom_88 (fun a214 ea214 la214 ua214 => ?_)
        obtain rfl : a214 = (M0.1 15 8).toInt := s_fX fM190 (by decide) (s_fa eM201 (by decide) (s_fa eM204 (by decide) (s_fa eM207 (by decide) (s_fa eM210 (by decide) (s_fa eM213 (by decide) (ea214))))))
        refine y_putIF C 8 qX9_copyFrom_37 rfl rfl ft_8_8 sb_8_8 hM213 (PX.w hpr rfl rfl) dX9_copyFrom_91 (fun M216 eM216 hM216 => ?_)
        have u217c := cpa_c (M := M190) (M' := M216) (B := M0) (p0 := 42) (p1 := 16) (g0 := 43) (g1 := 17) (n := a189) (n' := 8) (by exact h191.2.2.2.1) ((((((wI_cell eM216 (by decide)).trans (wI_cell eM213 (by decide))).trans (wI_cell eM210 (by decide))).trans (wI_cell eM207 (by decide))).trans (wI_cell eM204 (by decide))).trans (wI_cell eM201 (by decide))) ((((((wI_cell eM216 (by decide)).trans (wI_cell eM213 (by decide))).trans (wI_cell eM210 (by decide))).trans (wI_cell eM207 (by decide))).trans (wI_cell eM204 (by decide))).trans (wI_cell eM201 (by decide))) (by omega)
        have zz41_0 : (M216.1 41 0).toInt = (M190.1 41 0).toInt := s_fb eM201 (by decide) (s_fb eM204 (by decide) (s_fb eM207 (by decide) (s_fb eM210 (by decide) (s_fb eM213 (by decide) (s_fb eM216 (by decide) (rfl))))))
        have zz41_3 := (Eq.trans (s_fb eM204 (by decide) (s_fb eM207 (by decide) (s_fb eM210 (by decide) (s_fb eM213 (by decide) (s_fb eM216 (by decide) (rfl))))) : (M216.1 41 3).toInt = (M201.1 41 3).toInt) (s_wr eM201 (by omega)))
        have zz41_4 := (Eq.trans (s_fb eM207 (by decide) (s_fb eM210 (by decide) (s_fb eM213 (by decide) (s_fb eM216 (by decide) (rfl)))) : (M216.1 41 4).toInt = (M204.1 41 4).toInt) (s_wr eM204 (by omega)))
        have zz41_5 := (Eq.trans (s_fb eM210 (by decide) (s_fb eM213 (by decide) (s_fb eM216 (by decide) (rfl))) : (M216.1 41 5).toInt = (M207.1 41 5).toInt) (s_wr eM207 (by exact ⟨la205, ua205⟩)))
        have zz41_6 := (Eq.trans (s_fb eM213 (by decide) (s_fb eM216 (by decide) (rfl)) : (M216.1 41 6).toInt = (M210.1 41 6).toInt) (s_wr eM210 (by exact ⟨la208, ua208⟩)))
        have zz41_7 := (Eq.trans (s_fb eM216 (by decide) (rfl) : (M216.1 41 7).toInt = (M213.1 41 7).toInt) (s_wr eM213 (by exact ⟨la211, ua211⟩)))
        have zz41_8 := (Eq.trans (rfl : (M216.1 41 8).toInt = (M216.1 41 8).toInt) (s_wr eM216 (by exact ⟨la214, ua214⟩)))
        have u217k := copy_k (M := M0) (N := M216) (d := 41) (s := 15) (p := 0) (by (clear zz41_8 zz41_7 zz41_6 zz41_5 zz41_4 zz41_3 u217c hM216 eM216 ua214 la214 ea214 hM213 eM213 ua211 la211 ea211 hM210 eM210 ua208 la208 ea208 hM207 eM207 ua205 la205 ea205 hM204 eM204 ua202 la202 ea202 hM201 eM201 ua199 la199 ea199 h193 fM190 hM190 ih187 u104z hM103 eM103 ua101 la101 hret C hq8_0 hpr hM0; omega)) (by exact zz41_3) (by exact zz41_4) (by exact zz41_5) (by exact zz41_6) (by exact zz41_7) (by exact zz41_8) (show b01 (CPA M216 M0 42 16 43 17 8) = 1 from by exact u217c)
        exact hret _ _ _ dX9_copyFrom_94 ⟨hM216, (((((((FX.rf.tr fM190 (by decide)).wI eM201 (by decide)).wI eM204 (by decide)).wI eM207 (by decide)).wI eM210 (by decide)).wI eM213 (by decide)).wI eM216 (by decide)), by exact u217k⟩
      · refine j_aload_n C 0 0 dX9_copyFrom_16 rfl rfl ?_
        refine y_getC C 8 42 fX9_copyFrom_15 rfl rfl ft_8_1 sm_8_1 rfl hM190 dX9_copyFrom_17 ?_
        refine j_iload_n C 2 2 dX9_copyFrom_20 rfl rfl ?_
        refine j_aload_n C 1 1 dX9_copyFrom_21 rfl rfl ?_
        refine y_getC C 8 16 fX9_copyFrom_15 rfl rfl ft_8_1 sm_8_1 rfl hM190 dX9_copyFrom_22 ?_
        refine j_iload_n C 2 2 dX9_copyFrom_25 rfl rfl ?_
        refine y_iald C 25 8 _ _ rfl rfl rfl ak_25 an_25 rfl (sb_25 _) hM190 dX9_copyFrom_26 (by exact ⟨h191.1, (by omega)⟩) (fun a194 ea194 la194 ua194 => ?_)
        obtain rfl : a194 = (M0.1 16 (a189).toNat).toInt := s_fX fM190 (by decide) (ea194)
        refine y_iastF C 25 8 rfl rfl rfl ak_25 an_25 rfl (sb_25 _) hM190 (PX.w hpr rfl rfl) dX9_copyFrom_27 (by exact ⟨h191.1, (by omega)⟩) (fun M195 eM195 hM195 => ?_)
        refine j_aload_n C 0 0 dX9_copyFrom_28 rfl rfl ?_
        refine y_getC C 8 43 fX9_copyFrom_19 rfl rfl ft_8_2 sm_8_2 rfl hM195 dX9_copyFrom_29 ?_
        refine j_iload_n C 2 2 dX9_copyFrom_32 rfl rfl ?_
        refine j_aload_n C 1 1 dX9_copyFrom_33 rfl rfl ?_
        refine y_getC C 8 17 fX9_copyFrom_19 rfl rfl ft_8_2 sm_8_2 rfl hM195 dX9_copyFrom_34 ?_
        refine j_iload_n C 2 2 dX9_copyFrom_37 rfl rfl ?_
        refine y_iald C 26 8 _ _ rfl rfl rfl ak_26 an_26 rfl (sb_26 _) hM195 dX9_copyFrom_38 (by exact ⟨h191.1, (by omega)⟩) (fun a196 ea196 la196 ua196 => ?_)
        obtain rfl : a196 = (M0.1 17 (a189).toNat).toInt := s_fX fM190 (by decide) (s_fa eM195 (by decide) (ea196))
        refine y_iastF C 26 8 rfl rfl rfl ak_26 an_26 rfl (sb_26 _) hM195 (PX.w hpr rfl rfl) dX9_copyFrom_39 (by exact ⟨h191.1, (by omega)⟩) (fun M197 eM197 hM197 => ?_)
        refine y_iinc C 2 [(2, .int (sI (a189 + 1))), (0, .ref (ad 41)), (1, .ref (ad 15))] dX9_copyFrom_40 rfl (by decide) rfl ?_
        refine j_goto C 10 dX9_copyFrom_43 (by decide) ?_
        have u198s := cpa_s (B := M0) (p1 := 16) (g1 := 17) (n := a189) (n' := (a189 + 1)) (by exact h191.2.2.2.1) (by omega) eM195 eM197 (by decide)
        have zz41_0 : (M197.1 41 0).toInt = (M190.1 41 0).toInt := s_fa eM195 (by decide) (s_fa eM197 (by decide) (rfl)); refine j_lv [1, 2, 0] rfl ?_; exact ih187 (a189 + 1) M197 (by exact ⟨(by (clear hM197 eM197 ua196 la196 ea196 hM195 eM195 ua194 la194 ea194 fM190 hM190 ih187 u104z hM103 eM103 ua101 la101 hret C hq8_0 hpr hM0; omega)), ⟨(by (clear hM197 eM197 ua196 la196 ea196 hM195 eM195 ua194 la194 ea194 fM190 hM190 ih187 u104z hM103 eM103 ua101 la101 hret C hq8_0 hpr hM0; omega)), ⟨(by (clear hM197 eM197 ua196 la196 ea196 hM195 eM195 ua194 la194 ea194 fM190 hM190 ih187 u104z hM103 eM103 ua101 la101 hret C hq8_0 hpr hM0; omega)), ⟨u198s, (by (clear hM197 eM197 ua196 la196 ea196 hM195 eM195 ua194 la194 ea194 fM190 hM190 ih187 u104z hM103 eM103 ua101 la101 hret C hq8_0 hpr hM0; omega))⟩⟩⟩⟩) hM197 (((FX.rf.tr fM190 (by decide)).wI eM195 (by decide)).wI eM197 (by decide))
  have zz41_0 := (Eq.trans (rfl : (M103.1 41 0).toInt = (M103.1 41 0).toInt) (s_wr eM103 (by omega))); refine j_lv [1, 2, 0] rfl ?_; exact L188 2010 0 M103 (by exact ⟨(by decide), ⟨(by decide), ⟨zz41_0, ⟨u104z, (by decide)⟩⟩⟩⟩) hM103 (FX.rf.wI eM103 (by decide))
set_option maxHeartbeats 4000000 in
theorem s11_X9_copyFrom {l : Launch} {dC : Nat → ClassId} {dI : Nat → Nat → Nat} {ad : Nat → Nat} {cA : Nat → ClassId} {pr : Nat → Nat → Bool} {Kz : mm_M} {M0 : mm_M} (hM0 : INV pr Kz M0) (hpr : PX pr) (hq8_0 : ∀ i, s_c i = 8 → pr i 0 = false)  : Cv l 0 yX9_copyFrom wsX9_copyFrom dC dI ad cA [.ref (ad 44), .ref (ad 15)] M0 (fun M' => INV pr Kz M' ∧ FX [44, 45, 46] M0 M' ∧ (b01 (skX M' 44 = skX M0 15) = 1)) := by
  refine cv_of (cc := cX9_copyFrom) (maxL := 3) (lv := [(0, .ref (ad 44)), (1, .ref (ad 15))]) (by decide) rfl (Nat.le_of_ble_eq_true rfl) rfl ?_
  intro p e s m args below meth c A Q C hret
  refine j_aload_n C 0 0 dX9_copyFrom_0 rfl rfl ?_
  refine j_aload_n C 1 1 dX9_copyFrom_1 rfl rfl ?_
  refine y_getI C 8 _ _ fX9_copyFrom_9 rfl rfl ft_8_0 sb_8_0 hM0 dX9_copyFrom_2 (fun a101 ea101 la101 ua101 => ?_)
  obtain rfl : a101 = (M0.1 15 0).toInt := ea101
  refine y_putI C 8 _ _ qX9_copyFrom_9 rfl rfl ft_8_0 sb_8_0 hM0 (hq8_0 _ rfl) dX9_copyFrom_5 (by exact ⟨⟨(by omega), (by omega)⟩, ⟨la101, ua101⟩⟩) (fun M103 eM103 hM103 => ?_)
  refine y_iconst C dX9_copyFrom_8 ?_
  refine j_istore_n C 2 [(2, .int (sI 0)), (0, .ref (ad 44)), (1, .ref (ad 15))] dX9_copyFrom_9 rfl (by decide) rfl ?_
  have u104z := cpa_0 M103 M0 45 16 46 17
  have L188 : ∀ (n186 : Nat), ∀ (a189 : Int) (M190 : mm_M), (0 ≤ a189 ∧ a189 ≤ 8 ∧ ((M190.1 44 0).toInt = (M0.1 15 0).toInt) ∧ (b01 (CPA M190 M0 45 16 46 17 a189) = 1) ∧ (8 - a189) < (n186 : Int)) → INV pr Kz M190 → FX [44, 45, 46] M0 M190 → jj p l e (cn_R 0) s m args below meth c 0 0 Q 3 dC dI ad cA A M190 10 [(0, .ref (ad 44)), (1, .ref (ad 15)), (2, .int (sI a189))] [] := by
    intro n186
    induction n186 with
    | zero =>
      intro a189 M190 h191 hM190 fM190
      exfalso; omega
    | succ n186 ih187 =>
      intro a189 M190 h191 hM190 fM190
      refine j_iload_n C 2 2 dX9_copyFrom_10 rfl rfl ?_
      refine y_bipush C dX9_copyFrom_11 rfl ?_
      refine y_icmp_ge C 46 dX9_copyFrom_13 (by decide) (by exact ⟨⟨(by omega), (by omega)⟩, ⟨(by decide), (by decide)⟩⟩) (fun h193 => ?_) (fun h193 => ?_)
      · refine j_aload_n C 0 0 dX9_copyFrom_46 rfl rfl ?_
        refine j_aload_n C 1 1 dX9_copyFrom_47 rfl rfl ?_
        refine y_getI C 8 _ _ fX9_copyFrom_22 rfl rfl ft_8_3 sb_8_3 hM190 dX9_copyFrom_48 (fun a199 ea199 la199 ua199 => ?_)
        obtain rfl : a199 = (M0.1 15 3).toInt := s_fX fM190 (by decide) (ea199)
        refine y_putI C 8 _ _ qX9_copyFrom_22 rfl rfl ft_8_3 sb_8_3 hM190 (PX.w hpr rfl rfl) dX9_copyFrom_51 (by exact ⟨⟨(by omega), (by omega)⟩, ⟨la199, ua199⟩⟩) (fun M201 eM201 hM201 => ?_)
        refine j_aload_n C 0 0 dX9_copyFrom_54 rfl rfl ?_
        refine j_aload_n C 1 1 dX9_copyFrom_55 rfl rfl ?_
        refine y_getI C 8 _ _ fX9_copyFrom_25 rfl rfl ft_8_4 sb_8_4 hM201 dX9_copyFrom_56 (fun a202 ea202 la202 ua202 => ?_)
        obtain rfl : a202 = (M0.1 15 4).toInt := s_fX fM190 (by decide) (s_fa eM201 (by decide) (ea202))
        refine y_putI C 8 _ _ qX9_copyFrom_25 rfl rfl ft_8_4 sb_8_4 hM201 (PX.w hpr rfl rfl) dX9_copyFrom_59 (by exact ⟨⟨(by omega), (by omega)⟩, ⟨la202, ua202⟩⟩) (fun M204 eM204 hM204 => ?_)
        refine j_aload_n C 0 0 dX9_copyFrom_62 rfl rfl ?_
        refine j_aload_n C 1 1 dX9_copyFrom_63 rfl rfl ?_
        refine y_getI C 8 _ _ fX9_copyFrom_28 rfl rfl ft_8_5 sb_8_5 hM204 dX9_copyFrom_64 (fun a205 ea205 la205 ua205 => ?_)
        obtain rfl : a205 = (M0.1 15 5).toInt := s_fX fM190 (by decide) (s_fa eM201 (by decide) (s_fa eM204 (by decide) (ea205)))
        refine y_putIF C 8 qX9_copyFrom_28 rfl rfl ft_8_5 sb_8_5 hM204 (PX.w hpr rfl rfl) dX9_copyFrom_67 (fun M207 eM207 hM207 => ?_)
        refine j_aload_n C 0 0 dX9_copyFrom_70 rfl rfl ?_
        refine j_aload_n C 1 1 dX9_copyFrom_71 rfl rfl ?_
        refine y_getI C 8 _ _ fX9_copyFrom_31 rfl rfl ft_8_6 sb_8_6 hM207 dX9_copyFrom_72 (fun a208 ea208 la208 ua208 => ?_)
        obtain rfl : a208 = (M0.1 15 6).toInt := s_fX fM190 (by decide) (s_fa eM201 (by decide) (s_fa eM204 (by decide) (s_fa eM207 (by decide) (ea208))))
        refine y_putIF C 8 qX9_copyFrom_31 rfl rfl ft_8_6 sb_8_6 hM207 (PX.w hpr rfl rfl) dX9_copyFrom_75 (fun M210 eM210 hM210 => ?_)
        refine j_aload_n C 0 0 dX9_copyFrom_78 rfl rfl ?_
        refine j_aload_n C 1 1 dX9_copyFrom_79 rfl rfl ?_
        refine y_getI C 8 _ _ fX9_copyFrom_34 rfl rfl ft_8_7 sb_8_7 hM210 dX9_copyFrom_80 (fun a211 ea211 la211 ua211 => ?_)
        obtain rfl : a211 = (M0.1 15 7).toInt := s_fX fM190 (by decide) (s_fa eM201 (by decide) (s_fa eM204 (by decide) (s_fa eM207 (by decide) (s_fa eM210 (by decide) (ea211)))))
        refine y_putIF C 8 qX9_copyFrom_34 rfl rfl ft_8_7 sb_8_7 hM210 (PX.w hpr rfl rfl) dX9_copyFrom_83 (fun M213 eM213 hM213 => ?_)
        refine j_aload_n C 0 0 dX9_copyFrom_86 rfl rfl ?_
        refine j_aload_n C 1 1 dX9_copyFrom_87 rfl rfl ?_
        refine y_getI C 8 _ _ fX9_copyFrom_37 rfl rfl ft_8_8 sb_8_8 hM213 dX9_copyFrom_88 (fun a214 ea214 la214 ua214 => ?_)
        obtain rfl : a214 = (M0.1 15 8).toInt := s_fX fM190 (by decide) (s_fa eM201 (by decide) (s_fa eM204 (by decide) (s_fa eM207 (by decide) (s_fa eM210 (by decide) (s_fa eM213 (by decide) (ea214))))))
        refine y_putIF C 8 qX9_copyFrom_37 rfl rfl ft_8_8 sb_8_8 hM213 (PX.w hpr rfl rfl) dX9_copyFrom_91 (fun M216 eM216 hM216 => ?_)
        have u217c := cpa_c (M := M190) (M' := M216) (B := M0) (p0 := 45) (p1 := 16) (g0 := 46) (g1 := 17) (n := a189) (n' := 8) (by exact h191.2.2.2.1) ((((((wI_cell eM216 (by decide)).trans (wI_cell eM213 (by decide))).trans (wI_cell eM210 (by decide))).trans (wI_cell eM207 (by decide))).trans (wI_cell eM204 (by decide))).trans (wI_cell eM201 (by decide))) ((((((wI_cell eM216 (by decide)).trans (wI_cell eM213 (by decide))).trans (wI_cell eM210 (by decide))).trans (wI_cell eM207 (by decide))).trans (wI_cell eM204 (by decide))).trans (wI_cell eM201 (by decide))) (by omega)
        have zz44_0 : (M216.1 44 0).toInt = (M190.1 44 0).toInt := s_fb eM201 (by decide) (s_fb eM204 (by decide) (s_fb eM207 (by decide) (s_fb eM210 (by decide) (s_fb eM213 (by decide) (s_fb eM216 (by decide) (rfl))))))
        have zz44_3 := (Eq.trans (s_fb eM204 (by decide) (s_fb eM207 (by decide) (s_fb eM210 (by decide) (s_fb eM213 (by decide) (s_fb eM216 (by decide) (rfl))))) : (M216.1 44 3).toInt = (M201.1 44 3).toInt) (s_wr eM201 (by omega)))
        have zz44_4 := (Eq.trans (s_fb eM207 (by decide) (s_fb eM210 (by decide) (s_fb eM213 (by decide) (s_fb eM216 (by decide) (rfl)))) : (M216.1 44 4).toInt = (M204.1 44 4).toInt) (s_wr eM204 (by omega)))
        have zz44_5 := (Eq.trans (s_fb eM210 (by decide) (s_fb eM213 (by decide) (s_fb eM216 (by decide) (rfl))) : (M216.1 44 5).toInt = (M207.1 44 5).toInt) (s_wr eM207 (by exact ⟨la205, ua205⟩)))
        have zz44_6 := (Eq.trans (s_fb eM213 (by decide) (s_fb eM216 (by decide) (rfl)) : (M216.1 44 6).toInt = (M210.1 44 6).toInt) (s_wr eM210 (by exact ⟨la208, ua208⟩)))
        have zz44_7 := (Eq.trans (s_fb eM216 (by decide) (rfl) : (M216.1 44 7).toInt = (M213.1 44 7).toInt) (s_wr eM213 (by exact ⟨la211, ua211⟩)))
        have zz44_8 := (Eq.trans (rfl : (M216.1 44 8).toInt = (M216.1 44 8).toInt) (s_wr eM216 (by exact ⟨la214, ua214⟩)))
        have u217k := copy_k (M := M0) (N := M216) (d := 44) (s := 15) (p := 0) (by (clear zz44_8 zz44_7 zz44_6 zz44_5 zz44_4 zz44_3 u217c hM216 eM216 ua214 la214 ea214 hM213 eM213 ua211 la211 ea211 hM210 eM210 ua208 la208 ea208 hM207 eM207 ua205 la205 ea205 hM204 eM204 ua202 la202 ea202 hM201 eM201 ua199 la199 ea199 h193 fM190 hM190 ih187 u104z hM103 eM103 ua101 la101 hret C hq8_0 hpr hM0; omega)) (by exact zz44_3) (by exact zz44_4) (by exact zz44_5) (by exact zz44_6) (by exact zz44_7) (by exact zz44_8) (show b01 (CPA M216 M0 45 16 46 17 8) = 1 from by exact u217c)
        exact hret _ _ _ dX9_copyFrom_94 ⟨hM216, (((((((FX.rf.tr fM190 (by decide)).wI eM201 (by decide)).wI eM204 (by decide)).wI eM207 (by decide)).wI eM210 (by decide)).wI eM213 (by decide)).wI eM216 (by decide)), by exact u217k⟩
      · refine j_aload_n C 0 0 dX9_copyFrom_16 rfl rfl ?_
        refine y_getC C 8 45 fX9_copyFrom_15 rfl rfl ft_8_1 sm_8_1 rfl hM190 dX9_copyFrom_17 ?_
        refine j_iload_n C 2 2 dX9_copyFrom_20 rfl rfl ?_
        refine j_aload_n C 1 1 dX9_copyFrom_21 rfl rfl ?_
        refine y_getC C 8 16 fX9_copyFrom_15 rfl rfl ft_8_1 sm_8_1 rfl hM190 dX9_copyFrom_22 ?_
        refine j_iload_n C 2 2 dX9_copyFrom_25 rfl rfl ?_
        refine y_iald C 25 8 _ _ rfl rfl rfl ak_25 an_25 rfl (sb_25 _) hM190 dX9_copyFrom_26 (by exact ⟨h191.1, (by omega)⟩) (fun a194 ea194 la194 ua194 => ?_)
        obtain rfl : a194 = (M0.1 16 (a189).toNat).toInt := s_fX fM190 (by decide) (ea194)
        refine y_iastF C 25 8 rfl rfl rfl ak_25 an_25 rfl (sb_25 _) hM190 (PX.w hpr rfl rfl) dX9_copyFrom_27 (by exact ⟨h191.1, (by omega)⟩) (fun M195 eM195 hM195 => ?_)
        refine j_aload_n C 0 0 dX9_copyFrom_28 rfl rfl ?_
        refine y_getC C 8 46 fX9_copyFrom_19 rfl rfl ft_8_2 sm_8_2 rfl hM195 dX9_copyFrom_29 ?_
        refine j_iload_n C 2 2 dX9_copyFrom_32 rfl rfl ?_
        refine j_aload_n C 1 1 dX9_copyFrom_33 rfl rfl ?_
        refine y_getC C 8 17 fX9_copyFrom_19 rfl rfl ft_8_2 sm_8_2 rfl hM195 dX9_copyFrom_34 ?_
        refine j_iload_n C 2 2 dX9_copyFrom_37 rfl rfl ?_
        refine y_iald C 26 8 _ _ rfl rfl rfl ak_26 an_26 rfl (sb_26 _) hM195 dX9_copyFrom_38 (by exact ⟨h191.1, (by omega)⟩) (fun a196 ea196 la196 ua196 => ?_)
        obtain rfl : a196 = (M0.1 17 (a189).toNat).toInt := s_fX fM190 (by decide) (s_fa eM195 (by decide) (ea196))
        refine y_iastF C 26 8 rfl rfl rfl ak_26 an_26 rfl (sb_26 _) hM195 (PX.w hpr rfl rfl) dX9_copyFrom_39 (by exact ⟨h191.1, (by omega)⟩) (fun M197 eM197 hM197 => ?_)
        refine y_iinc C 2 [(2, .int (sI (a189 + 1))), (0, .ref (ad 44)), (1, .ref (ad 15))] dX9_copyFrom_40 rfl (by decide) rfl ?_
        refine j_goto C 10 dX9_copyFrom_43 (by decide) ?_
        have u198s := cpa_s (B := M0) (p1 := 16) (g1 := 17) (n := a189) (n' := (a189 + 1)) (by exact h191.2.2.2.1) (by omega) eM195 eM197 (by decide)
        have zz44_0 : (M197.1 44 0).toInt = (M190.1 44 0).toInt := s_fa eM195 (by decide) (s_fa eM197 (by decide) (rfl)); refine j_lv [1, 2, 0] rfl ?_; exact ih187 (a189 + 1) M197 (by exact ⟨(by (clear hM197 eM197 ua196 la196 ea196 hM195 eM195 ua194 la194 ea194 fM190 hM190 ih187 u104z hM103 eM103 ua101 la101 hret C hq8_0 hpr hM0; omega)), ⟨(by (clear hM197 eM197 ua196 la196 ea196 hM195 eM195 ua194 la194 ea194 fM190 hM190 ih187 u104z hM103 eM103 ua101 la101 hret C hq8_0 hpr hM0; omega)), ⟨(by (clear hM197 eM197 ua196 la196 ea196 hM195 eM195 ua194 la194 ea194 fM190 hM190 ih187 u104z hM103 eM103 ua101 la101 hret C hq8_0 hpr hM0; omega)), ⟨u198s, (by (clear hM197 eM197 ua196 la196 ea196 hM195 eM195 ua194 la194 ea194 fM190 hM190 ih187 u104z hM103 eM103 ua101 la101 hret C hq8_0 hpr hM0; omega))⟩⟩⟩⟩) hM197 (((FX.rf.tr fM190 (by decide)).wI eM195 (by decide)).wI eM197 (by decide))
  have zz44_0 := (Eq.trans (rfl : (M103.1 44 0).toInt = (M103.1 44 0).toInt) (s_wr eM103 (by omega))); refine j_lv [1, 2, 0] rfl ?_; exact L188 2010 0 M103 (by exact ⟨(by decide), ⟨(by decide), ⟨zz44_0, ⟨u104z, (by decide)⟩⟩⟩⟩) hM103 (FX.rf.wI eM103 (by decide))
set_option maxHeartbeats 4000000 in
theorem s12_X9_copyFrom {l : Launch} {dC : Nat → ClassId} {dI : Nat → Nat → Nat} {ad : Nat → Nat} {cA : Nat → ClassId} {pr : Nat → Nat → Bool} {Kz : mm_M} {M0 : mm_M} (hM0 : INV pr Kz M0) (hpr : PX pr) (hq8_0 : ∀ i, s_c i = 8 → pr i 0 = false)  : Cv l 0 yX9_copyFrom wsX9_copyFrom dC dI ad cA [.ref (ad 47), .ref (ad 15)] M0 (fun M' => INV pr Kz M' ∧ FX [47, 48, 49] M0 M' ∧ (b01 (skX M' 47 = skX M0 15) = 1)) := by
  refine cv_of (cc := cX9_copyFrom) (maxL := 3) (lv := [(0, .ref (ad 47)), (1, .ref (ad 15))]) (by decide) rfl (Nat.le_of_ble_eq_true rfl) rfl ?_
  intro p e s m args below meth c A Q C hret
  refine j_aload_n C 0 0 dX9_copyFrom_0 rfl rfl ?_
  refine j_aload_n C 1 1 dX9_copyFrom_1 rfl rfl ?_
  refine y_getI C 8 _ _ fX9_copyFrom_9 rfl rfl ft_8_0 sb_8_0 hM0 dX9_copyFrom_2 (fun a101 ea101 la101 ua101 => ?_)
  obtain rfl : a101 = (M0.1 15 0).toInt := ea101
  refine y_putI C 8 _ _ qX9_copyFrom_9 rfl rfl ft_8_0 sb_8_0 hM0 (hq8_0 _ rfl) dX9_copyFrom_5 (by exact ⟨⟨(by omega), (by omega)⟩, ⟨la101, ua101⟩⟩) (fun M103 eM103 hM103 => ?_)
  refine y_iconst C dX9_copyFrom_8 ?_
  refine j_istore_n C 2 [(2, .int (sI 0)), (0, .ref (ad 47)), (1, .ref (ad 15))] dX9_copyFrom_9 rfl (by decide) rfl ?_
  have u104z := cpa_0 M103 M0 48 16 49 17
  have L188 : ∀ (n186 : Nat), ∀ (a189 : Int) (M190 : mm_M), (0 ≤ a189 ∧ a189 ≤ 8 ∧ ((M190.1 47 0).toInt = (M0.1 15 0).toInt) ∧ (b01 (CPA M190 M0 48 16 49 17 a189) = 1) ∧ (8 - a189) < (n186 : Int)) → INV pr Kz M190 → FX [47, 48, 49] M0 M190 → jj p l e (cn_R 0) s m args below meth c 0 0 Q 3 dC dI ad cA A M190 10 [(0, .ref (ad 47)), (1, .ref (ad 15)), (2, .int (sI a189))] [] := by
    intro n186
    induction n186 with
    | zero =>
      intro a189 M190 h191 hM190 fM190
      exfalso; omega
    | succ n186 ih187 =>
      intro a189 M190 h191 hM190 fM190
      refine j_iload_n C 2 2 dX9_copyFrom_10 rfl rfl ?_
      refine y_bipush C dX9_copyFrom_11 rfl ?_
      refine y_icmp_ge C 46 dX9_copyFrom_13 (by decide) (by exact ⟨⟨(by omega), (by omega)⟩, ⟨(by decide), (by decide)⟩⟩) (fun h193 => ?_) (fun h193 => ?_)
      · refine j_aload_n C 0 0 dX9_copyFrom_46 rfl rfl ?_
        refine j_aload_n C 1 1 dX9_copyFrom_47 rfl rfl ?_
        refine y_getI C 8 _ _ fX9_copyFrom_22 rfl rfl ft_8_3 sb_8_3 hM190 dX9_copyFrom_48 (fun a199 ea199 la199 ua199 => ?_)
        obtain rfl : a199 = (M0.1 15 3).toInt := s_fX fM190 (by decide) (ea199)
        refine y_putI C 8 _ _ qX9_copyFrom_22 rfl rfl ft_8_3 sb_8_3 hM190 (PX.w hpr rfl rfl) dX9_copyFrom_51 (by exact ⟨⟨(by omega), (by omega)⟩, ⟨la199, ua199⟩⟩) (fun M201 eM201 hM201 => ?_)
        refine j_aload_n C 0 0 dX9_copyFrom_54 rfl rfl ?_
        refine j_aload_n C 1 1 dX9_copyFrom_55 rfl rfl ?_
        refine y_getI C 8 _ _ fX9_copyFrom_25 rfl rfl ft_8_4 sb_8_4 hM201 dX9_copyFrom_56 (fun a202 ea202 la202 ua202 => ?_)
        obtain rfl : a202 = (M0.1 15 4).toInt := s_fX fM190 (by decide) (s_fa eM201 (by decide) (ea202))
        refine y_putI C 8 _ _ qX9_copyFrom_25 rfl rfl ft_8_4 sb_8_4 hM201 (PX.w hpr rfl rfl) dX9_copyFrom_59 (by exact ⟨⟨(by omega), (by omega)⟩, ⟨la202, ua202⟩⟩) (fun M204 eM204 hM204 => ?_)
        refine j_aload_n C 0 0 dX9_copyFrom_62 rfl rfl ?_
        refine j_aload_n C 1 1 dX9_copyFrom_63 rfl rfl ?_
        refine y_getI C 8 _ _ fX9_copyFrom_28 rfl rfl ft_8_5 sb_8_5 hM204 dX9_copyFrom_64 (fun a205 ea205 la205 ua205 => ?_)
        obtain rfl : a205 = (M0.1 15 5).toInt := s_fX fM190 (by decide) (s_fa eM201 (by decide) (s_fa eM204 (by decide) (ea205)))
        refine y_putIF C 8 qX9_copyFrom_28 rfl rfl ft_8_5 sb_8_5 hM204 (PX.w hpr rfl rfl) dX9_copyFrom_67 (fun M207 eM207 hM207 => ?_)
        refine j_aload_n C 0 0 dX9_copyFrom_70 rfl rfl ?_
        refine j_aload_n C 1 1 dX9_copyFrom_71 rfl rfl ?_
        refine y_getI C 8 _ _ fX9_copyFrom_31 rfl rfl ft_8_6 sb_8_6 hM207 dX9_copyFrom_72 (fun a208 ea208 la208 ua208 => ?_)
        obtain rfl : a208 = (M0.1 15 6).toInt := s_fX fM190 (by decide) (s_fa eM201 (by decide) (s_fa eM204 (by decide) (s_fa eM207 (by decide) (ea208))))
        refine y_putIF C 8 qX9_copyFrom_31 rfl rfl ft_8_6 sb_8_6 hM207 (PX.w hpr rfl rfl) dX9_copyFrom_75 (fun M210 eM210 hM210 => ?_)
        refine j_aload_n C 0 0 dX9_copyFrom_78 rfl rfl ?_
        refine j_aload_n C 1 1 dX9_copyFrom_79 rfl rfl ?_
        refine y_getI C 8 _ _ fX9_copyFrom_34 rfl rfl ft_8_7 sb_8_7 hM210 dX9_copyFrom_80 (fun a211 ea211 la211 ua211 => ?_)
        obtain rfl : a211 = (M0.1 15 7).toInt := s_fX fM190 (by decide) (s_fa eM201 (by decide) (s_fa eM204 (by decide) (s_fa eM207 (by decide) (s_fa eM210 (by decide) (ea211)))))
        refine y_putIF C 8 qX9_copyFrom_34 rfl rfl ft_8_7 sb_8_7 hM210 (PX.w hpr rfl rfl) dX9_copyFrom_83 (fun M213 eM213 hM213 => ?_)
        refine j_aload_n C 0 0 dX9_copyFrom_86 rfl rfl ?_
        refine j_aload_n C 1 1 dX9_copyFrom_87 rfl rfl ?_
        refine y_getI C 8 _ _ fX9_copyFrom_37 rfl rfl ft_8_8 sb_8_8 hM213 dX9_copyFrom_88 (fun a214 ea214 la214 ua214 => ?_)
        obtain rfl : a214 = (M0.1 15 8).toInt := s_fX fM190 (by decide) (s_fa eM201 (by decide) (s_fa eM204 (by decide) (s_fa eM207 (by decide) (s_fa eM210 (by decide) (s_fa eM213 (by decide) (ea214))))))
        refine y_putIF C 8 qX9_copyFrom_37 rfl rfl ft_8_8 sb_8_8 hM213 (PX.w hpr rfl rfl) dX9_copyFrom_91 (fun M216 eM216 hM216 => ?_)
        have u217c := cpa_c (M := M190) (M' := M216) (B := M0) (p0 := 48) (p1 := 16) (g0 := 49) (g1 := 17) (n := a189) (n' := 8) (by exact h191.2.2.2.1) ((((((wI_cell eM216 (by decide)).trans (wI_cell eM213 (by decide))).trans (wI_cell eM210 (by decide))).trans (wI_cell eM207 (by decide))).trans (wI_cell eM204 (by decide))).trans (wI_cell eM201 (by decide))) ((((((wI_cell eM216 (by decide)).trans (wI_cell eM213 (by decide))).trans (wI_cell eM210 (by decide))).trans (wI_cell eM207 (by decide))).trans (wI_cell eM204 (by decide))).trans (wI_cell eM201 (by decide))) (by omega)
        have zz47_0 : (M216.1 47 0).toInt = (M190.1 47 0).toInt := s_fb eM201 (by decide) (s_fb eM204 (by decide) (s_fb eM207 (by decide) (s_fb eM210 (by decide) (s_fb eM213 (by decide) (s_fb eM216 (by decide) (rfl))))))
        have zz47_3 := (Eq.trans (s_fb eM204 (by decide) (s_fb eM207 (by decide) (s_fb eM210 (by decide) (s_fb eM213 (by decide) (s_fb eM216 (by decide) (rfl))))) : (M216.1 47 3).toInt = (M201.1 47 3).toInt) (s_wr eM201 (by omega)))
        have zz47_4 := (Eq.trans (s_fb eM207 (by decide) (s_fb eM210 (by decide) (s_fb eM213 (by decide) (s_fb eM216 (by decide) (rfl)))) : (M216.1 47 4).toInt = (M204.1 47 4).toInt) (s_wr eM204 (by omega)))
        have zz47_5 := (Eq.trans (s_fb eM210 (by decide) (s_fb eM213 (by decide) (s_fb eM216 (by decide) (rfl))) : (M216.1 47 5).toInt = (M207.1 47 5).toInt) (s_wr eM207 (by exact ⟨la205, ua205⟩)))
        have zz47_6 := (Eq.trans (s_fb eM213 (by decide) (s_fb eM216 (by decide) (rfl)) : (M216.1 47 6).toInt = (M210.1 47 6).toInt) (s_wr eM210 (by exact ⟨la208, ua208⟩)))
        have zz47_7 := (Eq.trans (s_fb eM216 (by decide) (rfl) : (M216.1 47 7).toInt = (M213.1 47 7).toInt) (s_wr eM213 (by exact ⟨la211, ua211⟩)))
        have zz47_8 := (Eq.trans (rfl : (M216.1 47 8).toInt = (M216.1 47 8).toInt) (s_wr eM216 (by exact ⟨la214, ua214⟩)))
        have u217k := copy_k (M := M0) (N := M216) (d := 47) (s := 15) (p := 0) (by (clear zz47_8 zz47_7 zz47_6 zz47_5 zz47_4 zz47_3 u217c hM216 eM216 ua214 la214 ea214 hM213 eM213 ua211 la211 ea211 hM210 eM210 ua208 la208 ea208 hM207 eM207 ua205 la205 ea205 hM204 eM204 ua202 la202 ea202 hM201 eM201 ua199 la199 ea199 h193 fM190 hM190 ih187 u104z hM103 eM103 ua101 la101 hret C hq8_0 hpr hM0; omega)) (by exact zz47_3) (by exact zz47_4) (by exact zz47_5) (by exact zz47_6) (by exact zz47_7) (by exact zz47_8) (show b01 (CPA M216 M0 48 16 49 17 8) = 1 from by exact u217c)
        exact hret _ _ _ dX9_copyFrom_94 ⟨hM216, (((((((FX.rf.tr fM190 (by decide)).wI eM201 (by decide)).wI eM204 (by decide)).wI eM207 (by decide)).wI eM210 (by decide)).wI eM213 (by decide)).wI eM216 (by decide)), by exact u217k⟩
      · refine j_aload_n C 0 0 dX9_copyFrom_16 rfl rfl ?_
        refine y_getC C 8 48 fX9_copyFrom_15 rfl rfl ft_8_1 sm_8_1 rfl hM190 dX9_copyFrom_17 ?_
        refine j_iload_n C 2 2 dX9_copyFrom_20 rfl rfl ?_
        refine j_aload_n C 1 1 dX9_copyFrom_21 rfl rfl ?_
        refine y_getC C 8 16 fX9_copyFrom_15 rfl rfl ft_8_1 sm_8_1 rfl hM190 dX9_copyFrom_22 ?_
        refine j_iload_n C 2 2 dX9_copyFrom_25 rfl rfl ?_
        refine y_iald C 25 8 _ _ rfl rfl rfl ak_25 an_25 rfl (sb_25 _) hM190 dX9_copyFrom_26 (by exact ⟨h191.1, (by omega)⟩) (fun a194 ea194 la194 ua194 => ?_)
        obtain rfl : a194 = (M0.1 16 (a189).toNat).toInt := s_fX fM190 (by decide) (ea194)
        refine y_iastF C 25 8 rfl rfl rfl ak_25 an_25 rfl (sb_25 _) hM190 (PX.w hpr rfl rfl) dX9_copyFrom_27 (by exact ⟨h191.1, (by omega)⟩) (fun M195 eM195 hM195 => ?_)
        refine j_aload_n C 0 0 dX9_copyFrom_28 rfl rfl ?_
        refine y_getC C 8 49 fX9_copyFrom_19 rfl rfl ft_8_2 sm_8_2 rfl hM195 dX9_copyFrom_29 ?_
        refine j_iload_n C 2 2 dX9_copyFrom_32 rfl rfl ?_
        refine j_aload_n C 1 1 dX9_copyFrom_33 rfl rfl ?_
        refine y_getC C 8 17 fX9_copyFrom_19 rfl rfl ft_8_2 sm_8_2 rfl hM195 dX9_copyFrom_34 ?_
        refine j_iload_n C 2 2 dX9_copyFrom_37 rfl rfl ?_
        refine y_iald C 26 8 _ _ rfl rfl rfl ak_26 an_26 rfl (sb_26 _) hM195 dX9_copyFrom_38 (by exact ⟨h191.1, (by omega)⟩) (fun a196 ea196 la196 ua196 => ?_)
        obtain rfl : a196 = (M0.1 17 (a189).toNat).toInt := s_fX fM190 (by decide) (s_fa eM195 (by decide) (ea196))
        refine y_iastF C 26 8 rfl rfl rfl ak_26 an_26 rfl (sb_26 _) hM195 (PX.w hpr rfl rfl) dX9_copyFrom_39 (by exact ⟨h191.1, (by omega)⟩) (fun M197 eM197 hM197 => ?_)
        refine y_iinc C 2 [(2, .int (sI (a189 + 1))), (0, .ref (ad 47)), (1, .ref (ad 15))] dX9_copyFrom_40 rfl (by decide) rfl ?_
        refine j_goto C 10 dX9_copyFrom_43 (by decide) ?_
        have u198s := cpa_s (B := M0) (p1 := 16) (g1 := 17) (n := a189) (n' := (a189 + 1)) (by exact h191.2.2.2.1) (by omega) eM195 eM197 (by decide)
        have zz47_0 : (M197.1 47 0).toInt = (M190.1 47 0).toInt := s_fa eM195 (by decide) (s_fa eM197 (by decide) (rfl)); refine j_lv [1, 2, 0] rfl ?_; exact ih187 (a189 + 1) M197 (by exact ⟨(by (clear hM197 eM197 ua196 la196 ea196 hM195 eM195 ua194 la194 ea194 fM190 hM190 ih187 u104z hM103 eM103 ua101 la101 hret C hq8_0 hpr hM0; omega)), ⟨(by (clear hM197 eM197 ua196 la196 ea196 hM195 eM195 ua194 la194 ea194 fM190 hM190 ih187 u104z hM103 eM103 ua101 la101 hret C hq8_0 hpr hM0; omega)), ⟨(by (clear hM197 eM197 ua196 la196 ea196 hM195 eM195 ua194 la194 ea194 fM190 hM190 ih187 u104z hM103 eM103 ua101 la101 hret C hq8_0 hpr hM0; omega)), ⟨u198s, (by (clear hM197 eM197 ua196 la196 ea196 hM195 eM195 ua194 la194 ea194 fM190 hM190 ih187 u104z hM103 eM103 ua101 la101 hret C hq8_0 hpr hM0; omega))⟩⟩⟩⟩) hM197 (((FX.rf.tr fM190 (by decide)).wI eM195 (by decide)).wI eM197 (by decide))
  have zz47_0 := (Eq.trans (rfl : (M103.1 47 0).toInt = (M103.1 47 0).toInt) (s_wr eM103 (by omega))); refine j_lv [1, 2, 0] rfl ?_; exact L188 2010 0 M103 (by exact ⟨(by decide), ⟨(by decide), ⟨zz47_0, ⟨u104z, (by decide)⟩⟩⟩⟩) hM103 (FX.rf.wI eM103 (by decide))
set_option maxHeartbeats 4000000 in
theorem s2_X6_keep {l : Launch} {dC : Nat → ClassId} {dI : Nat → Nat → Nat} {ad : Nat → Nat} {cA : Nat → ClassId} {pr : Nat → Nat → Bool} {Kz : mm_M} {M0 : mm_M} (hM0 : INV pr Kz M0) (hpr : PX pr) (hq8_0 : ∀ i, s_c i = 8 → pr i 0 = false)  : Cv l 1 yX6_keep wsX6_keep dC dI ad cA [.ref (ad 18), .ref (ad 15)] M0 (fun M' => INV pr Kz M' ∧ FX [18, 20, 21, 22, 23, 24, 25, 26, 27, 28, 29, 30, 31, 32, 33, 34, 35, 36, 37, 38, 39, 40, 41, 42, 43, 44, 45, 46, 47, 48, 49] M0 M' ∧ (b01 (RG1 M0 M' (skX M0 15)) = 1)) := by
  refine cv_of (cc := cX6_keep) (maxL := 2) (lv := [(0, .ref (ad 18)), (1, .ref (ad 15))]) (by decide) rfl (Nat.le_of_ble_eq_true rfl) rfl ?_
  intro p e s m args below meth c A Q C hret
  refine j_aload_n C 0 0 dX6_keep_0 rfl rfl ?_
  refine y_getC C 5 19 fX6_keep_11 rfl rfl ft_5_0 sm_5_0 rfl hM0 dX6_keep_1 ?_
  refine j_aload_n C 0 0 dX6_keep_4 rfl rfl ?_
  refine y_getI C 5 _ _ fX6_keep_17 rfl rfl ft_5_1 sb_5_1 hM0 dX6_keep_5 (fun a101 ea101 la101 ua101 => ?_)
  obtain rfl : a101 = (M0.1 18 1).toInt := ea101
  rcases (show (M0.1 18 1).toInt = 0 ∨ (M0.1 18 1).toInt = 1 ∨ (M0.1 18 1).toInt = 2 ∨ (M0.1 18 1).toInt = 3 ∨ (M0.1 18 1).toInt = 4 ∨ (M0.1 18 1).toInt = 5 ∨ (M0.1 18 1).toInt = 6 ∨ (M0.1 18 1).toInt = 7 ∨ (M0.1 18 1).toInt = 8 ∨ (M0.1 18 1).toInt = 9 by (clear hret C hq8_0 hpr hM0; omega)) with h103 | h103 | h103 | h103 | h103 | h103 | h103 | h103 | h103 | h103
  · rw [h103]
    refine y_aaldK C 27 10 8 20 rfl rfl rfl rfl an_27 rfl sma_27 sta_27 (by decide) hM0 dX6_keep_8 (by exact ⟨(by decide), (by decide)⟩) rfl ?_
    refine j_aload_n C 1 1 dX6_keep_9 rfl rfl ?_
    refine j_callVv C (d := 0) (As := [.ref (ad 15)]) (st := []) 20 (s_lt rfl rfl) (s_kc (c := 8) rfl rfl) (by decide) rfl (s3_X9_copyFrom hM0 hpr hq8_0) gX6_keep_X9_copyFrom rfl hdX9_copyFrom (by decide) (Nat.le_of_ble_eq_true rfl) dX6_keep_10 rfl (fun M106 h107 => ?_)
    obtain ⟨hM106, fM106, h108⟩ := h107
    refine j_aload_n C 0 0 dX6_keep_13 rfl rfl ?_
    refine j_aload_n C 0 0 dX6_keep_14 rfl rfl ?_
    refine y_getI C 5 _ _ fX6_keep_17 rfl rfl ft_5_1 sb_5_1 hM106 dX6_keep_15 (fun a109 ea109 la109 ua109 => ?_)
    obtain rfl : a109 = (M0.1 18 1).toInt := s_fX fM106 (by decide) (ea109)
    refine y_iconst C dX6_keep_18 ?_
    refine y_iadd C dX6_keep_19 ?_
    refine y_bipush C dX6_keep_20 rfl ?_
    refine y_irem C dX6_keep_22 (by exact ⟨(by omega), ⟨(by omega), ⟨(by decide), (by decide)⟩⟩⟩) ?_
    refine y_putI C 5 _ _ qX6_keep_17 rfl rfl ft_5_1 sb_5_1 hM106 (PX.w hpr rfl rfl) dX6_keep_23 (by (clear ua109 la109 ea109 h108 fM106 hM106 ua101 la101 hret C hq8_0 hpr hM0; omega)) (fun M111 eM111 hM111 => ?_)
    refine j_aload_n C 0 0 dX6_keep_26 rfl rfl ?_
    refine j_aload_n C 0 0 dX6_keep_27 rfl rfl ?_
    refine y_getI C 5 _ _ fX6_keep_21 rfl rfl ft_5_2 sb_5_2 hM111 dX6_keep_28 (fun a112 ea112 la112 ua112 => ?_)
    obtain rfl : a112 = (M0.1 18 2).toInt := s_fX fM106 (by decide) (s_fb eM111 (by decide) (ea112))
    refine y_iconst C dX6_keep_31 ?_
    refine y_iadd C dX6_keep_32 ?_
    refine y_bipush C dX6_keep_33 rfl ?_
    refine y_mmin C wX6_keep_29_0 wX6_keep_29_1 wX6_keep_29_2 wX6_keep_29_3 (by decide) (Nat.le_of_ble_eq_true rfl) dX6_keep_35 (by exact ⟨⟨(by (clear hM111 eM111 ua109 la109 ea109 h108 fM106 hM106 h103 ua101 la101 hret C hq8_0 hpr hM0; omega)), (by (clear hM111 eM111 ua109 la109 ea109 h108 fM106 hM106 h103 ua101 la101 hret C hq8_0 hpr hM0; omega))⟩, ⟨(by decide), (by decide)⟩⟩) (fun a114 ha114 => ?_)
    refine y_putI C 5 _ _ qX6_keep_21 rfl rfl ft_5_2 sb_5_2 hM111 (PX.w hpr rfl rfl) dX6_keep_38 (by (clear hM111 eM111 ua109 la109 ea109 h108 fM106 hM106 h103 ua101 la101 hret C hq8_0 hpr hM0; omega)) (fun M115 eM115 hM115 => ?_)
    have zz18_1 := (Eq.trans (s_fb eM115 (by decide) (rfl) : (M115.1 18 1).toInt = (M111.1 18 1).toInt) (s_wr eM111 (by (clear hM115 eM115 ha114 ua112 la112 ea112 hM111 eM111 ua109 la109 ea109 h108 fM106 hM106 ua101 la101 hret C hq8_0 hpr hM0; omega))))
    have zz18_2 := (Eq.trans (rfl : (M115.1 18 2).toInt = (M115.1 18 2).toInt) (s_wr eM115 (by (clear zz18_1 hM115 eM115 hM111 eM111 ua109 la109 ea109 h108 fM106 hM106 h103 ua101 la101 hret C hq8_0 hpr hM0; omega))))
    have u116c : skX M115 20 = skX M0 15 := (sk_f (ske_n (((FX.rf.wI eM111 (by decide)).wI eM115 (by decide)) : FX [18] M106 M115) ⟨by decide, by decide, by decide⟩)).trans (b01_e (P := skX M106 20 = skX M0 15) (by exact h108))
    have u116k := rg_1 (M := M0) (N := M115) (c := 0) (r := skX M0 15) ((((FX.rf.tr fM106 (by decide)).wI eM111 (by decide)).wI eM115 (by decide)) : FX [18, 20, 21, 22] M0 M115) (by decide) (by omega) (by exact zz18_1) (by (clear u116c zz18_1 hM115 eM115 hM111 eM111 ua109 la109 ea109 h108 fM106 hM106 h103 ua101 la101 hret C hq8_0 hpr hM0; omega)) u116c
    exact hret _ _ _ dX6_keep_41 ⟨hM115, (((FX.rf.tr fM106 (by decide)).wI eM111 (by decide)).wI eM115 (by decide)), by exact u116k⟩
  · rw [h103]
    refine y_aaldK C 27 10 8 23 rfl rfl rfl rfl an_27 rfl sma_27 sta_27 (by decide) hM0 dX6_keep_8 (by exact ⟨(by decide), (by decide)⟩) rfl ?_
    refine j_aload_n C 1 1 dX6_keep_9 rfl rfl ?_
    refine j_callVv C (d := 0) (As := [.ref (ad 15)]) (st := []) 23 (s_lt rfl rfl) (s_kc (c := 8) rfl rfl) (by decide) rfl (s4_X9_copyFrom hM0 hpr hq8_0) gX6_keep_X9_copyFrom rfl hdX9_copyFrom (by decide) (Nat.le_of_ble_eq_true rfl) dX6_keep_10 rfl (fun M119 h120 => ?_)
    obtain ⟨hM119, fM119, h121⟩ := h120
    refine j_aload_n C 0 0 dX6_keep_13 rfl rfl ?_
    refine j_aload_n C 0 0 dX6_keep_14 rfl rfl ?_
    refine y_getI C 5 _ _ fX6_keep_17 rfl rfl ft_5_1 sb_5_1 hM119 dX6_keep_15 (fun a122 ea122 la122 ua122 => ?_)
    obtain rfl : a122 = (M0.1 18 1).toInt := s_fX fM119 (by decide) (ea122)
    refine y_iconst C dX6_keep_18 ?_
    refine y_iadd C dX6_keep_19 ?_
    refine y_bipush C dX6_keep_20 rfl ?_
    refine y_irem C dX6_keep_22 (by exact ⟨(by omega), ⟨(by omega), ⟨(by decide), (by decide)⟩⟩⟩) ?_
    refine y_putI C 5 _ _ qX6_keep_17 rfl rfl ft_5_1 sb_5_1 hM119 (PX.w hpr rfl rfl) dX6_keep_23 (by (clear ua122 la122 ea122 h121 fM119 hM119 ua101 la101 hret C hq8_0 hpr hM0; omega)) (fun M124 eM124 hM124 => ?_)
    refine j_aload_n C 0 0 dX6_keep_26 rfl rfl ?_
    refine j_aload_n C 0 0 dX6_keep_27 rfl rfl ?_
    refine y_getI C 5 _ _ fX6_keep_21 rfl rfl ft_5_2 sb_5_2 hM124 dX6_keep_28 (fun a125 ea125 la125 ua125 => ?_)
    obtain rfl : a125 = (M0.1 18 2).toInt := s_fX fM119 (by decide) (s_fb eM124 (by decide) (ea125))
    refine y_iconst C dX6_keep_31 ?_
    refine y_iadd C dX6_keep_32 ?_
    refine y_bipush C dX6_keep_33 rfl ?_
    refine y_mmin C wX6_keep_29_0 wX6_keep_29_1 wX6_keep_29_2 wX6_keep_29_3 (by decide) (Nat.le_of_ble_eq_true rfl) dX6_keep_35 (by exact ⟨⟨(by omega), (by omega)⟩, ⟨(by decide), (by decide)⟩⟩) (fun a127 ha127 => ?_)
    refine y_putI C 5 _ _ qX6_keep_21 rfl rfl ft_5_2 sb_5_2 hM124 (PX.w hpr rfl rfl) dX6_keep_38 (by omega) (fun M128 eM128 hM128 => ?_)
    have zz18_1 := (Eq.trans (s_fb eM128 (by decide) (rfl) : (M128.1 18 1).toInt = (M124.1 18 1).toInt) (s_wr eM124 (by (clear hM128 eM128 ha127 ua125 la125 ea125 hM124 eM124 ua122 la122 ea122 h121 fM119 hM119 ua101 la101 hret C hq8_0 hpr hM0; omega))))
    have zz18_2 := (Eq.trans (rfl : (M128.1 18 2).toInt = (M128.1 18 2).toInt) (s_wr eM128 (by omega)))
    have u129c : skX M128 23 = skX M0 15 := (sk_f (ske_n (((FX.rf.wI eM124 (by decide)).wI eM128 (by decide)) : FX [18] M119 M128) ⟨by decide, by decide, by decide⟩)).trans (b01_e (P := skX M119 23 = skX M0 15) (by exact h121))
    have u129k := rg_1 (M := M0) (N := M128) (c := 1) (r := skX M0 15) ((((FX.rf.tr fM119 (by decide)).wI eM124 (by decide)).wI eM128 (by decide)) : FX [18, 23, 24, 25] M0 M128) (by decide) (by omega) (by exact zz18_1) (by (clear u129c zz18_1 hM128 eM128 hM124 eM124 ua122 la122 ea122 h121 fM119 hM119 h103 ua101 la101 hret C hq8_0 hpr hM0; omega)) u129c
    exact hret _ _ _ dX6_keep_41 ⟨hM128, (((FX.rf.tr fM119 (by decide)).wI eM124 (by decide)).wI eM128 (by decide)), by exact u129k⟩
  · rw [h103]
    refine y_aaldK C 27 10 8 26 rfl rfl rfl rfl an_27 rfl sma_27 sta_27 (by decide) hM0 dX6_keep_8 (by exact ⟨(by decide), (by decide)⟩) rfl ?_
    refine j_aload_n C 1 1 dX6_keep_9 rfl rfl ?_
    refine j_callVv C (d := 0) (As := [.ref (ad 15)]) (st := []) 26 (s_lt rfl rfl) (s_kc (c := 8) rfl rfl) (by decide) rfl (s5_X9_copyFrom hM0 hpr hq8_0) gX6_keep_X9_copyFrom rfl hdX9_copyFrom (by decide) (Nat.le_of_ble_eq_true rfl) dX6_keep_10 rfl (fun M132 h133 => ?_)
    obtain ⟨hM132, fM132, h134⟩ := h133
    refine j_aload_n C 0 0 dX6_keep_13 rfl rfl ?_
    refine j_aload_n C 0 0 dX6_keep_14 rfl rfl ?_
    refine y_getI C 5 _ _ fX6_keep_17 rfl rfl ft_5_1 sb_5_1 hM132 dX6_keep_15 (fun a135 ea135 la135 ua135 => ?_)
    obtain rfl : a135 = (M0.1 18 1).toInt := s_fX fM132 (by decide) (ea135)
    refine y_iconst C dX6_keep_18 ?_
    refine y_iadd C dX6_keep_19 ?_
    refine y_bipush C dX6_keep_20 rfl ?_
    refine y_irem C dX6_keep_22 (by exact ⟨(by omega), ⟨(by omega), ⟨(by decide), (by decide)⟩⟩⟩) ?_
    refine y_putI C 5 _ _ qX6_keep_17 rfl rfl ft_5_1 sb_5_1 hM132 (PX.w hpr rfl rfl) dX6_keep_23 (by (clear ua135 la135 ea135 h134 fM132 hM132 ua101 la101 hret C hq8_0 hpr hM0; omega)) (fun M137 eM137 hM137 => ?_)
    refine j_aload_n C 0 0 dX6_keep_26 rfl rfl ?_
    refine j_aload_n C 0 0 dX6_keep_27 rfl rfl ?_
    refine y_getI C 5 _ _ fX6_keep_21 rfl rfl ft_5_2 sb_5_2 hM137 dX6_keep_28 (fun a138 ea138 la138 ua138 => ?_)
    obtain rfl : a138 = (M0.1 18 2).toInt := s_fX fM132 (by decide) (s_fb eM137 (by decide) (ea138))
    refine y_iconst C dX6_keep_31 ?_
    refine y_iadd C dX6_keep_32 ?_
    refine y_bipush C dX6_keep_33 rfl ?_
    refine y_mmin C wX6_keep_29_0 wX6_keep_29_1 wX6_keep_29_2 wX6_keep_29_3 (by decide) (Nat.le_of_ble_eq_true rfl) dX6_keep_35 (by exact ⟨⟨(by omega), (by omega)⟩, ⟨(by decide), (by decide)⟩⟩) (fun a140 ha140 => ?_)
    refine y_putI C 5 _ _ qX6_keep_21 rfl rfl ft_5_2 sb_5_2 hM137 (PX.w hpr rfl rfl) dX6_keep_38 (by omega) (fun M141 eM141 hM141 => ?_)
    have zz18_1 := (Eq.trans (s_fb eM141 (by decide) (rfl) : (M141.1 18 1).toInt = (M137.1 18 1).toInt) (s_wr eM137 (by (clear hM141 eM141 ha140 ua138 la138 ea138 hM137 eM137 ua135 la135 ea135 h134 fM132 hM132 ua101 la101 hret C hq8_0 hpr hM0; omega))))
    have zz18_2 := (Eq.trans (rfl : (M141.1 18 2).toInt = (M141.1 18 2).toInt) (s_wr eM141 (by omega)))
    have u142c : skX M141 26 = skX M0 15 := (sk_f (ske_n (((FX.rf.wI eM137 (by decide)).wI eM141 (by decide)) : FX [18] M132 M141) ⟨by decide, by decide, by decide⟩)).trans (b01_e (P := skX M132 26 = skX M0 15) (by exact h134))
    have u142k := rg_1 (M := M0) (N := M141) (c := 2) (r := skX M0 15) ((((FX.rf.tr fM132 (by decide)).wI eM137 (by decide)).wI eM141 (by decide)) : FX [18, 26, 27, 28] M0 M141) (by decide) (by omega) (by exact zz18_1) (by (clear u142c zz18_1 hM141 eM141 hM137 eM137 ua135 la135 ea135 h134 fM132 hM132 h103 ua101 la101 hret C hq8_0 hpr hM0; omega)) u142c
    exact hret _ _ _ dX6_keep_41 ⟨hM141, (((FX.rf.tr fM132 (by decide)).wI eM137 (by decide)).wI eM141 (by decide)), by exact u142k⟩
  · rw [h103]
    refine y_aaldK C 27 10 8 29 rfl rfl rfl rfl an_27 rfl sma_27 sta_27 (by decide) hM0 dX6_keep_8 (by exact ⟨(by decide), (by decide)⟩) rfl ?_
    refine j_aload_n C 1 1 dX6_keep_9 rfl rfl ?_
    refine j_callVv C (d := 0) (As := [.ref (ad 15)]) (st := []) 29 (s_lt rfl rfl) (s_kc (c := 8) rfl rfl) (by decide) rfl (s6_X9_copyFrom hM0 hpr hq8_0) gX6_keep_X9_copyFrom rfl hdX9_copyFrom (by decide) (Nat.le_of_ble_eq_true rfl) dX6_keep_10 rfl (fun M145 h146 => ?_)
    obtain ⟨hM145, fM145, h147⟩ := h146
    refine j_aload_n C 0 0 dX6_keep_13 rfl rfl ?_
    refine j_aload_n C 0 0 dX6_keep_14 rfl rfl ?_
    refine y_getI C 5 _ _ fX6_keep_17 rfl rfl ft_5_1 sb_5_1 hM145 dX6_keep_15 (fun a148 ea148 la148 ua148 => ?_)
    obtain rfl : a148 = (M0.1 18 1).toInt := s_fX fM145 (by decide) (ea148)
    refine y_iconst C dX6_keep_18 ?_
    refine y_iadd C dX6_keep_19 ?_
    refine y_bipush C dX6_keep_20 rfl ?_
    refine y_irem C dX6_keep_22 (by exact ⟨(by omega), ⟨(by omega), ⟨(by decide), (by decide)⟩⟩⟩) ?_
    refine y_putI C 5 _ _ qX6_keep_17 rfl rfl ft_5_1 sb_5_1 hM145 (PX.w hpr rfl rfl) dX6_keep_23 (by (clear ua148 la148 ea148 h147 fM145 hM145 ua101 la101 hret C hq8_0 hpr hM0; omega)) (fun M150 eM150 hM150 => ?_)
    refine j_aload_n C 0 0 dX6_keep_26 rfl rfl ?_
    refine j_aload_n C 0 0 dX6_keep_27 rfl rfl ?_
    refine y_getI C 5 _ _ fX6_keep_21 rfl rfl ft_5_2 sb_5_2 hM150 dX6_keep_28 (fun a151 ea151 la151 ua151 => ?_)
    obtain rfl : a151 = (M0.1 18 2).toInt := s_fX fM145 (by decide) (s_fb eM150 (by decide) (ea151))
    refine y_iconst C dX6_keep_31 ?_
    refine y_iadd C dX6_keep_32 ?_
    refine y_bipush C dX6_keep_33 rfl ?_
    refine y_mmin C wX6_keep_29_0 wX6_keep_29_1 wX6_keep_29_2 wX6_keep_29_3 (by decide) (Nat.le_of_ble_eq_true rfl) dX6_keep_35 (by exact ⟨⟨(by omega), (by omega)⟩, ⟨(by decide), (by decide)⟩⟩) (fun a153 ha153 => ?_)
    refine y_putI C 5 _ _ qX6_keep_21 rfl rfl ft_5_2 sb_5_2 hM150 (PX.w hpr rfl rfl) dX6_keep_38 (by omega) (fun M154 eM154 hM154 => ?_)
    have zz18_1 := (Eq.trans (s_fb eM154 (by decide) (rfl) : (M154.1 18 1).toInt = (M150.1 18 1).toInt) (s_wr eM150 (by (clear hM154 eM154 ha153 ua151 la151 ea151 hM150 eM150 ua148 la148 ea148 h147 fM145 hM145 ua101 la101 hret C hq8_0 hpr hM0; omega))))
    have zz18_2 := (Eq.trans (rfl : (M154.1 18 2).toInt = (M154.1 18 2).toInt) (s_wr eM154 (by omega)))
    have u155c : skX M154 29 = skX M0 15 := (sk_f (ske_n (((FX.rf.wI eM150 (by decide)).wI eM154 (by decide)) : FX [18] M145 M154) ⟨by decide, by decide, by decide⟩)).trans (b01_e (P := skX M145 29 = skX M0 15) (by exact h147))
    have u155k := rg_1 (M := M0) (N := M154) (c := 3) (r := skX M0 15) ((((FX.rf.tr fM145 (by decide)).wI eM150 (by decide)).wI eM154 (by decide)) : FX [18, 29, 30, 31] M0 M154) (by decide) (by omega) (by exact zz18_1) (by (clear u155c zz18_1 hM154 eM154 hM150 eM150 ua148 la148 ea148 h147 fM145 hM145 h103 ua101 la101 hret C hq8_0 hpr hM0; omega)) u155c
    exact hret _ _ _ dX6_keep_41 ⟨hM154, (((FX.rf.tr fM145 (by decide)).wI eM150 (by decide)).wI eM154 (by decide)), by exact u155k⟩
  · rw [h103]
    refine y_aaldK C 27 10 8 32 rfl rfl rfl rfl an_27 rfl sma_27 sta_27 (by decide) hM0 dX6_keep_8 (by exact ⟨(by decide), (by decide)⟩) rfl ?_
    refine j_aload_n C 1 1 dX6_keep_9 rfl rfl ?_
    refine j_callVv C (d := 0) (As := [.ref (ad 15)]) (st := []) 32 (s_lt rfl rfl) (s_kc (c := 8) rfl rfl) (by decide) rfl (s7_X9_copyFrom hM0 hpr hq8_0) gX6_keep_X9_copyFrom rfl hdX9_copyFrom (by decide) (Nat.le_of_ble_eq_true rfl) dX6_keep_10 rfl (fun M158 h159 => ?_)
    obtain ⟨hM158, fM158, h160⟩ := h159
    refine j_aload_n C 0 0 dX6_keep_13 rfl rfl ?_
    refine j_aload_n C 0 0 dX6_keep_14 rfl rfl ?_
    refine y_getI C 5 _ _ fX6_keep_17 rfl rfl ft_5_1 sb_5_1 hM158 dX6_keep_15 (fun a161 ea161 la161 ua161 => ?_)
    obtain rfl : a161 = (M0.1 18 1).toInt := s_fX fM158 (by decide) (ea161)
    refine y_iconst C dX6_keep_18 ?_
    refine y_iadd C dX6_keep_19 ?_
    refine y_bipush C dX6_keep_20 rfl ?_
    refine y_irem C dX6_keep_22 (by exact ⟨(by (clear ua161 la161 ea161 h160 fM158 hM158 ua101 la101 hret C hq8_0 hpr hM0; omega)), ⟨(by (clear ua161 la161 ea161 h160 fM158 hM158 ua101 la101 hret C hq8_0 hpr hM0; omega)), ⟨(by decide), (by decide)⟩⟩⟩) ?_
    refine y_putI C 5 _ _ qX6_keep_17 rfl rfl ft_5_1 sb_5_1 hM158 (PX.w hpr rfl rfl) dX6_keep_23 (by (clear ua161 la161 ea161 h160 fM158 hM158 ua101 la101 hret C hq8_0 hpr hM0; omega)) (fun M163 eM163 hM163 => ?_)
    refine j_aload_n C 0 0 dX6_keep_26 rfl rfl ?_
    refine j_aload_n C 0 0 dX6_keep_27 rfl rfl ?_
    refine y_getI C 5 _ _ fX6_keep_21 rfl rfl ft_5_2 sb_5_2 hM163 dX6_keep_28 (fun a164 ea164 la164 ua164 => ?_)
    obtain rfl : a164 = (M0.1 18 2).toInt := s_fX fM158 (by decide) (s_fb eM163 (by decide) (ea164))
    refine y_iconst C dX6_keep_31 ?_
    refine y_iadd C dX6_keep_32 ?_
    refine y_bipush C dX6_keep_33 rfl ?_
    refine y_mmin C wX6_keep_29_0 wX6_keep_29_1 wX6_keep_29_2 wX6_keep_29_3 (by decide) (Nat.le_of_ble_eq_true rfl) dX6_keep_35 (by exact ⟨⟨(by omega), (by omega)⟩, ⟨(by decide), (by decide)⟩⟩) (fun a166 ha166 => ?_)
    refine y_putI C 5 _ _ qX6_keep_21 rfl rfl ft_5_2 sb_5_2 hM163 (PX.w hpr rfl rfl) dX6_keep_38 (by omega) (fun M167 eM167 hM167 => ?_)
    have zz18_1 := (Eq.trans (s_fb eM167 (by decide) (rfl) : (M167.1 18 1).toInt = (M163.1 18 1).toInt) (s_wr eM163 (by (clear hM167 eM167 ha166 ua164 la164 ea164 hM163 eM163 ua161 la161 ea161 h160 fM158 hM158 ua101 la101 hret C hq8_0 hpr hM0; omega))))
    have zz18_2 := (Eq.trans (rfl : (M167.1 18 2).toInt = (M167.1 18 2).toInt) (s_wr eM167 (by omega)))
    have u168c : skX M167 32 = skX M0 15 := (sk_f (ske_n (((FX.rf.wI eM163 (by decide)).wI eM167 (by decide)) : FX [18] M158 M167) ⟨by decide, by decide, by decide⟩)).trans (b01_e (P := skX M158 32 = skX M0 15) (by exact h160))
    have u168k := rg_1 (M := M0) (N := M167) (c := 4) (r := skX M0 15) ((((FX.rf.tr fM158 (by decide)).wI eM163 (by decide)).wI eM167 (by decide)) : FX [18, 32, 33, 34] M0 M167) (by decide) (by omega) (by exact zz18_1) (by (clear u168c zz18_1 hM167 eM167 hM163 eM163 ua161 la161 ea161 h160 fM158 hM158 h103 ua101 la101 hret C hq8_0 hpr hM0; omega)) u168c
    exact hret _ _ _ dX6_keep_41 ⟨hM167, (((FX.rf.tr fM158 (by decide)).wI eM163 (by decide)).wI eM167 (by decide)), by exact u168k⟩
  · rw [h103]
    refine y_aaldK C 27 10 8 35 rfl rfl rfl rfl an_27 rfl sma_27 sta_27 (by decide) hM0 dX6_keep_8 (by exact ⟨(by decide), (by decide)⟩) rfl ?_
    refine j_aload_n C 1 1 dX6_keep_9 rfl rfl ?_
    refine j_callVv C (d := 0) (As := [.ref (ad 15)]) (st := []) 35 (s_lt rfl rfl) (s_kc (c := 8) rfl rfl) (by decide) rfl (s8_X9_copyFrom hM0 hpr hq8_0) gX6_keep_X9_copyFrom rfl hdX9_copyFrom (by decide) (Nat.le_of_ble_eq_true rfl) dX6_keep_10 rfl (fun M171 h172 => ?_)
    obtain ⟨hM171, fM171, h173⟩ := h172
    refine j_aload_n C 0 0 dX6_keep_13 rfl rfl ?_
    refine j_aload_n C 0 0 dX6_keep_14 rfl rfl ?_
    refine y_getI C 5 _ _ fX6_keep_17 rfl rfl ft_5_1 sb_5_1 hM171 dX6_keep_15 (fun a174 ea174 la174 ua174 => ?_)
    obtain rfl : a174 = (M0.1 18 1).toInt := s_fX fM171 (by decide) (ea174)
    refine y_iconst C dX6_keep_18 ?_
    refine y_iadd C dX6_keep_19 ?_
    refine y_bipush C dX6_keep_20 rfl ?_
    refine y_irem C dX6_keep_22 (by exact ⟨(by omega), ⟨(by omega), ⟨(by decide), (by decide)⟩⟩⟩) ?_
    refine y_putI C 5 _ _ qX6_keep_17 rfl rfl ft_5_1 sb_5_1 hM171 (PX.w hpr rfl rfl) dX6_keep_23 (by (clear ua174 la174 ea174 h173 fM171 hM171 ua101 la101 hret C hq8_0 hpr hM0; omega)) (fun M176 eM176 hM176 => ?_)
    refine j_aload_n C 0 0 dX6_keep_26 rfl rfl ?_
    refine j_aload_n C 0 0 dX6_keep_27 rfl rfl ?_
    refine y_getI C 5 _ _ fX6_keep_21 rfl rfl ft_5_2 sb_5_2 hM176 dX6_keep_28 (fun a177 ea177 la177 ua177 => ?_)
    obtain rfl : a177 = (M0.1 18 2).toInt := s_fX fM171 (by decide) (s_fb eM176 (by decide) (ea177))
    refine y_iconst C dX6_keep_31 ?_
    refine y_iadd C dX6_keep_32 ?_
    refine y_bipush C dX6_keep_33 rfl ?_
    refine y_mmin C wX6_keep_29_0 wX6_keep_29_1 wX6_keep_29_2 wX6_keep_29_3 (by decide) (Nat.le_of_ble_eq_true rfl) dX6_keep_35 (by exact ⟨⟨(by omega), (by omega)⟩, ⟨(by decide), (by decide)⟩⟩) (fun a179 ha179 => ?_)
    refine y_putI C 5 _ _ qX6_keep_21 rfl rfl ft_5_2 sb_5_2 hM176 (PX.w hpr rfl rfl) dX6_keep_38 (by omega) (fun M180 eM180 hM180 => ?_)
    have zz18_1 := (Eq.trans (s_fb eM180 (by decide) (rfl) : (M180.1 18 1).toInt = (M176.1 18 1).toInt) (s_wr eM176 (by (clear hM180 eM180 ha179 ua177 la177 ea177 hM176 eM176 ua174 la174 ea174 h173 fM171 hM171 ua101 la101 hret C hq8_0 hpr hM0; omega))))
    have zz18_2 := (Eq.trans (rfl : (M180.1 18 2).toInt = (M180.1 18 2).toInt) (s_wr eM180 (by omega)))
    have u181c : skX M180 35 = skX M0 15 := (sk_f (ske_n (((FX.rf.wI eM176 (by decide)).wI eM180 (by decide)) : FX [18] M171 M180) ⟨by decide, by decide, by decide⟩)).trans (b01_e (P := skX M171 35 = skX M0 15) (by exact h173))
    have u181k := rg_1 (M := M0) (N := M180) (c := 5) (r := skX M0 15) ((((FX.rf.tr fM171 (by decide)).wI eM176 (by decide)).wI eM180 (by decide)) : FX [18, 35, 36, 37] M0 M180) (by decide) (by omega) (by exact zz18_1) (by (clear u181c zz18_1 hM180 eM180 hM176 eM176 ua174 la174 ea174 h173 fM171 hM171 h103 ua101 la101 hret C hq8_0 hpr hM0; omega)) u181c
    exact hret _ _ _ dX6_keep_41 ⟨hM180, (((FX.rf.tr fM171 (by decide)).wI eM176 (by decide)).wI eM180 (by decide)), by exact u181k⟩
  · rw [h103]
    refine y_aaldK C 27 10 8 38 rfl rfl rfl rfl an_27 rfl sma_27 sta_27 (by decide) hM0 dX6_keep_8 (by exact ⟨(by decide), (by decide)⟩) rfl ?_
    refine j_aload_n C 1 1 dX6_keep_9 rfl rfl ?_
    refine j_callVv C (d := 0) (As := [.ref (ad 15)]) (st := []) 38 (s_lt rfl rfl) (s_kc (c := 8) rfl rfl) (by decide) rfl (s9_X9_copyFrom hM0 hpr hq8_0) gX6_keep_X9_copyFrom rfl hdX9_copyFrom (by decide) (Nat.le_of_ble_eq_true rfl) dX6_keep_10 rfl (fun M184 h185 => ?_)
    obtain ⟨hM184, fM184, h186⟩ := h185
    refine j_aload_n C 0 0 dX6_keep_13 rfl rfl ?_
    refine j_aload_n C 0 0 dX6_keep_14 rfl rfl ?_
    refine y_getI C 5 _ _ fX6_keep_17 rfl rfl ft_5_1 sb_5_1 hM184 dX6_keep_15 (fun a187 ea187 la187 ua187 => ?_)
    obtain rfl : a187 = (M0.1 18 1).toInt := s_fX fM184 (by decide) (ea187)
    refine y_iconst C dX6_keep_18 ?_
    refine y_iadd C dX6_keep_19 ?_
    refine y_bipush C dX6_keep_20 rfl ?_
    refine y_irem C dX6_keep_22 (by exact ⟨(by (clear ua187 la187 ea187 h186 fM184 hM184 ua101 la101 hret C hq8_0 hpr hM0; omega)), ⟨(by (clear ua187 la187 ea187 h186 fM184 hM184 ua101 la101 hret C hq8_0 hpr hM0; omega)), ⟨(by decide), (by decide)⟩⟩⟩) ?_
    refine y_putI C 5 _ _ qX6_keep_17 rfl rfl ft_5_1 sb_5_1 hM184 (PX.w hpr rfl rfl) dX6_keep_23 (by (clear ua187 la187 ea187 h186 fM184 hM184 ua101 la101 hret C hq8_0 hpr hM0; omega)) (fun M189 eM189 hM189 => ?_)
    refine j_aload_n C 0 0 dX6_keep_26 rfl rfl ?_
    refine j_aload_n C 0 0 dX6_keep_27 rfl rfl ?_
    refine y_getI C 5 _ _ fX6_keep_21 rfl rfl ft_5_2 sb_5_2 hM189 dX6_keep_28 (fun a190 ea190 la190 ua190 => ?_)
    obtain rfl : a190 = (M0.1 18 2).toInt := s_fX fM184 (by decide) (s_fb eM189 (by decide) (ea190))
    refine y_iconst C dX6_keep_31 ?_
    refine y_iadd C dX6_keep_32 ?_
    refine y_bipush C dX6_keep_33 rfl ?_
    refine y_mmin C wX6_keep_29_0 wX6_keep_29_1 wX6_keep_29_2 wX6_keep_29_3 (by decide) (Nat.le_of_ble_eq_true rfl) dX6_keep_35 (by exact ⟨⟨(by omega), (by omega)⟩, ⟨(by decide), (by decide)⟩⟩) (fun a192 ha192 => ?_)
    refine y_putI C 5 _ _ qX6_keep_21 rfl rfl ft_5_2 sb_5_2 hM189 (PX.w hpr rfl rfl) dX6_keep_38 (by omega) (fun M193 eM193 hM193 => ?_)
    have zz18_1 := (Eq.trans (s_fb eM193 (by decide) (rfl) : (M193.1 18 1).toInt = (M189.1 18 1).toInt) (s_wr eM189 (by (clear hM193 eM193 ha192 ua190 la190 ea190 hM189 eM189 ua187 la187 ea187 h186 fM184 hM184 ua101 la101 hret C hq8_0 hpr hM0; omega))))
    have zz18_2 := (Eq.trans (rfl : (M193.1 18 2).toInt = (M193.1 18 2).toInt) (s_wr eM193 (by omega)))
    have u194c : skX M193 38 = skX M0 15 := (sk_f (ske_n (((FX.rf.wI eM189 (by decide)).wI eM193 (by decide)) : FX [18] M184 M193) ⟨by decide, by decide, by decide⟩)).trans (b01_e (P := skX M184 38 = skX M0 15) (by exact h186))
    have u194k := rg_1 (M := M0) (N := M193) (c := 6) (r := skX M0 15) ((((FX.rf.tr fM184 (by decide)).wI eM189 (by decide)).wI eM193 (by decide)) : FX [18, 38, 39, 40] M0 M193) (by decide) (by omega) (by exact zz18_1) (by (clear u194c zz18_1 hM193 eM193 hM189 eM189 ua187 la187 ea187 h186 fM184 hM184 h103 ua101 la101 hret C hq8_0 hpr hM0; omega)) u194c
    exact hret _ _ _ dX6_keep_41 ⟨hM193, (((FX.rf.tr fM184 (by decide)).wI eM189 (by decide)).wI eM193 (by decide)), by exact u194k⟩
  · rw [h103]
    refine y_aaldK C 27 10 8 41 rfl rfl rfl rfl an_27 rfl sma_27 sta_27 (by decide) hM0 dX6_keep_8 (by exact ⟨(by decide), (by decide)⟩) rfl ?_
    refine j_aload_n C 1 1 dX6_keep_9 rfl rfl ?_
    refine j_callVv C (d := 0) (As := [.ref (ad 15)]) (st := []) 41 (s_lt rfl rfl) (s_kc (c := 8) rfl rfl) (by decide) rfl (s10_X9_copyFrom hM0 hpr hq8_0) gX6_keep_X9_copyFrom rfl hdX9_copyFrom (by decide) (Nat.le_of_ble_eq_true rfl) dX6_keep_10 rfl (fun M197 h198 => ?_)
    obtain ⟨hM197, fM197, h199⟩ := h198
    refine j_aload_n C 0 0 dX6_keep_13 rfl rfl ?_
    refine j_aload_n C 0 0 dX6_keep_14 rfl rfl ?_
    refine y_getI C 5 _ _ fX6_keep_17 rfl rfl ft_5_1 sb_5_1 hM197 dX6_keep_15 (fun a200 ea200 la200 ua200 => ?_)
    obtain rfl : a200 = (M0.1 18 1).toInt := s_fX fM197 (by decide) (ea200)
    refine y_iconst C dX6_keep_18 ?_
    refine y_iadd C dX6_keep_19 ?_
    refine y_bipush C dX6_keep_20 rfl ?_
    refine y_irem C dX6_keep_22 (by exact ⟨(by (clear ua200 la200 ea200 h199 fM197 hM197 ua101 la101 hret C hq8_0 hpr hM0; omega)), ⟨(by (clear ua200 la200 ea200 h199 fM197 hM197 ua101 la101 hret C hq8_0 hpr hM0; omega)), ⟨(by decide), (by decide)⟩⟩⟩) ?_
    refine y_putI C 5 _ _ qX6_keep_17 rfl rfl ft_5_1 sb_5_1 hM197 (PX.w hpr rfl rfl) dX6_keep_23 (by (clear ua200 la200 ea200 h199 fM197 hM197 ua101 la101 hret C hq8_0 hpr hM0; omega)) (fun M202 eM202 hM202 => ?_)
    refine j_aload_n C 0 0 dX6_keep_26 rfl rfl ?_
    refine j_aload_n C 0 0 dX6_keep_27 rfl rfl ?_
    refine y_getI C 5 _ _ fX6_keep_21 rfl rfl ft_5_2 sb_5_2 hM202 dX6_keep_28 (fun a203 ea203 la203 ua203 => ?_)
    obtain rfl : a203 = (M0.1 18 2).toInt := s_fX fM197 (by decide) (s_fb eM202 (by decide) (ea203))
    refine y_iconst C dX6_keep_31 ?_
    refine y_iadd C dX6_keep_32 ?_
    refine y_bipush C dX6_keep_33 rfl ?_
    refine y_mmin C wX6_keep_29_0 wX6_keep_29_1 wX6_keep_29_2 wX6_keep_29_3 (by decide) (Nat.le_of_ble_eq_true rfl) dX6_keep_35 (by exact ⟨⟨(by omega), (by omega)⟩, ⟨(by decide), (by decide)⟩⟩) (fun a205 ha205 => ?_)
    refine y_putI C 5 _ _ qX6_keep_21 rfl rfl ft_5_2 sb_5_2 hM202 (PX.w hpr rfl rfl) dX6_keep_38 (by omega) (fun M206 eM206 hM206 => ?_)
    have zz18_1 := (Eq.trans (s_fb eM206 (by decide) (rfl) : (M206.1 18 1).toInt = (M202.1 18 1).toInt) (s_wr eM202 (by (clear hM206 eM206 ha205 ua203 la203 ea203 hM202 eM202 ua200 la200 ea200 h199 fM197 hM197 ua101 la101 hret C hq8_0 hpr hM0; omega))))
    have zz18_2 := (Eq.trans (rfl : (M206.1 18 2).toInt = (M206.1 18 2).toInt) (s_wr eM206 (by omega)))
    have u207c : skX M206 41 = skX M0 15 := (sk_f (ske_n (((FX.rf.wI eM202 (by decide)).wI eM206 (by decide)) : FX [18] M197 M206) ⟨by decide, by decide, by decide⟩)).trans (b01_e (P := skX M197 41 = skX M0 15) (by exact h199))
    have u207k := rg_1 (M := M0) (N := M206) (c := 7) (r := skX M0 15) ((((FX.rf.tr fM197 (by decide)).wI eM202 (by decide)).wI eM206 (by decide)) : FX [18, 41, 42, 43] M0 M206) (by decide) (by omega) (by exact zz18_1) (by (clear u207c zz18_1 hM206 eM206 hM202 eM202 ua200 la200 ea200 h199 fM197 hM197 h103 ua101 la101 hret C hq8_0 hpr hM0; omega)) u207c
    exact hret _ _ _ dX6_keep_41 ⟨hM206, (((FX.rf.tr fM197 (by decide)).wI eM202 (by decide)).wI eM206 (by decide)), by exact u207k⟩
  · rw [h103]
    refine y_aaldK C 27 10 8 44 rfl rfl rfl rfl an_27 rfl sma_27 sta_27 (by decide) hM0 dX6_keep_8 (by exact ⟨(by decide), (by decide)⟩) rfl ?_
    refine j_aload_n C 1 1 dX6_keep_9 rfl rfl ?_
    refine j_callVv C (d := 0) (As := [.ref (ad 15)]) (st := []) 44 (s_lt rfl rfl) (s_kc (c := 8) rfl rfl) (by decide) rfl (s11_X9_copyFrom hM0 hpr hq8_0) gX6_keep_X9_copyFrom rfl hdX9_copyFrom (by decide) (Nat.le_of_ble_eq_true rfl) dX6_keep_10 rfl (fun M210 h211 => ?_)
    obtain ⟨hM210, fM210, h212⟩ := h211
    refine j_aload_n C 0 0 dX6_keep_13 rfl rfl ?_
    refine j_aload_n C 0 0 dX6_keep_14 rfl rfl ?_
    refine y_getI C 5 _ _ fX6_keep_17 rfl rfl ft_5_1 sb_5_1 hM210 dX6_keep_15 (fun a213 ea213 la213 ua213 => ?_)
    obtain rfl : a213 = (M0.1 18 1).toInt := s_fX fM210 (by decide) (ea213)
    refine y_iconst C dX6_keep_18 ?_
    refine y_iadd C dX6_keep_19 ?_
    refine y_bipush C dX6_keep_20 rfl ?_
    refine y_irem C dX6_keep_22 (by exact ⟨(by (clear ua213 la213 ea213 h212 fM210 hM210 ua101 la101 hret C hq8_0 hpr hM0; omega)), ⟨(by (clear ua213 la213 ea213 h212 fM210 hM210 ua101 la101 hret C hq8_0 hpr hM0; omega)), ⟨(by decide), (by decide)⟩⟩⟩) ?_
    refine y_putI C 5 _ _ qX6_keep_17 rfl rfl ft_5_1 sb_5_1 hM210 (PX.w hpr rfl rfl) dX6_keep_23 (by (clear ua213 la213 ea213 h212 fM210 hM210 ua101 la101 hret C hq8_0 hpr hM0; omega)) (fun M215 eM215 hM215 => ?_)
    refine j_aload_n C 0 0 dX6_keep_26 rfl rfl ?_
    refine j_aload_n C 0 0 dX6_keep_27 rfl rfl ?_
    refine y_getI C 5 _ _ fX6_keep_21 rfl rfl ft_5_2 sb_5_2 hM215 dX6_keep_28 (fun a216 ea216 la216 ua216 => ?_)
    obtain rfl : a216 = (M0.1 18 2).toInt := s_fX fM210 (by decide) (s_fb eM215 (by decide) (ea216))
    refine y_iconst C dX6_keep_31 ?_
    refine y_iadd C dX6_keep_32 ?_
    refine y_bipush C dX6_keep_33 rfl ?_
    refine y_mmin C wX6_keep_29_0 wX6_keep_29_1 wX6_keep_29_2 wX6_keep_29_3 (by decide) (Nat.le_of_ble_eq_true rfl) dX6_keep_35 (by exact ⟨⟨(by omega), (by omega)⟩, ⟨(by decide), (by decide)⟩⟩) (fun a218 ha218 => ?_)
    refine y_putI C 5 _ _ qX6_keep_21 rfl rfl ft_5_2 sb_5_2 hM215 (PX.w hpr rfl rfl) dX6_keep_38 (by omega) (fun M219 eM219 hM219 => ?_)
    have zz18_1 := (Eq.trans (s_fb eM219 (by decide) (rfl) : (M219.1 18 1).toInt = (M215.1 18 1).toInt) (s_wr eM215 (by (clear hM219 eM219 ha218 ua216 la216 ea216 hM215 eM215 ua213 la213 ea213 h212 fM210 hM210 ua101 la101 hret C hq8_0 hpr hM0; omega))))
    have zz18_2 := (Eq.trans (rfl : (M219.1 18 2).toInt = (M219.1 18 2).toInt) (s_wr eM219 (by omega)))
    have u220c : skX M219 44 = skX M0 15 := (sk_f (ske_n (((FX.rf.wI eM215 (by decide)).wI eM219 (by decide)) : FX [18] M210 M219) ⟨by decide, by decide, by decide⟩)).trans (b01_e (P := skX M210 44 = skX M0 15) (by exact h212))
    have u220k := rg_1 (M := M0) (N := M219) (c := 8) (r := skX M0 15) ((((FX.rf.tr fM210 (by decide)).wI eM215 (by decide)).wI eM219 (by decide)) : FX [18, 44, 45, 46] M0 M219) (by decide) (by omega) (by exact zz18_1) (by (clear u220c zz18_1 hM219 eM219 hM215 eM215 ua213 la213 ea213 h212 fM210 hM210 h103 ua101 la101 hret C hq8_0 hpr hM0; omega)) u220c
    exact hret _ _ _ dX6_keep_41 ⟨hM219, (((FX.rf.tr fM210 (by decide)).wI eM215 (by decide)).wI eM219 (by decide)), by exact u220k⟩
  · rw [h103]
    refine y_aaldK C 27 10 8 47 rfl rfl rfl rfl an_27 rfl sma_27 sta_27 (by decide) hM0 dX6_keep_8 (by exact ⟨(by decide), (by decide)⟩) rfl ?_
    refine j_aload_n C 1 1 dX6_keep_9 rfl rfl ?_
    refine j_callVv C (d := 0) (As := [.ref (ad 15)]) (st := []) 47 (s_lt rfl rfl) (s_kc (c := 8) rfl rfl) (by decide) rfl (s12_X9_copyFrom hM0 hpr hq8_0) gX6_keep_X9_copyFrom rfl hdX9_copyFrom (by decide) (Nat.le_of_ble_eq_true rfl) dX6_keep_10 rfl (fun M223 h224 => ?_)
    obtain ⟨hM223, fM223, h225⟩ := h224
    refine j_aload_n C 0 0 dX6_keep_13 rfl rfl ?_
    refine j_aload_n C 0 0 dX6_keep_14 rfl rfl ?_
    refine y_getI C 5 _ _ fX6_keep_17 rfl rfl ft_5_1 sb_5_1 hM223 dX6_keep_15 (fun a226 ea226 la226 ua226 => ?_)
    obtain rfl : a226 = (M0.1 18 1).toInt := s_fX fM223 (by decide) (ea226)
    refine y_iconst C dX6_keep_18 ?_
    refine y_iadd C dX6_keep_19 ?_
    refine y_bipush C dX6_keep_20 rfl ?_
    refine y_irem C dX6_keep_22 (by exact ⟨(by omega), ⟨(by omega), ⟨(by decide), (by decide)⟩⟩⟩) ?_
    refine y_putI C 5 _ _ qX6_keep_17 rfl rfl ft_5_1 sb_5_1 hM223 (PX.w hpr rfl rfl) dX6_keep_23 (by (clear ua226 la226 ea226 h225 fM223 hM223 ua101 la101 hret C hq8_0 hpr hM0; omega)) (fun M228 eM228 hM228 => ?_)
    refine j_aload_n C 0 0 dX6_keep_26 rfl rfl ?_
    refine j_aload_n C 0 0 dX6_keep_27 rfl rfl ?_
    refine y_getI C 5 _ _ fX6_keep_21 rfl rfl ft_5_2 sb_5_2 hM228 dX6_keep_28 (fun a229 ea229 la229 ua229 => ?_)
    obtain rfl : a229 = (M0.1 18 2).toInt := s_fX fM223 (by decide) (s_fb eM228 (by decide) (ea229))
    refine y_iconst C dX6_keep_31 ?_
    refine y_iadd C dX6_keep_32 ?_
    refine y_bipush C dX6_keep_33 rfl ?_
    refine y_mmin C wX6_keep_29_0 wX6_keep_29_1 wX6_keep_29_2 wX6_keep_29_3 (by decide) (Nat.le_of_ble_eq_true rfl) dX6_keep_35 (by exact ⟨⟨(by omega), (by omega)⟩, ⟨(by decide), (by decide)⟩⟩) (fun a231 ha231 => ?_)
    refine y_putI C 5 _ _ qX6_keep_21 rfl rfl ft_5_2 sb_5_2 hM228 (PX.w hpr rfl rfl) dX6_keep_38 (by omega) (fun M232 eM232 hM232 => ?_)
    have zz18_1 := (Eq.trans (s_fb eM232 (by decide) (rfl) : (M232.1 18 1).toInt = (M228.1 18 1).toInt) (s_wr eM228 (by (clear hM232 eM232 ha231 ua229 la229 ea229 hM228 eM228 ua226 la226 ea226 h225 fM223 hM223 ua101 la101 hret C hq8_0 hpr hM0; omega))))
    have zz18_2 := (Eq.trans (rfl : (M232.1 18 2).toInt = (M232.1 18 2).toInt) (s_wr eM232 (by omega)))
    have u233c : skX M232 47 = skX M0 15 := (sk_f (ske_n (((FX.rf.wI eM228 (by decide)).wI eM232 (by decide)) : FX [18] M223 M232) ⟨by decide, by decide, by decide⟩)).trans (b01_e (P := skX M223 47 = skX M0 15) (by exact h225))
    have u233k := rg_1 (M := M0) (N := M232) (c := 9) (r := skX M0 15) ((((FX.rf.tr fM223 (by decide)).wI eM228 (by decide)).wI eM232 (by decide)) : FX [18, 47, 48, 49] M0 M232) (by decide) (by omega) (by exact zz18_1) (by (clear u233c zz18_1 hM232 eM232 hM228 eM228 ua226 la226 ea226 h225 fM223 hM223 h103 ua101 la101 hret C hq8_0 hpr hM0; omega)) u233c
    exact hret _ _ _ dX6_keep_41 ⟨hM232, (((FX.rf.tr fM223 (by decide)).wI eM228 (by decide)).wI eM232 (by decide)), by exact u233k⟩
end
section
set_option maxHeartbeats 4000000 in
theorem s2_X11_settle {l : Launch} {dC : Nat → ClassId} {dI : Nat → Nat → Nat} {ad : Nat → Nat} {cA : Nat → ClassId} {pr : Nat → Nat → Bool} {Kz : mm_M} {M0 : mm_M} (hM0 : INV pr Kz M0) (hpr : PX pr) (hq8_0 : ∀ i, s_c i = 8 → pr i 0 = false) (a1 : Int) (ha1 : -2147483648 ≤ a1 ∧ a1 ≤ 2147483647) : Ci l 2 yX11_settle wsX11_settle dC dI ad cA [.ref (ad 0), .int (sI a1)] M0 (fun r M' => ∃ a : Int, r = sI a ∧ INV pr Kz M' ∧ FX [18, 20, 21, 22, 23, 24, 25, 26, 27, 28, 29, 30, 31, 32, 33, 34, 35, 36, 37, 38, 39, 40, 41, 42, 43, 44, 45, 46, 47, 48, 49] M0 M' ∧ (-2147483648) ≤ a ∧ a ≤ 2147483647 ∧ (a = a1) ∧ (b01 (RGI a1 M0 M' (skX M0 15)) = 1)) := by
  refine ci_of (cc := cX11_settle) (maxL := 2) (ty := .int) (lv := [(0, .ref (ad 0)), (1, .int (sI a1))]) (by decide) rfl (fun r M' hp => rfl) (Nat.le_of_ble_eq_true rfl) rfl ?_
  intro p e s m args below meth c A Q C hret
  refine j_iload_n C 1 1 dX11_settle_0 rfl rfl ?_
  refine y_if_lt C 15 dX11_settle_1 (by decide) (by exact ⟨ha1.1, ha1.2⟩) (fun h101 => ?_) (fun h101 => ?_)
  · refine j_iload_n C 1 1 dX11_settle_15 rfl rfl ?_
    have u102k := rgi_n (a := a1) (r := skX M0 15) (by exact h101) (rg_s M0)
    exact hret _ _ _ _ dX11_settle_16 ⟨a1, rfl, hM0, FX.rf, by (clear hret C hq8_0 hpr hM0; omega)⟩
  · refine j_aload_n C 0 0 dX11_settle_4 rfl rfl ?_
    refine y_getC C 10 18 fX11_settle_46 rfl rfl ft_10_8 sm_10_8 rfl hM0 dX11_settle_5 ?_
    refine j_aload_n C 0 0 dX11_settle_8 rfl rfl ?_
    refine y_getC C 10 15 fX11_settle_40 rfl rfl ft_10_7 sm_10_7 rfl hM0 dX11_settle_9 ?_
    refine j_callVv C (d := 1) (As := [.ref (ad 15)]) (st := []) 18 (s_lt rfl rfl) (s_kc (c := 5) rfl rfl) (by decide) rfl (s2_X6_keep hM0 hpr hq8_0) gX11_settle_X6_keep rfl hdX6_keep (by decide) (Nat.le_of_ble_eq_true rfl) dX11_settle_12 rfl (fun M104 h105 => ?_)
    obtain ⟨hM104, fM104, h106⟩ := h105
    refine j_iload_n C 1 1 dX11_settle_15 rfl rfl ?_
    have u107k := rgi_y (a := a1) (M := M0) (N := M104) (r := skX M0 15) (by omega) (by exact h106)
    exact hret _ _ _ _ dX11_settle_16 ⟨a1, rfl, hM104, (FX.rf.tr fM104 (by decide)), by (clear h106 fM104 hM104 hret C hq8_0 hpr hM0; omega)⟩
set_option maxHeartbeats 4000000 in
theorem s2_X11_visit {l : Launch} {dC : Nat → ClassId} {dI : Nat → Nat → Nat} {ad : Nat → Nat} {cA : Nat → ClassId} {pr : Nat → Nat → Bool} {Kz : mm_M} {M0 : mm_M} (hM0 : INV pr Kz M0) (hpr : PX pr) (hq8_0 : ∀ i, s_c i = 8 → pr i 0 = false) (a1 : Int) (ha1 : -2147483648 ≤ a1 ∧ a1 ≤ 2147483647) (gp : Nat) (cgp : s_c gp = 6) (egp : gp = M0.2.2 0 4) (hp0 : b01 (APX M0 gp) = 1) (hp1 : b01 (LAW M0 gp) = 1) (hp2 : b01 (PRR (rwX M0 gp 12)) = 1) : Ci l 5 yX11_visit wsX11_visit dC dI ad cA [.ref (ad 0), .int (sI a1)] M0 (fun r M' => ∃ a : Int, r = sI a ∧ INV pr Kz M' ∧ FX [12, 15, 16, 17, 18, 20, 21, 22, 23, 24, 25, 26, 27, 28, 29, 30, 31, 32, 33, 34, 35, 36, 37, 38, 39, 40, 41, 42, 43, 44, 45, 46, 47, 48, 49, 81, 82, 83, 84, 85, 86] M0 M' ∧ (-2147483648) ≤ a ∧ a ≤ 2147483647 ∧ (a = aI (wvF (rwX M0 gp 12) a1) (bnF (rwX M0 gp 12) a1)) ∧ (b01 (rwX M' gp 12 = dvS (wvF (rwX M0 gp 12) a1) (rwX M0 gp 12) (vsS (rwX M0 gp 12) a1)) = 1) ∧ (b01 (APX M' gp) = 1) ∧ (b01 (RGI a M0 M' (skX M0 12)) = 1)) := by
  refine ci_of (cc := cX11_visit) (maxL := 2) (ty := .int) (lv := [(0, .ref (ad 0)), (1, .int (sI a1))]) (by decide) rfl (fun r M' hp => rfl) (Nat.le_of_ble_eq_true rfl) rfl ?_
  intro p e s m args below meth c A Q C hret
  refine j_aload_n C 0 0 dX11_visit_0 rfl rfl ?_
  refine y_getC C 10 15 fX11_visit_40 rfl rfl ft_10_7 sm_10_7 rfl hM0 dX11_visit_1 ?_
  refine j_aload_n C 0 0 dX11_visit_4 rfl rfl ?_
  refine y_getC C 10 12 fX11_visit_36 rfl rfl ft_10_6 sm_10_6 rfl hM0 dX11_visit_5 ?_
  refine j_callVv C (d := 0) (As := [.ref (ad 12)]) (st := []) 15 (s_lt rfl rfl) (s_kc (c := 8) rfl rfl) (by decide) rfl (s2_X9_copyFrom hM0 hpr hq8_0) gX11_visit_X9_copyFrom rfl hdX9_copyFrom (by decide) (Nat.le_of_ble_eq_true rfl) dX11_visit_8 rfl (fun M103 h104 => ?_)
  obtain ⟨hM103, fM103, h105⟩ := h104
  refine j_aload_n C 0 0 dX11_visit_11 rfl rfl ?_
  refine j_aload_n C 0 0 dX11_visit_12 rfl rfl ?_
  refine y_getC C 10 87 fX11_visit_85 rfl rfl ft_10_13 sm_10_13 rfl hM103 dX11_visit_13 ?_
  refine j_aload_n C 0 0 dX11_visit_16 rfl rfl ?_
  refine y_getV C 10 gp fX11_visit_26 rfl rfl ft_10_4 (s_pX fM103 (egp)) dX11_visit_17 ?_
  refine j_aload_n C 0 0 dX11_visit_20 rfl rfl ?_
  refine y_getC C 10 12 fX11_visit_36 rfl rfl ft_10_6 sm_10_6 rfl hM103 dX11_visit_21 ?_
  refine j_iload_n C 1 1 dX11_visit_24 rfl rfl ?_
  have u106A7 := hM0.rd (i := gp) (c := 6) (k := 7) cgp (show s_b 6 7 = (0, 900) from rfl)
  have u106A9 := hM0.rd (i := gp) (c := 6) (k := 9) cgp (show s_b 6 9 = (0, 900) from rfl)
  have u106A := apx_o (M := M0) (N := M103) (p := gp) (ple_f (p := gp) ((FX.rf.tr fM103 (by decide)) : FX [15, 16, 17] M0 M103) cgp (by decide)) (((FX.rf.tr fM103 (by decide)) : FX [15, 16, 17] M0 M103).cell (by decide)) (((FX.rf.tr fM103 (by decide)) : FX [15, 16, 17] M0 M103).cell (by decide)) (((FX.rf.tr fM103 (by decide)) : FX [15, 16, 17] M0 M103).cell (by decide)) u106A7.1 u106A9.1 (by exact hp0)
  have u106L7 := hM0.rd (i := gp) (c := 6) (k := 7) cgp (show s_b 6 7 = (0, 900) from rfl)
  have u106L9 := hM0.rd (i := gp) (c := 6) (k := 9) cgp (show s_b 6 9 = (0, 900) from rfl)
  have u106L := law_p (M := M0) (N := M103) (p := gp) (ple_f (p := gp) ((FX.rf.tr fM103 (by decide)) : FX [15, 16, 17] M0 M103) cgp (by decide)) u106L7.1 u106L9.1 (by exact hp1)
  have u106e : rwX M103 gp 12 = rwX M0 gp 12 := (rx_f (p := gp) (v := 12) (ple_f (p := gp) ((FX.rf.tr fM103 (by decide)) : FX [15, 16, 17] M0 M103) cgp (by decide)) (ske_n ((FX.rf.tr fM103 (by decide)) : FX [15, 16, 17] M0 M103) ⟨by decide, by decide, by decide⟩))
  have u106R : b01 (PRR (rwX M103 gp 12)) = 1 := by rw [u106e]; exact hp2
  refine j_callVi C (d := 4) (As := [.ref (ad gp), .ref (ad 12), .int (sI a1)]) (st := [.ref (ad 0)]) 87 (s_lt rfl rfl) (s_kc (c := 1) rfl rfl) (by decide) rfl (s2_X1_visitBy hM103 hpr cgp a1 (by exact ⟨ha1.1, ha1.2⟩) (by exact u106A) (by exact u106L) (by exact u106R)) gX11_visit_X1_visitBy rfl hdX1_visitBy (by decide) (Nat.le_of_ble_eq_true rfl) dX11_visit_25 rfl (fun r107 M108 h109 => ?_)
  obtain ⟨a111, rfl, hM108, fM108, h110⟩ := h109
  refine j_callVi C (d := 2) (As := [.int (sI a111)]) (st := []) 0 (s_lt rfl rfl) (s_kc (c := 10) rfl rfl) (by decide) rfl (s2_X11_settle hM108 hpr hq8_0 a111 (by (clear fM108 hM108 u106R u106e u106L u106L9 u106L7 u106A u106A9 u106A7 h105 fM103 hM103 hret C hp2 hp1 hp0 egp cgp ha1 hq8_0 hpr hM0; omega))) gX11_visit_X11_settle rfl hdX11_settle (by decide) (Nat.le_of_ble_eq_true rfl) dX11_visit_28 rfl (fun r113 M114 h115 => ?_)
  obtain ⟨a117, rfl, hM114, fM114, h116⟩ := h115
  have u118e : rwX M103 gp 12 = rwX M0 gp 12 := (rx_f (p := gp) (v := 12) (ple_f (p := gp) ((FX.rf.tr fM103 (by decide)) : FX [15, 16, 17] M0 M103) cgp (by decide)) (ske_n ((FX.rf.tr fM103 (by decide)) : FX [15, 16, 17] M0 M103) ⟨by decide, by decide, by decide⟩))
  have u118r : b01 (rwX M114 gp 12 = dvS (wvF (rwX M0 gp 12) a1) (rwX M0 gp 12) (vsS (rwX M0 gp 12) a1)) = 1 := by rw [(rx_f (p := gp) (v := 12) (ple_f (p := gp) ((FX.rf.tr fM114 (by decide)) : FX [18, 20, 21, 22, 23, 24, 25, 26, 27, 28, 29, 30, 31, 32, 33, 34, 35, 36, 37, 38, 39, 40, 41, 42, 43, 44, 45, 46, 47, 48, 49] M108 M114) cgp (by decide)) (ske_n ((FX.rf.tr fM114 (by decide)) : FX [18, 20, 21, 22, 23, 24, 25, 26, 27, 28, 29, 30, 31, 32, 33, 34, 35, 36, 37, 38, 39, 40, 41, 42, 43, 44, 45, 46, 47, 48, 49] M108 M114) ⟨by decide, by decide, by decide⟩)), ← u118e]; exact h110.2.2.2.2
  have u118a : a117 = aI (wvF (rwX M0 gp 12) a1) (bnF (rwX M0 gp 12) a1) := by rw [← u118e]; (clear u118r u118e fM114 hM114 fM108 hM108 u106R u106e u106L u106L9 u106L7 u106A u106A9 u106A7 h105 fM103 hM103 hret C hp2 hp1 hp0 egp cgp ha1 hq8_0 hpr hM0; omega)
  have u118A7 := hM108.rd (i := gp) (c := 6) (k := 7) cgp (show s_b 6 7 = (0, 900) from rfl)
  have u118A9 := hM108.rd (i := gp) (c := 6) (k := 9) cgp (show s_b 6 9 = (0, 900) from rfl)
  have u118A := apx_o (M := M108) (N := M114) (p := gp) (ple_f (p := gp) ((FX.rf.tr fM114 (by decide)) : FX [18, 20, 21, 22, 23, 24, 25, 26, 27, 28, 29, 30, 31, 32, 33, 34, 35, 36, 37, 38, 39, 40, 41, 42, 43, 44, 45, 46, 47, 48, 49] M108 M114) cgp (by decide)) (((FX.rf.tr fM114 (by decide)) : FX [18, 20, 21, 22, 23, 24, 25, 26, 27, 28, 29, 30, 31, 32, 33, 34, 35, 36, 37, 38, 39, 40, 41, 42, 43, 44, 45, 46, 47, 48, 49] M108 M114).cell (by decide)) (((FX.rf.tr fM114 (by decide)) : FX [18, 20, 21, 22, 23, 24, 25, 26, 27, 28, 29, 30, 31, 32, 33, 34, 35, 36, 37, 38, 39, 40, 41, 42, 43, 44, 45, 46, 47, 48, 49] M108 M114).cell (by decide)) (((FX.rf.tr fM114 (by decide)) : FX [18, 20, 21, 22, 23, 24, 25, 26, 27, 28, 29, 30, 31, 32, 33, 34, 35, 36, 37, 38, 39, 40, 41, 42, 43, 44, 45, 46, 47, 48, 49] M108 M114).cell (by decide)) u118A7.1 u118A9.1 (by exact h110.2.2.1)
  have u118s : skX M108 15 = skX M0 12 := (sk_f (ske_n ((FX.rf.tr fM108 (by decide)) : FX [12, 81, 82, 83, 84, 85, 86] M103 M108) ⟨by decide, by decide, by decide⟩)).trans (b01_e (P := skX M103 15 = skX M0 12) (by exact h105))
  have u118g := rgi_m (a := a111) (M := M0) (B := M108) (N := M114) (r := skX M108 15) (((FX.rf.tr fM103 (by decide)).tr fM108 (by decide)) : FX [12, 15, 16, 17, 81, 82, 83, 84, 85, 86] M0 M108) (by decide) (by decide) u118s (by exact h116.2.2.2)
  have u118h : b01 (RGI a117 M0 M114 (skX M0 12)) = 1 := by rw [show a117 = a111 by exact h116.2.2.1]; exact u118g
  exact hret _ _ _ _ dX11_visit_31 ⟨a117, rfl, hM114, (((FX.rf.tr fM103 (by decide)).tr fM108 (by decide)).tr fM114 (by decide)), by exact ⟨h116.1, ⟨h116.2.1, ⟨u118a, ⟨u118r, ⟨u118A, u118h⟩⟩⟩⟩⟩⟩
set_option maxHeartbeats 4000000 in
theorem s2_X11_gift {l : Launch} {dC : Nat → ClassId} {dI : Nat → Nat → Nat} {ad : Nat → Nat} {cA : Nat → ClassId} {pr : Nat → Nat → Bool} {Kz : mm_M} {M0 : mm_M} (hM0 : INV pr Kz M0) (hpr : PX pr) (hq8_0 : ∀ i, s_c i = 8 → pr i 0 = false) (a1 : Int) (ha1 : -2147483648 ≤ a1 ∧ a1 ≤ 2147483647) (gp : Nat) (cgp : s_c gp = 6) (egp : gp = M0.2.2 0 4) (hp0 : b01 (APX M0 gp) = 1) : Ci l 3 yX11_gift wsX11_gift dC dI ad cA [.ref (ad 0), .int (sI a1)] M0 (fun r M' => ∃ a : Int, r = sI a ∧ INV pr Kz M' ∧ FX [12, 15, 16, 17, 18, 20, 21, 22, 23, 24, 25, 26, 27, 28, 29, 30, 31, 32, 33, 34, 35, 36, 37, 38, 39, 40, 41, 42, 43, 44, 45, 46, 47, 48, 49] M0 M' ∧ (-2147483648) ≤ a ∧ a ≤ 2147483647 ∧ (a = aI (wkF (rwX M0 gp 12) a1) (addI ((rwX M0 gp 12) 30).toInt 1)) ∧ (b01 (rwX M' gp 12 = dvS (wkF (rwX M0 gp 12) a1) (rwX M0 gp 12) (gsS (rwX M0 gp 12))) = 1) ∧ (b01 (APX M' gp) = 1) ∧ (b01 (RGI a M0 M' (skX M0 12)) = 1)) := by
  refine ci_of (cc := cX11_gift) (maxL := 2) (ty := .int) (lv := [(0, .ref (ad 0)), (1, .int (sI a1))]) (by decide) rfl (fun r M' hp => rfl) (Nat.le_of_ble_eq_true rfl) rfl ?_
  intro p e s m args below meth c A Q C hret
  refine j_aload_n C 0 0 dX11_gift_0 rfl rfl ?_
  refine y_getC C 10 15 fX11_gift_40 rfl rfl ft_10_7 sm_10_7 rfl hM0 dX11_gift_1 ?_
  refine j_aload_n C 0 0 dX11_gift_4 rfl rfl ?_
  refine y_getC C 10 12 fX11_gift_36 rfl rfl ft_10_6 sm_10_6 rfl hM0 dX11_gift_5 ?_
  refine j_callVv C (d := 0) (As := [.ref (ad 12)]) (st := []) 15 (s_lt rfl rfl) (s_kc (c := 8) rfl rfl) (by decide) rfl (s2_X9_copyFrom hM0 hpr hq8_0) gX11_gift_X9_copyFrom rfl hdX9_copyFrom (by decide) (Nat.le_of_ble_eq_true rfl) dX11_gift_8 rfl (fun M103 h104 => ?_)
  obtain ⟨hM103, fM103, h105⟩ := h104
  refine j_aload_n C 0 0 dX11_gift_11 rfl rfl ?_
  refine j_aload_n C 0 0 dX11_gift_12 rfl rfl ?_
  refine y_getC C 10 87 fX11_gift_85 rfl rfl ft_10_13 sm_10_13 rfl hM103 dX11_gift_13 ?_
  refine j_aload_n C 0 0 dX11_gift_16 rfl rfl ?_
  refine y_getC C 10 12 fX11_gift_36 rfl rfl ft_10_6 sm_10_6 rfl hM103 dX11_gift_17 ?_
  refine j_iload_n C 1 1 dX11_gift_20 rfl rfl ?_
  refine j_callVi C (d := 2) (As := [.ref (ad 12), .int (sI a1)]) (st := [.ref (ad 0)]) 87 (s_lt rfl rfl) (s_kc (c := 1) rfl rfl) (by decide) rfl (s2_X1_giveAway hM103 hpr a1 (by exact ⟨ha1.1, ha1.2⟩) gp cgp) gX11_gift_X1_giveAway rfl hdX1_giveAway (by decide) (Nat.le_of_ble_eq_true rfl) dX11_gift_21 rfl (fun r106 M107 h108 => ?_)
  obtain ⟨a110, rfl, hM107, fM107, h109⟩ := h108
  refine j_callVi C (d := 2) (As := [.int (sI a110)]) (st := []) 0 (s_lt rfl rfl) (s_kc (c := 10) rfl rfl) (by decide) rfl (s2_X11_settle hM107 hpr hq8_0 a110 (by exact ⟨h109.1, h109.2.1⟩)) gX11_gift_X11_settle rfl hdX11_settle (by decide) (Nat.le_of_ble_eq_true rfl) dX11_gift_24 rfl (fun r112 M113 h114 => ?_)
  obtain ⟨a116, rfl, hM113, fM113, h115⟩ := h114
  have u117e : rwX M103 gp 12 = rwX M0 gp 12 := (rx_f (p := gp) (v := 12) (ple_f (p := gp) ((FX.rf.tr fM103 (by decide)) : FX [15, 16, 17] M0 M103) cgp (by decide)) (ske_n ((FX.rf.tr fM103 (by decide)) : FX [15, 16, 17] M0 M103) ⟨by decide, by decide, by decide⟩))
  have u117r : b01 (rwX M113 gp 12 = dvS (wkF (rwX M0 gp 12) a1) (rwX M0 gp 12) (gsS (rwX M0 gp 12))) = 1 := by rw [(rx_f (p := gp) (v := 12) (ple_f (p := gp) ((FX.rf.tr fM113 (by decide)) : FX [18, 20, 21, 22, 23, 24, 25, 26, 27, 28, 29, 30, 31, 32, 33, 34, 35, 36, 37, 38, 39, 40, 41, 42, 43, 44, 45, 46, 47, 48, 49] M107 M113) cgp (by decide)) (ske_n ((FX.rf.tr fM113 (by decide)) : FX [18, 20, 21, 22, 23, 24, 25, 26, 27, 28, 29, 30, 31, 32, 33, 34, 35, 36, 37, 38, 39, 40, 41, 42, 43, 44, 45, 46, 47, 48, 49] M107 M113) ⟨by decide, by decide, by decide⟩)), ← u117e]; exact h109.2.2.2
  have u117a : a116 = aI (wkF (rwX M0 gp 12) a1) (addI ((rwX M0 gp 12) 30).toInt 1) := by rw [← u117e]; (clear u117r u117e fM113 hM113 fM107 hM107 h105 fM103 hM103 hret C hp0 egp cgp ha1 hq8_0 hpr hM0; omega)
  have u117A7 := hM0.rd (i := gp) (c := 6) (k := 7) cgp (show s_b 6 7 = (0, 900) from rfl)
  have u117A9 := hM0.rd (i := gp) (c := 6) (k := 9) cgp (show s_b 6 9 = (0, 900) from rfl)
  have u117A := apx_o (M := M0) (N := M113) (p := gp) (ple_f (p := gp) ((((FX.rf.tr fM103 (by decide)).tr fM107 (by decide)).tr fM113 (by decide)) : FX [12, 15, 16, 17, 18, 20, 21, 22, 23, 24, 25, 26, 27, 28, 29, 30, 31, 32, 33, 34, 35, 36, 37, 38, 39, 40, 41, 42, 43, 44, 45, 46, 47, 48, 49] M0 M113) cgp (by decide)) (((((FX.rf.tr fM103 (by decide)).tr fM107 (by decide)).tr fM113 (by decide)) : FX [12, 15, 16, 17, 18, 20, 21, 22, 23, 24, 25, 26, 27, 28, 29, 30, 31, 32, 33, 34, 35, 36, 37, 38, 39, 40, 41, 42, 43, 44, 45, 46, 47, 48, 49] M0 M113).cell (by decide)) (((((FX.rf.tr fM103 (by decide)).tr fM107 (by decide)).tr fM113 (by decide)) : FX [12, 15, 16, 17, 18, 20, 21, 22, 23, 24, 25, 26, 27, 28, 29, 30, 31, 32, 33, 34, 35, 36, 37, 38, 39, 40, 41, 42, 43, 44, 45, 46, 47, 48, 49] M0 M113).cell (by decide)) (((((FX.rf.tr fM103 (by decide)).tr fM107 (by decide)).tr fM113 (by decide)) : FX [12, 15, 16, 17, 18, 20, 21, 22, 23, 24, 25, 26, 27, 28, 29, 30, 31, 32, 33, 34, 35, 36, 37, 38, 39, 40, 41, 42, 43, 44, 45, 46, 47, 48, 49] M0 M113).cell (by decide)) u117A7.1 u117A9.1 (by exact hp0)
  have u117s : skX M107 15 = skX M0 12 := (sk_f (ske_n ((FX.rf.tr fM107 (by decide)) : FX [12] M103 M107) ⟨by decide, by decide, by decide⟩)).trans (b01_e (P := skX M103 15 = skX M0 12) (by exact h105))
  have u117g := rgi_m (a := a110) (M := M0) (B := M107) (N := M113) (r := skX M107 15) (((FX.rf.tr fM103 (by decide)).tr fM107 (by decide)) : FX [12, 15, 16, 17] M0 M107) (by decide) (by decide) u117s (by exact h115.2.2.2)
  have u117h : b01 (RGI a116 M0 M113 (skX M0 12)) = 1 := by rw [show a116 = a110 by exact h115.2.2.1]; exact u117g
  exact hret _ _ _ _ dX11_gift_27 ⟨a116, rfl, hM113, (((FX.rf.tr fM103 (by decide)).tr fM107 (by decide)).tr fM113 (by decide)), by exact ⟨h115.1, ⟨h115.2.1, ⟨u117a, ⟨u117r, ⟨u117A, u117h⟩⟩⟩⟩⟩⟩
set_option maxHeartbeats 4000000 in
theorem s2_X11_hide {l : Launch} {dC : Nat → ClassId} {dI : Nat → Nat → Nat} {ad : Nat → Nat} {cA : Nat → ClassId} {pr : Nat → Nat → Bool} {Kz : mm_M} {M0 : mm_M} (hM0 : INV pr Kz M0) (hpr : PX pr) (hq8_0 : ∀ i, s_c i = 8 → pr i 0 = false) (a1 : Int) (ha1 : -2147483648 ≤ a1 ∧ a1 ≤ 2147483647) (gp : Nat) (cgp : s_c gp = 6) (egp : gp = M0.2.2 0 4) (hp0 : b01 (APX M0 gp) = 1) : Ci l 3 yX11_hide wsX11_hide dC dI ad cA [.ref (ad 0), .int (sI a1)] M0 (fun r M' => ∃ a : Int, r = sI a ∧ INV pr Kz M' ∧ FX [12, 15, 16, 17, 18, 20, 21, 22, 23, 24, 25, 26, 27, 28, 29, 30, 31, 32, 33, 34, 35, 36, 37, 38, 39, 40, 41, 42, 43, 44, 45, 46, 47, 48, 49] M0 M' ∧ (-2147483648) ≤ a ∧ a ≤ 2147483647 ∧ (a = aI (wkF (rwX M0 gp 12) a1) (andI (shrI (xorI ((rwX M0 gp 12) 28).toInt (pw2 a1)) a1) 1)) ∧ (b01 (rwX M' gp 12 = dvS (wkF (rwX M0 gp 12) a1) (rwX M0 gp 12) (hsS (rwX M0 gp 12) a1)) = 1) ∧ (b01 (APX M' gp) = 1) ∧ (b01 (RGI a M0 M' (skX M0 12)) = 1)) := by
  refine ci_of (cc := cX11_hide) (maxL := 2) (ty := .int) (lv := [(0, .ref (ad 0)), (1, .int (sI a1))]) (by decide) rfl (fun r M' hp => rfl) (Nat.le_of_ble_eq_true rfl) rfl ?_
  intro p e s m args below meth c A Q C hret
  refine j_aload_n C 0 0 dX11_hide_0 rfl rfl ?_
  refine y_getC C 10 15 fX11_hide_40 rfl rfl ft_10_7 sm_10_7 rfl hM0 dX11_hide_1 ?_
  refine j_aload_n C 0 0 dX11_hide_4 rfl rfl ?_
  refine y_getC C 10 12 fX11_hide_36 rfl rfl ft_10_6 sm_10_6 rfl hM0 dX11_hide_5 ?_
  refine j_callVv C (d := 0) (As := [.ref (ad 12)]) (st := []) 15 (s_lt rfl rfl) (s_kc (c := 8) rfl rfl) (by decide) rfl (s2_X9_copyFrom hM0 hpr hq8_0) gX11_hide_X9_copyFrom rfl hdX9_copyFrom (by decide) (Nat.le_of_ble_eq_true rfl) dX11_hide_8 rfl (fun M103 h104 => ?_)
  obtain ⟨hM103, fM103, h105⟩ := h104
  refine j_aload_n C 0 0 dX11_hide_11 rfl rfl ?_
  refine j_aload_n C 0 0 dX11_hide_12 rfl rfl ?_
  refine y_getC C 10 87 fX11_hide_85 rfl rfl ft_10_13 sm_10_13 rfl hM103 dX11_hide_13 ?_
  refine j_aload_n C 0 0 dX11_hide_16 rfl rfl ?_
  refine y_getC C 10 12 fX11_hide_36 rfl rfl ft_10_6 sm_10_6 rfl hM103 dX11_hide_17 ?_
  refine j_iload_n C 1 1 dX11_hide_20 rfl rfl ?_
  refine j_callVi C (d := 2) (As := [.ref (ad 12), .int (sI a1)]) (st := [.ref (ad 0)]) 87 (s_lt rfl rfl) (s_kc (c := 1) rfl rfl) (by decide) rfl (s2_X1_turn hM103 hpr a1 (by exact ⟨ha1.1, ha1.2⟩) gp cgp) gX11_hide_X1_turn rfl hdX1_turn (by decide) (Nat.le_of_ble_eq_true rfl) dX11_hide_21 rfl (fun r106 M107 h108 => ?_)
  obtain ⟨a110, rfl, hM107, fM107, h109⟩ := h108
  refine j_callVi C (d := 2) (As := [.int (sI a110)]) (st := []) 0 (s_lt rfl rfl) (s_kc (c := 10) rfl rfl) (by decide) rfl (s2_X11_settle hM107 hpr hq8_0 a110 (by (clear fM107 hM107 h105 fM103 hM103 hret C hp0 egp cgp ha1 hq8_0 hpr hM0; omega))) gX11_hide_X11_settle rfl hdX11_settle (by decide) (Nat.le_of_ble_eq_true rfl) dX11_hide_24 rfl (fun r112 M113 h114 => ?_)
  obtain ⟨a116, rfl, hM113, fM113, h115⟩ := h114
  have u117e : rwX M103 gp 12 = rwX M0 gp 12 := (rx_f (p := gp) (v := 12) (ple_f (p := gp) ((FX.rf.tr fM103 (by decide)) : FX [15, 16, 17] M0 M103) cgp (by decide)) (ske_n ((FX.rf.tr fM103 (by decide)) : FX [15, 16, 17] M0 M103) ⟨by decide, by decide, by decide⟩))
  have u117r : b01 (rwX M113 gp 12 = dvS (wkF (rwX M0 gp 12) a1) (rwX M0 gp 12) (hsS (rwX M0 gp 12) a1)) = 1 := by rw [(rx_f (p := gp) (v := 12) (ple_f (p := gp) ((FX.rf.tr fM113 (by decide)) : FX [18, 20, 21, 22, 23, 24, 25, 26, 27, 28, 29, 30, 31, 32, 33, 34, 35, 36, 37, 38, 39, 40, 41, 42, 43, 44, 45, 46, 47, 48, 49] M107 M113) cgp (by decide)) (ske_n ((FX.rf.tr fM113 (by decide)) : FX [18, 20, 21, 22, 23, 24, 25, 26, 27, 28, 29, 30, 31, 32, 33, 34, 35, 36, 37, 38, 39, 40, 41, 42, 43, 44, 45, 46, 47, 48, 49] M107 M113) ⟨by decide, by decide, by decide⟩)), ← u117e]; exact h109.2.2.2
  have u117a : a116 = aI (wkF (rwX M0 gp 12) a1) (andI (shrI (xorI ((rwX M0 gp 12) 28).toInt (pw2 a1)) a1) 1) := by rw [← u117e]; (clear u117r u117e fM113 hM113 fM107 hM107 h105 fM103 hM103 hret C hp0 egp cgp ha1 hq8_0 hpr hM0; omega)
  have u117A7 := hM0.rd (i := gp) (c := 6) (k := 7) cgp (show s_b 6 7 = (0, 900) from rfl)
  have u117A9 := hM0.rd (i := gp) (c := 6) (k := 9) cgp (show s_b 6 9 = (0, 900) from rfl)
  have u117A := apx_o (M := M0) (N := M113) (p := gp) (ple_f (p := gp) ((((FX.rf.tr fM103 (by decide)).tr fM107 (by decide)).tr fM113 (by decide)) : FX [12, 15, 16, 17, 18, 20, 21, 22, 23, 24, 25, 26, 27, 28, 29, 30, 31, 32, 33, 34, 35, 36, 37, 38, 39, 40, 41, 42, 43, 44, 45, 46, 47, 48, 49] M0 M113) cgp (by decide)) (((((FX.rf.tr fM103 (by decide)).tr fM107 (by decide)).tr fM113 (by decide)) : FX [12, 15, 16, 17, 18, 20, 21, 22, 23, 24, 25, 26, 27, 28, 29, 30, 31, 32, 33, 34, 35, 36, 37, 38, 39, 40, 41, 42, 43, 44, 45, 46, 47, 48, 49] M0 M113).cell (by decide)) (((((FX.rf.tr fM103 (by decide)).tr fM107 (by decide)).tr fM113 (by decide)) : FX [12, 15, 16, 17, 18, 20, 21, 22, 23, 24, 25, 26, 27, 28, 29, 30, 31, 32, 33, 34, 35, 36, 37, 38, 39, 40, 41, 42, 43, 44, 45, 46, 47, 48, 49] M0 M113).cell (by decide)) (((((FX.rf.tr fM103 (by decide)).tr fM107 (by decide)).tr fM113 (by decide)) : FX [12, 15, 16, 17, 18, 20, 21, 22, 23, 24, 25, 26, 27, 28, 29, 30, 31, 32, 33, 34, 35, 36, 37, 38, 39, 40, 41, 42, 43, 44, 45, 46, 47, 48, 49] M0 M113).cell (by decide)) u117A7.1 u117A9.1 (by exact hp0)
  have u117s : skX M107 15 = skX M0 12 := (sk_f (ske_n ((FX.rf.tr fM107 (by decide)) : FX [12] M103 M107) ⟨by decide, by decide, by decide⟩)).trans (b01_e (P := skX M103 15 = skX M0 12) (by exact h105))
  have u117g := rgi_m (a := a110) (M := M0) (B := M107) (N := M113) (r := skX M107 15) (((FX.rf.tr fM103 (by decide)).tr fM107 (by decide)) : FX [12, 15, 16, 17] M0 M107) (by decide) (by decide) u117s (by exact h115.2.2.2)
  have u117h : b01 (RGI a116 M0 M113 (skX M0 12)) = 1 := by rw [show a116 = a110 by exact h115.2.2.1]; exact u117g
  exact hret _ _ _ _ dX11_hide_27 ⟨a116, rfl, hM113, (((FX.rf.tr fM103 (by decide)).tr fM107 (by decide)).tr fM113 (by decide)), by exact ⟨h115.1, ⟨h115.2.1, ⟨u117a, ⟨u117r, ⟨u117A, u117h⟩⟩⟩⟩⟩⟩
set_option maxHeartbeats 4000000 in
theorem s2_X11_add {l : Launch} {dC : Nat → ClassId} {dI : Nat → Nat → Nat} {ad : Nat → Nat} {cA : Nat → ClassId} {pr : Nat → Nat → Bool} {Kz : mm_M} {M0 : mm_M} (hM0 : INV pr Kz M0) (hpr : PX pr) (hq8_0 : ∀ i, s_c i = 8 → pr i 0 = false) (a1 : Int) (ha1 : -2147483648 ≤ a1 ∧ a1 ≤ 2147483647) (a2 : Int) (ha2 : -2147483648 ≤ a2 ∧ a2 ≤ 2147483647) (gp : Nat) (cgp : s_c gp = 6) (egp : gp = M0.2.2 0 4) (hp0 : b01 (APX M0 gp) = 1) : Ci l 3 yX11_add wsX11_add dC dI ad cA [.ref (ad 0), .int (sI a1), .int (sI a2)] M0 (fun r M' => ∃ a : Int, r = sI a ∧ INV pr Kz M' ∧ FX [12, 13, 14, 15, 16, 17, 18, 20, 21, 22, 23, 24, 25, 26, 27, 28, 29, 30, 31, 32, 33, 34, 35, 36, 37, 38, 39, 40, 41, 42, 43, 44, 45, 46, 47, 48, 49] M0 M' ∧ (-2147483648) ≤ a ∧ a ≤ 2147483647 ∧ (a = aI (waF (rwX M0 gp 12) a1 a2) (((rwX M0 gp 12) 26).toInt)) ∧ (b01 (rwX M' gp 12 = dvS (waF (rwX M0 gp 12) a1 a2) (rwX M0 gp 12) (asS (rwX M0 gp 12) a1 a2)) = 1) ∧ (b01 (APX M' gp) = 1) ∧ (b01 (RGI a M0 M' (skX M0 12)) = 1)) := by
  refine ci_of (cc := cX11_add) (maxL := 3) (ty := .int) (lv := [(0, .ref (ad 0)), (1, .int (sI a1)), (2, .int (sI a2))]) (by decide) rfl (fun r M' hp => rfl) (Nat.le_of_ble_eq_true rfl) rfl ?_
  intro p e s m args below meth c A Q C hret
  refine j_aload_n C 0 0 dX11_add_0 rfl rfl ?_
  refine y_getC C 10 15 fX11_add_40 rfl rfl ft_10_7 sm_10_7 rfl hM0 dX11_add_1 ?_
  refine j_aload_n C 0 0 dX11_add_4 rfl rfl ?_
  refine y_getC C 10 12 fX11_add_36 rfl rfl ft_10_6 sm_10_6 rfl hM0 dX11_add_5 ?_
  refine j_callVv C (d := 0) (As := [.ref (ad 12)]) (st := []) 15 (s_lt rfl rfl) (s_kc (c := 8) rfl rfl) (by decide) rfl (s2_X9_copyFrom hM0 hpr hq8_0) gX11_add_X9_copyFrom rfl hdX9_copyFrom (by decide) (Nat.le_of_ble_eq_true rfl) dX11_add_8 rfl (fun M103 h104 => ?_)
  obtain ⟨hM103, fM103, h105⟩ := h104
  refine j_aload_n C 0 0 dX11_add_11 rfl rfl ?_
  refine j_aload_n C 0 0 dX11_add_12 rfl rfl ?_
  refine y_getC C 10 87 fX11_add_85 rfl rfl ft_10_13 sm_10_13 rfl hM103 dX11_add_13 ?_
  refine j_aload_n C 0 0 dX11_add_16 rfl rfl ?_
  refine y_getC C 10 12 fX11_add_36 rfl rfl ft_10_6 sm_10_6 rfl hM103 dX11_add_17 ?_
  refine j_iload_n C 1 1 dX11_add_20 rfl rfl ?_
  refine j_iload_n C 2 2 dX11_add_21 rfl rfl ?_
  refine j_callVi C (d := 2) (As := [.ref (ad 12), .int (sI a1), .int (sI a2)]) (st := [.ref (ad 0)]) 87 (s_lt rfl rfl) (s_kc (c := 1) rfl rfl) (by decide) rfl (s2_X1_bringIn hM103 hpr hq8_0 a1 (by exact ⟨ha1.1, ha1.2⟩) a2 (by exact ⟨ha2.1, ha2.2⟩) gp cgp) gX11_add_X1_bringIn rfl hdX1_bringIn (by decide) (Nat.le_of_ble_eq_true rfl) dX11_add_22 rfl (fun r106 M107 h108 => ?_)
  obtain ⟨a110, rfl, hM107, fM107, h109⟩ := h108
  refine j_callVi C (d := 2) (As := [.int (sI a110)]) (st := []) 0 (s_lt rfl rfl) (s_kc (c := 10) rfl rfl) (by decide) rfl (s2_X11_settle hM107 hpr hq8_0 a110 (by (clear fM107 hM107 h105 fM103 hM103 hret C hp0 egp cgp ha2 ha1 hq8_0 hpr hM0; omega))) gX11_add_X11_settle rfl hdX11_settle (by decide) (Nat.le_of_ble_eq_true rfl) dX11_add_25 rfl (fun r112 M113 h114 => ?_)
  obtain ⟨a116, rfl, hM113, fM113, h115⟩ := h114
  have u117e : rwX M103 gp 12 = rwX M0 gp 12 := (rx_f (p := gp) (v := 12) (ple_f (p := gp) ((FX.rf.tr fM103 (by decide)) : FX [15, 16, 17] M0 M103) cgp (by decide)) (ske_n ((FX.rf.tr fM103 (by decide)) : FX [15, 16, 17] M0 M103) ⟨by decide, by decide, by decide⟩))
  have u117r : b01 (rwX M113 gp 12 = dvS (waF (rwX M0 gp 12) a1 a2) (rwX M0 gp 12) (asS (rwX M0 gp 12) a1 a2)) = 1 := by rw [(rx_f (p := gp) (v := 12) (ple_f (p := gp) ((FX.rf.tr fM113 (by decide)) : FX [18, 20, 21, 22, 23, 24, 25, 26, 27, 28, 29, 30, 31, 32, 33, 34, 35, 36, 37, 38, 39, 40, 41, 42, 43, 44, 45, 46, 47, 48, 49] M107 M113) cgp (by decide)) (ske_n ((FX.rf.tr fM113 (by decide)) : FX [18, 20, 21, 22, 23, 24, 25, 26, 27, 28, 29, 30, 31, 32, 33, 34, 35, 36, 37, 38, 39, 40, 41, 42, 43, 44, 45, 46, 47, 48, 49] M107 M113) ⟨by decide, by decide, by decide⟩)), ← u117e]; exact h109.2.2.2
  have u117a : a116 = aI (waF (rwX M0 gp 12) a1 a2) (((rwX M0 gp 12) 26).toInt) := by rw [← u117e]; (clear u117r u117e fM113 hM113 fM107 hM107 h105 fM103 hM103 hret C hp0 egp cgp ha2 ha1 hq8_0 hpr hM0; omega)
  have u117A7 := hM0.rd (i := gp) (c := 6) (k := 7) cgp (show s_b 6 7 = (0, 900) from rfl)
  have u117A9 := hM0.rd (i := gp) (c := 6) (k := 9) cgp (show s_b 6 9 = (0, 900) from rfl)
  have u117A := apx_o (M := M0) (N := M113) (p := gp) (ple_f (p := gp) ((((FX.rf.tr fM103 (by decide)).tr fM107 (by decide)).tr fM113 (by decide)) : FX [12, 13, 14, 15, 16, 17, 18, 20, 21, 22, 23, 24, 25, 26, 27, 28, 29, 30, 31, 32, 33, 34, 35, 36, 37, 38, 39, 40, 41, 42, 43, 44, 45, 46, 47, 48, 49] M0 M113) cgp (by decide)) (((((FX.rf.tr fM103 (by decide)).tr fM107 (by decide)).tr fM113 (by decide)) : FX [12, 13, 14, 15, 16, 17, 18, 20, 21, 22, 23, 24, 25, 26, 27, 28, 29, 30, 31, 32, 33, 34, 35, 36, 37, 38, 39, 40, 41, 42, 43, 44, 45, 46, 47, 48, 49] M0 M113).cell (by decide)) (((((FX.rf.tr fM103 (by decide)).tr fM107 (by decide)).tr fM113 (by decide)) : FX [12, 13, 14, 15, 16, 17, 18, 20, 21, 22, 23, 24, 25, 26, 27, 28, 29, 30, 31, 32, 33, 34, 35, 36, 37, 38, 39, 40, 41, 42, 43, 44, 45, 46, 47, 48, 49] M0 M113).cell (by decide)) (((((FX.rf.tr fM103 (by decide)).tr fM107 (by decide)).tr fM113 (by decide)) : FX [12, 13, 14, 15, 16, 17, 18, 20, 21, 22, 23, 24, 25, 26, 27, 28, 29, 30, 31, 32, 33, 34, 35, 36, 37, 38, 39, 40, 41, 42, 43, 44, 45, 46, 47, 48, 49] M0 M113).cell (by decide)) u117A7.1 u117A9.1 (by exact hp0)
  have u117s : skX M107 15 = skX M0 12 := (sk_f (ske_n ((FX.rf.tr fM107 (by decide)) : FX [12, 13, 14] M103 M107) ⟨by decide, by decide, by decide⟩)).trans (b01_e (P := skX M103 15 = skX M0 12) (by exact h105))
  have u117g := rgi_m (a := a110) (M := M0) (B := M107) (N := M113) (r := skX M107 15) (((FX.rf.tr fM103 (by decide)).tr fM107 (by decide)) : FX [12, 13, 14, 15, 16, 17] M0 M107) (by decide) (by decide) u117s (by exact h115.2.2.2)
  have u117h : b01 (RGI a116 M0 M113 (skX M0 12)) = 1 := by rw [show a116 = a110 by exact h115.2.2.1]; exact u117g
  exact hret _ _ _ _ dX11_add_28 ⟨a116, rfl, hM113, (((FX.rf.tr fM103 (by decide)).tr fM107 (by decide)).tr fM113 (by decide)), by exact ⟨h115.1, ⟨h115.2.1, ⟨u117a, ⟨u117r, ⟨u117A, u117h⟩⟩⟩⟩⟩⟩
set_option maxHeartbeats 4000000 in
theorem s2_X11_price {l : Launch} {dC : Nat → ClassId} {dI : Nat → Nat → Nat} {ad : Nat → Nat} {cA : Nat → ClassId} {pr : Nat → Nat → Bool} {Kz : mm_M} {M0 : mm_M} (hM0 : INV pr Kz M0) (hpr : PX pr) (hq8_0 : ∀ i, s_c i = 8 → pr i 0 = false) (a1 : Int) (ha1 : -2147483648 ≤ a1 ∧ a1 ≤ 2147483647) (a2 : Int) (ha2 : -2147483648 ≤ a2 ∧ a2 ≤ 2147483647) (gp : Nat) (cgp : s_c gp = 6) (egp : gp = M0.2.2 0 4) (hp0 : b01 (APX M0 gp) = 1) : Ci l 3 yX11_price wsX11_price dC dI ad cA [.ref (ad 0), .int (sI a1), .int (sI a2)] M0 (fun r M' => ∃ a : Int, r = sI a ∧ INV pr Kz M' ∧ FX [13, 15, 16, 17, 18, 20, 21, 22, 23, 24, 25, 26, 27, 28, 29, 30, 31, 32, 33, 34, 35, 36, 37, 38, 39, 40, 41, 42, 43, 44, 45, 46, 47, 48, 49] M0 M' ∧ (-2147483648) ≤ a ∧ a ≤ 2147483647 ∧ (a = aI (wpF (rwX M0 gp 12) a1 a2) (((rwX M0 gp 12) (33 + a1).toNat).toInt)) ∧ (b01 (rwX M' gp 12 = dvS (wpF (rwX M0 gp 12) a1 a2) (rwX M0 gp 12) (psS (rwX M0 gp 12) a1 a2)) = 1) ∧ (b01 (APX M' gp) = 1) ∧ (b01 (RGI a M0 M' (skX M0 12)) = 1)) := by
  refine ci_of (cc := cX11_price) (maxL := 3) (ty := .int) (lv := [(0, .ref (ad 0)), (1, .int (sI a1)), (2, .int (sI a2))]) (by decide) rfl (fun r M' hp => rfl) (Nat.le_of_ble_eq_true rfl) rfl ?_
  intro p e s m args below meth c A Q C hret
  refine j_aload_n C 0 0 dX11_price_0 rfl rfl ?_
  refine y_getC C 10 15 fX11_price_40 rfl rfl ft_10_7 sm_10_7 rfl hM0 dX11_price_1 ?_
  refine j_aload_n C 0 0 dX11_price_4 rfl rfl ?_
  refine y_getC C 10 12 fX11_price_36 rfl rfl ft_10_6 sm_10_6 rfl hM0 dX11_price_5 ?_
  refine j_callVv C (d := 0) (As := [.ref (ad 12)]) (st := []) 15 (s_lt rfl rfl) (s_kc (c := 8) rfl rfl) (by decide) rfl (s2_X9_copyFrom hM0 hpr hq8_0) gX11_price_X9_copyFrom rfl hdX9_copyFrom (by decide) (Nat.le_of_ble_eq_true rfl) dX11_price_8 rfl (fun M103 h104 => ?_)
  obtain ⟨hM103, fM103, h105⟩ := h104
  refine j_aload_n C 0 0 dX11_price_11 rfl rfl ?_
  refine j_aload_n C 0 0 dX11_price_12 rfl rfl ?_
  refine y_getC C 10 87 fX11_price_85 rfl rfl ft_10_13 sm_10_13 rfl hM103 dX11_price_13 ?_
  refine j_aload_n C 0 0 dX11_price_16 rfl rfl ?_
  refine y_getC C 10 12 fX11_price_36 rfl rfl ft_10_6 sm_10_6 rfl hM103 dX11_price_17 ?_
  refine j_iload_n C 1 1 dX11_price_20 rfl rfl ?_
  refine j_iload_n C 2 2 dX11_price_21 rfl rfl ?_
  refine j_callVi C (d := 2) (As := [.ref (ad 12), .int (sI a1), .int (sI a2)]) (st := [.ref (ad 0)]) 87 (s_lt rfl rfl) (s_kc (c := 1) rfl rfl) (by decide) rfl (s2_X1_reprice hM103 hpr a1 (by exact ⟨ha1.1, ha1.2⟩) a2 (by exact ⟨ha2.1, ha2.2⟩) gp cgp) gX11_price_X1_reprice rfl hdX1_reprice (by decide) (Nat.le_of_ble_eq_true rfl) dX11_price_22 rfl (fun r106 M107 h108 => ?_)
  obtain ⟨a110, rfl, hM107, fM107, h109⟩ := h108
  refine j_callVi C (d := 2) (As := [.int (sI a110)]) (st := []) 0 (s_lt rfl rfl) (s_kc (c := 10) rfl rfl) (by decide) rfl (s2_X11_settle hM107 hpr hq8_0 a110 (by exact ⟨h109.1, h109.2.1⟩)) gX11_price_X11_settle rfl hdX11_settle (by decide) (Nat.le_of_ble_eq_true rfl) dX11_price_25 rfl (fun r112 M113 h114 => ?_)
  obtain ⟨a116, rfl, hM113, fM113, h115⟩ := h114
  have u117e : rwX M103 gp 12 = rwX M0 gp 12 := (rx_f (p := gp) (v := 12) (ple_f (p := gp) ((FX.rf.tr fM103 (by decide)) : FX [15, 16, 17] M0 M103) cgp (by decide)) (ske_n ((FX.rf.tr fM103 (by decide)) : FX [15, 16, 17] M0 M103) ⟨by decide, by decide, by decide⟩))
  have u117r : b01 (rwX M113 gp 12 = dvS (wpF (rwX M0 gp 12) a1 a2) (rwX M0 gp 12) (psS (rwX M0 gp 12) a1 a2)) = 1 := by rw [(rx_f (p := gp) (v := 12) (ple_f (p := gp) ((FX.rf.tr fM113 (by decide)) : FX [18, 20, 21, 22, 23, 24, 25, 26, 27, 28, 29, 30, 31, 32, 33, 34, 35, 36, 37, 38, 39, 40, 41, 42, 43, 44, 45, 46, 47, 48, 49] M107 M113) cgp (by decide)) (ske_n ((FX.rf.tr fM113 (by decide)) : FX [18, 20, 21, 22, 23, 24, 25, 26, 27, 28, 29, 30, 31, 32, 33, 34, 35, 36, 37, 38, 39, 40, 41, 42, 43, 44, 45, 46, 47, 48, 49] M107 M113) ⟨by decide, by decide, by decide⟩)), ← u117e]; exact h109.2.2.2
  have u117a : a116 = aI (wpF (rwX M0 gp 12) a1 a2) (((rwX M0 gp 12) (33 + a1).toNat).toInt) := by rw [← u117e]; (clear u117r u117e fM113 hM113 fM107 hM107 h105 fM103 hM103 hret C hp0 egp cgp ha2 ha1 hq8_0 hpr hM0; omega)
  have u117A7 := hM0.rd (i := gp) (c := 6) (k := 7) cgp (show s_b 6 7 = (0, 900) from rfl)
  have u117A9 := hM0.rd (i := gp) (c := 6) (k := 9) cgp (show s_b 6 9 = (0, 900) from rfl)
  have u117A := apx_o (M := M0) (N := M113) (p := gp) (ple_f (p := gp) ((((FX.rf.tr fM103 (by decide)).tr fM107 (by decide)).tr fM113 (by decide)) : FX [13, 15, 16, 17, 18, 20, 21, 22, 23, 24, 25, 26, 27, 28, 29, 30, 31, 32, 33, 34, 35, 36, 37, 38, 39, 40, 41, 42, 43, 44, 45, 46, 47, 48, 49] M0 M113) cgp (by decide)) (((((FX.rf.tr fM103 (by decide)).tr fM107 (by decide)).tr fM113 (by decide)) : FX [13, 15, 16, 17, 18, 20, 21, 22, 23, 24, 25, 26, 27, 28, 29, 30, 31, 32, 33, 34, 35, 36, 37, 38, 39, 40, 41, 42, 43, 44, 45, 46, 47, 48, 49] M0 M113).cell (by decide)) (((((FX.rf.tr fM103 (by decide)).tr fM107 (by decide)).tr fM113 (by decide)) : FX [13, 15, 16, 17, 18, 20, 21, 22, 23, 24, 25, 26, 27, 28, 29, 30, 31, 32, 33, 34, 35, 36, 37, 38, 39, 40, 41, 42, 43, 44, 45, 46, 47, 48, 49] M0 M113).cell (by decide)) (((((FX.rf.tr fM103 (by decide)).tr fM107 (by decide)).tr fM113 (by decide)) : FX [13, 15, 16, 17, 18, 20, 21, 22, 23, 24, 25, 26, 27, 28, 29, 30, 31, 32, 33, 34, 35, 36, 37, 38, 39, 40, 41, 42, 43, 44, 45, 46, 47, 48, 49] M0 M113).cell (by decide)) u117A7.1 u117A9.1 (by exact hp0)
  have u117s : skX M107 15 = skX M0 12 := (sk_f (ske_n ((FX.rf.tr fM107 (by decide)) : FX [13] M103 M107) ⟨by decide, by decide, by decide⟩)).trans (b01_e (P := skX M103 15 = skX M0 12) (by exact h105))
  have u117g := rgi_m (a := a110) (M := M0) (B := M107) (N := M113) (r := skX M107 15) (((FX.rf.tr fM103 (by decide)).tr fM107 (by decide)) : FX [13, 15, 16, 17] M0 M107) (by decide) (by decide) u117s (by exact h115.2.2.2)
  have u117h : b01 (RGI a116 M0 M113 (skX M0 12)) = 1 := by rw [show a116 = a110 by exact h115.2.2.1]; exact u117g
  exact hret _ _ _ _ dX11_price_28 ⟨a116, rfl, hM113, (((FX.rf.tr fM103 (by decide)).tr fM107 (by decide)).tr fM113 (by decide)), by exact ⟨h115.1, ⟨h115.2.1, ⟨u117a, ⟨u117r, ⟨u117A, u117h⟩⟩⟩⟩⟩⟩
set_option maxHeartbeats 4000000 in
theorem s13_X9_copyFrom {l : Launch} {dC : Nat → ClassId} {dI : Nat → Nat → Nat} {ad : Nat → Nat} {cA : Nat → ClassId} {pr : Nat → Nat → Bool} {Kz : mm_M} {M0 : mm_M} (hM0 : INV pr Kz M0) (hpr : PX pr) (hq8_0 : ∀ i, s_c i = 8 → pr i 0 = false)  : Cv l 0 yX9_copyFrom wsX9_copyFrom dC dI ad cA [.ref (ad 20), .ref (ad 12)] M0 (fun M' => INV pr Kz M' ∧ FX [20, 21, 22] M0 M' ∧ (b01 (skX M' 20 = skX M0 12) = 1)) := by
  refine cv_of (cc := cX9_copyFrom) (maxL := 3) (lv := [(0, .ref (ad 20)), (1, .ref (ad 12))]) (by decide) rfl (Nat.le_of_ble_eq_true rfl) rfl ?_
  intro p e s m args below meth c A Q C hret
  refine j_aload_n C 0 0 dX9_copyFrom_0 rfl rfl ?_
  refine j_aload_n C 1 1 dX9_copyFrom_1 rfl rfl ?_
  refine y_getI C 8 _ _ fX9_copyFrom_9 rfl rfl ft_8_0 sb_8_0 hM0 dX9_copyFrom_2 (fun a101 ea101 la101 ua101 => ?_)
  obtain rfl : a101 = (M0.1 12 0).toInt := ea101
  refine y_putI C 8 _ _ qX9_copyFrom_9 rfl rfl ft_8_0 sb_8_0 hM0 (hq8_0 _ rfl) dX9_copyFrom_5 (by exact ⟨⟨(by (clear hret C hq8_0 hpr hM0; omega)), (by (clear hret C hq8_0 hpr hM0; omega))⟩, ⟨la101, ua101⟩⟩) (fun M103 eM103 hM103 => ?_)
  refine y_iconst C dX9_copyFrom_8 ?_
  refine j_istore_n C 2 [(2, .int (sI 0)), (0, .ref (ad 20)), (1, .ref (ad 12))] dX9_copyFrom_9 rfl (by decide) rfl ?_
  have u104z := cpa_0 M103 M0 21 13 22 14
  have L188 : ∀ (n186 : Nat), ∀ (a189 : Int) (M190 : mm_M), (0 ≤ a189 ∧ a189 ≤ 8 ∧ ((M190.1 20 0).toInt = (M0.1 12 0).toInt) ∧ (b01 (CPA M190 M0 21 13 22 14 a189) = 1) ∧ (8 - a189) < (n186 : Int)) → INV pr Kz M190 → FX [20, 21, 22] M0 M190 → jj p l e (cn_R 0) s m args below meth c 0 0 Q 3 dC dI ad cA A M190 10 [(0, .ref (ad 20)), (1, .ref (ad 12)), (2, .int (sI a189))] [] := by
    intro n186
    induction n186 with
    | zero =>
      intro a189 M190 h191 hM190 fM190
      exfalso; omega
    | succ n186 ih187 =>
      intro a189 M190 h191 hM190 fM190
      refine j_iload_n C 2 2 dX9_copyFrom_10 rfl rfl ?_
      refine y_bipush C dX9_copyFrom_11 rfl ?_
      refine y_icmp_ge C 46 dX9_copyFrom_13 (by decide) (by exact ⟨⟨(by (clear fM190 hM190 ih187 u104z hM103 eM103 ua101 la101 hret C hq8_0 hpr hM0; omega)), (by (clear fM190 hM190 ih187 u104z hM103 eM103 ua101 la101 hret C hq8_0 hpr hM0; omega))⟩, ⟨(by decide), (by decide)⟩⟩) (fun h193 => ?_) (fun h193 => ?_)
      · refine j_aload_n C 0 0 dX9_copyFrom_46 rfl rfl ?_
        refine j_aload_n C 1 1 dX9_copyFrom_47 rfl rfl ?_
        refine y_getI C 8 _ _ fX9_copyFrom_22 rfl rfl ft_8_3 sb_8_3 hM190 dX9_copyFrom_48 (fun a199 ea199 la199 ua199 => ?_)
        obtain rfl : a199 = (M0.1 12 3).toInt := s_fX fM190 (by decide) (ea199)
        refine y_putI C 8 _ _ qX9_copyFrom_22 rfl rfl ft_8_3 sb_8_3 hM190 (PX.w hpr rfl rfl) dX9_copyFrom_51 (by exact ⟨⟨(by (clear h193 fM190 hM190 h191 ih187 u104z hM103 eM103 ua101 la101 hret C hq8_0 hpr hM0; omega)), (by (clear h193 fM190 hM190 h191 ih187 u104z hM103 eM103 ua101 la101 hret C hq8_0 hpr hM0; omega))⟩, ⟨la199, ua199⟩⟩) (fun M201 eM201 hM201 => ?_)
        refine j_aload_n C 0 0 dX9_copyFrom_54 rfl rfl ?_
        refine j_aload_n C 1 1 dX9_copyFrom_55 rfl rfl ?_
        refine y_getI C 8 _ _ fX9_copyFrom_25 rfl rfl ft_8_4 sb_8_4 hM201 dX9_copyFrom_56 (fun a202 ea202 la202 ua202 => ?_)
        obtain rfl : a202 = (M0.1 12 4).toInt := s_fX fM190 (by decide) (s_fa eM201 (by decide) (ea202))
        refine y_putI C 8 _ _ qX9_copyFrom_25 rfl rfl ft_8_4 sb_8_4 hM201 (PX.w hpr rfl rfl) dX9_copyFrom_59 (by exact ⟨⟨(by (clear hM201 eM201 ua199 la199 ea199 h193 fM190 hM190 h191 ih187 u104z hM103 eM103 ua101 la101 hret C hq8_0 hpr hM0; omega)), (by (clear hM201 eM201 ua199 la199 ea199 h193 fM190 hM190 h191 ih187 u104z hM103 eM103 ua101 la101 hret C hq8_0 hpr hM0; omega))⟩, ⟨la202, ua202⟩⟩) (fun M204 eM204 hM204 => ?_)
        refine j_aload_n C 0 0 dX9_copyFrom_62 rfl rfl ?_
        refine j_aload_n C 1 1 dX9_copyFrom_63 rfl rfl ?_
        refine y_getI C 8 _ _ fX9_copyFrom_28 rfl rfl ft_8_5 sb_8_5 hM204 dX9_copyFrom_64 (fun a205 ea205 la205 ua205 => ?_)
        obtain rfl : a205 = (M0.1 12 5).toInt := s_fX fM190 (by decide) (s_fa eM201 (by decide) (s_fa eM204 (by decide) (ea205)))
        refine y_putIF C 8 qX9_copyFrom_28 rfl rfl ft_8_5 sb_8_5 hM204 (PX.w hpr rfl rfl) dX9_copyFrom_67 (fun M207 eM207 hM207 => ?_)
        refine j_aload_n C 0 0 dX9_copyFrom_70 rfl rfl ?_
        refine j_aload_n C 1 1 dX9_copyFrom_71 rfl rfl ?_
        refine y_getI C 8 _ _ fX9_copyFrom_31 rfl rfl ft_8_6 sb_8_6 hM207 dX9_copyFrom_72 (fun a208 ea208 la208 ua208 => ?_)
        obtain rfl : a208 = (M0.1 12 6).toInt := s_fX fM190 (by decide) (s_fa eM201 (by decide) (s_fa eM204 (by decide) (s_fa eM207 (by decide) (ea208))))
        refine y_putIF C 8 qX9_copyFrom_31 rfl rfl ft_8_6 sb_8_6 hM207 (PX.w hpr rfl rfl) dX9_copyFrom_75 (fun M210 eM210 hM210 => ?_)
        refine j_aload_n C 0 0 dX9_copyFrom_78 rfl rfl ?_
        refine j_aload_n C 1 1 dX9_copyFrom_79 rfl rfl ?_
        refine y_getI C 8 _ _ fX9_copyFrom_34 rfl rfl ft_8_7 sb_8_7 hM210 dX9_copyFrom_80 (fun a211 ea211 la211 ua211 => ?_)
        obtain rfl : a211 = (M0.1 12 7).toInt := s_fX fM190 (by decide) (s_fa eM201 (by decide) (s_fa eM204 (by decide) (s_fa eM207 (by decide) (s_fa eM210 (by decide) (ea211)))))
        refine y_putIF C 8 qX9_copyFrom_34 rfl rfl ft_8_7 sb_8_7 hM210 (PX.w hpr rfl rfl) dX9_copyFrom_83 (fun M213 eM213 hM213 => ?_)
        refine j_aload_n C 0 0 dX9_copyFrom_86 rfl rfl ?_
        refine j_aload_n C 1 1 dX9_copyFrom_87 rfl rfl ?_
        refine y_getI C 8 _ _ fX9_copyFrom_37 rfl rfl ft_8_8 sb_8_8 hM213 dX9_copyFrom_88 (fun a214 ea214 la214 ua214 => ?_)
        obtain rfl : a214 = (M0.1 12 8).toInt := s_fX fM190 (by decide) (s_fa eM201 (by decide) (s_fa eM204 (by decide) (s_fa eM207 (by decide) (s_fa eM210 (by decide) (s_fa eM213 (by decide) (ea214))))))
        refine y_putIF C 8 qX9_copyFrom_37 rfl rfl ft_8_8 sb_8_8 hM213 (PX.w hpr rfl rfl) dX9_copyFrom_91 (fun M216 eM216 hM216 => ?_)
        have u217c := cpa_c (M := M190) (M' := M216) (B := M0) (p0 := 21) (p1 := 13) (g0 := 22) (g1 := 14) (n := a189) (n' := 8) (by exact h191.2.2.2.1) ((((((wI_cell eM216 (by decide)).trans (wI_cell eM213 (by decide))).trans (wI_cell eM210 (by decide))).trans (wI_cell eM207 (by decide))).trans (wI_cell eM204 (by decide))).trans (wI_cell eM201 (by decide))) ((((((wI_cell eM216 (by decide)).trans (wI_cell eM213 (by decide))).trans (wI_cell eM210 (by decide))).trans (wI_cell eM207 (by decide))).trans (wI_cell eM204 (by decide))).trans (wI_cell eM201 (by decide))) (by omega)
        have zz20_0 : (M216.1 20 0).toInt = (M190.1 20 0).toInt := s_fb eM201 (by decide) (s_fb eM204 (by decide) (s_fb eM207 (by decide) (s_fb eM210 (by decide) (s_fb eM213 (by decide) (s_fb eM216 (by decide) (rfl))))))
        have zz20_3 := (Eq.trans (s_fb eM204 (by decide) (s_fb eM207 (by decide) (s_fb eM210 (by decide) (s_fb eM213 (by decide) (s_fb eM216 (by decide) (rfl))))) : (M216.1 20 3).toInt = (M201.1 20 3).toInt) (s_wr eM201 (by (clear zz20_0 u217c hM216 eM216 ua214 la214 ea214 hM213 eM213 ua211 la211 ea211 hM210 eM210 ua208 la208 ea208 hM207 eM207 ua205 la205 ea205 hM204 eM204 ua202 la202 ea202 hM201 eM201 h193 fM190 hM190 h191 ih187 u104z hM103 eM103 ua101 la101 hret C hq8_0 hpr hM0; omega))))
        have zz20_4 := (Eq.trans (s_fb eM207 (by decide) (s_fb eM210 (by decide) (s_fb eM213 (by decide) (s_fb eM216 (by decide) (rfl)))) : (M216.1 20 4).toInt = (M204.1 20 4).toInt) (s_wr eM204 (by (clear zz20_3 zz20_0 u217c hM216 eM216 ua214 la214 ea214 hM213 eM213 ua211 la211 ea211 hM210 eM210 ua208 la208 ea208 hM207 eM207 ua205 la205 ea205 hM204 eM204 hM201 eM201 ua199 la199 ea199 h193 fM190 hM190 h191 ih187 u104z hM103 eM103 ua101 la101 hret C hq8_0 hpr hM0; omega))))
        have zz20_5 := (Eq.trans (s_fb eM210 (by decide) (s_fb eM213 (by decide) (s_fb eM216 (by decide) (rfl))) : (M216.1 20 5).toInt = (M207.1 20 5).toInt) (s_wr eM207 (by exact ⟨la205, ua205⟩)))
        have zz20_6 := (Eq.trans (s_fb eM213 (by decide) (s_fb eM216 (by decide) (rfl)) : (M216.1 20 6).toInt = (M210.1 20 6).toInt) (s_wr eM210 (by exact ⟨la208, ua208⟩)))
        have zz20_7 := (Eq.trans (s_fb eM216 (by decide) (rfl) : (M216.1 20 7).toInt = (M213.1 20 7).toInt) (s_wr eM213 (by exact ⟨la211, ua211⟩)))
        have zz20_8 := (Eq.trans (rfl : (M216.1 20 8).toInt = (M216.1 20 8).toInt) (s_wr eM216 (by exact ⟨la214, ua214⟩)))
        have u217k := copy_k (M := M0) (N := M216) (d := 20) (s := 12) (p := 0) (by (clear zz20_8 zz20_7 zz20_6 zz20_5 zz20_4 zz20_3 u217c hM216 eM216 ua214 la214 ea214 hM213 eM213 ua211 la211 ea211 hM210 eM210 ua208 la208 ea208 hM207 eM207 ua205 la205 ea205 hM204 eM204 ua202 la202 ea202 hM201 eM201 ua199 la199 ea199 h193 fM190 hM190 ih187 u104z hM103 eM103 ua101 la101 hret C hq8_0 hpr hM0; omega)) (by exact zz20_3) (by exact zz20_4) (by exact zz20_5) (by exact zz20_6) (by exact zz20_7) (by exact zz20_8) (show b01 (CPA M216 M0 21 13 22 14 8) = 1 from by exact u217c)
        exact hret _ _ _ dX9_copyFrom_94 ⟨hM216, (((((((FX.rf.tr fM190 (by decide)).wI eM201 (by decide)).wI eM204 (by decide)).wI eM207 (by decide)).wI eM210 (by decide)).wI eM213 (by decide)).wI eM216 (by decide)), by exact u217k⟩
      · refine j_aload_n C 0 0 dX9_copyFrom_16 rfl rfl ?_
        refine y_getC C 8 21 fX9_copyFrom_15 rfl rfl ft_8_1 sm_8_1 rfl hM190 dX9_copyFrom_17 ?_
        refine j_iload_n C 2 2 dX9_copyFrom_20 rfl rfl ?_
        refine j_aload_n C 1 1 dX9_copyFrom_21 rfl rfl ?_
        refine y_getC C 8 13 fX9_copyFrom_15 rfl rfl ft_8_1 sm_8_1 rfl hM190 dX9_copyFrom_22 ?_
        refine j_iload_n C 2 2 dX9_copyFrom_25 rfl rfl ?_
        refine y_iald C 25 8 _ _ rfl rfl rfl ak_25 an_25 rfl (sb_25 _) hM190 dX9_copyFrom_26 (by exact ⟨h191.1, (by omega)⟩) (fun a194 ea194 la194 ua194 => ?_)
        obtain rfl : a194 = (M0.1 13 (a189).toNat).toInt := s_fX fM190 (by decide) (ea194)
        refine y_iastF C 25 8 rfl rfl rfl ak_25 an_25 rfl (sb_25 _) hM190 (PX.w hpr rfl rfl) dX9_copyFrom_27 (by exact ⟨h191.1, (by omega)⟩) (fun M195 eM195 hM195 => ?_)
        refine j_aload_n C 0 0 dX9_copyFrom_28 rfl rfl ?_
        refine y_getC C 8 22 fX9_copyFrom_19 rfl rfl ft_8_2 sm_8_2 rfl hM195 dX9_copyFrom_29 ?_
        refine j_iload_n C 2 2 dX9_copyFrom_32 rfl rfl ?_
        refine j_aload_n C 1 1 dX9_copyFrom_33 rfl rfl ?_
        refine y_getC C 8 14 fX9_copyFrom_19 rfl rfl ft_8_2 sm_8_2 rfl hM195 dX9_copyFrom_34 ?_
        refine j_iload_n C 2 2 dX9_copyFrom_37 rfl rfl ?_
        refine y_iald C 26 8 _ _ rfl rfl rfl ak_26 an_26 rfl (sb_26 _) hM195 dX9_copyFrom_38 (by exact ⟨h191.1, (by omega)⟩) (fun a196 ea196 la196 ua196 => ?_)
        obtain rfl : a196 = (M0.1 14 (a189).toNat).toInt := s_fX fM190 (by decide) (s_fa eM195 (by decide) (ea196))
        refine y_iastF C 26 8 rfl rfl rfl ak_26 an_26 rfl (sb_26 _) hM195 (PX.w hpr rfl rfl) dX9_copyFrom_39 (by exact ⟨h191.1, (by omega)⟩) (fun M197 eM197 hM197 => ?_)
        refine y_iinc C 2 [(2, .int (sI (a189 + 1))), (0, .ref (ad 20)), (1, .ref (ad 12))] dX9_copyFrom_40 rfl (by decide) rfl ?_
        refine j_goto C 10 dX9_copyFrom_43 (by decide) ?_
        have u198s := cpa_s (B := M0) (p1 := 13) (g1 := 14) (n := a189) (n' := (a189 + 1)) (by exact h191.2.2.2.1) (by omega) eM195 eM197 (by decide)
        have zz20_0 : (M197.1 20 0).toInt = (M190.1 20 0).toInt := s_fa eM195 (by decide) (s_fa eM197 (by decide) (rfl)); refine j_lv [1, 2, 0] rfl ?_; exact ih187 (a189 + 1) M197 (by exact ⟨(by (clear hM197 eM197 ua196 la196 ea196 hM195 eM195 ua194 la194 ea194 fM190 hM190 ih187 u104z hM103 eM103 ua101 la101 hret C hq8_0 hpr hM0; omega)), ⟨(by (clear hM197 eM197 ua196 la196 ea196 hM195 eM195 ua194 la194 ea194 fM190 hM190 ih187 u104z hM103 eM103 ua101 la101 hret C hq8_0 hpr hM0; omega)), ⟨(by (clear hM197 eM197 ua196 la196 ea196 hM195 eM195 ua194 la194 ea194 fM190 hM190 ih187 u104z hM103 eM103 ua101 la101 hret C hq8_0 hpr hM0; omega)), ⟨u198s, (by (clear hM197 eM197 ua196 la196 ea196 hM195 eM195 ua194 la194 ea194 fM190 hM190 ih187 u104z hM103 eM103 ua101 la101 hret C hq8_0 hpr hM0; omega))⟩⟩⟩⟩) hM197 (((FX.rf.tr fM190 (by decide)).wI eM195 (by decide)).wI eM197 (by decide))
  have zz20_0 := (Eq.trans (rfl : (M103.1 20 0).toInt = (M103.1 20 0).toInt) (s_wr eM103 (by omega))); refine j_lv [1, 2, 0] rfl ?_; exact L188 2010 0 M103 (by exact ⟨(by decide), ⟨(by decide), ⟨zz20_0, ⟨u104z, (by decide)⟩⟩⟩⟩) hM103 (FX.rf.wI eM103 (by decide))
set_option maxHeartbeats 4000000 in
theorem s14_X9_copyFrom {l : Launch} {dC : Nat → ClassId} {dI : Nat → Nat → Nat} {ad : Nat → Nat} {cA : Nat → ClassId} {pr : Nat → Nat → Bool} {Kz : mm_M} {M0 : mm_M} (hM0 : INV pr Kz M0) (hpr : PX pr) (hq8_0 : ∀ i, s_c i = 8 → pr i 0 = false)  : Cv l 0 yX9_copyFrom wsX9_copyFrom dC dI ad cA [.ref (ad 23), .ref (ad 12)] M0 (fun M' => INV pr Kz M' ∧ FX [23, 24, 25] M0 M' ∧ (b01 (skX M' 23 = skX M0 12) = 1)) := by
  refine cv_of (cc := cX9_copyFrom) (maxL := 3) (lv := [(0, .ref (ad 23)), (1, .ref (ad 12))]) (by decide) rfl (Nat.le_of_ble_eq_true rfl) rfl ?_
  intro p e s m args below meth c A Q C hret
  refine j_aload_n C 0 0 dX9_copyFrom_0 rfl rfl ?_
  refine j_aload_n C 1 1 dX9_copyFrom_1 rfl rfl ?_
  refine y_getI C 8 _ _ fX9_copyFrom_9 rfl rfl ft_8_0 sb_8_0 hM0 dX9_copyFrom_2 (fun a101 ea101 la101 ua101 => ?_)
  obtain rfl : a101 = (M0.1 12 0).toInt := ea101
  refine y_putI C 8 _ _ qX9_copyFrom_9 rfl rfl ft_8_0 sb_8_0 hM0 (hq8_0 _ rfl) dX9_copyFrom_5 (by exact ⟨⟨(by omega), (by omega)⟩, ⟨la101, ua101⟩⟩) (fun M103 eM103 hM103 => ?_)
  refine y_iconst C dX9_copyFrom_8 ?_
  refine j_istore_n C 2 [(2, .int (sI 0)), (0, .ref (ad 23)), (1, .ref (ad 12))] dX9_copyFrom_9 rfl (by decide) rfl ?_
  have u104z := cpa_0 M103 M0 24 13 25 14
  have L188 : ∀ (n186 : Nat), ∀ (a189 : Int) (M190 : mm_M), (0 ≤ a189 ∧ a189 ≤ 8 ∧ ((M190.1 23 0).toInt = (M0.1 12 0).toInt) ∧ (b01 (CPA M190 M0 24 13 25 14 a189) = 1) ∧ (8 - a189) < (n186 : Int)) → INV pr Kz M190 → FX [23, 24, 25] M0 M190 → jj p l e (cn_R 0) s m args below meth c 0 0 Q 3 dC dI ad cA A M190 10 [(0, .ref (ad 23)), (1, .ref (ad 12)), (2, .int (sI a189))] [] := by
    intro n186
    induction n186 with
    | zero =>
      intro a189 M190 h191 hM190 fM190
      exfalso; omega
    | succ n186 ih187 =>
      intro a189 M190 h191 hM190 fM190
      refine j_iload_n C 2 2 dX9_copyFrom_10 rfl rfl ?_
      refine y_bipush C dX9_copyFrom_11 rfl ?_
      refine y_icmp_ge C 46 dX9_copyFrom_13 (by decide) (by exact ⟨⟨(by omega), (by omega)⟩, ⟨(by decide), (by decide)⟩⟩) (fun h193 => ?_) (fun h193 => ?_)
      · refine j_aload_n C 0 0 dX9_copyFrom_46 rfl rfl ?_
        refine j_aload_n C 1 1 dX9_copyFrom_47 rfl rfl ?_
        refine y_getI C 8 _ _ fX9_copyFrom_22 rfl rfl ft_8_3 sb_8_3 hM190 dX9_copyFrom_48 (fun a199 ea199 la199 ua199 => ?_)
        obtain rfl : a199 = (M0.1 12 3).toInt := s_fX fM190 (by decide) (ea199)
        refine y_putI C 8 _ _ qX9_copyFrom_22 rfl rfl ft_8_3 sb_8_3 hM190 (PX.w hpr rfl rfl) dX9_copyFrom_51 (by exact ⟨⟨(by omega), (by omega)⟩, ⟨la199, ua199⟩⟩) (fun M201 eM201 hM201 => ?_)
        refine j_aload_n C 0 0 dX9_copyFrom_54 rfl rfl ?_
        refine j_aload_n C 1 1 dX9_copyFrom_55 rfl rfl ?_
        refine y_getI C 8 _ _ fX9_copyFrom_25 rfl rfl ft_8_4 sb_8_4 hM201 dX9_copyFrom_56 (fun a202 ea202 la202 ua202 => ?_)
        obtain rfl : a202 = (M0.1 12 4).toInt := s_fX fM190 (by decide) (s_fa eM201 (by decide) (ea202))
        refine y_putI C 8 _ _ qX9_copyFrom_25 rfl rfl ft_8_4 sb_8_4 hM201 (PX.w hpr rfl rfl) dX9_copyFrom_59 (by exact ⟨⟨(by omega), (by omega)⟩, ⟨la202, ua202⟩⟩) (fun M204 eM204 hM204 => ?_)
        refine j_aload_n C 0 0 dX9_copyFrom_62 rfl rfl ?_
        refine j_aload_n C 1 1 dX9_copyFrom_63 rfl rfl ?_
        refine y_getI C 8 _ _ fX9_copyFrom_28 rfl rfl ft_8_5 sb_8_5 hM204 dX9_copyFrom_64 (fun a205 ea205 la205 ua205 => ?_)
        obtain rfl : a205 = (M0.1 12 5).toInt := s_fX fM190 (by decide) (s_fa eM201 (by decide) (s_fa eM204 (by decide) (ea205)))
        refine y_putIF C 8 qX9_copyFrom_28 rfl rfl ft_8_5 sb_8_5 hM204 (PX.w hpr rfl rfl) dX9_copyFrom_67 (fun M207 eM207 hM207 => ?_)
        refine j_aload_n C 0 0 dX9_copyFrom_70 rfl rfl ?_
        refine j_aload_n C 1 1 dX9_copyFrom_71 rfl rfl ?_
        refine y_getI C 8 _ _ fX9_copyFrom_31 rfl rfl ft_8_6 sb_8_6 hM207 dX9_copyFrom_72 (fun a208 ea208 la208 ua208 => ?_)
        obtain rfl : a208 = (M0.1 12 6).toInt := s_fX fM190 (by decide) (s_fa eM201 (by decide) (s_fa eM204 (by decide) (s_fa eM207 (by decide) (ea208))))
        refine y_putIF C 8 qX9_copyFrom_31 rfl rfl ft_8_6 sb_8_6 hM207 (PX.w hpr rfl rfl) dX9_copyFrom_75 (fun M210 eM210 hM210 => ?_)
        refine j_aload_n C 0 0 dX9_copyFrom_78 rfl rfl ?_
        refine j_aload_n C 1 1 dX9_copyFrom_79 rfl rfl ?_
        refine y_getI C 8 _ _ fX9_copyFrom_34 rfl rfl ft_8_7 sb_8_7 hM210 dX9_copyFrom_80 (fun a211 ea211 la211 ua211 => ?_)
        obtain rfl : a211 = (M0.1 12 7).toInt := s_fX fM190 (by decide) (s_fa eM201 (by decide) (s_fa eM204 (by decide) (s_fa eM207 (by decide) (s_fa eM210 (by decide) (ea211)))))
        refine y_putIF C 8 qX9_copyFrom_34 rfl rfl ft_8_7 sb_8_7 hM210 (PX.w hpr rfl rfl) dX9_copyFrom_83 (fun M213 eM213 hM213 => ?_)
        refine j_aload_n C 0 0 dX9_copyFrom_86 rfl rfl ?_
        refine j_aload_n C 1 1 dX9_copyFrom_87 rfl rfl ?_
        refine y_getI C 8 _ _ fX9_copyFrom_37 rfl rfl ft_8_8 sb_8_8 hM213 dX9_copyFrom_88 (fun a214 ea214 la214 ua214 => ?_)
        obtain rfl : a214 = (M0.1 12 8).toInt := s_fX fM190 (by decide) (s_fa eM201 (by decide) (s_fa eM204 (by decide) (s_fa eM207 (by decide) (s_fa eM210 (by decide) (s_fa eM213 (by decide) (ea214))))))
        refine y_putIF C 8 qX9_copyFrom_37 rfl rfl ft_8_8 sb_8_8 hM213 (PX.w hpr rfl rfl) dX9_copyFrom_91 (fun M216 eM216 hM216 => ?_)
        have u217c := cpa_c (M := M190) (M' := M216) (B := M0) (p0 := 24) (p1 := 13) (g0 := 25) (g1 := 14) (n := a189) (n' := 8) (by exact h191.2.2.2.1) ((((((wI_cell eM216 (by decide)).trans (wI_cell eM213 (by decide))).trans (wI_cell eM210 (by decide))).trans (wI_cell eM207 (by decide))).trans (wI_cell eM204 (by decide))).trans (wI_cell eM201 (by decide))) ((((((wI_cell eM216 (by decide)).trans (wI_cell eM213 (by decide))).trans (wI_cell eM210 (by decide))).trans (wI_cell eM207 (by decide))).trans (wI_cell eM204 (by decide))).trans (wI_cell eM201 (by decide))) (by omega)
        have zz23_0 : (M216.1 23 0).toInt = (M190.1 23 0).toInt := s_fb eM201 (by decide) (s_fb eM204 (by decide) (s_fb eM207 (by decide) (s_fb eM210 (by decide) (s_fb eM213 (by decide) (s_fb eM216 (by decide) (rfl))))))
        have zz23_3 := (Eq.trans (s_fb eM204 (by decide) (s_fb eM207 (by decide) (s_fb eM210 (by decide) (s_fb eM213 (by decide) (s_fb eM216 (by decide) (rfl))))) : (M216.1 23 3).toInt = (M201.1 23 3).toInt) (s_wr eM201 (by omega)))
        have zz23_4 := (Eq.trans (s_fb eM207 (by decide) (s_fb eM210 (by decide) (s_fb eM213 (by decide) (s_fb eM216 (by decide) (rfl)))) : (M216.1 23 4).toInt = (M204.1 23 4).toInt) (s_wr eM204 (by omega)))
        have zz23_5 := (Eq.trans (s_fb eM210 (by decide) (s_fb eM213 (by decide) (s_fb eM216 (by decide) (rfl))) : (M216.1 23 5).toInt = (M207.1 23 5).toInt) (s_wr eM207 (by exact ⟨la205, ua205⟩)))
        have zz23_6 := (Eq.trans (s_fb eM213 (by decide) (s_fb eM216 (by decide) (rfl)) : (M216.1 23 6).toInt = (M210.1 23 6).toInt) (s_wr eM210 (by exact ⟨la208, ua208⟩)))
        have zz23_7 := (Eq.trans (s_fb eM216 (by decide) (rfl) : (M216.1 23 7).toInt = (M213.1 23 7).toInt) (s_wr eM213 (by exact ⟨la211, ua211⟩)))
        have zz23_8 := (Eq.trans (rfl : (M216.1 23 8).toInt = (M216.1 23 8).toInt) (s_wr eM216 (by exact ⟨la214, ua214⟩)))
        have u217k := copy_k (M := M0) (N := M216) (d := 23) (s := 12) (p := 0) (by (clear zz23_8 zz23_7 zz23_6 zz23_5 zz23_4 zz23_3 u217c hM216 eM216 ua214 la214 ea214 hM213 eM213 ua211 la211 ea211 hM210 eM210 ua208 la208 ea208 hM207 eM207 ua205 la205 ea205 hM204 eM204 ua202 la202 ea202 hM201 eM201 ua199 la199 ea199 h193 fM190 hM190 ih187 u104z hM103 eM103 ua101 la101 hret C hq8_0 hpr hM0; omega)) (by exact zz23_3) (by exact zz23_4) (by exact zz23_5) (by exact zz23_6) (by exact zz23_7) (by exact zz23_8) (show b01 (CPA M216 M0 24 13 25 14 8) = 1 from by exact u217c)
        exact hret _ _ _ dX9_copyFrom_94 ⟨hM216, (((((((FX.rf.tr fM190 (by decide)).wI eM201 (by decide)).wI eM204 (by decide)).wI eM207 (by decide)).wI eM210 (by decide)).wI eM213 (by decide)).wI eM216 (by decide)), by exact u217k⟩
      · refine j_aload_n C 0 0 dX9_copyFrom_16 rfl rfl ?_
        refine y_getC C 8 24 fX9_copyFrom_15 rfl rfl ft_8_1 sm_8_1 rfl hM190 dX9_copyFrom_17 ?_
        refine j_iload_n C 2 2 dX9_copyFrom_20 rfl rfl ?_
        refine j_aload_n C 1 1 dX9_copyFrom_21 rfl rfl ?_
        refine y_getC C 8 13 fX9_copyFrom_15 rfl rfl ft_8_1 sm_8_1 rfl hM190 dX9_copyFrom_22 ?_
        refine j_iload_n C 2 2 dX9_copyFrom_25 rfl rfl ?_
        refine y_iald C 25 8 _ _ rfl rfl rfl ak_25 an_25 rfl (sb_25 _) hM190 dX9_copyFrom_26 (by exact ⟨h191.1, (by omega)⟩) (fun a194 ea194 la194 ua194 => ?_)
        obtain rfl : a194 = (M0.1 13 (a189).toNat).toInt := s_fX fM190 (by decide) (ea194)
        refine y_iastF C 25 8 rfl rfl rfl ak_25 an_25 rfl (sb_25 _) hM190 (PX.w hpr rfl rfl) dX9_copyFrom_27 (by exact ⟨h191.1, (by omega)⟩) (fun M195 eM195 hM195 => ?_)
        refine j_aload_n C 0 0 dX9_copyFrom_28 rfl rfl ?_
        refine y_getC C 8 25 fX9_copyFrom_19 rfl rfl ft_8_2 sm_8_2 rfl hM195 dX9_copyFrom_29 ?_
        refine j_iload_n C 2 2 dX9_copyFrom_32 rfl rfl ?_
        refine j_aload_n C 1 1 dX9_copyFrom_33 rfl rfl ?_
        refine y_getC C 8 14 fX9_copyFrom_19 rfl rfl ft_8_2 sm_8_2 rfl hM195 dX9_copyFrom_34 ?_
        refine j_iload_n C 2 2 dX9_copyFrom_37 rfl rfl ?_
        refine y_iald C 26 8 _ _ rfl rfl rfl ak_26 an_26 rfl (sb_26 _) hM195 dX9_copyFrom_38 (by exact ⟨h191.1, (by omega)⟩) (fun a196 ea196 la196 ua196 => ?_)
        obtain rfl : a196 = (M0.1 14 (a189).toNat).toInt := s_fX fM190 (by decide) (s_fa eM195 (by decide) (ea196))
        refine y_iastF C 26 8 rfl rfl rfl ak_26 an_26 rfl (sb_26 _) hM195 (PX.w hpr rfl rfl) dX9_copyFrom_39 (by exact ⟨h191.1, (by omega)⟩) (fun M197 eM197 hM197 => ?_)
        refine y_iinc C 2 [(2, .int (sI (a189 + 1))), (0, .ref (ad 23)), (1, .ref (ad 12))] dX9_copyFrom_40 rfl (by decide) rfl ?_
        refine j_goto C 10 dX9_copyFrom_43 (by decide) ?_
        have u198s := cpa_s (B := M0) (p1 := 13) (g1 := 14) (n := a189) (n' := (a189 + 1)) (by exact h191.2.2.2.1) (by omega) eM195 eM197 (by decide)
        have zz23_0 : (M197.1 23 0).toInt = (M190.1 23 0).toInt := s_fa eM195 (by decide) (s_fa eM197 (by decide) (rfl)); refine j_lv [1, 2, 0] rfl ?_; exact ih187 (a189 + 1) M197 (by exact ⟨(by (clear hM197 eM197 ua196 la196 ea196 hM195 eM195 ua194 la194 ea194 fM190 hM190 ih187 u104z hM103 eM103 ua101 la101 hret C hq8_0 hpr hM0; omega)), ⟨(by (clear hM197 eM197 ua196 la196 ea196 hM195 eM195 ua194 la194 ea194 fM190 hM190 ih187 u104z hM103 eM103 ua101 la101 hret C hq8_0 hpr hM0; omega)), ⟨(by (clear hM197 eM197 ua196 la196 ea196 hM195 eM195 ua194 la194 ea194 fM190 hM190 ih187 u104z hM103 eM103 ua101 la101 hret C hq8_0 hpr hM0; omega)), ⟨u198s, (by (clear hM197 eM197 ua196 la196 ea196 hM195 eM195 ua194 la194 ea194 fM190 hM190 ih187 u104z hM103 eM103 ua101 la101 hret C hq8_0 hpr hM0; omega))⟩⟩⟩⟩) hM197 (((FX.rf.tr fM190 (by decide)).wI eM195 (by decide)).wI eM197 (by decide))
  have zz23_0 := (Eq.trans (rfl : (M103.1 23 0).toInt = (M103.1 23 0).toInt) (s_wr eM103 (by omega))); refine j_lv [1, 2, 0] rfl ?_; exact L188 2010 0 M103 (by exact ⟨(by decide), ⟨(by decide), ⟨zz23_0, ⟨u104z, (by decide)⟩⟩⟩⟩) hM103 (FX.rf.wI eM103 (by decide))
set_option maxHeartbeats 4000000 in
theorem s15_X9_copyFrom {l : Launch} {dC : Nat → ClassId} {dI : Nat → Nat → Nat} {ad : Nat → Nat} {cA : Nat → ClassId} {pr : Nat → Nat → Bool} {Kz : mm_M} {M0 : mm_M} (hM0 : INV pr Kz M0) (hpr : PX pr) (hq8_0 : ∀ i, s_c i = 8 → pr i 0 = false)  : Cv l 0 yX9_copyFrom wsX9_copyFrom dC dI ad cA [.ref (ad 26), .ref (ad 12)] M0 (fun M' => INV pr Kz M' ∧ FX [26, 27, 28] M0 M' ∧ (b01 (skX M' 26 = skX M0 12) = 1)) := by
  refine cv_of (cc := cX9_copyFrom) (maxL := 3) (lv := [(0, .ref (ad 26)), (1, .ref (ad 12))]) (by decide) rfl (Nat.le_of_ble_eq_true rfl) rfl ?_
  intro p e s m args below meth c A Q C hret
  refine j_aload_n C 0 0 dX9_copyFrom_0 rfl rfl ?_
  refine j_aload_n C 1 1 dX9_copyFrom_1 rfl rfl ?_
  refine y_getI C 8 _ _ fX9_copyFrom_9 rfl rfl ft_8_0 sb_8_0 hM0 dX9_copyFrom_2 (fun a101 ea101 la101 ua101 => ?_)
  obtain rfl : a101 = (M0.1 12 0).toInt := ea101
  refine y_putI C 8 _ _ qX9_copyFrom_9 rfl rfl ft_8_0 sb_8_0 hM0 (hq8_0 _ rfl) dX9_copyFrom_5 (by exact ⟨⟨(by omega), (by omega)⟩, ⟨la101, ua101⟩⟩) (fun M103 eM103 hM103 => ?_)
  refine y_iconst C dX9_copyFrom_8 ?_
  refine j_istore_n C 2 [(2, .int (sI 0)), (0, .ref (ad 26)), (1, .ref (ad 12))] dX9_copyFrom_9 rfl (by decide) rfl ?_
  have u104z := cpa_0 M103 M0 27 13 28 14
  have L188 : ∀ (n186 : Nat), ∀ (a189 : Int) (M190 : mm_M), (0 ≤ a189 ∧ a189 ≤ 8 ∧ ((M190.1 26 0).toInt = (M0.1 12 0).toInt) ∧ (b01 (CPA M190 M0 27 13 28 14 a189) = 1) ∧ (8 - a189) < (n186 : Int)) → INV pr Kz M190 → FX [26, 27, 28] M0 M190 → jj p l e (cn_R 0) s m args below meth c 0 0 Q 3 dC dI ad cA A M190 10 [(0, .ref (ad 26)), (1, .ref (ad 12)), (2, .int (sI a189))] [] := by
    intro n186
    induction n186 with
    | zero =>
      intro a189 M190 h191 hM190 fM190
      exfalso; omega
    | succ n186 ih187 =>
      intro a189 M190 h191 hM190 fM190
      refine j_iload_n C 2 2 dX9_copyFrom_10 rfl rfl ?_
      refine y_bipush C dX9_copyFrom_11 rfl ?_
      refine y_icmp_ge C 46 dX9_copyFrom_13 (by decide) (by exact ⟨⟨(by omega), (by omega)⟩, ⟨(by decide), (by decide)⟩⟩) (fun h193 => ?_) (fun h193 => ?_)
      · refine j_aload_n C 0 0 dX9_copyFrom_46 rfl rfl ?_
        refine j_aload_n C 1 1 dX9_copyFrom_47 rfl rfl ?_
        refine y_getI C 8 _ _ fX9_copyFrom_22 rfl rfl ft_8_3 sb_8_3 hM190 dX9_copyFrom_48 (fun a199 ea199 la199 ua199 => ?_)
        obtain rfl : a199 = (M0.1 12 3).toInt := s_fX fM190 (by decide) (ea199)
        refine y_putI C 8 _ _ qX9_copyFrom_22 rfl rfl ft_8_3 sb_8_3 hM190 (PX.w hpr rfl rfl) dX9_copyFrom_51 (by exact ⟨⟨(by omega), (by omega)⟩, ⟨la199, ua199⟩⟩) (fun M201 eM201 hM201 => ?_)
        refine j_aload_n C 0 0 dX9_copyFrom_54 rfl rfl ?_
        refine j_aload_n C 1 1 dX9_copyFrom_55 rfl rfl ?_
        refine y_getI C 8 _ _ fX9_copyFrom_25 rfl rfl ft_8_4 sb_8_4 hM201 dX9_copyFrom_56 (fun a202 ea202 la202 ua202 => ?_)
        obtain rfl : a202 = (M0.1 12 4).toInt := s_fX fM190 (by decide) (s_fa eM201 (by decide) (ea202))
        refine y_putI C 8 _ _ qX9_copyFrom_25 rfl rfl ft_8_4 sb_8_4 hM201 (PX.w hpr rfl rfl) dX9_copyFrom_59 (by exact ⟨⟨(by omega), (by omega)⟩, ⟨la202, ua202⟩⟩) (fun M204 eM204 hM204 => ?_)
        refine j_aload_n C 0 0 dX9_copyFrom_62 rfl rfl ?_
        refine j_aload_n C 1 1 dX9_copyFrom_63 rfl rfl ?_
        refine y_getI C 8 _ _ fX9_copyFrom_28 rfl rfl ft_8_5 sb_8_5 hM204 dX9_copyFrom_64 (fun a205 ea205 la205 ua205 => ?_)
        obtain rfl : a205 = (M0.1 12 5).toInt := s_fX fM190 (by decide) (s_fa eM201 (by decide) (s_fa eM204 (by decide) (ea205)))
        refine y_putIF C 8 qX9_copyFrom_28 rfl rfl ft_8_5 sb_8_5 hM204 (PX.w hpr rfl rfl) dX9_copyFrom_67 (fun M207 eM207 hM207 => ?_)
        refine j_aload_n C 0 0 dX9_copyFrom_70 rfl rfl ?_
        refine j_aload_n C 1 1 dX9_copyFrom_71 rfl rfl ?_
        refine y_getI C 8 _ _ fX9_copyFrom_31 rfl rfl ft_8_6 sb_8_6 hM207 dX9_copyFrom_72 (fun a208 ea208 la208 ua208 => ?_)
        obtain rfl : a208 = (M0.1 12 6).toInt := s_fX fM190 (by decide) (s_fa eM201 (by decide) (s_fa eM204 (by decide) (s_fa eM207 (by decide) (ea208))))
        refine y_putIF C 8 qX9_copyFrom_31 rfl rfl ft_8_6 sb_8_6 hM207 (PX.w hpr rfl rfl) dX9_copyFrom_75 (fun M210 eM210 hM210 => ?_)
        refine j_aload_n C 0 0 dX9_copyFrom_78 rfl rfl ?_
        refine j_aload_n C 1 1 dX9_copyFrom_79 rfl rfl ?_
        refine y_getI C 8 _ _ fX9_copyFrom_34 rfl rfl ft_8_7 sb_8_7 hM210 dX9_copyFrom_80 (fun a211 ea211 la211 ua211 => ?_)
        obtain rfl : a211 = (M0.1 12 7).toInt := s_fX fM190 (by decide) (s_fa eM201 (by decide) (s_fa eM204 (by decide) (s_fa eM207 (by decide) (s_fa eM210 (by decide) (ea211)))))
        refine y_putIF C 8 qX9_copyFrom_34 rfl rfl ft_8_7 sb_8_7 hM210 (PX.w hpr rfl rfl) dX9_copyFrom_83 (fun M213 eM213 hM213 => ?_)
        refine j_aload_n C 0 0 dX9_copyFrom_86 rfl rfl ?_
        refine j_aload_n C 1 1 dX9_copyFrom_87 rfl rfl ?_
        refine y_getI C 8 _ _ fX9_copyFrom_37 rfl rfl ft_8_8 sb_8_8 hM213 dX9_copyFrom_88 (fun a214 ea214 la214 ua214 => ?_)
        obtain rfl : a214 = (M0.1 12 8).toInt := s_fX fM190 (by decide) (s_fa eM201 (by decide) (s_fa eM204 (by decide) (s_fa eM207 (by decide) (s_fa eM210 (by decide) (s_fa eM213 (by decide) (ea214))))))
        refine y_putIF C 8 qX9_copyFrom_37 rfl rfl ft_8_8 sb_8_8 hM213 (PX.w hpr rfl rfl) dX9_copyFrom_91 (fun M216 eM216 hM216 => ?_)
        have u217c := cpa_c (M := M190) (M' := M216) (B := M0) (p0 := 27) (p1 := 13) (g0 := 28) (g1 := 14) (n := a189) (n' := 8) (by exact h191.2.2.2.1) ((((((wI_cell eM216 (by decide)).trans (wI_cell eM213 (by decide))).trans (wI_cell eM210 (by decide))).trans (wI_cell eM207 (by decide))).trans (wI_cell eM204 (by decide))).trans (wI_cell eM201 (by decide))) ((((((wI_cell eM216 (by decide)).trans (wI_cell eM213 (by decide))).trans (wI_cell eM210 (by decide))).trans (wI_cell eM207 (by decide))).trans (wI_cell eM204 (by decide))).trans (wI_cell eM201 (by decide))) (by omega)
        have zz26_0 : (M216.1 26 0).toInt = (M190.1 26 0).toInt := s_fb eM201 (by decide) (s_fb eM204 (by decide) (s_fb eM207 (by decide) (s_fb eM210 (by decide) (s_fb eM213 (by decide) (s_fb eM216 (by decide) (rfl))))))
        have zz26_3 := (Eq.trans (s_fb eM204 (by decide) (s_fb eM207 (by decide) (s_fb eM210 (by decide) (s_fb eM213 (by decide) (s_fb eM216 (by decide) (rfl))))) : (M216.1 26 3).toInt = (M201.1 26 3).toInt) (s_wr eM201 (by omega)))
        have zz26_4 := (Eq.trans (s_fb eM207 (by decide) (s_fb eM210 (by decide) (s_fb eM213 (by decide) (s_fb eM216 (by decide) (rfl)))) : (M216.1 26 4).toInt = (M204.1 26 4).toInt) (s_wr eM204 (by omega)))
        have zz26_5 := (Eq.trans (s_fb eM210 (by decide) (s_fb eM213 (by decide) (s_fb eM216 (by decide) (rfl))) : (M216.1 26 5).toInt = (M207.1 26 5).toInt) (s_wr eM207 (by exact ⟨la205, ua205⟩)))
        have zz26_6 := (Eq.trans (s_fb eM213 (by decide) (s_fb eM216 (by decide) (rfl)) : (M216.1 26 6).toInt = (M210.1 26 6).toInt) (s_wr eM210 (by exact ⟨la208, ua208⟩)))
        have zz26_7 := (Eq.trans (s_fb eM216 (by decide) (rfl) : (M216.1 26 7).toInt = (M213.1 26 7).toInt) (s_wr eM213 (by exact ⟨la211, ua211⟩)))
        have zz26_8 := (Eq.trans (rfl : (M216.1 26 8).toInt = (M216.1 26 8).toInt) (s_wr eM216 (by exact ⟨la214, ua214⟩)))
        have u217k := copy_k (M := M0) (N := M216) (d := 26) (s := 12) (p := 0) (by (clear zz26_8 zz26_7 zz26_6 zz26_5 zz26_4 zz26_3 u217c hM216 eM216 ua214 la214 ea214 hM213 eM213 ua211 la211 ea211 hM210 eM210 ua208 la208 ea208 hM207 eM207 ua205 la205 ea205 hM204 eM204 ua202 la202 ea202 hM201 eM201 ua199 la199 ea199 h193 fM190 hM190 ih187 u104z hM103 eM103 ua101 la101 hret C hq8_0 hpr hM0; omega)) (by exact zz26_3) (by exact zz26_4) (by exact zz26_5) (by exact zz26_6) (by exact zz26_7) (by exact zz26_8) (show b01 (CPA M216 M0 27 13 28 14 8) = 1 from by exact u217c)
        exact hret _ _ _ dX9_copyFrom_94 ⟨hM216, (((((((FX.rf.tr fM190 (by decide)).wI eM201 (by decide)).wI eM204 (by decide)).wI eM207 (by decide)).wI eM210 (by decide)).wI eM213 (by decide)).wI eM216 (by decide)), by exact u217k⟩
      · refine j_aload_n C 0 0 dX9_copyFrom_16 rfl rfl ?_
        refine y_getC C 8 27 fX9_copyFrom_15 rfl rfl ft_8_1 sm_8_1 rfl hM190 dX9_copyFrom_17 ?_
        refine j_iload_n C 2 2 dX9_copyFrom_20 rfl rfl ?_
        refine j_aload_n C 1 1 dX9_copyFrom_21 rfl rfl ?_
        refine y_getC C 8 13 fX9_copyFrom_15 rfl rfl ft_8_1 sm_8_1 rfl hM190 dX9_copyFrom_22 ?_
        refine j_iload_n C 2 2 dX9_copyFrom_25 rfl rfl ?_
        refine y_iald C 25 8 _ _ rfl rfl rfl ak_25 an_25 rfl (sb_25 _) hM190 dX9_copyFrom_26 (by exact ⟨h191.1, (by omega)⟩) (fun a194 ea194 la194 ua194 => ?_)
        obtain rfl : a194 = (M0.1 13 (a189).toNat).toInt := s_fX fM190 (by decide) (ea194)
        refine y_iastF C 25 8 rfl rfl rfl ak_25 an_25 rfl (sb_25 _) hM190 (PX.w hpr rfl rfl) dX9_copyFrom_27 (by exact ⟨h191.1, (by omega)⟩) (fun M195 eM195 hM195 => ?_)
        refine j_aload_n C 0 0 dX9_copyFrom_28 rfl rfl ?_
        refine y_getC C 8 28 fX9_copyFrom_19 rfl rfl ft_8_2 sm_8_2 rfl hM195 dX9_copyFrom_29 ?_
        refine j_iload_n C 2 2 dX9_copyFrom_32 rfl rfl ?_
        refine j_aload_n C 1 1 dX9_copyFrom_33 rfl rfl ?_
        refine y_getC C 8 14 fX9_copyFrom_19 rfl rfl ft_8_2 sm_8_2 rfl hM195 dX9_copyFrom_34 ?_
        refine j_iload_n C 2 2 dX9_copyFrom_37 rfl rfl ?_
        refine y_iald C 26 8 _ _ rfl rfl rfl ak_26 an_26 rfl (sb_26 _) hM195 dX9_copyFrom_38 (by exact ⟨h191.1, (by omega)⟩) (fun a196 ea196 la196 ua196 => ?_)
        obtain rfl : a196 = (M0.1 14 (a189).toNat).toInt := s_fX fM190 (by decide) (s_fa eM195 (by decide) (ea196))
        refine y_iastF C 26 8 rfl rfl rfl ak_26 an_26 rfl (sb_26 _) hM195 (PX.w hpr rfl rfl) dX9_copyFrom_39 (by exact ⟨h191.1, (by (clear ua196 la196 ea196 hM195 eM195 ua194 la194 ea194 fM190 hM190 ih187 u104z hM103 eM103 ua101 la101 hret C hq8_0 hpr hM0; omega))⟩) (fun M197 eM197 hM197 => ?_)
        refine y_iinc C 2 [(2, .int (sI (a189 + 1))), (0, .ref (ad 26)), (1, .ref (ad 12))] dX9_copyFrom_40 rfl (by decide) rfl ?_
        refine j_goto C 10 dX9_copyFrom_43 (by decide) ?_
        have u198s := cpa_s (B := M0) (p1 := 13) (g1 := 14) (n := a189) (n' := (a189 + 1)) (by exact h191.2.2.2.1) (by omega) eM195 eM197 (by decide)
        have zz26_0 : (M197.1 26 0).toInt = (M190.1 26 0).toInt := s_fa eM195 (by decide) (s_fa eM197 (by decide) (rfl)); refine j_lv [1, 2, 0] rfl ?_; exact ih187 (a189 + 1) M197 (by exact ⟨(by (clear hM197 eM197 ua196 la196 ea196 hM195 eM195 ua194 la194 ea194 fM190 hM190 ih187 u104z hM103 eM103 ua101 la101 hret C hq8_0 hpr hM0; omega)), ⟨(by (clear hM197 eM197 ua196 la196 ea196 hM195 eM195 ua194 la194 ea194 fM190 hM190 ih187 u104z hM103 eM103 ua101 la101 hret C hq8_0 hpr hM0; omega)), ⟨(by (clear hM197 eM197 ua196 la196 ea196 hM195 eM195 ua194 la194 ea194 fM190 hM190 ih187 u104z hM103 eM103 ua101 la101 hret C hq8_0 hpr hM0; omega)), ⟨u198s, (by (clear hM197 eM197 ua196 la196 ea196 hM195 eM195 ua194 la194 ea194 fM190 hM190 ih187 u104z hM103 eM103 ua101 la101 hret C hq8_0 hpr hM0; omega))⟩⟩⟩⟩) hM197 (((FX.rf.tr fM190 (by decide)).wI eM195 (by decide)).wI eM197 (by decide))
  have zz26_0 := (Eq.trans (rfl : (M103.1 26 0).toInt = (M103.1 26 0).toInt) (s_wr eM103 (by omega))); refine j_lv [1, 2, 0] rfl ?_; exact L188 2010 0 M103 (by exact ⟨(by decide), ⟨(by decide), ⟨zz26_0, ⟨u104z, (by decide)⟩⟩⟩⟩) hM103 (FX.rf.wI eM103 (by decide))
end
