section
set_option maxHeartbeats 4000000 in
theorem s25_X9_copyFrom {l : Launch} {dC : Nat → ClassId} {dI : Nat → Nat → Nat} {ad : Nat → Nat} {cA : Nat → ClassId} {pr : Nat → Nat → Bool} {Kz : mm_M} {M0 : mm_M} (hM0 : INV pr Kz M0) (hpr : PX pr) (hq8_0 : ∀ i, s_c i = 8 → pr i 0 = false)  : Cv l 0 yX9_copyFrom wsX9_copyFrom dC dI ad cA [.ref (ad 12), .ref (ad 26)] M0 (fun M' => INV pr Kz M' ∧ FX [12, 13, 14] M0 M' ∧ (b01 (skX M' 12 = skX M0 26) = 1)) := by
  refine cv_of (cc := cX9_copyFrom) (maxL := 3) (lv := [(0, .ref (ad 12)), (1, .ref (ad 26))]) (by decide) rfl (Nat.le_of_ble_eq_true rfl) rfl ?_
  intro p e s m args below meth c A Q C hret
  refine j_aload_n C 0 0 dX9_copyFrom_0 rfl rfl ?_
  refine j_aload_n C 1 1 dX9_copyFrom_1 rfl rfl ?_
  refine y_getI C 8 _ _ fX9_copyFrom_9 rfl rfl ft_8_0 sb_8_0 hM0 dX9_copyFrom_2 (fun a101 ea101 la101 ua101 => ?_)
  obtain rfl : a101 = (M0.1 26 0).toInt := ea101
  refine y_putI C 8 _ _ qX9_copyFrom_9 rfl rfl ft_8_0 sb_8_0 hM0 (hq8_0 _ rfl) dX9_copyFrom_5 (by exact ⟨⟨(by omega), (by omega)⟩, ⟨la101, ua101⟩⟩) (fun M103 eM103 hM103 => ?_)
  refine y_iconst C dX9_copyFrom_8 ?_
  refine j_istore_n C 2 [(2, .int (sI 0)), (0, .ref (ad 12)), (1, .ref (ad 26))] dX9_copyFrom_9 rfl (by decide) rfl ?_
  have u104z := cpa_0 M103 M0 13 27 14 28
  have L188 : ∀ (n186 : Nat), ∀ (a189 : Int) (M190 : mm_M), (0 ≤ a189 ∧ a189 ≤ 8 ∧ ((M190.1 12 0).toInt = (M0.1 26 0).toInt) ∧ (b01 (CPA M190 M0 13 27 14 28 a189) = 1) ∧ (8 - a189) < (n186 : Int)) → INV pr Kz M190 → FX [12, 13, 14] M0 M190 → jj p l e (cn_R 0) s m args below meth c 0 0 Q 3 dC dI ad cA A M190 10 [(0, .ref (ad 12)), (1, .ref (ad 26)), (2, .int (sI a189))] [] := by
    intro n186
    induction n186 with
    | zero =>
      intro a189 M190 h191 hM190 fM190
      exfalso; omega
    | succ n186 ih187 =>
      intro a189 M190 h191 hM190 fM190
      refine j_iload_n C 2 2 dX9_copyFrom_10 rfl rfl ?_
      refine y_bipush C dX9_copyFrom_11 rfl ?_
      refine y_icmp_ge C 46 dX9_copyFrom_13 (by decide) (by exact ⟨⟨(by omega), (by omega)⟩, ⟨(by decide), (by decide)⟩⟩) (fun h193 => ?_) (fun h193 => ?_)
      · refine j_aload_n C 0 0 dX9_copyFrom_46 rfl rfl ?_
        refine j_aload_n C 1 1 dX9_copyFrom_47 rfl rfl ?_
        refine y_getI C 8 _ _ fX9_copyFrom_22 rfl rfl ft_8_3 sb_8_3 hM190 dX9_copyFrom_48 (fun a199 ea199 la199 ua199 => ?_)
        obtain rfl : a199 = (M0.1 26 3).toInt := s_fX fM190 (by decide) (ea199)
        refine y_putI C 8 _ _ qX9_copyFrom_22 rfl rfl ft_8_3 sb_8_3 hM190 (PX.w hpr rfl rfl) dX9_copyFrom_51 (by exact ⟨⟨(by (clear h193 fM190 hM190 h191 ih187 u104z hM103 eM103 ua101 la101 hret C hq8_0 hpr hM0; omega)), (by (clear h193 fM190 hM190 h191 ih187 u104z hM103 eM103 ua101 la101 hret C hq8_0 hpr hM0; omega))⟩, ⟨la199, ua199⟩⟩) (fun M201 eM201 hM201 => ?_)
        refine j_aload_n C 0 0 dX9_copyFrom_54 rfl rfl ?_
        refine j_aload_n C 1 1 dX9_copyFrom_55 rfl rfl ?_
        refine y_getI C 8 _ _ fX9_copyFrom_25 rfl rfl ft_8_4 sb_8_4 hM201 dX9_copyFrom_56 (fun a202 ea202 la202 ua202 => ?_)
        obtain rfl : a202 = (M0.1 26 4).toInt := s_fX fM190 (by decide) (s_fa eM201 (by decide) (ea202))
        refine y_putI C 8 _ _ qX9_copyFrom_25 rfl rfl ft_8_4 sb_8_4 hM201 (PX.w hpr rfl rfl) dX9_copyFrom_59 (by exact ⟨⟨(by (clear hM201 eM201 ua199 la199 ea199 h193 fM190 hM190 h191 ih187 u104z hM103 eM103 ua101 la101 hret C hq8_0 hpr hM0; omega)), (by (clear hM201 eM201 ua199 la199 ea199 h193 fM190 hM190 h191 ih187 u104z hM103 eM103 ua101 la101 hret C hq8_0 hpr hM0; omega))⟩, ⟨la202, ua202⟩⟩) (fun M204 eM204 hM204 => ?_)
        refine j_aload_n C 0 0 dX9_copyFrom_62 rfl rfl ?_
        refine j_aload_n C 1 1 dX9_copyFrom_63 rfl rfl ?_
        refine y_getI C 8 _ _ fX9_copyFrom_28 rfl rfl ft_8_5 sb_8_5 hM204 dX9_copyFrom_64 (fun a205 ea205 la205 ua205 => ?_)
        obtain rfl : a205 = (M0.1 26 5).toInt := s_fX fM190 (by decide) (s_fa eM201 (by decide) (s_fa eM204 (by decide) (ea205)))
        refine y_putIF C 8 qX9_copyFrom_28 rfl rfl ft_8_5 sb_8_5 hM204 (PX.w hpr rfl rfl) dX9_copyFrom_67 (fun M207 eM207 hM207 => ?_)
        refine j_aload_n C 0 0 dX9_copyFrom_70 rfl rfl ?_
        refine j_aload_n C 1 1 dX9_copyFrom_71 rfl rfl ?_
        refine y_getI C 8 _ _ fX9_copyFrom_31 rfl rfl ft_8_6 sb_8_6 hM207 dX9_copyFrom_72 (fun a208 ea208 la208 ua208 => ?_)
        obtain rfl : a208 = (M0.1 26 6).toInt := s_fX fM190 (by decide) (s_fa eM201 (by decide) (s_fa eM204 (by decide) (s_fa eM207 (by decide) (ea208))))
        refine y_putIF C 8 qX9_copyFrom_31 rfl rfl ft_8_6 sb_8_6 hM207 (PX.w hpr rfl rfl) dX9_copyFrom_75 (fun M210 eM210 hM210 => ?_)
        refine j_aload_n C 0 0 dX9_copyFrom_78 rfl rfl ?_
        refine j_aload_n C 1 1 dX9_copyFrom_79 rfl rfl ?_
        refine y_getI C 8 _ _ fX9_copyFrom_34 rfl rfl ft_8_7 sb_8_7 hM210 dX9_copyFrom_80 (fun a211 ea211 la211 ua211 => ?_)
        obtain rfl : a211 = (M0.1 26 7).toInt := s_fX fM190 (by decide) (s_fa eM201 (by decide) (s_fa eM204 (by decide) (s_fa eM207 (by decide) (s_fa eM210 (by decide) (ea211)))))
        refine y_putIF C 8 qX9_copyFrom_34 rfl rfl ft_8_7 sb_8_7 hM210 (PX.w hpr rfl rfl) dX9_copyFrom_83 (fun M213 eM213 hM213 => ?_)
        refine j_aload_n C 0 0 dX9_copyFrom_86 rfl rfl ?_
        refine j_aload_n C 1 1 dX9_copyFrom_87 rfl rfl ?_
        refine y_getI C 8 _ _ fX9_copyFrom_37 rfl rfl ft_8_8 sb_8_8 hM213 dX9_copyFrom_88 (fun a214 ea214 la214 ua214 => ?_)
        obtain rfl : a214 = (M0.1 26 8).toInt := s_fX fM190 (by decide) (s_fa eM201 (by decide) (s_fa eM204 (by decide) (s_fa eM207 (by decide) (s_fa eM210 (by decide) (s_fa eM213 (by decide) (ea214))))))
        refine y_putIF C 8 qX9_copyFrom_37 rfl rfl ft_8_8 sb_8_8 hM213 (PX.w hpr rfl rfl) dX9_copyFrom_91 (fun M216 eM216 hM216 => ?_)
        have u217c := cpa_c (M := M190) (M' := M216) (B := M0) (p0 := 13) (p1 := 27) (g0 := 14) (g1 := 28) (n := a189) (n' := 8) (by exact h191.2.2.2.1) ((((((wI_cell eM216 (by decide)).trans (wI_cell eM213 (by decide))).trans (wI_cell eM210 (by decide))).trans (wI_cell eM207 (by decide))).trans (wI_cell eM204 (by decide))).trans (wI_cell eM201 (by decide))) ((((((wI_cell eM216 (by decide)).trans (wI_cell eM213 (by decide))).trans (wI_cell eM210 (by decide))).trans (wI_cell eM207 (by decide))).trans (wI_cell eM204 (by decide))).trans (wI_cell eM201 (by decide))) (by omega)
        have zz12_0 : (M216.1 12 0).toInt = (M190.1 12 0).toInt := s_fb eM201 (by decide) (s_fb eM204 (by decide) (s_fb eM207 (by decide) (s_fb eM210 (by decide) (s_fb eM213 (by decide) (s_fb eM216 (by decide) (rfl))))))
        have zz12_3 := (Eq.trans (s_fb eM204 (by decide) (s_fb eM207 (by decide) (s_fb eM210 (by decide) (s_fb eM213 (by decide) (s_fb eM216 (by decide) (rfl))))) : (M216.1 12 3).toInt = (M201.1 12 3).toInt) (s_wr eM201 (by (clear zz12_0 u217c hM216 eM216 ua214 la214 ea214 hM213 eM213 ua211 la211 ea211 hM210 eM210 ua208 la208 ea208 hM207 eM207 ua205 la205 ea205 hM204 eM204 ua202 la202 ea202 hM201 eM201 h193 fM190 hM190 h191 ih187 u104z hM103 eM103 ua101 la101 hret C hq8_0 hpr hM0; omega))))
        have zz12_4 := (Eq.trans (s_fb eM207 (by decide) (s_fb eM210 (by decide) (s_fb eM213 (by decide) (s_fb eM216 (by decide) (rfl)))) : (M216.1 12 4).toInt = (M204.1 12 4).toInt) (s_wr eM204 (by (clear zz12_3 zz12_0 u217c hM216 eM216 ua214 la214 ea214 hM213 eM213 ua211 la211 ea211 hM210 eM210 ua208 la208 ea208 hM207 eM207 ua205 la205 ea205 hM204 eM204 hM201 eM201 ua199 la199 ea199 h193 fM190 hM190 h191 ih187 u104z hM103 eM103 ua101 la101 hret C hq8_0 hpr hM0; omega))))
        have zz12_5 := (Eq.trans (s_fb eM210 (by decide) (s_fb eM213 (by decide) (s_fb eM216 (by decide) (rfl))) : (M216.1 12 5).toInt = (M207.1 12 5).toInt) (s_wr eM207 (by exact ⟨la205, ua205⟩)))
        have zz12_6 := (Eq.trans (s_fb eM213 (by decide) (s_fb eM216 (by decide) (rfl)) : (M216.1 12 6).toInt = (M210.1 12 6).toInt) (s_wr eM210 (by exact ⟨la208, ua208⟩)))
        have zz12_7 := (Eq.trans (s_fb eM216 (by decide) (rfl) : (M216.1 12 7).toInt = (M213.1 12 7).toInt) (s_wr eM213 (by exact ⟨la211, ua211⟩)))
        have zz12_8 := (Eq.trans (rfl : (M216.1 12 8).toInt = (M216.1 12 8).toInt) (s_wr eM216 (by exact ⟨la214, ua214⟩)))
        have u217k := copy_k (M := M0) (N := M216) (d := 12) (s := 26) (p := 0) (by (clear zz12_8 zz12_7 zz12_6 zz12_5 zz12_4 zz12_3 u217c hM216 eM216 ua214 la214 ea214 hM213 eM213 ua211 la211 ea211 hM210 eM210 ua208 la208 ea208 hM207 eM207 ua205 la205 ea205 hM204 eM204 ua202 la202 ea202 hM201 eM201 ua199 la199 ea199 h193 fM190 hM190 ih187 u104z hM103 eM103 ua101 la101 hret C hq8_0 hpr hM0; omega)) (by exact zz12_3) (by exact zz12_4) (by exact zz12_5) (by exact zz12_6) (by exact zz12_7) (by exact zz12_8) (show b01 (CPA M216 M0 13 27 14 28 8) = 1 from by exact u217c)
        exact hret _ _ _ dX9_copyFrom_94 ⟨hM216, (((((((FX.rf.tr fM190 (by decide)).wI eM201 (by decide)).wI eM204 (by decide)).wI eM207 (by decide)).wI eM210 (by decide)).wI eM213 (by decide)).wI eM216 (by decide)), by exact u217k⟩
      · refine j_aload_n C 0 0 dX9_copyFrom_16 rfl rfl ?_
        refine y_getC C 8 13 fX9_copyFrom_15 rfl rfl ft_8_1 sm_8_1 rfl hM190 dX9_copyFrom_17 ?_
        refine j_iload_n C 2 2 dX9_copyFrom_20 rfl rfl ?_
        refine j_aload_n C 1 1 dX9_copyFrom_21 rfl rfl ?_
        refine y_getC C 8 27 fX9_copyFrom_15 rfl rfl ft_8_1 sm_8_1 rfl hM190 dX9_copyFrom_22 ?_
        refine j_iload_n C 2 2 dX9_copyFrom_25 rfl rfl ?_
        refine y_iald C 25 8 _ _ rfl rfl rfl ak_25 an_25 rfl (sb_25 _) hM190 dX9_copyFrom_26 (by exact ⟨h191.1, (by omega)⟩) (fun a194 ea194 la194 ua194 => ?_)
        obtain rfl : a194 = (M0.1 27 (a189).toNat).toInt := s_fX fM190 (by decide) (ea194)
        refine y_iastF C 25 8 rfl rfl rfl ak_25 an_25 rfl (sb_25 _) hM190 (PX.w hpr rfl rfl) dX9_copyFrom_27 (by exact ⟨h191.1, (by omega)⟩) (fun M195 eM195 hM195 => ?_)
        refine j_aload_n C 0 0 dX9_copyFrom_28 rfl rfl ?_
        refine y_getC C 8 14 fX9_copyFrom_19 rfl rfl ft_8_2 sm_8_2 rfl hM195 dX9_copyFrom_29 ?_
        refine j_iload_n C 2 2 dX9_copyFrom_32 rfl rfl ?_
        refine j_aload_n C 1 1 dX9_copyFrom_33 rfl rfl ?_
        refine y_getC C 8 28 fX9_copyFrom_19 rfl rfl ft_8_2 sm_8_2 rfl hM195 dX9_copyFrom_34 ?_
        refine j_iload_n C 2 2 dX9_copyFrom_37 rfl rfl ?_
        refine y_iald C 26 8 _ _ rfl rfl rfl ak_26 an_26 rfl (sb_26 _) hM195 dX9_copyFrom_38 (by exact ⟨h191.1, (by omega)⟩) (fun a196 ea196 la196 ua196 => ?_)
        obtain rfl : a196 = (M0.1 28 (a189).toNat).toInt := s_fX fM190 (by decide) (s_fa eM195 (by decide) (ea196))
        refine y_iastF C 26 8 rfl rfl rfl ak_26 an_26 rfl (sb_26 _) hM195 (PX.w hpr rfl rfl) dX9_copyFrom_39 (by exact ⟨h191.1, (by omega)⟩) (fun M197 eM197 hM197 => ?_)
        refine y_iinc C 2 [(2, .int (sI (a189 + 1))), (0, .ref (ad 12)), (1, .ref (ad 26))] dX9_copyFrom_40 rfl (by decide) rfl ?_
        refine j_goto C 10 dX9_copyFrom_43 (by decide) ?_
        have u198s := cpa_s (B := M0) (p1 := 27) (g1 := 28) (n := a189) (n' := (a189 + 1)) (by exact h191.2.2.2.1) (by omega) eM195 eM197 (by decide)
        have zz12_0 : (M197.1 12 0).toInt = (M190.1 12 0).toInt := s_fa eM195 (by decide) (s_fa eM197 (by decide) (rfl)); refine j_lv [1, 2, 0] rfl ?_; exact ih187 (a189 + 1) M197 (by exact ⟨(by (clear hM197 eM197 ua196 la196 ea196 hM195 eM195 ua194 la194 ea194 fM190 hM190 ih187 u104z hM103 eM103 ua101 la101 hret C hq8_0 hpr hM0; omega)), ⟨(by (clear hM197 eM197 ua196 la196 ea196 hM195 eM195 ua194 la194 ea194 fM190 hM190 ih187 u104z hM103 eM103 ua101 la101 hret C hq8_0 hpr hM0; omega)), ⟨(by (clear hM197 eM197 ua196 la196 ea196 hM195 eM195 ua194 la194 ea194 fM190 hM190 ih187 u104z hM103 eM103 ua101 la101 hret C hq8_0 hpr hM0; omega)), ⟨u198s, (by (clear hM197 eM197 ua196 la196 ea196 hM195 eM195 ua194 la194 ea194 fM190 hM190 ih187 u104z hM103 eM103 ua101 la101 hret C hq8_0 hpr hM0; omega))⟩⟩⟩⟩) hM197 (((FX.rf.tr fM190 (by decide)).wI eM195 (by decide)).wI eM197 (by decide))
  have zz12_0 := (Eq.trans (rfl : (M103.1 12 0).toInt = (M103.1 12 0).toInt) (s_wr eM103 (by omega))); refine j_lv [1, 2, 0] rfl ?_; exact L188 2010 0 M103 (by exact ⟨(by decide), ⟨(by decide), ⟨zz12_0, ⟨u104z, (by decide)⟩⟩⟩⟩) hM103 (FX.rf.wI eM103 (by decide))
set_option maxHeartbeats 4000000 in
theorem s26_X9_copyFrom {l : Launch} {dC : Nat → ClassId} {dI : Nat → Nat → Nat} {ad : Nat → Nat} {cA : Nat → ClassId} {pr : Nat → Nat → Bool} {Kz : mm_M} {M0 : mm_M} (hM0 : INV pr Kz M0) (hpr : PX pr) (hq8_0 : ∀ i, s_c i = 8 → pr i 0 = false)  : Cv l 0 yX9_copyFrom wsX9_copyFrom dC dI ad cA [.ref (ad 12), .ref (ad 29)] M0 (fun M' => INV pr Kz M' ∧ FX [12, 13, 14] M0 M' ∧ (b01 (skX M' 12 = skX M0 29) = 1)) := by
  refine cv_of (cc := cX9_copyFrom) (maxL := 3) (lv := [(0, .ref (ad 12)), (1, .ref (ad 29))]) (by decide) rfl (Nat.le_of_ble_eq_true rfl) rfl ?_
  intro p e s m args below meth c A Q C hret
  refine j_aload_n C 0 0 dX9_copyFrom_0 rfl rfl ?_
  refine j_aload_n C 1 1 dX9_copyFrom_1 rfl rfl ?_
  refine y_getI C 8 _ _ fX9_copyFrom_9 rfl rfl ft_8_0 sb_8_0 hM0 dX9_copyFrom_2 (fun a101 ea101 la101 ua101 => ?_)
  obtain rfl : a101 = (M0.1 29 0).toInt := ea101
  refine y_putI C 8 _ _ qX9_copyFrom_9 rfl rfl ft_8_0 sb_8_0 hM0 (hq8_0 _ rfl) dX9_copyFrom_5 (by exact ⟨⟨(by (clear hret C hq8_0 hpr hM0; omega)), (by (clear hret C hq8_0 hpr hM0; omega))⟩, ⟨la101, ua101⟩⟩) (fun M103 eM103 hM103 => ?_)
  refine y_iconst C dX9_copyFrom_8 ?_
  refine j_istore_n C 2 [(2, .int (sI 0)), (0, .ref (ad 12)), (1, .ref (ad 29))] dX9_copyFrom_9 rfl (by decide) rfl ?_
  have u104z := cpa_0 M103 M0 13 30 14 31
  have L188 : ∀ (n186 : Nat), ∀ (a189 : Int) (M190 : mm_M), (0 ≤ a189 ∧ a189 ≤ 8 ∧ ((M190.1 12 0).toInt = (M0.1 29 0).toInt) ∧ (b01 (CPA M190 M0 13 30 14 31 a189) = 1) ∧ (8 - a189) < (n186 : Int)) → INV pr Kz M190 → FX [12, 13, 14] M0 M190 → jj p l e (cn_R 0) s m args below meth c 0 0 Q 3 dC dI ad cA A M190 10 [(0, .ref (ad 12)), (1, .ref (ad 29)), (2, .int (sI a189))] [] := by
    intro n186
    induction n186 with
    | zero =>
      intro a189 M190 h191 hM190 fM190
      exfalso; omega
    | succ n186 ih187 =>
      intro a189 M190 h191 hM190 fM190
      refine j_iload_n C 2 2 dX9_copyFrom_10 rfl rfl ?_
      refine y_bipush C dX9_copyFrom_11 rfl ?_
      refine y_icmp_ge C 46 dX9_copyFrom_13 (by decide) (by exact ⟨⟨(by omega), (by omega)⟩, ⟨(by decide), (by decide)⟩⟩) (fun h193 => ?_) (fun h193 => ?_)
      · refine j_aload_n C 0 0 dX9_copyFrom_46 rfl rfl ?_
        refine j_aload_n C 1 1 dX9_copyFrom_47 rfl rfl ?_
        refine y_getI C 8 _ _ fX9_copyFrom_22 rfl rfl ft_8_3 sb_8_3 hM190 dX9_copyFrom_48 (fun a199 ea199 la199 ua199 => ?_)
        obtain rfl : a199 = (M0.1 29 3).toInt := s_fX fM190 (by decide) (ea199)
        refine y_putI C 8 _ _ qX9_copyFrom_22 rfl rfl ft_8_3 sb_8_3 hM190 (PX.w hpr rfl rfl) dX9_copyFrom_51 (by exact ⟨⟨(by (clear h193 fM190 hM190 h191 ih187 u104z hM103 eM103 ua101 la101 hret C hq8_0 hpr hM0; omega)), (by (clear h193 fM190 hM190 h191 ih187 u104z hM103 eM103 ua101 la101 hret C hq8_0 hpr hM0; omega))⟩, ⟨la199, ua199⟩⟩) (fun M201 eM201 hM201 => ?_)
        refine j_aload_n C 0 0 dX9_copyFrom_54 rfl rfl ?_
        refine j_aload_n C 1 1 dX9_copyFrom_55 rfl rfl ?_
        refine y_getI C 8 _ _ fX9_copyFrom_25 rfl rfl ft_8_4 sb_8_4 hM201 dX9_copyFrom_56 (fun a202 ea202 la202 ua202 => ?_)
        obtain rfl : a202 = (M0.1 29 4).toInt := s_fX fM190 (by decide) (s_fa eM201 (by decide) (ea202))
        refine y_putI C 8 _ _ qX9_copyFrom_25 rfl rfl ft_8_4 sb_8_4 hM201 (PX.w hpr rfl rfl) dX9_copyFrom_59 (by exact ⟨⟨(by (clear hM201 eM201 ua199 la199 ea199 h193 fM190 hM190 h191 ih187 u104z hM103 eM103 ua101 la101 hret C hq8_0 hpr hM0; omega)), (by (clear hM201 eM201 ua199 la199 ea199 h193 fM190 hM190 h191 ih187 u104z hM103 eM103 ua101 la101 hret C hq8_0 hpr hM0; omega))⟩, ⟨la202, ua202⟩⟩) (fun M204 eM204 hM204 => ?_)
        refine j_aload_n C 0 0 dX9_copyFrom_62 rfl rfl ?_
        refine j_aload_n C 1 1 dX9_copyFrom_63 rfl rfl ?_
        refine y_getI C 8 _ _ fX9_copyFrom_28 rfl rfl ft_8_5 sb_8_5 hM204 dX9_copyFrom_64 (fun a205 ea205 la205 ua205 => ?_)
        obtain rfl : a205 = (M0.1 29 5).toInt := s_fX fM190 (by decide) (s_fa eM201 (by decide) (s_fa eM204 (by decide) (ea205)))
        refine y_putIF C 8 qX9_copyFrom_28 rfl rfl ft_8_5 sb_8_5 hM204 (PX.w hpr rfl rfl) dX9_copyFrom_67 (fun M207 eM207 hM207 => ?_)
        refine j_aload_n C 0 0 dX9_copyFrom_70 rfl rfl ?_
        refine j_aload_n C 1 1 dX9_copyFrom_71 rfl rfl ?_
        refine y_getI C 8 _ _ fX9_copyFrom_31 rfl rfl ft_8_6 sb_8_6 hM207 dX9_copyFrom_72 (fun a208 ea208 la208 ua208 => ?_)
        obtain rfl : a208 = (M0.1 29 6).toInt := s_fX fM190 (by decide) (s_fa eM201 (by decide) (s_fa eM204 (by decide) (s_fa eM207 (by decide) (ea208))))
        refine y_putIF C 8 qX9_copyFrom_31 rfl rfl ft_8_6 sb_8_6 hM207 (PX.w hpr rfl rfl) dX9_copyFrom_75 (fun M210 eM210 hM210 => ?_)
        refine j_aload_n C 0 0 dX9_copyFrom_78 rfl rfl ?_
        refine j_aload_n C 1 1 dX9_copyFrom_79 rfl rfl ?_
        refine y_getI C 8 _ _ fX9_copyFrom_34 rfl rfl ft_8_7 sb_8_7 hM210 dX9_copyFrom_80 (fun a211 ea211 la211 ua211 => ?_)
        obtain rfl : a211 = (M0.1 29 7).toInt := s_fX fM190 (by decide) (s_fa eM201 (by decide) (s_fa eM204 (by decide) (s_fa eM207 (by decide) (s_fa eM210 (by decide) (ea211)))))
        refine y_putIF C 8 qX9_copyFrom_34 rfl rfl ft_8_7 sb_8_7 hM210 (PX.w hpr rfl rfl) dX9_copyFrom_83 (fun M213 eM213 hM213 => ?_)
        refine j_aload_n C 0 0 dX9_copyFrom_86 rfl rfl ?_
        refine j_aload_n C 1 1 dX9_copyFrom_87 rfl rfl ?_
        refine y_getI C 8 _ _ fX9_copyFrom_37 rfl rfl ft_8_8 sb_8_8 hM213 dX9_copyFrom_88 (fun a214 ea214 la214 ua214 => ?_)
        obtain rfl : a214 = (M0.1 29 8).toInt := s_fX fM190 (by decide) (s_fa eM201 (by decide) (s_fa eM204 (by decide) (s_fa eM207 (by decide) (s_fa eM210 (by decide) (s_fa eM213 (by decide) (ea214))))))
        refine y_putIF C 8 qX9_copyFrom_37 rfl rfl ft_8_8 sb_8_8 hM213 (PX.w hpr rfl rfl) dX9_copyFrom_91 (fun M216 eM216 hM216 => ?_)
        have u217c := cpa_c (M := M190) (M' := M216) (B := M0) (p0 := 13) (p1 := 30) (g0 := 14) (g1 := 31) (n := a189) (n' := 8) (by exact h191.2.2.2.1) ((((((wI_cell eM216 (by decide)).trans (wI_cell eM213 (by decide))).trans (wI_cell eM210 (by decide))).trans (wI_cell eM207 (by decide))).trans (wI_cell eM204 (by decide))).trans (wI_cell eM201 (by decide))) ((((((wI_cell eM216 (by decide)).trans (wI_cell eM213 (by decide))).trans (wI_cell eM210 (by decide))).trans (wI_cell eM207 (by decide))).trans (wI_cell eM204 (by decide))).trans (wI_cell eM201 (by decide))) (by omega)
        have zz12_0 : (M216.1 12 0).toInt = (M190.1 12 0).toInt := s_fb eM201 (by decide) (s_fb eM204 (by decide) (s_fb eM207 (by decide) (s_fb eM210 (by decide) (s_fb eM213 (by decide) (s_fb eM216 (by decide) (rfl))))))
        have zz12_3 := (Eq.trans (s_fb eM204 (by decide) (s_fb eM207 (by decide) (s_fb eM210 (by decide) (s_fb eM213 (by decide) (s_fb eM216 (by decide) (rfl))))) : (M216.1 12 3).toInt = (M201.1 12 3).toInt) (s_wr eM201 (by (clear zz12_0 u217c hM216 eM216 ua214 la214 ea214 hM213 eM213 ua211 la211 ea211 hM210 eM210 ua208 la208 ea208 hM207 eM207 ua205 la205 ea205 hM204 eM204 ua202 la202 ea202 hM201 eM201 h193 fM190 hM190 h191 ih187 u104z hM103 eM103 ua101 la101 hret C hq8_0 hpr hM0; omega))))
        have zz12_4 := (Eq.trans (s_fb eM207 (by decide) (s_fb eM210 (by decide) (s_fb eM213 (by decide) (s_fb eM216 (by decide) (rfl)))) : (M216.1 12 4).toInt = (M204.1 12 4).toInt) (s_wr eM204 (by (clear zz12_3 zz12_0 u217c hM216 eM216 ua214 la214 ea214 hM213 eM213 ua211 la211 ea211 hM210 eM210 ua208 la208 ea208 hM207 eM207 ua205 la205 ea205 hM204 eM204 hM201 eM201 ua199 la199 ea199 h193 fM190 hM190 h191 ih187 u104z hM103 eM103 ua101 la101 hret C hq8_0 hpr hM0; omega))))
        have zz12_5 := (Eq.trans (s_fb eM210 (by decide) (s_fb eM213 (by decide) (s_fb eM216 (by decide) (rfl))) : (M216.1 12 5).toInt = (M207.1 12 5).toInt) (s_wr eM207 (by exact ⟨la205, ua205⟩)))
        have zz12_6 := (Eq.trans (s_fb eM213 (by decide) (s_fb eM216 (by decide) (rfl)) : (M216.1 12 6).toInt = (M210.1 12 6).toInt) (s_wr eM210 (by exact ⟨la208, ua208⟩)))
        have zz12_7 := (Eq.trans (s_fb eM216 (by decide) (rfl) : (M216.1 12 7).toInt = (M213.1 12 7).toInt) (s_wr eM213 (by exact ⟨la211, ua211⟩)))
        have zz12_8 := (Eq.trans (rfl : (M216.1 12 8).toInt = (M216.1 12 8).toInt) (s_wr eM216 (by exact ⟨la214, ua214⟩)))
        have u217k := copy_k (M := M0) (N := M216) (d := 12) (s := 29) (p := 0) (by (clear zz12_8 zz12_7 zz12_6 zz12_5 zz12_4 zz12_3 u217c hM216 eM216 ua214 la214 ea214 hM213 eM213 ua211 la211 ea211 hM210 eM210 ua208 la208 ea208 hM207 eM207 ua205 la205 ea205 hM204 eM204 ua202 la202 ea202 hM201 eM201 ua199 la199 ea199 h193 fM190 hM190 ih187 u104z hM103 eM103 ua101 la101 hret C hq8_0 hpr hM0; omega)) (by exact zz12_3) (by exact zz12_4) (by exact zz12_5) (by exact zz12_6) (by exact zz12_7) (by exact zz12_8) (show b01 (CPA M216 M0 13 30 14 31 8) = 1 from by exact u217c)
        exact hret _ _ _ dX9_copyFrom_94 ⟨hM216, (((((((FX.rf.tr fM190 (by decide)).wI eM201 (by decide)).wI eM204 (by decide)).wI eM207 (by decide)).wI eM210 (by decide)).wI eM213 (by decide)).wI eM216 (by decide)), by exact u217k⟩
      · refine j_aload_n C 0 0 dX9_copyFrom_16 rfl rfl ?_
        refine y_getC C 8 13 fX9_copyFrom_15 rfl rfl ft_8_1 sm_8_1 rfl hM190 dX9_copyFrom_17 ?_
        refine j_iload_n C 2 2 dX9_copyFrom_20 rfl rfl ?_
        refine j_aload_n C 1 1 dX9_copyFrom_21 rfl rfl ?_
        refine y_getC C 8 30 fX9_copyFrom_15 rfl rfl ft_8_1 sm_8_1 rfl hM190 dX9_copyFrom_22 ?_
        refine j_iload_n C 2 2 dX9_copyFrom_25 rfl rfl ?_
        refine y_iald C 25 8 _ _ rfl rfl rfl ak_25 an_25 rfl (sb_25 _) hM190 dX9_copyFrom_26 (by exact ⟨h191.1, (by (clear fM190 hM190 ih187 u104z hM103 eM103 ua101 la101 hret C hq8_0 hpr hM0; omega))⟩) (fun a194 ea194 la194 ua194 => ?_)
        obtain rfl : a194 = (M0.1 30 (a189).toNat).toInt := s_fX fM190 (by decide) (ea194)
        refine y_iastF C 25 8 rfl rfl rfl ak_25 an_25 rfl (sb_25 _) hM190 (PX.w hpr rfl rfl) dX9_copyFrom_27 (by exact ⟨h191.1, (by omega)⟩) (fun M195 eM195 hM195 => ?_)
        refine j_aload_n C 0 0 dX9_copyFrom_28 rfl rfl ?_
        refine y_getC C 8 14 fX9_copyFrom_19 rfl rfl ft_8_2 sm_8_2 rfl hM195 dX9_copyFrom_29 ?_
        refine j_iload_n C 2 2 dX9_copyFrom_32 rfl rfl ?_
        refine j_aload_n C 1 1 dX9_copyFrom_33 rfl rfl ?_
        refine y_getC C 8 31 fX9_copyFrom_19 rfl rfl ft_8_2 sm_8_2 rfl hM195 dX9_copyFrom_34 ?_
        refine j_iload_n C 2 2 dX9_copyFrom_37 rfl rfl ?_
        refine y_iald C 26 8 _ _ rfl rfl rfl ak_26 an_26 rfl (sb_26 _) hM195 dX9_copyFrom_38 (by exact ⟨h191.1, (by omega)⟩) (fun a196 ea196 la196 ua196 => ?_)
        obtain rfl : a196 = (M0.1 31 (a189).toNat).toInt := s_fX fM190 (by decide) (s_fa eM195 (by decide) (ea196))
        refine y_iastF C 26 8 rfl rfl rfl ak_26 an_26 rfl (sb_26 _) hM195 (PX.w hpr rfl rfl) dX9_copyFrom_39 (by exact ⟨h191.1, (by omega)⟩) (fun M197 eM197 hM197 => ?_)
        refine y_iinc C 2 [(2, .int (sI (a189 + 1))), (0, .ref (ad 12)), (1, .ref (ad 29))] dX9_copyFrom_40 rfl (by decide) rfl ?_
        refine j_goto C 10 dX9_copyFrom_43 (by decide) ?_
        have u198s := cpa_s (B := M0) (p1 := 30) (g1 := 31) (n := a189) (n' := (a189 + 1)) (by exact h191.2.2.2.1) (by omega) eM195 eM197 (by decide)
        have zz12_0 : (M197.1 12 0).toInt = (M190.1 12 0).toInt := s_fa eM195 (by decide) (s_fa eM197 (by decide) (rfl)); refine j_lv [1, 2, 0] rfl ?_; exact ih187 (a189 + 1) M197 (by exact ⟨(by (clear hM197 eM197 ua196 la196 ea196 hM195 eM195 ua194 la194 ea194 fM190 hM190 ih187 u104z hM103 eM103 ua101 la101 hret C hq8_0 hpr hM0; omega)), ⟨(by (clear hM197 eM197 ua196 la196 ea196 hM195 eM195 ua194 la194 ea194 fM190 hM190 ih187 u104z hM103 eM103 ua101 la101 hret C hq8_0 hpr hM0; omega)), ⟨(by (clear hM197 eM197 ua196 la196 ea196 hM195 eM195 ua194 la194 ea194 fM190 hM190 ih187 u104z hM103 eM103 ua101 la101 hret C hq8_0 hpr hM0; omega)), ⟨u198s, (by (clear hM197 eM197 ua196 la196 ea196 hM195 eM195 ua194 la194 ea194 fM190 hM190 ih187 u104z hM103 eM103 ua101 la101 hret C hq8_0 hpr hM0; omega))⟩⟩⟩⟩) hM197 (((FX.rf.tr fM190 (by decide)).wI eM195 (by decide)).wI eM197 (by decide))
  have zz12_0 := (Eq.trans (rfl : (M103.1 12 0).toInt = (M103.1 12 0).toInt) (s_wr eM103 (by omega))); refine j_lv [1, 2, 0] rfl ?_; exact L188 2010 0 M103 (by exact ⟨(by decide), ⟨(by decide), ⟨zz12_0, ⟨u104z, (by decide)⟩⟩⟩⟩) hM103 (FX.rf.wI eM103 (by decide))
set_option maxHeartbeats 4000000 in
theorem s27_X9_copyFrom {l : Launch} {dC : Nat → ClassId} {dI : Nat → Nat → Nat} {ad : Nat → Nat} {cA : Nat → ClassId} {pr : Nat → Nat → Bool} {Kz : mm_M} {M0 : mm_M} (hM0 : INV pr Kz M0) (hpr : PX pr) (hq8_0 : ∀ i, s_c i = 8 → pr i 0 = false)  : Cv l 0 yX9_copyFrom wsX9_copyFrom dC dI ad cA [.ref (ad 12), .ref (ad 32)] M0 (fun M' => INV pr Kz M' ∧ FX [12, 13, 14] M0 M' ∧ (b01 (skX M' 12 = skX M0 32) = 1)) := by
  refine cv_of (cc := cX9_copyFrom) (maxL := 3) (lv := [(0, .ref (ad 12)), (1, .ref (ad 32))]) (by decide) rfl (Nat.le_of_ble_eq_true rfl) rfl ?_
  intro p e s m args below meth c A Q C hret
  refine j_aload_n C 0 0 dX9_copyFrom_0 rfl rfl ?_
  refine j_aload_n C 1 1 dX9_copyFrom_1 rfl rfl ?_
  refine y_getI C 8 _ _ fX9_copyFrom_9 rfl rfl ft_8_0 sb_8_0 hM0 dX9_copyFrom_2 (fun a101 ea101 la101 ua101 => ?_)
  obtain rfl : a101 = (M0.1 32 0).toInt := ea101
  refine y_putI C 8 _ _ qX9_copyFrom_9 rfl rfl ft_8_0 sb_8_0 hM0 (hq8_0 _ rfl) dX9_copyFrom_5 (by exact ⟨⟨(by omega), (by omega)⟩, ⟨la101, ua101⟩⟩) (fun M103 eM103 hM103 => ?_)
  refine y_iconst C dX9_copyFrom_8 ?_
  refine j_istore_n C 2 [(2, .int (sI 0)), (0, .ref (ad 12)), (1, .ref (ad 32))] dX9_copyFrom_9 rfl (by decide) rfl ?_
  have u104z := cpa_0 M103 M0 13 33 14 34
  have L188 : ∀ (n186 : Nat), ∀ (a189 : Int) (M190 : mm_M), (0 ≤ a189 ∧ a189 ≤ 8 ∧ ((M190.1 12 0).toInt = (M0.1 32 0).toInt) ∧ (b01 (CPA M190 M0 13 33 14 34 a189) = 1) ∧ (8 - a189) < (n186 : Int)) → INV pr Kz M190 → FX [12, 13, 14] M0 M190 → jj p l e (cn_R 0) s m args below meth c 0 0 Q 3 dC dI ad cA A M190 10 [(0, .ref (ad 12)), (1, .ref (ad 32)), (2, .int (sI a189))] [] := by
    intro n186
    induction n186 with
    | zero =>
      intro a189 M190 h191 hM190 fM190
      exfalso; omega
    | succ n186 ih187 =>
      intro a189 M190 h191 hM190 fM190
      refine j_iload_n C 2 2 dX9_copyFrom_10 rfl rfl ?_
      refine y_bipush C dX9_copyFrom_11 rfl ?_
      refine y_icmp_ge C 46 dX9_copyFrom_13 (by decide) (by exact ⟨⟨(by (clear fM190 hM190 ih187 u104z hM103 eM103 ua101 la101 hret C hq8_0 hpr hM0; omega)), (by (clear fM190 hM190 ih187 u104z hM103 eM103 ua101 la101 hret C hq8_0 hpr hM0; omega))⟩, ⟨(by decide), (by decide)⟩⟩) (fun h193 => ?_) (fun h193 => ?_)
      · refine j_aload_n C 0 0 dX9_copyFrom_46 rfl rfl ?_
        refine j_aload_n C 1 1 dX9_copyFrom_47 rfl rfl ?_
        refine y_getI C 8 _ _ fX9_copyFrom_22 rfl rfl ft_8_3 sb_8_3 hM190 dX9_copyFrom_48 (fun a199 ea199 la199 ua199 => ?_)
        obtain rfl : a199 = (M0.1 32 3).toInt := s_fX fM190 (by decide) (ea199)
        refine y_putI C 8 _ _ qX9_copyFrom_22 rfl rfl ft_8_3 sb_8_3 hM190 (PX.w hpr rfl rfl) dX9_copyFrom_51 (by exact ⟨⟨(by (clear h193 fM190 hM190 h191 ih187 u104z hM103 eM103 ua101 la101 hret C hq8_0 hpr hM0; omega)), (by (clear h193 fM190 hM190 h191 ih187 u104z hM103 eM103 ua101 la101 hret C hq8_0 hpr hM0; omega))⟩, ⟨la199, ua199⟩⟩) (fun M201 eM201 hM201 => ?_)
        refine j_aload_n C 0 0 dX9_copyFrom_54 rfl rfl ?_
        refine j_aload_n C 1 1 dX9_copyFrom_55 rfl rfl ?_
        refine y_getI C 8 _ _ fX9_copyFrom_25 rfl rfl ft_8_4 sb_8_4 hM201 dX9_copyFrom_56 (fun a202 ea202 la202 ua202 => ?_)
        obtain rfl : a202 = (M0.1 32 4).toInt := s_fX fM190 (by decide) (s_fa eM201 (by decide) (ea202))
        refine y_putI C 8 _ _ qX9_copyFrom_25 rfl rfl ft_8_4 sb_8_4 hM201 (PX.w hpr rfl rfl) dX9_copyFrom_59 (by exact ⟨⟨(by (clear hM201 eM201 ua199 la199 ea199 h193 fM190 hM190 h191 ih187 u104z hM103 eM103 ua101 la101 hret C hq8_0 hpr hM0; omega)), (by (clear hM201 eM201 ua199 la199 ea199 h193 fM190 hM190 h191 ih187 u104z hM103 eM103 ua101 la101 hret C hq8_0 hpr hM0; omega))⟩, ⟨la202, ua202⟩⟩) (fun M204 eM204 hM204 => ?_)
        refine j_aload_n C 0 0 dX9_copyFrom_62 rfl rfl ?_
        refine j_aload_n C 1 1 dX9_copyFrom_63 rfl rfl ?_
        refine y_getI C 8 _ _ fX9_copyFrom_28 rfl rfl ft_8_5 sb_8_5 hM204 dX9_copyFrom_64 (fun a205 ea205 la205 ua205 => ?_)
        obtain rfl : a205 = (M0.1 32 5).toInt := s_fX fM190 (by decide) (s_fa eM201 (by decide) (s_fa eM204 (by decide) (ea205)))
        refine y_putIF C 8 qX9_copyFrom_28 rfl rfl ft_8_5 sb_8_5 hM204 (PX.w hpr rfl rfl) dX9_copyFrom_67 (fun M207 eM207 hM207 => ?_)
        refine j_aload_n C 0 0 dX9_copyFrom_70 rfl rfl ?_
        refine j_aload_n C 1 1 dX9_copyFrom_71 rfl rfl ?_
        refine y_getI C 8 _ _ fX9_copyFrom_31 rfl rfl ft_8_6 sb_8_6 hM207 dX9_copyFrom_72 (fun a208 ea208 la208 ua208 => ?_)
        obtain rfl : a208 = (M0.1 32 6).toInt := s_fX fM190 (by decide) (s_fa eM201 (by decide) (s_fa eM204 (by decide) (s_fa eM207 (by decide) (ea208))))
        refine y_putIF C 8 qX9_copyFrom_31 rfl rfl ft_8_6 sb_8_6 hM207 (PX.w hpr rfl rfl) dX9_copyFrom_75 (fun M210 eM210 hM210 => ?_)
        refine j_aload_n C 0 0 dX9_copyFrom_78 rfl rfl ?_
        refine j_aload_n C 1 1 dX9_copyFrom_79 rfl rfl ?_
        refine y_getI C 8 _ _ fX9_copyFrom_34 rfl rfl ft_8_7 sb_8_7 hM210 dX9_copyFrom_80 (fun a211 ea211 la211 ua211 => ?_)
        obtain rfl : a211 = (M0.1 32 7).toInt := s_fX fM190 (by decide) (s_fa eM201 (by decide) (s_fa eM204 (by decide) (s_fa eM207 (by decide) (s_fa eM210 (by decide) (ea211)))))
        refine y_putIF C 8 qX9_copyFrom_34 rfl rfl ft_8_7 sb_8_7 hM210 (PX.w hpr rfl rfl) dX9_copyFrom_83 (fun M213 eM213 hM213 => ?_)
        refine j_aload_n C 0 0 dX9_copyFrom_86 rfl rfl ?_
        refine j_aload_n C 1 1 dX9_copyFrom_87 rfl rfl ?_
        refine y_getI C 8 _ _ fX9_copyFrom_37 rfl rfl ft_8_8 sb_8_8 hM213 dX9_copyFrom_88 (fun a214 ea214 la214 ua214 => ?_)
        obtain rfl : a214 = (M0.1 32 8).toInt := s_fX fM190 (by decide) (s_fa eM201 (by decide) (s_fa eM204 (by decide) (s_fa eM207 (by decide) (s_fa eM210 (by decide) (s_fa eM213 (by decide) (ea214))))))
        refine y_putIF C 8 qX9_copyFrom_37 rfl rfl ft_8_8 sb_8_8 hM213 (PX.w hpr rfl rfl) dX9_copyFrom_91 (fun M216 eM216 hM216 => ?_)
        have u217c := cpa_c (M := M190) (M' := M216) (B := M0) (p0 := 13) (p1 := 33) (g0 := 14) (g1 := 34) (n := a189) (n' := 8) (by exact h191.2.2.2.1) ((((((wI_cell eM216 (by decide)).trans (wI_cell eM213 (by decide))).trans (wI_cell eM210 (by decide))).trans (wI_cell eM207 (by decide))).trans (wI_cell eM204 (by decide))).trans (wI_cell eM201 (by decide))) ((((((wI_cell eM216 (by decide)).trans (wI_cell eM213 (by decide))).trans (wI_cell eM210 (by decide))).trans (wI_cell eM207 (by decide))).trans (wI_cell eM204 (by decide))).trans (wI_cell eM201 (by decide))) (by omega)
        have zz12_0 : (M216.1 12 0).toInt = (M190.1 12 0).toInt := s_fb eM201 (by decide) (s_fb eM204 (by decide) (s_fb eM207 (by decide) (s_fb eM210 (by decide) (s_fb eM213 (by decide) (s_fb eM216 (by decide) (rfl))))))
        have zz12_3 := (Eq.trans (s_fb eM204 (by decide) (s_fb eM207 (by decide) (s_fb eM210 (by decide) (s_fb eM213 (by decide) (s_fb eM216 (by decide) (rfl))))) : (M216.1 12 3).toInt = (M201.1 12 3).toInt) (s_wr eM201 (by (clear zz12_0 u217c hM216 eM216 ua214 la214 ea214 hM213 eM213 ua211 la211 ea211 hM210 eM210 ua208 la208 ea208 hM207 eM207 ua205 la205 ea205 hM204 eM204 ua202 la202 ea202 hM201 eM201 h193 fM190 hM190 h191 ih187 u104z hM103 eM103 ua101 la101 hret C hq8_0 hpr hM0; omega))))
        have zz12_4 := (Eq.trans (s_fb eM207 (by decide) (s_fb eM210 (by decide) (s_fb eM213 (by decide) (s_fb eM216 (by decide) (rfl)))) : (M216.1 12 4).toInt = (M204.1 12 4).toInt) (s_wr eM204 (by (clear zz12_3 zz12_0 u217c hM216 eM216 ua214 la214 ea214 hM213 eM213 ua211 la211 ea211 hM210 eM210 ua208 la208 ea208 hM207 eM207 ua205 la205 ea205 hM204 eM204 hM201 eM201 ua199 la199 ea199 h193 fM190 hM190 h191 ih187 u104z hM103 eM103 ua101 la101 hret C hq8_0 hpr hM0; omega))))
        have zz12_5 := (Eq.trans (s_fb eM210 (by decide) (s_fb eM213 (by decide) (s_fb eM216 (by decide) (rfl))) : (M216.1 12 5).toInt = (M207.1 12 5).toInt) (s_wr eM207 (by exact ⟨la205, ua205⟩)))
        have zz12_6 := (Eq.trans (s_fb eM213 (by decide) (s_fb eM216 (by decide) (rfl)) : (M216.1 12 6).toInt = (M210.1 12 6).toInt) (s_wr eM210 (by exact ⟨la208, ua208⟩)))
        have zz12_7 := (Eq.trans (s_fb eM216 (by decide) (rfl) : (M216.1 12 7).toInt = (M213.1 12 7).toInt) (s_wr eM213 (by exact ⟨la211, ua211⟩)))
        have zz12_8 := (Eq.trans (rfl : (M216.1 12 8).toInt = (M216.1 12 8).toInt) (s_wr eM216 (by exact ⟨la214, ua214⟩)))
        have u217k := copy_k (M := M0) (N := M216) (d := 12) (s := 32) (p := 0) (by (clear zz12_8 zz12_7 zz12_6 zz12_5 zz12_4 zz12_3 u217c hM216 eM216 ua214 la214 ea214 hM213 eM213 ua211 la211 ea211 hM210 eM210 ua208 la208 ea208 hM207 eM207 ua205 la205 ea205 hM204 eM204 ua202 la202 ea202 hM201 eM201 ua199 la199 ea199 h193 fM190 hM190 ih187 u104z hM103 eM103 ua101 la101 hret C hq8_0 hpr hM0; omega)) (by exact zz12_3) (by exact zz12_4) (by exact zz12_5) (by exact zz12_6) (by exact zz12_7) (by exact zz12_8) (show b01 (CPA M216 M0 13 33 14 34 8) = 1 from by exact u217c)
        exact hret _ _ _ dX9_copyFrom_94 ⟨hM216, (((((((FX.rf.tr fM190 (by decide)).wI eM201 (by decide)).wI eM204 (by decide)).wI eM207 (by decide)).wI eM210 (by decide)).wI eM213 (by decide)).wI eM216 (by decide)), by exact u217k⟩
      · refine j_aload_n C 0 0 dX9_copyFrom_16 rfl rfl ?_
        refine y_getC C 8 13 fX9_copyFrom_15 rfl rfl ft_8_1 sm_8_1 rfl hM190 dX9_copyFrom_17 ?_
        refine j_iload_n C 2 2 dX9_copyFrom_20 rfl rfl ?_
        refine j_aload_n C 1 1 dX9_copyFrom_21 rfl rfl ?_
        refine y_getC C 8 33 fX9_copyFrom_15 rfl rfl ft_8_1 sm_8_1 rfl hM190 dX9_copyFrom_22 ?_
        refine j_iload_n C 2 2 dX9_copyFrom_25 rfl rfl ?_
        refine y_iald C 25 8 _ _ rfl rfl rfl ak_25 an_25 rfl (sb_25 _) hM190 dX9_copyFrom_26 (by exact ⟨h191.1, (by omega)⟩) (fun a194 ea194 la194 ua194 => ?_)
        obtain rfl : a194 = (M0.1 33 (a189).toNat).toInt := s_fX fM190 (by decide) (ea194)
        refine y_iastF C 25 8 rfl rfl rfl ak_25 an_25 rfl (sb_25 _) hM190 (PX.w hpr rfl rfl) dX9_copyFrom_27 (by exact ⟨h191.1, (by omega)⟩) (fun M195 eM195 hM195 => ?_)
        refine j_aload_n C 0 0 dX9_copyFrom_28 rfl rfl ?_
        refine y_getC C 8 14 fX9_copyFrom_19 rfl rfl ft_8_2 sm_8_2 rfl hM195 dX9_copyFrom_29 ?_
        refine j_iload_n C 2 2 dX9_copyFrom_32 rfl rfl ?_
        refine j_aload_n C 1 1 dX9_copyFrom_33 rfl rfl ?_
        refine y_getC C 8 34 fX9_copyFrom_19 rfl rfl ft_8_2 sm_8_2 rfl hM195 dX9_copyFrom_34 ?_
        refine j_iload_n C 2 2 dX9_copyFrom_37 rfl rfl ?_
        refine y_iald C 26 8 _ _ rfl rfl rfl ak_26 an_26 rfl (sb_26 _) hM195 dX9_copyFrom_38 (by exact ⟨h191.1, (by omega)⟩) (fun a196 ea196 la196 ua196 => ?_)
        obtain rfl : a196 = (M0.1 34 (a189).toNat).toInt := s_fX fM190 (by decide) (s_fa eM195 (by decide) (ea196))
        refine y_iastF C 26 8 rfl rfl rfl ak_26 an_26 rfl (sb_26 _) hM195 (PX.w hpr rfl rfl) dX9_copyFrom_39 (by exact ⟨h191.1, (by omega)⟩) (fun M197 eM197 hM197 => ?_)
        refine y_iinc C 2 [(2, .int (sI (a189 + 1))), (0, .ref (ad 12)), (1, .ref (ad 32))] dX9_copyFrom_40 rfl (by decide) rfl ?_
        refine j_goto C 10 dX9_copyFrom_43 (by decide) ?_
        have u198s := cpa_s (B := M0) (p1 := 33) (g1 := 34) (n := a189) (n' := (a189 + 1)) (by exact h191.2.2.2.1) (by omega) eM195 eM197 (by decide)
        have zz12_0 : (M197.1 12 0).toInt = (M190.1 12 0).toInt := s_fa eM195 (by decide) (s_fa eM197 (by decide) (rfl)); refine j_lv [1, 2, 0] rfl ?_; exact ih187 (a189 + 1) M197 (by exact ⟨(by (clear hM197 eM197 ua196 la196 ea196 hM195 eM195 ua194 la194 ea194 fM190 hM190 ih187 u104z hM103 eM103 ua101 la101 hret C hq8_0 hpr hM0; omega)), ⟨(by (clear hM197 eM197 ua196 la196 ea196 hM195 eM195 ua194 la194 ea194 fM190 hM190 ih187 u104z hM103 eM103 ua101 la101 hret C hq8_0 hpr hM0; omega)), ⟨(by (clear hM197 eM197 ua196 la196 ea196 hM195 eM195 ua194 la194 ea194 fM190 hM190 ih187 u104z hM103 eM103 ua101 la101 hret C hq8_0 hpr hM0; omega)), ⟨u198s, (by (clear hM197 eM197 ua196 la196 ea196 hM195 eM195 ua194 la194 ea194 fM190 hM190 ih187 u104z hM103 eM103 ua101 la101 hret C hq8_0 hpr hM0; omega))⟩⟩⟩⟩) hM197 (((FX.rf.tr fM190 (by decide)).wI eM195 (by decide)).wI eM197 (by decide))
  have zz12_0 := (Eq.trans (rfl : (M103.1 12 0).toInt = (M103.1 12 0).toInt) (s_wr eM103 (by omega))); refine j_lv [1, 2, 0] rfl ?_; exact L188 2010 0 M103 (by exact ⟨(by decide), ⟨(by decide), ⟨zz12_0, ⟨u104z, (by decide)⟩⟩⟩⟩) hM103 (FX.rf.wI eM103 (by decide))
set_option maxHeartbeats 4000000 in
theorem s28_X9_copyFrom {l : Launch} {dC : Nat → ClassId} {dI : Nat → Nat → Nat} {ad : Nat → Nat} {cA : Nat → ClassId} {pr : Nat → Nat → Bool} {Kz : mm_M} {M0 : mm_M} (hM0 : INV pr Kz M0) (hpr : PX pr) (hq8_0 : ∀ i, s_c i = 8 → pr i 0 = false)  : Cv l 0 yX9_copyFrom wsX9_copyFrom dC dI ad cA [.ref (ad 12), .ref (ad 35)] M0 (fun M' => INV pr Kz M' ∧ FX [12, 13, 14] M0 M' ∧ (b01 (skX M' 12 = skX M0 35) = 1)) := by
  refine cv_of (cc := cX9_copyFrom) (maxL := 3) (lv := [(0, .ref (ad 12)), (1, .ref (ad 35))]) (by decide) rfl (Nat.le_of_ble_eq_true rfl) rfl ?_
  intro p e s m args below meth c A Q C hret
  refine j_aload_n C 0 0 dX9_copyFrom_0 rfl rfl ?_
  refine j_aload_n C 1 1 dX9_copyFrom_1 rfl rfl ?_
  refine y_getI C 8 _ _ fX9_copyFrom_9 rfl rfl ft_8_0 sb_8_0 hM0 dX9_copyFrom_2 (fun a101 ea101 la101 ua101 => ?_)
  obtain rfl : a101 = (M0.1 35 0).toInt := ea101
  refine y_putI C 8 _ _ qX9_copyFrom_9 rfl rfl ft_8_0 sb_8_0 hM0 (hq8_0 _ rfl) dX9_copyFrom_5 (by exact ⟨⟨(by omega), (by omega)⟩, ⟨la101, ua101⟩⟩) (fun M103 eM103 hM103 => ?_)
  refine y_iconst C dX9_copyFrom_8 ?_
  refine j_istore_n C 2 [(2, .int (sI 0)), (0, .ref (ad 12)), (1, .ref (ad 35))] dX9_copyFrom_9 rfl (by decide) rfl ?_
  have u104z := cpa_0 M103 M0 13 36 14 37
  have L188 : ∀ (n186 : Nat), ∀ (a189 : Int) (M190 : mm_M), (0 ≤ a189 ∧ a189 ≤ 8 ∧ ((M190.1 12 0).toInt = (M0.1 35 0).toInt) ∧ (b01 (CPA M190 M0 13 36 14 37 a189) = 1) ∧ (8 - a189) < (n186 : Int)) → INV pr Kz M190 → FX [12, 13, 14] M0 M190 → jj p l e (cn_R 0) s m args below meth c 0 0 Q 3 dC dI ad cA A M190 10 [(0, .ref (ad 12)), (1, .ref (ad 35)), (2, .int (sI a189))] [] := by
    intro n186
    induction n186 with
    | zero =>
      intro a189 M190 h191 hM190 fM190
      exfalso; omega
    | succ n186 ih187 =>
      intro a189 M190 h191 hM190 fM190
      refine j_iload_n C 2 2 dX9_copyFrom_10 rfl rfl ?_
      refine y_bipush C dX9_copyFrom_11 rfl ?_
      refine y_icmp_ge C 46 dX9_copyFrom_13 (by decide) (by exact ⟨⟨(by omega), (by omega)⟩, ⟨(by decide), (by decide)⟩⟩) (fun h193 => ?_) (fun h193 => ?_)
      · refine j_aload_n C 0 0 dX9_copyFrom_46 rfl rfl ?_
        refine j_aload_n C 1 1 dX9_copyFrom_47 rfl rfl ?_
        refine y_getI C 8 _ _ fX9_copyFrom_22 rfl rfl ft_8_3 sb_8_3 hM190 dX9_copyFrom_48 (fun a199 ea199 la199 ua199 => ?_)
        obtain rfl : a199 = (M0.1 35 3).toInt := s_fX fM190 (by decide) (ea199)
        refine y_putI C 8 _ _ qX9_copyFrom_22 rfl rfl ft_8_3 sb_8_3 hM190 (PX.w hpr rfl rfl) dX9_copyFrom_51 (by exact ⟨⟨(by (clear h193 fM190 hM190 h191 ih187 u104z hM103 eM103 ua101 la101 hret C hq8_0 hpr hM0; omega)), (by (clear h193 fM190 hM190 h191 ih187 u104z hM103 eM103 ua101 la101 hret C hq8_0 hpr hM0; omega))⟩, ⟨la199, ua199⟩⟩) (fun M201 eM201 hM201 => ?_)
        refine j_aload_n C 0 0 dX9_copyFrom_54 rfl rfl ?_
        refine j_aload_n C 1 1 dX9_copyFrom_55 rfl rfl ?_
        refine y_getI C 8 _ _ fX9_copyFrom_25 rfl rfl ft_8_4 sb_8_4 hM201 dX9_copyFrom_56 (fun a202 ea202 la202 ua202 => ?_)
        obtain rfl : a202 = (M0.1 35 4).toInt := s_fX fM190 (by decide) (s_fa eM201 (by decide) (ea202))
        refine y_putI C 8 _ _ qX9_copyFrom_25 rfl rfl ft_8_4 sb_8_4 hM201 (PX.w hpr rfl rfl) dX9_copyFrom_59 (by exact ⟨⟨(by (clear hM201 eM201 ua199 la199 ea199 h193 fM190 hM190 h191 ih187 u104z hM103 eM103 ua101 la101 hret C hq8_0 hpr hM0; omega)), (by (clear hM201 eM201 ua199 la199 ea199 h193 fM190 hM190 h191 ih187 u104z hM103 eM103 ua101 la101 hret C hq8_0 hpr hM0; omega))⟩, ⟨la202, ua202⟩⟩) (fun M204 eM204 hM204 => ?_)
        refine j_aload_n C 0 0 dX9_copyFrom_62 rfl rfl ?_
        refine j_aload_n C 1 1 dX9_copyFrom_63 rfl rfl ?_
        refine y_getI C 8 _ _ fX9_copyFrom_28 rfl rfl ft_8_5 sb_8_5 hM204 dX9_copyFrom_64 (fun a205 ea205 la205 ua205 => ?_)
        obtain rfl : a205 = (M0.1 35 5).toInt := s_fX fM190 (by decide) (s_fa eM201 (by decide) (s_fa eM204 (by decide) (ea205)))
        refine y_putIF C 8 qX9_copyFrom_28 rfl rfl ft_8_5 sb_8_5 hM204 (PX.w hpr rfl rfl) dX9_copyFrom_67 (fun M207 eM207 hM207 => ?_)
        refine j_aload_n C 0 0 dX9_copyFrom_70 rfl rfl ?_
        refine j_aload_n C 1 1 dX9_copyFrom_71 rfl rfl ?_
        refine y_getI C 8 _ _ fX9_copyFrom_31 rfl rfl ft_8_6 sb_8_6 hM207 dX9_copyFrom_72 (fun a208 ea208 la208 ua208 => ?_)
        obtain rfl : a208 = (M0.1 35 6).toInt := s_fX fM190 (by decide) (s_fa eM201 (by decide) (s_fa eM204 (by decide) (s_fa eM207 (by decide) (ea208))))
        refine y_putIF C 8 qX9_copyFrom_31 rfl rfl ft_8_6 sb_8_6 hM207 (PX.w hpr rfl rfl) dX9_copyFrom_75 (fun M210 eM210 hM210 => ?_)
        refine j_aload_n C 0 0 dX9_copyFrom_78 rfl rfl ?_
        refine j_aload_n C 1 1 dX9_copyFrom_79 rfl rfl ?_
        refine y_getI C 8 _ _ fX9_copyFrom_34 rfl rfl ft_8_7 sb_8_7 hM210 dX9_copyFrom_80 (fun a211 ea211 la211 ua211 => ?_)
        obtain rfl : a211 = (M0.1 35 7).toInt := s_fX fM190 (by decide) (s_fa eM201 (by decide) (s_fa eM204 (by decide) (s_fa eM207 (by decide) (s_fa eM210 (by decide) (ea211)))))
        refine y_putIF C 8 qX9_copyFrom_34 rfl rfl ft_8_7 sb_8_7 hM210 (PX.w hpr rfl rfl) dX9_copyFrom_83 (fun M213 eM213 hM213 => ?_)
        refine j_aload_n C 0 0 dX9_copyFrom_86 rfl rfl ?_
        refine j_aload_n C 1 1 dX9_copyFrom_87 rfl rfl ?_
        refine y_getI C 8 _ _ fX9_copyFrom_37 rfl rfl ft_8_8 sb_8_8 hM213 dX9_copyFrom_88 (fun a214 ea214 la214 ua214 => ?_)
        obtain rfl : a214 = (M0.1 35 8).toInt := s_fX fM190 (by decide) (s_fa eM201 (by decide) (s_fa eM204 (by decide) (s_fa eM207 (by decide) (s_fa eM210 (by decide) (s_fa eM213 (by decide) (ea214))))))
        refine y_putIF C 8 qX9_copyFrom_37 rfl rfl ft_8_8 sb_8_8 hM213 (PX.w hpr rfl rfl) dX9_copyFrom_91 (fun M216 eM216 hM216 => ?_)
        have u217c := cpa_c (M := M190) (M' := M216) (B := M0) (p0 := 13) (p1 := 36) (g0 := 14) (g1 := 37) (n := a189) (n' := 8) (by exact h191.2.2.2.1) ((((((wI_cell eM216 (by decide)).trans (wI_cell eM213 (by decide))).trans (wI_cell eM210 (by decide))).trans (wI_cell eM207 (by decide))).trans (wI_cell eM204 (by decide))).trans (wI_cell eM201 (by decide))) ((((((wI_cell eM216 (by decide)).trans (wI_cell eM213 (by decide))).trans (wI_cell eM210 (by decide))).trans (wI_cell eM207 (by decide))).trans (wI_cell eM204 (by decide))).trans (wI_cell eM201 (by decide))) (by omega)
        have zz12_0 : (M216.1 12 0).toInt = (M190.1 12 0).toInt := s_fb eM201 (by decide) (s_fb eM204 (by decide) (s_fb eM207 (by decide) (s_fb eM210 (by decide) (s_fb eM213 (by decide) (s_fb eM216 (by decide) (rfl))))))
        have zz12_3 := (Eq.trans (s_fb eM204 (by decide) (s_fb eM207 (by decide) (s_fb eM210 (by decide) (s_fb eM213 (by decide) (s_fb eM216 (by decide) (rfl))))) : (M216.1 12 3).toInt = (M201.1 12 3).toInt) (s_wr eM201 (by (clear zz12_0 u217c hM216 eM216 ua214 la214 ea214 hM213 eM213 ua211 la211 ea211 hM210 eM210 ua208 la208 ea208 hM207 eM207 ua205 la205 ea205 hM204 eM204 ua202 la202 ea202 hM201 eM201 h193 fM190 hM190 h191 ih187 u104z hM103 eM103 ua101 la101 hret C hq8_0 hpr hM0; omega))))
        have zz12_4 := (Eq.trans (s_fb eM207 (by decide) (s_fb eM210 (by decide) (s_fb eM213 (by decide) (s_fb eM216 (by decide) (rfl)))) : (M216.1 12 4).toInt = (M204.1 12 4).toInt) (s_wr eM204 (by (clear zz12_3 zz12_0 u217c hM216 eM216 ua214 la214 ea214 hM213 eM213 ua211 la211 ea211 hM210 eM210 ua208 la208 ea208 hM207 eM207 ua205 la205 ea205 hM204 eM204 hM201 eM201 ua199 la199 ea199 h193 fM190 hM190 h191 ih187 u104z hM103 eM103 ua101 la101 hret C hq8_0 hpr hM0; omega))))
        have zz12_5 := (Eq.trans (s_fb eM210 (by decide) (s_fb eM213 (by decide) (s_fb eM216 (by decide) (rfl))) : (M216.1 12 5).toInt = (M207.1 12 5).toInt) (s_wr eM207 (by exact ⟨la205, ua205⟩)))
        have zz12_6 := (Eq.trans (s_fb eM213 (by decide) (s_fb eM216 (by decide) (rfl)) : (M216.1 12 6).toInt = (M210.1 12 6).toInt) (s_wr eM210 (by exact ⟨la208, ua208⟩)))
        have zz12_7 := (Eq.trans (s_fb eM216 (by decide) (rfl) : (M216.1 12 7).toInt = (M213.1 12 7).toInt) (s_wr eM213 (by exact ⟨la211, ua211⟩)))
        have zz12_8 := (Eq.trans (rfl : (M216.1 12 8).toInt = (M216.1 12 8).toInt) (s_wr eM216 (by exact ⟨la214, ua214⟩)))
        have u217k := copy_k (M := M0) (N := M216) (d := 12) (s := 35) (p := 0) (by (clear zz12_8 zz12_7 zz12_6 zz12_5 zz12_4 zz12_3 u217c hM216 eM216 ua214 la214 ea214 hM213 eM213 ua211 la211 ea211 hM210 eM210 ua208 la208 ea208 hM207 eM207 ua205 la205 ea205 hM204 eM204 ua202 la202 ea202 hM201 eM201 ua199 la199 ea199 h193 fM190 hM190 ih187 u104z hM103 eM103 ua101 la101 hret C hq8_0 hpr hM0; omega)) (by exact zz12_3) (by exact zz12_4) (by exact zz12_5) (by exact zz12_6) (by exact zz12_7) (by exact zz12_8) (show b01 (CPA M216 M0 13 36 14 37 8) = 1 from by exact u217c)
        exact hret _ _ _ dX9_copyFrom_94 ⟨hM216, (((((((FX.rf.tr fM190 (by decide)).wI eM201 (by decide)).wI eM204 (by decide)).wI eM207 (by decide)).wI eM210 (by decide)).wI eM213 (by decide)).wI eM216 (by decide)), by exact u217k⟩
      · refine j_aload_n C 0 0 dX9_copyFrom_16 rfl rfl ?_
        refine y_getC C 8 13 fX9_copyFrom_15 rfl rfl ft_8_1 sm_8_1 rfl hM190 dX9_copyFrom_17 ?_
        refine j_iload_n C 2 2 dX9_copyFrom_20 rfl rfl ?_
        refine j_aload_n C 1 1 dX9_copyFrom_21 rfl rfl ?_
        refine y_getC C 8 36 fX9_copyFrom_15 rfl rfl ft_8_1 sm_8_1 rfl hM190 dX9_copyFrom_22 ?_
        refine j_iload_n C 2 2 dX9_copyFrom_25 rfl rfl ?_
        refine y_iald C 25 8 _ _ rfl rfl rfl ak_25 an_25 rfl (sb_25 _) hM190 dX9_copyFrom_26 (by exact ⟨h191.1, (by omega)⟩) (fun a194 ea194 la194 ua194 => ?_)
        obtain rfl : a194 = (M0.1 36 (a189).toNat).toInt := s_fX fM190 (by decide) (ea194)
        refine y_iastF C 25 8 rfl rfl rfl ak_25 an_25 rfl (sb_25 _) hM190 (PX.w hpr rfl rfl) dX9_copyFrom_27 (by exact ⟨h191.1, (by omega)⟩) (fun M195 eM195 hM195 => ?_)
        refine j_aload_n C 0 0 dX9_copyFrom_28 rfl rfl ?_
        refine y_getC C 8 14 fX9_copyFrom_19 rfl rfl ft_8_2 sm_8_2 rfl hM195 dX9_copyFrom_29 ?_
        refine j_iload_n C 2 2 dX9_copyFrom_32 rfl rfl ?_
        refine j_aload_n C 1 1 dX9_copyFrom_33 rfl rfl ?_
        refine y_getC C 8 37 fX9_copyFrom_19 rfl rfl ft_8_2 sm_8_2 rfl hM195 dX9_copyFrom_34 ?_
        refine j_iload_n C 2 2 dX9_copyFrom_37 rfl rfl ?_
        refine y_iald C 26 8 _ _ rfl rfl rfl ak_26 an_26 rfl (sb_26 _) hM195 dX9_copyFrom_38 (by exact ⟨h191.1, (by omega)⟩) (fun a196 ea196 la196 ua196 => ?_)
        obtain rfl : a196 = (M0.1 37 (a189).toNat).toInt := s_fX fM190 (by decide) (s_fa eM195 (by decide) (ea196))
        refine y_iastF C 26 8 rfl rfl rfl ak_26 an_26 rfl (sb_26 _) hM195 (PX.w hpr rfl rfl) dX9_copyFrom_39 (by exact ⟨h191.1, (by omega)⟩) (fun M197 eM197 hM197 => ?_)
        refine y_iinc C 2 [(2, .int (sI (a189 + 1))), (0, .ref (ad 12)), (1, .ref (ad 35))] dX9_copyFrom_40 rfl (by decide) rfl ?_
        refine j_goto C 10 dX9_copyFrom_43 (by decide) ?_
        have u198s := cpa_s (B := M0) (p1 := 36) (g1 := 37) (n := a189) (n' := (a189 + 1)) (by exact h191.2.2.2.1) (by omega) eM195 eM197 (by decide)
        have zz12_0 : (M197.1 12 0).toInt = (M190.1 12 0).toInt := s_fa eM195 (by decide) (s_fa eM197 (by decide) (rfl)); refine j_lv [1, 2, 0] rfl ?_; exact ih187 (a189 + 1) M197 (by exact ⟨(by (clear hM197 eM197 ua196 la196 ea196 hM195 eM195 ua194 la194 ea194 fM190 hM190 ih187 u104z hM103 eM103 ua101 la101 hret C hq8_0 hpr hM0; omega)), ⟨(by (clear hM197 eM197 ua196 la196 ea196 hM195 eM195 ua194 la194 ea194 fM190 hM190 ih187 u104z hM103 eM103 ua101 la101 hret C hq8_0 hpr hM0; omega)), ⟨(by (clear hM197 eM197 ua196 la196 ea196 hM195 eM195 ua194 la194 ea194 fM190 hM190 ih187 u104z hM103 eM103 ua101 la101 hret C hq8_0 hpr hM0; omega)), ⟨u198s, (by (clear hM197 eM197 ua196 la196 ea196 hM195 eM195 ua194 la194 ea194 fM190 hM190 ih187 u104z hM103 eM103 ua101 la101 hret C hq8_0 hpr hM0; omega))⟩⟩⟩⟩) hM197 (((FX.rf.tr fM190 (by decide)).wI eM195 (by decide)).wI eM197 (by decide))
  have zz12_0 := (Eq.trans (rfl : (M103.1 12 0).toInt = (M103.1 12 0).toInt) (s_wr eM103 (by omega))); refine j_lv [1, 2, 0] rfl ?_; exact L188 2010 0 M103 (by exact ⟨(by decide), ⟨(by decide), ⟨zz12_0, ⟨u104z, (by decide)⟩⟩⟩⟩) hM103 (FX.rf.wI eM103 (by decide))
set_option maxHeartbeats 4000000 in
theorem s29_X9_copyFrom {l : Launch} {dC : Nat → ClassId} {dI : Nat → Nat → Nat} {ad : Nat → Nat} {cA : Nat → ClassId} {pr : Nat → Nat → Bool} {Kz : mm_M} {M0 : mm_M} (hM0 : INV pr Kz M0) (hpr : PX pr) (hq8_0 : ∀ i, s_c i = 8 → pr i 0 = false)  : Cv l 0 yX9_copyFrom wsX9_copyFrom dC dI ad cA [.ref (ad 12), .ref (ad 38)] M0 (fun M' => INV pr Kz M' ∧ FX [12, 13, 14] M0 M' ∧ (b01 (skX M' 12 = skX M0 38) = 1)) := by
  refine cv_of (cc := cX9_copyFrom) (maxL := 3) (lv := [(0, .ref (ad 12)), (1, .ref (ad 38))]) (by decide) rfl (Nat.le_of_ble_eq_true rfl) rfl ?_
  intro p e s m args below meth c A Q C hret
  refine j_aload_n C 0 0 dX9_copyFrom_0 rfl rfl ?_
  refine j_aload_n C 1 1 dX9_copyFrom_1 rfl rfl ?_
  refine y_getI C 8 _ _ fX9_copyFrom_9 rfl rfl ft_8_0 sb_8_0 hM0 dX9_copyFrom_2 (fun a101 ea101 la101 ua101 => ?_)
  obtain rfl : a101 = (M0.1 38 0).toInt := ea101
  refine y_putI C 8 _ _ qX9_copyFrom_9 rfl rfl ft_8_0 sb_8_0 hM0 (hq8_0 _ rfl) dX9_copyFrom_5 (by exact ⟨⟨(by omega), (by omega)⟩, ⟨la101, ua101⟩⟩) (fun M103 eM103 hM103 => ?_)
  refine y_iconst C dX9_copyFrom_8 ?_
  refine j_istore_n C 2 [(2, .int (sI 0)), (0, .ref (ad 12)), (1, .ref (ad 38))] dX9_copyFrom_9 rfl (by decide) rfl ?_
  have u104z := cpa_0 M103 M0 13 39 14 40
  have L188 : ∀ (n186 : Nat), ∀ (a189 : Int) (M190 : mm_M), (0 ≤ a189 ∧ a189 ≤ 8 ∧ ((M190.1 12 0).toInt = (M0.1 38 0).toInt) ∧ (b01 (CPA M190 M0 13 39 14 40 a189) = 1) ∧ (8 - a189) < (n186 : Int)) → INV pr Kz M190 → FX [12, 13, 14] M0 M190 → jj p l e (cn_R 0) s m args below meth c 0 0 Q 3 dC dI ad cA A M190 10 [(0, .ref (ad 12)), (1, .ref (ad 38)), (2, .int (sI a189))] [] := by
    intro n186
    induction n186 with
    | zero =>
      intro a189 M190 h191 hM190 fM190
      exfalso; omega
    | succ n186 ih187 =>
      intro a189 M190 h191 hM190 fM190
      refine j_iload_n C 2 2 dX9_copyFrom_10 rfl rfl ?_
      refine y_bipush C dX9_copyFrom_11 rfl ?_
      refine y_icmp_ge C 46 dX9_copyFrom_13 (by decide) (by exact ⟨⟨(by omega), (by omega)⟩, ⟨(by decide), (by decide)⟩⟩) (fun h193 => ?_) (fun h193 => ?_)
      · refine j_aload_n C 0 0 dX9_copyFrom_46 rfl rfl ?_
        refine j_aload_n C 1 1 dX9_copyFrom_47 rfl rfl ?_
        refine y_getI C 8 _ _ fX9_copyFrom_22 rfl rfl ft_8_3 sb_8_3 hM190 dX9_copyFrom_48 (fun a199 ea199 la199 ua199 => ?_)
        obtain rfl : a199 = (M0.1 38 3).toInt := s_fX fM190 (by decide) (ea199)
        refine y_putI C 8 _ _ qX9_copyFrom_22 rfl rfl ft_8_3 sb_8_3 hM190 (PX.w hpr rfl rfl) dX9_copyFrom_51 (by exact ⟨⟨(by (clear h193 fM190 hM190 h191 ih187 u104z hM103 eM103 ua101 la101 hret C hq8_0 hpr hM0; omega)), (by (clear h193 fM190 hM190 h191 ih187 u104z hM103 eM103 ua101 la101 hret C hq8_0 hpr hM0; omega))⟩, ⟨la199, ua199⟩⟩) (fun M201 eM201 hM201 => ?_)
        refine j_aload_n C 0 0 dX9_copyFrom_54 rfl rfl ?_
        refine j_aload_n C 1 1 dX9_copyFrom_55 rfl rfl ?_
        refine y_getI C 8 _ _ fX9_copyFrom_25 rfl rfl ft_8_4 sb_8_4 hM201 dX9_copyFrom_56 (fun a202 ea202 la202 ua202 => ?_)
        obtain rfl : a202 = (M0.1 38 4).toInt := s_fX fM190 (by decide) (s_fa eM201 (by decide) (ea202))
        refine y_putI C 8 _ _ qX9_copyFrom_25 rfl rfl ft_8_4 sb_8_4 hM201 (PX.w hpr rfl rfl) dX9_copyFrom_59 (by exact ⟨⟨(by (clear hM201 eM201 ua199 la199 ea199 h193 fM190 hM190 h191 ih187 u104z hM103 eM103 ua101 la101 hret C hq8_0 hpr hM0; omega)), (by (clear hM201 eM201 ua199 la199 ea199 h193 fM190 hM190 h191 ih187 u104z hM103 eM103 ua101 la101 hret C hq8_0 hpr hM0; omega))⟩, ⟨la202, ua202⟩⟩) (fun M204 eM204 hM204 => ?_)
        refine j_aload_n C 0 0 dX9_copyFrom_62 rfl rfl ?_
        refine j_aload_n C 1 1 dX9_copyFrom_63 rfl rfl ?_
        refine y_getI C 8 _ _ fX9_copyFrom_28 rfl rfl ft_8_5 sb_8_5 hM204 dX9_copyFrom_64 (fun a205 ea205 la205 ua205 => ?_)
        obtain rfl : a205 = (M0.1 38 5).toInt := s_fX fM190 (by decide) (s_fa eM201 (by decide) (s_fa eM204 (by decide) (ea205)))
        refine y_putIF C 8 qX9_copyFrom_28 rfl rfl ft_8_5 sb_8_5 hM204 (PX.w hpr rfl rfl) dX9_copyFrom_67 (fun M207 eM207 hM207 => ?_)
        refine j_aload_n C 0 0 dX9_copyFrom_70 rfl rfl ?_
        refine j_aload_n C 1 1 dX9_copyFrom_71 rfl rfl ?_
        refine y_getI C 8 _ _ fX9_copyFrom_31 rfl rfl ft_8_6 sb_8_6 hM207 dX9_copyFrom_72 (fun a208 ea208 la208 ua208 => ?_)
        obtain rfl : a208 = (M0.1 38 6).toInt := s_fX fM190 (by decide) (s_fa eM201 (by decide) (s_fa eM204 (by decide) (s_fa eM207 (by decide) (ea208))))
        refine y_putIF C 8 qX9_copyFrom_31 rfl rfl ft_8_6 sb_8_6 hM207 (PX.w hpr rfl rfl) dX9_copyFrom_75 (fun M210 eM210 hM210 => ?_)
        refine j_aload_n C 0 0 dX9_copyFrom_78 rfl rfl ?_
        refine j_aload_n C 1 1 dX9_copyFrom_79 rfl rfl ?_
        refine y_getI C 8 _ _ fX9_copyFrom_34 rfl rfl ft_8_7 sb_8_7 hM210 dX9_copyFrom_80 (fun a211 ea211 la211 ua211 => ?_)
        obtain rfl : a211 = (M0.1 38 7).toInt := s_fX fM190 (by decide) (s_fa eM201 (by decide) (s_fa eM204 (by decide) (s_fa eM207 (by decide) (s_fa eM210 (by decide) (ea211)))))
        refine y_putIF C 8 qX9_copyFrom_34 rfl rfl ft_8_7 sb_8_7 hM210 (PX.w hpr rfl rfl) dX9_copyFrom_83 (fun M213 eM213 hM213 => ?_)
        refine j_aload_n C 0 0 dX9_copyFrom_86 rfl rfl ?_
        refine j_aload_n C 1 1 dX9_copyFrom_87 rfl rfl ?_
        refine y_getI C 8 _ _ fX9_copyFrom_37 rfl rfl ft_8_8 sb_8_8 hM213 dX9_copyFrom_88 (fun a214 ea214 la214 ua214 => ?_)
        obtain rfl : a214 = (M0.1 38 8).toInt := s_fX fM190 (by decide) (s_fa eM201 (by decide) (s_fa eM204 (by decide) (s_fa eM207 (by decide) (s_fa eM210 (by decide) (s_fa eM213 (by decide) (ea214))))))
        refine y_putIF C 8 qX9_copyFrom_37 rfl rfl ft_8_8 sb_8_8 hM213 (PX.w hpr rfl rfl) dX9_copyFrom_91 (fun M216 eM216 hM216 => ?_)
        have u217c := cpa_c (M := M190) (M' := M216) (B := M0) (p0 := 13) (p1 := 39) (g0 := 14) (g1 := 40) (n := a189) (n' := 8) (by exact h191.2.2.2.1) ((((((wI_cell eM216 (by decide)).trans (wI_cell eM213 (by decide))).trans (wI_cell eM210 (by decide))).trans (wI_cell eM207 (by decide))).trans (wI_cell eM204 (by decide))).trans (wI_cell eM201 (by decide))) ((((((wI_cell eM216 (by decide)).trans (wI_cell eM213 (by decide))).trans (wI_cell eM210 (by decide))).trans (wI_cell eM207 (by decide))).trans (wI_cell eM204 (by decide))).trans (wI_cell eM201 (by decide))) (by omega)
        have zz12_0 : (M216.1 12 0).toInt = (M190.1 12 0).toInt := s_fb eM201 (by decide) (s_fb eM204 (by decide) (s_fb eM207 (by decide) (s_fb eM210 (by decide) (s_fb eM213 (by decide) (s_fb eM216 (by decide) (rfl))))))
        have zz12_3 := (Eq.trans (s_fb eM204 (by decide) (s_fb eM207 (by decide) (s_fb eM210 (by decide) (s_fb eM213 (by decide) (s_fb eM216 (by decide) (rfl))))) : (M216.1 12 3).toInt = (M201.1 12 3).toInt) (s_wr eM201 (by (clear zz12_0 u217c hM216 eM216 ua214 la214 ea214 hM213 eM213 ua211 la211 ea211 hM210 eM210 ua208 la208 ea208 hM207 eM207 ua205 la205 ea205 hM204 eM204 ua202 la202 ea202 hM201 eM201 h193 fM190 hM190 h191 ih187 u104z hM103 eM103 ua101 la101 hret C hq8_0 hpr hM0; omega))))
        have zz12_4 := (Eq.trans (s_fb eM207 (by decide) (s_fb eM210 (by decide) (s_fb eM213 (by decide) (s_fb eM216 (by decide) (rfl)))) : (M216.1 12 4).toInt = (M204.1 12 4).toInt) (s_wr eM204 (by (clear zz12_3 zz12_0 u217c hM216 eM216 ua214 la214 ea214 hM213 eM213 ua211 la211 ea211 hM210 eM210 ua208 la208 ea208 hM207 eM207 ua205 la205 ea205 hM204 eM204 hM201 eM201 ua199 la199 ea199 h193 fM190 hM190 h191 ih187 u104z hM103 eM103 ua101 la101 hret C hq8_0 hpr hM0; omega))))
        have zz12_5 := (Eq.trans (s_fb eM210 (by decide) (s_fb eM213 (by decide) (s_fb eM216 (by decide) (rfl))) : (M216.1 12 5).toInt = (M207.1 12 5).toInt) (s_wr eM207 (by exact ⟨la205, ua205⟩)))
        have zz12_6 := (Eq.trans (s_fb eM213 (by decide) (s_fb eM216 (by decide) (rfl)) : (M216.1 12 6).toInt = (M210.1 12 6).toInt) (s_wr eM210 (by exact ⟨la208, ua208⟩)))
        have zz12_7 := (Eq.trans (s_fb eM216 (by decide) (rfl) : (M216.1 12 7).toInt = (M213.1 12 7).toInt) (s_wr eM213 (by exact ⟨la211, ua211⟩)))
        have zz12_8 := (Eq.trans (rfl : (M216.1 12 8).toInt = (M216.1 12 8).toInt) (s_wr eM216 (by exact ⟨la214, ua214⟩)))
        have u217k := copy_k (M := M0) (N := M216) (d := 12) (s := 38) (p := 0) (by (clear zz12_8 zz12_7 zz12_6 zz12_5 zz12_4 zz12_3 u217c hM216 eM216 ua214 la214 ea214 hM213 eM213 ua211 la211 ea211 hM210 eM210 ua208 la208 ea208 hM207 eM207 ua205 la205 ea205 hM204 eM204 ua202 la202 ea202 hM201 eM201 ua199 la199 ea199 h193 fM190 hM190 ih187 u104z hM103 eM103 ua101 la101 hret C hq8_0 hpr hM0; omega)) (by exact zz12_3) (by exact zz12_4) (by exact zz12_5) (by exact zz12_6) (by exact zz12_7) (by exact zz12_8) (show b01 (CPA M216 M0 13 39 14 40 8) = 1 from by exact u217c)
        exact hret _ _ _ dX9_copyFrom_94 ⟨hM216, (((((((FX.rf.tr fM190 (by decide)).wI eM201 (by decide)).wI eM204 (by decide)).wI eM207 (by decide)).wI eM210 (by decide)).wI eM213 (by decide)).wI eM216 (by decide)), by exact u217k⟩
      · refine j_aload_n C 0 0 dX9_copyFrom_16 rfl rfl ?_
        refine y_getC C 8 13 fX9_copyFrom_15 rfl rfl ft_8_1 sm_8_1 rfl hM190 dX9_copyFrom_17 ?_
        refine j_iload_n C 2 2 dX9_copyFrom_20 rfl rfl ?_
        refine j_aload_n C 1 1 dX9_copyFrom_21 rfl rfl ?_
        refine y_getC C 8 39 fX9_copyFrom_15 rfl rfl ft_8_1 sm_8_1 rfl hM190 dX9_copyFrom_22 ?_
        refine j_iload_n C 2 2 dX9_copyFrom_25 rfl rfl ?_
        refine y_iald C 25 8 _ _ rfl rfl rfl ak_25 an_25 rfl (sb_25 _) hM190 dX9_copyFrom_26 (by exact ⟨h191.1, (by omega)⟩) (fun a194 ea194 la194 ua194 => ?_)
        obtain rfl : a194 = (M0.1 39 (a189).toNat).toInt := s_fX fM190 (by decide) (ea194)
        refine y_iastF C 25 8 rfl rfl rfl ak_25 an_25 rfl (sb_25 _) hM190 (PX.w hpr rfl rfl) dX9_copyFrom_27 (by exact ⟨h191.1, (by omega)⟩) (fun M195 eM195 hM195 => ?_)
        refine j_aload_n C 0 0 dX9_copyFrom_28 rfl rfl ?_
        refine y_getC C 8 14 fX9_copyFrom_19 rfl rfl ft_8_2 sm_8_2 rfl hM195 dX9_copyFrom_29 ?_
        refine j_iload_n C 2 2 dX9_copyFrom_32 rfl rfl ?_
        refine j_aload_n C 1 1 dX9_copyFrom_33 rfl rfl ?_
        refine y_getC C 8 40 fX9_copyFrom_19 rfl rfl ft_8_2 sm_8_2 rfl hM195 dX9_copyFrom_34 ?_
        refine j_iload_n C 2 2 dX9_copyFrom_37 rfl rfl ?_
        refine y_iald C 26 8 _ _ rfl rfl rfl ak_26 an_26 rfl (sb_26 _) hM195 dX9_copyFrom_38 (by exact ⟨h191.1, (by omega)⟩) (fun a196 ea196 la196 ua196 => ?_)
        obtain rfl : a196 = (M0.1 40 (a189).toNat).toInt := s_fX fM190 (by decide) (s_fa eM195 (by decide) (ea196))
        refine y_iastF C 26 8 rfl rfl rfl ak_26 an_26 rfl (sb_26 _) hM195 (PX.w hpr rfl rfl) dX9_copyFrom_39 (by exact ⟨h191.1, (by omega)⟩) (fun M197 eM197 hM197 => ?_)
        refine y_iinc C 2 [(2, .int (sI (a189 + 1))), (0, .ref (ad 12)), (1, .ref (ad 38))] dX9_copyFrom_40 rfl (by decide) rfl ?_
        refine j_goto C 10 dX9_copyFrom_43 (by decide) ?_
        have u198s := cpa_s (B := M0) (p1 := 39) (g1 := 40) (n := a189) (n' := (a189 + 1)) (by exact h191.2.2.2.1) (by omega) eM195 eM197 (by decide)
        have zz12_0 : (M197.1 12 0).toInt = (M190.1 12 0).toInt := s_fa eM195 (by decide) (s_fa eM197 (by decide) (rfl)); refine j_lv [1, 2, 0] rfl ?_; exact ih187 (a189 + 1) M197 (by exact ⟨(by (clear hM197 eM197 ua196 la196 ea196 hM195 eM195 ua194 la194 ea194 fM190 hM190 ih187 u104z hM103 eM103 ua101 la101 hret C hq8_0 hpr hM0; omega)), ⟨(by (clear hM197 eM197 ua196 la196 ea196 hM195 eM195 ua194 la194 ea194 fM190 hM190 ih187 u104z hM103 eM103 ua101 la101 hret C hq8_0 hpr hM0; omega)), ⟨(by (clear hM197 eM197 ua196 la196 ea196 hM195 eM195 ua194 la194 ea194 fM190 hM190 ih187 u104z hM103 eM103 ua101 la101 hret C hq8_0 hpr hM0; omega)), ⟨u198s, (by (clear hM197 eM197 ua196 la196 ea196 hM195 eM195 ua194 la194 ea194 fM190 hM190 ih187 u104z hM103 eM103 ua101 la101 hret C hq8_0 hpr hM0; omega))⟩⟩⟩⟩) hM197 (((FX.rf.tr fM190 (by decide)).wI eM195 (by decide)).wI eM197 (by decide))
  have zz12_0 := (Eq.trans (rfl : (M103.1 12 0).toInt = (M103.1 12 0).toInt) (s_wr eM103 (by omega))); refine j_lv [1, 2, 0] rfl ?_; exact L188 2010 0 M103 (by exact ⟨(by decide), ⟨(by decide), ⟨zz12_0, ⟨u104z, (by decide)⟩⟩⟩⟩) hM103 (FX.rf.wI eM103 (by decide))
set_option maxHeartbeats 4000000 in
theorem s30_X9_copyFrom {l : Launch} {dC : Nat → ClassId} {dI : Nat → Nat → Nat} {ad : Nat → Nat} {cA : Nat → ClassId} {pr : Nat → Nat → Bool} {Kz : mm_M} {M0 : mm_M} (hM0 : INV pr Kz M0) (hpr : PX pr) (hq8_0 : ∀ i, s_c i = 8 → pr i 0 = false)  : Cv l 0 yX9_copyFrom wsX9_copyFrom dC dI ad cA [.ref (ad 12), .ref (ad 41)] M0 (fun M' => INV pr Kz M' ∧ FX [12, 13, 14] M0 M' ∧ (b01 (skX M' 12 = skX M0 41) = 1)) := by
  refine cv_of (cc := cX9_copyFrom) (maxL := 3) (lv := [(0, .ref (ad 12)), (1, .ref (ad 41))]) (by decide) rfl (Nat.le_of_ble_eq_true rfl) rfl ?_
  intro p e s m args below meth c A Q C hret
  refine j_aload_n C 0 0 dX9_copyFrom_0 rfl rfl ?_
  refine j_aload_n C 1 1 dX9_copyFrom_1 rfl rfl ?_
  refine y_getI C 8 _ _ fX9_copyFrom_9 rfl rfl ft_8_0 sb_8_0 hM0 dX9_copyFrom_2 (fun a101 ea101 la101 ua101 => ?_)
  obtain rfl : a101 = (M0.1 41 0).toInt := ea101
  refine y_putI C 8 _ _ qX9_copyFrom_9 rfl rfl ft_8_0 sb_8_0 hM0 (hq8_0 _ rfl) dX9_copyFrom_5 (by exact ⟨⟨(by omega), (by omega)⟩, ⟨la101, ua101⟩⟩) (fun M103 eM103 hM103 => ?_)
  refine y_iconst C dX9_copyFrom_8 ?_
  refine j_istore_n C 2 [(2, .int (sI 0)), (0, .ref (ad 12)), (1, .ref (ad 41))] dX9_copyFrom_9 rfl (by decide) rfl ?_
  have u104z := cpa_0 M103 M0 13 42 14 43
  have L188 : ∀ (n186 : Nat), ∀ (a189 : Int) (M190 : mm_M), (0 ≤ a189 ∧ a189 ≤ 8 ∧ ((M190.1 12 0).toInt = (M0.1 41 0).toInt) ∧ (b01 (CPA M190 M0 13 42 14 43 a189) = 1) ∧ (8 - a189) < (n186 : Int)) → INV pr Kz M190 → FX [12, 13, 14] M0 M190 → jj p l e (cn_R 0) s m args below meth c 0 0 Q 3 dC dI ad cA A M190 10 [(0, .ref (ad 12)), (1, .ref (ad 41)), (2, .int (sI a189))] [] := by
    intro n186
    induction n186 with
    | zero =>
      intro a189 M190 h191 hM190 fM190
      exfalso; omega
    | succ n186 ih187 =>
      intro a189 M190 h191 hM190 fM190
      refine j_iload_n C 2 2 dX9_copyFrom_10 rfl rfl ?_
      refine y_bipush C dX9_copyFrom_11 rfl ?_
      refine y_icmp_ge C 46 dX9_copyFrom_13 (by decide) (by exact ⟨⟨(by omega), (by omega)⟩, ⟨(by decide), (by decide)⟩⟩) (fun h193 => ?_) (fun h193 => ?_)
      · refine j_aload_n C 0 0 dX9_copyFrom_46 rfl rfl ?_
        refine j_aload_n C 1 1 dX9_copyFrom_47 rfl rfl ?_
        refine y_getI C 8 _ _ fX9_copyFrom_22 rfl rfl ft_8_3 sb_8_3 hM190 dX9_copyFrom_48 (fun a199 ea199 la199 ua199 => ?_)
        obtain rfl : a199 = (M0.1 41 3).toInt := s_fX fM190 (by decide) (ea199)
        refine y_putI C 8 _ _ qX9_copyFrom_22 rfl rfl ft_8_3 sb_8_3 hM190 (PX.w hpr rfl rfl) dX9_copyFrom_51 (by exact ⟨⟨(by (clear h193 fM190 hM190 h191 ih187 u104z hM103 eM103 ua101 la101 hret C hq8_0 hpr hM0; omega)), (by (clear h193 fM190 hM190 h191 ih187 u104z hM103 eM103 ua101 la101 hret C hq8_0 hpr hM0; omega))⟩, ⟨la199, ua199⟩⟩) (fun M201 eM201 hM201 => ?_)
        refine j_aload_n C 0 0 dX9_copyFrom_54 rfl rfl ?_
        refine j_aload_n C 1 1 dX9_copyFrom_55 rfl rfl ?_
        refine y_getI C 8 _ _ fX9_copyFrom_25 rfl rfl ft_8_4 sb_8_4 hM201 dX9_copyFrom_56 (fun a202 ea202 la202 ua202 => ?_)
        obtain rfl : a202 = (M0.1 41 4).toInt := s_fX fM190 (by decide) (s_fa eM201 (by decide) (ea202))
        refine y_putI C 8 _ _ qX9_copyFrom_25 rfl rfl ft_8_4 sb_8_4 hM201 (PX.w hpr rfl rfl) dX9_copyFrom_59 (by exact ⟨⟨(by (clear hM201 eM201 ua199 la199 ea199 h193 fM190 hM190 h191 ih187 u104z hM103 eM103 ua101 la101 hret C hq8_0 hpr hM0; omega)), (by (clear hM201 eM201 ua199 la199 ea199 h193 fM190 hM190 h191 ih187 u104z hM103 eM103 ua101 la101 hret C hq8_0 hpr hM0; omega))⟩, ⟨la202, ua202⟩⟩) (fun M204 eM204 hM204 => ?_)
        refine j_aload_n C 0 0 dX9_copyFrom_62 rfl rfl ?_
        refine j_aload_n C 1 1 dX9_copyFrom_63 rfl rfl ?_
        refine y_getI C 8 _ _ fX9_copyFrom_28 rfl rfl ft_8_5 sb_8_5 hM204 dX9_copyFrom_64 (fun a205 ea205 la205 ua205 => ?_)
        obtain rfl : a205 = (M0.1 41 5).toInt := s_fX fM190 (by decide) (s_fa eM201 (by decide) (s_fa eM204 (by decide) (ea205)))
        refine y_putIF C 8 qX9_copyFrom_28 rfl rfl ft_8_5 sb_8_5 hM204 (PX.w hpr rfl rfl) dX9_copyFrom_67 (fun M207 eM207 hM207 => ?_)
        refine j_aload_n C 0 0 dX9_copyFrom_70 rfl rfl ?_
        refine j_aload_n C 1 1 dX9_copyFrom_71 rfl rfl ?_
        refine y_getI C 8 _ _ fX9_copyFrom_31 rfl rfl ft_8_6 sb_8_6 hM207 dX9_copyFrom_72 (fun a208 ea208 la208 ua208 => ?_)
        obtain rfl : a208 = (M0.1 41 6).toInt := s_fX fM190 (by decide) (s_fa eM201 (by decide) (s_fa eM204 (by decide) (s_fa eM207 (by decide) (ea208))))
        refine y_putIF C 8 qX9_copyFrom_31 rfl rfl ft_8_6 sb_8_6 hM207 (PX.w hpr rfl rfl) dX9_copyFrom_75 (fun M210 eM210 hM210 => ?_)
        refine j_aload_n C 0 0 dX9_copyFrom_78 rfl rfl ?_
        refine j_aload_n C 1 1 dX9_copyFrom_79 rfl rfl ?_
        refine y_getI C 8 _ _ fX9_copyFrom_34 rfl rfl ft_8_7 sb_8_7 hM210 dX9_copyFrom_80 (fun a211 ea211 la211 ua211 => ?_)
        obtain rfl : a211 = (M0.1 41 7).toInt := s_fX fM190 (by decide) (s_fa eM201 (by decide) (s_fa eM204 (by decide) (s_fa eM207 (by decide) (s_fa eM210 (by decide) (ea211)))))
        refine y_putIF C 8 qX9_copyFrom_34 rfl rfl ft_8_7 sb_8_7 hM210 (PX.w hpr rfl rfl) dX9_copyFrom_83 (fun M213 eM213 hM213 => ?_)
        refine j_aload_n C 0 0 dX9_copyFrom_86 rfl rfl ?_
        refine j_aload_n C 1 1 dX9_copyFrom_87 rfl rfl ?_
        refine y_getI C 8 _ _ fX9_copyFrom_37 rfl rfl ft_8_8 sb_8_8 hM213 dX9_copyFrom_88 (fun a214 ea214 la214 ua214 => ?_)
        obtain rfl : a214 = (M0.1 41 8).toInt := s_fX fM190 (by decide) (s_fa eM201 (by decide) (s_fa eM204 (by decide) (s_fa eM207 (by decide) (s_fa eM210 (by decide) (s_fa eM213 (by decide) (ea214))))))
        refine y_putIF C 8 qX9_copyFrom_37 rfl rfl ft_8_8 sb_8_8 hM213 (PX.w hpr rfl rfl) dX9_copyFrom_91 (fun M216 eM216 hM216 => ?_)
        have u217c := cpa_c (M := M190) (M' := M216) (B := M0) (p0 := 13) (p1 := 42) (g0 := 14) (g1 := 43) (n := a189) (n' := 8) (by exact h191.2.2.2.1) ((((((wI_cell eM216 (by decide)).trans (wI_cell eM213 (by decide))).trans (wI_cell eM210 (by decide))).trans (wI_cell eM207 (by decide))).trans (wI_cell eM204 (by decide))).trans (wI_cell eM201 (by decide))) ((((((wI_cell eM216 (by decide)).trans (wI_cell eM213 (by decide))).trans (wI_cell eM210 (by decide))).trans (wI_cell eM207 (by decide))).trans (wI_cell eM204 (by decide))).trans (wI_cell eM201 (by decide))) (by omega)
        have zz12_0 : (M216.1 12 0).toInt = (M190.1 12 0).toInt := s_fb eM201 (by decide) (s_fb eM204 (by decide) (s_fb eM207 (by decide) (s_fb eM210 (by decide) (s_fb eM213 (by decide) (s_fb eM216 (by decide) (rfl))))))
        have zz12_3 := (Eq.trans (s_fb eM204 (by decide) (s_fb eM207 (by decide) (s_fb eM210 (by decide) (s_fb eM213 (by decide) (s_fb eM216 (by decide) (rfl))))) : (M216.1 12 3).toInt = (M201.1 12 3).toInt) (s_wr eM201 (by (clear zz12_0 u217c hM216 eM216 ua214 la214 ea214 hM213 eM213 ua211 la211 ea211 hM210 eM210 ua208 la208 ea208 hM207 eM207 ua205 la205 ea205 hM204 eM204 ua202 la202 ea202 hM201 eM201 h193 fM190 hM190 h191 ih187 u104z hM103 eM103 ua101 la101 hret C hq8_0 hpr hM0; omega))))
        have zz12_4 := (Eq.trans (s_fb eM207 (by decide) (s_fb eM210 (by decide) (s_fb eM213 (by decide) (s_fb eM216 (by decide) (rfl)))) : (M216.1 12 4).toInt = (M204.1 12 4).toInt) (s_wr eM204 (by (clear zz12_3 zz12_0 u217c hM216 eM216 ua214 la214 ea214 hM213 eM213 ua211 la211 ea211 hM210 eM210 ua208 la208 ea208 hM207 eM207 ua205 la205 ea205 hM204 eM204 hM201 eM201 ua199 la199 ea199 h193 fM190 hM190 h191 ih187 u104z hM103 eM103 ua101 la101 hret C hq8_0 hpr hM0; omega))))
        have zz12_5 := (Eq.trans (s_fb eM210 (by decide) (s_fb eM213 (by decide) (s_fb eM216 (by decide) (rfl))) : (M216.1 12 5).toInt = (M207.1 12 5).toInt) (s_wr eM207 (by exact ⟨la205, ua205⟩)))
        have zz12_6 := (Eq.trans (s_fb eM213 (by decide) (s_fb eM216 (by decide) (rfl)) : (M216.1 12 6).toInt = (M210.1 12 6).toInt) (s_wr eM210 (by exact ⟨la208, ua208⟩)))
        have zz12_7 := (Eq.trans (s_fb eM216 (by decide) (rfl) : (M216.1 12 7).toInt = (M213.1 12 7).toInt) (s_wr eM213 (by exact ⟨la211, ua211⟩)))
        have zz12_8 := (Eq.trans (rfl : (M216.1 12 8).toInt = (M216.1 12 8).toInt) (s_wr eM216 (by exact ⟨la214, ua214⟩)))
        have u217k := copy_k (M := M0) (N := M216) (d := 12) (s := 41) (p := 0) (by (clear zz12_8 zz12_7 zz12_6 zz12_5 zz12_4 zz12_3 u217c hM216 eM216 ua214 la214 ea214 hM213 eM213 ua211 la211 ea211 hM210 eM210 ua208 la208 ea208 hM207 eM207 ua205 la205 ea205 hM204 eM204 ua202 la202 ea202 hM201 eM201 ua199 la199 ea199 h193 fM190 hM190 ih187 u104z hM103 eM103 ua101 la101 hret C hq8_0 hpr hM0; omega)) (by exact zz12_3) (by exact zz12_4) (by exact zz12_5) (by exact zz12_6) (by exact zz12_7) (by exact zz12_8) (show b01 (CPA M216 M0 13 42 14 43 8) = 1 from by exact u217c)
        exact hret _ _ _ dX9_copyFrom_94 ⟨hM216, (((((((FX.rf.tr fM190 (by decide)).wI eM201 (by decide)).wI eM204 (by decide)).wI eM207 (by decide)).wI eM210 (by decide)).wI eM213 (by decide)).wI eM216 (by decide)), by exact u217k⟩
      · refine j_aload_n C 0 0 dX9_copyFrom_16 rfl rfl ?_
        refine y_getC C 8 13 fX9_copyFrom_15 rfl rfl ft_8_1 sm_8_1 rfl hM190 dX9_copyFrom_17 ?_
        refine j_iload_n C 2 2 dX9_copyFrom_20 rfl rfl ?_
        refine j_aload_n C 1 1 dX9_copyFrom_21 rfl rfl ?_
        refine y_getC C 8 42 fX9_copyFrom_15 rfl rfl ft_8_1 sm_8_1 rfl hM190 dX9_copyFrom_22 ?_
        refine j_iload_n C 2 2 dX9_copyFrom_25 rfl rfl ?_
        refine y_iald C 25 8 _ _ rfl rfl rfl ak_25 an_25 rfl (sb_25 _) hM190 dX9_copyFrom_26 (by exact ⟨h191.1, (by omega)⟩) (fun a194 ea194 la194 ua194 => ?_)
        obtain rfl : a194 = (M0.1 42 (a189).toNat).toInt := s_fX fM190 (by decide) (ea194)
        refine y_iastF C 25 8 rfl rfl rfl ak_25 an_25 rfl (sb_25 _) hM190 (PX.w hpr rfl rfl) dX9_copyFrom_27 (by exact ⟨h191.1, (by omega)⟩) (fun M195 eM195 hM195 => ?_)
        refine j_aload_n C 0 0 dX9_copyFrom_28 rfl rfl ?_
        refine y_getC C 8 14 fX9_copyFrom_19 rfl rfl ft_8_2 sm_8_2 rfl hM195 dX9_copyFrom_29 ?_
        refine j_iload_n C 2 2 dX9_copyFrom_32 rfl rfl ?_
        refine j_aload_n C 1 1 dX9_copyFrom_33 rfl rfl ?_
        refine y_getC C 8 43 fX9_copyFrom_19 rfl rfl ft_8_2 sm_8_2 rfl hM195 dX9_copyFrom_34 ?_
        refine j_iload_n C 2 2 dX9_copyFrom_37 rfl rfl ?_
        refine y_iald C 26 8 _ _ rfl rfl rfl ak_26 an_26 rfl (sb_26 _) hM195 dX9_copyFrom_38 (by exact ⟨h191.1, (by omega)⟩) (fun a196 ea196 la196 ua196 => ?_)
        obtain rfl : a196 = (M0.1 43 (a189).toNat).toInt := s_fX fM190 (by decide) (s_fa eM195 (by decide) (ea196))
        refine y_iastF C 26 8 rfl rfl rfl ak_26 an_26 rfl (sb_26 _) hM195 (PX.w hpr rfl rfl) dX9_copyFrom_39 (by exact ⟨h191.1, (by omega)⟩) (fun M197 eM197 hM197 => ?_)
        refine y_iinc C 2 [(2, .int (sI (a189 + 1))), (0, .ref (ad 12)), (1, .ref (ad 41))] dX9_copyFrom_40 rfl (by decide) rfl ?_
        refine j_goto C 10 dX9_copyFrom_43 (by decide) ?_
        have u198s := cpa_s (B := M0) (p1 := 42) (g1 := 43) (n := a189) (n' := (a189 + 1)) (by exact h191.2.2.2.1) (by omega) eM195 eM197 (by decide)
        have zz12_0 : (M197.1 12 0).toInt = (M190.1 12 0).toInt := s_fa eM195 (by decide) (s_fa eM197 (by decide) (rfl)); refine j_lv [1, 2, 0] rfl ?_; exact ih187 (a189 + 1) M197 (by exact ⟨(by (clear hM197 eM197 ua196 la196 ea196 hM195 eM195 ua194 la194 ea194 fM190 hM190 ih187 u104z hM103 eM103 ua101 la101 hret C hq8_0 hpr hM0; omega)), ⟨(by (clear hM197 eM197 ua196 la196 ea196 hM195 eM195 ua194 la194 ea194 fM190 hM190 ih187 u104z hM103 eM103 ua101 la101 hret C hq8_0 hpr hM0; omega)), ⟨(by (clear hM197 eM197 ua196 la196 ea196 hM195 eM195 ua194 la194 ea194 fM190 hM190 ih187 u104z hM103 eM103 ua101 la101 hret C hq8_0 hpr hM0; omega)), ⟨u198s, (by (clear hM197 eM197 ua196 la196 ea196 hM195 eM195 ua194 la194 ea194 fM190 hM190 ih187 u104z hM103 eM103 ua101 la101 hret C hq8_0 hpr hM0; omega))⟩⟩⟩⟩) hM197 (((FX.rf.tr fM190 (by decide)).wI eM195 (by decide)).wI eM197 (by decide))
  have zz12_0 := (Eq.trans (rfl : (M103.1 12 0).toInt = (M103.1 12 0).toInt) (s_wr eM103 (by omega))); refine j_lv [1, 2, 0] rfl ?_; exact L188 2010 0 M103 (by exact ⟨(by decide), ⟨(by decide), ⟨zz12_0, ⟨u104z, (by decide)⟩⟩⟩⟩) hM103 (FX.rf.wI eM103 (by decide))
set_option maxHeartbeats 4000000 in
theorem s31_X9_copyFrom {l : Launch} {dC : Nat → ClassId} {dI : Nat → Nat → Nat} {ad : Nat → Nat} {cA : Nat → ClassId} {pr : Nat → Nat → Bool} {Kz : mm_M} {M0 : mm_M} (hM0 : INV pr Kz M0) (hpr : PX pr) (hq8_0 : ∀ i, s_c i = 8 → pr i 0 = false)  : Cv l 0 yX9_copyFrom wsX9_copyFrom dC dI ad cA [.ref (ad 12), .ref (ad 44)] M0 (fun M' => INV pr Kz M' ∧ FX [12, 13, 14] M0 M' ∧ (b01 (skX M' 12 = skX M0 44) = 1)) := by
  refine cv_of (cc := cX9_copyFrom) (maxL := 3) (lv := [(0, .ref (ad 12)), (1, .ref (ad 44))]) (by decide) rfl (Nat.le_of_ble_eq_true rfl) rfl ?_
  intro p e s m args below meth c A Q C hret
  refine j_aload_n C 0 0 dX9_copyFrom_0 rfl rfl ?_
  refine j_aload_n C 1 1 dX9_copyFrom_1 rfl rfl ?_
  refine y_getI C 8 _ _ fX9_copyFrom_9 rfl rfl ft_8_0 sb_8_0 hM0 dX9_copyFrom_2 (fun a101 ea101 la101 ua101 => ?_)
  obtain rfl : a101 = (M0.1 44 0).toInt := ea101
  refine y_putI C 8 _ _ qX9_copyFrom_9 rfl rfl ft_8_0 sb_8_0 hM0 (hq8_0 _ rfl) dX9_copyFrom_5 (by exact ⟨⟨(by omega), (by omega)⟩, ⟨la101, ua101⟩⟩) (fun M103 eM103 hM103 => ?_)
  refine y_iconst C dX9_copyFrom_8 ?_
  refine j_istore_n C 2 [(2, .int (sI 0)), (0, .ref (ad 12)), (1, .ref (ad 44))] dX9_copyFrom_9 rfl (by decide) rfl ?_
  have u104z := cpa_0 M103 M0 13 45 14 46
  have L188 : ∀ (n186 : Nat), ∀ (a189 : Int) (M190 : mm_M), (0 ≤ a189 ∧ a189 ≤ 8 ∧ ((M190.1 12 0).toInt = (M0.1 44 0).toInt) ∧ (b01 (CPA M190 M0 13 45 14 46 a189) = 1) ∧ (8 - a189) < (n186 : Int)) → INV pr Kz M190 → FX [12, 13, 14] M0 M190 → jj p l e (cn_R 0) s m args below meth c 0 0 Q 3 dC dI ad cA A M190 10 [(0, .ref (ad 12)), (1, .ref (ad 44)), (2, .int (sI a189))] [] := by
    intro n186
    induction n186 with
    | zero =>
      intro a189 M190 h191 hM190 fM190
      exfalso; omega
    | succ n186 ih187 =>
      intro a189 M190 h191 hM190 fM190
      refine j_iload_n C 2 2 dX9_copyFrom_10 rfl rfl ?_
      refine y_bipush C dX9_copyFrom_11 rfl ?_
      refine y_icmp_ge C 46 dX9_copyFrom_13 (by decide) (by exact ⟨⟨(by omega), (by omega)⟩, ⟨(by decide), (by decide)⟩⟩) (fun h193 => ?_) (fun h193 => ?_)
      · refine j_aload_n C 0 0 dX9_copyFrom_46 rfl rfl ?_
        refine j_aload_n C 1 1 dX9_copyFrom_47 rfl rfl ?_
        refine y_getI C 8 _ _ fX9_copyFrom_22 rfl rfl ft_8_3 sb_8_3 hM190 dX9_copyFrom_48 (fun a199 ea199 la199 ua199 => ?_)
        obtain rfl : a199 = (M0.1 44 3).toInt := s_fX fM190 (by decide) (ea199)
        refine y_putI C 8 _ _ qX9_copyFrom_22 rfl rfl ft_8_3 sb_8_3 hM190 (PX.w hpr rfl rfl) dX9_copyFrom_51 (by exact ⟨⟨(by (clear h193 fM190 hM190 h191 ih187 u104z hM103 eM103 ua101 la101 hret C hq8_0 hpr hM0; omega)), (by (clear h193 fM190 hM190 h191 ih187 u104z hM103 eM103 ua101 la101 hret C hq8_0 hpr hM0; omega))⟩, ⟨la199, ua199⟩⟩) (fun M201 eM201 hM201 => ?_)
        refine j_aload_n C 0 0 dX9_copyFrom_54 rfl rfl ?_
        refine j_aload_n C 1 1 dX9_copyFrom_55 rfl rfl ?_
        refine y_getI C 8 _ _ fX9_copyFrom_25 rfl rfl ft_8_4 sb_8_4 hM201 dX9_copyFrom_56 (fun a202 ea202 la202 ua202 => ?_)
        obtain rfl : a202 = (M0.1 44 4).toInt := s_fX fM190 (by decide) (s_fa eM201 (by decide) (ea202))
        refine y_putI C 8 _ _ qX9_copyFrom_25 rfl rfl ft_8_4 sb_8_4 hM201 (PX.w hpr rfl rfl) dX9_copyFrom_59 (by exact ⟨⟨(by (clear hM201 eM201 ua199 la199 ea199 h193 fM190 hM190 h191 ih187 u104z hM103 eM103 ua101 la101 hret C hq8_0 hpr hM0; omega)), (by (clear hM201 eM201 ua199 la199 ea199 h193 fM190 hM190 h191 ih187 u104z hM103 eM103 ua101 la101 hret C hq8_0 hpr hM0; omega))⟩, ⟨la202, ua202⟩⟩) (fun M204 eM204 hM204 => ?_)
        refine j_aload_n C 0 0 dX9_copyFrom_62 rfl rfl ?_
        refine j_aload_n C 1 1 dX9_copyFrom_63 rfl rfl ?_
        refine y_getI C 8 _ _ fX9_copyFrom_28 rfl rfl ft_8_5 sb_8_5 hM204 dX9_copyFrom_64 (fun a205 ea205 la205 ua205 => ?_)
        obtain rfl : a205 = (M0.1 44 5).toInt := s_fX fM190 (by decide) (s_fa eM201 (by decide) (s_fa eM204 (by decide) (ea205)))
        refine y_putIF C 8 qX9_copyFrom_28 rfl rfl ft_8_5 sb_8_5 hM204 (PX.w hpr rfl rfl) dX9_copyFrom_67 (fun M207 eM207 hM207 => ?_)
        refine j_aload_n C 0 0 dX9_copyFrom_70 rfl rfl ?_
        refine j_aload_n C 1 1 dX9_copyFrom_71 rfl rfl ?_
        refine y_getI C 8 _ _ fX9_copyFrom_31 rfl rfl ft_8_6 sb_8_6 hM207 dX9_copyFrom_72 (fun a208 ea208 la208 ua208 => ?_)
        obtain rfl : a208 = (M0.1 44 6).toInt := s_fX fM190 (by decide) (s_fa eM201 (by decide) (s_fa eM204 (by decide) (s_fa eM207 (by decide) (ea208))))
        refine y_putIF C 8 qX9_copyFrom_31 rfl rfl ft_8_6 sb_8_6 hM207 (PX.w hpr rfl rfl) dX9_copyFrom_75 (fun M210 eM210 hM210 => ?_)
        refine j_aload_n C 0 0 dX9_copyFrom_78 rfl rfl ?_
        refine j_aload_n C 1 1 dX9_copyFrom_79 rfl rfl ?_
        refine y_getI C 8 _ _ fX9_copyFrom_34 rfl rfl ft_8_7 sb_8_7 hM210 dX9_copyFrom_80 (fun a211 ea211 la211 ua211 => ?_)
        obtain rfl : a211 = (M0.1 44 7).toInt := s_fX fM190 (by decide) (s_fa eM201 (by decide) (s_fa eM204 (by decide) (s_fa eM207 (by decide) (s_fa eM210 (by decide) (ea211)))))
        refine y_putIF C 8 qX9_copyFrom_34 rfl rfl ft_8_7 sb_8_7 hM210 (PX.w hpr rfl rfl) dX9_copyFrom_83 (fun M213 eM213 hM213 => ?_)
        refine j_aload_n C 0 0 dX9_copyFrom_86 rfl rfl ?_
        refine j_aload_n C 1 1 dX9_copyFrom_87 rfl rfl ?_
        refine y_getI C 8 _ _ fX9_copyFrom_37 rfl rfl ft_8_8 sb_8_8 hM213 dX9_copyFrom_88 (fun a214 ea214 la214 ua214 => ?_)
        obtain rfl : a214 = (M0.1 44 8).toInt := s_fX fM190 (by decide) (s_fa eM201 (by decide) (s_fa eM204 (by decide) (s_fa eM207 (by decide) (s_fa eM210 (by decide) (s_fa eM213 (by decide) (ea214))))))
        refine y_putIF C 8 qX9_copyFrom_37 rfl rfl ft_8_8 sb_8_8 hM213 (PX.w hpr rfl rfl) dX9_copyFrom_91 (fun M216 eM216 hM216 => ?_)
        have u217c := cpa_c (M := M190) (M' := M216) (B := M0) (p0 := 13) (p1 := 45) (g0 := 14) (g1 := 46) (n := a189) (n' := 8) (by exact h191.2.2.2.1) ((((((wI_cell eM216 (by decide)).trans (wI_cell eM213 (by decide))).trans (wI_cell eM210 (by decide))).trans (wI_cell eM207 (by decide))).trans (wI_cell eM204 (by decide))).trans (wI_cell eM201 (by decide))) ((((((wI_cell eM216 (by decide)).trans (wI_cell eM213 (by decide))).trans (wI_cell eM210 (by decide))).trans (wI_cell eM207 (by decide))).trans (wI_cell eM204 (by decide))).trans (wI_cell eM201 (by decide))) (by omega)
        have zz12_0 : (M216.1 12 0).toInt = (M190.1 12 0).toInt := s_fb eM201 (by decide) (s_fb eM204 (by decide) (s_fb eM207 (by decide) (s_fb eM210 (by decide) (s_fb eM213 (by decide) (s_fb eM216 (by decide) (rfl))))))
        have zz12_3 := (Eq.trans (s_fb eM204 (by decide) (s_fb eM207 (by decide) (s_fb eM210 (by decide) (s_fb eM213 (by decide) (s_fb eM216 (by decide) (rfl))))) : (M216.1 12 3).toInt = (M201.1 12 3).toInt) (s_wr eM201 (by (clear zz12_0 u217c hM216 eM216 ua214 la214 ea214 hM213 eM213 ua211 la211 ea211 hM210 eM210 ua208 la208 ea208 hM207 eM207 ua205 la205 ea205 hM204 eM204 ua202 la202 ea202 hM201 eM201 h193 fM190 hM190 h191 ih187 u104z hM103 eM103 ua101 la101 hret C hq8_0 hpr hM0; omega))))
        have zz12_4 := (Eq.trans (s_fb eM207 (by decide) (s_fb eM210 (by decide) (s_fb eM213 (by decide) (s_fb eM216 (by decide) (rfl)))) : (M216.1 12 4).toInt = (M204.1 12 4).toInt) (s_wr eM204 (by (clear zz12_3 zz12_0 u217c hM216 eM216 ua214 la214 ea214 hM213 eM213 ua211 la211 ea211 hM210 eM210 ua208 la208 ea208 hM207 eM207 ua205 la205 ea205 hM204 eM204 hM201 eM201 ua199 la199 ea199 h193 fM190 hM190 h191 ih187 u104z hM103 eM103 ua101 la101 hret C hq8_0 hpr hM0; omega))))
        have zz12_5 := (Eq.trans (s_fb eM210 (by decide) (s_fb eM213 (by decide) (s_fb eM216 (by decide) (rfl))) : (M216.1 12 5).toInt = (M207.1 12 5).toInt) (s_wr eM207 (by exact ⟨la205, ua205⟩)))
        have zz12_6 := (Eq.trans (s_fb eM213 (by decide) (s_fb eM216 (by decide) (rfl)) : (M216.1 12 6).toInt = (M210.1 12 6).toInt) (s_wr eM210 (by exact ⟨la208, ua208⟩)))
        have zz12_7 := (Eq.trans (s_fb eM216 (by decide) (rfl) : (M216.1 12 7).toInt = (M213.1 12 7).toInt) (s_wr eM213 (by exact ⟨la211, ua211⟩)))
        have zz12_8 := (Eq.trans (rfl : (M216.1 12 8).toInt = (M216.1 12 8).toInt) (s_wr eM216 (by exact ⟨la214, ua214⟩)))
        have u217k := copy_k (M := M0) (N := M216) (d := 12) (s := 44) (p := 0) (by (clear zz12_8 zz12_7 zz12_6 zz12_5 zz12_4 zz12_3 u217c hM216 eM216 ua214 la214 ea214 hM213 eM213 ua211 la211 ea211 hM210 eM210 ua208 la208 ea208 hM207 eM207 ua205 la205 ea205 hM204 eM204 ua202 la202 ea202 hM201 eM201 ua199 la199 ea199 h193 fM190 hM190 ih187 u104z hM103 eM103 ua101 la101 hret C hq8_0 hpr hM0; omega)) (by exact zz12_3) (by exact zz12_4) (by exact zz12_5) (by exact zz12_6) (by exact zz12_7) (by exact zz12_8) (show b01 (CPA M216 M0 13 45 14 46 8) = 1 from by exact u217c)
        exact hret _ _ _ dX9_copyFrom_94 ⟨hM216, (((((((FX.rf.tr fM190 (by decide)).wI eM201 (by decide)).wI eM204 (by decide)).wI eM207 (by decide)).wI eM210 (by decide)).wI eM213 (by decide)).wI eM216 (by decide)), by exact u217k⟩
      · refine j_aload_n C 0 0 dX9_copyFrom_16 rfl rfl ?_
        refine y_getC C 8 13 fX9_copyFrom_15 rfl rfl ft_8_1 sm_8_1 rfl hM190 dX9_copyFrom_17 ?_
        refine j_iload_n C 2 2 dX9_copyFrom_20 rfl rfl ?_
        refine j_aload_n C 1 1 dX9_copyFrom_21 rfl rfl ?_
        refine y_getC C 8 45 fX9_copyFrom_15 rfl rfl ft_8_1 sm_8_1 rfl hM190 dX9_copyFrom_22 ?_
        refine j_iload_n C 2 2 dX9_copyFrom_25 rfl rfl ?_
        refine y_iald C 25 8 _ _ rfl rfl rfl ak_25 an_25 rfl (sb_25 _) hM190 dX9_copyFrom_26 (by exact ⟨h191.1, (by omega)⟩) (fun a194 ea194 la194 ua194 => ?_)
        obtain rfl : a194 = (M0.1 45 (a189).toNat).toInt := s_fX fM190 (by decide) (ea194)
        refine y_iastF C 25 8 rfl rfl rfl ak_25 an_25 rfl (sb_25 _) hM190 (PX.w hpr rfl rfl) dX9_copyFrom_27 (by exact ⟨h191.1, (by omega)⟩) (fun M195 eM195 hM195 => ?_)
        refine j_aload_n C 0 0 dX9_copyFrom_28 rfl rfl ?_
        refine y_getC C 8 14 fX9_copyFrom_19 rfl rfl ft_8_2 sm_8_2 rfl hM195 dX9_copyFrom_29 ?_
        refine j_iload_n C 2 2 dX9_copyFrom_32 rfl rfl ?_
        refine j_aload_n C 1 1 dX9_copyFrom_33 rfl rfl ?_
        refine y_getC C 8 46 fX9_copyFrom_19 rfl rfl ft_8_2 sm_8_2 rfl hM195 dX9_copyFrom_34 ?_
        refine j_iload_n C 2 2 dX9_copyFrom_37 rfl rfl ?_
        refine y_iald C 26 8 _ _ rfl rfl rfl ak_26 an_26 rfl (sb_26 _) hM195 dX9_copyFrom_38 (by exact ⟨h191.1, (by omega)⟩) (fun a196 ea196 la196 ua196 => ?_)
        obtain rfl : a196 = (M0.1 46 (a189).toNat).toInt := s_fX fM190 (by decide) (s_fa eM195 (by decide) (ea196))
        refine y_iastF C 26 8 rfl rfl rfl ak_26 an_26 rfl (sb_26 _) hM195 (PX.w hpr rfl rfl) dX9_copyFrom_39 (by exact ⟨h191.1, (by omega)⟩) (fun M197 eM197 hM197 => ?_)
        refine y_iinc C 2 [(2, .int (sI (a189 + 1))), (0, .ref (ad 12)), (1, .ref (ad 44))] dX9_copyFrom_40 rfl (by decide) rfl ?_
        refine j_goto C 10 dX9_copyFrom_43 (by decide) ?_
        have u198s := cpa_s (B := M0) (p1 := 45) (g1 := 46) (n := a189) (n' := (a189 + 1)) (by exact h191.2.2.2.1) (by omega) eM195 eM197 (by decide)
        have zz12_0 : (M197.1 12 0).toInt = (M190.1 12 0).toInt := s_fa eM195 (by decide) (s_fa eM197 (by decide) (rfl)); refine j_lv [1, 2, 0] rfl ?_; exact ih187 (a189 + 1) M197 (by exact ⟨(by (clear hM197 eM197 ua196 la196 ea196 hM195 eM195 ua194 la194 ea194 fM190 hM190 ih187 u104z hM103 eM103 ua101 la101 hret C hq8_0 hpr hM0; omega)), ⟨(by (clear hM197 eM197 ua196 la196 ea196 hM195 eM195 ua194 la194 ea194 fM190 hM190 ih187 u104z hM103 eM103 ua101 la101 hret C hq8_0 hpr hM0; omega)), ⟨(by (clear hM197 eM197 ua196 la196 ea196 hM195 eM195 ua194 la194 ea194 fM190 hM190 ih187 u104z hM103 eM103 ua101 la101 hret C hq8_0 hpr hM0; omega)), ⟨u198s, (by (clear hM197 eM197 ua196 la196 ea196 hM195 eM195 ua194 la194 ea194 fM190 hM190 ih187 u104z hM103 eM103 ua101 la101 hret C hq8_0 hpr hM0; omega))⟩⟩⟩⟩) hM197 (((FX.rf.tr fM190 (by decide)).wI eM195 (by decide)).wI eM197 (by decide))
  have zz12_0 := (Eq.trans (rfl : (M103.1 12 0).toInt = (M103.1 12 0).toInt) (s_wr eM103 (by omega))); refine j_lv [1, 2, 0] rfl ?_; exact L188 2010 0 M103 (by exact ⟨(by decide), ⟨(by decide), ⟨zz12_0, ⟨u104z, (by decide)⟩⟩⟩⟩) hM103 (FX.rf.wI eM103 (by decide))
end
section
set_option maxHeartbeats 4000000 in
theorem s32_X9_copyFrom {l : Launch} {dC : Nat → ClassId} {dI : Nat → Nat → Nat} {ad : Nat → Nat} {cA : Nat → ClassId} {pr : Nat → Nat → Bool} {Kz : mm_M} {M0 : mm_M} (hM0 : INV pr Kz M0) (hpr : PX pr) (hq8_0 : ∀ i, s_c i = 8 → pr i 0 = false)  : Cv l 0 yX9_copyFrom wsX9_copyFrom dC dI ad cA [.ref (ad 12), .ref (ad 47)] M0 (fun M' => INV pr Kz M' ∧ FX [12, 13, 14] M0 M' ∧ (b01 (skX M' 12 = skX M0 47) = 1)) := by
  refine cv_of (cc := cX9_copyFrom) (maxL := 3) (lv := [(0, .ref (ad 12)), (1, .ref (ad 47))]) (by decide) rfl (Nat.le_of_ble_eq_true rfl) rfl ?_
  intro p e s m args below meth c A Q C hret
  refine j_aload_n C 0 0 dX9_copyFrom_0 rfl rfl ?_
  refine j_aload_n C 1 1 dX9_copyFrom_1 rfl rfl ?_
  refine y_getI C 8 _ _ fX9_copyFrom_9 rfl rfl ft_8_0 sb_8_0 hM0 dX9_copyFrom_2 (fun a101 ea101 la101 ua101 => ?_)
  obtain rfl : a101 = (M0.1 47 0).toInt := ea101
  refine y_putI C 8 _ _ qX9_copyFrom_9 rfl rfl ft_8_0 sb_8_0 hM0 (hq8_0 _ rfl) dX9_copyFrom_5 (by exact ⟨⟨(by omega), (by omega)⟩, ⟨la101, ua101⟩⟩) (fun M103 eM103 hM103 => ?_)
  refine y_iconst C dX9_copyFrom_8 ?_
  refine j_istore_n C 2 [(2, .int (sI 0)), (0, .ref (ad 12)), (1, .ref (ad 47))] dX9_copyFrom_9 rfl (by decide) rfl ?_
  have u104z := cpa_0 M103 M0 13 48 14 49
  have L188 : ∀ (n186 : Nat), ∀ (a189 : Int) (M190 : mm_M), (0 ≤ a189 ∧ a189 ≤ 8 ∧ ((M190.1 12 0).toInt = (M0.1 47 0).toInt) ∧ (b01 (CPA M190 M0 13 48 14 49 a189) = 1) ∧ (8 - a189) < (n186 : Int)) → INV pr Kz M190 → FX [12, 13, 14] M0 M190 → jj p l e (cn_R 0) s m args below meth c 0 0 Q 3 dC dI ad cA A M190 10 [(0, .ref (ad 12)), (1, .ref (ad 47)), (2, .int (sI a189))] [] := by
    intro n186
    induction n186 with
    | zero =>
      intro a189 M190 h191 hM190 fM190
      exfalso; omega
    | succ n186 ih187 =>
      intro a189 M190 h191 hM190 fM190
      refine j_iload_n C 2 2 dX9_copyFrom_10 rfl rfl ?_
      refine y_bipush C dX9_copyFrom_11 rfl ?_
      refine y_icmp_ge C 46 dX9_copyFrom_13 (by decide) (by exact ⟨⟨(by omega), (by omega)⟩, ⟨(by decide), (by decide)⟩⟩) (fun h193 => ?_) (fun h193 => ?_)
      · refine j_aload_n C 0 0 dX9_copyFrom_46 rfl rfl ?_
        refine j_aload_n C 1 1 dX9_copyFrom_47 rfl rfl ?_
        refine y_getI C 8 _ _ fX9_copyFrom_22 rfl rfl ft_8_3 sb_8_3 hM190 dX9_copyFrom_48 (fun a199 ea199 la199 ua199 => ?_)
        obtain rfl : a199 = (M0.1 47 3).toInt := s_fX fM190 (by decide) (ea199)
        refine y_putI C 8 _ _ qX9_copyFrom_22 rfl rfl ft_8_3 sb_8_3 hM190 (PX.w hpr rfl rfl) dX9_copyFrom_51 (by exact ⟨⟨(by (clear h193 fM190 hM190 h191 ih187 u104z hM103 eM103 ua101 la101 hret C hq8_0 hpr hM0; omega)), (by (clear h193 fM190 hM190 h191 ih187 u104z hM103 eM103 ua101 la101 hret C hq8_0 hpr hM0; omega))⟩, ⟨la199, ua199⟩⟩) (fun M201 eM201 hM201 => ?_)
        refine j_aload_n C 0 0 dX9_copyFrom_54 rfl rfl ?_
        refine j_aload_n C 1 1 dX9_copyFrom_55 rfl rfl ?_
        refine y_getI C 8 _ _ fX9_copyFrom_25 rfl rfl ft_8_4 sb_8_4 hM201 dX9_copyFrom_56 (fun a202 ea202 la202 ua202 => ?_)
        obtain rfl : a202 = (M0.1 47 4).toInt := s_fX fM190 (by decide) (s_fa eM201 (by decide) (ea202))
        refine y_putI C 8 _ _ qX9_copyFrom_25 rfl rfl ft_8_4 sb_8_4 hM201 (PX.w hpr rfl rfl) dX9_copyFrom_59 (by exact ⟨⟨(by (clear hM201 eM201 ua199 la199 ea199 h193 fM190 hM190 h191 ih187 u104z hM103 eM103 ua101 la101 hret C hq8_0 hpr hM0; omega)), (by (clear hM201 eM201 ua199 la199 ea199 h193 fM190 hM190 h191 ih187 u104z hM103 eM103 ua101 la101 hret C hq8_0 hpr hM0; omega))⟩, ⟨la202, ua202⟩⟩) (fun M204 eM204 hM204 => ?_)
        refine j_aload_n C 0 0 dX9_copyFrom_62 rfl rfl ?_
        refine j_aload_n C 1 1 dX9_copyFrom_63 rfl rfl ?_
        refine y_getI C 8 _ _ fX9_copyFrom_28 rfl rfl ft_8_5 sb_8_5 hM204 dX9_copyFrom_64 (fun a205 ea205 la205 ua205 => ?_)
        obtain rfl : a205 = (M0.1 47 5).toInt := s_fX fM190 (by decide) (s_fa eM201 (by decide) (s_fa eM204 (by decide) (ea205)))
        refine y_putIF C 8 qX9_copyFrom_28 rfl rfl ft_8_5 sb_8_5 hM204 (PX.w hpr rfl rfl) dX9_copyFrom_67 (fun M207 eM207 hM207 => ?_)
        refine j_aload_n C 0 0 dX9_copyFrom_70 rfl rfl ?_
        refine j_aload_n C 1 1 dX9_copyFrom_71 rfl rfl ?_
        refine y_getI C 8 _ _ fX9_copyFrom_31 rfl rfl ft_8_6 sb_8_6 hM207 dX9_copyFrom_72 (fun a208 ea208 la208 ua208 => ?_)
        obtain rfl : a208 = (M0.1 47 6).toInt := s_fX fM190 (by decide) (s_fa eM201 (by decide) (s_fa eM204 (by decide) (s_fa eM207 (by decide) (ea208))))
        refine y_putIF C 8 qX9_copyFrom_31 rfl rfl ft_8_6 sb_8_6 hM207 (PX.w hpr rfl rfl) dX9_copyFrom_75 (fun M210 eM210 hM210 => ?_)
        refine j_aload_n C 0 0 dX9_copyFrom_78 rfl rfl ?_
        refine j_aload_n C 1 1 dX9_copyFrom_79 rfl rfl ?_
        refine y_getI C 8 _ _ fX9_copyFrom_34 rfl rfl ft_8_7 sb_8_7 hM210 dX9_copyFrom_80 (fun a211 ea211 la211 ua211 => ?_)
        obtain rfl : a211 = (M0.1 47 7).toInt := s_fX fM190 (by decide) (s_fa eM201 (by decide) (s_fa eM204 (by decide) (s_fa eM207 (by decide) (s_fa eM210 (by decide) (ea211)))))
        refine y_putIF C 8 qX9_copyFrom_34 rfl rfl ft_8_7 sb_8_7 hM210 (PX.w hpr rfl rfl) dX9_copyFrom_83 (fun M213 eM213 hM213 => ?_)
        refine j_aload_n C 0 0 dX9_copyFrom_86 rfl rfl ?_
        refine j_aload_n C 1 1 dX9_copyFrom_87 rfl rfl ?_
        refine y_getI C 8 _ _ fX9_copyFrom_37 rfl rfl ft_8_8 sb_8_8 hM213 dX9_copyFrom_88 (fun a214 ea214 la214 ua214 => ?_)
        obtain rfl : a214 = (M0.1 47 8).toInt := s_fX fM190 (by decide) (s_fa eM201 (by decide) (s_fa eM204 (by decide) (s_fa eM207 (by decide) (s_fa eM210 (by decide) (s_fa eM213 (by decide) (ea214))))))
        refine y_putIF C 8 qX9_copyFrom_37 rfl rfl ft_8_8 sb_8_8 hM213 (PX.w hpr rfl rfl) dX9_copyFrom_91 (fun M216 eM216 hM216 => ?_)
        have u217c := cpa_c (M := M190) (M' := M216) (B := M0) (p0 := 13) (p1 := 48) (g0 := 14) (g1 := 49) (n := a189) (n' := 8) (by exact h191.2.2.2.1) ((((((wI_cell eM216 (by decide)).trans (wI_cell eM213 (by decide))).trans (wI_cell eM210 (by decide))).trans (wI_cell eM207 (by decide))).trans (wI_cell eM204 (by decide))).trans (wI_cell eM201 (by decide))) ((((((wI_cell eM216 (by decide)).trans (wI_cell eM213 (by decide))).trans (wI_cell eM210 (by decide))).trans (wI_cell eM207 (by decide))).trans (wI_cell eM204 (by decide))).trans (wI_cell eM201 (by decide))) (by omega)
        have zz12_0 : (M216.1 12 0).toInt = (M190.1 12 0).toInt := s_fb eM201 (by decide) (s_fb eM204 (by decide) (s_fb eM207 (by decide) (s_fb eM210 (by decide) (s_fb eM213 (by decide) (s_fb eM216 (by decide) (rfl))))))
        have zz12_3 := (Eq.trans (s_fb eM204 (by decide) (s_fb eM207 (by decide) (s_fb eM210 (by decide) (s_fb eM213 (by decide) (s_fb eM216 (by decide) (rfl))))) : (M216.1 12 3).toInt = (M201.1 12 3).toInt) (s_wr eM201 (by (clear zz12_0 u217c hM216 eM216 ua214 la214 ea214 hM213 eM213 ua211 la211 ea211 hM210 eM210 ua208 la208 ea208 hM207 eM207 ua205 la205 ea205 hM204 eM204 ua202 la202 ea202 hM201 eM201 h193 fM190 hM190 h191 ih187 u104z hM103 eM103 ua101 la101 hret C hq8_0 hpr hM0; omega))))
        have zz12_4 := (Eq.trans (s_fb eM207 (by decide) (s_fb eM210 (by decide) (s_fb eM213 (by decide) (s_fb eM216 (by decide) (rfl)))) : (M216.1 12 4).toInt = (M204.1 12 4).toInt) (s_wr eM204 (by (clear zz12_3 zz12_0 u217c hM216 eM216 ua214 la214 ea214 hM213 eM213 ua211 la211 ea211 hM210 eM210 ua208 la208 ea208 hM207 eM207 ua205 la205 ea205 hM204 eM204 hM201 eM201 ua199 la199 ea199 h193 fM190 hM190 h191 ih187 u104z hM103 eM103 ua101 la101 hret C hq8_0 hpr hM0; omega))))
        have zz12_5 := (Eq.trans (s_fb eM210 (by decide) (s_fb eM213 (by decide) (s_fb eM216 (by decide) (rfl))) : (M216.1 12 5).toInt = (M207.1 12 5).toInt) (s_wr eM207 (by exact ⟨la205, ua205⟩)))
        have zz12_6 := (Eq.trans (s_fb eM213 (by decide) (s_fb eM216 (by decide) (rfl)) : (M216.1 12 6).toInt = (M210.1 12 6).toInt) (s_wr eM210 (by exact ⟨la208, ua208⟩)))
        have zz12_7 := (Eq.trans (s_fb eM216 (by decide) (rfl) : (M216.1 12 7).toInt = (M213.1 12 7).toInt) (s_wr eM213 (by exact ⟨la211, ua211⟩)))
        have zz12_8 := (Eq.trans (rfl : (M216.1 12 8).toInt = (M216.1 12 8).toInt) (s_wr eM216 (by exact ⟨la214, ua214⟩)))
        have u217k := copy_k (M := M0) (N := M216) (d := 12) (s := 47) (p := 0) (by (clear zz12_8 zz12_7 zz12_6 zz12_5 zz12_4 zz12_3 u217c hM216 eM216 ua214 la214 ea214 hM213 eM213 ua211 la211 ea211 hM210 eM210 ua208 la208 ea208 hM207 eM207 ua205 la205 ea205 hM204 eM204 ua202 la202 ea202 hM201 eM201 ua199 la199 ea199 h193 fM190 hM190 ih187 u104z hM103 eM103 ua101 la101 hret C hq8_0 hpr hM0; omega)) (by exact zz12_3) (by exact zz12_4) (by exact zz12_5) (by exact zz12_6) (by exact zz12_7) (by exact zz12_8) (show b01 (CPA M216 M0 13 48 14 49 8) = 1 from by exact u217c)
        exact hret _ _ _ dX9_copyFrom_94 ⟨hM216, (((((((FX.rf.tr fM190 (by decide)).wI eM201 (by decide)).wI eM204 (by decide)).wI eM207 (by decide)).wI eM210 (by decide)).wI eM213 (by decide)).wI eM216 (by decide)), by exact u217k⟩
      · refine j_aload_n C 0 0 dX9_copyFrom_16 rfl rfl ?_
        refine y_getC C 8 13 fX9_copyFrom_15 rfl rfl ft_8_1 sm_8_1 rfl hM190 dX9_copyFrom_17 ?_
        refine j_iload_n C 2 2 dX9_copyFrom_20 rfl rfl ?_
        refine j_aload_n C 1 1 dX9_copyFrom_21 rfl rfl ?_
        refine y_getC C 8 48 fX9_copyFrom_15 rfl rfl ft_8_1 sm_8_1 rfl hM190 dX9_copyFrom_22 ?_
        refine j_iload_n C 2 2 dX9_copyFrom_25 rfl rfl ?_
        refine y_iald C 25 8 _ _ rfl rfl rfl ak_25 an_25 rfl (sb_25 _) hM190 dX9_copyFrom_26 (by exact ⟨h191.1, (by omega)⟩) (fun a194 ea194 la194 ua194 => ?_)
        obtain rfl : a194 = (M0.1 48 (a189).toNat).toInt := s_fX fM190 (by decide) (ea194)
        refine y_iastF C 25 8 rfl rfl rfl ak_25 an_25 rfl (sb_25 _) hM190 (PX.w hpr rfl rfl) dX9_copyFrom_27 (by exact ⟨h191.1, (by omega)⟩) (fun M195 eM195 hM195 => ?_)
        refine j_aload_n C 0 0 dX9_copyFrom_28 rfl rfl ?_
        refine y_getC C 8 14 fX9_copyFrom_19 rfl rfl ft_8_2 sm_8_2 rfl hM195 dX9_copyFrom_29 ?_
        refine j_iload_n C 2 2 dX9_copyFrom_32 rfl rfl ?_
        refine j_aload_n C 1 1 dX9_copyFrom_33 rfl rfl ?_
        refine y_getC C 8 49 fX9_copyFrom_19 rfl rfl ft_8_2 sm_8_2 rfl hM195 dX9_copyFrom_34 ?_
        refine j_iload_n C 2 2 dX9_copyFrom_37 rfl rfl ?_
        refine y_iald C 26 8 _ _ rfl rfl rfl ak_26 an_26 rfl (sb_26 _) hM195 dX9_copyFrom_38 (by exact ⟨h191.1, (by omega)⟩) (fun a196 ea196 la196 ua196 => ?_)
        obtain rfl : a196 = (M0.1 49 (a189).toNat).toInt := s_fX fM190 (by decide) (s_fa eM195 (by decide) (ea196))
        refine y_iastF C 26 8 rfl rfl rfl ak_26 an_26 rfl (sb_26 _) hM195 (PX.w hpr rfl rfl) dX9_copyFrom_39 (by exact ⟨h191.1, (by omega)⟩) (fun M197 eM197 hM197 => ?_)
        refine y_iinc C 2 [(2, .int (sI (a189 + 1))), (0, .ref (ad 12)), (1, .ref (ad 47))] dX9_copyFrom_40 rfl (by decide) rfl ?_
        refine j_goto C 10 dX9_copyFrom_43 (by decide) ?_
        have u198s := cpa_s (B := M0) (p1 := 48) (g1 := 49) (n := a189) (n' := (a189 + 1)) (by exact h191.2.2.2.1) (by omega) eM195 eM197 (by decide)
        have zz12_0 : (M197.1 12 0).toInt = (M190.1 12 0).toInt := s_fa eM195 (by decide) (s_fa eM197 (by decide) (rfl)); refine j_lv [1, 2, 0] rfl ?_; exact ih187 (a189 + 1) M197 (by exact ⟨(by (clear hM197 eM197 ua196 la196 ea196 hM195 eM195 ua194 la194 ea194 fM190 hM190 ih187 u104z hM103 eM103 ua101 la101 hret C hq8_0 hpr hM0; omega)), ⟨(by (clear hM197 eM197 ua196 la196 ea196 hM195 eM195 ua194 la194 ea194 fM190 hM190 ih187 u104z hM103 eM103 ua101 la101 hret C hq8_0 hpr hM0; omega)), ⟨(by (clear hM197 eM197 ua196 la196 ea196 hM195 eM195 ua194 la194 ea194 fM190 hM190 ih187 u104z hM103 eM103 ua101 la101 hret C hq8_0 hpr hM0; omega)), ⟨u198s, (by (clear hM197 eM197 ua196 la196 ea196 hM195 eM195 ua194 la194 ea194 fM190 hM190 ih187 u104z hM103 eM103 ua101 la101 hret C hq8_0 hpr hM0; omega))⟩⟩⟩⟩) hM197 (((FX.rf.tr fM190 (by decide)).wI eM195 (by decide)).wI eM197 (by decide))
  have zz12_0 := (Eq.trans (rfl : (M103.1 12 0).toInt = (M103.1 12 0).toInt) (s_wr eM103 (by omega))); refine j_lv [1, 2, 0] rfl ?_; exact L188 2010 0 M103 (by exact ⟨(by decide), ⟨(by decide), ⟨zz12_0, ⟨u104z, (by decide)⟩⟩⟩⟩) hM103 (FX.rf.wI eM103 (by decide))
set_option maxHeartbeats 4000000 in
theorem s2_X6_bringBack {l : Launch} {dC : Nat → ClassId} {dI : Nat → Nat → Nat} {ad : Nat → Nat} {cA : Nat → ClassId} {pr : Nat → Nat → Bool} {Kz : mm_M} {M0 : mm_M} (hM0 : INV pr Kz M0) (hpr : PX pr) (hq8_0 : ∀ i, s_c i = 8 → pr i 0 = false) (a1 : Int) (ha1 : -2147483648 ≤ a1 ∧ a1 ≤ 2147483647) (hp0 : a1 ≤ (M0.1 18 2).toInt) (hp1 : 1 ≤ a1 ∧ a1 ≤ 10) : Cv l 1 yX6_bringBack wsX6_bringBack dC dI ad cA [.ref (ad 18), .int (sI a1), .ref (ad 12)] M0 (fun M' => INV pr Kz M' ∧ FX [12, 13, 14, 18] M0 M' ∧ (b01 (RGU M0 M' a1 12) = 1)) := by
  refine cv_of (cc := cX6_bringBack) (maxL := 3) (lv := [(0, .ref (ad 18)), (1, .int (sI a1)), (2, .ref (ad 12))]) (by decide) rfl (Nat.le_of_ble_eq_true rfl) rfl ?_
  intro p e s m args below meth c A Q C hret
  refine j_aload_n C 0 0 dX6_bringBack_0 rfl rfl ?_
  refine j_aload_n C 0 0 dX6_bringBack_1 rfl rfl ?_
  refine y_getI C 5 _ _ fX6_bringBack_17 rfl rfl ft_5_1 sb_5_1 hM0 dX6_bringBack_2 (fun a101 ea101 la101 ua101 => ?_)
  obtain rfl : a101 = (M0.1 18 1).toInt := ea101
  refine j_iload_n C 1 1 dX6_bringBack_5 rfl rfl ?_
  refine y_isub C dX6_bringBack_6 ?_
  refine y_bipush C dX6_bringBack_7 rfl ?_
  refine j_callSi C (d := 0) (As := [.int (sI ((M0.1 18 1).toInt - a1)), .int (sI 10)]) (st := [.ref (ad 18)]) (s2_J9_floorMod_7cf53 hM0 ((M0.1 18 1).toInt - a1) (by (clear hret C hp0 hq8_0 hpr hM0; omega))) gX6_bringBack_J9_floorMod_7cf53 rfl hdJ9_floorMod_7cf53s (by decide) (Nat.le_of_ble_eq_true rfl) dX6_bringBack_9 rfl (fun r103 M104 h105 => ?_)
  obtain ⟨a107, rfl, rfl, h106⟩ := h105
  refine y_putI C 5 _ _ qX6_bringBack_17 rfl rfl ft_5_1 sb_5_1 hM0 (PX.w hpr rfl rfl) dX6_bringBack_12 (by exact ⟨⟨(by (clear ua101 la101 hret C hp1 hp0 ha1 hq8_0 hpr hM0; omega)), (by (clear ua101 la101 hret C hp1 hp0 ha1 hq8_0 hpr hM0; omega))⟩, ⟨h106.1, h106.2.1⟩⟩) (fun M108 eM108 hM108 => ?_)
  refine j_aload_n C 0 0 dX6_bringBack_15 rfl rfl ?_
  refine j_dup C dX6_bringBack_16 rfl ?_
  refine y_getI C 5 _ _ fX6_bringBack_21 rfl rfl ft_5_2 sb_5_2 hM108 dX6_bringBack_17 (fun a109 ea109 la109 ua109 => ?_)
  obtain rfl : a109 = (M0.1 18 2).toInt := s_fb eM108 (by decide) (ea109)
  refine j_iload_n C 1 1 dX6_bringBack_20 rfl rfl ?_
  refine y_isub C dX6_bringBack_21 ?_
  refine y_putI C 5 _ _ qX6_bringBack_21 rfl rfl ft_5_2 sb_5_2 hM108 (PX.w hpr rfl rfl) dX6_bringBack_22 (by (clear hM108 eM108 ua101 la101 hret C hq8_0 hpr hM0; omega)) (fun M111 eM111 hM111 => ?_)
  refine j_aload_n C 2 2 dX6_bringBack_25 rfl rfl ?_
  refine j_aload_n C 0 0 dX6_bringBack_26 rfl rfl ?_
  refine y_getC C 5 19 fX6_bringBack_11 rfl rfl ft_5_0 sm_5_0 rfl hM111 dX6_bringBack_27 ?_
  refine j_aload_n C 0 0 dX6_bringBack_30 rfl rfl ?_
  refine y_getI C 5 _ _ fX6_bringBack_17 rfl rfl ft_5_1 sb_5_1 hM111 dX6_bringBack_31 (fun a112 ea112 la112 ua112 => ?_)
  obtain rfl : a107 = a112 := ((s_fb eM111 (by decide) (ea112)).trans (s_wr eM108 (by omega))).symm
  rcases (show a107 = 0 ∨ a107 = 1 ∨ a107 = 2 ∨ a107 = 3 ∨ a107 = 4 ∨ a107 = 5 ∨ a107 = 6 ∨ a107 = 7 ∨ a107 = 8 ∨ a107 = 9 by (clear ua112 la112 hM111 eM111 ua109 la109 ea109 hM108 eM108 ua101 la101 hret C hp1 hp0 ha1 hq8_0 hpr hM0; omega)) with h115 | h115 | h115 | h115 | h115 | h115 | h115 | h115 | h115 | h115
  · rw [h115]
    refine y_aaldK C 27 10 8 20 rfl rfl rfl rfl an_27 rfl sma_27 sta_27 (by decide) hM111 dX6_bringBack_34 (by exact ⟨(by decide), (by decide)⟩) rfl ?_
    refine j_callVv C (d := 0) (As := [.ref (ad 20)]) (st := []) 12 (s_lt rfl rfl) (s_kc (c := 8) rfl rfl) (by decide) rfl (s23_X9_copyFrom hM111 hpr hq8_0) gX6_bringBack_X9_copyFrom rfl hdX9_copyFrom (by decide) (Nat.le_of_ble_eq_true rfl) dX6_bringBack_35 rfl (fun M119 h120 => ?_)
    obtain ⟨hM119, fM119, h121⟩ := h120
    have zz18_1 := (Eq.trans (s_fb eM111 (by decide) (s_fX fM119 (by decide) (rfl)) : (M119.1 18 1).toInt = (M108.1 18 1).toInt) (s_wr eM108 (by omega)))
    have zz18_2 := (Eq.trans (s_fX fM119 (by decide) (rfl) : (M119.1 18 2).toInt = (M111.1 18 2).toInt) (s_wr eM111 (by (clear zz18_1 h121 fM119 hM119 ua112 la112 hM111 eM111 hM108 eM108 ua101 la101 hret C hq8_0 hpr hM0; omega))))
    have u122c : skX M119 12 = skX M0 20 := (b01_e (P := skX M119 12 = skX M111 20) (by exact h121)).trans (sk_f (ske_n (((FX.rf.wI eM108 (by decide)).wI eM111 (by decide)) : FX [18] M0 M111) ⟨by decide, by decide, by decide⟩))
    have u122k := rg_u (M := M0) (N := M119) (n := a1) (x := 0) (v := 12) ((((FX.rf.wI eM108 (by decide)).wI eM111 (by decide)).tr fM119 (by decide)) : FX [12, 13, 14, 18] M0 M119) (by decide) (by (clear u122c zz18_2 h121 fM119 hM119 ua112 la112 hM111 eM111 ua109 la109 ea109 hM108 eM108 h106 ua101 la101 hret C hp1 hp0 ha1 hq8_0 hpr hM0; omega)) (by (clear u122c zz18_2 zz18_1 h121 fM119 hM119 ua112 la112 hM111 eM111 ua109 la109 ea109 hM108 eM108 ua101 la101 hret C hp1 hp0 ha1 hq8_0 hpr hM0; omega)) (by exact zz18_2) u122c
    exact hret _ _ _ dX6_bringBack_38 ⟨hM119, (((FX.rf.wI eM108 (by decide)).wI eM111 (by decide)).tr fM119 (by decide)), by exact u122k⟩
  · rw [h115]
    refine y_aaldK C 27 10 8 23 rfl rfl rfl rfl an_27 rfl sma_27 sta_27 (by decide) hM111 dX6_bringBack_34 (by exact ⟨(by decide), (by decide)⟩) rfl ?_
    refine j_callVv C (d := 0) (As := [.ref (ad 23)]) (st := []) 12 (s_lt rfl rfl) (s_kc (c := 8) rfl rfl) (by decide) rfl (s24_X9_copyFrom hM111 hpr hq8_0) gX6_bringBack_X9_copyFrom rfl hdX9_copyFrom (by decide) (Nat.le_of_ble_eq_true rfl) dX6_bringBack_35 rfl (fun M126 h127 => ?_)
    obtain ⟨hM126, fM126, h128⟩ := h127
    have zz18_1 := (Eq.trans (s_fb eM111 (by decide) (s_fX fM126 (by decide) (rfl)) : (M126.1 18 1).toInt = (M108.1 18 1).toInt) (s_wr eM108 (by (clear h128 fM126 hM126 ua112 la112 hM111 eM111 ua109 la109 ea109 hM108 eM108 h106 ua101 la101 hret C hp1 hp0 ha1 hq8_0 hpr hM0; omega))))
    have zz18_2 := (Eq.trans (s_fX fM126 (by decide) (rfl) : (M126.1 18 2).toInt = (M111.1 18 2).toInt) (s_wr eM111 (by (clear zz18_1 h128 fM126 hM126 ua112 la112 hM111 eM111 hM108 eM108 ua101 la101 hret C hq8_0 hpr hM0; omega))))
    have u129c : skX M126 12 = skX M0 23 := (b01_e (P := skX M126 12 = skX M111 23) (by exact h128)).trans (sk_f (ske_n (((FX.rf.wI eM108 (by decide)).wI eM111 (by decide)) : FX [18] M0 M111) ⟨by decide, by decide, by decide⟩))
    have u129k := rg_u (M := M0) (N := M126) (n := a1) (x := 1) (v := 12) ((((FX.rf.wI eM108 (by decide)).wI eM111 (by decide)).tr fM126 (by decide)) : FX [12, 13, 14, 18] M0 M126) (by decide) (by (clear u129c zz18_2 h128 fM126 hM126 ua112 la112 hM111 eM111 ua109 la109 ea109 hM108 eM108 h106 ua101 la101 hret C hp1 hp0 ha1 hq8_0 hpr hM0; omega)) (by (clear u129c zz18_2 zz18_1 h128 fM126 hM126 ua112 la112 hM111 eM111 ua109 la109 ea109 hM108 eM108 ua101 la101 hret C hp1 hp0 ha1 hq8_0 hpr hM0; omega)) (by exact zz18_2) u129c
    exact hret _ _ _ dX6_bringBack_38 ⟨hM126, (((FX.rf.wI eM108 (by decide)).wI eM111 (by decide)).tr fM126 (by decide)), by exact u129k⟩
  · rw [h115]
    refine y_aaldK C 27 10 8 26 rfl rfl rfl rfl an_27 rfl sma_27 sta_27 (by decide) hM111 dX6_bringBack_34 (by exact ⟨(by decide), (by decide)⟩) rfl ?_
    refine j_callVv C (d := 0) (As := [.ref (ad 26)]) (st := []) 12 (s_lt rfl rfl) (s_kc (c := 8) rfl rfl) (by decide) rfl (s25_X9_copyFrom hM111 hpr hq8_0) gX6_bringBack_X9_copyFrom rfl hdX9_copyFrom (by decide) (Nat.le_of_ble_eq_true rfl) dX6_bringBack_35 rfl (fun M133 h134 => ?_)
    obtain ⟨hM133, fM133, h135⟩ := h134
    have zz18_1 := (Eq.trans (s_fb eM111 (by decide) (s_fX fM133 (by decide) (rfl)) : (M133.1 18 1).toInt = (M108.1 18 1).toInt) (s_wr eM108 (by (clear h135 fM133 hM133 ua112 la112 hM111 eM111 ua109 la109 ea109 hM108 eM108 h106 ua101 la101 hret C hp1 hp0 ha1 hq8_0 hpr hM0; omega))))
    have zz18_2 := (Eq.trans (s_fX fM133 (by decide) (rfl) : (M133.1 18 2).toInt = (M111.1 18 2).toInt) (s_wr eM111 (by (clear zz18_1 h135 fM133 hM133 ua112 la112 hM111 eM111 hM108 eM108 ua101 la101 hret C hq8_0 hpr hM0; omega))))
    have u136c : skX M133 12 = skX M0 26 := (b01_e (P := skX M133 12 = skX M111 26) (by exact h135)).trans (sk_f (ske_n (((FX.rf.wI eM108 (by decide)).wI eM111 (by decide)) : FX [18] M0 M111) ⟨by decide, by decide, by decide⟩))
    have u136k := rg_u (M := M0) (N := M133) (n := a1) (x := 2) (v := 12) ((((FX.rf.wI eM108 (by decide)).wI eM111 (by decide)).tr fM133 (by decide)) : FX [12, 13, 14, 18] M0 M133) (by decide) (by (clear u136c zz18_2 h135 fM133 hM133 ua112 la112 hM111 eM111 ua109 la109 ea109 hM108 eM108 h106 ua101 la101 hret C hp1 hp0 ha1 hq8_0 hpr hM0; omega)) (by (clear u136c zz18_2 zz18_1 h135 fM133 hM133 ua112 la112 hM111 eM111 ua109 la109 ea109 hM108 eM108 ua101 la101 hret C hp1 hp0 ha1 hq8_0 hpr hM0; omega)) (by exact zz18_2) u136c
    exact hret _ _ _ dX6_bringBack_38 ⟨hM133, (((FX.rf.wI eM108 (by decide)).wI eM111 (by decide)).tr fM133 (by decide)), by exact u136k⟩
  · rw [h115]
    refine y_aaldK C 27 10 8 29 rfl rfl rfl rfl an_27 rfl sma_27 sta_27 (by decide) hM111 dX6_bringBack_34 (by exact ⟨(by decide), (by decide)⟩) rfl ?_
    refine j_callVv C (d := 0) (As := [.ref (ad 29)]) (st := []) 12 (s_lt rfl rfl) (s_kc (c := 8) rfl rfl) (by decide) rfl (s26_X9_copyFrom hM111 hpr hq8_0) gX6_bringBack_X9_copyFrom rfl hdX9_copyFrom (by decide) (Nat.le_of_ble_eq_true rfl) dX6_bringBack_35 rfl (fun M140 h141 => ?_)
    obtain ⟨hM140, fM140, h142⟩ := h141
    have zz18_1 := (Eq.trans (s_fb eM111 (by decide) (s_fX fM140 (by decide) (rfl)) : (M140.1 18 1).toInt = (M108.1 18 1).toInt) (s_wr eM108 (by (clear h142 fM140 hM140 ua112 la112 hM111 eM111 ua109 la109 ea109 hM108 eM108 h106 ua101 la101 hret C hp1 hp0 ha1 hq8_0 hpr hM0; omega))))
    have zz18_2 := (Eq.trans (s_fX fM140 (by decide) (rfl) : (M140.1 18 2).toInt = (M111.1 18 2).toInt) (s_wr eM111 (by (clear zz18_1 h142 fM140 hM140 ua112 la112 hM111 eM111 hM108 eM108 ua101 la101 hret C hq8_0 hpr hM0; omega))))
    have u143c : skX M140 12 = skX M0 29 := (b01_e (P := skX M140 12 = skX M111 29) (by exact h142)).trans (sk_f (ske_n (((FX.rf.wI eM108 (by decide)).wI eM111 (by decide)) : FX [18] M0 M111) ⟨by decide, by decide, by decide⟩))
    have u143k := rg_u (M := M0) (N := M140) (n := a1) (x := 3) (v := 12) ((((FX.rf.wI eM108 (by decide)).wI eM111 (by decide)).tr fM140 (by decide)) : FX [12, 13, 14, 18] M0 M140) (by decide) (by (clear u143c zz18_2 h142 fM140 hM140 ua112 la112 hM111 eM111 ua109 la109 ea109 hM108 eM108 h106 ua101 la101 hret C hp1 hp0 ha1 hq8_0 hpr hM0; omega)) (by (clear u143c zz18_2 zz18_1 h142 fM140 hM140 ua112 la112 hM111 eM111 ua109 la109 ea109 hM108 eM108 ua101 la101 hret C hp1 hp0 ha1 hq8_0 hpr hM0; omega)) (by exact zz18_2) u143c
    exact hret _ _ _ dX6_bringBack_38 ⟨hM140, (((FX.rf.wI eM108 (by decide)).wI eM111 (by decide)).tr fM140 (by decide)), by exact u143k⟩
  · rw [h115]
    refine y_aaldK C 27 10 8 32 rfl rfl rfl rfl an_27 rfl sma_27 sta_27 (by decide) hM111 dX6_bringBack_34 (by exact ⟨(by decide), (by decide)⟩) rfl ?_
    refine j_callVv C (d := 0) (As := [.ref (ad 32)]) (st := []) 12 (s_lt rfl rfl) (s_kc (c := 8) rfl rfl) (by decide) rfl (s27_X9_copyFrom hM111 hpr hq8_0) gX6_bringBack_X9_copyFrom rfl hdX9_copyFrom (by decide) (Nat.le_of_ble_eq_true rfl) dX6_bringBack_35 rfl (fun M147 h148 => ?_)
    obtain ⟨hM147, fM147, h149⟩ := h148
    have zz18_1 := (Eq.trans (s_fb eM111 (by decide) (s_fX fM147 (by decide) (rfl)) : (M147.1 18 1).toInt = (M108.1 18 1).toInt) (s_wr eM108 (by (clear h149 fM147 hM147 ua112 la112 hM111 eM111 ua109 la109 ea109 hM108 eM108 h106 ua101 la101 hret C hp1 hp0 ha1 hq8_0 hpr hM0; omega))))
    have zz18_2 := (Eq.trans (s_fX fM147 (by decide) (rfl) : (M147.1 18 2).toInt = (M111.1 18 2).toInt) (s_wr eM111 (by (clear zz18_1 h149 fM147 hM147 ua112 la112 hM111 eM111 hM108 eM108 ua101 la101 hret C hq8_0 hpr hM0; omega))))
    have u150c : skX M147 12 = skX M0 32 := (b01_e (P := skX M147 12 = skX M111 32) (by exact h149)).trans (sk_f (ske_n (((FX.rf.wI eM108 (by decide)).wI eM111 (by decide)) : FX [18] M0 M111) ⟨by decide, by decide, by decide⟩))
    have u150k := rg_u (M := M0) (N := M147) (n := a1) (x := 4) (v := 12) ((((FX.rf.wI eM108 (by decide)).wI eM111 (by decide)).tr fM147 (by decide)) : FX [12, 13, 14, 18] M0 M147) (by decide) (by (clear u150c zz18_2 h149 fM147 hM147 ua112 la112 hM111 eM111 ua109 la109 ea109 hM108 eM108 h106 ua101 la101 hret C hp1 hp0 ha1 hq8_0 hpr hM0; omega)) (by (clear u150c zz18_2 zz18_1 h149 fM147 hM147 ua112 la112 hM111 eM111 ua109 la109 ea109 hM108 eM108 ua101 la101 hret C hp1 hp0 ha1 hq8_0 hpr hM0; omega)) (by exact zz18_2) u150c
    exact hret _ _ _ dX6_bringBack_38 ⟨hM147, (((FX.rf.wI eM108 (by decide)).wI eM111 (by decide)).tr fM147 (by decide)), by exact u150k⟩
  · rw [h115]
    refine y_aaldK C 27 10 8 35 rfl rfl rfl rfl an_27 rfl sma_27 sta_27 (by decide) hM111 dX6_bringBack_34 (by exact ⟨(by decide), (by decide)⟩) rfl ?_
    refine j_callVv C (d := 0) (As := [.ref (ad 35)]) (st := []) 12 (s_lt rfl rfl) (s_kc (c := 8) rfl rfl) (by decide) rfl (s28_X9_copyFrom hM111 hpr hq8_0) gX6_bringBack_X9_copyFrom rfl hdX9_copyFrom (by decide) (Nat.le_of_ble_eq_true rfl) dX6_bringBack_35 rfl (fun M154 h155 => ?_)
    obtain ⟨hM154, fM154, h156⟩ := h155
    have zz18_1 := (Eq.trans (s_fb eM111 (by decide) (s_fX fM154 (by decide) (rfl)) : (M154.1 18 1).toInt = (M108.1 18 1).toInt) (s_wr eM108 (by (clear h156 fM154 hM154 ua112 la112 hM111 eM111 ua109 la109 ea109 hM108 eM108 h106 ua101 la101 hret C hp1 hp0 ha1 hq8_0 hpr hM0; omega))))
    have zz18_2 := (Eq.trans (s_fX fM154 (by decide) (rfl) : (M154.1 18 2).toInt = (M111.1 18 2).toInt) (s_wr eM111 (by (clear zz18_1 h156 fM154 hM154 ua112 la112 hM111 eM111 hM108 eM108 ua101 la101 hret C hq8_0 hpr hM0; omega))))
    have u157c : skX M154 12 = skX M0 35 := (b01_e (P := skX M154 12 = skX M111 35) (by exact h156)).trans (sk_f (ske_n (((FX.rf.wI eM108 (by decide)).wI eM111 (by decide)) : FX [18] M0 M111) ⟨by decide, by decide, by decide⟩))
    have u157k := rg_u (M := M0) (N := M154) (n := a1) (x := 5) (v := 12) ((((FX.rf.wI eM108 (by decide)).wI eM111 (by decide)).tr fM154 (by decide)) : FX [12, 13, 14, 18] M0 M154) (by decide) (by (clear u157c zz18_2 h156 fM154 hM154 ua112 la112 hM111 eM111 ua109 la109 ea109 hM108 eM108 h106 ua101 la101 hret C hp1 hp0 ha1 hq8_0 hpr hM0; omega)) (by (clear u157c zz18_2 zz18_1 h156 fM154 hM154 ua112 la112 hM111 eM111 ua109 la109 ea109 hM108 eM108 ua101 la101 hret C hp1 hp0 ha1 hq8_0 hpr hM0; omega)) (by exact zz18_2) u157c
    exact hret _ _ _ dX6_bringBack_38 ⟨hM154, (((FX.rf.wI eM108 (by decide)).wI eM111 (by decide)).tr fM154 (by decide)), by exact u157k⟩
  · rw [h115]
    refine y_aaldK C 27 10 8 38 rfl rfl rfl rfl an_27 rfl sma_27 sta_27 (by decide) hM111 dX6_bringBack_34 (by exact ⟨(by decide), (by decide)⟩) rfl ?_
    refine j_callVv C (d := 0) (As := [.ref (ad 38)]) (st := []) 12 (s_lt rfl rfl) (s_kc (c := 8) rfl rfl) (by decide) rfl (s29_X9_copyFrom hM111 hpr hq8_0) gX6_bringBack_X9_copyFrom rfl hdX9_copyFrom (by decide) (Nat.le_of_ble_eq_true rfl) dX6_bringBack_35 rfl (fun M161 h162 => ?_)
    obtain ⟨hM161, fM161, h163⟩ := h162
    have zz18_1 := (Eq.trans (s_fb eM111 (by decide) (s_fX fM161 (by decide) (rfl)) : (M161.1 18 1).toInt = (M108.1 18 1).toInt) (s_wr eM108 (by (clear h163 fM161 hM161 ua112 la112 hM111 eM111 ua109 la109 ea109 hM108 eM108 h106 ua101 la101 hret C hp1 hp0 ha1 hq8_0 hpr hM0; omega))))
    have zz18_2 := (Eq.trans (s_fX fM161 (by decide) (rfl) : (M161.1 18 2).toInt = (M111.1 18 2).toInt) (s_wr eM111 (by (clear zz18_1 h163 fM161 hM161 ua112 la112 hM111 eM111 hM108 eM108 ua101 la101 hret C hq8_0 hpr hM0; omega))))
    have u164c : skX M161 12 = skX M0 38 := (b01_e (P := skX M161 12 = skX M111 38) (by exact h163)).trans (sk_f (ske_n (((FX.rf.wI eM108 (by decide)).wI eM111 (by decide)) : FX [18] M0 M111) ⟨by decide, by decide, by decide⟩))
    have u164k := rg_u (M := M0) (N := M161) (n := a1) (x := 6) (v := 12) ((((FX.rf.wI eM108 (by decide)).wI eM111 (by decide)).tr fM161 (by decide)) : FX [12, 13, 14, 18] M0 M161) (by decide) (by (clear u164c zz18_2 h163 fM161 hM161 ua112 la112 hM111 eM111 ua109 la109 ea109 hM108 eM108 h106 ua101 la101 hret C hp1 hp0 ha1 hq8_0 hpr hM0; omega)) (by (clear u164c zz18_2 zz18_1 h163 fM161 hM161 ua112 la112 hM111 eM111 ua109 la109 ea109 hM108 eM108 ua101 la101 hret C hp1 hp0 ha1 hq8_0 hpr hM0; omega)) (by exact zz18_2) u164c
    exact hret _ _ _ dX6_bringBack_38 ⟨hM161, (((FX.rf.wI eM108 (by decide)).wI eM111 (by decide)).tr fM161 (by decide)), by exact u164k⟩
  · rw [h115]
    refine y_aaldK C 27 10 8 41 rfl rfl rfl rfl an_27 rfl sma_27 sta_27 (by decide) hM111 dX6_bringBack_34 (by exact ⟨(by decide), (by decide)⟩) rfl ?_
    refine j_callVv C (d := 0) (As := [.ref (ad 41)]) (st := []) 12 (s_lt rfl rfl) (s_kc (c := 8) rfl rfl) (by decide) rfl (s30_X9_copyFrom hM111 hpr hq8_0) gX6_bringBack_X9_copyFrom rfl hdX9_copyFrom (by decide) (Nat.le_of_ble_eq_true rfl) dX6_bringBack_35 rfl (fun M168 h169 => ?_)
    obtain ⟨hM168, fM168, h170⟩ := h169
    have zz18_1 := (Eq.trans (s_fb eM111 (by decide) (s_fX fM168 (by decide) (rfl)) : (M168.1 18 1).toInt = (M108.1 18 1).toInt) (s_wr eM108 (by (clear h170 fM168 hM168 ua112 la112 hM111 eM111 ua109 la109 ea109 hM108 eM108 h106 ua101 la101 hret C hp1 hp0 ha1 hq8_0 hpr hM0; omega))))
    have zz18_2 := (Eq.trans (s_fX fM168 (by decide) (rfl) : (M168.1 18 2).toInt = (M111.1 18 2).toInt) (s_wr eM111 (by (clear zz18_1 h170 fM168 hM168 ua112 la112 hM111 eM111 hM108 eM108 ua101 la101 hret C hq8_0 hpr hM0; omega))))
    have u171c : skX M168 12 = skX M0 41 := (b01_e (P := skX M168 12 = skX M111 41) (by exact h170)).trans (sk_f (ske_n (((FX.rf.wI eM108 (by decide)).wI eM111 (by decide)) : FX [18] M0 M111) ⟨by decide, by decide, by decide⟩))
    have u171k := rg_u (M := M0) (N := M168) (n := a1) (x := 7) (v := 12) ((((FX.rf.wI eM108 (by decide)).wI eM111 (by decide)).tr fM168 (by decide)) : FX [12, 13, 14, 18] M0 M168) (by decide) (by (clear u171c zz18_2 h170 fM168 hM168 ua112 la112 hM111 eM111 ua109 la109 ea109 hM108 eM108 h106 ua101 la101 hret C hp1 hp0 ha1 hq8_0 hpr hM0; omega)) (by (clear u171c zz18_2 zz18_1 h170 fM168 hM168 ua112 la112 hM111 eM111 ua109 la109 ea109 hM108 eM108 ua101 la101 hret C hp1 hp0 ha1 hq8_0 hpr hM0; omega)) (by exact zz18_2) u171c
    exact hret _ _ _ dX6_bringBack_38 ⟨hM168, (((FX.rf.wI eM108 (by decide)).wI eM111 (by decide)).tr fM168 (by decide)), by exact u171k⟩
  · rw [h115]
    refine y_aaldK C 27 10 8 44 rfl rfl rfl rfl an_27 rfl sma_27 sta_27 (by decide) hM111 dX6_bringBack_34 (by exact ⟨(by decide), (by decide)⟩) rfl ?_
    refine j_callVv C (d := 0) (As := [.ref (ad 44)]) (st := []) 12 (s_lt rfl rfl) (s_kc (c := 8) rfl rfl) (by decide) rfl (s31_X9_copyFrom hM111 hpr hq8_0) gX6_bringBack_X9_copyFrom rfl hdX9_copyFrom (by decide) (Nat.le_of_ble_eq_true rfl) dX6_bringBack_35 rfl (fun M175 h176 => ?_)
    obtain ⟨hM175, fM175, h177⟩ := h176
    have zz18_1 := (Eq.trans (s_fb eM111 (by decide) (s_fX fM175 (by decide) (rfl)) : (M175.1 18 1).toInt = (M108.1 18 1).toInt) (s_wr eM108 (by (clear h177 fM175 hM175 ua112 la112 hM111 eM111 ua109 la109 ea109 hM108 eM108 h106 ua101 la101 hret C hp1 hp0 ha1 hq8_0 hpr hM0; omega))))
    have zz18_2 := (Eq.trans (s_fX fM175 (by decide) (rfl) : (M175.1 18 2).toInt = (M111.1 18 2).toInt) (s_wr eM111 (by (clear zz18_1 h177 fM175 hM175 ua112 la112 hM111 eM111 hM108 eM108 ua101 la101 hret C hq8_0 hpr hM0; omega))))
    have u178c : skX M175 12 = skX M0 44 := (b01_e (P := skX M175 12 = skX M111 44) (by exact h177)).trans (sk_f (ske_n (((FX.rf.wI eM108 (by decide)).wI eM111 (by decide)) : FX [18] M0 M111) ⟨by decide, by decide, by decide⟩))
    have u178k := rg_u (M := M0) (N := M175) (n := a1) (x := 8) (v := 12) ((((FX.rf.wI eM108 (by decide)).wI eM111 (by decide)).tr fM175 (by decide)) : FX [12, 13, 14, 18] M0 M175) (by decide) (by (clear u178c zz18_2 h177 fM175 hM175 ua112 la112 hM111 eM111 ua109 la109 ea109 hM108 eM108 h106 ua101 la101 hret C hp1 hp0 ha1 hq8_0 hpr hM0; omega)) (by (clear u178c zz18_2 zz18_1 h177 fM175 hM175 ua112 la112 hM111 eM111 ua109 la109 ea109 hM108 eM108 ua101 la101 hret C hp1 hp0 ha1 hq8_0 hpr hM0; omega)) (by exact zz18_2) u178c
    exact hret _ _ _ dX6_bringBack_38 ⟨hM175, (((FX.rf.wI eM108 (by decide)).wI eM111 (by decide)).tr fM175 (by decide)), by exact u178k⟩
  · rw [h115]
    refine y_aaldK C 27 10 8 47 rfl rfl rfl rfl an_27 rfl sma_27 sta_27 (by decide) hM111 dX6_bringBack_34 (by exact ⟨(by decide), (by decide)⟩) rfl ?_
    refine j_callVv C (d := 0) (As := [.ref (ad 47)]) (st := []) 12 (s_lt rfl rfl) (s_kc (c := 8) rfl rfl) (by decide) rfl (s32_X9_copyFrom hM111 hpr hq8_0) gX6_bringBack_X9_copyFrom rfl hdX9_copyFrom (by decide) (Nat.le_of_ble_eq_true rfl) dX6_bringBack_35 rfl (fun M182 h183 => ?_)
    obtain ⟨hM182, fM182, h184⟩ := h183
    have zz18_1 := (Eq.trans (s_fb eM111 (by decide) (s_fX fM182 (by decide) (rfl)) : (M182.1 18 1).toInt = (M108.1 18 1).toInt) (s_wr eM108 (by (clear h184 fM182 hM182 ua112 la112 hM111 eM111 ua109 la109 ea109 hM108 eM108 h106 ua101 la101 hret C hp1 hp0 ha1 hq8_0 hpr hM0; omega))))
    have zz18_2 := (Eq.trans (s_fX fM182 (by decide) (rfl) : (M182.1 18 2).toInt = (M111.1 18 2).toInt) (s_wr eM111 (by (clear zz18_1 h184 fM182 hM182 ua112 la112 hM111 eM111 hM108 eM108 ua101 la101 hret C hq8_0 hpr hM0; omega))))
    have u185c : skX M182 12 = skX M0 47 := (b01_e (P := skX M182 12 = skX M111 47) (by exact h184)).trans (sk_f (ske_n (((FX.rf.wI eM108 (by decide)).wI eM111 (by decide)) : FX [18] M0 M111) ⟨by decide, by decide, by decide⟩))
    have u185k := rg_u (M := M0) (N := M182) (n := a1) (x := 9) (v := 12) ((((FX.rf.wI eM108 (by decide)).wI eM111 (by decide)).tr fM182 (by decide)) : FX [12, 13, 14, 18] M0 M182) (by decide) (by (clear u185c zz18_2 h184 fM182 hM182 ua112 la112 hM111 eM111 ua109 la109 ea109 hM108 eM108 h106 ua101 la101 hret C hp1 hp0 ha1 hq8_0 hpr hM0; omega)) (by (clear u185c zz18_2 zz18_1 h184 fM182 hM182 ua112 la112 hM111 eM111 ua109 la109 ea109 hM108 eM108 ua101 la101 hret C hp1 hp0 ha1 hq8_0 hpr hM0; omega)) (by exact zz18_2) u185c
    exact hret _ _ _ dX6_bringBack_38 ⟨hM182, (((FX.rf.wI eM108 (by decide)).wI eM111 (by decide)).tr fM182 (by decide)), by exact u185k⟩
set_option maxHeartbeats 4000000 in
theorem s2_X11_undo {l : Launch} {dC : Nat → ClassId} {dI : Nat → Nat → Nat} {ad : Nat → Nat} {cA : Nat → ClassId} {pr : Nat → Nat → Bool} {Kz : mm_M} {M0 : mm_M} (hM0 : INV pr Kz M0) (hpr : PX pr) (hq8_0 : ∀ i, s_c i = 8 → pr i 0 = false) (a1 : Int) (ha1 : -2147483648 ≤ a1 ∧ a1 ≤ 2147483647) (gp : Nat) (cgp : s_c gp = 6) (egp : gp = M0.2.2 0 4) (hp0 : b01 (APX M0 gp) = 1) : Ci l 2 yX11_undo wsX11_undo dC dI ad cA [.ref (ad 0), .int (sI a1)] M0 (fun r M' => ∃ a : Int, r = sI a ∧ INV pr Kz M' ∧ FX [12, 13, 14, 18] M0 M' ∧ (-3) ≤ a ∧ a ≤ 10 ∧ ((1 ≤ a1 ∧ a1 ≤ (M0.1 18 2).toInt) ∧ a = (M0.1 18 2).toInt - a1 ∧ b01 (RGU M0 M' a1 12) = 1 ∨ (a1 < 1 ∨ (M0.1 18 2).toInt < a1) ∧ a = -3 ∧ b01 (RG0 M0 M') = 1 ∧ b01 (rwX M' gp 12 = (rwX M0 gp 12)) = 1) ∧ (b01 (APX M' gp) = 1)) := by
  refine ci_of (cc := cX11_undo) (maxL := 2) (ty := .int) (lv := [(0, .ref (ad 0)), (1, .int (sI a1))]) (by decide) rfl (fun r M' hp => rfl) (Nat.le_of_ble_eq_true rfl) rfl ?_
  intro p e s m args below meth c A Q C hret
  refine j_iload_n C 1 1 dX11_undo_0 rfl rfl ?_
  refine y_iconst C dX11_undo_1 ?_
  refine y_icmp_lt C 16 dX11_undo_2 (by decide) (by exact ⟨⟨ha1.1, ha1.2⟩, ⟨(by decide), (by decide)⟩⟩) (fun h101 => ?_) (fun h101 => ?_)
  · refine y_bipush C dX11_undo_16 rfl ?_
    have u102k : b01 (rwX M0 gp 12 = rwX M0 gp 12) = 1 := b01_i rfl
    have u102g := rg_s M0
    exact hret _ _ _ _ dX11_undo_18 ⟨(-3), rfl, hM0, FX.rf, by exact ⟨(by decide), ⟨(by decide), ⟨(by (clear hret C egp cgp hq8_0 hpr hM0; omega)), hp0⟩⟩⟩⟩
  · refine j_iload_n C 1 1 dX11_undo_5 rfl rfl ?_
    refine j_aload_n C 0 0 dX11_undo_6 rfl rfl ?_
    refine y_getC C 10 18 fX11_undo_46 rfl rfl ft_10_8 sm_10_8 rfl hM0 dX11_undo_7 ?_
    refine y_getI C 5 _ _ fX11_undo_225 rfl rfl ft_5_2 sb_5_2 hM0 dX11_undo_10 (fun a103 ea103 la103 ua103 => ?_)
    obtain rfl : a103 = (M0.1 18 2).toInt := ea103
    refine y_icmp_le C 19 dX11_undo_13 (by decide) (by exact ⟨⟨ha1.1, ha1.2⟩, ⟨(by (clear hret C hp0 egp cgp hq8_0 hpr hM0; omega)), (by (clear hret C hp0 egp cgp hq8_0 hpr hM0; omega))⟩⟩) (fun h105 => ?_) (fun h105 => ?_)
    · refine j_aload_n C 0 0 dX11_undo_19 rfl rfl ?_
      refine y_getC C 10 18 fX11_undo_46 rfl rfl ft_10_8 sm_10_8 rfl hM0 dX11_undo_20 ?_
      refine j_iload_n C 1 1 dX11_undo_23 rfl rfl ?_
      refine j_aload_n C 0 0 dX11_undo_24 rfl rfl ?_
      refine y_getC C 10 12 fX11_undo_36 rfl rfl ft_10_6 sm_10_6 rfl hM0 dX11_undo_25 ?_
      refine j_callVv C (d := 1) (As := [.int (sI a1), .ref (ad 12)]) (st := []) 18 (s_lt rfl rfl) (s_kc (c := 5) rfl rfl) (by decide) rfl (s2_X6_bringBack hM0 hpr hq8_0 a1 (by exact ⟨ha1.1, ha1.2⟩) (by exact h105) (by (clear hret C hp0 egp cgp hq8_0 hpr hM0; omega))) gX11_undo_X6_bringBack rfl hdX6_bringBack (by decide) (Nat.le_of_ble_eq_true rfl) dX11_undo_28 rfl (fun M107 h108 => ?_)
      obtain ⟨hM107, fM107, h109⟩ := h108
      refine j_aload_n C 0 0 dX11_undo_31 rfl rfl ?_
      refine y_getC C 10 18 fX11_undo_46 rfl rfl ft_10_8 sm_10_8 rfl hM107 dX11_undo_32 ?_
      refine y_getI C 5 _ _ fX11_undo_225 rfl rfl ft_5_2 sb_5_2 hM107 dX11_undo_35 (fun a110 ea110 la110 ua110 => ?_)
      obtain rfl : a110 = (M107.1 18 2).toInt := ea110
      have u112A7 := hM0.rd (i := gp) (c := 6) (k := 7) cgp (show s_b 6 7 = (0, 900) from rfl)
      have u112A9 := hM0.rd (i := gp) (c := 6) (k := 9) cgp (show s_b 6 9 = (0, 900) from rfl)
      have u112A := apx_o (M := M0) (N := M107) (p := gp) (ple_f (p := gp) ((FX.rf.tr fM107 (by decide)) : FX [12, 13, 14, 18] M0 M107) cgp (by decide)) (((FX.rf.tr fM107 (by decide)) : FX [12, 13, 14, 18] M0 M107).cell (by decide)) (((FX.rf.tr fM107 (by decide)) : FX [12, 13, 14, 18] M0 M107).cell (by decide)) (((FX.rf.tr fM107 (by decide)) : FX [12, 13, 14, 18] M0 M107).cell (by decide)) u112A7.1 u112A9.1 (by exact hp0)
      have u112z : (M107.1 18 2).toInt = (M0.1 18 2).toInt - a1 := (b01_e (P := RGU M0 M107 a1 12) (by exact h109)).2.1
      exact hret _ _ _ _ dX11_undo_38 ⟨(M107.1 18 2).toInt, rfl, hM107, (FX.rf.tr fM107 (by decide)), by exact ⟨(by (clear u112A9 u112A7 fM107 hM107 h105 ua103 la103 hret C hp0 egp cgp hq8_0 hpr hM0; omega)), ⟨ua110, ⟨(by (clear u112A9 u112A7 fM107 hM107 h105 ua103 la103 hret C hp0 egp cgp hq8_0 hpr hM0; omega)), u112A⟩⟩⟩⟩
    · refine y_bipush C dX11_undo_16 rfl ?_
      have u113k : b01 (rwX M0 gp 12 = rwX M0 gp 12) = 1 := b01_i rfl
      have u113g := rg_s M0
      exact hret _ _ _ _ dX11_undo_18 ⟨(-3), rfl, hM0, FX.rf, by exact ⟨(by decide), ⟨(by decide), ⟨(by (clear ua103 la103 h101 hret C egp cgp ha1 hq8_0 hpr hM0; omega)), hp0⟩⟩⟩⟩
end
