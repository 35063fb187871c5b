set_option maxHeartbeats 4000000 in
theorem s1_X8_goDeeper {l : Launch} {dC : Nat → ClassId} {dI : Nat → Nat → Nat} {ad : Nat → Nat} {cA : Nat → ClassId} {pr : Nat → Nat → Bool} {Kz : mm_M} {M0 : mm_M} (hM0 : INV pr Kz M0) (hpr : PX pr) (gf : Nat → Int) (gn : Int) (gi : Int) (hp0 : ¬ tkF gf gn (psX M0) = 3000) (hp1 : ¬ tkF gf gn (psX M0) = 3001) (hp2 : (M0.1 78 5).toInt = 0) (hp3 : b01 (TKX gf gn M0) = 1) (hp4 : b01 (PO gn gi (M0.1 78 5).toInt (psX M0)) = 1) : Cv l 0 yX8_goDeeper wsX8_goDeeper dC dI ad cA [.ref (ad 78), .int (sI 0)] M0 (fun M' => INV pr Kz M' ∧ FR [78] M0 M' ∧ ((M'.1 78 5).toInt = (M0.1 78 5).toInt ∧ (M'.1 78 6).toInt = (M0.1 78 6).toInt) ∧ (b01 (PO gn (nxF gf gn gi) (M'.1 78 5).toInt (psX M')) = 1) ∧ (b01 (TKX gf gn M') = 1)) := by
  refine cv_of (cc := cX8_goDeeper) (maxL := 2) (lv := [(0, .ref (ad 78)), (1, .int (sI 0))]) (by decide) rfl (Nat.le_of_ble_eq_true rfl) rfl ?_
  intro p e s m args below meth c A Q C hret
  have u101b := tkx_b (f := gf) (n := gn) (M := M0) (by omega)
  refine j_iload_n C 1 1 dX8_goDeeper_0 rfl rfl ?_
  refine y_bipush C dX8_goDeeper_1 rfl ?_
  refine y_icmp_lt C 14 dX8_goDeeper_3 (by decide) (by omega) (fun h102 => ?_) (fun h102 => ?_)
  · refine j_aload_n C 0 0 dX8_goDeeper_14 rfl rfl ?_
    refine j_dup C dX8_goDeeper_15 rfl ?_
    refine y_getI C 7 _ _ fX8_goDeeper_18 rfl rfl ft_7_2 sb_7_2 hM0 dX8_goDeeper_16 (fun a103 ea103 la103 ua103 => ?_)
    refine y_iconst C dX8_goDeeper_19 ?_
    refine y_iadd C dX8_goDeeper_20 ?_
    refine y_putI C 7 _ _ qX8_goDeeper_18 rfl rfl ft_7_2 sb_7_2 hM0 (PX.w hpr rfl rfl) dX8_goDeeper_21 (by omega) (fun M105 eM105 hM105 => ?_)
    have xM105 := tkx_j (f := gf) (n := gn) (gi := gi) eM105 (by omega) (by omega) (by omega) (by omega)
    have zz78_5 : (M105.1 78 5).toInt = (M0.1 78 5).toInt := s_fb eM105 (by decide) (rfl); have zz78_6 : (M105.1 78 6).toInt = (M0.1 78 6).toInt := s_fb eM105 (by decide) (rfl); exact hret _ _ _ dX8_goDeeper_24 ⟨hM105, (FR.rf.wI eM105 (by decide)), by omega⟩
  · exfalso; omega
set_option maxHeartbeats 4000000 in
theorem s2_X8_goDeeper {l : Launch} {dC : Nat → ClassId} {dI : Nat → Nat → Nat} {ad : Nat → Nat} {cA : Nat → ClassId} {pr : Nat → Nat → Bool} {Kz : mm_M} {M0 : mm_M} (hM0 : INV pr Kz M0) (hpr : PX pr) (gf : Nat → Int) (gn : Int) (gi : Int) (hp0 : ¬ tkF gf gn (psX M0) = 3000) (hp1 : ¬ tkF gf gn (psX M0) = 3001) (hp2 : (M0.1 78 5).toInt = 0) (hp3 : b01 (TKX gf gn M0) = 1) (hp4 : b01 (PO gn gi (M0.1 78 5).toInt (psX M0)) = 1) : Cv l 0 yX8_goDeeper wsX8_goDeeper dC dI ad cA [.ref (ad 78), .int (sI 1)] M0 (fun M' => INV pr Kz M' ∧ FR [78] M0 M' ∧ ((M'.1 78 5).toInt = (M0.1 78 5).toInt ∧ (M'.1 78 6).toInt = (M0.1 78 6).toInt) ∧ (b01 (PO gn (nxF gf gn gi) (M'.1 78 5).toInt (psX M')) = 1) ∧ (b01 (TKX gf gn M') = 1)) := by
  refine cv_of (cc := cX8_goDeeper) (maxL := 2) (lv := [(0, .ref (ad 78)), (1, .int (sI 1))]) (by decide) rfl (Nat.le_of_ble_eq_true rfl) rfl ?_
  intro p e s m args below meth c A Q C hret
  have u101b := tkx_b (f := gf) (n := gn) (M := M0) (by omega)
  refine j_iload_n C 1 1 dX8_goDeeper_0 rfl rfl ?_
  refine y_bipush C dX8_goDeeper_1 rfl ?_
  refine y_icmp_lt C 14 dX8_goDeeper_3 (by decide) (by omega) (fun h102 => ?_) (fun h102 => ?_)
  · refine j_aload_n C 0 0 dX8_goDeeper_14 rfl rfl ?_
    refine j_dup C dX8_goDeeper_15 rfl ?_
    refine y_getI C 7 _ _ fX8_goDeeper_18 rfl rfl ft_7_2 sb_7_2 hM0 dX8_goDeeper_16 (fun a103 ea103 la103 ua103 => ?_)
    refine y_iconst C dX8_goDeeper_19 ?_
    refine y_iadd C dX8_goDeeper_20 ?_
    refine y_putI C 7 _ _ qX8_goDeeper_18 rfl rfl ft_7_2 sb_7_2 hM0 (PX.w hpr rfl rfl) dX8_goDeeper_21 (by omega) (fun M105 eM105 hM105 => ?_)
    have xM105 := tkx_j (f := gf) (n := gn) (gi := gi) eM105 (by omega) (by omega) (by omega) (by omega)
    have zz78_5 : (M105.1 78 5).toInt = (M0.1 78 5).toInt := s_fb eM105 (by decide) (rfl); have zz78_6 : (M105.1 78 6).toInt = (M0.1 78 6).toInt := s_fb eM105 (by decide) (rfl); exact hret _ _ _ dX8_goDeeper_24 ⟨hM105, (FR.rf.wI eM105 (by decide)), by omega⟩
  · exfalso; omega
set_option maxHeartbeats 4000000 in
theorem s3_X8_goDeeper {l : Launch} {dC : Nat → ClassId} {dI : Nat → Nat → Nat} {ad : Nat → Nat} {cA : Nat → ClassId} {pr : Nat → Nat → Bool} {Kz : mm_M} {M0 : mm_M} (hM0 : INV pr Kz M0) (hpr : PX pr) (gf : Nat → Int) (gn : Int) (gi : Int) (hp0 : ¬ tkF gf gn (psX M0) = 3000) (hp1 : ¬ tkF gf gn (psX M0) = 3001) (hp2 : (M0.1 78 5).toInt = 0) (hp3 : b01 (TKX gf gn M0) = 1) (hp4 : b01 (PO gn gi (M0.1 78 5).toInt (psX M0)) = 1) : Cv l 0 yX8_goDeeper wsX8_goDeeper dC dI ad cA [.ref (ad 78), .int (sI 2)] M0 (fun M' => INV pr Kz M' ∧ FR [78] M0 M' ∧ ((M'.1 78 5).toInt = (M0.1 78 5).toInt ∧ (M'.1 78 6).toInt = (M0.1 78 6).toInt) ∧ (b01 (PO gn (nxF gf gn gi) (M'.1 78 5).toInt (psX M')) = 1) ∧ (b01 (TKX gf gn M') = 1)) := by
  refine cv_of (cc := cX8_goDeeper) (maxL := 2) (lv := [(0, .ref (ad 78)), (1, .int (sI 2))]) (by decide) rfl (Nat.le_of_ble_eq_true rfl) rfl ?_
  intro p e s m args below meth c A Q C hret
  have u101b := tkx_b (f := gf) (n := gn) (M := M0) (by omega)
  refine j_iload_n C 1 1 dX8_goDeeper_0 rfl rfl ?_
  refine y_bipush C dX8_goDeeper_1 rfl ?_
  refine y_icmp_lt C 14 dX8_goDeeper_3 (by decide) (by omega) (fun h102 => ?_) (fun h102 => ?_)
  · refine j_aload_n C 0 0 dX8_goDeeper_14 rfl rfl ?_
    refine j_dup C dX8_goDeeper_15 rfl ?_
    refine y_getI C 7 _ _ fX8_goDeeper_18 rfl rfl ft_7_2 sb_7_2 hM0 dX8_goDeeper_16 (fun a103 ea103 la103 ua103 => ?_)
    refine y_iconst C dX8_goDeeper_19 ?_
    refine y_iadd C dX8_goDeeper_20 ?_
    refine y_putI C 7 _ _ qX8_goDeeper_18 rfl rfl ft_7_2 sb_7_2 hM0 (PX.w hpr rfl rfl) dX8_goDeeper_21 (by omega) (fun M105 eM105 hM105 => ?_)
    have xM105 := tkx_j (f := gf) (n := gn) (gi := gi) eM105 (by omega) (by omega) (by omega) (by omega)
    have zz78_5 : (M105.1 78 5).toInt = (M0.1 78 5).toInt := s_fb eM105 (by decide) (rfl); have zz78_6 : (M105.1 78 6).toInt = (M0.1 78 6).toInt := s_fb eM105 (by decide) (rfl); exact hret _ _ _ dX8_goDeeper_24 ⟨hM105, (FR.rf.wI eM105 (by decide)), by omega⟩
  · exfalso; omega
set_option maxHeartbeats 4000000 in
theorem s4_X8_goDeeper {l : Launch} {dC : Nat → ClassId} {dI : Nat → Nat → Nat} {ad : Nat → Nat} {cA : Nat → ClassId} {pr : Nat → Nat → Bool} {Kz : mm_M} {M0 : mm_M} (hM0 : INV pr Kz M0) (hpr : PX pr) (gf : Nat → Int) (gn : Int) (gi : Int) (hp0 : ¬ tkF gf gn (psX M0) = 3000) (hp1 : ¬ tkF gf gn (psX M0) = 3001) (hp2 : (M0.1 78 5).toInt = 0) (hp3 : b01 (TKX gf gn M0) = 1) (hp4 : b01 (PO gn gi (M0.1 78 5).toInt (psX M0)) = 1) : Cv l 0 yX8_goDeeper wsX8_goDeeper dC dI ad cA [.ref (ad 78), .int (sI 3)] M0 (fun M' => INV pr Kz M' ∧ FR [78] M0 M' ∧ ((M'.1 78 5).toInt = (M0.1 78 5).toInt ∧ (M'.1 78 6).toInt = (M0.1 78 6).toInt) ∧ (b01 (PO gn (nxF gf gn gi) (M'.1 78 5).toInt (psX M')) = 1) ∧ (b01 (TKX gf gn M') = 1)) := by
  refine cv_of (cc := cX8_goDeeper) (maxL := 2) (lv := [(0, .ref (ad 78)), (1, .int (sI 3))]) (by decide) rfl (Nat.le_of_ble_eq_true rfl) rfl ?_
  intro p e s m args below meth c A Q C hret
  have u101b := tkx_b (f := gf) (n := gn) (M := M0) (by omega)
  refine j_iload_n C 1 1 dX8_goDeeper_0 rfl rfl ?_
  refine y_bipush C dX8_goDeeper_1 rfl ?_
  refine y_icmp_lt C 14 dX8_goDeeper_3 (by decide) (by omega) (fun h102 => ?_) (fun h102 => ?_)
  · refine j_aload_n C 0 0 dX8_goDeeper_14 rfl rfl ?_
    refine j_dup C dX8_goDeeper_15 rfl ?_
    refine y_getI C 7 _ _ fX8_goDeeper_18 rfl rfl ft_7_2 sb_7_2 hM0 dX8_goDeeper_16 (fun a103 ea103 la103 ua103 => ?_)
    refine y_iconst C dX8_goDeeper_19 ?_
    refine y_iadd C dX8_goDeeper_20 ?_
    refine y_putI C 7 _ _ qX8_goDeeper_18 rfl rfl ft_7_2 sb_7_2 hM0 (PX.w hpr rfl rfl) dX8_goDeeper_21 (by omega) (fun M105 eM105 hM105 => ?_)
    have xM105 := tkx_j (f := gf) (n := gn) (gi := gi) eM105 (by omega) (by omega) (by omega) (by omega)
    have zz78_5 : (M105.1 78 5).toInt = (M0.1 78 5).toInt := s_fb eM105 (by decide) (rfl); have zz78_6 : (M105.1 78 6).toInt = (M0.1 78 6).toInt := s_fb eM105 (by decide) (rfl); exact hret _ _ _ dX8_goDeeper_24 ⟨hM105, (FR.rf.wI eM105 (by decide)), by omega⟩
  · exfalso; omega
set_option maxHeartbeats 4000000 in
theorem s5_X8_goDeeper {l : Launch} {dC : Nat → ClassId} {dI : Nat → Nat → Nat} {ad : Nat → Nat} {cA : Nat → ClassId} {pr : Nat → Nat → Bool} {Kz : mm_M} {M0 : mm_M} (hM0 : INV pr Kz M0) (hpr : PX pr) (gf : Nat → Int) (gn : Int) (gi : Int) (hp0 : ¬ tkF gf gn (psX M0) = 3000) (hp1 : ¬ tkF gf gn (psX M0) = 3001) (hp2 : (M0.1 78 5).toInt = 0) (hp3 : b01 (TKX gf gn M0) = 1) (hp4 : b01 (PO gn gi (M0.1 78 5).toInt (psX M0)) = 1) : Cv l 0 yX8_goDeeper wsX8_goDeeper dC dI ad cA [.ref (ad 78), .int (sI 4)] M0 (fun M' => INV pr Kz M' ∧ FR [78] M0 M' ∧ ((M'.1 78 5).toInt = (M0.1 78 5).toInt ∧ (M'.1 78 6).toInt = (M0.1 78 6).toInt) ∧ (b01 (PO gn (nxF gf gn gi) (M'.1 78 5).toInt (psX M')) = 1) ∧ (b01 (TKX gf gn M') = 1)) := by
  refine cv_of (cc := cX8_goDeeper) (maxL := 2) (lv := [(0, .ref (ad 78)), (1, .int (sI 4))]) (by decide) rfl (Nat.le_of_ble_eq_true rfl) rfl ?_
  intro p e s m args below meth c A Q C hret
  have u101b := tkx_b (f := gf) (n := gn) (M := M0) (by omega)
  refine j_iload_n C 1 1 dX8_goDeeper_0 rfl rfl ?_
  refine y_bipush C dX8_goDeeper_1 rfl ?_
  refine y_icmp_lt C 14 dX8_goDeeper_3 (by decide) (by omega) (fun h102 => ?_) (fun h102 => ?_)
  · refine j_aload_n C 0 0 dX8_goDeeper_14 rfl rfl ?_
    refine j_dup C dX8_goDeeper_15 rfl ?_
    refine y_getI C 7 _ _ fX8_goDeeper_18 rfl rfl ft_7_2 sb_7_2 hM0 dX8_goDeeper_16 (fun a103 ea103 la103 ua103 => ?_)
    refine y_iconst C dX8_goDeeper_19 ?_
    refine y_iadd C dX8_goDeeper_20 ?_
    refine y_putI C 7 _ _ qX8_goDeeper_18 rfl rfl ft_7_2 sb_7_2 hM0 (PX.w hpr rfl rfl) dX8_goDeeper_21 (by omega) (fun M105 eM105 hM105 => ?_)
    have xM105 := tkx_j (f := gf) (n := gn) (gi := gi) eM105 (by omega) (by omega) (by omega) (by omega)
    have zz78_5 : (M105.1 78 5).toInt = (M0.1 78 5).toInt := s_fb eM105 (by decide) (rfl); have zz78_6 : (M105.1 78 6).toInt = (M0.1 78 6).toInt := s_fb eM105 (by decide) (rfl); exact hret _ _ _ dX8_goDeeper_24 ⟨hM105, (FR.rf.wI eM105 (by decide)), by omega⟩
  · exfalso; omega
set_option maxHeartbeats 4000000 in
theorem s6_X8_goDeeper {l : Launch} {dC : Nat → ClassId} {dI : Nat → Nat → Nat} {ad : Nat → Nat} {cA : Nat → ClassId} {pr : Nat → Nat → Bool} {Kz : mm_M} {M0 : mm_M} (hM0 : INV pr Kz M0) (hpr : PX pr) (gf : Nat → Int) (gn : Int) (gi : Int) (hp0 : ¬ tkF gf gn (psX M0) = 3000) (hp1 : ¬ tkF gf gn (psX M0) = 3001) (hp2 : (M0.1 78 5).toInt = 0) (hp3 : b01 (TKX gf gn M0) = 1) (hp4 : b01 (PO gn gi (M0.1 78 5).toInt (psX M0)) = 1) : Cv l 0 yX8_goDeeper wsX8_goDeeper dC dI ad cA [.ref (ad 78), .int (sI 5)] M0 (fun M' => INV pr Kz M' ∧ FR [78] M0 M' ∧ ((M'.1 78 5).toInt = (M0.1 78 5).toInt ∧ (M'.1 78 6).toInt = (M0.1 78 6).toInt) ∧ (b01 (PO gn (nxF gf gn gi) (M'.1 78 5).toInt (psX M')) = 1) ∧ (b01 (TKX gf gn M') = 1)) := by
  refine cv_of (cc := cX8_goDeeper) (maxL := 2) (lv := [(0, .ref (ad 78)), (1, .int (sI 5))]) (by decide) rfl (Nat.le_of_ble_eq_true rfl) rfl ?_
  intro p e s m args below meth c A Q C hret
  have u101b := tkx_b (f := gf) (n := gn) (M := M0) (by omega)
  refine j_iload_n C 1 1 dX8_goDeeper_0 rfl rfl ?_
  refine y_bipush C dX8_goDeeper_1 rfl ?_
  refine y_icmp_lt C 14 dX8_goDeeper_3 (by decide) (by omega) (fun h102 => ?_) (fun h102 => ?_)
  · refine j_aload_n C 0 0 dX8_goDeeper_14 rfl rfl ?_
    refine j_dup C dX8_goDeeper_15 rfl ?_
    refine y_getI C 7 _ _ fX8_goDeeper_18 rfl rfl ft_7_2 sb_7_2 hM0 dX8_goDeeper_16 (fun a103 ea103 la103 ua103 => ?_)
    refine y_iconst C dX8_goDeeper_19 ?_
    refine y_iadd C dX8_goDeeper_20 ?_
    refine y_putI C 7 _ _ qX8_goDeeper_18 rfl rfl ft_7_2 sb_7_2 hM0 (PX.w hpr rfl rfl) dX8_goDeeper_21 (by omega) (fun M105 eM105 hM105 => ?_)
    have xM105 := tkx_j (f := gf) (n := gn) (gi := gi) eM105 (by omega) (by omega) (by omega) (by omega)
    have zz78_5 : (M105.1 78 5).toInt = (M0.1 78 5).toInt := s_fb eM105 (by decide) (rfl); have zz78_6 : (M105.1 78 6).toInt = (M0.1 78 6).toInt := s_fb eM105 (by decide) (rfl); exact hret _ _ _ dX8_goDeeper_24 ⟨hM105, (FR.rf.wI eM105 (by decide)), by omega⟩
  · exfalso; omega
set_option maxHeartbeats 4000000 in
theorem s7_X8_goDeeper {l : Launch} {dC : Nat → ClassId} {dI : Nat → Nat → Nat} {ad : Nat → Nat} {cA : Nat → ClassId} {pr : Nat → Nat → Bool} {Kz : mm_M} {M0 : mm_M} (hM0 : INV pr Kz M0) (hpr : PX pr) (gf : Nat → Int) (gn : Int) (gi : Int) (hp0 : ¬ tkF gf gn (psX M0) = 3000) (hp1 : ¬ tkF gf gn (psX M0) = 3001) (hp2 : (M0.1 78 5).toInt = 0) (hp3 : b01 (TKX gf gn M0) = 1) (hp4 : b01 (PO gn gi (M0.1 78 5).toInt (psX M0)) = 1) : Cv l 1 yX8_goDeeper wsX8_goDeeper dC dI ad cA [.ref (ad 78), .int (sI 6)] M0 (fun M' => INV pr Kz M' ∧ FR [78] M0 M' ∧ ((M'.1 78 5).toInt = 4 ∧ (M'.1 78 6).toInt = gi) ∧ (1 ≤ (M'.1 78 5).toInt ∧ (M'.1 78 5).toInt ≤ 4) ∧ (b01 (TKX gf gn M') = 1)) := by
  refine cv_of (cc := cX8_goDeeper) (maxL := 2) (lv := [(0, .ref (ad 78)), (1, .int (sI 6))]) (by decide) rfl (Nat.le_of_ble_eq_true rfl) rfl ?_
  intro p e s m args below meth c A Q C hret
  have u101b := tkx_b (f := gf) (n := gn) (M := M0) (by omega)
  refine j_iload_n C 1 1 dX8_goDeeper_0 rfl rfl ?_
  refine y_bipush C dX8_goDeeper_1 rfl ?_
  refine y_icmp_lt C 14 dX8_goDeeper_3 (by decide) (by omega) (fun h102 => ?_) (fun h102 => ?_)
  · exfalso; omega
  · refine j_aload_n C 0 0 dX8_goDeeper_6 rfl rfl ?_
    refine y_iconst C dX8_goDeeper_7 ?_
    refine j_callVv C (d := 0) (As := [.int (sI 4)]) (st := []) 78 (s_lt rfl rfl) (s_kc (c := 7) rfl rfl) (by decide) rfl (s1_X8_fail hM0 hpr 4 (by omega) gf gn gi (by omega) (by omega) (by omega)) gX8_goDeeper_X8_fail rfl hdX8_fail (by decide) (Nat.le_of_ble_eq_true rfl) dX8_goDeeper_8 rfl (fun M104 h105 => ?_)
    obtain ⟨hM104, fM104, h106⟩ := h105
    have bM104 := tkx_b (f := gf) (n := gn) (M := M104) (by omega)
    have qM104 := po_f gn gi (M104.1 78 5).toInt (psX M104) (by omega)
    refine j_goto C 24 dX8_goDeeper_11 (by decide) ?_
    have u1074 := fa_4 gf gn 4 gi (M0.1 78 5).toInt (M0.1 78 6).toInt (psX M0) (M104.1 78 5).toInt (M104.1 78 6).toInt (psX M104) (by decide) (by omega) (by omega) (by omega) (by omega)
    exact hret _ _ _ dX8_goDeeper_24 ⟨hM104, (FR.rf.tr fM104 (by decide)), by omega⟩
set_option maxHeartbeats 4000000 in
theorem s1_X8_atom {l : Launch} {dC : Nat → ClassId} {dI : Nat → Nat → Nat} {ad : Nat → Nat} {cA : Nat → ClassId} {pr : Nat → Nat → Bool} {Kz : mm_M} {M0 : mm_M} (hM0 : INV pr Kz M0) (hpr : PX pr) (gf : Nat → Int) (gn : Int) (gi : Int) (hp0 : 1 ≤ (M0.1 78 5).toInt ∧ (M0.1 78 5).toInt ≤ 4) (hp1 : b01 (TKX gf gn M0) = 1) (hp2 : b01 (PO gn gi (M0.1 78 5).toInt (psX M0)) = 1) : Cv l 0 yX8_atom wsX8_atom dC dI ad cA [.ref (ad 78), .int (sI 7)] M0 (fun M' => INV pr Kz M' ∧ ((M'.1 78 5).toInt = (M0.1 78 5).toInt ∧ (M'.1 78 6).toInt = (M0.1 78 6).toInt) ∧ (1 ≤ (M'.1 78 5).toInt ∧ (M'.1 78 5).toInt ≤ 4) ∧ (b01 (TKX gf gn M') = 1)) := by
  refine cv_of (cc := cX8_atom) (maxL := 3) (lv := [(0, .ref (ad 78)), (1, .int (sI 7))]) (by decide) rfl (Nat.le_of_ble_eq_true rfl) rfl ?_
  intro p e s m args below meth c A Q C hret
  refine j_aload_n C 0 0 dX8_atom_0 rfl rfl ?_
  refine y_getI C 7 _ _ fX8_atom_22 rfl rfl ft_7_5 sb_7_5 hM0 dX8_atom_1 (fun a101 ea101 la101 ua101 => ?_)
  refine y_if_eq C 8 dX8_atom_4 (by decide) (by omega) (fun h103 => ?_) (fun h103 => ?_)
  · exfalso; omega
  · exact hret _ _ _ dX8_atom_7 ⟨hM0, by omega⟩
set_option maxHeartbeats 4000000 in
theorem s1_X8_emit {l : Launch} {dC : Nat → ClassId} {dI : Nat → Nat → Nat} {ad : Nat → Nat} {cA : Nat → ClassId} {pr : Nat → Nat → Bool} {Kz : mm_M} {M0 : mm_M} (hM0 : INV pr Kz M0) (hpr : PX pr) (a1 : Int) (ha1 : -2147483648 ≤ a1 ∧ a1 ≤ 2147483647) (gf : Nat → Int) (gn : Int) (gi : Int) (hp0 : b01 (TKX gf gn M0) = 1) (hp1 : b01 (PO gn gi (M0.1 78 5).toInt (psX M0)) = 1) : Cv l 0 yX8_emit wsX8_emit dC dI ad cA [.ref (ad 78), .int (sI a1)] M0 (fun M' => INV pr Kz M' ∧ (psX M' = psX M0) ∧ ((M'.1 78 5).toInt = (M0.1 78 5).toInt ∧ (M'.1 78 6).toInt = (M0.1 78 6).toInt) ∧ (b01 (TKX gf gn M') = 1)) := by
  refine cv_of (cc := cX8_emit) (maxL := 2) (lv := [(0, .ref (ad 78)), (1, .int (sI a1))]) (by decide) rfl (Nat.le_of_ble_eq_true rfl) rfl ?_
  intro p e s m args below meth c A Q C hret
  refine j_aload_n C 0 0 dX8_emit_0 rfl rfl ?_
  refine y_getI C 7 _ _ fX8_emit_22 rfl rfl ft_7_5 sb_7_5 hM0 dX8_emit_1 (fun a101 ea101 la101 ua101 => ?_)
  refine y_if_ne C 54 dX8_emit_4 (by decide) (by omega) (fun h103 => ?_) (fun h103 => ?_)
  · exact hret _ _ _ dX8_emit_54 ⟨hM0, by omega⟩
  · refine j_aload_n C 0 0 dX8_emit_7 rfl rfl ?_
    refine y_getM C 7 6 fX8_emit_28 rfl rfl ft_7_3 sm_7_3 (by decide) hM0 dX8_emit_8 (fun v104 ev104 cv104 => ?_)
    refine y_getI C 6 _ _ fX8_emit_93 cv104 rfl ft_6_6 sb_6_6 hM0 dX8_emit_11 (fun a105 ea105 la105 ua105 => ?_)
    refine j_aload_n C 0 0 dX8_emit_14 rfl rfl ?_
    refine y_getV C 7 v104 fX8_emit_28 rfl rfl ft_7_3 (ev104) dX8_emit_15 ?_
    refine y_getT C 6 24 fX8_emit_150 cv104 rfl ft_6_5 rfl sm_6_5 st_6_5 (by decide) hM0 dX8_emit_18 (fun v107 cv107 => ?_)
    refine y_alen C 24 900 cv107 rfl rfl an_24 rfl rfl dX8_emit_21 ?_
    refine y_icmp_ge C 54 dX8_emit_22 (by decide) (by omega) (fun h108 => ?_) (fun h108 => ?_)
    · exact hret _ _ _ dX8_emit_54 ⟨hM0, by omega⟩
    · refine j_aload_n C 0 0 dX8_emit_25 rfl rfl ?_
      refine y_getV C 7 v104 fX8_emit_28 rfl rfl ft_7_3 (ev104) dX8_emit_26 ?_
      refine y_getT C 6 24 fX8_emit_150 cv104 rfl ft_6_5 rfl sm_6_5 st_6_5 (by decide) hM0 dX8_emit_29 (fun v109 cv109 => ?_)
      refine j_aload_n C 0 0 dX8_emit_32 rfl rfl ?_
      refine y_getV C 7 v104 fX8_emit_28 rfl rfl ft_7_3 (ev104) dX8_emit_33 ?_
      refine y_getI C 6 _ _ fX8_emit_93 cv104 rfl ft_6_6 sb_6_6 hM0 dX8_emit_36 (fun a110 ea110 la110 ua110 => ?_)
      refine j_iload_n C 1 1 dX8_emit_39 rfl rfl ?_
      refine y_iastF C 24 900 cv109 rfl rfl ak_24 an_24 rfl (sb_24 _) hM0 (PX.w hpr cv109 rfl) dX8_emit_40 (by omega) (fun M112 eM112 hM112 => ?_)
      have xM112 := tkx_w (f := gf) (n := gn) eM112 (s_ne (c := 31) (d := 24) rfl cv109 (by decide)) (s_ne (c := 32) (d := 24) rfl cv109 (by decide)) (s_ne (c := 7) (d := 24) rfl cv109 (by decide)) (by omega)
      have qM112 := po_eq gn gi (M0.1 78 5).toInt (psX M0) (M112.1 78 5).toInt (psX M112) (by omega) (by omega) (by omega)
      refine j_aload_n C 0 0 dX8_emit_41 rfl rfl ?_
      refine y_getV C 7 v104 fX8_emit_28 rfl rfl ft_7_3 (s_pI eM112 (ev104)) dX8_emit_42 ?_
      refine j_dup C dX8_emit_45 rfl ?_
      refine y_getI C 6 _ _ fX8_emit_93 cv104 rfl ft_6_6 sb_6_6 hM112 dX8_emit_46 (fun a113 ea113 la113 ua113 => ?_)
      have qa113 : a113 = a105 := (s_fa eM112 (s_ne (c := 6) (d := 24) cv104 cv109 (by decide)) (ea113)).trans ea105.symm
      refine y_iconst C dX8_emit_49 ?_
      refine y_iadd C dX8_emit_50 ?_
      refine y_putI C 6 _ _ qX8_emit_93 cv104 rfl ft_6_6 sb_6_6 hM112 (PX.w hpr cv104 rfl) dX8_emit_51 (by omega) (fun M115 eM115 hM115 => ?_)
      have xM115 := tkx_w (f := gf) (n := gn) eM115 (s_ne (c := 31) (d := 6) rfl cv104 (by decide)) (s_ne (c := 32) (d := 6) rfl cv104 (by decide)) (s_ne (c := 7) (d := 6) rfl cv104 (by decide)) (by omega)
      have qM115 := po_eq gn gi (M112.1 78 5).toInt (psX M112) (M115.1 78 5).toInt (psX M115) (by omega) (by omega) (by omega)
      have zz78_5 : (M115.1 78 5).toInt = (M0.1 78 5).toInt := s_fa eM112 (s_ne (c := 7) (d := 24) rfl cv109 (by decide)) (s_fb eM115 (by decide) (rfl)); have zz78_6 : (M115.1 78 6).toInt = (M0.1 78 6).toInt := s_fa eM112 (s_ne (c := 7) (d := 24) rfl cv109 (by decide)) (s_fa eM115 (s_ne (c := 7) (d := 6) rfl cv104 (by decide)) (rfl)); exact hret _ _ _ dX8_emit_54 ⟨hM115, by omega⟩
set_option maxHeartbeats 4000000 in
theorem s1_X8_term {l : Launch} {dC : Nat → ClassId} {dI : Nat → Nat → Nat} {ad : Nat → Nat} {cA : Nat → ClassId} {pr : Nat → Nat → Bool} {Kz : mm_M} {M0 : mm_M} (hM0 : INV pr Kz M0) (hpr : PX pr) (gf : Nat → Int) (gn : Int) (gi : Int) (hp0 : 1 ≤ (M0.1 78 5).toInt ∧ (M0.1 78 5).toInt ≤ 4) (hp1 : b01 (TKX gf gn M0) = 1) (hp2 : b01 (PO gn gi (M0.1 78 5).toInt (psX M0)) = 1) : Cv l 1 yX8_term wsX8_term dC dI ad cA [.ref (ad 78), .int (sI 7)] M0 (fun M' => INV pr Kz M' ∧ ((M'.1 78 5).toInt = (M0.1 78 5).toInt ∧ (M'.1 78 6).toInt = (M0.1 78 6).toInt) ∧ (1 ≤ (M'.1 78 5).toInt ∧ (M'.1 78 5).toInt ≤ 4) ∧ (b01 (TKX gf gn M') = 1)) := by
  refine cv_of (cc := cX8_term) (maxL := 3) (lv := [(0, .ref (ad 78)), (1, .int (sI 7))]) (by decide) rfl (Nat.le_of_ble_eq_true rfl) rfl ?_
  intro p e s m args below meth c A Q C hret
  refine j_aload_n C 0 0 dX8_term_0 rfl rfl ?_
  refine j_iload_n C 1 1 dX8_term_1 rfl rfl ?_
  have z101 := (hM0).rd (i := 78) (c := 7) (k := 5) rfl sb_7_5
  refine j_callVv C (d := 0) (As := [.int (sI 7)]) (st := []) 78 (s_lt rfl rfl) (s_kc (c := 7) rfl rfl) (by decide) rfl (s1_X8_atom hM0 hpr gf gn gi (by omega) (by omega) (by omega)) gX8_term_X8_atom rfl hdX8_atom (by decide) (Nat.le_of_ble_eq_true rfl) dX8_term_2 rfl (fun M103 h104 => ?_)
  obtain ⟨hM103, h105⟩ := h104
  have bM103 := tkx_b (f := gf) (n := gn) (M := M103) (by omega)
  have qM103 := po_f gn gi (M103.1 78 5).toInt (psX M103) (by omega)
  refine y_iconst C dX8_term_5 ?_
  refine j_istore_n C 2 [(2, .int (sI 0)), (0, .ref (ad 78)), (1, .int (sI 7))] dX8_term_6 rfl (by decide) rfl ?_
  have L858 : ∀ (n856 : Nat), ∀ (a859 : Int) (M860 : mm_M) (gq861 : Int), (0 ≤ a859 ∧ a859 ≤ 900 ∧ ((M860.1 78 5).toInt = (M103.1 78 5).toInt ∧ (M860.1 78 6).toInt = (M103.1 78 6).toInt) ∧ (b01 (TKX gf gn M860) = 1) ∧ (b01 (PO gn gq861 (M860.1 78 5).toInt (psX M860)) = 1) ∧ (900 - a859) < (n856 : Int)) → INV pr Kz M860 → jj p l e (cn_R 1) s m args below meth c 0 0 Q 3 dC dI ad cA A M860 7 [(0, .ref (ad 78)), (1, .int (sI 7)), (2, .int (sI a859))] [] := by
    intro n856
    induction n856 with
    | zero =>
      intro a859 M860 gq861 h862 hM860
      exfalso; omega
    | succ n856 ih857 =>
      intro a859 M860 gq861 h862 hM860
      refine j_iload_n C 2 2 dX8_term_7 rfl rfl ?_
      refine y_sipush C dX8_term_8 rfl ?_
      refine y_icmp_ge C 59 dX8_term_11 (by decide) (by omega) (fun h863 => ?_) (fun h863 => ?_)
      · exact hret _ _ _ dX8_term_59 ⟨hM860, by omega⟩
      · refine j_aload_n C 0 0 dX8_term_14 rfl rfl ?_
        refine y_getI C 7 _ _ fX8_term_22 rfl rfl ft_7_5 sb_7_5 hM860 dX8_term_15 (fun a864 ea864 la864 ua864 => ?_)
        refine y_if_ne C 59 dX8_term_18 (by decide) (by omega) (fun h866 => ?_) (fun h866 => ?_)
        · exact hret _ _ _ dX8_term_59 ⟨hM860, by omega⟩
        · refine j_aload_n C 0 0 dX8_term_21 rfl rfl ?_
          refine j_callVi C (d := 0) (As := []) (st := []) 78 (s_lt rfl rfl) (s_kc (c := 7) rfl rfl) (by decide) rfl (s1_X8_token hM860 gf gn gq861 (by omega) (by omega)) gX8_term_X8_token rfl hdX8_token (by decide) (Nat.le_of_ble_eq_true rfl) dX8_term_22 rfl (fun r867 M868 h869 => ?_)
          obtain ⟨a871, rfl, rfl, h870⟩ := h869
          refine y_sipush C dX8_term_25 rfl ?_
          refine y_icmp_ne C 59 dX8_term_28 (by decide) (by omega) (fun h872 => ?_) (fun h872 => ?_)
          · exact hret _ _ _ dX8_term_59 ⟨hM860, by omega⟩
          · refine j_aload_n C 0 0 dX8_term_31 rfl rfl ?_
            refine j_dup C dX8_term_32 rfl ?_
            refine y_getI C 7 _ _ fX8_term_18 rfl rfl ft_7_2 sb_7_2 hM860 dX8_term_33 (fun a873 ea873 la873 ua873 => ?_)
            refine y_iconst C dX8_term_36 ?_
            refine y_iadd C dX8_term_37 ?_
            refine y_putI C 7 _ _ qX8_term_18 rfl rfl ft_7_2 sb_7_2 hM860 (PX.w hpr rfl rfl) dX8_term_38 (by omega) (fun M875 eM875 hM875 => ?_)
            have xM875 := tkx_j (f := gf) (n := gn) (gi := gq861) eM875 (by omega) (by omega) (by omega) (by omega)
            refine j_aload_n C 0 0 dX8_term_41 rfl rfl ?_
            refine j_iload_n C 1 1 dX8_term_42 rfl rfl ?_
            have z876 := (hM875).rd (i := 78) (c := 7) (k := 5) rfl sb_7_5
            refine j_callVv C (d := 0) (As := [.int (sI 7)]) (st := []) 78 (s_lt rfl rfl) (s_kc (c := 7) rfl rfl) (by decide) rfl (s1_X8_atom hM875 hpr gf gn (nxF gf gn gq861) (by omega) (by omega) (by omega)) gX8_term_X8_atom rfl hdX8_atom (by decide) (Nat.le_of_ble_eq_true rfl) dX8_term_43 rfl (fun M878 h879 => ?_)
            obtain ⟨hM878, h880⟩ := h879
            have bM878 := tkx_b (f := gf) (n := gn) (M := M878) (by omega)
            have qM878 := po_f gn (nxF gf gn gq861) (M878.1 78 5).toInt (psX M878) (by omega)
            refine j_aload_n C 0 0 dX8_term_46 rfl rfl ?_
            refine y_sipush C dX8_term_47 rfl ?_
            refine j_callVv C (d := 0) (As := [.int (sI 2042)]) (st := []) 78 (s_lt rfl rfl) (s_kc (c := 7) rfl rfl) (by decide) rfl (s1_X8_emit hM878 hpr 2042 (by omega) gf gn (nxF gf gn gq861) (by omega) (by omega)) gX8_term_X8_emit rfl hdX8_emit (by decide) (Nat.le_of_ble_eq_true rfl) dX8_term_50 rfl (fun M882 h883 => ?_)
            obtain ⟨hM882, h884⟩ := h883
            have bM882 := tkx_b (f := gf) (n := gn) (M := M882) (by omega)
            have qM882 := po_eq gn (nxF gf gn gq861) (M878.1 78 5).toInt (psX M878) (M882.1 78 5).toInt (psX M882) (by omega) (by omega) (by omega)
            refine y_iinc C 2 [(2, .int (sI (a859 + 1))), (0, .ref (ad 78)), (1, .int (sI 7))] dX8_term_53 rfl (by decide) rfl ?_
            refine j_goto C 7 dX8_term_56 (by decide) ?_
            refine j_lv [1, 2, 0] rfl ?_; exact ih857 (a859 + 1) M882 (nxF gf gn gq861) (by omega) hM882
  refine j_lv [1, 2, 0] rfl ?_; exact L858 2010 0 M103 gi (by omega) hM103
set_option maxHeartbeats 4000000 in
theorem s1_X8_sum {l : Launch} {dC : Nat → ClassId} {dI : Nat → Nat → Nat} {ad : Nat → Nat} {cA : Nat → ClassId} {pr : Nat → Nat → Bool} {Kz : mm_M} {M0 : mm_M} (hM0 : INV pr Kz M0) (hpr : PX pr) (gf : Nat → Int) (gn : Int) (gi : Int) (hp0 : 1 ≤ (M0.1 78 5).toInt ∧ (M0.1 78 5).toInt ≤ 4) (hp1 : b01 (TKX gf gn M0) = 1) (hp2 : b01 (PO gn gi (M0.1 78 5).toInt (psX M0)) = 1) : Cv l 2 yX8_sum wsX8_sum dC dI ad cA [.ref (ad 78), .int (sI 7)] M0 (fun M' => INV pr Kz M' ∧ ((M'.1 78 5).toInt = (M0.1 78 5).toInt ∧ (M'.1 78 6).toInt = (M0.1 78 6).toInt) ∧ (1 ≤ (M'.1 78 5).toInt ∧ (M'.1 78 5).toInt ≤ 4) ∧ (b01 (TKX gf gn M') = 1)) := by
  refine cv_of (cc := cX8_sum) (maxL := 4) (lv := [(0, .ref (ad 78)), (1, .int (sI 7))]) (by decide) rfl (Nat.le_of_ble_eq_true rfl) rfl ?_
  intro p e s m args below meth c A Q C hret
  refine j_aload_n C 0 0 dX8_sum_0 rfl rfl ?_
  refine j_iload_n C 1 1 dX8_sum_1 rfl rfl ?_
  have z101 := (hM0).rd (i := 78) (c := 7) (k := 5) rfl sb_7_5
  refine j_callVv C (d := 1) (As := [.int (sI 7)]) (st := []) 78 (s_lt rfl rfl) (s_kc (c := 7) rfl rfl) (by decide) rfl (s1_X8_term hM0 hpr gf gn gi (by omega) (by omega) (by omega)) gX8_sum_X8_term rfl hdX8_term (by decide) (Nat.le_of_ble_eq_true rfl) dX8_sum_2 rfl (fun M103 h104 => ?_)
  obtain ⟨hM103, h105⟩ := h104
  have bM103 := tkx_b (f := gf) (n := gn) (M := M103) (by omega)
  have qM103 := po_f gn gi (M103.1 78 5).toInt (psX M103) (by omega)
  refine j_aload_n C 0 0 dX8_sum_5 rfl rfl ?_
  refine j_callVi C (d := 0) (As := []) (st := []) 78 (s_lt rfl rfl) (s_kc (c := 7) rfl rfl) (by decide) rfl (s1_X8_token hM103 gf gn gi (by omega) (by omega)) gX8_sum_X8_token rfl hdX8_token (by decide) (Nat.le_of_ble_eq_true rfl) dX8_sum_6 rfl (fun r106 M107 h108 => ?_)
  obtain ⟨a110, rfl, rfl, h109⟩ := h108
  refine j_istore_n C 2 [(2, .int (sI a110)), (0, .ref (ad 78)), (1, .int (sI 7))] dX8_sum_9 rfl (by decide) rfl ?_
  refine y_iconst C dX8_sum_10 ?_
  refine j_istore_n C 3 [(3, .int (sI 0)), (2, .int (sI a110)), (0, .ref (ad 78)), (1, .int (sI 7))] dX8_sum_11 rfl (by decide) rfl ?_
  have L1433 : ∀ (n1431 : Nat), ∀ (a1434 : Int) (a1435 : Int) (M1436 : mm_M) (gq1437 : Int), ((-2147483648) ≤ a1434 ∧ a1434 ≤ 2147483647 ∧ 0 ≤ a1435 ∧ a1435 ≤ 900 ∧ ((M1436.1 78 5).toInt = (M103.1 78 5).toInt ∧ (M1436.1 78 6).toInt = (M103.1 78 6).toInt) ∧ (b01 (TKX gf gn M1436) = 1) ∧ (b01 (PO gn gq1437 (M1436.1 78 5).toInt (psX M1436)) = 1) ∧ (900 - a1435) < (n1431 : Int)) → INV pr Kz M1436 → jj p l e (cn_R 2) s m args below meth c 0 0 Q 4 dC dI ad cA A M1436 12 [(0, .ref (ad 78)), (1, .int (sI 7)), (2, .int (sI a1434)), (3, .int (sI a1435))] [] := by
    intro n1431
    induction n1431 with
    | zero =>
      intro a1434 a1435 M1436 gq1437 h1438 hM1436
      exfalso; omega
    | succ n1431 ih1432 =>
      intro a1434 a1435 M1436 gq1437 h1438 hM1436
      refine j_iload_n C 3 3 dX8_sum_12 rfl rfl ?_
      refine y_sipush C dX8_sum_13 rfl ?_
      refine y_icmp_ge C 71 dX8_sum_16 (by decide) (by omega) (fun h1439 => ?_) (fun h1439 => ?_)
      · exact hret _ _ _ dX8_sum_71 ⟨hM1436, by omega⟩
      · refine j_aload_n C 0 0 dX8_sum_19 rfl rfl ?_
        refine y_getI C 7 _ _ fX8_sum_22 rfl rfl ft_7_5 sb_7_5 hM1436 dX8_sum_20 (fun a1440 ea1440 la1440 ua1440 => ?_)
        refine y_if_ne C 71 dX8_sum_23 (by decide) (by omega) (fun h1442 => ?_) (fun h1442 => ?_)
        · exact hret _ _ _ dX8_sum_71 ⟨hM1436, by omega⟩
        · refine j_iload_n C 2 2 dX8_sum_26 rfl rfl ?_
          refine y_sipush C dX8_sum_27 rfl ?_
          refine y_icmp_eq C 40 dX8_sum_30 (by decide) (by omega) (fun h1443 => ?_) (fun h1443 => ?_)
          · refine j_aload_n C 0 0 dX8_sum_40 rfl rfl ?_
            refine j_dup C dX8_sum_41 rfl ?_
            refine y_getI C 7 _ _ fX8_sum_18 rfl rfl ft_7_2 sb_7_2 hM1436 dX8_sum_42 (fun a1444 ea1444 la1444 ua1444 => ?_)
            refine y_iconst C dX8_sum_45 ?_
            refine y_iadd C dX8_sum_46 ?_
            refine y_putI C 7 _ _ qX8_sum_18 rfl rfl ft_7_2 sb_7_2 hM1436 (PX.w hpr rfl rfl) dX8_sum_47 (by omega) (fun M1446 eM1446 hM1446 => ?_)
            have xM1446 := tkx_j (f := gf) (n := gn) (gi := gq1437) eM1446 (by omega) (by omega) (by omega) (by omega)
            refine j_aload_n C 0 0 dX8_sum_50 rfl rfl ?_
            refine j_iload_n C 1 1 dX8_sum_51 rfl rfl ?_
            have z1447 := (hM1446).rd (i := 78) (c := 7) (k := 5) rfl sb_7_5
            refine j_callVv C (d := 1) (As := [.int (sI 7)]) (st := []) 78 (s_lt rfl rfl) (s_kc (c := 7) rfl rfl) (by decide) rfl (s1_X8_term hM1446 hpr gf gn (nxF gf gn gq1437) (by omega) (by omega) (by omega)) gX8_sum_X8_term rfl hdX8_term (by decide) (Nat.le_of_ble_eq_true rfl) dX8_sum_52 rfl (fun M1449 h1450 => ?_)
            obtain ⟨hM1449, h1451⟩ := h1450
            have bM1449 := tkx_b (f := gf) (n := gn) (M := M1449) (by omega)
            have qM1449 := po_f gn (nxF gf gn gq1437) (M1449.1 78 5).toInt (psX M1449) (by omega)
            refine j_aload_n C 0 0 dX8_sum_55 rfl rfl ?_
            refine j_iload_n C 2 2 dX8_sum_56 rfl rfl ?_
            refine j_callVv C (d := 0) (As := [.int (sI a1434)]) (st := []) 78 (s_lt rfl rfl) (s_kc (c := 7) rfl rfl) (by decide) rfl (s1_X8_emit hM1449 hpr a1434 (by omega) gf gn (nxF gf gn gq1437) (by omega) (by omega)) gX8_sum_X8_emit rfl hdX8_emit (by decide) (Nat.le_of_ble_eq_true rfl) dX8_sum_57 rfl (fun M1453 h1454 => ?_)
            obtain ⟨hM1453, h1455⟩ := h1454
            have bM1453 := tkx_b (f := gf) (n := gn) (M := M1453) (by omega)
            have qM1453 := po_eq gn (nxF gf gn gq1437) (M1449.1 78 5).toInt (psX M1449) (M1453.1 78 5).toInt (psX M1453) (by omega) (by omega) (by omega)
            refine j_aload_n C 0 0 dX8_sum_60 rfl rfl ?_
            refine j_callVi C (d := 0) (As := []) (st := []) 78 (s_lt rfl rfl) (s_kc (c := 7) rfl rfl) (by decide) rfl (s1_X8_token hM1453 gf gn (nxF gf gn gq1437) (by omega) (by omega)) gX8_sum_X8_token rfl hdX8_token (by decide) (Nat.le_of_ble_eq_true rfl) dX8_sum_61 rfl (fun r1456 M1457 h1458 => ?_)
            obtain ⟨a1460, rfl, rfl, h1459⟩ := h1458
            refine j_istore_n C 2 [(2, .int (sI a1460)), (0, .ref (ad 78)), (1, .int (sI 7)), (3, .int (sI a1435))] dX8_sum_64 rfl (by decide) rfl ?_
            refine y_iinc C 3 [(3, .int (sI (a1435 + 1))), (2, .int (sI a1460)), (0, .ref (ad 78)), (1, .int (sI 7))] dX8_sum_65 rfl (by decide) rfl ?_
            refine j_goto C 12 dX8_sum_68 (by decide) ?_
            refine j_lv [2, 3, 1, 0] rfl ?_; exact ih1432 a1460 (a1435 + 1) M1453 (nxF gf gn gq1437) (by omega) hM1453
          · refine j_iload_n C 2 2 dX8_sum_33 rfl rfl ?_
            refine y_sipush C dX8_sum_34 rfl ?_
            refine y_icmp_ne C 71 dX8_sum_37 (by decide) (by omega) (fun h1461 => ?_) (fun h1461 => ?_)
            · exact hret _ _ _ dX8_sum_71 ⟨hM1436, by omega⟩
            · refine j_aload_n C 0 0 dX8_sum_40 rfl rfl ?_
              refine j_dup C dX8_sum_41 rfl ?_
              refine y_getI C 7 _ _ fX8_sum_18 rfl rfl ft_7_2 sb_7_2 hM1436 dX8_sum_42 (fun a1462 ea1462 la1462 ua1462 => ?_)
              refine y_iconst C dX8_sum_45 ?_
              refine y_iadd C dX8_sum_46 ?_
              refine y_putI C 7 _ _ qX8_sum_18 rfl rfl ft_7_2 sb_7_2 hM1436 (PX.w hpr rfl rfl) dX8_sum_47 (by omega) (fun M1464 eM1464 hM1464 => ?_)
              have xM1464 := tkx_j (f := gf) (n := gn) (gi := gq1437) eM1464 (by omega) (by omega) (by omega) (by omega)
              refine j_aload_n C 0 0 dX8_sum_50 rfl rfl ?_
              refine j_iload_n C 1 1 dX8_sum_51 rfl rfl ?_
              have z1465 := (hM1464).rd (i := 78) (c := 7) (k := 5) rfl sb_7_5
              refine j_callVv C (d := 1) (As := [.int (sI 7)]) (st := []) 78 (s_lt rfl rfl) (s_kc (c := 7) rfl rfl) (by decide) rfl (s1_X8_term hM1464 hpr gf gn (nxF gf gn gq1437) (by omega) (by omega) (by omega)) gX8_sum_X8_term rfl hdX8_term (by decide) (Nat.le_of_ble_eq_true rfl) dX8_sum_52 rfl (fun M1467 h1468 => ?_)
              obtain ⟨hM1467, h1469⟩ := h1468
              have bM1467 := tkx_b (f := gf) (n := gn) (M := M1467) (by omega)
              have qM1467 := po_f gn (nxF gf gn gq1437) (M1467.1 78 5).toInt (psX M1467) (by omega)
              refine j_aload_n C 0 0 dX8_sum_55 rfl rfl ?_
              refine j_iload_n C 2 2 dX8_sum_56 rfl rfl ?_
              refine j_callVv C (d := 0) (As := [.int (sI a1434)]) (st := []) 78 (s_lt rfl rfl) (s_kc (c := 7) rfl rfl) (by decide) rfl (s1_X8_emit hM1467 hpr a1434 (by omega) gf gn (nxF gf gn gq1437) (by omega) (by omega)) gX8_sum_X8_emit rfl hdX8_emit (by decide) (Nat.le_of_ble_eq_true rfl) dX8_sum_57 rfl (fun M1471 h1472 => ?_)
              obtain ⟨hM1471, h1473⟩ := h1472
              have bM1471 := tkx_b (f := gf) (n := gn) (M := M1471) (by omega)
              have qM1471 := po_eq gn (nxF gf gn gq1437) (M1467.1 78 5).toInt (psX M1467) (M1471.1 78 5).toInt (psX M1471) (by omega) (by omega) (by omega)
              refine j_aload_n C 0 0 dX8_sum_60 rfl rfl ?_
              refine j_callVi C (d := 0) (As := []) (st := []) 78 (s_lt rfl rfl) (s_kc (c := 7) rfl rfl) (by decide) rfl (s1_X8_token hM1471 gf gn (nxF gf gn gq1437) (by omega) (by omega)) gX8_sum_X8_token rfl hdX8_token (by decide) (Nat.le_of_ble_eq_true rfl) dX8_sum_61 rfl (fun r1474 M1475 h1476 => ?_)
              obtain ⟨a1478, rfl, rfl, h1477⟩ := h1476
              refine j_istore_n C 2 [(2, .int (sI a1478)), (0, .ref (ad 78)), (1, .int (sI 7)), (3, .int (sI a1435))] dX8_sum_64 rfl (by decide) rfl ?_
              refine y_iinc C 3 [(3, .int (sI (a1435 + 1))), (2, .int (sI a1478)), (0, .ref (ad 78)), (1, .int (sI 7))] dX8_sum_65 rfl (by decide) rfl ?_
              refine j_goto C 12 dX8_sum_68 (by decide) ?_
              refine j_lv [2, 3, 1, 0] rfl ?_; exact ih1432 a1478 (a1435 + 1) M1471 (nxF gf gn gq1437) (by omega) hM1471
  refine j_lv [2, 3, 1, 0] rfl ?_; exact L1433 4294967306 a110 0 M103 gi (by omega) hM103
set_option maxHeartbeats 4000000 in
theorem s2_X8_atom {l : Launch} {dC : Nat → ClassId} {dI : Nat → Nat → Nat} {ad : Nat → Nat} {cA : Nat → ClassId} {pr : Nat → Nat → Bool} {Kz : mm_M} {M0 : mm_M} (hM0 : INV pr Kz M0) (hpr : PX pr) (gf : Nat → Int) (gn : Int) (gi : Int) (hp0 : b01 (TKX gf gn M0) = 1) (hp1 : b01 (PO gn gi (M0.1 78 5).toInt (psX M0)) = 1) : Cv l 3 yX8_atom wsX8_atom dC dI ad cA [.ref (ad 78), .int (sI 6)] M0 (fun M' => INV pr Kz M' ∧ (b01 (TKX gf gn M') = 1) ∧ b01 (RR ((atP gf gn true (fun i => (0, 0, i))) gi) (M0.1 78 5).toInt (M0.1 78 6).toInt (M'.1 78 5).toInt (M'.1 78 6).toInt (psX M')) = 1) := by
  refine cv_of (cc := cX8_atom) (maxL := 3) (lv := [(0, .ref (ad 78)), (1, .int (sI 6))]) (by decide) rfl (Nat.le_of_ble_eq_true rfl) rfl ?_
  intro p e s m args below meth c A Q C hret
  have u101b := tkx_b (f := gf) (n := gn) (M := M0) (by omega)
  refine j_aload_n C 0 0 dX8_atom_0 rfl rfl ?_
  refine y_getI C 7 _ _ fX8_atom_22 rfl rfl ft_7_5 sb_7_5 hM0 dX8_atom_1 (fun a102 ea102 la102 ua102 => ?_)
  refine y_if_eq C 8 dX8_atom_4 (by decide) (by omega) (fun h104 => ?_) (fun h104 => ?_)
  · refine j_aload_n C 0 0 dX8_atom_8 rfl rfl ?_
    refine j_callVi C (d := 0) (As := []) (st := []) 78 (s_lt rfl rfl) (s_kc (c := 7) rfl rfl) (by decide) rfl (s1_X8_token hM0 gf gn gi (by omega) (by omega)) gX8_atom_X8_token rfl hdX8_token (by decide) (Nat.le_of_ble_eq_true rfl) dX8_atom_9 rfl (fun r105 M106 h107 => ?_)
    obtain ⟨a109, rfl, rfl, h108⟩ := h107
    refine j_istore_n C 2 [(2, .int (sI a109)), (0, .ref (ad 78)), (1, .int (sI 6))] dX8_atom_12 rfl (by decide) rfl ?_
    refine j_iload_n C 0 2 dX8_atom_13 rfl rfl ?_
    refine y_sipush C dX8_atom_14 rfl ?_
    refine y_icmp_ge C 38 dX8_atom_17 (by decide) (by omega) (fun h110 => ?_) (fun h110 => ?_)
    · refine j_iload_n C 0 2 dX8_atom_38 rfl rfl ?_
      refine y_sipush C dX8_atom_39 rfl ?_
      refine y_icmp_ne C 67 dX8_atom_42 (by decide) (by omega) (fun h111 => ?_) (fun h111 => ?_)
      · refine j_aload_n C 1 0 dX8_atom_67 rfl rfl ?_
        refine y_iconst C dX8_atom_68 ?_
        refine j_callVv C (d := 0) (As := [.int (sI 2)]) (st := []) 78 (s_lt rfl rfl) (s_kc (c := 7) rfl rfl) (by decide) rfl (s1_X8_fail hM0 hpr 2 (by omega) gf gn gi (by omega) (by omega) (by omega)) gX8_atom_X8_fail rfl hdX8_fail (by decide) (Nat.le_of_ble_eq_true rfl) dX8_atom_69 rfl (fun M113 h114 => ?_)
        obtain ⟨hM113, fM113, h115⟩ := h114
        have bM113 := tkx_b (f := gf) (n := gn) (M := M113) (by omega)
        have qM113 := po_f gn gi (M113.1 78 5).toInt (psX M113) (by omega)
        have u116r := at_4 gf gn true (fun i => (0, 0, i)) gi (M0.1 78 5).toInt (M0.1 78 6).toInt (psX M0) (M113.1 78 5).toInt (M113.1 78 6).toInt (psX M113) (by omega) (by omega) (by omega)
        exact hret _ _ _ dX8_atom_72 ⟨hM113, by omega⟩
      · refine j_aload_n C 1 0 dX8_atom_45 rfl rfl ?_
        refine j_iload_n C 2 1 dX8_atom_46 rfl rfl ?_
        refine j_callVv C (d := 1) (As := [.int (sI 6)]) (st := []) 78 (s_lt rfl rfl) (s_kc (c := 7) rfl rfl) (by decide) rfl (s7_X8_goDeeper hM0 hpr gf gn gi (by omega) (by omega) (by omega) (by omega) (by omega)) gX8_atom_X8_goDeeper rfl hdX8_goDeeper (by decide) (Nat.le_of_ble_eq_true rfl) dX8_atom_47 rfl (fun M118 h119 => ?_)
        obtain ⟨hM118, fM118, h120⟩ := h119
        have bM118 := tkx_b (f := gf) (n := gn) (M := M118) (by omega)
        have qM118 := po_f gn gi (M118.1 78 5).toInt (psX M118) (by omega)
        refine j_aload_n C 1 0 dX8_atom_50 rfl rfl ?_
        refine j_iload_n C 2 1 dX8_atom_51 rfl rfl ?_
        refine y_iconst C dX8_atom_52 ?_
        refine y_iadd C dX8_atom_53 ?_
        have z121 := (hM118).rd (i := 78) (c := 7) (k := 5) rfl sb_7_5
        refine j_callVv C (d := 2) (As := [.int (sI (6 + 1))]) (st := []) 78 (s_lt rfl rfl) (s_kc (c := 7) rfl rfl) (by decide) rfl (s1_X8_sum hM118 hpr gf gn gi (by omega) (by omega) (by omega)) gX8_atom_X8_sum rfl hdX8_sum (by decide) (Nat.le_of_ble_eq_true rfl) dX8_atom_54 rfl (fun M123 h124 => ?_)
        obtain ⟨hM123, h125⟩ := h124
        have bM123 := tkx_b (f := gf) (n := gn) (M := M123) (by omega)
        have qM123 := po_f gn gi (M123.1 78 5).toInt (psX M123) (by omega)
        refine j_aload_n C 1 0 dX8_atom_57 rfl rfl ?_
        refine y_sipush C dX8_atom_58 rfl ?_
        refine j_callVv C (d := 1) (As := [.int (sI 2041)]) (st := []) 78 (s_lt rfl rfl) (s_kc (c := 7) rfl rfl) (by decide) rfl (s1_X8_expect hM123 hpr 2041 (by omega) gf gn gi (by omega) (by omega) (by omega) (by omega)) gX8_atom_X8_expect rfl hdX8_expect (by decide) (Nat.le_of_ble_eq_true rfl) dX8_atom_61 rfl (fun M127 h128 => ?_)
        obtain ⟨hM127, fM127, h129⟩ := h128
        have bM127 := tkx_b (f := gf) (n := gn) (M := M127) (by omega)
        have qM127 := po_rr (exP gf gn 2041) gn gi (M123.1 78 5).toInt (M123.1 78 6).toInt (psX M123) (M127.1 78 5).toInt (M127.1 78 6).toInt (psX M127) (ex_g gf gn 2041 (by omega)) (by omega) (by omega)
        refine j_goto C 72 dX8_atom_64 (by decide) ?_
        have u130k := rr_k (exP gf gn 2041 gi) (M123.1 78 5).toInt (M123.1 78 6).toInt (M127.1 78 5).toInt (M127.1 78 6).toInt (psX M127) (by omega) (by omega)
        have u130r := at_3 gf gn (fun i => (0, 0, i)) gi (M0.1 78 5).toInt (M0.1 78 6).toInt (psX M0) (M127.1 78 5).toInt (M127.1 78 6).toInt (psX M127) (by omega) (by omega) (by omega) (by omega) (by omega)
        exact hret _ _ _ dX8_atom_72 ⟨hM127, by omega⟩
    · refine j_aload_n C 1 0 dX8_atom_20 rfl rfl ?_
      refine j_dup C dX8_atom_21 rfl ?_
      refine y_getI C 7 _ _ fX8_atom_18 rfl rfl ft_7_2 sb_7_2 hM0 dX8_atom_22 (fun a131 ea131 la131 ua131 => ?_)
      refine y_iconst C dX8_atom_25 ?_
      refine y_iadd C dX8_atom_26 ?_
      refine y_putI C 7 _ _ qX8_atom_18 rfl rfl ft_7_2 sb_7_2 hM0 (PX.w hpr rfl rfl) dX8_atom_27 (by omega) (fun M133 eM133 hM133 => ?_)
      have xM133 := tkx_j (f := gf) (n := gn) (gi := gi) eM133 (by omega) (by omega) (by omega) (by omega)
      refine j_aload_n C 1 0 dX8_atom_30 rfl rfl ?_
      refine j_iload_n C 0 2 dX8_atom_31 rfl rfl ?_
      refine j_callVv C (d := 0) (As := [.int (sI a109)]) (st := []) 78 (s_lt rfl rfl) (s_kc (c := 7) rfl rfl) (by decide) rfl (s1_X8_emit hM133 hpr a109 (by omega) gf gn (nxF gf gn gi) (by omega) (by omega)) gX8_atom_X8_emit rfl hdX8_emit (by decide) (Nat.le_of_ble_eq_true rfl) dX8_atom_32 rfl (fun M135 h136 => ?_)
      obtain ⟨hM135, h137⟩ := h136
      have bM135 := tkx_b (f := gf) (n := gn) (M := M135) (by omega)
      have qM135 := po_eq gn (nxF gf gn gi) (M133.1 78 5).toInt (psX M133) (M135.1 78 5).toInt (psX M135) (by omega) (by omega) (by omega)
      refine j_goto C 72 dX8_atom_35 (by decide) ?_
      have u138r := rr_eq ((atP gf gn true (fun i => (0, 0, i))) gi) (M0.1 78 5).toInt (M0.1 78 6).toInt (M133.1 78 5).toInt (M133.1 78 6).toInt (psX M133) (M135.1 78 5).toInt (M135.1 78 6).toInt (psX M135) (at_1 gf gn true (fun i => (0, 0, i)) gi (M0.1 78 5).toInt (M0.1 78 6).toInt (psX M0) (M133.1 78 5).toInt (M133.1 78 6).toInt (psX M133) (by omega) (by omega) (by omega) (by omega) (by omega) (by omega)) (by omega) (by omega) (by omega)
      exact hret _ _ _ dX8_atom_72 ⟨hM135, by omega⟩
  · have u139r := rr_no ((atP gf gn true (fun i => (0, 0, i))) gi) (M0.1 78 5).toInt (M0.1 78 6).toInt (M0.1 78 5).toInt (M0.1 78 6).toInt (psX M0) (by omega) rfl rfl
    exact hret _ _ _ dX8_atom_7 ⟨hM0, by omega⟩
set_option maxHeartbeats 4000000 in
theorem s2_X8_term {l : Launch} {dC : Nat → ClassId} {dI : Nat → Nat → Nat} {ad : Nat → Nat} {cA : Nat → ClassId} {pr : Nat → Nat → Bool} {Kz : mm_M} {M0 : mm_M} (hM0 : INV pr Kz M0) (hpr : PX pr) (gf : Nat → Int) (gn : Int) (gi : Int) (hp0 : b01 (TKX gf gn M0) = 1) (hp1 : b01 (PO gn gi (M0.1 78 5).toInt (psX M0)) = 1) : Cv l 4 yX8_term wsX8_term dC dI ad cA [.ref (ad 78), .int (sI 6)] M0 (fun M' => INV pr Kz M' ∧ (b01 (TKX gf gn M') = 1) ∧ b01 (RR ((teP gf gn true (fun i => (0, 0, i))) gi) (M0.1 78 5).toInt (M0.1 78 6).toInt (M'.1 78 5).toInt (M'.1 78 6).toInt (psX M')) = 1) := by
  refine cv_of (cc := cX8_term) (maxL := 3) (lv := [(0, .ref (ad 78)), (1, .int (sI 6))]) (by decide) rfl (Nat.le_of_ble_eq_true rfl) rfl ?_
  intro p e s m args below meth c A Q C hret
  refine j_aload_n C 0 0 dX8_term_0 rfl rfl ?_
  refine j_iload_n C 1 1 dX8_term_1 rfl rfl ?_
  refine j_callVv C (d := 3) (As := [.int (sI 6)]) (st := []) 78 (s_lt rfl rfl) (s_kc (c := 7) rfl rfl) (by decide) rfl (s2_X8_atom hM0 hpr gf gn gi (by omega) (by omega)) gX8_term_X8_atom rfl hdX8_atom (by decide) (Nat.le_of_ble_eq_true rfl) dX8_term_2 rfl (fun M102 h103 => ?_)
  obtain ⟨hM102, h104⟩ := h103
  have bM102 := tkx_b (f := gf) (n := gn) (M := M102) (by omega)
  have qM102 := po_rr (atP gf gn true (fun i => (0, 0, i))) gn gi (M0.1 78 5).toInt (M0.1 78 6).toInt (psX M0) (M102.1 78 5).toInt (M102.1 78 6).toInt (psX M102) (at_g gf gn (fun h => by cases h)) (by omega) (by omega)
  refine y_iconst C dX8_term_5 ?_
  have u105l := ll_0 (luP gf gn 2042 2042 (atP gf gn true (fun i => (0, 0, i)))) gn ((atP gf gn true (fun i => (0, 0, i))) gi).2.2 (M102.1 78 5).toInt (M102.1 78 6).toInt (psX M102) (by omega)
  refine j_istore_n C 2 [(2, .int (sI 0)), (0, .ref (ad 78)), (1, .int (sI 6))] dX8_term_6 rfl (by decide) rfl ?_
  have L134 : ∀ (n132 : Nat), ∀ (a135 : Int) (M136 : mm_M) (gq137 : Int), (0 ≤ a135 ∧ a135 ≤ 900 ∧ (b01 (LL (luP gf gn 2042 2042 (atP gf gn true (fun i => (0, 0, i)))) gn ((atP gf gn true (fun i => (0, 0, i))) gi).2.2 gq137 a135 (M102.1 78 5).toInt (M102.1 78 6).toInt (M136.1 78 5).toInt (M136.1 78 6).toInt (psX M136)) = 1) ∧ (b01 (TKX gf gn M136) = 1) ∧ (b01 (PO gn gq137 (M136.1 78 5).toInt (psX M136)) = 1) ∧ (900 - a135) < (n132 : Int)) → INV pr Kz M136 → jj p l e (cn_R 4) s m args below meth c 0 0 Q 3 dC dI ad cA A M136 7 [(0, .ref (ad 78)), (1, .int (sI 6)), (2, .int (sI a135))] [] := by
    intro n132
    induction n132 with
    | zero =>
      intro a135 M136 gq137 h138 hM136
      exfalso; omega
    | succ n132 ih133 =>
      intro a135 M136 gq137 h138 hM136
      have u139b := tkx_b (f := gf) (n := gn) (M := M136) (by omega)
      refine j_iload_n C 2 2 dX8_term_7 rfl rfl ?_
      refine y_sipush C dX8_term_8 rfl ?_
      refine y_icmp_ge C 59 dX8_term_11 (by decide) (by omega) (fun h140 => ?_) (fun h140 => ?_)
      · have u162e := ll_e gf gn 2042 2042 (atP gf gn true (fun i => (0, 0, i))) ((atP gf gn true (fun i => (0, 0, i))) gi).2.2 gq137 a135 (M102.1 78 5).toInt (M102.1 78 6).toInt (M136.1 78 5).toInt (M136.1 78 6).toInt (psX M136) (by decide) (at_g gf gn (fun h => by cases h)) (by omega) (by omega)
        have u162r : b01 (RR ((teP gf gn true (fun i => (0, 0, i))) gi) (M0.1 78 5).toInt (M0.1 78 6).toInt (M136.1 78 5).toInt (M136.1 78 6).toInt (psX M136)) = 1 := rr_sq ((atP gf gn true (fun i => (0, 0, i))) gi) (luP gf gn 2042 2042 (atP gf gn true (fun i => (0, 0, i)))) (M0.1 78 5).toInt (M0.1 78 6).toInt (M102.1 78 5).toInt (M102.1 78 6).toInt (psX M102) (M136.1 78 5).toInt (M136.1 78 6).toInt (psX M136) (by omega) (by omega)
        exact hret _ _ _ dX8_term_59 ⟨hM136, by omega⟩
      · refine j_aload_n C 0 0 dX8_term_14 rfl rfl ?_
        refine y_getI C 7 _ _ fX8_term_22 rfl rfl ft_7_5 sb_7_5 hM136 dX8_term_15 (fun a141 ea141 la141 ua141 => ?_)
        refine y_if_ne C 59 dX8_term_18 (by decide) (by omega) (fun h143 => ?_) (fun h143 => ?_)
        · have u163e := ll_e gf gn 2042 2042 (atP gf gn true (fun i => (0, 0, i))) ((atP gf gn true (fun i => (0, 0, i))) gi).2.2 gq137 a135 (M102.1 78 5).toInt (M102.1 78 6).toInt (M136.1 78 5).toInt (M136.1 78 6).toInt (psX M136) (by decide) (at_g gf gn (fun h => by cases h)) (by omega) (by omega)
          have u163r : b01 (RR ((teP gf gn true (fun i => (0, 0, i))) gi) (M0.1 78 5).toInt (M0.1 78 6).toInt (M136.1 78 5).toInt (M136.1 78 6).toInt (psX M136)) = 1 := rr_sq ((atP gf gn true (fun i => (0, 0, i))) gi) (luP gf gn 2042 2042 (atP gf gn true (fun i => (0, 0, i)))) (M0.1 78 5).toInt (M0.1 78 6).toInt (M102.1 78 5).toInt (M102.1 78 6).toInt (psX M102) (M136.1 78 5).toInt (M136.1 78 6).toInt (psX M136) (by omega) (by omega)
          exact hret _ _ _ dX8_term_59 ⟨hM136, by omega⟩
        · refine j_aload_n C 0 0 dX8_term_21 rfl rfl ?_
          refine j_callVi C (d := 0) (As := []) (st := []) 78 (s_lt rfl rfl) (s_kc (c := 7) rfl rfl) (by decide) rfl (s1_X8_token hM136 gf gn gq137 (by omega) (by omega)) gX8_term_X8_token rfl hdX8_token (by decide) (Nat.le_of_ble_eq_true rfl) dX8_term_22 rfl (fun r144 M145 h146 => ?_)
          obtain ⟨a148, rfl, rfl, h147⟩ := h146
          refine y_sipush C dX8_term_25 rfl ?_
          refine y_icmp_ne C 59 dX8_term_28 (by decide) (by omega) (fun h149 => ?_) (fun h149 => ?_)
          · have u164e := ll_e gf gn 2042 2042 (atP gf gn true (fun i => (0, 0, i))) ((atP gf gn true (fun i => (0, 0, i))) gi).2.2 gq137 a135 (M102.1 78 5).toInt (M102.1 78 6).toInt (M136.1 78 5).toInt (M136.1 78 6).toInt (psX M136) (by decide) (at_g gf gn (fun h => by cases h)) (by omega) (by omega)
            have u164r : b01 (RR ((teP gf gn true (fun i => (0, 0, i))) gi) (M0.1 78 5).toInt (M0.1 78 6).toInt (M136.1 78 5).toInt (M136.1 78 6).toInt (psX M136)) = 1 := rr_sq ((atP gf gn true (fun i => (0, 0, i))) gi) (luP gf gn 2042 2042 (atP gf gn true (fun i => (0, 0, i)))) (M0.1 78 5).toInt (M0.1 78 6).toInt (M102.1 78 5).toInt (M102.1 78 6).toInt (psX M102) (M136.1 78 5).toInt (M136.1 78 6).toInt (psX M136) (by omega) (by omega)
            exact hret _ _ _ dX8_term_59 ⟨hM136, by omega⟩
          · refine j_aload_n C 0 0 dX8_term_31 rfl rfl ?_
            refine j_dup C dX8_term_32 rfl ?_
            refine y_getI C 7 _ _ fX8_term_18 rfl rfl ft_7_2 sb_7_2 hM136 dX8_term_33 (fun a150 ea150 la150 ua150 => ?_)
            refine y_iconst C dX8_term_36 ?_
            refine y_iadd C dX8_term_37 ?_
            refine y_putI C 7 _ _ qX8_term_18 rfl rfl ft_7_2 sb_7_2 hM136 (PX.w hpr rfl rfl) dX8_term_38 (by omega) (fun M152 eM152 hM152 => ?_)
            have xM152 := tkx_j (f := gf) (n := gn) (gi := gq137) eM152 (by omega) (by omega) (by omega) (by omega)
            refine j_aload_n C 0 0 dX8_term_41 rfl rfl ?_
            refine j_iload_n C 1 1 dX8_term_42 rfl rfl ?_
            refine j_callVv C (d := 3) (As := [.int (sI 6)]) (st := []) 78 (s_lt rfl rfl) (s_kc (c := 7) rfl rfl) (by decide) rfl (s2_X8_atom hM152 hpr gf gn (nxF gf gn gq137) (by omega) (by omega)) gX8_term_X8_atom rfl hdX8_atom (by decide) (Nat.le_of_ble_eq_true rfl) dX8_term_43 rfl (fun M154 h155 => ?_)
            obtain ⟨hM154, h156⟩ := h155
            have bM154 := tkx_b (f := gf) (n := gn) (M := M154) (by omega)
            have qM154 := po_rr (atP gf gn true (fun i => (0, 0, i))) gn (nxF gf gn gq137) (M152.1 78 5).toInt (M152.1 78 6).toInt (psX M152) (M154.1 78 5).toInt (M154.1 78 6).toInt (psX M154) (at_g gf gn (fun h => by cases h)) (by omega) (by omega)
            refine j_aload_n C 0 0 dX8_term_46 rfl rfl ?_
            refine y_sipush C dX8_term_47 rfl ?_
            refine j_callVv C (d := 0) (As := [.int (sI 2042)]) (st := []) 78 (s_lt rfl rfl) (s_kc (c := 7) rfl rfl) (by decide) rfl (s1_X8_emit hM154 hpr 2042 (by omega) gf gn ((atP gf gn true (fun i => (0, 0, i))) (nxF gf gn gq137)).2.2 (by omega) (by omega)) gX8_term_X8_emit rfl hdX8_emit (by decide) (Nat.le_of_ble_eq_true rfl) dX8_term_50 rfl (fun M158 h159 => ?_)
            obtain ⟨hM158, h160⟩ := h159
            have bM158 := tkx_b (f := gf) (n := gn) (M := M158) (by omega)
            have qM158 := po_eq gn ((atP gf gn true (fun i => (0, 0, i))) (nxF gf gn gq137)).2.2 (M154.1 78 5).toInt (psX M154) (M158.1 78 5).toInt (psX M158) (by omega) (by omega) (by omega)
            refine y_iinc C 2 [(2, .int (sI (a135 + 1))), (0, .ref (ad 78)), (1, .int (sI 6))] dX8_term_53 rfl (by decide) rfl ?_
            have u161s := ll_s gf gn 2042 2042 (atP gf gn true (fun i => (0, 0, i))) ((atP gf gn true (fun i => (0, 0, i))) gi).2.2 gq137 a135 (M102.1 78 5).toInt (M102.1 78 6).toInt (M136.1 78 5).toInt (M136.1 78 6).toInt (psX M136) (M152.1 78 5).toInt (M152.1 78 6).toInt (M154.1 78 5).toInt (M154.1 78 6).toInt (psX M154) (M158.1 78 5).toInt (M158.1 78 6).toInt (psX M158) (by decide) (at_g gf gn (fun h => by cases h)) (by omega) (by omega) (by omega) (by omega) (by omega) (by omega) (by omega) (by omega) (by omega)
            refine j_goto C 7 dX8_term_56 (by decide) ?_
            refine j_lv [1, 2, 0] rfl ?_; exact ih133 (a135 + 1) M158 ((atP gf gn true (fun i => (0, 0, i))) (nxF gf gn gq137)).2.2 (by omega) hM158
  refine j_lv [1, 2, 0] rfl ?_; exact L134 2010 0 M102 ((atP gf gn true (fun i => (0, 0, i))) gi).2.2 (by omega) hM102
set_option maxHeartbeats 4000000 in
theorem s2_X8_sum {l : Launch} {dC : Nat → ClassId} {dI : Nat → Nat → Nat} {ad : Nat → Nat} {cA : Nat → ClassId} {pr : Nat → Nat → Bool} {Kz : mm_M} {M0 : mm_M} (hM0 : INV pr Kz M0) (hpr : PX pr) (gf : Nat → Int) (gn : Int) (gi : Int) (hp0 : b01 (TKX gf gn M0) = 1) (hp1 : b01 (PO gn gi (M0.1 78 5).toInt (psX M0)) = 1) : Cv l 5 yX8_sum wsX8_sum dC dI ad cA [.ref (ad 78), .int (sI 6)] M0 (fun M' => INV pr Kz M' ∧ (b01 (TKX gf gn M') = 1) ∧ b01 (RR ((suR gf gn 0) gi) (M0.1 78 5).toInt (M0.1 78 6).toInt (M'.1 78 5).toInt (M'.1 78 6).toInt (psX M')) = 1) := by
  refine cv_of (cc := cX8_sum) (maxL := 4) (lv := [(0, .ref (ad 78)), (1, .int (sI 6))]) (by decide) rfl (Nat.le_of_ble_eq_true rfl) rfl ?_
  intro p e s m args below meth c A Q C hret
  refine j_aload_n C 0 0 dX8_sum_0 rfl rfl ?_
  refine j_iload_n C 1 1 dX8_sum_1 rfl rfl ?_
  refine j_callVv C (d := 4) (As := [.int (sI 6)]) (st := []) 78 (s_lt rfl rfl) (s_kc (c := 7) rfl rfl) (by decide) rfl (s2_X8_term hM0 hpr gf gn gi (by omega) (by omega)) gX8_sum_X8_term rfl hdX8_term (by decide) (Nat.le_of_ble_eq_true rfl) dX8_sum_2 rfl (fun M102 h103 => ?_)
  obtain ⟨hM102, h104⟩ := h103
  have bM102 := tkx_b (f := gf) (n := gn) (M := M102) (by omega)
  have qM102 := po_rr (teP gf gn true (fun i => (0, 0, i))) gn gi (M0.1 78 5).toInt (M0.1 78 6).toInt (psX M0) (M102.1 78 5).toInt (M102.1 78 6).toInt (psX M102) (te_g gf gn (fun h => by cases h)) (by omega) (by omega)
  refine j_aload_n C 0 0 dX8_sum_5 rfl rfl ?_
  refine j_callVi C (d := 0) (As := []) (st := []) 78 (s_lt rfl rfl) (s_kc (c := 7) rfl rfl) (by decide) rfl (s1_X8_token hM102 gf gn ((teP gf gn true (fun i => (0, 0, i))) gi).2.2 (by omega) (by omega)) gX8_sum_X8_token rfl hdX8_token (by decide) (Nat.le_of_ble_eq_true rfl) dX8_sum_6 rfl (fun r105 M106 h107 => ?_)
  obtain ⟨a109, rfl, rfl, h108⟩ := h107
  refine j_istore_n C 2 [(2, .int (sI a109)), (0, .ref (ad 78)), (1, .int (sI 6))] dX8_sum_9 rfl (by decide) rfl ?_
  refine y_iconst C dX8_sum_10 ?_
  have u110l := ll_0 (luP gf gn 2043 2045 (teP gf gn true (fun i => (0, 0, i)))) gn ((teP gf gn true (fun i => (0, 0, i))) gi).2.2 (M102.1 78 5).toInt (M102.1 78 6).toInt (psX M102) (by omega)
  refine j_istore_n C 3 [(3, .int (sI 0)), (2, .int (sI a109)), (0, .ref (ad 78)), (1, .int (sI 6))] dX8_sum_11 rfl (by decide) rfl ?_
  have L158 : ∀ (n156 : Nat), ∀ (a159 : Int) (a160 : Int) (M161 : mm_M) (gq162 : Int), ((-2147483648) ≤ a159 ∧ a159 ≤ 2147483647 ∧ 0 ≤ a160 ∧ a160 ≤ 900 ∧ (b01 (LL (luP gf gn 2043 2045 (teP gf gn true (fun i => (0, 0, i)))) gn ((teP gf gn true (fun i => (0, 0, i))) gi).2.2 gq162 a160 (M102.1 78 5).toInt (M102.1 78 6).toInt (M161.1 78 5).toInt (M161.1 78 6).toInt (psX M161)) = 1) ∧ (a159 = tkF gf gn (psX M161)) ∧ (b01 (TKX gf gn M161) = 1) ∧ (b01 (PO gn gq162 (M161.1 78 5).toInt (psX M161)) = 1) ∧ (900 - a160) < (n156 : Int)) → INV pr Kz M161 → jj p l e (cn_R 5) s m args below meth c 0 0 Q 4 dC dI ad cA A M161 12 [(0, .ref (ad 78)), (1, .int (sI 6)), (2, .int (sI a159)), (3, .int (sI a160))] [] := by
    intro n156
    induction n156 with
    | zero =>
      intro a159 a160 M161 gq162 h163 hM161
      exfalso; omega
    | succ n156 ih157 =>
      intro a159 a160 M161 gq162 h163 hM161
      have u164b := tkx_b (f := gf) (n := gn) (M := M161) (by omega)
      refine j_iload_n C 3 3 dX8_sum_12 rfl rfl ?_
      refine y_sipush C dX8_sum_13 rfl ?_
      refine y_icmp_ge C 71 dX8_sum_16 (by decide) (by omega) (fun h165 => ?_) (fun h165 => ?_)
      · have u205e := ll_e gf gn 2043 2045 (teP gf gn true (fun i => (0, 0, i))) ((teP gf gn true (fun i => (0, 0, i))) gi).2.2 gq162 a160 (M102.1 78 5).toInt (M102.1 78 6).toInt (M161.1 78 5).toInt (M161.1 78 6).toInt (psX M161) (by decide) (te_g gf gn (fun h => by cases h)) (by omega) (by omega)
        have u205r : b01 (RR ((suR gf gn 0) gi) (M0.1 78 5).toInt (M0.1 78 6).toInt (M161.1 78 5).toInt (M161.1 78 6).toInt (psX M161)) = 1 := by rw [su_q0 gf gn]; exact rr_sq ((teP gf gn true (fun i => (0, 0, i))) gi) (luP gf gn 2043 2045 (teP gf gn true (fun i => (0, 0, i)))) (M0.1 78 5).toInt (M0.1 78 6).toInt (M102.1 78 5).toInt (M102.1 78 6).toInt (psX M102) (M161.1 78 5).toInt (M161.1 78 6).toInt (psX M161) (by omega) (by omega)
        exact hret _ _ _ dX8_sum_71 ⟨hM161, by omega⟩
      · refine j_aload_n C 0 0 dX8_sum_19 rfl rfl ?_
        refine y_getI C 7 _ _ fX8_sum_22 rfl rfl ft_7_5 sb_7_5 hM161 dX8_sum_20 (fun a166 ea166 la166 ua166 => ?_)
        refine y_if_ne C 71 dX8_sum_23 (by decide) (by omega) (fun h168 => ?_) (fun h168 => ?_)
        · have u206e := ll_e gf gn 2043 2045 (teP gf gn true (fun i => (0, 0, i))) ((teP gf gn true (fun i => (0, 0, i))) gi).2.2 gq162 a160 (M102.1 78 5).toInt (M102.1 78 6).toInt (M161.1 78 5).toInt (M161.1 78 6).toInt (psX M161) (by decide) (te_g gf gn (fun h => by cases h)) (by omega) (by omega)
          have u206r : b01 (RR ((suR gf gn 0) gi) (M0.1 78 5).toInt (M0.1 78 6).toInt (M161.1 78 5).toInt (M161.1 78 6).toInt (psX M161)) = 1 := by rw [su_q0 gf gn]; exact rr_sq ((teP gf gn true (fun i => (0, 0, i))) gi) (luP gf gn 2043 2045 (teP gf gn true (fun i => (0, 0, i)))) (M0.1 78 5).toInt (M0.1 78 6).toInt (M102.1 78 5).toInt (M102.1 78 6).toInt (psX M102) (M161.1 78 5).toInt (M161.1 78 6).toInt (psX M161) (by omega) (by omega)
          exact hret _ _ _ dX8_sum_71 ⟨hM161, by omega⟩
        · refine j_iload_n C 2 2 dX8_sum_26 rfl rfl ?_
          refine y_sipush C dX8_sum_27 rfl ?_
          refine y_icmp_eq C 40 dX8_sum_30 (by decide) (by omega) (fun h169 => ?_) (fun h169 => ?_)
          · refine j_aload_n C 0 0 dX8_sum_40 rfl rfl ?_
            refine j_dup C dX8_sum_41 rfl ?_
            refine y_getI C 7 _ _ fX8_sum_18 rfl rfl ft_7_2 sb_7_2 hM161 dX8_sum_42 (fun a170 ea170 la170 ua170 => ?_)
            refine y_iconst C dX8_sum_45 ?_
            refine y_iadd C dX8_sum_46 ?_
            refine y_putI C 7 _ _ qX8_sum_18 rfl rfl ft_7_2 sb_7_2 hM161 (PX.w hpr rfl rfl) dX8_sum_47 (by omega) (fun M172 eM172 hM172 => ?_)
            have xM172 := tkx_j (f := gf) (n := gn) (gi := gq162) eM172 (by omega) (by omega) (by omega) (by omega)
            refine j_aload_n C 0 0 dX8_sum_50 rfl rfl ?_
            refine j_iload_n C 1 1 dX8_sum_51 rfl rfl ?_
            refine j_callVv C (d := 4) (As := [.int (sI 6)]) (st := []) 78 (s_lt rfl rfl) (s_kc (c := 7) rfl rfl) (by decide) rfl (s2_X8_term hM172 hpr gf gn (nxF gf gn gq162) (by omega) (by omega)) gX8_sum_X8_term rfl hdX8_term (by decide) (Nat.le_of_ble_eq_true rfl) dX8_sum_52 rfl (fun M174 h175 => ?_)
            obtain ⟨hM174, h176⟩ := h175
            have bM174 := tkx_b (f := gf) (n := gn) (M := M174) (by omega)
            have qM174 := po_rr (teP gf gn true (fun i => (0, 0, i))) gn (nxF gf gn gq162) (M172.1 78 5).toInt (M172.1 78 6).toInt (psX M172) (M174.1 78 5).toInt (M174.1 78 6).toInt (psX M174) (te_g gf gn (fun h => by cases h)) (by omega) (by omega)
            refine j_aload_n C 0 0 dX8_sum_55 rfl rfl ?_
            refine j_iload_n C 2 2 dX8_sum_56 rfl rfl ?_
            refine j_callVv C (d := 0) (As := [.int (sI a159)]) (st := []) 78 (s_lt rfl rfl) (s_kc (c := 7) rfl rfl) (by decide) rfl (s1_X8_emit hM174 hpr a159 (by omega) gf gn ((teP gf gn true (fun i => (0, 0, i))) (nxF gf gn gq162)).2.2 (by omega) (by omega)) gX8_sum_X8_emit rfl hdX8_emit (by decide) (Nat.le_of_ble_eq_true rfl) dX8_sum_57 rfl (fun M178 h179 => ?_)
            obtain ⟨hM178, h180⟩ := h179
            have bM178 := tkx_b (f := gf) (n := gn) (M := M178) (by omega)
            have qM178 := po_eq gn ((teP gf gn true (fun i => (0, 0, i))) (nxF gf gn gq162)).2.2 (M174.1 78 5).toInt (psX M174) (M178.1 78 5).toInt (psX M178) (by omega) (by omega) (by omega)
            refine j_aload_n C 0 0 dX8_sum_60 rfl rfl ?_
            refine j_callVi C (d := 0) (As := []) (st := []) 78 (s_lt rfl rfl) (s_kc (c := 7) rfl rfl) (by decide) rfl (s1_X8_token hM178 gf gn ((teP gf gn true (fun i => (0, 0, i))) (nxF gf gn gq162)).2.2 (by omega) (by omega)) gX8_sum_X8_token rfl hdX8_token (by decide) (Nat.le_of_ble_eq_true rfl) dX8_sum_61 rfl (fun r181 M182 h183 => ?_)
            obtain ⟨a185, rfl, rfl, h184⟩ := h183
            refine j_istore_n C 2 [(2, .int (sI a185)), (0, .ref (ad 78)), (1, .int (sI 6)), (3, .int (sI a160))] dX8_sum_64 rfl (by decide) rfl ?_
            refine y_iinc C 3 [(3, .int (sI (a160 + 1))), (2, .int (sI a185)), (0, .ref (ad 78)), (1, .int (sI 6))] dX8_sum_65 rfl (by decide) rfl ?_
            have u186s := ll_s gf gn 2043 2045 (teP gf gn true (fun i => (0, 0, i))) ((teP gf gn true (fun i => (0, 0, i))) gi).2.2 gq162 a160 (M102.1 78 5).toInt (M102.1 78 6).toInt (M161.1 78 5).toInt (M161.1 78 6).toInt (psX M161) (M172.1 78 5).toInt (M172.1 78 6).toInt (M174.1 78 5).toInt (M174.1 78 6).toInt (psX M174) (M178.1 78 5).toInt (M178.1 78 6).toInt (psX M178) (by decide) (te_g gf gn (fun h => by cases h)) (by omega) (by omega) (by omega) (by omega) (by omega) (by omega) (by omega) (by omega) (by omega)
            refine j_goto C 12 dX8_sum_68 (by decide) ?_
            refine j_lv [2, 3, 1, 0] rfl ?_; exact ih157 a185 (a160 + 1) M178 ((teP gf gn true (fun i => (0, 0, i))) (nxF gf gn gq162)).2.2 (by omega) hM178
          · refine j_iload_n C 2 2 dX8_sum_33 rfl rfl ?_
            refine y_sipush C dX8_sum_34 rfl ?_
            refine y_icmp_ne C 71 dX8_sum_37 (by decide) (by omega) (fun h187 => ?_) (fun h187 => ?_)
            · have u207e := ll_e gf gn 2043 2045 (teP gf gn true (fun i => (0, 0, i))) ((teP gf gn true (fun i => (0, 0, i))) gi).2.2 gq162 a160 (M102.1 78 5).toInt (M102.1 78 6).toInt (M161.1 78 5).toInt (M161.1 78 6).toInt (psX M161) (by decide) (te_g gf gn (fun h => by cases h)) (by omega) (by omega)
              have u207r : b01 (RR ((suR gf gn 0) gi) (M0.1 78 5).toInt (M0.1 78 6).toInt (M161.1 78 5).toInt (M161.1 78 6).toInt (psX M161)) = 1 := by rw [su_q0 gf gn]; exact rr_sq ((teP gf gn true (fun i => (0, 0, i))) gi) (luP gf gn 2043 2045 (teP gf gn true (fun i => (0, 0, i)))) (M0.1 78 5).toInt (M0.1 78 6).toInt (M102.1 78 5).toInt (M102.1 78 6).toInt (psX M102) (M161.1 78 5).toInt (M161.1 78 6).toInt (psX M161) (by omega) (by omega)
              exact hret _ _ _ dX8_sum_71 ⟨hM161, by omega⟩
            · refine j_aload_n C 0 0 dX8_sum_40 rfl rfl ?_
              refine j_dup C dX8_sum_41 rfl ?_
              refine y_getI C 7 _ _ fX8_sum_18 rfl rfl ft_7_2 sb_7_2 hM161 dX8_sum_42 (fun a188 ea188 la188 ua188 => ?_)
              refine y_iconst C dX8_sum_45 ?_
              refine y_iadd C dX8_sum_46 ?_
              refine y_putI C 7 _ _ qX8_sum_18 rfl rfl ft_7_2 sb_7_2 hM161 (PX.w hpr rfl rfl) dX8_sum_47 (by omega) (fun M190 eM190 hM190 => ?_)
              have xM190 := tkx_j (f := gf) (n := gn) (gi := gq162) eM190 (by omega) (by omega) (by omega) (by omega)
              refine j_aload_n C 0 0 dX8_sum_50 rfl rfl ?_
              refine j_iload_n C 1 1 dX8_sum_51 rfl rfl ?_
              refine j_callVv C (d := 4) (As := [.int (sI 6)]) (st := []) 78 (s_lt rfl rfl) (s_kc (c := 7) rfl rfl) (by decide) rfl (s2_X8_term hM190 hpr gf gn (nxF gf gn gq162) (by omega) (by omega)) gX8_sum_X8_term rfl hdX8_term (by decide) (Nat.le_of_ble_eq_true rfl) dX8_sum_52 rfl (fun M192 h193 => ?_)
              obtain ⟨hM192, h194⟩ := h193
              have bM192 := tkx_b (f := gf) (n := gn) (M := M192) (by omega)
              have qM192 := po_rr (teP gf gn true (fun i => (0, 0, i))) gn (nxF gf gn gq162) (M190.1 78 5).toInt (M190.1 78 6).toInt (psX M190) (M192.1 78 5).toInt (M192.1 78 6).toInt (psX M192) (te_g gf gn (fun h => by cases h)) (by omega) (by omega)
              refine j_aload_n C 0 0 dX8_sum_55 rfl rfl ?_
              refine j_iload_n C 2 2 dX8_sum_56 rfl rfl ?_
              refine j_callVv C (d := 0) (As := [.int (sI a159)]) (st := []) 78 (s_lt rfl rfl) (s_kc (c := 7) rfl rfl) (by decide) rfl (s1_X8_emit hM192 hpr a159 (by omega) gf gn ((teP gf gn true (fun i => (0, 0, i))) (nxF gf gn gq162)).2.2 (by omega) (by omega)) gX8_sum_X8_emit rfl hdX8_emit (by decide) (Nat.le_of_ble_eq_true rfl) dX8_sum_57 rfl (fun M196 h197 => ?_)
              obtain ⟨hM196, h198⟩ := h197
              have bM196 := tkx_b (f := gf) (n := gn) (M := M196) (by omega)
              have qM196 := po_eq gn ((teP gf gn true (fun i => (0, 0, i))) (nxF gf gn gq162)).2.2 (M192.1 78 5).toInt (psX M192) (M196.1 78 5).toInt (psX M196) (by omega) (by omega) (by omega)
              refine j_aload_n C 0 0 dX8_sum_60 rfl rfl ?_
              refine j_callVi C (d := 0) (As := []) (st := []) 78 (s_lt rfl rfl) (s_kc (c := 7) rfl rfl) (by decide) rfl (s1_X8_token hM196 gf gn ((teP gf gn true (fun i => (0, 0, i))) (nxF gf gn gq162)).2.2 (by omega) (by omega)) gX8_sum_X8_token rfl hdX8_token (by decide) (Nat.le_of_ble_eq_true rfl) dX8_sum_61 rfl (fun r199 M200 h201 => ?_)
              obtain ⟨a203, rfl, rfl, h202⟩ := h201
              refine j_istore_n C 2 [(2, .int (sI a203)), (0, .ref (ad 78)), (1, .int (sI 6)), (3, .int (sI a160))] dX8_sum_64 rfl (by decide) rfl ?_
              refine y_iinc C 3 [(3, .int (sI (a160 + 1))), (2, .int (sI a203)), (0, .ref (ad 78)), (1, .int (sI 6))] dX8_sum_65 rfl (by decide) rfl ?_
              have u204s := ll_s gf gn 2043 2045 (teP gf gn true (fun i => (0, 0, i))) ((teP gf gn true (fun i => (0, 0, i))) gi).2.2 gq162 a160 (M102.1 78 5).toInt (M102.1 78 6).toInt (M161.1 78 5).toInt (M161.1 78 6).toInt (psX M161) (M190.1 78 5).toInt (M190.1 78 6).toInt (M192.1 78 5).toInt (M192.1 78 6).toInt (psX M192) (M196.1 78 5).toInt (M196.1 78 6).toInt (psX M196) (by decide) (te_g gf gn (fun h => by cases h)) (by omega) (by omega) (by omega) (by omega) (by omega) (by omega) (by omega) (by omega) (by omega)
              refine j_goto C 12 dX8_sum_68 (by decide) ?_
              refine j_lv [2, 3, 1, 0] rfl ?_; exact ih157 a203 (a160 + 1) M196 ((teP gf gn true (fun i => (0, 0, i))) (nxF gf gn gq162)).2.2 (by omega) hM196
  refine j_lv [2, 3, 1, 0] rfl ?_; exact L158 4294967306 a109 0 M102 ((teP gf gn true (fun i => (0, 0, i))) gi).2.2 (by omega) hM102
set_option maxHeartbeats 4000000 in
theorem s3_X8_atom {l : Launch} {dC : Nat → ClassId} {dI : Nat → Nat → Nat} {ad : Nat → Nat} {cA : Nat → ClassId} {pr : Nat → Nat → Bool} {Kz : mm_M} {M0 : mm_M} (hM0 : INV pr Kz M0) (hpr : PX pr) (gf : Nat → Int) (gn : Int) (gi : Int) (hp0 : b01 (TKX gf gn M0) = 1) (hp1 : b01 (PO gn gi (M0.1 78 5).toInt (psX M0)) = 1) : Cv l 6 yX8_atom wsX8_atom dC dI ad cA [.ref (ad 78), .int (sI 5)] M0 (fun M' => INV pr Kz M' ∧ (b01 (TKX gf gn M') = 1) ∧ b01 (RR ((atP gf gn false (suR gf gn 0)) gi) (M0.1 78 5).toInt (M0.1 78 6).toInt (M'.1 78 5).toInt (M'.1 78 6).toInt (psX M')) = 1) := by
  refine cv_of (cc := cX8_atom) (maxL := 3) (lv := [(0, .ref (ad 78)), (1, .int (sI 5))]) (by decide) rfl (Nat.le_of_ble_eq_true rfl) rfl ?_
  intro p e s m args below meth c A Q C hret
  have u101b := tkx_b (f := gf) (n := gn) (M := M0) (by omega)
  refine j_aload_n C 0 0 dX8_atom_0 rfl rfl ?_
  refine y_getI C 7 _ _ fX8_atom_22 rfl rfl ft_7_5 sb_7_5 hM0 dX8_atom_1 (fun a102 ea102 la102 ua102 => ?_)
  refine y_if_eq C 8 dX8_atom_4 (by decide) (by omega) (fun h104 => ?_) (fun h104 => ?_)
  · refine j_aload_n C 0 0 dX8_atom_8 rfl rfl ?_
    refine j_callVi C (d := 0) (As := []) (st := []) 78 (s_lt rfl rfl) (s_kc (c := 7) rfl rfl) (by decide) rfl (s1_X8_token hM0 gf gn gi (by omega) (by omega)) gX8_atom_X8_token rfl hdX8_token (by decide) (Nat.le_of_ble_eq_true rfl) dX8_atom_9 rfl (fun r105 M106 h107 => ?_)
    obtain ⟨a109, rfl, rfl, h108⟩ := h107
    refine j_istore_n C 2 [(2, .int (sI a109)), (0, .ref (ad 78)), (1, .int (sI 5))] dX8_atom_12 rfl (by decide) rfl ?_
    refine j_iload_n C 0 2 dX8_atom_13 rfl rfl ?_
    refine y_sipush C dX8_atom_14 rfl ?_
    refine y_icmp_ge C 38 dX8_atom_17 (by decide) (by omega) (fun h110 => ?_) (fun h110 => ?_)
    · refine j_iload_n C 0 2 dX8_atom_38 rfl rfl ?_
      refine y_sipush C dX8_atom_39 rfl ?_
      refine y_icmp_ne C 67 dX8_atom_42 (by decide) (by omega) (fun h111 => ?_) (fun h111 => ?_)
      · refine j_aload_n C 1 0 dX8_atom_67 rfl rfl ?_
        refine y_iconst C dX8_atom_68 ?_
        refine j_callVv C (d := 0) (As := [.int (sI 2)]) (st := []) 78 (s_lt rfl rfl) (s_kc (c := 7) rfl rfl) (by decide) rfl (s1_X8_fail hM0 hpr 2 (by omega) gf gn gi (by omega) (by omega) (by omega)) gX8_atom_X8_fail rfl hdX8_fail (by decide) (Nat.le_of_ble_eq_true rfl) dX8_atom_69 rfl (fun M113 h114 => ?_)
        obtain ⟨hM113, fM113, h115⟩ := h114
        have bM113 := tkx_b (f := gf) (n := gn) (M := M113) (by omega)
        have qM113 := po_f gn gi (M113.1 78 5).toInt (psX M113) (by omega)
        have u116r := at_4 gf gn false (suR gf gn 0) gi (M0.1 78 5).toInt (M0.1 78 6).toInt (psX M0) (M113.1 78 5).toInt (M113.1 78 6).toInt (psX M113) (by omega) (by omega) (by omega)
        exact hret _ _ _ dX8_atom_72 ⟨hM113, by omega⟩
      · refine j_aload_n C 1 0 dX8_atom_45 rfl rfl ?_
        refine j_iload_n C 2 1 dX8_atom_46 rfl rfl ?_
        refine j_callVv C (d := 0) (As := [.int (sI 5)]) (st := []) 78 (s_lt rfl rfl) (s_kc (c := 7) rfl rfl) (by decide) rfl (s6_X8_goDeeper hM0 hpr gf gn gi (by omega) (by omega) (by omega) (by omega) (by omega)) gX8_atom_X8_goDeeper rfl hdX8_goDeeper (by decide) (Nat.le_of_ble_eq_true rfl) dX8_atom_47 rfl (fun M118 h119 => ?_)
        obtain ⟨hM118, fM118, h120⟩ := h119
        have bM118 := tkx_b (f := gf) (n := gn) (M := M118) (by omega)
        refine j_aload_n C 1 0 dX8_atom_50 rfl rfl ?_
        refine j_iload_n C 2 1 dX8_atom_51 rfl rfl ?_
        refine y_iconst C dX8_atom_52 ?_
        refine y_iadd C dX8_atom_53 ?_
        refine j_callVv C (d := 5) (As := [.int (sI (5 + 1))]) (st := []) 78 (s_lt rfl rfl) (s_kc (c := 7) rfl rfl) (by decide) rfl (s2_X8_sum hM118 hpr gf gn (nxF gf gn gi) (by omega) (by omega)) gX8_atom_X8_sum rfl hdX8_sum (by decide) (Nat.le_of_ble_eq_true rfl) dX8_atom_54 rfl (fun M122 h123 => ?_)
        obtain ⟨hM122, h124⟩ := h123
        have bM122 := tkx_b (f := gf) (n := gn) (M := M122) (by omega)
        have qM122 := po_rr (suR gf gn 0) gn (nxF gf gn gi) (M118.1 78 5).toInt (M118.1 78 6).toInt (psX M118) (M122.1 78 5).toInt (M122.1 78 6).toInt (psX M122) (suR_g gf gn 0) (by omega) (by omega)
        refine j_aload_n C 1 0 dX8_atom_57 rfl rfl ?_
        refine y_sipush C dX8_atom_58 rfl ?_
        refine j_callVv C (d := 1) (As := [.int (sI 2041)]) (st := []) 78 (s_lt rfl rfl) (s_kc (c := 7) rfl rfl) (by decide) rfl (s1_X8_expect hM122 hpr 2041 (by omega) gf gn ((suR gf gn 0) (nxF gf gn gi)).2.2 (by omega) (by omega) (by omega) (by omega)) gX8_atom_X8_expect rfl hdX8_expect (by decide) (Nat.le_of_ble_eq_true rfl) dX8_atom_61 rfl (fun M126 h127 => ?_)
        obtain ⟨hM126, fM126, h128⟩ := h127
        have bM126 := tkx_b (f := gf) (n := gn) (M := M126) (by omega)
        have qM126 := po_rr (exP gf gn 2041) gn ((suR gf gn 0) (nxF gf gn gi)).2.2 (M122.1 78 5).toInt (M122.1 78 6).toInt (psX M122) (M126.1 78 5).toInt (M126.1 78 6).toInt (psX M126) (ex_g gf gn 2041 (by omega)) (by omega) (by omega)
        refine j_goto C 72 dX8_atom_64 (by decide) ?_
        have u129r := at_2 gf gn (suR gf gn 0) gi (M0.1 78 5).toInt (M0.1 78 6).toInt (psX M0) (M118.1 78 5).toInt (M118.1 78 6).toInt (M122.1 78 5).toInt (M122.1 78 6).toInt (psX M122) (M126.1 78 5).toInt (M126.1 78 6).toInt (psX M126) (by omega) (by omega) (by omega) (by omega) (by omega) (by omega)
        exact hret _ _ _ dX8_atom_72 ⟨hM126, by omega⟩
    · refine j_aload_n C 1 0 dX8_atom_20 rfl rfl ?_
      refine j_dup C dX8_atom_21 rfl ?_
      refine y_getI C 7 _ _ fX8_atom_18 rfl rfl ft_7_2 sb_7_2 hM0 dX8_atom_22 (fun a130 ea130 la130 ua130 => ?_)
      refine y_iconst C dX8_atom_25 ?_
      refine y_iadd C dX8_atom_26 ?_
      refine y_putI C 7 _ _ qX8_atom_18 rfl rfl ft_7_2 sb_7_2 hM0 (PX.w hpr rfl rfl) dX8_atom_27 (by omega) (fun M132 eM132 hM132 => ?_)
      have xM132 := tkx_j (f := gf) (n := gn) (gi := gi) eM132 (by omega) (by omega) (by omega) (by omega)
      refine j_aload_n C 1 0 dX8_atom_30 rfl rfl ?_
      refine j_iload_n C 0 2 dX8_atom_31 rfl rfl ?_
      refine j_callVv C (d := 0) (As := [.int (sI a109)]) (st := []) 78 (s_lt rfl rfl) (s_kc (c := 7) rfl rfl) (by decide) rfl (s1_X8_emit hM132 hpr a109 (by omega) gf gn (nxF gf gn gi) (by omega) (by omega)) gX8_atom_X8_emit rfl hdX8_emit (by decide) (Nat.le_of_ble_eq_true rfl) dX8_atom_32 rfl (fun M134 h135 => ?_)
      obtain ⟨hM134, h136⟩ := h135
      have bM134 := tkx_b (f := gf) (n := gn) (M := M134) (by omega)
      have qM134 := po_eq gn (nxF gf gn gi) (M132.1 78 5).toInt (psX M132) (M134.1 78 5).toInt (psX M134) (by omega) (by omega) (by omega)
      refine j_goto C 72 dX8_atom_35 (by decide) ?_
      have u137r := rr_eq ((atP gf gn false (suR gf gn 0)) gi) (M0.1 78 5).toInt (M0.1 78 6).toInt (M132.1 78 5).toInt (M132.1 78 6).toInt (psX M132) (M134.1 78 5).toInt (M134.1 78 6).toInt (psX M134) (at_1 gf gn false (suR gf gn 0) gi (M0.1 78 5).toInt (M0.1 78 6).toInt (psX M0) (M132.1 78 5).toInt (M132.1 78 6).toInt (psX M132) (by omega) (by omega) (by omega) (by omega) (by omega) (by omega)) (by omega) (by omega) (by omega)
      exact hret _ _ _ dX8_atom_72 ⟨hM134, by omega⟩
  · have u138r := rr_no ((atP gf gn false (suR gf gn 0)) gi) (M0.1 78 5).toInt (M0.1 78 6).toInt (M0.1 78 5).toInt (M0.1 78 6).toInt (psX M0) (by omega) rfl rfl
    exact hret _ _ _ dX8_atom_7 ⟨hM0, by omega⟩
set_option maxHeartbeats 4000000 in
theorem s3_X8_term {l : Launch} {dC : Nat → ClassId} {dI : Nat → Nat → Nat} {ad : Nat → Nat} {cA : Nat → ClassId} {pr : Nat → Nat → Bool} {Kz : mm_M} {M0 : mm_M} (hM0 : INV pr Kz M0) (hpr : PX pr) (gf : Nat → Int) (gn : Int) (gi : Int) (hp0 : b01 (TKX gf gn M0) = 1) (hp1 : b01 (PO gn gi (M0.1 78 5).toInt (psX M0)) = 1) : Cv l 7 yX8_term wsX8_term dC dI ad cA [.ref (ad 78), .int (sI 5)] M0 (fun M' => INV pr Kz M' ∧ (b01 (TKX gf gn M') = 1) ∧ b01 (RR ((teP gf gn false (suR gf gn 0)) gi) (M0.1 78 5).toInt (M0.1 78 6).toInt (M'.1 78 5).toInt (M'.1 78 6).toInt (psX M')) = 1) := by
  refine cv_of (cc := cX8_term) (maxL := 3) (lv := [(0, .ref (ad 78)), (1, .int (sI 5))]) (by decide) rfl (Nat.le_of_ble_eq_true rfl) rfl ?_
  intro p e s m args below meth c A Q C hret
  refine j_aload_n C 0 0 dX8_term_0 rfl rfl ?_
  refine j_iload_n C 1 1 dX8_term_1 rfl rfl ?_
  refine j_callVv C (d := 6) (As := [.int (sI 5)]) (st := []) 78 (s_lt rfl rfl) (s_kc (c := 7) rfl rfl) (by decide) rfl (s3_X8_atom hM0 hpr gf gn gi (by omega) (by omega)) gX8_term_X8_atom rfl hdX8_atom (by decide) (Nat.le_of_ble_eq_true rfl) dX8_term_2 rfl (fun M102 h103 => ?_)
  obtain ⟨hM102, h104⟩ := h103
  have bM102 := tkx_b (f := gf) (n := gn) (M := M102) (by omega)
  have qM102 := po_rr (atP gf gn false (suR gf gn 0)) gn gi (M0.1 78 5).toInt (M0.1 78 6).toInt (psX M0) (M102.1 78 5).toInt (M102.1 78 6).toInt (psX M102) (at_g gf gn (fun _ => suR_g gf gn 0)) (by omega) (by omega)
  refine y_iconst C dX8_term_5 ?_
  have u105l := ll_0 (luP gf gn 2042 2042 (atP gf gn false (suR gf gn 0))) gn ((atP gf gn false (suR gf gn 0)) gi).2.2 (M102.1 78 5).toInt (M102.1 78 6).toInt (psX M102) (by omega)
  refine j_istore_n C 2 [(2, .int (sI 0)), (0, .ref (ad 78)), (1, .int (sI 5))] dX8_term_6 rfl (by decide) rfl ?_
  have L134 : ∀ (n132 : Nat), ∀ (a135 : Int) (M136 : mm_M) (gq137 : Int), (0 ≤ a135 ∧ a135 ≤ 900 ∧ (b01 (LL (luP gf gn 2042 2042 (atP gf gn false (suR gf gn 0))) gn ((atP gf gn false (suR gf gn 0)) gi).2.2 gq137 a135 (M102.1 78 5).toInt (M102.1 78 6).toInt (M136.1 78 5).toInt (M136.1 78 6).toInt (psX M136)) = 1) ∧ (b01 (TKX gf gn M136) = 1) ∧ (b01 (PO gn gq137 (M136.1 78 5).toInt (psX M136)) = 1) ∧ (900 - a135) < (n132 : Int)) → INV pr Kz M136 → jj p l e (cn_R 7) s m args below meth c 0 0 Q 3 dC dI ad cA A M136 7 [(0, .ref (ad 78)), (1, .int (sI 5)), (2, .int (sI a135))] [] := by
    intro n132
    induction n132 with
    | zero =>
      intro a135 M136 gq137 h138 hM136
      exfalso; omega
    | succ n132 ih133 =>
      intro a135 M136 gq137 h138 hM136
      have u139b := tkx_b (f := gf) (n := gn) (M := M136) (by omega)
      refine j_iload_n C 2 2 dX8_term_7 rfl rfl ?_
      refine y_sipush C dX8_term_8 rfl ?_
      refine y_icmp_ge C 59 dX8_term_11 (by decide) (by omega) (fun h140 => ?_) (fun h140 => ?_)
      · have u162e := ll_e gf gn 2042 2042 (atP gf gn false (suR gf gn 0)) ((atP gf gn false (suR gf gn 0)) gi).2.2 gq137 a135 (M102.1 78 5).toInt (M102.1 78 6).toInt (M136.1 78 5).toInt (M136.1 78 6).toInt (psX M136) (by decide) (at_g gf gn (fun _ => suR_g gf gn 0)) (by omega) (by omega)
        have u162r : b01 (RR ((teP gf gn false (suR gf gn 0)) gi) (M0.1 78 5).toInt (M0.1 78 6).toInt (M136.1 78 5).toInt (M136.1 78 6).toInt (psX M136)) = 1 := rr_sq ((atP gf gn false (suR gf gn 0)) gi) (luP gf gn 2042 2042 (atP gf gn false (suR gf gn 0))) (M0.1 78 5).toInt (M0.1 78 6).toInt (M102.1 78 5).toInt (M102.1 78 6).toInt (psX M102) (M136.1 78 5).toInt (M136.1 78 6).toInt (psX M136) (by omega) (by omega)
        exact hret _ _ _ dX8_term_59 ⟨hM136, by omega⟩
      · refine j_aload_n C 0 0 dX8_term_14 rfl rfl ?_
        refine y_getI C 7 _ _ fX8_term_22 rfl rfl ft_7_5 sb_7_5 hM136 dX8_term_15 (fun a141 ea141 la141 ua141 => ?_)
        refine y_if_ne C 59 dX8_term_18 (by decide) (by omega) (fun h143 => ?_) (fun h143 => ?_)
        · have u163e := ll_e gf gn 2042 2042 (atP gf gn false (suR gf gn 0)) ((atP gf gn false (suR gf gn 0)) gi).2.2 gq137 a135 (M102.1 78 5).toInt (M102.1 78 6).toInt (M136.1 78 5).toInt (M136.1 78 6).toInt (psX M136) (by decide) (at_g gf gn (fun _ => suR_g gf gn 0)) (by omega) (by omega)
          have u163r : b01 (RR ((teP gf gn false (suR gf gn 0)) gi) (M0.1 78 5).toInt (M0.1 78 6).toInt (M136.1 78 5).toInt (M136.1 78 6).toInt (psX M136)) = 1 := rr_sq ((atP gf gn false (suR gf gn 0)) gi) (luP gf gn 2042 2042 (atP gf gn false (suR gf gn 0))) (M0.1 78 5).toInt (M0.1 78 6).toInt (M102.1 78 5).toInt (M102.1 78 6).toInt (psX M102) (M136.1 78 5).toInt (M136.1 78 6).toInt (psX M136) (by omega) (by omega)
          exact hret _ _ _ dX8_term_59 ⟨hM136, by omega⟩
        · refine j_aload_n C 0 0 dX8_term_21 rfl rfl ?_
          refine j_callVi C (d := 0) (As := []) (st := []) 78 (s_lt rfl rfl) (s_kc (c := 7) rfl rfl) (by decide) rfl (s1_X8_token hM136 gf gn gq137 (by omega) (by omega)) gX8_term_X8_token rfl hdX8_token (by decide) (Nat.le_of_ble_eq_true rfl) dX8_term_22 rfl (fun r144 M145 h146 => ?_)
          obtain ⟨a148, rfl, rfl, h147⟩ := h146
          refine y_sipush C dX8_term_25 rfl ?_
          refine y_icmp_ne C 59 dX8_term_28 (by decide) (by omega) (fun h149 => ?_) (fun h149 => ?_)
          · have u164e := ll_e gf gn 2042 2042 (atP gf gn false (suR gf gn 0)) ((atP gf gn false (suR gf gn 0)) gi).2.2 gq137 a135 (M102.1 78 5).toInt (M102.1 78 6).toInt (M136.1 78 5).toInt (M136.1 78 6).toInt (psX M136) (by decide) (at_g gf gn (fun _ => suR_g gf gn 0)) (by omega) (by omega)
            have u164r : b01 (RR ((teP gf gn false (suR gf gn 0)) gi) (M0.1 78 5).toInt (M0.1 78 6).toInt (M136.1 78 5).toInt (M136.1 78 6).toInt (psX M136)) = 1 := rr_sq ((atP gf gn false (suR gf gn 0)) gi) (luP gf gn 2042 2042 (atP gf gn false (suR gf gn 0))) (M0.1 78 5).toInt (M0.1 78 6).toInt (M102.1 78 5).toInt (M102.1 78 6).toInt (psX M102) (M136.1 78 5).toInt (M136.1 78 6).toInt (psX M136) (by omega) (by omega)
            exact hret _ _ _ dX8_term_59 ⟨hM136, by omega⟩
          · refine j_aload_n C 0 0 dX8_term_31 rfl rfl ?_
            refine j_dup C dX8_term_32 rfl ?_
            refine y_getI C 7 _ _ fX8_term_18 rfl rfl ft_7_2 sb_7_2 hM136 dX8_term_33 (fun a150 ea150 la150 ua150 => ?_)
            refine y_iconst C dX8_term_36 ?_
            refine y_iadd C dX8_term_37 ?_
            refine y_putI C 7 _ _ qX8_term_18 rfl rfl ft_7_2 sb_7_2 hM136 (PX.w hpr rfl rfl) dX8_term_38 (by omega) (fun M152 eM152 hM152 => ?_)
            have xM152 := tkx_j (f := gf) (n := gn) (gi := gq137) eM152 (by omega) (by omega) (by omega) (by omega)
            refine j_aload_n C 0 0 dX8_term_41 rfl rfl ?_
            refine j_iload_n C 1 1 dX8_term_42 rfl rfl ?_
            refine j_callVv C (d := 6) (As := [.int (sI 5)]) (st := []) 78 (s_lt rfl rfl) (s_kc (c := 7) rfl rfl) (by decide) rfl (s3_X8_atom hM152 hpr gf gn (nxF gf gn gq137) (by omega) (by omega)) gX8_term_X8_atom rfl hdX8_atom (by decide) (Nat.le_of_ble_eq_true rfl) dX8_term_43 rfl (fun M154 h155 => ?_)
            obtain ⟨hM154, h156⟩ := h155
            have bM154 := tkx_b (f := gf) (n := gn) (M := M154) (by omega)
            have qM154 := po_rr (atP gf gn false (suR gf gn 0)) gn (nxF gf gn gq137) (M152.1 78 5).toInt (M152.1 78 6).toInt (psX M152) (M154.1 78 5).toInt (M154.1 78 6).toInt (psX M154) (at_g gf gn (fun _ => suR_g gf gn 0)) (by omega) (by omega)
            refine j_aload_n C 0 0 dX8_term_46 rfl rfl ?_
            refine y_sipush C dX8_term_47 rfl ?_
            refine j_callVv C (d := 0) (As := [.int (sI 2042)]) (st := []) 78 (s_lt rfl rfl) (s_kc (c := 7) rfl rfl) (by decide) rfl (s1_X8_emit hM154 hpr 2042 (by omega) gf gn ((atP gf gn false (suR gf gn 0)) (nxF gf gn gq137)).2.2 (by omega) (by omega)) gX8_term_X8_emit rfl hdX8_emit (by decide) (Nat.le_of_ble_eq_true rfl) dX8_term_50 rfl (fun M158 h159 => ?_)
            obtain ⟨hM158, h160⟩ := h159
            have bM158 := tkx_b (f := gf) (n := gn) (M := M158) (by omega)
            have qM158 := po_eq gn ((atP gf gn false (suR gf gn 0)) (nxF gf gn gq137)).2.2 (M154.1 78 5).toInt (psX M154) (M158.1 78 5).toInt (psX M158) (by omega) (by omega) (by omega)
            refine y_iinc C 2 [(2, .int (sI (a135 + 1))), (0, .ref (ad 78)), (1, .int (sI 5))] dX8_term_53 rfl (by decide) rfl ?_
            have u161s := ll_s gf gn 2042 2042 (atP gf gn false (suR gf gn 0)) ((atP gf gn false (suR gf gn 0)) gi).2.2 gq137 a135 (M102.1 78 5).toInt (M102.1 78 6).toInt (M136.1 78 5).toInt (M136.1 78 6).toInt (psX M136) (M152.1 78 5).toInt (M152.1 78 6).toInt (M154.1 78 5).toInt (M154.1 78 6).toInt (psX M154) (M158.1 78 5).toInt (M158.1 78 6).toInt (psX M158) (by decide) (at_g gf gn (fun _ => suR_g gf gn 0)) (by omega) (by omega) (by omega) (by omega) (by omega) (by omega) (by omega) (by omega) (by omega)
            refine j_goto C 7 dX8_term_56 (by decide) ?_
            refine j_lv [1, 2, 0] rfl ?_; exact ih133 (a135 + 1) M158 ((atP gf gn false (suR gf gn 0)) (nxF gf gn gq137)).2.2 (by omega) hM158
  refine j_lv [1, 2, 0] rfl ?_; exact L134 2010 0 M102 ((atP gf gn false (suR gf gn 0)) gi).2.2 (by omega) hM102
set_option maxHeartbeats 4000000 in
theorem s3_X8_sum {l : Launch} {dC : Nat → ClassId} {dI : Nat → Nat → Nat} {ad : Nat → Nat} {cA : Nat → ClassId} {pr : Nat → Nat → Bool} {Kz : mm_M} {M0 : mm_M} (hM0 : INV pr Kz M0) (hpr : PX pr) (gf : Nat → Int) (gn : Int) (gi : Int) (hp0 : b01 (TKX gf gn M0) = 1) (hp1 : b01 (PO gn gi (M0.1 78 5).toInt (psX M0)) = 1) : Cv l 8 yX8_sum wsX8_sum dC dI ad cA [.ref (ad 78), .int (sI 5)] M0 (fun M' => INV pr Kz M' ∧ (b01 (TKX gf gn M') = 1) ∧ b01 (RR ((suR gf gn 1) gi) (M0.1 78 5).toInt (M0.1 78 6).toInt (M'.1 78 5).toInt (M'.1 78 6).toInt (psX M')) = 1) := by
  refine cv_of (cc := cX8_sum) (maxL := 4) (lv := [(0, .ref (ad 78)), (1, .int (sI 5))]) (by decide) rfl (Nat.le_of_ble_eq_true rfl) rfl ?_
  intro p e s m args below meth c A Q C hret
  refine j_aload_n C 0 0 dX8_sum_0 rfl rfl ?_
  refine j_iload_n C 1 1 dX8_sum_1 rfl rfl ?_
  refine j_callVv C (d := 7) (As := [.int (sI 5)]) (st := []) 78 (s_lt rfl rfl) (s_kc (c := 7) rfl rfl) (by decide) rfl (s3_X8_term hM0 hpr gf gn gi (by omega) (by omega)) gX8_sum_X8_term rfl hdX8_term (by decide) (Nat.le_of_ble_eq_true rfl) dX8_sum_2 rfl (fun M102 h103 => ?_)
  obtain ⟨hM102, h104⟩ := h103
  have bM102 := tkx_b (f := gf) (n := gn) (M := M102) (by omega)
  have qM102 := po_rr (teP gf gn false (suR gf gn 0)) gn gi (M0.1 78 5).toInt (M0.1 78 6).toInt (psX M0) (M102.1 78 5).toInt (M102.1 78 6).toInt (psX M102) (te_g gf gn (fun _ => suR_g gf gn 0)) (by omega) (by omega)
  refine j_aload_n C 0 0 dX8_sum_5 rfl rfl ?_
  refine j_callVi C (d := 0) (As := []) (st := []) 78 (s_lt rfl rfl) (s_kc (c := 7) rfl rfl) (by decide) rfl (s1_X8_token hM102 gf gn ((teP gf gn false (suR gf gn 0)) gi).2.2 (by omega) (by omega)) gX8_sum_X8_token rfl hdX8_token (by decide) (Nat.le_of_ble_eq_true rfl) dX8_sum_6 rfl (fun r105 M106 h107 => ?_)
  obtain ⟨a109, rfl, rfl, h108⟩ := h107
  refine j_istore_n C 2 [(2, .int (sI a109)), (0, .ref (ad 78)), (1, .int (sI 5))] dX8_sum_9 rfl (by decide) rfl ?_
  refine y_iconst C dX8_sum_10 ?_
  have u110l := ll_0 (luP gf gn 2043 2045 (teP gf gn false (suR gf gn 0))) gn ((teP gf gn false (suR gf gn 0)) gi).2.2 (M102.1 78 5).toInt (M102.1 78 6).toInt (psX M102) (by omega)
  refine j_istore_n C 3 [(3, .int (sI 0)), (2, .int (sI a109)), (0, .ref (ad 78)), (1, .int (sI 5))] dX8_sum_11 rfl (by decide) rfl ?_
  have L158 : ∀ (n156 : Nat), ∀ (a159 : Int) (a160 : Int) (M161 : mm_M) (gq162 : Int), ((-2147483648) ≤ a159 ∧ a159 ≤ 2147483647 ∧ 0 ≤ a160 ∧ a160 ≤ 900 ∧ (b01 (LL (luP gf gn 2043 2045 (teP gf gn false (suR gf gn 0))) gn ((teP gf gn false (suR gf gn 0)) gi).2.2 gq162 a160 (M102.1 78 5).toInt (M102.1 78 6).toInt (M161.1 78 5).toInt (M161.1 78 6).toInt (psX M161)) = 1) ∧ (a159 = tkF gf gn (psX M161)) ∧ (b01 (TKX gf gn M161) = 1) ∧ (b01 (PO gn gq162 (M161.1 78 5).toInt (psX M161)) = 1) ∧ (900 - a160) < (n156 : Int)) → INV pr Kz M161 → jj p l e (cn_R 8) s m args below meth c 0 0 Q 4 dC dI ad cA A M161 12 [(0, .ref (ad 78)), (1, .int (sI 5)), (2, .int (sI a159)), (3, .int (sI a160))] [] := by
    intro n156
    induction n156 with
    | zero =>
      intro a159 a160 M161 gq162 h163 hM161
      exfalso; omega
    | succ n156 ih157 =>
      intro a159 a160 M161 gq162 h163 hM161
      have u164b := tkx_b (f := gf) (n := gn) (M := M161) (by omega)
      refine j_iload_n C 3 3 dX8_sum_12 rfl rfl ?_
      refine y_sipush C dX8_sum_13 rfl ?_
      refine y_icmp_ge C 71 dX8_sum_16 (by decide) (by omega) (fun h165 => ?_) (fun h165 => ?_)
      · have u205e := ll_e gf gn 2043 2045 (teP gf gn false (suR gf gn 0)) ((teP gf gn false (suR gf gn 0)) gi).2.2 gq162 a160 (M102.1 78 5).toInt (M102.1 78 6).toInt (M161.1 78 5).toInt (M161.1 78 6).toInt (psX M161) (by decide) (te_g gf gn (fun _ => suR_g gf gn 0)) (by omega) (by omega)
        have u205r : b01 (RR ((suR gf gn 1) gi) (M0.1 78 5).toInt (M0.1 78 6).toInt (M161.1 78 5).toInt (M161.1 78 6).toInt (psX M161)) = 1 := by rw [su_q gf gn 0 1 rfl]; exact rr_sq ((teP gf gn false (suR gf gn 0)) gi) (luP gf gn 2043 2045 (teP gf gn false (suR gf gn 0))) (M0.1 78 5).toInt (M0.1 78 6).toInt (M102.1 78 5).toInt (M102.1 78 6).toInt (psX M102) (M161.1 78 5).toInt (M161.1 78 6).toInt (psX M161) (by omega) (by omega)
        exact hret _ _ _ dX8_sum_71 ⟨hM161, by omega⟩
      · refine j_aload_n C 0 0 dX8_sum_19 rfl rfl ?_
        refine y_getI C 7 _ _ fX8_sum_22 rfl rfl ft_7_5 sb_7_5 hM161 dX8_sum_20 (fun a166 ea166 la166 ua166 => ?_)
        refine y_if_ne C 71 dX8_sum_23 (by decide) (by omega) (fun h168 => ?_) (fun h168 => ?_)
        · have u206e := ll_e gf gn 2043 2045 (teP gf gn false (suR gf gn 0)) ((teP gf gn false (suR gf gn 0)) gi).2.2 gq162 a160 (M102.1 78 5).toInt (M102.1 78 6).toInt (M161.1 78 5).toInt (M161.1 78 6).toInt (psX M161) (by decide) (te_g gf gn (fun _ => suR_g gf gn 0)) (by omega) (by omega)
          have u206r : b01 (RR ((suR gf gn 1) gi) (M0.1 78 5).toInt (M0.1 78 6).toInt (M161.1 78 5).toInt (M161.1 78 6).toInt (psX M161)) = 1 := by rw [su_q gf gn 0 1 rfl]; exact rr_sq ((teP gf gn false (suR gf gn 0)) gi) (luP gf gn 2043 2045 (teP gf gn false (suR gf gn 0))) (M0.1 78 5).toInt (M0.1 78 6).toInt (M102.1 78 5).toInt (M102.1 78 6).toInt (psX M102) (M161.1 78 5).toInt (M161.1 78 6).toInt (psX M161) (by omega) (by omega)
          exact hret _ _ _ dX8_sum_71 ⟨hM161, by omega⟩
        · refine j_iload_n C 2 2 dX8_sum_26 rfl rfl ?_
          refine y_sipush C dX8_sum_27 rfl ?_
          refine y_icmp_eq C 40 dX8_sum_30 (by decide) (by omega) (fun h169 => ?_) (fun h169 => ?_)
          · refine j_aload_n C 0 0 dX8_sum_40 rfl rfl ?_
            refine j_dup C dX8_sum_41 rfl ?_
            refine y_getI C 7 _ _ fX8_sum_18 rfl rfl ft_7_2 sb_7_2 hM161 dX8_sum_42 (fun a170 ea170 la170 ua170 => ?_)
            refine y_iconst C dX8_sum_45 ?_
            refine y_iadd C dX8_sum_46 ?_
            refine y_putI C 7 _ _ qX8_sum_18 rfl rfl ft_7_2 sb_7_2 hM161 (PX.w hpr rfl rfl) dX8_sum_47 (by omega) (fun M172 eM172 hM172 => ?_)
            have xM172 := tkx_j (f := gf) (n := gn) (gi := gq162) eM172 (by omega) (by omega) (by omega) (by omega)
            refine j_aload_n C 0 0 dX8_sum_50 rfl rfl ?_
            refine j_iload_n C 1 1 dX8_sum_51 rfl rfl ?_
            refine j_callVv C (d := 7) (As := [.int (sI 5)]) (st := []) 78 (s_lt rfl rfl) (s_kc (c := 7) rfl rfl) (by decide) rfl (s3_X8_term hM172 hpr gf gn (nxF gf gn gq162) (by omega) (by omega)) gX8_sum_X8_term rfl hdX8_term (by decide) (Nat.le_of_ble_eq_true rfl) dX8_sum_52 rfl (fun M174 h175 => ?_)
            obtain ⟨hM174, h176⟩ := h175
            have bM174 := tkx_b (f := gf) (n := gn) (M := M174) (by omega)
            have qM174 := po_rr (teP gf gn false (suR gf gn 0)) gn (nxF gf gn gq162) (M172.1 78 5).toInt (M172.1 78 6).toInt (psX M172) (M174.1 78 5).toInt (M174.1 78 6).toInt (psX M174) (te_g gf gn (fun _ => suR_g gf gn 0)) (by omega) (by omega)
            refine j_aload_n C 0 0 dX8_sum_55 rfl rfl ?_
            refine j_iload_n C 2 2 dX8_sum_56 rfl rfl ?_
            refine j_callVv C (d := 0) (As := [.int (sI a159)]) (st := []) 78 (s_lt rfl rfl) (s_kc (c := 7) rfl rfl) (by decide) rfl (s1_X8_emit hM174 hpr a159 (by omega) gf gn ((teP gf gn false (suR gf gn 0)) (nxF gf gn gq162)).2.2 (by omega) (by omega)) gX8_sum_X8_emit rfl hdX8_emit (by decide) (Nat.le_of_ble_eq_true rfl) dX8_sum_57 rfl (fun M178 h179 => ?_)
            obtain ⟨hM178, h180⟩ := h179
            have bM178 := tkx_b (f := gf) (n := gn) (M := M178) (by omega)
            have qM178 := po_eq gn ((teP gf gn false (suR gf gn 0)) (nxF gf gn gq162)).2.2 (M174.1 78 5).toInt (psX M174) (M178.1 78 5).toInt (psX M178) (by omega) (by omega) (by omega)
            refine j_aload_n C 0 0 dX8_sum_60 rfl rfl ?_
            refine j_callVi C (d := 0) (As := []) (st := []) 78 (s_lt rfl rfl) (s_kc (c := 7) rfl rfl) (by decide) rfl (s1_X8_token hM178 gf gn ((teP gf gn false (suR gf gn 0)) (nxF gf gn gq162)).2.2 (by omega) (by omega)) gX8_sum_X8_token rfl hdX8_token (by decide) (Nat.le_of_ble_eq_true rfl) dX8_sum_61 rfl (fun r181 M182 h183 => ?_)
            obtain ⟨a185, rfl, rfl, h184⟩ := h183
            refine j_istore_n C 2 [(2, .int (sI a185)), (0, .ref (ad 78)), (1, .int (sI 5)), (3, .int (sI a160))] dX8_sum_64 rfl (by decide) rfl ?_
            refine y_iinc C 3 [(3, .int (sI (a160 + 1))), (2, .int (sI a185)), (0, .ref (ad 78)), (1, .int (sI 5))] dX8_sum_65 rfl (by decide) rfl ?_
            have u186s := ll_s gf gn 2043 2045 (teP gf gn false (suR gf gn 0)) ((teP gf gn false (suR gf gn 0)) gi).2.2 gq162 a160 (M102.1 78 5).toInt (M102.1 78 6).toInt (M161.1 78 5).toInt (M161.1 78 6).toInt (psX M161) (M172.1 78 5).toInt (M172.1 78 6).toInt (M174.1 78 5).toInt (M174.1 78 6).toInt (psX M174) (M178.1 78 5).toInt (M178.1 78 6).toInt (psX M178) (by decide) (te_g gf gn (fun _ => suR_g gf gn 0)) (by omega) (by omega) (by omega) (by omega) (by omega) (by omega) (by omega) (by omega) (by omega)
            refine j_goto C 12 dX8_sum_68 (by decide) ?_
            refine j_lv [2, 3, 1, 0] rfl ?_; exact ih157 a185 (a160 + 1) M178 ((teP gf gn false (suR gf gn 0)) (nxF gf gn gq162)).2.2 (by omega) hM178
          · refine j_iload_n C 2 2 dX8_sum_33 rfl rfl ?_
            refine y_sipush C dX8_sum_34 rfl ?_
            refine y_icmp_ne C 71 dX8_sum_37 (by decide) (by omega) (fun h187 => ?_) (fun h187 => ?_)
            · have u207e := ll_e gf gn 2043 2045 (teP gf gn false (suR gf gn 0)) ((teP gf gn false (suR gf gn 0)) gi).2.2 gq162 a160 (M102.1 78 5).toInt (M102.1 78 6).toInt (M161.1 78 5).toInt (M161.1 78 6).toInt (psX M161) (by decide) (te_g gf gn (fun _ => suR_g gf gn 0)) (by omega) (by omega)
              have u207r : b01 (RR ((suR gf gn 1) gi) (M0.1 78 5).toInt (M0.1 78 6).toInt (M161.1 78 5).toInt (M161.1 78 6).toInt (psX M161)) = 1 := by rw [su_q gf gn 0 1 rfl]; exact rr_sq ((teP gf gn false (suR gf gn 0)) gi) (luP gf gn 2043 2045 (teP gf gn false (suR gf gn 0))) (M0.1 78 5).toInt (M0.1 78 6).toInt (M102.1 78 5).toInt (M102.1 78 6).toInt (psX M102) (M161.1 78 5).toInt (M161.1 78 6).toInt (psX M161) (by omega) (by omega)
              exact hret _ _ _ dX8_sum_71 ⟨hM161, by omega⟩
            · refine j_aload_n C 0 0 dX8_sum_40 rfl rfl ?_
              refine j_dup C dX8_sum_41 rfl ?_
              refine y_getI C 7 _ _ fX8_sum_18 rfl rfl ft_7_2 sb_7_2 hM161 dX8_sum_42 (fun a188 ea188 la188 ua188 => ?_)
              refine y_iconst C dX8_sum_45 ?_
              refine y_iadd C dX8_sum_46 ?_
              refine y_putI C 7 _ _ qX8_sum_18 rfl rfl ft_7_2 sb_7_2 hM161 (PX.w hpr rfl rfl) dX8_sum_47 (by omega) (fun M190 eM190 hM190 => ?_)
              have xM190 := tkx_j (f := gf) (n := gn) (gi := gq162) eM190 (by omega) (by omega) (by omega) (by omega)
              refine j_aload_n C 0 0 dX8_sum_50 rfl rfl ?_
              refine j_iload_n C 1 1 dX8_sum_51 rfl rfl ?_
              refine j_callVv C (d := 7) (As := [.int (sI 5)]) (st := []) 78 (s_lt rfl rfl) (s_kc (c := 7) rfl rfl) (by decide) rfl (s3_X8_term hM190 hpr gf gn (nxF gf gn gq162) (by omega) (by omega)) gX8_sum_X8_term rfl hdX8_term (by decide) (Nat.le_of_ble_eq_true rfl) dX8_sum_52 rfl (fun M192 h193 => ?_)
              obtain ⟨hM192, h194⟩ := h193
              have bM192 := tkx_b (f := gf) (n := gn) (M := M192) (by omega)
              have qM192 := po_rr (teP gf gn false (suR gf gn 0)) gn (nxF gf gn gq162) (M190.1 78 5).toInt (M190.1 78 6).toInt (psX M190) (M192.1 78 5).toInt (M192.1 78 6).toInt (psX M192) (te_g gf gn (fun _ => suR_g gf gn 0)) (by omega) (by omega)
              refine j_aload_n C 0 0 dX8_sum_55 rfl rfl ?_
              refine j_iload_n C 2 2 dX8_sum_56 rfl rfl ?_
              refine j_callVv C (d := 0) (As := [.int (sI a159)]) (st := []) 78 (s_lt rfl rfl) (s_kc (c := 7) rfl rfl) (by decide) rfl (s1_X8_emit hM192 hpr a159 (by omega) gf gn ((teP gf gn false (suR gf gn 0)) (nxF gf gn gq162)).2.2 (by omega) (by omega)) gX8_sum_X8_emit rfl hdX8_emit (by decide) (Nat.le_of_ble_eq_true rfl) dX8_sum_57 rfl (fun M196 h197 => ?_)
              obtain ⟨hM196, h198⟩ := h197
              have bM196 := tkx_b (f := gf) (n := gn) (M := M196) (by omega)
              have qM196 := po_eq gn ((teP gf gn false (suR gf gn 0)) (nxF gf gn gq162)).2.2 (M192.1 78 5).toInt (psX M192) (M196.1 78 5).toInt (psX M196) (by omega) (by omega) (by omega)
              refine j_aload_n C 0 0 dX8_sum_60 rfl rfl ?_
              refine j_callVi C (d := 0) (As := []) (st := []) 78 (s_lt rfl rfl) (s_kc (c := 7) rfl rfl) (by decide) rfl (s1_X8_token hM196 gf gn ((teP gf gn false (suR gf gn 0)) (nxF gf gn gq162)).2.2 (by omega) (by omega)) gX8_sum_X8_token rfl hdX8_token (by decide) (Nat.le_of_ble_eq_true rfl) dX8_sum_61 rfl (fun r199 M200 h201 => ?_)
              obtain ⟨a203, rfl, rfl, h202⟩ := h201
              refine j_istore_n C 2 [(2, .int (sI a203)), (0, .ref (ad 78)), (1, .int (sI 5)), (3, .int (sI a160))] dX8_sum_64 rfl (by decide) rfl ?_
              refine y_iinc C 3 [(3, .int (sI (a160 + 1))), (2, .int (sI a203)), (0, .ref (ad 78)), (1, .int (sI 5))] dX8_sum_65 rfl (by decide) rfl ?_
              have u204s := ll_s gf gn 2043 2045 (teP gf gn false (suR gf gn 0)) ((teP gf gn false (suR gf gn 0)) gi).2.2 gq162 a160 (M102.1 78 5).toInt (M102.1 78 6).toInt (M161.1 78 5).toInt (M161.1 78 6).toInt (psX M161) (M190.1 78 5).toInt (M190.1 78 6).toInt (M192.1 78 5).toInt (M192.1 78 6).toInt (psX M192) (M196.1 78 5).toInt (M196.1 78 6).toInt (psX M196) (by decide) (te_g gf gn (fun _ => suR_g gf gn 0)) (by omega) (by omega) (by omega) (by omega) (by omega) (by omega) (by omega) (by omega) (by omega)
              refine j_goto C 12 dX8_sum_68 (by decide) ?_
              refine j_lv [2, 3, 1, 0] rfl ?_; exact ih157 a203 (a160 + 1) M196 ((teP gf gn false (suR gf gn 0)) (nxF gf gn gq162)).2.2 (by omega) hM196
  refine j_lv [2, 3, 1, 0] rfl ?_; exact L158 4294967306 a109 0 M102 ((teP gf gn false (suR gf gn 0)) gi).2.2 (by omega) hM102
set_option maxHeartbeats 4000000 in
theorem s4_X8_atom {l : Launch} {dC : Nat → ClassId} {dI : Nat → Nat → Nat} {ad : Nat → Nat} {cA : Nat → ClassId} {pr : Nat → Nat → Bool} {Kz : mm_M} {M0 : mm_M} (hM0 : INV pr Kz M0) (hpr : PX pr) (gf : Nat → Int) (gn : Int) (gi : Int) (hp0 : b01 (TKX gf gn M0) = 1) (hp1 : b01 (PO gn gi (M0.1 78 5).toInt (psX M0)) = 1) : Cv l 9 yX8_atom wsX8_atom dC dI ad cA [.ref (ad 78), .int (sI 4)] M0 (fun M' => INV pr Kz M' ∧ (b01 (TKX gf gn M') = 1) ∧ b01 (RR ((atP gf gn false (suR gf gn 1)) gi) (M0.1 78 5).toInt (M0.1 78 6).toInt (M'.1 78 5).toInt (M'.1 78 6).toInt (psX M')) = 1) := by
  refine cv_of (cc := cX8_atom) (maxL := 3) (lv := [(0, .ref (ad 78)), (1, .int (sI 4))]) (by decide) rfl (Nat.le_of_ble_eq_true rfl) rfl ?_
  intro p e s m args below meth c A Q C hret
  have u101b := tkx_b (f := gf) (n := gn) (M := M0) (by omega)
  refine j_aload_n C 0 0 dX8_atom_0 rfl rfl ?_
  refine y_getI C 7 _ _ fX8_atom_22 rfl rfl ft_7_5 sb_7_5 hM0 dX8_atom_1 (fun a102 ea102 la102 ua102 => ?_)
  refine y_if_eq C 8 dX8_atom_4 (by decide) (by omega) (fun h104 => ?_) (fun h104 => ?_)
  · refine j_aload_n C 0 0 dX8_atom_8 rfl rfl ?_
    refine j_callVi C (d := 0) (As := []) (st := []) 78 (s_lt rfl rfl) (s_kc (c := 7) rfl rfl) (by decide) rfl (s1_X8_token hM0 gf gn gi (by omega) (by omega)) gX8_atom_X8_token rfl hdX8_token (by decide) (Nat.le_of_ble_eq_true rfl) dX8_atom_9 rfl (fun r105 M106 h107 => ?_)
    obtain ⟨a109, rfl, rfl, h108⟩ := h107
    refine j_istore_n C 2 [(2, .int (sI a109)), (0, .ref (ad 78)), (1, .int (sI 4))] dX8_atom_12 rfl (by decide) rfl ?_
    refine j_iload_n C 0 2 dX8_atom_13 rfl rfl ?_
    refine y_sipush C dX8_atom_14 rfl ?_
    refine y_icmp_ge C 38 dX8_atom_17 (by decide) (by omega) (fun h110 => ?_) (fun h110 => ?_)
    · refine j_iload_n C 0 2 dX8_atom_38 rfl rfl ?_
      refine y_sipush C dX8_atom_39 rfl ?_
      refine y_icmp_ne C 67 dX8_atom_42 (by decide) (by omega) (fun h111 => ?_) (fun h111 => ?_)
      · refine j_aload_n C 1 0 dX8_atom_67 rfl rfl ?_
        refine y_iconst C dX8_atom_68 ?_
        refine j_callVv C (d := 0) (As := [.int (sI 2)]) (st := []) 78 (s_lt rfl rfl) (s_kc (c := 7) rfl rfl) (by decide) rfl (s1_X8_fail hM0 hpr 2 (by omega) gf gn gi (by omega) (by omega) (by omega)) gX8_atom_X8_fail rfl hdX8_fail (by decide) (Nat.le_of_ble_eq_true rfl) dX8_atom_69 rfl (fun M113 h114 => ?_)
        obtain ⟨hM113, fM113, h115⟩ := h114
        have bM113 := tkx_b (f := gf) (n := gn) (M := M113) (by omega)
        have qM113 := po_f gn gi (M113.1 78 5).toInt (psX M113) (by omega)
        have u116r := at_4 gf gn false (suR gf gn 1) gi (M0.1 78 5).toInt (M0.1 78 6).toInt (psX M0) (M113.1 78 5).toInt (M113.1 78 6).toInt (psX M113) (by omega) (by omega) (by omega)
        exact hret _ _ _ dX8_atom_72 ⟨hM113, by omega⟩
      · refine j_aload_n C 1 0 dX8_atom_45 rfl rfl ?_
        refine j_iload_n C 2 1 dX8_atom_46 rfl rfl ?_
        refine j_callVv C (d := 0) (As := [.int (sI 4)]) (st := []) 78 (s_lt rfl rfl) (s_kc (c := 7) rfl rfl) (by decide) rfl (s5_X8_goDeeper hM0 hpr gf gn gi (by omega) (by omega) (by omega) (by omega) (by omega)) gX8_atom_X8_goDeeper rfl hdX8_goDeeper (by decide) (Nat.le_of_ble_eq_true rfl) dX8_atom_47 rfl (fun M118 h119 => ?_)
        obtain ⟨hM118, fM118, h120⟩ := h119
        have bM118 := tkx_b (f := gf) (n := gn) (M := M118) (by omega)
        refine j_aload_n C 1 0 dX8_atom_50 rfl rfl ?_
        refine j_iload_n C 2 1 dX8_atom_51 rfl rfl ?_
        refine y_iconst C dX8_atom_52 ?_
        refine y_iadd C dX8_atom_53 ?_
        refine j_callVv C (d := 8) (As := [.int (sI (4 + 1))]) (st := []) 78 (s_lt rfl rfl) (s_kc (c := 7) rfl rfl) (by decide) rfl (s3_X8_sum hM118 hpr gf gn (nxF gf gn gi) (by omega) (by omega)) gX8_atom_X8_sum rfl hdX8_sum (by decide) (Nat.le_of_ble_eq_true rfl) dX8_atom_54 rfl (fun M122 h123 => ?_)
        obtain ⟨hM122, h124⟩ := h123
        have bM122 := tkx_b (f := gf) (n := gn) (M := M122) (by omega)
        have qM122 := po_rr (suR gf gn 1) gn (nxF gf gn gi) (M118.1 78 5).toInt (M118.1 78 6).toInt (psX M118) (M122.1 78 5).toInt (M122.1 78 6).toInt (psX M122) (suR_g gf gn 1) (by omega) (by omega)
        refine j_aload_n C 1 0 dX8_atom_57 rfl rfl ?_
        refine y_sipush C dX8_atom_58 rfl ?_
        refine j_callVv C (d := 1) (As := [.int (sI 2041)]) (st := []) 78 (s_lt rfl rfl) (s_kc (c := 7) rfl rfl) (by decide) rfl (s1_X8_expect hM122 hpr 2041 (by omega) gf gn ((suR gf gn 1) (nxF gf gn gi)).2.2 (by omega) (by omega) (by omega) (by omega)) gX8_atom_X8_expect rfl hdX8_expect (by decide) (Nat.le_of_ble_eq_true rfl) dX8_atom_61 rfl (fun M126 h127 => ?_)
        obtain ⟨hM126, fM126, h128⟩ := h127
        have bM126 := tkx_b (f := gf) (n := gn) (M := M126) (by omega)
        have qM126 := po_rr (exP gf gn 2041) gn ((suR gf gn 1) (nxF gf gn gi)).2.2 (M122.1 78 5).toInt (M122.1 78 6).toInt (psX M122) (M126.1 78 5).toInt (M126.1 78 6).toInt (psX M126) (ex_g gf gn 2041 (by omega)) (by omega) (by omega)
        refine j_goto C 72 dX8_atom_64 (by decide) ?_
        have u129r := at_2 gf gn (suR gf gn 1) gi (M0.1 78 5).toInt (M0.1 78 6).toInt (psX M0) (M118.1 78 5).toInt (M118.1 78 6).toInt (M122.1 78 5).toInt (M122.1 78 6).toInt (psX M122) (M126.1 78 5).toInt (M126.1 78 6).toInt (psX M126) (by omega) (by omega) (by omega) (by omega) (by omega) (by omega)
        exact hret _ _ _ dX8_atom_72 ⟨hM126, by omega⟩
    · refine j_aload_n C 1 0 dX8_atom_20 rfl rfl ?_
      refine j_dup C dX8_atom_21 rfl ?_
      refine y_getI C 7 _ _ fX8_atom_18 rfl rfl ft_7_2 sb_7_2 hM0 dX8_atom_22 (fun a130 ea130 la130 ua130 => ?_)
      refine y_iconst C dX8_atom_25 ?_
      refine y_iadd C dX8_atom_26 ?_
      refine y_putI C 7 _ _ qX8_atom_18 rfl rfl ft_7_2 sb_7_2 hM0 (PX.w hpr rfl rfl) dX8_atom_27 (by omega) (fun M132 eM132 hM132 => ?_)
      have xM132 := tkx_j (f := gf) (n := gn) (gi := gi) eM132 (by omega) (by omega) (by omega) (by omega)
      refine j_aload_n C 1 0 dX8_atom_30 rfl rfl ?_
      refine j_iload_n C 0 2 dX8_atom_31 rfl rfl ?_
      refine j_callVv C (d := 0) (As := [.int (sI a109)]) (st := []) 78 (s_lt rfl rfl) (s_kc (c := 7) rfl rfl) (by decide) rfl (s1_X8_emit hM132 hpr a109 (by omega) gf gn (nxF gf gn gi) (by omega) (by omega)) gX8_atom_X8_emit rfl hdX8_emit (by decide) (Nat.le_of_ble_eq_true rfl) dX8_atom_32 rfl (fun M134 h135 => ?_)
      obtain ⟨hM134, h136⟩ := h135
      have bM134 := tkx_b (f := gf) (n := gn) (M := M134) (by omega)
      have qM134 := po_eq gn (nxF gf gn gi) (M132.1 78 5).toInt (psX M132) (M134.1 78 5).toInt (psX M134) (by omega) (by omega) (by omega)
      refine j_goto C 72 dX8_atom_35 (by decide) ?_
      have u137r := rr_eq ((atP gf gn false (suR gf gn 1)) gi) (M0.1 78 5).toInt (M0.1 78 6).toInt (M132.1 78 5).toInt (M132.1 78 6).toInt (psX M132) (M134.1 78 5).toInt (M134.1 78 6).toInt (psX M134) (at_1 gf gn false (suR gf gn 1) gi (M0.1 78 5).toInt (M0.1 78 6).toInt (psX M0) (M132.1 78 5).toInt (M132.1 78 6).toInt (psX M132) (by omega) (by omega) (by omega) (by omega) (by omega) (by omega)) (by omega) (by omega) (by omega)
      exact hret _ _ _ dX8_atom_72 ⟨hM134, by omega⟩
  · have u138r := rr_no ((atP gf gn false (suR gf gn 1)) gi) (M0.1 78 5).toInt (M0.1 78 6).toInt (M0.1 78 5).toInt (M0.1 78 6).toInt (psX M0) (by omega) rfl rfl
    exact hret _ _ _ dX8_atom_7 ⟨hM0, by omega⟩
set_option maxHeartbeats 4000000 in
theorem s4_X8_term {l : Launch} {dC : Nat → ClassId} {dI : Nat → Nat → Nat} {ad : Nat → Nat} {cA : Nat → ClassId} {pr : Nat → Nat → Bool} {Kz : mm_M} {M0 : mm_M} (hM0 : INV pr Kz M0) (hpr : PX pr) (gf : Nat → Int) (gn : Int) (gi : Int) (hp0 : b01 (TKX gf gn M0) = 1) (hp1 : b01 (PO gn gi (M0.1 78 5).toInt (psX M0)) = 1) : Cv l 10 yX8_term wsX8_term dC dI ad cA [.ref (ad 78), .int (sI 4)] M0 (fun M' => INV pr Kz M' ∧ (b01 (TKX gf gn M') = 1) ∧ b01 (RR ((teP gf gn false (suR gf gn 1)) gi) (M0.1 78 5).toInt (M0.1 78 6).toInt (M'.1 78 5).toInt (M'.1 78 6).toInt (psX M')) = 1) := by
  refine cv_of (cc := cX8_term) (maxL := 3) (lv := [(0, .ref (ad 78)), (1, .int (sI 4))]) (by decide) rfl (Nat.le_of_ble_eq_true rfl) rfl ?_
  intro p e s m args below meth c A Q C hret
  refine j_aload_n C 0 0 dX8_term_0 rfl rfl ?_
  refine j_iload_n C 1 1 dX8_term_1 rfl rfl ?_
  refine j_callVv C (d := 9) (As := [.int (sI 4)]) (st := []) 78 (s_lt rfl rfl) (s_kc (c := 7) rfl rfl) (by decide) rfl (s4_X8_atom hM0 hpr gf gn gi (by omega) (by omega)) gX8_term_X8_atom rfl hdX8_atom (by decide) (Nat.le_of_ble_eq_true rfl) dX8_term_2 rfl (fun M102 h103 => ?_)
  obtain ⟨hM102, h104⟩ := h103
  have bM102 := tkx_b (f := gf) (n := gn) (M := M102) (by omega)
  have qM102 := po_rr (atP gf gn false (suR gf gn 1)) gn gi (M0.1 78 5).toInt (M0.1 78 6).toInt (psX M0) (M102.1 78 5).toInt (M102.1 78 6).toInt (psX M102) (at_g gf gn (fun _ => suR_g gf gn 1)) (by omega) (by omega)
  refine y_iconst C dX8_term_5 ?_
  have u105l := ll_0 (luP gf gn 2042 2042 (atP gf gn false (suR gf gn 1))) gn ((atP gf gn false (suR gf gn 1)) gi).2.2 (M102.1 78 5).toInt (M102.1 78 6).toInt (psX M102) (by omega)
  refine j_istore_n C 2 [(2, .int (sI 0)), (0, .ref (ad 78)), (1, .int (sI 4))] dX8_term_6 rfl (by decide) rfl ?_
  have L134 : ∀ (n132 : Nat), ∀ (a135 : Int) (M136 : mm_M) (gq137 : Int), (0 ≤ a135 ∧ a135 ≤ 900 ∧ (b01 (LL (luP gf gn 2042 2042 (atP gf gn false (suR gf gn 1))) gn ((atP gf gn false (suR gf gn 1)) gi).2.2 gq137 a135 (M102.1 78 5).toInt (M102.1 78 6).toInt (M136.1 78 5).toInt (M136.1 78 6).toInt (psX M136)) = 1) ∧ (b01 (TKX gf gn M136) = 1) ∧ (b01 (PO gn gq137 (M136.1 78 5).toInt (psX M136)) = 1) ∧ (900 - a135) < (n132 : Int)) → INV pr Kz M136 → jj p l e (cn_R 10) s m args below meth c 0 0 Q 3 dC dI ad cA A M136 7 [(0, .ref (ad 78)), (1, .int (sI 4)), (2, .int (sI a135))] [] := by
    intro n132
    induction n132 with
    | zero =>
      intro a135 M136 gq137 h138 hM136
      exfalso; omega
    | succ n132 ih133 =>
      intro a135 M136 gq137 h138 hM136
      have u139b := tkx_b (f := gf) (n := gn) (M := M136) (by omega)
      refine j_iload_n C 2 2 dX8_term_7 rfl rfl ?_
      refine y_sipush C dX8_term_8 rfl ?_
      refine y_icmp_ge C 59 dX8_term_11 (by decide) (by omega) (fun h140 => ?_) (fun h140 => ?_)
      · have u162e := ll_e gf gn 2042 2042 (atP gf gn false (suR gf gn 1)) ((atP gf gn false (suR gf gn 1)) gi).2.2 gq137 a135 (M102.1 78 5).toInt (M102.1 78 6).toInt (M136.1 78 5).toInt (M136.1 78 6).toInt (psX M136) (by decide) (at_g gf gn (fun _ => suR_g gf gn 1)) (by omega) (by omega)
        have u162r : b01 (RR ((teP gf gn false (suR gf gn 1)) gi) (M0.1 78 5).toInt (M0.1 78 6).toInt (M136.1 78 5).toInt (M136.1 78 6).toInt (psX M136)) = 1 := rr_sq ((atP gf gn false (suR gf gn 1)) gi) (luP gf gn 2042 2042 (atP gf gn false (suR gf gn 1))) (M0.1 78 5).toInt (M0.1 78 6).toInt (M102.1 78 5).toInt (M102.1 78 6).toInt (psX M102) (M136.1 78 5).toInt (M136.1 78 6).toInt (psX M136) (by omega) (by omega)
        exact hret _ _ _ dX8_term_59 ⟨hM136, by omega⟩
      · refine j_aload_n C 0 0 dX8_term_14 rfl rfl ?_
        refine y_getI C 7 _ _ fX8_term_22 rfl rfl ft_7_5 sb_7_5 hM136 dX8_term_15 (fun a141 ea141 la141 ua141 => ?_)
        refine y_if_ne C 59 dX8_term_18 (by decide) (by omega) (fun h143 => ?_) (fun h143 => ?_)
        · have u163e := ll_e gf gn 2042 2042 (atP gf gn false (suR gf gn 1)) ((atP gf gn false (suR gf gn 1)) gi).2.2 gq137 a135 (M102.1 78 5).toInt (M102.1 78 6).toInt (M136.1 78 5).toInt (M136.1 78 6).toInt (psX M136) (by decide) (at_g gf gn (fun _ => suR_g gf gn 1)) (by omega) (by omega)
          have u163r : b01 (RR ((teP gf gn false (suR gf gn 1)) gi) (M0.1 78 5).toInt (M0.1 78 6).toInt (M136.1 78 5).toInt (M136.1 78 6).toInt (psX M136)) = 1 := rr_sq ((atP gf gn false (suR gf gn 1)) gi) (luP gf gn 2042 2042 (atP gf gn false (suR gf gn 1))) (M0.1 78 5).toInt (M0.1 78 6).toInt (M102.1 78 5).toInt (M102.1 78 6).toInt (psX M102) (M136.1 78 5).toInt (M136.1 78 6).toInt (psX M136) (by omega) (by omega)
          exact hret _ _ _ dX8_term_59 ⟨hM136, by omega⟩
        · refine j_aload_n C 0 0 dX8_term_21 rfl rfl ?_
          refine j_callVi C (d := 0) (As := []) (st := []) 78 (s_lt rfl rfl) (s_kc (c := 7) rfl rfl) (by decide) rfl (s1_X8_token hM136 gf gn gq137 (by omega) (by omega)) gX8_term_X8_token rfl hdX8_token (by decide) (Nat.le_of_ble_eq_true rfl) dX8_term_22 rfl (fun r144 M145 h146 => ?_)
          obtain ⟨a148, rfl, rfl, h147⟩ := h146
          refine y_sipush C dX8_term_25 rfl ?_
          refine y_icmp_ne C 59 dX8_term_28 (by decide) (by omega) (fun h149 => ?_) (fun h149 => ?_)
          · have u164e := ll_e gf gn 2042 2042 (atP gf gn false (suR gf gn 1)) ((atP gf gn false (suR gf gn 1)) gi).2.2 gq137 a135 (M102.1 78 5).toInt (M102.1 78 6).toInt (M136.1 78 5).toInt (M136.1 78 6).toInt (psX M136) (by decide) (at_g gf gn (fun _ => suR_g gf gn 1)) (by omega) (by omega)
            have u164r : b01 (RR ((teP gf gn false (suR gf gn 1)) gi) (M0.1 78 5).toInt (M0.1 78 6).toInt (M136.1 78 5).toInt (M136.1 78 6).toInt (psX M136)) = 1 := rr_sq ((atP gf gn false (suR gf gn 1)) gi) (luP gf gn 2042 2042 (atP gf gn false (suR gf gn 1))) (M0.1 78 5).toInt (M0.1 78 6).toInt (M102.1 78 5).toInt (M102.1 78 6).toInt (psX M102) (M136.1 78 5).toInt (M136.1 78 6).toInt (psX M136) (by omega) (by omega)
            exact hret _ _ _ dX8_term_59 ⟨hM136, by omega⟩
          · refine j_aload_n C 0 0 dX8_term_31 rfl rfl ?_
            refine j_dup C dX8_term_32 rfl ?_
            refine y_getI C 7 _ _ fX8_term_18 rfl rfl ft_7_2 sb_7_2 hM136 dX8_term_33 (fun a150 ea150 la150 ua150 => ?_)
            refine y_iconst C dX8_term_36 ?_
            refine y_iadd C dX8_term_37 ?_
            refine y_putI C 7 _ _ qX8_term_18 rfl rfl ft_7_2 sb_7_2 hM136 (PX.w hpr rfl rfl) dX8_term_38 (by omega) (fun M152 eM152 hM152 => ?_)
            have xM152 := tkx_j (f := gf) (n := gn) (gi := gq137) eM152 (by omega) (by omega) (by omega) (by omega)
            refine j_aload_n C 0 0 dX8_term_41 rfl rfl ?_
            refine j_iload_n C 1 1 dX8_term_42 rfl rfl ?_
            refine j_callVv C (d := 9) (As := [.int (sI 4)]) (st := []) 78 (s_lt rfl rfl) (s_kc (c := 7) rfl rfl) (by decide) rfl (s4_X8_atom hM152 hpr gf gn (nxF gf gn gq137) (by omega) (by omega)) gX8_term_X8_atom rfl hdX8_atom (by decide) (Nat.le_of_ble_eq_true rfl) dX8_term_43 rfl (fun M154 h155 => ?_)
            obtain ⟨hM154, h156⟩ := h155
            have bM154 := tkx_b (f := gf) (n := gn) (M := M154) (by omega)
            have qM154 := po_rr (atP gf gn false (suR gf gn 1)) gn (nxF gf gn gq137) (M152.1 78 5).toInt (M152.1 78 6).toInt (psX M152) (M154.1 78 5).toInt (M154.1 78 6).toInt (psX M154) (at_g gf gn (fun _ => suR_g gf gn 1)) (by omega) (by omega)
            refine j_aload_n C 0 0 dX8_term_46 rfl rfl ?_
            refine y_sipush C dX8_term_47 rfl ?_
            refine j_callVv C (d := 0) (As := [.int (sI 2042)]) (st := []) 78 (s_lt rfl rfl) (s_kc (c := 7) rfl rfl) (by decide) rfl (s1_X8_emit hM154 hpr 2042 (by omega) gf gn ((atP gf gn false (suR gf gn 1)) (nxF gf gn gq137)).2.2 (by omega) (by omega)) gX8_term_X8_emit rfl hdX8_emit (by decide) (Nat.le_of_ble_eq_true rfl) dX8_term_50 rfl (fun M158 h159 => ?_)
            obtain ⟨hM158, h160⟩ := h159
            have bM158 := tkx_b (f := gf) (n := gn) (M := M158) (by omega)
            have qM158 := po_eq gn ((atP gf gn false (suR gf gn 1)) (nxF gf gn gq137)).2.2 (M154.1 78 5).toInt (psX M154) (M158.1 78 5).toInt (psX M158) (by omega) (by omega) (by omega)
            refine y_iinc C 2 [(2, .int (sI (a135 + 1))), (0, .ref (ad 78)), (1, .int (sI 4))] dX8_term_53 rfl (by decide) rfl ?_
            have u161s := ll_s gf gn 2042 2042 (atP gf gn false (suR gf gn 1)) ((atP gf gn false (suR gf gn 1)) gi).2.2 gq137 a135 (M102.1 78 5).toInt (M102.1 78 6).toInt (M136.1 78 5).toInt (M136.1 78 6).toInt (psX M136) (M152.1 78 5).toInt (M152.1 78 6).toInt (M154.1 78 5).toInt (M154.1 78 6).toInt (psX M154) (M158.1 78 5).toInt (M158.1 78 6).toInt (psX M158) (by decide) (at_g gf gn (fun _ => suR_g gf gn 1)) (by omega) (by omega) (by omega) (by omega) (by omega) (by omega) (by omega) (by omega) (by omega)
            refine j_goto C 7 dX8_term_56 (by decide) ?_
            refine j_lv [1, 2, 0] rfl ?_; exact ih133 (a135 + 1) M158 ((atP gf gn false (suR gf gn 1)) (nxF gf gn gq137)).2.2 (by omega) hM158
  refine j_lv [1, 2, 0] rfl ?_; exact L134 2010 0 M102 ((atP gf gn false (suR gf gn 1)) gi).2.2 (by omega) hM102
set_option maxHeartbeats 4000000 in
theorem s4_X8_sum {l : Launch} {dC : Nat → ClassId} {dI : Nat → Nat → Nat} {ad : Nat → Nat} {cA : Nat → ClassId} {pr : Nat → Nat → Bool} {Kz : mm_M} {M0 : mm_M} (hM0 : INV pr Kz M0) (hpr : PX pr) (gf : Nat → Int) (gn : Int) (gi : Int) (hp0 : b01 (TKX gf gn M0) = 1) (hp1 : b01 (PO gn gi (M0.1 78 5).toInt (psX M0)) = 1) : Cv l 11 yX8_sum wsX8_sum dC dI ad cA [.ref (ad 78), .int (sI 4)] M0 (fun M' => INV pr Kz M' ∧ (b01 (TKX gf gn M') = 1) ∧ b01 (RR ((suR gf gn 2) gi) (M0.1 78 5).toInt (M0.1 78 6).toInt (M'.1 78 5).toInt (M'.1 78 6).toInt (psX M')) = 1) := by
  refine cv_of (cc := cX8_sum) (maxL := 4) (lv := [(0, .ref (ad 78)), (1, .int (sI 4))]) (by decide) rfl (Nat.le_of_ble_eq_true rfl) rfl ?_
  intro p e s m args below meth c A Q C hret
  refine j_aload_n C 0 0 dX8_sum_0 rfl rfl ?_
  refine j_iload_n C 1 1 dX8_sum_1 rfl rfl ?_
  refine j_callVv C (d := 10) (As := [.int (sI 4)]) (st := []) 78 (s_lt rfl rfl) (s_kc (c := 7) rfl rfl) (by decide) rfl (s4_X8_term hM0 hpr gf gn gi (by omega) (by omega)) gX8_sum_X8_term rfl hdX8_term (by decide) (Nat.le_of_ble_eq_true rfl) dX8_sum_2 rfl (fun M102 h103 => ?_)
  obtain ⟨hM102, h104⟩ := h103
  have bM102 := tkx_b (f := gf) (n := gn) (M := M102) (by omega)
  have qM102 := po_rr (teP gf gn false (suR gf gn 1)) gn gi (M0.1 78 5).toInt (M0.1 78 6).toInt (psX M0) (M102.1 78 5).toInt (M102.1 78 6).toInt (psX M102) (te_g gf gn (fun _ => suR_g gf gn 1)) (by omega) (by omega)
  refine j_aload_n C 0 0 dX8_sum_5 rfl rfl ?_
  refine j_callVi C (d := 0) (As := []) (st := []) 78 (s_lt rfl rfl) (s_kc (c := 7) rfl rfl) (by decide) rfl (s1_X8_token hM102 gf gn ((teP gf gn false (suR gf gn 1)) gi).2.2 (by omega) (by omega)) gX8_sum_X8_token rfl hdX8_token (by decide) (Nat.le_of_ble_eq_true rfl) dX8_sum_6 rfl (fun r105 M106 h107 => ?_)
  obtain ⟨a109, rfl, rfl, h108⟩ := h107
  refine j_istore_n C 2 [(2, .int (sI a109)), (0, .ref (ad 78)), (1, .int (sI 4))] dX8_sum_9 rfl (by decide) rfl ?_
  refine y_iconst C dX8_sum_10 ?_
  have u110l := ll_0 (luP gf gn 2043 2045 (teP gf gn false (suR gf gn 1))) gn ((teP gf gn false (suR gf gn 1)) gi).2.2 (M102.1 78 5).toInt (M102.1 78 6).toInt (psX M102) (by omega)
  refine j_istore_n C 3 [(3, .int (sI 0)), (2, .int (sI a109)), (0, .ref (ad 78)), (1, .int (sI 4))] dX8_sum_11 rfl (by decide) rfl ?_
  have L158 : ∀ (n156 : Nat), ∀ (a159 : Int) (a160 : Int) (M161 : mm_M) (gq162 : Int), ((-2147483648) ≤ a159 ∧ a159 ≤ 2147483647 ∧ 0 ≤ a160 ∧ a160 ≤ 900 ∧ (b01 (LL (luP gf gn 2043 2045 (teP gf gn false (suR gf gn 1))) gn ((teP gf gn false (suR gf gn 1)) gi).2.2 gq162 a160 (M102.1 78 5).toInt (M102.1 78 6).toInt (M161.1 78 5).toInt (M161.1 78 6).toInt (psX M161)) = 1) ∧ (a159 = tkF gf gn (psX M161)) ∧ (b01 (TKX gf gn M161) = 1) ∧ (b01 (PO gn gq162 (M161.1 78 5).toInt (psX M161)) = 1) ∧ (900 - a160) < (n156 : Int)) → INV pr Kz M161 → jj p l e (cn_R 11) s m args below meth c 0 0 Q 4 dC dI ad cA A M161 12 [(0, .ref (ad 78)), (1, .int (sI 4)), (2, .int (sI a159)), (3, .int (sI a160))] [] := by
    intro n156
    induction n156 with
    | zero =>
      intro a159 a160 M161 gq162 h163 hM161
      exfalso; omega
    | succ n156 ih157 =>
      intro a159 a160 M161 gq162 h163 hM161
      have u164b := tkx_b (f := gf) (n := gn) (M := M161) (by omega)
      refine j_iload_n C 3 3 dX8_sum_12 rfl rfl ?_
      refine y_sipush C dX8_sum_13 rfl ?_
      refine y_icmp_ge C 71 dX8_sum_16 (by decide) (by omega) (fun h165 => ?_) (fun h165 => ?_)
      · have u205e := ll_e gf gn 2043 2045 (teP gf gn false (suR gf gn 1)) ((teP gf gn false (suR gf gn 1)) gi).2.2 gq162 a160 (M102.1 78 5).toInt (M102.1 78 6).toInt (M161.1 78 5).toInt (M161.1 78 6).toInt (psX M161) (by decide) (te_g gf gn (fun _ => suR_g gf gn 1)) (by omega) (by omega)
        have u205r : b01 (RR ((suR gf gn 2) gi) (M0.1 78 5).toInt (M0.1 78 6).toInt (M161.1 78 5).toInt (M161.1 78 6).toInt (psX M161)) = 1 := by rw [su_q gf gn 1 2 rfl]; exact rr_sq ((teP gf gn false (suR gf gn 1)) gi) (luP gf gn 2043 2045 (teP gf gn false (suR gf gn 1))) (M0.1 78 5).toInt (M0.1 78 6).toInt (M102.1 78 5).toInt (M102.1 78 6).toInt (psX M102) (M161.1 78 5).toInt (M161.1 78 6).toInt (psX M161) (by omega) (by omega)
        exact hret _ _ _ dX8_sum_71 ⟨hM161, by omega⟩
      · refine j_aload_n C 0 0 dX8_sum_19 rfl rfl ?_
        refine y_getI C 7 _ _ fX8_sum_22 rfl rfl ft_7_5 sb_7_5 hM161 dX8_sum_20 (fun a166 ea166 la166 ua166 => ?_)
        refine y_if_ne C 71 dX8_sum_23 (by decide) (by omega) (fun h168 => ?_) (fun h168 => ?_)
        · have u206e := ll_e gf gn 2043 2045 (teP gf gn false (suR gf gn 1)) ((teP gf gn false (suR gf gn 1)) gi).2.2 gq162 a160 (M102.1 78 5).toInt (M102.1 78 6).toInt (M161.1 78 5).toInt (M161.1 78 6).toInt (psX M161) (by decide) (te_g gf gn (fun _ => suR_g gf gn 1)) (by omega) (by omega)
          have u206r : b01 (RR ((suR gf gn 2) gi) (M0.1 78 5).toInt (M0.1 78 6).toInt (M161.1 78 5).toInt (M161.1 78 6).toInt (psX M161)) = 1 := by rw [su_q gf gn 1 2 rfl]; exact rr_sq ((teP gf gn false (suR gf gn 1)) gi) (luP gf gn 2043 2045 (teP gf gn false (suR gf gn 1))) (M0.1 78 5).toInt (M0.1 78 6).toInt (M102.1 78 5).toInt (M102.1 78 6).toInt (psX M102) (M161.1 78 5).toInt (M161.1 78 6).toInt (psX M161) (by omega) (by omega)
          exact hret _ _ _ dX8_sum_71 ⟨hM161, by omega⟩
        · refine j_iload_n C 2 2 dX8_sum_26 rfl rfl ?_
          refine y_sipush C dX8_sum_27 rfl ?_
          refine y_icmp_eq C 40 dX8_sum_30 (by decide) (by omega) (fun h169 => ?_) (fun h169 => ?_)
          · refine j_aload_n C 0 0 dX8_sum_40 rfl rfl ?_
            refine j_dup C dX8_sum_41 rfl ?_
            refine y_getI C 7 _ _ fX8_sum_18 rfl rfl ft_7_2 sb_7_2 hM161 dX8_sum_42 (fun a170 ea170 la170 ua170 => ?_)
            refine y_iconst C dX8_sum_45 ?_
            refine y_iadd C dX8_sum_46 ?_
            refine y_putI C 7 _ _ qX8_sum_18 rfl rfl ft_7_2 sb_7_2 hM161 (PX.w hpr rfl rfl) dX8_sum_47 (by omega) (fun M172 eM172 hM172 => ?_)
            have xM172 := tkx_j (f := gf) (n := gn) (gi := gq162) eM172 (by omega) (by omega) (by omega) (by omega)
            refine j_aload_n C 0 0 dX8_sum_50 rfl rfl ?_
            refine j_iload_n C 1 1 dX8_sum_51 rfl rfl ?_
            refine j_callVv C (d := 10) (As := [.int (sI 4)]) (st := []) 78 (s_lt rfl rfl) (s_kc (c := 7) rfl rfl) (by decide) rfl (s4_X8_term hM172 hpr gf gn (nxF gf gn gq162) (by omega) (by omega)) gX8_sum_X8_term rfl hdX8_term (by decide) (Nat.le_of_ble_eq_true rfl) dX8_sum_52 rfl (fun M174 h175 => ?_)
            obtain ⟨hM174, h176⟩ := h175
            have bM174 := tkx_b (f := gf) (n := gn) (M := M174) (by omega)
            have qM174 := po_rr (teP gf gn false (suR gf gn 1)) gn (nxF gf gn gq162) (M172.1 78 5).toInt (M172.1 78 6).toInt (psX M172) (M174.1 78 5).toInt (M174.1 78 6).toInt (psX M174) (te_g gf gn (fun _ => suR_g gf gn 1)) (by omega) (by omega)
            refine j_aload_n C 0 0 dX8_sum_55 rfl rfl ?_
            refine j_iload_n C 2 2 dX8_sum_56 rfl rfl ?_
            refine j_callVv C (d := 0) (As := [.int (sI a159)]) (st := []) 78 (s_lt rfl rfl) (s_kc (c := 7) rfl rfl) (by decide) rfl (s1_X8_emit hM174 hpr a159 (by omega) gf gn ((teP gf gn false (suR gf gn 1)) (nxF gf gn gq162)).2.2 (by omega) (by omega)) gX8_sum_X8_emit rfl hdX8_emit (by decide) (Nat.le_of_ble_eq_true rfl) dX8_sum_57 rfl (fun M178 h179 => ?_)
            obtain ⟨hM178, h180⟩ := h179
            have bM178 := tkx_b (f := gf) (n := gn) (M := M178) (by omega)
            have qM178 := po_eq gn ((teP gf gn false (suR gf gn 1)) (nxF gf gn gq162)).2.2 (M174.1 78 5).toInt (psX M174) (M178.1 78 5).toInt (psX M178) (by omega) (by omega) (by omega)
            refine j_aload_n C 0 0 dX8_sum_60 rfl rfl ?_
            refine j_callVi C (d := 0) (As := []) (st := []) 78 (s_lt rfl rfl) (s_kc (c := 7) rfl rfl) (by decide) rfl (s1_X8_token hM178 gf gn ((teP gf gn false (suR gf gn 1)) (nxF gf gn gq162)).2.2 (by omega) (by omega)) gX8_sum_X8_token rfl hdX8_token (by decide) (Nat.le_of_ble_eq_true rfl) dX8_sum_61 rfl (fun r181 M182 h183 => ?_)
            obtain ⟨a185, rfl, rfl, h184⟩ := h183
            refine j_istore_n C 2 [(2, .int (sI a185)), (0, .ref (ad 78)), (1, .int (sI 4)), (3, .int (sI a160))] dX8_sum_64 rfl (by decide) rfl ?_
            refine y_iinc C 3 [(3, .int (sI (a160 + 1))), (2, .int (sI a185)), (0, .ref (ad 78)), (1, .int (sI 4))] dX8_sum_65 rfl (by decide) rfl ?_
            have u186s := ll_s gf gn 2043 2045 (teP gf gn false (suR gf gn 1)) ((teP gf gn false (suR gf gn 1)) gi).2.2 gq162 a160 (M102.1 78 5).toInt (M102.1 78 6).toInt (M161.1 78 5).toInt (M161.1 78 6).toInt (psX M161) (M172.1 78 5).toInt (M172.1 78 6).toInt (M174.1 78 5).toInt (M174.1 78 6).toInt (psX M174) (M178.1 78 5).toInt (M178.1 78 6).toInt (psX M178) (by decide) (te_g gf gn (fun _ => suR_g gf gn 1)) (by omega) (by omega) (by omega) (by omega) (by omega) (by omega) (by omega) (by omega) (by omega)
            refine j_goto C 12 dX8_sum_68 (by decide) ?_
            refine j_lv [2, 3, 1, 0] rfl ?_; exact ih157 a185 (a160 + 1) M178 ((teP gf gn false (suR gf gn 1)) (nxF gf gn gq162)).2.2 (by omega) hM178
          · refine j_iload_n C 2 2 dX8_sum_33 rfl rfl ?_
            refine y_sipush C dX8_sum_34 rfl ?_
            refine y_icmp_ne C 71 dX8_sum_37 (by decide) (by omega) (fun h187 => ?_) (fun h187 => ?_)
            · have u207e := ll_e gf gn 2043 2045 (teP gf gn false (suR gf gn 1)) ((teP gf gn false (suR gf gn 1)) gi).2.2 gq162 a160 (M102.1 78 5).toInt (M102.1 78 6).toInt (M161.1 78 5).toInt (M161.1 78 6).toInt (psX M161) (by decide) (te_g gf gn (fun _ => suR_g gf gn 1)) (by omega) (by omega)
              have u207r : b01 (RR ((suR gf gn 2) gi) (M0.1 78 5).toInt (M0.1 78 6).toInt (M161.1 78 5).toInt (M161.1 78 6).toInt (psX M161)) = 1 := by rw [su_q gf gn 1 2 rfl]; exact rr_sq ((teP gf gn false (suR gf gn 1)) gi) (luP gf gn 2043 2045 (teP gf gn false (suR gf gn 1))) (M0.1 78 5).toInt (M0.1 78 6).toInt (M102.1 78 5).toInt (M102.1 78 6).toInt (psX M102) (M161.1 78 5).toInt (M161.1 78 6).toInt (psX M161) (by omega) (by omega)
              exact hret _ _ _ dX8_sum_71 ⟨hM161, by omega⟩
            · refine j_aload_n C 0 0 dX8_sum_40 rfl rfl ?_
              refine j_dup C dX8_sum_41 rfl ?_
              refine y_getI C 7 _ _ fX8_sum_18 rfl rfl ft_7_2 sb_7_2 hM161 dX8_sum_42 (fun a188 ea188 la188 ua188 => ?_)
              refine y_iconst C dX8_sum_45 ?_
              refine y_iadd C dX8_sum_46 ?_
              refine y_putI C 7 _ _ qX8_sum_18 rfl rfl ft_7_2 sb_7_2 hM161 (PX.w hpr rfl rfl) dX8_sum_47 (by omega) (fun M190 eM190 hM190 => ?_)
              have xM190 := tkx_j (f := gf) (n := gn) (gi := gq162) eM190 (by omega) (by omega) (by omega) (by omega)
              refine j_aload_n C 0 0 dX8_sum_50 rfl rfl ?_
              refine j_iload_n C 1 1 dX8_sum_51 rfl rfl ?_
              refine j_callVv C (d := 10) (As := [.int (sI 4)]) (st := []) 78 (s_lt rfl rfl) (s_kc (c := 7) rfl rfl) (by decide) rfl (s4_X8_term hM190 hpr gf gn (nxF gf gn gq162) (by omega) (by omega)) gX8_sum_X8_term rfl hdX8_term (by decide) (Nat.le_of_ble_eq_true rfl) dX8_sum_52 rfl (fun M192 h193 => ?_)
              obtain ⟨hM192, h194⟩ := h193
              have bM192 := tkx_b (f := gf) (n := gn) (M := M192) (by omega)
              have qM192 := po_rr (teP gf gn false (suR gf gn 1)) gn (nxF gf gn gq162) (M190.1 78 5).toInt (M190.1 78 6).toInt (psX M190) (M192.1 78 5).toInt (M192.1 78 6).toInt (psX M192) (te_g gf gn (fun _ => suR_g gf gn 1)) (by omega) (by omega)
              refine j_aload_n C 0 0 dX8_sum_55 rfl rfl ?_
              refine j_iload_n C 2 2 dX8_sum_56 rfl rfl ?_
              refine j_callVv C (d := 0) (As := [.int (sI a159)]) (st := []) 78 (s_lt rfl rfl) (s_kc (c := 7) rfl rfl) (by decide) rfl (s1_X8_emit hM192 hpr a159 (by omega) gf gn ((teP gf gn false (suR gf gn 1)) (nxF gf gn gq162)).2.2 (by omega) (by omega)) gX8_sum_X8_emit rfl hdX8_emit (by decide) (Nat.le_of_ble_eq_true rfl) dX8_sum_57 rfl (fun M196 h197 => ?_)
              obtain ⟨hM196, h198⟩ := h197
              have bM196 := tkx_b (f := gf) (n := gn) (M := M196) (by omega)
              have qM196 := po_eq gn ((teP gf gn false (suR gf gn 1)) (nxF gf gn gq162)).2.2 (M192.1 78 5).toInt (psX M192) (M196.1 78 5).toInt (psX M196) (by omega) (by omega) (by omega)
              refine j_aload_n C 0 0 dX8_sum_60 rfl rfl ?_
              refine j_callVi C (d := 0) (As := []) (st := []) 78 (s_lt rfl rfl) (s_kc (c := 7) rfl rfl) (by decide) rfl (s1_X8_token hM196 gf gn ((teP gf gn false (suR gf gn 1)) (nxF gf gn gq162)).2.2 (by omega) (by omega)) gX8_sum_X8_token rfl hdX8_token (by decide) (Nat.le_of_ble_eq_true rfl) dX8_sum_61 rfl (fun r199 M200 h201 => ?_)
              obtain ⟨a203, rfl, rfl, h202⟩ := h201
              refine j_istore_n C 2 [(2, .int (sI a203)), (0, .ref (ad 78)), (1, .int (sI 4)), (3, .int (sI a160))] dX8_sum_64 rfl (by decide) rfl ?_
              refine y_iinc C 3 [(3, .int (sI (a160 + 1))), (2, .int (sI a203)), (0, .ref (ad 78)), (1, .int (sI 4))] dX8_sum_65 rfl (by decide) rfl ?_
              have u204s := ll_s gf gn 2043 2045 (teP gf gn false (suR gf gn 1)) ((teP gf gn false (suR gf gn 1)) gi).2.2 gq162 a160 (M102.1 78 5).toInt (M102.1 78 6).toInt (M161.1 78 5).toInt (M161.1 78 6).toInt (psX M161) (M190.1 78 5).toInt (M190.1 78 6).toInt (M192.1 78 5).toInt (M192.1 78 6).toInt (psX M192) (M196.1 78 5).toInt (M196.1 78 6).toInt (psX M196) (by decide) (te_g gf gn (fun _ => suR_g gf gn 1)) (by omega) (by omega) (by omega) (by omega) (by omega) (by omega) (by omega) (by omega) (by omega)
              refine j_goto C 12 dX8_sum_68 (by decide) ?_
              refine j_lv [2, 3, 1, 0] rfl ?_; exact ih157 a203 (a160 + 1) M196 ((teP gf gn false (suR gf gn 1)) (nxF gf gn gq162)).2.2 (by omega) hM196
  refine j_lv [2, 3, 1, 0] rfl ?_; exact L158 4294967306 a109 0 M102 ((teP gf gn false (suR gf gn 1)) gi).2.2 (by omega) hM102
set_option maxHeartbeats 4000000 in
theorem s5_X8_atom {l : Launch} {dC : Nat → ClassId} {dI : Nat → Nat → Nat} {ad : Nat → Nat} {cA : Nat → ClassId} {pr : Nat → Nat → Bool} {Kz : mm_M} {M0 : mm_M} (hM0 : INV pr Kz M0) (hpr : PX pr) (gf : Nat → Int) (gn : Int) (gi : Int) (hp0 : b01 (TKX gf gn M0) = 1) (hp1 : b01 (PO gn gi (M0.1 78 5).toInt (psX M0)) = 1) : Cv l 12 yX8_atom wsX8_atom dC dI ad cA [.ref (ad 78), .int (sI 3)] M0 (fun M' => INV pr Kz M' ∧ (b01 (TKX gf gn M') = 1) ∧ b01 (RR ((atP gf gn false (suR gf gn 2)) gi) (M0.1 78 5).toInt (M0.1 78 6).toInt (M'.1 78 5).toInt (M'.1 78 6).toInt (psX M')) = 1) := by
  refine cv_of (cc := cX8_atom) (maxL := 3) (lv := [(0, .ref (ad 78)), (1, .int (sI 3))]) (by decide) rfl (Nat.le_of_ble_eq_true rfl) rfl ?_
  intro p e s m args below meth c A Q C hret
  have u101b := tkx_b (f := gf) (n := gn) (M := M0) (by omega)
  refine j_aload_n C 0 0 dX8_atom_0 rfl rfl ?_
  refine y_getI C 7 _ _ fX8_atom_22 rfl rfl ft_7_5 sb_7_5 hM0 dX8_atom_1 (fun a102 ea102 la102 ua102 => ?_)
  refine y_if_eq C 8 dX8_atom_4 (by decide) (by omega) (fun h104 => ?_) (fun h104 => ?_)
  · refine j_aload_n C 0 0 dX8_atom_8 rfl rfl ?_
    refine j_callVi C (d := 0) (As := []) (st := []) 78 (s_lt rfl rfl) (s_kc (c := 7) rfl rfl) (by decide) rfl (s1_X8_token hM0 gf gn gi (by omega) (by omega)) gX8_atom_X8_token rfl hdX8_token (by decide) (Nat.le_of_ble_eq_true rfl) dX8_atom_9 rfl (fun r105 M106 h107 => ?_)
    obtain ⟨a109, rfl, rfl, h108⟩ := h107
    refine j_istore_n C 2 [(2, .int (sI a109)), (0, .ref (ad 78)), (1, .int (sI 3))] dX8_atom_12 rfl (by decide) rfl ?_
    refine j_iload_n C 0 2 dX8_atom_13 rfl rfl ?_
    refine y_sipush C dX8_atom_14 rfl ?_
    refine y_icmp_ge C 38 dX8_atom_17 (by decide) (by omega) (fun h110 => ?_) (fun h110 => ?_)
    · refine j_iload_n C 0 2 dX8_atom_38 rfl rfl ?_
      refine y_sipush C dX8_atom_39 rfl ?_
      refine y_icmp_ne C 67 dX8_atom_42 (by decide) (by omega) (fun h111 => ?_) (fun h111 => ?_)
      · refine j_aload_n C 1 0 dX8_atom_67 rfl rfl ?_
        refine y_iconst C dX8_atom_68 ?_
        refine j_callVv C (d := 0) (As := [.int (sI 2)]) (st := []) 78 (s_lt rfl rfl) (s_kc (c := 7) rfl rfl) (by decide) rfl (s1_X8_fail hM0 hpr 2 (by omega) gf gn gi (by omega) (by omega) (by omega)) gX8_atom_X8_fail rfl hdX8_fail (by decide) (Nat.le_of_ble_eq_true rfl) dX8_atom_69 rfl (fun M113 h114 => ?_)
        obtain ⟨hM113, fM113, h115⟩ := h114
        have bM113 := tkx_b (f := gf) (n := gn) (M := M113) (by omega)
        have qM113 := po_f gn gi (M113.1 78 5).toInt (psX M113) (by omega)
        have u116r := at_4 gf gn false (suR gf gn 2) gi (M0.1 78 5).toInt (M0.1 78 6).toInt (psX M0) (M113.1 78 5).toInt (M113.1 78 6).toInt (psX M113) (by omega) (by omega) (by omega)
        exact hret _ _ _ dX8_atom_72 ⟨hM113, by omega⟩
      · refine j_aload_n C 1 0 dX8_atom_45 rfl rfl ?_
        refine j_iload_n C 2 1 dX8_atom_46 rfl rfl ?_
        refine j_callVv C (d := 0) (As := [.int (sI 3)]) (st := []) 78 (s_lt rfl rfl) (s_kc (c := 7) rfl rfl) (by decide) rfl (s4_X8_goDeeper hM0 hpr gf gn gi (by omega) (by omega) (by omega) (by omega) (by omega)) gX8_atom_X8_goDeeper rfl hdX8_goDeeper (by decide) (Nat.le_of_ble_eq_true rfl) dX8_atom_47 rfl (fun M118 h119 => ?_)
        obtain ⟨hM118, fM118, h120⟩ := h119
        have bM118 := tkx_b (f := gf) (n := gn) (M := M118) (by omega)
        refine j_aload_n C 1 0 dX8_atom_50 rfl rfl ?_
        refine j_iload_n C 2 1 dX8_atom_51 rfl rfl ?_
        refine y_iconst C dX8_atom_52 ?_
        refine y_iadd C dX8_atom_53 ?_
        refine j_callVv C (d := 11) (As := [.int (sI (3 + 1))]) (st := []) 78 (s_lt rfl rfl) (s_kc (c := 7) rfl rfl) (by decide) rfl (s4_X8_sum hM118 hpr gf gn (nxF gf gn gi) (by omega) (by omega)) gX8_atom_X8_sum rfl hdX8_sum (by decide) (Nat.le_of_ble_eq_true rfl) dX8_atom_54 rfl (fun M122 h123 => ?_)
        obtain ⟨hM122, h124⟩ := h123
        have bM122 := tkx_b (f := gf) (n := gn) (M := M122) (by omega)
        have qM122 := po_rr (suR gf gn 2) gn (nxF gf gn gi) (M118.1 78 5).toInt (M118.1 78 6).toInt (psX M118) (M122.1 78 5).toInt (M122.1 78 6).toInt (psX M122) (suR_g gf gn 2) (by omega) (by omega)
        refine j_aload_n C 1 0 dX8_atom_57 rfl rfl ?_
        refine y_sipush C dX8_atom_58 rfl ?_
        refine j_callVv C (d := 1) (As := [.int (sI 2041)]) (st := []) 78 (s_lt rfl rfl) (s_kc (c := 7) rfl rfl) (by decide) rfl (s1_X8_expect hM122 hpr 2041 (by omega) gf gn ((suR gf gn 2) (nxF gf gn gi)).2.2 (by omega) (by omega) (by omega) (by omega)) gX8_atom_X8_expect rfl hdX8_expect (by decide) (Nat.le_of_ble_eq_true rfl) dX8_atom_61 rfl (fun M126 h127 => ?_)
        obtain ⟨hM126, fM126, h128⟩ := h127
        have bM126 := tkx_b (f := gf) (n := gn) (M := M126) (by omega)
        have qM126 := po_rr (exP gf gn 2041) gn ((suR gf gn 2) (nxF gf gn gi)).2.2 (M122.1 78 5).toInt (M122.1 78 6).toInt (psX M122) (M126.1 78 5).toInt (M126.1 78 6).toInt (psX M126) (ex_g gf gn 2041 (by omega)) (by omega) (by omega)
        refine j_goto C 72 dX8_atom_64 (by decide) ?_
        have u129r := at_2 gf gn (suR gf gn 2) gi (M0.1 78 5).toInt (M0.1 78 6).toInt (psX M0) (M118.1 78 5).toInt (M118.1 78 6).toInt (M122.1 78 5).toInt (M122.1 78 6).toInt (psX M122) (M126.1 78 5).toInt (M126.1 78 6).toInt (psX M126) (by omega) (by omega) (by omega) (by omega) (by omega) (by omega)
        exact hret _ _ _ dX8_atom_72 ⟨hM126, by omega⟩
    · refine j_aload_n C 1 0 dX8_atom_20 rfl rfl ?_
      refine j_dup C dX8_atom_21 rfl ?_
      refine y_getI C 7 _ _ fX8_atom_18 rfl rfl ft_7_2 sb_7_2 hM0 dX8_atom_22 (fun a130 ea130 la130 ua130 => ?_)
      refine y_iconst C dX8_atom_25 ?_
      refine y_iadd C dX8_atom_26 ?_
      refine y_putI C 7 _ _ qX8_atom_18 rfl rfl ft_7_2 sb_7_2 hM0 (PX.w hpr rfl rfl) dX8_atom_27 (by omega) (fun M132 eM132 hM132 => ?_)
      have xM132 := tkx_j (f := gf) (n := gn) (gi := gi) eM132 (by omega) (by omega) (by omega) (by omega)
      refine j_aload_n C 1 0 dX8_atom_30 rfl rfl ?_
      refine j_iload_n C 0 2 dX8_atom_31 rfl rfl ?_
      refine j_callVv C (d := 0) (As := [.int (sI a109)]) (st := []) 78 (s_lt rfl rfl) (s_kc (c := 7) rfl rfl) (by decide) rfl (s1_X8_emit hM132 hpr a109 (by omega) gf gn (nxF gf gn gi) (by omega) (by omega)) gX8_atom_X8_emit rfl hdX8_emit (by decide) (Nat.le_of_ble_eq_true rfl) dX8_atom_32 rfl (fun M134 h135 => ?_)
      obtain ⟨hM134, h136⟩ := h135
      have bM134 := tkx_b (f := gf) (n := gn) (M := M134) (by omega)
      have qM134 := po_eq gn (nxF gf gn gi) (M132.1 78 5).toInt (psX M132) (M134.1 78 5).toInt (psX M134) (by omega) (by omega) (by omega)
      refine j_goto C 72 dX8_atom_35 (by decide) ?_
      have u137r := rr_eq ((atP gf gn false (suR gf gn 2)) gi) (M0.1 78 5).toInt (M0.1 78 6).toInt (M132.1 78 5).toInt (M132.1 78 6).toInt (psX M132) (M134.1 78 5).toInt (M134.1 78 6).toInt (psX M134) (at_1 gf gn false (suR gf gn 2) gi (M0.1 78 5).toInt (M0.1 78 6).toInt (psX M0) (M132.1 78 5).toInt (M132.1 78 6).toInt (psX M132) (by omega) (by omega) (by omega) (by omega) (by omega) (by omega)) (by omega) (by omega) (by omega)
      exact hret _ _ _ dX8_atom_72 ⟨hM134, by omega⟩
  · have u138r := rr_no ((atP gf gn false (suR gf gn 2)) gi) (M0.1 78 5).toInt (M0.1 78 6).toInt (M0.1 78 5).toInt (M0.1 78 6).toInt (psX M0) (by omega) rfl rfl
    exact hret _ _ _ dX8_atom_7 ⟨hM0, by omega⟩
set_option maxHeartbeats 4000000 in
theorem s5_X8_term {l : Launch} {dC : Nat → ClassId} {dI : Nat → Nat → Nat} {ad : Nat → Nat} {cA : Nat → ClassId} {pr : Nat → Nat → Bool} {Kz : mm_M} {M0 : mm_M} (hM0 : INV pr Kz M0) (hpr : PX pr) (gf : Nat → Int) (gn : Int) (gi : Int) (hp0 : b01 (TKX gf gn M0) = 1) (hp1 : b01 (PO gn gi (M0.1 78 5).toInt (psX M0)) = 1) : Cv l 13 yX8_term wsX8_term dC dI ad cA [.ref (ad 78), .int (sI 3)] M0 (fun M' => INV pr Kz M' ∧ (b01 (TKX gf gn M') = 1) ∧ b01 (RR ((teP gf gn false (suR gf gn 2)) gi) (M0.1 78 5).toInt (M0.1 78 6).toInt (M'.1 78 5).toInt (M'.1 78 6).toInt (psX M')) = 1) := by
  refine cv_of (cc := cX8_term) (maxL := 3) (lv := [(0, .ref (ad 78)), (1, .int (sI 3))]) (by decide) rfl (Nat.le_of_ble_eq_true rfl) rfl ?_
  intro p e s m args below meth c A Q C hret
  refine j_aload_n C 0 0 dX8_term_0 rfl rfl ?_
  refine j_iload_n C 1 1 dX8_term_1 rfl rfl ?_
  refine j_callVv C (d := 12) (As := [.int (sI 3)]) (st := []) 78 (s_lt rfl rfl) (s_kc (c := 7) rfl rfl) (by decide) rfl (s5_X8_atom hM0 hpr gf gn gi (by omega) (by omega)) gX8_term_X8_atom rfl hdX8_atom (by decide) (Nat.le_of_ble_eq_true rfl) dX8_term_2 rfl (fun M102 h103 => ?_)
  obtain ⟨hM102, h104⟩ := h103
  have bM102 := tkx_b (f := gf) (n := gn) (M := M102) (by omega)
  have qM102 := po_rr (atP gf gn false (suR gf gn 2)) gn gi (M0.1 78 5).toInt (M0.1 78 6).toInt (psX M0) (M102.1 78 5).toInt (M102.1 78 6).toInt (psX M102) (at_g gf gn (fun _ => suR_g gf gn 2)) (by omega) (by omega)
  refine y_iconst C dX8_term_5 ?_
  have u105l := ll_0 (luP gf gn 2042 2042 (atP gf gn false (suR gf gn 2))) gn ((atP gf gn false (suR gf gn 2)) gi).2.2 (M102.1 78 5).toInt (M102.1 78 6).toInt (psX M102) (by omega)
  refine j_istore_n C 2 [(2, .int (sI 0)), (0, .ref (ad 78)), (1, .int (sI 3))] dX8_term_6 rfl (by decide) rfl ?_
  have L134 : ∀ (n132 : Nat), ∀ (a135 : Int) (M136 : mm_M) (gq137 : Int), (0 ≤ a135 ∧ a135 ≤ 900 ∧ (b01 (LL (luP gf gn 2042 2042 (atP gf gn false (suR gf gn 2))) gn ((atP gf gn false (suR gf gn 2)) gi).2.2 gq137 a135 (M102.1 78 5).toInt (M102.1 78 6).toInt (M136.1 78 5).toInt (M136.1 78 6).toInt (psX M136)) = 1) ∧ (b01 (TKX gf gn M136) = 1) ∧ (b01 (PO gn gq137 (M136.1 78 5).toInt (psX M136)) = 1) ∧ (900 - a135) < (n132 : Int)) → INV pr Kz M136 → jj p l e (cn_R 13) s m args below meth c 0 0 Q 3 dC dI ad cA A M136 7 [(0, .ref (ad 78)), (1, .int (sI 3)), (2, .int (sI a135))] [] := by
    intro n132
    induction n132 with
    | zero =>
      intro a135 M136 gq137 h138 hM136
      exfalso; omega
    | succ n132 ih133 =>
      intro a135 M136 gq137 h138 hM136
      have u139b := tkx_b (f := gf) (n := gn) (M := M136) (by omega)
      refine j_iload_n C 2 2 dX8_term_7 rfl rfl ?_
      refine y_sipush C dX8_term_8 rfl ?_
      refine y_icmp_ge C 59 dX8_term_11 (by decide) (by omega) (fun h140 => ?_) (fun h140 => ?_)
      · have u162e := ll_e gf gn 2042 2042 (atP gf gn false (suR gf gn 2)) ((atP gf gn false (suR gf gn 2)) gi).2.2 gq137 a135 (M102.1 78 5).toInt (M102.1 78 6).toInt (M136.1 78 5).toInt (M136.1 78 6).toInt (psX M136) (by decide) (at_g gf gn (fun _ => suR_g gf gn 2)) (by omega) (by omega)
        have u162r : b01 (RR ((teP gf gn false (suR gf gn 2)) gi) (M0.1 78 5).toInt (M0.1 78 6).toInt (M136.1 78 5).toInt (M136.1 78 6).toInt (psX M136)) = 1 := rr_sq ((atP gf gn false (suR gf gn 2)) gi) (luP gf gn 2042 2042 (atP gf gn false (suR gf gn 2))) (M0.1 78 5).toInt (M0.1 78 6).toInt (M102.1 78 5).toInt (M102.1 78 6).toInt (psX M102) (M136.1 78 5).toInt (M136.1 78 6).toInt (psX M136) (by omega) (by omega)
        exact hret _ _ _ dX8_term_59 ⟨hM136, by omega⟩
      · refine j_aload_n C 0 0 dX8_term_14 rfl rfl ?_
        refine y_getI C 7 _ _ fX8_term_22 rfl rfl ft_7_5 sb_7_5 hM136 dX8_term_15 (fun a141 ea141 la141 ua141 => ?_)
        refine y_if_ne C 59 dX8_term_18 (by decide) (by omega) (fun h143 => ?_) (fun h143 => ?_)
        · have u163e := ll_e gf gn 2042 2042 (atP gf gn false (suR gf gn 2)) ((atP gf gn false (suR gf gn 2)) gi).2.2 gq137 a135 (M102.1 78 5).toInt (M102.1 78 6).toInt (M136.1 78 5).toInt (M136.1 78 6).toInt (psX M136) (by decide) (at_g gf gn (fun _ => suR_g gf gn 2)) (by omega) (by omega)
          have u163r : b01 (RR ((teP gf gn false (suR gf gn 2)) gi) (M0.1 78 5).toInt (M0.1 78 6).toInt (M136.1 78 5).toInt (M136.1 78 6).toInt (psX M136)) = 1 := rr_sq ((atP gf gn false (suR gf gn 2)) gi) (luP gf gn 2042 2042 (atP gf gn false (suR gf gn 2))) (M0.1 78 5).toInt (M0.1 78 6).toInt (M102.1 78 5).toInt (M102.1 78 6).toInt (psX M102) (M136.1 78 5).toInt (M136.1 78 6).toInt (psX M136) (by omega) (by omega)
          exact hret _ _ _ dX8_term_59 ⟨hM136, by omega⟩
        · refine j_aload_n C 0 0 dX8_term_21 rfl rfl ?_
          refine j_callVi C (d := 0) (As := []) (st := []) 78 (s_lt rfl rfl) (s_kc (c := 7) rfl rfl) (by decide) rfl (s1_X8_token hM136 gf gn gq137 (by omega) (by omega)) gX8_term_X8_token rfl hdX8_token (by decide) (Nat.le_of_ble_eq_true rfl) dX8_term_22 rfl (fun r144 M145 h146 => ?_)
          obtain ⟨a148, rfl, rfl, h147⟩ := h146
          refine y_sipush C dX8_term_25 rfl ?_
          refine y_icmp_ne C 59 dX8_term_28 (by decide) (by omega) (fun h149 => ?_) (fun h149 => ?_)
          · have u164e := ll_e gf gn 2042 2042 (atP gf gn false (suR gf gn 2)) ((atP gf gn false (suR gf gn 2)) gi).2.2 gq137 a135 (M102.1 78 5).toInt (M102.1 78 6).toInt (M136.1 78 5).toInt (M136.1 78 6).toInt (psX M136) (by decide) (at_g gf gn (fun _ => suR_g gf gn 2)) (by omega) (by omega)
            have u164r : b01 (RR ((teP gf gn false (suR gf gn 2)) gi) (M0.1 78 5).toInt (M0.1 78 6).toInt (M136.1 78 5).toInt (M136.1 78 6).toInt (psX M136)) = 1 := rr_sq ((atP gf gn false (suR gf gn 2)) gi) (luP gf gn 2042 2042 (atP gf gn false (suR gf gn 2))) (M0.1 78 5).toInt (M0.1 78 6).toInt (M102.1 78 5).toInt (M102.1 78 6).toInt (psX M102) (M136.1 78 5).toInt (M136.1 78 6).toInt (psX M136) (by omega) (by omega)
            exact hret _ _ _ dX8_term_59 ⟨hM136, by omega⟩
          · refine j_aload_n C 0 0 dX8_term_31 rfl rfl ?_
            refine j_dup C dX8_term_32 rfl ?_
            refine y_getI C 7 _ _ fX8_term_18 rfl rfl ft_7_2 sb_7_2 hM136 dX8_term_33 (fun a150 ea150 la150 ua150 => ?_)
            refine y_iconst C dX8_term_36 ?_
            refine y_iadd C dX8_term_37 ?_
            refine y_putI C 7 _ _ qX8_term_18 rfl rfl ft_7_2 sb_7_2 hM136 (PX.w hpr rfl rfl) dX8_term_38 (by omega) (fun M152 eM152 hM152 => ?_)
            have xM152 := tkx_j (f := gf) (n := gn) (gi := gq137) eM152 (by omega) (by omega) (by omega) (by omega)
            refine j_aload_n C 0 0 dX8_term_41 rfl rfl ?_
            refine j_iload_n C 1 1 dX8_term_42 rfl rfl ?_
            refine j_callVv C (d := 12) (As := [.int (sI 3)]) (st := []) 78 (s_lt rfl rfl) (s_kc (c := 7) rfl rfl) (by decide) rfl (s5_X8_atom hM152 hpr gf gn (nxF gf gn gq137) (by omega) (by omega)) gX8_term_X8_atom rfl hdX8_atom (by decide) (Nat.le_of_ble_eq_true rfl) dX8_term_43 rfl (fun M154 h155 => ?_)
            obtain ⟨hM154, h156⟩ := h155
            have bM154 := tkx_b (f := gf) (n := gn) (M := M154) (by omega)
            have qM154 := po_rr (atP gf gn false (suR gf gn 2)) gn (nxF gf gn gq137) (M152.1 78 5).toInt (M152.1 78 6).toInt (psX M152) (M154.1 78 5).toInt (M154.1 78 6).toInt (psX M154) (at_g gf gn (fun _ => suR_g gf gn 2)) (by omega) (by omega)
            refine j_aload_n C 0 0 dX8_term_46 rfl rfl ?_
            refine y_sipush C dX8_term_47 rfl ?_
            refine j_callVv C (d := 0) (As := [.int (sI 2042)]) (st := []) 78 (s_lt rfl rfl) (s_kc (c := 7) rfl rfl) (by decide) rfl (s1_X8_emit hM154 hpr 2042 (by omega) gf gn ((atP gf gn false (suR gf gn 2)) (nxF gf gn gq137)).2.2 (by omega) (by omega)) gX8_term_X8_emit rfl hdX8_emit (by decide) (Nat.le_of_ble_eq_true rfl) dX8_term_50 rfl (fun M158 h159 => ?_)
            obtain ⟨hM158, h160⟩ := h159
            have bM158 := tkx_b (f := gf) (n := gn) (M := M158) (by omega)
            have qM158 := po_eq gn ((atP gf gn false (suR gf gn 2)) (nxF gf gn gq137)).2.2 (M154.1 78 5).toInt (psX M154) (M158.1 78 5).toInt (psX M158) (by omega) (by omega) (by omega)
            refine y_iinc C 2 [(2, .int (sI (a135 + 1))), (0, .ref (ad 78)), (1, .int (sI 3))] dX8_term_53 rfl (by decide) rfl ?_
            have u161s := ll_s gf gn 2042 2042 (atP gf gn false (suR gf gn 2)) ((atP gf gn false (suR gf gn 2)) gi).2.2 gq137 a135 (M102.1 78 5).toInt (M102.1 78 6).toInt (M136.1 78 5).toInt (M136.1 78 6).toInt (psX M136) (M152.1 78 5).toInt (M152.1 78 6).toInt (M154.1 78 5).toInt (M154.1 78 6).toInt (psX M154) (M158.1 78 5).toInt (M158.1 78 6).toInt (psX M158) (by decide) (at_g gf gn (fun _ => suR_g gf gn 2)) (by omega) (by omega) (by omega) (by omega) (by omega) (by omega) (by omega) (by omega) (by omega)
            refine j_goto C 7 dX8_term_56 (by decide) ?_
            refine j_lv [1, 2, 0] rfl ?_; exact ih133 (a135 + 1) M158 ((atP gf gn false (suR gf gn 2)) (nxF gf gn gq137)).2.2 (by omega) hM158
  refine j_lv [1, 2, 0] rfl ?_; exact L134 2010 0 M102 ((atP gf gn false (suR gf gn 2)) gi).2.2 (by omega) hM102
set_option maxHeartbeats 4000000 in
theorem s5_X8_sum {l : Launch} {dC : Nat → ClassId} {dI : Nat → Nat → Nat} {ad : Nat → Nat} {cA : Nat → ClassId} {pr : Nat → Nat → Bool} {Kz : mm_M} {M0 : mm_M} (hM0 : INV pr Kz M0) (hpr : PX pr) (gf : Nat → Int) (gn : Int) (gi : Int) (hp0 : b01 (TKX gf gn M0) = 1) (hp1 : b01 (PO gn gi (M0.1 78 5).toInt (psX M0)) = 1) : Cv l 14 yX8_sum wsX8_sum dC dI ad cA [.ref (ad 78), .int (sI 3)] M0 (fun M' => INV pr Kz M' ∧ (b01 (TKX gf gn M') = 1) ∧ b01 (RR ((suR gf gn 3) gi) (M0.1 78 5).toInt (M0.1 78 6).toInt (M'.1 78 5).toInt (M'.1 78 6).toInt (psX M')) = 1) := by
  refine cv_of (cc := cX8_sum) (maxL := 4) (lv := [(0, .ref (ad 78)), (1, .int (sI 3))]) (by decide) rfl (Nat.le_of_ble_eq_true rfl) rfl ?_
  intro p e s m args below meth c A Q C hret
  refine j_aload_n C 0 0 dX8_sum_0 rfl rfl ?_
  refine j_iload_n C 1 1 dX8_sum_1 rfl rfl ?_
  refine j_callVv C (d := 13) (As := [.int (sI 3)]) (st := []) 78 (s_lt rfl rfl) (s_kc (c := 7) rfl rfl) (by decide) rfl (s5_X8_term hM0 hpr gf gn gi (by omega) (by omega)) gX8_sum_X8_term rfl hdX8_term (by decide) (Nat.le_of_ble_eq_true rfl) dX8_sum_2 rfl (fun M102 h103 => ?_)
  obtain ⟨hM102, h104⟩ := h103
  have bM102 := tkx_b (f := gf) (n := gn) (M := M102) (by omega)
  have qM102 := po_rr (teP gf gn false (suR gf gn 2)) gn gi (M0.1 78 5).toInt (M0.1 78 6).toInt (psX M0) (M102.1 78 5).toInt (M102.1 78 6).toInt (psX M102) (te_g gf gn (fun _ => suR_g gf gn 2)) (by omega) (by omega)
  refine j_aload_n C 0 0 dX8_sum_5 rfl rfl ?_
  refine j_callVi C (d := 0) (As := []) (st := []) 78 (s_lt rfl rfl) (s_kc (c := 7) rfl rfl) (by decide) rfl (s1_X8_token hM102 gf gn ((teP gf gn false (suR gf gn 2)) gi).2.2 (by omega) (by omega)) gX8_sum_X8_token rfl hdX8_token (by decide) (Nat.le_of_ble_eq_true rfl) dX8_sum_6 rfl (fun r105 M106 h107 => ?_)
  obtain ⟨a109, rfl, rfl, h108⟩ := h107
  refine j_istore_n C 2 [(2, .int (sI a109)), (0, .ref (ad 78)), (1, .int (sI 3))] dX8_sum_9 rfl (by decide) rfl ?_
  refine y_iconst C dX8_sum_10 ?_
  have u110l := ll_0 (luP gf gn 2043 2045 (teP gf gn false (suR gf gn 2))) gn ((teP gf gn false (suR gf gn 2)) gi).2.2 (M102.1 78 5).toInt (M102.1 78 6).toInt (psX M102) (by omega)
  refine j_istore_n C 3 [(3, .int (sI 0)), (2, .int (sI a109)), (0, .ref (ad 78)), (1, .int (sI 3))] dX8_sum_11 rfl (by decide) rfl ?_
  have L158 : ∀ (n156 : Nat), ∀ (a159 : Int) (a160 : Int) (M161 : mm_M) (gq162 : Int), ((-2147483648) ≤ a159 ∧ a159 ≤ 2147483647 ∧ 0 ≤ a160 ∧ a160 ≤ 900 ∧ (b01 (LL (luP gf gn 2043 2045 (teP gf gn false (suR gf gn 2))) gn ((teP gf gn false (suR gf gn 2)) gi).2.2 gq162 a160 (M102.1 78 5).toInt (M102.1 78 6).toInt (M161.1 78 5).toInt (M161.1 78 6).toInt (psX M161)) = 1) ∧ (a159 = tkF gf gn (psX M161)) ∧ (b01 (TKX gf gn M161) = 1) ∧ (b01 (PO gn gq162 (M161.1 78 5).toInt (psX M161)) = 1) ∧ (900 - a160) < (n156 : Int)) → INV pr Kz M161 → jj p l e (cn_R 14) s m args below meth c 0 0 Q 4 dC dI ad cA A M161 12 [(0, .ref (ad 78)), (1, .int (sI 3)), (2, .int (sI a159)), (3, .int (sI a160))] [] := by
    intro n156
    induction n156 with
    | zero =>
      intro a159 a160 M161 gq162 h163 hM161
      exfalso; omega
    | succ n156 ih157 =>
      intro a159 a160 M161 gq162 h163 hM161
      have u164b := tkx_b (f := gf) (n := gn) (M := M161) (by omega)
      refine j_iload_n C 3 3 dX8_sum_12 rfl rfl ?_
      refine y_sipush C dX8_sum_13 rfl ?_
      refine y_icmp_ge C 71 dX8_sum_16 (by decide) (by omega) (fun h165 => ?_) (fun h165 => ?_)
      · have u205e := ll_e gf gn 2043 2045 (teP gf gn false (suR gf gn 2)) ((teP gf gn false (suR gf gn 2)) gi).2.2 gq162 a160 (M102.1 78 5).toInt (M102.1 78 6).toInt (M161.1 78 5).toInt (M161.1 78 6).toInt (psX M161) (by decide) (te_g gf gn (fun _ => suR_g gf gn 2)) (by omega) (by omega)
        have u205r : b01 (RR ((suR gf gn 3) gi) (M0.1 78 5).toInt (M0.1 78 6).toInt (M161.1 78 5).toInt (M161.1 78 6).toInt (psX M161)) = 1 := by rw [su_q gf gn 2 3 rfl]; exact rr_sq ((teP gf gn false (suR gf gn 2)) gi) (luP gf gn 2043 2045 (teP gf gn false (suR gf gn 2))) (M0.1 78 5).toInt (M0.1 78 6).toInt (M102.1 78 5).toInt (M102.1 78 6).toInt (psX M102) (M161.1 78 5).toInt (M161.1 78 6).toInt (psX M161) (by omega) (by omega)
        exact hret _ _ _ dX8_sum_71 ⟨hM161, by omega⟩
      · refine j_aload_n C 0 0 dX8_sum_19 rfl rfl ?_
        refine y_getI C 7 _ _ fX8_sum_22 rfl rfl ft_7_5 sb_7_5 hM161 dX8_sum_20 (fun a166 ea166 la166 ua166 => ?_)
        refine y_if_ne C 71 dX8_sum_23 (by decide) (by omega) (fun h168 => ?_) (fun h168 => ?_)
        · have u206e := ll_e gf gn 2043 2045 (teP gf gn false (suR gf gn 2)) ((teP gf gn false (suR gf gn 2)) gi).2.2 gq162 a160 (M102.1 78 5).toInt (M102.1 78 6).toInt (M161.1 78 5).toInt (M161.1 78 6).toInt (psX M161) (by decide) (te_g gf gn (fun _ => suR_g gf gn 2)) (by omega) (by omega)
          have u206r : b01 (RR ((suR gf gn 3) gi) (M0.1 78 5).toInt (M0.1 78 6).toInt (M161.1 78 5).toInt (M161.1 78 6).toInt (psX M161)) = 1 := by rw [su_q gf gn 2 3 rfl]; exact rr_sq ((teP gf gn false (suR gf gn 2)) gi) (luP gf gn 2043 2045 (teP gf gn false (suR gf gn 2))) (M0.1 78 5).toInt (M0.1 78 6).toInt (M102.1 78 5).toInt (M102.1 78 6).toInt (psX M102) (M161.1 78 5).toInt (M161.1 78 6).toInt (psX M161) (by omega) (by omega)
          exact hret _ _ _ dX8_sum_71 ⟨hM161, by omega⟩
        · refine j_iload_n C 2 2 dX8_sum_26 rfl rfl ?_
          refine y_sipush C dX8_sum_27 rfl ?_
          refine y_icmp_eq C 40 dX8_sum_30 (by decide) (by omega) (fun h169 => ?_) (fun h169 => ?_)
          · refine j_aload_n C 0 0 dX8_sum_40 rfl rfl ?_
            refine j_dup C dX8_sum_41 rfl ?_
            refine y_getI C 7 _ _ fX8_sum_18 rfl rfl ft_7_2 sb_7_2 hM161 dX8_sum_42 (fun a170 ea170 la170 ua170 => ?_)
            refine y_iconst C dX8_sum_45 ?_
            refine y_iadd C dX8_sum_46 ?_
            refine y_putI C 7 _ _ qX8_sum_18 rfl rfl ft_7_2 sb_7_2 hM161 (PX.w hpr rfl rfl) dX8_sum_47 (by omega) (fun M172 eM172 hM172 => ?_)
            have xM172 := tkx_j (f := gf) (n := gn) (gi := gq162) eM172 (by omega) (by omega) (by omega) (by omega)
            refine j_aload_n C 0 0 dX8_sum_50 rfl rfl ?_
            refine j_iload_n C 1 1 dX8_sum_51 rfl rfl ?_
            refine j_callVv C (d := 13) (As := [.int (sI 3)]) (st := []) 78 (s_lt rfl rfl) (s_kc (c := 7) rfl rfl) (by decide) rfl (s5_X8_term hM172 hpr gf gn (nxF gf gn gq162) (by omega) (by omega)) gX8_sum_X8_term rfl hdX8_term (by decide) (Nat.le_of_ble_eq_true rfl) dX8_sum_52 rfl (fun M174 h175 => ?_)
            obtain ⟨hM174, h176⟩ := h175
            have bM174 := tkx_b (f := gf) (n := gn) (M := M174) (by omega)
            have qM174 := po_rr (teP gf gn false (suR gf gn 2)) gn (nxF gf gn gq162) (M172.1 78 5).toInt (M172.1 78 6).toInt (psX M172) (M174.1 78 5).toInt (M174.1 78 6).toInt (psX M174) (te_g gf gn (fun _ => suR_g gf gn 2)) (by omega) (by omega)
            refine j_aload_n C 0 0 dX8_sum_55 rfl rfl ?_
            refine j_iload_n C 2 2 dX8_sum_56 rfl rfl ?_
            refine j_callVv C (d := 0) (As := [.int (sI a159)]) (st := []) 78 (s_lt rfl rfl) (s_kc (c := 7) rfl rfl) (by decide) rfl (s1_X8_emit hM174 hpr a159 (by omega) gf gn ((teP gf gn false (suR gf gn 2)) (nxF gf gn gq162)).2.2 (by omega) (by omega)) gX8_sum_X8_emit rfl hdX8_emit (by decide) (Nat.le_of_ble_eq_true rfl) dX8_sum_57 rfl (fun M178 h179 => ?_)
            obtain ⟨hM178, h180⟩ := h179
            have bM178 := tkx_b (f := gf) (n := gn) (M := M178) (by omega)
            have qM178 := po_eq gn ((teP gf gn false (suR gf gn 2)) (nxF gf gn gq162)).2.2 (M174.1 78 5).toInt (psX M174) (M178.1 78 5).toInt (psX M178) (by omega) (by omega) (by omega)
            refine j_aload_n C 0 0 dX8_sum_60 rfl rfl ?_
            refine j_callVi C (d := 0) (As := []) (st := []) 78 (s_lt rfl rfl) (s_kc (c := 7) rfl rfl) (by decide) rfl (s1_X8_token hM178 gf gn ((teP gf gn false (suR gf gn 2)) (nxF gf gn gq162)).2.2 (by omega) (by omega)) gX8_sum_X8_token rfl hdX8_token (by decide) (Nat.le_of_ble_eq_true rfl) dX8_sum_61 rfl (fun r181 M182 h183 => ?_)
            obtain ⟨a185, rfl, rfl, h184⟩ := h183
            refine j_istore_n C 2 [(2, .int (sI a185)), (0, .ref (ad 78)), (1, .int (sI 3)), (3, .int (sI a160))] dX8_sum_64 rfl (by decide) rfl ?_
            refine y_iinc C 3 [(3, .int (sI (a160 + 1))), (2, .int (sI a185)), (0, .ref (ad 78)), (1, .int (sI 3))] dX8_sum_65 rfl (by decide) rfl ?_
            have u186s := ll_s gf gn 2043 2045 (teP gf gn false (suR gf gn 2)) ((teP gf gn false (suR gf gn 2)) gi).2.2 gq162 a160 (M102.1 78 5).toInt (M102.1 78 6).toInt (M161.1 78 5).toInt (M161.1 78 6).toInt (psX M161) (M172.1 78 5).toInt (M172.1 78 6).toInt (M174.1 78 5).toInt (M174.1 78 6).toInt (psX M174) (M178.1 78 5).toInt (M178.1 78 6).toInt (psX M178) (by decide) (te_g gf gn (fun _ => suR_g gf gn 2)) (by omega) (by omega) (by omega) (by omega) (by omega) (by omega) (by omega) (by omega) (by omega)
            refine j_goto C 12 dX8_sum_68 (by decide) ?_
            refine j_lv [2, 3, 1, 0] rfl ?_; exact ih157 a185 (a160 + 1) M178 ((teP gf gn false (suR gf gn 2)) (nxF gf gn gq162)).2.2 (by omega) hM178
          · refine j_iload_n C 2 2 dX8_sum_33 rfl rfl ?_
            refine y_sipush C dX8_sum_34 rfl ?_
            refine y_icmp_ne C 71 dX8_sum_37 (by decide) (by omega) (fun h187 => ?_) (fun h187 => ?_)
            · have u207e := ll_e gf gn 2043 2045 (teP gf gn false (suR gf gn 2)) ((teP gf gn false (suR gf gn 2)) gi).2.2 gq162 a160 (M102.1 78 5).toInt (M102.1 78 6).toInt (M161.1 78 5).toInt (M161.1 78 6).toInt (psX M161) (by decide) (te_g gf gn (fun _ => suR_g gf gn 2)) (by omega) (by omega)
              have u207r : b01 (RR ((suR gf gn 3) gi) (M0.1 78 5).toInt (M0.1 78 6).toInt (M161.1 78 5).toInt (M161.1 78 6).toInt (psX M161)) = 1 := by rw [su_q gf gn 2 3 rfl]; exact rr_sq ((teP gf gn false (suR gf gn 2)) gi) (luP gf gn 2043 2045 (teP gf gn false (suR gf gn 2))) (M0.1 78 5).toInt (M0.1 78 6).toInt (M102.1 78 5).toInt (M102.1 78 6).toInt (psX M102) (M161.1 78 5).toInt (M161.1 78 6).toInt (psX M161) (by omega) (by omega)
              exact hret _ _ _ dX8_sum_71 ⟨hM161, by omega⟩
            · refine j_aload_n C 0 0 dX8_sum_40 rfl rfl ?_
              refine j_dup C dX8_sum_41 rfl ?_
              refine y_getI C 7 _ _ fX8_sum_18 rfl rfl ft_7_2 sb_7_2 hM161 dX8_sum_42 (fun a188 ea188 la188 ua188 => ?_)
              refine y_iconst C dX8_sum_45 ?_
              refine y_iadd C dX8_sum_46 ?_
              refine y_putI C 7 _ _ qX8_sum_18 rfl rfl ft_7_2 sb_7_2 hM161 (PX.w hpr rfl rfl) dX8_sum_47 (by omega) (fun M190 eM190 hM190 => ?_)
              have xM190 := tkx_j (f := gf) (n := gn) (gi := gq162) eM190 (by omega) (by omega) (by omega) (by omega)
              refine j_aload_n C 0 0 dX8_sum_50 rfl rfl ?_
              refine j_iload_n C 1 1 dX8_sum_51 rfl rfl ?_
              refine j_callVv C (d := 13) (As := [.int (sI 3)]) (st := []) 78 (s_lt rfl rfl) (s_kc (c := 7) rfl rfl) (by decide) rfl (s5_X8_term hM190 hpr gf gn (nxF gf gn gq162) (by omega) (by omega)) gX8_sum_X8_term rfl hdX8_term (by decide) (Nat.le_of_ble_eq_true rfl) dX8_sum_52 rfl (fun M192 h193 => ?_)
              obtain ⟨hM192, h194⟩ := h193
              have bM192 := tkx_b (f := gf) (n := gn) (M := M192) (by omega)
              have qM192 := po_rr (teP gf gn false (suR gf gn 2)) gn (nxF gf gn gq162) (M190.1 78 5).toInt (M190.1 78 6).toInt (psX M190) (M192.1 78 5).toInt (M192.1 78 6).toInt (psX M192) (te_g gf gn (fun _ => suR_g gf gn 2)) (by omega) (by omega)
              refine j_aload_n C 0 0 dX8_sum_55 rfl rfl ?_
              refine j_iload_n C 2 2 dX8_sum_56 rfl rfl ?_
              refine j_callVv C (d := 0) (As := [.int (sI a159)]) (st := []) 78 (s_lt rfl rfl) (s_kc (c := 7) rfl rfl) (by decide) rfl (s1_X8_emit hM192 hpr a159 (by omega) gf gn ((teP gf gn false (suR gf gn 2)) (nxF gf gn gq162)).2.2 (by omega) (by omega)) gX8_sum_X8_emit rfl hdX8_emit (by decide) (Nat.le_of_ble_eq_true rfl) dX8_sum_57 rfl (fun M196 h197 => ?_)
              obtain ⟨hM196, h198⟩ := h197
              have bM196 := tkx_b (f := gf) (n := gn) (M := M196) (by omega)
              have qM196 := po_eq gn ((teP gf gn false (suR gf gn 2)) (nxF gf gn gq162)).2.2 (M192.1 78 5).toInt (psX M192) (M196.1 78 5).toInt (psX M196) (by omega) (by omega) (by omega)
              refine j_aload_n C 0 0 dX8_sum_60 rfl rfl ?_
              refine j_callVi C (d := 0) (As := []) (st := []) 78 (s_lt rfl rfl) (s_kc (c := 7) rfl rfl) (by decide) rfl (s1_X8_token hM196 gf gn ((teP gf gn false (suR gf gn 2)) (nxF gf gn gq162)).2.2 (by omega) (by omega)) gX8_sum_X8_token rfl hdX8_token (by decide) (Nat.le_of_ble_eq_true rfl) dX8_sum_61 rfl (fun r199 M200 h201 => ?_)
              obtain ⟨a203, rfl, rfl, h202⟩ := h201
              refine j_istore_n C 2 [(2, .int (sI a203)), (0, .ref (ad 78)), (1, .int (sI 3)), (3, .int (sI a160))] dX8_sum_64 rfl (by decide) rfl ?_
              refine y_iinc C 3 [(3, .int (sI (a160 + 1))), (2, .int (sI a203)), (0, .ref (ad 78)), (1, .int (sI 3))] dX8_sum_65 rfl (by decide) rfl ?_
              have u204s := ll_s gf gn 2043 2045 (teP gf gn false (suR gf gn 2)) ((teP gf gn false (suR gf gn 2)) gi).2.2 gq162 a160 (M102.1 78 5).toInt (M102.1 78 6).toInt (M161.1 78 5).toInt (M161.1 78 6).toInt (psX M161) (M190.1 78 5).toInt (M190.1 78 6).toInt (M192.1 78 5).toInt (M192.1 78 6).toInt (psX M192) (M196.1 78 5).toInt (M196.1 78 6).toInt (psX M196) (by decide) (te_g gf gn (fun _ => suR_g gf gn 2)) (by omega) (by omega) (by omega) (by omega) (by omega) (by omega) (by omega) (by omega) (by omega)
              refine j_goto C 12 dX8_sum_68 (by decide) ?_
              refine j_lv [2, 3, 1, 0] rfl ?_; exact ih157 a203 (a160 + 1) M196 ((teP gf gn false (suR gf gn 2)) (nxF gf gn gq162)).2.2 (by omega) hM196
  refine j_lv [2, 3, 1, 0] rfl ?_; exact L158 4294967306 a109 0 M102 ((teP gf gn false (suR gf gn 2)) gi).2.2 (by omega) hM102
set_option maxHeartbeats 4000000 in
theorem s6_X8_atom {l : Launch} {dC : Nat → ClassId} {dI : Nat → Nat → Nat} {ad : Nat → Nat} {cA : Nat → ClassId} {pr : Nat → Nat → Bool} {Kz : mm_M} {M0 : mm_M} (hM0 : INV pr Kz M0) (hpr : PX pr) (gf : Nat → Int) (gn : Int) (gi : Int) (hp0 : b01 (TKX gf gn M0) = 1) (hp1 : b01 (PO gn gi (M0.1 78 5).toInt (psX M0)) = 1) : Cv l 15 yX8_atom wsX8_atom dC dI ad cA [.ref (ad 78), .int (sI 2)] M0 (fun M' => INV pr Kz M' ∧ (b01 (TKX gf gn M') = 1) ∧ b01 (RR ((atP gf gn false (suR gf gn 3)) gi) (M0.1 78 5).toInt (M0.1 78 6).toInt (M'.1 78 5).toInt (M'.1 78 6).toInt (psX M')) = 1) := by
  refine cv_of (cc := cX8_atom) (maxL := 3) (lv := [(0, .ref (ad 78)), (1, .int (sI 2))]) (by decide) rfl (Nat.le_of_ble_eq_true rfl) rfl ?_
  intro p e s m args below meth c A Q C hret
  have u101b := tkx_b (f := gf) (n := gn) (M := M0) (by omega)
  refine j_aload_n C 0 0 dX8_atom_0 rfl rfl ?_
  refine y_getI C 7 _ _ fX8_atom_22 rfl rfl ft_7_5 sb_7_5 hM0 dX8_atom_1 (fun a102 ea102 la102 ua102 => ?_)
  refine y_if_eq C 8 dX8_atom_4 (by decide) (by omega) (fun h104 => ?_) (fun h104 => ?_)
  · refine j_aload_n C 0 0 dX8_atom_8 rfl rfl ?_
    refine j_callVi C (d := 0) (As := []) (st := []) 78 (s_lt rfl rfl) (s_kc (c := 7) rfl rfl) (by decide) rfl (s1_X8_token hM0 gf gn gi (by omega) (by omega)) gX8_atom_X8_token rfl hdX8_token (by decide) (Nat.le_of_ble_eq_true rfl) dX8_atom_9 rfl (fun r105 M106 h107 => ?_)
    obtain ⟨a109, rfl, rfl, h108⟩ := h107
    refine j_istore_n C 2 [(2, .int (sI a109)), (0, .ref (ad 78)), (1, .int (sI 2))] dX8_atom_12 rfl (by decide) rfl ?_
    refine j_iload_n C 0 2 dX8_atom_13 rfl rfl ?_
    refine y_sipush C dX8_atom_14 rfl ?_
    refine y_icmp_ge C 38 dX8_atom_17 (by decide) (by omega) (fun h110 => ?_) (fun h110 => ?_)
    · refine j_iload_n C 0 2 dX8_atom_38 rfl rfl ?_
      refine y_sipush C dX8_atom_39 rfl ?_
      refine y_icmp_ne C 67 dX8_atom_42 (by decide) (by omega) (fun h111 => ?_) (fun h111 => ?_)
      · refine j_aload_n C 1 0 dX8_atom_67 rfl rfl ?_
        refine y_iconst C dX8_atom_68 ?_
        refine j_callVv C (d := 0) (As := [.int (sI 2)]) (st := []) 78 (s_lt rfl rfl) (s_kc (c := 7) rfl rfl) (by decide) rfl (s1_X8_fail hM0 hpr 2 (by omega) gf gn gi (by omega) (by omega) (by omega)) gX8_atom_X8_fail rfl hdX8_fail (by decide) (Nat.le_of_ble_eq_true rfl) dX8_atom_69 rfl (fun M113 h114 => ?_)
        obtain ⟨hM113, fM113, h115⟩ := h114
        have bM113 := tkx_b (f := gf) (n := gn) (M := M113) (by omega)
        have qM113 := po_f gn gi (M113.1 78 5).toInt (psX M113) (by omega)
        have u116r := at_4 gf gn false (suR gf gn 3) gi (M0.1 78 5).toInt (M0.1 78 6).toInt (psX M0) (M113.1 78 5).toInt (M113.1 78 6).toInt (psX M113) (by omega) (by omega) (by omega)
        exact hret _ _ _ dX8_atom_72 ⟨hM113, by omega⟩
      · refine j_aload_n C 1 0 dX8_atom_45 rfl rfl ?_
        refine j_iload_n C 2 1 dX8_atom_46 rfl rfl ?_
        refine j_callVv C (d := 0) (As := [.int (sI 2)]) (st := []) 78 (s_lt rfl rfl) (s_kc (c := 7) rfl rfl) (by decide) rfl (s3_X8_goDeeper hM0 hpr gf gn gi (by omega) (by omega) (by omega) (by omega) (by omega)) gX8_atom_X8_goDeeper rfl hdX8_goDeeper (by decide) (Nat.le_of_ble_eq_true rfl) dX8_atom_47 rfl (fun M118 h119 => ?_)
        obtain ⟨hM118, fM118, h120⟩ := h119
        have bM118 := tkx_b (f := gf) (n := gn) (M := M118) (by omega)
        refine j_aload_n C 1 0 dX8_atom_50 rfl rfl ?_
        refine j_iload_n C 2 1 dX8_atom_51 rfl rfl ?_
        refine y_iconst C dX8_atom_52 ?_
        refine y_iadd C dX8_atom_53 ?_
        refine j_callVv C (d := 14) (As := [.int (sI (2 + 1))]) (st := []) 78 (s_lt rfl rfl) (s_kc (c := 7) rfl rfl) (by decide) rfl (s5_X8_sum hM118 hpr gf gn (nxF gf gn gi) (by omega) (by omega)) gX8_atom_X8_sum rfl hdX8_sum (by decide) (Nat.le_of_ble_eq_true rfl) dX8_atom_54 rfl (fun M122 h123 => ?_)
        obtain ⟨hM122, h124⟩ := h123
        have bM122 := tkx_b (f := gf) (n := gn) (M := M122) (by omega)
        have qM122 := po_rr (suR gf gn 3) gn (nxF gf gn gi) (M118.1 78 5).toInt (M118.1 78 6).toInt (psX M118) (M122.1 78 5).toInt (M122.1 78 6).toInt (psX M122) (suR_g gf gn 3) (by omega) (by omega)
        refine j_aload_n C 1 0 dX8_atom_57 rfl rfl ?_
        refine y_sipush C dX8_atom_58 rfl ?_
        refine j_callVv C (d := 1) (As := [.int (sI 2041)]) (st := []) 78 (s_lt rfl rfl) (s_kc (c := 7) rfl rfl) (by decide) rfl (s1_X8_expect hM122 hpr 2041 (by omega) gf gn ((suR gf gn 3) (nxF gf gn gi)).2.2 (by omega) (by omega) (by omega) (by omega)) gX8_atom_X8_expect rfl hdX8_expect (by decide) (Nat.le_of_ble_eq_true rfl) dX8_atom_61 rfl (fun M126 h127 => ?_)
        obtain ⟨hM126, fM126, h128⟩ := h127
        have bM126 := tkx_b (f := gf) (n := gn) (M := M126) (by omega)
        have qM126 := po_rr (exP gf gn 2041) gn ((suR gf gn 3) (nxF gf gn gi)).2.2 (M122.1 78 5).toInt (M122.1 78 6).toInt (psX M122) (M126.1 78 5).toInt (M126.1 78 6).toInt (psX M126) (ex_g gf gn 2041 (by omega)) (by omega) (by omega)
        refine j_goto C 72 dX8_atom_64 (by decide) ?_
        have u129r := at_2 gf gn (suR gf gn 3) gi (M0.1 78 5).toInt (M0.1 78 6).toInt (psX M0) (M118.1 78 5).toInt (M118.1 78 6).toInt (M122.1 78 5).toInt (M122.1 78 6).toInt (psX M122) (M126.1 78 5).toInt (M126.1 78 6).toInt (psX M126) (by omega) (by omega) (by omega) (by omega) (by omega) (by omega)
        exact hret _ _ _ dX8_atom_72 ⟨hM126, by omega⟩
    · refine j_aload_n C 1 0 dX8_atom_20 rfl rfl ?_
      refine j_dup C dX8_atom_21 rfl ?_
      refine y_getI C 7 _ _ fX8_atom_18 rfl rfl ft_7_2 sb_7_2 hM0 dX8_atom_22 (fun a130 ea130 la130 ua130 => ?_)
      refine y_iconst C dX8_atom_25 ?_
      refine y_iadd C dX8_atom_26 ?_
      refine y_putI C 7 _ _ qX8_atom_18 rfl rfl ft_7_2 sb_7_2 hM0 (PX.w hpr rfl rfl) dX8_atom_27 (by omega) (fun M132 eM132 hM132 => ?_)
      have xM132 := tkx_j (f := gf) (n := gn) (gi := gi) eM132 (by omega) (by omega) (by omega) (by omega)
      refine j_aload_n C 1 0 dX8_atom_30 rfl rfl ?_
      refine j_iload_n C 0 2 dX8_atom_31 rfl rfl ?_
      refine j_callVv C (d := 0) (As := [.int (sI a109)]) (st := []) 78 (s_lt rfl rfl) (s_kc (c := 7) rfl rfl) (by decide) rfl (s1_X8_emit hM132 hpr a109 (by omega) gf gn (nxF gf gn gi) (by omega) (by omega)) gX8_atom_X8_emit rfl hdX8_emit (by decide) (Nat.le_of_ble_eq_true rfl) dX8_atom_32 rfl (fun M134 h135 => ?_)
      obtain ⟨hM134, h136⟩ := h135
      have bM134 := tkx_b (f := gf) (n := gn) (M := M134) (by omega)
      have qM134 := po_eq gn (nxF gf gn gi) (M132.1 78 5).toInt (psX M132) (M134.1 78 5).toInt (psX M134) (by omega) (by omega) (by omega)
      refine j_goto C 72 dX8_atom_35 (by decide) ?_
      have u137r := rr_eq ((atP gf gn false (suR gf gn 3)) gi) (M0.1 78 5).toInt (M0.1 78 6).toInt (M132.1 78 5).toInt (M132.1 78 6).toInt (psX M132) (M134.1 78 5).toInt (M134.1 78 6).toInt (psX M134) (at_1 gf gn false (suR gf gn 3) gi (M0.1 78 5).toInt (M0.1 78 6).toInt (psX M0) (M132.1 78 5).toInt (M132.1 78 6).toInt (psX M132) (by omega) (by omega) (by omega) (by omega) (by omega) (by omega)) (by omega) (by omega) (by omega)
      exact hret _ _ _ dX8_atom_72 ⟨hM134, by omega⟩
  · have u138r := rr_no ((atP gf gn false (suR gf gn 3)) gi) (M0.1 78 5).toInt (M0.1 78 6).toInt (M0.1 78 5).toInt (M0.1 78 6).toInt (psX M0) (by omega) rfl rfl
    exact hret _ _ _ dX8_atom_7 ⟨hM0, by omega⟩
set_option maxHeartbeats 4000000 in
theorem s6_X8_term {l : Launch} {dC : Nat → ClassId} {dI : Nat → Nat → Nat} {ad : Nat → Nat} {cA : Nat → ClassId} {pr : Nat → Nat → Bool} {Kz : mm_M} {M0 : mm_M} (hM0 : INV pr Kz M0) (hpr : PX pr) (gf : Nat → Int) (gn : Int) (gi : Int) (hp0 : b01 (TKX gf gn M0) = 1) (hp1 : b01 (PO gn gi (M0.1 78 5).toInt (psX M0)) = 1) : Cv l 16 yX8_term wsX8_term dC dI ad cA [.ref (ad 78), .int (sI 2)] M0 (fun M' => INV pr Kz M' ∧ (b01 (TKX gf gn M') = 1) ∧ b01 (RR ((teP gf gn false (suR gf gn 3)) gi) (M0.1 78 5).toInt (M0.1 78 6).toInt (M'.1 78 5).toInt (M'.1 78 6).toInt (psX M')) = 1) := by
  refine cv_of (cc := cX8_term) (maxL := 3) (lv := [(0, .ref (ad 78)), (1, .int (sI 2))]) (by decide) rfl (Nat.le_of_ble_eq_true rfl) rfl ?_
  intro p e s m args below meth c A Q C hret
  refine j_aload_n C 0 0 dX8_term_0 rfl rfl ?_
  refine j_iload_n C 1 1 dX8_term_1 rfl rfl ?_
  refine j_callVv C (d := 15) (As := [.int (sI 2)]) (st := []) 78 (s_lt rfl rfl) (s_kc (c := 7) rfl rfl) (by decide) rfl (s6_X8_atom hM0 hpr gf gn gi (by omega) (by omega)) gX8_term_X8_atom rfl hdX8_atom (by decide) (Nat.le_of_ble_eq_true rfl) dX8_term_2 rfl (fun M102 h103 => ?_)
  obtain ⟨hM102, h104⟩ := h103
  have bM102 := tkx_b (f := gf) (n := gn) (M := M102) (by omega)
  have qM102 := po_rr (atP gf gn false (suR gf gn 3)) gn gi (M0.1 78 5).toInt (M0.1 78 6).toInt (psX M0) (M102.1 78 5).toInt (M102.1 78 6).toInt (psX M102) (at_g gf gn (fun _ => suR_g gf gn 3)) (by omega) (by omega)
  refine y_iconst C dX8_term_5 ?_
  have u105l := ll_0 (luP gf gn 2042 2042 (atP gf gn false (suR gf gn 3))) gn ((atP gf gn false (suR gf gn 3)) gi).2.2 (M102.1 78 5).toInt (M102.1 78 6).toInt (psX M102) (by omega)
  refine j_istore_n C 2 [(2, .int (sI 0)), (0, .ref (ad 78)), (1, .int (sI 2))] dX8_term_6 rfl (by decide) rfl ?_
  have L134 : ∀ (n132 : Nat), ∀ (a135 : Int) (M136 : mm_M) (gq137 : Int), (0 ≤ a135 ∧ a135 ≤ 900 ∧ (b01 (LL (luP gf gn 2042 2042 (atP gf gn false (suR gf gn 3))) gn ((atP gf gn false (suR gf gn 3)) gi).2.2 gq137 a135 (M102.1 78 5).toInt (M102.1 78 6).toInt (M136.1 78 5).toInt (M136.1 78 6).toInt (psX M136)) = 1) ∧ (b01 (TKX gf gn M136) = 1) ∧ (b01 (PO gn gq137 (M136.1 78 5).toInt (psX M136)) = 1) ∧ (900 - a135) < (n132 : Int)) → INV pr Kz M136 → jj p l e (cn_R 16) s m args below meth c 0 0 Q 3 dC dI ad cA A M136 7 [(0, .ref (ad 78)), (1, .int (sI 2)), (2, .int (sI a135))] [] := by
    intro n132
    induction n132 with
    | zero =>
      intro a135 M136 gq137 h138 hM136
      exfalso; omega
    | succ n132 ih133 =>
      intro a135 M136 gq137 h138 hM136
      have u139b := tkx_b (f := gf) (n := gn) (M := M136) (by omega)
      refine j_iload_n C 2 2 dX8_term_7 rfl rfl ?_
      refine y_sipush C dX8_term_8 rfl ?_
      refine y_icmp_ge C 59 dX8_term_11 (by decide) (by omega) (fun h140 => ?_) (fun h140 => ?_)
      · have u162e := ll_e gf gn 2042 2042 (atP gf gn false (suR gf gn 3)) ((atP gf gn false (suR gf gn 3)) gi).2.2 gq137 a135 (M102.1 78 5).toInt (M102.1 78 6).toInt (M136.1 78 5).toInt (M136.1 78 6).toInt (psX M136) (by decide) (at_g gf gn (fun _ => suR_g gf gn 3)) (by omega) (by omega)
        have u162r : b01 (RR ((teP gf gn false (suR gf gn 3)) gi) (M0.1 78 5).toInt (M0.1 78 6).toInt (M136.1 78 5).toInt (M136.1 78 6).toInt (psX M136)) = 1 := rr_sq ((atP gf gn false (suR gf gn 3)) gi) (luP gf gn 2042 2042 (atP gf gn false (suR gf gn 3))) (M0.1 78 5).toInt (M0.1 78 6).toInt (M102.1 78 5).toInt (M102.1 78 6).toInt (psX M102) (M136.1 78 5).toInt (M136.1 78 6).toInt (psX M136) (by omega) (by omega)
        exact hret _ _ _ dX8_term_59 ⟨hM136, by omega⟩
      · refine j_aload_n C 0 0 dX8_term_14 rfl rfl ?_
        refine y_getI C 7 _ _ fX8_term_22 rfl rfl ft_7_5 sb_7_5 hM136 dX8_term_15 (fun a141 ea141 la141 ua141 => ?_)
        refine y_if_ne C 59 dX8_term_18 (by decide) (by omega) (fun h143 => ?_) (fun h143 => ?_)
        · have u163e := ll_e gf gn 2042 2042 (atP gf gn false (suR gf gn 3)) ((atP gf gn false (suR gf gn 3)) gi).2.2 gq137 a135 (M102.1 78 5).toInt (M102.1 78 6).toInt (M136.1 78 5).toInt (M136.1 78 6).toInt (psX M136) (by decide) (at_g gf gn (fun _ => suR_g gf gn 3)) (by omega) (by omega)
          have u163r : b01 (RR ((teP gf gn false (suR gf gn 3)) gi) (M0.1 78 5).toInt (M0.1 78 6).toInt (M136.1 78 5).toInt (M136.1 78 6).toInt (psX M136)) = 1 := rr_sq ((atP gf gn false (suR gf gn 3)) gi) (luP gf gn 2042 2042 (atP gf gn false (suR gf gn 3))) (M0.1 78 5).toInt (M0.1 78 6).toInt (M102.1 78 5).toInt (M102.1 78 6).toInt (psX M102) (M136.1 78 5).toInt (M136.1 78 6).toInt (psX M136) (by omega) (by omega)
          exact hret _ _ _ dX8_term_59 ⟨hM136, by omega⟩
        · refine j_aload_n C 0 0 dX8_term_21 rfl rfl ?_
          refine j_callVi C (d := 0) (As := []) (st := []) 78 (s_lt rfl rfl) (s_kc (c := 7) rfl rfl) (by decide) rfl (s1_X8_token hM136 gf gn gq137 (by omega) (by omega)) gX8_term_X8_token rfl hdX8_token (by decide) (Nat.le_of_ble_eq_true rfl) dX8_term_22 rfl (fun r144 M145 h146 => ?_)
          obtain ⟨a148, rfl, rfl, h147⟩ := h146
          refine y_sipush C dX8_term_25 rfl ?_
          refine y_icmp_ne C 59 dX8_term_28 (by decide) (by omega) (fun h149 => ?_) (fun h149 => ?_)
          · have u164e := ll_e gf gn 2042 2042 (atP gf gn false (suR gf gn 3)) ((atP gf gn false (suR gf gn 3)) gi).2.2 gq137 a135 (M102.1 78 5).toInt (M102.1 78 6).toInt (M136.1 78 5).toInt (M136.1 78 6).toInt (psX M136) (by decide) (at_g gf gn (fun _ => suR_g gf gn 3)) (by omega) (by omega)
            have u164r : b01 (RR ((teP gf gn false (suR gf gn 3)) gi) (M0.1 78 5).toInt (M0.1 78 6).toInt (M136.1 78 5).toInt (M136.1 78 6).toInt (psX M136)) = 1 := rr_sq ((atP gf gn false (suR gf gn 3)) gi) (luP gf gn 2042 2042 (atP gf gn false (suR gf gn 3))) (M0.1 78 5).toInt (M0.1 78 6).toInt (M102.1 78 5).toInt (M102.1 78 6).toInt (psX M102) (M136.1 78 5).toInt (M136.1 78 6).toInt (psX M136) (by omega) (by omega)
            exact hret _ _ _ dX8_term_59 ⟨hM136, by omega⟩
          · refine j_aload_n C 0 0 dX8_term_31 rfl rfl ?_
            refine j_dup C dX8_term_32 rfl ?_
            refine y_getI C 7 _ _ fX8_term_18 rfl rfl ft_7_2 sb_7_2 hM136 dX8_term_33 (fun a150 ea150 la150 ua150 => ?_)
            refine y_iconst C dX8_term_36 ?_
            refine y_iadd C dX8_term_37 ?_
            refine y_putI C 7 _ _ qX8_term_18 rfl rfl ft_7_2 sb_7_2 hM136 (PX.w hpr rfl rfl) dX8_term_38 (by omega) (fun M152 eM152 hM152 => ?_)
            have xM152 := tkx_j (f := gf) (n := gn) (gi := gq137) eM152 (by omega) (by omega) (by omega) (by omega)
            refine j_aload_n C 0 0 dX8_term_41 rfl rfl ?_
            refine j_iload_n C 1 1 dX8_term_42 rfl rfl ?_
            refine j_callVv C (d := 15) (As := [.int (sI 2)]) (st := []) 78 (s_lt rfl rfl) (s_kc (c := 7) rfl rfl) (by decide) rfl (s6_X8_atom hM152 hpr gf gn (nxF gf gn gq137) (by omega) (by omega)) gX8_term_X8_atom rfl hdX8_atom (by decide) (Nat.le_of_ble_eq_true rfl) dX8_term_43 rfl (fun M154 h155 => ?_)
            obtain ⟨hM154, h156⟩ := h155
            have bM154 := tkx_b (f := gf) (n := gn) (M := M154) (by omega)
            have qM154 := po_rr (atP gf gn false (suR gf gn 3)) gn (nxF gf gn gq137) (M152.1 78 5).toInt (M152.1 78 6).toInt (psX M152) (M154.1 78 5).toInt (M154.1 78 6).toInt (psX M154) (at_g gf gn (fun _ => suR_g gf gn 3)) (by omega) (by omega)
            refine j_aload_n C 0 0 dX8_term_46 rfl rfl ?_
            refine y_sipush C dX8_term_47 rfl ?_
            refine j_callVv C (d := 0) (As := [.int (sI 2042)]) (st := []) 78 (s_lt rfl rfl) (s_kc (c := 7) rfl rfl) (by decide) rfl (s1_X8_emit hM154 hpr 2042 (by omega) gf gn ((atP gf gn false (suR gf gn 3)) (nxF gf gn gq137)).2.2 (by omega) (by omega)) gX8_term_X8_emit rfl hdX8_emit (by decide) (Nat.le_of_ble_eq_true rfl) dX8_term_50 rfl (fun M158 h159 => ?_)
            obtain ⟨hM158, h160⟩ := h159
            have bM158 := tkx_b (f := gf) (n := gn) (M := M158) (by omega)
            have qM158 := po_eq gn ((atP gf gn false (suR gf gn 3)) (nxF gf gn gq137)).2.2 (M154.1 78 5).toInt (psX M154) (M158.1 78 5).toInt (psX M158) (by omega) (by omega) (by omega)
            refine y_iinc C 2 [(2, .int (sI (a135 + 1))), (0, .ref (ad 78)), (1, .int (sI 2))] dX8_term_53 rfl (by decide) rfl ?_
            have u161s := ll_s gf gn 2042 2042 (atP gf gn false (suR gf gn 3)) ((atP gf gn false (suR gf gn 3)) gi).2.2 gq137 a135 (M102.1 78 5).toInt (M102.1 78 6).toInt (M136.1 78 5).toInt (M136.1 78 6).toInt (psX M136) (M152.1 78 5).toInt (M152.1 78 6).toInt (M154.1 78 5).toInt (M154.1 78 6).toInt (psX M154) (M158.1 78 5).toInt (M158.1 78 6).toInt (psX M158) (by decide) (at_g gf gn (fun _ => suR_g gf gn 3)) (by omega) (by omega) (by omega) (by omega) (by omega) (by omega) (by omega) (by omega) (by omega)
            refine j_goto C 7 dX8_term_56 (by decide) ?_
            refine j_lv [1, 2, 0] rfl ?_; exact ih133 (a135 + 1) M158 ((atP gf gn false (suR gf gn 3)) (nxF gf gn gq137)).2.2 (by omega) hM158
  refine j_lv [1, 2, 0] rfl ?_; exact L134 2010 0 M102 ((atP gf gn false (suR gf gn 3)) gi).2.2 (by omega) hM102
set_option maxHeartbeats 4000000 in
theorem s6_X8_sum {l : Launch} {dC : Nat → ClassId} {dI : Nat → Nat → Nat} {ad : Nat → Nat} {cA : Nat → ClassId} {pr : Nat → Nat → Bool} {Kz : mm_M} {M0 : mm_M} (hM0 : INV pr Kz M0) (hpr : PX pr) (gf : Nat → Int) (gn : Int) (gi : Int) (hp0 : b01 (TKX gf gn M0) = 1) (hp1 : b01 (PO gn gi (M0.1 78 5).toInt (psX M0)) = 1) : Cv l 17 yX8_sum wsX8_sum dC dI ad cA [.ref (ad 78), .int (sI 2)] M0 (fun M' => INV pr Kz M' ∧ (b01 (TKX gf gn M') = 1) ∧ b01 (RR ((suR gf gn 4) gi) (M0.1 78 5).toInt (M0.1 78 6).toInt (M'.1 78 5).toInt (M'.1 78 6).toInt (psX M')) = 1) := by
  refine cv_of (cc := cX8_sum) (maxL := 4) (lv := [(0, .ref (ad 78)), (1, .int (sI 2))]) (by decide) rfl (Nat.le_of_ble_eq_true rfl) rfl ?_
  intro p e s m args below meth c A Q C hret
  refine j_aload_n C 0 0 dX8_sum_0 rfl rfl ?_
  refine j_iload_n C 1 1 dX8_sum_1 rfl rfl ?_
  refine j_callVv C (d := 16) (As := [.int (sI 2)]) (st := []) 78 (s_lt rfl rfl) (s_kc (c := 7) rfl rfl) (by decide) rfl (s6_X8_term hM0 hpr gf gn gi (by omega) (by omega)) gX8_sum_X8_term rfl hdX8_term (by decide) (Nat.le_of_ble_eq_true rfl) dX8_sum_2 rfl (fun M102 h103 => ?_)
  obtain ⟨hM102, h104⟩ := h103
  have bM102 := tkx_b (f := gf) (n := gn) (M := M102) (by omega)
  have qM102 := po_rr (teP gf gn false (suR gf gn 3)) gn gi (M0.1 78 5).toInt (M0.1 78 6).toInt (psX M0) (M102.1 78 5).toInt (M102.1 78 6).toInt (psX M102) (te_g gf gn (fun _ => suR_g gf gn 3)) (by omega) (by omega)
  refine j_aload_n C 0 0 dX8_sum_5 rfl rfl ?_
  refine j_callVi C (d := 0) (As := []) (st := []) 78 (s_lt rfl rfl) (s_kc (c := 7) rfl rfl) (by decide) rfl (s1_X8_token hM102 gf gn ((teP gf gn false (suR gf gn 3)) gi).2.2 (by omega) (by omega)) gX8_sum_X8_token rfl hdX8_token (by decide) (Nat.le_of_ble_eq_true rfl) dX8_sum_6 rfl (fun r105 M106 h107 => ?_)
  obtain ⟨a109, rfl, rfl, h108⟩ := h107
  refine j_istore_n C 2 [(2, .int (sI a109)), (0, .ref (ad 78)), (1, .int (sI 2))] dX8_sum_9 rfl (by decide) rfl ?_
  refine y_iconst C dX8_sum_10 ?_
  have u110l := ll_0 (luP gf gn 2043 2045 (teP gf gn false (suR gf gn 3))) gn ((teP gf gn false (suR gf gn 3)) gi).2.2 (M102.1 78 5).toInt (M102.1 78 6).toInt (psX M102) (by omega)
  refine j_istore_n C 3 [(3, .int (sI 0)), (2, .int (sI a109)), (0, .ref (ad 78)), (1, .int (sI 2))] dX8_sum_11 rfl (by decide) rfl ?_
  have L158 : ∀ (n156 : Nat), ∀ (a159 : Int) (a160 : Int) (M161 : mm_M) (gq162 : Int), ((-2147483648) ≤ a159 ∧ a159 ≤ 2147483647 ∧ 0 ≤ a160 ∧ a160 ≤ 900 ∧ (b01 (LL (luP gf gn 2043 2045 (teP gf gn false (suR gf gn 3))) gn ((teP gf gn false (suR gf gn 3)) gi).2.2 gq162 a160 (M102.1 78 5).toInt (M102.1 78 6).toInt (M161.1 78 5).toInt (M161.1 78 6).toInt (psX M161)) = 1) ∧ (a159 = tkF gf gn (psX M161)) ∧ (b01 (TKX gf gn M161) = 1) ∧ (b01 (PO gn gq162 (M161.1 78 5).toInt (psX M161)) = 1) ∧ (900 - a160) < (n156 : Int)) → INV pr Kz M161 → jj p l e (cn_R 17) s m args below meth c 0 0 Q 4 dC dI ad cA A M161 12 [(0, .ref (ad 78)), (1, .int (sI 2)), (2, .int (sI a159)), (3, .int (sI a160))] [] := by
    intro n156
    induction n156 with
    | zero =>
      intro a159 a160 M161 gq162 h163 hM161
      exfalso; omega
    | succ n156 ih157 =>
      intro a159 a160 M161 gq162 h163 hM161
      have u164b := tkx_b (f := gf) (n := gn) (M := M161) (by omega)
      refine j_iload_n C 3 3 dX8_sum_12 rfl rfl ?_
      refine y_sipush C dX8_sum_13 rfl ?_
      refine y_icmp_ge C 71 dX8_sum_16 (by decide) (by omega) (fun h165 => ?_) (fun h165 => ?_)
      · have u205e := ll_e gf gn 2043 2045 (teP gf gn false (suR gf gn 3)) ((teP gf gn false (suR gf gn 3)) gi).2.2 gq162 a160 (M102.1 78 5).toInt (M102.1 78 6).toInt (M161.1 78 5).toInt (M161.1 78 6).toInt (psX M161) (by decide) (te_g gf gn (fun _ => suR_g gf gn 3)) (by omega) (by omega)
        have u205r : b01 (RR ((suR gf gn 4) gi) (M0.1 78 5).toInt (M0.1 78 6).toInt (M161.1 78 5).toInt (M161.1 78 6).toInt (psX M161)) = 1 := by rw [su_q gf gn 3 4 rfl]; exact rr_sq ((teP gf gn false (suR gf gn 3)) gi) (luP gf gn 2043 2045 (teP gf gn false (suR gf gn 3))) (M0.1 78 5).toInt (M0.1 78 6).toInt (M102.1 78 5).toInt (M102.1 78 6).toInt (psX M102) (M161.1 78 5).toInt (M161.1 78 6).toInt (psX M161) (by omega) (by omega)
        exact hret _ _ _ dX8_sum_71 ⟨hM161, by omega⟩
      · refine j_aload_n C 0 0 dX8_sum_19 rfl rfl ?_
        refine y_getI C 7 _ _ fX8_sum_22 rfl rfl ft_7_5 sb_7_5 hM161 dX8_sum_20 (fun a166 ea166 la166 ua166 => ?_)
        refine y_if_ne C 71 dX8_sum_23 (by decide) (by omega) (fun h168 => ?_) (fun h168 => ?_)
        · have u206e := ll_e gf gn 2043 2045 (teP gf gn false (suR gf gn 3)) ((teP gf gn false (suR gf gn 3)) gi).2.2 gq162 a160 (M102.1 78 5).toInt (M102.1 78 6).toInt (M161.1 78 5).toInt (M161.1 78 6).toInt (psX M161) (by decide) (te_g gf gn (fun _ => suR_g gf gn 3)) (by omega) (by omega)
          have u206r : b01 (RR ((suR gf gn 4) gi) (M0.1 78 5).toInt (M0.1 78 6).toInt (M161.1 78 5).toInt (M161.1 78 6).toInt (psX M161)) = 1 := by rw [su_q gf gn 3 4 rfl]; exact rr_sq ((teP gf gn false (suR gf gn 3)) gi) (luP gf gn 2043 2045 (teP gf gn false (suR gf gn 3))) (M0.1 78 5).toInt (M0.1 78 6).toInt (M102.1 78 5).toInt (M102.1 78 6).toInt (psX M102) (M161.1 78 5).toInt (M161.1 78 6).toInt (psX M161) (by omega) (by omega)
          exact hret _ _ _ dX8_sum_71 ⟨hM161, by omega⟩
        · refine j_iload_n C 2 2 dX8_sum_26 rfl rfl ?_
          refine y_sipush C dX8_sum_27 rfl ?_
          refine y_icmp_eq C 40 dX8_sum_30 (by decide) (by omega) (fun h169 => ?_) (fun h169 => ?_)
          · refine j_aload_n C 0 0 dX8_sum_40 rfl rfl ?_
            refine j_dup C dX8_sum_41 rfl ?_
            refine y_getI C 7 _ _ fX8_sum_18 rfl rfl ft_7_2 sb_7_2 hM161 dX8_sum_42 (fun a170 ea170 la170 ua170 => ?_)
            refine y_iconst C dX8_sum_45 ?_
            refine y_iadd C dX8_sum_46 ?_
            refine y_putI C 7 _ _ qX8_sum_18 rfl rfl ft_7_2 sb_7_2 hM161 (PX.w hpr rfl rfl) dX8_sum_47 (by omega) (fun M172 eM172 hM172 => ?_)
            have xM172 := tkx_j (f := gf) (n := gn) (gi := gq162) eM172 (by omega) (by omega) (by omega) (by omega)
            refine j_aload_n C 0 0 dX8_sum_50 rfl rfl ?_
            refine j_iload_n C 1 1 dX8_sum_51 rfl rfl ?_
            refine j_callVv C (d := 16) (As := [.int (sI 2)]) (st := []) 78 (s_lt rfl rfl) (s_kc (c := 7) rfl rfl) (by decide) rfl (s6_X8_term hM172 hpr gf gn (nxF gf gn gq162) (by omega) (by omega)) gX8_sum_X8_term rfl hdX8_term (by decide) (Nat.le_of_ble_eq_true rfl) dX8_sum_52 rfl (fun M174 h175 => ?_)
            obtain ⟨hM174, h176⟩ := h175
            have bM174 := tkx_b (f := gf) (n := gn) (M := M174) (by omega)
            have qM174 := po_rr (teP gf gn false (suR gf gn 3)) gn (nxF gf gn gq162) (M172.1 78 5).toInt (M172.1 78 6).toInt (psX M172) (M174.1 78 5).toInt (M174.1 78 6).toInt (psX M174) (te_g gf gn (fun _ => suR_g gf gn 3)) (by omega) (by omega)
            refine j_aload_n C 0 0 dX8_sum_55 rfl rfl ?_
            refine j_iload_n C 2 2 dX8_sum_56 rfl rfl ?_
            refine j_callVv C (d := 0) (As := [.int (sI a159)]) (st := []) 78 (s_lt rfl rfl) (s_kc (c := 7) rfl rfl) (by decide) rfl (s1_X8_emit hM174 hpr a159 (by omega) gf gn ((teP gf gn false (suR gf gn 3)) (nxF gf gn gq162)).2.2 (by omega) (by omega)) gX8_sum_X8_emit rfl hdX8_emit (by decide) (Nat.le_of_ble_eq_true rfl) dX8_sum_57 rfl (fun M178 h179 => ?_)
            obtain ⟨hM178, h180⟩ := h179
            have bM178 := tkx_b (f := gf) (n := gn) (M := M178) (by omega)
            have qM178 := po_eq gn ((teP gf gn false (suR gf gn 3)) (nxF gf gn gq162)).2.2 (M174.1 78 5).toInt (psX M174) (M178.1 78 5).toInt (psX M178) (by omega) (by omega) (by omega)
            refine j_aload_n C 0 0 dX8_sum_60 rfl rfl ?_
            refine j_callVi C (d := 0) (As := []) (st := []) 78 (s_lt rfl rfl) (s_kc (c := 7) rfl rfl) (by decide) rfl (s1_X8_token hM178 gf gn ((teP gf gn false (suR gf gn 3)) (nxF gf gn gq162)).2.2 (by omega) (by omega)) gX8_sum_X8_token rfl hdX8_token (by decide) (Nat.le_of_ble_eq_true rfl) dX8_sum_61 rfl (fun r181 M182 h183 => ?_)
            obtain ⟨a185, rfl, rfl, h184⟩ := h183
            refine j_istore_n C 2 [(2, .int (sI a185)), (0, .ref (ad 78)), (1, .int (sI 2)), (3, .int (sI a160))] dX8_sum_64 rfl (by decide) rfl ?_
            refine y_iinc C 3 [(3, .int (sI (a160 + 1))), (2, .int (sI a185)), (0, .ref (ad 78)), (1, .int (sI 2))] dX8_sum_65 rfl (by decide) rfl ?_
            have u186s := ll_s gf gn 2043 2045 (teP gf gn false (suR gf gn 3)) ((teP gf gn false (suR gf gn 3)) gi).2.2 gq162 a160 (M102.1 78 5).toInt (M102.1 78 6).toInt (M161.1 78 5).toInt (M161.1 78 6).toInt (psX M161) (M172.1 78 5).toInt (M172.1 78 6).toInt (M174.1 78 5).toInt (M174.1 78 6).toInt (psX M174) (M178.1 78 5).toInt (M178.1 78 6).toInt (psX M178) (by decide) (te_g gf gn (fun _ => suR_g gf gn 3)) (by omega) (by omega) (by omega) (by omega) (by omega) (by omega) (by omega) (by omega) (by omega)
            refine j_goto C 12 dX8_sum_68 (by decide) ?_
            refine j_lv [2, 3, 1, 0] rfl ?_; exact ih157 a185 (a160 + 1) M178 ((teP gf gn false (suR gf gn 3)) (nxF gf gn gq162)).2.2 (by omega) hM178
          · refine j_iload_n C 2 2 dX8_sum_33 rfl rfl ?_
            refine y_sipush C dX8_sum_34 rfl ?_
            refine y_icmp_ne C 71 dX8_sum_37 (by decide) (by omega) (fun h187 => ?_) (fun h187 => ?_)
            · have u207e := ll_e gf gn 2043 2045 (teP gf gn false (suR gf gn 3)) ((teP gf gn false (suR gf gn 3)) gi).2.2 gq162 a160 (M102.1 78 5).toInt (M102.1 78 6).toInt (M161.1 78 5).toInt (M161.1 78 6).toInt (psX M161) (by decide) (te_g gf gn (fun _ => suR_g gf gn 3)) (by omega) (by omega)
              have u207r : b01 (RR ((suR gf gn 4) gi) (M0.1 78 5).toInt (M0.1 78 6).toInt (M161.1 78 5).toInt (M161.1 78 6).toInt (psX M161)) = 1 := by rw [su_q gf gn 3 4 rfl]; exact rr_sq ((teP gf gn false (suR gf gn 3)) gi) (luP gf gn 2043 2045 (teP gf gn false (suR gf gn 3))) (M0.1 78 5).toInt (M0.1 78 6).toInt (M102.1 78 5).toInt (M102.1 78 6).toInt (psX M102) (M161.1 78 5).toInt (M161.1 78 6).toInt (psX M161) (by omega) (by omega)
              exact hret _ _ _ dX8_sum_71 ⟨hM161, by omega⟩
            · refine j_aload_n C 0 0 dX8_sum_40 rfl rfl ?_
              refine j_dup C dX8_sum_41 rfl ?_
              refine y_getI C 7 _ _ fX8_sum_18 rfl rfl ft_7_2 sb_7_2 hM161 dX8_sum_42 (fun a188 ea188 la188 ua188 => ?_)
              refine y_iconst C dX8_sum_45 ?_
              refine y_iadd C dX8_sum_46 ?_
              refine y_putI C 7 _ _ qX8_sum_18 rfl rfl ft_7_2 sb_7_2 hM161 (PX.w hpr rfl rfl) dX8_sum_47 (by omega) (fun M190 eM190 hM190 => ?_)
              have xM190 := tkx_j (f := gf) (n := gn) (gi := gq162) eM190 (by omega) (by omega) (by omega) (by omega)
              refine j_aload_n C 0 0 dX8_sum_50 rfl rfl ?_
              refine j_iload_n C 1 1 dX8_sum_51 rfl rfl ?_
              refine j_callVv C (d := 16) (As := [.int (sI 2)]) (st := []) 78 (s_lt rfl rfl) (s_kc (c := 7) rfl rfl) (by decide) rfl (s6_X8_term hM190 hpr gf gn (nxF gf gn gq162) (by omega) (by omega)) gX8_sum_X8_term rfl hdX8_term (by decide) (Nat.le_of_ble_eq_true rfl) dX8_sum_52 rfl (fun M192 h193 => ?_)
              obtain ⟨hM192, h194⟩ := h193
              have bM192 := tkx_b (f := gf) (n := gn) (M := M192) (by omega)
              have qM192 := po_rr (teP gf gn false (suR gf gn 3)) gn (nxF gf gn gq162) (M190.1 78 5).toInt (M190.1 78 6).toInt (psX M190) (M192.1 78 5).toInt (M192.1 78 6).toInt (psX M192) (te_g gf gn (fun _ => suR_g gf gn 3)) (by omega) (by omega)
              refine j_aload_n C 0 0 dX8_sum_55 rfl rfl ?_
              refine j_iload_n C 2 2 dX8_sum_56 rfl rfl ?_
              refine j_callVv C (d := 0) (As := [.int (sI a159)]) (st := []) 78 (s_lt rfl rfl) (s_kc (c := 7) rfl rfl) (by decide) rfl (s1_X8_emit hM192 hpr a159 (by omega) gf gn ((teP gf gn false (suR gf gn 3)) (nxF gf gn gq162)).2.2 (by omega) (by omega)) gX8_sum_X8_emit rfl hdX8_emit (by decide) (Nat.le_of_ble_eq_true rfl) dX8_sum_57 rfl (fun M196 h197 => ?_)
              obtain ⟨hM196, h198⟩ := h197
              have bM196 := tkx_b (f := gf) (n := gn) (M := M196) (by omega)
              have qM196 := po_eq gn ((teP gf gn false (suR gf gn 3)) (nxF gf gn gq162)).2.2 (M192.1 78 5).toInt (psX M192) (M196.1 78 5).toInt (psX M196) (by omega) (by omega) (by omega)
              refine j_aload_n C 0 0 dX8_sum_60 rfl rfl ?_
              refine j_callVi C (d := 0) (As := []) (st := []) 78 (s_lt rfl rfl) (s_kc (c := 7) rfl rfl) (by decide) rfl (s1_X8_token hM196 gf gn ((teP gf gn false (suR gf gn 3)) (nxF gf gn gq162)).2.2 (by omega) (by omega)) gX8_sum_X8_token rfl hdX8_token (by decide) (Nat.le_of_ble_eq_true rfl) dX8_sum_61 rfl (fun r199 M200 h201 => ?_)
              obtain ⟨a203, rfl, rfl, h202⟩ := h201
              refine j_istore_n C 2 [(2, .int (sI a203)), (0, .ref (ad 78)), (1, .int (sI 2)), (3, .int (sI a160))] dX8_sum_64 rfl (by decide) rfl ?_
              refine y_iinc C 3 [(3, .int (sI (a160 + 1))), (2, .int (sI a203)), (0, .ref (ad 78)), (1, .int (sI 2))] dX8_sum_65 rfl (by decide) rfl ?_
              have u204s := ll_s gf gn 2043 2045 (teP gf gn false (suR gf gn 3)) ((teP gf gn false (suR gf gn 3)) gi).2.2 gq162 a160 (M102.1 78 5).toInt (M102.1 78 6).toInt (M161.1 78 5).toInt (M161.1 78 6).toInt (psX M161) (M190.1 78 5).toInt (M190.1 78 6).toInt (M192.1 78 5).toInt (M192.1 78 6).toInt (psX M192) (M196.1 78 5).toInt (M196.1 78 6).toInt (psX M196) (by decide) (te_g gf gn (fun _ => suR_g gf gn 3)) (by omega) (by omega) (by omega) (by omega) (by omega) (by omega) (by omega) (by omega) (by omega)
              refine j_goto C 12 dX8_sum_68 (by decide) ?_
              refine j_lv [2, 3, 1, 0] rfl ?_; exact ih157 a203 (a160 + 1) M196 ((teP gf gn false (suR gf gn 3)) (nxF gf gn gq162)).2.2 (by omega) hM196
  refine j_lv [2, 3, 1, 0] rfl ?_; exact L158 4294967306 a109 0 M102 ((teP gf gn false (suR gf gn 3)) gi).2.2 (by omega) hM102
set_option maxHeartbeats 4000000 in
theorem s7_X8_atom {l : Launch} {dC : Nat → ClassId} {dI : Nat → Nat → Nat} {ad : Nat → Nat} {cA : Nat → ClassId} {pr : Nat → Nat → Bool} {Kz : mm_M} {M0 : mm_M} (hM0 : INV pr Kz M0) (hpr : PX pr) (gf : Nat → Int) (gn : Int) (gi : Int) (hp0 : b01 (TKX gf gn M0) = 1) (hp1 : b01 (PO gn gi (M0.1 78 5).toInt (psX M0)) = 1) : Cv l 18 yX8_atom wsX8_atom dC dI ad cA [.ref (ad 78), .int (sI 1)] M0 (fun M' => INV pr Kz M' ∧ (b01 (TKX gf gn M') = 1) ∧ b01 (RR ((atP gf gn false (suR gf gn 4)) gi) (M0.1 78 5).toInt (M0.1 78 6).toInt (M'.1 78 5).toInt (M'.1 78 6).toInt (psX M')) = 1) := by
  refine cv_of (cc := cX8_atom) (maxL := 3) (lv := [(0, .ref (ad 78)), (1, .int (sI 1))]) (by decide) rfl (Nat.le_of_ble_eq_true rfl) rfl ?_
  intro p e s m args below meth c A Q C hret
  have u101b := tkx_b (f := gf) (n := gn) (M := M0) (by omega)
  refine j_aload_n C 0 0 dX8_atom_0 rfl rfl ?_
  refine y_getI C 7 _ _ fX8_atom_22 rfl rfl ft_7_5 sb_7_5 hM0 dX8_atom_1 (fun a102 ea102 la102 ua102 => ?_)
  refine y_if_eq C 8 dX8_atom_4 (by decide) (by omega) (fun h104 => ?_) (fun h104 => ?_)
  · refine j_aload_n C 0 0 dX8_atom_8 rfl rfl ?_
    refine j_callVi C (d := 0) (As := []) (st := []) 78 (s_lt rfl rfl) (s_kc (c := 7) rfl rfl) (by decide) rfl (s1_X8_token hM0 gf gn gi (by omega) (by omega)) gX8_atom_X8_token rfl hdX8_token (by decide) (Nat.le_of_ble_eq_true rfl) dX8_atom_9 rfl (fun r105 M106 h107 => ?_)
    obtain ⟨a109, rfl, rfl, h108⟩ := h107
    refine j_istore_n C 2 [(2, .int (sI a109)), (0, .ref (ad 78)), (1, .int (sI 1))] dX8_atom_12 rfl (by decide) rfl ?_
    refine j_iload_n C 0 2 dX8_atom_13 rfl rfl ?_
    refine y_sipush C dX8_atom_14 rfl ?_
    refine y_icmp_ge C 38 dX8_atom_17 (by decide) (by omega) (fun h110 => ?_) (fun h110 => ?_)
    · refine j_iload_n C 0 2 dX8_atom_38 rfl rfl ?_
      refine y_sipush C dX8_atom_39 rfl ?_
      refine y_icmp_ne C 67 dX8_atom_42 (by decide) (by omega) (fun h111 => ?_) (fun h111 => ?_)
      · refine j_aload_n C 1 0 dX8_atom_67 rfl rfl ?_
        refine y_iconst C dX8_atom_68 ?_
        refine j_callVv C (d := 0) (As := [.int (sI 2)]) (st := []) 78 (s_lt rfl rfl) (s_kc (c := 7) rfl rfl) (by decide) rfl (s1_X8_fail hM0 hpr 2 (by omega) gf gn gi (by omega) (by omega) (by omega)) gX8_atom_X8_fail rfl hdX8_fail (by decide) (Nat.le_of_ble_eq_true rfl) dX8_atom_69 rfl (fun M113 h114 => ?_)
        obtain ⟨hM113, fM113, h115⟩ := h114
        have bM113 := tkx_b (f := gf) (n := gn) (M := M113) (by omega)
        have qM113 := po_f gn gi (M113.1 78 5).toInt (psX M113) (by omega)
        have u116r := at_4 gf gn false (suR gf gn 4) gi (M0.1 78 5).toInt (M0.1 78 6).toInt (psX M0) (M113.1 78 5).toInt (M113.1 78 6).toInt (psX M113) (by omega) (by omega) (by omega)
        exact hret _ _ _ dX8_atom_72 ⟨hM113, by omega⟩
      · refine j_aload_n C 1 0 dX8_atom_45 rfl rfl ?_
        refine j_iload_n C 2 1 dX8_atom_46 rfl rfl ?_
        refine j_callVv C (d := 0) (As := [.int (sI 1)]) (st := []) 78 (s_lt rfl rfl) (s_kc (c := 7) rfl rfl) (by decide) rfl (s2_X8_goDeeper hM0 hpr gf gn gi (by omega) (by omega) (by omega) (by omega) (by omega)) gX8_atom_X8_goDeeper rfl hdX8_goDeeper (by decide) (Nat.le_of_ble_eq_true rfl) dX8_atom_47 rfl (fun M118 h119 => ?_)
        obtain ⟨hM118, fM118, h120⟩ := h119
        have bM118 := tkx_b (f := gf) (n := gn) (M := M118) (by omega)
        refine j_aload_n C 1 0 dX8_atom_50 rfl rfl ?_
        refine j_iload_n C 2 1 dX8_atom_51 rfl rfl ?_
        refine y_iconst C dX8_atom_52 ?_
        refine y_iadd C dX8_atom_53 ?_
        refine j_callVv C (d := 17) (As := [.int (sI (1 + 1))]) (st := []) 78 (s_lt rfl rfl) (s_kc (c := 7) rfl rfl) (by decide) rfl (s6_X8_sum hM118 hpr gf gn (nxF gf gn gi) (by omega) (by omega)) gX8_atom_X8_sum rfl hdX8_sum (by decide) (Nat.le_of_ble_eq_true rfl) dX8_atom_54 rfl (fun M122 h123 => ?_)
        obtain ⟨hM122, h124⟩ := h123
        have bM122 := tkx_b (f := gf) (n := gn) (M := M122) (by omega)
        have qM122 := po_rr (suR gf gn 4) gn (nxF gf gn gi) (M118.1 78 5).toInt (M118.1 78 6).toInt (psX M118) (M122.1 78 5).toInt (M122.1 78 6).toInt (psX M122) (suR_g gf gn 4) (by omega) (by omega)
        refine j_aload_n C 1 0 dX8_atom_57 rfl rfl ?_
        refine y_sipush C dX8_atom_58 rfl ?_
        refine j_callVv C (d := 1) (As := [.int (sI 2041)]) (st := []) 78 (s_lt rfl rfl) (s_kc (c := 7) rfl rfl) (by decide) rfl (s1_X8_expect hM122 hpr 2041 (by omega) gf gn ((suR gf gn 4) (nxF gf gn gi)).2.2 (by omega) (by omega) (by omega) (by omega)) gX8_atom_X8_expect rfl hdX8_expect (by decide) (Nat.le_of_ble_eq_true rfl) dX8_atom_61 rfl (fun M126 h127 => ?_)
        obtain ⟨hM126, fM126, h128⟩ := h127
        have bM126 := tkx_b (f := gf) (n := gn) (M := M126) (by omega)
        have qM126 := po_rr (exP gf gn 2041) gn ((suR gf gn 4) (nxF gf gn gi)).2.2 (M122.1 78 5).toInt (M122.1 78 6).toInt (psX M122) (M126.1 78 5).toInt (M126.1 78 6).toInt (psX M126) (ex_g gf gn 2041 (by omega)) (by omega) (by omega)
        refine j_goto C 72 dX8_atom_64 (by decide) ?_
        have u129r := at_2 gf gn (suR gf gn 4) gi (M0.1 78 5).toInt (M0.1 78 6).toInt (psX M0) (M118.1 78 5).toInt (M118.1 78 6).toInt (M122.1 78 5).toInt (M122.1 78 6).toInt (psX M122) (M126.1 78 5).toInt (M126.1 78 6).toInt (psX M126) (by omega) (by omega) (by omega) (by omega) (by omega) (by omega)
        exact hret _ _ _ dX8_atom_72 ⟨hM126, by omega⟩
    · refine j_aload_n C 1 0 dX8_atom_20 rfl rfl ?_
      refine j_dup C dX8_atom_21 rfl ?_
      refine y_getI C 7 _ _ fX8_atom_18 rfl rfl ft_7_2 sb_7_2 hM0 dX8_atom_22 (fun a130 ea130 la130 ua130 => ?_)
      refine y_iconst C dX8_atom_25 ?_
      refine y_iadd C dX8_atom_26 ?_
      refine y_putI C 7 _ _ qX8_atom_18 rfl rfl ft_7_2 sb_7_2 hM0 (PX.w hpr rfl rfl) dX8_atom_27 (by omega) (fun M132 eM132 hM132 => ?_)
      have xM132 := tkx_j (f := gf) (n := gn) (gi := gi) eM132 (by omega) (by omega) (by omega) (by omega)
      refine j_aload_n C 1 0 dX8_atom_30 rfl rfl ?_
      refine j_iload_n C 0 2 dX8_atom_31 rfl rfl ?_
      refine j_callVv C (d := 0) (As := [.int (sI a109)]) (st := []) 78 (s_lt rfl rfl) (s_kc (c := 7) rfl rfl) (by decide) rfl (s1_X8_emit hM132 hpr a109 (by omega) gf gn (nxF gf gn gi) (by omega) (by omega)) gX8_atom_X8_emit rfl hdX8_emit (by decide) (Nat.le_of_ble_eq_true rfl) dX8_atom_32 rfl (fun M134 h135 => ?_)
      obtain ⟨hM134, h136⟩ := h135
      have bM134 := tkx_b (f := gf) (n := gn) (M := M134) (by omega)
      have qM134 := po_eq gn (nxF gf gn gi) (M132.1 78 5).toInt (psX M132) (M134.1 78 5).toInt (psX M134) (by omega) (by omega) (by omega)
      refine j_goto C 72 dX8_atom_35 (by decide) ?_
      have u137r := rr_eq ((atP gf gn false (suR gf gn 4)) gi) (M0.1 78 5).toInt (M0.1 78 6).toInt (M132.1 78 5).toInt (M132.1 78 6).toInt (psX M132) (M134.1 78 5).toInt (M134.1 78 6).toInt (psX M134) (at_1 gf gn false (suR gf gn 4) gi (M0.1 78 5).toInt (M0.1 78 6).toInt (psX M0) (M132.1 78 5).toInt (M132.1 78 6).toInt (psX M132) (by omega) (by omega) (by omega) (by omega) (by omega) (by omega)) (by omega) (by omega) (by omega)
      exact hret _ _ _ dX8_atom_72 ⟨hM134, by omega⟩
  · have u138r := rr_no ((atP gf gn false (suR gf gn 4)) gi) (M0.1 78 5).toInt (M0.1 78 6).toInt (M0.1 78 5).toInt (M0.1 78 6).toInt (psX M0) (by omega) rfl rfl
    exact hret _ _ _ dX8_atom_7 ⟨hM0, by omega⟩
set_option maxHeartbeats 4000000 in
theorem s7_X8_term {l : Launch} {dC : Nat → ClassId} {dI : Nat → Nat → Nat} {ad : Nat → Nat} {cA : Nat → ClassId} {pr : Nat → Nat → Bool} {Kz : mm_M} {M0 : mm_M} (hM0 : INV pr Kz M0) (hpr : PX pr) (gf : Nat → Int) (gn : Int) (gi : Int) (hp0 : b01 (TKX gf gn M0) = 1) (hp1 : b01 (PO gn gi (M0.1 78 5).toInt (psX M0)) = 1) : Cv l 19 yX8_term wsX8_term dC dI ad cA [.ref (ad 78), .int (sI 1)] M0 (fun M' => INV pr Kz M' ∧ (b01 (TKX gf gn M') = 1) ∧ b01 (RR ((teP gf gn false (suR gf gn 4)) gi) (M0.1 78 5).toInt (M0.1 78 6).toInt (M'.1 78 5).toInt (M'.1 78 6).toInt (psX M')) = 1) := by
  refine cv_of (cc := cX8_term) (maxL := 3) (lv := [(0, .ref (ad 78)), (1, .int (sI 1))]) (by decide) rfl (Nat.le_of_ble_eq_true rfl) rfl ?_
  intro p e s m args below meth c A Q C hret
  refine j_aload_n C 0 0 dX8_term_0 rfl rfl ?_
  refine j_iload_n C 1 1 dX8_term_1 rfl rfl ?_
  refine j_callVv C (d := 18) (As := [.int (sI 1)]) (st := []) 78 (s_lt rfl rfl) (s_kc (c := 7) rfl rfl) (by decide) rfl (s7_X8_atom hM0 hpr gf gn gi (by omega) (by omega)) gX8_term_X8_atom rfl hdX8_atom (by decide) (Nat.le_of_ble_eq_true rfl) dX8_term_2 rfl (fun M102 h103 => ?_)
  obtain ⟨hM102, h104⟩ := h103
  have bM102 := tkx_b (f := gf) (n := gn) (M := M102) (by omega)
  have qM102 := po_rr (atP gf gn false (suR gf gn 4)) gn gi (M0.1 78 5).toInt (M0.1 78 6).toInt (psX M0) (M102.1 78 5).toInt (M102.1 78 6).toInt (psX M102) (at_g gf gn (fun _ => suR_g gf gn 4)) (by omega) (by omega)
  refine y_iconst C dX8_term_5 ?_
  have u105l := ll_0 (luP gf gn 2042 2042 (atP gf gn false (suR gf gn 4))) gn ((atP gf gn false (suR gf gn 4)) gi).2.2 (M102.1 78 5).toInt (M102.1 78 6).toInt (psX M102) (by omega)
  refine j_istore_n C 2 [(2, .int (sI 0)), (0, .ref (ad 78)), (1, .int (sI 1))] dX8_term_6 rfl (by decide) rfl ?_
  have L134 : ∀ (n132 : Nat), ∀ (a135 : Int) (M136 : mm_M) (gq137 : Int), (0 ≤ a135 ∧ a135 ≤ 900 ∧ (b01 (LL (luP gf gn 2042 2042 (atP gf gn false (suR gf gn 4))) gn ((atP gf gn false (suR gf gn 4)) gi).2.2 gq137 a135 (M102.1 78 5).toInt (M102.1 78 6).toInt (M136.1 78 5).toInt (M136.1 78 6).toInt (psX M136)) = 1) ∧ (b01 (TKX gf gn M136) = 1) ∧ (b01 (PO gn gq137 (M136.1 78 5).toInt (psX M136)) = 1) ∧ (900 - a135) < (n132 : Int)) → INV pr Kz M136 → jj p l e (cn_R 19) s m args below meth c 0 0 Q 3 dC dI ad cA A M136 7 [(0, .ref (ad 78)), (1, .int (sI 1)), (2, .int (sI a135))] [] := by
    intro n132
    induction n132 with
    | zero =>
      intro a135 M136 gq137 h138 hM136
      exfalso; omega
    | succ n132 ih133 =>
      intro a135 M136 gq137 h138 hM136
      have u139b := tkx_b (f := gf) (n := gn) (M := M136) (by omega)
      refine j_iload_n C 2 2 dX8_term_7 rfl rfl ?_
      refine y_sipush C dX8_term_8 rfl ?_
      refine y_icmp_ge C 59 dX8_term_11 (by decide) (by omega) (fun h140 => ?_) (fun h140 => ?_)
      · have u162e := ll_e gf gn 2042 2042 (atP gf gn false (suR gf gn 4)) ((atP gf gn false (suR gf gn 4)) gi).2.2 gq137 a135 (M102.1 78 5).toInt (M102.1 78 6).toInt (M136.1 78 5).toInt (M136.1 78 6).toInt (psX M136) (by decide) (at_g gf gn (fun _ => suR_g gf gn 4)) (by omega) (by omega)
        have u162r : b01 (RR ((teP gf gn false (suR gf gn 4)) gi) (M0.1 78 5).toInt (M0.1 78 6).toInt (M136.1 78 5).toInt (M136.1 78 6).toInt (psX M136)) = 1 := rr_sq ((atP gf gn false (suR gf gn 4)) gi) (luP gf gn 2042 2042 (atP gf gn false (suR gf gn 4))) (M0.1 78 5).toInt (M0.1 78 6).toInt (M102.1 78 5).toInt (M102.1 78 6).toInt (psX M102) (M136.1 78 5).toInt (M136.1 78 6).toInt (psX M136) (by omega) (by omega)
        exact hret _ _ _ dX8_term_59 ⟨hM136, by omega⟩
      · refine j_aload_n C 0 0 dX8_term_14 rfl rfl ?_
        refine y_getI C 7 _ _ fX8_term_22 rfl rfl ft_7_5 sb_7_5 hM136 dX8_term_15 (fun a141 ea141 la141 ua141 => ?_)
        refine y_if_ne C 59 dX8_term_18 (by decide) (by omega) (fun h143 => ?_) (fun h143 => ?_)
        · have u163e := ll_e gf gn 2042 2042 (atP gf gn false (suR gf gn 4)) ((atP gf gn false (suR gf gn 4)) gi).2.2 gq137 a135 (M102.1 78 5).toInt (M102.1 78 6).toInt (M136.1 78 5).toInt (M136.1 78 6).toInt (psX M136) (by decide) (at_g gf gn (fun _ => suR_g gf gn 4)) (by omega) (by omega)
          have u163r : b01 (RR ((teP gf gn false (suR gf gn 4)) gi) (M0.1 78 5).toInt (M0.1 78 6).toInt (M136.1 78 5).toInt (M136.1 78 6).toInt (psX M136)) = 1 := rr_sq ((atP gf gn false (suR gf gn 4)) gi) (luP gf gn 2042 2042 (atP gf gn false (suR gf gn 4))) (M0.1 78 5).toInt (M0.1 78 6).toInt (M102.1 78 5).toInt (M102.1 78 6).toInt (psX M102) (M136.1 78 5).toInt (M136.1 78 6).toInt (psX M136) (by omega) (by omega)
          exact hret _ _ _ dX8_term_59 ⟨hM136, by omega⟩
        · refine j_aload_n C 0 0 dX8_term_21 rfl rfl ?_
          refine j_callVi C (d := 0) (As := []) (st := []) 78 (s_lt rfl rfl) (s_kc (c := 7) rfl rfl) (by decide) rfl (s1_X8_token hM136 gf gn gq137 (by omega) (by omega)) gX8_term_X8_token rfl hdX8_token (by decide) (Nat.le_of_ble_eq_true rfl) dX8_term_22 rfl (fun r144 M145 h146 => ?_)
          obtain ⟨a148, rfl, rfl, h147⟩ := h146
          refine y_sipush C dX8_term_25 rfl ?_
          refine y_icmp_ne C 59 dX8_term_28 (by decide) (by omega) (fun h149 => ?_) (fun h149 => ?_)
          · have u164e := ll_e gf gn 2042 2042 (atP gf gn false (suR gf gn 4)) ((atP gf gn false (suR gf gn 4)) gi).2.2 gq137 a135 (M102.1 78 5).toInt (M102.1 78 6).toInt (M136.1 78 5).toInt (M136.1 78 6).toInt (psX M136) (by decide) (at_g gf gn (fun _ => suR_g gf gn 4)) (by omega) (by omega)
            have u164r : b01 (RR ((teP gf gn false (suR gf gn 4)) gi) (M0.1 78 5).toInt (M0.1 78 6).toInt (M136.1 78 5).toInt (M136.1 78 6).toInt (psX M136)) = 1 := rr_sq ((atP gf gn false (suR gf gn 4)) gi) (luP gf gn 2042 2042 (atP gf gn false (suR gf gn 4))) (M0.1 78 5).toInt (M0.1 78 6).toInt (M102.1 78 5).toInt (M102.1 78 6).toInt (psX M102) (M136.1 78 5).toInt (M136.1 78 6).toInt (psX M136) (by omega) (by omega)
            exact hret _ _ _ dX8_term_59 ⟨hM136, by omega⟩
          · refine j_aload_n C 0 0 dX8_term_31 rfl rfl ?_
            refine j_dup C dX8_term_32 rfl ?_
            refine y_getI C 7 _ _ fX8_term_18 rfl rfl ft_7_2 sb_7_2 hM136 dX8_term_33 (fun a150 ea150 la150 ua150 => ?_)
            refine y_iconst C dX8_term_36 ?_
            refine y_iadd C dX8_term_37 ?_
            refine y_putI C 7 _ _ qX8_term_18 rfl rfl ft_7_2 sb_7_2 hM136 (PX.w hpr rfl rfl) dX8_term_38 (by omega) (fun M152 eM152 hM152 => ?_)
            have xM152 := tkx_j (f := gf) (n := gn) (gi := gq137) eM152 (by omega) (by omega) (by omega) (by omega)
            refine j_aload_n C 0 0 dX8_term_41 rfl rfl ?_
            refine j_iload_n C 1 1 dX8_term_42 rfl rfl ?_
            refine j_callVv C (d := 18) (As := [.int (sI 1)]) (st := []) 78 (s_lt rfl rfl) (s_kc (c := 7) rfl rfl) (by decide) rfl (s7_X8_atom hM152 hpr gf gn (nxF gf gn gq137) (by omega) (by omega)) gX8_term_X8_atom rfl hdX8_atom (by decide) (Nat.le_of_ble_eq_true rfl) dX8_term_43 rfl (fun M154 h155 => ?_)
            obtain ⟨hM154, h156⟩ := h155
            have bM154 := tkx_b (f := gf) (n := gn) (M := M154) (by omega)
            have qM154 := po_rr (atP gf gn false (suR gf gn 4)) gn (nxF gf gn gq137) (M152.1 78 5).toInt (M152.1 78 6).toInt (psX M152) (M154.1 78 5).toInt (M154.1 78 6).toInt (psX M154) (at_g gf gn (fun _ => suR_g gf gn 4)) (by omega) (by omega)
            refine j_aload_n C 0 0 dX8_term_46 rfl rfl ?_
            refine y_sipush C dX8_term_47 rfl ?_
            refine j_callVv C (d := 0) (As := [.int (sI 2042)]) (st := []) 78 (s_lt rfl rfl) (s_kc (c := 7) rfl rfl) (by decide) rfl (s1_X8_emit hM154 hpr 2042 (by omega) gf gn ((atP gf gn false (suR gf gn 4)) (nxF gf gn gq137)).2.2 (by omega) (by omega)) gX8_term_X8_emit rfl hdX8_emit (by decide) (Nat.le_of_ble_eq_true rfl) dX8_term_50 rfl (fun M158 h159 => ?_)
            obtain ⟨hM158, h160⟩ := h159
            have bM158 := tkx_b (f := gf) (n := gn) (M := M158) (by omega)
            have qM158 := po_eq gn ((atP gf gn false (suR gf gn 4)) (nxF gf gn gq137)).2.2 (M154.1 78 5).toInt (psX M154) (M158.1 78 5).toInt (psX M158) (by omega) (by omega) (by omega)
            refine y_iinc C 2 [(2, .int (sI (a135 + 1))), (0, .ref (ad 78)), (1, .int (sI 1))] dX8_term_53 rfl (by decide) rfl ?_
            have u161s := ll_s gf gn 2042 2042 (atP gf gn false (suR gf gn 4)) ((atP gf gn false (suR gf gn 4)) gi).2.2 gq137 a135 (M102.1 78 5).toInt (M102.1 78 6).toInt (M136.1 78 5).toInt (M136.1 78 6).toInt (psX M136) (M152.1 78 5).toInt (M152.1 78 6).toInt (M154.1 78 5).toInt (M154.1 78 6).toInt (psX M154) (M158.1 78 5).toInt (M158.1 78 6).toInt (psX M158) (by decide) (at_g gf gn (fun _ => suR_g gf gn 4)) (by omega) (by omega) (by omega) (by omega) (by omega) (by omega) (by omega) (by omega) (by omega)
            refine j_goto C 7 dX8_term_56 (by decide) ?_
            refine j_lv [1, 2, 0] rfl ?_; exact ih133 (a135 + 1) M158 ((atP gf gn false (suR gf gn 4)) (nxF gf gn gq137)).2.2 (by omega) hM158
  refine j_lv [1, 2, 0] rfl ?_; exact L134 2010 0 M102 ((atP gf gn false (suR gf gn 4)) gi).2.2 (by omega) hM102
set_option maxHeartbeats 4000000 in
theorem s7_X8_sum {l : Launch} {dC : Nat → ClassId} {dI : Nat → Nat → Nat} {ad : Nat → Nat} {cA : Nat → ClassId} {pr : Nat → Nat → Bool} {Kz : mm_M} {M0 : mm_M} (hM0 : INV pr Kz M0) (hpr : PX pr) (gf : Nat → Int) (gn : Int) (gi : Int) (hp0 : b01 (TKX gf gn M0) = 1) (hp1 : b01 (PO gn gi (M0.1 78 5).toInt (psX M0)) = 1) : Cv l 20 yX8_sum wsX8_sum dC dI ad cA [.ref (ad 78), .int (sI 1)] M0 (fun M' => INV pr Kz M' ∧ (b01 (TKX gf gn M') = 1) ∧ b01 (RR ((suR gf gn 5) gi) (M0.1 78 5).toInt (M0.1 78 6).toInt (M'.1 78 5).toInt (M'.1 78 6).toInt (psX M')) = 1) := by
  refine cv_of (cc := cX8_sum) (maxL := 4) (lv := [(0, .ref (ad 78)), (1, .int (sI 1))]) (by decide) rfl (Nat.le_of_ble_eq_true rfl) rfl ?_
  intro p e s m args below meth c A Q C hret
  refine j_aload_n C 0 0 dX8_sum_0 rfl rfl ?_
  refine j_iload_n C 1 1 dX8_sum_1 rfl rfl ?_
  refine j_callVv C (d := 19) (As := [.int (sI 1)]) (st := []) 78 (s_lt rfl rfl) (s_kc (c := 7) rfl rfl) (by decide) rfl (s7_X8_term hM0 hpr gf gn gi (by omega) (by omega)) gX8_sum_X8_term rfl hdX8_term (by decide) (Nat.le_of_ble_eq_true rfl) dX8_sum_2 rfl (fun M102 h103 => ?_)
  obtain ⟨hM102, h104⟩ := h103
  have bM102 := tkx_b (f := gf) (n := gn) (M := M102) (by omega)
  have qM102 := po_rr (teP gf gn false (suR gf gn 4)) gn gi (M0.1 78 5).toInt (M0.1 78 6).toInt (psX M0) (M102.1 78 5).toInt (M102.1 78 6).toInt (psX M102) (te_g gf gn (fun _ => suR_g gf gn 4)) (by omega) (by omega)
  refine j_aload_n C 0 0 dX8_sum_5 rfl rfl ?_
  refine j_callVi C (d := 0) (As := []) (st := []) 78 (s_lt rfl rfl) (s_kc (c := 7) rfl rfl) (by decide) rfl (s1_X8_token hM102 gf gn ((teP gf gn false (suR gf gn 4)) gi).2.2 (by omega) (by omega)) gX8_sum_X8_token rfl hdX8_token (by decide) (Nat.le_of_ble_eq_true rfl) dX8_sum_6 rfl (fun r105 M106 h107 => ?_)
  obtain ⟨a109, rfl, rfl, h108⟩ := h107
  refine j_istore_n C 2 [(2, .int (sI a109)), (0, .ref (ad 78)), (1, .int (sI 1))] dX8_sum_9 rfl (by decide) rfl ?_
  refine y_iconst C dX8_sum_10 ?_
  have u110l := ll_0 (luP gf gn 2043 2045 (teP gf gn false (suR gf gn 4))) gn ((teP gf gn false (suR gf gn 4)) gi).2.2 (M102.1 78 5).toInt (M102.1 78 6).toInt (psX M102) (by omega)
  refine j_istore_n C 3 [(3, .int (sI 0)), (2, .int (sI a109)), (0, .ref (ad 78)), (1, .int (sI 1))] dX8_sum_11 rfl (by decide) rfl ?_
  have L158 : ∀ (n156 : Nat), ∀ (a159 : Int) (a160 : Int) (M161 : mm_M) (gq162 : Int), ((-2147483648) ≤ a159 ∧ a159 ≤ 2147483647 ∧ 0 ≤ a160 ∧ a160 ≤ 900 ∧ (b01 (LL (luP gf gn 2043 2045 (teP gf gn false (suR gf gn 4))) gn ((teP gf gn false (suR gf gn 4)) gi).2.2 gq162 a160 (M102.1 78 5).toInt (M102.1 78 6).toInt (M161.1 78 5).toInt (M161.1 78 6).toInt (psX M161)) = 1) ∧ (a159 = tkF gf gn (psX M161)) ∧ (b01 (TKX gf gn M161) = 1) ∧ (b01 (PO gn gq162 (M161.1 78 5).toInt (psX M161)) = 1) ∧ (900 - a160) < (n156 : Int)) → INV pr Kz M161 → jj p l e (cn_R 20) s m args below meth c 0 0 Q 4 dC dI ad cA A M161 12 [(0, .ref (ad 78)), (1, .int (sI 1)), (2, .int (sI a159)), (3, .int (sI a160))] [] := by
    intro n156
    induction n156 with
    | zero =>
      intro a159 a160 M161 gq162 h163 hM161
      exfalso; omega
    | succ n156 ih157 =>
      intro a159 a160 M161 gq162 h163 hM161
      have u164b := tkx_b (f := gf) (n := gn) (M := M161) (by omega)
      refine j_iload_n C 3 3 dX8_sum_12 rfl rfl ?_
      refine y_sipush C dX8_sum_13 rfl ?_
      refine y_icmp_ge C 71 dX8_sum_16 (by decide) (by omega) (fun h165 => ?_) (fun h165 => ?_)
      · have u205e := ll_e gf gn 2043 2045 (teP gf gn false (suR gf gn 4)) ((teP gf gn false (suR gf gn 4)) gi).2.2 gq162 a160 (M102.1 78 5).toInt (M102.1 78 6).toInt (M161.1 78 5).toInt (M161.1 78 6).toInt (psX M161) (by decide) (te_g gf gn (fun _ => suR_g gf gn 4)) (by omega) (by omega)
        have u205r : b01 (RR ((suR gf gn 5) gi) (M0.1 78 5).toInt (M0.1 78 6).toInt (M161.1 78 5).toInt (M161.1 78 6).toInt (psX M161)) = 1 := by rw [su_q gf gn 4 5 rfl]; exact rr_sq ((teP gf gn false (suR gf gn 4)) gi) (luP gf gn 2043 2045 (teP gf gn false (suR gf gn 4))) (M0.1 78 5).toInt (M0.1 78 6).toInt (M102.1 78 5).toInt (M102.1 78 6).toInt (psX M102) (M161.1 78 5).toInt (M161.1 78 6).toInt (psX M161) (by omega) (by omega)
        exact hret _ _ _ dX8_sum_71 ⟨hM161, by omega⟩
      · refine j_aload_n C 0 0 dX8_sum_19 rfl rfl ?_
        refine y_getI C 7 _ _ fX8_sum_22 rfl rfl ft_7_5 sb_7_5 hM161 dX8_sum_20 (fun a166 ea166 la166 ua166 => ?_)
        refine y_if_ne C 71 dX8_sum_23 (by decide) (by omega) (fun h168 => ?_) (fun h168 => ?_)
        · have u206e := ll_e gf gn 2043 2045 (teP gf gn false (suR gf gn 4)) ((teP gf gn false (suR gf gn 4)) gi).2.2 gq162 a160 (M102.1 78 5).toInt (M102.1 78 6).toInt (M161.1 78 5).toInt (M161.1 78 6).toInt (psX M161) (by decide) (te_g gf gn (fun _ => suR_g gf gn 4)) (by omega) (by omega)
          have u206r : b01 (RR ((suR gf gn 5) gi) (M0.1 78 5).toInt (M0.1 78 6).toInt (M161.1 78 5).toInt (M161.1 78 6).toInt (psX M161)) = 1 := by rw [su_q gf gn 4 5 rfl]; exact rr_sq ((teP gf gn false (suR gf gn 4)) gi) (luP gf gn 2043 2045 (teP gf gn false (suR gf gn 4))) (M0.1 78 5).toInt (M0.1 78 6).toInt (M102.1 78 5).toInt (M102.1 78 6).toInt (psX M102) (M161.1 78 5).toInt (M161.1 78 6).toInt (psX M161) (by omega) (by omega)
          exact hret _ _ _ dX8_sum_71 ⟨hM161, by omega⟩
        · refine j_iload_n C 2 2 dX8_sum_26 rfl rfl ?_
          refine y_sipush C dX8_sum_27 rfl ?_
          refine y_icmp_eq C 40 dX8_sum_30 (by decide) (by omega) (fun h169 => ?_) (fun h169 => ?_)
          · refine j_aload_n C 0 0 dX8_sum_40 rfl rfl ?_
            refine j_dup C dX8_sum_41 rfl ?_
            refine y_getI C 7 _ _ fX8_sum_18 rfl rfl ft_7_2 sb_7_2 hM161 dX8_sum_42 (fun a170 ea170 la170 ua170 => ?_)
            refine y_iconst C dX8_sum_45 ?_
            refine y_iadd C dX8_sum_46 ?_
            refine y_putI C 7 _ _ qX8_sum_18 rfl rfl ft_7_2 sb_7_2 hM161 (PX.w hpr rfl rfl) dX8_sum_47 (by omega) (fun M172 eM172 hM172 => ?_)
            have xM172 := tkx_j (f := gf) (n := gn) (gi := gq162) eM172 (by omega) (by omega) (by omega) (by omega)
            refine j_aload_n C 0 0 dX8_sum_50 rfl rfl ?_
            refine j_iload_n C 1 1 dX8_sum_51 rfl rfl ?_
            refine j_callVv C (d := 19) (As := [.int (sI 1)]) (st := []) 78 (s_lt rfl rfl) (s_kc (c := 7) rfl rfl) (by decide) rfl (s7_X8_term hM172 hpr gf gn (nxF gf gn gq162) (by omega) (by omega)) gX8_sum_X8_term rfl hdX8_term (by decide) (Nat.le_of_ble_eq_true rfl) dX8_sum_52 rfl (fun M174 h175 => ?_)
            obtain ⟨hM174, h176⟩ := h175
            have bM174 := tkx_b (f := gf) (n := gn) (M := M174) (by omega)
            have qM174 := po_rr (teP gf gn false (suR gf gn 4)) gn (nxF gf gn gq162) (M172.1 78 5).toInt (M172.1 78 6).toInt (psX M172) (M174.1 78 5).toInt (M174.1 78 6).toInt (psX M174) (te_g gf gn (fun _ => suR_g gf gn 4)) (by omega) (by omega)
            refine j_aload_n C 0 0 dX8_sum_55 rfl rfl ?_
            refine j_iload_n C 2 2 dX8_sum_56 rfl rfl ?_
            refine j_callVv C (d := 0) (As := [.int (sI a159)]) (st := []) 78 (s_lt rfl rfl) (s_kc (c := 7) rfl rfl) (by decide) rfl (s1_X8_emit hM174 hpr a159 (by omega) gf gn ((teP gf gn false (suR gf gn 4)) (nxF gf gn gq162)).2.2 (by omega) (by omega)) gX8_sum_X8_emit rfl hdX8_emit (by decide) (Nat.le_of_ble_eq_true rfl) dX8_sum_57 rfl (fun M178 h179 => ?_)
            obtain ⟨hM178, h180⟩ := h179
            have bM178 := tkx_b (f := gf) (n := gn) (M := M178) (by omega)
            have qM178 := po_eq gn ((teP gf gn false (suR gf gn 4)) (nxF gf gn gq162)).2.2 (M174.1 78 5).toInt (psX M174) (M178.1 78 5).toInt (psX M178) (by omega) (by omega) (by omega)
            refine j_aload_n C 0 0 dX8_sum_60 rfl rfl ?_
            refine j_callVi C (d := 0) (As := []) (st := []) 78 (s_lt rfl rfl) (s_kc (c := 7) rfl rfl) (by decide) rfl (s1_X8_token hM178 gf gn ((teP gf gn false (suR gf gn 4)) (nxF gf gn gq162)).2.2 (by omega) (by omega)) gX8_sum_X8_token rfl hdX8_token (by decide) (Nat.le_of_ble_eq_true rfl) dX8_sum_61 rfl (fun r181 M182 h183 => ?_)
            obtain ⟨a185, rfl, rfl, h184⟩ := h183
            refine j_istore_n C 2 [(2, .int (sI a185)), (0, .ref (ad 78)), (1, .int (sI 1)), (3, .int (sI a160))] dX8_sum_64 rfl (by decide) rfl ?_
            refine y_iinc C 3 [(3, .int (sI (a160 + 1))), (2, .int (sI a185)), (0, .ref (ad 78)), (1, .int (sI 1))] dX8_sum_65 rfl (by decide) rfl ?_
            have u186s := ll_s gf gn 2043 2045 (teP gf gn false (suR gf gn 4)) ((teP gf gn false (suR gf gn 4)) gi).2.2 gq162 a160 (M102.1 78 5).toInt (M102.1 78 6).toInt (M161.1 78 5).toInt (M161.1 78 6).toInt (psX M161) (M172.1 78 5).toInt (M172.1 78 6).toInt (M174.1 78 5).toInt (M174.1 78 6).toInt (psX M174) (M178.1 78 5).toInt (M178.1 78 6).toInt (psX M178) (by decide) (te_g gf gn (fun _ => suR_g gf gn 4)) (by omega) (by omega) (by omega) (by omega) (by omega) (by omega) (by omega) (by omega) (by omega)
            refine j_goto C 12 dX8_sum_68 (by decide) ?_
            refine j_lv [2, 3, 1, 0] rfl ?_; exact ih157 a185 (a160 + 1) M178 ((teP gf gn false (suR gf gn 4)) (nxF gf gn gq162)).2.2 (by omega) hM178
          · refine j_iload_n C 2 2 dX8_sum_33 rfl rfl ?_
            refine y_sipush C dX8_sum_34 rfl ?_
            refine y_icmp_ne C 71 dX8_sum_37 (by decide) (by omega) (fun h187 => ?_) (fun h187 => ?_)
            · have u207e := ll_e gf gn 2043 2045 (teP gf gn false (suR gf gn 4)) ((teP gf gn false (suR gf gn 4)) gi).2.2 gq162 a160 (M102.1 78 5).toInt (M102.1 78 6).toInt (M161.1 78 5).toInt (M161.1 78 6).toInt (psX M161) (by decide) (te_g gf gn (fun _ => suR_g gf gn 4)) (by omega) (by omega)
              have u207r : b01 (RR ((suR gf gn 5) gi) (M0.1 78 5).toInt (M0.1 78 6).toInt (M161.1 78 5).toInt (M161.1 78 6).toInt (psX M161)) = 1 := by rw [su_q gf gn 4 5 rfl]; exact rr_sq ((teP gf gn false (suR gf gn 4)) gi) (luP gf gn 2043 2045 (teP gf gn false (suR gf gn 4))) (M0.1 78 5).toInt (M0.1 78 6).toInt (M102.1 78 5).toInt (M102.1 78 6).toInt (psX M102) (M161.1 78 5).toInt (M161.1 78 6).toInt (psX M161) (by omega) (by omega)
              exact hret _ _ _ dX8_sum_71 ⟨hM161, by omega⟩
            · refine j_aload_n C 0 0 dX8_sum_40 rfl rfl ?_
              refine j_dup C dX8_sum_41 rfl ?_
              refine y_getI C 7 _ _ fX8_sum_18 rfl rfl ft_7_2 sb_7_2 hM161 dX8_sum_42 (fun a188 ea188 la188 ua188 => ?_)
              refine y_iconst C dX8_sum_45 ?_
              refine y_iadd C dX8_sum_46 ?_
              refine y_putI C 7 _ _ qX8_sum_18 rfl rfl ft_7_2 sb_7_2 hM161 (PX.w hpr rfl rfl) dX8_sum_47 (by omega) (fun M190 eM190 hM190 => ?_)
              have xM190 := tkx_j (f := gf) (n := gn) (gi := gq162) eM190 (by omega) (by omega) (by omega) (by omega)
              refine j_aload_n C 0 0 dX8_sum_50 rfl rfl ?_
              refine j_iload_n C 1 1 dX8_sum_51 rfl rfl ?_
              refine j_callVv C (d := 19) (As := [.int (sI 1)]) (st := []) 78 (s_lt rfl rfl) (s_kc (c := 7) rfl rfl) (by decide) rfl (s7_X8_term hM190 hpr gf gn (nxF gf gn gq162) (by omega) (by omega)) gX8_sum_X8_term rfl hdX8_term (by decide) (Nat.le_of_ble_eq_true rfl) dX8_sum_52 rfl (fun M192 h193 => ?_)
              obtain ⟨hM192, h194⟩ := h193
              have bM192 := tkx_b (f := gf) (n := gn) (M := M192) (by omega)
              have qM192 := po_rr (teP gf gn false (suR gf gn 4)) gn (nxF gf gn gq162) (M190.1 78 5).toInt (M190.1 78 6).toInt (psX M190) (M192.1 78 5).toInt (M192.1 78 6).toInt (psX M192) (te_g gf gn (fun _ => suR_g gf gn 4)) (by omega) (by omega)
              refine j_aload_n C 0 0 dX8_sum_55 rfl rfl ?_
              refine j_iload_n C 2 2 dX8_sum_56 rfl rfl ?_
              refine j_callVv C (d := 0) (As := [.int (sI a159)]) (st := []) 78 (s_lt rfl rfl) (s_kc (c := 7) rfl rfl) (by decide) rfl (s1_X8_emit hM192 hpr a159 (by omega) gf gn ((teP gf gn false (suR gf gn 4)) (nxF gf gn gq162)).2.2 (by omega) (by omega)) gX8_sum_X8_emit rfl hdX8_emit (by decide) (Nat.le_of_ble_eq_true rfl) dX8_sum_57 rfl (fun M196 h197 => ?_)
              obtain ⟨hM196, h198⟩ := h197
              have bM196 := tkx_b (f := gf) (n := gn) (M := M196) (by omega)
              have qM196 := po_eq gn ((teP gf gn false (suR gf gn 4)) (nxF gf gn gq162)).2.2 (M192.1 78 5).toInt (psX M192) (M196.1 78 5).toInt (psX M196) (by omega) (by omega) (by omega)
              refine j_aload_n C 0 0 dX8_sum_60 rfl rfl ?_
              refine j_callVi C (d := 0) (As := []) (st := []) 78 (s_lt rfl rfl) (s_kc (c := 7) rfl rfl) (by decide) rfl (s1_X8_token hM196 gf gn ((teP gf gn false (suR gf gn 4)) (nxF gf gn gq162)).2.2 (by omega) (by omega)) gX8_sum_X8_token rfl hdX8_token (by decide) (Nat.le_of_ble_eq_true rfl) dX8_sum_61 rfl (fun r199 M200 h201 => ?_)
              obtain ⟨a203, rfl, rfl, h202⟩ := h201
              refine j_istore_n C 2 [(2, .int (sI a203)), (0, .ref (ad 78)), (1, .int (sI 1)), (3, .int (sI a160))] dX8_sum_64 rfl (by decide) rfl ?_
              refine y_iinc C 3 [(3, .int (sI (a160 + 1))), (2, .int (sI a203)), (0, .ref (ad 78)), (1, .int (sI 1))] dX8_sum_65 rfl (by decide) rfl ?_
              have u204s := ll_s gf gn 2043 2045 (teP gf gn false (suR gf gn 4)) ((teP gf gn false (suR gf gn 4)) gi).2.2 gq162 a160 (M102.1 78 5).toInt (M102.1 78 6).toInt (M161.1 78 5).toInt (M161.1 78 6).toInt (psX M161) (M190.1 78 5).toInt (M190.1 78 6).toInt (M192.1 78 5).toInt (M192.1 78 6).toInt (psX M192) (M196.1 78 5).toInt (M196.1 78 6).toInt (psX M196) (by decide) (te_g gf gn (fun _ => suR_g gf gn 4)) (by omega) (by omega) (by omega) (by omega) (by omega) (by omega) (by omega) (by omega) (by omega)
              refine j_goto C 12 dX8_sum_68 (by decide) ?_
              refine j_lv [2, 3, 1, 0] rfl ?_; exact ih157 a203 (a160 + 1) M196 ((teP gf gn false (suR gf gn 4)) (nxF gf gn gq162)).2.2 (by omega) hM196
  refine j_lv [2, 3, 1, 0] rfl ?_; exact L158 4294967306 a109 0 M102 ((teP gf gn false (suR gf gn 4)) gi).2.2 (by omega) hM102
set_option maxHeartbeats 4000000 in
theorem s8_X8_atom {l : Launch} {dC : Nat → ClassId} {dI : Nat → Nat → Nat} {ad : Nat → Nat} {cA : Nat → ClassId} {pr : Nat → Nat → Bool} {Kz : mm_M} {M0 : mm_M} (hM0 : INV pr Kz M0) (hpr : PX pr) (gf : Nat → Int) (gn : Int) (gi : Int) (hp0 : b01 (TKX gf gn M0) = 1) (hp1 : b01 (PO gn gi (M0.1 78 5).toInt (psX M0)) = 1) : Cv l 21 yX8_atom wsX8_atom dC dI ad cA [.ref (ad 78), .int (sI 0)] M0 (fun M' => INV pr Kz M' ∧ (b01 (TKX gf gn M') = 1) ∧ b01 (RR ((atP gf gn false (suR gf gn 5)) gi) (M0.1 78 5).toInt (M0.1 78 6).toInt (M'.1 78 5).toInt (M'.1 78 6).toInt (psX M')) = 1) := by
  refine cv_of (cc := cX8_atom) (maxL := 3) (lv := [(0, .ref (ad 78)), (1, .int (sI 0))]) (by decide) rfl (Nat.le_of_ble_eq_true rfl) rfl ?_
  intro p e s m args below meth c A Q C hret
  have u101b := tkx_b (f := gf) (n := gn) (M := M0) (by omega)
  refine j_aload_n C 0 0 dX8_atom_0 rfl rfl ?_
  refine y_getI C 7 _ _ fX8_atom_22 rfl rfl ft_7_5 sb_7_5 hM0 dX8_atom_1 (fun a102 ea102 la102 ua102 => ?_)
  refine y_if_eq C 8 dX8_atom_4 (by decide) (by omega) (fun h104 => ?_) (fun h104 => ?_)
  · refine j_aload_n C 0 0 dX8_atom_8 rfl rfl ?_
    refine j_callVi C (d := 0) (As := []) (st := []) 78 (s_lt rfl rfl) (s_kc (c := 7) rfl rfl) (by decide) rfl (s1_X8_token hM0 gf gn gi (by omega) (by omega)) gX8_atom_X8_token rfl hdX8_token (by decide) (Nat.le_of_ble_eq_true rfl) dX8_atom_9 rfl (fun r105 M106 h107 => ?_)
    obtain ⟨a109, rfl, rfl, h108⟩ := h107
    refine j_istore_n C 2 [(2, .int (sI a109)), (0, .ref (ad 78)), (1, .int (sI 0))] dX8_atom_12 rfl (by decide) rfl ?_
    refine j_iload_n C 0 2 dX8_atom_13 rfl rfl ?_
    refine y_sipush C dX8_atom_14 rfl ?_
    refine y_icmp_ge C 38 dX8_atom_17 (by decide) (by omega) (fun h110 => ?_) (fun h110 => ?_)
    · refine j_iload_n C 0 2 dX8_atom_38 rfl rfl ?_
      refine y_sipush C dX8_atom_39 rfl ?_
      refine y_icmp_ne C 67 dX8_atom_42 (by decide) (by omega) (fun h111 => ?_) (fun h111 => ?_)
      · refine j_aload_n C 1 0 dX8_atom_67 rfl rfl ?_
        refine y_iconst C dX8_atom_68 ?_
        refine j_callVv C (d := 0) (As := [.int (sI 2)]) (st := []) 78 (s_lt rfl rfl) (s_kc (c := 7) rfl rfl) (by decide) rfl (s1_X8_fail hM0 hpr 2 (by omega) gf gn gi (by omega) (by omega) (by omega)) gX8_atom_X8_fail rfl hdX8_fail (by decide) (Nat.le_of_ble_eq_true rfl) dX8_atom_69 rfl (fun M113 h114 => ?_)
        obtain ⟨hM113, fM113, h115⟩ := h114
        have bM113 := tkx_b (f := gf) (n := gn) (M := M113) (by omega)
        have qM113 := po_f gn gi (M113.1 78 5).toInt (psX M113) (by omega)
        have u116r := at_4 gf gn false (suR gf gn 5) gi (M0.1 78 5).toInt (M0.1 78 6).toInt (psX M0) (M113.1 78 5).toInt (M113.1 78 6).toInt (psX M113) (by omega) (by omega) (by omega)
        exact hret _ _ _ dX8_atom_72 ⟨hM113, by omega⟩
      · refine j_aload_n C 1 0 dX8_atom_45 rfl rfl ?_
        refine j_iload_n C 2 1 dX8_atom_46 rfl rfl ?_
        refine j_callVv C (d := 0) (As := [.int (sI 0)]) (st := []) 78 (s_lt rfl rfl) (s_kc (c := 7) rfl rfl) (by decide) rfl (s1_X8_goDeeper hM0 hpr gf gn gi (by omega) (by omega) (by omega) (by omega) (by omega)) gX8_atom_X8_goDeeper rfl hdX8_goDeeper (by decide) (Nat.le_of_ble_eq_true rfl) dX8_atom_47 rfl (fun M118 h119 => ?_)
        obtain ⟨hM118, fM118, h120⟩ := h119
        have bM118 := tkx_b (f := gf) (n := gn) (M := M118) (by omega)
        refine j_aload_n C 1 0 dX8_atom_50 rfl rfl ?_
        refine j_iload_n C 2 1 dX8_atom_51 rfl rfl ?_
        refine y_iconst C dX8_atom_52 ?_
        refine y_iadd C dX8_atom_53 ?_
        refine j_callVv C (d := 20) (As := [.int (sI (0 + 1))]) (st := []) 78 (s_lt rfl rfl) (s_kc (c := 7) rfl rfl) (by decide) rfl (s7_X8_sum hM118 hpr gf gn (nxF gf gn gi) (by omega) (by omega)) gX8_atom_X8_sum rfl hdX8_sum (by decide) (Nat.le_of_ble_eq_true rfl) dX8_atom_54 rfl (fun M122 h123 => ?_)
        obtain ⟨hM122, h124⟩ := h123
        have bM122 := tkx_b (f := gf) (n := gn) (M := M122) (by omega)
        have qM122 := po_rr (suR gf gn 5) gn (nxF gf gn gi) (M118.1 78 5).toInt (M118.1 78 6).toInt (psX M118) (M122.1 78 5).toInt (M122.1 78 6).toInt (psX M122) (suR_g gf gn 5) (by omega) (by omega)
        refine j_aload_n C 1 0 dX8_atom_57 rfl rfl ?_
        refine y_sipush C dX8_atom_58 rfl ?_
        refine j_callVv C (d := 1) (As := [.int (sI 2041)]) (st := []) 78 (s_lt rfl rfl) (s_kc (c := 7) rfl rfl) (by decide) rfl (s1_X8_expect hM122 hpr 2041 (by omega) gf gn ((suR gf gn 5) (nxF gf gn gi)).2.2 (by omega) (by omega) (by omega) (by omega)) gX8_atom_X8_expect rfl hdX8_expect (by decide) (Nat.le_of_ble_eq_true rfl) dX8_atom_61 rfl (fun M126 h127 => ?_)
        obtain ⟨hM126, fM126, h128⟩ := h127
        have bM126 := tkx_b (f := gf) (n := gn) (M := M126) (by omega)
        have qM126 := po_rr (exP gf gn 2041) gn ((suR gf gn 5) (nxF gf gn gi)).2.2 (M122.1 78 5).toInt (M122.1 78 6).toInt (psX M122) (M126.1 78 5).toInt (M126.1 78 6).toInt (psX M126) (ex_g gf gn 2041 (by omega)) (by omega) (by omega)
        refine j_goto C 72 dX8_atom_64 (by decide) ?_
        have u129r := at_2 gf gn (suR gf gn 5) gi (M0.1 78 5).toInt (M0.1 78 6).toInt (psX M0) (M118.1 78 5).toInt (M118.1 78 6).toInt (M122.1 78 5).toInt (M122.1 78 6).toInt (psX M122) (M126.1 78 5).toInt (M126.1 78 6).toInt (psX M126) (by omega) (by omega) (by omega) (by omega) (by omega) (by omega)
        exact hret _ _ _ dX8_atom_72 ⟨hM126, by omega⟩
    · refine j_aload_n C 1 0 dX8_atom_20 rfl rfl ?_
      refine j_dup C dX8_atom_21 rfl ?_
      refine y_getI C 7 _ _ fX8_atom_18 rfl rfl ft_7_2 sb_7_2 hM0 dX8_atom_22 (fun a130 ea130 la130 ua130 => ?_)
      refine y_iconst C dX8_atom_25 ?_
      refine y_iadd C dX8_atom_26 ?_
      refine y_putI C 7 _ _ qX8_atom_18 rfl rfl ft_7_2 sb_7_2 hM0 (PX.w hpr rfl rfl) dX8_atom_27 (by omega) (fun M132 eM132 hM132 => ?_)
      have xM132 := tkx_j (f := gf) (n := gn) (gi := gi) eM132 (by omega) (by omega) (by omega) (by omega)
      refine j_aload_n C 1 0 dX8_atom_30 rfl rfl ?_
      refine j_iload_n C 0 2 dX8_atom_31 rfl rfl ?_
      refine j_callVv C (d := 0) (As := [.int (sI a109)]) (st := []) 78 (s_lt rfl rfl) (s_kc (c := 7) rfl rfl) (by decide) rfl (s1_X8_emit hM132 hpr a109 (by omega) gf gn (nxF gf gn gi) (by omega) (by omega)) gX8_atom_X8_emit rfl hdX8_emit (by decide) (Nat.le_of_ble_eq_true rfl) dX8_atom_32 rfl (fun M134 h135 => ?_)
      obtain ⟨hM134, h136⟩ := h135
      have bM134 := tkx_b (f := gf) (n := gn) (M := M134) (by omega)
      have qM134 := po_eq gn (nxF gf gn gi) (M132.1 78 5).toInt (psX M132) (M134.1 78 5).toInt (psX M134) (by omega) (by omega) (by omega)
      refine j_goto C 72 dX8_atom_35 (by decide) ?_
      have u137r := rr_eq ((atP gf gn false (suR gf gn 5)) gi) (M0.1 78 5).toInt (M0.1 78 6).toInt (M132.1 78 5).toInt (M132.1 78 6).toInt (psX M132) (M134.1 78 5).toInt (M134.1 78 6).toInt (psX M134) (at_1 gf gn false (suR gf gn 5) gi (M0.1 78 5).toInt (M0.1 78 6).toInt (psX M0) (M132.1 78 5).toInt (M132.1 78 6).toInt (psX M132) (by omega) (by omega) (by omega) (by omega) (by omega) (by omega)) (by omega) (by omega) (by omega)
      exact hret _ _ _ dX8_atom_72 ⟨hM134, by omega⟩
  · have u138r := rr_no ((atP gf gn false (suR gf gn 5)) gi) (M0.1 78 5).toInt (M0.1 78 6).toInt (M0.1 78 5).toInt (M0.1 78 6).toInt (psX M0) (by omega) rfl rfl
    exact hret _ _ _ dX8_atom_7 ⟨hM0, by omega⟩
set_option maxHeartbeats 4000000 in
theorem s8_X8_term {l : Launch} {dC : Nat → ClassId} {dI : Nat → Nat → Nat} {ad : Nat → Nat} {cA : Nat → ClassId} {pr : Nat → Nat → Bool} {Kz : mm_M} {M0 : mm_M} (hM0 : INV pr Kz M0) (hpr : PX pr) (gf : Nat → Int) (gn : Int) (gi : Int) (hp0 : b01 (TKX gf gn M0) = 1) (hp1 : b01 (PO gn gi (M0.1 78 5).toInt (psX M0)) = 1) : Cv l 22 yX8_term wsX8_term dC dI ad cA [.ref (ad 78), .int (sI 0)] M0 (fun M' => INV pr Kz M' ∧ (b01 (TKX gf gn M') = 1) ∧ b01 (RR ((teP gf gn false (suR gf gn 5)) gi) (M0.1 78 5).toInt (M0.1 78 6).toInt (M'.1 78 5).toInt (M'.1 78 6).toInt (psX M')) = 1) := by
  refine cv_of (cc := cX8_term) (maxL := 3) (lv := [(0, .ref (ad 78)), (1, .int (sI 0))]) (by decide) rfl (Nat.le_of_ble_eq_true rfl) rfl ?_
  intro p e s m args below meth c A Q C hret
  refine j_aload_n C 0 0 dX8_term_0 rfl rfl ?_
  refine j_iload_n C 1 1 dX8_term_1 rfl rfl ?_
  refine j_callVv C (d := 21) (As := [.int (sI 0)]) (st := []) 78 (s_lt rfl rfl) (s_kc (c := 7) rfl rfl) (by decide) rfl (s8_X8_atom hM0 hpr gf gn gi (by omega) (by omega)) gX8_term_X8_atom rfl hdX8_atom (by decide) (Nat.le_of_ble_eq_true rfl) dX8_term_2 rfl (fun M102 h103 => ?_)
  obtain ⟨hM102, h104⟩ := h103
  have bM102 := tkx_b (f := gf) (n := gn) (M := M102) (by omega)
  have qM102 := po_rr (atP gf gn false (suR gf gn 5)) gn gi (M0.1 78 5).toInt (M0.1 78 6).toInt (psX M0) (M102.1 78 5).toInt (M102.1 78 6).toInt (psX M102) (at_g gf gn (fun _ => suR_g gf gn 5)) (by omega) (by omega)
  refine y_iconst C dX8_term_5 ?_
  have u105l := ll_0 (luP gf gn 2042 2042 (atP gf gn false (suR gf gn 5))) gn ((atP gf gn false (suR gf gn 5)) gi).2.2 (M102.1 78 5).toInt (M102.1 78 6).toInt (psX M102) (by omega)
  refine j_istore_n C 2 [(2, .int (sI 0)), (0, .ref (ad 78)), (1, .int (sI 0))] dX8_term_6 rfl (by decide) rfl ?_
  have L134 : ∀ (n132 : Nat), ∀ (a135 : Int) (M136 : mm_M) (gq137 : Int), (0 ≤ a135 ∧ a135 ≤ 900 ∧ (b01 (LL (luP gf gn 2042 2042 (atP gf gn false (suR gf gn 5))) gn ((atP gf gn false (suR gf gn 5)) gi).2.2 gq137 a135 (M102.1 78 5).toInt (M102.1 78 6).toInt (M136.1 78 5).toInt (M136.1 78 6).toInt (psX M136)) = 1) ∧ (b01 (TKX gf gn M136) = 1) ∧ (b01 (PO gn gq137 (M136.1 78 5).toInt (psX M136)) = 1) ∧ (900 - a135) < (n132 : Int)) → INV pr Kz M136 → jj p l e (cn_R 22) s m args below meth c 0 0 Q 3 dC dI ad cA A M136 7 [(0, .ref (ad 78)), (1, .int (sI 0)), (2, .int (sI a135))] [] := by
    intro n132
    induction n132 with
    | zero =>
      intro a135 M136 gq137 h138 hM136
      exfalso; omega
    | succ n132 ih133 =>
      intro a135 M136 gq137 h138 hM136
      have u139b := tkx_b (f := gf) (n := gn) (M := M136) (by omega)
      refine j_iload_n C 2 2 dX8_term_7 rfl rfl ?_
      refine y_sipush C dX8_term_8 rfl ?_
      refine y_icmp_ge C 59 dX8_term_11 (by decide) (by omega) (fun h140 => ?_) (fun h140 => ?_)
      · have u162e := ll_e gf gn 2042 2042 (atP gf gn false (suR gf gn 5)) ((atP gf gn false (suR gf gn 5)) gi).2.2 gq137 a135 (M102.1 78 5).toInt (M102.1 78 6).toInt (M136.1 78 5).toInt (M136.1 78 6).toInt (psX M136) (by decide) (at_g gf gn (fun _ => suR_g gf gn 5)) (by omega) (by omega)
        have u162r : b01 (RR ((teP gf gn false (suR gf gn 5)) gi) (M0.1 78 5).toInt (M0.1 78 6).toInt (M136.1 78 5).toInt (M136.1 78 6).toInt (psX M136)) = 1 := rr_sq ((atP gf gn false (suR gf gn 5)) gi) (luP gf gn 2042 2042 (atP gf gn false (suR gf gn 5))) (M0.1 78 5).toInt (M0.1 78 6).toInt (M102.1 78 5).toInt (M102.1 78 6).toInt (psX M102) (M136.1 78 5).toInt (M136.1 78 6).toInt (psX M136) (by omega) (by omega)
        exact hret _ _ _ dX8_term_59 ⟨hM136, by omega⟩
      · refine j_aload_n C 0 0 dX8_term_14 rfl rfl ?_
        refine y_getI C 7 _ _ fX8_term_22 rfl rfl ft_7_5 sb_7_5 hM136 dX8_term_15 (fun a141 ea141 la141 ua141 => ?_)
        refine y_if_ne C 59 dX8_term_18 (by decide) (by omega) (fun h143 => ?_) (fun h143 => ?_)
        · have u163e := ll_e gf gn 2042 2042 (atP gf gn false (suR gf gn 5)) ((atP gf gn false (suR gf gn 5)) gi).2.2 gq137 a135 (M102.1 78 5).toInt (M102.1 78 6).toInt (M136.1 78 5).toInt (M136.1 78 6).toInt (psX M136) (by decide) (at_g gf gn (fun _ => suR_g gf gn 5)) (by omega) (by omega)
          have u163r : b01 (RR ((teP gf gn false (suR gf gn 5)) gi) (M0.1 78 5).toInt (M0.1 78 6).toInt (M136.1 78 5).toInt (M136.1 78 6).toInt (psX M136)) = 1 := rr_sq ((atP gf gn false (suR gf gn 5)) gi) (luP gf gn 2042 2042 (atP gf gn false (suR gf gn 5))) (M0.1 78 5).toInt (M0.1 78 6).toInt (M102.1 78 5).toInt (M102.1 78 6).toInt (psX M102) (M136.1 78 5).toInt (M136.1 78 6).toInt (psX M136) (by omega) (by omega)
          exact hret _ _ _ dX8_term_59 ⟨hM136, by omega⟩
        · refine j_aload_n C 0 0 dX8_term_21 rfl rfl ?_
          refine j_callVi C (d := 0) (As := []) (st := []) 78 (s_lt rfl rfl) (s_kc (c := 7) rfl rfl) (by decide) rfl (s1_X8_token hM136 gf gn gq137 (by omega) (by omega)) gX8_term_X8_token rfl hdX8_token (by decide) (Nat.le_of_ble_eq_true rfl) dX8_term_22 rfl (fun r144 M145 h146 => ?_)
          obtain ⟨a148, rfl, rfl, h147⟩ := h146
          refine y_sipush C dX8_term_25 rfl ?_
          refine y_icmp_ne C 59 dX8_term_28 (by decide) (by omega) (fun h149 => ?_) (fun h149 => ?_)
          · have u164e := ll_e gf gn 2042 2042 (atP gf gn false (suR gf gn 5)) ((atP gf gn false (suR gf gn 5)) gi).2.2 gq137 a135 (M102.1 78 5).toInt (M102.1 78 6).toInt (M136.1 78 5).toInt (M136.1 78 6).toInt (psX M136) (by decide) (at_g gf gn (fun _ => suR_g gf gn 5)) (by omega) (by omega)
            have u164r : b01 (RR ((teP gf gn false (suR gf gn 5)) gi) (M0.1 78 5).toInt (M0.1 78 6).toInt (M136.1 78 5).toInt (M136.1 78 6).toInt (psX M136)) = 1 := rr_sq ((atP gf gn false (suR gf gn 5)) gi) (luP gf gn 2042 2042 (atP gf gn false (suR gf gn 5))) (M0.1 78 5).toInt (M0.1 78 6).toInt (M102.1 78 5).toInt (M102.1 78 6).toInt (psX M102) (M136.1 78 5).toInt (M136.1 78 6).toInt (psX M136) (by omega) (by omega)
            exact hret _ _ _ dX8_term_59 ⟨hM136, by omega⟩
          · refine j_aload_n C 0 0 dX8_term_31 rfl rfl ?_
            refine j_dup C dX8_term_32 rfl ?_
            refine y_getI C 7 _ _ fX8_term_18 rfl rfl ft_7_2 sb_7_2 hM136 dX8_term_33 (fun a150 ea150 la150 ua150 => ?_)
            refine y_iconst C dX8_term_36 ?_
            refine y_iadd C dX8_term_37 ?_
            refine y_putI C 7 _ _ qX8_term_18 rfl rfl ft_7_2 sb_7_2 hM136 (PX.w hpr rfl rfl) dX8_term_38 (by omega) (fun M152 eM152 hM152 => ?_)
            have xM152 := tkx_j (f := gf) (n := gn) (gi := gq137) eM152 (by omega) (by omega) (by omega) (by omega)
            refine j_aload_n C 0 0 dX8_term_41 rfl rfl ?_
            refine j_iload_n C 1 1 dX8_term_42 rfl rfl ?_
            refine j_callVv C (d := 21) (As := [.int (sI 0)]) (st := []) 78 (s_lt rfl rfl) (s_kc (c := 7) rfl rfl) (by decide) rfl (s8_X8_atom hM152 hpr gf gn (nxF gf gn gq137) (by omega) (by omega)) gX8_term_X8_atom rfl hdX8_atom (by decide) (Nat.le_of_ble_eq_true rfl) dX8_term_43 rfl (fun M154 h155 => ?_)
            obtain ⟨hM154, h156⟩ := h155
            have bM154 := tkx_b (f := gf) (n := gn) (M := M154) (by omega)
            have qM154 := po_rr (atP gf gn false (suR gf gn 5)) gn (nxF gf gn gq137) (M152.1 78 5).toInt (M152.1 78 6).toInt (psX M152) (M154.1 78 5).toInt (M154.1 78 6).toInt (psX M154) (at_g gf gn (fun _ => suR_g gf gn 5)) (by omega) (by omega)
            refine j_aload_n C 0 0 dX8_term_46 rfl rfl ?_
            refine y_sipush C dX8_term_47 rfl ?_
            refine j_callVv C (d := 0) (As := [.int (sI 2042)]) (st := []) 78 (s_lt rfl rfl) (s_kc (c := 7) rfl rfl) (by decide) rfl (s1_X8_emit hM154 hpr 2042 (by omega) gf gn ((atP gf gn false (suR gf gn 5)) (nxF gf gn gq137)).2.2 (by omega) (by omega)) gX8_term_X8_emit rfl hdX8_emit (by decide) (Nat.le_of_ble_eq_true rfl) dX8_term_50 rfl (fun M158 h159 => ?_)
            obtain ⟨hM158, h160⟩ := h159
            have bM158 := tkx_b (f := gf) (n := gn) (M := M158) (by omega)
            have qM158 := po_eq gn ((atP gf gn false (suR gf gn 5)) (nxF gf gn gq137)).2.2 (M154.1 78 5).toInt (psX M154) (M158.1 78 5).toInt (psX M158) (by omega) (by omega) (by omega)
            refine y_iinc C 2 [(2, .int (sI (a135 + 1))), (0, .ref (ad 78)), (1, .int (sI 0))] dX8_term_53 rfl (by decide) rfl ?_
            have u161s := ll_s gf gn 2042 2042 (atP gf gn false (suR gf gn 5)) ((atP gf gn false (suR gf gn 5)) gi).2.2 gq137 a135 (M102.1 78 5).toInt (M102.1 78 6).toInt (M136.1 78 5).toInt (M136.1 78 6).toInt (psX M136) (M152.1 78 5).toInt (M152.1 78 6).toInt (M154.1 78 5).toInt (M154.1 78 6).toInt (psX M154) (M158.1 78 5).toInt (M158.1 78 6).toInt (psX M158) (by decide) (at_g gf gn (fun _ => suR_g gf gn 5)) (by omega) (by omega) (by omega) (by omega) (by omega) (by omega) (by omega) (by omega) (by omega)
            refine j_goto C 7 dX8_term_56 (by decide) ?_
            refine j_lv [1, 2, 0] rfl ?_; exact ih133 (a135 + 1) M158 ((atP gf gn false (suR gf gn 5)) (nxF gf gn gq137)).2.2 (by omega) hM158
  refine j_lv [1, 2, 0] rfl ?_; exact L134 2010 0 M102 ((atP gf gn false (suR gf gn 5)) gi).2.2 (by omega) hM102
set_option maxHeartbeats 4000000 in
theorem s8_X8_sum {l : Launch} {dC : Nat → ClassId} {dI : Nat → Nat → Nat} {ad : Nat → Nat} {cA : Nat → ClassId} {pr : Nat → Nat → Bool} {Kz : mm_M} {M0 : mm_M} (hM0 : INV pr Kz M0) (hpr : PX pr) (gf : Nat → Int) (gn : Int) (gi : Int) (hp0 : b01 (TKX gf gn M0) = 1) (hp1 : b01 (PO gn gi (M0.1 78 5).toInt (psX M0)) = 1) : Cv l 23 yX8_sum wsX8_sum dC dI ad cA [.ref (ad 78), .int (sI 0)] M0 (fun M' => INV pr Kz M' ∧ (b01 (TKX gf gn M') = 1) ∧ b01 (RR ((suR gf gn 6) gi) (M0.1 78 5).toInt (M0.1 78 6).toInt (M'.1 78 5).toInt (M'.1 78 6).toInt (psX M')) = 1) := by
  refine cv_of (cc := cX8_sum) (maxL := 4) (lv := [(0, .ref (ad 78)), (1, .int (sI 0))]) (by decide) rfl (Nat.le_of_ble_eq_true rfl) rfl ?_
  intro p e s m args below meth c A Q C hret
  refine j_aload_n C 0 0 dX8_sum_0 rfl rfl ?_
  refine j_iload_n C 1 1 dX8_sum_1 rfl rfl ?_
  refine j_callVv C (d := 22) (As := [.int (sI 0)]) (st := []) 78 (s_lt rfl rfl) (s_kc (c := 7) rfl rfl) (by decide) rfl (s8_X8_term hM0 hpr gf gn gi (by omega) (by omega)) gX8_sum_X8_term rfl hdX8_term (by decide) (Nat.le_of_ble_eq_true rfl) dX8_sum_2 rfl (fun M102 h103 => ?_)
  obtain ⟨hM102, h104⟩ := h103
  have bM102 := tkx_b (f := gf) (n := gn) (M := M102) (by omega)
  have qM102 := po_rr (teP gf gn false (suR gf gn 5)) gn gi (M0.1 78 5).toInt (M0.1 78 6).toInt (psX M0) (M102.1 78 5).toInt (M102.1 78 6).toInt (psX M102) (te_g gf gn (fun _ => suR_g gf gn 5)) (by omega) (by omega)
  refine j_aload_n C 0 0 dX8_sum_5 rfl rfl ?_
  refine j_callVi C (d := 0) (As := []) (st := []) 78 (s_lt rfl rfl) (s_kc (c := 7) rfl rfl) (by decide) rfl (s1_X8_token hM102 gf gn ((teP gf gn false (suR gf gn 5)) gi).2.2 (by omega) (by omega)) gX8_sum_X8_token rfl hdX8_token (by decide) (Nat.le_of_ble_eq_true rfl) dX8_sum_6 rfl (fun r105 M106 h107 => ?_)
  obtain ⟨a109, rfl, rfl, h108⟩ := h107
  refine j_istore_n C 2 [(2, .int (sI a109)), (0, .ref (ad 78)), (1, .int (sI 0))] dX8_sum_9 rfl (by decide) rfl ?_
  refine y_iconst C dX8_sum_10 ?_
  have u110l := ll_0 (luP gf gn 2043 2045 (teP gf gn false (suR gf gn 5))) gn ((teP gf gn false (suR gf gn 5)) gi).2.2 (M102.1 78 5).toInt (M102.1 78 6).toInt (psX M102) (by omega)
  refine j_istore_n C 3 [(3, .int (sI 0)), (2, .int (sI a109)), (0, .ref (ad 78)), (1, .int (sI 0))] dX8_sum_11 rfl (by decide) rfl ?_
  have L158 : ∀ (n156 : Nat), ∀ (a159 : Int) (a160 : Int) (M161 : mm_M) (gq162 : Int), ((-2147483648) ≤ a159 ∧ a159 ≤ 2147483647 ∧ 0 ≤ a160 ∧ a160 ≤ 900 ∧ (b01 (LL (luP gf gn 2043 2045 (teP gf gn false (suR gf gn 5))) gn ((teP gf gn false (suR gf gn 5)) gi).2.2 gq162 a160 (M102.1 78 5).toInt (M102.1 78 6).toInt (M161.1 78 5).toInt (M161.1 78 6).toInt (psX M161)) = 1) ∧ (a159 = tkF gf gn (psX M161)) ∧ (b01 (TKX gf gn M161) = 1) ∧ (b01 (PO gn gq162 (M161.1 78 5).toInt (psX M161)) = 1) ∧ (900 - a160) < (n156 : Int)) → INV pr Kz M161 → jj p l e (cn_R 23) s m args below meth c 0 0 Q 4 dC dI ad cA A M161 12 [(0, .ref (ad 78)), (1, .int (sI 0)), (2, .int (sI a159)), (3, .int (sI a160))] [] := by
    intro n156
    induction n156 with
    | zero =>
      intro a159 a160 M161 gq162 h163 hM161
      exfalso; omega
    | succ n156 ih157 =>
      intro a159 a160 M161 gq162 h163 hM161
      have u164b := tkx_b (f := gf) (n := gn) (M := M161) (by omega)
      refine j_iload_n C 3 3 dX8_sum_12 rfl rfl ?_
      refine y_sipush C dX8_sum_13 rfl ?_
      refine y_icmp_ge C 71 dX8_sum_16 (by decide) (by omega) (fun h165 => ?_) (fun h165 => ?_)
      · have u205e := ll_e gf gn 2043 2045 (teP gf gn false (suR gf gn 5)) ((teP gf gn false (suR gf gn 5)) gi).2.2 gq162 a160 (M102.1 78 5).toInt (M102.1 78 6).toInt (M161.1 78 5).toInt (M161.1 78 6).toInt (psX M161) (by decide) (te_g gf gn (fun _ => suR_g gf gn 5)) (by omega) (by omega)
        have u205r : b01 (RR ((suR gf gn 6) gi) (M0.1 78 5).toInt (M0.1 78 6).toInt (M161.1 78 5).toInt (M161.1 78 6).toInt (psX M161)) = 1 := by rw [su_q gf gn 5 6 rfl]; exact rr_sq ((teP gf gn false (suR gf gn 5)) gi) (luP gf gn 2043 2045 (teP gf gn false (suR gf gn 5))) (M0.1 78 5).toInt (M0.1 78 6).toInt (M102.1 78 5).toInt (M102.1 78 6).toInt (psX M102) (M161.1 78 5).toInt (M161.1 78 6).toInt (psX M161) (by omega) (by omega)
        exact hret _ _ _ dX8_sum_71 ⟨hM161, by omega⟩
      · refine j_aload_n C 0 0 dX8_sum_19 rfl rfl ?_
        refine y_getI C 7 _ _ fX8_sum_22 rfl rfl ft_7_5 sb_7_5 hM161 dX8_sum_20 (fun a166 ea166 la166 ua166 => ?_)
        refine y_if_ne C 71 dX8_sum_23 (by decide) (by omega) (fun h168 => ?_) (fun h168 => ?_)
        · have u206e := ll_e gf gn 2043 2045 (teP gf gn false (suR gf gn 5)) ((teP gf gn false (suR gf gn 5)) gi).2.2 gq162 a160 (M102.1 78 5).toInt (M102.1 78 6).toInt (M161.1 78 5).toInt (M161.1 78 6).toInt (psX M161) (by decide) (te_g gf gn (fun _ => suR_g gf gn 5)) (by omega) (by omega)
          have u206r : b01 (RR ((suR gf gn 6) gi) (M0.1 78 5).toInt (M0.1 78 6).toInt (M161.1 78 5).toInt (M161.1 78 6).toInt (psX M161)) = 1 := by rw [su_q gf gn 5 6 rfl]; exact rr_sq ((teP gf gn false (suR gf gn 5)) gi) (luP gf gn 2043 2045 (teP gf gn false (suR gf gn 5))) (M0.1 78 5).toInt (M0.1 78 6).toInt (M102.1 78 5).toInt (M102.1 78 6).toInt (psX M102) (M161.1 78 5).toInt (M161.1 78 6).toInt (psX M161) (by omega) (by omega)
          exact hret _ _ _ dX8_sum_71 ⟨hM161, by omega⟩
        · refine j_iload_n C 2 2 dX8_sum_26 rfl rfl ?_
          refine y_sipush C dX8_sum_27 rfl ?_
          refine y_icmp_eq C 40 dX8_sum_30 (by decide) (by omega) (fun h169 => ?_) (fun h169 => ?_)
          · refine j_aload_n C 0 0 dX8_sum_40 rfl rfl ?_
            refine j_dup C dX8_sum_41 rfl ?_
            refine y_getI C 7 _ _ fX8_sum_18 rfl rfl ft_7_2 sb_7_2 hM161 dX8_sum_42 (fun a170 ea170 la170 ua170 => ?_)
            refine y_iconst C dX8_sum_45 ?_
            refine y_iadd C dX8_sum_46 ?_
            refine y_putI C 7 _ _ qX8_sum_18 rfl rfl ft_7_2 sb_7_2 hM161 (PX.w hpr rfl rfl) dX8_sum_47 (by omega) (fun M172 eM172 hM172 => ?_)
            have xM172 := tkx_j (f := gf) (n := gn) (gi := gq162) eM172 (by omega) (by omega) (by omega) (by omega)
            refine j_aload_n C 0 0 dX8_sum_50 rfl rfl ?_
            refine j_iload_n C 1 1 dX8_sum_51 rfl rfl ?_
            refine j_callVv C (d := 22) (As := [.int (sI 0)]) (st := []) 78 (s_lt rfl rfl) (s_kc (c := 7) rfl rfl) (by decide) rfl (s8_X8_term hM172 hpr gf gn (nxF gf gn gq162) (by omega) (by omega)) gX8_sum_X8_term rfl hdX8_term (by decide) (Nat.le_of_ble_eq_true rfl) dX8_sum_52 rfl (fun M174 h175 => ?_)
            obtain ⟨hM174, h176⟩ := h175
            have bM174 := tkx_b (f := gf) (n := gn) (M := M174) (by omega)
            have qM174 := po_rr (teP gf gn false (suR gf gn 5)) gn (nxF gf gn gq162) (M172.1 78 5).toInt (M172.1 78 6).toInt (psX M172) (M174.1 78 5).toInt (M174.1 78 6).toInt (psX M174) (te_g gf gn (fun _ => suR_g gf gn 5)) (by omega) (by omega)
            refine j_aload_n C 0 0 dX8_sum_55 rfl rfl ?_
            refine j_iload_n C 2 2 dX8_sum_56 rfl rfl ?_
            refine j_callVv C (d := 0) (As := [.int (sI a159)]) (st := []) 78 (s_lt rfl rfl) (s_kc (c := 7) rfl rfl) (by decide) rfl (s1_X8_emit hM174 hpr a159 (by omega) gf gn ((teP gf gn false (suR gf gn 5)) (nxF gf gn gq162)).2.2 (by omega) (by omega)) gX8_sum_X8_emit rfl hdX8_emit (by decide) (Nat.le_of_ble_eq_true rfl) dX8_sum_57 rfl (fun M178 h179 => ?_)
            obtain ⟨hM178, h180⟩ := h179
            have bM178 := tkx_b (f := gf) (n := gn) (M := M178) (by omega)
            have qM178 := po_eq gn ((teP gf gn false (suR gf gn 5)) (nxF gf gn gq162)).2.2 (M174.1 78 5).toInt (psX M174) (M178.1 78 5).toInt (psX M178) (by omega) (by omega) (by omega)
            refine j_aload_n C 0 0 dX8_sum_60 rfl rfl ?_
            refine j_callVi C (d := 0) (As := []) (st := []) 78 (s_lt rfl rfl) (s_kc (c := 7) rfl rfl) (by decide) rfl (s1_X8_token hM178 gf gn ((teP gf gn false (suR gf gn 5)) (nxF gf gn gq162)).2.2 (by omega) (by omega)) gX8_sum_X8_token rfl hdX8_token (by decide) (Nat.le_of_ble_eq_true rfl) dX8_sum_61 rfl (fun r181 M182 h183 => ?_)
            obtain ⟨a185, rfl, rfl, h184⟩ := h183
            refine j_istore_n C 2 [(2, .int (sI a185)), (0, .ref (ad 78)), (1, .int (sI 0)), (3, .int (sI a160))] dX8_sum_64 rfl (by decide) rfl ?_
            refine y_iinc C 3 [(3, .int (sI (a160 + 1))), (2, .int (sI a185)), (0, .ref (ad 78)), (1, .int (sI 0))] dX8_sum_65 rfl (by decide) rfl ?_
            have u186s := ll_s gf gn 2043 2045 (teP gf gn false (suR gf gn 5)) ((teP gf gn false (suR gf gn 5)) gi).2.2 gq162 a160 (M102.1 78 5).toInt (M102.1 78 6).toInt (M161.1 78 5).toInt (M161.1 78 6).toInt (psX M161) (M172.1 78 5).toInt (M172.1 78 6).toInt (M174.1 78 5).toInt (M174.1 78 6).toInt (psX M174) (M178.1 78 5).toInt (M178.1 78 6).toInt (psX M178) (by decide) (te_g gf gn (fun _ => suR_g gf gn 5)) (by omega) (by omega) (by omega) (by omega) (by omega) (by omega) (by omega) (by omega) (by omega)
            refine j_goto C 12 dX8_sum_68 (by decide) ?_
            refine j_lv [2, 3, 1, 0] rfl ?_; exact ih157 a185 (a160 + 1) M178 ((teP gf gn false (suR gf gn 5)) (nxF gf gn gq162)).2.2 (by omega) hM178
          · refine j_iload_n C 2 2 dX8_sum_33 rfl rfl ?_
            refine y_sipush C dX8_sum_34 rfl ?_
            refine y_icmp_ne C 71 dX8_sum_37 (by decide) (by omega) (fun h187 => ?_) (fun h187 => ?_)
            · have u207e := ll_e gf gn 2043 2045 (teP gf gn false (suR gf gn 5)) ((teP gf gn false (suR gf gn 5)) gi).2.2 gq162 a160 (M102.1 78 5).toInt (M102.1 78 6).toInt (M161.1 78 5).toInt (M161.1 78 6).toInt (psX M161) (by decide) (te_g gf gn (fun _ => suR_g gf gn 5)) (by omega) (by omega)
              have u207r : b01 (RR ((suR gf gn 6) gi) (M0.1 78 5).toInt (M0.1 78 6).toInt (M161.1 78 5).toInt (M161.1 78 6).toInt (psX M161)) = 1 := by rw [su_q gf gn 5 6 rfl]; exact rr_sq ((teP gf gn false (suR gf gn 5)) gi) (luP gf gn 2043 2045 (teP gf gn false (suR gf gn 5))) (M0.1 78 5).toInt (M0.1 78 6).toInt (M102.1 78 5).toInt (M102.1 78 6).toInt (psX M102) (M161.1 78 5).toInt (M161.1 78 6).toInt (psX M161) (by omega) (by omega)
              exact hret _ _ _ dX8_sum_71 ⟨hM161, by omega⟩
            · refine j_aload_n C 0 0 dX8_sum_40 rfl rfl ?_
              refine j_dup C dX8_sum_41 rfl ?_
              refine y_getI C 7 _ _ fX8_sum_18 rfl rfl ft_7_2 sb_7_2 hM161 dX8_sum_42 (fun a188 ea188 la188 ua188 => ?_)
              refine y_iconst C dX8_sum_45 ?_
              refine y_iadd C dX8_sum_46 ?_
              refine y_putI C 7 _ _ qX8_sum_18 rfl rfl ft_7_2 sb_7_2 hM161 (PX.w hpr rfl rfl) dX8_sum_47 (by omega) (fun M190 eM190 hM190 => ?_)
              have xM190 := tkx_j (f := gf) (n := gn) (gi := gq162) eM190 (by omega) (by omega) (by omega) (by omega)
              refine j_aload_n C 0 0 dX8_sum_50 rfl rfl ?_
              refine j_iload_n C 1 1 dX8_sum_51 rfl rfl ?_
              refine j_callVv C (d := 22) (As := [.int (sI 0)]) (st := []) 78 (s_lt rfl rfl) (s_kc (c := 7) rfl rfl) (by decide) rfl (s8_X8_term hM190 hpr gf gn (nxF gf gn gq162) (by omega) (by omega)) gX8_sum_X8_term rfl hdX8_term (by decide) (Nat.le_of_ble_eq_true rfl) dX8_sum_52 rfl (fun M192 h193 => ?_)
              obtain ⟨hM192, h194⟩ := h193
              have bM192 := tkx_b (f := gf) (n := gn) (M := M192) (by omega)
              have qM192 := po_rr (teP gf gn false (suR gf gn 5)) gn (nxF gf gn gq162) (M190.1 78 5).toInt (M190.1 78 6).toInt (psX M190) (M192.1 78 5).toInt (M192.1 78 6).toInt (psX M192) (te_g gf gn (fun _ => suR_g gf gn 5)) (by omega) (by omega)
              refine j_aload_n C 0 0 dX8_sum_55 rfl rfl ?_
              refine j_iload_n C 2 2 dX8_sum_56 rfl rfl ?_
              refine j_callVv C (d := 0) (As := [.int (sI a159)]) (st := []) 78 (s_lt rfl rfl) (s_kc (c := 7) rfl rfl) (by decide) rfl (s1_X8_emit hM192 hpr a159 (by omega) gf gn ((teP gf gn false (suR gf gn 5)) (nxF gf gn gq162)).2.2 (by omega) (by omega)) gX8_sum_X8_emit rfl hdX8_emit (by decide) (Nat.le_of_ble_eq_true rfl) dX8_sum_57 rfl (fun M196 h197 => ?_)
              obtain ⟨hM196, h198⟩ := h197
              have bM196 := tkx_b (f := gf) (n := gn) (M := M196) (by omega)
              have qM196 := po_eq gn ((teP gf gn false (suR gf gn 5)) (nxF gf gn gq162)).2.2 (M192.1 78 5).toInt (psX M192) (M196.1 78 5).toInt (psX M196) (by omega) (by omega) (by omega)
              refine j_aload_n C 0 0 dX8_sum_60 rfl rfl ?_
              refine j_callVi C (d := 0) (As := []) (st := []) 78 (s_lt rfl rfl) (s_kc (c := 7) rfl rfl) (by decide) rfl (s1_X8_token hM196 gf gn ((teP gf gn false (suR gf gn 5)) (nxF gf gn gq162)).2.2 (by omega) (by omega)) gX8_sum_X8_token rfl hdX8_token (by decide) (Nat.le_of_ble_eq_true rfl) dX8_sum_61 rfl (fun r199 M200 h201 => ?_)
              obtain ⟨a203, rfl, rfl, h202⟩ := h201
              refine j_istore_n C 2 [(2, .int (sI a203)), (0, .ref (ad 78)), (1, .int (sI 0)), (3, .int (sI a160))] dX8_sum_64 rfl (by decide) rfl ?_
              refine y_iinc C 3 [(3, .int (sI (a160 + 1))), (2, .int (sI a203)), (0, .ref (ad 78)), (1, .int (sI 0))] dX8_sum_65 rfl (by decide) rfl ?_
              have u204s := ll_s gf gn 2043 2045 (teP gf gn false (suR gf gn 5)) ((teP gf gn false (suR gf gn 5)) gi).2.2 gq162 a160 (M102.1 78 5).toInt (M102.1 78 6).toInt (M161.1 78 5).toInt (M161.1 78 6).toInt (psX M161) (M190.1 78 5).toInt (M190.1 78 6).toInt (M192.1 78 5).toInt (M192.1 78 6).toInt (psX M192) (M196.1 78 5).toInt (M196.1 78 6).toInt (psX M196) (by decide) (te_g gf gn (fun _ => suR_g gf gn 5)) (by omega) (by omega) (by omega) (by omega) (by omega) (by omega) (by omega) (by omega) (by omega)
              refine j_goto C 12 dX8_sum_68 (by decide) ?_
              refine j_lv [2, 3, 1, 0] rfl ?_; exact ih157 a203 (a160 + 1) M196 ((teP gf gn false (suR gf gn 5)) (nxF gf gn gq162)).2.2 (by omega) hM196
  refine j_lv [2, 3, 1, 0] rfl ?_; exact L158 4294967306 a109 0 M102 ((teP gf gn false (suR gf gn 5)) gi).2.2 (by omega) hM102
set_option maxHeartbeats 4000000 in
theorem s1_X8_unit {l : Launch} {dC : Nat → ClassId} {dI : Nat → Nat → Nat} {ad : Nat → Nat} {cA : Nat → ClassId} {pr : Nat → Nat → Bool} {Kz : mm_M} {M0 : mm_M} (hM0 : INV pr Kz M0) (hpr : PX pr) (gf : Nat → Int) (gn : Int) (gi : Int) (hp0 : 1 ≤ (M0.1 78 5).toInt ∧ (M0.1 78 5).toInt ≤ 4) (hp1 : b01 (TKX gf gn M0) = 1) (hp2 : b01 (PO gn gi (M0.1 78 5).toInt (psX M0)) = 1) : Cv l 0 yX8_unit wsX8_unit dC dI ad cA [.ref (ad 78), .int (sI 7)] M0 (fun M' => INV pr Kz M' ∧ ((M'.1 78 5).toInt = (M0.1 78 5).toInt ∧ (M'.1 78 6).toInt = (M0.1 78 6).toInt) ∧ (1 ≤ (M'.1 78 5).toInt ∧ (M'.1 78 5).toInt ≤ 4) ∧ (b01 (TKX gf gn M') = 1)) := by
  refine cv_of (cc := cX8_unit) (maxL := 4) (lv := [(0, .ref (ad 78)), (1, .int (sI 7))]) (by decide) rfl (Nat.le_of_ble_eq_true rfl) rfl ?_
  intro p e s m args below meth c A Q C hret
  refine j_aload_n C 0 0 dX8_unit_0 rfl rfl ?_
  refine y_getI C 7 _ _ fX8_unit_22 rfl rfl ft_7_5 sb_7_5 hM0 dX8_unit_1 (fun a101 ea101 la101 ua101 => ?_)
  refine y_if_eq C 8 dX8_unit_4 (by decide) (by omega) (fun h103 => ?_) (fun h103 => ?_)
  · exfalso; omega
  · exact hret _ _ _ dX8_unit_7 ⟨hM0, by omega⟩
set_option maxHeartbeats 4000000 in
theorem s1_X8_both {l : Launch} {dC : Nat → ClassId} {dI : Nat → Nat → Nat} {ad : Nat → Nat} {cA : Nat → ClassId} {pr : Nat → Nat → Bool} {Kz : mm_M} {M0 : mm_M} (hM0 : INV pr Kz M0) (hpr : PX pr) (gf : Nat → Int) (gn : Int) (gi : Int) (hp0 : 1 ≤ (M0.1 78 5).toInt ∧ (M0.1 78 5).toInt ≤ 4) (hp1 : b01 (TKX gf gn M0) = 1) (hp2 : b01 (PO gn gi (M0.1 78 5).toInt (psX M0)) = 1) : Cv l 1 yX8_both wsX8_both dC dI ad cA [.ref (ad 78), .int (sI 7)] M0 (fun M' => INV pr Kz M' ∧ ((M'.1 78 5).toInt = (M0.1 78 5).toInt ∧ (M'.1 78 6).toInt = (M0.1 78 6).toInt) ∧ (1 ≤ (M'.1 78 5).toInt ∧ (M'.1 78 5).toInt ≤ 4) ∧ (b01 (TKX gf gn M') = 1)) := by
  refine cv_of (cc := cX8_both) (maxL := 3) (lv := [(0, .ref (ad 78)), (1, .int (sI 7))]) (by decide) rfl (Nat.le_of_ble_eq_true rfl) rfl ?_
  intro p e s m args below meth c A Q C hret
  refine j_aload_n C 0 0 dX8_both_0 rfl rfl ?_
  refine j_iload_n C 1 1 dX8_both_1 rfl rfl ?_
  have z101 := (hM0).rd (i := 78) (c := 7) (k := 5) rfl sb_7_5
  refine j_callVv C (d := 0) (As := [.int (sI 7)]) (st := []) 78 (s_lt rfl rfl) (s_kc (c := 7) rfl rfl) (by decide) rfl (s1_X8_unit hM0 hpr gf gn gi (by omega) (by omega) (by omega)) gX8_both_X8_unit rfl hdX8_unit (by decide) (Nat.le_of_ble_eq_true rfl) dX8_both_2 rfl (fun M103 h104 => ?_)
  obtain ⟨hM103, h105⟩ := h104
  have bM103 := tkx_b (f := gf) (n := gn) (M := M103) (by omega)
  have qM103 := po_f gn gi (M103.1 78 5).toInt (psX M103) (by omega)
  refine y_iconst C dX8_both_5 ?_
  refine j_istore_n C 2 [(2, .int (sI 0)), (0, .ref (ad 78)), (1, .int (sI 7))] dX8_both_6 rfl (by decide) rfl ?_
  have L858 : ∀ (n856 : Nat), ∀ (a859 : Int) (M860 : mm_M) (gq861 : Int), (0 ≤ a859 ∧ a859 ≤ 900 ∧ ((M860.1 78 5).toInt = (M103.1 78 5).toInt ∧ (M860.1 78 6).toInt = (M103.1 78 6).toInt) ∧ (b01 (TKX gf gn M860) = 1) ∧ (b01 (PO gn gq861 (M860.1 78 5).toInt (psX M860)) = 1) ∧ (900 - a859) < (n856 : Int)) → INV pr Kz M860 → jj p l e (cn_R 1) s m args below meth c 0 0 Q 3 dC dI ad cA A M860 7 [(0, .ref (ad 78)), (1, .int (sI 7)), (2, .int (sI a859))] [] := by
    intro n856
    induction n856 with
    | zero =>
      intro a859 M860 gq861 h862 hM860
      exfalso; omega
    | succ n856 ih857 =>
      intro a859 M860 gq861 h862 hM860
      refine j_iload_n C 2 2 dX8_both_7 rfl rfl ?_
      refine y_sipush C dX8_both_8 rfl ?_
      refine y_icmp_ge C 59 dX8_both_11 (by decide) (by omega) (fun h863 => ?_) (fun h863 => ?_)
      · exact hret _ _ _ dX8_both_59 ⟨hM860, by omega⟩
      · refine j_aload_n C 0 0 dX8_both_14 rfl rfl ?_
        refine y_getI C 7 _ _ fX8_both_22 rfl rfl ft_7_5 sb_7_5 hM860 dX8_both_15 (fun a864 ea864 la864 ua864 => ?_)
        refine y_if_ne C 59 dX8_both_18 (by decide) (by omega) (fun h866 => ?_) (fun h866 => ?_)
        · exact hret _ _ _ dX8_both_59 ⟨hM860, by omega⟩
        · refine j_aload_n C 0 0 dX8_both_21 rfl rfl ?_
          refine j_callVi C (d := 0) (As := []) (st := []) 78 (s_lt rfl rfl) (s_kc (c := 7) rfl rfl) (by decide) rfl (s1_X8_token hM860 gf gn gq861 (by omega) (by omega)) gX8_both_X8_token rfl hdX8_token (by decide) (Nat.le_of_ble_eq_true rfl) dX8_both_22 rfl (fun r867 M868 h869 => ?_)
          obtain ⟨a871, rfl, rfl, h870⟩ := h869
          refine y_sipush C dX8_both_25 rfl ?_
          refine y_icmp_ne C 59 dX8_both_28 (by decide) (by omega) (fun h872 => ?_) (fun h872 => ?_)
          · exact hret _ _ _ dX8_both_59 ⟨hM860, by omega⟩
          · refine j_aload_n C 0 0 dX8_both_31 rfl rfl ?_
            refine j_dup C dX8_both_32 rfl ?_
            refine y_getI C 7 _ _ fX8_both_18 rfl rfl ft_7_2 sb_7_2 hM860 dX8_both_33 (fun a873 ea873 la873 ua873 => ?_)
            refine y_iconst C dX8_both_36 ?_
            refine y_iadd C dX8_both_37 ?_
            refine y_putI C 7 _ _ qX8_both_18 rfl rfl ft_7_2 sb_7_2 hM860 (PX.w hpr rfl rfl) dX8_both_38 (by omega) (fun M875 eM875 hM875 => ?_)
            have xM875 := tkx_j (f := gf) (n := gn) (gi := gq861) eM875 (by omega) (by omega) (by omega) (by omega)
            refine j_aload_n C 0 0 dX8_both_41 rfl rfl ?_
            refine j_iload_n C 1 1 dX8_both_42 rfl rfl ?_
            have z876 := (hM875).rd (i := 78) (c := 7) (k := 5) rfl sb_7_5
            refine j_callVv C (d := 0) (As := [.int (sI 7)]) (st := []) 78 (s_lt rfl rfl) (s_kc (c := 7) rfl rfl) (by decide) rfl (s1_X8_unit hM875 hpr gf gn (nxF gf gn gq861) (by omega) (by omega) (by omega)) gX8_both_X8_unit rfl hdX8_unit (by decide) (Nat.le_of_ble_eq_true rfl) dX8_both_43 rfl (fun M878 h879 => ?_)
            obtain ⟨hM878, h880⟩ := h879
            have bM878 := tkx_b (f := gf) (n := gn) (M := M878) (by omega)
            have qM878 := po_f gn (nxF gf gn gq861) (M878.1 78 5).toInt (psX M878) (by omega)
            refine j_aload_n C 0 0 dX8_both_46 rfl rfl ?_
            refine y_sipush C dX8_both_47 rfl ?_
            refine j_callVv C (d := 0) (As := [.int (sI 1015)]) (st := []) 78 (s_lt rfl rfl) (s_kc (c := 7) rfl rfl) (by decide) rfl (s1_X8_emit hM878 hpr 1015 (by omega) gf gn (nxF gf gn gq861) (by omega) (by omega)) gX8_both_X8_emit rfl hdX8_emit (by decide) (Nat.le_of_ble_eq_true rfl) dX8_both_50 rfl (fun M882 h883 => ?_)
            obtain ⟨hM882, h884⟩ := h883
            have bM882 := tkx_b (f := gf) (n := gn) (M := M882) (by omega)
            have qM882 := po_eq gn (nxF gf gn gq861) (M878.1 78 5).toInt (psX M878) (M882.1 78 5).toInt (psX M882) (by omega) (by omega) (by omega)
            refine y_iinc C 2 [(2, .int (sI (a859 + 1))), (0, .ref (ad 78)), (1, .int (sI 7))] dX8_both_53 rfl (by decide) rfl ?_
            refine j_goto C 7 dX8_both_56 (by decide) ?_
            refine j_lv [1, 2, 0] rfl ?_; exact ih857 (a859 + 1) M882 (nxF gf gn gq861) (by omega) hM882
  refine j_lv [1, 2, 0] rfl ?_; exact L858 2010 0 M103 gi (by omega) hM103
set_option maxHeartbeats 4000000 in
theorem s1_X8_truth {l : Launch} {dC : Nat → ClassId} {dI : Nat → Nat → Nat} {ad : Nat → Nat} {cA : Nat → ClassId} {pr : Nat → Nat → Bool} {Kz : mm_M} {M0 : mm_M} (hM0 : INV pr Kz M0) (hpr : PX pr) (gf : Nat → Int) (gn : Int) (gi : Int) (hp0 : 1 ≤ (M0.1 78 5).toInt ∧ (M0.1 78 5).toInt ≤ 4) (hp1 : b01 (TKX gf gn M0) = 1) (hp2 : b01 (PO gn gi (M0.1 78 5).toInt (psX M0)) = 1) : Cv l 2 yX8_truth wsX8_truth dC dI ad cA [.ref (ad 78), .int (sI 7)] M0 (fun M' => INV pr Kz M' ∧ ((M'.1 78 5).toInt = (M0.1 78 5).toInt ∧ (M'.1 78 6).toInt = (M0.1 78 6).toInt) ∧ (1 ≤ (M'.1 78 5).toInt ∧ (M'.1 78 5).toInt ≤ 4) ∧ (b01 (TKX gf gn M') = 1)) := by
  refine cv_of (cc := cX8_truth) (maxL := 3) (lv := [(0, .ref (ad 78)), (1, .int (sI 7))]) (by decide) rfl (Nat.le_of_ble_eq_true rfl) rfl ?_
  intro p e s m args below meth c A Q C hret
  refine j_aload_n C 0 0 dX8_truth_0 rfl rfl ?_
  refine j_iload_n C 1 1 dX8_truth_1 rfl rfl ?_
  have z101 := (hM0).rd (i := 78) (c := 7) (k := 5) rfl sb_7_5
  refine j_callVv C (d := 1) (As := [.int (sI 7)]) (st := []) 78 (s_lt rfl rfl) (s_kc (c := 7) rfl rfl) (by decide) rfl (s1_X8_both hM0 hpr gf gn gi (by omega) (by omega) (by omega)) gX8_truth_X8_both rfl hdX8_both (by decide) (Nat.le_of_ble_eq_true rfl) dX8_truth_2 rfl (fun M103 h104 => ?_)
  obtain ⟨hM103, h105⟩ := h104
  have bM103 := tkx_b (f := gf) (n := gn) (M := M103) (by omega)
  have qM103 := po_f gn gi (M103.1 78 5).toInt (psX M103) (by omega)
  refine y_iconst C dX8_truth_5 ?_
  refine j_istore_n C 2 [(2, .int (sI 0)), (0, .ref (ad 78)), (1, .int (sI 7))] dX8_truth_6 rfl (by decide) rfl ?_
  have L858 : ∀ (n856 : Nat), ∀ (a859 : Int) (M860 : mm_M) (gq861 : Int), (0 ≤ a859 ∧ a859 ≤ 900 ∧ ((M860.1 78 5).toInt = (M103.1 78 5).toInt ∧ (M860.1 78 6).toInt = (M103.1 78 6).toInt) ∧ (b01 (TKX gf gn M860) = 1) ∧ (b01 (PO gn gq861 (M860.1 78 5).toInt (psX M860)) = 1) ∧ (900 - a859) < (n856 : Int)) → INV pr Kz M860 → jj p l e (cn_R 2) s m args below meth c 0 0 Q 3 dC dI ad cA A M860 7 [(0, .ref (ad 78)), (1, .int (sI 7)), (2, .int (sI a859))] [] := by
    intro n856
    induction n856 with
    | zero =>
      intro a859 M860 gq861 h862 hM860
      exfalso; omega
    | succ n856 ih857 =>
      intro a859 M860 gq861 h862 hM860
      refine j_iload_n C 2 2 dX8_truth_7 rfl rfl ?_
      refine y_sipush C dX8_truth_8 rfl ?_
      refine y_icmp_ge C 59 dX8_truth_11 (by decide) (by omega) (fun h863 => ?_) (fun h863 => ?_)
      · exact hret _ _ _ dX8_truth_59 ⟨hM860, by omega⟩
      · refine j_aload_n C 0 0 dX8_truth_14 rfl rfl ?_
        refine y_getI C 7 _ _ fX8_truth_22 rfl rfl ft_7_5 sb_7_5 hM860 dX8_truth_15 (fun a864 ea864 la864 ua864 => ?_)
        refine y_if_ne C 59 dX8_truth_18 (by decide) (by omega) (fun h866 => ?_) (fun h866 => ?_)
        · exact hret _ _ _ dX8_truth_59 ⟨hM860, by omega⟩
        · refine j_aload_n C 0 0 dX8_truth_21 rfl rfl ?_
          refine j_callVi C (d := 0) (As := []) (st := []) 78 (s_lt rfl rfl) (s_kc (c := 7) rfl rfl) (by decide) rfl (s1_X8_token hM860 gf gn gq861 (by omega) (by omega)) gX8_truth_X8_token rfl hdX8_token (by decide) (Nat.le_of_ble_eq_true rfl) dX8_truth_22 rfl (fun r867 M868 h869 => ?_)
          obtain ⟨a871, rfl, rfl, h870⟩ := h869
          refine y_sipush C dX8_truth_25 rfl ?_
          refine y_icmp_ne C 59 dX8_truth_28 (by decide) (by omega) (fun h872 => ?_) (fun h872 => ?_)
          · exact hret _ _ _ dX8_truth_59 ⟨hM860, by omega⟩
          · refine j_aload_n C 0 0 dX8_truth_31 rfl rfl ?_
            refine j_dup C dX8_truth_32 rfl ?_
            refine y_getI C 7 _ _ fX8_truth_18 rfl rfl ft_7_2 sb_7_2 hM860 dX8_truth_33 (fun a873 ea873 la873 ua873 => ?_)
            refine y_iconst C dX8_truth_36 ?_
            refine y_iadd C dX8_truth_37 ?_
            refine y_putI C 7 _ _ qX8_truth_18 rfl rfl ft_7_2 sb_7_2 hM860 (PX.w hpr rfl rfl) dX8_truth_38 (by omega) (fun M875 eM875 hM875 => ?_)
            have xM875 := tkx_j (f := gf) (n := gn) (gi := gq861) eM875 (by omega) (by omega) (by omega) (by omega)
            refine j_aload_n C 0 0 dX8_truth_41 rfl rfl ?_
            refine j_iload_n C 1 1 dX8_truth_42 rfl rfl ?_
            have z876 := (hM875).rd (i := 78) (c := 7) (k := 5) rfl sb_7_5
            refine j_callVv C (d := 1) (As := [.int (sI 7)]) (st := []) 78 (s_lt rfl rfl) (s_kc (c := 7) rfl rfl) (by decide) rfl (s1_X8_both hM875 hpr gf gn (nxF gf gn gq861) (by omega) (by omega) (by omega)) gX8_truth_X8_both rfl hdX8_both (by decide) (Nat.le_of_ble_eq_true rfl) dX8_truth_43 rfl (fun M878 h879 => ?_)
            obtain ⟨hM878, h880⟩ := h879
            have bM878 := tkx_b (f := gf) (n := gn) (M := M878) (by omega)
            have qM878 := po_f gn (nxF gf gn gq861) (M878.1 78 5).toInt (psX M878) (by omega)
            refine j_aload_n C 0 0 dX8_truth_46 rfl rfl ?_
            refine y_sipush C dX8_truth_47 rfl ?_
            refine j_callVv C (d := 0) (As := [.int (sI 1014)]) (st := []) 78 (s_lt rfl rfl) (s_kc (c := 7) rfl rfl) (by decide) rfl (s1_X8_emit hM878 hpr 1014 (by omega) gf gn (nxF gf gn gq861) (by omega) (by omega)) gX8_truth_X8_emit rfl hdX8_emit (by decide) (Nat.le_of_ble_eq_true rfl) dX8_truth_50 rfl (fun M882 h883 => ?_)
            obtain ⟨hM882, h884⟩ := h883
            have bM882 := tkx_b (f := gf) (n := gn) (M := M882) (by omega)
            have qM882 := po_eq gn (nxF gf gn gq861) (M878.1 78 5).toInt (psX M878) (M882.1 78 5).toInt (psX M882) (by omega) (by omega) (by omega)
            refine y_iinc C 2 [(2, .int (sI (a859 + 1))), (0, .ref (ad 78)), (1, .int (sI 7))] dX8_truth_53 rfl (by decide) rfl ?_
            refine j_goto C 7 dX8_truth_56 (by decide) ?_
            refine j_lv [1, 2, 0] rfl ?_; exact ih857 (a859 + 1) M882 (nxF gf gn gq861) (by omega) hM882
  refine j_lv [1, 2, 0] rfl ?_; exact L858 2010 0 M103 gi (by omega) hM103
set_option maxHeartbeats 4000000 in
theorem s2_X8_unit {l : Launch} {dC : Nat → ClassId} {dI : Nat → Nat → Nat} {ad : Nat → Nat} {cA : Nat → ClassId} {pr : Nat → Nat → Bool} {Kz : mm_M} {M0 : mm_M} (hM0 : INV pr Kz M0) (hpr : PX pr) (gf : Nat → Int) (gn : Int) (gi : Int) (hp0 : b01 (TKX gf gn M0) = 1) (hp1 : b01 (PO gn gi (M0.1 78 5).toInt (psX M0)) = 1) : Cv l 6 yX8_unit wsX8_unit dC dI ad cA [.ref (ad 78), .int (sI 6)] M0 (fun M' => INV pr Kz M' ∧ (b01 (TKX gf gn M') = 1) ∧ b01 (RR ((unR gf gn 0) gi) (M0.1 78 5).toInt (M0.1 78 6).toInt (M'.1 78 5).toInt (M'.1 78 6).toInt (psX M')) = 1) := by
  refine cv_of (cc := cX8_unit) (maxL := 4) (lv := [(0, .ref (ad 78)), (1, .int (sI 6))]) (by decide) rfl (Nat.le_of_ble_eq_true rfl) rfl ?_
  intro p e s m args below meth c A Q C hret
  refine j_aload_n C 0 0 dX8_unit_0 rfl rfl ?_
  refine y_getI C 7 _ _ fX8_unit_22 rfl rfl ft_7_5 sb_7_5 hM0 dX8_unit_1 (fun a101 ea101 la101 ua101 => ?_)
  refine y_if_eq C 8 dX8_unit_4 (by decide) (by omega) (fun h103 => ?_) (fun h103 => ?_)
  · refine j_aload_n C 0 0 dX8_unit_8 rfl rfl ?_
    refine j_callVi C (d := 0) (As := []) (st := []) 78 (s_lt rfl rfl) (s_kc (c := 7) rfl rfl) (by decide) rfl (s1_X8_token hM0 gf gn gi (by omega) (by omega)) gX8_unit_X8_token rfl hdX8_token (by decide) (Nat.le_of_ble_eq_true rfl) dX8_unit_9 rfl (fun r104 M105 h106 => ?_)
    obtain ⟨a108, rfl, rfl, h107⟩ := h106
    refine j_istore_n C 2 [(2, .int (sI a108)), (0, .ref (ad 78)), (1, .int (sI 6))] dX8_unit_12 rfl (by decide) rfl ?_
    refine j_iload_n C 0 2 dX8_unit_13 rfl rfl ?_
    refine y_sipush C dX8_unit_14 rfl ?_
    refine y_icmp_ne C 42 dX8_unit_17 (by decide) (by omega) (fun h109 => ?_) (fun h109 => ?_)
    · refine j_iload_n C 0 2 dX8_unit_42 rfl rfl ?_
      refine y_sipush C dX8_unit_43 rfl ?_
      refine y_icmp_ne C 71 dX8_unit_46 (by decide) (by omega) (fun h110 => ?_) (fun h110 => ?_)
      · refine j_aload_n C 1 0 dX8_unit_71 rfl rfl ?_
        refine j_iload_n C 2 1 dX8_unit_72 rfl rfl ?_
        refine j_callVv C (d := 5) (As := [.int (sI 6)]) (st := []) 78 (s_lt rfl rfl) (s_kc (c := 7) rfl rfl) (by decide) rfl (s2_X8_sum hM0 hpr gf gn gi (by omega) (by omega)) gX8_unit_X8_sum rfl hdX8_sum (by decide) (Nat.le_of_ble_eq_true rfl) dX8_unit_73 rfl (fun M112 h113 => ?_)
        obtain ⟨hM112, h114⟩ := h113
        have bM112 := tkx_b (f := gf) (n := gn) (M := M112) (by omega)
        have qM112 := po_rr (suR gf gn 0) gn gi (M0.1 78 5).toInt (M0.1 78 6).toInt (psX M0) (M112.1 78 5).toInt (M112.1 78 6).toInt (psX M112) (suR_g gf gn 0) (by omega) (by omega)
        refine j_aload_n C 1 0 dX8_unit_76 rfl rfl ?_
        refine j_callVi C (d := 0) (As := []) (st := []) 78 (s_lt rfl rfl) (s_kc (c := 7) rfl rfl) (by decide) rfl (s1_X8_token hM112 gf gn ((suR gf gn 0) gi).2.2 (by omega) (by omega)) gX8_unit_X8_token rfl hdX8_token (by decide) (Nat.le_of_ble_eq_true rfl) dX8_unit_77 rfl (fun r115 M116 h117 => ?_)
        obtain ⟨a119, rfl, rfl, h118⟩ := h117
        refine j_istore_n C 3 [(3, .int (sI a119)), (2, .int (sI a108)), (0, .ref (ad 78)), (1, .int (sI 6))] dX8_unit_80 rfl (by decide) rfl ?_
        refine j_iload_n C 0 3 dX8_unit_81 rfl rfl ?_
        refine y_sipush C dX8_unit_82 rfl ?_
        refine y_icmp_eq C 102 dX8_unit_85 (by decide) (by omega) (fun h120 => ?_) (fun h120 => ?_)
        · refine j_aload_n C 2 0 dX8_unit_102 rfl rfl ?_
          refine j_dup C dX8_unit_103 rfl ?_
          refine y_getI C 7 _ _ fX8_unit_18 rfl rfl ft_7_2 sb_7_2 hM112 dX8_unit_104 (fun a121 ea121 la121 ua121 => ?_)
          refine y_iconst C dX8_unit_107 ?_
          refine y_iadd C dX8_unit_108 ?_
          refine y_putI C 7 _ _ qX8_unit_18 rfl rfl ft_7_2 sb_7_2 hM112 (PX.w hpr rfl rfl) dX8_unit_109 (by omega) (fun M123 eM123 hM123 => ?_)
          have xM123 := tkx_j (f := gf) (n := gn) (gi := ((suR gf gn 0) gi).2.2) eM123 (by omega) (by omega) (by omega) (by omega)
          refine j_aload_n C 2 0 dX8_unit_112 rfl rfl ?_
          refine j_iload_n C 3 1 dX8_unit_113 rfl rfl ?_
          refine j_callVv C (d := 5) (As := [.int (sI 6)]) (st := []) 78 (s_lt rfl rfl) (s_kc (c := 7) rfl rfl) (by decide) rfl (s2_X8_sum hM123 hpr gf gn (nxF gf gn ((suR gf gn 0) gi).2.2) (by omega) (by omega)) gX8_unit_X8_sum rfl hdX8_sum (by decide) (Nat.le_of_ble_eq_true rfl) dX8_unit_114 rfl (fun M125 h126 => ?_)
          obtain ⟨hM125, h127⟩ := h126
          have bM125 := tkx_b (f := gf) (n := gn) (M := M125) (by omega)
          have qM125 := po_rr (suR gf gn 0) gn (nxF gf gn ((suR gf gn 0) gi).2.2) (M123.1 78 5).toInt (M123.1 78 6).toInt (psX M123) (M125.1 78 5).toInt (M125.1 78 6).toInt (psX M125) (suR_g gf gn 0) (by omega) (by omega)
          refine j_aload_n C 2 0 dX8_unit_117 rfl rfl ?_
          refine j_iload_n C 0 3 dX8_unit_118 rfl rfl ?_
          refine j_callVv C (d := 0) (As := [.int (sI a119)]) (st := []) 78 (s_lt rfl rfl) (s_kc (c := 7) rfl rfl) (by decide) rfl (s1_X8_emit hM125 hpr a119 (by omega) gf gn ((suR gf gn 0) (nxF gf gn ((suR gf gn 0) gi).2.2)).2.2 (by omega) (by omega)) gX8_unit_X8_emit rfl hdX8_emit (by decide) (Nat.le_of_ble_eq_true rfl) dX8_unit_119 rfl (fun M129 h130 => ?_)
          obtain ⟨hM129, h131⟩ := h130
          have bM129 := tkx_b (f := gf) (n := gn) (M := M129) (by omega)
          have qM129 := po_eq gn ((suR gf gn 0) (nxF gf gn ((suR gf gn 0) gi).2.2)).2.2 (M125.1 78 5).toInt (psX M125) (M129.1 78 5).toInt (psX M129) (by omega) (by omega) (by omega)
          refine j_goto C 130 dX8_unit_122 (by decide) ?_
          have u132r := un_4 gf gn 0 gi (M0.1 78 5).toInt (M0.1 78 6).toInt (psX M0) (M112.1 78 5).toInt (M112.1 78 6).toInt (psX M112) (M123.1 78 5).toInt (M123.1 78 6).toInt (M125.1 78 5).toInt (M125.1 78 6).toInt (psX M125) (M129.1 78 5).toInt (M129.1 78 6).toInt (psX M129) (by omega) (by omega) (by omega) (by omega) (by omega) (by omega) (by omega) (by omega) (by omega) (by omega) (by omega)
          exact hret _ _ _ dX8_unit_130 ⟨hM129, by omega⟩
        · refine j_iload_n C 0 3 dX8_unit_88 rfl rfl ?_
          refine y_sipush C dX8_unit_89 rfl ?_
          refine y_icmp_eq C 102 dX8_unit_92 (by decide) (by omega) (fun h133 => ?_) (fun h133 => ?_)
          · refine j_aload_n C 2 0 dX8_unit_102 rfl rfl ?_
            refine j_dup C dX8_unit_103 rfl ?_
            refine y_getI C 7 _ _ fX8_unit_18 rfl rfl ft_7_2 sb_7_2 hM112 dX8_unit_104 (fun a134 ea134 la134 ua134 => ?_)
            refine y_iconst C dX8_unit_107 ?_
            refine y_iadd C dX8_unit_108 ?_
            refine y_putI C 7 _ _ qX8_unit_18 rfl rfl ft_7_2 sb_7_2 hM112 (PX.w hpr rfl rfl) dX8_unit_109 (by omega) (fun M136 eM136 hM136 => ?_)
            have xM136 := tkx_j (f := gf) (n := gn) (gi := ((suR gf gn 0) gi).2.2) eM136 (by omega) (by omega) (by omega) (by omega)
            refine j_aload_n C 2 0 dX8_unit_112 rfl rfl ?_
            refine j_iload_n C 3 1 dX8_unit_113 rfl rfl ?_
            refine j_callVv C (d := 5) (As := [.int (sI 6)]) (st := []) 78 (s_lt rfl rfl) (s_kc (c := 7) rfl rfl) (by decide) rfl (s2_X8_sum hM136 hpr gf gn (nxF gf gn ((suR gf gn 0) gi).2.2) (by omega) (by omega)) gX8_unit_X8_sum rfl hdX8_sum (by decide) (Nat.le_of_ble_eq_true rfl) dX8_unit_114 rfl (fun M138 h139 => ?_)
            obtain ⟨hM138, h140⟩ := h139
            have bM138 := tkx_b (f := gf) (n := gn) (M := M138) (by omega)
            have qM138 := po_rr (suR gf gn 0) gn (nxF gf gn ((suR gf gn 0) gi).2.2) (M136.1 78 5).toInt (M136.1 78 6).toInt (psX M136) (M138.1 78 5).toInt (M138.1 78 6).toInt (psX M138) (suR_g gf gn 0) (by omega) (by omega)
            refine j_aload_n C 2 0 dX8_unit_117 rfl rfl ?_
            refine j_iload_n C 0 3 dX8_unit_118 rfl rfl ?_
            refine j_callVv C (d := 0) (As := [.int (sI a119)]) (st := []) 78 (s_lt rfl rfl) (s_kc (c := 7) rfl rfl) (by decide) rfl (s1_X8_emit hM138 hpr a119 (by omega) gf gn ((suR gf gn 0) (nxF gf gn ((suR gf gn 0) gi).2.2)).2.2 (by omega) (by omega)) gX8_unit_X8_emit rfl hdX8_emit (by decide) (Nat.le_of_ble_eq_true rfl) dX8_unit_119 rfl (fun M142 h143 => ?_)
            obtain ⟨hM142, h144⟩ := h143
            have bM142 := tkx_b (f := gf) (n := gn) (M := M142) (by omega)
            have qM142 := po_eq gn ((suR gf gn 0) (nxF gf gn ((suR gf gn 0) gi).2.2)).2.2 (M138.1 78 5).toInt (psX M138) (M142.1 78 5).toInt (psX M142) (by omega) (by omega) (by omega)
            refine j_goto C 130 dX8_unit_122 (by decide) ?_
            have u145r := un_4 gf gn 0 gi (M0.1 78 5).toInt (M0.1 78 6).toInt (psX M0) (M112.1 78 5).toInt (M112.1 78 6).toInt (psX M112) (M136.1 78 5).toInt (M136.1 78 6).toInt (M138.1 78 5).toInt (M138.1 78 6).toInt (psX M138) (M142.1 78 5).toInt (M142.1 78 6).toInt (psX M142) (by omega) (by omega) (by omega) (by omega) (by omega) (by omega) (by omega) (by omega) (by omega) (by omega) (by omega)
            exact hret _ _ _ dX8_unit_130 ⟨hM142, by omega⟩
          · refine j_iload_n C 0 3 dX8_unit_95 rfl rfl ?_
            refine y_sipush C dX8_unit_96 rfl ?_
            refine y_icmp_ne C 125 dX8_unit_99 (by decide) (by omega) (fun h146 => ?_) (fun h146 => ?_)
            · refine j_aload_n C 2 0 dX8_unit_125 rfl rfl ?_
              refine y_iconst C dX8_unit_126 ?_
              refine j_callVv C (d := 0) (As := [.int (sI 2)]) (st := []) 78 (s_lt rfl rfl) (s_kc (c := 7) rfl rfl) (by decide) rfl (s1_X8_fail hM112 hpr 2 (by omega) gf gn ((suR gf gn 0) gi).2.2 (by omega) (by omega) (by omega)) gX8_unit_X8_fail rfl hdX8_fail (by decide) (Nat.le_of_ble_eq_true rfl) dX8_unit_127 rfl (fun M148 h149 => ?_)
              obtain ⟨hM148, fM148, h150⟩ := h149
              have bM148 := tkx_b (f := gf) (n := gn) (M := M148) (by omega)
              have qM148 := po_f gn ((suR gf gn 0) gi).2.2 (M148.1 78 5).toInt (psX M148) (by omega)
              have u151r := un_5 gf gn 0 gi (M0.1 78 5).toInt (M0.1 78 6).toInt (psX M0) (M112.1 78 5).toInt (M112.1 78 6).toInt (psX M112) (M148.1 78 5).toInt (M148.1 78 6).toInt (psX M148) (by omega) (by omega) (by omega) (by omega) (fun _ => by omega) (by omega)
              exact hret _ _ _ dX8_unit_130 ⟨hM148, by omega⟩
            · refine j_aload_n C 2 0 dX8_unit_102 rfl rfl ?_
              refine j_dup C dX8_unit_103 rfl ?_
              refine y_getI C 7 _ _ fX8_unit_18 rfl rfl ft_7_2 sb_7_2 hM112 dX8_unit_104 (fun a152 ea152 la152 ua152 => ?_)
              refine y_iconst C dX8_unit_107 ?_
              refine y_iadd C dX8_unit_108 ?_
              refine y_putI C 7 _ _ qX8_unit_18 rfl rfl ft_7_2 sb_7_2 hM112 (PX.w hpr rfl rfl) dX8_unit_109 (by omega) (fun M154 eM154 hM154 => ?_)
              have xM154 := tkx_j (f := gf) (n := gn) (gi := ((suR gf gn 0) gi).2.2) eM154 (by omega) (by omega) (by omega) (by omega)
              refine j_aload_n C 2 0 dX8_unit_112 rfl rfl ?_
              refine j_iload_n C 3 1 dX8_unit_113 rfl rfl ?_
              refine j_callVv C (d := 5) (As := [.int (sI 6)]) (st := []) 78 (s_lt rfl rfl) (s_kc (c := 7) rfl rfl) (by decide) rfl (s2_X8_sum hM154 hpr gf gn (nxF gf gn ((suR gf gn 0) gi).2.2) (by omega) (by omega)) gX8_unit_X8_sum rfl hdX8_sum (by decide) (Nat.le_of_ble_eq_true rfl) dX8_unit_114 rfl (fun M156 h157 => ?_)
              obtain ⟨hM156, h158⟩ := h157
              have bM156 := tkx_b (f := gf) (n := gn) (M := M156) (by omega)
              have qM156 := po_rr (suR gf gn 0) gn (nxF gf gn ((suR gf gn 0) gi).2.2) (M154.1 78 5).toInt (M154.1 78 6).toInt (psX M154) (M156.1 78 5).toInt (M156.1 78 6).toInt (psX M156) (suR_g gf gn 0) (by omega) (by omega)
              refine j_aload_n C 2 0 dX8_unit_117 rfl rfl ?_
              refine j_iload_n C 0 3 dX8_unit_118 rfl rfl ?_
              refine j_callVv C (d := 0) (As := [.int (sI a119)]) (st := []) 78 (s_lt rfl rfl) (s_kc (c := 7) rfl rfl) (by decide) rfl (s1_X8_emit hM156 hpr a119 (by omega) gf gn ((suR gf gn 0) (nxF gf gn ((suR gf gn 0) gi).2.2)).2.2 (by omega) (by omega)) gX8_unit_X8_emit rfl hdX8_emit (by decide) (Nat.le_of_ble_eq_true rfl) dX8_unit_119 rfl (fun M160 h161 => ?_)
              obtain ⟨hM160, h162⟩ := h161
              have bM160 := tkx_b (f := gf) (n := gn) (M := M160) (by omega)
              have qM160 := po_eq gn ((suR gf gn 0) (nxF gf gn ((suR gf gn 0) gi).2.2)).2.2 (M156.1 78 5).toInt (psX M156) (M160.1 78 5).toInt (psX M160) (by omega) (by omega) (by omega)
              refine j_goto C 130 dX8_unit_122 (by decide) ?_
              have u163r := un_4 gf gn 0 gi (M0.1 78 5).toInt (M0.1 78 6).toInt (psX M0) (M112.1 78 5).toInt (M112.1 78 6).toInt (psX M112) (M154.1 78 5).toInt (M154.1 78 6).toInt (M156.1 78 5).toInt (M156.1 78 6).toInt (psX M156) (M160.1 78 5).toInt (M160.1 78 6).toInt (psX M160) (by omega) (by omega) (by omega) (by omega) (by omega) (by omega) (by omega) (by omega) (by omega) (by omega) (by omega)
              exact hret _ _ _ dX8_unit_130 ⟨hM160, by omega⟩
      · refine j_aload_n C 1 0 dX8_unit_49 rfl rfl ?_
        refine j_iload_n C 2 1 dX8_unit_50 rfl rfl ?_
        refine j_callVv C (d := 1) (As := [.int (sI 6)]) (st := []) 78 (s_lt rfl rfl) (s_kc (c := 7) rfl rfl) (by decide) rfl (s7_X8_goDeeper hM0 hpr gf gn gi (by omega) (by omega) (by omega) (by omega) (by omega)) gX8_unit_X8_goDeeper rfl hdX8_goDeeper (by decide) (Nat.le_of_ble_eq_true rfl) dX8_unit_51 rfl (fun M165 h166 => ?_)
        obtain ⟨hM165, fM165, h167⟩ := h166
        have bM165 := tkx_b (f := gf) (n := gn) (M := M165) (by omega)
        have qM165 := po_f gn gi (M165.1 78 5).toInt (psX M165) (by omega)
        refine j_aload_n C 1 0 dX8_unit_54 rfl rfl ?_
        refine j_iload_n C 2 1 dX8_unit_55 rfl rfl ?_
        refine y_iconst C dX8_unit_56 ?_
        refine y_iadd C dX8_unit_57 ?_
        have z168 := (hM165).rd (i := 78) (c := 7) (k := 5) rfl sb_7_5
        refine j_callVv C (d := 2) (As := [.int (sI (6 + 1))]) (st := []) 78 (s_lt rfl rfl) (s_kc (c := 7) rfl rfl) (by decide) rfl (s1_X8_truth hM165 hpr gf gn gi (by omega) (by omega) (by omega)) gX8_unit_X8_truth rfl hdX8_truth (by decide) (Nat.le_of_ble_eq_true rfl) dX8_unit_58 rfl (fun M170 h171 => ?_)
        obtain ⟨hM170, h172⟩ := h171
        have bM170 := tkx_b (f := gf) (n := gn) (M := M170) (by omega)
        have qM170 := po_f gn gi (M170.1 78 5).toInt (psX M170) (by omega)
        refine j_aload_n C 1 0 dX8_unit_61 rfl rfl ?_
        refine y_sipush C dX8_unit_62 rfl ?_
        refine j_callVv C (d := 1) (As := [.int (sI 2093)]) (st := []) 78 (s_lt rfl rfl) (s_kc (c := 7) rfl rfl) (by decide) rfl (s1_X8_expect hM170 hpr 2093 (by omega) gf gn gi (by omega) (by omega) (by omega) (by omega)) gX8_unit_X8_expect rfl hdX8_expect (by decide) (Nat.le_of_ble_eq_true rfl) dX8_unit_65 rfl (fun M174 h175 => ?_)
        obtain ⟨hM174, fM174, h176⟩ := h175
        have bM174 := tkx_b (f := gf) (n := gn) (M := M174) (by omega)
        have qM174 := po_rr (exP gf gn 2093) gn gi (M170.1 78 5).toInt (M170.1 78 6).toInt (psX M170) (M174.1 78 5).toInt (M174.1 78 6).toInt (psX M174) (ex_g gf gn 2093 (by omega)) (by omega) (by omega)
        refine j_goto C 130 dX8_unit_68 (by decide) ?_
        have u177k := rr_k (exP gf gn 2093 gi) (M170.1 78 5).toInt (M170.1 78 6).toInt (M174.1 78 5).toInt (M174.1 78 6).toInt (psX M174) (by omega) (by omega)
        have u177r := un_3 gf gn gi (M0.1 78 5).toInt (M0.1 78 6).toInt (psX M0) (M174.1 78 5).toInt (M174.1 78 6).toInt (psX M174) (by omega) (by omega) (by omega) (by omega) (by omega)
        exact hret _ _ _ dX8_unit_130 ⟨hM174, by omega⟩
    · refine j_aload_n C 1 0 dX8_unit_20 rfl rfl ?_
      refine j_iload_n C 2 1 dX8_unit_21 rfl rfl ?_
      refine j_callVv C (d := 1) (As := [.int (sI 6)]) (st := []) 78 (s_lt rfl rfl) (s_kc (c := 7) rfl rfl) (by decide) rfl (s7_X8_goDeeper hM0 hpr gf gn gi (by omega) (by omega) (by omega) (by omega) (by omega)) gX8_unit_X8_goDeeper rfl hdX8_goDeeper (by decide) (Nat.le_of_ble_eq_true rfl) dX8_unit_22 rfl (fun M179 h180 => ?_)
      obtain ⟨hM179, fM179, h181⟩ := h180
      have bM179 := tkx_b (f := gf) (n := gn) (M := M179) (by omega)
      have qM179 := po_f gn gi (M179.1 78 5).toInt (psX M179) (by omega)
      refine j_aload_n C 1 0 dX8_unit_25 rfl rfl ?_
      refine j_iload_n C 2 1 dX8_unit_26 rfl rfl ?_
      refine y_iconst C dX8_unit_27 ?_
      refine y_iadd C dX8_unit_28 ?_
      have z182 := (hM179).rd (i := 78) (c := 7) (k := 5) rfl sb_7_5
      refine j_callVv C (d := 0) (As := [.int (sI (6 + 1))]) (st := []) 78 (s_lt rfl rfl) (s_kc (c := 7) rfl rfl) (by decide) rfl (s1_X8_unit hM179 hpr gf gn gi (by omega) (by omega) (by omega)) gX8_unit_X8_unit rfl hdX8_unit (by decide) (Nat.le_of_ble_eq_true rfl) dX8_unit_29 rfl (fun M184 h185 => ?_)
      obtain ⟨hM184, h186⟩ := h185
      have bM184 := tkx_b (f := gf) (n := gn) (M := M184) (by omega)
      have qM184 := po_f gn gi (M184.1 78 5).toInt (psX M184) (by omega)
      refine j_aload_n C 1 0 dX8_unit_32 rfl rfl ?_
      refine y_sipush C dX8_unit_33 rfl ?_
      refine j_callVv C (d := 0) (As := [.int (sI 1016)]) (st := []) 78 (s_lt rfl rfl) (s_kc (c := 7) rfl rfl) (by decide) rfl (s1_X8_emit hM184 hpr 1016 (by omega) gf gn gi (by omega) (by omega)) gX8_unit_X8_emit rfl hdX8_emit (by decide) (Nat.le_of_ble_eq_true rfl) dX8_unit_36 rfl (fun M188 h189 => ?_)
      obtain ⟨hM188, h190⟩ := h189
      have bM188 := tkx_b (f := gf) (n := gn) (M := M188) (by omega)
      have qM188 := po_eq gn gi (M184.1 78 5).toInt (psX M184) (M188.1 78 5).toInt (psX M188) (by omega) (by omega) (by omega)
      refine j_goto C 130 dX8_unit_39 (by decide) ?_
      have u191r := un_3 gf gn gi (M0.1 78 5).toInt (M0.1 78 6).toInt (psX M0) (M188.1 78 5).toInt (M188.1 78 6).toInt (psX M188) (by omega) (by omega) (by omega) (by omega) (by omega)
      exact hret _ _ _ dX8_unit_130 ⟨hM188, by omega⟩
  · have u192r := rr_no ((unR gf gn 0) gi) (M0.1 78 5).toInt (M0.1 78 6).toInt (M0.1 78 5).toInt (M0.1 78 6).toInt (psX M0) (by omega) rfl rfl
    exact hret _ _ _ dX8_unit_7 ⟨hM0, by omega⟩
set_option maxHeartbeats 4000000 in
theorem s2_X8_both {l : Launch} {dC : Nat → ClassId} {dI : Nat → Nat → Nat} {ad : Nat → Nat} {cA : Nat → ClassId} {pr : Nat → Nat → Bool} {Kz : mm_M} {M0 : mm_M} (hM0 : INV pr Kz M0) (hpr : PX pr) (gf : Nat → Int) (gn : Int) (gi : Int) (hp0 : b01 (TKX gf gn M0) = 1) (hp1 : b01 (PO gn gi (M0.1 78 5).toInt (psX M0)) = 1) : Cv l 7 yX8_both wsX8_both dC dI ad cA [.ref (ad 78), .int (sI 6)] M0 (fun M' => INV pr Kz M' ∧ (b01 (TKX gf gn M') = 1) ∧ b01 (RR ((boP gf gn (unR gf gn 0)) gi) (M0.1 78 5).toInt (M0.1 78 6).toInt (M'.1 78 5).toInt (M'.1 78 6).toInt (psX M')) = 1) := by
  refine cv_of (cc := cX8_both) (maxL := 3) (lv := [(0, .ref (ad 78)), (1, .int (sI 6))]) (by decide) rfl (Nat.le_of_ble_eq_true rfl) rfl ?_
  intro p e s m args below meth c A Q C hret
  refine j_aload_n C 0 0 dX8_both_0 rfl rfl ?_
  refine j_iload_n C 1 1 dX8_both_1 rfl rfl ?_
  refine j_callVv C (d := 6) (As := [.int (sI 6)]) (st := []) 78 (s_lt rfl rfl) (s_kc (c := 7) rfl rfl) (by decide) rfl (s2_X8_unit hM0 hpr gf gn gi (by omega) (by omega)) gX8_both_X8_unit rfl hdX8_unit (by decide) (Nat.le_of_ble_eq_true rfl) dX8_both_2 rfl (fun M102 h103 => ?_)
  obtain ⟨hM102, h104⟩ := h103
  have bM102 := tkx_b (f := gf) (n := gn) (M := M102) (by omega)
  have qM102 := po_rr (unR gf gn 0) gn gi (M0.1 78 5).toInt (M0.1 78 6).toInt (psX M0) (M102.1 78 5).toInt (M102.1 78 6).toInt (psX M102) (unR_g gf gn 0) (by omega) (by omega)
  refine y_iconst C dX8_both_5 ?_
  have u105l := ll_0 (luP gf gn 1015 1015 (unR gf gn 0)) gn ((unR gf gn 0) gi).2.2 (M102.1 78 5).toInt (M102.1 78 6).toInt (psX M102) (by omega)
  refine j_istore_n C 2 [(2, .int (sI 0)), (0, .ref (ad 78)), (1, .int (sI 6))] dX8_both_6 rfl (by decide) rfl ?_
  have L134 : ∀ (n132 : Nat), ∀ (a135 : Int) (M136 : mm_M) (gq137 : Int), (0 ≤ a135 ∧ a135 ≤ 900 ∧ (b01 (LL (luP gf gn 1015 1015 (unR gf gn 0)) gn ((unR gf gn 0) gi).2.2 gq137 a135 (M102.1 78 5).toInt (M102.1 78 6).toInt (M136.1 78 5).toInt (M136.1 78 6).toInt (psX M136)) = 1) ∧ (b01 (TKX gf gn M136) = 1) ∧ (b01 (PO gn gq137 (M136.1 78 5).toInt (psX M136)) = 1) ∧ (900 - a135) < (n132 : Int)) → INV pr Kz M136 → jj p l e (cn_R 7) s m args below meth c 0 0 Q 3 dC dI ad cA A M136 7 [(0, .ref (ad 78)), (1, .int (sI 6)), (2, .int (sI a135))] [] := by
    intro n132
    induction n132 with
    | zero =>
      intro a135 M136 gq137 h138 hM136
      exfalso; omega
    | succ n132 ih133 =>
      intro a135 M136 gq137 h138 hM136
      have u139b := tkx_b (f := gf) (n := gn) (M := M136) (by omega)
      refine j_iload_n C 2 2 dX8_both_7 rfl rfl ?_
      refine y_sipush C dX8_both_8 rfl ?_
      refine y_icmp_ge C 59 dX8_both_11 (by decide) (by omega) (fun h140 => ?_) (fun h140 => ?_)
      · have u162e := ll_e gf gn 1015 1015 (unR gf gn 0) ((unR gf gn 0) gi).2.2 gq137 a135 (M102.1 78 5).toInt (M102.1 78 6).toInt (M136.1 78 5).toInt (M136.1 78 6).toInt (psX M136) (by decide) (unR_g gf gn 0) (by omega) (by omega)
        have u162r : b01 (RR ((boP gf gn (unR gf gn 0)) gi) (M0.1 78 5).toInt (M0.1 78 6).toInt (M136.1 78 5).toInt (M136.1 78 6).toInt (psX M136)) = 1 := rr_sq ((unR gf gn 0) gi) (luP gf gn 1015 1015 (unR gf gn 0)) (M0.1 78 5).toInt (M0.1 78 6).toInt (M102.1 78 5).toInt (M102.1 78 6).toInt (psX M102) (M136.1 78 5).toInt (M136.1 78 6).toInt (psX M136) (by omega) (by omega)
        exact hret _ _ _ dX8_both_59 ⟨hM136, by omega⟩
      · refine j_aload_n C 0 0 dX8_both_14 rfl rfl ?_
        refine y_getI C 7 _ _ fX8_both_22 rfl rfl ft_7_5 sb_7_5 hM136 dX8_both_15 (fun a141 ea141 la141 ua141 => ?_)
        refine y_if_ne C 59 dX8_both_18 (by decide) (by omega) (fun h143 => ?_) (fun h143 => ?_)
        · have u163e := ll_e gf gn 1015 1015 (unR gf gn 0) ((unR gf gn 0) gi).2.2 gq137 a135 (M102.1 78 5).toInt (M102.1 78 6).toInt (M136.1 78 5).toInt (M136.1 78 6).toInt (psX M136) (by decide) (unR_g gf gn 0) (by omega) (by omega)
          have u163r : b01 (RR ((boP gf gn (unR gf gn 0)) gi) (M0.1 78 5).toInt (M0.1 78 6).toInt (M136.1 78 5).toInt (M136.1 78 6).toInt (psX M136)) = 1 := rr_sq ((unR gf gn 0) gi) (luP gf gn 1015 1015 (unR gf gn 0)) (M0.1 78 5).toInt (M0.1 78 6).toInt (M102.1 78 5).toInt (M102.1 78 6).toInt (psX M102) (M136.1 78 5).toInt (M136.1 78 6).toInt (psX M136) (by omega) (by omega)
          exact hret _ _ _ dX8_both_59 ⟨hM136, by omega⟩
        · refine j_aload_n C 0 0 dX8_both_21 rfl rfl ?_
          refine j_callVi C (d := 0) (As := []) (st := []) 78 (s_lt rfl rfl) (s_kc (c := 7) rfl rfl) (by decide) rfl (s1_X8_token hM136 gf gn gq137 (by omega) (by omega)) gX8_both_X8_token rfl hdX8_token (by decide) (Nat.le_of_ble_eq_true rfl) dX8_both_22 rfl (fun r144 M145 h146 => ?_)
          obtain ⟨a148, rfl, rfl, h147⟩ := h146
          refine y_sipush C dX8_both_25 rfl ?_
          refine y_icmp_ne C 59 dX8_both_28 (by decide) (by omega) (fun h149 => ?_) (fun h149 => ?_)
          · have u164e := ll_e gf gn 1015 1015 (unR gf gn 0) ((unR gf gn 0) gi).2.2 gq137 a135 (M102.1 78 5).toInt (M102.1 78 6).toInt (M136.1 78 5).toInt (M136.1 78 6).toInt (psX M136) (by decide) (unR_g gf gn 0) (by omega) (by omega)
            have u164r : b01 (RR ((boP gf gn (unR gf gn 0)) gi) (M0.1 78 5).toInt (M0.1 78 6).toInt (M136.1 78 5).toInt (M136.1 78 6).toInt (psX M136)) = 1 := rr_sq ((unR gf gn 0) gi) (luP gf gn 1015 1015 (unR gf gn 0)) (M0.1 78 5).toInt (M0.1 78 6).toInt (M102.1 78 5).toInt (M102.1 78 6).toInt (psX M102) (M136.1 78 5).toInt (M136.1 78 6).toInt (psX M136) (by omega) (by omega)
            exact hret _ _ _ dX8_both_59 ⟨hM136, by omega⟩
          · refine j_aload_n C 0 0 dX8_both_31 rfl rfl ?_
            refine j_dup C dX8_both_32 rfl ?_
            refine y_getI C 7 _ _ fX8_both_18 rfl rfl ft_7_2 sb_7_2 hM136 dX8_both_33 (fun a150 ea150 la150 ua150 => ?_)
            refine y_iconst C dX8_both_36 ?_
            refine y_iadd C dX8_both_37 ?_
            refine y_putI C 7 _ _ qX8_both_18 rfl rfl ft_7_2 sb_7_2 hM136 (PX.w hpr rfl rfl) dX8_both_38 (by omega) (fun M152 eM152 hM152 => ?_)
            have xM152 := tkx_j (f := gf) (n := gn) (gi := gq137) eM152 (by omega) (by omega) (by omega) (by omega)
            refine j_aload_n C 0 0 dX8_both_41 rfl rfl ?_
            refine j_iload_n C 1 1 dX8_both_42 rfl rfl ?_
            refine j_callVv C (d := 6) (As := [.int (sI 6)]) (st := []) 78 (s_lt rfl rfl) (s_kc (c := 7) rfl rfl) (by decide) rfl (s2_X8_unit hM152 hpr gf gn (nxF gf gn gq137) (by omega) (by omega)) gX8_both_X8_unit rfl hdX8_unit (by decide) (Nat.le_of_ble_eq_true rfl) dX8_both_43 rfl (fun M154 h155 => ?_)
            obtain ⟨hM154, h156⟩ := h155
            have bM154 := tkx_b (f := gf) (n := gn) (M := M154) (by omega)
            have qM154 := po_rr (unR gf gn 0) gn (nxF gf gn gq137) (M152.1 78 5).toInt (M152.1 78 6).toInt (psX M152) (M154.1 78 5).toInt (M154.1 78 6).toInt (psX M154) (unR_g gf gn 0) (by omega) (by omega)
            refine j_aload_n C 0 0 dX8_both_46 rfl rfl ?_
            refine y_sipush C dX8_both_47 rfl ?_
            refine j_callVv C (d := 0) (As := [.int (sI 1015)]) (st := []) 78 (s_lt rfl rfl) (s_kc (c := 7) rfl rfl) (by decide) rfl (s1_X8_emit hM154 hpr 1015 (by omega) gf gn ((unR gf gn 0) (nxF gf gn gq137)).2.2 (by omega) (by omega)) gX8_both_X8_emit rfl hdX8_emit (by decide) (Nat.le_of_ble_eq_true rfl) dX8_both_50 rfl (fun M158 h159 => ?_)
            obtain ⟨hM158, h160⟩ := h159
            have bM158 := tkx_b (f := gf) (n := gn) (M := M158) (by omega)
            have qM158 := po_eq gn ((unR gf gn 0) (nxF gf gn gq137)).2.2 (M154.1 78 5).toInt (psX M154) (M158.1 78 5).toInt (psX M158) (by omega) (by omega) (by omega)
            refine y_iinc C 2 [(2, .int (sI (a135 + 1))), (0, .ref (ad 78)), (1, .int (sI 6))] dX8_both_53 rfl (by decide) rfl ?_
            have u161s := ll_s gf gn 1015 1015 (unR gf gn 0) ((unR gf gn 0) gi).2.2 gq137 a135 (M102.1 78 5).toInt (M102.1 78 6).toInt (M136.1 78 5).toInt (M136.1 78 6).toInt (psX M136) (M152.1 78 5).toInt (M152.1 78 6).toInt (M154.1 78 5).toInt (M154.1 78 6).toInt (psX M154) (M158.1 78 5).toInt (M158.1 78 6).toInt (psX M158) (by decide) (unR_g gf gn 0) (by omega) (by omega) (by omega) (by omega) (by omega) (by omega) (by omega) (by omega) (by omega)
            refine j_goto C 7 dX8_both_56 (by decide) ?_
            refine j_lv [1, 2, 0] rfl ?_; exact ih133 (a135 + 1) M158 ((unR gf gn 0) (nxF gf gn gq137)).2.2 (by omega) hM158
  refine j_lv [1, 2, 0] rfl ?_; exact L134 2010 0 M102 ((unR gf gn 0) gi).2.2 (by omega) hM102
set_option maxHeartbeats 4000000 in
theorem s2_X8_truth {l : Launch} {dC : Nat → ClassId} {dI : Nat → Nat → Nat} {ad : Nat → Nat} {cA : Nat → ClassId} {pr : Nat → Nat → Bool} {Kz : mm_M} {M0 : mm_M} (hM0 : INV pr Kz M0) (hpr : PX pr) (gf : Nat → Int) (gn : Int) (gi : Int) (hp0 : b01 (TKX gf gn M0) = 1) (hp1 : b01 (PO gn gi (M0.1 78 5).toInt (psX M0)) = 1) : Cv l 8 yX8_truth wsX8_truth dC dI ad cA [.ref (ad 78), .int (sI 6)] M0 (fun M' => INV pr Kz M' ∧ (b01 (TKX gf gn M') = 1) ∧ b01 (RR ((trP gf gn (unR gf gn 0)) gi) (M0.1 78 5).toInt (M0.1 78 6).toInt (M'.1 78 5).toInt (M'.1 78 6).toInt (psX M')) = 1) := by
  refine cv_of (cc := cX8_truth) (maxL := 3) (lv := [(0, .ref (ad 78)), (1, .int (sI 6))]) (by decide) rfl (Nat.le_of_ble_eq_true rfl) rfl ?_
  intro p e s m args below meth c A Q C hret
  refine j_aload_n C 0 0 dX8_truth_0 rfl rfl ?_
  refine j_iload_n C 1 1 dX8_truth_1 rfl rfl ?_
  refine j_callVv C (d := 7) (As := [.int (sI 6)]) (st := []) 78 (s_lt rfl rfl) (s_kc (c := 7) rfl rfl) (by decide) rfl (s2_X8_both hM0 hpr gf gn gi (by omega) (by omega)) gX8_truth_X8_both rfl hdX8_both (by decide) (Nat.le_of_ble_eq_true rfl) dX8_truth_2 rfl (fun M102 h103 => ?_)
  obtain ⟨hM102, h104⟩ := h103
  have bM102 := tkx_b (f := gf) (n := gn) (M := M102) (by omega)
  have qM102 := po_rr (boP gf gn (unR gf gn 0)) gn gi (M0.1 78 5).toInt (M0.1 78 6).toInt (psX M0) (M102.1 78 5).toInt (M102.1 78 6).toInt (psX M102) (bo_g gf gn (unR_g gf gn 0)) (by omega) (by omega)
  refine y_iconst C dX8_truth_5 ?_
  have u105l := ll_0 (luP gf gn 1014 1014 (boP gf gn (unR gf gn 0))) gn ((boP gf gn (unR gf gn 0)) gi).2.2 (M102.1 78 5).toInt (M102.1 78 6).toInt (psX M102) (by omega)
  refine j_istore_n C 2 [(2, .int (sI 0)), (0, .ref (ad 78)), (1, .int (sI 6))] dX8_truth_6 rfl (by decide) rfl ?_
  have L134 : ∀ (n132 : Nat), ∀ (a135 : Int) (M136 : mm_M) (gq137 : Int), (0 ≤ a135 ∧ a135 ≤ 900 ∧ (b01 (LL (luP gf gn 1014 1014 (boP gf gn (unR gf gn 0))) gn ((boP gf gn (unR gf gn 0)) gi).2.2 gq137 a135 (M102.1 78 5).toInt (M102.1 78 6).toInt (M136.1 78 5).toInt (M136.1 78 6).toInt (psX M136)) = 1) ∧ (b01 (TKX gf gn M136) = 1) ∧ (b01 (PO gn gq137 (M136.1 78 5).toInt (psX M136)) = 1) ∧ (900 - a135) < (n132 : Int)) → INV pr Kz M136 → jj p l e (cn_R 8) s m args below meth c 0 0 Q 3 dC dI ad cA A M136 7 [(0, .ref (ad 78)), (1, .int (sI 6)), (2, .int (sI a135))] [] := by
    intro n132
    induction n132 with
    | zero =>
      intro a135 M136 gq137 h138 hM136
      exfalso; omega
    | succ n132 ih133 =>
      intro a135 M136 gq137 h138 hM136
      have u139b := tkx_b (f := gf) (n := gn) (M := M136) (by omega)
      refine j_iload_n C 2 2 dX8_truth_7 rfl rfl ?_
      refine y_sipush C dX8_truth_8 rfl ?_
      refine y_icmp_ge C 59 dX8_truth_11 (by decide) (by omega) (fun h140 => ?_) (fun h140 => ?_)
      · have u162e := ll_e gf gn 1014 1014 (boP gf gn (unR gf gn 0)) ((boP gf gn (unR gf gn 0)) gi).2.2 gq137 a135 (M102.1 78 5).toInt (M102.1 78 6).toInt (M136.1 78 5).toInt (M136.1 78 6).toInt (psX M136) (by decide) (bo_g gf gn (unR_g gf gn 0)) (by omega) (by omega)
        have u162r : b01 (RR ((trP gf gn (unR gf gn 0)) gi) (M0.1 78 5).toInt (M0.1 78 6).toInt (M136.1 78 5).toInt (M136.1 78 6).toInt (psX M136)) = 1 := rr_sq ((boP gf gn (unR gf gn 0)) gi) (luP gf gn 1014 1014 (boP gf gn (unR gf gn 0))) (M0.1 78 5).toInt (M0.1 78 6).toInt (M102.1 78 5).toInt (M102.1 78 6).toInt (psX M102) (M136.1 78 5).toInt (M136.1 78 6).toInt (psX M136) (by omega) (by omega)
        exact hret _ _ _ dX8_truth_59 ⟨hM136, by omega⟩
      · refine j_aload_n C 0 0 dX8_truth_14 rfl rfl ?_
        refine y_getI C 7 _ _ fX8_truth_22 rfl rfl ft_7_5 sb_7_5 hM136 dX8_truth_15 (fun a141 ea141 la141 ua141 => ?_)
        refine y_if_ne C 59 dX8_truth_18 (by decide) (by omega) (fun h143 => ?_) (fun h143 => ?_)
        · have u163e := ll_e gf gn 1014 1014 (boP gf gn (unR gf gn 0)) ((boP gf gn (unR gf gn 0)) gi).2.2 gq137 a135 (M102.1 78 5).toInt (M102.1 78 6).toInt (M136.1 78 5).toInt (M136.1 78 6).toInt (psX M136) (by decide) (bo_g gf gn (unR_g gf gn 0)) (by omega) (by omega)
          have u163r : b01 (RR ((trP gf gn (unR gf gn 0)) gi) (M0.1 78 5).toInt (M0.1 78 6).toInt (M136.1 78 5).toInt (M136.1 78 6).toInt (psX M136)) = 1 := rr_sq ((boP gf gn (unR gf gn 0)) gi) (luP gf gn 1014 1014 (boP gf gn (unR gf gn 0))) (M0.1 78 5).toInt (M0.1 78 6).toInt (M102.1 78 5).toInt (M102.1 78 6).toInt (psX M102) (M136.1 78 5).toInt (M136.1 78 6).toInt (psX M136) (by omega) (by omega)
          exact hret _ _ _ dX8_truth_59 ⟨hM136, by omega⟩
        · refine j_aload_n C 0 0 dX8_truth_21 rfl rfl ?_
          refine j_callVi C (d := 0) (As := []) (st := []) 78 (s_lt rfl rfl) (s_kc (c := 7) rfl rfl) (by decide) rfl (s1_X8_token hM136 gf gn gq137 (by omega) (by omega)) gX8_truth_X8_token rfl hdX8_token (by decide) (Nat.le_of_ble_eq_true rfl) dX8_truth_22 rfl (fun r144 M145 h146 => ?_)
          obtain ⟨a148, rfl, rfl, h147⟩ := h146
          refine y_sipush C dX8_truth_25 rfl ?_
          refine y_icmp_ne C 59 dX8_truth_28 (by decide) (by omega) (fun h149 => ?_) (fun h149 => ?_)
          · have u164e := ll_e gf gn 1014 1014 (boP gf gn (unR gf gn 0)) ((boP gf gn (unR gf gn 0)) gi).2.2 gq137 a135 (M102.1 78 5).toInt (M102.1 78 6).toInt (M136.1 78 5).toInt (M136.1 78 6).toInt (psX M136) (by decide) (bo_g gf gn (unR_g gf gn 0)) (by omega) (by omega)
            have u164r : b01 (RR ((trP gf gn (unR gf gn 0)) gi) (M0.1 78 5).toInt (M0.1 78 6).toInt (M136.1 78 5).toInt (M136.1 78 6).toInt (psX M136)) = 1 := rr_sq ((boP gf gn (unR gf gn 0)) gi) (luP gf gn 1014 1014 (boP gf gn (unR gf gn 0))) (M0.1 78 5).toInt (M0.1 78 6).toInt (M102.1 78 5).toInt (M102.1 78 6).toInt (psX M102) (M136.1 78 5).toInt (M136.1 78 6).toInt (psX M136) (by omega) (by omega)
            exact hret _ _ _ dX8_truth_59 ⟨hM136, by omega⟩
          · refine j_aload_n C 0 0 dX8_truth_31 rfl rfl ?_
            refine j_dup C dX8_truth_32 rfl ?_
            refine y_getI C 7 _ _ fX8_truth_18 rfl rfl ft_7_2 sb_7_2 hM136 dX8_truth_33 (fun a150 ea150 la150 ua150 => ?_)
            refine y_iconst C dX8_truth_36 ?_
            refine y_iadd C dX8_truth_37 ?_
            refine y_putI C 7 _ _ qX8_truth_18 rfl rfl ft_7_2 sb_7_2 hM136 (PX.w hpr rfl rfl) dX8_truth_38 (by omega) (fun M152 eM152 hM152 => ?_)
            have xM152 := tkx_j (f := gf) (n := gn) (gi := gq137) eM152 (by omega) (by omega) (by omega) (by omega)
            refine j_aload_n C 0 0 dX8_truth_41 rfl rfl ?_
            refine j_iload_n C 1 1 dX8_truth_42 rfl rfl ?_
            refine j_callVv C (d := 7) (As := [.int (sI 6)]) (st := []) 78 (s_lt rfl rfl) (s_kc (c := 7) rfl rfl) (by decide) rfl (s2_X8_both hM152 hpr gf gn (nxF gf gn gq137) (by omega) (by omega)) gX8_truth_X8_both rfl hdX8_both (by decide) (Nat.le_of_ble_eq_true rfl) dX8_truth_43 rfl (fun M154 h155 => ?_)
            obtain ⟨hM154, h156⟩ := h155
            have bM154 := tkx_b (f := gf) (n := gn) (M := M154) (by omega)
            have qM154 := po_rr (boP gf gn (unR gf gn 0)) gn (nxF gf gn gq137) (M152.1 78 5).toInt (M152.1 78 6).toInt (psX M152) (M154.1 78 5).toInt (M154.1 78 6).toInt (psX M154) (bo_g gf gn (unR_g gf gn 0)) (by omega) (by omega)
            refine j_aload_n C 0 0 dX8_truth_46 rfl rfl ?_
            refine y_sipush C dX8_truth_47 rfl ?_
            refine j_callVv C (d := 0) (As := [.int (sI 1014)]) (st := []) 78 (s_lt rfl rfl) (s_kc (c := 7) rfl rfl) (by decide) rfl (s1_X8_emit hM154 hpr 1014 (by omega) gf gn ((boP gf gn (unR gf gn 0)) (nxF gf gn gq137)).2.2 (by omega) (by omega)) gX8_truth_X8_emit rfl hdX8_emit (by decide) (Nat.le_of_ble_eq_true rfl) dX8_truth_50 rfl (fun M158 h159 => ?_)
            obtain ⟨hM158, h160⟩ := h159
            have bM158 := tkx_b (f := gf) (n := gn) (M := M158) (by omega)
            have qM158 := po_eq gn ((boP gf gn (unR gf gn 0)) (nxF gf gn gq137)).2.2 (M154.1 78 5).toInt (psX M154) (M158.1 78 5).toInt (psX M158) (by omega) (by omega) (by omega)
            refine y_iinc C 2 [(2, .int (sI (a135 + 1))), (0, .ref (ad 78)), (1, .int (sI 6))] dX8_truth_53 rfl (by decide) rfl ?_
            have u161s := ll_s gf gn 1014 1014 (boP gf gn (unR gf gn 0)) ((boP gf gn (unR gf gn 0)) gi).2.2 gq137 a135 (M102.1 78 5).toInt (M102.1 78 6).toInt (M136.1 78 5).toInt (M136.1 78 6).toInt (psX M136) (M152.1 78 5).toInt (M152.1 78 6).toInt (M154.1 78 5).toInt (M154.1 78 6).toInt (psX M154) (M158.1 78 5).toInt (M158.1 78 6).toInt (psX M158) (by decide) (bo_g gf gn (unR_g gf gn 0)) (by omega) (by omega) (by omega) (by omega) (by omega) (by omega) (by omega) (by omega) (by omega)
            refine j_goto C 7 dX8_truth_56 (by decide) ?_
            refine j_lv [1, 2, 0] rfl ?_; exact ih133 (a135 + 1) M158 ((boP gf gn (unR gf gn 0)) (nxF gf gn gq137)).2.2 (by omega) hM158
  refine j_lv [1, 2, 0] rfl ?_; exact L134 2010 0 M102 ((boP gf gn (unR gf gn 0)) gi).2.2 (by omega) hM102
set_option maxHeartbeats 4000000 in
theorem s3_X8_unit {l : Launch} {dC : Nat → ClassId} {dI : Nat → Nat → Nat} {ad : Nat → Nat} {cA : Nat → ClassId} {pr : Nat → Nat → Bool} {Kz : mm_M} {M0 : mm_M} (hM0 : INV pr Kz M0) (hpr : PX pr) (gf : Nat → Int) (gn : Int) (gi : Int) (hp0 : b01 (TKX gf gn M0) = 1) (hp1 : b01 (PO gn gi (M0.1 78 5).toInt (psX M0)) = 1) : Cv l 9 yX8_unit wsX8_unit dC dI ad cA [.ref (ad 78), .int (sI 5)] M0 (fun M' => INV pr Kz M' ∧ (b01 (TKX gf gn M') = 1) ∧ b01 (RR ((unR gf gn 1) gi) (M0.1 78 5).toInt (M0.1 78 6).toInt (M'.1 78 5).toInt (M'.1 78 6).toInt (psX M')) = 1) := by
  refine cv_of (cc := cX8_unit) (maxL := 4) (lv := [(0, .ref (ad 78)), (1, .int (sI 5))]) (by decide) rfl (Nat.le_of_ble_eq_true rfl) rfl ?_
  intro p e s m args below meth c A Q C hret
  refine j_aload_n C 0 0 dX8_unit_0 rfl rfl ?_
  refine y_getI C 7 _ _ fX8_unit_22 rfl rfl ft_7_5 sb_7_5 hM0 dX8_unit_1 (fun a101 ea101 la101 ua101 => ?_)
  refine y_if_eq C 8 dX8_unit_4 (by decide) (by omega) (fun h103 => ?_) (fun h103 => ?_)
  · refine j_aload_n C 0 0 dX8_unit_8 rfl rfl ?_
    refine j_callVi C (d := 0) (As := []) (st := []) 78 (s_lt rfl rfl) (s_kc (c := 7) rfl rfl) (by decide) rfl (s1_X8_token hM0 gf gn gi (by omega) (by omega)) gX8_unit_X8_token rfl hdX8_token (by decide) (Nat.le_of_ble_eq_true rfl) dX8_unit_9 rfl (fun r104 M105 h106 => ?_)
    obtain ⟨a108, rfl, rfl, h107⟩ := h106
    refine j_istore_n C 2 [(2, .int (sI a108)), (0, .ref (ad 78)), (1, .int (sI 5))] dX8_unit_12 rfl (by decide) rfl ?_
    refine j_iload_n C 0 2 dX8_unit_13 rfl rfl ?_
    refine y_sipush C dX8_unit_14 rfl ?_
    refine y_icmp_ne C 42 dX8_unit_17 (by decide) (by omega) (fun h109 => ?_) (fun h109 => ?_)
    · refine j_iload_n C 0 2 dX8_unit_42 rfl rfl ?_
      refine y_sipush C dX8_unit_43 rfl ?_
      refine y_icmp_ne C 71 dX8_unit_46 (by decide) (by omega) (fun h110 => ?_) (fun h110 => ?_)
      · refine j_aload_n C 1 0 dX8_unit_71 rfl rfl ?_
        refine j_iload_n C 2 1 dX8_unit_72 rfl rfl ?_
        refine j_callVv C (d := 8) (As := [.int (sI 5)]) (st := []) 78 (s_lt rfl rfl) (s_kc (c := 7) rfl rfl) (by decide) rfl (s3_X8_sum hM0 hpr gf gn gi (by omega) (by omega)) gX8_unit_X8_sum rfl hdX8_sum (by decide) (Nat.le_of_ble_eq_true rfl) dX8_unit_73 rfl (fun M112 h113 => ?_)
        obtain ⟨hM112, h114⟩ := h113
        have bM112 := tkx_b (f := gf) (n := gn) (M := M112) (by omega)
        have qM112 := po_rr (suR gf gn 1) gn gi (M0.1 78 5).toInt (M0.1 78 6).toInt (psX M0) (M112.1 78 5).toInt (M112.1 78 6).toInt (psX M112) (suR_g gf gn 1) (by omega) (by omega)
        refine j_aload_n C 1 0 dX8_unit_76 rfl rfl ?_
        refine j_callVi C (d := 0) (As := []) (st := []) 78 (s_lt rfl rfl) (s_kc (c := 7) rfl rfl) (by decide) rfl (s1_X8_token hM112 gf gn ((suR gf gn 1) gi).2.2 (by omega) (by omega)) gX8_unit_X8_token rfl hdX8_token (by decide) (Nat.le_of_ble_eq_true rfl) dX8_unit_77 rfl (fun r115 M116 h117 => ?_)
        obtain ⟨a119, rfl, rfl, h118⟩ := h117
        refine j_istore_n C 3 [(3, .int (sI a119)), (2, .int (sI a108)), (0, .ref (ad 78)), (1, .int (sI 5))] dX8_unit_80 rfl (by decide) rfl ?_
        refine j_iload_n C 0 3 dX8_unit_81 rfl rfl ?_
        refine y_sipush C dX8_unit_82 rfl ?_
        refine y_icmp_eq C 102 dX8_unit_85 (by decide) (by omega) (fun h120 => ?_) (fun h120 => ?_)
        · refine j_aload_n C 2 0 dX8_unit_102 rfl rfl ?_
          refine j_dup C dX8_unit_103 rfl ?_
          refine y_getI C 7 _ _ fX8_unit_18 rfl rfl ft_7_2 sb_7_2 hM112 dX8_unit_104 (fun a121 ea121 la121 ua121 => ?_)
          refine y_iconst C dX8_unit_107 ?_
          refine y_iadd C dX8_unit_108 ?_
          refine y_putI C 7 _ _ qX8_unit_18 rfl rfl ft_7_2 sb_7_2 hM112 (PX.w hpr rfl rfl) dX8_unit_109 (by omega) (fun M123 eM123 hM123 => ?_)
          have xM123 := tkx_j (f := gf) (n := gn) (gi := ((suR gf gn 1) gi).2.2) eM123 (by omega) (by omega) (by omega) (by omega)
          refine j_aload_n C 2 0 dX8_unit_112 rfl rfl ?_
          refine j_iload_n C 3 1 dX8_unit_113 rfl rfl ?_
          refine j_callVv C (d := 8) (As := [.int (sI 5)]) (st := []) 78 (s_lt rfl rfl) (s_kc (c := 7) rfl rfl) (by decide) rfl (s3_X8_sum hM123 hpr gf gn (nxF gf gn ((suR gf gn 1) gi).2.2) (by omega) (by omega)) gX8_unit_X8_sum rfl hdX8_sum (by decide) (Nat.le_of_ble_eq_true rfl) dX8_unit_114 rfl (fun M125 h126 => ?_)
          obtain ⟨hM125, h127⟩ := h126
          have bM125 := tkx_b (f := gf) (n := gn) (M := M125) (by omega)
          have qM125 := po_rr (suR gf gn 1) gn (nxF gf gn ((suR gf gn 1) gi).2.2) (M123.1 78 5).toInt (M123.1 78 6).toInt (psX M123) (M125.1 78 5).toInt (M125.1 78 6).toInt (psX M125) (suR_g gf gn 1) (by omega) (by omega)
          refine j_aload_n C 2 0 dX8_unit_117 rfl rfl ?_
          refine j_iload_n C 0 3 dX8_unit_118 rfl rfl ?_
          refine j_callVv C (d := 0) (As := [.int (sI a119)]) (st := []) 78 (s_lt rfl rfl) (s_kc (c := 7) rfl rfl) (by decide) rfl (s1_X8_emit hM125 hpr a119 (by omega) gf gn ((suR gf gn 1) (nxF gf gn ((suR gf gn 1) gi).2.2)).2.2 (by omega) (by omega)) gX8_unit_X8_emit rfl hdX8_emit (by decide) (Nat.le_of_ble_eq_true rfl) dX8_unit_119 rfl (fun M129 h130 => ?_)
          obtain ⟨hM129, h131⟩ := h130
          have bM129 := tkx_b (f := gf) (n := gn) (M := M129) (by omega)
          have qM129 := po_eq gn ((suR gf gn 1) (nxF gf gn ((suR gf gn 1) gi).2.2)).2.2 (M125.1 78 5).toInt (psX M125) (M129.1 78 5).toInt (psX M129) (by omega) (by omega) (by omega)
          refine j_goto C 130 dX8_unit_122 (by decide) ?_
          have u132r := un_4 gf gn 1 gi (M0.1 78 5).toInt (M0.1 78 6).toInt (psX M0) (M112.1 78 5).toInt (M112.1 78 6).toInt (psX M112) (M123.1 78 5).toInt (M123.1 78 6).toInt (M125.1 78 5).toInt (M125.1 78 6).toInt (psX M125) (M129.1 78 5).toInt (M129.1 78 6).toInt (psX M129) (by omega) (by omega) (by omega) (by omega) (by omega) (by omega) (by omega) (by omega) (by omega) (by omega) (by omega)
          exact hret _ _ _ dX8_unit_130 ⟨hM129, by omega⟩
        · refine j_iload_n C 0 3 dX8_unit_88 rfl rfl ?_
          refine y_sipush C dX8_unit_89 rfl ?_
          refine y_icmp_eq C 102 dX8_unit_92 (by decide) (by omega) (fun h133 => ?_) (fun h133 => ?_)
          · refine j_aload_n C 2 0 dX8_unit_102 rfl rfl ?_
            refine j_dup C dX8_unit_103 rfl ?_
            refine y_getI C 7 _ _ fX8_unit_18 rfl rfl ft_7_2 sb_7_2 hM112 dX8_unit_104 (fun a134 ea134 la134 ua134 => ?_)
            refine y_iconst C dX8_unit_107 ?_
            refine y_iadd C dX8_unit_108 ?_
            refine y_putI C 7 _ _ qX8_unit_18 rfl rfl ft_7_2 sb_7_2 hM112 (PX.w hpr rfl rfl) dX8_unit_109 (by omega) (fun M136 eM136 hM136 => ?_)
            have xM136 := tkx_j (f := gf) (n := gn) (gi := ((suR gf gn 1) gi).2.2) eM136 (by omega) (by omega) (by omega) (by omega)
            refine j_aload_n C 2 0 dX8_unit_112 rfl rfl ?_
            refine j_iload_n C 3 1 dX8_unit_113 rfl rfl ?_
            refine j_callVv C (d := 8) (As := [.int (sI 5)]) (st := []) 78 (s_lt rfl rfl) (s_kc (c := 7) rfl rfl) (by decide) rfl (s3_X8_sum hM136 hpr gf gn (nxF gf gn ((suR gf gn 1) gi).2.2) (by omega) (by omega)) gX8_unit_X8_sum rfl hdX8_sum (by decide) (Nat.le_of_ble_eq_true rfl) dX8_unit_114 rfl (fun M138 h139 => ?_)
            obtain ⟨hM138, h140⟩ := h139
            have bM138 := tkx_b (f := gf) (n := gn) (M := M138) (by omega)
            have qM138 := po_rr (suR gf gn 1) gn (nxF gf gn ((suR gf gn 1) gi).2.2) (M136.1 78 5).toInt (M136.1 78 6).toInt (psX M136) (M138.1 78 5).toInt (M138.1 78 6).toInt (psX M138) (suR_g gf gn 1) (by omega) (by omega)
            refine j_aload_n C 2 0 dX8_unit_117 rfl rfl ?_
            refine j_iload_n C 0 3 dX8_unit_118 rfl rfl ?_
            refine j_callVv C (d := 0) (As := [.int (sI a119)]) (st := []) 78 (s_lt rfl rfl) (s_kc (c := 7) rfl rfl) (by decide) rfl (s1_X8_emit hM138 hpr a119 (by omega) gf gn ((suR gf gn 1) (nxF gf gn ((suR gf gn 1) gi).2.2)).2.2 (by omega) (by omega)) gX8_unit_X8_emit rfl hdX8_emit (by decide) (Nat.le_of_ble_eq_true rfl) dX8_unit_119 rfl (fun M142 h143 => ?_)
            obtain ⟨hM142, h144⟩ := h143
            have bM142 := tkx_b (f := gf) (n := gn) (M := M142) (by omega)
            have qM142 := po_eq gn ((suR gf gn 1) (nxF gf gn ((suR gf gn 1) gi).2.2)).2.2 (M138.1 78 5).toInt (psX M138) (M142.1 78 5).toInt (psX M142) (by omega) (by omega) (by omega)
            refine j_goto C 130 dX8_unit_122 (by decide) ?_
            have u145r := un_4 gf gn 1 gi (M0.1 78 5).toInt (M0.1 78 6).toInt (psX M0) (M112.1 78 5).toInt (M112.1 78 6).toInt (psX M112) (M136.1 78 5).toInt (M136.1 78 6).toInt (M138.1 78 5).toInt (M138.1 78 6).toInt (psX M138) (M142.1 78 5).toInt (M142.1 78 6).toInt (psX M142) (by omega) (by omega) (by omega) (by omega) (by omega) (by omega) (by omega) (by omega) (by omega) (by omega) (by omega)
            exact hret _ _ _ dX8_unit_130 ⟨hM142, by omega⟩
          · refine j_iload_n C 0 3 dX8_unit_95 rfl rfl ?_
            refine y_sipush C dX8_unit_96 rfl ?_
            refine y_icmp_ne C 125 dX8_unit_99 (by decide) (by omega) (fun h146 => ?_) (fun h146 => ?_)
            · refine j_aload_n C 2 0 dX8_unit_125 rfl rfl ?_
              refine y_iconst C dX8_unit_126 ?_
              refine j_callVv C (d := 0) (As := [.int (sI 2)]) (st := []) 78 (s_lt rfl rfl) (s_kc (c := 7) rfl rfl) (by decide) rfl (s1_X8_fail hM112 hpr 2 (by omega) gf gn ((suR gf gn 1) gi).2.2 (by omega) (by omega) (by omega)) gX8_unit_X8_fail rfl hdX8_fail (by decide) (Nat.le_of_ble_eq_true rfl) dX8_unit_127 rfl (fun M148 h149 => ?_)
              obtain ⟨hM148, fM148, h150⟩ := h149
              have bM148 := tkx_b (f := gf) (n := gn) (M := M148) (by omega)
              have qM148 := po_f gn ((suR gf gn 1) gi).2.2 (M148.1 78 5).toInt (psX M148) (by omega)
              have u151r := un_5 gf gn 1 gi (M0.1 78 5).toInt (M0.1 78 6).toInt (psX M0) (M112.1 78 5).toInt (M112.1 78 6).toInt (psX M112) (M148.1 78 5).toInt (M148.1 78 6).toInt (psX M148) (by omega) (by omega) (by omega) (by omega) (fun _ => by omega) (by omega)
              exact hret _ _ _ dX8_unit_130 ⟨hM148, by omega⟩
            · refine j_aload_n C 2 0 dX8_unit_102 rfl rfl ?_
              refine j_dup C dX8_unit_103 rfl ?_
              refine y_getI C 7 _ _ fX8_unit_18 rfl rfl ft_7_2 sb_7_2 hM112 dX8_unit_104 (fun a152 ea152 la152 ua152 => ?_)
              refine y_iconst C dX8_unit_107 ?_
              refine y_iadd C dX8_unit_108 ?_
              refine y_putI C 7 _ _ qX8_unit_18 rfl rfl ft_7_2 sb_7_2 hM112 (PX.w hpr rfl rfl) dX8_unit_109 (by omega) (fun M154 eM154 hM154 => ?_)
              have xM154 := tkx_j (f := gf) (n := gn) (gi := ((suR gf gn 1) gi).2.2) eM154 (by omega) (by omega) (by omega) (by omega)
              refine j_aload_n C 2 0 dX8_unit_112 rfl rfl ?_
              refine j_iload_n C 3 1 dX8_unit_113 rfl rfl ?_
              refine j_callVv C (d := 8) (As := [.int (sI 5)]) (st := []) 78 (s_lt rfl rfl) (s_kc (c := 7) rfl rfl) (by decide) rfl (s3_X8_sum hM154 hpr gf gn (nxF gf gn ((suR gf gn 1) gi).2.2) (by omega) (by omega)) gX8_unit_X8_sum rfl hdX8_sum (by decide) (Nat.le_of_ble_eq_true rfl) dX8_unit_114 rfl (fun M156 h157 => ?_)
              obtain ⟨hM156, h158⟩ := h157
              have bM156 := tkx_b (f := gf) (n := gn) (M := M156) (by omega)
              have qM156 := po_rr (suR gf gn 1) gn (nxF gf gn ((suR gf gn 1) gi).2.2) (M154.1 78 5).toInt (M154.1 78 6).toInt (psX M154) (M156.1 78 5).toInt (M156.1 78 6).toInt (psX M156) (suR_g gf gn 1) (by omega) (by omega)
              refine j_aload_n C 2 0 dX8_unit_117 rfl rfl ?_
              refine j_iload_n C 0 3 dX8_unit_118 rfl rfl ?_
              refine j_callVv C (d := 0) (As := [.int (sI a119)]) (st := []) 78 (s_lt rfl rfl) (s_kc (c := 7) rfl rfl) (by decide) rfl (s1_X8_emit hM156 hpr a119 (by omega) gf gn ((suR gf gn 1) (nxF gf gn ((suR gf gn 1) gi).2.2)).2.2 (by omega) (by omega)) gX8_unit_X8_emit rfl hdX8_emit (by decide) (Nat.le_of_ble_eq_true rfl) dX8_unit_119 rfl (fun M160 h161 => ?_)
              obtain ⟨hM160, h162⟩ := h161
              have bM160 := tkx_b (f := gf) (n := gn) (M := M160) (by omega)
              have qM160 := po_eq gn ((suR gf gn 1) (nxF gf gn ((suR gf gn 1) gi).2.2)).2.2 (M156.1 78 5).toInt (psX M156) (M160.1 78 5).toInt (psX M160) (by omega) (by omega) (by omega)
              refine j_goto C 130 dX8_unit_122 (by decide) ?_
              have u163r := un_4 gf gn 1 gi (M0.1 78 5).toInt (M0.1 78 6).toInt (psX M0) (M112.1 78 5).toInt (M112.1 78 6).toInt (psX M112) (M154.1 78 5).toInt (M154.1 78 6).toInt (M156.1 78 5).toInt (M156.1 78 6).toInt (psX M156) (M160.1 78 5).toInt (M160.1 78 6).toInt (psX M160) (by omega) (by omega) (by omega) (by omega) (by omega) (by omega) (by omega) (by omega) (by omega) (by omega) (by omega)
              exact hret _ _ _ dX8_unit_130 ⟨hM160, by omega⟩
      · refine j_aload_n C 1 0 dX8_unit_49 rfl rfl ?_
        refine j_iload_n C 2 1 dX8_unit_50 rfl rfl ?_
        refine j_callVv C (d := 0) (As := [.int (sI 5)]) (st := []) 78 (s_lt rfl rfl) (s_kc (c := 7) rfl rfl) (by decide) rfl (s6_X8_goDeeper hM0 hpr gf gn gi (by omega) (by omega) (by omega) (by omega) (by omega)) gX8_unit_X8_goDeeper rfl hdX8_goDeeper (by decide) (Nat.le_of_ble_eq_true rfl) dX8_unit_51 rfl (fun M165 h166 => ?_)
        obtain ⟨hM165, fM165, h167⟩ := h166
        have bM165 := tkx_b (f := gf) (n := gn) (M := M165) (by omega)
        refine j_aload_n C 1 0 dX8_unit_54 rfl rfl ?_
        refine j_iload_n C 2 1 dX8_unit_55 rfl rfl ?_
        refine y_iconst C dX8_unit_56 ?_
        refine y_iadd C dX8_unit_57 ?_
        refine j_callVv C (d := 8) (As := [.int (sI (5 + 1))]) (st := []) 78 (s_lt rfl rfl) (s_kc (c := 7) rfl rfl) (by decide) rfl (s2_X8_truth hM165 hpr gf gn (nxF gf gn gi) (by omega) (by omega)) gX8_unit_X8_truth rfl hdX8_truth (by decide) (Nat.le_of_ble_eq_true rfl) dX8_unit_58 rfl (fun M169 h170 => ?_)
        obtain ⟨hM169, h171⟩ := h170
        have bM169 := tkx_b (f := gf) (n := gn) (M := M169) (by omega)
        have qM169 := po_rr (trP gf gn (unR gf gn 0)) gn (nxF gf gn gi) (M165.1 78 5).toInt (M165.1 78 6).toInt (psX M165) (M169.1 78 5).toInt (M169.1 78 6).toInt (psX M169) (tr_g gf gn (unR_g gf gn 0)) (by omega) (by omega)
        refine j_aload_n C 1 0 dX8_unit_61 rfl rfl ?_
        refine y_sipush C dX8_unit_62 rfl ?_
        refine j_callVv C (d := 1) (As := [.int (sI 2093)]) (st := []) 78 (s_lt rfl rfl) (s_kc (c := 7) rfl rfl) (by decide) rfl (s1_X8_expect hM169 hpr 2093 (by omega) gf gn ((trP gf gn (unR gf gn 0)) (nxF gf gn gi)).2.2 (by omega) (by omega) (by omega) (by omega)) gX8_unit_X8_expect rfl hdX8_expect (by decide) (Nat.le_of_ble_eq_true rfl) dX8_unit_65 rfl (fun M173 h174 => ?_)
        obtain ⟨hM173, fM173, h175⟩ := h174
        have bM173 := tkx_b (f := gf) (n := gn) (M := M173) (by omega)
        have qM173 := po_rr (exP gf gn 2093) gn ((trP gf gn (unR gf gn 0)) (nxF gf gn gi)).2.2 (M169.1 78 5).toInt (M169.1 78 6).toInt (psX M169) (M173.1 78 5).toInt (M173.1 78 6).toInt (psX M173) (ex_g gf gn 2093 (by omega)) (by omega) (by omega)
        refine j_goto C 130 dX8_unit_68 (by decide) ?_
        have u176r := un_2 gf gn 0 1 rfl gi (M0.1 78 5).toInt (M0.1 78 6).toInt (psX M0) (M165.1 78 5).toInt (M165.1 78 6).toInt (M169.1 78 5).toInt (M169.1 78 6).toInt (psX M169) (M173.1 78 5).toInt (M173.1 78 6).toInt (psX M173) (by omega) (by omega) (by omega) (by omega) (by omega) (by omega)
        exact hret _ _ _ dX8_unit_130 ⟨hM173, by omega⟩
    · refine j_aload_n C 1 0 dX8_unit_20 rfl rfl ?_
      refine j_iload_n C 2 1 dX8_unit_21 rfl rfl ?_
      refine j_callVv C (d := 0) (As := [.int (sI 5)]) (st := []) 78 (s_lt rfl rfl) (s_kc (c := 7) rfl rfl) (by decide) rfl (s6_X8_goDeeper hM0 hpr gf gn gi (by omega) (by omega) (by omega) (by omega) (by omega)) gX8_unit_X8_goDeeper rfl hdX8_goDeeper (by decide) (Nat.le_of_ble_eq_true rfl) dX8_unit_22 rfl (fun M178 h179 => ?_)
      obtain ⟨hM178, fM178, h180⟩ := h179
      have bM178 := tkx_b (f := gf) (n := gn) (M := M178) (by omega)
      refine j_aload_n C 1 0 dX8_unit_25 rfl rfl ?_
      refine j_iload_n C 2 1 dX8_unit_26 rfl rfl ?_
      refine y_iconst C dX8_unit_27 ?_
      refine y_iadd C dX8_unit_28 ?_
      refine j_callVv C (d := 6) (As := [.int (sI (5 + 1))]) (st := []) 78 (s_lt rfl rfl) (s_kc (c := 7) rfl rfl) (by decide) rfl (s2_X8_unit hM178 hpr gf gn (nxF gf gn gi) (by omega) (by omega)) gX8_unit_X8_unit rfl hdX8_unit (by decide) (Nat.le_of_ble_eq_true rfl) dX8_unit_29 rfl (fun M182 h183 => ?_)
      obtain ⟨hM182, h184⟩ := h183
      have bM182 := tkx_b (f := gf) (n := gn) (M := M182) (by omega)
      have qM182 := po_rr (unR gf gn 0) gn (nxF gf gn gi) (M178.1 78 5).toInt (M178.1 78 6).toInt (psX M178) (M182.1 78 5).toInt (M182.1 78 6).toInt (psX M182) (unR_g gf gn 0) (by omega) (by omega)
      refine j_aload_n C 1 0 dX8_unit_32 rfl rfl ?_
      refine y_sipush C dX8_unit_33 rfl ?_
      refine j_callVv C (d := 0) (As := [.int (sI 1016)]) (st := []) 78 (s_lt rfl rfl) (s_kc (c := 7) rfl rfl) (by decide) rfl (s1_X8_emit hM182 hpr 1016 (by omega) gf gn ((unR gf gn 0) (nxF gf gn gi)).2.2 (by omega) (by omega)) gX8_unit_X8_emit rfl hdX8_emit (by decide) (Nat.le_of_ble_eq_true rfl) dX8_unit_36 rfl (fun M186 h187 => ?_)
      obtain ⟨hM186, h188⟩ := h187
      have bM186 := tkx_b (f := gf) (n := gn) (M := M186) (by omega)
      have qM186 := po_eq gn ((unR gf gn 0) (nxF gf gn gi)).2.2 (M182.1 78 5).toInt (psX M182) (M186.1 78 5).toInt (psX M186) (by omega) (by omega) (by omega)
      refine j_goto C 130 dX8_unit_39 (by decide) ?_
      have u189r := un_1 gf gn 0 1 rfl gi (M0.1 78 5).toInt (M0.1 78 6).toInt (psX M0) (M178.1 78 5).toInt (M178.1 78 6).toInt (M182.1 78 5).toInt (M182.1 78 6).toInt (psX M182) (M186.1 78 5).toInt (M186.1 78 6).toInt (psX M186) (by omega) (by omega) (by omega) (by omega) (by omega) (by omega) (by omega) (by omega)
      exact hret _ _ _ dX8_unit_130 ⟨hM186, by omega⟩
  · have u190r := rr_no ((unR gf gn 1) gi) (M0.1 78 5).toInt (M0.1 78 6).toInt (M0.1 78 5).toInt (M0.1 78 6).toInt (psX M0) (by omega) rfl rfl
    exact hret _ _ _ dX8_unit_7 ⟨hM0, by omega⟩
set_option maxHeartbeats 4000000 in
theorem s3_X8_both {l : Launch} {dC : Nat → ClassId} {dI : Nat → Nat → Nat} {ad : Nat → Nat} {cA : Nat → ClassId} {pr : Nat → Nat → Bool} {Kz : mm_M} {M0 : mm_M} (hM0 : INV pr Kz M0) (hpr : PX pr) (gf : Nat → Int) (gn : Int) (gi : Int) (hp0 : b01 (TKX gf gn M0) = 1) (hp1 : b01 (PO gn gi (M0.1 78 5).toInt (psX M0)) = 1) : Cv l 10 yX8_both wsX8_both dC dI ad cA [.ref (ad 78), .int (sI 5)] M0 (fun M' => INV pr Kz M' ∧ (b01 (TKX gf gn M') = 1) ∧ b01 (RR ((boP gf gn (unR gf gn 1)) gi) (M0.1 78 5).toInt (M0.1 78 6).toInt (M'.1 78 5).toInt (M'.1 78 6).toInt (psX M')) = 1) := by
  refine cv_of (cc := cX8_both) (maxL := 3) (lv := [(0, .ref (ad 78)), (1, .int (sI 5))]) (by decide) rfl (Nat.le_of_ble_eq_true rfl) rfl ?_
  intro p e s m args below meth c A Q C hret
  refine j_aload_n C 0 0 dX8_both_0 rfl rfl ?_
  refine j_iload_n C 1 1 dX8_both_1 rfl rfl ?_
  refine j_callVv C (d := 9) (As := [.int (sI 5)]) (st := []) 78 (s_lt rfl rfl) (s_kc (c := 7) rfl rfl) (by decide) rfl (s3_X8_unit hM0 hpr gf gn gi (by omega) (by omega)) gX8_both_X8_unit rfl hdX8_unit (by decide) (Nat.le_of_ble_eq_true rfl) dX8_both_2 rfl (fun M102 h103 => ?_)
  obtain ⟨hM102, h104⟩ := h103
  have bM102 := tkx_b (f := gf) (n := gn) (M := M102) (by omega)
  have qM102 := po_rr (unR gf gn 1) gn gi (M0.1 78 5).toInt (M0.1 78 6).toInt (psX M0) (M102.1 78 5).toInt (M102.1 78 6).toInt (psX M102) (unR_g gf gn 1) (by omega) (by omega)
  refine y_iconst C dX8_both_5 ?_
  have u105l := ll_0 (luP gf gn 1015 1015 (unR gf gn 1)) gn ((unR gf gn 1) gi).2.2 (M102.1 78 5).toInt (M102.1 78 6).toInt (psX M102) (by omega)
  refine j_istore_n C 2 [(2, .int (sI 0)), (0, .ref (ad 78)), (1, .int (sI 5))] dX8_both_6 rfl (by decide) rfl ?_
  have L134 : ∀ (n132 : Nat), ∀ (a135 : Int) (M136 : mm_M) (gq137 : Int), (0 ≤ a135 ∧ a135 ≤ 900 ∧ (b01 (LL (luP gf gn 1015 1015 (unR gf gn 1)) gn ((unR gf gn 1) gi).2.2 gq137 a135 (M102.1 78 5).toInt (M102.1 78 6).toInt (M136.1 78 5).toInt (M136.1 78 6).toInt (psX M136)) = 1) ∧ (b01 (TKX gf gn M136) = 1) ∧ (b01 (PO gn gq137 (M136.1 78 5).toInt (psX M136)) = 1) ∧ (900 - a135) < (n132 : Int)) → INV pr Kz M136 → jj p l e (cn_R 10) s m args below meth c 0 0 Q 3 dC dI ad cA A M136 7 [(0, .ref (ad 78)), (1, .int (sI 5)), (2, .int (sI a135))] [] := by
    intro n132
    induction n132 with
    | zero =>
      intro a135 M136 gq137 h138 hM136
      exfalso; omega
    | succ n132 ih133 =>
      intro a135 M136 gq137 h138 hM136
      have u139b := tkx_b (f := gf) (n := gn) (M := M136) (by omega)
      refine j_iload_n C 2 2 dX8_both_7 rfl rfl ?_
      refine y_sipush C dX8_both_8 rfl ?_
      refine y_icmp_ge C 59 dX8_both_11 (by decide) (by omega) (fun h140 => ?_) (fun h140 => ?_)
      · have u162e := ll_e gf gn 1015 1015 (unR gf gn 1) ((unR gf gn 1) gi).2.2 gq137 a135 (M102.1 78 5).toInt (M102.1 78 6).toInt (M136.1 78 5).toInt (M136.1 78 6).toInt (psX M136) (by decide) (unR_g gf gn 1) (by omega) (by omega)
        have u162r : b01 (RR ((boP gf gn (unR gf gn 1)) gi) (M0.1 78 5).toInt (M0.1 78 6).toInt (M136.1 78 5).toInt (M136.1 78 6).toInt (psX M136)) = 1 := rr_sq ((unR gf gn 1) gi) (luP gf gn 1015 1015 (unR gf gn 1)) (M0.1 78 5).toInt (M0.1 78 6).toInt (M102.1 78 5).toInt (M102.1 78 6).toInt (psX M102) (M136.1 78 5).toInt (M136.1 78 6).toInt (psX M136) (by omega) (by omega)
        exact hret _ _ _ dX8_both_59 ⟨hM136, by omega⟩
      · refine j_aload_n C 0 0 dX8_both_14 rfl rfl ?_
        refine y_getI C 7 _ _ fX8_both_22 rfl rfl ft_7_5 sb_7_5 hM136 dX8_both_15 (fun a141 ea141 la141 ua141 => ?_)
        refine y_if_ne C 59 dX8_both_18 (by decide) (by omega) (fun h143 => ?_) (fun h143 => ?_)
        · have u163e := ll_e gf gn 1015 1015 (unR gf gn 1) ((unR gf gn 1) gi).2.2 gq137 a135 (M102.1 78 5).toInt (M102.1 78 6).toInt (M136.1 78 5).toInt (M136.1 78 6).toInt (psX M136) (by decide) (unR_g gf gn 1) (by omega) (by omega)
          have u163r : b01 (RR ((boP gf gn (unR gf gn 1)) gi) (M0.1 78 5).toInt (M0.1 78 6).toInt (M136.1 78 5).toInt (M136.1 78 6).toInt (psX M136)) = 1 := rr_sq ((unR gf gn 1) gi) (luP gf gn 1015 1015 (unR gf gn 1)) (M0.1 78 5).toInt (M0.1 78 6).toInt (M102.1 78 5).toInt (M102.1 78 6).toInt (psX M102) (M136.1 78 5).toInt (M136.1 78 6).toInt (psX M136) (by omega) (by omega)
          exact hret _ _ _ dX8_both_59 ⟨hM136, by omega⟩
        · refine j_aload_n C 0 0 dX8_both_21 rfl rfl ?_
          refine j_callVi C (d := 0) (As := []) (st := []) 78 (s_lt rfl rfl) (s_kc (c := 7) rfl rfl) (by decide) rfl (s1_X8_token hM136 gf gn gq137 (by omega) (by omega)) gX8_both_X8_token rfl hdX8_token (by decide) (Nat.le_of_ble_eq_true rfl) dX8_both_22 rfl (fun r144 M145 h146 => ?_)
          obtain ⟨a148, rfl, rfl, h147⟩ := h146
          refine y_sipush C dX8_both_25 rfl ?_
          refine y_icmp_ne C 59 dX8_both_28 (by decide) (by omega) (fun h149 => ?_) (fun h149 => ?_)
          · have u164e := ll_e gf gn 1015 1015 (unR gf gn 1) ((unR gf gn 1) gi).2.2 gq137 a135 (M102.1 78 5).toInt (M102.1 78 6).toInt (M136.1 78 5).toInt (M136.1 78 6).toInt (psX M136) (by decide) (unR_g gf gn 1) (by omega) (by omega)
            have u164r : b01 (RR ((boP gf gn (unR gf gn 1)) gi) (M0.1 78 5).toInt (M0.1 78 6).toInt (M136.1 78 5).toInt (M136.1 78 6).toInt (psX M136)) = 1 := rr_sq ((unR gf gn 1) gi) (luP gf gn 1015 1015 (unR gf gn 1)) (M0.1 78 5).toInt (M0.1 78 6).toInt (M102.1 78 5).toInt (M102.1 78 6).toInt (psX M102) (M136.1 78 5).toInt (M136.1 78 6).toInt (psX M136) (by omega) (by omega)
            exact hret _ _ _ dX8_both_59 ⟨hM136, by omega⟩
          · refine j_aload_n C 0 0 dX8_both_31 rfl rfl ?_
            refine j_dup C dX8_both_32 rfl ?_
            refine y_getI C 7 _ _ fX8_both_18 rfl rfl ft_7_2 sb_7_2 hM136 dX8_both_33 (fun a150 ea150 la150 ua150 => ?_)
            refine y_iconst C dX8_both_36 ?_
            refine y_iadd C dX8_both_37 ?_
            refine y_putI C 7 _ _ qX8_both_18 rfl rfl ft_7_2 sb_7_2 hM136 (PX.w hpr rfl rfl) dX8_both_38 (by omega) (fun M152 eM152 hM152 => ?_)
            have xM152 := tkx_j (f := gf) (n := gn) (gi := gq137) eM152 (by omega) (by omega) (by omega) (by omega)
            refine j_aload_n C 0 0 dX8_both_41 rfl rfl ?_
            refine j_iload_n C 1 1 dX8_both_42 rfl rfl ?_
            refine j_callVv C (d := 9) (As := [.int (sI 5)]) (st := []) 78 (s_lt rfl rfl) (s_kc (c := 7) rfl rfl) (by decide) rfl (s3_X8_unit hM152 hpr gf gn (nxF gf gn gq137) (by omega) (by omega)) gX8_both_X8_unit rfl hdX8_unit (by decide) (Nat.le_of_ble_eq_true rfl) dX8_both_43 rfl (fun M154 h155 => ?_)
            obtain ⟨hM154, h156⟩ := h155
            have bM154 := tkx_b (f := gf) (n := gn) (M := M154) (by omega)
            have qM154 := po_rr (unR gf gn 1) gn (nxF gf gn gq137) (M152.1 78 5).toInt (M152.1 78 6).toInt (psX M152) (M154.1 78 5).toInt (M154.1 78 6).toInt (psX M154) (unR_g gf gn 1) (by omega) (by omega)
            refine j_aload_n C 0 0 dX8_both_46 rfl rfl ?_
            refine y_sipush C dX8_both_47 rfl ?_
            refine j_callVv C (d := 0) (As := [.int (sI 1015)]) (st := []) 78 (s_lt rfl rfl) (s_kc (c := 7) rfl rfl) (by decide) rfl (s1_X8_emit hM154 hpr 1015 (by omega) gf gn ((unR gf gn 1) (nxF gf gn gq137)).2.2 (by omega) (by omega)) gX8_both_X8_emit rfl hdX8_emit (by decide) (Nat.le_of_ble_eq_true rfl) dX8_both_50 rfl (fun M158 h159 => ?_)
            obtain ⟨hM158, h160⟩ := h159
            have bM158 := tkx_b (f := gf) (n := gn) (M := M158) (by omega)
            have qM158 := po_eq gn ((unR gf gn 1) (nxF gf gn gq137)).2.2 (M154.1 78 5).toInt (psX M154) (M158.1 78 5).toInt (psX M158) (by omega) (by omega) (by omega)
            refine y_iinc C 2 [(2, .int (sI (a135 + 1))), (0, .ref (ad 78)), (1, .int (sI 5))] dX8_both_53 rfl (by decide) rfl ?_
            have u161s := ll_s gf gn 1015 1015 (unR gf gn 1) ((unR gf gn 1) gi).2.2 gq137 a135 (M102.1 78 5).toInt (M102.1 78 6).toInt (M136.1 78 5).toInt (M136.1 78 6).toInt (psX M136) (M152.1 78 5).toInt (M152.1 78 6).toInt (M154.1 78 5).toInt (M154.1 78 6).toInt (psX M154) (M158.1 78 5).toInt (M158.1 78 6).toInt (psX M158) (by decide) (unR_g gf gn 1) (by omega) (by omega) (by omega) (by omega) (by omega) (by omega) (by omega) (by omega) (by omega)
            refine j_goto C 7 dX8_both_56 (by decide) ?_
            refine j_lv [1, 2, 0] rfl ?_; exact ih133 (a135 + 1) M158 ((unR gf gn 1) (nxF gf gn gq137)).2.2 (by omega) hM158
  refine j_lv [1, 2, 0] rfl ?_; exact L134 2010 0 M102 ((unR gf gn 1) gi).2.2 (by omega) hM102
set_option maxHeartbeats 4000000 in
theorem s3_X8_truth {l : Launch} {dC : Nat → ClassId} {dI : Nat → Nat → Nat} {ad : Nat → Nat} {cA : Nat → ClassId} {pr : Nat → Nat → Bool} {Kz : mm_M} {M0 : mm_M} (hM0 : INV pr Kz M0) (hpr : PX pr) (gf : Nat → Int) (gn : Int) (gi : Int) (hp0 : b01 (TKX gf gn M0) = 1) (hp1 : b01 (PO gn gi (M0.1 78 5).toInt (psX M0)) = 1) : Cv l 11 yX8_truth wsX8_truth dC dI ad cA [.ref (ad 78), .int (sI 5)] M0 (fun M' => INV pr Kz M' ∧ (b01 (TKX gf gn M') = 1) ∧ b01 (RR ((trP gf gn (unR gf gn 1)) gi) (M0.1 78 5).toInt (M0.1 78 6).toInt (M'.1 78 5).toInt (M'.1 78 6).toInt (psX M')) = 1) := by
  refine cv_of (cc := cX8_truth) (maxL := 3) (lv := [(0, .ref (ad 78)), (1, .int (sI 5))]) (by decide) rfl (Nat.le_of_ble_eq_true rfl) rfl ?_
  intro p e s m args below meth c A Q C hret
  refine j_aload_n C 0 0 dX8_truth_0 rfl rfl ?_
  refine j_iload_n C 1 1 dX8_truth_1 rfl rfl ?_
  refine j_callVv C (d := 10) (As := [.int (sI 5)]) (st := []) 78 (s_lt rfl rfl) (s_kc (c := 7) rfl rfl) (by decide) rfl (s3_X8_both hM0 hpr gf gn gi (by omega) (by omega)) gX8_truth_X8_both rfl hdX8_both (by decide) (Nat.le_of_ble_eq_true rfl) dX8_truth_2 rfl (fun M102 h103 => ?_)
  obtain ⟨hM102, h104⟩ := h103
  have bM102 := tkx_b (f := gf) (n := gn) (M := M102) (by omega)
  have qM102 := po_rr (boP gf gn (unR gf gn 1)) gn gi (M0.1 78 5).toInt (M0.1 78 6).toInt (psX M0) (M102.1 78 5).toInt (M102.1 78 6).toInt (psX M102) (bo_g gf gn (unR_g gf gn 1)) (by omega) (by omega)
  refine y_iconst C dX8_truth_5 ?_
  have u105l := ll_0 (luP gf gn 1014 1014 (boP gf gn (unR gf gn 1))) gn ((boP gf gn (unR gf gn 1)) gi).2.2 (M102.1 78 5).toInt (M102.1 78 6).toInt (psX M102) (by omega)
  refine j_istore_n C 2 [(2, .int (sI 0)), (0, .ref (ad 78)), (1, .int (sI 5))] dX8_truth_6 rfl (by decide) rfl ?_
  have L134 : ∀ (n132 : Nat), ∀ (a135 : Int) (M136 : mm_M) (gq137 : Int), (0 ≤ a135 ∧ a135 ≤ 900 ∧ (b01 (LL (luP gf gn 1014 1014 (boP gf gn (unR gf gn 1))) gn ((boP gf gn (unR gf gn 1)) gi).2.2 gq137 a135 (M102.1 78 5).toInt (M102.1 78 6).toInt (M136.1 78 5).toInt (M136.1 78 6).toInt (psX M136)) = 1) ∧ (b01 (TKX gf gn M136) = 1) ∧ (b01 (PO gn gq137 (M136.1 78 5).toInt (psX M136)) = 1) ∧ (900 - a135) < (n132 : Int)) → INV pr Kz M136 → jj p l e (cn_R 11) s m args below meth c 0 0 Q 3 dC dI ad cA A M136 7 [(0, .ref (ad 78)), (1, .int (sI 5)), (2, .int (sI a135))] [] := by
    intro n132
    induction n132 with
    | zero =>
      intro a135 M136 gq137 h138 hM136
      exfalso; omega
    | succ n132 ih133 =>
      intro a135 M136 gq137 h138 hM136
      have u139b := tkx_b (f := gf) (n := gn) (M := M136) (by omega)
      refine j_iload_n C 2 2 dX8_truth_7 rfl rfl ?_
      refine y_sipush C dX8_truth_8 rfl ?_
      refine y_icmp_ge C 59 dX8_truth_11 (by decide) (by omega) (fun h140 => ?_) (fun h140 => ?_)
      · have u162e := ll_e gf gn 1014 1014 (boP gf gn (unR gf gn 1)) ((boP gf gn (unR gf gn 1)) gi).2.2 gq137 a135 (M102.1 78 5).toInt (M102.1 78 6).toInt (M136.1 78 5).toInt (M136.1 78 6).toInt (psX M136) (by decide) (bo_g gf gn (unR_g gf gn 1)) (by omega) (by omega)
        have u162r : b01 (RR ((trP gf gn (unR gf gn 1)) gi) (M0.1 78 5).toInt (M0.1 78 6).toInt (M136.1 78 5).toInt (M136.1 78 6).toInt (psX M136)) = 1 := rr_sq ((boP gf gn (unR gf gn 1)) gi) (luP gf gn 1014 1014 (boP gf gn (unR gf gn 1))) (M0.1 78 5).toInt (M0.1 78 6).toInt (M102.1 78 5).toInt (M102.1 78 6).toInt (psX M102) (M136.1 78 5).toInt (M136.1 78 6).toInt (psX M136) (by omega) (by omega)
        exact hret _ _ _ dX8_truth_59 ⟨hM136, by omega⟩
      · refine j_aload_n C 0 0 dX8_truth_14 rfl rfl ?_
        refine y_getI C 7 _ _ fX8_truth_22 rfl rfl ft_7_5 sb_7_5 hM136 dX8_truth_15 (fun a141 ea141 la141 ua141 => ?_)
        refine y_if_ne C 59 dX8_truth_18 (by decide) (by omega) (fun h143 => ?_) (fun h143 => ?_)
        · have u163e := ll_e gf gn 1014 1014 (boP gf gn (unR gf gn 1)) ((boP gf gn (unR gf gn 1)) gi).2.2 gq137 a135 (M102.1 78 5).toInt (M102.1 78 6).toInt (M136.1 78 5).toInt (M136.1 78 6).toInt (psX M136) (by decide) (bo_g gf gn (unR_g gf gn 1)) (by omega) (by omega)
          have u163r : b01 (RR ((trP gf gn (unR gf gn 1)) gi) (M0.1 78 5).toInt (M0.1 78 6).toInt (M136.1 78 5).toInt (M136.1 78 6).toInt (psX M136)) = 1 := rr_sq ((boP gf gn (unR gf gn 1)) gi) (luP gf gn 1014 1014 (boP gf gn (unR gf gn 1))) (M0.1 78 5).toInt (M0.1 78 6).toInt (M102.1 78 5).toInt (M102.1 78 6).toInt (psX M102) (M136.1 78 5).toInt (M136.1 78 6).toInt (psX M136) (by omega) (by omega)
          exact hret _ _ _ dX8_truth_59 ⟨hM136, by omega⟩
        · refine j_aload_n C 0 0 dX8_truth_21 rfl rfl ?_
          refine j_callVi C (d := 0) (As := []) (st := []) 78 (s_lt rfl rfl) (s_kc (c := 7) rfl rfl) (by decide) rfl (s1_X8_token hM136 gf gn gq137 (by omega) (by omega)) gX8_truth_X8_token rfl hdX8_token (by decide) (Nat.le_of_ble_eq_true rfl) dX8_truth_22 rfl (fun r144 M145 h146 => ?_)
          obtain ⟨a148, rfl, rfl, h147⟩ := h146
          refine y_sipush C dX8_truth_25 rfl ?_
          refine y_icmp_ne C 59 dX8_truth_28 (by decide) (by omega) (fun h149 => ?_) (fun h149 => ?_)
          · have u164e := ll_e gf gn 1014 1014 (boP gf gn (unR gf gn 1)) ((boP gf gn (unR gf gn 1)) gi).2.2 gq137 a135 (M102.1 78 5).toInt (M102.1 78 6).toInt (M136.1 78 5).toInt (M136.1 78 6).toInt (psX M136) (by decide) (bo_g gf gn (unR_g gf gn 1)) (by omega) (by omega)
            have u164r : b01 (RR ((trP gf gn (unR gf gn 1)) gi) (M0.1 78 5).toInt (M0.1 78 6).toInt (M136.1 78 5).toInt (M136.1 78 6).toInt (psX M136)) = 1 := rr_sq ((boP gf gn (unR gf gn 1)) gi) (luP gf gn 1014 1014 (boP gf gn (unR gf gn 1))) (M0.1 78 5).toInt (M0.1 78 6).toInt (M102.1 78 5).toInt (M102.1 78 6).toInt (psX M102) (M136.1 78 5).toInt (M136.1 78 6).toInt (psX M136) (by omega) (by omega)
            exact hret _ _ _ dX8_truth_59 ⟨hM136, by omega⟩
          · refine j_aload_n C 0 0 dX8_truth_31 rfl rfl ?_
            refine j_dup C dX8_truth_32 rfl ?_
            refine y_getI C 7 _ _ fX8_truth_18 rfl rfl ft_7_2 sb_7_2 hM136 dX8_truth_33 (fun a150 ea150 la150 ua150 => ?_)
            refine y_iconst C dX8_truth_36 ?_
            refine y_iadd C dX8_truth_37 ?_
            refine y_putI C 7 _ _ qX8_truth_18 rfl rfl ft_7_2 sb_7_2 hM136 (PX.w hpr rfl rfl) dX8_truth_38 (by omega) (fun M152 eM152 hM152 => ?_)
            have xM152 := tkx_j (f := gf) (n := gn) (gi := gq137) eM152 (by omega) (by omega) (by omega) (by omega)
            refine j_aload_n C 0 0 dX8_truth_41 rfl rfl ?_
            refine j_iload_n C 1 1 dX8_truth_42 rfl rfl ?_
            refine j_callVv C (d := 10) (As := [.int (sI 5)]) (st := []) 78 (s_lt rfl rfl) (s_kc (c := 7) rfl rfl) (by decide) rfl (s3_X8_both hM152 hpr gf gn (nxF gf gn gq137) (by omega) (by omega)) gX8_truth_X8_both rfl hdX8_both (by decide) (Nat.le_of_ble_eq_true rfl) dX8_truth_43 rfl (fun M154 h155 => ?_)
            obtain ⟨hM154, h156⟩ := h155
            have bM154 := tkx_b (f := gf) (n := gn) (M := M154) (by omega)
            have qM154 := po_rr (boP gf gn (unR gf gn 1)) gn (nxF gf gn gq137) (M152.1 78 5).toInt (M152.1 78 6).toInt (psX M152) (M154.1 78 5).toInt (M154.1 78 6).toInt (psX M154) (bo_g gf gn (unR_g gf gn 1)) (by omega) (by omega)
            refine j_aload_n C 0 0 dX8_truth_46 rfl rfl ?_
            refine y_sipush C dX8_truth_47 rfl ?_
            refine j_callVv C (d := 0) (As := [.int (sI 1014)]) (st := []) 78 (s_lt rfl rfl) (s_kc (c := 7) rfl rfl) (by decide) rfl (s1_X8_emit hM154 hpr 1014 (by omega) gf gn ((boP gf gn (unR gf gn 1)) (nxF gf gn gq137)).2.2 (by omega) (by omega)) gX8_truth_X8_emit rfl hdX8_emit (by decide) (Nat.le_of_ble_eq_true rfl) dX8_truth_50 rfl (fun M158 h159 => ?_)
            obtain ⟨hM158, h160⟩ := h159
            have bM158 := tkx_b (f := gf) (n := gn) (M := M158) (by omega)
            have qM158 := po_eq gn ((boP gf gn (unR gf gn 1)) (nxF gf gn gq137)).2.2 (M154.1 78 5).toInt (psX M154) (M158.1 78 5).toInt (psX M158) (by omega) (by omega) (by omega)
            refine y_iinc C 2 [(2, .int (sI (a135 + 1))), (0, .ref (ad 78)), (1, .int (sI 5))] dX8_truth_53 rfl (by decide) rfl ?_
            have u161s := ll_s gf gn 1014 1014 (boP gf gn (unR gf gn 1)) ((boP gf gn (unR gf gn 1)) gi).2.2 gq137 a135 (M102.1 78 5).toInt (M102.1 78 6).toInt (M136.1 78 5).toInt (M136.1 78 6).toInt (psX M136) (M152.1 78 5).toInt (M152.1 78 6).toInt (M154.1 78 5).toInt (M154.1 78 6).toInt (psX M154) (M158.1 78 5).toInt (M158.1 78 6).toInt (psX M158) (by decide) (bo_g gf gn (unR_g gf gn 1)) (by omega) (by omega) (by omega) (by omega) (by omega) (by omega) (by omega) (by omega) (by omega)
            refine j_goto C 7 dX8_truth_56 (by decide) ?_
            refine j_lv [1, 2, 0] rfl ?_; exact ih133 (a135 + 1) M158 ((boP gf gn (unR gf gn 1)) (nxF gf gn gq137)).2.2 (by omega) hM158
  refine j_lv [1, 2, 0] rfl ?_; exact L134 2010 0 M102 ((boP gf gn (unR gf gn 1)) gi).2.2 (by omega) hM102
set_option maxHeartbeats 4000000 in
theorem s4_X8_unit {l : Launch} {dC : Nat → ClassId} {dI : Nat → Nat → Nat} {ad : Nat → Nat} {cA : Nat → ClassId} {pr : Nat → Nat → Bool} {Kz : mm_M} {M0 : mm_M} (hM0 : INV pr Kz M0) (hpr : PX pr) (gf : Nat → Int) (gn : Int) (gi : Int) (hp0 : b01 (TKX gf gn M0) = 1) (hp1 : b01 (PO gn gi (M0.1 78 5).toInt (psX M0)) = 1) : Cv l 12 yX8_unit wsX8_unit dC dI ad cA [.ref (ad 78), .int (sI 4)] M0 (fun M' => INV pr Kz M' ∧ (b01 (TKX gf gn M') = 1) ∧ b01 (RR ((unR gf gn 2) gi) (M0.1 78 5).toInt (M0.1 78 6).toInt (M'.1 78 5).toInt (M'.1 78 6).toInt (psX M')) = 1) := by
  refine cv_of (cc := cX8_unit) (maxL := 4) (lv := [(0, .ref (ad 78)), (1, .int (sI 4))]) (by decide) rfl (Nat.le_of_ble_eq_true rfl) rfl ?_
  intro p e s m args below meth c A Q C hret
  refine j_aload_n C 0 0 dX8_unit_0 rfl rfl ?_
  refine y_getI C 7 _ _ fX8_unit_22 rfl rfl ft_7_5 sb_7_5 hM0 dX8_unit_1 (fun a101 ea101 la101 ua101 => ?_)
  refine y_if_eq C 8 dX8_unit_4 (by decide) (by omega) (fun h103 => ?_) (fun h103 => ?_)
  · refine j_aload_n C 0 0 dX8_unit_8 rfl rfl ?_
    refine j_callVi C (d := 0) (As := []) (st := []) 78 (s_lt rfl rfl) (s_kc (c := 7) rfl rfl) (by decide) rfl (s1_X8_token hM0 gf gn gi (by omega) (by omega)) gX8_unit_X8_token rfl hdX8_token (by decide) (Nat.le_of_ble_eq_true rfl) dX8_unit_9 rfl (fun r104 M105 h106 => ?_)
    obtain ⟨a108, rfl, rfl, h107⟩ := h106
    refine j_istore_n C 2 [(2, .int (sI a108)), (0, .ref (ad 78)), (1, .int (sI 4))] dX8_unit_12 rfl (by decide) rfl ?_
    refine j_iload_n C 0 2 dX8_unit_13 rfl rfl ?_
    refine y_sipush C dX8_unit_14 rfl ?_
    refine y_icmp_ne C 42 dX8_unit_17 (by decide) (by omega) (fun h109 => ?_) (fun h109 => ?_)
    · refine j_iload_n C 0 2 dX8_unit_42 rfl rfl ?_
      refine y_sipush C dX8_unit_43 rfl ?_
      refine y_icmp_ne C 71 dX8_unit_46 (by decide) (by omega) (fun h110 => ?_) (fun h110 => ?_)
      · refine j_aload_n C 1 0 dX8_unit_71 rfl rfl ?_
        refine j_iload_n C 2 1 dX8_unit_72 rfl rfl ?_
        refine j_callVv C (d := 11) (As := [.int (sI 4)]) (st := []) 78 (s_lt rfl rfl) (s_kc (c := 7) rfl rfl) (by decide) rfl (s4_X8_sum hM0 hpr gf gn gi (by omega) (by omega)) gX8_unit_X8_sum rfl hdX8_sum (by decide) (Nat.le_of_ble_eq_true rfl) dX8_unit_73 rfl (fun M112 h113 => ?_)
        obtain ⟨hM112, h114⟩ := h113
        have bM112 := tkx_b (f := gf) (n := gn) (M := M112) (by omega)
        have qM112 := po_rr (suR gf gn 2) gn gi (M0.1 78 5).toInt (M0.1 78 6).toInt (psX M0) (M112.1 78 5).toInt (M112.1 78 6).toInt (psX M112) (suR_g gf gn 2) (by omega) (by omega)
        refine j_aload_n C 1 0 dX8_unit_76 rfl rfl ?_
        refine j_callVi C (d := 0) (As := []) (st := []) 78 (s_lt rfl rfl) (s_kc (c := 7) rfl rfl) (by decide) rfl (s1_X8_token hM112 gf gn ((suR gf gn 2) gi).2.2 (by omega) (by omega)) gX8_unit_X8_token rfl hdX8_token (by decide) (Nat.le_of_ble_eq_true rfl) dX8_unit_77 rfl (fun r115 M116 h117 => ?_)
        obtain ⟨a119, rfl, rfl, h118⟩ := h117
        refine j_istore_n C 3 [(3, .int (sI a119)), (2, .int (sI a108)), (0, .ref (ad 78)), (1, .int (sI 4))] dX8_unit_80 rfl (by decide) rfl ?_
        refine j_iload_n C 0 3 dX8_unit_81 rfl rfl ?_
        refine y_sipush C dX8_unit_82 rfl ?_
        refine y_icmp_eq C 102 dX8_unit_85 (by decide) (by omega) (fun h120 => ?_) (fun h120 => ?_)
        · refine j_aload_n C 2 0 dX8_unit_102 rfl rfl ?_
          refine j_dup C dX8_unit_103 rfl ?_
          refine y_getI C 7 _ _ fX8_unit_18 rfl rfl ft_7_2 sb_7_2 hM112 dX8_unit_104 (fun a121 ea121 la121 ua121 => ?_)
          refine y_iconst C dX8_unit_107 ?_
          refine y_iadd C dX8_unit_108 ?_
          refine y_putI C 7 _ _ qX8_unit_18 rfl rfl ft_7_2 sb_7_2 hM112 (PX.w hpr rfl rfl) dX8_unit_109 (by omega) (fun M123 eM123 hM123 => ?_)
          have xM123 := tkx_j (f := gf) (n := gn) (gi := ((suR gf gn 2) gi).2.2) eM123 (by omega) (by omega) (by omega) (by omega)
          refine j_aload_n C 2 0 dX8_unit_112 rfl rfl ?_
          refine j_iload_n C 3 1 dX8_unit_113 rfl rfl ?_
          refine j_callVv C (d := 11) (As := [.int (sI 4)]) (st := []) 78 (s_lt rfl rfl) (s_kc (c := 7) rfl rfl) (by decide) rfl (s4_X8_sum hM123 hpr gf gn (nxF gf gn ((suR gf gn 2) gi).2.2) (by omega) (by omega)) gX8_unit_X8_sum rfl hdX8_sum (by decide) (Nat.le_of_ble_eq_true rfl) dX8_unit_114 rfl (fun M125 h126 => ?_)
          obtain ⟨hM125, h127⟩ := h126
          have bM125 := tkx_b (f := gf) (n := gn) (M := M125) (by omega)
          have qM125 := po_rr (suR gf gn 2) gn (nxF gf gn ((suR gf gn 2) gi).2.2) (M123.1 78 5).toInt (M123.1 78 6).toInt (psX M123) (M125.1 78 5).toInt (M125.1 78 6).toInt (psX M125) (suR_g gf gn 2) (by omega) (by omega)
          refine j_aload_n C 2 0 dX8_unit_117 rfl rfl ?_
          refine j_iload_n C 0 3 dX8_unit_118 rfl rfl ?_
          refine j_callVv C (d := 0) (As := [.int (sI a119)]) (st := []) 78 (s_lt rfl rfl) (s_kc (c := 7) rfl rfl) (by decide) rfl (s1_X8_emit hM125 hpr a119 (by omega) gf gn ((suR gf gn 2) (nxF gf gn ((suR gf gn 2) gi).2.2)).2.2 (by omega) (by omega)) gX8_unit_X8_emit rfl hdX8_emit (by decide) (Nat.le_of_ble_eq_true rfl) dX8_unit_119 rfl (fun M129 h130 => ?_)
          obtain ⟨hM129, h131⟩ := h130
          have bM129 := tkx_b (f := gf) (n := gn) (M := M129) (by omega)
          have qM129 := po_eq gn ((suR gf gn 2) (nxF gf gn ((suR gf gn 2) gi).2.2)).2.2 (M125.1 78 5).toInt (psX M125) (M129.1 78 5).toInt (psX M129) (by omega) (by omega) (by omega)
          refine j_goto C 130 dX8_unit_122 (by decide) ?_
          have u132r := un_4 gf gn 2 gi (M0.1 78 5).toInt (M0.1 78 6).toInt (psX M0) (M112.1 78 5).toInt (M112.1 78 6).toInt (psX M112) (M123.1 78 5).toInt (M123.1 78 6).toInt (M125.1 78 5).toInt (M125.1 78 6).toInt (psX M125) (M129.1 78 5).toInt (M129.1 78 6).toInt (psX M129) (by omega) (by omega) (by omega) (by omega) (by omega) (by omega) (by omega) (by omega) (by omega) (by omega) (by omega)
          exact hret _ _ _ dX8_unit_130 ⟨hM129, by omega⟩
        · refine j_iload_n C 0 3 dX8_unit_88 rfl rfl ?_
          refine y_sipush C dX8_unit_89 rfl ?_
          refine y_icmp_eq C 102 dX8_unit_92 (by decide) (by omega) (fun h133 => ?_) (fun h133 => ?_)
          · refine j_aload_n C 2 0 dX8_unit_102 rfl rfl ?_
            refine j_dup C dX8_unit_103 rfl ?_
            refine y_getI C 7 _ _ fX8_unit_18 rfl rfl ft_7_2 sb_7_2 hM112 dX8_unit_104 (fun a134 ea134 la134 ua134 => ?_)
            refine y_iconst C dX8_unit_107 ?_
            refine y_iadd C dX8_unit_108 ?_
            refine y_putI C 7 _ _ qX8_unit_18 rfl rfl ft_7_2 sb_7_2 hM112 (PX.w hpr rfl rfl) dX8_unit_109 (by omega) (fun M136 eM136 hM136 => ?_)
            have xM136 := tkx_j (f := gf) (n := gn) (gi := ((suR gf gn 2) gi).2.2) eM136 (by omega) (by omega) (by omega) (by omega)
            refine j_aload_n C 2 0 dX8_unit_112 rfl rfl ?_
            refine j_iload_n C 3 1 dX8_unit_113 rfl rfl ?_
            refine j_callVv C (d := 11) (As := [.int (sI 4)]) (st := []) 78 (s_lt rfl rfl) (s_kc (c := 7) rfl rfl) (by decide) rfl (s4_X8_sum hM136 hpr gf gn (nxF gf gn ((suR gf gn 2) gi).2.2) (by omega) (by omega)) gX8_unit_X8_sum rfl hdX8_sum (by decide) (Nat.le_of_ble_eq_true rfl) dX8_unit_114 rfl (fun M138 h139 => ?_)
            obtain ⟨hM138, h140⟩ := h139
            have bM138 := tkx_b (f := gf) (n := gn) (M := M138) (by omega)
            have qM138 := po_rr (suR gf gn 2) gn (nxF gf gn ((suR gf gn 2) gi).2.2) (M136.1 78 5).toInt (M136.1 78 6).toInt (psX M136) (M138.1 78 5).toInt (M138.1 78 6).toInt (psX M138) (suR_g gf gn 2) (by omega) (by omega)
            refine j_aload_n C 2 0 dX8_unit_117 rfl rfl ?_
            refine j_iload_n C 0 3 dX8_unit_118 rfl rfl ?_
            refine j_callVv C (d := 0) (As := [.int (sI a119)]) (st := []) 78 (s_lt rfl rfl) (s_kc (c := 7) rfl rfl) (by decide) rfl (s1_X8_emit hM138 hpr a119 (by omega) gf gn ((suR gf gn 2) (nxF gf gn ((suR gf gn 2) gi).2.2)).2.2 (by omega) (by omega)) gX8_unit_X8_emit rfl hdX8_emit (by decide) (Nat.le_of_ble_eq_true rfl) dX8_unit_119 rfl (fun M142 h143 => ?_)
            obtain ⟨hM142, h144⟩ := h143
            have bM142 := tkx_b (f := gf) (n := gn) (M := M142) (by omega)
            have qM142 := po_eq gn ((suR gf gn 2) (nxF gf gn ((suR gf gn 2) gi).2.2)).2.2 (M138.1 78 5).toInt (psX M138) (M142.1 78 5).toInt (psX M142) (by omega) (by omega) (by omega)
            refine j_goto C 130 dX8_unit_122 (by decide) ?_
            have u145r := un_4 gf gn 2 gi (M0.1 78 5).toInt (M0.1 78 6).toInt (psX M0) (M112.1 78 5).toInt (M112.1 78 6).toInt (psX M112) (M136.1 78 5).toInt (M136.1 78 6).toInt (M138.1 78 5).toInt (M138.1 78 6).toInt (psX M138) (M142.1 78 5).toInt (M142.1 78 6).toInt (psX M142) (by omega) (by omega) (by omega) (by omega) (by omega) (by omega) (by omega) (by omega) (by omega) (by omega) (by omega)
            exact hret _ _ _ dX8_unit_130 ⟨hM142, by omega⟩
          · refine j_iload_n C 0 3 dX8_unit_95 rfl rfl ?_
            refine y_sipush C dX8_unit_96 rfl ?_
            refine y_icmp_ne C 125 dX8_unit_99 (by decide) (by omega) (fun h146 => ?_) (fun h146 => ?_)
            · refine j_aload_n C 2 0 dX8_unit_125 rfl rfl ?_
              refine y_iconst C dX8_unit_126 ?_
              refine j_callVv C (d := 0) (As := [.int (sI 2)]) (st := []) 78 (s_lt rfl rfl) (s_kc (c := 7) rfl rfl) (by decide) rfl (s1_X8_fail hM112 hpr 2 (by omega) gf gn ((suR gf gn 2) gi).2.2 (by omega) (by omega) (by omega)) gX8_unit_X8_fail rfl hdX8_fail (by decide) (Nat.le_of_ble_eq_true rfl) dX8_unit_127 rfl (fun M148 h149 => ?_)
              obtain ⟨hM148, fM148, h150⟩ := h149
              have bM148 := tkx_b (f := gf) (n := gn) (M := M148) (by omega)
              have qM148 := po_f gn ((suR gf gn 2) gi).2.2 (M148.1 78 5).toInt (psX M148) (by omega)
              have u151r := un_5 gf gn 2 gi (M0.1 78 5).toInt (M0.1 78 6).toInt (psX M0) (M112.1 78 5).toInt (M112.1 78 6).toInt (psX M112) (M148.1 78 5).toInt (M148.1 78 6).toInt (psX M148) (by omega) (by omega) (by omega) (by omega) (fun _ => by omega) (by omega)
              exact hret _ _ _ dX8_unit_130 ⟨hM148, by omega⟩
            · refine j_aload_n C 2 0 dX8_unit_102 rfl rfl ?_
              refine j_dup C dX8_unit_103 rfl ?_
              refine y_getI C 7 _ _ fX8_unit_18 rfl rfl ft_7_2 sb_7_2 hM112 dX8_unit_104 (fun a152 ea152 la152 ua152 => ?_)
              refine y_iconst C dX8_unit_107 ?_
              refine y_iadd C dX8_unit_108 ?_
              refine y_putI C 7 _ _ qX8_unit_18 rfl rfl ft_7_2 sb_7_2 hM112 (PX.w hpr rfl rfl) dX8_unit_109 (by omega) (fun M154 eM154 hM154 => ?_)
              have xM154 := tkx_j (f := gf) (n := gn) (gi := ((suR gf gn 2) gi).2.2) eM154 (by omega) (by omega) (by omega) (by omega)
              refine j_aload_n C 2 0 dX8_unit_112 rfl rfl ?_
              refine j_iload_n C 3 1 dX8_unit_113 rfl rfl ?_
              refine j_callVv C (d := 11) (As := [.int (sI 4)]) (st := []) 78 (s_lt rfl rfl) (s_kc (c := 7) rfl rfl) (by decide) rfl (s4_X8_sum hM154 hpr gf gn (nxF gf gn ((suR gf gn 2) gi).2.2) (by omega) (by omega)) gX8_unit_X8_sum rfl hdX8_sum (by decide) (Nat.le_of_ble_eq_true rfl) dX8_unit_114 rfl (fun M156 h157 => ?_)
              obtain ⟨hM156, h158⟩ := h157
              have bM156 := tkx_b (f := gf) (n := gn) (M := M156) (by omega)
              have qM156 := po_rr (suR gf gn 2) gn (nxF gf gn ((suR gf gn 2) gi).2.2) (M154.1 78 5).toInt (M154.1 78 6).toInt (psX M154) (M156.1 78 5).toInt (M156.1 78 6).toInt (psX M156) (suR_g gf gn 2) (by omega) (by omega)
              refine j_aload_n C 2 0 dX8_unit_117 rfl rfl ?_
              refine j_iload_n C 0 3 dX8_unit_118 rfl rfl ?_
              refine j_callVv C (d := 0) (As := [.int (sI a119)]) (st := []) 78 (s_lt rfl rfl) (s_kc (c := 7) rfl rfl) (by decide) rfl (s1_X8_emit hM156 hpr a119 (by omega) gf gn ((suR gf gn 2) (nxF gf gn ((suR gf gn 2) gi).2.2)).2.2 (by omega) (by omega)) gX8_unit_X8_emit rfl hdX8_emit (by decide) (Nat.le_of_ble_eq_true rfl) dX8_unit_119 rfl (fun M160 h161 => ?_)
              obtain ⟨hM160, h162⟩ := h161
              have bM160 := tkx_b (f := gf) (n := gn) (M := M160) (by omega)
              have qM160 := po_eq gn ((suR gf gn 2) (nxF gf gn ((suR gf gn 2) gi).2.2)).2.2 (M156.1 78 5).toInt (psX M156) (M160.1 78 5).toInt (psX M160) (by omega) (by omega) (by omega)
              refine j_goto C 130 dX8_unit_122 (by decide) ?_
              have u163r := un_4 gf gn 2 gi (M0.1 78 5).toInt (M0.1 78 6).toInt (psX M0) (M112.1 78 5).toInt (M112.1 78 6).toInt (psX M112) (M154.1 78 5).toInt (M154.1 78 6).toInt (M156.1 78 5).toInt (M156.1 78 6).toInt (psX M156) (M160.1 78 5).toInt (M160.1 78 6).toInt (psX M160) (by omega) (by omega) (by omega) (by omega) (by omega) (by omega) (by omega) (by omega) (by omega) (by omega) (by omega)
              exact hret _ _ _ dX8_unit_130 ⟨hM160, by omega⟩
      · refine j_aload_n C 1 0 dX8_unit_49 rfl rfl ?_
        refine j_iload_n C 2 1 dX8_unit_50 rfl rfl ?_
        refine j_callVv C (d := 0) (As := [.int (sI 4)]) (st := []) 78 (s_lt rfl rfl) (s_kc (c := 7) rfl rfl) (by decide) rfl (s5_X8_goDeeper hM0 hpr gf gn gi (by omega) (by omega) (by omega) (by omega) (by omega)) gX8_unit_X8_goDeeper rfl hdX8_goDeeper (by decide) (Nat.le_of_ble_eq_true rfl) dX8_unit_51 rfl (fun M165 h166 => ?_)
        obtain ⟨hM165, fM165, h167⟩ := h166
        have bM165 := tkx_b (f := gf) (n := gn) (M := M165) (by omega)
        refine j_aload_n C 1 0 dX8_unit_54 rfl rfl ?_
        refine j_iload_n C 2 1 dX8_unit_55 rfl rfl ?_
        refine y_iconst C dX8_unit_56 ?_
        refine y_iadd C dX8_unit_57 ?_
        refine j_callVv C (d := 11) (As := [.int (sI (4 + 1))]) (st := []) 78 (s_lt rfl rfl) (s_kc (c := 7) rfl rfl) (by decide) rfl (s3_X8_truth hM165 hpr gf gn (nxF gf gn gi) (by omega) (by omega)) gX8_unit_X8_truth rfl hdX8_truth (by decide) (Nat.le_of_ble_eq_true rfl) dX8_unit_58 rfl (fun M169 h170 => ?_)
        obtain ⟨hM169, h171⟩ := h170
        have bM169 := tkx_b (f := gf) (n := gn) (M := M169) (by omega)
        have qM169 := po_rr (trP gf gn (unR gf gn 1)) gn (nxF gf gn gi) (M165.1 78 5).toInt (M165.1 78 6).toInt (psX M165) (M169.1 78 5).toInt (M169.1 78 6).toInt (psX M169) (tr_g gf gn (unR_g gf gn 1)) (by omega) (by omega)
        refine j_aload_n C 1 0 dX8_unit_61 rfl rfl ?_
        refine y_sipush C dX8_unit_62 rfl ?_
        refine j_callVv C (d := 1) (As := [.int (sI 2093)]) (st := []) 78 (s_lt rfl rfl) (s_kc (c := 7) rfl rfl) (by decide) rfl (s1_X8_expect hM169 hpr 2093 (by omega) gf gn ((trP gf gn (unR gf gn 1)) (nxF gf gn gi)).2.2 (by omega) (by omega) (by omega) (by omega)) gX8_unit_X8_expect rfl hdX8_expect (by decide) (Nat.le_of_ble_eq_true rfl) dX8_unit_65 rfl (fun M173 h174 => ?_)
        obtain ⟨hM173, fM173, h175⟩ := h174
        have bM173 := tkx_b (f := gf) (n := gn) (M := M173) (by omega)
        have qM173 := po_rr (exP gf gn 2093) gn ((trP gf gn (unR gf gn 1)) (nxF gf gn gi)).2.2 (M169.1 78 5).toInt (M169.1 78 6).toInt (psX M169) (M173.1 78 5).toInt (M173.1 78 6).toInt (psX M173) (ex_g gf gn 2093 (by omega)) (by omega) (by omega)
        refine j_goto C 130 dX8_unit_68 (by decide) ?_
        have u176r := un_2 gf gn 1 2 rfl gi (M0.1 78 5).toInt (M0.1 78 6).toInt (psX M0) (M165.1 78 5).toInt (M165.1 78 6).toInt (M169.1 78 5).toInt (M169.1 78 6).toInt (psX M169) (M173.1 78 5).toInt (M173.1 78 6).toInt (psX M173) (by omega) (by omega) (by omega) (by omega) (by omega) (by omega)
        exact hret _ _ _ dX8_unit_130 ⟨hM173, by omega⟩
    · refine j_aload_n C 1 0 dX8_unit_20 rfl rfl ?_
      refine j_iload_n C 2 1 dX8_unit_21 rfl rfl ?_
      refine j_callVv C (d := 0) (As := [.int (sI 4)]) (st := []) 78 (s_lt rfl rfl) (s_kc (c := 7) rfl rfl) (by decide) rfl (s5_X8_goDeeper hM0 hpr gf gn gi (by omega) (by omega) (by omega) (by omega) (by omega)) gX8_unit_X8_goDeeper rfl hdX8_goDeeper (by decide) (Nat.le_of_ble_eq_true rfl) dX8_unit_22 rfl (fun M178 h179 => ?_)
      obtain ⟨hM178, fM178, h180⟩ := h179
      have bM178 := tkx_b (f := gf) (n := gn) (M := M178) (by omega)
      refine j_aload_n C 1 0 dX8_unit_25 rfl rfl ?_
      refine j_iload_n C 2 1 dX8_unit_26 rfl rfl ?_
      refine y_iconst C dX8_unit_27 ?_
      refine y_iadd C dX8_unit_28 ?_
      refine j_callVv C (d := 9) (As := [.int (sI (4 + 1))]) (st := []) 78 (s_lt rfl rfl) (s_kc (c := 7) rfl rfl) (by decide) rfl (s3_X8_unit hM178 hpr gf gn (nxF gf gn gi) (by omega) (by omega)) gX8_unit_X8_unit rfl hdX8_unit (by decide) (Nat.le_of_ble_eq_true rfl) dX8_unit_29 rfl (fun M182 h183 => ?_)
      obtain ⟨hM182, h184⟩ := h183
      have bM182 := tkx_b (f := gf) (n := gn) (M := M182) (by omega)
      have qM182 := po_rr (unR gf gn 1) gn (nxF gf gn gi) (M178.1 78 5).toInt (M178.1 78 6).toInt (psX M178) (M182.1 78 5).toInt (M182.1 78 6).toInt (psX M182) (unR_g gf gn 1) (by omega) (by omega)
      refine j_aload_n C 1 0 dX8_unit_32 rfl rfl ?_
      refine y_sipush C dX8_unit_33 rfl ?_
      refine j_callVv C (d := 0) (As := [.int (sI 1016)]) (st := []) 78 (s_lt rfl rfl) (s_kc (c := 7) rfl rfl) (by decide) rfl (s1_X8_emit hM182 hpr 1016 (by omega) gf gn ((unR gf gn 1) (nxF gf gn gi)).2.2 (by omega) (by omega)) gX8_unit_X8_emit rfl hdX8_emit (by decide) (Nat.le_of_ble_eq_true rfl) dX8_unit_36 rfl (fun M186 h187 => ?_)
      obtain ⟨hM186, h188⟩ := h187
      have bM186 := tkx_b (f := gf) (n := gn) (M := M186) (by omega)
      have qM186 := po_eq gn ((unR gf gn 1) (nxF gf gn gi)).2.2 (M182.1 78 5).toInt (psX M182) (M186.1 78 5).toInt (psX M186) (by omega) (by omega) (by omega)
      refine j_goto C 130 dX8_unit_39 (by decide) ?_
      have u189r := un_1 gf gn 1 2 rfl gi (M0.1 78 5).toInt (M0.1 78 6).toInt (psX M0) (M178.1 78 5).toInt (M178.1 78 6).toInt (M182.1 78 5).toInt (M182.1 78 6).toInt (psX M182) (M186.1 78 5).toInt (M186.1 78 6).toInt (psX M186) (by omega) (by omega) (by omega) (by omega) (by omega) (by omega) (by omega) (by omega)
      exact hret _ _ _ dX8_unit_130 ⟨hM186, by omega⟩
  · have u190r := rr_no ((unR gf gn 2) gi) (M0.1 78 5).toInt (M0.1 78 6).toInt (M0.1 78 5).toInt (M0.1 78 6).toInt (psX M0) (by omega) rfl rfl
    exact hret _ _ _ dX8_unit_7 ⟨hM0, by omega⟩
set_option maxHeartbeats 4000000 in
theorem s4_X8_both {l : Launch} {dC : Nat → ClassId} {dI : Nat → Nat → Nat} {ad : Nat → Nat} {cA : Nat → ClassId} {pr : Nat → Nat → Bool} {Kz : mm_M} {M0 : mm_M} (hM0 : INV pr Kz M0) (hpr : PX pr) (gf : Nat → Int) (gn : Int) (gi : Int) (hp0 : b01 (TKX gf gn M0) = 1) (hp1 : b01 (PO gn gi (M0.1 78 5).toInt (psX M0)) = 1) : Cv l 13 yX8_both wsX8_both dC dI ad cA [.ref (ad 78), .int (sI 4)] M0 (fun M' => INV pr Kz M' ∧ (b01 (TKX gf gn M') = 1) ∧ b01 (RR ((boP gf gn (unR gf gn 2)) gi) (M0.1 78 5).toInt (M0.1 78 6).toInt (M'.1 78 5).toInt (M'.1 78 6).toInt (psX M')) = 1) := by
  refine cv_of (cc := cX8_both) (maxL := 3) (lv := [(0, .ref (ad 78)), (1, .int (sI 4))]) (by decide) rfl (Nat.le_of_ble_eq_true rfl) rfl ?_
  intro p e s m args below meth c A Q C hret
  refine j_aload_n C 0 0 dX8_both_0 rfl rfl ?_
  refine j_iload_n C 1 1 dX8_both_1 rfl rfl ?_
  refine j_callVv C (d := 12) (As := [.int (sI 4)]) (st := []) 78 (s_lt rfl rfl) (s_kc (c := 7) rfl rfl) (by decide) rfl (s4_X8_unit hM0 hpr gf gn gi (by omega) (by omega)) gX8_both_X8_unit rfl hdX8_unit (by decide) (Nat.le_of_ble_eq_true rfl) dX8_both_2 rfl (fun M102 h103 => ?_)
  obtain ⟨hM102, h104⟩ := h103
  have bM102 := tkx_b (f := gf) (n := gn) (M := M102) (by omega)
  have qM102 := po_rr (unR gf gn 2) gn gi (M0.1 78 5).toInt (M0.1 78 6).toInt (psX M0) (M102.1 78 5).toInt (M102.1 78 6).toInt (psX M102) (unR_g gf gn 2) (by omega) (by omega)
  refine y_iconst C dX8_both_5 ?_
  have u105l := ll_0 (luP gf gn 1015 1015 (unR gf gn 2)) gn ((unR gf gn 2) gi).2.2 (M102.1 78 5).toInt (M102.1 78 6).toInt (psX M102) (by omega)
  refine j_istore_n C 2 [(2, .int (sI 0)), (0, .ref (ad 78)), (1, .int (sI 4))] dX8_both_6 rfl (by decide) rfl ?_
  have L134 : ∀ (n132 : Nat), ∀ (a135 : Int) (M136 : mm_M) (gq137 : Int), (0 ≤ a135 ∧ a135 ≤ 900 ∧ (b01 (LL (luP gf gn 1015 1015 (unR gf gn 2)) gn ((unR gf gn 2) gi).2.2 gq137 a135 (M102.1 78 5).toInt (M102.1 78 6).toInt (M136.1 78 5).toInt (M136.1 78 6).toInt (psX M136)) = 1) ∧ (b01 (TKX gf gn M136) = 1) ∧ (b01 (PO gn gq137 (M136.1 78 5).toInt (psX M136)) = 1) ∧ (900 - a135) < (n132 : Int)) → INV pr Kz M136 → jj p l e (cn_R 13) s m args below meth c 0 0 Q 3 dC dI ad cA A M136 7 [(0, .ref (ad 78)), (1, .int (sI 4)), (2, .int (sI a135))] [] := by
    intro n132
    induction n132 with
    | zero =>
      intro a135 M136 gq137 h138 hM136
      exfalso; omega
    | succ n132 ih133 =>
      intro a135 M136 gq137 h138 hM136
      have u139b := tkx_b (f := gf) (n := gn) (M := M136) (by omega)
      refine j_iload_n C 2 2 dX8_both_7 rfl rfl ?_
      refine y_sipush C dX8_both_8 rfl ?_
      refine y_icmp_ge C 59 dX8_both_11 (by decide) (by omega) (fun h140 => ?_) (fun h140 => ?_)
      · have u162e := ll_e gf gn 1015 1015 (unR gf gn 2) ((unR gf gn 2) gi).2.2 gq137 a135 (M102.1 78 5).toInt (M102.1 78 6).toInt (M136.1 78 5).toInt (M136.1 78 6).toInt (psX M136) (by decide) (unR_g gf gn 2) (by omega) (by omega)
        have u162r : b01 (RR ((boP gf gn (unR gf gn 2)) gi) (M0.1 78 5).toInt (M0.1 78 6).toInt (M136.1 78 5).toInt (M136.1 78 6).toInt (psX M136)) = 1 := rr_sq ((unR gf gn 2) gi) (luP gf gn 1015 1015 (unR gf gn 2)) (M0.1 78 5).toInt (M0.1 78 6).toInt (M102.1 78 5).toInt (M102.1 78 6).toInt (psX M102) (M136.1 78 5).toInt (M136.1 78 6).toInt (psX M136) (by omega) (by omega)
        exact hret _ _ _ dX8_both_59 ⟨hM136, by omega⟩
      · refine j_aload_n C 0 0 dX8_both_14 rfl rfl ?_
        refine y_getI C 7 _ _ fX8_both_22 rfl rfl ft_7_5 sb_7_5 hM136 dX8_both_15 (fun a141 ea141 la141 ua141 => ?_)
        refine y_if_ne C 59 dX8_both_18 (by decide) (by omega) (fun h143 => ?_) (fun h143 => ?_)
        · have u163e := ll_e gf gn 1015 1015 (unR gf gn 2) ((unR gf gn 2) gi).2.2 gq137 a135 (M102.1 78 5).toInt (M102.1 78 6).toInt (M136.1 78 5).toInt (M136.1 78 6).toInt (psX M136) (by decide) (unR_g gf gn 2) (by omega) (by omega)
          have u163r : b01 (RR ((boP gf gn (unR gf gn 2)) gi) (M0.1 78 5).toInt (M0.1 78 6).toInt (M136.1 78 5).toInt (M136.1 78 6).toInt (psX M136)) = 1 := rr_sq ((unR gf gn 2) gi) (luP gf gn 1015 1015 (unR gf gn 2)) (M0.1 78 5).toInt (M0.1 78 6).toInt (M102.1 78 5).toInt (M102.1 78 6).toInt (psX M102) (M136.1 78 5).toInt (M136.1 78 6).toInt (psX M136) (by omega) (by omega)
          exact hret _ _ _ dX8_both_59 ⟨hM136, by omega⟩
        · refine j_aload_n C 0 0 dX8_both_21 rfl rfl ?_
          refine j_callVi C (d := 0) (As := []) (st := []) 78 (s_lt rfl rfl) (s_kc (c := 7) rfl rfl) (by decide) rfl (s1_X8_token hM136 gf gn gq137 (by omega) (by omega)) gX8_both_X8_token rfl hdX8_token (by decide) (Nat.le_of_ble_eq_true rfl) dX8_both_22 rfl (fun r144 M145 h146 => ?_)
          obtain ⟨a148, rfl, rfl, h147⟩ := h146
          refine y_sipush C dX8_both_25 rfl ?_
          refine y_icmp_ne C 59 dX8_both_28 (by decide) (by omega) (fun h149 => ?_) (fun h149 => ?_)
          · have u164e := ll_e gf gn 1015 1015 (unR gf gn 2) ((unR gf gn 2) gi).2.2 gq137 a135 (M102.1 78 5).toInt (M102.1 78 6).toInt (M136.1 78 5).toInt (M136.1 78 6).toInt (psX M136) (by decide) (unR_g gf gn 2) (by omega) (by omega)
            have u164r : b01 (RR ((boP gf gn (unR gf gn 2)) gi) (M0.1 78 5).toInt (M0.1 78 6).toInt (M136.1 78 5).toInt (M136.1 78 6).toInt (psX M136)) = 1 := rr_sq ((unR gf gn 2) gi) (luP gf gn 1015 1015 (unR gf gn 2)) (M0.1 78 5).toInt (M0.1 78 6).toInt (M102.1 78 5).toInt (M102.1 78 6).toInt (psX M102) (M136.1 78 5).toInt (M136.1 78 6).toInt (psX M136) (by omega) (by omega)
            exact hret _ _ _ dX8_both_59 ⟨hM136, by omega⟩
          · refine j_aload_n C 0 0 dX8_both_31 rfl rfl ?_
            refine j_dup C dX8_both_32 rfl ?_
            refine y_getI C 7 _ _ fX8_both_18 rfl rfl ft_7_2 sb_7_2 hM136 dX8_both_33 (fun a150 ea150 la150 ua150 => ?_)
            refine y_iconst C dX8_both_36 ?_
            refine y_iadd C dX8_both_37 ?_
            refine y_putI C 7 _ _ qX8_both_18 rfl rfl ft_7_2 sb_7_2 hM136 (PX.w hpr rfl rfl) dX8_both_38 (by omega) (fun M152 eM152 hM152 => ?_)
            have xM152 := tkx_j (f := gf) (n := gn) (gi := gq137) eM152 (by omega) (by omega) (by omega) (by omega)
            refine j_aload_n C 0 0 dX8_both_41 rfl rfl ?_
            refine j_iload_n C 1 1 dX8_both_42 rfl rfl ?_
            refine j_callVv C (d := 12) (As := [.int (sI 4)]) (st := []) 78 (s_lt rfl rfl) (s_kc (c := 7) rfl rfl) (by decide) rfl (s4_X8_unit hM152 hpr gf gn (nxF gf gn gq137) (by omega) (by omega)) gX8_both_X8_unit rfl hdX8_unit (by decide) (Nat.le_of_ble_eq_true rfl) dX8_both_43 rfl (fun M154 h155 => ?_)
            obtain ⟨hM154, h156⟩ := h155
            have bM154 := tkx_b (f := gf) (n := gn) (M := M154) (by omega)
            have qM154 := po_rr (unR gf gn 2) gn (nxF gf gn gq137) (M152.1 78 5).toInt (M152.1 78 6).toInt (psX M152) (M154.1 78 5).toInt (M154.1 78 6).toInt (psX M154) (unR_g gf gn 2) (by omega) (by omega)
            refine j_aload_n C 0 0 dX8_both_46 rfl rfl ?_
            refine y_sipush C dX8_both_47 rfl ?_
            refine j_callVv C (d := 0) (As := [.int (sI 1015)]) (st := []) 78 (s_lt rfl rfl) (s_kc (c := 7) rfl rfl) (by decide) rfl (s1_X8_emit hM154 hpr 1015 (by omega) gf gn ((unR gf gn 2) (nxF gf gn gq137)).2.2 (by omega) (by omega)) gX8_both_X8_emit rfl hdX8_emit (by decide) (Nat.le_of_ble_eq_true rfl) dX8_both_50 rfl (fun M158 h159 => ?_)
            obtain ⟨hM158, h160⟩ := h159
            have bM158 := tkx_b (f := gf) (n := gn) (M := M158) (by omega)
            have qM158 := po_eq gn ((unR gf gn 2) (nxF gf gn gq137)).2.2 (M154.1 78 5).toInt (psX M154) (M158.1 78 5).toInt (psX M158) (by omega) (by omega) (by omega)
            refine y_iinc C 2 [(2, .int (sI (a135 + 1))), (0, .ref (ad 78)), (1, .int (sI 4))] dX8_both_53 rfl (by decide) rfl ?_
            have u161s := ll_s gf gn 1015 1015 (unR gf gn 2) ((unR gf gn 2) gi).2.2 gq137 a135 (M102.1 78 5).toInt (M102.1 78 6).toInt (M136.1 78 5).toInt (M136.1 78 6).toInt (psX M136) (M152.1 78 5).toInt (M152.1 78 6).toInt (M154.1 78 5).toInt (M154.1 78 6).toInt (psX M154) (M158.1 78 5).toInt (M158.1 78 6).toInt (psX M158) (by decide) (unR_g gf gn 2) (by omega) (by omega) (by omega) (by omega) (by omega) (by omega) (by omega) (by omega) (by omega)
            refine j_goto C 7 dX8_both_56 (by decide) ?_
            refine j_lv [1, 2, 0] rfl ?_; exact ih133 (a135 + 1) M158 ((unR gf gn 2) (nxF gf gn gq137)).2.2 (by omega) hM158
  refine j_lv [1, 2, 0] rfl ?_; exact L134 2010 0 M102 ((unR gf gn 2) gi).2.2 (by omega) hM102
set_option maxHeartbeats 4000000 in
theorem s4_X8_truth {l : Launch} {dC : Nat → ClassId} {dI : Nat → Nat → Nat} {ad : Nat → Nat} {cA : Nat → ClassId} {pr : Nat → Nat → Bool} {Kz : mm_M} {M0 : mm_M} (hM0 : INV pr Kz M0) (hpr : PX pr) (gf : Nat → Int) (gn : Int) (gi : Int) (hp0 : b01 (TKX gf gn M0) = 1) (hp1 : b01 (PO gn gi (M0.1 78 5).toInt (psX M0)) = 1) : Cv l 14 yX8_truth wsX8_truth dC dI ad cA [.ref (ad 78), .int (sI 4)] M0 (fun M' => INV pr Kz M' ∧ (b01 (TKX gf gn M') = 1) ∧ b01 (RR ((trP gf gn (unR gf gn 2)) gi) (M0.1 78 5).toInt (M0.1 78 6).toInt (M'.1 78 5).toInt (M'.1 78 6).toInt (psX M')) = 1) := by
  refine cv_of (cc := cX8_truth) (maxL := 3) (lv := [(0, .ref (ad 78)), (1, .int (sI 4))]) (by decide) rfl (Nat.le_of_ble_eq_true rfl) rfl ?_
  intro p e s m args below meth c A Q C hret
  refine j_aload_n C 0 0 dX8_truth_0 rfl rfl ?_
  refine j_iload_n C 1 1 dX8_truth_1 rfl rfl ?_
  refine j_callVv C (d := 13) (As := [.int (sI 4)]) (st := []) 78 (s_lt rfl rfl) (s_kc (c := 7) rfl rfl) (by decide) rfl (s4_X8_both hM0 hpr gf gn gi (by omega) (by omega)) gX8_truth_X8_both rfl hdX8_both (by decide) (Nat.le_of_ble_eq_true rfl) dX8_truth_2 rfl (fun M102 h103 => ?_)
  obtain ⟨hM102, h104⟩ := h103
  have bM102 := tkx_b (f := gf) (n := gn) (M := M102) (by omega)
  have qM102 := po_rr (boP gf gn (unR gf gn 2)) gn gi (M0.1 78 5).toInt (M0.1 78 6).toInt (psX M0) (M102.1 78 5).toInt (M102.1 78 6).toInt (psX M102) (bo_g gf gn (unR_g gf gn 2)) (by omega) (by omega)
  refine y_iconst C dX8_truth_5 ?_
  have u105l := ll_0 (luP gf gn 1014 1014 (boP gf gn (unR gf gn 2))) gn ((boP gf gn (unR gf gn 2)) gi).2.2 (M102.1 78 5).toInt (M102.1 78 6).toInt (psX M102) (by omega)
  refine j_istore_n C 2 [(2, .int (sI 0)), (0, .ref (ad 78)), (1, .int (sI 4))] dX8_truth_6 rfl (by decide) rfl ?_
  have L134 : ∀ (n132 : Nat), ∀ (a135 : Int) (M136 : mm_M) (gq137 : Int), (0 ≤ a135 ∧ a135 ≤ 900 ∧ (b01 (LL (luP gf gn 1014 1014 (boP gf gn (unR gf gn 2))) gn ((boP gf gn (unR gf gn 2)) gi).2.2 gq137 a135 (M102.1 78 5).toInt (M102.1 78 6).toInt (M136.1 78 5).toInt (M136.1 78 6).toInt (psX M136)) = 1) ∧ (b01 (TKX gf gn M136) = 1) ∧ (b01 (PO gn gq137 (M136.1 78 5).toInt (psX M136)) = 1) ∧ (900 - a135) < (n132 : Int)) → INV pr Kz M136 → jj p l e (cn_R 14) s m args below meth c 0 0 Q 3 dC dI ad cA A M136 7 [(0, .ref (ad 78)), (1, .int (sI 4)), (2, .int (sI a135))] [] := by
    intro n132
    induction n132 with
    | zero =>
      intro a135 M136 gq137 h138 hM136
      exfalso; omega
    | succ n132 ih133 =>
      intro a135 M136 gq137 h138 hM136
      have u139b := tkx_b (f := gf) (n := gn) (M := M136) (by omega)
      refine j_iload_n C 2 2 dX8_truth_7 rfl rfl ?_
      refine y_sipush C dX8_truth_8 rfl ?_
      refine y_icmp_ge C 59 dX8_truth_11 (by decide) (by omega) (fun h140 => ?_) (fun h140 => ?_)
      · have u162e := ll_e gf gn 1014 1014 (boP gf gn (unR gf gn 2)) ((boP gf gn (unR gf gn 2)) gi).2.2 gq137 a135 (M102.1 78 5).toInt (M102.1 78 6).toInt (M136.1 78 5).toInt (M136.1 78 6).toInt (psX M136) (by decide) (bo_g gf gn (unR_g gf gn 2)) (by omega) (by omega)
        have u162r : b01 (RR ((trP gf gn (unR gf gn 2)) gi) (M0.1 78 5).toInt (M0.1 78 6).toInt (M136.1 78 5).toInt (M136.1 78 6).toInt (psX M136)) = 1 := rr_sq ((boP gf gn (unR gf gn 2)) gi) (luP gf gn 1014 1014 (boP gf gn (unR gf gn 2))) (M0.1 78 5).toInt (M0.1 78 6).toInt (M102.1 78 5).toInt (M102.1 78 6).toInt (psX M102) (M136.1 78 5).toInt (M136.1 78 6).toInt (psX M136) (by omega) (by omega)
        exact hret _ _ _ dX8_truth_59 ⟨hM136, by omega⟩
      · refine j_aload_n C 0 0 dX8_truth_14 rfl rfl ?_
        refine y_getI C 7 _ _ fX8_truth_22 rfl rfl ft_7_5 sb_7_5 hM136 dX8_truth_15 (fun a141 ea141 la141 ua141 => ?_)
        refine y_if_ne C 59 dX8_truth_18 (by decide) (by omega) (fun h143 => ?_) (fun h143 => ?_)
        · have u163e := ll_e gf gn 1014 1014 (boP gf gn (unR gf gn 2)) ((boP gf gn (unR gf gn 2)) gi).2.2 gq137 a135 (M102.1 78 5).toInt (M102.1 78 6).toInt (M136.1 78 5).toInt (M136.1 78 6).toInt (psX M136) (by decide) (bo_g gf gn (unR_g gf gn 2)) (by omega) (by omega)
          have u163r : b01 (RR ((trP gf gn (unR gf gn 2)) gi) (M0.1 78 5).toInt (M0.1 78 6).toInt (M136.1 78 5).toInt (M136.1 78 6).toInt (psX M136)) = 1 := rr_sq ((boP gf gn (unR gf gn 2)) gi) (luP gf gn 1014 1014 (boP gf gn (unR gf gn 2))) (M0.1 78 5).toInt (M0.1 78 6).toInt (M102.1 78 5).toInt (M102.1 78 6).toInt (psX M102) (M136.1 78 5).toInt (M136.1 78 6).toInt (psX M136) (by omega) (by omega)
          exact hret _ _ _ dX8_truth_59 ⟨hM136, by omega⟩
        · refine j_aload_n C 0 0 dX8_truth_21 rfl rfl ?_
          refine j_callVi C (d := 0) (As := []) (st := []) 78 (s_lt rfl rfl) (s_kc (c := 7) rfl rfl) (by decide) rfl (s1_X8_token hM136 gf gn gq137 (by omega) (by omega)) gX8_truth_X8_token rfl hdX8_token (by decide) (Nat.le_of_ble_eq_true rfl) dX8_truth_22 rfl (fun r144 M145 h146 => ?_)
          obtain ⟨a148, rfl, rfl, h147⟩ := h146
          refine y_sipush C dX8_truth_25 rfl ?_
          refine y_icmp_ne C 59 dX8_truth_28 (by decide) (by omega) (fun h149 => ?_) (fun h149 => ?_)
          · have u164e := ll_e gf gn 1014 1014 (boP gf gn (unR gf gn 2)) ((boP gf gn (unR gf gn 2)) gi).2.2 gq137 a135 (M102.1 78 5).toInt (M102.1 78 6).toInt (M136.1 78 5).toInt (M136.1 78 6).toInt (psX M136) (by decide) (bo_g gf gn (unR_g gf gn 2)) (by omega) (by omega)
            have u164r : b01 (RR ((trP gf gn (unR gf gn 2)) gi) (M0.1 78 5).toInt (M0.1 78 6).toInt (M136.1 78 5).toInt (M136.1 78 6).toInt (psX M136)) = 1 := rr_sq ((boP gf gn (unR gf gn 2)) gi) (luP gf gn 1014 1014 (boP gf gn (unR gf gn 2))) (M0.1 78 5).toInt (M0.1 78 6).toInt (M102.1 78 5).toInt (M102.1 78 6).toInt (psX M102) (M136.1 78 5).toInt (M136.1 78 6).toInt (psX M136) (by omega) (by omega)
            exact hret _ _ _ dX8_truth_59 ⟨hM136, by omega⟩
          · refine j_aload_n C 0 0 dX8_truth_31 rfl rfl ?_
            refine j_dup C dX8_truth_32 rfl ?_
            refine y_getI C 7 _ _ fX8_truth_18 rfl rfl ft_7_2 sb_7_2 hM136 dX8_truth_33 (fun a150 ea150 la150 ua150 => ?_)
            refine y_iconst C dX8_truth_36 ?_
            refine y_iadd C dX8_truth_37 ?_
            refine y_putI C 7 _ _ qX8_truth_18 rfl rfl ft_7_2 sb_7_2 hM136 (PX.w hpr rfl rfl) dX8_truth_38 (by omega) (fun M152 eM152 hM152 => ?_)
            have xM152 := tkx_j (f := gf) (n := gn) (gi := gq137) eM152 (by omega) (by omega) (by omega) (by omega)
            refine j_aload_n C 0 0 dX8_truth_41 rfl rfl ?_
            refine j_iload_n C 1 1 dX8_truth_42 rfl rfl ?_
            refine j_callVv C (d := 13) (As := [.int (sI 4)]) (st := []) 78 (s_lt rfl rfl) (s_kc (c := 7) rfl rfl) (by decide) rfl (s4_X8_both hM152 hpr gf gn (nxF gf gn gq137) (by omega) (by omega)) gX8_truth_X8_both rfl hdX8_both (by decide) (Nat.le_of_ble_eq_true rfl) dX8_truth_43 rfl (fun M154 h155 => ?_)
            obtain ⟨hM154, h156⟩ := h155
            have bM154 := tkx_b (f := gf) (n := gn) (M := M154) (by omega)
            have qM154 := po_rr (boP gf gn (unR gf gn 2)) gn (nxF gf gn gq137) (M152.1 78 5).toInt (M152.1 78 6).toInt (psX M152) (M154.1 78 5).toInt (M154.1 78 6).toInt (psX M154) (bo_g gf gn (unR_g gf gn 2)) (by omega) (by omega)
            refine j_aload_n C 0 0 dX8_truth_46 rfl rfl ?_
            refine y_sipush C dX8_truth_47 rfl ?_
            refine j_callVv C (d := 0) (As := [.int (sI 1014)]) (st := []) 78 (s_lt rfl rfl) (s_kc (c := 7) rfl rfl) (by decide) rfl (s1_X8_emit hM154 hpr 1014 (by omega) gf gn ((boP gf gn (unR gf gn 2)) (nxF gf gn gq137)).2.2 (by omega) (by omega)) gX8_truth_X8_emit rfl hdX8_emit (by decide) (Nat.le_of_ble_eq_true rfl) dX8_truth_50 rfl (fun M158 h159 => ?_)
            obtain ⟨hM158, h160⟩ := h159
            have bM158 := tkx_b (f := gf) (n := gn) (M := M158) (by omega)
            have qM158 := po_eq gn ((boP gf gn (unR gf gn 2)) (nxF gf gn gq137)).2.2 (M154.1 78 5).toInt (psX M154) (M158.1 78 5).toInt (psX M158) (by omega) (by omega) (by omega)
            refine y_iinc C 2 [(2, .int (sI (a135 + 1))), (0, .ref (ad 78)), (1, .int (sI 4))] dX8_truth_53 rfl (by decide) rfl ?_
            have u161s := ll_s gf gn 1014 1014 (boP gf gn (unR gf gn 2)) ((boP gf gn (unR gf gn 2)) gi).2.2 gq137 a135 (M102.1 78 5).toInt (M102.1 78 6).toInt (M136.1 78 5).toInt (M136.1 78 6).toInt (psX M136) (M152.1 78 5).toInt (M152.1 78 6).toInt (M154.1 78 5).toInt (M154.1 78 6).toInt (psX M154) (M158.1 78 5).toInt (M158.1 78 6).toInt (psX M158) (by decide) (bo_g gf gn (unR_g gf gn 2)) (by omega) (by omega) (by omega) (by omega) (by omega) (by omega) (by omega) (by omega) (by omega)
            refine j_goto C 7 dX8_truth_56 (by decide) ?_
            refine j_lv [1, 2, 0] rfl ?_; exact ih133 (a135 + 1) M158 ((boP gf gn (unR gf gn 2)) (nxF gf gn gq137)).2.2 (by omega) hM158
  refine j_lv [1, 2, 0] rfl ?_; exact L134 2010 0 M102 ((boP gf gn (unR gf gn 2)) gi).2.2 (by omega) hM102
set_option maxHeartbeats 4000000 in
theorem s5_X8_unit {l : Launch} {dC : Nat → ClassId} {dI : Nat → Nat → Nat} {ad : Nat → Nat} {cA : Nat → ClassId} {pr : Nat → Nat → Bool} {Kz : mm_M} {M0 : mm_M} (hM0 : INV pr Kz M0) (hpr : PX pr) (gf : Nat → Int) (gn : Int) (gi : Int) (hp0 : b01 (TKX gf gn M0) = 1) (hp1 : b01 (PO gn gi (M0.1 78 5).toInt (psX M0)) = 1) : Cv l 15 yX8_unit wsX8_unit dC dI ad cA [.ref (ad 78), .int (sI 3)] M0 (fun M' => INV pr Kz M' ∧ (b01 (TKX gf gn M') = 1) ∧ b01 (RR ((unR gf gn 3) gi) (M0.1 78 5).toInt (M0.1 78 6).toInt (M'.1 78 5).toInt (M'.1 78 6).toInt (psX M')) = 1) := by
  refine cv_of (cc := cX8_unit) (maxL := 4) (lv := [(0, .ref (ad 78)), (1, .int (sI 3))]) (by decide) rfl (Nat.le_of_ble_eq_true rfl) rfl ?_
  intro p e s m args below meth c A Q C hret
  refine j_aload_n C 0 0 dX8_unit_0 rfl rfl ?_
  refine y_getI C 7 _ _ fX8_unit_22 rfl rfl ft_7_5 sb_7_5 hM0 dX8_unit_1 (fun a101 ea101 la101 ua101 => ?_)
  refine y_if_eq C 8 dX8_unit_4 (by decide) (by omega) (fun h103 => ?_) (fun h103 => ?_)
  · refine j_aload_n C 0 0 dX8_unit_8 rfl rfl ?_
    refine j_callVi C (d := 0) (As := []) (st := []) 78 (s_lt rfl rfl) (s_kc (c := 7) rfl rfl) (by decide) rfl (s1_X8_token hM0 gf gn gi (by omega) (by omega)) gX8_unit_X8_token rfl hdX8_token (by decide) (Nat.le_of_ble_eq_true rfl) dX8_unit_9 rfl (fun r104 M105 h106 => ?_)
    obtain ⟨a108, rfl, rfl, h107⟩ := h106
    refine j_istore_n C 2 [(2, .int (sI a108)), (0, .ref (ad 78)), (1, .int (sI 3))] dX8_unit_12 rfl (by decide) rfl ?_
    refine j_iload_n C 0 2 dX8_unit_13 rfl rfl ?_
    refine y_sipush C dX8_unit_14 rfl ?_
    refine y_icmp_ne C 42 dX8_unit_17 (by decide) (by omega) (fun h109 => ?_) (fun h109 => ?_)
    · refine j_iload_n C 0 2 dX8_unit_42 rfl rfl ?_
      refine y_sipush C dX8_unit_43 rfl ?_
      refine y_icmp_ne C 71 dX8_unit_46 (by decide) (by omega) (fun h110 => ?_) (fun h110 => ?_)
      · refine j_aload_n C 1 0 dX8_unit_71 rfl rfl ?_
        refine j_iload_n C 2 1 dX8_unit_72 rfl rfl ?_
        refine j_callVv C (d := 14) (As := [.int (sI 3)]) (st := []) 78 (s_lt rfl rfl) (s_kc (c := 7) rfl rfl) (by decide) rfl (s5_X8_sum hM0 hpr gf gn gi (by omega) (by omega)) gX8_unit_X8_sum rfl hdX8_sum (by decide) (Nat.le_of_ble_eq_true rfl) dX8_unit_73 rfl (fun M112 h113 => ?_)
        obtain ⟨hM112, h114⟩ := h113
        have bM112 := tkx_b (f := gf) (n := gn) (M := M112) (by omega)
        have qM112 := po_rr (suR gf gn 3) gn gi (M0.1 78 5).toInt (M0.1 78 6).toInt (psX M0) (M112.1 78 5).toInt (M112.1 78 6).toInt (psX M112) (suR_g gf gn 3) (by omega) (by omega)
        refine j_aload_n C 1 0 dX8_unit_76 rfl rfl ?_
        refine j_callVi C (d := 0) (As := []) (st := []) 78 (s_lt rfl rfl) (s_kc (c := 7) rfl rfl) (by decide) rfl (s1_X8_token hM112 gf gn ((suR gf gn 3) gi).2.2 (by omega) (by omega)) gX8_unit_X8_token rfl hdX8_token (by decide) (Nat.le_of_ble_eq_true rfl) dX8_unit_77 rfl (fun r115 M116 h117 => ?_)
        obtain ⟨a119, rfl, rfl, h118⟩ := h117
        refine j_istore_n C 3 [(3, .int (sI a119)), (2, .int (sI a108)), (0, .ref (ad 78)), (1, .int (sI 3))] dX8_unit_80 rfl (by decide) rfl ?_
        refine j_iload_n C 0 3 dX8_unit_81 rfl rfl ?_
        refine y_sipush C dX8_unit_82 rfl ?_
        refine y_icmp_eq C 102 dX8_unit_85 (by decide) (by omega) (fun h120 => ?_) (fun h120 => ?_)
        · refine j_aload_n C 2 0 dX8_unit_102 rfl rfl ?_
          refine j_dup C dX8_unit_103 rfl ?_
          refine y_getI C 7 _ _ fX8_unit_18 rfl rfl ft_7_2 sb_7_2 hM112 dX8_unit_104 (fun a121 ea121 la121 ua121 => ?_)
          refine y_iconst C dX8_unit_107 ?_
          refine y_iadd C dX8_unit_108 ?_
          refine y_putI C 7 _ _ qX8_unit_18 rfl rfl ft_7_2 sb_7_2 hM112 (PX.w hpr rfl rfl) dX8_unit_109 (by omega) (fun M123 eM123 hM123 => ?_)
          have xM123 := tkx_j (f := gf) (n := gn) (gi := ((suR gf gn 3) gi).2.2) eM123 (by omega) (by omega) (by omega) (by omega)
          refine j_aload_n C 2 0 dX8_unit_112 rfl rfl ?_
          refine j_iload_n C 3 1 dX8_unit_113 rfl rfl ?_
          refine j_callVv C (d := 14) (As := [.int (sI 3)]) (st := []) 78 (s_lt rfl rfl) (s_kc (c := 7) rfl rfl) (by decide) rfl (s5_X8_sum hM123 hpr gf gn (nxF gf gn ((suR gf gn 3) gi).2.2) (by omega) (by omega)) gX8_unit_X8_sum rfl hdX8_sum (by decide) (Nat.le_of_ble_eq_true rfl) dX8_unit_114 rfl (fun M125 h126 => ?_)
          obtain ⟨hM125, h127⟩ := h126
          have bM125 := tkx_b (f := gf) (n := gn) (M := M125) (by omega)
          have qM125 := po_rr (suR gf gn 3) gn (nxF gf gn ((suR gf gn 3) gi).2.2) (M123.1 78 5).toInt (M123.1 78 6).toInt (psX M123) (M125.1 78 5).toInt (M125.1 78 6).toInt (psX M125) (suR_g gf gn 3) (by omega) (by omega)
          refine j_aload_n C 2 0 dX8_unit_117 rfl rfl ?_
          refine j_iload_n C 0 3 dX8_unit_118 rfl rfl ?_
          refine j_callVv C (d := 0) (As := [.int (sI a119)]) (st := []) 78 (s_lt rfl rfl) (s_kc (c := 7) rfl rfl) (by decide) rfl (s1_X8_emit hM125 hpr a119 (by omega) gf gn ((suR gf gn 3) (nxF gf gn ((suR gf gn 3) gi).2.2)).2.2 (by omega) (by omega)) gX8_unit_X8_emit rfl hdX8_emit (by decide) (Nat.le_of_ble_eq_true rfl) dX8_unit_119 rfl (fun M129 h130 => ?_)
          obtain ⟨hM129, h131⟩ := h130
          have bM129 := tkx_b (f := gf) (n := gn) (M := M129) (by omega)
          have qM129 := po_eq gn ((suR gf gn 3) (nxF gf gn ((suR gf gn 3) gi).2.2)).2.2 (M125.1 78 5).toInt (psX M125) (M129.1 78 5).toInt (psX M129) (by omega) (by omega) (by omega)
          refine j_goto C 130 dX8_unit_122 (by decide) ?_
          have u132r := un_4 gf gn 3 gi (M0.1 78 5).toInt (M0.1 78 6).toInt (psX M0) (M112.1 78 5).toInt (M112.1 78 6).toInt (psX M112) (M123.1 78 5).toInt (M123.1 78 6).toInt (M125.1 78 5).toInt (M125.1 78 6).toInt (psX M125) (M129.1 78 5).toInt (M129.1 78 6).toInt (psX M129) (by omega) (by omega) (by omega) (by omega) (by omega) (by omega) (by omega) (by omega) (by omega) (by omega) (by omega)
          exact hret _ _ _ dX8_unit_130 ⟨hM129, by omega⟩
        · refine j_iload_n C 0 3 dX8_unit_88 rfl rfl ?_
          refine y_sipush C dX8_unit_89 rfl ?_
          refine y_icmp_eq C 102 dX8_unit_92 (by decide) (by omega) (fun h133 => ?_) (fun h133 => ?_)
          · refine j_aload_n C 2 0 dX8_unit_102 rfl rfl ?_
            refine j_dup C dX8_unit_103 rfl ?_
            refine y_getI C 7 _ _ fX8_unit_18 rfl rfl ft_7_2 sb_7_2 hM112 dX8_unit_104 (fun a134 ea134 la134 ua134 => ?_)
            refine y_iconst C dX8_unit_107 ?_
            refine y_iadd C dX8_unit_108 ?_
            refine y_putI C 7 _ _ qX8_unit_18 rfl rfl ft_7_2 sb_7_2 hM112 (PX.w hpr rfl rfl) dX8_unit_109 (by omega) (fun M136 eM136 hM136 => ?_)
            have xM136 := tkx_j (f := gf) (n := gn) (gi := ((suR gf gn 3) gi).2.2) eM136 (by omega) (by omega) (by omega) (by omega)
            refine j_aload_n C 2 0 dX8_unit_112 rfl rfl ?_
            refine j_iload_n C 3 1 dX8_unit_113 rfl rfl ?_
            refine j_callVv C (d := 14) (As := [.int (sI 3)]) (st := []) 78 (s_lt rfl rfl) (s_kc (c := 7) rfl rfl) (by decide) rfl (s5_X8_sum hM136 hpr gf gn (nxF gf gn ((suR gf gn 3) gi).2.2) (by omega) (by omega)) gX8_unit_X8_sum rfl hdX8_sum (by decide) (Nat.le_of_ble_eq_true rfl) dX8_unit_114 rfl (fun M138 h139 => ?_)
            obtain ⟨hM138, h140⟩ := h139
            have bM138 := tkx_b (f := gf) (n := gn) (M := M138) (by omega)
            have qM138 := po_rr (suR gf gn 3) gn (nxF gf gn ((suR gf gn 3) gi).2.2) (M136.1 78 5).toInt (M136.1 78 6).toInt (psX M136) (M138.1 78 5).toInt (M138.1 78 6).toInt (psX M138) (suR_g gf gn 3) (by omega) (by omega)
            refine j_aload_n C 2 0 dX8_unit_117 rfl rfl ?_
            refine j_iload_n C 0 3 dX8_unit_118 rfl rfl ?_
            refine j_callVv C (d := 0) (As := [.int (sI a119)]) (st := []) 78 (s_lt rfl rfl) (s_kc (c := 7) rfl rfl) (by decide) rfl (s1_X8_emit hM138 hpr a119 (by omega) gf gn ((suR gf gn 3) (nxF gf gn ((suR gf gn 3) gi).2.2)).2.2 (by omega) (by omega)) gX8_unit_X8_emit rfl hdX8_emit (by decide) (Nat.le_of_ble_eq_true rfl) dX8_unit_119 rfl (fun M142 h143 => ?_)
            obtain ⟨hM142, h144⟩ := h143
            have bM142 := tkx_b (f := gf) (n := gn) (M := M142) (by omega)
            have qM142 := po_eq gn ((suR gf gn 3) (nxF gf gn ((suR gf gn 3) gi).2.2)).2.2 (M138.1 78 5).toInt (psX M138) (M142.1 78 5).toInt (psX M142) (by omega) (by omega) (by omega)
            refine j_goto C 130 dX8_unit_122 (by decide) ?_
            have u145r := un_4 gf gn 3 gi (M0.1 78 5).toInt (M0.1 78 6).toInt (psX M0) (M112.1 78 5).toInt (M112.1 78 6).toInt (psX M112) (M136.1 78 5).toInt (M136.1 78 6).toInt (M138.1 78 5).toInt (M138.1 78 6).toInt (psX M138) (M142.1 78 5).toInt (M142.1 78 6).toInt (psX M142) (by omega) (by omega) (by omega) (by omega) (by omega) (by omega) (by omega) (by omega) (by omega) (by omega) (by omega)
            exact hret _ _ _ dX8_unit_130 ⟨hM142, by omega⟩
          · refine j_iload_n C 0 3 dX8_unit_95 rfl rfl ?_
            refine y_sipush C dX8_unit_96 rfl ?_
            refine y_icmp_ne C 125 dX8_unit_99 (by decide) (by omega) (fun h146 => ?_) (fun h146 => ?_)
            · refine j_aload_n C 2 0 dX8_unit_125 rfl rfl ?_
              refine y_iconst C dX8_unit_126 ?_
              refine j_callVv C (d := 0) (As := [.int (sI 2)]) (st := []) 78 (s_lt rfl rfl) (s_kc (c := 7) rfl rfl) (by decide) rfl (s1_X8_fail hM112 hpr 2 (by omega) gf gn ((suR gf gn 3) gi).2.2 (by omega) (by omega) (by omega)) gX8_unit_X8_fail rfl hdX8_fail (by decide) (Nat.le_of_ble_eq_true rfl) dX8_unit_127 rfl (fun M148 h149 => ?_)
              obtain ⟨hM148, fM148, h150⟩ := h149
              have bM148 := tkx_b (f := gf) (n := gn) (M := M148) (by omega)
              have qM148 := po_f gn ((suR gf gn 3) gi).2.2 (M148.1 78 5).toInt (psX M148) (by omega)
              have u151r := un_5 gf gn 3 gi (M0.1 78 5).toInt (M0.1 78 6).toInt (psX M0) (M112.1 78 5).toInt (M112.1 78 6).toInt (psX M112) (M148.1 78 5).toInt (M148.1 78 6).toInt (psX M148) (by omega) (by omega) (by omega) (by omega) (fun _ => by omega) (by omega)
              exact hret _ _ _ dX8_unit_130 ⟨hM148, by omega⟩
            · refine j_aload_n C 2 0 dX8_unit_102 rfl rfl ?_
              refine j_dup C dX8_unit_103 rfl ?_
              refine y_getI C 7 _ _ fX8_unit_18 rfl rfl ft_7_2 sb_7_2 hM112 dX8_unit_104 (fun a152 ea152 la152 ua152 => ?_)
              refine y_iconst C dX8_unit_107 ?_
              refine y_iadd C dX8_unit_108 ?_
              refine y_putI C 7 _ _ qX8_unit_18 rfl rfl ft_7_2 sb_7_2 hM112 (PX.w hpr rfl rfl) dX8_unit_109 (by omega) (fun M154 eM154 hM154 => ?_)
              have xM154 := tkx_j (f := gf) (n := gn) (gi := ((suR gf gn 3) gi).2.2) eM154 (by omega) (by omega) (by omega) (by omega)
              refine j_aload_n C 2 0 dX8_unit_112 rfl rfl ?_
              refine j_iload_n C 3 1 dX8_unit_113 rfl rfl ?_
              refine j_callVv C (d := 14) (As := [.int (sI 3)]) (st := []) 78 (s_lt rfl rfl) (s_kc (c := 7) rfl rfl) (by decide) rfl (s5_X8_sum hM154 hpr gf gn (nxF gf gn ((suR gf gn 3) gi).2.2) (by omega) (by omega)) gX8_unit_X8_sum rfl hdX8_sum (by decide) (Nat.le_of_ble_eq_true rfl) dX8_unit_114 rfl (fun M156 h157 => ?_)
              obtain ⟨hM156, h158⟩ := h157
              have bM156 := tkx_b (f := gf) (n := gn) (M := M156) (by omega)
              have qM156 := po_rr (suR gf gn 3) gn (nxF gf gn ((suR gf gn 3) gi).2.2) (M154.1 78 5).toInt (M154.1 78 6).toInt (psX M154) (M156.1 78 5).toInt (M156.1 78 6).toInt (psX M156) (suR_g gf gn 3) (by omega) (by omega)
              refine j_aload_n C 2 0 dX8_unit_117 rfl rfl ?_
              refine j_iload_n C 0 3 dX8_unit_118 rfl rfl ?_
              refine j_callVv C (d := 0) (As := [.int (sI a119)]) (st := []) 78 (s_lt rfl rfl) (s_kc (c := 7) rfl rfl) (by decide) rfl (s1_X8_emit hM156 hpr a119 (by omega) gf gn ((suR gf gn 3) (nxF gf gn ((suR gf gn 3) gi).2.2)).2.2 (by omega) (by omega)) gX8_unit_X8_emit rfl hdX8_emit (by decide) (Nat.le_of_ble_eq_true rfl) dX8_unit_119 rfl (fun M160 h161 => ?_)
              obtain ⟨hM160, h162⟩ := h161
              have bM160 := tkx_b (f := gf) (n := gn) (M := M160) (by omega)
              have qM160 := po_eq gn ((suR gf gn 3) (nxF gf gn ((suR gf gn 3) gi).2.2)).2.2 (M156.1 78 5).toInt (psX M156) (M160.1 78 5).toInt (psX M160) (by omega) (by omega) (by omega)
              refine j_goto C 130 dX8_unit_122 (by decide) ?_
              have u163r := un_4 gf gn 3 gi (M0.1 78 5).toInt (M0.1 78 6).toInt (psX M0) (M112.1 78 5).toInt (M112.1 78 6).toInt (psX M112) (M154.1 78 5).toInt (M154.1 78 6).toInt (M156.1 78 5).toInt (M156.1 78 6).toInt (psX M156) (M160.1 78 5).toInt (M160.1 78 6).toInt (psX M160) (by omega) (by omega) (by omega) (by omega) (by omega) (by omega) (by omega) (by omega) (by omega) (by omega) (by omega)
              exact hret _ _ _ dX8_unit_130 ⟨hM160, by omega⟩
      · refine j_aload_n C 1 0 dX8_unit_49 rfl rfl ?_
        refine j_iload_n C 2 1 dX8_unit_50 rfl rfl ?_
        refine j_callVv C (d := 0) (As := [.int (sI 3)]) (st := []) 78 (s_lt rfl rfl) (s_kc (c := 7) rfl rfl) (by decide) rfl (s4_X8_goDeeper hM0 hpr gf gn gi (by omega) (by omega) (by omega) (by omega) (by omega)) gX8_unit_X8_goDeeper rfl hdX8_goDeeper (by decide) (Nat.le_of_ble_eq_true rfl) dX8_unit_51 rfl (fun M165 h166 => ?_)
        obtain ⟨hM165, fM165, h167⟩ := h166
        have bM165 := tkx_b (f := gf) (n := gn) (M := M165) (by omega)
        refine j_aload_n C 1 0 dX8_unit_54 rfl rfl ?_
        refine j_iload_n C 2 1 dX8_unit_55 rfl rfl ?_
        refine y_iconst C dX8_unit_56 ?_
        refine y_iadd C dX8_unit_57 ?_
        refine j_callVv C (d := 14) (As := [.int (sI (3 + 1))]) (st := []) 78 (s_lt rfl rfl) (s_kc (c := 7) rfl rfl) (by decide) rfl (s4_X8_truth hM165 hpr gf gn (nxF gf gn gi) (by omega) (by omega)) gX8_unit_X8_truth rfl hdX8_truth (by decide) (Nat.le_of_ble_eq_true rfl) dX8_unit_58 rfl (fun M169 h170 => ?_)
        obtain ⟨hM169, h171⟩ := h170
        have bM169 := tkx_b (f := gf) (n := gn) (M := M169) (by omega)
        have qM169 := po_rr (trP gf gn (unR gf gn 2)) gn (nxF gf gn gi) (M165.1 78 5).toInt (M165.1 78 6).toInt (psX M165) (M169.1 78 5).toInt (M169.1 78 6).toInt (psX M169) (tr_g gf gn (unR_g gf gn 2)) (by omega) (by omega)
        refine j_aload_n C 1 0 dX8_unit_61 rfl rfl ?_
        refine y_sipush C dX8_unit_62 rfl ?_
        refine j_callVv C (d := 1) (As := [.int (sI 2093)]) (st := []) 78 (s_lt rfl rfl) (s_kc (c := 7) rfl rfl) (by decide) rfl (s1_X8_expect hM169 hpr 2093 (by omega) gf gn ((trP gf gn (unR gf gn 2)) (nxF gf gn gi)).2.2 (by omega) (by omega) (by omega) (by omega)) gX8_unit_X8_expect rfl hdX8_expect (by decide) (Nat.le_of_ble_eq_true rfl) dX8_unit_65 rfl (fun M173 h174 => ?_)
        obtain ⟨hM173, fM173, h175⟩ := h174
        have bM173 := tkx_b (f := gf) (n := gn) (M := M173) (by omega)
        have qM173 := po_rr (exP gf gn 2093) gn ((trP gf gn (unR gf gn 2)) (nxF gf gn gi)).2.2 (M169.1 78 5).toInt (M169.1 78 6).toInt (psX M169) (M173.1 78 5).toInt (M173.1 78 6).toInt (psX M173) (ex_g gf gn 2093 (by omega)) (by omega) (by omega)
        refine j_goto C 130 dX8_unit_68 (by decide) ?_
        have u176r := un_2 gf gn 2 3 rfl gi (M0.1 78 5).toInt (M0.1 78 6).toInt (psX M0) (M165.1 78 5).toInt (M165.1 78 6).toInt (M169.1 78 5).toInt (M169.1 78 6).toInt (psX M169) (M173.1 78 5).toInt (M173.1 78 6).toInt (psX M173) (by omega) (by omega) (by omega) (by omega) (by omega) (by omega)
        exact hret _ _ _ dX8_unit_130 ⟨hM173, by omega⟩
    · refine j_aload_n C 1 0 dX8_unit_20 rfl rfl ?_
      refine j_iload_n C 2 1 dX8_unit_21 rfl rfl ?_
      refine j_callVv C (d := 0) (As := [.int (sI 3)]) (st := []) 78 (s_lt rfl rfl) (s_kc (c := 7) rfl rfl) (by decide) rfl (s4_X8_goDeeper hM0 hpr gf gn gi (by omega) (by omega) (by omega) (by omega) (by omega)) gX8_unit_X8_goDeeper rfl hdX8_goDeeper (by decide) (Nat.le_of_ble_eq_true rfl) dX8_unit_22 rfl (fun M178 h179 => ?_)
      obtain ⟨hM178, fM178, h180⟩ := h179
      have bM178 := tkx_b (f := gf) (n := gn) (M := M178) (by omega)
      refine j_aload_n C 1 0 dX8_unit_25 rfl rfl ?_
      refine j_iload_n C 2 1 dX8_unit_26 rfl rfl ?_
      refine y_iconst C dX8_unit_27 ?_
      refine y_iadd C dX8_unit_28 ?_
      refine j_callVv C (d := 12) (As := [.int (sI (3 + 1))]) (st := []) 78 (s_lt rfl rfl) (s_kc (c := 7) rfl rfl) (by decide) rfl (s4_X8_unit hM178 hpr gf gn (nxF gf gn gi) (by omega) (by omega)) gX8_unit_X8_unit rfl hdX8_unit (by decide) (Nat.le_of_ble_eq_true rfl) dX8_unit_29 rfl (fun M182 h183 => ?_)
      obtain ⟨hM182, h184⟩ := h183
      have bM182 := tkx_b (f := gf) (n := gn) (M := M182) (by omega)
      have qM182 := po_rr (unR gf gn 2) gn (nxF gf gn gi) (M178.1 78 5).toInt (M178.1 78 6).toInt (psX M178) (M182.1 78 5).toInt (M182.1 78 6).toInt (psX M182) (unR_g gf gn 2) (by omega) (by omega)
      refine j_aload_n C 1 0 dX8_unit_32 rfl rfl ?_
      refine y_sipush C dX8_unit_33 rfl ?_
      refine j_callVv C (d := 0) (As := [.int (sI 1016)]) (st := []) 78 (s_lt rfl rfl) (s_kc (c := 7) rfl rfl) (by decide) rfl (s1_X8_emit hM182 hpr 1016 (by omega) gf gn ((unR gf gn 2) (nxF gf gn gi)).2.2 (by omega) (by omega)) gX8_unit_X8_emit rfl hdX8_emit (by decide) (Nat.le_of_ble_eq_true rfl) dX8_unit_36 rfl (fun M186 h187 => ?_)
      obtain ⟨hM186, h188⟩ := h187
      have bM186 := tkx_b (f := gf) (n := gn) (M := M186) (by omega)
      have qM186 := po_eq gn ((unR gf gn 2) (nxF gf gn gi)).2.2 (M182.1 78 5).toInt (psX M182) (M186.1 78 5).toInt (psX M186) (by omega) (by omega) (by omega)
      refine j_goto C 130 dX8_unit_39 (by decide) ?_
      have u189r := un_1 gf gn 2 3 rfl gi (M0.1 78 5).toInt (M0.1 78 6).toInt (psX M0) (M178.1 78 5).toInt (M178.1 78 6).toInt (M182.1 78 5).toInt (M182.1 78 6).toInt (psX M182) (M186.1 78 5).toInt (M186.1 78 6).toInt (psX M186) (by omega) (by omega) (by omega) (by omega) (by omega) (by omega) (by omega) (by omega)
      exact hret _ _ _ dX8_unit_130 ⟨hM186, by omega⟩
  · have u190r := rr_no ((unR gf gn 3) gi) (M0.1 78 5).toInt (M0.1 78 6).toInt (M0.1 78 5).toInt (M0.1 78 6).toInt (psX M0) (by omega) rfl rfl
    exact hret _ _ _ dX8_unit_7 ⟨hM0, by omega⟩
set_option maxHeartbeats 4000000 in
theorem s5_X8_both {l : Launch} {dC : Nat → ClassId} {dI : Nat → Nat → Nat} {ad : Nat → Nat} {cA : Nat → ClassId} {pr : Nat → Nat → Bool} {Kz : mm_M} {M0 : mm_M} (hM0 : INV pr Kz M0) (hpr : PX pr) (gf : Nat → Int) (gn : Int) (gi : Int) (hp0 : b01 (TKX gf gn M0) = 1) (hp1 : b01 (PO gn gi (M0.1 78 5).toInt (psX M0)) = 1) : Cv l 16 yX8_both wsX8_both dC dI ad cA [.ref (ad 78), .int (sI 3)] M0 (fun M' => INV pr Kz M' ∧ (b01 (TKX gf gn M') = 1) ∧ b01 (RR ((boP gf gn (unR gf gn 3)) gi) (M0.1 78 5).toInt (M0.1 78 6).toInt (M'.1 78 5).toInt (M'.1 78 6).toInt (psX M')) = 1) := by
  refine cv_of (cc := cX8_both) (maxL := 3) (lv := [(0, .ref (ad 78)), (1, .int (sI 3))]) (by decide) rfl (Nat.le_of_ble_eq_true rfl) rfl ?_
  intro p e s m args below meth c A Q C hret
  refine j_aload_n C 0 0 dX8_both_0 rfl rfl ?_
  refine j_iload_n C 1 1 dX8_both_1 rfl rfl ?_
  refine j_callVv C (d := 15) (As := [.int (sI 3)]) (st := []) 78 (s_lt rfl rfl) (s_kc (c := 7) rfl rfl) (by decide) rfl (s5_X8_unit hM0 hpr gf gn gi (by omega) (by omega)) gX8_both_X8_unit rfl hdX8_unit (by decide) (Nat.le_of_ble_eq_true rfl) dX8_both_2 rfl (fun M102 h103 => ?_)
  obtain ⟨hM102, h104⟩ := h103
  have bM102 := tkx_b (f := gf) (n := gn) (M := M102) (by omega)
  have qM102 := po_rr (unR gf gn 3) gn gi (M0.1 78 5).toInt (M0.1 78 6).toInt (psX M0) (M102.1 78 5).toInt (M102.1 78 6).toInt (psX M102) (unR_g gf gn 3) (by omega) (by omega)
  refine y_iconst C dX8_both_5 ?_
  have u105l := ll_0 (luP gf gn 1015 1015 (unR gf gn 3)) gn ((unR gf gn 3) gi).2.2 (M102.1 78 5).toInt (M102.1 78 6).toInt (psX M102) (by omega)
  refine j_istore_n C 2 [(2, .int (sI 0)), (0, .ref (ad 78)), (1, .int (sI 3))] dX8_both_6 rfl (by decide) rfl ?_
  have L134 : ∀ (n132 : Nat), ∀ (a135 : Int) (M136 : mm_M) (gq137 : Int), (0 ≤ a135 ∧ a135 ≤ 900 ∧ (b01 (LL (luP gf gn 1015 1015 (unR gf gn 3)) gn ((unR gf gn 3) gi).2.2 gq137 a135 (M102.1 78 5).toInt (M102.1 78 6).toInt (M136.1 78 5).toInt (M136.1 78 6).toInt (psX M136)) = 1) ∧ (b01 (TKX gf gn M136) = 1) ∧ (b01 (PO gn gq137 (M136.1 78 5).toInt (psX M136)) = 1) ∧ (900 - a135) < (n132 : Int)) → INV pr Kz M136 → jj p l e (cn_R 16) s m args below meth c 0 0 Q 3 dC dI ad cA A M136 7 [(0, .ref (ad 78)), (1, .int (sI 3)), (2, .int (sI a135))] [] := by
    intro n132
    induction n132 with
    | zero =>
      intro a135 M136 gq137 h138 hM136
      exfalso; omega
    | succ n132 ih133 =>
      intro a135 M136 gq137 h138 hM136
      have u139b := tkx_b (f := gf) (n := gn) (M := M136) (by omega)
      refine j_iload_n C 2 2 dX8_both_7 rfl rfl ?_
      refine y_sipush C dX8_both_8 rfl ?_
      refine y_icmp_ge C 59 dX8_both_11 (by decide) (by omega) (fun h140 => ?_) (fun h140 => ?_)
      · have u162e := ll_e gf gn 1015 1015 (unR gf gn 3) ((unR gf gn 3) gi).2.2 gq137 a135 (M102.1 78 5).toInt (M102.1 78 6).toInt (M136.1 78 5).toInt (M136.1 78 6).toInt (psX M136) (by decide) (unR_g gf gn 3) (by omega) (by omega)
        have u162r : b01 (RR ((boP gf gn (unR gf gn 3)) gi) (M0.1 78 5).toInt (M0.1 78 6).toInt (M136.1 78 5).toInt (M136.1 78 6).toInt (psX M136)) = 1 := rr_sq ((unR gf gn 3) gi) (luP gf gn 1015 1015 (unR gf gn 3)) (M0.1 78 5).toInt (M0.1 78 6).toInt (M102.1 78 5).toInt (M102.1 78 6).toInt (psX M102) (M136.1 78 5).toInt (M136.1 78 6).toInt (psX M136) (by omega) (by omega)
        exact hret _ _ _ dX8_both_59 ⟨hM136, by omega⟩
      · refine j_aload_n C 0 0 dX8_both_14 rfl rfl ?_
        refine y_getI C 7 _ _ fX8_both_22 rfl rfl ft_7_5 sb_7_5 hM136 dX8_both_15 (fun a141 ea141 la141 ua141 => ?_)
        refine y_if_ne C 59 dX8_both_18 (by decide) (by omega) (fun h143 => ?_) (fun h143 => ?_)
        · have u163e := ll_e gf gn 1015 1015 (unR gf gn 3) ((unR gf gn 3) gi).2.2 gq137 a135 (M102.1 78 5).toInt (M102.1 78 6).toInt (M136.1 78 5).toInt (M136.1 78 6).toInt (psX M136) (by decide) (unR_g gf gn 3) (by omega) (by omega)
          have u163r : b01 (RR ((boP gf gn (unR gf gn 3)) gi) (M0.1 78 5).toInt (M0.1 78 6).toInt (M136.1 78 5).toInt (M136.1 78 6).toInt (psX M136)) = 1 := rr_sq ((unR gf gn 3) gi) (luP gf gn 1015 1015 (unR gf gn 3)) (M0.1 78 5).toInt (M0.1 78 6).toInt (M102.1 78 5).toInt (M102.1 78 6).toInt (psX M102) (M136.1 78 5).toInt (M136.1 78 6).toInt (psX M136) (by omega) (by omega)
          exact hret _ _ _ dX8_both_59 ⟨hM136, by omega⟩
        · refine j_aload_n C 0 0 dX8_both_21 rfl rfl ?_
          refine j_callVi C (d := 0) (As := []) (st := []) 78 (s_lt rfl rfl) (s_kc (c := 7) rfl rfl) (by decide) rfl (s1_X8_token hM136 gf gn gq137 (by omega) (by omega)) gX8_both_X8_token rfl hdX8_token (by decide) (Nat.le_of_ble_eq_true rfl) dX8_both_22 rfl (fun r144 M145 h146 => ?_)
          obtain ⟨a148, rfl, rfl, h147⟩ := h146
          refine y_sipush C dX8_both_25 rfl ?_
          refine y_icmp_ne C 59 dX8_both_28 (by decide) (by omega) (fun h149 => ?_) (fun h149 => ?_)
          · have u164e := ll_e gf gn 1015 1015 (unR gf gn 3) ((unR gf gn 3) gi).2.2 gq137 a135 (M102.1 78 5).toInt (M102.1 78 6).toInt (M136.1 78 5).toInt (M136.1 78 6).toInt (psX M136) (by decide) (unR_g gf gn 3) (by omega) (by omega)
            have u164r : b01 (RR ((boP gf gn (unR gf gn 3)) gi) (M0.1 78 5).toInt (M0.1 78 6).toInt (M136.1 78 5).toInt (M136.1 78 6).toInt (psX M136)) = 1 := rr_sq ((unR gf gn 3) gi) (luP gf gn 1015 1015 (unR gf gn 3)) (M0.1 78 5).toInt (M0.1 78 6).toInt (M102.1 78 5).toInt (M102.1 78 6).toInt (psX M102) (M136.1 78 5).toInt (M136.1 78 6).toInt (psX M136) (by omega) (by omega)
            exact hret _ _ _ dX8_both_59 ⟨hM136, by omega⟩
          · refine j_aload_n C 0 0 dX8_both_31 rfl rfl ?_
            refine j_dup C dX8_both_32 rfl ?_
            refine y_getI C 7 _ _ fX8_both_18 rfl rfl ft_7_2 sb_7_2 hM136 dX8_both_33 (fun a150 ea150 la150 ua150 => ?_)
            refine y_iconst C dX8_both_36 ?_
            refine y_iadd C dX8_both_37 ?_
            refine y_putI C 7 _ _ qX8_both_18 rfl rfl ft_7_2 sb_7_2 hM136 (PX.w hpr rfl rfl) dX8_both_38 (by omega) (fun M152 eM152 hM152 => ?_)
            have xM152 := tkx_j (f := gf) (n := gn) (gi := gq137) eM152 (by omega) (by omega) (by omega) (by omega)
            refine j_aload_n C 0 0 dX8_both_41 rfl rfl ?_
            refine j_iload_n C 1 1 dX8_both_42 rfl rfl ?_
            refine j_callVv C (d := 15) (As := [.int (sI 3)]) (st := []) 78 (s_lt rfl rfl) (s_kc (c := 7) rfl rfl) (by decide) rfl (s5_X8_unit hM152 hpr gf gn (nxF gf gn gq137) (by omega) (by omega)) gX8_both_X8_unit rfl hdX8_unit (by decide) (Nat.le_of_ble_eq_true rfl) dX8_both_43 rfl (fun M154 h155 => ?_)
            obtain ⟨hM154, h156⟩ := h155
            have bM154 := tkx_b (f := gf) (n := gn) (M := M154) (by omega)
            have qM154 := po_rr (unR gf gn 3) gn (nxF gf gn gq137) (M152.1 78 5).toInt (M152.1 78 6).toInt (psX M152) (M154.1 78 5).toInt (M154.1 78 6).toInt (psX M154) (unR_g gf gn 3) (by omega) (by omega)
            refine j_aload_n C 0 0 dX8_both_46 rfl rfl ?_
            refine y_sipush C dX8_both_47 rfl ?_
            refine j_callVv C (d := 0) (As := [.int (sI 1015)]) (st := []) 78 (s_lt rfl rfl) (s_kc (c := 7) rfl rfl) (by decide) rfl (s1_X8_emit hM154 hpr 1015 (by omega) gf gn ((unR gf gn 3) (nxF gf gn gq137)).2.2 (by omega) (by omega)) gX8_both_X8_emit rfl hdX8_emit (by decide) (Nat.le_of_ble_eq_true rfl) dX8_both_50 rfl (fun M158 h159 => ?_)
            obtain ⟨hM158, h160⟩ := h159
            have bM158 := tkx_b (f := gf) (n := gn) (M := M158) (by omega)
            have qM158 := po_eq gn ((unR gf gn 3) (nxF gf gn gq137)).2.2 (M154.1 78 5).toInt (psX M154) (M158.1 78 5).toInt (psX M158) (by omega) (by omega) (by omega)
            refine y_iinc C 2 [(2, .int (sI (a135 + 1))), (0, .ref (ad 78)), (1, .int (sI 3))] dX8_both_53 rfl (by decide) rfl ?_
            have u161s := ll_s gf gn 1015 1015 (unR gf gn 3) ((unR gf gn 3) gi).2.2 gq137 a135 (M102.1 78 5).toInt (M102.1 78 6).toInt (M136.1 78 5).toInt (M136.1 78 6).toInt (psX M136) (M152.1 78 5).toInt (M152.1 78 6).toInt (M154.1 78 5).toInt (M154.1 78 6).toInt (psX M154) (M158.1 78 5).toInt (M158.1 78 6).toInt (psX M158) (by decide) (unR_g gf gn 3) (by omega) (by omega) (by omega) (by omega) (by omega) (by omega) (by omega) (by omega) (by omega)
            refine j_goto C 7 dX8_both_56 (by decide) ?_
            refine j_lv [1, 2, 0] rfl ?_; exact ih133 (a135 + 1) M158 ((unR gf gn 3) (nxF gf gn gq137)).2.2 (by omega) hM158
  refine j_lv [1, 2, 0] rfl ?_; exact L134 2010 0 M102 ((unR gf gn 3) gi).2.2 (by omega) hM102
set_option maxHeartbeats 4000000 in
theorem s5_X8_truth {l : Launch} {dC : Nat → ClassId} {dI : Nat → Nat → Nat} {ad : Nat → Nat} {cA : Nat → ClassId} {pr : Nat → Nat → Bool} {Kz : mm_M} {M0 : mm_M} (hM0 : INV pr Kz M0) (hpr : PX pr) (gf : Nat → Int) (gn : Int) (gi : Int) (hp0 : b01 (TKX gf gn M0) = 1) (hp1 : b01 (PO gn gi (M0.1 78 5).toInt (psX M0)) = 1) : Cv l 17 yX8_truth wsX8_truth dC dI ad cA [.ref (ad 78), .int (sI 3)] M0 (fun M' => INV pr Kz M' ∧ (b01 (TKX gf gn M') = 1) ∧ b01 (RR ((trP gf gn (unR gf gn 3)) gi) (M0.1 78 5).toInt (M0.1 78 6).toInt (M'.1 78 5).toInt (M'.1 78 6).toInt (psX M')) = 1) := by
  refine cv_of (cc := cX8_truth) (maxL := 3) (lv := [(0, .ref (ad 78)), (1, .int (sI 3))]) (by decide) rfl (Nat.le_of_ble_eq_true rfl) rfl ?_
  intro p e s m args below meth c A Q C hret
  refine j_aload_n C 0 0 dX8_truth_0 rfl rfl ?_
  refine j_iload_n C 1 1 dX8_truth_1 rfl rfl ?_
  refine j_callVv C (d := 16) (As := [.int (sI 3)]) (st := []) 78 (s_lt rfl rfl) (s_kc (c := 7) rfl rfl) (by decide) rfl (s5_X8_both hM0 hpr gf gn gi (by omega) (by omega)) gX8_truth_X8_both rfl hdX8_both (by decide) (Nat.le_of_ble_eq_true rfl) dX8_truth_2 rfl (fun M102 h103 => ?_)
  obtain ⟨hM102, h104⟩ := h103
  have bM102 := tkx_b (f := gf) (n := gn) (M := M102) (by omega)
  have qM102 := po_rr (boP gf gn (unR gf gn 3)) gn gi (M0.1 78 5).toInt (M0.1 78 6).toInt (psX M0) (M102.1 78 5).toInt (M102.1 78 6).toInt (psX M102) (bo_g gf gn (unR_g gf gn 3)) (by omega) (by omega)
  refine y_iconst C dX8_truth_5 ?_
  have u105l := ll_0 (luP gf gn 1014 1014 (boP gf gn (unR gf gn 3))) gn ((boP gf gn (unR gf gn 3)) gi).2.2 (M102.1 78 5).toInt (M102.1 78 6).toInt (psX M102) (by omega)
  refine j_istore_n C 2 [(2, .int (sI 0)), (0, .ref (ad 78)), (1, .int (sI 3))] dX8_truth_6 rfl (by decide) rfl ?_
  have L134 : ∀ (n132 : Nat), ∀ (a135 : Int) (M136 : mm_M) (gq137 : Int), (0 ≤ a135 ∧ a135 ≤ 900 ∧ (b01 (LL (luP gf gn 1014 1014 (boP gf gn (unR gf gn 3))) gn ((boP gf gn (unR gf gn 3)) gi).2.2 gq137 a135 (M102.1 78 5).toInt (M102.1 78 6).toInt (M136.1 78 5).toInt (M136.1 78 6).toInt (psX M136)) = 1) ∧ (b01 (TKX gf gn M136) = 1) ∧ (b01 (PO gn gq137 (M136.1 78 5).toInt (psX M136)) = 1) ∧ (900 - a135) < (n132 : Int)) → INV pr Kz M136 → jj p l e (cn_R 17) s m args below meth c 0 0 Q 3 dC dI ad cA A M136 7 [(0, .ref (ad 78)), (1, .int (sI 3)), (2, .int (sI a135))] [] := by
    intro n132
    induction n132 with
    | zero =>
      intro a135 M136 gq137 h138 hM136
      exfalso; omega
    | succ n132 ih133 =>
      intro a135 M136 gq137 h138 hM136
      have u139b := tkx_b (f := gf) (n := gn) (M := M136) (by omega)
      refine j_iload_n C 2 2 dX8_truth_7 rfl rfl ?_
      refine y_sipush C dX8_truth_8 rfl ?_
      refine y_icmp_ge C 59 dX8_truth_11 (by decide) (by omega) (fun h140 => ?_) (fun h140 => ?_)
      · have u162e := ll_e gf gn 1014 1014 (boP gf gn (unR gf gn 3)) ((boP gf gn (unR gf gn 3)) gi).2.2 gq137 a135 (M102.1 78 5).toInt (M102.1 78 6).toInt (M136.1 78 5).toInt (M136.1 78 6).toInt (psX M136) (by decide) (bo_g gf gn (unR_g gf gn 3)) (by omega) (by omega)
        have u162r : b01 (RR ((trP gf gn (unR gf gn 3)) gi) (M0.1 78 5).toInt (M0.1 78 6).toInt (M136.1 78 5).toInt (M136.1 78 6).toInt (psX M136)) = 1 := rr_sq ((boP gf gn (unR gf gn 3)) gi) (luP gf gn 1014 1014 (boP gf gn (unR gf gn 3))) (M0.1 78 5).toInt (M0.1 78 6).toInt (M102.1 78 5).toInt (M102.1 78 6).toInt (psX M102) (M136.1 78 5).toInt (M136.1 78 6).toInt (psX M136) (by omega) (by omega)
        exact hret _ _ _ dX8_truth_59 ⟨hM136, by omega⟩
      · refine j_aload_n C 0 0 dX8_truth_14 rfl rfl ?_
        refine y_getI C 7 _ _ fX8_truth_22 rfl rfl ft_7_5 sb_7_5 hM136 dX8_truth_15 (fun a141 ea141 la141 ua141 => ?_)
        refine y_if_ne C 59 dX8_truth_18 (by decide) (by omega) (fun h143 => ?_) (fun h143 => ?_)
        · have u163e := ll_e gf gn 1014 1014 (boP gf gn (unR gf gn 3)) ((boP gf gn (unR gf gn 3)) gi).2.2 gq137 a135 (M102.1 78 5).toInt (M102.1 78 6).toInt (M136.1 78 5).toInt (M136.1 78 6).toInt (psX M136) (by decide) (bo_g gf gn (unR_g gf gn 3)) (by omega) (by omega)
          have u163r : b01 (RR ((trP gf gn (unR gf gn 3)) gi) (M0.1 78 5).toInt (M0.1 78 6).toInt (M136.1 78 5).toInt (M136.1 78 6).toInt (psX M136)) = 1 := rr_sq ((boP gf gn (unR gf gn 3)) gi) (luP gf gn 1014 1014 (boP gf gn (unR gf gn 3))) (M0.1 78 5).toInt (M0.1 78 6).toInt (M102.1 78 5).toInt (M102.1 78 6).toInt (psX M102) (M136.1 78 5).toInt (M136.1 78 6).toInt (psX M136) (by omega) (by omega)
          exact hret _ _ _ dX8_truth_59 ⟨hM136, by omega⟩
        · refine j_aload_n C 0 0 dX8_truth_21 rfl rfl ?_
          refine j_callVi C (d := 0) (As := []) (st := []) 78 (s_lt rfl rfl) (s_kc (c := 7) rfl rfl) (by decide) rfl (s1_X8_token hM136 gf gn gq137 (by omega) (by omega)) gX8_truth_X8_token rfl hdX8_token (by decide) (Nat.le_of_ble_eq_true rfl) dX8_truth_22 rfl (fun r144 M145 h146 => ?_)
          obtain ⟨a148, rfl, rfl, h147⟩ := h146
          refine y_sipush C dX8_truth_25 rfl ?_
          refine y_icmp_ne C 59 dX8_truth_28 (by decide) (by omega) (fun h149 => ?_) (fun h149 => ?_)
          · have u164e := ll_e gf gn 1014 1014 (boP gf gn (unR gf gn 3)) ((boP gf gn (unR gf gn 3)) gi).2.2 gq137 a135 (M102.1 78 5).toInt (M102.1 78 6).toInt (M136.1 78 5).toInt (M136.1 78 6).toInt (psX M136) (by decide) (bo_g gf gn (unR_g gf gn 3)) (by omega) (by omega)
            have u164r : b01 (RR ((trP gf gn (unR gf gn 3)) gi) (M0.1 78 5).toInt (M0.1 78 6).toInt (M136.1 78 5).toInt (M136.1 78 6).toInt (psX M136)) = 1 := rr_sq ((boP gf gn (unR gf gn 3)) gi) (luP gf gn 1014 1014 (boP gf gn (unR gf gn 3))) (M0.1 78 5).toInt (M0.1 78 6).toInt (M102.1 78 5).toInt (M102.1 78 6).toInt (psX M102) (M136.1 78 5).toInt (M136.1 78 6).toInt (psX M136) (by omega) (by omega)
            exact hret _ _ _ dX8_truth_59 ⟨hM136, by omega⟩
          · refine j_aload_n C 0 0 dX8_truth_31 rfl rfl ?_
            refine j_dup C dX8_truth_32 rfl ?_
            refine y_getI C 7 _ _ fX8_truth_18 rfl rfl ft_7_2 sb_7_2 hM136 dX8_truth_33 (fun a150 ea150 la150 ua150 => ?_)
            refine y_iconst C dX8_truth_36 ?_
            refine y_iadd C dX8_truth_37 ?_
            refine y_putI C 7 _ _ qX8_truth_18 rfl rfl ft_7_2 sb_7_2 hM136 (PX.w hpr rfl rfl) dX8_truth_38 (by omega) (fun M152 eM152 hM152 => ?_)
            have xM152 := tkx_j (f := gf) (n := gn) (gi := gq137) eM152 (by omega) (by omega) (by omega) (by omega)
            refine j_aload_n C 0 0 dX8_truth_41 rfl rfl ?_
            refine j_iload_n C 1 1 dX8_truth_42 rfl rfl ?_
            refine j_callVv C (d := 16) (As := [.int (sI 3)]) (st := []) 78 (s_lt rfl rfl) (s_kc (c := 7) rfl rfl) (by decide) rfl (s5_X8_both hM152 hpr gf gn (nxF gf gn gq137) (by omega) (by omega)) gX8_truth_X8_both rfl hdX8_both (by decide) (Nat.le_of_ble_eq_true rfl) dX8_truth_43 rfl (fun M154 h155 => ?_)
            obtain ⟨hM154, h156⟩ := h155
            have bM154 := tkx_b (f := gf) (n := gn) (M := M154) (by omega)
            have qM154 := po_rr (boP gf gn (unR gf gn 3)) gn (nxF gf gn gq137) (M152.1 78 5).toInt (M152.1 78 6).toInt (psX M152) (M154.1 78 5).toInt (M154.1 78 6).toInt (psX M154) (bo_g gf gn (unR_g gf gn 3)) (by omega) (by omega)
            refine j_aload_n C 0 0 dX8_truth_46 rfl rfl ?_
            refine y_sipush C dX8_truth_47 rfl ?_
            refine j_callVv C (d := 0) (As := [.int (sI 1014)]) (st := []) 78 (s_lt rfl rfl) (s_kc (c := 7) rfl rfl) (by decide) rfl (s1_X8_emit hM154 hpr 1014 (by omega) gf gn ((boP gf gn (unR gf gn 3)) (nxF gf gn gq137)).2.2 (by omega) (by omega)) gX8_truth_X8_emit rfl hdX8_emit (by decide) (Nat.le_of_ble_eq_true rfl) dX8_truth_50 rfl (fun M158 h159 => ?_)
            obtain ⟨hM158, h160⟩ := h159
            have bM158 := tkx_b (f := gf) (n := gn) (M := M158) (by omega)
            have qM158 := po_eq gn ((boP gf gn (unR gf gn 3)) (nxF gf gn gq137)).2.2 (M154.1 78 5).toInt (psX M154) (M158.1 78 5).toInt (psX M158) (by omega) (by omega) (by omega)
            refine y_iinc C 2 [(2, .int (sI (a135 + 1))), (0, .ref (ad 78)), (1, .int (sI 3))] dX8_truth_53 rfl (by decide) rfl ?_
            have u161s := ll_s gf gn 1014 1014 (boP gf gn (unR gf gn 3)) ((boP gf gn (unR gf gn 3)) gi).2.2 gq137 a135 (M102.1 78 5).toInt (M102.1 78 6).toInt (M136.1 78 5).toInt (M136.1 78 6).toInt (psX M136) (M152.1 78 5).toInt (M152.1 78 6).toInt (M154.1 78 5).toInt (M154.1 78 6).toInt (psX M154) (M158.1 78 5).toInt (M158.1 78 6).toInt (psX M158) (by decide) (bo_g gf gn (unR_g gf gn 3)) (by omega) (by omega) (by omega) (by omega) (by omega) (by omega) (by omega) (by omega) (by omega)
            refine j_goto C 7 dX8_truth_56 (by decide) ?_
            refine j_lv [1, 2, 0] rfl ?_; exact ih133 (a135 + 1) M158 ((boP gf gn (unR gf gn 3)) (nxF gf gn gq137)).2.2 (by omega) hM158
  refine j_lv [1, 2, 0] rfl ?_; exact L134 2010 0 M102 ((boP gf gn (unR gf gn 3)) gi).2.2 (by omega) hM102
set_option maxHeartbeats 4000000 in
theorem s6_X8_unit {l : Launch} {dC : Nat → ClassId} {dI : Nat → Nat → Nat} {ad : Nat → Nat} {cA : Nat → ClassId} {pr : Nat → Nat → Bool} {Kz : mm_M} {M0 : mm_M} (hM0 : INV pr Kz M0) (hpr : PX pr) (gf : Nat → Int) (gn : Int) (gi : Int) (hp0 : b01 (TKX gf gn M0) = 1) (hp1 : b01 (PO gn gi (M0.1 78 5).toInt (psX M0)) = 1) : Cv l 18 yX8_unit wsX8_unit dC dI ad cA [.ref (ad 78), .int (sI 2)] M0 (fun M' => INV pr Kz M' ∧ (b01 (TKX gf gn M') = 1) ∧ b01 (RR ((unR gf gn 4) gi) (M0.1 78 5).toInt (M0.1 78 6).toInt (M'.1 78 5).toInt (M'.1 78 6).toInt (psX M')) = 1) := by
  refine cv_of (cc := cX8_unit) (maxL := 4) (lv := [(0, .ref (ad 78)), (1, .int (sI 2))]) (by decide) rfl (Nat.le_of_ble_eq_true rfl) rfl ?_
  intro p e s m args below meth c A Q C hret
  refine j_aload_n C 0 0 dX8_unit_0 rfl rfl ?_
  refine y_getI C 7 _ _ fX8_unit_22 rfl rfl ft_7_5 sb_7_5 hM0 dX8_unit_1 (fun a101 ea101 la101 ua101 => ?_)
  refine y_if_eq C 8 dX8_unit_4 (by decide) (by omega) (fun h103 => ?_) (fun h103 => ?_)
  · refine j_aload_n C 0 0 dX8_unit_8 rfl rfl ?_
    refine j_callVi C (d := 0) (As := []) (st := []) 78 (s_lt rfl rfl) (s_kc (c := 7) rfl rfl) (by decide) rfl (s1_X8_token hM0 gf gn gi (by omega) (by omega)) gX8_unit_X8_token rfl hdX8_token (by decide) (Nat.le_of_ble_eq_true rfl) dX8_unit_9 rfl (fun r104 M105 h106 => ?_)
    obtain ⟨a108, rfl, rfl, h107⟩ := h106
    refine j_istore_n C 2 [(2, .int (sI a108)), (0, .ref (ad 78)), (1, .int (sI 2))] dX8_unit_12 rfl (by decide) rfl ?_
    refine j_iload_n C 0 2 dX8_unit_13 rfl rfl ?_
    refine y_sipush C dX8_unit_14 rfl ?_
    refine y_icmp_ne C 42 dX8_unit_17 (by decide) (by omega) (fun h109 => ?_) (fun h109 => ?_)
    · refine j_iload_n C 0 2 dX8_unit_42 rfl rfl ?_
      refine y_sipush C dX8_unit_43 rfl ?_
      refine y_icmp_ne C 71 dX8_unit_46 (by decide) (by omega) (fun h110 => ?_) (fun h110 => ?_)
      · refine j_aload_n C 1 0 dX8_unit_71 rfl rfl ?_
        refine j_iload_n C 2 1 dX8_unit_72 rfl rfl ?_
        refine j_callVv C (d := 17) (As := [.int (sI 2)]) (st := []) 78 (s_lt rfl rfl) (s_kc (c := 7) rfl rfl) (by decide) rfl (s6_X8_sum hM0 hpr gf gn gi (by omega) (by omega)) gX8_unit_X8_sum rfl hdX8_sum (by decide) (Nat.le_of_ble_eq_true rfl) dX8_unit_73 rfl (fun M112 h113 => ?_)
        obtain ⟨hM112, h114⟩ := h113
        have bM112 := tkx_b (f := gf) (n := gn) (M := M112) (by omega)
        have qM112 := po_rr (suR gf gn 4) gn gi (M0.1 78 5).toInt (M0.1 78 6).toInt (psX M0) (M112.1 78 5).toInt (M112.1 78 6).toInt (psX M112) (suR_g gf gn 4) (by omega) (by omega)
        refine j_aload_n C 1 0 dX8_unit_76 rfl rfl ?_
        refine j_callVi C (d := 0) (As := []) (st := []) 78 (s_lt rfl rfl) (s_kc (c := 7) rfl rfl) (by decide) rfl (s1_X8_token hM112 gf gn ((suR gf gn 4) gi).2.2 (by omega) (by omega)) gX8_unit_X8_token rfl hdX8_token (by decide) (Nat.le_of_ble_eq_true rfl) dX8_unit_77 rfl (fun r115 M116 h117 => ?_)
        obtain ⟨a119, rfl, rfl, h118⟩ := h117
        refine j_istore_n C 3 [(3, .int (sI a119)), (2, .int (sI a108)), (0, .ref (ad 78)), (1, .int (sI 2))] dX8_unit_80 rfl (by decide) rfl ?_
        refine j_iload_n C 0 3 dX8_unit_81 rfl rfl ?_
        refine y_sipush C dX8_unit_82 rfl ?_
        refine y_icmp_eq C 102 dX8_unit_85 (by decide) (by omega) (fun h120 => ?_) (fun h120 => ?_)
        · refine j_aload_n C 2 0 dX8_unit_102 rfl rfl ?_
          refine j_dup C dX8_unit_103 rfl ?_
          refine y_getI C 7 _ _ fX8_unit_18 rfl rfl ft_7_2 sb_7_2 hM112 dX8_unit_104 (fun a121 ea121 la121 ua121 => ?_)
          refine y_iconst C dX8_unit_107 ?_
          refine y_iadd C dX8_unit_108 ?_
          refine y_putI C 7 _ _ qX8_unit_18 rfl rfl ft_7_2 sb_7_2 hM112 (PX.w hpr rfl rfl) dX8_unit_109 (by omega) (fun M123 eM123 hM123 => ?_)
          have xM123 := tkx_j (f := gf) (n := gn) (gi := ((suR gf gn 4) gi).2.2) eM123 (by omega) (by omega) (by omega) (by omega)
          refine j_aload_n C 2 0 dX8_unit_112 rfl rfl ?_
          refine j_iload_n C 3 1 dX8_unit_113 rfl rfl ?_
          refine j_callVv C (d := 17) (As := [.int (sI 2)]) (st := []) 78 (s_lt rfl rfl) (s_kc (c := 7) rfl rfl) (by decide) rfl (s6_X8_sum hM123 hpr gf gn (nxF gf gn ((suR gf gn 4) gi).2.2) (by omega) (by omega)) gX8_unit_X8_sum rfl hdX8_sum (by decide) (Nat.le_of_ble_eq_true rfl) dX8_unit_114 rfl (fun M125 h126 => ?_)
          obtain ⟨hM125, h127⟩ := h126
          have bM125 := tkx_b (f := gf) (n := gn) (M := M125) (by omega)
          have qM125 := po_rr (suR gf gn 4) gn (nxF gf gn ((suR gf gn 4) gi).2.2) (M123.1 78 5).toInt (M123.1 78 6).toInt (psX M123) (M125.1 78 5).toInt (M125.1 78 6).toInt (psX M125) (suR_g gf gn 4) (by omega) (by omega)
          refine j_aload_n C 2 0 dX8_unit_117 rfl rfl ?_
          refine j_iload_n C 0 3 dX8_unit_118 rfl rfl ?_
          refine j_callVv C (d := 0) (As := [.int (sI a119)]) (st := []) 78 (s_lt rfl rfl) (s_kc (c := 7) rfl rfl) (by decide) rfl (s1_X8_emit hM125 hpr a119 (by omega) gf gn ((suR gf gn 4) (nxF gf gn ((suR gf gn 4) gi).2.2)).2.2 (by omega) (by omega)) gX8_unit_X8_emit rfl hdX8_emit (by decide) (Nat.le_of_ble_eq_true rfl) dX8_unit_119 rfl (fun M129 h130 => ?_)
          obtain ⟨hM129, h131⟩ := h130
          have bM129 := tkx_b (f := gf) (n := gn) (M := M129) (by omega)
          have qM129 := po_eq gn ((suR gf gn 4) (nxF gf gn ((suR gf gn 4) gi).2.2)).2.2 (M125.1 78 5).toInt (psX M125) (M129.1 78 5).toInt (psX M129) (by omega) (by omega) (by omega)
          refine j_goto C 130 dX8_unit_122 (by decide) ?_
          have u132r := un_4 gf gn 4 gi (M0.1 78 5).toInt (M0.1 78 6).toInt (psX M0) (M112.1 78 5).toInt (M112.1 78 6).toInt (psX M112) (M123.1 78 5).toInt (M123.1 78 6).toInt (M125.1 78 5).toInt (M125.1 78 6).toInt (psX M125) (M129.1 78 5).toInt (M129.1 78 6).toInt (psX M129) (by omega) (by omega) (by omega) (by omega) (by omega) (by omega) (by omega) (by omega) (by omega) (by omega) (by omega)
          exact hret _ _ _ dX8_unit_130 ⟨hM129, by omega⟩
        · refine j_iload_n C 0 3 dX8_unit_88 rfl rfl ?_
          refine y_sipush C dX8_unit_89 rfl ?_
          refine y_icmp_eq C 102 dX8_unit_92 (by decide) (by omega) (fun h133 => ?_) (fun h133 => ?_)
          · refine j_aload_n C 2 0 dX8_unit_102 rfl rfl ?_
            refine j_dup C dX8_unit_103 rfl ?_
            refine y_getI C 7 _ _ fX8_unit_18 rfl rfl ft_7_2 sb_7_2 hM112 dX8_unit_104 (fun a134 ea134 la134 ua134 => ?_)
            refine y_iconst C dX8_unit_107 ?_
            refine y_iadd C dX8_unit_108 ?_
            refine y_putI C 7 _ _ qX8_unit_18 rfl rfl ft_7_2 sb_7_2 hM112 (PX.w hpr rfl rfl) dX8_unit_109 (by omega) (fun M136 eM136 hM136 => ?_)
            have xM136 := tkx_j (f := gf) (n := gn) (gi := ((suR gf gn 4) gi).2.2) eM136 (by omega) (by omega) (by omega) (by omega)
            refine j_aload_n C 2 0 dX8_unit_112 rfl rfl ?_
            refine j_iload_n C 3 1 dX8_unit_113 rfl rfl ?_
            refine j_callVv C (d := 17) (As := [.int (sI 2)]) (st := []) 78 (s_lt rfl rfl) (s_kc (c := 7) rfl rfl) (by decide) rfl (s6_X8_sum hM136 hpr gf gn (nxF gf gn ((suR gf gn 4) gi).2.2) (by omega) (by omega)) gX8_unit_X8_sum rfl hdX8_sum (by decide) (Nat.le_of_ble_eq_true rfl) dX8_unit_114 rfl (fun M138 h139 => ?_)
            obtain ⟨hM138, h140⟩ := h139
            have bM138 := tkx_b (f := gf) (n := gn) (M := M138) (by omega)
            have qM138 := po_rr (suR gf gn 4) gn (nxF gf gn ((suR gf gn 4) gi).2.2) (M136.1 78 5).toInt (M136.1 78 6).toInt (psX M136) (M138.1 78 5).toInt (M138.1 78 6).toInt (psX M138) (suR_g gf gn 4) (by omega) (by omega)
            refine j_aload_n C 2 0 dX8_unit_117 rfl rfl ?_
            refine j_iload_n C 0 3 dX8_unit_118 rfl rfl ?_
            refine j_callVv C (d := 0) (As := [.int (sI a119)]) (st := []) 78 (s_lt rfl rfl) (s_kc (c := 7) rfl rfl) (by decide) rfl (s1_X8_emit hM138 hpr a119 (by omega) gf gn ((suR gf gn 4) (nxF gf gn ((suR gf gn 4) gi).2.2)).2.2 (by omega) (by omega)) gX8_unit_X8_emit rfl hdX8_emit (by decide) (Nat.le_of_ble_eq_true rfl) dX8_unit_119 rfl (fun M142 h143 => ?_)
            obtain ⟨hM142, h144⟩ := h143
            have bM142 := tkx_b (f := gf) (n := gn) (M := M142) (by omega)
            have qM142 := po_eq gn ((suR gf gn 4) (nxF gf gn ((suR gf gn 4) gi).2.2)).2.2 (M138.1 78 5).toInt (psX M138) (M142.1 78 5).toInt (psX M142) (by omega) (by omega) (by omega)
            refine j_goto C 130 dX8_unit_122 (by decide) ?_
            have u145r := un_4 gf gn 4 gi (M0.1 78 5).toInt (M0.1 78 6).toInt (psX M0) (M112.1 78 5).toInt (M112.1 78 6).toInt (psX M112) (M136.1 78 5).toInt (M136.1 78 6).toInt (M138.1 78 5).toInt (M138.1 78 6).toInt (psX M138) (M142.1 78 5).toInt (M142.1 78 6).toInt (psX M142) (by omega) (by omega) (by omega) (by omega) (by omega) (by omega) (by omega) (by omega) (by omega) (by omega) (by omega)
            exact hret _ _ _ dX8_unit_130 ⟨hM142, by omega⟩
          · refine j_iload_n C 0 3 dX8_unit_95 rfl rfl ?_
            refine y_sipush C dX8_unit_96 rfl ?_
            refine y_icmp_ne C 125 dX8_unit_99 (by decide) (by omega) (fun h146 => ?_) (fun h146 => ?_)
            · refine j_aload_n C 2 0 dX8_unit_125 rfl rfl ?_
              refine y_iconst C dX8_unit_126 ?_
              refine j_callVv C (d := 0) (As := [.int (sI 2)]) (st := []) 78 (s_lt rfl rfl) (s_kc (c := 7) rfl rfl) (by decide) rfl (s1_X8_fail hM112 hpr 2 (by omega) gf gn ((suR gf gn 4) gi).2.2 (by omega) (by omega) (by omega)) gX8_unit_X8_fail rfl hdX8_fail (by decide) (Nat.le_of_ble_eq_true rfl) dX8_unit_127 rfl (fun M148 h149 => ?_)
              obtain ⟨hM148, fM148, h150⟩ := h149
              have bM148 := tkx_b (f := gf) (n := gn) (M := M148) (by omega)
              have qM148 := po_f gn ((suR gf gn 4) gi).2.2 (M148.1 78 5).toInt (psX M148) (by omega)
              have u151r := un_5 gf gn 4 gi (M0.1 78 5).toInt (M0.1 78 6).toInt (psX M0) (M112.1 78 5).toInt (M112.1 78 6).toInt (psX M112) (M148.1 78 5).toInt (M148.1 78 6).toInt (psX M148) (by omega) (by omega) (by omega) (by omega) (fun _ => by omega) (by omega)
              exact hret _ _ _ dX8_unit_130 ⟨hM148, by omega⟩
            · refine j_aload_n C 2 0 dX8_unit_102 rfl rfl ?_
              refine j_dup C dX8_unit_103 rfl ?_
              refine y_getI C 7 _ _ fX8_unit_18 rfl rfl ft_7_2 sb_7_2 hM112 dX8_unit_104 (fun a152 ea152 la152 ua152 => ?_)
              refine y_iconst C dX8_unit_107 ?_
              refine y_iadd C dX8_unit_108 ?_
              refine y_putI C 7 _ _ qX8_unit_18 rfl rfl ft_7_2 sb_7_2 hM112 (PX.w hpr rfl rfl) dX8_unit_109 (by omega) (fun M154 eM154 hM154 => ?_)
              have xM154 := tkx_j (f := gf) (n := gn) (gi := ((suR gf gn 4) gi).2.2) eM154 (by omega) (by omega) (by omega) (by omega)
              refine j_aload_n C 2 0 dX8_unit_112 rfl rfl ?_
              refine j_iload_n C 3 1 dX8_unit_113 rfl rfl ?_
              refine j_callVv C (d := 17) (As := [.int (sI 2)]) (st := []) 78 (s_lt rfl rfl) (s_kc (c := 7) rfl rfl) (by decide) rfl (s6_X8_sum hM154 hpr gf gn (nxF gf gn ((suR gf gn 4) gi).2.2) (by omega) (by omega)) gX8_unit_X8_sum rfl hdX8_sum (by decide) (Nat.le_of_ble_eq_true rfl) dX8_unit_114 rfl (fun M156 h157 => ?_)
              obtain ⟨hM156, h158⟩ := h157
              have bM156 := tkx_b (f := gf) (n := gn) (M := M156) (by omega)
              have qM156 := po_rr (suR gf gn 4) gn (nxF gf gn ((suR gf gn 4) gi).2.2) (M154.1 78 5).toInt (M154.1 78 6).toInt (psX M154) (M156.1 78 5).toInt (M156.1 78 6).toInt (psX M156) (suR_g gf gn 4) (by omega) (by omega)
              refine j_aload_n C 2 0 dX8_unit_117 rfl rfl ?_
              refine j_iload_n C 0 3 dX8_unit_118 rfl rfl ?_
              refine j_callVv C (d := 0) (As := [.int (sI a119)]) (st := []) 78 (s_lt rfl rfl) (s_kc (c := 7) rfl rfl) (by decide) rfl (s1_X8_emit hM156 hpr a119 (by omega) gf gn ((suR gf gn 4) (nxF gf gn ((suR gf gn 4) gi).2.2)).2.2 (by omega) (by omega)) gX8_unit_X8_emit rfl hdX8_emit (by decide) (Nat.le_of_ble_eq_true rfl) dX8_unit_119 rfl (fun M160 h161 => ?_)
              obtain ⟨hM160, h162⟩ := h161
              have bM160 := tkx_b (f := gf) (n := gn) (M := M160) (by omega)
              have qM160 := po_eq gn ((suR gf gn 4) (nxF gf gn ((suR gf gn 4) gi).2.2)).2.2 (M156.1 78 5).toInt (psX M156) (M160.1 78 5).toInt (psX M160) (by omega) (by omega) (by omega)
              refine j_goto C 130 dX8_unit_122 (by decide) ?_
              have u163r := un_4 gf gn 4 gi (M0.1 78 5).toInt (M0.1 78 6).toInt (psX M0) (M112.1 78 5).toInt (M112.1 78 6).toInt (psX M112) (M154.1 78 5).toInt (M154.1 78 6).toInt (M156.1 78 5).toInt (M156.1 78 6).toInt (psX M156) (M160.1 78 5).toInt (M160.1 78 6).toInt (psX M160) (by omega) (by omega) (by omega) (by omega) (by omega) (by omega) (by omega) (by omega) (by omega) (by omega) (by omega)
              exact hret _ _ _ dX8_unit_130 ⟨hM160, by omega⟩
      · refine j_aload_n C 1 0 dX8_unit_49 rfl rfl ?_
        refine j_iload_n C 2 1 dX8_unit_50 rfl rfl ?_
        refine j_callVv C (d := 0) (As := [.int (sI 2)]) (st := []) 78 (s_lt rfl rfl) (s_kc (c := 7) rfl rfl) (by decide) rfl (s3_X8_goDeeper hM0 hpr gf gn gi (by omega) (by omega) (by omega) (by omega) (by omega)) gX8_unit_X8_goDeeper rfl hdX8_goDeeper (by decide) (Nat.le_of_ble_eq_true rfl) dX8_unit_51 rfl (fun M165 h166 => ?_)
        obtain ⟨hM165, fM165, h167⟩ := h166
        have bM165 := tkx_b (f := gf) (n := gn) (M := M165) (by omega)
        refine j_aload_n C 1 0 dX8_unit_54 rfl rfl ?_
        refine j_iload_n C 2 1 dX8_unit_55 rfl rfl ?_
        refine y_iconst C dX8_unit_56 ?_
        refine y_iadd C dX8_unit_57 ?_
        refine j_callVv C (d := 17) (As := [.int (sI (2 + 1))]) (st := []) 78 (s_lt rfl rfl) (s_kc (c := 7) rfl rfl) (by decide) rfl (s5_X8_truth hM165 hpr gf gn (nxF gf gn gi) (by omega) (by omega)) gX8_unit_X8_truth rfl hdX8_truth (by decide) (Nat.le_of_ble_eq_true rfl) dX8_unit_58 rfl (fun M169 h170 => ?_)
        obtain ⟨hM169, h171⟩ := h170
        have bM169 := tkx_b (f := gf) (n := gn) (M := M169) (by omega)
        have qM169 := po_rr (trP gf gn (unR gf gn 3)) gn (nxF gf gn gi) (M165.1 78 5).toInt (M165.1 78 6).toInt (psX M165) (M169.1 78 5).toInt (M169.1 78 6).toInt (psX M169) (tr_g gf gn (unR_g gf gn 3)) (by omega) (by omega)
        refine j_aload_n C 1 0 dX8_unit_61 rfl rfl ?_
        refine y_sipush C dX8_unit_62 rfl ?_
        refine j_callVv C (d := 1) (As := [.int (sI 2093)]) (st := []) 78 (s_lt rfl rfl) (s_kc (c := 7) rfl rfl) (by decide) rfl (s1_X8_expect hM169 hpr 2093 (by omega) gf gn ((trP gf gn (unR gf gn 3)) (nxF gf gn gi)).2.2 (by omega) (by omega) (by omega) (by omega)) gX8_unit_X8_expect rfl hdX8_expect (by decide) (Nat.le_of_ble_eq_true rfl) dX8_unit_65 rfl (fun M173 h174 => ?_)
        obtain ⟨hM173, fM173, h175⟩ := h174
        have bM173 := tkx_b (f := gf) (n := gn) (M := M173) (by omega)
        have qM173 := po_rr (exP gf gn 2093) gn ((trP gf gn (unR gf gn 3)) (nxF gf gn gi)).2.2 (M169.1 78 5).toInt (M169.1 78 6).toInt (psX M169) (M173.1 78 5).toInt (M173.1 78 6).toInt (psX M173) (ex_g gf gn 2093 (by omega)) (by omega) (by omega)
        refine j_goto C 130 dX8_unit_68 (by decide) ?_
        have u176r := un_2 gf gn 3 4 rfl gi (M0.1 78 5).toInt (M0.1 78 6).toInt (psX M0) (M165.1 78 5).toInt (M165.1 78 6).toInt (M169.1 78 5).toInt (M169.1 78 6).toInt (psX M169) (M173.1 78 5).toInt (M173.1 78 6).toInt (psX M173) (by omega) (by omega) (by omega) (by omega) (by omega) (by omega)
        exact hret _ _ _ dX8_unit_130 ⟨hM173, by omega⟩
    · refine j_aload_n C 1 0 dX8_unit_20 rfl rfl ?_
      refine j_iload_n C 2 1 dX8_unit_21 rfl rfl ?_
      refine j_callVv C (d := 0) (As := [.int (sI 2)]) (st := []) 78 (s_lt rfl rfl) (s_kc (c := 7) rfl rfl) (by decide) rfl (s3_X8_goDeeper hM0 hpr gf gn gi (by omega) (by omega) (by omega) (by omega) (by omega)) gX8_unit_X8_goDeeper rfl hdX8_goDeeper (by decide) (Nat.le_of_ble_eq_true rfl) dX8_unit_22 rfl (fun M178 h179 => ?_)
      obtain ⟨hM178, fM178, h180⟩ := h179
      have bM178 := tkx_b (f := gf) (n := gn) (M := M178) (by omega)
      refine j_aload_n C 1 0 dX8_unit_25 rfl rfl ?_
      refine j_iload_n C 2 1 dX8_unit_26 rfl rfl ?_
      refine y_iconst C dX8_unit_27 ?_
      refine y_iadd C dX8_unit_28 ?_
      refine j_callVv C (d := 15) (As := [.int (sI (2 + 1))]) (st := []) 78 (s_lt rfl rfl) (s_kc (c := 7) rfl rfl) (by decide) rfl (s5_X8_unit hM178 hpr gf gn (nxF gf gn gi) (by omega) (by omega)) gX8_unit_X8_unit rfl hdX8_unit (by decide) (Nat.le_of_ble_eq_true rfl) dX8_unit_29 rfl (fun M182 h183 => ?_)
      obtain ⟨hM182, h184⟩ := h183
      have bM182 := tkx_b (f := gf) (n := gn) (M := M182) (by omega)
      have qM182 := po_rr (unR gf gn 3) gn (nxF gf gn gi) (M178.1 78 5).toInt (M178.1 78 6).toInt (psX M178) (M182.1 78 5).toInt (M182.1 78 6).toInt (psX M182) (unR_g gf gn 3) (by omega) (by omega)
      refine j_aload_n C 1 0 dX8_unit_32 rfl rfl ?_
      refine y_sipush C dX8_unit_33 rfl ?_
      refine j_callVv C (d := 0) (As := [.int (sI 1016)]) (st := []) 78 (s_lt rfl rfl) (s_kc (c := 7) rfl rfl) (by decide) rfl (s1_X8_emit hM182 hpr 1016 (by omega) gf gn ((unR gf gn 3) (nxF gf gn gi)).2.2 (by omega) (by omega)) gX8_unit_X8_emit rfl hdX8_emit (by decide) (Nat.le_of_ble_eq_true rfl) dX8_unit_36 rfl (fun M186 h187 => ?_)
      obtain ⟨hM186, h188⟩ := h187
      have bM186 := tkx_b (f := gf) (n := gn) (M := M186) (by omega)
      have qM186 := po_eq gn ((unR gf gn 3) (nxF gf gn gi)).2.2 (M182.1 78 5).toInt (psX M182) (M186.1 78 5).toInt (psX M186) (by omega) (by omega) (by omega)
      refine j_goto C 130 dX8_unit_39 (by decide) ?_
      have u189r := un_1 gf gn 3 4 rfl gi (M0.1 78 5).toInt (M0.1 78 6).toInt (psX M0) (M178.1 78 5).toInt (M178.1 78 6).toInt (M182.1 78 5).toInt (M182.1 78 6).toInt (psX M182) (M186.1 78 5).toInt (M186.1 78 6).toInt (psX M186) (by omega) (by omega) (by omega) (by omega) (by omega) (by omega) (by omega) (by omega)
      exact hret _ _ _ dX8_unit_130 ⟨hM186, by omega⟩
  · have u190r := rr_no ((unR gf gn 4) gi) (M0.1 78 5).toInt (M0.1 78 6).toInt (M0.1 78 5).toInt (M0.1 78 6).toInt (psX M0) (by omega) rfl rfl
    exact hret _ _ _ dX8_unit_7 ⟨hM0, by omega⟩
set_option maxHeartbeats 4000000 in
theorem s6_X8_both {l : Launch} {dC : Nat → ClassId} {dI : Nat → Nat → Nat} {ad : Nat → Nat} {cA : Nat → ClassId} {pr : Nat → Nat → Bool} {Kz : mm_M} {M0 : mm_M} (hM0 : INV pr Kz M0) (hpr : PX pr) (gf : Nat → Int) (gn : Int) (gi : Int) (hp0 : b01 (TKX gf gn M0) = 1) (hp1 : b01 (PO gn gi (M0.1 78 5).toInt (psX M0)) = 1) : Cv l 19 yX8_both wsX8_both dC dI ad cA [.ref (ad 78), .int (sI 2)] M0 (fun M' => INV pr Kz M' ∧ (b01 (TKX gf gn M') = 1) ∧ b01 (RR ((boP gf gn (unR gf gn 4)) gi) (M0.1 78 5).toInt (M0.1 78 6).toInt (M'.1 78 5).toInt (M'.1 78 6).toInt (psX M')) = 1) := by
  refine cv_of (cc := cX8_both) (maxL := 3) (lv := [(0, .ref (ad 78)), (1, .int (sI 2))]) (by decide) rfl (Nat.le_of_ble_eq_true rfl) rfl ?_
  intro p e s m args below meth c A Q C hret
  refine j_aload_n C 0 0 dX8_both_0 rfl rfl ?_
  refine j_iload_n C 1 1 dX8_both_1 rfl rfl ?_
  refine j_callVv C (d := 18) (As := [.int (sI 2)]) (st := []) 78 (s_lt rfl rfl) (s_kc (c := 7) rfl rfl) (by decide) rfl (s6_X8_unit hM0 hpr gf gn gi (by omega) (by omega)) gX8_both_X8_unit rfl hdX8_unit (by decide) (Nat.le_of_ble_eq_true rfl) dX8_both_2 rfl (fun M102 h103 => ?_)
  obtain ⟨hM102, h104⟩ := h103
  have bM102 := tkx_b (f := gf) (n := gn) (M := M102) (by omega)
  have qM102 := po_rr (unR gf gn 4) gn gi (M0.1 78 5).toInt (M0.1 78 6).toInt (psX M0) (M102.1 78 5).toInt (M102.1 78 6).toInt (psX M102) (unR_g gf gn 4) (by omega) (by omega)
  refine y_iconst C dX8_both_5 ?_
  have u105l := ll_0 (luP gf gn 1015 1015 (unR gf gn 4)) gn ((unR gf gn 4) gi).2.2 (M102.1 78 5).toInt (M102.1 78 6).toInt (psX M102) (by omega)
  refine j_istore_n C 2 [(2, .int (sI 0)), (0, .ref (ad 78)), (1, .int (sI 2))] dX8_both_6 rfl (by decide) rfl ?_
  have L134 : ∀ (n132 : Nat), ∀ (a135 : Int) (M136 : mm_M) (gq137 : Int), (0 ≤ a135 ∧ a135 ≤ 900 ∧ (b01 (LL (luP gf gn 1015 1015 (unR gf gn 4)) gn ((unR gf gn 4) gi).2.2 gq137 a135 (M102.1 78 5).toInt (M102.1 78 6).toInt (M136.1 78 5).toInt (M136.1 78 6).toInt (psX M136)) = 1) ∧ (b01 (TKX gf gn M136) = 1) ∧ (b01 (PO gn gq137 (M136.1 78 5).toInt (psX M136)) = 1) ∧ (900 - a135) < (n132 : Int)) → INV pr Kz M136 → jj p l e (cn_R 19) s m args below meth c 0 0 Q 3 dC dI ad cA A M136 7 [(0, .ref (ad 78)), (1, .int (sI 2)), (2, .int (sI a135))] [] := by
    intro n132
    induction n132 with
    | zero =>
      intro a135 M136 gq137 h138 hM136
      exfalso; omega
    | succ n132 ih133 =>
      intro a135 M136 gq137 h138 hM136
      have u139b := tkx_b (f := gf) (n := gn) (M := M136) (by omega)
      refine j_iload_n C 2 2 dX8_both_7 rfl rfl ?_
      refine y_sipush C dX8_both_8 rfl ?_
      refine y_icmp_ge C 59 dX8_both_11 (by decide) (by omega) (fun h140 => ?_) (fun h140 => ?_)
      · have u162e := ll_e gf gn 1015 1015 (unR gf gn 4) ((unR gf gn 4) gi).2.2 gq137 a135 (M102.1 78 5).toInt (M102.1 78 6).toInt (M136.1 78 5).toInt (M136.1 78 6).toInt (psX M136) (by decide) (unR_g gf gn 4) (by omega) (by omega)
        have u162r : b01 (RR ((boP gf gn (unR gf gn 4)) gi) (M0.1 78 5).toInt (M0.1 78 6).toInt (M136.1 78 5).toInt (M136.1 78 6).toInt (psX M136)) = 1 := rr_sq ((unR gf gn 4) gi) (luP gf gn 1015 1015 (unR gf gn 4)) (M0.1 78 5).toInt (M0.1 78 6).toInt (M102.1 78 5).toInt (M102.1 78 6).toInt (psX M102) (M136.1 78 5).toInt (M136.1 78 6).toInt (psX M136) (by omega) (by omega)
        exact hret _ _ _ dX8_both_59 ⟨hM136, by omega⟩
      · refine j_aload_n C 0 0 dX8_both_14 rfl rfl ?_
        refine y_getI C 7 _ _ fX8_both_22 rfl rfl ft_7_5 sb_7_5 hM136 dX8_both_15 (fun a141 ea141 la141 ua141 => ?_)
        refine y_if_ne C 59 dX8_both_18 (by decide) (by omega) (fun h143 => ?_) (fun h143 => ?_)
        · have u163e := ll_e gf gn 1015 1015 (unR gf gn 4) ((unR gf gn 4) gi).2.2 gq137 a135 (M102.1 78 5).toInt (M102.1 78 6).toInt (M136.1 78 5).toInt (M136.1 78 6).toInt (psX M136) (by decide) (unR_g gf gn 4) (by omega) (by omega)
          have u163r : b01 (RR ((boP gf gn (unR gf gn 4)) gi) (M0.1 78 5).toInt (M0.1 78 6).toInt (M136.1 78 5).toInt (M136.1 78 6).toInt (psX M136)) = 1 := rr_sq ((unR gf gn 4) gi) (luP gf gn 1015 1015 (unR gf gn 4)) (M0.1 78 5).toInt (M0.1 78 6).toInt (M102.1 78 5).toInt (M102.1 78 6).toInt (psX M102) (M136.1 78 5).toInt (M136.1 78 6).toInt (psX M136) (by omega) (by omega)
          exact hret _ _ _ dX8_both_59 ⟨hM136, by omega⟩
        · refine j_aload_n C 0 0 dX8_both_21 rfl rfl ?_
          refine j_callVi C (d := 0) (As := []) (st := []) 78 (s_lt rfl rfl) (s_kc (c := 7) rfl rfl) (by decide) rfl (s1_X8_token hM136 gf gn gq137 (by omega) (by omega)) gX8_both_X8_token rfl hdX8_token (by decide) (Nat.le_of_ble_eq_true rfl) dX8_both_22 rfl (fun r144 M145 h146 => ?_)
          obtain ⟨a148, rfl, rfl, h147⟩ := h146
          refine y_sipush C dX8_both_25 rfl ?_
          refine y_icmp_ne C 59 dX8_both_28 (by decide) (by omega) (fun h149 => ?_) (fun h149 => ?_)
          · have u164e := ll_e gf gn 1015 1015 (unR gf gn 4) ((unR gf gn 4) gi).2.2 gq137 a135 (M102.1 78 5).toInt (M102.1 78 6).toInt (M136.1 78 5).toInt (M136.1 78 6).toInt (psX M136) (by decide) (unR_g gf gn 4) (by omega) (by omega)
            have u164r : b01 (RR ((boP gf gn (unR gf gn 4)) gi) (M0.1 78 5).toInt (M0.1 78 6).toInt (M136.1 78 5).toInt (M136.1 78 6).toInt (psX M136)) = 1 := rr_sq ((unR gf gn 4) gi) (luP gf gn 1015 1015 (unR gf gn 4)) (M0.1 78 5).toInt (M0.1 78 6).toInt (M102.1 78 5).toInt (M102.1 78 6).toInt (psX M102) (M136.1 78 5).toInt (M136.1 78 6).toInt (psX M136) (by omega) (by omega)
            exact hret _ _ _ dX8_both_59 ⟨hM136, by omega⟩
          · refine j_aload_n C 0 0 dX8_both_31 rfl rfl ?_
            refine j_dup C dX8_both_32 rfl ?_
            refine y_getI C 7 _ _ fX8_both_18 rfl rfl ft_7_2 sb_7_2 hM136 dX8_both_33 (fun a150 ea150 la150 ua150 => ?_)
            refine y_iconst C dX8_both_36 ?_
            refine y_iadd C dX8_both_37 ?_
            refine y_putI C 7 _ _ qX8_both_18 rfl rfl ft_7_2 sb_7_2 hM136 (PX.w hpr rfl rfl) dX8_both_38 (by omega) (fun M152 eM152 hM152 => ?_)
            have xM152 := tkx_j (f := gf) (n := gn) (gi := gq137) eM152 (by omega) (by omega) (by omega) (by omega)
            refine j_aload_n C 0 0 dX8_both_41 rfl rfl ?_
            refine j_iload_n C 1 1 dX8_both_42 rfl rfl ?_
            refine j_callVv C (d := 18) (As := [.int (sI 2)]) (st := []) 78 (s_lt rfl rfl) (s_kc (c := 7) rfl rfl) (by decide) rfl (s6_X8_unit hM152 hpr gf gn (nxF gf gn gq137) (by omega) (by omega)) gX8_both_X8_unit rfl hdX8_unit (by decide) (Nat.le_of_ble_eq_true rfl) dX8_both_43 rfl (fun M154 h155 => ?_)
            obtain ⟨hM154, h156⟩ := h155
            have bM154 := tkx_b (f := gf) (n := gn) (M := M154) (by omega)
            have qM154 := po_rr (unR gf gn 4) gn (nxF gf gn gq137) (M152.1 78 5).toInt (M152.1 78 6).toInt (psX M152) (M154.1 78 5).toInt (M154.1 78 6).toInt (psX M154) (unR_g gf gn 4) (by omega) (by omega)
            refine j_aload_n C 0 0 dX8_both_46 rfl rfl ?_
            refine y_sipush C dX8_both_47 rfl ?_
            refine j_callVv C (d := 0) (As := [.int (sI 1015)]) (st := []) 78 (s_lt rfl rfl) (s_kc (c := 7) rfl rfl) (by decide) rfl (s1_X8_emit hM154 hpr 1015 (by omega) gf gn ((unR gf gn 4) (nxF gf gn gq137)).2.2 (by omega) (by omega)) gX8_both_X8_emit rfl hdX8_emit (by decide) (Nat.le_of_ble_eq_true rfl) dX8_both_50 rfl (fun M158 h159 => ?_)
            obtain ⟨hM158, h160⟩ := h159
            have bM158 := tkx_b (f := gf) (n := gn) (M := M158) (by omega)
            have qM158 := po_eq gn ((unR gf gn 4) (nxF gf gn gq137)).2.2 (M154.1 78 5).toInt (psX M154) (M158.1 78 5).toInt (psX M158) (by omega) (by omega) (by omega)
            refine y_iinc C 2 [(2, .int (sI (a135 + 1))), (0, .ref (ad 78)), (1, .int (sI 2))] dX8_both_53 rfl (by decide) rfl ?_
            have u161s := ll_s gf gn 1015 1015 (unR gf gn 4) ((unR gf gn 4) gi).2.2 gq137 a135 (M102.1 78 5).toInt (M102.1 78 6).toInt (M136.1 78 5).toInt (M136.1 78 6).toInt (psX M136) (M152.1 78 5).toInt (M152.1 78 6).toInt (M154.1 78 5).toInt (M154.1 78 6).toInt (psX M154) (M158.1 78 5).toInt (M158.1 78 6).toInt (psX M158) (by decide) (unR_g gf gn 4) (by omega) (by omega) (by omega) (by omega) (by omega) (by omega) (by omega) (by omega) (by omega)
            refine j_goto C 7 dX8_both_56 (by decide) ?_
            refine j_lv [1, 2, 0] rfl ?_; exact ih133 (a135 + 1) M158 ((unR gf gn 4) (nxF gf gn gq137)).2.2 (by omega) hM158
  refine j_lv [1, 2, 0] rfl ?_; exact L134 2010 0 M102 ((unR gf gn 4) gi).2.2 (by omega) hM102
set_option maxHeartbeats 4000000 in
theorem s6_X8_truth {l : Launch} {dC : Nat → ClassId} {dI : Nat → Nat → Nat} {ad : Nat → Nat} {cA : Nat → ClassId} {pr : Nat → Nat → Bool} {Kz : mm_M} {M0 : mm_M} (hM0 : INV pr Kz M0) (hpr : PX pr) (gf : Nat → Int) (gn : Int) (gi : Int) (hp0 : b01 (TKX gf gn M0) = 1) (hp1 : b01 (PO gn gi (M0.1 78 5).toInt (psX M0)) = 1) : Cv l 20 yX8_truth wsX8_truth dC dI ad cA [.ref (ad 78), .int (sI 2)] M0 (fun M' => INV pr Kz M' ∧ (b01 (TKX gf gn M') = 1) ∧ b01 (RR ((trP gf gn (unR gf gn 4)) gi) (M0.1 78 5).toInt (M0.1 78 6).toInt (M'.1 78 5).toInt (M'.1 78 6).toInt (psX M')) = 1) := by
  refine cv_of (cc := cX8_truth) (maxL := 3) (lv := [(0, .ref (ad 78)), (1, .int (sI 2))]) (by decide) rfl (Nat.le_of_ble_eq_true rfl) rfl ?_
  intro p e s m args below meth c A Q C hret
  refine j_aload_n C 0 0 dX8_truth_0 rfl rfl ?_
  refine j_iload_n C 1 1 dX8_truth_1 rfl rfl ?_
  refine j_callVv C (d := 19) (As := [.int (sI 2)]) (st := []) 78 (s_lt rfl rfl) (s_kc (c := 7) rfl rfl) (by decide) rfl (s6_X8_both hM0 hpr gf gn gi (by omega) (by omega)) gX8_truth_X8_both rfl hdX8_both (by decide) (Nat.le_of_ble_eq_true rfl) dX8_truth_2 rfl (fun M102 h103 => ?_)
  obtain ⟨hM102, h104⟩ := h103
  have bM102 := tkx_b (f := gf) (n := gn) (M := M102) (by omega)
  have qM102 := po_rr (boP gf gn (unR gf gn 4)) gn gi (M0.1 78 5).toInt (M0.1 78 6).toInt (psX M0) (M102.1 78 5).toInt (M102.1 78 6).toInt (psX M102) (bo_g gf gn (unR_g gf gn 4)) (by omega) (by omega)
  refine y_iconst C dX8_truth_5 ?_
  have u105l := ll_0 (luP gf gn 1014 1014 (boP gf gn (unR gf gn 4))) gn ((boP gf gn (unR gf gn 4)) gi).2.2 (M102.1 78 5).toInt (M102.1 78 6).toInt (psX M102) (by omega)
  refine j_istore_n C 2 [(2, .int (sI 0)), (0, .ref (ad 78)), (1, .int (sI 2))] dX8_truth_6 rfl (by decide) rfl ?_
  have L134 : ∀ (n132 : Nat), ∀ (a135 : Int) (M136 : mm_M) (gq137 : Int), (0 ≤ a135 ∧ a135 ≤ 900 ∧ (b01 (LL (luP gf gn 1014 1014 (boP gf gn (unR gf gn 4))) gn ((boP gf gn (unR gf gn 4)) gi).2.2 gq137 a135 (M102.1 78 5).toInt (M102.1 78 6).toInt (M136.1 78 5).toInt (M136.1 78 6).toInt (psX M136)) = 1) ∧ (b01 (TKX gf gn M136) = 1) ∧ (b01 (PO gn gq137 (M136.1 78 5).toInt (psX M136)) = 1) ∧ (900 - a135) < (n132 : Int)) → INV pr Kz M136 → jj p l e (cn_R 20) s m args below meth c 0 0 Q 3 dC dI ad cA A M136 7 [(0, .ref (ad 78)), (1, .int (sI 2)), (2, .int (sI a135))] [] := by
    intro n132
    induction n132 with
    | zero =>
      intro a135 M136 gq137 h138 hM136
      exfalso; omega
    | succ n132 ih133 =>
      intro a135 M136 gq137 h138 hM136
      have u139b := tkx_b (f := gf) (n := gn) (M := M136) (by omega)
      refine j_iload_n C 2 2 dX8_truth_7 rfl rfl ?_
      refine y_sipush C dX8_truth_8 rfl ?_
      refine y_icmp_ge C 59 dX8_truth_11 (by decide) (by omega) (fun h140 => ?_) (fun h140 => ?_)
      · have u162e := ll_e gf gn 1014 1014 (boP gf gn (unR gf gn 4)) ((boP gf gn (unR gf gn 4)) gi).2.2 gq137 a135 (M102.1 78 5).toInt (M102.1 78 6).toInt (M136.1 78 5).toInt (M136.1 78 6).toInt (psX M136) (by decide) (bo_g gf gn (unR_g gf gn 4)) (by omega) (by omega)
        have u162r : b01 (RR ((trP gf gn (unR gf gn 4)) gi) (M0.1 78 5).toInt (M0.1 78 6).toInt (M136.1 78 5).toInt (M136.1 78 6).toInt (psX M136)) = 1 := rr_sq ((boP gf gn (unR gf gn 4)) gi) (luP gf gn 1014 1014 (boP gf gn (unR gf gn 4))) (M0.1 78 5).toInt (M0.1 78 6).toInt (M102.1 78 5).toInt (M102.1 78 6).toInt (psX M102) (M136.1 78 5).toInt (M136.1 78 6).toInt (psX M136) (by omega) (by omega)
        exact hret _ _ _ dX8_truth_59 ⟨hM136, by omega⟩
      · refine j_aload_n C 0 0 dX8_truth_14 rfl rfl ?_
        refine y_getI C 7 _ _ fX8_truth_22 rfl rfl ft_7_5 sb_7_5 hM136 dX8_truth_15 (fun a141 ea141 la141 ua141 => ?_)
        refine y_if_ne C 59 dX8_truth_18 (by decide) (by omega) (fun h143 => ?_) (fun h143 => ?_)
        · have u163e := ll_e gf gn 1014 1014 (boP gf gn (unR gf gn 4)) ((boP gf gn (unR gf gn 4)) gi).2.2 gq137 a135 (M102.1 78 5).toInt (M102.1 78 6).toInt (M136.1 78 5).toInt (M136.1 78 6).toInt (psX M136) (by decide) (bo_g gf gn (unR_g gf gn 4)) (by omega) (by omega)
          have u163r : b01 (RR ((trP gf gn (unR gf gn 4)) gi) (M0.1 78 5).toInt (M0.1 78 6).toInt (M136.1 78 5).toInt (M136.1 78 6).toInt (psX M136)) = 1 := rr_sq ((boP gf gn (unR gf gn 4)) gi) (luP gf gn 1014 1014 (boP gf gn (unR gf gn 4))) (M0.1 78 5).toInt (M0.1 78 6).toInt (M102.1 78 5).toInt (M102.1 78 6).toInt (psX M102) (M136.1 78 5).toInt (M136.1 78 6).toInt (psX M136) (by omega) (by omega)
          exact hret _ _ _ dX8_truth_59 ⟨hM136, by omega⟩
        · refine j_aload_n C 0 0 dX8_truth_21 rfl rfl ?_
          refine j_callVi C (d := 0) (As := []) (st := []) 78 (s_lt rfl rfl) (s_kc (c := 7) rfl rfl) (by decide) rfl (s1_X8_token hM136 gf gn gq137 (by omega) (by omega)) gX8_truth_X8_token rfl hdX8_token (by decide) (Nat.le_of_ble_eq_true rfl) dX8_truth_22 rfl (fun r144 M145 h146 => ?_)
          obtain ⟨a148, rfl, rfl, h147⟩ := h146
          refine y_sipush C dX8_truth_25 rfl ?_
          refine y_icmp_ne C 59 dX8_truth_28 (by decide) (by omega) (fun h149 => ?_) (fun h149 => ?_)
          · have u164e := ll_e gf gn 1014 1014 (boP gf gn (unR gf gn 4)) ((boP gf gn (unR gf gn 4)) gi).2.2 gq137 a135 (M102.1 78 5).toInt (M102.1 78 6).toInt (M136.1 78 5).toInt (M136.1 78 6).toInt (psX M136) (by decide) (bo_g gf gn (unR_g gf gn 4)) (by omega) (by omega)
            have u164r : b01 (RR ((trP gf gn (unR gf gn 4)) gi) (M0.1 78 5).toInt (M0.1 78 6).toInt (M136.1 78 5).toInt (M136.1 78 6).toInt (psX M136)) = 1 := rr_sq ((boP gf gn (unR gf gn 4)) gi) (luP gf gn 1014 1014 (boP gf gn (unR gf gn 4))) (M0.1 78 5).toInt (M0.1 78 6).toInt (M102.1 78 5).toInt (M102.1 78 6).toInt (psX M102) (M136.1 78 5).toInt (M136.1 78 6).toInt (psX M136) (by omega) (by omega)
            exact hret _ _ _ dX8_truth_59 ⟨hM136, by omega⟩
          · refine j_aload_n C 0 0 dX8_truth_31 rfl rfl ?_
            refine j_dup C dX8_truth_32 rfl ?_
            refine y_getI C 7 _ _ fX8_truth_18 rfl rfl ft_7_2 sb_7_2 hM136 dX8_truth_33 (fun a150 ea150 la150 ua150 => ?_)
            refine y_iconst C dX8_truth_36 ?_
            refine y_iadd C dX8_truth_37 ?_
            refine y_putI C 7 _ _ qX8_truth_18 rfl rfl ft_7_2 sb_7_2 hM136 (PX.w hpr rfl rfl) dX8_truth_38 (by omega) (fun M152 eM152 hM152 => ?_)
            have xM152 := tkx_j (f := gf) (n := gn) (gi := gq137) eM152 (by omega) (by omega) (by omega) (by omega)
            refine j_aload_n C 0 0 dX8_truth_41 rfl rfl ?_
            refine j_iload_n C 1 1 dX8_truth_42 rfl rfl ?_
            refine j_callVv C (d := 19) (As := [.int (sI 2)]) (st := []) 78 (s_lt rfl rfl) (s_kc (c := 7) rfl rfl) (by decide) rfl (s6_X8_both hM152 hpr gf gn (nxF gf gn gq137) (by omega) (by omega)) gX8_truth_X8_both rfl hdX8_both (by decide) (Nat.le_of_ble_eq_true rfl) dX8_truth_43 rfl (fun M154 h155 => ?_)
            obtain ⟨hM154, h156⟩ := h155
            have bM154 := tkx_b (f := gf) (n := gn) (M := M154) (by omega)
            have qM154 := po_rr (boP gf gn (unR gf gn 4)) gn (nxF gf gn gq137) (M152.1 78 5).toInt (M152.1 78 6).toInt (psX M152) (M154.1 78 5).toInt (M154.1 78 6).toInt (psX M154) (bo_g gf gn (unR_g gf gn 4)) (by omega) (by omega)
            refine j_aload_n C 0 0 dX8_truth_46 rfl rfl ?_
            refine y_sipush C dX8_truth_47 rfl ?_
            refine j_callVv C (d := 0) (As := [.int (sI 1014)]) (st := []) 78 (s_lt rfl rfl) (s_kc (c := 7) rfl rfl) (by decide) rfl (s1_X8_emit hM154 hpr 1014 (by omega) gf gn ((boP gf gn (unR gf gn 4)) (nxF gf gn gq137)).2.2 (by omega) (by omega)) gX8_truth_X8_emit rfl hdX8_emit (by decide) (Nat.le_of_ble_eq_true rfl) dX8_truth_50 rfl (fun M158 h159 => ?_)
            obtain ⟨hM158, h160⟩ := h159
            have bM158 := tkx_b (f := gf) (n := gn) (M := M158) (by omega)
            have qM158 := po_eq gn ((boP gf gn (unR gf gn 4)) (nxF gf gn gq137)).2.2 (M154.1 78 5).toInt (psX M154) (M158.1 78 5).toInt (psX M158) (by omega) (by omega) (by omega)
            refine y_iinc C 2 [(2, .int (sI (a135 + 1))), (0, .ref (ad 78)), (1, .int (sI 2))] dX8_truth_53 rfl (by decide) rfl ?_
            have u161s := ll_s gf gn 1014 1014 (boP gf gn (unR gf gn 4)) ((boP gf gn (unR gf gn 4)) gi).2.2 gq137 a135 (M102.1 78 5).toInt (M102.1 78 6).toInt (M136.1 78 5).toInt (M136.1 78 6).toInt (psX M136) (M152.1 78 5).toInt (M152.1 78 6).toInt (M154.1 78 5).toInt (M154.1 78 6).toInt (psX M154) (M158.1 78 5).toInt (M158.1 78 6).toInt (psX M158) (by decide) (bo_g gf gn (unR_g gf gn 4)) (by omega) (by omega) (by omega) (by omega) (by omega) (by omega) (by omega) (by omega) (by omega)
            refine j_goto C 7 dX8_truth_56 (by decide) ?_
            refine j_lv [1, 2, 0] rfl ?_; exact ih133 (a135 + 1) M158 ((boP gf gn (unR gf gn 4)) (nxF gf gn gq137)).2.2 (by omega) hM158
  refine j_lv [1, 2, 0] rfl ?_; exact L134 2010 0 M102 ((boP gf gn (unR gf gn 4)) gi).2.2 (by omega) hM102
set_option maxHeartbeats 4000000 in
theorem s7_X8_unit {l : Launch} {dC : Nat → ClassId} {dI : Nat → Nat → Nat} {ad : Nat → Nat} {cA : Nat → ClassId} {pr : Nat → Nat → Bool} {Kz : mm_M} {M0 : mm_M} (hM0 : INV pr Kz M0) (hpr : PX pr) (gf : Nat → Int) (gn : Int) (gi : Int) (hp0 : b01 (TKX gf gn M0) = 1) (hp1 : b01 (PO gn gi (M0.1 78 5).toInt (psX M0)) = 1) : Cv l 21 yX8_unit wsX8_unit dC dI ad cA [.ref (ad 78), .int (sI 1)] M0 (fun M' => INV pr Kz M' ∧ (b01 (TKX gf gn M') = 1) ∧ b01 (RR ((unR gf gn 5) gi) (M0.1 78 5).toInt (M0.1 78 6).toInt (M'.1 78 5).toInt (M'.1 78 6).toInt (psX M')) = 1) := by
  refine cv_of (cc := cX8_unit) (maxL := 4) (lv := [(0, .ref (ad 78)), (1, .int (sI 1))]) (by decide) rfl (Nat.le_of_ble_eq_true rfl) rfl ?_
  intro p e s m args below meth c A Q C hret
  refine j_aload_n C 0 0 dX8_unit_0 rfl rfl ?_
  refine y_getI C 7 _ _ fX8_unit_22 rfl rfl ft_7_5 sb_7_5 hM0 dX8_unit_1 (fun a101 ea101 la101 ua101 => ?_)
  refine y_if_eq C 8 dX8_unit_4 (by decide) (by omega) (fun h103 => ?_) (fun h103 => ?_)
  · refine j_aload_n C 0 0 dX8_unit_8 rfl rfl ?_
    refine j_callVi C (d := 0) (As := []) (st := []) 78 (s_lt rfl rfl) (s_kc (c := 7) rfl rfl) (by decide) rfl (s1_X8_token hM0 gf gn gi (by omega) (by omega)) gX8_unit_X8_token rfl hdX8_token (by decide) (Nat.le_of_ble_eq_true rfl) dX8_unit_9 rfl (fun r104 M105 h106 => ?_)
    obtain ⟨a108, rfl, rfl, h107⟩ := h106
    refine j_istore_n C 2 [(2, .int (sI a108)), (0, .ref (ad 78)), (1, .int (sI 1))] dX8_unit_12 rfl (by decide) rfl ?_
    refine j_iload_n C 0 2 dX8_unit_13 rfl rfl ?_
    refine y_sipush C dX8_unit_14 rfl ?_
    refine y_icmp_ne C 42 dX8_unit_17 (by decide) (by omega) (fun h109 => ?_) (fun h109 => ?_)
    · refine j_iload_n C 0 2 dX8_unit_42 rfl rfl ?_
      refine y_sipush C dX8_unit_43 rfl ?_
      refine y_icmp_ne C 71 dX8_unit_46 (by decide) (by omega) (fun h110 => ?_) (fun h110 => ?_)
      · refine j_aload_n C 1 0 dX8_unit_71 rfl rfl ?_
        refine j_iload_n C 2 1 dX8_unit_72 rfl rfl ?_
        refine j_callVv C (d := 20) (As := [.int (sI 1)]) (st := []) 78 (s_lt rfl rfl) (s_kc (c := 7) rfl rfl) (by decide) rfl (s7_X8_sum hM0 hpr gf gn gi (by omega) (by omega)) gX8_unit_X8_sum rfl hdX8_sum (by decide) (Nat.le_of_ble_eq_true rfl) dX8_unit_73 rfl (fun M112 h113 => ?_)
        obtain ⟨hM112, h114⟩ := h113
        have bM112 := tkx_b (f := gf) (n := gn) (M := M112) (by omega)
        have qM112 := po_rr (suR gf gn 5) gn gi (M0.1 78 5).toInt (M0.1 78 6).toInt (psX M0) (M112.1 78 5).toInt (M112.1 78 6).toInt (psX M112) (suR_g gf gn 5) (by omega) (by omega)
        refine j_aload_n C 1 0 dX8_unit_76 rfl rfl ?_
        refine j_callVi C (d := 0) (As := []) (st := []) 78 (s_lt rfl rfl) (s_kc (c := 7) rfl rfl) (by decide) rfl (s1_X8_token hM112 gf gn ((suR gf gn 5) gi).2.2 (by omega) (by omega)) gX8_unit_X8_token rfl hdX8_token (by decide) (Nat.le_of_ble_eq_true rfl) dX8_unit_77 rfl (fun r115 M116 h117 => ?_)
        obtain ⟨a119, rfl, rfl, h118⟩ := h117
        refine j_istore_n C 3 [(3, .int (sI a119)), (2, .int (sI a108)), (0, .ref (ad 78)), (1, .int (sI 1))] dX8_unit_80 rfl (by decide) rfl ?_
        refine j_iload_n C 0 3 dX8_unit_81 rfl rfl ?_
        refine y_sipush C dX8_unit_82 rfl ?_
        refine y_icmp_eq C 102 dX8_unit_85 (by decide) (by omega) (fun h120 => ?_) (fun h120 => ?_)
        · refine j_aload_n C 2 0 dX8_unit_102 rfl rfl ?_
          refine j_dup C dX8_unit_103 rfl ?_
          refine y_getI C 7 _ _ fX8_unit_18 rfl rfl ft_7_2 sb_7_2 hM112 dX8_unit_104 (fun a121 ea121 la121 ua121 => ?_)
          refine y_iconst C dX8_unit_107 ?_
          refine y_iadd C dX8_unit_108 ?_
          refine y_putI C 7 _ _ qX8_unit_18 rfl rfl ft_7_2 sb_7_2 hM112 (PX.w hpr rfl rfl) dX8_unit_109 (by omega) (fun M123 eM123 hM123 => ?_)
          have xM123 := tkx_j (f := gf) (n := gn) (gi := ((suR gf gn 5) gi).2.2) eM123 (by omega) (by omega) (by omega) (by omega)
          refine j_aload_n C 2 0 dX8_unit_112 rfl rfl ?_
          refine j_iload_n C 3 1 dX8_unit_113 rfl rfl ?_
          refine j_callVv C (d := 20) (As := [.int (sI 1)]) (st := []) 78 (s_lt rfl rfl) (s_kc (c := 7) rfl rfl) (by decide) rfl (s7_X8_sum hM123 hpr gf gn (nxF gf gn ((suR gf gn 5) gi).2.2) (by omega) (by omega)) gX8_unit_X8_sum rfl hdX8_sum (by decide) (Nat.le_of_ble_eq_true rfl) dX8_unit_114 rfl (fun M125 h126 => ?_)
          obtain ⟨hM125, h127⟩ := h126
          have bM125 := tkx_b (f := gf) (n := gn) (M := M125) (by omega)
          have qM125 := po_rr (suR gf gn 5) gn (nxF gf gn ((suR gf gn 5) gi).2.2) (M123.1 78 5).toInt (M123.1 78 6).toInt (psX M123) (M125.1 78 5).toInt (M125.1 78 6).toInt (psX M125) (suR_g gf gn 5) (by omega) (by omega)
          refine j_aload_n C 2 0 dX8_unit_117 rfl rfl ?_
          refine j_iload_n C 0 3 dX8_unit_118 rfl rfl ?_
          refine j_callVv C (d := 0) (As := [.int (sI a119)]) (st := []) 78 (s_lt rfl rfl) (s_kc (c := 7) rfl rfl) (by decide) rfl (s1_X8_emit hM125 hpr a119 (by omega) gf gn ((suR gf gn 5) (nxF gf gn ((suR gf gn 5) gi).2.2)).2.2 (by omega) (by omega)) gX8_unit_X8_emit rfl hdX8_emit (by decide) (Nat.le_of_ble_eq_true rfl) dX8_unit_119 rfl (fun M129 h130 => ?_)
          obtain ⟨hM129, h131⟩ := h130
          have bM129 := tkx_b (f := gf) (n := gn) (M := M129) (by omega)
          have qM129 := po_eq gn ((suR gf gn 5) (nxF gf gn ((suR gf gn 5) gi).2.2)).2.2 (M125.1 78 5).toInt (psX M125) (M129.1 78 5).toInt (psX M129) (by omega) (by omega) (by omega)
          refine j_goto C 130 dX8_unit_122 (by decide) ?_
          have u132r := un_4 gf gn 5 gi (M0.1 78 5).toInt (M0.1 78 6).toInt (psX M0) (M112.1 78 5).toInt (M112.1 78 6).toInt (psX M112) (M123.1 78 5).toInt (M123.1 78 6).toInt (M125.1 78 5).toInt (M125.1 78 6).toInt (psX M125) (M129.1 78 5).toInt (M129.1 78 6).toInt (psX M129) (by omega) (by omega) (by omega) (by omega) (by omega) (by omega) (by omega) (by omega) (by omega) (by omega) (by omega)
          exact hret _ _ _ dX8_unit_130 ⟨hM129, by omega⟩
        · refine j_iload_n C 0 3 dX8_unit_88 rfl rfl ?_
          refine y_sipush C dX8_unit_89 rfl ?_
          refine y_icmp_eq C 102 dX8_unit_92 (by decide) (by omega) (fun h133 => ?_) (fun h133 => ?_)
          · refine j_aload_n C 2 0 dX8_unit_102 rfl rfl ?_
            refine j_dup C dX8_unit_103 rfl ?_
            refine y_getI C 7 _ _ fX8_unit_18 rfl rfl ft_7_2 sb_7_2 hM112 dX8_unit_104 (fun a134 ea134 la134 ua134 => ?_)
            refine y_iconst C dX8_unit_107 ?_
            refine y_iadd C dX8_unit_108 ?_
            refine y_putI C 7 _ _ qX8_unit_18 rfl rfl ft_7_2 sb_7_2 hM112 (PX.w hpr rfl rfl) dX8_unit_109 (by omega) (fun M136 eM136 hM136 => ?_)
            have xM136 := tkx_j (f := gf) (n := gn) (gi := ((suR gf gn 5) gi).2.2) eM136 (by omega) (by omega) (by omega) (by omega)
            refine j_aload_n C 2 0 dX8_unit_112 rfl rfl ?_
            refine j_iload_n C 3 1 dX8_unit_113 rfl rfl ?_
            refine j_callVv C (d := 20) (As := [.int (sI 1)]) (st := []) 78 (s_lt rfl rfl) (s_kc (c := 7) rfl rfl) (by decide) rfl (s7_X8_sum hM136 hpr gf gn (nxF gf gn ((suR gf gn 5) gi).2.2) (by omega) (by omega)) gX8_unit_X8_sum rfl hdX8_sum (by decide) (Nat.le_of_ble_eq_true rfl) dX8_unit_114 rfl (fun M138 h139 => ?_)
            obtain ⟨hM138, h140⟩ := h139
            have bM138 := tkx_b (f := gf) (n := gn) (M := M138) (by omega)
            have qM138 := po_rr (suR gf gn 5) gn (nxF gf gn ((suR gf gn 5) gi).2.2) (M136.1 78 5).toInt (M136.1 78 6).toInt (psX M136) (M138.1 78 5).toInt (M138.1 78 6).toInt (psX M138) (suR_g gf gn 5) (by omega) (by omega)
            refine j_aload_n C 2 0 dX8_unit_117 rfl rfl ?_
            refine j_iload_n C 0 3 dX8_unit_118 rfl rfl ?_
            refine j_callVv C (d := 0) (As := [.int (sI a119)]) (st := []) 78 (s_lt rfl rfl) (s_kc (c := 7) rfl rfl) (by decide) rfl (s1_X8_emit hM138 hpr a119 (by omega) gf gn ((suR gf gn 5) (nxF gf gn ((suR gf gn 5) gi).2.2)).2.2 (by omega) (by omega)) gX8_unit_X8_emit rfl hdX8_emit (by decide) (Nat.le_of_ble_eq_true rfl) dX8_unit_119 rfl (fun M142 h143 => ?_)
            obtain ⟨hM142, h144⟩ := h143
            have bM142 := tkx_b (f := gf) (n := gn) (M := M142) (by omega)
            have qM142 := po_eq gn ((suR gf gn 5) (nxF gf gn ((suR gf gn 5) gi).2.2)).2.2 (M138.1 78 5).toInt (psX M138) (M142.1 78 5).toInt (psX M142) (by omega) (by omega) (by omega)
            refine j_goto C 130 dX8_unit_122 (by decide) ?_
            have u145r := un_4 gf gn 5 gi (M0.1 78 5).toInt (M0.1 78 6).toInt (psX M0) (M112.1 78 5).toInt (M112.1 78 6).toInt (psX M112) (M136.1 78 5).toInt (M136.1 78 6).toInt (M138.1 78 5).toInt (M138.1 78 6).toInt (psX M138) (M142.1 78 5).toInt (M142.1 78 6).toInt (psX M142) (by omega) (by omega) (by omega) (by omega) (by omega) (by omega) (by omega) (by omega) (by omega) (by omega) (by omega)
            exact hret _ _ _ dX8_unit_130 ⟨hM142, by omega⟩
          · refine j_iload_n C 0 3 dX8_unit_95 rfl rfl ?_
            refine y_sipush C dX8_unit_96 rfl ?_
            refine y_icmp_ne C 125 dX8_unit_99 (by decide) (by omega) (fun h146 => ?_) (fun h146 => ?_)
            · refine j_aload_n C 2 0 dX8_unit_125 rfl rfl ?_
              refine y_iconst C dX8_unit_126 ?_
              refine j_callVv C (d := 0) (As := [.int (sI 2)]) (st := []) 78 (s_lt rfl rfl) (s_kc (c := 7) rfl rfl) (by decide) rfl (s1_X8_fail hM112 hpr 2 (by omega) gf gn ((suR gf gn 5) gi).2.2 (by omega) (by omega) (by omega)) gX8_unit_X8_fail rfl hdX8_fail (by decide) (Nat.le_of_ble_eq_true rfl) dX8_unit_127 rfl (fun M148 h149 => ?_)
              obtain ⟨hM148, fM148, h150⟩ := h149
              have bM148 := tkx_b (f := gf) (n := gn) (M := M148) (by omega)
              have qM148 := po_f gn ((suR gf gn 5) gi).2.2 (M148.1 78 5).toInt (psX M148) (by omega)
              have u151r := un_5 gf gn 5 gi (M0.1 78 5).toInt (M0.1 78 6).toInt (psX M0) (M112.1 78 5).toInt (M112.1 78 6).toInt (psX M112) (M148.1 78 5).toInt (M148.1 78 6).toInt (psX M148) (by omega) (by omega) (by omega) (by omega) (fun _ => by omega) (by omega)
              exact hret _ _ _ dX8_unit_130 ⟨hM148, by omega⟩
            · refine j_aload_n C 2 0 dX8_unit_102 rfl rfl ?_
              refine j_dup C dX8_unit_103 rfl ?_
              refine y_getI C 7 _ _ fX8_unit_18 rfl rfl ft_7_2 sb_7_2 hM112 dX8_unit_104 (fun a152 ea152 la152 ua152 => ?_)
              refine y_iconst C dX8_unit_107 ?_
              refine y_iadd C dX8_unit_108 ?_
              refine y_putI C 7 _ _ qX8_unit_18 rfl rfl ft_7_2 sb_7_2 hM112 (PX.w hpr rfl rfl) dX8_unit_109 (by omega) (fun M154 eM154 hM154 => ?_)
              have xM154 := tkx_j (f := gf) (n := gn) (gi := ((suR gf gn 5) gi).2.2) eM154 (by omega) (by omega) (by omega) (by omega)
              refine j_aload_n C 2 0 dX8_unit_112 rfl rfl ?_
              refine j_iload_n C 3 1 dX8_unit_113 rfl rfl ?_
              refine j_callVv C (d := 20) (As := [.int (sI 1)]) (st := []) 78 (s_lt rfl rfl) (s_kc (c := 7) rfl rfl) (by decide) rfl (s7_X8_sum hM154 hpr gf gn (nxF gf gn ((suR gf gn 5) gi).2.2) (by omega) (by omega)) gX8_unit_X8_sum rfl hdX8_sum (by decide) (Nat.le_of_ble_eq_true rfl) dX8_unit_114 rfl (fun M156 h157 => ?_)
              obtain ⟨hM156, h158⟩ := h157
              have bM156 := tkx_b (f := gf) (n := gn) (M := M156) (by omega)
              have qM156 := po_rr (suR gf gn 5) gn (nxF gf gn ((suR gf gn 5) gi).2.2) (M154.1 78 5).toInt (M154.1 78 6).toInt (psX M154) (M156.1 78 5).toInt (M156.1 78 6).toInt (psX M156) (suR_g gf gn 5) (by omega) (by omega)
              refine j_aload_n C 2 0 dX8_unit_117 rfl rfl ?_
              refine j_iload_n C 0 3 dX8_unit_118 rfl rfl ?_
              refine j_callVv C (d := 0) (As := [.int (sI a119)]) (st := []) 78 (s_lt rfl rfl) (s_kc (c := 7) rfl rfl) (by decide) rfl (s1_X8_emit hM156 hpr a119 (by omega) gf gn ((suR gf gn 5) (nxF gf gn ((suR gf gn 5) gi).2.2)).2.2 (by omega) (by omega)) gX8_unit_X8_emit rfl hdX8_emit (by decide) (Nat.le_of_ble_eq_true rfl) dX8_unit_119 rfl (fun M160 h161 => ?_)
              obtain ⟨hM160, h162⟩ := h161
              have bM160 := tkx_b (f := gf) (n := gn) (M := M160) (by omega)
              have qM160 := po_eq gn ((suR gf gn 5) (nxF gf gn ((suR gf gn 5) gi).2.2)).2.2 (M156.1 78 5).toInt (psX M156) (M160.1 78 5).toInt (psX M160) (by omega) (by omega) (by omega)
              refine j_goto C 130 dX8_unit_122 (by decide) ?_
              have u163r := un_4 gf gn 5 gi (M0.1 78 5).toInt (M0.1 78 6).toInt (psX M0) (M112.1 78 5).toInt (M112.1 78 6).toInt (psX M112) (M154.1 78 5).toInt (M154.1 78 6).toInt (M156.1 78 5).toInt (M156.1 78 6).toInt (psX M156) (M160.1 78 5).toInt (M160.1 78 6).toInt (psX M160) (by omega) (by omega) (by omega) (by omega) (by omega) (by omega) (by omega) (by omega) (by omega) (by omega) (by omega)
              exact hret _ _ _ dX8_unit_130 ⟨hM160, by omega⟩
      · refine j_aload_n C 1 0 dX8_unit_49 rfl rfl ?_
        refine j_iload_n C 2 1 dX8_unit_50 rfl rfl ?_
        refine j_callVv C (d := 0) (As := [.int (sI 1)]) (st := []) 78 (s_lt rfl rfl) (s_kc (c := 7) rfl rfl) (by decide) rfl (s2_X8_goDeeper hM0 hpr gf gn gi (by omega) (by omega) (by omega) (by omega) (by omega)) gX8_unit_X8_goDeeper rfl hdX8_goDeeper (by decide) (Nat.le_of_ble_eq_true rfl) dX8_unit_51 rfl (fun M165 h166 => ?_)
        obtain ⟨hM165, fM165, h167⟩ := h166
        have bM165 := tkx_b (f := gf) (n := gn) (M := M165) (by omega)
        refine j_aload_n C 1 0 dX8_unit_54 rfl rfl ?_
        refine j_iload_n C 2 1 dX8_unit_55 rfl rfl ?_
        refine y_iconst C dX8_unit_56 ?_
        refine y_iadd C dX8_unit_57 ?_
        refine j_callVv C (d := 20) (As := [.int (sI (1 + 1))]) (st := []) 78 (s_lt rfl rfl) (s_kc (c := 7) rfl rfl) (by decide) rfl (s6_X8_truth hM165 hpr gf gn (nxF gf gn gi) (by omega) (by omega)) gX8_unit_X8_truth rfl hdX8_truth (by decide) (Nat.le_of_ble_eq_true rfl) dX8_unit_58 rfl (fun M169 h170 => ?_)
        obtain ⟨hM169, h171⟩ := h170
        have bM169 := tkx_b (f := gf) (n := gn) (M := M169) (by omega)
        have qM169 := po_rr (trP gf gn (unR gf gn 4)) gn (nxF gf gn gi) (M165.1 78 5).toInt (M165.1 78 6).toInt (psX M165) (M169.1 78 5).toInt (M169.1 78 6).toInt (psX M169) (tr_g gf gn (unR_g gf gn 4)) (by omega) (by omega)
        refine j_aload_n C 1 0 dX8_unit_61 rfl rfl ?_
        refine y_sipush C dX8_unit_62 rfl ?_
        refine j_callVv C (d := 1) (As := [.int (sI 2093)]) (st := []) 78 (s_lt rfl rfl) (s_kc (c := 7) rfl rfl) (by decide) rfl (s1_X8_expect hM169 hpr 2093 (by omega) gf gn ((trP gf gn (unR gf gn 4)) (nxF gf gn gi)).2.2 (by omega) (by omega) (by omega) (by omega)) gX8_unit_X8_expect rfl hdX8_expect (by decide) (Nat.le_of_ble_eq_true rfl) dX8_unit_65 rfl (fun M173 h174 => ?_)
        obtain ⟨hM173, fM173, h175⟩ := h174
        have bM173 := tkx_b (f := gf) (n := gn) (M := M173) (by omega)
        have qM173 := po_rr (exP gf gn 2093) gn ((trP gf gn (unR gf gn 4)) (nxF gf gn gi)).2.2 (M169.1 78 5).toInt (M169.1 78 6).toInt (psX M169) (M173.1 78 5).toInt (M173.1 78 6).toInt (psX M173) (ex_g gf gn 2093 (by omega)) (by omega) (by omega)
        refine j_goto C 130 dX8_unit_68 (by decide) ?_
        have u176r := un_2 gf gn 4 5 rfl gi (M0.1 78 5).toInt (M0.1 78 6).toInt (psX M0) (M165.1 78 5).toInt (M165.1 78 6).toInt (M169.1 78 5).toInt (M169.1 78 6).toInt (psX M169) (M173.1 78 5).toInt (M173.1 78 6).toInt (psX M173) (by omega) (by omega) (by omega) (by omega) (by omega) (by omega)
        exact hret _ _ _ dX8_unit_130 ⟨hM173, by omega⟩
    · refine j_aload_n C 1 0 dX8_unit_20 rfl rfl ?_
      refine j_iload_n C 2 1 dX8_unit_21 rfl rfl ?_
      refine j_callVv C (d := 0) (As := [.int (sI 1)]) (st := []) 78 (s_lt rfl rfl) (s_kc (c := 7) rfl rfl) (by decide) rfl (s2_X8_goDeeper hM0 hpr gf gn gi (by omega) (by omega) (by omega) (by omega) (by omega)) gX8_unit_X8_goDeeper rfl hdX8_goDeeper (by decide) (Nat.le_of_ble_eq_true rfl) dX8_unit_22 rfl (fun M178 h179 => ?_)
      obtain ⟨hM178, fM178, h180⟩ := h179
      have bM178 := tkx_b (f := gf) (n := gn) (M := M178) (by omega)
      refine j_aload_n C 1 0 dX8_unit_25 rfl rfl ?_
      refine j_iload_n C 2 1 dX8_unit_26 rfl rfl ?_
      refine y_iconst C dX8_unit_27 ?_
      refine y_iadd C dX8_unit_28 ?_
      refine j_callVv C (d := 18) (As := [.int (sI (1 + 1))]) (st := []) 78 (s_lt rfl rfl) (s_kc (c := 7) rfl rfl) (by decide) rfl (s6_X8_unit hM178 hpr gf gn (nxF gf gn gi) (by omega) (by omega)) gX8_unit_X8_unit rfl hdX8_unit (by decide) (Nat.le_of_ble_eq_true rfl) dX8_unit_29 rfl (fun M182 h183 => ?_)
      obtain ⟨hM182, h184⟩ := h183
      have bM182 := tkx_b (f := gf) (n := gn) (M := M182) (by omega)
      have qM182 := po_rr (unR gf gn 4) gn (nxF gf gn gi) (M178.1 78 5).toInt (M178.1 78 6).toInt (psX M178) (M182.1 78 5).toInt (M182.1 78 6).toInt (psX M182) (unR_g gf gn 4) (by omega) (by omega)
      refine j_aload_n C 1 0 dX8_unit_32 rfl rfl ?_
      refine y_sipush C dX8_unit_33 rfl ?_
      refine j_callVv C (d := 0) (As := [.int (sI 1016)]) (st := []) 78 (s_lt rfl rfl) (s_kc (c := 7) rfl rfl) (by decide) rfl (s1_X8_emit hM182 hpr 1016 (by omega) gf gn ((unR gf gn 4) (nxF gf gn gi)).2.2 (by omega) (by omega)) gX8_unit_X8_emit rfl hdX8_emit (by decide) (Nat.le_of_ble_eq_true rfl) dX8_unit_36 rfl (fun M186 h187 => ?_)
      obtain ⟨hM186, h188⟩ := h187
      have bM186 := tkx_b (f := gf) (n := gn) (M := M186) (by omega)
      have qM186 := po_eq gn ((unR gf gn 4) (nxF gf gn gi)).2.2 (M182.1 78 5).toInt (psX M182) (M186.1 78 5).toInt (psX M186) (by omega) (by omega) (by omega)
      refine j_goto C 130 dX8_unit_39 (by decide) ?_
      have u189r := un_1 gf gn 4 5 rfl gi (M0.1 78 5).toInt (M0.1 78 6).toInt (psX M0) (M178.1 78 5).toInt (M178.1 78 6).toInt (M182.1 78 5).toInt (M182.1 78 6).toInt (psX M182) (M186.1 78 5).toInt (M186.1 78 6).toInt (psX M186) (by omega) (by omega) (by omega) (by omega) (by omega) (by omega) (by omega) (by omega)
      exact hret _ _ _ dX8_unit_130 ⟨hM186, by omega⟩
  · have u190r := rr_no ((unR gf gn 5) gi) (M0.1 78 5).toInt (M0.1 78 6).toInt (M0.1 78 5).toInt (M0.1 78 6).toInt (psX M0) (by omega) rfl rfl
    exact hret _ _ _ dX8_unit_7 ⟨hM0, by omega⟩
set_option maxHeartbeats 4000000 in
theorem s7_X8_both {l : Launch} {dC : Nat → ClassId} {dI : Nat → Nat → Nat} {ad : Nat → Nat} {cA : Nat → ClassId} {pr : Nat → Nat → Bool} {Kz : mm_M} {M0 : mm_M} (hM0 : INV pr Kz M0) (hpr : PX pr) (gf : Nat → Int) (gn : Int) (gi : Int) (hp0 : b01 (TKX gf gn M0) = 1) (hp1 : b01 (PO gn gi (M0.1 78 5).toInt (psX M0)) = 1) : Cv l 22 yX8_both wsX8_both dC dI ad cA [.ref (ad 78), .int (sI 1)] M0 (fun M' => INV pr Kz M' ∧ (b01 (TKX gf gn M') = 1) ∧ b01 (RR ((boP gf gn (unR gf gn 5)) gi) (M0.1 78 5).toInt (M0.1 78 6).toInt (M'.1 78 5).toInt (M'.1 78 6).toInt (psX M')) = 1) := by
  refine cv_of (cc := cX8_both) (maxL := 3) (lv := [(0, .ref (ad 78)), (1, .int (sI 1))]) (by decide) rfl (Nat.le_of_ble_eq_true rfl) rfl ?_
  intro p e s m args below meth c A Q C hret
  refine j_aload_n C 0 0 dX8_both_0 rfl rfl ?_
  refine j_iload_n C 1 1 dX8_both_1 rfl rfl ?_
  refine j_callVv C (d := 21) (As := [.int (sI 1)]) (st := []) 78 (s_lt rfl rfl) (s_kc (c := 7) rfl rfl) (by decide) rfl (s7_X8_unit hM0 hpr gf gn gi (by omega) (by omega)) gX8_both_X8_unit rfl hdX8_unit (by decide) (Nat.le_of_ble_eq_true rfl) dX8_both_2 rfl (fun M102 h103 => ?_)
  obtain ⟨hM102, h104⟩ := h103
  have bM102 := tkx_b (f := gf) (n := gn) (M := M102) (by omega)
  have qM102 := po_rr (unR gf gn 5) gn gi (M0.1 78 5).toInt (M0.1 78 6).toInt (psX M0) (M102.1 78 5).toInt (M102.1 78 6).toInt (psX M102) (unR_g gf gn 5) (by omega) (by omega)
  refine y_iconst C dX8_both_5 ?_
  have u105l := ll_0 (luP gf gn 1015 1015 (unR gf gn 5)) gn ((unR gf gn 5) gi).2.2 (M102.1 78 5).toInt (M102.1 78 6).toInt (psX M102) (by omega)
  refine j_istore_n C 2 [(2, .int (sI 0)), (0, .ref (ad 78)), (1, .int (sI 1))] dX8_both_6 rfl (by decide) rfl ?_
  have L134 : ∀ (n132 : Nat), ∀ (a135 : Int) (M136 : mm_M) (gq137 : Int), (0 ≤ a135 ∧ a135 ≤ 900 ∧ (b01 (LL (luP gf gn 1015 1015 (unR gf gn 5)) gn ((unR gf gn 5) gi).2.2 gq137 a135 (M102.1 78 5).toInt (M102.1 78 6).toInt (M136.1 78 5).toInt (M136.1 78 6).toInt (psX M136)) = 1) ∧ (b01 (TKX gf gn M136) = 1) ∧ (b01 (PO gn gq137 (M136.1 78 5).toInt (psX M136)) = 1) ∧ (900 - a135) < (n132 : Int)) → INV pr Kz M136 → jj p l e (cn_R 22) s m args below meth c 0 0 Q 3 dC dI ad cA A M136 7 [(0, .ref (ad 78)), (1, .int (sI 1)), (2, .int (sI a135))] [] := by
    intro n132
    induction n132 with
    | zero =>
      intro a135 M136 gq137 h138 hM136
      exfalso; omega
    | succ n132 ih133 =>
      intro a135 M136 gq137 h138 hM136
      have u139b := tkx_b (f := gf) (n := gn) (M := M136) (by omega)
      refine j_iload_n C 2 2 dX8_both_7 rfl rfl ?_
      refine y_sipush C dX8_both_8 rfl ?_
      refine y_icmp_ge C 59 dX8_both_11 (by decide) (by omega) (fun h140 => ?_) (fun h140 => ?_)
      · have u162e := ll_e gf gn 1015 1015 (unR gf gn 5) ((unR gf gn 5) gi).2.2 gq137 a135 (M102.1 78 5).toInt (M102.1 78 6).toInt (M136.1 78 5).toInt (M136.1 78 6).toInt (psX M136) (by decide) (unR_g gf gn 5) (by omega) (by omega)
        have u162r : b01 (RR ((boP gf gn (unR gf gn 5)) gi) (M0.1 78 5).toInt (M0.1 78 6).toInt (M136.1 78 5).toInt (M136.1 78 6).toInt (psX M136)) = 1 := rr_sq ((unR gf gn 5) gi) (luP gf gn 1015 1015 (unR gf gn 5)) (M0.1 78 5).toInt (M0.1 78 6).toInt (M102.1 78 5).toInt (M102.1 78 6).toInt (psX M102) (M136.1 78 5).toInt (M136.1 78 6).toInt (psX M136) (by omega) (by omega)
        exact hret _ _ _ dX8_both_59 ⟨hM136, by omega⟩
      · refine j_aload_n C 0 0 dX8_both_14 rfl rfl ?_
        refine y_getI C 7 _ _ fX8_both_22 rfl rfl ft_7_5 sb_7_5 hM136 dX8_both_15 (fun a141 ea141 la141 ua141 => ?_)
        refine y_if_ne C 59 dX8_both_18 (by decide) (by omega) (fun h143 => ?_) (fun h143 => ?_)
        · have u163e := ll_e gf gn 1015 1015 (unR gf gn 5) ((unR gf gn 5) gi).2.2 gq137 a135 (M102.1 78 5).toInt (M102.1 78 6).toInt (M136.1 78 5).toInt (M136.1 78 6).toInt (psX M136) (by decide) (unR_g gf gn 5) (by omega) (by omega)
          have u163r : b01 (RR ((boP gf gn (unR gf gn 5)) gi) (M0.1 78 5).toInt (M0.1 78 6).toInt (M136.1 78 5).toInt (M136.1 78 6).toInt (psX M136)) = 1 := rr_sq ((unR gf gn 5) gi) (luP gf gn 1015 1015 (unR gf gn 5)) (M0.1 78 5).toInt (M0.1 78 6).toInt (M102.1 78 5).toInt (M102.1 78 6).toInt (psX M102) (M136.1 78 5).toInt (M136.1 78 6).toInt (psX M136) (by omega) (by omega)
          exact hret _ _ _ dX8_both_59 ⟨hM136, by omega⟩
        · refine j_aload_n C 0 0 dX8_both_21 rfl rfl ?_
          refine j_callVi C (d := 0) (As := []) (st := []) 78 (s_lt rfl rfl) (s_kc (c := 7) rfl rfl) (by decide) rfl (s1_X8_token hM136 gf gn gq137 (by omega) (by omega)) gX8_both_X8_token rfl hdX8_token (by decide) (Nat.le_of_ble_eq_true rfl) dX8_both_22 rfl (fun r144 M145 h146 => ?_)
          obtain ⟨a148, rfl, rfl, h147⟩ := h146
          refine y_sipush C dX8_both_25 rfl ?_
          refine y_icmp_ne C 59 dX8_both_28 (by decide) (by omega) (fun h149 => ?_) (fun h149 => ?_)
          · have u164e := ll_e gf gn 1015 1015 (unR gf gn 5) ((unR gf gn 5) gi).2.2 gq137 a135 (M102.1 78 5).toInt (M102.1 78 6).toInt (M136.1 78 5).toInt (M136.1 78 6).toInt (psX M136) (by decide) (unR_g gf gn 5) (by omega) (by omega)
            have u164r : b01 (RR ((boP gf gn (unR gf gn 5)) gi) (M0.1 78 5).toInt (M0.1 78 6).toInt (M136.1 78 5).toInt (M136.1 78 6).toInt (psX M136)) = 1 := rr_sq ((unR gf gn 5) gi) (luP gf gn 1015 1015 (unR gf gn 5)) (M0.1 78 5).toInt (M0.1 78 6).toInt (M102.1 78 5).toInt (M102.1 78 6).toInt (psX M102) (M136.1 78 5).toInt (M136.1 78 6).toInt (psX M136) (by omega) (by omega)
            exact hret _ _ _ dX8_both_59 ⟨hM136, by omega⟩
          · refine j_aload_n C 0 0 dX8_both_31 rfl rfl ?_
            refine j_dup C dX8_both_32 rfl ?_
            refine y_getI C 7 _ _ fX8_both_18 rfl rfl ft_7_2 sb_7_2 hM136 dX8_both_33 (fun a150 ea150 la150 ua150 => ?_)
            refine y_iconst C dX8_both_36 ?_
            refine y_iadd C dX8_both_37 ?_
            refine y_putI C 7 _ _ qX8_both_18 rfl rfl ft_7_2 sb_7_2 hM136 (PX.w hpr rfl rfl) dX8_both_38 (by omega) (fun M152 eM152 hM152 => ?_)
            have xM152 := tkx_j (f := gf) (n := gn) (gi := gq137) eM152 (by omega) (by omega) (by omega) (by omega)
            refine j_aload_n C 0 0 dX8_both_41 rfl rfl ?_
            refine j_iload_n C 1 1 dX8_both_42 rfl rfl ?_
            refine j_callVv C (d := 21) (As := [.int (sI 1)]) (st := []) 78 (s_lt rfl rfl) (s_kc (c := 7) rfl rfl) (by decide) rfl (s7_X8_unit hM152 hpr gf gn (nxF gf gn gq137) (by omega) (by omega)) gX8_both_X8_unit rfl hdX8_unit (by decide) (Nat.le_of_ble_eq_true rfl) dX8_both_43 rfl (fun M154 h155 => ?_)
            obtain ⟨hM154, h156⟩ := h155
            have bM154 := tkx_b (f := gf) (n := gn) (M := M154) (by omega)
            have qM154 := po_rr (unR gf gn 5) gn (nxF gf gn gq137) (M152.1 78 5).toInt (M152.1 78 6).toInt (psX M152) (M154.1 78 5).toInt (M154.1 78 6).toInt (psX M154) (unR_g gf gn 5) (by omega) (by omega)
            refine j_aload_n C 0 0 dX8_both_46 rfl rfl ?_
            refine y_sipush C dX8_both_47 rfl ?_
            refine j_callVv C (d := 0) (As := [.int (sI 1015)]) (st := []) 78 (s_lt rfl rfl) (s_kc (c := 7) rfl rfl) (by decide) rfl (s1_X8_emit hM154 hpr 1015 (by omega) gf gn ((unR gf gn 5) (nxF gf gn gq137)).2.2 (by omega) (by omega)) gX8_both_X8_emit rfl hdX8_emit (by decide) (Nat.le_of_ble_eq_true rfl) dX8_both_50 rfl (fun M158 h159 => ?_)
            obtain ⟨hM158, h160⟩ := h159
            have bM158 := tkx_b (f := gf) (n := gn) (M := M158) (by omega)
            have qM158 := po_eq gn ((unR gf gn 5) (nxF gf gn gq137)).2.2 (M154.1 78 5).toInt (psX M154) (M158.1 78 5).toInt (psX M158) (by omega) (by omega) (by omega)
            refine y_iinc C 2 [(2, .int (sI (a135 + 1))), (0, .ref (ad 78)), (1, .int (sI 1))] dX8_both_53 rfl (by decide) rfl ?_
            have u161s := ll_s gf gn 1015 1015 (unR gf gn 5) ((unR gf gn 5) gi).2.2 gq137 a135 (M102.1 78 5).toInt (M102.1 78 6).toInt (M136.1 78 5).toInt (M136.1 78 6).toInt (psX M136) (M152.1 78 5).toInt (M152.1 78 6).toInt (M154.1 78 5).toInt (M154.1 78 6).toInt (psX M154) (M158.1 78 5).toInt (M158.1 78 6).toInt (psX M158) (by decide) (unR_g gf gn 5) (by omega) (by omega) (by omega) (by omega) (by omega) (by omega) (by omega) (by omega) (by omega)
            refine j_goto C 7 dX8_both_56 (by decide) ?_
            refine j_lv [1, 2, 0] rfl ?_; exact ih133 (a135 + 1) M158 ((unR gf gn 5) (nxF gf gn gq137)).2.2 (by omega) hM158
  refine j_lv [1, 2, 0] rfl ?_; exact L134 2010 0 M102 ((unR gf gn 5) gi).2.2 (by omega) hM102
set_option maxHeartbeats 4000000 in
theorem s7_X8_truth {l : Launch} {dC : Nat → ClassId} {dI : Nat → Nat → Nat} {ad : Nat → Nat} {cA : Nat → ClassId} {pr : Nat → Nat → Bool} {Kz : mm_M} {M0 : mm_M} (hM0 : INV pr Kz M0) (hpr : PX pr) (gf : Nat → Int) (gn : Int) (gi : Int) (hp0 : b01 (TKX gf gn M0) = 1) (hp1 : b01 (PO gn gi (M0.1 78 5).toInt (psX M0)) = 1) : Cv l 23 yX8_truth wsX8_truth dC dI ad cA [.ref (ad 78), .int (sI 1)] M0 (fun M' => INV pr Kz M' ∧ (b01 (TKX gf gn M') = 1) ∧ b01 (RR ((trP gf gn (unR gf gn 5)) gi) (M0.1 78 5).toInt (M0.1 78 6).toInt (M'.1 78 5).toInt (M'.1 78 6).toInt (psX M')) = 1) := by
  refine cv_of (cc := cX8_truth) (maxL := 3) (lv := [(0, .ref (ad 78)), (1, .int (sI 1))]) (by decide) rfl (Nat.le_of_ble_eq_true rfl) rfl ?_
  intro p e s m args below meth c A Q C hret
  refine j_aload_n C 0 0 dX8_truth_0 rfl rfl ?_
  refine j_iload_n C 1 1 dX8_truth_1 rfl rfl ?_
  refine j_callVv C (d := 22) (As := [.int (sI 1)]) (st := []) 78 (s_lt rfl rfl) (s_kc (c := 7) rfl rfl) (by decide) rfl (s7_X8_both hM0 hpr gf gn gi (by omega) (by omega)) gX8_truth_X8_both rfl hdX8_both (by decide) (Nat.le_of_ble_eq_true rfl) dX8_truth_2 rfl (fun M102 h103 => ?_)
  obtain ⟨hM102, h104⟩ := h103
  have bM102 := tkx_b (f := gf) (n := gn) (M := M102) (by omega)
  have qM102 := po_rr (boP gf gn (unR gf gn 5)) gn gi (M0.1 78 5).toInt (M0.1 78 6).toInt (psX M0) (M102.1 78 5).toInt (M102.1 78 6).toInt (psX M102) (bo_g gf gn (unR_g gf gn 5)) (by omega) (by omega)
  refine y_iconst C dX8_truth_5 ?_
  have u105l := ll_0 (luP gf gn 1014 1014 (boP gf gn (unR gf gn 5))) gn ((boP gf gn (unR gf gn 5)) gi).2.2 (M102.1 78 5).toInt (M102.1 78 6).toInt (psX M102) (by omega)
  refine j_istore_n C 2 [(2, .int (sI 0)), (0, .ref (ad 78)), (1, .int (sI 1))] dX8_truth_6 rfl (by decide) rfl ?_
  have L134 : ∀ (n132 : Nat), ∀ (a135 : Int) (M136 : mm_M) (gq137 : Int), (0 ≤ a135 ∧ a135 ≤ 900 ∧ (b01 (LL (luP gf gn 1014 1014 (boP gf gn (unR gf gn 5))) gn ((boP gf gn (unR gf gn 5)) gi).2.2 gq137 a135 (M102.1 78 5).toInt (M102.1 78 6).toInt (M136.1 78 5).toInt (M136.1 78 6).toInt (psX M136)) = 1) ∧ (b01 (TKX gf gn M136) = 1) ∧ (b01 (PO gn gq137 (M136.1 78 5).toInt (psX M136)) = 1) ∧ (900 - a135) < (n132 : Int)) → INV pr Kz M136 → jj p l e (cn_R 23) s m args below meth c 0 0 Q 3 dC dI ad cA A M136 7 [(0, .ref (ad 78)), (1, .int (sI 1)), (2, .int (sI a135))] [] := by
    intro n132
    induction n132 with
    | zero =>
      intro a135 M136 gq137 h138 hM136
      exfalso; omega
    | succ n132 ih133 =>
      intro a135 M136 gq137 h138 hM136
      have u139b := tkx_b (f := gf) (n := gn) (M := M136) (by omega)
      refine j_iload_n C 2 2 dX8_truth_7 rfl rfl ?_
      refine y_sipush C dX8_truth_8 rfl ?_
      refine y_icmp_ge C 59 dX8_truth_11 (by decide) (by omega) (fun h140 => ?_) (fun h140 => ?_)
      · have u162e := ll_e gf gn 1014 1014 (boP gf gn (unR gf gn 5)) ((boP gf gn (unR gf gn 5)) gi).2.2 gq137 a135 (M102.1 78 5).toInt (M102.1 78 6).toInt (M136.1 78 5).toInt (M136.1 78 6).toInt (psX M136) (by decide) (bo_g gf gn (unR_g gf gn 5)) (by omega) (by omega)
        have u162r : b01 (RR ((trP gf gn (unR gf gn 5)) gi) (M0.1 78 5).toInt (M0.1 78 6).toInt (M136.1 78 5).toInt (M136.1 78 6).toInt (psX M136)) = 1 := rr_sq ((boP gf gn (unR gf gn 5)) gi) (luP gf gn 1014 1014 (boP gf gn (unR gf gn 5))) (M0.1 78 5).toInt (M0.1 78 6).toInt (M102.1 78 5).toInt (M102.1 78 6).toInt (psX M102) (M136.1 78 5).toInt (M136.1 78 6).toInt (psX M136) (by omega) (by omega)
        exact hret _ _ _ dX8_truth_59 ⟨hM136, by omega⟩
      · refine j_aload_n C 0 0 dX8_truth_14 rfl rfl ?_
        refine y_getI C 7 _ _ fX8_truth_22 rfl rfl ft_7_5 sb_7_5 hM136 dX8_truth_15 (fun a141 ea141 la141 ua141 => ?_)
        refine y_if_ne C 59 dX8_truth_18 (by decide) (by omega) (fun h143 => ?_) (fun h143 => ?_)
        · have u163e := ll_e gf gn 1014 1014 (boP gf gn (unR gf gn 5)) ((boP gf gn (unR gf gn 5)) gi).2.2 gq137 a135 (M102.1 78 5).toInt (M102.1 78 6).toInt (M136.1 78 5).toInt (M136.1 78 6).toInt (psX M136) (by decide) (bo_g gf gn (unR_g gf gn 5)) (by omega) (by omega)
          have u163r : b01 (RR ((trP gf gn (unR gf gn 5)) gi) (M0.1 78 5).toInt (M0.1 78 6).toInt (M136.1 78 5).toInt (M136.1 78 6).toInt (psX M136)) = 1 := rr_sq ((boP gf gn (unR gf gn 5)) gi) (luP gf gn 1014 1014 (boP gf gn (unR gf gn 5))) (M0.1 78 5).toInt (M0.1 78 6).toInt (M102.1 78 5).toInt (M102.1 78 6).toInt (psX M102) (M136.1 78 5).toInt (M136.1 78 6).toInt (psX M136) (by omega) (by omega)
          exact hret _ _ _ dX8_truth_59 ⟨hM136, by omega⟩
        · refine j_aload_n C 0 0 dX8_truth_21 rfl rfl ?_
          refine j_callVi C (d := 0) (As := []) (st := []) 78 (s_lt rfl rfl) (s_kc (c := 7) rfl rfl) (by decide) rfl (s1_X8_token hM136 gf gn gq137 (by omega) (by omega)) gX8_truth_X8_token rfl hdX8_token (by decide) (Nat.le_of_ble_eq_true rfl) dX8_truth_22 rfl (fun r144 M145 h146 => ?_)
          obtain ⟨a148, rfl, rfl, h147⟩ := h146
          refine y_sipush C dX8_truth_25 rfl ?_
          refine y_icmp_ne C 59 dX8_truth_28 (by decide) (by omega) (fun h149 => ?_) (fun h149 => ?_)
          · have u164e := ll_e gf gn 1014 1014 (boP gf gn (unR gf gn 5)) ((boP gf gn (unR gf gn 5)) gi).2.2 gq137 a135 (M102.1 78 5).toInt (M102.1 78 6).toInt (M136.1 78 5).toInt (M136.1 78 6).toInt (psX M136) (by decide) (bo_g gf gn (unR_g gf gn 5)) (by omega) (by omega)
            have u164r : b01 (RR ((trP gf gn (unR gf gn 5)) gi) (M0.1 78 5).toInt (M0.1 78 6).toInt (M136.1 78 5).toInt (M136.1 78 6).toInt (psX M136)) = 1 := rr_sq ((boP gf gn (unR gf gn 5)) gi) (luP gf gn 1014 1014 (boP gf gn (unR gf gn 5))) (M0.1 78 5).toInt (M0.1 78 6).toInt (M102.1 78 5).toInt (M102.1 78 6).toInt (psX M102) (M136.1 78 5).toInt (M136.1 78 6).toInt (psX M136) (by omega) (by omega)
            exact hret _ _ _ dX8_truth_59 ⟨hM136, by omega⟩
          · refine j_aload_n C 0 0 dX8_truth_31 rfl rfl ?_
            refine j_dup C dX8_truth_32 rfl ?_
            refine y_getI C 7 _ _ fX8_truth_18 rfl rfl ft_7_2 sb_7_2 hM136 dX8_truth_33 (fun a150 ea150 la150 ua150 => ?_)
            refine y_iconst C dX8_truth_36 ?_
            refine y_iadd C dX8_truth_37 ?_
            refine y_putI C 7 _ _ qX8_truth_18 rfl rfl ft_7_2 sb_7_2 hM136 (PX.w hpr rfl rfl) dX8_truth_38 (by omega) (fun M152 eM152 hM152 => ?_)
            have xM152 := tkx_j (f := gf) (n := gn) (gi := gq137) eM152 (by omega) (by omega) (by omega) (by omega)
            refine j_aload_n C 0 0 dX8_truth_41 rfl rfl ?_
            refine j_iload_n C 1 1 dX8_truth_42 rfl rfl ?_
            refine j_callVv C (d := 22) (As := [.int (sI 1)]) (st := []) 78 (s_lt rfl rfl) (s_kc (c := 7) rfl rfl) (by decide) rfl (s7_X8_both hM152 hpr gf gn (nxF gf gn gq137) (by omega) (by omega)) gX8_truth_X8_both rfl hdX8_both (by decide) (Nat.le_of_ble_eq_true rfl) dX8_truth_43 rfl (fun M154 h155 => ?_)
            obtain ⟨hM154, h156⟩ := h155
            have bM154 := tkx_b (f := gf) (n := gn) (M := M154) (by omega)
            have qM154 := po_rr (boP gf gn (unR gf gn 5)) gn (nxF gf gn gq137) (M152.1 78 5).toInt (M152.1 78 6).toInt (psX M152) (M154.1 78 5).toInt (M154.1 78 6).toInt (psX M154) (bo_g gf gn (unR_g gf gn 5)) (by omega) (by omega)
            refine j_aload_n C 0 0 dX8_truth_46 rfl rfl ?_
            refine y_sipush C dX8_truth_47 rfl ?_
            refine j_callVv C (d := 0) (As := [.int (sI 1014)]) (st := []) 78 (s_lt rfl rfl) (s_kc (c := 7) rfl rfl) (by decide) rfl (s1_X8_emit hM154 hpr 1014 (by omega) gf gn ((boP gf gn (unR gf gn 5)) (nxF gf gn gq137)).2.2 (by omega) (by omega)) gX8_truth_X8_emit rfl hdX8_emit (by decide) (Nat.le_of_ble_eq_true rfl) dX8_truth_50 rfl (fun M158 h159 => ?_)
            obtain ⟨hM158, h160⟩ := h159
            have bM158 := tkx_b (f := gf) (n := gn) (M := M158) (by omega)
            have qM158 := po_eq gn ((boP gf gn (unR gf gn 5)) (nxF gf gn gq137)).2.2 (M154.1 78 5).toInt (psX M154) (M158.1 78 5).toInt (psX M158) (by omega) (by omega) (by omega)
            refine y_iinc C 2 [(2, .int (sI (a135 + 1))), (0, .ref (ad 78)), (1, .int (sI 1))] dX8_truth_53 rfl (by decide) rfl ?_
            have u161s := ll_s gf gn 1014 1014 (boP gf gn (unR gf gn 5)) ((boP gf gn (unR gf gn 5)) gi).2.2 gq137 a135 (M102.1 78 5).toInt (M102.1 78 6).toInt (M136.1 78 5).toInt (M136.1 78 6).toInt (psX M136) (M152.1 78 5).toInt (M152.1 78 6).toInt (M154.1 78 5).toInt (M154.1 78 6).toInt (psX M154) (M158.1 78 5).toInt (M158.1 78 6).toInt (psX M158) (by decide) (bo_g gf gn (unR_g gf gn 5)) (by omega) (by omega) (by omega) (by omega) (by omega) (by omega) (by omega) (by omega) (by omega)
            refine j_goto C 7 dX8_truth_56 (by decide) ?_
            refine j_lv [1, 2, 0] rfl ?_; exact ih133 (a135 + 1) M158 ((boP gf gn (unR gf gn 5)) (nxF gf gn gq137)).2.2 (by omega) hM158
  refine j_lv [1, 2, 0] rfl ?_; exact L134 2010 0 M102 ((boP gf gn (unR gf gn 5)) gi).2.2 (by omega) hM102
set_option maxHeartbeats 4000000 in
theorem s8_X8_unit {l : Launch} {dC : Nat → ClassId} {dI : Nat → Nat → Nat} {ad : Nat → Nat} {cA : Nat → ClassId} {pr : Nat → Nat → Bool} {Kz : mm_M} {M0 : mm_M} (hM0 : INV pr Kz M0) (hpr : PX pr) (gf : Nat → Int) (gn : Int) (gi : Int) (hp0 : b01 (TKX gf gn M0) = 1) (hp1 : b01 (PO gn gi (M0.1 78 5).toInt (psX M0)) = 1) : Cv l 24 yX8_unit wsX8_unit dC dI ad cA [.ref (ad 78), .int (sI 0)] M0 (fun M' => INV pr Kz M' ∧ (b01 (TKX gf gn M') = 1) ∧ b01 (RR ((unR gf gn 6) gi) (M0.1 78 5).toInt (M0.1 78 6).toInt (M'.1 78 5).toInt (M'.1 78 6).toInt (psX M')) = 1) := by
  refine cv_of (cc := cX8_unit) (maxL := 4) (lv := [(0, .ref (ad 78)), (1, .int (sI 0))]) (by decide) rfl (Nat.le_of_ble_eq_true rfl) rfl ?_
  intro p e s m args below meth c A Q C hret
  refine j_aload_n C 0 0 dX8_unit_0 rfl rfl ?_
  refine y_getI C 7 _ _ fX8_unit_22 rfl rfl ft_7_5 sb_7_5 hM0 dX8_unit_1 (fun a101 ea101 la101 ua101 => ?_)
  refine y_if_eq C 8 dX8_unit_4 (by decide) (by omega) (fun h103 => ?_) (fun h103 => ?_)
  · refine j_aload_n C 0 0 dX8_unit_8 rfl rfl ?_
    refine j_callVi C (d := 0) (As := []) (st := []) 78 (s_lt rfl rfl) (s_kc (c := 7) rfl rfl) (by decide) rfl (s1_X8_token hM0 gf gn gi (by omega) (by omega)) gX8_unit_X8_token rfl hdX8_token (by decide) (Nat.le_of_ble_eq_true rfl) dX8_unit_9 rfl (fun r104 M105 h106 => ?_)
    obtain ⟨a108, rfl, rfl, h107⟩ := h106
    refine j_istore_n C 2 [(2, .int (sI a108)), (0, .ref (ad 78)), (1, .int (sI 0))] dX8_unit_12 rfl (by decide) rfl ?_
    refine j_iload_n C 0 2 dX8_unit_13 rfl rfl ?_
    refine y_sipush C dX8_unit_14 rfl ?_
    refine y_icmp_ne C 42 dX8_unit_17 (by decide) (by omega) (fun h109 => ?_) (fun h109 => ?_)
    · refine j_iload_n C 0 2 dX8_unit_42 rfl rfl ?_
      refine y_sipush C dX8_unit_43 rfl ?_
      refine y_icmp_ne C 71 dX8_unit_46 (by decide) (by omega) (fun h110 => ?_) (fun h110 => ?_)
      · refine j_aload_n C 1 0 dX8_unit_71 rfl rfl ?_
        refine j_iload_n C 2 1 dX8_unit_72 rfl rfl ?_
        refine j_callVv C (d := 23) (As := [.int (sI 0)]) (st := []) 78 (s_lt rfl rfl) (s_kc (c := 7) rfl rfl) (by decide) rfl (s8_X8_sum hM0 hpr gf gn gi (by omega) (by omega)) gX8_unit_X8_sum rfl hdX8_sum (by decide) (Nat.le_of_ble_eq_true rfl) dX8_unit_73 rfl (fun M112 h113 => ?_)
        obtain ⟨hM112, h114⟩ := h113
        have bM112 := tkx_b (f := gf) (n := gn) (M := M112) (by omega)
        have qM112 := po_rr (suR gf gn 6) gn gi (M0.1 78 5).toInt (M0.1 78 6).toInt (psX M0) (M112.1 78 5).toInt (M112.1 78 6).toInt (psX M112) (suR_g gf gn 6) (by omega) (by omega)
        refine j_aload_n C 1 0 dX8_unit_76 rfl rfl ?_
        refine j_callVi C (d := 0) (As := []) (st := []) 78 (s_lt rfl rfl) (s_kc (c := 7) rfl rfl) (by decide) rfl (s1_X8_token hM112 gf gn ((suR gf gn 6) gi).2.2 (by omega) (by omega)) gX8_unit_X8_token rfl hdX8_token (by decide) (Nat.le_of_ble_eq_true rfl) dX8_unit_77 rfl (fun r115 M116 h117 => ?_)
        obtain ⟨a119, rfl, rfl, h118⟩ := h117
        refine j_istore_n C 3 [(3, .int (sI a119)), (2, .int (sI a108)), (0, .ref (ad 78)), (1, .int (sI 0))] dX8_unit_80 rfl (by decide) rfl ?_
        refine j_iload_n C 0 3 dX8_unit_81 rfl rfl ?_
        refine y_sipush C dX8_unit_82 rfl ?_
        refine y_icmp_eq C 102 dX8_unit_85 (by decide) (by omega) (fun h120 => ?_) (fun h120 => ?_)
        · refine j_aload_n C 2 0 dX8_unit_102 rfl rfl ?_
          refine j_dup C dX8_unit_103 rfl ?_
          refine y_getI C 7 _ _ fX8_unit_18 rfl rfl ft_7_2 sb_7_2 hM112 dX8_unit_104 (fun a121 ea121 la121 ua121 => ?_)
          refine y_iconst C dX8_unit_107 ?_
          refine y_iadd C dX8_unit_108 ?_
          refine y_putI C 7 _ _ qX8_unit_18 rfl rfl ft_7_2 sb_7_2 hM112 (PX.w hpr rfl rfl) dX8_unit_109 (by omega) (fun M123 eM123 hM123 => ?_)
          have xM123 := tkx_j (f := gf) (n := gn) (gi := ((suR gf gn 6) gi).2.2) eM123 (by omega) (by omega) (by omega) (by omega)
          refine j_aload_n C 2 0 dX8_unit_112 rfl rfl ?_
          refine j_iload_n C 3 1 dX8_unit_113 rfl rfl ?_
          refine j_callVv C (d := 23) (As := [.int (sI 0)]) (st := []) 78 (s_lt rfl rfl) (s_kc (c := 7) rfl rfl) (by decide) rfl (s8_X8_sum hM123 hpr gf gn (nxF gf gn ((suR gf gn 6) gi).2.2) (by omega) (by omega)) gX8_unit_X8_sum rfl hdX8_sum (by decide) (Nat.le_of_ble_eq_true rfl) dX8_unit_114 rfl (fun M125 h126 => ?_)
          obtain ⟨hM125, h127⟩ := h126
          have bM125 := tkx_b (f := gf) (n := gn) (M := M125) (by omega)
          have qM125 := po_rr (suR gf gn 6) gn (nxF gf gn ((suR gf gn 6) gi).2.2) (M123.1 78 5).toInt (M123.1 78 6).toInt (psX M123) (M125.1 78 5).toInt (M125.1 78 6).toInt (psX M125) (suR_g gf gn 6) (by omega) (by omega)
          refine j_aload_n C 2 0 dX8_unit_117 rfl rfl ?_
          refine j_iload_n C 0 3 dX8_unit_118 rfl rfl ?_
          refine j_callVv C (d := 0) (As := [.int (sI a119)]) (st := []) 78 (s_lt rfl rfl) (s_kc (c := 7) rfl rfl) (by decide) rfl (s1_X8_emit hM125 hpr a119 (by omega) gf gn ((suR gf gn 6) (nxF gf gn ((suR gf gn 6) gi).2.2)).2.2 (by omega) (by omega)) gX8_unit_X8_emit rfl hdX8_emit (by decide) (Nat.le_of_ble_eq_true rfl) dX8_unit_119 rfl (fun M129 h130 => ?_)
          obtain ⟨hM129, h131⟩ := h130
          have bM129 := tkx_b (f := gf) (n := gn) (M := M129) (by omega)
          have qM129 := po_eq gn ((suR gf gn 6) (nxF gf gn ((suR gf gn 6) gi).2.2)).2.2 (M125.1 78 5).toInt (psX M125) (M129.1 78 5).toInt (psX M129) (by omega) (by omega) (by omega)
          refine j_goto C 130 dX8_unit_122 (by decide) ?_
          have u132r := un_4 gf gn 6 gi (M0.1 78 5).toInt (M0.1 78 6).toInt (psX M0) (M112.1 78 5).toInt (M112.1 78 6).toInt (psX M112) (M123.1 78 5).toInt (M123.1 78 6).toInt (M125.1 78 5).toInt (M125.1 78 6).toInt (psX M125) (M129.1 78 5).toInt (M129.1 78 6).toInt (psX M129) (by omega) (by omega) (by omega) (by omega) (by omega) (by omega) (by omega) (by omega) (by omega) (by omega) (by omega)
          exact hret _ _ _ dX8_unit_130 ⟨hM129, by omega⟩
        · refine j_iload_n C 0 3 dX8_unit_88 rfl rfl ?_
          refine y_sipush C dX8_unit_89 rfl ?_
          refine y_icmp_eq C 102 dX8_unit_92 (by decide) (by omega) (fun h133 => ?_) (fun h133 => ?_)
          · refine j_aload_n C 2 0 dX8_unit_102 rfl rfl ?_
            refine j_dup C dX8_unit_103 rfl ?_
            refine y_getI C 7 _ _ fX8_unit_18 rfl rfl ft_7_2 sb_7_2 hM112 dX8_unit_104 (fun a134 ea134 la134 ua134 => ?_)
            refine y_iconst C dX8_unit_107 ?_
            refine y_iadd C dX8_unit_108 ?_
            refine y_putI C 7 _ _ qX8_unit_18 rfl rfl ft_7_2 sb_7_2 hM112 (PX.w hpr rfl rfl) dX8_unit_109 (by omega) (fun M136 eM136 hM136 => ?_)
            have xM136 := tkx_j (f := gf) (n := gn) (gi := ((suR gf gn 6) gi).2.2) eM136 (by omega) (by omega) (by omega) (by omega)
            refine j_aload_n C 2 0 dX8_unit_112 rfl rfl ?_
            refine j_iload_n C 3 1 dX8_unit_113 rfl rfl ?_
            refine j_callVv C (d := 23) (As := [.int (sI 0)]) (st := []) 78 (s_lt rfl rfl) (s_kc (c := 7) rfl rfl) (by decide) rfl (s8_X8_sum hM136 hpr gf gn (nxF gf gn ((suR gf gn 6) gi).2.2) (by omega) (by omega)) gX8_unit_X8_sum rfl hdX8_sum (by decide) (Nat.le_of_ble_eq_true rfl) dX8_unit_114 rfl (fun M138 h139 => ?_)
            obtain ⟨hM138, h140⟩ := h139
            have bM138 := tkx_b (f := gf) (n := gn) (M := M138) (by omega)
            have qM138 := po_rr (suR gf gn 6) gn (nxF gf gn ((suR gf gn 6) gi).2.2) (M136.1 78 5).toInt (M136.1 78 6).toInt (psX M136) (M138.1 78 5).toInt (M138.1 78 6).toInt (psX M138) (suR_g gf gn 6) (by omega) (by omega)
            refine j_aload_n C 2 0 dX8_unit_117 rfl rfl ?_
            refine j_iload_n C 0 3 dX8_unit_118 rfl rfl ?_
            refine j_callVv C (d := 0) (As := [.int (sI a119)]) (st := []) 78 (s_lt rfl rfl) (s_kc (c := 7) rfl rfl) (by decide) rfl (s1_X8_emit hM138 hpr a119 (by omega) gf gn ((suR gf gn 6) (nxF gf gn ((suR gf gn 6) gi).2.2)).2.2 (by omega) (by omega)) gX8_unit_X8_emit rfl hdX8_emit (by decide) (Nat.le_of_ble_eq_true rfl) dX8_unit_119 rfl (fun M142 h143 => ?_)
            obtain ⟨hM142, h144⟩ := h143
            have bM142 := tkx_b (f := gf) (n := gn) (M := M142) (by omega)
            have qM142 := po_eq gn ((suR gf gn 6) (nxF gf gn ((suR gf gn 6) gi).2.2)).2.2 (M138.1 78 5).toInt (psX M138) (M142.1 78 5).toInt (psX M142) (by omega) (by omega) (by omega)
            refine j_goto C 130 dX8_unit_122 (by decide) ?_
            have u145r := un_4 gf gn 6 gi (M0.1 78 5).toInt (M0.1 78 6).toInt (psX M0) (M112.1 78 5).toInt (M112.1 78 6).toInt (psX M112) (M136.1 78 5).toInt (M136.1 78 6).toInt (M138.1 78 5).toInt (M138.1 78 6).toInt (psX M138) (M142.1 78 5).toInt (M142.1 78 6).toInt (psX M142) (by omega) (by omega) (by omega) (by omega) (by omega) (by omega) (by omega) (by omega) (by omega) (by omega) (by omega)
            exact hret _ _ _ dX8_unit_130 ⟨hM142, by omega⟩
          · refine j_iload_n C 0 3 dX8_unit_95 rfl rfl ?_
            refine y_sipush C dX8_unit_96 rfl ?_
            refine y_icmp_ne C 125 dX8_unit_99 (by decide) (by omega) (fun h146 => ?_) (fun h146 => ?_)
            · refine j_aload_n C 2 0 dX8_unit_125 rfl rfl ?_
              refine y_iconst C dX8_unit_126 ?_
              refine j_callVv C (d := 0) (As := [.int (sI 2)]) (st := []) 78 (s_lt rfl rfl) (s_kc (c := 7) rfl rfl) (by decide) rfl (s1_X8_fail hM112 hpr 2 (by omega) gf gn ((suR gf gn 6) gi).2.2 (by omega) (by omega) (by omega)) gX8_unit_X8_fail rfl hdX8_fail (by decide) (Nat.le_of_ble_eq_true rfl) dX8_unit_127 rfl (fun M148 h149 => ?_)
              obtain ⟨hM148, fM148, h150⟩ := h149
              have bM148 := tkx_b (f := gf) (n := gn) (M := M148) (by omega)
              have qM148 := po_f gn ((suR gf gn 6) gi).2.2 (M148.1 78 5).toInt (psX M148) (by omega)
              have u151r := un_5 gf gn 6 gi (M0.1 78 5).toInt (M0.1 78 6).toInt (psX M0) (M112.1 78 5).toInt (M112.1 78 6).toInt (psX M112) (M148.1 78 5).toInt (M148.1 78 6).toInt (psX M148) (by omega) (by omega) (by omega) (by omega) (fun _ => by omega) (by omega)
              exact hret _ _ _ dX8_unit_130 ⟨hM148, by omega⟩
            · refine j_aload_n C 2 0 dX8_unit_102 rfl rfl ?_
              refine j_dup C dX8_unit_103 rfl ?_
              refine y_getI C 7 _ _ fX8_unit_18 rfl rfl ft_7_2 sb_7_2 hM112 dX8_unit_104 (fun a152 ea152 la152 ua152 => ?_)
              refine y_iconst C dX8_unit_107 ?_
              refine y_iadd C dX8_unit_108 ?_
              refine y_putI C 7 _ _ qX8_unit_18 rfl rfl ft_7_2 sb_7_2 hM112 (PX.w hpr rfl rfl) dX8_unit_109 (by omega) (fun M154 eM154 hM154 => ?_)
              have xM154 := tkx_j (f := gf) (n := gn) (gi := ((suR gf gn 6) gi).2.2) eM154 (by omega) (by omega) (by omega) (by omega)
              refine j_aload_n C 2 0 dX8_unit_112 rfl rfl ?_
              refine j_iload_n C 3 1 dX8_unit_113 rfl rfl ?_
              refine j_callVv C (d := 23) (As := [.int (sI 0)]) (st := []) 78 (s_lt rfl rfl) (s_kc (c := 7) rfl rfl) (by decide) rfl (s8_X8_sum hM154 hpr gf gn (nxF gf gn ((suR gf gn 6) gi).2.2) (by omega) (by omega)) gX8_unit_X8_sum rfl hdX8_sum (by decide) (Nat.le_of_ble_eq_true rfl) dX8_unit_114 rfl (fun M156 h157 => ?_)
              obtain ⟨hM156, h158⟩ := h157
              have bM156 := tkx_b (f := gf) (n := gn) (M := M156) (by omega)
              have qM156 := po_rr (suR gf gn 6) gn (nxF gf gn ((suR gf gn 6) gi).2.2) (M154.1 78 5).toInt (M154.1 78 6).toInt (psX M154) (M156.1 78 5).toInt (M156.1 78 6).toInt (psX M156) (suR_g gf gn 6) (by omega) (by omega)
              refine j_aload_n C 2 0 dX8_unit_117 rfl rfl ?_
              refine j_iload_n C 0 3 dX8_unit_118 rfl rfl ?_
              refine j_callVv C (d := 0) (As := [.int (sI a119)]) (st := []) 78 (s_lt rfl rfl) (s_kc (c := 7) rfl rfl) (by decide) rfl (s1_X8_emit hM156 hpr a119 (by omega) gf gn ((suR gf gn 6) (nxF gf gn ((suR gf gn 6) gi).2.2)).2.2 (by omega) (by omega)) gX8_unit_X8_emit rfl hdX8_emit (by decide) (Nat.le_of_ble_eq_true rfl) dX8_unit_119 rfl (fun M160 h161 => ?_)
              obtain ⟨hM160, h162⟩ := h161
              have bM160 := tkx_b (f := gf) (n := gn) (M := M160) (by omega)
              have qM160 := po_eq gn ((suR gf gn 6) (nxF gf gn ((suR gf gn 6) gi).2.2)).2.2 (M156.1 78 5).toInt (psX M156) (M160.1 78 5).toInt (psX M160) (by omega) (by omega) (by omega)
              refine j_goto C 130 dX8_unit_122 (by decide) ?_
              have u163r := un_4 gf gn 6 gi (M0.1 78 5).toInt (M0.1 78 6).toInt (psX M0) (M112.1 78 5).toInt (M112.1 78 6).toInt (psX M112) (M154.1 78 5).toInt (M154.1 78 6).toInt (M156.1 78 5).toInt (M156.1 78 6).toInt (psX M156) (M160.1 78 5).toInt (M160.1 78 6).toInt (psX M160) (by omega) (by omega) (by omega) (by omega) (by omega) (by omega) (by omega) (by omega) (by omega) (by omega) (by omega)
              exact hret _ _ _ dX8_unit_130 ⟨hM160, by omega⟩
      · refine j_aload_n C 1 0 dX8_unit_49 rfl rfl ?_
        refine j_iload_n C 2 1 dX8_unit_50 rfl rfl ?_
        refine j_callVv C (d := 0) (As := [.int (sI 0)]) (st := []) 78 (s_lt rfl rfl) (s_kc (c := 7) rfl rfl) (by decide) rfl (s1_X8_goDeeper hM0 hpr gf gn gi (by omega) (by omega) (by omega) (by omega) (by omega)) gX8_unit_X8_goDeeper rfl hdX8_goDeeper (by decide) (Nat.le_of_ble_eq_true rfl) dX8_unit_51 rfl (fun M165 h166 => ?_)
        obtain ⟨hM165, fM165, h167⟩ := h166
        have bM165 := tkx_b (f := gf) (n := gn) (M := M165) (by omega)
        refine j_aload_n C 1 0 dX8_unit_54 rfl rfl ?_
        refine j_iload_n C 2 1 dX8_unit_55 rfl rfl ?_
        refine y_iconst C dX8_unit_56 ?_
        refine y_iadd C dX8_unit_57 ?_
        refine j_callVv C (d := 23) (As := [.int (sI (0 + 1))]) (st := []) 78 (s_lt rfl rfl) (s_kc (c := 7) rfl rfl) (by decide) rfl (s7_X8_truth hM165 hpr gf gn (nxF gf gn gi) (by omega) (by omega)) gX8_unit_X8_truth rfl hdX8_truth (by decide) (Nat.le_of_ble_eq_true rfl) dX8_unit_58 rfl (fun M169 h170 => ?_)
        obtain ⟨hM169, h171⟩ := h170
        have bM169 := tkx_b (f := gf) (n := gn) (M := M169) (by omega)
        have qM169 := po_rr (trP gf gn (unR gf gn 5)) gn (nxF gf gn gi) (M165.1 78 5).toInt (M165.1 78 6).toInt (psX M165) (M169.1 78 5).toInt (M169.1 78 6).toInt (psX M169) (tr_g gf gn (unR_g gf gn 5)) (by omega) (by omega)
        refine j_aload_n C 1 0 dX8_unit_61 rfl rfl ?_
        refine y_sipush C dX8_unit_62 rfl ?_
        refine j_callVv C (d := 1) (As := [.int (sI 2093)]) (st := []) 78 (s_lt rfl rfl) (s_kc (c := 7) rfl rfl) (by decide) rfl (s1_X8_expect hM169 hpr 2093 (by omega) gf gn ((trP gf gn (unR gf gn 5)) (nxF gf gn gi)).2.2 (by omega) (by omega) (by omega) (by omega)) gX8_unit_X8_expect rfl hdX8_expect (by decide) (Nat.le_of_ble_eq_true rfl) dX8_unit_65 rfl (fun M173 h174 => ?_)
        obtain ⟨hM173, fM173, h175⟩ := h174
        have bM173 := tkx_b (f := gf) (n := gn) (M := M173) (by omega)
        have qM173 := po_rr (exP gf gn 2093) gn ((trP gf gn (unR gf gn 5)) (nxF gf gn gi)).2.2 (M169.1 78 5).toInt (M169.1 78 6).toInt (psX M169) (M173.1 78 5).toInt (M173.1 78 6).toInt (psX M173) (ex_g gf gn 2093 (by omega)) (by omega) (by omega)
        refine j_goto C 130 dX8_unit_68 (by decide) ?_
        have u176r := un_2 gf gn 5 6 rfl gi (M0.1 78 5).toInt (M0.1 78 6).toInt (psX M0) (M165.1 78 5).toInt (M165.1 78 6).toInt (M169.1 78 5).toInt (M169.1 78 6).toInt (psX M169) (M173.1 78 5).toInt (M173.1 78 6).toInt (psX M173) (by omega) (by omega) (by omega) (by omega) (by omega) (by omega)
        exact hret _ _ _ dX8_unit_130 ⟨hM173, by omega⟩
    · refine j_aload_n C 1 0 dX8_unit_20 rfl rfl ?_
      refine j_iload_n C 2 1 dX8_unit_21 rfl rfl ?_
      refine j_callVv C (d := 0) (As := [.int (sI 0)]) (st := []) 78 (s_lt rfl rfl) (s_kc (c := 7) rfl rfl) (by decide) rfl (s1_X8_goDeeper hM0 hpr gf gn gi (by omega) (by omega) (by omega) (by omega) (by omega)) gX8_unit_X8_goDeeper rfl hdX8_goDeeper (by decide) (Nat.le_of_ble_eq_true rfl) dX8_unit_22 rfl (fun M178 h179 => ?_)
      obtain ⟨hM178, fM178, h180⟩ := h179
      have bM178 := tkx_b (f := gf) (n := gn) (M := M178) (by omega)
      refine j_aload_n C 1 0 dX8_unit_25 rfl rfl ?_
      refine j_iload_n C 2 1 dX8_unit_26 rfl rfl ?_
      refine y_iconst C dX8_unit_27 ?_
      refine y_iadd C dX8_unit_28 ?_
      refine j_callVv C (d := 21) (As := [.int (sI (0 + 1))]) (st := []) 78 (s_lt rfl rfl) (s_kc (c := 7) rfl rfl) (by decide) rfl (s7_X8_unit hM178 hpr gf gn (nxF gf gn gi) (by omega) (by omega)) gX8_unit_X8_unit rfl hdX8_unit (by decide) (Nat.le_of_ble_eq_true rfl) dX8_unit_29 rfl (fun M182 h183 => ?_)
      obtain ⟨hM182, h184⟩ := h183
      have bM182 := tkx_b (f := gf) (n := gn) (M := M182) (by omega)
      have qM182 := po_rr (unR gf gn 5) gn (nxF gf gn gi) (M178.1 78 5).toInt (M178.1 78 6).toInt (psX M178) (M182.1 78 5).toInt (M182.1 78 6).toInt (psX M182) (unR_g gf gn 5) (by omega) (by omega)
      refine j_aload_n C 1 0 dX8_unit_32 rfl rfl ?_
      refine y_sipush C dX8_unit_33 rfl ?_
      refine j_callVv C (d := 0) (As := [.int (sI 1016)]) (st := []) 78 (s_lt rfl rfl) (s_kc (c := 7) rfl rfl) (by decide) rfl (s1_X8_emit hM182 hpr 1016 (by omega) gf gn ((unR gf gn 5) (nxF gf gn gi)).2.2 (by omega) (by omega)) gX8_unit_X8_emit rfl hdX8_emit (by decide) (Nat.le_of_ble_eq_true rfl) dX8_unit_36 rfl (fun M186 h187 => ?_)
      obtain ⟨hM186, h188⟩ := h187
      have bM186 := tkx_b (f := gf) (n := gn) (M := M186) (by omega)
      have qM186 := po_eq gn ((unR gf gn 5) (nxF gf gn gi)).2.2 (M182.1 78 5).toInt (psX M182) (M186.1 78 5).toInt (psX M186) (by omega) (by omega) (by omega)
      refine j_goto C 130 dX8_unit_39 (by decide) ?_
      have u189r := un_1 gf gn 5 6 rfl gi (M0.1 78 5).toInt (M0.1 78 6).toInt (psX M0) (M178.1 78 5).toInt (M178.1 78 6).toInt (M182.1 78 5).toInt (M182.1 78 6).toInt (psX M182) (M186.1 78 5).toInt (M186.1 78 6).toInt (psX M186) (by omega) (by omega) (by omega) (by omega) (by omega) (by omega) (by omega) (by omega)
      exact hret _ _ _ dX8_unit_130 ⟨hM186, by omega⟩
  · have u190r := rr_no ((unR gf gn 6) gi) (M0.1 78 5).toInt (M0.1 78 6).toInt (M0.1 78 5).toInt (M0.1 78 6).toInt (psX M0) (by omega) rfl rfl
    exact hret _ _ _ dX8_unit_7 ⟨hM0, by omega⟩
set_option maxHeartbeats 4000000 in
theorem s8_X8_both {l : Launch} {dC : Nat → ClassId} {dI : Nat → Nat → Nat} {ad : Nat → Nat} {cA : Nat → ClassId} {pr : Nat → Nat → Bool} {Kz : mm_M} {M0 : mm_M} (hM0 : INV pr Kz M0) (hpr : PX pr) (gf : Nat → Int) (gn : Int) (gi : Int) (hp0 : b01 (TKX gf gn M0) = 1) (hp1 : b01 (PO gn gi (M0.1 78 5).toInt (psX M0)) = 1) : Cv l 25 yX8_both wsX8_both dC dI ad cA [.ref (ad 78), .int (sI 0)] M0 (fun M' => INV pr Kz M' ∧ (b01 (TKX gf gn M') = 1) ∧ b01 (RR ((boP gf gn (unR gf gn 6)) gi) (M0.1 78 5).toInt (M0.1 78 6).toInt (M'.1 78 5).toInt (M'.1 78 6).toInt (psX M')) = 1) := by
  refine cv_of (cc := cX8_both) (maxL := 3) (lv := [(0, .ref (ad 78)), (1, .int (sI 0))]) (by decide) rfl (Nat.le_of_ble_eq_true rfl) rfl ?_
  intro p e s m args below meth c A Q C hret
  refine j_aload_n C 0 0 dX8_both_0 rfl rfl ?_
  refine j_iload_n C 1 1 dX8_both_1 rfl rfl ?_
  refine j_callVv C (d := 24) (As := [.int (sI 0)]) (st := []) 78 (s_lt rfl rfl) (s_kc (c := 7) rfl rfl) (by decide) rfl (s8_X8_unit hM0 hpr gf gn gi (by omega) (by omega)) gX8_both_X8_unit rfl hdX8_unit (by decide) (Nat.le_of_ble_eq_true rfl) dX8_both_2 rfl (fun M102 h103 => ?_)
  obtain ⟨hM102, h104⟩ := h103
  have bM102 := tkx_b (f := gf) (n := gn) (M := M102) (by omega)
  have qM102 := po_rr (unR gf gn 6) gn gi (M0.1 78 5).toInt (M0.1 78 6).toInt (psX M0) (M102.1 78 5).toInt (M102.1 78 6).toInt (psX M102) (unR_g gf gn 6) (by omega) (by omega)
  refine y_iconst C dX8_both_5 ?_
  have u105l := ll_0 (luP gf gn 1015 1015 (unR gf gn 6)) gn ((unR gf gn 6) gi).2.2 (M102.1 78 5).toInt (M102.1 78 6).toInt (psX M102) (by omega)
  refine j_istore_n C 2 [(2, .int (sI 0)), (0, .ref (ad 78)), (1, .int (sI 0))] dX8_both_6 rfl (by decide) rfl ?_
  have L134 : ∀ (n132 : Nat), ∀ (a135 : Int) (M136 : mm_M) (gq137 : Int), (0 ≤ a135 ∧ a135 ≤ 900 ∧ (b01 (LL (luP gf gn 1015 1015 (unR gf gn 6)) gn ((unR gf gn 6) gi).2.2 gq137 a135 (M102.1 78 5).toInt (M102.1 78 6).toInt (M136.1 78 5).toInt (M136.1 78 6).toInt (psX M136)) = 1) ∧ (b01 (TKX gf gn M136) = 1) ∧ (b01 (PO gn gq137 (M136.1 78 5).toInt (psX M136)) = 1) ∧ (900 - a135) < (n132 : Int)) → INV pr Kz M136 → jj p l e (cn_R 25) s m args below meth c 0 0 Q 3 dC dI ad cA A M136 7 [(0, .ref (ad 78)), (1, .int (sI 0)), (2, .int (sI a135))] [] := by
    intro n132
    induction n132 with
    | zero =>
      intro a135 M136 gq137 h138 hM136
      exfalso; omega
    | succ n132 ih133 =>
      intro a135 M136 gq137 h138 hM136
      have u139b := tkx_b (f := gf) (n := gn) (M := M136) (by omega)
      refine j_iload_n C 2 2 dX8_both_7 rfl rfl ?_
      refine y_sipush C dX8_both_8 rfl ?_
      refine y_icmp_ge C 59 dX8_both_11 (by decide) (by omega) (fun h140 => ?_) (fun h140 => ?_)
      · have u162e := ll_e gf gn 1015 1015 (unR gf gn 6) ((unR gf gn 6) gi).2.2 gq137 a135 (M102.1 78 5).toInt (M102.1 78 6).toInt (M136.1 78 5).toInt (M136.1 78 6).toInt (psX M136) (by decide) (unR_g gf gn 6) (by omega) (by omega)
        have u162r : b01 (RR ((boP gf gn (unR gf gn 6)) gi) (M0.1 78 5).toInt (M0.1 78 6).toInt (M136.1 78 5).toInt (M136.1 78 6).toInt (psX M136)) = 1 := rr_sq ((unR gf gn 6) gi) (luP gf gn 1015 1015 (unR gf gn 6)) (M0.1 78 5).toInt (M0.1 78 6).toInt (M102.1 78 5).toInt (M102.1 78 6).toInt (psX M102) (M136.1 78 5).toInt (M136.1 78 6).toInt (psX M136) (by omega) (by omega)
        exact hret _ _ _ dX8_both_59 ⟨hM136, by omega⟩
      · refine j_aload_n C 0 0 dX8_both_14 rfl rfl ?_
        refine y_getI C 7 _ _ fX8_both_22 rfl rfl ft_7_5 sb_7_5 hM136 dX8_both_15 (fun a141 ea141 la141 ua141 => ?_)
        refine y_if_ne C 59 dX8_both_18 (by decide) (by omega) (fun h143 => ?_) (fun h143 => ?_)
        · have u163e := ll_e gf gn 1015 1015 (unR gf gn 6) ((unR gf gn 6) gi).2.2 gq137 a135 (M102.1 78 5).toInt (M102.1 78 6).toInt (M136.1 78 5).toInt (M136.1 78 6).toInt (psX M136) (by decide) (unR_g gf gn 6) (by omega) (by omega)
          have u163r : b01 (RR ((boP gf gn (unR gf gn 6)) gi) (M0.1 78 5).toInt (M0.1 78 6).toInt (M136.1 78 5).toInt (M136.1 78 6).toInt (psX M136)) = 1 := rr_sq ((unR gf gn 6) gi) (luP gf gn 1015 1015 (unR gf gn 6)) (M0.1 78 5).toInt (M0.1 78 6).toInt (M102.1 78 5).toInt (M102.1 78 6).toInt (psX M102) (M136.1 78 5).toInt (M136.1 78 6).toInt (psX M136) (by omega) (by omega)
          exact hret _ _ _ dX8_both_59 ⟨hM136, by omega⟩
        · refine j_aload_n C 0 0 dX8_both_21 rfl rfl ?_
          refine j_callVi C (d := 0) (As := []) (st := []) 78 (s_lt rfl rfl) (s_kc (c := 7) rfl rfl) (by decide) rfl (s1_X8_token hM136 gf gn gq137 (by omega) (by omega)) gX8_both_X8_token rfl hdX8_token (by decide) (Nat.le_of_ble_eq_true rfl) dX8_both_22 rfl (fun r144 M145 h146 => ?_)
          obtain ⟨a148, rfl, rfl, h147⟩ := h146
          refine y_sipush C dX8_both_25 rfl ?_
          refine y_icmp_ne C 59 dX8_both_28 (by decide) (by omega) (fun h149 => ?_) (fun h149 => ?_)
          · have u164e := ll_e gf gn 1015 1015 (unR gf gn 6) ((unR gf gn 6) gi).2.2 gq137 a135 (M102.1 78 5).toInt (M102.1 78 6).toInt (M136.1 78 5).toInt (M136.1 78 6).toInt (psX M136) (by decide) (unR_g gf gn 6) (by omega) (by omega)
            have u164r : b01 (RR ((boP gf gn (unR gf gn 6)) gi) (M0.1 78 5).toInt (M0.1 78 6).toInt (M136.1 78 5).toInt (M136.1 78 6).toInt (psX M136)) = 1 := rr_sq ((unR gf gn 6) gi) (luP gf gn 1015 1015 (unR gf gn 6)) (M0.1 78 5).toInt (M0.1 78 6).toInt (M102.1 78 5).toInt (M102.1 78 6).toInt (psX M102) (M136.1 78 5).toInt (M136.1 78 6).toInt (psX M136) (by omega) (by omega)
            exact hret _ _ _ dX8_both_59 ⟨hM136, by omega⟩
          · refine j_aload_n C 0 0 dX8_both_31 rfl rfl ?_
            refine j_dup C dX8_both_32 rfl ?_
            refine y_getI C 7 _ _ fX8_both_18 rfl rfl ft_7_2 sb_7_2 hM136 dX8_both_33 (fun a150 ea150 la150 ua150 => ?_)
            refine y_iconst C dX8_both_36 ?_
            refine y_iadd C dX8_both_37 ?_
            refine y_putI C 7 _ _ qX8_both_18 rfl rfl ft_7_2 sb_7_2 hM136 (PX.w hpr rfl rfl) dX8_both_38 (by omega) (fun M152 eM152 hM152 => ?_)
            have xM152 := tkx_j (f := gf) (n := gn) (gi := gq137) eM152 (by omega) (by omega) (by omega) (by omega)
            refine j_aload_n C 0 0 dX8_both_41 rfl rfl ?_
            refine j_iload_n C 1 1 dX8_both_42 rfl rfl ?_
            refine j_callVv C (d := 24) (As := [.int (sI 0)]) (st := []) 78 (s_lt rfl rfl) (s_kc (c := 7) rfl rfl) (by decide) rfl (s8_X8_unit hM152 hpr gf gn (nxF gf gn gq137) (by omega) (by omega)) gX8_both_X8_unit rfl hdX8_unit (by decide) (Nat.le_of_ble_eq_true rfl) dX8_both_43 rfl (fun M154 h155 => ?_)
            obtain ⟨hM154, h156⟩ := h155
            have bM154 := tkx_b (f := gf) (n := gn) (M := M154) (by omega)
            have qM154 := po_rr (unR gf gn 6) gn (nxF gf gn gq137) (M152.1 78 5).toInt (M152.1 78 6).toInt (psX M152) (M154.1 78 5).toInt (M154.1 78 6).toInt (psX M154) (unR_g gf gn 6) (by omega) (by omega)
            refine j_aload_n C 0 0 dX8_both_46 rfl rfl ?_
            refine y_sipush C dX8_both_47 rfl ?_
            refine j_callVv C (d := 0) (As := [.int (sI 1015)]) (st := []) 78 (s_lt rfl rfl) (s_kc (c := 7) rfl rfl) (by decide) rfl (s1_X8_emit hM154 hpr 1015 (by omega) gf gn ((unR gf gn 6) (nxF gf gn gq137)).2.2 (by omega) (by omega)) gX8_both_X8_emit rfl hdX8_emit (by decide) (Nat.le_of_ble_eq_true rfl) dX8_both_50 rfl (fun M158 h159 => ?_)
            obtain ⟨hM158, h160⟩ := h159
            have bM158 := tkx_b (f := gf) (n := gn) (M := M158) (by omega)
            have qM158 := po_eq gn ((unR gf gn 6) (nxF gf gn gq137)).2.2 (M154.1 78 5).toInt (psX M154) (M158.1 78 5).toInt (psX M158) (by omega) (by omega) (by omega)
            refine y_iinc C 2 [(2, .int (sI (a135 + 1))), (0, .ref (ad 78)), (1, .int (sI 0))] dX8_both_53 rfl (by decide) rfl ?_
            have u161s := ll_s gf gn 1015 1015 (unR gf gn 6) ((unR gf gn 6) gi).2.2 gq137 a135 (M102.1 78 5).toInt (M102.1 78 6).toInt (M136.1 78 5).toInt (M136.1 78 6).toInt (psX M136) (M152.1 78 5).toInt (M152.1 78 6).toInt (M154.1 78 5).toInt (M154.1 78 6).toInt (psX M154) (M158.1 78 5).toInt (M158.1 78 6).toInt (psX M158) (by decide) (unR_g gf gn 6) (by omega) (by omega) (by omega) (by omega) (by omega) (by omega) (by omega) (by omega) (by omega)
            refine j_goto C 7 dX8_both_56 (by decide) ?_
            refine j_lv [1, 2, 0] rfl ?_; exact ih133 (a135 + 1) M158 ((unR gf gn 6) (nxF gf gn gq137)).2.2 (by omega) hM158
  refine j_lv [1, 2, 0] rfl ?_; exact L134 2010 0 M102 ((unR gf gn 6) gi).2.2 (by omega) hM102
set_option maxHeartbeats 4000000 in
theorem s8_X8_truth {l : Launch} {dC : Nat → ClassId} {dI : Nat → Nat → Nat} {ad : Nat → Nat} {cA : Nat → ClassId} {pr : Nat → Nat → Bool} {Kz : mm_M} {M0 : mm_M} (hM0 : INV pr Kz M0) (hpr : PX pr) (gf : Nat → Int) (gn : Int) (gi : Int) (hp0 : b01 (TKX gf gn M0) = 1) (hp1 : b01 (PO gn gi (M0.1 78 5).toInt (psX M0)) = 1) : Cv l 26 yX8_truth wsX8_truth dC dI ad cA [.ref (ad 78), .int (sI 0)] M0 (fun M' => INV pr Kz M' ∧ (b01 (TKX gf gn M') = 1) ∧ b01 (RR ((trP gf gn (unR gf gn 6)) gi) (M0.1 78 5).toInt (M0.1 78 6).toInt (M'.1 78 5).toInt (M'.1 78 6).toInt (psX M')) = 1) := by
  refine cv_of (cc := cX8_truth) (maxL := 3) (lv := [(0, .ref (ad 78)), (1, .int (sI 0))]) (by decide) rfl (Nat.le_of_ble_eq_true rfl) rfl ?_
  intro p e s m args below meth c A Q C hret
  refine j_aload_n C 0 0 dX8_truth_0 rfl rfl ?_
  refine j_iload_n C 1 1 dX8_truth_1 rfl rfl ?_
  refine j_callVv C (d := 25) (As := [.int (sI 0)]) (st := []) 78 (s_lt rfl rfl) (s_kc (c := 7) rfl rfl) (by decide) rfl (s8_X8_both hM0 hpr gf gn gi (by omega) (by omega)) gX8_truth_X8_both rfl hdX8_both (by decide) (Nat.le_of_ble_eq_true rfl) dX8_truth_2 rfl (fun M102 h103 => ?_)
  obtain ⟨hM102, h104⟩ := h103
  have bM102 := tkx_b (f := gf) (n := gn) (M := M102) (by omega)
  have qM102 := po_rr (boP gf gn (unR gf gn 6)) gn gi (M0.1 78 5).toInt (M0.1 78 6).toInt (psX M0) (M102.1 78 5).toInt (M102.1 78 6).toInt (psX M102) (bo_g gf gn (unR_g gf gn 6)) (by omega) (by omega)
  refine y_iconst C dX8_truth_5 ?_
  have u105l := ll_0 (luP gf gn 1014 1014 (boP gf gn (unR gf gn 6))) gn ((boP gf gn (unR gf gn 6)) gi).2.2 (M102.1 78 5).toInt (M102.1 78 6).toInt (psX M102) (by omega)
  refine j_istore_n C 2 [(2, .int (sI 0)), (0, .ref (ad 78)), (1, .int (sI 0))] dX8_truth_6 rfl (by decide) rfl ?_
  have L134 : ∀ (n132 : Nat), ∀ (a135 : Int) (M136 : mm_M) (gq137 : Int), (0 ≤ a135 ∧ a135 ≤ 900 ∧ (b01 (LL (luP gf gn 1014 1014 (boP gf gn (unR gf gn 6))) gn ((boP gf gn (unR gf gn 6)) gi).2.2 gq137 a135 (M102.1 78 5).toInt (M102.1 78 6).toInt (M136.1 78 5).toInt (M136.1 78 6).toInt (psX M136)) = 1) ∧ (b01 (TKX gf gn M136) = 1) ∧ (b01 (PO gn gq137 (M136.1 78 5).toInt (psX M136)) = 1) ∧ (900 - a135) < (n132 : Int)) → INV pr Kz M136 → jj p l e (cn_R 26) s m args below meth c 0 0 Q 3 dC dI ad cA A M136 7 [(0, .ref (ad 78)), (1, .int (sI 0)), (2, .int (sI a135))] [] := by
    intro n132
    induction n132 with
    | zero =>
      intro a135 M136 gq137 h138 hM136
      exfalso; omega
    | succ n132 ih133 =>
      intro a135 M136 gq137 h138 hM136
      have u139b := tkx_b (f := gf) (n := gn) (M := M136) (by omega)
      refine j_iload_n C 2 2 dX8_truth_7 rfl rfl ?_
      refine y_sipush C dX8_truth_8 rfl ?_
      refine y_icmp_ge C 59 dX8_truth_11 (by decide) (by omega) (fun h140 => ?_) (fun h140 => ?_)
      · have u162e := ll_e gf gn 1014 1014 (boP gf gn (unR gf gn 6)) ((boP gf gn (unR gf gn 6)) gi).2.2 gq137 a135 (M102.1 78 5).toInt (M102.1 78 6).toInt (M136.1 78 5).toInt (M136.1 78 6).toInt (psX M136) (by decide) (bo_g gf gn (unR_g gf gn 6)) (by omega) (by omega)
        have u162r : b01 (RR ((trP gf gn (unR gf gn 6)) gi) (M0.1 78 5).toInt (M0.1 78 6).toInt (M136.1 78 5).toInt (M136.1 78 6).toInt (psX M136)) = 1 := rr_sq ((boP gf gn (unR gf gn 6)) gi) (luP gf gn 1014 1014 (boP gf gn (unR gf gn 6))) (M0.1 78 5).toInt (M0.1 78 6).toInt (M102.1 78 5).toInt (M102.1 78 6).toInt (psX M102) (M136.1 78 5).toInt (M136.1 78 6).toInt (psX M136) (by omega) (by omega)
        exact hret _ _ _ dX8_truth_59 ⟨hM136, by omega⟩
      · refine j_aload_n C 0 0 dX8_truth_14 rfl rfl ?_
        refine y_getI C 7 _ _ fX8_truth_22 rfl rfl ft_7_5 sb_7_5 hM136 dX8_truth_15 (fun a141 ea141 la141 ua141 => ?_)
        refine y_if_ne C 59 dX8_truth_18 (by decide) (by omega) (fun h143 => ?_) (fun h143 => ?_)
        · have u163e := ll_e gf gn 1014 1014 (boP gf gn (unR gf gn 6)) ((boP gf gn (unR gf gn 6)) gi).2.2 gq137 a135 (M102.1 78 5).toInt (M102.1 78 6).toInt (M136.1 78 5).toInt (M136.1 78 6).toInt (psX M136) (by decide) (bo_g gf gn (unR_g gf gn 6)) (by omega) (by omega)
          have u163r : b01 (RR ((trP gf gn (unR gf gn 6)) gi) (M0.1 78 5).toInt (M0.1 78 6).toInt (M136.1 78 5).toInt (M136.1 78 6).toInt (psX M136)) = 1 := rr_sq ((boP gf gn (unR gf gn 6)) gi) (luP gf gn 1014 1014 (boP gf gn (unR gf gn 6))) (M0.1 78 5).toInt (M0.1 78 6).toInt (M102.1 78 5).toInt (M102.1 78 6).toInt (psX M102) (M136.1 78 5).toInt (M136.1 78 6).toInt (psX M136) (by omega) (by omega)
          exact hret _ _ _ dX8_truth_59 ⟨hM136, by omega⟩
        · refine j_aload_n C 0 0 dX8_truth_21 rfl rfl ?_
          refine j_callVi C (d := 0) (As := []) (st := []) 78 (s_lt rfl rfl) (s_kc (c := 7) rfl rfl) (by decide) rfl (s1_X8_token hM136 gf gn gq137 (by omega) (by omega)) gX8_truth_X8_token rfl hdX8_token (by decide) (Nat.le_of_ble_eq_true rfl) dX8_truth_22 rfl (fun r144 M145 h146 => ?_)
          obtain ⟨a148, rfl, rfl, h147⟩ := h146
          refine y_sipush C dX8_truth_25 rfl ?_
          refine y_icmp_ne C 59 dX8_truth_28 (by decide) (by omega) (fun h149 => ?_) (fun h149 => ?_)
          · have u164e := ll_e gf gn 1014 1014 (boP gf gn (unR gf gn 6)) ((boP gf gn (unR gf gn 6)) gi).2.2 gq137 a135 (M102.1 78 5).toInt (M102.1 78 6).toInt (M136.1 78 5).toInt (M136.1 78 6).toInt (psX M136) (by decide) (bo_g gf gn (unR_g gf gn 6)) (by omega) (by omega)
            have u164r : b01 (RR ((trP gf gn (unR gf gn 6)) gi) (M0.1 78 5).toInt (M0.1 78 6).toInt (M136.1 78 5).toInt (M136.1 78 6).toInt (psX M136)) = 1 := rr_sq ((boP gf gn (unR gf gn 6)) gi) (luP gf gn 1014 1014 (boP gf gn (unR gf gn 6))) (M0.1 78 5).toInt (M0.1 78 6).toInt (M102.1 78 5).toInt (M102.1 78 6).toInt (psX M102) (M136.1 78 5).toInt (M136.1 78 6).toInt (psX M136) (by omega) (by omega)
            exact hret _ _ _ dX8_truth_59 ⟨hM136, by omega⟩
          · refine j_aload_n C 0 0 dX8_truth_31 rfl rfl ?_
            refine j_dup C dX8_truth_32 rfl ?_
            refine y_getI C 7 _ _ fX8_truth_18 rfl rfl ft_7_2 sb_7_2 hM136 dX8_truth_33 (fun a150 ea150 la150 ua150 => ?_)
            refine y_iconst C dX8_truth_36 ?_
            refine y_iadd C dX8_truth_37 ?_
            refine y_putI C 7 _ _ qX8_truth_18 rfl rfl ft_7_2 sb_7_2 hM136 (PX.w hpr rfl rfl) dX8_truth_38 (by omega) (fun M152 eM152 hM152 => ?_)
            have xM152 := tkx_j (f := gf) (n := gn) (gi := gq137) eM152 (by omega) (by omega) (by omega) (by omega)
            refine j_aload_n C 0 0 dX8_truth_41 rfl rfl ?_
            refine j_iload_n C 1 1 dX8_truth_42 rfl rfl ?_
            refine j_callVv C (d := 25) (As := [.int (sI 0)]) (st := []) 78 (s_lt rfl rfl) (s_kc (c := 7) rfl rfl) (by decide) rfl (s8_X8_both hM152 hpr gf gn (nxF gf gn gq137) (by omega) (by omega)) gX8_truth_X8_both rfl hdX8_both (by decide) (Nat.le_of_ble_eq_true rfl) dX8_truth_43 rfl (fun M154 h155 => ?_)
            obtain ⟨hM154, h156⟩ := h155
            have bM154 := tkx_b (f := gf) (n := gn) (M := M154) (by omega)
            have qM154 := po_rr (boP gf gn (unR gf gn 6)) gn (nxF gf gn gq137) (M152.1 78 5).toInt (M152.1 78 6).toInt (psX M152) (M154.1 78 5).toInt (M154.1 78 6).toInt (psX M154) (bo_g gf gn (unR_g gf gn 6)) (by omega) (by omega)
            refine j_aload_n C 0 0 dX8_truth_46 rfl rfl ?_
            refine y_sipush C dX8_truth_47 rfl ?_
            refine j_callVv C (d := 0) (As := [.int (sI 1014)]) (st := []) 78 (s_lt rfl rfl) (s_kc (c := 7) rfl rfl) (by decide) rfl (s1_X8_emit hM154 hpr 1014 (by omega) gf gn ((boP gf gn (unR gf gn 6)) (nxF gf gn gq137)).2.2 (by omega) (by omega)) gX8_truth_X8_emit rfl hdX8_emit (by decide) (Nat.le_of_ble_eq_true rfl) dX8_truth_50 rfl (fun M158 h159 => ?_)
            obtain ⟨hM158, h160⟩ := h159
            have bM158 := tkx_b (f := gf) (n := gn) (M := M158) (by omega)
            have qM158 := po_eq gn ((boP gf gn (unR gf gn 6)) (nxF gf gn gq137)).2.2 (M154.1 78 5).toInt (psX M154) (M158.1 78 5).toInt (psX M158) (by omega) (by omega) (by omega)
            refine y_iinc C 2 [(2, .int (sI (a135 + 1))), (0, .ref (ad 78)), (1, .int (sI 0))] dX8_truth_53 rfl (by decide) rfl ?_
            have u161s := ll_s gf gn 1014 1014 (boP gf gn (unR gf gn 6)) ((boP gf gn (unR gf gn 6)) gi).2.2 gq137 a135 (M102.1 78 5).toInt (M102.1 78 6).toInt (M136.1 78 5).toInt (M136.1 78 6).toInt (psX M136) (M152.1 78 5).toInt (M152.1 78 6).toInt (M154.1 78 5).toInt (M154.1 78 6).toInt (psX M154) (M158.1 78 5).toInt (M158.1 78 6).toInt (psX M158) (by decide) (bo_g gf gn (unR_g gf gn 6)) (by omega) (by omega) (by omega) (by omega) (by omega) (by omega) (by omega) (by omega) (by omega)
            refine j_goto C 7 dX8_truth_56 (by decide) ?_
            refine j_lv [1, 2, 0] rfl ?_; exact ih133 (a135 + 1) M158 ((boP gf gn (unR gf gn 6)) (nxF gf gn gq137)).2.2 (by omega) hM158
  refine j_lv [1, 2, 0] rfl ?_; exact L134 2010 0 M102 ((boP gf gn (unR gf gn 6)) gi).2.2 (by omega) hM102
set_option maxHeartbeats 4000000 in
theorem s1_X8_line {l : Launch} {dC : Nat → ClassId} {dI : Nat → Nat → Nat} {ad : Nat → Nat} {cA : Nat → ClassId} {pr : Nat → Nat → Bool} {Kz : mm_M} {M0 : mm_M} (hM0 : INV pr Kz M0) (hpr : PX pr) (hq8_0 : ∀ i, s_c i = 8 → pr i 0 = false) (hq6_0 : ∀ i, s_c i = 6 → pr i 0 = false) (gf : Nat → Int) (gn : Int) (gi : Int) (hp0 : (M0.1 78 5).toInt = 0) (hp1 : b01 (TKX gf gn M0) = 1) (hp2 : b01 (PO gn gi (M0.1 78 5).toInt (psX M0)) = 1) : Cv l 27 yX8_line wsX8_line dC dI ad cA [.ref (ad 78)] M0 (fun M' => INV pr Kz M' ∧ (b01 (CK (M'.1 78 5).toInt (kiX M') (byX M') (lnX M') (inc (tkF gf gn gi) 1003 (kiX M0)) (inc (tkF gf gn gi) 1009 (byX M0)) (lnX M0)) = 1) ∧ (lnX M' = lnX M0) ∧ (b01 (TKX gf gn M') = 1) ∧ b01 (RR ((liP gf gn (kiX M0) (byX M0)) gi) (M0.1 78 5).toInt (M0.1 78 6).toInt (M'.1 78 5).toInt (M'.1 78 6).toInt (psX M')) = 1) := by
  refine cv_of (cc := cX8_line) (maxL := 1) (lv := [(0, .ref (ad 78))]) (by decide) rfl (Nat.le_of_ble_eq_true rfl) rfl ?_
  intro p e s m args below meth c A Q C hret
  have u101b := tkx_b (f := gf) (n := gn) (M := M0) (by omega)
  have u101i := inc_s (tkF gf gn (psX M0)) 1003 (kiX M0)
  have u101j := inc_s (tkF gf gn (psX M0)) 1009 (byX M0)
  refine j_aload_n C 0 0 dX8_line_0 rfl rfl ?_
  refine j_callVi C (d := 0) (As := []) (st := []) 78 (s_lt rfl rfl) (s_kc (c := 7) rfl rfl) (by decide) rfl (s1_X8_token hM0 gf gn gi (by omega) (by omega)) gX8_line_X8_token rfl hdX8_token (by decide) (Nat.le_of_ble_eq_true rfl) dX8_line_1 rfl (fun r102 M103 h104 => ?_)
  obtain ⟨a106, rfl, rfl, h105⟩ := h104
  rcases (show (a106 < 1003 ∨ 1011 < a106) ∨ a106 = 1003 ∨ a106 = 1004 ∨ a106 = 1005 ∨ a106 = 1006 ∨ a106 = 1007 ∨ a106 = 1008 ∨ a106 = 1009 ∨ a106 = 1010 ∨ a106 = 1011 by omega) with h107 | h107 | h107 | h107 | h107 | h107 | h107 | h107 | h107 | h107
  · refine y_tabO C 176 dX8_line_4 (by decide) (by omega) ?_
    refine j_aload_n C 0 0 dX8_line_176 rfl rfl ?_
    refine y_iconst C dX8_line_177 ?_
    refine j_callVv C (d := 0) (As := [.int (sI 2)]) (st := []) 78 (s_lt rfl rfl) (s_kc (c := 7) rfl rfl) (by decide) rfl (s1_X8_fail hM0 hpr 2 (by omega) gf gn gi (by omega) (by omega) (by omega)) gX8_line_X8_fail rfl hdX8_fail (by decide) (Nat.le_of_ble_eq_true rfl) dX8_line_178 rfl (fun M109 h110 => ?_)
    obtain ⟨hM109, fM109, h111⟩ := h110
    have bM109 := tkx_b (f := gf) (n := gn) (M := M109) (by omega)
    have qM109 := po_f gn gi (M109.1 78 5).toInt (psX M109) (by omega)
    have cM109 := cn_f hM0 fM109
    have u112r := li_5 gf gn (kiX M0) (byX M0) gi (M0.1 78 5).toInt (M0.1 78 6).toInt (psX M0) (M109.1 78 5).toInt (M109.1 78 6).toInt (psX M109) (by omega) (by omega) (by omega)
    have u112d := ck_i (M109.1 78 5).toInt (kiX M109) (byX M109) (lnX M109) (kiX M0) (byX M0) (lnX M0) (by omega)
    have u112c := ck_li gf gn gi (M0.1 78 5).toInt (psX M0) (M109.1 78 5).toInt (kiX M109) (byX M109) (lnX M109) (kiX M0) (byX M0) (lnX M0) (kiX M0) (byX M0) (by omega) (by omega) (by omega) (by omega) (by omega)
    exact hret _ _ _ dX8_line_181 ⟨hM109, by omega⟩
  · refine y_tabI C (off := 52) 56 1003 dX8_line_4 (by decide) rfl (by decide) h107 ?_
    refine j_aload_n C 0 0 dX8_line_56 rfl rfl ?_
    refine j_callVv C (d := 3) (As := []) (st := []) 78 (s_lt rfl rfl) (s_kc (c := 7) rfl rfl) (by decide) rfl (s1_X8_kindLine hM0 hpr hq8_0 gf gn gi (by omega) (by omega) (by omega) (by omega)) gX8_line_X8_kindLine rfl hdX8_kindLine (by decide) (Nat.le_of_ble_eq_true rfl) dX8_line_57 rfl (fun M114 h115 => ?_)
    obtain ⟨hM114, h116⟩ := h115
    have bM114 := tkx_b (f := gf) (n := gn) (M := M114) (by omega)
    refine j_goto C 181 dX8_line_60 (by decide) ?_
    have u117r := li_1 gf gn (kiX M0) (byX M0) gi (M0.1 78 5).toInt (M0.1 78 6).toInt (psX M0) (M114.1 78 5).toInt (M114.1 78 6).toInt (psX M114) (by omega) (by omega) (by omega)
    have u117c := ck_li gf gn gi (M0.1 78 5).toInt (psX M0) (M114.1 78 5).toInt (kiX M114) (byX M114) (lnX M114) (kiX M0) (byX M0) (lnX M0) (kiX M0 + 1) (byX M0) (by omega) (by omega) (by omega) (by omega) (by omega)
    exact hret _ _ _ dX8_line_181 ⟨hM114, by omega⟩
  · refine y_tabI C (off := 172) 176 1004 dX8_line_4 (by decide) rfl (by decide) h107 ?_
    refine j_aload_n C 0 0 dX8_line_176 rfl rfl ?_
    refine y_iconst C dX8_line_177 ?_
    refine j_callVv C (d := 0) (As := [.int (sI 2)]) (st := []) 78 (s_lt rfl rfl) (s_kc (c := 7) rfl rfl) (by decide) rfl (s1_X8_fail hM0 hpr 2 (by omega) gf gn gi (by omega) (by omega) (by omega)) gX8_line_X8_fail rfl hdX8_fail (by decide) (Nat.le_of_ble_eq_true rfl) dX8_line_178 rfl (fun M119 h120 => ?_)
    obtain ⟨hM119, fM119, h121⟩ := h120
    have bM119 := tkx_b (f := gf) (n := gn) (M := M119) (by omega)
    have qM119 := po_f gn gi (M119.1 78 5).toInt (psX M119) (by omega)
    have cM119 := cn_f hM0 fM119
    have u122r := li_5 gf gn (kiX M0) (byX M0) gi (M0.1 78 5).toInt (M0.1 78 6).toInt (psX M0) (M119.1 78 5).toInt (M119.1 78 6).toInt (psX M119) (by omega) (by omega) (by omega)
    have u122d := ck_i (M119.1 78 5).toInt (kiX M119) (byX M119) (lnX M119) (kiX M0) (byX M0) (lnX M0) (by omega)
    have u122c := ck_li gf gn gi (M0.1 78 5).toInt (psX M0) (M119.1 78 5).toInt (kiX M119) (byX M119) (lnX M119) (kiX M0) (byX M0) (lnX M0) (kiX M0) (byX M0) (by omega) (by omega) (by omega) (by omega) (by omega)
    exact hret _ _ _ dX8_line_181 ⟨hM119, by omega⟩
  · refine y_tabI C (off := 172) 176 1005 dX8_line_4 (by decide) rfl (by decide) h107 ?_
    refine j_aload_n C 0 0 dX8_line_176 rfl rfl ?_
    refine y_iconst C dX8_line_177 ?_
    refine j_callVv C (d := 0) (As := [.int (sI 2)]) (st := []) 78 (s_lt rfl rfl) (s_kc (c := 7) rfl rfl) (by decide) rfl (s1_X8_fail hM0 hpr 2 (by omega) gf gn gi (by omega) (by omega) (by omega)) gX8_line_X8_fail rfl hdX8_fail (by decide) (Nat.le_of_ble_eq_true rfl) dX8_line_178 rfl (fun M124 h125 => ?_)
    obtain ⟨hM124, fM124, h126⟩ := h125
    have bM124 := tkx_b (f := gf) (n := gn) (M := M124) (by omega)
    have qM124 := po_f gn gi (M124.1 78 5).toInt (psX M124) (by omega)
    have cM124 := cn_f hM0 fM124
    have u127r := li_5 gf gn (kiX M0) (byX M0) gi (M0.1 78 5).toInt (M0.1 78 6).toInt (psX M0) (M124.1 78 5).toInt (M124.1 78 6).toInt (psX M124) (by omega) (by omega) (by omega)
    have u127d := ck_i (M124.1 78 5).toInt (kiX M124) (byX M124) (lnX M124) (kiX M0) (byX M0) (lnX M0) (by omega)
    have u127c := ck_li gf gn gi (M0.1 78 5).toInt (psX M0) (M124.1 78 5).toInt (kiX M124) (byX M124) (lnX M124) (kiX M0) (byX M0) (lnX M0) (kiX M0) (byX M0) (by omega) (by omega) (by omega) (by omega) (by omega)
    exact hret _ _ _ dX8_line_181 ⟨hM124, by omega⟩
  · refine y_tabI C (off := 172) 176 1006 dX8_line_4 (by decide) rfl (by decide) h107 ?_
    refine j_aload_n C 0 0 dX8_line_176 rfl rfl ?_
    refine y_iconst C dX8_line_177 ?_
    refine j_callVv C (d := 0) (As := [.int (sI 2)]) (st := []) 78 (s_lt rfl rfl) (s_kc (c := 7) rfl rfl) (by decide) rfl (s1_X8_fail hM0 hpr 2 (by omega) gf gn gi (by omega) (by omega) (by omega)) gX8_line_X8_fail rfl hdX8_fail (by decide) (Nat.le_of_ble_eq_true rfl) dX8_line_178 rfl (fun M129 h130 => ?_)
    obtain ⟨hM129, fM129, h131⟩ := h130
    have bM129 := tkx_b (f := gf) (n := gn) (M := M129) (by omega)
    have qM129 := po_f gn gi (M129.1 78 5).toInt (psX M129) (by omega)
    have cM129 := cn_f hM0 fM129
    have u132r := li_5 gf gn (kiX M0) (byX M0) gi (M0.1 78 5).toInt (M0.1 78 6).toInt (psX M0) (M129.1 78 5).toInt (M129.1 78 6).toInt (psX M129) (by omega) (by omega) (by omega)
    have u132d := ck_i (M129.1 78 5).toInt (kiX M129) (byX M129) (lnX M129) (kiX M0) (byX M0) (lnX M0) (by omega)
    have u132c := ck_li gf gn gi (M0.1 78 5).toInt (psX M0) (M129.1 78 5).toInt (kiX M129) (byX M129) (lnX M129) (kiX M0) (byX M0) (lnX M0) (kiX M0) (byX M0) (by omega) (by omega) (by omega) (by omega) (by omega)
    exact hret _ _ _ dX8_line_181 ⟨hM129, by omega⟩
  · refine y_tabI C (off := 172) 176 1007 dX8_line_4 (by decide) rfl (by decide) h107 ?_
    refine j_aload_n C 0 0 dX8_line_176 rfl rfl ?_
    refine y_iconst C dX8_line_177 ?_
    refine j_callVv C (d := 0) (As := [.int (sI 2)]) (st := []) 78 (s_lt rfl rfl) (s_kc (c := 7) rfl rfl) (by decide) rfl (s1_X8_fail hM0 hpr 2 (by omega) gf gn gi (by omega) (by omega) (by omega)) gX8_line_X8_fail rfl hdX8_fail (by decide) (Nat.le_of_ble_eq_true rfl) dX8_line_178 rfl (fun M134 h135 => ?_)
    obtain ⟨hM134, fM134, h136⟩ := h135
    have bM134 := tkx_b (f := gf) (n := gn) (M := M134) (by omega)
    have qM134 := po_f gn gi (M134.1 78 5).toInt (psX M134) (by omega)
    have cM134 := cn_f hM0 fM134
    have u137r := li_5 gf gn (kiX M0) (byX M0) gi (M0.1 78 5).toInt (M0.1 78 6).toInt (psX M0) (M134.1 78 5).toInt (M134.1 78 6).toInt (psX M134) (by omega) (by omega) (by omega)
    have u137d := ck_i (M134.1 78 5).toInt (kiX M134) (byX M134) (lnX M134) (kiX M0) (byX M0) (lnX M0) (by omega)
    have u137c := ck_li gf gn gi (M0.1 78 5).toInt (psX M0) (M134.1 78 5).toInt (kiX M134) (byX M134) (lnX M134) (kiX M0) (byX M0) (lnX M0) (kiX M0) (byX M0) (by omega) (by omega) (by omega) (by omega) (by omega)
    exact hret _ _ _ dX8_line_181 ⟨hM134, by omega⟩
  · refine y_tabI C (off := 172) 176 1008 dX8_line_4 (by decide) rfl (by decide) h107 ?_
    refine j_aload_n C 0 0 dX8_line_176 rfl rfl ?_
    refine y_iconst C dX8_line_177 ?_
    refine j_callVv C (d := 0) (As := [.int (sI 2)]) (st := []) 78 (s_lt rfl rfl) (s_kc (c := 7) rfl rfl) (by decide) rfl (s1_X8_fail hM0 hpr 2 (by omega) gf gn gi (by omega) (by omega) (by omega)) gX8_line_X8_fail rfl hdX8_fail (by decide) (Nat.le_of_ble_eq_true rfl) dX8_line_178 rfl (fun M139 h140 => ?_)
    obtain ⟨hM139, fM139, h141⟩ := h140
    have bM139 := tkx_b (f := gf) (n := gn) (M := M139) (by omega)
    have qM139 := po_f gn gi (M139.1 78 5).toInt (psX M139) (by omega)
    have cM139 := cn_f hM0 fM139
    have u142r := li_5 gf gn (kiX M0) (byX M0) gi (M0.1 78 5).toInt (M0.1 78 6).toInt (psX M0) (M139.1 78 5).toInt (M139.1 78 6).toInt (psX M139) (by omega) (by omega) (by omega)
    have u142d := ck_i (M139.1 78 5).toInt (kiX M139) (byX M139) (lnX M139) (kiX M0) (byX M0) (lnX M0) (by omega)
    have u142c := ck_li gf gn gi (M0.1 78 5).toInt (psX M0) (M139.1 78 5).toInt (kiX M139) (byX M139) (lnX M139) (kiX M0) (byX M0) (lnX M0) (kiX M0) (byX M0) (by omega) (by omega) (by omega) (by omega) (by omega)
    exact hret _ _ _ dX8_line_181 ⟨hM139, by omega⟩
  · refine y_tabI C (off := 59) 63 1009 dX8_line_4 (by decide) rfl (by decide) h107 ?_
    refine j_aload_n C 0 0 dX8_line_63 rfl rfl ?_
    refine j_callVv C (d := 3) (As := []) (st := []) 78 (s_lt rfl rfl) (s_kc (c := 7) rfl rfl) (by decide) rfl (s1_X8_buyerLine hM0 hpr hq6_0 gf gn gi (by omega) (by omega) (by omega) (by omega)) gX8_line_X8_buyerLine rfl hdX8_buyerLine (by decide) (Nat.le_of_ble_eq_true rfl) dX8_line_64 rfl (fun M144 h145 => ?_)
    obtain ⟨hM144, h146⟩ := h145
    have bM144 := tkx_b (f := gf) (n := gn) (M := M144) (by omega)
    refine j_goto C 181 dX8_line_67 (by decide) ?_
    have u147r := li_2 gf gn (kiX M0) (byX M0) gi (M0.1 78 5).toInt (M0.1 78 6).toInt (psX M0) (M144.1 78 5).toInt (M144.1 78 6).toInt (psX M144) (by omega) (by omega) (by omega)
    have u147c := ck_li gf gn gi (M0.1 78 5).toInt (psX M0) (M144.1 78 5).toInt (kiX M144) (byX M144) (lnX M144) (kiX M0) (byX M0) (lnX M0) (kiX M0) (byX M0 + 1) (by omega) (by omega) (by omega) (by omega) (by omega)
    exact hret _ _ _ dX8_line_181 ⟨hM144, by omega⟩
  · refine y_tabI C (off := 66) 70 1010 dX8_line_4 (by decide) rfl (by decide) h107 ?_
    refine j_aload_n C 0 0 dX8_line_70 rfl rfl ?_
    refine j_dup C dX8_line_71 rfl ?_
    refine y_getI C 7 _ _ fX8_line_18 rfl rfl ft_7_2 sb_7_2 hM0 dX8_line_72 (fun a148 ea148 la148 ua148 => ?_)
    refine y_iconst C dX8_line_75 ?_
    refine y_iadd C dX8_line_76 ?_
    refine y_putI C 7 _ _ qX8_line_18 rfl rfl ft_7_2 sb_7_2 hM0 (PX.w hpr rfl rfl) dX8_line_77 (by omega) (fun M150 eM150 hM150 => ?_)
    have xM150 := tkx_j (f := gf) (n := gn) (gi := gi) eM150 (by omega) (by omega) (by omega) (by omega)
    have cM150 := cn_w hM0 (c := 7) rfl eM150 (by decide)
    refine j_aload_n C 0 0 dX8_line_80 rfl rfl ?_
    refine y_sipush C dX8_line_81 rfl ?_
    refine j_callVv C (d := 1) (As := [.int (sI 2058)]) (st := []) 78 (s_lt rfl rfl) (s_kc (c := 7) rfl rfl) (by decide) rfl (s1_X8_expect hM150 hpr 2058 (by omega) gf gn (nxF gf gn gi) (by omega) (by omega) (by omega) (by omega)) gX8_line_X8_expect rfl hdX8_expect (by decide) (Nat.le_of_ble_eq_true rfl) dX8_line_84 rfl (fun M152 h153 => ?_)
    obtain ⟨hM152, fM152, h154⟩ := h153
    have bM152 := tkx_b (f := gf) (n := gn) (M := M152) (by omega)
    have qM152 := po_rr (exP gf gn 2058) gn (nxF gf gn gi) (M150.1 78 5).toInt (M150.1 78 6).toInt (psX M150) (M152.1 78 5).toInt (M152.1 78 6).toInt (psX M152) (ex_g gf gn 2058 (by omega)) (by omega) (by omega)
    have cM152 := cn_f hM150 fM152
    refine j_aload_n C 0 0 dX8_line_87 rfl rfl ?_
    refine y_getM C 7 6 fX8_line_28 rfl rfl ft_7_3 sm_7_3 (by decide) hM152 dX8_line_88 (fun v155 ev155 cv155 => ?_)
    refine j_aload_n C 0 0 dX8_line_91 rfl rfl ?_
    refine y_getV C 7 v155 fX8_line_28 rfl rfl ft_7_3 (ev155) dX8_line_92 ?_
    refine y_getI C 6 _ _ fX8_line_93 cv155 rfl ft_6_6 sb_6_6 hM152 dX8_line_95 (fun a156 ea156 la156 ua156 => ?_)
    have qa156 : a156 = (M0.1 v155 6).toInt := s_fb eM150 (by decide) (s_fF fM152 (s_nin cv155 (by decide)) (ea156))
    refine y_putI C 6 _ _ qX8_line_96 cv155 rfl ft_6_7 sb_6_7 hM152 (PX.w hpr cv155 rfl) dX8_line_98 (by omega) (fun M158 eM158 hM158 => ?_)
    have xM158 := tkx_w (f := gf) (n := gn) eM158 (s_ne (c := 31) (d := 6) rfl cv155 (by decide)) (s_ne (c := 32) (d := 6) rfl cv155 (by decide)) (s_ne (c := 7) (d := 6) rfl cv155 (by decide)) (by omega)
    have qM158 := po_eq gn ((exP gf gn 2058) (nxF gf gn gi)).2.2 (M152.1 78 5).toInt (psX M152) (M158.1 78 5).toInt (psX M158) (by omega) (by omega) (by omega)
    have cM158 := cn_w hM152 (c := 6) cv155 eM158 (by decide)
    refine j_aload_n C 0 0 dX8_line_101 rfl rfl ?_
    refine y_iconst C dX8_line_102 ?_
    obtain ⟨prz159, Kzz159, hprz159, hz159, hnez159, hbkz159⟩ := fzXs [6, 7, 8] hpr hM158
    refine j_callVv C (d := 23) (As := [.int (sI 0)]) (st := []) 78 (s_lt rfl rfl) (s_kc (c := 7) rfl rfl) (by decide) rfl (s8_X8_sum hz159 hprz159 gf gn ((exP gf gn 2058) (nxF gf gn gi)).2.2 (by omega) (by omega)) gX8_line_X8_sum rfl hdX8_sum (by decide) (Nat.le_of_ble_eq_true rfl) dX8_line_103 rfl (fun M161 h162 => ?_)
    obtain ⟨hM161, h163⟩ := h162
    have zbM161 := (hbkz159 _ hM161).2
    have hM161 := (hbkz159 _ hM161).1
    have bM161 := tkx_b (f := gf) (n := gn) (M := M161) (by omega)
    have qM161 := po_rr (suR gf gn 6) gn ((exP gf gn 2058) (nxF gf gn gi)).2.2 (M158.1 78 5).toInt (M158.1 78 6).toInt (psX M158) (M161.1 78 5).toInt (M161.1 78 6).toInt (psX M161) (suR_g gf gn 6) (by omega) (by omega)
    have cM161 := cn_z (cs := [6, 7, 8]) rfl rfl rfl hM158 zbM161
    refine j_aload_n C 0 0 dX8_line_106 rfl rfl ?_
    refine y_getM C 7 6 fX8_line_28 rfl rfl ft_7_3 sm_7_3 (by decide) hM161 dX8_line_107 (fun v164 ev164 cv164 => ?_)
    refine j_aload_n C 0 0 dX8_line_110 rfl rfl ?_
    refine y_getV C 7 v164 fX8_line_28 rfl rfl ft_7_3 (ev164) dX8_line_111 ?_
    refine y_getI C 6 _ _ fX8_line_93 cv164 rfl ft_6_6 sb_6_6 hM161 dX8_line_114 (fun a165 ea165 la165 ua165 => ?_)
    refine y_putI C 6 _ _ qX8_line_102 cv164 rfl ft_6_8 sb_6_8 hM161 (PX.w hpr cv164 rfl) dX8_line_117 (by omega) (fun M167 eM167 hM167 => ?_)
    have xM167 := tkx_w (f := gf) (n := gn) eM167 (s_ne (c := 31) (d := 6) rfl cv164 (by decide)) (s_ne (c := 32) (d := 6) rfl cv164 (by decide)) (s_ne (c := 7) (d := 6) rfl cv164 (by decide)) (by omega)
    have qM167 := po_eq gn ((suR gf gn 6) ((exP gf gn 2058) (nxF gf gn gi)).2.2).2.2 (M161.1 78 5).toInt (psX M161) (M167.1 78 5).toInt (psX M167) (by omega) (by omega) (by omega)
    have cM167 := cn_w hM161 (c := 6) cv164 eM167 (by decide)
    refine j_goto C 181 dX8_line_120 (by decide) ?_
    have u168w := wa_1 gf gn gi (M0.1 78 5).toInt (M0.1 78 6).toInt (M150.1 78 5).toInt (M150.1 78 6).toInt (M152.1 78 5).toInt (M152.1 78 6).toInt (psX M152) (M158.1 78 5).toInt (M158.1 78 6).toInt (M161.1 78 5).toInt (M161.1 78 6).toInt (psX M161) (M167.1 78 5).toInt (M167.1 78 6).toInt (psX M167) (by omega) (by omega) (by omega) (by omega) (by omega) (by omega) (by omega) (by omega) (by omega)
    have u168r := li_3 gf gn (kiX M0) (byX M0) gi (M0.1 78 5).toInt (M0.1 78 6).toInt (psX M0) (M167.1 78 5).toInt (M167.1 78 6).toInt (psX M167) (by omega) (by omega) (by omega)
    have u168d := ck_i (M167.1 78 5).toInt (kiX M167) (byX M167) (lnX M167) (kiX M0) (byX M0) (lnX M0) (by omega)
    have u168c := ck_li gf gn gi (M0.1 78 5).toInt (psX M0) (M167.1 78 5).toInt (kiX M167) (byX M167) (lnX M167) (kiX M0) (byX M0) (lnX M0) (kiX M0) (byX M0) (by omega) (by omega) (by omega) (by omega) (by omega)
    have zz78_5 : (M167.1 78 5).toInt = (M161.1 78 5).toInt := s_fb eM167 (by decide) (rfl); have zz78_6 : (M167.1 78 6).toInt = (M161.1 78 6).toInt := s_fb eM167 (by decide) (rfl); exact hret _ _ _ dX8_line_181 ⟨hM167, by omega⟩
  · refine y_tabI C (off := 119) 123 1011 dX8_line_4 (by decide) rfl (by decide) h107 ?_
    refine j_aload_n C 0 0 dX8_line_123 rfl rfl ?_
    refine j_dup C dX8_line_124 rfl ?_
    refine y_getI C 7 _ _ fX8_line_18 rfl rfl ft_7_2 sb_7_2 hM0 dX8_line_125 (fun a169 ea169 la169 ua169 => ?_)
    refine y_iconst C dX8_line_128 ?_
    refine y_iadd C dX8_line_129 ?_
    refine y_putI C 7 _ _ qX8_line_18 rfl rfl ft_7_2 sb_7_2 hM0 (PX.w hpr rfl rfl) dX8_line_130 (by omega) (fun M171 eM171 hM171 => ?_)
    have xM171 := tkx_j (f := gf) (n := gn) (gi := gi) eM171 (by omega) (by omega) (by omega) (by omega)
    have cM171 := cn_w hM0 (c := 7) rfl eM171 (by decide)
    refine j_aload_n C 0 0 dX8_line_133 rfl rfl ?_
    refine y_sipush C dX8_line_134 rfl ?_
    refine j_callVv C (d := 1) (As := [.int (sI 2058)]) (st := []) 78 (s_lt rfl rfl) (s_kc (c := 7) rfl rfl) (by decide) rfl (s1_X8_expect hM171 hpr 2058 (by omega) gf gn (nxF gf gn gi) (by omega) (by omega) (by omega) (by omega)) gX8_line_X8_expect rfl hdX8_expect (by decide) (Nat.le_of_ble_eq_true rfl) dX8_line_137 rfl (fun M173 h174 => ?_)
    obtain ⟨hM173, fM173, h175⟩ := h174
    have bM173 := tkx_b (f := gf) (n := gn) (M := M173) (by omega)
    have qM173 := po_rr (exP gf gn 2058) gn (nxF gf gn gi) (M171.1 78 5).toInt (M171.1 78 6).toInt (psX M171) (M173.1 78 5).toInt (M173.1 78 6).toInt (psX M173) (ex_g gf gn 2058 (by omega)) (by omega) (by omega)
    have cM173 := cn_f hM171 fM173
    refine j_aload_n C 0 0 dX8_line_140 rfl rfl ?_
    refine y_getM C 7 6 fX8_line_28 rfl rfl ft_7_3 sm_7_3 (by decide) hM173 dX8_line_141 (fun v176 ev176 cv176 => ?_)
    refine j_aload_n C 0 0 dX8_line_144 rfl rfl ?_
    refine y_getV C 7 v176 fX8_line_28 rfl rfl ft_7_3 (ev176) dX8_line_145 ?_
    refine y_getI C 6 _ _ fX8_line_93 cv176 rfl ft_6_6 sb_6_6 hM173 dX8_line_148 (fun a177 ea177 la177 ua177 => ?_)
    have qa177 : a177 = (M0.1 v176 6).toInt := s_fb eM171 (by decide) (s_fF fM173 (s_nin cv176 (by decide)) (ea177))
    refine y_putI C 6 _ _ qX8_line_105 cv176 rfl ft_6_9 sb_6_9 hM173 (PX.w hpr cv176 rfl) dX8_line_151 (by omega) (fun M179 eM179 hM179 => ?_)
    have xM179 := tkx_w (f := gf) (n := gn) eM179 (s_ne (c := 31) (d := 6) rfl cv176 (by decide)) (s_ne (c := 32) (d := 6) rfl cv176 (by decide)) (s_ne (c := 7) (d := 6) rfl cv176 (by decide)) (by omega)
    have qM179 := po_eq gn ((exP gf gn 2058) (nxF gf gn gi)).2.2 (M173.1 78 5).toInt (psX M173) (M179.1 78 5).toInt (psX M179) (by omega) (by omega) (by omega)
    have cM179 := cn_w hM173 (c := 6) cv176 eM179 (by decide)
    refine j_aload_n C 0 0 dX8_line_154 rfl rfl ?_
    refine y_iconst C dX8_line_155 ?_
    obtain ⟨prz180, Kzz180, hprz180, hz180, hnez180, hbkz180⟩ := fzXs [6, 7, 8] hpr hM179
    refine j_callVv C (d := 26) (As := [.int (sI 0)]) (st := []) 78 (s_lt rfl rfl) (s_kc (c := 7) rfl rfl) (by decide) rfl (s8_X8_truth hz180 hprz180 gf gn ((exP gf gn 2058) (nxF gf gn gi)).2.2 (by omega) (by omega)) gX8_line_X8_truth rfl hdX8_truth (by decide) (Nat.le_of_ble_eq_true rfl) dX8_line_156 rfl (fun M182 h183 => ?_)
    obtain ⟨hM182, h184⟩ := h183
    have zbM182 := (hbkz180 _ hM182).2
    have hM182 := (hbkz180 _ hM182).1
    have bM182 := tkx_b (f := gf) (n := gn) (M := M182) (by omega)
    have qM182 := po_rr (trP gf gn (unR gf gn 6)) gn ((exP gf gn 2058) (nxF gf gn gi)).2.2 (M179.1 78 5).toInt (M179.1 78 6).toInt (psX M179) (M182.1 78 5).toInt (M182.1 78 6).toInt (psX M182) (tr_g gf gn (unR_g gf gn 6)) (by omega) (by omega)
    have cM182 := cn_z (cs := [6, 7, 8]) rfl rfl rfl hM179 zbM182
    refine j_aload_n C 0 0 dX8_line_159 rfl rfl ?_
    refine y_getM C 7 6 fX8_line_28 rfl rfl ft_7_3 sm_7_3 (by decide) hM182 dX8_line_160 (fun v185 ev185 cv185 => ?_)
    refine j_aload_n C 0 0 dX8_line_163 rfl rfl ?_
    refine y_getV C 7 v185 fX8_line_28 rfl rfl ft_7_3 (ev185) dX8_line_164 ?_
    refine y_getI C 6 _ _ fX8_line_93 cv185 rfl ft_6_6 sb_6_6 hM182 dX8_line_167 (fun a186 ea186 la186 ua186 => ?_)
    refine y_putI C 6 _ _ qX8_line_111 cv185 rfl ft_6_10 sb_6_10 hM182 (PX.w hpr cv185 rfl) dX8_line_170 (by omega) (fun M188 eM188 hM188 => ?_)
    have xM188 := tkx_w (f := gf) (n := gn) eM188 (s_ne (c := 31) (d := 6) rfl cv185 (by decide)) (s_ne (c := 32) (d := 6) rfl cv185 (by decide)) (s_ne (c := 7) (d := 6) rfl cv185 (by decide)) (by omega)
    have qM188 := po_eq gn ((trP gf gn (unR gf gn 6)) ((exP gf gn 2058) (nxF gf gn gi)).2.2).2.2 (M182.1 78 5).toInt (psX M182) (M188.1 78 5).toInt (psX M188) (by omega) (by omega) (by omega)
    have cM188 := cn_w hM182 (c := 6) cv185 eM188 (by decide)
    refine j_goto C 181 dX8_line_173 (by decide) ?_
    have u189w := le_1 gf gn gi (M0.1 78 5).toInt (M0.1 78 6).toInt (M171.1 78 5).toInt (M171.1 78 6).toInt (M173.1 78 5).toInt (M173.1 78 6).toInt (psX M173) (M179.1 78 5).toInt (M179.1 78 6).toInt (M182.1 78 5).toInt (M182.1 78 6).toInt (psX M182) (M188.1 78 5).toInt (M188.1 78 6).toInt (psX M188) (by omega) (by omega) (by omega) (by omega) (by omega) (by omega) (by omega) (by omega) (by omega)
    have u189r := li_4 gf gn (kiX M0) (byX M0) gi (M0.1 78 5).toInt (M0.1 78 6).toInt (psX M0) (M188.1 78 5).toInt (M188.1 78 6).toInt (psX M188) (by omega) (by omega) (by omega)
    have u189d := ck_i (M188.1 78 5).toInt (kiX M188) (byX M188) (lnX M188) (kiX M0) (byX M0) (lnX M0) (by omega)
    have u189c := ck_li gf gn gi (M0.1 78 5).toInt (psX M0) (M188.1 78 5).toInt (kiX M188) (byX M188) (lnX M188) (kiX M0) (byX M0) (lnX M0) (kiX M0) (byX M0) (by omega) (by omega) (by omega) (by omega) (by omega)
    have zz78_5 : (M188.1 78 5).toInt = (M182.1 78 5).toInt := s_fb eM188 (by decide) (rfl); have zz78_6 : (M188.1 78 6).toInt = (M182.1 78 6).toInt := s_fb eM188 (by decide) (rfl); exact hret _ _ _ dX8_line_181 ⟨hM188, by omega⟩
set_option maxHeartbeats 4000000 in
theorem s1_X8_read {l : Launch} {dC : Nat → ClassId} {dI : Nat → Nat → Nat} {ad : Nat → Nat} {cA : Nat → ClassId} {pr : Nat → Nat → Bool} {Kz : mm_M} {M0 : mm_M} (hM0 : INV pr Kz M0) (hpr : PX pr) (hq7_3 : ∀ i, s_c i = 7 → pr i 3 = false) (hq7_4 : ∀ i, s_c i = 7 → pr i 4 = false) (hq6_0 : ∀ i, s_c i = 6 → pr i 0 = false) (hq6_1 : ∀ i, s_c i = 6 → pr i 1 = false) (hq8_0 : ∀ i, s_c i = 8 → pr i 0 = false) (a2 : Int) (ha2 : -2147483648 ≤ a2 ∧ a2 ≤ 2147483647) {v3 : Nat} (cv3 : s_c v3 = 6) {v4 : Nat} (cv4 : s_c v4 = 8) (gf : Nat → Int) (gn : Int) (hp0 : gn = a2) (hp1 : b01 (TPX gf gn M0) = 1) (hp2 : 0 ≤ a2 ∧ a2 ≤ 900) : Cv l 28 yX8_read wsX8_read dC dI ad cA [.ref (ad 78), .ref (ad 1), .int (sI a2), .ref (ad v3), .ref (ad v4)] M0 (fun M' => INV pr Kz M' ∧ ((M'.1 78 5).toInt = (rdP gf gn).1 ∧ ((M'.1 78 5).toInt = 0 ∧ (M'.1 78 6).toInt = -1 ∧ (M'.1 v3 1).toInt = (rdP gf gn).2.2 ∨ ¬ (M'.1 78 5).toInt = 0 ∧ (M'.1 78 6).toInt = (rdP gf gn).2.1))) := by
  refine cv_of (cc := cX8_read) (maxL := 6) (lv := [(0, .ref (ad 78)), (1, .ref (ad 1)), (2, .int (sI a2)), (3, .ref (ad v3)), (4, .ref (ad v4))]) (by decide) rfl (Nat.le_of_ble_eq_true rfl) rfl ?_
  intro p e s m args below meth c A Q C hret
  refine j_aload_n C 0 0 dX8_read_0 rfl rfl ?_
  refine j_aload_n C 3 3 dX8_read_1 rfl rfl ?_
  refine y_putP C 7 6 qX8_read_28 rfl rfl rfl rfl ft_7_3 sm_7_3 (by decide) hM0 (hq7_3 _ rfl) cv3 dX8_read_2 (fun M101 eM101 hM101 => ?_)
  refine j_aload_n C 0 0 dX8_read_5 rfl rfl ?_
  refine j_aload C 4 dX8_read_6 rfl ?_
  refine y_putP C 7 8 qX8_read_32 rfl rfl rfl rfl ft_7_4 sm_7_4 (by decide) hM101 (hq7_4 _ rfl) cv4 dX8_read_8 (fun M102 eM102 hM102 => ?_)
  have u1033 := s_pP eM102 (by decide) (s_pW eM101)
  have u1034 := s_pW eM102
  have u103t := tp_c (f := gf) (n := gn) (M := M0) (M' := M102) (by rw [eM102, eM101]) (by omega)
  refine j_aload_n C 0 0 dX8_read_11 rfl rfl ?_
  refine y_getV C 7 v3 fX8_read_28 rfl rfl ft_7_3 (s_pP eM102 (by decide) (s_pW eM101)) dX8_read_12 ?_
  obtain ⟨prz104, Kzz104, hprz104, hz104, hnez104, hbkz104⟩ := fzXs [7, 8, 20] hpr hM102
  refine j_callVv C (d := 0) (As := []) (st := []) v3 (s_lt cv3 rfl) (s_kc (c := 6) cv3 rfl) (by decide) rfl (s1_X7_clear hz104 hprz104 (fun i h => hnez104 i 0 (by rw [h]; rfl) (hq6_0 i h)) (fun i h => hnez104 i 1 (by rw [h]; rfl) (hq6_1 i h)) cv3) gX8_read_X7_clear rfl hdX7_clear (by decide) (Nat.le_of_ble_eq_true rfl) dX8_read_15 rfl (fun M106 h107 => ?_)
  obtain ⟨hM106, h108⟩ := h107
  have zbM106 := (hbkz104 _ hM106).2
  have hM106 := (hbkz104 _ hM106).1
  have u109r := (zbM106 78 3 rfl rfl).2
  have u109s := (zbM106 78 4 rfl rfl).2
  have u109t := tp_c (f := gf) (n := gn) (M := M102) (M' := M106) (funext fun k => (zbM106 1 k rfl (by show px 20 k = false; rfl)).1) (by omega)
  have u109b := by_r (M := M106) (v := v3) (by omega)
  have u109l := ln_r (M := M106) (v := v3) (by omega)
  refine j_aload_n C 0 0 dX8_read_18 rfl rfl ?_
  refine y_getM C 7 8 fX8_read_32 rfl rfl ft_7_4 sm_7_4 (by decide) hM106 dX8_read_19 (fun v110 ev110 cv110 => ?_)
  obtain ⟨prz111, Kzz111, hprz111, hz111, hnez111, hbkz111⟩ := fzXs [6, 7, 20] hpr hM106
  refine j_callVv C (d := 0) (As := []) (st := []) v110 (s_lt cv110 rfl) (s_kc (c := 8) cv110 rfl) (by decide) rfl (s1_X9_clear hz111 hprz111 (fun i h => hnez111 i 0 (by rw [h]; rfl) (hq8_0 i h)) cv110) gX8_read_X9_clear rfl hdX9_clear (by decide) (Nat.le_of_ble_eq_true rfl) dX8_read_22 rfl (fun M113 h114 => ?_)
  obtain ⟨hM113, h115⟩ := h114
  have zbM113 := (hbkz111 _ hM113).2
  have hM113 := (hbkz111 _ hM113).1
  have u116r := (zbM113 78 3 rfl rfl).2
  have u116s := (zbM113 78 4 rfl rfl).2
  have u116t := tp_c (f := gf) (n := gn) (M := M106) (M' := M113) (funext fun k => (zbM113 1 k rfl (by show px 20 k = false; rfl)).1) (by omega)
  have u116k := ki_r (M := M113) (v := v110) (by omega)
  have u116b := by_r (M := M113) (v := v3) (by omega)
  have u116l := ln_r (M := M113) (v := v3) (by omega)
  have u1160 := congrArg Int32.toInt (zbM113 v3 0 (by rw [cv3]; rfl) (by rw [cv3]; rfl)).1
  have u1161 := congrArg Int32.toInt (zbM113 v3 1 (by rw [cv3]; rfl) (by rw [cv3]; rfl)).1
  refine j_aload_n C 0 0 dX8_read_25 rfl rfl ?_
  refine j_aload_n C 1 1 dX8_read_26 rfl rfl ?_
  refine j_iload_n C 2 2 dX8_read_27 rfl rfl ?_
  obtain ⟨prz117, Kzz117, hprz117, hz117, hnez117, hbkz117⟩ := fzXs [6, 7, 8] hpr hM113
  refine j_callVv C (d := 6) (As := [.ref (ad 1), .int (sI a2)]) (st := []) 78 (s_lt rfl rfl) (s_kc (c := 7) rfl rfl) (by decide) rfl (s1_X8_split hz117 hprz117 a2 (by omega) gf gn (by omega) (by omega) (by omega)) gX8_read_X8_split rfl hdX8_split (by decide) (Nat.le_of_ble_eq_true rfl) dX8_read_28 rfl (fun M119 h120 => ?_)
  obtain ⟨hM119, h121⟩ := h120
  have zbM119 := (hbkz117 _ hM119).2
  have hM119 := (hbkz117 _ hM119).1
  have u122r := (zbM119 78 3 rfl rfl).2
  have u122c := cn_z (cs := [6, 7, 8]) rfl rfl rfl hM113 zbM119
  refine j_aload_n C 0 0 dX8_read_31 rfl rfl ?_
  refine y_iconst C dX8_read_32 ?_
  refine y_putI C 7 _ _ qX8_read_18 rfl rfl ft_7_2 sb_7_2 hM119 (PX.w hpr rfl rfl) dX8_read_33 (by omega) (fun M123 eM123 hM123 => ?_)
  refine j_aload_n C 0 0 dX8_read_36 rfl rfl ?_
  refine y_iconst C dX8_read_37 ?_
  refine y_putI C 7 _ _ qX8_read_22 rfl rfl ft_7_5 sb_7_5 hM123 (PX.w hpr rfl rfl) dX8_read_38 (by omega) (fun M124 eM124 hM124 => ?_)
  refine j_aload_n C 0 0 dX8_read_41 rfl rfl ?_
  refine y_iconst C dX8_read_42 ?_
  refine y_putIF C 7 qX8_read_25 rfl rfl ft_7_6 sb_7_6 hM124 (PX.w hpr rfl rfl) dX8_read_43 (fun M125 eM125 hM125 => ?_)
  have u126x := tz_x (f := gf) (n := gn) (by omega) eM123 eM124 eM125
  have u126a := cn_w hM124 (c := 7) rfl eM125 (by decide)
  have u126b := cn_w hM123 (c := 7) rfl eM124 (by decide)
  have u126c := cn_w hM119 (c := 7) rfl eM123 (by decide)
  have u126r : M125.2.2 78 3 = M119.2.2 78 3 := by rw [eM125, eM124, eM123]
  have u126y := tkx_b (f := gf) (n := gn) (M := M125) (by omega)
  have u126q := po_mk gn (runE blB gf gn 0) (M125.1 78 5).toInt (psX M125) (by omega) (by omega)
  refine j_aload_n C 0 0 dX8_read_46 rfl rfl ?_
  refine y_sipush C dX8_read_47 rfl ?_
  refine j_callVv C (d := 1) (As := [.int (sI 1008)]) (st := []) 78 (s_lt rfl rfl) (s_kc (c := 7) rfl rfl) (by decide) rfl (s1_X8_expect hM125 hpr 1008 (by omega) gf gn (runE blB gf gn 0) (by omega) (by omega) (by omega) (by omega)) gX8_read_X8_expect rfl hdX8_expect (by decide) (Nat.le_of_ble_eq_true rfl) dX8_read_50 rfl (fun M128 h129 => ?_)
  obtain ⟨hM128, fM128, h130⟩ := h129
  have bM128 := tkx_b (f := gf) (n := gn) (M := M128) (by omega)
  have qM128 := po_rr (exP gf gn 1008) gn (runE blB gf gn 0) (M125.1 78 5).toInt (M125.1 78 6).toInt (psX M125) (M128.1 78 5).toInt (M128.1 78 6).toInt (psX M128) (ex_g gf gn 1008 (by omega)) (by omega) (by omega)
  have cM128 := cn_f hM125 fM128
  have u131r : M128.2.2 78 3 = M125.2.2 78 3 := by rw [fM128.2.1]
  refine j_aload_n C 0 0 dX8_read_53 rfl rfl ?_
  obtain ⟨prz132, Kzz132, hprz132, hz132, hnez132, hbkz132⟩ := fzXs [7, 8] hpr hM128
  refine j_callVv C (d := 2) (As := []) (st := []) 78 (s_lt rfl rfl) (s_kc (c := 7) rfl rfl) (by decide) rfl (s1_X8_endLine hz132 hprz132 (fun i h => hnez132 i 1 (by rw [h]; rfl) (hq6_1 i h)) gf gn ((exP gf gn 1008) (runE blB gf gn 0)).2.2 (by omega) (by omega) (by omega)) gX8_read_X8_endLine rfl hdX8_endLine (by decide) (Nat.le_of_ble_eq_true rfl) dX8_read_54 rfl (fun M134 h135 => ?_)
  obtain ⟨hM134, h136⟩ := h135
  have zbM134 := (hbkz132 _ hM134).2
  have hM134 := (hbkz132 _ hM134).1
  have bM134 := tkx_b (f := gf) (n := gn) (M := M134) (by omega)
  have qM134 := po_rr (exP gf gn 2059) gn ((exP gf gn 1008) (runE blB gf gn 0)).2.2 (M128.1 78 5).toInt (M128.1 78 6).toInt (psX M128) (M134.1 78 5).toInt (M134.1 78 6).toInt (psX M134) (ex_g gf gn 2059 (by decide)) (by omega) (by omega)
  have u137r := (zbM134 78 3 rfl rfl).2
  refine y_iconst C dX8_read_57 ?_
  have u138l := lm_1 gf gn ((exP gf gn 2059) ((exP gf gn 1008) (runE blB gf gn 0)).2.2).2.2 (kiX M134) (byX M134) (lnX M134) (M134.1 78 5).toInt (M134.1 78 6).toInt (psX M134) (by omega) (by omega) (by omega) (by omega)
  refine j_istore C 5 [(5, .int (sI 0)), (0, .ref (ad 78)), (1, .ref (ad 1)), (2, .int (sI a2)), (3, .ref (ad v3)), (4, .ref (ad v4))] dX8_read_58 (by decide) rfl ?_
  have L168 : ∀ (n166 : Nat), ∀ (a169 : Int) (M170 : mm_M) (gq171 : Int), (0 ≤ a169 ∧ a169 ≤ 900 ∧ (M170.2.2 78 3 = v3) ∧ (0 ≤ lnX M170 ∧ lnX M170 ≤ a169 + 1) ∧ (b01 (LM gf gn ((exP gf gn 2059) ((exP gf gn 1008) (runE blB gf gn 0)).2.2).2.2 0 0 1 gq171 a169 (kiX M170) (byX M170) (lnX M170) (M134.1 78 5).toInt (M134.1 78 6).toInt (M170.1 78 5).toInt (M170.1 78 6).toInt (psX M170)) = 1) ∧ (b01 (TKX gf gn M170) = 1) ∧ (b01 (PO gn gq171 (M170.1 78 5).toInt (psX M170)) = 1) ∧ (900 - a169) < (n166 : Int)) → INV pr Kz M170 → jj p l e (cn_R 28) s m args below meth c 0 0 Q 6 dC dI ad cA A M170 60 [(0, .ref (ad 78)), (5, .int (sI a169))] [] := by
    intro n166
    induction n166 with
    | zero =>
      intro a169 M170 gq171 h172 hM170
      exfalso; omega
    | succ n166 ih167 =>
      intro a169 M170 gq171 h172 hM170
      have u173b := tkx_b (f := gf) (n := gn) (M := M170) (by omega)
      have u173l := ln_r (M := M170) (v := v3) (by omega)
      refine j_iload C 1 dX8_read_60 rfl ?_
      refine y_sipush C dX8_read_62 rfl ?_
      refine y_icmp_ge C 99 dX8_read_65 (by decide) (by omega) (fun h174 => ?_) (fun h174 => ?_)
      · have u197e := rd_e gf gn gq171 a169 (kiX M170) (byX M170) (lnX M170) (M125.1 78 5).toInt (M125.1 78 6).toInt (M128.1 78 5).toInt (M128.1 78 6).toInt (psX M128) (M134.1 78 5).toInt (M134.1 78 6).toInt (psX M134) (M170.1 78 5).toInt (M170.1 78 6).toInt (psX M170) 1 (by omega) (by omega) (by omega) rfl (by omega) (by omega)
        exact hret _ _ _ dX8_read_99 ⟨hM170, by omega⟩
      · refine j_aload_n C 0 0 dX8_read_68 rfl rfl ?_
        refine y_getI C 7 _ _ fX8_read_22 rfl rfl ft_7_5 sb_7_5 hM170 dX8_read_69 (fun a175 ea175 la175 ua175 => ?_)
        refine y_if_ne C 99 dX8_read_72 (by decide) (by omega) (fun h177 => ?_) (fun h177 => ?_)
        · have u198e := rd_e gf gn gq171 a169 (kiX M170) (byX M170) (lnX M170) (M125.1 78 5).toInt (M125.1 78 6).toInt (M128.1 78 5).toInt (M128.1 78 6).toInt (psX M128) (M134.1 78 5).toInt (M134.1 78 6).toInt (psX M134) (M170.1 78 5).toInt (M170.1 78 6).toInt (psX M170) 1 (by omega) (by omega) (by omega) rfl (by omega) (by omega)
          exact hret _ _ _ dX8_read_99 ⟨hM170, by omega⟩
        · refine j_aload_n C 0 0 dX8_read_75 rfl rfl ?_
          refine j_callVi C (d := 0) (As := []) (st := []) 78 (s_lt rfl rfl) (s_kc (c := 7) rfl rfl) (by decide) rfl (s1_X8_token hM170 gf gn gq171 (by omega) (by omega)) gX8_read_X8_token rfl hdX8_token (by decide) (Nat.le_of_ble_eq_true rfl) dX8_read_76 rfl (fun r178 M179 h180 => ?_)
          obtain ⟨a182, rfl, rfl, h181⟩ := h180
          refine y_sipush C dX8_read_79 rfl ?_
          refine y_icmp_eq C 99 dX8_read_82 (by decide) (by omega) (fun h183 => ?_) (fun h183 => ?_)
          · have u199e := rd_e gf gn gq171 a169 (kiX M170) (byX M170) (lnX M170) (M125.1 78 5).toInt (M125.1 78 6).toInt (M128.1 78 5).toInt (M128.1 78 6).toInt (psX M128) (M134.1 78 5).toInt (M134.1 78 6).toInt (psX M134) (M170.1 78 5).toInt (M170.1 78 6).toInt (psX M170) 1 (by omega) (by omega) (by omega) rfl (by omega) (by omega)
            exact hret _ _ _ dX8_read_99 ⟨hM170, by omega⟩
          · refine j_aload_n C 0 0 dX8_read_85 rfl rfl ?_
            obtain ⟨prz184, Kzz184, hprz184, hz184, hnez184, hbkz184⟩ := fzXs [7] hpr hM170
            refine j_callVv C (d := 27) (As := []) (st := []) 78 (s_lt rfl rfl) (s_kc (c := 7) rfl rfl) (by decide) rfl (s1_X8_line hz184 hprz184 (fun i h => hnez184 i 0 (by rw [h]; rfl) (hq8_0 i h)) (fun i h => hnez184 i 0 (by rw [h]; rfl) (hq6_0 i h)) gf gn gq171 (by omega) (by omega) (by omega)) gX8_read_X8_line rfl hdX8_line (by decide) (Nat.le_of_ble_eq_true rfl) dX8_read_86 rfl (fun M186 h187 => ?_)
            obtain ⟨hM186, h188⟩ := h187
            have zbM186 := (hbkz184 _ hM186).2
            have hM186 := (hbkz184 _ hM186).1
            have bM186 := tkx_b (f := gf) (n := gn) (M := M186) (by omega)
            have qM186 := po_rr (liP gf gn (kiX M170) (byX M170)) gn gq171 (M170.1 78 5).toInt (M170.1 78 6).toInt (psX M170) (M186.1 78 5).toInt (M186.1 78 6).toInt (psX M186) (li_g gf gn (kiX M170) (byX M170)) (by omega) (by omega)
            have u189r := (zbM186 78 3 rfl rfl).2
            refine j_aload_n C 0 0 dX8_read_89 rfl rfl ?_
            obtain ⟨prz190, Kzz190, hprz190, hz190, hnez190, hbkz190⟩ := fzXs [7, 8] hpr hM186
            refine j_callVv C (d := 2) (As := []) (st := []) 78 (s_lt rfl rfl) (s_kc (c := 7) rfl rfl) (by decide) rfl (s1_X8_endLine hz190 hprz190 (fun i h => hnez190 i 1 (by rw [h]; rfl) (hq6_1 i h)) gf gn ((liP gf gn (kiX M170) (byX M170)) gq171).2.2 (by omega) (by omega) (by omega)) gX8_read_X8_endLine rfl hdX8_endLine (by decide) (Nat.le_of_ble_eq_true rfl) dX8_read_90 rfl (fun M192 h193 => ?_)
            obtain ⟨hM192, h194⟩ := h193
            have zbM192 := (hbkz190 _ hM192).2
            have hM192 := (hbkz190 _ hM192).1
            have bM192 := tkx_b (f := gf) (n := gn) (M := M192) (by omega)
            have qM192 := po_rr (exP gf gn 2059) gn ((liP gf gn (kiX M170) (byX M170)) gq171).2.2 (M186.1 78 5).toInt (M186.1 78 6).toInt (psX M186) (M192.1 78 5).toInt (M192.1 78 6).toInt (psX M192) (ex_g gf gn 2059 (by decide)) (by omega) (by omega)
            have u195r := (zbM192 78 3 rfl rfl).2
            refine y_iinc C 1 [(5, .int (sI (a169 + 1))), (0, .ref (ad 78))] dX8_read_93 rfl (by decide) rfl ?_
            have u196k := ck_c (M186.1 78 5).toInt (kiX M186) (byX M186) (lnX M186) (inc (tkF gf gn gq171) 1003 (kiX M170)) (inc (tkF gf gn gq171) 1009 (byX M170)) (lnX M170) (kiX M192) (byX M192) (by omega) (by omega) (by omega)
            have u196s := lm_s gf gn ((exP gf gn 2059) ((exP gf gn 1008) (runE blB gf gn 0)).2.2).2.2 0 0 1 gq171 a169 (kiX M170) (byX M170) (lnX M170) (M134.1 78 5).toInt (M134.1 78 6).toInt (M170.1 78 5).toInt (M170.1 78 6).toInt (psX M170) (M186.1 78 5).toInt (M186.1 78 6).toInt (psX M186) (M192.1 78 5).toInt (M192.1 78 6).toInt (psX M192) (kiX M192) (byX M192) (lnX M192) (lnX M186) (by omega) (by omega) (by omega) (by omega) (by omega) (by omega) (by omega)
            refine j_goto C 60 dX8_read_96 (by decide) ?_
            refine j_lv [1, 0] rfl ?_; exact ih167 (a169 + 1) M192 ((exP gf gn 2059) ((liP gf gn (kiX M170) (byX M170)) gq171).2.2).2.2 (by omega) hM192
  refine j_lv [1, 0] rfl ?_; exact L168 2010 0 M134 ((exP gf gn 2059) ((exP gf gn 1008) (runE blB gf gn 0)).2.2).2.2 (by omega) hM134
set_option maxHeartbeats 4000000 in
theorem s1_X9_copyFrom {l : Launch} {dC : Nat → ClassId} {dI : Nat → Nat → Nat} {ad : Nat → Nat} {cA : Nat → ClassId} {pr : Nat → Nat → Bool} {Kz : mm_M} {M0 : mm_M} (hM0 : INV pr Kz M0) (hpr : PX pr) (hq8_0 : ∀ i, s_c i = 8 → pr i 0 = false) {v0 : Nat} (cv0 : s_c v0 = 8) {v1 : Nat} (cv1 : s_c v1 = 8) : Cv l 0 yX9_copyFrom wsX9_copyFrom dC dI ad cA [.ref (ad v0), .ref (ad v1)] M0 (fun M' => INV pr Kz M') := by
  refine cv_of (cc := cX9_copyFrom) (maxL := 3) (lv := [(0, .ref (ad v0)), (1, .ref (ad v1))]) (by decide) rfl (Nat.le_of_ble_eq_true rfl) rfl ?_
  intro p e s m args below meth c A Q C hret
  refine j_aload_n C 0 0 dX9_copyFrom_0 rfl rfl ?_
  refine j_aload_n C 1 1 dX9_copyFrom_1 rfl rfl ?_
  refine y_getI C 8 _ _ fX9_copyFrom_9 cv1 rfl ft_8_0 sb_8_0 hM0 dX9_copyFrom_2 (fun a101 ea101 la101 ua101 => ?_)
  refine y_putI C 8 _ _ qX9_copyFrom_9 cv0 rfl ft_8_0 sb_8_0 hM0 (hq8_0 _ cv0) dX9_copyFrom_5 (by omega) (fun M103 eM103 hM103 => ?_)
  refine y_iconst C dX9_copyFrom_8 ?_
  refine j_istore_n C 2 [(2, .int (sI 0)), (0, .ref (ad v0)), (1, .ref (ad v1))] dX9_copyFrom_9 rfl (by decide) rfl ?_
  have L205 : ∀ (n203 : Nat), ∀ (a206 : Int) (M207 : mm_M), (0 ≤ a206 ∧ a206 ≤ 8 ∧ (8 - a206) < (n203 : Int)) → INV pr Kz M207 → jj p l e (cn_R 0) s m args below meth c 0 0 Q 3 dC dI ad cA A M207 10 [(0, .ref (ad v0)), (1, .ref (ad v1)), (2, .int (sI a206))] [] := by
    intro n203
    induction n203 with
    | zero =>
      intro a206 M207 h208 hM207
      exfalso; omega
    | succ n203 ih204 =>
      intro a206 M207 h208 hM207
      refine j_iload_n C 2 2 dX9_copyFrom_10 rfl rfl ?_
      refine y_bipush C dX9_copyFrom_11 rfl ?_
      refine y_icmp_ge C 46 dX9_copyFrom_13 (by decide) (by omega) (fun h209 => ?_) (fun h209 => ?_)
      · refine j_aload_n C 0 0 dX9_copyFrom_46 rfl rfl ?_
        refine j_aload_n C 1 1 dX9_copyFrom_47 rfl rfl ?_
        refine y_getI C 8 _ _ fX9_copyFrom_22 cv1 rfl ft_8_3 sb_8_3 hM207 dX9_copyFrom_48 (fun a218 ea218 la218 ua218 => ?_)
        refine y_putI C 8 _ _ qX9_copyFrom_22 cv0 rfl ft_8_3 sb_8_3 hM207 (PX.w hpr cv0 rfl) dX9_copyFrom_51 (by omega) (fun M220 eM220 hM220 => ?_)
        refine j_aload_n C 0 0 dX9_copyFrom_54 rfl rfl ?_
        refine j_aload_n C 1 1 dX9_copyFrom_55 rfl rfl ?_
        refine y_getI C 8 _ _ fX9_copyFrom_25 cv1 rfl ft_8_4 sb_8_4 hM220 dX9_copyFrom_56 (fun a221 ea221 la221 ua221 => ?_)
        refine y_putI C 8 _ _ qX9_copyFrom_25 cv0 rfl ft_8_4 sb_8_4 hM220 (PX.w hpr cv0 rfl) dX9_copyFrom_59 (by omega) (fun M223 eM223 hM223 => ?_)
        refine j_aload_n C 0 0 dX9_copyFrom_62 rfl rfl ?_
        refine j_aload_n C 1 1 dX9_copyFrom_63 rfl rfl ?_
        refine y_getI C 8 _ _ fX9_copyFrom_28 cv1 rfl ft_8_5 sb_8_5 hM223 dX9_copyFrom_64 (fun a224 ea224 la224 ua224 => ?_)
        refine y_putIF C 8 qX9_copyFrom_28 cv0 rfl ft_8_5 sb_8_5 hM223 (PX.w hpr cv0 rfl) dX9_copyFrom_67 (fun M226 eM226 hM226 => ?_)
        refine j_aload_n C 0 0 dX9_copyFrom_70 rfl rfl ?_
        refine j_aload_n C 1 1 dX9_copyFrom_71 rfl rfl ?_
        refine y_getI C 8 _ _ fX9_copyFrom_31 cv1 rfl ft_8_6 sb_8_6 hM226 dX9_copyFrom_72 (fun a227 ea227 la227 ua227 => ?_)
        refine y_putIF C 8 qX9_copyFrom_31 cv0 rfl ft_8_6 sb_8_6 hM226 (PX.w hpr cv0 rfl) dX9_copyFrom_75 (fun M229 eM229 hM229 => ?_)
        refine j_aload_n C 0 0 dX9_copyFrom_78 rfl rfl ?_
        refine j_aload_n C 1 1 dX9_copyFrom_79 rfl rfl ?_
        refine y_getI C 8 _ _ fX9_copyFrom_34 cv1 rfl ft_8_7 sb_8_7 hM229 dX9_copyFrom_80 (fun a230 ea230 la230 ua230 => ?_)
        refine y_putIF C 8 qX9_copyFrom_34 cv0 rfl ft_8_7 sb_8_7 hM229 (PX.w hpr cv0 rfl) dX9_copyFrom_83 (fun M232 eM232 hM232 => ?_)
        refine j_aload_n C 0 0 dX9_copyFrom_86 rfl rfl ?_
        refine j_aload_n C 1 1 dX9_copyFrom_87 rfl rfl ?_
        refine y_getI C 8 _ _ fX9_copyFrom_37 cv1 rfl ft_8_8 sb_8_8 hM232 dX9_copyFrom_88 (fun a233 ea233 la233 ua233 => ?_)
        refine y_putIF C 8 qX9_copyFrom_37 cv0 rfl ft_8_8 sb_8_8 hM232 (PX.w hpr cv0 rfl) dX9_copyFrom_91 (fun M235 eM235 hM235 => ?_)
        exact hret _ _ _ dX9_copyFrom_94 hM235
      · refine j_aload_n C 0 0 dX9_copyFrom_16 rfl rfl ?_
        refine y_getT C 8 25 fX9_copyFrom_15 cv0 rfl ft_8_1 rfl sm_8_1 st_8_1 (by decide) hM207 dX9_copyFrom_17 (fun v210 cv210 => ?_)
        refine j_iload_n C 2 2 dX9_copyFrom_20 rfl rfl ?_
        refine j_aload_n C 1 1 dX9_copyFrom_21 rfl rfl ?_
        refine y_getT C 8 25 fX9_copyFrom_15 cv1 rfl ft_8_1 rfl sm_8_1 st_8_1 (by decide) hM207 dX9_copyFrom_22 (fun v211 cv211 => ?_)
        refine j_iload_n C 2 2 dX9_copyFrom_25 rfl rfl ?_
        refine y_iald C 25 8 _ _ cv211 rfl rfl ak_25 an_25 rfl (sb_25 _) hM207 dX9_copyFrom_26 (by omega) (fun a212 ea212 la212 ua212 => ?_)
        refine y_iastF C 25 8 cv210 rfl rfl ak_25 an_25 rfl (sb_25 _) hM207 (PX.w hpr cv210 rfl) dX9_copyFrom_27 (by omega) (fun M213 eM213 hM213 => ?_)
        refine j_aload_n C 0 0 dX9_copyFrom_28 rfl rfl ?_
        refine y_getT C 8 26 fX9_copyFrom_19 cv0 rfl ft_8_2 rfl sm_8_2 st_8_2 (by decide) hM213 dX9_copyFrom_29 (fun v214 cv214 => ?_)
        refine j_iload_n C 2 2 dX9_copyFrom_32 rfl rfl ?_
        refine j_aload_n C 1 1 dX9_copyFrom_33 rfl rfl ?_
        refine y_getT C 8 26 fX9_copyFrom_19 cv1 rfl ft_8_2 rfl sm_8_2 st_8_2 (by decide) hM213 dX9_copyFrom_34 (fun v215 cv215 => ?_)
        refine j_iload_n C 2 2 dX9_copyFrom_37 rfl rfl ?_
        refine y_iald C 26 8 _ _ cv215 rfl rfl ak_26 an_26 rfl (sb_26 _) hM213 dX9_copyFrom_38 (by omega) (fun a216 ea216 la216 ua216 => ?_)
        refine y_iastF C 26 8 cv214 rfl rfl ak_26 an_26 rfl (sb_26 _) hM213 (PX.w hpr cv214 rfl) dX9_copyFrom_39 (by omega) (fun M217 eM217 hM217 => ?_)
        refine y_iinc C 2 [(2, .int (sI (a206 + 1))), (0, .ref (ad v0)), (1, .ref (ad v1))] dX9_copyFrom_40 rfl (by decide) rfl ?_
        refine j_goto C 10 dX9_copyFrom_43 (by decide) ?_
        refine j_lv [1, 2, 0] rfl ?_; exact ih204 (a206 + 1) M217 (by omega) hM217
  refine j_lv [1, 2, 0] rfl ?_; exact L205 2010 0 M103 (by omega) hM103
set_option maxHeartbeats 4000000 in
theorem s1_X6_clear {l : Launch} {dC : Nat → ClassId} {dI : Nat → Nat → Nat} {ad : Nat → Nat} {cA : Nat → ClassId} {pr : Nat → Nat → Bool} {Kz : mm_M} {M0 : mm_M} (hM0 : INV pr Kz M0) (hpr : PX pr)  : Cv l 0 yX6_clear wsX6_clear dC dI ad cA [.ref (ad 18)] M0 (fun M' => INV pr Kz M') := by
  refine cv_of (cc := cX6_clear) (maxL := 1) (lv := [(0, .ref (ad 18))]) (by decide) rfl (Nat.le_of_ble_eq_true rfl) rfl ?_
  intro p e s m args below meth c A Q C hret
  refine j_aload_n C 0 0 dX6_clear_0 rfl rfl ?_
  refine y_iconst C dX6_clear_1 ?_
  refine y_putI C 5 _ _ qX6_clear_21 rfl rfl ft_5_2 sb_5_2 hM0 (PX.w hpr rfl rfl) dX6_clear_2 (by omega) (fun M101 eM101 hM101 => ?_)
  exact hret _ _ _ dX6_clear_5 hM101
set_option maxHeartbeats 4000000 in
theorem s1_J7_fill_53178 {l : Launch} {dC : Nat → ClassId} {dI : Nat → Nat → Nat} {ad : Nat → Nat} {cA : Nat → ClassId} {pr : Nat → Nat → Bool} {Kz : mm_M} {M0 : mm_M} (hM0 : INV pr Kz M0) (hpr : PX pr) (a1 : Int) (ha1 : -2147483648 ≤ a1 ∧ a1 ≤ 2147483647) : Cv l 0 yJ7_fill_53178 wsJ7_fill_53178 dC dI ad cA [.ref (ad 83), .int (sI a1)] M0 (fun M' => INV pr Kz M') := by
  refine cv_of (cc := cJ7_fill_53178) (maxL := 4) (lv := [(0, .ref (ad 83)), (1, .int (sI a1))]) (by decide) rfl (Nat.le_of_ble_eq_true rfl) rfl ?_
  intro p e s m args below meth c A Q C hret
  refine y_iconst C dJ7_fill_53178_0 ?_
  refine j_istore_n C 2 [(2, .int (sI 0)), (0, .ref (ad 83)), (1, .int (sI a1))] dJ7_fill_53178_1 rfl (by decide) rfl ?_
  refine j_aload_n C 1 0 dJ7_fill_53178_2 rfl rfl ?_
  refine y_alen C 34 8 rfl rfl rfl an_34 rfl rfl dJ7_fill_53178_3 ?_
  refine j_istore_n C 3 [(3, .int (sI 8)), (2, .int (sI 0)), (0, .ref (ad 83)), (1, .int (sI a1))] dJ7_fill_53178_4 rfl (by decide) rfl ?_
  have L139 : ∀ (n137 : Nat), ∀ (a140 : Int) (M141 : mm_M), (0 ≤ a140 ∧ a140 ≤ 8 ∧ (8 - a140) < (n137 : Int)) → INV pr Kz M141 → jj p l e (cn_R 0) s m args below meth c 0 0 Q 4 dC dI ad cA A M141 5 [(0, .ref (ad 83)), (1, .int (sI a1)), (2, .int (sI a140)), (3, .int (sI 8))] [] := by
    intro n137
    induction n137 with
    | zero =>
      intro a140 M141 h142 hM141
      exfalso; omega
    | succ n137 ih138 =>
      intro a140 M141 h142 hM141
      refine j_iload_n C 2 2 dJ7_fill_53178_5 rfl rfl ?_
      refine j_iload_n C 3 3 dJ7_fill_53178_6 rfl rfl ?_
      refine y_icmp_ge C 20 dJ7_fill_53178_7 (by decide) (by omega) (fun h143 => ?_) (fun h143 => ?_)
      · exact hret _ _ _ dJ7_fill_53178_20 hM141
      · refine j_aload_n C 0 0 dJ7_fill_53178_10 rfl rfl ?_
        refine j_iload_n C 2 2 dJ7_fill_53178_11 rfl rfl ?_
        refine j_iload_n C 1 1 dJ7_fill_53178_12 rfl rfl ?_
        refine y_iastF C 34 8 rfl rfl rfl ak_34 an_34 rfl (sb_34 _) hM141 (PX.w hpr rfl rfl) dJ7_fill_53178_13 (by omega) (fun M144 eM144 hM144 => ?_)
        refine y_iinc C 2 [(2, .int (sI (a140 + 1))), (0, .ref (ad 83)), (1, .int (sI a1)), (3, .int (sI 8))] dJ7_fill_53178_14 rfl (by decide) rfl ?_
        refine j_goto C 5 dJ7_fill_53178_17 (by decide) ?_
        refine j_lv [1, 2, 0, 3] rfl ?_; exact ih138 (a140 + 1) M144 (by omega) hM144
  refine j_lv [2, 3, 1, 0] rfl ?_; exact L139 2010 0 M0 (by omega) hM0
set_option maxHeartbeats 4000000 in
theorem s1_X4_forget {l : Launch} {dC : Nat → ClassId} {dI : Nat → Nat → Nat} {ad : Nat → Nat} {cA : Nat → ClassId} {pr : Nat → Nat → Bool} {Kz : mm_M} {M0 : mm_M} (hM0 : INV pr Kz M0) (hpr : PX pr)  : Cv l 1 yX4_forget wsX4_forget dC dI ad cA [.ref (ad 81)] M0 (fun M' => INV pr Kz M') := by
  refine cv_of (cc := cX4_forget) (maxL := 1) (lv := [(0, .ref (ad 81))]) (by decide) rfl (Nat.le_of_ble_eq_true rfl) rfl ?_
  intro p e s m args below meth c A Q C hret
  refine j_aload_n C 0 0 dX4_forget_0 rfl rfl ?_
  refine y_getC C 3 83 fX4_forget_15 rfl rfl ft_3_1 sm_3_1 rfl hM0 dX4_forget_1 ?_
  refine y_iconst C dX4_forget_4 ?_
  refine j_callSv C (d := 0) (As := [.ref (ad 83), .int (sI 0)]) (st := []) (s1_J7_fill_53178 hM0 hpr 0 (by omega)) gX4_forget_J7_fill_53178 rfl hdJ7_fill_53178s (by decide) (Nat.le_of_ble_eq_true rfl) dX4_forget_5 rfl (fun M102 h103 => ?_)
  have hM102 := h103
  exact hret _ _ _ dX4_forget_8 hM102
set_option maxHeartbeats 4000000 in
theorem s1_X11_beginAnew {l : Launch} {dC : Nat → ClassId} {dI : Nat → Nat → Nat} {ad : Nat → Nat} {cA : Nat → ClassId} {pr : Nat → Nat → Bool} {Kz : mm_M} {M0 : mm_M} (hM0 : INV pr Kz M0) (hpr : PX pr)  : Cv l 2 yX11_beginAnew wsX11_beginAnew dC dI ad cA [.ref (ad 0)] M0 (fun M' => INV pr Kz M') := by
  refine cv_of (cc := cX11_beginAnew) (maxL := 1) (lv := [(0, .ref (ad 0))]) (by decide) rfl (Nat.le_of_ble_eq_true rfl) rfl ?_
  intro p e s m args below meth c A Q C hret
  refine j_aload_n C 0 0 dX11_beginAnew_0 rfl rfl ?_
  refine y_getC C 10 18 fX11_beginAnew_46 rfl rfl ft_10_8 sm_10_8 rfl hM0 dX11_beginAnew_1 ?_
  refine j_callVv C (d := 0) (As := []) (st := []) 18 (s_lt rfl rfl) (s_kc (c := 5) rfl rfl) (by decide) rfl (s1_X6_clear hM0 hpr) gX11_beginAnew_X6_clear rfl hdX6_clear (by decide) (Nat.le_of_ble_eq_true rfl) dX11_beginAnew_4 rfl (fun M102 h103 => ?_)
  have hM102 := h103
  refine j_aload_n C 0 0 dX11_beginAnew_7 rfl rfl ?_
  refine y_getC C 10 81 fX11_beginAnew_76 rfl rfl ft_10_12 sm_10_12 rfl hM102 dX11_beginAnew_8 ?_
  refine j_callVv C (d := 1) (As := []) (st := []) 81 (s_lt rfl rfl) (s_kc (c := 3) rfl rfl) (by decide) rfl (s1_X4_forget hM102 hpr) gX11_beginAnew_X4_forget rfl hdX4_forget (by decide) (Nat.le_of_ble_eq_true rfl) dX11_beginAnew_11 rfl (fun M106 h107 => ?_)
  have hM106 := h107
  exact hret _ _ _ dX11_beginAnew_14 hM106
