set_option maxHeartbeats 4000000 in
theorem s1_X8_kindLine {l : Launch} {dC : Nat → ClassId} {dI : Nat → Nat → Nat} {ad : Nat → Nat} {cA : Nat → ClassId} {pr : Nat → Nat → Bool} {Kz : mm_M} {M0 : mm_M} (hM0 : INV pr Kz M0) (hpr : PX pr) (hq8_0 : ∀ i, s_c i = 8 → pr i 0 = false) (gf : Nat → Int) (gn : Int) (gi : Int) (hp0 : (M0.1 78 5).toInt = 0) (hp1 : tkF gf gn (psX M0) = 1003) (hp2 : b01 (TKX gf gn M0) = 1) (hp3 : b01 (PO gn gi (M0.1 78 5).toInt (psX M0)) = 1) : Cv l 3 yX8_kindLine wsX8_kindLine dC dI ad cA [.ref (ad 78)] M0 (fun M' => INV pr Kz M' ∧ (b01 (CK (M'.1 78 5).toInt (kiX M') (byX M') (lnX M') (kiX M0 + 1) (byX M0) (lnX M0)) = 1) ∧ (lnX M' = lnX M0) ∧ (csX M' = csX M0) ∧ ((M0.1 78 2).toInt ≤ (M'.1 78 2).toInt) ∧ (b01 (CT AGC (M'.1 78 5).toInt M0 M' (kiC gf gn (kiX M0) gi)) = 1) ∧ (b01 (TKX gf gn M') = 1) ∧ b01 (RR ((kiP gf gn (kiX M0)) gi) (M0.1 78 5).toInt (M0.1 78 6).toInt (M'.1 78 5).toInt (M'.1 78 6).toInt (psX M')) = 1 ∧ (b01 (RFX M0 M') = 1)) := by
  refine cv_of (cc := cX8_kindLine) (maxL := 4) (lv := [(0, .ref (ad 78))]) (by decide) rfl (Nat.le_of_ble_eq_true rfl) rfl ?_
  intro p e s m args below meth c A Q C hret
  have u101b := tkx_b (f := gf) (n := gn) (M := M0) (by omega)
  refine j_aload_n C 0 0 dX8_kindLine_0 rfl rfl ?_
  refine y_getM C 7 8 fX8_kindLine_32 rfl rfl ft_7_4 sm_7_4 (by decide) hM0 dX8_kindLine_1 (fun v102 ev102 cv102 => ?_)
  refine y_getI C 8 _ _ fX8_kindLine_114 cv102 rfl ft_8_0 sb_8_0 hM0 dX8_kindLine_4 (fun a103 ea103 la103 ua103 => ?_)
  have u105r := ki_r (ev102)
  refine j_istore_n C 1 [(1, .int (sI a103)), (0, .ref (ad 78))] dX8_kindLine_7 rfl (by decide) rfl ?_
  refine j_iload_n C 0 1 dX8_kindLine_8 rfl rfl ?_
  refine y_bipush C dX8_kindLine_9 rfl ?_
  refine y_icmp_lt C 20 dX8_kindLine_11 (by decide) (by omega) (fun h106 => ?_) (fun h106 => ?_)
  · refine j_aload_n C 1 0 dX8_kindLine_20 rfl rfl ?_
    refine j_dup C dX8_kindLine_21 rfl ?_
    refine y_getI C 7 _ _ fX8_kindLine_18 rfl rfl ft_7_2 sb_7_2 hM0 dX8_kindLine_22 (fun a107 ea107 la107 ua107 => ?_)
    refine y_iconst C dX8_kindLine_25 ?_
    refine y_iadd C dX8_kindLine_26 ?_
    refine y_putI C 7 _ _ qX8_kindLine_18 rfl rfl ft_7_2 sb_7_2 hM0 (PX.w hpr rfl rfl) dX8_kindLine_27 (by omega) (fun M109 eM109 hM109 => ?_)
    have xM109 := tkx_j (f := gf) (n := gn) (gi := gi) eM109 (by omega) (by omega) (by omega) (by omega)
    have dM109 := cs_w hM0 (c := 7) rfl eM109 (by decide)
    have gM109 := s_wr eM109 (by omega)
    have cM109 := cn_w hM0 (c := 7) rfl eM109 (by decide)
    refine j_aload_n C 1 0 dX8_kindLine_30 rfl rfl ?_
    refine y_sipush C dX8_kindLine_31 rfl ?_
    refine j_callVv C (d := 1) (As := [.int (sI 1004)]) (st := []) 78 (s_lt rfl rfl) (s_kc (c := 7) rfl rfl) (by decide) rfl (s1_X8_expect hM109 hpr 1004 (by omega) gf gn (nxF gf gn gi) (by omega) (by omega) (by omega) (by omega)) gX8_kindLine_X8_expect rfl hdX8_expect (by decide) (Nat.le_of_ble_eq_true rfl) dX8_kindLine_34 rfl (fun M111 h112 => ?_)
    obtain ⟨hM111, fM111, h113⟩ := h112
    have bM111 := tkx_b (f := gf) (n := gn) (M := M111) (by omega)
    have qM111 := po_rr (exP gf gn 1004) gn (nxF gf gn gi) (M109.1 78 5).toInt (M109.1 78 6).toInt (psX M109) (M111.1 78 5).toInt (M111.1 78 6).toInt (psX M111) (ex_g gf gn 1004 (by omega)) (by omega) (by omega)
    have dM111 := cs_f hM109 fM111
    have cM111 := cn_f hM109 fM111
    refine j_aload_n C 1 0 dX8_kindLine_37 rfl rfl ?_
    refine y_getV C 7 v102 fX8_kindLine_32 rfl rfl ft_7_4 (s_pF fM111 (s_pI eM109 (ev102))) dX8_kindLine_38 ?_
    refine y_getTE C 8 25 fX8_kindLine_117 cv102 rfl ft_8_1 rfl sm_8_1 st_8_1 (by decide) hM111 dX8_kindLine_41 (fun cv114 => ?_)
    refine j_iload_n C 0 1 dX8_kindLine_44 rfl rfl ?_
    refine j_aload_n C 1 0 dX8_kindLine_45 rfl rfl ?_
    refine y_iconst C dX8_kindLine_46 ?_
    refine y_bipush C dX8_kindLine_47 rfl ?_
    refine j_callVi C (d := 1) (As := [.int (sI 1), .int (sI 99)]) (st := [.int (sI a103), .ref (ad (s_p0 v102 1))]) 78 (s_lt rfl rfl) (s_kc (c := 7) rfl rfl) (by decide) rfl (s1_X8_numberWithin hM111 hpr 1 (by omega) 99 (by omega) gf gn ((exP gf gn 1004) (nxF gf gn gi)).2.2 (by omega) (by omega) (by omega) (by omega)) gX8_kindLine_X8_numberWithin rfl hdX8_numberWithin (by decide) (Nat.le_of_ble_eq_true rfl) dX8_kindLine_49 rfl (fun r115 M116 h117 => ?_)
    obtain ⟨a119, rfl, hM116, fM116, h118⟩ := h117
    have bM116 := tkx_b (f := gf) (n := gn) (M := M116) (by omega)
    have qM116 := po_rr (nuP gf gn 1 99) gn ((exP gf gn 1004) (nxF gf gn gi)).2.2 (M111.1 78 5).toInt (M111.1 78 6).toInt (psX M111) (M116.1 78 5).toInt (M116.1 78 6).toInt (psX M116) (nu_g gf gn 1 99) (by omega) (by omega)
    have dM116 := cs_f hM111 fM116
    have cM116 := cn_f hM111 fM116
    refine y_iastF C 25 8 cv114 rfl rfl ak_25 an_25 rfl (sb_25 _) hM116 (PX.w hpr cv114 rfl) dX8_kindLine_52 (by omega) (fun M120 eM120 hM120 => ?_)
    have xM120 := tkx_w (f := gf) (n := gn) eM120 (s_ne (c := 31) (d := 25) rfl cv114 (by decide)) (s_ne (c := 32) (d := 25) rfl cv114 (by decide)) (s_ne (c := 7) (d := 25) rfl cv114 (by decide)) (by omega)
    have qM120 := po_eq gn ((nuP gf gn 1 99) ((exP gf gn 1004) (nxF gf gn gi)).2.2).2.2 (M116.1 78 5).toInt (psX M116) (M120.1 78 5).toInt (psX M120) (by omega) (by omega) (by omega)
    have dM120 := cs_w hM116 (c := 25) cv114 eM120 (fun z => absurd z.1 (by decide))
    have gM120 : (M120.1 78 2).toInt = (M116.1 78 2).toInt := by rw [wc_x eM120 (s_ne (c := 7) (d := 25) rfl cv114 (by decide))]
    have cM120 := cn_w hM116 (c := 25) cv114 eM120 ⟨fun z => absurd z.1 (by decide), fun z => absurd z.1 (by decide), fun z => absurd z.1 (by decide)⟩
    refine j_aload_n C 1 0 dX8_kindLine_53 rfl rfl ?_
    refine y_getV C 7 v102 fX8_kindLine_32 rfl rfl ft_7_4 (s_pI eM120 (s_pF fM116 (s_pF fM111 (s_pI eM109 (ev102))))) dX8_kindLine_54 ?_
    refine y_getTE C 8 26 fX8_kindLine_123 cv102 rfl ft_8_2 rfl sm_8_2 st_8_2 (by decide) hM120 dX8_kindLine_57 (fun cv121 => ?_)
    refine j_iload_n C 0 1 dX8_kindLine_60 rfl rfl ?_
    refine y_iconst C dX8_kindLine_61 ?_
    refine y_iastF C 26 8 cv121 rfl rfl ak_26 an_26 rfl (sb_26 _) hM120 (PX.w hpr cv121 rfl) dX8_kindLine_62 (by omega) (fun M122 eM122 hM122 => ?_)
    have xM122 := tkx_w (f := gf) (n := gn) eM122 (s_ne (c := 31) (d := 26) rfl cv121 (by decide)) (s_ne (c := 32) (d := 26) rfl cv121 (by decide)) (s_ne (c := 7) (d := 26) rfl cv121 (by decide)) (by omega)
    have qM122 := po_eq gn ((nuP gf gn 1 99) ((exP gf gn 1004) (nxF gf gn gi)).2.2).2.2 (M120.1 78 5).toInt (psX M120) (M122.1 78 5).toInt (psX M122) (by omega) (by omega) (by omega)
    have dM122 := cs_w hM120 (c := 26) cv121 eM122 (fun z => absurd z.1 (by decide))
    have gM122 : (M122.1 78 2).toInt = (M120.1 78 2).toInt := by rw [wc_x eM122 (s_ne (c := 7) (d := 26) rfl cv121 (by decide))]
    have cM122 := cn_w hM120 (c := 26) cv121 eM122 ⟨fun z => absurd z.1 (by decide), fun z => absurd z.1 (by decide), fun z => absurd z.1 (by decide)⟩
    refine j_aload_n C 1 0 dX8_kindLine_63 rfl rfl ?_
    refine y_getV C 7 v102 fX8_kindLine_32 rfl rfl ft_7_4 (s_pI eM122 (s_pI eM120 (s_pF fM116 (s_pF fM111 (s_pI eM109 (ev102)))))) dX8_kindLine_64 ?_
    refine j_dup C dX8_kindLine_67 rfl ?_
    refine y_getI C 8 _ _ fX8_kindLine_114 cv102 rfl ft_8_0 sb_8_0 hM122 dX8_kindLine_68 (fun a123 ea123 la123 ua123 => ?_)
    have qa123 : a123 = a103 := (s_fb eM109 (by decide) (s_fF fM111 (s_nin cv102 (by decide)) (s_fF fM116 (s_nin cv102 (by decide)) (s_fa eM120 (s_ne (c := 8) (d := 25) cv102 cv114 (by decide)) (s_fa eM122 (s_ne (c := 8) (d := 26) cv102 cv121 (by decide)) (ea123)))))).trans ea103.symm
    have u125r := ki_r (s_pI eM122 (s_pI eM120 (s_pF fM116 (s_pF fM111 (s_pI eM109 (ev102))))))
    refine y_iconst C dX8_kindLine_71 ?_
    refine y_iadd C dX8_kindLine_72 ?_
    refine y_putI C 8 _ _ qX8_kindLine_114 cv102 rfl ft_8_0 sb_8_0 hM122 (hq8_0 _ cv102) dX8_kindLine_73 (by omega) (fun M126 eM126 hM126 => ?_)
    have xM126 := tkx_w (f := gf) (n := gn) eM126 (s_ne (c := 31) (d := 8) rfl cv102 (by decide)) (s_ne (c := 32) (d := 8) rfl cv102 (by decide)) (s_ne (c := 7) (d := 8) rfl cv102 (by decide)) (by omega)
    have qM126 := po_eq gn ((nuP gf gn 1 99) ((exP gf gn 1004) (nxF gf gn gi)).2.2).2.2 (M122.1 78 5).toInt (psX M122) (M126.1 78 5).toInt (psX M126) (by omega) (by omega) (by omega)
    have dM126 := cs_w hM122 (c := 8) cv102 eM126 (by decide)
    have gM126 : (M126.1 78 2).toInt = (M122.1 78 2).toInt := by rw [wc_x eM126 (s_ne (c := 7) (d := 8) rfl cv102 (by decide))]
    have cM126 := cn_k hM122 (s_pI eM122 (s_pI eM120 (s_pF fM116 (s_pF fM111 (s_pI eM109 (ev102)))))) eM126 (by omega)
    refine y_iconst C dX8_kindLine_76 ?_
    refine j_istore_n C 2 [(2, .int (sI 1)), (1, .int (sI a103)), (0, .ref (ad 78))] dX8_kindLine_77 rfl (by decide) rfl ?_
    refine y_iconst C dX8_kindLine_78 ?_
    have u127l := lk_0 (fgP gf gn) gn ((nuP gf gn 1 99) ((exP gf gn 1004) (nxF gf gn gi)).2.2).2.2 (M126.1 78 5).toInt (M126.1 78 6).toInt (psX M126) (by omega)
    have u127t := ltc_0 (A := AGC) (M126.1 78 5).toInt (fgT gf gn a103) ((nuP gf gn 1 99) ((exP gf gn 1004) (nxF gf gn gi)).2.2).2.2 M126
    refine j_istore_n C 3 [(3, .int (sI 0)), (2, .int (sI 1)), (1, .int (sI a103)), (0, .ref (ad 78))] dX8_kindLine_79 rfl (by decide) rfl ?_
    have L146 : ∀ (n144 : Nat), ∀ (a147 : Int) (a148 : Int) (M149 : mm_M) (gq150 : Int), (0 ≤ a147 ∧ a147 ≤ 1 ∧ 0 ≤ a148 ∧ a148 ≤ 900 ∧ (b01 (LK (fgP gf gn) gn ((nuP gf gn 1 99) ((exP gf gn 1004) (nxF gf gn gi)).2.2).2.2 gq150 a148 a147 (M126.1 78 5).toInt (M126.1 78 6).toInt (M149.1 78 5).toInt (M149.1 78 6).toInt (psX M149)) = 1) ∧ (kiX M149 = kiX M126 ∧ byX M149 = byX M126 ∧ lnX M149 = lnX M126) ∧ (b01 (LTW AGC (M149.1 78 5).toInt (fgT gf gn a103) ((nuP gf gn 1 99) ((exP gf gn 1004) (nxF gf gn gi)).2.2).2.2 gq150 a147 M126 M149) = 1) ∧ (csX M149 = csX M126) ∧ ((M126.1 78 2).toInt ≤ (M149.1 78 2).toInt) ∧ (b01 (TKX gf gn M149) = 1) ∧ (b01 (PO gn gq150 (M149.1 78 5).toInt (psX M149)) = 1) ∧ (b01 (RFX M0 M149) = 1) ∧ (900 - a148) < (n144 : Int)) → INV pr Kz M149 → jj p l e (cn_R 3) s m args below meth c 0 0 Q 4 dC dI ad cA A M149 80 [(0, .ref (ad 78)), (1, .int (sI a103)), (2, .int (sI a147)), (3, .int (sI a148))] [] := by
      intro n144
      induction n144 with
      | zero =>
        intro a147 a148 M149 gq150 h151 hM149
        exfalso; omega
      | succ n144 ih145 =>
        intro a147 a148 M149 gq150 h151 hM149
        have u152b := tkx_b (f := gf) (n := gn) (M := M149) (by omega)
        refine j_iload_n C 3 3 dX8_kindLine_80 rfl rfl ?_
        refine y_sipush C dX8_kindLine_81 rfl ?_
        refine y_icmp_ge C 110 dX8_kindLine_84 (by decide) (by omega) (fun h153 => ?_) (fun h153 => ?_)
        · have u164e := lk_e gn (fgP gf gn) (tfP gf gn) (fgQ gf gn) (fg_q gf gn) ((nuP gf gn 1 99) ((exP gf gn 1004) (nxF gf gn gi)).2.2).2.2 gq150 a148 a147 (M126.1 78 5).toInt (M126.1 78 6).toInt (M149.1 78 5).toInt (M149.1 78 6).toInt (psX M149) (by omega) (by omega)
          have u164r := ki_2 gf gn (kiX M0) gi (M0.1 78 5).toInt (M0.1 78 6).toInt (M109.1 78 5).toInt (M109.1 78 6).toInt (M111.1 78 5).toInt (M111.1 78 6).toInt (psX M111) (M111.1 78 5).toInt (M111.1 78 6).toInt (M116.1 78 5).toInt (M116.1 78 6).toInt (psX M116) (M126.1 78 5).toInt (M126.1 78 6).toInt (M149.1 78 5).toInt (M149.1 78 6).toInt (psX M149) (by omega) (by omega) (by omega) (by omega) rfl rfl (by omega) (by omega) (by omega) (by omega)
          have u164c := ck_i (M149.1 78 5).toInt (kiX M149) (byX M149) (lnX M149) (kiX M0 + 1) (byX M0) (lnX M0) (by omega)
          have u164k := ki_r (M := M116) (v := v102) (s_pF fM116 (s_pF fM111 (s_pI eM109 (ev102))))
          have u164B : b01 (CT AGC (M126.1 78 5).toInt M0 M126 (kiB gf gn a103 ((exP gf gn 1004 (nxF gf gn gi)).2.2))) = 1 := kib_x gf gn (x := a119) (fun q T h => (agc_F fM116 q T (agc_F fM111 q T (agc_78 eM109 q T h)))) (agc_ki (v := v102) (k := a103) (x := a119) (y := (a123 + 1)) (z := 0) (s_pF fM116 (s_pF fM111 (s_pI eM109 (ev102)))) eM120 eM122 eM126 (by (clear u164c u164r u164e h153 u152b hM149 h151 ih145 u127t u127l cM126 gM126 dM126 qM126 xM126 hM126 eM126 u125r ua123 la123 ea123 cM122 gM122 dM122 qM122 xM122 hM122 eM122 cv121 cM120 gM120 dM120 qM120 xM120 hM120 eM120 dM116 qM116 bM116 h118 fM116 hM116 cv114 dM111 qM111 bM111 h113 fM111 hM111 gM109 dM109 xM109 hM109 eM109 ua107 la107 ea107 ua103 cv102 ev102 u101b hret C hp3 hp2 hp1 hp0 hq8_0 hpr hM0; omega)) (by omega)) (by omega)
          have u164E := ltc_e gn (fg_t gf gn a103) (show b01 (LTW AGC (M149.1 78 5).toInt (fgT gf gn a103) ((nuP gf gn 1 99) ((exP gf gn 1004) (nxF gf gn gi)).2.2).2.2 gq150 a147 M126 M149) = 1 by omega) (show b01 (LK (fgP gf gn) gn ((nuP gf gn 1 99) ((exP gf gn 1004) (nxF gf gn gi)).2.2).2.2 gq150 a148 a147 (M126.1 78 5).toInt (M126.1 78 6).toInt (M149.1 78 5).toInt (M149.1 78 6).toInt (psX M149)) = 1 by omega) (by omega)
          have u164t : b01 (CT AGC (M149.1 78 5).toInt M0 M149 (kiC gf gn (kiX M0) gi)) = 1 := ct_e (ct_t u164B u164E (fun z => lk_z (show b01 (LK (fgP gf gn) gn ((nuP gf gn 1 99) ((exP gf gn 1004) (nxF gf gn gi)).2.2).2.2 gq150 a148 a147 (M126.1 78 5).toInt (M126.1 78 6).toInt (M149.1 78 5).toInt (M149.1 78 6).toInt (psX M149)) = 1 by omega) z)) (fun z T => by rw [show kiX M0 = a103 by omega]; rfl)
          have zr := (show b01 (RFX M0 M149) = 1 by omega); exact hret _ _ _ dX8_kindLine_110 ⟨hM149, by (clear zr u164E u164B u164k u164e h153 u152b hM149 ih145 u127t u127l qM126 xM126 hM126 eM126 u125r qa123 ua123 la123 ea123 qM122 xM122 hM122 eM122 cv121 qM120 xM120 hM120 eM120 qM116 bM116 fM116 hM116 cv114 qM111 bM111 fM111 hM111 xM109 hM109 eM109 ua107 la107 h106 u105r ua103 la103 ea103 cv102 ev102 u101b hret C hp3 hp2 hp1 hp0 hq8_0 hpr hM0; omega)⟩
        · refine j_iload_n C 2 2 dX8_kindLine_87 rfl rfl ?_
          refine y_if_eq C 110 dX8_kindLine_88 (by decide) (by omega) (fun h154 => ?_) (fun h154 => ?_)
          · have u165e := lk_e gn (fgP gf gn) (tfP gf gn) (fgQ gf gn) (fg_q gf gn) ((nuP gf gn 1 99) ((exP gf gn 1004) (nxF gf gn gi)).2.2).2.2 gq150 a148 a147 (M126.1 78 5).toInt (M126.1 78 6).toInt (M149.1 78 5).toInt (M149.1 78 6).toInt (psX M149) (by omega) (by omega)
            have u165r := ki_2 gf gn (kiX M0) gi (M0.1 78 5).toInt (M0.1 78 6).toInt (M109.1 78 5).toInt (M109.1 78 6).toInt (M111.1 78 5).toInt (M111.1 78 6).toInt (psX M111) (M111.1 78 5).toInt (M111.1 78 6).toInt (M116.1 78 5).toInt (M116.1 78 6).toInt (psX M116) (M126.1 78 5).toInt (M126.1 78 6).toInt (M149.1 78 5).toInt (M149.1 78 6).toInt (psX M149) (by omega) (by omega) (by omega) (by omega) rfl rfl (by omega) (by omega) (by omega) (by omega)
            have u165c := ck_i (M149.1 78 5).toInt (kiX M149) (byX M149) (lnX M149) (kiX M0 + 1) (byX M0) (lnX M0) (by omega)
            have u165k := ki_r (M := M116) (v := v102) (s_pF fM116 (s_pF fM111 (s_pI eM109 (ev102))))
            have u165B : b01 (CT AGC (M126.1 78 5).toInt M0 M126 (kiB gf gn a103 ((exP gf gn 1004 (nxF gf gn gi)).2.2))) = 1 := kib_x gf gn (x := a119) (fun q T h => (agc_F fM116 q T (agc_F fM111 q T (agc_78 eM109 q T h)))) (agc_ki (v := v102) (k := a103) (x := a119) (y := (a123 + 1)) (z := 0) (s_pF fM116 (s_pF fM111 (s_pI eM109 (ev102)))) eM120 eM122 eM126 (by omega) (by omega)) (by omega)
            have u165E := ltc_e gn (fg_t gf gn a103) (show b01 (LTW AGC (M149.1 78 5).toInt (fgT gf gn a103) ((nuP gf gn 1 99) ((exP gf gn 1004) (nxF gf gn gi)).2.2).2.2 gq150 a147 M126 M149) = 1 by omega) (show b01 (LK (fgP gf gn) gn ((nuP gf gn 1 99) ((exP gf gn 1004) (nxF gf gn gi)).2.2).2.2 gq150 a148 a147 (M126.1 78 5).toInt (M126.1 78 6).toInt (M149.1 78 5).toInt (M149.1 78 6).toInt (psX M149)) = 1 by omega) (by omega)
            have u165t : b01 (CT AGC (M149.1 78 5).toInt M0 M149 (kiC gf gn (kiX M0) gi)) = 1 := ct_e (ct_t u165B u165E (fun z => lk_z (show b01 (LK (fgP gf gn) gn ((nuP gf gn 1 99) ((exP gf gn 1004) (nxF gf gn gi)).2.2).2.2 gq150 a148 a147 (M126.1 78 5).toInt (M126.1 78 6).toInt (M149.1 78 5).toInt (M149.1 78 6).toInt (psX M149)) = 1 by omega) z)) (fun z T => by rw [show kiX M0 = a103 by omega]; rfl)
            have zr := (show b01 (RFX M0 M149) = 1 by omega); exact hret _ _ _ dX8_kindLine_110 ⟨hM149, by omega⟩
          · refine j_aload_n C 0 0 dX8_kindLine_91 rfl rfl ?_
            refine y_getI C 7 _ _ fX8_kindLine_22 rfl rfl ft_7_5 sb_7_5 hM149 dX8_kindLine_92 (fun a155 ea155 la155 ua155 => ?_)
            refine y_if_ne C 110 dX8_kindLine_95 (by decide) (by omega) (fun h157 => ?_) (fun h157 => ?_)
            · have u166e := lk_e gn (fgP gf gn) (tfP gf gn) (fgQ gf gn) (fg_q gf gn) ((nuP gf gn 1 99) ((exP gf gn 1004) (nxF gf gn gi)).2.2).2.2 gq150 a148 a147 (M126.1 78 5).toInt (M126.1 78 6).toInt (M149.1 78 5).toInt (M149.1 78 6).toInt (psX M149) (by omega) (by omega)
              have u166r := ki_2 gf gn (kiX M0) gi (M0.1 78 5).toInt (M0.1 78 6).toInt (M109.1 78 5).toInt (M109.1 78 6).toInt (M111.1 78 5).toInt (M111.1 78 6).toInt (psX M111) (M111.1 78 5).toInt (M111.1 78 6).toInt (M116.1 78 5).toInt (M116.1 78 6).toInt (psX M116) (M126.1 78 5).toInt (M126.1 78 6).toInt (M149.1 78 5).toInt (M149.1 78 6).toInt (psX M149) (by omega) (by omega) (by omega) (by omega) rfl rfl (by omega) (by omega) (by omega) (by omega)
              have u166c := ck_i (M149.1 78 5).toInt (kiX M149) (byX M149) (lnX M149) (kiX M0 + 1) (byX M0) (lnX M0) (by omega)
              have u166k := ki_r (M := M116) (v := v102) (s_pF fM116 (s_pF fM111 (s_pI eM109 (ev102))))
              have u166B : b01 (CT AGC (M126.1 78 5).toInt M0 M126 (kiB gf gn a103 ((exP gf gn 1004 (nxF gf gn gi)).2.2))) = 1 := kib_x gf gn (x := a119) (fun q T h => (agc_F fM116 q T (agc_F fM111 q T (agc_78 eM109 q T h)))) (agc_ki (v := v102) (k := a103) (x := a119) (y := (a123 + 1)) (z := 0) (s_pF fM116 (s_pF fM111 (s_pI eM109 (ev102)))) eM120 eM122 eM126 (by (clear u166c u166r u166e h157 ua155 la155 ea155 h154 h153 u152b hM149 h151 ih145 u127t u127l cM126 gM126 dM126 qM126 xM126 hM126 eM126 u125r ua123 la123 ea123 cM122 gM122 dM122 qM122 xM122 hM122 eM122 cv121 cM120 gM120 dM120 qM120 xM120 hM120 eM120 dM116 qM116 bM116 h118 fM116 hM116 cv114 dM111 qM111 bM111 h113 fM111 hM111 gM109 dM109 xM109 hM109 eM109 ua107 la107 ea107 ua103 cv102 ev102 u101b hret C hp3 hp2 hp1 hp0 hq8_0 hpr hM0; omega)) (by omega)) (by omega)
              have u166E := ltc_e gn (fg_t gf gn a103) (show b01 (LTW AGC (M149.1 78 5).toInt (fgT gf gn a103) ((nuP gf gn 1 99) ((exP gf gn 1004) (nxF gf gn gi)).2.2).2.2 gq150 a147 M126 M149) = 1 by omega) (show b01 (LK (fgP gf gn) gn ((nuP gf gn 1 99) ((exP gf gn 1004) (nxF gf gn gi)).2.2).2.2 gq150 a148 a147 (M126.1 78 5).toInt (M126.1 78 6).toInt (M149.1 78 5).toInt (M149.1 78 6).toInt (psX M149)) = 1 by omega) (by omega)
              have u166t : b01 (CT AGC (M149.1 78 5).toInt M0 M149 (kiC gf gn (kiX M0) gi)) = 1 := ct_e (ct_t u166B u166E (fun z => lk_z (show b01 (LK (fgP gf gn) gn ((nuP gf gn 1 99) ((exP gf gn 1004) (nxF gf gn gi)).2.2).2.2 gq150 a148 a147 (M126.1 78 5).toInt (M126.1 78 6).toInt (M149.1 78 5).toInt (M149.1 78 6).toInt (psX M149)) = 1 by omega) z)) (fun z T => by rw [show kiX M0 = a103 by omega]; rfl)
              have zr := (show b01 (RFX M0 M149) = 1 by omega); exact hret _ _ _ dX8_kindLine_110 ⟨hM149, by (clear zr u166E u166B u166k u166e h157 ua155 la155 ea155 h154 h153 u152b hM149 ih145 u127t u127l qM126 xM126 hM126 eM126 u125r qa123 ua123 la123 ea123 qM122 xM122 hM122 eM122 cv121 qM120 xM120 hM120 eM120 qM116 bM116 fM116 hM116 cv114 qM111 bM111 fM111 hM111 xM109 hM109 eM109 ua107 la107 h106 u105r ua103 la103 ea103 cv102 ev102 u101b hret C hp3 hp2 hp1 hp0 hq8_0 hpr hM0; omega)⟩
            · refine j_aload_n C 0 0 dX8_kindLine_98 rfl rfl ?_
              refine j_iload_n C 1 1 dX8_kindLine_99 rfl rfl ?_
              refine j_callVi C (d := 2) (As := [.int (sI a103)]) (st := []) 78 (s_lt rfl rfl) (s_kc (c := 7) rfl rfl) (by decide) rfl (s1_X8_takeFlag hM149 hpr a103 (by omega) gf gn gq150 (by omega) (by omega) (by omega) (by omega)) gX8_kindLine_X8_takeFlag rfl hdX8_takeFlag (by decide) (Nat.le_of_ble_eq_true rfl) dX8_kindLine_100 rfl (fun r158 M159 h160 => ?_)
              obtain ⟨a162, rfl, hM159, h161⟩ := h160
              have bM159 := tkx_b (f := gf) (n := gn) (M := M159) (by omega)
              have qM159 := po_rh (tfP gf gn) gn gq150 (M149.1 78 5).toInt (M149.1 78 6).toInt (psX M149) (M159.1 78 5).toInt (M159.1 78 6).toInt (psX M159) (tf_h gf gn) (by omega) (by omega)
              refine j_istore_n C 2 [(2, .int (sI a162)), (0, .ref (ad 78)), (1, .int (sI a103)), (3, .int (sI a148))] dX8_kindLine_103 rfl (by decide) rfl ?_
              refine y_iinc C 3 [(3, .int (sI (a148 + 1))), (2, .int (sI a162)), (0, .ref (ad 78)), (1, .int (sI a103))] dX8_kindLine_104 rfl (by decide) rfl ?_
              have u163s := lk_s gn (fgP gf gn) (tfP gf gn) (fgQ gf gn) (fg_q gf gn) ((nuP gf gn 1 99) ((exP gf gn 1004) (nxF gf gn gi)).2.2).2.2 gq150 a148 a147 (M126.1 78 5).toInt (M126.1 78 6).toInt (M149.1 78 5).toInt (M149.1 78 6).toInt (psX M149) (M159.1 78 5).toInt (M159.1 78 6).toInt (psX M159) (M159.1 78 5).toInt (M159.1 78 6).toInt (psX M159) a162 (by omega) (by omega) (by omega) (by omega) (by omega) rfl rfl rfl
              have u163t := ltc_s gn (fg_t gf gn a103) (show b01 (LTW AGC (M149.1 78 5).toInt (fgT gf gn a103) ((nuP gf gn 1 99) ((exP gf gn 1004) (nxF gf gn gi)).2.2).2.2 gq150 a147 M126 M149) = 1 by omega) (show b01 (PO gn gq150 (M149.1 78 5).toInt (psX M149)) = 1 by omega) (by omega) (show b01 (RR ((tfP gf gn) gq150) (M149.1 78 5).toInt (M149.1 78 6).toInt (M159.1 78 5).toInt (M159.1 78 6).toInt (psX M159)) = 1 by omega) (show a162 = b01 ((fgQ gf gn) gq150) by omega) (show b01 (CT AGC (M159.1 78 5).toInt M149 M159 (fgC gf gn a103 gq150)) = 1 by omega)
              refine j_goto C 80 dX8_kindLine_107 (by decide) ?_
              have zr := (rfx_t (show b01 (RFX M0 M149) = 1 by omega) (show b01 (RFX M149 M159) = 1 by omega)); refine j_lv [2, 3, 1, 0] rfl ?_; exact ih145 a162 (a148 + 1) M159 ((tfP gf gn) gq150).2.2 (by (clear bM159 hM159 h157 ua155 la155 ea155 h154 u152b hM149 ih145 u127t u127l cM126 gM126 dM126 qM126 xM126 hM126 eM126 u125r qa123 ua123 la123 ea123 cM122 gM122 dM122 qM122 xM122 hM122 eM122 cv121 cM120 gM120 dM120 qM120 xM120 hM120 eM120 cM116 dM116 qM116 bM116 h118 fM116 hM116 cv114 cM111 dM111 qM111 bM111 h113 fM111 hM111 cM109 gM109 dM109 xM109 hM109 eM109 ua107 la107 ea107 h106 u105r ua103 la103 ea103 cv102 ev102 u101b hret C hp3 hp2 hp1 hp0 hq8_0 hpr hM0; omega)) hM159
    have zr := (rfx_v (c := v102) (rfx_v (c := (s_p0 v102 2)) (rfx_v (c := (s_p0 v102 1)) (rfx_F (rfx_F (rfx_i (rfx_r M0) eM109 (by decide)) fM111) fM116) eM120 (s_pF fM116 (s_pF fM111 (s_pI eM109 (ev102)))) (by simp)) eM122 (s_pI eM120 (s_pF fM116 (s_pF fM111 (s_pI eM109 (ev102))))) (by simp)) eM126 (s_pI eM122 (s_pI eM120 (s_pF fM116 (s_pF fM111 (s_pI eM109 (ev102)))))) (by simp)); refine j_lv [3, 2, 1, 0] rfl ?_; exact L146 2010 1 0 M126 ((nuP gf gn 1 99) ((exP gf gn 1004) (nxF gf gn gi)).2.2).2.2 (by omega) hM126
  · refine j_aload_n C 1 0 dX8_kindLine_14 rfl rfl ?_
    refine y_iconst C dX8_kindLine_15 ?_
    refine j_callVv C (d := 0) (As := [.int (sI 4)]) (st := []) 78 (s_lt rfl rfl) (s_kc (c := 7) rfl rfl) (by decide) rfl (s1_X8_fail hM0 hpr 4 (by omega) gf gn gi (by omega) (by omega) (by omega)) gX8_kindLine_X8_fail rfl hdX8_fail (by decide) (Nat.le_of_ble_eq_true rfl) dX8_kindLine_16 rfl (fun M168 h169 => ?_)
    obtain ⟨hM168, fM168, h170⟩ := h169
    have bM168 := tkx_b (f := gf) (n := gn) (M := M168) (by omega)
    have qM168 := po_f gn ((faQ gf gn 4) gi).2.2 (M168.1 78 5).toInt (psX M168) (by omega)
    have dM168 := cs_f hM0 fM168
    have cM168 := cn_f hM0 fM168
    have u171r := ki_1 gf gn (kiX M0) gi (M0.1 78 5).toInt (M0.1 78 6).toInt (M168.1 78 5).toInt (M168.1 78 6).toInt (psX M168) (by omega) (by omega)
    have u171c := ck_i (M168.1 78 5).toInt (kiX M168) (byX M168) (lnX M168) (kiX M0 + 1) (byX M0) (lnX M0) (by omega)
    have u171t := ct_n (A := AGC) (M := M0) (N := M168) (kiC gf gn (kiX M0) gi) (a := (M168.1 78 5).toInt) (by omega)
    have zr := (rfx_F (rfx_r M0) fM168); exact hret _ _ _ dX8_kindLine_19 ⟨hM168, by omega⟩
set_option maxHeartbeats 4000000 in
theorem s1_X8_takeMark {l : Launch} {dC : Nat → ClassId} {dI : Nat → Nat → Nat} {ad : Nat → Nat} {cA : Nat → ClassId} {pr : Nat → Nat → Bool} {Kz : mm_M} {M0 : mm_M} (hM0 : INV pr Kz M0) (hpr : PX pr) (a1 : Int) (ha1 : -2147483648 ≤ a1 ∧ a1 ≤ 2147483647) (gf : Nat → Int) (gn : Int) (gi : Int) (hp0 : (M0.1 78 5).toInt = 0) (hp1 : 0 ≤ a1 ∧ a1 ≤ 5) (hp2 : b01 (TKX gf gn M0) = 1) (hp3 : b01 (PO gn gi (M0.1 78 5).toInt (psX M0)) = 1) : Ci l 2 yX8_takeMark wsX8_takeMark dC dI ad cA [.ref (ad 78), .int (sI a1)] M0 (fun r M' => ∃ a : Int, r = sI a ∧ INV pr Kz M' ∧ 0 ≤ a ∧ a ≤ 1 ∧ (kiX M' = kiX M0 ∧ byX M' = byX M0 ∧ lnX M' = lnX M0) ∧ (a = b01 (mkQ gf gn gi)) ∧ (csX M' = csX M0) ∧ ((M0.1 78 2).toInt ≤ (M'.1 78 2).toInt) ∧ (b01 (CT AGC (M'.1 78 5).toInt M0 M' (mkC gf gn a1 gi)) = 1) ∧ (b01 (TKX gf gn M') = 1) ∧ b01 (RR ((mkP gf gn) gi) (M0.1 78 5).toInt (M0.1 78 6).toInt (M'.1 78 5).toInt (M'.1 78 6).toInt (psX M')) = 1 ∧ (b01 (RFX M0 M') = 1)) := by
  refine ci_of (cc := cX8_takeMark) (maxL := 4) (ty := .boolean) (lv := [(0, .ref (ad 78)), (1, .int (sI a1))]) (by decide) rfl (fun r M' hp => by obtain ⟨a, rfl, -, h⟩ := hp; rcases (show a = 0 ∨ a = 1 by omega) with rfl | rfl <;> rfl) (Nat.le_of_ble_eq_true rfl) rfl ?_
  intro p e s m args below meth c A Q C hret
  have u101b := tkx_b (f := gf) (n := gn) (M := M0) (by omega)
  refine j_aload_n C 0 0 dX8_takeMark_0 rfl rfl ?_
  refine j_callVi C (d := 0) (As := []) (st := []) 78 (s_lt rfl rfl) (s_kc (c := 7) rfl rfl) (by decide) rfl (s1_X8_token hM0 gf gn gi (by omega) (by omega)) gX8_takeMark_X8_token rfl hdX8_token (by decide) (Nat.le_of_ble_eq_true rfl) dX8_takeMark_1 rfl (fun r102 M103 h104 => ?_)
  obtain ⟨a106, rfl, rfl, h105⟩ := h104
  refine j_istore_n C 2 [(2, .int (sI a106)), (0, .ref (ad 78)), (1, .int (sI a1))] dX8_takeMark_4 rfl (by decide) rfl ?_
  refine j_iload_n C 0 2 dX8_takeMark_5 rfl rfl ?_
  refine y_sipush C dX8_takeMark_6 rfl ?_
  refine y_icmp_eq C 21 dX8_takeMark_9 (by decide) (by omega) (fun h107 => ?_) (fun h107 => ?_)
  · refine j_aload_n C 1 0 dX8_takeMark_21 rfl rfl ?_
    refine j_dup C dX8_takeMark_22 rfl ?_
    refine y_getI C 7 _ _ fX8_takeMark_18 rfl rfl ft_7_2 sb_7_2 hM0 dX8_takeMark_23 (fun a108 ea108 la108 ua108 => ?_)
    refine y_iconst C dX8_takeMark_26 ?_
    refine y_iadd C dX8_takeMark_27 ?_
    refine y_putI C 7 _ _ qX8_takeMark_18 rfl rfl ft_7_2 sb_7_2 hM0 (PX.w hpr rfl rfl) dX8_takeMark_28 (by omega) (fun M110 eM110 hM110 => ?_)
    have xM110 := tkx_j (f := gf) (n := gn) (gi := gi) eM110 (by omega) (by omega) (by omega) (by omega)
    have dM110 := cs_w hM0 (c := 7) rfl eM110 (by decide)
    have gM110 := s_wr eM110 (by omega)
    have cM110 := cn_w hM0 (c := 7) rfl eM110 (by decide)
    refine j_aload_n C 1 0 dX8_takeMark_31 rfl rfl ?_
    refine y_iconst C dX8_takeMark_32 ?_
    refine y_bipush C dX8_takeMark_33 rfl ?_
    refine j_callVi C (d := 1) (As := [.int (sI 0), .int (sI 9)]) (st := []) 78 (s_lt rfl rfl) (s_kc (c := 7) rfl rfl) (by decide) rfl (s1_X8_numberWithin hM110 hpr 0 (by omega) 9 (by omega) gf gn (nxF gf gn gi) (by omega) (by omega) (by omega) (by omega)) gX8_takeMark_X8_numberWithin rfl hdX8_numberWithin (by decide) (Nat.le_of_ble_eq_true rfl) dX8_takeMark_35 rfl (fun r111 M112 h113 => ?_)
    obtain ⟨a115, rfl, hM112, fM112, h114⟩ := h113
    have bM112 := tkx_b (f := gf) (n := gn) (M := M112) (by omega)
    have qM112 := po_rr (nuP gf gn 0 9) gn (nxF gf gn gi) (M110.1 78 5).toInt (M110.1 78 6).toInt (psX M110) (M112.1 78 5).toInt (M112.1 78 6).toInt (psX M112) (nu_g gf gn 0 9) (by omega) (by omega)
    have dM112 := cs_f hM110 fM112
    have cM112 := cn_f hM110 fM112
    refine j_istore_n C 3 [(3, .int (sI a115)), (2, .int (sI a106)), (0, .ref (ad 78)), (1, .int (sI a1))] dX8_takeMark_38 rfl (by decide) rfl ?_
    refine j_iload_n C 1 2 dX8_takeMark_39 rfl rfl ?_
    refine y_sipush C dX8_takeMark_40 rfl ?_
    refine y_icmp_ne C 59 dX8_takeMark_43 (by decide) (by omega) (fun h116 => ?_) (fun h116 => ?_)
    · exfalso; omega
    · refine j_aload_n C 2 0 dX8_takeMark_46 rfl rfl ?_
      refine y_getM C 7 6 fX8_takeMark_28 rfl rfl ft_7_3 sm_7_3 (by decide) hM112 dX8_takeMark_47 (fun v117 ev117 cv117 => ?_)
      refine y_getTE C 6 22 fX8_takeMark_141 cv117 rfl ft_6_3 rfl sm_6_3 st_6_3 (by decide) hM112 dX8_takeMark_50 (fun cv118 => ?_)
      refine j_iload_n C 3 1 dX8_takeMark_53 rfl rfl ?_
      refine j_iload_n C 0 3 dX8_takeMark_54 rfl rfl ?_
      refine y_iastF C 22 6 cv118 rfl rfl ak_22 an_22 rfl (sb_22 _) hM112 (PX.w hpr cv118 rfl) dX8_takeMark_55 (by omega) (fun M119 eM119 hM119 => ?_)
      have xM119 := tkx_w (f := gf) (n := gn) eM119 (s_ne (c := 31) (d := 22) rfl cv118 (by decide)) (s_ne (c := 32) (d := 22) rfl cv118 (by decide)) (s_ne (c := 7) (d := 22) rfl cv118 (by decide)) (by omega)
      have qM119 := po_eq gn ((nuP gf gn 0 9) (nxF gf gn gi)).2.2 (M112.1 78 5).toInt (psX M112) (M119.1 78 5).toInt (psX M119) (by omega) (by omega) (by omega)
      have dM119 := cs_w hM112 (c := 22) cv118 eM119 (fun z => absurd z.1 (by decide))
      have gM119 : (M119.1 78 2).toInt = (M112.1 78 2).toInt := by rw [wc_x eM119 (s_ne (c := 7) (d := 22) rfl cv118 (by decide))]
      have cM119 := cn_w hM112 (c := 22) cv118 eM119 ⟨fun z => absurd z.1 (by decide), fun z => absurd z.1 (by decide), fun z => absurd z.1 (by decide)⟩
      refine j_goto C 69 dX8_takeMark_56 (by decide) ?_
      refine y_iconst C dX8_takeMark_69 ?_
      have u120q := mk_r1 gf gn gi (M0.1 78 5).toInt (psX M0) (by omega) (by omega) (by omega)
      have u120r := mk_1 gf gn gi (M0.1 78 5).toInt (M0.1 78 6).toInt (psX M0) (M110.1 78 5).toInt (M110.1 78 6).toInt (M112.1 78 5).toInt (M112.1 78 6).toInt (psX M112) (M119.1 78 5).toInt (M119.1 78 6).toInt (psX M119) (by omega) (by omega) (by omega) (by omega) (by omega) (by omega) (by omega) (by omega)
      have u120t := mkc_1 gf gn (A := AGC) (a := (M119.1 78 5).toInt) (i := gi) (k := a1) (x := a115) (M := M0) (M2 := M112) (N := M119) (fun q T h => (agc_F fM112 q T (agc_78 eM110 q T h))) (agc_mi (p := v117) (k := a1) (x := a115) (ev117) eM119 (by omega) (by omega)) (show b01 (PO gn gi (M0.1 78 5).toInt (psX M0)) = 1 by omega) (by omega) (by omega) (by omega)
      have zz78_2 : (M119.1 78 2).toInt = (M112.1 78 2).toInt := s_fa eM119 (s_ne (c := 7) (d := 22) rfl cv118 (by decide)) (rfl); have zz78_5 : (M119.1 78 5).toInt = (M112.1 78 5).toInt := s_fa eM119 (s_ne (c := 7) (d := 22) rfl cv118 (by decide)) (rfl); have zz78_6 : (M119.1 78 6).toInt = (M112.1 78 6).toInt := s_fa eM119 (s_ne (c := 7) (d := 22) rfl cv118 (by decide)) (rfl); have zr := (rfx_p (c := (s_p0 v117 3)) (rfx_F (rfx_i (rfx_r M0) eM110 (by decide)) fM112) eM119 (ev117) (by simp)); exact hret _ _ _ _ dX8_takeMark_70 ⟨1, rfl, hM119, by omega⟩
  · refine j_iload_n C 0 2 dX8_takeMark_12 rfl rfl ?_
    refine y_sipush C dX8_takeMark_13 rfl ?_
    refine y_icmp_eq C 21 dX8_takeMark_16 (by decide) (by omega) (fun h121 => ?_) (fun h121 => ?_)
    · refine j_aload_n C 1 0 dX8_takeMark_21 rfl rfl ?_
      refine j_dup C dX8_takeMark_22 rfl ?_
      refine y_getI C 7 _ _ fX8_takeMark_18 rfl rfl ft_7_2 sb_7_2 hM0 dX8_takeMark_23 (fun a122 ea122 la122 ua122 => ?_)
      refine y_iconst C dX8_takeMark_26 ?_
      refine y_iadd C dX8_takeMark_27 ?_
      refine y_putI C 7 _ _ qX8_takeMark_18 rfl rfl ft_7_2 sb_7_2 hM0 (PX.w hpr rfl rfl) dX8_takeMark_28 (by omega) (fun M124 eM124 hM124 => ?_)
      have xM124 := tkx_j (f := gf) (n := gn) (gi := gi) eM124 (by omega) (by omega) (by omega) (by omega)
      have dM124 := cs_w hM0 (c := 7) rfl eM124 (by decide)
      have gM124 := s_wr eM124 (by omega)
      have cM124 := cn_w hM0 (c := 7) rfl eM124 (by decide)
      refine j_aload_n C 1 0 dX8_takeMark_31 rfl rfl ?_
      refine y_iconst C dX8_takeMark_32 ?_
      refine y_bipush C dX8_takeMark_33 rfl ?_
      refine j_callVi C (d := 1) (As := [.int (sI 0), .int (sI 9)]) (st := []) 78 (s_lt rfl rfl) (s_kc (c := 7) rfl rfl) (by decide) rfl (s1_X8_numberWithin hM124 hpr 0 (by omega) 9 (by omega) gf gn (nxF gf gn gi) (by omega) (by omega) (by omega) (by omega)) gX8_takeMark_X8_numberWithin rfl hdX8_numberWithin (by decide) (Nat.le_of_ble_eq_true rfl) dX8_takeMark_35 rfl (fun r125 M126 h127 => ?_)
      obtain ⟨a129, rfl, hM126, fM126, h128⟩ := h127
      have bM126 := tkx_b (f := gf) (n := gn) (M := M126) (by omega)
      have qM126 := po_rr (nuP gf gn 0 9) gn (nxF gf gn gi) (M124.1 78 5).toInt (M124.1 78 6).toInt (psX M124) (M126.1 78 5).toInt (M126.1 78 6).toInt (psX M126) (nu_g gf gn 0 9) (by omega) (by omega)
      have dM126 := cs_f hM124 fM126
      have cM126 := cn_f hM124 fM126
      refine j_istore_n C 3 [(3, .int (sI a129)), (2, .int (sI a106)), (0, .ref (ad 78)), (1, .int (sI a1))] dX8_takeMark_38 rfl (by decide) rfl ?_
      refine j_iload_n C 1 2 dX8_takeMark_39 rfl rfl ?_
      refine y_sipush C dX8_takeMark_40 rfl ?_
      refine y_icmp_ne C 59 dX8_takeMark_43 (by decide) (by omega) (fun h130 => ?_) (fun h130 => ?_)
      · refine j_aload_n C 2 0 dX8_takeMark_59 rfl rfl ?_
        refine y_getM C 7 6 fX8_takeMark_28 rfl rfl ft_7_3 sm_7_3 (by decide) hM126 dX8_takeMark_60 (fun v131 ev131 cv131 => ?_)
        refine y_getTE C 6 23 fX8_takeMark_144 cv131 rfl ft_6_4 rfl sm_6_4 st_6_4 (by decide) hM126 dX8_takeMark_63 (fun cv132 => ?_)
        refine j_iload_n C 3 1 dX8_takeMark_66 rfl rfl ?_
        refine j_iload_n C 0 3 dX8_takeMark_67 rfl rfl ?_
        refine y_iastF C 23 6 cv132 rfl rfl ak_23 an_23 rfl (sb_23 _) hM126 (PX.w hpr cv132 rfl) dX8_takeMark_68 (by omega) (fun M133 eM133 hM133 => ?_)
        have xM133 := tkx_w (f := gf) (n := gn) eM133 (s_ne (c := 31) (d := 23) rfl cv132 (by decide)) (s_ne (c := 32) (d := 23) rfl cv132 (by decide)) (s_ne (c := 7) (d := 23) rfl cv132 (by decide)) (by omega)
        have qM133 := po_eq gn ((nuP gf gn 0 9) (nxF gf gn gi)).2.2 (M126.1 78 5).toInt (psX M126) (M133.1 78 5).toInt (psX M133) (by omega) (by omega) (by omega)
        have dM133 := cs_w hM126 (c := 23) cv132 eM133 (fun z => absurd z.1 (by decide))
        have gM133 : (M133.1 78 2).toInt = (M126.1 78 2).toInt := by rw [wc_x eM133 (s_ne (c := 7) (d := 23) rfl cv132 (by decide))]
        have cM133 := cn_w hM126 (c := 23) cv132 eM133 ⟨fun z => absurd z.1 (by decide), fun z => absurd z.1 (by decide), fun z => absurd z.1 (by decide)⟩
        refine y_iconst C dX8_takeMark_69 ?_
        have u134q := mk_r1 gf gn gi (M0.1 78 5).toInt (psX M0) (by omega) (by omega) (by omega)
        have u134r := mk_1 gf gn gi (M0.1 78 5).toInt (M0.1 78 6).toInt (psX M0) (M124.1 78 5).toInt (M124.1 78 6).toInt (M126.1 78 5).toInt (M126.1 78 6).toInt (psX M126) (M133.1 78 5).toInt (M133.1 78 6).toInt (psX M133) (by omega) (by omega) (by omega) (by omega) (by omega) (by omega) (by omega) (by omega)
        have u134t := mkc_2 gf gn (A := AGC) (a := (M133.1 78 5).toInt) (i := gi) (k := a1) (x := a129) (M := M0) (M2 := M126) (N := M133) (fun q T h => (agc_F fM126 q T (agc_78 eM124 q T h))) (agc_od (p := v131) (k := a1) (x := a129) (ev131) eM133 (by omega) (by omega)) (show b01 (PO gn gi (M0.1 78 5).toInt (psX M0)) = 1 by omega) (by omega) (by omega) (by omega)
        have zz78_2 : (M133.1 78 2).toInt = (M126.1 78 2).toInt := s_fa eM133 (s_ne (c := 7) (d := 23) rfl cv132 (by decide)) (rfl); have zz78_5 : (M133.1 78 5).toInt = (M126.1 78 5).toInt := s_fa eM133 (s_ne (c := 7) (d := 23) rfl cv132 (by decide)) (rfl); have zz78_6 : (M133.1 78 6).toInt = (M126.1 78 6).toInt := s_fa eM133 (s_ne (c := 7) (d := 23) rfl cv132 (by decide)) (rfl); have zr := (rfx_p (c := (s_p0 v131 4)) (rfx_F (rfx_i (rfx_r M0) eM124 (by decide)) fM126) eM133 (ev131) (by simp)); exact hret _ _ _ _ dX8_takeMark_70 ⟨1, rfl, hM133, by omega⟩
      · exfalso; omega
    · refine y_iconst C dX8_takeMark_19 ?_
      have u135q := mk_r0 gf gn gi (M0.1 78 5).toInt (psX M0) (by omega) (by omega) (by omega)
      have u135r := mk_0 gf gn gi (M0.1 78 5).toInt (M0.1 78 6).toInt (psX M0) (M0.1 78 5).toInt (M0.1 78 6).toInt (psX M0) (by omega) (by omega) (by omega) rfl rfl rfl
      have u135t := mkc_0 gf gn (A := AGC) (i := gi) (k := a1) (M := M0) (N := M0) (M0.1 78 5).toInt (fun _ _ h => h) (show b01 (PO gn gi (M0.1 78 5).toInt (psX M0)) = 1 by omega) (by omega) (by omega)
      have zr := (rfx_r M0); exact hret _ _ _ _ dX8_takeMark_20 ⟨0, rfl, hM0, by omega⟩
set_option maxHeartbeats 4000000 in
theorem s1_X8_buyerLine {l : Launch} {dC : Nat → ClassId} {dI : Nat → Nat → Nat} {ad : Nat → Nat} {cA : Nat → ClassId} {pr : Nat → Nat → Bool} {Kz : mm_M} {M0 : mm_M} (hM0 : INV pr Kz M0) (hpr : PX pr) (hq6_0 : ∀ i, s_c i = 6 → pr i 0 = false) (gf : Nat → Int) (gn : Int) (gi : Int) (hp0 : (M0.1 78 5).toInt = 0) (hp1 : tkF gf gn (psX M0) = 1009) (hp2 : b01 (TKX gf gn M0) = 1) (hp3 : b01 (PO gn gi (M0.1 78 5).toInt (psX M0)) = 1) : Cv l 3 yX8_buyerLine wsX8_buyerLine dC dI ad cA [.ref (ad 78)] M0 (fun M' => INV pr Kz M' ∧ (b01 (CK (M'.1 78 5).toInt (kiX M') (byX M') (lnX M') (kiX M0) (byX M0 + 1) (lnX M0)) = 1) ∧ (lnX M' = lnX M0) ∧ (csX M' = csX M0) ∧ ((M0.1 78 2).toInt ≤ (M'.1 78 2).toInt) ∧ (b01 (CT AGC (M'.1 78 5).toInt M0 M' (buC gf gn (byX M0) gi)) = 1) ∧ (¬ (M'.1 78 5).toInt = 0 ∨ byX M0 < 6) ∧ (b01 (TKX gf gn M') = 1) ∧ b01 (RR ((buP gf gn (byX M0)) gi) (M0.1 78 5).toInt (M0.1 78 6).toInt (M'.1 78 5).toInt (M'.1 78 6).toInt (psX M')) = 1 ∧ (b01 (RFX M0 M') = 1)) := by
  refine cv_of (cc := cX8_buyerLine) (maxL := 4) (lv := [(0, .ref (ad 78))]) (by decide) rfl (Nat.le_of_ble_eq_true rfl) rfl ?_
  intro p e s m args below meth c A Q C hret
  have u101b := tkx_b (f := gf) (n := gn) (M := M0) (by omega)
  refine j_aload_n C 0 0 dX8_buyerLine_0 rfl rfl ?_
  refine y_getM C 7 6 fX8_buyerLine_28 rfl rfl ft_7_3 sm_7_3 (by decide) hM0 dX8_buyerLine_1 (fun v102 ev102 cv102 => ?_)
  refine y_getI C 6 _ _ fX8_buyerLine_135 cv102 rfl ft_6_0 sb_6_0 hM0 dX8_buyerLine_4 (fun a103 ea103 la103 ua103 => ?_)
  have u105r := by_r (ev102)
  refine j_istore_n C 1 [(1, .int (sI a103)), (0, .ref (ad 78))] dX8_buyerLine_7 rfl (by decide) rfl ?_
  refine j_iload_n C 0 1 dX8_buyerLine_8 rfl rfl ?_
  refine y_bipush C dX8_buyerLine_9 rfl ?_
  refine y_icmp_lt C 20 dX8_buyerLine_11 (by decide) (by omega) (fun h106 => ?_) (fun h106 => ?_)
  · refine j_aload_n C 1 0 dX8_buyerLine_20 rfl rfl ?_
    refine j_dup C dX8_buyerLine_21 rfl ?_
    refine y_getI C 7 _ _ fX8_buyerLine_18 rfl rfl ft_7_2 sb_7_2 hM0 dX8_buyerLine_22 (fun a107 ea107 la107 ua107 => ?_)
    refine y_iconst C dX8_buyerLine_25 ?_
    refine y_iadd C dX8_buyerLine_26 ?_
    refine y_putI C 7 _ _ qX8_buyerLine_18 rfl rfl ft_7_2 sb_7_2 hM0 (PX.w hpr rfl rfl) dX8_buyerLine_27 (by omega) (fun M109 eM109 hM109 => ?_)
    have xM109 := tkx_j (f := gf) (n := gn) (gi := gi) eM109 (by omega) (by omega) (by omega) (by omega)
    have dM109 := cs_w hM0 (c := 7) rfl eM109 (by decide)
    have gM109 := s_wr eM109 (by omega)
    have cM109 := cn_w hM0 (c := 7) rfl eM109 (by decide)
    refine j_aload_n C 1 0 dX8_buyerLine_30 rfl rfl ?_
    refine y_sipush C dX8_buyerLine_31 rfl ?_
    refine j_callVv C (d := 1) (As := [.int (sI 1001)]) (st := []) 78 (s_lt rfl rfl) (s_kc (c := 7) rfl rfl) (by decide) rfl (s1_X8_expect hM109 hpr 1001 (by omega) gf gn (nxF gf gn gi) (by omega) (by omega) (by omega) (by omega)) gX8_buyerLine_X8_expect rfl hdX8_expect (by decide) (Nat.le_of_ble_eq_true rfl) dX8_buyerLine_34 rfl (fun M111 h112 => ?_)
    obtain ⟨hM111, fM111, h113⟩ := h112
    have bM111 := tkx_b (f := gf) (n := gn) (M := M111) (by omega)
    have qM111 := po_rr (exP gf gn 1001) gn (nxF gf gn gi) (M109.1 78 5).toInt (M109.1 78 6).toInt (psX M109) (M111.1 78 5).toInt (M111.1 78 6).toInt (psX M111) (ex_g gf gn 1001 (by omega)) (by omega) (by omega)
    have dM111 := cs_f hM109 fM111
    have cM111 := cn_f hM109 fM111
    refine j_aload_n C 1 0 dX8_buyerLine_37 rfl rfl ?_
    refine y_getV C 7 v102 fX8_buyerLine_28 rfl rfl ft_7_3 (s_pF fM111 (s_pI eM109 (ev102))) dX8_buyerLine_38 ?_
    refine y_getTE C 6 21 fX8_buyerLine_138 cv102 rfl ft_6_2 rfl sm_6_2 st_6_2 (by decide) hM111 dX8_buyerLine_41 (fun cv114 => ?_)
    refine j_iload_n C 0 1 dX8_buyerLine_44 rfl rfl ?_
    refine j_aload_n C 1 0 dX8_buyerLine_45 rfl rfl ?_
    refine y_iconst C dX8_buyerLine_46 ?_
    refine y_sipush C dX8_buyerLine_47 rfl ?_
    refine j_callVi C (d := 1) (As := [.int (sI 0), .int (sI 999)]) (st := [.int (sI a103), .ref (ad (s_p0 v102 2))]) 78 (s_lt rfl rfl) (s_kc (c := 7) rfl rfl) (by decide) rfl (s1_X8_numberWithin hM111 hpr 0 (by omega) 999 (by omega) gf gn ((exP gf gn 1001) (nxF gf gn gi)).2.2 (by omega) (by omega) (by omega) (by omega)) gX8_buyerLine_X8_numberWithin rfl hdX8_numberWithin (by decide) (Nat.le_of_ble_eq_true rfl) dX8_buyerLine_50 rfl (fun r115 M116 h117 => ?_)
    obtain ⟨a119, rfl, hM116, fM116, h118⟩ := h117
    have bM116 := tkx_b (f := gf) (n := gn) (M := M116) (by omega)
    have qM116 := po_rr (nuP gf gn 0 999) gn ((exP gf gn 1001) (nxF gf gn gi)).2.2 (M111.1 78 5).toInt (M111.1 78 6).toInt (psX M111) (M116.1 78 5).toInt (M116.1 78 6).toInt (psX M116) (nu_g gf gn 0 999) (by omega) (by omega)
    have dM116 := cs_f hM111 fM116
    have cM116 := cn_f hM111 fM116
    refine y_iastF C 21 6 cv114 rfl rfl ak_21 an_21 rfl (sb_21 _) hM116 (PX.w hpr cv114 rfl) dX8_buyerLine_53 (by omega) (fun M120 eM120 hM120 => ?_)
    have xM120 := tkx_w (f := gf) (n := gn) eM120 (s_ne (c := 31) (d := 21) rfl cv114 (by decide)) (s_ne (c := 32) (d := 21) rfl cv114 (by decide)) (s_ne (c := 7) (d := 21) rfl cv114 (by decide)) (by omega)
    have qM120 := po_eq gn ((nuP gf gn 0 999) ((exP gf gn 1001) (nxF gf gn gi)).2.2).2.2 (M116.1 78 5).toInt (psX M116) (M120.1 78 5).toInt (psX M120) (by omega) (by omega) (by omega)
    have dM120 := cs_w hM116 (c := 21) cv114 eM120 (fun z => absurd z.1 (by decide))
    have gM120 : (M120.1 78 2).toInt = (M116.1 78 2).toInt := by rw [wc_x eM120 (s_ne (c := 7) (d := 21) rfl cv114 (by decide))]
    have cM120 := cn_w hM116 (c := 21) cv114 eM120 ⟨fun z => absurd z.1 (by decide), fun z => absurd z.1 (by decide), fun z => absurd z.1 (by decide)⟩
    refine j_aload_n C 1 0 dX8_buyerLine_54 rfl rfl ?_
    refine y_getV C 7 v102 fX8_buyerLine_28 rfl rfl ft_7_3 (s_pI eM120 (s_pF fM116 (s_pF fM111 (s_pI eM109 (ev102))))) dX8_buyerLine_55 ?_
    refine y_getTE C 6 22 fX8_buyerLine_141 cv102 rfl ft_6_3 rfl sm_6_3 st_6_3 (by decide) hM120 dX8_buyerLine_58 (fun cv121 => ?_)
    refine j_iload_n C 0 1 dX8_buyerLine_61 rfl rfl ?_
    refine y_iconst C dX8_buyerLine_62 ?_
    refine y_iastF C 22 6 cv121 rfl rfl ak_22 an_22 rfl (sb_22 _) hM120 (PX.w hpr cv121 rfl) dX8_buyerLine_63 (by omega) (fun M122 eM122 hM122 => ?_)
    have xM122 := tkx_w (f := gf) (n := gn) eM122 (s_ne (c := 31) (d := 22) rfl cv121 (by decide)) (s_ne (c := 32) (d := 22) rfl cv121 (by decide)) (s_ne (c := 7) (d := 22) rfl cv121 (by decide)) (by omega)
    have qM122 := po_eq gn ((nuP gf gn 0 999) ((exP gf gn 1001) (nxF gf gn gi)).2.2).2.2 (M120.1 78 5).toInt (psX M120) (M122.1 78 5).toInt (psX M122) (by omega) (by omega) (by omega)
    have dM122 := cs_w hM120 (c := 22) cv121 eM122 (fun z => absurd z.1 (by decide))
    have gM122 : (M122.1 78 2).toInt = (M120.1 78 2).toInt := by rw [wc_x eM122 (s_ne (c := 7) (d := 22) rfl cv121 (by decide))]
    have cM122 := cn_w hM120 (c := 22) cv121 eM122 ⟨fun z => absurd z.1 (by decide), fun z => absurd z.1 (by decide), fun z => absurd z.1 (by decide)⟩
    refine j_aload_n C 1 0 dX8_buyerLine_64 rfl rfl ?_
    refine y_getV C 7 v102 fX8_buyerLine_28 rfl rfl ft_7_3 (s_pI eM122 (s_pI eM120 (s_pF fM116 (s_pF fM111 (s_pI eM109 (ev102)))))) dX8_buyerLine_65 ?_
    refine y_getTE C 6 23 fX8_buyerLine_144 cv102 rfl ft_6_4 rfl sm_6_4 st_6_4 (by decide) hM122 dX8_buyerLine_68 (fun cv123 => ?_)
    refine j_iload_n C 0 1 dX8_buyerLine_71 rfl rfl ?_
    refine y_iconst C dX8_buyerLine_72 ?_
    refine y_iastF C 23 6 cv123 rfl rfl ak_23 an_23 rfl (sb_23 _) hM122 (PX.w hpr cv123 rfl) dX8_buyerLine_73 (by omega) (fun M124 eM124 hM124 => ?_)
    have xM124 := tkx_w (f := gf) (n := gn) eM124 (s_ne (c := 31) (d := 23) rfl cv123 (by decide)) (s_ne (c := 32) (d := 23) rfl cv123 (by decide)) (s_ne (c := 7) (d := 23) rfl cv123 (by decide)) (by omega)
    have qM124 := po_eq gn ((nuP gf gn 0 999) ((exP gf gn 1001) (nxF gf gn gi)).2.2).2.2 (M122.1 78 5).toInt (psX M122) (M124.1 78 5).toInt (psX M124) (by omega) (by omega) (by omega)
    have dM124 := cs_w hM122 (c := 23) cv123 eM124 (fun z => absurd z.1 (by decide))
    have gM124 : (M124.1 78 2).toInt = (M122.1 78 2).toInt := by rw [wc_x eM124 (s_ne (c := 7) (d := 23) rfl cv123 (by decide))]
    have cM124 := cn_w hM122 (c := 23) cv123 eM124 ⟨fun z => absurd z.1 (by decide), fun z => absurd z.1 (by decide), fun z => absurd z.1 (by decide)⟩
    refine j_aload_n C 1 0 dX8_buyerLine_74 rfl rfl ?_
    refine y_getV C 7 v102 fX8_buyerLine_28 rfl rfl ft_7_3 (s_pI eM124 (s_pI eM122 (s_pI eM120 (s_pF fM116 (s_pF fM111 (s_pI eM109 (ev102))))))) dX8_buyerLine_75 ?_
    refine j_dup C dX8_buyerLine_78 rfl ?_
    refine y_getI C 6 _ _ fX8_buyerLine_135 cv102 rfl ft_6_0 sb_6_0 hM124 dX8_buyerLine_79 (fun a125 ea125 la125 ua125 => ?_)
    have qa125 : a125 = a103 := (s_fb eM109 (by decide) (s_fF fM111 (s_nin cv102 (by decide)) (s_fF fM116 (s_nin cv102 (by decide)) (s_fa eM120 (s_ne (c := 6) (d := 21) cv102 cv114 (by decide)) (s_fa eM122 (s_ne (c := 6) (d := 22) cv102 cv121 (by decide)) (s_fa eM124 (s_ne (c := 6) (d := 23) cv102 cv123 (by decide)) (ea125))))))).trans ea103.symm
    have u127r := by_r (s_pI eM124 (s_pI eM122 (s_pI eM120 (s_pF fM116 (s_pF fM111 (s_pI eM109 (ev102)))))))
    refine y_iconst C dX8_buyerLine_82 ?_
    refine y_iadd C dX8_buyerLine_83 ?_
    refine y_putI C 6 _ _ qX8_buyerLine_135 cv102 rfl ft_6_0 sb_6_0 hM124 (hq6_0 _ cv102) dX8_buyerLine_84 (by omega) (fun M128 eM128 hM128 => ?_)
    have xM128 := tkx_w (f := gf) (n := gn) eM128 (s_ne (c := 31) (d := 6) rfl cv102 (by decide)) (s_ne (c := 32) (d := 6) rfl cv102 (by decide)) (s_ne (c := 7) (d := 6) rfl cv102 (by decide)) (by omega)
    have qM128 := po_eq gn ((nuP gf gn 0 999) ((exP gf gn 1001) (nxF gf gn gi)).2.2).2.2 (M124.1 78 5).toInt (psX M124) (M128.1 78 5).toInt (psX M128) (by omega) (by omega) (by omega)
    have dM128 := cs_w hM124 (c := 6) cv102 eM128 (by decide)
    have gM128 : (M128.1 78 2).toInt = (M124.1 78 2).toInt := by rw [wc_x eM128 (s_ne (c := 7) (d := 6) rfl cv102 (by decide))]
    have cM128 := cn_b hM124 (s_pI eM124 (s_pI eM122 (s_pI eM120 (s_pF fM116 (s_pF fM111 (s_pI eM109 (ev102))))))) eM128 (by omega)
    refine y_iconst C dX8_buyerLine_87 ?_
    refine j_istore_n C 2 [(2, .int (sI 1)), (1, .int (sI a103)), (0, .ref (ad 78))] dX8_buyerLine_88 rfl (by decide) rfl ?_
    refine y_iconst C dX8_buyerLine_89 ?_
    have u129l := lk_0 (luP gf gn 1002 1013 (nuP gf gn 0 9)) gn ((nuP gf gn 0 999) ((exP gf gn 1001) (nxF gf gn gi)).2.2).2.2 (M128.1 78 5).toInt (M128.1 78 6).toInt (psX M128) (by omega)
    have u129t := ltc_0 (A := AGC) (M128.1 78 5).toInt (mkT gf gn a103) ((nuP gf gn 0 999) ((exP gf gn 1001) (nxF gf gn gi)).2.2).2.2 M128
    refine j_istore_n C 3 [(3, .int (sI 0)), (2, .int (sI 1)), (1, .int (sI a103)), (0, .ref (ad 78))] dX8_buyerLine_90 rfl (by decide) rfl ?_
    have L148 : ∀ (n146 : Nat), ∀ (a149 : Int) (a150 : Int) (M151 : mm_M) (gq152 : Int), (0 ≤ a149 ∧ a149 ≤ 1 ∧ 0 ≤ a150 ∧ a150 ≤ 900 ∧ (b01 (LK (luP gf gn 1002 1013 (nuP gf gn 0 9)) gn ((nuP gf gn 0 999) ((exP gf gn 1001) (nxF gf gn gi)).2.2).2.2 gq152 a150 a149 (M128.1 78 5).toInt (M128.1 78 6).toInt (M151.1 78 5).toInt (M151.1 78 6).toInt (psX M151)) = 1) ∧ (kiX M151 = kiX M128 ∧ byX M151 = byX M128 ∧ lnX M151 = lnX M128) ∧ (b01 (LTW AGC (M151.1 78 5).toInt (mkT gf gn a103) ((nuP gf gn 0 999) ((exP gf gn 1001) (nxF gf gn gi)).2.2).2.2 gq152 a149 M128 M151) = 1) ∧ (csX M151 = csX M128) ∧ ((M128.1 78 2).toInt ≤ (M151.1 78 2).toInt) ∧ (b01 (TKX gf gn M151) = 1) ∧ (b01 (PO gn gq152 (M151.1 78 5).toInt (psX M151)) = 1) ∧ (b01 (RFX M0 M151) = 1) ∧ (900 - a150) < (n146 : Int)) → INV pr Kz M151 → jj p l e (cn_R 3) s m args below meth c 0 0 Q 4 dC dI ad cA A M151 91 [(0, .ref (ad 78)), (1, .int (sI a103)), (2, .int (sI a149)), (3, .int (sI a150))] [] := by
      intro n146
      induction n146 with
      | zero =>
        intro a149 a150 M151 gq152 h153 hM151
        exfalso; omega
      | succ n146 ih147 =>
        intro a149 a150 M151 gq152 h153 hM151
        have u154b := tkx_b (f := gf) (n := gn) (M := M151) (by omega)
        refine j_iload_n C 3 3 dX8_buyerLine_91 rfl rfl ?_
        refine y_sipush C dX8_buyerLine_92 rfl ?_
        refine y_icmp_ge C 121 dX8_buyerLine_95 (by decide) (by omega) (fun h155 => ?_) (fun h155 => ?_)
        · have u166e := lk_e gn (luP gf gn 1002 1013 (nuP gf gn 0 9)) (mkP gf gn) (mkQ gf gn) (mk_q gf gn) ((nuP gf gn 0 999) ((exP gf gn 1001) (nxF gf gn gi)).2.2).2.2 gq152 a150 a149 (M128.1 78 5).toInt (M128.1 78 6).toInt (M151.1 78 5).toInt (M151.1 78 6).toInt (psX M151) (by omega) (by omega)
          have u166r := bu_2 gf gn (byX M0) gi (M0.1 78 5).toInt (M0.1 78 6).toInt (M109.1 78 5).toInt (M109.1 78 6).toInt (M111.1 78 5).toInt (M111.1 78 6).toInt (psX M111) (M111.1 78 5).toInt (M111.1 78 6).toInt (M116.1 78 5).toInt (M116.1 78 6).toInt (psX M116) (M128.1 78 5).toInt (M128.1 78 6).toInt (M151.1 78 5).toInt (M151.1 78 6).toInt (psX M151) (by omega) (by omega) (by omega) (by omega) rfl rfl (by omega) (by omega) (by omega) (by omega)
          have u166c := ck_i (M151.1 78 5).toInt (kiX M151) (byX M151) (lnX M151) (kiX M0) (byX M0 + 1) (lnX M0) (by (clear u166r u166e h155 u154b hM151 ih147 u129t u129l gM128 dM128 qM128 xM128 hM128 eM128 u127r ua125 la125 ea125 gM124 dM124 qM124 xM124 hM124 eM124 cv123 gM122 dM122 qM122 xM122 hM122 eM122 cv121 gM120 dM120 qM120 xM120 hM120 eM120 dM116 qM116 bM116 h118 fM116 hM116 cv114 dM111 qM111 bM111 h113 fM111 hM111 gM109 dM109 xM109 hM109 eM109 ua107 la107 ea107 h106 ua103 la103 cv102 ev102 u101b hret C hp3 hp2 hp1 hp0 hq6_0 hpr hM0; omega))
          have u166k := by_r (M := M116) (v := v102) (s_pF fM116 (s_pF fM111 (s_pI eM109 (ev102))))
          have u166B : b01 (CT AGC (M128.1 78 5).toInt M0 M128 (buB gf gn a103 ((exP gf gn 1001 (nxF gf gn gi)).2.2))) = 1 := bub_x gf gn (x := a119) (fun q T h => (agc_F fM116 q T (agc_F fM111 q T (agc_78 eM109 q T h)))) (agc_bu (p := v102) (k := a103) (x := a119) (y := (a125 + 1)) (z := 0) (z1 := 1) (s_pF fM116 (s_pF fM111 (s_pI eM109 (ev102)))) eM120 eM122 eM124 eM128 (by (clear u166c u166r u166e h155 u154b hM151 h153 ih147 u129t u129l cM128 gM128 dM128 qM128 xM128 hM128 eM128 u127r ua125 la125 ea125 cM124 gM124 dM124 qM124 xM124 hM124 eM124 cv123 cM122 gM122 dM122 qM122 xM122 hM122 eM122 cv121 cM120 gM120 dM120 qM120 xM120 hM120 eM120 dM116 qM116 bM116 h118 fM116 hM116 cv114 dM111 qM111 bM111 h113 fM111 hM111 gM109 dM109 xM109 hM109 eM109 ua107 la107 ea107 ua103 cv102 ev102 u101b hret C hp3 hp2 hp1 hp0 hq6_0 hpr hM0; omega)) (by omega)) (by omega)
          have u166E := ltc_e gn (mk_t gf gn a103) (show b01 (LTW AGC (M151.1 78 5).toInt (mkT gf gn a103) ((nuP gf gn 0 999) ((exP gf gn 1001) (nxF gf gn gi)).2.2).2.2 gq152 a149 M128 M151) = 1 by omega) (show b01 (LK (luP gf gn 1002 1013 (nuP gf gn 0 9)) gn ((nuP gf gn 0 999) ((exP gf gn 1001) (nxF gf gn gi)).2.2).2.2 gq152 a150 a149 (M128.1 78 5).toInt (M128.1 78 6).toInt (M151.1 78 5).toInt (M151.1 78 6).toInt (psX M151)) = 1 by omega) (by omega)
          have u166t : b01 (CT AGC (M151.1 78 5).toInt M0 M151 (buC gf gn (byX M0) gi)) = 1 := ct_e (ct_t u166B u166E (fun z => lk_z (show b01 (LK (luP gf gn 1002 1013 (nuP gf gn 0 9)) gn ((nuP gf gn 0 999) ((exP gf gn 1001) (nxF gf gn gi)).2.2).2.2 gq152 a150 a149 (M128.1 78 5).toInt (M128.1 78 6).toInt (M151.1 78 5).toInt (M151.1 78 6).toInt (psX M151)) = 1 by omega) z)) (fun z T => by rw [show byX M0 = a103 by omega]; rfl)
          have zr := (show b01 (RFX M0 M151) = 1 by omega); exact hret _ _ _ dX8_buyerLine_121 ⟨hM151, by (clear zr u166E u166B u166k u166e h155 u154b hM151 ih147 u129t u129l qM128 xM128 hM128 eM128 u127r qa125 ua125 la125 ea125 qM124 xM124 hM124 eM124 cv123 qM122 xM122 hM122 eM122 cv121 qM120 xM120 hM120 eM120 qM116 bM116 fM116 hM116 cv114 qM111 bM111 fM111 hM111 xM109 hM109 eM109 ua107 la107 ua103 la103 cv102 ev102 u101b hret C hp3 hp2 hp1 hp0 hq6_0 hpr hM0; omega)⟩
        · refine j_iload_n C 2 2 dX8_buyerLine_98 rfl rfl ?_
          refine y_if_eq C 121 dX8_buyerLine_99 (by decide) (by omega) (fun h156 => ?_) (fun h156 => ?_)
          · have u167e := lk_e gn (luP gf gn 1002 1013 (nuP gf gn 0 9)) (mkP gf gn) (mkQ gf gn) (mk_q gf gn) ((nuP gf gn 0 999) ((exP gf gn 1001) (nxF gf gn gi)).2.2).2.2 gq152 a150 a149 (M128.1 78 5).toInt (M128.1 78 6).toInt (M151.1 78 5).toInt (M151.1 78 6).toInt (psX M151) (by omega) (by omega)
            have u167r := bu_2 gf gn (byX M0) gi (M0.1 78 5).toInt (M0.1 78 6).toInt (M109.1 78 5).toInt (M109.1 78 6).toInt (M111.1 78 5).toInt (M111.1 78 6).toInt (psX M111) (M111.1 78 5).toInt (M111.1 78 6).toInt (M116.1 78 5).toInt (M116.1 78 6).toInt (psX M116) (M128.1 78 5).toInt (M128.1 78 6).toInt (M151.1 78 5).toInt (M151.1 78 6).toInt (psX M151) (by omega) (by omega) (by omega) (by omega) rfl rfl (by omega) (by omega) (by omega) (by omega)
            have u167c := ck_i (M151.1 78 5).toInt (kiX M151) (byX M151) (lnX M151) (kiX M0) (byX M0 + 1) (lnX M0) (by omega)
            have u167k := by_r (M := M116) (v := v102) (s_pF fM116 (s_pF fM111 (s_pI eM109 (ev102))))
            have u167B : b01 (CT AGC (M128.1 78 5).toInt M0 M128 (buB gf gn a103 ((exP gf gn 1001 (nxF gf gn gi)).2.2))) = 1 := bub_x gf gn (x := a119) (fun q T h => (agc_F fM116 q T (agc_F fM111 q T (agc_78 eM109 q T h)))) (agc_bu (p := v102) (k := a103) (x := a119) (y := (a125 + 1)) (z := 0) (z1 := 1) (s_pF fM116 (s_pF fM111 (s_pI eM109 (ev102)))) eM120 eM122 eM124 eM128 (by omega) (by omega)) (by omega)
            have u167E := ltc_e gn (mk_t gf gn a103) (show b01 (LTW AGC (M151.1 78 5).toInt (mkT gf gn a103) ((nuP gf gn 0 999) ((exP gf gn 1001) (nxF gf gn gi)).2.2).2.2 gq152 a149 M128 M151) = 1 by omega) (show b01 (LK (luP gf gn 1002 1013 (nuP gf gn 0 9)) gn ((nuP gf gn 0 999) ((exP gf gn 1001) (nxF gf gn gi)).2.2).2.2 gq152 a150 a149 (M128.1 78 5).toInt (M128.1 78 6).toInt (M151.1 78 5).toInt (M151.1 78 6).toInt (psX M151)) = 1 by omega) (by omega)
            have u167t : b01 (CT AGC (M151.1 78 5).toInt M0 M151 (buC gf gn (byX M0) gi)) = 1 := ct_e (ct_t u167B u167E (fun z => lk_z (show b01 (LK (luP gf gn 1002 1013 (nuP gf gn 0 9)) gn ((nuP gf gn 0 999) ((exP gf gn 1001) (nxF gf gn gi)).2.2).2.2 gq152 a150 a149 (M128.1 78 5).toInt (M128.1 78 6).toInt (M151.1 78 5).toInt (M151.1 78 6).toInt (psX M151)) = 1 by omega) z)) (fun z T => by rw [show byX M0 = a103 by omega]; rfl)
            have zr := (show b01 (RFX M0 M151) = 1 by omega); exact hret _ _ _ dX8_buyerLine_121 ⟨hM151, by omega⟩
          · refine j_aload_n C 0 0 dX8_buyerLine_102 rfl rfl ?_
            refine y_getI C 7 _ _ fX8_buyerLine_22 rfl rfl ft_7_5 sb_7_5 hM151 dX8_buyerLine_103 (fun a157 ea157 la157 ua157 => ?_)
            refine y_if_ne C 121 dX8_buyerLine_106 (by decide) (by omega) (fun h159 => ?_) (fun h159 => ?_)
            · have u168e := lk_e gn (luP gf gn 1002 1013 (nuP gf gn 0 9)) (mkP gf gn) (mkQ gf gn) (mk_q gf gn) ((nuP gf gn 0 999) ((exP gf gn 1001) (nxF gf gn gi)).2.2).2.2 gq152 a150 a149 (M128.1 78 5).toInt (M128.1 78 6).toInt (M151.1 78 5).toInt (M151.1 78 6).toInt (psX M151) (by omega) (by omega)
              have u168r := bu_2 gf gn (byX M0) gi (M0.1 78 5).toInt (M0.1 78 6).toInt (M109.1 78 5).toInt (M109.1 78 6).toInt (M111.1 78 5).toInt (M111.1 78 6).toInt (psX M111) (M111.1 78 5).toInt (M111.1 78 6).toInt (M116.1 78 5).toInt (M116.1 78 6).toInt (psX M116) (M128.1 78 5).toInt (M128.1 78 6).toInt (M151.1 78 5).toInt (M151.1 78 6).toInt (psX M151) (by omega) (by omega) (by omega) (by omega) rfl rfl (by omega) (by omega) (by omega) (by omega)
              have u168c := ck_i (M151.1 78 5).toInt (kiX M151) (byX M151) (lnX M151) (kiX M0) (byX M0 + 1) (lnX M0) (by (clear u168r u168e h159 ua157 la157 ea157 h156 h155 u154b hM151 ih147 u129t u129l gM128 dM128 qM128 xM128 hM128 eM128 u127r ua125 la125 ea125 gM124 dM124 qM124 xM124 hM124 eM124 cv123 gM122 dM122 qM122 xM122 hM122 eM122 cv121 gM120 dM120 qM120 xM120 hM120 eM120 dM116 qM116 bM116 h118 fM116 hM116 cv114 dM111 qM111 bM111 h113 fM111 hM111 gM109 dM109 xM109 hM109 eM109 ua107 la107 ea107 h106 ua103 la103 cv102 ev102 u101b hret C hp3 hp2 hp1 hp0 hq6_0 hpr hM0; omega))
              have u168k := by_r (M := M116) (v := v102) (s_pF fM116 (s_pF fM111 (s_pI eM109 (ev102))))
              have u168B : b01 (CT AGC (M128.1 78 5).toInt M0 M128 (buB gf gn a103 ((exP gf gn 1001 (nxF gf gn gi)).2.2))) = 1 := bub_x gf gn (x := a119) (fun q T h => (agc_F fM116 q T (agc_F fM111 q T (agc_78 eM109 q T h)))) (agc_bu (p := v102) (k := a103) (x := a119) (y := (a125 + 1)) (z := 0) (z1 := 1) (s_pF fM116 (s_pF fM111 (s_pI eM109 (ev102)))) eM120 eM122 eM124 eM128 (by (clear u168c u168r u168e h159 ua157 la157 ea157 h156 h155 u154b hM151 h153 ih147 u129t u129l cM128 gM128 dM128 qM128 xM128 hM128 eM128 u127r ua125 la125 ea125 cM124 gM124 dM124 qM124 xM124 hM124 eM124 cv123 cM122 gM122 dM122 qM122 xM122 hM122 eM122 cv121 cM120 gM120 dM120 qM120 xM120 hM120 eM120 dM116 qM116 bM116 h118 fM116 hM116 cv114 dM111 qM111 bM111 h113 fM111 hM111 gM109 dM109 xM109 hM109 eM109 ua107 la107 ea107 ua103 cv102 ev102 u101b hret C hp3 hp2 hp1 hp0 hq6_0 hpr hM0; omega)) (by omega)) (by omega)
              have u168E := ltc_e gn (mk_t gf gn a103) (show b01 (LTW AGC (M151.1 78 5).toInt (mkT gf gn a103) ((nuP gf gn 0 999) ((exP gf gn 1001) (nxF gf gn gi)).2.2).2.2 gq152 a149 M128 M151) = 1 by omega) (show b01 (LK (luP gf gn 1002 1013 (nuP gf gn 0 9)) gn ((nuP gf gn 0 999) ((exP gf gn 1001) (nxF gf gn gi)).2.2).2.2 gq152 a150 a149 (M128.1 78 5).toInt (M128.1 78 6).toInt (M151.1 78 5).toInt (M151.1 78 6).toInt (psX M151)) = 1 by omega) (by omega)
              have u168t : b01 (CT AGC (M151.1 78 5).toInt M0 M151 (buC gf gn (byX M0) gi)) = 1 := ct_e (ct_t u168B u168E (fun z => lk_z (show b01 (LK (luP gf gn 1002 1013 (nuP gf gn 0 9)) gn ((nuP gf gn 0 999) ((exP gf gn 1001) (nxF gf gn gi)).2.2).2.2 gq152 a150 a149 (M128.1 78 5).toInt (M128.1 78 6).toInt (M151.1 78 5).toInt (M151.1 78 6).toInt (psX M151)) = 1 by omega) z)) (fun z T => by rw [show byX M0 = a103 by omega]; rfl)
              have zr := (show b01 (RFX M0 M151) = 1 by omega); exact hret _ _ _ dX8_buyerLine_121 ⟨hM151, by (clear zr u168E u168B u168k u168e h159 ua157 la157 ea157 h156 h155 u154b hM151 ih147 u129t u129l qM128 xM128 hM128 eM128 u127r qa125 ua125 la125 ea125 qM124 xM124 hM124 eM124 cv123 qM122 xM122 hM122 eM122 cv121 qM120 xM120 hM120 eM120 qM116 bM116 fM116 hM116 cv114 qM111 bM111 fM111 hM111 xM109 hM109 eM109 ua107 la107 ua103 la103 cv102 ev102 u101b hret C hp3 hp2 hp1 hp0 hq6_0 hpr hM0; omega)⟩
            · refine j_aload_n C 0 0 dX8_buyerLine_109 rfl rfl ?_
              refine j_iload_n C 1 1 dX8_buyerLine_110 rfl rfl ?_
              refine j_callVi C (d := 2) (As := [.int (sI a103)]) (st := []) 78 (s_lt rfl rfl) (s_kc (c := 7) rfl rfl) (by decide) rfl (s1_X8_takeMark hM151 hpr a103 (by omega) gf gn gq152 (by omega) (by omega) (by omega) (by omega)) gX8_buyerLine_X8_takeMark rfl hdX8_takeMark (by decide) (Nat.le_of_ble_eq_true rfl) dX8_buyerLine_111 rfl (fun r160 M161 h162 => ?_)
              obtain ⟨a164, rfl, hM161, h163⟩ := h162
              have bM161 := tkx_b (f := gf) (n := gn) (M := M161) (by omega)
              have qM161 := po_rh (mkP gf gn) gn gq152 (M151.1 78 5).toInt (M151.1 78 6).toInt (psX M151) (M161.1 78 5).toInt (M161.1 78 6).toInt (psX M161) (mk_h gf gn) (by omega) (by omega)
              refine j_istore_n C 2 [(2, .int (sI a164)), (0, .ref (ad 78)), (1, .int (sI a103)), (3, .int (sI a150))] dX8_buyerLine_114 rfl (by decide) rfl ?_
              refine y_iinc C 3 [(3, .int (sI (a150 + 1))), (2, .int (sI a164)), (0, .ref (ad 78)), (1, .int (sI a103))] dX8_buyerLine_115 rfl (by decide) rfl ?_
              have u165s := lk_s gn (luP gf gn 1002 1013 (nuP gf gn 0 9)) (mkP gf gn) (mkQ gf gn) (mk_q gf gn) ((nuP gf gn 0 999) ((exP gf gn 1001) (nxF gf gn gi)).2.2).2.2 gq152 a150 a149 (M128.1 78 5).toInt (M128.1 78 6).toInt (M151.1 78 5).toInt (M151.1 78 6).toInt (psX M151) (M161.1 78 5).toInt (M161.1 78 6).toInt (psX M161) (M161.1 78 5).toInt (M161.1 78 6).toInt (psX M161) a164 (by omega) (by omega) (by omega) (by omega) (by omega) rfl rfl rfl
              have u165t := ltc_s gn (mk_t gf gn a103) (show b01 (LTW AGC (M151.1 78 5).toInt (mkT gf gn a103) ((nuP gf gn 0 999) ((exP gf gn 1001) (nxF gf gn gi)).2.2).2.2 gq152 a149 M128 M151) = 1 by omega) (show b01 (PO gn gq152 (M151.1 78 5).toInt (psX M151)) = 1 by omega) (by omega) (show b01 (RR ((mkP gf gn) gq152) (M151.1 78 5).toInt (M151.1 78 6).toInt (M161.1 78 5).toInt (M161.1 78 6).toInt (psX M161)) = 1 by omega) (show a164 = b01 ((mkQ gf gn) gq152) by omega) (show b01 (CT AGC (M161.1 78 5).toInt M151 M161 (mkC gf gn a103 gq152)) = 1 by omega)
              refine j_goto C 91 dX8_buyerLine_118 (by decide) ?_
              have zr := (rfx_t (show b01 (RFX M0 M151) = 1 by omega) (show b01 (RFX M151 M161) = 1 by omega)); refine j_lv [2, 3, 1, 0] rfl ?_; exact ih147 a164 (a150 + 1) M161 ((mkP gf gn) gq152).2.2 (by (clear bM161 hM161 h159 ua157 la157 ea157 h156 u154b hM151 ih147 u129t u129l cM128 gM128 dM128 qM128 xM128 hM128 eM128 u127r qa125 ua125 la125 ea125 cM124 gM124 dM124 qM124 xM124 hM124 eM124 cv123 cM122 gM122 dM122 qM122 xM122 hM122 eM122 cv121 cM120 gM120 dM120 qM120 xM120 hM120 eM120 cM116 dM116 qM116 bM116 h118 fM116 hM116 cv114 cM111 dM111 qM111 bM111 h113 fM111 hM111 cM109 gM109 dM109 xM109 hM109 eM109 ua107 la107 ea107 h106 u105r ua103 la103 ea103 cv102 ev102 u101b hret C hp3 hp2 hp1 hp0 hq6_0 hpr hM0; omega)) hM161
    have zr := (rfx_p (c := v102) (rfx_p (c := (s_p0 v102 4)) (rfx_p (c := (s_p0 v102 3)) (rfx_p (c := (s_p0 v102 2)) (rfx_F (rfx_F (rfx_i (rfx_r M0) eM109 (by decide)) fM111) fM116) eM120 (s_pF fM116 (s_pF fM111 (s_pI eM109 (ev102)))) (by simp)) eM122 (s_pI eM120 (s_pF fM116 (s_pF fM111 (s_pI eM109 (ev102))))) (by simp)) eM124 (s_pI eM122 (s_pI eM120 (s_pF fM116 (s_pF fM111 (s_pI eM109 (ev102)))))) (by simp)) eM128 (s_pI eM124 (s_pI eM122 (s_pI eM120 (s_pF fM116 (s_pF fM111 (s_pI eM109 (ev102))))))) (by simp)); refine j_lv [3, 2, 1, 0] rfl ?_; exact L148 2010 1 0 M128 ((nuP gf gn 0 999) ((exP gf gn 1001) (nxF gf gn gi)).2.2).2.2 (by omega) hM128
  · refine j_aload_n C 1 0 dX8_buyerLine_14 rfl rfl ?_
    refine y_iconst C dX8_buyerLine_15 ?_
    refine j_callVv C (d := 0) (As := [.int (sI 4)]) (st := []) 78 (s_lt rfl rfl) (s_kc (c := 7) rfl rfl) (by decide) rfl (s1_X8_fail hM0 hpr 4 (by omega) gf gn gi (by omega) (by omega) (by omega)) gX8_buyerLine_X8_fail rfl hdX8_fail (by decide) (Nat.le_of_ble_eq_true rfl) dX8_buyerLine_16 rfl (fun M170 h171 => ?_)
    obtain ⟨hM170, fM170, h172⟩ := h171
    have bM170 := tkx_b (f := gf) (n := gn) (M := M170) (by omega)
    have qM170 := po_f gn ((faQ gf gn 4) gi).2.2 (M170.1 78 5).toInt (psX M170) (by omega)
    have dM170 := cs_f hM0 fM170
    have cM170 := cn_f hM0 fM170
    have u173r := bu_1 gf gn (byX M0) gi (M0.1 78 5).toInt (M0.1 78 6).toInt (M170.1 78 5).toInt (M170.1 78 6).toInt (psX M170) (by omega) (by omega)
    have u173c := ck_i (M170.1 78 5).toInt (kiX M170) (byX M170) (lnX M170) (kiX M0) (byX M0 + 1) (lnX M0) (by omega)
    have u173t := ct_n (A := AGC) (M := M0) (N := M170) (buC gf gn (byX M0) gi) (a := (M170.1 78 5).toInt) (by omega)
    have zr := (rfx_F (rfx_r M0) fM170); exact hret _ _ _ dX8_buyerLine_19 ⟨hM170, by omega⟩
set_option maxHeartbeats 4000000 in
theorem s1_X8_goDeeper {l : Launch} {dC : Nat → ClassId} {dI : Nat → Nat → Nat} {ad : Nat → Nat} {cA : Nat → ClassId} {pr : Nat → Nat → Bool} {Kz : mm_M} {M0 : mm_M} (hM0 : INV pr Kz M0) (hpr : PX pr) (gf : Nat → Int) (gn : Int) (gi : Int) (hp0 : ¬ tkF gf gn (psX M0) = 3000) (hp1 : ¬ tkF gf gn (psX M0) = 3001) (hp2 : (M0.1 78 5).toInt = 0) (hp3 : b01 (TKX gf gn M0) = 1) (hp4 : b01 (PO gn gi (M0.1 78 5).toInt (psX M0)) = 1) : Cv l 0 yX8_goDeeper wsX8_goDeeper dC dI ad cA [.ref (ad 78), .int (sI 0)] M0 (fun M' => INV pr Kz M' ∧ FR [78] M0 M' ∧ ((M'.1 78 5).toInt = (M0.1 78 5).toInt ∧ (M'.1 78 6).toInt = (M0.1 78 6).toInt) ∧ (b01 (PO gn (nxF gf gn gi) (M'.1 78 5).toInt (psX M')) = 1) ∧ ((M'.1 78 2).toInt = (M0.1 78 2).toInt + 1) ∧ (b01 (TKX gf gn M') = 1) ∧ (b01 (RFX M0 M') = 1)) := by
  refine cv_of (cc := cX8_goDeeper) (maxL := 2) (lv := [(0, .ref (ad 78)), (1, .int (sI 0))]) (by decide) rfl (Nat.le_of_ble_eq_true rfl) rfl ?_
  intro p e s m args below meth c A Q C hret
  have u101b := tkx_b (f := gf) (n := gn) (M := M0) (by omega)
  refine j_iload_n C 1 1 dX8_goDeeper_0 rfl rfl ?_
  refine y_bipush C dX8_goDeeper_1 rfl ?_
  refine y_icmp_lt C 14 dX8_goDeeper_3 (by decide) (by omega) (fun h102 => ?_) (fun h102 => ?_)
  · refine j_aload_n C 0 0 dX8_goDeeper_14 rfl rfl ?_
    refine j_dup C dX8_goDeeper_15 rfl ?_
    refine y_getI C 7 _ _ fX8_goDeeper_18 rfl rfl ft_7_2 sb_7_2 hM0 dX8_goDeeper_16 (fun a103 ea103 la103 ua103 => ?_)
    refine y_iconst C dX8_goDeeper_19 ?_
    refine y_iadd C dX8_goDeeper_20 ?_
    refine y_putI C 7 _ _ qX8_goDeeper_18 rfl rfl ft_7_2 sb_7_2 hM0 (PX.w hpr rfl rfl) dX8_goDeeper_21 (by omega) (fun M105 eM105 hM105 => ?_)
    have xM105 := tkx_j (f := gf) (n := gn) (gi := gi) eM105 (by omega) (by omega) (by omega) (by omega)
    have dM105 := cs_w hM0 (c := 7) rfl eM105 (by decide)
    have gM105 := s_wr eM105 (by omega)
    have zz78_2 := (Eq.trans (rfl : (M105.1 78 2).toInt = (M105.1 78 2).toInt) (s_wr eM105 (by omega))); have zz78_5 : (M105.1 78 5).toInt = (M0.1 78 5).toInt := s_fb eM105 (by decide) (rfl); have zz78_6 : (M105.1 78 6).toInt = (M0.1 78 6).toInt := s_fb eM105 (by decide) (rfl); have zr := (rfx_i (rfx_r M0) eM105 (by decide)); exact hret _ _ _ dX8_goDeeper_24 ⟨hM105, (FR.rf.wI eM105 (by decide)), by omega⟩
  · exfalso; omega
set_option maxHeartbeats 4000000 in
theorem s2_X8_goDeeper {l : Launch} {dC : Nat → ClassId} {dI : Nat → Nat → Nat} {ad : Nat → Nat} {cA : Nat → ClassId} {pr : Nat → Nat → Bool} {Kz : mm_M} {M0 : mm_M} (hM0 : INV pr Kz M0) (hpr : PX pr) (gf : Nat → Int) (gn : Int) (gi : Int) (hp0 : ¬ tkF gf gn (psX M0) = 3000) (hp1 : ¬ tkF gf gn (psX M0) = 3001) (hp2 : (M0.1 78 5).toInt = 0) (hp3 : b01 (TKX gf gn M0) = 1) (hp4 : b01 (PO gn gi (M0.1 78 5).toInt (psX M0)) = 1) : Cv l 0 yX8_goDeeper wsX8_goDeeper dC dI ad cA [.ref (ad 78), .int (sI 1)] M0 (fun M' => INV pr Kz M' ∧ FR [78] M0 M' ∧ ((M'.1 78 5).toInt = (M0.1 78 5).toInt ∧ (M'.1 78 6).toInt = (M0.1 78 6).toInt) ∧ (b01 (PO gn (nxF gf gn gi) (M'.1 78 5).toInt (psX M')) = 1) ∧ ((M'.1 78 2).toInt = (M0.1 78 2).toInt + 1) ∧ (b01 (TKX gf gn M') = 1) ∧ (b01 (RFX M0 M') = 1)) := by
  refine cv_of (cc := cX8_goDeeper) (maxL := 2) (lv := [(0, .ref (ad 78)), (1, .int (sI 1))]) (by decide) rfl (Nat.le_of_ble_eq_true rfl) rfl ?_
  intro p e s m args below meth c A Q C hret
  have u101b := tkx_b (f := gf) (n := gn) (M := M0) (by omega)
  refine j_iload_n C 1 1 dX8_goDeeper_0 rfl rfl ?_
  refine y_bipush C dX8_goDeeper_1 rfl ?_
  refine y_icmp_lt C 14 dX8_goDeeper_3 (by decide) (by omega) (fun h102 => ?_) (fun h102 => ?_)
  · refine j_aload_n C 0 0 dX8_goDeeper_14 rfl rfl ?_
    refine j_dup C dX8_goDeeper_15 rfl ?_
    refine y_getI C 7 _ _ fX8_goDeeper_18 rfl rfl ft_7_2 sb_7_2 hM0 dX8_goDeeper_16 (fun a103 ea103 la103 ua103 => ?_)
    refine y_iconst C dX8_goDeeper_19 ?_
    refine y_iadd C dX8_goDeeper_20 ?_
    refine y_putI C 7 _ _ qX8_goDeeper_18 rfl rfl ft_7_2 sb_7_2 hM0 (PX.w hpr rfl rfl) dX8_goDeeper_21 (by omega) (fun M105 eM105 hM105 => ?_)
    have xM105 := tkx_j (f := gf) (n := gn) (gi := gi) eM105 (by omega) (by omega) (by omega) (by omega)
    have dM105 := cs_w hM0 (c := 7) rfl eM105 (by decide)
    have gM105 := s_wr eM105 (by omega)
    have zz78_2 := (Eq.trans (rfl : (M105.1 78 2).toInt = (M105.1 78 2).toInt) (s_wr eM105 (by omega))); have zz78_5 : (M105.1 78 5).toInt = (M0.1 78 5).toInt := s_fb eM105 (by decide) (rfl); have zz78_6 : (M105.1 78 6).toInt = (M0.1 78 6).toInt := s_fb eM105 (by decide) (rfl); have zr := (rfx_i (rfx_r M0) eM105 (by decide)); exact hret _ _ _ dX8_goDeeper_24 ⟨hM105, (FR.rf.wI eM105 (by decide)), by omega⟩
  · exfalso; omega
set_option maxHeartbeats 4000000 in
theorem s3_X8_goDeeper {l : Launch} {dC : Nat → ClassId} {dI : Nat → Nat → Nat} {ad : Nat → Nat} {cA : Nat → ClassId} {pr : Nat → Nat → Bool} {Kz : mm_M} {M0 : mm_M} (hM0 : INV pr Kz M0) (hpr : PX pr) (gf : Nat → Int) (gn : Int) (gi : Int) (hp0 : ¬ tkF gf gn (psX M0) = 3000) (hp1 : ¬ tkF gf gn (psX M0) = 3001) (hp2 : (M0.1 78 5).toInt = 0) (hp3 : b01 (TKX gf gn M0) = 1) (hp4 : b01 (PO gn gi (M0.1 78 5).toInt (psX M0)) = 1) : Cv l 0 yX8_goDeeper wsX8_goDeeper dC dI ad cA [.ref (ad 78), .int (sI 2)] M0 (fun M' => INV pr Kz M' ∧ FR [78] M0 M' ∧ ((M'.1 78 5).toInt = (M0.1 78 5).toInt ∧ (M'.1 78 6).toInt = (M0.1 78 6).toInt) ∧ (b01 (PO gn (nxF gf gn gi) (M'.1 78 5).toInt (psX M')) = 1) ∧ ((M'.1 78 2).toInt = (M0.1 78 2).toInt + 1) ∧ (b01 (TKX gf gn M') = 1) ∧ (b01 (RFX M0 M') = 1)) := by
  refine cv_of (cc := cX8_goDeeper) (maxL := 2) (lv := [(0, .ref (ad 78)), (1, .int (sI 2))]) (by decide) rfl (Nat.le_of_ble_eq_true rfl) rfl ?_
  intro p e s m args below meth c A Q C hret
  have u101b := tkx_b (f := gf) (n := gn) (M := M0) (by omega)
  refine j_iload_n C 1 1 dX8_goDeeper_0 rfl rfl ?_
  refine y_bipush C dX8_goDeeper_1 rfl ?_
  refine y_icmp_lt C 14 dX8_goDeeper_3 (by decide) (by omega) (fun h102 => ?_) (fun h102 => ?_)
  · refine j_aload_n C 0 0 dX8_goDeeper_14 rfl rfl ?_
    refine j_dup C dX8_goDeeper_15 rfl ?_
    refine y_getI C 7 _ _ fX8_goDeeper_18 rfl rfl ft_7_2 sb_7_2 hM0 dX8_goDeeper_16 (fun a103 ea103 la103 ua103 => ?_)
    refine y_iconst C dX8_goDeeper_19 ?_
    refine y_iadd C dX8_goDeeper_20 ?_
    refine y_putI C 7 _ _ qX8_goDeeper_18 rfl rfl ft_7_2 sb_7_2 hM0 (PX.w hpr rfl rfl) dX8_goDeeper_21 (by omega) (fun M105 eM105 hM105 => ?_)
    have xM105 := tkx_j (f := gf) (n := gn) (gi := gi) eM105 (by omega) (by omega) (by omega) (by omega)
    have dM105 := cs_w hM0 (c := 7) rfl eM105 (by decide)
    have gM105 := s_wr eM105 (by omega)
    have zz78_2 := (Eq.trans (rfl : (M105.1 78 2).toInt = (M105.1 78 2).toInt) (s_wr eM105 (by omega))); have zz78_5 : (M105.1 78 5).toInt = (M0.1 78 5).toInt := s_fb eM105 (by decide) (rfl); have zz78_6 : (M105.1 78 6).toInt = (M0.1 78 6).toInt := s_fb eM105 (by decide) (rfl); have zr := (rfx_i (rfx_r M0) eM105 (by decide)); exact hret _ _ _ dX8_goDeeper_24 ⟨hM105, (FR.rf.wI eM105 (by decide)), by omega⟩
  · exfalso; omega
set_option maxHeartbeats 4000000 in
theorem s4_X8_goDeeper {l : Launch} {dC : Nat → ClassId} {dI : Nat → Nat → Nat} {ad : Nat → Nat} {cA : Nat → ClassId} {pr : Nat → Nat → Bool} {Kz : mm_M} {M0 : mm_M} (hM0 : INV pr Kz M0) (hpr : PX pr) (gf : Nat → Int) (gn : Int) (gi : Int) (hp0 : ¬ tkF gf gn (psX M0) = 3000) (hp1 : ¬ tkF gf gn (psX M0) = 3001) (hp2 : (M0.1 78 5).toInt = 0) (hp3 : b01 (TKX gf gn M0) = 1) (hp4 : b01 (PO gn gi (M0.1 78 5).toInt (psX M0)) = 1) : Cv l 0 yX8_goDeeper wsX8_goDeeper dC dI ad cA [.ref (ad 78), .int (sI 3)] M0 (fun M' => INV pr Kz M' ∧ FR [78] M0 M' ∧ ((M'.1 78 5).toInt = (M0.1 78 5).toInt ∧ (M'.1 78 6).toInt = (M0.1 78 6).toInt) ∧ (b01 (PO gn (nxF gf gn gi) (M'.1 78 5).toInt (psX M')) = 1) ∧ ((M'.1 78 2).toInt = (M0.1 78 2).toInt + 1) ∧ (b01 (TKX gf gn M') = 1) ∧ (b01 (RFX M0 M') = 1)) := by
  refine cv_of (cc := cX8_goDeeper) (maxL := 2) (lv := [(0, .ref (ad 78)), (1, .int (sI 3))]) (by decide) rfl (Nat.le_of_ble_eq_true rfl) rfl ?_
  intro p e s m args below meth c A Q C hret
  have u101b := tkx_b (f := gf) (n := gn) (M := M0) (by omega)
  refine j_iload_n C 1 1 dX8_goDeeper_0 rfl rfl ?_
  refine y_bipush C dX8_goDeeper_1 rfl ?_
  refine y_icmp_lt C 14 dX8_goDeeper_3 (by decide) (by omega) (fun h102 => ?_) (fun h102 => ?_)
  · refine j_aload_n C 0 0 dX8_goDeeper_14 rfl rfl ?_
    refine j_dup C dX8_goDeeper_15 rfl ?_
    refine y_getI C 7 _ _ fX8_goDeeper_18 rfl rfl ft_7_2 sb_7_2 hM0 dX8_goDeeper_16 (fun a103 ea103 la103 ua103 => ?_)
    refine y_iconst C dX8_goDeeper_19 ?_
    refine y_iadd C dX8_goDeeper_20 ?_
    refine y_putI C 7 _ _ qX8_goDeeper_18 rfl rfl ft_7_2 sb_7_2 hM0 (PX.w hpr rfl rfl) dX8_goDeeper_21 (by omega) (fun M105 eM105 hM105 => ?_)
    have xM105 := tkx_j (f := gf) (n := gn) (gi := gi) eM105 (by omega) (by omega) (by omega) (by omega)
    have dM105 := cs_w hM0 (c := 7) rfl eM105 (by decide)
    have gM105 := s_wr eM105 (by omega)
    have zz78_2 := (Eq.trans (rfl : (M105.1 78 2).toInt = (M105.1 78 2).toInt) (s_wr eM105 (by omega))); have zz78_5 : (M105.1 78 5).toInt = (M0.1 78 5).toInt := s_fb eM105 (by decide) (rfl); have zz78_6 : (M105.1 78 6).toInt = (M0.1 78 6).toInt := s_fb eM105 (by decide) (rfl); have zr := (rfx_i (rfx_r M0) eM105 (by decide)); exact hret _ _ _ dX8_goDeeper_24 ⟨hM105, (FR.rf.wI eM105 (by decide)), by omega⟩
  · exfalso; omega
set_option maxHeartbeats 4000000 in
theorem s5_X8_goDeeper {l : Launch} {dC : Nat → ClassId} {dI : Nat → Nat → Nat} {ad : Nat → Nat} {cA : Nat → ClassId} {pr : Nat → Nat → Bool} {Kz : mm_M} {M0 : mm_M} (hM0 : INV pr Kz M0) (hpr : PX pr) (gf : Nat → Int) (gn : Int) (gi : Int) (hp0 : ¬ tkF gf gn (psX M0) = 3000) (hp1 : ¬ tkF gf gn (psX M0) = 3001) (hp2 : (M0.1 78 5).toInt = 0) (hp3 : b01 (TKX gf gn M0) = 1) (hp4 : b01 (PO gn gi (M0.1 78 5).toInt (psX M0)) = 1) : Cv l 0 yX8_goDeeper wsX8_goDeeper dC dI ad cA [.ref (ad 78), .int (sI 4)] M0 (fun M' => INV pr Kz M' ∧ FR [78] M0 M' ∧ ((M'.1 78 5).toInt = (M0.1 78 5).toInt ∧ (M'.1 78 6).toInt = (M0.1 78 6).toInt) ∧ (b01 (PO gn (nxF gf gn gi) (M'.1 78 5).toInt (psX M')) = 1) ∧ ((M'.1 78 2).toInt = (M0.1 78 2).toInt + 1) ∧ (b01 (TKX gf gn M') = 1) ∧ (b01 (RFX M0 M') = 1)) := by
  refine cv_of (cc := cX8_goDeeper) (maxL := 2) (lv := [(0, .ref (ad 78)), (1, .int (sI 4))]) (by decide) rfl (Nat.le_of_ble_eq_true rfl) rfl ?_
  intro p e s m args below meth c A Q C hret
  have u101b := tkx_b (f := gf) (n := gn) (M := M0) (by omega)
  refine j_iload_n C 1 1 dX8_goDeeper_0 rfl rfl ?_
  refine y_bipush C dX8_goDeeper_1 rfl ?_
  refine y_icmp_lt C 14 dX8_goDeeper_3 (by decide) (by omega) (fun h102 => ?_) (fun h102 => ?_)
  · refine j_aload_n C 0 0 dX8_goDeeper_14 rfl rfl ?_
    refine j_dup C dX8_goDeeper_15 rfl ?_
    refine y_getI C 7 _ _ fX8_goDeeper_18 rfl rfl ft_7_2 sb_7_2 hM0 dX8_goDeeper_16 (fun a103 ea103 la103 ua103 => ?_)
    refine y_iconst C dX8_goDeeper_19 ?_
    refine y_iadd C dX8_goDeeper_20 ?_
    refine y_putI C 7 _ _ qX8_goDeeper_18 rfl rfl ft_7_2 sb_7_2 hM0 (PX.w hpr rfl rfl) dX8_goDeeper_21 (by omega) (fun M105 eM105 hM105 => ?_)
    have xM105 := tkx_j (f := gf) (n := gn) (gi := gi) eM105 (by omega) (by omega) (by omega) (by omega)
    have dM105 := cs_w hM0 (c := 7) rfl eM105 (by decide)
    have gM105 := s_wr eM105 (by omega)
    have zz78_2 := (Eq.trans (rfl : (M105.1 78 2).toInt = (M105.1 78 2).toInt) (s_wr eM105 (by omega))); have zz78_5 : (M105.1 78 5).toInt = (M0.1 78 5).toInt := s_fb eM105 (by decide) (rfl); have zz78_6 : (M105.1 78 6).toInt = (M0.1 78 6).toInt := s_fb eM105 (by decide) (rfl); have zr := (rfx_i (rfx_r M0) eM105 (by decide)); exact hret _ _ _ dX8_goDeeper_24 ⟨hM105, (FR.rf.wI eM105 (by decide)), by omega⟩
  · exfalso; omega
set_option maxHeartbeats 4000000 in
theorem s6_X8_goDeeper {l : Launch} {dC : Nat → ClassId} {dI : Nat → Nat → Nat} {ad : Nat → Nat} {cA : Nat → ClassId} {pr : Nat → Nat → Bool} {Kz : mm_M} {M0 : mm_M} (hM0 : INV pr Kz M0) (hpr : PX pr) (gf : Nat → Int) (gn : Int) (gi : Int) (hp0 : ¬ tkF gf gn (psX M0) = 3000) (hp1 : ¬ tkF gf gn (psX M0) = 3001) (hp2 : (M0.1 78 5).toInt = 0) (hp3 : b01 (TKX gf gn M0) = 1) (hp4 : b01 (PO gn gi (M0.1 78 5).toInt (psX M0)) = 1) : Cv l 0 yX8_goDeeper wsX8_goDeeper dC dI ad cA [.ref (ad 78), .int (sI 5)] M0 (fun M' => INV pr Kz M' ∧ FR [78] M0 M' ∧ ((M'.1 78 5).toInt = (M0.1 78 5).toInt ∧ (M'.1 78 6).toInt = (M0.1 78 6).toInt) ∧ (b01 (PO gn (nxF gf gn gi) (M'.1 78 5).toInt (psX M')) = 1) ∧ ((M'.1 78 2).toInt = (M0.1 78 2).toInt + 1) ∧ (b01 (TKX gf gn M') = 1) ∧ (b01 (RFX M0 M') = 1)) := by
  refine cv_of (cc := cX8_goDeeper) (maxL := 2) (lv := [(0, .ref (ad 78)), (1, .int (sI 5))]) (by decide) rfl (Nat.le_of_ble_eq_true rfl) rfl ?_
  intro p e s m args below meth c A Q C hret
  have u101b := tkx_b (f := gf) (n := gn) (M := M0) (by omega)
  refine j_iload_n C 1 1 dX8_goDeeper_0 rfl rfl ?_
  refine y_bipush C dX8_goDeeper_1 rfl ?_
  refine y_icmp_lt C 14 dX8_goDeeper_3 (by decide) (by omega) (fun h102 => ?_) (fun h102 => ?_)
  · refine j_aload_n C 0 0 dX8_goDeeper_14 rfl rfl ?_
    refine j_dup C dX8_goDeeper_15 rfl ?_
    refine y_getI C 7 _ _ fX8_goDeeper_18 rfl rfl ft_7_2 sb_7_2 hM0 dX8_goDeeper_16 (fun a103 ea103 la103 ua103 => ?_)
    refine y_iconst C dX8_goDeeper_19 ?_
    refine y_iadd C dX8_goDeeper_20 ?_
    refine y_putI C 7 _ _ qX8_goDeeper_18 rfl rfl ft_7_2 sb_7_2 hM0 (PX.w hpr rfl rfl) dX8_goDeeper_21 (by omega) (fun M105 eM105 hM105 => ?_)
    have xM105 := tkx_j (f := gf) (n := gn) (gi := gi) eM105 (by omega) (by omega) (by omega) (by omega)
    have dM105 := cs_w hM0 (c := 7) rfl eM105 (by decide)
    have gM105 := s_wr eM105 (by omega)
    have zz78_2 := (Eq.trans (rfl : (M105.1 78 2).toInt = (M105.1 78 2).toInt) (s_wr eM105 (by omega))); have zz78_5 : (M105.1 78 5).toInt = (M0.1 78 5).toInt := s_fb eM105 (by decide) (rfl); have zz78_6 : (M105.1 78 6).toInt = (M0.1 78 6).toInt := s_fb eM105 (by decide) (rfl); have zr := (rfx_i (rfx_r M0) eM105 (by decide)); exact hret _ _ _ dX8_goDeeper_24 ⟨hM105, (FR.rf.wI eM105 (by decide)), by omega⟩
  · exfalso; omega
set_option maxHeartbeats 4000000 in
theorem s7_X8_goDeeper {l : Launch} {dC : Nat → ClassId} {dI : Nat → Nat → Nat} {ad : Nat → Nat} {cA : Nat → ClassId} {pr : Nat → Nat → Bool} {Kz : mm_M} {M0 : mm_M} (hM0 : INV pr Kz M0) (hpr : PX pr) (gf : Nat → Int) (gn : Int) (gi : Int) (hp0 : ¬ tkF gf gn (psX M0) = 3000) (hp1 : ¬ tkF gf gn (psX M0) = 3001) (hp2 : (M0.1 78 5).toInt = 0) (hp3 : b01 (TKX gf gn M0) = 1) (hp4 : b01 (PO gn gi (M0.1 78 5).toInt (psX M0)) = 1) : Cv l 1 yX8_goDeeper wsX8_goDeeper dC dI ad cA [.ref (ad 78), .int (sI 6)] M0 (fun M' => INV pr Kz M' ∧ FR [78] M0 M' ∧ ((M'.1 78 5).toInt = 4 ∧ (M'.1 78 6).toInt = gi) ∧ ((M'.1 78 2).toInt = (M0.1 78 2).toInt) ∧ (1 ≤ (M'.1 78 5).toInt ∧ (M'.1 78 5).toInt ≤ 4) ∧ (b01 (TKX gf gn M') = 1) ∧ (b01 (RFX M0 M') = 1)) := by
  refine cv_of (cc := cX8_goDeeper) (maxL := 2) (lv := [(0, .ref (ad 78)), (1, .int (sI 6))]) (by decide) rfl (Nat.le_of_ble_eq_true rfl) rfl ?_
  intro p e s m args below meth c A Q C hret
  have u101b := tkx_b (f := gf) (n := gn) (M := M0) (by omega)
  refine j_iload_n C 1 1 dX8_goDeeper_0 rfl rfl ?_
  refine y_bipush C dX8_goDeeper_1 rfl ?_
  refine y_icmp_lt C 14 dX8_goDeeper_3 (by decide) (by omega) (fun h102 => ?_) (fun h102 => ?_)
  · exfalso; omega
  · refine j_aload_n C 0 0 dX8_goDeeper_6 rfl rfl ?_
    refine y_iconst C dX8_goDeeper_7 ?_
    refine j_callVv C (d := 0) (As := [.int (sI 4)]) (st := []) 78 (s_lt rfl rfl) (s_kc (c := 7) rfl rfl) (by decide) rfl (s1_X8_fail hM0 hpr 4 (by omega) gf gn gi (by omega) (by omega) (by omega)) gX8_goDeeper_X8_fail rfl hdX8_fail (by decide) (Nat.le_of_ble_eq_true rfl) dX8_goDeeper_8 rfl (fun M104 h105 => ?_)
    obtain ⟨hM104, fM104, h106⟩ := h105
    have bM104 := tkx_b (f := gf) (n := gn) (M := M104) (by omega)
    have qM104 := po_f gn ((faQ gf gn 4) gi).2.2 (M104.1 78 5).toInt (psX M104) (by omega)
    have dM104 := cs_f hM0 fM104
    refine j_goto C 24 dX8_goDeeper_11 (by decide) ?_
    have u1074 := fa_4 gf gn 4 gi (M0.1 78 5).toInt (M0.1 78 6).toInt (psX M0) (M104.1 78 5).toInt (M104.1 78 6).toInt (psX M104) (by decide) (by omega) (by omega) (by omega) (by omega)
    have zr := (rfx_F (rfx_r M0) fM104); exact hret _ _ _ dX8_goDeeper_24 ⟨hM104, (FR.rf.tr fM104 (by decide)), by omega⟩
set_option maxHeartbeats 4000000 in
theorem s1_X8_atom {l : Launch} {dC : Nat → ClassId} {dI : Nat → Nat → Nat} {ad : Nat → Nat} {cA : Nat → ClassId} {pr : Nat → Nat → Bool} {Kz : mm_M} {M0 : mm_M} (hM0 : INV pr Kz M0) (hpr : PX pr) (gf : Nat → Int) (gn : Int) (gi : Int) (hp0 : csX M0 ≤ (M0.1 78 2).toInt) (hp1 : 1 ≤ (M0.1 78 5).toInt ∧ (M0.1 78 5).toInt ≤ 4) (hp2 : b01 (TKX gf gn M0) = 1) (hp3 : b01 (PO gn gi (M0.1 78 5).toInt (psX M0)) = 1) : Cv l 0 yX8_atom wsX8_atom dC dI ad cA [.ref (ad 78), .int (sI 7)] M0 (fun M' => INV pr Kz M' ∧ ((M'.1 78 5).toInt = (M0.1 78 5).toInt ∧ (M'.1 78 6).toInt = (M0.1 78 6).toInt) ∧ (csX M' - csX M0 ≤ (M'.1 78 2).toInt - (M0.1 78 2).toInt) ∧ (1 ≤ (M'.1 78 5).toInt ∧ (M'.1 78 5).toInt ≤ 4) ∧ (b01 (TKX gf gn M') = 1) ∧ (b01 (RFX M0 M') = 1)) := by
  refine cv_of (cc := cX8_atom) (maxL := 3) (lv := [(0, .ref (ad 78)), (1, .int (sI 7))]) (by decide) rfl (Nat.le_of_ble_eq_true rfl) rfl ?_
  intro p e s m args below meth c A Q C hret
  refine j_aload_n C 0 0 dX8_atom_0 rfl rfl ?_
  refine y_getI C 7 _ _ fX8_atom_22 rfl rfl ft_7_5 sb_7_5 hM0 dX8_atom_1 (fun a101 ea101 la101 ua101 => ?_)
  refine y_if_eq C 8 dX8_atom_4 (by decide) (by omega) (fun h103 => ?_) (fun h103 => ?_)
  · exfalso; omega
  · have zr := (rfx_r M0); exact hret _ _ _ dX8_atom_7 ⟨hM0, by omega⟩
set_option maxHeartbeats 4000000 in
theorem s1_X8_emit {l : Launch} {dC : Nat → ClassId} {dI : Nat → Nat → Nat} {ad : Nat → Nat} {cA : Nat → ClassId} {pr : Nat → Nat → Bool} {Kz : mm_M} {M0 : mm_M} (hM0 : INV pr Kz M0) (hpr : PX pr) (a1 : Int) (ha1 : -2147483648 ≤ a1 ∧ a1 ≤ 2147483647) (gf : Nat → Int) (gn : Int) (gi : Int) (hp0 : ¬ (M0.1 78 5).toInt = 0 ∨ csX M0 < 900) (hp1 : b01 (TKX gf gn M0) = 1) (hp2 : b01 (PO gn gi (M0.1 78 5).toInt (psX M0)) = 1) : Cv l 0 yX8_emit wsX8_emit dC dI ad cA [.ref (ad 78), .int (sI a1)] M0 (fun M' => INV pr Kz M' ∧ (psX M' = psX M0) ∧ ((M'.1 78 5).toInt = (M0.1 78 5).toInt ∧ (M'.1 78 6).toInt = (M0.1 78 6).toInt) ∧ (csX M' ≤ csX M0 + 1) ∧ ((M0.1 78 5).toInt = 0 ∨ csX M' = csX M0) ∧ ((M'.1 78 2).toInt = (M0.1 78 2).toInt) ∧ (b01 (CL AGC (M'.1 78 5).toInt M0 M' [cmF a1]) = 1) ∧ (b01 (TKX gf gn M') = 1) ∧ (b01 (RFX M0 M') = 1)) := by
  refine cv_of (cc := cX8_emit) (maxL := 2) (lv := [(0, .ref (ad 78)), (1, .int (sI a1))]) (by decide) rfl (Nat.le_of_ble_eq_true rfl) rfl ?_
  intro p e s m args below meth c A Q C hret
  refine j_aload_n C 0 0 dX8_emit_0 rfl rfl ?_
  refine y_getI C 7 _ _ fX8_emit_22 rfl rfl ft_7_5 sb_7_5 hM0 dX8_emit_1 (fun a101 ea101 la101 ua101 => ?_)
  refine y_if_ne C 54 dX8_emit_4 (by decide) (by omega) (fun h103 => ?_) (fun h103 => ?_)
  · have u104l := cl_n (A := AGC) (M := M0) (N := M0) [cmF a1] (a := (M0.1 78 5).toInt) (by omega)
    have zr := (rfx_r M0); exact hret _ _ _ dX8_emit_54 ⟨hM0, by omega⟩
  · refine j_aload_n C 0 0 dX8_emit_7 rfl rfl ?_
    refine y_getM C 7 6 fX8_emit_28 rfl rfl ft_7_3 sm_7_3 (by decide) hM0 dX8_emit_8 (fun v105 ev105 cv105 => ?_)
    refine y_getI C 6 _ _ fX8_emit_93 cv105 rfl ft_6_6 sb_6_6 hM0 dX8_emit_11 (fun a106 ea106 la106 ua106 => ?_)
    have u108c := cs_r (ev105)
    refine j_aload_n C 0 0 dX8_emit_14 rfl rfl ?_
    refine y_getV C 7 v105 fX8_emit_28 rfl rfl ft_7_3 (ev105) dX8_emit_15 ?_
    refine y_getTE C 6 24 fX8_emit_150 cv105 rfl ft_6_5 rfl sm_6_5 st_6_5 (by decide) hM0 dX8_emit_18 (fun cv109 => ?_)
    refine y_alen C 24 900 cv109 rfl rfl an_24 rfl rfl dX8_emit_21 ?_
    refine y_icmp_ge C 54 dX8_emit_22 (by decide) (by omega) (fun h110 => ?_) (fun h110 => ?_)
    · have u111l := cl_n (A := AGC) (M := M0) (N := M0) [cmF a1] (a := (M0.1 78 5).toInt) (by omega)
      have zr := (rfx_r M0); exact hret _ _ _ dX8_emit_54 ⟨hM0, by omega⟩
    · refine j_aload_n C 0 0 dX8_emit_25 rfl rfl ?_
      refine y_getV C 7 v105 fX8_emit_28 rfl rfl ft_7_3 (ev105) dX8_emit_26 ?_
      refine y_getTE C 6 24 fX8_emit_150 cv105 rfl ft_6_5 rfl sm_6_5 st_6_5 (by decide) hM0 dX8_emit_29 (fun cv112 => ?_)
      refine j_aload_n C 0 0 dX8_emit_32 rfl rfl ?_
      refine y_getV C 7 v105 fX8_emit_28 rfl rfl ft_7_3 (ev105) dX8_emit_33 ?_
      refine y_getI C 6 _ _ fX8_emit_93 cv105 rfl ft_6_6 sb_6_6 hM0 dX8_emit_36 (fun a113 ea113 la113 ua113 => ?_)
      have u115c := cs_r (ev105)
      refine j_iload_n C 1 1 dX8_emit_39 rfl rfl ?_
      refine y_iastF C 24 900 cv112 rfl rfl ak_24 an_24 rfl (sb_24 _) hM0 (PX.w hpr cv112 rfl) dX8_emit_40 (by omega) (fun M116 eM116 hM116 => ?_)
      have xM116 := tkx_w (f := gf) (n := gn) eM116 (s_ne (c := 31) (d := 24) rfl cv112 (by decide)) (s_ne (c := 32) (d := 24) rfl cv112 (by decide)) (s_ne (c := 7) (d := 24) rfl cv112 (by decide)) (by omega)
      have qM116 := po_eq gn gi (M0.1 78 5).toInt (psX M0) (M116.1 78 5).toInt (psX M116) (by omega) (by omega) (by omega)
      have dM116 := cs_w hM0 (c := 24) cv112 eM116 (fun z => absurd z.1 (by decide))
      have gM116 : (M116.1 78 2).toInt = (M0.1 78 2).toInt := by rw [wc_x eM116 (s_ne (c := 7) (d := 24) rfl cv112 (by decide))]
      refine j_aload_n C 0 0 dX8_emit_41 rfl rfl ?_
      refine y_getV C 7 v105 fX8_emit_28 rfl rfl ft_7_3 (s_pI eM116 (ev105)) dX8_emit_42 ?_
      refine j_dup C dX8_emit_45 rfl ?_
      refine y_getI C 6 _ _ fX8_emit_93 cv105 rfl ft_6_6 sb_6_6 hM116 dX8_emit_46 (fun a117 ea117 la117 ua117 => ?_)
      have qa117 : a117 = a106 := (s_fa eM116 (s_ne (c := 6) (d := 24) cv105 cv112 (by decide)) (ea117)).trans ea106.symm
      have u119c := cs_r (s_pI eM116 (ev105))
      refine y_iconst C dX8_emit_49 ?_
      refine y_iadd C dX8_emit_50 ?_
      refine y_putI C 6 _ _ qX8_emit_93 cv105 rfl ft_6_6 sb_6_6 hM116 (PX.w hpr cv105 rfl) dX8_emit_51 (by omega) (fun M120 eM120 hM120 => ?_)
      have xM120 := tkx_w (f := gf) (n := gn) eM120 (s_ne (c := 31) (d := 6) rfl cv105 (by decide)) (s_ne (c := 32) (d := 6) rfl cv105 (by decide)) (s_ne (c := 7) (d := 6) rfl cv105 (by decide)) (by omega)
      have qM120 := po_eq gn gi (M116.1 78 5).toInt (psX M116) (M120.1 78 5).toInt (psX M120) (by omega) (by omega) (by omega)
      have dM120 := cs_6 (s_pI eM116 (ev105)) eM120 (by omega)
      have gM120 : (M120.1 78 2).toInt = (M116.1 78 2).toInt := by rw [wc_x eM120 (s_ne (c := 7) (d := 6) rfl cv105 (by decide))]
      have u121l := agc_cl (M := M0) (M1 := M116) (N := M120) (p := v105) (c := a113) (y := (a117 + 1)) (x := a1) (M120.1 78 5).toInt (ev105) eM116 eM120 (by omega) (by omega) (by omega)
      have zz78_2 : (M120.1 78 2).toInt = (M0.1 78 2).toInt := s_fa eM116 (s_ne (c := 7) (d := 24) rfl cv112 (by decide)) (s_fb eM120 (by decide) (rfl)); have zz78_5 : (M120.1 78 5).toInt = (M0.1 78 5).toInt := s_fa eM116 (s_ne (c := 7) (d := 24) rfl cv112 (by decide)) (s_fb eM120 (by decide) (rfl)); have zz78_6 : (M120.1 78 6).toInt = (M0.1 78 6).toInt := s_fa eM116 (s_ne (c := 7) (d := 24) rfl cv112 (by decide)) (s_fa eM120 (s_ne (c := 7) (d := 6) rfl cv105 (by decide)) (rfl)); have zr := (rfx_p (c := v105) (rfx_p (c := (s_p0 v105 5)) (rfx_r M0) eM116 (ev105) (by simp)) eM120 (s_pI eM116 (ev105)) (by simp)); exact hret _ _ _ dX8_emit_54 ⟨hM120, by omega⟩
set_option maxHeartbeats 4000000 in
theorem s1_X8_term {l : Launch} {dC : Nat → ClassId} {dI : Nat → Nat → Nat} {ad : Nat → Nat} {cA : Nat → ClassId} {pr : Nat → Nat → Bool} {Kz : mm_M} {M0 : mm_M} (hM0 : INV pr Kz M0) (hpr : PX pr) (gf : Nat → Int) (gn : Int) (gi : Int) (hp0 : csX M0 ≤ (M0.1 78 2).toInt) (hp1 : 1 ≤ (M0.1 78 5).toInt ∧ (M0.1 78 5).toInt ≤ 4) (hp2 : b01 (TKX gf gn M0) = 1) (hp3 : b01 (PO gn gi (M0.1 78 5).toInt (psX M0)) = 1) : Cv l 1 yX8_term wsX8_term dC dI ad cA [.ref (ad 78), .int (sI 7)] M0 (fun M' => INV pr Kz M' ∧ ((M'.1 78 5).toInt = (M0.1 78 5).toInt ∧ (M'.1 78 6).toInt = (M0.1 78 6).toInt) ∧ (csX M' - csX M0 ≤ (M'.1 78 2).toInt - (M0.1 78 2).toInt) ∧ (1 ≤ (M'.1 78 5).toInt ∧ (M'.1 78 5).toInt ≤ 4) ∧ (b01 (TKX gf gn M') = 1) ∧ (b01 (RFX M0 M') = 1)) := by
  refine cv_of (cc := cX8_term) (maxL := 3) (lv := [(0, .ref (ad 78)), (1, .int (sI 7))]) (by decide) rfl (Nat.le_of_ble_eq_true rfl) rfl ?_
  intro p e s m args below meth c A Q C hret
  refine j_aload_n C 0 0 dX8_term_0 rfl rfl ?_
  refine j_iload_n C 1 1 dX8_term_1 rfl rfl ?_
  have z101 := (hM0).rd (i := 78) (c := 7) (k := 5) rfl sb_7_5
  refine j_callVv C (d := 0) (As := [.int (sI 7)]) (st := []) 78 (s_lt rfl rfl) (s_kc (c := 7) rfl rfl) (by decide) rfl (s1_X8_atom hM0 hpr gf gn gi (by omega) (by omega) (by omega) (by omega)) gX8_term_X8_atom rfl hdX8_atom (by decide) (Nat.le_of_ble_eq_true rfl) dX8_term_2 rfl (fun M103 h104 => ?_)
  obtain ⟨hM103, h105⟩ := h104
  have bM103 := tkx_b (f := gf) (n := gn) (M := M103) (by omega)
  have qM103 := po_f gn gi (M103.1 78 5).toInt (psX M103) (by omega)
  refine y_iconst C dX8_term_5 ?_
  refine j_istore_n C 2 [(2, .int (sI 0)), (0, .ref (ad 78)), (1, .int (sI 7))] dX8_term_6 rfl (by decide) rfl ?_
  have L888 : ∀ (n886 : Nat), ∀ (a889 : Int) (M890 : mm_M) (gq891 : Int), (0 ≤ a889 ∧ a889 ≤ 900 ∧ ((M890.1 78 5).toInt = (M103.1 78 5).toInt ∧ (M890.1 78 6).toInt = (M103.1 78 6).toInt) ∧ (csX M890 - csX M103 ≤ (M890.1 78 2).toInt - (M103.1 78 2).toInt) ∧ (b01 (TKX gf gn M890) = 1) ∧ (b01 (PO gn gq891 (M890.1 78 5).toInt (psX M890)) = 1) ∧ (b01 (RFX M0 M890) = 1) ∧ (900 - a889) < (n886 : Int)) → INV pr Kz M890 → jj p l e (cn_R 1) s m args below meth c 0 0 Q 3 dC dI ad cA A M890 7 [(0, .ref (ad 78)), (1, .int (sI 7)), (2, .int (sI a889))] [] := by
    intro n886
    induction n886 with
    | zero =>
      intro a889 M890 gq891 h892 hM890
      exfalso; omega
    | succ n886 ih887 =>
      intro a889 M890 gq891 h892 hM890
      refine j_iload_n C 2 2 dX8_term_7 rfl rfl ?_
      refine y_sipush C dX8_term_8 rfl ?_
      refine y_icmp_ge C 59 dX8_term_11 (by decide) (by omega) (fun h893 => ?_) (fun h893 => ?_)
      · have zr := (show b01 (RFX M0 M890) = 1 by omega); exact hret _ _ _ dX8_term_59 ⟨hM890, by omega⟩
      · refine j_aload_n C 0 0 dX8_term_14 rfl rfl ?_
        refine y_getI C 7 _ _ fX8_term_22 rfl rfl ft_7_5 sb_7_5 hM890 dX8_term_15 (fun a894 ea894 la894 ua894 => ?_)
        refine y_if_ne C 59 dX8_term_18 (by decide) (by omega) (fun h896 => ?_) (fun h896 => ?_)
        · have zr := (show b01 (RFX M0 M890) = 1 by omega); exact hret _ _ _ dX8_term_59 ⟨hM890, by omega⟩
        · refine j_aload_n C 0 0 dX8_term_21 rfl rfl ?_
          refine j_callVi C (d := 0) (As := []) (st := []) 78 (s_lt rfl rfl) (s_kc (c := 7) rfl rfl) (by decide) rfl (s1_X8_token hM890 gf gn gq891 (by omega) (by omega)) gX8_term_X8_token rfl hdX8_token (by decide) (Nat.le_of_ble_eq_true rfl) dX8_term_22 rfl (fun r897 M898 h899 => ?_)
          obtain ⟨a901, rfl, rfl, h900⟩ := h899
          refine y_sipush C dX8_term_25 rfl ?_
          refine y_icmp_ne C 59 dX8_term_28 (by decide) (by omega) (fun h902 => ?_) (fun h902 => ?_)
          · have zr := (show b01 (RFX M0 M890) = 1 by omega); exact hret _ _ _ dX8_term_59 ⟨hM890, by omega⟩
          · refine j_aload_n C 0 0 dX8_term_31 rfl rfl ?_
            refine j_dup C dX8_term_32 rfl ?_
            refine y_getI C 7 _ _ fX8_term_18 rfl rfl ft_7_2 sb_7_2 hM890 dX8_term_33 (fun a903 ea903 la903 ua903 => ?_)
            refine y_iconst C dX8_term_36 ?_
            refine y_iadd C dX8_term_37 ?_
            refine y_putI C 7 _ _ qX8_term_18 rfl rfl ft_7_2 sb_7_2 hM890 (PX.w hpr rfl rfl) dX8_term_38 (by omega) (fun M905 eM905 hM905 => ?_)
            have xM905 := tkx_j (f := gf) (n := gn) (gi := gq891) eM905 (by omega) (by omega) (by omega) (by omega)
            have dM905 := cs_w hM890 (c := 7) rfl eM905 (by decide)
            have gM905 := s_wr eM905 (by omega)
            refine j_aload_n C 0 0 dX8_term_41 rfl rfl ?_
            refine j_iload_n C 1 1 dX8_term_42 rfl rfl ?_
            have z906 := (hM905).rd (i := 78) (c := 7) (k := 5) rfl sb_7_5
            refine j_callVv C (d := 0) (As := [.int (sI 7)]) (st := []) 78 (s_lt rfl rfl) (s_kc (c := 7) rfl rfl) (by decide) rfl (s1_X8_atom hM905 hpr gf gn (nxF gf gn gq891) (by omega) (by omega) (by omega) (by omega)) gX8_term_X8_atom rfl hdX8_atom (by decide) (Nat.le_of_ble_eq_true rfl) dX8_term_43 rfl (fun M908 h909 => ?_)
            obtain ⟨hM908, h910⟩ := h909
            have bM908 := tkx_b (f := gf) (n := gn) (M := M908) (by omega)
            have qM908 := po_f gn (nxF gf gn gq891) (M908.1 78 5).toInt (psX M908) (by omega)
            refine j_aload_n C 0 0 dX8_term_46 rfl rfl ?_
            refine y_sipush C dX8_term_47 rfl ?_
            have u911b := tkx_b (f := gf) (n := gn) (M := M908) (by omega)
            refine j_callVv C (d := 0) (As := [.int (sI 2042)]) (st := []) 78 (s_lt rfl rfl) (s_kc (c := 7) rfl rfl) (by decide) rfl (s1_X8_emit hM908 hpr 2042 (by omega) gf gn (nxF gf gn gq891) (by omega) (by omega) (by omega)) gX8_term_X8_emit rfl hdX8_emit (by decide) (Nat.le_of_ble_eq_true rfl) dX8_term_50 rfl (fun M913 h914 => ?_)
            obtain ⟨hM913, h915⟩ := h914
            have bM913 := tkx_b (f := gf) (n := gn) (M := M913) (by omega)
            have qM913 := po_eq gn (nxF gf gn gq891) (M908.1 78 5).toInt (psX M908) (M913.1 78 5).toInt (psX M913) (by omega) (by omega) (by omega)
            refine y_iinc C 2 [(2, .int (sI (a889 + 1))), (0, .ref (ad 78)), (1, .int (sI 7))] dX8_term_53 rfl (by decide) rfl ?_
            refine j_goto C 7 dX8_term_56 (by decide) ?_
            have zr := (rfx_t (rfx_t (rfx_i (show b01 (RFX M0 M890) = 1 by omega) eM905 (by decide)) (show b01 (RFX M905 M908) = 1 by omega)) (show b01 (RFX M908 M913) = 1 by omega)); refine j_lv [1, 2, 0] rfl ?_; exact ih887 (a889 + 1) M913 (nxF gf gn gq891) (by omega) hM913
  have zr := (rfx_t (rfx_r M0) (show b01 (RFX M0 M103) = 1 by omega)); refine j_lv [1, 2, 0] rfl ?_; exact L888 2010 0 M103 gi (by omega) hM103
set_option maxHeartbeats 4000000 in
theorem s1_X8_sum {l : Launch} {dC : Nat → ClassId} {dI : Nat → Nat → Nat} {ad : Nat → Nat} {cA : Nat → ClassId} {pr : Nat → Nat → Bool} {Kz : mm_M} {M0 : mm_M} (hM0 : INV pr Kz M0) (hpr : PX pr) (gf : Nat → Int) (gn : Int) (gi : Int) (hp0 : csX M0 ≤ (M0.1 78 2).toInt) (hp1 : 1 ≤ (M0.1 78 5).toInt ∧ (M0.1 78 5).toInt ≤ 4) (hp2 : b01 (TKX gf gn M0) = 1) (hp3 : b01 (PO gn gi (M0.1 78 5).toInt (psX M0)) = 1) : Cv l 2 yX8_sum wsX8_sum dC dI ad cA [.ref (ad 78), .int (sI 7)] M0 (fun M' => INV pr Kz M' ∧ ((M'.1 78 5).toInt = (M0.1 78 5).toInt ∧ (M'.1 78 6).toInt = (M0.1 78 6).toInt) ∧ (csX M' - csX M0 ≤ (M'.1 78 2).toInt - (M0.1 78 2).toInt) ∧ (1 ≤ (M'.1 78 5).toInt ∧ (M'.1 78 5).toInt ≤ 4) ∧ (b01 (TKX gf gn M') = 1) ∧ (b01 (RFX M0 M') = 1)) := by
  refine cv_of (cc := cX8_sum) (maxL := 4) (lv := [(0, .ref (ad 78)), (1, .int (sI 7))]) (by decide) rfl (Nat.le_of_ble_eq_true rfl) rfl ?_
  intro p e s m args below meth c A Q C hret
  refine j_aload_n C 0 0 dX8_sum_0 rfl rfl ?_
  refine j_iload_n C 1 1 dX8_sum_1 rfl rfl ?_
  have z101 := (hM0).rd (i := 78) (c := 7) (k := 5) rfl sb_7_5
  refine j_callVv C (d := 1) (As := [.int (sI 7)]) (st := []) 78 (s_lt rfl rfl) (s_kc (c := 7) rfl rfl) (by decide) rfl (s1_X8_term hM0 hpr gf gn gi (by omega) (by omega) (by omega) (by omega)) gX8_sum_X8_term rfl hdX8_term (by decide) (Nat.le_of_ble_eq_true rfl) dX8_sum_2 rfl (fun M103 h104 => ?_)
  obtain ⟨hM103, h105⟩ := h104
  have bM103 := tkx_b (f := gf) (n := gn) (M := M103) (by omega)
  have qM103 := po_f gn gi (M103.1 78 5).toInt (psX M103) (by omega)
  refine j_aload_n C 0 0 dX8_sum_5 rfl rfl ?_
  refine j_callVi C (d := 0) (As := []) (st := []) 78 (s_lt rfl rfl) (s_kc (c := 7) rfl rfl) (by decide) rfl (s1_X8_token hM103 gf gn gi (by omega) (by omega)) gX8_sum_X8_token rfl hdX8_token (by decide) (Nat.le_of_ble_eq_true rfl) dX8_sum_6 rfl (fun r106 M107 h108 => ?_)
  obtain ⟨a110, rfl, rfl, h109⟩ := h108
  refine j_istore_n C 2 [(2, .int (sI a110)), (0, .ref (ad 78)), (1, .int (sI 7))] dX8_sum_9 rfl (by decide) rfl ?_
  refine y_iconst C dX8_sum_10 ?_
  refine j_istore_n C 3 [(3, .int (sI 0)), (2, .int (sI a110)), (0, .ref (ad 78)), (1, .int (sI 7))] dX8_sum_11 rfl (by decide) rfl ?_
  have L1493 : ∀ (n1491 : Nat), ∀ (a1494 : Int) (a1495 : Int) (M1496 : mm_M) (gq1497 : Int), ((-2147483648) ≤ a1494 ∧ a1494 ≤ 2147483647 ∧ 0 ≤ a1495 ∧ a1495 ≤ 900 ∧ ((M1496.1 78 5).toInt = (M103.1 78 5).toInt ∧ (M1496.1 78 6).toInt = (M103.1 78 6).toInt) ∧ (csX M1496 - csX M103 ≤ (M1496.1 78 2).toInt - (M103.1 78 2).toInt) ∧ (b01 (TKX gf gn M1496) = 1) ∧ (b01 (PO gn gq1497 (M1496.1 78 5).toInt (psX M1496)) = 1) ∧ (b01 (RFX M0 M1496) = 1) ∧ (900 - a1495) < (n1491 : Int)) → INV pr Kz M1496 → jj p l e (cn_R 2) s m args below meth c 0 0 Q 4 dC dI ad cA A M1496 12 [(0, .ref (ad 78)), (1, .int (sI 7)), (2, .int (sI a1494)), (3, .int (sI a1495))] [] := by
    intro n1491
    induction n1491 with
    | zero =>
      intro a1494 a1495 M1496 gq1497 h1498 hM1496
      exfalso; omega
    | succ n1491 ih1492 =>
      intro a1494 a1495 M1496 gq1497 h1498 hM1496
      refine j_iload_n C 3 3 dX8_sum_12 rfl rfl ?_
      refine y_sipush C dX8_sum_13 rfl ?_
      refine y_icmp_ge C 71 dX8_sum_16 (by decide) (by omega) (fun h1499 => ?_) (fun h1499 => ?_)
      · have zr := (show b01 (RFX M0 M1496) = 1 by omega); exact hret _ _ _ dX8_sum_71 ⟨hM1496, by omega⟩
      · refine j_aload_n C 0 0 dX8_sum_19 rfl rfl ?_
        refine y_getI C 7 _ _ fX8_sum_22 rfl rfl ft_7_5 sb_7_5 hM1496 dX8_sum_20 (fun a1500 ea1500 la1500 ua1500 => ?_)
        refine y_if_ne C 71 dX8_sum_23 (by decide) (by omega) (fun h1502 => ?_) (fun h1502 => ?_)
        · have zr := (show b01 (RFX M0 M1496) = 1 by omega); exact hret _ _ _ dX8_sum_71 ⟨hM1496, by omega⟩
        · refine j_iload_n C 2 2 dX8_sum_26 rfl rfl ?_
          refine y_sipush C dX8_sum_27 rfl ?_
          refine y_icmp_eq C 40 dX8_sum_30 (by decide) (by omega) (fun h1503 => ?_) (fun h1503 => ?_)
          · refine j_aload_n C 0 0 dX8_sum_40 rfl rfl ?_
            refine j_dup C dX8_sum_41 rfl ?_
            refine y_getI C 7 _ _ fX8_sum_18 rfl rfl ft_7_2 sb_7_2 hM1496 dX8_sum_42 (fun a1504 ea1504 la1504 ua1504 => ?_)
            refine y_iconst C dX8_sum_45 ?_
            refine y_iadd C dX8_sum_46 ?_
            refine y_putI C 7 _ _ qX8_sum_18 rfl rfl ft_7_2 sb_7_2 hM1496 (PX.w hpr rfl rfl) dX8_sum_47 (by omega) (fun M1506 eM1506 hM1506 => ?_)
            have xM1506 := tkx_j (f := gf) (n := gn) (gi := gq1497) eM1506 (by omega) (by omega) (by omega) (by omega)
            have dM1506 := cs_w hM1496 (c := 7) rfl eM1506 (by decide)
            have gM1506 := s_wr eM1506 (by omega)
            refine j_aload_n C 0 0 dX8_sum_50 rfl rfl ?_
            refine j_iload_n C 1 1 dX8_sum_51 rfl rfl ?_
            have z1507 := (hM1506).rd (i := 78) (c := 7) (k := 5) rfl sb_7_5
            refine j_callVv C (d := 1) (As := [.int (sI 7)]) (st := []) 78 (s_lt rfl rfl) (s_kc (c := 7) rfl rfl) (by decide) rfl (s1_X8_term hM1506 hpr gf gn (nxF gf gn gq1497) (by omega) (by omega) (by omega) (by omega)) gX8_sum_X8_term rfl hdX8_term (by decide) (Nat.le_of_ble_eq_true rfl) dX8_sum_52 rfl (fun M1509 h1510 => ?_)
            obtain ⟨hM1509, h1511⟩ := h1510
            have bM1509 := tkx_b (f := gf) (n := gn) (M := M1509) (by omega)
            have qM1509 := po_f gn (nxF gf gn gq1497) (M1509.1 78 5).toInt (psX M1509) (by omega)
            refine j_aload_n C 0 0 dX8_sum_55 rfl rfl ?_
            refine j_iload_n C 2 2 dX8_sum_56 rfl rfl ?_
            have u1512b := tkx_b (f := gf) (n := gn) (M := M1509) (by omega)
            refine j_callVv C (d := 0) (As := [.int (sI a1494)]) (st := []) 78 (s_lt rfl rfl) (s_kc (c := 7) rfl rfl) (by decide) rfl (s1_X8_emit hM1509 hpr a1494 (by omega) gf gn (nxF gf gn gq1497) (by omega) (by omega) (by omega)) gX8_sum_X8_emit rfl hdX8_emit (by decide) (Nat.le_of_ble_eq_true rfl) dX8_sum_57 rfl (fun M1514 h1515 => ?_)
            obtain ⟨hM1514, h1516⟩ := h1515
            have bM1514 := tkx_b (f := gf) (n := gn) (M := M1514) (by omega)
            have qM1514 := po_eq gn (nxF gf gn gq1497) (M1509.1 78 5).toInt (psX M1509) (M1514.1 78 5).toInt (psX M1514) (by omega) (by omega) (by omega)
            refine j_aload_n C 0 0 dX8_sum_60 rfl rfl ?_
            refine j_callVi C (d := 0) (As := []) (st := []) 78 (s_lt rfl rfl) (s_kc (c := 7) rfl rfl) (by decide) rfl (s1_X8_token hM1514 gf gn (nxF gf gn gq1497) (by omega) (by omega)) gX8_sum_X8_token rfl hdX8_token (by decide) (Nat.le_of_ble_eq_true rfl) dX8_sum_61 rfl (fun r1517 M1518 h1519 => ?_)
            obtain ⟨a1521, rfl, rfl, h1520⟩ := h1519
            refine j_istore_n C 2 [(2, .int (sI a1521)), (0, .ref (ad 78)), (1, .int (sI 7)), (3, .int (sI a1495))] dX8_sum_64 rfl (by decide) rfl ?_
            refine y_iinc C 3 [(3, .int (sI (a1495 + 1))), (2, .int (sI a1521)), (0, .ref (ad 78)), (1, .int (sI 7))] dX8_sum_65 rfl (by decide) rfl ?_
            refine j_goto C 12 dX8_sum_68 (by decide) ?_
            have zr := (rfx_t (rfx_t (rfx_i (show b01 (RFX M0 M1496) = 1 by omega) eM1506 (by decide)) (show b01 (RFX M1506 M1509) = 1 by omega)) (show b01 (RFX M1509 M1514) = 1 by omega)); refine j_lv [2, 3, 1, 0] rfl ?_; exact ih1492 a1521 (a1495 + 1) M1514 (nxF gf gn gq1497) (by omega) hM1514
          · refine j_iload_n C 2 2 dX8_sum_33 rfl rfl ?_
            refine y_sipush C dX8_sum_34 rfl ?_
            refine y_icmp_ne C 71 dX8_sum_37 (by decide) (by omega) (fun h1522 => ?_) (fun h1522 => ?_)
            · have zr := (show b01 (RFX M0 M1496) = 1 by omega); exact hret _ _ _ dX8_sum_71 ⟨hM1496, by omega⟩
            · refine j_aload_n C 0 0 dX8_sum_40 rfl rfl ?_
              refine j_dup C dX8_sum_41 rfl ?_
              refine y_getI C 7 _ _ fX8_sum_18 rfl rfl ft_7_2 sb_7_2 hM1496 dX8_sum_42 (fun a1523 ea1523 la1523 ua1523 => ?_)
              refine y_iconst C dX8_sum_45 ?_
              refine y_iadd C dX8_sum_46 ?_
              refine y_putI C 7 _ _ qX8_sum_18 rfl rfl ft_7_2 sb_7_2 hM1496 (PX.w hpr rfl rfl) dX8_sum_47 (by omega) (fun M1525 eM1525 hM1525 => ?_)
              have xM1525 := tkx_j (f := gf) (n := gn) (gi := gq1497) eM1525 (by omega) (by omega) (by omega) (by omega)
              have dM1525 := cs_w hM1496 (c := 7) rfl eM1525 (by decide)
              have gM1525 := s_wr eM1525 (by omega)
              refine j_aload_n C 0 0 dX8_sum_50 rfl rfl ?_
              refine j_iload_n C 1 1 dX8_sum_51 rfl rfl ?_
              have z1526 := (hM1525).rd (i := 78) (c := 7) (k := 5) rfl sb_7_5
              refine j_callVv C (d := 1) (As := [.int (sI 7)]) (st := []) 78 (s_lt rfl rfl) (s_kc (c := 7) rfl rfl) (by decide) rfl (s1_X8_term hM1525 hpr gf gn (nxF gf gn gq1497) (by omega) (by omega) (by omega) (by omega)) gX8_sum_X8_term rfl hdX8_term (by decide) (Nat.le_of_ble_eq_true rfl) dX8_sum_52 rfl (fun M1528 h1529 => ?_)
              obtain ⟨hM1528, h1530⟩ := h1529
              have bM1528 := tkx_b (f := gf) (n := gn) (M := M1528) (by omega)
              have qM1528 := po_f gn (nxF gf gn gq1497) (M1528.1 78 5).toInt (psX M1528) (by omega)
              refine j_aload_n C 0 0 dX8_sum_55 rfl rfl ?_
              refine j_iload_n C 2 2 dX8_sum_56 rfl rfl ?_
              have u1531b := tkx_b (f := gf) (n := gn) (M := M1528) (by omega)
              refine j_callVv C (d := 0) (As := [.int (sI a1494)]) (st := []) 78 (s_lt rfl rfl) (s_kc (c := 7) rfl rfl) (by decide) rfl (s1_X8_emit hM1528 hpr a1494 (by omega) gf gn (nxF gf gn gq1497) (by omega) (by omega) (by omega)) gX8_sum_X8_emit rfl hdX8_emit (by decide) (Nat.le_of_ble_eq_true rfl) dX8_sum_57 rfl (fun M1533 h1534 => ?_)
              obtain ⟨hM1533, h1535⟩ := h1534
              have bM1533 := tkx_b (f := gf) (n := gn) (M := M1533) (by omega)
              have qM1533 := po_eq gn (nxF gf gn gq1497) (M1528.1 78 5).toInt (psX M1528) (M1533.1 78 5).toInt (psX M1533) (by omega) (by omega) (by omega)
              refine j_aload_n C 0 0 dX8_sum_60 rfl rfl ?_
              refine j_callVi C (d := 0) (As := []) (st := []) 78 (s_lt rfl rfl) (s_kc (c := 7) rfl rfl) (by decide) rfl (s1_X8_token hM1533 gf gn (nxF gf gn gq1497) (by omega) (by omega)) gX8_sum_X8_token rfl hdX8_token (by decide) (Nat.le_of_ble_eq_true rfl) dX8_sum_61 rfl (fun r1536 M1537 h1538 => ?_)
              obtain ⟨a1540, rfl, rfl, h1539⟩ := h1538
              refine j_istore_n C 2 [(2, .int (sI a1540)), (0, .ref (ad 78)), (1, .int (sI 7)), (3, .int (sI a1495))] dX8_sum_64 rfl (by decide) rfl ?_
              refine y_iinc C 3 [(3, .int (sI (a1495 + 1))), (2, .int (sI a1540)), (0, .ref (ad 78)), (1, .int (sI 7))] dX8_sum_65 rfl (by decide) rfl ?_
              refine j_goto C 12 dX8_sum_68 (by decide) ?_
              have zr := (rfx_t (rfx_t (rfx_i (show b01 (RFX M0 M1496) = 1 by omega) eM1525 (by decide)) (show b01 (RFX M1525 M1528) = 1 by omega)) (show b01 (RFX M1528 M1533) = 1 by omega)); refine j_lv [2, 3, 1, 0] rfl ?_; exact ih1492 a1540 (a1495 + 1) M1533 (nxF gf gn gq1497) (by omega) hM1533
  have zr := (rfx_t (rfx_r M0) (show b01 (RFX M0 M103) = 1 by omega)); refine j_lv [2, 3, 1, 0] rfl ?_; exact L1493 4294967306 a110 0 M103 gi (by omega) hM103
set_option maxHeartbeats 4000000 in
theorem s2_X8_atom {l : Launch} {dC : Nat → ClassId} {dI : Nat → Nat → Nat} {ad : Nat → Nat} {cA : Nat → ClassId} {pr : Nat → Nat → Bool} {Kz : mm_M} {M0 : mm_M} (hM0 : INV pr Kz M0) (hpr : PX pr) (gf : Nat → Int) (gn : Int) (gi : Int) (hp0 : csX M0 ≤ (M0.1 78 2).toInt) (hp1 : b01 (TKX gf gn M0) = 1) (hp2 : b01 (PO gn gi (M0.1 78 5).toInt (psX M0)) = 1) : Cv l 3 yX8_atom wsX8_atom dC dI ad cA [.ref (ad 78), .int (sI 6)] M0 (fun M' => INV pr Kz M' ∧ (csX M' - csX M0 ≤ (M'.1 78 2).toInt - (M0.1 78 2).toInt) ∧ (b01 (CL AGC (M'.1 78 5).toInt M0 M' ((atL gf gn true (fun _ => [])) gi)) = 1) ∧ (b01 (TKX gf gn M') = 1) ∧ b01 (RR ((atP gf gn true (fun i => (0, 0, i))) gi) (M0.1 78 5).toInt (M0.1 78 6).toInt (M'.1 78 5).toInt (M'.1 78 6).toInt (psX M')) = 1 ∧ (b01 (RFX M0 M') = 1)) := by
  refine cv_of (cc := cX8_atom) (maxL := 3) (lv := [(0, .ref (ad 78)), (1, .int (sI 6))]) (by decide) rfl (Nat.le_of_ble_eq_true rfl) rfl ?_
  intro p e s m args below meth c A Q C hret
  have u101b := tkx_b (f := gf) (n := gn) (M := M0) (by omega)
  refine j_aload_n C 0 0 dX8_atom_0 rfl rfl ?_
  refine y_getI C 7 _ _ fX8_atom_22 rfl rfl ft_7_5 sb_7_5 hM0 dX8_atom_1 (fun a102 ea102 la102 ua102 => ?_)
  refine y_if_eq C 8 dX8_atom_4 (by decide) (by omega) (fun h104 => ?_) (fun h104 => ?_)
  · refine j_aload_n C 0 0 dX8_atom_8 rfl rfl ?_
    refine j_callVi C (d := 0) (As := []) (st := []) 78 (s_lt rfl rfl) (s_kc (c := 7) rfl rfl) (by decide) rfl (s1_X8_token hM0 gf gn gi (by omega) (by omega)) gX8_atom_X8_token rfl hdX8_token (by decide) (Nat.le_of_ble_eq_true rfl) dX8_atom_9 rfl (fun r105 M106 h107 => ?_)
    obtain ⟨a109, rfl, rfl, h108⟩ := h107
    refine j_istore_n C 2 [(2, .int (sI a109)), (0, .ref (ad 78)), (1, .int (sI 6))] dX8_atom_12 rfl (by decide) rfl ?_
    refine j_iload_n C 0 2 dX8_atom_13 rfl rfl ?_
    refine y_sipush C dX8_atom_14 rfl ?_
    refine y_icmp_ge C 38 dX8_atom_17 (by decide) (by omega) (fun h110 => ?_) (fun h110 => ?_)
    · refine j_iload_n C 0 2 dX8_atom_38 rfl rfl ?_
      refine y_sipush C dX8_atom_39 rfl ?_
      refine y_icmp_ne C 67 dX8_atom_42 (by decide) (by omega) (fun h111 => ?_) (fun h111 => ?_)
      · refine j_aload_n C 1 0 dX8_atom_67 rfl rfl ?_
        refine y_iconst C dX8_atom_68 ?_
        refine j_callVv C (d := 0) (As := [.int (sI 2)]) (st := []) 78 (s_lt rfl rfl) (s_kc (c := 7) rfl rfl) (by decide) rfl (s1_X8_fail hM0 hpr 2 (by omega) gf gn gi (by omega) (by omega) (by omega)) gX8_atom_X8_fail rfl hdX8_fail (by decide) (Nat.le_of_ble_eq_true rfl) dX8_atom_69 rfl (fun M113 h114 => ?_)
        obtain ⟨hM113, fM113, h115⟩ := h114
        have bM113 := tkx_b (f := gf) (n := gn) (M := M113) (by omega)
        have qM113 := po_f gn ((faQ gf gn 2) gi).2.2 (M113.1 78 5).toInt (psX M113) (by omega)
        have dM113 := cs_f hM0 fM113
        have u116r := at_4 gf gn true (fun i => (0, 0, i)) gi (M0.1 78 5).toInt (M0.1 78 6).toInt (psX M0) (M113.1 78 5).toInt (M113.1 78 6).toInt (psX M113) (by omega) (by omega) (by omega)
        have u116l := cl_n (A := AGC) (M := M0) (N := M113) ((atL gf gn true (fun _ => [])) gi) (a := (M113.1 78 5).toInt) (by omega)
        have zr := (rfx_F (rfx_r M0) fM113); exact hret _ _ _ dX8_atom_72 ⟨hM113, by omega⟩
      · refine j_aload_n C 1 0 dX8_atom_45 rfl rfl ?_
        refine j_iload_n C 2 1 dX8_atom_46 rfl rfl ?_
        refine j_callVv C (d := 1) (As := [.int (sI 6)]) (st := []) 78 (s_lt rfl rfl) (s_kc (c := 7) rfl rfl) (by decide) rfl (s7_X8_goDeeper hM0 hpr gf gn gi (by omega) (by omega) (by omega) (by omega) (by omega)) gX8_atom_X8_goDeeper rfl hdX8_goDeeper (by decide) (Nat.le_of_ble_eq_true rfl) dX8_atom_47 rfl (fun M118 h119 => ?_)
        obtain ⟨hM118, fM118, h120⟩ := h119
        have bM118 := tkx_b (f := gf) (n := gn) (M := M118) (by omega)
        have qM118 := po_f gn gi (M118.1 78 5).toInt (psX M118) (by omega)
        have dM118 := cs_f hM0 fM118
        refine j_aload_n C 1 0 dX8_atom_50 rfl rfl ?_
        refine j_iload_n C 2 1 dX8_atom_51 rfl rfl ?_
        refine y_iconst C dX8_atom_52 ?_
        refine y_iadd C dX8_atom_53 ?_
        have z121 := (hM118).rd (i := 78) (c := 7) (k := 5) rfl sb_7_5
        refine j_callVv C (d := 2) (As := [.int (sI (6 + 1))]) (st := []) 78 (s_lt rfl rfl) (s_kc (c := 7) rfl rfl) (by decide) rfl (s1_X8_sum hM118 hpr gf gn gi (by omega) (by omega) (by omega) (by omega)) gX8_atom_X8_sum rfl hdX8_sum (by decide) (Nat.le_of_ble_eq_true rfl) dX8_atom_54 rfl (fun M123 h124 => ?_)
        obtain ⟨hM123, h125⟩ := h124
        have bM123 := tkx_b (f := gf) (n := gn) (M := M123) (by omega)
        have qM123 := po_f gn gi (M123.1 78 5).toInt (psX M123) (by omega)
        refine j_aload_n C 1 0 dX8_atom_57 rfl rfl ?_
        refine y_sipush C dX8_atom_58 rfl ?_
        refine j_callVv C (d := 1) (As := [.int (sI 2041)]) (st := []) 78 (s_lt rfl rfl) (s_kc (c := 7) rfl rfl) (by decide) rfl (s1_X8_expect hM123 hpr 2041 (by omega) gf gn gi (by omega) (by omega) (by omega) (by omega)) gX8_atom_X8_expect rfl hdX8_expect (by decide) (Nat.le_of_ble_eq_true rfl) dX8_atom_61 rfl (fun M127 h128 => ?_)
        obtain ⟨hM127, fM127, h129⟩ := h128
        have bM127 := tkx_b (f := gf) (n := gn) (M := M127) (by omega)
        have qM127 := po_rr (exP gf gn 2041) gn gi (M123.1 78 5).toInt (M123.1 78 6).toInt (psX M123) (M127.1 78 5).toInt (M127.1 78 6).toInt (psX M127) (ex_g gf gn 2041 (by omega)) (by omega) (by omega)
        have dM127 := cs_f hM123 fM127
        refine j_goto C 72 dX8_atom_64 (by decide) ?_
        have u130k := rr_k (exP gf gn 2041 gi) (M123.1 78 5).toInt (M123.1 78 6).toInt (M127.1 78 5).toInt (M127.1 78 6).toInt (psX M127) (by omega) (by omega)
        have u130r := at_3 gf gn (fun i => (0, 0, i)) gi (M0.1 78 5).toInt (M0.1 78 6).toInt (psX M0) (M127.1 78 5).toInt (M127.1 78 6).toInt (psX M127) (by omega) (by omega) (by omega) (by omega) (by omega)
        have u130l := cl_n (A := AGC) (M := M0) (N := M127) ((atL gf gn true (fun _ => [])) gi) (a := (M127.1 78 5).toInt) (by omega)
        have zr := (rfx_F (rfx_t (rfx_F (rfx_r M0) fM118) (show b01 (RFX M118 M123) = 1 by omega)) fM127); exact hret _ _ _ dX8_atom_72 ⟨hM127, by omega⟩
    · refine j_aload_n C 1 0 dX8_atom_20 rfl rfl ?_
      refine j_dup C dX8_atom_21 rfl ?_
      refine y_getI C 7 _ _ fX8_atom_18 rfl rfl ft_7_2 sb_7_2 hM0 dX8_atom_22 (fun a131 ea131 la131 ua131 => ?_)
      refine y_iconst C dX8_atom_25 ?_
      refine y_iadd C dX8_atom_26 ?_
      refine y_putI C 7 _ _ qX8_atom_18 rfl rfl ft_7_2 sb_7_2 hM0 (PX.w hpr rfl rfl) dX8_atom_27 (by omega) (fun M133 eM133 hM133 => ?_)
      have xM133 := tkx_j (f := gf) (n := gn) (gi := gi) eM133 (by omega) (by omega) (by omega) (by omega)
      have dM133 := cs_w hM0 (c := 7) rfl eM133 (by decide)
      have gM133 := s_wr eM133 (by omega)
      refine j_aload_n C 1 0 dX8_atom_30 rfl rfl ?_
      refine j_iload_n C 0 2 dX8_atom_31 rfl rfl ?_
      have u134b := tkx_b (f := gf) (n := gn) (M := M133) (by omega)
      refine j_callVv C (d := 0) (As := [.int (sI a109)]) (st := []) 78 (s_lt rfl rfl) (s_kc (c := 7) rfl rfl) (by decide) rfl (s1_X8_emit hM133 hpr a109 (by omega) gf gn (nxF gf gn gi) (by omega) (by omega) (by omega)) gX8_atom_X8_emit rfl hdX8_emit (by decide) (Nat.le_of_ble_eq_true rfl) dX8_atom_32 rfl (fun M136 h137 => ?_)
      obtain ⟨hM136, h138⟩ := h137
      have bM136 := tkx_b (f := gf) (n := gn) (M := M136) (by omega)
      have qM136 := po_eq gn (nxF gf gn gi) (M133.1 78 5).toInt (psX M133) (M136.1 78 5).toInt (psX M136) (by omega) (by omega) (by omega)
      refine j_goto C 72 dX8_atom_35 (by decide) ?_
      have u139r := rr_eq ((atP gf gn true (fun i => (0, 0, i))) gi) (M0.1 78 5).toInt (M0.1 78 6).toInt (M133.1 78 5).toInt (M133.1 78 6).toInt (psX M133) (M136.1 78 5).toInt (M136.1 78 6).toInt (psX M136) (at_1 gf gn true (fun i => (0, 0, i)) gi (M0.1 78 5).toInt (M0.1 78 6).toInt (psX M0) (M133.1 78 5).toInt (M133.1 78 6).toInt (psX M133) (by omega) (by omega) (by omega) (by omega) (by omega) (by omega)) (by omega) (by omega) (by omega)
      have u139l : b01 (CL AGC (M136.1 78 5).toInt M0 M136 ((atL gf gn true (fun _ => [])) gi)) = 1 := cl_e (cl_t (cl_r (A := AGC) (M := M0) (N := M133) (M133.1 78 5).toInt (agc_78 eM133)) (show b01 (CL AGC (M136.1 78 5).toInt M133 M136 [cmF a109]) = 1 by omega) (fun z => by omega)) (fun z => by rw [at_l1 gf gn true (fun _ => []) (show b01 (PO gn gi (M0.1 78 5).toInt (psX M0)) = 1 by omega) (by omega) (by omega), show tkF gf gn (psX M0) = a109 by omega]; rfl)
      have zr := (rfx_t (rfx_i (rfx_r M0) eM133 (by decide)) (show b01 (RFX M133 M136) = 1 by omega)); exact hret _ _ _ dX8_atom_72 ⟨hM136, by omega⟩
  · have u140r := rr_no ((atP gf gn true (fun i => (0, 0, i))) gi) (M0.1 78 5).toInt (M0.1 78 6).toInt (M0.1 78 5).toInt (M0.1 78 6).toInt (psX M0) (by omega) rfl rfl
    have u140l := cl_n (A := AGC) (M := M0) (N := M0) ((atL gf gn true (fun _ => [])) gi) (a := (M0.1 78 5).toInt) (by omega)
    have zr := (rfx_r M0); exact hret _ _ _ dX8_atom_7 ⟨hM0, by omega⟩
set_option maxHeartbeats 4000000 in
theorem s2_X8_term {l : Launch} {dC : Nat → ClassId} {dI : Nat → Nat → Nat} {ad : Nat → Nat} {cA : Nat → ClassId} {pr : Nat → Nat → Bool} {Kz : mm_M} {M0 : mm_M} (hM0 : INV pr Kz M0) (hpr : PX pr) (gf : Nat → Int) (gn : Int) (gi : Int) (hp0 : csX M0 ≤ (M0.1 78 2).toInt) (hp1 : b01 (TKX gf gn M0) = 1) (hp2 : b01 (PO gn gi (M0.1 78 5).toInt (psX M0)) = 1) : Cv l 4 yX8_term wsX8_term dC dI ad cA [.ref (ad 78), .int (sI 6)] M0 (fun M' => INV pr Kz M' ∧ (csX M' - csX M0 ≤ (M'.1 78 2).toInt - (M0.1 78 2).toInt) ∧ (b01 (CL AGC (M'.1 78 5).toInt M0 M' ((teL gf gn true (fun i => (0, 0, i)) (fun _ => [])) gi)) = 1) ∧ (b01 (TKX gf gn M') = 1) ∧ b01 (RR ((teP gf gn true (fun i => (0, 0, i))) gi) (M0.1 78 5).toInt (M0.1 78 6).toInt (M'.1 78 5).toInt (M'.1 78 6).toInt (psX M')) = 1 ∧ (b01 (RFX M0 M') = 1)) := by
  refine cv_of (cc := cX8_term) (maxL := 3) (lv := [(0, .ref (ad 78)), (1, .int (sI 6))]) (by decide) rfl (Nat.le_of_ble_eq_true rfl) rfl ?_
  intro p e s m args below meth c A Q C hret
  refine j_aload_n C 0 0 dX8_term_0 rfl rfl ?_
  refine j_iload_n C 1 1 dX8_term_1 rfl rfl ?_
  refine j_callVv C (d := 3) (As := [.int (sI 6)]) (st := []) 78 (s_lt rfl rfl) (s_kc (c := 7) rfl rfl) (by decide) rfl (s2_X8_atom hM0 hpr gf gn gi (by omega) (by omega) (by omega)) gX8_term_X8_atom rfl hdX8_atom (by decide) (Nat.le_of_ble_eq_true rfl) dX8_term_2 rfl (fun M102 h103 => ?_)
  obtain ⟨hM102, h104⟩ := h103
  have bM102 := tkx_b (f := gf) (n := gn) (M := M102) (by omega)
  have qM102 := po_rr (atP gf gn true (fun i => (0, 0, i))) gn gi (M0.1 78 5).toInt (M0.1 78 6).toInt (psX M0) (M102.1 78 5).toInt (M102.1 78 6).toInt (psX M102) (at_g gf gn (fun h => by cases h)) (by omega) (by omega)
  refine y_iconst C dX8_term_5 ?_
  have u105l := ll_0 (luP gf gn 2042 2042 (atP gf gn true (fun i => (0, 0, i)))) gn ((atP gf gn true (fun i => (0, 0, i))) gi).2.2 (M102.1 78 5).toInt (M102.1 78 6).toInt (psX M102) (by omega)
  have u105c := lc_0 (A := AGC) (M102.1 78 5).toInt (luL gf gn 2042 2042 (atP gf gn true (fun i => (0, 0, i))) (atL gf gn true (fun _ => []))) ((atP gf gn true (fun i => (0, 0, i))) gi).2.2 M102
  refine j_istore_n C 2 [(2, .int (sI 0)), (0, .ref (ad 78)), (1, .int (sI 6))] dX8_term_6 rfl (by decide) rfl ?_
  have L135 : ∀ (n133 : Nat), ∀ (a136 : Int) (M137 : mm_M) (gq138 : Int), (0 ≤ a136 ∧ a136 ≤ 900 ∧ (b01 (LL (luP gf gn 2042 2042 (atP gf gn true (fun i => (0, 0, i)))) gn ((atP gf gn true (fun i => (0, 0, i))) gi).2.2 gq138 a136 (M102.1 78 5).toInt (M102.1 78 6).toInt (M137.1 78 5).toInt (M137.1 78 6).toInt (psX M137)) = 1) ∧ (b01 (LC AGC (M137.1 78 5).toInt (luL gf gn 2042 2042 (atP gf gn true (fun i => (0, 0, i))) (atL gf gn true (fun _ => []))) ((atP gf gn true (fun i => (0, 0, i))) gi).2.2 gq138 M102 M137) = 1) ∧ (csX M137 - csX M102 ≤ (M137.1 78 2).toInt - (M102.1 78 2).toInt) ∧ (b01 (TKX gf gn M137) = 1) ∧ (b01 (PO gn gq138 (M137.1 78 5).toInt (psX M137)) = 1) ∧ (b01 (RFX M0 M137) = 1) ∧ (900 - a136) < (n133 : Int)) → INV pr Kz M137 → jj p l e (cn_R 4) s m args below meth c 0 0 Q 3 dC dI ad cA A M137 7 [(0, .ref (ad 78)), (1, .int (sI 6)), (2, .int (sI a136))] [] := by
    intro n133
    induction n133 with
    | zero =>
      intro a136 M137 gq138 h139 hM137
      exfalso; omega
    | succ n133 ih134 =>
      intro a136 M137 gq138 h139 hM137
      have u140b := tkx_b (f := gf) (n := gn) (M := M137) (by omega)
      refine j_iload_n C 2 2 dX8_term_7 rfl rfl ?_
      refine y_sipush C dX8_term_8 rfl ?_
      refine y_icmp_ge C 59 dX8_term_11 (by decide) (by omega) (fun h141 => ?_) (fun h141 => ?_)
      · have u164e := ll_e gf gn 2042 2042 (atP gf gn true (fun i => (0, 0, i))) ((atP gf gn true (fun i => (0, 0, i))) gi).2.2 gq138 a136 (M102.1 78 5).toInt (M102.1 78 6).toInt (M137.1 78 5).toInt (M137.1 78 6).toInt (psX M137) (by decide) (at_g gf gn (fun h => by cases h)) (by omega) (by omega)
        have u164r : b01 (RR ((teP gf gn true (fun i => (0, 0, i))) gi) (M0.1 78 5).toInt (M0.1 78 6).toInt (M137.1 78 5).toInt (M137.1 78 6).toInt (psX M137)) = 1 := rr_sq ((atP gf gn true (fun i => (0, 0, i))) gi) (luP gf gn 2042 2042 (atP gf gn true (fun i => (0, 0, i)))) (M0.1 78 5).toInt (M0.1 78 6).toInt (M102.1 78 5).toInt (M102.1 78 6).toInt (psX M102) (M137.1 78 5).toInt (M137.1 78 6).toInt (psX M137) (by omega) (by omega)
        have u164x := lc_e gf gn 2042 2042 (atP gf gn true (fun i => (0, 0, i))) ((atL gf gn true (fun _ => []))) (by decide) (show b01 (LC AGC (M137.1 78 5).toInt (luL gf gn 2042 2042 (atP gf gn true (fun i => (0, 0, i))) (atL gf gn true (fun _ => []))) ((atP gf gn true (fun i => (0, 0, i))) gi).2.2 gq138 M102 M137) = 1 by omega) (show b01 (LL (luP gf gn 2042 2042 (atP gf gn true (fun i => (0, 0, i)))) gn ((atP gf gn true (fun i => (0, 0, i))) gi).2.2 gq138 a136 (M102.1 78 5).toInt (M102.1 78 6).toInt (M137.1 78 5).toInt (M137.1 78 6).toInt (psX M137)) = 1 by omega) (by omega)
        have u164l : b01 (CL AGC (M137.1 78 5).toInt M0 M137 ((teL gf gn true (fun i => (0, 0, i)) (fun _ => [])) gi)) = 1 := cl_e (cl_t (show b01 (CL AGC (M102.1 78 5).toInt M0 M102 ((atL gf gn true (fun _ => [])) gi)) = 1 by omega) u164x (fun z => rr_z (show b01 (RR ((luP gf gn 2042 2042 (atP gf gn true (fun i => (0, 0, i)))) ((atP gf gn true (fun i => (0, 0, i))) gi).2.2) (M102.1 78 5).toInt (M102.1 78 6).toInt (M137.1 78 5).toInt (M137.1 78 6).toInt (psX M137)) = 1 by omega) z)) (fun z => rfl)
        have zr := (show b01 (RFX M0 M137) = 1 by omega); exact hret _ _ _ dX8_term_59 ⟨hM137, by omega⟩
      · refine j_aload_n C 0 0 dX8_term_14 rfl rfl ?_
        refine y_getI C 7 _ _ fX8_term_22 rfl rfl ft_7_5 sb_7_5 hM137 dX8_term_15 (fun a142 ea142 la142 ua142 => ?_)
        refine y_if_ne C 59 dX8_term_18 (by decide) (by omega) (fun h144 => ?_) (fun h144 => ?_)
        · have u165e := ll_e gf gn 2042 2042 (atP gf gn true (fun i => (0, 0, i))) ((atP gf gn true (fun i => (0, 0, i))) gi).2.2 gq138 a136 (M102.1 78 5).toInt (M102.1 78 6).toInt (M137.1 78 5).toInt (M137.1 78 6).toInt (psX M137) (by decide) (at_g gf gn (fun h => by cases h)) (by omega) (by omega)
          have u165r : b01 (RR ((teP gf gn true (fun i => (0, 0, i))) gi) (M0.1 78 5).toInt (M0.1 78 6).toInt (M137.1 78 5).toInt (M137.1 78 6).toInt (psX M137)) = 1 := rr_sq ((atP gf gn true (fun i => (0, 0, i))) gi) (luP gf gn 2042 2042 (atP gf gn true (fun i => (0, 0, i)))) (M0.1 78 5).toInt (M0.1 78 6).toInt (M102.1 78 5).toInt (M102.1 78 6).toInt (psX M102) (M137.1 78 5).toInt (M137.1 78 6).toInt (psX M137) (by omega) (by omega)
          have u165x := lc_e gf gn 2042 2042 (atP gf gn true (fun i => (0, 0, i))) ((atL gf gn true (fun _ => []))) (by decide) (show b01 (LC AGC (M137.1 78 5).toInt (luL gf gn 2042 2042 (atP gf gn true (fun i => (0, 0, i))) (atL gf gn true (fun _ => []))) ((atP gf gn true (fun i => (0, 0, i))) gi).2.2 gq138 M102 M137) = 1 by omega) (show b01 (LL (luP gf gn 2042 2042 (atP gf gn true (fun i => (0, 0, i)))) gn ((atP gf gn true (fun i => (0, 0, i))) gi).2.2 gq138 a136 (M102.1 78 5).toInt (M102.1 78 6).toInt (M137.1 78 5).toInt (M137.1 78 6).toInt (psX M137)) = 1 by omega) (by omega)
          have u165l : b01 (CL AGC (M137.1 78 5).toInt M0 M137 ((teL gf gn true (fun i => (0, 0, i)) (fun _ => [])) gi)) = 1 := cl_e (cl_t (show b01 (CL AGC (M102.1 78 5).toInt M0 M102 ((atL gf gn true (fun _ => [])) gi)) = 1 by omega) u165x (fun z => rr_z (show b01 (RR ((luP gf gn 2042 2042 (atP gf gn true (fun i => (0, 0, i)))) ((atP gf gn true (fun i => (0, 0, i))) gi).2.2) (M102.1 78 5).toInt (M102.1 78 6).toInt (M137.1 78 5).toInt (M137.1 78 6).toInt (psX M137)) = 1 by omega) z)) (fun z => rfl)
          have zr := (show b01 (RFX M0 M137) = 1 by omega); exact hret _ _ _ dX8_term_59 ⟨hM137, by omega⟩
        · refine j_aload_n C 0 0 dX8_term_21 rfl rfl ?_
          refine j_callVi C (d := 0) (As := []) (st := []) 78 (s_lt rfl rfl) (s_kc (c := 7) rfl rfl) (by decide) rfl (s1_X8_token hM137 gf gn gq138 (by omega) (by omega)) gX8_term_X8_token rfl hdX8_token (by decide) (Nat.le_of_ble_eq_true rfl) dX8_term_22 rfl (fun r145 M146 h147 => ?_)
          obtain ⟨a149, rfl, rfl, h148⟩ := h147
          refine y_sipush C dX8_term_25 rfl ?_
          refine y_icmp_ne C 59 dX8_term_28 (by decide) (by omega) (fun h150 => ?_) (fun h150 => ?_)
          · have u166e := ll_e gf gn 2042 2042 (atP gf gn true (fun i => (0, 0, i))) ((atP gf gn true (fun i => (0, 0, i))) gi).2.2 gq138 a136 (M102.1 78 5).toInt (M102.1 78 6).toInt (M137.1 78 5).toInt (M137.1 78 6).toInt (psX M137) (by decide) (at_g gf gn (fun h => by cases h)) (by omega) (by omega)
            have u166r : b01 (RR ((teP gf gn true (fun i => (0, 0, i))) gi) (M0.1 78 5).toInt (M0.1 78 6).toInt (M137.1 78 5).toInt (M137.1 78 6).toInt (psX M137)) = 1 := rr_sq ((atP gf gn true (fun i => (0, 0, i))) gi) (luP gf gn 2042 2042 (atP gf gn true (fun i => (0, 0, i)))) (M0.1 78 5).toInt (M0.1 78 6).toInt (M102.1 78 5).toInt (M102.1 78 6).toInt (psX M102) (M137.1 78 5).toInt (M137.1 78 6).toInt (psX M137) (by omega) (by omega)
            have u166x := lc_e gf gn 2042 2042 (atP gf gn true (fun i => (0, 0, i))) ((atL gf gn true (fun _ => []))) (by decide) (show b01 (LC AGC (M137.1 78 5).toInt (luL gf gn 2042 2042 (atP gf gn true (fun i => (0, 0, i))) (atL gf gn true (fun _ => []))) ((atP gf gn true (fun i => (0, 0, i))) gi).2.2 gq138 M102 M137) = 1 by omega) (show b01 (LL (luP gf gn 2042 2042 (atP gf gn true (fun i => (0, 0, i)))) gn ((atP gf gn true (fun i => (0, 0, i))) gi).2.2 gq138 a136 (M102.1 78 5).toInt (M102.1 78 6).toInt (M137.1 78 5).toInt (M137.1 78 6).toInt (psX M137)) = 1 by omega) (by omega)
            have u166l : b01 (CL AGC (M137.1 78 5).toInt M0 M137 ((teL gf gn true (fun i => (0, 0, i)) (fun _ => [])) gi)) = 1 := cl_e (cl_t (show b01 (CL AGC (M102.1 78 5).toInt M0 M102 ((atL gf gn true (fun _ => [])) gi)) = 1 by omega) u166x (fun z => rr_z (show b01 (RR ((luP gf gn 2042 2042 (atP gf gn true (fun i => (0, 0, i)))) ((atP gf gn true (fun i => (0, 0, i))) gi).2.2) (M102.1 78 5).toInt (M102.1 78 6).toInt (M137.1 78 5).toInt (M137.1 78 6).toInt (psX M137)) = 1 by omega) z)) (fun z => rfl)
            have zr := (show b01 (RFX M0 M137) = 1 by omega); exact hret _ _ _ dX8_term_59 ⟨hM137, by omega⟩
          · refine j_aload_n C 0 0 dX8_term_31 rfl rfl ?_
            refine j_dup C dX8_term_32 rfl ?_
            refine y_getI C 7 _ _ fX8_term_18 rfl rfl ft_7_2 sb_7_2 hM137 dX8_term_33 (fun a151 ea151 la151 ua151 => ?_)
            refine y_iconst C dX8_term_36 ?_
            refine y_iadd C dX8_term_37 ?_
            refine y_putI C 7 _ _ qX8_term_18 rfl rfl ft_7_2 sb_7_2 hM137 (PX.w hpr rfl rfl) dX8_term_38 (by omega) (fun M153 eM153 hM153 => ?_)
            have xM153 := tkx_j (f := gf) (n := gn) (gi := gq138) eM153 (by omega) (by omega) (by omega) (by omega)
            have dM153 := cs_w hM137 (c := 7) rfl eM153 (by decide)
            have gM153 := s_wr eM153 (by omega)
            refine j_aload_n C 0 0 dX8_term_41 rfl rfl ?_
            refine j_iload_n C 1 1 dX8_term_42 rfl rfl ?_
            refine j_callVv C (d := 3) (As := [.int (sI 6)]) (st := []) 78 (s_lt rfl rfl) (s_kc (c := 7) rfl rfl) (by decide) rfl (s2_X8_atom hM153 hpr gf gn (nxF gf gn gq138) (by omega) (by omega) (by omega)) gX8_term_X8_atom rfl hdX8_atom (by decide) (Nat.le_of_ble_eq_true rfl) dX8_term_43 rfl (fun M155 h156 => ?_)
            obtain ⟨hM155, h157⟩ := h156
            have bM155 := tkx_b (f := gf) (n := gn) (M := M155) (by omega)
            have qM155 := po_rr (atP gf gn true (fun i => (0, 0, i))) gn (nxF gf gn gq138) (M153.1 78 5).toInt (M153.1 78 6).toInt (psX M153) (M155.1 78 5).toInt (M155.1 78 6).toInt (psX M155) (at_g gf gn (fun h => by cases h)) (by omega) (by omega)
            refine j_aload_n C 0 0 dX8_term_46 rfl rfl ?_
            refine y_sipush C dX8_term_47 rfl ?_
            have u158b := tkx_b (f := gf) (n := gn) (M := M155) (by omega)
            refine j_callVv C (d := 0) (As := [.int (sI 2042)]) (st := []) 78 (s_lt rfl rfl) (s_kc (c := 7) rfl rfl) (by decide) rfl (s1_X8_emit hM155 hpr 2042 (by omega) gf gn ((atP gf gn true (fun i => (0, 0, i))) (nxF gf gn gq138)).2.2 (by omega) (by omega) (by omega)) gX8_term_X8_emit rfl hdX8_emit (by decide) (Nat.le_of_ble_eq_true rfl) dX8_term_50 rfl (fun M160 h161 => ?_)
            obtain ⟨hM160, h162⟩ := h161
            have bM160 := tkx_b (f := gf) (n := gn) (M := M160) (by omega)
            have qM160 := po_eq gn ((atP gf gn true (fun i => (0, 0, i))) (nxF gf gn gq138)).2.2 (M155.1 78 5).toInt (psX M155) (M160.1 78 5).toInt (psX M160) (by omega) (by omega) (by omega)
            refine y_iinc C 2 [(2, .int (sI (a136 + 1))), (0, .ref (ad 78)), (1, .int (sI 6))] dX8_term_53 rfl (by decide) rfl ?_
            have u163s := ll_s gf gn 2042 2042 (atP gf gn true (fun i => (0, 0, i))) ((atP gf gn true (fun i => (0, 0, i))) gi).2.2 gq138 a136 (M102.1 78 5).toInt (M102.1 78 6).toInt (M137.1 78 5).toInt (M137.1 78 6).toInt (psX M137) (M153.1 78 5).toInt (M153.1 78 6).toInt (M155.1 78 5).toInt (M155.1 78 6).toInt (psX M155) (M160.1 78 5).toInt (M160.1 78 6).toInt (psX M160) (by decide) (at_g gf gn (fun h => by cases h)) (by omega) (by omega) (by omega) (by omega) (by omega) (by omega) (by omega) (by omega) (by omega)
            have u163c := lc_s gf gn 2042 2042 (atP gf gn true (fun i => (0, 0, i))) (atL gf gn true (fun _ => [])) (by decide) (at_g gf gn (fun h => by cases h)) (show b01 (LC AGC (M137.1 78 5).toInt (luL gf gn 2042 2042 (atP gf gn true (fun i => (0, 0, i))) (atL gf gn true (fun _ => []))) ((atP gf gn true (fun i => (0, 0, i))) gi).2.2 gq138 M102 M137) = 1 by omega) (show b01 (PO gn gq138 (M137.1 78 5).toInt (psX M137)) = 1 by omega) (by omega) (show b01 (RR ((atP gf gn true (fun i => (0, 0, i))) (nxF gf gn gq138)) (M153.1 78 5).toInt (M153.1 78 6).toInt (M155.1 78 5).toInt (M155.1 78 6).toInt (psX M155)) = 1 by omega) (fun z => by omega) (cl_e (L := ([] ++ ((atL gf gn true (fun _ => [])) (nxF gf gn gq138))) ++ [cmF 2042]) (cl_t (cl_t (cl_r (A := AGC) (M := M137) (N := M153) (M153.1 78 5).toInt (agc_78 eM153)) (show b01 (CL AGC (M155.1 78 5).toInt M153 M155 ((atL gf gn true (fun _ => [])) (nxF gf gn gq138))) = 1 by omega) (fun z => rr_z (show b01 (RR ((atP gf gn true (fun i => (0, 0, i))) (nxF gf gn gq138)) (M153.1 78 5).toInt (M153.1 78 6).toInt (M155.1 78 5).toInt (M155.1 78 6).toInt (psX M155)) = 1 by omega) z)) (show b01 (CL AGC (M160.1 78 5).toInt M155 M160 [cmF 2042]) = 1 by omega) (fun z => by omega)) (fun z => by rw [show tkF gf gn (psX M137) = 2042 by omega, List.nil_append]) : b01 (CL AGC (M160.1 78 5).toInt M137 M160 (((atL gf gn true (fun _ => [])) (nxF gf gn gq138)) ++ [cmF (tkF gf gn (psX M137))])) = 1) (fun z => by omega)
            refine j_goto C 7 dX8_term_56 (by decide) ?_
            have zr := (rfx_t (rfx_t (rfx_i (show b01 (RFX M0 M137) = 1 by omega) eM153 (by decide)) (show b01 (RFX M153 M155) = 1 by omega)) (show b01 (RFX M155 M160) = 1 by omega)); refine j_lv [1, 2, 0] rfl ?_; exact ih134 (a136 + 1) M160 ((atP gf gn true (fun i => (0, 0, i))) (nxF gf gn gq138)).2.2 (by omega) hM160
  have zr := (rfx_t (rfx_r M0) (show b01 (RFX M0 M102) = 1 by omega)); refine j_lv [1, 2, 0] rfl ?_; exact L135 2010 0 M102 ((atP gf gn true (fun i => (0, 0, i))) gi).2.2 (by omega) hM102
