set_option maxHeartbeats 4000000 in
theorem s3_X8_both {l : Launch} {dC : Nat → ClassId} {dI : Nat → Nat → Nat} {ad : Nat → Nat} {cA : Nat → ClassId} {pr : Nat → Nat → Bool} {Kz : mm_M} {M0 : mm_M} (hM0 : INV pr Kz M0) (hpr : PX pr) (gf : Nat → Int) (gn : Int) (gi : Int) (hp0 : csX M0 ≤ (M0.1 78 2).toInt) (hp1 : b01 (TKX gf gn M0) = 1) (hp2 : b01 (PO gn gi (M0.1 78 5).toInt (psX M0)) = 1) : Cv l 10 yX8_both wsX8_both dC dI ad cA [.ref (ad 78), .int (sI 5)] M0 (fun M' => INV pr Kz M' ∧ (csX M' - csX M0 ≤ (M'.1 78 2).toInt - (M0.1 78 2).toInt) ∧ (b01 (CL AGC (M'.1 78 5).toInt M0 M' ((boL gf gn (unR gf gn 1) (uLR gf gn 1)) gi)) = 1) ∧ (b01 (TKX gf gn M') = 1) ∧ b01 (RR ((boP gf gn (unR gf gn 1)) gi) (M0.1 78 5).toInt (M0.1 78 6).toInt (M'.1 78 5).toInt (M'.1 78 6).toInt (psX M')) = 1 ∧ (b01 (RFX M0 M') = 1)) := by
  refine cv_of (cc := cX8_both) (maxL := 3) (lv := [(0, .ref (ad 78)), (1, .int (sI 5))]) (by decide) rfl (Nat.le_of_ble_eq_true rfl) rfl ?_
  intro p e s m args below meth c A Q C hret
  refine j_aload_n C 0 0 dX8_both_0 rfl rfl ?_
  refine j_iload_n C 1 1 dX8_both_1 rfl rfl ?_
  refine j_callVv C (d := 9) (As := [.int (sI 5)]) (st := []) 78 (s_lt rfl rfl) (s_kc (c := 7) rfl rfl) (by decide) rfl (s3_X8_unit hM0 hpr gf gn gi (by omega) (by omega) (by omega)) gX8_both_X8_unit rfl hdX8_unit (by decide) (Nat.le_of_ble_eq_true rfl) dX8_both_2 rfl (fun M102 h103 => ?_)
  obtain ⟨hM102, h104⟩ := h103
  have bM102 := tkx_b (f := gf) (n := gn) (M := M102) (by omega)
  have qM102 := po_rr (unR gf gn 1) gn gi (M0.1 78 5).toInt (M0.1 78 6).toInt (psX M0) (M102.1 78 5).toInt (M102.1 78 6).toInt (psX M102) (unR_g gf gn 1) (by omega) (by omega)
  refine y_iconst C dX8_both_5 ?_
  have u105l := ll_0 (luP gf gn 1015 1015 (unR gf gn 1)) gn ((unR gf gn 1) gi).2.2 (M102.1 78 5).toInt (M102.1 78 6).toInt (psX M102) (by omega)
  have u105c := lc_0 (A := AGC) (M102.1 78 5).toInt (luL gf gn 1015 1015 (unR gf gn 1) (uLR gf gn 1)) ((unR gf gn 1) gi).2.2 M102
  refine j_istore_n C 2 [(2, .int (sI 0)), (0, .ref (ad 78)), (1, .int (sI 5))] dX8_both_6 rfl (by decide) rfl ?_
  have L135 : ∀ (n133 : Nat), ∀ (a136 : Int) (M137 : mm_M) (gq138 : Int), (0 ≤ a136 ∧ a136 ≤ 900 ∧ (b01 (LL (luP gf gn 1015 1015 (unR gf gn 1)) gn ((unR gf gn 1) gi).2.2 gq138 a136 (M102.1 78 5).toInt (M102.1 78 6).toInt (M137.1 78 5).toInt (M137.1 78 6).toInt (psX M137)) = 1) ∧ (b01 (LC AGC (M137.1 78 5).toInt (luL gf gn 1015 1015 (unR gf gn 1) (uLR gf gn 1)) ((unR gf gn 1) gi).2.2 gq138 M102 M137) = 1) ∧ (csX M137 - csX M102 ≤ (M137.1 78 2).toInt - (M102.1 78 2).toInt) ∧ (b01 (TKX gf gn M137) = 1) ∧ (b01 (PO gn gq138 (M137.1 78 5).toInt (psX M137)) = 1) ∧ (b01 (RFX M0 M137) = 1) ∧ (900 - a136) < (n133 : Int)) → INV pr Kz M137 → jj p l e (cn_R 10) s m args below meth c 0 0 Q 3 dC dI ad cA A M137 7 [(0, .ref (ad 78)), (1, .int (sI 5)), (2, .int (sI a136))] [] := by
    intro n133
    induction n133 with
    | zero =>
      intro a136 M137 gq138 h139 hM137
      exfalso; omega
    | succ n133 ih134 =>
      intro a136 M137 gq138 h139 hM137
      have u140b := tkx_b (f := gf) (n := gn) (M := M137) (by omega)
      refine j_iload_n C 2 2 dX8_both_7 rfl rfl ?_
      refine y_sipush C dX8_both_8 rfl ?_
      refine y_icmp_ge C 59 dX8_both_11 (by decide) (by omega) (fun h141 => ?_) (fun h141 => ?_)
      · have u164e := ll_e gf gn 1015 1015 (unR gf gn 1) ((unR gf gn 1) gi).2.2 gq138 a136 (M102.1 78 5).toInt (M102.1 78 6).toInt (M137.1 78 5).toInt (M137.1 78 6).toInt (psX M137) (by decide) (unR_g gf gn 1) (by omega) (by omega)
        have u164r : b01 (RR ((boP gf gn (unR gf gn 1)) gi) (M0.1 78 5).toInt (M0.1 78 6).toInt (M137.1 78 5).toInt (M137.1 78 6).toInt (psX M137)) = 1 := rr_sq ((unR gf gn 1) gi) (luP gf gn 1015 1015 (unR gf gn 1)) (M0.1 78 5).toInt (M0.1 78 6).toInt (M102.1 78 5).toInt (M102.1 78 6).toInt (psX M102) (M137.1 78 5).toInt (M137.1 78 6).toInt (psX M137) (by omega) (by omega)
        have u164x := lc_e gf gn 1015 1015 (unR gf gn 1) ((uLR gf gn 1)) (by decide) (show b01 (LC AGC (M137.1 78 5).toInt (luL gf gn 1015 1015 (unR gf gn 1) (uLR gf gn 1)) ((unR gf gn 1) gi).2.2 gq138 M102 M137) = 1 by omega) (show b01 (LL (luP gf gn 1015 1015 (unR gf gn 1)) gn ((unR gf gn 1) gi).2.2 gq138 a136 (M102.1 78 5).toInt (M102.1 78 6).toInt (M137.1 78 5).toInt (M137.1 78 6).toInt (psX M137)) = 1 by omega) (by omega)
        have u164l : b01 (CL AGC (M137.1 78 5).toInt M0 M137 ((boL gf gn (unR gf gn 1) (uLR gf gn 1)) gi)) = 1 := cl_e (cl_t (show b01 (CL AGC (M102.1 78 5).toInt M0 M102 ((uLR gf gn 1) gi)) = 1 by omega) u164x (fun z => rr_z (show b01 (RR ((luP gf gn 1015 1015 (unR gf gn 1)) ((unR gf gn 1) gi).2.2) (M102.1 78 5).toInt (M102.1 78 6).toInt (M137.1 78 5).toInt (M137.1 78 6).toInt (psX M137)) = 1 by omega) z)) (fun z => rfl)
        have zr := (show b01 (RFX M0 M137) = 1 by omega); exact hret _ _ _ dX8_both_59 ⟨hM137, by omega⟩
      · refine j_aload_n C 0 0 dX8_both_14 rfl rfl ?_
        refine y_getI C 7 _ _ fX8_both_22 rfl rfl ft_7_5 sb_7_5 hM137 dX8_both_15 (fun a142 ea142 la142 ua142 => ?_)
        refine y_if_ne C 59 dX8_both_18 (by decide) (by omega) (fun h144 => ?_) (fun h144 => ?_)
        · have u165e := ll_e gf gn 1015 1015 (unR gf gn 1) ((unR gf gn 1) gi).2.2 gq138 a136 (M102.1 78 5).toInt (M102.1 78 6).toInt (M137.1 78 5).toInt (M137.1 78 6).toInt (psX M137) (by decide) (unR_g gf gn 1) (by omega) (by omega)
          have u165r : b01 (RR ((boP gf gn (unR gf gn 1)) gi) (M0.1 78 5).toInt (M0.1 78 6).toInt (M137.1 78 5).toInt (M137.1 78 6).toInt (psX M137)) = 1 := rr_sq ((unR gf gn 1) gi) (luP gf gn 1015 1015 (unR gf gn 1)) (M0.1 78 5).toInt (M0.1 78 6).toInt (M102.1 78 5).toInt (M102.1 78 6).toInt (psX M102) (M137.1 78 5).toInt (M137.1 78 6).toInt (psX M137) (by omega) (by omega)
          have u165x := lc_e gf gn 1015 1015 (unR gf gn 1) ((uLR gf gn 1)) (by decide) (show b01 (LC AGC (M137.1 78 5).toInt (luL gf gn 1015 1015 (unR gf gn 1) (uLR gf gn 1)) ((unR gf gn 1) gi).2.2 gq138 M102 M137) = 1 by omega) (show b01 (LL (luP gf gn 1015 1015 (unR gf gn 1)) gn ((unR gf gn 1) gi).2.2 gq138 a136 (M102.1 78 5).toInt (M102.1 78 6).toInt (M137.1 78 5).toInt (M137.1 78 6).toInt (psX M137)) = 1 by omega) (by omega)
          have u165l : b01 (CL AGC (M137.1 78 5).toInt M0 M137 ((boL gf gn (unR gf gn 1) (uLR gf gn 1)) gi)) = 1 := cl_e (cl_t (show b01 (CL AGC (M102.1 78 5).toInt M0 M102 ((uLR gf gn 1) gi)) = 1 by omega) u165x (fun z => rr_z (show b01 (RR ((luP gf gn 1015 1015 (unR gf gn 1)) ((unR gf gn 1) gi).2.2) (M102.1 78 5).toInt (M102.1 78 6).toInt (M137.1 78 5).toInt (M137.1 78 6).toInt (psX M137)) = 1 by omega) z)) (fun z => rfl)
          have zr := (show b01 (RFX M0 M137) = 1 by omega); exact hret _ _ _ dX8_both_59 ⟨hM137, by omega⟩
        · refine j_aload_n C 0 0 dX8_both_21 rfl rfl ?_
          refine j_callVi C (d := 0) (As := []) (st := []) 78 (s_lt rfl rfl) (s_kc (c := 7) rfl rfl) (by decide) rfl (s1_X8_token hM137 gf gn gq138 (by omega) (by omega)) gX8_both_X8_token rfl hdX8_token (by decide) (Nat.le_of_ble_eq_true rfl) dX8_both_22 rfl (fun r145 M146 h147 => ?_)
          obtain ⟨a149, rfl, rfl, h148⟩ := h147
          refine y_sipush C dX8_both_25 rfl ?_
          refine y_icmp_ne C 59 dX8_both_28 (by decide) (by omega) (fun h150 => ?_) (fun h150 => ?_)
          · have u166e := ll_e gf gn 1015 1015 (unR gf gn 1) ((unR gf gn 1) gi).2.2 gq138 a136 (M102.1 78 5).toInt (M102.1 78 6).toInt (M137.1 78 5).toInt (M137.1 78 6).toInt (psX M137) (by decide) (unR_g gf gn 1) (by omega) (by omega)
            have u166r : b01 (RR ((boP gf gn (unR gf gn 1)) gi) (M0.1 78 5).toInt (M0.1 78 6).toInt (M137.1 78 5).toInt (M137.1 78 6).toInt (psX M137)) = 1 := rr_sq ((unR gf gn 1) gi) (luP gf gn 1015 1015 (unR gf gn 1)) (M0.1 78 5).toInt (M0.1 78 6).toInt (M102.1 78 5).toInt (M102.1 78 6).toInt (psX M102) (M137.1 78 5).toInt (M137.1 78 6).toInt (psX M137) (by omega) (by omega)
            have u166x := lc_e gf gn 1015 1015 (unR gf gn 1) ((uLR gf gn 1)) (by decide) (show b01 (LC AGC (M137.1 78 5).toInt (luL gf gn 1015 1015 (unR gf gn 1) (uLR gf gn 1)) ((unR gf gn 1) gi).2.2 gq138 M102 M137) = 1 by omega) (show b01 (LL (luP gf gn 1015 1015 (unR gf gn 1)) gn ((unR gf gn 1) gi).2.2 gq138 a136 (M102.1 78 5).toInt (M102.1 78 6).toInt (M137.1 78 5).toInt (M137.1 78 6).toInt (psX M137)) = 1 by omega) (by omega)
            have u166l : b01 (CL AGC (M137.1 78 5).toInt M0 M137 ((boL gf gn (unR gf gn 1) (uLR gf gn 1)) gi)) = 1 := cl_e (cl_t (show b01 (CL AGC (M102.1 78 5).toInt M0 M102 ((uLR gf gn 1) gi)) = 1 by omega) u166x (fun z => rr_z (show b01 (RR ((luP gf gn 1015 1015 (unR gf gn 1)) ((unR gf gn 1) gi).2.2) (M102.1 78 5).toInt (M102.1 78 6).toInt (M137.1 78 5).toInt (M137.1 78 6).toInt (psX M137)) = 1 by omega) z)) (fun z => rfl)
            have zr := (show b01 (RFX M0 M137) = 1 by omega); exact hret _ _ _ dX8_both_59 ⟨hM137, by omega⟩
          · refine j_aload_n C 0 0 dX8_both_31 rfl rfl ?_
            refine j_dup C dX8_both_32 rfl ?_
            refine y_getI C 7 _ _ fX8_both_18 rfl rfl ft_7_2 sb_7_2 hM137 dX8_both_33 (fun a151 ea151 la151 ua151 => ?_)
            refine y_iconst C dX8_both_36 ?_
            refine y_iadd C dX8_both_37 ?_
            refine y_putI C 7 _ _ qX8_both_18 rfl rfl ft_7_2 sb_7_2 hM137 (PX.w hpr rfl rfl) dX8_both_38 (by omega) (fun M153 eM153 hM153 => ?_)
            have xM153 := tkx_j (f := gf) (n := gn) (gi := gq138) eM153 (by omega) (by omega) (by omega) (by omega)
            have dM153 := cs_w hM137 (c := 7) rfl eM153 (by decide)
            have gM153 := s_wr eM153 (by omega)
            refine j_aload_n C 0 0 dX8_both_41 rfl rfl ?_
            refine j_iload_n C 1 1 dX8_both_42 rfl rfl ?_
            refine j_callVv C (d := 9) (As := [.int (sI 5)]) (st := []) 78 (s_lt rfl rfl) (s_kc (c := 7) rfl rfl) (by decide) rfl (s3_X8_unit hM153 hpr gf gn (nxF gf gn gq138) (by omega) (by omega) (by omega)) gX8_both_X8_unit rfl hdX8_unit (by decide) (Nat.le_of_ble_eq_true rfl) dX8_both_43 rfl (fun M155 h156 => ?_)
            obtain ⟨hM155, h157⟩ := h156
            have bM155 := tkx_b (f := gf) (n := gn) (M := M155) (by omega)
            have qM155 := po_rr (unR gf gn 1) gn (nxF gf gn gq138) (M153.1 78 5).toInt (M153.1 78 6).toInt (psX M153) (M155.1 78 5).toInt (M155.1 78 6).toInt (psX M155) (unR_g gf gn 1) (by omega) (by omega)
            refine j_aload_n C 0 0 dX8_both_46 rfl rfl ?_
            refine y_sipush C dX8_both_47 rfl ?_
            have u158b := tkx_b (f := gf) (n := gn) (M := M155) (by omega)
            refine j_callVv C (d := 0) (As := [.int (sI 1015)]) (st := []) 78 (s_lt rfl rfl) (s_kc (c := 7) rfl rfl) (by decide) rfl (s1_X8_emit hM155 hpr 1015 (by omega) gf gn ((unR gf gn 1) (nxF gf gn gq138)).2.2 (by omega) (by omega) (by omega)) gX8_both_X8_emit rfl hdX8_emit (by decide) (Nat.le_of_ble_eq_true rfl) dX8_both_50 rfl (fun M160 h161 => ?_)
            obtain ⟨hM160, h162⟩ := h161
            have bM160 := tkx_b (f := gf) (n := gn) (M := M160) (by omega)
            have qM160 := po_eq gn ((unR gf gn 1) (nxF gf gn gq138)).2.2 (M155.1 78 5).toInt (psX M155) (M160.1 78 5).toInt (psX M160) (by omega) (by omega) (by omega)
            refine y_iinc C 2 [(2, .int (sI (a136 + 1))), (0, .ref (ad 78)), (1, .int (sI 5))] dX8_both_53 rfl (by decide) rfl ?_
            have u163s := ll_s gf gn 1015 1015 (unR gf gn 1) ((unR gf gn 1) gi).2.2 gq138 a136 (M102.1 78 5).toInt (M102.1 78 6).toInt (M137.1 78 5).toInt (M137.1 78 6).toInt (psX M137) (M153.1 78 5).toInt (M153.1 78 6).toInt (M155.1 78 5).toInt (M155.1 78 6).toInt (psX M155) (M160.1 78 5).toInt (M160.1 78 6).toInt (psX M160) (by decide) (unR_g gf gn 1) (by omega) (by omega) (by omega) (by omega) (by omega) (by omega) (by omega) (by omega) (by omega)
            have u163c := lc_s gf gn 1015 1015 (unR gf gn 1) (uLR gf gn 1) (by decide) (unR_g gf gn 1) (show b01 (LC AGC (M137.1 78 5).toInt (luL gf gn 1015 1015 (unR gf gn 1) (uLR gf gn 1)) ((unR gf gn 1) gi).2.2 gq138 M102 M137) = 1 by omega) (show b01 (PO gn gq138 (M137.1 78 5).toInt (psX M137)) = 1 by omega) (by omega) (show b01 (RR ((unR gf gn 1) (nxF gf gn gq138)) (M153.1 78 5).toInt (M153.1 78 6).toInt (M155.1 78 5).toInt (M155.1 78 6).toInt (psX M155)) = 1 by omega) (fun z => by omega) (cl_e (L := ([] ++ ((uLR gf gn 1) (nxF gf gn gq138))) ++ [cmF 1015]) (cl_t (cl_t (cl_r (A := AGC) (M := M137) (N := M153) (M153.1 78 5).toInt (agc_78 eM153)) (show b01 (CL AGC (M155.1 78 5).toInt M153 M155 ((uLR gf gn 1) (nxF gf gn gq138))) = 1 by omega) (fun z => rr_z (show b01 (RR ((unR gf gn 1) (nxF gf gn gq138)) (M153.1 78 5).toInt (M153.1 78 6).toInt (M155.1 78 5).toInt (M155.1 78 6).toInt (psX M155)) = 1 by omega) z)) (show b01 (CL AGC (M160.1 78 5).toInt M155 M160 [cmF 1015]) = 1 by omega) (fun z => by omega)) (fun z => by rw [show tkF gf gn (psX M137) = 1015 by omega, List.nil_append]) : b01 (CL AGC (M160.1 78 5).toInt M137 M160 (((uLR gf gn 1) (nxF gf gn gq138)) ++ [cmF (tkF gf gn (psX M137))])) = 1) (fun z => by omega)
            refine j_goto C 7 dX8_both_56 (by decide) ?_
            have zr := (rfx_t (rfx_t (rfx_i (show b01 (RFX M0 M137) = 1 by omega) eM153 (by decide)) (show b01 (RFX M153 M155) = 1 by omega)) (show b01 (RFX M155 M160) = 1 by omega)); refine j_lv [1, 2, 0] rfl ?_; exact ih134 (a136 + 1) M160 ((unR gf gn 1) (nxF gf gn gq138)).2.2 (by omega) hM160
  have zr := (rfx_t (rfx_r M0) (show b01 (RFX M0 M102) = 1 by omega)); refine j_lv [1, 2, 0] rfl ?_; exact L135 2010 0 M102 ((unR gf gn 1) gi).2.2 (by omega) hM102
set_option maxHeartbeats 4000000 in
theorem s3_X8_truth {l : Launch} {dC : Nat → ClassId} {dI : Nat → Nat → Nat} {ad : Nat → Nat} {cA : Nat → ClassId} {pr : Nat → Nat → Bool} {Kz : mm_M} {M0 : mm_M} (hM0 : INV pr Kz M0) (hpr : PX pr) (gf : Nat → Int) (gn : Int) (gi : Int) (hp0 : csX M0 ≤ (M0.1 78 2).toInt) (hp1 : b01 (TKX gf gn M0) = 1) (hp2 : b01 (PO gn gi (M0.1 78 5).toInt (psX M0)) = 1) : Cv l 11 yX8_truth wsX8_truth dC dI ad cA [.ref (ad 78), .int (sI 5)] M0 (fun M' => INV pr Kz M' ∧ (csX M' - csX M0 ≤ (M'.1 78 2).toInt - (M0.1 78 2).toInt) ∧ (b01 (CL AGC (M'.1 78 5).toInt M0 M' ((trL gf gn (unR gf gn 1) (uLR gf gn 1)) gi)) = 1) ∧ (b01 (TKX gf gn M') = 1) ∧ b01 (RR ((trP gf gn (unR gf gn 1)) gi) (M0.1 78 5).toInt (M0.1 78 6).toInt (M'.1 78 5).toInt (M'.1 78 6).toInt (psX M')) = 1 ∧ (b01 (RFX M0 M') = 1)) := by
  refine cv_of (cc := cX8_truth) (maxL := 3) (lv := [(0, .ref (ad 78)), (1, .int (sI 5))]) (by decide) rfl (Nat.le_of_ble_eq_true rfl) rfl ?_
  intro p e s m args below meth c A Q C hret
  refine j_aload_n C 0 0 dX8_truth_0 rfl rfl ?_
  refine j_iload_n C 1 1 dX8_truth_1 rfl rfl ?_
  refine j_callVv C (d := 10) (As := [.int (sI 5)]) (st := []) 78 (s_lt rfl rfl) (s_kc (c := 7) rfl rfl) (by decide) rfl (s3_X8_both hM0 hpr gf gn gi (by omega) (by omega) (by omega)) gX8_truth_X8_both rfl hdX8_both (by decide) (Nat.le_of_ble_eq_true rfl) dX8_truth_2 rfl (fun M102 h103 => ?_)
  obtain ⟨hM102, h104⟩ := h103
  have bM102 := tkx_b (f := gf) (n := gn) (M := M102) (by omega)
  have qM102 := po_rr (boP gf gn (unR gf gn 1)) gn gi (M0.1 78 5).toInt (M0.1 78 6).toInt (psX M0) (M102.1 78 5).toInt (M102.1 78 6).toInt (psX M102) (bo_g gf gn (unR_g gf gn 1)) (by omega) (by omega)
  refine y_iconst C dX8_truth_5 ?_
  have u105l := ll_0 (luP gf gn 1014 1014 (boP gf gn (unR gf gn 1))) gn ((boP gf gn (unR gf gn 1)) gi).2.2 (M102.1 78 5).toInt (M102.1 78 6).toInt (psX M102) (by omega)
  have u105c := lc_0 (A := AGC) (M102.1 78 5).toInt (luL gf gn 1014 1014 (boP gf gn (unR gf gn 1)) (boL gf gn (unR gf gn 1) (uLR gf gn 1))) ((boP gf gn (unR gf gn 1)) gi).2.2 M102
  refine j_istore_n C 2 [(2, .int (sI 0)), (0, .ref (ad 78)), (1, .int (sI 5))] dX8_truth_6 rfl (by decide) rfl ?_
  have L135 : ∀ (n133 : Nat), ∀ (a136 : Int) (M137 : mm_M) (gq138 : Int), (0 ≤ a136 ∧ a136 ≤ 900 ∧ (b01 (LL (luP gf gn 1014 1014 (boP gf gn (unR gf gn 1))) gn ((boP gf gn (unR gf gn 1)) gi).2.2 gq138 a136 (M102.1 78 5).toInt (M102.1 78 6).toInt (M137.1 78 5).toInt (M137.1 78 6).toInt (psX M137)) = 1) ∧ (b01 (LC AGC (M137.1 78 5).toInt (luL gf gn 1014 1014 (boP gf gn (unR gf gn 1)) (boL gf gn (unR gf gn 1) (uLR gf gn 1))) ((boP gf gn (unR gf gn 1)) gi).2.2 gq138 M102 M137) = 1) ∧ (csX M137 - csX M102 ≤ (M137.1 78 2).toInt - (M102.1 78 2).toInt) ∧ (b01 (TKX gf gn M137) = 1) ∧ (b01 (PO gn gq138 (M137.1 78 5).toInt (psX M137)) = 1) ∧ (b01 (RFX M0 M137) = 1) ∧ (900 - a136) < (n133 : Int)) → INV pr Kz M137 → jj p l e (cn_R 11) s m args below meth c 0 0 Q 3 dC dI ad cA A M137 7 [(0, .ref (ad 78)), (1, .int (sI 5)), (2, .int (sI a136))] [] := by
    intro n133
    induction n133 with
    | zero =>
      intro a136 M137 gq138 h139 hM137
      exfalso; omega
    | succ n133 ih134 =>
      intro a136 M137 gq138 h139 hM137
      have u140b := tkx_b (f := gf) (n := gn) (M := M137) (by omega)
      refine j_iload_n C 2 2 dX8_truth_7 rfl rfl ?_
      refine y_sipush C dX8_truth_8 rfl ?_
      refine y_icmp_ge C 59 dX8_truth_11 (by decide) (by omega) (fun h141 => ?_) (fun h141 => ?_)
      · have u164e := ll_e gf gn 1014 1014 (boP gf gn (unR gf gn 1)) ((boP gf gn (unR gf gn 1)) gi).2.2 gq138 a136 (M102.1 78 5).toInt (M102.1 78 6).toInt (M137.1 78 5).toInt (M137.1 78 6).toInt (psX M137) (by decide) (bo_g gf gn (unR_g gf gn 1)) (by omega) (by omega)
        have u164r : b01 (RR ((trP gf gn (unR gf gn 1)) gi) (M0.1 78 5).toInt (M0.1 78 6).toInt (M137.1 78 5).toInt (M137.1 78 6).toInt (psX M137)) = 1 := rr_sq ((boP gf gn (unR gf gn 1)) gi) (luP gf gn 1014 1014 (boP gf gn (unR gf gn 1))) (M0.1 78 5).toInt (M0.1 78 6).toInt (M102.1 78 5).toInt (M102.1 78 6).toInt (psX M102) (M137.1 78 5).toInt (M137.1 78 6).toInt (psX M137) (by omega) (by omega)
        have u164x := lc_e gf gn 1014 1014 (boP gf gn (unR gf gn 1)) ((boL gf gn (unR gf gn 1) (uLR gf gn 1))) (by decide) (show b01 (LC AGC (M137.1 78 5).toInt (luL gf gn 1014 1014 (boP gf gn (unR gf gn 1)) (boL gf gn (unR gf gn 1) (uLR gf gn 1))) ((boP gf gn (unR gf gn 1)) gi).2.2 gq138 M102 M137) = 1 by omega) (show b01 (LL (luP gf gn 1014 1014 (boP gf gn (unR gf gn 1))) gn ((boP gf gn (unR gf gn 1)) gi).2.2 gq138 a136 (M102.1 78 5).toInt (M102.1 78 6).toInt (M137.1 78 5).toInt (M137.1 78 6).toInt (psX M137)) = 1 by omega) (by omega)
        have u164l : b01 (CL AGC (M137.1 78 5).toInt M0 M137 ((trL gf gn (unR gf gn 1) (uLR gf gn 1)) gi)) = 1 := cl_e (cl_t (show b01 (CL AGC (M102.1 78 5).toInt M0 M102 ((boL gf gn (unR gf gn 1) (uLR gf gn 1)) gi)) = 1 by omega) u164x (fun z => rr_z (show b01 (RR ((luP gf gn 1014 1014 (boP gf gn (unR gf gn 1))) ((boP gf gn (unR gf gn 1)) gi).2.2) (M102.1 78 5).toInt (M102.1 78 6).toInt (M137.1 78 5).toInt (M137.1 78 6).toInt (psX M137)) = 1 by omega) z)) (fun z => rfl)
        have zr := (show b01 (RFX M0 M137) = 1 by omega); exact hret _ _ _ dX8_truth_59 ⟨hM137, by omega⟩
      · refine j_aload_n C 0 0 dX8_truth_14 rfl rfl ?_
        refine y_getI C 7 _ _ fX8_truth_22 rfl rfl ft_7_5 sb_7_5 hM137 dX8_truth_15 (fun a142 ea142 la142 ua142 => ?_)
        refine y_if_ne C 59 dX8_truth_18 (by decide) (by omega) (fun h144 => ?_) (fun h144 => ?_)
        · have u165e := ll_e gf gn 1014 1014 (boP gf gn (unR gf gn 1)) ((boP gf gn (unR gf gn 1)) gi).2.2 gq138 a136 (M102.1 78 5).toInt (M102.1 78 6).toInt (M137.1 78 5).toInt (M137.1 78 6).toInt (psX M137) (by decide) (bo_g gf gn (unR_g gf gn 1)) (by omega) (by omega)
          have u165r : b01 (RR ((trP gf gn (unR gf gn 1)) gi) (M0.1 78 5).toInt (M0.1 78 6).toInt (M137.1 78 5).toInt (M137.1 78 6).toInt (psX M137)) = 1 := rr_sq ((boP gf gn (unR gf gn 1)) gi) (luP gf gn 1014 1014 (boP gf gn (unR gf gn 1))) (M0.1 78 5).toInt (M0.1 78 6).toInt (M102.1 78 5).toInt (M102.1 78 6).toInt (psX M102) (M137.1 78 5).toInt (M137.1 78 6).toInt (psX M137) (by omega) (by omega)
          have u165x := lc_e gf gn 1014 1014 (boP gf gn (unR gf gn 1)) ((boL gf gn (unR gf gn 1) (uLR gf gn 1))) (by decide) (show b01 (LC AGC (M137.1 78 5).toInt (luL gf gn 1014 1014 (boP gf gn (unR gf gn 1)) (boL gf gn (unR gf gn 1) (uLR gf gn 1))) ((boP gf gn (unR gf gn 1)) gi).2.2 gq138 M102 M137) = 1 by omega) (show b01 (LL (luP gf gn 1014 1014 (boP gf gn (unR gf gn 1))) gn ((boP gf gn (unR gf gn 1)) gi).2.2 gq138 a136 (M102.1 78 5).toInt (M102.1 78 6).toInt (M137.1 78 5).toInt (M137.1 78 6).toInt (psX M137)) = 1 by omega) (by omega)
          have u165l : b01 (CL AGC (M137.1 78 5).toInt M0 M137 ((trL gf gn (unR gf gn 1) (uLR gf gn 1)) gi)) = 1 := cl_e (cl_t (show b01 (CL AGC (M102.1 78 5).toInt M0 M102 ((boL gf gn (unR gf gn 1) (uLR gf gn 1)) gi)) = 1 by omega) u165x (fun z => rr_z (show b01 (RR ((luP gf gn 1014 1014 (boP gf gn (unR gf gn 1))) ((boP gf gn (unR gf gn 1)) gi).2.2) (M102.1 78 5).toInt (M102.1 78 6).toInt (M137.1 78 5).toInt (M137.1 78 6).toInt (psX M137)) = 1 by omega) z)) (fun z => rfl)
          have zr := (show b01 (RFX M0 M137) = 1 by omega); exact hret _ _ _ dX8_truth_59 ⟨hM137, by omega⟩
        · refine j_aload_n C 0 0 dX8_truth_21 rfl rfl ?_
          refine j_callVi C (d := 0) (As := []) (st := []) 78 (s_lt rfl rfl) (s_kc (c := 7) rfl rfl) (by decide) rfl (s1_X8_token hM137 gf gn gq138 (by omega) (by omega)) gX8_truth_X8_token rfl hdX8_token (by decide) (Nat.le_of_ble_eq_true rfl) dX8_truth_22 rfl (fun r145 M146 h147 => ?_)
          obtain ⟨a149, rfl, rfl, h148⟩ := h147
          refine y_sipush C dX8_truth_25 rfl ?_
          refine y_icmp_ne C 59 dX8_truth_28 (by decide) (by omega) (fun h150 => ?_) (fun h150 => ?_)
          · have u166e := ll_e gf gn 1014 1014 (boP gf gn (unR gf gn 1)) ((boP gf gn (unR gf gn 1)) gi).2.2 gq138 a136 (M102.1 78 5).toInt (M102.1 78 6).toInt (M137.1 78 5).toInt (M137.1 78 6).toInt (psX M137) (by decide) (bo_g gf gn (unR_g gf gn 1)) (by omega) (by omega)
            have u166r : b01 (RR ((trP gf gn (unR gf gn 1)) gi) (M0.1 78 5).toInt (M0.1 78 6).toInt (M137.1 78 5).toInt (M137.1 78 6).toInt (psX M137)) = 1 := rr_sq ((boP gf gn (unR gf gn 1)) gi) (luP gf gn 1014 1014 (boP gf gn (unR gf gn 1))) (M0.1 78 5).toInt (M0.1 78 6).toInt (M102.1 78 5).toInt (M102.1 78 6).toInt (psX M102) (M137.1 78 5).toInt (M137.1 78 6).toInt (psX M137) (by omega) (by omega)
            have u166x := lc_e gf gn 1014 1014 (boP gf gn (unR gf gn 1)) ((boL gf gn (unR gf gn 1) (uLR gf gn 1))) (by decide) (show b01 (LC AGC (M137.1 78 5).toInt (luL gf gn 1014 1014 (boP gf gn (unR gf gn 1)) (boL gf gn (unR gf gn 1) (uLR gf gn 1))) ((boP gf gn (unR gf gn 1)) gi).2.2 gq138 M102 M137) = 1 by omega) (show b01 (LL (luP gf gn 1014 1014 (boP gf gn (unR gf gn 1))) gn ((boP gf gn (unR gf gn 1)) gi).2.2 gq138 a136 (M102.1 78 5).toInt (M102.1 78 6).toInt (M137.1 78 5).toInt (M137.1 78 6).toInt (psX M137)) = 1 by omega) (by omega)
            have u166l : b01 (CL AGC (M137.1 78 5).toInt M0 M137 ((trL gf gn (unR gf gn 1) (uLR gf gn 1)) gi)) = 1 := cl_e (cl_t (show b01 (CL AGC (M102.1 78 5).toInt M0 M102 ((boL gf gn (unR gf gn 1) (uLR gf gn 1)) gi)) = 1 by omega) u166x (fun z => rr_z (show b01 (RR ((luP gf gn 1014 1014 (boP gf gn (unR gf gn 1))) ((boP gf gn (unR gf gn 1)) gi).2.2) (M102.1 78 5).toInt (M102.1 78 6).toInt (M137.1 78 5).toInt (M137.1 78 6).toInt (psX M137)) = 1 by omega) z)) (fun z => rfl)
            have zr := (show b01 (RFX M0 M137) = 1 by omega); exact hret _ _ _ dX8_truth_59 ⟨hM137, by omega⟩
          · refine j_aload_n C 0 0 dX8_truth_31 rfl rfl ?_
            refine j_dup C dX8_truth_32 rfl ?_
            refine y_getI C 7 _ _ fX8_truth_18 rfl rfl ft_7_2 sb_7_2 hM137 dX8_truth_33 (fun a151 ea151 la151 ua151 => ?_)
            refine y_iconst C dX8_truth_36 ?_
            refine y_iadd C dX8_truth_37 ?_
            refine y_putI C 7 _ _ qX8_truth_18 rfl rfl ft_7_2 sb_7_2 hM137 (PX.w hpr rfl rfl) dX8_truth_38 (by omega) (fun M153 eM153 hM153 => ?_)
            have xM153 := tkx_j (f := gf) (n := gn) (gi := gq138) eM153 (by omega) (by omega) (by omega) (by omega)
            have dM153 := cs_w hM137 (c := 7) rfl eM153 (by decide)
            have gM153 := s_wr eM153 (by omega)
            refine j_aload_n C 0 0 dX8_truth_41 rfl rfl ?_
            refine j_iload_n C 1 1 dX8_truth_42 rfl rfl ?_
            refine j_callVv C (d := 10) (As := [.int (sI 5)]) (st := []) 78 (s_lt rfl rfl) (s_kc (c := 7) rfl rfl) (by decide) rfl (s3_X8_both hM153 hpr gf gn (nxF gf gn gq138) (by omega) (by omega) (by omega)) gX8_truth_X8_both rfl hdX8_both (by decide) (Nat.le_of_ble_eq_true rfl) dX8_truth_43 rfl (fun M155 h156 => ?_)
            obtain ⟨hM155, h157⟩ := h156
            have bM155 := tkx_b (f := gf) (n := gn) (M := M155) (by omega)
            have qM155 := po_rr (boP gf gn (unR gf gn 1)) gn (nxF gf gn gq138) (M153.1 78 5).toInt (M153.1 78 6).toInt (psX M153) (M155.1 78 5).toInt (M155.1 78 6).toInt (psX M155) (bo_g gf gn (unR_g gf gn 1)) (by omega) (by omega)
            refine j_aload_n C 0 0 dX8_truth_46 rfl rfl ?_
            refine y_sipush C dX8_truth_47 rfl ?_
            have u158b := tkx_b (f := gf) (n := gn) (M := M155) (by omega)
            refine j_callVv C (d := 0) (As := [.int (sI 1014)]) (st := []) 78 (s_lt rfl rfl) (s_kc (c := 7) rfl rfl) (by decide) rfl (s1_X8_emit hM155 hpr 1014 (by omega) gf gn ((boP gf gn (unR gf gn 1)) (nxF gf gn gq138)).2.2 (by omega) (by omega) (by omega)) gX8_truth_X8_emit rfl hdX8_emit (by decide) (Nat.le_of_ble_eq_true rfl) dX8_truth_50 rfl (fun M160 h161 => ?_)
            obtain ⟨hM160, h162⟩ := h161
            have bM160 := tkx_b (f := gf) (n := gn) (M := M160) (by omega)
            have qM160 := po_eq gn ((boP gf gn (unR gf gn 1)) (nxF gf gn gq138)).2.2 (M155.1 78 5).toInt (psX M155) (M160.1 78 5).toInt (psX M160) (by omega) (by omega) (by omega)
            refine y_iinc C 2 [(2, .int (sI (a136 + 1))), (0, .ref (ad 78)), (1, .int (sI 5))] dX8_truth_53 rfl (by decide) rfl ?_
            have u163s := ll_s gf gn 1014 1014 (boP gf gn (unR gf gn 1)) ((boP gf gn (unR gf gn 1)) gi).2.2 gq138 a136 (M102.1 78 5).toInt (M102.1 78 6).toInt (M137.1 78 5).toInt (M137.1 78 6).toInt (psX M137) (M153.1 78 5).toInt (M153.1 78 6).toInt (M155.1 78 5).toInt (M155.1 78 6).toInt (psX M155) (M160.1 78 5).toInt (M160.1 78 6).toInt (psX M160) (by decide) (bo_g gf gn (unR_g gf gn 1)) (by omega) (by omega) (by omega) (by omega) (by omega) (by omega) (by omega) (by omega) (by omega)
            have u163c := lc_s gf gn 1014 1014 (boP gf gn (unR gf gn 1)) (boL gf gn (unR gf gn 1) (uLR gf gn 1)) (by decide) (bo_g gf gn (unR_g gf gn 1)) (show b01 (LC AGC (M137.1 78 5).toInt (luL gf gn 1014 1014 (boP gf gn (unR gf gn 1)) (boL gf gn (unR gf gn 1) (uLR gf gn 1))) ((boP gf gn (unR gf gn 1)) gi).2.2 gq138 M102 M137) = 1 by omega) (show b01 (PO gn gq138 (M137.1 78 5).toInt (psX M137)) = 1 by omega) (by omega) (show b01 (RR ((boP gf gn (unR gf gn 1)) (nxF gf gn gq138)) (M153.1 78 5).toInt (M153.1 78 6).toInt (M155.1 78 5).toInt (M155.1 78 6).toInt (psX M155)) = 1 by omega) (fun z => by omega) (cl_e (L := ([] ++ ((boL gf gn (unR gf gn 1) (uLR gf gn 1)) (nxF gf gn gq138))) ++ [cmF 1014]) (cl_t (cl_t (cl_r (A := AGC) (M := M137) (N := M153) (M153.1 78 5).toInt (agc_78 eM153)) (show b01 (CL AGC (M155.1 78 5).toInt M153 M155 ((boL gf gn (unR gf gn 1) (uLR gf gn 1)) (nxF gf gn gq138))) = 1 by omega) (fun z => rr_z (show b01 (RR ((boP gf gn (unR gf gn 1)) (nxF gf gn gq138)) (M153.1 78 5).toInt (M153.1 78 6).toInt (M155.1 78 5).toInt (M155.1 78 6).toInt (psX M155)) = 1 by omega) z)) (show b01 (CL AGC (M160.1 78 5).toInt M155 M160 [cmF 1014]) = 1 by omega) (fun z => by omega)) (fun z => by rw [show tkF gf gn (psX M137) = 1014 by omega, List.nil_append]) : b01 (CL AGC (M160.1 78 5).toInt M137 M160 (((boL gf gn (unR gf gn 1) (uLR gf gn 1)) (nxF gf gn gq138)) ++ [cmF (tkF gf gn (psX M137))])) = 1) (fun z => by omega)
            refine j_goto C 7 dX8_truth_56 (by decide) ?_
            have zr := (rfx_t (rfx_t (rfx_i (show b01 (RFX M0 M137) = 1 by omega) eM153 (by decide)) (show b01 (RFX M153 M155) = 1 by omega)) (show b01 (RFX M155 M160) = 1 by omega)); refine j_lv [1, 2, 0] rfl ?_; exact ih134 (a136 + 1) M160 ((boP gf gn (unR gf gn 1)) (nxF gf gn gq138)).2.2 (by omega) hM160
  have zr := (rfx_t (rfx_r M0) (show b01 (RFX M0 M102) = 1 by omega)); refine j_lv [1, 2, 0] rfl ?_; exact L135 2010 0 M102 ((boP gf gn (unR gf gn 1)) gi).2.2 (by omega) hM102
set_option maxHeartbeats 4000000 in
theorem s4_X8_unit {l : Launch} {dC : Nat → ClassId} {dI : Nat → Nat → Nat} {ad : Nat → Nat} {cA : Nat → ClassId} {pr : Nat → Nat → Bool} {Kz : mm_M} {M0 : mm_M} (hM0 : INV pr Kz M0) (hpr : PX pr) (gf : Nat → Int) (gn : Int) (gi : Int) (hp0 : csX M0 ≤ (M0.1 78 2).toInt) (hp1 : b01 (TKX gf gn M0) = 1) (hp2 : b01 (PO gn gi (M0.1 78 5).toInt (psX M0)) = 1) : Cv l 12 yX8_unit wsX8_unit dC dI ad cA [.ref (ad 78), .int (sI 4)] M0 (fun M' => INV pr Kz M' ∧ (csX M' - csX M0 ≤ (M'.1 78 2).toInt - (M0.1 78 2).toInt) ∧ (b01 (CL AGC (M'.1 78 5).toInt M0 M' ((uLR gf gn 2) gi)) = 1) ∧ (b01 (TKX gf gn M') = 1) ∧ b01 (RR ((unR gf gn 2) gi) (M0.1 78 5).toInt (M0.1 78 6).toInt (M'.1 78 5).toInt (M'.1 78 6).toInt (psX M')) = 1 ∧ (b01 (RFX M0 M') = 1)) := by
  refine cv_of (cc := cX8_unit) (maxL := 4) (lv := [(0, .ref (ad 78)), (1, .int (sI 4))]) (by decide) rfl (Nat.le_of_ble_eq_true rfl) rfl ?_
  intro p e s m args below meth c A Q C hret
  refine j_aload_n C 0 0 dX8_unit_0 rfl rfl ?_
  refine y_getI C 7 _ _ fX8_unit_22 rfl rfl ft_7_5 sb_7_5 hM0 dX8_unit_1 (fun a101 ea101 la101 ua101 => ?_)
  refine y_if_eq C 8 dX8_unit_4 (by decide) (by omega) (fun h103 => ?_) (fun h103 => ?_)
  · refine j_aload_n C 0 0 dX8_unit_8 rfl rfl ?_
    refine j_callVi C (d := 0) (As := []) (st := []) 78 (s_lt rfl rfl) (s_kc (c := 7) rfl rfl) (by decide) rfl (s1_X8_token hM0 gf gn gi (by omega) (by omega)) gX8_unit_X8_token rfl hdX8_token (by decide) (Nat.le_of_ble_eq_true rfl) dX8_unit_9 rfl (fun r104 M105 h106 => ?_)
    obtain ⟨a108, rfl, rfl, h107⟩ := h106
    refine j_istore_n C 2 [(2, .int (sI a108)), (0, .ref (ad 78)), (1, .int (sI 4))] dX8_unit_12 rfl (by decide) rfl ?_
    refine j_iload_n C 0 2 dX8_unit_13 rfl rfl ?_
    refine y_sipush C dX8_unit_14 rfl ?_
    refine y_icmp_ne C 42 dX8_unit_17 (by decide) (by omega) (fun h109 => ?_) (fun h109 => ?_)
    · refine j_iload_n C 0 2 dX8_unit_42 rfl rfl ?_
      refine y_sipush C dX8_unit_43 rfl ?_
      refine y_icmp_ne C 71 dX8_unit_46 (by decide) (by omega) (fun h110 => ?_) (fun h110 => ?_)
      · refine j_aload_n C 1 0 dX8_unit_71 rfl rfl ?_
        refine j_iload_n C 2 1 dX8_unit_72 rfl rfl ?_
        refine j_callVv C (d := 11) (As := [.int (sI 4)]) (st := []) 78 (s_lt rfl rfl) (s_kc (c := 7) rfl rfl) (by decide) rfl (s4_X8_sum hM0 hpr gf gn gi (by omega) (by omega) (by omega)) gX8_unit_X8_sum rfl hdX8_sum (by decide) (Nat.le_of_ble_eq_true rfl) dX8_unit_73 rfl (fun M112 h113 => ?_)
        obtain ⟨hM112, h114⟩ := h113
        have bM112 := tkx_b (f := gf) (n := gn) (M := M112) (by omega)
        have qM112 := po_rr (suR gf gn 2) gn gi (M0.1 78 5).toInt (M0.1 78 6).toInt (psX M0) (M112.1 78 5).toInt (M112.1 78 6).toInt (psX M112) (suR_g gf gn 2) (by omega) (by omega)
        refine j_aload_n C 1 0 dX8_unit_76 rfl rfl ?_
        refine j_callVi C (d := 0) (As := []) (st := []) 78 (s_lt rfl rfl) (s_kc (c := 7) rfl rfl) (by decide) rfl (s1_X8_token hM112 gf gn ((suR gf gn 2) gi).2.2 (by omega) (by omega)) gX8_unit_X8_token rfl hdX8_token (by decide) (Nat.le_of_ble_eq_true rfl) dX8_unit_77 rfl (fun r115 M116 h117 => ?_)
        obtain ⟨a119, rfl, rfl, h118⟩ := h117
        refine j_istore_n C 3 [(3, .int (sI a119)), (2, .int (sI a108)), (0, .ref (ad 78)), (1, .int (sI 4))] dX8_unit_80 rfl (by decide) rfl ?_
        refine j_iload_n C 0 3 dX8_unit_81 rfl rfl ?_
        refine y_sipush C dX8_unit_82 rfl ?_
        refine y_icmp_eq C 102 dX8_unit_85 (by decide) (by omega) (fun h120 => ?_) (fun h120 => ?_)
        · refine j_aload_n C 2 0 dX8_unit_102 rfl rfl ?_
          refine j_dup C dX8_unit_103 rfl ?_
          refine y_getI C 7 _ _ fX8_unit_18 rfl rfl ft_7_2 sb_7_2 hM112 dX8_unit_104 (fun a121 ea121 la121 ua121 => ?_)
          refine y_iconst C dX8_unit_107 ?_
          refine y_iadd C dX8_unit_108 ?_
          refine y_putI C 7 _ _ qX8_unit_18 rfl rfl ft_7_2 sb_7_2 hM112 (PX.w hpr rfl rfl) dX8_unit_109 (by omega) (fun M123 eM123 hM123 => ?_)
          have xM123 := tkx_j (f := gf) (n := gn) (gi := ((suR gf gn 2) gi).2.2) eM123 (by omega) (by omega) (by omega) (by omega)
          have dM123 := cs_w hM112 (c := 7) rfl eM123 (by decide)
          have gM123 := s_wr eM123 (by omega)
          refine j_aload_n C 2 0 dX8_unit_112 rfl rfl ?_
          refine j_iload_n C 3 1 dX8_unit_113 rfl rfl ?_
          refine j_callVv C (d := 11) (As := [.int (sI 4)]) (st := []) 78 (s_lt rfl rfl) (s_kc (c := 7) rfl rfl) (by decide) rfl (s4_X8_sum hM123 hpr gf gn (nxF gf gn ((suR gf gn 2) gi).2.2) (by omega) (by omega) (by omega)) gX8_unit_X8_sum rfl hdX8_sum (by decide) (Nat.le_of_ble_eq_true rfl) dX8_unit_114 rfl (fun M125 h126 => ?_)
          obtain ⟨hM125, h127⟩ := h126
          have bM125 := tkx_b (f := gf) (n := gn) (M := M125) (by omega)
          have qM125 := po_rr (suR gf gn 2) gn (nxF gf gn ((suR gf gn 2) gi).2.2) (M123.1 78 5).toInt (M123.1 78 6).toInt (psX M123) (M125.1 78 5).toInt (M125.1 78 6).toInt (psX M125) (suR_g gf gn 2) (by omega) (by omega)
          refine j_aload_n C 2 0 dX8_unit_117 rfl rfl ?_
          refine j_iload_n C 0 3 dX8_unit_118 rfl rfl ?_
          have u128b := tkx_b (f := gf) (n := gn) (M := M125) (by omega)
          refine j_callVv C (d := 0) (As := [.int (sI a119)]) (st := []) 78 (s_lt rfl rfl) (s_kc (c := 7) rfl rfl) (by decide) rfl (s1_X8_emit hM125 hpr a119 (by omega) gf gn ((suR gf gn 2) (nxF gf gn ((suR gf gn 2) gi).2.2)).2.2 (by omega) (by omega) (by omega)) gX8_unit_X8_emit rfl hdX8_emit (by decide) (Nat.le_of_ble_eq_true rfl) dX8_unit_119 rfl (fun M130 h131 => ?_)
          obtain ⟨hM130, h132⟩ := h131
          have bM130 := tkx_b (f := gf) (n := gn) (M := M130) (by omega)
          have qM130 := po_eq gn ((suR gf gn 2) (nxF gf gn ((suR gf gn 2) gi).2.2)).2.2 (M125.1 78 5).toInt (psX M125) (M130.1 78 5).toInt (psX M130) (by omega) (by omega) (by omega)
          refine j_goto C 130 dX8_unit_122 (by decide) ?_
          have u133r := un_4 gf gn 2 gi (M0.1 78 5).toInt (M0.1 78 6).toInt (psX M0) (M112.1 78 5).toInt (M112.1 78 6).toInt (psX M112) (M123.1 78 5).toInt (M123.1 78 6).toInt (M125.1 78 5).toInt (M125.1 78 6).toInt (psX M125) (M130.1 78 5).toInt (M130.1 78 6).toInt (psX M130) (by omega) (by omega) (by omega) (by omega) (by omega) (by omega) (by omega) (by omega) (by omega) (by omega) (by omega)
          have u133l : b01 (CL AGC (M130.1 78 5).toInt M0 M130 ((uLR gf gn 2) gi)) = 1 := cl_e (cl_t (cl_t (cl_t (show b01 (CL AGC (M112.1 78 5).toInt M0 M112 ((sLR gf gn 2) gi)) = 1 by omega) (cl_r (A := AGC) (M := M112) (N := M123) (M123.1 78 5).toInt (agc_78 eM123)) (fun z => by omega)) (show b01 (CL AGC (M125.1 78 5).toInt M123 M125 ((sLR gf gn 2) (nxF gf gn ((suR gf gn 2) gi).2.2))) = 1 by omega) (fun z => rr_z (show b01 (RR ((suR gf gn 2) (nxF gf gn ((suR gf gn 2) gi).2.2)) (M123.1 78 5).toInt (M123.1 78 6).toInt (M125.1 78 5).toInt (M125.1 78 6).toInt (psX M125)) = 1 by omega) z)) (show b01 (CL AGC (M130.1 78 5).toInt M125 M130 [cmF a119]) = 1 by omega) (fun z => by omega)) (fun z => by rw [un_l4 gf gn 2 (show b01 (PO gn gi (M0.1 78 5).toInt (psX M0)) = 1 by omega) (by omega) (by omega) (show b01 (PO gn ((suR gf gn 2) gi).2.2 (M112.1 78 5).toInt (psX M112)) = 1 by omega) (by have y := (fun z => rr_z (show b01 (RR ((suR gf gn 2) (nxF gf gn ((suR gf gn 2) gi).2.2)) (M123.1 78 5).toInt (M123.1 78 6).toInt (M125.1 78 5).toInt (M125.1 78 6).toInt (psX M125)) = 1 by omega) z) (show (M125.1 78 5).toInt = 0 by omega); omega), show tkF gf gn (psX M112) = a119 by omega]; simp)
          have zr := (rfx_t (rfx_t (rfx_i (rfx_t (rfx_r M0) (show b01 (RFX M0 M112) = 1 by omega)) eM123 (by decide)) (show b01 (RFX M123 M125) = 1 by omega)) (show b01 (RFX M125 M130) = 1 by omega)); exact hret _ _ _ dX8_unit_130 ⟨hM130, by omega⟩
        · refine j_iload_n C 0 3 dX8_unit_88 rfl rfl ?_
          refine y_sipush C dX8_unit_89 rfl ?_
          refine y_icmp_eq C 102 dX8_unit_92 (by decide) (by omega) (fun h134 => ?_) (fun h134 => ?_)
          · refine j_aload_n C 2 0 dX8_unit_102 rfl rfl ?_
            refine j_dup C dX8_unit_103 rfl ?_
            refine y_getI C 7 _ _ fX8_unit_18 rfl rfl ft_7_2 sb_7_2 hM112 dX8_unit_104 (fun a135 ea135 la135 ua135 => ?_)
            refine y_iconst C dX8_unit_107 ?_
            refine y_iadd C dX8_unit_108 ?_
            refine y_putI C 7 _ _ qX8_unit_18 rfl rfl ft_7_2 sb_7_2 hM112 (PX.w hpr rfl rfl) dX8_unit_109 (by omega) (fun M137 eM137 hM137 => ?_)
            have xM137 := tkx_j (f := gf) (n := gn) (gi := ((suR gf gn 2) gi).2.2) eM137 (by omega) (by omega) (by omega) (by omega)
            have dM137 := cs_w hM112 (c := 7) rfl eM137 (by decide)
            have gM137 := s_wr eM137 (by omega)
            refine j_aload_n C 2 0 dX8_unit_112 rfl rfl ?_
            refine j_iload_n C 3 1 dX8_unit_113 rfl rfl ?_
            refine j_callVv C (d := 11) (As := [.int (sI 4)]) (st := []) 78 (s_lt rfl rfl) (s_kc (c := 7) rfl rfl) (by decide) rfl (s4_X8_sum hM137 hpr gf gn (nxF gf gn ((suR gf gn 2) gi).2.2) (by omega) (by omega) (by omega)) gX8_unit_X8_sum rfl hdX8_sum (by decide) (Nat.le_of_ble_eq_true rfl) dX8_unit_114 rfl (fun M139 h140 => ?_)
            obtain ⟨hM139, h141⟩ := h140
            have bM139 := tkx_b (f := gf) (n := gn) (M := M139) (by omega)
            have qM139 := po_rr (suR gf gn 2) gn (nxF gf gn ((suR gf gn 2) gi).2.2) (M137.1 78 5).toInt (M137.1 78 6).toInt (psX M137) (M139.1 78 5).toInt (M139.1 78 6).toInt (psX M139) (suR_g gf gn 2) (by omega) (by omega)
            refine j_aload_n C 2 0 dX8_unit_117 rfl rfl ?_
            refine j_iload_n C 0 3 dX8_unit_118 rfl rfl ?_
            have u142b := tkx_b (f := gf) (n := gn) (M := M139) (by omega)
            refine j_callVv C (d := 0) (As := [.int (sI a119)]) (st := []) 78 (s_lt rfl rfl) (s_kc (c := 7) rfl rfl) (by decide) rfl (s1_X8_emit hM139 hpr a119 (by omega) gf gn ((suR gf gn 2) (nxF gf gn ((suR gf gn 2) gi).2.2)).2.2 (by omega) (by omega) (by omega)) gX8_unit_X8_emit rfl hdX8_emit (by decide) (Nat.le_of_ble_eq_true rfl) dX8_unit_119 rfl (fun M144 h145 => ?_)
            obtain ⟨hM144, h146⟩ := h145
            have bM144 := tkx_b (f := gf) (n := gn) (M := M144) (by omega)
            have qM144 := po_eq gn ((suR gf gn 2) (nxF gf gn ((suR gf gn 2) gi).2.2)).2.2 (M139.1 78 5).toInt (psX M139) (M144.1 78 5).toInt (psX M144) (by omega) (by omega) (by omega)
            refine j_goto C 130 dX8_unit_122 (by decide) ?_
            have u147r := un_4 gf gn 2 gi (M0.1 78 5).toInt (M0.1 78 6).toInt (psX M0) (M112.1 78 5).toInt (M112.1 78 6).toInt (psX M112) (M137.1 78 5).toInt (M137.1 78 6).toInt (M139.1 78 5).toInt (M139.1 78 6).toInt (psX M139) (M144.1 78 5).toInt (M144.1 78 6).toInt (psX M144) (by omega) (by omega) (by omega) (by omega) (by omega) (by omega) (by omega) (by omega) (by omega) (by omega) (by omega)
            have u147l : b01 (CL AGC (M144.1 78 5).toInt M0 M144 ((uLR gf gn 2) gi)) = 1 := cl_e (cl_t (cl_t (cl_t (show b01 (CL AGC (M112.1 78 5).toInt M0 M112 ((sLR gf gn 2) gi)) = 1 by omega) (cl_r (A := AGC) (M := M112) (N := M137) (M137.1 78 5).toInt (agc_78 eM137)) (fun z => by omega)) (show b01 (CL AGC (M139.1 78 5).toInt M137 M139 ((sLR gf gn 2) (nxF gf gn ((suR gf gn 2) gi).2.2))) = 1 by omega) (fun z => rr_z (show b01 (RR ((suR gf gn 2) (nxF gf gn ((suR gf gn 2) gi).2.2)) (M137.1 78 5).toInt (M137.1 78 6).toInt (M139.1 78 5).toInt (M139.1 78 6).toInt (psX M139)) = 1 by omega) z)) (show b01 (CL AGC (M144.1 78 5).toInt M139 M144 [cmF a119]) = 1 by omega) (fun z => by omega)) (fun z => by rw [un_l4 gf gn 2 (show b01 (PO gn gi (M0.1 78 5).toInt (psX M0)) = 1 by omega) (by omega) (by omega) (show b01 (PO gn ((suR gf gn 2) gi).2.2 (M112.1 78 5).toInt (psX M112)) = 1 by omega) (by have y := (fun z => rr_z (show b01 (RR ((suR gf gn 2) (nxF gf gn ((suR gf gn 2) gi).2.2)) (M137.1 78 5).toInt (M137.1 78 6).toInt (M139.1 78 5).toInt (M139.1 78 6).toInt (psX M139)) = 1 by omega) z) (show (M139.1 78 5).toInt = 0 by omega); omega), show tkF gf gn (psX M112) = a119 by omega]; simp)
            have zr := (rfx_t (rfx_t (rfx_i (rfx_t (rfx_r M0) (show b01 (RFX M0 M112) = 1 by omega)) eM137 (by decide)) (show b01 (RFX M137 M139) = 1 by omega)) (show b01 (RFX M139 M144) = 1 by omega)); exact hret _ _ _ dX8_unit_130 ⟨hM144, by omega⟩
          · refine j_iload_n C 0 3 dX8_unit_95 rfl rfl ?_
            refine y_sipush C dX8_unit_96 rfl ?_
            refine y_icmp_ne C 125 dX8_unit_99 (by decide) (by omega) (fun h148 => ?_) (fun h148 => ?_)
            · refine j_aload_n C 2 0 dX8_unit_125 rfl rfl ?_
              refine y_iconst C dX8_unit_126 ?_
              refine j_callVv C (d := 0) (As := [.int (sI 2)]) (st := []) 78 (s_lt rfl rfl) (s_kc (c := 7) rfl rfl) (by decide) rfl (s1_X8_fail hM112 hpr 2 (by omega) gf gn ((suR gf gn 2) gi).2.2 (by omega) (by omega) (by omega)) gX8_unit_X8_fail rfl hdX8_fail (by decide) (Nat.le_of_ble_eq_true rfl) dX8_unit_127 rfl (fun M150 h151 => ?_)
              obtain ⟨hM150, fM150, h152⟩ := h151
              have bM150 := tkx_b (f := gf) (n := gn) (M := M150) (by omega)
              have qM150 := po_f gn ((faQ gf gn 2) ((suR gf gn 2) gi).2.2).2.2 (M150.1 78 5).toInt (psX M150) (by omega)
              have dM150 := cs_f hM112 fM150
              have u153r := un_5 gf gn 2 gi (M0.1 78 5).toInt (M0.1 78 6).toInt (psX M0) (M112.1 78 5).toInt (M112.1 78 6).toInt (psX M112) (M150.1 78 5).toInt (M150.1 78 6).toInt (psX M150) (by omega) (by omega) (by omega) (by omega) (fun _ => by omega) (by omega)
              have u153l := cl_n (A := AGC) (M := M0) (N := M150) ((uLR gf gn 2) gi) (a := (M150.1 78 5).toInt) (by omega)
              have zr := (rfx_F (rfx_t (rfx_r M0) (show b01 (RFX M0 M112) = 1 by omega)) fM150); exact hret _ _ _ dX8_unit_130 ⟨hM150, by omega⟩
            · refine j_aload_n C 2 0 dX8_unit_102 rfl rfl ?_
              refine j_dup C dX8_unit_103 rfl ?_
              refine y_getI C 7 _ _ fX8_unit_18 rfl rfl ft_7_2 sb_7_2 hM112 dX8_unit_104 (fun a154 ea154 la154 ua154 => ?_)
              refine y_iconst C dX8_unit_107 ?_
              refine y_iadd C dX8_unit_108 ?_
              refine y_putI C 7 _ _ qX8_unit_18 rfl rfl ft_7_2 sb_7_2 hM112 (PX.w hpr rfl rfl) dX8_unit_109 (by omega) (fun M156 eM156 hM156 => ?_)
              have xM156 := tkx_j (f := gf) (n := gn) (gi := ((suR gf gn 2) gi).2.2) eM156 (by omega) (by omega) (by omega) (by omega)
              have dM156 := cs_w hM112 (c := 7) rfl eM156 (by decide)
              have gM156 := s_wr eM156 (by omega)
              refine j_aload_n C 2 0 dX8_unit_112 rfl rfl ?_
              refine j_iload_n C 3 1 dX8_unit_113 rfl rfl ?_
              refine j_callVv C (d := 11) (As := [.int (sI 4)]) (st := []) 78 (s_lt rfl rfl) (s_kc (c := 7) rfl rfl) (by decide) rfl (s4_X8_sum hM156 hpr gf gn (nxF gf gn ((suR gf gn 2) gi).2.2) (by omega) (by omega) (by omega)) gX8_unit_X8_sum rfl hdX8_sum (by decide) (Nat.le_of_ble_eq_true rfl) dX8_unit_114 rfl (fun M158 h159 => ?_)
              obtain ⟨hM158, h160⟩ := h159
              have bM158 := tkx_b (f := gf) (n := gn) (M := M158) (by omega)
              have qM158 := po_rr (suR gf gn 2) gn (nxF gf gn ((suR gf gn 2) gi).2.2) (M156.1 78 5).toInt (M156.1 78 6).toInt (psX M156) (M158.1 78 5).toInt (M158.1 78 6).toInt (psX M158) (suR_g gf gn 2) (by omega) (by omega)
              refine j_aload_n C 2 0 dX8_unit_117 rfl rfl ?_
              refine j_iload_n C 0 3 dX8_unit_118 rfl rfl ?_
              have u161b := tkx_b (f := gf) (n := gn) (M := M158) (by omega)
              refine j_callVv C (d := 0) (As := [.int (sI a119)]) (st := []) 78 (s_lt rfl rfl) (s_kc (c := 7) rfl rfl) (by decide) rfl (s1_X8_emit hM158 hpr a119 (by omega) gf gn ((suR gf gn 2) (nxF gf gn ((suR gf gn 2) gi).2.2)).2.2 (by omega) (by omega) (by omega)) gX8_unit_X8_emit rfl hdX8_emit (by decide) (Nat.le_of_ble_eq_true rfl) dX8_unit_119 rfl (fun M163 h164 => ?_)
              obtain ⟨hM163, h165⟩ := h164
              have bM163 := tkx_b (f := gf) (n := gn) (M := M163) (by omega)
              have qM163 := po_eq gn ((suR gf gn 2) (nxF gf gn ((suR gf gn 2) gi).2.2)).2.2 (M158.1 78 5).toInt (psX M158) (M163.1 78 5).toInt (psX M163) (by omega) (by omega) (by omega)
              refine j_goto C 130 dX8_unit_122 (by decide) ?_
              have u166r := un_4 gf gn 2 gi (M0.1 78 5).toInt (M0.1 78 6).toInt (psX M0) (M112.1 78 5).toInt (M112.1 78 6).toInt (psX M112) (M156.1 78 5).toInt (M156.1 78 6).toInt (M158.1 78 5).toInt (M158.1 78 6).toInt (psX M158) (M163.1 78 5).toInt (M163.1 78 6).toInt (psX M163) (by omega) (by omega) (by omega) (by omega) (by omega) (by omega) (by omega) (by omega) (by omega) (by omega) (by omega)
              have u166l : b01 (CL AGC (M163.1 78 5).toInt M0 M163 ((uLR gf gn 2) gi)) = 1 := cl_e (cl_t (cl_t (cl_t (show b01 (CL AGC (M112.1 78 5).toInt M0 M112 ((sLR gf gn 2) gi)) = 1 by omega) (cl_r (A := AGC) (M := M112) (N := M156) (M156.1 78 5).toInt (agc_78 eM156)) (fun z => by omega)) (show b01 (CL AGC (M158.1 78 5).toInt M156 M158 ((sLR gf gn 2) (nxF gf gn ((suR gf gn 2) gi).2.2))) = 1 by omega) (fun z => rr_z (show b01 (RR ((suR gf gn 2) (nxF gf gn ((suR gf gn 2) gi).2.2)) (M156.1 78 5).toInt (M156.1 78 6).toInt (M158.1 78 5).toInt (M158.1 78 6).toInt (psX M158)) = 1 by omega) z)) (show b01 (CL AGC (M163.1 78 5).toInt M158 M163 [cmF a119]) = 1 by omega) (fun z => by omega)) (fun z => by rw [un_l4 gf gn 2 (show b01 (PO gn gi (M0.1 78 5).toInt (psX M0)) = 1 by omega) (by omega) (by omega) (show b01 (PO gn ((suR gf gn 2) gi).2.2 (M112.1 78 5).toInt (psX M112)) = 1 by omega) (by have y := (fun z => rr_z (show b01 (RR ((suR gf gn 2) (nxF gf gn ((suR gf gn 2) gi).2.2)) (M156.1 78 5).toInt (M156.1 78 6).toInt (M158.1 78 5).toInt (M158.1 78 6).toInt (psX M158)) = 1 by omega) z) (show (M158.1 78 5).toInt = 0 by omega); omega), show tkF gf gn (psX M112) = a119 by omega]; simp)
              have zr := (rfx_t (rfx_t (rfx_i (rfx_t (rfx_r M0) (show b01 (RFX M0 M112) = 1 by omega)) eM156 (by decide)) (show b01 (RFX M156 M158) = 1 by omega)) (show b01 (RFX M158 M163) = 1 by omega)); exact hret _ _ _ dX8_unit_130 ⟨hM163, by omega⟩
      · refine j_aload_n C 1 0 dX8_unit_49 rfl rfl ?_
        refine j_iload_n C 2 1 dX8_unit_50 rfl rfl ?_
        refine j_callVv C (d := 0) (As := [.int (sI 4)]) (st := []) 78 (s_lt rfl rfl) (s_kc (c := 7) rfl rfl) (by decide) rfl (s5_X8_goDeeper hM0 hpr gf gn gi (by omega) (by omega) (by omega) (by omega) (by omega)) gX8_unit_X8_goDeeper rfl hdX8_goDeeper (by decide) (Nat.le_of_ble_eq_true rfl) dX8_unit_51 rfl (fun M168 h169 => ?_)
        obtain ⟨hM168, fM168, h170⟩ := h169
        have bM168 := tkx_b (f := gf) (n := gn) (M := M168) (by omega)
        have dM168 := cs_f hM0 fM168
        refine j_aload_n C 1 0 dX8_unit_54 rfl rfl ?_
        refine j_iload_n C 2 1 dX8_unit_55 rfl rfl ?_
        refine y_iconst C dX8_unit_56 ?_
        refine y_iadd C dX8_unit_57 ?_
        refine j_callVv C (d := 11) (As := [.int (sI (4 + 1))]) (st := []) 78 (s_lt rfl rfl) (s_kc (c := 7) rfl rfl) (by decide) rfl (s3_X8_truth hM168 hpr gf gn (nxF gf gn gi) (by omega) (by omega) (by omega)) gX8_unit_X8_truth rfl hdX8_truth (by decide) (Nat.le_of_ble_eq_true rfl) dX8_unit_58 rfl (fun M172 h173 => ?_)
        obtain ⟨hM172, h174⟩ := h173
        have bM172 := tkx_b (f := gf) (n := gn) (M := M172) (by omega)
        have qM172 := po_rr (trP gf gn (unR gf gn 1)) gn (nxF gf gn gi) (M168.1 78 5).toInt (M168.1 78 6).toInt (psX M168) (M172.1 78 5).toInt (M172.1 78 6).toInt (psX M172) (tr_g gf gn (unR_g gf gn 1)) (by omega) (by omega)
        refine j_aload_n C 1 0 dX8_unit_61 rfl rfl ?_
        refine y_sipush C dX8_unit_62 rfl ?_
        refine j_callVv C (d := 1) (As := [.int (sI 2093)]) (st := []) 78 (s_lt rfl rfl) (s_kc (c := 7) rfl rfl) (by decide) rfl (s1_X8_expect hM172 hpr 2093 (by omega) gf gn ((trP gf gn (unR gf gn 1)) (nxF gf gn gi)).2.2 (by omega) (by omega) (by omega) (by omega)) gX8_unit_X8_expect rfl hdX8_expect (by decide) (Nat.le_of_ble_eq_true rfl) dX8_unit_65 rfl (fun M176 h177 => ?_)
        obtain ⟨hM176, fM176, h178⟩ := h177
        have bM176 := tkx_b (f := gf) (n := gn) (M := M176) (by omega)
        have qM176 := po_rr (exP gf gn 2093) gn ((trP gf gn (unR gf gn 1)) (nxF gf gn gi)).2.2 (M172.1 78 5).toInt (M172.1 78 6).toInt (psX M172) (M176.1 78 5).toInt (M176.1 78 6).toInt (psX M176) (ex_g gf gn 2093 (by omega)) (by omega) (by omega)
        have dM176 := cs_f hM172 fM176
        refine j_goto C 130 dX8_unit_68 (by decide) ?_
        have u179r := un_2 gf gn 1 2 rfl gi (M0.1 78 5).toInt (M0.1 78 6).toInt (psX M0) (M168.1 78 5).toInt (M168.1 78 6).toInt (M172.1 78 5).toInt (M172.1 78 6).toInt (psX M172) (M176.1 78 5).toInt (M176.1 78 6).toInt (psX M176) (by omega) (by omega) (by omega) (by omega) (by omega) (by omega)
        have u179l : b01 (CL AGC (M176.1 78 5).toInt M0 M176 ((uLR gf gn 2) gi)) = 1 := cl_e (cl_t (cl_t (cl_r (A := AGC) (M := M0) (N := M168) (M168.1 78 5).toInt (agc_F fM168)) (show b01 (CL AGC (M172.1 78 5).toInt M168 M172 ((trL gf gn (unR gf gn 1) (uLR gf gn 1)) (nxF gf gn gi))) = 1 by omega) (fun z => rr_z (show b01 (RR ((trP gf gn (unR gf gn 1)) (nxF gf gn gi)) (M168.1 78 5).toInt (M168.1 78 6).toInt (M172.1 78 5).toInt (M172.1 78 6).toInt (psX M172)) = 1 by omega) z)) (cl_r (A := AGC) (M := M172) (N := M176) (M176.1 78 5).toInt (agc_F fM176)) (fun z => rr_z (show b01 (RR ((exP gf gn 2093) ((trP gf gn (unR gf gn 1)) (nxF gf gn gi)).2.2) (M172.1 78 5).toInt (M172.1 78 6).toInt (M176.1 78 5).toInt (M176.1 78 6).toInt (psX M176)) = 1 by omega) z)) (fun z => by rw [un_l2 gf gn 1 2 rfl (show b01 (PO gn gi (M0.1 78 5).toInt (psX M0)) = 1 by omega) (by omega) (by omega), List.nil_append, List.append_nil])
        have zr := (rfx_F (rfx_t (rfx_F (rfx_r M0) fM168) (show b01 (RFX M168 M172) = 1 by omega)) fM176); exact hret _ _ _ dX8_unit_130 ⟨hM176, by omega⟩
    · refine j_aload_n C 1 0 dX8_unit_20 rfl rfl ?_
      refine j_iload_n C 2 1 dX8_unit_21 rfl rfl ?_
      refine j_callVv C (d := 0) (As := [.int (sI 4)]) (st := []) 78 (s_lt rfl rfl) (s_kc (c := 7) rfl rfl) (by decide) rfl (s5_X8_goDeeper hM0 hpr gf gn gi (by omega) (by omega) (by omega) (by omega) (by omega)) gX8_unit_X8_goDeeper rfl hdX8_goDeeper (by decide) (Nat.le_of_ble_eq_true rfl) dX8_unit_22 rfl (fun M181 h182 => ?_)
      obtain ⟨hM181, fM181, h183⟩ := h182
      have bM181 := tkx_b (f := gf) (n := gn) (M := M181) (by omega)
      have dM181 := cs_f hM0 fM181
      refine j_aload_n C 1 0 dX8_unit_25 rfl rfl ?_
      refine j_iload_n C 2 1 dX8_unit_26 rfl rfl ?_
      refine y_iconst C dX8_unit_27 ?_
      refine y_iadd C dX8_unit_28 ?_
      refine j_callVv C (d := 9) (As := [.int (sI (4 + 1))]) (st := []) 78 (s_lt rfl rfl) (s_kc (c := 7) rfl rfl) (by decide) rfl (s3_X8_unit hM181 hpr gf gn (nxF gf gn gi) (by omega) (by omega) (by omega)) gX8_unit_X8_unit rfl hdX8_unit (by decide) (Nat.le_of_ble_eq_true rfl) dX8_unit_29 rfl (fun M185 h186 => ?_)
      obtain ⟨hM185, h187⟩ := h186
      have bM185 := tkx_b (f := gf) (n := gn) (M := M185) (by omega)
      have qM185 := po_rr (unR gf gn 1) gn (nxF gf gn gi) (M181.1 78 5).toInt (M181.1 78 6).toInt (psX M181) (M185.1 78 5).toInt (M185.1 78 6).toInt (psX M185) (unR_g gf gn 1) (by omega) (by omega)
      refine j_aload_n C 1 0 dX8_unit_32 rfl rfl ?_
      refine y_sipush C dX8_unit_33 rfl ?_
      have u188b := tkx_b (f := gf) (n := gn) (M := M185) (by omega)
      refine j_callVv C (d := 0) (As := [.int (sI 1016)]) (st := []) 78 (s_lt rfl rfl) (s_kc (c := 7) rfl rfl) (by decide) rfl (s1_X8_emit hM185 hpr 1016 (by omega) gf gn ((unR gf gn 1) (nxF gf gn gi)).2.2 (by omega) (by omega) (by omega)) gX8_unit_X8_emit rfl hdX8_emit (by decide) (Nat.le_of_ble_eq_true rfl) dX8_unit_36 rfl (fun M190 h191 => ?_)
      obtain ⟨hM190, h192⟩ := h191
      have bM190 := tkx_b (f := gf) (n := gn) (M := M190) (by omega)
      have qM190 := po_eq gn ((unR gf gn 1) (nxF gf gn gi)).2.2 (M185.1 78 5).toInt (psX M185) (M190.1 78 5).toInt (psX M190) (by omega) (by omega) (by omega)
      refine j_goto C 130 dX8_unit_39 (by decide) ?_
      have u193r := un_1 gf gn 1 2 rfl gi (M0.1 78 5).toInt (M0.1 78 6).toInt (psX M0) (M181.1 78 5).toInt (M181.1 78 6).toInt (M185.1 78 5).toInt (M185.1 78 6).toInt (psX M185) (M190.1 78 5).toInt (M190.1 78 6).toInt (psX M190) (by omega) (by omega) (by omega) (by omega) (by omega) (by omega) (by omega) (by omega)
      have u193l : b01 (CL AGC (M190.1 78 5).toInt M0 M190 ((uLR gf gn 2) gi)) = 1 := cl_e (cl_t (cl_t (cl_r (A := AGC) (M := M0) (N := M181) (M181.1 78 5).toInt (agc_F fM181)) (show b01 (CL AGC (M185.1 78 5).toInt M181 M185 ((uLR gf gn 1) (nxF gf gn gi))) = 1 by omega) (fun z => rr_z (show b01 (RR ((unR gf gn 1) (nxF gf gn gi)) (M181.1 78 5).toInt (M181.1 78 6).toInt (M185.1 78 5).toInt (M185.1 78 6).toInt (psX M185)) = 1 by omega) z)) (show b01 (CL AGC (M190.1 78 5).toInt M185 M190 [cmF 1016]) = 1 by omega) (fun z => by omega)) (fun z => by rw [un_l1 gf gn 1 2 rfl (show b01 (PO gn gi (M0.1 78 5).toInt (psX M0)) = 1 by omega) (by omega) (by omega), List.nil_append])
      have zr := (rfx_t (rfx_t (rfx_F (rfx_r M0) fM181) (show b01 (RFX M181 M185) = 1 by omega)) (show b01 (RFX M185 M190) = 1 by omega)); exact hret _ _ _ dX8_unit_130 ⟨hM190, by omega⟩
  · have u194r := rr_no ((unR gf gn 2) gi) (M0.1 78 5).toInt (M0.1 78 6).toInt (M0.1 78 5).toInt (M0.1 78 6).toInt (psX M0) (by omega) rfl rfl
    have u194l := cl_n (A := AGC) (M := M0) (N := M0) ((uLR gf gn 2) gi) (a := (M0.1 78 5).toInt) (by omega)
    have zr := (rfx_r M0); exact hret _ _ _ dX8_unit_7 ⟨hM0, by omega⟩
set_option maxHeartbeats 4000000 in
theorem s4_X8_both {l : Launch} {dC : Nat → ClassId} {dI : Nat → Nat → Nat} {ad : Nat → Nat} {cA : Nat → ClassId} {pr : Nat → Nat → Bool} {Kz : mm_M} {M0 : mm_M} (hM0 : INV pr Kz M0) (hpr : PX pr) (gf : Nat → Int) (gn : Int) (gi : Int) (hp0 : csX M0 ≤ (M0.1 78 2).toInt) (hp1 : b01 (TKX gf gn M0) = 1) (hp2 : b01 (PO gn gi (M0.1 78 5).toInt (psX M0)) = 1) : Cv l 13 yX8_both wsX8_both dC dI ad cA [.ref (ad 78), .int (sI 4)] M0 (fun M' => INV pr Kz M' ∧ (csX M' - csX M0 ≤ (M'.1 78 2).toInt - (M0.1 78 2).toInt) ∧ (b01 (CL AGC (M'.1 78 5).toInt M0 M' ((boL gf gn (unR gf gn 2) (uLR gf gn 2)) gi)) = 1) ∧ (b01 (TKX gf gn M') = 1) ∧ b01 (RR ((boP gf gn (unR gf gn 2)) gi) (M0.1 78 5).toInt (M0.1 78 6).toInt (M'.1 78 5).toInt (M'.1 78 6).toInt (psX M')) = 1 ∧ (b01 (RFX M0 M') = 1)) := by
  refine cv_of (cc := cX8_both) (maxL := 3) (lv := [(0, .ref (ad 78)), (1, .int (sI 4))]) (by decide) rfl (Nat.le_of_ble_eq_true rfl) rfl ?_
  intro p e s m args below meth c A Q C hret
  refine j_aload_n C 0 0 dX8_both_0 rfl rfl ?_
  refine j_iload_n C 1 1 dX8_both_1 rfl rfl ?_
  refine j_callVv C (d := 12) (As := [.int (sI 4)]) (st := []) 78 (s_lt rfl rfl) (s_kc (c := 7) rfl rfl) (by decide) rfl (s4_X8_unit hM0 hpr gf gn gi (by omega) (by omega) (by omega)) gX8_both_X8_unit rfl hdX8_unit (by decide) (Nat.le_of_ble_eq_true rfl) dX8_both_2 rfl (fun M102 h103 => ?_)
  obtain ⟨hM102, h104⟩ := h103
  have bM102 := tkx_b (f := gf) (n := gn) (M := M102) (by omega)
  have qM102 := po_rr (unR gf gn 2) gn gi (M0.1 78 5).toInt (M0.1 78 6).toInt (psX M0) (M102.1 78 5).toInt (M102.1 78 6).toInt (psX M102) (unR_g gf gn 2) (by omega) (by omega)
  refine y_iconst C dX8_both_5 ?_
  have u105l := ll_0 (luP gf gn 1015 1015 (unR gf gn 2)) gn ((unR gf gn 2) gi).2.2 (M102.1 78 5).toInt (M102.1 78 6).toInt (psX M102) (by omega)
  have u105c := lc_0 (A := AGC) (M102.1 78 5).toInt (luL gf gn 1015 1015 (unR gf gn 2) (uLR gf gn 2)) ((unR gf gn 2) gi).2.2 M102
  refine j_istore_n C 2 [(2, .int (sI 0)), (0, .ref (ad 78)), (1, .int (sI 4))] dX8_both_6 rfl (by decide) rfl ?_
  have L135 : ∀ (n133 : Nat), ∀ (a136 : Int) (M137 : mm_M) (gq138 : Int), (0 ≤ a136 ∧ a136 ≤ 900 ∧ (b01 (LL (luP gf gn 1015 1015 (unR gf gn 2)) gn ((unR gf gn 2) gi).2.2 gq138 a136 (M102.1 78 5).toInt (M102.1 78 6).toInt (M137.1 78 5).toInt (M137.1 78 6).toInt (psX M137)) = 1) ∧ (b01 (LC AGC (M137.1 78 5).toInt (luL gf gn 1015 1015 (unR gf gn 2) (uLR gf gn 2)) ((unR gf gn 2) gi).2.2 gq138 M102 M137) = 1) ∧ (csX M137 - csX M102 ≤ (M137.1 78 2).toInt - (M102.1 78 2).toInt) ∧ (b01 (TKX gf gn M137) = 1) ∧ (b01 (PO gn gq138 (M137.1 78 5).toInt (psX M137)) = 1) ∧ (b01 (RFX M0 M137) = 1) ∧ (900 - a136) < (n133 : Int)) → INV pr Kz M137 → jj p l e (cn_R 13) s m args below meth c 0 0 Q 3 dC dI ad cA A M137 7 [(0, .ref (ad 78)), (1, .int (sI 4)), (2, .int (sI a136))] [] := by
    intro n133
    induction n133 with
    | zero =>
      intro a136 M137 gq138 h139 hM137
      exfalso; omega
    | succ n133 ih134 =>
      intro a136 M137 gq138 h139 hM137
      have u140b := tkx_b (f := gf) (n := gn) (M := M137) (by omega)
      refine j_iload_n C 2 2 dX8_both_7 rfl rfl ?_
      refine y_sipush C dX8_both_8 rfl ?_
      refine y_icmp_ge C 59 dX8_both_11 (by decide) (by omega) (fun h141 => ?_) (fun h141 => ?_)
      · have u164e := ll_e gf gn 1015 1015 (unR gf gn 2) ((unR gf gn 2) gi).2.2 gq138 a136 (M102.1 78 5).toInt (M102.1 78 6).toInt (M137.1 78 5).toInt (M137.1 78 6).toInt (psX M137) (by decide) (unR_g gf gn 2) (by omega) (by omega)
        have u164r : b01 (RR ((boP gf gn (unR gf gn 2)) gi) (M0.1 78 5).toInt (M0.1 78 6).toInt (M137.1 78 5).toInt (M137.1 78 6).toInt (psX M137)) = 1 := rr_sq ((unR gf gn 2) gi) (luP gf gn 1015 1015 (unR gf gn 2)) (M0.1 78 5).toInt (M0.1 78 6).toInt (M102.1 78 5).toInt (M102.1 78 6).toInt (psX M102) (M137.1 78 5).toInt (M137.1 78 6).toInt (psX M137) (by omega) (by omega)
        have u164x := lc_e gf gn 1015 1015 (unR gf gn 2) ((uLR gf gn 2)) (by decide) (show b01 (LC AGC (M137.1 78 5).toInt (luL gf gn 1015 1015 (unR gf gn 2) (uLR gf gn 2)) ((unR gf gn 2) gi).2.2 gq138 M102 M137) = 1 by omega) (show b01 (LL (luP gf gn 1015 1015 (unR gf gn 2)) gn ((unR gf gn 2) gi).2.2 gq138 a136 (M102.1 78 5).toInt (M102.1 78 6).toInt (M137.1 78 5).toInt (M137.1 78 6).toInt (psX M137)) = 1 by omega) (by omega)
        have u164l : b01 (CL AGC (M137.1 78 5).toInt M0 M137 ((boL gf gn (unR gf gn 2) (uLR gf gn 2)) gi)) = 1 := cl_e (cl_t (show b01 (CL AGC (M102.1 78 5).toInt M0 M102 ((uLR gf gn 2) gi)) = 1 by omega) u164x (fun z => rr_z (show b01 (RR ((luP gf gn 1015 1015 (unR gf gn 2)) ((unR gf gn 2) gi).2.2) (M102.1 78 5).toInt (M102.1 78 6).toInt (M137.1 78 5).toInt (M137.1 78 6).toInt (psX M137)) = 1 by omega) z)) (fun z => rfl)
        have zr := (show b01 (RFX M0 M137) = 1 by omega); exact hret _ _ _ dX8_both_59 ⟨hM137, by omega⟩
      · refine j_aload_n C 0 0 dX8_both_14 rfl rfl ?_
        refine y_getI C 7 _ _ fX8_both_22 rfl rfl ft_7_5 sb_7_5 hM137 dX8_both_15 (fun a142 ea142 la142 ua142 => ?_)
        refine y_if_ne C 59 dX8_both_18 (by decide) (by omega) (fun h144 => ?_) (fun h144 => ?_)
        · have u165e := ll_e gf gn 1015 1015 (unR gf gn 2) ((unR gf gn 2) gi).2.2 gq138 a136 (M102.1 78 5).toInt (M102.1 78 6).toInt (M137.1 78 5).toInt (M137.1 78 6).toInt (psX M137) (by decide) (unR_g gf gn 2) (by omega) (by omega)
          have u165r : b01 (RR ((boP gf gn (unR gf gn 2)) gi) (M0.1 78 5).toInt (M0.1 78 6).toInt (M137.1 78 5).toInt (M137.1 78 6).toInt (psX M137)) = 1 := rr_sq ((unR gf gn 2) gi) (luP gf gn 1015 1015 (unR gf gn 2)) (M0.1 78 5).toInt (M0.1 78 6).toInt (M102.1 78 5).toInt (M102.1 78 6).toInt (psX M102) (M137.1 78 5).toInt (M137.1 78 6).toInt (psX M137) (by omega) (by omega)
          have u165x := lc_e gf gn 1015 1015 (unR gf gn 2) ((uLR gf gn 2)) (by decide) (show b01 (LC AGC (M137.1 78 5).toInt (luL gf gn 1015 1015 (unR gf gn 2) (uLR gf gn 2)) ((unR gf gn 2) gi).2.2 gq138 M102 M137) = 1 by omega) (show b01 (LL (luP gf gn 1015 1015 (unR gf gn 2)) gn ((unR gf gn 2) gi).2.2 gq138 a136 (M102.1 78 5).toInt (M102.1 78 6).toInt (M137.1 78 5).toInt (M137.1 78 6).toInt (psX M137)) = 1 by omega) (by omega)
          have u165l : b01 (CL AGC (M137.1 78 5).toInt M0 M137 ((boL gf gn (unR gf gn 2) (uLR gf gn 2)) gi)) = 1 := cl_e (cl_t (show b01 (CL AGC (M102.1 78 5).toInt M0 M102 ((uLR gf gn 2) gi)) = 1 by omega) u165x (fun z => rr_z (show b01 (RR ((luP gf gn 1015 1015 (unR gf gn 2)) ((unR gf gn 2) gi).2.2) (M102.1 78 5).toInt (M102.1 78 6).toInt (M137.1 78 5).toInt (M137.1 78 6).toInt (psX M137)) = 1 by omega) z)) (fun z => rfl)
          have zr := (show b01 (RFX M0 M137) = 1 by omega); exact hret _ _ _ dX8_both_59 ⟨hM137, by omega⟩
        · refine j_aload_n C 0 0 dX8_both_21 rfl rfl ?_
          refine j_callVi C (d := 0) (As := []) (st := []) 78 (s_lt rfl rfl) (s_kc (c := 7) rfl rfl) (by decide) rfl (s1_X8_token hM137 gf gn gq138 (by omega) (by omega)) gX8_both_X8_token rfl hdX8_token (by decide) (Nat.le_of_ble_eq_true rfl) dX8_both_22 rfl (fun r145 M146 h147 => ?_)
          obtain ⟨a149, rfl, rfl, h148⟩ := h147
          refine y_sipush C dX8_both_25 rfl ?_
          refine y_icmp_ne C 59 dX8_both_28 (by decide) (by omega) (fun h150 => ?_) (fun h150 => ?_)
          · have u166e := ll_e gf gn 1015 1015 (unR gf gn 2) ((unR gf gn 2) gi).2.2 gq138 a136 (M102.1 78 5).toInt (M102.1 78 6).toInt (M137.1 78 5).toInt (M137.1 78 6).toInt (psX M137) (by decide) (unR_g gf gn 2) (by omega) (by omega)
            have u166r : b01 (RR ((boP gf gn (unR gf gn 2)) gi) (M0.1 78 5).toInt (M0.1 78 6).toInt (M137.1 78 5).toInt (M137.1 78 6).toInt (psX M137)) = 1 := rr_sq ((unR gf gn 2) gi) (luP gf gn 1015 1015 (unR gf gn 2)) (M0.1 78 5).toInt (M0.1 78 6).toInt (M102.1 78 5).toInt (M102.1 78 6).toInt (psX M102) (M137.1 78 5).toInt (M137.1 78 6).toInt (psX M137) (by omega) (by omega)
            have u166x := lc_e gf gn 1015 1015 (unR gf gn 2) ((uLR gf gn 2)) (by decide) (show b01 (LC AGC (M137.1 78 5).toInt (luL gf gn 1015 1015 (unR gf gn 2) (uLR gf gn 2)) ((unR gf gn 2) gi).2.2 gq138 M102 M137) = 1 by omega) (show b01 (LL (luP gf gn 1015 1015 (unR gf gn 2)) gn ((unR gf gn 2) gi).2.2 gq138 a136 (M102.1 78 5).toInt (M102.1 78 6).toInt (M137.1 78 5).toInt (M137.1 78 6).toInt (psX M137)) = 1 by omega) (by omega)
            have u166l : b01 (CL AGC (M137.1 78 5).toInt M0 M137 ((boL gf gn (unR gf gn 2) (uLR gf gn 2)) gi)) = 1 := cl_e (cl_t (show b01 (CL AGC (M102.1 78 5).toInt M0 M102 ((uLR gf gn 2) gi)) = 1 by omega) u166x (fun z => rr_z (show b01 (RR ((luP gf gn 1015 1015 (unR gf gn 2)) ((unR gf gn 2) gi).2.2) (M102.1 78 5).toInt (M102.1 78 6).toInt (M137.1 78 5).toInt (M137.1 78 6).toInt (psX M137)) = 1 by omega) z)) (fun z => rfl)
            have zr := (show b01 (RFX M0 M137) = 1 by omega); exact hret _ _ _ dX8_both_59 ⟨hM137, by omega⟩
          · refine j_aload_n C 0 0 dX8_both_31 rfl rfl ?_
            refine j_dup C dX8_both_32 rfl ?_
            refine y_getI C 7 _ _ fX8_both_18 rfl rfl ft_7_2 sb_7_2 hM137 dX8_both_33 (fun a151 ea151 la151 ua151 => ?_)
            refine y_iconst C dX8_both_36 ?_
            refine y_iadd C dX8_both_37 ?_
            refine y_putI C 7 _ _ qX8_both_18 rfl rfl ft_7_2 sb_7_2 hM137 (PX.w hpr rfl rfl) dX8_both_38 (by omega) (fun M153 eM153 hM153 => ?_)
            have xM153 := tkx_j (f := gf) (n := gn) (gi := gq138) eM153 (by omega) (by omega) (by omega) (by omega)
            have dM153 := cs_w hM137 (c := 7) rfl eM153 (by decide)
            have gM153 := s_wr eM153 (by omega)
            refine j_aload_n C 0 0 dX8_both_41 rfl rfl ?_
            refine j_iload_n C 1 1 dX8_both_42 rfl rfl ?_
            refine j_callVv C (d := 12) (As := [.int (sI 4)]) (st := []) 78 (s_lt rfl rfl) (s_kc (c := 7) rfl rfl) (by decide) rfl (s4_X8_unit hM153 hpr gf gn (nxF gf gn gq138) (by omega) (by omega) (by omega)) gX8_both_X8_unit rfl hdX8_unit (by decide) (Nat.le_of_ble_eq_true rfl) dX8_both_43 rfl (fun M155 h156 => ?_)
            obtain ⟨hM155, h157⟩ := h156
            have bM155 := tkx_b (f := gf) (n := gn) (M := M155) (by omega)
            have qM155 := po_rr (unR gf gn 2) gn (nxF gf gn gq138) (M153.1 78 5).toInt (M153.1 78 6).toInt (psX M153) (M155.1 78 5).toInt (M155.1 78 6).toInt (psX M155) (unR_g gf gn 2) (by omega) (by omega)
            refine j_aload_n C 0 0 dX8_both_46 rfl rfl ?_
            refine y_sipush C dX8_both_47 rfl ?_
            have u158b := tkx_b (f := gf) (n := gn) (M := M155) (by omega)
            refine j_callVv C (d := 0) (As := [.int (sI 1015)]) (st := []) 78 (s_lt rfl rfl) (s_kc (c := 7) rfl rfl) (by decide) rfl (s1_X8_emit hM155 hpr 1015 (by omega) gf gn ((unR gf gn 2) (nxF gf gn gq138)).2.2 (by omega) (by omega) (by omega)) gX8_both_X8_emit rfl hdX8_emit (by decide) (Nat.le_of_ble_eq_true rfl) dX8_both_50 rfl (fun M160 h161 => ?_)
            obtain ⟨hM160, h162⟩ := h161
            have bM160 := tkx_b (f := gf) (n := gn) (M := M160) (by omega)
            have qM160 := po_eq gn ((unR gf gn 2) (nxF gf gn gq138)).2.2 (M155.1 78 5).toInt (psX M155) (M160.1 78 5).toInt (psX M160) (by omega) (by omega) (by omega)
            refine y_iinc C 2 [(2, .int (sI (a136 + 1))), (0, .ref (ad 78)), (1, .int (sI 4))] dX8_both_53 rfl (by decide) rfl ?_
            have u163s := ll_s gf gn 1015 1015 (unR gf gn 2) ((unR gf gn 2) gi).2.2 gq138 a136 (M102.1 78 5).toInt (M102.1 78 6).toInt (M137.1 78 5).toInt (M137.1 78 6).toInt (psX M137) (M153.1 78 5).toInt (M153.1 78 6).toInt (M155.1 78 5).toInt (M155.1 78 6).toInt (psX M155) (M160.1 78 5).toInt (M160.1 78 6).toInt (psX M160) (by decide) (unR_g gf gn 2) (by omega) (by omega) (by omega) (by omega) (by omega) (by omega) (by omega) (by omega) (by omega)
            have u163c := lc_s gf gn 1015 1015 (unR gf gn 2) (uLR gf gn 2) (by decide) (unR_g gf gn 2) (show b01 (LC AGC (M137.1 78 5).toInt (luL gf gn 1015 1015 (unR gf gn 2) (uLR gf gn 2)) ((unR gf gn 2) gi).2.2 gq138 M102 M137) = 1 by omega) (show b01 (PO gn gq138 (M137.1 78 5).toInt (psX M137)) = 1 by omega) (by omega) (show b01 (RR ((unR gf gn 2) (nxF gf gn gq138)) (M153.1 78 5).toInt (M153.1 78 6).toInt (M155.1 78 5).toInt (M155.1 78 6).toInt (psX M155)) = 1 by omega) (fun z => by omega) (cl_e (L := ([] ++ ((uLR gf gn 2) (nxF gf gn gq138))) ++ [cmF 1015]) (cl_t (cl_t (cl_r (A := AGC) (M := M137) (N := M153) (M153.1 78 5).toInt (agc_78 eM153)) (show b01 (CL AGC (M155.1 78 5).toInt M153 M155 ((uLR gf gn 2) (nxF gf gn gq138))) = 1 by omega) (fun z => rr_z (show b01 (RR ((unR gf gn 2) (nxF gf gn gq138)) (M153.1 78 5).toInt (M153.1 78 6).toInt (M155.1 78 5).toInt (M155.1 78 6).toInt (psX M155)) = 1 by omega) z)) (show b01 (CL AGC (M160.1 78 5).toInt M155 M160 [cmF 1015]) = 1 by omega) (fun z => by omega)) (fun z => by rw [show tkF gf gn (psX M137) = 1015 by omega, List.nil_append]) : b01 (CL AGC (M160.1 78 5).toInt M137 M160 (((uLR gf gn 2) (nxF gf gn gq138)) ++ [cmF (tkF gf gn (psX M137))])) = 1) (fun z => by omega)
            refine j_goto C 7 dX8_both_56 (by decide) ?_
            have zr := (rfx_t (rfx_t (rfx_i (show b01 (RFX M0 M137) = 1 by omega) eM153 (by decide)) (show b01 (RFX M153 M155) = 1 by omega)) (show b01 (RFX M155 M160) = 1 by omega)); refine j_lv [1, 2, 0] rfl ?_; exact ih134 (a136 + 1) M160 ((unR gf gn 2) (nxF gf gn gq138)).2.2 (by omega) hM160
  have zr := (rfx_t (rfx_r M0) (show b01 (RFX M0 M102) = 1 by omega)); refine j_lv [1, 2, 0] rfl ?_; exact L135 2010 0 M102 ((unR gf gn 2) gi).2.2 (by omega) hM102
set_option maxHeartbeats 4000000 in
theorem s4_X8_truth {l : Launch} {dC : Nat → ClassId} {dI : Nat → Nat → Nat} {ad : Nat → Nat} {cA : Nat → ClassId} {pr : Nat → Nat → Bool} {Kz : mm_M} {M0 : mm_M} (hM0 : INV pr Kz M0) (hpr : PX pr) (gf : Nat → Int) (gn : Int) (gi : Int) (hp0 : csX M0 ≤ (M0.1 78 2).toInt) (hp1 : b01 (TKX gf gn M0) = 1) (hp2 : b01 (PO gn gi (M0.1 78 5).toInt (psX M0)) = 1) : Cv l 14 yX8_truth wsX8_truth dC dI ad cA [.ref (ad 78), .int (sI 4)] M0 (fun M' => INV pr Kz M' ∧ (csX M' - csX M0 ≤ (M'.1 78 2).toInt - (M0.1 78 2).toInt) ∧ (b01 (CL AGC (M'.1 78 5).toInt M0 M' ((trL gf gn (unR gf gn 2) (uLR gf gn 2)) gi)) = 1) ∧ (b01 (TKX gf gn M') = 1) ∧ b01 (RR ((trP gf gn (unR gf gn 2)) gi) (M0.1 78 5).toInt (M0.1 78 6).toInt (M'.1 78 5).toInt (M'.1 78 6).toInt (psX M')) = 1 ∧ (b01 (RFX M0 M') = 1)) := by
  refine cv_of (cc := cX8_truth) (maxL := 3) (lv := [(0, .ref (ad 78)), (1, .int (sI 4))]) (by decide) rfl (Nat.le_of_ble_eq_true rfl) rfl ?_
  intro p e s m args below meth c A Q C hret
  refine j_aload_n C 0 0 dX8_truth_0 rfl rfl ?_
  refine j_iload_n C 1 1 dX8_truth_1 rfl rfl ?_
  refine j_callVv C (d := 13) (As := [.int (sI 4)]) (st := []) 78 (s_lt rfl rfl) (s_kc (c := 7) rfl rfl) (by decide) rfl (s4_X8_both hM0 hpr gf gn gi (by omega) (by omega) (by omega)) gX8_truth_X8_both rfl hdX8_both (by decide) (Nat.le_of_ble_eq_true rfl) dX8_truth_2 rfl (fun M102 h103 => ?_)
  obtain ⟨hM102, h104⟩ := h103
  have bM102 := tkx_b (f := gf) (n := gn) (M := M102) (by omega)
  have qM102 := po_rr (boP gf gn (unR gf gn 2)) gn gi (M0.1 78 5).toInt (M0.1 78 6).toInt (psX M0) (M102.1 78 5).toInt (M102.1 78 6).toInt (psX M102) (bo_g gf gn (unR_g gf gn 2)) (by omega) (by omega)
  refine y_iconst C dX8_truth_5 ?_
  have u105l := ll_0 (luP gf gn 1014 1014 (boP gf gn (unR gf gn 2))) gn ((boP gf gn (unR gf gn 2)) gi).2.2 (M102.1 78 5).toInt (M102.1 78 6).toInt (psX M102) (by omega)
  have u105c := lc_0 (A := AGC) (M102.1 78 5).toInt (luL gf gn 1014 1014 (boP gf gn (unR gf gn 2)) (boL gf gn (unR gf gn 2) (uLR gf gn 2))) ((boP gf gn (unR gf gn 2)) gi).2.2 M102
  refine j_istore_n C 2 [(2, .int (sI 0)), (0, .ref (ad 78)), (1, .int (sI 4))] dX8_truth_6 rfl (by decide) rfl ?_
  have L135 : ∀ (n133 : Nat), ∀ (a136 : Int) (M137 : mm_M) (gq138 : Int), (0 ≤ a136 ∧ a136 ≤ 900 ∧ (b01 (LL (luP gf gn 1014 1014 (boP gf gn (unR gf gn 2))) gn ((boP gf gn (unR gf gn 2)) gi).2.2 gq138 a136 (M102.1 78 5).toInt (M102.1 78 6).toInt (M137.1 78 5).toInt (M137.1 78 6).toInt (psX M137)) = 1) ∧ (b01 (LC AGC (M137.1 78 5).toInt (luL gf gn 1014 1014 (boP gf gn (unR gf gn 2)) (boL gf gn (unR gf gn 2) (uLR gf gn 2))) ((boP gf gn (unR gf gn 2)) gi).2.2 gq138 M102 M137) = 1) ∧ (csX M137 - csX M102 ≤ (M137.1 78 2).toInt - (M102.1 78 2).toInt) ∧ (b01 (TKX gf gn M137) = 1) ∧ (b01 (PO gn gq138 (M137.1 78 5).toInt (psX M137)) = 1) ∧ (b01 (RFX M0 M137) = 1) ∧ (900 - a136) < (n133 : Int)) → INV pr Kz M137 → jj p l e (cn_R 14) s m args below meth c 0 0 Q 3 dC dI ad cA A M137 7 [(0, .ref (ad 78)), (1, .int (sI 4)), (2, .int (sI a136))] [] := by
    intro n133
    induction n133 with
    | zero =>
      intro a136 M137 gq138 h139 hM137
      exfalso; omega
    | succ n133 ih134 =>
      intro a136 M137 gq138 h139 hM137
      have u140b := tkx_b (f := gf) (n := gn) (M := M137) (by omega)
      refine j_iload_n C 2 2 dX8_truth_7 rfl rfl ?_
      refine y_sipush C dX8_truth_8 rfl ?_
      refine y_icmp_ge C 59 dX8_truth_11 (by decide) (by omega) (fun h141 => ?_) (fun h141 => ?_)
      · have u164e := ll_e gf gn 1014 1014 (boP gf gn (unR gf gn 2)) ((boP gf gn (unR gf gn 2)) gi).2.2 gq138 a136 (M102.1 78 5).toInt (M102.1 78 6).toInt (M137.1 78 5).toInt (M137.1 78 6).toInt (psX M137) (by decide) (bo_g gf gn (unR_g gf gn 2)) (by omega) (by omega)
        have u164r : b01 (RR ((trP gf gn (unR gf gn 2)) gi) (M0.1 78 5).toInt (M0.1 78 6).toInt (M137.1 78 5).toInt (M137.1 78 6).toInt (psX M137)) = 1 := rr_sq ((boP gf gn (unR gf gn 2)) gi) (luP gf gn 1014 1014 (boP gf gn (unR gf gn 2))) (M0.1 78 5).toInt (M0.1 78 6).toInt (M102.1 78 5).toInt (M102.1 78 6).toInt (psX M102) (M137.1 78 5).toInt (M137.1 78 6).toInt (psX M137) (by omega) (by omega)
        have u164x := lc_e gf gn 1014 1014 (boP gf gn (unR gf gn 2)) ((boL gf gn (unR gf gn 2) (uLR gf gn 2))) (by decide) (show b01 (LC AGC (M137.1 78 5).toInt (luL gf gn 1014 1014 (boP gf gn (unR gf gn 2)) (boL gf gn (unR gf gn 2) (uLR gf gn 2))) ((boP gf gn (unR gf gn 2)) gi).2.2 gq138 M102 M137) = 1 by omega) (show b01 (LL (luP gf gn 1014 1014 (boP gf gn (unR gf gn 2))) gn ((boP gf gn (unR gf gn 2)) gi).2.2 gq138 a136 (M102.1 78 5).toInt (M102.1 78 6).toInt (M137.1 78 5).toInt (M137.1 78 6).toInt (psX M137)) = 1 by omega) (by omega)
        have u164l : b01 (CL AGC (M137.1 78 5).toInt M0 M137 ((trL gf gn (unR gf gn 2) (uLR gf gn 2)) gi)) = 1 := cl_e (cl_t (show b01 (CL AGC (M102.1 78 5).toInt M0 M102 ((boL gf gn (unR gf gn 2) (uLR gf gn 2)) gi)) = 1 by omega) u164x (fun z => rr_z (show b01 (RR ((luP gf gn 1014 1014 (boP gf gn (unR gf gn 2))) ((boP gf gn (unR gf gn 2)) gi).2.2) (M102.1 78 5).toInt (M102.1 78 6).toInt (M137.1 78 5).toInt (M137.1 78 6).toInt (psX M137)) = 1 by omega) z)) (fun z => rfl)
        have zr := (show b01 (RFX M0 M137) = 1 by omega); exact hret _ _ _ dX8_truth_59 ⟨hM137, by omega⟩
      · refine j_aload_n C 0 0 dX8_truth_14 rfl rfl ?_
        refine y_getI C 7 _ _ fX8_truth_22 rfl rfl ft_7_5 sb_7_5 hM137 dX8_truth_15 (fun a142 ea142 la142 ua142 => ?_)
        refine y_if_ne C 59 dX8_truth_18 (by decide) (by omega) (fun h144 => ?_) (fun h144 => ?_)
        · have u165e := ll_e gf gn 1014 1014 (boP gf gn (unR gf gn 2)) ((boP gf gn (unR gf gn 2)) gi).2.2 gq138 a136 (M102.1 78 5).toInt (M102.1 78 6).toInt (M137.1 78 5).toInt (M137.1 78 6).toInt (psX M137) (by decide) (bo_g gf gn (unR_g gf gn 2)) (by omega) (by omega)
          have u165r : b01 (RR ((trP gf gn (unR gf gn 2)) gi) (M0.1 78 5).toInt (M0.1 78 6).toInt (M137.1 78 5).toInt (M137.1 78 6).toInt (psX M137)) = 1 := rr_sq ((boP gf gn (unR gf gn 2)) gi) (luP gf gn 1014 1014 (boP gf gn (unR gf gn 2))) (M0.1 78 5).toInt (M0.1 78 6).toInt (M102.1 78 5).toInt (M102.1 78 6).toInt (psX M102) (M137.1 78 5).toInt (M137.1 78 6).toInt (psX M137) (by omega) (by omega)
          have u165x := lc_e gf gn 1014 1014 (boP gf gn (unR gf gn 2)) ((boL gf gn (unR gf gn 2) (uLR gf gn 2))) (by decide) (show b01 (LC AGC (M137.1 78 5).toInt (luL gf gn 1014 1014 (boP gf gn (unR gf gn 2)) (boL gf gn (unR gf gn 2) (uLR gf gn 2))) ((boP gf gn (unR gf gn 2)) gi).2.2 gq138 M102 M137) = 1 by omega) (show b01 (LL (luP gf gn 1014 1014 (boP gf gn (unR gf gn 2))) gn ((boP gf gn (unR gf gn 2)) gi).2.2 gq138 a136 (M102.1 78 5).toInt (M102.1 78 6).toInt (M137.1 78 5).toInt (M137.1 78 6).toInt (psX M137)) = 1 by omega) (by omega)
          have u165l : b01 (CL AGC (M137.1 78 5).toInt M0 M137 ((trL gf gn (unR gf gn 2) (uLR gf gn 2)) gi)) = 1 := cl_e (cl_t (show b01 (CL AGC (M102.1 78 5).toInt M0 M102 ((boL gf gn (unR gf gn 2) (uLR gf gn 2)) gi)) = 1 by omega) u165x (fun z => rr_z (show b01 (RR ((luP gf gn 1014 1014 (boP gf gn (unR gf gn 2))) ((boP gf gn (unR gf gn 2)) gi).2.2) (M102.1 78 5).toInt (M102.1 78 6).toInt (M137.1 78 5).toInt (M137.1 78 6).toInt (psX M137)) = 1 by omega) z)) (fun z => rfl)
          have zr := (show b01 (RFX M0 M137) = 1 by omega); exact hret _ _ _ dX8_truth_59 ⟨hM137, by omega⟩
        · refine j_aload_n C 0 0 dX8_truth_21 rfl rfl ?_
          refine j_callVi C (d := 0) (As := []) (st := []) 78 (s_lt rfl rfl) (s_kc (c := 7) rfl rfl) (by decide) rfl (s1_X8_token hM137 gf gn gq138 (by omega) (by omega)) gX8_truth_X8_token rfl hdX8_token (by decide) (Nat.le_of_ble_eq_true rfl) dX8_truth_22 rfl (fun r145 M146 h147 => ?_)
          obtain ⟨a149, rfl, rfl, h148⟩ := h147
          refine y_sipush C dX8_truth_25 rfl ?_
          refine y_icmp_ne C 59 dX8_truth_28 (by decide) (by omega) (fun h150 => ?_) (fun h150 => ?_)
          · have u166e := ll_e gf gn 1014 1014 (boP gf gn (unR gf gn 2)) ((boP gf gn (unR gf gn 2)) gi).2.2 gq138 a136 (M102.1 78 5).toInt (M102.1 78 6).toInt (M137.1 78 5).toInt (M137.1 78 6).toInt (psX M137) (by decide) (bo_g gf gn (unR_g gf gn 2)) (by omega) (by omega)
            have u166r : b01 (RR ((trP gf gn (unR gf gn 2)) gi) (M0.1 78 5).toInt (M0.1 78 6).toInt (M137.1 78 5).toInt (M137.1 78 6).toInt (psX M137)) = 1 := rr_sq ((boP gf gn (unR gf gn 2)) gi) (luP gf gn 1014 1014 (boP gf gn (unR gf gn 2))) (M0.1 78 5).toInt (M0.1 78 6).toInt (M102.1 78 5).toInt (M102.1 78 6).toInt (psX M102) (M137.1 78 5).toInt (M137.1 78 6).toInt (psX M137) (by omega) (by omega)
            have u166x := lc_e gf gn 1014 1014 (boP gf gn (unR gf gn 2)) ((boL gf gn (unR gf gn 2) (uLR gf gn 2))) (by decide) (show b01 (LC AGC (M137.1 78 5).toInt (luL gf gn 1014 1014 (boP gf gn (unR gf gn 2)) (boL gf gn (unR gf gn 2) (uLR gf gn 2))) ((boP gf gn (unR gf gn 2)) gi).2.2 gq138 M102 M137) = 1 by omega) (show b01 (LL (luP gf gn 1014 1014 (boP gf gn (unR gf gn 2))) gn ((boP gf gn (unR gf gn 2)) gi).2.2 gq138 a136 (M102.1 78 5).toInt (M102.1 78 6).toInt (M137.1 78 5).toInt (M137.1 78 6).toInt (psX M137)) = 1 by omega) (by omega)
            have u166l : b01 (CL AGC (M137.1 78 5).toInt M0 M137 ((trL gf gn (unR gf gn 2) (uLR gf gn 2)) gi)) = 1 := cl_e (cl_t (show b01 (CL AGC (M102.1 78 5).toInt M0 M102 ((boL gf gn (unR gf gn 2) (uLR gf gn 2)) gi)) = 1 by omega) u166x (fun z => rr_z (show b01 (RR ((luP gf gn 1014 1014 (boP gf gn (unR gf gn 2))) ((boP gf gn (unR gf gn 2)) gi).2.2) (M102.1 78 5).toInt (M102.1 78 6).toInt (M137.1 78 5).toInt (M137.1 78 6).toInt (psX M137)) = 1 by omega) z)) (fun z => rfl)
            have zr := (show b01 (RFX M0 M137) = 1 by omega); exact hret _ _ _ dX8_truth_59 ⟨hM137, by omega⟩
          · refine j_aload_n C 0 0 dX8_truth_31 rfl rfl ?_
            refine j_dup C dX8_truth_32 rfl ?_
            refine y_getI C 7 _ _ fX8_truth_18 rfl rfl ft_7_2 sb_7_2 hM137 dX8_truth_33 (fun a151 ea151 la151 ua151 => ?_)
            refine y_iconst C dX8_truth_36 ?_
            refine y_iadd C dX8_truth_37 ?_
            refine y_putI C 7 _ _ qX8_truth_18 rfl rfl ft_7_2 sb_7_2 hM137 (PX.w hpr rfl rfl) dX8_truth_38 (by omega) (fun M153 eM153 hM153 => ?_)
            have xM153 := tkx_j (f := gf) (n := gn) (gi := gq138) eM153 (by omega) (by omega) (by omega) (by omega)
            have dM153 := cs_w hM137 (c := 7) rfl eM153 (by decide)
            have gM153 := s_wr eM153 (by omega)
            refine j_aload_n C 0 0 dX8_truth_41 rfl rfl ?_
            refine j_iload_n C 1 1 dX8_truth_42 rfl rfl ?_
            refine j_callVv C (d := 13) (As := [.int (sI 4)]) (st := []) 78 (s_lt rfl rfl) (s_kc (c := 7) rfl rfl) (by decide) rfl (s4_X8_both hM153 hpr gf gn (nxF gf gn gq138) (by omega) (by omega) (by omega)) gX8_truth_X8_both rfl hdX8_both (by decide) (Nat.le_of_ble_eq_true rfl) dX8_truth_43 rfl (fun M155 h156 => ?_)
            obtain ⟨hM155, h157⟩ := h156
            have bM155 := tkx_b (f := gf) (n := gn) (M := M155) (by omega)
            have qM155 := po_rr (boP gf gn (unR gf gn 2)) gn (nxF gf gn gq138) (M153.1 78 5).toInt (M153.1 78 6).toInt (psX M153) (M155.1 78 5).toInt (M155.1 78 6).toInt (psX M155) (bo_g gf gn (unR_g gf gn 2)) (by omega) (by omega)
            refine j_aload_n C 0 0 dX8_truth_46 rfl rfl ?_
            refine y_sipush C dX8_truth_47 rfl ?_
            have u158b := tkx_b (f := gf) (n := gn) (M := M155) (by omega)
            refine j_callVv C (d := 0) (As := [.int (sI 1014)]) (st := []) 78 (s_lt rfl rfl) (s_kc (c := 7) rfl rfl) (by decide) rfl (s1_X8_emit hM155 hpr 1014 (by omega) gf gn ((boP gf gn (unR gf gn 2)) (nxF gf gn gq138)).2.2 (by omega) (by omega) (by omega)) gX8_truth_X8_emit rfl hdX8_emit (by decide) (Nat.le_of_ble_eq_true rfl) dX8_truth_50 rfl (fun M160 h161 => ?_)
            obtain ⟨hM160, h162⟩ := h161
            have bM160 := tkx_b (f := gf) (n := gn) (M := M160) (by omega)
            have qM160 := po_eq gn ((boP gf gn (unR gf gn 2)) (nxF gf gn gq138)).2.2 (M155.1 78 5).toInt (psX M155) (M160.1 78 5).toInt (psX M160) (by omega) (by omega) (by omega)
            refine y_iinc C 2 [(2, .int (sI (a136 + 1))), (0, .ref (ad 78)), (1, .int (sI 4))] dX8_truth_53 rfl (by decide) rfl ?_
            have u163s := ll_s gf gn 1014 1014 (boP gf gn (unR gf gn 2)) ((boP gf gn (unR gf gn 2)) gi).2.2 gq138 a136 (M102.1 78 5).toInt (M102.1 78 6).toInt (M137.1 78 5).toInt (M137.1 78 6).toInt (psX M137) (M153.1 78 5).toInt (M153.1 78 6).toInt (M155.1 78 5).toInt (M155.1 78 6).toInt (psX M155) (M160.1 78 5).toInt (M160.1 78 6).toInt (psX M160) (by decide) (bo_g gf gn (unR_g gf gn 2)) (by omega) (by omega) (by omega) (by omega) (by omega) (by omega) (by omega) (by omega) (by omega)
            have u163c := lc_s gf gn 1014 1014 (boP gf gn (unR gf gn 2)) (boL gf gn (unR gf gn 2) (uLR gf gn 2)) (by decide) (bo_g gf gn (unR_g gf gn 2)) (show b01 (LC AGC (M137.1 78 5).toInt (luL gf gn 1014 1014 (boP gf gn (unR gf gn 2)) (boL gf gn (unR gf gn 2) (uLR gf gn 2))) ((boP gf gn (unR gf gn 2)) gi).2.2 gq138 M102 M137) = 1 by omega) (show b01 (PO gn gq138 (M137.1 78 5).toInt (psX M137)) = 1 by omega) (by omega) (show b01 (RR ((boP gf gn (unR gf gn 2)) (nxF gf gn gq138)) (M153.1 78 5).toInt (M153.1 78 6).toInt (M155.1 78 5).toInt (M155.1 78 6).toInt (psX M155)) = 1 by omega) (fun z => by omega) (cl_e (L := ([] ++ ((boL gf gn (unR gf gn 2) (uLR gf gn 2)) (nxF gf gn gq138))) ++ [cmF 1014]) (cl_t (cl_t (cl_r (A := AGC) (M := M137) (N := M153) (M153.1 78 5).toInt (agc_78 eM153)) (show b01 (CL AGC (M155.1 78 5).toInt M153 M155 ((boL gf gn (unR gf gn 2) (uLR gf gn 2)) (nxF gf gn gq138))) = 1 by omega) (fun z => rr_z (show b01 (RR ((boP gf gn (unR gf gn 2)) (nxF gf gn gq138)) (M153.1 78 5).toInt (M153.1 78 6).toInt (M155.1 78 5).toInt (M155.1 78 6).toInt (psX M155)) = 1 by omega) z)) (show b01 (CL AGC (M160.1 78 5).toInt M155 M160 [cmF 1014]) = 1 by omega) (fun z => by omega)) (fun z => by rw [show tkF gf gn (psX M137) = 1014 by omega, List.nil_append]) : b01 (CL AGC (M160.1 78 5).toInt M137 M160 (((boL gf gn (unR gf gn 2) (uLR gf gn 2)) (nxF gf gn gq138)) ++ [cmF (tkF gf gn (psX M137))])) = 1) (fun z => by omega)
            refine j_goto C 7 dX8_truth_56 (by decide) ?_
            have zr := (rfx_t (rfx_t (rfx_i (show b01 (RFX M0 M137) = 1 by omega) eM153 (by decide)) (show b01 (RFX M153 M155) = 1 by omega)) (show b01 (RFX M155 M160) = 1 by omega)); refine j_lv [1, 2, 0] rfl ?_; exact ih134 (a136 + 1) M160 ((boP gf gn (unR gf gn 2)) (nxF gf gn gq138)).2.2 (by omega) hM160
  have zr := (rfx_t (rfx_r M0) (show b01 (RFX M0 M102) = 1 by omega)); refine j_lv [1, 2, 0] rfl ?_; exact L135 2010 0 M102 ((boP gf gn (unR gf gn 2)) gi).2.2 (by omega) hM102
set_option maxHeartbeats 4000000 in
theorem s5_X8_unit {l : Launch} {dC : Nat → ClassId} {dI : Nat → Nat → Nat} {ad : Nat → Nat} {cA : Nat → ClassId} {pr : Nat → Nat → Bool} {Kz : mm_M} {M0 : mm_M} (hM0 : INV pr Kz M0) (hpr : PX pr) (gf : Nat → Int) (gn : Int) (gi : Int) (hp0 : csX M0 ≤ (M0.1 78 2).toInt) (hp1 : b01 (TKX gf gn M0) = 1) (hp2 : b01 (PO gn gi (M0.1 78 5).toInt (psX M0)) = 1) : Cv l 15 yX8_unit wsX8_unit dC dI ad cA [.ref (ad 78), .int (sI 3)] M0 (fun M' => INV pr Kz M' ∧ (csX M' - csX M0 ≤ (M'.1 78 2).toInt - (M0.1 78 2).toInt) ∧ (b01 (CL AGC (M'.1 78 5).toInt M0 M' ((uLR gf gn 3) gi)) = 1) ∧ (b01 (TKX gf gn M') = 1) ∧ b01 (RR ((unR gf gn 3) gi) (M0.1 78 5).toInt (M0.1 78 6).toInt (M'.1 78 5).toInt (M'.1 78 6).toInt (psX M')) = 1 ∧ (b01 (RFX M0 M') = 1)) := by
  refine cv_of (cc := cX8_unit) (maxL := 4) (lv := [(0, .ref (ad 78)), (1, .int (sI 3))]) (by decide) rfl (Nat.le_of_ble_eq_true rfl) rfl ?_
  intro p e s m args below meth c A Q C hret
  refine j_aload_n C 0 0 dX8_unit_0 rfl rfl ?_
  refine y_getI C 7 _ _ fX8_unit_22 rfl rfl ft_7_5 sb_7_5 hM0 dX8_unit_1 (fun a101 ea101 la101 ua101 => ?_)
  refine y_if_eq C 8 dX8_unit_4 (by decide) (by omega) (fun h103 => ?_) (fun h103 => ?_)
  · refine j_aload_n C 0 0 dX8_unit_8 rfl rfl ?_
    refine j_callVi C (d := 0) (As := []) (st := []) 78 (s_lt rfl rfl) (s_kc (c := 7) rfl rfl) (by decide) rfl (s1_X8_token hM0 gf gn gi (by omega) (by omega)) gX8_unit_X8_token rfl hdX8_token (by decide) (Nat.le_of_ble_eq_true rfl) dX8_unit_9 rfl (fun r104 M105 h106 => ?_)
    obtain ⟨a108, rfl, rfl, h107⟩ := h106
    refine j_istore_n C 2 [(2, .int (sI a108)), (0, .ref (ad 78)), (1, .int (sI 3))] dX8_unit_12 rfl (by decide) rfl ?_
    refine j_iload_n C 0 2 dX8_unit_13 rfl rfl ?_
    refine y_sipush C dX8_unit_14 rfl ?_
    refine y_icmp_ne C 42 dX8_unit_17 (by decide) (by omega) (fun h109 => ?_) (fun h109 => ?_)
    · refine j_iload_n C 0 2 dX8_unit_42 rfl rfl ?_
      refine y_sipush C dX8_unit_43 rfl ?_
      refine y_icmp_ne C 71 dX8_unit_46 (by decide) (by omega) (fun h110 => ?_) (fun h110 => ?_)
      · refine j_aload_n C 1 0 dX8_unit_71 rfl rfl ?_
        refine j_iload_n C 2 1 dX8_unit_72 rfl rfl ?_
        refine j_callVv C (d := 14) (As := [.int (sI 3)]) (st := []) 78 (s_lt rfl rfl) (s_kc (c := 7) rfl rfl) (by decide) rfl (s5_X8_sum hM0 hpr gf gn gi (by omega) (by omega) (by omega)) gX8_unit_X8_sum rfl hdX8_sum (by decide) (Nat.le_of_ble_eq_true rfl) dX8_unit_73 rfl (fun M112 h113 => ?_)
        obtain ⟨hM112, h114⟩ := h113
        have bM112 := tkx_b (f := gf) (n := gn) (M := M112) (by omega)
        have qM112 := po_rr (suR gf gn 3) gn gi (M0.1 78 5).toInt (M0.1 78 6).toInt (psX M0) (M112.1 78 5).toInt (M112.1 78 6).toInt (psX M112) (suR_g gf gn 3) (by omega) (by omega)
        refine j_aload_n C 1 0 dX8_unit_76 rfl rfl ?_
        refine j_callVi C (d := 0) (As := []) (st := []) 78 (s_lt rfl rfl) (s_kc (c := 7) rfl rfl) (by decide) rfl (s1_X8_token hM112 gf gn ((suR gf gn 3) gi).2.2 (by omega) (by omega)) gX8_unit_X8_token rfl hdX8_token (by decide) (Nat.le_of_ble_eq_true rfl) dX8_unit_77 rfl (fun r115 M116 h117 => ?_)
        obtain ⟨a119, rfl, rfl, h118⟩ := h117
        refine j_istore_n C 3 [(3, .int (sI a119)), (2, .int (sI a108)), (0, .ref (ad 78)), (1, .int (sI 3))] dX8_unit_80 rfl (by decide) rfl ?_
        refine j_iload_n C 0 3 dX8_unit_81 rfl rfl ?_
        refine y_sipush C dX8_unit_82 rfl ?_
        refine y_icmp_eq C 102 dX8_unit_85 (by decide) (by omega) (fun h120 => ?_) (fun h120 => ?_)
        · refine j_aload_n C 2 0 dX8_unit_102 rfl rfl ?_
          refine j_dup C dX8_unit_103 rfl ?_
          refine y_getI C 7 _ _ fX8_unit_18 rfl rfl ft_7_2 sb_7_2 hM112 dX8_unit_104 (fun a121 ea121 la121 ua121 => ?_)
          refine y_iconst C dX8_unit_107 ?_
          refine y_iadd C dX8_unit_108 ?_
          refine y_putI C 7 _ _ qX8_unit_18 rfl rfl ft_7_2 sb_7_2 hM112 (PX.w hpr rfl rfl) dX8_unit_109 (by omega) (fun M123 eM123 hM123 => ?_)
          have xM123 := tkx_j (f := gf) (n := gn) (gi := ((suR gf gn 3) gi).2.2) eM123 (by omega) (by omega) (by omega) (by omega)
          have dM123 := cs_w hM112 (c := 7) rfl eM123 (by decide)
          have gM123 := s_wr eM123 (by omega)
          refine j_aload_n C 2 0 dX8_unit_112 rfl rfl ?_
          refine j_iload_n C 3 1 dX8_unit_113 rfl rfl ?_
          refine j_callVv C (d := 14) (As := [.int (sI 3)]) (st := []) 78 (s_lt rfl rfl) (s_kc (c := 7) rfl rfl) (by decide) rfl (s5_X8_sum hM123 hpr gf gn (nxF gf gn ((suR gf gn 3) gi).2.2) (by omega) (by omega) (by omega)) gX8_unit_X8_sum rfl hdX8_sum (by decide) (Nat.le_of_ble_eq_true rfl) dX8_unit_114 rfl (fun M125 h126 => ?_)
          obtain ⟨hM125, h127⟩ := h126
          have bM125 := tkx_b (f := gf) (n := gn) (M := M125) (by omega)
          have qM125 := po_rr (suR gf gn 3) gn (nxF gf gn ((suR gf gn 3) gi).2.2) (M123.1 78 5).toInt (M123.1 78 6).toInt (psX M123) (M125.1 78 5).toInt (M125.1 78 6).toInt (psX M125) (suR_g gf gn 3) (by omega) (by omega)
          refine j_aload_n C 2 0 dX8_unit_117 rfl rfl ?_
          refine j_iload_n C 0 3 dX8_unit_118 rfl rfl ?_
          have u128b := tkx_b (f := gf) (n := gn) (M := M125) (by omega)
          refine j_callVv C (d := 0) (As := [.int (sI a119)]) (st := []) 78 (s_lt rfl rfl) (s_kc (c := 7) rfl rfl) (by decide) rfl (s1_X8_emit hM125 hpr a119 (by omega) gf gn ((suR gf gn 3) (nxF gf gn ((suR gf gn 3) gi).2.2)).2.2 (by omega) (by omega) (by omega)) gX8_unit_X8_emit rfl hdX8_emit (by decide) (Nat.le_of_ble_eq_true rfl) dX8_unit_119 rfl (fun M130 h131 => ?_)
          obtain ⟨hM130, h132⟩ := h131
          have bM130 := tkx_b (f := gf) (n := gn) (M := M130) (by omega)
          have qM130 := po_eq gn ((suR gf gn 3) (nxF gf gn ((suR gf gn 3) gi).2.2)).2.2 (M125.1 78 5).toInt (psX M125) (M130.1 78 5).toInt (psX M130) (by omega) (by omega) (by omega)
          refine j_goto C 130 dX8_unit_122 (by decide) ?_
          have u133r := un_4 gf gn 3 gi (M0.1 78 5).toInt (M0.1 78 6).toInt (psX M0) (M112.1 78 5).toInt (M112.1 78 6).toInt (psX M112) (M123.1 78 5).toInt (M123.1 78 6).toInt (M125.1 78 5).toInt (M125.1 78 6).toInt (psX M125) (M130.1 78 5).toInt (M130.1 78 6).toInt (psX M130) (by omega) (by omega) (by omega) (by omega) (by omega) (by omega) (by omega) (by omega) (by omega) (by omega) (by omega)
          have u133l : b01 (CL AGC (M130.1 78 5).toInt M0 M130 ((uLR gf gn 3) gi)) = 1 := cl_e (cl_t (cl_t (cl_t (show b01 (CL AGC (M112.1 78 5).toInt M0 M112 ((sLR gf gn 3) gi)) = 1 by omega) (cl_r (A := AGC) (M := M112) (N := M123) (M123.1 78 5).toInt (agc_78 eM123)) (fun z => by omega)) (show b01 (CL AGC (M125.1 78 5).toInt M123 M125 ((sLR gf gn 3) (nxF gf gn ((suR gf gn 3) gi).2.2))) = 1 by omega) (fun z => rr_z (show b01 (RR ((suR gf gn 3) (nxF gf gn ((suR gf gn 3) gi).2.2)) (M123.1 78 5).toInt (M123.1 78 6).toInt (M125.1 78 5).toInt (M125.1 78 6).toInt (psX M125)) = 1 by omega) z)) (show b01 (CL AGC (M130.1 78 5).toInt M125 M130 [cmF a119]) = 1 by omega) (fun z => by omega)) (fun z => by rw [un_l4 gf gn 3 (show b01 (PO gn gi (M0.1 78 5).toInt (psX M0)) = 1 by omega) (by omega) (by omega) (show b01 (PO gn ((suR gf gn 3) gi).2.2 (M112.1 78 5).toInt (psX M112)) = 1 by omega) (by have y := (fun z => rr_z (show b01 (RR ((suR gf gn 3) (nxF gf gn ((suR gf gn 3) gi).2.2)) (M123.1 78 5).toInt (M123.1 78 6).toInt (M125.1 78 5).toInt (M125.1 78 6).toInt (psX M125)) = 1 by omega) z) (show (M125.1 78 5).toInt = 0 by omega); omega), show tkF gf gn (psX M112) = a119 by omega]; simp)
          have zr := (rfx_t (rfx_t (rfx_i (rfx_t (rfx_r M0) (show b01 (RFX M0 M112) = 1 by omega)) eM123 (by decide)) (show b01 (RFX M123 M125) = 1 by omega)) (show b01 (RFX M125 M130) = 1 by omega)); exact hret _ _ _ dX8_unit_130 ⟨hM130, by omega⟩
        · refine j_iload_n C 0 3 dX8_unit_88 rfl rfl ?_
          refine y_sipush C dX8_unit_89 rfl ?_
          refine y_icmp_eq C 102 dX8_unit_92 (by decide) (by omega) (fun h134 => ?_) (fun h134 => ?_)
          · refine j_aload_n C 2 0 dX8_unit_102 rfl rfl ?_
            refine j_dup C dX8_unit_103 rfl ?_
            refine y_getI C 7 _ _ fX8_unit_18 rfl rfl ft_7_2 sb_7_2 hM112 dX8_unit_104 (fun a135 ea135 la135 ua135 => ?_)
            refine y_iconst C dX8_unit_107 ?_
            refine y_iadd C dX8_unit_108 ?_
            refine y_putI C 7 _ _ qX8_unit_18 rfl rfl ft_7_2 sb_7_2 hM112 (PX.w hpr rfl rfl) dX8_unit_109 (by omega) (fun M137 eM137 hM137 => ?_)
            have xM137 := tkx_j (f := gf) (n := gn) (gi := ((suR gf gn 3) gi).2.2) eM137 (by omega) (by omega) (by omega) (by omega)
            have dM137 := cs_w hM112 (c := 7) rfl eM137 (by decide)
            have gM137 := s_wr eM137 (by omega)
            refine j_aload_n C 2 0 dX8_unit_112 rfl rfl ?_
            refine j_iload_n C 3 1 dX8_unit_113 rfl rfl ?_
            refine j_callVv C (d := 14) (As := [.int (sI 3)]) (st := []) 78 (s_lt rfl rfl) (s_kc (c := 7) rfl rfl) (by decide) rfl (s5_X8_sum hM137 hpr gf gn (nxF gf gn ((suR gf gn 3) gi).2.2) (by omega) (by omega) (by omega)) gX8_unit_X8_sum rfl hdX8_sum (by decide) (Nat.le_of_ble_eq_true rfl) dX8_unit_114 rfl (fun M139 h140 => ?_)
            obtain ⟨hM139, h141⟩ := h140
            have bM139 := tkx_b (f := gf) (n := gn) (M := M139) (by omega)
            have qM139 := po_rr (suR gf gn 3) gn (nxF gf gn ((suR gf gn 3) gi).2.2) (M137.1 78 5).toInt (M137.1 78 6).toInt (psX M137) (M139.1 78 5).toInt (M139.1 78 6).toInt (psX M139) (suR_g gf gn 3) (by omega) (by omega)
            refine j_aload_n C 2 0 dX8_unit_117 rfl rfl ?_
            refine j_iload_n C 0 3 dX8_unit_118 rfl rfl ?_
            have u142b := tkx_b (f := gf) (n := gn) (M := M139) (by omega)
            refine j_callVv C (d := 0) (As := [.int (sI a119)]) (st := []) 78 (s_lt rfl rfl) (s_kc (c := 7) rfl rfl) (by decide) rfl (s1_X8_emit hM139 hpr a119 (by omega) gf gn ((suR gf gn 3) (nxF gf gn ((suR gf gn 3) gi).2.2)).2.2 (by omega) (by omega) (by omega)) gX8_unit_X8_emit rfl hdX8_emit (by decide) (Nat.le_of_ble_eq_true rfl) dX8_unit_119 rfl (fun M144 h145 => ?_)
            obtain ⟨hM144, h146⟩ := h145
            have bM144 := tkx_b (f := gf) (n := gn) (M := M144) (by omega)
            have qM144 := po_eq gn ((suR gf gn 3) (nxF gf gn ((suR gf gn 3) gi).2.2)).2.2 (M139.1 78 5).toInt (psX M139) (M144.1 78 5).toInt (psX M144) (by omega) (by omega) (by omega)
            refine j_goto C 130 dX8_unit_122 (by decide) ?_
            have u147r := un_4 gf gn 3 gi (M0.1 78 5).toInt (M0.1 78 6).toInt (psX M0) (M112.1 78 5).toInt (M112.1 78 6).toInt (psX M112) (M137.1 78 5).toInt (M137.1 78 6).toInt (M139.1 78 5).toInt (M139.1 78 6).toInt (psX M139) (M144.1 78 5).toInt (M144.1 78 6).toInt (psX M144) (by omega) (by omega) (by omega) (by omega) (by omega) (by omega) (by omega) (by omega) (by omega) (by omega) (by omega)
            have u147l : b01 (CL AGC (M144.1 78 5).toInt M0 M144 ((uLR gf gn 3) gi)) = 1 := cl_e (cl_t (cl_t (cl_t (show b01 (CL AGC (M112.1 78 5).toInt M0 M112 ((sLR gf gn 3) gi)) = 1 by omega) (cl_r (A := AGC) (M := M112) (N := M137) (M137.1 78 5).toInt (agc_78 eM137)) (fun z => by omega)) (show b01 (CL AGC (M139.1 78 5).toInt M137 M139 ((sLR gf gn 3) (nxF gf gn ((suR gf gn 3) gi).2.2))) = 1 by omega) (fun z => rr_z (show b01 (RR ((suR gf gn 3) (nxF gf gn ((suR gf gn 3) gi).2.2)) (M137.1 78 5).toInt (M137.1 78 6).toInt (M139.1 78 5).toInt (M139.1 78 6).toInt (psX M139)) = 1 by omega) z)) (show b01 (CL AGC (M144.1 78 5).toInt M139 M144 [cmF a119]) = 1 by omega) (fun z => by omega)) (fun z => by rw [un_l4 gf gn 3 (show b01 (PO gn gi (M0.1 78 5).toInt (psX M0)) = 1 by omega) (by omega) (by omega) (show b01 (PO gn ((suR gf gn 3) gi).2.2 (M112.1 78 5).toInt (psX M112)) = 1 by omega) (by have y := (fun z => rr_z (show b01 (RR ((suR gf gn 3) (nxF gf gn ((suR gf gn 3) gi).2.2)) (M137.1 78 5).toInt (M137.1 78 6).toInt (M139.1 78 5).toInt (M139.1 78 6).toInt (psX M139)) = 1 by omega) z) (show (M139.1 78 5).toInt = 0 by omega); omega), show tkF gf gn (psX M112) = a119 by omega]; simp)
            have zr := (rfx_t (rfx_t (rfx_i (rfx_t (rfx_r M0) (show b01 (RFX M0 M112) = 1 by omega)) eM137 (by decide)) (show b01 (RFX M137 M139) = 1 by omega)) (show b01 (RFX M139 M144) = 1 by omega)); exact hret _ _ _ dX8_unit_130 ⟨hM144, by omega⟩
          · refine j_iload_n C 0 3 dX8_unit_95 rfl rfl ?_
            refine y_sipush C dX8_unit_96 rfl ?_
            refine y_icmp_ne C 125 dX8_unit_99 (by decide) (by omega) (fun h148 => ?_) (fun h148 => ?_)
            · refine j_aload_n C 2 0 dX8_unit_125 rfl rfl ?_
              refine y_iconst C dX8_unit_126 ?_
              refine j_callVv C (d := 0) (As := [.int (sI 2)]) (st := []) 78 (s_lt rfl rfl) (s_kc (c := 7) rfl rfl) (by decide) rfl (s1_X8_fail hM112 hpr 2 (by omega) gf gn ((suR gf gn 3) gi).2.2 (by omega) (by omega) (by omega)) gX8_unit_X8_fail rfl hdX8_fail (by decide) (Nat.le_of_ble_eq_true rfl) dX8_unit_127 rfl (fun M150 h151 => ?_)
              obtain ⟨hM150, fM150, h152⟩ := h151
              have bM150 := tkx_b (f := gf) (n := gn) (M := M150) (by omega)
              have qM150 := po_f gn ((faQ gf gn 2) ((suR gf gn 3) gi).2.2).2.2 (M150.1 78 5).toInt (psX M150) (by omega)
              have dM150 := cs_f hM112 fM150
              have u153r := un_5 gf gn 3 gi (M0.1 78 5).toInt (M0.1 78 6).toInt (psX M0) (M112.1 78 5).toInt (M112.1 78 6).toInt (psX M112) (M150.1 78 5).toInt (M150.1 78 6).toInt (psX M150) (by omega) (by omega) (by omega) (by omega) (fun _ => by omega) (by omega)
              have u153l := cl_n (A := AGC) (M := M0) (N := M150) ((uLR gf gn 3) gi) (a := (M150.1 78 5).toInt) (by omega)
              have zr := (rfx_F (rfx_t (rfx_r M0) (show b01 (RFX M0 M112) = 1 by omega)) fM150); exact hret _ _ _ dX8_unit_130 ⟨hM150, by omega⟩
            · refine j_aload_n C 2 0 dX8_unit_102 rfl rfl ?_
              refine j_dup C dX8_unit_103 rfl ?_
              refine y_getI C 7 _ _ fX8_unit_18 rfl rfl ft_7_2 sb_7_2 hM112 dX8_unit_104 (fun a154 ea154 la154 ua154 => ?_)
              refine y_iconst C dX8_unit_107 ?_
              refine y_iadd C dX8_unit_108 ?_
              refine y_putI C 7 _ _ qX8_unit_18 rfl rfl ft_7_2 sb_7_2 hM112 (PX.w hpr rfl rfl) dX8_unit_109 (by omega) (fun M156 eM156 hM156 => ?_)
              have xM156 := tkx_j (f := gf) (n := gn) (gi := ((suR gf gn 3) gi).2.2) eM156 (by omega) (by omega) (by omega) (by omega)
              have dM156 := cs_w hM112 (c := 7) rfl eM156 (by decide)
              have gM156 := s_wr eM156 (by omega)
              refine j_aload_n C 2 0 dX8_unit_112 rfl rfl ?_
              refine j_iload_n C 3 1 dX8_unit_113 rfl rfl ?_
              refine j_callVv C (d := 14) (As := [.int (sI 3)]) (st := []) 78 (s_lt rfl rfl) (s_kc (c := 7) rfl rfl) (by decide) rfl (s5_X8_sum hM156 hpr gf gn (nxF gf gn ((suR gf gn 3) gi).2.2) (by omega) (by omega) (by omega)) gX8_unit_X8_sum rfl hdX8_sum (by decide) (Nat.le_of_ble_eq_true rfl) dX8_unit_114 rfl (fun M158 h159 => ?_)
              obtain ⟨hM158, h160⟩ := h159
              have bM158 := tkx_b (f := gf) (n := gn) (M := M158) (by omega)
              have qM158 := po_rr (suR gf gn 3) gn (nxF gf gn ((suR gf gn 3) gi).2.2) (M156.1 78 5).toInt (M156.1 78 6).toInt (psX M156) (M158.1 78 5).toInt (M158.1 78 6).toInt (psX M158) (suR_g gf gn 3) (by omega) (by omega)
              refine j_aload_n C 2 0 dX8_unit_117 rfl rfl ?_
              refine j_iload_n C 0 3 dX8_unit_118 rfl rfl ?_
              have u161b := tkx_b (f := gf) (n := gn) (M := M158) (by omega)
              refine j_callVv C (d := 0) (As := [.int (sI a119)]) (st := []) 78 (s_lt rfl rfl) (s_kc (c := 7) rfl rfl) (by decide) rfl (s1_X8_emit hM158 hpr a119 (by omega) gf gn ((suR gf gn 3) (nxF gf gn ((suR gf gn 3) gi).2.2)).2.2 (by omega) (by omega) (by omega)) gX8_unit_X8_emit rfl hdX8_emit (by decide) (Nat.le_of_ble_eq_true rfl) dX8_unit_119 rfl (fun M163 h164 => ?_)
              obtain ⟨hM163, h165⟩ := h164
              have bM163 := tkx_b (f := gf) (n := gn) (M := M163) (by omega)
              have qM163 := po_eq gn ((suR gf gn 3) (nxF gf gn ((suR gf gn 3) gi).2.2)).2.2 (M158.1 78 5).toInt (psX M158) (M163.1 78 5).toInt (psX M163) (by omega) (by omega) (by omega)
              refine j_goto C 130 dX8_unit_122 (by decide) ?_
              have u166r := un_4 gf gn 3 gi (M0.1 78 5).toInt (M0.1 78 6).toInt (psX M0) (M112.1 78 5).toInt (M112.1 78 6).toInt (psX M112) (M156.1 78 5).toInt (M156.1 78 6).toInt (M158.1 78 5).toInt (M158.1 78 6).toInt (psX M158) (M163.1 78 5).toInt (M163.1 78 6).toInt (psX M163) (by omega) (by omega) (by omega) (by omega) (by omega) (by omega) (by omega) (by omega) (by omega) (by omega) (by omega)
              have u166l : b01 (CL AGC (M163.1 78 5).toInt M0 M163 ((uLR gf gn 3) gi)) = 1 := cl_e (cl_t (cl_t (cl_t (show b01 (CL AGC (M112.1 78 5).toInt M0 M112 ((sLR gf gn 3) gi)) = 1 by omega) (cl_r (A := AGC) (M := M112) (N := M156) (M156.1 78 5).toInt (agc_78 eM156)) (fun z => by omega)) (show b01 (CL AGC (M158.1 78 5).toInt M156 M158 ((sLR gf gn 3) (nxF gf gn ((suR gf gn 3) gi).2.2))) = 1 by omega) (fun z => rr_z (show b01 (RR ((suR gf gn 3) (nxF gf gn ((suR gf gn 3) gi).2.2)) (M156.1 78 5).toInt (M156.1 78 6).toInt (M158.1 78 5).toInt (M158.1 78 6).toInt (psX M158)) = 1 by omega) z)) (show b01 (CL AGC (M163.1 78 5).toInt M158 M163 [cmF a119]) = 1 by omega) (fun z => by omega)) (fun z => by rw [un_l4 gf gn 3 (show b01 (PO gn gi (M0.1 78 5).toInt (psX M0)) = 1 by omega) (by omega) (by omega) (show b01 (PO gn ((suR gf gn 3) gi).2.2 (M112.1 78 5).toInt (psX M112)) = 1 by omega) (by have y := (fun z => rr_z (show b01 (RR ((suR gf gn 3) (nxF gf gn ((suR gf gn 3) gi).2.2)) (M156.1 78 5).toInt (M156.1 78 6).toInt (M158.1 78 5).toInt (M158.1 78 6).toInt (psX M158)) = 1 by omega) z) (show (M158.1 78 5).toInt = 0 by omega); omega), show tkF gf gn (psX M112) = a119 by omega]; simp)
              have zr := (rfx_t (rfx_t (rfx_i (rfx_t (rfx_r M0) (show b01 (RFX M0 M112) = 1 by omega)) eM156 (by decide)) (show b01 (RFX M156 M158) = 1 by omega)) (show b01 (RFX M158 M163) = 1 by omega)); exact hret _ _ _ dX8_unit_130 ⟨hM163, by omega⟩
      · refine j_aload_n C 1 0 dX8_unit_49 rfl rfl ?_
        refine j_iload_n C 2 1 dX8_unit_50 rfl rfl ?_
        refine j_callVv C (d := 0) (As := [.int (sI 3)]) (st := []) 78 (s_lt rfl rfl) (s_kc (c := 7) rfl rfl) (by decide) rfl (s4_X8_goDeeper hM0 hpr gf gn gi (by omega) (by omega) (by omega) (by omega) (by omega)) gX8_unit_X8_goDeeper rfl hdX8_goDeeper (by decide) (Nat.le_of_ble_eq_true rfl) dX8_unit_51 rfl (fun M168 h169 => ?_)
        obtain ⟨hM168, fM168, h170⟩ := h169
        have bM168 := tkx_b (f := gf) (n := gn) (M := M168) (by omega)
        have dM168 := cs_f hM0 fM168
        refine j_aload_n C 1 0 dX8_unit_54 rfl rfl ?_
        refine j_iload_n C 2 1 dX8_unit_55 rfl rfl ?_
        refine y_iconst C dX8_unit_56 ?_
        refine y_iadd C dX8_unit_57 ?_
        refine j_callVv C (d := 14) (As := [.int (sI (3 + 1))]) (st := []) 78 (s_lt rfl rfl) (s_kc (c := 7) rfl rfl) (by decide) rfl (s4_X8_truth hM168 hpr gf gn (nxF gf gn gi) (by omega) (by omega) (by omega)) gX8_unit_X8_truth rfl hdX8_truth (by decide) (Nat.le_of_ble_eq_true rfl) dX8_unit_58 rfl (fun M172 h173 => ?_)
        obtain ⟨hM172, h174⟩ := h173
        have bM172 := tkx_b (f := gf) (n := gn) (M := M172) (by omega)
        have qM172 := po_rr (trP gf gn (unR gf gn 2)) gn (nxF gf gn gi) (M168.1 78 5).toInt (M168.1 78 6).toInt (psX M168) (M172.1 78 5).toInt (M172.1 78 6).toInt (psX M172) (tr_g gf gn (unR_g gf gn 2)) (by omega) (by omega)
        refine j_aload_n C 1 0 dX8_unit_61 rfl rfl ?_
        refine y_sipush C dX8_unit_62 rfl ?_
        refine j_callVv C (d := 1) (As := [.int (sI 2093)]) (st := []) 78 (s_lt rfl rfl) (s_kc (c := 7) rfl rfl) (by decide) rfl (s1_X8_expect hM172 hpr 2093 (by omega) gf gn ((trP gf gn (unR gf gn 2)) (nxF gf gn gi)).2.2 (by omega) (by omega) (by omega) (by omega)) gX8_unit_X8_expect rfl hdX8_expect (by decide) (Nat.le_of_ble_eq_true rfl) dX8_unit_65 rfl (fun M176 h177 => ?_)
        obtain ⟨hM176, fM176, h178⟩ := h177
        have bM176 := tkx_b (f := gf) (n := gn) (M := M176) (by omega)
        have qM176 := po_rr (exP gf gn 2093) gn ((trP gf gn (unR gf gn 2)) (nxF gf gn gi)).2.2 (M172.1 78 5).toInt (M172.1 78 6).toInt (psX M172) (M176.1 78 5).toInt (M176.1 78 6).toInt (psX M176) (ex_g gf gn 2093 (by omega)) (by omega) (by omega)
        have dM176 := cs_f hM172 fM176
        refine j_goto C 130 dX8_unit_68 (by decide) ?_
        have u179r := un_2 gf gn 2 3 rfl gi (M0.1 78 5).toInt (M0.1 78 6).toInt (psX M0) (M168.1 78 5).toInt (M168.1 78 6).toInt (M172.1 78 5).toInt (M172.1 78 6).toInt (psX M172) (M176.1 78 5).toInt (M176.1 78 6).toInt (psX M176) (by omega) (by omega) (by omega) (by omega) (by omega) (by omega)
        have u179l : b01 (CL AGC (M176.1 78 5).toInt M0 M176 ((uLR gf gn 3) gi)) = 1 := cl_e (cl_t (cl_t (cl_r (A := AGC) (M := M0) (N := M168) (M168.1 78 5).toInt (agc_F fM168)) (show b01 (CL AGC (M172.1 78 5).toInt M168 M172 ((trL gf gn (unR gf gn 2) (uLR gf gn 2)) (nxF gf gn gi))) = 1 by omega) (fun z => rr_z (show b01 (RR ((trP gf gn (unR gf gn 2)) (nxF gf gn gi)) (M168.1 78 5).toInt (M168.1 78 6).toInt (M172.1 78 5).toInt (M172.1 78 6).toInt (psX M172)) = 1 by omega) z)) (cl_r (A := AGC) (M := M172) (N := M176) (M176.1 78 5).toInt (agc_F fM176)) (fun z => rr_z (show b01 (RR ((exP gf gn 2093) ((trP gf gn (unR gf gn 2)) (nxF gf gn gi)).2.2) (M172.1 78 5).toInt (M172.1 78 6).toInt (M176.1 78 5).toInt (M176.1 78 6).toInt (psX M176)) = 1 by omega) z)) (fun z => by rw [un_l2 gf gn 2 3 rfl (show b01 (PO gn gi (M0.1 78 5).toInt (psX M0)) = 1 by omega) (by omega) (by omega), List.nil_append, List.append_nil])
        have zr := (rfx_F (rfx_t (rfx_F (rfx_r M0) fM168) (show b01 (RFX M168 M172) = 1 by omega)) fM176); exact hret _ _ _ dX8_unit_130 ⟨hM176, by omega⟩
    · refine j_aload_n C 1 0 dX8_unit_20 rfl rfl ?_
      refine j_iload_n C 2 1 dX8_unit_21 rfl rfl ?_
      refine j_callVv C (d := 0) (As := [.int (sI 3)]) (st := []) 78 (s_lt rfl rfl) (s_kc (c := 7) rfl rfl) (by decide) rfl (s4_X8_goDeeper hM0 hpr gf gn gi (by omega) (by omega) (by omega) (by omega) (by omega)) gX8_unit_X8_goDeeper rfl hdX8_goDeeper (by decide) (Nat.le_of_ble_eq_true rfl) dX8_unit_22 rfl (fun M181 h182 => ?_)
      obtain ⟨hM181, fM181, h183⟩ := h182
      have bM181 := tkx_b (f := gf) (n := gn) (M := M181) (by omega)
      have dM181 := cs_f hM0 fM181
      refine j_aload_n C 1 0 dX8_unit_25 rfl rfl ?_
      refine j_iload_n C 2 1 dX8_unit_26 rfl rfl ?_
      refine y_iconst C dX8_unit_27 ?_
      refine y_iadd C dX8_unit_28 ?_
      refine j_callVv C (d := 12) (As := [.int (sI (3 + 1))]) (st := []) 78 (s_lt rfl rfl) (s_kc (c := 7) rfl rfl) (by decide) rfl (s4_X8_unit hM181 hpr gf gn (nxF gf gn gi) (by omega) (by omega) (by omega)) gX8_unit_X8_unit rfl hdX8_unit (by decide) (Nat.le_of_ble_eq_true rfl) dX8_unit_29 rfl (fun M185 h186 => ?_)
      obtain ⟨hM185, h187⟩ := h186
      have bM185 := tkx_b (f := gf) (n := gn) (M := M185) (by omega)
      have qM185 := po_rr (unR gf gn 2) gn (nxF gf gn gi) (M181.1 78 5).toInt (M181.1 78 6).toInt (psX M181) (M185.1 78 5).toInt (M185.1 78 6).toInt (psX M185) (unR_g gf gn 2) (by omega) (by omega)
      refine j_aload_n C 1 0 dX8_unit_32 rfl rfl ?_
      refine y_sipush C dX8_unit_33 rfl ?_
      have u188b := tkx_b (f := gf) (n := gn) (M := M185) (by omega)
      refine j_callVv C (d := 0) (As := [.int (sI 1016)]) (st := []) 78 (s_lt rfl rfl) (s_kc (c := 7) rfl rfl) (by decide) rfl (s1_X8_emit hM185 hpr 1016 (by omega) gf gn ((unR gf gn 2) (nxF gf gn gi)).2.2 (by omega) (by omega) (by omega)) gX8_unit_X8_emit rfl hdX8_emit (by decide) (Nat.le_of_ble_eq_true rfl) dX8_unit_36 rfl (fun M190 h191 => ?_)
      obtain ⟨hM190, h192⟩ := h191
      have bM190 := tkx_b (f := gf) (n := gn) (M := M190) (by omega)
      have qM190 := po_eq gn ((unR gf gn 2) (nxF gf gn gi)).2.2 (M185.1 78 5).toInt (psX M185) (M190.1 78 5).toInt (psX M190) (by omega) (by omega) (by omega)
      refine j_goto C 130 dX8_unit_39 (by decide) ?_
      have u193r := un_1 gf gn 2 3 rfl gi (M0.1 78 5).toInt (M0.1 78 6).toInt (psX M0) (M181.1 78 5).toInt (M181.1 78 6).toInt (M185.1 78 5).toInt (M185.1 78 6).toInt (psX M185) (M190.1 78 5).toInt (M190.1 78 6).toInt (psX M190) (by omega) (by omega) (by omega) (by omega) (by omega) (by omega) (by omega) (by omega)
      have u193l : b01 (CL AGC (M190.1 78 5).toInt M0 M190 ((uLR gf gn 3) gi)) = 1 := cl_e (cl_t (cl_t (cl_r (A := AGC) (M := M0) (N := M181) (M181.1 78 5).toInt (agc_F fM181)) (show b01 (CL AGC (M185.1 78 5).toInt M181 M185 ((uLR gf gn 2) (nxF gf gn gi))) = 1 by omega) (fun z => rr_z (show b01 (RR ((unR gf gn 2) (nxF gf gn gi)) (M181.1 78 5).toInt (M181.1 78 6).toInt (M185.1 78 5).toInt (M185.1 78 6).toInt (psX M185)) = 1 by omega) z)) (show b01 (CL AGC (M190.1 78 5).toInt M185 M190 [cmF 1016]) = 1 by omega) (fun z => by omega)) (fun z => by rw [un_l1 gf gn 2 3 rfl (show b01 (PO gn gi (M0.1 78 5).toInt (psX M0)) = 1 by omega) (by omega) (by omega), List.nil_append])
      have zr := (rfx_t (rfx_t (rfx_F (rfx_r M0) fM181) (show b01 (RFX M181 M185) = 1 by omega)) (show b01 (RFX M185 M190) = 1 by omega)); exact hret _ _ _ dX8_unit_130 ⟨hM190, by omega⟩
  · have u194r := rr_no ((unR gf gn 3) gi) (M0.1 78 5).toInt (M0.1 78 6).toInt (M0.1 78 5).toInt (M0.1 78 6).toInt (psX M0) (by omega) rfl rfl
    have u194l := cl_n (A := AGC) (M := M0) (N := M0) ((uLR gf gn 3) gi) (a := (M0.1 78 5).toInt) (by omega)
    have zr := (rfx_r M0); exact hret _ _ _ dX8_unit_7 ⟨hM0, by omega⟩
set_option maxHeartbeats 4000000 in
theorem s5_X8_both {l : Launch} {dC : Nat → ClassId} {dI : Nat → Nat → Nat} {ad : Nat → Nat} {cA : Nat → ClassId} {pr : Nat → Nat → Bool} {Kz : mm_M} {M0 : mm_M} (hM0 : INV pr Kz M0) (hpr : PX pr) (gf : Nat → Int) (gn : Int) (gi : Int) (hp0 : csX M0 ≤ (M0.1 78 2).toInt) (hp1 : b01 (TKX gf gn M0) = 1) (hp2 : b01 (PO gn gi (M0.1 78 5).toInt (psX M0)) = 1) : Cv l 16 yX8_both wsX8_both dC dI ad cA [.ref (ad 78), .int (sI 3)] M0 (fun M' => INV pr Kz M' ∧ (csX M' - csX M0 ≤ (M'.1 78 2).toInt - (M0.1 78 2).toInt) ∧ (b01 (CL AGC (M'.1 78 5).toInt M0 M' ((boL gf gn (unR gf gn 3) (uLR gf gn 3)) gi)) = 1) ∧ (b01 (TKX gf gn M') = 1) ∧ b01 (RR ((boP gf gn (unR gf gn 3)) gi) (M0.1 78 5).toInt (M0.1 78 6).toInt (M'.1 78 5).toInt (M'.1 78 6).toInt (psX M')) = 1 ∧ (b01 (RFX M0 M') = 1)) := by
  refine cv_of (cc := cX8_both) (maxL := 3) (lv := [(0, .ref (ad 78)), (1, .int (sI 3))]) (by decide) rfl (Nat.le_of_ble_eq_true rfl) rfl ?_
  intro p e s m args below meth c A Q C hret
  refine j_aload_n C 0 0 dX8_both_0 rfl rfl ?_
  refine j_iload_n C 1 1 dX8_both_1 rfl rfl ?_
  refine j_callVv C (d := 15) (As := [.int (sI 3)]) (st := []) 78 (s_lt rfl rfl) (s_kc (c := 7) rfl rfl) (by decide) rfl (s5_X8_unit hM0 hpr gf gn gi (by omega) (by omega) (by omega)) gX8_both_X8_unit rfl hdX8_unit (by decide) (Nat.le_of_ble_eq_true rfl) dX8_both_2 rfl (fun M102 h103 => ?_)
  obtain ⟨hM102, h104⟩ := h103
  have bM102 := tkx_b (f := gf) (n := gn) (M := M102) (by omega)
  have qM102 := po_rr (unR gf gn 3) gn gi (M0.1 78 5).toInt (M0.1 78 6).toInt (psX M0) (M102.1 78 5).toInt (M102.1 78 6).toInt (psX M102) (unR_g gf gn 3) (by omega) (by omega)
  refine y_iconst C dX8_both_5 ?_
  have u105l := ll_0 (luP gf gn 1015 1015 (unR gf gn 3)) gn ((unR gf gn 3) gi).2.2 (M102.1 78 5).toInt (M102.1 78 6).toInt (psX M102) (by omega)
  have u105c := lc_0 (A := AGC) (M102.1 78 5).toInt (luL gf gn 1015 1015 (unR gf gn 3) (uLR gf gn 3)) ((unR gf gn 3) gi).2.2 M102
  refine j_istore_n C 2 [(2, .int (sI 0)), (0, .ref (ad 78)), (1, .int (sI 3))] dX8_both_6 rfl (by decide) rfl ?_
  have L135 : ∀ (n133 : Nat), ∀ (a136 : Int) (M137 : mm_M) (gq138 : Int), (0 ≤ a136 ∧ a136 ≤ 900 ∧ (b01 (LL (luP gf gn 1015 1015 (unR gf gn 3)) gn ((unR gf gn 3) gi).2.2 gq138 a136 (M102.1 78 5).toInt (M102.1 78 6).toInt (M137.1 78 5).toInt (M137.1 78 6).toInt (psX M137)) = 1) ∧ (b01 (LC AGC (M137.1 78 5).toInt (luL gf gn 1015 1015 (unR gf gn 3) (uLR gf gn 3)) ((unR gf gn 3) gi).2.2 gq138 M102 M137) = 1) ∧ (csX M137 - csX M102 ≤ (M137.1 78 2).toInt - (M102.1 78 2).toInt) ∧ (b01 (TKX gf gn M137) = 1) ∧ (b01 (PO gn gq138 (M137.1 78 5).toInt (psX M137)) = 1) ∧ (b01 (RFX M0 M137) = 1) ∧ (900 - a136) < (n133 : Int)) → INV pr Kz M137 → jj p l e (cn_R 16) s m args below meth c 0 0 Q 3 dC dI ad cA A M137 7 [(0, .ref (ad 78)), (1, .int (sI 3)), (2, .int (sI a136))] [] := by
    intro n133
    induction n133 with
    | zero =>
      intro a136 M137 gq138 h139 hM137
      exfalso; omega
    | succ n133 ih134 =>
      intro a136 M137 gq138 h139 hM137
      have u140b := tkx_b (f := gf) (n := gn) (M := M137) (by omega)
      refine j_iload_n C 2 2 dX8_both_7 rfl rfl ?_
      refine y_sipush C dX8_both_8 rfl ?_
      refine y_icmp_ge C 59 dX8_both_11 (by decide) (by omega) (fun h141 => ?_) (fun h141 => ?_)
      · have u164e := ll_e gf gn 1015 1015 (unR gf gn 3) ((unR gf gn 3) gi).2.2 gq138 a136 (M102.1 78 5).toInt (M102.1 78 6).toInt (M137.1 78 5).toInt (M137.1 78 6).toInt (psX M137) (by decide) (unR_g gf gn 3) (by omega) (by omega)
        have u164r : b01 (RR ((boP gf gn (unR gf gn 3)) gi) (M0.1 78 5).toInt (M0.1 78 6).toInt (M137.1 78 5).toInt (M137.1 78 6).toInt (psX M137)) = 1 := rr_sq ((unR gf gn 3) gi) (luP gf gn 1015 1015 (unR gf gn 3)) (M0.1 78 5).toInt (M0.1 78 6).toInt (M102.1 78 5).toInt (M102.1 78 6).toInt (psX M102) (M137.1 78 5).toInt (M137.1 78 6).toInt (psX M137) (by omega) (by omega)
        have u164x := lc_e gf gn 1015 1015 (unR gf gn 3) ((uLR gf gn 3)) (by decide) (show b01 (LC AGC (M137.1 78 5).toInt (luL gf gn 1015 1015 (unR gf gn 3) (uLR gf gn 3)) ((unR gf gn 3) gi).2.2 gq138 M102 M137) = 1 by omega) (show b01 (LL (luP gf gn 1015 1015 (unR gf gn 3)) gn ((unR gf gn 3) gi).2.2 gq138 a136 (M102.1 78 5).toInt (M102.1 78 6).toInt (M137.1 78 5).toInt (M137.1 78 6).toInt (psX M137)) = 1 by omega) (by omega)
        have u164l : b01 (CL AGC (M137.1 78 5).toInt M0 M137 ((boL gf gn (unR gf gn 3) (uLR gf gn 3)) gi)) = 1 := cl_e (cl_t (show b01 (CL AGC (M102.1 78 5).toInt M0 M102 ((uLR gf gn 3) gi)) = 1 by omega) u164x (fun z => rr_z (show b01 (RR ((luP gf gn 1015 1015 (unR gf gn 3)) ((unR gf gn 3) gi).2.2) (M102.1 78 5).toInt (M102.1 78 6).toInt (M137.1 78 5).toInt (M137.1 78 6).toInt (psX M137)) = 1 by omega) z)) (fun z => rfl)
        have zr := (show b01 (RFX M0 M137) = 1 by omega); exact hret _ _ _ dX8_both_59 ⟨hM137, by omega⟩
      · refine j_aload_n C 0 0 dX8_both_14 rfl rfl ?_
        refine y_getI C 7 _ _ fX8_both_22 rfl rfl ft_7_5 sb_7_5 hM137 dX8_both_15 (fun a142 ea142 la142 ua142 => ?_)
        refine y_if_ne C 59 dX8_both_18 (by decide) (by omega) (fun h144 => ?_) (fun h144 => ?_)
        · have u165e := ll_e gf gn 1015 1015 (unR gf gn 3) ((unR gf gn 3) gi).2.2 gq138 a136 (M102.1 78 5).toInt (M102.1 78 6).toInt (M137.1 78 5).toInt (M137.1 78 6).toInt (psX M137) (by decide) (unR_g gf gn 3) (by omega) (by omega)
          have u165r : b01 (RR ((boP gf gn (unR gf gn 3)) gi) (M0.1 78 5).toInt (M0.1 78 6).toInt (M137.1 78 5).toInt (M137.1 78 6).toInt (psX M137)) = 1 := rr_sq ((unR gf gn 3) gi) (luP gf gn 1015 1015 (unR gf gn 3)) (M0.1 78 5).toInt (M0.1 78 6).toInt (M102.1 78 5).toInt (M102.1 78 6).toInt (psX M102) (M137.1 78 5).toInt (M137.1 78 6).toInt (psX M137) (by omega) (by omega)
          have u165x := lc_e gf gn 1015 1015 (unR gf gn 3) ((uLR gf gn 3)) (by decide) (show b01 (LC AGC (M137.1 78 5).toInt (luL gf gn 1015 1015 (unR gf gn 3) (uLR gf gn 3)) ((unR gf gn 3) gi).2.2 gq138 M102 M137) = 1 by omega) (show b01 (LL (luP gf gn 1015 1015 (unR gf gn 3)) gn ((unR gf gn 3) gi).2.2 gq138 a136 (M102.1 78 5).toInt (M102.1 78 6).toInt (M137.1 78 5).toInt (M137.1 78 6).toInt (psX M137)) = 1 by omega) (by omega)
          have u165l : b01 (CL AGC (M137.1 78 5).toInt M0 M137 ((boL gf gn (unR gf gn 3) (uLR gf gn 3)) gi)) = 1 := cl_e (cl_t (show b01 (CL AGC (M102.1 78 5).toInt M0 M102 ((uLR gf gn 3) gi)) = 1 by omega) u165x (fun z => rr_z (show b01 (RR ((luP gf gn 1015 1015 (unR gf gn 3)) ((unR gf gn 3) gi).2.2) (M102.1 78 5).toInt (M102.1 78 6).toInt (M137.1 78 5).toInt (M137.1 78 6).toInt (psX M137)) = 1 by omega) z)) (fun z => rfl)
          have zr := (show b01 (RFX M0 M137) = 1 by omega); exact hret _ _ _ dX8_both_59 ⟨hM137, by omega⟩
        · refine j_aload_n C 0 0 dX8_both_21 rfl rfl ?_
          refine j_callVi C (d := 0) (As := []) (st := []) 78 (s_lt rfl rfl) (s_kc (c := 7) rfl rfl) (by decide) rfl (s1_X8_token hM137 gf gn gq138 (by omega) (by omega)) gX8_both_X8_token rfl hdX8_token (by decide) (Nat.le_of_ble_eq_true rfl) dX8_both_22 rfl (fun r145 M146 h147 => ?_)
          obtain ⟨a149, rfl, rfl, h148⟩ := h147
          refine y_sipush C dX8_both_25 rfl ?_
          refine y_icmp_ne C 59 dX8_both_28 (by decide) (by omega) (fun h150 => ?_) (fun h150 => ?_)
          · have u166e := ll_e gf gn 1015 1015 (unR gf gn 3) ((unR gf gn 3) gi).2.2 gq138 a136 (M102.1 78 5).toInt (M102.1 78 6).toInt (M137.1 78 5).toInt (M137.1 78 6).toInt (psX M137) (by decide) (unR_g gf gn 3) (by omega) (by omega)
            have u166r : b01 (RR ((boP gf gn (unR gf gn 3)) gi) (M0.1 78 5).toInt (M0.1 78 6).toInt (M137.1 78 5).toInt (M137.1 78 6).toInt (psX M137)) = 1 := rr_sq ((unR gf gn 3) gi) (luP gf gn 1015 1015 (unR gf gn 3)) (M0.1 78 5).toInt (M0.1 78 6).toInt (M102.1 78 5).toInt (M102.1 78 6).toInt (psX M102) (M137.1 78 5).toInt (M137.1 78 6).toInt (psX M137) (by omega) (by omega)
            have u166x := lc_e gf gn 1015 1015 (unR gf gn 3) ((uLR gf gn 3)) (by decide) (show b01 (LC AGC (M137.1 78 5).toInt (luL gf gn 1015 1015 (unR gf gn 3) (uLR gf gn 3)) ((unR gf gn 3) gi).2.2 gq138 M102 M137) = 1 by omega) (show b01 (LL (luP gf gn 1015 1015 (unR gf gn 3)) gn ((unR gf gn 3) gi).2.2 gq138 a136 (M102.1 78 5).toInt (M102.1 78 6).toInt (M137.1 78 5).toInt (M137.1 78 6).toInt (psX M137)) = 1 by omega) (by omega)
            have u166l : b01 (CL AGC (M137.1 78 5).toInt M0 M137 ((boL gf gn (unR gf gn 3) (uLR gf gn 3)) gi)) = 1 := cl_e (cl_t (show b01 (CL AGC (M102.1 78 5).toInt M0 M102 ((uLR gf gn 3) gi)) = 1 by omega) u166x (fun z => rr_z (show b01 (RR ((luP gf gn 1015 1015 (unR gf gn 3)) ((unR gf gn 3) gi).2.2) (M102.1 78 5).toInt (M102.1 78 6).toInt (M137.1 78 5).toInt (M137.1 78 6).toInt (psX M137)) = 1 by omega) z)) (fun z => rfl)
            have zr := (show b01 (RFX M0 M137) = 1 by omega); exact hret _ _ _ dX8_both_59 ⟨hM137, by omega⟩
          · refine j_aload_n C 0 0 dX8_both_31 rfl rfl ?_
            refine j_dup C dX8_both_32 rfl ?_
            refine y_getI C 7 _ _ fX8_both_18 rfl rfl ft_7_2 sb_7_2 hM137 dX8_both_33 (fun a151 ea151 la151 ua151 => ?_)
            refine y_iconst C dX8_both_36 ?_
            refine y_iadd C dX8_both_37 ?_
            refine y_putI C 7 _ _ qX8_both_18 rfl rfl ft_7_2 sb_7_2 hM137 (PX.w hpr rfl rfl) dX8_both_38 (by omega) (fun M153 eM153 hM153 => ?_)
            have xM153 := tkx_j (f := gf) (n := gn) (gi := gq138) eM153 (by omega) (by omega) (by omega) (by omega)
            have dM153 := cs_w hM137 (c := 7) rfl eM153 (by decide)
            have gM153 := s_wr eM153 (by omega)
            refine j_aload_n C 0 0 dX8_both_41 rfl rfl ?_
            refine j_iload_n C 1 1 dX8_both_42 rfl rfl ?_
            refine j_callVv C (d := 15) (As := [.int (sI 3)]) (st := []) 78 (s_lt rfl rfl) (s_kc (c := 7) rfl rfl) (by decide) rfl (s5_X8_unit hM153 hpr gf gn (nxF gf gn gq138) (by omega) (by omega) (by omega)) gX8_both_X8_unit rfl hdX8_unit (by decide) (Nat.le_of_ble_eq_true rfl) dX8_both_43 rfl (fun M155 h156 => ?_)
            obtain ⟨hM155, h157⟩ := h156
            have bM155 := tkx_b (f := gf) (n := gn) (M := M155) (by omega)
            have qM155 := po_rr (unR gf gn 3) gn (nxF gf gn gq138) (M153.1 78 5).toInt (M153.1 78 6).toInt (psX M153) (M155.1 78 5).toInt (M155.1 78 6).toInt (psX M155) (unR_g gf gn 3) (by omega) (by omega)
            refine j_aload_n C 0 0 dX8_both_46 rfl rfl ?_
            refine y_sipush C dX8_both_47 rfl ?_
            have u158b := tkx_b (f := gf) (n := gn) (M := M155) (by omega)
            refine j_callVv C (d := 0) (As := [.int (sI 1015)]) (st := []) 78 (s_lt rfl rfl) (s_kc (c := 7) rfl rfl) (by decide) rfl (s1_X8_emit hM155 hpr 1015 (by omega) gf gn ((unR gf gn 3) (nxF gf gn gq138)).2.2 (by omega) (by omega) (by omega)) gX8_both_X8_emit rfl hdX8_emit (by decide) (Nat.le_of_ble_eq_true rfl) dX8_both_50 rfl (fun M160 h161 => ?_)
            obtain ⟨hM160, h162⟩ := h161
            have bM160 := tkx_b (f := gf) (n := gn) (M := M160) (by omega)
            have qM160 := po_eq gn ((unR gf gn 3) (nxF gf gn gq138)).2.2 (M155.1 78 5).toInt (psX M155) (M160.1 78 5).toInt (psX M160) (by omega) (by omega) (by omega)
            refine y_iinc C 2 [(2, .int (sI (a136 + 1))), (0, .ref (ad 78)), (1, .int (sI 3))] dX8_both_53 rfl (by decide) rfl ?_
            have u163s := ll_s gf gn 1015 1015 (unR gf gn 3) ((unR gf gn 3) gi).2.2 gq138 a136 (M102.1 78 5).toInt (M102.1 78 6).toInt (M137.1 78 5).toInt (M137.1 78 6).toInt (psX M137) (M153.1 78 5).toInt (M153.1 78 6).toInt (M155.1 78 5).toInt (M155.1 78 6).toInt (psX M155) (M160.1 78 5).toInt (M160.1 78 6).toInt (psX M160) (by decide) (unR_g gf gn 3) (by omega) (by omega) (by omega) (by omega) (by omega) (by omega) (by omega) (by omega) (by omega)
            have u163c := lc_s gf gn 1015 1015 (unR gf gn 3) (uLR gf gn 3) (by decide) (unR_g gf gn 3) (show b01 (LC AGC (M137.1 78 5).toInt (luL gf gn 1015 1015 (unR gf gn 3) (uLR gf gn 3)) ((unR gf gn 3) gi).2.2 gq138 M102 M137) = 1 by omega) (show b01 (PO gn gq138 (M137.1 78 5).toInt (psX M137)) = 1 by omega) (by omega) (show b01 (RR ((unR gf gn 3) (nxF gf gn gq138)) (M153.1 78 5).toInt (M153.1 78 6).toInt (M155.1 78 5).toInt (M155.1 78 6).toInt (psX M155)) = 1 by omega) (fun z => by omega) (cl_e (L := ([] ++ ((uLR gf gn 3) (nxF gf gn gq138))) ++ [cmF 1015]) (cl_t (cl_t (cl_r (A := AGC) (M := M137) (N := M153) (M153.1 78 5).toInt (agc_78 eM153)) (show b01 (CL AGC (M155.1 78 5).toInt M153 M155 ((uLR gf gn 3) (nxF gf gn gq138))) = 1 by omega) (fun z => rr_z (show b01 (RR ((unR gf gn 3) (nxF gf gn gq138)) (M153.1 78 5).toInt (M153.1 78 6).toInt (M155.1 78 5).toInt (M155.1 78 6).toInt (psX M155)) = 1 by omega) z)) (show b01 (CL AGC (M160.1 78 5).toInt M155 M160 [cmF 1015]) = 1 by omega) (fun z => by omega)) (fun z => by rw [show tkF gf gn (psX M137) = 1015 by omega, List.nil_append]) : b01 (CL AGC (M160.1 78 5).toInt M137 M160 (((uLR gf gn 3) (nxF gf gn gq138)) ++ [cmF (tkF gf gn (psX M137))])) = 1) (fun z => by omega)
            refine j_goto C 7 dX8_both_56 (by decide) ?_
            have zr := (rfx_t (rfx_t (rfx_i (show b01 (RFX M0 M137) = 1 by omega) eM153 (by decide)) (show b01 (RFX M153 M155) = 1 by omega)) (show b01 (RFX M155 M160) = 1 by omega)); refine j_lv [1, 2, 0] rfl ?_; exact ih134 (a136 + 1) M160 ((unR gf gn 3) (nxF gf gn gq138)).2.2 (by omega) hM160
  have zr := (rfx_t (rfx_r M0) (show b01 (RFX M0 M102) = 1 by omega)); refine j_lv [1, 2, 0] rfl ?_; exact L135 2010 0 M102 ((unR gf gn 3) gi).2.2 (by omega) hM102
