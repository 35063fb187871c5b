set_option maxHeartbeats 4000000 in
theorem s6_X12_readBoth {l : Launch} {dC : Nat → ClassId} {dI : Nat → Nat → Nat} {ad : Nat → Nat} {cA : Nat → ClassId} {pr : Nat → Nat → Bool} {Kz : mm_M} {M0 : mm_M} (hM0 : INV pr Kz M0) (hpr : PM pr) (gf : Nat → Int) (gn : Int) (gi : Int) (hp0 : b01 (RIP M0) = 1) (hp1 : b01 (CA M0) = 1) (hp2 : b01 (TKM gf gn M0) = 1) (hp3 : b01 (PO gn gi (M0.1 98 11).toInt (M0.1 98 6).toInt) = 1) (hp4 : b01 (PI M0) = 1) : Cv l 26 yX12_readBoth wsX12_readBoth dC dI ad cA [.ref (ad 98), .int (sI 1)] M0 (fun M' => INV pr Kz M' ∧ FR [98, 102] M0 M' ∧ (b01 (RIP M') = 1) ∧ ((M'.1 98 8).toInt = (M0.1 98 8).toInt) ∧ ((M0.1 98 6).toInt ≤ (M'.1 98 6).toInt) ∧ (b01 (XW M0 M' 0 1 0) = 1) ∧ (b01 (CA M') = 1) ∧ (b01 (CL AGR (M'.1 98 11).toInt M0 M' ((boL gf gn (unR gf gn 5) (uLR gf gn 5)) gi)) = 1) ∧ (b01 (PI M') = 1) ∧ (b01 (TKM gf gn M') = 1) ∧ b01 (RR ((boP gf gn (unR gf gn 5)) gi) (M0.1 98 11).toInt (M0.1 98 12).toInt (M'.1 98 11).toInt (M'.1 98 12).toInt (M'.1 98 6).toInt) = 1) := by
  refine cv_of (cc := cX12_readBoth) (maxL := 2) (lv := [(0, .ref (ad 98)), (1, .int (sI 1))]) (by decide) rfl (Nat.le_of_ble_eq_true rfl) rfl ?_
  intro p e s m args below meth c A Q C hret
  have u101z := xw_0 M0
  have u101l := ri_l (M := M0) (by omega)
  refine j_aload_n C 0 0 dX12_readBoth_0 rfl rfl ?_
  refine j_iload_n C 1 1 dX12_readBoth_1 rfl rfl ?_
  refine j_callVv C (d := 25) (As := [.int (sI 1)]) (st := []) 98 (s_lt rfl rfl) (s_kc (c := 11) rfl rfl) (by decide) rfl (s6_X12_readUnit hM0 hpr gf gn gi (by omega) (by omega) (by omega) (by omega) (by omega)) gX12_readBoth_X12_readUnit rfl hdX12_readUnit (by decide) (Nat.le_of_ble_eq_true rfl) dX12_readBoth_2 rfl (fun M103 h104 => ?_)
  obtain ⟨hM103, fM103, h105⟩ := h104
  have bM103 := tkm_b (f := gf) (n := gn) (M := M103) (by omega)
  have qM103 := po_rr (unR gf gn 5) gn gi (M0.1 98 11).toInt (M0.1 98 12).toInt (M0.1 98 6).toInt (M103.1 98 11).toInt (M103.1 98 12).toInt (M103.1 98 6).toInt (unR_g gf gn 5) (by omega) (by omega)
  have u106l := ri_l (M := M103) (by omega)
  have u106L := ll_0 (luP gf gn 1015 1015 (unR gf gn 5)) gn ((unR gf gn 5) gi).2.2 (M103.1 98 11).toInt (M103.1 98 12).toInt (M103.1 98 6).toInt (by omega)
  have u106c := lc_0 (A := AGR) (M103.1 98 11).toInt (luL gf gn 1015 1015 (unR gf gn 5) (uLR gf gn 5)) ((unR gf gn 5) gi).2.2 M103
  have L133 : ∀ (n131 : Nat), ∀ (M134 : mm_M) (gq135 : Int), ((b01 (RIP M134) = 1) ∧ ((M134.1 98 8).toInt = (M0.1 98 8).toInt) ∧ ((M0.1 98 6).toInt ≤ (M134.1 98 6).toInt) ∧ (b01 (XW M0 M134 0 1 0) = 1) ∧ ((M134.1 98 6).toInt ≤ 900) ∧ (b01 (LL (luP gf gn 1015 1015 (unR gf gn 5)) gn ((unR gf gn 5) gi).2.2 gq135 0 (M103.1 98 11).toInt (M103.1 98 12).toInt (M134.1 98 11).toInt (M134.1 98 12).toInt (M134.1 98 6).toInt) = 1) ∧ (b01 (LC AGR (M134.1 98 11).toInt (luL gf gn 1015 1015 (unR gf gn 5) (uLR gf gn 5)) ((unR gf gn 5) gi).2.2 gq135 M103 M134) = 1) ∧ (b01 (TKM gf gn M134) = 1) ∧ (b01 (PO gn gq135 (M134.1 98 11).toInt (M134.1 98 6).toInt) = 1) ∧ (b01 (PI M134) = 1) ∧ (900 - (M134.1 98 6).toInt) < (n131 : Int)) → INV pr Kz M134 → FR [98, 102] M0 M134 → jj p l e (cn_R 26) s m args below meth c 0 0 Q 2 dC dI ad cA A M134 5 [(0, .ref (ad 98)), (1, .int (sI 1))] [] := by
    intro n131
    induction n131 with
    | zero =>
      intro M134 gq135 h136 hM134 fM134
      exfalso; omega
    | succ n131 ih132 =>
      intro M134 gq135 h136 hM134 fM134
      have u137l := ri_l (M := M134) (by omega)
      have u137B := tkm_b (f := gf) (n := gn) (M := M134) (by omega)
      refine j_aload_n C 0 0 dX12_readBoth_5 rfl rfl ?_
      refine y_bipush C dX12_readBoth_6 rfl ?_
      have k138 := tkm_K (f := gf) (n := gn) (M := M134) (by omega)
      have k139 := kd_2 (kdk_14 gf gn (M134.1 98 6).toInt) (by omega)
      refine j_callVi C (d := 6) (As := [.int (sI 14)]) (st := []) 98 (s_lt rfl rfl) (s_kc (c := 11) rfl rfl) (by decide) rfl (s1_X12_eats hM134 hpr 14 (by omega) gf gn gq135 (by omega) (by omega) (by omega) (by omega) (by omega)) gX12_readBoth_X12_eats rfl hdX12_eats (by decide) (Nat.le_of_ble_eq_true rfl) dX12_readBoth_8 rfl (fun r140 M141 h142 => ?_)
      obtain ⟨a144, rfl, hM141, fM141, h143⟩ := h142
      have k145 := tk_c gf gn (M141.1 98 6).toInt (M134.1 98 6).toInt
      have bM141 := tkm_b (f := gf) (n := gn) (M := M141) (by omega)
      refine y_if_eq C 29 dX12_readBoth_11 (by decide) (by omega) (fun h146 => ?_) (fun h146 => ?_)
      · have u159c := xw_c (N := M134) (P := M141) 0 (FR.cell fM141 (by decide)) (by omega)
        have u159t := xw_t (M := M0) (N := M134) (P := M141) (r1 := 0) (e1 := 1) (s1 := 0) (r2 := 0) (e2 := 0) (s2 := 0) 0 1 0 (by decide) (by omega) (by omega)
        have u159a := ca_x (M := M0) (N := M141) (r := 0) (e := 1) (s := 0) (by decide) (by omega) (by omega)
        have u159E := ll_e gf gn 1015 1015 (unR gf gn 5) ((unR gf gn 5) gi).2.2 gq135 0 (M103.1 98 11).toInt (M103.1 98 12).toInt (M134.1 98 11).toInt (M134.1 98 12).toInt (M134.1 98 6).toInt (by decide) (unR_g gf gn 5) (by omega) (by omega)
        have u159S : b01 (RR ((boP gf gn (unR gf gn 5)) gi) (M0.1 98 11).toInt (M0.1 98 12).toInt (M134.1 98 11).toInt (M134.1 98 12).toInt (M134.1 98 6).toInt) = 1 := rr_sq ((unR gf gn 5) gi) (luP gf gn 1015 1015 (unR gf gn 5)) (M0.1 98 11).toInt (M0.1 98 12).toInt (M103.1 98 11).toInt (M103.1 98 12).toInt (M103.1 98 6).toInt (M134.1 98 11).toInt (M134.1 98 12).toInt (M134.1 98 6).toInt (by omega) (by omega)
        have u159R := rr_eq ((boP gf gn (unR gf gn 5)) gi) (M0.1 98 11).toInt (M0.1 98 12).toInt (M134.1 98 11).toInt (M134.1 98 12).toInt (M134.1 98 6).toInt (M141.1 98 11).toInt (M141.1 98 12).toInt (M141.1 98 6).toInt (by omega) (by omega) (by omega) (by omega)
        have u159x := lc_e gf gn 1015 1015 (unR gf gn 5) ((uLR gf gn 5)) (by decide) (show b01 (LC AGR (M134.1 98 11).toInt (luL gf gn 1015 1015 (unR gf gn 5) (uLR gf gn 5)) ((unR gf gn 5) gi).2.2 gq135 M103 M134) = 1 by omega) (show b01 (LL (luP gf gn 1015 1015 (unR gf gn 5)) gn ((unR gf gn 5) gi).2.2 gq135 0 (M103.1 98 11).toInt (M103.1 98 12).toInt (M134.1 98 11).toInt (M134.1 98 12).toInt (M134.1 98 6).toInt) = 1 by omega) (by omega)
        have u159y : b01 (CL AGR (M134.1 98 11).toInt M0 M134 ((boL gf gn (unR gf gn 5) (uLR gf gn 5)) gi)) = 1 := cl_e (cl_t (show b01 (CL AGR (M103.1 98 11).toInt M0 M103 ((uLR gf gn 5) gi)) = 1 by omega) u159x (fun z => rr_z (show b01 (RR ((luP gf gn 1015 1015 (unR gf gn 5)) ((unR gf gn 5) gi).2.2) (M103.1 98 11).toInt (M103.1 98 12).toInt (M134.1 98 11).toInt (M134.1 98 12).toInt (M134.1 98 6).toInt) = 1 by omega) z)) (fun z => rfl)
        have u159l : b01 (CL AGR (M141.1 98 11).toInt M0 M141 ((boL gf gn (unR gf gn 5) (uLR gf gn 5)) gi)) = 1 := cl_e (cl_t u159y (cl_r (A := AGR) (M := M134) (N := M141) (M141.1 98 11).toInt (agr_c (FR.cell fM141 (by decide)))) (fun z => by omega)) (fun z => (List.append_nil _).symm)
        exact hret _ _ _ dX12_readBoth_29 ⟨hM141, ((FR.rf.tr fM134 (by decide)).tr fM141 (by decide)), by omega⟩
      · have u147c := xw_c (N := M134) (P := M141) 1 (FR.cell fM141 (by decide)) (by omega)
        have u147t := xw_t (M := M0) (N := M134) (P := M141) (r1 := 0) (e1 := 1) (s1 := 0) (r2 := 0) (e2 := 0) (s2 := 1) 0 1 1 (by decide) (by omega) (by omega)
        have u147a := ca_x (M := M0) (N := M141) (r := 0) (e := 1) (s := 1) (by decide) (by omega) (by omega)
        have u147l := ri_l (M := M141) (by omega)
        refine j_aload_n C 0 0 dX12_readBoth_14 rfl rfl ?_
        refine j_iload_n C 1 1 dX12_readBoth_15 rfl rfl ?_
        refine j_callVv C (d := 25) (As := [.int (sI 1)]) (st := []) 98 (s_lt rfl rfl) (s_kc (c := 11) rfl rfl) (by decide) rfl (s6_X12_readUnit hM141 hpr gf gn (nxF gf gn gq135) (by omega) (by omega) (by omega) (by omega) (by omega)) gX12_readBoth_X12_readUnit rfl hdX12_readUnit (by decide) (Nat.le_of_ble_eq_true rfl) dX12_readBoth_16 rfl (fun M149 h150 => ?_)
        obtain ⟨hM149, fM149, h151⟩ := h150
        have bM149 := tkm_b (f := gf) (n := gn) (M := M149) (by omega)
        have qM149 := po_rr (unR gf gn 5) gn (nxF gf gn gq135) (M141.1 98 11).toInt (M141.1 98 12).toInt (M141.1 98 6).toInt (M149.1 98 11).toInt (M149.1 98 12).toInt (M149.1 98 6).toInt (unR_g gf gn 5) (by omega) (by omega)
        have u152t := xw_t (M := M0) (N := M141) (P := M149) (r1 := 0) (e1 := 1) (s1 := 1) (r2 := 0) (e2 := 1) (s2 := 0) 0 2 1 (by decide) (by omega) (by omega)
        have u152l := ri_l (M := M149) (by omega)
        have u152b := cb_x (M := M0) (N := M149) (r := 0) (e := 2) (s := 1) (by decide) (by omega) (by omega) (by omega)
        refine j_aload_n C 0 0 dX12_readBoth_19 rfl rfl ?_
        refine y_sipush C dX12_readBoth_20 rfl ?_
        refine j_callVv C (d := 0) (As := [.int (sI 3007)]) (st := []) 98 (s_lt rfl rfl) (s_kc (c := 11) rfl rfl) (by decide) rfl (s1_X12_codes hM149 hpr 3007 (by omega) gf gn ((unR gf gn 5) (nxF gf gn gq135)).2.2 (by omega) (by omega) (by omega) (by omega)) gX12_readBoth_X12_codes rfl hdX12_codes (by decide) (Nat.le_of_ble_eq_true rfl) dX12_readBoth_23 rfl (fun M154 h155 => ?_)
        obtain ⟨hM154, fM154, h156⟩ := h155
        have k157 := tk_c gf gn (M154.1 98 6).toInt (M149.1 98 6).toInt
        have bM154 := tkm_b (f := gf) (n := gn) (M := M154) (by omega)
        have qM154 := po_eq gn ((unR gf gn 5) (nxF gf gn gq135)).2.2 (M149.1 98 11).toInt (M149.1 98 6).toInt (M154.1 98 11).toInt (M154.1 98 6).toInt (by omega) (by omega) (by omega)
        refine j_goto C 5 dX12_readBoth_26 (by decide) ?_
        have u158x := xw_a (M := M149) (N := M154) (c := 3007) (r := 2) (e := (-1)) (FR.cell fM154 (by decide)) (ap_bin ⟨(INV.rd hM149 (i := 102) (c := 48) (k := 280) rfl rfl).1, by omega, by omega⟩) (by omega)
        have u158t := xw_t (M := M0) (N := M149) (P := M154) (r1 := 0) (e1 := 2) (s1 := 1) (r2 := 2) (e2 := (-1)) (s2 := (-1)) 0 1 0 (by decide) (by omega) (by omega)
        have u158i := ri_c (M := M149) (N := M154) (FR.cell fM154 (by decide)) (by omega)
        have u158l := ri_l (M := M154) (by omega)
        have u158L := ll_w (luP gf gn 1015 1015 (unR gf gn 5)) gn ((unR gf gn 5) gi).2.2 ((unR gf gn 5) (nxF gf gn gq135)).2.2 (0 + 1) 0 (M103.1 98 11).toInt (M103.1 98 12).toInt (M154.1 98 11).toInt (M154.1 98 12).toInt (M154.1 98 6).toInt (by decide) (ll_s gf gn 1015 1015 (unR gf gn 5) ((unR gf gn 5) gi).2.2 gq135 0 (M103.1 98 11).toInt (M103.1 98 12).toInt (M134.1 98 11).toInt (M134.1 98 12).toInt (M134.1 98 6).toInt (M141.1 98 11).toInt (M141.1 98 12).toInt (M149.1 98 11).toInt (M149.1 98 12).toInt (M149.1 98 6).toInt (M154.1 98 11).toInt (M154.1 98 12).toInt (M154.1 98 6).toInt (by decide) (unR_g gf gn 5) (by omega) (by omega) (by omega) (by omega) (by omega) (by omega) (by omega) (by omega) (by omega))
        have u158c := lc_s gf gn 1015 1015 (unR gf gn 5) (uLR gf gn 5) (by decide) (unR_g gf gn 5) (show b01 (LC AGR (M134.1 98 11).toInt (luL gf gn 1015 1015 (unR gf gn 5) (uLR gf gn 5)) ((unR gf gn 5) gi).2.2 gq135 M103 M134) = 1 by omega) (show b01 (PO gn gq135 (M134.1 98 11).toInt (M134.1 98 6).toInt) = 1 by omega) (by omega) (show b01 (RR ((unR gf gn 5) (nxF gf gn gq135)) (M141.1 98 11).toInt (M141.1 98 12).toInt (M149.1 98 11).toInt (M149.1 98 12).toInt (M149.1 98 6).toInt) = 1 by omega) (fun z => by omega) (cl_e (L := ([] ++ ((uLR gf gn 5) (nxF gf gn gq135))) ++ [3007]) (cl_t (cl_t (cl_r (A := AGR) (M := M134) (N := M141) (M141.1 98 11).toInt (agr_c (FR.cell fM141 (by decide)))) (show b01 (CL AGR (M149.1 98 11).toInt M141 M149 ((uLR gf gn 5) (nxF gf gn gq135))) = 1 by omega) (fun z => rr_z (show b01 (RR ((unR gf gn 5) (nxF gf gn gq135)) (M141.1 98 11).toInt (M141.1 98 12).toInt (M149.1 98 11).toInt (M149.1 98 12).toInt (M149.1 98 6).toInt) = 1 by omega) z)) (show b01 (CL AGR (M154.1 98 11).toInt M149 M154 [3007]) = 1 by omega) (fun z => by omega)) (fun z => by rw [show tkF gf gn (M134.1 98 6).toInt = 1015 by omega, cm_tab.2.2.2.2.2.2.2.1, List.nil_append]) : b01 (CL AGR (M154.1 98 11).toInt M134 M154 (((uLR gf gn 5) (nxF gf gn gq135)) ++ [cmF (tkF gf gn (M134.1 98 6).toInt)])) = 1) (fun z => by omega)
        have zz98_8 : (M154.1 98 8).toInt = (M149.1 98 8).toInt := s_fF fM154 (by decide) (rfl); have zz98_6 : (M154.1 98 6).toInt = (M149.1 98 6).toInt := s_fF fM154 (by decide) (rfl); have zz98_12 : (M154.1 98 12).toInt = (M149.1 98 12).toInt := s_fF fM154 (by decide) (rfl); have zz98_11 : (M154.1 98 11).toInt = (M149.1 98 11).toInt := s_fF fM154 (by decide) (rfl); exact ih132 M154 ((unR gf gn 5) (nxF gf gn gq135)).2.2 (by (clear zz98_11 zz98_12 zz98_6 zz98_8 u158l u158x k157 fM154 hM154 u152b u152l u152t qM149 fM149 hM149 u147l u147a u147t u147c bM141 k145 fM141 hM141 k139 k138 u137B u137l fM134 hM134 ih132 u106c u106L u106l qM103 bM103 h105 fM103 hM103 u101l u101z hret C hp4 hp3 hp2 hp1 hp0 hpr hM0; omega)) hM154 ((((FR.rf.tr fM134 (by decide)).tr fM141 (by decide)).tr fM149 (by decide)).tr fM154 (by decide))
  exact L133 2010 M103 ((unR gf gn 5) gi).2.2 (by omega) hM103 (FR.rf.tr fM103 (by decide))
set_option maxHeartbeats 4000000 in
theorem s6_X12_readTruth {l : Launch} {dC : Nat → ClassId} {dI : Nat → Nat → Nat} {ad : Nat → Nat} {cA : Nat → ClassId} {pr : Nat → Nat → Bool} {Kz : mm_M} {M0 : mm_M} (hM0 : INV pr Kz M0) (hpr : PM pr) (gf : Nat → Int) (gn : Int) (gi : Int) (hp0 : b01 (RIP M0) = 1) (hp1 : b01 (CA M0) = 1) (hp2 : b01 (TKM gf gn M0) = 1) (hp3 : b01 (PO gn gi (M0.1 98 11).toInt (M0.1 98 6).toInt) = 1) (hp4 : b01 (PI M0) = 1) : Cv l 27 yX12_readTruth wsX12_readTruth dC dI ad cA [.ref (ad 98), .int (sI 1)] M0 (fun M' => INV pr Kz M' ∧ FR [98, 102] M0 M' ∧ (b01 (RIP M') = 1) ∧ ((M'.1 98 8).toInt = (M0.1 98 8).toInt) ∧ ((M0.1 98 6).toInt ≤ (M'.1 98 6).toInt) ∧ (b01 (XW M0 M' 0 1 0) = 1) ∧ (b01 (CA M') = 1) ∧ (b01 (CL AGR (M'.1 98 11).toInt M0 M' ((trL gf gn (unR gf gn 5) (uLR gf gn 5)) gi)) = 1) ∧ (b01 (PI M') = 1) ∧ (b01 (TKM gf gn M') = 1) ∧ b01 (RR ((trP gf gn (unR gf gn 5)) gi) (M0.1 98 11).toInt (M0.1 98 12).toInt (M'.1 98 11).toInt (M'.1 98 12).toInt (M'.1 98 6).toInt) = 1) := by
  refine cv_of (cc := cX12_readTruth) (maxL := 2) (lv := [(0, .ref (ad 98)), (1, .int (sI 1))]) (by decide) rfl (Nat.le_of_ble_eq_true rfl) rfl ?_
  intro p e s m args below meth c A Q C hret
  have u101z := xw_0 M0
  have u101l := ri_l (M := M0) (by omega)
  refine j_aload_n C 0 0 dX12_readTruth_0 rfl rfl ?_
  refine j_iload_n C 1 1 dX12_readTruth_1 rfl rfl ?_
  refine j_callVv C (d := 26) (As := [.int (sI 1)]) (st := []) 98 (s_lt rfl rfl) (s_kc (c := 11) rfl rfl) (by decide) rfl (s6_X12_readBoth hM0 hpr gf gn gi (by omega) (by omega) (by omega) (by omega) (by omega)) gX12_readTruth_X12_readBoth rfl hdX12_readBoth (by decide) (Nat.le_of_ble_eq_true rfl) dX12_readTruth_2 rfl (fun M103 h104 => ?_)
  obtain ⟨hM103, fM103, h105⟩ := h104
  have bM103 := tkm_b (f := gf) (n := gn) (M := M103) (by omega)
  have qM103 := po_rr (boP gf gn (unR gf gn 5)) gn gi (M0.1 98 11).toInt (M0.1 98 12).toInt (M0.1 98 6).toInt (M103.1 98 11).toInt (M103.1 98 12).toInt (M103.1 98 6).toInt (bo_g gf gn (unR_g gf gn 5)) (by omega) (by omega)
  have u106l := ri_l (M := M103) (by omega)
  have u106L := ll_0 (luP gf gn 1014 1014 (boP gf gn (unR gf gn 5))) gn ((boP gf gn (unR gf gn 5)) gi).2.2 (M103.1 98 11).toInt (M103.1 98 12).toInt (M103.1 98 6).toInt (by omega)
  have u106c := lc_0 (A := AGR) (M103.1 98 11).toInt (luL gf gn 1014 1014 (boP gf gn (unR gf gn 5)) (boL gf gn (unR gf gn 5) (uLR gf gn 5))) ((boP gf gn (unR gf gn 5)) gi).2.2 M103
  have L133 : ∀ (n131 : Nat), ∀ (M134 : mm_M) (gq135 : Int), ((b01 (RIP M134) = 1) ∧ ((M134.1 98 8).toInt = (M0.1 98 8).toInt) ∧ ((M0.1 98 6).toInt ≤ (M134.1 98 6).toInt) ∧ (b01 (XW M0 M134 0 1 0) = 1) ∧ ((M134.1 98 6).toInt ≤ 900) ∧ (b01 (LL (luP gf gn 1014 1014 (boP gf gn (unR gf gn 5))) gn ((boP gf gn (unR gf gn 5)) gi).2.2 gq135 0 (M103.1 98 11).toInt (M103.1 98 12).toInt (M134.1 98 11).toInt (M134.1 98 12).toInt (M134.1 98 6).toInt) = 1) ∧ (b01 (LC AGR (M134.1 98 11).toInt (luL gf gn 1014 1014 (boP gf gn (unR gf gn 5)) (boL gf gn (unR gf gn 5) (uLR gf gn 5))) ((boP gf gn (unR gf gn 5)) gi).2.2 gq135 M103 M134) = 1) ∧ (b01 (TKM gf gn M134) = 1) ∧ (b01 (PO gn gq135 (M134.1 98 11).toInt (M134.1 98 6).toInt) = 1) ∧ (b01 (PI M134) = 1) ∧ (900 - (M134.1 98 6).toInt) < (n131 : Int)) → INV pr Kz M134 → FR [98, 102] M0 M134 → jj p l e (cn_R 27) s m args below meth c 0 0 Q 2 dC dI ad cA A M134 5 [(0, .ref (ad 98)), (1, .int (sI 1))] [] := by
    intro n131
    induction n131 with
    | zero =>
      intro M134 gq135 h136 hM134 fM134
      exfalso; omega
    | succ n131 ih132 =>
      intro M134 gq135 h136 hM134 fM134
      have u137l := ri_l (M := M134) (by omega)
      have u137B := tkm_b (f := gf) (n := gn) (M := M134) (by omega)
      refine j_aload_n C 0 0 dX12_readTruth_5 rfl rfl ?_
      refine y_bipush C dX12_readTruth_6 rfl ?_
      have k138 := tkm_K (f := gf) (n := gn) (M := M134) (by omega)
      have k139 := kd_2 (kdk_15 gf gn (M134.1 98 6).toInt) (by omega)
      refine j_callVi C (d := 6) (As := [.int (sI 15)]) (st := []) 98 (s_lt rfl rfl) (s_kc (c := 11) rfl rfl) (by decide) rfl (s1_X12_eats hM134 hpr 15 (by omega) gf gn gq135 (by omega) (by omega) (by omega) (by omega) (by omega)) gX12_readTruth_X12_eats rfl hdX12_eats (by decide) (Nat.le_of_ble_eq_true rfl) dX12_readTruth_8 rfl (fun r140 M141 h142 => ?_)
      obtain ⟨a144, rfl, hM141, fM141, h143⟩ := h142
      have k145 := tk_c gf gn (M141.1 98 6).toInt (M134.1 98 6).toInt
      have bM141 := tkm_b (f := gf) (n := gn) (M := M141) (by omega)
      refine y_if_eq C 29 dX12_readTruth_11 (by decide) (by omega) (fun h146 => ?_) (fun h146 => ?_)
      · have u159c := xw_c (N := M134) (P := M141) 0 (FR.cell fM141 (by decide)) (by omega)
        have u159t := xw_t (M := M0) (N := M134) (P := M141) (r1 := 0) (e1 := 1) (s1 := 0) (r2 := 0) (e2 := 0) (s2 := 0) 0 1 0 (by decide) (by omega) (by omega)
        have u159a := ca_x (M := M0) (N := M141) (r := 0) (e := 1) (s := 0) (by decide) (by omega) (by omega)
        have u159E := ll_e gf gn 1014 1014 (boP gf gn (unR gf gn 5)) ((boP gf gn (unR gf gn 5)) gi).2.2 gq135 0 (M103.1 98 11).toInt (M103.1 98 12).toInt (M134.1 98 11).toInt (M134.1 98 12).toInt (M134.1 98 6).toInt (by decide) (bo_g gf gn (unR_g gf gn 5)) (by omega) (by omega)
        have u159S : b01 (RR ((trP gf gn (unR gf gn 5)) gi) (M0.1 98 11).toInt (M0.1 98 12).toInt (M134.1 98 11).toInt (M134.1 98 12).toInt (M134.1 98 6).toInt) = 1 := rr_sq ((boP gf gn (unR gf gn 5)) gi) (luP gf gn 1014 1014 (boP gf gn (unR gf gn 5))) (M0.1 98 11).toInt (M0.1 98 12).toInt (M103.1 98 11).toInt (M103.1 98 12).toInt (M103.1 98 6).toInt (M134.1 98 11).toInt (M134.1 98 12).toInt (M134.1 98 6).toInt (by omega) (by omega)
        have u159R := rr_eq ((trP gf gn (unR gf gn 5)) gi) (M0.1 98 11).toInt (M0.1 98 12).toInt (M134.1 98 11).toInt (M134.1 98 12).toInt (M134.1 98 6).toInt (M141.1 98 11).toInt (M141.1 98 12).toInt (M141.1 98 6).toInt (by omega) (by omega) (by omega) (by omega)
        have u159x := lc_e gf gn 1014 1014 (boP gf gn (unR gf gn 5)) ((boL gf gn (unR gf gn 5) (uLR gf gn 5))) (by decide) (show b01 (LC AGR (M134.1 98 11).toInt (luL gf gn 1014 1014 (boP gf gn (unR gf gn 5)) (boL gf gn (unR gf gn 5) (uLR gf gn 5))) ((boP gf gn (unR gf gn 5)) gi).2.2 gq135 M103 M134) = 1 by omega) (show b01 (LL (luP gf gn 1014 1014 (boP gf gn (unR gf gn 5))) gn ((boP gf gn (unR gf gn 5)) gi).2.2 gq135 0 (M103.1 98 11).toInt (M103.1 98 12).toInt (M134.1 98 11).toInt (M134.1 98 12).toInt (M134.1 98 6).toInt) = 1 by omega) (by omega)
        have u159y : b01 (CL AGR (M134.1 98 11).toInt M0 M134 ((trL gf gn (unR gf gn 5) (uLR gf gn 5)) gi)) = 1 := cl_e (cl_t (show b01 (CL AGR (M103.1 98 11).toInt M0 M103 ((boL gf gn (unR gf gn 5) (uLR gf gn 5)) gi)) = 1 by omega) u159x (fun z => rr_z (show b01 (RR ((luP gf gn 1014 1014 (boP gf gn (unR gf gn 5))) ((boP gf gn (unR gf gn 5)) gi).2.2) (M103.1 98 11).toInt (M103.1 98 12).toInt (M134.1 98 11).toInt (M134.1 98 12).toInt (M134.1 98 6).toInt) = 1 by omega) z)) (fun z => rfl)
        have u159l : b01 (CL AGR (M141.1 98 11).toInt M0 M141 ((trL gf gn (unR gf gn 5) (uLR gf gn 5)) gi)) = 1 := cl_e (cl_t u159y (cl_r (A := AGR) (M := M134) (N := M141) (M141.1 98 11).toInt (agr_c (FR.cell fM141 (by decide)))) (fun z => by omega)) (fun z => (List.append_nil _).symm)
        exact hret _ _ _ dX12_readTruth_29 ⟨hM141, ((FR.rf.tr fM134 (by decide)).tr fM141 (by decide)), by omega⟩
      · have u147c := xw_c (N := M134) (P := M141) 1 (FR.cell fM141 (by decide)) (by omega)
        have u147t := xw_t (M := M0) (N := M134) (P := M141) (r1 := 0) (e1 := 1) (s1 := 0) (r2 := 0) (e2 := 0) (s2 := 1) 0 1 1 (by decide) (by omega) (by omega)
        have u147a := ca_x (M := M0) (N := M141) (r := 0) (e := 1) (s := 1) (by decide) (by omega) (by omega)
        have u147l := ri_l (M := M141) (by omega)
        refine j_aload_n C 0 0 dX12_readTruth_14 rfl rfl ?_
        refine j_iload_n C 1 1 dX12_readTruth_15 rfl rfl ?_
        refine j_callVv C (d := 26) (As := [.int (sI 1)]) (st := []) 98 (s_lt rfl rfl) (s_kc (c := 11) rfl rfl) (by decide) rfl (s6_X12_readBoth hM141 hpr gf gn (nxF gf gn gq135) (by omega) (by omega) (by omega) (by omega) (by omega)) gX12_readTruth_X12_readBoth rfl hdX12_readBoth (by decide) (Nat.le_of_ble_eq_true rfl) dX12_readTruth_16 rfl (fun M149 h150 => ?_)
        obtain ⟨hM149, fM149, h151⟩ := h150
        have bM149 := tkm_b (f := gf) (n := gn) (M := M149) (by omega)
        have qM149 := po_rr (boP gf gn (unR gf gn 5)) gn (nxF gf gn gq135) (M141.1 98 11).toInt (M141.1 98 12).toInt (M141.1 98 6).toInt (M149.1 98 11).toInt (M149.1 98 12).toInt (M149.1 98 6).toInt (bo_g gf gn (unR_g gf gn 5)) (by omega) (by omega)
        have u152t := xw_t (M := M0) (N := M141) (P := M149) (r1 := 0) (e1 := 1) (s1 := 1) (r2 := 0) (e2 := 1) (s2 := 0) 0 2 1 (by decide) (by omega) (by omega)
        have u152l := ri_l (M := M149) (by omega)
        have u152b := cb_x (M := M0) (N := M149) (r := 0) (e := 2) (s := 1) (by decide) (by omega) (by omega) (by omega)
        refine j_aload_n C 0 0 dX12_readTruth_19 rfl rfl ?_
        refine y_sipush C dX12_readTruth_20 rfl ?_
        refine j_callVv C (d := 0) (As := [.int (sI 3008)]) (st := []) 98 (s_lt rfl rfl) (s_kc (c := 11) rfl rfl) (by decide) rfl (s1_X12_codes hM149 hpr 3008 (by omega) gf gn ((boP gf gn (unR gf gn 5)) (nxF gf gn gq135)).2.2 (by omega) (by omega) (by omega) (by omega)) gX12_readTruth_X12_codes rfl hdX12_codes (by decide) (Nat.le_of_ble_eq_true rfl) dX12_readTruth_23 rfl (fun M154 h155 => ?_)
        obtain ⟨hM154, fM154, h156⟩ := h155
        have k157 := tk_c gf gn (M154.1 98 6).toInt (M149.1 98 6).toInt
        have bM154 := tkm_b (f := gf) (n := gn) (M := M154) (by omega)
        have qM154 := po_eq gn ((boP gf gn (unR gf gn 5)) (nxF gf gn gq135)).2.2 (M149.1 98 11).toInt (M149.1 98 6).toInt (M154.1 98 11).toInt (M154.1 98 6).toInt (by omega) (by omega) (by omega)
        refine j_goto C 5 dX12_readTruth_26 (by decide) ?_
        have u158x := xw_a (M := M149) (N := M154) (c := 3008) (r := 2) (e := (-1)) (FR.cell fM154 (by decide)) (ap_bin ⟨(INV.rd hM149 (i := 102) (c := 48) (k := 280) rfl rfl).1, by omega, by omega⟩) (by omega)
        have u158t := xw_t (M := M0) (N := M149) (P := M154) (r1 := 0) (e1 := 2) (s1 := 1) (r2 := 2) (e2 := (-1)) (s2 := (-1)) 0 1 0 (by decide) (by omega) (by omega)
        have u158i := ri_c (M := M149) (N := M154) (FR.cell fM154 (by decide)) (by omega)
        have u158l := ri_l (M := M154) (by omega)
        have u158L := ll_w (luP gf gn 1014 1014 (boP gf gn (unR gf gn 5))) gn ((boP gf gn (unR gf gn 5)) gi).2.2 ((boP gf gn (unR gf gn 5)) (nxF gf gn gq135)).2.2 (0 + 1) 0 (M103.1 98 11).toInt (M103.1 98 12).toInt (M154.1 98 11).toInt (M154.1 98 12).toInt (M154.1 98 6).toInt (by decide) (ll_s gf gn 1014 1014 (boP gf gn (unR gf gn 5)) ((boP gf gn (unR gf gn 5)) gi).2.2 gq135 0 (M103.1 98 11).toInt (M103.1 98 12).toInt (M134.1 98 11).toInt (M134.1 98 12).toInt (M134.1 98 6).toInt (M141.1 98 11).toInt (M141.1 98 12).toInt (M149.1 98 11).toInt (M149.1 98 12).toInt (M149.1 98 6).toInt (M154.1 98 11).toInt (M154.1 98 12).toInt (M154.1 98 6).toInt (by decide) (bo_g gf gn (unR_g gf gn 5)) (by omega) (by omega) (by omega) (by omega) (by omega) (by omega) (by omega) (by omega) (by omega))
        have u158c := lc_s gf gn 1014 1014 (boP gf gn (unR gf gn 5)) (boL gf gn (unR gf gn 5) (uLR gf gn 5)) (by decide) (bo_g gf gn (unR_g gf gn 5)) (show b01 (LC AGR (M134.1 98 11).toInt (luL gf gn 1014 1014 (boP gf gn (unR gf gn 5)) (boL gf gn (unR gf gn 5) (uLR gf gn 5))) ((boP gf gn (unR gf gn 5)) gi).2.2 gq135 M103 M134) = 1 by omega) (show b01 (PO gn gq135 (M134.1 98 11).toInt (M134.1 98 6).toInt) = 1 by omega) (by omega) (show b01 (RR ((boP gf gn (unR gf gn 5)) (nxF gf gn gq135)) (M141.1 98 11).toInt (M141.1 98 12).toInt (M149.1 98 11).toInt (M149.1 98 12).toInt (M149.1 98 6).toInt) = 1 by omega) (fun z => by omega) (cl_e (L := ([] ++ ((boL gf gn (unR gf gn 5) (uLR gf gn 5)) (nxF gf gn gq135))) ++ [3008]) (cl_t (cl_t (cl_r (A := AGR) (M := M134) (N := M141) (M141.1 98 11).toInt (agr_c (FR.cell fM141 (by decide)))) (show b01 (CL AGR (M149.1 98 11).toInt M141 M149 ((boL gf gn (unR gf gn 5) (uLR gf gn 5)) (nxF gf gn gq135))) = 1 by omega) (fun z => rr_z (show b01 (RR ((boP gf gn (unR gf gn 5)) (nxF gf gn gq135)) (M141.1 98 11).toInt (M141.1 98 12).toInt (M149.1 98 11).toInt (M149.1 98 12).toInt (M149.1 98 6).toInt) = 1 by omega) z)) (show b01 (CL AGR (M154.1 98 11).toInt M149 M154 [3008]) = 1 by omega) (fun z => by omega)) (fun z => by rw [show tkF gf gn (M134.1 98 6).toInt = 1014 by omega, cm_tab.2.2.2.2.2.2.2.2, List.nil_append]) : b01 (CL AGR (M154.1 98 11).toInt M134 M154 (((boL gf gn (unR gf gn 5) (uLR gf gn 5)) (nxF gf gn gq135)) ++ [cmF (tkF gf gn (M134.1 98 6).toInt)])) = 1) (fun z => by omega)
        have zz98_8 : (M154.1 98 8).toInt = (M149.1 98 8).toInt := s_fF fM154 (by decide) (rfl); have zz98_6 : (M154.1 98 6).toInt = (M149.1 98 6).toInt := s_fF fM154 (by decide) (rfl); have zz98_12 : (M154.1 98 12).toInt = (M149.1 98 12).toInt := s_fF fM154 (by decide) (rfl); have zz98_11 : (M154.1 98 11).toInt = (M149.1 98 11).toInt := s_fF fM154 (by decide) (rfl); exact ih132 M154 ((boP gf gn (unR gf gn 5)) (nxF gf gn gq135)).2.2 (by (clear zz98_11 zz98_12 zz98_6 zz98_8 u158l u158x k157 fM154 hM154 u152b u152l u152t qM149 fM149 hM149 u147l u147a u147t u147c bM141 k145 fM141 hM141 k139 k138 u137B u137l fM134 hM134 ih132 u106c u106L u106l qM103 bM103 h105 fM103 hM103 u101l u101z hret C hp4 hp3 hp2 hp1 hp0 hpr hM0; omega)) hM154 ((((FR.rf.tr fM134 (by decide)).tr fM141 (by decide)).tr fM149 (by decide)).tr fM154 (by decide))
  exact L133 2010 M103 ((boP gf gn (unR gf gn 5)) gi).2.2 (by omega) hM103 (FR.rf.tr fM103 (by decide))
set_option maxHeartbeats 4000000 in
theorem s7_X12_readUnit {l : Launch} {dC : Nat → ClassId} {dI : Nat → Nat → Nat} {ad : Nat → Nat} {cA : Nat → ClassId} {pr : Nat → Nat → Bool} {Kz : mm_M} {M0 : mm_M} (hM0 : INV pr Kz M0) (hpr : PM pr) (gf : Nat → Int) (gn : Int) (gi : Int) (hp0 : b01 (RIP M0) = 1) (hp1 : b01 (CA M0) = 1) (hp2 : b01 (TKM gf gn M0) = 1) (hp3 : b01 (PO gn gi (M0.1 98 11).toInt (M0.1 98 6).toInt) = 1) (hp4 : b01 (PI M0) = 1) : Cv l 28 yX12_readUnit wsX12_readUnit dC dI ad cA [.ref (ad 98), .int (sI 0)] M0 (fun M' => INV pr Kz M' ∧ FR [98, 102] M0 M' ∧ (b01 (RIP M') = 1) ∧ ((M'.1 98 8).toInt = (M0.1 98 8).toInt) ∧ ((M0.1 98 6).toInt ≤ (M'.1 98 6).toInt) ∧ (b01 (XW M0 M' 0 1 0) = 1) ∧ (b01 (CA M') = 1) ∧ (b01 (CL AGR (M'.1 98 11).toInt M0 M' ((uLR gf gn 6) gi)) = 1) ∧ (b01 (PI M') = 1) ∧ (b01 (TKM gf gn M') = 1) ∧ b01 (RR ((unR gf gn 6) gi) (M0.1 98 11).toInt (M0.1 98 12).toInt (M'.1 98 11).toInt (M'.1 98 12).toInt (M'.1 98 6).toInt) = 1) := by
  refine cv_of (cc := cX12_readUnit) (maxL := 3) (lv := [(0, .ref (ad 98)), (1, .int (sI 0))]) (by decide) rfl (Nat.le_of_ble_eq_true rfl) rfl ?_
  intro p e s m args below meth c A Q C hret
  have u101z := xw_0 M0
  have u101l := ri_l (M := M0) (by omega)
  refine j_aload_n C 0 0 dX12_readUnit_0 rfl rfl ?_
  refine y_bipush C dX12_readUnit_1 rfl ?_
  have k102 := tkm_K (f := gf) (n := gn) (M := M0) (by omega)
  have k103 := kd_2 (kdk_16 gf gn (M0.1 98 6).toInt) (by omega)
  refine j_callVi C (d := 0) (As := [.int (sI 16)]) (st := []) 98 (s_lt rfl rfl) (s_kc (c := 11) rfl rfl) (by decide) rfl (s1_X12_is hM0 16 (by omega)) gX12_readUnit_X12_is rfl hdX12_is (by decide) (Nat.le_of_ble_eq_true rfl) dX12_readUnit_3 rfl (fun r104 M105 h106 => ?_)
  obtain ⟨a108, rfl, rfl, h107⟩ := h106
  refine y_if_eq C 33 dX12_readUnit_6 (by decide) (by omega) (fun h109 => ?_) (fun h109 => ?_)
  · refine j_aload_n C 0 0 dX12_readUnit_33 rfl rfl ?_
    refine y_bipush C dX12_readUnit_34 rfl ?_
    have k110 := tkm_K (f := gf) (n := gn) (M := M0) (by omega)
    have k111 := kd_2 (kdk_37 gf gn (M0.1 98 6).toInt) (by omega)
    refine j_callVi C (d := 0) (As := [.int (sI 37)]) (st := []) 98 (s_lt rfl rfl) (s_kc (c := 11) rfl rfl) (by decide) rfl (s1_X12_is hM0 37 (by omega)) gX12_readUnit_X12_is rfl hdX12_is (by decide) (Nat.le_of_ble_eq_true rfl) dX12_readUnit_36 rfl (fun r112 M113 h114 => ?_)
    obtain ⟨a116, rfl, rfl, h115⟩ := h114
    refine y_if_eq C 73 dX12_readUnit_39 (by decide) (by omega) (fun h117 => ?_) (fun h117 => ?_)
    · refine j_aload_n C 0 0 dX12_readUnit_73 rfl rfl ?_
      refine j_iload_n C 1 1 dX12_readUnit_74 rfl rfl ?_
      refine j_callVv C (d := 27) (As := [.int (sI 0)]) (st := []) 98 (s_lt rfl rfl) (s_kc (c := 11) rfl rfl) (by decide) rfl (s7_X12_readSum hM0 hpr gf gn gi (by omega) (by omega) (by omega) (by omega) (by omega)) gX12_readUnit_X12_readSum rfl hdX12_readSum (by decide) (Nat.le_of_ble_eq_true rfl) dX12_readUnit_75 rfl (fun M119 h120 => ?_)
      obtain ⟨hM119, fM119, h121⟩ := h120
      have bM119 := tkm_b (f := gf) (n := gn) (M := M119) (by omega)
      have qM119 := po_rr (suR gf gn 6) gn gi (M0.1 98 11).toInt (M0.1 98 12).toInt (M0.1 98 6).toInt (M119.1 98 11).toInt (M119.1 98 12).toInt (M119.1 98 6).toInt (suR_g gf gn 6) (by omega) (by omega)
      have u122l := ri_l (M := M119) (by omega)
      refine j_aload_n C 0 0 dX12_readUnit_78 rfl rfl ?_
      refine y_bipush C dX12_readUnit_79 rfl ?_
      have k123 := tkm_K (f := gf) (n := gn) (M := M119) (by omega)
      have k124 := kd_2 (kdk_39 gf gn (M119.1 98 6).toInt) (by omega)
      refine j_callVi C (d := 0) (As := [.int (sI 39)]) (st := []) 98 (s_lt rfl rfl) (s_kc (c := 11) rfl rfl) (by decide) rfl (s1_X12_is hM119 39 (by omega)) gX12_readUnit_X12_is rfl hdX12_is (by decide) (Nat.le_of_ble_eq_true rfl) dX12_readUnit_81 rfl (fun r125 M126 h127 => ?_)
      obtain ⟨a129, rfl, rfl, h128⟩ := h127
      have J140 : ∀ (a139 : Int), (3003 ≤ a139 ∧ a139 ≤ 3005 ∧ (¬ (M119.1 98 11).toInt = 0 ∨ (tkF gf gn (M119.1 98 6).toInt = 2061 ∧ a139 = 3003) ∨ (tkF gf gn (M119.1 98 6).toInt = 2060 ∧ a139 = 3004) ∨ (¬ tkF gf gn (M119.1 98 6).toInt = 2061 ∧ ¬ tkF gf gn (M119.1 98 6).toInt = 2060 ∧ a139 = 3005))) → jj p l e (cn_R 28) s m args below meth c 0 0 Q 3 dC dI ad cA A M119 111 [(0, .ref (ad 98)), (1, .int (sI 0))] [.int (sI a139)] := by
        intro a139 h141
        refine j_istore_n C 2 [(2, .int (sI a139)), (0, .ref (ad 98)), (1, .int (sI 0))] dX12_readUnit_111 rfl (by decide) rfl ?_
        refine j_aload_n C 1 0 dX12_readUnit_112 rfl rfl ?_
        refine y_bipush C dX12_readUnit_113 rfl ?_
        have k142 := tkm_K (f := gf) (n := gn) (M := M119) (by omega)
        have k143 := kd_2 (kdk_39 gf gn (M119.1 98 6).toInt) (by omega)
        refine j_callVi C (d := 0) (As := [.int (sI 39)]) (st := []) 98 (s_lt rfl rfl) (s_kc (c := 11) rfl rfl) (by decide) rfl (s1_X12_is hM119 39 (by omega)) gX12_readUnit_X12_is rfl hdX12_is (by decide) (Nat.le_of_ble_eq_true rfl) dX12_readUnit_115 rfl (fun r144 M145 h146 => ?_)
        obtain ⟨a148, rfl, rfl, h147⟩ := h146
        have J196 : ∀ (M195 : mm_M), ((b01 (RIP M195) = 1) ∧ ((M195.1 98 8).toInt = (M0.1 98 8).toInt) ∧ ((M0.1 98 6).toInt ≤ (M195.1 98 6).toInt) ∧ (b01 (XW M0 M195 0 1 1) = 1) ∧ (b01 (RR ((sjP gf gn 6) gi) (M0.1 98 11).toInt (M0.1 98 12).toInt (M195.1 98 11).toInt (M195.1 98 12).toInt (M195.1 98 6).toInt) = 1) ∧ (b01 (CL AGR (M195.1 98 11).toInt M0 M195 ((sLR gf gn 6) gi)) = 1) ∧ (b01 (UJW gf gn 6 gi (M195.1 98 11).toInt a139) = 1) ∧ (b01 (TKM gf gn M195) = 1) ∧ (b01 (PO gn ((sjP gf gn 6) gi).2.2 (M195.1 98 11).toInt (M195.1 98 6).toInt) = 1) ∧ (b01 (PI M195) = 1)) → INV pr Kz M195 → FR [98, 102] M0 M195 → jj p l e (cn_R 28) s m args below meth c 0 0 Q 3 dC dI ad cA A M195 151 [(0, .ref (ad 98)), (1, .int (sI 0)), (2, .int (sI a139))] [] := by
          intro M195 h197 hM195 fM195
          have u199a := ca_x (M := M0) (N := M195) (r := 0) (e := 1) (s := 1) (by decide) (by omega) (by omega)
          have u199l := ri_l (M := M195) (by omega)
          refine j_aload_n C 0 0 dX12_readUnit_151 rfl rfl ?_
          refine j_iload_n C 1 1 dX12_readUnit_152 rfl rfl ?_
          refine j_callVv C (d := 27) (As := [.int (sI 0)]) (st := []) 98 (s_lt rfl rfl) (s_kc (c := 11) rfl rfl) (by decide) rfl (s7_X12_readSum hM195 hpr gf gn ((sjP gf gn 6) gi).2.2 (by omega) (by omega) (by omega) (by omega) (by omega)) gX12_readUnit_X12_readSum rfl hdX12_readSum (by decide) (Nat.le_of_ble_eq_true rfl) dX12_readUnit_153 rfl (fun M201 h202 => ?_)
          obtain ⟨hM201, fM201, h203⟩ := h202
          have bM201 := tkm_b (f := gf) (n := gn) (M := M201) (by omega)
          have qM201 := po_rr (suR gf gn 6) gn ((sjP gf gn 6) gi).2.2 (M195.1 98 11).toInt (M195.1 98 12).toInt (M195.1 98 6).toInt (M201.1 98 11).toInt (M201.1 98 12).toInt (M201.1 98 6).toInt (suR_g gf gn 6) (by omega) (by omega)
          have u204t := xw_t (M := M0) (N := M195) (P := M201) (r1 := 0) (e1 := 1) (s1 := 1) (r2 := 0) (e2 := 1) (s2 := 0) 0 2 1 (by decide) (by omega) (by omega)
          have u204l := ri_l (M := M201) (by omega)
          have u204b := cb_x (M := M0) (N := M201) (r := 0) (e := 2) (s := 1) (by decide) (by omega) (by omega) (by omega)
          refine j_aload_n C 0 0 dX12_readUnit_156 rfl rfl ?_
          refine j_iload_n C 2 2 dX12_readUnit_157 rfl rfl ?_
          refine j_callVv C (d := 0) (As := [.int (sI a139)]) (st := []) 98 (s_lt rfl rfl) (s_kc (c := 11) rfl rfl) (by decide) rfl (s1_X12_codes hM201 hpr a139 (by omega) gf gn ((suR gf gn 6) ((sjP gf gn 6) gi).2.2).2.2 (by omega) (by omega) (by omega) (by omega)) gX12_readUnit_X12_codes rfl hdX12_codes (by decide) (Nat.le_of_ble_eq_true rfl) dX12_readUnit_158 rfl (fun M206 h207 => ?_)
          obtain ⟨hM206, fM206, h208⟩ := h207
          have k209 := tk_c gf gn (M206.1 98 6).toInt (M201.1 98 6).toInt
          have bM206 := tkm_b (f := gf) (n := gn) (M := M206) (by omega)
          have qM206 := po_eq gn ((suR gf gn 6) ((sjP gf gn 6) gi).2.2).2.2 (M201.1 98 11).toInt (M201.1 98 6).toInt (M206.1 98 11).toInt (M206.1 98 6).toInt (by omega) (by omega) (by omega)
          have u210x := xw_a (M := M201) (N := M206) (c := a139) (r := 2) (e := (-1)) (FR.cell fM206 (by decide)) (ap_bin ⟨(INV.rd hM201 (i := 102) (c := 48) (k := 280) rfl rfl).1, by omega, by omega⟩) (by omega)
          have u210t := xw_t (M := M0) (N := M201) (P := M206) (r1 := 0) (e1 := 2) (s1 := 1) (r2 := 2) (e2 := (-1)) (s2 := (-1)) 0 1 0 (by decide) (by omega) (by omega)
          have u210i := ri_c (M := M201) (N := M206) (FR.cell fM206 (by decide)) (by omega)
          have u210l := ri_l (M := M206) (by omega)
          have u210a := ca_x (M := M0) (N := M206) (r := 0) (e := 1) (s := 0) (by decide) (by omega) (by omega)
          have u211r := un_6 gf gn 6 gi (M0.1 98 11).toInt (M0.1 98 12).toInt (M0.1 98 6).toInt (M195.1 98 11).toInt (M195.1 98 12).toInt (M195.1 98 6).toInt (M201.1 98 11).toInt (M201.1 98 12).toInt (M201.1 98 6).toInt (M206.1 98 11).toInt (M206.1 98 12).toInt (M206.1 98 6).toInt (by omega) (by (clear u210a u210l u210i u210t u210x qM206 bM206 k209 h208 fM206 hM206 u204b u204l u204t qM201 bM201 h203 fM201 hM201 u199l u199a fM195 hM195 h197 h147 k143 k142 h141 h128 k124 u122l qM119 bM119 h121 fM119 hM119 k110 u101l u101z hret C hp4 hp3 hp2 hp1 hp0 hpr hM0; omega)) (by omega) (by omega) (by omega) (by omega) (by omega)
          have u211l : b01 (CL AGR (M206.1 98 11).toInt M0 M206 ((uLR gf gn 6) gi)) = 1 := cl_e (cl_t (cl_t (show b01 (CL AGR (M195.1 98 11).toInt M0 M195 ((sLR gf gn 6) gi)) = 1 by omega) (show b01 (CL AGR (M201.1 98 11).toInt M195 M201 ((sLR gf gn 6) ((sjP gf gn 6) gi).2.2)) = 1 by omega) (fun z => rr_z (show b01 (RR ((suR gf gn 6) ((sjP gf gn 6) gi).2.2) (M195.1 98 11).toInt (M195.1 98 12).toInt (M201.1 98 11).toInt (M201.1 98 12).toInt (M201.1 98 6).toInt) = 1 by omega) z)) (show b01 (CL AGR (M206.1 98 11).toInt M201 M206 [a139]) = 1 by omega) (fun z => by omega)) (fun z => by have y := (fun z => rr_z (show b01 (RR ((suR gf gn 6) ((sjP gf gn 6) gi).2.2) (M195.1 98 11).toInt (M195.1 98 12).toInt (M201.1 98 11).toInt (M201.1 98 12).toInt (M201.1 98 6).toInt) = 1 by omega) z) (show (M201.1 98 11).toInt = 0 by omega); rw [(b01_e (show b01 (UJW gf gn 6 gi (M195.1 98 11).toInt a139) = 1 by omega)).resolve_left (fun w => w y), List.append_assoc])
          have zz98_11 : (M206.1 98 11).toInt = (M201.1 98 11).toInt := s_fF fM206 (by decide) (rfl); have zz98_12 : (M206.1 98 12).toInt = (M201.1 98 12).toInt := s_fF fM206 (by decide) (rfl); have zz98_6 : (M206.1 98 6).toInt = (M201.1 98 6).toInt := s_fF fM206 (by decide) (rfl); have zz98_8 : (M206.1 98 8).toInt = (M201.1 98 8).toInt := s_fF fM206 (by decide) (rfl); exact hret _ _ _ dX12_readUnit_161 ⟨hM206, (((FR.rf.tr fM195 (by decide)).tr fM201 (by decide)).tr fM206 (by decide)), by omega⟩
        refine y_if_ne C 139 dX12_readUnit_118 (by decide) (by omega) (fun h149 => ?_) (fun h149 => ?_)
        · have u150k := ri_k (M := M119) (by omega) (by omega)
          refine j_aload_n C 1 0 dX12_readUnit_139 rfl rfl ?_
          have k151 := tkm_p (f := gf) (n := gn) (M := M119) (by omega)
          have k152 := tkm_K (f := gf) (n := gn) (M := M119) (by omega)
          refine j_callVv C (d := 5) (As := []) (st := []) 98 (s_lt rfl rfl) (s_kc (c := 11) rfl rfl) (by decide) rfl (s1_X12_next hM119 hpr gf gn (by omega) (by omega) (by omega) (by omega)) gX12_readUnit_X12_next rfl hdX12_next (by decide) (Nat.le_of_ble_eq_true rfl) dX12_readUnit_140 rfl (fun M154 h155 => ?_)
          obtain ⟨hM154, fM154, h156⟩ := h155
          have bM154 := tkm_b (f := gf) (n := gn) (M := M154) (by omega)
          have qM154 := nx_po (f := gf) (n := gn) (i := ((suR gf gn 6) gi).2.2) (M := M119) (M' := M154) (by omega) (by omega) (by omega) (by omega) (by omega)
          refine j_goto C 151 dX12_readUnit_143 (by decide) ?_
          have u157c := xw_c (N := M119) (P := M154) 1 (FR.cell fM154 (by decide)) (by omega)
          have u157t := xw_t (M := M0) (N := M119) (P := M154) (r1 := 0) (e1 := 1) (s1 := 0) (r2 := 0) (e2 := 0) (s2 := 1) 0 1 1 (by decide) (by omega) (by omega)
          have u157l := ri_l (M := M154) (by omega)
          have u157J := cj_1 gf gn 6 gi (M0.1 98 11).toInt (M0.1 98 12).toInt (M119.1 98 11).toInt (M119.1 98 12).toInt (M119.1 98 6).toInt (M154.1 98 11).toInt (M154.1 98 12).toInt (M154.1 98 6).toInt (by omega) (by omega) (by omega) (by omega) (by omega) (by omega) (by omega)
          have u157P := po_rr (sjP gf gn 6) gn gi (M0.1 98 11).toInt (M0.1 98 12).toInt (M0.1 98 6).toInt (M154.1 98 11).toInt (M154.1 98 12).toInt (M154.1 98 6).toInt (sj_g gf gn 6) (by omega) (by omega)
          have u157c : b01 (CL AGR (M154.1 98 11).toInt M0 M154 ((sLR gf gn 6) gi)) = 1 := cl_e (cl_t (show b01 (CL AGR (M119.1 98 11).toInt M0 M119 ((sLR gf gn 6) gi)) = 1 by omega) (cl_r (A := AGR) (M := M119) (N := M154) (M154.1 98 11).toInt (agr_c (FR.cell fM154 (by decide)))) (fun z => by omega)) (fun z => (List.append_nil _).symm)
          have u157j := uj_1 gf gn 6 (i := gi) (a := (M154.1 98 11).toInt) (c := a139) (show b01 (PO gn gi (M0.1 98 11).toInt (M0.1 98 6).toInt) = 1 by omega) (by omega) (show b01 (RR ((suR gf gn 6) gi) (M0.1 98 11).toInt (M0.1 98 12).toInt (M119.1 98 11).toInt (M119.1 98 12).toInt (M119.1 98 6).toInt) = 1 by omega) (show b01 (PO gn ((suR gf gn 6) gi).2.2 (M119.1 98 11).toInt (M119.1 98 6).toInt) = 1 by omega) (by omega) (by (clear u157c u157P u157J u157l u157t qM154 bM154 h156 fM154 hM154 k152 k151 u150k J196 k142 h128 k124 u122l qM119 bM119 h121 fM119 hM119 h117 h115 k111 k110 h109 h107 k103 k102 u101l u101z hret C hp4 hp3 hp2 hp1 hp0 hpr hM0; omega))
          refine j_lv [1, 2, 0] rfl ?_; exact J196 M154 (by omega) hM154 ((FR.rf.tr fM119 (by decide)).tr fM154 (by decide))
        · refine j_aload_n C 1 0 dX12_readUnit_121 rfl rfl ?_
          refine y_bipush C dX12_readUnit_122 rfl ?_
          have k158 := tkm_K (f := gf) (n := gn) (M := M119) (by omega)
          have k159 := kd_2 (kdk_40 gf gn (M119.1 98 6).toInt) (by omega)
          refine j_callVi C (d := 0) (As := [.int (sI 40)]) (st := []) 98 (s_lt rfl rfl) (s_kc (c := 11) rfl rfl) (by decide) rfl (s1_X12_is hM119 40 (by omega)) gX12_readUnit_X12_is rfl hdX12_is (by decide) (Nat.le_of_ble_eq_true rfl) dX12_readUnit_124 rfl (fun r160 M161 h162 => ?_)
          obtain ⟨a164, rfl, rfl, h163⟩ := h162
          refine y_if_ne C 139 dX12_readUnit_127 (by decide) (by omega) (fun h165 => ?_) (fun h165 => ?_)
          · have u166k := ri_k (M := M119) (by omega) (by omega)
            refine j_aload_n C 1 0 dX12_readUnit_139 rfl rfl ?_
            have k167 := tkm_p (f := gf) (n := gn) (M := M119) (by omega)
            have k168 := tkm_K (f := gf) (n := gn) (M := M119) (by omega)
            refine j_callVv C (d := 5) (As := []) (st := []) 98 (s_lt rfl rfl) (s_kc (c := 11) rfl rfl) (by decide) rfl (s1_X12_next hM119 hpr gf gn (by omega) (by omega) (by omega) (by omega)) gX12_readUnit_X12_next rfl hdX12_next (by decide) (Nat.le_of_ble_eq_true rfl) dX12_readUnit_140 rfl (fun M170 h171 => ?_)
            obtain ⟨hM170, fM170, h172⟩ := h171
            have bM170 := tkm_b (f := gf) (n := gn) (M := M170) (by omega)
            have qM170 := nx_po (f := gf) (n := gn) (i := ((suR gf gn 6) gi).2.2) (M := M119) (M' := M170) (by omega) (by omega) (by omega) (by omega) (by omega)
            refine j_goto C 151 dX12_readUnit_143 (by decide) ?_
            have u173c := xw_c (N := M119) (P := M170) 1 (FR.cell fM170 (by decide)) (by omega)
            have u173t := xw_t (M := M0) (N := M119) (P := M170) (r1 := 0) (e1 := 1) (s1 := 0) (r2 := 0) (e2 := 0) (s2 := 1) 0 1 1 (by decide) (by omega) (by omega)
            have u173l := ri_l (M := M170) (by omega)
            have u173J := cj_1 gf gn 6 gi (M0.1 98 11).toInt (M0.1 98 12).toInt (M119.1 98 11).toInt (M119.1 98 12).toInt (M119.1 98 6).toInt (M170.1 98 11).toInt (M170.1 98 12).toInt (M170.1 98 6).toInt (by omega) (by omega) (by omega) (by omega) (by omega) (by omega) (by omega)
            have u173P := po_rr (sjP gf gn 6) gn gi (M0.1 98 11).toInt (M0.1 98 12).toInt (M0.1 98 6).toInt (M170.1 98 11).toInt (M170.1 98 12).toInt (M170.1 98 6).toInt (sj_g gf gn 6) (by omega) (by omega)
            have u173c : b01 (CL AGR (M170.1 98 11).toInt M0 M170 ((sLR gf gn 6) gi)) = 1 := cl_e (cl_t (show b01 (CL AGR (M119.1 98 11).toInt M0 M119 ((sLR gf gn 6) gi)) = 1 by omega) (cl_r (A := AGR) (M := M119) (N := M170) (M170.1 98 11).toInt (agr_c (FR.cell fM170 (by decide)))) (fun z => by omega)) (fun z => (List.append_nil _).symm)
            have u173j := uj_1 gf gn 6 (i := gi) (a := (M170.1 98 11).toInt) (c := a139) (show b01 (PO gn gi (M0.1 98 11).toInt (M0.1 98 6).toInt) = 1 by omega) (by omega) (show b01 (RR ((suR gf gn 6) gi) (M0.1 98 11).toInt (M0.1 98 12).toInt (M119.1 98 11).toInt (M119.1 98 12).toInt (M119.1 98 6).toInt) = 1 by omega) (show b01 (PO gn ((suR gf gn 6) gi).2.2 (M119.1 98 11).toInt (M119.1 98 6).toInt) = 1 by omega) (by omega) (by (clear u173c u173P u173J u173l u173t qM170 bM170 h172 fM170 hM170 k168 k167 u166k k158 h149 J196 h147 k143 k142 h128 k124 u122l qM119 bM119 h121 fM119 hM119 h117 h115 k111 k110 h109 h107 k103 k102 u101l u101z hret C hp4 hp3 hp2 hp1 hp0 hpr hM0; omega))
            refine j_lv [1, 2, 0] rfl ?_; exact J196 M170 (by omega) hM170 ((FR.rf.tr fM119 (by decide)).tr fM170 (by decide))
          · refine j_aload_n C 1 0 dX12_readUnit_130 rfl rfl ?_
            refine y_bipush C dX12_readUnit_131 rfl ?_
            have k174 := tkm_K (f := gf) (n := gn) (M := M119) (by omega)
            have k175 := kd_2 (kdk_41 gf gn (M119.1 98 6).toInt) (by omega)
            refine j_callVi C (d := 0) (As := [.int (sI 41)]) (st := []) 98 (s_lt rfl rfl) (s_kc (c := 11) rfl rfl) (by decide) rfl (s1_X12_is hM119 41 (by omega)) gX12_readUnit_X12_is rfl hdX12_is (by decide) (Nat.le_of_ble_eq_true rfl) dX12_readUnit_133 rfl (fun r176 M177 h178 => ?_)
            obtain ⟨a180, rfl, rfl, h179⟩ := h178
            refine y_if_eq C 146 dX12_readUnit_136 (by decide) (by omega) (fun h181 => ?_) (fun h181 => ?_)
            · refine j_aload_n C 1 0 dX12_readUnit_146 rfl rfl ?_
              refine y_iconst C dX12_readUnit_147 ?_
              refine j_callVv C (d := 0) (As := [.int (sI 2)]) (st := []) 98 (s_lt rfl rfl) (s_kc (c := 11) rfl rfl) (by decide) rfl (s1_X12_fails hM119 hpr 2 (by omega) gf gn ((suR gf gn 6) gi).2.2 (by omega) (by omega) (by omega) (by omega) (by omega)) gX12_readUnit_X12_fails rfl hdX12_fails (by decide) (Nat.le_of_ble_eq_true rfl) dX12_readUnit_148 rfl (fun M183 h184 => ?_)
              obtain ⟨hM183, fM183, h185⟩ := h184
              have bM183 := tkm_b (f := gf) (n := gn) (M := M183) (by omega)
              have qM183 := po_f gn ((faQ gf gn 2) ((suR gf gn 6) gi).2.2).2.2 (M183.1 98 11).toInt (M183.1 98 6).toInt (by omega)
              have u186f : b01 (XW M0 M183 0 1 1) = 1 := b01_i (Or.inl (by omega))
              have u186l := ri_l (M := M183) (by omega)
              have u186J := cj_2 gf gn 6 gi (M0.1 98 11).toInt (M0.1 98 12).toInt (M119.1 98 11).toInt (M119.1 98 12).toInt (M119.1 98 6).toInt (M183.1 98 11).toInt (M183.1 98 12).toInt (M183.1 98 6).toInt (by omega) (by omega) (by (clear u186l u186f qM183 bM183 h185 fM183 hM183 k174 k158 J196 k142 h141 h128 k124 u122l qM119 bM119 h121 fM119 hM119 h117 h115 k111 k110 h109 h107 k103 k102 u101l u101z hret C hp4 hp3 hp2 hp1 hp0 hpr hM0; omega)) (by omega)
              have u186P := po_rr (sjP gf gn 6) gn gi (M0.1 98 11).toInt (M0.1 98 12).toInt (M0.1 98 6).toInt (M183.1 98 11).toInt (M183.1 98 12).toInt (M183.1 98 6).toInt (sj_g gf gn 6) (by omega) (by omega)
              have u186c := cl_n (A := AGR) (M := M0) (N := M183) ((sLR gf gn 6) gi) (a := (M183.1 98 11).toInt) (by omega)
              have u186j : b01 (UJW gf gn 6 gi (M183.1 98 11).toInt a139) = 1 := b01_i (Or.inl (by omega))
              refine j_lv [1, 2, 0] rfl ?_; exact J196 M183 (by omega) hM183 ((FR.rf.tr fM119 (by decide)).tr fM183 (by decide))
            · have u187k := ri_k (M := M119) (by omega) (by omega)
              refine j_aload_n C 1 0 dX12_readUnit_139 rfl rfl ?_
              have k188 := tkm_p (f := gf) (n := gn) (M := M119) (by omega)
              have k189 := tkm_K (f := gf) (n := gn) (M := M119) (by omega)
              refine j_callVv C (d := 5) (As := []) (st := []) 98 (s_lt rfl rfl) (s_kc (c := 11) rfl rfl) (by decide) rfl (s1_X12_next hM119 hpr gf gn (by omega) (by omega) (by omega) (by omega)) gX12_readUnit_X12_next rfl hdX12_next (by decide) (Nat.le_of_ble_eq_true rfl) dX12_readUnit_140 rfl (fun M191 h192 => ?_)
              obtain ⟨hM191, fM191, h193⟩ := h192
              have bM191 := tkm_b (f := gf) (n := gn) (M := M191) (by omega)
              have qM191 := nx_po (f := gf) (n := gn) (i := ((suR gf gn 6) gi).2.2) (M := M119) (M' := M191) (by omega) (by omega) (by omega) (by omega) (by omega)
              refine j_goto C 151 dX12_readUnit_143 (by decide) ?_
              have u194c := xw_c (N := M119) (P := M191) 1 (FR.cell fM191 (by decide)) (by omega)
              have u194t := xw_t (M := M0) (N := M119) (P := M191) (r1 := 0) (e1 := 1) (s1 := 0) (r2 := 0) (e2 := 0) (s2 := 1) 0 1 1 (by decide) (by omega) (by omega)
              have u194l := ri_l (M := M191) (by omega)
              have u194J := cj_1 gf gn 6 gi (M0.1 98 11).toInt (M0.1 98 12).toInt (M119.1 98 11).toInt (M119.1 98 12).toInt (M119.1 98 6).toInt (M191.1 98 11).toInt (M191.1 98 12).toInt (M191.1 98 6).toInt (by omega) (by omega) (by omega) (by omega) (by omega) (by omega) (by omega)
              have u194P := po_rr (sjP gf gn 6) gn gi (M0.1 98 11).toInt (M0.1 98 12).toInt (M0.1 98 6).toInt (M191.1 98 11).toInt (M191.1 98 12).toInt (M191.1 98 6).toInt (sj_g gf gn 6) (by omega) (by omega)
              have u194c : b01 (CL AGR (M191.1 98 11).toInt M0 M191 ((sLR gf gn 6) gi)) = 1 := cl_e (cl_t (show b01 (CL AGR (M119.1 98 11).toInt M0 M119 ((sLR gf gn 6) gi)) = 1 by omega) (cl_r (A := AGR) (M := M119) (N := M191) (M191.1 98 11).toInt (agr_c (FR.cell fM191 (by decide)))) (fun z => by omega)) (fun z => (List.append_nil _).symm)
              have u194j := uj_1 gf gn 6 (i := gi) (a := (M191.1 98 11).toInt) (c := a139) (show b01 (PO gn gi (M0.1 98 11).toInt (M0.1 98 6).toInt) = 1 by omega) (by (clear u194c u194P u194J u194l u194t qM191 bM191 h193 fM191 hM191 k189 k188 u187k h181 h179 k175 k174 h165 h163 k159 k158 h149 J196 h147 k143 k142 h141 h128 k124 k123 u122l qM119 bM119 h121 fM119 hM119 k110 u101l u101z hret C hp4 hp3 hp2 hp1 hp0 hpr hM0; omega)) (show b01 (RR ((suR gf gn 6) gi) (M0.1 98 11).toInt (M0.1 98 12).toInt (M119.1 98 11).toInt (M119.1 98 12).toInt (M119.1 98 6).toInt) = 1 by omega) (show b01 (PO gn ((suR gf gn 6) gi).2.2 (M119.1 98 11).toInt (M119.1 98 6).toInt) = 1 by omega) (by omega) (by (clear u194c u194P u194J u194l u194t qM191 bM191 h193 fM191 hM191 k189 k188 u187k k174 h165 h163 k159 k158 h149 J196 h147 k143 k142 h128 k124 u122l qM119 bM119 h121 fM119 hM119 h117 h115 k111 k110 h109 h107 k103 k102 u101l u101z hret C hp4 hp3 hp2 hp1 hp0 hpr hM0; omega))
              refine j_lv [1, 2, 0] rfl ?_; exact J196 M191 (by omega) hM191 ((FR.rf.tr fM119 (by decide)).tr fM191 (by decide))
      refine y_if_eq C 93 dX12_readUnit_84 (by decide) (by omega) (fun h130 => ?_) (fun h130 => ?_)
      · refine j_aload_n C 0 0 dX12_readUnit_93 rfl rfl ?_
        refine y_bipush C dX12_readUnit_94 rfl ?_
        have k131 := tkm_K (f := gf) (n := gn) (M := M119) (by omega)
        have k132 := kd_2 (kdk_40 gf gn (M119.1 98 6).toInt) (by omega)
        refine j_callVi C (d := 0) (As := [.int (sI 40)]) (st := []) 98 (s_lt rfl rfl) (s_kc (c := 11) rfl rfl) (by decide) rfl (s1_X12_is hM119 40 (by omega)) gX12_readUnit_X12_is rfl hdX12_is (by decide) (Nat.le_of_ble_eq_true rfl) dX12_readUnit_96 rfl (fun r133 M134 h135 => ?_)
        obtain ⟨a137, rfl, rfl, h136⟩ := h135
        refine y_if_eq C 108 dX12_readUnit_99 (by decide) (by omega) (fun h138 => ?_) (fun h138 => ?_)
        · refine y_sipush C dX12_readUnit_108 rfl ?_
          exact J140 3005 (by omega)
        · refine y_sipush C dX12_readUnit_102 rfl ?_
          refine j_goto C 111 dX12_readUnit_105 (by decide) ?_
          exact J140 3004 (by omega)
      · refine y_sipush C dX12_readUnit_87 rfl ?_
        refine j_goto C 111 dX12_readUnit_90 (by decide) ?_
        exact J140 3003 (by omega)
    · have u212k := ri_k (M := M0) (by omega) (by omega)
      refine j_aload_n C 0 0 dX12_readUnit_42 rfl rfl ?_
      refine j_iload_n C 1 1 dX12_readUnit_43 rfl rfl ?_
      refine j_callVi C (d := 6) (As := [.int (sI 0)]) (st := []) 98 (s_lt rfl rfl) (s_kc (c := 11) rfl rfl) (by decide) rfl (s1_X12_goesIn hM0 hpr gf gn gi (by omega) (by omega) (by omega) (by omega) (by omega) (by omega) (by omega)) gX12_readUnit_X12_goesIn rfl hdX12_goesIn (by decide) (Nat.le_of_ble_eq_true rfl) dX12_readUnit_44 rfl (fun r213 M214 h215 => ?_)
      obtain ⟨a217, rfl, hM214, fM214, h216⟩ := h215
      have bM214 := tkm_b (f := gf) (n := gn) (M := M214) (by omega)
      refine y_if_ne C 51 dX12_readUnit_47 (by decide) (by omega) (fun h218 => ?_) (fun h218 => ?_)
      · have u219c := xw_c (N := M0) (P := M214) 1 (FR.cell fM214 (by decide)) (by omega)
        have u219t := xw_t (M := M0) (N := M0) (P := M214) (r1 := 0) (e1 := 0) (s1 := 0) (r2 := 0) (e2 := 0) (s2 := 1) 0 0 1 (by decide) (by omega) (by omega)
        have u219a := ca_x (M := M0) (N := M214) (r := 0) (e := 0) (s := 1) (by decide) (by omega) (by omega)
        have u219l := ri_l (M := M214) (by omega)
        refine j_aload_n C 0 0 dX12_readUnit_51 rfl rfl ?_
        refine j_iload_n C 1 1 dX12_readUnit_52 rfl rfl ?_
        refine y_iconst C dX12_readUnit_53 ?_
        refine y_iadd C dX12_readUnit_54 ?_
        refine j_callVv C (d := 27) (As := [.int (sI (0 + 1))]) (st := []) 98 (s_lt rfl rfl) (s_kc (c := 11) rfl rfl) (by decide) rfl (s6_X12_readTruth hM214 hpr gf gn (nxF gf gn gi) (by omega) (by omega) (by omega) (by omega) (by omega)) gX12_readUnit_X12_readTruth rfl hdX12_readTruth (by decide) (Nat.le_of_ble_eq_true rfl) dX12_readUnit_55 rfl (fun M221 h222 => ?_)
        obtain ⟨hM221, fM221, h223⟩ := h222
        have bM221 := tkm_b (f := gf) (n := gn) (M := M221) (by omega)
        have qM221 := po_rr (trP gf gn (unR gf gn 5)) gn (nxF gf gn gi) (M214.1 98 11).toInt (M214.1 98 12).toInt (M214.1 98 6).toInt (M221.1 98 11).toInt (M221.1 98 12).toInt (M221.1 98 6).toInt (tr_g gf gn (unR_g gf gn 5)) (by omega) (by omega)
        have u224t := xw_t (M := M0) (N := M214) (P := M221) (r1 := 0) (e1 := 0) (s1 := 1) (r2 := 0) (e2 := 1) (s2 := 0) 0 1 1 (by decide) (by omega) (by omega)
        have u224l := ri_l (M := M221) (by omega)
        refine j_aload_n C 0 0 dX12_readUnit_58 rfl rfl ?_
        refine y_bipush C dX12_readUnit_59 rfl ?_
        have k225 := tkm_K (f := gf) (n := gn) (M := M221) (by omega)
        have k226 := kd_2 (kdk_38 gf gn (M221.1 98 6).toInt) (by omega)
        refine j_callVi C (d := 6) (As := [.int (sI 38)]) (st := []) 98 (s_lt rfl rfl) (s_kc (c := 11) rfl rfl) (by decide) rfl (s1_X12_eats hM221 hpr 38 (by omega) gf gn ((trP gf gn (unR gf gn 5)) (nxF gf gn gi)).2.2 (by omega) (by omega) (by omega) (by omega) (by omega)) gX12_readUnit_X12_eats rfl hdX12_eats (by decide) (Nat.le_of_ble_eq_true rfl) dX12_readUnit_61 rfl (fun r227 M228 h229 => ?_)
        obtain ⟨a231, rfl, hM228, fM228, h230⟩ := h229
        have k232 := tk_c gf gn (M228.1 98 6).toInt (M221.1 98 6).toInt
        have bM228 := tkm_b (f := gf) (n := gn) (M := M228) (by omega)
        have u233c := xw_c (N := M221) (P := M228) 0 (FR.cell fM228 (by decide)) (by omega)
        have u233t := xw_t (M := M0) (N := M221) (P := M228) (r1 := 0) (e1 := 1) (s1 := 1) (r2 := 0) (e2 := 0) (s2 := 0) 0 1 0 (by decide) (by omega) (by omega)
        have u233l := ri_l (M := M228) (by omega)
        refine y_if_ne C 72 dX12_readUnit_64 (by decide) (by omega) (fun h234 => ?_) (fun h234 => ?_)
        · have u235a := ca_x (M := M0) (N := M228) (r := 0) (e := 1) (s := 0) (by decide) (by omega) (by omega)
          have u236x := ex_1 gf gn 2093 ((trP gf gn (unR gf gn 5)) (nxF gf gn gi)).2.2 (M221.1 98 11).toInt (M221.1 98 12).toInt (M221.1 98 6).toInt (M228.1 98 11).toInt (M228.1 98 12).toInt (M228.1 98 6).toInt (by omega) (by omega) (by omega) (by omega) (by omega) (by omega)
          have u236r := un_2 gf gn 5 6 rfl gi (M0.1 98 11).toInt (M0.1 98 12).toInt (M0.1 98 6).toInt (M214.1 98 11).toInt (M214.1 98 12).toInt (M221.1 98 11).toInt (M221.1 98 12).toInt (M221.1 98 6).toInt (M228.1 98 11).toInt (M228.1 98 12).toInt (M228.1 98 6).toInt (by omega) (by omega) (by omega) (by omega) (by omega) (by omega)
          have u236l : b01 (CL AGR (M228.1 98 11).toInt M0 M228 ((uLR gf gn 6) gi)) = 1 := cl_e (cl_t (cl_t (cl_r (A := AGR) (M := M0) (N := M214) (M214.1 98 11).toInt (agr_c (FR.cell fM214 (by decide)))) (show b01 (CL AGR (M221.1 98 11).toInt M214 M221 ((trL gf gn (unR gf gn 5) (uLR gf gn 5)) (nxF gf gn gi))) = 1 by omega) (fun z => rr_z (show b01 (RR ((trP gf gn (unR gf gn 5)) (nxF gf gn gi)) (M214.1 98 11).toInt (M214.1 98 12).toInt (M221.1 98 11).toInt (M221.1 98 12).toInt (M221.1 98 6).toInt) = 1 by omega) z)) (cl_r (A := AGR) (M := M221) (N := M228) (M228.1 98 11).toInt (agr_c (FR.cell fM228 (by decide)))) (fun z => by omega)) (fun z => by rw [un_l2 gf gn 5 6 rfl (show b01 (PO gn gi (M0.1 98 11).toInt (M0.1 98 6).toInt) = 1 by omega) (by omega) (by omega), List.nil_append, List.append_nil])
          exact hret _ _ _ dX12_readUnit_72 ⟨hM228, (((FR.rf.tr fM214 (by decide)).tr fM221 (by decide)).tr fM228 (by decide)), by omega⟩
        · refine j_aload_n C 0 0 dX12_readUnit_67 rfl rfl ?_
          refine y_iconst C dX12_readUnit_68 ?_
          have p237 := po_eq gn ((trP gf gn (unR gf gn 5)) (nxF gf gn gi)).2.2 (M221.1 98 11).toInt (M221.1 98 6).toInt (M228.1 98 11).toInt (M228.1 98 6).toInt (by omega) (by omega) (by omega)
          refine j_callVv C (d := 0) (As := [.int (sI 2)]) (st := []) 98 (s_lt rfl rfl) (s_kc (c := 11) rfl rfl) (by decide) rfl (s1_X12_fails hM228 hpr 2 (by omega) gf gn ((trP gf gn (unR gf gn 5)) (nxF gf gn gi)).2.2 (by omega) (by omega) (by omega) (by omega) (by omega)) gX12_readUnit_X12_fails rfl hdX12_fails (by decide) (Nat.le_of_ble_eq_true rfl) dX12_readUnit_69 rfl (fun M239 h240 => ?_)
          obtain ⟨hM239, fM239, h241⟩ := h240
          have bM239 := tkm_b (f := gf) (n := gn) (M := M239) (by omega)
          have qM239 := po_f gn ((faQ gf gn 2) ((trP gf gn (unR gf gn 5)) (nxF gf gn gi)).2.2).2.2 (M239.1 98 11).toInt (M239.1 98 6).toInt (by omega)
          have u242f : b01 (XW M0 M239 0 1 0) = 1 := b01_i (Or.inl (by omega))
          have u242a := ca_x (M := M0) (N := M239) (r := 0) (e := 1) (s := 0) (by decide) (by omega) (by omega)
          have u243x := ex_2z gf gn 2093 ((trP gf gn (unR gf gn 5)) (nxF gf gn gi)).2.2 (M221.1 98 11).toInt (M221.1 98 12).toInt (M221.1 98 6).toInt (M239.1 98 11).toInt (M239.1 98 12).toInt (M239.1 98 6).toInt (by omega) (by omega) (rr_fr (faQ gf gn 2 ((trP gf gn (unR gf gn 5)) (nxF gf gn gi)).2.2) (M221.1 98 11).toInt (M221.1 98 12).toInt (M228.1 98 11).toInt (M228.1 98 12).toInt (M239.1 98 11).toInt (M239.1 98 12).toInt (M239.1 98 6).toInt (by omega) (by omega) (by omega))
          have u243r := un_2 gf gn 5 6 rfl gi (M0.1 98 11).toInt (M0.1 98 12).toInt (M0.1 98 6).toInt (M214.1 98 11).toInt (M214.1 98 12).toInt (M221.1 98 11).toInt (M221.1 98 12).toInt (M221.1 98 6).toInt (M239.1 98 11).toInt (M239.1 98 12).toInt (M239.1 98 6).toInt (by omega) (by (clear u243x u242a u242f qM239 bM239 h241 fM239 hM239 p237 h234 u233l u233t u233c bM228 k232 h230 fM228 hM228 k226 k225 u224l u224t qM221 bM221 h223 fM221 hM221 u219l u219a u219t u219c h218 bM214 h216 fM214 hM214 u212k k110 h109 h107 k103 u101l u101z hret C hp4 hp3 hp2 hp1 hp0 hpr hM0; omega)) (by (clear u243x u242a u242f qM239 bM239 h241 fM239 hM239 p237 h234 u233l u233t u233c bM228 k232 h230 fM228 hM228 k226 k225 u224l u224t qM221 bM221 h223 fM221 hM221 u219l u219a u219t u219c h218 bM214 fM214 hM214 u212k h117 h115 k111 k110 h109 h107 k103 k102 u101l u101z hret C hp4 hp3 hp2 hp1 hp0 hpr hM0; omega)) (by omega) (by omega) (by omega)
          have u243l := cl_n (A := AGR) (M := M0) (N := M239) ((uLR gf gn 6) gi) (a := (M239.1 98 11).toInt) (by omega)
          exact hret _ _ _ dX12_readUnit_72 ⟨hM239, ((((FR.rf.tr fM214 (by decide)).tr fM221 (by decide)).tr fM228 (by decide)).tr fM239 (by decide)), by omega⟩
      · exfalso; omega
  · have u244k := ri_k (M := M0) (by omega) (by omega)
    refine j_aload_n C 0 0 dX12_readUnit_9 rfl rfl ?_
    refine j_iload_n C 1 1 dX12_readUnit_10 rfl rfl ?_
    refine j_callVi C (d := 6) (As := [.int (sI 0)]) (st := []) 98 (s_lt rfl rfl) (s_kc (c := 11) rfl rfl) (by decide) rfl (s1_X12_goesIn hM0 hpr gf gn gi (by omega) (by omega) (by omega) (by omega) (by omega) (by omega) (by omega)) gX12_readUnit_X12_goesIn rfl hdX12_goesIn (by decide) (Nat.le_of_ble_eq_true rfl) dX12_readUnit_11 rfl (fun r245 M246 h247 => ?_)
    obtain ⟨a249, rfl, hM246, fM246, h248⟩ := h247
    have bM246 := tkm_b (f := gf) (n := gn) (M := M246) (by omega)
    refine y_if_ne C 18 dX12_readUnit_14 (by decide) (by omega) (fun h250 => ?_) (fun h250 => ?_)
    · have u251c := xw_c (N := M0) (P := M246) 1 (FR.cell fM246 (by decide)) (by omega)
      have u251t := xw_t (M := M0) (N := M0) (P := M246) (r1 := 0) (e1 := 0) (s1 := 0) (r2 := 0) (e2 := 0) (s2 := 1) 0 0 1 (by decide) (by omega) (by omega)
      have u251a := ca_x (M := M0) (N := M246) (r := 0) (e := 0) (s := 1) (by decide) (by omega) (by omega)
      have u251l := ri_l (M := M246) (by omega)
      refine j_aload_n C 0 0 dX12_readUnit_18 rfl rfl ?_
      refine j_iload_n C 1 1 dX12_readUnit_19 rfl rfl ?_
      refine y_iconst C dX12_readUnit_20 ?_
      refine y_iadd C dX12_readUnit_21 ?_
      refine j_callVv C (d := 25) (As := [.int (sI (0 + 1))]) (st := []) 98 (s_lt rfl rfl) (s_kc (c := 11) rfl rfl) (by decide) rfl (s6_X12_readUnit hM246 hpr gf gn (nxF gf gn gi) (by omega) (by omega) (by omega) (by omega) (by omega)) gX12_readUnit_X12_readUnit rfl hdX12_readUnit (by decide) (Nat.le_of_ble_eq_true rfl) dX12_readUnit_22 rfl (fun M253 h254 => ?_)
      obtain ⟨hM253, fM253, h255⟩ := h254
      have bM253 := tkm_b (f := gf) (n := gn) (M := M253) (by omega)
      have qM253 := po_rr (unR gf gn 5) gn (nxF gf gn gi) (M246.1 98 11).toInt (M246.1 98 12).toInt (M246.1 98 6).toInt (M253.1 98 11).toInt (M253.1 98 12).toInt (M253.1 98 6).toInt (unR_g gf gn 5) (by omega) (by omega)
      have u256t := xw_t (M := M0) (N := M246) (P := M253) (r1 := 0) (e1 := 0) (s1 := 1) (r2 := 0) (e2 := 1) (s2 := 0) 0 1 1 (by decide) (by omega) (by omega)
      have u256l := ri_l (M := M253) (by omega)
      have u256b := cb_x (M := M0) (N := M253) (r := 0) (e := 1) (s := 1) (by decide) (by omega) (by omega) (by omega)
      refine j_aload_n C 0 0 dX12_readUnit_25 rfl rfl ?_
      refine y_sipush C dX12_readUnit_26 rfl ?_
      refine j_callVv C (d := 0) (As := [.int (sI 3006)]) (st := []) 98 (s_lt rfl rfl) (s_kc (c := 11) rfl rfl) (by decide) rfl (s1_X12_codes hM253 hpr 3006 (by omega) gf gn ((unR gf gn 5) (nxF gf gn gi)).2.2 (by omega) (by omega) (by omega) (by omega)) gX12_readUnit_X12_codes rfl hdX12_codes (by decide) (Nat.le_of_ble_eq_true rfl) dX12_readUnit_29 rfl (fun M258 h259 => ?_)
      obtain ⟨hM258, fM258, h260⟩ := h259
      have k261 := tk_c gf gn (M258.1 98 6).toInt (M253.1 98 6).toInt
      have bM258 := tkm_b (f := gf) (n := gn) (M := M258) (by omega)
      have qM258 := po_eq gn ((unR gf gn 5) (nxF gf gn gi)).2.2 (M253.1 98 11).toInt (M253.1 98 6).toInt (M258.1 98 11).toInt (M258.1 98 6).toInt (by omega) (by omega) (by omega)
      have u262x := xw_a (M := M253) (N := M258) (c := 3006) (r := 1) (e := 0) (FR.cell fM258 (by decide)) (ap_not (INV.rd hM253 (i := 102) (c := 48) (k := 280) rfl rfl).1) (by omega)
      have u262t := xw_t (M := M0) (N := M253) (P := M258) (r1 := 0) (e1 := 1) (s1 := 1) (r2 := 1) (e2 := 0) (s2 := (-1)) 0 1 0 (by decide) (by omega) (by omega)
      have u262i := ri_c (M := M253) (N := M258) (FR.cell fM258 (by decide)) (by omega)
      have u262l := ri_l (M := M258) (by omega)
      have u262a := ca_x (M := M0) (N := M258) (r := 0) (e := 1) (s := 0) (by decide) (by omega) (by omega)
      have u263r := un_1 gf gn 5 6 rfl gi (M0.1 98 11).toInt (M0.1 98 12).toInt (M0.1 98 6).toInt (M246.1 98 11).toInt (M246.1 98 12).toInt (M253.1 98 11).toInt (M253.1 98 12).toInt (M253.1 98 6).toInt (M258.1 98 11).toInt (M258.1 98 12).toInt (M258.1 98 6).toInt (by omega) (by omega) (by omega) (by omega) (by omega) (by omega) (by omega) (by omega)
      have u263l : b01 (CL AGR (M258.1 98 11).toInt M0 M258 ((uLR gf gn 6) gi)) = 1 := cl_e (cl_t (cl_t (cl_r (A := AGR) (M := M0) (N := M246) (M246.1 98 11).toInt (agr_c (FR.cell fM246 (by decide)))) (show b01 (CL AGR (M253.1 98 11).toInt M246 M253 ((uLR gf gn 5) (nxF gf gn gi))) = 1 by omega) (fun z => rr_z (show b01 (RR ((unR gf gn 5) (nxF gf gn gi)) (M246.1 98 11).toInt (M246.1 98 12).toInt (M253.1 98 11).toInt (M253.1 98 12).toInt (M253.1 98 6).toInt) = 1 by omega) z)) (show b01 (CL AGR (M258.1 98 11).toInt M253 M258 [3006]) = 1 by omega) (fun z => by omega)) (fun z => by rw [un_l1 gf gn 5 6 rfl (show b01 (PO gn gi (M0.1 98 11).toInt (M0.1 98 6).toInt) = 1 by omega) (by omega) (by omega), cm_tab.2.2.2.2.2.2.1, List.nil_append])
      have zz98_11 : (M258.1 98 11).toInt = (M253.1 98 11).toInt := s_fF fM258 (by decide) (rfl); have zz98_12 : (M258.1 98 12).toInt = (M253.1 98 12).toInt := s_fF fM258 (by decide) (rfl); have zz98_6 : (M258.1 98 6).toInt = (M253.1 98 6).toInt := s_fF fM258 (by decide) (rfl); have zz98_8 : (M258.1 98 8).toInt = (M253.1 98 8).toInt := s_fF fM258 (by decide) (rfl); exact hret _ _ _ dX12_readUnit_32 ⟨hM258, (((FR.rf.tr fM246 (by decide)).tr fM253 (by decide)).tr fM258 (by decide)), by omega⟩
    · exfalso; omega
set_option maxHeartbeats 4000000 in
theorem s7_X12_readBoth {l : Launch} {dC : Nat → ClassId} {dI : Nat → Nat → Nat} {ad : Nat → Nat} {cA : Nat → ClassId} {pr : Nat → Nat → Bool} {Kz : mm_M} {M0 : mm_M} (hM0 : INV pr Kz M0) (hpr : PM pr) (gf : Nat → Int) (gn : Int) (gi : Int) (hp0 : b01 (RIP M0) = 1) (hp1 : b01 (CA M0) = 1) (hp2 : b01 (TKM gf gn M0) = 1) (hp3 : b01 (PO gn gi (M0.1 98 11).toInt (M0.1 98 6).toInt) = 1) (hp4 : b01 (PI M0) = 1) : Cv l 29 yX12_readBoth wsX12_readBoth dC dI ad cA [.ref (ad 98), .int (sI 0)] M0 (fun M' => INV pr Kz M' ∧ FR [98, 102] M0 M' ∧ (b01 (RIP M') = 1) ∧ ((M'.1 98 8).toInt = (M0.1 98 8).toInt) ∧ ((M0.1 98 6).toInt ≤ (M'.1 98 6).toInt) ∧ (b01 (XW M0 M' 0 1 0) = 1) ∧ (b01 (CA M') = 1) ∧ (b01 (CL AGR (M'.1 98 11).toInt M0 M' ((boL gf gn (unR gf gn 6) (uLR gf gn 6)) gi)) = 1) ∧ (b01 (PI M') = 1) ∧ (b01 (TKM gf gn M') = 1) ∧ b01 (RR ((boP gf gn (unR gf gn 6)) gi) (M0.1 98 11).toInt (M0.1 98 12).toInt (M'.1 98 11).toInt (M'.1 98 12).toInt (M'.1 98 6).toInt) = 1) := by
  refine cv_of (cc := cX12_readBoth) (maxL := 2) (lv := [(0, .ref (ad 98)), (1, .int (sI 0))]) (by decide) rfl (Nat.le_of_ble_eq_true rfl) rfl ?_
  intro p e s m args below meth c A Q C hret
  have u101z := xw_0 M0
  have u101l := ri_l (M := M0) (by omega)
  refine j_aload_n C 0 0 dX12_readBoth_0 rfl rfl ?_
  refine j_iload_n C 1 1 dX12_readBoth_1 rfl rfl ?_
  refine j_callVv C (d := 28) (As := [.int (sI 0)]) (st := []) 98 (s_lt rfl rfl) (s_kc (c := 11) rfl rfl) (by decide) rfl (s7_X12_readUnit hM0 hpr gf gn gi (by omega) (by omega) (by omega) (by omega) (by omega)) gX12_readBoth_X12_readUnit rfl hdX12_readUnit (by decide) (Nat.le_of_ble_eq_true rfl) dX12_readBoth_2 rfl (fun M103 h104 => ?_)
  obtain ⟨hM103, fM103, h105⟩ := h104
  have bM103 := tkm_b (f := gf) (n := gn) (M := M103) (by omega)
  have qM103 := po_rr (unR gf gn 6) gn gi (M0.1 98 11).toInt (M0.1 98 12).toInt (M0.1 98 6).toInt (M103.1 98 11).toInt (M103.1 98 12).toInt (M103.1 98 6).toInt (unR_g gf gn 6) (by omega) (by omega)
  have u106l := ri_l (M := M103) (by omega)
  have u106L := ll_0 (luP gf gn 1015 1015 (unR gf gn 6)) gn ((unR gf gn 6) gi).2.2 (M103.1 98 11).toInt (M103.1 98 12).toInt (M103.1 98 6).toInt (by omega)
  have u106c := lc_0 (A := AGR) (M103.1 98 11).toInt (luL gf gn 1015 1015 (unR gf gn 6) (uLR gf gn 6)) ((unR gf gn 6) gi).2.2 M103
  have L133 : ∀ (n131 : Nat), ∀ (M134 : mm_M) (gq135 : Int), ((b01 (RIP M134) = 1) ∧ ((M134.1 98 8).toInt = (M0.1 98 8).toInt) ∧ ((M0.1 98 6).toInt ≤ (M134.1 98 6).toInt) ∧ (b01 (XW M0 M134 0 1 0) = 1) ∧ ((M134.1 98 6).toInt ≤ 900) ∧ (b01 (LL (luP gf gn 1015 1015 (unR gf gn 6)) gn ((unR gf gn 6) gi).2.2 gq135 0 (M103.1 98 11).toInt (M103.1 98 12).toInt (M134.1 98 11).toInt (M134.1 98 12).toInt (M134.1 98 6).toInt) = 1) ∧ (b01 (LC AGR (M134.1 98 11).toInt (luL gf gn 1015 1015 (unR gf gn 6) (uLR gf gn 6)) ((unR gf gn 6) gi).2.2 gq135 M103 M134) = 1) ∧ (b01 (TKM gf gn M134) = 1) ∧ (b01 (PO gn gq135 (M134.1 98 11).toInt (M134.1 98 6).toInt) = 1) ∧ (b01 (PI M134) = 1) ∧ (900 - (M134.1 98 6).toInt) < (n131 : Int)) → INV pr Kz M134 → FR [98, 102] M0 M134 → jj p l e (cn_R 29) s m args below meth c 0 0 Q 2 dC dI ad cA A M134 5 [(0, .ref (ad 98)), (1, .int (sI 0))] [] := by
    intro n131
    induction n131 with
    | zero =>
      intro M134 gq135 h136 hM134 fM134
      exfalso; omega
    | succ n131 ih132 =>
      intro M134 gq135 h136 hM134 fM134
      have u137l := ri_l (M := M134) (by omega)
      have u137B := tkm_b (f := gf) (n := gn) (M := M134) (by omega)
      refine j_aload_n C 0 0 dX12_readBoth_5 rfl rfl ?_
      refine y_bipush C dX12_readBoth_6 rfl ?_
      have k138 := tkm_K (f := gf) (n := gn) (M := M134) (by omega)
      have k139 := kd_2 (kdk_14 gf gn (M134.1 98 6).toInt) (by omega)
      refine j_callVi C (d := 6) (As := [.int (sI 14)]) (st := []) 98 (s_lt rfl rfl) (s_kc (c := 11) rfl rfl) (by decide) rfl (s1_X12_eats hM134 hpr 14 (by omega) gf gn gq135 (by omega) (by omega) (by omega) (by omega) (by omega)) gX12_readBoth_X12_eats rfl hdX12_eats (by decide) (Nat.le_of_ble_eq_true rfl) dX12_readBoth_8 rfl (fun r140 M141 h142 => ?_)
      obtain ⟨a144, rfl, hM141, fM141, h143⟩ := h142
      have k145 := tk_c gf gn (M141.1 98 6).toInt (M134.1 98 6).toInt
      have bM141 := tkm_b (f := gf) (n := gn) (M := M141) (by omega)
      refine y_if_eq C 29 dX12_readBoth_11 (by decide) (by omega) (fun h146 => ?_) (fun h146 => ?_)
      · have u159c := xw_c (N := M134) (P := M141) 0 (FR.cell fM141 (by decide)) (by omega)
        have u159t := xw_t (M := M0) (N := M134) (P := M141) (r1 := 0) (e1 := 1) (s1 := 0) (r2 := 0) (e2 := 0) (s2 := 0) 0 1 0 (by decide) (by omega) (by omega)
        have u159a := ca_x (M := M0) (N := M141) (r := 0) (e := 1) (s := 0) (by decide) (by omega) (by omega)
        have u159E := ll_e gf gn 1015 1015 (unR gf gn 6) ((unR gf gn 6) gi).2.2 gq135 0 (M103.1 98 11).toInt (M103.1 98 12).toInt (M134.1 98 11).toInt (M134.1 98 12).toInt (M134.1 98 6).toInt (by decide) (unR_g gf gn 6) (by omega) (by omega)
        have u159S : b01 (RR ((boP gf gn (unR gf gn 6)) gi) (M0.1 98 11).toInt (M0.1 98 12).toInt (M134.1 98 11).toInt (M134.1 98 12).toInt (M134.1 98 6).toInt) = 1 := rr_sq ((unR gf gn 6) gi) (luP gf gn 1015 1015 (unR gf gn 6)) (M0.1 98 11).toInt (M0.1 98 12).toInt (M103.1 98 11).toInt (M103.1 98 12).toInt (M103.1 98 6).toInt (M134.1 98 11).toInt (M134.1 98 12).toInt (M134.1 98 6).toInt (by omega) (by omega)
        have u159R := rr_eq ((boP gf gn (unR gf gn 6)) gi) (M0.1 98 11).toInt (M0.1 98 12).toInt (M134.1 98 11).toInt (M134.1 98 12).toInt (M134.1 98 6).toInt (M141.1 98 11).toInt (M141.1 98 12).toInt (M141.1 98 6).toInt (by omega) (by omega) (by omega) (by omega)
        have u159x := lc_e gf gn 1015 1015 (unR gf gn 6) ((uLR gf gn 6)) (by decide) (show b01 (LC AGR (M134.1 98 11).toInt (luL gf gn 1015 1015 (unR gf gn 6) (uLR gf gn 6)) ((unR gf gn 6) gi).2.2 gq135 M103 M134) = 1 by omega) (show b01 (LL (luP gf gn 1015 1015 (unR gf gn 6)) gn ((unR gf gn 6) gi).2.2 gq135 0 (M103.1 98 11).toInt (M103.1 98 12).toInt (M134.1 98 11).toInt (M134.1 98 12).toInt (M134.1 98 6).toInt) = 1 by omega) (by omega)
        have u159y : b01 (CL AGR (M134.1 98 11).toInt M0 M134 ((boL gf gn (unR gf gn 6) (uLR gf gn 6)) gi)) = 1 := cl_e (cl_t (show b01 (CL AGR (M103.1 98 11).toInt M0 M103 ((uLR gf gn 6) gi)) = 1 by omega) u159x (fun z => rr_z (show b01 (RR ((luP gf gn 1015 1015 (unR gf gn 6)) ((unR gf gn 6) gi).2.2) (M103.1 98 11).toInt (M103.1 98 12).toInt (M134.1 98 11).toInt (M134.1 98 12).toInt (M134.1 98 6).toInt) = 1 by omega) z)) (fun z => rfl)
        have u159l : b01 (CL AGR (M141.1 98 11).toInt M0 M141 ((boL gf gn (unR gf gn 6) (uLR gf gn 6)) gi)) = 1 := cl_e (cl_t u159y (cl_r (A := AGR) (M := M134) (N := M141) (M141.1 98 11).toInt (agr_c (FR.cell fM141 (by decide)))) (fun z => by omega)) (fun z => (List.append_nil _).symm)
        exact hret _ _ _ dX12_readBoth_29 ⟨hM141, ((FR.rf.tr fM134 (by decide)).tr fM141 (by decide)), by omega⟩
      · have u147c := xw_c (N := M134) (P := M141) 1 (FR.cell fM141 (by decide)) (by omega)
        have u147t := xw_t (M := M0) (N := M134) (P := M141) (r1 := 0) (e1 := 1) (s1 := 0) (r2 := 0) (e2 := 0) (s2 := 1) 0 1 1 (by decide) (by omega) (by omega)
        have u147a := ca_x (M := M0) (N := M141) (r := 0) (e := 1) (s := 1) (by decide) (by omega) (by omega)
        have u147l := ri_l (M := M141) (by omega)
        refine j_aload_n C 0 0 dX12_readBoth_14 rfl rfl ?_
        refine j_iload_n C 1 1 dX12_readBoth_15 rfl rfl ?_
        refine j_callVv C (d := 28) (As := [.int (sI 0)]) (st := []) 98 (s_lt rfl rfl) (s_kc (c := 11) rfl rfl) (by decide) rfl (s7_X12_readUnit hM141 hpr gf gn (nxF gf gn gq135) (by omega) (by omega) (by omega) (by omega) (by omega)) gX12_readBoth_X12_readUnit rfl hdX12_readUnit (by decide) (Nat.le_of_ble_eq_true rfl) dX12_readBoth_16 rfl (fun M149 h150 => ?_)
        obtain ⟨hM149, fM149, h151⟩ := h150
        have bM149 := tkm_b (f := gf) (n := gn) (M := M149) (by omega)
        have qM149 := po_rr (unR gf gn 6) gn (nxF gf gn gq135) (M141.1 98 11).toInt (M141.1 98 12).toInt (M141.1 98 6).toInt (M149.1 98 11).toInt (M149.1 98 12).toInt (M149.1 98 6).toInt (unR_g gf gn 6) (by omega) (by omega)
        have u152t := xw_t (M := M0) (N := M141) (P := M149) (r1 := 0) (e1 := 1) (s1 := 1) (r2 := 0) (e2 := 1) (s2 := 0) 0 2 1 (by decide) (by omega) (by omega)
        have u152l := ri_l (M := M149) (by omega)
        have u152b := cb_x (M := M0) (N := M149) (r := 0) (e := 2) (s := 1) (by decide) (by omega) (by omega) (by omega)
        refine j_aload_n C 0 0 dX12_readBoth_19 rfl rfl ?_
        refine y_sipush C dX12_readBoth_20 rfl ?_
        refine j_callVv C (d := 0) (As := [.int (sI 3007)]) (st := []) 98 (s_lt rfl rfl) (s_kc (c := 11) rfl rfl) (by decide) rfl (s1_X12_codes hM149 hpr 3007 (by omega) gf gn ((unR gf gn 6) (nxF gf gn gq135)).2.2 (by omega) (by omega) (by omega) (by omega)) gX12_readBoth_X12_codes rfl hdX12_codes (by decide) (Nat.le_of_ble_eq_true rfl) dX12_readBoth_23 rfl (fun M154 h155 => ?_)
        obtain ⟨hM154, fM154, h156⟩ := h155
        have k157 := tk_c gf gn (M154.1 98 6).toInt (M149.1 98 6).toInt
        have bM154 := tkm_b (f := gf) (n := gn) (M := M154) (by omega)
        have qM154 := po_eq gn ((unR gf gn 6) (nxF gf gn gq135)).2.2 (M149.1 98 11).toInt (M149.1 98 6).toInt (M154.1 98 11).toInt (M154.1 98 6).toInt (by omega) (by omega) (by omega)
        refine j_goto C 5 dX12_readBoth_26 (by decide) ?_
        have u158x := xw_a (M := M149) (N := M154) (c := 3007) (r := 2) (e := (-1)) (FR.cell fM154 (by decide)) (ap_bin ⟨(INV.rd hM149 (i := 102) (c := 48) (k := 280) rfl rfl).1, by omega, by omega⟩) (by omega)
        have u158t := xw_t (M := M0) (N := M149) (P := M154) (r1 := 0) (e1 := 2) (s1 := 1) (r2 := 2) (e2 := (-1)) (s2 := (-1)) 0 1 0 (by decide) (by omega) (by omega)
        have u158i := ri_c (M := M149) (N := M154) (FR.cell fM154 (by decide)) (by omega)
        have u158l := ri_l (M := M154) (by omega)
        have u158L := ll_w (luP gf gn 1015 1015 (unR gf gn 6)) gn ((unR gf gn 6) gi).2.2 ((unR gf gn 6) (nxF gf gn gq135)).2.2 (0 + 1) 0 (M103.1 98 11).toInt (M103.1 98 12).toInt (M154.1 98 11).toInt (M154.1 98 12).toInt (M154.1 98 6).toInt (by decide) (ll_s gf gn 1015 1015 (unR gf gn 6) ((unR gf gn 6) gi).2.2 gq135 0 (M103.1 98 11).toInt (M103.1 98 12).toInt (M134.1 98 11).toInt (M134.1 98 12).toInt (M134.1 98 6).toInt (M141.1 98 11).toInt (M141.1 98 12).toInt (M149.1 98 11).toInt (M149.1 98 12).toInt (M149.1 98 6).toInt (M154.1 98 11).toInt (M154.1 98 12).toInt (M154.1 98 6).toInt (by decide) (unR_g gf gn 6) (by omega) (by omega) (by omega) (by omega) (by omega) (by omega) (by omega) (by omega) (by omega))
        have u158c := lc_s gf gn 1015 1015 (unR gf gn 6) (uLR gf gn 6) (by decide) (unR_g gf gn 6) (show b01 (LC AGR (M134.1 98 11).toInt (luL gf gn 1015 1015 (unR gf gn 6) (uLR gf gn 6)) ((unR gf gn 6) gi).2.2 gq135 M103 M134) = 1 by omega) (show b01 (PO gn gq135 (M134.1 98 11).toInt (M134.1 98 6).toInt) = 1 by omega) (by omega) (show b01 (RR ((unR gf gn 6) (nxF gf gn gq135)) (M141.1 98 11).toInt (M141.1 98 12).toInt (M149.1 98 11).toInt (M149.1 98 12).toInt (M149.1 98 6).toInt) = 1 by omega) (fun z => by omega) (cl_e (L := ([] ++ ((uLR gf gn 6) (nxF gf gn gq135))) ++ [3007]) (cl_t (cl_t (cl_r (A := AGR) (M := M134) (N := M141) (M141.1 98 11).toInt (agr_c (FR.cell fM141 (by decide)))) (show b01 (CL AGR (M149.1 98 11).toInt M141 M149 ((uLR gf gn 6) (nxF gf gn gq135))) = 1 by omega) (fun z => rr_z (show b01 (RR ((unR gf gn 6) (nxF gf gn gq135)) (M141.1 98 11).toInt (M141.1 98 12).toInt (M149.1 98 11).toInt (M149.1 98 12).toInt (M149.1 98 6).toInt) = 1 by omega) z)) (show b01 (CL AGR (M154.1 98 11).toInt M149 M154 [3007]) = 1 by omega) (fun z => by omega)) (fun z => by rw [show tkF gf gn (M134.1 98 6).toInt = 1015 by omega, cm_tab.2.2.2.2.2.2.2.1, List.nil_append]) : b01 (CL AGR (M154.1 98 11).toInt M134 M154 (((uLR gf gn 6) (nxF gf gn gq135)) ++ [cmF (tkF gf gn (M134.1 98 6).toInt)])) = 1) (fun z => by omega)
        have zz98_8 : (M154.1 98 8).toInt = (M149.1 98 8).toInt := s_fF fM154 (by decide) (rfl); have zz98_6 : (M154.1 98 6).toInt = (M149.1 98 6).toInt := s_fF fM154 (by decide) (rfl); have zz98_12 : (M154.1 98 12).toInt = (M149.1 98 12).toInt := s_fF fM154 (by decide) (rfl); have zz98_11 : (M154.1 98 11).toInt = (M149.1 98 11).toInt := s_fF fM154 (by decide) (rfl); exact ih132 M154 ((unR gf gn 6) (nxF gf gn gq135)).2.2 (by (clear zz98_11 zz98_12 zz98_6 zz98_8 u158l u158x k157 fM154 hM154 u152b u152l u152t qM149 fM149 hM149 u147l u147a u147t u147c bM141 k145 fM141 hM141 k139 k138 u137B u137l fM134 hM134 ih132 u106c u106L u106l qM103 bM103 h105 fM103 hM103 u101l u101z hret C hp4 hp3 hp2 hp1 hp0 hpr hM0; omega)) hM154 ((((FR.rf.tr fM134 (by decide)).tr fM141 (by decide)).tr fM149 (by decide)).tr fM154 (by decide))
  exact L133 2010 M103 ((unR gf gn 6) gi).2.2 (by omega) hM103 (FR.rf.tr fM103 (by decide))
set_option maxHeartbeats 4000000 in
theorem s7_X12_readTruth {l : Launch} {dC : Nat → ClassId} {dI : Nat → Nat → Nat} {ad : Nat → Nat} {cA : Nat → ClassId} {pr : Nat → Nat → Bool} {Kz : mm_M} {M0 : mm_M} (hM0 : INV pr Kz M0) (hpr : PM pr) (gf : Nat → Int) (gn : Int) (gi : Int) (hp0 : b01 (RIP M0) = 1) (hp1 : b01 (CA M0) = 1) (hp2 : b01 (TKM gf gn M0) = 1) (hp3 : b01 (PO gn gi (M0.1 98 11).toInt (M0.1 98 6).toInt) = 1) (hp4 : b01 (PI M0) = 1) : Cv l 30 yX12_readTruth wsX12_readTruth dC dI ad cA [.ref (ad 98), .int (sI 0)] M0 (fun M' => INV pr Kz M' ∧ FR [98, 102] M0 M' ∧ (b01 (RIP M') = 1) ∧ ((M'.1 98 8).toInt = (M0.1 98 8).toInt) ∧ ((M0.1 98 6).toInt ≤ (M'.1 98 6).toInt) ∧ (b01 (XW M0 M' 0 1 0) = 1) ∧ (b01 (CA M') = 1) ∧ (b01 (CL AGR (M'.1 98 11).toInt M0 M' ((trL gf gn (unR gf gn 6) (uLR gf gn 6)) gi)) = 1) ∧ (b01 (PI M') = 1) ∧ (b01 (TKM gf gn M') = 1) ∧ b01 (RR ((trP gf gn (unR gf gn 6)) gi) (M0.1 98 11).toInt (M0.1 98 12).toInt (M'.1 98 11).toInt (M'.1 98 12).toInt (M'.1 98 6).toInt) = 1) := by
  refine cv_of (cc := cX12_readTruth) (maxL := 2) (lv := [(0, .ref (ad 98)), (1, .int (sI 0))]) (by decide) rfl (Nat.le_of_ble_eq_true rfl) rfl ?_
  intro p e s m args below meth c A Q C hret
  have u101z := xw_0 M0
  have u101l := ri_l (M := M0) (by omega)
  refine j_aload_n C 0 0 dX12_readTruth_0 rfl rfl ?_
  refine j_iload_n C 1 1 dX12_readTruth_1 rfl rfl ?_
  refine j_callVv C (d := 29) (As := [.int (sI 0)]) (st := []) 98 (s_lt rfl rfl) (s_kc (c := 11) rfl rfl) (by decide) rfl (s7_X12_readBoth hM0 hpr gf gn gi (by omega) (by omega) (by omega) (by omega) (by omega)) gX12_readTruth_X12_readBoth rfl hdX12_readBoth (by decide) (Nat.le_of_ble_eq_true rfl) dX12_readTruth_2 rfl (fun M103 h104 => ?_)
  obtain ⟨hM103, fM103, h105⟩ := h104
  have bM103 := tkm_b (f := gf) (n := gn) (M := M103) (by omega)
  have qM103 := po_rr (boP gf gn (unR gf gn 6)) gn gi (M0.1 98 11).toInt (M0.1 98 12).toInt (M0.1 98 6).toInt (M103.1 98 11).toInt (M103.1 98 12).toInt (M103.1 98 6).toInt (bo_g gf gn (unR_g gf gn 6)) (by omega) (by omega)
  have u106l := ri_l (M := M103) (by omega)
  have u106L := ll_0 (luP gf gn 1014 1014 (boP gf gn (unR gf gn 6))) gn ((boP gf gn (unR gf gn 6)) gi).2.2 (M103.1 98 11).toInt (M103.1 98 12).toInt (M103.1 98 6).toInt (by omega)
  have u106c := lc_0 (A := AGR) (M103.1 98 11).toInt (luL gf gn 1014 1014 (boP gf gn (unR gf gn 6)) (boL gf gn (unR gf gn 6) (uLR gf gn 6))) ((boP gf gn (unR gf gn 6)) gi).2.2 M103
  have L133 : ∀ (n131 : Nat), ∀ (M134 : mm_M) (gq135 : Int), ((b01 (RIP M134) = 1) ∧ ((M134.1 98 8).toInt = (M0.1 98 8).toInt) ∧ ((M0.1 98 6).toInt ≤ (M134.1 98 6).toInt) ∧ (b01 (XW M0 M134 0 1 0) = 1) ∧ ((M134.1 98 6).toInt ≤ 900) ∧ (b01 (LL (luP gf gn 1014 1014 (boP gf gn (unR gf gn 6))) gn ((boP gf gn (unR gf gn 6)) gi).2.2 gq135 0 (M103.1 98 11).toInt (M103.1 98 12).toInt (M134.1 98 11).toInt (M134.1 98 12).toInt (M134.1 98 6).toInt) = 1) ∧ (b01 (LC AGR (M134.1 98 11).toInt (luL gf gn 1014 1014 (boP gf gn (unR gf gn 6)) (boL gf gn (unR gf gn 6) (uLR gf gn 6))) ((boP gf gn (unR gf gn 6)) gi).2.2 gq135 M103 M134) = 1) ∧ (b01 (TKM gf gn M134) = 1) ∧ (b01 (PO gn gq135 (M134.1 98 11).toInt (M134.1 98 6).toInt) = 1) ∧ (b01 (PI M134) = 1) ∧ (900 - (M134.1 98 6).toInt) < (n131 : Int)) → INV pr Kz M134 → FR [98, 102] M0 M134 → jj p l e (cn_R 30) s m args below meth c 0 0 Q 2 dC dI ad cA A M134 5 [(0, .ref (ad 98)), (1, .int (sI 0))] [] := by
    intro n131
    induction n131 with
    | zero =>
      intro M134 gq135 h136 hM134 fM134
      exfalso; omega
    | succ n131 ih132 =>
      intro M134 gq135 h136 hM134 fM134
      have u137l := ri_l (M := M134) (by omega)
      have u137B := tkm_b (f := gf) (n := gn) (M := M134) (by omega)
      refine j_aload_n C 0 0 dX12_readTruth_5 rfl rfl ?_
      refine y_bipush C dX12_readTruth_6 rfl ?_
      have k138 := tkm_K (f := gf) (n := gn) (M := M134) (by omega)
      have k139 := kd_2 (kdk_15 gf gn (M134.1 98 6).toInt) (by omega)
      refine j_callVi C (d := 6) (As := [.int (sI 15)]) (st := []) 98 (s_lt rfl rfl) (s_kc (c := 11) rfl rfl) (by decide) rfl (s1_X12_eats hM134 hpr 15 (by omega) gf gn gq135 (by omega) (by omega) (by omega) (by omega) (by omega)) gX12_readTruth_X12_eats rfl hdX12_eats (by decide) (Nat.le_of_ble_eq_true rfl) dX12_readTruth_8 rfl (fun r140 M141 h142 => ?_)
      obtain ⟨a144, rfl, hM141, fM141, h143⟩ := h142
      have k145 := tk_c gf gn (M141.1 98 6).toInt (M134.1 98 6).toInt
      have bM141 := tkm_b (f := gf) (n := gn) (M := M141) (by omega)
      refine y_if_eq C 29 dX12_readTruth_11 (by decide) (by omega) (fun h146 => ?_) (fun h146 => ?_)
      · have u159c := xw_c (N := M134) (P := M141) 0 (FR.cell fM141 (by decide)) (by omega)
        have u159t := xw_t (M := M0) (N := M134) (P := M141) (r1 := 0) (e1 := 1) (s1 := 0) (r2 := 0) (e2 := 0) (s2 := 0) 0 1 0 (by decide) (by omega) (by omega)
        have u159a := ca_x (M := M0) (N := M141) (r := 0) (e := 1) (s := 0) (by decide) (by omega) (by omega)
        have u159E := ll_e gf gn 1014 1014 (boP gf gn (unR gf gn 6)) ((boP gf gn (unR gf gn 6)) gi).2.2 gq135 0 (M103.1 98 11).toInt (M103.1 98 12).toInt (M134.1 98 11).toInt (M134.1 98 12).toInt (M134.1 98 6).toInt (by decide) (bo_g gf gn (unR_g gf gn 6)) (by omega) (by omega)
        have u159S : b01 (RR ((trP gf gn (unR gf gn 6)) gi) (M0.1 98 11).toInt (M0.1 98 12).toInt (M134.1 98 11).toInt (M134.1 98 12).toInt (M134.1 98 6).toInt) = 1 := rr_sq ((boP gf gn (unR gf gn 6)) gi) (luP gf gn 1014 1014 (boP gf gn (unR gf gn 6))) (M0.1 98 11).toInt (M0.1 98 12).toInt (M103.1 98 11).toInt (M103.1 98 12).toInt (M103.1 98 6).toInt (M134.1 98 11).toInt (M134.1 98 12).toInt (M134.1 98 6).toInt (by omega) (by omega)
        have u159R := rr_eq ((trP gf gn (unR gf gn 6)) gi) (M0.1 98 11).toInt (M0.1 98 12).toInt (M134.1 98 11).toInt (M134.1 98 12).toInt (M134.1 98 6).toInt (M141.1 98 11).toInt (M141.1 98 12).toInt (M141.1 98 6).toInt (by omega) (by omega) (by omega) (by omega)
        have u159x := lc_e gf gn 1014 1014 (boP gf gn (unR gf gn 6)) ((boL gf gn (unR gf gn 6) (uLR gf gn 6))) (by decide) (show b01 (LC AGR (M134.1 98 11).toInt (luL gf gn 1014 1014 (boP gf gn (unR gf gn 6)) (boL gf gn (unR gf gn 6) (uLR gf gn 6))) ((boP gf gn (unR gf gn 6)) gi).2.2 gq135 M103 M134) = 1 by omega) (show b01 (LL (luP gf gn 1014 1014 (boP gf gn (unR gf gn 6))) gn ((boP gf gn (unR gf gn 6)) gi).2.2 gq135 0 (M103.1 98 11).toInt (M103.1 98 12).toInt (M134.1 98 11).toInt (M134.1 98 12).toInt (M134.1 98 6).toInt) = 1 by omega) (by omega)
        have u159y : b01 (CL AGR (M134.1 98 11).toInt M0 M134 ((trL gf gn (unR gf gn 6) (uLR gf gn 6)) gi)) = 1 := cl_e (cl_t (show b01 (CL AGR (M103.1 98 11).toInt M0 M103 ((boL gf gn (unR gf gn 6) (uLR gf gn 6)) gi)) = 1 by omega) u159x (fun z => rr_z (show b01 (RR ((luP gf gn 1014 1014 (boP gf gn (unR gf gn 6))) ((boP gf gn (unR gf gn 6)) gi).2.2) (M103.1 98 11).toInt (M103.1 98 12).toInt (M134.1 98 11).toInt (M134.1 98 12).toInt (M134.1 98 6).toInt) = 1 by omega) z)) (fun z => rfl)
        have u159l : b01 (CL AGR (M141.1 98 11).toInt M0 M141 ((trL gf gn (unR gf gn 6) (uLR gf gn 6)) gi)) = 1 := cl_e (cl_t u159y (cl_r (A := AGR) (M := M134) (N := M141) (M141.1 98 11).toInt (agr_c (FR.cell fM141 (by decide)))) (fun z => by omega)) (fun z => (List.append_nil _).symm)
        exact hret _ _ _ dX12_readTruth_29 ⟨hM141, ((FR.rf.tr fM134 (by decide)).tr fM141 (by decide)), by omega⟩
      · have u147c := xw_c (N := M134) (P := M141) 1 (FR.cell fM141 (by decide)) (by omega)
        have u147t := xw_t (M := M0) (N := M134) (P := M141) (r1 := 0) (e1 := 1) (s1 := 0) (r2 := 0) (e2 := 0) (s2 := 1) 0 1 1 (by decide) (by omega) (by omega)
        have u147a := ca_x (M := M0) (N := M141) (r := 0) (e := 1) (s := 1) (by decide) (by omega) (by omega)
        have u147l := ri_l (M := M141) (by omega)
        refine j_aload_n C 0 0 dX12_readTruth_14 rfl rfl ?_
        refine j_iload_n C 1 1 dX12_readTruth_15 rfl rfl ?_
        refine j_callVv C (d := 29) (As := [.int (sI 0)]) (st := []) 98 (s_lt rfl rfl) (s_kc (c := 11) rfl rfl) (by decide) rfl (s7_X12_readBoth hM141 hpr gf gn (nxF gf gn gq135) (by omega) (by omega) (by omega) (by omega) (by omega)) gX12_readTruth_X12_readBoth rfl hdX12_readBoth (by decide) (Nat.le_of_ble_eq_true rfl) dX12_readTruth_16 rfl (fun M149 h150 => ?_)
        obtain ⟨hM149, fM149, h151⟩ := h150
        have bM149 := tkm_b (f := gf) (n := gn) (M := M149) (by omega)
        have qM149 := po_rr (boP gf gn (unR gf gn 6)) gn (nxF gf gn gq135) (M141.1 98 11).toInt (M141.1 98 12).toInt (M141.1 98 6).toInt (M149.1 98 11).toInt (M149.1 98 12).toInt (M149.1 98 6).toInt (bo_g gf gn (unR_g gf gn 6)) (by omega) (by omega)
        have u152t := xw_t (M := M0) (N := M141) (P := M149) (r1 := 0) (e1 := 1) (s1 := 1) (r2 := 0) (e2 := 1) (s2 := 0) 0 2 1 (by decide) (by omega) (by omega)
        have u152l := ri_l (M := M149) (by omega)
        have u152b := cb_x (M := M0) (N := M149) (r := 0) (e := 2) (s := 1) (by decide) (by omega) (by omega) (by omega)
        refine j_aload_n C 0 0 dX12_readTruth_19 rfl rfl ?_
        refine y_sipush C dX12_readTruth_20 rfl ?_
        refine j_callVv C (d := 0) (As := [.int (sI 3008)]) (st := []) 98 (s_lt rfl rfl) (s_kc (c := 11) rfl rfl) (by decide) rfl (s1_X12_codes hM149 hpr 3008 (by omega) gf gn ((boP gf gn (unR gf gn 6)) (nxF gf gn gq135)).2.2 (by omega) (by omega) (by omega) (by omega)) gX12_readTruth_X12_codes rfl hdX12_codes (by decide) (Nat.le_of_ble_eq_true rfl) dX12_readTruth_23 rfl (fun M154 h155 => ?_)
        obtain ⟨hM154, fM154, h156⟩ := h155
        have k157 := tk_c gf gn (M154.1 98 6).toInt (M149.1 98 6).toInt
        have bM154 := tkm_b (f := gf) (n := gn) (M := M154) (by omega)
        have qM154 := po_eq gn ((boP gf gn (unR gf gn 6)) (nxF gf gn gq135)).2.2 (M149.1 98 11).toInt (M149.1 98 6).toInt (M154.1 98 11).toInt (M154.1 98 6).toInt (by omega) (by omega) (by omega)
        refine j_goto C 5 dX12_readTruth_26 (by decide) ?_
        have u158x := xw_a (M := M149) (N := M154) (c := 3008) (r := 2) (e := (-1)) (FR.cell fM154 (by decide)) (ap_bin ⟨(INV.rd hM149 (i := 102) (c := 48) (k := 280) rfl rfl).1, by omega, by omega⟩) (by omega)
        have u158t := xw_t (M := M0) (N := M149) (P := M154) (r1 := 0) (e1 := 2) (s1 := 1) (r2 := 2) (e2 := (-1)) (s2 := (-1)) 0 1 0 (by decide) (by omega) (by omega)
        have u158i := ri_c (M := M149) (N := M154) (FR.cell fM154 (by decide)) (by omega)
        have u158l := ri_l (M := M154) (by omega)
        have u158L := ll_w (luP gf gn 1014 1014 (boP gf gn (unR gf gn 6))) gn ((boP gf gn (unR gf gn 6)) gi).2.2 ((boP gf gn (unR gf gn 6)) (nxF gf gn gq135)).2.2 (0 + 1) 0 (M103.1 98 11).toInt (M103.1 98 12).toInt (M154.1 98 11).toInt (M154.1 98 12).toInt (M154.1 98 6).toInt (by decide) (ll_s gf gn 1014 1014 (boP gf gn (unR gf gn 6)) ((boP gf gn (unR gf gn 6)) gi).2.2 gq135 0 (M103.1 98 11).toInt (M103.1 98 12).toInt (M134.1 98 11).toInt (M134.1 98 12).toInt (M134.1 98 6).toInt (M141.1 98 11).toInt (M141.1 98 12).toInt (M149.1 98 11).toInt (M149.1 98 12).toInt (M149.1 98 6).toInt (M154.1 98 11).toInt (M154.1 98 12).toInt (M154.1 98 6).toInt (by decide) (bo_g gf gn (unR_g gf gn 6)) (by omega) (by omega) (by omega) (by omega) (by omega) (by omega) (by omega) (by omega) (by omega))
        have u158c := lc_s gf gn 1014 1014 (boP gf gn (unR gf gn 6)) (boL gf gn (unR gf gn 6) (uLR gf gn 6)) (by decide) (bo_g gf gn (unR_g gf gn 6)) (show b01 (LC AGR (M134.1 98 11).toInt (luL gf gn 1014 1014 (boP gf gn (unR gf gn 6)) (boL gf gn (unR gf gn 6) (uLR gf gn 6))) ((boP gf gn (unR gf gn 6)) gi).2.2 gq135 M103 M134) = 1 by omega) (show b01 (PO gn gq135 (M134.1 98 11).toInt (M134.1 98 6).toInt) = 1 by omega) (by omega) (show b01 (RR ((boP gf gn (unR gf gn 6)) (nxF gf gn gq135)) (M141.1 98 11).toInt (M141.1 98 12).toInt (M149.1 98 11).toInt (M149.1 98 12).toInt (M149.1 98 6).toInt) = 1 by omega) (fun z => by omega) (cl_e (L := ([] ++ ((boL gf gn (unR gf gn 6) (uLR gf gn 6)) (nxF gf gn gq135))) ++ [3008]) (cl_t (cl_t (cl_r (A := AGR) (M := M134) (N := M141) (M141.1 98 11).toInt (agr_c (FR.cell fM141 (by decide)))) (show b01 (CL AGR (M149.1 98 11).toInt M141 M149 ((boL gf gn (unR gf gn 6) (uLR gf gn 6)) (nxF gf gn gq135))) = 1 by omega) (fun z => rr_z (show b01 (RR ((boP gf gn (unR gf gn 6)) (nxF gf gn gq135)) (M141.1 98 11).toInt (M141.1 98 12).toInt (M149.1 98 11).toInt (M149.1 98 12).toInt (M149.1 98 6).toInt) = 1 by omega) z)) (show b01 (CL AGR (M154.1 98 11).toInt M149 M154 [3008]) = 1 by omega) (fun z => by omega)) (fun z => by rw [show tkF gf gn (M134.1 98 6).toInt = 1014 by omega, cm_tab.2.2.2.2.2.2.2.2, List.nil_append]) : b01 (CL AGR (M154.1 98 11).toInt M134 M154 (((boL gf gn (unR gf gn 6) (uLR gf gn 6)) (nxF gf gn gq135)) ++ [cmF (tkF gf gn (M134.1 98 6).toInt)])) = 1) (fun z => by omega)
        have zz98_8 : (M154.1 98 8).toInt = (M149.1 98 8).toInt := s_fF fM154 (by decide) (rfl); have zz98_6 : (M154.1 98 6).toInt = (M149.1 98 6).toInt := s_fF fM154 (by decide) (rfl); have zz98_12 : (M154.1 98 12).toInt = (M149.1 98 12).toInt := s_fF fM154 (by decide) (rfl); have zz98_11 : (M154.1 98 11).toInt = (M149.1 98 11).toInt := s_fF fM154 (by decide) (rfl); exact ih132 M154 ((boP gf gn (unR gf gn 6)) (nxF gf gn gq135)).2.2 (by (clear zz98_11 zz98_12 zz98_6 zz98_8 u158l u158x k157 fM154 hM154 u152b u152l u152t qM149 fM149 hM149 u147l u147a u147t u147c bM141 k145 fM141 hM141 k139 k138 u137B u137l fM134 hM134 ih132 u106c u106L u106l qM103 bM103 h105 fM103 hM103 u101l u101z hret C hp4 hp3 hp2 hp1 hp0 hpr hM0; omega)) hM154 ((((FR.rf.tr fM134 (by decide)).tr fM141 (by decide)).tr fM149 (by decide)).tr fM154 (by decide))
  exact L133 2010 M103 ((boP gf gn (unR gf gn 6)) gi).2.2 (by omega) hM103 (FR.rf.tr fM103 (by decide))
set_option maxHeartbeats 4000000 in
theorem s1_X12_readLaw {l : Launch} {dC : Nat → ClassId} {dI : Nat → Nat → Nat} {ad : Nat → Nat} {cA : Nat → ClassId} {pr : Nat → Nat → Bool} {Kz : mm_M} {M0 : mm_M} (hM0 : INV pr Kz M0) (hpr : PM pr) (a1 : Int) (ha1 : -2147483648 ≤ a1 ∧ a1 ≤ 2147483647) (gf : Nat → Int) (gn : Int) (gi : Int) (hp0 : b01 (RIP M0) = 1) (hp1 : b01 (LV M0) = 1) (hp2 : (M0.1 98 11).toInt = 0) (hp3 : tkF gf gn (M0.1 98 6).toInt = 1010 ∨ tkF gf gn (M0.1 98 6).toInt = 1011) (hp4 : 0 ≤ a1 ∧ a1 ≤ 1) (hp5 : b01 (TKM gf gn M0) = 1) (hp6 : b01 (PO gn gi (M0.1 98 11).toInt (M0.1 98 6).toInt) = 1) (hp7 : b01 (PI M0) = 1) : Cv l 31 yX12_readLaw wsX12_readLaw dC dI ad cA [.ref (ad 98), .int (sI a1)] M0 (fun M' => INV pr Kz M' ∧ FR [98, 102] M0 M' ∧ (b01 (RIP M') = 1) ∧ ((M'.1 98 8).toInt = (M0.1 98 8).toInt) ∧ ((M0.1 98 6).toInt ≤ (M'.1 98 6).toInt) ∧ (b01 (LV M') = 1) ∧ (b01 (CK (M'.1 98 11).toInt (M'.1 102 26).toInt (M'.1 102 1).toInt (M'.1 102 0).toInt (M0.1 102 26).toInt (M0.1 102 1).toInt (M0.1 102 0).toInt) = 1) ∧ (¬ a1 = 0 ∨ b01 (CT AGM (M'.1 98 11).toInt M0 M' (waC gf gn gi)) = 1) ∧ (¬ a1 = 1 ∨ b01 (CT AGM (M'.1 98 11).toInt M0 M' (leC gf gn gi)) = 1) ∧ (b01 (PI M') = 1) ∧ (b01 (TKM gf gn M') = 1) ∧ b01 (RR ((lwP gf gn a1) gi) (M0.1 98 11).toInt (M0.1 98 12).toInt (M'.1 98 11).toInt (M'.1 98 12).toInt (M'.1 98 6).toInt) = 1) := by
  refine cv_of (cc := cX12_readLaw) (maxL := 3) (lv := [(0, .ref (ad 98)), (1, .int (sI a1))]) (by decide) rfl (Nat.le_of_ble_eq_true rfl) rfl ?_
  intro p e s m args below meth c A Q C hret
  have u101l := ri_l (M := M0) (by omega)
  have k102 := tkm_K (f := gf) (n := gn) (M := M0) (by omega)
  refine j_aload_n C 0 0 dX12_readLaw_0 rfl rfl ?_
  have k103 := tkm_p (f := gf) (n := gn) (M := M0) (by omega)
  have k104 := tkm_K (f := gf) (n := gn) (M := M0) (by omega)
  refine j_callVv C (d := 5) (As := []) (st := []) 98 (s_lt rfl rfl) (s_kc (c := 11) rfl rfl) (by decide) rfl (s1_X12_next hM0 hpr gf gn (by omega) (by omega) (by omega) (by omega)) gX12_readLaw_X12_next rfl hdX12_next (by decide) (Nat.le_of_ble_eq_true rfl) dX12_readLaw_1 rfl (fun M106 h107 => ?_)
  obtain ⟨hM106, fM106, h108⟩ := h107
  have bM106 := tkm_b (f := gf) (n := gn) (M := M106) (by omega)
  have qM106 := nx_po (f := gf) (n := gn) (i := gi) (M := M0) (M' := M106) (by omega) (by omega) (by omega) (by omega) (by omega)
  have u109v := lv_c (M := M0) (N := M106) (FR.cell fM106 (by decide)) (by omega) (by omega)
  have u109l := ri_l (M := M106) (by omega)
  refine j_aload_n C 0 0 dX12_readLaw_4 rfl rfl ?_
  refine y_bipush C dX12_readLaw_5 rfl ?_
  have k110 := tkm_K (f := gf) (n := gn) (M := M106) (by omega)
  have k111 := kd_2 (kdk_31 gf gn (M106.1 98 6).toInt) (by omega)
  refine j_callVi C (d := 6) (As := [.int (sI 31)]) (st := []) 98 (s_lt rfl rfl) (s_kc (c := 11) rfl rfl) (by decide) rfl (s1_X12_eats hM106 hpr 31 (by omega) gf gn (nxF gf gn gi) (by omega) (by omega) (by omega) (by omega) (by omega)) gX12_readLaw_X12_eats rfl hdX12_eats (by decide) (Nat.le_of_ble_eq_true rfl) dX12_readLaw_7 rfl (fun r112 M113 h114 => ?_)
  obtain ⟨a116, rfl, hM113, fM113, h115⟩ := h114
  have k117 := tk_c gf gn (M113.1 98 6).toInt (M106.1 98 6).toInt
  have bM113 := tkm_b (f := gf) (n := gn) (M := M113) (by omega)
  have u118v := lv_c (M := M106) (N := M113) (FR.cell fM113 (by decide)) (by omega) (by omega)
  have u118l := ri_l (M := M113) (by omega)
  have J128 : ∀ (M127 : mm_M), ((b01 (RIP M127) = 1) ∧ ((M127.1 98 8).toInt = (M0.1 98 8).toInt) ∧ ((M0.1 98 6).toInt ≤ (M127.1 98 6).toInt) ∧ (b01 (LV M127) = 1) ∧ (b01 (RR (exP gf gn 2058 (nxF gf gn gi)) (M0.1 98 11).toInt (M0.1 98 12).toInt (M127.1 98 11).toInt (M127.1 98 12).toInt (M127.1 98 6).toInt) = 1) ∧ ((M127.1 102 26).toInt = (M0.1 102 26).toInt ∧ (M127.1 102 1).toInt = (M0.1 102 1).toInt ∧ (M127.1 102 0).toInt = (M0.1 102 0).toInt) ∧ (b01 (CT AGR 0 M0 M127 (fun T => T)) = 1) ∧ (b01 (TKM gf gn M127) = 1) ∧ (b01 (PO gn (exP gf gn 2058 (nxF gf gn gi)).2.2 (M127.1 98 11).toInt (M127.1 98 6).toInt) = 1) ∧ (b01 (PI M127) = 1)) → INV pr Kz M127 → FR [98, 102] M0 M127 → jj p l e (cn_R 31) s m args below meth c 0 0 Q 3 dC dI ad cA A M127 18 [(0, .ref (ad 98)), (1, .int (sI a1))] [] := by
    intro M127 h129 hM127 fM127
    have u131a := lv_ca (M := M127) (by omega)
    have u131l := ri_l (M := M127) (by omega)
    refine j_aload_n C 0 0 dX12_readLaw_18 rfl rfl ?_
    refine y_getC C 11 102 fX12_readLaw_24 rfl rfl ft_11_4 sm_11_4 rfl hM127 dX12_readLaw_19 ?_
    refine y_sipush C dX12_readLaw_22 rfl ?_
    refine y_ialdH C 48 1181 rfl rfl rfl ak_48 an_48 rfl _ _ hM127 (hr_48_280_280 _ (by omega) (by omega)) dX12_readLaw_25 (by omega) (fun a132 ea132 la132 ua132 => ?_)
    obtain rfl : a132 = (M127.1 102 280).toInt := ea132
    refine j_istore_n C 2 [(2, .int (sI (M127.1 102 280).toInt)), (0, .ref (ad 98)), (1, .int (sI a1))] dX12_readLaw_26 rfl (by decide) rfl ?_
    refine j_iload_n C 2 1 dX12_readLaw_27 rfl rfl ?_
    have J145 : ∀ (M144 : mm_M), ((b01 (RIP M144) = 1) ∧ ((M144.1 98 8).toInt = (M0.1 98 8).toInt) ∧ ((M0.1 98 6).toInt ≤ (M144.1 98 6).toInt) ∧ (b01 (XW M127 M144 0 1 0) = 1) ∧ ((M127.1 102 280).toInt = (M127.1 102 280).toInt) ∧ (b01 (RR (lwP gf gn a1 gi) (M0.1 98 11).toInt (M0.1 98 12).toInt (M144.1 98 11).toInt (M144.1 98 12).toInt (M144.1 98 6).toInt) = 1) ∧ (b01 (CL AGR (M144.1 98 11).toInt M127 M144 (lwX gf gn a1 (exP gf gn 2058 (nxF gf gn gi)).2.2)) = 1) ∧ (b01 (TKM gf gn M144) = 1) ∧ (b01 (PO gn (lwP gf gn a1 gi).2.2 (M144.1 98 11).toInt (M144.1 98 6).toInt) = 1) ∧ (b01 (PI M144) = 1)) → INV pr Kz M144 → FR [98, 102] M0 M144 → jj p l e (cn_R 31) s m args below meth c 0 0 Q 3 dC dI ad cA A M144 44 [(0, .ref (ad 98)), (1, .int (sI a1)), (2, .int (sI (M127.1 102 280).toInt))] [] := by
      intro M144 h146 hM144 fM144
      have u148k := xw_k (M := M127) (N := M144) (r := 0) (e := 1) (s := 0) (by omega) (INV.rd hM127 (i := 102) (c := 48) (k := 280) rfl rfl).1
      refine j_aload_n C 0 0 dX12_readLaw_44 rfl rfl ?_
      refine y_getI C 11 _ _ fX12_readLaw_126 rfl rfl ft_11_11 sb_11_11 hM144 dX12_readLaw_45 (fun a149 ea149 la149 ua149 => ?_)
      obtain rfl : a149 = (M144.1 98 11).toInt := ea149
      refine y_if_eq C 52 dX12_readLaw_48 (by decide) (by omega) (fun h151 => ?_) (fun h151 => ?_)
      · have u152n := xw_n (M := M127) (N := M144) (r := 0) (e := 1) (s := 0) (by omega) (by omega)
        have u152d := INV.rd hM144 (i := 102) (c := 48) (k := 280) rfl rfl
        refine j_aload_n C 0 0 dX12_readLaw_52 rfl rfl ?_
        refine y_getC C 11 102 fX12_readLaw_24 rfl rfl ft_11_4 sm_11_4 rfl hM144 dX12_readLaw_53 ?_
        refine y_iconst C dX12_readLaw_56 ?_
        refine j_iload_n C 1 1 dX12_readLaw_57 rfl rfl ?_
        refine y_iadd C dX12_readLaw_58 ?_
        refine y_iconst C dX12_readLaw_59 ?_
        refine y_iastH C 48 1181 rfl rfl rfl ak_48 an_48 rfl _ _ hM144 (PM.w hpr rfl rfl) (hs_48_2_3 _ (by omega) (by omega)) dX12_readLaw_60 (by omega) (by omega) (fun M153 eM153 hM153 => ?_)
        have xM153 := tkm_w (f := gf) (n := gn) eM153 (by decide) (by decide) (by omega)
        have qM153 := po_eq gn (lwP gf gn a1 gi).2.2 (M144.1 98 11).toInt (M144.1 98 6).toInt (M153.1 98 11).toInt (M153.1 98 6).toInt (by omega) (s_fa eM153 (by decide) rfl) (s_fa eM153 (by decide) rfl)
        have pM153 := pi_o eM153 (by decide) (by decide) (by omega)
        refine j_aload_n C 0 0 dX12_readLaw_61 rfl rfl ?_
        refine y_getC C 11 102 fX12_readLaw_24 rfl rfl ft_11_4 sm_11_4 rfl hM153 dX12_readLaw_62 ?_
        refine y_iconst C dX12_readLaw_65 ?_
        refine j_iload_n C 1 1 dX12_readLaw_66 rfl rfl ?_
        refine y_iadd C dX12_readLaw_67 ?_
        refine j_iload_n C 2 2 dX12_readLaw_68 rfl rfl ?_
        refine y_iastH C 48 1181 rfl rfl rfl ak_48 an_48 rfl _ _ hM153 (PM.w hpr rfl rfl) (hs_48_4_5 _ (by omega) (by omega)) dX12_readLaw_69 (by omega) (by omega) (fun M154 eM154 hM154 => ?_)
        have xM154 := tkm_w (f := gf) (n := gn) eM154 (by decide) (by decide) (by omega)
        have qM154 := po_eq gn (lwP gf gn a1 gi).2.2 (M153.1 98 11).toInt (M153.1 98 6).toInt (M154.1 98 11).toInt (M154.1 98 6).toInt (by omega) (s_fa eM154 (by decide) rfl) (s_fa eM154 (by decide) rfl)
        have pM154 := pi_o eM154 (by decide) (by decide) (by omega)
        refine j_aload_n C 0 0 dX12_readLaw_70 rfl rfl ?_
        refine y_getC C 11 102 fX12_readLaw_24 rfl rfl ft_11_4 sm_11_4 rfl hM154 dX12_readLaw_71 ?_
        refine y_bipush C dX12_readLaw_74 rfl ?_
        refine j_iload_n C 1 1 dX12_readLaw_76 rfl rfl ?_
        refine y_iadd C dX12_readLaw_77 ?_
        refine j_aload_n C 0 0 dX12_readLaw_78 rfl rfl ?_
        refine y_getC C 11 102 fX12_readLaw_24 rfl rfl ft_11_4 sm_11_4 rfl hM154 dX12_readLaw_79 ?_
        refine y_sipush C dX12_readLaw_82 rfl ?_
        refine y_ialdH C 48 1181 rfl rfl rfl ak_48 an_48 rfl _ _ hM154 (hr_48_280_280 _ (by omega) (by omega)) dX12_readLaw_85 (by omega) (fun a155 ea155 la155 ua155 => ?_)
        obtain rfl : a155 = (M144.1 102 280).toInt := s_fb eM153 (by omega) (s_fb eM154 (by omega) (ea155))
        refine j_iload_n C 2 2 dX12_readLaw_86 rfl rfl ?_
        refine y_isub C dX12_readLaw_87 ?_
        refine y_iastH C 48 1181 rfl rfl rfl ak_48 an_48 rfl _ _ hM154 (PM.w hpr rfl rfl) (hs_48_6_7 _ (by omega) (by omega)) dX12_readLaw_88 (by omega) (by omega) (fun M156 eM156 hM156 => ?_)
        have xM156 := tkm_w (f := gf) (n := gn) eM156 (by decide) (by decide) (by omega)
        have qM156 := po_eq gn (lwP gf gn a1 gi).2.2 (M154.1 98 11).toInt (M154.1 98 6).toInt (M156.1 98 11).toInt (M156.1 98 6).toInt (by omega) (s_fa eM156 (by decide) rfl) (s_fa eM156 (by decide) rfl)
        have pM156 := pi_o eM156 (by decide) (by decide) (by omega)
        have u157v := lv_law (M := M127) (N := M144) (a := a1) (by omega) (by omega) (by omega) (by omega) (h4b hM127) (by omega) (by omega) (by omega) eM153 eM154 eM156 (by omega)
        have u157i := ri_c (M := M144) (N := M156) ((wI_cell eM156 (by decide)).trans ((wI_cell eM154 (by decide)).trans (wI_cell eM153 (by decide)))) (by omega)
        have u158w6 : (M156.1 98 6).toInt = (M144.1 98 6).toInt := by rw [show M156.1 98 = M144.1 98 from (wI_cell eM156 (by decide)).trans ((wI_cell eM154 (by decide)).trans ((wI_cell eM153 (by decide))))]
        have u158w11 : (M156.1 98 11).toInt = (M144.1 98 11).toInt := by rw [show M156.1 98 = M144.1 98 from (wI_cell eM156 (by decide)).trans ((wI_cell eM154 (by decide)).trans ((wI_cell eM153 (by decide))))]
        have u158w12 : (M156.1 98 12).toInt = (M144.1 98 12).toInt := by rw [show M156.1 98 = M144.1 98 from (wI_cell eM156 (by decide)).trans ((wI_cell eM154 (by decide)).trans ((wI_cell eM153 (by decide))))]
        have zz102_26 : (M156.1 102 26).toInt = (M144.1 102 26).toInt := s_fb eM153 (by omega) (s_fb eM154 (by omega) (s_fb eM156 (by omega) (rfl)))
        have zz102_1 : (M156.1 102 1).toInt = (M144.1 102 1).toInt := s_fb eM153 (by omega) (s_fb eM154 (by omega) (s_fb eM156 (by omega) (rfl)))
        have zz102_0 : (M156.1 102 0).toInt = (M144.1 102 0).toInt := s_fb eM153 (by omega) (s_fb eM154 (by omega) (s_fb eM156 (by omega) (rfl)))
        have u158r := rr_eq (lwP gf gn a1 gi) (M0.1 98 11).toInt (M0.1 98 12).toInt (M144.1 98 11).toInt (M144.1 98 12).toInt (M144.1 98 6).toInt (M156.1 98 11).toInt (M156.1 98 12).toInt (M156.1 98 6).toInt (by omega) (by omega) (by omega) (by omega)
        have u158c := ck_i (M156.1 98 11).toInt (M156.1 102 26).toInt (M156.1 102 1).toInt (M156.1 102 0).toInt (M0.1 102 26).toInt (M0.1 102 1).toInt (M0.1 102 0).toInt (by omega)
        have u158t : b01 (CT AGM (M156.1 98 11).toInt M0 M156 (lwC a1.toNat (lwX gf gn a1 (exP gf gn 2058 (nxF gf gn gi)).2.2))) = 1 := lwm_x (a := (M156.1 98 11).toInt) (x := (M127.1 102 280).toInt) (y := ((M144.1 102 280).toInt - (M127.1 102 280).toInt)) (z1 := 1) (M := M0) (M2 := M127) (M4 := M144) (Ma := M153) (Mb := M154) (N := M156) a1.toNat (by omega) (ct_i (show b01 (CT AGR 0 M0 M127 (fun T => T)) = 1 by omega)) (by rw [show (M156.1 98 11).toInt = (M144.1 98 11).toInt by omega]; exact (show b01 (CL AGR (M144.1 98 11).toInt M127 M144 (lwX gf gn a1 (exP gf gn 2058 (nxF gf gn gi)).2.2)) = 1 by omega)) (by rw [show (2 + a1.toNat : Nat) = ((2 + a1) : Int).toNat by omega]; exact eM153) (by rw [show (4 + a1.toNat : Nat) = ((4 + a1) : Int).toNat by omega]; exact eM154) (by rw [show (6 + a1.toNat : Nat) = ((6 + a1) : Int).toNat by omega]; exact eM156) (by omega) (by omega)
        have u158a : ¬ a1 = 0 ∨ b01 (CT AGM (M156.1 98 11).toInt M0 M156 (waC gf gn gi)) = 1 := (Classical.em (a1 = 0)).elim (fun z => Or.inr (lwm_w gf gn u158t z)) Or.inl
        have u158b : ¬ a1 = 1 ∨ b01 (CT AGM (M156.1 98 11).toInt M0 M156 (leC gf gn gi)) = 1 := (Classical.em (a1 = 1)).elim (fun z => Or.inr (lwm_l gf gn u158t z)) Or.inl
        have zz102_0 : (M156.1 102 0).toInt = (M144.1 102 0).toInt := s_fb eM153 (by omega) (s_fb eM154 (by omega) (s_fb eM156 (by omega) (rfl))); have zz102_1 : (M156.1 102 1).toInt = (M144.1 102 1).toInt := s_fb eM153 (by omega) (s_fb eM154 (by omega) (s_fb eM156 (by omega) (rfl))); have zz102_26 : (M156.1 102 26).toInt = (M144.1 102 26).toInt := s_fb eM153 (by omega) (s_fb eM154 (by omega) (s_fb eM156 (by omega) (rfl))); have zz98_11 : (M156.1 98 11).toInt = (M144.1 98 11).toInt := s_fa eM153 (by decide) (s_fa eM154 (by decide) (s_fa eM156 (by decide) (rfl))); have zz98_12 : (M156.1 98 12).toInt = (M144.1 98 12).toInt := s_fa eM153 (by decide) (s_fa eM154 (by decide) (s_fa eM156 (by decide) (rfl))); have zz98_6 : (M156.1 98 6).toInt = (M144.1 98 6).toInt := s_fa eM153 (by decide) (s_fa eM154 (by decide) (s_fa eM156 (by decide) (rfl))); have zz98_8 : (M156.1 98 8).toInt = (M144.1 98 8).toInt := s_fa eM153 (by decide) (s_fa eM154 (by decide) (s_fa eM156 (by decide) (rfl))); exact hret _ _ _ dX12_readLaw_89 ⟨hM156, ((((FR.rf.tr fM144 (by decide)).wI eM153 (by decide)).wI eM154 (by decide)).wI eM156 (by decide)), by omega⟩
      · have u159w := lv_w0 (M := M144) (by omega)
        have u160c := ck_i (M144.1 98 11).toInt (M144.1 102 26).toInt (M144.1 102 1).toInt (M144.1 102 0).toInt (M0.1 102 26).toInt (M0.1 102 1).toInt (M0.1 102 0).toInt (by omega)
        have u160a := ct_n (A := AGM) (M := M0) (N := M144) (waC gf gn gi) (a := (M144.1 98 11).toInt) (by omega)
        have u160b := ct_n (A := AGM) (M := M0) (N := M144) (leC gf gn gi) (a := (M144.1 98 11).toInt) (by omega)
        exact hret _ _ _ dX12_readLaw_51 ⟨hM144, (FR.rf.tr fM144 (by decide)), by omega⟩
    refine y_if_ne C 39 dX12_readLaw_28 (by decide) (by omega) (fun h133 => ?_) (fun h133 => ?_)
    · refine j_aload_n C 1 0 dX12_readLaw_39 rfl rfl ?_
      refine y_iconst C dX12_readLaw_40 ?_
      refine j_callVv C (d := 30) (As := [.int (sI 0)]) (st := []) 98 (s_lt rfl rfl) (s_kc (c := 11) rfl rfl) (by decide) rfl (s7_X12_readTruth hM127 hpr gf gn (exP gf gn 2058 (nxF gf gn gi)).2.2 (by omega) (by omega) (by omega) (by omega) (by omega)) gX12_readLaw_X12_readTruth rfl hdX12_readTruth (by decide) (Nat.le_of_ble_eq_true rfl) dX12_readLaw_41 rfl (fun M135 h136 => ?_)
      obtain ⟨hM135, fM135, h137⟩ := h136
      have bM135 := tkm_b (f := gf) (n := gn) (M := M135) (by omega)
      have qM135 := po_rr (trP gf gn (unR gf gn 6)) gn (exP gf gn 2058 (nxF gf gn gi)).2.2 (M127.1 98 11).toInt (M127.1 98 12).toInt (M127.1 98 6).toInt (M135.1 98 11).toInt (M135.1 98 12).toInt (M135.1 98 6).toInt (tr_g gf gn (unR_g gf gn 6)) (by omega) (by omega)
      have u138l := ri_l (M := M135) (by omega)
      have u138l := lw_2 gf gn a1 gi (M0.1 98 11).toInt (M0.1 98 12).toInt (M127.1 98 11).toInt (M127.1 98 12).toInt (M127.1 98 6).toInt (M135.1 98 11).toInt (M135.1 98 12).toInt (M135.1 98 6).toInt (by omega) (by omega) (by omega)
      have u138p := po_lw gf gn a1 gi (M0.1 98 11).toInt (M0.1 98 12).toInt (M0.1 98 6).toInt (M135.1 98 11).toInt (M135.1 98 12).toInt (M135.1 98 6).toInt (by omega) (by omega) (by omega)
      have u138l : b01 (CL AGR (M135.1 98 11).toInt M127 M135 (lwX gf gn a1 (exP gf gn 2058 (nxF gf gn gi)).2.2)) = 1 := cl_e (show b01 (CL AGR (M135.1 98 11).toInt M127 M135 (trL gf gn (unR gf gn 6) (uLR gf gn 6) (exP gf gn 2058 (nxF gf gn gi)).2.2)) = 1 by omega) (fun z => lwx_1 gf gn (by omega))
      refine j_lv [1, 2, 0] rfl ?_; exact J145 M135 (by omega) hM135 ((FR.rf.tr fM127 (by decide)).tr fM135 (by decide))
    · refine j_aload_n C 1 0 dX12_readLaw_31 rfl rfl ?_
      refine y_iconst C dX12_readLaw_32 ?_
      refine j_callVv C (d := 27) (As := [.int (sI 0)]) (st := []) 98 (s_lt rfl rfl) (s_kc (c := 11) rfl rfl) (by decide) rfl (s7_X12_readSum hM127 hpr gf gn (exP gf gn 2058 (nxF gf gn gi)).2.2 (by omega) (by omega) (by omega) (by omega) (by omega)) gX12_readLaw_X12_readSum rfl hdX12_readSum (by decide) (Nat.le_of_ble_eq_true rfl) dX12_readLaw_33 rfl (fun M140 h141 => ?_)
      obtain ⟨hM140, fM140, h142⟩ := h141
      have bM140 := tkm_b (f := gf) (n := gn) (M := M140) (by omega)
      have qM140 := po_rr (suR gf gn 6) gn (exP gf gn 2058 (nxF gf gn gi)).2.2 (M127.1 98 11).toInt (M127.1 98 12).toInt (M127.1 98 6).toInt (M140.1 98 11).toInt (M140.1 98 12).toInt (M140.1 98 6).toInt (suR_g gf gn 6) (by omega) (by omega)
      refine j_goto C 44 dX12_readLaw_36 (by decide) ?_
      have u143l := ri_l (M := M140) (by omega)
      have u143l := lw_1 gf gn a1 gi (M0.1 98 11).toInt (M0.1 98 12).toInt (M127.1 98 11).toInt (M127.1 98 12).toInt (M127.1 98 6).toInt (M140.1 98 11).toInt (M140.1 98 12).toInt (M140.1 98 6).toInt (by omega) (by omega) (by omega)
      have u143p := po_lw gf gn a1 gi (M0.1 98 11).toInt (M0.1 98 12).toInt (M0.1 98 6).toInt (M140.1 98 11).toInt (M140.1 98 12).toInt (M140.1 98 6).toInt (by omega) (by omega) (by omega)
      have u143l : b01 (CL AGR (M140.1 98 11).toInt M127 M140 (lwX gf gn a1 (exP gf gn 2058 (nxF gf gn gi)).2.2)) = 1 := cl_e (show b01 (CL AGR (M140.1 98 11).toInt M127 M140 (sLR gf gn 6 (exP gf gn 2058 (nxF gf gn gi)).2.2)) = 1 by omega) (fun z => lwx_0 gf gn (by omega))
      refine j_lv [1, 2, 0] rfl ?_; exact J145 M140 (by omega) hM140 ((FR.rf.tr fM127 (by decide)).tr fM140 (by decide))
  refine y_if_ne C 18 dX12_readLaw_10 (by decide) (by omega) (fun h119 => ?_) (fun h119 => ?_)
  · have u120x := ex_1 gf gn 2058 (nxF gf gn gi) (M106.1 98 11).toInt (M106.1 98 12).toInt (M106.1 98 6).toInt (M113.1 98 11).toInt (M113.1 98 12).toInt (M113.1 98 6).toInt (by omega) (by omega) (by omega) (by omega) (by omega) (by omega)
    have u120y := rr_fr (exP gf gn 2058 (nxF gf gn gi)) (M0.1 98 11).toInt (M0.1 98 12).toInt (M106.1 98 11).toInt (M106.1 98 12).toInt (M113.1 98 11).toInt (M113.1 98 12).toInt (M113.1 98 6).toInt (by omega) (by omega) (by omega)
    have u120p := po_rr (exP gf gn 2058) gn (nxF gf gn gi) (M106.1 98 11).toInt (M106.1 98 12).toInt (M106.1 98 6).toInt (M113.1 98 11).toInt (M113.1 98 12).toInt (M113.1 98 6).toInt (ex_g gf gn 2058 (by decide)) (by omega) (by omega)
    have u120I := ct_r (A := AGR) 0 (agr_c ((FR.cell fM113 (by decide)).trans (FR.cell fM106 (by decide))))
    have zz102_26 : (M113.1 102 26).toInt = (M0.1 102 26).toInt := s_fF fM106 (by decide) (s_fF fM113 (by decide) (rfl)); have zz102_1 : (M113.1 102 1).toInt = (M0.1 102 1).toInt := s_fF fM106 (by decide) (s_fF fM113 (by decide) (rfl)); have zz102_0 : (M113.1 102 0).toInt = (M0.1 102 0).toInt := s_fF fM106 (by decide) (s_fF fM113 (by decide) (rfl)); exact J128 M113 (by omega) hM113 ((FR.rf.tr fM106 (by decide)).tr fM113 (by decide))
  · refine j_aload_n C 0 0 dX12_readLaw_13 rfl rfl ?_
    refine y_iconst C dX12_readLaw_14 ?_
    have p121 := po_eq gn (nxF gf gn gi) (M106.1 98 11).toInt (M106.1 98 6).toInt (M113.1 98 11).toInt (M113.1 98 6).toInt (by omega) (by omega) (by omega)
    refine j_callVv C (d := 0) (As := [.int (sI 2)]) (st := []) 98 (s_lt rfl rfl) (s_kc (c := 11) rfl rfl) (by decide) rfl (s1_X12_fails hM113 hpr 2 (by omega) gf gn (nxF gf gn gi) (by omega) (by omega) (by omega) (by omega) (by omega)) gX12_readLaw_X12_fails rfl hdX12_fails (by decide) (Nat.le_of_ble_eq_true rfl) dX12_readLaw_15 rfl (fun M123 h124 => ?_)
    obtain ⟨hM123, fM123, h125⟩ := h124
    have bM123 := tkm_b (f := gf) (n := gn) (M := M123) (by omega)
    have qM123 := po_f gn ((faQ gf gn 2) (nxF gf gn gi)).2.2 (M123.1 98 11).toInt (M123.1 98 6).toInt (by omega)
    have u126v := lv_c (M := M113) (N := M123) (FR.cell fM123 (by decide)) (by omega) (by omega)
    have u126l := ri_l (M := M123) (by omega)
    have u126x := ex_2z gf gn 2058 (nxF gf gn gi) (M106.1 98 11).toInt (M106.1 98 12).toInt (M106.1 98 6).toInt (M123.1 98 11).toInt (M123.1 98 12).toInt (M123.1 98 6).toInt (by omega) (by omega) (rr_fr (faQ gf gn 2 (nxF gf gn gi)) (M106.1 98 11).toInt (M106.1 98 12).toInt (M113.1 98 11).toInt (M113.1 98 12).toInt (M123.1 98 11).toInt (M123.1 98 12).toInt (M123.1 98 6).toInt (by omega) (by omega) (by omega))
    have u126y := rr_fr (exP gf gn 2058 (nxF gf gn gi)) (M0.1 98 11).toInt (M0.1 98 12).toInt (M106.1 98 11).toInt (M106.1 98 12).toInt (M123.1 98 11).toInt (M123.1 98 12).toInt (M123.1 98 6).toInt (by omega) (by omega) (by omega)
    have u126p := po_rr (exP gf gn 2058) gn (nxF gf gn gi) (M106.1 98 11).toInt (M106.1 98 12).toInt (M106.1 98 6).toInt (M123.1 98 11).toInt (M123.1 98 12).toInt (M123.1 98 6).toInt (ex_g gf gn 2058 (by decide)) (by omega) (by omega)
    have u126I := ct_r (A := AGR) 0 (agr_c (((FR.cell fM123 (by decide)).trans (FR.cell fM113 (by decide))).trans (FR.cell fM106 (by decide))))
    have zz102_26 : (M123.1 102 26).toInt = (M0.1 102 26).toInt := s_fF fM106 (by decide) (s_fF fM113 (by decide) (s_fF fM123 (by decide) (rfl))); have zz102_1 : (M123.1 102 1).toInt = (M0.1 102 1).toInt := s_fF fM106 (by decide) (s_fF fM113 (by decide) (s_fF fM123 (by decide) (rfl))); have zz102_0 : (M123.1 102 0).toInt = (M0.1 102 0).toInt := s_fF fM106 (by decide) (s_fF fM113 (by decide) (s_fF fM123 (by decide) (rfl))); exact J128 M123 (by omega) hM123 (((FR.rf.tr fM106 (by decide)).tr fM113 (by decide)).tr fM123 (by decide))
set_option maxHeartbeats 4000000 in
theorem s1_X12_takes {l : Launch} {dC : Nat → ClassId} {dI : Nat → Nat → Nat} {ad : Nat → Nat} {cA : Nat → ClassId} {pr : Nat → Nat → Bool} {Kz : mm_M} {M0 : mm_M} (hM0 : INV pr Kz M0) (hpr : PM pr) (a1 : Int) (ha1 : -2147483648 ≤ a1 ∧ a1 ≤ 2147483647) (a2 : Int) (ha2 : -2147483648 ≤ a2 ∧ a2 ≤ 2147483647) (gf : Nat → Int) (gn : Int) (gi : Int) (hp0 : b01 (RIP M0) = 1) (hp1 : 0 ≤ a1 ∧ a1 ≤ 1) (hp2 : 9 ≤ a2 ∧ a2 ≤ 999) (hp3 : b01 (TKM gf gn M0) = 1) (hp4 : b01 (PO gn gi (M0.1 98 11).toInt (M0.1 98 6).toInt) = 1) (hp5 : b01 (PI M0) = 1) : Ci l 6 yX12_takes wsX12_takes dC dI ad cA [.ref (ad 98), .int (sI a1), .int (sI a2)] M0 (fun r M' => ∃ a : Int, r = sI a ∧ INV pr Kz M' ∧ FR [98] M0 M' ∧ 0 ≤ a ∧ a ≤ 999 ∧ (b01 (RIP M') = 1) ∧ ((M'.1 98 8).toInt = (M0.1 98 8).toInt) ∧ ((M0.1 98 6).toInt ≤ (M'.1 98 6).toInt) ∧ (¬ (M'.1 98 11).toInt = 0 ∨ (M0.1 98 11).toInt = 0 ∧ a1 ≤ a ∧ a ≤ a2 ∧ (M0.1 98 6).toInt + 1 ≤ (M'.1 98 6).toInt) ∧ (¬ (M'.1 98 11).toInt = 0 ∨ a = tkF gf gn gi) ∧ (b01 (PI M') = 1) ∧ (b01 (TKM gf gn M') = 1) ∧ b01 (RR ((nuP gf gn a1 a2) gi) (M0.1 98 11).toInt (M0.1 98 12).toInt (M'.1 98 11).toInt (M'.1 98 12).toInt (M'.1 98 6).toInt) = 1) := by
  refine ci_of (cc := cX12_takes) (maxL := 4) (ty := .int) (lv := [(0, .ref (ad 98)), (1, .int (sI a1)), (2, .int (sI a2))]) (by decide) rfl (fun r M' hp => rfl) (Nat.le_of_ble_eq_true rfl) rfl ?_
  intro p e s m args below meth c A Q C hret
  have u101l := ri_l (M := M0) (by omega)
  have k102 := tkm_K (f := gf) (n := gn) (M := M0) (by omega)
  have u101n := tkm_N (f := gf) (n := gn) (M := M0) (by omega)
  have k103 := kd_2 (kd_23 gf gn (M0.1 98 6).toInt) (by omega)
  have u101pp := po_e (n := gn) (i := gi) (a := (M0.1 98 11).toInt) (p := (M0.1 98 6).toInt) (by omega)
  have u101pc := tk_c gf gn (M0.1 98 6).toInt gi
  refine j_aload_n C 0 0 dX12_takes_0 rfl rfl ?_
  refine y_bipush C dX12_takes_1 rfl ?_
  have k104 := tkm_K (f := gf) (n := gn) (M := M0) (by omega)
  have k105 := kd_2 (kd_23 gf gn (M0.1 98 6).toInt) (by omega)
  refine j_callVi C (d := 0) (As := [.int (sI 23)]) (st := []) 98 (s_lt rfl rfl) (s_kc (c := 11) rfl rfl) (by decide) rfl (s1_X12_is hM0 23 (by omega)) gX12_takes_X12_is rfl hdX12_is (by decide) (Nat.le_of_ble_eq_true rfl) dX12_takes_3 rfl (fun r106 M107 h108 => ?_)
  obtain ⟨a110, rfl, rfl, h109⟩ := h108
  refine y_if_ne C 17 dX12_takes_6 (by decide) (by omega) (fun h111 => ?_) (fun h111 => ?_)
  · refine j_aload_n C 0 0 dX12_takes_17 rfl rfl ?_
    refine y_getI C 11 _ _ fX12_takes_121 rfl rfl ft_11_10 sb_11_10 hM0 dX12_takes_18 (fun a112 ea112 la112 ua112 => ?_)
    obtain rfl : a112 = (M0.1 98 10).toInt := ea112
    refine y_i2l C dX12_takes_21 (by omega) ?_
    refine j_iload_n C 1 1 dX12_takes_22 rfl rfl ?_
    refine y_i2l C dX12_takes_23 (by omega) ?_
    refine j_iload_n C 2 2 dX12_takes_24 rfl rfl ?_
    refine y_i2l C dX12_takes_25 (by omega) ?_
    refine j_callSi C (d := 0) (As := [.long (sJ (M0.1 98 10).toInt), .long (sJ a1), .long (sJ a2)]) (st := []) (s1_X12_within hM0 (M0.1 98 10).toInt (by omega) a1 (by omega) a2 (by omega)) gX12_takes_X12_within rfl hdX12_withins (by decide) (Nat.le_of_ble_eq_true rfl) dX12_takes_26 rfl (fun r114 M115 h116 => ?_)
    obtain ⟨a118, rfl, rfl, h117⟩ := h116
    refine y_if_ne C 37 dX12_takes_29 (by decide) (by omega) (fun h119 => ?_) (fun h119 => ?_)
    · have u120l := ri_l (M := M0) (by omega)
      refine j_aload_n C 0 0 dX12_takes_37 rfl rfl ?_
      refine y_getI C 11 _ _ fX12_takes_121 rfl rfl ft_11_10 sb_11_10 hM0 dX12_takes_38 (fun a121 ea121 la121 ua121 => ?_)
      obtain rfl : a121 = (M0.1 98 10).toInt := ea121
      refine j_istore_n C 3 [(3, .int (sI (M0.1 98 10).toInt)), (0, .ref (ad 98)), (1, .int (sI a1)), (2, .int (sI a2))] dX12_takes_41 rfl (by decide) rfl ?_
      refine j_aload_n C 1 0 dX12_takes_42 rfl rfl ?_
      refine y_getI C 11 _ _ fX12_takes_126 rfl rfl ft_11_11 sb_11_11 hM0 dX12_takes_43 (fun a123 ea123 la123 ua123 => ?_)
      obtain rfl : a123 = (M0.1 98 11).toInt := ea123
      refine y_if_ne C 53 dX12_takes_46 (by decide) (by omega) (fun h125 => ?_) (fun h125 => ?_)
      · refine j_iload_n C 0 3 dX12_takes_53 rfl rfl ?_
        have u126r := nu_1 gf gn a1 a2 gi (M0.1 98 11).toInt (M0.1 98 12).toInt (M0.1 98 6).toInt (M0.1 98 11).toInt (M0.1 98 12).toInt (M0.1 98 6).toInt (by omega) (by omega) (by omega) (by omega) (by omega) (by omega)
        exact hret _ _ _ _ dX12_takes_54 ⟨(M0.1 98 10).toInt, rfl, hM0, FR.rf, by omega⟩
      · have u127k := fun h => ri_k (M := M0) (by omega) h
        refine j_aload_n C 1 0 dX12_takes_49 rfl rfl ?_
        have k128 := tkm_p (f := gf) (n := gn) (M := M0) (by omega)
        have k129 := tkm_K (f := gf) (n := gn) (M := M0) (by omega)
        refine j_callVv C (d := 5) (As := []) (st := []) 98 (s_lt rfl rfl) (s_kc (c := 11) rfl rfl) (by decide) rfl (s1_X12_next hM0 hpr gf gn (by omega) (by omega) (by omega) (by omega)) gX12_takes_X12_next rfl hdX12_next (by decide) (Nat.le_of_ble_eq_true rfl) dX12_takes_50 rfl (fun M131 h132 => ?_)
        obtain ⟨hM131, fM131, h133⟩ := h132
        have bM131 := tkm_b (f := gf) (n := gn) (M := M131) (by omega)
        have qM131 := nx_po (f := gf) (n := gn) (i := gi) (M := M0) (M' := M131) (by omega) (by omega) (by omega) (by omega) (by omega)
        refine j_iload_n C 0 3 dX12_takes_53 rfl rfl ?_
        have u134r := nu_1 gf gn a1 a2 gi (M0.1 98 11).toInt (M0.1 98 12).toInt (M0.1 98 6).toInt (M131.1 98 11).toInt (M131.1 98 12).toInt (M131.1 98 6).toInt (by omega) (by omega) (by omega) (by omega) (by omega) (by omega)
        exact hret _ _ _ _ dX12_takes_54 ⟨(M0.1 98 10).toInt, rfl, hM131, (FR.rf.tr fM131 (by decide)), by omega⟩
    · refine j_aload_n C 0 0 dX12_takes_32 rfl rfl ?_
      refine y_iconst C dX12_takes_33 ?_
      refine j_callVv C (d := 0) (As := [.int (sI 3)]) (st := []) 98 (s_lt rfl rfl) (s_kc (c := 11) rfl rfl) (by decide) rfl (s1_X12_fails hM0 hpr 3 (by omega) gf gn gi (by omega) (by omega) (by omega) (by omega) (by omega)) gX12_takes_X12_fails rfl hdX12_fails (by decide) (Nat.le_of_ble_eq_true rfl) dX12_takes_34 rfl (fun M136 h137 => ?_)
      obtain ⟨hM136, fM136, h138⟩ := h137
      have bM136 := tkm_b (f := gf) (n := gn) (M := M136) (by omega)
      have qM136 := po_f gn ((faQ gf gn 3) gi).2.2 (M136.1 98 11).toInt (M136.1 98 6).toInt (by omega)
      have u139l := ri_l (M := M136) (by omega)
      refine j_aload_n C 0 0 dX12_takes_37 rfl rfl ?_
      refine y_getI C 11 _ _ fX12_takes_121 rfl rfl ft_11_10 sb_11_10 hM136 dX12_takes_38 (fun a140 ea140 la140 ua140 => ?_)
      obtain rfl : a140 = (M136.1 98 10).toInt := ea140
      refine j_istore_n C 3 [(3, .int (sI (M136.1 98 10).toInt)), (0, .ref (ad 98)), (1, .int (sI a1)), (2, .int (sI a2))] dX12_takes_41 rfl (by decide) rfl ?_
      refine j_aload_n C 1 0 dX12_takes_42 rfl rfl ?_
      refine y_getI C 11 _ _ fX12_takes_126 rfl rfl ft_11_11 sb_11_11 hM136 dX12_takes_43 (fun a142 ea142 la142 ua142 => ?_)
      obtain rfl : a142 = (M136.1 98 11).toInt := ea142
      refine y_if_ne C 53 dX12_takes_46 (by decide) (by omega) (fun h144 => ?_) (fun h144 => ?_)
      · refine j_iload_n C 0 3 dX12_takes_53 rfl rfl ?_
        have u145r := nu_3 gf gn a1 a2 gi (M0.1 98 11).toInt (M0.1 98 12).toInt (M0.1 98 6).toInt (M136.1 98 11).toInt (M136.1 98 12).toInt (M136.1 98 6).toInt (by omega) (by omega) (by omega)
        exact hret _ _ _ _ dX12_takes_54 ⟨(M136.1 98 10).toInt, rfl, hM136, (FR.rf.tr fM136 (by decide)), by omega⟩
      · have u146k := fun h => ri_k (M := M136) (by omega) h
        refine j_aload_n C 1 0 dX12_takes_49 rfl rfl ?_
        have k147 := tkm_p (f := gf) (n := gn) (M := M136) (by omega)
        have k148 := tkm_K (f := gf) (n := gn) (M := M136) (by omega)
        refine j_callVv C (d := 5) (As := []) (st := []) 98 (s_lt rfl rfl) (s_kc (c := 11) rfl rfl) (by decide) rfl (s1_X12_next hM136 hpr gf gn (by omega) (by omega) (by omega) (by omega)) gX12_takes_X12_next rfl hdX12_next (by decide) (Nat.le_of_ble_eq_true rfl) dX12_takes_50 rfl (fun M150 h151 => ?_)
        obtain ⟨hM150, fM150, h152⟩ := h151
        have bM150 := tkm_b (f := gf) (n := gn) (M := M150) (by omega)
        have qM150 := nx_po (f := gf) (n := gn) (i := ((faQ gf gn 3) gi).2.2) (M := M136) (M' := M150) (by omega) (by omega) (by omega) (by omega) (by omega)
        refine j_iload_n C 0 3 dX12_takes_53 rfl rfl ?_
        have u153r := nu_1 gf gn a1 a2 gi (M0.1 98 11).toInt (M0.1 98 12).toInt (M0.1 98 6).toInt (M150.1 98 11).toInt (M150.1 98 12).toInt (M150.1 98 6).toInt (by omega) (by omega) (by omega) (by omega) (by omega) (by omega)
        exact hret _ _ _ _ dX12_takes_54 ⟨(M136.1 98 10).toInt, rfl, hM150, ((FR.rf.tr fM136 (by decide)).tr fM150 (by decide)), by omega⟩
  · refine j_aload_n C 0 0 dX12_takes_9 rfl rfl ?_
    refine y_iconst C dX12_takes_10 ?_
    refine j_callVv C (d := 0) (As := [.int (sI 2)]) (st := []) 98 (s_lt rfl rfl) (s_kc (c := 11) rfl rfl) (by decide) rfl (s1_X12_fails hM0 hpr 2 (by omega) gf gn gi (by omega) (by omega) (by omega) (by omega) (by omega)) gX12_takes_X12_fails rfl hdX12_fails (by decide) (Nat.le_of_ble_eq_true rfl) dX12_takes_11 rfl (fun M155 h156 => ?_)
    obtain ⟨hM155, fM155, h157⟩ := h156
    have bM155 := tkm_b (f := gf) (n := gn) (M := M155) (by omega)
    have qM155 := po_f gn ((faQ gf gn 2) gi).2.2 (M155.1 98 11).toInt (M155.1 98 6).toInt (by omega)
    refine j_goto C 37 dX12_takes_14 (by decide) ?_
    have u158l := ri_l (M := M155) (by omega)
    refine j_aload_n C 0 0 dX12_takes_37 rfl rfl ?_
    refine y_getI C 11 _ _ fX12_takes_121 rfl rfl ft_11_10 sb_11_10 hM155 dX12_takes_38 (fun a159 ea159 la159 ua159 => ?_)
    obtain rfl : a159 = (M155.1 98 10).toInt := ea159
    refine j_istore_n C 3 [(3, .int (sI (M155.1 98 10).toInt)), (0, .ref (ad 98)), (1, .int (sI a1)), (2, .int (sI a2))] dX12_takes_41 rfl (by decide) rfl ?_
    refine j_aload_n C 1 0 dX12_takes_42 rfl rfl ?_
    refine y_getI C 11 _ _ fX12_takes_126 rfl rfl ft_11_11 sb_11_11 hM155 dX12_takes_43 (fun a161 ea161 la161 ua161 => ?_)
    obtain rfl : a161 = (M155.1 98 11).toInt := ea161
    refine y_if_ne C 53 dX12_takes_46 (by decide) (by omega) (fun h163 => ?_) (fun h163 => ?_)
    · refine j_iload_n C 0 3 dX12_takes_53 rfl rfl ?_
      have u164r := nu_2z gf gn a1 a2 gi (M0.1 98 11).toInt (M0.1 98 12).toInt (M0.1 98 6).toInt (M155.1 98 11).toInt (M155.1 98 12).toInt (M155.1 98 6).toInt (by omega) (by omega) (by omega)
      exact hret _ _ _ _ dX12_takes_54 ⟨(M155.1 98 10).toInt, rfl, hM155, (FR.rf.tr fM155 (by decide)), by omega⟩
    · have u165k := fun h => ri_k (M := M155) (by omega) h
      refine j_aload_n C 1 0 dX12_takes_49 rfl rfl ?_
      have k166 := tkm_p (f := gf) (n := gn) (M := M155) (by omega)
      have k167 := tkm_K (f := gf) (n := gn) (M := M155) (by omega)
      refine j_callVv C (d := 5) (As := []) (st := []) 98 (s_lt rfl rfl) (s_kc (c := 11) rfl rfl) (by decide) rfl (s1_X12_next hM155 hpr gf gn (by omega) (by omega) (by omega) (by omega)) gX12_takes_X12_next rfl hdX12_next (by decide) (Nat.le_of_ble_eq_true rfl) dX12_takes_50 rfl (fun M169 h170 => ?_)
      obtain ⟨hM169, fM169, h171⟩ := h170
      have bM169 := tkm_b (f := gf) (n := gn) (M := M169) (by omega)
      have qM169 := nx_po (f := gf) (n := gn) (i := ((faQ gf gn 2) gi).2.2) (M := M155) (M' := M169) (by omega) (by omega) (by omega) (by omega) (by omega)
      refine j_iload_n C 0 3 dX12_takes_53 rfl rfl ?_
      have u172r := nu_1 gf gn a1 a2 gi (M0.1 98 11).toInt (M0.1 98 12).toInt (M0.1 98 6).toInt (M169.1 98 11).toInt (M169.1 98 12).toInt (M169.1 98 6).toInt (by omega) (by omega) (by omega) (by omega) (by omega) (by omega)
      exact hret _ _ _ _ dX12_takes_54 ⟨(M155.1 98 10).toInt, rfl, hM169, ((FR.rf.tr fM155 (by decide)).tr fM169 (by decide)), by omega⟩
set_option maxHeartbeats 4000000 in
theorem s1_X12_readMark {l : Launch} {dC : Nat → ClassId} {dI : Nat → Nat → Nat} {ad : Nat → Nat} {cA : Nat → ClassId} {pr : Nat → Nat → Bool} {Kz : mm_M} {M0 : mm_M} (hM0 : INV pr Kz M0) (hpr : PM pr) (a1 : Int) (ha1 : -2147483648 ≤ a1 ∧ a1 ≤ 2147483647) (gf : Nat → Int) (gn : Int) (gi : Int) (hp0 : b01 (RIP M0) = 1) (hp1 : b01 (LV M0) = 1) (hp2 : (M0.1 98 11).toInt = 0) (hp3 : 0 ≤ a1 ∧ a1 ≤ 5) (hp4 : b01 (TKM gf gn M0) = 1) (hp5 : b01 (PO gn gi (M0.1 98 11).toInt (M0.1 98 6).toInt) = 1) (hp6 : b01 (PI M0) = 1) : Ci l 7 yX12_readMark wsX12_readMark dC dI ad cA [.ref (ad 98), .int (sI a1)] M0 (fun r M' => ∃ a : Int, r = sI a ∧ INV pr Kz M' ∧ FR [98, 102] M0 M' ∧ 0 ≤ a ∧ a ≤ 1 ∧ (b01 (RIP M') = 1) ∧ ((M'.1 98 8).toInt = (M0.1 98 8).toInt) ∧ ((M0.1 98 6).toInt ≤ (M'.1 98 6).toInt) ∧ (b01 (LV M') = 1) ∧ (a = 0 ∨ a = 1 ∧ (M'.1 98 11).toInt = 0 ∧ (M0.1 98 6).toInt + 1 ≤ (M'.1 98 6).toInt) ∧ ((M'.1 102 1).toInt = (M0.1 102 1).toInt) ∧ ((M'.1 102 26).toInt = (M0.1 102 26).toInt ∧ (M'.1 102 1).toInt = (M0.1 102 1).toInt ∧ (M'.1 102 0).toInt = (M0.1 102 0).toInt) ∧ (a = 1 ∧ (M'.1 98 11).toInt = 0 ∧ b01 (mkQ gf gn gi) = 1 ∨ a = 0 ∧ (¬ (M'.1 98 11).toInt = 0 ∨ b01 (mkQ gf gn gi) = 0)) ∧ (b01 (CT AGR (M'.1 98 11).toInt M0 M' (mkC gf gn a1 gi)) = 1) ∧ (b01 (PI M') = 1) ∧ (b01 (TKM gf gn M') = 1) ∧ b01 (RR ((mkP gf gn) gi) (M0.1 98 11).toInt (M0.1 98 12).toInt (M'.1 98 11).toInt (M'.1 98 12).toInt (M'.1 98 6).toInt) = 1) := by
  refine ci_of (cc := cX12_readMark) (maxL := 2) (ty := .boolean) (lv := [(0, .ref (ad 98)), (1, .int (sI a1))]) (by decide) rfl (fun r M' hp => by obtain ⟨a, rfl, -, h⟩ := hp; rcases (show a = 0 ∨ a = 1 by omega) with rfl | rfl <;> rfl) (Nat.le_of_ble_eq_true rfl) rfl ?_
  intro p e s m args below meth c A Q C hret
  have u101l := ri_l (M := M0) (by omega)
  refine j_aload_n C 0 0 dX12_readMark_0 rfl rfl ?_
  refine y_bipush C dX12_readMark_1 rfl ?_
  have k102 := tkm_K (f := gf) (n := gn) (M := M0) (by omega)
  have k103 := kd_2 (kdk_8 gf gn (M0.1 98 6).toInt) (by omega)
  refine j_callVi C (d := 6) (As := [.int (sI 8)]) (st := []) 98 (s_lt rfl rfl) (s_kc (c := 11) rfl rfl) (by decide) rfl (s1_X12_eats hM0 hpr 8 (by omega) gf gn gi (by omega) (by omega) (by omega) (by omega) (by omega)) gX12_readMark_X12_eats rfl hdX12_eats (by decide) (Nat.le_of_ble_eq_true rfl) dX12_readMark_3 rfl (fun r104 M105 h106 => ?_)
  obtain ⟨a108, rfl, hM105, fM105, h107⟩ := h106
  have k109 := tk_c gf gn (M105.1 98 6).toInt (M0.1 98 6).toInt
  have bM105 := tkm_b (f := gf) (n := gn) (M := M105) (by omega)
  have u110v := lv_c (M := M0) (N := M105) (FR.cell fM105 (by decide)) (by omega) (by omega)
  have u110l := ri_l (M := M105) (by omega)
  refine y_if_eq C 28 dX12_readMark_6 (by decide) (by omega) (fun h111 => ?_) (fun h111 => ?_)
  · refine j_aload_n C 0 0 dX12_readMark_28 rfl rfl ?_
    refine y_bipush C dX12_readMark_29 rfl ?_
    have p112 := po_eq gn gi (M0.1 98 11).toInt (M0.1 98 6).toInt (M105.1 98 11).toInt (M105.1 98 6).toInt (by omega) (by omega) (by omega)
    have k113 := tkm_K (f := gf) (n := gn) (M := M105) (by omega)
    have k114 := kd_2 (kdk_9 gf gn (M105.1 98 6).toInt) (by omega)
    refine j_callVi C (d := 6) (As := [.int (sI 9)]) (st := []) 98 (s_lt rfl rfl) (s_kc (c := 11) rfl rfl) (by decide) rfl (s1_X12_eats hM105 hpr 9 (by omega) gf gn gi (by omega) (by omega) (by omega) (by omega) (by omega)) gX12_readMark_X12_eats rfl hdX12_eats (by decide) (Nat.le_of_ble_eq_true rfl) dX12_readMark_31 rfl (fun r115 M116 h117 => ?_)
    obtain ⟨a119, rfl, hM116, fM116, h118⟩ := h117
    have k120 := tk_c gf gn (M116.1 98 6).toInt (M105.1 98 6).toInt
    have bM116 := tkm_b (f := gf) (n := gn) (M := M116) (by omega)
    have u121v := lv_c (M := M105) (N := M116) (FR.cell fM116 (by decide)) (by omega) (by omega)
    have u121l := ri_l (M := M116) (by omega)
    refine y_if_eq C 56 dX12_readMark_34 (by decide) (by omega) (fun h122 => ?_) (fun h122 => ?_)
    · refine y_iconst C dX12_readMark_56 ?_
      have u123q := mk_r0 gf gn gi (M0.1 98 11).toInt (M0.1 98 6).toInt (by omega) (by omega) (by (clear u121l u121v bM116 k120 fM116 hM116 k113 p112 u110l u110v bM105 fM105 hM105 k102 u101l hret C hp6 hp5 hp4 hp3 hp1 hp0 ha1 hpr hM0; omega))
      have u123r := mk_0 gf gn gi (M0.1 98 11).toInt (M0.1 98 12).toInt (M0.1 98 6).toInt (M116.1 98 11).toInt (M116.1 98 12).toInt (M116.1 98 6).toInt (by omega) (by omega) (by omega) (by omega) (by omega) (by omega)
      have u123t := mkc_0 gf gn (A := AGR) (i := gi) (k := a1) (M := M0) (N := M116) (M116.1 98 11).toInt (agr_c ((FR.cell fM116 (by decide)).trans (FR.cell fM105 (by decide)))) (show b01 (PO gn gi (M0.1 98 11).toInt (M0.1 98 6).toInt) = 1 by omega) (by omega) (by omega)
      have zz102_0 : (M116.1 102 0).toInt = (M0.1 102 0).toInt := s_fF fM105 (by decide) (s_fF fM116 (by decide) (rfl)); have zz102_1 : (M116.1 102 1).toInt = (M0.1 102 1).toInt := s_fF fM105 (by decide) (s_fF fM116 (by decide) (rfl)); have zz102_26 : (M116.1 102 26).toInt = (M0.1 102 26).toInt := s_fF fM105 (by decide) (s_fF fM116 (by decide) (rfl)); exact hret _ _ _ _ dX12_readMark_57 ⟨0, rfl, hM116, ((FR.rf.tr fM105 (by decide)).tr fM116 (by decide)), by omega⟩
    · refine j_aload_n C 0 0 dX12_readMark_37 rfl rfl ?_
      refine y_getC C 11 102 fX12_readMark_24 rfl rfl ft_11_4 sm_11_4 rfl hM116 dX12_readMark_38 ?_
      refine y_bipush C dX12_readMark_41 rfl ?_
      refine j_iload_n C 1 1 dX12_readMark_43 rfl rfl ?_
      refine y_iadd C dX12_readMark_44 ?_
      refine j_aload_n C 0 0 dX12_readMark_45 rfl rfl ?_
      refine y_iconst C dX12_readMark_46 ?_
      refine y_bipush C dX12_readMark_47 rfl ?_
      refine j_callVi C (d := 6) (As := [.int (sI 0), .int (sI 9)]) (st := [.int (sI (20 + a1)), .ref (ad 102)]) 98 (s_lt rfl rfl) (s_kc (c := 11) rfl rfl) (by decide) rfl (s1_X12_takes hM116 hpr 0 (by omega) 9 (by omega) gf gn (nxF gf gn gi) (by omega) (by omega) (by omega) (by omega) (by omega) (by omega)) gX12_readMark_X12_takes rfl hdX12_takes (by decide) (Nat.le_of_ble_eq_true rfl) dX12_readMark_49 rfl (fun r124 M125 h126 => ?_)
      obtain ⟨a128, rfl, hM125, fM125, h127⟩ := h126
      have bM125 := tkm_b (f := gf) (n := gn) (M := M125) (by omega)
      have qM125 := po_rr (nuP gf gn 0 9) gn (nxF gf gn gi) (M116.1 98 11).toInt (M116.1 98 12).toInt (M116.1 98 6).toInt (M125.1 98 11).toInt (M125.1 98 12).toInt (M125.1 98 6).toInt (nu_g gf gn 0 9) (by omega) (by omega)
      have u129v := lv_c (M := M116) (N := M125) (FR.cell fM125 (by decide)) (by omega) (by omega)
      have u129l := ri_l (M := M125) (by omega)
      refine y_iastH C 48 1181 rfl rfl rfl ak_48 an_48 rfl _ _ hM125 (PM.w hpr rfl rfl) (hs_48_20_25 _ (by omega) (by omega)) dX12_readMark_52 (by omega) (by omega) (fun M130 eM130 hM130 => ?_)
      have xM130 := tkm_w (f := gf) (n := gn) eM130 (by decide) (by decide) (by omega)
      have qM130 := po_eq gn ((nuP gf gn 0 9) (nxF gf gn gi)).2.2 (M125.1 98 11).toInt (M125.1 98 6).toInt (M130.1 98 11).toInt (M130.1 98 6).toInt (by omega) (s_fa eM130 (by decide) rfl) (s_fa eM130 (by decide) rfl)
      have pM130 := pi_o eM130 (by decide) (by decide) (by omega)
      have u131v := lv_o eM130 (h4b hM125) (by omega) (by omega) (by omega)
      have u131i := ri_c (M := M125) (N := M130) (wI_cell eM130 (by decide)) (by omega)
      have u131q6 : (M130.1 98 6).toInt = (M125.1 98 6).toInt := by rw [show M130.1 98 = M125.1 98 from wI_cell eM130 (by decide)]
      have u131q8 : (M130.1 98 8).toInt = (M125.1 98 8).toInt := by rw [show M130.1 98 = M125.1 98 from wI_cell eM130 (by decide)]
      have u131q11 : (M130.1 98 11).toInt = (M125.1 98 11).toInt := by rw [show M130.1 98 = M125.1 98 from wI_cell eM130 (by decide)]
      refine j_goto C 58 dX12_readMark_53 (by decide) ?_
      refine j_aload_n C 0 0 dX12_readMark_58 rfl rfl ?_
      refine y_getI C 11 _ _ fX12_readMark_126 rfl rfl ft_11_11 sb_11_11 hM130 dX12_readMark_59 (fun a132 ea132 la132 ua132 => ?_)
      obtain rfl : a132 = (M125.1 98 11).toInt := s_fa eM130 (by decide) (ea132)
      refine y_if_ne C 69 dX12_readMark_62 (by decide) (by omega) (fun h134 => ?_) (fun h134 => ?_)
      · refine y_iconst C dX12_readMark_69 ?_
        have u135w12 : (M130.1 98 12).toInt = (M125.1 98 12).toInt := by rw [show M130.1 98 = M125.1 98 from wI_cell eM130 (by decide)]
        have u135q := mk_r1 gf gn gi (M0.1 98 11).toInt (M0.1 98 6).toInt (by omega) (by omega) (by (clear u135w12 h134 ua132 la132 ea132 u131q11 u131q8 u131q6 u131i u131v pM130 qM130 xM130 hM130 eM130 u129l u129v qM125 bM125 h127 fM125 hM125 u121l u121v bM116 k120 fM116 hM116 k113 p112 u110l u110v bM105 fM105 hM105 k103 k102 u101l hret C hp6 hp5 hp4 hp3 hp2 hp1 hp0 ha1 hpr hM0; omega))
        have u135r := mk_1 gf gn gi (M0.1 98 11).toInt (M0.1 98 12).toInt (M0.1 98 6).toInt (M116.1 98 11).toInt (M116.1 98 12).toInt (M125.1 98 11).toInt (M125.1 98 12).toInt (M125.1 98 6).toInt (M130.1 98 11).toInt (M130.1 98 12).toInt (M130.1 98 6).toInt (by omega) (by (clear u135q u135w12 h134 ua132 la132 ea132 u131q11 u131q8 u131q6 u131i u131v pM130 qM130 xM130 hM130 eM130 u129l u129v qM125 bM125 h127 fM125 hM125 u121l u121v bM116 k120 fM116 hM116 k113 p112 u110l u110v bM105 fM105 hM105 k103 k102 u101l hret C hp6 hp5 hp4 hp3 hp2 hp1 hp0 ha1 hpr hM0; omega)) (by omega) (by (clear u135q u135w12 h134 ua132 la132 ea132 u131q11 u131q8 u131q6 u131i u131v pM130 qM130 xM130 hM130 eM130 u129l u129v qM125 bM125 h127 fM125 hM125 h122 u121l u121v bM116 k120 fM116 hM116 k114 k113 p112 h111 u110l u110v bM105 k109 fM105 hM105 k103 k102 u101l hret C hp6 hp5 hp4 hp3 hp2 hp1 hp0 ha1 hpr hM0; omega)) (by omega) (by omega) (by omega) (by omega)
        have u135t := mkc_2 gf gn (A := AGR) (a := (M130.1 98 11).toInt) (i := gi) (k := a1) (x := a128) (M := M0) (M2 := M125) (N := M130) (agr_c (((FR.cell fM125 (by decide)).trans (FR.cell fM116 (by decide))).trans (FR.cell fM105 (by decide)))) (fun q T h => agr_w (x := a128) eM130 (by omega) q T h) (show b01 (PO gn gi (M0.1 98 11).toInt (M0.1 98 6).toInt) = 1 by omega) (by omega) (by (clear u135r u135q u135w12 h134 ua132 la132 ea132 u131q11 u131q8 u131q6 u131i u131v pM130 qM130 xM130 hM130 eM130 u129l u129v qM125 bM125 h127 fM125 hM125 u121l u121v bM116 k120 fM116 hM116 k113 p112 u110l u110v bM105 fM105 hM105 k103 k102 u101l hret C hp6 hp5 hp4 hp3 hp2 hp1 hp0 ha1 hpr hM0; omega)) (by omega)
        have zz102_0 : (M130.1 102 0).toInt = (M0.1 102 0).toInt := s_fF fM105 (by decide) (s_fF fM116 (by decide) (s_fF fM125 (by decide) (s_fb eM130 (by omega) (rfl)))); have zz102_1 : (M130.1 102 1).toInt = (M0.1 102 1).toInt := s_fF fM105 (by decide) (s_fF fM116 (by decide) (s_fF fM125 (by decide) (s_fb eM130 (by omega) (rfl)))); have zz102_26 : (M130.1 102 26).toInt = (M0.1 102 26).toInt := s_fF fM105 (by decide) (s_fF fM116 (by decide) (s_fF fM125 (by decide) (s_fb eM130 (by omega) (rfl)))); have zz98_11 : (M130.1 98 11).toInt = (M125.1 98 11).toInt := s_fa eM130 (by decide) (rfl); have zz98_12 : (M130.1 98 12).toInt = (M125.1 98 12).toInt := s_fa eM130 (by decide) (rfl); have zz98_6 : (M130.1 98 6).toInt = (M125.1 98 6).toInt := s_fa eM130 (by decide) (rfl); have zz98_8 : (M130.1 98 8).toInt = (M125.1 98 8).toInt := s_fa eM130 (by decide) (rfl); exact hret _ _ _ _ dX12_readMark_70 ⟨0, rfl, hM130, ((((FR.rf.tr fM105 (by decide)).tr fM116 (by decide)).tr fM125 (by decide)).wI eM130 (by decide)), by (clear zz98_8 zz98_6 zz98_12 zz98_11 u135q u135w12 ua132 la132 ea132 qM130 hM130 eM130 u129l u129v qM125 bM125 fM125 hM125 h122 u121l u121v bM116 k120 fM116 hM116 k114 k113 p112 h111 u110l u110v bM105 k109 fM105 hM105 k103 k102 u101l hret C hp6 hp5 hp4 hp3 hp2 hp1 hp0 ha1 hpr hM0; omega)⟩
      · refine y_iconst C dX12_readMark_65 ?_
        refine j_goto C 70 dX12_readMark_66 (by decide) ?_
        have u136w12 : (M130.1 98 12).toInt = (M125.1 98 12).toInt := by rw [show M130.1 98 = M125.1 98 from wI_cell eM130 (by decide)]
        have u136q := mk_r1 gf gn gi (M0.1 98 11).toInt (M0.1 98 6).toInt (by omega) (by omega) (by (clear u136w12 h134 ua132 la132 ea132 u131q11 u131q8 u131q6 u131i u131v pM130 qM130 xM130 hM130 eM130 u129l u129v qM125 bM125 h127 fM125 hM125 u121l u121v bM116 k120 fM116 hM116 k113 p112 u110l u110v bM105 fM105 hM105 k103 k102 u101l hret C hp6 hp5 hp4 hp3 hp2 hp1 hp0 ha1 hpr hM0; omega))
        have u136r := mk_1 gf gn gi (M0.1 98 11).toInt (M0.1 98 12).toInt (M0.1 98 6).toInt (M116.1 98 11).toInt (M116.1 98 12).toInt (M125.1 98 11).toInt (M125.1 98 12).toInt (M125.1 98 6).toInt (M130.1 98 11).toInt (M130.1 98 12).toInt (M130.1 98 6).toInt (by omega) (by omega) (by omega) (by omega) (by omega) (by omega) (by omega) (by omega)
        have u136t := mkc_2 gf gn (A := AGR) (a := (M130.1 98 11).toInt) (i := gi) (k := a1) (x := a128) (M := M0) (M2 := M125) (N := M130) (agr_c (((FR.cell fM125 (by decide)).trans (FR.cell fM116 (by decide))).trans (FR.cell fM105 (by decide)))) (fun q T h => agr_w (x := a128) eM130 (by omega) q T h) (show b01 (PO gn gi (M0.1 98 11).toInt (M0.1 98 6).toInt) = 1 by omega) (by omega) (by omega) (by omega)
        have zz102_0 : (M130.1 102 0).toInt = (M0.1 102 0).toInt := s_fF fM105 (by decide) (s_fF fM116 (by decide) (s_fF fM125 (by decide) (s_fb eM130 (by omega) (rfl)))); have zz102_1 : (M130.1 102 1).toInt = (M0.1 102 1).toInt := s_fF fM105 (by decide) (s_fF fM116 (by decide) (s_fF fM125 (by decide) (s_fb eM130 (by omega) (rfl)))); have zz102_26 : (M130.1 102 26).toInt = (M0.1 102 26).toInt := s_fF fM105 (by decide) (s_fF fM116 (by decide) (s_fF fM125 (by decide) (s_fb eM130 (by omega) (rfl)))); have zz98_11 : (M130.1 98 11).toInt = (M125.1 98 11).toInt := s_fa eM130 (by decide) (rfl); have zz98_12 : (M130.1 98 12).toInt = (M125.1 98 12).toInt := s_fa eM130 (by decide) (rfl); have zz98_6 : (M130.1 98 6).toInt = (M125.1 98 6).toInt := s_fa eM130 (by decide) (rfl); have zz98_8 : (M130.1 98 8).toInt = (M125.1 98 8).toInt := s_fa eM130 (by decide) (rfl); exact hret _ _ _ _ dX12_readMark_70 ⟨1, rfl, hM130, ((((FR.rf.tr fM105 (by decide)).tr fM116 (by decide)).tr fM125 (by decide)).wI eM130 (by decide)), by omega⟩
  · refine j_aload_n C 0 0 dX12_readMark_9 rfl rfl ?_
    refine y_getC C 11 102 fX12_readMark_24 rfl rfl ft_11_4 sm_11_4 rfl hM105 dX12_readMark_10 ?_
    refine y_bipush C dX12_readMark_13 rfl ?_
    refine j_iload_n C 1 1 dX12_readMark_15 rfl rfl ?_
    refine y_iadd C dX12_readMark_16 ?_
    refine j_aload_n C 0 0 dX12_readMark_17 rfl rfl ?_
    refine y_iconst C dX12_readMark_18 ?_
    refine y_bipush C dX12_readMark_19 rfl ?_
    refine j_callVi C (d := 6) (As := [.int (sI 0), .int (sI 9)]) (st := [.int (sI (14 + a1)), .ref (ad 102)]) 98 (s_lt rfl rfl) (s_kc (c := 11) rfl rfl) (by decide) rfl (s1_X12_takes hM105 hpr 0 (by omega) 9 (by omega) gf gn (nxF gf gn gi) (by omega) (by omega) (by omega) (by omega) (by omega) (by omega)) gX12_readMark_X12_takes rfl hdX12_takes (by decide) (Nat.le_of_ble_eq_true rfl) dX12_readMark_21 rfl (fun r137 M138 h139 => ?_)
    obtain ⟨a141, rfl, hM138, fM138, h140⟩ := h139
    have bM138 := tkm_b (f := gf) (n := gn) (M := M138) (by omega)
    have qM138 := po_rr (nuP gf gn 0 9) gn (nxF gf gn gi) (M105.1 98 11).toInt (M105.1 98 12).toInt (M105.1 98 6).toInt (M138.1 98 11).toInt (M138.1 98 12).toInt (M138.1 98 6).toInt (nu_g gf gn 0 9) (by omega) (by omega)
    have u142v := lv_c (M := M105) (N := M138) (FR.cell fM138 (by decide)) (by omega) (by omega)
    have u142l := ri_l (M := M138) (by omega)
    refine y_iastH C 48 1181 rfl rfl rfl ak_48 an_48 rfl _ _ hM138 (PM.w hpr rfl rfl) (hs_48_14_19 _ (by omega) (by omega)) dX12_readMark_24 (by omega) (by omega) (fun M143 eM143 hM143 => ?_)
    have xM143 := tkm_w (f := gf) (n := gn) eM143 (by decide) (by decide) (by omega)
    have qM143 := po_eq gn ((nuP gf gn 0 9) (nxF gf gn gi)).2.2 (M138.1 98 11).toInt (M138.1 98 6).toInt (M143.1 98 11).toInt (M143.1 98 6).toInt (by omega) (s_fa eM143 (by decide) rfl) (s_fa eM143 (by decide) rfl)
    have pM143 := pi_o eM143 (by decide) (by decide) (by omega)
    have u144v := lv_w eM143 (h4b hM138) (by omega) (by omega)
    have u144i := ri_c (M := M138) (N := M143) (wI_cell eM143 (by decide)) (by omega)
    have u144q6 : (M143.1 98 6).toInt = (M138.1 98 6).toInt := by rw [show M143.1 98 = M138.1 98 from wI_cell eM143 (by decide)]
    have u144q8 : (M143.1 98 8).toInt = (M138.1 98 8).toInt := by rw [show M143.1 98 = M138.1 98 from wI_cell eM143 (by decide)]
    have u144q11 : (M143.1 98 11).toInt = (M138.1 98 11).toInt := by rw [show M143.1 98 = M138.1 98 from wI_cell eM143 (by decide)]
    refine j_goto C 58 dX12_readMark_25 (by decide) ?_
    refine j_aload_n C 0 0 dX12_readMark_58 rfl rfl ?_
    refine y_getI C 11 _ _ fX12_readMark_126 rfl rfl ft_11_11 sb_11_11 hM143 dX12_readMark_59 (fun a145 ea145 la145 ua145 => ?_)
    obtain rfl : a145 = (M138.1 98 11).toInt := s_fa eM143 (by decide) (ea145)
    refine y_if_ne C 69 dX12_readMark_62 (by decide) (by omega) (fun h147 => ?_) (fun h147 => ?_)
    · refine y_iconst C dX12_readMark_69 ?_
      have u148w12 : (M143.1 98 12).toInt = (M138.1 98 12).toInt := by rw [show M143.1 98 = M138.1 98 from wI_cell eM143 (by decide)]
      have u148q := mk_r1 gf gn gi (M0.1 98 11).toInt (M0.1 98 6).toInt (by omega) (by omega) (by (clear u148w12 h147 ua145 la145 ea145 u144q11 u144q8 u144q6 u144i u144v pM143 qM143 xM143 hM143 eM143 u142l u142v qM138 bM138 h140 fM138 hM138 u110l u110v bM105 k109 fM105 hM105 k102 u101l hret C hp6 hp5 hp4 hp3 hp2 hp1 hp0 ha1 hpr hM0; omega))
      have u148r := mk_1 gf gn gi (M0.1 98 11).toInt (M0.1 98 12).toInt (M0.1 98 6).toInt (M105.1 98 11).toInt (M105.1 98 12).toInt (M138.1 98 11).toInt (M138.1 98 12).toInt (M138.1 98 6).toInt (M143.1 98 11).toInt (M143.1 98 12).toInt (M143.1 98 6).toInt (by omega) (by (clear u148q u148w12 h147 ua145 la145 ea145 u144q11 u144q8 u144q6 u144i u144v pM143 qM143 xM143 hM143 eM143 u142l u142v qM138 bM138 h140 fM138 hM138 u110l u110v bM105 k109 fM105 hM105 k102 u101l hret C hp6 hp5 hp4 hp3 hp2 hp1 hp0 ha1 hpr hM0; omega)) (by omega) (by (clear u148q u148w12 h147 ua145 la145 ea145 u144q11 u144q8 u144q6 u144i u144v pM143 qM143 xM143 hM143 eM143 u142l u142v qM138 bM138 h140 fM138 hM138 h111 u110l u110v bM105 k109 fM105 hM105 k103 k102 u101l hret C hp6 hp5 hp4 hp3 hp2 hp1 hp0 ha1 hpr hM0; omega)) (by omega) (by omega) (by omega) (by omega)
      have u148t := mkc_1 gf gn (A := AGR) (a := (M143.1 98 11).toInt) (i := gi) (k := a1) (x := a141) (M := M0) (M2 := M138) (N := M143) (agr_c ((FR.cell fM138 (by decide)).trans (FR.cell fM105 (by decide)))) (fun q T h => agr_w (x := a141) eM143 (by omega) q T h) (show b01 (PO gn gi (M0.1 98 11).toInt (M0.1 98 6).toInt) = 1 by omega) (by omega) (by (clear u148r u148q u148w12 h147 ua145 la145 ea145 u144q11 u144q8 u144q6 u144i u144v pM143 qM143 xM143 hM143 eM143 u142l u142v qM138 bM138 h140 fM138 hM138 u110l u110v bM105 k109 fM105 hM105 k102 u101l hret C hp6 hp5 hp4 hp3 hp2 hp1 hp0 ha1 hpr hM0; omega)) (by omega)
      have zz102_0 : (M143.1 102 0).toInt = (M0.1 102 0).toInt := s_fF fM105 (by decide) (s_fF fM138 (by decide) (s_fb eM143 (by omega) (rfl))); have zz102_1 : (M143.1 102 1).toInt = (M0.1 102 1).toInt := s_fF fM105 (by decide) (s_fF fM138 (by decide) (s_fb eM143 (by omega) (rfl))); have zz102_26 : (M143.1 102 26).toInt = (M0.1 102 26).toInt := s_fF fM105 (by decide) (s_fF fM138 (by decide) (s_fb eM143 (by omega) (rfl))); have zz98_11 : (M143.1 98 11).toInt = (M138.1 98 11).toInt := s_fa eM143 (by decide) (rfl); have zz98_12 : (M143.1 98 12).toInt = (M138.1 98 12).toInt := s_fa eM143 (by decide) (rfl); have zz98_6 : (M143.1 98 6).toInt = (M138.1 98 6).toInt := s_fa eM143 (by decide) (rfl); have zz98_8 : (M143.1 98 8).toInt = (M138.1 98 8).toInt := s_fa eM143 (by decide) (rfl); exact hret _ _ _ _ dX12_readMark_70 ⟨0, rfl, hM143, (((FR.rf.tr fM105 (by decide)).tr fM138 (by decide)).wI eM143 (by decide)), by (clear zz98_8 zz98_6 zz98_12 zz98_11 u148q u148w12 ua145 la145 ea145 qM143 hM143 eM143 u142l u142v qM138 bM138 fM138 hM138 h111 u110l u110v bM105 k109 fM105 hM105 k103 k102 u101l hret C hp6 hp5 hp4 hp3 hp2 hp1 hp0 ha1 hpr hM0; omega)⟩
    · refine y_iconst C dX12_readMark_65 ?_
      refine j_goto C 70 dX12_readMark_66 (by decide) ?_
      have u149w12 : (M143.1 98 12).toInt = (M138.1 98 12).toInt := by rw [show M143.1 98 = M138.1 98 from wI_cell eM143 (by decide)]
      have u149q := mk_r1 gf gn gi (M0.1 98 11).toInt (M0.1 98 6).toInt (by omega) (by omega) (by omega)
      have u149r := mk_1 gf gn gi (M0.1 98 11).toInt (M0.1 98 12).toInt (M0.1 98 6).toInt (M105.1 98 11).toInt (M105.1 98 12).toInt (M138.1 98 11).toInt (M138.1 98 12).toInt (M138.1 98 6).toInt (M143.1 98 11).toInt (M143.1 98 12).toInt (M143.1 98 6).toInt (by omega) (by omega) (by omega) (by omega) (by omega) (by omega) (by omega) (by omega)
      have u149t := mkc_1 gf gn (A := AGR) (a := (M143.1 98 11).toInt) (i := gi) (k := a1) (x := a141) (M := M0) (M2 := M138) (N := M143) (agr_c ((FR.cell fM138 (by decide)).trans (FR.cell fM105 (by decide)))) (fun q T h => agr_w (x := a141) eM143 (by omega) q T h) (show b01 (PO gn gi (M0.1 98 11).toInt (M0.1 98 6).toInt) = 1 by omega) (by omega) (by omega) (by omega)
      have zz102_0 : (M143.1 102 0).toInt = (M0.1 102 0).toInt := s_fF fM105 (by decide) (s_fF fM138 (by decide) (s_fb eM143 (by omega) (rfl))); have zz102_1 : (M143.1 102 1).toInt = (M0.1 102 1).toInt := s_fF fM105 (by decide) (s_fF fM138 (by decide) (s_fb eM143 (by omega) (rfl))); have zz102_26 : (M143.1 102 26).toInt = (M0.1 102 26).toInt := s_fF fM105 (by decide) (s_fF fM138 (by decide) (s_fb eM143 (by omega) (rfl))); have zz98_11 : (M143.1 98 11).toInt = (M138.1 98 11).toInt := s_fa eM143 (by decide) (rfl); have zz98_12 : (M143.1 98 12).toInt = (M138.1 98 12).toInt := s_fa eM143 (by decide) (rfl); have zz98_6 : (M143.1 98 6).toInt = (M138.1 98 6).toInt := s_fa eM143 (by decide) (rfl); have zz98_8 : (M143.1 98 8).toInt = (M138.1 98 8).toInt := s_fa eM143 (by decide) (rfl); exact hret _ _ _ _ dX12_readMark_70 ⟨1, rfl, hM143, (((FR.rf.tr fM105 (by decide)).tr fM138 (by decide)).wI eM143 (by decide)), by omega⟩
set_option maxHeartbeats 4000000 in
theorem s1_X12_readBuyer {l : Launch} {dC : Nat → ClassId} {dI : Nat → Nat → Nat} {ad : Nat → Nat} {cA : Nat → ClassId} {pr : Nat → Nat → Bool} {Kz : mm_M} {M0 : mm_M} (hM0 : INV pr Kz M0) (hpr : PM pr) (gf : Nat → Int) (gn : Int) (gi : Int) (hp0 : b01 (RIP M0) = 1) (hp1 : b01 (LV M0) = 1) (hp2 : (M0.1 98 11).toInt = 0) (hp3 : tkF gf gn (M0.1 98 6).toInt = 1009) (hp4 : b01 (TKM gf gn M0) = 1) (hp5 : b01 (PO gn gi (M0.1 98 11).toInt (M0.1 98 6).toInt) = 1) (hp6 : b01 (PI M0) = 1) : Cv l 8 yX12_readBuyer wsX12_readBuyer dC dI ad cA [.ref (ad 98)] M0 (fun M' => INV pr Kz M' ∧ FR [98, 102] M0 M' ∧ (b01 (RIP M') = 1) ∧ ((M'.1 98 8).toInt = (M0.1 98 8).toInt) ∧ ((M0.1 98 6).toInt ≤ (M'.1 98 6).toInt) ∧ (b01 (LV M') = 1) ∧ (b01 (CK (M'.1 98 11).toInt (M'.1 102 26).toInt (M'.1 102 1).toInt (M'.1 102 0).toInt (M0.1 102 26).toInt ((M0.1 102 1).toInt + 1) (M0.1 102 0).toInt) = 1) ∧ (b01 (CT AGM (M'.1 98 11).toInt M0 M' (buC gf gn (M0.1 102 1).toInt gi)) = 1) ∧ (b01 (PI M') = 1) ∧ (b01 (TKM gf gn M') = 1) ∧ b01 (RR ((buP gf gn (M0.1 102 1).toInt) gi) (M0.1 98 11).toInt (M0.1 98 12).toInt (M'.1 98 11).toInt (M'.1 98 12).toInt (M'.1 98 6).toInt) = 1) := by
  refine cv_of (cc := cX12_readBuyer) (maxL := 2) (lv := [(0, .ref (ad 98))]) (by decide) rfl (Nat.le_of_ble_eq_true rfl) rfl ?_
  intro p e s m args below meth c A Q C hret
  have u101l := ri_l (M := M0) (by omega)
  have k102 := tkm_K (f := gf) (n := gn) (M := M0) (by omega)
  refine j_aload_n C 0 0 dX12_readBuyer_0 rfl rfl ?_
  refine y_getC C 11 102 fX12_readBuyer_24 rfl rfl ft_11_4 sm_11_4 rfl hM0 dX12_readBuyer_1 ?_
  refine y_iconst C dX12_readBuyer_4 ?_
  refine y_ialdH C 48 1181 rfl rfl rfl ak_48 an_48 rfl _ _ hM0 (hr_48_1_1 _ (by omega) (by omega)) dX12_readBuyer_5 (by omega) (fun a103 ea103 la103 ua103 => ?_)
  obtain rfl : a103 = (M0.1 102 1).toInt := ea103
  refine j_istore_n C 1 [(1, .int (sI (M0.1 102 1).toInt)), (0, .ref (ad 98))] dX12_readBuyer_6 rfl (by decide) rfl ?_
  refine j_iload_n C 0 1 dX12_readBuyer_7 rfl rfl ?_
  refine y_bipush C dX12_readBuyer_8 rfl ?_
  refine y_icmp_ne C 18 dX12_readBuyer_10 (by decide) (by omega) (fun h104 => ?_) (fun h104 => ?_)
  · refine j_aload_n C 1 0 dX12_readBuyer_18 rfl rfl ?_
    refine y_getI C 11 _ _ fX12_readBuyer_126 rfl rfl ft_11_11 sb_11_11 hM0 dX12_readBuyer_19 (fun a106 ea106 la106 ua106 => ?_)
    obtain rfl : a106 = (M0.1 98 11).toInt := ea106
    refine y_if_eq C 26 dX12_readBuyer_22 (by decide) (by omega) (fun h108 => ?_) (fun h108 => ?_)
    · have u109 : 0 ≤ (M0.1 102 1).toInt ∧ (M0.1 102 1).toInt ≤ 5 := by omega
      refine j_aload_n C 1 0 dX12_readBuyer_26 rfl rfl ?_
      have k110 := tkm_p (f := gf) (n := gn) (M := M0) (by omega)
      have k111 := tkm_K (f := gf) (n := gn) (M := M0) (by omega)
      refine j_callVv C (d := 5) (As := []) (st := []) 98 (s_lt rfl rfl) (s_kc (c := 11) rfl rfl) (by decide) rfl (s1_X12_next hM0 hpr gf gn (by omega) (by omega) (by omega) (by omega)) gX12_readBuyer_X12_next rfl hdX12_next (by decide) (Nat.le_of_ble_eq_true rfl) dX12_readBuyer_27 rfl (fun M113 h114 => ?_)
      obtain ⟨hM113, fM113, h115⟩ := h114
      have bM113 := tkm_b (f := gf) (n := gn) (M := M113) (by omega)
      have qM113 := nx_po (f := gf) (n := gn) (i := gi) (M := M0) (M' := M113) (by omega) (by omega) (by omega) (by omega) (by omega)
      have u116v := lv_c (M := M0) (N := M113) (FR.cell fM113 (by decide)) (by omega) (by omega)
      have u116l := ri_l (M := M113) (by omega)
      refine j_aload_n C 1 0 dX12_readBuyer_30 rfl rfl ?_
      refine y_bipush C dX12_readBuyer_31 rfl ?_
      have k117 := tkm_K (f := gf) (n := gn) (M := M113) (by omega)
      have k118 := kd_2 (kdk_7 gf gn (M113.1 98 6).toInt) (by omega)
      refine j_callVi C (d := 6) (As := [.int (sI 7)]) (st := []) 98 (s_lt rfl rfl) (s_kc (c := 11) rfl rfl) (by decide) rfl (s1_X12_eats hM113 hpr 7 (by omega) gf gn (nxF gf gn gi) (by omega) (by omega) (by omega) (by omega) (by omega)) gX12_readBuyer_X12_eats rfl hdX12_eats (by decide) (Nat.le_of_ble_eq_true rfl) dX12_readBuyer_33 rfl (fun r119 M120 h121 => ?_)
      obtain ⟨a123, rfl, hM120, fM120, h122⟩ := h121
      have k124 := tk_c gf gn (M120.1 98 6).toInt (M113.1 98 6).toInt
      have bM120 := tkm_b (f := gf) (n := gn) (M := M120) (by omega)
      have u125v := lv_c (M := M113) (N := M120) (FR.cell fM120 (by decide)) (by omega) (by omega)
      have u125l := ri_l (M := M120) (by omega)
      have J135 : ∀ (M134 : mm_M), ((b01 (RIP M134) = 1) ∧ ((M134.1 98 8).toInt = (M0.1 98 8).toInt) ∧ ((M0.1 98 6).toInt ≤ (M134.1 98 6).toInt) ∧ (b01 (LV M134) = 1) ∧ ((M134.1 102 1).toInt = (M0.1 102 1).toInt) ∧ (b01 (RR (exP gf gn 1001 (nxF gf gn gi)) (M0.1 98 11).toInt (M0.1 98 12).toInt (M134.1 98 11).toInt (M134.1 98 12).toInt (M134.1 98 6).toInt) = 1) ∧ ((M134.1 102 26).toInt = (M0.1 102 26).toInt ∧ (M134.1 102 1).toInt = (M0.1 102 1).toInt ∧ (M134.1 102 0).toInt = (M0.1 102 0).toInt) ∧ (b01 (CT AGR 0 M0 M134 (fun T => T)) = 1) ∧ (b01 (TKM gf gn M134) = 1) ∧ (b01 (PO gn (exP gf gn 1001 (nxF gf gn gi)).2.2 (M134.1 98 11).toInt (M134.1 98 6).toInt) = 1) ∧ (b01 (PI M134) = 1)) → INV pr Kz M134 → FR [98, 102] M0 M134 → jj p l e (cn_R 8) s m args below meth c 0 0 Q 2 dC dI ad cA A M134 44 [(0, .ref (ad 98)), (1, .int (sI (M0.1 102 1).toInt))] [] := by
        intro M134 h136 hM134 fM134
        have u138l := ri_l (M := M134) (by omega)
        refine j_aload_n C 0 0 dX12_readBuyer_44 rfl rfl ?_
        refine y_getC C 11 102 fX12_readBuyer_24 rfl rfl ft_11_4 sm_11_4 rfl hM134 dX12_readBuyer_45 ?_
        refine y_bipush C dX12_readBuyer_48 rfl ?_
        refine j_iload_n C 1 1 dX12_readBuyer_50 rfl rfl ?_
        refine y_iadd C dX12_readBuyer_51 ?_
        refine j_aload_n C 0 0 dX12_readBuyer_52 rfl rfl ?_
        refine y_iconst C dX12_readBuyer_53 ?_
        refine y_sipush C dX12_readBuyer_54 rfl ?_
        refine j_callVi C (d := 6) (As := [.int (sI 0), .int (sI 999)]) (st := [.int (sI (8 + (M0.1 102 1).toInt)), .ref (ad 102)]) 98 (s_lt rfl rfl) (s_kc (c := 11) rfl rfl) (by decide) rfl (s1_X12_takes hM134 hpr 0 (by omega) 999 (by omega) gf gn (exP gf gn 1001 (nxF gf gn gi)).2.2 (by omega) (by omega) (by omega) (by omega) (by omega) (by omega)) gX12_readBuyer_X12_takes rfl hdX12_takes (by decide) (Nat.le_of_ble_eq_true rfl) dX12_readBuyer_57 rfl (fun r139 M140 h141 => ?_)
        obtain ⟨a143, rfl, hM140, fM140, h142⟩ := h141
        have bM140 := tkm_b (f := gf) (n := gn) (M := M140) (by omega)
        have qM140 := po_rr (nuP gf gn 0 999) gn (exP gf gn 1001 (nxF gf gn gi)).2.2 (M134.1 98 11).toInt (M134.1 98 12).toInt (M134.1 98 6).toInt (M140.1 98 11).toInt (M140.1 98 12).toInt (M140.1 98 6).toInt (nu_g gf gn 0 999) (by omega) (by omega)
        have u144v := lv_c (M := M134) (N := M140) (FR.cell fM140 (by decide)) (by omega) (by omega)
        have u144l := ri_l (M := M140) (by omega)
        refine y_iastH C 48 1181 rfl rfl rfl ak_48 an_48 rfl _ _ hM140 (PM.w hpr rfl rfl) (hs_48_8_13 _ (by omega) (by omega)) dX12_readBuyer_60 (by omega) (by omega) (fun M145 eM145 hM145 => ?_)
        have xM145 := tkm_w (f := gf) (n := gn) eM145 (by decide) (by decide) (by omega)
        have qM145 := po_eq gn ((nuP gf gn 0 999) (exP gf gn 1001 (nxF gf gn gi)).2.2).2.2 (M140.1 98 11).toInt (M140.1 98 6).toInt (M145.1 98 11).toInt (M145.1 98 6).toInt (by omega) (s_fa eM145 (by decide) rfl) (s_fa eM145 (by decide) rfl)
        have pM145 := pi_o eM145 (by decide) (by decide) (by omega)
        have u146v := lv_w eM145 (h4b hM140) (by omega) (by omega)
        have u146i := ri_c (M := M140) (N := M145) (wI_cell eM145 (by decide)) (by omega)
        have u146q6 : (M145.1 98 6).toInt = (M140.1 98 6).toInt := by rw [show M145.1 98 = M140.1 98 from wI_cell eM145 (by decide)]
        have u146q8 : (M145.1 98 8).toInt = (M140.1 98 8).toInt := by rw [show M145.1 98 = M140.1 98 from wI_cell eM145 (by decide)]
        have u146q11 : (M145.1 98 11).toInt = (M140.1 98 11).toInt := by rw [show M145.1 98 = M140.1 98 from wI_cell eM145 (by decide)]
        refine j_aload_n C 0 0 dX12_readBuyer_61 rfl rfl ?_
        refine y_getC C 11 102 fX12_readBuyer_24 rfl rfl ft_11_4 sm_11_4 rfl hM145 dX12_readBuyer_62 ?_
        refine y_bipush C dX12_readBuyer_65 rfl ?_
        refine j_iload_n C 1 1 dX12_readBuyer_67 rfl rfl ?_
        refine y_iadd C dX12_readBuyer_68 ?_
        refine y_iconst C dX12_readBuyer_69 ?_
        refine y_iastH C 48 1181 rfl rfl rfl ak_48 an_48 rfl _ _ hM145 (PM.w hpr rfl rfl) (hs_48_20_25 _ (by omega) (by omega)) dX12_readBuyer_70 (by omega) (by omega) (fun M147 eM147 hM147 => ?_)
        have xM147 := tkm_w (f := gf) (n := gn) eM147 (by decide) (by decide) (by omega)
        have qM147 := po_eq gn ((nuP gf gn 0 999) (exP gf gn 1001 (nxF gf gn gi)).2.2).2.2 (M145.1 98 11).toInt (M145.1 98 6).toInt (M147.1 98 11).toInt (M147.1 98 6).toInt (by omega) (s_fa eM147 (by decide) rfl) (s_fa eM147 (by decide) rfl)
        have pM147 := pi_o eM147 (by decide) (by decide) (by omega)
        have u148v := lv_o eM147 (h4b hM145) (by omega) (by omega) (by omega)
        have u148i := ri_c (M := M145) (N := M147) (wI_cell eM147 (by decide)) (by omega)
        have u148q6 : (M147.1 98 6).toInt = (M145.1 98 6).toInt := by rw [show M147.1 98 = M145.1 98 from wI_cell eM147 (by decide)]
        have u148q8 : (M147.1 98 8).toInt = (M145.1 98 8).toInt := by rw [show M147.1 98 = M145.1 98 from wI_cell eM147 (by decide)]
        have u148q11 : (M147.1 98 11).toInt = (M145.1 98 11).toInt := by rw [show M147.1 98 = M145.1 98 from wI_cell eM147 (by decide)]
        have u148l := ri_l (M := M147) (by omega)
        have u148w12M147 : (M147.1 98 12).toInt = (M145.1 98 12).toInt := by rw [show M147.1 98 = M145.1 98 from wI_cell eM147 (by decide)]
        have u148w12M145 : (M145.1 98 12).toInt = (M140.1 98 12).toInt := by rw [show M145.1 98 = M140.1 98 from wI_cell eM145 (by decide)]
        have u148L := lk_0 (luP gf gn 1002 1013 (nuP gf gn 0 9)) gn ((nuP gf gn 0 999) (exP gf gn 1001 (nxF gf gn gi)).2.2).2.2 (M147.1 98 11).toInt (M147.1 98 12).toInt (M147.1 98 6).toInt (by omega)
        have u148t := ltc_0 (A := AGR) (M147.1 98 11).toInt (mkT gf gn (M0.1 102 1).toInt) ((nuP gf gn 0 999) (exP gf gn 1001 (nxF gf gn gi)).2.2).2.2 M147
        have L164 : ∀ (n162 : Nat), ∀ (M165 : mm_M) (gq166 : Int), ((b01 (RIP M165) = 1) ∧ ((M165.1 98 8).toInt = (M0.1 98 8).toInt) ∧ ((M0.1 98 6).toInt ≤ (M165.1 98 6).toInt) ∧ (b01 (LV M165) = 1) ∧ ((M165.1 98 6).toInt ≤ 900) ∧ ((M165.1 102 1).toInt = (M0.1 102 1).toInt) ∧ (b01 (LK (luP gf gn 1002 1013 (nuP gf gn 0 9)) gn ((nuP gf gn 0 999) (exP gf gn 1001 (nxF gf gn gi)).2.2).2.2 gq166 0 1 (M147.1 98 11).toInt (M147.1 98 12).toInt (M165.1 98 11).toInt (M165.1 98 12).toInt (M165.1 98 6).toInt) = 1) ∧ ((M165.1 102 26).toInt = (M0.1 102 26).toInt ∧ (M165.1 102 1).toInt = (M0.1 102 1).toInt ∧ (M165.1 102 0).toInt = (M0.1 102 0).toInt) ∧ (b01 (LTW AGR (M165.1 98 11).toInt (mkT gf gn (M0.1 102 1).toInt) ((nuP gf gn 0 999) (exP gf gn 1001 (nxF gf gn gi)).2.2).2.2 gq166 1 M147 M165) = 1) ∧ (b01 (TKM gf gn M165) = 1) ∧ (b01 (PO gn gq166 (M165.1 98 11).toInt (M165.1 98 6).toInt) = 1) ∧ (b01 (PI M165) = 1) ∧ (900 - (M165.1 98 6).toInt) < (n162 : Int)) → INV pr Kz M165 → FR [98, 102] M0 M165 → jj p l e (cn_R 8) s m args below meth c 0 0 Q 2 dC dI ad cA A M165 71 [(0, .ref (ad 98)), (1, .int (sI (M0.1 102 1).toInt))] [] := by
          intro n162
          induction n162 with
          | zero =>
            intro M165 gq166 h167 hM165 fM165
            exfalso; omega
          | succ n162 ih163 =>
            intro M165 gq166 h167 hM165 fM165
            have u168B := tkm_b (f := gf) (n := gn) (M := M165) (by omega)
            refine j_aload_n C 0 0 dX12_readBuyer_71 rfl rfl ?_
            refine y_getI C 11 _ _ fX12_readBuyer_126 rfl rfl ft_11_11 sb_11_11 hM165 dX12_readBuyer_72 (fun a169 ea169 la169 ua169 => ?_)
            obtain rfl : a169 = (M165.1 98 11).toInt := ea169
            refine y_if_ne C 89 dX12_readBuyer_75 (by decide) (by omega) (fun h171 => ?_) (fun h171 => ?_)
            · refine j_aload_n C 0 0 dX12_readBuyer_89 rfl rfl ?_
              refine y_getI C 11 _ _ fX12_readBuyer_126 rfl rfl ft_11_11 sb_11_11 hM165 dX12_readBuyer_90 (fun a179 ea179 la179 ua179 => ?_)
              obtain rfl : a179 = (M165.1 98 11).toInt := ea179
              refine y_if_ne C 106 dX12_readBuyer_93 (by decide) (by omega) (fun h181 => ?_) (fun h181 => ?_)
              · have u183E := lk_e gn (luP gf gn 1002 1013 (nuP gf gn 0 9)) (mkP gf gn) (mkQ gf gn) (mk_q gf gn) ((nuP gf gn 0 999) (exP gf gn 1001 (nxF gf gn gi)).2.2).2.2 gq166 0 1 (M147.1 98 11).toInt (M147.1 98 12).toInt (M165.1 98 11).toInt (M165.1 98 12).toInt (M165.1 98 6).toInt (by omega) (by omega)
                have u183R := bu_2 gf gn (M0.1 102 1).toInt gi (M0.1 98 11).toInt (M0.1 98 12).toInt (M0.1 98 11).toInt (M0.1 98 12).toInt (M134.1 98 11).toInt (M134.1 98 12).toInt (M134.1 98 6).toInt (M134.1 98 11).toInt (M134.1 98 12).toInt (M140.1 98 11).toInt (M140.1 98 12).toInt (M140.1 98 6).toInt (M147.1 98 11).toInt (M147.1 98 12).toInt (M165.1 98 11).toInt (M165.1 98 12).toInt (M165.1 98 6).toInt (by omega) rfl rfl (by omega) rfl rfl (by omega) (by omega) (by omega) (by omega)
                have u183c := ck_i (M165.1 98 11).toInt (M165.1 102 26).toInt (M165.1 102 1).toInt (M165.1 102 0).toInt (M0.1 102 26).toInt ((M0.1 102 1).toInt + 1) (M0.1 102 0).toInt (by omega)
                have u183t := ct_n (A := AGM) (M := M0) (N := M165) (buC gf gn (M0.1 102 1).toInt gi) (a := (M165.1 98 11).toInt) (by omega)
                exact hret _ _ _ dX12_readBuyer_106 ⟨hM165, (FR.rf.tr fM165 (by decide)), by omega⟩
              · exfalso; omega
            · refine j_aload_n C 0 0 dX12_readBuyer_78 rfl rfl ?_
              refine j_iload_n C 1 1 dX12_readBuyer_79 rfl rfl ?_
              refine j_callVi C (d := 7) (As := [.int (sI (M0.1 102 1).toInt)]) (st := []) 98 (s_lt rfl rfl) (s_kc (c := 11) rfl rfl) (by decide) rfl (s1_X12_readMark hM165 hpr (M0.1 102 1).toInt (by omega) gf gn gq166 (by omega) (by omega) (by omega) (by omega) (by omega) (by omega) (by omega)) gX12_readBuyer_X12_readMark rfl hdX12_readMark (by decide) (Nat.le_of_ble_eq_true rfl) dX12_readBuyer_80 rfl (fun r172 M173 h174 => ?_)
              obtain ⟨a176, rfl, hM173, fM173, h175⟩ := h174
              have bM173 := tkm_b (f := gf) (n := gn) (M := M173) (by omega)
              have qM173 := po_rh (mkP gf gn) gn gq166 (M165.1 98 11).toInt (M165.1 98 12).toInt (M165.1 98 6).toInt (M173.1 98 11).toInt (M173.1 98 12).toInt (M173.1 98 6).toInt (mk_h gf gn) (by omega) (by omega)
              refine y_if_eq C 89 dX12_readBuyer_83 (by decide) (by omega) (fun h177 => ?_) (fun h177 => ?_)
              · refine j_aload_n C 0 0 dX12_readBuyer_89 rfl rfl ?_
                refine y_getI C 11 _ _ fX12_readBuyer_126 rfl rfl ft_11_11 sb_11_11 hM173 dX12_readBuyer_90 (fun a184 ea184 la184 ua184 => ?_)
                obtain rfl : a184 = (M173.1 98 11).toInt := ea184
                refine y_if_ne C 106 dX12_readBuyer_93 (by decide) (by omega) (fun h186 => ?_) (fun h186 => ?_)
                · have u188K := lk_s gn (luP gf gn 1002 1013 (nuP gf gn 0 9)) (mkP gf gn) (mkQ gf gn) (mk_q gf gn) ((nuP gf gn 0 999) (exP gf gn 1001 (nxF gf gn gi)).2.2).2.2 gq166 0 1 (M147.1 98 11).toInt (M147.1 98 12).toInt (M165.1 98 11).toInt (M165.1 98 12).toInt (M165.1 98 6).toInt (M173.1 98 11).toInt (M173.1 98 12).toInt (M173.1 98 6).toInt (M173.1 98 11).toInt (M173.1 98 12).toInt (M173.1 98 6).toInt (b01 ((mkQ gf gn) gq166)) (by omega) (by omega) (by decide) (by omega) rfl rfl rfl rfl
                  have u188E := lk_e gn (luP gf gn 1002 1013 (nuP gf gn 0 9)) (mkP gf gn) (mkQ gf gn) (mk_q gf gn) ((nuP gf gn 0 999) (exP gf gn 1001 (nxF gf gn gi)).2.2).2.2 ((mkP gf gn) gq166).2.2 (0 + 1) (b01 ((mkQ gf gn) gq166)) (M147.1 98 11).toInt (M147.1 98 12).toInt (M173.1 98 11).toInt (M173.1 98 12).toInt (M173.1 98 6).toInt (by omega) (by omega)
                  have u188R := bu_2 gf gn (M0.1 102 1).toInt gi (M0.1 98 11).toInt (M0.1 98 12).toInt (M0.1 98 11).toInt (M0.1 98 12).toInt (M134.1 98 11).toInt (M134.1 98 12).toInt (M134.1 98 6).toInt (M134.1 98 11).toInt (M134.1 98 12).toInt (M140.1 98 11).toInt (M140.1 98 12).toInt (M140.1 98 6).toInt (M147.1 98 11).toInt (M147.1 98 12).toInt (M173.1 98 11).toInt (M173.1 98 12).toInt (M173.1 98 6).toInt (by omega) rfl rfl (by omega) rfl rfl (by omega) (by omega) (by omega) (by omega)
                  have u188c := ck_i (M173.1 98 11).toInt (M173.1 102 26).toInt (M173.1 102 1).toInt (M173.1 102 0).toInt (M0.1 102 26).toInt ((M0.1 102 1).toInt + 1) (M0.1 102 0).toInt (by omega)
                  have u188t := ct_n (A := AGM) (M := M0) (N := M173) (buC gf gn (M0.1 102 1).toInt gi) (a := (M173.1 98 11).toInt) (by omega)
                  exact hret _ _ _ dX12_readBuyer_106 ⟨hM173, ((FR.rf.tr fM165 (by decide)).tr fM173 (by decide)), by (clear u188E u188K h186 ua184 la184 h177 qM173 bM173 fM173 hM173 h171 ua169 la169 u168B fM165 hM165 ih163 u148t u148L u148w12M145 u148w12M147 u148l u148q11 u148q8 u148q6 u148i u148v pM147 qM147 xM147 hM147 eM147 u146q11 u146q8 u146q6 u146i u146v pM145 qM145 xM145 hM145 eM145 u144l u144v qM140 bM140 h142 fM140 hM140 u138l fM134 hM134 h136 u125l u125v bM120 k124 h122 fM120 hM120 k118 k117 u116l u116v qM113 bM113 h115 fM113 hM113 k111 k110 u109 h108 ua106 la106 h104 ua103 la103 k102 u101l hret C hp6 hp5 hp4 hp3 hp2 hp1 hp0 hpr hM0; omega)⟩
                · refine j_aload_n C 0 0 dX12_readBuyer_96 rfl rfl ?_
                  refine y_getC C 11 102 fX12_readBuyer_24 rfl rfl ft_11_4 sm_11_4 rfl hM173 dX12_readBuyer_97 ?_
                  refine y_iconst C dX12_readBuyer_100 ?_
                  refine j_dup2 C dX12_readBuyer_101 rfl rfl ?_
                  refine y_ialdH C 48 1181 rfl rfl rfl ak_48 an_48 rfl _ _ hM173 (hr_48_1_1 _ (by omega) (by omega)) dX12_readBuyer_102 (by omega) (fun a189 ea189 la189 ua189 => ?_)
                  obtain rfl : a189 = (M173.1 102 1).toInt := ea189
                  refine y_iconst C dX12_readBuyer_103 ?_
                  refine y_iadd C dX12_readBuyer_104 ?_
                  refine y_iastH C 48 1181 rfl rfl rfl ak_48 an_48 rfl _ _ hM173 (PM.w hpr rfl rfl) (hs_48_1_1 _ (by omega) (by omega)) dX12_readBuyer_105 (by omega) (by omega) (fun M190 eM190 hM190 => ?_)
                  have xM190 := tkm_w (f := gf) (n := gn) eM190 (by decide) (by decide) (by omega)
                  have qM190 := po_eq gn ((mkP gf gn) gq166).2.2 (M173.1 98 11).toInt (M173.1 98 6).toInt (M190.1 98 11).toInt (M190.1 98 6).toInt (by omega) (s_fa eM190 (by decide) rfl) (s_fa eM190 (by decide) rfl)
                  have pM190 := pi_o eM190 (by decide) (by decide) (by omega)
                  have u191v := lv_w eM190 (h4b hM173) (by decide) (by omega)
                  have u191i := ri_c (M := M173) (N := M190) (wI_cell eM190 (by decide)) (by omega)
                  have u191q6 : (M190.1 98 6).toInt = (M173.1 98 6).toInt := by rw [show M190.1 98 = M173.1 98 from wI_cell eM190 (by decide)]
                  have u191q8 : (M190.1 98 8).toInt = (M173.1 98 8).toInt := by rw [show M190.1 98 = M173.1 98 from wI_cell eM190 (by decide)]
                  have u191q11 : (M190.1 98 11).toInt = (M173.1 98 11).toInt := by rw [show M190.1 98 = M173.1 98 from wI_cell eM190 (by decide)]
                  have u192w12 : (M190.1 98 12).toInt = (M173.1 98 12).toInt := by rw [show M190.1 98 = M173.1 98 from wI_cell eM190 (by decide)]
                  have zz102_26 : (M190.1 102 26).toInt = (M173.1 102 26).toInt := s_fb eM190 (by decide) (rfl)
                  have zz102_1 : (M190.1 102 1).toInt = ((M173.1 102 1).toInt + 1) := (Eq.trans (rfl : (M190.1 102 1).toInt = (M190.1 102 1).toInt) (s_wr eM190 (by omega)))
                  have zz102_0 : (M190.1 102 0).toInt = (M173.1 102 0).toInt := s_fb eM190 (by decide) (rfl)
                  have u192K := lk_s gn (luP gf gn 1002 1013 (nuP gf gn 0 9)) (mkP gf gn) (mkQ gf gn) (mk_q gf gn) ((nuP gf gn 0 999) (exP gf gn 1001 (nxF gf gn gi)).2.2).2.2 gq166 0 1 (M147.1 98 11).toInt (M147.1 98 12).toInt (M165.1 98 11).toInt (M165.1 98 12).toInt (M165.1 98 6).toInt (M173.1 98 11).toInt (M173.1 98 12).toInt (M173.1 98 6).toInt (M173.1 98 11).toInt (M173.1 98 12).toInt (M173.1 98 6).toInt (b01 ((mkQ gf gn) gq166)) (by omega) (by omega) (by decide) (by omega) rfl rfl rfl rfl
                  have u192E := lk_e gn (luP gf gn 1002 1013 (nuP gf gn 0 9)) (mkP gf gn) (mkQ gf gn) (mk_q gf gn) ((nuP gf gn 0 999) (exP gf gn 1001 (nxF gf gn gi)).2.2).2.2 ((mkP gf gn) gq166).2.2 (0 + 1) (b01 ((mkQ gf gn) gq166)) (M147.1 98 11).toInt (M147.1 98 12).toInt (M173.1 98 11).toInt (M173.1 98 12).toInt (M173.1 98 6).toInt (by omega) (by omega)
                  have u192R := bu_2 gf gn (M0.1 102 1).toInt gi (M0.1 98 11).toInt (M0.1 98 12).toInt (M0.1 98 11).toInt (M0.1 98 12).toInt (M134.1 98 11).toInt (M134.1 98 12).toInt (M134.1 98 6).toInt (M134.1 98 11).toInt (M134.1 98 12).toInt (M140.1 98 11).toInt (M140.1 98 12).toInt (M140.1 98 6).toInt (M147.1 98 11).toInt (M147.1 98 12).toInt (M173.1 98 11).toInt (M173.1 98 12).toInt (M173.1 98 6).toInt (by omega) rfl rfl (by omega) rfl rfl (by omega) (by omega) (by omega) (by omega)
                  have u192r := rr_eq (buP gf gn (M0.1 102 1).toInt gi) (M0.1 98 11).toInt (M0.1 98 12).toInt (M173.1 98 11).toInt (M173.1 98 12).toInt (M173.1 98 6).toInt (M190.1 98 11).toInt (M190.1 98 12).toInt (M190.1 98 6).toInt (by omega) (by omega) (by omega) (by omega)
                  have u192c := ck_i (M190.1 98 11).toInt (M190.1 102 26).toInt (M190.1 102 1).toInt (M190.1 102 0).toInt (M0.1 102 26).toInt ((M0.1 102 1).toInt + 1) (M0.1 102 0).toInt (by omega)
                  have u192E := ltc_f gn (mk_t gf gn (M0.1 102 1).toInt) (show b01 (LTW AGR (M165.1 98 11).toInt (mkT gf gn (M0.1 102 1).toInt) ((nuP gf gn 0 999) (exP gf gn 1001 (nxF gf gn gi)).2.2).2.2 gq166 1 M147 M165) = 1 by omega) (show b01 (PO gn gq166 (M165.1 98 11).toInt (M165.1 98 6).toInt) = 1 by omega) (show b01 (RR ((mkP gf gn) gq166) (M165.1 98 11).toInt (M165.1 98 12).toInt (M173.1 98 11).toInt (M173.1 98 12).toInt (M173.1 98 6).toInt) = 1 by omega) (by omega) (show b01 (CT AGR (M173.1 98 11).toInt M165 M173 (mkC gf gn (M0.1 102 1).toInt gq166)) = 1 by omega)
                  have u192F : b01 (CT AGR (M190.1 98 11).toInt M147 M173 (mkT gf gn (M0.1 102 1).toInt ((nuP gf gn 0 999) (exP gf gn 1001 (nxF gf gn gi)).2.2).2.2)) = 1 := by rw [show (M190.1 98 11).toInt = (M173.1 98 11).toInt by omega]; exact u192E
                  have u192K : b01 (CT AGM (M190.1 98 11).toInt M0 M190 (buC gf gn (M0.1 102 1).toInt gi)) = 1 := bum_x gf gn (x := a143) (M := M0) (M3 := M140) (N := M190) (agr_t (ct_i (show b01 (CT AGR 0 M0 M134 (fun T => T)) = 1 by omega)) (agr_c (FR.cell fM140 (by decide)))) eM145 eM147 u192F (by rw [show (M0.1 102 1).toInt + 1 = ((M173.1 102 1).toInt + 1) by omega]; exact eM190) (by omega) (by have y := lk_z (show b01 (LK (luP gf gn 1002 1013 (nuP gf gn 0 9)) gn ((nuP gf gn 0 999) (exP gf gn 1001 (nxF gf gn gi)).2.2).2.2 gq166 0 1 (M147.1 98 11).toInt (M147.1 98 12).toInt (M165.1 98 11).toInt (M165.1 98 12).toInt (M165.1 98 6).toInt) = 1 by omega) (by omega); omega) rfl rfl
                  have u192t : b01 (CT AGM (M190.1 98 11).toInt M0 M190 (buC gf gn (M0.1 102 1).toInt gi)) = 1 := ct_e u192K (fun z T => by rw [show (M0.1 102 1).toInt = (M0.1 102 1).toInt by omega])
                  have zz102_0 : (M190.1 102 0).toInt = (M173.1 102 0).toInt := s_fb eM190 (by decide) (rfl); have zz102_1 : (M190.1 102 1).toInt = ((M173.1 102 1).toInt + 1) := (Eq.trans (rfl : (M190.1 102 1).toInt = (M190.1 102 1).toInt) (s_wr eM190 (by omega))); have zz102_26 : (M190.1 102 26).toInt = (M173.1 102 26).toInt := s_fb eM190 (by decide) (rfl); have zz98_11 : (M190.1 98 11).toInt = (M173.1 98 11).toInt := s_fa eM190 (by decide) (rfl); have zz98_12 : (M190.1 98 12).toInt = (M173.1 98 12).toInt := s_fa eM190 (by decide) (rfl); have zz98_6 : (M190.1 98 6).toInt = (M173.1 98 6).toInt := s_fa eM190 (by decide) (rfl); have zz98_8 : (M190.1 98 8).toInt = (M173.1 98 8).toInt := s_fa eM190 (by decide) (rfl); exact hret _ _ _ dX12_readBuyer_106 ⟨hM190, (((FR.rf.tr fM165 (by decide)).tr fM173 (by decide)).wI eM190 (by decide)), by (clear zz98_8 zz98_6 zz98_12 zz98_11 zz102_26 zz102_1 zz102_0 u192t u192F u192E u192R u192w12 u191q11 qM190 hM190 eM190 ua189 la189 h186 ua184 la184 h177 qM173 bM173 fM173 hM173 h171 ua169 la169 u168B fM165 hM165 ih163 u148t u148L u148w12M145 u148w12M147 u148l u148q11 u148q8 u148q6 u148i u148v pM147 qM147 xM147 hM147 eM147 u146q11 u146q8 u146q6 u146i u146v pM145 qM145 xM145 hM145 eM145 u144l u144v qM140 bM140 h142 fM140 hM140 u138l fM134 hM134 h136 u125l u125v bM120 k124 h122 fM120 hM120 k118 k117 u116l u116v qM113 bM113 h115 fM113 hM113 k111 k110 u109 h108 ua106 la106 h104 ua103 la103 k102 u101l hret C hp6 hp5 hp4 hp3 hp2 hp1 hp0 hpr hM0; omega)⟩
              · refine j_goto C 71 dX12_readBuyer_86 (by decide) ?_
                have u178l := ri_l (M := M173) (by omega)
                have u178L := lk_w (luP gf gn 1002 1013 (nuP gf gn 0 9)) gn ((nuP gf gn 0 999) (exP gf gn 1001 (nxF gf gn gi)).2.2).2.2 ((mkP gf gn) gq166).2.2 (0 + 1) 0 (b01 ((mkQ gf gn) gq166)) 1 (M147.1 98 11).toInt (M147.1 98 12).toInt (M173.1 98 11).toInt (M173.1 98 12).toInt (M173.1 98 6).toInt (by decide) (by omega) (lk_s gn (luP gf gn 1002 1013 (nuP gf gn 0 9)) (mkP gf gn) (mkQ gf gn) (mk_q gf gn) ((nuP gf gn 0 999) (exP gf gn 1001 (nxF gf gn gi)).2.2).2.2 gq166 0 1 (M147.1 98 11).toInt (M147.1 98 12).toInt (M165.1 98 11).toInt (M165.1 98 12).toInt (M165.1 98 6).toInt (M173.1 98 11).toInt (M173.1 98 12).toInt (M173.1 98 6).toInt (M173.1 98 11).toInt (M173.1 98 12).toInt (M173.1 98 6).toInt (b01 ((mkQ gf gn) gq166)) (by omega) (by omega) (by decide) (by omega) rfl rfl rfl rfl)
                have u178t := ltc_s (A := AGR) gn (m' := 1) (mk_t gf gn (M0.1 102 1).toInt) (show b01 (LTW AGR (M165.1 98 11).toInt (mkT gf gn (M0.1 102 1).toInt) ((nuP gf gn 0 999) (exP gf gn 1001 (nxF gf gn gi)).2.2).2.2 gq166 1 M147 M165) = 1 by omega) (show b01 (PO gn gq166 (M165.1 98 11).toInt (M165.1 98 6).toInt) = 1 by omega) (by decide) (show b01 (RR ((mkP gf gn) gq166) (M165.1 98 11).toInt (M165.1 98 12).toInt (M173.1 98 11).toInt (M173.1 98 12).toInt (M173.1 98 6).toInt) = 1 by omega) (show 1 = b01 (mkQ gf gn gq166) by omega) (show b01 (CT AGR (M173.1 98 11).toInt M165 M173 (mkC gf gn (M0.1 102 1).toInt gq166)) = 1 by omega)
                exact ih163 M173 ((mkP gf gn) gq166).2.2 (by (clear u178l fM173 hM173 h171 ua169 la169 u168B fM165 hM165 ih163 u148t u148L u148w12M145 u148w12M147 u148l u148q11 u148q8 u148q6 u148i u148v pM147 qM147 xM147 hM147 eM147 u146q11 u146q8 u146q6 u146i u146v pM145 qM145 xM145 hM145 eM145 u144l u144v qM140 bM140 h142 fM140 hM140 u138l fM134 hM134 h136 u125l u125v bM120 k124 h122 fM120 hM120 k118 k117 u116l u116v qM113 bM113 h115 fM113 hM113 k111 k110 u109 h108 ua106 la106 h104 ua103 la103 k102 u101l hret C hp6 hp5 hp4 hp3 hp2 hp1 hp0 hpr hM0; omega)) hM173 ((FR.rf.tr fM165 (by decide)).tr fM173 (by decide))
        have zz98_8 : (M147.1 98 8).toInt = (M140.1 98 8).toInt := s_fa eM145 (by decide) (s_fa eM147 (by decide) (rfl)); have zz98_6 : (M147.1 98 6).toInt = (M140.1 98 6).toInt := s_fa eM145 (by decide) (s_fa eM147 (by decide) (rfl)); have zz98_12 : (M147.1 98 12).toInt = (M140.1 98 12).toInt := s_fa eM145 (by decide) (s_fa eM147 (by decide) (rfl)); have zz98_11 : (M147.1 98 11).toInt = (M140.1 98 11).toInt := s_fa eM145 (by decide) (s_fa eM147 (by decide) (rfl)); have zz102_26 : (M147.1 102 26).toInt = (M134.1 102 26).toInt := s_fF fM140 (by decide) (s_fb eM145 (by omega) (s_fb eM147 (by omega) (rfl))); have zz102_1 : (M147.1 102 1).toInt = (M134.1 102 1).toInt := s_fF fM140 (by decide) (s_fb eM145 (by omega) (s_fb eM147 (by omega) (rfl))); have zz102_0 : (M147.1 102 0).toInt = (M134.1 102 0).toInt := s_fF fM140 (by decide) (s_fb eM145 (by omega) (s_fb eM147 (by omega) (rfl))); exact L164 2010 M147 ((nuP gf gn 0 999) (exP gf gn 1001 (nxF gf gn gi)).2.2).2.2 (by (clear zz98_11 zz98_12 zz98_6 zz98_8 L164 u148w12M145 u148w12M147 u148l u148q11 hM147 eM147 u146q11 u146i u146v pM145 qM145 xM145 hM145 eM145 u144l u144v qM140 fM140 hM140 u138l fM134 hM134 u125l u125v bM120 k124 h122 fM120 hM120 k118 k117 u116l u116v qM113 bM113 h115 fM113 hM113 k111 k110 u109 h108 ua106 la106 h104 ua103 la103 k102 u101l hret C hp6 hp5 hp4 hp3 hp2 hp1 hp0 hpr hM0; omega)) hM147 ((((FR.rf.tr fM134 (by decide)).tr fM140 (by decide)).wI eM145 (by decide)).wI eM147 (by decide))
      refine y_if_ne C 44 dX12_readBuyer_36 (by decide) (by omega) (fun h126 => ?_) (fun h126 => ?_)
      · have u127x := ex_1 gf gn 1001 (nxF gf gn gi) (M113.1 98 11).toInt (M113.1 98 12).toInt (M113.1 98 6).toInt (M120.1 98 11).toInt (M120.1 98 12).toInt (M120.1 98 6).toInt (by omega) (by omega) (by omega) (by omega) (by omega) (by omega)
        have u127y := rr_fr (exP gf gn 1001 (nxF gf gn gi)) (M0.1 98 11).toInt (M0.1 98 12).toInt (M113.1 98 11).toInt (M113.1 98 12).toInt (M120.1 98 11).toInt (M120.1 98 12).toInt (M120.1 98 6).toInt (by omega) (by omega) (by omega)
        have u127p := po_rr (exP gf gn 1001) gn (nxF gf gn gi) (M113.1 98 11).toInt (M113.1 98 12).toInt (M113.1 98 6).toInt (M120.1 98 11).toInt (M120.1 98 12).toInt (M120.1 98 6).toInt (ex_g gf gn 1001 (by decide)) (by omega) (by omega)
        have u127I := ct_r (A := AGR) 0 (agr_c ((FR.cell fM120 (by decide)).trans (FR.cell fM113 (by decide))))
        have zz102_26 : (M120.1 102 26).toInt = (M0.1 102 26).toInt := s_fF fM113 (by decide) (s_fF fM120 (by decide) (rfl)); have zz102_1 : (M120.1 102 1).toInt = (M0.1 102 1).toInt := s_fF fM113 (by decide) (s_fF fM120 (by decide) (rfl)); have zz102_0 : (M120.1 102 0).toInt = (M0.1 102 0).toInt := s_fF fM113 (by decide) (s_fF fM120 (by decide) (rfl)); refine j_lv [1, 0] rfl ?_; exact J135 M120 (by omega) hM120 ((FR.rf.tr fM113 (by decide)).tr fM120 (by decide))
      · refine j_aload_n C 1 0 dX12_readBuyer_39 rfl rfl ?_
        refine y_iconst C dX12_readBuyer_40 ?_
        have p128 := po_eq gn (nxF gf gn gi) (M113.1 98 11).toInt (M113.1 98 6).toInt (M120.1 98 11).toInt (M120.1 98 6).toInt (by omega) (by omega) (by omega)
        refine j_callVv C (d := 0) (As := [.int (sI 2)]) (st := []) 98 (s_lt rfl rfl) (s_kc (c := 11) rfl rfl) (by decide) rfl (s1_X12_fails hM120 hpr 2 (by omega) gf gn (nxF gf gn gi) (by omega) (by omega) (by omega) (by omega) (by omega)) gX12_readBuyer_X12_fails rfl hdX12_fails (by decide) (Nat.le_of_ble_eq_true rfl) dX12_readBuyer_41 rfl (fun M130 h131 => ?_)
        obtain ⟨hM130, fM130, h132⟩ := h131
        have bM130 := tkm_b (f := gf) (n := gn) (M := M130) (by omega)
        have qM130 := po_f gn ((faQ gf gn 2) (nxF gf gn gi)).2.2 (M130.1 98 11).toInt (M130.1 98 6).toInt (by omega)
        have u133v := lv_c (M := M120) (N := M130) (FR.cell fM130 (by decide)) (by omega) (by omega)
        have u133l := ri_l (M := M130) (by omega)
        have u133x := ex_2z gf gn 1001 (nxF gf gn gi) (M113.1 98 11).toInt (M113.1 98 12).toInt (M113.1 98 6).toInt (M130.1 98 11).toInt (M130.1 98 12).toInt (M130.1 98 6).toInt (by omega) (by omega) (rr_fr (faQ gf gn 2 (nxF gf gn gi)) (M113.1 98 11).toInt (M113.1 98 12).toInt (M120.1 98 11).toInt (M120.1 98 12).toInt (M130.1 98 11).toInt (M130.1 98 12).toInt (M130.1 98 6).toInt (by omega) (by omega) (by omega))
        have u133y := rr_fr (exP gf gn 1001 (nxF gf gn gi)) (M0.1 98 11).toInt (M0.1 98 12).toInt (M113.1 98 11).toInt (M113.1 98 12).toInt (M130.1 98 11).toInt (M130.1 98 12).toInt (M130.1 98 6).toInt (by omega) (by omega) (by omega)
        have u133p := po_rr (exP gf gn 1001) gn (nxF gf gn gi) (M113.1 98 11).toInt (M113.1 98 12).toInt (M113.1 98 6).toInt (M130.1 98 11).toInt (M130.1 98 12).toInt (M130.1 98 6).toInt (ex_g gf gn 1001 (by decide)) (by omega) (by omega)
        have u133I := ct_r (A := AGR) 0 (agr_c (((FR.cell fM130 (by decide)).trans (FR.cell fM120 (by decide))).trans (FR.cell fM113 (by decide))))
        have zz102_26 : (M130.1 102 26).toInt = (M0.1 102 26).toInt := s_fF fM113 (by decide) (s_fF fM120 (by decide) (s_fF fM130 (by decide) (rfl))); have zz102_1 : (M130.1 102 1).toInt = (M0.1 102 1).toInt := s_fF fM113 (by decide) (s_fF fM120 (by decide) (s_fF fM130 (by decide) (rfl))); have zz102_0 : (M130.1 102 0).toInt = (M0.1 102 0).toInt := s_fF fM113 (by decide) (s_fF fM120 (by decide) (s_fF fM130 (by decide) (rfl))); refine j_lv [1, 0] rfl ?_; exact J135 M130 (by omega) hM130 (((FR.rf.tr fM113 (by decide)).tr fM120 (by decide)).tr fM130 (by decide))
    · have u193r := bu_1 gf gn (M0.1 102 1).toInt gi (M0.1 98 11).toInt (M0.1 98 12).toInt (M0.1 98 11).toInt (M0.1 98 12).toInt (M0.1 98 6).toInt (by omega) (by omega)
      have u193c := ck_i (M0.1 98 11).toInt (M0.1 102 26).toInt (M0.1 102 1).toInt (M0.1 102 0).toInt (M0.1 102 26).toInt ((M0.1 102 1).toInt + 1) (M0.1 102 0).toInt (by omega)
      have u193t := ct_n (A := AGM) (M := M0) (N := M0) (buC gf gn (M0.1 102 1).toInt gi) (a := (M0.1 98 11).toInt) (by omega)
      exact hret _ _ _ dX12_readBuyer_25 ⟨hM0, FR.rf, by omega⟩
  · refine j_aload_n C 1 0 dX12_readBuyer_13 rfl rfl ?_
    refine y_iconst C dX12_readBuyer_14 ?_
    refine j_callVv C (d := 0) (As := [.int (sI 4)]) (st := []) 98 (s_lt rfl rfl) (s_kc (c := 11) rfl rfl) (by decide) rfl (s1_X12_fails hM0 hpr 4 (by omega) gf gn gi (by omega) (by omega) (by omega) (by omega) (by omega)) gX12_readBuyer_X12_fails rfl hdX12_fails (by decide) (Nat.le_of_ble_eq_true rfl) dX12_readBuyer_15 rfl (fun M195 h196 => ?_)
    obtain ⟨hM195, fM195, h197⟩ := h196
    have bM195 := tkm_b (f := gf) (n := gn) (M := M195) (by omega)
    have qM195 := po_f gn ((faQ gf gn 4) gi).2.2 (M195.1 98 11).toInt (M195.1 98 6).toInt (by omega)
    have u198v := lv_c (M := M0) (N := M195) (FR.cell fM195 (by decide)) (by omega) (by omega)
    have u198l := ri_l (M := M195) (by omega)
    refine j_aload_n C 1 0 dX12_readBuyer_18 rfl rfl ?_
    refine y_getI C 11 _ _ fX12_readBuyer_126 rfl rfl ft_11_11 sb_11_11 hM195 dX12_readBuyer_19 (fun a199 ea199 la199 ua199 => ?_)
    obtain rfl : a199 = (M195.1 98 11).toInt := ea199
    refine y_if_eq C 26 dX12_readBuyer_22 (by decide) (by omega) (fun h201 => ?_) (fun h201 => ?_)
    · have u202 : 0 ≤ (M0.1 102 1).toInt ∧ (M0.1 102 1).toInt ≤ 5 := by omega
      refine j_aload_n C 1 0 dX12_readBuyer_26 rfl rfl ?_
      have k203 := tkm_p (f := gf) (n := gn) (M := M195) (by omega)
      have k204 := tkm_K (f := gf) (n := gn) (M := M195) (by omega)
      refine j_callVv C (d := 5) (As := []) (st := []) 98 (s_lt rfl rfl) (s_kc (c := 11) rfl rfl) (by decide) rfl (s1_X12_next hM195 hpr gf gn (by omega) (by omega) (by omega) (by omega)) gX12_readBuyer_X12_next rfl hdX12_next (by decide) (Nat.le_of_ble_eq_true rfl) dX12_readBuyer_27 rfl (fun M206 h207 => ?_)
      obtain ⟨hM206, fM206, h208⟩ := h207
      have bM206 := tkm_b (f := gf) (n := gn) (M := M206) (by omega)
      have qM206 := nx_po (f := gf) (n := gn) (i := ((faQ gf gn 4) gi).2.2) (M := M195) (M' := M206) (by omega) (by omega) (by omega) (by omega) (by omega)
      have u209v := lv_c (M := M195) (N := M206) (FR.cell fM206 (by decide)) (by omega) (by omega)
      have u209l := ri_l (M := M206) (by omega)
      refine j_aload_n C 1 0 dX12_readBuyer_30 rfl rfl ?_
      refine y_bipush C dX12_readBuyer_31 rfl ?_
      have k210 := tkm_K (f := gf) (n := gn) (M := M206) (by omega)
      have k211 := kd_2 (kdk_7 gf gn (M206.1 98 6).toInt) (by omega)
      refine j_callVi C (d := 6) (As := [.int (sI 7)]) (st := []) 98 (s_lt rfl rfl) (s_kc (c := 11) rfl rfl) (by decide) rfl (s1_X12_eats hM206 hpr 7 (by omega) gf gn (nxF gf gn ((faQ gf gn 4) gi).2.2) (by omega) (by omega) (by omega) (by omega) (by omega)) gX12_readBuyer_X12_eats rfl hdX12_eats (by decide) (Nat.le_of_ble_eq_true rfl) dX12_readBuyer_33 rfl (fun r212 M213 h214 => ?_)
      obtain ⟨a216, rfl, hM213, fM213, h215⟩ := h214
      have k217 := tk_c gf gn (M213.1 98 6).toInt (M206.1 98 6).toInt
      have bM213 := tkm_b (f := gf) (n := gn) (M := M213) (by omega)
      have u218v := lv_c (M := M206) (N := M213) (FR.cell fM213 (by decide)) (by omega) (by omega)
      have u218l := ri_l (M := M213) (by omega)
      have J228 : ∀ (M227 : mm_M), ((b01 (RIP M227) = 1) ∧ ((M227.1 98 8).toInt = (M0.1 98 8).toInt) ∧ ((M0.1 98 6).toInt ≤ (M227.1 98 6).toInt) ∧ (b01 (LV M227) = 1) ∧ ((M227.1 102 1).toInt = (M0.1 102 1).toInt) ∧ (b01 (RR (exP gf gn 1001 (nxF gf gn gi)) (M0.1 98 11).toInt (M0.1 98 12).toInt (M227.1 98 11).toInt (M227.1 98 12).toInt (M227.1 98 6).toInt) = 1) ∧ ((M227.1 102 26).toInt = (M0.1 102 26).toInt ∧ (M227.1 102 1).toInt = (M0.1 102 1).toInt ∧ (M227.1 102 0).toInt = (M0.1 102 0).toInt) ∧ (b01 (CT AGR 0 M0 M227 (fun T => T)) = 1) ∧ (b01 (TKM gf gn M227) = 1) ∧ (b01 (PO gn (exP gf gn 1001 (nxF gf gn gi)).2.2 (M227.1 98 11).toInt (M227.1 98 6).toInt) = 1) ∧ (b01 (PI M227) = 1)) → INV pr Kz M227 → FR [98, 102] M0 M227 → jj p l e (cn_R 8) s m args below meth c 0 0 Q 2 dC dI ad cA A M227 44 [(0, .ref (ad 98)), (1, .int (sI (M0.1 102 1).toInt))] [] := by
        intro M227 h229 hM227 fM227
        have u231l := ri_l (M := M227) (by omega)
        refine j_aload_n C 0 0 dX12_readBuyer_44 rfl rfl ?_
        refine y_getC C 11 102 fX12_readBuyer_24 rfl rfl ft_11_4 sm_11_4 rfl hM227 dX12_readBuyer_45 ?_
        refine y_bipush C dX12_readBuyer_48 rfl ?_
        refine j_iload_n C 1 1 dX12_readBuyer_50 rfl rfl ?_
        refine y_iadd C dX12_readBuyer_51 ?_
        refine j_aload_n C 0 0 dX12_readBuyer_52 rfl rfl ?_
        refine y_iconst C dX12_readBuyer_53 ?_
        refine y_sipush C dX12_readBuyer_54 rfl ?_
        refine j_callVi C (d := 6) (As := [.int (sI 0), .int (sI 999)]) (st := [.int (sI (8 + (M0.1 102 1).toInt)), .ref (ad 102)]) 98 (s_lt rfl rfl) (s_kc (c := 11) rfl rfl) (by decide) rfl (s1_X12_takes hM227 hpr 0 (by omega) 999 (by omega) gf gn (exP gf gn 1001 (nxF gf gn gi)).2.2 (by omega) (by omega) (by omega) (by omega) (by omega) (by omega)) gX12_readBuyer_X12_takes rfl hdX12_takes (by decide) (Nat.le_of_ble_eq_true rfl) dX12_readBuyer_57 rfl (fun r232 M233 h234 => ?_)
        obtain ⟨a236, rfl, hM233, fM233, h235⟩ := h234
        have bM233 := tkm_b (f := gf) (n := gn) (M := M233) (by omega)
        have qM233 := po_rr (nuP gf gn 0 999) gn (exP gf gn 1001 (nxF gf gn gi)).2.2 (M227.1 98 11).toInt (M227.1 98 12).toInt (M227.1 98 6).toInt (M233.1 98 11).toInt (M233.1 98 12).toInt (M233.1 98 6).toInt (nu_g gf gn 0 999) (by omega) (by omega)
        have u237v := lv_c (M := M227) (N := M233) (FR.cell fM233 (by decide)) (by omega) (by omega)
        have u237l := ri_l (M := M233) (by omega)
        refine y_iastH C 48 1181 rfl rfl rfl ak_48 an_48 rfl _ _ hM233 (PM.w hpr rfl rfl) (hs_48_8_13 _ (by omega) (by omega)) dX12_readBuyer_60 (by omega) (by omega) (fun M238 eM238 hM238 => ?_)
        have xM238 := tkm_w (f := gf) (n := gn) eM238 (by decide) (by decide) (by omega)
        have qM238 := po_eq gn ((nuP gf gn 0 999) (exP gf gn 1001 (nxF gf gn gi)).2.2).2.2 (M233.1 98 11).toInt (M233.1 98 6).toInt (M238.1 98 11).toInt (M238.1 98 6).toInt (by omega) (s_fa eM238 (by decide) rfl) (s_fa eM238 (by decide) rfl)
        have pM238 := pi_o eM238 (by decide) (by decide) (by omega)
        have u239v := lv_w eM238 (h4b hM233) (by omega) (by omega)
        have u239i := ri_c (M := M233) (N := M238) (wI_cell eM238 (by decide)) (by omega)
        have u239q6 : (M238.1 98 6).toInt = (M233.1 98 6).toInt := by rw [show M238.1 98 = M233.1 98 from wI_cell eM238 (by decide)]
        have u239q8 : (M238.1 98 8).toInt = (M233.1 98 8).toInt := by rw [show M238.1 98 = M233.1 98 from wI_cell eM238 (by decide)]
        have u239q11 : (M238.1 98 11).toInt = (M233.1 98 11).toInt := by rw [show M238.1 98 = M233.1 98 from wI_cell eM238 (by decide)]
        refine j_aload_n C 0 0 dX12_readBuyer_61 rfl rfl ?_
        refine y_getC C 11 102 fX12_readBuyer_24 rfl rfl ft_11_4 sm_11_4 rfl hM238 dX12_readBuyer_62 ?_
        refine y_bipush C dX12_readBuyer_65 rfl ?_
        refine j_iload_n C 1 1 dX12_readBuyer_67 rfl rfl ?_
        refine y_iadd C dX12_readBuyer_68 ?_
        refine y_iconst C dX12_readBuyer_69 ?_
        refine y_iastH C 48 1181 rfl rfl rfl ak_48 an_48 rfl _ _ hM238 (PM.w hpr rfl rfl) (hs_48_20_25 _ (by omega) (by omega)) dX12_readBuyer_70 (by omega) (by omega) (fun M240 eM240 hM240 => ?_)
        have xM240 := tkm_w (f := gf) (n := gn) eM240 (by decide) (by decide) (by omega)
        have qM240 := po_eq gn ((nuP gf gn 0 999) (exP gf gn 1001 (nxF gf gn gi)).2.2).2.2 (M238.1 98 11).toInt (M238.1 98 6).toInt (M240.1 98 11).toInt (M240.1 98 6).toInt (by omega) (s_fa eM240 (by decide) rfl) (s_fa eM240 (by decide) rfl)
        have pM240 := pi_o eM240 (by decide) (by decide) (by omega)
        have u241v := lv_o eM240 (h4b hM238) (by omega) (by omega) (by omega)
        have u241i := ri_c (M := M238) (N := M240) (wI_cell eM240 (by decide)) (by omega)
        have u241q6 : (M240.1 98 6).toInt = (M238.1 98 6).toInt := by rw [show M240.1 98 = M238.1 98 from wI_cell eM240 (by decide)]
        have u241q8 : (M240.1 98 8).toInt = (M238.1 98 8).toInt := by rw [show M240.1 98 = M238.1 98 from wI_cell eM240 (by decide)]
        have u241q11 : (M240.1 98 11).toInt = (M238.1 98 11).toInt := by rw [show M240.1 98 = M238.1 98 from wI_cell eM240 (by decide)]
        have u241l := ri_l (M := M240) (by omega)
        have u241w12M240 : (M240.1 98 12).toInt = (M238.1 98 12).toInt := by rw [show M240.1 98 = M238.1 98 from wI_cell eM240 (by decide)]
        have u241w12M238 : (M238.1 98 12).toInt = (M233.1 98 12).toInt := by rw [show M238.1 98 = M233.1 98 from wI_cell eM238 (by decide)]
        have u241L := lk_0 (luP gf gn 1002 1013 (nuP gf gn 0 9)) gn ((nuP gf gn 0 999) (exP gf gn 1001 (nxF gf gn gi)).2.2).2.2 (M240.1 98 11).toInt (M240.1 98 12).toInt (M240.1 98 6).toInt (by omega)
        have u241t := ltc_0 (A := AGR) (M240.1 98 11).toInt (mkT gf gn (M0.1 102 1).toInt) ((nuP gf gn 0 999) (exP gf gn 1001 (nxF gf gn gi)).2.2).2.2 M240
        have L257 : ∀ (n255 : Nat), ∀ (M258 : mm_M) (gq259 : Int), ((b01 (RIP M258) = 1) ∧ ((M258.1 98 8).toInt = (M0.1 98 8).toInt) ∧ ((M0.1 98 6).toInt ≤ (M258.1 98 6).toInt) ∧ (b01 (LV M258) = 1) ∧ ((M258.1 98 6).toInt ≤ 900) ∧ ((M258.1 102 1).toInt = (M0.1 102 1).toInt) ∧ (b01 (LK (luP gf gn 1002 1013 (nuP gf gn 0 9)) gn ((nuP gf gn 0 999) (exP gf gn 1001 (nxF gf gn gi)).2.2).2.2 gq259 0 1 (M240.1 98 11).toInt (M240.1 98 12).toInt (M258.1 98 11).toInt (M258.1 98 12).toInt (M258.1 98 6).toInt) = 1) ∧ ((M258.1 102 26).toInt = (M0.1 102 26).toInt ∧ (M258.1 102 1).toInt = (M0.1 102 1).toInt ∧ (M258.1 102 0).toInt = (M0.1 102 0).toInt) ∧ (b01 (LTW AGR (M258.1 98 11).toInt (mkT gf gn (M0.1 102 1).toInt) ((nuP gf gn 0 999) (exP gf gn 1001 (nxF gf gn gi)).2.2).2.2 gq259 1 M240 M258) = 1) ∧ (b01 (TKM gf gn M258) = 1) ∧ (b01 (PO gn gq259 (M258.1 98 11).toInt (M258.1 98 6).toInt) = 1) ∧ (b01 (PI M258) = 1) ∧ (900 - (M258.1 98 6).toInt) < (n255 : Int)) → INV pr Kz M258 → FR [98, 102] M0 M258 → jj p l e (cn_R 8) s m args below meth c 0 0 Q 2 dC dI ad cA A M258 71 [(0, .ref (ad 98)), (1, .int (sI (M0.1 102 1).toInt))] [] := by
          intro n255
          induction n255 with
          | zero =>
            intro M258 gq259 h260 hM258 fM258
            exfalso; omega
          | succ n255 ih256 =>
            intro M258 gq259 h260 hM258 fM258
            have u261B := tkm_b (f := gf) (n := gn) (M := M258) (by omega)
            refine j_aload_n C 0 0 dX12_readBuyer_71 rfl rfl ?_
            refine y_getI C 11 _ _ fX12_readBuyer_126 rfl rfl ft_11_11 sb_11_11 hM258 dX12_readBuyer_72 (fun a262 ea262 la262 ua262 => ?_)
            obtain rfl : a262 = (M258.1 98 11).toInt := ea262
            refine y_if_ne C 89 dX12_readBuyer_75 (by decide) (by omega) (fun h264 => ?_) (fun h264 => ?_)
            · refine j_aload_n C 0 0 dX12_readBuyer_89 rfl rfl ?_
              refine y_getI C 11 _ _ fX12_readBuyer_126 rfl rfl ft_11_11 sb_11_11 hM258 dX12_readBuyer_90 (fun a272 ea272 la272 ua272 => ?_)
              obtain rfl : a272 = (M258.1 98 11).toInt := ea272
              refine y_if_ne C 106 dX12_readBuyer_93 (by decide) (by omega) (fun h274 => ?_) (fun h274 => ?_)
              · have u276E := lk_e gn (luP gf gn 1002 1013 (nuP gf gn 0 9)) (mkP gf gn) (mkQ gf gn) (mk_q gf gn) ((nuP gf gn 0 999) (exP gf gn 1001 (nxF gf gn gi)).2.2).2.2 gq259 0 1 (M240.1 98 11).toInt (M240.1 98 12).toInt (M258.1 98 11).toInt (M258.1 98 12).toInt (M258.1 98 6).toInt (by omega) (by omega)
                have u276R := bu_2 gf gn (M0.1 102 1).toInt gi (M0.1 98 11).toInt (M0.1 98 12).toInt (M0.1 98 11).toInt (M0.1 98 12).toInt (M227.1 98 11).toInt (M227.1 98 12).toInt (M227.1 98 6).toInt (M227.1 98 11).toInt (M227.1 98 12).toInt (M233.1 98 11).toInt (M233.1 98 12).toInt (M233.1 98 6).toInt (M240.1 98 11).toInt (M240.1 98 12).toInt (M258.1 98 11).toInt (M258.1 98 12).toInt (M258.1 98 6).toInt (by omega) rfl rfl (by omega) rfl rfl (by omega) (by omega) (by omega) (by omega)
                have u276c := ck_i (M258.1 98 11).toInt (M258.1 102 26).toInt (M258.1 102 1).toInt (M258.1 102 0).toInt (M0.1 102 26).toInt ((M0.1 102 1).toInt + 1) (M0.1 102 0).toInt (by omega)
                have u276t := ct_n (A := AGM) (M := M0) (N := M258) (buC gf gn (M0.1 102 1).toInt gi) (a := (M258.1 98 11).toInt) (by omega)
                exact hret _ _ _ dX12_readBuyer_106 ⟨hM258, (FR.rf.tr fM258 (by decide)), by omega⟩
              · exfalso; omega
            · refine j_aload_n C 0 0 dX12_readBuyer_78 rfl rfl ?_
              refine j_iload_n C 1 1 dX12_readBuyer_79 rfl rfl ?_
              refine j_callVi C (d := 7) (As := [.int (sI (M0.1 102 1).toInt)]) (st := []) 98 (s_lt rfl rfl) (s_kc (c := 11) rfl rfl) (by decide) rfl (s1_X12_readMark hM258 hpr (M0.1 102 1).toInt (by omega) gf gn gq259 (by omega) (by omega) (by omega) (by omega) (by omega) (by omega) (by omega)) gX12_readBuyer_X12_readMark rfl hdX12_readMark (by decide) (Nat.le_of_ble_eq_true rfl) dX12_readBuyer_80 rfl (fun r265 M266 h267 => ?_)
              obtain ⟨a269, rfl, hM266, fM266, h268⟩ := h267
              have bM266 := tkm_b (f := gf) (n := gn) (M := M266) (by omega)
              have qM266 := po_rh (mkP gf gn) gn gq259 (M258.1 98 11).toInt (M258.1 98 12).toInt (M258.1 98 6).toInt (M266.1 98 11).toInt (M266.1 98 12).toInt (M266.1 98 6).toInt (mk_h gf gn) (by omega) (by omega)
              refine y_if_eq C 89 dX12_readBuyer_83 (by decide) (by omega) (fun h270 => ?_) (fun h270 => ?_)
              · refine j_aload_n C 0 0 dX12_readBuyer_89 rfl rfl ?_
                refine y_getI C 11 _ _ fX12_readBuyer_126 rfl rfl ft_11_11 sb_11_11 hM266 dX12_readBuyer_90 (fun a277 ea277 la277 ua277 => ?_)
                obtain rfl : a277 = (M266.1 98 11).toInt := ea277
                refine y_if_ne C 106 dX12_readBuyer_93 (by decide) (by omega) (fun h279 => ?_) (fun h279 => ?_)
                · have u281K := lk_s gn (luP gf gn 1002 1013 (nuP gf gn 0 9)) (mkP gf gn) (mkQ gf gn) (mk_q gf gn) ((nuP gf gn 0 999) (exP gf gn 1001 (nxF gf gn gi)).2.2).2.2 gq259 0 1 (M240.1 98 11).toInt (M240.1 98 12).toInt (M258.1 98 11).toInt (M258.1 98 12).toInt (M258.1 98 6).toInt (M266.1 98 11).toInt (M266.1 98 12).toInt (M266.1 98 6).toInt (M266.1 98 11).toInt (M266.1 98 12).toInt (M266.1 98 6).toInt (b01 ((mkQ gf gn) gq259)) (by omega) (by omega) (by decide) (by omega) rfl rfl rfl rfl
                  have u281E := lk_e gn (luP gf gn 1002 1013 (nuP gf gn 0 9)) (mkP gf gn) (mkQ gf gn) (mk_q gf gn) ((nuP gf gn 0 999) (exP gf gn 1001 (nxF gf gn gi)).2.2).2.2 ((mkP gf gn) gq259).2.2 (0 + 1) (b01 ((mkQ gf gn) gq259)) (M240.1 98 11).toInt (M240.1 98 12).toInt (M266.1 98 11).toInt (M266.1 98 12).toInt (M266.1 98 6).toInt (by omega) (by omega)
                  have u281R := bu_2 gf gn (M0.1 102 1).toInt gi (M0.1 98 11).toInt (M0.1 98 12).toInt (M0.1 98 11).toInt (M0.1 98 12).toInt (M227.1 98 11).toInt (M227.1 98 12).toInt (M227.1 98 6).toInt (M227.1 98 11).toInt (M227.1 98 12).toInt (M233.1 98 11).toInt (M233.1 98 12).toInt (M233.1 98 6).toInt (M240.1 98 11).toInt (M240.1 98 12).toInt (M266.1 98 11).toInt (M266.1 98 12).toInt (M266.1 98 6).toInt (by omega) rfl rfl (by omega) rfl rfl (by omega) (by omega) (by omega) (by omega)
                  have u281c := ck_i (M266.1 98 11).toInt (M266.1 102 26).toInt (M266.1 102 1).toInt (M266.1 102 0).toInt (M0.1 102 26).toInt ((M0.1 102 1).toInt + 1) (M0.1 102 0).toInt (by omega)
                  have u281t := ct_n (A := AGM) (M := M0) (N := M266) (buC gf gn (M0.1 102 1).toInt gi) (a := (M266.1 98 11).toInt) (by omega)
                  exact hret _ _ _ dX12_readBuyer_106 ⟨hM266, ((FR.rf.tr fM258 (by decide)).tr fM266 (by decide)), by omega⟩
                · refine j_aload_n C 0 0 dX12_readBuyer_96 rfl rfl ?_
                  refine y_getC C 11 102 fX12_readBuyer_24 rfl rfl ft_11_4 sm_11_4 rfl hM266 dX12_readBuyer_97 ?_
                  refine y_iconst C dX12_readBuyer_100 ?_
                  refine j_dup2 C dX12_readBuyer_101 rfl rfl ?_
                  refine y_ialdH C 48 1181 rfl rfl rfl ak_48 an_48 rfl _ _ hM266 (hr_48_1_1 _ (by omega) (by omega)) dX12_readBuyer_102 (by omega) (fun a282 ea282 la282 ua282 => ?_)
                  obtain rfl : a282 = (M266.1 102 1).toInt := ea282
                  refine y_iconst C dX12_readBuyer_103 ?_
                  refine y_iadd C dX12_readBuyer_104 ?_
                  refine y_iastH C 48 1181 rfl rfl rfl ak_48 an_48 rfl _ _ hM266 (PM.w hpr rfl rfl) (hs_48_1_1 _ (by omega) (by omega)) dX12_readBuyer_105 (by omega) (by omega) (fun M283 eM283 hM283 => ?_)
                  have xM283 := tkm_w (f := gf) (n := gn) eM283 (by decide) (by decide) (by omega)
                  have qM283 := po_eq gn ((mkP gf gn) gq259).2.2 (M266.1 98 11).toInt (M266.1 98 6).toInt (M283.1 98 11).toInt (M283.1 98 6).toInt (by omega) (s_fa eM283 (by decide) rfl) (s_fa eM283 (by decide) rfl)
                  have pM283 := pi_o eM283 (by decide) (by decide) (by omega)
                  have u284v := lv_w eM283 (h4b hM266) (by decide) (by omega)
                  have u284i := ri_c (M := M266) (N := M283) (wI_cell eM283 (by decide)) (by omega)
                  have u284q6 : (M283.1 98 6).toInt = (M266.1 98 6).toInt := by rw [show M283.1 98 = M266.1 98 from wI_cell eM283 (by decide)]
                  have u284q8 : (M283.1 98 8).toInt = (M266.1 98 8).toInt := by rw [show M283.1 98 = M266.1 98 from wI_cell eM283 (by decide)]
                  have u284q11 : (M283.1 98 11).toInt = (M266.1 98 11).toInt := by rw [show M283.1 98 = M266.1 98 from wI_cell eM283 (by decide)]
                  have u285w12 : (M283.1 98 12).toInt = (M266.1 98 12).toInt := by rw [show M283.1 98 = M266.1 98 from wI_cell eM283 (by decide)]
                  have zz102_26 : (M283.1 102 26).toInt = (M266.1 102 26).toInt := s_fb eM283 (by decide) (rfl)
                  have zz102_1 : (M283.1 102 1).toInt = ((M266.1 102 1).toInt + 1) := (Eq.trans (rfl : (M283.1 102 1).toInt = (M283.1 102 1).toInt) (s_wr eM283 (by omega)))
                  have zz102_0 : (M283.1 102 0).toInt = (M266.1 102 0).toInt := s_fb eM283 (by decide) (rfl)
                  have u285K := lk_s gn (luP gf gn 1002 1013 (nuP gf gn 0 9)) (mkP gf gn) (mkQ gf gn) (mk_q gf gn) ((nuP gf gn 0 999) (exP gf gn 1001 (nxF gf gn gi)).2.2).2.2 gq259 0 1 (M240.1 98 11).toInt (M240.1 98 12).toInt (M258.1 98 11).toInt (M258.1 98 12).toInt (M258.1 98 6).toInt (M266.1 98 11).toInt (M266.1 98 12).toInt (M266.1 98 6).toInt (M266.1 98 11).toInt (M266.1 98 12).toInt (M266.1 98 6).toInt (b01 ((mkQ gf gn) gq259)) (by omega) (by omega) (by decide) (by omega) rfl rfl rfl rfl
                  have u285E := lk_e gn (luP gf gn 1002 1013 (nuP gf gn 0 9)) (mkP gf gn) (mkQ gf gn) (mk_q gf gn) ((nuP gf gn 0 999) (exP gf gn 1001 (nxF gf gn gi)).2.2).2.2 ((mkP gf gn) gq259).2.2 (0 + 1) (b01 ((mkQ gf gn) gq259)) (M240.1 98 11).toInt (M240.1 98 12).toInt (M266.1 98 11).toInt (M266.1 98 12).toInt (M266.1 98 6).toInt (by omega) (by omega)
                  have u285R := bu_2 gf gn (M0.1 102 1).toInt gi (M0.1 98 11).toInt (M0.1 98 12).toInt (M0.1 98 11).toInt (M0.1 98 12).toInt (M227.1 98 11).toInt (M227.1 98 12).toInt (M227.1 98 6).toInt (M227.1 98 11).toInt (M227.1 98 12).toInt (M233.1 98 11).toInt (M233.1 98 12).toInt (M233.1 98 6).toInt (M240.1 98 11).toInt (M240.1 98 12).toInt (M266.1 98 11).toInt (M266.1 98 12).toInt (M266.1 98 6).toInt (by omega) rfl rfl (by omega) rfl rfl (by omega) (by omega) (by omega) (by omega)
                  have u285r := rr_eq (buP gf gn (M0.1 102 1).toInt gi) (M0.1 98 11).toInt (M0.1 98 12).toInt (M266.1 98 11).toInt (M266.1 98 12).toInt (M266.1 98 6).toInt (M283.1 98 11).toInt (M283.1 98 12).toInt (M283.1 98 6).toInt (by omega) (by omega) (by omega) (by omega)
                  have u285c := ck_i (M283.1 98 11).toInt (M283.1 102 26).toInt (M283.1 102 1).toInt (M283.1 102 0).toInt (M0.1 102 26).toInt ((M0.1 102 1).toInt + 1) (M0.1 102 0).toInt (by omega)
                  have u285E := ltc_f gn (mk_t gf gn (M0.1 102 1).toInt) (show b01 (LTW AGR (M258.1 98 11).toInt (mkT gf gn (M0.1 102 1).toInt) ((nuP gf gn 0 999) (exP gf gn 1001 (nxF gf gn gi)).2.2).2.2 gq259 1 M240 M258) = 1 by omega) (show b01 (PO gn gq259 (M258.1 98 11).toInt (M258.1 98 6).toInt) = 1 by omega) (show b01 (RR ((mkP gf gn) gq259) (M258.1 98 11).toInt (M258.1 98 12).toInt (M266.1 98 11).toInt (M266.1 98 12).toInt (M266.1 98 6).toInt) = 1 by omega) (by omega) (show b01 (CT AGR (M266.1 98 11).toInt M258 M266 (mkC gf gn (M0.1 102 1).toInt gq259)) = 1 by omega)
                  have u285F : b01 (CT AGR (M283.1 98 11).toInt M240 M266 (mkT gf gn (M0.1 102 1).toInt ((nuP gf gn 0 999) (exP gf gn 1001 (nxF gf gn gi)).2.2).2.2)) = 1 := by rw [show (M283.1 98 11).toInt = (M266.1 98 11).toInt by omega]; exact u285E
                  have u285K : b01 (CT AGM (M283.1 98 11).toInt M0 M283 (buC gf gn (M0.1 102 1).toInt gi)) = 1 := bum_x gf gn (x := a236) (M := M0) (M3 := M233) (N := M283) (agr_t (ct_i (show b01 (CT AGR 0 M0 M227 (fun T => T)) = 1 by omega)) (agr_c (FR.cell fM233 (by decide)))) eM238 eM240 u285F (by rw [show (M0.1 102 1).toInt + 1 = ((M266.1 102 1).toInt + 1) by omega]; exact eM283) (by omega) (by have y := lk_z (show b01 (LK (luP gf gn 1002 1013 (nuP gf gn 0 9)) gn ((nuP gf gn 0 999) (exP gf gn 1001 (nxF gf gn gi)).2.2).2.2 gq259 0 1 (M240.1 98 11).toInt (M240.1 98 12).toInt (M258.1 98 11).toInt (M258.1 98 12).toInt (M258.1 98 6).toInt) = 1 by omega) (by omega); omega) rfl rfl
                  have u285t : b01 (CT AGM (M283.1 98 11).toInt M0 M283 (buC gf gn (M0.1 102 1).toInt gi)) = 1 := ct_e u285K (fun z T => by rw [show (M0.1 102 1).toInt = (M0.1 102 1).toInt by omega])
                  have zz102_0 : (M283.1 102 0).toInt = (M266.1 102 0).toInt := s_fb eM283 (by decide) (rfl); have zz102_1 : (M283.1 102 1).toInt = ((M266.1 102 1).toInt + 1) := (Eq.trans (rfl : (M283.1 102 1).toInt = (M283.1 102 1).toInt) (s_wr eM283 (by omega))); have zz102_26 : (M283.1 102 26).toInt = (M266.1 102 26).toInt := s_fb eM283 (by decide) (rfl); have zz98_11 : (M283.1 98 11).toInt = (M266.1 98 11).toInt := s_fa eM283 (by decide) (rfl); have zz98_12 : (M283.1 98 12).toInt = (M266.1 98 12).toInt := s_fa eM283 (by decide) (rfl); have zz98_6 : (M283.1 98 6).toInt = (M266.1 98 6).toInt := s_fa eM283 (by decide) (rfl); have zz98_8 : (M283.1 98 8).toInt = (M266.1 98 8).toInt := s_fa eM283 (by decide) (rfl); exact hret _ _ _ dX12_readBuyer_106 ⟨hM283, (((FR.rf.tr fM258 (by decide)).tr fM266 (by decide)).wI eM283 (by decide)), by omega⟩
              · refine j_goto C 71 dX12_readBuyer_86 (by decide) ?_
                have u271l := ri_l (M := M266) (by omega)
                have u271L := lk_w (luP gf gn 1002 1013 (nuP gf gn 0 9)) gn ((nuP gf gn 0 999) (exP gf gn 1001 (nxF gf gn gi)).2.2).2.2 ((mkP gf gn) gq259).2.2 (0 + 1) 0 (b01 ((mkQ gf gn) gq259)) 1 (M240.1 98 11).toInt (M240.1 98 12).toInt (M266.1 98 11).toInt (M266.1 98 12).toInt (M266.1 98 6).toInt (by decide) (by omega) (lk_s gn (luP gf gn 1002 1013 (nuP gf gn 0 9)) (mkP gf gn) (mkQ gf gn) (mk_q gf gn) ((nuP gf gn 0 999) (exP gf gn 1001 (nxF gf gn gi)).2.2).2.2 gq259 0 1 (M240.1 98 11).toInt (M240.1 98 12).toInt (M258.1 98 11).toInt (M258.1 98 12).toInt (M258.1 98 6).toInt (M266.1 98 11).toInt (M266.1 98 12).toInt (M266.1 98 6).toInt (M266.1 98 11).toInt (M266.1 98 12).toInt (M266.1 98 6).toInt (b01 ((mkQ gf gn) gq259)) (by omega) (by omega) (by decide) (by omega) rfl rfl rfl rfl)
                have u271t := ltc_s (A := AGR) gn (m' := 1) (mk_t gf gn (M0.1 102 1).toInt) (show b01 (LTW AGR (M258.1 98 11).toInt (mkT gf gn (M0.1 102 1).toInt) ((nuP gf gn 0 999) (exP gf gn 1001 (nxF gf gn gi)).2.2).2.2 gq259 1 M240 M258) = 1 by omega) (show b01 (PO gn gq259 (M258.1 98 11).toInt (M258.1 98 6).toInt) = 1 by omega) (by decide) (show b01 (RR ((mkP gf gn) gq259) (M258.1 98 11).toInt (M258.1 98 12).toInt (M266.1 98 11).toInt (M266.1 98 12).toInt (M266.1 98 6).toInt) = 1 by omega) (show 1 = b01 (mkQ gf gn gq259) by omega) (show b01 (CT AGR (M266.1 98 11).toInt M258 M266 (mkC gf gn (M0.1 102 1).toInt gq259)) = 1 by omega)
                exact ih256 M266 ((mkP gf gn) gq259).2.2 (by omega) hM266 ((FR.rf.tr fM258 (by decide)).tr fM266 (by decide))
        have zz98_8 : (M240.1 98 8).toInt = (M233.1 98 8).toInt := s_fa eM238 (by decide) (s_fa eM240 (by decide) (rfl)); have zz98_6 : (M240.1 98 6).toInt = (M233.1 98 6).toInt := s_fa eM238 (by decide) (s_fa eM240 (by decide) (rfl)); have zz98_12 : (M240.1 98 12).toInt = (M233.1 98 12).toInt := s_fa eM238 (by decide) (s_fa eM240 (by decide) (rfl)); have zz98_11 : (M240.1 98 11).toInt = (M233.1 98 11).toInt := s_fa eM238 (by decide) (s_fa eM240 (by decide) (rfl)); have zz102_26 : (M240.1 102 26).toInt = (M227.1 102 26).toInt := s_fF fM233 (by decide) (s_fb eM238 (by omega) (s_fb eM240 (by omega) (rfl))); have zz102_1 : (M240.1 102 1).toInt = (M227.1 102 1).toInt := s_fF fM233 (by decide) (s_fb eM238 (by omega) (s_fb eM240 (by omega) (rfl))); have zz102_0 : (M240.1 102 0).toInt = (M227.1 102 0).toInt := s_fF fM233 (by decide) (s_fb eM238 (by omega) (s_fb eM240 (by omega) (rfl))); exact L257 2010 M240 ((nuP gf gn 0 999) (exP gf gn 1001 (nxF gf gn gi)).2.2).2.2 (by omega) hM240 ((((FR.rf.tr fM227 (by decide)).tr fM233 (by decide)).wI eM238 (by decide)).wI eM240 (by decide))
      refine y_if_ne C 44 dX12_readBuyer_36 (by decide) (by omega) (fun h219 => ?_) (fun h219 => ?_)
      · have u220x := ex_1 gf gn 1001 (nxF gf gn ((faQ gf gn 4) gi).2.2) (M206.1 98 11).toInt (M206.1 98 12).toInt (M206.1 98 6).toInt (M213.1 98 11).toInt (M213.1 98 12).toInt (M213.1 98 6).toInt (by omega) (by omega) (by omega) (by omega) (by omega) (by omega)
        have u220y := rr_fr (exP gf gn 1001 (nxF gf gn gi)) (M0.1 98 11).toInt (M0.1 98 12).toInt (M206.1 98 11).toInt (M206.1 98 12).toInt (M213.1 98 11).toInt (M213.1 98 12).toInt (M213.1 98 6).toInt (by omega) (by omega) (by omega)
        have u220p := po_rr (exP gf gn 1001) gn (nxF gf gn gi) (M206.1 98 11).toInt (M206.1 98 12).toInt (M206.1 98 6).toInt (M213.1 98 11).toInt (M213.1 98 12).toInt (M213.1 98 6).toInt (ex_g gf gn 1001 (by decide)) (by omega) (by omega)
        have u220I := ct_r (A := AGR) 0 (agr_c (((FR.cell fM213 (by decide)).trans (FR.cell fM206 (by decide))).trans (FR.cell fM195 (by decide))))
        have zz102_26 : (M213.1 102 26).toInt = (M0.1 102 26).toInt := s_fF fM195 (by decide) (s_fF fM206 (by decide) (s_fF fM213 (by decide) (rfl))); have zz102_1 : (M213.1 102 1).toInt = (M0.1 102 1).toInt := s_fF fM195 (by decide) (s_fF fM206 (by decide) (s_fF fM213 (by decide) (rfl))); have zz102_0 : (M213.1 102 0).toInt = (M0.1 102 0).toInt := s_fF fM195 (by decide) (s_fF fM206 (by decide) (s_fF fM213 (by decide) (rfl))); refine j_lv [1, 0] rfl ?_; exact J228 M213 (by omega) hM213 (((FR.rf.tr fM195 (by decide)).tr fM206 (by decide)).tr fM213 (by decide))
      · refine j_aload_n C 1 0 dX12_readBuyer_39 rfl rfl ?_
        refine y_iconst C dX12_readBuyer_40 ?_
        have p221 := po_eq gn (nxF gf gn ((faQ gf gn 4) gi).2.2) (M206.1 98 11).toInt (M206.1 98 6).toInt (M213.1 98 11).toInt (M213.1 98 6).toInt (by omega) (by omega) (by omega)
        refine j_callVv C (d := 0) (As := [.int (sI 2)]) (st := []) 98 (s_lt rfl rfl) (s_kc (c := 11) rfl rfl) (by decide) rfl (s1_X12_fails hM213 hpr 2 (by omega) gf gn (nxF gf gn ((faQ gf gn 4) gi).2.2) (by omega) (by omega) (by omega) (by omega) (by omega)) gX12_readBuyer_X12_fails rfl hdX12_fails (by decide) (Nat.le_of_ble_eq_true rfl) dX12_readBuyer_41 rfl (fun M223 h224 => ?_)
        obtain ⟨hM223, fM223, h225⟩ := h224
        have bM223 := tkm_b (f := gf) (n := gn) (M := M223) (by omega)
        have qM223 := po_f gn ((faQ gf gn 2) (nxF gf gn ((faQ gf gn 4) gi).2.2)).2.2 (M223.1 98 11).toInt (M223.1 98 6).toInt (by omega)
        have u226v := lv_c (M := M213) (N := M223) (FR.cell fM223 (by decide)) (by omega) (by omega)
        have u226l := ri_l (M := M223) (by omega)
        have u226x := ex_2z gf gn 1001 (nxF gf gn ((faQ gf gn 4) gi).2.2) (M206.1 98 11).toInt (M206.1 98 12).toInt (M206.1 98 6).toInt (M223.1 98 11).toInt (M223.1 98 12).toInt (M223.1 98 6).toInt (by omega) (by omega) (rr_fr (faQ gf gn 2 (nxF gf gn ((faQ gf gn 4) gi).2.2)) (M206.1 98 11).toInt (M206.1 98 12).toInt (M213.1 98 11).toInt (M213.1 98 12).toInt (M223.1 98 11).toInt (M223.1 98 12).toInt (M223.1 98 6).toInt (by omega) (by omega) (by omega))
        have u226y := rr_fr (exP gf gn 1001 (nxF gf gn gi)) (M0.1 98 11).toInt (M0.1 98 12).toInt (M206.1 98 11).toInt (M206.1 98 12).toInt (M223.1 98 11).toInt (M223.1 98 12).toInt (M223.1 98 6).toInt (by omega) (by omega) (by omega)
        have u226p := po_rr (exP gf gn 1001) gn (nxF gf gn gi) (M206.1 98 11).toInt (M206.1 98 12).toInt (M206.1 98 6).toInt (M223.1 98 11).toInt (M223.1 98 12).toInt (M223.1 98 6).toInt (ex_g gf gn 1001 (by decide)) (by omega) (by omega)
        have u226I := ct_r (A := AGR) 0 (agr_c ((((FR.cell fM223 (by decide)).trans (FR.cell fM213 (by decide))).trans (FR.cell fM206 (by decide))).trans (FR.cell fM195 (by decide))))
        have zz102_26 : (M223.1 102 26).toInt = (M0.1 102 26).toInt := s_fF fM195 (by decide) (s_fF fM206 (by decide) (s_fF fM213 (by decide) (s_fF fM223 (by decide) (rfl)))); have zz102_1 : (M223.1 102 1).toInt = (M0.1 102 1).toInt := s_fF fM195 (by decide) (s_fF fM206 (by decide) (s_fF fM213 (by decide) (s_fF fM223 (by decide) (rfl)))); have zz102_0 : (M223.1 102 0).toInt = (M0.1 102 0).toInt := s_fF fM195 (by decide) (s_fF fM206 (by decide) (s_fF fM213 (by decide) (s_fF fM223 (by decide) (rfl)))); refine j_lv [1, 0] rfl ?_; exact J228 M223 (by omega) hM223 ((((FR.rf.tr fM195 (by decide)).tr fM206 (by decide)).tr fM213 (by decide)).tr fM223 (by decide))
    · have u286r := bu_1 gf gn (M0.1 102 1).toInt gi (M0.1 98 11).toInt (M0.1 98 12).toInt (M195.1 98 11).toInt (M195.1 98 12).toInt (M195.1 98 6).toInt (by omega) (by omega)
      have u286c := ck_i (M195.1 98 11).toInt (M195.1 102 26).toInt (M195.1 102 1).toInt (M195.1 102 0).toInt (M0.1 102 26).toInt ((M0.1 102 1).toInt + 1) (M0.1 102 0).toInt (by omega)
      have u286t := ct_n (A := AGM) (M := M0) (N := M195) (buC gf gn (M0.1 102 1).toInt gi) (a := (M195.1 98 11).toInt) (by omega)
      have zz102_0 : (M195.1 102 0).toInt = (M0.1 102 0).toInt := s_fF fM195 (by decide) (rfl); have zz102_1 : (M195.1 102 1).toInt = (M0.1 102 1).toInt := s_fF fM195 (by decide) (rfl); have zz102_26 : (M195.1 102 26).toInt = (M0.1 102 26).toInt := s_fF fM195 (by decide) (rfl); exact hret _ _ _ dX12_readBuyer_25 ⟨hM195, (FR.rf.tr fM195 (by decide)), by omega⟩
