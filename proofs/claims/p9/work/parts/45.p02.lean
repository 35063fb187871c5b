set_option maxHeartbeats 4000000 in
theorem s3_X12_readTerm {l : Launch} {dC : Nat → ClassId} {dI : Nat → Nat → Nat} {ad : Nat → Nat} {cA : Nat → ClassId} {pr : Nat → Nat → Bool} {Kz : mm_M} {M0 : mm_M} (hM0 : INV pr Kz M0) (hpr : PM pr) (gf : Nat → Int) (gn : Int) (gi : Int) (hp0 : b01 (RIP M0) = 1) (hp1 : b01 (CA M0) = 1) (hp2 : b01 (TKM gf gn M0) = 1) (hp3 : b01 (PO gn gi (M0.1 98 11).toInt (M0.1 98 6).toInt) = 1) (hp4 : b01 (PI M0) = 1) : Cv l 14 yX12_readTerm wsX12_readTerm dC dI ad cA [.ref (ad 98), .int (sI 4)] M0 (fun M' => INV pr Kz M' ∧ FR [98, 102] M0 M' ∧ (b01 (RIP M') = 1) ∧ ((M'.1 98 8).toInt = (M0.1 98 8).toInt) ∧ ((M0.1 98 6).toInt ≤ (M'.1 98 6).toInt) ∧ (b01 (XW M0 M' 0 1 0) = 1) ∧ (b01 (CA M') = 1) ∧ (b01 (CL AGR (M'.1 98 11).toInt M0 M' ((teL gf gn false (suR gf gn 1) (sLR gf gn 1)) gi)) = 1) ∧ (b01 (PI M') = 1) ∧ (b01 (TKM gf gn M') = 1) ∧ b01 (RR ((teP gf gn false (suR gf gn 1)) gi) (M0.1 98 11).toInt (M0.1 98 12).toInt (M'.1 98 11).toInt (M'.1 98 12).toInt (M'.1 98 6).toInt) = 1) := by
  refine cv_of (cc := cX12_readTerm) (maxL := 2) (lv := [(0, .ref (ad 98)), (1, .int (sI 4))]) (by decide) rfl (Nat.le_of_ble_eq_true rfl) rfl ?_
  intro p e s m args below meth c A Q C hret
  have u101z := xw_0 M0
  have u101l := ri_l (M := M0) (by omega)
  refine j_aload_n C 0 0 dX12_readTerm_0 rfl rfl ?_
  refine j_iload_n C 1 1 dX12_readTerm_1 rfl rfl ?_
  refine j_callVv C (d := 13) (As := [.int (sI 4)]) (st := []) 98 (s_lt rfl rfl) (s_kc (c := 11) rfl rfl) (by decide) rfl (s3_X12_readAtom hM0 hpr gf gn gi (by omega) (by omega) (by omega) (by omega) (by omega)) gX12_readTerm_X12_readAtom rfl hdX12_readAtom (by decide) (Nat.le_of_ble_eq_true rfl) dX12_readTerm_2 rfl (fun M103 h104 => ?_)
  obtain ⟨hM103, fM103, h105⟩ := h104
  have bM103 := tkm_b (f := gf) (n := gn) (M := M103) (by omega)
  have qM103 := po_rr (atP gf gn false (suR gf gn 1)) gn gi (M0.1 98 11).toInt (M0.1 98 12).toInt (M0.1 98 6).toInt (M103.1 98 11).toInt (M103.1 98 12).toInt (M103.1 98 6).toInt (at_g gf gn (fun _ => suR_g gf gn 1)) (by omega) (by omega)
  have u106l := ri_l (M := M103) (by omega)
  have u106L := ll_0 (luP gf gn 2042 2042 (atP gf gn false (suR gf gn 1))) gn ((atP gf gn false (suR gf gn 1)) gi).2.2 (M103.1 98 11).toInt (M103.1 98 12).toInt (M103.1 98 6).toInt (by omega)
  have u106c := lc_0 (A := AGR) (M103.1 98 11).toInt (luL gf gn 2042 2042 (atP gf gn false (suR gf gn 1)) (atL gf gn false (sLR gf gn 1))) ((atP gf gn false (suR gf gn 1)) gi).2.2 M103
  have L133 : ∀ (n131 : Nat), ∀ (M134 : mm_M) (gq135 : Int), ((b01 (RIP M134) = 1) ∧ ((M134.1 98 8).toInt = (M0.1 98 8).toInt) ∧ ((M0.1 98 6).toInt ≤ (M134.1 98 6).toInt) ∧ (b01 (XW M0 M134 0 1 0) = 1) ∧ ((M134.1 98 6).toInt ≤ 900) ∧ (b01 (LL (luP gf gn 2042 2042 (atP gf gn false (suR gf gn 1))) gn ((atP gf gn false (suR gf gn 1)) gi).2.2 gq135 0 (M103.1 98 11).toInt (M103.1 98 12).toInt (M134.1 98 11).toInt (M134.1 98 12).toInt (M134.1 98 6).toInt) = 1) ∧ (b01 (LC AGR (M134.1 98 11).toInt (luL gf gn 2042 2042 (atP gf gn false (suR gf gn 1)) (atL gf gn false (sLR gf gn 1))) ((atP gf gn false (suR gf gn 1)) gi).2.2 gq135 M103 M134) = 1) ∧ (b01 (TKM gf gn M134) = 1) ∧ (b01 (PO gn gq135 (M134.1 98 11).toInt (M134.1 98 6).toInt) = 1) ∧ (b01 (PI M134) = 1) ∧ (900 - (M134.1 98 6).toInt) < (n131 : Int)) → INV pr Kz M134 → FR [98, 102] M0 M134 → jj p l e (cn_R 14) s m args below meth c 0 0 Q 2 dC dI ad cA A M134 5 [(0, .ref (ad 98)), (1, .int (sI 4))] [] := by
    intro n131
    induction n131 with
    | zero =>
      intro M134 gq135 h136 hM134 fM134
      exfalso; omega
    | succ n131 ih132 =>
      intro M134 gq135 h136 hM134 fM134
      have u137l := ri_l (M := M134) (by omega)
      have u137B := tkm_b (f := gf) (n := gn) (M := M134) (by omega)
      refine j_aload_n C 0 0 dX12_readTerm_5 rfl rfl ?_
      refine y_bipush C dX12_readTerm_6 rfl ?_
      have k138 := tkm_K (f := gf) (n := gn) (M := M134) (by omega)
      have k139 := kd_2 (kdk_34 gf gn (M134.1 98 6).toInt) (by omega)
      refine j_callVi C (d := 6) (As := [.int (sI 34)]) (st := []) 98 (s_lt rfl rfl) (s_kc (c := 11) rfl rfl) (by decide) rfl (s1_X12_eats hM134 hpr 34 (by omega) gf gn gq135 (by omega) (by omega) (by omega) (by omega) (by omega)) gX12_readTerm_X12_eats rfl hdX12_eats (by decide) (Nat.le_of_ble_eq_true rfl) dX12_readTerm_8 rfl (fun r140 M141 h142 => ?_)
      obtain ⟨a144, rfl, hM141, fM141, h143⟩ := h142
      have k145 := tk_c gf gn (M141.1 98 6).toInt (M134.1 98 6).toInt
      have bM141 := tkm_b (f := gf) (n := gn) (M := M141) (by omega)
      refine y_if_eq C 29 dX12_readTerm_11 (by decide) (by omega) (fun h146 => ?_) (fun h146 => ?_)
      · have u159c := xw_c (N := M134) (P := M141) 0 (FR.cell fM141 (by decide)) (by omega)
        have u159t := xw_t (M := M0) (N := M134) (P := M141) (r1 := 0) (e1 := 1) (s1 := 0) (r2 := 0) (e2 := 0) (s2 := 0) 0 1 0 (by decide) (by omega) (by omega)
        have u159a := ca_x (M := M0) (N := M141) (r := 0) (e := 1) (s := 0) (by decide) (by omega) (by omega)
        have u159E := ll_e gf gn 2042 2042 (atP gf gn false (suR gf gn 1)) ((atP gf gn false (suR gf gn 1)) gi).2.2 gq135 0 (M103.1 98 11).toInt (M103.1 98 12).toInt (M134.1 98 11).toInt (M134.1 98 12).toInt (M134.1 98 6).toInt (by decide) (at_g gf gn (fun _ => suR_g gf gn 1)) (by omega) (by omega)
        have u159S : b01 (RR ((teP gf gn false (suR gf gn 1)) gi) (M0.1 98 11).toInt (M0.1 98 12).toInt (M134.1 98 11).toInt (M134.1 98 12).toInt (M134.1 98 6).toInt) = 1 := rr_sq ((atP gf gn false (suR gf gn 1)) gi) (luP gf gn 2042 2042 (atP gf gn false (suR gf gn 1))) (M0.1 98 11).toInt (M0.1 98 12).toInt (M103.1 98 11).toInt (M103.1 98 12).toInt (M103.1 98 6).toInt (M134.1 98 11).toInt (M134.1 98 12).toInt (M134.1 98 6).toInt (by omega) (by omega)
        have u159R := rr_eq ((teP gf gn false (suR gf gn 1)) gi) (M0.1 98 11).toInt (M0.1 98 12).toInt (M134.1 98 11).toInt (M134.1 98 12).toInt (M134.1 98 6).toInt (M141.1 98 11).toInt (M141.1 98 12).toInt (M141.1 98 6).toInt (by omega) (by omega) (by omega) (by omega)
        have u159x := lc_e gf gn 2042 2042 (atP gf gn false (suR gf gn 1)) ((atL gf gn false (sLR gf gn 1))) (by decide) (show b01 (LC AGR (M134.1 98 11).toInt (luL gf gn 2042 2042 (atP gf gn false (suR gf gn 1)) (atL gf gn false (sLR gf gn 1))) ((atP gf gn false (suR gf gn 1)) gi).2.2 gq135 M103 M134) = 1 by omega) (show b01 (LL (luP gf gn 2042 2042 (atP gf gn false (suR gf gn 1))) gn ((atP gf gn false (suR gf gn 1)) gi).2.2 gq135 0 (M103.1 98 11).toInt (M103.1 98 12).toInt (M134.1 98 11).toInt (M134.1 98 12).toInt (M134.1 98 6).toInt) = 1 by omega) (by omega)
        have u159y : b01 (CL AGR (M134.1 98 11).toInt M0 M134 ((teL gf gn false (suR gf gn 1) (sLR gf gn 1)) gi)) = 1 := cl_e (cl_t (show b01 (CL AGR (M103.1 98 11).toInt M0 M103 ((atL gf gn false (sLR gf gn 1)) gi)) = 1 by omega) u159x (fun z => rr_z (show b01 (RR ((luP gf gn 2042 2042 (atP gf gn false (suR gf gn 1))) ((atP gf gn false (suR gf gn 1)) gi).2.2) (M103.1 98 11).toInt (M103.1 98 12).toInt (M134.1 98 11).toInt (M134.1 98 12).toInt (M134.1 98 6).toInt) = 1 by omega) z)) (fun z => rfl)
        have u159l : b01 (CL AGR (M141.1 98 11).toInt M0 M141 ((teL gf gn false (suR gf gn 1) (sLR gf gn 1)) gi)) = 1 := cl_e (cl_t u159y (cl_r (A := AGR) (M := M134) (N := M141) (M141.1 98 11).toInt (agr_c (FR.cell fM141 (by decide)))) (fun z => by omega)) (fun z => (List.append_nil _).symm)
        exact hret _ _ _ dX12_readTerm_29 ⟨hM141, ((FR.rf.tr fM134 (by decide)).tr fM141 (by decide)), by omega⟩
      · have u147c := xw_c (N := M134) (P := M141) 1 (FR.cell fM141 (by decide)) (by omega)
        have u147t := xw_t (M := M0) (N := M134) (P := M141) (r1 := 0) (e1 := 1) (s1 := 0) (r2 := 0) (e2 := 0) (s2 := 1) 0 1 1 (by decide) (by omega) (by omega)
        have u147a := ca_x (M := M0) (N := M141) (r := 0) (e := 1) (s := 1) (by decide) (by omega) (by omega)
        have u147l := ri_l (M := M141) (by omega)
        refine j_aload_n C 0 0 dX12_readTerm_14 rfl rfl ?_
        refine j_iload_n C 1 1 dX12_readTerm_15 rfl rfl ?_
        refine j_callVv C (d := 13) (As := [.int (sI 4)]) (st := []) 98 (s_lt rfl rfl) (s_kc (c := 11) rfl rfl) (by decide) rfl (s3_X12_readAtom hM141 hpr gf gn (nxF gf gn gq135) (by omega) (by omega) (by omega) (by omega) (by omega)) gX12_readTerm_X12_readAtom rfl hdX12_readAtom (by decide) (Nat.le_of_ble_eq_true rfl) dX12_readTerm_16 rfl (fun M149 h150 => ?_)
        obtain ⟨hM149, fM149, h151⟩ := h150
        have bM149 := tkm_b (f := gf) (n := gn) (M := M149) (by omega)
        have qM149 := po_rr (atP gf gn false (suR gf gn 1)) gn (nxF gf gn gq135) (M141.1 98 11).toInt (M141.1 98 12).toInt (M141.1 98 6).toInt (M149.1 98 11).toInt (M149.1 98 12).toInt (M149.1 98 6).toInt (at_g gf gn (fun _ => suR_g gf gn 1)) (by omega) (by omega)
        have u152t := xw_t (M := M0) (N := M141) (P := M149) (r1 := 0) (e1 := 1) (s1 := 1) (r2 := 0) (e2 := 1) (s2 := 0) 0 2 1 (by decide) (by omega) (by omega)
        have u152l := ri_l (M := M149) (by omega)
        have u152b := cb_x (M := M0) (N := M149) (r := 0) (e := 2) (s := 1) (by decide) (by omega) (by omega) (by omega)
        refine j_aload_n C 0 0 dX12_readTerm_19 rfl rfl ?_
        refine y_sipush C dX12_readTerm_20 rfl ?_
        refine j_callVv C (d := 0) (As := [.int (sI 3002)]) (st := []) 98 (s_lt rfl rfl) (s_kc (c := 11) rfl rfl) (by decide) rfl (s1_X12_codes hM149 hpr 3002 (by omega) gf gn ((atP gf gn false (suR gf gn 1)) (nxF gf gn gq135)).2.2 (by omega) (by omega) (by omega) (by omega)) gX12_readTerm_X12_codes rfl hdX12_codes (by decide) (Nat.le_of_ble_eq_true rfl) dX12_readTerm_23 rfl (fun M154 h155 => ?_)
        obtain ⟨hM154, fM154, h156⟩ := h155
        have k157 := tk_c gf gn (M154.1 98 6).toInt (M149.1 98 6).toInt
        have bM154 := tkm_b (f := gf) (n := gn) (M := M154) (by omega)
        have qM154 := po_eq gn ((atP gf gn false (suR gf gn 1)) (nxF gf gn gq135)).2.2 (M149.1 98 11).toInt (M149.1 98 6).toInt (M154.1 98 11).toInt (M154.1 98 6).toInt (by omega) (by omega) (by omega)
        refine j_goto C 5 dX12_readTerm_26 (by decide) ?_
        have u158x := xw_a (M := M149) (N := M154) (c := 3002) (r := 2) (e := (-1)) (FR.cell fM154 (by decide)) (ap_bin ⟨(INV.rd hM149 (i := 102) (c := 48) (k := 280) rfl rfl).1, by omega, by omega⟩) (by omega)
        have u158t := xw_t (M := M0) (N := M149) (P := M154) (r1 := 0) (e1 := 2) (s1 := 1) (r2 := 2) (e2 := (-1)) (s2 := (-1)) 0 1 0 (by decide) (by omega) (by omega)
        have u158i := ri_c (M := M149) (N := M154) (FR.cell fM154 (by decide)) (by omega)
        have u158l := ri_l (M := M154) (by omega)
        have u158L := ll_w (luP gf gn 2042 2042 (atP gf gn false (suR gf gn 1))) gn ((atP gf gn false (suR gf gn 1)) gi).2.2 ((atP gf gn false (suR gf gn 1)) (nxF gf gn gq135)).2.2 (0 + 1) 0 (M103.1 98 11).toInt (M103.1 98 12).toInt (M154.1 98 11).toInt (M154.1 98 12).toInt (M154.1 98 6).toInt (by decide) (ll_s gf gn 2042 2042 (atP gf gn false (suR gf gn 1)) ((atP gf gn false (suR gf gn 1)) gi).2.2 gq135 0 (M103.1 98 11).toInt (M103.1 98 12).toInt (M134.1 98 11).toInt (M134.1 98 12).toInt (M134.1 98 6).toInt (M141.1 98 11).toInt (M141.1 98 12).toInt (M149.1 98 11).toInt (M149.1 98 12).toInt (M149.1 98 6).toInt (M154.1 98 11).toInt (M154.1 98 12).toInt (M154.1 98 6).toInt (by decide) (at_g gf gn (fun _ => suR_g gf gn 1)) (by omega) (by omega) (by omega) (by omega) (by omega) (by omega) (by omega) (by omega) (by omega))
        have u158c := lc_s gf gn 2042 2042 (atP gf gn false (suR gf gn 1)) (atL gf gn false (sLR gf gn 1)) (by decide) (at_g gf gn (fun _ => suR_g gf gn 1)) (show b01 (LC AGR (M134.1 98 11).toInt (luL gf gn 2042 2042 (atP gf gn false (suR gf gn 1)) (atL gf gn false (sLR gf gn 1))) ((atP gf gn false (suR gf gn 1)) gi).2.2 gq135 M103 M134) = 1 by omega) (show b01 (PO gn gq135 (M134.1 98 11).toInt (M134.1 98 6).toInt) = 1 by omega) (by omega) (show b01 (RR ((atP gf gn false (suR gf gn 1)) (nxF gf gn gq135)) (M141.1 98 11).toInt (M141.1 98 12).toInt (M149.1 98 11).toInt (M149.1 98 12).toInt (M149.1 98 6).toInt) = 1 by omega) (fun z => by omega) (cl_e (L := ([] ++ ((atL gf gn false (sLR gf gn 1)) (nxF gf gn gq135))) ++ [3002]) (cl_t (cl_t (cl_r (A := AGR) (M := M134) (N := M141) (M141.1 98 11).toInt (agr_c (FR.cell fM141 (by decide)))) (show b01 (CL AGR (M149.1 98 11).toInt M141 M149 ((atL gf gn false (sLR gf gn 1)) (nxF gf gn gq135))) = 1 by omega) (fun z => rr_z (show b01 (RR ((atP gf gn false (suR gf gn 1)) (nxF gf gn gq135)) (M141.1 98 11).toInt (M141.1 98 12).toInt (M149.1 98 11).toInt (M149.1 98 12).toInt (M149.1 98 6).toInt) = 1 by omega) z)) (show b01 (CL AGR (M154.1 98 11).toInt M149 M154 [3002]) = 1 by omega) (fun z => by omega)) (fun z => by rw [show tkF gf gn (M134.1 98 6).toInt = 2042 by omega, cm_tab.2.2.1, List.nil_append]) : b01 (CL AGR (M154.1 98 11).toInt M134 M154 (((atL gf gn false (sLR gf gn 1)) (nxF gf gn gq135)) ++ [cmF (tkF gf gn (M134.1 98 6).toInt)])) = 1) (fun z => by omega)
        have zz98_8 : (M154.1 98 8).toInt = (M149.1 98 8).toInt := s_fF fM154 (by decide) (rfl); have zz98_6 : (M154.1 98 6).toInt = (M149.1 98 6).toInt := s_fF fM154 (by decide) (rfl); have zz98_12 : (M154.1 98 12).toInt = (M149.1 98 12).toInt := s_fF fM154 (by decide) (rfl); have zz98_11 : (M154.1 98 11).toInt = (M149.1 98 11).toInt := s_fF fM154 (by decide) (rfl); exact ih132 M154 ((atP gf gn false (suR gf gn 1)) (nxF gf gn gq135)).2.2 (by omega) hM154 ((((FR.rf.tr fM134 (by decide)).tr fM141 (by decide)).tr fM149 (by decide)).tr fM154 (by decide))
  exact L133 2010 M103 ((atP gf gn false (suR gf gn 1)) gi).2.2 (by omega) hM103 (FR.rf.tr fM103 (by decide))
set_option maxHeartbeats 4000000 in
theorem s3_X12_readSum {l : Launch} {dC : Nat → ClassId} {dI : Nat → Nat → Nat} {ad : Nat → Nat} {cA : Nat → ClassId} {pr : Nat → Nat → Bool} {Kz : mm_M} {M0 : mm_M} (hM0 : INV pr Kz M0) (hpr : PM pr) (gf : Nat → Int) (gn : Int) (gi : Int) (hp0 : b01 (RIP M0) = 1) (hp1 : b01 (CA M0) = 1) (hp2 : b01 (TKM gf gn M0) = 1) (hp3 : b01 (PO gn gi (M0.1 98 11).toInt (M0.1 98 6).toInt) = 1) (hp4 : b01 (PI M0) = 1) : Cv l 15 yX12_readSum wsX12_readSum dC dI ad cA [.ref (ad 98), .int (sI 4)] M0 (fun M' => INV pr Kz M' ∧ FR [98, 102] M0 M' ∧ (b01 (RIP M') = 1) ∧ ((M'.1 98 8).toInt = (M0.1 98 8).toInt) ∧ ((M0.1 98 6).toInt ≤ (M'.1 98 6).toInt) ∧ (b01 (XW M0 M' 0 1 0) = 1) ∧ (b01 (CA M') = 1) ∧ (b01 (CL AGR (M'.1 98 11).toInt M0 M' ((sLR gf gn 2) gi)) = 1) ∧ (b01 (PI M') = 1) ∧ (b01 (TKM gf gn M') = 1) ∧ b01 (RR ((suR gf gn 2) gi) (M0.1 98 11).toInt (M0.1 98 12).toInt (M'.1 98 11).toInt (M'.1 98 12).toInt (M'.1 98 6).toInt) = 1) := by
  refine cv_of (cc := cX12_readSum) (maxL := 3) (lv := [(0, .ref (ad 98)), (1, .int (sI 4))]) (by decide) rfl (Nat.le_of_ble_eq_true rfl) rfl ?_
  intro p e s m args below meth c A Q C hret
  have u101z := xw_0 M0
  have u101l := ri_l (M := M0) (by omega)
  refine j_aload_n C 0 0 dX12_readSum_0 rfl rfl ?_
  refine j_iload_n C 1 1 dX12_readSum_1 rfl rfl ?_
  refine j_callVv C (d := 14) (As := [.int (sI 4)]) (st := []) 98 (s_lt rfl rfl) (s_kc (c := 11) rfl rfl) (by decide) rfl (s3_X12_readTerm hM0 hpr gf gn gi (by omega) (by omega) (by omega) (by omega) (by omega)) gX12_readSum_X12_readTerm rfl hdX12_readTerm (by decide) (Nat.le_of_ble_eq_true rfl) dX12_readSum_2 rfl (fun M103 h104 => ?_)
  obtain ⟨hM103, fM103, h105⟩ := h104
  have bM103 := tkm_b (f := gf) (n := gn) (M := M103) (by omega)
  have qM103 := po_rr (teP gf gn false (suR gf gn 1)) gn gi (M0.1 98 11).toInt (M0.1 98 12).toInt (M0.1 98 6).toInt (M103.1 98 11).toInt (M103.1 98 12).toInt (M103.1 98 6).toInt (te_g gf gn (fun _ => suR_g gf gn 1)) (by omega) (by omega)
  have u106l := ri_l (M := M103) (by omega)
  have u106L := ll_0 (luP gf gn 2043 2045 (teP gf gn false (suR gf gn 1))) gn ((teP gf gn false (suR gf gn 1)) gi).2.2 (M103.1 98 11).toInt (M103.1 98 12).toInt (M103.1 98 6).toInt (by omega)
  have u106c := lc_0 (A := AGR) (M103.1 98 11).toInt (luL gf gn 2043 2045 (teP gf gn false (suR gf gn 1)) (teL gf gn false (suR gf gn 1) (sLR gf gn 1))) ((teP gf gn false (suR gf gn 1)) gi).2.2 M103
  have L178 : ∀ (n176 : Nat), ∀ (M179 : mm_M) (gq180 : Int), ((b01 (RIP M179) = 1) ∧ ((M179.1 98 8).toInt = (M0.1 98 8).toInt) ∧ ((M0.1 98 6).toInt ≤ (M179.1 98 6).toInt) ∧ (b01 (XW M0 M179 0 1 0) = 1) ∧ ((M179.1 98 6).toInt ≤ 900) ∧ (b01 (LL (luP gf gn 2043 2045 (teP gf gn false (suR gf gn 1))) gn ((teP gf gn false (suR gf gn 1)) gi).2.2 gq180 0 (M103.1 98 11).toInt (M103.1 98 12).toInt (M179.1 98 11).toInt (M179.1 98 12).toInt (M179.1 98 6).toInt) = 1) ∧ (b01 (LC AGR (M179.1 98 11).toInt (luL gf gn 2043 2045 (teP gf gn false (suR gf gn 1)) (teL gf gn false (suR gf gn 1) (sLR gf gn 1))) ((teP gf gn false (suR gf gn 1)) gi).2.2 gq180 M103 M179) = 1) ∧ (b01 (TKM gf gn M179) = 1) ∧ (b01 (PO gn gq180 (M179.1 98 11).toInt (M179.1 98 6).toInt) = 1) ∧ (b01 (PI M179) = 1) ∧ (900 - (M179.1 98 6).toInt) < (n176 : Int)) → INV pr Kz M179 → FR [98, 102] M0 M179 → jj p l e (cn_R 15) s m args below meth c 0 0 Q 3 dC dI ad cA A M179 5 [(0, .ref (ad 98)), (1, .int (sI 4))] [] := by
    intro n176
    induction n176 with
    | zero =>
      intro M179 gq180 h181 hM179 fM179
      exfalso; omega
    | succ n176 ih177 =>
      intro M179 gq180 h181 hM179 fM179
      have u182l := ri_l (M := M179) (by omega)
      have u182B := tkm_b (f := gf) (n := gn) (M := M179) (by omega)
      refine j_aload_n C 0 0 dX12_readSum_5 rfl rfl ?_
      refine y_bipush C dX12_readSum_6 rfl ?_
      have k183 := tkm_K (f := gf) (n := gn) (M := M179) (by omega)
      have k184 := kd_2 (kdk_32 gf gn (M179.1 98 6).toInt) (by omega)
      refine j_callVi C (d := 0) (As := [.int (sI 32)]) (st := []) 98 (s_lt rfl rfl) (s_kc (c := 11) rfl rfl) (by decide) rfl (s1_X12_is hM179 32 (by omega)) gX12_readSum_X12_is rfl hdX12_is (by decide) (Nat.le_of_ble_eq_true rfl) dX12_readSum_8 rfl (fun r185 M186 h187 => ?_)
      obtain ⟨a189, rfl, rfl, h188⟩ := h187
      refine y_if_ne C 23 dX12_readSum_11 (by decide) (by omega) (fun h190 => ?_) (fun h190 => ?_)
      · refine j_aload_n C 0 0 dX12_readSum_23 rfl rfl ?_
        refine y_getI C 11 _ _ fX12_readSum_108 rfl rfl ft_11_9 sb_11_9 hM179 dX12_readSum_24 (fun a191 ea191 la191 ua191 => ?_)
        obtain rfl : a191 = (M179.1 98 9).toInt := ea191
        refine y_bipush C dX12_readSum_27 rfl ?_
        have J195 : ∀ (a194 : Int), (3000 ≤ a194 ∧ a194 ≤ 3001 ∧ ((tkF gf gn (M179.1 98 6).toInt = 2043 ∧ a194 = 3000) ∨ (tkF gf gn (M179.1 98 6).toInt = 2045 ∧ a194 = 3001))) → jj p l e (cn_R 15) s m args below meth c 0 0 Q 3 dC dI ad cA A M179 41 [(0, .ref (ad 98)), (1, .int (sI 4))] [.int (sI a194)] := by
          intro a194 h196
          refine j_istore_n C 2 [(2, .int (sI a194)), (0, .ref (ad 98)), (1, .int (sI 4))] dX12_readSum_41 rfl (by decide) rfl ?_
          have u197k := ri_k (M := M179) (by omega) (by omega)
          refine j_aload_n C 1 0 dX12_readSum_42 rfl rfl ?_
          have k198 := tkm_p (f := gf) (n := gn) (M := M179) (by omega)
          have k199 := tkm_K (f := gf) (n := gn) (M := M179) (by omega)
          refine j_callVv C (d := 5) (As := []) (st := []) 98 (s_lt rfl rfl) (s_kc (c := 11) rfl rfl) (by decide) rfl (s1_X12_next hM179 hpr gf gn (by omega) (by omega) (by omega) (by omega)) gX12_readSum_X12_next rfl hdX12_next (by decide) (Nat.le_of_ble_eq_true rfl) dX12_readSum_43 rfl (fun M201 h202 => ?_)
          obtain ⟨hM201, fM201, h203⟩ := h202
          have bM201 := tkm_b (f := gf) (n := gn) (M := M201) (by omega)
          have qM201 := nx_po (f := gf) (n := gn) (i := gq180) (M := M179) (M' := M201) (by omega) (by omega) (by omega) (by omega) (by omega)
          have u204c := xw_c (N := M179) (P := M201) 1 (FR.cell fM201 (by decide)) (by omega)
          have u204t := xw_t (M := M0) (N := M179) (P := M201) (r1 := 0) (e1 := 1) (s1 := 0) (r2 := 0) (e2 := 0) (s2 := 1) 0 1 1 (by decide) (by omega) (by omega)
          have u204a := ca_x (M := M0) (N := M201) (r := 0) (e := 1) (s := 1) (by decide) (by omega) (by omega)
          have u204l := ri_l (M := M201) (by omega)
          refine j_aload_n C 1 0 dX12_readSum_46 rfl rfl ?_
          refine j_iload_n C 2 1 dX12_readSum_47 rfl rfl ?_
          refine j_callVv C (d := 14) (As := [.int (sI 4)]) (st := []) 98 (s_lt rfl rfl) (s_kc (c := 11) rfl rfl) (by decide) rfl (s3_X12_readTerm hM201 hpr gf gn (nxF gf gn gq180) (by omega) (by omega) (by omega) (by omega) (by omega)) gX12_readSum_X12_readTerm rfl hdX12_readTerm (by decide) (Nat.le_of_ble_eq_true rfl) dX12_readSum_48 rfl (fun M206 h207 => ?_)
          obtain ⟨hM206, fM206, h208⟩ := h207
          have bM206 := tkm_b (f := gf) (n := gn) (M := M206) (by omega)
          have qM206 := po_rr (teP gf gn false (suR gf gn 1)) gn (nxF gf gn gq180) (M201.1 98 11).toInt (M201.1 98 12).toInt (M201.1 98 6).toInt (M206.1 98 11).toInt (M206.1 98 12).toInt (M206.1 98 6).toInt (te_g gf gn (fun _ => suR_g gf gn 1)) (by omega) (by omega)
          have u209t := xw_t (M := M0) (N := M201) (P := M206) (r1 := 0) (e1 := 1) (s1 := 1) (r2 := 0) (e2 := 1) (s2 := 0) 0 2 1 (by decide) (by omega) (by omega)
          have u209l := ri_l (M := M206) (by omega)
          have u209b := cb_x (M := M0) (N := M206) (r := 0) (e := 2) (s := 1) (by decide) (by omega) (by omega) (by omega)
          refine j_aload_n C 1 0 dX12_readSum_51 rfl rfl ?_
          refine j_iload_n C 0 2 dX12_readSum_52 rfl rfl ?_
          refine j_callVv C (d := 0) (As := [.int (sI a194)]) (st := []) 98 (s_lt rfl rfl) (s_kc (c := 11) rfl rfl) (by decide) rfl (s1_X12_codes hM206 hpr a194 (by omega) gf gn ((teP gf gn false (suR gf gn 1)) (nxF gf gn gq180)).2.2 (by omega) (by omega) (by omega) (by omega)) gX12_readSum_X12_codes rfl hdX12_codes (by decide) (Nat.le_of_ble_eq_true rfl) dX12_readSum_53 rfl (fun M211 h212 => ?_)
          obtain ⟨hM211, fM211, h213⟩ := h212
          have k214 := tk_c gf gn (M211.1 98 6).toInt (M206.1 98 6).toInt
          have bM211 := tkm_b (f := gf) (n := gn) (M := M211) (by omega)
          have qM211 := po_eq gn ((teP gf gn false (suR gf gn 1)) (nxF gf gn gq180)).2.2 (M206.1 98 11).toInt (M206.1 98 6).toInt (M211.1 98 11).toInt (M211.1 98 6).toInt (by omega) (by omega) (by omega)
          refine j_goto C 5 dX12_readSum_56 (by decide) ?_
          have u215x := xw_a (M := M206) (N := M211) (c := a194) (r := 2) (e := (-1)) (FR.cell fM211 (by decide)) (ap_bin ⟨(INV.rd hM206 (i := 102) (c := 48) (k := 280) rfl rfl).1, by omega, by omega⟩) (by omega)
          have u215t := xw_t (M := M0) (N := M206) (P := M211) (r1 := 0) (e1 := 2) (s1 := 1) (r2 := 2) (e2 := (-1)) (s2 := (-1)) 0 1 0 (by decide) (by omega) (by omega)
          have u215i := ri_c (M := M206) (N := M211) (FR.cell fM211 (by decide)) (by omega)
          have u215l := ri_l (M := M211) (by omega)
          have u215L := ll_w (luP gf gn 2043 2045 (teP gf gn false (suR gf gn 1))) gn ((teP gf gn false (suR gf gn 1)) gi).2.2 ((teP gf gn false (suR gf gn 1)) (nxF gf gn gq180)).2.2 (0 + 1) 0 (M103.1 98 11).toInt (M103.1 98 12).toInt (M211.1 98 11).toInt (M211.1 98 12).toInt (M211.1 98 6).toInt (by decide) (ll_s gf gn 2043 2045 (teP gf gn false (suR gf gn 1)) ((teP gf gn false (suR gf gn 1)) gi).2.2 gq180 0 (M103.1 98 11).toInt (M103.1 98 12).toInt (M179.1 98 11).toInt (M179.1 98 12).toInt (M179.1 98 6).toInt (M201.1 98 11).toInt (M201.1 98 12).toInt (M206.1 98 11).toInt (M206.1 98 12).toInt (M206.1 98 6).toInt (M211.1 98 11).toInt (M211.1 98 12).toInt (M211.1 98 6).toInt (by decide) (te_g gf gn (fun _ => suR_g gf gn 1)) (by omega) (by omega) (by omega) (by omega) (by omega) (by omega) (by omega) (by omega) (by omega))
          have u215c := lc_s gf gn 2043 2045 (teP gf gn false (suR gf gn 1)) (teL gf gn false (suR gf gn 1) (sLR gf gn 1)) (by decide) (te_g gf gn (fun _ => suR_g gf gn 1)) (show b01 (LC AGR (M179.1 98 11).toInt (luL gf gn 2043 2045 (teP gf gn false (suR gf gn 1)) (teL gf gn false (suR gf gn 1) (sLR gf gn 1))) ((teP gf gn false (suR gf gn 1)) gi).2.2 gq180 M103 M179) = 1 by omega) (show b01 (PO gn gq180 (M179.1 98 11).toInt (M179.1 98 6).toInt) = 1 by omega) (by omega) (show b01 (RR ((teP gf gn false (suR gf gn 1)) (nxF gf gn gq180)) (M201.1 98 11).toInt (M201.1 98 12).toInt (M206.1 98 11).toInt (M206.1 98 12).toInt (M206.1 98 6).toInt) = 1 by omega) (fun z => by omega) (cl_e (L := ([] ++ ((teL gf gn false (suR gf gn 1) (sLR gf gn 1)) (nxF gf gn gq180))) ++ [a194]) (cl_t (cl_t (cl_r (A := AGR) (M := M179) (N := M201) (M201.1 98 11).toInt (agr_c (FR.cell fM201 (by decide)))) (show b01 (CL AGR (M206.1 98 11).toInt M201 M206 ((teL gf gn false (suR gf gn 1) (sLR gf gn 1)) (nxF gf gn gq180))) = 1 by omega) (fun z => rr_z (show b01 (RR ((teP gf gn false (suR gf gn 1)) (nxF gf gn gq180)) (M201.1 98 11).toInt (M201.1 98 12).toInt (M206.1 98 11).toInt (M206.1 98 12).toInt (M206.1 98 6).toInt) = 1 by omega) z)) (show b01 (CL AGR (M211.1 98 11).toInt M206 M211 [a194]) = 1 by omega) (fun z => by omega)) (fun z => by rw [List.nil_append, sum_c (t := tkF gf gn (M179.1 98 6).toInt) (c := a194) (by omega)]) : b01 (CL AGR (M211.1 98 11).toInt M179 M211 (((teL gf gn false (suR gf gn 1) (sLR gf gn 1)) (nxF gf gn gq180)) ++ [cmF (tkF gf gn (M179.1 98 6).toInt)])) = 1) (fun z => by omega)
          have zz98_8 : (M211.1 98 8).toInt = (M206.1 98 8).toInt := s_fF fM211 (by decide) (rfl); have zz98_6 : (M211.1 98 6).toInt = (M206.1 98 6).toInt := s_fF fM211 (by decide) (rfl); have zz98_12 : (M211.1 98 12).toInt = (M206.1 98 12).toInt := s_fF fM211 (by decide) (rfl); have zz98_11 : (M211.1 98 11).toInt = (M206.1 98 11).toInt := s_fF fM211 (by decide) (rfl); refine j_lv [1, 2] rfl ?_; exact ih177 M211 ((teP gf gn false (suR gf gn 1)) (nxF gf gn gq180)).2.2 (by omega) hM211 ((((FR.rf.tr fM179 (by decide)).tr fM201 (by decide)).tr fM206 (by decide)).tr fM211 (by decide))
        refine y_icmp_ne C 38 dX12_readSum_29 (by decide) (by omega) (fun h193 => ?_) (fun h193 => ?_)
        · refine y_sipush C dX12_readSum_38 rfl ?_
          exact J195 3001 (by omega)
        · refine y_sipush C dX12_readSum_32 rfl ?_
          refine j_goto C 41 dX12_readSum_35 (by decide) ?_
          exact J195 3000 (by omega)
      · refine j_aload_n C 0 0 dX12_readSum_14 rfl rfl ?_
        refine y_bipush C dX12_readSum_15 rfl ?_
        have k216 := tkm_K (f := gf) (n := gn) (M := M179) (by omega)
        have k217 := kd_2 (kdk_33 gf gn (M179.1 98 6).toInt) (by omega)
        refine j_callVi C (d := 0) (As := [.int (sI 33)]) (st := []) 98 (s_lt rfl rfl) (s_kc (c := 11) rfl rfl) (by decide) rfl (s1_X12_is hM179 33 (by omega)) gX12_readSum_X12_is rfl hdX12_is (by decide) (Nat.le_of_ble_eq_true rfl) dX12_readSum_17 rfl (fun r218 M219 h220 => ?_)
        obtain ⟨a222, rfl, rfl, h221⟩ := h220
        refine y_if_eq C 59 dX12_readSum_20 (by decide) (by omega) (fun h223 => ?_) (fun h223 => ?_)
        · have u249a := ca_x (M := M0) (N := M179) (r := 0) (e := 1) (s := 0) (by decide) (by omega) (by omega)
          have u249E := ll_e gf gn 2043 2045 (teP gf gn false (suR gf gn 1)) ((teP gf gn false (suR gf gn 1)) gi).2.2 gq180 0 (M103.1 98 11).toInt (M103.1 98 12).toInt (M179.1 98 11).toInt (M179.1 98 12).toInt (M179.1 98 6).toInt (by decide) (te_g gf gn (fun _ => suR_g gf gn 1)) (by omega) (by omega)
          have u249S : b01 (RR ((suR gf gn 2) gi) (M0.1 98 11).toInt (M0.1 98 12).toInt (M179.1 98 11).toInt (M179.1 98 12).toInt (M179.1 98 6).toInt) = 1 := by rw [su_q gf gn 1 2 rfl]; exact rr_sq ((teP gf gn false (suR gf gn 1)) gi) (luP gf gn 2043 2045 (teP gf gn false (suR gf gn 1))) (M0.1 98 11).toInt (M0.1 98 12).toInt (M103.1 98 11).toInt (M103.1 98 12).toInt (M103.1 98 6).toInt (M179.1 98 11).toInt (M179.1 98 12).toInt (M179.1 98 6).toInt (by omega) (by omega)
          have u249x := lc_e gf gn 2043 2045 (teP gf gn false (suR gf gn 1)) ((teL gf gn false (suR gf gn 1) (sLR gf gn 1))) (by decide) (show b01 (LC AGR (M179.1 98 11).toInt (luL gf gn 2043 2045 (teP gf gn false (suR gf gn 1)) (teL gf gn false (suR gf gn 1) (sLR gf gn 1))) ((teP gf gn false (suR gf gn 1)) gi).2.2 gq180 M103 M179) = 1 by omega) (show b01 (LL (luP gf gn 2043 2045 (teP gf gn false (suR gf gn 1))) gn ((teP gf gn false (suR gf gn 1)) gi).2.2 gq180 0 (M103.1 98 11).toInt (M103.1 98 12).toInt (M179.1 98 11).toInt (M179.1 98 12).toInt (M179.1 98 6).toInt) = 1 by omega) (by omega)
          have u249l : b01 (CL AGR (M179.1 98 11).toInt M0 M179 ((sLR gf gn 2) gi)) = 1 := cl_e (cl_t (show b01 (CL AGR (M103.1 98 11).toInt M0 M103 ((teL gf gn false (suR gf gn 1) (sLR gf gn 1)) gi)) = 1 by omega) u249x (fun z => rr_z (show b01 (RR ((luP gf gn 2043 2045 (teP gf gn false (suR gf gn 1))) ((teP gf gn false (suR gf gn 1)) gi).2.2) (M103.1 98 11).toInt (M103.1 98 12).toInt (M179.1 98 11).toInt (M179.1 98 12).toInt (M179.1 98 6).toInt) = 1 by omega) z)) (fun z => su_l gf gn 1 2 rfl gi)
          exact hret _ _ _ dX12_readSum_59 ⟨hM179, (FR.rf.tr fM179 (by decide)), by omega⟩
        · refine j_aload_n C 0 0 dX12_readSum_23 rfl rfl ?_
          refine y_getI C 11 _ _ fX12_readSum_108 rfl rfl ft_11_9 sb_11_9 hM179 dX12_readSum_24 (fun a224 ea224 la224 ua224 => ?_)
          obtain rfl : a224 = (M179.1 98 9).toInt := ea224
          refine y_bipush C dX12_readSum_27 rfl ?_
          have J228 : ∀ (a227 : Int), (3000 ≤ a227 ∧ a227 ≤ 3001 ∧ ((tkF gf gn (M179.1 98 6).toInt = 2043 ∧ a227 = 3000) ∨ (tkF gf gn (M179.1 98 6).toInt = 2045 ∧ a227 = 3001))) → jj p l e (cn_R 15) s m args below meth c 0 0 Q 3 dC dI ad cA A M179 41 [(0, .ref (ad 98)), (1, .int (sI 4))] [.int (sI a227)] := by
            intro a227 h229
            refine j_istore_n C 2 [(2, .int (sI a227)), (0, .ref (ad 98)), (1, .int (sI 4))] dX12_readSum_41 rfl (by decide) rfl ?_
            have u230k := ri_k (M := M179) (by omega) (by omega)
            refine j_aload_n C 1 0 dX12_readSum_42 rfl rfl ?_
            have k231 := tkm_p (f := gf) (n := gn) (M := M179) (by omega)
            have k232 := tkm_K (f := gf) (n := gn) (M := M179) (by omega)
            refine j_callVv C (d := 5) (As := []) (st := []) 98 (s_lt rfl rfl) (s_kc (c := 11) rfl rfl) (by decide) rfl (s1_X12_next hM179 hpr gf gn (by omega) (by omega) (by omega) (by omega)) gX12_readSum_X12_next rfl hdX12_next (by decide) (Nat.le_of_ble_eq_true rfl) dX12_readSum_43 rfl (fun M234 h235 => ?_)
            obtain ⟨hM234, fM234, h236⟩ := h235
            have bM234 := tkm_b (f := gf) (n := gn) (M := M234) (by omega)
            have qM234 := nx_po (f := gf) (n := gn) (i := gq180) (M := M179) (M' := M234) (by omega) (by omega) (by omega) (by omega) (by omega)
            have u237c := xw_c (N := M179) (P := M234) 1 (FR.cell fM234 (by decide)) (by omega)
            have u237t := xw_t (M := M0) (N := M179) (P := M234) (r1 := 0) (e1 := 1) (s1 := 0) (r2 := 0) (e2 := 0) (s2 := 1) 0 1 1 (by decide) (by omega) (by omega)
            have u237a := ca_x (M := M0) (N := M234) (r := 0) (e := 1) (s := 1) (by decide) (by omega) (by omega)
            have u237l := ri_l (M := M234) (by omega)
            refine j_aload_n C 1 0 dX12_readSum_46 rfl rfl ?_
            refine j_iload_n C 2 1 dX12_readSum_47 rfl rfl ?_
            refine j_callVv C (d := 14) (As := [.int (sI 4)]) (st := []) 98 (s_lt rfl rfl) (s_kc (c := 11) rfl rfl) (by decide) rfl (s3_X12_readTerm hM234 hpr gf gn (nxF gf gn gq180) (by omega) (by omega) (by omega) (by omega) (by omega)) gX12_readSum_X12_readTerm rfl hdX12_readTerm (by decide) (Nat.le_of_ble_eq_true rfl) dX12_readSum_48 rfl (fun M239 h240 => ?_)
            obtain ⟨hM239, fM239, h241⟩ := h240
            have bM239 := tkm_b (f := gf) (n := gn) (M := M239) (by omega)
            have qM239 := po_rr (teP gf gn false (suR gf gn 1)) gn (nxF gf gn gq180) (M234.1 98 11).toInt (M234.1 98 12).toInt (M234.1 98 6).toInt (M239.1 98 11).toInt (M239.1 98 12).toInt (M239.1 98 6).toInt (te_g gf gn (fun _ => suR_g gf gn 1)) (by omega) (by omega)
            have u242t := xw_t (M := M0) (N := M234) (P := M239) (r1 := 0) (e1 := 1) (s1 := 1) (r2 := 0) (e2 := 1) (s2 := 0) 0 2 1 (by decide) (by omega) (by omega)
            have u242l := ri_l (M := M239) (by omega)
            have u242b := cb_x (M := M0) (N := M239) (r := 0) (e := 2) (s := 1) (by decide) (by omega) (by omega) (by omega)
            refine j_aload_n C 1 0 dX12_readSum_51 rfl rfl ?_
            refine j_iload_n C 0 2 dX12_readSum_52 rfl rfl ?_
            refine j_callVv C (d := 0) (As := [.int (sI a227)]) (st := []) 98 (s_lt rfl rfl) (s_kc (c := 11) rfl rfl) (by decide) rfl (s1_X12_codes hM239 hpr a227 (by omega) gf gn ((teP gf gn false (suR gf gn 1)) (nxF gf gn gq180)).2.2 (by omega) (by omega) (by omega) (by omega)) gX12_readSum_X12_codes rfl hdX12_codes (by decide) (Nat.le_of_ble_eq_true rfl) dX12_readSum_53 rfl (fun M244 h245 => ?_)
            obtain ⟨hM244, fM244, h246⟩ := h245
            have k247 := tk_c gf gn (M244.1 98 6).toInt (M239.1 98 6).toInt
            have bM244 := tkm_b (f := gf) (n := gn) (M := M244) (by omega)
            have qM244 := po_eq gn ((teP gf gn false (suR gf gn 1)) (nxF gf gn gq180)).2.2 (M239.1 98 11).toInt (M239.1 98 6).toInt (M244.1 98 11).toInt (M244.1 98 6).toInt (by omega) (by omega) (by omega)
            refine j_goto C 5 dX12_readSum_56 (by decide) ?_
            have u248x := xw_a (M := M239) (N := M244) (c := a227) (r := 2) (e := (-1)) (FR.cell fM244 (by decide)) (ap_bin ⟨(INV.rd hM239 (i := 102) (c := 48) (k := 280) rfl rfl).1, by omega, by omega⟩) (by omega)
            have u248t := xw_t (M := M0) (N := M239) (P := M244) (r1 := 0) (e1 := 2) (s1 := 1) (r2 := 2) (e2 := (-1)) (s2 := (-1)) 0 1 0 (by decide) (by omega) (by omega)
            have u248i := ri_c (M := M239) (N := M244) (FR.cell fM244 (by decide)) (by omega)
            have u248l := ri_l (M := M244) (by omega)
            have u248L := ll_w (luP gf gn 2043 2045 (teP gf gn false (suR gf gn 1))) gn ((teP gf gn false (suR gf gn 1)) gi).2.2 ((teP gf gn false (suR gf gn 1)) (nxF gf gn gq180)).2.2 (0 + 1) 0 (M103.1 98 11).toInt (M103.1 98 12).toInt (M244.1 98 11).toInt (M244.1 98 12).toInt (M244.1 98 6).toInt (by decide) (ll_s gf gn 2043 2045 (teP gf gn false (suR gf gn 1)) ((teP gf gn false (suR gf gn 1)) gi).2.2 gq180 0 (M103.1 98 11).toInt (M103.1 98 12).toInt (M179.1 98 11).toInt (M179.1 98 12).toInt (M179.1 98 6).toInt (M234.1 98 11).toInt (M234.1 98 12).toInt (M239.1 98 11).toInt (M239.1 98 12).toInt (M239.1 98 6).toInt (M244.1 98 11).toInt (M244.1 98 12).toInt (M244.1 98 6).toInt (by decide) (te_g gf gn (fun _ => suR_g gf gn 1)) (by omega) (by omega) (by omega) (by omega) (by omega) (by omega) (by omega) (by omega) (by omega))
            have u248c := lc_s gf gn 2043 2045 (teP gf gn false (suR gf gn 1)) (teL gf gn false (suR gf gn 1) (sLR gf gn 1)) (by decide) (te_g gf gn (fun _ => suR_g gf gn 1)) (show b01 (LC AGR (M179.1 98 11).toInt (luL gf gn 2043 2045 (teP gf gn false (suR gf gn 1)) (teL gf gn false (suR gf gn 1) (sLR gf gn 1))) ((teP gf gn false (suR gf gn 1)) gi).2.2 gq180 M103 M179) = 1 by omega) (show b01 (PO gn gq180 (M179.1 98 11).toInt (M179.1 98 6).toInt) = 1 by omega) (by omega) (show b01 (RR ((teP gf gn false (suR gf gn 1)) (nxF gf gn gq180)) (M234.1 98 11).toInt (M234.1 98 12).toInt (M239.1 98 11).toInt (M239.1 98 12).toInt (M239.1 98 6).toInt) = 1 by omega) (fun z => by omega) (cl_e (L := ([] ++ ((teL gf gn false (suR gf gn 1) (sLR gf gn 1)) (nxF gf gn gq180))) ++ [a227]) (cl_t (cl_t (cl_r (A := AGR) (M := M179) (N := M234) (M234.1 98 11).toInt (agr_c (FR.cell fM234 (by decide)))) (show b01 (CL AGR (M239.1 98 11).toInt M234 M239 ((teL gf gn false (suR gf gn 1) (sLR gf gn 1)) (nxF gf gn gq180))) = 1 by omega) (fun z => rr_z (show b01 (RR ((teP gf gn false (suR gf gn 1)) (nxF gf gn gq180)) (M234.1 98 11).toInt (M234.1 98 12).toInt (M239.1 98 11).toInt (M239.1 98 12).toInt (M239.1 98 6).toInt) = 1 by omega) z)) (show b01 (CL AGR (M244.1 98 11).toInt M239 M244 [a227]) = 1 by omega) (fun z => by omega)) (fun z => by rw [List.nil_append, sum_c (t := tkF gf gn (M179.1 98 6).toInt) (c := a227) (by omega)]) : b01 (CL AGR (M244.1 98 11).toInt M179 M244 (((teL gf gn false (suR gf gn 1) (sLR gf gn 1)) (nxF gf gn gq180)) ++ [cmF (tkF gf gn (M179.1 98 6).toInt)])) = 1) (fun z => by omega)
            have zz98_8 : (M244.1 98 8).toInt = (M239.1 98 8).toInt := s_fF fM244 (by decide) (rfl); have zz98_6 : (M244.1 98 6).toInt = (M239.1 98 6).toInt := s_fF fM244 (by decide) (rfl); have zz98_12 : (M244.1 98 12).toInt = (M239.1 98 12).toInt := s_fF fM244 (by decide) (rfl); have zz98_11 : (M244.1 98 11).toInt = (M239.1 98 11).toInt := s_fF fM244 (by decide) (rfl); refine j_lv [1, 2] rfl ?_; exact ih177 M244 ((teP gf gn false (suR gf gn 1)) (nxF gf gn gq180)).2.2 (by omega) hM244 ((((FR.rf.tr fM179 (by decide)).tr fM234 (by decide)).tr fM239 (by decide)).tr fM244 (by decide))
          refine y_icmp_ne C 38 dX12_readSum_29 (by decide) (by omega) (fun h226 => ?_) (fun h226 => ?_)
          · refine y_sipush C dX12_readSum_38 rfl ?_
            exact J228 3001 (by omega)
          · refine y_sipush C dX12_readSum_32 rfl ?_
            refine j_goto C 41 dX12_readSum_35 (by decide) ?_
            exact J228 3000 (by omega)
  exact L178 2010 M103 ((teP gf gn false (suR gf gn 1)) gi).2.2 (by omega) hM103 (FR.rf.tr fM103 (by decide))
set_option maxHeartbeats 4000000 in
theorem s4_X12_readAtom {l : Launch} {dC : Nat → ClassId} {dI : Nat → Nat → Nat} {ad : Nat → Nat} {cA : Nat → ClassId} {pr : Nat → Nat → Bool} {Kz : mm_M} {M0 : mm_M} (hM0 : INV pr Kz M0) (hpr : PM pr) (gf : Nat → Int) (gn : Int) (gi : Int) (hp0 : b01 (RIP M0) = 1) (hp1 : b01 (CA M0) = 1) (hp2 : b01 (TKM gf gn M0) = 1) (hp3 : b01 (PO gn gi (M0.1 98 11).toInt (M0.1 98 6).toInt) = 1) (hp4 : b01 (PI M0) = 1) : Cv l 16 yX12_readAtom wsX12_readAtom dC dI ad cA [.ref (ad 98), .int (sI 3)] M0 (fun M' => INV pr Kz M' ∧ FR [98, 102] M0 M' ∧ (b01 (RIP M') = 1) ∧ ((M'.1 98 8).toInt = (M0.1 98 8).toInt) ∧ ((M0.1 98 6).toInt ≤ (M'.1 98 6).toInt) ∧ (b01 (XW M0 M' 0 1 0) = 1) ∧ (b01 (CA M') = 1) ∧ (b01 (CL AGR (M'.1 98 11).toInt M0 M' ((atL gf gn false (sLR gf gn 2)) gi)) = 1) ∧ (b01 (PI M') = 1) ∧ (b01 (TKM gf gn M') = 1) ∧ b01 (RR ((atP gf gn false (suR gf gn 2)) gi) (M0.1 98 11).toInt (M0.1 98 12).toInt (M'.1 98 11).toInt (M'.1 98 12).toInt (M'.1 98 6).toInt) = 1) := by
  refine cv_of (cc := cX12_readAtom) (maxL := 2) (lv := [(0, .ref (ad 98)), (1, .int (sI 3))]) (by decide) rfl (Nat.le_of_ble_eq_true rfl) rfl ?_
  intro p e s m args below meth c A Q C hret
  have u101z := xw_0 M0
  have u101l := ri_l (M := M0) (by omega)
  refine j_aload_n C 0 0 dX12_readAtom_0 rfl rfl ?_
  refine y_bipush C dX12_readAtom_1 rfl ?_
  have k102 := tkm_K (f := gf) (n := gn) (M := M0) (by omega)
  have k103 := kd_2 (kd_23 gf gn (M0.1 98 6).toInt) (by omega)
  refine j_callVi C (d := 0) (As := [.int (sI 23)]) (st := []) 98 (s_lt rfl rfl) (s_kc (c := 11) rfl rfl) (by decide) rfl (s1_X12_is hM0 23 (by omega)) gX12_readAtom_X12_is rfl hdX12_is (by decide) (Nat.le_of_ble_eq_true rfl) dX12_readAtom_3 rfl (fun r104 M105 h106 => ?_)
  obtain ⟨a108, rfl, rfl, h107⟩ := h106
  refine y_if_eq C 24 dX12_readAtom_6 (by decide) (by omega) (fun h109 => ?_) (fun h109 => ?_)
  · refine j_aload_n C 0 0 dX12_readAtom_24 rfl rfl ?_
    refine y_getI C 11 _ _ fX12_readAtom_126 rfl rfl ft_11_11 sb_11_11 hM0 dX12_readAtom_25 (fun a110 ea110 la110 ua110 => ?_)
    obtain rfl : a110 = (M0.1 98 11).toInt := ea110
    refine y_if_ne C 66 dX12_readAtom_28 (by decide) (by omega) (fun h112 => ?_) (fun h112 => ?_)
    · refine j_aload_n C 0 0 dX12_readAtom_66 rfl rfl ?_
      refine y_bipush C dX12_readAtom_67 rfl ?_
      have k113 := tkm_K (f := gf) (n := gn) (M := M0) (by omega)
      have k114 := kd_2 (kdk_35 gf gn (M0.1 98 6).toInt) (by omega)
      refine j_callVi C (d := 0) (As := [.int (sI 35)]) (st := []) 98 (s_lt rfl rfl) (s_kc (c := 11) rfl rfl) (by decide) rfl (s1_X12_is hM0 35 (by omega)) gX12_readAtom_X12_is rfl hdX12_is (by decide) (Nat.le_of_ble_eq_true rfl) dX12_readAtom_69 rfl (fun r115 M116 h117 => ?_)
      obtain ⟨a119, rfl, rfl, h118⟩ := h117
      refine y_if_eq C 108 dX12_readAtom_72 (by decide) (by omega) (fun h120 => ?_) (fun h120 => ?_)
      · refine j_aload_n C 0 0 dX12_readAtom_108 rfl rfl ?_
        refine y_iconst C dX12_readAtom_109 ?_
        refine j_callVv C (d := 0) (As := [.int (sI 2)]) (st := []) 98 (s_lt rfl rfl) (s_kc (c := 11) rfl rfl) (by decide) rfl (s1_X12_fails hM0 hpr 2 (by omega) gf gn gi (by omega) (by omega) (by omega) (by omega) (by omega)) gX12_readAtom_X12_fails rfl hdX12_fails (by decide) (Nat.le_of_ble_eq_true rfl) dX12_readAtom_110 rfl (fun M122 h123 => ?_)
        obtain ⟨hM122, fM122, h124⟩ := h123
        have bM122 := tkm_b (f := gf) (n := gn) (M := M122) (by omega)
        have qM122 := po_f gn ((faQ gf gn 2) gi).2.2 (M122.1 98 11).toInt (M122.1 98 6).toInt (by omega)
        have u125f : b01 (XW M0 M122 0 1 0) = 1 := b01_i (Or.inl (by omega))
        have u125a := ca_x (M := M0) (N := M122) (r := 0) (e := 1) (s := 0) (by decide) (by omega) (by omega)
        have u125r := at_4z gf gn false (suR gf gn 2) gi (M0.1 98 11).toInt (M0.1 98 12).toInt (M0.1 98 6).toInt (M122.1 98 11).toInt (M122.1 98 12).toInt (M122.1 98 6).toInt (by omega) (by omega) (by omega)
        have u125l := cl_n (A := AGR) (M := M0) (N := M122) ((atL gf gn false (sLR gf gn 2)) gi) (a := (M122.1 98 11).toInt) (by omega)
        exact hret _ _ _ dX12_readAtom_113 ⟨hM122, (FR.rf.tr fM122 (by decide)), by omega⟩
      · have u126k := ri_k (M := M0) (by omega) (by omega)
        refine j_aload_n C 0 0 dX12_readAtom_75 rfl rfl ?_
        refine j_iload_n C 1 1 dX12_readAtom_76 rfl rfl ?_
        refine j_callVi C (d := 6) (As := [.int (sI 3)]) (st := []) 98 (s_lt rfl rfl) (s_kc (c := 11) rfl rfl) (by decide) rfl (s4_X12_goesIn hM0 hpr gf gn gi (by omega) (by omega) (by omega) (by omega) (by omega) (by omega) (by omega)) gX12_readAtom_X12_goesIn rfl hdX12_goesIn (by decide) (Nat.le_of_ble_eq_true rfl) dX12_readAtom_77 rfl (fun r127 M128 h129 => ?_)
        obtain ⟨a131, rfl, hM128, fM128, h130⟩ := h129
        have bM128 := tkm_b (f := gf) (n := gn) (M := M128) (by omega)
        refine y_if_ne C 84 dX12_readAtom_80 (by decide) (by omega) (fun h132 => ?_) (fun h132 => ?_)
        · have u133c := xw_c (N := M0) (P := M128) 1 (FR.cell fM128 (by decide)) (by omega)
          have u133t := xw_t (M := M0) (N := M0) (P := M128) (r1 := 0) (e1 := 0) (s1 := 0) (r2 := 0) (e2 := 0) (s2 := 1) 0 0 1 (by decide) (by omega) (by omega)
          have u133a := ca_x (M := M0) (N := M128) (r := 0) (e := 0) (s := 1) (by decide) (by omega) (by omega)
          have u133l := ri_l (M := M128) (by omega)
          refine j_aload_n C 0 0 dX12_readAtom_84 rfl rfl ?_
          refine j_iload_n C 1 1 dX12_readAtom_85 rfl rfl ?_
          refine y_iconst C dX12_readAtom_86 ?_
          refine y_iadd C dX12_readAtom_87 ?_
          refine j_callVv C (d := 15) (As := [.int (sI (3 + 1))]) (st := []) 98 (s_lt rfl rfl) (s_kc (c := 11) rfl rfl) (by decide) rfl (s3_X12_readSum hM128 hpr gf gn (nxF gf gn gi) (by omega) (by omega) (by omega) (by omega) (by omega)) gX12_readAtom_X12_readSum rfl hdX12_readSum (by decide) (Nat.le_of_ble_eq_true rfl) dX12_readAtom_88 rfl (fun M135 h136 => ?_)
          obtain ⟨hM135, fM135, h137⟩ := h136
          have bM135 := tkm_b (f := gf) (n := gn) (M := M135) (by omega)
          have qM135 := po_rr (suR gf gn 2) gn (nxF gf gn gi) (M128.1 98 11).toInt (M128.1 98 12).toInt (M128.1 98 6).toInt (M135.1 98 11).toInt (M135.1 98 12).toInt (M135.1 98 6).toInt (suR_g gf gn 2) (by omega) (by omega)
          have u138t := xw_t (M := M0) (N := M128) (P := M135) (r1 := 0) (e1 := 0) (s1 := 1) (r2 := 0) (e2 := 1) (s2 := 0) 0 1 1 (by decide) (by omega) (by omega)
          have u138l := ri_l (M := M135) (by omega)
          refine j_aload_n C 0 0 dX12_readAtom_91 rfl rfl ?_
          refine y_bipush C dX12_readAtom_92 rfl ?_
          have k139 := tkm_K (f := gf) (n := gn) (M := M135) (by omega)
          have k140 := kd_2 (kdk_36 gf gn (M135.1 98 6).toInt) (by omega)
          refine j_callVi C (d := 6) (As := [.int (sI 36)]) (st := []) 98 (s_lt rfl rfl) (s_kc (c := 11) rfl rfl) (by decide) rfl (s1_X12_eats hM135 hpr 36 (by omega) gf gn ((suR gf gn 2) (nxF gf gn gi)).2.2 (by omega) (by omega) (by omega) (by omega) (by omega)) gX12_readAtom_X12_eats rfl hdX12_eats (by decide) (Nat.le_of_ble_eq_true rfl) dX12_readAtom_94 rfl (fun r141 M142 h143 => ?_)
          obtain ⟨a145, rfl, hM142, fM142, h144⟩ := h143
          have k146 := tk_c gf gn (M142.1 98 6).toInt (M135.1 98 6).toInt
          have bM142 := tkm_b (f := gf) (n := gn) (M := M142) (by omega)
          have u147c := xw_c (N := M135) (P := M142) 0 (FR.cell fM142 (by decide)) (by omega)
          have u147t := xw_t (M := M0) (N := M135) (P := M142) (r1 := 0) (e1 := 1) (s1 := 1) (r2 := 0) (e2 := 0) (s2 := 0) 0 1 0 (by decide) (by omega) (by omega)
          have u147a := ca_x (M := M0) (N := M142) (r := 0) (e := 1) (s := 0) (by decide) (by omega) (by omega)
          have u147l := ri_l (M := M142) (by omega)
          refine y_if_ne C 113 dX12_readAtom_97 (by decide) (by omega) (fun h148 => ?_) (fun h148 => ?_)
          · have u149x := ex_1 gf gn 2041 ((suR gf gn 2) (nxF gf gn gi)).2.2 (M135.1 98 11).toInt (M135.1 98 12).toInt (M135.1 98 6).toInt (M142.1 98 11).toInt (M142.1 98 12).toInt (M142.1 98 6).toInt (by omega) (by omega) (by omega) (by omega) (by omega) (by omega)
            have u149r := at_2 gf gn (suR gf gn 2) gi (M0.1 98 11).toInt (M0.1 98 12).toInt (M0.1 98 6).toInt (M128.1 98 11).toInt (M128.1 98 12).toInt (M135.1 98 11).toInt (M135.1 98 12).toInt (M135.1 98 6).toInt (M142.1 98 11).toInt (M142.1 98 12).toInt (M142.1 98 6).toInt (by omega) (by omega) (by omega) (by omega) (by omega) (by omega)
            have u149l : b01 (CL AGR (M142.1 98 11).toInt M0 M142 ((atL gf gn false (sLR gf gn 2)) gi)) = 1 := cl_e (cl_t (cl_t (cl_r (A := AGR) (M := M0) (N := M128) (M128.1 98 11).toInt (agr_c (FR.cell fM128 (by decide)))) (show b01 (CL AGR (M135.1 98 11).toInt M128 M135 ((sLR gf gn 2) (nxF gf gn gi))) = 1 by omega) (fun z => rr_z (show b01 (RR ((suR gf gn 2) (nxF gf gn gi)) (M128.1 98 11).toInt (M128.1 98 12).toInt (M135.1 98 11).toInt (M135.1 98 12).toInt (M135.1 98 6).toInt) = 1 by omega) z)) (cl_r (A := AGR) (M := M135) (N := M142) (M142.1 98 11).toInt (agr_c (FR.cell fM142 (by decide)))) (fun z => by omega)) (fun z => by rw [at_l2 gf gn (sLR gf gn 2) (show b01 (PO gn gi (M0.1 98 11).toInt (M0.1 98 6).toInt) = 1 by omega) (by omega) (by omega), List.nil_append, List.append_nil])
            exact hret _ _ _ dX12_readAtom_113 ⟨hM142, (((FR.rf.tr fM128 (by decide)).tr fM135 (by decide)).tr fM142 (by decide)), by omega⟩
          · refine j_aload_n C 0 0 dX12_readAtom_100 rfl rfl ?_
            refine y_iconst C dX12_readAtom_101 ?_
            have p150 := po_eq gn ((suR gf gn 2) (nxF gf gn gi)).2.2 (M135.1 98 11).toInt (M135.1 98 6).toInt (M142.1 98 11).toInt (M142.1 98 6).toInt (by omega) (by omega) (by omega)
            refine j_callVv C (d := 0) (As := [.int (sI 2)]) (st := []) 98 (s_lt rfl rfl) (s_kc (c := 11) rfl rfl) (by decide) rfl (s1_X12_fails hM142 hpr 2 (by omega) gf gn ((suR gf gn 2) (nxF gf gn gi)).2.2 (by omega) (by omega) (by omega) (by omega) (by omega)) gX12_readAtom_X12_fails rfl hdX12_fails (by decide) (Nat.le_of_ble_eq_true rfl) dX12_readAtom_102 rfl (fun M152 h153 => ?_)
            obtain ⟨hM152, fM152, h154⟩ := h153
            have bM152 := tkm_b (f := gf) (n := gn) (M := M152) (by omega)
            have qM152 := po_f gn ((faQ gf gn 2) ((suR gf gn 2) (nxF gf gn gi)).2.2).2.2 (M152.1 98 11).toInt (M152.1 98 6).toInt (by omega)
            have u155f : b01 (XW M0 M152 0 1 0) = 1 := b01_i (Or.inl (by omega))
            have u155a := ca_x (M := M0) (N := M152) (r := 0) (e := 1) (s := 0) (by decide) (by omega) (by omega)
            refine j_goto C 113 dX12_readAtom_105 (by decide) ?_
            have u156x := ex_2z gf gn 2041 ((suR gf gn 2) (nxF gf gn gi)).2.2 (M135.1 98 11).toInt (M135.1 98 12).toInt (M135.1 98 6).toInt (M152.1 98 11).toInt (M152.1 98 12).toInt (M152.1 98 6).toInt (by omega) (by omega) (rr_fr (faQ gf gn 2 ((suR gf gn 2) (nxF gf gn gi)).2.2) (M135.1 98 11).toInt (M135.1 98 12).toInt (M142.1 98 11).toInt (M142.1 98 12).toInt (M152.1 98 11).toInt (M152.1 98 12).toInt (M152.1 98 6).toInt (by omega) (by omega) (by omega))
            have u156r := at_2 gf gn (suR gf gn 2) gi (M0.1 98 11).toInt (M0.1 98 12).toInt (M0.1 98 6).toInt (M128.1 98 11).toInt (M128.1 98 12).toInt (M135.1 98 11).toInt (M135.1 98 12).toInt (M135.1 98 6).toInt (M152.1 98 11).toInt (M152.1 98 12).toInt (M152.1 98 6).toInt (by omega) (by omega) (by omega) (by omega) (by omega) (by omega)
            have u156l := cl_n (A := AGR) (M := M0) (N := M152) ((atL gf gn false (sLR gf gn 2)) gi) (a := (M152.1 98 11).toInt) (by omega)
            exact hret _ _ _ dX12_readAtom_113 ⟨hM152, ((((FR.rf.tr fM128 (by decide)).tr fM135 (by decide)).tr fM142 (by decide)).tr fM152 (by decide)), by omega⟩
        · exfalso; omega
    · refine j_aload_n C 0 0 dX12_readAtom_31 rfl rfl ?_
      refine j_aload_n C 0 0 dX12_readAtom_32 rfl rfl ?_
      refine y_getI C 11 _ _ fX12_readAtom_108 rfl rfl ft_11_9 sb_11_9 hM0 dX12_readAtom_33 (fun a157 ea157 la157 ua157 => ?_)
      obtain rfl : a157 = (M0.1 98 9).toInt := ea157
      have k159 := tkm_K (f := gf) (n := gn) (M := M0) (by omega)
      have k160 := kd_2 (wo_k gf gn (M0.1 98 6).toInt) (by omega)
      have k161 := wo_c (M0.1 98 9).toInt (kdF (tkF gf gn (M0.1 98 6).toInt))
      refine j_callVi C (d := 0) (As := [.int (sI (M0.1 98 9).toInt)]) (st := []) 98 (s_lt rfl rfl) (s_kc (c := 11) rfl rfl) (by decide) rfl (s1_X12_wordOf hM0 (M0.1 98 9).toInt (by omega)) gX12_readAtom_X12_wordOf rfl hdX12_wordOf (by decide) (Nat.le_of_ble_eq_true rfl) dX12_readAtom_36 rfl (fun r162 M163 h164 => ?_)
      obtain ⟨a166, rfl, rfl, h165⟩ := h164
      obtain rfl : a166 = (woF (M0.1 98 9).toInt) := by omega
      refine y_iconst C dX12_readAtom_39 ?_
      refine y_icmp_eq C 66 dX12_readAtom_40 (by decide) (by omega) (fun h167 => ?_) (fun h167 => ?_)
      · refine j_aload_n C 0 0 dX12_readAtom_66 rfl rfl ?_
        refine y_bipush C dX12_readAtom_67 rfl ?_
        have k168 := tkm_K (f := gf) (n := gn) (M := M0) (by omega)
        have k169 := kd_2 (kdk_35 gf gn (M0.1 98 6).toInt) (by omega)
        refine j_callVi C (d := 0) (As := [.int (sI 35)]) (st := []) 98 (s_lt rfl rfl) (s_kc (c := 11) rfl rfl) (by decide) rfl (s1_X12_is hM0 35 (by omega)) gX12_readAtom_X12_is rfl hdX12_is (by decide) (Nat.le_of_ble_eq_true rfl) dX12_readAtom_69 rfl (fun r170 M171 h172 => ?_)
        obtain ⟨a174, rfl, rfl, h173⟩ := h172
        refine y_if_eq C 108 dX12_readAtom_72 (by decide) (by omega) (fun h175 => ?_) (fun h175 => ?_)
        · refine j_aload_n C 0 0 dX12_readAtom_108 rfl rfl ?_
          refine y_iconst C dX12_readAtom_109 ?_
          refine j_callVv C (d := 0) (As := [.int (sI 2)]) (st := []) 98 (s_lt rfl rfl) (s_kc (c := 11) rfl rfl) (by decide) rfl (s1_X12_fails hM0 hpr 2 (by omega) gf gn gi (by omega) (by omega) (by omega) (by omega) (by omega)) gX12_readAtom_X12_fails rfl hdX12_fails (by decide) (Nat.le_of_ble_eq_true rfl) dX12_readAtom_110 rfl (fun M177 h178 => ?_)
          obtain ⟨hM177, fM177, h179⟩ := h178
          have bM177 := tkm_b (f := gf) (n := gn) (M := M177) (by omega)
          have qM177 := po_f gn ((faQ gf gn 2) gi).2.2 (M177.1 98 11).toInt (M177.1 98 6).toInt (by omega)
          have u180f : b01 (XW M0 M177 0 1 0) = 1 := b01_i (Or.inl (by omega))
          have u180a := ca_x (M := M0) (N := M177) (r := 0) (e := 1) (s := 0) (by decide) (by omega) (by omega)
          have u180r := at_4z gf gn false (suR gf gn 2) gi (M0.1 98 11).toInt (M0.1 98 12).toInt (M0.1 98 6).toInt (M177.1 98 11).toInt (M177.1 98 12).toInt (M177.1 98 6).toInt (by omega) (by omega) (by omega)
          have u180l := cl_n (A := AGR) (M := M0) (N := M177) ((atL gf gn false (sLR gf gn 2)) gi) (a := (M177.1 98 11).toInt) (by omega)
          exact hret _ _ _ dX12_readAtom_113 ⟨hM177, (FR.rf.tr fM177 (by decide)), by omega⟩
        · have u181k := ri_k (M := M0) (by omega) (by omega)
          refine j_aload_n C 0 0 dX12_readAtom_75 rfl rfl ?_
          refine j_iload_n C 1 1 dX12_readAtom_76 rfl rfl ?_
          refine j_callVi C (d := 6) (As := [.int (sI 3)]) (st := []) 98 (s_lt rfl rfl) (s_kc (c := 11) rfl rfl) (by decide) rfl (s4_X12_goesIn hM0 hpr gf gn gi (by omega) (by omega) (by omega) (by omega) (by omega) (by omega) (by omega)) gX12_readAtom_X12_goesIn rfl hdX12_goesIn (by decide) (Nat.le_of_ble_eq_true rfl) dX12_readAtom_77 rfl (fun r182 M183 h184 => ?_)
          obtain ⟨a186, rfl, hM183, fM183, h185⟩ := h184
          have bM183 := tkm_b (f := gf) (n := gn) (M := M183) (by omega)
          refine y_if_ne C 84 dX12_readAtom_80 (by decide) (by omega) (fun h187 => ?_) (fun h187 => ?_)
          · have u188c := xw_c (N := M0) (P := M183) 1 (FR.cell fM183 (by decide)) (by omega)
            have u188t := xw_t (M := M0) (N := M0) (P := M183) (r1 := 0) (e1 := 0) (s1 := 0) (r2 := 0) (e2 := 0) (s2 := 1) 0 0 1 (by decide) (by omega) (by omega)
            have u188a := ca_x (M := M0) (N := M183) (r := 0) (e := 0) (s := 1) (by decide) (by omega) (by omega)
            have u188l := ri_l (M := M183) (by omega)
            refine j_aload_n C 0 0 dX12_readAtom_84 rfl rfl ?_
            refine j_iload_n C 1 1 dX12_readAtom_85 rfl rfl ?_
            refine y_iconst C dX12_readAtom_86 ?_
            refine y_iadd C dX12_readAtom_87 ?_
            refine j_callVv C (d := 15) (As := [.int (sI (3 + 1))]) (st := []) 98 (s_lt rfl rfl) (s_kc (c := 11) rfl rfl) (by decide) rfl (s3_X12_readSum hM183 hpr gf gn (nxF gf gn gi) (by omega) (by omega) (by omega) (by omega) (by omega)) gX12_readAtom_X12_readSum rfl hdX12_readSum (by decide) (Nat.le_of_ble_eq_true rfl) dX12_readAtom_88 rfl (fun M190 h191 => ?_)
            obtain ⟨hM190, fM190, h192⟩ := h191
            have bM190 := tkm_b (f := gf) (n := gn) (M := M190) (by omega)
            have qM190 := po_rr (suR gf gn 2) gn (nxF gf gn gi) (M183.1 98 11).toInt (M183.1 98 12).toInt (M183.1 98 6).toInt (M190.1 98 11).toInt (M190.1 98 12).toInt (M190.1 98 6).toInt (suR_g gf gn 2) (by omega) (by omega)
            have u193t := xw_t (M := M0) (N := M183) (P := M190) (r1 := 0) (e1 := 0) (s1 := 1) (r2 := 0) (e2 := 1) (s2 := 0) 0 1 1 (by decide) (by omega) (by omega)
            have u193l := ri_l (M := M190) (by omega)
            refine j_aload_n C 0 0 dX12_readAtom_91 rfl rfl ?_
            refine y_bipush C dX12_readAtom_92 rfl ?_
            have k194 := tkm_K (f := gf) (n := gn) (M := M190) (by omega)
            have k195 := kd_2 (kdk_36 gf gn (M190.1 98 6).toInt) (by omega)
            refine j_callVi C (d := 6) (As := [.int (sI 36)]) (st := []) 98 (s_lt rfl rfl) (s_kc (c := 11) rfl rfl) (by decide) rfl (s1_X12_eats hM190 hpr 36 (by omega) gf gn ((suR gf gn 2) (nxF gf gn gi)).2.2 (by omega) (by omega) (by omega) (by omega) (by omega)) gX12_readAtom_X12_eats rfl hdX12_eats (by decide) (Nat.le_of_ble_eq_true rfl) dX12_readAtom_94 rfl (fun r196 M197 h198 => ?_)
            obtain ⟨a200, rfl, hM197, fM197, h199⟩ := h198
            have k201 := tk_c gf gn (M197.1 98 6).toInt (M190.1 98 6).toInt
            have bM197 := tkm_b (f := gf) (n := gn) (M := M197) (by omega)
            have u202c := xw_c (N := M190) (P := M197) 0 (FR.cell fM197 (by decide)) (by omega)
            have u202t := xw_t (M := M0) (N := M190) (P := M197) (r1 := 0) (e1 := 1) (s1 := 1) (r2 := 0) (e2 := 0) (s2 := 0) 0 1 0 (by decide) (by omega) (by omega)
            have u202a := ca_x (M := M0) (N := M197) (r := 0) (e := 1) (s := 0) (by decide) (by omega) (by omega)
            have u202l := ri_l (M := M197) (by omega)
            refine y_if_ne C 113 dX12_readAtom_97 (by decide) (by omega) (fun h203 => ?_) (fun h203 => ?_)
            · have u204x := ex_1 gf gn 2041 ((suR gf gn 2) (nxF gf gn gi)).2.2 (M190.1 98 11).toInt (M190.1 98 12).toInt (M190.1 98 6).toInt (M197.1 98 11).toInt (M197.1 98 12).toInt (M197.1 98 6).toInt (by omega) (by omega) (by omega) (by omega) (by omega) (by omega)
              have u204r := at_2 gf gn (suR gf gn 2) gi (M0.1 98 11).toInt (M0.1 98 12).toInt (M0.1 98 6).toInt (M183.1 98 11).toInt (M183.1 98 12).toInt (M190.1 98 11).toInt (M190.1 98 12).toInt (M190.1 98 6).toInt (M197.1 98 11).toInt (M197.1 98 12).toInt (M197.1 98 6).toInt (by omega) (by omega) (by omega) (by omega) (by omega) (by omega)
              have u204l : b01 (CL AGR (M197.1 98 11).toInt M0 M197 ((atL gf gn false (sLR gf gn 2)) gi)) = 1 := cl_e (cl_t (cl_t (cl_r (A := AGR) (M := M0) (N := M183) (M183.1 98 11).toInt (agr_c (FR.cell fM183 (by decide)))) (show b01 (CL AGR (M190.1 98 11).toInt M183 M190 ((sLR gf gn 2) (nxF gf gn gi))) = 1 by omega) (fun z => rr_z (show b01 (RR ((suR gf gn 2) (nxF gf gn gi)) (M183.1 98 11).toInt (M183.1 98 12).toInt (M190.1 98 11).toInt (M190.1 98 12).toInt (M190.1 98 6).toInt) = 1 by omega) z)) (cl_r (A := AGR) (M := M190) (N := M197) (M197.1 98 11).toInt (agr_c (FR.cell fM197 (by decide)))) (fun z => by omega)) (fun z => by rw [at_l2 gf gn (sLR gf gn 2) (show b01 (PO gn gi (M0.1 98 11).toInt (M0.1 98 6).toInt) = 1 by omega) (by omega) (by omega), List.nil_append, List.append_nil])
              exact hret _ _ _ dX12_readAtom_113 ⟨hM197, (((FR.rf.tr fM183 (by decide)).tr fM190 (by decide)).tr fM197 (by decide)), by omega⟩
            · refine j_aload_n C 0 0 dX12_readAtom_100 rfl rfl ?_
              refine y_iconst C dX12_readAtom_101 ?_
              have p205 := po_eq gn ((suR gf gn 2) (nxF gf gn gi)).2.2 (M190.1 98 11).toInt (M190.1 98 6).toInt (M197.1 98 11).toInt (M197.1 98 6).toInt (by omega) (by omega) (by omega)
              refine j_callVv C (d := 0) (As := [.int (sI 2)]) (st := []) 98 (s_lt rfl rfl) (s_kc (c := 11) rfl rfl) (by decide) rfl (s1_X12_fails hM197 hpr 2 (by omega) gf gn ((suR gf gn 2) (nxF gf gn gi)).2.2 (by omega) (by omega) (by omega) (by omega) (by omega)) gX12_readAtom_X12_fails rfl hdX12_fails (by decide) (Nat.le_of_ble_eq_true rfl) dX12_readAtom_102 rfl (fun M207 h208 => ?_)
              obtain ⟨hM207, fM207, h209⟩ := h208
              have bM207 := tkm_b (f := gf) (n := gn) (M := M207) (by omega)
              have qM207 := po_f gn ((faQ gf gn 2) ((suR gf gn 2) (nxF gf gn gi)).2.2).2.2 (M207.1 98 11).toInt (M207.1 98 6).toInt (by omega)
              have u210f : b01 (XW M0 M207 0 1 0) = 1 := b01_i (Or.inl (by omega))
              have u210a := ca_x (M := M0) (N := M207) (r := 0) (e := 1) (s := 0) (by decide) (by omega) (by omega)
              refine j_goto C 113 dX12_readAtom_105 (by decide) ?_
              have u211x := ex_2z gf gn 2041 ((suR gf gn 2) (nxF gf gn gi)).2.2 (M190.1 98 11).toInt (M190.1 98 12).toInt (M190.1 98 6).toInt (M207.1 98 11).toInt (M207.1 98 12).toInt (M207.1 98 6).toInt (by omega) (by omega) (rr_fr (faQ gf gn 2 ((suR gf gn 2) (nxF gf gn gi)).2.2) (M190.1 98 11).toInt (M190.1 98 12).toInt (M197.1 98 11).toInt (M197.1 98 12).toInt (M207.1 98 11).toInt (M207.1 98 12).toInt (M207.1 98 6).toInt (by omega) (by omega) (by omega))
              have u211r := at_2 gf gn (suR gf gn 2) gi (M0.1 98 11).toInt (M0.1 98 12).toInt (M0.1 98 6).toInt (M183.1 98 11).toInt (M183.1 98 12).toInt (M190.1 98 11).toInt (M190.1 98 12).toInt (M190.1 98 6).toInt (M207.1 98 11).toInt (M207.1 98 12).toInt (M207.1 98 6).toInt (by omega) (by omega) (by omega) (by omega) (by omega) (by omega)
              have u211l := cl_n (A := AGR) (M := M0) (N := M207) ((atL gf gn false (sLR gf gn 2)) gi) (a := (M207.1 98 11).toInt) (by omega)
              exact hret _ _ _ dX12_readAtom_113 ⟨hM207, ((((FR.rf.tr fM183 (by decide)).tr fM190 (by decide)).tr fM197 (by decide)).tr fM207 (by decide)), by omega⟩
          · exfalso; omega
      · have u212w := woF_s (M0.1 98 9).toInt
        have u212k := ri_k (M := M0) (by omega) (by omega)
        have u212b := cb_0 (M := M0) (by omega) (by omega)
        refine j_aload_n C 0 0 dX12_readAtom_43 rfl rfl ?_
        refine y_sipush C dX12_readAtom_44 rfl ?_
        refine j_aload_n C 0 0 dX12_readAtom_47 rfl rfl ?_
        refine j_aload_n C 0 0 dX12_readAtom_48 rfl rfl ?_
        refine y_getI C 11 _ _ fX12_readAtom_108 rfl rfl ft_11_9 sb_11_9 hM0 dX12_readAtom_49 (fun a213 ea213 la213 ua213 => ?_)
        obtain rfl : a213 = (M0.1 98 9).toInt := ea213
        have k215 := tkm_K (f := gf) (n := gn) (M := M0) (by omega)
        have k216 := kd_2 (wo_k gf gn (M0.1 98 6).toInt) (by omega)
        have k217 := wo_c (M0.1 98 9).toInt (kdF (tkF gf gn (M0.1 98 6).toInt))
        refine j_callVi C (d := 0) (As := [.int (sI (M0.1 98 9).toInt)]) (st := [.int (sI 1000), .ref (ad 98)]) 98 (s_lt rfl rfl) (s_kc (c := 11) rfl rfl) (by decide) rfl (s1_X12_wordOf hM0 (M0.1 98 9).toInt (by omega)) gX12_readAtom_X12_wordOf rfl hdX12_wordOf (by decide) (Nat.le_of_ble_eq_true rfl) dX12_readAtom_52 rfl (fun r218 M219 h220 => ?_)
        obtain ⟨a222, rfl, rfl, h221⟩ := h220
        obtain rfl : a222 = (woF (M0.1 98 9).toInt) := by omega
        refine y_iadd C dX12_readAtom_55 ?_
        refine j_callVv C (d := 0) (As := [.int (sI (1000 + (woF (M0.1 98 9).toInt)))]) (st := []) 98 (s_lt rfl rfl) (s_kc (c := 11) rfl rfl) (by decide) rfl (s1_X12_codes hM0 hpr (1000 + (woF (M0.1 98 9).toInt)) (by omega) gf gn gi (by omega) (by omega) (by omega) (by omega)) gX12_readAtom_X12_codes rfl hdX12_codes (by decide) (Nat.le_of_ble_eq_true rfl) dX12_readAtom_56 rfl (fun M225 h226 => ?_)
        obtain ⟨hM225, fM225, h227⟩ := h226
        have k228 := tk_c gf gn (M225.1 98 6).toInt (M0.1 98 6).toInt
        have bM225 := tkm_b (f := gf) (n := gn) (M := M225) (by omega)
        have qM225 := po_eq gn gi (M0.1 98 11).toInt (M0.1 98 6).toInt (M225.1 98 11).toInt (M225.1 98 6).toInt (by omega) (by omega) (by omega)
        have u229x := xw_a (M := M0) (N := M225) (c := (1000 + (woF (M0.1 98 9).toInt))) (r := 0) (e := 1) (FR.cell fM225 (by decide)) (ap_push ⟨(INV.rd hM0 (i := 102) (c := 48) (k := 280) rfl rfl).1, by omega, by omega⟩) (by omega)
        have u229t := xw_t (M := M0) (N := M0) (P := M225) (r1 := 0) (e1 := 0) (s1 := 0) (r2 := 0) (e2 := 1) (s2 := (-1)) 0 1 (-1) (by decide) (by omega) (by omega)
        have u229i := ri_c (M := M0) (N := M225) (FR.cell fM225 (by decide)) (by omega)
        have u229l := ri_l (M := M225) (by omega)
        have u229q6 : (M225.1 98 6).toInt = (M0.1 98 6).toInt := by rw [show M225.1 98 = M0.1 98 from FR.cell fM225 (by decide)]
        have u229q7 : (M225.1 98 7).toInt = (M0.1 98 7).toInt := by rw [show M225.1 98 = M0.1 98 from FR.cell fM225 (by decide)]
        have u229q8 : (M225.1 98 8).toInt = (M0.1 98 8).toInt := by rw [show M225.1 98 = M0.1 98 from FR.cell fM225 (by decide)]
        have u229q9 : (M225.1 98 9).toInt = (M0.1 98 9).toInt := by rw [show M225.1 98 = M0.1 98 from FR.cell fM225 (by decide)]
        have u229q11 : (M225.1 98 11).toInt = (M0.1 98 11).toInt := by rw [show M225.1 98 = M0.1 98 from FR.cell fM225 (by decide)]
        refine j_aload_n C 0 0 dX12_readAtom_59 rfl rfl ?_
        have zz98_7 : (M225.1 98 7).toInt = (M0.1 98 7).toInt := s_fF fM225 (by decide) (rfl)
        have zz98_8 : (M225.1 98 8).toInt = (M0.1 98 8).toInt := s_fF fM225 (by decide) (rfl)
        have k230 := tkm_p (f := gf) (n := gn) (M := M225) (by omega)
        have k231 := tkm_K (f := gf) (n := gn) (M := M225) (by omega)
        refine j_callVv C (d := 5) (As := []) (st := []) 98 (s_lt rfl rfl) (s_kc (c := 11) rfl rfl) (by decide) rfl (s1_X12_next hM225 hpr gf gn (by omega) (by omega) (by omega) (by omega)) gX12_readAtom_X12_next rfl hdX12_next (by decide) (Nat.le_of_ble_eq_true rfl) dX12_readAtom_60 rfl (fun M233 h234 => ?_)
        obtain ⟨hM233, fM233, h235⟩ := h234
        have bM233 := tkm_b (f := gf) (n := gn) (M := M233) (by omega)
        have qM233 := nx_po (f := gf) (n := gn) (i := gi) (M := M225) (M' := M233) (by omega) (by omega) (by omega) (by omega) (by omega)
        have u236c := xw_c (N := M225) (P := M233) 1 (FR.cell fM233 (by decide)) (by omega)
        have u236t := xw_t (M := M0) (N := M225) (P := M233) (r1 := 0) (e1 := 1) (s1 := (-1)) (r2 := 0) (e2 := 0) (s2 := 1) 0 1 0 (by decide) (by omega) (by omega)
        have u236a := ca_x (M := M0) (N := M233) (r := 0) (e := 1) (s := 0) (by decide) (by omega) (by omega)
        refine j_goto C 113 dX12_readAtom_63 (by decide) ?_
        have u237r := at_1 gf gn false (suR gf gn 2) gi (M0.1 98 11).toInt (M0.1 98 12).toInt (M0.1 98 6).toInt (M233.1 98 11).toInt (M233.1 98 12).toInt (M233.1 98 6).toInt (by omega) (by omega) (by omega) (by omega) (by omega) (by omega)
        have u237l : b01 (CL AGR (M233.1 98 11).toInt M0 M233 ((atL gf gn false (sLR gf gn 2)) gi)) = 1 := cl_e (cl_t (show b01 (CL AGR (M225.1 98 11).toInt M0 M225 [(1000 + (woF (M0.1 98 9).toInt))]) = 1 by omega) (cl_r (A := AGR) (M := M225) (N := M233) (M233.1 98 11).toInt (agr_c (FR.cell fM233 (by decide)))) (fun z => by omega)) (fun z => by rw [at_l1 gf gn false (sLR gf gn 2) (show b01 (PO gn gi (M0.1 98 11).toInt (M0.1 98 6).toInt) = 1 by omega) (by omega) (by omega), show cmF (tkF gf gn (M0.1 98 6).toInt) = (1000 + (woF (M0.1 98 9).toInt)) from (cm_lo (by omega)).trans (by omega)]; rfl)
        exact hret _ _ _ dX12_readAtom_113 ⟨hM233, ((FR.rf.tr fM225 (by decide)).tr fM233 (by decide)), by omega⟩
  · have u238k := ri_k (M := M0) (by omega) (by omega)
    have u238b := cb_0 (M := M0) (by omega) (by omega)
    refine j_aload_n C 0 0 dX12_readAtom_9 rfl rfl ?_
    refine j_aload_n C 0 0 dX12_readAtom_10 rfl rfl ?_
    refine y_getI C 11 _ _ fX12_readAtom_121 rfl rfl ft_11_10 sb_11_10 hM0 dX12_readAtom_11 (fun a239 ea239 la239 ua239 => ?_)
    obtain rfl : a239 = (M0.1 98 10).toInt := ea239
    have u241n := tkm_N (f := gf) (n := gn) (M := M0) (by omega)
    refine j_callVv C (d := 0) (As := [.int (sI (M0.1 98 10).toInt)]) (st := []) 98 (s_lt rfl rfl) (s_kc (c := 11) rfl rfl) (by decide) rfl (s1_X12_codes hM0 hpr (M0.1 98 10).toInt (by omega) gf gn gi (by omega) (by omega) (by omega) (by omega)) gX12_readAtom_X12_codes rfl hdX12_codes (by decide) (Nat.le_of_ble_eq_true rfl) dX12_readAtom_14 rfl (fun M243 h244 => ?_)
    obtain ⟨hM243, fM243, h245⟩ := h244
    have k246 := tk_c gf gn (M243.1 98 6).toInt (M0.1 98 6).toInt
    have bM243 := tkm_b (f := gf) (n := gn) (M := M243) (by omega)
    have qM243 := po_eq gn gi (M0.1 98 11).toInt (M0.1 98 6).toInt (M243.1 98 11).toInt (M243.1 98 6).toInt (by omega) (by omega) (by omega)
    have u247x := xw_a (M := M0) (N := M243) (c := (M0.1 98 10).toInt) (r := 0) (e := 1) (FR.cell fM243 (by decide)) (ap_push ⟨(INV.rd hM0 (i := 102) (c := 48) (k := 280) rfl rfl).1, by omega, by omega⟩) (by omega)
    have u247t := xw_t (M := M0) (N := M0) (P := M243) (r1 := 0) (e1 := 0) (s1 := 0) (r2 := 0) (e2 := 1) (s2 := (-1)) 0 1 (-1) (by decide) (by omega) (by omega)
    have u247i := ri_c (M := M0) (N := M243) (FR.cell fM243 (by decide)) (by omega)
    have u247l := ri_l (M := M243) (by omega)
    have u247q6 : (M243.1 98 6).toInt = (M0.1 98 6).toInt := by rw [show M243.1 98 = M0.1 98 from FR.cell fM243 (by decide)]
    have u247q7 : (M243.1 98 7).toInt = (M0.1 98 7).toInt := by rw [show M243.1 98 = M0.1 98 from FR.cell fM243 (by decide)]
    have u247q8 : (M243.1 98 8).toInt = (M0.1 98 8).toInt := by rw [show M243.1 98 = M0.1 98 from FR.cell fM243 (by decide)]
    have u247q9 : (M243.1 98 9).toInt = (M0.1 98 9).toInt := by rw [show M243.1 98 = M0.1 98 from FR.cell fM243 (by decide)]
    have u247q11 : (M243.1 98 11).toInt = (M0.1 98 11).toInt := by rw [show M243.1 98 = M0.1 98 from FR.cell fM243 (by decide)]
    refine j_aload_n C 0 0 dX12_readAtom_17 rfl rfl ?_
    have zz98_7 : (M243.1 98 7).toInt = (M0.1 98 7).toInt := s_fF fM243 (by decide) (rfl)
    have zz98_8 : (M243.1 98 8).toInt = (M0.1 98 8).toInt := s_fF fM243 (by decide) (rfl)
    have k248 := tkm_p (f := gf) (n := gn) (M := M243) (by omega)
    have k249 := tkm_K (f := gf) (n := gn) (M := M243) (by omega)
    refine j_callVv C (d := 5) (As := []) (st := []) 98 (s_lt rfl rfl) (s_kc (c := 11) rfl rfl) (by decide) rfl (s1_X12_next hM243 hpr gf gn (by omega) (by omega) (by omega) (by omega)) gX12_readAtom_X12_next rfl hdX12_next (by decide) (Nat.le_of_ble_eq_true rfl) dX12_readAtom_18 rfl (fun M251 h252 => ?_)
    obtain ⟨hM251, fM251, h253⟩ := h252
    have bM251 := tkm_b (f := gf) (n := gn) (M := M251) (by omega)
    have qM251 := nx_po (f := gf) (n := gn) (i := gi) (M := M243) (M' := M251) (by omega) (by omega) (by omega) (by omega) (by omega)
    have u254c := xw_c (N := M243) (P := M251) 1 (FR.cell fM251 (by decide)) (by omega)
    have u254t := xw_t (M := M0) (N := M243) (P := M251) (r1 := 0) (e1 := 1) (s1 := (-1)) (r2 := 0) (e2 := 0) (s2 := 1) 0 1 0 (by decide) (by omega) (by omega)
    have u254a := ca_x (M := M0) (N := M251) (r := 0) (e := 1) (s := 0) (by decide) (by omega) (by omega)
    refine j_goto C 113 dX12_readAtom_21 (by decide) ?_
    have u255r := at_1 gf gn false (suR gf gn 2) gi (M0.1 98 11).toInt (M0.1 98 12).toInt (M0.1 98 6).toInt (M251.1 98 11).toInt (M251.1 98 12).toInt (M251.1 98 6).toInt (by omega) (by omega) (by omega) (by omega) (by omega) (by omega)
    have u255l : b01 (CL AGR (M251.1 98 11).toInt M0 M251 ((atL gf gn false (sLR gf gn 2)) gi)) = 1 := cl_e (cl_t (show b01 (CL AGR (M243.1 98 11).toInt M0 M243 [(M0.1 98 10).toInt]) = 1 by omega) (cl_r (A := AGR) (M := M243) (N := M251) (M251.1 98 11).toInt (agr_c (FR.cell fM251 (by decide)))) (fun z => by omega)) (fun z => by rw [at_l1 gf gn false (sLR gf gn 2) (show b01 (PO gn gi (M0.1 98 11).toInt (M0.1 98 6).toInt) = 1 by omega) (by omega) (by omega), show cmF (tkF gf gn (M0.1 98 6).toInt) = (M0.1 98 10).toInt from (cm_lo (by omega)).trans (by omega)]; rfl)
    exact hret _ _ _ dX12_readAtom_113 ⟨hM251, ((FR.rf.tr fM243 (by decide)).tr fM251 (by decide)), by omega⟩
set_option maxHeartbeats 4000000 in
theorem s4_X12_readTerm {l : Launch} {dC : Nat → ClassId} {dI : Nat → Nat → Nat} {ad : Nat → Nat} {cA : Nat → ClassId} {pr : Nat → Nat → Bool} {Kz : mm_M} {M0 : mm_M} (hM0 : INV pr Kz M0) (hpr : PM pr) (gf : Nat → Int) (gn : Int) (gi : Int) (hp0 : b01 (RIP M0) = 1) (hp1 : b01 (CA M0) = 1) (hp2 : b01 (TKM gf gn M0) = 1) (hp3 : b01 (PO gn gi (M0.1 98 11).toInt (M0.1 98 6).toInt) = 1) (hp4 : b01 (PI M0) = 1) : Cv l 17 yX12_readTerm wsX12_readTerm dC dI ad cA [.ref (ad 98), .int (sI 3)] M0 (fun M' => INV pr Kz M' ∧ FR [98, 102] M0 M' ∧ (b01 (RIP M') = 1) ∧ ((M'.1 98 8).toInt = (M0.1 98 8).toInt) ∧ ((M0.1 98 6).toInt ≤ (M'.1 98 6).toInt) ∧ (b01 (XW M0 M' 0 1 0) = 1) ∧ (b01 (CA M') = 1) ∧ (b01 (CL AGR (M'.1 98 11).toInt M0 M' ((teL gf gn false (suR gf gn 2) (sLR gf gn 2)) gi)) = 1) ∧ (b01 (PI M') = 1) ∧ (b01 (TKM gf gn M') = 1) ∧ b01 (RR ((teP gf gn false (suR gf gn 2)) gi) (M0.1 98 11).toInt (M0.1 98 12).toInt (M'.1 98 11).toInt (M'.1 98 12).toInt (M'.1 98 6).toInt) = 1) := by
  refine cv_of (cc := cX12_readTerm) (maxL := 2) (lv := [(0, .ref (ad 98)), (1, .int (sI 3))]) (by decide) rfl (Nat.le_of_ble_eq_true rfl) rfl ?_
  intro p e s m args below meth c A Q C hret
  have u101z := xw_0 M0
  have u101l := ri_l (M := M0) (by omega)
  refine j_aload_n C 0 0 dX12_readTerm_0 rfl rfl ?_
  refine j_iload_n C 1 1 dX12_readTerm_1 rfl rfl ?_
  refine j_callVv C (d := 16) (As := [.int (sI 3)]) (st := []) 98 (s_lt rfl rfl) (s_kc (c := 11) rfl rfl) (by decide) rfl (s4_X12_readAtom hM0 hpr gf gn gi (by omega) (by omega) (by omega) (by omega) (by omega)) gX12_readTerm_X12_readAtom rfl hdX12_readAtom (by decide) (Nat.le_of_ble_eq_true rfl) dX12_readTerm_2 rfl (fun M103 h104 => ?_)
  obtain ⟨hM103, fM103, h105⟩ := h104
  have bM103 := tkm_b (f := gf) (n := gn) (M := M103) (by omega)
  have qM103 := po_rr (atP gf gn false (suR gf gn 2)) gn gi (M0.1 98 11).toInt (M0.1 98 12).toInt (M0.1 98 6).toInt (M103.1 98 11).toInt (M103.1 98 12).toInt (M103.1 98 6).toInt (at_g gf gn (fun _ => suR_g gf gn 2)) (by omega) (by omega)
  have u106l := ri_l (M := M103) (by omega)
  have u106L := ll_0 (luP gf gn 2042 2042 (atP gf gn false (suR gf gn 2))) gn ((atP gf gn false (suR gf gn 2)) gi).2.2 (M103.1 98 11).toInt (M103.1 98 12).toInt (M103.1 98 6).toInt (by omega)
  have u106c := lc_0 (A := AGR) (M103.1 98 11).toInt (luL gf gn 2042 2042 (atP gf gn false (suR gf gn 2)) (atL gf gn false (sLR gf gn 2))) ((atP gf gn false (suR gf gn 2)) gi).2.2 M103
  have L133 : ∀ (n131 : Nat), ∀ (M134 : mm_M) (gq135 : Int), ((b01 (RIP M134) = 1) ∧ ((M134.1 98 8).toInt = (M0.1 98 8).toInt) ∧ ((M0.1 98 6).toInt ≤ (M134.1 98 6).toInt) ∧ (b01 (XW M0 M134 0 1 0) = 1) ∧ ((M134.1 98 6).toInt ≤ 900) ∧ (b01 (LL (luP gf gn 2042 2042 (atP gf gn false (suR gf gn 2))) gn ((atP gf gn false (suR gf gn 2)) gi).2.2 gq135 0 (M103.1 98 11).toInt (M103.1 98 12).toInt (M134.1 98 11).toInt (M134.1 98 12).toInt (M134.1 98 6).toInt) = 1) ∧ (b01 (LC AGR (M134.1 98 11).toInt (luL gf gn 2042 2042 (atP gf gn false (suR gf gn 2)) (atL gf gn false (sLR gf gn 2))) ((atP gf gn false (suR gf gn 2)) gi).2.2 gq135 M103 M134) = 1) ∧ (b01 (TKM gf gn M134) = 1) ∧ (b01 (PO gn gq135 (M134.1 98 11).toInt (M134.1 98 6).toInt) = 1) ∧ (b01 (PI M134) = 1) ∧ (900 - (M134.1 98 6).toInt) < (n131 : Int)) → INV pr Kz M134 → FR [98, 102] M0 M134 → jj p l e (cn_R 17) s m args below meth c 0 0 Q 2 dC dI ad cA A M134 5 [(0, .ref (ad 98)), (1, .int (sI 3))] [] := by
    intro n131
    induction n131 with
    | zero =>
      intro M134 gq135 h136 hM134 fM134
      exfalso; omega
    | succ n131 ih132 =>
      intro M134 gq135 h136 hM134 fM134
      have u137l := ri_l (M := M134) (by omega)
      have u137B := tkm_b (f := gf) (n := gn) (M := M134) (by omega)
      refine j_aload_n C 0 0 dX12_readTerm_5 rfl rfl ?_
      refine y_bipush C dX12_readTerm_6 rfl ?_
      have k138 := tkm_K (f := gf) (n := gn) (M := M134) (by omega)
      have k139 := kd_2 (kdk_34 gf gn (M134.1 98 6).toInt) (by omega)
      refine j_callVi C (d := 6) (As := [.int (sI 34)]) (st := []) 98 (s_lt rfl rfl) (s_kc (c := 11) rfl rfl) (by decide) rfl (s1_X12_eats hM134 hpr 34 (by omega) gf gn gq135 (by omega) (by omega) (by omega) (by omega) (by omega)) gX12_readTerm_X12_eats rfl hdX12_eats (by decide) (Nat.le_of_ble_eq_true rfl) dX12_readTerm_8 rfl (fun r140 M141 h142 => ?_)
      obtain ⟨a144, rfl, hM141, fM141, h143⟩ := h142
      have k145 := tk_c gf gn (M141.1 98 6).toInt (M134.1 98 6).toInt
      have bM141 := tkm_b (f := gf) (n := gn) (M := M141) (by omega)
      refine y_if_eq C 29 dX12_readTerm_11 (by decide) (by omega) (fun h146 => ?_) (fun h146 => ?_)
      · have u159c := xw_c (N := M134) (P := M141) 0 (FR.cell fM141 (by decide)) (by omega)
        have u159t := xw_t (M := M0) (N := M134) (P := M141) (r1 := 0) (e1 := 1) (s1 := 0) (r2 := 0) (e2 := 0) (s2 := 0) 0 1 0 (by decide) (by omega) (by omega)
        have u159a := ca_x (M := M0) (N := M141) (r := 0) (e := 1) (s := 0) (by decide) (by omega) (by omega)
        have u159E := ll_e gf gn 2042 2042 (atP gf gn false (suR gf gn 2)) ((atP gf gn false (suR gf gn 2)) gi).2.2 gq135 0 (M103.1 98 11).toInt (M103.1 98 12).toInt (M134.1 98 11).toInt (M134.1 98 12).toInt (M134.1 98 6).toInt (by decide) (at_g gf gn (fun _ => suR_g gf gn 2)) (by omega) (by omega)
        have u159S : b01 (RR ((teP gf gn false (suR gf gn 2)) gi) (M0.1 98 11).toInt (M0.1 98 12).toInt (M134.1 98 11).toInt (M134.1 98 12).toInt (M134.1 98 6).toInt) = 1 := rr_sq ((atP gf gn false (suR gf gn 2)) gi) (luP gf gn 2042 2042 (atP gf gn false (suR gf gn 2))) (M0.1 98 11).toInt (M0.1 98 12).toInt (M103.1 98 11).toInt (M103.1 98 12).toInt (M103.1 98 6).toInt (M134.1 98 11).toInt (M134.1 98 12).toInt (M134.1 98 6).toInt (by omega) (by omega)
        have u159R := rr_eq ((teP gf gn false (suR gf gn 2)) gi) (M0.1 98 11).toInt (M0.1 98 12).toInt (M134.1 98 11).toInt (M134.1 98 12).toInt (M134.1 98 6).toInt (M141.1 98 11).toInt (M141.1 98 12).toInt (M141.1 98 6).toInt (by omega) (by omega) (by omega) (by omega)
        have u159x := lc_e gf gn 2042 2042 (atP gf gn false (suR gf gn 2)) ((atL gf gn false (sLR gf gn 2))) (by decide) (show b01 (LC AGR (M134.1 98 11).toInt (luL gf gn 2042 2042 (atP gf gn false (suR gf gn 2)) (atL gf gn false (sLR gf gn 2))) ((atP gf gn false (suR gf gn 2)) gi).2.2 gq135 M103 M134) = 1 by omega) (show b01 (LL (luP gf gn 2042 2042 (atP gf gn false (suR gf gn 2))) gn ((atP gf gn false (suR gf gn 2)) gi).2.2 gq135 0 (M103.1 98 11).toInt (M103.1 98 12).toInt (M134.1 98 11).toInt (M134.1 98 12).toInt (M134.1 98 6).toInt) = 1 by omega) (by omega)
        have u159y : b01 (CL AGR (M134.1 98 11).toInt M0 M134 ((teL gf gn false (suR gf gn 2) (sLR gf gn 2)) gi)) = 1 := cl_e (cl_t (show b01 (CL AGR (M103.1 98 11).toInt M0 M103 ((atL gf gn false (sLR gf gn 2)) gi)) = 1 by omega) u159x (fun z => rr_z (show b01 (RR ((luP gf gn 2042 2042 (atP gf gn false (suR gf gn 2))) ((atP gf gn false (suR gf gn 2)) gi).2.2) (M103.1 98 11).toInt (M103.1 98 12).toInt (M134.1 98 11).toInt (M134.1 98 12).toInt (M134.1 98 6).toInt) = 1 by omega) z)) (fun z => rfl)
        have u159l : b01 (CL AGR (M141.1 98 11).toInt M0 M141 ((teL gf gn false (suR gf gn 2) (sLR gf gn 2)) gi)) = 1 := cl_e (cl_t u159y (cl_r (A := AGR) (M := M134) (N := M141) (M141.1 98 11).toInt (agr_c (FR.cell fM141 (by decide)))) (fun z => by omega)) (fun z => (List.append_nil _).symm)
        exact hret _ _ _ dX12_readTerm_29 ⟨hM141, ((FR.rf.tr fM134 (by decide)).tr fM141 (by decide)), by omega⟩
      · have u147c := xw_c (N := M134) (P := M141) 1 (FR.cell fM141 (by decide)) (by omega)
        have u147t := xw_t (M := M0) (N := M134) (P := M141) (r1 := 0) (e1 := 1) (s1 := 0) (r2 := 0) (e2 := 0) (s2 := 1) 0 1 1 (by decide) (by omega) (by omega)
        have u147a := ca_x (M := M0) (N := M141) (r := 0) (e := 1) (s := 1) (by decide) (by omega) (by omega)
        have u147l := ri_l (M := M141) (by omega)
        refine j_aload_n C 0 0 dX12_readTerm_14 rfl rfl ?_
        refine j_iload_n C 1 1 dX12_readTerm_15 rfl rfl ?_
        refine j_callVv C (d := 16) (As := [.int (sI 3)]) (st := []) 98 (s_lt rfl rfl) (s_kc (c := 11) rfl rfl) (by decide) rfl (s4_X12_readAtom hM141 hpr gf gn (nxF gf gn gq135) (by omega) (by omega) (by omega) (by omega) (by omega)) gX12_readTerm_X12_readAtom rfl hdX12_readAtom (by decide) (Nat.le_of_ble_eq_true rfl) dX12_readTerm_16 rfl (fun M149 h150 => ?_)
        obtain ⟨hM149, fM149, h151⟩ := h150
        have bM149 := tkm_b (f := gf) (n := gn) (M := M149) (by omega)
        have qM149 := po_rr (atP gf gn false (suR gf gn 2)) gn (nxF gf gn gq135) (M141.1 98 11).toInt (M141.1 98 12).toInt (M141.1 98 6).toInt (M149.1 98 11).toInt (M149.1 98 12).toInt (M149.1 98 6).toInt (at_g gf gn (fun _ => suR_g gf gn 2)) (by omega) (by omega)
        have u152t := xw_t (M := M0) (N := M141) (P := M149) (r1 := 0) (e1 := 1) (s1 := 1) (r2 := 0) (e2 := 1) (s2 := 0) 0 2 1 (by decide) (by omega) (by omega)
        have u152l := ri_l (M := M149) (by omega)
        have u152b := cb_x (M := M0) (N := M149) (r := 0) (e := 2) (s := 1) (by decide) (by omega) (by omega) (by omega)
        refine j_aload_n C 0 0 dX12_readTerm_19 rfl rfl ?_
        refine y_sipush C dX12_readTerm_20 rfl ?_
        refine j_callVv C (d := 0) (As := [.int (sI 3002)]) (st := []) 98 (s_lt rfl rfl) (s_kc (c := 11) rfl rfl) (by decide) rfl (s1_X12_codes hM149 hpr 3002 (by omega) gf gn ((atP gf gn false (suR gf gn 2)) (nxF gf gn gq135)).2.2 (by omega) (by omega) (by omega) (by omega)) gX12_readTerm_X12_codes rfl hdX12_codes (by decide) (Nat.le_of_ble_eq_true rfl) dX12_readTerm_23 rfl (fun M154 h155 => ?_)
        obtain ⟨hM154, fM154, h156⟩ := h155
        have k157 := tk_c gf gn (M154.1 98 6).toInt (M149.1 98 6).toInt
        have bM154 := tkm_b (f := gf) (n := gn) (M := M154) (by omega)
        have qM154 := po_eq gn ((atP gf gn false (suR gf gn 2)) (nxF gf gn gq135)).2.2 (M149.1 98 11).toInt (M149.1 98 6).toInt (M154.1 98 11).toInt (M154.1 98 6).toInt (by omega) (by omega) (by omega)
        refine j_goto C 5 dX12_readTerm_26 (by decide) ?_
        have u158x := xw_a (M := M149) (N := M154) (c := 3002) (r := 2) (e := (-1)) (FR.cell fM154 (by decide)) (ap_bin ⟨(INV.rd hM149 (i := 102) (c := 48) (k := 280) rfl rfl).1, by omega, by omega⟩) (by omega)
        have u158t := xw_t (M := M0) (N := M149) (P := M154) (r1 := 0) (e1 := 2) (s1 := 1) (r2 := 2) (e2 := (-1)) (s2 := (-1)) 0 1 0 (by decide) (by omega) (by omega)
        have u158i := ri_c (M := M149) (N := M154) (FR.cell fM154 (by decide)) (by omega)
        have u158l := ri_l (M := M154) (by omega)
        have u158L := ll_w (luP gf gn 2042 2042 (atP gf gn false (suR gf gn 2))) gn ((atP gf gn false (suR gf gn 2)) gi).2.2 ((atP gf gn false (suR gf gn 2)) (nxF gf gn gq135)).2.2 (0 + 1) 0 (M103.1 98 11).toInt (M103.1 98 12).toInt (M154.1 98 11).toInt (M154.1 98 12).toInt (M154.1 98 6).toInt (by decide) (ll_s gf gn 2042 2042 (atP gf gn false (suR gf gn 2)) ((atP gf gn false (suR gf gn 2)) gi).2.2 gq135 0 (M103.1 98 11).toInt (M103.1 98 12).toInt (M134.1 98 11).toInt (M134.1 98 12).toInt (M134.1 98 6).toInt (M141.1 98 11).toInt (M141.1 98 12).toInt (M149.1 98 11).toInt (M149.1 98 12).toInt (M149.1 98 6).toInt (M154.1 98 11).toInt (M154.1 98 12).toInt (M154.1 98 6).toInt (by decide) (at_g gf gn (fun _ => suR_g gf gn 2)) (by omega) (by omega) (by omega) (by omega) (by omega) (by omega) (by omega) (by omega) (by omega))
        have u158c := lc_s gf gn 2042 2042 (atP gf gn false (suR gf gn 2)) (atL gf gn false (sLR gf gn 2)) (by decide) (at_g gf gn (fun _ => suR_g gf gn 2)) (show b01 (LC AGR (M134.1 98 11).toInt (luL gf gn 2042 2042 (atP gf gn false (suR gf gn 2)) (atL gf gn false (sLR gf gn 2))) ((atP gf gn false (suR gf gn 2)) gi).2.2 gq135 M103 M134) = 1 by omega) (show b01 (PO gn gq135 (M134.1 98 11).toInt (M134.1 98 6).toInt) = 1 by omega) (by omega) (show b01 (RR ((atP gf gn false (suR gf gn 2)) (nxF gf gn gq135)) (M141.1 98 11).toInt (M141.1 98 12).toInt (M149.1 98 11).toInt (M149.1 98 12).toInt (M149.1 98 6).toInt) = 1 by omega) (fun z => by omega) (cl_e (L := ([] ++ ((atL gf gn false (sLR gf gn 2)) (nxF gf gn gq135))) ++ [3002]) (cl_t (cl_t (cl_r (A := AGR) (M := M134) (N := M141) (M141.1 98 11).toInt (agr_c (FR.cell fM141 (by decide)))) (show b01 (CL AGR (M149.1 98 11).toInt M141 M149 ((atL gf gn false (sLR gf gn 2)) (nxF gf gn gq135))) = 1 by omega) (fun z => rr_z (show b01 (RR ((atP gf gn false (suR gf gn 2)) (nxF gf gn gq135)) (M141.1 98 11).toInt (M141.1 98 12).toInt (M149.1 98 11).toInt (M149.1 98 12).toInt (M149.1 98 6).toInt) = 1 by omega) z)) (show b01 (CL AGR (M154.1 98 11).toInt M149 M154 [3002]) = 1 by omega) (fun z => by omega)) (fun z => by rw [show tkF gf gn (M134.1 98 6).toInt = 2042 by omega, cm_tab.2.2.1, List.nil_append]) : b01 (CL AGR (M154.1 98 11).toInt M134 M154 (((atL gf gn false (sLR gf gn 2)) (nxF gf gn gq135)) ++ [cmF (tkF gf gn (M134.1 98 6).toInt)])) = 1) (fun z => by omega)
        have zz98_8 : (M154.1 98 8).toInt = (M149.1 98 8).toInt := s_fF fM154 (by decide) (rfl); have zz98_6 : (M154.1 98 6).toInt = (M149.1 98 6).toInt := s_fF fM154 (by decide) (rfl); have zz98_12 : (M154.1 98 12).toInt = (M149.1 98 12).toInt := s_fF fM154 (by decide) (rfl); have zz98_11 : (M154.1 98 11).toInt = (M149.1 98 11).toInt := s_fF fM154 (by decide) (rfl); exact ih132 M154 ((atP gf gn false (suR gf gn 2)) (nxF gf gn gq135)).2.2 (by omega) hM154 ((((FR.rf.tr fM134 (by decide)).tr fM141 (by decide)).tr fM149 (by decide)).tr fM154 (by decide))
  exact L133 2010 M103 ((atP gf gn false (suR gf gn 2)) gi).2.2 (by omega) hM103 (FR.rf.tr fM103 (by decide))
set_option maxHeartbeats 4000000 in
theorem s4_X12_readSum {l : Launch} {dC : Nat → ClassId} {dI : Nat → Nat → Nat} {ad : Nat → Nat} {cA : Nat → ClassId} {pr : Nat → Nat → Bool} {Kz : mm_M} {M0 : mm_M} (hM0 : INV pr Kz M0) (hpr : PM pr) (gf : Nat → Int) (gn : Int) (gi : Int) (hp0 : b01 (RIP M0) = 1) (hp1 : b01 (CA M0) = 1) (hp2 : b01 (TKM gf gn M0) = 1) (hp3 : b01 (PO gn gi (M0.1 98 11).toInt (M0.1 98 6).toInt) = 1) (hp4 : b01 (PI M0) = 1) : Cv l 18 yX12_readSum wsX12_readSum dC dI ad cA [.ref (ad 98), .int (sI 3)] M0 (fun M' => INV pr Kz M' ∧ FR [98, 102] M0 M' ∧ (b01 (RIP M') = 1) ∧ ((M'.1 98 8).toInt = (M0.1 98 8).toInt) ∧ ((M0.1 98 6).toInt ≤ (M'.1 98 6).toInt) ∧ (b01 (XW M0 M' 0 1 0) = 1) ∧ (b01 (CA M') = 1) ∧ (b01 (CL AGR (M'.1 98 11).toInt M0 M' ((sLR gf gn 3) gi)) = 1) ∧ (b01 (PI M') = 1) ∧ (b01 (TKM gf gn M') = 1) ∧ b01 (RR ((suR gf gn 3) gi) (M0.1 98 11).toInt (M0.1 98 12).toInt (M'.1 98 11).toInt (M'.1 98 12).toInt (M'.1 98 6).toInt) = 1) := by
  refine cv_of (cc := cX12_readSum) (maxL := 3) (lv := [(0, .ref (ad 98)), (1, .int (sI 3))]) (by decide) rfl (Nat.le_of_ble_eq_true rfl) rfl ?_
  intro p e s m args below meth c A Q C hret
  have u101z := xw_0 M0
  have u101l := ri_l (M := M0) (by omega)
  refine j_aload_n C 0 0 dX12_readSum_0 rfl rfl ?_
  refine j_iload_n C 1 1 dX12_readSum_1 rfl rfl ?_
  refine j_callVv C (d := 17) (As := [.int (sI 3)]) (st := []) 98 (s_lt rfl rfl) (s_kc (c := 11) rfl rfl) (by decide) rfl (s4_X12_readTerm hM0 hpr gf gn gi (by omega) (by omega) (by omega) (by omega) (by omega)) gX12_readSum_X12_readTerm rfl hdX12_readTerm (by decide) (Nat.le_of_ble_eq_true rfl) dX12_readSum_2 rfl (fun M103 h104 => ?_)
  obtain ⟨hM103, fM103, h105⟩ := h104
  have bM103 := tkm_b (f := gf) (n := gn) (M := M103) (by omega)
  have qM103 := po_rr (teP gf gn false (suR gf gn 2)) gn gi (M0.1 98 11).toInt (M0.1 98 12).toInt (M0.1 98 6).toInt (M103.1 98 11).toInt (M103.1 98 12).toInt (M103.1 98 6).toInt (te_g gf gn (fun _ => suR_g gf gn 2)) (by omega) (by omega)
  have u106l := ri_l (M := M103) (by omega)
  have u106L := ll_0 (luP gf gn 2043 2045 (teP gf gn false (suR gf gn 2))) gn ((teP gf gn false (suR gf gn 2)) gi).2.2 (M103.1 98 11).toInt (M103.1 98 12).toInt (M103.1 98 6).toInt (by omega)
  have u106c := lc_0 (A := AGR) (M103.1 98 11).toInt (luL gf gn 2043 2045 (teP gf gn false (suR gf gn 2)) (teL gf gn false (suR gf gn 2) (sLR gf gn 2))) ((teP gf gn false (suR gf gn 2)) gi).2.2 M103
  have L178 : ∀ (n176 : Nat), ∀ (M179 : mm_M) (gq180 : Int), ((b01 (RIP M179) = 1) ∧ ((M179.1 98 8).toInt = (M0.1 98 8).toInt) ∧ ((M0.1 98 6).toInt ≤ (M179.1 98 6).toInt) ∧ (b01 (XW M0 M179 0 1 0) = 1) ∧ ((M179.1 98 6).toInt ≤ 900) ∧ (b01 (LL (luP gf gn 2043 2045 (teP gf gn false (suR gf gn 2))) gn ((teP gf gn false (suR gf gn 2)) gi).2.2 gq180 0 (M103.1 98 11).toInt (M103.1 98 12).toInt (M179.1 98 11).toInt (M179.1 98 12).toInt (M179.1 98 6).toInt) = 1) ∧ (b01 (LC AGR (M179.1 98 11).toInt (luL gf gn 2043 2045 (teP gf gn false (suR gf gn 2)) (teL gf gn false (suR gf gn 2) (sLR gf gn 2))) ((teP gf gn false (suR gf gn 2)) gi).2.2 gq180 M103 M179) = 1) ∧ (b01 (TKM gf gn M179) = 1) ∧ (b01 (PO gn gq180 (M179.1 98 11).toInt (M179.1 98 6).toInt) = 1) ∧ (b01 (PI M179) = 1) ∧ (900 - (M179.1 98 6).toInt) < (n176 : Int)) → INV pr Kz M179 → FR [98, 102] M0 M179 → jj p l e (cn_R 18) s m args below meth c 0 0 Q 3 dC dI ad cA A M179 5 [(0, .ref (ad 98)), (1, .int (sI 3))] [] := by
    intro n176
    induction n176 with
    | zero =>
      intro M179 gq180 h181 hM179 fM179
      exfalso; omega
    | succ n176 ih177 =>
      intro M179 gq180 h181 hM179 fM179
      have u182l := ri_l (M := M179) (by omega)
      have u182B := tkm_b (f := gf) (n := gn) (M := M179) (by omega)
      refine j_aload_n C 0 0 dX12_readSum_5 rfl rfl ?_
      refine y_bipush C dX12_readSum_6 rfl ?_
      have k183 := tkm_K (f := gf) (n := gn) (M := M179) (by omega)
      have k184 := kd_2 (kdk_32 gf gn (M179.1 98 6).toInt) (by omega)
      refine j_callVi C (d := 0) (As := [.int (sI 32)]) (st := []) 98 (s_lt rfl rfl) (s_kc (c := 11) rfl rfl) (by decide) rfl (s1_X12_is hM179 32 (by omega)) gX12_readSum_X12_is rfl hdX12_is (by decide) (Nat.le_of_ble_eq_true rfl) dX12_readSum_8 rfl (fun r185 M186 h187 => ?_)
      obtain ⟨a189, rfl, rfl, h188⟩ := h187
      refine y_if_ne C 23 dX12_readSum_11 (by decide) (by omega) (fun h190 => ?_) (fun h190 => ?_)
      · refine j_aload_n C 0 0 dX12_readSum_23 rfl rfl ?_
        refine y_getI C 11 _ _ fX12_readSum_108 rfl rfl ft_11_9 sb_11_9 hM179 dX12_readSum_24 (fun a191 ea191 la191 ua191 => ?_)
        obtain rfl : a191 = (M179.1 98 9).toInt := ea191
        refine y_bipush C dX12_readSum_27 rfl ?_
        have J195 : ∀ (a194 : Int), (3000 ≤ a194 ∧ a194 ≤ 3001 ∧ ((tkF gf gn (M179.1 98 6).toInt = 2043 ∧ a194 = 3000) ∨ (tkF gf gn (M179.1 98 6).toInt = 2045 ∧ a194 = 3001))) → jj p l e (cn_R 18) s m args below meth c 0 0 Q 3 dC dI ad cA A M179 41 [(0, .ref (ad 98)), (1, .int (sI 3))] [.int (sI a194)] := by
          intro a194 h196
          refine j_istore_n C 2 [(2, .int (sI a194)), (0, .ref (ad 98)), (1, .int (sI 3))] dX12_readSum_41 rfl (by decide) rfl ?_
          have u197k := ri_k (M := M179) (by omega) (by omega)
          refine j_aload_n C 1 0 dX12_readSum_42 rfl rfl ?_
          have k198 := tkm_p (f := gf) (n := gn) (M := M179) (by omega)
          have k199 := tkm_K (f := gf) (n := gn) (M := M179) (by omega)
          refine j_callVv C (d := 5) (As := []) (st := []) 98 (s_lt rfl rfl) (s_kc (c := 11) rfl rfl) (by decide) rfl (s1_X12_next hM179 hpr gf gn (by omega) (by omega) (by omega) (by omega)) gX12_readSum_X12_next rfl hdX12_next (by decide) (Nat.le_of_ble_eq_true rfl) dX12_readSum_43 rfl (fun M201 h202 => ?_)
          obtain ⟨hM201, fM201, h203⟩ := h202
          have bM201 := tkm_b (f := gf) (n := gn) (M := M201) (by omega)
          have qM201 := nx_po (f := gf) (n := gn) (i := gq180) (M := M179) (M' := M201) (by omega) (by omega) (by omega) (by omega) (by omega)
          have u204c := xw_c (N := M179) (P := M201) 1 (FR.cell fM201 (by decide)) (by omega)
          have u204t := xw_t (M := M0) (N := M179) (P := M201) (r1 := 0) (e1 := 1) (s1 := 0) (r2 := 0) (e2 := 0) (s2 := 1) 0 1 1 (by decide) (by omega) (by omega)
          have u204a := ca_x (M := M0) (N := M201) (r := 0) (e := 1) (s := 1) (by decide) (by omega) (by omega)
          have u204l := ri_l (M := M201) (by omega)
          refine j_aload_n C 1 0 dX12_readSum_46 rfl rfl ?_
          refine j_iload_n C 2 1 dX12_readSum_47 rfl rfl ?_
          refine j_callVv C (d := 17) (As := [.int (sI 3)]) (st := []) 98 (s_lt rfl rfl) (s_kc (c := 11) rfl rfl) (by decide) rfl (s4_X12_readTerm hM201 hpr gf gn (nxF gf gn gq180) (by omega) (by omega) (by omega) (by omega) (by omega)) gX12_readSum_X12_readTerm rfl hdX12_readTerm (by decide) (Nat.le_of_ble_eq_true rfl) dX12_readSum_48 rfl (fun M206 h207 => ?_)
          obtain ⟨hM206, fM206, h208⟩ := h207
          have bM206 := tkm_b (f := gf) (n := gn) (M := M206) (by omega)
          have qM206 := po_rr (teP gf gn false (suR gf gn 2)) gn (nxF gf gn gq180) (M201.1 98 11).toInt (M201.1 98 12).toInt (M201.1 98 6).toInt (M206.1 98 11).toInt (M206.1 98 12).toInt (M206.1 98 6).toInt (te_g gf gn (fun _ => suR_g gf gn 2)) (by omega) (by omega)
          have u209t := xw_t (M := M0) (N := M201) (P := M206) (r1 := 0) (e1 := 1) (s1 := 1) (r2 := 0) (e2 := 1) (s2 := 0) 0 2 1 (by decide) (by omega) (by omega)
          have u209l := ri_l (M := M206) (by omega)
          have u209b := cb_x (M := M0) (N := M206) (r := 0) (e := 2) (s := 1) (by decide) (by omega) (by omega) (by omega)
          refine j_aload_n C 1 0 dX12_readSum_51 rfl rfl ?_
          refine j_iload_n C 0 2 dX12_readSum_52 rfl rfl ?_
          refine j_callVv C (d := 0) (As := [.int (sI a194)]) (st := []) 98 (s_lt rfl rfl) (s_kc (c := 11) rfl rfl) (by decide) rfl (s1_X12_codes hM206 hpr a194 (by omega) gf gn ((teP gf gn false (suR gf gn 2)) (nxF gf gn gq180)).2.2 (by omega) (by omega) (by omega) (by omega)) gX12_readSum_X12_codes rfl hdX12_codes (by decide) (Nat.le_of_ble_eq_true rfl) dX12_readSum_53 rfl (fun M211 h212 => ?_)
          obtain ⟨hM211, fM211, h213⟩ := h212
          have k214 := tk_c gf gn (M211.1 98 6).toInt (M206.1 98 6).toInt
          have bM211 := tkm_b (f := gf) (n := gn) (M := M211) (by omega)
          have qM211 := po_eq gn ((teP gf gn false (suR gf gn 2)) (nxF gf gn gq180)).2.2 (M206.1 98 11).toInt (M206.1 98 6).toInt (M211.1 98 11).toInt (M211.1 98 6).toInt (by omega) (by omega) (by omega)
          refine j_goto C 5 dX12_readSum_56 (by decide) ?_
          have u215x := xw_a (M := M206) (N := M211) (c := a194) (r := 2) (e := (-1)) (FR.cell fM211 (by decide)) (ap_bin ⟨(INV.rd hM206 (i := 102) (c := 48) (k := 280) rfl rfl).1, by omega, by omega⟩) (by omega)
          have u215t := xw_t (M := M0) (N := M206) (P := M211) (r1 := 0) (e1 := 2) (s1 := 1) (r2 := 2) (e2 := (-1)) (s2 := (-1)) 0 1 0 (by decide) (by omega) (by omega)
          have u215i := ri_c (M := M206) (N := M211) (FR.cell fM211 (by decide)) (by omega)
          have u215l := ri_l (M := M211) (by omega)
          have u215L := ll_w (luP gf gn 2043 2045 (teP gf gn false (suR gf gn 2))) gn ((teP gf gn false (suR gf gn 2)) gi).2.2 ((teP gf gn false (suR gf gn 2)) (nxF gf gn gq180)).2.2 (0 + 1) 0 (M103.1 98 11).toInt (M103.1 98 12).toInt (M211.1 98 11).toInt (M211.1 98 12).toInt (M211.1 98 6).toInt (by decide) (ll_s gf gn 2043 2045 (teP gf gn false (suR gf gn 2)) ((teP gf gn false (suR gf gn 2)) gi).2.2 gq180 0 (M103.1 98 11).toInt (M103.1 98 12).toInt (M179.1 98 11).toInt (M179.1 98 12).toInt (M179.1 98 6).toInt (M201.1 98 11).toInt (M201.1 98 12).toInt (M206.1 98 11).toInt (M206.1 98 12).toInt (M206.1 98 6).toInt (M211.1 98 11).toInt (M211.1 98 12).toInt (M211.1 98 6).toInt (by decide) (te_g gf gn (fun _ => suR_g gf gn 2)) (by omega) (by omega) (by omega) (by omega) (by omega) (by omega) (by omega) (by omega) (by omega))
          have u215c := lc_s gf gn 2043 2045 (teP gf gn false (suR gf gn 2)) (teL gf gn false (suR gf gn 2) (sLR gf gn 2)) (by decide) (te_g gf gn (fun _ => suR_g gf gn 2)) (show b01 (LC AGR (M179.1 98 11).toInt (luL gf gn 2043 2045 (teP gf gn false (suR gf gn 2)) (teL gf gn false (suR gf gn 2) (sLR gf gn 2))) ((teP gf gn false (suR gf gn 2)) gi).2.2 gq180 M103 M179) = 1 by omega) (show b01 (PO gn gq180 (M179.1 98 11).toInt (M179.1 98 6).toInt) = 1 by omega) (by omega) (show b01 (RR ((teP gf gn false (suR gf gn 2)) (nxF gf gn gq180)) (M201.1 98 11).toInt (M201.1 98 12).toInt (M206.1 98 11).toInt (M206.1 98 12).toInt (M206.1 98 6).toInt) = 1 by omega) (fun z => by omega) (cl_e (L := ([] ++ ((teL gf gn false (suR gf gn 2) (sLR gf gn 2)) (nxF gf gn gq180))) ++ [a194]) (cl_t (cl_t (cl_r (A := AGR) (M := M179) (N := M201) (M201.1 98 11).toInt (agr_c (FR.cell fM201 (by decide)))) (show b01 (CL AGR (M206.1 98 11).toInt M201 M206 ((teL gf gn false (suR gf gn 2) (sLR gf gn 2)) (nxF gf gn gq180))) = 1 by omega) (fun z => rr_z (show b01 (RR ((teP gf gn false (suR gf gn 2)) (nxF gf gn gq180)) (M201.1 98 11).toInt (M201.1 98 12).toInt (M206.1 98 11).toInt (M206.1 98 12).toInt (M206.1 98 6).toInt) = 1 by omega) z)) (show b01 (CL AGR (M211.1 98 11).toInt M206 M211 [a194]) = 1 by omega) (fun z => by omega)) (fun z => by rw [List.nil_append, sum_c (t := tkF gf gn (M179.1 98 6).toInt) (c := a194) (by omega)]) : b01 (CL AGR (M211.1 98 11).toInt M179 M211 (((teL gf gn false (suR gf gn 2) (sLR gf gn 2)) (nxF gf gn gq180)) ++ [cmF (tkF gf gn (M179.1 98 6).toInt)])) = 1) (fun z => by omega)
          have zz98_8 : (M211.1 98 8).toInt = (M206.1 98 8).toInt := s_fF fM211 (by decide) (rfl); have zz98_6 : (M211.1 98 6).toInt = (M206.1 98 6).toInt := s_fF fM211 (by decide) (rfl); have zz98_12 : (M211.1 98 12).toInt = (M206.1 98 12).toInt := s_fF fM211 (by decide) (rfl); have zz98_11 : (M211.1 98 11).toInt = (M206.1 98 11).toInt := s_fF fM211 (by decide) (rfl); refine j_lv [1, 2] rfl ?_; exact ih177 M211 ((teP gf gn false (suR gf gn 2)) (nxF gf gn gq180)).2.2 (by omega) hM211 ((((FR.rf.tr fM179 (by decide)).tr fM201 (by decide)).tr fM206 (by decide)).tr fM211 (by decide))
        refine y_icmp_ne C 38 dX12_readSum_29 (by decide) (by omega) (fun h193 => ?_) (fun h193 => ?_)
        · refine y_sipush C dX12_readSum_38 rfl ?_
          exact J195 3001 (by omega)
        · refine y_sipush C dX12_readSum_32 rfl ?_
          refine j_goto C 41 dX12_readSum_35 (by decide) ?_
          exact J195 3000 (by omega)
      · refine j_aload_n C 0 0 dX12_readSum_14 rfl rfl ?_
        refine y_bipush C dX12_readSum_15 rfl ?_
        have k216 := tkm_K (f := gf) (n := gn) (M := M179) (by omega)
        have k217 := kd_2 (kdk_33 gf gn (M179.1 98 6).toInt) (by omega)
        refine j_callVi C (d := 0) (As := [.int (sI 33)]) (st := []) 98 (s_lt rfl rfl) (s_kc (c := 11) rfl rfl) (by decide) rfl (s1_X12_is hM179 33 (by omega)) gX12_readSum_X12_is rfl hdX12_is (by decide) (Nat.le_of_ble_eq_true rfl) dX12_readSum_17 rfl (fun r218 M219 h220 => ?_)
        obtain ⟨a222, rfl, rfl, h221⟩ := h220
        refine y_if_eq C 59 dX12_readSum_20 (by decide) (by omega) (fun h223 => ?_) (fun h223 => ?_)
        · have u249a := ca_x (M := M0) (N := M179) (r := 0) (e := 1) (s := 0) (by decide) (by omega) (by omega)
          have u249E := ll_e gf gn 2043 2045 (teP gf gn false (suR gf gn 2)) ((teP gf gn false (suR gf gn 2)) gi).2.2 gq180 0 (M103.1 98 11).toInt (M103.1 98 12).toInt (M179.1 98 11).toInt (M179.1 98 12).toInt (M179.1 98 6).toInt (by decide) (te_g gf gn (fun _ => suR_g gf gn 2)) (by omega) (by omega)
          have u249S : b01 (RR ((suR gf gn 3) gi) (M0.1 98 11).toInt (M0.1 98 12).toInt (M179.1 98 11).toInt (M179.1 98 12).toInt (M179.1 98 6).toInt) = 1 := by rw [su_q gf gn 2 3 rfl]; exact rr_sq ((teP gf gn false (suR gf gn 2)) gi) (luP gf gn 2043 2045 (teP gf gn false (suR gf gn 2))) (M0.1 98 11).toInt (M0.1 98 12).toInt (M103.1 98 11).toInt (M103.1 98 12).toInt (M103.1 98 6).toInt (M179.1 98 11).toInt (M179.1 98 12).toInt (M179.1 98 6).toInt (by omega) (by omega)
          have u249x := lc_e gf gn 2043 2045 (teP gf gn false (suR gf gn 2)) ((teL gf gn false (suR gf gn 2) (sLR gf gn 2))) (by decide) (show b01 (LC AGR (M179.1 98 11).toInt (luL gf gn 2043 2045 (teP gf gn false (suR gf gn 2)) (teL gf gn false (suR gf gn 2) (sLR gf gn 2))) ((teP gf gn false (suR gf gn 2)) gi).2.2 gq180 M103 M179) = 1 by omega) (show b01 (LL (luP gf gn 2043 2045 (teP gf gn false (suR gf gn 2))) gn ((teP gf gn false (suR gf gn 2)) gi).2.2 gq180 0 (M103.1 98 11).toInt (M103.1 98 12).toInt (M179.1 98 11).toInt (M179.1 98 12).toInt (M179.1 98 6).toInt) = 1 by omega) (by omega)
          have u249l : b01 (CL AGR (M179.1 98 11).toInt M0 M179 ((sLR gf gn 3) gi)) = 1 := cl_e (cl_t (show b01 (CL AGR (M103.1 98 11).toInt M0 M103 ((teL gf gn false (suR gf gn 2) (sLR gf gn 2)) gi)) = 1 by omega) u249x (fun z => rr_z (show b01 (RR ((luP gf gn 2043 2045 (teP gf gn false (suR gf gn 2))) ((teP gf gn false (suR gf gn 2)) gi).2.2) (M103.1 98 11).toInt (M103.1 98 12).toInt (M179.1 98 11).toInt (M179.1 98 12).toInt (M179.1 98 6).toInt) = 1 by omega) z)) (fun z => su_l gf gn 2 3 rfl gi)
          exact hret _ _ _ dX12_readSum_59 ⟨hM179, (FR.rf.tr fM179 (by decide)), by omega⟩
        · refine j_aload_n C 0 0 dX12_readSum_23 rfl rfl ?_
          refine y_getI C 11 _ _ fX12_readSum_108 rfl rfl ft_11_9 sb_11_9 hM179 dX12_readSum_24 (fun a224 ea224 la224 ua224 => ?_)
          obtain rfl : a224 = (M179.1 98 9).toInt := ea224
          refine y_bipush C dX12_readSum_27 rfl ?_
          have J228 : ∀ (a227 : Int), (3000 ≤ a227 ∧ a227 ≤ 3001 ∧ ((tkF gf gn (M179.1 98 6).toInt = 2043 ∧ a227 = 3000) ∨ (tkF gf gn (M179.1 98 6).toInt = 2045 ∧ a227 = 3001))) → jj p l e (cn_R 18) s m args below meth c 0 0 Q 3 dC dI ad cA A M179 41 [(0, .ref (ad 98)), (1, .int (sI 3))] [.int (sI a227)] := by
            intro a227 h229
            refine j_istore_n C 2 [(2, .int (sI a227)), (0, .ref (ad 98)), (1, .int (sI 3))] dX12_readSum_41 rfl (by decide) rfl ?_
            have u230k := ri_k (M := M179) (by omega) (by omega)
            refine j_aload_n C 1 0 dX12_readSum_42 rfl rfl ?_
            have k231 := tkm_p (f := gf) (n := gn) (M := M179) (by omega)
            have k232 := tkm_K (f := gf) (n := gn) (M := M179) (by omega)
            refine j_callVv C (d := 5) (As := []) (st := []) 98 (s_lt rfl rfl) (s_kc (c := 11) rfl rfl) (by decide) rfl (s1_X12_next hM179 hpr gf gn (by omega) (by omega) (by omega) (by omega)) gX12_readSum_X12_next rfl hdX12_next (by decide) (Nat.le_of_ble_eq_true rfl) dX12_readSum_43 rfl (fun M234 h235 => ?_)
            obtain ⟨hM234, fM234, h236⟩ := h235
            have bM234 := tkm_b (f := gf) (n := gn) (M := M234) (by omega)
            have qM234 := nx_po (f := gf) (n := gn) (i := gq180) (M := M179) (M' := M234) (by omega) (by omega) (by omega) (by omega) (by omega)
            have u237c := xw_c (N := M179) (P := M234) 1 (FR.cell fM234 (by decide)) (by omega)
            have u237t := xw_t (M := M0) (N := M179) (P := M234) (r1 := 0) (e1 := 1) (s1 := 0) (r2 := 0) (e2 := 0) (s2 := 1) 0 1 1 (by decide) (by omega) (by omega)
            have u237a := ca_x (M := M0) (N := M234) (r := 0) (e := 1) (s := 1) (by decide) (by omega) (by omega)
            have u237l := ri_l (M := M234) (by omega)
            refine j_aload_n C 1 0 dX12_readSum_46 rfl rfl ?_
            refine j_iload_n C 2 1 dX12_readSum_47 rfl rfl ?_
            refine j_callVv C (d := 17) (As := [.int (sI 3)]) (st := []) 98 (s_lt rfl rfl) (s_kc (c := 11) rfl rfl) (by decide) rfl (s4_X12_readTerm hM234 hpr gf gn (nxF gf gn gq180) (by omega) (by omega) (by omega) (by omega) (by omega)) gX12_readSum_X12_readTerm rfl hdX12_readTerm (by decide) (Nat.le_of_ble_eq_true rfl) dX12_readSum_48 rfl (fun M239 h240 => ?_)
            obtain ⟨hM239, fM239, h241⟩ := h240
            have bM239 := tkm_b (f := gf) (n := gn) (M := M239) (by omega)
            have qM239 := po_rr (teP gf gn false (suR gf gn 2)) gn (nxF gf gn gq180) (M234.1 98 11).toInt (M234.1 98 12).toInt (M234.1 98 6).toInt (M239.1 98 11).toInt (M239.1 98 12).toInt (M239.1 98 6).toInt (te_g gf gn (fun _ => suR_g gf gn 2)) (by omega) (by omega)
            have u242t := xw_t (M := M0) (N := M234) (P := M239) (r1 := 0) (e1 := 1) (s1 := 1) (r2 := 0) (e2 := 1) (s2 := 0) 0 2 1 (by decide) (by omega) (by omega)
            have u242l := ri_l (M := M239) (by omega)
            have u242b := cb_x (M := M0) (N := M239) (r := 0) (e := 2) (s := 1) (by decide) (by omega) (by omega) (by omega)
            refine j_aload_n C 1 0 dX12_readSum_51 rfl rfl ?_
            refine j_iload_n C 0 2 dX12_readSum_52 rfl rfl ?_
            refine j_callVv C (d := 0) (As := [.int (sI a227)]) (st := []) 98 (s_lt rfl rfl) (s_kc (c := 11) rfl rfl) (by decide) rfl (s1_X12_codes hM239 hpr a227 (by omega) gf gn ((teP gf gn false (suR gf gn 2)) (nxF gf gn gq180)).2.2 (by omega) (by omega) (by omega) (by omega)) gX12_readSum_X12_codes rfl hdX12_codes (by decide) (Nat.le_of_ble_eq_true rfl) dX12_readSum_53 rfl (fun M244 h245 => ?_)
            obtain ⟨hM244, fM244, h246⟩ := h245
            have k247 := tk_c gf gn (M244.1 98 6).toInt (M239.1 98 6).toInt
            have bM244 := tkm_b (f := gf) (n := gn) (M := M244) (by omega)
            have qM244 := po_eq gn ((teP gf gn false (suR gf gn 2)) (nxF gf gn gq180)).2.2 (M239.1 98 11).toInt (M239.1 98 6).toInt (M244.1 98 11).toInt (M244.1 98 6).toInt (by omega) (by omega) (by omega)
            refine j_goto C 5 dX12_readSum_56 (by decide) ?_
            have u248x := xw_a (M := M239) (N := M244) (c := a227) (r := 2) (e := (-1)) (FR.cell fM244 (by decide)) (ap_bin ⟨(INV.rd hM239 (i := 102) (c := 48) (k := 280) rfl rfl).1, by omega, by omega⟩) (by omega)
            have u248t := xw_t (M := M0) (N := M239) (P := M244) (r1 := 0) (e1 := 2) (s1 := 1) (r2 := 2) (e2 := (-1)) (s2 := (-1)) 0 1 0 (by decide) (by omega) (by omega)
            have u248i := ri_c (M := M239) (N := M244) (FR.cell fM244 (by decide)) (by omega)
            have u248l := ri_l (M := M244) (by omega)
            have u248L := ll_w (luP gf gn 2043 2045 (teP gf gn false (suR gf gn 2))) gn ((teP gf gn false (suR gf gn 2)) gi).2.2 ((teP gf gn false (suR gf gn 2)) (nxF gf gn gq180)).2.2 (0 + 1) 0 (M103.1 98 11).toInt (M103.1 98 12).toInt (M244.1 98 11).toInt (M244.1 98 12).toInt (M244.1 98 6).toInt (by decide) (ll_s gf gn 2043 2045 (teP gf gn false (suR gf gn 2)) ((teP gf gn false (suR gf gn 2)) gi).2.2 gq180 0 (M103.1 98 11).toInt (M103.1 98 12).toInt (M179.1 98 11).toInt (M179.1 98 12).toInt (M179.1 98 6).toInt (M234.1 98 11).toInt (M234.1 98 12).toInt (M239.1 98 11).toInt (M239.1 98 12).toInt (M239.1 98 6).toInt (M244.1 98 11).toInt (M244.1 98 12).toInt (M244.1 98 6).toInt (by decide) (te_g gf gn (fun _ => suR_g gf gn 2)) (by omega) (by omega) (by omega) (by omega) (by omega) (by omega) (by omega) (by omega) (by omega))
            have u248c := lc_s gf gn 2043 2045 (teP gf gn false (suR gf gn 2)) (teL gf gn false (suR gf gn 2) (sLR gf gn 2)) (by decide) (te_g gf gn (fun _ => suR_g gf gn 2)) (show b01 (LC AGR (M179.1 98 11).toInt (luL gf gn 2043 2045 (teP gf gn false (suR gf gn 2)) (teL gf gn false (suR gf gn 2) (sLR gf gn 2))) ((teP gf gn false (suR gf gn 2)) gi).2.2 gq180 M103 M179) = 1 by omega) (show b01 (PO gn gq180 (M179.1 98 11).toInt (M179.1 98 6).toInt) = 1 by omega) (by omega) (show b01 (RR ((teP gf gn false (suR gf gn 2)) (nxF gf gn gq180)) (M234.1 98 11).toInt (M234.1 98 12).toInt (M239.1 98 11).toInt (M239.1 98 12).toInt (M239.1 98 6).toInt) = 1 by omega) (fun z => by omega) (cl_e (L := ([] ++ ((teL gf gn false (suR gf gn 2) (sLR gf gn 2)) (nxF gf gn gq180))) ++ [a227]) (cl_t (cl_t (cl_r (A := AGR) (M := M179) (N := M234) (M234.1 98 11).toInt (agr_c (FR.cell fM234 (by decide)))) (show b01 (CL AGR (M239.1 98 11).toInt M234 M239 ((teL gf gn false (suR gf gn 2) (sLR gf gn 2)) (nxF gf gn gq180))) = 1 by omega) (fun z => rr_z (show b01 (RR ((teP gf gn false (suR gf gn 2)) (nxF gf gn gq180)) (M234.1 98 11).toInt (M234.1 98 12).toInt (M239.1 98 11).toInt (M239.1 98 12).toInt (M239.1 98 6).toInt) = 1 by omega) z)) (show b01 (CL AGR (M244.1 98 11).toInt M239 M244 [a227]) = 1 by omega) (fun z => by omega)) (fun z => by rw [List.nil_append, sum_c (t := tkF gf gn (M179.1 98 6).toInt) (c := a227) (by omega)]) : b01 (CL AGR (M244.1 98 11).toInt M179 M244 (((teL gf gn false (suR gf gn 2) (sLR gf gn 2)) (nxF gf gn gq180)) ++ [cmF (tkF gf gn (M179.1 98 6).toInt)])) = 1) (fun z => by omega)
            have zz98_8 : (M244.1 98 8).toInt = (M239.1 98 8).toInt := s_fF fM244 (by decide) (rfl); have zz98_6 : (M244.1 98 6).toInt = (M239.1 98 6).toInt := s_fF fM244 (by decide) (rfl); have zz98_12 : (M244.1 98 12).toInt = (M239.1 98 12).toInt := s_fF fM244 (by decide) (rfl); have zz98_11 : (M244.1 98 11).toInt = (M239.1 98 11).toInt := s_fF fM244 (by decide) (rfl); refine j_lv [1, 2] rfl ?_; exact ih177 M244 ((teP gf gn false (suR gf gn 2)) (nxF gf gn gq180)).2.2 (by omega) hM244 ((((FR.rf.tr fM179 (by decide)).tr fM234 (by decide)).tr fM239 (by decide)).tr fM244 (by decide))
          refine y_icmp_ne C 38 dX12_readSum_29 (by decide) (by omega) (fun h226 => ?_) (fun h226 => ?_)
          · refine y_sipush C dX12_readSum_38 rfl ?_
            exact J228 3001 (by omega)
          · refine y_sipush C dX12_readSum_32 rfl ?_
            refine j_goto C 41 dX12_readSum_35 (by decide) ?_
            exact J228 3000 (by omega)
  exact L178 2010 M103 ((teP gf gn false (suR gf gn 2)) gi).2.2 (by omega) hM103 (FR.rf.tr fM103 (by decide))
set_option maxHeartbeats 4000000 in
theorem s5_X12_readAtom {l : Launch} {dC : Nat → ClassId} {dI : Nat → Nat → Nat} {ad : Nat → Nat} {cA : Nat → ClassId} {pr : Nat → Nat → Bool} {Kz : mm_M} {M0 : mm_M} (hM0 : INV pr Kz M0) (hpr : PM pr) (gf : Nat → Int) (gn : Int) (gi : Int) (hp0 : b01 (RIP M0) = 1) (hp1 : b01 (CA M0) = 1) (hp2 : b01 (TKM gf gn M0) = 1) (hp3 : b01 (PO gn gi (M0.1 98 11).toInt (M0.1 98 6).toInt) = 1) (hp4 : b01 (PI M0) = 1) : Cv l 19 yX12_readAtom wsX12_readAtom dC dI ad cA [.ref (ad 98), .int (sI 2)] M0 (fun M' => INV pr Kz M' ∧ FR [98, 102] M0 M' ∧ (b01 (RIP M') = 1) ∧ ((M'.1 98 8).toInt = (M0.1 98 8).toInt) ∧ ((M0.1 98 6).toInt ≤ (M'.1 98 6).toInt) ∧ (b01 (XW M0 M' 0 1 0) = 1) ∧ (b01 (CA M') = 1) ∧ (b01 (CL AGR (M'.1 98 11).toInt M0 M' ((atL gf gn false (sLR gf gn 3)) gi)) = 1) ∧ (b01 (PI M') = 1) ∧ (b01 (TKM gf gn M') = 1) ∧ b01 (RR ((atP gf gn false (suR gf gn 3)) gi) (M0.1 98 11).toInt (M0.1 98 12).toInt (M'.1 98 11).toInt (M'.1 98 12).toInt (M'.1 98 6).toInt) = 1) := by
  refine cv_of (cc := cX12_readAtom) (maxL := 2) (lv := [(0, .ref (ad 98)), (1, .int (sI 2))]) (by decide) rfl (Nat.le_of_ble_eq_true rfl) rfl ?_
  intro p e s m args below meth c A Q C hret
  have u101z := xw_0 M0
  have u101l := ri_l (M := M0) (by omega)
  refine j_aload_n C 0 0 dX12_readAtom_0 rfl rfl ?_
  refine y_bipush C dX12_readAtom_1 rfl ?_
  have k102 := tkm_K (f := gf) (n := gn) (M := M0) (by omega)
  have k103 := kd_2 (kd_23 gf gn (M0.1 98 6).toInt) (by omega)
  refine j_callVi C (d := 0) (As := [.int (sI 23)]) (st := []) 98 (s_lt rfl rfl) (s_kc (c := 11) rfl rfl) (by decide) rfl (s1_X12_is hM0 23 (by omega)) gX12_readAtom_X12_is rfl hdX12_is (by decide) (Nat.le_of_ble_eq_true rfl) dX12_readAtom_3 rfl (fun r104 M105 h106 => ?_)
  obtain ⟨a108, rfl, rfl, h107⟩ := h106
  refine y_if_eq C 24 dX12_readAtom_6 (by decide) (by omega) (fun h109 => ?_) (fun h109 => ?_)
  · refine j_aload_n C 0 0 dX12_readAtom_24 rfl rfl ?_
    refine y_getI C 11 _ _ fX12_readAtom_126 rfl rfl ft_11_11 sb_11_11 hM0 dX12_readAtom_25 (fun a110 ea110 la110 ua110 => ?_)
    obtain rfl : a110 = (M0.1 98 11).toInt := ea110
    refine y_if_ne C 66 dX12_readAtom_28 (by decide) (by omega) (fun h112 => ?_) (fun h112 => ?_)
    · refine j_aload_n C 0 0 dX12_readAtom_66 rfl rfl ?_
      refine y_bipush C dX12_readAtom_67 rfl ?_
      have k113 := tkm_K (f := gf) (n := gn) (M := M0) (by omega)
      have k114 := kd_2 (kdk_35 gf gn (M0.1 98 6).toInt) (by omega)
      refine j_callVi C (d := 0) (As := [.int (sI 35)]) (st := []) 98 (s_lt rfl rfl) (s_kc (c := 11) rfl rfl) (by decide) rfl (s1_X12_is hM0 35 (by omega)) gX12_readAtom_X12_is rfl hdX12_is (by decide) (Nat.le_of_ble_eq_true rfl) dX12_readAtom_69 rfl (fun r115 M116 h117 => ?_)
      obtain ⟨a119, rfl, rfl, h118⟩ := h117
      refine y_if_eq C 108 dX12_readAtom_72 (by decide) (by omega) (fun h120 => ?_) (fun h120 => ?_)
      · refine j_aload_n C 0 0 dX12_readAtom_108 rfl rfl ?_
        refine y_iconst C dX12_readAtom_109 ?_
        refine j_callVv C (d := 0) (As := [.int (sI 2)]) (st := []) 98 (s_lt rfl rfl) (s_kc (c := 11) rfl rfl) (by decide) rfl (s1_X12_fails hM0 hpr 2 (by omega) gf gn gi (by omega) (by omega) (by omega) (by omega) (by omega)) gX12_readAtom_X12_fails rfl hdX12_fails (by decide) (Nat.le_of_ble_eq_true rfl) dX12_readAtom_110 rfl (fun M122 h123 => ?_)
        obtain ⟨hM122, fM122, h124⟩ := h123
        have bM122 := tkm_b (f := gf) (n := gn) (M := M122) (by omega)
        have qM122 := po_f gn ((faQ gf gn 2) gi).2.2 (M122.1 98 11).toInt (M122.1 98 6).toInt (by omega)
        have u125f : b01 (XW M0 M122 0 1 0) = 1 := b01_i (Or.inl (by omega))
        have u125a := ca_x (M := M0) (N := M122) (r := 0) (e := 1) (s := 0) (by decide) (by omega) (by omega)
        have u125r := at_4z gf gn false (suR gf gn 3) gi (M0.1 98 11).toInt (M0.1 98 12).toInt (M0.1 98 6).toInt (M122.1 98 11).toInt (M122.1 98 12).toInt (M122.1 98 6).toInt (by omega) (by omega) (by omega)
        have u125l := cl_n (A := AGR) (M := M0) (N := M122) ((atL gf gn false (sLR gf gn 3)) gi) (a := (M122.1 98 11).toInt) (by omega)
        exact hret _ _ _ dX12_readAtom_113 ⟨hM122, (FR.rf.tr fM122 (by decide)), by omega⟩
      · have u126k := ri_k (M := M0) (by omega) (by omega)
        refine j_aload_n C 0 0 dX12_readAtom_75 rfl rfl ?_
        refine j_iload_n C 1 1 dX12_readAtom_76 rfl rfl ?_
        refine j_callVi C (d := 6) (As := [.int (sI 2)]) (st := []) 98 (s_lt rfl rfl) (s_kc (c := 11) rfl rfl) (by decide) rfl (s3_X12_goesIn hM0 hpr gf gn gi (by omega) (by omega) (by omega) (by omega) (by omega) (by omega) (by omega)) gX12_readAtom_X12_goesIn rfl hdX12_goesIn (by decide) (Nat.le_of_ble_eq_true rfl) dX12_readAtom_77 rfl (fun r127 M128 h129 => ?_)
        obtain ⟨a131, rfl, hM128, fM128, h130⟩ := h129
        have bM128 := tkm_b (f := gf) (n := gn) (M := M128) (by omega)
        refine y_if_ne C 84 dX12_readAtom_80 (by decide) (by omega) (fun h132 => ?_) (fun h132 => ?_)
        · have u133c := xw_c (N := M0) (P := M128) 1 (FR.cell fM128 (by decide)) (by omega)
          have u133t := xw_t (M := M0) (N := M0) (P := M128) (r1 := 0) (e1 := 0) (s1 := 0) (r2 := 0) (e2 := 0) (s2 := 1) 0 0 1 (by decide) (by omega) (by omega)
          have u133a := ca_x (M := M0) (N := M128) (r := 0) (e := 0) (s := 1) (by decide) (by omega) (by omega)
          have u133l := ri_l (M := M128) (by omega)
          refine j_aload_n C 0 0 dX12_readAtom_84 rfl rfl ?_
          refine j_iload_n C 1 1 dX12_readAtom_85 rfl rfl ?_
          refine y_iconst C dX12_readAtom_86 ?_
          refine y_iadd C dX12_readAtom_87 ?_
          refine j_callVv C (d := 18) (As := [.int (sI (2 + 1))]) (st := []) 98 (s_lt rfl rfl) (s_kc (c := 11) rfl rfl) (by decide) rfl (s4_X12_readSum hM128 hpr gf gn (nxF gf gn gi) (by omega) (by omega) (by omega) (by omega) (by omega)) gX12_readAtom_X12_readSum rfl hdX12_readSum (by decide) (Nat.le_of_ble_eq_true rfl) dX12_readAtom_88 rfl (fun M135 h136 => ?_)
          obtain ⟨hM135, fM135, h137⟩ := h136
          have bM135 := tkm_b (f := gf) (n := gn) (M := M135) (by omega)
          have qM135 := po_rr (suR gf gn 3) gn (nxF gf gn gi) (M128.1 98 11).toInt (M128.1 98 12).toInt (M128.1 98 6).toInt (M135.1 98 11).toInt (M135.1 98 12).toInt (M135.1 98 6).toInt (suR_g gf gn 3) (by omega) (by omega)
          have u138t := xw_t (M := M0) (N := M128) (P := M135) (r1 := 0) (e1 := 0) (s1 := 1) (r2 := 0) (e2 := 1) (s2 := 0) 0 1 1 (by decide) (by omega) (by omega)
          have u138l := ri_l (M := M135) (by omega)
          refine j_aload_n C 0 0 dX12_readAtom_91 rfl rfl ?_
          refine y_bipush C dX12_readAtom_92 rfl ?_
          have k139 := tkm_K (f := gf) (n := gn) (M := M135) (by omega)
          have k140 := kd_2 (kdk_36 gf gn (M135.1 98 6).toInt) (by omega)
          refine j_callVi C (d := 6) (As := [.int (sI 36)]) (st := []) 98 (s_lt rfl rfl) (s_kc (c := 11) rfl rfl) (by decide) rfl (s1_X12_eats hM135 hpr 36 (by omega) gf gn ((suR gf gn 3) (nxF gf gn gi)).2.2 (by omega) (by omega) (by omega) (by omega) (by omega)) gX12_readAtom_X12_eats rfl hdX12_eats (by decide) (Nat.le_of_ble_eq_true rfl) dX12_readAtom_94 rfl (fun r141 M142 h143 => ?_)
          obtain ⟨a145, rfl, hM142, fM142, h144⟩ := h143
          have k146 := tk_c gf gn (M142.1 98 6).toInt (M135.1 98 6).toInt
          have bM142 := tkm_b (f := gf) (n := gn) (M := M142) (by omega)
          have u147c := xw_c (N := M135) (P := M142) 0 (FR.cell fM142 (by decide)) (by omega)
          have u147t := xw_t (M := M0) (N := M135) (P := M142) (r1 := 0) (e1 := 1) (s1 := 1) (r2 := 0) (e2 := 0) (s2 := 0) 0 1 0 (by decide) (by omega) (by omega)
          have u147a := ca_x (M := M0) (N := M142) (r := 0) (e := 1) (s := 0) (by decide) (by omega) (by omega)
          have u147l := ri_l (M := M142) (by omega)
          refine y_if_ne C 113 dX12_readAtom_97 (by decide) (by omega) (fun h148 => ?_) (fun h148 => ?_)
          · have u149x := ex_1 gf gn 2041 ((suR gf gn 3) (nxF gf gn gi)).2.2 (M135.1 98 11).toInt (M135.1 98 12).toInt (M135.1 98 6).toInt (M142.1 98 11).toInt (M142.1 98 12).toInt (M142.1 98 6).toInt (by omega) (by omega) (by omega) (by omega) (by omega) (by omega)
            have u149r := at_2 gf gn (suR gf gn 3) gi (M0.1 98 11).toInt (M0.1 98 12).toInt (M0.1 98 6).toInt (M128.1 98 11).toInt (M128.1 98 12).toInt (M135.1 98 11).toInt (M135.1 98 12).toInt (M135.1 98 6).toInt (M142.1 98 11).toInt (M142.1 98 12).toInt (M142.1 98 6).toInt (by omega) (by omega) (by omega) (by omega) (by omega) (by omega)
            have u149l : b01 (CL AGR (M142.1 98 11).toInt M0 M142 ((atL gf gn false (sLR gf gn 3)) gi)) = 1 := cl_e (cl_t (cl_t (cl_r (A := AGR) (M := M0) (N := M128) (M128.1 98 11).toInt (agr_c (FR.cell fM128 (by decide)))) (show b01 (CL AGR (M135.1 98 11).toInt M128 M135 ((sLR gf gn 3) (nxF gf gn gi))) = 1 by omega) (fun z => rr_z (show b01 (RR ((suR gf gn 3) (nxF gf gn gi)) (M128.1 98 11).toInt (M128.1 98 12).toInt (M135.1 98 11).toInt (M135.1 98 12).toInt (M135.1 98 6).toInt) = 1 by omega) z)) (cl_r (A := AGR) (M := M135) (N := M142) (M142.1 98 11).toInt (agr_c (FR.cell fM142 (by decide)))) (fun z => by omega)) (fun z => by rw [at_l2 gf gn (sLR gf gn 3) (show b01 (PO gn gi (M0.1 98 11).toInt (M0.1 98 6).toInt) = 1 by omega) (by omega) (by omega), List.nil_append, List.append_nil])
            exact hret _ _ _ dX12_readAtom_113 ⟨hM142, (((FR.rf.tr fM128 (by decide)).tr fM135 (by decide)).tr fM142 (by decide)), by omega⟩
          · refine j_aload_n C 0 0 dX12_readAtom_100 rfl rfl ?_
            refine y_iconst C dX12_readAtom_101 ?_
            have p150 := po_eq gn ((suR gf gn 3) (nxF gf gn gi)).2.2 (M135.1 98 11).toInt (M135.1 98 6).toInt (M142.1 98 11).toInt (M142.1 98 6).toInt (by omega) (by omega) (by omega)
            refine j_callVv C (d := 0) (As := [.int (sI 2)]) (st := []) 98 (s_lt rfl rfl) (s_kc (c := 11) rfl rfl) (by decide) rfl (s1_X12_fails hM142 hpr 2 (by omega) gf gn ((suR gf gn 3) (nxF gf gn gi)).2.2 (by omega) (by omega) (by omega) (by omega) (by omega)) gX12_readAtom_X12_fails rfl hdX12_fails (by decide) (Nat.le_of_ble_eq_true rfl) dX12_readAtom_102 rfl (fun M152 h153 => ?_)
            obtain ⟨hM152, fM152, h154⟩ := h153
            have bM152 := tkm_b (f := gf) (n := gn) (M := M152) (by omega)
            have qM152 := po_f gn ((faQ gf gn 2) ((suR gf gn 3) (nxF gf gn gi)).2.2).2.2 (M152.1 98 11).toInt (M152.1 98 6).toInt (by omega)
            have u155f : b01 (XW M0 M152 0 1 0) = 1 := b01_i (Or.inl (by omega))
            have u155a := ca_x (M := M0) (N := M152) (r := 0) (e := 1) (s := 0) (by decide) (by omega) (by omega)
            refine j_goto C 113 dX12_readAtom_105 (by decide) ?_
            have u156x := ex_2z gf gn 2041 ((suR gf gn 3) (nxF gf gn gi)).2.2 (M135.1 98 11).toInt (M135.1 98 12).toInt (M135.1 98 6).toInt (M152.1 98 11).toInt (M152.1 98 12).toInt (M152.1 98 6).toInt (by omega) (by omega) (rr_fr (faQ gf gn 2 ((suR gf gn 3) (nxF gf gn gi)).2.2) (M135.1 98 11).toInt (M135.1 98 12).toInt (M142.1 98 11).toInt (M142.1 98 12).toInt (M152.1 98 11).toInt (M152.1 98 12).toInt (M152.1 98 6).toInt (by omega) (by omega) (by omega))
            have u156r := at_2 gf gn (suR gf gn 3) gi (M0.1 98 11).toInt (M0.1 98 12).toInt (M0.1 98 6).toInt (M128.1 98 11).toInt (M128.1 98 12).toInt (M135.1 98 11).toInt (M135.1 98 12).toInt (M135.1 98 6).toInt (M152.1 98 11).toInt (M152.1 98 12).toInt (M152.1 98 6).toInt (by omega) (by omega) (by omega) (by omega) (by omega) (by omega)
            have u156l := cl_n (A := AGR) (M := M0) (N := M152) ((atL gf gn false (sLR gf gn 3)) gi) (a := (M152.1 98 11).toInt) (by omega)
            exact hret _ _ _ dX12_readAtom_113 ⟨hM152, ((((FR.rf.tr fM128 (by decide)).tr fM135 (by decide)).tr fM142 (by decide)).tr fM152 (by decide)), by omega⟩
        · exfalso; omega
    · refine j_aload_n C 0 0 dX12_readAtom_31 rfl rfl ?_
      refine j_aload_n C 0 0 dX12_readAtom_32 rfl rfl ?_
      refine y_getI C 11 _ _ fX12_readAtom_108 rfl rfl ft_11_9 sb_11_9 hM0 dX12_readAtom_33 (fun a157 ea157 la157 ua157 => ?_)
      obtain rfl : a157 = (M0.1 98 9).toInt := ea157
      have k159 := tkm_K (f := gf) (n := gn) (M := M0) (by omega)
      have k160 := kd_2 (wo_k gf gn (M0.1 98 6).toInt) (by omega)
      have k161 := wo_c (M0.1 98 9).toInt (kdF (tkF gf gn (M0.1 98 6).toInt))
      refine j_callVi C (d := 0) (As := [.int (sI (M0.1 98 9).toInt)]) (st := []) 98 (s_lt rfl rfl) (s_kc (c := 11) rfl rfl) (by decide) rfl (s1_X12_wordOf hM0 (M0.1 98 9).toInt (by omega)) gX12_readAtom_X12_wordOf rfl hdX12_wordOf (by decide) (Nat.le_of_ble_eq_true rfl) dX12_readAtom_36 rfl (fun r162 M163 h164 => ?_)
      obtain ⟨a166, rfl, rfl, h165⟩ := h164
      obtain rfl : a166 = (woF (M0.1 98 9).toInt) := by omega
      refine y_iconst C dX12_readAtom_39 ?_
      refine y_icmp_eq C 66 dX12_readAtom_40 (by decide) (by omega) (fun h167 => ?_) (fun h167 => ?_)
      · refine j_aload_n C 0 0 dX12_readAtom_66 rfl rfl ?_
        refine y_bipush C dX12_readAtom_67 rfl ?_
        have k168 := tkm_K (f := gf) (n := gn) (M := M0) (by omega)
        have k169 := kd_2 (kdk_35 gf gn (M0.1 98 6).toInt) (by omega)
        refine j_callVi C (d := 0) (As := [.int (sI 35)]) (st := []) 98 (s_lt rfl rfl) (s_kc (c := 11) rfl rfl) (by decide) rfl (s1_X12_is hM0 35 (by omega)) gX12_readAtom_X12_is rfl hdX12_is (by decide) (Nat.le_of_ble_eq_true rfl) dX12_readAtom_69 rfl (fun r170 M171 h172 => ?_)
        obtain ⟨a174, rfl, rfl, h173⟩ := h172
        refine y_if_eq C 108 dX12_readAtom_72 (by decide) (by omega) (fun h175 => ?_) (fun h175 => ?_)
        · refine j_aload_n C 0 0 dX12_readAtom_108 rfl rfl ?_
          refine y_iconst C dX12_readAtom_109 ?_
          refine j_callVv C (d := 0) (As := [.int (sI 2)]) (st := []) 98 (s_lt rfl rfl) (s_kc (c := 11) rfl rfl) (by decide) rfl (s1_X12_fails hM0 hpr 2 (by omega) gf gn gi (by omega) (by omega) (by omega) (by omega) (by omega)) gX12_readAtom_X12_fails rfl hdX12_fails (by decide) (Nat.le_of_ble_eq_true rfl) dX12_readAtom_110 rfl (fun M177 h178 => ?_)
          obtain ⟨hM177, fM177, h179⟩ := h178
          have bM177 := tkm_b (f := gf) (n := gn) (M := M177) (by omega)
          have qM177 := po_f gn ((faQ gf gn 2) gi).2.2 (M177.1 98 11).toInt (M177.1 98 6).toInt (by omega)
          have u180f : b01 (XW M0 M177 0 1 0) = 1 := b01_i (Or.inl (by omega))
          have u180a := ca_x (M := M0) (N := M177) (r := 0) (e := 1) (s := 0) (by decide) (by omega) (by omega)
          have u180r := at_4z gf gn false (suR gf gn 3) gi (M0.1 98 11).toInt (M0.1 98 12).toInt (M0.1 98 6).toInt (M177.1 98 11).toInt (M177.1 98 12).toInt (M177.1 98 6).toInt (by omega) (by omega) (by omega)
          have u180l := cl_n (A := AGR) (M := M0) (N := M177) ((atL gf gn false (sLR gf gn 3)) gi) (a := (M177.1 98 11).toInt) (by omega)
          exact hret _ _ _ dX12_readAtom_113 ⟨hM177, (FR.rf.tr fM177 (by decide)), by omega⟩
        · have u181k := ri_k (M := M0) (by omega) (by omega)
          refine j_aload_n C 0 0 dX12_readAtom_75 rfl rfl ?_
          refine j_iload_n C 1 1 dX12_readAtom_76 rfl rfl ?_
          refine j_callVi C (d := 6) (As := [.int (sI 2)]) (st := []) 98 (s_lt rfl rfl) (s_kc (c := 11) rfl rfl) (by decide) rfl (s3_X12_goesIn hM0 hpr gf gn gi (by omega) (by omega) (by omega) (by omega) (by omega) (by omega) (by omega)) gX12_readAtom_X12_goesIn rfl hdX12_goesIn (by decide) (Nat.le_of_ble_eq_true rfl) dX12_readAtom_77 rfl (fun r182 M183 h184 => ?_)
          obtain ⟨a186, rfl, hM183, fM183, h185⟩ := h184
          have bM183 := tkm_b (f := gf) (n := gn) (M := M183) (by omega)
          refine y_if_ne C 84 dX12_readAtom_80 (by decide) (by omega) (fun h187 => ?_) (fun h187 => ?_)
          · have u188c := xw_c (N := M0) (P := M183) 1 (FR.cell fM183 (by decide)) (by omega)
            have u188t := xw_t (M := M0) (N := M0) (P := M183) (r1 := 0) (e1 := 0) (s1 := 0) (r2 := 0) (e2 := 0) (s2 := 1) 0 0 1 (by decide) (by omega) (by omega)
            have u188a := ca_x (M := M0) (N := M183) (r := 0) (e := 0) (s := 1) (by decide) (by omega) (by omega)
            have u188l := ri_l (M := M183) (by omega)
            refine j_aload_n C 0 0 dX12_readAtom_84 rfl rfl ?_
            refine j_iload_n C 1 1 dX12_readAtom_85 rfl rfl ?_
            refine y_iconst C dX12_readAtom_86 ?_
            refine y_iadd C dX12_readAtom_87 ?_
            refine j_callVv C (d := 18) (As := [.int (sI (2 + 1))]) (st := []) 98 (s_lt rfl rfl) (s_kc (c := 11) rfl rfl) (by decide) rfl (s4_X12_readSum hM183 hpr gf gn (nxF gf gn gi) (by omega) (by omega) (by omega) (by omega) (by omega)) gX12_readAtom_X12_readSum rfl hdX12_readSum (by decide) (Nat.le_of_ble_eq_true rfl) dX12_readAtom_88 rfl (fun M190 h191 => ?_)
            obtain ⟨hM190, fM190, h192⟩ := h191
            have bM190 := tkm_b (f := gf) (n := gn) (M := M190) (by omega)
            have qM190 := po_rr (suR gf gn 3) gn (nxF gf gn gi) (M183.1 98 11).toInt (M183.1 98 12).toInt (M183.1 98 6).toInt (M190.1 98 11).toInt (M190.1 98 12).toInt (M190.1 98 6).toInt (suR_g gf gn 3) (by omega) (by omega)
            have u193t := xw_t (M := M0) (N := M183) (P := M190) (r1 := 0) (e1 := 0) (s1 := 1) (r2 := 0) (e2 := 1) (s2 := 0) 0 1 1 (by decide) (by omega) (by omega)
            have u193l := ri_l (M := M190) (by omega)
            refine j_aload_n C 0 0 dX12_readAtom_91 rfl rfl ?_
            refine y_bipush C dX12_readAtom_92 rfl ?_
            have k194 := tkm_K (f := gf) (n := gn) (M := M190) (by omega)
            have k195 := kd_2 (kdk_36 gf gn (M190.1 98 6).toInt) (by omega)
            refine j_callVi C (d := 6) (As := [.int (sI 36)]) (st := []) 98 (s_lt rfl rfl) (s_kc (c := 11) rfl rfl) (by decide) rfl (s1_X12_eats hM190 hpr 36 (by omega) gf gn ((suR gf gn 3) (nxF gf gn gi)).2.2 (by omega) (by omega) (by omega) (by omega) (by omega)) gX12_readAtom_X12_eats rfl hdX12_eats (by decide) (Nat.le_of_ble_eq_true rfl) dX12_readAtom_94 rfl (fun r196 M197 h198 => ?_)
            obtain ⟨a200, rfl, hM197, fM197, h199⟩ := h198
            have k201 := tk_c gf gn (M197.1 98 6).toInt (M190.1 98 6).toInt
            have bM197 := tkm_b (f := gf) (n := gn) (M := M197) (by omega)
            have u202c := xw_c (N := M190) (P := M197) 0 (FR.cell fM197 (by decide)) (by omega)
            have u202t := xw_t (M := M0) (N := M190) (P := M197) (r1 := 0) (e1 := 1) (s1 := 1) (r2 := 0) (e2 := 0) (s2 := 0) 0 1 0 (by decide) (by omega) (by omega)
            have u202a := ca_x (M := M0) (N := M197) (r := 0) (e := 1) (s := 0) (by decide) (by omega) (by omega)
            have u202l := ri_l (M := M197) (by omega)
            refine y_if_ne C 113 dX12_readAtom_97 (by decide) (by omega) (fun h203 => ?_) (fun h203 => ?_)
            · have u204x := ex_1 gf gn 2041 ((suR gf gn 3) (nxF gf gn gi)).2.2 (M190.1 98 11).toInt (M190.1 98 12).toInt (M190.1 98 6).toInt (M197.1 98 11).toInt (M197.1 98 12).toInt (M197.1 98 6).toInt (by omega) (by omega) (by omega) (by omega) (by omega) (by omega)
              have u204r := at_2 gf gn (suR gf gn 3) gi (M0.1 98 11).toInt (M0.1 98 12).toInt (M0.1 98 6).toInt (M183.1 98 11).toInt (M183.1 98 12).toInt (M190.1 98 11).toInt (M190.1 98 12).toInt (M190.1 98 6).toInt (M197.1 98 11).toInt (M197.1 98 12).toInt (M197.1 98 6).toInt (by omega) (by omega) (by omega) (by omega) (by omega) (by omega)
              have u204l : b01 (CL AGR (M197.1 98 11).toInt M0 M197 ((atL gf gn false (sLR gf gn 3)) gi)) = 1 := cl_e (cl_t (cl_t (cl_r (A := AGR) (M := M0) (N := M183) (M183.1 98 11).toInt (agr_c (FR.cell fM183 (by decide)))) (show b01 (CL AGR (M190.1 98 11).toInt M183 M190 ((sLR gf gn 3) (nxF gf gn gi))) = 1 by omega) (fun z => rr_z (show b01 (RR ((suR gf gn 3) (nxF gf gn gi)) (M183.1 98 11).toInt (M183.1 98 12).toInt (M190.1 98 11).toInt (M190.1 98 12).toInt (M190.1 98 6).toInt) = 1 by omega) z)) (cl_r (A := AGR) (M := M190) (N := M197) (M197.1 98 11).toInt (agr_c (FR.cell fM197 (by decide)))) (fun z => by omega)) (fun z => by rw [at_l2 gf gn (sLR gf gn 3) (show b01 (PO gn gi (M0.1 98 11).toInt (M0.1 98 6).toInt) = 1 by omega) (by omega) (by omega), List.nil_append, List.append_nil])
              exact hret _ _ _ dX12_readAtom_113 ⟨hM197, (((FR.rf.tr fM183 (by decide)).tr fM190 (by decide)).tr fM197 (by decide)), by omega⟩
            · refine j_aload_n C 0 0 dX12_readAtom_100 rfl rfl ?_
              refine y_iconst C dX12_readAtom_101 ?_
              have p205 := po_eq gn ((suR gf gn 3) (nxF gf gn gi)).2.2 (M190.1 98 11).toInt (M190.1 98 6).toInt (M197.1 98 11).toInt (M197.1 98 6).toInt (by omega) (by omega) (by omega)
              refine j_callVv C (d := 0) (As := [.int (sI 2)]) (st := []) 98 (s_lt rfl rfl) (s_kc (c := 11) rfl rfl) (by decide) rfl (s1_X12_fails hM197 hpr 2 (by omega) gf gn ((suR gf gn 3) (nxF gf gn gi)).2.2 (by omega) (by omega) (by omega) (by omega) (by omega)) gX12_readAtom_X12_fails rfl hdX12_fails (by decide) (Nat.le_of_ble_eq_true rfl) dX12_readAtom_102 rfl (fun M207 h208 => ?_)
              obtain ⟨hM207, fM207, h209⟩ := h208
              have bM207 := tkm_b (f := gf) (n := gn) (M := M207) (by omega)
              have qM207 := po_f gn ((faQ gf gn 2) ((suR gf gn 3) (nxF gf gn gi)).2.2).2.2 (M207.1 98 11).toInt (M207.1 98 6).toInt (by omega)
              have u210f : b01 (XW M0 M207 0 1 0) = 1 := b01_i (Or.inl (by omega))
              have u210a := ca_x (M := M0) (N := M207) (r := 0) (e := 1) (s := 0) (by decide) (by omega) (by omega)
              refine j_goto C 113 dX12_readAtom_105 (by decide) ?_
              have u211x := ex_2z gf gn 2041 ((suR gf gn 3) (nxF gf gn gi)).2.2 (M190.1 98 11).toInt (M190.1 98 12).toInt (M190.1 98 6).toInt (M207.1 98 11).toInt (M207.1 98 12).toInt (M207.1 98 6).toInt (by omega) (by omega) (rr_fr (faQ gf gn 2 ((suR gf gn 3) (nxF gf gn gi)).2.2) (M190.1 98 11).toInt (M190.1 98 12).toInt (M197.1 98 11).toInt (M197.1 98 12).toInt (M207.1 98 11).toInt (M207.1 98 12).toInt (M207.1 98 6).toInt (by omega) (by omega) (by omega))
              have u211r := at_2 gf gn (suR gf gn 3) gi (M0.1 98 11).toInt (M0.1 98 12).toInt (M0.1 98 6).toInt (M183.1 98 11).toInt (M183.1 98 12).toInt (M190.1 98 11).toInt (M190.1 98 12).toInt (M190.1 98 6).toInt (M207.1 98 11).toInt (M207.1 98 12).toInt (M207.1 98 6).toInt (by omega) (by omega) (by omega) (by omega) (by omega) (by omega)
              have u211l := cl_n (A := AGR) (M := M0) (N := M207) ((atL gf gn false (sLR gf gn 3)) gi) (a := (M207.1 98 11).toInt) (by omega)
              exact hret _ _ _ dX12_readAtom_113 ⟨hM207, ((((FR.rf.tr fM183 (by decide)).tr fM190 (by decide)).tr fM197 (by decide)).tr fM207 (by decide)), by omega⟩
          · exfalso; omega
      · have u212w := woF_s (M0.1 98 9).toInt
        have u212k := ri_k (M := M0) (by omega) (by omega)
        have u212b := cb_0 (M := M0) (by omega) (by omega)
        refine j_aload_n C 0 0 dX12_readAtom_43 rfl rfl ?_
        refine y_sipush C dX12_readAtom_44 rfl ?_
        refine j_aload_n C 0 0 dX12_readAtom_47 rfl rfl ?_
        refine j_aload_n C 0 0 dX12_readAtom_48 rfl rfl ?_
        refine y_getI C 11 _ _ fX12_readAtom_108 rfl rfl ft_11_9 sb_11_9 hM0 dX12_readAtom_49 (fun a213 ea213 la213 ua213 => ?_)
        obtain rfl : a213 = (M0.1 98 9).toInt := ea213
        have k215 := tkm_K (f := gf) (n := gn) (M := M0) (by omega)
        have k216 := kd_2 (wo_k gf gn (M0.1 98 6).toInt) (by omega)
        have k217 := wo_c (M0.1 98 9).toInt (kdF (tkF gf gn (M0.1 98 6).toInt))
        refine j_callVi C (d := 0) (As := [.int (sI (M0.1 98 9).toInt)]) (st := [.int (sI 1000), .ref (ad 98)]) 98 (s_lt rfl rfl) (s_kc (c := 11) rfl rfl) (by decide) rfl (s1_X12_wordOf hM0 (M0.1 98 9).toInt (by omega)) gX12_readAtom_X12_wordOf rfl hdX12_wordOf (by decide) (Nat.le_of_ble_eq_true rfl) dX12_readAtom_52 rfl (fun r218 M219 h220 => ?_)
        obtain ⟨a222, rfl, rfl, h221⟩ := h220
        obtain rfl : a222 = (woF (M0.1 98 9).toInt) := by omega
        refine y_iadd C dX12_readAtom_55 ?_
        refine j_callVv C (d := 0) (As := [.int (sI (1000 + (woF (M0.1 98 9).toInt)))]) (st := []) 98 (s_lt rfl rfl) (s_kc (c := 11) rfl rfl) (by decide) rfl (s1_X12_codes hM0 hpr (1000 + (woF (M0.1 98 9).toInt)) (by omega) gf gn gi (by omega) (by omega) (by omega) (by omega)) gX12_readAtom_X12_codes rfl hdX12_codes (by decide) (Nat.le_of_ble_eq_true rfl) dX12_readAtom_56 rfl (fun M225 h226 => ?_)
        obtain ⟨hM225, fM225, h227⟩ := h226
        have k228 := tk_c gf gn (M225.1 98 6).toInt (M0.1 98 6).toInt
        have bM225 := tkm_b (f := gf) (n := gn) (M := M225) (by omega)
        have qM225 := po_eq gn gi (M0.1 98 11).toInt (M0.1 98 6).toInt (M225.1 98 11).toInt (M225.1 98 6).toInt (by omega) (by omega) (by omega)
        have u229x := xw_a (M := M0) (N := M225) (c := (1000 + (woF (M0.1 98 9).toInt))) (r := 0) (e := 1) (FR.cell fM225 (by decide)) (ap_push ⟨(INV.rd hM0 (i := 102) (c := 48) (k := 280) rfl rfl).1, by omega, by omega⟩) (by omega)
        have u229t := xw_t (M := M0) (N := M0) (P := M225) (r1 := 0) (e1 := 0) (s1 := 0) (r2 := 0) (e2 := 1) (s2 := (-1)) 0 1 (-1) (by decide) (by omega) (by omega)
        have u229i := ri_c (M := M0) (N := M225) (FR.cell fM225 (by decide)) (by omega)
        have u229l := ri_l (M := M225) (by omega)
        have u229q6 : (M225.1 98 6).toInt = (M0.1 98 6).toInt := by rw [show M225.1 98 = M0.1 98 from FR.cell fM225 (by decide)]
        have u229q7 : (M225.1 98 7).toInt = (M0.1 98 7).toInt := by rw [show M225.1 98 = M0.1 98 from FR.cell fM225 (by decide)]
        have u229q8 : (M225.1 98 8).toInt = (M0.1 98 8).toInt := by rw [show M225.1 98 = M0.1 98 from FR.cell fM225 (by decide)]
        have u229q9 : (M225.1 98 9).toInt = (M0.1 98 9).toInt := by rw [show M225.1 98 = M0.1 98 from FR.cell fM225 (by decide)]
        have u229q11 : (M225.1 98 11).toInt = (M0.1 98 11).toInt := by rw [show M225.1 98 = M0.1 98 from FR.cell fM225 (by decide)]
        refine j_aload_n C 0 0 dX12_readAtom_59 rfl rfl ?_
        have zz98_7 : (M225.1 98 7).toInt = (M0.1 98 7).toInt := s_fF fM225 (by decide) (rfl)
        have zz98_8 : (M225.1 98 8).toInt = (M0.1 98 8).toInt := s_fF fM225 (by decide) (rfl)
        have k230 := tkm_p (f := gf) (n := gn) (M := M225) (by omega)
        have k231 := tkm_K (f := gf) (n := gn) (M := M225) (by omega)
        refine j_callVv C (d := 5) (As := []) (st := []) 98 (s_lt rfl rfl) (s_kc (c := 11) rfl rfl) (by decide) rfl (s1_X12_next hM225 hpr gf gn (by omega) (by omega) (by omega) (by omega)) gX12_readAtom_X12_next rfl hdX12_next (by decide) (Nat.le_of_ble_eq_true rfl) dX12_readAtom_60 rfl (fun M233 h234 => ?_)
        obtain ⟨hM233, fM233, h235⟩ := h234
        have bM233 := tkm_b (f := gf) (n := gn) (M := M233) (by omega)
        have qM233 := nx_po (f := gf) (n := gn) (i := gi) (M := M225) (M' := M233) (by omega) (by omega) (by omega) (by omega) (by omega)
        have u236c := xw_c (N := M225) (P := M233) 1 (FR.cell fM233 (by decide)) (by omega)
        have u236t := xw_t (M := M0) (N := M225) (P := M233) (r1 := 0) (e1 := 1) (s1 := (-1)) (r2 := 0) (e2 := 0) (s2 := 1) 0 1 0 (by decide) (by omega) (by omega)
        have u236a := ca_x (M := M0) (N := M233) (r := 0) (e := 1) (s := 0) (by decide) (by omega) (by omega)
        refine j_goto C 113 dX12_readAtom_63 (by decide) ?_
        have u237r := at_1 gf gn false (suR gf gn 3) gi (M0.1 98 11).toInt (M0.1 98 12).toInt (M0.1 98 6).toInt (M233.1 98 11).toInt (M233.1 98 12).toInt (M233.1 98 6).toInt (by omega) (by omega) (by omega) (by omega) (by omega) (by omega)
        have u237l : b01 (CL AGR (M233.1 98 11).toInt M0 M233 ((atL gf gn false (sLR gf gn 3)) gi)) = 1 := cl_e (cl_t (show b01 (CL AGR (M225.1 98 11).toInt M0 M225 [(1000 + (woF (M0.1 98 9).toInt))]) = 1 by omega) (cl_r (A := AGR) (M := M225) (N := M233) (M233.1 98 11).toInt (agr_c (FR.cell fM233 (by decide)))) (fun z => by omega)) (fun z => by rw [at_l1 gf gn false (sLR gf gn 3) (show b01 (PO gn gi (M0.1 98 11).toInt (M0.1 98 6).toInt) = 1 by omega) (by omega) (by omega), show cmF (tkF gf gn (M0.1 98 6).toInt) = (1000 + (woF (M0.1 98 9).toInt)) from (cm_lo (by omega)).trans (by omega)]; rfl)
        exact hret _ _ _ dX12_readAtom_113 ⟨hM233, ((FR.rf.tr fM225 (by decide)).tr fM233 (by decide)), by omega⟩
  · have u238k := ri_k (M := M0) (by omega) (by omega)
    have u238b := cb_0 (M := M0) (by omega) (by omega)
    refine j_aload_n C 0 0 dX12_readAtom_9 rfl rfl ?_
    refine j_aload_n C 0 0 dX12_readAtom_10 rfl rfl ?_
    refine y_getI C 11 _ _ fX12_readAtom_121 rfl rfl ft_11_10 sb_11_10 hM0 dX12_readAtom_11 (fun a239 ea239 la239 ua239 => ?_)
    obtain rfl : a239 = (M0.1 98 10).toInt := ea239
    have u241n := tkm_N (f := gf) (n := gn) (M := M0) (by omega)
    refine j_callVv C (d := 0) (As := [.int (sI (M0.1 98 10).toInt)]) (st := []) 98 (s_lt rfl rfl) (s_kc (c := 11) rfl rfl) (by decide) rfl (s1_X12_codes hM0 hpr (M0.1 98 10).toInt (by omega) gf gn gi (by omega) (by omega) (by omega) (by omega)) gX12_readAtom_X12_codes rfl hdX12_codes (by decide) (Nat.le_of_ble_eq_true rfl) dX12_readAtom_14 rfl (fun M243 h244 => ?_)
    obtain ⟨hM243, fM243, h245⟩ := h244
    have k246 := tk_c gf gn (M243.1 98 6).toInt (M0.1 98 6).toInt
    have bM243 := tkm_b (f := gf) (n := gn) (M := M243) (by omega)
    have qM243 := po_eq gn gi (M0.1 98 11).toInt (M0.1 98 6).toInt (M243.1 98 11).toInt (M243.1 98 6).toInt (by omega) (by omega) (by omega)
    have u247x := xw_a (M := M0) (N := M243) (c := (M0.1 98 10).toInt) (r := 0) (e := 1) (FR.cell fM243 (by decide)) (ap_push ⟨(INV.rd hM0 (i := 102) (c := 48) (k := 280) rfl rfl).1, by omega, by omega⟩) (by omega)
    have u247t := xw_t (M := M0) (N := M0) (P := M243) (r1 := 0) (e1 := 0) (s1 := 0) (r2 := 0) (e2 := 1) (s2 := (-1)) 0 1 (-1) (by decide) (by omega) (by omega)
    have u247i := ri_c (M := M0) (N := M243) (FR.cell fM243 (by decide)) (by omega)
    have u247l := ri_l (M := M243) (by omega)
    have u247q6 : (M243.1 98 6).toInt = (M0.1 98 6).toInt := by rw [show M243.1 98 = M0.1 98 from FR.cell fM243 (by decide)]
    have u247q7 : (M243.1 98 7).toInt = (M0.1 98 7).toInt := by rw [show M243.1 98 = M0.1 98 from FR.cell fM243 (by decide)]
    have u247q8 : (M243.1 98 8).toInt = (M0.1 98 8).toInt := by rw [show M243.1 98 = M0.1 98 from FR.cell fM243 (by decide)]
    have u247q9 : (M243.1 98 9).toInt = (M0.1 98 9).toInt := by rw [show M243.1 98 = M0.1 98 from FR.cell fM243 (by decide)]
    have u247q11 : (M243.1 98 11).toInt = (M0.1 98 11).toInt := by rw [show M243.1 98 = M0.1 98 from FR.cell fM243 (by decide)]
    refine j_aload_n C 0 0 dX12_readAtom_17 rfl rfl ?_
    have zz98_7 : (M243.1 98 7).toInt = (M0.1 98 7).toInt := s_fF fM243 (by decide) (rfl)
    have zz98_8 : (M243.1 98 8).toInt = (M0.1 98 8).toInt := s_fF fM243 (by decide) (rfl)
    have k248 := tkm_p (f := gf) (n := gn) (M := M243) (by omega)
    have k249 := tkm_K (f := gf) (n := gn) (M := M243) (by omega)
    refine j_callVv C (d := 5) (As := []) (st := []) 98 (s_lt rfl rfl) (s_kc (c := 11) rfl rfl) (by decide) rfl (s1_X12_next hM243 hpr gf gn (by omega) (by omega) (by omega) (by omega)) gX12_readAtom_X12_next rfl hdX12_next (by decide) (Nat.le_of_ble_eq_true rfl) dX12_readAtom_18 rfl (fun M251 h252 => ?_)
    obtain ⟨hM251, fM251, h253⟩ := h252
    have bM251 := tkm_b (f := gf) (n := gn) (M := M251) (by omega)
    have qM251 := nx_po (f := gf) (n := gn) (i := gi) (M := M243) (M' := M251) (by omega) (by omega) (by omega) (by omega) (by omega)
    have u254c := xw_c (N := M243) (P := M251) 1 (FR.cell fM251 (by decide)) (by omega)
    have u254t := xw_t (M := M0) (N := M243) (P := M251) (r1 := 0) (e1 := 1) (s1 := (-1)) (r2 := 0) (e2 := 0) (s2 := 1) 0 1 0 (by decide) (by omega) (by omega)
    have u254a := ca_x (M := M0) (N := M251) (r := 0) (e := 1) (s := 0) (by decide) (by omega) (by omega)
    refine j_goto C 113 dX12_readAtom_21 (by decide) ?_
    have u255r := at_1 gf gn false (suR gf gn 3) gi (M0.1 98 11).toInt (M0.1 98 12).toInt (M0.1 98 6).toInt (M251.1 98 11).toInt (M251.1 98 12).toInt (M251.1 98 6).toInt (by omega) (by omega) (by omega) (by omega) (by omega) (by omega)
    have u255l : b01 (CL AGR (M251.1 98 11).toInt M0 M251 ((atL gf gn false (sLR gf gn 3)) gi)) = 1 := cl_e (cl_t (show b01 (CL AGR (M243.1 98 11).toInt M0 M243 [(M0.1 98 10).toInt]) = 1 by omega) (cl_r (A := AGR) (M := M243) (N := M251) (M251.1 98 11).toInt (agr_c (FR.cell fM251 (by decide)))) (fun z => by omega)) (fun z => by rw [at_l1 gf gn false (sLR gf gn 3) (show b01 (PO gn gi (M0.1 98 11).toInt (M0.1 98 6).toInt) = 1 by omega) (by omega) (by omega), show cmF (tkF gf gn (M0.1 98 6).toInt) = (M0.1 98 10).toInt from (cm_lo (by omega)).trans (by omega)]; rfl)
    exact hret _ _ _ dX12_readAtom_113 ⟨hM251, ((FR.rf.tr fM243 (by decide)).tr fM251 (by decide)), by omega⟩
set_option maxHeartbeats 4000000 in
theorem s5_X12_readTerm {l : Launch} {dC : Nat → ClassId} {dI : Nat → Nat → Nat} {ad : Nat → Nat} {cA : Nat → ClassId} {pr : Nat → Nat → Bool} {Kz : mm_M} {M0 : mm_M} (hM0 : INV pr Kz M0) (hpr : PM pr) (gf : Nat → Int) (gn : Int) (gi : Int) (hp0 : b01 (RIP M0) = 1) (hp1 : b01 (CA M0) = 1) (hp2 : b01 (TKM gf gn M0) = 1) (hp3 : b01 (PO gn gi (M0.1 98 11).toInt (M0.1 98 6).toInt) = 1) (hp4 : b01 (PI M0) = 1) : Cv l 20 yX12_readTerm wsX12_readTerm dC dI ad cA [.ref (ad 98), .int (sI 2)] M0 (fun M' => INV pr Kz M' ∧ FR [98, 102] M0 M' ∧ (b01 (RIP M') = 1) ∧ ((M'.1 98 8).toInt = (M0.1 98 8).toInt) ∧ ((M0.1 98 6).toInt ≤ (M'.1 98 6).toInt) ∧ (b01 (XW M0 M' 0 1 0) = 1) ∧ (b01 (CA M') = 1) ∧ (b01 (CL AGR (M'.1 98 11).toInt M0 M' ((teL gf gn false (suR gf gn 3) (sLR gf gn 3)) gi)) = 1) ∧ (b01 (PI M') = 1) ∧ (b01 (TKM gf gn M') = 1) ∧ b01 (RR ((teP gf gn false (suR gf gn 3)) gi) (M0.1 98 11).toInt (M0.1 98 12).toInt (M'.1 98 11).toInt (M'.1 98 12).toInt (M'.1 98 6).toInt) = 1) := by
  refine cv_of (cc := cX12_readTerm) (maxL := 2) (lv := [(0, .ref (ad 98)), (1, .int (sI 2))]) (by decide) rfl (Nat.le_of_ble_eq_true rfl) rfl ?_
  intro p e s m args below meth c A Q C hret
  have u101z := xw_0 M0
  have u101l := ri_l (M := M0) (by omega)
  refine j_aload_n C 0 0 dX12_readTerm_0 rfl rfl ?_
  refine j_iload_n C 1 1 dX12_readTerm_1 rfl rfl ?_
  refine j_callVv C (d := 19) (As := [.int (sI 2)]) (st := []) 98 (s_lt rfl rfl) (s_kc (c := 11) rfl rfl) (by decide) rfl (s5_X12_readAtom hM0 hpr gf gn gi (by omega) (by omega) (by omega) (by omega) (by omega)) gX12_readTerm_X12_readAtom rfl hdX12_readAtom (by decide) (Nat.le_of_ble_eq_true rfl) dX12_readTerm_2 rfl (fun M103 h104 => ?_)
  obtain ⟨hM103, fM103, h105⟩ := h104
  have bM103 := tkm_b (f := gf) (n := gn) (M := M103) (by omega)
  have qM103 := po_rr (atP gf gn false (suR gf gn 3)) gn gi (M0.1 98 11).toInt (M0.1 98 12).toInt (M0.1 98 6).toInt (M103.1 98 11).toInt (M103.1 98 12).toInt (M103.1 98 6).toInt (at_g gf gn (fun _ => suR_g gf gn 3)) (by omega) (by omega)
  have u106l := ri_l (M := M103) (by omega)
  have u106L := ll_0 (luP gf gn 2042 2042 (atP gf gn false (suR gf gn 3))) gn ((atP gf gn false (suR gf gn 3)) gi).2.2 (M103.1 98 11).toInt (M103.1 98 12).toInt (M103.1 98 6).toInt (by omega)
  have u106c := lc_0 (A := AGR) (M103.1 98 11).toInt (luL gf gn 2042 2042 (atP gf gn false (suR gf gn 3)) (atL gf gn false (sLR gf gn 3))) ((atP gf gn false (suR gf gn 3)) gi).2.2 M103
  have L133 : ∀ (n131 : Nat), ∀ (M134 : mm_M) (gq135 : Int), ((b01 (RIP M134) = 1) ∧ ((M134.1 98 8).toInt = (M0.1 98 8).toInt) ∧ ((M0.1 98 6).toInt ≤ (M134.1 98 6).toInt) ∧ (b01 (XW M0 M134 0 1 0) = 1) ∧ ((M134.1 98 6).toInt ≤ 900) ∧ (b01 (LL (luP gf gn 2042 2042 (atP gf gn false (suR gf gn 3))) gn ((atP gf gn false (suR gf gn 3)) gi).2.2 gq135 0 (M103.1 98 11).toInt (M103.1 98 12).toInt (M134.1 98 11).toInt (M134.1 98 12).toInt (M134.1 98 6).toInt) = 1) ∧ (b01 (LC AGR (M134.1 98 11).toInt (luL gf gn 2042 2042 (atP gf gn false (suR gf gn 3)) (atL gf gn false (sLR gf gn 3))) ((atP gf gn false (suR gf gn 3)) gi).2.2 gq135 M103 M134) = 1) ∧ (b01 (TKM gf gn M134) = 1) ∧ (b01 (PO gn gq135 (M134.1 98 11).toInt (M134.1 98 6).toInt) = 1) ∧ (b01 (PI M134) = 1) ∧ (900 - (M134.1 98 6).toInt) < (n131 : Int)) → INV pr Kz M134 → FR [98, 102] M0 M134 → jj p l e (cn_R 20) s m args below meth c 0 0 Q 2 dC dI ad cA A M134 5 [(0, .ref (ad 98)), (1, .int (sI 2))] [] := by
    intro n131
    induction n131 with
    | zero =>
      intro M134 gq135 h136 hM134 fM134
      exfalso; omega
    | succ n131 ih132 =>
      intro M134 gq135 h136 hM134 fM134
      have u137l := ri_l (M := M134) (by omega)
      have u137B := tkm_b (f := gf) (n := gn) (M := M134) (by omega)
      refine j_aload_n C 0 0 dX12_readTerm_5 rfl rfl ?_
      refine y_bipush C dX12_readTerm_6 rfl ?_
      have k138 := tkm_K (f := gf) (n := gn) (M := M134) (by omega)
      have k139 := kd_2 (kdk_34 gf gn (M134.1 98 6).toInt) (by omega)
      refine j_callVi C (d := 6) (As := [.int (sI 34)]) (st := []) 98 (s_lt rfl rfl) (s_kc (c := 11) rfl rfl) (by decide) rfl (s1_X12_eats hM134 hpr 34 (by omega) gf gn gq135 (by omega) (by omega) (by omega) (by omega) (by omega)) gX12_readTerm_X12_eats rfl hdX12_eats (by decide) (Nat.le_of_ble_eq_true rfl) dX12_readTerm_8 rfl (fun r140 M141 h142 => ?_)
      obtain ⟨a144, rfl, hM141, fM141, h143⟩ := h142
      have k145 := tk_c gf gn (M141.1 98 6).toInt (M134.1 98 6).toInt
      have bM141 := tkm_b (f := gf) (n := gn) (M := M141) (by omega)
      refine y_if_eq C 29 dX12_readTerm_11 (by decide) (by omega) (fun h146 => ?_) (fun h146 => ?_)
      · have u159c := xw_c (N := M134) (P := M141) 0 (FR.cell fM141 (by decide)) (by omega)
        have u159t := xw_t (M := M0) (N := M134) (P := M141) (r1 := 0) (e1 := 1) (s1 := 0) (r2 := 0) (e2 := 0) (s2 := 0) 0 1 0 (by decide) (by omega) (by omega)
        have u159a := ca_x (M := M0) (N := M141) (r := 0) (e := 1) (s := 0) (by decide) (by omega) (by omega)
        have u159E := ll_e gf gn 2042 2042 (atP gf gn false (suR gf gn 3)) ((atP gf gn false (suR gf gn 3)) gi).2.2 gq135 0 (M103.1 98 11).toInt (M103.1 98 12).toInt (M134.1 98 11).toInt (M134.1 98 12).toInt (M134.1 98 6).toInt (by decide) (at_g gf gn (fun _ => suR_g gf gn 3)) (by omega) (by omega)
        have u159S : b01 (RR ((teP gf gn false (suR gf gn 3)) gi) (M0.1 98 11).toInt (M0.1 98 12).toInt (M134.1 98 11).toInt (M134.1 98 12).toInt (M134.1 98 6).toInt) = 1 := rr_sq ((atP gf gn false (suR gf gn 3)) gi) (luP gf gn 2042 2042 (atP gf gn false (suR gf gn 3))) (M0.1 98 11).toInt (M0.1 98 12).toInt (M103.1 98 11).toInt (M103.1 98 12).toInt (M103.1 98 6).toInt (M134.1 98 11).toInt (M134.1 98 12).toInt (M134.1 98 6).toInt (by omega) (by omega)
        have u159R := rr_eq ((teP gf gn false (suR gf gn 3)) gi) (M0.1 98 11).toInt (M0.1 98 12).toInt (M134.1 98 11).toInt (M134.1 98 12).toInt (M134.1 98 6).toInt (M141.1 98 11).toInt (M141.1 98 12).toInt (M141.1 98 6).toInt (by omega) (by omega) (by omega) (by omega)
        have u159x := lc_e gf gn 2042 2042 (atP gf gn false (suR gf gn 3)) ((atL gf gn false (sLR gf gn 3))) (by decide) (show b01 (LC AGR (M134.1 98 11).toInt (luL gf gn 2042 2042 (atP gf gn false (suR gf gn 3)) (atL gf gn false (sLR gf gn 3))) ((atP gf gn false (suR gf gn 3)) gi).2.2 gq135 M103 M134) = 1 by omega) (show b01 (LL (luP gf gn 2042 2042 (atP gf gn false (suR gf gn 3))) gn ((atP gf gn false (suR gf gn 3)) gi).2.2 gq135 0 (M103.1 98 11).toInt (M103.1 98 12).toInt (M134.1 98 11).toInt (M134.1 98 12).toInt (M134.1 98 6).toInt) = 1 by omega) (by omega)
        have u159y : b01 (CL AGR (M134.1 98 11).toInt M0 M134 ((teL gf gn false (suR gf gn 3) (sLR gf gn 3)) gi)) = 1 := cl_e (cl_t (show b01 (CL AGR (M103.1 98 11).toInt M0 M103 ((atL gf gn false (sLR gf gn 3)) gi)) = 1 by omega) u159x (fun z => rr_z (show b01 (RR ((luP gf gn 2042 2042 (atP gf gn false (suR gf gn 3))) ((atP gf gn false (suR gf gn 3)) gi).2.2) (M103.1 98 11).toInt (M103.1 98 12).toInt (M134.1 98 11).toInt (M134.1 98 12).toInt (M134.1 98 6).toInt) = 1 by omega) z)) (fun z => rfl)
        have u159l : b01 (CL AGR (M141.1 98 11).toInt M0 M141 ((teL gf gn false (suR gf gn 3) (sLR gf gn 3)) gi)) = 1 := cl_e (cl_t u159y (cl_r (A := AGR) (M := M134) (N := M141) (M141.1 98 11).toInt (agr_c (FR.cell fM141 (by decide)))) (fun z => by omega)) (fun z => (List.append_nil _).symm)
        exact hret _ _ _ dX12_readTerm_29 ⟨hM141, ((FR.rf.tr fM134 (by decide)).tr fM141 (by decide)), by omega⟩
      · have u147c := xw_c (N := M134) (P := M141) 1 (FR.cell fM141 (by decide)) (by omega)
        have u147t := xw_t (M := M0) (N := M134) (P := M141) (r1 := 0) (e1 := 1) (s1 := 0) (r2 := 0) (e2 := 0) (s2 := 1) 0 1 1 (by decide) (by omega) (by omega)
        have u147a := ca_x (M := M0) (N := M141) (r := 0) (e := 1) (s := 1) (by decide) (by omega) (by omega)
        have u147l := ri_l (M := M141) (by omega)
        refine j_aload_n C 0 0 dX12_readTerm_14 rfl rfl ?_
        refine j_iload_n C 1 1 dX12_readTerm_15 rfl rfl ?_
        refine j_callVv C (d := 19) (As := [.int (sI 2)]) (st := []) 98 (s_lt rfl rfl) (s_kc (c := 11) rfl rfl) (by decide) rfl (s5_X12_readAtom hM141 hpr gf gn (nxF gf gn gq135) (by omega) (by omega) (by omega) (by omega) (by omega)) gX12_readTerm_X12_readAtom rfl hdX12_readAtom (by decide) (Nat.le_of_ble_eq_true rfl) dX12_readTerm_16 rfl (fun M149 h150 => ?_)
        obtain ⟨hM149, fM149, h151⟩ := h150
        have bM149 := tkm_b (f := gf) (n := gn) (M := M149) (by omega)
        have qM149 := po_rr (atP gf gn false (suR gf gn 3)) gn (nxF gf gn gq135) (M141.1 98 11).toInt (M141.1 98 12).toInt (M141.1 98 6).toInt (M149.1 98 11).toInt (M149.1 98 12).toInt (M149.1 98 6).toInt (at_g gf gn (fun _ => suR_g gf gn 3)) (by omega) (by omega)
        have u152t := xw_t (M := M0) (N := M141) (P := M149) (r1 := 0) (e1 := 1) (s1 := 1) (r2 := 0) (e2 := 1) (s2 := 0) 0 2 1 (by decide) (by omega) (by omega)
        have u152l := ri_l (M := M149) (by omega)
        have u152b := cb_x (M := M0) (N := M149) (r := 0) (e := 2) (s := 1) (by decide) (by omega) (by omega) (by omega)
        refine j_aload_n C 0 0 dX12_readTerm_19 rfl rfl ?_
        refine y_sipush C dX12_readTerm_20 rfl ?_
        refine j_callVv C (d := 0) (As := [.int (sI 3002)]) (st := []) 98 (s_lt rfl rfl) (s_kc (c := 11) rfl rfl) (by decide) rfl (s1_X12_codes hM149 hpr 3002 (by omega) gf gn ((atP gf gn false (suR gf gn 3)) (nxF gf gn gq135)).2.2 (by omega) (by omega) (by omega) (by omega)) gX12_readTerm_X12_codes rfl hdX12_codes (by decide) (Nat.le_of_ble_eq_true rfl) dX12_readTerm_23 rfl (fun M154 h155 => ?_)
        obtain ⟨hM154, fM154, h156⟩ := h155
        have k157 := tk_c gf gn (M154.1 98 6).toInt (M149.1 98 6).toInt
        have bM154 := tkm_b (f := gf) (n := gn) (M := M154) (by omega)
        have qM154 := po_eq gn ((atP gf gn false (suR gf gn 3)) (nxF gf gn gq135)).2.2 (M149.1 98 11).toInt (M149.1 98 6).toInt (M154.1 98 11).toInt (M154.1 98 6).toInt (by omega) (by omega) (by omega)
        refine j_goto C 5 dX12_readTerm_26 (by decide) ?_
        have u158x := xw_a (M := M149) (N := M154) (c := 3002) (r := 2) (e := (-1)) (FR.cell fM154 (by decide)) (ap_bin ⟨(INV.rd hM149 (i := 102) (c := 48) (k := 280) rfl rfl).1, by omega, by omega⟩) (by omega)
        have u158t := xw_t (M := M0) (N := M149) (P := M154) (r1 := 0) (e1 := 2) (s1 := 1) (r2 := 2) (e2 := (-1)) (s2 := (-1)) 0 1 0 (by decide) (by omega) (by omega)
        have u158i := ri_c (M := M149) (N := M154) (FR.cell fM154 (by decide)) (by omega)
        have u158l := ri_l (M := M154) (by omega)
        have u158L := ll_w (luP gf gn 2042 2042 (atP gf gn false (suR gf gn 3))) gn ((atP gf gn false (suR gf gn 3)) gi).2.2 ((atP gf gn false (suR gf gn 3)) (nxF gf gn gq135)).2.2 (0 + 1) 0 (M103.1 98 11).toInt (M103.1 98 12).toInt (M154.1 98 11).toInt (M154.1 98 12).toInt (M154.1 98 6).toInt (by decide) (ll_s gf gn 2042 2042 (atP gf gn false (suR gf gn 3)) ((atP gf gn false (suR gf gn 3)) gi).2.2 gq135 0 (M103.1 98 11).toInt (M103.1 98 12).toInt (M134.1 98 11).toInt (M134.1 98 12).toInt (M134.1 98 6).toInt (M141.1 98 11).toInt (M141.1 98 12).toInt (M149.1 98 11).toInt (M149.1 98 12).toInt (M149.1 98 6).toInt (M154.1 98 11).toInt (M154.1 98 12).toInt (M154.1 98 6).toInt (by decide) (at_g gf gn (fun _ => suR_g gf gn 3)) (by omega) (by omega) (by omega) (by omega) (by omega) (by omega) (by omega) (by omega) (by omega))
        have u158c := lc_s gf gn 2042 2042 (atP gf gn false (suR gf gn 3)) (atL gf gn false (sLR gf gn 3)) (by decide) (at_g gf gn (fun _ => suR_g gf gn 3)) (show b01 (LC AGR (M134.1 98 11).toInt (luL gf gn 2042 2042 (atP gf gn false (suR gf gn 3)) (atL gf gn false (sLR gf gn 3))) ((atP gf gn false (suR gf gn 3)) gi).2.2 gq135 M103 M134) = 1 by omega) (show b01 (PO gn gq135 (M134.1 98 11).toInt (M134.1 98 6).toInt) = 1 by omega) (by omega) (show b01 (RR ((atP gf gn false (suR gf gn 3)) (nxF gf gn gq135)) (M141.1 98 11).toInt (M141.1 98 12).toInt (M149.1 98 11).toInt (M149.1 98 12).toInt (M149.1 98 6).toInt) = 1 by omega) (fun z => by omega) (cl_e (L := ([] ++ ((atL gf gn false (sLR gf gn 3)) (nxF gf gn gq135))) ++ [3002]) (cl_t (cl_t (cl_r (A := AGR) (M := M134) (N := M141) (M141.1 98 11).toInt (agr_c (FR.cell fM141 (by decide)))) (show b01 (CL AGR (M149.1 98 11).toInt M141 M149 ((atL gf gn false (sLR gf gn 3)) (nxF gf gn gq135))) = 1 by omega) (fun z => rr_z (show b01 (RR ((atP gf gn false (suR gf gn 3)) (nxF gf gn gq135)) (M141.1 98 11).toInt (M141.1 98 12).toInt (M149.1 98 11).toInt (M149.1 98 12).toInt (M149.1 98 6).toInt) = 1 by omega) z)) (show b01 (CL AGR (M154.1 98 11).toInt M149 M154 [3002]) = 1 by omega) (fun z => by omega)) (fun z => by rw [show tkF gf gn (M134.1 98 6).toInt = 2042 by omega, cm_tab.2.2.1, List.nil_append]) : b01 (CL AGR (M154.1 98 11).toInt M134 M154 (((atL gf gn false (sLR gf gn 3)) (nxF gf gn gq135)) ++ [cmF (tkF gf gn (M134.1 98 6).toInt)])) = 1) (fun z => by omega)
        have zz98_8 : (M154.1 98 8).toInt = (M149.1 98 8).toInt := s_fF fM154 (by decide) (rfl); have zz98_6 : (M154.1 98 6).toInt = (M149.1 98 6).toInt := s_fF fM154 (by decide) (rfl); have zz98_12 : (M154.1 98 12).toInt = (M149.1 98 12).toInt := s_fF fM154 (by decide) (rfl); have zz98_11 : (M154.1 98 11).toInt = (M149.1 98 11).toInt := s_fF fM154 (by decide) (rfl); exact ih132 M154 ((atP gf gn false (suR gf gn 3)) (nxF gf gn gq135)).2.2 (by omega) hM154 ((((FR.rf.tr fM134 (by decide)).tr fM141 (by decide)).tr fM149 (by decide)).tr fM154 (by decide))
  exact L133 2010 M103 ((atP gf gn false (suR gf gn 3)) gi).2.2 (by omega) hM103 (FR.rf.tr fM103 (by decide))
