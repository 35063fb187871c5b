set_option maxHeartbeats 4000000 in
theorem s6_X12_readTerm {l : Launch} {dC : Nat → ClassId} {dI : Nat → Nat → Nat} {ad : Nat → Nat} {cA : Nat → ClassId} {pr : Nat → Nat → Bool} {Kz : mm_M} {M0 : mm_M} (hM0 : INV pr Kz M0) (hpr : PM pr) (gf : Nat → Int) (gn : Int) (gi : Int) (hp0 : b01 (RIP M0) = 1) (hp1 : b01 (CA M0) = 1) (hp2 : b01 (TKM gf gn M0) = 1) (hp3 : b01 (PO gn gi (M0.1 98 11).toInt (M0.1 98 6).toInt) = 1) (hp4 : b01 (PI M0) = 1) : Cv l 23 yX12_readTerm wsX12_readTerm dC dI ad cA [.ref (ad 98), .int (sI 1)] M0 (fun M' => INV pr Kz M' ∧ FR [98, 102] M0 M' ∧ (b01 (RIP M') = 1) ∧ ((M'.1 98 8).toInt = (M0.1 98 8).toInt) ∧ ((M0.1 98 6).toInt ≤ (M'.1 98 6).toInt) ∧ (b01 (XW M0 M' 0 1 0) = 1) ∧ (b01 (CA M') = 1) ∧ (b01 (PI M') = 1) ∧ (b01 (TKM gf gn M') = 1) ∧ b01 (RR ((teP gf gn false (suR gf gn 4)) gi) (M0.1 98 11).toInt (M0.1 98 12).toInt (M'.1 98 11).toInt (M'.1 98 12).toInt (M'.1 98 6).toInt) = 1) := by
  refine cv_of (cc := cX12_readTerm) (maxL := 2) (lv := [(0, .ref (ad 98)), (1, .int (sI 1))]) (by decide) rfl (Nat.le_of_ble_eq_true rfl) rfl ?_
  intro p e s m args below meth c A Q C hret
  have u101z := xw_0 M0
  have u101l := ri_l (M := M0) (by omega)
  refine j_aload_n C 0 0 dX12_readTerm_0 rfl rfl ?_
  refine j_iload_n C 1 1 dX12_readTerm_1 rfl rfl ?_
  refine j_callVv C (d := 22) (As := [.int (sI 1)]) (st := []) 98 (s_lt rfl rfl) (s_kc (c := 11) rfl rfl) (by decide) rfl (s6_X12_readAtom hM0 hpr gf gn gi (by omega) (by omega) (by omega) (by omega) (by omega)) gX12_readTerm_X12_readAtom rfl hdX12_readAtom (by decide) (Nat.le_of_ble_eq_true rfl) dX12_readTerm_2 rfl (fun M103 h104 => ?_)
  obtain ⟨hM103, fM103, h105⟩ := h104
  have bM103 := tkm_b (f := gf) (n := gn) (M := M103) (by omega)
  have qM103 := po_rr (atP gf gn false (suR gf gn 4)) gn gi (M0.1 98 11).toInt (M0.1 98 12).toInt (M0.1 98 6).toInt (M103.1 98 11).toInt (M103.1 98 12).toInt (M103.1 98 6).toInt (at_g gf gn (fun _ => suR_g gf gn 4)) (by omega) (by omega)
  have u106l := ri_l (M := M103) (by omega)
  have u106L := ll_0 (luP gf gn 2042 2042 (atP gf gn false (suR gf gn 4))) gn ((atP gf gn false (suR gf gn 4)) gi).2.2 (M103.1 98 11).toInt (M103.1 98 12).toInt (M103.1 98 6).toInt (by omega)
  have L132 : ∀ (n130 : Nat), ∀ (M133 : mm_M) (gq134 : Int), ((b01 (RIP M133) = 1) ∧ ((M133.1 98 8).toInt = (M0.1 98 8).toInt) ∧ ((M0.1 98 6).toInt ≤ (M133.1 98 6).toInt) ∧ (b01 (XW M0 M133 0 1 0) = 1) ∧ ((M133.1 98 6).toInt ≤ 900) ∧ (b01 (LL (luP gf gn 2042 2042 (atP gf gn false (suR gf gn 4))) gn ((atP gf gn false (suR gf gn 4)) gi).2.2 gq134 0 (M103.1 98 11).toInt (M103.1 98 12).toInt (M133.1 98 11).toInt (M133.1 98 12).toInt (M133.1 98 6).toInt) = 1) ∧ (b01 (TKM gf gn M133) = 1) ∧ (b01 (PO gn gq134 (M133.1 98 11).toInt (M133.1 98 6).toInt) = 1) ∧ (b01 (PI M133) = 1) ∧ (900 - (M133.1 98 6).toInt) < (n130 : Int)) → INV pr Kz M133 → FR [98, 102] M0 M133 → jj p l e (cn_R 23) s m args below meth c 0 0 Q 2 dC dI ad cA A M133 5 [(0, .ref (ad 98)), (1, .int (sI 1))] [] := by
    intro n130
    induction n130 with
    | zero =>
      intro M133 gq134 h135 hM133 fM133
      exfalso; omega
    | succ n130 ih131 =>
      intro M133 gq134 h135 hM133 fM133
      have u136l := ri_l (M := M133) (by omega)
      have u136B := tkm_b (f := gf) (n := gn) (M := M133) (by omega)
      refine j_aload_n C 0 0 dX12_readTerm_5 rfl rfl ?_
      refine y_bipush C dX12_readTerm_6 rfl ?_
      have k137 := tkm_K (f := gf) (n := gn) (M := M133) (by omega)
      have k138 := kd_2 (kdk_34 gf gn (M133.1 98 6).toInt) (by omega)
      refine j_callVi C (d := 6) (As := [.int (sI 34)]) (st := []) 98 (s_lt rfl rfl) (s_kc (c := 11) rfl rfl) (by decide) rfl (s1_X12_eats hM133 hpr 34 (by omega) gf gn gq134 (by omega) (by omega) (by omega) (by omega) (by omega)) gX12_readTerm_X12_eats rfl hdX12_eats (by decide) (Nat.le_of_ble_eq_true rfl) dX12_readTerm_8 rfl (fun r139 M140 h141 => ?_)
      obtain ⟨a143, rfl, hM140, fM140, h142⟩ := h141
      have k144 := tk_c gf gn (M140.1 98 6).toInt (M133.1 98 6).toInt
      have bM140 := tkm_b (f := gf) (n := gn) (M := M140) (by omega)
      refine y_if_eq C 29 dX12_readTerm_11 (by decide) (by omega) (fun h145 => ?_) (fun h145 => ?_)
      · have u157c := xw_c (N := M133) (P := M140) 0 (FR.cell fM140 (by decide)) (by omega)
        have u157t := xw_t (M := M0) (N := M133) (P := M140) (r1 := 0) (e1 := 1) (s1 := 0) (r2 := 0) (e2 := 0) (s2 := 0) 0 1 0 (by decide) (by omega) (by omega)
        have u157a := ca_x (M := M0) (N := M140) (r := 0) (e := 1) (s := 0) (by decide) (by omega) (by omega)
        have u157E := ll_e gf gn 2042 2042 (atP gf gn false (suR gf gn 4)) ((atP gf gn false (suR gf gn 4)) gi).2.2 gq134 0 (M103.1 98 11).toInt (M103.1 98 12).toInt (M133.1 98 11).toInt (M133.1 98 12).toInt (M133.1 98 6).toInt (by decide) (at_g gf gn (fun _ => suR_g gf gn 4)) (by omega) (by omega)
        have u157S : b01 (RR ((teP gf gn false (suR gf gn 4)) gi) (M0.1 98 11).toInt (M0.1 98 12).toInt (M133.1 98 11).toInt (M133.1 98 12).toInt (M133.1 98 6).toInt) = 1 := rr_sq ((atP gf gn false (suR gf gn 4)) gi) (luP gf gn 2042 2042 (atP gf gn false (suR gf gn 4))) (M0.1 98 11).toInt (M0.1 98 12).toInt (M103.1 98 11).toInt (M103.1 98 12).toInt (M103.1 98 6).toInt (M133.1 98 11).toInt (M133.1 98 12).toInt (M133.1 98 6).toInt (by omega) (by omega)
        have u157R := rr_eq ((teP gf gn false (suR gf gn 4)) gi) (M0.1 98 11).toInt (M0.1 98 12).toInt (M133.1 98 11).toInt (M133.1 98 12).toInt (M133.1 98 6).toInt (M140.1 98 11).toInt (M140.1 98 12).toInt (M140.1 98 6).toInt (by omega) (by omega) (by omega) (by omega)
        exact hret _ _ _ dX12_readTerm_29 ⟨hM140, ((FR.rf.tr fM133 (by decide)).tr fM140 (by decide)), by omega⟩
      · have u146c := xw_c (N := M133) (P := M140) 1 (FR.cell fM140 (by decide)) (by omega)
        have u146t := xw_t (M := M0) (N := M133) (P := M140) (r1 := 0) (e1 := 1) (s1 := 0) (r2 := 0) (e2 := 0) (s2 := 1) 0 1 1 (by decide) (by omega) (by omega)
        have u146a := ca_x (M := M0) (N := M140) (r := 0) (e := 1) (s := 1) (by decide) (by omega) (by omega)
        have u146l := ri_l (M := M140) (by omega)
        refine j_aload_n C 0 0 dX12_readTerm_14 rfl rfl ?_
        refine j_iload_n C 1 1 dX12_readTerm_15 rfl rfl ?_
        refine j_callVv C (d := 22) (As := [.int (sI 1)]) (st := []) 98 (s_lt rfl rfl) (s_kc (c := 11) rfl rfl) (by decide) rfl (s6_X12_readAtom hM140 hpr gf gn (nxF gf gn gq134) (by omega) (by omega) (by omega) (by omega) (by omega)) gX12_readTerm_X12_readAtom rfl hdX12_readAtom (by decide) (Nat.le_of_ble_eq_true rfl) dX12_readTerm_16 rfl (fun M148 h149 => ?_)
        obtain ⟨hM148, fM148, h150⟩ := h149
        have bM148 := tkm_b (f := gf) (n := gn) (M := M148) (by omega)
        have qM148 := po_rr (atP gf gn false (suR gf gn 4)) gn (nxF gf gn gq134) (M140.1 98 11).toInt (M140.1 98 12).toInt (M140.1 98 6).toInt (M148.1 98 11).toInt (M148.1 98 12).toInt (M148.1 98 6).toInt (at_g gf gn (fun _ => suR_g gf gn 4)) (by omega) (by omega)
        have u151t := xw_t (M := M0) (N := M140) (P := M148) (r1 := 0) (e1 := 1) (s1 := 1) (r2 := 0) (e2 := 1) (s2 := 0) 0 2 1 (by decide) (by omega) (by omega)
        have u151l := ri_l (M := M148) (by omega)
        have u151b := cb_x (M := M0) (N := M148) (r := 0) (e := 2) (s := 1) (by decide) (by omega) (by omega) (by omega)
        refine j_aload_n C 0 0 dX12_readTerm_19 rfl rfl ?_
        refine y_sipush C dX12_readTerm_20 rfl ?_
        refine j_callVv C (d := 0) (As := [.int (sI 3002)]) (st := []) 98 (s_lt rfl rfl) (s_kc (c := 11) rfl rfl) (by decide) rfl (s1_X12_codes hM148 hpr 3002 (by omega) gf gn ((atP gf gn false (suR gf gn 4)) (nxF gf gn gq134)).2.2 (by omega) (by omega) (by omega) (by omega)) gX12_readTerm_X12_codes rfl hdX12_codes (by decide) (Nat.le_of_ble_eq_true rfl) dX12_readTerm_23 rfl (fun M153 h154 => ?_)
        obtain ⟨hM153, fM153, h155⟩ := h154
        have bM153 := tkm_b (f := gf) (n := gn) (M := M153) (by omega)
        have qM153 := po_eq gn ((atP gf gn false (suR gf gn 4)) (nxF gf gn gq134)).2.2 (M148.1 98 11).toInt (M148.1 98 6).toInt (M153.1 98 11).toInt (M153.1 98 6).toInt (by omega) (by omega) (by omega)
        refine j_goto C 5 dX12_readTerm_26 (by decide) ?_
        have u156x := xw_a (M := M148) (N := M153) (c := 3002) (r := 2) (e := (-1)) (FR.cell fM153 (by decide)) (ap_bin ⟨(INV.rd hM148 (i := 102) (c := 48) (k := 280) rfl rfl).1, by omega, by omega⟩) (by omega)
        have u156t := xw_t (M := M0) (N := M148) (P := M153) (r1 := 0) (e1 := 2) (s1 := 1) (r2 := 2) (e2 := (-1)) (s2 := (-1)) 0 1 0 (by decide) (by omega) (by omega)
        have u156i := ri_c (M := M148) (N := M153) (FR.cell fM153 (by decide)) (by omega)
        have u156l := ri_l (M := M153) (by omega)
        have u156L := ll_w (luP gf gn 2042 2042 (atP gf gn false (suR gf gn 4))) gn ((atP gf gn false (suR gf gn 4)) gi).2.2 ((atP gf gn false (suR gf gn 4)) (nxF gf gn gq134)).2.2 (0 + 1) 0 (M103.1 98 11).toInt (M103.1 98 12).toInt (M153.1 98 11).toInt (M153.1 98 12).toInt (M153.1 98 6).toInt (by decide) (ll_s gf gn 2042 2042 (atP gf gn false (suR gf gn 4)) ((atP gf gn false (suR gf gn 4)) gi).2.2 gq134 0 (M103.1 98 11).toInt (M103.1 98 12).toInt (M133.1 98 11).toInt (M133.1 98 12).toInt (M133.1 98 6).toInt (M140.1 98 11).toInt (M140.1 98 12).toInt (M148.1 98 11).toInt (M148.1 98 12).toInt (M148.1 98 6).toInt (M153.1 98 11).toInt (M153.1 98 12).toInt (M153.1 98 6).toInt (by decide) (at_g gf gn (fun _ => suR_g gf gn 4)) (by omega) (by omega) (by omega) (by omega) (by omega) (by omega) (by omega) (by omega) (by omega))
        have zz98_8 : (M153.1 98 8).toInt = (M148.1 98 8).toInt := s_fF fM153 (by decide) (rfl); have zz98_6 : (M153.1 98 6).toInt = (M148.1 98 6).toInt := s_fF fM153 (by decide) (rfl); have zz98_12 : (M153.1 98 12).toInt = (M148.1 98 12).toInt := s_fF fM153 (by decide) (rfl); have zz98_11 : (M153.1 98 11).toInt = (M148.1 98 11).toInt := s_fF fM153 (by decide) (rfl); exact ih131 M153 ((atP gf gn false (suR gf gn 4)) (nxF gf gn gq134)).2.2 (by omega) hM153 ((((FR.rf.tr fM133 (by decide)).tr fM140 (by decide)).tr fM148 (by decide)).tr fM153 (by decide))
  exact L132 2010 M103 ((atP gf gn false (suR gf gn 4)) gi).2.2 (by omega) hM103 (FR.rf.tr fM103 (by decide))
set_option maxHeartbeats 4000000 in
theorem s6_X12_readSum {l : Launch} {dC : Nat → ClassId} {dI : Nat → Nat → Nat} {ad : Nat → Nat} {cA : Nat → ClassId} {pr : Nat → Nat → Bool} {Kz : mm_M} {M0 : mm_M} (hM0 : INV pr Kz M0) (hpr : PM pr) (gf : Nat → Int) (gn : Int) (gi : Int) (hp0 : b01 (RIP M0) = 1) (hp1 : b01 (CA M0) = 1) (hp2 : b01 (TKM gf gn M0) = 1) (hp3 : b01 (PO gn gi (M0.1 98 11).toInt (M0.1 98 6).toInt) = 1) (hp4 : b01 (PI M0) = 1) : Cv l 24 yX12_readSum wsX12_readSum dC dI ad cA [.ref (ad 98), .int (sI 1)] M0 (fun M' => INV pr Kz M' ∧ FR [98, 102] M0 M' ∧ (b01 (RIP M') = 1) ∧ ((M'.1 98 8).toInt = (M0.1 98 8).toInt) ∧ ((M0.1 98 6).toInt ≤ (M'.1 98 6).toInt) ∧ (b01 (XW M0 M' 0 1 0) = 1) ∧ (b01 (CA M') = 1) ∧ (b01 (PI M') = 1) ∧ (b01 (TKM gf gn M') = 1) ∧ b01 (RR ((suR gf gn 5) gi) (M0.1 98 11).toInt (M0.1 98 12).toInt (M'.1 98 11).toInt (M'.1 98 12).toInt (M'.1 98 6).toInt) = 1) := by
  refine cv_of (cc := cX12_readSum) (maxL := 3) (lv := [(0, .ref (ad 98)), (1, .int (sI 1))]) (by decide) rfl (Nat.le_of_ble_eq_true rfl) rfl ?_
  intro p e s m args below meth c A Q C hret
  have u101z := xw_0 M0
  have u101l := ri_l (M := M0) (by omega)
  refine j_aload_n C 0 0 dX12_readSum_0 rfl rfl ?_
  refine j_iload_n C 1 1 dX12_readSum_1 rfl rfl ?_
  refine j_callVv C (d := 23) (As := [.int (sI 1)]) (st := []) 98 (s_lt rfl rfl) (s_kc (c := 11) rfl rfl) (by decide) rfl (s6_X12_readTerm hM0 hpr gf gn gi (by omega) (by omega) (by omega) (by omega) (by omega)) gX12_readSum_X12_readTerm rfl hdX12_readTerm (by decide) (Nat.le_of_ble_eq_true rfl) dX12_readSum_2 rfl (fun M103 h104 => ?_)
  obtain ⟨hM103, fM103, h105⟩ := h104
  have bM103 := tkm_b (f := gf) (n := gn) (M := M103) (by omega)
  have qM103 := po_rr (teP gf gn false (suR gf gn 4)) gn gi (M0.1 98 11).toInt (M0.1 98 12).toInt (M0.1 98 6).toInt (M103.1 98 11).toInt (M103.1 98 12).toInt (M103.1 98 6).toInt (te_g gf gn (fun _ => suR_g gf gn 4)) (by omega) (by omega)
  have u106l := ri_l (M := M103) (by omega)
  have u106L := ll_0 (luP gf gn 2043 2045 (teP gf gn false (suR gf gn 4))) gn ((teP gf gn false (suR gf gn 4)) gi).2.2 (M103.1 98 11).toInt (M103.1 98 12).toInt (M103.1 98 6).toInt (by omega)
  have L176 : ∀ (n174 : Nat), ∀ (M177 : mm_M) (gq178 : Int), ((b01 (RIP M177) = 1) ∧ ((M177.1 98 8).toInt = (M0.1 98 8).toInt) ∧ ((M0.1 98 6).toInt ≤ (M177.1 98 6).toInt) ∧ (b01 (XW M0 M177 0 1 0) = 1) ∧ ((M177.1 98 6).toInt ≤ 900) ∧ (b01 (LL (luP gf gn 2043 2045 (teP gf gn false (suR gf gn 4))) gn ((teP gf gn false (suR gf gn 4)) gi).2.2 gq178 0 (M103.1 98 11).toInt (M103.1 98 12).toInt (M177.1 98 11).toInt (M177.1 98 12).toInt (M177.1 98 6).toInt) = 1) ∧ (b01 (TKM gf gn M177) = 1) ∧ (b01 (PO gn gq178 (M177.1 98 11).toInt (M177.1 98 6).toInt) = 1) ∧ (b01 (PI M177) = 1) ∧ (900 - (M177.1 98 6).toInt) < (n174 : Int)) → INV pr Kz M177 → FR [98, 102] M0 M177 → jj p l e (cn_R 24) s m args below meth c 0 0 Q 3 dC dI ad cA A M177 5 [(0, .ref (ad 98)), (1, .int (sI 1))] [] := by
    intro n174
    induction n174 with
    | zero =>
      intro M177 gq178 h179 hM177 fM177
      exfalso; omega
    | succ n174 ih175 =>
      intro M177 gq178 h179 hM177 fM177
      have u180l := ri_l (M := M177) (by omega)
      have u180B := tkm_b (f := gf) (n := gn) (M := M177) (by omega)
      refine j_aload_n C 0 0 dX12_readSum_5 rfl rfl ?_
      refine y_bipush C dX12_readSum_6 rfl ?_
      have k181 := tkm_K (f := gf) (n := gn) (M := M177) (by omega)
      have k182 := kd_2 (kdk_32 gf gn (M177.1 98 6).toInt) (by omega)
      refine j_callVi C (d := 0) (As := [.int (sI 32)]) (st := []) 98 (s_lt rfl rfl) (s_kc (c := 11) rfl rfl) (by decide) rfl (s1_X12_is hM177 32 (by omega)) gX12_readSum_X12_is rfl hdX12_is (by decide) (Nat.le_of_ble_eq_true rfl) dX12_readSum_8 rfl (fun r183 M184 h185 => ?_)
      obtain ⟨a187, rfl, rfl, h186⟩ := h185
      refine y_if_ne C 23 dX12_readSum_11 (by decide) (by omega) (fun h188 => ?_) (fun h188 => ?_)
      · refine j_aload_n C 0 0 dX12_readSum_23 rfl rfl ?_
        refine y_getI C 11 _ _ fX12_readSum_108 rfl rfl ft_11_9 sb_11_9 hM177 dX12_readSum_24 (fun a189 ea189 la189 ua189 => ?_)
        obtain rfl : a189 = (M177.1 98 9).toInt := ea189
        refine y_bipush C dX12_readSum_27 rfl ?_
        have J193 : ∀ (a192 : Int), (3000 ≤ a192 ∧ a192 ≤ 3001) → jj p l e (cn_R 24) s m args below meth c 0 0 Q 3 dC dI ad cA A M177 41 [(0, .ref (ad 98)), (1, .int (sI 1))] [.int (sI a192)] := by
          intro a192 h194
          refine j_istore_n C 2 [(2, .int (sI a192)), (0, .ref (ad 98)), (1, .int (sI 1))] dX12_readSum_41 rfl (by decide) rfl ?_
          have u195k := ri_k (M := M177) (by omega) (by omega)
          refine j_aload_n C 1 0 dX12_readSum_42 rfl rfl ?_
          have k196 := tkm_p (f := gf) (n := gn) (M := M177) (by omega)
          have k197 := tkm_K (f := gf) (n := gn) (M := M177) (by omega)
          refine j_callVv C (d := 5) (As := []) (st := []) 98 (s_lt rfl rfl) (s_kc (c := 11) rfl rfl) (by decide) rfl (s1_X12_next hM177 hpr gf gn (by omega) (by omega) (by omega) (by omega)) gX12_readSum_X12_next rfl hdX12_next (by decide) (Nat.le_of_ble_eq_true rfl) dX12_readSum_43 rfl (fun M199 h200 => ?_)
          obtain ⟨hM199, fM199, h201⟩ := h200
          have bM199 := tkm_b (f := gf) (n := gn) (M := M199) (by omega)
          have qM199 := nx_po (f := gf) (n := gn) (i := gq178) (M := M177) (M' := M199) (by omega) (by omega) (by omega) (by omega) (by omega)
          have u202c := xw_c (N := M177) (P := M199) 1 (FR.cell fM199 (by decide)) (by omega)
          have u202t := xw_t (M := M0) (N := M177) (P := M199) (r1 := 0) (e1 := 1) (s1 := 0) (r2 := 0) (e2 := 0) (s2 := 1) 0 1 1 (by decide) (by omega) (by omega)
          have u202a := ca_x (M := M0) (N := M199) (r := 0) (e := 1) (s := 1) (by decide) (by omega) (by omega)
          have u202l := ri_l (M := M199) (by omega)
          refine j_aload_n C 1 0 dX12_readSum_46 rfl rfl ?_
          refine j_iload_n C 2 1 dX12_readSum_47 rfl rfl ?_
          refine j_callVv C (d := 23) (As := [.int (sI 1)]) (st := []) 98 (s_lt rfl rfl) (s_kc (c := 11) rfl rfl) (by decide) rfl (s6_X12_readTerm hM199 hpr gf gn (nxF gf gn gq178) (by omega) (by omega) (by omega) (by omega) (by omega)) gX12_readSum_X12_readTerm rfl hdX12_readTerm (by decide) (Nat.le_of_ble_eq_true rfl) dX12_readSum_48 rfl (fun M204 h205 => ?_)
          obtain ⟨hM204, fM204, h206⟩ := h205
          have bM204 := tkm_b (f := gf) (n := gn) (M := M204) (by omega)
          have qM204 := po_rr (teP gf gn false (suR gf gn 4)) gn (nxF gf gn gq178) (M199.1 98 11).toInt (M199.1 98 12).toInt (M199.1 98 6).toInt (M204.1 98 11).toInt (M204.1 98 12).toInt (M204.1 98 6).toInt (te_g gf gn (fun _ => suR_g gf gn 4)) (by omega) (by omega)
          have u207t := xw_t (M := M0) (N := M199) (P := M204) (r1 := 0) (e1 := 1) (s1 := 1) (r2 := 0) (e2 := 1) (s2 := 0) 0 2 1 (by decide) (by omega) (by omega)
          have u207l := ri_l (M := M204) (by omega)
          have u207b := cb_x (M := M0) (N := M204) (r := 0) (e := 2) (s := 1) (by decide) (by omega) (by omega) (by omega)
          refine j_aload_n C 1 0 dX12_readSum_51 rfl rfl ?_
          refine j_iload_n C 0 2 dX12_readSum_52 rfl rfl ?_
          refine j_callVv C (d := 0) (As := [.int (sI a192)]) (st := []) 98 (s_lt rfl rfl) (s_kc (c := 11) rfl rfl) (by decide) rfl (s1_X12_codes hM204 hpr a192 (by omega) gf gn ((teP gf gn false (suR gf gn 4)) (nxF gf gn gq178)).2.2 (by omega) (by omega) (by omega) (by omega)) gX12_readSum_X12_codes rfl hdX12_codes (by decide) (Nat.le_of_ble_eq_true rfl) dX12_readSum_53 rfl (fun M209 h210 => ?_)
          obtain ⟨hM209, fM209, h211⟩ := h210
          have bM209 := tkm_b (f := gf) (n := gn) (M := M209) (by omega)
          have qM209 := po_eq gn ((teP gf gn false (suR gf gn 4)) (nxF gf gn gq178)).2.2 (M204.1 98 11).toInt (M204.1 98 6).toInt (M209.1 98 11).toInt (M209.1 98 6).toInt (by omega) (by omega) (by omega)
          refine j_goto C 5 dX12_readSum_56 (by decide) ?_
          have u212x := xw_a (M := M204) (N := M209) (c := a192) (r := 2) (e := (-1)) (FR.cell fM209 (by decide)) (ap_bin ⟨(INV.rd hM204 (i := 102) (c := 48) (k := 280) rfl rfl).1, by omega, by omega⟩) (by omega)
          have u212t := xw_t (M := M0) (N := M204) (P := M209) (r1 := 0) (e1 := 2) (s1 := 1) (r2 := 2) (e2 := (-1)) (s2 := (-1)) 0 1 0 (by decide) (by omega) (by omega)
          have u212i := ri_c (M := M204) (N := M209) (FR.cell fM209 (by decide)) (by omega)
          have u212l := ri_l (M := M209) (by omega)
          have u212L := ll_w (luP gf gn 2043 2045 (teP gf gn false (suR gf gn 4))) gn ((teP gf gn false (suR gf gn 4)) gi).2.2 ((teP gf gn false (suR gf gn 4)) (nxF gf gn gq178)).2.2 (0 + 1) 0 (M103.1 98 11).toInt (M103.1 98 12).toInt (M209.1 98 11).toInt (M209.1 98 12).toInt (M209.1 98 6).toInt (by decide) (ll_s gf gn 2043 2045 (teP gf gn false (suR gf gn 4)) ((teP gf gn false (suR gf gn 4)) gi).2.2 gq178 0 (M103.1 98 11).toInt (M103.1 98 12).toInt (M177.1 98 11).toInt (M177.1 98 12).toInt (M177.1 98 6).toInt (M199.1 98 11).toInt (M199.1 98 12).toInt (M204.1 98 11).toInt (M204.1 98 12).toInt (M204.1 98 6).toInt (M209.1 98 11).toInt (M209.1 98 12).toInt (M209.1 98 6).toInt (by decide) (te_g gf gn (fun _ => suR_g gf gn 4)) (by omega) (by omega) (by omega) (by omega) (by omega) (by omega) (by omega) (by omega) (by omega))
          have zz98_8 : (M209.1 98 8).toInt = (M204.1 98 8).toInt := s_fF fM209 (by decide) (rfl); have zz98_6 : (M209.1 98 6).toInt = (M204.1 98 6).toInt := s_fF fM209 (by decide) (rfl); have zz98_12 : (M209.1 98 12).toInt = (M204.1 98 12).toInt := s_fF fM209 (by decide) (rfl); have zz98_11 : (M209.1 98 11).toInt = (M204.1 98 11).toInt := s_fF fM209 (by decide) (rfl); refine j_lv [1, 2] rfl ?_; exact ih175 M209 ((teP gf gn false (suR gf gn 4)) (nxF gf gn gq178)).2.2 (by omega) hM209 ((((FR.rf.tr fM177 (by decide)).tr fM199 (by decide)).tr fM204 (by decide)).tr fM209 (by decide))
        refine y_icmp_ne C 38 dX12_readSum_29 (by decide) (by omega) (fun h191 => ?_) (fun h191 => ?_)
        · refine y_sipush C dX12_readSum_38 rfl ?_
          exact J193 3001 (by omega)
        · refine y_sipush C dX12_readSum_32 rfl ?_
          refine j_goto C 41 dX12_readSum_35 (by decide) ?_
          exact J193 3000 (by omega)
      · refine j_aload_n C 0 0 dX12_readSum_14 rfl rfl ?_
        refine y_bipush C dX12_readSum_15 rfl ?_
        have k213 := tkm_K (f := gf) (n := gn) (M := M177) (by omega)
        have k214 := kd_2 (kdk_33 gf gn (M177.1 98 6).toInt) (by omega)
        refine j_callVi C (d := 0) (As := [.int (sI 33)]) (st := []) 98 (s_lt rfl rfl) (s_kc (c := 11) rfl rfl) (by decide) rfl (s1_X12_is hM177 33 (by omega)) gX12_readSum_X12_is rfl hdX12_is (by decide) (Nat.le_of_ble_eq_true rfl) dX12_readSum_17 rfl (fun r215 M216 h217 => ?_)
        obtain ⟨a219, rfl, rfl, h218⟩ := h217
        refine y_if_eq C 59 dX12_readSum_20 (by decide) (by omega) (fun h220 => ?_) (fun h220 => ?_)
        · have u245a := ca_x (M := M0) (N := M177) (r := 0) (e := 1) (s := 0) (by decide) (by omega) (by omega)
          have u245E := ll_e gf gn 2043 2045 (teP gf gn false (suR gf gn 4)) ((teP gf gn false (suR gf gn 4)) gi).2.2 gq178 0 (M103.1 98 11).toInt (M103.1 98 12).toInt (M177.1 98 11).toInt (M177.1 98 12).toInt (M177.1 98 6).toInt (by decide) (te_g gf gn (fun _ => suR_g gf gn 4)) (by omega) (by omega)
          have u245S : b01 (RR ((suR gf gn 5) gi) (M0.1 98 11).toInt (M0.1 98 12).toInt (M177.1 98 11).toInt (M177.1 98 12).toInt (M177.1 98 6).toInt) = 1 := by rw [su_q gf gn 4 5 rfl]; exact rr_sq ((teP gf gn false (suR gf gn 4)) gi) (luP gf gn 2043 2045 (teP gf gn false (suR gf gn 4))) (M0.1 98 11).toInt (M0.1 98 12).toInt (M103.1 98 11).toInt (M103.1 98 12).toInt (M103.1 98 6).toInt (M177.1 98 11).toInt (M177.1 98 12).toInt (M177.1 98 6).toInt (by omega) (by omega)
          exact hret _ _ _ dX12_readSum_59 ⟨hM177, (FR.rf.tr fM177 (by decide)), by omega⟩
        · refine j_aload_n C 0 0 dX12_readSum_23 rfl rfl ?_
          refine y_getI C 11 _ _ fX12_readSum_108 rfl rfl ft_11_9 sb_11_9 hM177 dX12_readSum_24 (fun a221 ea221 la221 ua221 => ?_)
          obtain rfl : a221 = (M177.1 98 9).toInt := ea221
          refine y_bipush C dX12_readSum_27 rfl ?_
          have J225 : ∀ (a224 : Int), (3000 ≤ a224 ∧ a224 ≤ 3001) → jj p l e (cn_R 24) s m args below meth c 0 0 Q 3 dC dI ad cA A M177 41 [(0, .ref (ad 98)), (1, .int (sI 1))] [.int (sI a224)] := by
            intro a224 h226
            refine j_istore_n C 2 [(2, .int (sI a224)), (0, .ref (ad 98)), (1, .int (sI 1))] dX12_readSum_41 rfl (by decide) rfl ?_
            have u227k := ri_k (M := M177) (by omega) (by omega)
            refine j_aload_n C 1 0 dX12_readSum_42 rfl rfl ?_
            have k228 := tkm_p (f := gf) (n := gn) (M := M177) (by omega)
            have k229 := tkm_K (f := gf) (n := gn) (M := M177) (by omega)
            refine j_callVv C (d := 5) (As := []) (st := []) 98 (s_lt rfl rfl) (s_kc (c := 11) rfl rfl) (by decide) rfl (s1_X12_next hM177 hpr gf gn (by omega) (by omega) (by omega) (by omega)) gX12_readSum_X12_next rfl hdX12_next (by decide) (Nat.le_of_ble_eq_true rfl) dX12_readSum_43 rfl (fun M231 h232 => ?_)
            obtain ⟨hM231, fM231, h233⟩ := h232
            have bM231 := tkm_b (f := gf) (n := gn) (M := M231) (by omega)
            have qM231 := nx_po (f := gf) (n := gn) (i := gq178) (M := M177) (M' := M231) (by omega) (by omega) (by omega) (by omega) (by omega)
            have u234c := xw_c (N := M177) (P := M231) 1 (FR.cell fM231 (by decide)) (by omega)
            have u234t := xw_t (M := M0) (N := M177) (P := M231) (r1 := 0) (e1 := 1) (s1 := 0) (r2 := 0) (e2 := 0) (s2 := 1) 0 1 1 (by decide) (by omega) (by omega)
            have u234a := ca_x (M := M0) (N := M231) (r := 0) (e := 1) (s := 1) (by decide) (by omega) (by omega)
            have u234l := ri_l (M := M231) (by omega)
            refine j_aload_n C 1 0 dX12_readSum_46 rfl rfl ?_
            refine j_iload_n C 2 1 dX12_readSum_47 rfl rfl ?_
            refine j_callVv C (d := 23) (As := [.int (sI 1)]) (st := []) 98 (s_lt rfl rfl) (s_kc (c := 11) rfl rfl) (by decide) rfl (s6_X12_readTerm hM231 hpr gf gn (nxF gf gn gq178) (by omega) (by omega) (by omega) (by omega) (by omega)) gX12_readSum_X12_readTerm rfl hdX12_readTerm (by decide) (Nat.le_of_ble_eq_true rfl) dX12_readSum_48 rfl (fun M236 h237 => ?_)
            obtain ⟨hM236, fM236, h238⟩ := h237
            have bM236 := tkm_b (f := gf) (n := gn) (M := M236) (by omega)
            have qM236 := po_rr (teP gf gn false (suR gf gn 4)) gn (nxF gf gn gq178) (M231.1 98 11).toInt (M231.1 98 12).toInt (M231.1 98 6).toInt (M236.1 98 11).toInt (M236.1 98 12).toInt (M236.1 98 6).toInt (te_g gf gn (fun _ => suR_g gf gn 4)) (by omega) (by omega)
            have u239t := xw_t (M := M0) (N := M231) (P := M236) (r1 := 0) (e1 := 1) (s1 := 1) (r2 := 0) (e2 := 1) (s2 := 0) 0 2 1 (by decide) (by omega) (by omega)
            have u239l := ri_l (M := M236) (by omega)
            have u239b := cb_x (M := M0) (N := M236) (r := 0) (e := 2) (s := 1) (by decide) (by omega) (by omega) (by omega)
            refine j_aload_n C 1 0 dX12_readSum_51 rfl rfl ?_
            refine j_iload_n C 0 2 dX12_readSum_52 rfl rfl ?_
            refine j_callVv C (d := 0) (As := [.int (sI a224)]) (st := []) 98 (s_lt rfl rfl) (s_kc (c := 11) rfl rfl) (by decide) rfl (s1_X12_codes hM236 hpr a224 (by omega) gf gn ((teP gf gn false (suR gf gn 4)) (nxF gf gn gq178)).2.2 (by omega) (by omega) (by omega) (by omega)) gX12_readSum_X12_codes rfl hdX12_codes (by decide) (Nat.le_of_ble_eq_true rfl) dX12_readSum_53 rfl (fun M241 h242 => ?_)
            obtain ⟨hM241, fM241, h243⟩ := h242
            have bM241 := tkm_b (f := gf) (n := gn) (M := M241) (by omega)
            have qM241 := po_eq gn ((teP gf gn false (suR gf gn 4)) (nxF gf gn gq178)).2.2 (M236.1 98 11).toInt (M236.1 98 6).toInt (M241.1 98 11).toInt (M241.1 98 6).toInt (by omega) (by omega) (by omega)
            refine j_goto C 5 dX12_readSum_56 (by decide) ?_
            have u244x := xw_a (M := M236) (N := M241) (c := a224) (r := 2) (e := (-1)) (FR.cell fM241 (by decide)) (ap_bin ⟨(INV.rd hM236 (i := 102) (c := 48) (k := 280) rfl rfl).1, by omega, by omega⟩) (by omega)
            have u244t := xw_t (M := M0) (N := M236) (P := M241) (r1 := 0) (e1 := 2) (s1 := 1) (r2 := 2) (e2 := (-1)) (s2 := (-1)) 0 1 0 (by decide) (by omega) (by omega)
            have u244i := ri_c (M := M236) (N := M241) (FR.cell fM241 (by decide)) (by omega)
            have u244l := ri_l (M := M241) (by omega)
            have u244L := ll_w (luP gf gn 2043 2045 (teP gf gn false (suR gf gn 4))) gn ((teP gf gn false (suR gf gn 4)) gi).2.2 ((teP gf gn false (suR gf gn 4)) (nxF gf gn gq178)).2.2 (0 + 1) 0 (M103.1 98 11).toInt (M103.1 98 12).toInt (M241.1 98 11).toInt (M241.1 98 12).toInt (M241.1 98 6).toInt (by decide) (ll_s gf gn 2043 2045 (teP gf gn false (suR gf gn 4)) ((teP gf gn false (suR gf gn 4)) gi).2.2 gq178 0 (M103.1 98 11).toInt (M103.1 98 12).toInt (M177.1 98 11).toInt (M177.1 98 12).toInt (M177.1 98 6).toInt (M231.1 98 11).toInt (M231.1 98 12).toInt (M236.1 98 11).toInt (M236.1 98 12).toInt (M236.1 98 6).toInt (M241.1 98 11).toInt (M241.1 98 12).toInt (M241.1 98 6).toInt (by decide) (te_g gf gn (fun _ => suR_g gf gn 4)) (by omega) (by omega) (by omega) (by omega) (by omega) (by omega) (by omega) (by omega) (by omega))
            have zz98_8 : (M241.1 98 8).toInt = (M236.1 98 8).toInt := s_fF fM241 (by decide) (rfl); have zz98_6 : (M241.1 98 6).toInt = (M236.1 98 6).toInt := s_fF fM241 (by decide) (rfl); have zz98_12 : (M241.1 98 12).toInt = (M236.1 98 12).toInt := s_fF fM241 (by decide) (rfl); have zz98_11 : (M241.1 98 11).toInt = (M236.1 98 11).toInt := s_fF fM241 (by decide) (rfl); refine j_lv [1, 2] rfl ?_; exact ih175 M241 ((teP gf gn false (suR gf gn 4)) (nxF gf gn gq178)).2.2 (by omega) hM241 ((((FR.rf.tr fM177 (by decide)).tr fM231 (by decide)).tr fM236 (by decide)).tr fM241 (by decide))
          refine y_icmp_ne C 38 dX12_readSum_29 (by decide) (by omega) (fun h223 => ?_) (fun h223 => ?_)
          · refine y_sipush C dX12_readSum_38 rfl ?_
            exact J225 3001 (by omega)
          · refine y_sipush C dX12_readSum_32 rfl ?_
            refine j_goto C 41 dX12_readSum_35 (by decide) ?_
            exact J225 3000 (by omega)
  exact L176 2010 M103 ((teP gf gn false (suR gf gn 4)) gi).2.2 (by omega) hM103 (FR.rf.tr fM103 (by decide))
set_option maxHeartbeats 4000000 in
theorem s7_X12_readAtom {l : Launch} {dC : Nat → ClassId} {dI : Nat → Nat → Nat} {ad : Nat → Nat} {cA : Nat → ClassId} {pr : Nat → Nat → Bool} {Kz : mm_M} {M0 : mm_M} (hM0 : INV pr Kz M0) (hpr : PM pr) (gf : Nat → Int) (gn : Int) (gi : Int) (hp0 : b01 (RIP M0) = 1) (hp1 : b01 (CA M0) = 1) (hp2 : b01 (TKM gf gn M0) = 1) (hp3 : b01 (PO gn gi (M0.1 98 11).toInt (M0.1 98 6).toInt) = 1) (hp4 : b01 (PI M0) = 1) : Cv l 25 yX12_readAtom wsX12_readAtom dC dI ad cA [.ref (ad 98), .int (sI 0)] M0 (fun M' => INV pr Kz M' ∧ FR [98, 102] M0 M' ∧ (b01 (RIP M') = 1) ∧ ((M'.1 98 8).toInt = (M0.1 98 8).toInt) ∧ ((M0.1 98 6).toInt ≤ (M'.1 98 6).toInt) ∧ (b01 (XW M0 M' 0 1 0) = 1) ∧ (b01 (CA M') = 1) ∧ (b01 (PI M') = 1) ∧ (b01 (TKM gf gn M') = 1) ∧ b01 (RR ((atP gf gn false (suR gf gn 5)) gi) (M0.1 98 11).toInt (M0.1 98 12).toInt (M'.1 98 11).toInt (M'.1 98 12).toInt (M'.1 98 6).toInt) = 1) := by
  refine cv_of (cc := cX12_readAtom) (maxL := 2) (lv := [(0, .ref (ad 98)), (1, .int (sI 0))]) (by decide) rfl (Nat.le_of_ble_eq_true rfl) rfl ?_
  intro p e s m args below meth c A Q C hret
  have u101z := xw_0 M0
  have u101l := ri_l (M := M0) (by omega)
  refine j_aload_n C 0 0 dX12_readAtom_0 rfl rfl ?_
  refine y_bipush C dX12_readAtom_1 rfl ?_
  have k102 := tkm_K (f := gf) (n := gn) (M := M0) (by omega)
  have k103 := kd_2 (kd_23 gf gn (M0.1 98 6).toInt) (by omega)
  refine j_callVi C (d := 0) (As := [.int (sI 23)]) (st := []) 98 (s_lt rfl rfl) (s_kc (c := 11) rfl rfl) (by decide) rfl (s1_X12_is hM0 23 (by omega)) gX12_readAtom_X12_is rfl hdX12_is (by decide) (Nat.le_of_ble_eq_true rfl) dX12_readAtom_3 rfl (fun r104 M105 h106 => ?_)
  obtain ⟨a108, rfl, rfl, h107⟩ := h106
  refine y_if_eq C 24 dX12_readAtom_6 (by decide) (by omega) (fun h109 => ?_) (fun h109 => ?_)
  · refine j_aload_n C 0 0 dX12_readAtom_24 rfl rfl ?_
    refine y_getI C 11 _ _ fX12_readAtom_126 rfl rfl ft_11_11 sb_11_11 hM0 dX12_readAtom_25 (fun a110 ea110 la110 ua110 => ?_)
    obtain rfl : a110 = (M0.1 98 11).toInt := ea110
    refine y_if_ne C 66 dX12_readAtom_28 (by decide) (by omega) (fun h112 => ?_) (fun h112 => ?_)
    · refine j_aload_n C 0 0 dX12_readAtom_66 rfl rfl ?_
      refine y_bipush C dX12_readAtom_67 rfl ?_
      have k113 := tkm_K (f := gf) (n := gn) (M := M0) (by omega)
      have k114 := kd_2 (kdk_35 gf gn (M0.1 98 6).toInt) (by omega)
      refine j_callVi C (d := 0) (As := [.int (sI 35)]) (st := []) 98 (s_lt rfl rfl) (s_kc (c := 11) rfl rfl) (by decide) rfl (s1_X12_is hM0 35 (by omega)) gX12_readAtom_X12_is rfl hdX12_is (by decide) (Nat.le_of_ble_eq_true rfl) dX12_readAtom_69 rfl (fun r115 M116 h117 => ?_)
      obtain ⟨a119, rfl, rfl, h118⟩ := h117
      refine y_if_eq C 108 dX12_readAtom_72 (by decide) (by omega) (fun h120 => ?_) (fun h120 => ?_)
      · refine j_aload_n C 0 0 dX12_readAtom_108 rfl rfl ?_
        refine y_iconst C dX12_readAtom_109 ?_
        refine j_callVv C (d := 0) (As := [.int (sI 2)]) (st := []) 98 (s_lt rfl rfl) (s_kc (c := 11) rfl rfl) (by decide) rfl (s1_X12_fails hM0 hpr 2 (by omega) gf gn gi (by omega) (by omega) (by omega) (by omega) (by omega)) gX12_readAtom_X12_fails rfl hdX12_fails (by decide) (Nat.le_of_ble_eq_true rfl) dX12_readAtom_110 rfl (fun M122 h123 => ?_)
        obtain ⟨hM122, fM122, h124⟩ := h123
        have bM122 := tkm_b (f := gf) (n := gn) (M := M122) (by omega)
        have qM122 := po_f gn ((faQ gf gn 2) gi).2.2 (M122.1 98 11).toInt (M122.1 98 6).toInt (by omega)
        have u125f : b01 (XW M0 M122 0 1 0) = 1 := b01_i (Or.inl (by omega))
        have u125a := ca_x (M := M0) (N := M122) (r := 0) (e := 1) (s := 0) (by decide) (by omega) (by omega)
        have u125r := at_4z gf gn false (suR gf gn 5) gi (M0.1 98 11).toInt (M0.1 98 12).toInt (M0.1 98 6).toInt (M122.1 98 11).toInt (M122.1 98 12).toInt (M122.1 98 6).toInt (by omega) (by omega) (by omega)
        exact hret _ _ _ dX12_readAtom_113 ⟨hM122, (FR.rf.tr fM122 (by decide)), by omega⟩
      · have u126k := ri_k (M := M0) (by omega) (by omega)
        refine j_aload_n C 0 0 dX12_readAtom_75 rfl rfl ?_
        refine j_iload_n C 1 1 dX12_readAtom_76 rfl rfl ?_
        refine j_callVi C (d := 6) (As := [.int (sI 0)]) (st := []) 98 (s_lt rfl rfl) (s_kc (c := 11) rfl rfl) (by decide) rfl (s1_X12_goesIn hM0 hpr gf gn gi (by omega) (by omega) (by omega) (by omega) (by omega) (by omega) (by omega)) gX12_readAtom_X12_goesIn rfl hdX12_goesIn (by decide) (Nat.le_of_ble_eq_true rfl) dX12_readAtom_77 rfl (fun r127 M128 h129 => ?_)
        obtain ⟨a131, rfl, hM128, fM128, h130⟩ := h129
        have bM128 := tkm_b (f := gf) (n := gn) (M := M128) (by omega)
        refine y_if_ne C 84 dX12_readAtom_80 (by decide) (by omega) (fun h132 => ?_) (fun h132 => ?_)
        · have u133c := xw_c (N := M0) (P := M128) 1 (FR.cell fM128 (by decide)) (by omega)
          have u133t := xw_t (M := M0) (N := M0) (P := M128) (r1 := 0) (e1 := 0) (s1 := 0) (r2 := 0) (e2 := 0) (s2 := 1) 0 0 1 (by decide) (by omega) (by omega)
          have u133a := ca_x (M := M0) (N := M128) (r := 0) (e := 0) (s := 1) (by decide) (by omega) (by omega)
          have u133l := ri_l (M := M128) (by omega)
          refine j_aload_n C 0 0 dX12_readAtom_84 rfl rfl ?_
          refine j_iload_n C 1 1 dX12_readAtom_85 rfl rfl ?_
          refine y_iconst C dX12_readAtom_86 ?_
          refine y_iadd C dX12_readAtom_87 ?_
          refine j_callVv C (d := 24) (As := [.int (sI (0 + 1))]) (st := []) 98 (s_lt rfl rfl) (s_kc (c := 11) rfl rfl) (by decide) rfl (s6_X12_readSum hM128 hpr gf gn (nxF gf gn gi) (by omega) (by omega) (by omega) (by omega) (by omega)) gX12_readAtom_X12_readSum rfl hdX12_readSum (by decide) (Nat.le_of_ble_eq_true rfl) dX12_readAtom_88 rfl (fun M135 h136 => ?_)
          obtain ⟨hM135, fM135, h137⟩ := h136
          have bM135 := tkm_b (f := gf) (n := gn) (M := M135) (by omega)
          have qM135 := po_rr (suR gf gn 5) gn (nxF gf gn gi) (M128.1 98 11).toInt (M128.1 98 12).toInt (M128.1 98 6).toInt (M135.1 98 11).toInt (M135.1 98 12).toInt (M135.1 98 6).toInt (suR_g gf gn 5) (by omega) (by omega)
          have u138t := xw_t (M := M0) (N := M128) (P := M135) (r1 := 0) (e1 := 0) (s1 := 1) (r2 := 0) (e2 := 1) (s2 := 0) 0 1 1 (by decide) (by omega) (by omega)
          have u138l := ri_l (M := M135) (by omega)
          refine j_aload_n C 0 0 dX12_readAtom_91 rfl rfl ?_
          refine y_bipush C dX12_readAtom_92 rfl ?_
          have k139 := tkm_K (f := gf) (n := gn) (M := M135) (by omega)
          have k140 := kd_2 (kdk_36 gf gn (M135.1 98 6).toInt) (by omega)
          refine j_callVi C (d := 6) (As := [.int (sI 36)]) (st := []) 98 (s_lt rfl rfl) (s_kc (c := 11) rfl rfl) (by decide) rfl (s1_X12_eats hM135 hpr 36 (by omega) gf gn ((suR gf gn 5) (nxF gf gn gi)).2.2 (by omega) (by omega) (by omega) (by omega) (by omega)) gX12_readAtom_X12_eats rfl hdX12_eats (by decide) (Nat.le_of_ble_eq_true rfl) dX12_readAtom_94 rfl (fun r141 M142 h143 => ?_)
          obtain ⟨a145, rfl, hM142, fM142, h144⟩ := h143
          have k146 := tk_c gf gn (M142.1 98 6).toInt (M135.1 98 6).toInt
          have bM142 := tkm_b (f := gf) (n := gn) (M := M142) (by omega)
          have u147c := xw_c (N := M135) (P := M142) 0 (FR.cell fM142 (by decide)) (by omega)
          have u147t := xw_t (M := M0) (N := M135) (P := M142) (r1 := 0) (e1 := 1) (s1 := 1) (r2 := 0) (e2 := 0) (s2 := 0) 0 1 0 (by decide) (by omega) (by omega)
          have u147a := ca_x (M := M0) (N := M142) (r := 0) (e := 1) (s := 0) (by decide) (by omega) (by omega)
          have u147l := ri_l (M := M142) (by omega)
          refine y_if_ne C 113 dX12_readAtom_97 (by decide) (by omega) (fun h148 => ?_) (fun h148 => ?_)
          · have u149x := ex_1 gf gn 2041 ((suR gf gn 5) (nxF gf gn gi)).2.2 (M135.1 98 11).toInt (M135.1 98 12).toInt (M135.1 98 6).toInt (M142.1 98 11).toInt (M142.1 98 12).toInt (M142.1 98 6).toInt (by omega) (by omega) (by omega) (by omega) (by omega) (by omega)
            have u149r := at_2 gf gn (suR gf gn 5) gi (M0.1 98 11).toInt (M0.1 98 12).toInt (M0.1 98 6).toInt (M128.1 98 11).toInt (M128.1 98 12).toInt (M135.1 98 11).toInt (M135.1 98 12).toInt (M135.1 98 6).toInt (M142.1 98 11).toInt (M142.1 98 12).toInt (M142.1 98 6).toInt (by omega) (by omega) (by omega) (by omega) (by omega) (by omega)
            exact hret _ _ _ dX12_readAtom_113 ⟨hM142, (((FR.rf.tr fM128 (by decide)).tr fM135 (by decide)).tr fM142 (by decide)), by omega⟩
          · refine j_aload_n C 0 0 dX12_readAtom_100 rfl rfl ?_
            refine y_iconst C dX12_readAtom_101 ?_
            have p150 := po_eq gn ((suR gf gn 5) (nxF gf gn gi)).2.2 (M135.1 98 11).toInt (M135.1 98 6).toInt (M142.1 98 11).toInt (M142.1 98 6).toInt (by omega) (by omega) (by omega)
            refine j_callVv C (d := 0) (As := [.int (sI 2)]) (st := []) 98 (s_lt rfl rfl) (s_kc (c := 11) rfl rfl) (by decide) rfl (s1_X12_fails hM142 hpr 2 (by omega) gf gn ((suR gf gn 5) (nxF gf gn gi)).2.2 (by omega) (by omega) (by omega) (by omega) (by omega)) gX12_readAtom_X12_fails rfl hdX12_fails (by decide) (Nat.le_of_ble_eq_true rfl) dX12_readAtom_102 rfl (fun M152 h153 => ?_)
            obtain ⟨hM152, fM152, h154⟩ := h153
            have bM152 := tkm_b (f := gf) (n := gn) (M := M152) (by omega)
            have qM152 := po_f gn ((faQ gf gn 2) ((suR gf gn 5) (nxF gf gn gi)).2.2).2.2 (M152.1 98 11).toInt (M152.1 98 6).toInt (by omega)
            have u155f : b01 (XW M0 M152 0 1 0) = 1 := b01_i (Or.inl (by omega))
            have u155a := ca_x (M := M0) (N := M152) (r := 0) (e := 1) (s := 0) (by decide) (by omega) (by omega)
            refine j_goto C 113 dX12_readAtom_105 (by decide) ?_
            have u156x := ex_2z gf gn 2041 ((suR gf gn 5) (nxF gf gn gi)).2.2 (M135.1 98 11).toInt (M135.1 98 12).toInt (M135.1 98 6).toInt (M152.1 98 11).toInt (M152.1 98 12).toInt (M152.1 98 6).toInt (by omega) (by omega) (rr_fr (faQ gf gn 2 ((suR gf gn 5) (nxF gf gn gi)).2.2) (M135.1 98 11).toInt (M135.1 98 12).toInt (M142.1 98 11).toInt (M142.1 98 12).toInt (M152.1 98 11).toInt (M152.1 98 12).toInt (M152.1 98 6).toInt (by omega) (by omega) (by omega))
            have u156r := at_2 gf gn (suR gf gn 5) gi (M0.1 98 11).toInt (M0.1 98 12).toInt (M0.1 98 6).toInt (M128.1 98 11).toInt (M128.1 98 12).toInt (M135.1 98 11).toInt (M135.1 98 12).toInt (M135.1 98 6).toInt (M152.1 98 11).toInt (M152.1 98 12).toInt (M152.1 98 6).toInt (by omega) (by omega) (by omega) (by omega) (by omega) (by omega)
            exact hret _ _ _ dX12_readAtom_113 ⟨hM152, ((((FR.rf.tr fM128 (by decide)).tr fM135 (by decide)).tr fM142 (by decide)).tr fM152 (by decide)), by omega⟩
        · exfalso; omega
    · refine j_aload_n C 0 0 dX12_readAtom_31 rfl rfl ?_
      refine j_aload_n C 0 0 dX12_readAtom_32 rfl rfl ?_
      refine y_getI C 11 _ _ fX12_readAtom_108 rfl rfl ft_11_9 sb_11_9 hM0 dX12_readAtom_33 (fun a157 ea157 la157 ua157 => ?_)
      obtain rfl : a157 = (M0.1 98 9).toInt := ea157
      have k159 := tkm_K (f := gf) (n := gn) (M := M0) (by omega)
      have k160 := kd_2 (wo_k gf gn (M0.1 98 6).toInt) (by omega)
      have k161 := wo_c (M0.1 98 9).toInt (kdF (tkF gf gn (M0.1 98 6).toInt))
      refine j_callVi C (d := 0) (As := [.int (sI (M0.1 98 9).toInt)]) (st := []) 98 (s_lt rfl rfl) (s_kc (c := 11) rfl rfl) (by decide) rfl (s1_X12_wordOf hM0 (M0.1 98 9).toInt (by omega)) gX12_readAtom_X12_wordOf rfl hdX12_wordOf (by decide) (Nat.le_of_ble_eq_true rfl) dX12_readAtom_36 rfl (fun r162 M163 h164 => ?_)
      obtain ⟨a166, rfl, rfl, h165⟩ := h164
      obtain rfl : a166 = (woF (M0.1 98 9).toInt) := by omega
      refine y_iconst C dX12_readAtom_39 ?_
      refine y_icmp_eq C 66 dX12_readAtom_40 (by decide) (by omega) (fun h167 => ?_) (fun h167 => ?_)
      · refine j_aload_n C 0 0 dX12_readAtom_66 rfl rfl ?_
        refine y_bipush C dX12_readAtom_67 rfl ?_
        have k168 := tkm_K (f := gf) (n := gn) (M := M0) (by omega)
        have k169 := kd_2 (kdk_35 gf gn (M0.1 98 6).toInt) (by omega)
        refine j_callVi C (d := 0) (As := [.int (sI 35)]) (st := []) 98 (s_lt rfl rfl) (s_kc (c := 11) rfl rfl) (by decide) rfl (s1_X12_is hM0 35 (by omega)) gX12_readAtom_X12_is rfl hdX12_is (by decide) (Nat.le_of_ble_eq_true rfl) dX12_readAtom_69 rfl (fun r170 M171 h172 => ?_)
        obtain ⟨a174, rfl, rfl, h173⟩ := h172
        refine y_if_eq C 108 dX12_readAtom_72 (by decide) (by omega) (fun h175 => ?_) (fun h175 => ?_)
        · refine j_aload_n C 0 0 dX12_readAtom_108 rfl rfl ?_
          refine y_iconst C dX12_readAtom_109 ?_
          refine j_callVv C (d := 0) (As := [.int (sI 2)]) (st := []) 98 (s_lt rfl rfl) (s_kc (c := 11) rfl rfl) (by decide) rfl (s1_X12_fails hM0 hpr 2 (by omega) gf gn gi (by omega) (by omega) (by omega) (by omega) (by omega)) gX12_readAtom_X12_fails rfl hdX12_fails (by decide) (Nat.le_of_ble_eq_true rfl) dX12_readAtom_110 rfl (fun M177 h178 => ?_)
          obtain ⟨hM177, fM177, h179⟩ := h178
          have bM177 := tkm_b (f := gf) (n := gn) (M := M177) (by omega)
          have qM177 := po_f gn ((faQ gf gn 2) gi).2.2 (M177.1 98 11).toInt (M177.1 98 6).toInt (by omega)
          have u180f : b01 (XW M0 M177 0 1 0) = 1 := b01_i (Or.inl (by omega))
          have u180a := ca_x (M := M0) (N := M177) (r := 0) (e := 1) (s := 0) (by decide) (by omega) (by omega)
          have u180r := at_4z gf gn false (suR gf gn 5) gi (M0.1 98 11).toInt (M0.1 98 12).toInt (M0.1 98 6).toInt (M177.1 98 11).toInt (M177.1 98 12).toInt (M177.1 98 6).toInt (by omega) (by omega) (by omega)
          exact hret _ _ _ dX12_readAtom_113 ⟨hM177, (FR.rf.tr fM177 (by decide)), by omega⟩
        · have u181k := ri_k (M := M0) (by omega) (by omega)
          refine j_aload_n C 0 0 dX12_readAtom_75 rfl rfl ?_
          refine j_iload_n C 1 1 dX12_readAtom_76 rfl rfl ?_
          refine j_callVi C (d := 6) (As := [.int (sI 0)]) (st := []) 98 (s_lt rfl rfl) (s_kc (c := 11) rfl rfl) (by decide) rfl (s1_X12_goesIn hM0 hpr gf gn gi (by omega) (by omega) (by omega) (by omega) (by omega) (by omega) (by omega)) gX12_readAtom_X12_goesIn rfl hdX12_goesIn (by decide) (Nat.le_of_ble_eq_true rfl) dX12_readAtom_77 rfl (fun r182 M183 h184 => ?_)
          obtain ⟨a186, rfl, hM183, fM183, h185⟩ := h184
          have bM183 := tkm_b (f := gf) (n := gn) (M := M183) (by omega)
          refine y_if_ne C 84 dX12_readAtom_80 (by decide) (by omega) (fun h187 => ?_) (fun h187 => ?_)
          · have u188c := xw_c (N := M0) (P := M183) 1 (FR.cell fM183 (by decide)) (by omega)
            have u188t := xw_t (M := M0) (N := M0) (P := M183) (r1 := 0) (e1 := 0) (s1 := 0) (r2 := 0) (e2 := 0) (s2 := 1) 0 0 1 (by decide) (by omega) (by omega)
            have u188a := ca_x (M := M0) (N := M183) (r := 0) (e := 0) (s := 1) (by decide) (by omega) (by omega)
            have u188l := ri_l (M := M183) (by omega)
            refine j_aload_n C 0 0 dX12_readAtom_84 rfl rfl ?_
            refine j_iload_n C 1 1 dX12_readAtom_85 rfl rfl ?_
            refine y_iconst C dX12_readAtom_86 ?_
            refine y_iadd C dX12_readAtom_87 ?_
            refine j_callVv C (d := 24) (As := [.int (sI (0 + 1))]) (st := []) 98 (s_lt rfl rfl) (s_kc (c := 11) rfl rfl) (by decide) rfl (s6_X12_readSum hM183 hpr gf gn (nxF gf gn gi) (by omega) (by omega) (by omega) (by omega) (by omega)) gX12_readAtom_X12_readSum rfl hdX12_readSum (by decide) (Nat.le_of_ble_eq_true rfl) dX12_readAtom_88 rfl (fun M190 h191 => ?_)
            obtain ⟨hM190, fM190, h192⟩ := h191
            have bM190 := tkm_b (f := gf) (n := gn) (M := M190) (by omega)
            have qM190 := po_rr (suR gf gn 5) gn (nxF gf gn gi) (M183.1 98 11).toInt (M183.1 98 12).toInt (M183.1 98 6).toInt (M190.1 98 11).toInt (M190.1 98 12).toInt (M190.1 98 6).toInt (suR_g gf gn 5) (by omega) (by omega)
            have u193t := xw_t (M := M0) (N := M183) (P := M190) (r1 := 0) (e1 := 0) (s1 := 1) (r2 := 0) (e2 := 1) (s2 := 0) 0 1 1 (by decide) (by omega) (by omega)
            have u193l := ri_l (M := M190) (by omega)
            refine j_aload_n C 0 0 dX12_readAtom_91 rfl rfl ?_
            refine y_bipush C dX12_readAtom_92 rfl ?_
            have k194 := tkm_K (f := gf) (n := gn) (M := M190) (by omega)
            have k195 := kd_2 (kdk_36 gf gn (M190.1 98 6).toInt) (by omega)
            refine j_callVi C (d := 6) (As := [.int (sI 36)]) (st := []) 98 (s_lt rfl rfl) (s_kc (c := 11) rfl rfl) (by decide) rfl (s1_X12_eats hM190 hpr 36 (by omega) gf gn ((suR gf gn 5) (nxF gf gn gi)).2.2 (by omega) (by omega) (by omega) (by omega) (by omega)) gX12_readAtom_X12_eats rfl hdX12_eats (by decide) (Nat.le_of_ble_eq_true rfl) dX12_readAtom_94 rfl (fun r196 M197 h198 => ?_)
            obtain ⟨a200, rfl, hM197, fM197, h199⟩ := h198
            have k201 := tk_c gf gn (M197.1 98 6).toInt (M190.1 98 6).toInt
            have bM197 := tkm_b (f := gf) (n := gn) (M := M197) (by omega)
            have u202c := xw_c (N := M190) (P := M197) 0 (FR.cell fM197 (by decide)) (by omega)
            have u202t := xw_t (M := M0) (N := M190) (P := M197) (r1 := 0) (e1 := 1) (s1 := 1) (r2 := 0) (e2 := 0) (s2 := 0) 0 1 0 (by decide) (by omega) (by omega)
            have u202a := ca_x (M := M0) (N := M197) (r := 0) (e := 1) (s := 0) (by decide) (by omega) (by omega)
            have u202l := ri_l (M := M197) (by omega)
            refine y_if_ne C 113 dX12_readAtom_97 (by decide) (by omega) (fun h203 => ?_) (fun h203 => ?_)
            · have u204x := ex_1 gf gn 2041 ((suR gf gn 5) (nxF gf gn gi)).2.2 (M190.1 98 11).toInt (M190.1 98 12).toInt (M190.1 98 6).toInt (M197.1 98 11).toInt (M197.1 98 12).toInt (M197.1 98 6).toInt (by omega) (by omega) (by omega) (by omega) (by omega) (by omega)
              have u204r := at_2 gf gn (suR gf gn 5) gi (M0.1 98 11).toInt (M0.1 98 12).toInt (M0.1 98 6).toInt (M183.1 98 11).toInt (M183.1 98 12).toInt (M190.1 98 11).toInt (M190.1 98 12).toInt (M190.1 98 6).toInt (M197.1 98 11).toInt (M197.1 98 12).toInt (M197.1 98 6).toInt (by omega) (by omega) (by omega) (by omega) (by omega) (by omega)
              exact hret _ _ _ dX12_readAtom_113 ⟨hM197, (((FR.rf.tr fM183 (by decide)).tr fM190 (by decide)).tr fM197 (by decide)), by omega⟩
            · refine j_aload_n C 0 0 dX12_readAtom_100 rfl rfl ?_
              refine y_iconst C dX12_readAtom_101 ?_
              have p205 := po_eq gn ((suR gf gn 5) (nxF gf gn gi)).2.2 (M190.1 98 11).toInt (M190.1 98 6).toInt (M197.1 98 11).toInt (M197.1 98 6).toInt (by omega) (by omega) (by omega)
              refine j_callVv C (d := 0) (As := [.int (sI 2)]) (st := []) 98 (s_lt rfl rfl) (s_kc (c := 11) rfl rfl) (by decide) rfl (s1_X12_fails hM197 hpr 2 (by omega) gf gn ((suR gf gn 5) (nxF gf gn gi)).2.2 (by omega) (by omega) (by omega) (by omega) (by omega)) gX12_readAtom_X12_fails rfl hdX12_fails (by decide) (Nat.le_of_ble_eq_true rfl) dX12_readAtom_102 rfl (fun M207 h208 => ?_)
              obtain ⟨hM207, fM207, h209⟩ := h208
              have bM207 := tkm_b (f := gf) (n := gn) (M := M207) (by omega)
              have qM207 := po_f gn ((faQ gf gn 2) ((suR gf gn 5) (nxF gf gn gi)).2.2).2.2 (M207.1 98 11).toInt (M207.1 98 6).toInt (by omega)
              have u210f : b01 (XW M0 M207 0 1 0) = 1 := b01_i (Or.inl (by omega))
              have u210a := ca_x (M := M0) (N := M207) (r := 0) (e := 1) (s := 0) (by decide) (by omega) (by omega)
              refine j_goto C 113 dX12_readAtom_105 (by decide) ?_
              have u211x := ex_2z gf gn 2041 ((suR gf gn 5) (nxF gf gn gi)).2.2 (M190.1 98 11).toInt (M190.1 98 12).toInt (M190.1 98 6).toInt (M207.1 98 11).toInt (M207.1 98 12).toInt (M207.1 98 6).toInt (by omega) (by omega) (rr_fr (faQ gf gn 2 ((suR gf gn 5) (nxF gf gn gi)).2.2) (M190.1 98 11).toInt (M190.1 98 12).toInt (M197.1 98 11).toInt (M197.1 98 12).toInt (M207.1 98 11).toInt (M207.1 98 12).toInt (M207.1 98 6).toInt (by omega) (by omega) (by omega))
              have u211r := at_2 gf gn (suR gf gn 5) gi (M0.1 98 11).toInt (M0.1 98 12).toInt (M0.1 98 6).toInt (M183.1 98 11).toInt (M183.1 98 12).toInt (M190.1 98 11).toInt (M190.1 98 12).toInt (M190.1 98 6).toInt (M207.1 98 11).toInt (M207.1 98 12).toInt (M207.1 98 6).toInt (by omega) (by omega) (by omega) (by omega) (by omega) (by omega)
              exact hret _ _ _ dX12_readAtom_113 ⟨hM207, ((((FR.rf.tr fM183 (by decide)).tr fM190 (by decide)).tr fM197 (by decide)).tr fM207 (by decide)), by omega⟩
          · exfalso; omega
      · have u212w := woF_s (M0.1 98 9).toInt
        have u212k := ri_k (M := M0) (by omega) (by omega)
        have u212b := cb_0 (M := M0) (by omega) (by omega)
        refine j_aload_n C 0 0 dX12_readAtom_43 rfl rfl ?_
        refine y_sipush C dX12_readAtom_44 rfl ?_
        refine j_aload_n C 0 0 dX12_readAtom_47 rfl rfl ?_
        refine j_aload_n C 0 0 dX12_readAtom_48 rfl rfl ?_
        refine y_getI C 11 _ _ fX12_readAtom_108 rfl rfl ft_11_9 sb_11_9 hM0 dX12_readAtom_49 (fun a213 ea213 la213 ua213 => ?_)
        obtain rfl : a213 = (M0.1 98 9).toInt := ea213
        have k215 := tkm_K (f := gf) (n := gn) (M := M0) (by omega)
        have k216 := kd_2 (wo_k gf gn (M0.1 98 6).toInt) (by omega)
        have k217 := wo_c (M0.1 98 9).toInt (kdF (tkF gf gn (M0.1 98 6).toInt))
        refine j_callVi C (d := 0) (As := [.int (sI (M0.1 98 9).toInt)]) (st := [.int (sI 1000), .ref (ad 98)]) 98 (s_lt rfl rfl) (s_kc (c := 11) rfl rfl) (by decide) rfl (s1_X12_wordOf hM0 (M0.1 98 9).toInt (by omega)) gX12_readAtom_X12_wordOf rfl hdX12_wordOf (by decide) (Nat.le_of_ble_eq_true rfl) dX12_readAtom_52 rfl (fun r218 M219 h220 => ?_)
        obtain ⟨a222, rfl, rfl, h221⟩ := h220
        obtain rfl : a222 = (woF (M0.1 98 9).toInt) := by omega
        refine y_iadd C dX12_readAtom_55 ?_
        refine j_callVv C (d := 0) (As := [.int (sI (1000 + (woF (M0.1 98 9).toInt)))]) (st := []) 98 (s_lt rfl rfl) (s_kc (c := 11) rfl rfl) (by decide) rfl (s1_X12_codes hM0 hpr (1000 + (woF (M0.1 98 9).toInt)) (by omega) gf gn gi (by omega) (by omega) (by omega) (by omega)) gX12_readAtom_X12_codes rfl hdX12_codes (by decide) (Nat.le_of_ble_eq_true rfl) dX12_readAtom_56 rfl (fun M224 h225 => ?_)
        obtain ⟨hM224, fM224, h226⟩ := h225
        have bM224 := tkm_b (f := gf) (n := gn) (M := M224) (by omega)
        have qM224 := po_eq gn gi (M0.1 98 11).toInt (M0.1 98 6).toInt (M224.1 98 11).toInt (M224.1 98 6).toInt (by omega) (by omega) (by omega)
        have u227x := xw_a (M := M0) (N := M224) (c := (1000 + (woF (M0.1 98 9).toInt))) (r := 0) (e := 1) (FR.cell fM224 (by decide)) (ap_push ⟨(INV.rd hM0 (i := 102) (c := 48) (k := 280) rfl rfl).1, by omega, by omega⟩) (by omega)
        have u227t := xw_t (M := M0) (N := M0) (P := M224) (r1 := 0) (e1 := 0) (s1 := 0) (r2 := 0) (e2 := 1) (s2 := (-1)) 0 1 (-1) (by decide) (by omega) (by omega)
        have u227i := ri_c (M := M0) (N := M224) (FR.cell fM224 (by decide)) (by omega)
        have u227l := ri_l (M := M224) (by omega)
        have u227q6 : (M224.1 98 6).toInt = (M0.1 98 6).toInt := by rw [show M224.1 98 = M0.1 98 from FR.cell fM224 (by decide)]
        have u227q7 : (M224.1 98 7).toInt = (M0.1 98 7).toInt := by rw [show M224.1 98 = M0.1 98 from FR.cell fM224 (by decide)]
        have u227q8 : (M224.1 98 8).toInt = (M0.1 98 8).toInt := by rw [show M224.1 98 = M0.1 98 from FR.cell fM224 (by decide)]
        have u227q9 : (M224.1 98 9).toInt = (M0.1 98 9).toInt := by rw [show M224.1 98 = M0.1 98 from FR.cell fM224 (by decide)]
        have u227q11 : (M224.1 98 11).toInt = (M0.1 98 11).toInt := by rw [show M224.1 98 = M0.1 98 from FR.cell fM224 (by decide)]
        refine j_aload_n C 0 0 dX12_readAtom_59 rfl rfl ?_
        have zz98_7 : (M224.1 98 7).toInt = (M0.1 98 7).toInt := s_fF fM224 (by decide) (rfl)
        have zz98_8 : (M224.1 98 8).toInt = (M0.1 98 8).toInt := s_fF fM224 (by decide) (rfl)
        have k228 := tkm_p (f := gf) (n := gn) (M := M224) (by omega)
        have k229 := tkm_K (f := gf) (n := gn) (M := M224) (by omega)
        refine j_callVv C (d := 5) (As := []) (st := []) 98 (s_lt rfl rfl) (s_kc (c := 11) rfl rfl) (by decide) rfl (s1_X12_next hM224 hpr gf gn (by omega) (by omega) (by omega) (by omega)) gX12_readAtom_X12_next rfl hdX12_next (by decide) (Nat.le_of_ble_eq_true rfl) dX12_readAtom_60 rfl (fun M231 h232 => ?_)
        obtain ⟨hM231, fM231, h233⟩ := h232
        have bM231 := tkm_b (f := gf) (n := gn) (M := M231) (by omega)
        have qM231 := nx_po (f := gf) (n := gn) (i := gi) (M := M224) (M' := M231) (by omega) (by omega) (by omega) (by omega) (by omega)
        have u234c := xw_c (N := M224) (P := M231) 1 (FR.cell fM231 (by decide)) (by omega)
        have u234t := xw_t (M := M0) (N := M224) (P := M231) (r1 := 0) (e1 := 1) (s1 := (-1)) (r2 := 0) (e2 := 0) (s2 := 1) 0 1 0 (by decide) (by omega) (by omega)
        have u234a := ca_x (M := M0) (N := M231) (r := 0) (e := 1) (s := 0) (by decide) (by omega) (by omega)
        refine j_goto C 113 dX12_readAtom_63 (by decide) ?_
        have u235r := at_1 gf gn false (suR gf gn 5) gi (M0.1 98 11).toInt (M0.1 98 12).toInt (M0.1 98 6).toInt (M231.1 98 11).toInt (M231.1 98 12).toInt (M231.1 98 6).toInt (by omega) (by omega) (by omega) (by omega) (by omega) (by omega)
        exact hret _ _ _ dX12_readAtom_113 ⟨hM231, ((FR.rf.tr fM224 (by decide)).tr fM231 (by decide)), by omega⟩
  · have u236k := ri_k (M := M0) (by omega) (by omega)
    have u236b := cb_0 (M := M0) (by omega) (by omega)
    refine j_aload_n C 0 0 dX12_readAtom_9 rfl rfl ?_
    refine j_aload_n C 0 0 dX12_readAtom_10 rfl rfl ?_
    refine y_getI C 11 _ _ fX12_readAtom_121 rfl rfl ft_11_10 sb_11_10 hM0 dX12_readAtom_11 (fun a237 ea237 la237 ua237 => ?_)
    obtain rfl : a237 = (M0.1 98 10).toInt := ea237
    refine j_callVv C (d := 0) (As := [.int (sI (M0.1 98 10).toInt)]) (st := []) 98 (s_lt rfl rfl) (s_kc (c := 11) rfl rfl) (by decide) rfl (s1_X12_codes hM0 hpr (M0.1 98 10).toInt (by omega) gf gn gi (by omega) (by omega) (by omega) (by omega)) gX12_readAtom_X12_codes rfl hdX12_codes (by decide) (Nat.le_of_ble_eq_true rfl) dX12_readAtom_14 rfl (fun M240 h241 => ?_)
    obtain ⟨hM240, fM240, h242⟩ := h241
    have bM240 := tkm_b (f := gf) (n := gn) (M := M240) (by omega)
    have qM240 := po_eq gn gi (M0.1 98 11).toInt (M0.1 98 6).toInt (M240.1 98 11).toInt (M240.1 98 6).toInt (by omega) (by omega) (by omega)
    have u243x := xw_a (M := M0) (N := M240) (c := (M0.1 98 10).toInt) (r := 0) (e := 1) (FR.cell fM240 (by decide)) (ap_push ⟨(INV.rd hM0 (i := 102) (c := 48) (k := 280) rfl rfl).1, by omega, by omega⟩) (by omega)
    have u243t := xw_t (M := M0) (N := M0) (P := M240) (r1 := 0) (e1 := 0) (s1 := 0) (r2 := 0) (e2 := 1) (s2 := (-1)) 0 1 (-1) (by decide) (by omega) (by omega)
    have u243i := ri_c (M := M0) (N := M240) (FR.cell fM240 (by decide)) (by omega)
    have u243l := ri_l (M := M240) (by omega)
    have u243q6 : (M240.1 98 6).toInt = (M0.1 98 6).toInt := by rw [show M240.1 98 = M0.1 98 from FR.cell fM240 (by decide)]
    have u243q7 : (M240.1 98 7).toInt = (M0.1 98 7).toInt := by rw [show M240.1 98 = M0.1 98 from FR.cell fM240 (by decide)]
    have u243q8 : (M240.1 98 8).toInt = (M0.1 98 8).toInt := by rw [show M240.1 98 = M0.1 98 from FR.cell fM240 (by decide)]
    have u243q9 : (M240.1 98 9).toInt = (M0.1 98 9).toInt := by rw [show M240.1 98 = M0.1 98 from FR.cell fM240 (by decide)]
    have u243q11 : (M240.1 98 11).toInt = (M0.1 98 11).toInt := by rw [show M240.1 98 = M0.1 98 from FR.cell fM240 (by decide)]
    refine j_aload_n C 0 0 dX12_readAtom_17 rfl rfl ?_
    have zz98_7 : (M240.1 98 7).toInt = (M0.1 98 7).toInt := s_fF fM240 (by decide) (rfl)
    have zz98_8 : (M240.1 98 8).toInt = (M0.1 98 8).toInt := s_fF fM240 (by decide) (rfl)
    have k244 := tkm_p (f := gf) (n := gn) (M := M240) (by omega)
    have k245 := tkm_K (f := gf) (n := gn) (M := M240) (by omega)
    refine j_callVv C (d := 5) (As := []) (st := []) 98 (s_lt rfl rfl) (s_kc (c := 11) rfl rfl) (by decide) rfl (s1_X12_next hM240 hpr gf gn (by omega) (by omega) (by omega) (by omega)) gX12_readAtom_X12_next rfl hdX12_next (by decide) (Nat.le_of_ble_eq_true rfl) dX12_readAtom_18 rfl (fun M247 h248 => ?_)
    obtain ⟨hM247, fM247, h249⟩ := h248
    have bM247 := tkm_b (f := gf) (n := gn) (M := M247) (by omega)
    have qM247 := nx_po (f := gf) (n := gn) (i := gi) (M := M240) (M' := M247) (by omega) (by omega) (by omega) (by omega) (by omega)
    have u250c := xw_c (N := M240) (P := M247) 1 (FR.cell fM247 (by decide)) (by omega)
    have u250t := xw_t (M := M0) (N := M240) (P := M247) (r1 := 0) (e1 := 1) (s1 := (-1)) (r2 := 0) (e2 := 0) (s2 := 1) 0 1 0 (by decide) (by omega) (by omega)
    have u250a := ca_x (M := M0) (N := M247) (r := 0) (e := 1) (s := 0) (by decide) (by omega) (by omega)
    refine j_goto C 113 dX12_readAtom_21 (by decide) ?_
    have u251r := at_1 gf gn false (suR gf gn 5) gi (M0.1 98 11).toInt (M0.1 98 12).toInt (M0.1 98 6).toInt (M247.1 98 11).toInt (M247.1 98 12).toInt (M247.1 98 6).toInt (by omega) (by omega) (by omega) (by omega) (by omega) (by omega)
    exact hret _ _ _ dX12_readAtom_113 ⟨hM247, ((FR.rf.tr fM240 (by decide)).tr fM247 (by decide)), by omega⟩
set_option maxHeartbeats 4000000 in
theorem s7_X12_readTerm {l : Launch} {dC : Nat → ClassId} {dI : Nat → Nat → Nat} {ad : Nat → Nat} {cA : Nat → ClassId} {pr : Nat → Nat → Bool} {Kz : mm_M} {M0 : mm_M} (hM0 : INV pr Kz M0) (hpr : PM pr) (gf : Nat → Int) (gn : Int) (gi : Int) (hp0 : b01 (RIP M0) = 1) (hp1 : b01 (CA M0) = 1) (hp2 : b01 (TKM gf gn M0) = 1) (hp3 : b01 (PO gn gi (M0.1 98 11).toInt (M0.1 98 6).toInt) = 1) (hp4 : b01 (PI M0) = 1) : Cv l 26 yX12_readTerm wsX12_readTerm dC dI ad cA [.ref (ad 98), .int (sI 0)] M0 (fun M' => INV pr Kz M' ∧ FR [98, 102] M0 M' ∧ (b01 (RIP M') = 1) ∧ ((M'.1 98 8).toInt = (M0.1 98 8).toInt) ∧ ((M0.1 98 6).toInt ≤ (M'.1 98 6).toInt) ∧ (b01 (XW M0 M' 0 1 0) = 1) ∧ (b01 (CA M') = 1) ∧ (b01 (PI M') = 1) ∧ (b01 (TKM gf gn M') = 1) ∧ b01 (RR ((teP gf gn false (suR gf gn 5)) gi) (M0.1 98 11).toInt (M0.1 98 12).toInt (M'.1 98 11).toInt (M'.1 98 12).toInt (M'.1 98 6).toInt) = 1) := by
  refine cv_of (cc := cX12_readTerm) (maxL := 2) (lv := [(0, .ref (ad 98)), (1, .int (sI 0))]) (by decide) rfl (Nat.le_of_ble_eq_true rfl) rfl ?_
  intro p e s m args below meth c A Q C hret
  have u101z := xw_0 M0
  have u101l := ri_l (M := M0) (by omega)
  refine j_aload_n C 0 0 dX12_readTerm_0 rfl rfl ?_
  refine j_iload_n C 1 1 dX12_readTerm_1 rfl rfl ?_
  refine j_callVv C (d := 25) (As := [.int (sI 0)]) (st := []) 98 (s_lt rfl rfl) (s_kc (c := 11) rfl rfl) (by decide) rfl (s7_X12_readAtom hM0 hpr gf gn gi (by omega) (by omega) (by omega) (by omega) (by omega)) gX12_readTerm_X12_readAtom rfl hdX12_readAtom (by decide) (Nat.le_of_ble_eq_true rfl) dX12_readTerm_2 rfl (fun M103 h104 => ?_)
  obtain ⟨hM103, fM103, h105⟩ := h104
  have bM103 := tkm_b (f := gf) (n := gn) (M := M103) (by omega)
  have qM103 := po_rr (atP gf gn false (suR gf gn 5)) gn gi (M0.1 98 11).toInt (M0.1 98 12).toInt (M0.1 98 6).toInt (M103.1 98 11).toInt (M103.1 98 12).toInt (M103.1 98 6).toInt (at_g gf gn (fun _ => suR_g gf gn 5)) (by omega) (by omega)
  have u106l := ri_l (M := M103) (by omega)
  have u106L := ll_0 (luP gf gn 2042 2042 (atP gf gn false (suR gf gn 5))) gn ((atP gf gn false (suR gf gn 5)) gi).2.2 (M103.1 98 11).toInt (M103.1 98 12).toInt (M103.1 98 6).toInt (by omega)
  have L132 : ∀ (n130 : Nat), ∀ (M133 : mm_M) (gq134 : Int), ((b01 (RIP M133) = 1) ∧ ((M133.1 98 8).toInt = (M0.1 98 8).toInt) ∧ ((M0.1 98 6).toInt ≤ (M133.1 98 6).toInt) ∧ (b01 (XW M0 M133 0 1 0) = 1) ∧ ((M133.1 98 6).toInt ≤ 900) ∧ (b01 (LL (luP gf gn 2042 2042 (atP gf gn false (suR gf gn 5))) gn ((atP gf gn false (suR gf gn 5)) gi).2.2 gq134 0 (M103.1 98 11).toInt (M103.1 98 12).toInt (M133.1 98 11).toInt (M133.1 98 12).toInt (M133.1 98 6).toInt) = 1) ∧ (b01 (TKM gf gn M133) = 1) ∧ (b01 (PO gn gq134 (M133.1 98 11).toInt (M133.1 98 6).toInt) = 1) ∧ (b01 (PI M133) = 1) ∧ (900 - (M133.1 98 6).toInt) < (n130 : Int)) → INV pr Kz M133 → FR [98, 102] M0 M133 → jj p l e (cn_R 26) s m args below meth c 0 0 Q 2 dC dI ad cA A M133 5 [(0, .ref (ad 98)), (1, .int (sI 0))] [] := by
    intro n130
    induction n130 with
    | zero =>
      intro M133 gq134 h135 hM133 fM133
      exfalso; omega
    | succ n130 ih131 =>
      intro M133 gq134 h135 hM133 fM133
      have u136l := ri_l (M := M133) (by omega)
      have u136B := tkm_b (f := gf) (n := gn) (M := M133) (by omega)
      refine j_aload_n C 0 0 dX12_readTerm_5 rfl rfl ?_
      refine y_bipush C dX12_readTerm_6 rfl ?_
      have k137 := tkm_K (f := gf) (n := gn) (M := M133) (by omega)
      have k138 := kd_2 (kdk_34 gf gn (M133.1 98 6).toInt) (by omega)
      refine j_callVi C (d := 6) (As := [.int (sI 34)]) (st := []) 98 (s_lt rfl rfl) (s_kc (c := 11) rfl rfl) (by decide) rfl (s1_X12_eats hM133 hpr 34 (by omega) gf gn gq134 (by omega) (by omega) (by omega) (by omega) (by omega)) gX12_readTerm_X12_eats rfl hdX12_eats (by decide) (Nat.le_of_ble_eq_true rfl) dX12_readTerm_8 rfl (fun r139 M140 h141 => ?_)
      obtain ⟨a143, rfl, hM140, fM140, h142⟩ := h141
      have k144 := tk_c gf gn (M140.1 98 6).toInt (M133.1 98 6).toInt
      have bM140 := tkm_b (f := gf) (n := gn) (M := M140) (by omega)
      refine y_if_eq C 29 dX12_readTerm_11 (by decide) (by omega) (fun h145 => ?_) (fun h145 => ?_)
      · have u157c := xw_c (N := M133) (P := M140) 0 (FR.cell fM140 (by decide)) (by omega)
        have u157t := xw_t (M := M0) (N := M133) (P := M140) (r1 := 0) (e1 := 1) (s1 := 0) (r2 := 0) (e2 := 0) (s2 := 0) 0 1 0 (by decide) (by omega) (by omega)
        have u157a := ca_x (M := M0) (N := M140) (r := 0) (e := 1) (s := 0) (by decide) (by omega) (by omega)
        have u157E := ll_e gf gn 2042 2042 (atP gf gn false (suR gf gn 5)) ((atP gf gn false (suR gf gn 5)) gi).2.2 gq134 0 (M103.1 98 11).toInt (M103.1 98 12).toInt (M133.1 98 11).toInt (M133.1 98 12).toInt (M133.1 98 6).toInt (by decide) (at_g gf gn (fun _ => suR_g gf gn 5)) (by omega) (by omega)
        have u157S : b01 (RR ((teP gf gn false (suR gf gn 5)) gi) (M0.1 98 11).toInt (M0.1 98 12).toInt (M133.1 98 11).toInt (M133.1 98 12).toInt (M133.1 98 6).toInt) = 1 := rr_sq ((atP gf gn false (suR gf gn 5)) gi) (luP gf gn 2042 2042 (atP gf gn false (suR gf gn 5))) (M0.1 98 11).toInt (M0.1 98 12).toInt (M103.1 98 11).toInt (M103.1 98 12).toInt (M103.1 98 6).toInt (M133.1 98 11).toInt (M133.1 98 12).toInt (M133.1 98 6).toInt (by omega) (by omega)
        have u157R := rr_eq ((teP gf gn false (suR gf gn 5)) gi) (M0.1 98 11).toInt (M0.1 98 12).toInt (M133.1 98 11).toInt (M133.1 98 12).toInt (M133.1 98 6).toInt (M140.1 98 11).toInt (M140.1 98 12).toInt (M140.1 98 6).toInt (by omega) (by omega) (by omega) (by omega)
        exact hret _ _ _ dX12_readTerm_29 ⟨hM140, ((FR.rf.tr fM133 (by decide)).tr fM140 (by decide)), by omega⟩
      · have u146c := xw_c (N := M133) (P := M140) 1 (FR.cell fM140 (by decide)) (by omega)
        have u146t := xw_t (M := M0) (N := M133) (P := M140) (r1 := 0) (e1 := 1) (s1 := 0) (r2 := 0) (e2 := 0) (s2 := 1) 0 1 1 (by decide) (by omega) (by omega)
        have u146a := ca_x (M := M0) (N := M140) (r := 0) (e := 1) (s := 1) (by decide) (by omega) (by omega)
        have u146l := ri_l (M := M140) (by omega)
        refine j_aload_n C 0 0 dX12_readTerm_14 rfl rfl ?_
        refine j_iload_n C 1 1 dX12_readTerm_15 rfl rfl ?_
        refine j_callVv C (d := 25) (As := [.int (sI 0)]) (st := []) 98 (s_lt rfl rfl) (s_kc (c := 11) rfl rfl) (by decide) rfl (s7_X12_readAtom hM140 hpr gf gn (nxF gf gn gq134) (by omega) (by omega) (by omega) (by omega) (by omega)) gX12_readTerm_X12_readAtom rfl hdX12_readAtom (by decide) (Nat.le_of_ble_eq_true rfl) dX12_readTerm_16 rfl (fun M148 h149 => ?_)
        obtain ⟨hM148, fM148, h150⟩ := h149
        have bM148 := tkm_b (f := gf) (n := gn) (M := M148) (by omega)
        have qM148 := po_rr (atP gf gn false (suR gf gn 5)) gn (nxF gf gn gq134) (M140.1 98 11).toInt (M140.1 98 12).toInt (M140.1 98 6).toInt (M148.1 98 11).toInt (M148.1 98 12).toInt (M148.1 98 6).toInt (at_g gf gn (fun _ => suR_g gf gn 5)) (by omega) (by omega)
        have u151t := xw_t (M := M0) (N := M140) (P := M148) (r1 := 0) (e1 := 1) (s1 := 1) (r2 := 0) (e2 := 1) (s2 := 0) 0 2 1 (by decide) (by omega) (by omega)
        have u151l := ri_l (M := M148) (by omega)
        have u151b := cb_x (M := M0) (N := M148) (r := 0) (e := 2) (s := 1) (by decide) (by omega) (by omega) (by omega)
        refine j_aload_n C 0 0 dX12_readTerm_19 rfl rfl ?_
        refine y_sipush C dX12_readTerm_20 rfl ?_
        refine j_callVv C (d := 0) (As := [.int (sI 3002)]) (st := []) 98 (s_lt rfl rfl) (s_kc (c := 11) rfl rfl) (by decide) rfl (s1_X12_codes hM148 hpr 3002 (by omega) gf gn ((atP gf gn false (suR gf gn 5)) (nxF gf gn gq134)).2.2 (by omega) (by omega) (by omega) (by omega)) gX12_readTerm_X12_codes rfl hdX12_codes (by decide) (Nat.le_of_ble_eq_true rfl) dX12_readTerm_23 rfl (fun M153 h154 => ?_)
        obtain ⟨hM153, fM153, h155⟩ := h154
        have bM153 := tkm_b (f := gf) (n := gn) (M := M153) (by omega)
        have qM153 := po_eq gn ((atP gf gn false (suR gf gn 5)) (nxF gf gn gq134)).2.2 (M148.1 98 11).toInt (M148.1 98 6).toInt (M153.1 98 11).toInt (M153.1 98 6).toInt (by omega) (by omega) (by omega)
        refine j_goto C 5 dX12_readTerm_26 (by decide) ?_
        have u156x := xw_a (M := M148) (N := M153) (c := 3002) (r := 2) (e := (-1)) (FR.cell fM153 (by decide)) (ap_bin ⟨(INV.rd hM148 (i := 102) (c := 48) (k := 280) rfl rfl).1, by omega, by omega⟩) (by omega)
        have u156t := xw_t (M := M0) (N := M148) (P := M153) (r1 := 0) (e1 := 2) (s1 := 1) (r2 := 2) (e2 := (-1)) (s2 := (-1)) 0 1 0 (by decide) (by omega) (by omega)
        have u156i := ri_c (M := M148) (N := M153) (FR.cell fM153 (by decide)) (by omega)
        have u156l := ri_l (M := M153) (by omega)
        have u156L := ll_w (luP gf gn 2042 2042 (atP gf gn false (suR gf gn 5))) gn ((atP gf gn false (suR gf gn 5)) gi).2.2 ((atP gf gn false (suR gf gn 5)) (nxF gf gn gq134)).2.2 (0 + 1) 0 (M103.1 98 11).toInt (M103.1 98 12).toInt (M153.1 98 11).toInt (M153.1 98 12).toInt (M153.1 98 6).toInt (by decide) (ll_s gf gn 2042 2042 (atP gf gn false (suR gf gn 5)) ((atP gf gn false (suR gf gn 5)) gi).2.2 gq134 0 (M103.1 98 11).toInt (M103.1 98 12).toInt (M133.1 98 11).toInt (M133.1 98 12).toInt (M133.1 98 6).toInt (M140.1 98 11).toInt (M140.1 98 12).toInt (M148.1 98 11).toInt (M148.1 98 12).toInt (M148.1 98 6).toInt (M153.1 98 11).toInt (M153.1 98 12).toInt (M153.1 98 6).toInt (by decide) (at_g gf gn (fun _ => suR_g gf gn 5)) (by omega) (by omega) (by omega) (by omega) (by omega) (by omega) (by omega) (by omega) (by omega))
        have zz98_8 : (M153.1 98 8).toInt = (M148.1 98 8).toInt := s_fF fM153 (by decide) (rfl); have zz98_6 : (M153.1 98 6).toInt = (M148.1 98 6).toInt := s_fF fM153 (by decide) (rfl); have zz98_12 : (M153.1 98 12).toInt = (M148.1 98 12).toInt := s_fF fM153 (by decide) (rfl); have zz98_11 : (M153.1 98 11).toInt = (M148.1 98 11).toInt := s_fF fM153 (by decide) (rfl); exact ih131 M153 ((atP gf gn false (suR gf gn 5)) (nxF gf gn gq134)).2.2 (by omega) hM153 ((((FR.rf.tr fM133 (by decide)).tr fM140 (by decide)).tr fM148 (by decide)).tr fM153 (by decide))
  exact L132 2010 M103 ((atP gf gn false (suR gf gn 5)) gi).2.2 (by omega) hM103 (FR.rf.tr fM103 (by decide))
set_option maxHeartbeats 4000000 in
theorem s7_X12_readSum {l : Launch} {dC : Nat → ClassId} {dI : Nat → Nat → Nat} {ad : Nat → Nat} {cA : Nat → ClassId} {pr : Nat → Nat → Bool} {Kz : mm_M} {M0 : mm_M} (hM0 : INV pr Kz M0) (hpr : PM pr) (gf : Nat → Int) (gn : Int) (gi : Int) (hp0 : b01 (RIP M0) = 1) (hp1 : b01 (CA M0) = 1) (hp2 : b01 (TKM gf gn M0) = 1) (hp3 : b01 (PO gn gi (M0.1 98 11).toInt (M0.1 98 6).toInt) = 1) (hp4 : b01 (PI M0) = 1) : Cv l 27 yX12_readSum wsX12_readSum dC dI ad cA [.ref (ad 98), .int (sI 0)] M0 (fun M' => INV pr Kz M' ∧ FR [98, 102] M0 M' ∧ (b01 (RIP M') = 1) ∧ ((M'.1 98 8).toInt = (M0.1 98 8).toInt) ∧ ((M0.1 98 6).toInt ≤ (M'.1 98 6).toInt) ∧ (b01 (XW M0 M' 0 1 0) = 1) ∧ (b01 (CA M') = 1) ∧ (b01 (PI M') = 1) ∧ (b01 (TKM gf gn M') = 1) ∧ b01 (RR ((suR gf gn 6) gi) (M0.1 98 11).toInt (M0.1 98 12).toInt (M'.1 98 11).toInt (M'.1 98 12).toInt (M'.1 98 6).toInt) = 1) := by
  refine cv_of (cc := cX12_readSum) (maxL := 3) (lv := [(0, .ref (ad 98)), (1, .int (sI 0))]) (by decide) rfl (Nat.le_of_ble_eq_true rfl) rfl ?_
  intro p e s m args below meth c A Q C hret
  have u101z := xw_0 M0
  have u101l := ri_l (M := M0) (by omega)
  refine j_aload_n C 0 0 dX12_readSum_0 rfl rfl ?_
  refine j_iload_n C 1 1 dX12_readSum_1 rfl rfl ?_
  refine j_callVv C (d := 26) (As := [.int (sI 0)]) (st := []) 98 (s_lt rfl rfl) (s_kc (c := 11) rfl rfl) (by decide) rfl (s7_X12_readTerm hM0 hpr gf gn gi (by omega) (by omega) (by omega) (by omega) (by omega)) gX12_readSum_X12_readTerm rfl hdX12_readTerm (by decide) (Nat.le_of_ble_eq_true rfl) dX12_readSum_2 rfl (fun M103 h104 => ?_)
  obtain ⟨hM103, fM103, h105⟩ := h104
  have bM103 := tkm_b (f := gf) (n := gn) (M := M103) (by omega)
  have qM103 := po_rr (teP gf gn false (suR gf gn 5)) gn gi (M0.1 98 11).toInt (M0.1 98 12).toInt (M0.1 98 6).toInt (M103.1 98 11).toInt (M103.1 98 12).toInt (M103.1 98 6).toInt (te_g gf gn (fun _ => suR_g gf gn 5)) (by omega) (by omega)
  have u106l := ri_l (M := M103) (by omega)
  have u106L := ll_0 (luP gf gn 2043 2045 (teP gf gn false (suR gf gn 5))) gn ((teP gf gn false (suR gf gn 5)) gi).2.2 (M103.1 98 11).toInt (M103.1 98 12).toInt (M103.1 98 6).toInt (by omega)
  have L176 : ∀ (n174 : Nat), ∀ (M177 : mm_M) (gq178 : Int), ((b01 (RIP M177) = 1) ∧ ((M177.1 98 8).toInt = (M0.1 98 8).toInt) ∧ ((M0.1 98 6).toInt ≤ (M177.1 98 6).toInt) ∧ (b01 (XW M0 M177 0 1 0) = 1) ∧ ((M177.1 98 6).toInt ≤ 900) ∧ (b01 (LL (luP gf gn 2043 2045 (teP gf gn false (suR gf gn 5))) gn ((teP gf gn false (suR gf gn 5)) gi).2.2 gq178 0 (M103.1 98 11).toInt (M103.1 98 12).toInt (M177.1 98 11).toInt (M177.1 98 12).toInt (M177.1 98 6).toInt) = 1) ∧ (b01 (TKM gf gn M177) = 1) ∧ (b01 (PO gn gq178 (M177.1 98 11).toInt (M177.1 98 6).toInt) = 1) ∧ (b01 (PI M177) = 1) ∧ (900 - (M177.1 98 6).toInt) < (n174 : Int)) → INV pr Kz M177 → FR [98, 102] M0 M177 → jj p l e (cn_R 27) s m args below meth c 0 0 Q 3 dC dI ad cA A M177 5 [(0, .ref (ad 98)), (1, .int (sI 0))] [] := by
    intro n174
    induction n174 with
    | zero =>
      intro M177 gq178 h179 hM177 fM177
      exfalso; omega
    | succ n174 ih175 =>
      intro M177 gq178 h179 hM177 fM177
      have u180l := ri_l (M := M177) (by omega)
      have u180B := tkm_b (f := gf) (n := gn) (M := M177) (by omega)
      refine j_aload_n C 0 0 dX12_readSum_5 rfl rfl ?_
      refine y_bipush C dX12_readSum_6 rfl ?_
      have k181 := tkm_K (f := gf) (n := gn) (M := M177) (by omega)
      have k182 := kd_2 (kdk_32 gf gn (M177.1 98 6).toInt) (by omega)
      refine j_callVi C (d := 0) (As := [.int (sI 32)]) (st := []) 98 (s_lt rfl rfl) (s_kc (c := 11) rfl rfl) (by decide) rfl (s1_X12_is hM177 32 (by omega)) gX12_readSum_X12_is rfl hdX12_is (by decide) (Nat.le_of_ble_eq_true rfl) dX12_readSum_8 rfl (fun r183 M184 h185 => ?_)
      obtain ⟨a187, rfl, rfl, h186⟩ := h185
      refine y_if_ne C 23 dX12_readSum_11 (by decide) (by omega) (fun h188 => ?_) (fun h188 => ?_)
      · refine j_aload_n C 0 0 dX12_readSum_23 rfl rfl ?_
        refine y_getI C 11 _ _ fX12_readSum_108 rfl rfl ft_11_9 sb_11_9 hM177 dX12_readSum_24 (fun a189 ea189 la189 ua189 => ?_)
        obtain rfl : a189 = (M177.1 98 9).toInt := ea189
        refine y_bipush C dX12_readSum_27 rfl ?_
        have J193 : ∀ (a192 : Int), (3000 ≤ a192 ∧ a192 ≤ 3001) → jj p l e (cn_R 27) s m args below meth c 0 0 Q 3 dC dI ad cA A M177 41 [(0, .ref (ad 98)), (1, .int (sI 0))] [.int (sI a192)] := by
          intro a192 h194
          refine j_istore_n C 2 [(2, .int (sI a192)), (0, .ref (ad 98)), (1, .int (sI 0))] dX12_readSum_41 rfl (by decide) rfl ?_
          have u195k := ri_k (M := M177) (by omega) (by omega)
          refine j_aload_n C 1 0 dX12_readSum_42 rfl rfl ?_
          have k196 := tkm_p (f := gf) (n := gn) (M := M177) (by omega)
          have k197 := tkm_K (f := gf) (n := gn) (M := M177) (by omega)
          refine j_callVv C (d := 5) (As := []) (st := []) 98 (s_lt rfl rfl) (s_kc (c := 11) rfl rfl) (by decide) rfl (s1_X12_next hM177 hpr gf gn (by omega) (by omega) (by omega) (by omega)) gX12_readSum_X12_next rfl hdX12_next (by decide) (Nat.le_of_ble_eq_true rfl) dX12_readSum_43 rfl (fun M199 h200 => ?_)
          obtain ⟨hM199, fM199, h201⟩ := h200
          have bM199 := tkm_b (f := gf) (n := gn) (M := M199) (by omega)
          have qM199 := nx_po (f := gf) (n := gn) (i := gq178) (M := M177) (M' := M199) (by omega) (by omega) (by omega) (by omega) (by omega)
          have u202c := xw_c (N := M177) (P := M199) 1 (FR.cell fM199 (by decide)) (by omega)
          have u202t := xw_t (M := M0) (N := M177) (P := M199) (r1 := 0) (e1 := 1) (s1 := 0) (r2 := 0) (e2 := 0) (s2 := 1) 0 1 1 (by decide) (by omega) (by omega)
          have u202a := ca_x (M := M0) (N := M199) (r := 0) (e := 1) (s := 1) (by decide) (by omega) (by omega)
          have u202l := ri_l (M := M199) (by omega)
          refine j_aload_n C 1 0 dX12_readSum_46 rfl rfl ?_
          refine j_iload_n C 2 1 dX12_readSum_47 rfl rfl ?_
          refine j_callVv C (d := 26) (As := [.int (sI 0)]) (st := []) 98 (s_lt rfl rfl) (s_kc (c := 11) rfl rfl) (by decide) rfl (s7_X12_readTerm hM199 hpr gf gn (nxF gf gn gq178) (by omega) (by omega) (by omega) (by omega) (by omega)) gX12_readSum_X12_readTerm rfl hdX12_readTerm (by decide) (Nat.le_of_ble_eq_true rfl) dX12_readSum_48 rfl (fun M204 h205 => ?_)
          obtain ⟨hM204, fM204, h206⟩ := h205
          have bM204 := tkm_b (f := gf) (n := gn) (M := M204) (by omega)
          have qM204 := po_rr (teP gf gn false (suR gf gn 5)) gn (nxF gf gn gq178) (M199.1 98 11).toInt (M199.1 98 12).toInt (M199.1 98 6).toInt (M204.1 98 11).toInt (M204.1 98 12).toInt (M204.1 98 6).toInt (te_g gf gn (fun _ => suR_g gf gn 5)) (by omega) (by omega)
          have u207t := xw_t (M := M0) (N := M199) (P := M204) (r1 := 0) (e1 := 1) (s1 := 1) (r2 := 0) (e2 := 1) (s2 := 0) 0 2 1 (by decide) (by omega) (by omega)
          have u207l := ri_l (M := M204) (by omega)
          have u207b := cb_x (M := M0) (N := M204) (r := 0) (e := 2) (s := 1) (by decide) (by omega) (by omega) (by omega)
          refine j_aload_n C 1 0 dX12_readSum_51 rfl rfl ?_
          refine j_iload_n C 0 2 dX12_readSum_52 rfl rfl ?_
          refine j_callVv C (d := 0) (As := [.int (sI a192)]) (st := []) 98 (s_lt rfl rfl) (s_kc (c := 11) rfl rfl) (by decide) rfl (s1_X12_codes hM204 hpr a192 (by omega) gf gn ((teP gf gn false (suR gf gn 5)) (nxF gf gn gq178)).2.2 (by omega) (by omega) (by omega) (by omega)) gX12_readSum_X12_codes rfl hdX12_codes (by decide) (Nat.le_of_ble_eq_true rfl) dX12_readSum_53 rfl (fun M209 h210 => ?_)
          obtain ⟨hM209, fM209, h211⟩ := h210
          have bM209 := tkm_b (f := gf) (n := gn) (M := M209) (by omega)
          have qM209 := po_eq gn ((teP gf gn false (suR gf gn 5)) (nxF gf gn gq178)).2.2 (M204.1 98 11).toInt (M204.1 98 6).toInt (M209.1 98 11).toInt (M209.1 98 6).toInt (by omega) (by omega) (by omega)
          refine j_goto C 5 dX12_readSum_56 (by decide) ?_
          have u212x := xw_a (M := M204) (N := M209) (c := a192) (r := 2) (e := (-1)) (FR.cell fM209 (by decide)) (ap_bin ⟨(INV.rd hM204 (i := 102) (c := 48) (k := 280) rfl rfl).1, by omega, by omega⟩) (by omega)
          have u212t := xw_t (M := M0) (N := M204) (P := M209) (r1 := 0) (e1 := 2) (s1 := 1) (r2 := 2) (e2 := (-1)) (s2 := (-1)) 0 1 0 (by decide) (by omega) (by omega)
          have u212i := ri_c (M := M204) (N := M209) (FR.cell fM209 (by decide)) (by omega)
          have u212l := ri_l (M := M209) (by omega)
          have u212L := ll_w (luP gf gn 2043 2045 (teP gf gn false (suR gf gn 5))) gn ((teP gf gn false (suR gf gn 5)) gi).2.2 ((teP gf gn false (suR gf gn 5)) (nxF gf gn gq178)).2.2 (0 + 1) 0 (M103.1 98 11).toInt (M103.1 98 12).toInt (M209.1 98 11).toInt (M209.1 98 12).toInt (M209.1 98 6).toInt (by decide) (ll_s gf gn 2043 2045 (teP gf gn false (suR gf gn 5)) ((teP gf gn false (suR gf gn 5)) gi).2.2 gq178 0 (M103.1 98 11).toInt (M103.1 98 12).toInt (M177.1 98 11).toInt (M177.1 98 12).toInt (M177.1 98 6).toInt (M199.1 98 11).toInt (M199.1 98 12).toInt (M204.1 98 11).toInt (M204.1 98 12).toInt (M204.1 98 6).toInt (M209.1 98 11).toInt (M209.1 98 12).toInt (M209.1 98 6).toInt (by decide) (te_g gf gn (fun _ => suR_g gf gn 5)) (by omega) (by omega) (by omega) (by omega) (by omega) (by omega) (by omega) (by omega) (by omega))
          have zz98_8 : (M209.1 98 8).toInt = (M204.1 98 8).toInt := s_fF fM209 (by decide) (rfl); have zz98_6 : (M209.1 98 6).toInt = (M204.1 98 6).toInt := s_fF fM209 (by decide) (rfl); have zz98_12 : (M209.1 98 12).toInt = (M204.1 98 12).toInt := s_fF fM209 (by decide) (rfl); have zz98_11 : (M209.1 98 11).toInt = (M204.1 98 11).toInt := s_fF fM209 (by decide) (rfl); refine j_lv [1, 2] rfl ?_; exact ih175 M209 ((teP gf gn false (suR gf gn 5)) (nxF gf gn gq178)).2.2 (by omega) hM209 ((((FR.rf.tr fM177 (by decide)).tr fM199 (by decide)).tr fM204 (by decide)).tr fM209 (by decide))
        refine y_icmp_ne C 38 dX12_readSum_29 (by decide) (by omega) (fun h191 => ?_) (fun h191 => ?_)
        · refine y_sipush C dX12_readSum_38 rfl ?_
          exact J193 3001 (by omega)
        · refine y_sipush C dX12_readSum_32 rfl ?_
          refine j_goto C 41 dX12_readSum_35 (by decide) ?_
          exact J193 3000 (by omega)
      · refine j_aload_n C 0 0 dX12_readSum_14 rfl rfl ?_
        refine y_bipush C dX12_readSum_15 rfl ?_
        have k213 := tkm_K (f := gf) (n := gn) (M := M177) (by omega)
        have k214 := kd_2 (kdk_33 gf gn (M177.1 98 6).toInt) (by omega)
        refine j_callVi C (d := 0) (As := [.int (sI 33)]) (st := []) 98 (s_lt rfl rfl) (s_kc (c := 11) rfl rfl) (by decide) rfl (s1_X12_is hM177 33 (by omega)) gX12_readSum_X12_is rfl hdX12_is (by decide) (Nat.le_of_ble_eq_true rfl) dX12_readSum_17 rfl (fun r215 M216 h217 => ?_)
        obtain ⟨a219, rfl, rfl, h218⟩ := h217
        refine y_if_eq C 59 dX12_readSum_20 (by decide) (by omega) (fun h220 => ?_) (fun h220 => ?_)
        · have u245a := ca_x (M := M0) (N := M177) (r := 0) (e := 1) (s := 0) (by decide) (by omega) (by omega)
          have u245E := ll_e gf gn 2043 2045 (teP gf gn false (suR gf gn 5)) ((teP gf gn false (suR gf gn 5)) gi).2.2 gq178 0 (M103.1 98 11).toInt (M103.1 98 12).toInt (M177.1 98 11).toInt (M177.1 98 12).toInt (M177.1 98 6).toInt (by decide) (te_g gf gn (fun _ => suR_g gf gn 5)) (by omega) (by omega)
          have u245S : b01 (RR ((suR gf gn 6) gi) (M0.1 98 11).toInt (M0.1 98 12).toInt (M177.1 98 11).toInt (M177.1 98 12).toInt (M177.1 98 6).toInt) = 1 := by rw [su_q gf gn 5 6 rfl]; exact rr_sq ((teP gf gn false (suR gf gn 5)) gi) (luP gf gn 2043 2045 (teP gf gn false (suR gf gn 5))) (M0.1 98 11).toInt (M0.1 98 12).toInt (M103.1 98 11).toInt (M103.1 98 12).toInt (M103.1 98 6).toInt (M177.1 98 11).toInt (M177.1 98 12).toInt (M177.1 98 6).toInt (by omega) (by omega)
          exact hret _ _ _ dX12_readSum_59 ⟨hM177, (FR.rf.tr fM177 (by decide)), by omega⟩
        · refine j_aload_n C 0 0 dX12_readSum_23 rfl rfl ?_
          refine y_getI C 11 _ _ fX12_readSum_108 rfl rfl ft_11_9 sb_11_9 hM177 dX12_readSum_24 (fun a221 ea221 la221 ua221 => ?_)
          obtain rfl : a221 = (M177.1 98 9).toInt := ea221
          refine y_bipush C dX12_readSum_27 rfl ?_
          have J225 : ∀ (a224 : Int), (3000 ≤ a224 ∧ a224 ≤ 3001) → jj p l e (cn_R 27) s m args below meth c 0 0 Q 3 dC dI ad cA A M177 41 [(0, .ref (ad 98)), (1, .int (sI 0))] [.int (sI a224)] := by
            intro a224 h226
            refine j_istore_n C 2 [(2, .int (sI a224)), (0, .ref (ad 98)), (1, .int (sI 0))] dX12_readSum_41 rfl (by decide) rfl ?_
            have u227k := ri_k (M := M177) (by omega) (by omega)
            refine j_aload_n C 1 0 dX12_readSum_42 rfl rfl ?_
            have k228 := tkm_p (f := gf) (n := gn) (M := M177) (by omega)
            have k229 := tkm_K (f := gf) (n := gn) (M := M177) (by omega)
            refine j_callVv C (d := 5) (As := []) (st := []) 98 (s_lt rfl rfl) (s_kc (c := 11) rfl rfl) (by decide) rfl (s1_X12_next hM177 hpr gf gn (by omega) (by omega) (by omega) (by omega)) gX12_readSum_X12_next rfl hdX12_next (by decide) (Nat.le_of_ble_eq_true rfl) dX12_readSum_43 rfl (fun M231 h232 => ?_)
            obtain ⟨hM231, fM231, h233⟩ := h232
            have bM231 := tkm_b (f := gf) (n := gn) (M := M231) (by omega)
            have qM231 := nx_po (f := gf) (n := gn) (i := gq178) (M := M177) (M' := M231) (by omega) (by omega) (by omega) (by omega) (by omega)
            have u234c := xw_c (N := M177) (P := M231) 1 (FR.cell fM231 (by decide)) (by omega)
            have u234t := xw_t (M := M0) (N := M177) (P := M231) (r1 := 0) (e1 := 1) (s1 := 0) (r2 := 0) (e2 := 0) (s2 := 1) 0 1 1 (by decide) (by omega) (by omega)
            have u234a := ca_x (M := M0) (N := M231) (r := 0) (e := 1) (s := 1) (by decide) (by omega) (by omega)
            have u234l := ri_l (M := M231) (by omega)
            refine j_aload_n C 1 0 dX12_readSum_46 rfl rfl ?_
            refine j_iload_n C 2 1 dX12_readSum_47 rfl rfl ?_
            refine j_callVv C (d := 26) (As := [.int (sI 0)]) (st := []) 98 (s_lt rfl rfl) (s_kc (c := 11) rfl rfl) (by decide) rfl (s7_X12_readTerm hM231 hpr gf gn (nxF gf gn gq178) (by omega) (by omega) (by omega) (by omega) (by omega)) gX12_readSum_X12_readTerm rfl hdX12_readTerm (by decide) (Nat.le_of_ble_eq_true rfl) dX12_readSum_48 rfl (fun M236 h237 => ?_)
            obtain ⟨hM236, fM236, h238⟩ := h237
            have bM236 := tkm_b (f := gf) (n := gn) (M := M236) (by omega)
            have qM236 := po_rr (teP gf gn false (suR gf gn 5)) gn (nxF gf gn gq178) (M231.1 98 11).toInt (M231.1 98 12).toInt (M231.1 98 6).toInt (M236.1 98 11).toInt (M236.1 98 12).toInt (M236.1 98 6).toInt (te_g gf gn (fun _ => suR_g gf gn 5)) (by omega) (by omega)
            have u239t := xw_t (M := M0) (N := M231) (P := M236) (r1 := 0) (e1 := 1) (s1 := 1) (r2 := 0) (e2 := 1) (s2 := 0) 0 2 1 (by decide) (by omega) (by omega)
            have u239l := ri_l (M := M236) (by omega)
            have u239b := cb_x (M := M0) (N := M236) (r := 0) (e := 2) (s := 1) (by decide) (by omega) (by omega) (by omega)
            refine j_aload_n C 1 0 dX12_readSum_51 rfl rfl ?_
            refine j_iload_n C 0 2 dX12_readSum_52 rfl rfl ?_
            refine j_callVv C (d := 0) (As := [.int (sI a224)]) (st := []) 98 (s_lt rfl rfl) (s_kc (c := 11) rfl rfl) (by decide) rfl (s1_X12_codes hM236 hpr a224 (by omega) gf gn ((teP gf gn false (suR gf gn 5)) (nxF gf gn gq178)).2.2 (by omega) (by omega) (by omega) (by omega)) gX12_readSum_X12_codes rfl hdX12_codes (by decide) (Nat.le_of_ble_eq_true rfl) dX12_readSum_53 rfl (fun M241 h242 => ?_)
            obtain ⟨hM241, fM241, h243⟩ := h242
            have bM241 := tkm_b (f := gf) (n := gn) (M := M241) (by omega)
            have qM241 := po_eq gn ((teP gf gn false (suR gf gn 5)) (nxF gf gn gq178)).2.2 (M236.1 98 11).toInt (M236.1 98 6).toInt (M241.1 98 11).toInt (M241.1 98 6).toInt (by omega) (by omega) (by omega)
            refine j_goto C 5 dX12_readSum_56 (by decide) ?_
            have u244x := xw_a (M := M236) (N := M241) (c := a224) (r := 2) (e := (-1)) (FR.cell fM241 (by decide)) (ap_bin ⟨(INV.rd hM236 (i := 102) (c := 48) (k := 280) rfl rfl).1, by omega, by omega⟩) (by omega)
            have u244t := xw_t (M := M0) (N := M236) (P := M241) (r1 := 0) (e1 := 2) (s1 := 1) (r2 := 2) (e2 := (-1)) (s2 := (-1)) 0 1 0 (by decide) (by omega) (by omega)
            have u244i := ri_c (M := M236) (N := M241) (FR.cell fM241 (by decide)) (by omega)
            have u244l := ri_l (M := M241) (by omega)
            have u244L := ll_w (luP gf gn 2043 2045 (teP gf gn false (suR gf gn 5))) gn ((teP gf gn false (suR gf gn 5)) gi).2.2 ((teP gf gn false (suR gf gn 5)) (nxF gf gn gq178)).2.2 (0 + 1) 0 (M103.1 98 11).toInt (M103.1 98 12).toInt (M241.1 98 11).toInt (M241.1 98 12).toInt (M241.1 98 6).toInt (by decide) (ll_s gf gn 2043 2045 (teP gf gn false (suR gf gn 5)) ((teP gf gn false (suR gf gn 5)) gi).2.2 gq178 0 (M103.1 98 11).toInt (M103.1 98 12).toInt (M177.1 98 11).toInt (M177.1 98 12).toInt (M177.1 98 6).toInt (M231.1 98 11).toInt (M231.1 98 12).toInt (M236.1 98 11).toInt (M236.1 98 12).toInt (M236.1 98 6).toInt (M241.1 98 11).toInt (M241.1 98 12).toInt (M241.1 98 6).toInt (by decide) (te_g gf gn (fun _ => suR_g gf gn 5)) (by omega) (by omega) (by omega) (by omega) (by omega) (by omega) (by omega) (by omega) (by omega))
            have zz98_8 : (M241.1 98 8).toInt = (M236.1 98 8).toInt := s_fF fM241 (by decide) (rfl); have zz98_6 : (M241.1 98 6).toInt = (M236.1 98 6).toInt := s_fF fM241 (by decide) (rfl); have zz98_12 : (M241.1 98 12).toInt = (M236.1 98 12).toInt := s_fF fM241 (by decide) (rfl); have zz98_11 : (M241.1 98 11).toInt = (M236.1 98 11).toInt := s_fF fM241 (by decide) (rfl); refine j_lv [1, 2] rfl ?_; exact ih175 M241 ((teP gf gn false (suR gf gn 5)) (nxF gf gn gq178)).2.2 (by omega) hM241 ((((FR.rf.tr fM177 (by decide)).tr fM231 (by decide)).tr fM236 (by decide)).tr fM241 (by decide))
          refine y_icmp_ne C 38 dX12_readSum_29 (by decide) (by omega) (fun h223 => ?_) (fun h223 => ?_)
          · refine y_sipush C dX12_readSum_38 rfl ?_
            exact J225 3001 (by omega)
          · refine y_sipush C dX12_readSum_32 rfl ?_
            refine j_goto C 41 dX12_readSum_35 (by decide) ?_
            exact J225 3000 (by omega)
  exact L176 2010 M103 ((teP gf gn false (suR gf gn 5)) gi).2.2 (by omega) hM103 (FR.rf.tr fM103 (by decide))
set_option maxHeartbeats 4000000 in
theorem s1_X12_readUnit {l : Launch} {dC : Nat → ClassId} {dI : Nat → Nat → Nat} {ad : Nat → Nat} {cA : Nat → ClassId} {pr : Nat → Nat → Bool} {Kz : mm_M} {M0 : mm_M} (hM0 : INV pr Kz M0) (hpr : PM pr) (gf : Nat → Int) (gn : Int) (gi : Int) (hp0 : b01 (RIP M0) = 1) (hp1 : b01 (CA M0) = 1) (hp2 : b01 (TKM gf gn M0) = 1) (hp3 : b01 (PO gn gi (M0.1 98 11).toInt (M0.1 98 6).toInt) = 1) (hp4 : b01 (PI M0) = 1) : Cv l 10 yX12_readUnit wsX12_readUnit dC dI ad cA [.ref (ad 98), .int (sI 6)] M0 (fun M' => INV pr Kz M' ∧ FR [98, 102] M0 M' ∧ (b01 (RIP M') = 1) ∧ ((M'.1 98 8).toInt = (M0.1 98 8).toInt) ∧ ((M0.1 98 6).toInt ≤ (M'.1 98 6).toInt) ∧ (b01 (XW M0 M' 0 1 0) = 1) ∧ (b01 (CA M') = 1) ∧ (b01 (PI M') = 1) ∧ (b01 (TKM gf gn M') = 1) ∧ b01 (RR ((unR gf gn 0) gi) (M0.1 98 11).toInt (M0.1 98 12).toInt (M'.1 98 11).toInt (M'.1 98 12).toInt (M'.1 98 6).toInt) = 1) := by
  refine cv_of (cc := cX12_readUnit) (maxL := 3) (lv := [(0, .ref (ad 98)), (1, .int (sI 6))]) (by decide) rfl (Nat.le_of_ble_eq_true rfl) rfl ?_
  intro p e s m args below meth c A Q C hret
  have u101z := xw_0 M0
  have u101l := ri_l (M := M0) (by omega)
  refine j_aload_n C 0 0 dX12_readUnit_0 rfl rfl ?_
  refine y_bipush C dX12_readUnit_1 rfl ?_
  have k102 := tkm_K (f := gf) (n := gn) (M := M0) (by omega)
  have k103 := kd_2 (kdk_16 gf gn (M0.1 98 6).toInt) (by omega)
  refine j_callVi C (d := 0) (As := [.int (sI 16)]) (st := []) 98 (s_lt rfl rfl) (s_kc (c := 11) rfl rfl) (by decide) rfl (s1_X12_is hM0 16 (by omega)) gX12_readUnit_X12_is rfl hdX12_is (by decide) (Nat.le_of_ble_eq_true rfl) dX12_readUnit_3 rfl (fun r104 M105 h106 => ?_)
  obtain ⟨a108, rfl, rfl, h107⟩ := h106
  refine y_if_eq C 33 dX12_readUnit_6 (by decide) (by omega) (fun h109 => ?_) (fun h109 => ?_)
  · refine j_aload_n C 0 0 dX12_readUnit_33 rfl rfl ?_
    refine y_bipush C dX12_readUnit_34 rfl ?_
    have k110 := tkm_K (f := gf) (n := gn) (M := M0) (by omega)
    have k111 := kd_2 (kdk_37 gf gn (M0.1 98 6).toInt) (by omega)
    refine j_callVi C (d := 0) (As := [.int (sI 37)]) (st := []) 98 (s_lt rfl rfl) (s_kc (c := 11) rfl rfl) (by decide) rfl (s1_X12_is hM0 37 (by omega)) gX12_readUnit_X12_is rfl hdX12_is (by decide) (Nat.le_of_ble_eq_true rfl) dX12_readUnit_36 rfl (fun r112 M113 h114 => ?_)
    obtain ⟨a116, rfl, rfl, h115⟩ := h114
    refine y_if_eq C 73 dX12_readUnit_39 (by decide) (by omega) (fun h117 => ?_) (fun h117 => ?_)
    · refine j_aload_n C 0 0 dX12_readUnit_73 rfl rfl ?_
      refine j_iload_n C 1 1 dX12_readUnit_74 rfl rfl ?_
      refine j_callVv C (d := 9) (As := [.int (sI 6)]) (st := []) 98 (s_lt rfl rfl) (s_kc (c := 11) rfl rfl) (by decide) rfl (s1_X12_readSum hM0 hpr gf gn gi (by omega) (by omega) (by omega) (by omega) (by omega)) gX12_readUnit_X12_readSum rfl hdX12_readSum (by decide) (Nat.le_of_ble_eq_true rfl) dX12_readUnit_75 rfl (fun M119 h120 => ?_)
      obtain ⟨hM119, fM119, h121⟩ := h120
      have bM119 := tkm_b (f := gf) (n := gn) (M := M119) (by omega)
      have qM119 := po_rr (suR gf gn 0) gn gi (M0.1 98 11).toInt (M0.1 98 12).toInt (M0.1 98 6).toInt (M119.1 98 11).toInt (M119.1 98 12).toInt (M119.1 98 6).toInt (suR_g gf gn 0) (by omega) (by omega)
      have u122l := ri_l (M := M119) (by omega)
      refine j_aload_n C 0 0 dX12_readUnit_78 rfl rfl ?_
      refine y_bipush C dX12_readUnit_79 rfl ?_
      have k123 := tkm_K (f := gf) (n := gn) (M := M119) (by omega)
      have k124 := kd_2 (kdk_39 gf gn (M119.1 98 6).toInt) (by omega)
      refine j_callVi C (d := 0) (As := [.int (sI 39)]) (st := []) 98 (s_lt rfl rfl) (s_kc (c := 11) rfl rfl) (by decide) rfl (s1_X12_is hM119 39 (by omega)) gX12_readUnit_X12_is rfl hdX12_is (by decide) (Nat.le_of_ble_eq_true rfl) dX12_readUnit_81 rfl (fun r125 M126 h127 => ?_)
      obtain ⟨a129, rfl, rfl, h128⟩ := h127
      have J140 : ∀ (a139 : Int), (3003 ≤ a139 ∧ a139 ≤ 3005) → jj p l e (cn_R 10) s m args below meth c 0 0 Q 3 dC dI ad cA A M119 111 [(0, .ref (ad 98)), (1, .int (sI 6))] [.int (sI a139)] := by
        intro a139 h141
        refine j_istore_n C 2 [(2, .int (sI a139)), (0, .ref (ad 98)), (1, .int (sI 6))] dX12_readUnit_111 rfl (by decide) rfl ?_
        refine j_aload_n C 1 0 dX12_readUnit_112 rfl rfl ?_
        refine y_bipush C dX12_readUnit_113 rfl ?_
        have k142 := tkm_K (f := gf) (n := gn) (M := M119) (by omega)
        have k143 := kd_2 (kdk_39 gf gn (M119.1 98 6).toInt) (by omega)
        refine j_callVi C (d := 0) (As := [.int (sI 39)]) (st := []) 98 (s_lt rfl rfl) (s_kc (c := 11) rfl rfl) (by decide) rfl (s1_X12_is hM119 39 (by omega)) gX12_readUnit_X12_is rfl hdX12_is (by decide) (Nat.le_of_ble_eq_true rfl) dX12_readUnit_115 rfl (fun r144 M145 h146 => ?_)
        obtain ⟨a148, rfl, rfl, h147⟩ := h146
        have J196 : ∀ (M195 : mm_M), ((b01 (RIP M195) = 1) ∧ ((M195.1 98 8).toInt = (M0.1 98 8).toInt) ∧ ((M0.1 98 6).toInt ≤ (M195.1 98 6).toInt) ∧ (b01 (XW M0 M195 0 1 1) = 1) ∧ (b01 (RR ((sjP gf gn 0) gi) (M0.1 98 11).toInt (M0.1 98 12).toInt (M195.1 98 11).toInt (M195.1 98 12).toInt (M195.1 98 6).toInt) = 1) ∧ (b01 (TKM gf gn M195) = 1) ∧ (b01 (PO gn ((sjP gf gn 0) gi).2.2 (M195.1 98 11).toInt (M195.1 98 6).toInt) = 1) ∧ (b01 (PI M195) = 1)) → INV pr Kz M195 → FR [98, 102] M0 M195 → jj p l e (cn_R 10) s m args below meth c 0 0 Q 3 dC dI ad cA A M195 151 [(0, .ref (ad 98)), (1, .int (sI 6)), (2, .int (sI a139))] [] := by
          intro M195 h197 hM195 fM195
          have u199a := ca_x (M := M0) (N := M195) (r := 0) (e := 1) (s := 1) (by decide) (by omega) (by omega)
          have u199l := ri_l (M := M195) (by omega)
          refine j_aload_n C 0 0 dX12_readUnit_151 rfl rfl ?_
          refine j_iload_n C 1 1 dX12_readUnit_152 rfl rfl ?_
          refine j_callVv C (d := 9) (As := [.int (sI 6)]) (st := []) 98 (s_lt rfl rfl) (s_kc (c := 11) rfl rfl) (by decide) rfl (s1_X12_readSum hM195 hpr gf gn ((sjP gf gn 0) gi).2.2 (by omega) (by omega) (by omega) (by omega) (by omega)) gX12_readUnit_X12_readSum rfl hdX12_readSum (by decide) (Nat.le_of_ble_eq_true rfl) dX12_readUnit_153 rfl (fun M201 h202 => ?_)
          obtain ⟨hM201, fM201, h203⟩ := h202
          have bM201 := tkm_b (f := gf) (n := gn) (M := M201) (by omega)
          have qM201 := po_rr (suR gf gn 0) gn ((sjP gf gn 0) gi).2.2 (M195.1 98 11).toInt (M195.1 98 12).toInt (M195.1 98 6).toInt (M201.1 98 11).toInt (M201.1 98 12).toInt (M201.1 98 6).toInt (suR_g gf gn 0) (by omega) (by omega)
          have u204t := xw_t (M := M0) (N := M195) (P := M201) (r1 := 0) (e1 := 1) (s1 := 1) (r2 := 0) (e2 := 1) (s2 := 0) 0 2 1 (by decide) (by omega) (by omega)
          have u204l := ri_l (M := M201) (by omega)
          have u204b := cb_x (M := M0) (N := M201) (r := 0) (e := 2) (s := 1) (by decide) (by omega) (by omega) (by omega)
          refine j_aload_n C 0 0 dX12_readUnit_156 rfl rfl ?_
          refine j_iload_n C 2 2 dX12_readUnit_157 rfl rfl ?_
          refine j_callVv C (d := 0) (As := [.int (sI a139)]) (st := []) 98 (s_lt rfl rfl) (s_kc (c := 11) rfl rfl) (by decide) rfl (s1_X12_codes hM201 hpr a139 (by omega) gf gn ((suR gf gn 0) ((sjP gf gn 0) gi).2.2).2.2 (by omega) (by omega) (by omega) (by omega)) gX12_readUnit_X12_codes rfl hdX12_codes (by decide) (Nat.le_of_ble_eq_true rfl) dX12_readUnit_158 rfl (fun M206 h207 => ?_)
          obtain ⟨hM206, fM206, h208⟩ := h207
          have bM206 := tkm_b (f := gf) (n := gn) (M := M206) (by omega)
          have qM206 := po_eq gn ((suR gf gn 0) ((sjP gf gn 0) gi).2.2).2.2 (M201.1 98 11).toInt (M201.1 98 6).toInt (M206.1 98 11).toInt (M206.1 98 6).toInt (by omega) (by omega) (by omega)
          have u209x := xw_a (M := M201) (N := M206) (c := a139) (r := 2) (e := (-1)) (FR.cell fM206 (by decide)) (ap_bin ⟨(INV.rd hM201 (i := 102) (c := 48) (k := 280) rfl rfl).1, by omega, by omega⟩) (by omega)
          have u209t := xw_t (M := M0) (N := M201) (P := M206) (r1 := 0) (e1 := 2) (s1 := 1) (r2 := 2) (e2 := (-1)) (s2 := (-1)) 0 1 0 (by decide) (by omega) (by omega)
          have u209i := ri_c (M := M201) (N := M206) (FR.cell fM206 (by decide)) (by omega)
          have u209l := ri_l (M := M206) (by omega)
          have u209a := ca_x (M := M0) (N := M206) (r := 0) (e := 1) (s := 0) (by decide) (by omega) (by omega)
          have u210r := un_6 gf gn 0 gi (M0.1 98 11).toInt (M0.1 98 12).toInt (M0.1 98 6).toInt (M195.1 98 11).toInt (M195.1 98 12).toInt (M195.1 98 6).toInt (M201.1 98 11).toInt (M201.1 98 12).toInt (M201.1 98 6).toInt (M206.1 98 11).toInt (M206.1 98 12).toInt (M206.1 98 6).toInt (by omega) (by omega) (by omega) (by omega) (by omega) (by omega) (by omega)
          have zz98_11 : (M206.1 98 11).toInt = (M201.1 98 11).toInt := s_fF fM206 (by decide) (rfl); have zz98_12 : (M206.1 98 12).toInt = (M201.1 98 12).toInt := s_fF fM206 (by decide) (rfl); have zz98_6 : (M206.1 98 6).toInt = (M201.1 98 6).toInt := s_fF fM206 (by decide) (rfl); have zz98_8 : (M206.1 98 8).toInt = (M201.1 98 8).toInt := s_fF fM206 (by decide) (rfl); exact hret _ _ _ dX12_readUnit_161 ⟨hM206, (((FR.rf.tr fM195 (by decide)).tr fM201 (by decide)).tr fM206 (by decide)), by omega⟩
        refine y_if_ne C 139 dX12_readUnit_118 (by decide) (by omega) (fun h149 => ?_) (fun h149 => ?_)
        · have u150k := ri_k (M := M119) (by omega) (by omega)
          refine j_aload_n C 1 0 dX12_readUnit_139 rfl rfl ?_
          have k151 := tkm_p (f := gf) (n := gn) (M := M119) (by omega)
          have k152 := tkm_K (f := gf) (n := gn) (M := M119) (by omega)
          refine j_callVv C (d := 5) (As := []) (st := []) 98 (s_lt rfl rfl) (s_kc (c := 11) rfl rfl) (by decide) rfl (s1_X12_next hM119 hpr gf gn (by omega) (by omega) (by omega) (by omega)) gX12_readUnit_X12_next rfl hdX12_next (by decide) (Nat.le_of_ble_eq_true rfl) dX12_readUnit_140 rfl (fun M154 h155 => ?_)
          obtain ⟨hM154, fM154, h156⟩ := h155
          have bM154 := tkm_b (f := gf) (n := gn) (M := M154) (by omega)
          have qM154 := nx_po (f := gf) (n := gn) (i := ((suR gf gn 0) gi).2.2) (M := M119) (M' := M154) (by omega) (by omega) (by omega) (by omega) (by omega)
          refine j_goto C 151 dX12_readUnit_143 (by decide) ?_
          have u157c := xw_c (N := M119) (P := M154) 1 (FR.cell fM154 (by decide)) (by omega)
          have u157t := xw_t (M := M0) (N := M119) (P := M154) (r1 := 0) (e1 := 1) (s1 := 0) (r2 := 0) (e2 := 0) (s2 := 1) 0 1 1 (by decide) (by omega) (by omega)
          have u157l := ri_l (M := M154) (by omega)
          have u157J := cj_1 gf gn 0 gi (M0.1 98 11).toInt (M0.1 98 12).toInt (M119.1 98 11).toInt (M119.1 98 12).toInt (M119.1 98 6).toInt (M154.1 98 11).toInt (M154.1 98 12).toInt (M154.1 98 6).toInt (by omega) (by omega) (by omega) (by omega) (by omega) (by omega) (by omega)
          have u157P := po_rr (sjP gf gn 0) gn gi (M0.1 98 11).toInt (M0.1 98 12).toInt (M0.1 98 6).toInt (M154.1 98 11).toInt (M154.1 98 12).toInt (M154.1 98 6).toInt (sj_g gf gn 0) (by omega) (by omega)
          refine j_lv [1, 2, 0] rfl ?_; exact J196 M154 (by omega) hM154 ((FR.rf.tr fM119 (by decide)).tr fM154 (by decide))
        · refine j_aload_n C 1 0 dX12_readUnit_121 rfl rfl ?_
          refine y_bipush C dX12_readUnit_122 rfl ?_
          have k158 := tkm_K (f := gf) (n := gn) (M := M119) (by omega)
          have k159 := kd_2 (kdk_40 gf gn (M119.1 98 6).toInt) (by omega)
          refine j_callVi C (d := 0) (As := [.int (sI 40)]) (st := []) 98 (s_lt rfl rfl) (s_kc (c := 11) rfl rfl) (by decide) rfl (s1_X12_is hM119 40 (by omega)) gX12_readUnit_X12_is rfl hdX12_is (by decide) (Nat.le_of_ble_eq_true rfl) dX12_readUnit_124 rfl (fun r160 M161 h162 => ?_)
          obtain ⟨a164, rfl, rfl, h163⟩ := h162
          refine y_if_ne C 139 dX12_readUnit_127 (by decide) (by omega) (fun h165 => ?_) (fun h165 => ?_)
          · have u166k := ri_k (M := M119) (by omega) (by omega)
            refine j_aload_n C 1 0 dX12_readUnit_139 rfl rfl ?_
            have k167 := tkm_p (f := gf) (n := gn) (M := M119) (by omega)
            have k168 := tkm_K (f := gf) (n := gn) (M := M119) (by omega)
            refine j_callVv C (d := 5) (As := []) (st := []) 98 (s_lt rfl rfl) (s_kc (c := 11) rfl rfl) (by decide) rfl (s1_X12_next hM119 hpr gf gn (by omega) (by omega) (by omega) (by omega)) gX12_readUnit_X12_next rfl hdX12_next (by decide) (Nat.le_of_ble_eq_true rfl) dX12_readUnit_140 rfl (fun M170 h171 => ?_)
            obtain ⟨hM170, fM170, h172⟩ := h171
            have bM170 := tkm_b (f := gf) (n := gn) (M := M170) (by omega)
            have qM170 := nx_po (f := gf) (n := gn) (i := ((suR gf gn 0) gi).2.2) (M := M119) (M' := M170) (by omega) (by omega) (by omega) (by omega) (by omega)
            refine j_goto C 151 dX12_readUnit_143 (by decide) ?_
            have u173c := xw_c (N := M119) (P := M170) 1 (FR.cell fM170 (by decide)) (by omega)
            have u173t := xw_t (M := M0) (N := M119) (P := M170) (r1 := 0) (e1 := 1) (s1 := 0) (r2 := 0) (e2 := 0) (s2 := 1) 0 1 1 (by decide) (by omega) (by omega)
            have u173l := ri_l (M := M170) (by omega)
            have u173J := cj_1 gf gn 0 gi (M0.1 98 11).toInt (M0.1 98 12).toInt (M119.1 98 11).toInt (M119.1 98 12).toInt (M119.1 98 6).toInt (M170.1 98 11).toInt (M170.1 98 12).toInt (M170.1 98 6).toInt (by omega) (by omega) (by omega) (by omega) (by omega) (by omega) (by omega)
            have u173P := po_rr (sjP gf gn 0) gn gi (M0.1 98 11).toInt (M0.1 98 12).toInt (M0.1 98 6).toInt (M170.1 98 11).toInt (M170.1 98 12).toInt (M170.1 98 6).toInt (sj_g gf gn 0) (by omega) (by omega)
            refine j_lv [1, 2, 0] rfl ?_; exact J196 M170 (by omega) hM170 ((FR.rf.tr fM119 (by decide)).tr fM170 (by decide))
          · refine j_aload_n C 1 0 dX12_readUnit_130 rfl rfl ?_
            refine y_bipush C dX12_readUnit_131 rfl ?_
            have k174 := tkm_K (f := gf) (n := gn) (M := M119) (by omega)
            have k175 := kd_2 (kdk_41 gf gn (M119.1 98 6).toInt) (by omega)
            refine j_callVi C (d := 0) (As := [.int (sI 41)]) (st := []) 98 (s_lt rfl rfl) (s_kc (c := 11) rfl rfl) (by decide) rfl (s1_X12_is hM119 41 (by omega)) gX12_readUnit_X12_is rfl hdX12_is (by decide) (Nat.le_of_ble_eq_true rfl) dX12_readUnit_133 rfl (fun r176 M177 h178 => ?_)
            obtain ⟨a180, rfl, rfl, h179⟩ := h178
            refine y_if_eq C 146 dX12_readUnit_136 (by decide) (by omega) (fun h181 => ?_) (fun h181 => ?_)
            · refine j_aload_n C 1 0 dX12_readUnit_146 rfl rfl ?_
              refine y_iconst C dX12_readUnit_147 ?_
              refine j_callVv C (d := 0) (As := [.int (sI 2)]) (st := []) 98 (s_lt rfl rfl) (s_kc (c := 11) rfl rfl) (by decide) rfl (s1_X12_fails hM119 hpr 2 (by omega) gf gn ((suR gf gn 0) gi).2.2 (by omega) (by omega) (by omega) (by omega) (by omega)) gX12_readUnit_X12_fails rfl hdX12_fails (by decide) (Nat.le_of_ble_eq_true rfl) dX12_readUnit_148 rfl (fun M183 h184 => ?_)
              obtain ⟨hM183, fM183, h185⟩ := h184
              have bM183 := tkm_b (f := gf) (n := gn) (M := M183) (by omega)
              have qM183 := po_f gn ((faQ gf gn 2) ((suR gf gn 0) gi).2.2).2.2 (M183.1 98 11).toInt (M183.1 98 6).toInt (by omega)
              have u186f : b01 (XW M0 M183 0 1 1) = 1 := b01_i (Or.inl (by omega))
              have u186l := ri_l (M := M183) (by omega)
              have u186J := cj_2 gf gn 0 gi (M0.1 98 11).toInt (M0.1 98 12).toInt (M119.1 98 11).toInt (M119.1 98 12).toInt (M119.1 98 6).toInt (M183.1 98 11).toInt (M183.1 98 12).toInt (M183.1 98 6).toInt (by omega) (by omega) (by omega) (by omega)
              have u186P := po_rr (sjP gf gn 0) gn gi (M0.1 98 11).toInt (M0.1 98 12).toInt (M0.1 98 6).toInt (M183.1 98 11).toInt (M183.1 98 12).toInt (M183.1 98 6).toInt (sj_g gf gn 0) (by omega) (by omega)
              refine j_lv [1, 2, 0] rfl ?_; exact J196 M183 (by omega) hM183 ((FR.rf.tr fM119 (by decide)).tr fM183 (by decide))
            · have u187k := ri_k (M := M119) (by omega) (by omega)
              refine j_aload_n C 1 0 dX12_readUnit_139 rfl rfl ?_
              have k188 := tkm_p (f := gf) (n := gn) (M := M119) (by omega)
              have k189 := tkm_K (f := gf) (n := gn) (M := M119) (by omega)
              refine j_callVv C (d := 5) (As := []) (st := []) 98 (s_lt rfl rfl) (s_kc (c := 11) rfl rfl) (by decide) rfl (s1_X12_next hM119 hpr gf gn (by omega) (by omega) (by omega) (by omega)) gX12_readUnit_X12_next rfl hdX12_next (by decide) (Nat.le_of_ble_eq_true rfl) dX12_readUnit_140 rfl (fun M191 h192 => ?_)
              obtain ⟨hM191, fM191, h193⟩ := h192
              have bM191 := tkm_b (f := gf) (n := gn) (M := M191) (by omega)
              have qM191 := nx_po (f := gf) (n := gn) (i := ((suR gf gn 0) gi).2.2) (M := M119) (M' := M191) (by omega) (by omega) (by omega) (by omega) (by omega)
              refine j_goto C 151 dX12_readUnit_143 (by decide) ?_
              have u194c := xw_c (N := M119) (P := M191) 1 (FR.cell fM191 (by decide)) (by omega)
              have u194t := xw_t (M := M0) (N := M119) (P := M191) (r1 := 0) (e1 := 1) (s1 := 0) (r2 := 0) (e2 := 0) (s2 := 1) 0 1 1 (by decide) (by omega) (by omega)
              have u194l := ri_l (M := M191) (by omega)
              have u194J := cj_1 gf gn 0 gi (M0.1 98 11).toInt (M0.1 98 12).toInt (M119.1 98 11).toInt (M119.1 98 12).toInt (M119.1 98 6).toInt (M191.1 98 11).toInt (M191.1 98 12).toInt (M191.1 98 6).toInt (by omega) (by omega) (by omega) (by omega) (by omega) (by omega) (by omega)
              have u194P := po_rr (sjP gf gn 0) gn gi (M0.1 98 11).toInt (M0.1 98 12).toInt (M0.1 98 6).toInt (M191.1 98 11).toInt (M191.1 98 12).toInt (M191.1 98 6).toInt (sj_g gf gn 0) (by omega) (by omega)
              refine j_lv [1, 2, 0] rfl ?_; exact J196 M191 (by omega) hM191 ((FR.rf.tr fM119 (by decide)).tr fM191 (by decide))
      refine y_if_eq C 93 dX12_readUnit_84 (by decide) (by omega) (fun h130 => ?_) (fun h130 => ?_)
      · refine j_aload_n C 0 0 dX12_readUnit_93 rfl rfl ?_
        refine y_bipush C dX12_readUnit_94 rfl ?_
        have k131 := tkm_K (f := gf) (n := gn) (M := M119) (by omega)
        have k132 := kd_2 (kdk_40 gf gn (M119.1 98 6).toInt) (by omega)
        refine j_callVi C (d := 0) (As := [.int (sI 40)]) (st := []) 98 (s_lt rfl rfl) (s_kc (c := 11) rfl rfl) (by decide) rfl (s1_X12_is hM119 40 (by omega)) gX12_readUnit_X12_is rfl hdX12_is (by decide) (Nat.le_of_ble_eq_true rfl) dX12_readUnit_96 rfl (fun r133 M134 h135 => ?_)
        obtain ⟨a137, rfl, rfl, h136⟩ := h135
        refine y_if_eq C 108 dX12_readUnit_99 (by decide) (by omega) (fun h138 => ?_) (fun h138 => ?_)
        · refine y_sipush C dX12_readUnit_108 rfl ?_
          exact J140 3005 (by omega)
        · refine y_sipush C dX12_readUnit_102 rfl ?_
          refine j_goto C 111 dX12_readUnit_105 (by decide) ?_
          exact J140 3004 (by omega)
      · refine y_sipush C dX12_readUnit_87 rfl ?_
        refine j_goto C 111 dX12_readUnit_90 (by decide) ?_
        exact J140 3003 (by omega)
    · have u211k := ri_k (M := M0) (by omega) (by omega)
      refine j_aload_n C 0 0 dX12_readUnit_42 rfl rfl ?_
      refine j_iload_n C 1 1 dX12_readUnit_43 rfl rfl ?_
      refine j_callVi C (d := 6) (As := [.int (sI 6)]) (st := []) 98 (s_lt rfl rfl) (s_kc (c := 11) rfl rfl) (by decide) rfl (s7_X12_goesIn hM0 hpr gf gn gi (by omega) (by omega) (by omega) (by omega) (by omega) (by omega) (by omega)) gX12_readUnit_X12_goesIn rfl hdX12_goesIn (by decide) (Nat.le_of_ble_eq_true rfl) dX12_readUnit_44 rfl (fun r212 M213 h214 => ?_)
      obtain ⟨a216, rfl, hM213, fM213, h215⟩ := h214
      have bM213 := tkm_b (f := gf) (n := gn) (M := M213) (by omega)
      refine y_if_ne C 51 dX12_readUnit_47 (by decide) (by omega) (fun h217 => ?_) (fun h217 => ?_)
      · exfalso; omega
      · have u218f : b01 (XW M0 M213 0 1 0) = 1 := b01_i (Or.inl (by omega))
        have u218a := ca_x (M := M0) (N := M213) (r := 0) (e := 1) (s := 0) (by decide) (by omega) (by omega)
        have u219r := un_3 gf gn gi (M0.1 98 11).toInt (M0.1 98 12).toInt (M0.1 98 6).toInt (M213.1 98 11).toInt (M213.1 98 12).toInt (M213.1 98 6).toInt (by omega) (by omega) (by omega) (by omega) (by omega)
        exact hret _ _ _ dX12_readUnit_50 ⟨hM213, (FR.rf.tr fM213 (by decide)), by omega⟩
  · have u220k := ri_k (M := M0) (by omega) (by omega)
    refine j_aload_n C 0 0 dX12_readUnit_9 rfl rfl ?_
    refine j_iload_n C 1 1 dX12_readUnit_10 rfl rfl ?_
    refine j_callVi C (d := 6) (As := [.int (sI 6)]) (st := []) 98 (s_lt rfl rfl) (s_kc (c := 11) rfl rfl) (by decide) rfl (s7_X12_goesIn hM0 hpr gf gn gi (by omega) (by omega) (by omega) (by omega) (by omega) (by omega) (by omega)) gX12_readUnit_X12_goesIn rfl hdX12_goesIn (by decide) (Nat.le_of_ble_eq_true rfl) dX12_readUnit_11 rfl (fun r221 M222 h223 => ?_)
    obtain ⟨a225, rfl, hM222, fM222, h224⟩ := h223
    have bM222 := tkm_b (f := gf) (n := gn) (M := M222) (by omega)
    refine y_if_ne C 18 dX12_readUnit_14 (by decide) (by omega) (fun h226 => ?_) (fun h226 => ?_)
    · exfalso; omega
    · have u227f : b01 (XW M0 M222 0 1 0) = 1 := b01_i (Or.inl (by omega))
      have u227a := ca_x (M := M0) (N := M222) (r := 0) (e := 1) (s := 0) (by decide) (by omega) (by omega)
      have u228r := un_3 gf gn gi (M0.1 98 11).toInt (M0.1 98 12).toInt (M0.1 98 6).toInt (M222.1 98 11).toInt (M222.1 98 12).toInt (M222.1 98 6).toInt (by omega) (by omega) (by omega) (by omega) (by omega)
      exact hret _ _ _ dX12_readUnit_17 ⟨hM222, (FR.rf.tr fM222 (by decide)), by omega⟩
set_option maxHeartbeats 4000000 in
theorem s1_X12_readBoth {l : Launch} {dC : Nat → ClassId} {dI : Nat → Nat → Nat} {ad : Nat → Nat} {cA : Nat → ClassId} {pr : Nat → Nat → Bool} {Kz : mm_M} {M0 : mm_M} (hM0 : INV pr Kz M0) (hpr : PM pr) (gf : Nat → Int) (gn : Int) (gi : Int) (hp0 : b01 (RIP M0) = 1) (hp1 : b01 (CA M0) = 1) (hp2 : b01 (TKM gf gn M0) = 1) (hp3 : b01 (PO gn gi (M0.1 98 11).toInt (M0.1 98 6).toInt) = 1) (hp4 : b01 (PI M0) = 1) : Cv l 11 yX12_readBoth wsX12_readBoth dC dI ad cA [.ref (ad 98), .int (sI 6)] M0 (fun M' => INV pr Kz M' ∧ FR [98, 102] M0 M' ∧ (b01 (RIP M') = 1) ∧ ((M'.1 98 8).toInt = (M0.1 98 8).toInt) ∧ ((M0.1 98 6).toInt ≤ (M'.1 98 6).toInt) ∧ (b01 (XW M0 M' 0 1 0) = 1) ∧ (b01 (CA M') = 1) ∧ (b01 (PI M') = 1) ∧ (b01 (TKM gf gn M') = 1) ∧ b01 (RR ((boP gf gn (unR gf gn 0)) gi) (M0.1 98 11).toInt (M0.1 98 12).toInt (M'.1 98 11).toInt (M'.1 98 12).toInt (M'.1 98 6).toInt) = 1) := by
  refine cv_of (cc := cX12_readBoth) (maxL := 2) (lv := [(0, .ref (ad 98)), (1, .int (sI 6))]) (by decide) rfl (Nat.le_of_ble_eq_true rfl) rfl ?_
  intro p e s m args below meth c A Q C hret
  have u101z := xw_0 M0
  have u101l := ri_l (M := M0) (by omega)
  refine j_aload_n C 0 0 dX12_readBoth_0 rfl rfl ?_
  refine j_iload_n C 1 1 dX12_readBoth_1 rfl rfl ?_
  refine j_callVv C (d := 10) (As := [.int (sI 6)]) (st := []) 98 (s_lt rfl rfl) (s_kc (c := 11) rfl rfl) (by decide) rfl (s1_X12_readUnit hM0 hpr gf gn gi (by omega) (by omega) (by omega) (by omega) (by omega)) gX12_readBoth_X12_readUnit rfl hdX12_readUnit (by decide) (Nat.le_of_ble_eq_true rfl) dX12_readBoth_2 rfl (fun M103 h104 => ?_)
  obtain ⟨hM103, fM103, h105⟩ := h104
  have bM103 := tkm_b (f := gf) (n := gn) (M := M103) (by omega)
  have qM103 := po_rr (unR gf gn 0) gn gi (M0.1 98 11).toInt (M0.1 98 12).toInt (M0.1 98 6).toInt (M103.1 98 11).toInt (M103.1 98 12).toInt (M103.1 98 6).toInt (unR_g gf gn 0) (by omega) (by omega)
  have u106l := ri_l (M := M103) (by omega)
  have u106L := ll_0 (luP gf gn 1015 1015 (unR gf gn 0)) gn ((unR gf gn 0) gi).2.2 (M103.1 98 11).toInt (M103.1 98 12).toInt (M103.1 98 6).toInt (by omega)
  have L132 : ∀ (n130 : Nat), ∀ (M133 : mm_M) (gq134 : Int), ((b01 (RIP M133) = 1) ∧ ((M133.1 98 8).toInt = (M0.1 98 8).toInt) ∧ ((M0.1 98 6).toInt ≤ (M133.1 98 6).toInt) ∧ (b01 (XW M0 M133 0 1 0) = 1) ∧ ((M133.1 98 6).toInt ≤ 900) ∧ (b01 (LL (luP gf gn 1015 1015 (unR gf gn 0)) gn ((unR gf gn 0) gi).2.2 gq134 0 (M103.1 98 11).toInt (M103.1 98 12).toInt (M133.1 98 11).toInt (M133.1 98 12).toInt (M133.1 98 6).toInt) = 1) ∧ (b01 (TKM gf gn M133) = 1) ∧ (b01 (PO gn gq134 (M133.1 98 11).toInt (M133.1 98 6).toInt) = 1) ∧ (b01 (PI M133) = 1) ∧ (900 - (M133.1 98 6).toInt) < (n130 : Int)) → INV pr Kz M133 → FR [98, 102] M0 M133 → jj p l e (cn_R 11) s m args below meth c 0 0 Q 2 dC dI ad cA A M133 5 [(0, .ref (ad 98)), (1, .int (sI 6))] [] := by
    intro n130
    induction n130 with
    | zero =>
      intro M133 gq134 h135 hM133 fM133
      exfalso; omega
    | succ n130 ih131 =>
      intro M133 gq134 h135 hM133 fM133
      have u136l := ri_l (M := M133) (by omega)
      have u136B := tkm_b (f := gf) (n := gn) (M := M133) (by omega)
      refine j_aload_n C 0 0 dX12_readBoth_5 rfl rfl ?_
      refine y_bipush C dX12_readBoth_6 rfl ?_
      have k137 := tkm_K (f := gf) (n := gn) (M := M133) (by omega)
      have k138 := kd_2 (kdk_14 gf gn (M133.1 98 6).toInt) (by omega)
      refine j_callVi C (d := 6) (As := [.int (sI 14)]) (st := []) 98 (s_lt rfl rfl) (s_kc (c := 11) rfl rfl) (by decide) rfl (s1_X12_eats hM133 hpr 14 (by omega) gf gn gq134 (by omega) (by omega) (by omega) (by omega) (by omega)) gX12_readBoth_X12_eats rfl hdX12_eats (by decide) (Nat.le_of_ble_eq_true rfl) dX12_readBoth_8 rfl (fun r139 M140 h141 => ?_)
      obtain ⟨a143, rfl, hM140, fM140, h142⟩ := h141
      have k144 := tk_c gf gn (M140.1 98 6).toInt (M133.1 98 6).toInt
      have bM140 := tkm_b (f := gf) (n := gn) (M := M140) (by omega)
      refine y_if_eq C 29 dX12_readBoth_11 (by decide) (by omega) (fun h145 => ?_) (fun h145 => ?_)
      · have u157c := xw_c (N := M133) (P := M140) 0 (FR.cell fM140 (by decide)) (by omega)
        have u157t := xw_t (M := M0) (N := M133) (P := M140) (r1 := 0) (e1 := 1) (s1 := 0) (r2 := 0) (e2 := 0) (s2 := 0) 0 1 0 (by decide) (by omega) (by omega)
        have u157a := ca_x (M := M0) (N := M140) (r := 0) (e := 1) (s := 0) (by decide) (by omega) (by omega)
        have u157E := ll_e gf gn 1015 1015 (unR gf gn 0) ((unR gf gn 0) gi).2.2 gq134 0 (M103.1 98 11).toInt (M103.1 98 12).toInt (M133.1 98 11).toInt (M133.1 98 12).toInt (M133.1 98 6).toInt (by decide) (unR_g gf gn 0) (by omega) (by omega)
        have u157S : b01 (RR ((boP gf gn (unR gf gn 0)) gi) (M0.1 98 11).toInt (M0.1 98 12).toInt (M133.1 98 11).toInt (M133.1 98 12).toInt (M133.1 98 6).toInt) = 1 := rr_sq ((unR gf gn 0) gi) (luP gf gn 1015 1015 (unR gf gn 0)) (M0.1 98 11).toInt (M0.1 98 12).toInt (M103.1 98 11).toInt (M103.1 98 12).toInt (M103.1 98 6).toInt (M133.1 98 11).toInt (M133.1 98 12).toInt (M133.1 98 6).toInt (by omega) (by omega)
        have u157R := rr_eq ((boP gf gn (unR gf gn 0)) gi) (M0.1 98 11).toInt (M0.1 98 12).toInt (M133.1 98 11).toInt (M133.1 98 12).toInt (M133.1 98 6).toInt (M140.1 98 11).toInt (M140.1 98 12).toInt (M140.1 98 6).toInt (by omega) (by omega) (by omega) (by omega)
        exact hret _ _ _ dX12_readBoth_29 ⟨hM140, ((FR.rf.tr fM133 (by decide)).tr fM140 (by decide)), by omega⟩
      · have u146c := xw_c (N := M133) (P := M140) 1 (FR.cell fM140 (by decide)) (by omega)
        have u146t := xw_t (M := M0) (N := M133) (P := M140) (r1 := 0) (e1 := 1) (s1 := 0) (r2 := 0) (e2 := 0) (s2 := 1) 0 1 1 (by decide) (by omega) (by omega)
        have u146a := ca_x (M := M0) (N := M140) (r := 0) (e := 1) (s := 1) (by decide) (by omega) (by omega)
        have u146l := ri_l (M := M140) (by omega)
        refine j_aload_n C 0 0 dX12_readBoth_14 rfl rfl ?_
        refine j_iload_n C 1 1 dX12_readBoth_15 rfl rfl ?_
        refine j_callVv C (d := 10) (As := [.int (sI 6)]) (st := []) 98 (s_lt rfl rfl) (s_kc (c := 11) rfl rfl) (by decide) rfl (s1_X12_readUnit hM140 hpr gf gn (nxF gf gn gq134) (by omega) (by omega) (by omega) (by omega) (by omega)) gX12_readBoth_X12_readUnit rfl hdX12_readUnit (by decide) (Nat.le_of_ble_eq_true rfl) dX12_readBoth_16 rfl (fun M148 h149 => ?_)
        obtain ⟨hM148, fM148, h150⟩ := h149
        have bM148 := tkm_b (f := gf) (n := gn) (M := M148) (by omega)
        have qM148 := po_rr (unR gf gn 0) gn (nxF gf gn gq134) (M140.1 98 11).toInt (M140.1 98 12).toInt (M140.1 98 6).toInt (M148.1 98 11).toInt (M148.1 98 12).toInt (M148.1 98 6).toInt (unR_g gf gn 0) (by omega) (by omega)
        have u151t := xw_t (M := M0) (N := M140) (P := M148) (r1 := 0) (e1 := 1) (s1 := 1) (r2 := 0) (e2 := 1) (s2 := 0) 0 2 1 (by decide) (by omega) (by omega)
        have u151l := ri_l (M := M148) (by omega)
        have u151b := cb_x (M := M0) (N := M148) (r := 0) (e := 2) (s := 1) (by decide) (by omega) (by omega) (by omega)
        refine j_aload_n C 0 0 dX12_readBoth_19 rfl rfl ?_
        refine y_sipush C dX12_readBoth_20 rfl ?_
        refine j_callVv C (d := 0) (As := [.int (sI 3007)]) (st := []) 98 (s_lt rfl rfl) (s_kc (c := 11) rfl rfl) (by decide) rfl (s1_X12_codes hM148 hpr 3007 (by omega) gf gn ((unR gf gn 0) (nxF gf gn gq134)).2.2 (by omega) (by omega) (by omega) (by omega)) gX12_readBoth_X12_codes rfl hdX12_codes (by decide) (Nat.le_of_ble_eq_true rfl) dX12_readBoth_23 rfl (fun M153 h154 => ?_)
        obtain ⟨hM153, fM153, h155⟩ := h154
        have bM153 := tkm_b (f := gf) (n := gn) (M := M153) (by omega)
        have qM153 := po_eq gn ((unR gf gn 0) (nxF gf gn gq134)).2.2 (M148.1 98 11).toInt (M148.1 98 6).toInt (M153.1 98 11).toInt (M153.1 98 6).toInt (by omega) (by omega) (by omega)
        refine j_goto C 5 dX12_readBoth_26 (by decide) ?_
        have u156x := xw_a (M := M148) (N := M153) (c := 3007) (r := 2) (e := (-1)) (FR.cell fM153 (by decide)) (ap_bin ⟨(INV.rd hM148 (i := 102) (c := 48) (k := 280) rfl rfl).1, by omega, by omega⟩) (by omega)
        have u156t := xw_t (M := M0) (N := M148) (P := M153) (r1 := 0) (e1 := 2) (s1 := 1) (r2 := 2) (e2 := (-1)) (s2 := (-1)) 0 1 0 (by decide) (by omega) (by omega)
        have u156i := ri_c (M := M148) (N := M153) (FR.cell fM153 (by decide)) (by omega)
        have u156l := ri_l (M := M153) (by omega)
        have u156L := ll_w (luP gf gn 1015 1015 (unR gf gn 0)) gn ((unR gf gn 0) gi).2.2 ((unR gf gn 0) (nxF gf gn gq134)).2.2 (0 + 1) 0 (M103.1 98 11).toInt (M103.1 98 12).toInt (M153.1 98 11).toInt (M153.1 98 12).toInt (M153.1 98 6).toInt (by decide) (ll_s gf gn 1015 1015 (unR gf gn 0) ((unR gf gn 0) gi).2.2 gq134 0 (M103.1 98 11).toInt (M103.1 98 12).toInt (M133.1 98 11).toInt (M133.1 98 12).toInt (M133.1 98 6).toInt (M140.1 98 11).toInt (M140.1 98 12).toInt (M148.1 98 11).toInt (M148.1 98 12).toInt (M148.1 98 6).toInt (M153.1 98 11).toInt (M153.1 98 12).toInt (M153.1 98 6).toInt (by decide) (unR_g gf gn 0) (by omega) (by omega) (by omega) (by omega) (by omega) (by omega) (by omega) (by omega) (by omega))
        have zz98_8 : (M153.1 98 8).toInt = (M148.1 98 8).toInt := s_fF fM153 (by decide) (rfl); have zz98_6 : (M153.1 98 6).toInt = (M148.1 98 6).toInt := s_fF fM153 (by decide) (rfl); have zz98_12 : (M153.1 98 12).toInt = (M148.1 98 12).toInt := s_fF fM153 (by decide) (rfl); have zz98_11 : (M153.1 98 11).toInt = (M148.1 98 11).toInt := s_fF fM153 (by decide) (rfl); exact ih131 M153 ((unR gf gn 0) (nxF gf gn gq134)).2.2 (by omega) hM153 ((((FR.rf.tr fM133 (by decide)).tr fM140 (by decide)).tr fM148 (by decide)).tr fM153 (by decide))
  exact L132 2010 M103 ((unR gf gn 0) gi).2.2 (by omega) hM103 (FR.rf.tr fM103 (by decide))
set_option maxHeartbeats 4000000 in
theorem s1_X12_readTruth {l : Launch} {dC : Nat → ClassId} {dI : Nat → Nat → Nat} {ad : Nat → Nat} {cA : Nat → ClassId} {pr : Nat → Nat → Bool} {Kz : mm_M} {M0 : mm_M} (hM0 : INV pr Kz M0) (hpr : PM pr) (gf : Nat → Int) (gn : Int) (gi : Int) (hp0 : b01 (RIP M0) = 1) (hp1 : b01 (CA M0) = 1) (hp2 : b01 (TKM gf gn M0) = 1) (hp3 : b01 (PO gn gi (M0.1 98 11).toInt (M0.1 98 6).toInt) = 1) (hp4 : b01 (PI M0) = 1) : Cv l 12 yX12_readTruth wsX12_readTruth dC dI ad cA [.ref (ad 98), .int (sI 6)] M0 (fun M' => INV pr Kz M' ∧ FR [98, 102] M0 M' ∧ (b01 (RIP M') = 1) ∧ ((M'.1 98 8).toInt = (M0.1 98 8).toInt) ∧ ((M0.1 98 6).toInt ≤ (M'.1 98 6).toInt) ∧ (b01 (XW M0 M' 0 1 0) = 1) ∧ (b01 (CA M') = 1) ∧ (b01 (PI M') = 1) ∧ (b01 (TKM gf gn M') = 1) ∧ b01 (RR ((trP gf gn (unR gf gn 0)) gi) (M0.1 98 11).toInt (M0.1 98 12).toInt (M'.1 98 11).toInt (M'.1 98 12).toInt (M'.1 98 6).toInt) = 1) := by
  refine cv_of (cc := cX12_readTruth) (maxL := 2) (lv := [(0, .ref (ad 98)), (1, .int (sI 6))]) (by decide) rfl (Nat.le_of_ble_eq_true rfl) rfl ?_
  intro p e s m args below meth c A Q C hret
  have u101z := xw_0 M0
  have u101l := ri_l (M := M0) (by omega)
  refine j_aload_n C 0 0 dX12_readTruth_0 rfl rfl ?_
  refine j_iload_n C 1 1 dX12_readTruth_1 rfl rfl ?_
  refine j_callVv C (d := 11) (As := [.int (sI 6)]) (st := []) 98 (s_lt rfl rfl) (s_kc (c := 11) rfl rfl) (by decide) rfl (s1_X12_readBoth hM0 hpr gf gn gi (by omega) (by omega) (by omega) (by omega) (by omega)) gX12_readTruth_X12_readBoth rfl hdX12_readBoth (by decide) (Nat.le_of_ble_eq_true rfl) dX12_readTruth_2 rfl (fun M103 h104 => ?_)
  obtain ⟨hM103, fM103, h105⟩ := h104
  have bM103 := tkm_b (f := gf) (n := gn) (M := M103) (by omega)
  have qM103 := po_rr (boP gf gn (unR gf gn 0)) gn gi (M0.1 98 11).toInt (M0.1 98 12).toInt (M0.1 98 6).toInt (M103.1 98 11).toInt (M103.1 98 12).toInt (M103.1 98 6).toInt (bo_g gf gn (unR_g gf gn 0)) (by omega) (by omega)
  have u106l := ri_l (M := M103) (by omega)
  have u106L := ll_0 (luP gf gn 1014 1014 (boP gf gn (unR gf gn 0))) gn ((boP gf gn (unR gf gn 0)) gi).2.2 (M103.1 98 11).toInt (M103.1 98 12).toInt (M103.1 98 6).toInt (by omega)
  have L132 : ∀ (n130 : Nat), ∀ (M133 : mm_M) (gq134 : Int), ((b01 (RIP M133) = 1) ∧ ((M133.1 98 8).toInt = (M0.1 98 8).toInt) ∧ ((M0.1 98 6).toInt ≤ (M133.1 98 6).toInt) ∧ (b01 (XW M0 M133 0 1 0) = 1) ∧ ((M133.1 98 6).toInt ≤ 900) ∧ (b01 (LL (luP gf gn 1014 1014 (boP gf gn (unR gf gn 0))) gn ((boP gf gn (unR gf gn 0)) gi).2.2 gq134 0 (M103.1 98 11).toInt (M103.1 98 12).toInt (M133.1 98 11).toInt (M133.1 98 12).toInt (M133.1 98 6).toInt) = 1) ∧ (b01 (TKM gf gn M133) = 1) ∧ (b01 (PO gn gq134 (M133.1 98 11).toInt (M133.1 98 6).toInt) = 1) ∧ (b01 (PI M133) = 1) ∧ (900 - (M133.1 98 6).toInt) < (n130 : Int)) → INV pr Kz M133 → FR [98, 102] M0 M133 → jj p l e (cn_R 12) s m args below meth c 0 0 Q 2 dC dI ad cA A M133 5 [(0, .ref (ad 98)), (1, .int (sI 6))] [] := by
    intro n130
    induction n130 with
    | zero =>
      intro M133 gq134 h135 hM133 fM133
      exfalso; omega
    | succ n130 ih131 =>
      intro M133 gq134 h135 hM133 fM133
      have u136l := ri_l (M := M133) (by omega)
      have u136B := tkm_b (f := gf) (n := gn) (M := M133) (by omega)
      refine j_aload_n C 0 0 dX12_readTruth_5 rfl rfl ?_
      refine y_bipush C dX12_readTruth_6 rfl ?_
      have k137 := tkm_K (f := gf) (n := gn) (M := M133) (by omega)
      have k138 := kd_2 (kdk_15 gf gn (M133.1 98 6).toInt) (by omega)
      refine j_callVi C (d := 6) (As := [.int (sI 15)]) (st := []) 98 (s_lt rfl rfl) (s_kc (c := 11) rfl rfl) (by decide) rfl (s1_X12_eats hM133 hpr 15 (by omega) gf gn gq134 (by omega) (by omega) (by omega) (by omega) (by omega)) gX12_readTruth_X12_eats rfl hdX12_eats (by decide) (Nat.le_of_ble_eq_true rfl) dX12_readTruth_8 rfl (fun r139 M140 h141 => ?_)
      obtain ⟨a143, rfl, hM140, fM140, h142⟩ := h141
      have k144 := tk_c gf gn (M140.1 98 6).toInt (M133.1 98 6).toInt
      have bM140 := tkm_b (f := gf) (n := gn) (M := M140) (by omega)
      refine y_if_eq C 29 dX12_readTruth_11 (by decide) (by omega) (fun h145 => ?_) (fun h145 => ?_)
      · have u157c := xw_c (N := M133) (P := M140) 0 (FR.cell fM140 (by decide)) (by omega)
        have u157t := xw_t (M := M0) (N := M133) (P := M140) (r1 := 0) (e1 := 1) (s1 := 0) (r2 := 0) (e2 := 0) (s2 := 0) 0 1 0 (by decide) (by omega) (by omega)
        have u157a := ca_x (M := M0) (N := M140) (r := 0) (e := 1) (s := 0) (by decide) (by omega) (by omega)
        have u157E := ll_e gf gn 1014 1014 (boP gf gn (unR gf gn 0)) ((boP gf gn (unR gf gn 0)) gi).2.2 gq134 0 (M103.1 98 11).toInt (M103.1 98 12).toInt (M133.1 98 11).toInt (M133.1 98 12).toInt (M133.1 98 6).toInt (by decide) (bo_g gf gn (unR_g gf gn 0)) (by omega) (by omega)
        have u157S : b01 (RR ((trP gf gn (unR gf gn 0)) gi) (M0.1 98 11).toInt (M0.1 98 12).toInt (M133.1 98 11).toInt (M133.1 98 12).toInt (M133.1 98 6).toInt) = 1 := rr_sq ((boP gf gn (unR gf gn 0)) gi) (luP gf gn 1014 1014 (boP gf gn (unR gf gn 0))) (M0.1 98 11).toInt (M0.1 98 12).toInt (M103.1 98 11).toInt (M103.1 98 12).toInt (M103.1 98 6).toInt (M133.1 98 11).toInt (M133.1 98 12).toInt (M133.1 98 6).toInt (by omega) (by omega)
        have u157R := rr_eq ((trP gf gn (unR gf gn 0)) gi) (M0.1 98 11).toInt (M0.1 98 12).toInt (M133.1 98 11).toInt (M133.1 98 12).toInt (M133.1 98 6).toInt (M140.1 98 11).toInt (M140.1 98 12).toInt (M140.1 98 6).toInt (by omega) (by omega) (by omega) (by omega)
        exact hret _ _ _ dX12_readTruth_29 ⟨hM140, ((FR.rf.tr fM133 (by decide)).tr fM140 (by decide)), by omega⟩
      · have u146c := xw_c (N := M133) (P := M140) 1 (FR.cell fM140 (by decide)) (by omega)
        have u146t := xw_t (M := M0) (N := M133) (P := M140) (r1 := 0) (e1 := 1) (s1 := 0) (r2 := 0) (e2 := 0) (s2 := 1) 0 1 1 (by decide) (by omega) (by omega)
        have u146a := ca_x (M := M0) (N := M140) (r := 0) (e := 1) (s := 1) (by decide) (by omega) (by omega)
        have u146l := ri_l (M := M140) (by omega)
        refine j_aload_n C 0 0 dX12_readTruth_14 rfl rfl ?_
        refine j_iload_n C 1 1 dX12_readTruth_15 rfl rfl ?_
        refine j_callVv C (d := 11) (As := [.int (sI 6)]) (st := []) 98 (s_lt rfl rfl) (s_kc (c := 11) rfl rfl) (by decide) rfl (s1_X12_readBoth hM140 hpr gf gn (nxF gf gn gq134) (by omega) (by omega) (by omega) (by omega) (by omega)) gX12_readTruth_X12_readBoth rfl hdX12_readBoth (by decide) (Nat.le_of_ble_eq_true rfl) dX12_readTruth_16 rfl (fun M148 h149 => ?_)
        obtain ⟨hM148, fM148, h150⟩ := h149
        have bM148 := tkm_b (f := gf) (n := gn) (M := M148) (by omega)
        have qM148 := po_rr (boP gf gn (unR gf gn 0)) gn (nxF gf gn gq134) (M140.1 98 11).toInt (M140.1 98 12).toInt (M140.1 98 6).toInt (M148.1 98 11).toInt (M148.1 98 12).toInt (M148.1 98 6).toInt (bo_g gf gn (unR_g gf gn 0)) (by omega) (by omega)
        have u151t := xw_t (M := M0) (N := M140) (P := M148) (r1 := 0) (e1 := 1) (s1 := 1) (r2 := 0) (e2 := 1) (s2 := 0) 0 2 1 (by decide) (by omega) (by omega)
        have u151l := ri_l (M := M148) (by omega)
        have u151b := cb_x (M := M0) (N := M148) (r := 0) (e := 2) (s := 1) (by decide) (by omega) (by omega) (by omega)
        refine j_aload_n C 0 0 dX12_readTruth_19 rfl rfl ?_
        refine y_sipush C dX12_readTruth_20 rfl ?_
        refine j_callVv C (d := 0) (As := [.int (sI 3008)]) (st := []) 98 (s_lt rfl rfl) (s_kc (c := 11) rfl rfl) (by decide) rfl (s1_X12_codes hM148 hpr 3008 (by omega) gf gn ((boP gf gn (unR gf gn 0)) (nxF gf gn gq134)).2.2 (by omega) (by omega) (by omega) (by omega)) gX12_readTruth_X12_codes rfl hdX12_codes (by decide) (Nat.le_of_ble_eq_true rfl) dX12_readTruth_23 rfl (fun M153 h154 => ?_)
        obtain ⟨hM153, fM153, h155⟩ := h154
        have bM153 := tkm_b (f := gf) (n := gn) (M := M153) (by omega)
        have qM153 := po_eq gn ((boP gf gn (unR gf gn 0)) (nxF gf gn gq134)).2.2 (M148.1 98 11).toInt (M148.1 98 6).toInt (M153.1 98 11).toInt (M153.1 98 6).toInt (by omega) (by omega) (by omega)
        refine j_goto C 5 dX12_readTruth_26 (by decide) ?_
        have u156x := xw_a (M := M148) (N := M153) (c := 3008) (r := 2) (e := (-1)) (FR.cell fM153 (by decide)) (ap_bin ⟨(INV.rd hM148 (i := 102) (c := 48) (k := 280) rfl rfl).1, by omega, by omega⟩) (by omega)
        have u156t := xw_t (M := M0) (N := M148) (P := M153) (r1 := 0) (e1 := 2) (s1 := 1) (r2 := 2) (e2 := (-1)) (s2 := (-1)) 0 1 0 (by decide) (by omega) (by omega)
        have u156i := ri_c (M := M148) (N := M153) (FR.cell fM153 (by decide)) (by omega)
        have u156l := ri_l (M := M153) (by omega)
        have u156L := ll_w (luP gf gn 1014 1014 (boP gf gn (unR gf gn 0))) gn ((boP gf gn (unR gf gn 0)) gi).2.2 ((boP gf gn (unR gf gn 0)) (nxF gf gn gq134)).2.2 (0 + 1) 0 (M103.1 98 11).toInt (M103.1 98 12).toInt (M153.1 98 11).toInt (M153.1 98 12).toInt (M153.1 98 6).toInt (by decide) (ll_s gf gn 1014 1014 (boP gf gn (unR gf gn 0)) ((boP gf gn (unR gf gn 0)) gi).2.2 gq134 0 (M103.1 98 11).toInt (M103.1 98 12).toInt (M133.1 98 11).toInt (M133.1 98 12).toInt (M133.1 98 6).toInt (M140.1 98 11).toInt (M140.1 98 12).toInt (M148.1 98 11).toInt (M148.1 98 12).toInt (M148.1 98 6).toInt (M153.1 98 11).toInt (M153.1 98 12).toInt (M153.1 98 6).toInt (by decide) (bo_g gf gn (unR_g gf gn 0)) (by omega) (by omega) (by omega) (by omega) (by omega) (by omega) (by omega) (by omega) (by omega))
        have zz98_8 : (M153.1 98 8).toInt = (M148.1 98 8).toInt := s_fF fM153 (by decide) (rfl); have zz98_6 : (M153.1 98 6).toInt = (M148.1 98 6).toInt := s_fF fM153 (by decide) (rfl); have zz98_12 : (M153.1 98 12).toInt = (M148.1 98 12).toInt := s_fF fM153 (by decide) (rfl); have zz98_11 : (M153.1 98 11).toInt = (M148.1 98 11).toInt := s_fF fM153 (by decide) (rfl); exact ih131 M153 ((boP gf gn (unR gf gn 0)) (nxF gf gn gq134)).2.2 (by omega) hM153 ((((FR.rf.tr fM133 (by decide)).tr fM140 (by decide)).tr fM148 (by decide)).tr fM153 (by decide))
  exact L132 2010 M103 ((boP gf gn (unR gf gn 0)) gi).2.2 (by omega) hM103 (FR.rf.tr fM103 (by decide))
set_option maxHeartbeats 4000000 in
theorem s2_X12_readUnit {l : Launch} {dC : Nat → ClassId} {dI : Nat → Nat → Nat} {ad : Nat → Nat} {cA : Nat → ClassId} {pr : Nat → Nat → Bool} {Kz : mm_M} {M0 : mm_M} (hM0 : INV pr Kz M0) (hpr : PM pr) (gf : Nat → Int) (gn : Int) (gi : Int) (hp0 : b01 (RIP M0) = 1) (hp1 : b01 (CA M0) = 1) (hp2 : b01 (TKM gf gn M0) = 1) (hp3 : b01 (PO gn gi (M0.1 98 11).toInt (M0.1 98 6).toInt) = 1) (hp4 : b01 (PI M0) = 1) : Cv l 13 yX12_readUnit wsX12_readUnit dC dI ad cA [.ref (ad 98), .int (sI 5)] M0 (fun M' => INV pr Kz M' ∧ FR [98, 102] M0 M' ∧ (b01 (RIP M') = 1) ∧ ((M'.1 98 8).toInt = (M0.1 98 8).toInt) ∧ ((M0.1 98 6).toInt ≤ (M'.1 98 6).toInt) ∧ (b01 (XW M0 M' 0 1 0) = 1) ∧ (b01 (CA M') = 1) ∧ (b01 (PI M') = 1) ∧ (b01 (TKM gf gn M') = 1) ∧ b01 (RR ((unR gf gn 1) gi) (M0.1 98 11).toInt (M0.1 98 12).toInt (M'.1 98 11).toInt (M'.1 98 12).toInt (M'.1 98 6).toInt) = 1) := by
  refine cv_of (cc := cX12_readUnit) (maxL := 3) (lv := [(0, .ref (ad 98)), (1, .int (sI 5))]) (by decide) rfl (Nat.le_of_ble_eq_true rfl) rfl ?_
  intro p e s m args below meth c A Q C hret
  have u101z := xw_0 M0
  have u101l := ri_l (M := M0) (by omega)
  refine j_aload_n C 0 0 dX12_readUnit_0 rfl rfl ?_
  refine y_bipush C dX12_readUnit_1 rfl ?_
  have k102 := tkm_K (f := gf) (n := gn) (M := M0) (by omega)
  have k103 := kd_2 (kdk_16 gf gn (M0.1 98 6).toInt) (by omega)
  refine j_callVi C (d := 0) (As := [.int (sI 16)]) (st := []) 98 (s_lt rfl rfl) (s_kc (c := 11) rfl rfl) (by decide) rfl (s1_X12_is hM0 16 (by omega)) gX12_readUnit_X12_is rfl hdX12_is (by decide) (Nat.le_of_ble_eq_true rfl) dX12_readUnit_3 rfl (fun r104 M105 h106 => ?_)
  obtain ⟨a108, rfl, rfl, h107⟩ := h106
  refine y_if_eq C 33 dX12_readUnit_6 (by decide) (by omega) (fun h109 => ?_) (fun h109 => ?_)
  · refine j_aload_n C 0 0 dX12_readUnit_33 rfl rfl ?_
    refine y_bipush C dX12_readUnit_34 rfl ?_
    have k110 := tkm_K (f := gf) (n := gn) (M := M0) (by omega)
    have k111 := kd_2 (kdk_37 gf gn (M0.1 98 6).toInt) (by omega)
    refine j_callVi C (d := 0) (As := [.int (sI 37)]) (st := []) 98 (s_lt rfl rfl) (s_kc (c := 11) rfl rfl) (by decide) rfl (s1_X12_is hM0 37 (by omega)) gX12_readUnit_X12_is rfl hdX12_is (by decide) (Nat.le_of_ble_eq_true rfl) dX12_readUnit_36 rfl (fun r112 M113 h114 => ?_)
    obtain ⟨a116, rfl, rfl, h115⟩ := h114
    refine y_if_eq C 73 dX12_readUnit_39 (by decide) (by omega) (fun h117 => ?_) (fun h117 => ?_)
    · refine j_aload_n C 0 0 dX12_readUnit_73 rfl rfl ?_
      refine j_iload_n C 1 1 dX12_readUnit_74 rfl rfl ?_
      refine j_callVv C (d := 12) (As := [.int (sI 5)]) (st := []) 98 (s_lt rfl rfl) (s_kc (c := 11) rfl rfl) (by decide) rfl (s2_X12_readSum hM0 hpr gf gn gi (by omega) (by omega) (by omega) (by omega) (by omega)) gX12_readUnit_X12_readSum rfl hdX12_readSum (by decide) (Nat.le_of_ble_eq_true rfl) dX12_readUnit_75 rfl (fun M119 h120 => ?_)
      obtain ⟨hM119, fM119, h121⟩ := h120
      have bM119 := tkm_b (f := gf) (n := gn) (M := M119) (by omega)
      have qM119 := po_rr (suR gf gn 1) gn gi (M0.1 98 11).toInt (M0.1 98 12).toInt (M0.1 98 6).toInt (M119.1 98 11).toInt (M119.1 98 12).toInt (M119.1 98 6).toInt (suR_g gf gn 1) (by omega) (by omega)
      have u122l := ri_l (M := M119) (by omega)
      refine j_aload_n C 0 0 dX12_readUnit_78 rfl rfl ?_
      refine y_bipush C dX12_readUnit_79 rfl ?_
      have k123 := tkm_K (f := gf) (n := gn) (M := M119) (by omega)
      have k124 := kd_2 (kdk_39 gf gn (M119.1 98 6).toInt) (by omega)
      refine j_callVi C (d := 0) (As := [.int (sI 39)]) (st := []) 98 (s_lt rfl rfl) (s_kc (c := 11) rfl rfl) (by decide) rfl (s1_X12_is hM119 39 (by omega)) gX12_readUnit_X12_is rfl hdX12_is (by decide) (Nat.le_of_ble_eq_true rfl) dX12_readUnit_81 rfl (fun r125 M126 h127 => ?_)
      obtain ⟨a129, rfl, rfl, h128⟩ := h127
      have J140 : ∀ (a139 : Int), (3003 ≤ a139 ∧ a139 ≤ 3005) → jj p l e (cn_R 13) s m args below meth c 0 0 Q 3 dC dI ad cA A M119 111 [(0, .ref (ad 98)), (1, .int (sI 5))] [.int (sI a139)] := by
        intro a139 h141
        refine j_istore_n C 2 [(2, .int (sI a139)), (0, .ref (ad 98)), (1, .int (sI 5))] dX12_readUnit_111 rfl (by decide) rfl ?_
        refine j_aload_n C 1 0 dX12_readUnit_112 rfl rfl ?_
        refine y_bipush C dX12_readUnit_113 rfl ?_
        have k142 := tkm_K (f := gf) (n := gn) (M := M119) (by omega)
        have k143 := kd_2 (kdk_39 gf gn (M119.1 98 6).toInt) (by omega)
        refine j_callVi C (d := 0) (As := [.int (sI 39)]) (st := []) 98 (s_lt rfl rfl) (s_kc (c := 11) rfl rfl) (by decide) rfl (s1_X12_is hM119 39 (by omega)) gX12_readUnit_X12_is rfl hdX12_is (by decide) (Nat.le_of_ble_eq_true rfl) dX12_readUnit_115 rfl (fun r144 M145 h146 => ?_)
        obtain ⟨a148, rfl, rfl, h147⟩ := h146
        have J196 : ∀ (M195 : mm_M), ((b01 (RIP M195) = 1) ∧ ((M195.1 98 8).toInt = (M0.1 98 8).toInt) ∧ ((M0.1 98 6).toInt ≤ (M195.1 98 6).toInt) ∧ (b01 (XW M0 M195 0 1 1) = 1) ∧ (b01 (RR ((sjP gf gn 1) gi) (M0.1 98 11).toInt (M0.1 98 12).toInt (M195.1 98 11).toInt (M195.1 98 12).toInt (M195.1 98 6).toInt) = 1) ∧ (b01 (TKM gf gn M195) = 1) ∧ (b01 (PO gn ((sjP gf gn 1) gi).2.2 (M195.1 98 11).toInt (M195.1 98 6).toInt) = 1) ∧ (b01 (PI M195) = 1)) → INV pr Kz M195 → FR [98, 102] M0 M195 → jj p l e (cn_R 13) s m args below meth c 0 0 Q 3 dC dI ad cA A M195 151 [(0, .ref (ad 98)), (1, .int (sI 5)), (2, .int (sI a139))] [] := by
          intro M195 h197 hM195 fM195
          have u199a := ca_x (M := M0) (N := M195) (r := 0) (e := 1) (s := 1) (by decide) (by omega) (by omega)
          have u199l := ri_l (M := M195) (by omega)
          refine j_aload_n C 0 0 dX12_readUnit_151 rfl rfl ?_
          refine j_iload_n C 1 1 dX12_readUnit_152 rfl rfl ?_
          refine j_callVv C (d := 12) (As := [.int (sI 5)]) (st := []) 98 (s_lt rfl rfl) (s_kc (c := 11) rfl rfl) (by decide) rfl (s2_X12_readSum hM195 hpr gf gn ((sjP gf gn 1) gi).2.2 (by omega) (by omega) (by omega) (by omega) (by omega)) gX12_readUnit_X12_readSum rfl hdX12_readSum (by decide) (Nat.le_of_ble_eq_true rfl) dX12_readUnit_153 rfl (fun M201 h202 => ?_)
          obtain ⟨hM201, fM201, h203⟩ := h202
          have bM201 := tkm_b (f := gf) (n := gn) (M := M201) (by omega)
          have qM201 := po_rr (suR gf gn 1) gn ((sjP gf gn 1) gi).2.2 (M195.1 98 11).toInt (M195.1 98 12).toInt (M195.1 98 6).toInt (M201.1 98 11).toInt (M201.1 98 12).toInt (M201.1 98 6).toInt (suR_g gf gn 1) (by omega) (by omega)
          have u204t := xw_t (M := M0) (N := M195) (P := M201) (r1 := 0) (e1 := 1) (s1 := 1) (r2 := 0) (e2 := 1) (s2 := 0) 0 2 1 (by decide) (by omega) (by omega)
          have u204l := ri_l (M := M201) (by omega)
          have u204b := cb_x (M := M0) (N := M201) (r := 0) (e := 2) (s := 1) (by decide) (by omega) (by omega) (by omega)
          refine j_aload_n C 0 0 dX12_readUnit_156 rfl rfl ?_
          refine j_iload_n C 2 2 dX12_readUnit_157 rfl rfl ?_
          refine j_callVv C (d := 0) (As := [.int (sI a139)]) (st := []) 98 (s_lt rfl rfl) (s_kc (c := 11) rfl rfl) (by decide) rfl (s1_X12_codes hM201 hpr a139 (by omega) gf gn ((suR gf gn 1) ((sjP gf gn 1) gi).2.2).2.2 (by omega) (by omega) (by omega) (by omega)) gX12_readUnit_X12_codes rfl hdX12_codes (by decide) (Nat.le_of_ble_eq_true rfl) dX12_readUnit_158 rfl (fun M206 h207 => ?_)
          obtain ⟨hM206, fM206, h208⟩ := h207
          have bM206 := tkm_b (f := gf) (n := gn) (M := M206) (by omega)
          have qM206 := po_eq gn ((suR gf gn 1) ((sjP gf gn 1) gi).2.2).2.2 (M201.1 98 11).toInt (M201.1 98 6).toInt (M206.1 98 11).toInt (M206.1 98 6).toInt (by omega) (by omega) (by omega)
          have u209x := xw_a (M := M201) (N := M206) (c := a139) (r := 2) (e := (-1)) (FR.cell fM206 (by decide)) (ap_bin ⟨(INV.rd hM201 (i := 102) (c := 48) (k := 280) rfl rfl).1, by omega, by omega⟩) (by omega)
          have u209t := xw_t (M := M0) (N := M201) (P := M206) (r1 := 0) (e1 := 2) (s1 := 1) (r2 := 2) (e2 := (-1)) (s2 := (-1)) 0 1 0 (by decide) (by omega) (by omega)
          have u209i := ri_c (M := M201) (N := M206) (FR.cell fM206 (by decide)) (by omega)
          have u209l := ri_l (M := M206) (by omega)
          have u209a := ca_x (M := M0) (N := M206) (r := 0) (e := 1) (s := 0) (by decide) (by omega) (by omega)
          have u210r := un_6 gf gn 1 gi (M0.1 98 11).toInt (M0.1 98 12).toInt (M0.1 98 6).toInt (M195.1 98 11).toInt (M195.1 98 12).toInt (M195.1 98 6).toInt (M201.1 98 11).toInt (M201.1 98 12).toInt (M201.1 98 6).toInt (M206.1 98 11).toInt (M206.1 98 12).toInt (M206.1 98 6).toInt (by omega) (by omega) (by omega) (by omega) (by omega) (by omega) (by omega)
          have zz98_11 : (M206.1 98 11).toInt = (M201.1 98 11).toInt := s_fF fM206 (by decide) (rfl); have zz98_12 : (M206.1 98 12).toInt = (M201.1 98 12).toInt := s_fF fM206 (by decide) (rfl); have zz98_6 : (M206.1 98 6).toInt = (M201.1 98 6).toInt := s_fF fM206 (by decide) (rfl); have zz98_8 : (M206.1 98 8).toInt = (M201.1 98 8).toInt := s_fF fM206 (by decide) (rfl); exact hret _ _ _ dX12_readUnit_161 ⟨hM206, (((FR.rf.tr fM195 (by decide)).tr fM201 (by decide)).tr fM206 (by decide)), by omega⟩
        refine y_if_ne C 139 dX12_readUnit_118 (by decide) (by omega) (fun h149 => ?_) (fun h149 => ?_)
        · have u150k := ri_k (M := M119) (by omega) (by omega)
          refine j_aload_n C 1 0 dX12_readUnit_139 rfl rfl ?_
          have k151 := tkm_p (f := gf) (n := gn) (M := M119) (by omega)
          have k152 := tkm_K (f := gf) (n := gn) (M := M119) (by omega)
          refine j_callVv C (d := 5) (As := []) (st := []) 98 (s_lt rfl rfl) (s_kc (c := 11) rfl rfl) (by decide) rfl (s1_X12_next hM119 hpr gf gn (by omega) (by omega) (by omega) (by omega)) gX12_readUnit_X12_next rfl hdX12_next (by decide) (Nat.le_of_ble_eq_true rfl) dX12_readUnit_140 rfl (fun M154 h155 => ?_)
          obtain ⟨hM154, fM154, h156⟩ := h155
          have bM154 := tkm_b (f := gf) (n := gn) (M := M154) (by omega)
          have qM154 := nx_po (f := gf) (n := gn) (i := ((suR gf gn 1) gi).2.2) (M := M119) (M' := M154) (by omega) (by omega) (by omega) (by omega) (by omega)
          refine j_goto C 151 dX12_readUnit_143 (by decide) ?_
          have u157c := xw_c (N := M119) (P := M154) 1 (FR.cell fM154 (by decide)) (by omega)
          have u157t := xw_t (M := M0) (N := M119) (P := M154) (r1 := 0) (e1 := 1) (s1 := 0) (r2 := 0) (e2 := 0) (s2 := 1) 0 1 1 (by decide) (by omega) (by omega)
          have u157l := ri_l (M := M154) (by omega)
          have u157J := cj_1 gf gn 1 gi (M0.1 98 11).toInt (M0.1 98 12).toInt (M119.1 98 11).toInt (M119.1 98 12).toInt (M119.1 98 6).toInt (M154.1 98 11).toInt (M154.1 98 12).toInt (M154.1 98 6).toInt (by omega) (by omega) (by omega) (by omega) (by omega) (by omega) (by omega)
          have u157P := po_rr (sjP gf gn 1) gn gi (M0.1 98 11).toInt (M0.1 98 12).toInt (M0.1 98 6).toInt (M154.1 98 11).toInt (M154.1 98 12).toInt (M154.1 98 6).toInt (sj_g gf gn 1) (by omega) (by omega)
          refine j_lv [1, 2, 0] rfl ?_; exact J196 M154 (by omega) hM154 ((FR.rf.tr fM119 (by decide)).tr fM154 (by decide))
        · refine j_aload_n C 1 0 dX12_readUnit_121 rfl rfl ?_
          refine y_bipush C dX12_readUnit_122 rfl ?_
          have k158 := tkm_K (f := gf) (n := gn) (M := M119) (by omega)
          have k159 := kd_2 (kdk_40 gf gn (M119.1 98 6).toInt) (by omega)
          refine j_callVi C (d := 0) (As := [.int (sI 40)]) (st := []) 98 (s_lt rfl rfl) (s_kc (c := 11) rfl rfl) (by decide) rfl (s1_X12_is hM119 40 (by omega)) gX12_readUnit_X12_is rfl hdX12_is (by decide) (Nat.le_of_ble_eq_true rfl) dX12_readUnit_124 rfl (fun r160 M161 h162 => ?_)
          obtain ⟨a164, rfl, rfl, h163⟩ := h162
          refine y_if_ne C 139 dX12_readUnit_127 (by decide) (by omega) (fun h165 => ?_) (fun h165 => ?_)
          · have u166k := ri_k (M := M119) (by omega) (by omega)
            refine j_aload_n C 1 0 dX12_readUnit_139 rfl rfl ?_
            have k167 := tkm_p (f := gf) (n := gn) (M := M119) (by omega)
            have k168 := tkm_K (f := gf) (n := gn) (M := M119) (by omega)
            refine j_callVv C (d := 5) (As := []) (st := []) 98 (s_lt rfl rfl) (s_kc (c := 11) rfl rfl) (by decide) rfl (s1_X12_next hM119 hpr gf gn (by omega) (by omega) (by omega) (by omega)) gX12_readUnit_X12_next rfl hdX12_next (by decide) (Nat.le_of_ble_eq_true rfl) dX12_readUnit_140 rfl (fun M170 h171 => ?_)
            obtain ⟨hM170, fM170, h172⟩ := h171
            have bM170 := tkm_b (f := gf) (n := gn) (M := M170) (by omega)
            have qM170 := nx_po (f := gf) (n := gn) (i := ((suR gf gn 1) gi).2.2) (M := M119) (M' := M170) (by omega) (by omega) (by omega) (by omega) (by omega)
            refine j_goto C 151 dX12_readUnit_143 (by decide) ?_
            have u173c := xw_c (N := M119) (P := M170) 1 (FR.cell fM170 (by decide)) (by omega)
            have u173t := xw_t (M := M0) (N := M119) (P := M170) (r1 := 0) (e1 := 1) (s1 := 0) (r2 := 0) (e2 := 0) (s2 := 1) 0 1 1 (by decide) (by omega) (by omega)
            have u173l := ri_l (M := M170) (by omega)
            have u173J := cj_1 gf gn 1 gi (M0.1 98 11).toInt (M0.1 98 12).toInt (M119.1 98 11).toInt (M119.1 98 12).toInt (M119.1 98 6).toInt (M170.1 98 11).toInt (M170.1 98 12).toInt (M170.1 98 6).toInt (by omega) (by omega) (by omega) (by omega) (by omega) (by omega) (by omega)
            have u173P := po_rr (sjP gf gn 1) gn gi (M0.1 98 11).toInt (M0.1 98 12).toInt (M0.1 98 6).toInt (M170.1 98 11).toInt (M170.1 98 12).toInt (M170.1 98 6).toInt (sj_g gf gn 1) (by omega) (by omega)
            refine j_lv [1, 2, 0] rfl ?_; exact J196 M170 (by omega) hM170 ((FR.rf.tr fM119 (by decide)).tr fM170 (by decide))
          · refine j_aload_n C 1 0 dX12_readUnit_130 rfl rfl ?_
            refine y_bipush C dX12_readUnit_131 rfl ?_
            have k174 := tkm_K (f := gf) (n := gn) (M := M119) (by omega)
            have k175 := kd_2 (kdk_41 gf gn (M119.1 98 6).toInt) (by omega)
            refine j_callVi C (d := 0) (As := [.int (sI 41)]) (st := []) 98 (s_lt rfl rfl) (s_kc (c := 11) rfl rfl) (by decide) rfl (s1_X12_is hM119 41 (by omega)) gX12_readUnit_X12_is rfl hdX12_is (by decide) (Nat.le_of_ble_eq_true rfl) dX12_readUnit_133 rfl (fun r176 M177 h178 => ?_)
            obtain ⟨a180, rfl, rfl, h179⟩ := h178
            refine y_if_eq C 146 dX12_readUnit_136 (by decide) (by omega) (fun h181 => ?_) (fun h181 => ?_)
            · refine j_aload_n C 1 0 dX12_readUnit_146 rfl rfl ?_
              refine y_iconst C dX12_readUnit_147 ?_
              refine j_callVv C (d := 0) (As := [.int (sI 2)]) (st := []) 98 (s_lt rfl rfl) (s_kc (c := 11) rfl rfl) (by decide) rfl (s1_X12_fails hM119 hpr 2 (by omega) gf gn ((suR gf gn 1) gi).2.2 (by omega) (by omega) (by omega) (by omega) (by omega)) gX12_readUnit_X12_fails rfl hdX12_fails (by decide) (Nat.le_of_ble_eq_true rfl) dX12_readUnit_148 rfl (fun M183 h184 => ?_)
              obtain ⟨hM183, fM183, h185⟩ := h184
              have bM183 := tkm_b (f := gf) (n := gn) (M := M183) (by omega)
              have qM183 := po_f gn ((faQ gf gn 2) ((suR gf gn 1) gi).2.2).2.2 (M183.1 98 11).toInt (M183.1 98 6).toInt (by omega)
              have u186f : b01 (XW M0 M183 0 1 1) = 1 := b01_i (Or.inl (by omega))
              have u186l := ri_l (M := M183) (by omega)
              have u186J := cj_2 gf gn 1 gi (M0.1 98 11).toInt (M0.1 98 12).toInt (M119.1 98 11).toInt (M119.1 98 12).toInt (M119.1 98 6).toInt (M183.1 98 11).toInt (M183.1 98 12).toInt (M183.1 98 6).toInt (by omega) (by omega) (by omega) (by omega)
              have u186P := po_rr (sjP gf gn 1) gn gi (M0.1 98 11).toInt (M0.1 98 12).toInt (M0.1 98 6).toInt (M183.1 98 11).toInt (M183.1 98 12).toInt (M183.1 98 6).toInt (sj_g gf gn 1) (by omega) (by omega)
              refine j_lv [1, 2, 0] rfl ?_; exact J196 M183 (by omega) hM183 ((FR.rf.tr fM119 (by decide)).tr fM183 (by decide))
            · have u187k := ri_k (M := M119) (by omega) (by omega)
              refine j_aload_n C 1 0 dX12_readUnit_139 rfl rfl ?_
              have k188 := tkm_p (f := gf) (n := gn) (M := M119) (by omega)
              have k189 := tkm_K (f := gf) (n := gn) (M := M119) (by omega)
              refine j_callVv C (d := 5) (As := []) (st := []) 98 (s_lt rfl rfl) (s_kc (c := 11) rfl rfl) (by decide) rfl (s1_X12_next hM119 hpr gf gn (by omega) (by omega) (by omega) (by omega)) gX12_readUnit_X12_next rfl hdX12_next (by decide) (Nat.le_of_ble_eq_true rfl) dX12_readUnit_140 rfl (fun M191 h192 => ?_)
              obtain ⟨hM191, fM191, h193⟩ := h192
              have bM191 := tkm_b (f := gf) (n := gn) (M := M191) (by omega)
              have qM191 := nx_po (f := gf) (n := gn) (i := ((suR gf gn 1) gi).2.2) (M := M119) (M' := M191) (by omega) (by omega) (by omega) (by omega) (by omega)
              refine j_goto C 151 dX12_readUnit_143 (by decide) ?_
              have u194c := xw_c (N := M119) (P := M191) 1 (FR.cell fM191 (by decide)) (by omega)
              have u194t := xw_t (M := M0) (N := M119) (P := M191) (r1 := 0) (e1 := 1) (s1 := 0) (r2 := 0) (e2 := 0) (s2 := 1) 0 1 1 (by decide) (by omega) (by omega)
              have u194l := ri_l (M := M191) (by omega)
              have u194J := cj_1 gf gn 1 gi (M0.1 98 11).toInt (M0.1 98 12).toInt (M119.1 98 11).toInt (M119.1 98 12).toInt (M119.1 98 6).toInt (M191.1 98 11).toInt (M191.1 98 12).toInt (M191.1 98 6).toInt (by omega) (by omega) (by omega) (by omega) (by omega) (by omega) (by omega)
              have u194P := po_rr (sjP gf gn 1) gn gi (M0.1 98 11).toInt (M0.1 98 12).toInt (M0.1 98 6).toInt (M191.1 98 11).toInt (M191.1 98 12).toInt (M191.1 98 6).toInt (sj_g gf gn 1) (by omega) (by omega)
              refine j_lv [1, 2, 0] rfl ?_; exact J196 M191 (by omega) hM191 ((FR.rf.tr fM119 (by decide)).tr fM191 (by decide))
      refine y_if_eq C 93 dX12_readUnit_84 (by decide) (by omega) (fun h130 => ?_) (fun h130 => ?_)
      · refine j_aload_n C 0 0 dX12_readUnit_93 rfl rfl ?_
        refine y_bipush C dX12_readUnit_94 rfl ?_
        have k131 := tkm_K (f := gf) (n := gn) (M := M119) (by omega)
        have k132 := kd_2 (kdk_40 gf gn (M119.1 98 6).toInt) (by omega)
        refine j_callVi C (d := 0) (As := [.int (sI 40)]) (st := []) 98 (s_lt rfl rfl) (s_kc (c := 11) rfl rfl) (by decide) rfl (s1_X12_is hM119 40 (by omega)) gX12_readUnit_X12_is rfl hdX12_is (by decide) (Nat.le_of_ble_eq_true rfl) dX12_readUnit_96 rfl (fun r133 M134 h135 => ?_)
        obtain ⟨a137, rfl, rfl, h136⟩ := h135
        refine y_if_eq C 108 dX12_readUnit_99 (by decide) (by omega) (fun h138 => ?_) (fun h138 => ?_)
        · refine y_sipush C dX12_readUnit_108 rfl ?_
          exact J140 3005 (by omega)
        · refine y_sipush C dX12_readUnit_102 rfl ?_
          refine j_goto C 111 dX12_readUnit_105 (by decide) ?_
          exact J140 3004 (by omega)
      · refine y_sipush C dX12_readUnit_87 rfl ?_
        refine j_goto C 111 dX12_readUnit_90 (by decide) ?_
        exact J140 3003 (by omega)
    · have u211k := ri_k (M := M0) (by omega) (by omega)
      refine j_aload_n C 0 0 dX12_readUnit_42 rfl rfl ?_
      refine j_iload_n C 1 1 dX12_readUnit_43 rfl rfl ?_
      refine j_callVi C (d := 6) (As := [.int (sI 5)]) (st := []) 98 (s_lt rfl rfl) (s_kc (c := 11) rfl rfl) (by decide) rfl (s6_X12_goesIn hM0 hpr gf gn gi (by omega) (by omega) (by omega) (by omega) (by omega) (by omega) (by omega)) gX12_readUnit_X12_goesIn rfl hdX12_goesIn (by decide) (Nat.le_of_ble_eq_true rfl) dX12_readUnit_44 rfl (fun r212 M213 h214 => ?_)
      obtain ⟨a216, rfl, hM213, fM213, h215⟩ := h214
      have bM213 := tkm_b (f := gf) (n := gn) (M := M213) (by omega)
      refine y_if_ne C 51 dX12_readUnit_47 (by decide) (by omega) (fun h217 => ?_) (fun h217 => ?_)
      · have u218c := xw_c (N := M0) (P := M213) 1 (FR.cell fM213 (by decide)) (by omega)
        have u218t := xw_t (M := M0) (N := M0) (P := M213) (r1 := 0) (e1 := 0) (s1 := 0) (r2 := 0) (e2 := 0) (s2 := 1) 0 0 1 (by decide) (by omega) (by omega)
        have u218a := ca_x (M := M0) (N := M213) (r := 0) (e := 0) (s := 1) (by decide) (by omega) (by omega)
        have u218l := ri_l (M := M213) (by omega)
        refine j_aload_n C 0 0 dX12_readUnit_51 rfl rfl ?_
        refine j_iload_n C 1 1 dX12_readUnit_52 rfl rfl ?_
        refine y_iconst C dX12_readUnit_53 ?_
        refine y_iadd C dX12_readUnit_54 ?_
        refine j_callVv C (d := 12) (As := [.int (sI (5 + 1))]) (st := []) 98 (s_lt rfl rfl) (s_kc (c := 11) rfl rfl) (by decide) rfl (s1_X12_readTruth hM213 hpr gf gn (nxF gf gn gi) (by omega) (by omega) (by omega) (by omega) (by omega)) gX12_readUnit_X12_readTruth rfl hdX12_readTruth (by decide) (Nat.le_of_ble_eq_true rfl) dX12_readUnit_55 rfl (fun M220 h221 => ?_)
        obtain ⟨hM220, fM220, h222⟩ := h221
        have bM220 := tkm_b (f := gf) (n := gn) (M := M220) (by omega)
        have qM220 := po_rr (trP gf gn (unR gf gn 0)) gn (nxF gf gn gi) (M213.1 98 11).toInt (M213.1 98 12).toInt (M213.1 98 6).toInt (M220.1 98 11).toInt (M220.1 98 12).toInt (M220.1 98 6).toInt (tr_g gf gn (unR_g gf gn 0)) (by omega) (by omega)
        have u223t := xw_t (M := M0) (N := M213) (P := M220) (r1 := 0) (e1 := 0) (s1 := 1) (r2 := 0) (e2 := 1) (s2 := 0) 0 1 1 (by decide) (by omega) (by omega)
        have u223l := ri_l (M := M220) (by omega)
        refine j_aload_n C 0 0 dX12_readUnit_58 rfl rfl ?_
        refine y_bipush C dX12_readUnit_59 rfl ?_
        have k224 := tkm_K (f := gf) (n := gn) (M := M220) (by omega)
        have k225 := kd_2 (kdk_38 gf gn (M220.1 98 6).toInt) (by omega)
        refine j_callVi C (d := 6) (As := [.int (sI 38)]) (st := []) 98 (s_lt rfl rfl) (s_kc (c := 11) rfl rfl) (by decide) rfl (s1_X12_eats hM220 hpr 38 (by omega) gf gn ((trP gf gn (unR gf gn 0)) (nxF gf gn gi)).2.2 (by omega) (by omega) (by omega) (by omega) (by omega)) gX12_readUnit_X12_eats rfl hdX12_eats (by decide) (Nat.le_of_ble_eq_true rfl) dX12_readUnit_61 rfl (fun r226 M227 h228 => ?_)
        obtain ⟨a230, rfl, hM227, fM227, h229⟩ := h228
        have k231 := tk_c gf gn (M227.1 98 6).toInt (M220.1 98 6).toInt
        have bM227 := tkm_b (f := gf) (n := gn) (M := M227) (by omega)
        have u232c := xw_c (N := M220) (P := M227) 0 (FR.cell fM227 (by decide)) (by omega)
        have u232t := xw_t (M := M0) (N := M220) (P := M227) (r1 := 0) (e1 := 1) (s1 := 1) (r2 := 0) (e2 := 0) (s2 := 0) 0 1 0 (by decide) (by omega) (by omega)
        have u232l := ri_l (M := M227) (by omega)
        refine y_if_ne C 72 dX12_readUnit_64 (by decide) (by omega) (fun h233 => ?_) (fun h233 => ?_)
        · have u234a := ca_x (M := M0) (N := M227) (r := 0) (e := 1) (s := 0) (by decide) (by omega) (by omega)
          have u235x := ex_1 gf gn 2093 ((trP gf gn (unR gf gn 0)) (nxF gf gn gi)).2.2 (M220.1 98 11).toInt (M220.1 98 12).toInt (M220.1 98 6).toInt (M227.1 98 11).toInt (M227.1 98 12).toInt (M227.1 98 6).toInt (by omega) (by omega) (by omega) (by omega) (by omega) (by omega)
          have u235r := un_2 gf gn 0 1 rfl gi (M0.1 98 11).toInt (M0.1 98 12).toInt (M0.1 98 6).toInt (M213.1 98 11).toInt (M213.1 98 12).toInt (M220.1 98 11).toInt (M220.1 98 12).toInt (M220.1 98 6).toInt (M227.1 98 11).toInt (M227.1 98 12).toInt (M227.1 98 6).toInt (by omega) (by omega) (by omega) (by omega) (by omega) (by omega)
          exact hret _ _ _ dX12_readUnit_72 ⟨hM227, (((FR.rf.tr fM213 (by decide)).tr fM220 (by decide)).tr fM227 (by decide)), by omega⟩
        · refine j_aload_n C 0 0 dX12_readUnit_67 rfl rfl ?_
          refine y_iconst C dX12_readUnit_68 ?_
          have p236 := po_eq gn ((trP gf gn (unR gf gn 0)) (nxF gf gn gi)).2.2 (M220.1 98 11).toInt (M220.1 98 6).toInt (M227.1 98 11).toInt (M227.1 98 6).toInt (by omega) (by omega) (by omega)
          refine j_callVv C (d := 0) (As := [.int (sI 2)]) (st := []) 98 (s_lt rfl rfl) (s_kc (c := 11) rfl rfl) (by decide) rfl (s1_X12_fails hM227 hpr 2 (by omega) gf gn ((trP gf gn (unR gf gn 0)) (nxF gf gn gi)).2.2 (by omega) (by omega) (by omega) (by omega) (by omega)) gX12_readUnit_X12_fails rfl hdX12_fails (by decide) (Nat.le_of_ble_eq_true rfl) dX12_readUnit_69 rfl (fun M238 h239 => ?_)
          obtain ⟨hM238, fM238, h240⟩ := h239
          have bM238 := tkm_b (f := gf) (n := gn) (M := M238) (by omega)
          have qM238 := po_f gn ((faQ gf gn 2) ((trP gf gn (unR gf gn 0)) (nxF gf gn gi)).2.2).2.2 (M238.1 98 11).toInt (M238.1 98 6).toInt (by omega)
          have u241f : b01 (XW M0 M238 0 1 0) = 1 := b01_i (Or.inl (by omega))
          have u241a := ca_x (M := M0) (N := M238) (r := 0) (e := 1) (s := 0) (by decide) (by omega) (by omega)
          have u242x := ex_2z gf gn 2093 ((trP gf gn (unR gf gn 0)) (nxF gf gn gi)).2.2 (M220.1 98 11).toInt (M220.1 98 12).toInt (M220.1 98 6).toInt (M238.1 98 11).toInt (M238.1 98 12).toInt (M238.1 98 6).toInt (by omega) (by omega) (rr_fr (faQ gf gn 2 ((trP gf gn (unR gf gn 0)) (nxF gf gn gi)).2.2) (M220.1 98 11).toInt (M220.1 98 12).toInt (M227.1 98 11).toInt (M227.1 98 12).toInt (M238.1 98 11).toInt (M238.1 98 12).toInt (M238.1 98 6).toInt (by omega) (by omega) (by omega))
          have u242r := un_2 gf gn 0 1 rfl gi (M0.1 98 11).toInt (M0.1 98 12).toInt (M0.1 98 6).toInt (M213.1 98 11).toInt (M213.1 98 12).toInt (M220.1 98 11).toInt (M220.1 98 12).toInt (M220.1 98 6).toInt (M238.1 98 11).toInt (M238.1 98 12).toInt (M238.1 98 6).toInt (by omega) (by omega) (by omega) (by omega) (by omega) (by omega)
          exact hret _ _ _ dX12_readUnit_72 ⟨hM238, ((((FR.rf.tr fM213 (by decide)).tr fM220 (by decide)).tr fM227 (by decide)).tr fM238 (by decide)), by omega⟩
      · exfalso; omega
  · have u243k := ri_k (M := M0) (by omega) (by omega)
    refine j_aload_n C 0 0 dX12_readUnit_9 rfl rfl ?_
    refine j_iload_n C 1 1 dX12_readUnit_10 rfl rfl ?_
    refine j_callVi C (d := 6) (As := [.int (sI 5)]) (st := []) 98 (s_lt rfl rfl) (s_kc (c := 11) rfl rfl) (by decide) rfl (s6_X12_goesIn hM0 hpr gf gn gi (by omega) (by omega) (by omega) (by omega) (by omega) (by omega) (by omega)) gX12_readUnit_X12_goesIn rfl hdX12_goesIn (by decide) (Nat.le_of_ble_eq_true rfl) dX12_readUnit_11 rfl (fun r244 M245 h246 => ?_)
    obtain ⟨a248, rfl, hM245, fM245, h247⟩ := h246
    have bM245 := tkm_b (f := gf) (n := gn) (M := M245) (by omega)
    refine y_if_ne C 18 dX12_readUnit_14 (by decide) (by omega) (fun h249 => ?_) (fun h249 => ?_)
    · have u250c := xw_c (N := M0) (P := M245) 1 (FR.cell fM245 (by decide)) (by omega)
      have u250t := xw_t (M := M0) (N := M0) (P := M245) (r1 := 0) (e1 := 0) (s1 := 0) (r2 := 0) (e2 := 0) (s2 := 1) 0 0 1 (by decide) (by omega) (by omega)
      have u250a := ca_x (M := M0) (N := M245) (r := 0) (e := 0) (s := 1) (by decide) (by omega) (by omega)
      have u250l := ri_l (M := M245) (by omega)
      refine j_aload_n C 0 0 dX12_readUnit_18 rfl rfl ?_
      refine j_iload_n C 1 1 dX12_readUnit_19 rfl rfl ?_
      refine y_iconst C dX12_readUnit_20 ?_
      refine y_iadd C dX12_readUnit_21 ?_
      refine j_callVv C (d := 10) (As := [.int (sI (5 + 1))]) (st := []) 98 (s_lt rfl rfl) (s_kc (c := 11) rfl rfl) (by decide) rfl (s1_X12_readUnit hM245 hpr gf gn (nxF gf gn gi) (by omega) (by omega) (by omega) (by omega) (by omega)) gX12_readUnit_X12_readUnit rfl hdX12_readUnit (by decide) (Nat.le_of_ble_eq_true rfl) dX12_readUnit_22 rfl (fun M252 h253 => ?_)
      obtain ⟨hM252, fM252, h254⟩ := h253
      have bM252 := tkm_b (f := gf) (n := gn) (M := M252) (by omega)
      have qM252 := po_rr (unR gf gn 0) gn (nxF gf gn gi) (M245.1 98 11).toInt (M245.1 98 12).toInt (M245.1 98 6).toInt (M252.1 98 11).toInt (M252.1 98 12).toInt (M252.1 98 6).toInt (unR_g gf gn 0) (by omega) (by omega)
      have u255t := xw_t (M := M0) (N := M245) (P := M252) (r1 := 0) (e1 := 0) (s1 := 1) (r2 := 0) (e2 := 1) (s2 := 0) 0 1 1 (by decide) (by omega) (by omega)
      have u255l := ri_l (M := M252) (by omega)
      have u255b := cb_x (M := M0) (N := M252) (r := 0) (e := 1) (s := 1) (by decide) (by omega) (by omega) (by omega)
      refine j_aload_n C 0 0 dX12_readUnit_25 rfl rfl ?_
      refine y_sipush C dX12_readUnit_26 rfl ?_
      refine j_callVv C (d := 0) (As := [.int (sI 3006)]) (st := []) 98 (s_lt rfl rfl) (s_kc (c := 11) rfl rfl) (by decide) rfl (s1_X12_codes hM252 hpr 3006 (by omega) gf gn ((unR gf gn 0) (nxF gf gn gi)).2.2 (by omega) (by omega) (by omega) (by omega)) gX12_readUnit_X12_codes rfl hdX12_codes (by decide) (Nat.le_of_ble_eq_true rfl) dX12_readUnit_29 rfl (fun M257 h258 => ?_)
      obtain ⟨hM257, fM257, h259⟩ := h258
      have bM257 := tkm_b (f := gf) (n := gn) (M := M257) (by omega)
      have qM257 := po_eq gn ((unR gf gn 0) (nxF gf gn gi)).2.2 (M252.1 98 11).toInt (M252.1 98 6).toInt (M257.1 98 11).toInt (M257.1 98 6).toInt (by omega) (by omega) (by omega)
      have u260x := xw_a (M := M252) (N := M257) (c := 3006) (r := 1) (e := 0) (FR.cell fM257 (by decide)) (ap_not (INV.rd hM252 (i := 102) (c := 48) (k := 280) rfl rfl).1) (by omega)
      have u260t := xw_t (M := M0) (N := M252) (P := M257) (r1 := 0) (e1 := 1) (s1 := 1) (r2 := 1) (e2 := 0) (s2 := (-1)) 0 1 0 (by decide) (by omega) (by omega)
      have u260i := ri_c (M := M252) (N := M257) (FR.cell fM257 (by decide)) (by omega)
      have u260l := ri_l (M := M257) (by omega)
      have u260a := ca_x (M := M0) (N := M257) (r := 0) (e := 1) (s := 0) (by decide) (by omega) (by omega)
      have u261r := un_1 gf gn 0 1 rfl gi (M0.1 98 11).toInt (M0.1 98 12).toInt (M0.1 98 6).toInt (M245.1 98 11).toInt (M245.1 98 12).toInt (M252.1 98 11).toInt (M252.1 98 12).toInt (M252.1 98 6).toInt (M257.1 98 11).toInt (M257.1 98 12).toInt (M257.1 98 6).toInt (by omega) (by omega) (by omega) (by omega) (by omega) (by omega) (by omega) (by omega)
      have zz98_11 : (M257.1 98 11).toInt = (M252.1 98 11).toInt := s_fF fM257 (by decide) (rfl); have zz98_12 : (M257.1 98 12).toInt = (M252.1 98 12).toInt := s_fF fM257 (by decide) (rfl); have zz98_6 : (M257.1 98 6).toInt = (M252.1 98 6).toInt := s_fF fM257 (by decide) (rfl); have zz98_8 : (M257.1 98 8).toInt = (M252.1 98 8).toInt := s_fF fM257 (by decide) (rfl); exact hret _ _ _ dX12_readUnit_32 ⟨hM257, (((FR.rf.tr fM245 (by decide)).tr fM252 (by decide)).tr fM257 (by decide)), by omega⟩
    · exfalso; omega
set_option maxHeartbeats 4000000 in
theorem s2_X12_readBoth {l : Launch} {dC : Nat → ClassId} {dI : Nat → Nat → Nat} {ad : Nat → Nat} {cA : Nat → ClassId} {pr : Nat → Nat → Bool} {Kz : mm_M} {M0 : mm_M} (hM0 : INV pr Kz M0) (hpr : PM pr) (gf : Nat → Int) (gn : Int) (gi : Int) (hp0 : b01 (RIP M0) = 1) (hp1 : b01 (CA M0) = 1) (hp2 : b01 (TKM gf gn M0) = 1) (hp3 : b01 (PO gn gi (M0.1 98 11).toInt (M0.1 98 6).toInt) = 1) (hp4 : b01 (PI M0) = 1) : Cv l 14 yX12_readBoth wsX12_readBoth dC dI ad cA [.ref (ad 98), .int (sI 5)] M0 (fun M' => INV pr Kz M' ∧ FR [98, 102] M0 M' ∧ (b01 (RIP M') = 1) ∧ ((M'.1 98 8).toInt = (M0.1 98 8).toInt) ∧ ((M0.1 98 6).toInt ≤ (M'.1 98 6).toInt) ∧ (b01 (XW M0 M' 0 1 0) = 1) ∧ (b01 (CA M') = 1) ∧ (b01 (PI M') = 1) ∧ (b01 (TKM gf gn M') = 1) ∧ b01 (RR ((boP gf gn (unR gf gn 1)) gi) (M0.1 98 11).toInt (M0.1 98 12).toInt (M'.1 98 11).toInt (M'.1 98 12).toInt (M'.1 98 6).toInt) = 1) := by
  refine cv_of (cc := cX12_readBoth) (maxL := 2) (lv := [(0, .ref (ad 98)), (1, .int (sI 5))]) (by decide) rfl (Nat.le_of_ble_eq_true rfl) rfl ?_
  intro p e s m args below meth c A Q C hret
  have u101z := xw_0 M0
  have u101l := ri_l (M := M0) (by omega)
  refine j_aload_n C 0 0 dX12_readBoth_0 rfl rfl ?_
  refine j_iload_n C 1 1 dX12_readBoth_1 rfl rfl ?_
  refine j_callVv C (d := 13) (As := [.int (sI 5)]) (st := []) 98 (s_lt rfl rfl) (s_kc (c := 11) rfl rfl) (by decide) rfl (s2_X12_readUnit hM0 hpr gf gn gi (by omega) (by omega) (by omega) (by omega) (by omega)) gX12_readBoth_X12_readUnit rfl hdX12_readUnit (by decide) (Nat.le_of_ble_eq_true rfl) dX12_readBoth_2 rfl (fun M103 h104 => ?_)
  obtain ⟨hM103, fM103, h105⟩ := h104
  have bM103 := tkm_b (f := gf) (n := gn) (M := M103) (by omega)
  have qM103 := po_rr (unR gf gn 1) gn gi (M0.1 98 11).toInt (M0.1 98 12).toInt (M0.1 98 6).toInt (M103.1 98 11).toInt (M103.1 98 12).toInt (M103.1 98 6).toInt (unR_g gf gn 1) (by omega) (by omega)
  have u106l := ri_l (M := M103) (by omega)
  have u106L := ll_0 (luP gf gn 1015 1015 (unR gf gn 1)) gn ((unR gf gn 1) gi).2.2 (M103.1 98 11).toInt (M103.1 98 12).toInt (M103.1 98 6).toInt (by omega)
  have L132 : ∀ (n130 : Nat), ∀ (M133 : mm_M) (gq134 : Int), ((b01 (RIP M133) = 1) ∧ ((M133.1 98 8).toInt = (M0.1 98 8).toInt) ∧ ((M0.1 98 6).toInt ≤ (M133.1 98 6).toInt) ∧ (b01 (XW M0 M133 0 1 0) = 1) ∧ ((M133.1 98 6).toInt ≤ 900) ∧ (b01 (LL (luP gf gn 1015 1015 (unR gf gn 1)) gn ((unR gf gn 1) gi).2.2 gq134 0 (M103.1 98 11).toInt (M103.1 98 12).toInt (M133.1 98 11).toInt (M133.1 98 12).toInt (M133.1 98 6).toInt) = 1) ∧ (b01 (TKM gf gn M133) = 1) ∧ (b01 (PO gn gq134 (M133.1 98 11).toInt (M133.1 98 6).toInt) = 1) ∧ (b01 (PI M133) = 1) ∧ (900 - (M133.1 98 6).toInt) < (n130 : Int)) → INV pr Kz M133 → FR [98, 102] M0 M133 → jj p l e (cn_R 14) s m args below meth c 0 0 Q 2 dC dI ad cA A M133 5 [(0, .ref (ad 98)), (1, .int (sI 5))] [] := by
    intro n130
    induction n130 with
    | zero =>
      intro M133 gq134 h135 hM133 fM133
      exfalso; omega
    | succ n130 ih131 =>
      intro M133 gq134 h135 hM133 fM133
      have u136l := ri_l (M := M133) (by omega)
      have u136B := tkm_b (f := gf) (n := gn) (M := M133) (by omega)
      refine j_aload_n C 0 0 dX12_readBoth_5 rfl rfl ?_
      refine y_bipush C dX12_readBoth_6 rfl ?_
      have k137 := tkm_K (f := gf) (n := gn) (M := M133) (by omega)
      have k138 := kd_2 (kdk_14 gf gn (M133.1 98 6).toInt) (by omega)
      refine j_callVi C (d := 6) (As := [.int (sI 14)]) (st := []) 98 (s_lt rfl rfl) (s_kc (c := 11) rfl rfl) (by decide) rfl (s1_X12_eats hM133 hpr 14 (by omega) gf gn gq134 (by omega) (by omega) (by omega) (by omega) (by omega)) gX12_readBoth_X12_eats rfl hdX12_eats (by decide) (Nat.le_of_ble_eq_true rfl) dX12_readBoth_8 rfl (fun r139 M140 h141 => ?_)
      obtain ⟨a143, rfl, hM140, fM140, h142⟩ := h141
      have k144 := tk_c gf gn (M140.1 98 6).toInt (M133.1 98 6).toInt
      have bM140 := tkm_b (f := gf) (n := gn) (M := M140) (by omega)
      refine y_if_eq C 29 dX12_readBoth_11 (by decide) (by omega) (fun h145 => ?_) (fun h145 => ?_)
      · have u157c := xw_c (N := M133) (P := M140) 0 (FR.cell fM140 (by decide)) (by omega)
        have u157t := xw_t (M := M0) (N := M133) (P := M140) (r1 := 0) (e1 := 1) (s1 := 0) (r2 := 0) (e2 := 0) (s2 := 0) 0 1 0 (by decide) (by omega) (by omega)
        have u157a := ca_x (M := M0) (N := M140) (r := 0) (e := 1) (s := 0) (by decide) (by omega) (by omega)
        have u157E := ll_e gf gn 1015 1015 (unR gf gn 1) ((unR gf gn 1) gi).2.2 gq134 0 (M103.1 98 11).toInt (M103.1 98 12).toInt (M133.1 98 11).toInt (M133.1 98 12).toInt (M133.1 98 6).toInt (by decide) (unR_g gf gn 1) (by omega) (by omega)
        have u157S : b01 (RR ((boP gf gn (unR gf gn 1)) gi) (M0.1 98 11).toInt (M0.1 98 12).toInt (M133.1 98 11).toInt (M133.1 98 12).toInt (M133.1 98 6).toInt) = 1 := rr_sq ((unR gf gn 1) gi) (luP gf gn 1015 1015 (unR gf gn 1)) (M0.1 98 11).toInt (M0.1 98 12).toInt (M103.1 98 11).toInt (M103.1 98 12).toInt (M103.1 98 6).toInt (M133.1 98 11).toInt (M133.1 98 12).toInt (M133.1 98 6).toInt (by omega) (by omega)
        have u157R := rr_eq ((boP gf gn (unR gf gn 1)) gi) (M0.1 98 11).toInt (M0.1 98 12).toInt (M133.1 98 11).toInt (M133.1 98 12).toInt (M133.1 98 6).toInt (M140.1 98 11).toInt (M140.1 98 12).toInt (M140.1 98 6).toInt (by omega) (by omega) (by omega) (by omega)
        exact hret _ _ _ dX12_readBoth_29 ⟨hM140, ((FR.rf.tr fM133 (by decide)).tr fM140 (by decide)), by omega⟩
      · have u146c := xw_c (N := M133) (P := M140) 1 (FR.cell fM140 (by decide)) (by omega)
        have u146t := xw_t (M := M0) (N := M133) (P := M140) (r1 := 0) (e1 := 1) (s1 := 0) (r2 := 0) (e2 := 0) (s2 := 1) 0 1 1 (by decide) (by omega) (by omega)
        have u146a := ca_x (M := M0) (N := M140) (r := 0) (e := 1) (s := 1) (by decide) (by omega) (by omega)
        have u146l := ri_l (M := M140) (by omega)
        refine j_aload_n C 0 0 dX12_readBoth_14 rfl rfl ?_
        refine j_iload_n C 1 1 dX12_readBoth_15 rfl rfl ?_
        refine j_callVv C (d := 13) (As := [.int (sI 5)]) (st := []) 98 (s_lt rfl rfl) (s_kc (c := 11) rfl rfl) (by decide) rfl (s2_X12_readUnit hM140 hpr gf gn (nxF gf gn gq134) (by omega) (by omega) (by omega) (by omega) (by omega)) gX12_readBoth_X12_readUnit rfl hdX12_readUnit (by decide) (Nat.le_of_ble_eq_true rfl) dX12_readBoth_16 rfl (fun M148 h149 => ?_)
        obtain ⟨hM148, fM148, h150⟩ := h149
        have bM148 := tkm_b (f := gf) (n := gn) (M := M148) (by omega)
        have qM148 := po_rr (unR gf gn 1) gn (nxF gf gn gq134) (M140.1 98 11).toInt (M140.1 98 12).toInt (M140.1 98 6).toInt (M148.1 98 11).toInt (M148.1 98 12).toInt (M148.1 98 6).toInt (unR_g gf gn 1) (by omega) (by omega)
        have u151t := xw_t (M := M0) (N := M140) (P := M148) (r1 := 0) (e1 := 1) (s1 := 1) (r2 := 0) (e2 := 1) (s2 := 0) 0 2 1 (by decide) (by omega) (by omega)
        have u151l := ri_l (M := M148) (by omega)
        have u151b := cb_x (M := M0) (N := M148) (r := 0) (e := 2) (s := 1) (by decide) (by omega) (by omega) (by omega)
        refine j_aload_n C 0 0 dX12_readBoth_19 rfl rfl ?_
        refine y_sipush C dX12_readBoth_20 rfl ?_
        refine j_callVv C (d := 0) (As := [.int (sI 3007)]) (st := []) 98 (s_lt rfl rfl) (s_kc (c := 11) rfl rfl) (by decide) rfl (s1_X12_codes hM148 hpr 3007 (by omega) gf gn ((unR gf gn 1) (nxF gf gn gq134)).2.2 (by omega) (by omega) (by omega) (by omega)) gX12_readBoth_X12_codes rfl hdX12_codes (by decide) (Nat.le_of_ble_eq_true rfl) dX12_readBoth_23 rfl (fun M153 h154 => ?_)
        obtain ⟨hM153, fM153, h155⟩ := h154
        have bM153 := tkm_b (f := gf) (n := gn) (M := M153) (by omega)
        have qM153 := po_eq gn ((unR gf gn 1) (nxF gf gn gq134)).2.2 (M148.1 98 11).toInt (M148.1 98 6).toInt (M153.1 98 11).toInt (M153.1 98 6).toInt (by omega) (by omega) (by omega)
        refine j_goto C 5 dX12_readBoth_26 (by decide) ?_
        have u156x := xw_a (M := M148) (N := M153) (c := 3007) (r := 2) (e := (-1)) (FR.cell fM153 (by decide)) (ap_bin ⟨(INV.rd hM148 (i := 102) (c := 48) (k := 280) rfl rfl).1, by omega, by omega⟩) (by omega)
        have u156t := xw_t (M := M0) (N := M148) (P := M153) (r1 := 0) (e1 := 2) (s1 := 1) (r2 := 2) (e2 := (-1)) (s2 := (-1)) 0 1 0 (by decide) (by omega) (by omega)
        have u156i := ri_c (M := M148) (N := M153) (FR.cell fM153 (by decide)) (by omega)
        have u156l := ri_l (M := M153) (by omega)
        have u156L := ll_w (luP gf gn 1015 1015 (unR gf gn 1)) gn ((unR gf gn 1) gi).2.2 ((unR gf gn 1) (nxF gf gn gq134)).2.2 (0 + 1) 0 (M103.1 98 11).toInt (M103.1 98 12).toInt (M153.1 98 11).toInt (M153.1 98 12).toInt (M153.1 98 6).toInt (by decide) (ll_s gf gn 1015 1015 (unR gf gn 1) ((unR gf gn 1) gi).2.2 gq134 0 (M103.1 98 11).toInt (M103.1 98 12).toInt (M133.1 98 11).toInt (M133.1 98 12).toInt (M133.1 98 6).toInt (M140.1 98 11).toInt (M140.1 98 12).toInt (M148.1 98 11).toInt (M148.1 98 12).toInt (M148.1 98 6).toInt (M153.1 98 11).toInt (M153.1 98 12).toInt (M153.1 98 6).toInt (by decide) (unR_g gf gn 1) (by omega) (by omega) (by omega) (by omega) (by omega) (by omega) (by omega) (by omega) (by omega))
        have zz98_8 : (M153.1 98 8).toInt = (M148.1 98 8).toInt := s_fF fM153 (by decide) (rfl); have zz98_6 : (M153.1 98 6).toInt = (M148.1 98 6).toInt := s_fF fM153 (by decide) (rfl); have zz98_12 : (M153.1 98 12).toInt = (M148.1 98 12).toInt := s_fF fM153 (by decide) (rfl); have zz98_11 : (M153.1 98 11).toInt = (M148.1 98 11).toInt := s_fF fM153 (by decide) (rfl); exact ih131 M153 ((unR gf gn 1) (nxF gf gn gq134)).2.2 (by omega) hM153 ((((FR.rf.tr fM133 (by decide)).tr fM140 (by decide)).tr fM148 (by decide)).tr fM153 (by decide))
  exact L132 2010 M103 ((unR gf gn 1) gi).2.2 (by omega) hM103 (FR.rf.tr fM103 (by decide))
set_option maxHeartbeats 4000000 in
theorem s2_X12_readTruth {l : Launch} {dC : Nat → ClassId} {dI : Nat → Nat → Nat} {ad : Nat → Nat} {cA : Nat → ClassId} {pr : Nat → Nat → Bool} {Kz : mm_M} {M0 : mm_M} (hM0 : INV pr Kz M0) (hpr : PM pr) (gf : Nat → Int) (gn : Int) (gi : Int) (hp0 : b01 (RIP M0) = 1) (hp1 : b01 (CA M0) = 1) (hp2 : b01 (TKM gf gn M0) = 1) (hp3 : b01 (PO gn gi (M0.1 98 11).toInt (M0.1 98 6).toInt) = 1) (hp4 : b01 (PI M0) = 1) : Cv l 15 yX12_readTruth wsX12_readTruth dC dI ad cA [.ref (ad 98), .int (sI 5)] M0 (fun M' => INV pr Kz M' ∧ FR [98, 102] M0 M' ∧ (b01 (RIP M') = 1) ∧ ((M'.1 98 8).toInt = (M0.1 98 8).toInt) ∧ ((M0.1 98 6).toInt ≤ (M'.1 98 6).toInt) ∧ (b01 (XW M0 M' 0 1 0) = 1) ∧ (b01 (CA M') = 1) ∧ (b01 (PI M') = 1) ∧ (b01 (TKM gf gn M') = 1) ∧ b01 (RR ((trP gf gn (unR gf gn 1)) gi) (M0.1 98 11).toInt (M0.1 98 12).toInt (M'.1 98 11).toInt (M'.1 98 12).toInt (M'.1 98 6).toInt) = 1) := by
  refine cv_of (cc := cX12_readTruth) (maxL := 2) (lv := [(0, .ref (ad 98)), (1, .int (sI 5))]) (by decide) rfl (Nat.le_of_ble_eq_true rfl) rfl ?_
  intro p e s m args below meth c A Q C hret
  have u101z := xw_0 M0
  have u101l := ri_l (M := M0) (by omega)
  refine j_aload_n C 0 0 dX12_readTruth_0 rfl rfl ?_
  refine j_iload_n C 1 1 dX12_readTruth_1 rfl rfl ?_
  refine j_callVv C (d := 14) (As := [.int (sI 5)]) (st := []) 98 (s_lt rfl rfl) (s_kc (c := 11) rfl rfl) (by decide) rfl (s2_X12_readBoth hM0 hpr gf gn gi (by omega) (by omega) (by omega) (by omega) (by omega)) gX12_readTruth_X12_readBoth rfl hdX12_readBoth (by decide) (Nat.le_of_ble_eq_true rfl) dX12_readTruth_2 rfl (fun M103 h104 => ?_)
  obtain ⟨hM103, fM103, h105⟩ := h104
  have bM103 := tkm_b (f := gf) (n := gn) (M := M103) (by omega)
  have qM103 := po_rr (boP gf gn (unR gf gn 1)) gn gi (M0.1 98 11).toInt (M0.1 98 12).toInt (M0.1 98 6).toInt (M103.1 98 11).toInt (M103.1 98 12).toInt (M103.1 98 6).toInt (bo_g gf gn (unR_g gf gn 1)) (by omega) (by omega)
  have u106l := ri_l (M := M103) (by omega)
  have u106L := ll_0 (luP gf gn 1014 1014 (boP gf gn (unR gf gn 1))) gn ((boP gf gn (unR gf gn 1)) gi).2.2 (M103.1 98 11).toInt (M103.1 98 12).toInt (M103.1 98 6).toInt (by omega)
  have L132 : ∀ (n130 : Nat), ∀ (M133 : mm_M) (gq134 : Int), ((b01 (RIP M133) = 1) ∧ ((M133.1 98 8).toInt = (M0.1 98 8).toInt) ∧ ((M0.1 98 6).toInt ≤ (M133.1 98 6).toInt) ∧ (b01 (XW M0 M133 0 1 0) = 1) ∧ ((M133.1 98 6).toInt ≤ 900) ∧ (b01 (LL (luP gf gn 1014 1014 (boP gf gn (unR gf gn 1))) gn ((boP gf gn (unR gf gn 1)) gi).2.2 gq134 0 (M103.1 98 11).toInt (M103.1 98 12).toInt (M133.1 98 11).toInt (M133.1 98 12).toInt (M133.1 98 6).toInt) = 1) ∧ (b01 (TKM gf gn M133) = 1) ∧ (b01 (PO gn gq134 (M133.1 98 11).toInt (M133.1 98 6).toInt) = 1) ∧ (b01 (PI M133) = 1) ∧ (900 - (M133.1 98 6).toInt) < (n130 : Int)) → INV pr Kz M133 → FR [98, 102] M0 M133 → jj p l e (cn_R 15) s m args below meth c 0 0 Q 2 dC dI ad cA A M133 5 [(0, .ref (ad 98)), (1, .int (sI 5))] [] := by
    intro n130
    induction n130 with
    | zero =>
      intro M133 gq134 h135 hM133 fM133
      exfalso; omega
    | succ n130 ih131 =>
      intro M133 gq134 h135 hM133 fM133
      have u136l := ri_l (M := M133) (by omega)
      have u136B := tkm_b (f := gf) (n := gn) (M := M133) (by omega)
      refine j_aload_n C 0 0 dX12_readTruth_5 rfl rfl ?_
      refine y_bipush C dX12_readTruth_6 rfl ?_
      have k137 := tkm_K (f := gf) (n := gn) (M := M133) (by omega)
      have k138 := kd_2 (kdk_15 gf gn (M133.1 98 6).toInt) (by omega)
      refine j_callVi C (d := 6) (As := [.int (sI 15)]) (st := []) 98 (s_lt rfl rfl) (s_kc (c := 11) rfl rfl) (by decide) rfl (s1_X12_eats hM133 hpr 15 (by omega) gf gn gq134 (by omega) (by omega) (by omega) (by omega) (by omega)) gX12_readTruth_X12_eats rfl hdX12_eats (by decide) (Nat.le_of_ble_eq_true rfl) dX12_readTruth_8 rfl (fun r139 M140 h141 => ?_)
      obtain ⟨a143, rfl, hM140, fM140, h142⟩ := h141
      have k144 := tk_c gf gn (M140.1 98 6).toInt (M133.1 98 6).toInt
      have bM140 := tkm_b (f := gf) (n := gn) (M := M140) (by omega)
      refine y_if_eq C 29 dX12_readTruth_11 (by decide) (by omega) (fun h145 => ?_) (fun h145 => ?_)
      · have u157c := xw_c (N := M133) (P := M140) 0 (FR.cell fM140 (by decide)) (by omega)
        have u157t := xw_t (M := M0) (N := M133) (P := M140) (r1 := 0) (e1 := 1) (s1 := 0) (r2 := 0) (e2 := 0) (s2 := 0) 0 1 0 (by decide) (by omega) (by omega)
        have u157a := ca_x (M := M0) (N := M140) (r := 0) (e := 1) (s := 0) (by decide) (by omega) (by omega)
        have u157E := ll_e gf gn 1014 1014 (boP gf gn (unR gf gn 1)) ((boP gf gn (unR gf gn 1)) gi).2.2 gq134 0 (M103.1 98 11).toInt (M103.1 98 12).toInt (M133.1 98 11).toInt (M133.1 98 12).toInt (M133.1 98 6).toInt (by decide) (bo_g gf gn (unR_g gf gn 1)) (by omega) (by omega)
        have u157S : b01 (RR ((trP gf gn (unR gf gn 1)) gi) (M0.1 98 11).toInt (M0.1 98 12).toInt (M133.1 98 11).toInt (M133.1 98 12).toInt (M133.1 98 6).toInt) = 1 := rr_sq ((boP gf gn (unR gf gn 1)) gi) (luP gf gn 1014 1014 (boP gf gn (unR gf gn 1))) (M0.1 98 11).toInt (M0.1 98 12).toInt (M103.1 98 11).toInt (M103.1 98 12).toInt (M103.1 98 6).toInt (M133.1 98 11).toInt (M133.1 98 12).toInt (M133.1 98 6).toInt (by omega) (by omega)
        have u157R := rr_eq ((trP gf gn (unR gf gn 1)) gi) (M0.1 98 11).toInt (M0.1 98 12).toInt (M133.1 98 11).toInt (M133.1 98 12).toInt (M133.1 98 6).toInt (M140.1 98 11).toInt (M140.1 98 12).toInt (M140.1 98 6).toInt (by omega) (by omega) (by omega) (by omega)
        exact hret _ _ _ dX12_readTruth_29 ⟨hM140, ((FR.rf.tr fM133 (by decide)).tr fM140 (by decide)), by omega⟩
      · have u146c := xw_c (N := M133) (P := M140) 1 (FR.cell fM140 (by decide)) (by omega)
        have u146t := xw_t (M := M0) (N := M133) (P := M140) (r1 := 0) (e1 := 1) (s1 := 0) (r2 := 0) (e2 := 0) (s2 := 1) 0 1 1 (by decide) (by omega) (by omega)
        have u146a := ca_x (M := M0) (N := M140) (r := 0) (e := 1) (s := 1) (by decide) (by omega) (by omega)
        have u146l := ri_l (M := M140) (by omega)
        refine j_aload_n C 0 0 dX12_readTruth_14 rfl rfl ?_
        refine j_iload_n C 1 1 dX12_readTruth_15 rfl rfl ?_
        refine j_callVv C (d := 14) (As := [.int (sI 5)]) (st := []) 98 (s_lt rfl rfl) (s_kc (c := 11) rfl rfl) (by decide) rfl (s2_X12_readBoth hM140 hpr gf gn (nxF gf gn gq134) (by omega) (by omega) (by omega) (by omega) (by omega)) gX12_readTruth_X12_readBoth rfl hdX12_readBoth (by decide) (Nat.le_of_ble_eq_true rfl) dX12_readTruth_16 rfl (fun M148 h149 => ?_)
        obtain ⟨hM148, fM148, h150⟩ := h149
        have bM148 := tkm_b (f := gf) (n := gn) (M := M148) (by omega)
        have qM148 := po_rr (boP gf gn (unR gf gn 1)) gn (nxF gf gn gq134) (M140.1 98 11).toInt (M140.1 98 12).toInt (M140.1 98 6).toInt (M148.1 98 11).toInt (M148.1 98 12).toInt (M148.1 98 6).toInt (bo_g gf gn (unR_g gf gn 1)) (by omega) (by omega)
        have u151t := xw_t (M := M0) (N := M140) (P := M148) (r1 := 0) (e1 := 1) (s1 := 1) (r2 := 0) (e2 := 1) (s2 := 0) 0 2 1 (by decide) (by omega) (by omega)
        have u151l := ri_l (M := M148) (by omega)
        have u151b := cb_x (M := M0) (N := M148) (r := 0) (e := 2) (s := 1) (by decide) (by omega) (by omega) (by omega)
        refine j_aload_n C 0 0 dX12_readTruth_19 rfl rfl ?_
        refine y_sipush C dX12_readTruth_20 rfl ?_
        refine j_callVv C (d := 0) (As := [.int (sI 3008)]) (st := []) 98 (s_lt rfl rfl) (s_kc (c := 11) rfl rfl) (by decide) rfl (s1_X12_codes hM148 hpr 3008 (by omega) gf gn ((boP gf gn (unR gf gn 1)) (nxF gf gn gq134)).2.2 (by omega) (by omega) (by omega) (by omega)) gX12_readTruth_X12_codes rfl hdX12_codes (by decide) (Nat.le_of_ble_eq_true rfl) dX12_readTruth_23 rfl (fun M153 h154 => ?_)
        obtain ⟨hM153, fM153, h155⟩ := h154
        have bM153 := tkm_b (f := gf) (n := gn) (M := M153) (by omega)
        have qM153 := po_eq gn ((boP gf gn (unR gf gn 1)) (nxF gf gn gq134)).2.2 (M148.1 98 11).toInt (M148.1 98 6).toInt (M153.1 98 11).toInt (M153.1 98 6).toInt (by omega) (by omega) (by omega)
        refine j_goto C 5 dX12_readTruth_26 (by decide) ?_
        have u156x := xw_a (M := M148) (N := M153) (c := 3008) (r := 2) (e := (-1)) (FR.cell fM153 (by decide)) (ap_bin ⟨(INV.rd hM148 (i := 102) (c := 48) (k := 280) rfl rfl).1, by omega, by omega⟩) (by omega)
        have u156t := xw_t (M := M0) (N := M148) (P := M153) (r1 := 0) (e1 := 2) (s1 := 1) (r2 := 2) (e2 := (-1)) (s2 := (-1)) 0 1 0 (by decide) (by omega) (by omega)
        have u156i := ri_c (M := M148) (N := M153) (FR.cell fM153 (by decide)) (by omega)
        have u156l := ri_l (M := M153) (by omega)
        have u156L := ll_w (luP gf gn 1014 1014 (boP gf gn (unR gf gn 1))) gn ((boP gf gn (unR gf gn 1)) gi).2.2 ((boP gf gn (unR gf gn 1)) (nxF gf gn gq134)).2.2 (0 + 1) 0 (M103.1 98 11).toInt (M103.1 98 12).toInt (M153.1 98 11).toInt (M153.1 98 12).toInt (M153.1 98 6).toInt (by decide) (ll_s gf gn 1014 1014 (boP gf gn (unR gf gn 1)) ((boP gf gn (unR gf gn 1)) gi).2.2 gq134 0 (M103.1 98 11).toInt (M103.1 98 12).toInt (M133.1 98 11).toInt (M133.1 98 12).toInt (M133.1 98 6).toInt (M140.1 98 11).toInt (M140.1 98 12).toInt (M148.1 98 11).toInt (M148.1 98 12).toInt (M148.1 98 6).toInt (M153.1 98 11).toInt (M153.1 98 12).toInt (M153.1 98 6).toInt (by decide) (bo_g gf gn (unR_g gf gn 1)) (by omega) (by omega) (by omega) (by omega) (by omega) (by omega) (by omega) (by omega) (by omega))
        have zz98_8 : (M153.1 98 8).toInt = (M148.1 98 8).toInt := s_fF fM153 (by decide) (rfl); have zz98_6 : (M153.1 98 6).toInt = (M148.1 98 6).toInt := s_fF fM153 (by decide) (rfl); have zz98_12 : (M153.1 98 12).toInt = (M148.1 98 12).toInt := s_fF fM153 (by decide) (rfl); have zz98_11 : (M153.1 98 11).toInt = (M148.1 98 11).toInt := s_fF fM153 (by decide) (rfl); exact ih131 M153 ((boP gf gn (unR gf gn 1)) (nxF gf gn gq134)).2.2 (by omega) hM153 ((((FR.rf.tr fM133 (by decide)).tr fM140 (by decide)).tr fM148 (by decide)).tr fM153 (by decide))
  exact L132 2010 M103 ((boP gf gn (unR gf gn 1)) gi).2.2 (by omega) hM103 (FR.rf.tr fM103 (by decide))
set_option maxHeartbeats 4000000 in
theorem s3_X12_readUnit {l : Launch} {dC : Nat → ClassId} {dI : Nat → Nat → Nat} {ad : Nat → Nat} {cA : Nat → ClassId} {pr : Nat → Nat → Bool} {Kz : mm_M} {M0 : mm_M} (hM0 : INV pr Kz M0) (hpr : PM pr) (gf : Nat → Int) (gn : Int) (gi : Int) (hp0 : b01 (RIP M0) = 1) (hp1 : b01 (CA M0) = 1) (hp2 : b01 (TKM gf gn M0) = 1) (hp3 : b01 (PO gn gi (M0.1 98 11).toInt (M0.1 98 6).toInt) = 1) (hp4 : b01 (PI M0) = 1) : Cv l 16 yX12_readUnit wsX12_readUnit dC dI ad cA [.ref (ad 98), .int (sI 4)] M0 (fun M' => INV pr Kz M' ∧ FR [98, 102] M0 M' ∧ (b01 (RIP M') = 1) ∧ ((M'.1 98 8).toInt = (M0.1 98 8).toInt) ∧ ((M0.1 98 6).toInt ≤ (M'.1 98 6).toInt) ∧ (b01 (XW M0 M' 0 1 0) = 1) ∧ (b01 (CA M') = 1) ∧ (b01 (PI M') = 1) ∧ (b01 (TKM gf gn M') = 1) ∧ b01 (RR ((unR gf gn 2) gi) (M0.1 98 11).toInt (M0.1 98 12).toInt (M'.1 98 11).toInt (M'.1 98 12).toInt (M'.1 98 6).toInt) = 1) := by
  refine cv_of (cc := cX12_readUnit) (maxL := 3) (lv := [(0, .ref (ad 98)), (1, .int (sI 4))]) (by decide) rfl (Nat.le_of_ble_eq_true rfl) rfl ?_
  intro p e s m args below meth c A Q C hret
  have u101z := xw_0 M0
  have u101l := ri_l (M := M0) (by omega)
  refine j_aload_n C 0 0 dX12_readUnit_0 rfl rfl ?_
  refine y_bipush C dX12_readUnit_1 rfl ?_
  have k102 := tkm_K (f := gf) (n := gn) (M := M0) (by omega)
  have k103 := kd_2 (kdk_16 gf gn (M0.1 98 6).toInt) (by omega)
  refine j_callVi C (d := 0) (As := [.int (sI 16)]) (st := []) 98 (s_lt rfl rfl) (s_kc (c := 11) rfl rfl) (by decide) rfl (s1_X12_is hM0 16 (by omega)) gX12_readUnit_X12_is rfl hdX12_is (by decide) (Nat.le_of_ble_eq_true rfl) dX12_readUnit_3 rfl (fun r104 M105 h106 => ?_)
  obtain ⟨a108, rfl, rfl, h107⟩ := h106
  refine y_if_eq C 33 dX12_readUnit_6 (by decide) (by omega) (fun h109 => ?_) (fun h109 => ?_)
  · refine j_aload_n C 0 0 dX12_readUnit_33 rfl rfl ?_
    refine y_bipush C dX12_readUnit_34 rfl ?_
    have k110 := tkm_K (f := gf) (n := gn) (M := M0) (by omega)
    have k111 := kd_2 (kdk_37 gf gn (M0.1 98 6).toInt) (by omega)
    refine j_callVi C (d := 0) (As := [.int (sI 37)]) (st := []) 98 (s_lt rfl rfl) (s_kc (c := 11) rfl rfl) (by decide) rfl (s1_X12_is hM0 37 (by omega)) gX12_readUnit_X12_is rfl hdX12_is (by decide) (Nat.le_of_ble_eq_true rfl) dX12_readUnit_36 rfl (fun r112 M113 h114 => ?_)
    obtain ⟨a116, rfl, rfl, h115⟩ := h114
    refine y_if_eq C 73 dX12_readUnit_39 (by decide) (by omega) (fun h117 => ?_) (fun h117 => ?_)
    · refine j_aload_n C 0 0 dX12_readUnit_73 rfl rfl ?_
      refine j_iload_n C 1 1 dX12_readUnit_74 rfl rfl ?_
      refine j_callVv C (d := 15) (As := [.int (sI 4)]) (st := []) 98 (s_lt rfl rfl) (s_kc (c := 11) rfl rfl) (by decide) rfl (s3_X12_readSum hM0 hpr gf gn gi (by omega) (by omega) (by omega) (by omega) (by omega)) gX12_readUnit_X12_readSum rfl hdX12_readSum (by decide) (Nat.le_of_ble_eq_true rfl) dX12_readUnit_75 rfl (fun M119 h120 => ?_)
      obtain ⟨hM119, fM119, h121⟩ := h120
      have bM119 := tkm_b (f := gf) (n := gn) (M := M119) (by omega)
      have qM119 := po_rr (suR gf gn 2) gn gi (M0.1 98 11).toInt (M0.1 98 12).toInt (M0.1 98 6).toInt (M119.1 98 11).toInt (M119.1 98 12).toInt (M119.1 98 6).toInt (suR_g gf gn 2) (by omega) (by omega)
      have u122l := ri_l (M := M119) (by omega)
      refine j_aload_n C 0 0 dX12_readUnit_78 rfl rfl ?_
      refine y_bipush C dX12_readUnit_79 rfl ?_
      have k123 := tkm_K (f := gf) (n := gn) (M := M119) (by omega)
      have k124 := kd_2 (kdk_39 gf gn (M119.1 98 6).toInt) (by omega)
      refine j_callVi C (d := 0) (As := [.int (sI 39)]) (st := []) 98 (s_lt rfl rfl) (s_kc (c := 11) rfl rfl) (by decide) rfl (s1_X12_is hM119 39 (by omega)) gX12_readUnit_X12_is rfl hdX12_is (by decide) (Nat.le_of_ble_eq_true rfl) dX12_readUnit_81 rfl (fun r125 M126 h127 => ?_)
      obtain ⟨a129, rfl, rfl, h128⟩ := h127
      have J140 : ∀ (a139 : Int), (3003 ≤ a139 ∧ a139 ≤ 3005) → jj p l e (cn_R 16) s m args below meth c 0 0 Q 3 dC dI ad cA A M119 111 [(0, .ref (ad 98)), (1, .int (sI 4))] [.int (sI a139)] := by
        intro a139 h141
        refine j_istore_n C 2 [(2, .int (sI a139)), (0, .ref (ad 98)), (1, .int (sI 4))] dX12_readUnit_111 rfl (by decide) rfl ?_
        refine j_aload_n C 1 0 dX12_readUnit_112 rfl rfl ?_
        refine y_bipush C dX12_readUnit_113 rfl ?_
        have k142 := tkm_K (f := gf) (n := gn) (M := M119) (by omega)
        have k143 := kd_2 (kdk_39 gf gn (M119.1 98 6).toInt) (by omega)
        refine j_callVi C (d := 0) (As := [.int (sI 39)]) (st := []) 98 (s_lt rfl rfl) (s_kc (c := 11) rfl rfl) (by decide) rfl (s1_X12_is hM119 39 (by omega)) gX12_readUnit_X12_is rfl hdX12_is (by decide) (Nat.le_of_ble_eq_true rfl) dX12_readUnit_115 rfl (fun r144 M145 h146 => ?_)
        obtain ⟨a148, rfl, rfl, h147⟩ := h146
        have J196 : ∀ (M195 : mm_M), ((b01 (RIP M195) = 1) ∧ ((M195.1 98 8).toInt = (M0.1 98 8).toInt) ∧ ((M0.1 98 6).toInt ≤ (M195.1 98 6).toInt) ∧ (b01 (XW M0 M195 0 1 1) = 1) ∧ (b01 (RR ((sjP gf gn 2) gi) (M0.1 98 11).toInt (M0.1 98 12).toInt (M195.1 98 11).toInt (M195.1 98 12).toInt (M195.1 98 6).toInt) = 1) ∧ (b01 (TKM gf gn M195) = 1) ∧ (b01 (PO gn ((sjP gf gn 2) gi).2.2 (M195.1 98 11).toInt (M195.1 98 6).toInt) = 1) ∧ (b01 (PI M195) = 1)) → INV pr Kz M195 → FR [98, 102] M0 M195 → jj p l e (cn_R 16) s m args below meth c 0 0 Q 3 dC dI ad cA A M195 151 [(0, .ref (ad 98)), (1, .int (sI 4)), (2, .int (sI a139))] [] := by
          intro M195 h197 hM195 fM195
          have u199a := ca_x (M := M0) (N := M195) (r := 0) (e := 1) (s := 1) (by decide) (by omega) (by omega)
          have u199l := ri_l (M := M195) (by omega)
          refine j_aload_n C 0 0 dX12_readUnit_151 rfl rfl ?_
          refine j_iload_n C 1 1 dX12_readUnit_152 rfl rfl ?_
          refine j_callVv C (d := 15) (As := [.int (sI 4)]) (st := []) 98 (s_lt rfl rfl) (s_kc (c := 11) rfl rfl) (by decide) rfl (s3_X12_readSum hM195 hpr gf gn ((sjP gf gn 2) gi).2.2 (by omega) (by omega) (by omega) (by omega) (by omega)) gX12_readUnit_X12_readSum rfl hdX12_readSum (by decide) (Nat.le_of_ble_eq_true rfl) dX12_readUnit_153 rfl (fun M201 h202 => ?_)
          obtain ⟨hM201, fM201, h203⟩ := h202
          have bM201 := tkm_b (f := gf) (n := gn) (M := M201) (by omega)
          have qM201 := po_rr (suR gf gn 2) gn ((sjP gf gn 2) gi).2.2 (M195.1 98 11).toInt (M195.1 98 12).toInt (M195.1 98 6).toInt (M201.1 98 11).toInt (M201.1 98 12).toInt (M201.1 98 6).toInt (suR_g gf gn 2) (by omega) (by omega)
          have u204t := xw_t (M := M0) (N := M195) (P := M201) (r1 := 0) (e1 := 1) (s1 := 1) (r2 := 0) (e2 := 1) (s2 := 0) 0 2 1 (by decide) (by omega) (by omega)
          have u204l := ri_l (M := M201) (by omega)
          have u204b := cb_x (M := M0) (N := M201) (r := 0) (e := 2) (s := 1) (by decide) (by omega) (by omega) (by omega)
          refine j_aload_n C 0 0 dX12_readUnit_156 rfl rfl ?_
          refine j_iload_n C 2 2 dX12_readUnit_157 rfl rfl ?_
          refine j_callVv C (d := 0) (As := [.int (sI a139)]) (st := []) 98 (s_lt rfl rfl) (s_kc (c := 11) rfl rfl) (by decide) rfl (s1_X12_codes hM201 hpr a139 (by omega) gf gn ((suR gf gn 2) ((sjP gf gn 2) gi).2.2).2.2 (by omega) (by omega) (by omega) (by omega)) gX12_readUnit_X12_codes rfl hdX12_codes (by decide) (Nat.le_of_ble_eq_true rfl) dX12_readUnit_158 rfl (fun M206 h207 => ?_)
          obtain ⟨hM206, fM206, h208⟩ := h207
          have bM206 := tkm_b (f := gf) (n := gn) (M := M206) (by omega)
          have qM206 := po_eq gn ((suR gf gn 2) ((sjP gf gn 2) gi).2.2).2.2 (M201.1 98 11).toInt (M201.1 98 6).toInt (M206.1 98 11).toInt (M206.1 98 6).toInt (by omega) (by omega) (by omega)
          have u209x := xw_a (M := M201) (N := M206) (c := a139) (r := 2) (e := (-1)) (FR.cell fM206 (by decide)) (ap_bin ⟨(INV.rd hM201 (i := 102) (c := 48) (k := 280) rfl rfl).1, by omega, by omega⟩) (by omega)
          have u209t := xw_t (M := M0) (N := M201) (P := M206) (r1 := 0) (e1 := 2) (s1 := 1) (r2 := 2) (e2 := (-1)) (s2 := (-1)) 0 1 0 (by decide) (by omega) (by omega)
          have u209i := ri_c (M := M201) (N := M206) (FR.cell fM206 (by decide)) (by omega)
          have u209l := ri_l (M := M206) (by omega)
          have u209a := ca_x (M := M0) (N := M206) (r := 0) (e := 1) (s := 0) (by decide) (by omega) (by omega)
          have u210r := un_6 gf gn 2 gi (M0.1 98 11).toInt (M0.1 98 12).toInt (M0.1 98 6).toInt (M195.1 98 11).toInt (M195.1 98 12).toInt (M195.1 98 6).toInt (M201.1 98 11).toInt (M201.1 98 12).toInt (M201.1 98 6).toInt (M206.1 98 11).toInt (M206.1 98 12).toInt (M206.1 98 6).toInt (by omega) (by omega) (by omega) (by omega) (by omega) (by omega) (by omega)
          have zz98_11 : (M206.1 98 11).toInt = (M201.1 98 11).toInt := s_fF fM206 (by decide) (rfl); have zz98_12 : (M206.1 98 12).toInt = (M201.1 98 12).toInt := s_fF fM206 (by decide) (rfl); have zz98_6 : (M206.1 98 6).toInt = (M201.1 98 6).toInt := s_fF fM206 (by decide) (rfl); have zz98_8 : (M206.1 98 8).toInt = (M201.1 98 8).toInt := s_fF fM206 (by decide) (rfl); exact hret _ _ _ dX12_readUnit_161 ⟨hM206, (((FR.rf.tr fM195 (by decide)).tr fM201 (by decide)).tr fM206 (by decide)), by omega⟩
        refine y_if_ne C 139 dX12_readUnit_118 (by decide) (by omega) (fun h149 => ?_) (fun h149 => ?_)
        · have u150k := ri_k (M := M119) (by omega) (by omega)
          refine j_aload_n C 1 0 dX12_readUnit_139 rfl rfl ?_
          have k151 := tkm_p (f := gf) (n := gn) (M := M119) (by omega)
          have k152 := tkm_K (f := gf) (n := gn) (M := M119) (by omega)
          refine j_callVv C (d := 5) (As := []) (st := []) 98 (s_lt rfl rfl) (s_kc (c := 11) rfl rfl) (by decide) rfl (s1_X12_next hM119 hpr gf gn (by omega) (by omega) (by omega) (by omega)) gX12_readUnit_X12_next rfl hdX12_next (by decide) (Nat.le_of_ble_eq_true rfl) dX12_readUnit_140 rfl (fun M154 h155 => ?_)
          obtain ⟨hM154, fM154, h156⟩ := h155
          have bM154 := tkm_b (f := gf) (n := gn) (M := M154) (by omega)
          have qM154 := nx_po (f := gf) (n := gn) (i := ((suR gf gn 2) gi).2.2) (M := M119) (M' := M154) (by omega) (by omega) (by omega) (by omega) (by omega)
          refine j_goto C 151 dX12_readUnit_143 (by decide) ?_
          have u157c := xw_c (N := M119) (P := M154) 1 (FR.cell fM154 (by decide)) (by omega)
          have u157t := xw_t (M := M0) (N := M119) (P := M154) (r1 := 0) (e1 := 1) (s1 := 0) (r2 := 0) (e2 := 0) (s2 := 1) 0 1 1 (by decide) (by omega) (by omega)
          have u157l := ri_l (M := M154) (by omega)
          have u157J := cj_1 gf gn 2 gi (M0.1 98 11).toInt (M0.1 98 12).toInt (M119.1 98 11).toInt (M119.1 98 12).toInt (M119.1 98 6).toInt (M154.1 98 11).toInt (M154.1 98 12).toInt (M154.1 98 6).toInt (by omega) (by omega) (by omega) (by omega) (by omega) (by omega) (by omega)
          have u157P := po_rr (sjP gf gn 2) gn gi (M0.1 98 11).toInt (M0.1 98 12).toInt (M0.1 98 6).toInt (M154.1 98 11).toInt (M154.1 98 12).toInt (M154.1 98 6).toInt (sj_g gf gn 2) (by omega) (by omega)
          refine j_lv [1, 2, 0] rfl ?_; exact J196 M154 (by omega) hM154 ((FR.rf.tr fM119 (by decide)).tr fM154 (by decide))
        · refine j_aload_n C 1 0 dX12_readUnit_121 rfl rfl ?_
          refine y_bipush C dX12_readUnit_122 rfl ?_
          have k158 := tkm_K (f := gf) (n := gn) (M := M119) (by omega)
          have k159 := kd_2 (kdk_40 gf gn (M119.1 98 6).toInt) (by omega)
          refine j_callVi C (d := 0) (As := [.int (sI 40)]) (st := []) 98 (s_lt rfl rfl) (s_kc (c := 11) rfl rfl) (by decide) rfl (s1_X12_is hM119 40 (by omega)) gX12_readUnit_X12_is rfl hdX12_is (by decide) (Nat.le_of_ble_eq_true rfl) dX12_readUnit_124 rfl (fun r160 M161 h162 => ?_)
          obtain ⟨a164, rfl, rfl, h163⟩ := h162
          refine y_if_ne C 139 dX12_readUnit_127 (by decide) (by omega) (fun h165 => ?_) (fun h165 => ?_)
          · have u166k := ri_k (M := M119) (by omega) (by omega)
            refine j_aload_n C 1 0 dX12_readUnit_139 rfl rfl ?_
            have k167 := tkm_p (f := gf) (n := gn) (M := M119) (by omega)
            have k168 := tkm_K (f := gf) (n := gn) (M := M119) (by omega)
            refine j_callVv C (d := 5) (As := []) (st := []) 98 (s_lt rfl rfl) (s_kc (c := 11) rfl rfl) (by decide) rfl (s1_X12_next hM119 hpr gf gn (by omega) (by omega) (by omega) (by omega)) gX12_readUnit_X12_next rfl hdX12_next (by decide) (Nat.le_of_ble_eq_true rfl) dX12_readUnit_140 rfl (fun M170 h171 => ?_)
            obtain ⟨hM170, fM170, h172⟩ := h171
            have bM170 := tkm_b (f := gf) (n := gn) (M := M170) (by omega)
            have qM170 := nx_po (f := gf) (n := gn) (i := ((suR gf gn 2) gi).2.2) (M := M119) (M' := M170) (by omega) (by omega) (by omega) (by omega) (by omega)
            refine j_goto C 151 dX12_readUnit_143 (by decide) ?_
            have u173c := xw_c (N := M119) (P := M170) 1 (FR.cell fM170 (by decide)) (by omega)
            have u173t := xw_t (M := M0) (N := M119) (P := M170) (r1 := 0) (e1 := 1) (s1 := 0) (r2 := 0) (e2 := 0) (s2 := 1) 0 1 1 (by decide) (by omega) (by omega)
            have u173l := ri_l (M := M170) (by omega)
            have u173J := cj_1 gf gn 2 gi (M0.1 98 11).toInt (M0.1 98 12).toInt (M119.1 98 11).toInt (M119.1 98 12).toInt (M119.1 98 6).toInt (M170.1 98 11).toInt (M170.1 98 12).toInt (M170.1 98 6).toInt (by omega) (by omega) (by omega) (by omega) (by omega) (by omega) (by omega)
            have u173P := po_rr (sjP gf gn 2) gn gi (M0.1 98 11).toInt (M0.1 98 12).toInt (M0.1 98 6).toInt (M170.1 98 11).toInt (M170.1 98 12).toInt (M170.1 98 6).toInt (sj_g gf gn 2) (by omega) (by omega)
            refine j_lv [1, 2, 0] rfl ?_; exact J196 M170 (by omega) hM170 ((FR.rf.tr fM119 (by decide)).tr fM170 (by decide))
          · refine j_aload_n C 1 0 dX12_readUnit_130 rfl rfl ?_
            refine y_bipush C dX12_readUnit_131 rfl ?_
            have k174 := tkm_K (f := gf) (n := gn) (M := M119) (by omega)
            have k175 := kd_2 (kdk_41 gf gn (M119.1 98 6).toInt) (by omega)
            refine j_callVi C (d := 0) (As := [.int (sI 41)]) (st := []) 98 (s_lt rfl rfl) (s_kc (c := 11) rfl rfl) (by decide) rfl (s1_X12_is hM119 41 (by omega)) gX12_readUnit_X12_is rfl hdX12_is (by decide) (Nat.le_of_ble_eq_true rfl) dX12_readUnit_133 rfl (fun r176 M177 h178 => ?_)
            obtain ⟨a180, rfl, rfl, h179⟩ := h178
            refine y_if_eq C 146 dX12_readUnit_136 (by decide) (by omega) (fun h181 => ?_) (fun h181 => ?_)
            · refine j_aload_n C 1 0 dX12_readUnit_146 rfl rfl ?_
              refine y_iconst C dX12_readUnit_147 ?_
              refine j_callVv C (d := 0) (As := [.int (sI 2)]) (st := []) 98 (s_lt rfl rfl) (s_kc (c := 11) rfl rfl) (by decide) rfl (s1_X12_fails hM119 hpr 2 (by omega) gf gn ((suR gf gn 2) gi).2.2 (by omega) (by omega) (by omega) (by omega) (by omega)) gX12_readUnit_X12_fails rfl hdX12_fails (by decide) (Nat.le_of_ble_eq_true rfl) dX12_readUnit_148 rfl (fun M183 h184 => ?_)
              obtain ⟨hM183, fM183, h185⟩ := h184
              have bM183 := tkm_b (f := gf) (n := gn) (M := M183) (by omega)
              have qM183 := po_f gn ((faQ gf gn 2) ((suR gf gn 2) gi).2.2).2.2 (M183.1 98 11).toInt (M183.1 98 6).toInt (by omega)
              have u186f : b01 (XW M0 M183 0 1 1) = 1 := b01_i (Or.inl (by omega))
              have u186l := ri_l (M := M183) (by omega)
              have u186J := cj_2 gf gn 2 gi (M0.1 98 11).toInt (M0.1 98 12).toInt (M119.1 98 11).toInt (M119.1 98 12).toInt (M119.1 98 6).toInt (M183.1 98 11).toInt (M183.1 98 12).toInt (M183.1 98 6).toInt (by omega) (by omega) (by omega) (by omega)
              have u186P := po_rr (sjP gf gn 2) gn gi (M0.1 98 11).toInt (M0.1 98 12).toInt (M0.1 98 6).toInt (M183.1 98 11).toInt (M183.1 98 12).toInt (M183.1 98 6).toInt (sj_g gf gn 2) (by omega) (by omega)
              refine j_lv [1, 2, 0] rfl ?_; exact J196 M183 (by omega) hM183 ((FR.rf.tr fM119 (by decide)).tr fM183 (by decide))
            · have u187k := ri_k (M := M119) (by omega) (by omega)
              refine j_aload_n C 1 0 dX12_readUnit_139 rfl rfl ?_
              have k188 := tkm_p (f := gf) (n := gn) (M := M119) (by omega)
              have k189 := tkm_K (f := gf) (n := gn) (M := M119) (by omega)
              refine j_callVv C (d := 5) (As := []) (st := []) 98 (s_lt rfl rfl) (s_kc (c := 11) rfl rfl) (by decide) rfl (s1_X12_next hM119 hpr gf gn (by omega) (by omega) (by omega) (by omega)) gX12_readUnit_X12_next rfl hdX12_next (by decide) (Nat.le_of_ble_eq_true rfl) dX12_readUnit_140 rfl (fun M191 h192 => ?_)
              obtain ⟨hM191, fM191, h193⟩ := h192
              have bM191 := tkm_b (f := gf) (n := gn) (M := M191) (by omega)
              have qM191 := nx_po (f := gf) (n := gn) (i := ((suR gf gn 2) gi).2.2) (M := M119) (M' := M191) (by omega) (by omega) (by omega) (by omega) (by omega)
              refine j_goto C 151 dX12_readUnit_143 (by decide) ?_
              have u194c := xw_c (N := M119) (P := M191) 1 (FR.cell fM191 (by decide)) (by omega)
              have u194t := xw_t (M := M0) (N := M119) (P := M191) (r1 := 0) (e1 := 1) (s1 := 0) (r2 := 0) (e2 := 0) (s2 := 1) 0 1 1 (by decide) (by omega) (by omega)
              have u194l := ri_l (M := M191) (by omega)
              have u194J := cj_1 gf gn 2 gi (M0.1 98 11).toInt (M0.1 98 12).toInt (M119.1 98 11).toInt (M119.1 98 12).toInt (M119.1 98 6).toInt (M191.1 98 11).toInt (M191.1 98 12).toInt (M191.1 98 6).toInt (by omega) (by omega) (by omega) (by omega) (by omega) (by omega) (by omega)
              have u194P := po_rr (sjP gf gn 2) gn gi (M0.1 98 11).toInt (M0.1 98 12).toInt (M0.1 98 6).toInt (M191.1 98 11).toInt (M191.1 98 12).toInt (M191.1 98 6).toInt (sj_g gf gn 2) (by omega) (by omega)
              refine j_lv [1, 2, 0] rfl ?_; exact J196 M191 (by omega) hM191 ((FR.rf.tr fM119 (by decide)).tr fM191 (by decide))
      refine y_if_eq C 93 dX12_readUnit_84 (by decide) (by omega) (fun h130 => ?_) (fun h130 => ?_)
      · refine j_aload_n C 0 0 dX12_readUnit_93 rfl rfl ?_
        refine y_bipush C dX12_readUnit_94 rfl ?_
        have k131 := tkm_K (f := gf) (n := gn) (M := M119) (by omega)
        have k132 := kd_2 (kdk_40 gf gn (M119.1 98 6).toInt) (by omega)
        refine j_callVi C (d := 0) (As := [.int (sI 40)]) (st := []) 98 (s_lt rfl rfl) (s_kc (c := 11) rfl rfl) (by decide) rfl (s1_X12_is hM119 40 (by omega)) gX12_readUnit_X12_is rfl hdX12_is (by decide) (Nat.le_of_ble_eq_true rfl) dX12_readUnit_96 rfl (fun r133 M134 h135 => ?_)
        obtain ⟨a137, rfl, rfl, h136⟩ := h135
        refine y_if_eq C 108 dX12_readUnit_99 (by decide) (by omega) (fun h138 => ?_) (fun h138 => ?_)
        · refine y_sipush C dX12_readUnit_108 rfl ?_
          exact J140 3005 (by omega)
        · refine y_sipush C dX12_readUnit_102 rfl ?_
          refine j_goto C 111 dX12_readUnit_105 (by decide) ?_
          exact J140 3004 (by omega)
      · refine y_sipush C dX12_readUnit_87 rfl ?_
        refine j_goto C 111 dX12_readUnit_90 (by decide) ?_
        exact J140 3003 (by omega)
    · have u211k := ri_k (M := M0) (by omega) (by omega)
      refine j_aload_n C 0 0 dX12_readUnit_42 rfl rfl ?_
      refine j_iload_n C 1 1 dX12_readUnit_43 rfl rfl ?_
      refine j_callVi C (d := 6) (As := [.int (sI 4)]) (st := []) 98 (s_lt rfl rfl) (s_kc (c := 11) rfl rfl) (by decide) rfl (s5_X12_goesIn hM0 hpr gf gn gi (by omega) (by omega) (by omega) (by omega) (by omega) (by omega) (by omega)) gX12_readUnit_X12_goesIn rfl hdX12_goesIn (by decide) (Nat.le_of_ble_eq_true rfl) dX12_readUnit_44 rfl (fun r212 M213 h214 => ?_)
      obtain ⟨a216, rfl, hM213, fM213, h215⟩ := h214
      have bM213 := tkm_b (f := gf) (n := gn) (M := M213) (by omega)
      refine y_if_ne C 51 dX12_readUnit_47 (by decide) (by omega) (fun h217 => ?_) (fun h217 => ?_)
      · have u218c := xw_c (N := M0) (P := M213) 1 (FR.cell fM213 (by decide)) (by omega)
        have u218t := xw_t (M := M0) (N := M0) (P := M213) (r1 := 0) (e1 := 0) (s1 := 0) (r2 := 0) (e2 := 0) (s2 := 1) 0 0 1 (by decide) (by omega) (by omega)
        have u218a := ca_x (M := M0) (N := M213) (r := 0) (e := 0) (s := 1) (by decide) (by omega) (by omega)
        have u218l := ri_l (M := M213) (by omega)
        refine j_aload_n C 0 0 dX12_readUnit_51 rfl rfl ?_
        refine j_iload_n C 1 1 dX12_readUnit_52 rfl rfl ?_
        refine y_iconst C dX12_readUnit_53 ?_
        refine y_iadd C dX12_readUnit_54 ?_
        refine j_callVv C (d := 15) (As := [.int (sI (4 + 1))]) (st := []) 98 (s_lt rfl rfl) (s_kc (c := 11) rfl rfl) (by decide) rfl (s2_X12_readTruth hM213 hpr gf gn (nxF gf gn gi) (by omega) (by omega) (by omega) (by omega) (by omega)) gX12_readUnit_X12_readTruth rfl hdX12_readTruth (by decide) (Nat.le_of_ble_eq_true rfl) dX12_readUnit_55 rfl (fun M220 h221 => ?_)
        obtain ⟨hM220, fM220, h222⟩ := h221
        have bM220 := tkm_b (f := gf) (n := gn) (M := M220) (by omega)
        have qM220 := po_rr (trP gf gn (unR gf gn 1)) gn (nxF gf gn gi) (M213.1 98 11).toInt (M213.1 98 12).toInt (M213.1 98 6).toInt (M220.1 98 11).toInt (M220.1 98 12).toInt (M220.1 98 6).toInt (tr_g gf gn (unR_g gf gn 1)) (by omega) (by omega)
        have u223t := xw_t (M := M0) (N := M213) (P := M220) (r1 := 0) (e1 := 0) (s1 := 1) (r2 := 0) (e2 := 1) (s2 := 0) 0 1 1 (by decide) (by omega) (by omega)
        have u223l := ri_l (M := M220) (by omega)
        refine j_aload_n C 0 0 dX12_readUnit_58 rfl rfl ?_
        refine y_bipush C dX12_readUnit_59 rfl ?_
        have k224 := tkm_K (f := gf) (n := gn) (M := M220) (by omega)
        have k225 := kd_2 (kdk_38 gf gn (M220.1 98 6).toInt) (by omega)
        refine j_callVi C (d := 6) (As := [.int (sI 38)]) (st := []) 98 (s_lt rfl rfl) (s_kc (c := 11) rfl rfl) (by decide) rfl (s1_X12_eats hM220 hpr 38 (by omega) gf gn ((trP gf gn (unR gf gn 1)) (nxF gf gn gi)).2.2 (by omega) (by omega) (by omega) (by omega) (by omega)) gX12_readUnit_X12_eats rfl hdX12_eats (by decide) (Nat.le_of_ble_eq_true rfl) dX12_readUnit_61 rfl (fun r226 M227 h228 => ?_)
        obtain ⟨a230, rfl, hM227, fM227, h229⟩ := h228
        have k231 := tk_c gf gn (M227.1 98 6).toInt (M220.1 98 6).toInt
        have bM227 := tkm_b (f := gf) (n := gn) (M := M227) (by omega)
        have u232c := xw_c (N := M220) (P := M227) 0 (FR.cell fM227 (by decide)) (by omega)
        have u232t := xw_t (M := M0) (N := M220) (P := M227) (r1 := 0) (e1 := 1) (s1 := 1) (r2 := 0) (e2 := 0) (s2 := 0) 0 1 0 (by decide) (by omega) (by omega)
        have u232l := ri_l (M := M227) (by omega)
        refine y_if_ne C 72 dX12_readUnit_64 (by decide) (by omega) (fun h233 => ?_) (fun h233 => ?_)
        · have u234a := ca_x (M := M0) (N := M227) (r := 0) (e := 1) (s := 0) (by decide) (by omega) (by omega)
          have u235x := ex_1 gf gn 2093 ((trP gf gn (unR gf gn 1)) (nxF gf gn gi)).2.2 (M220.1 98 11).toInt (M220.1 98 12).toInt (M220.1 98 6).toInt (M227.1 98 11).toInt (M227.1 98 12).toInt (M227.1 98 6).toInt (by omega) (by omega) (by omega) (by omega) (by omega) (by omega)
          have u235r := un_2 gf gn 1 2 rfl gi (M0.1 98 11).toInt (M0.1 98 12).toInt (M0.1 98 6).toInt (M213.1 98 11).toInt (M213.1 98 12).toInt (M220.1 98 11).toInt (M220.1 98 12).toInt (M220.1 98 6).toInt (M227.1 98 11).toInt (M227.1 98 12).toInt (M227.1 98 6).toInt (by omega) (by omega) (by omega) (by omega) (by omega) (by omega)
          exact hret _ _ _ dX12_readUnit_72 ⟨hM227, (((FR.rf.tr fM213 (by decide)).tr fM220 (by decide)).tr fM227 (by decide)), by omega⟩
        · refine j_aload_n C 0 0 dX12_readUnit_67 rfl rfl ?_
          refine y_iconst C dX12_readUnit_68 ?_
          have p236 := po_eq gn ((trP gf gn (unR gf gn 1)) (nxF gf gn gi)).2.2 (M220.1 98 11).toInt (M220.1 98 6).toInt (M227.1 98 11).toInt (M227.1 98 6).toInt (by omega) (by omega) (by omega)
          refine j_callVv C (d := 0) (As := [.int (sI 2)]) (st := []) 98 (s_lt rfl rfl) (s_kc (c := 11) rfl rfl) (by decide) rfl (s1_X12_fails hM227 hpr 2 (by omega) gf gn ((trP gf gn (unR gf gn 1)) (nxF gf gn gi)).2.2 (by omega) (by omega) (by omega) (by omega) (by omega)) gX12_readUnit_X12_fails rfl hdX12_fails (by decide) (Nat.le_of_ble_eq_true rfl) dX12_readUnit_69 rfl (fun M238 h239 => ?_)
          obtain ⟨hM238, fM238, h240⟩ := h239
          have bM238 := tkm_b (f := gf) (n := gn) (M := M238) (by omega)
          have qM238 := po_f gn ((faQ gf gn 2) ((trP gf gn (unR gf gn 1)) (nxF gf gn gi)).2.2).2.2 (M238.1 98 11).toInt (M238.1 98 6).toInt (by omega)
          have u241f : b01 (XW M0 M238 0 1 0) = 1 := b01_i (Or.inl (by omega))
          have u241a := ca_x (M := M0) (N := M238) (r := 0) (e := 1) (s := 0) (by decide) (by omega) (by omega)
          have u242x := ex_2z gf gn 2093 ((trP gf gn (unR gf gn 1)) (nxF gf gn gi)).2.2 (M220.1 98 11).toInt (M220.1 98 12).toInt (M220.1 98 6).toInt (M238.1 98 11).toInt (M238.1 98 12).toInt (M238.1 98 6).toInt (by omega) (by omega) (rr_fr (faQ gf gn 2 ((trP gf gn (unR gf gn 1)) (nxF gf gn gi)).2.2) (M220.1 98 11).toInt (M220.1 98 12).toInt (M227.1 98 11).toInt (M227.1 98 12).toInt (M238.1 98 11).toInt (M238.1 98 12).toInt (M238.1 98 6).toInt (by omega) (by omega) (by omega))
          have u242r := un_2 gf gn 1 2 rfl gi (M0.1 98 11).toInt (M0.1 98 12).toInt (M0.1 98 6).toInt (M213.1 98 11).toInt (M213.1 98 12).toInt (M220.1 98 11).toInt (M220.1 98 12).toInt (M220.1 98 6).toInt (M238.1 98 11).toInt (M238.1 98 12).toInt (M238.1 98 6).toInt (by omega) (by omega) (by omega) (by omega) (by omega) (by omega)
          exact hret _ _ _ dX12_readUnit_72 ⟨hM238, ((((FR.rf.tr fM213 (by decide)).tr fM220 (by decide)).tr fM227 (by decide)).tr fM238 (by decide)), by omega⟩
      · exfalso; omega
  · have u243k := ri_k (M := M0) (by omega) (by omega)
    refine j_aload_n C 0 0 dX12_readUnit_9 rfl rfl ?_
    refine j_iload_n C 1 1 dX12_readUnit_10 rfl rfl ?_
    refine j_callVi C (d := 6) (As := [.int (sI 4)]) (st := []) 98 (s_lt rfl rfl) (s_kc (c := 11) rfl rfl) (by decide) rfl (s5_X12_goesIn hM0 hpr gf gn gi (by omega) (by omega) (by omega) (by omega) (by omega) (by omega) (by omega)) gX12_readUnit_X12_goesIn rfl hdX12_goesIn (by decide) (Nat.le_of_ble_eq_true rfl) dX12_readUnit_11 rfl (fun r244 M245 h246 => ?_)
    obtain ⟨a248, rfl, hM245, fM245, h247⟩ := h246
    have bM245 := tkm_b (f := gf) (n := gn) (M := M245) (by omega)
    refine y_if_ne C 18 dX12_readUnit_14 (by decide) (by omega) (fun h249 => ?_) (fun h249 => ?_)
    · have u250c := xw_c (N := M0) (P := M245) 1 (FR.cell fM245 (by decide)) (by omega)
      have u250t := xw_t (M := M0) (N := M0) (P := M245) (r1 := 0) (e1 := 0) (s1 := 0) (r2 := 0) (e2 := 0) (s2 := 1) 0 0 1 (by decide) (by omega) (by omega)
      have u250a := ca_x (M := M0) (N := M245) (r := 0) (e := 0) (s := 1) (by decide) (by omega) (by omega)
      have u250l := ri_l (M := M245) (by omega)
      refine j_aload_n C 0 0 dX12_readUnit_18 rfl rfl ?_
      refine j_iload_n C 1 1 dX12_readUnit_19 rfl rfl ?_
      refine y_iconst C dX12_readUnit_20 ?_
      refine y_iadd C dX12_readUnit_21 ?_
      refine j_callVv C (d := 13) (As := [.int (sI (4 + 1))]) (st := []) 98 (s_lt rfl rfl) (s_kc (c := 11) rfl rfl) (by decide) rfl (s2_X12_readUnit hM245 hpr gf gn (nxF gf gn gi) (by omega) (by omega) (by omega) (by omega) (by omega)) gX12_readUnit_X12_readUnit rfl hdX12_readUnit (by decide) (Nat.le_of_ble_eq_true rfl) dX12_readUnit_22 rfl (fun M252 h253 => ?_)
      obtain ⟨hM252, fM252, h254⟩ := h253
      have bM252 := tkm_b (f := gf) (n := gn) (M := M252) (by omega)
      have qM252 := po_rr (unR gf gn 1) gn (nxF gf gn gi) (M245.1 98 11).toInt (M245.1 98 12).toInt (M245.1 98 6).toInt (M252.1 98 11).toInt (M252.1 98 12).toInt (M252.1 98 6).toInt (unR_g gf gn 1) (by omega) (by omega)
      have u255t := xw_t (M := M0) (N := M245) (P := M252) (r1 := 0) (e1 := 0) (s1 := 1) (r2 := 0) (e2 := 1) (s2 := 0) 0 1 1 (by decide) (by omega) (by omega)
      have u255l := ri_l (M := M252) (by omega)
      have u255b := cb_x (M := M0) (N := M252) (r := 0) (e := 1) (s := 1) (by decide) (by omega) (by omega) (by omega)
      refine j_aload_n C 0 0 dX12_readUnit_25 rfl rfl ?_
      refine y_sipush C dX12_readUnit_26 rfl ?_
      refine j_callVv C (d := 0) (As := [.int (sI 3006)]) (st := []) 98 (s_lt rfl rfl) (s_kc (c := 11) rfl rfl) (by decide) rfl (s1_X12_codes hM252 hpr 3006 (by omega) gf gn ((unR gf gn 1) (nxF gf gn gi)).2.2 (by omega) (by omega) (by omega) (by omega)) gX12_readUnit_X12_codes rfl hdX12_codes (by decide) (Nat.le_of_ble_eq_true rfl) dX12_readUnit_29 rfl (fun M257 h258 => ?_)
      obtain ⟨hM257, fM257, h259⟩ := h258
      have bM257 := tkm_b (f := gf) (n := gn) (M := M257) (by omega)
      have qM257 := po_eq gn ((unR gf gn 1) (nxF gf gn gi)).2.2 (M252.1 98 11).toInt (M252.1 98 6).toInt (M257.1 98 11).toInt (M257.1 98 6).toInt (by omega) (by omega) (by omega)
      have u260x := xw_a (M := M252) (N := M257) (c := 3006) (r := 1) (e := 0) (FR.cell fM257 (by decide)) (ap_not (INV.rd hM252 (i := 102) (c := 48) (k := 280) rfl rfl).1) (by omega)
      have u260t := xw_t (M := M0) (N := M252) (P := M257) (r1 := 0) (e1 := 1) (s1 := 1) (r2 := 1) (e2 := 0) (s2 := (-1)) 0 1 0 (by decide) (by omega) (by omega)
      have u260i := ri_c (M := M252) (N := M257) (FR.cell fM257 (by decide)) (by omega)
      have u260l := ri_l (M := M257) (by omega)
      have u260a := ca_x (M := M0) (N := M257) (r := 0) (e := 1) (s := 0) (by decide) (by omega) (by omega)
      have u261r := un_1 gf gn 1 2 rfl gi (M0.1 98 11).toInt (M0.1 98 12).toInt (M0.1 98 6).toInt (M245.1 98 11).toInt (M245.1 98 12).toInt (M252.1 98 11).toInt (M252.1 98 12).toInt (M252.1 98 6).toInt (M257.1 98 11).toInt (M257.1 98 12).toInt (M257.1 98 6).toInt (by omega) (by omega) (by omega) (by omega) (by omega) (by omega) (by omega) (by omega)
      have zz98_11 : (M257.1 98 11).toInt = (M252.1 98 11).toInt := s_fF fM257 (by decide) (rfl); have zz98_12 : (M257.1 98 12).toInt = (M252.1 98 12).toInt := s_fF fM257 (by decide) (rfl); have zz98_6 : (M257.1 98 6).toInt = (M252.1 98 6).toInt := s_fF fM257 (by decide) (rfl); have zz98_8 : (M257.1 98 8).toInt = (M252.1 98 8).toInt := s_fF fM257 (by decide) (rfl); exact hret _ _ _ dX12_readUnit_32 ⟨hM257, (((FR.rf.tr fM245 (by decide)).tr fM252 (by decide)).tr fM257 (by decide)), by omega⟩
    · exfalso; omega
set_option maxHeartbeats 4000000 in
theorem s3_X12_readBoth {l : Launch} {dC : Nat → ClassId} {dI : Nat → Nat → Nat} {ad : Nat → Nat} {cA : Nat → ClassId} {pr : Nat → Nat → Bool} {Kz : mm_M} {M0 : mm_M} (hM0 : INV pr Kz M0) (hpr : PM pr) (gf : Nat → Int) (gn : Int) (gi : Int) (hp0 : b01 (RIP M0) = 1) (hp1 : b01 (CA M0) = 1) (hp2 : b01 (TKM gf gn M0) = 1) (hp3 : b01 (PO gn gi (M0.1 98 11).toInt (M0.1 98 6).toInt) = 1) (hp4 : b01 (PI M0) = 1) : Cv l 17 yX12_readBoth wsX12_readBoth dC dI ad cA [.ref (ad 98), .int (sI 4)] M0 (fun M' => INV pr Kz M' ∧ FR [98, 102] M0 M' ∧ (b01 (RIP M') = 1) ∧ ((M'.1 98 8).toInt = (M0.1 98 8).toInt) ∧ ((M0.1 98 6).toInt ≤ (M'.1 98 6).toInt) ∧ (b01 (XW M0 M' 0 1 0) = 1) ∧ (b01 (CA M') = 1) ∧ (b01 (PI M') = 1) ∧ (b01 (TKM gf gn M') = 1) ∧ b01 (RR ((boP gf gn (unR gf gn 2)) gi) (M0.1 98 11).toInt (M0.1 98 12).toInt (M'.1 98 11).toInt (M'.1 98 12).toInt (M'.1 98 6).toInt) = 1) := by
  refine cv_of (cc := cX12_readBoth) (maxL := 2) (lv := [(0, .ref (ad 98)), (1, .int (sI 4))]) (by decide) rfl (Nat.le_of_ble_eq_true rfl) rfl ?_
  intro p e s m args below meth c A Q C hret
  have u101z := xw_0 M0
  have u101l := ri_l (M := M0) (by omega)
  refine j_aload_n C 0 0 dX12_readBoth_0 rfl rfl ?_
  refine j_iload_n C 1 1 dX12_readBoth_1 rfl rfl ?_
  refine j_callVv C (d := 16) (As := [.int (sI 4)]) (st := []) 98 (s_lt rfl rfl) (s_kc (c := 11) rfl rfl) (by decide) rfl (s3_X12_readUnit hM0 hpr gf gn gi (by omega) (by omega) (by omega) (by omega) (by omega)) gX12_readBoth_X12_readUnit rfl hdX12_readUnit (by decide) (Nat.le_of_ble_eq_true rfl) dX12_readBoth_2 rfl (fun M103 h104 => ?_)
  obtain ⟨hM103, fM103, h105⟩ := h104
  have bM103 := tkm_b (f := gf) (n := gn) (M := M103) (by omega)
  have qM103 := po_rr (unR gf gn 2) gn gi (M0.1 98 11).toInt (M0.1 98 12).toInt (M0.1 98 6).toInt (M103.1 98 11).toInt (M103.1 98 12).toInt (M103.1 98 6).toInt (unR_g gf gn 2) (by omega) (by omega)
  have u106l := ri_l (M := M103) (by omega)
  have u106L := ll_0 (luP gf gn 1015 1015 (unR gf gn 2)) gn ((unR gf gn 2) gi).2.2 (M103.1 98 11).toInt (M103.1 98 12).toInt (M103.1 98 6).toInt (by omega)
  have L132 : ∀ (n130 : Nat), ∀ (M133 : mm_M) (gq134 : Int), ((b01 (RIP M133) = 1) ∧ ((M133.1 98 8).toInt = (M0.1 98 8).toInt) ∧ ((M0.1 98 6).toInt ≤ (M133.1 98 6).toInt) ∧ (b01 (XW M0 M133 0 1 0) = 1) ∧ ((M133.1 98 6).toInt ≤ 900) ∧ (b01 (LL (luP gf gn 1015 1015 (unR gf gn 2)) gn ((unR gf gn 2) gi).2.2 gq134 0 (M103.1 98 11).toInt (M103.1 98 12).toInt (M133.1 98 11).toInt (M133.1 98 12).toInt (M133.1 98 6).toInt) = 1) ∧ (b01 (TKM gf gn M133) = 1) ∧ (b01 (PO gn gq134 (M133.1 98 11).toInt (M133.1 98 6).toInt) = 1) ∧ (b01 (PI M133) = 1) ∧ (900 - (M133.1 98 6).toInt) < (n130 : Int)) → INV pr Kz M133 → FR [98, 102] M0 M133 → jj p l e (cn_R 17) s m args below meth c 0 0 Q 2 dC dI ad cA A M133 5 [(0, .ref (ad 98)), (1, .int (sI 4))] [] := by
    intro n130
    induction n130 with
    | zero =>
      intro M133 gq134 h135 hM133 fM133
      exfalso; omega
    | succ n130 ih131 =>
      intro M133 gq134 h135 hM133 fM133
      have u136l := ri_l (M := M133) (by omega)
      have u136B := tkm_b (f := gf) (n := gn) (M := M133) (by omega)
      refine j_aload_n C 0 0 dX12_readBoth_5 rfl rfl ?_
      refine y_bipush C dX12_readBoth_6 rfl ?_
      have k137 := tkm_K (f := gf) (n := gn) (M := M133) (by omega)
      have k138 := kd_2 (kdk_14 gf gn (M133.1 98 6).toInt) (by omega)
      refine j_callVi C (d := 6) (As := [.int (sI 14)]) (st := []) 98 (s_lt rfl rfl) (s_kc (c := 11) rfl rfl) (by decide) rfl (s1_X12_eats hM133 hpr 14 (by omega) gf gn gq134 (by omega) (by omega) (by omega) (by omega) (by omega)) gX12_readBoth_X12_eats rfl hdX12_eats (by decide) (Nat.le_of_ble_eq_true rfl) dX12_readBoth_8 rfl (fun r139 M140 h141 => ?_)
      obtain ⟨a143, rfl, hM140, fM140, h142⟩ := h141
      have k144 := tk_c gf gn (M140.1 98 6).toInt (M133.1 98 6).toInt
      have bM140 := tkm_b (f := gf) (n := gn) (M := M140) (by omega)
      refine y_if_eq C 29 dX12_readBoth_11 (by decide) (by omega) (fun h145 => ?_) (fun h145 => ?_)
      · have u157c := xw_c (N := M133) (P := M140) 0 (FR.cell fM140 (by decide)) (by omega)
        have u157t := xw_t (M := M0) (N := M133) (P := M140) (r1 := 0) (e1 := 1) (s1 := 0) (r2 := 0) (e2 := 0) (s2 := 0) 0 1 0 (by decide) (by omega) (by omega)
        have u157a := ca_x (M := M0) (N := M140) (r := 0) (e := 1) (s := 0) (by decide) (by omega) (by omega)
        have u157E := ll_e gf gn 1015 1015 (unR gf gn 2) ((unR gf gn 2) gi).2.2 gq134 0 (M103.1 98 11).toInt (M103.1 98 12).toInt (M133.1 98 11).toInt (M133.1 98 12).toInt (M133.1 98 6).toInt (by decide) (unR_g gf gn 2) (by omega) (by omega)
        have u157S : b01 (RR ((boP gf gn (unR gf gn 2)) gi) (M0.1 98 11).toInt (M0.1 98 12).toInt (M133.1 98 11).toInt (M133.1 98 12).toInt (M133.1 98 6).toInt) = 1 := rr_sq ((unR gf gn 2) gi) (luP gf gn 1015 1015 (unR gf gn 2)) (M0.1 98 11).toInt (M0.1 98 12).toInt (M103.1 98 11).toInt (M103.1 98 12).toInt (M103.1 98 6).toInt (M133.1 98 11).toInt (M133.1 98 12).toInt (M133.1 98 6).toInt (by omega) (by omega)
        have u157R := rr_eq ((boP gf gn (unR gf gn 2)) gi) (M0.1 98 11).toInt (M0.1 98 12).toInt (M133.1 98 11).toInt (M133.1 98 12).toInt (M133.1 98 6).toInt (M140.1 98 11).toInt (M140.1 98 12).toInt (M140.1 98 6).toInt (by omega) (by omega) (by omega) (by omega)
        exact hret _ _ _ dX12_readBoth_29 ⟨hM140, ((FR.rf.tr fM133 (by decide)).tr fM140 (by decide)), by omega⟩
      · have u146c := xw_c (N := M133) (P := M140) 1 (FR.cell fM140 (by decide)) (by omega)
        have u146t := xw_t (M := M0) (N := M133) (P := M140) (r1 := 0) (e1 := 1) (s1 := 0) (r2 := 0) (e2 := 0) (s2 := 1) 0 1 1 (by decide) (by omega) (by omega)
        have u146a := ca_x (M := M0) (N := M140) (r := 0) (e := 1) (s := 1) (by decide) (by omega) (by omega)
        have u146l := ri_l (M := M140) (by omega)
        refine j_aload_n C 0 0 dX12_readBoth_14 rfl rfl ?_
        refine j_iload_n C 1 1 dX12_readBoth_15 rfl rfl ?_
        refine j_callVv C (d := 16) (As := [.int (sI 4)]) (st := []) 98 (s_lt rfl rfl) (s_kc (c := 11) rfl rfl) (by decide) rfl (s3_X12_readUnit hM140 hpr gf gn (nxF gf gn gq134) (by omega) (by omega) (by omega) (by omega) (by omega)) gX12_readBoth_X12_readUnit rfl hdX12_readUnit (by decide) (Nat.le_of_ble_eq_true rfl) dX12_readBoth_16 rfl (fun M148 h149 => ?_)
        obtain ⟨hM148, fM148, h150⟩ := h149
        have bM148 := tkm_b (f := gf) (n := gn) (M := M148) (by omega)
        have qM148 := po_rr (unR gf gn 2) gn (nxF gf gn gq134) (M140.1 98 11).toInt (M140.1 98 12).toInt (M140.1 98 6).toInt (M148.1 98 11).toInt (M148.1 98 12).toInt (M148.1 98 6).toInt (unR_g gf gn 2) (by omega) (by omega)
        have u151t := xw_t (M := M0) (N := M140) (P := M148) (r1 := 0) (e1 := 1) (s1 := 1) (r2 := 0) (e2 := 1) (s2 := 0) 0 2 1 (by decide) (by omega) (by omega)
        have u151l := ri_l (M := M148) (by omega)
        have u151b := cb_x (M := M0) (N := M148) (r := 0) (e := 2) (s := 1) (by decide) (by omega) (by omega) (by omega)
        refine j_aload_n C 0 0 dX12_readBoth_19 rfl rfl ?_
        refine y_sipush C dX12_readBoth_20 rfl ?_
        refine j_callVv C (d := 0) (As := [.int (sI 3007)]) (st := []) 98 (s_lt rfl rfl) (s_kc (c := 11) rfl rfl) (by decide) rfl (s1_X12_codes hM148 hpr 3007 (by omega) gf gn ((unR gf gn 2) (nxF gf gn gq134)).2.2 (by omega) (by omega) (by omega) (by omega)) gX12_readBoth_X12_codes rfl hdX12_codes (by decide) (Nat.le_of_ble_eq_true rfl) dX12_readBoth_23 rfl (fun M153 h154 => ?_)
        obtain ⟨hM153, fM153, h155⟩ := h154
        have bM153 := tkm_b (f := gf) (n := gn) (M := M153) (by omega)
        have qM153 := po_eq gn ((unR gf gn 2) (nxF gf gn gq134)).2.2 (M148.1 98 11).toInt (M148.1 98 6).toInt (M153.1 98 11).toInt (M153.1 98 6).toInt (by omega) (by omega) (by omega)
        refine j_goto C 5 dX12_readBoth_26 (by decide) ?_
        have u156x := xw_a (M := M148) (N := M153) (c := 3007) (r := 2) (e := (-1)) (FR.cell fM153 (by decide)) (ap_bin ⟨(INV.rd hM148 (i := 102) (c := 48) (k := 280) rfl rfl).1, by omega, by omega⟩) (by omega)
        have u156t := xw_t (M := M0) (N := M148) (P := M153) (r1 := 0) (e1 := 2) (s1 := 1) (r2 := 2) (e2 := (-1)) (s2 := (-1)) 0 1 0 (by decide) (by omega) (by omega)
        have u156i := ri_c (M := M148) (N := M153) (FR.cell fM153 (by decide)) (by omega)
        have u156l := ri_l (M := M153) (by omega)
        have u156L := ll_w (luP gf gn 1015 1015 (unR gf gn 2)) gn ((unR gf gn 2) gi).2.2 ((unR gf gn 2) (nxF gf gn gq134)).2.2 (0 + 1) 0 (M103.1 98 11).toInt (M103.1 98 12).toInt (M153.1 98 11).toInt (M153.1 98 12).toInt (M153.1 98 6).toInt (by decide) (ll_s gf gn 1015 1015 (unR gf gn 2) ((unR gf gn 2) gi).2.2 gq134 0 (M103.1 98 11).toInt (M103.1 98 12).toInt (M133.1 98 11).toInt (M133.1 98 12).toInt (M133.1 98 6).toInt (M140.1 98 11).toInt (M140.1 98 12).toInt (M148.1 98 11).toInt (M148.1 98 12).toInt (M148.1 98 6).toInt (M153.1 98 11).toInt (M153.1 98 12).toInt (M153.1 98 6).toInt (by decide) (unR_g gf gn 2) (by omega) (by omega) (by omega) (by omega) (by omega) (by omega) (by omega) (by omega) (by omega))
        have zz98_8 : (M153.1 98 8).toInt = (M148.1 98 8).toInt := s_fF fM153 (by decide) (rfl); have zz98_6 : (M153.1 98 6).toInt = (M148.1 98 6).toInt := s_fF fM153 (by decide) (rfl); have zz98_12 : (M153.1 98 12).toInt = (M148.1 98 12).toInt := s_fF fM153 (by decide) (rfl); have zz98_11 : (M153.1 98 11).toInt = (M148.1 98 11).toInt := s_fF fM153 (by decide) (rfl); exact ih131 M153 ((unR gf gn 2) (nxF gf gn gq134)).2.2 (by omega) hM153 ((((FR.rf.tr fM133 (by decide)).tr fM140 (by decide)).tr fM148 (by decide)).tr fM153 (by decide))
  exact L132 2010 M103 ((unR gf gn 2) gi).2.2 (by omega) hM103 (FR.rf.tr fM103 (by decide))
set_option maxHeartbeats 4000000 in
theorem s3_X12_readTruth {l : Launch} {dC : Nat → ClassId} {dI : Nat → Nat → Nat} {ad : Nat → Nat} {cA : Nat → ClassId} {pr : Nat → Nat → Bool} {Kz : mm_M} {M0 : mm_M} (hM0 : INV pr Kz M0) (hpr : PM pr) (gf : Nat → Int) (gn : Int) (gi : Int) (hp0 : b01 (RIP M0) = 1) (hp1 : b01 (CA M0) = 1) (hp2 : b01 (TKM gf gn M0) = 1) (hp3 : b01 (PO gn gi (M0.1 98 11).toInt (M0.1 98 6).toInt) = 1) (hp4 : b01 (PI M0) = 1) : Cv l 18 yX12_readTruth wsX12_readTruth dC dI ad cA [.ref (ad 98), .int (sI 4)] M0 (fun M' => INV pr Kz M' ∧ FR [98, 102] M0 M' ∧ (b01 (RIP M') = 1) ∧ ((M'.1 98 8).toInt = (M0.1 98 8).toInt) ∧ ((M0.1 98 6).toInt ≤ (M'.1 98 6).toInt) ∧ (b01 (XW M0 M' 0 1 0) = 1) ∧ (b01 (CA M') = 1) ∧ (b01 (PI M') = 1) ∧ (b01 (TKM gf gn M') = 1) ∧ b01 (RR ((trP gf gn (unR gf gn 2)) gi) (M0.1 98 11).toInt (M0.1 98 12).toInt (M'.1 98 11).toInt (M'.1 98 12).toInt (M'.1 98 6).toInt) = 1) := by
  refine cv_of (cc := cX12_readTruth) (maxL := 2) (lv := [(0, .ref (ad 98)), (1, .int (sI 4))]) (by decide) rfl (Nat.le_of_ble_eq_true rfl) rfl ?_
  intro p e s m args below meth c A Q C hret
  have u101z := xw_0 M0
  have u101l := ri_l (M := M0) (by omega)
  refine j_aload_n C 0 0 dX12_readTruth_0 rfl rfl ?_
  refine j_iload_n C 1 1 dX12_readTruth_1 rfl rfl ?_
  refine j_callVv C (d := 17) (As := [.int (sI 4)]) (st := []) 98 (s_lt rfl rfl) (s_kc (c := 11) rfl rfl) (by decide) rfl (s3_X12_readBoth hM0 hpr gf gn gi (by omega) (by omega) (by omega) (by omega) (by omega)) gX12_readTruth_X12_readBoth rfl hdX12_readBoth (by decide) (Nat.le_of_ble_eq_true rfl) dX12_readTruth_2 rfl (fun M103 h104 => ?_)
  obtain ⟨hM103, fM103, h105⟩ := h104
  have bM103 := tkm_b (f := gf) (n := gn) (M := M103) (by omega)
  have qM103 := po_rr (boP gf gn (unR gf gn 2)) gn gi (M0.1 98 11).toInt (M0.1 98 12).toInt (M0.1 98 6).toInt (M103.1 98 11).toInt (M103.1 98 12).toInt (M103.1 98 6).toInt (bo_g gf gn (unR_g gf gn 2)) (by omega) (by omega)
  have u106l := ri_l (M := M103) (by omega)
  have u106L := ll_0 (luP gf gn 1014 1014 (boP gf gn (unR gf gn 2))) gn ((boP gf gn (unR gf gn 2)) gi).2.2 (M103.1 98 11).toInt (M103.1 98 12).toInt (M103.1 98 6).toInt (by omega)
  have L132 : ∀ (n130 : Nat), ∀ (M133 : mm_M) (gq134 : Int), ((b01 (RIP M133) = 1) ∧ ((M133.1 98 8).toInt = (M0.1 98 8).toInt) ∧ ((M0.1 98 6).toInt ≤ (M133.1 98 6).toInt) ∧ (b01 (XW M0 M133 0 1 0) = 1) ∧ ((M133.1 98 6).toInt ≤ 900) ∧ (b01 (LL (luP gf gn 1014 1014 (boP gf gn (unR gf gn 2))) gn ((boP gf gn (unR gf gn 2)) gi).2.2 gq134 0 (M103.1 98 11).toInt (M103.1 98 12).toInt (M133.1 98 11).toInt (M133.1 98 12).toInt (M133.1 98 6).toInt) = 1) ∧ (b01 (TKM gf gn M133) = 1) ∧ (b01 (PO gn gq134 (M133.1 98 11).toInt (M133.1 98 6).toInt) = 1) ∧ (b01 (PI M133) = 1) ∧ (900 - (M133.1 98 6).toInt) < (n130 : Int)) → INV pr Kz M133 → FR [98, 102] M0 M133 → jj p l e (cn_R 18) s m args below meth c 0 0 Q 2 dC dI ad cA A M133 5 [(0, .ref (ad 98)), (1, .int (sI 4))] [] := by
    intro n130
    induction n130 with
    | zero =>
      intro M133 gq134 h135 hM133 fM133
      exfalso; omega
    | succ n130 ih131 =>
      intro M133 gq134 h135 hM133 fM133
      have u136l := ri_l (M := M133) (by omega)
      have u136B := tkm_b (f := gf) (n := gn) (M := M133) (by omega)
      refine j_aload_n C 0 0 dX12_readTruth_5 rfl rfl ?_
      refine y_bipush C dX12_readTruth_6 rfl ?_
      have k137 := tkm_K (f := gf) (n := gn) (M := M133) (by omega)
      have k138 := kd_2 (kdk_15 gf gn (M133.1 98 6).toInt) (by omega)
      refine j_callVi C (d := 6) (As := [.int (sI 15)]) (st := []) 98 (s_lt rfl rfl) (s_kc (c := 11) rfl rfl) (by decide) rfl (s1_X12_eats hM133 hpr 15 (by omega) gf gn gq134 (by omega) (by omega) (by omega) (by omega) (by omega)) gX12_readTruth_X12_eats rfl hdX12_eats (by decide) (Nat.le_of_ble_eq_true rfl) dX12_readTruth_8 rfl (fun r139 M140 h141 => ?_)
      obtain ⟨a143, rfl, hM140, fM140, h142⟩ := h141
      have k144 := tk_c gf gn (M140.1 98 6).toInt (M133.1 98 6).toInt
      have bM140 := tkm_b (f := gf) (n := gn) (M := M140) (by omega)
      refine y_if_eq C 29 dX12_readTruth_11 (by decide) (by omega) (fun h145 => ?_) (fun h145 => ?_)
      · have u157c := xw_c (N := M133) (P := M140) 0 (FR.cell fM140 (by decide)) (by omega)
        have u157t := xw_t (M := M0) (N := M133) (P := M140) (r1 := 0) (e1 := 1) (s1 := 0) (r2 := 0) (e2 := 0) (s2 := 0) 0 1 0 (by decide) (by omega) (by omega)
        have u157a := ca_x (M := M0) (N := M140) (r := 0) (e := 1) (s := 0) (by decide) (by omega) (by omega)
        have u157E := ll_e gf gn 1014 1014 (boP gf gn (unR gf gn 2)) ((boP gf gn (unR gf gn 2)) gi).2.2 gq134 0 (M103.1 98 11).toInt (M103.1 98 12).toInt (M133.1 98 11).toInt (M133.1 98 12).toInt (M133.1 98 6).toInt (by decide) (bo_g gf gn (unR_g gf gn 2)) (by omega) (by omega)
        have u157S : b01 (RR ((trP gf gn (unR gf gn 2)) gi) (M0.1 98 11).toInt (M0.1 98 12).toInt (M133.1 98 11).toInt (M133.1 98 12).toInt (M133.1 98 6).toInt) = 1 := rr_sq ((boP gf gn (unR gf gn 2)) gi) (luP gf gn 1014 1014 (boP gf gn (unR gf gn 2))) (M0.1 98 11).toInt (M0.1 98 12).toInt (M103.1 98 11).toInt (M103.1 98 12).toInt (M103.1 98 6).toInt (M133.1 98 11).toInt (M133.1 98 12).toInt (M133.1 98 6).toInt (by omega) (by omega)
        have u157R := rr_eq ((trP gf gn (unR gf gn 2)) gi) (M0.1 98 11).toInt (M0.1 98 12).toInt (M133.1 98 11).toInt (M133.1 98 12).toInt (M133.1 98 6).toInt (M140.1 98 11).toInt (M140.1 98 12).toInt (M140.1 98 6).toInt (by omega) (by omega) (by omega) (by omega)
        exact hret _ _ _ dX12_readTruth_29 ⟨hM140, ((FR.rf.tr fM133 (by decide)).tr fM140 (by decide)), by omega⟩
      · have u146c := xw_c (N := M133) (P := M140) 1 (FR.cell fM140 (by decide)) (by omega)
        have u146t := xw_t (M := M0) (N := M133) (P := M140) (r1 := 0) (e1 := 1) (s1 := 0) (r2 := 0) (e2 := 0) (s2 := 1) 0 1 1 (by decide) (by omega) (by omega)
        have u146a := ca_x (M := M0) (N := M140) (r := 0) (e := 1) (s := 1) (by decide) (by omega) (by omega)
        have u146l := ri_l (M := M140) (by omega)
        refine j_aload_n C 0 0 dX12_readTruth_14 rfl rfl ?_
        refine j_iload_n C 1 1 dX12_readTruth_15 rfl rfl ?_
        refine j_callVv C (d := 17) (As := [.int (sI 4)]) (st := []) 98 (s_lt rfl rfl) (s_kc (c := 11) rfl rfl) (by decide) rfl (s3_X12_readBoth hM140 hpr gf gn (nxF gf gn gq134) (by omega) (by omega) (by omega) (by omega) (by omega)) gX12_readTruth_X12_readBoth rfl hdX12_readBoth (by decide) (Nat.le_of_ble_eq_true rfl) dX12_readTruth_16 rfl (fun M148 h149 => ?_)
        obtain ⟨hM148, fM148, h150⟩ := h149
        have bM148 := tkm_b (f := gf) (n := gn) (M := M148) (by omega)
        have qM148 := po_rr (boP gf gn (unR gf gn 2)) gn (nxF gf gn gq134) (M140.1 98 11).toInt (M140.1 98 12).toInt (M140.1 98 6).toInt (M148.1 98 11).toInt (M148.1 98 12).toInt (M148.1 98 6).toInt (bo_g gf gn (unR_g gf gn 2)) (by omega) (by omega)
        have u151t := xw_t (M := M0) (N := M140) (P := M148) (r1 := 0) (e1 := 1) (s1 := 1) (r2 := 0) (e2 := 1) (s2 := 0) 0 2 1 (by decide) (by omega) (by omega)
        have u151l := ri_l (M := M148) (by omega)
        have u151b := cb_x (M := M0) (N := M148) (r := 0) (e := 2) (s := 1) (by decide) (by omega) (by omega) (by omega)
        refine j_aload_n C 0 0 dX12_readTruth_19 rfl rfl ?_
        refine y_sipush C dX12_readTruth_20 rfl ?_
        refine j_callVv C (d := 0) (As := [.int (sI 3008)]) (st := []) 98 (s_lt rfl rfl) (s_kc (c := 11) rfl rfl) (by decide) rfl (s1_X12_codes hM148 hpr 3008 (by omega) gf gn ((boP gf gn (unR gf gn 2)) (nxF gf gn gq134)).2.2 (by omega) (by omega) (by omega) (by omega)) gX12_readTruth_X12_codes rfl hdX12_codes (by decide) (Nat.le_of_ble_eq_true rfl) dX12_readTruth_23 rfl (fun M153 h154 => ?_)
        obtain ⟨hM153, fM153, h155⟩ := h154
        have bM153 := tkm_b (f := gf) (n := gn) (M := M153) (by omega)
        have qM153 := po_eq gn ((boP gf gn (unR gf gn 2)) (nxF gf gn gq134)).2.2 (M148.1 98 11).toInt (M148.1 98 6).toInt (M153.1 98 11).toInt (M153.1 98 6).toInt (by omega) (by omega) (by omega)
        refine j_goto C 5 dX12_readTruth_26 (by decide) ?_
        have u156x := xw_a (M := M148) (N := M153) (c := 3008) (r := 2) (e := (-1)) (FR.cell fM153 (by decide)) (ap_bin ⟨(INV.rd hM148 (i := 102) (c := 48) (k := 280) rfl rfl).1, by omega, by omega⟩) (by omega)
        have u156t := xw_t (M := M0) (N := M148) (P := M153) (r1 := 0) (e1 := 2) (s1 := 1) (r2 := 2) (e2 := (-1)) (s2 := (-1)) 0 1 0 (by decide) (by omega) (by omega)
        have u156i := ri_c (M := M148) (N := M153) (FR.cell fM153 (by decide)) (by omega)
        have u156l := ri_l (M := M153) (by omega)
        have u156L := ll_w (luP gf gn 1014 1014 (boP gf gn (unR gf gn 2))) gn ((boP gf gn (unR gf gn 2)) gi).2.2 ((boP gf gn (unR gf gn 2)) (nxF gf gn gq134)).2.2 (0 + 1) 0 (M103.1 98 11).toInt (M103.1 98 12).toInt (M153.1 98 11).toInt (M153.1 98 12).toInt (M153.1 98 6).toInt (by decide) (ll_s gf gn 1014 1014 (boP gf gn (unR gf gn 2)) ((boP gf gn (unR gf gn 2)) gi).2.2 gq134 0 (M103.1 98 11).toInt (M103.1 98 12).toInt (M133.1 98 11).toInt (M133.1 98 12).toInt (M133.1 98 6).toInt (M140.1 98 11).toInt (M140.1 98 12).toInt (M148.1 98 11).toInt (M148.1 98 12).toInt (M148.1 98 6).toInt (M153.1 98 11).toInt (M153.1 98 12).toInt (M153.1 98 6).toInt (by decide) (bo_g gf gn (unR_g gf gn 2)) (by omega) (by omega) (by omega) (by omega) (by omega) (by omega) (by omega) (by omega) (by omega))
        have zz98_8 : (M153.1 98 8).toInt = (M148.1 98 8).toInt := s_fF fM153 (by decide) (rfl); have zz98_6 : (M153.1 98 6).toInt = (M148.1 98 6).toInt := s_fF fM153 (by decide) (rfl); have zz98_12 : (M153.1 98 12).toInt = (M148.1 98 12).toInt := s_fF fM153 (by decide) (rfl); have zz98_11 : (M153.1 98 11).toInt = (M148.1 98 11).toInt := s_fF fM153 (by decide) (rfl); exact ih131 M153 ((boP gf gn (unR gf gn 2)) (nxF gf gn gq134)).2.2 (by omega) hM153 ((((FR.rf.tr fM133 (by decide)).tr fM140 (by decide)).tr fM148 (by decide)).tr fM153 (by decide))
  exact L132 2010 M103 ((boP gf gn (unR gf gn 2)) gi).2.2 (by omega) hM103 (FR.rf.tr fM103 (by decide))
set_option maxHeartbeats 4000000 in
theorem s4_X12_readUnit {l : Launch} {dC : Nat → ClassId} {dI : Nat → Nat → Nat} {ad : Nat → Nat} {cA : Nat → ClassId} {pr : Nat → Nat → Bool} {Kz : mm_M} {M0 : mm_M} (hM0 : INV pr Kz M0) (hpr : PM pr) (gf : Nat → Int) (gn : Int) (gi : Int) (hp0 : b01 (RIP M0) = 1) (hp1 : b01 (CA M0) = 1) (hp2 : b01 (TKM gf gn M0) = 1) (hp3 : b01 (PO gn gi (M0.1 98 11).toInt (M0.1 98 6).toInt) = 1) (hp4 : b01 (PI M0) = 1) : Cv l 19 yX12_readUnit wsX12_readUnit dC dI ad cA [.ref (ad 98), .int (sI 3)] M0 (fun M' => INV pr Kz M' ∧ FR [98, 102] M0 M' ∧ (b01 (RIP M') = 1) ∧ ((M'.1 98 8).toInt = (M0.1 98 8).toInt) ∧ ((M0.1 98 6).toInt ≤ (M'.1 98 6).toInt) ∧ (b01 (XW M0 M' 0 1 0) = 1) ∧ (b01 (CA M') = 1) ∧ (b01 (PI M') = 1) ∧ (b01 (TKM gf gn M') = 1) ∧ b01 (RR ((unR gf gn 3) gi) (M0.1 98 11).toInt (M0.1 98 12).toInt (M'.1 98 11).toInt (M'.1 98 12).toInt (M'.1 98 6).toInt) = 1) := by
  refine cv_of (cc := cX12_readUnit) (maxL := 3) (lv := [(0, .ref (ad 98)), (1, .int (sI 3))]) (by decide) rfl (Nat.le_of_ble_eq_true rfl) rfl ?_
  intro p e s m args below meth c A Q C hret
  have u101z := xw_0 M0
  have u101l := ri_l (M := M0) (by omega)
  refine j_aload_n C 0 0 dX12_readUnit_0 rfl rfl ?_
  refine y_bipush C dX12_readUnit_1 rfl ?_
  have k102 := tkm_K (f := gf) (n := gn) (M := M0) (by omega)
  have k103 := kd_2 (kdk_16 gf gn (M0.1 98 6).toInt) (by omega)
  refine j_callVi C (d := 0) (As := [.int (sI 16)]) (st := []) 98 (s_lt rfl rfl) (s_kc (c := 11) rfl rfl) (by decide) rfl (s1_X12_is hM0 16 (by omega)) gX12_readUnit_X12_is rfl hdX12_is (by decide) (Nat.le_of_ble_eq_true rfl) dX12_readUnit_3 rfl (fun r104 M105 h106 => ?_)
  obtain ⟨a108, rfl, rfl, h107⟩ := h106
  refine y_if_eq C 33 dX12_readUnit_6 (by decide) (by omega) (fun h109 => ?_) (fun h109 => ?_)
  · refine j_aload_n C 0 0 dX12_readUnit_33 rfl rfl ?_
    refine y_bipush C dX12_readUnit_34 rfl ?_
    have k110 := tkm_K (f := gf) (n := gn) (M := M0) (by omega)
    have k111 := kd_2 (kdk_37 gf gn (M0.1 98 6).toInt) (by omega)
    refine j_callVi C (d := 0) (As := [.int (sI 37)]) (st := []) 98 (s_lt rfl rfl) (s_kc (c := 11) rfl rfl) (by decide) rfl (s1_X12_is hM0 37 (by omega)) gX12_readUnit_X12_is rfl hdX12_is (by decide) (Nat.le_of_ble_eq_true rfl) dX12_readUnit_36 rfl (fun r112 M113 h114 => ?_)
    obtain ⟨a116, rfl, rfl, h115⟩ := h114
    refine y_if_eq C 73 dX12_readUnit_39 (by decide) (by omega) (fun h117 => ?_) (fun h117 => ?_)
    · refine j_aload_n C 0 0 dX12_readUnit_73 rfl rfl ?_
      refine j_iload_n C 1 1 dX12_readUnit_74 rfl rfl ?_
      refine j_callVv C (d := 18) (As := [.int (sI 3)]) (st := []) 98 (s_lt rfl rfl) (s_kc (c := 11) rfl rfl) (by decide) rfl (s4_X12_readSum hM0 hpr gf gn gi (by omega) (by omega) (by omega) (by omega) (by omega)) gX12_readUnit_X12_readSum rfl hdX12_readSum (by decide) (Nat.le_of_ble_eq_true rfl) dX12_readUnit_75 rfl (fun M119 h120 => ?_)
      obtain ⟨hM119, fM119, h121⟩ := h120
      have bM119 := tkm_b (f := gf) (n := gn) (M := M119) (by omega)
      have qM119 := po_rr (suR gf gn 3) gn gi (M0.1 98 11).toInt (M0.1 98 12).toInt (M0.1 98 6).toInt (M119.1 98 11).toInt (M119.1 98 12).toInt (M119.1 98 6).toInt (suR_g gf gn 3) (by omega) (by omega)
      have u122l := ri_l (M := M119) (by omega)
      refine j_aload_n C 0 0 dX12_readUnit_78 rfl rfl ?_
      refine y_bipush C dX12_readUnit_79 rfl ?_
      have k123 := tkm_K (f := gf) (n := gn) (M := M119) (by omega)
      have k124 := kd_2 (kdk_39 gf gn (M119.1 98 6).toInt) (by omega)
      refine j_callVi C (d := 0) (As := [.int (sI 39)]) (st := []) 98 (s_lt rfl rfl) (s_kc (c := 11) rfl rfl) (by decide) rfl (s1_X12_is hM119 39 (by omega)) gX12_readUnit_X12_is rfl hdX12_is (by decide) (Nat.le_of_ble_eq_true rfl) dX12_readUnit_81 rfl (fun r125 M126 h127 => ?_)
      obtain ⟨a129, rfl, rfl, h128⟩ := h127
      have J140 : ∀ (a139 : Int), (3003 ≤ a139 ∧ a139 ≤ 3005) → jj p l e (cn_R 19) s m args below meth c 0 0 Q 3 dC dI ad cA A M119 111 [(0, .ref (ad 98)), (1, .int (sI 3))] [.int (sI a139)] := by
        intro a139 h141
        refine j_istore_n C 2 [(2, .int (sI a139)), (0, .ref (ad 98)), (1, .int (sI 3))] dX12_readUnit_111 rfl (by decide) rfl ?_
        refine j_aload_n C 1 0 dX12_readUnit_112 rfl rfl ?_
        refine y_bipush C dX12_readUnit_113 rfl ?_
        have k142 := tkm_K (f := gf) (n := gn) (M := M119) (by omega)
        have k143 := kd_2 (kdk_39 gf gn (M119.1 98 6).toInt) (by omega)
        refine j_callVi C (d := 0) (As := [.int (sI 39)]) (st := []) 98 (s_lt rfl rfl) (s_kc (c := 11) rfl rfl) (by decide) rfl (s1_X12_is hM119 39 (by omega)) gX12_readUnit_X12_is rfl hdX12_is (by decide) (Nat.le_of_ble_eq_true rfl) dX12_readUnit_115 rfl (fun r144 M145 h146 => ?_)
        obtain ⟨a148, rfl, rfl, h147⟩ := h146
        have J196 : ∀ (M195 : mm_M), ((b01 (RIP M195) = 1) ∧ ((M195.1 98 8).toInt = (M0.1 98 8).toInt) ∧ ((M0.1 98 6).toInt ≤ (M195.1 98 6).toInt) ∧ (b01 (XW M0 M195 0 1 1) = 1) ∧ (b01 (RR ((sjP gf gn 3) gi) (M0.1 98 11).toInt (M0.1 98 12).toInt (M195.1 98 11).toInt (M195.1 98 12).toInt (M195.1 98 6).toInt) = 1) ∧ (b01 (TKM gf gn M195) = 1) ∧ (b01 (PO gn ((sjP gf gn 3) gi).2.2 (M195.1 98 11).toInt (M195.1 98 6).toInt) = 1) ∧ (b01 (PI M195) = 1)) → INV pr Kz M195 → FR [98, 102] M0 M195 → jj p l e (cn_R 19) s m args below meth c 0 0 Q 3 dC dI ad cA A M195 151 [(0, .ref (ad 98)), (1, .int (sI 3)), (2, .int (sI a139))] [] := by
          intro M195 h197 hM195 fM195
          have u199a := ca_x (M := M0) (N := M195) (r := 0) (e := 1) (s := 1) (by decide) (by omega) (by omega)
          have u199l := ri_l (M := M195) (by omega)
          refine j_aload_n C 0 0 dX12_readUnit_151 rfl rfl ?_
          refine j_iload_n C 1 1 dX12_readUnit_152 rfl rfl ?_
          refine j_callVv C (d := 18) (As := [.int (sI 3)]) (st := []) 98 (s_lt rfl rfl) (s_kc (c := 11) rfl rfl) (by decide) rfl (s4_X12_readSum hM195 hpr gf gn ((sjP gf gn 3) gi).2.2 (by omega) (by omega) (by omega) (by omega) (by omega)) gX12_readUnit_X12_readSum rfl hdX12_readSum (by decide) (Nat.le_of_ble_eq_true rfl) dX12_readUnit_153 rfl (fun M201 h202 => ?_)
          obtain ⟨hM201, fM201, h203⟩ := h202
          have bM201 := tkm_b (f := gf) (n := gn) (M := M201) (by omega)
          have qM201 := po_rr (suR gf gn 3) gn ((sjP gf gn 3) gi).2.2 (M195.1 98 11).toInt (M195.1 98 12).toInt (M195.1 98 6).toInt (M201.1 98 11).toInt (M201.1 98 12).toInt (M201.1 98 6).toInt (suR_g gf gn 3) (by omega) (by omega)
          have u204t := xw_t (M := M0) (N := M195) (P := M201) (r1 := 0) (e1 := 1) (s1 := 1) (r2 := 0) (e2 := 1) (s2 := 0) 0 2 1 (by decide) (by omega) (by omega)
          have u204l := ri_l (M := M201) (by omega)
          have u204b := cb_x (M := M0) (N := M201) (r := 0) (e := 2) (s := 1) (by decide) (by omega) (by omega) (by omega)
          refine j_aload_n C 0 0 dX12_readUnit_156 rfl rfl ?_
          refine j_iload_n C 2 2 dX12_readUnit_157 rfl rfl ?_
          refine j_callVv C (d := 0) (As := [.int (sI a139)]) (st := []) 98 (s_lt rfl rfl) (s_kc (c := 11) rfl rfl) (by decide) rfl (s1_X12_codes hM201 hpr a139 (by omega) gf gn ((suR gf gn 3) ((sjP gf gn 3) gi).2.2).2.2 (by omega) (by omega) (by omega) (by omega)) gX12_readUnit_X12_codes rfl hdX12_codes (by decide) (Nat.le_of_ble_eq_true rfl) dX12_readUnit_158 rfl (fun M206 h207 => ?_)
          obtain ⟨hM206, fM206, h208⟩ := h207
          have bM206 := tkm_b (f := gf) (n := gn) (M := M206) (by omega)
          have qM206 := po_eq gn ((suR gf gn 3) ((sjP gf gn 3) gi).2.2).2.2 (M201.1 98 11).toInt (M201.1 98 6).toInt (M206.1 98 11).toInt (M206.1 98 6).toInt (by omega) (by omega) (by omega)
          have u209x := xw_a (M := M201) (N := M206) (c := a139) (r := 2) (e := (-1)) (FR.cell fM206 (by decide)) (ap_bin ⟨(INV.rd hM201 (i := 102) (c := 48) (k := 280) rfl rfl).1, by omega, by omega⟩) (by omega)
          have u209t := xw_t (M := M0) (N := M201) (P := M206) (r1 := 0) (e1 := 2) (s1 := 1) (r2 := 2) (e2 := (-1)) (s2 := (-1)) 0 1 0 (by decide) (by omega) (by omega)
          have u209i := ri_c (M := M201) (N := M206) (FR.cell fM206 (by decide)) (by omega)
          have u209l := ri_l (M := M206) (by omega)
          have u209a := ca_x (M := M0) (N := M206) (r := 0) (e := 1) (s := 0) (by decide) (by omega) (by omega)
          have u210r := un_6 gf gn 3 gi (M0.1 98 11).toInt (M0.1 98 12).toInt (M0.1 98 6).toInt (M195.1 98 11).toInt (M195.1 98 12).toInt (M195.1 98 6).toInt (M201.1 98 11).toInt (M201.1 98 12).toInt (M201.1 98 6).toInt (M206.1 98 11).toInt (M206.1 98 12).toInt (M206.1 98 6).toInt (by omega) (by omega) (by omega) (by omega) (by omega) (by omega) (by omega)
          have zz98_11 : (M206.1 98 11).toInt = (M201.1 98 11).toInt := s_fF fM206 (by decide) (rfl); have zz98_12 : (M206.1 98 12).toInt = (M201.1 98 12).toInt := s_fF fM206 (by decide) (rfl); have zz98_6 : (M206.1 98 6).toInt = (M201.1 98 6).toInt := s_fF fM206 (by decide) (rfl); have zz98_8 : (M206.1 98 8).toInt = (M201.1 98 8).toInt := s_fF fM206 (by decide) (rfl); exact hret _ _ _ dX12_readUnit_161 ⟨hM206, (((FR.rf.tr fM195 (by decide)).tr fM201 (by decide)).tr fM206 (by decide)), by omega⟩
        refine y_if_ne C 139 dX12_readUnit_118 (by decide) (by omega) (fun h149 => ?_) (fun h149 => ?_)
        · have u150k := ri_k (M := M119) (by omega) (by omega)
          refine j_aload_n C 1 0 dX12_readUnit_139 rfl rfl ?_
          have k151 := tkm_p (f := gf) (n := gn) (M := M119) (by omega)
          have k152 := tkm_K (f := gf) (n := gn) (M := M119) (by omega)
          refine j_callVv C (d := 5) (As := []) (st := []) 98 (s_lt rfl rfl) (s_kc (c := 11) rfl rfl) (by decide) rfl (s1_X12_next hM119 hpr gf gn (by omega) (by omega) (by omega) (by omega)) gX12_readUnit_X12_next rfl hdX12_next (by decide) (Nat.le_of_ble_eq_true rfl) dX12_readUnit_140 rfl (fun M154 h155 => ?_)
          obtain ⟨hM154, fM154, h156⟩ := h155
          have bM154 := tkm_b (f := gf) (n := gn) (M := M154) (by omega)
          have qM154 := nx_po (f := gf) (n := gn) (i := ((suR gf gn 3) gi).2.2) (M := M119) (M' := M154) (by omega) (by omega) (by omega) (by omega) (by omega)
          refine j_goto C 151 dX12_readUnit_143 (by decide) ?_
          have u157c := xw_c (N := M119) (P := M154) 1 (FR.cell fM154 (by decide)) (by omega)
          have u157t := xw_t (M := M0) (N := M119) (P := M154) (r1 := 0) (e1 := 1) (s1 := 0) (r2 := 0) (e2 := 0) (s2 := 1) 0 1 1 (by decide) (by omega) (by omega)
          have u157l := ri_l (M := M154) (by omega)
          have u157J := cj_1 gf gn 3 gi (M0.1 98 11).toInt (M0.1 98 12).toInt (M119.1 98 11).toInt (M119.1 98 12).toInt (M119.1 98 6).toInt (M154.1 98 11).toInt (M154.1 98 12).toInt (M154.1 98 6).toInt (by omega) (by omega) (by omega) (by omega) (by omega) (by omega) (by omega)
          have u157P := po_rr (sjP gf gn 3) gn gi (M0.1 98 11).toInt (M0.1 98 12).toInt (M0.1 98 6).toInt (M154.1 98 11).toInt (M154.1 98 12).toInt (M154.1 98 6).toInt (sj_g gf gn 3) (by omega) (by omega)
          refine j_lv [1, 2, 0] rfl ?_; exact J196 M154 (by omega) hM154 ((FR.rf.tr fM119 (by decide)).tr fM154 (by decide))
        · refine j_aload_n C 1 0 dX12_readUnit_121 rfl rfl ?_
          refine y_bipush C dX12_readUnit_122 rfl ?_
          have k158 := tkm_K (f := gf) (n := gn) (M := M119) (by omega)
          have k159 := kd_2 (kdk_40 gf gn (M119.1 98 6).toInt) (by omega)
          refine j_callVi C (d := 0) (As := [.int (sI 40)]) (st := []) 98 (s_lt rfl rfl) (s_kc (c := 11) rfl rfl) (by decide) rfl (s1_X12_is hM119 40 (by omega)) gX12_readUnit_X12_is rfl hdX12_is (by decide) (Nat.le_of_ble_eq_true rfl) dX12_readUnit_124 rfl (fun r160 M161 h162 => ?_)
          obtain ⟨a164, rfl, rfl, h163⟩ := h162
          refine y_if_ne C 139 dX12_readUnit_127 (by decide) (by omega) (fun h165 => ?_) (fun h165 => ?_)
          · have u166k := ri_k (M := M119) (by omega) (by omega)
            refine j_aload_n C 1 0 dX12_readUnit_139 rfl rfl ?_
            have k167 := tkm_p (f := gf) (n := gn) (M := M119) (by omega)
            have k168 := tkm_K (f := gf) (n := gn) (M := M119) (by omega)
            refine j_callVv C (d := 5) (As := []) (st := []) 98 (s_lt rfl rfl) (s_kc (c := 11) rfl rfl) (by decide) rfl (s1_X12_next hM119 hpr gf gn (by omega) (by omega) (by omega) (by omega)) gX12_readUnit_X12_next rfl hdX12_next (by decide) (Nat.le_of_ble_eq_true rfl) dX12_readUnit_140 rfl (fun M170 h171 => ?_)
            obtain ⟨hM170, fM170, h172⟩ := h171
            have bM170 := tkm_b (f := gf) (n := gn) (M := M170) (by omega)
            have qM170 := nx_po (f := gf) (n := gn) (i := ((suR gf gn 3) gi).2.2) (M := M119) (M' := M170) (by omega) (by omega) (by omega) (by omega) (by omega)
            refine j_goto C 151 dX12_readUnit_143 (by decide) ?_
            have u173c := xw_c (N := M119) (P := M170) 1 (FR.cell fM170 (by decide)) (by omega)
            have u173t := xw_t (M := M0) (N := M119) (P := M170) (r1 := 0) (e1 := 1) (s1 := 0) (r2 := 0) (e2 := 0) (s2 := 1) 0 1 1 (by decide) (by omega) (by omega)
            have u173l := ri_l (M := M170) (by omega)
            have u173J := cj_1 gf gn 3 gi (M0.1 98 11).toInt (M0.1 98 12).toInt (M119.1 98 11).toInt (M119.1 98 12).toInt (M119.1 98 6).toInt (M170.1 98 11).toInt (M170.1 98 12).toInt (M170.1 98 6).toInt (by omega) (by omega) (by omega) (by omega) (by omega) (by omega) (by omega)
            have u173P := po_rr (sjP gf gn 3) gn gi (M0.1 98 11).toInt (M0.1 98 12).toInt (M0.1 98 6).toInt (M170.1 98 11).toInt (M170.1 98 12).toInt (M170.1 98 6).toInt (sj_g gf gn 3) (by omega) (by omega)
            refine j_lv [1, 2, 0] rfl ?_; exact J196 M170 (by omega) hM170 ((FR.rf.tr fM119 (by decide)).tr fM170 (by decide))
          · refine j_aload_n C 1 0 dX12_readUnit_130 rfl rfl ?_
            refine y_bipush C dX12_readUnit_131 rfl ?_
            have k174 := tkm_K (f := gf) (n := gn) (M := M119) (by omega)
            have k175 := kd_2 (kdk_41 gf gn (M119.1 98 6).toInt) (by omega)
            refine j_callVi C (d := 0) (As := [.int (sI 41)]) (st := []) 98 (s_lt rfl rfl) (s_kc (c := 11) rfl rfl) (by decide) rfl (s1_X12_is hM119 41 (by omega)) gX12_readUnit_X12_is rfl hdX12_is (by decide) (Nat.le_of_ble_eq_true rfl) dX12_readUnit_133 rfl (fun r176 M177 h178 => ?_)
            obtain ⟨a180, rfl, rfl, h179⟩ := h178
            refine y_if_eq C 146 dX12_readUnit_136 (by decide) (by omega) (fun h181 => ?_) (fun h181 => ?_)
            · refine j_aload_n C 1 0 dX12_readUnit_146 rfl rfl ?_
              refine y_iconst C dX12_readUnit_147 ?_
              refine j_callVv C (d := 0) (As := [.int (sI 2)]) (st := []) 98 (s_lt rfl rfl) (s_kc (c := 11) rfl rfl) (by decide) rfl (s1_X12_fails hM119 hpr 2 (by omega) gf gn ((suR gf gn 3) gi).2.2 (by omega) (by omega) (by omega) (by omega) (by omega)) gX12_readUnit_X12_fails rfl hdX12_fails (by decide) (Nat.le_of_ble_eq_true rfl) dX12_readUnit_148 rfl (fun M183 h184 => ?_)
              obtain ⟨hM183, fM183, h185⟩ := h184
              have bM183 := tkm_b (f := gf) (n := gn) (M := M183) (by omega)
              have qM183 := po_f gn ((faQ gf gn 2) ((suR gf gn 3) gi).2.2).2.2 (M183.1 98 11).toInt (M183.1 98 6).toInt (by omega)
              have u186f : b01 (XW M0 M183 0 1 1) = 1 := b01_i (Or.inl (by omega))
              have u186l := ri_l (M := M183) (by omega)
              have u186J := cj_2 gf gn 3 gi (M0.1 98 11).toInt (M0.1 98 12).toInt (M119.1 98 11).toInt (M119.1 98 12).toInt (M119.1 98 6).toInt (M183.1 98 11).toInt (M183.1 98 12).toInt (M183.1 98 6).toInt (by omega) (by omega) (by omega) (by omega)
              have u186P := po_rr (sjP gf gn 3) gn gi (M0.1 98 11).toInt (M0.1 98 12).toInt (M0.1 98 6).toInt (M183.1 98 11).toInt (M183.1 98 12).toInt (M183.1 98 6).toInt (sj_g gf gn 3) (by omega) (by omega)
              refine j_lv [1, 2, 0] rfl ?_; exact J196 M183 (by omega) hM183 ((FR.rf.tr fM119 (by decide)).tr fM183 (by decide))
            · have u187k := ri_k (M := M119) (by omega) (by omega)
              refine j_aload_n C 1 0 dX12_readUnit_139 rfl rfl ?_
              have k188 := tkm_p (f := gf) (n := gn) (M := M119) (by omega)
              have k189 := tkm_K (f := gf) (n := gn) (M := M119) (by omega)
              refine j_callVv C (d := 5) (As := []) (st := []) 98 (s_lt rfl rfl) (s_kc (c := 11) rfl rfl) (by decide) rfl (s1_X12_next hM119 hpr gf gn (by omega) (by omega) (by omega) (by omega)) gX12_readUnit_X12_next rfl hdX12_next (by decide) (Nat.le_of_ble_eq_true rfl) dX12_readUnit_140 rfl (fun M191 h192 => ?_)
              obtain ⟨hM191, fM191, h193⟩ := h192
              have bM191 := tkm_b (f := gf) (n := gn) (M := M191) (by omega)
              have qM191 := nx_po (f := gf) (n := gn) (i := ((suR gf gn 3) gi).2.2) (M := M119) (M' := M191) (by omega) (by omega) (by omega) (by omega) (by omega)
              refine j_goto C 151 dX12_readUnit_143 (by decide) ?_
              have u194c := xw_c (N := M119) (P := M191) 1 (FR.cell fM191 (by decide)) (by omega)
              have u194t := xw_t (M := M0) (N := M119) (P := M191) (r1 := 0) (e1 := 1) (s1 := 0) (r2 := 0) (e2 := 0) (s2 := 1) 0 1 1 (by decide) (by omega) (by omega)
              have u194l := ri_l (M := M191) (by omega)
              have u194J := cj_1 gf gn 3 gi (M0.1 98 11).toInt (M0.1 98 12).toInt (M119.1 98 11).toInt (M119.1 98 12).toInt (M119.1 98 6).toInt (M191.1 98 11).toInt (M191.1 98 12).toInt (M191.1 98 6).toInt (by omega) (by omega) (by omega) (by omega) (by omega) (by omega) (by omega)
              have u194P := po_rr (sjP gf gn 3) gn gi (M0.1 98 11).toInt (M0.1 98 12).toInt (M0.1 98 6).toInt (M191.1 98 11).toInt (M191.1 98 12).toInt (M191.1 98 6).toInt (sj_g gf gn 3) (by omega) (by omega)
              refine j_lv [1, 2, 0] rfl ?_; exact J196 M191 (by omega) hM191 ((FR.rf.tr fM119 (by decide)).tr fM191 (by decide))
      refine y_if_eq C 93 dX12_readUnit_84 (by decide) (by omega) (fun h130 => ?_) (fun h130 => ?_)
      · refine j_aload_n C 0 0 dX12_readUnit_93 rfl rfl ?_
        refine y_bipush C dX12_readUnit_94 rfl ?_
        have k131 := tkm_K (f := gf) (n := gn) (M := M119) (by omega)
        have k132 := kd_2 (kdk_40 gf gn (M119.1 98 6).toInt) (by omega)
        refine j_callVi C (d := 0) (As := [.int (sI 40)]) (st := []) 98 (s_lt rfl rfl) (s_kc (c := 11) rfl rfl) (by decide) rfl (s1_X12_is hM119 40 (by omega)) gX12_readUnit_X12_is rfl hdX12_is (by decide) (Nat.le_of_ble_eq_true rfl) dX12_readUnit_96 rfl (fun r133 M134 h135 => ?_)
        obtain ⟨a137, rfl, rfl, h136⟩ := h135
        refine y_if_eq C 108 dX12_readUnit_99 (by decide) (by omega) (fun h138 => ?_) (fun h138 => ?_)
        · refine y_sipush C dX12_readUnit_108 rfl ?_
          exact J140 3005 (by omega)
        · refine y_sipush C dX12_readUnit_102 rfl ?_
          refine j_goto C 111 dX12_readUnit_105 (by decide) ?_
          exact J140 3004 (by omega)
      · refine y_sipush C dX12_readUnit_87 rfl ?_
        refine j_goto C 111 dX12_readUnit_90 (by decide) ?_
        exact J140 3003 (by omega)
    · have u211k := ri_k (M := M0) (by omega) (by omega)
      refine j_aload_n C 0 0 dX12_readUnit_42 rfl rfl ?_
      refine j_iload_n C 1 1 dX12_readUnit_43 rfl rfl ?_
      refine j_callVi C (d := 6) (As := [.int (sI 3)]) (st := []) 98 (s_lt rfl rfl) (s_kc (c := 11) rfl rfl) (by decide) rfl (s4_X12_goesIn hM0 hpr gf gn gi (by omega) (by omega) (by omega) (by omega) (by omega) (by omega) (by omega)) gX12_readUnit_X12_goesIn rfl hdX12_goesIn (by decide) (Nat.le_of_ble_eq_true rfl) dX12_readUnit_44 rfl (fun r212 M213 h214 => ?_)
      obtain ⟨a216, rfl, hM213, fM213, h215⟩ := h214
      have bM213 := tkm_b (f := gf) (n := gn) (M := M213) (by omega)
      refine y_if_ne C 51 dX12_readUnit_47 (by decide) (by omega) (fun h217 => ?_) (fun h217 => ?_)
      · have u218c := xw_c (N := M0) (P := M213) 1 (FR.cell fM213 (by decide)) (by omega)
        have u218t := xw_t (M := M0) (N := M0) (P := M213) (r1 := 0) (e1 := 0) (s1 := 0) (r2 := 0) (e2 := 0) (s2 := 1) 0 0 1 (by decide) (by omega) (by omega)
        have u218a := ca_x (M := M0) (N := M213) (r := 0) (e := 0) (s := 1) (by decide) (by omega) (by omega)
        have u218l := ri_l (M := M213) (by omega)
        refine j_aload_n C 0 0 dX12_readUnit_51 rfl rfl ?_
        refine j_iload_n C 1 1 dX12_readUnit_52 rfl rfl ?_
        refine y_iconst C dX12_readUnit_53 ?_
        refine y_iadd C dX12_readUnit_54 ?_
        refine j_callVv C (d := 18) (As := [.int (sI (3 + 1))]) (st := []) 98 (s_lt rfl rfl) (s_kc (c := 11) rfl rfl) (by decide) rfl (s3_X12_readTruth hM213 hpr gf gn (nxF gf gn gi) (by omega) (by omega) (by omega) (by omega) (by omega)) gX12_readUnit_X12_readTruth rfl hdX12_readTruth (by decide) (Nat.le_of_ble_eq_true rfl) dX12_readUnit_55 rfl (fun M220 h221 => ?_)
        obtain ⟨hM220, fM220, h222⟩ := h221
        have bM220 := tkm_b (f := gf) (n := gn) (M := M220) (by omega)
        have qM220 := po_rr (trP gf gn (unR gf gn 2)) gn (nxF gf gn gi) (M213.1 98 11).toInt (M213.1 98 12).toInt (M213.1 98 6).toInt (M220.1 98 11).toInt (M220.1 98 12).toInt (M220.1 98 6).toInt (tr_g gf gn (unR_g gf gn 2)) (by omega) (by omega)
        have u223t := xw_t (M := M0) (N := M213) (P := M220) (r1 := 0) (e1 := 0) (s1 := 1) (r2 := 0) (e2 := 1) (s2 := 0) 0 1 1 (by decide) (by omega) (by omega)
        have u223l := ri_l (M := M220) (by omega)
        refine j_aload_n C 0 0 dX12_readUnit_58 rfl rfl ?_
        refine y_bipush C dX12_readUnit_59 rfl ?_
        have k224 := tkm_K (f := gf) (n := gn) (M := M220) (by omega)
        have k225 := kd_2 (kdk_38 gf gn (M220.1 98 6).toInt) (by omega)
        refine j_callVi C (d := 6) (As := [.int (sI 38)]) (st := []) 98 (s_lt rfl rfl) (s_kc (c := 11) rfl rfl) (by decide) rfl (s1_X12_eats hM220 hpr 38 (by omega) gf gn ((trP gf gn (unR gf gn 2)) (nxF gf gn gi)).2.2 (by omega) (by omega) (by omega) (by omega) (by omega)) gX12_readUnit_X12_eats rfl hdX12_eats (by decide) (Nat.le_of_ble_eq_true rfl) dX12_readUnit_61 rfl (fun r226 M227 h228 => ?_)
        obtain ⟨a230, rfl, hM227, fM227, h229⟩ := h228
        have k231 := tk_c gf gn (M227.1 98 6).toInt (M220.1 98 6).toInt
        have bM227 := tkm_b (f := gf) (n := gn) (M := M227) (by omega)
        have u232c := xw_c (N := M220) (P := M227) 0 (FR.cell fM227 (by decide)) (by omega)
        have u232t := xw_t (M := M0) (N := M220) (P := M227) (r1 := 0) (e1 := 1) (s1 := 1) (r2 := 0) (e2 := 0) (s2 := 0) 0 1 0 (by decide) (by omega) (by omega)
        have u232l := ri_l (M := M227) (by omega)
        refine y_if_ne C 72 dX12_readUnit_64 (by decide) (by omega) (fun h233 => ?_) (fun h233 => ?_)
        · have u234a := ca_x (M := M0) (N := M227) (r := 0) (e := 1) (s := 0) (by decide) (by omega) (by omega)
          have u235x := ex_1 gf gn 2093 ((trP gf gn (unR gf gn 2)) (nxF gf gn gi)).2.2 (M220.1 98 11).toInt (M220.1 98 12).toInt (M220.1 98 6).toInt (M227.1 98 11).toInt (M227.1 98 12).toInt (M227.1 98 6).toInt (by omega) (by omega) (by omega) (by omega) (by omega) (by omega)
          have u235r := un_2 gf gn 2 3 rfl gi (M0.1 98 11).toInt (M0.1 98 12).toInt (M0.1 98 6).toInt (M213.1 98 11).toInt (M213.1 98 12).toInt (M220.1 98 11).toInt (M220.1 98 12).toInt (M220.1 98 6).toInt (M227.1 98 11).toInt (M227.1 98 12).toInt (M227.1 98 6).toInt (by omega) (by omega) (by omega) (by omega) (by omega) (by omega)
          exact hret _ _ _ dX12_readUnit_72 ⟨hM227, (((FR.rf.tr fM213 (by decide)).tr fM220 (by decide)).tr fM227 (by decide)), by omega⟩
        · refine j_aload_n C 0 0 dX12_readUnit_67 rfl rfl ?_
          refine y_iconst C dX12_readUnit_68 ?_
          have p236 := po_eq gn ((trP gf gn (unR gf gn 2)) (nxF gf gn gi)).2.2 (M220.1 98 11).toInt (M220.1 98 6).toInt (M227.1 98 11).toInt (M227.1 98 6).toInt (by omega) (by omega) (by omega)
          refine j_callVv C (d := 0) (As := [.int (sI 2)]) (st := []) 98 (s_lt rfl rfl) (s_kc (c := 11) rfl rfl) (by decide) rfl (s1_X12_fails hM227 hpr 2 (by omega) gf gn ((trP gf gn (unR gf gn 2)) (nxF gf gn gi)).2.2 (by omega) (by omega) (by omega) (by omega) (by omega)) gX12_readUnit_X12_fails rfl hdX12_fails (by decide) (Nat.le_of_ble_eq_true rfl) dX12_readUnit_69 rfl (fun M238 h239 => ?_)
          obtain ⟨hM238, fM238, h240⟩ := h239
          have bM238 := tkm_b (f := gf) (n := gn) (M := M238) (by omega)
          have qM238 := po_f gn ((faQ gf gn 2) ((trP gf gn (unR gf gn 2)) (nxF gf gn gi)).2.2).2.2 (M238.1 98 11).toInt (M238.1 98 6).toInt (by omega)
          have u241f : b01 (XW M0 M238 0 1 0) = 1 := b01_i (Or.inl (by omega))
          have u241a := ca_x (M := M0) (N := M238) (r := 0) (e := 1) (s := 0) (by decide) (by omega) (by omega)
          have u242x := ex_2z gf gn 2093 ((trP gf gn (unR gf gn 2)) (nxF gf gn gi)).2.2 (M220.1 98 11).toInt (M220.1 98 12).toInt (M220.1 98 6).toInt (M238.1 98 11).toInt (M238.1 98 12).toInt (M238.1 98 6).toInt (by omega) (by omega) (rr_fr (faQ gf gn 2 ((trP gf gn (unR gf gn 2)) (nxF gf gn gi)).2.2) (M220.1 98 11).toInt (M220.1 98 12).toInt (M227.1 98 11).toInt (M227.1 98 12).toInt (M238.1 98 11).toInt (M238.1 98 12).toInt (M238.1 98 6).toInt (by omega) (by omega) (by omega))
          have u242r := un_2 gf gn 2 3 rfl gi (M0.1 98 11).toInt (M0.1 98 12).toInt (M0.1 98 6).toInt (M213.1 98 11).toInt (M213.1 98 12).toInt (M220.1 98 11).toInt (M220.1 98 12).toInt (M220.1 98 6).toInt (M238.1 98 11).toInt (M238.1 98 12).toInt (M238.1 98 6).toInt (by omega) (by omega) (by omega) (by omega) (by omega) (by omega)
          exact hret _ _ _ dX12_readUnit_72 ⟨hM238, ((((FR.rf.tr fM213 (by decide)).tr fM220 (by decide)).tr fM227 (by decide)).tr fM238 (by decide)), by omega⟩
      · exfalso; omega
  · have u243k := ri_k (M := M0) (by omega) (by omega)
    refine j_aload_n C 0 0 dX12_readUnit_9 rfl rfl ?_
    refine j_iload_n C 1 1 dX12_readUnit_10 rfl rfl ?_
    refine j_callVi C (d := 6) (As := [.int (sI 3)]) (st := []) 98 (s_lt rfl rfl) (s_kc (c := 11) rfl rfl) (by decide) rfl (s4_X12_goesIn hM0 hpr gf gn gi (by omega) (by omega) (by omega) (by omega) (by omega) (by omega) (by omega)) gX12_readUnit_X12_goesIn rfl hdX12_goesIn (by decide) (Nat.le_of_ble_eq_true rfl) dX12_readUnit_11 rfl (fun r244 M245 h246 => ?_)
    obtain ⟨a248, rfl, hM245, fM245, h247⟩ := h246
    have bM245 := tkm_b (f := gf) (n := gn) (M := M245) (by omega)
    refine y_if_ne C 18 dX12_readUnit_14 (by decide) (by omega) (fun h249 => ?_) (fun h249 => ?_)
    · have u250c := xw_c (N := M0) (P := M245) 1 (FR.cell fM245 (by decide)) (by omega)
      have u250t := xw_t (M := M0) (N := M0) (P := M245) (r1 := 0) (e1 := 0) (s1 := 0) (r2 := 0) (e2 := 0) (s2 := 1) 0 0 1 (by decide) (by omega) (by omega)
      have u250a := ca_x (M := M0) (N := M245) (r := 0) (e := 0) (s := 1) (by decide) (by omega) (by omega)
      have u250l := ri_l (M := M245) (by omega)
      refine j_aload_n C 0 0 dX12_readUnit_18 rfl rfl ?_
      refine j_iload_n C 1 1 dX12_readUnit_19 rfl rfl ?_
      refine y_iconst C dX12_readUnit_20 ?_
      refine y_iadd C dX12_readUnit_21 ?_
      refine j_callVv C (d := 16) (As := [.int (sI (3 + 1))]) (st := []) 98 (s_lt rfl rfl) (s_kc (c := 11) rfl rfl) (by decide) rfl (s3_X12_readUnit hM245 hpr gf gn (nxF gf gn gi) (by omega) (by omega) (by omega) (by omega) (by omega)) gX12_readUnit_X12_readUnit rfl hdX12_readUnit (by decide) (Nat.le_of_ble_eq_true rfl) dX12_readUnit_22 rfl (fun M252 h253 => ?_)
      obtain ⟨hM252, fM252, h254⟩ := h253
      have bM252 := tkm_b (f := gf) (n := gn) (M := M252) (by omega)
      have qM252 := po_rr (unR gf gn 2) gn (nxF gf gn gi) (M245.1 98 11).toInt (M245.1 98 12).toInt (M245.1 98 6).toInt (M252.1 98 11).toInt (M252.1 98 12).toInt (M252.1 98 6).toInt (unR_g gf gn 2) (by omega) (by omega)
      have u255t := xw_t (M := M0) (N := M245) (P := M252) (r1 := 0) (e1 := 0) (s1 := 1) (r2 := 0) (e2 := 1) (s2 := 0) 0 1 1 (by decide) (by omega) (by omega)
      have u255l := ri_l (M := M252) (by omega)
      have u255b := cb_x (M := M0) (N := M252) (r := 0) (e := 1) (s := 1) (by decide) (by omega) (by omega) (by omega)
      refine j_aload_n C 0 0 dX12_readUnit_25 rfl rfl ?_
      refine y_sipush C dX12_readUnit_26 rfl ?_
      refine j_callVv C (d := 0) (As := [.int (sI 3006)]) (st := []) 98 (s_lt rfl rfl) (s_kc (c := 11) rfl rfl) (by decide) rfl (s1_X12_codes hM252 hpr 3006 (by omega) gf gn ((unR gf gn 2) (nxF gf gn gi)).2.2 (by omega) (by omega) (by omega) (by omega)) gX12_readUnit_X12_codes rfl hdX12_codes (by decide) (Nat.le_of_ble_eq_true rfl) dX12_readUnit_29 rfl (fun M257 h258 => ?_)
      obtain ⟨hM257, fM257, h259⟩ := h258
      have bM257 := tkm_b (f := gf) (n := gn) (M := M257) (by omega)
      have qM257 := po_eq gn ((unR gf gn 2) (nxF gf gn gi)).2.2 (M252.1 98 11).toInt (M252.1 98 6).toInt (M257.1 98 11).toInt (M257.1 98 6).toInt (by omega) (by omega) (by omega)
      have u260x := xw_a (M := M252) (N := M257) (c := 3006) (r := 1) (e := 0) (FR.cell fM257 (by decide)) (ap_not (INV.rd hM252 (i := 102) (c := 48) (k := 280) rfl rfl).1) (by omega)
      have u260t := xw_t (M := M0) (N := M252) (P := M257) (r1 := 0) (e1 := 1) (s1 := 1) (r2 := 1) (e2 := 0) (s2 := (-1)) 0 1 0 (by decide) (by omega) (by omega)
      have u260i := ri_c (M := M252) (N := M257) (FR.cell fM257 (by decide)) (by omega)
      have u260l := ri_l (M := M257) (by omega)
      have u260a := ca_x (M := M0) (N := M257) (r := 0) (e := 1) (s := 0) (by decide) (by omega) (by omega)
      have u261r := un_1 gf gn 2 3 rfl gi (M0.1 98 11).toInt (M0.1 98 12).toInt (M0.1 98 6).toInt (M245.1 98 11).toInt (M245.1 98 12).toInt (M252.1 98 11).toInt (M252.1 98 12).toInt (M252.1 98 6).toInt (M257.1 98 11).toInt (M257.1 98 12).toInt (M257.1 98 6).toInt (by omega) (by omega) (by omega) (by omega) (by omega) (by omega) (by omega) (by omega)
      have zz98_11 : (M257.1 98 11).toInt = (M252.1 98 11).toInt := s_fF fM257 (by decide) (rfl); have zz98_12 : (M257.1 98 12).toInt = (M252.1 98 12).toInt := s_fF fM257 (by decide) (rfl); have zz98_6 : (M257.1 98 6).toInt = (M252.1 98 6).toInt := s_fF fM257 (by decide) (rfl); have zz98_8 : (M257.1 98 8).toInt = (M252.1 98 8).toInt := s_fF fM257 (by decide) (rfl); exact hret _ _ _ dX12_readUnit_32 ⟨hM257, (((FR.rf.tr fM245 (by decide)).tr fM252 (by decide)).tr fM257 (by decide)), by omega⟩
    · exfalso; omega
set_option maxHeartbeats 4000000 in
theorem s4_X12_readBoth {l : Launch} {dC : Nat → ClassId} {dI : Nat → Nat → Nat} {ad : Nat → Nat} {cA : Nat → ClassId} {pr : Nat → Nat → Bool} {Kz : mm_M} {M0 : mm_M} (hM0 : INV pr Kz M0) (hpr : PM pr) (gf : Nat → Int) (gn : Int) (gi : Int) (hp0 : b01 (RIP M0) = 1) (hp1 : b01 (CA M0) = 1) (hp2 : b01 (TKM gf gn M0) = 1) (hp3 : b01 (PO gn gi (M0.1 98 11).toInt (M0.1 98 6).toInt) = 1) (hp4 : b01 (PI M0) = 1) : Cv l 20 yX12_readBoth wsX12_readBoth dC dI ad cA [.ref (ad 98), .int (sI 3)] M0 (fun M' => INV pr Kz M' ∧ FR [98, 102] M0 M' ∧ (b01 (RIP M') = 1) ∧ ((M'.1 98 8).toInt = (M0.1 98 8).toInt) ∧ ((M0.1 98 6).toInt ≤ (M'.1 98 6).toInt) ∧ (b01 (XW M0 M' 0 1 0) = 1) ∧ (b01 (CA M') = 1) ∧ (b01 (PI M') = 1) ∧ (b01 (TKM gf gn M') = 1) ∧ b01 (RR ((boP gf gn (unR gf gn 3)) gi) (M0.1 98 11).toInt (M0.1 98 12).toInt (M'.1 98 11).toInt (M'.1 98 12).toInt (M'.1 98 6).toInt) = 1) := by
  refine cv_of (cc := cX12_readBoth) (maxL := 2) (lv := [(0, .ref (ad 98)), (1, .int (sI 3))]) (by decide) rfl (Nat.le_of_ble_eq_true rfl) rfl ?_
  intro p e s m args below meth c A Q C hret
  have u101z := xw_0 M0
  have u101l := ri_l (M := M0) (by omega)
  refine j_aload_n C 0 0 dX12_readBoth_0 rfl rfl ?_
  refine j_iload_n C 1 1 dX12_readBoth_1 rfl rfl ?_
  refine j_callVv C (d := 19) (As := [.int (sI 3)]) (st := []) 98 (s_lt rfl rfl) (s_kc (c := 11) rfl rfl) (by decide) rfl (s4_X12_readUnit hM0 hpr gf gn gi (by omega) (by omega) (by omega) (by omega) (by omega)) gX12_readBoth_X12_readUnit rfl hdX12_readUnit (by decide) (Nat.le_of_ble_eq_true rfl) dX12_readBoth_2 rfl (fun M103 h104 => ?_)
  obtain ⟨hM103, fM103, h105⟩ := h104
  have bM103 := tkm_b (f := gf) (n := gn) (M := M103) (by omega)
  have qM103 := po_rr (unR gf gn 3) gn gi (M0.1 98 11).toInt (M0.1 98 12).toInt (M0.1 98 6).toInt (M103.1 98 11).toInt (M103.1 98 12).toInt (M103.1 98 6).toInt (unR_g gf gn 3) (by omega) (by omega)
  have u106l := ri_l (M := M103) (by omega)
  have u106L := ll_0 (luP gf gn 1015 1015 (unR gf gn 3)) gn ((unR gf gn 3) gi).2.2 (M103.1 98 11).toInt (M103.1 98 12).toInt (M103.1 98 6).toInt (by omega)
  have L132 : ∀ (n130 : Nat), ∀ (M133 : mm_M) (gq134 : Int), ((b01 (RIP M133) = 1) ∧ ((M133.1 98 8).toInt = (M0.1 98 8).toInt) ∧ ((M0.1 98 6).toInt ≤ (M133.1 98 6).toInt) ∧ (b01 (XW M0 M133 0 1 0) = 1) ∧ ((M133.1 98 6).toInt ≤ 900) ∧ (b01 (LL (luP gf gn 1015 1015 (unR gf gn 3)) gn ((unR gf gn 3) gi).2.2 gq134 0 (M103.1 98 11).toInt (M103.1 98 12).toInt (M133.1 98 11).toInt (M133.1 98 12).toInt (M133.1 98 6).toInt) = 1) ∧ (b01 (TKM gf gn M133) = 1) ∧ (b01 (PO gn gq134 (M133.1 98 11).toInt (M133.1 98 6).toInt) = 1) ∧ (b01 (PI M133) = 1) ∧ (900 - (M133.1 98 6).toInt) < (n130 : Int)) → INV pr Kz M133 → FR [98, 102] M0 M133 → jj p l e (cn_R 20) s m args below meth c 0 0 Q 2 dC dI ad cA A M133 5 [(0, .ref (ad 98)), (1, .int (sI 3))] [] := by
    intro n130
    induction n130 with
    | zero =>
      intro M133 gq134 h135 hM133 fM133
      exfalso; omega
    | succ n130 ih131 =>
      intro M133 gq134 h135 hM133 fM133
      have u136l := ri_l (M := M133) (by omega)
      have u136B := tkm_b (f := gf) (n := gn) (M := M133) (by omega)
      refine j_aload_n C 0 0 dX12_readBoth_5 rfl rfl ?_
      refine y_bipush C dX12_readBoth_6 rfl ?_
      have k137 := tkm_K (f := gf) (n := gn) (M := M133) (by omega)
      have k138 := kd_2 (kdk_14 gf gn (M133.1 98 6).toInt) (by omega)
      refine j_callVi C (d := 6) (As := [.int (sI 14)]) (st := []) 98 (s_lt rfl rfl) (s_kc (c := 11) rfl rfl) (by decide) rfl (s1_X12_eats hM133 hpr 14 (by omega) gf gn gq134 (by omega) (by omega) (by omega) (by omega) (by omega)) gX12_readBoth_X12_eats rfl hdX12_eats (by decide) (Nat.le_of_ble_eq_true rfl) dX12_readBoth_8 rfl (fun r139 M140 h141 => ?_)
      obtain ⟨a143, rfl, hM140, fM140, h142⟩ := h141
      have k144 := tk_c gf gn (M140.1 98 6).toInt (M133.1 98 6).toInt
      have bM140 := tkm_b (f := gf) (n := gn) (M := M140) (by omega)
      refine y_if_eq C 29 dX12_readBoth_11 (by decide) (by omega) (fun h145 => ?_) (fun h145 => ?_)
      · have u157c := xw_c (N := M133) (P := M140) 0 (FR.cell fM140 (by decide)) (by omega)
        have u157t := xw_t (M := M0) (N := M133) (P := M140) (r1 := 0) (e1 := 1) (s1 := 0) (r2 := 0) (e2 := 0) (s2 := 0) 0 1 0 (by decide) (by omega) (by omega)
        have u157a := ca_x (M := M0) (N := M140) (r := 0) (e := 1) (s := 0) (by decide) (by omega) (by omega)
        have u157E := ll_e gf gn 1015 1015 (unR gf gn 3) ((unR gf gn 3) gi).2.2 gq134 0 (M103.1 98 11).toInt (M103.1 98 12).toInt (M133.1 98 11).toInt (M133.1 98 12).toInt (M133.1 98 6).toInt (by decide) (unR_g gf gn 3) (by omega) (by omega)
        have u157S : b01 (RR ((boP gf gn (unR gf gn 3)) gi) (M0.1 98 11).toInt (M0.1 98 12).toInt (M133.1 98 11).toInt (M133.1 98 12).toInt (M133.1 98 6).toInt) = 1 := rr_sq ((unR gf gn 3) gi) (luP gf gn 1015 1015 (unR gf gn 3)) (M0.1 98 11).toInt (M0.1 98 12).toInt (M103.1 98 11).toInt (M103.1 98 12).toInt (M103.1 98 6).toInt (M133.1 98 11).toInt (M133.1 98 12).toInt (M133.1 98 6).toInt (by omega) (by omega)
        have u157R := rr_eq ((boP gf gn (unR gf gn 3)) gi) (M0.1 98 11).toInt (M0.1 98 12).toInt (M133.1 98 11).toInt (M133.1 98 12).toInt (M133.1 98 6).toInt (M140.1 98 11).toInt (M140.1 98 12).toInt (M140.1 98 6).toInt (by omega) (by omega) (by omega) (by omega)
        exact hret _ _ _ dX12_readBoth_29 ⟨hM140, ((FR.rf.tr fM133 (by decide)).tr fM140 (by decide)), by omega⟩
      · have u146c := xw_c (N := M133) (P := M140) 1 (FR.cell fM140 (by decide)) (by omega)
        have u146t := xw_t (M := M0) (N := M133) (P := M140) (r1 := 0) (e1 := 1) (s1 := 0) (r2 := 0) (e2 := 0) (s2 := 1) 0 1 1 (by decide) (by omega) (by omega)
        have u146a := ca_x (M := M0) (N := M140) (r := 0) (e := 1) (s := 1) (by decide) (by omega) (by omega)
        have u146l := ri_l (M := M140) (by omega)
        refine j_aload_n C 0 0 dX12_readBoth_14 rfl rfl ?_
        refine j_iload_n C 1 1 dX12_readBoth_15 rfl rfl ?_
        refine j_callVv C (d := 19) (As := [.int (sI 3)]) (st := []) 98 (s_lt rfl rfl) (s_kc (c := 11) rfl rfl) (by decide) rfl (s4_X12_readUnit hM140 hpr gf gn (nxF gf gn gq134) (by omega) (by omega) (by omega) (by omega) (by omega)) gX12_readBoth_X12_readUnit rfl hdX12_readUnit (by decide) (Nat.le_of_ble_eq_true rfl) dX12_readBoth_16 rfl (fun M148 h149 => ?_)
        obtain ⟨hM148, fM148, h150⟩ := h149
        have bM148 := tkm_b (f := gf) (n := gn) (M := M148) (by omega)
        have qM148 := po_rr (unR gf gn 3) gn (nxF gf gn gq134) (M140.1 98 11).toInt (M140.1 98 12).toInt (M140.1 98 6).toInt (M148.1 98 11).toInt (M148.1 98 12).toInt (M148.1 98 6).toInt (unR_g gf gn 3) (by omega) (by omega)
        have u151t := xw_t (M := M0) (N := M140) (P := M148) (r1 := 0) (e1 := 1) (s1 := 1) (r2 := 0) (e2 := 1) (s2 := 0) 0 2 1 (by decide) (by omega) (by omega)
        have u151l := ri_l (M := M148) (by omega)
        have u151b := cb_x (M := M0) (N := M148) (r := 0) (e := 2) (s := 1) (by decide) (by omega) (by omega) (by omega)
        refine j_aload_n C 0 0 dX12_readBoth_19 rfl rfl ?_
        refine y_sipush C dX12_readBoth_20 rfl ?_
        refine j_callVv C (d := 0) (As := [.int (sI 3007)]) (st := []) 98 (s_lt rfl rfl) (s_kc (c := 11) rfl rfl) (by decide) rfl (s1_X12_codes hM148 hpr 3007 (by omega) gf gn ((unR gf gn 3) (nxF gf gn gq134)).2.2 (by omega) (by omega) (by omega) (by omega)) gX12_readBoth_X12_codes rfl hdX12_codes (by decide) (Nat.le_of_ble_eq_true rfl) dX12_readBoth_23 rfl (fun M153 h154 => ?_)
        obtain ⟨hM153, fM153, h155⟩ := h154
        have bM153 := tkm_b (f := gf) (n := gn) (M := M153) (by omega)
        have qM153 := po_eq gn ((unR gf gn 3) (nxF gf gn gq134)).2.2 (M148.1 98 11).toInt (M148.1 98 6).toInt (M153.1 98 11).toInt (M153.1 98 6).toInt (by omega) (by omega) (by omega)
        refine j_goto C 5 dX12_readBoth_26 (by decide) ?_
        have u156x := xw_a (M := M148) (N := M153) (c := 3007) (r := 2) (e := (-1)) (FR.cell fM153 (by decide)) (ap_bin ⟨(INV.rd hM148 (i := 102) (c := 48) (k := 280) rfl rfl).1, by omega, by omega⟩) (by omega)
        have u156t := xw_t (M := M0) (N := M148) (P := M153) (r1 := 0) (e1 := 2) (s1 := 1) (r2 := 2) (e2 := (-1)) (s2 := (-1)) 0 1 0 (by decide) (by omega) (by omega)
        have u156i := ri_c (M := M148) (N := M153) (FR.cell fM153 (by decide)) (by omega)
        have u156l := ri_l (M := M153) (by omega)
        have u156L := ll_w (luP gf gn 1015 1015 (unR gf gn 3)) gn ((unR gf gn 3) gi).2.2 ((unR gf gn 3) (nxF gf gn gq134)).2.2 (0 + 1) 0 (M103.1 98 11).toInt (M103.1 98 12).toInt (M153.1 98 11).toInt (M153.1 98 12).toInt (M153.1 98 6).toInt (by decide) (ll_s gf gn 1015 1015 (unR gf gn 3) ((unR gf gn 3) gi).2.2 gq134 0 (M103.1 98 11).toInt (M103.1 98 12).toInt (M133.1 98 11).toInt (M133.1 98 12).toInt (M133.1 98 6).toInt (M140.1 98 11).toInt (M140.1 98 12).toInt (M148.1 98 11).toInt (M148.1 98 12).toInt (M148.1 98 6).toInt (M153.1 98 11).toInt (M153.1 98 12).toInt (M153.1 98 6).toInt (by decide) (unR_g gf gn 3) (by omega) (by omega) (by omega) (by omega) (by omega) (by omega) (by omega) (by omega) (by omega))
        have zz98_8 : (M153.1 98 8).toInt = (M148.1 98 8).toInt := s_fF fM153 (by decide) (rfl); have zz98_6 : (M153.1 98 6).toInt = (M148.1 98 6).toInt := s_fF fM153 (by decide) (rfl); have zz98_12 : (M153.1 98 12).toInt = (M148.1 98 12).toInt := s_fF fM153 (by decide) (rfl); have zz98_11 : (M153.1 98 11).toInt = (M148.1 98 11).toInt := s_fF fM153 (by decide) (rfl); exact ih131 M153 ((unR gf gn 3) (nxF gf gn gq134)).2.2 (by omega) hM153 ((((FR.rf.tr fM133 (by decide)).tr fM140 (by decide)).tr fM148 (by decide)).tr fM153 (by decide))
  exact L132 2010 M103 ((unR gf gn 3) gi).2.2 (by omega) hM103 (FR.rf.tr fM103 (by decide))
set_option maxHeartbeats 4000000 in
theorem s4_X12_readTruth {l : Launch} {dC : Nat → ClassId} {dI : Nat → Nat → Nat} {ad : Nat → Nat} {cA : Nat → ClassId} {pr : Nat → Nat → Bool} {Kz : mm_M} {M0 : mm_M} (hM0 : INV pr Kz M0) (hpr : PM pr) (gf : Nat → Int) (gn : Int) (gi : Int) (hp0 : b01 (RIP M0) = 1) (hp1 : b01 (CA M0) = 1) (hp2 : b01 (TKM gf gn M0) = 1) (hp3 : b01 (PO gn gi (M0.1 98 11).toInt (M0.1 98 6).toInt) = 1) (hp4 : b01 (PI M0) = 1) : Cv l 21 yX12_readTruth wsX12_readTruth dC dI ad cA [.ref (ad 98), .int (sI 3)] M0 (fun M' => INV pr Kz M' ∧ FR [98, 102] M0 M' ∧ (b01 (RIP M') = 1) ∧ ((M'.1 98 8).toInt = (M0.1 98 8).toInt) ∧ ((M0.1 98 6).toInt ≤ (M'.1 98 6).toInt) ∧ (b01 (XW M0 M' 0 1 0) = 1) ∧ (b01 (CA M') = 1) ∧ (b01 (PI M') = 1) ∧ (b01 (TKM gf gn M') = 1) ∧ b01 (RR ((trP gf gn (unR gf gn 3)) gi) (M0.1 98 11).toInt (M0.1 98 12).toInt (M'.1 98 11).toInt (M'.1 98 12).toInt (M'.1 98 6).toInt) = 1) := by
  refine cv_of (cc := cX12_readTruth) (maxL := 2) (lv := [(0, .ref (ad 98)), (1, .int (sI 3))]) (by decide) rfl (Nat.le_of_ble_eq_true rfl) rfl ?_
  intro p e s m args below meth c A Q C hret
  have u101z := xw_0 M0
  have u101l := ri_l (M := M0) (by omega)
  refine j_aload_n C 0 0 dX12_readTruth_0 rfl rfl ?_
  refine j_iload_n C 1 1 dX12_readTruth_1 rfl rfl ?_
  refine j_callVv C (d := 20) (As := [.int (sI 3)]) (st := []) 98 (s_lt rfl rfl) (s_kc (c := 11) rfl rfl) (by decide) rfl (s4_X12_readBoth hM0 hpr gf gn gi (by omega) (by omega) (by omega) (by omega) (by omega)) gX12_readTruth_X12_readBoth rfl hdX12_readBoth (by decide) (Nat.le_of_ble_eq_true rfl) dX12_readTruth_2 rfl (fun M103 h104 => ?_)
  obtain ⟨hM103, fM103, h105⟩ := h104
  have bM103 := tkm_b (f := gf) (n := gn) (M := M103) (by omega)
  have qM103 := po_rr (boP gf gn (unR gf gn 3)) gn gi (M0.1 98 11).toInt (M0.1 98 12).toInt (M0.1 98 6).toInt (M103.1 98 11).toInt (M103.1 98 12).toInt (M103.1 98 6).toInt (bo_g gf gn (unR_g gf gn 3)) (by omega) (by omega)
  have u106l := ri_l (M := M103) (by omega)
  have u106L := ll_0 (luP gf gn 1014 1014 (boP gf gn (unR gf gn 3))) gn ((boP gf gn (unR gf gn 3)) gi).2.2 (M103.1 98 11).toInt (M103.1 98 12).toInt (M103.1 98 6).toInt (by omega)
  have L132 : ∀ (n130 : Nat), ∀ (M133 : mm_M) (gq134 : Int), ((b01 (RIP M133) = 1) ∧ ((M133.1 98 8).toInt = (M0.1 98 8).toInt) ∧ ((M0.1 98 6).toInt ≤ (M133.1 98 6).toInt) ∧ (b01 (XW M0 M133 0 1 0) = 1) ∧ ((M133.1 98 6).toInt ≤ 900) ∧ (b01 (LL (luP gf gn 1014 1014 (boP gf gn (unR gf gn 3))) gn ((boP gf gn (unR gf gn 3)) gi).2.2 gq134 0 (M103.1 98 11).toInt (M103.1 98 12).toInt (M133.1 98 11).toInt (M133.1 98 12).toInt (M133.1 98 6).toInt) = 1) ∧ (b01 (TKM gf gn M133) = 1) ∧ (b01 (PO gn gq134 (M133.1 98 11).toInt (M133.1 98 6).toInt) = 1) ∧ (b01 (PI M133) = 1) ∧ (900 - (M133.1 98 6).toInt) < (n130 : Int)) → INV pr Kz M133 → FR [98, 102] M0 M133 → jj p l e (cn_R 21) s m args below meth c 0 0 Q 2 dC dI ad cA A M133 5 [(0, .ref (ad 98)), (1, .int (sI 3))] [] := by
    intro n130
    induction n130 with
    | zero =>
      intro M133 gq134 h135 hM133 fM133
      exfalso; omega
    | succ n130 ih131 =>
      intro M133 gq134 h135 hM133 fM133
      have u136l := ri_l (M := M133) (by omega)
      have u136B := tkm_b (f := gf) (n := gn) (M := M133) (by omega)
      refine j_aload_n C 0 0 dX12_readTruth_5 rfl rfl ?_
      refine y_bipush C dX12_readTruth_6 rfl ?_
      have k137 := tkm_K (f := gf) (n := gn) (M := M133) (by omega)
      have k138 := kd_2 (kdk_15 gf gn (M133.1 98 6).toInt) (by omega)
      refine j_callVi C (d := 6) (As := [.int (sI 15)]) (st := []) 98 (s_lt rfl rfl) (s_kc (c := 11) rfl rfl) (by decide) rfl (s1_X12_eats hM133 hpr 15 (by omega) gf gn gq134 (by omega) (by omega) (by omega) (by omega) (by omega)) gX12_readTruth_X12_eats rfl hdX12_eats (by decide) (Nat.le_of_ble_eq_true rfl) dX12_readTruth_8 rfl (fun r139 M140 h141 => ?_)
      obtain ⟨a143, rfl, hM140, fM140, h142⟩ := h141
      have k144 := tk_c gf gn (M140.1 98 6).toInt (M133.1 98 6).toInt
      have bM140 := tkm_b (f := gf) (n := gn) (M := M140) (by omega)
      refine y_if_eq C 29 dX12_readTruth_11 (by decide) (by omega) (fun h145 => ?_) (fun h145 => ?_)
      · have u157c := xw_c (N := M133) (P := M140) 0 (FR.cell fM140 (by decide)) (by omega)
        have u157t := xw_t (M := M0) (N := M133) (P := M140) (r1 := 0) (e1 := 1) (s1 := 0) (r2 := 0) (e2 := 0) (s2 := 0) 0 1 0 (by decide) (by omega) (by omega)
        have u157a := ca_x (M := M0) (N := M140) (r := 0) (e := 1) (s := 0) (by decide) (by omega) (by omega)
        have u157E := ll_e gf gn 1014 1014 (boP gf gn (unR gf gn 3)) ((boP gf gn (unR gf gn 3)) gi).2.2 gq134 0 (M103.1 98 11).toInt (M103.1 98 12).toInt (M133.1 98 11).toInt (M133.1 98 12).toInt (M133.1 98 6).toInt (by decide) (bo_g gf gn (unR_g gf gn 3)) (by omega) (by omega)
        have u157S : b01 (RR ((trP gf gn (unR gf gn 3)) gi) (M0.1 98 11).toInt (M0.1 98 12).toInt (M133.1 98 11).toInt (M133.1 98 12).toInt (M133.1 98 6).toInt) = 1 := rr_sq ((boP gf gn (unR gf gn 3)) gi) (luP gf gn 1014 1014 (boP gf gn (unR gf gn 3))) (M0.1 98 11).toInt (M0.1 98 12).toInt (M103.1 98 11).toInt (M103.1 98 12).toInt (M103.1 98 6).toInt (M133.1 98 11).toInt (M133.1 98 12).toInt (M133.1 98 6).toInt (by omega) (by omega)
        have u157R := rr_eq ((trP gf gn (unR gf gn 3)) gi) (M0.1 98 11).toInt (M0.1 98 12).toInt (M133.1 98 11).toInt (M133.1 98 12).toInt (M133.1 98 6).toInt (M140.1 98 11).toInt (M140.1 98 12).toInt (M140.1 98 6).toInt (by omega) (by omega) (by omega) (by omega)
        exact hret _ _ _ dX12_readTruth_29 ⟨hM140, ((FR.rf.tr fM133 (by decide)).tr fM140 (by decide)), by omega⟩
      · have u146c := xw_c (N := M133) (P := M140) 1 (FR.cell fM140 (by decide)) (by omega)
        have u146t := xw_t (M := M0) (N := M133) (P := M140) (r1 := 0) (e1 := 1) (s1 := 0) (r2 := 0) (e2 := 0) (s2 := 1) 0 1 1 (by decide) (by omega) (by omega)
        have u146a := ca_x (M := M0) (N := M140) (r := 0) (e := 1) (s := 1) (by decide) (by omega) (by omega)
        have u146l := ri_l (M := M140) (by omega)
        refine j_aload_n C 0 0 dX12_readTruth_14 rfl rfl ?_
        refine j_iload_n C 1 1 dX12_readTruth_15 rfl rfl ?_
        refine j_callVv C (d := 20) (As := [.int (sI 3)]) (st := []) 98 (s_lt rfl rfl) (s_kc (c := 11) rfl rfl) (by decide) rfl (s4_X12_readBoth hM140 hpr gf gn (nxF gf gn gq134) (by omega) (by omega) (by omega) (by omega) (by omega)) gX12_readTruth_X12_readBoth rfl hdX12_readBoth (by decide) (Nat.le_of_ble_eq_true rfl) dX12_readTruth_16 rfl (fun M148 h149 => ?_)
        obtain ⟨hM148, fM148, h150⟩ := h149
        have bM148 := tkm_b (f := gf) (n := gn) (M := M148) (by omega)
        have qM148 := po_rr (boP gf gn (unR gf gn 3)) gn (nxF gf gn gq134) (M140.1 98 11).toInt (M140.1 98 12).toInt (M140.1 98 6).toInt (M148.1 98 11).toInt (M148.1 98 12).toInt (M148.1 98 6).toInt (bo_g gf gn (unR_g gf gn 3)) (by omega) (by omega)
        have u151t := xw_t (M := M0) (N := M140) (P := M148) (r1 := 0) (e1 := 1) (s1 := 1) (r2 := 0) (e2 := 1) (s2 := 0) 0 2 1 (by decide) (by omega) (by omega)
        have u151l := ri_l (M := M148) (by omega)
        have u151b := cb_x (M := M0) (N := M148) (r := 0) (e := 2) (s := 1) (by decide) (by omega) (by omega) (by omega)
        refine j_aload_n C 0 0 dX12_readTruth_19 rfl rfl ?_
        refine y_sipush C dX12_readTruth_20 rfl ?_
        refine j_callVv C (d := 0) (As := [.int (sI 3008)]) (st := []) 98 (s_lt rfl rfl) (s_kc (c := 11) rfl rfl) (by decide) rfl (s1_X12_codes hM148 hpr 3008 (by omega) gf gn ((boP gf gn (unR gf gn 3)) (nxF gf gn gq134)).2.2 (by omega) (by omega) (by omega) (by omega)) gX12_readTruth_X12_codes rfl hdX12_codes (by decide) (Nat.le_of_ble_eq_true rfl) dX12_readTruth_23 rfl (fun M153 h154 => ?_)
        obtain ⟨hM153, fM153, h155⟩ := h154
        have bM153 := tkm_b (f := gf) (n := gn) (M := M153) (by omega)
        have qM153 := po_eq gn ((boP gf gn (unR gf gn 3)) (nxF gf gn gq134)).2.2 (M148.1 98 11).toInt (M148.1 98 6).toInt (M153.1 98 11).toInt (M153.1 98 6).toInt (by omega) (by omega) (by omega)
        refine j_goto C 5 dX12_readTruth_26 (by decide) ?_
        have u156x := xw_a (M := M148) (N := M153) (c := 3008) (r := 2) (e := (-1)) (FR.cell fM153 (by decide)) (ap_bin ⟨(INV.rd hM148 (i := 102) (c := 48) (k := 280) rfl rfl).1, by omega, by omega⟩) (by omega)
        have u156t := xw_t (M := M0) (N := M148) (P := M153) (r1 := 0) (e1 := 2) (s1 := 1) (r2 := 2) (e2 := (-1)) (s2 := (-1)) 0 1 0 (by decide) (by omega) (by omega)
        have u156i := ri_c (M := M148) (N := M153) (FR.cell fM153 (by decide)) (by omega)
        have u156l := ri_l (M := M153) (by omega)
        have u156L := ll_w (luP gf gn 1014 1014 (boP gf gn (unR gf gn 3))) gn ((boP gf gn (unR gf gn 3)) gi).2.2 ((boP gf gn (unR gf gn 3)) (nxF gf gn gq134)).2.2 (0 + 1) 0 (M103.1 98 11).toInt (M103.1 98 12).toInt (M153.1 98 11).toInt (M153.1 98 12).toInt (M153.1 98 6).toInt (by decide) (ll_s gf gn 1014 1014 (boP gf gn (unR gf gn 3)) ((boP gf gn (unR gf gn 3)) gi).2.2 gq134 0 (M103.1 98 11).toInt (M103.1 98 12).toInt (M133.1 98 11).toInt (M133.1 98 12).toInt (M133.1 98 6).toInt (M140.1 98 11).toInt (M140.1 98 12).toInt (M148.1 98 11).toInt (M148.1 98 12).toInt (M148.1 98 6).toInt (M153.1 98 11).toInt (M153.1 98 12).toInt (M153.1 98 6).toInt (by decide) (bo_g gf gn (unR_g gf gn 3)) (by omega) (by omega) (by omega) (by omega) (by omega) (by omega) (by omega) (by omega) (by omega))
        have zz98_8 : (M153.1 98 8).toInt = (M148.1 98 8).toInt := s_fF fM153 (by decide) (rfl); have zz98_6 : (M153.1 98 6).toInt = (M148.1 98 6).toInt := s_fF fM153 (by decide) (rfl); have zz98_12 : (M153.1 98 12).toInt = (M148.1 98 12).toInt := s_fF fM153 (by decide) (rfl); have zz98_11 : (M153.1 98 11).toInt = (M148.1 98 11).toInt := s_fF fM153 (by decide) (rfl); exact ih131 M153 ((boP gf gn (unR gf gn 3)) (nxF gf gn gq134)).2.2 (by omega) hM153 ((((FR.rf.tr fM133 (by decide)).tr fM140 (by decide)).tr fM148 (by decide)).tr fM153 (by decide))
  exact L132 2010 M103 ((boP gf gn (unR gf gn 3)) gi).2.2 (by omega) hM103 (FR.rf.tr fM103 (by decide))
set_option maxHeartbeats 4000000 in
theorem s5_X12_readUnit {l : Launch} {dC : Nat → ClassId} {dI : Nat → Nat → Nat} {ad : Nat → Nat} {cA : Nat → ClassId} {pr : Nat → Nat → Bool} {Kz : mm_M} {M0 : mm_M} (hM0 : INV pr Kz M0) (hpr : PM pr) (gf : Nat → Int) (gn : Int) (gi : Int) (hp0 : b01 (RIP M0) = 1) (hp1 : b01 (CA M0) = 1) (hp2 : b01 (TKM gf gn M0) = 1) (hp3 : b01 (PO gn gi (M0.1 98 11).toInt (M0.1 98 6).toInt) = 1) (hp4 : b01 (PI M0) = 1) : Cv l 22 yX12_readUnit wsX12_readUnit dC dI ad cA [.ref (ad 98), .int (sI 2)] M0 (fun M' => INV pr Kz M' ∧ FR [98, 102] M0 M' ∧ (b01 (RIP M') = 1) ∧ ((M'.1 98 8).toInt = (M0.1 98 8).toInt) ∧ ((M0.1 98 6).toInt ≤ (M'.1 98 6).toInt) ∧ (b01 (XW M0 M' 0 1 0) = 1) ∧ (b01 (CA M') = 1) ∧ (b01 (PI M') = 1) ∧ (b01 (TKM gf gn M') = 1) ∧ b01 (RR ((unR gf gn 4) gi) (M0.1 98 11).toInt (M0.1 98 12).toInt (M'.1 98 11).toInt (M'.1 98 12).toInt (M'.1 98 6).toInt) = 1) := by
  refine cv_of (cc := cX12_readUnit) (maxL := 3) (lv := [(0, .ref (ad 98)), (1, .int (sI 2))]) (by decide) rfl (Nat.le_of_ble_eq_true rfl) rfl ?_
  intro p e s m args below meth c A Q C hret
  have u101z := xw_0 M0
  have u101l := ri_l (M := M0) (by omega)
  refine j_aload_n C 0 0 dX12_readUnit_0 rfl rfl ?_
  refine y_bipush C dX12_readUnit_1 rfl ?_
  have k102 := tkm_K (f := gf) (n := gn) (M := M0) (by omega)
  have k103 := kd_2 (kdk_16 gf gn (M0.1 98 6).toInt) (by omega)
  refine j_callVi C (d := 0) (As := [.int (sI 16)]) (st := []) 98 (s_lt rfl rfl) (s_kc (c := 11) rfl rfl) (by decide) rfl (s1_X12_is hM0 16 (by omega)) gX12_readUnit_X12_is rfl hdX12_is (by decide) (Nat.le_of_ble_eq_true rfl) dX12_readUnit_3 rfl (fun r104 M105 h106 => ?_)
  obtain ⟨a108, rfl, rfl, h107⟩ := h106
  refine y_if_eq C 33 dX12_readUnit_6 (by decide) (by omega) (fun h109 => ?_) (fun h109 => ?_)
  · refine j_aload_n C 0 0 dX12_readUnit_33 rfl rfl ?_
    refine y_bipush C dX12_readUnit_34 rfl ?_
    have k110 := tkm_K (f := gf) (n := gn) (M := M0) (by omega)
    have k111 := kd_2 (kdk_37 gf gn (M0.1 98 6).toInt) (by omega)
    refine j_callVi C (d := 0) (As := [.int (sI 37)]) (st := []) 98 (s_lt rfl rfl) (s_kc (c := 11) rfl rfl) (by decide) rfl (s1_X12_is hM0 37 (by omega)) gX12_readUnit_X12_is rfl hdX12_is (by decide) (Nat.le_of_ble_eq_true rfl) dX12_readUnit_36 rfl (fun r112 M113 h114 => ?_)
    obtain ⟨a116, rfl, rfl, h115⟩ := h114
    refine y_if_eq C 73 dX12_readUnit_39 (by decide) (by omega) (fun h117 => ?_) (fun h117 => ?_)
    · refine j_aload_n C 0 0 dX12_readUnit_73 rfl rfl ?_
      refine j_iload_n C 1 1 dX12_readUnit_74 rfl rfl ?_
      refine j_callVv C (d := 21) (As := [.int (sI 2)]) (st := []) 98 (s_lt rfl rfl) (s_kc (c := 11) rfl rfl) (by decide) rfl (s5_X12_readSum hM0 hpr gf gn gi (by omega) (by omega) (by omega) (by omega) (by omega)) gX12_readUnit_X12_readSum rfl hdX12_readSum (by decide) (Nat.le_of_ble_eq_true rfl) dX12_readUnit_75 rfl (fun M119 h120 => ?_)
      obtain ⟨hM119, fM119, h121⟩ := h120
      have bM119 := tkm_b (f := gf) (n := gn) (M := M119) (by omega)
      have qM119 := po_rr (suR gf gn 4) gn gi (M0.1 98 11).toInt (M0.1 98 12).toInt (M0.1 98 6).toInt (M119.1 98 11).toInt (M119.1 98 12).toInt (M119.1 98 6).toInt (suR_g gf gn 4) (by omega) (by omega)
      have u122l := ri_l (M := M119) (by omega)
      refine j_aload_n C 0 0 dX12_readUnit_78 rfl rfl ?_
      refine y_bipush C dX12_readUnit_79 rfl ?_
      have k123 := tkm_K (f := gf) (n := gn) (M := M119) (by omega)
      have k124 := kd_2 (kdk_39 gf gn (M119.1 98 6).toInt) (by omega)
      refine j_callVi C (d := 0) (As := [.int (sI 39)]) (st := []) 98 (s_lt rfl rfl) (s_kc (c := 11) rfl rfl) (by decide) rfl (s1_X12_is hM119 39 (by omega)) gX12_readUnit_X12_is rfl hdX12_is (by decide) (Nat.le_of_ble_eq_true rfl) dX12_readUnit_81 rfl (fun r125 M126 h127 => ?_)
      obtain ⟨a129, rfl, rfl, h128⟩ := h127
      have J140 : ∀ (a139 : Int), (3003 ≤ a139 ∧ a139 ≤ 3005) → jj p l e (cn_R 22) s m args below meth c 0 0 Q 3 dC dI ad cA A M119 111 [(0, .ref (ad 98)), (1, .int (sI 2))] [.int (sI a139)] := by
        intro a139 h141
        refine j_istore_n C 2 [(2, .int (sI a139)), (0, .ref (ad 98)), (1, .int (sI 2))] dX12_readUnit_111 rfl (by decide) rfl ?_
        refine j_aload_n C 1 0 dX12_readUnit_112 rfl rfl ?_
        refine y_bipush C dX12_readUnit_113 rfl ?_
        have k142 := tkm_K (f := gf) (n := gn) (M := M119) (by omega)
        have k143 := kd_2 (kdk_39 gf gn (M119.1 98 6).toInt) (by omega)
        refine j_callVi C (d := 0) (As := [.int (sI 39)]) (st := []) 98 (s_lt rfl rfl) (s_kc (c := 11) rfl rfl) (by decide) rfl (s1_X12_is hM119 39 (by omega)) gX12_readUnit_X12_is rfl hdX12_is (by decide) (Nat.le_of_ble_eq_true rfl) dX12_readUnit_115 rfl (fun r144 M145 h146 => ?_)
        obtain ⟨a148, rfl, rfl, h147⟩ := h146
        have J196 : ∀ (M195 : mm_M), ((b01 (RIP M195) = 1) ∧ ((M195.1 98 8).toInt = (M0.1 98 8).toInt) ∧ ((M0.1 98 6).toInt ≤ (M195.1 98 6).toInt) ∧ (b01 (XW M0 M195 0 1 1) = 1) ∧ (b01 (RR ((sjP gf gn 4) gi) (M0.1 98 11).toInt (M0.1 98 12).toInt (M195.1 98 11).toInt (M195.1 98 12).toInt (M195.1 98 6).toInt) = 1) ∧ (b01 (TKM gf gn M195) = 1) ∧ (b01 (PO gn ((sjP gf gn 4) gi).2.2 (M195.1 98 11).toInt (M195.1 98 6).toInt) = 1) ∧ (b01 (PI M195) = 1)) → INV pr Kz M195 → FR [98, 102] M0 M195 → jj p l e (cn_R 22) s m args below meth c 0 0 Q 3 dC dI ad cA A M195 151 [(0, .ref (ad 98)), (1, .int (sI 2)), (2, .int (sI a139))] [] := by
          intro M195 h197 hM195 fM195
          have u199a := ca_x (M := M0) (N := M195) (r := 0) (e := 1) (s := 1) (by decide) (by omega) (by omega)
          have u199l := ri_l (M := M195) (by omega)
          refine j_aload_n C 0 0 dX12_readUnit_151 rfl rfl ?_
          refine j_iload_n C 1 1 dX12_readUnit_152 rfl rfl ?_
          refine j_callVv C (d := 21) (As := [.int (sI 2)]) (st := []) 98 (s_lt rfl rfl) (s_kc (c := 11) rfl rfl) (by decide) rfl (s5_X12_readSum hM195 hpr gf gn ((sjP gf gn 4) gi).2.2 (by omega) (by omega) (by omega) (by omega) (by omega)) gX12_readUnit_X12_readSum rfl hdX12_readSum (by decide) (Nat.le_of_ble_eq_true rfl) dX12_readUnit_153 rfl (fun M201 h202 => ?_)
          obtain ⟨hM201, fM201, h203⟩ := h202
          have bM201 := tkm_b (f := gf) (n := gn) (M := M201) (by omega)
          have qM201 := po_rr (suR gf gn 4) gn ((sjP gf gn 4) gi).2.2 (M195.1 98 11).toInt (M195.1 98 12).toInt (M195.1 98 6).toInt (M201.1 98 11).toInt (M201.1 98 12).toInt (M201.1 98 6).toInt (suR_g gf gn 4) (by omega) (by omega)
          have u204t := xw_t (M := M0) (N := M195) (P := M201) (r1 := 0) (e1 := 1) (s1 := 1) (r2 := 0) (e2 := 1) (s2 := 0) 0 2 1 (by decide) (by omega) (by omega)
          have u204l := ri_l (M := M201) (by omega)
          have u204b := cb_x (M := M0) (N := M201) (r := 0) (e := 2) (s := 1) (by decide) (by omega) (by omega) (by omega)
          refine j_aload_n C 0 0 dX12_readUnit_156 rfl rfl ?_
          refine j_iload_n C 2 2 dX12_readUnit_157 rfl rfl ?_
          refine j_callVv C (d := 0) (As := [.int (sI a139)]) (st := []) 98 (s_lt rfl rfl) (s_kc (c := 11) rfl rfl) (by decide) rfl (s1_X12_codes hM201 hpr a139 (by omega) gf gn ((suR gf gn 4) ((sjP gf gn 4) gi).2.2).2.2 (by omega) (by omega) (by omega) (by omega)) gX12_readUnit_X12_codes rfl hdX12_codes (by decide) (Nat.le_of_ble_eq_true rfl) dX12_readUnit_158 rfl (fun M206 h207 => ?_)
          obtain ⟨hM206, fM206, h208⟩ := h207
          have bM206 := tkm_b (f := gf) (n := gn) (M := M206) (by omega)
          have qM206 := po_eq gn ((suR gf gn 4) ((sjP gf gn 4) gi).2.2).2.2 (M201.1 98 11).toInt (M201.1 98 6).toInt (M206.1 98 11).toInt (M206.1 98 6).toInt (by omega) (by omega) (by omega)
          have u209x := xw_a (M := M201) (N := M206) (c := a139) (r := 2) (e := (-1)) (FR.cell fM206 (by decide)) (ap_bin ⟨(INV.rd hM201 (i := 102) (c := 48) (k := 280) rfl rfl).1, by omega, by omega⟩) (by omega)
          have u209t := xw_t (M := M0) (N := M201) (P := M206) (r1 := 0) (e1 := 2) (s1 := 1) (r2 := 2) (e2 := (-1)) (s2 := (-1)) 0 1 0 (by decide) (by omega) (by omega)
          have u209i := ri_c (M := M201) (N := M206) (FR.cell fM206 (by decide)) (by omega)
          have u209l := ri_l (M := M206) (by omega)
          have u209a := ca_x (M := M0) (N := M206) (r := 0) (e := 1) (s := 0) (by decide) (by omega) (by omega)
          have u210r := un_6 gf gn 4 gi (M0.1 98 11).toInt (M0.1 98 12).toInt (M0.1 98 6).toInt (M195.1 98 11).toInt (M195.1 98 12).toInt (M195.1 98 6).toInt (M201.1 98 11).toInt (M201.1 98 12).toInt (M201.1 98 6).toInt (M206.1 98 11).toInt (M206.1 98 12).toInt (M206.1 98 6).toInt (by omega) (by omega) (by omega) (by omega) (by omega) (by omega) (by omega)
          have zz98_11 : (M206.1 98 11).toInt = (M201.1 98 11).toInt := s_fF fM206 (by decide) (rfl); have zz98_12 : (M206.1 98 12).toInt = (M201.1 98 12).toInt := s_fF fM206 (by decide) (rfl); have zz98_6 : (M206.1 98 6).toInt = (M201.1 98 6).toInt := s_fF fM206 (by decide) (rfl); have zz98_8 : (M206.1 98 8).toInt = (M201.1 98 8).toInt := s_fF fM206 (by decide) (rfl); exact hret _ _ _ dX12_readUnit_161 ⟨hM206, (((FR.rf.tr fM195 (by decide)).tr fM201 (by decide)).tr fM206 (by decide)), by omega⟩
        refine y_if_ne C 139 dX12_readUnit_118 (by decide) (by omega) (fun h149 => ?_) (fun h149 => ?_)
        · have u150k := ri_k (M := M119) (by omega) (by omega)
          refine j_aload_n C 1 0 dX12_readUnit_139 rfl rfl ?_
          have k151 := tkm_p (f := gf) (n := gn) (M := M119) (by omega)
          have k152 := tkm_K (f := gf) (n := gn) (M := M119) (by omega)
          refine j_callVv C (d := 5) (As := []) (st := []) 98 (s_lt rfl rfl) (s_kc (c := 11) rfl rfl) (by decide) rfl (s1_X12_next hM119 hpr gf gn (by omega) (by omega) (by omega) (by omega)) gX12_readUnit_X12_next rfl hdX12_next (by decide) (Nat.le_of_ble_eq_true rfl) dX12_readUnit_140 rfl (fun M154 h155 => ?_)
          obtain ⟨hM154, fM154, h156⟩ := h155
          have bM154 := tkm_b (f := gf) (n := gn) (M := M154) (by omega)
          have qM154 := nx_po (f := gf) (n := gn) (i := ((suR gf gn 4) gi).2.2) (M := M119) (M' := M154) (by omega) (by omega) (by omega) (by omega) (by omega)
          refine j_goto C 151 dX12_readUnit_143 (by decide) ?_
          have u157c := xw_c (N := M119) (P := M154) 1 (FR.cell fM154 (by decide)) (by omega)
          have u157t := xw_t (M := M0) (N := M119) (P := M154) (r1 := 0) (e1 := 1) (s1 := 0) (r2 := 0) (e2 := 0) (s2 := 1) 0 1 1 (by decide) (by omega) (by omega)
          have u157l := ri_l (M := M154) (by omega)
          have u157J := cj_1 gf gn 4 gi (M0.1 98 11).toInt (M0.1 98 12).toInt (M119.1 98 11).toInt (M119.1 98 12).toInt (M119.1 98 6).toInt (M154.1 98 11).toInt (M154.1 98 12).toInt (M154.1 98 6).toInt (by omega) (by omega) (by omega) (by omega) (by omega) (by omega) (by omega)
          have u157P := po_rr (sjP gf gn 4) gn gi (M0.1 98 11).toInt (M0.1 98 12).toInt (M0.1 98 6).toInt (M154.1 98 11).toInt (M154.1 98 12).toInt (M154.1 98 6).toInt (sj_g gf gn 4) (by omega) (by omega)
          refine j_lv [1, 2, 0] rfl ?_; exact J196 M154 (by omega) hM154 ((FR.rf.tr fM119 (by decide)).tr fM154 (by decide))
        · refine j_aload_n C 1 0 dX12_readUnit_121 rfl rfl ?_
          refine y_bipush C dX12_readUnit_122 rfl ?_
          have k158 := tkm_K (f := gf) (n := gn) (M := M119) (by omega)
          have k159 := kd_2 (kdk_40 gf gn (M119.1 98 6).toInt) (by omega)
          refine j_callVi C (d := 0) (As := [.int (sI 40)]) (st := []) 98 (s_lt rfl rfl) (s_kc (c := 11) rfl rfl) (by decide) rfl (s1_X12_is hM119 40 (by omega)) gX12_readUnit_X12_is rfl hdX12_is (by decide) (Nat.le_of_ble_eq_true rfl) dX12_readUnit_124 rfl (fun r160 M161 h162 => ?_)
          obtain ⟨a164, rfl, rfl, h163⟩ := h162
          refine y_if_ne C 139 dX12_readUnit_127 (by decide) (by omega) (fun h165 => ?_) (fun h165 => ?_)
          · have u166k := ri_k (M := M119) (by omega) (by omega)
            refine j_aload_n C 1 0 dX12_readUnit_139 rfl rfl ?_
            have k167 := tkm_p (f := gf) (n := gn) (M := M119) (by omega)
            have k168 := tkm_K (f := gf) (n := gn) (M := M119) (by omega)
            refine j_callVv C (d := 5) (As := []) (st := []) 98 (s_lt rfl rfl) (s_kc (c := 11) rfl rfl) (by decide) rfl (s1_X12_next hM119 hpr gf gn (by omega) (by omega) (by omega) (by omega)) gX12_readUnit_X12_next rfl hdX12_next (by decide) (Nat.le_of_ble_eq_true rfl) dX12_readUnit_140 rfl (fun M170 h171 => ?_)
            obtain ⟨hM170, fM170, h172⟩ := h171
            have bM170 := tkm_b (f := gf) (n := gn) (M := M170) (by omega)
            have qM170 := nx_po (f := gf) (n := gn) (i := ((suR gf gn 4) gi).2.2) (M := M119) (M' := M170) (by omega) (by omega) (by omega) (by omega) (by omega)
            refine j_goto C 151 dX12_readUnit_143 (by decide) ?_
            have u173c := xw_c (N := M119) (P := M170) 1 (FR.cell fM170 (by decide)) (by omega)
            have u173t := xw_t (M := M0) (N := M119) (P := M170) (r1 := 0) (e1 := 1) (s1 := 0) (r2 := 0) (e2 := 0) (s2 := 1) 0 1 1 (by decide) (by omega) (by omega)
            have u173l := ri_l (M := M170) (by omega)
            have u173J := cj_1 gf gn 4 gi (M0.1 98 11).toInt (M0.1 98 12).toInt (M119.1 98 11).toInt (M119.1 98 12).toInt (M119.1 98 6).toInt (M170.1 98 11).toInt (M170.1 98 12).toInt (M170.1 98 6).toInt (by omega) (by omega) (by omega) (by omega) (by omega) (by omega) (by omega)
            have u173P := po_rr (sjP gf gn 4) gn gi (M0.1 98 11).toInt (M0.1 98 12).toInt (M0.1 98 6).toInt (M170.1 98 11).toInt (M170.1 98 12).toInt (M170.1 98 6).toInt (sj_g gf gn 4) (by omega) (by omega)
            refine j_lv [1, 2, 0] rfl ?_; exact J196 M170 (by omega) hM170 ((FR.rf.tr fM119 (by decide)).tr fM170 (by decide))
          · refine j_aload_n C 1 0 dX12_readUnit_130 rfl rfl ?_
            refine y_bipush C dX12_readUnit_131 rfl ?_
            have k174 := tkm_K (f := gf) (n := gn) (M := M119) (by omega)
            have k175 := kd_2 (kdk_41 gf gn (M119.1 98 6).toInt) (by omega)
            refine j_callVi C (d := 0) (As := [.int (sI 41)]) (st := []) 98 (s_lt rfl rfl) (s_kc (c := 11) rfl rfl) (by decide) rfl (s1_X12_is hM119 41 (by omega)) gX12_readUnit_X12_is rfl hdX12_is (by decide) (Nat.le_of_ble_eq_true rfl) dX12_readUnit_133 rfl (fun r176 M177 h178 => ?_)
            obtain ⟨a180, rfl, rfl, h179⟩ := h178
            refine y_if_eq C 146 dX12_readUnit_136 (by decide) (by omega) (fun h181 => ?_) (fun h181 => ?_)
            · refine j_aload_n C 1 0 dX12_readUnit_146 rfl rfl ?_
              refine y_iconst C dX12_readUnit_147 ?_
              refine j_callVv C (d := 0) (As := [.int (sI 2)]) (st := []) 98 (s_lt rfl rfl) (s_kc (c := 11) rfl rfl) (by decide) rfl (s1_X12_fails hM119 hpr 2 (by omega) gf gn ((suR gf gn 4) gi).2.2 (by omega) (by omega) (by omega) (by omega) (by omega)) gX12_readUnit_X12_fails rfl hdX12_fails (by decide) (Nat.le_of_ble_eq_true rfl) dX12_readUnit_148 rfl (fun M183 h184 => ?_)
              obtain ⟨hM183, fM183, h185⟩ := h184
              have bM183 := tkm_b (f := gf) (n := gn) (M := M183) (by omega)
              have qM183 := po_f gn ((faQ gf gn 2) ((suR gf gn 4) gi).2.2).2.2 (M183.1 98 11).toInt (M183.1 98 6).toInt (by omega)
              have u186f : b01 (XW M0 M183 0 1 1) = 1 := b01_i (Or.inl (by omega))
              have u186l := ri_l (M := M183) (by omega)
              have u186J := cj_2 gf gn 4 gi (M0.1 98 11).toInt (M0.1 98 12).toInt (M119.1 98 11).toInt (M119.1 98 12).toInt (M119.1 98 6).toInt (M183.1 98 11).toInt (M183.1 98 12).toInt (M183.1 98 6).toInt (by omega) (by omega) (by omega) (by omega)
              have u186P := po_rr (sjP gf gn 4) gn gi (M0.1 98 11).toInt (M0.1 98 12).toInt (M0.1 98 6).toInt (M183.1 98 11).toInt (M183.1 98 12).toInt (M183.1 98 6).toInt (sj_g gf gn 4) (by omega) (by omega)
              refine j_lv [1, 2, 0] rfl ?_; exact J196 M183 (by omega) hM183 ((FR.rf.tr fM119 (by decide)).tr fM183 (by decide))
            · have u187k := ri_k (M := M119) (by omega) (by omega)
              refine j_aload_n C 1 0 dX12_readUnit_139 rfl rfl ?_
              have k188 := tkm_p (f := gf) (n := gn) (M := M119) (by omega)
              have k189 := tkm_K (f := gf) (n := gn) (M := M119) (by omega)
              refine j_callVv C (d := 5) (As := []) (st := []) 98 (s_lt rfl rfl) (s_kc (c := 11) rfl rfl) (by decide) rfl (s1_X12_next hM119 hpr gf gn (by omega) (by omega) (by omega) (by omega)) gX12_readUnit_X12_next rfl hdX12_next (by decide) (Nat.le_of_ble_eq_true rfl) dX12_readUnit_140 rfl (fun M191 h192 => ?_)
              obtain ⟨hM191, fM191, h193⟩ := h192
              have bM191 := tkm_b (f := gf) (n := gn) (M := M191) (by omega)
              have qM191 := nx_po (f := gf) (n := gn) (i := ((suR gf gn 4) gi).2.2) (M := M119) (M' := M191) (by omega) (by omega) (by omega) (by omega) (by omega)
              refine j_goto C 151 dX12_readUnit_143 (by decide) ?_
              have u194c := xw_c (N := M119) (P := M191) 1 (FR.cell fM191 (by decide)) (by omega)
              have u194t := xw_t (M := M0) (N := M119) (P := M191) (r1 := 0) (e1 := 1) (s1 := 0) (r2 := 0) (e2 := 0) (s2 := 1) 0 1 1 (by decide) (by omega) (by omega)
              have u194l := ri_l (M := M191) (by omega)
              have u194J := cj_1 gf gn 4 gi (M0.1 98 11).toInt (M0.1 98 12).toInt (M119.1 98 11).toInt (M119.1 98 12).toInt (M119.1 98 6).toInt (M191.1 98 11).toInt (M191.1 98 12).toInt (M191.1 98 6).toInt (by omega) (by omega) (by omega) (by omega) (by omega) (by omega) (by omega)
              have u194P := po_rr (sjP gf gn 4) gn gi (M0.1 98 11).toInt (M0.1 98 12).toInt (M0.1 98 6).toInt (M191.1 98 11).toInt (M191.1 98 12).toInt (M191.1 98 6).toInt (sj_g gf gn 4) (by omega) (by omega)
              refine j_lv [1, 2, 0] rfl ?_; exact J196 M191 (by omega) hM191 ((FR.rf.tr fM119 (by decide)).tr fM191 (by decide))
      refine y_if_eq C 93 dX12_readUnit_84 (by decide) (by omega) (fun h130 => ?_) (fun h130 => ?_)
      · refine j_aload_n C 0 0 dX12_readUnit_93 rfl rfl ?_
        refine y_bipush C dX12_readUnit_94 rfl ?_
        have k131 := tkm_K (f := gf) (n := gn) (M := M119) (by omega)
        have k132 := kd_2 (kdk_40 gf gn (M119.1 98 6).toInt) (by omega)
        refine j_callVi C (d := 0) (As := [.int (sI 40)]) (st := []) 98 (s_lt rfl rfl) (s_kc (c := 11) rfl rfl) (by decide) rfl (s1_X12_is hM119 40 (by omega)) gX12_readUnit_X12_is rfl hdX12_is (by decide) (Nat.le_of_ble_eq_true rfl) dX12_readUnit_96 rfl (fun r133 M134 h135 => ?_)
        obtain ⟨a137, rfl, rfl, h136⟩ := h135
        refine y_if_eq C 108 dX12_readUnit_99 (by decide) (by omega) (fun h138 => ?_) (fun h138 => ?_)
        · refine y_sipush C dX12_readUnit_108 rfl ?_
          exact J140 3005 (by omega)
        · refine y_sipush C dX12_readUnit_102 rfl ?_
          refine j_goto C 111 dX12_readUnit_105 (by decide) ?_
          exact J140 3004 (by omega)
      · refine y_sipush C dX12_readUnit_87 rfl ?_
        refine j_goto C 111 dX12_readUnit_90 (by decide) ?_
        exact J140 3003 (by omega)
    · have u211k := ri_k (M := M0) (by omega) (by omega)
      refine j_aload_n C 0 0 dX12_readUnit_42 rfl rfl ?_
      refine j_iload_n C 1 1 dX12_readUnit_43 rfl rfl ?_
      refine j_callVi C (d := 6) (As := [.int (sI 2)]) (st := []) 98 (s_lt rfl rfl) (s_kc (c := 11) rfl rfl) (by decide) rfl (s3_X12_goesIn hM0 hpr gf gn gi (by omega) (by omega) (by omega) (by omega) (by omega) (by omega) (by omega)) gX12_readUnit_X12_goesIn rfl hdX12_goesIn (by decide) (Nat.le_of_ble_eq_true rfl) dX12_readUnit_44 rfl (fun r212 M213 h214 => ?_)
      obtain ⟨a216, rfl, hM213, fM213, h215⟩ := h214
      have bM213 := tkm_b (f := gf) (n := gn) (M := M213) (by omega)
      refine y_if_ne C 51 dX12_readUnit_47 (by decide) (by omega) (fun h217 => ?_) (fun h217 => ?_)
      · have u218c := xw_c (N := M0) (P := M213) 1 (FR.cell fM213 (by decide)) (by omega)
        have u218t := xw_t (M := M0) (N := M0) (P := M213) (r1 := 0) (e1 := 0) (s1 := 0) (r2 := 0) (e2 := 0) (s2 := 1) 0 0 1 (by decide) (by omega) (by omega)
        have u218a := ca_x (M := M0) (N := M213) (r := 0) (e := 0) (s := 1) (by decide) (by omega) (by omega)
        have u218l := ri_l (M := M213) (by omega)
        refine j_aload_n C 0 0 dX12_readUnit_51 rfl rfl ?_
        refine j_iload_n C 1 1 dX12_readUnit_52 rfl rfl ?_
        refine y_iconst C dX12_readUnit_53 ?_
        refine y_iadd C dX12_readUnit_54 ?_
        refine j_callVv C (d := 21) (As := [.int (sI (2 + 1))]) (st := []) 98 (s_lt rfl rfl) (s_kc (c := 11) rfl rfl) (by decide) rfl (s4_X12_readTruth hM213 hpr gf gn (nxF gf gn gi) (by omega) (by omega) (by omega) (by omega) (by omega)) gX12_readUnit_X12_readTruth rfl hdX12_readTruth (by decide) (Nat.le_of_ble_eq_true rfl) dX12_readUnit_55 rfl (fun M220 h221 => ?_)
        obtain ⟨hM220, fM220, h222⟩ := h221
        have bM220 := tkm_b (f := gf) (n := gn) (M := M220) (by omega)
        have qM220 := po_rr (trP gf gn (unR gf gn 3)) gn (nxF gf gn gi) (M213.1 98 11).toInt (M213.1 98 12).toInt (M213.1 98 6).toInt (M220.1 98 11).toInt (M220.1 98 12).toInt (M220.1 98 6).toInt (tr_g gf gn (unR_g gf gn 3)) (by omega) (by omega)
        have u223t := xw_t (M := M0) (N := M213) (P := M220) (r1 := 0) (e1 := 0) (s1 := 1) (r2 := 0) (e2 := 1) (s2 := 0) 0 1 1 (by decide) (by omega) (by omega)
        have u223l := ri_l (M := M220) (by omega)
        refine j_aload_n C 0 0 dX12_readUnit_58 rfl rfl ?_
        refine y_bipush C dX12_readUnit_59 rfl ?_
        have k224 := tkm_K (f := gf) (n := gn) (M := M220) (by omega)
        have k225 := kd_2 (kdk_38 gf gn (M220.1 98 6).toInt) (by omega)
        refine j_callVi C (d := 6) (As := [.int (sI 38)]) (st := []) 98 (s_lt rfl rfl) (s_kc (c := 11) rfl rfl) (by decide) rfl (s1_X12_eats hM220 hpr 38 (by omega) gf gn ((trP gf gn (unR gf gn 3)) (nxF gf gn gi)).2.2 (by omega) (by omega) (by omega) (by omega) (by omega)) gX12_readUnit_X12_eats rfl hdX12_eats (by decide) (Nat.le_of_ble_eq_true rfl) dX12_readUnit_61 rfl (fun r226 M227 h228 => ?_)
        obtain ⟨a230, rfl, hM227, fM227, h229⟩ := h228
        have k231 := tk_c gf gn (M227.1 98 6).toInt (M220.1 98 6).toInt
        have bM227 := tkm_b (f := gf) (n := gn) (M := M227) (by omega)
        have u232c := xw_c (N := M220) (P := M227) 0 (FR.cell fM227 (by decide)) (by omega)
        have u232t := xw_t (M := M0) (N := M220) (P := M227) (r1 := 0) (e1 := 1) (s1 := 1) (r2 := 0) (e2 := 0) (s2 := 0) 0 1 0 (by decide) (by omega) (by omega)
        have u232l := ri_l (M := M227) (by omega)
        refine y_if_ne C 72 dX12_readUnit_64 (by decide) (by omega) (fun h233 => ?_) (fun h233 => ?_)
        · have u234a := ca_x (M := M0) (N := M227) (r := 0) (e := 1) (s := 0) (by decide) (by omega) (by omega)
          have u235x := ex_1 gf gn 2093 ((trP gf gn (unR gf gn 3)) (nxF gf gn gi)).2.2 (M220.1 98 11).toInt (M220.1 98 12).toInt (M220.1 98 6).toInt (M227.1 98 11).toInt (M227.1 98 12).toInt (M227.1 98 6).toInt (by omega) (by omega) (by omega) (by omega) (by omega) (by omega)
          have u235r := un_2 gf gn 3 4 rfl gi (M0.1 98 11).toInt (M0.1 98 12).toInt (M0.1 98 6).toInt (M213.1 98 11).toInt (M213.1 98 12).toInt (M220.1 98 11).toInt (M220.1 98 12).toInt (M220.1 98 6).toInt (M227.1 98 11).toInt (M227.1 98 12).toInt (M227.1 98 6).toInt (by omega) (by omega) (by omega) (by omega) (by omega) (by omega)
          exact hret _ _ _ dX12_readUnit_72 ⟨hM227, (((FR.rf.tr fM213 (by decide)).tr fM220 (by decide)).tr fM227 (by decide)), by omega⟩
        · refine j_aload_n C 0 0 dX12_readUnit_67 rfl rfl ?_
          refine y_iconst C dX12_readUnit_68 ?_
          have p236 := po_eq gn ((trP gf gn (unR gf gn 3)) (nxF gf gn gi)).2.2 (M220.1 98 11).toInt (M220.1 98 6).toInt (M227.1 98 11).toInt (M227.1 98 6).toInt (by omega) (by omega) (by omega)
          refine j_callVv C (d := 0) (As := [.int (sI 2)]) (st := []) 98 (s_lt rfl rfl) (s_kc (c := 11) rfl rfl) (by decide) rfl (s1_X12_fails hM227 hpr 2 (by omega) gf gn ((trP gf gn (unR gf gn 3)) (nxF gf gn gi)).2.2 (by omega) (by omega) (by omega) (by omega) (by omega)) gX12_readUnit_X12_fails rfl hdX12_fails (by decide) (Nat.le_of_ble_eq_true rfl) dX12_readUnit_69 rfl (fun M238 h239 => ?_)
          obtain ⟨hM238, fM238, h240⟩ := h239
          have bM238 := tkm_b (f := gf) (n := gn) (M := M238) (by omega)
          have qM238 := po_f gn ((faQ gf gn 2) ((trP gf gn (unR gf gn 3)) (nxF gf gn gi)).2.2).2.2 (M238.1 98 11).toInt (M238.1 98 6).toInt (by omega)
          have u241f : b01 (XW M0 M238 0 1 0) = 1 := b01_i (Or.inl (by omega))
          have u241a := ca_x (M := M0) (N := M238) (r := 0) (e := 1) (s := 0) (by decide) (by omega) (by omega)
          have u242x := ex_2z gf gn 2093 ((trP gf gn (unR gf gn 3)) (nxF gf gn gi)).2.2 (M220.1 98 11).toInt (M220.1 98 12).toInt (M220.1 98 6).toInt (M238.1 98 11).toInt (M238.1 98 12).toInt (M238.1 98 6).toInt (by omega) (by omega) (rr_fr (faQ gf gn 2 ((trP gf gn (unR gf gn 3)) (nxF gf gn gi)).2.2) (M220.1 98 11).toInt (M220.1 98 12).toInt (M227.1 98 11).toInt (M227.1 98 12).toInt (M238.1 98 11).toInt (M238.1 98 12).toInt (M238.1 98 6).toInt (by omega) (by omega) (by omega))
          have u242r := un_2 gf gn 3 4 rfl gi (M0.1 98 11).toInt (M0.1 98 12).toInt (M0.1 98 6).toInt (M213.1 98 11).toInt (M213.1 98 12).toInt (M220.1 98 11).toInt (M220.1 98 12).toInt (M220.1 98 6).toInt (M238.1 98 11).toInt (M238.1 98 12).toInt (M238.1 98 6).toInt (by omega) (by omega) (by omega) (by omega) (by omega) (by omega)
          exact hret _ _ _ dX12_readUnit_72 ⟨hM238, ((((FR.rf.tr fM213 (by decide)).tr fM220 (by decide)).tr fM227 (by decide)).tr fM238 (by decide)), by omega⟩
      · exfalso; omega
  · have u243k := ri_k (M := M0) (by omega) (by omega)
    refine j_aload_n C 0 0 dX12_readUnit_9 rfl rfl ?_
    refine j_iload_n C 1 1 dX12_readUnit_10 rfl rfl ?_
    refine j_callVi C (d := 6) (As := [.int (sI 2)]) (st := []) 98 (s_lt rfl rfl) (s_kc (c := 11) rfl rfl) (by decide) rfl (s3_X12_goesIn hM0 hpr gf gn gi (by omega) (by omega) (by omega) (by omega) (by omega) (by omega) (by omega)) gX12_readUnit_X12_goesIn rfl hdX12_goesIn (by decide) (Nat.le_of_ble_eq_true rfl) dX12_readUnit_11 rfl (fun r244 M245 h246 => ?_)
    obtain ⟨a248, rfl, hM245, fM245, h247⟩ := h246
    have bM245 := tkm_b (f := gf) (n := gn) (M := M245) (by omega)
    refine y_if_ne C 18 dX12_readUnit_14 (by decide) (by omega) (fun h249 => ?_) (fun h249 => ?_)
    · have u250c := xw_c (N := M0) (P := M245) 1 (FR.cell fM245 (by decide)) (by omega)
      have u250t := xw_t (M := M0) (N := M0) (P := M245) (r1 := 0) (e1 := 0) (s1 := 0) (r2 := 0) (e2 := 0) (s2 := 1) 0 0 1 (by decide) (by omega) (by omega)
      have u250a := ca_x (M := M0) (N := M245) (r := 0) (e := 0) (s := 1) (by decide) (by omega) (by omega)
      have u250l := ri_l (M := M245) (by omega)
      refine j_aload_n C 0 0 dX12_readUnit_18 rfl rfl ?_
      refine j_iload_n C 1 1 dX12_readUnit_19 rfl rfl ?_
      refine y_iconst C dX12_readUnit_20 ?_
      refine y_iadd C dX12_readUnit_21 ?_
      refine j_callVv C (d := 19) (As := [.int (sI (2 + 1))]) (st := []) 98 (s_lt rfl rfl) (s_kc (c := 11) rfl rfl) (by decide) rfl (s4_X12_readUnit hM245 hpr gf gn (nxF gf gn gi) (by omega) (by omega) (by omega) (by omega) (by omega)) gX12_readUnit_X12_readUnit rfl hdX12_readUnit (by decide) (Nat.le_of_ble_eq_true rfl) dX12_readUnit_22 rfl (fun M252 h253 => ?_)
      obtain ⟨hM252, fM252, h254⟩ := h253
      have bM252 := tkm_b (f := gf) (n := gn) (M := M252) (by omega)
      have qM252 := po_rr (unR gf gn 3) gn (nxF gf gn gi) (M245.1 98 11).toInt (M245.1 98 12).toInt (M245.1 98 6).toInt (M252.1 98 11).toInt (M252.1 98 12).toInt (M252.1 98 6).toInt (unR_g gf gn 3) (by omega) (by omega)
      have u255t := xw_t (M := M0) (N := M245) (P := M252) (r1 := 0) (e1 := 0) (s1 := 1) (r2 := 0) (e2 := 1) (s2 := 0) 0 1 1 (by decide) (by omega) (by omega)
      have u255l := ri_l (M := M252) (by omega)
      have u255b := cb_x (M := M0) (N := M252) (r := 0) (e := 1) (s := 1) (by decide) (by omega) (by omega) (by omega)
      refine j_aload_n C 0 0 dX12_readUnit_25 rfl rfl ?_
      refine y_sipush C dX12_readUnit_26 rfl ?_
      refine j_callVv C (d := 0) (As := [.int (sI 3006)]) (st := []) 98 (s_lt rfl rfl) (s_kc (c := 11) rfl rfl) (by decide) rfl (s1_X12_codes hM252 hpr 3006 (by omega) gf gn ((unR gf gn 3) (nxF gf gn gi)).2.2 (by omega) (by omega) (by omega) (by omega)) gX12_readUnit_X12_codes rfl hdX12_codes (by decide) (Nat.le_of_ble_eq_true rfl) dX12_readUnit_29 rfl (fun M257 h258 => ?_)
      obtain ⟨hM257, fM257, h259⟩ := h258
      have bM257 := tkm_b (f := gf) (n := gn) (M := M257) (by omega)
      have qM257 := po_eq gn ((unR gf gn 3) (nxF gf gn gi)).2.2 (M252.1 98 11).toInt (M252.1 98 6).toInt (M257.1 98 11).toInt (M257.1 98 6).toInt (by omega) (by omega) (by omega)
      have u260x := xw_a (M := M252) (N := M257) (c := 3006) (r := 1) (e := 0) (FR.cell fM257 (by decide)) (ap_not (INV.rd hM252 (i := 102) (c := 48) (k := 280) rfl rfl).1) (by omega)
      have u260t := xw_t (M := M0) (N := M252) (P := M257) (r1 := 0) (e1 := 1) (s1 := 1) (r2 := 1) (e2 := 0) (s2 := (-1)) 0 1 0 (by decide) (by omega) (by omega)
      have u260i := ri_c (M := M252) (N := M257) (FR.cell fM257 (by decide)) (by omega)
      have u260l := ri_l (M := M257) (by omega)
      have u260a := ca_x (M := M0) (N := M257) (r := 0) (e := 1) (s := 0) (by decide) (by omega) (by omega)
      have u261r := un_1 gf gn 3 4 rfl gi (M0.1 98 11).toInt (M0.1 98 12).toInt (M0.1 98 6).toInt (M245.1 98 11).toInt (M245.1 98 12).toInt (M252.1 98 11).toInt (M252.1 98 12).toInt (M252.1 98 6).toInt (M257.1 98 11).toInt (M257.1 98 12).toInt (M257.1 98 6).toInt (by omega) (by omega) (by omega) (by omega) (by omega) (by omega) (by omega) (by omega)
      have zz98_11 : (M257.1 98 11).toInt = (M252.1 98 11).toInt := s_fF fM257 (by decide) (rfl); have zz98_12 : (M257.1 98 12).toInt = (M252.1 98 12).toInt := s_fF fM257 (by decide) (rfl); have zz98_6 : (M257.1 98 6).toInt = (M252.1 98 6).toInt := s_fF fM257 (by decide) (rfl); have zz98_8 : (M257.1 98 8).toInt = (M252.1 98 8).toInt := s_fF fM257 (by decide) (rfl); exact hret _ _ _ dX12_readUnit_32 ⟨hM257, (((FR.rf.tr fM245 (by decide)).tr fM252 (by decide)).tr fM257 (by decide)), by omega⟩
    · exfalso; omega
set_option maxHeartbeats 4000000 in
theorem s5_X12_readBoth {l : Launch} {dC : Nat → ClassId} {dI : Nat → Nat → Nat} {ad : Nat → Nat} {cA : Nat → ClassId} {pr : Nat → Nat → Bool} {Kz : mm_M} {M0 : mm_M} (hM0 : INV pr Kz M0) (hpr : PM pr) (gf : Nat → Int) (gn : Int) (gi : Int) (hp0 : b01 (RIP M0) = 1) (hp1 : b01 (CA M0) = 1) (hp2 : b01 (TKM gf gn M0) = 1) (hp3 : b01 (PO gn gi (M0.1 98 11).toInt (M0.1 98 6).toInt) = 1) (hp4 : b01 (PI M0) = 1) : Cv l 23 yX12_readBoth wsX12_readBoth dC dI ad cA [.ref (ad 98), .int (sI 2)] M0 (fun M' => INV pr Kz M' ∧ FR [98, 102] M0 M' ∧ (b01 (RIP M') = 1) ∧ ((M'.1 98 8).toInt = (M0.1 98 8).toInt) ∧ ((M0.1 98 6).toInt ≤ (M'.1 98 6).toInt) ∧ (b01 (XW M0 M' 0 1 0) = 1) ∧ (b01 (CA M') = 1) ∧ (b01 (PI M') = 1) ∧ (b01 (TKM gf gn M') = 1) ∧ b01 (RR ((boP gf gn (unR gf gn 4)) gi) (M0.1 98 11).toInt (M0.1 98 12).toInt (M'.1 98 11).toInt (M'.1 98 12).toInt (M'.1 98 6).toInt) = 1) := by
  refine cv_of (cc := cX12_readBoth) (maxL := 2) (lv := [(0, .ref (ad 98)), (1, .int (sI 2))]) (by decide) rfl (Nat.le_of_ble_eq_true rfl) rfl ?_
  intro p e s m args below meth c A Q C hret
  have u101z := xw_0 M0
  have u101l := ri_l (M := M0) (by omega)
  refine j_aload_n C 0 0 dX12_readBoth_0 rfl rfl ?_
  refine j_iload_n C 1 1 dX12_readBoth_1 rfl rfl ?_
  refine j_callVv C (d := 22) (As := [.int (sI 2)]) (st := []) 98 (s_lt rfl rfl) (s_kc (c := 11) rfl rfl) (by decide) rfl (s5_X12_readUnit hM0 hpr gf gn gi (by omega) (by omega) (by omega) (by omega) (by omega)) gX12_readBoth_X12_readUnit rfl hdX12_readUnit (by decide) (Nat.le_of_ble_eq_true rfl) dX12_readBoth_2 rfl (fun M103 h104 => ?_)
  obtain ⟨hM103, fM103, h105⟩ := h104
  have bM103 := tkm_b (f := gf) (n := gn) (M := M103) (by omega)
  have qM103 := po_rr (unR gf gn 4) gn gi (M0.1 98 11).toInt (M0.1 98 12).toInt (M0.1 98 6).toInt (M103.1 98 11).toInt (M103.1 98 12).toInt (M103.1 98 6).toInt (unR_g gf gn 4) (by omega) (by omega)
  have u106l := ri_l (M := M103) (by omega)
  have u106L := ll_0 (luP gf gn 1015 1015 (unR gf gn 4)) gn ((unR gf gn 4) gi).2.2 (M103.1 98 11).toInt (M103.1 98 12).toInt (M103.1 98 6).toInt (by omega)
  have L132 : ∀ (n130 : Nat), ∀ (M133 : mm_M) (gq134 : Int), ((b01 (RIP M133) = 1) ∧ ((M133.1 98 8).toInt = (M0.1 98 8).toInt) ∧ ((M0.1 98 6).toInt ≤ (M133.1 98 6).toInt) ∧ (b01 (XW M0 M133 0 1 0) = 1) ∧ ((M133.1 98 6).toInt ≤ 900) ∧ (b01 (LL (luP gf gn 1015 1015 (unR gf gn 4)) gn ((unR gf gn 4) gi).2.2 gq134 0 (M103.1 98 11).toInt (M103.1 98 12).toInt (M133.1 98 11).toInt (M133.1 98 12).toInt (M133.1 98 6).toInt) = 1) ∧ (b01 (TKM gf gn M133) = 1) ∧ (b01 (PO gn gq134 (M133.1 98 11).toInt (M133.1 98 6).toInt) = 1) ∧ (b01 (PI M133) = 1) ∧ (900 - (M133.1 98 6).toInt) < (n130 : Int)) → INV pr Kz M133 → FR [98, 102] M0 M133 → jj p l e (cn_R 23) s m args below meth c 0 0 Q 2 dC dI ad cA A M133 5 [(0, .ref (ad 98)), (1, .int (sI 2))] [] := by
    intro n130
    induction n130 with
    | zero =>
      intro M133 gq134 h135 hM133 fM133
      exfalso; omega
    | succ n130 ih131 =>
      intro M133 gq134 h135 hM133 fM133
      have u136l := ri_l (M := M133) (by omega)
      have u136B := tkm_b (f := gf) (n := gn) (M := M133) (by omega)
      refine j_aload_n C 0 0 dX12_readBoth_5 rfl rfl ?_
      refine y_bipush C dX12_readBoth_6 rfl ?_
      have k137 := tkm_K (f := gf) (n := gn) (M := M133) (by omega)
      have k138 := kd_2 (kdk_14 gf gn (M133.1 98 6).toInt) (by omega)
      refine j_callVi C (d := 6) (As := [.int (sI 14)]) (st := []) 98 (s_lt rfl rfl) (s_kc (c := 11) rfl rfl) (by decide) rfl (s1_X12_eats hM133 hpr 14 (by omega) gf gn gq134 (by omega) (by omega) (by omega) (by omega) (by omega)) gX12_readBoth_X12_eats rfl hdX12_eats (by decide) (Nat.le_of_ble_eq_true rfl) dX12_readBoth_8 rfl (fun r139 M140 h141 => ?_)
      obtain ⟨a143, rfl, hM140, fM140, h142⟩ := h141
      have k144 := tk_c gf gn (M140.1 98 6).toInt (M133.1 98 6).toInt
      have bM140 := tkm_b (f := gf) (n := gn) (M := M140) (by omega)
      refine y_if_eq C 29 dX12_readBoth_11 (by decide) (by omega) (fun h145 => ?_) (fun h145 => ?_)
      · have u157c := xw_c (N := M133) (P := M140) 0 (FR.cell fM140 (by decide)) (by omega)
        have u157t := xw_t (M := M0) (N := M133) (P := M140) (r1 := 0) (e1 := 1) (s1 := 0) (r2 := 0) (e2 := 0) (s2 := 0) 0 1 0 (by decide) (by omega) (by omega)
        have u157a := ca_x (M := M0) (N := M140) (r := 0) (e := 1) (s := 0) (by decide) (by omega) (by omega)
        have u157E := ll_e gf gn 1015 1015 (unR gf gn 4) ((unR gf gn 4) gi).2.2 gq134 0 (M103.1 98 11).toInt (M103.1 98 12).toInt (M133.1 98 11).toInt (M133.1 98 12).toInt (M133.1 98 6).toInt (by decide) (unR_g gf gn 4) (by omega) (by omega)
        have u157S : b01 (RR ((boP gf gn (unR gf gn 4)) gi) (M0.1 98 11).toInt (M0.1 98 12).toInt (M133.1 98 11).toInt (M133.1 98 12).toInt (M133.1 98 6).toInt) = 1 := rr_sq ((unR gf gn 4) gi) (luP gf gn 1015 1015 (unR gf gn 4)) (M0.1 98 11).toInt (M0.1 98 12).toInt (M103.1 98 11).toInt (M103.1 98 12).toInt (M103.1 98 6).toInt (M133.1 98 11).toInt (M133.1 98 12).toInt (M133.1 98 6).toInt (by omega) (by omega)
        have u157R := rr_eq ((boP gf gn (unR gf gn 4)) gi) (M0.1 98 11).toInt (M0.1 98 12).toInt (M133.1 98 11).toInt (M133.1 98 12).toInt (M133.1 98 6).toInt (M140.1 98 11).toInt (M140.1 98 12).toInt (M140.1 98 6).toInt (by omega) (by omega) (by omega) (by omega)
        exact hret _ _ _ dX12_readBoth_29 ⟨hM140, ((FR.rf.tr fM133 (by decide)).tr fM140 (by decide)), by omega⟩
      · have u146c := xw_c (N := M133) (P := M140) 1 (FR.cell fM140 (by decide)) (by omega)
        have u146t := xw_t (M := M0) (N := M133) (P := M140) (r1 := 0) (e1 := 1) (s1 := 0) (r2 := 0) (e2 := 0) (s2 := 1) 0 1 1 (by decide) (by omega) (by omega)
        have u146a := ca_x (M := M0) (N := M140) (r := 0) (e := 1) (s := 1) (by decide) (by omega) (by omega)
        have u146l := ri_l (M := M140) (by omega)
        refine j_aload_n C 0 0 dX12_readBoth_14 rfl rfl ?_
        refine j_iload_n C 1 1 dX12_readBoth_15 rfl rfl ?_
        refine j_callVv C (d := 22) (As := [.int (sI 2)]) (st := []) 98 (s_lt rfl rfl) (s_kc (c := 11) rfl rfl) (by decide) rfl (s5_X12_readUnit hM140 hpr gf gn (nxF gf gn gq134) (by omega) (by omega) (by omega) (by omega) (by omega)) gX12_readBoth_X12_readUnit rfl hdX12_readUnit (by decide) (Nat.le_of_ble_eq_true rfl) dX12_readBoth_16 rfl (fun M148 h149 => ?_)
        obtain ⟨hM148, fM148, h150⟩ := h149
        have bM148 := tkm_b (f := gf) (n := gn) (M := M148) (by omega)
        have qM148 := po_rr (unR gf gn 4) gn (nxF gf gn gq134) (M140.1 98 11).toInt (M140.1 98 12).toInt (M140.1 98 6).toInt (M148.1 98 11).toInt (M148.1 98 12).toInt (M148.1 98 6).toInt (unR_g gf gn 4) (by omega) (by omega)
        have u151t := xw_t (M := M0) (N := M140) (P := M148) (r1 := 0) (e1 := 1) (s1 := 1) (r2 := 0) (e2 := 1) (s2 := 0) 0 2 1 (by decide) (by omega) (by omega)
        have u151l := ri_l (M := M148) (by omega)
        have u151b := cb_x (M := M0) (N := M148) (r := 0) (e := 2) (s := 1) (by decide) (by omega) (by omega) (by omega)
        refine j_aload_n C 0 0 dX12_readBoth_19 rfl rfl ?_
        refine y_sipush C dX12_readBoth_20 rfl ?_
        refine j_callVv C (d := 0) (As := [.int (sI 3007)]) (st := []) 98 (s_lt rfl rfl) (s_kc (c := 11) rfl rfl) (by decide) rfl (s1_X12_codes hM148 hpr 3007 (by omega) gf gn ((unR gf gn 4) (nxF gf gn gq134)).2.2 (by omega) (by omega) (by omega) (by omega)) gX12_readBoth_X12_codes rfl hdX12_codes (by decide) (Nat.le_of_ble_eq_true rfl) dX12_readBoth_23 rfl (fun M153 h154 => ?_)
        obtain ⟨hM153, fM153, h155⟩ := h154
        have bM153 := tkm_b (f := gf) (n := gn) (M := M153) (by omega)
        have qM153 := po_eq gn ((unR gf gn 4) (nxF gf gn gq134)).2.2 (M148.1 98 11).toInt (M148.1 98 6).toInt (M153.1 98 11).toInt (M153.1 98 6).toInt (by omega) (by omega) (by omega)
        refine j_goto C 5 dX12_readBoth_26 (by decide) ?_
        have u156x := xw_a (M := M148) (N := M153) (c := 3007) (r := 2) (e := (-1)) (FR.cell fM153 (by decide)) (ap_bin ⟨(INV.rd hM148 (i := 102) (c := 48) (k := 280) rfl rfl).1, by omega, by omega⟩) (by omega)
        have u156t := xw_t (M := M0) (N := M148) (P := M153) (r1 := 0) (e1 := 2) (s1 := 1) (r2 := 2) (e2 := (-1)) (s2 := (-1)) 0 1 0 (by decide) (by omega) (by omega)
        have u156i := ri_c (M := M148) (N := M153) (FR.cell fM153 (by decide)) (by omega)
        have u156l := ri_l (M := M153) (by omega)
        have u156L := ll_w (luP gf gn 1015 1015 (unR gf gn 4)) gn ((unR gf gn 4) gi).2.2 ((unR gf gn 4) (nxF gf gn gq134)).2.2 (0 + 1) 0 (M103.1 98 11).toInt (M103.1 98 12).toInt (M153.1 98 11).toInt (M153.1 98 12).toInt (M153.1 98 6).toInt (by decide) (ll_s gf gn 1015 1015 (unR gf gn 4) ((unR gf gn 4) gi).2.2 gq134 0 (M103.1 98 11).toInt (M103.1 98 12).toInt (M133.1 98 11).toInt (M133.1 98 12).toInt (M133.1 98 6).toInt (M140.1 98 11).toInt (M140.1 98 12).toInt (M148.1 98 11).toInt (M148.1 98 12).toInt (M148.1 98 6).toInt (M153.1 98 11).toInt (M153.1 98 12).toInt (M153.1 98 6).toInt (by decide) (unR_g gf gn 4) (by omega) (by omega) (by omega) (by omega) (by omega) (by omega) (by omega) (by omega) (by omega))
        have zz98_8 : (M153.1 98 8).toInt = (M148.1 98 8).toInt := s_fF fM153 (by decide) (rfl); have zz98_6 : (M153.1 98 6).toInt = (M148.1 98 6).toInt := s_fF fM153 (by decide) (rfl); have zz98_12 : (M153.1 98 12).toInt = (M148.1 98 12).toInt := s_fF fM153 (by decide) (rfl); have zz98_11 : (M153.1 98 11).toInt = (M148.1 98 11).toInt := s_fF fM153 (by decide) (rfl); exact ih131 M153 ((unR gf gn 4) (nxF gf gn gq134)).2.2 (by omega) hM153 ((((FR.rf.tr fM133 (by decide)).tr fM140 (by decide)).tr fM148 (by decide)).tr fM153 (by decide))
  exact L132 2010 M103 ((unR gf gn 4) gi).2.2 (by omega) hM103 (FR.rf.tr fM103 (by decide))
set_option maxHeartbeats 4000000 in
theorem s5_X12_readTruth {l : Launch} {dC : Nat → ClassId} {dI : Nat → Nat → Nat} {ad : Nat → Nat} {cA : Nat → ClassId} {pr : Nat → Nat → Bool} {Kz : mm_M} {M0 : mm_M} (hM0 : INV pr Kz M0) (hpr : PM pr) (gf : Nat → Int) (gn : Int) (gi : Int) (hp0 : b01 (RIP M0) = 1) (hp1 : b01 (CA M0) = 1) (hp2 : b01 (TKM gf gn M0) = 1) (hp3 : b01 (PO gn gi (M0.1 98 11).toInt (M0.1 98 6).toInt) = 1) (hp4 : b01 (PI M0) = 1) : Cv l 24 yX12_readTruth wsX12_readTruth dC dI ad cA [.ref (ad 98), .int (sI 2)] M0 (fun M' => INV pr Kz M' ∧ FR [98, 102] M0 M' ∧ (b01 (RIP M') = 1) ∧ ((M'.1 98 8).toInt = (M0.1 98 8).toInt) ∧ ((M0.1 98 6).toInt ≤ (M'.1 98 6).toInt) ∧ (b01 (XW M0 M' 0 1 0) = 1) ∧ (b01 (CA M') = 1) ∧ (b01 (PI M') = 1) ∧ (b01 (TKM gf gn M') = 1) ∧ b01 (RR ((trP gf gn (unR gf gn 4)) gi) (M0.1 98 11).toInt (M0.1 98 12).toInt (M'.1 98 11).toInt (M'.1 98 12).toInt (M'.1 98 6).toInt) = 1) := by
  refine cv_of (cc := cX12_readTruth) (maxL := 2) (lv := [(0, .ref (ad 98)), (1, .int (sI 2))]) (by decide) rfl (Nat.le_of_ble_eq_true rfl) rfl ?_
  intro p e s m args below meth c A Q C hret
  have u101z := xw_0 M0
  have u101l := ri_l (M := M0) (by omega)
  refine j_aload_n C 0 0 dX12_readTruth_0 rfl rfl ?_
  refine j_iload_n C 1 1 dX12_readTruth_1 rfl rfl ?_
  refine j_callVv C (d := 23) (As := [.int (sI 2)]) (st := []) 98 (s_lt rfl rfl) (s_kc (c := 11) rfl rfl) (by decide) rfl (s5_X12_readBoth hM0 hpr gf gn gi (by omega) (by omega) (by omega) (by omega) (by omega)) gX12_readTruth_X12_readBoth rfl hdX12_readBoth (by decide) (Nat.le_of_ble_eq_true rfl) dX12_readTruth_2 rfl (fun M103 h104 => ?_)
  obtain ⟨hM103, fM103, h105⟩ := h104
  have bM103 := tkm_b (f := gf) (n := gn) (M := M103) (by omega)
  have qM103 := po_rr (boP gf gn (unR gf gn 4)) gn gi (M0.1 98 11).toInt (M0.1 98 12).toInt (M0.1 98 6).toInt (M103.1 98 11).toInt (M103.1 98 12).toInt (M103.1 98 6).toInt (bo_g gf gn (unR_g gf gn 4)) (by omega) (by omega)
  have u106l := ri_l (M := M103) (by omega)
  have u106L := ll_0 (luP gf gn 1014 1014 (boP gf gn (unR gf gn 4))) gn ((boP gf gn (unR gf gn 4)) gi).2.2 (M103.1 98 11).toInt (M103.1 98 12).toInt (M103.1 98 6).toInt (by omega)
  have L132 : ∀ (n130 : Nat), ∀ (M133 : mm_M) (gq134 : Int), ((b01 (RIP M133) = 1) ∧ ((M133.1 98 8).toInt = (M0.1 98 8).toInt) ∧ ((M0.1 98 6).toInt ≤ (M133.1 98 6).toInt) ∧ (b01 (XW M0 M133 0 1 0) = 1) ∧ ((M133.1 98 6).toInt ≤ 900) ∧ (b01 (LL (luP gf gn 1014 1014 (boP gf gn (unR gf gn 4))) gn ((boP gf gn (unR gf gn 4)) gi).2.2 gq134 0 (M103.1 98 11).toInt (M103.1 98 12).toInt (M133.1 98 11).toInt (M133.1 98 12).toInt (M133.1 98 6).toInt) = 1) ∧ (b01 (TKM gf gn M133) = 1) ∧ (b01 (PO gn gq134 (M133.1 98 11).toInt (M133.1 98 6).toInt) = 1) ∧ (b01 (PI M133) = 1) ∧ (900 - (M133.1 98 6).toInt) < (n130 : Int)) → INV pr Kz M133 → FR [98, 102] M0 M133 → jj p l e (cn_R 24) s m args below meth c 0 0 Q 2 dC dI ad cA A M133 5 [(0, .ref (ad 98)), (1, .int (sI 2))] [] := by
    intro n130
    induction n130 with
    | zero =>
      intro M133 gq134 h135 hM133 fM133
      exfalso; omega
    | succ n130 ih131 =>
      intro M133 gq134 h135 hM133 fM133
      have u136l := ri_l (M := M133) (by omega)
      have u136B := tkm_b (f := gf) (n := gn) (M := M133) (by omega)
      refine j_aload_n C 0 0 dX12_readTruth_5 rfl rfl ?_
      refine y_bipush C dX12_readTruth_6 rfl ?_
      have k137 := tkm_K (f := gf) (n := gn) (M := M133) (by omega)
      have k138 := kd_2 (kdk_15 gf gn (M133.1 98 6).toInt) (by omega)
      refine j_callVi C (d := 6) (As := [.int (sI 15)]) (st := []) 98 (s_lt rfl rfl) (s_kc (c := 11) rfl rfl) (by decide) rfl (s1_X12_eats hM133 hpr 15 (by omega) gf gn gq134 (by omega) (by omega) (by omega) (by omega) (by omega)) gX12_readTruth_X12_eats rfl hdX12_eats (by decide) (Nat.le_of_ble_eq_true rfl) dX12_readTruth_8 rfl (fun r139 M140 h141 => ?_)
      obtain ⟨a143, rfl, hM140, fM140, h142⟩ := h141
      have k144 := tk_c gf gn (M140.1 98 6).toInt (M133.1 98 6).toInt
      have bM140 := tkm_b (f := gf) (n := gn) (M := M140) (by omega)
      refine y_if_eq C 29 dX12_readTruth_11 (by decide) (by omega) (fun h145 => ?_) (fun h145 => ?_)
      · have u157c := xw_c (N := M133) (P := M140) 0 (FR.cell fM140 (by decide)) (by omega)
        have u157t := xw_t (M := M0) (N := M133) (P := M140) (r1 := 0) (e1 := 1) (s1 := 0) (r2 := 0) (e2 := 0) (s2 := 0) 0 1 0 (by decide) (by omega) (by omega)
        have u157a := ca_x (M := M0) (N := M140) (r := 0) (e := 1) (s := 0) (by decide) (by omega) (by omega)
        have u157E := ll_e gf gn 1014 1014 (boP gf gn (unR gf gn 4)) ((boP gf gn (unR gf gn 4)) gi).2.2 gq134 0 (M103.1 98 11).toInt (M103.1 98 12).toInt (M133.1 98 11).toInt (M133.1 98 12).toInt (M133.1 98 6).toInt (by decide) (bo_g gf gn (unR_g gf gn 4)) (by omega) (by omega)
        have u157S : b01 (RR ((trP gf gn (unR gf gn 4)) gi) (M0.1 98 11).toInt (M0.1 98 12).toInt (M133.1 98 11).toInt (M133.1 98 12).toInt (M133.1 98 6).toInt) = 1 := rr_sq ((boP gf gn (unR gf gn 4)) gi) (luP gf gn 1014 1014 (boP gf gn (unR gf gn 4))) (M0.1 98 11).toInt (M0.1 98 12).toInt (M103.1 98 11).toInt (M103.1 98 12).toInt (M103.1 98 6).toInt (M133.1 98 11).toInt (M133.1 98 12).toInt (M133.1 98 6).toInt (by omega) (by omega)
        have u157R := rr_eq ((trP gf gn (unR gf gn 4)) gi) (M0.1 98 11).toInt (M0.1 98 12).toInt (M133.1 98 11).toInt (M133.1 98 12).toInt (M133.1 98 6).toInt (M140.1 98 11).toInt (M140.1 98 12).toInt (M140.1 98 6).toInt (by omega) (by omega) (by omega) (by omega)
        exact hret _ _ _ dX12_readTruth_29 ⟨hM140, ((FR.rf.tr fM133 (by decide)).tr fM140 (by decide)), by omega⟩
      · have u146c := xw_c (N := M133) (P := M140) 1 (FR.cell fM140 (by decide)) (by omega)
        have u146t := xw_t (M := M0) (N := M133) (P := M140) (r1 := 0) (e1 := 1) (s1 := 0) (r2 := 0) (e2 := 0) (s2 := 1) 0 1 1 (by decide) (by omega) (by omega)
        have u146a := ca_x (M := M0) (N := M140) (r := 0) (e := 1) (s := 1) (by decide) (by omega) (by omega)
        have u146l := ri_l (M := M140) (by omega)
        refine j_aload_n C 0 0 dX12_readTruth_14 rfl rfl ?_
        refine j_iload_n C 1 1 dX12_readTruth_15 rfl rfl ?_
        refine j_callVv C (d := 23) (As := [.int (sI 2)]) (st := []) 98 (s_lt rfl rfl) (s_kc (c := 11) rfl rfl) (by decide) rfl (s5_X12_readBoth hM140 hpr gf gn (nxF gf gn gq134) (by omega) (by omega) (by omega) (by omega) (by omega)) gX12_readTruth_X12_readBoth rfl hdX12_readBoth (by decide) (Nat.le_of_ble_eq_true rfl) dX12_readTruth_16 rfl (fun M148 h149 => ?_)
        obtain ⟨hM148, fM148, h150⟩ := h149
        have bM148 := tkm_b (f := gf) (n := gn) (M := M148) (by omega)
        have qM148 := po_rr (boP gf gn (unR gf gn 4)) gn (nxF gf gn gq134) (M140.1 98 11).toInt (M140.1 98 12).toInt (M140.1 98 6).toInt (M148.1 98 11).toInt (M148.1 98 12).toInt (M148.1 98 6).toInt (bo_g gf gn (unR_g gf gn 4)) (by omega) (by omega)
        have u151t := xw_t (M := M0) (N := M140) (P := M148) (r1 := 0) (e1 := 1) (s1 := 1) (r2 := 0) (e2 := 1) (s2 := 0) 0 2 1 (by decide) (by omega) (by omega)
        have u151l := ri_l (M := M148) (by omega)
        have u151b := cb_x (M := M0) (N := M148) (r := 0) (e := 2) (s := 1) (by decide) (by omega) (by omega) (by omega)
        refine j_aload_n C 0 0 dX12_readTruth_19 rfl rfl ?_
        refine y_sipush C dX12_readTruth_20 rfl ?_
        refine j_callVv C (d := 0) (As := [.int (sI 3008)]) (st := []) 98 (s_lt rfl rfl) (s_kc (c := 11) rfl rfl) (by decide) rfl (s1_X12_codes hM148 hpr 3008 (by omega) gf gn ((boP gf gn (unR gf gn 4)) (nxF gf gn gq134)).2.2 (by omega) (by omega) (by omega) (by omega)) gX12_readTruth_X12_codes rfl hdX12_codes (by decide) (Nat.le_of_ble_eq_true rfl) dX12_readTruth_23 rfl (fun M153 h154 => ?_)
        obtain ⟨hM153, fM153, h155⟩ := h154
        have bM153 := tkm_b (f := gf) (n := gn) (M := M153) (by omega)
        have qM153 := po_eq gn ((boP gf gn (unR gf gn 4)) (nxF gf gn gq134)).2.2 (M148.1 98 11).toInt (M148.1 98 6).toInt (M153.1 98 11).toInt (M153.1 98 6).toInt (by omega) (by omega) (by omega)
        refine j_goto C 5 dX12_readTruth_26 (by decide) ?_
        have u156x := xw_a (M := M148) (N := M153) (c := 3008) (r := 2) (e := (-1)) (FR.cell fM153 (by decide)) (ap_bin ⟨(INV.rd hM148 (i := 102) (c := 48) (k := 280) rfl rfl).1, by omega, by omega⟩) (by omega)
        have u156t := xw_t (M := M0) (N := M148) (P := M153) (r1 := 0) (e1 := 2) (s1 := 1) (r2 := 2) (e2 := (-1)) (s2 := (-1)) 0 1 0 (by decide) (by omega) (by omega)
        have u156i := ri_c (M := M148) (N := M153) (FR.cell fM153 (by decide)) (by omega)
        have u156l := ri_l (M := M153) (by omega)
        have u156L := ll_w (luP gf gn 1014 1014 (boP gf gn (unR gf gn 4))) gn ((boP gf gn (unR gf gn 4)) gi).2.2 ((boP gf gn (unR gf gn 4)) (nxF gf gn gq134)).2.2 (0 + 1) 0 (M103.1 98 11).toInt (M103.1 98 12).toInt (M153.1 98 11).toInt (M153.1 98 12).toInt (M153.1 98 6).toInt (by decide) (ll_s gf gn 1014 1014 (boP gf gn (unR gf gn 4)) ((boP gf gn (unR gf gn 4)) gi).2.2 gq134 0 (M103.1 98 11).toInt (M103.1 98 12).toInt (M133.1 98 11).toInt (M133.1 98 12).toInt (M133.1 98 6).toInt (M140.1 98 11).toInt (M140.1 98 12).toInt (M148.1 98 11).toInt (M148.1 98 12).toInt (M148.1 98 6).toInt (M153.1 98 11).toInt (M153.1 98 12).toInt (M153.1 98 6).toInt (by decide) (bo_g gf gn (unR_g gf gn 4)) (by omega) (by omega) (by omega) (by omega) (by omega) (by omega) (by omega) (by omega) (by omega))
        have zz98_8 : (M153.1 98 8).toInt = (M148.1 98 8).toInt := s_fF fM153 (by decide) (rfl); have zz98_6 : (M153.1 98 6).toInt = (M148.1 98 6).toInt := s_fF fM153 (by decide) (rfl); have zz98_12 : (M153.1 98 12).toInt = (M148.1 98 12).toInt := s_fF fM153 (by decide) (rfl); have zz98_11 : (M153.1 98 11).toInt = (M148.1 98 11).toInt := s_fF fM153 (by decide) (rfl); exact ih131 M153 ((boP gf gn (unR gf gn 4)) (nxF gf gn gq134)).2.2 (by omega) hM153 ((((FR.rf.tr fM133 (by decide)).tr fM140 (by decide)).tr fM148 (by decide)).tr fM153 (by decide))
  exact L132 2010 M103 ((boP gf gn (unR gf gn 4)) gi).2.2 (by omega) hM103 (FR.rf.tr fM103 (by decide))
set_option maxHeartbeats 4000000 in
theorem s6_X12_readUnit {l : Launch} {dC : Nat → ClassId} {dI : Nat → Nat → Nat} {ad : Nat → Nat} {cA : Nat → ClassId} {pr : Nat → Nat → Bool} {Kz : mm_M} {M0 : mm_M} (hM0 : INV pr Kz M0) (hpr : PM pr) (gf : Nat → Int) (gn : Int) (gi : Int) (hp0 : b01 (RIP M0) = 1) (hp1 : b01 (CA M0) = 1) (hp2 : b01 (TKM gf gn M0) = 1) (hp3 : b01 (PO gn gi (M0.1 98 11).toInt (M0.1 98 6).toInt) = 1) (hp4 : b01 (PI M0) = 1) : Cv l 25 yX12_readUnit wsX12_readUnit dC dI ad cA [.ref (ad 98), .int (sI 1)] M0 (fun M' => INV pr Kz M' ∧ FR [98, 102] M0 M' ∧ (b01 (RIP M') = 1) ∧ ((M'.1 98 8).toInt = (M0.1 98 8).toInt) ∧ ((M0.1 98 6).toInt ≤ (M'.1 98 6).toInt) ∧ (b01 (XW M0 M' 0 1 0) = 1) ∧ (b01 (CA M') = 1) ∧ (b01 (PI M') = 1) ∧ (b01 (TKM gf gn M') = 1) ∧ b01 (RR ((unR gf gn 5) gi) (M0.1 98 11).toInt (M0.1 98 12).toInt (M'.1 98 11).toInt (M'.1 98 12).toInt (M'.1 98 6).toInt) = 1) := by
  refine cv_of (cc := cX12_readUnit) (maxL := 3) (lv := [(0, .ref (ad 98)), (1, .int (sI 1))]) (by decide) rfl (Nat.le_of_ble_eq_true rfl) rfl ?_
  intro p e s m args below meth c A Q C hret
  have u101z := xw_0 M0
  have u101l := ri_l (M := M0) (by omega)
  refine j_aload_n C 0 0 dX12_readUnit_0 rfl rfl ?_
  refine y_bipush C dX12_readUnit_1 rfl ?_
  have k102 := tkm_K (f := gf) (n := gn) (M := M0) (by omega)
  have k103 := kd_2 (kdk_16 gf gn (M0.1 98 6).toInt) (by omega)
  refine j_callVi C (d := 0) (As := [.int (sI 16)]) (st := []) 98 (s_lt rfl rfl) (s_kc (c := 11) rfl rfl) (by decide) rfl (s1_X12_is hM0 16 (by omega)) gX12_readUnit_X12_is rfl hdX12_is (by decide) (Nat.le_of_ble_eq_true rfl) dX12_readUnit_3 rfl (fun r104 M105 h106 => ?_)
  obtain ⟨a108, rfl, rfl, h107⟩ := h106
  refine y_if_eq C 33 dX12_readUnit_6 (by decide) (by omega) (fun h109 => ?_) (fun h109 => ?_)
  · refine j_aload_n C 0 0 dX12_readUnit_33 rfl rfl ?_
    refine y_bipush C dX12_readUnit_34 rfl ?_
    have k110 := tkm_K (f := gf) (n := gn) (M := M0) (by omega)
    have k111 := kd_2 (kdk_37 gf gn (M0.1 98 6).toInt) (by omega)
    refine j_callVi C (d := 0) (As := [.int (sI 37)]) (st := []) 98 (s_lt rfl rfl) (s_kc (c := 11) rfl rfl) (by decide) rfl (s1_X12_is hM0 37 (by omega)) gX12_readUnit_X12_is rfl hdX12_is (by decide) (Nat.le_of_ble_eq_true rfl) dX12_readUnit_36 rfl (fun r112 M113 h114 => ?_)
    obtain ⟨a116, rfl, rfl, h115⟩ := h114
    refine y_if_eq C 73 dX12_readUnit_39 (by decide) (by omega) (fun h117 => ?_) (fun h117 => ?_)
    · refine j_aload_n C 0 0 dX12_readUnit_73 rfl rfl ?_
      refine j_iload_n C 1 1 dX12_readUnit_74 rfl rfl ?_
      refine j_callVv C (d := 24) (As := [.int (sI 1)]) (st := []) 98 (s_lt rfl rfl) (s_kc (c := 11) rfl rfl) (by decide) rfl (s6_X12_readSum hM0 hpr gf gn gi (by omega) (by omega) (by omega) (by omega) (by omega)) gX12_readUnit_X12_readSum rfl hdX12_readSum (by decide) (Nat.le_of_ble_eq_true rfl) dX12_readUnit_75 rfl (fun M119 h120 => ?_)
      obtain ⟨hM119, fM119, h121⟩ := h120
      have bM119 := tkm_b (f := gf) (n := gn) (M := M119) (by omega)
      have qM119 := po_rr (suR gf gn 5) gn gi (M0.1 98 11).toInt (M0.1 98 12).toInt (M0.1 98 6).toInt (M119.1 98 11).toInt (M119.1 98 12).toInt (M119.1 98 6).toInt (suR_g gf gn 5) (by omega) (by omega)
      have u122l := ri_l (M := M119) (by omega)
      refine j_aload_n C 0 0 dX12_readUnit_78 rfl rfl ?_
      refine y_bipush C dX12_readUnit_79 rfl ?_
      have k123 := tkm_K (f := gf) (n := gn) (M := M119) (by omega)
      have k124 := kd_2 (kdk_39 gf gn (M119.1 98 6).toInt) (by omega)
      refine j_callVi C (d := 0) (As := [.int (sI 39)]) (st := []) 98 (s_lt rfl rfl) (s_kc (c := 11) rfl rfl) (by decide) rfl (s1_X12_is hM119 39 (by omega)) gX12_readUnit_X12_is rfl hdX12_is (by decide) (Nat.le_of_ble_eq_true rfl) dX12_readUnit_81 rfl (fun r125 M126 h127 => ?_)
      obtain ⟨a129, rfl, rfl, h128⟩ := h127
      have J140 : ∀ (a139 : Int), (3003 ≤ a139 ∧ a139 ≤ 3005) → jj p l e (cn_R 25) s m args below meth c 0 0 Q 3 dC dI ad cA A M119 111 [(0, .ref (ad 98)), (1, .int (sI 1))] [.int (sI a139)] := by
        intro a139 h141
        refine j_istore_n C 2 [(2, .int (sI a139)), (0, .ref (ad 98)), (1, .int (sI 1))] dX12_readUnit_111 rfl (by decide) rfl ?_
        refine j_aload_n C 1 0 dX12_readUnit_112 rfl rfl ?_
        refine y_bipush C dX12_readUnit_113 rfl ?_
        have k142 := tkm_K (f := gf) (n := gn) (M := M119) (by omega)
        have k143 := kd_2 (kdk_39 gf gn (M119.1 98 6).toInt) (by omega)
        refine j_callVi C (d := 0) (As := [.int (sI 39)]) (st := []) 98 (s_lt rfl rfl) (s_kc (c := 11) rfl rfl) (by decide) rfl (s1_X12_is hM119 39 (by omega)) gX12_readUnit_X12_is rfl hdX12_is (by decide) (Nat.le_of_ble_eq_true rfl) dX12_readUnit_115 rfl (fun r144 M145 h146 => ?_)
        obtain ⟨a148, rfl, rfl, h147⟩ := h146
        have J196 : ∀ (M195 : mm_M), ((b01 (RIP M195) = 1) ∧ ((M195.1 98 8).toInt = (M0.1 98 8).toInt) ∧ ((M0.1 98 6).toInt ≤ (M195.1 98 6).toInt) ∧ (b01 (XW M0 M195 0 1 1) = 1) ∧ (b01 (RR ((sjP gf gn 5) gi) (M0.1 98 11).toInt (M0.1 98 12).toInt (M195.1 98 11).toInt (M195.1 98 12).toInt (M195.1 98 6).toInt) = 1) ∧ (b01 (TKM gf gn M195) = 1) ∧ (b01 (PO gn ((sjP gf gn 5) gi).2.2 (M195.1 98 11).toInt (M195.1 98 6).toInt) = 1) ∧ (b01 (PI M195) = 1)) → INV pr Kz M195 → FR [98, 102] M0 M195 → jj p l e (cn_R 25) s m args below meth c 0 0 Q 3 dC dI ad cA A M195 151 [(0, .ref (ad 98)), (1, .int (sI 1)), (2, .int (sI a139))] [] := by
          intro M195 h197 hM195 fM195
          have u199a := ca_x (M := M0) (N := M195) (r := 0) (e := 1) (s := 1) (by decide) (by omega) (by omega)
          have u199l := ri_l (M := M195) (by omega)
          refine j_aload_n C 0 0 dX12_readUnit_151 rfl rfl ?_
          refine j_iload_n C 1 1 dX12_readUnit_152 rfl rfl ?_
          refine j_callVv C (d := 24) (As := [.int (sI 1)]) (st := []) 98 (s_lt rfl rfl) (s_kc (c := 11) rfl rfl) (by decide) rfl (s6_X12_readSum hM195 hpr gf gn ((sjP gf gn 5) gi).2.2 (by omega) (by omega) (by omega) (by omega) (by omega)) gX12_readUnit_X12_readSum rfl hdX12_readSum (by decide) (Nat.le_of_ble_eq_true rfl) dX12_readUnit_153 rfl (fun M201 h202 => ?_)
          obtain ⟨hM201, fM201, h203⟩ := h202
          have bM201 := tkm_b (f := gf) (n := gn) (M := M201) (by omega)
          have qM201 := po_rr (suR gf gn 5) gn ((sjP gf gn 5) gi).2.2 (M195.1 98 11).toInt (M195.1 98 12).toInt (M195.1 98 6).toInt (M201.1 98 11).toInt (M201.1 98 12).toInt (M201.1 98 6).toInt (suR_g gf gn 5) (by omega) (by omega)
          have u204t := xw_t (M := M0) (N := M195) (P := M201) (r1 := 0) (e1 := 1) (s1 := 1) (r2 := 0) (e2 := 1) (s2 := 0) 0 2 1 (by decide) (by omega) (by omega)
          have u204l := ri_l (M := M201) (by omega)
          have u204b := cb_x (M := M0) (N := M201) (r := 0) (e := 2) (s := 1) (by decide) (by omega) (by omega) (by omega)
          refine j_aload_n C 0 0 dX12_readUnit_156 rfl rfl ?_
          refine j_iload_n C 2 2 dX12_readUnit_157 rfl rfl ?_
          refine j_callVv C (d := 0) (As := [.int (sI a139)]) (st := []) 98 (s_lt rfl rfl) (s_kc (c := 11) rfl rfl) (by decide) rfl (s1_X12_codes hM201 hpr a139 (by omega) gf gn ((suR gf gn 5) ((sjP gf gn 5) gi).2.2).2.2 (by omega) (by omega) (by omega) (by omega)) gX12_readUnit_X12_codes rfl hdX12_codes (by decide) (Nat.le_of_ble_eq_true rfl) dX12_readUnit_158 rfl (fun M206 h207 => ?_)
          obtain ⟨hM206, fM206, h208⟩ := h207
          have bM206 := tkm_b (f := gf) (n := gn) (M := M206) (by omega)
          have qM206 := po_eq gn ((suR gf gn 5) ((sjP gf gn 5) gi).2.2).2.2 (M201.1 98 11).toInt (M201.1 98 6).toInt (M206.1 98 11).toInt (M206.1 98 6).toInt (by omega) (by omega) (by omega)
          have u209x := xw_a (M := M201) (N := M206) (c := a139) (r := 2) (e := (-1)) (FR.cell fM206 (by decide)) (ap_bin ⟨(INV.rd hM201 (i := 102) (c := 48) (k := 280) rfl rfl).1, by omega, by omega⟩) (by omega)
          have u209t := xw_t (M := M0) (N := M201) (P := M206) (r1 := 0) (e1 := 2) (s1 := 1) (r2 := 2) (e2 := (-1)) (s2 := (-1)) 0 1 0 (by decide) (by omega) (by omega)
          have u209i := ri_c (M := M201) (N := M206) (FR.cell fM206 (by decide)) (by omega)
          have u209l := ri_l (M := M206) (by omega)
          have u209a := ca_x (M := M0) (N := M206) (r := 0) (e := 1) (s := 0) (by decide) (by omega) (by omega)
          have u210r := un_6 gf gn 5 gi (M0.1 98 11).toInt (M0.1 98 12).toInt (M0.1 98 6).toInt (M195.1 98 11).toInt (M195.1 98 12).toInt (M195.1 98 6).toInt (M201.1 98 11).toInt (M201.1 98 12).toInt (M201.1 98 6).toInt (M206.1 98 11).toInt (M206.1 98 12).toInt (M206.1 98 6).toInt (by omega) (by omega) (by omega) (by omega) (by omega) (by omega) (by omega)
          have zz98_11 : (M206.1 98 11).toInt = (M201.1 98 11).toInt := s_fF fM206 (by decide) (rfl); have zz98_12 : (M206.1 98 12).toInt = (M201.1 98 12).toInt := s_fF fM206 (by decide) (rfl); have zz98_6 : (M206.1 98 6).toInt = (M201.1 98 6).toInt := s_fF fM206 (by decide) (rfl); have zz98_8 : (M206.1 98 8).toInt = (M201.1 98 8).toInt := s_fF fM206 (by decide) (rfl); exact hret _ _ _ dX12_readUnit_161 ⟨hM206, (((FR.rf.tr fM195 (by decide)).tr fM201 (by decide)).tr fM206 (by decide)), by omega⟩
        refine y_if_ne C 139 dX12_readUnit_118 (by decide) (by omega) (fun h149 => ?_) (fun h149 => ?_)
        · have u150k := ri_k (M := M119) (by omega) (by omega)
          refine j_aload_n C 1 0 dX12_readUnit_139 rfl rfl ?_
          have k151 := tkm_p (f := gf) (n := gn) (M := M119) (by omega)
          have k152 := tkm_K (f := gf) (n := gn) (M := M119) (by omega)
          refine j_callVv C (d := 5) (As := []) (st := []) 98 (s_lt rfl rfl) (s_kc (c := 11) rfl rfl) (by decide) rfl (s1_X12_next hM119 hpr gf gn (by omega) (by omega) (by omega) (by omega)) gX12_readUnit_X12_next rfl hdX12_next (by decide) (Nat.le_of_ble_eq_true rfl) dX12_readUnit_140 rfl (fun M154 h155 => ?_)
          obtain ⟨hM154, fM154, h156⟩ := h155
          have bM154 := tkm_b (f := gf) (n := gn) (M := M154) (by omega)
          have qM154 := nx_po (f := gf) (n := gn) (i := ((suR gf gn 5) gi).2.2) (M := M119) (M' := M154) (by omega) (by omega) (by omega) (by omega) (by omega)
          refine j_goto C 151 dX12_readUnit_143 (by decide) ?_
          have u157c := xw_c (N := M119) (P := M154) 1 (FR.cell fM154 (by decide)) (by omega)
          have u157t := xw_t (M := M0) (N := M119) (P := M154) (r1 := 0) (e1 := 1) (s1 := 0) (r2 := 0) (e2 := 0) (s2 := 1) 0 1 1 (by decide) (by omega) (by omega)
          have u157l := ri_l (M := M154) (by omega)
          have u157J := cj_1 gf gn 5 gi (M0.1 98 11).toInt (M0.1 98 12).toInt (M119.1 98 11).toInt (M119.1 98 12).toInt (M119.1 98 6).toInt (M154.1 98 11).toInt (M154.1 98 12).toInt (M154.1 98 6).toInt (by omega) (by omega) (by omega) (by omega) (by omega) (by omega) (by omega)
          have u157P := po_rr (sjP gf gn 5) gn gi (M0.1 98 11).toInt (M0.1 98 12).toInt (M0.1 98 6).toInt (M154.1 98 11).toInt (M154.1 98 12).toInt (M154.1 98 6).toInt (sj_g gf gn 5) (by omega) (by omega)
          refine j_lv [1, 2, 0] rfl ?_; exact J196 M154 (by omega) hM154 ((FR.rf.tr fM119 (by decide)).tr fM154 (by decide))
        · refine j_aload_n C 1 0 dX12_readUnit_121 rfl rfl ?_
          refine y_bipush C dX12_readUnit_122 rfl ?_
          have k158 := tkm_K (f := gf) (n := gn) (M := M119) (by omega)
          have k159 := kd_2 (kdk_40 gf gn (M119.1 98 6).toInt) (by omega)
          refine j_callVi C (d := 0) (As := [.int (sI 40)]) (st := []) 98 (s_lt rfl rfl) (s_kc (c := 11) rfl rfl) (by decide) rfl (s1_X12_is hM119 40 (by omega)) gX12_readUnit_X12_is rfl hdX12_is (by decide) (Nat.le_of_ble_eq_true rfl) dX12_readUnit_124 rfl (fun r160 M161 h162 => ?_)
          obtain ⟨a164, rfl, rfl, h163⟩ := h162
          refine y_if_ne C 139 dX12_readUnit_127 (by decide) (by omega) (fun h165 => ?_) (fun h165 => ?_)
          · have u166k := ri_k (M := M119) (by omega) (by omega)
            refine j_aload_n C 1 0 dX12_readUnit_139 rfl rfl ?_
            have k167 := tkm_p (f := gf) (n := gn) (M := M119) (by omega)
            have k168 := tkm_K (f := gf) (n := gn) (M := M119) (by omega)
            refine j_callVv C (d := 5) (As := []) (st := []) 98 (s_lt rfl rfl) (s_kc (c := 11) rfl rfl) (by decide) rfl (s1_X12_next hM119 hpr gf gn (by omega) (by omega) (by omega) (by omega)) gX12_readUnit_X12_next rfl hdX12_next (by decide) (Nat.le_of_ble_eq_true rfl) dX12_readUnit_140 rfl (fun M170 h171 => ?_)
            obtain ⟨hM170, fM170, h172⟩ := h171
            have bM170 := tkm_b (f := gf) (n := gn) (M := M170) (by omega)
            have qM170 := nx_po (f := gf) (n := gn) (i := ((suR gf gn 5) gi).2.2) (M := M119) (M' := M170) (by omega) (by omega) (by omega) (by omega) (by omega)
            refine j_goto C 151 dX12_readUnit_143 (by decide) ?_
            have u173c := xw_c (N := M119) (P := M170) 1 (FR.cell fM170 (by decide)) (by omega)
            have u173t := xw_t (M := M0) (N := M119) (P := M170) (r1 := 0) (e1 := 1) (s1 := 0) (r2 := 0) (e2 := 0) (s2 := 1) 0 1 1 (by decide) (by omega) (by omega)
            have u173l := ri_l (M := M170) (by omega)
            have u173J := cj_1 gf gn 5 gi (M0.1 98 11).toInt (M0.1 98 12).toInt (M119.1 98 11).toInt (M119.1 98 12).toInt (M119.1 98 6).toInt (M170.1 98 11).toInt (M170.1 98 12).toInt (M170.1 98 6).toInt (by omega) (by omega) (by omega) (by omega) (by omega) (by omega) (by omega)
            have u173P := po_rr (sjP gf gn 5) gn gi (M0.1 98 11).toInt (M0.1 98 12).toInt (M0.1 98 6).toInt (M170.1 98 11).toInt (M170.1 98 12).toInt (M170.1 98 6).toInt (sj_g gf gn 5) (by omega) (by omega)
            refine j_lv [1, 2, 0] rfl ?_; exact J196 M170 (by omega) hM170 ((FR.rf.tr fM119 (by decide)).tr fM170 (by decide))
          · refine j_aload_n C 1 0 dX12_readUnit_130 rfl rfl ?_
            refine y_bipush C dX12_readUnit_131 rfl ?_
            have k174 := tkm_K (f := gf) (n := gn) (M := M119) (by omega)
            have k175 := kd_2 (kdk_41 gf gn (M119.1 98 6).toInt) (by omega)
            refine j_callVi C (d := 0) (As := [.int (sI 41)]) (st := []) 98 (s_lt rfl rfl) (s_kc (c := 11) rfl rfl) (by decide) rfl (s1_X12_is hM119 41 (by omega)) gX12_readUnit_X12_is rfl hdX12_is (by decide) (Nat.le_of_ble_eq_true rfl) dX12_readUnit_133 rfl (fun r176 M177 h178 => ?_)
            obtain ⟨a180, rfl, rfl, h179⟩ := h178
            refine y_if_eq C 146 dX12_readUnit_136 (by decide) (by omega) (fun h181 => ?_) (fun h181 => ?_)
            · refine j_aload_n C 1 0 dX12_readUnit_146 rfl rfl ?_
              refine y_iconst C dX12_readUnit_147 ?_
              refine j_callVv C (d := 0) (As := [.int (sI 2)]) (st := []) 98 (s_lt rfl rfl) (s_kc (c := 11) rfl rfl) (by decide) rfl (s1_X12_fails hM119 hpr 2 (by omega) gf gn ((suR gf gn 5) gi).2.2 (by omega) (by omega) (by omega) (by omega) (by omega)) gX12_readUnit_X12_fails rfl hdX12_fails (by decide) (Nat.le_of_ble_eq_true rfl) dX12_readUnit_148 rfl (fun M183 h184 => ?_)
              obtain ⟨hM183, fM183, h185⟩ := h184
              have bM183 := tkm_b (f := gf) (n := gn) (M := M183) (by omega)
              have qM183 := po_f gn ((faQ gf gn 2) ((suR gf gn 5) gi).2.2).2.2 (M183.1 98 11).toInt (M183.1 98 6).toInt (by omega)
              have u186f : b01 (XW M0 M183 0 1 1) = 1 := b01_i (Or.inl (by omega))
              have u186l := ri_l (M := M183) (by omega)
              have u186J := cj_2 gf gn 5 gi (M0.1 98 11).toInt (M0.1 98 12).toInt (M119.1 98 11).toInt (M119.1 98 12).toInt (M119.1 98 6).toInt (M183.1 98 11).toInt (M183.1 98 12).toInt (M183.1 98 6).toInt (by omega) (by omega) (by omega) (by omega)
              have u186P := po_rr (sjP gf gn 5) gn gi (M0.1 98 11).toInt (M0.1 98 12).toInt (M0.1 98 6).toInt (M183.1 98 11).toInt (M183.1 98 12).toInt (M183.1 98 6).toInt (sj_g gf gn 5) (by omega) (by omega)
              refine j_lv [1, 2, 0] rfl ?_; exact J196 M183 (by omega) hM183 ((FR.rf.tr fM119 (by decide)).tr fM183 (by decide))
            · have u187k := ri_k (M := M119) (by omega) (by omega)
              refine j_aload_n C 1 0 dX12_readUnit_139 rfl rfl ?_
              have k188 := tkm_p (f := gf) (n := gn) (M := M119) (by omega)
              have k189 := tkm_K (f := gf) (n := gn) (M := M119) (by omega)
              refine j_callVv C (d := 5) (As := []) (st := []) 98 (s_lt rfl rfl) (s_kc (c := 11) rfl rfl) (by decide) rfl (s1_X12_next hM119 hpr gf gn (by omega) (by omega) (by omega) (by omega)) gX12_readUnit_X12_next rfl hdX12_next (by decide) (Nat.le_of_ble_eq_true rfl) dX12_readUnit_140 rfl (fun M191 h192 => ?_)
              obtain ⟨hM191, fM191, h193⟩ := h192
              have bM191 := tkm_b (f := gf) (n := gn) (M := M191) (by omega)
              have qM191 := nx_po (f := gf) (n := gn) (i := ((suR gf gn 5) gi).2.2) (M := M119) (M' := M191) (by omega) (by omega) (by omega) (by omega) (by omega)
              refine j_goto C 151 dX12_readUnit_143 (by decide) ?_
              have u194c := xw_c (N := M119) (P := M191) 1 (FR.cell fM191 (by decide)) (by omega)
              have u194t := xw_t (M := M0) (N := M119) (P := M191) (r1 := 0) (e1 := 1) (s1 := 0) (r2 := 0) (e2 := 0) (s2 := 1) 0 1 1 (by decide) (by omega) (by omega)
              have u194l := ri_l (M := M191) (by omega)
              have u194J := cj_1 gf gn 5 gi (M0.1 98 11).toInt (M0.1 98 12).toInt (M119.1 98 11).toInt (M119.1 98 12).toInt (M119.1 98 6).toInt (M191.1 98 11).toInt (M191.1 98 12).toInt (M191.1 98 6).toInt (by omega) (by omega) (by omega) (by omega) (by omega) (by omega) (by omega)
              have u194P := po_rr (sjP gf gn 5) gn gi (M0.1 98 11).toInt (M0.1 98 12).toInt (M0.1 98 6).toInt (M191.1 98 11).toInt (M191.1 98 12).toInt (M191.1 98 6).toInt (sj_g gf gn 5) (by omega) (by omega)
              refine j_lv [1, 2, 0] rfl ?_; exact J196 M191 (by omega) hM191 ((FR.rf.tr fM119 (by decide)).tr fM191 (by decide))
      refine y_if_eq C 93 dX12_readUnit_84 (by decide) (by omega) (fun h130 => ?_) (fun h130 => ?_)
      · refine j_aload_n C 0 0 dX12_readUnit_93 rfl rfl ?_
        refine y_bipush C dX12_readUnit_94 rfl ?_
        have k131 := tkm_K (f := gf) (n := gn) (M := M119) (by omega)
        have k132 := kd_2 (kdk_40 gf gn (M119.1 98 6).toInt) (by omega)
        refine j_callVi C (d := 0) (As := [.int (sI 40)]) (st := []) 98 (s_lt rfl rfl) (s_kc (c := 11) rfl rfl) (by decide) rfl (s1_X12_is hM119 40 (by omega)) gX12_readUnit_X12_is rfl hdX12_is (by decide) (Nat.le_of_ble_eq_true rfl) dX12_readUnit_96 rfl (fun r133 M134 h135 => ?_)
        obtain ⟨a137, rfl, rfl, h136⟩ := h135
        refine y_if_eq C 108 dX12_readUnit_99 (by decide) (by omega) (fun h138 => ?_) (fun h138 => ?_)
        · refine y_sipush C dX12_readUnit_108 rfl ?_
          exact J140 3005 (by omega)
        · refine y_sipush C dX12_readUnit_102 rfl ?_
          refine j_goto C 111 dX12_readUnit_105 (by decide) ?_
          exact J140 3004 (by omega)
      · refine y_sipush C dX12_readUnit_87 rfl ?_
        refine j_goto C 111 dX12_readUnit_90 (by decide) ?_
        exact J140 3003 (by omega)
    · have u211k := ri_k (M := M0) (by omega) (by omega)
      refine j_aload_n C 0 0 dX12_readUnit_42 rfl rfl ?_
      refine j_iload_n C 1 1 dX12_readUnit_43 rfl rfl ?_
      refine j_callVi C (d := 6) (As := [.int (sI 1)]) (st := []) 98 (s_lt rfl rfl) (s_kc (c := 11) rfl rfl) (by decide) rfl (s2_X12_goesIn hM0 hpr gf gn gi (by omega) (by omega) (by omega) (by omega) (by omega) (by omega) (by omega)) gX12_readUnit_X12_goesIn rfl hdX12_goesIn (by decide) (Nat.le_of_ble_eq_true rfl) dX12_readUnit_44 rfl (fun r212 M213 h214 => ?_)
      obtain ⟨a216, rfl, hM213, fM213, h215⟩ := h214
      have bM213 := tkm_b (f := gf) (n := gn) (M := M213) (by omega)
      refine y_if_ne C 51 dX12_readUnit_47 (by decide) (by omega) (fun h217 => ?_) (fun h217 => ?_)
      · have u218c := xw_c (N := M0) (P := M213) 1 (FR.cell fM213 (by decide)) (by omega)
        have u218t := xw_t (M := M0) (N := M0) (P := M213) (r1 := 0) (e1 := 0) (s1 := 0) (r2 := 0) (e2 := 0) (s2 := 1) 0 0 1 (by decide) (by omega) (by omega)
        have u218a := ca_x (M := M0) (N := M213) (r := 0) (e := 0) (s := 1) (by decide) (by omega) (by omega)
        have u218l := ri_l (M := M213) (by omega)
        refine j_aload_n C 0 0 dX12_readUnit_51 rfl rfl ?_
        refine j_iload_n C 1 1 dX12_readUnit_52 rfl rfl ?_
        refine y_iconst C dX12_readUnit_53 ?_
        refine y_iadd C dX12_readUnit_54 ?_
        refine j_callVv C (d := 24) (As := [.int (sI (1 + 1))]) (st := []) 98 (s_lt rfl rfl) (s_kc (c := 11) rfl rfl) (by decide) rfl (s5_X12_readTruth hM213 hpr gf gn (nxF gf gn gi) (by omega) (by omega) (by omega) (by omega) (by omega)) gX12_readUnit_X12_readTruth rfl hdX12_readTruth (by decide) (Nat.le_of_ble_eq_true rfl) dX12_readUnit_55 rfl (fun M220 h221 => ?_)
        obtain ⟨hM220, fM220, h222⟩ := h221
        have bM220 := tkm_b (f := gf) (n := gn) (M := M220) (by omega)
        have qM220 := po_rr (trP gf gn (unR gf gn 4)) gn (nxF gf gn gi) (M213.1 98 11).toInt (M213.1 98 12).toInt (M213.1 98 6).toInt (M220.1 98 11).toInt (M220.1 98 12).toInt (M220.1 98 6).toInt (tr_g gf gn (unR_g gf gn 4)) (by omega) (by omega)
        have u223t := xw_t (M := M0) (N := M213) (P := M220) (r1 := 0) (e1 := 0) (s1 := 1) (r2 := 0) (e2 := 1) (s2 := 0) 0 1 1 (by decide) (by omega) (by omega)
        have u223l := ri_l (M := M220) (by omega)
        refine j_aload_n C 0 0 dX12_readUnit_58 rfl rfl ?_
        refine y_bipush C dX12_readUnit_59 rfl ?_
        have k224 := tkm_K (f := gf) (n := gn) (M := M220) (by omega)
        have k225 := kd_2 (kdk_38 gf gn (M220.1 98 6).toInt) (by omega)
        refine j_callVi C (d := 6) (As := [.int (sI 38)]) (st := []) 98 (s_lt rfl rfl) (s_kc (c := 11) rfl rfl) (by decide) rfl (s1_X12_eats hM220 hpr 38 (by omega) gf gn ((trP gf gn (unR gf gn 4)) (nxF gf gn gi)).2.2 (by omega) (by omega) (by omega) (by omega) (by omega)) gX12_readUnit_X12_eats rfl hdX12_eats (by decide) (Nat.le_of_ble_eq_true rfl) dX12_readUnit_61 rfl (fun r226 M227 h228 => ?_)
        obtain ⟨a230, rfl, hM227, fM227, h229⟩ := h228
        have k231 := tk_c gf gn (M227.1 98 6).toInt (M220.1 98 6).toInt
        have bM227 := tkm_b (f := gf) (n := gn) (M := M227) (by omega)
        have u232c := xw_c (N := M220) (P := M227) 0 (FR.cell fM227 (by decide)) (by omega)
        have u232t := xw_t (M := M0) (N := M220) (P := M227) (r1 := 0) (e1 := 1) (s1 := 1) (r2 := 0) (e2 := 0) (s2 := 0) 0 1 0 (by decide) (by omega) (by omega)
        have u232l := ri_l (M := M227) (by omega)
        refine y_if_ne C 72 dX12_readUnit_64 (by decide) (by omega) (fun h233 => ?_) (fun h233 => ?_)
        · have u234a := ca_x (M := M0) (N := M227) (r := 0) (e := 1) (s := 0) (by decide) (by omega) (by omega)
          have u235x := ex_1 gf gn 2093 ((trP gf gn (unR gf gn 4)) (nxF gf gn gi)).2.2 (M220.1 98 11).toInt (M220.1 98 12).toInt (M220.1 98 6).toInt (M227.1 98 11).toInt (M227.1 98 12).toInt (M227.1 98 6).toInt (by omega) (by omega) (by omega) (by omega) (by omega) (by omega)
          have u235r := un_2 gf gn 4 5 rfl gi (M0.1 98 11).toInt (M0.1 98 12).toInt (M0.1 98 6).toInt (M213.1 98 11).toInt (M213.1 98 12).toInt (M220.1 98 11).toInt (M220.1 98 12).toInt (M220.1 98 6).toInt (M227.1 98 11).toInt (M227.1 98 12).toInt (M227.1 98 6).toInt (by omega) (by omega) (by omega) (by omega) (by omega) (by omega)
          exact hret _ _ _ dX12_readUnit_72 ⟨hM227, (((FR.rf.tr fM213 (by decide)).tr fM220 (by decide)).tr fM227 (by decide)), by omega⟩
        · refine j_aload_n C 0 0 dX12_readUnit_67 rfl rfl ?_
          refine y_iconst C dX12_readUnit_68 ?_
          have p236 := po_eq gn ((trP gf gn (unR gf gn 4)) (nxF gf gn gi)).2.2 (M220.1 98 11).toInt (M220.1 98 6).toInt (M227.1 98 11).toInt (M227.1 98 6).toInt (by omega) (by omega) (by omega)
          refine j_callVv C (d := 0) (As := [.int (sI 2)]) (st := []) 98 (s_lt rfl rfl) (s_kc (c := 11) rfl rfl) (by decide) rfl (s1_X12_fails hM227 hpr 2 (by omega) gf gn ((trP gf gn (unR gf gn 4)) (nxF gf gn gi)).2.2 (by omega) (by omega) (by omega) (by omega) (by omega)) gX12_readUnit_X12_fails rfl hdX12_fails (by decide) (Nat.le_of_ble_eq_true rfl) dX12_readUnit_69 rfl (fun M238 h239 => ?_)
          obtain ⟨hM238, fM238, h240⟩ := h239
          have bM238 := tkm_b (f := gf) (n := gn) (M := M238) (by omega)
          have qM238 := po_f gn ((faQ gf gn 2) ((trP gf gn (unR gf gn 4)) (nxF gf gn gi)).2.2).2.2 (M238.1 98 11).toInt (M238.1 98 6).toInt (by omega)
          have u241f : b01 (XW M0 M238 0 1 0) = 1 := b01_i (Or.inl (by omega))
          have u241a := ca_x (M := M0) (N := M238) (r := 0) (e := 1) (s := 0) (by decide) (by omega) (by omega)
          have u242x := ex_2z gf gn 2093 ((trP gf gn (unR gf gn 4)) (nxF gf gn gi)).2.2 (M220.1 98 11).toInt (M220.1 98 12).toInt (M220.1 98 6).toInt (M238.1 98 11).toInt (M238.1 98 12).toInt (M238.1 98 6).toInt (by omega) (by omega) (rr_fr (faQ gf gn 2 ((trP gf gn (unR gf gn 4)) (nxF gf gn gi)).2.2) (M220.1 98 11).toInt (M220.1 98 12).toInt (M227.1 98 11).toInt (M227.1 98 12).toInt (M238.1 98 11).toInt (M238.1 98 12).toInt (M238.1 98 6).toInt (by omega) (by omega) (by omega))
          have u242r := un_2 gf gn 4 5 rfl gi (M0.1 98 11).toInt (M0.1 98 12).toInt (M0.1 98 6).toInt (M213.1 98 11).toInt (M213.1 98 12).toInt (M220.1 98 11).toInt (M220.1 98 12).toInt (M220.1 98 6).toInt (M238.1 98 11).toInt (M238.1 98 12).toInt (M238.1 98 6).toInt (by omega) (by omega) (by omega) (by omega) (by omega) (by omega)
          exact hret _ _ _ dX12_readUnit_72 ⟨hM238, ((((FR.rf.tr fM213 (by decide)).tr fM220 (by decide)).tr fM227 (by decide)).tr fM238 (by decide)), by omega⟩
      · exfalso; omega
  · have u243k := ri_k (M := M0) (by omega) (by omega)
    refine j_aload_n C 0 0 dX12_readUnit_9 rfl rfl ?_
    refine j_iload_n C 1 1 dX12_readUnit_10 rfl rfl ?_
    refine j_callVi C (d := 6) (As := [.int (sI 1)]) (st := []) 98 (s_lt rfl rfl) (s_kc (c := 11) rfl rfl) (by decide) rfl (s2_X12_goesIn hM0 hpr gf gn gi (by omega) (by omega) (by omega) (by omega) (by omega) (by omega) (by omega)) gX12_readUnit_X12_goesIn rfl hdX12_goesIn (by decide) (Nat.le_of_ble_eq_true rfl) dX12_readUnit_11 rfl (fun r244 M245 h246 => ?_)
    obtain ⟨a248, rfl, hM245, fM245, h247⟩ := h246
    have bM245 := tkm_b (f := gf) (n := gn) (M := M245) (by omega)
    refine y_if_ne C 18 dX12_readUnit_14 (by decide) (by omega) (fun h249 => ?_) (fun h249 => ?_)
    · have u250c := xw_c (N := M0) (P := M245) 1 (FR.cell fM245 (by decide)) (by omega)
      have u250t := xw_t (M := M0) (N := M0) (P := M245) (r1 := 0) (e1 := 0) (s1 := 0) (r2 := 0) (e2 := 0) (s2 := 1) 0 0 1 (by decide) (by omega) (by omega)
      have u250a := ca_x (M := M0) (N := M245) (r := 0) (e := 0) (s := 1) (by decide) (by omega) (by omega)
      have u250l := ri_l (M := M245) (by omega)
      refine j_aload_n C 0 0 dX12_readUnit_18 rfl rfl ?_
      refine j_iload_n C 1 1 dX12_readUnit_19 rfl rfl ?_
      refine y_iconst C dX12_readUnit_20 ?_
      refine y_iadd C dX12_readUnit_21 ?_
      refine j_callVv C (d := 22) (As := [.int (sI (1 + 1))]) (st := []) 98 (s_lt rfl rfl) (s_kc (c := 11) rfl rfl) (by decide) rfl (s5_X12_readUnit hM245 hpr gf gn (nxF gf gn gi) (by omega) (by omega) (by omega) (by omega) (by omega)) gX12_readUnit_X12_readUnit rfl hdX12_readUnit (by decide) (Nat.le_of_ble_eq_true rfl) dX12_readUnit_22 rfl (fun M252 h253 => ?_)
      obtain ⟨hM252, fM252, h254⟩ := h253
      have bM252 := tkm_b (f := gf) (n := gn) (M := M252) (by omega)
      have qM252 := po_rr (unR gf gn 4) gn (nxF gf gn gi) (M245.1 98 11).toInt (M245.1 98 12).toInt (M245.1 98 6).toInt (M252.1 98 11).toInt (M252.1 98 12).toInt (M252.1 98 6).toInt (unR_g gf gn 4) (by omega) (by omega)
      have u255t := xw_t (M := M0) (N := M245) (P := M252) (r1 := 0) (e1 := 0) (s1 := 1) (r2 := 0) (e2 := 1) (s2 := 0) 0 1 1 (by decide) (by omega) (by omega)
      have u255l := ri_l (M := M252) (by omega)
      have u255b := cb_x (M := M0) (N := M252) (r := 0) (e := 1) (s := 1) (by decide) (by omega) (by omega) (by omega)
      refine j_aload_n C 0 0 dX12_readUnit_25 rfl rfl ?_
      refine y_sipush C dX12_readUnit_26 rfl ?_
      refine j_callVv C (d := 0) (As := [.int (sI 3006)]) (st := []) 98 (s_lt rfl rfl) (s_kc (c := 11) rfl rfl) (by decide) rfl (s1_X12_codes hM252 hpr 3006 (by omega) gf gn ((unR gf gn 4) (nxF gf gn gi)).2.2 (by omega) (by omega) (by omega) (by omega)) gX12_readUnit_X12_codes rfl hdX12_codes (by decide) (Nat.le_of_ble_eq_true rfl) dX12_readUnit_29 rfl (fun M257 h258 => ?_)
      obtain ⟨hM257, fM257, h259⟩ := h258
      have bM257 := tkm_b (f := gf) (n := gn) (M := M257) (by omega)
      have qM257 := po_eq gn ((unR gf gn 4) (nxF gf gn gi)).2.2 (M252.1 98 11).toInt (M252.1 98 6).toInt (M257.1 98 11).toInt (M257.1 98 6).toInt (by omega) (by omega) (by omega)
      have u260x := xw_a (M := M252) (N := M257) (c := 3006) (r := 1) (e := 0) (FR.cell fM257 (by decide)) (ap_not (INV.rd hM252 (i := 102) (c := 48) (k := 280) rfl rfl).1) (by omega)
      have u260t := xw_t (M := M0) (N := M252) (P := M257) (r1 := 0) (e1 := 1) (s1 := 1) (r2 := 1) (e2 := 0) (s2 := (-1)) 0 1 0 (by decide) (by omega) (by omega)
      have u260i := ri_c (M := M252) (N := M257) (FR.cell fM257 (by decide)) (by omega)
      have u260l := ri_l (M := M257) (by omega)
      have u260a := ca_x (M := M0) (N := M257) (r := 0) (e := 1) (s := 0) (by decide) (by omega) (by omega)
      have u261r := un_1 gf gn 4 5 rfl gi (M0.1 98 11).toInt (M0.1 98 12).toInt (M0.1 98 6).toInt (M245.1 98 11).toInt (M245.1 98 12).toInt (M252.1 98 11).toInt (M252.1 98 12).toInt (M252.1 98 6).toInt (M257.1 98 11).toInt (M257.1 98 12).toInt (M257.1 98 6).toInt (by omega) (by omega) (by omega) (by omega) (by omega) (by omega) (by omega) (by omega)
      have zz98_11 : (M257.1 98 11).toInt = (M252.1 98 11).toInt := s_fF fM257 (by decide) (rfl); have zz98_12 : (M257.1 98 12).toInt = (M252.1 98 12).toInt := s_fF fM257 (by decide) (rfl); have zz98_6 : (M257.1 98 6).toInt = (M252.1 98 6).toInt := s_fF fM257 (by decide) (rfl); have zz98_8 : (M257.1 98 8).toInt = (M252.1 98 8).toInt := s_fF fM257 (by decide) (rfl); exact hret _ _ _ dX12_readUnit_32 ⟨hM257, (((FR.rf.tr fM245 (by decide)).tr fM252 (by decide)).tr fM257 (by decide)), by omega⟩
    · exfalso; omega
set_option maxHeartbeats 4000000 in
theorem s6_X12_readBoth {l : Launch} {dC : Nat → ClassId} {dI : Nat → Nat → Nat} {ad : Nat → Nat} {cA : Nat → ClassId} {pr : Nat → Nat → Bool} {Kz : mm_M} {M0 : mm_M} (hM0 : INV pr Kz M0) (hpr : PM pr) (gf : Nat → Int) (gn : Int) (gi : Int) (hp0 : b01 (RIP M0) = 1) (hp1 : b01 (CA M0) = 1) (hp2 : b01 (TKM gf gn M0) = 1) (hp3 : b01 (PO gn gi (M0.1 98 11).toInt (M0.1 98 6).toInt) = 1) (hp4 : b01 (PI M0) = 1) : Cv l 26 yX12_readBoth wsX12_readBoth dC dI ad cA [.ref (ad 98), .int (sI 1)] M0 (fun M' => INV pr Kz M' ∧ FR [98, 102] M0 M' ∧ (b01 (RIP M') = 1) ∧ ((M'.1 98 8).toInt = (M0.1 98 8).toInt) ∧ ((M0.1 98 6).toInt ≤ (M'.1 98 6).toInt) ∧ (b01 (XW M0 M' 0 1 0) = 1) ∧ (b01 (CA M') = 1) ∧ (b01 (PI M') = 1) ∧ (b01 (TKM gf gn M') = 1) ∧ b01 (RR ((boP gf gn (unR gf gn 5)) gi) (M0.1 98 11).toInt (M0.1 98 12).toInt (M'.1 98 11).toInt (M'.1 98 12).toInt (M'.1 98 6).toInt) = 1) := by
  refine cv_of (cc := cX12_readBoth) (maxL := 2) (lv := [(0, .ref (ad 98)), (1, .int (sI 1))]) (by decide) rfl (Nat.le_of_ble_eq_true rfl) rfl ?_
  intro p e s m args below meth c A Q C hret
  have u101z := xw_0 M0
  have u101l := ri_l (M := M0) (by omega)
  refine j_aload_n C 0 0 dX12_readBoth_0 rfl rfl ?_
  refine j_iload_n C 1 1 dX12_readBoth_1 rfl rfl ?_
  refine j_callVv C (d := 25) (As := [.int (sI 1)]) (st := []) 98 (s_lt rfl rfl) (s_kc (c := 11) rfl rfl) (by decide) rfl (s6_X12_readUnit hM0 hpr gf gn gi (by omega) (by omega) (by omega) (by omega) (by omega)) gX12_readBoth_X12_readUnit rfl hdX12_readUnit (by decide) (Nat.le_of_ble_eq_true rfl) dX12_readBoth_2 rfl (fun M103 h104 => ?_)
  obtain ⟨hM103, fM103, h105⟩ := h104
  have bM103 := tkm_b (f := gf) (n := gn) (M := M103) (by omega)
  have qM103 := po_rr (unR gf gn 5) gn gi (M0.1 98 11).toInt (M0.1 98 12).toInt (M0.1 98 6).toInt (M103.1 98 11).toInt (M103.1 98 12).toInt (M103.1 98 6).toInt (unR_g gf gn 5) (by omega) (by omega)
  have u106l := ri_l (M := M103) (by omega)
  have u106L := ll_0 (luP gf gn 1015 1015 (unR gf gn 5)) gn ((unR gf gn 5) gi).2.2 (M103.1 98 11).toInt (M103.1 98 12).toInt (M103.1 98 6).toInt (by omega)
  have L132 : ∀ (n130 : Nat), ∀ (M133 : mm_M) (gq134 : Int), ((b01 (RIP M133) = 1) ∧ ((M133.1 98 8).toInt = (M0.1 98 8).toInt) ∧ ((M0.1 98 6).toInt ≤ (M133.1 98 6).toInt) ∧ (b01 (XW M0 M133 0 1 0) = 1) ∧ ((M133.1 98 6).toInt ≤ 900) ∧ (b01 (LL (luP gf gn 1015 1015 (unR gf gn 5)) gn ((unR gf gn 5) gi).2.2 gq134 0 (M103.1 98 11).toInt (M103.1 98 12).toInt (M133.1 98 11).toInt (M133.1 98 12).toInt (M133.1 98 6).toInt) = 1) ∧ (b01 (TKM gf gn M133) = 1) ∧ (b01 (PO gn gq134 (M133.1 98 11).toInt (M133.1 98 6).toInt) = 1) ∧ (b01 (PI M133) = 1) ∧ (900 - (M133.1 98 6).toInt) < (n130 : Int)) → INV pr Kz M133 → FR [98, 102] M0 M133 → jj p l e (cn_R 26) s m args below meth c 0 0 Q 2 dC dI ad cA A M133 5 [(0, .ref (ad 98)), (1, .int (sI 1))] [] := by
    intro n130
    induction n130 with
    | zero =>
      intro M133 gq134 h135 hM133 fM133
      exfalso; omega
    | succ n130 ih131 =>
      intro M133 gq134 h135 hM133 fM133
      have u136l := ri_l (M := M133) (by omega)
      have u136B := tkm_b (f := gf) (n := gn) (M := M133) (by omega)
      refine j_aload_n C 0 0 dX12_readBoth_5 rfl rfl ?_
      refine y_bipush C dX12_readBoth_6 rfl ?_
      have k137 := tkm_K (f := gf) (n := gn) (M := M133) (by omega)
      have k138 := kd_2 (kdk_14 gf gn (M133.1 98 6).toInt) (by omega)
      refine j_callVi C (d := 6) (As := [.int (sI 14)]) (st := []) 98 (s_lt rfl rfl) (s_kc (c := 11) rfl rfl) (by decide) rfl (s1_X12_eats hM133 hpr 14 (by omega) gf gn gq134 (by omega) (by omega) (by omega) (by omega) (by omega)) gX12_readBoth_X12_eats rfl hdX12_eats (by decide) (Nat.le_of_ble_eq_true rfl) dX12_readBoth_8 rfl (fun r139 M140 h141 => ?_)
      obtain ⟨a143, rfl, hM140, fM140, h142⟩ := h141
      have k144 := tk_c gf gn (M140.1 98 6).toInt (M133.1 98 6).toInt
      have bM140 := tkm_b (f := gf) (n := gn) (M := M140) (by omega)
      refine y_if_eq C 29 dX12_readBoth_11 (by decide) (by omega) (fun h145 => ?_) (fun h145 => ?_)
      · have u157c := xw_c (N := M133) (P := M140) 0 (FR.cell fM140 (by decide)) (by omega)
        have u157t := xw_t (M := M0) (N := M133) (P := M140) (r1 := 0) (e1 := 1) (s1 := 0) (r2 := 0) (e2 := 0) (s2 := 0) 0 1 0 (by decide) (by omega) (by omega)
        have u157a := ca_x (M := M0) (N := M140) (r := 0) (e := 1) (s := 0) (by decide) (by omega) (by omega)
        have u157E := ll_e gf gn 1015 1015 (unR gf gn 5) ((unR gf gn 5) gi).2.2 gq134 0 (M103.1 98 11).toInt (M103.1 98 12).toInt (M133.1 98 11).toInt (M133.1 98 12).toInt (M133.1 98 6).toInt (by decide) (unR_g gf gn 5) (by omega) (by omega)
        have u157S : b01 (RR ((boP gf gn (unR gf gn 5)) gi) (M0.1 98 11).toInt (M0.1 98 12).toInt (M133.1 98 11).toInt (M133.1 98 12).toInt (M133.1 98 6).toInt) = 1 := rr_sq ((unR gf gn 5) gi) (luP gf gn 1015 1015 (unR gf gn 5)) (M0.1 98 11).toInt (M0.1 98 12).toInt (M103.1 98 11).toInt (M103.1 98 12).toInt (M103.1 98 6).toInt (M133.1 98 11).toInt (M133.1 98 12).toInt (M133.1 98 6).toInt (by omega) (by omega)
        have u157R := rr_eq ((boP gf gn (unR gf gn 5)) gi) (M0.1 98 11).toInt (M0.1 98 12).toInt (M133.1 98 11).toInt (M133.1 98 12).toInt (M133.1 98 6).toInt (M140.1 98 11).toInt (M140.1 98 12).toInt (M140.1 98 6).toInt (by omega) (by omega) (by omega) (by omega)
        exact hret _ _ _ dX12_readBoth_29 ⟨hM140, ((FR.rf.tr fM133 (by decide)).tr fM140 (by decide)), by omega⟩
      · have u146c := xw_c (N := M133) (P := M140) 1 (FR.cell fM140 (by decide)) (by omega)
        have u146t := xw_t (M := M0) (N := M133) (P := M140) (r1 := 0) (e1 := 1) (s1 := 0) (r2 := 0) (e2 := 0) (s2 := 1) 0 1 1 (by decide) (by omega) (by omega)
        have u146a := ca_x (M := M0) (N := M140) (r := 0) (e := 1) (s := 1) (by decide) (by omega) (by omega)
        have u146l := ri_l (M := M140) (by omega)
        refine j_aload_n C 0 0 dX12_readBoth_14 rfl rfl ?_
        refine j_iload_n C 1 1 dX12_readBoth_15 rfl rfl ?_
        refine j_callVv C (d := 25) (As := [.int (sI 1)]) (st := []) 98 (s_lt rfl rfl) (s_kc (c := 11) rfl rfl) (by decide) rfl (s6_X12_readUnit hM140 hpr gf gn (nxF gf gn gq134) (by omega) (by omega) (by omega) (by omega) (by omega)) gX12_readBoth_X12_readUnit rfl hdX12_readUnit (by decide) (Nat.le_of_ble_eq_true rfl) dX12_readBoth_16 rfl (fun M148 h149 => ?_)
        obtain ⟨hM148, fM148, h150⟩ := h149
        have bM148 := tkm_b (f := gf) (n := gn) (M := M148) (by omega)
        have qM148 := po_rr (unR gf gn 5) gn (nxF gf gn gq134) (M140.1 98 11).toInt (M140.1 98 12).toInt (M140.1 98 6).toInt (M148.1 98 11).toInt (M148.1 98 12).toInt (M148.1 98 6).toInt (unR_g gf gn 5) (by omega) (by omega)
        have u151t := xw_t (M := M0) (N := M140) (P := M148) (r1 := 0) (e1 := 1) (s1 := 1) (r2 := 0) (e2 := 1) (s2 := 0) 0 2 1 (by decide) (by omega) (by omega)
        have u151l := ri_l (M := M148) (by omega)
        have u151b := cb_x (M := M0) (N := M148) (r := 0) (e := 2) (s := 1) (by decide) (by omega) (by omega) (by omega)
        refine j_aload_n C 0 0 dX12_readBoth_19 rfl rfl ?_
        refine y_sipush C dX12_readBoth_20 rfl ?_
        refine j_callVv C (d := 0) (As := [.int (sI 3007)]) (st := []) 98 (s_lt rfl rfl) (s_kc (c := 11) rfl rfl) (by decide) rfl (s1_X12_codes hM148 hpr 3007 (by omega) gf gn ((unR gf gn 5) (nxF gf gn gq134)).2.2 (by omega) (by omega) (by omega) (by omega)) gX12_readBoth_X12_codes rfl hdX12_codes (by decide) (Nat.le_of_ble_eq_true rfl) dX12_readBoth_23 rfl (fun M153 h154 => ?_)
        obtain ⟨hM153, fM153, h155⟩ := h154
        have bM153 := tkm_b (f := gf) (n := gn) (M := M153) (by omega)
        have qM153 := po_eq gn ((unR gf gn 5) (nxF gf gn gq134)).2.2 (M148.1 98 11).toInt (M148.1 98 6).toInt (M153.1 98 11).toInt (M153.1 98 6).toInt (by omega) (by omega) (by omega)
        refine j_goto C 5 dX12_readBoth_26 (by decide) ?_
        have u156x := xw_a (M := M148) (N := M153) (c := 3007) (r := 2) (e := (-1)) (FR.cell fM153 (by decide)) (ap_bin ⟨(INV.rd hM148 (i := 102) (c := 48) (k := 280) rfl rfl).1, by omega, by omega⟩) (by omega)
        have u156t := xw_t (M := M0) (N := M148) (P := M153) (r1 := 0) (e1 := 2) (s1 := 1) (r2 := 2) (e2 := (-1)) (s2 := (-1)) 0 1 0 (by decide) (by omega) (by omega)
        have u156i := ri_c (M := M148) (N := M153) (FR.cell fM153 (by decide)) (by omega)
        have u156l := ri_l (M := M153) (by omega)
        have u156L := ll_w (luP gf gn 1015 1015 (unR gf gn 5)) gn ((unR gf gn 5) gi).2.2 ((unR gf gn 5) (nxF gf gn gq134)).2.2 (0 + 1) 0 (M103.1 98 11).toInt (M103.1 98 12).toInt (M153.1 98 11).toInt (M153.1 98 12).toInt (M153.1 98 6).toInt (by decide) (ll_s gf gn 1015 1015 (unR gf gn 5) ((unR gf gn 5) gi).2.2 gq134 0 (M103.1 98 11).toInt (M103.1 98 12).toInt (M133.1 98 11).toInt (M133.1 98 12).toInt (M133.1 98 6).toInt (M140.1 98 11).toInt (M140.1 98 12).toInt (M148.1 98 11).toInt (M148.1 98 12).toInt (M148.1 98 6).toInt (M153.1 98 11).toInt (M153.1 98 12).toInt (M153.1 98 6).toInt (by decide) (unR_g gf gn 5) (by omega) (by omega) (by omega) (by omega) (by omega) (by omega) (by omega) (by omega) (by omega))
        have zz98_8 : (M153.1 98 8).toInt = (M148.1 98 8).toInt := s_fF fM153 (by decide) (rfl); have zz98_6 : (M153.1 98 6).toInt = (M148.1 98 6).toInt := s_fF fM153 (by decide) (rfl); have zz98_12 : (M153.1 98 12).toInt = (M148.1 98 12).toInt := s_fF fM153 (by decide) (rfl); have zz98_11 : (M153.1 98 11).toInt = (M148.1 98 11).toInt := s_fF fM153 (by decide) (rfl); exact ih131 M153 ((unR gf gn 5) (nxF gf gn gq134)).2.2 (by omega) hM153 ((((FR.rf.tr fM133 (by decide)).tr fM140 (by decide)).tr fM148 (by decide)).tr fM153 (by decide))
  exact L132 2010 M103 ((unR gf gn 5) gi).2.2 (by omega) hM103 (FR.rf.tr fM103 (by decide))
set_option maxHeartbeats 4000000 in
theorem s6_X12_readTruth {l : Launch} {dC : Nat → ClassId} {dI : Nat → Nat → Nat} {ad : Nat → Nat} {cA : Nat → ClassId} {pr : Nat → Nat → Bool} {Kz : mm_M} {M0 : mm_M} (hM0 : INV pr Kz M0) (hpr : PM pr) (gf : Nat → Int) (gn : Int) (gi : Int) (hp0 : b01 (RIP M0) = 1) (hp1 : b01 (CA M0) = 1) (hp2 : b01 (TKM gf gn M0) = 1) (hp3 : b01 (PO gn gi (M0.1 98 11).toInt (M0.1 98 6).toInt) = 1) (hp4 : b01 (PI M0) = 1) : Cv l 27 yX12_readTruth wsX12_readTruth dC dI ad cA [.ref (ad 98), .int (sI 1)] M0 (fun M' => INV pr Kz M' ∧ FR [98, 102] M0 M' ∧ (b01 (RIP M') = 1) ∧ ((M'.1 98 8).toInt = (M0.1 98 8).toInt) ∧ ((M0.1 98 6).toInt ≤ (M'.1 98 6).toInt) ∧ (b01 (XW M0 M' 0 1 0) = 1) ∧ (b01 (CA M') = 1) ∧ (b01 (PI M') = 1) ∧ (b01 (TKM gf gn M') = 1) ∧ b01 (RR ((trP gf gn (unR gf gn 5)) gi) (M0.1 98 11).toInt (M0.1 98 12).toInt (M'.1 98 11).toInt (M'.1 98 12).toInt (M'.1 98 6).toInt) = 1) := by
  refine cv_of (cc := cX12_readTruth) (maxL := 2) (lv := [(0, .ref (ad 98)), (1, .int (sI 1))]) (by decide) rfl (Nat.le_of_ble_eq_true rfl) rfl ?_
  intro p e s m args below meth c A Q C hret
  have u101z := xw_0 M0
  have u101l := ri_l (M := M0) (by omega)
  refine j_aload_n C 0 0 dX12_readTruth_0 rfl rfl ?_
  refine j_iload_n C 1 1 dX12_readTruth_1 rfl rfl ?_
  refine j_callVv C (d := 26) (As := [.int (sI 1)]) (st := []) 98 (s_lt rfl rfl) (s_kc (c := 11) rfl rfl) (by decide) rfl (s6_X12_readBoth hM0 hpr gf gn gi (by omega) (by omega) (by omega) (by omega) (by omega)) gX12_readTruth_X12_readBoth rfl hdX12_readBoth (by decide) (Nat.le_of_ble_eq_true rfl) dX12_readTruth_2 rfl (fun M103 h104 => ?_)
  obtain ⟨hM103, fM103, h105⟩ := h104
  have bM103 := tkm_b (f := gf) (n := gn) (M := M103) (by omega)
  have qM103 := po_rr (boP gf gn (unR gf gn 5)) gn gi (M0.1 98 11).toInt (M0.1 98 12).toInt (M0.1 98 6).toInt (M103.1 98 11).toInt (M103.1 98 12).toInt (M103.1 98 6).toInt (bo_g gf gn (unR_g gf gn 5)) (by omega) (by omega)
  have u106l := ri_l (M := M103) (by omega)
  have u106L := ll_0 (luP gf gn 1014 1014 (boP gf gn (unR gf gn 5))) gn ((boP gf gn (unR gf gn 5)) gi).2.2 (M103.1 98 11).toInt (M103.1 98 12).toInt (M103.1 98 6).toInt (by omega)
  have L132 : ∀ (n130 : Nat), ∀ (M133 : mm_M) (gq134 : Int), ((b01 (RIP M133) = 1) ∧ ((M133.1 98 8).toInt = (M0.1 98 8).toInt) ∧ ((M0.1 98 6).toInt ≤ (M133.1 98 6).toInt) ∧ (b01 (XW M0 M133 0 1 0) = 1) ∧ ((M133.1 98 6).toInt ≤ 900) ∧ (b01 (LL (luP gf gn 1014 1014 (boP gf gn (unR gf gn 5))) gn ((boP gf gn (unR gf gn 5)) gi).2.2 gq134 0 (M103.1 98 11).toInt (M103.1 98 12).toInt (M133.1 98 11).toInt (M133.1 98 12).toInt (M133.1 98 6).toInt) = 1) ∧ (b01 (TKM gf gn M133) = 1) ∧ (b01 (PO gn gq134 (M133.1 98 11).toInt (M133.1 98 6).toInt) = 1) ∧ (b01 (PI M133) = 1) ∧ (900 - (M133.1 98 6).toInt) < (n130 : Int)) → INV pr Kz M133 → FR [98, 102] M0 M133 → jj p l e (cn_R 27) s m args below meth c 0 0 Q 2 dC dI ad cA A M133 5 [(0, .ref (ad 98)), (1, .int (sI 1))] [] := by
    intro n130
    induction n130 with
    | zero =>
      intro M133 gq134 h135 hM133 fM133
      exfalso; omega
    | succ n130 ih131 =>
      intro M133 gq134 h135 hM133 fM133
      have u136l := ri_l (M := M133) (by omega)
      have u136B := tkm_b (f := gf) (n := gn) (M := M133) (by omega)
      refine j_aload_n C 0 0 dX12_readTruth_5 rfl rfl ?_
      refine y_bipush C dX12_readTruth_6 rfl ?_
      have k137 := tkm_K (f := gf) (n := gn) (M := M133) (by omega)
      have k138 := kd_2 (kdk_15 gf gn (M133.1 98 6).toInt) (by omega)
      refine j_callVi C (d := 6) (As := [.int (sI 15)]) (st := []) 98 (s_lt rfl rfl) (s_kc (c := 11) rfl rfl) (by decide) rfl (s1_X12_eats hM133 hpr 15 (by omega) gf gn gq134 (by omega) (by omega) (by omega) (by omega) (by omega)) gX12_readTruth_X12_eats rfl hdX12_eats (by decide) (Nat.le_of_ble_eq_true rfl) dX12_readTruth_8 rfl (fun r139 M140 h141 => ?_)
      obtain ⟨a143, rfl, hM140, fM140, h142⟩ := h141
      have k144 := tk_c gf gn (M140.1 98 6).toInt (M133.1 98 6).toInt
      have bM140 := tkm_b (f := gf) (n := gn) (M := M140) (by omega)
      refine y_if_eq C 29 dX12_readTruth_11 (by decide) (by omega) (fun h145 => ?_) (fun h145 => ?_)
      · have u157c := xw_c (N := M133) (P := M140) 0 (FR.cell fM140 (by decide)) (by omega)
        have u157t := xw_t (M := M0) (N := M133) (P := M140) (r1 := 0) (e1 := 1) (s1 := 0) (r2 := 0) (e2 := 0) (s2 := 0) 0 1 0 (by decide) (by omega) (by omega)
        have u157a := ca_x (M := M0) (N := M140) (r := 0) (e := 1) (s := 0) (by decide) (by omega) (by omega)
        have u157E := ll_e gf gn 1014 1014 (boP gf gn (unR gf gn 5)) ((boP gf gn (unR gf gn 5)) gi).2.2 gq134 0 (M103.1 98 11).toInt (M103.1 98 12).toInt (M133.1 98 11).toInt (M133.1 98 12).toInt (M133.1 98 6).toInt (by decide) (bo_g gf gn (unR_g gf gn 5)) (by omega) (by omega)
        have u157S : b01 (RR ((trP gf gn (unR gf gn 5)) gi) (M0.1 98 11).toInt (M0.1 98 12).toInt (M133.1 98 11).toInt (M133.1 98 12).toInt (M133.1 98 6).toInt) = 1 := rr_sq ((boP gf gn (unR gf gn 5)) gi) (luP gf gn 1014 1014 (boP gf gn (unR gf gn 5))) (M0.1 98 11).toInt (M0.1 98 12).toInt (M103.1 98 11).toInt (M103.1 98 12).toInt (M103.1 98 6).toInt (M133.1 98 11).toInt (M133.1 98 12).toInt (M133.1 98 6).toInt (by omega) (by omega)
        have u157R := rr_eq ((trP gf gn (unR gf gn 5)) gi) (M0.1 98 11).toInt (M0.1 98 12).toInt (M133.1 98 11).toInt (M133.1 98 12).toInt (M133.1 98 6).toInt (M140.1 98 11).toInt (M140.1 98 12).toInt (M140.1 98 6).toInt (by omega) (by omega) (by omega) (by omega)
        exact hret _ _ _ dX12_readTruth_29 ⟨hM140, ((FR.rf.tr fM133 (by decide)).tr fM140 (by decide)), by omega⟩
      · have u146c := xw_c (N := M133) (P := M140) 1 (FR.cell fM140 (by decide)) (by omega)
        have u146t := xw_t (M := M0) (N := M133) (P := M140) (r1 := 0) (e1 := 1) (s1 := 0) (r2 := 0) (e2 := 0) (s2 := 1) 0 1 1 (by decide) (by omega) (by omega)
        have u146a := ca_x (M := M0) (N := M140) (r := 0) (e := 1) (s := 1) (by decide) (by omega) (by omega)
        have u146l := ri_l (M := M140) (by omega)
        refine j_aload_n C 0 0 dX12_readTruth_14 rfl rfl ?_
        refine j_iload_n C 1 1 dX12_readTruth_15 rfl rfl ?_
        refine j_callVv C (d := 26) (As := [.int (sI 1)]) (st := []) 98 (s_lt rfl rfl) (s_kc (c := 11) rfl rfl) (by decide) rfl (s6_X12_readBoth hM140 hpr gf gn (nxF gf gn gq134) (by omega) (by omega) (by omega) (by omega) (by omega)) gX12_readTruth_X12_readBoth rfl hdX12_readBoth (by decide) (Nat.le_of_ble_eq_true rfl) dX12_readTruth_16 rfl (fun M148 h149 => ?_)
        obtain ⟨hM148, fM148, h150⟩ := h149
        have bM148 := tkm_b (f := gf) (n := gn) (M := M148) (by omega)
        have qM148 := po_rr (boP gf gn (unR gf gn 5)) gn (nxF gf gn gq134) (M140.1 98 11).toInt (M140.1 98 12).toInt (M140.1 98 6).toInt (M148.1 98 11).toInt (M148.1 98 12).toInt (M148.1 98 6).toInt (bo_g gf gn (unR_g gf gn 5)) (by omega) (by omega)
        have u151t := xw_t (M := M0) (N := M140) (P := M148) (r1 := 0) (e1 := 1) (s1 := 1) (r2 := 0) (e2 := 1) (s2 := 0) 0 2 1 (by decide) (by omega) (by omega)
        have u151l := ri_l (M := M148) (by omega)
        have u151b := cb_x (M := M0) (N := M148) (r := 0) (e := 2) (s := 1) (by decide) (by omega) (by omega) (by omega)
        refine j_aload_n C 0 0 dX12_readTruth_19 rfl rfl ?_
        refine y_sipush C dX12_readTruth_20 rfl ?_
        refine j_callVv C (d := 0) (As := [.int (sI 3008)]) (st := []) 98 (s_lt rfl rfl) (s_kc (c := 11) rfl rfl) (by decide) rfl (s1_X12_codes hM148 hpr 3008 (by omega) gf gn ((boP gf gn (unR gf gn 5)) (nxF gf gn gq134)).2.2 (by omega) (by omega) (by omega) (by omega)) gX12_readTruth_X12_codes rfl hdX12_codes (by decide) (Nat.le_of_ble_eq_true rfl) dX12_readTruth_23 rfl (fun M153 h154 => ?_)
        obtain ⟨hM153, fM153, h155⟩ := h154
        have bM153 := tkm_b (f := gf) (n := gn) (M := M153) (by omega)
        have qM153 := po_eq gn ((boP gf gn (unR gf gn 5)) (nxF gf gn gq134)).2.2 (M148.1 98 11).toInt (M148.1 98 6).toInt (M153.1 98 11).toInt (M153.1 98 6).toInt (by omega) (by omega) (by omega)
        refine j_goto C 5 dX12_readTruth_26 (by decide) ?_
        have u156x := xw_a (M := M148) (N := M153) (c := 3008) (r := 2) (e := (-1)) (FR.cell fM153 (by decide)) (ap_bin ⟨(INV.rd hM148 (i := 102) (c := 48) (k := 280) rfl rfl).1, by omega, by omega⟩) (by omega)
        have u156t := xw_t (M := M0) (N := M148) (P := M153) (r1 := 0) (e1 := 2) (s1 := 1) (r2 := 2) (e2 := (-1)) (s2 := (-1)) 0 1 0 (by decide) (by omega) (by omega)
        have u156i := ri_c (M := M148) (N := M153) (FR.cell fM153 (by decide)) (by omega)
        have u156l := ri_l (M := M153) (by omega)
        have u156L := ll_w (luP gf gn 1014 1014 (boP gf gn (unR gf gn 5))) gn ((boP gf gn (unR gf gn 5)) gi).2.2 ((boP gf gn (unR gf gn 5)) (nxF gf gn gq134)).2.2 (0 + 1) 0 (M103.1 98 11).toInt (M103.1 98 12).toInt (M153.1 98 11).toInt (M153.1 98 12).toInt (M153.1 98 6).toInt (by decide) (ll_s gf gn 1014 1014 (boP gf gn (unR gf gn 5)) ((boP gf gn (unR gf gn 5)) gi).2.2 gq134 0 (M103.1 98 11).toInt (M103.1 98 12).toInt (M133.1 98 11).toInt (M133.1 98 12).toInt (M133.1 98 6).toInt (M140.1 98 11).toInt (M140.1 98 12).toInt (M148.1 98 11).toInt (M148.1 98 12).toInt (M148.1 98 6).toInt (M153.1 98 11).toInt (M153.1 98 12).toInt (M153.1 98 6).toInt (by decide) (bo_g gf gn (unR_g gf gn 5)) (by omega) (by omega) (by omega) (by omega) (by omega) (by omega) (by omega) (by omega) (by omega))
        have zz98_8 : (M153.1 98 8).toInt = (M148.1 98 8).toInt := s_fF fM153 (by decide) (rfl); have zz98_6 : (M153.1 98 6).toInt = (M148.1 98 6).toInt := s_fF fM153 (by decide) (rfl); have zz98_12 : (M153.1 98 12).toInt = (M148.1 98 12).toInt := s_fF fM153 (by decide) (rfl); have zz98_11 : (M153.1 98 11).toInt = (M148.1 98 11).toInt := s_fF fM153 (by decide) (rfl); exact ih131 M153 ((boP gf gn (unR gf gn 5)) (nxF gf gn gq134)).2.2 (by omega) hM153 ((((FR.rf.tr fM133 (by decide)).tr fM140 (by decide)).tr fM148 (by decide)).tr fM153 (by decide))
  exact L132 2010 M103 ((boP gf gn (unR gf gn 5)) gi).2.2 (by omega) hM103 (FR.rf.tr fM103 (by decide))
set_option maxHeartbeats 4000000 in
theorem s7_X12_readUnit {l : Launch} {dC : Nat → ClassId} {dI : Nat → Nat → Nat} {ad : Nat → Nat} {cA : Nat → ClassId} {pr : Nat → Nat → Bool} {Kz : mm_M} {M0 : mm_M} (hM0 : INV pr Kz M0) (hpr : PM pr) (gf : Nat → Int) (gn : Int) (gi : Int) (hp0 : b01 (RIP M0) = 1) (hp1 : b01 (CA M0) = 1) (hp2 : b01 (TKM gf gn M0) = 1) (hp3 : b01 (PO gn gi (M0.1 98 11).toInt (M0.1 98 6).toInt) = 1) (hp4 : b01 (PI M0) = 1) : Cv l 28 yX12_readUnit wsX12_readUnit dC dI ad cA [.ref (ad 98), .int (sI 0)] M0 (fun M' => INV pr Kz M' ∧ FR [98, 102] M0 M' ∧ (b01 (RIP M') = 1) ∧ ((M'.1 98 8).toInt = (M0.1 98 8).toInt) ∧ ((M0.1 98 6).toInt ≤ (M'.1 98 6).toInt) ∧ (b01 (XW M0 M' 0 1 0) = 1) ∧ (b01 (CA M') = 1) ∧ (b01 (PI M') = 1) ∧ (b01 (TKM gf gn M') = 1) ∧ b01 (RR ((unR gf gn 6) gi) (M0.1 98 11).toInt (M0.1 98 12).toInt (M'.1 98 11).toInt (M'.1 98 12).toInt (M'.1 98 6).toInt) = 1) := by
  refine cv_of (cc := cX12_readUnit) (maxL := 3) (lv := [(0, .ref (ad 98)), (1, .int (sI 0))]) (by decide) rfl (Nat.le_of_ble_eq_true rfl) rfl ?_
  intro p e s m args below meth c A Q C hret
  have u101z := xw_0 M0
  have u101l := ri_l (M := M0) (by omega)
  refine j_aload_n C 0 0 dX12_readUnit_0 rfl rfl ?_
  refine y_bipush C dX12_readUnit_1 rfl ?_
  have k102 := tkm_K (f := gf) (n := gn) (M := M0) (by omega)
  have k103 := kd_2 (kdk_16 gf gn (M0.1 98 6).toInt) (by omega)
  refine j_callVi C (d := 0) (As := [.int (sI 16)]) (st := []) 98 (s_lt rfl rfl) (s_kc (c := 11) rfl rfl) (by decide) rfl (s1_X12_is hM0 16 (by omega)) gX12_readUnit_X12_is rfl hdX12_is (by decide) (Nat.le_of_ble_eq_true rfl) dX12_readUnit_3 rfl (fun r104 M105 h106 => ?_)
  obtain ⟨a108, rfl, rfl, h107⟩ := h106
  refine y_if_eq C 33 dX12_readUnit_6 (by decide) (by omega) (fun h109 => ?_) (fun h109 => ?_)
  · refine j_aload_n C 0 0 dX12_readUnit_33 rfl rfl ?_
    refine y_bipush C dX12_readUnit_34 rfl ?_
    have k110 := tkm_K (f := gf) (n := gn) (M := M0) (by omega)
    have k111 := kd_2 (kdk_37 gf gn (M0.1 98 6).toInt) (by omega)
    refine j_callVi C (d := 0) (As := [.int (sI 37)]) (st := []) 98 (s_lt rfl rfl) (s_kc (c := 11) rfl rfl) (by decide) rfl (s1_X12_is hM0 37 (by omega)) gX12_readUnit_X12_is rfl hdX12_is (by decide) (Nat.le_of_ble_eq_true rfl) dX12_readUnit_36 rfl (fun r112 M113 h114 => ?_)
    obtain ⟨a116, rfl, rfl, h115⟩ := h114
    refine y_if_eq C 73 dX12_readUnit_39 (by decide) (by omega) (fun h117 => ?_) (fun h117 => ?_)
    · refine j_aload_n C 0 0 dX12_readUnit_73 rfl rfl ?_
      refine j_iload_n C 1 1 dX12_readUnit_74 rfl rfl ?_
      refine j_callVv C (d := 27) (As := [.int (sI 0)]) (st := []) 98 (s_lt rfl rfl) (s_kc (c := 11) rfl rfl) (by decide) rfl (s7_X12_readSum hM0 hpr gf gn gi (by omega) (by omega) (by omega) (by omega) (by omega)) gX12_readUnit_X12_readSum rfl hdX12_readSum (by decide) (Nat.le_of_ble_eq_true rfl) dX12_readUnit_75 rfl (fun M119 h120 => ?_)
      obtain ⟨hM119, fM119, h121⟩ := h120
      have bM119 := tkm_b (f := gf) (n := gn) (M := M119) (by omega)
      have qM119 := po_rr (suR gf gn 6) gn gi (M0.1 98 11).toInt (M0.1 98 12).toInt (M0.1 98 6).toInt (M119.1 98 11).toInt (M119.1 98 12).toInt (M119.1 98 6).toInt (suR_g gf gn 6) (by omega) (by omega)
      have u122l := ri_l (M := M119) (by omega)
      refine j_aload_n C 0 0 dX12_readUnit_78 rfl rfl ?_
      refine y_bipush C dX12_readUnit_79 rfl ?_
      have k123 := tkm_K (f := gf) (n := gn) (M := M119) (by omega)
      have k124 := kd_2 (kdk_39 gf gn (M119.1 98 6).toInt) (by omega)
      refine j_callVi C (d := 0) (As := [.int (sI 39)]) (st := []) 98 (s_lt rfl rfl) (s_kc (c := 11) rfl rfl) (by decide) rfl (s1_X12_is hM119 39 (by omega)) gX12_readUnit_X12_is rfl hdX12_is (by decide) (Nat.le_of_ble_eq_true rfl) dX12_readUnit_81 rfl (fun r125 M126 h127 => ?_)
      obtain ⟨a129, rfl, rfl, h128⟩ := h127
      have J140 : ∀ (a139 : Int), (3003 ≤ a139 ∧ a139 ≤ 3005) → jj p l e (cn_R 28) s m args below meth c 0 0 Q 3 dC dI ad cA A M119 111 [(0, .ref (ad 98)), (1, .int (sI 0))] [.int (sI a139)] := by
        intro a139 h141
        refine j_istore_n C 2 [(2, .int (sI a139)), (0, .ref (ad 98)), (1, .int (sI 0))] dX12_readUnit_111 rfl (by decide) rfl ?_
        refine j_aload_n C 1 0 dX12_readUnit_112 rfl rfl ?_
        refine y_bipush C dX12_readUnit_113 rfl ?_
        have k142 := tkm_K (f := gf) (n := gn) (M := M119) (by omega)
        have k143 := kd_2 (kdk_39 gf gn (M119.1 98 6).toInt) (by omega)
        refine j_callVi C (d := 0) (As := [.int (sI 39)]) (st := []) 98 (s_lt rfl rfl) (s_kc (c := 11) rfl rfl) (by decide) rfl (s1_X12_is hM119 39 (by omega)) gX12_readUnit_X12_is rfl hdX12_is (by decide) (Nat.le_of_ble_eq_true rfl) dX12_readUnit_115 rfl (fun r144 M145 h146 => ?_)
        obtain ⟨a148, rfl, rfl, h147⟩ := h146
        have J196 : ∀ (M195 : mm_M), ((b01 (RIP M195) = 1) ∧ ((M195.1 98 8).toInt = (M0.1 98 8).toInt) ∧ ((M0.1 98 6).toInt ≤ (M195.1 98 6).toInt) ∧ (b01 (XW M0 M195 0 1 1) = 1) ∧ (b01 (RR ((sjP gf gn 6) gi) (M0.1 98 11).toInt (M0.1 98 12).toInt (M195.1 98 11).toInt (M195.1 98 12).toInt (M195.1 98 6).toInt) = 1) ∧ (b01 (TKM gf gn M195) = 1) ∧ (b01 (PO gn ((sjP gf gn 6) gi).2.2 (M195.1 98 11).toInt (M195.1 98 6).toInt) = 1) ∧ (b01 (PI M195) = 1)) → INV pr Kz M195 → FR [98, 102] M0 M195 → jj p l e (cn_R 28) s m args below meth c 0 0 Q 3 dC dI ad cA A M195 151 [(0, .ref (ad 98)), (1, .int (sI 0)), (2, .int (sI a139))] [] := by
          intro M195 h197 hM195 fM195
          have u199a := ca_x (M := M0) (N := M195) (r := 0) (e := 1) (s := 1) (by decide) (by omega) (by omega)
          have u199l := ri_l (M := M195) (by omega)
          refine j_aload_n C 0 0 dX12_readUnit_151 rfl rfl ?_
          refine j_iload_n C 1 1 dX12_readUnit_152 rfl rfl ?_
          refine j_callVv C (d := 27) (As := [.int (sI 0)]) (st := []) 98 (s_lt rfl rfl) (s_kc (c := 11) rfl rfl) (by decide) rfl (s7_X12_readSum hM195 hpr gf gn ((sjP gf gn 6) gi).2.2 (by omega) (by omega) (by omega) (by omega) (by omega)) gX12_readUnit_X12_readSum rfl hdX12_readSum (by decide) (Nat.le_of_ble_eq_true rfl) dX12_readUnit_153 rfl (fun M201 h202 => ?_)
          obtain ⟨hM201, fM201, h203⟩ := h202
          have bM201 := tkm_b (f := gf) (n := gn) (M := M201) (by omega)
          have qM201 := po_rr (suR gf gn 6) gn ((sjP gf gn 6) gi).2.2 (M195.1 98 11).toInt (M195.1 98 12).toInt (M195.1 98 6).toInt (M201.1 98 11).toInt (M201.1 98 12).toInt (M201.1 98 6).toInt (suR_g gf gn 6) (by omega) (by omega)
          have u204t := xw_t (M := M0) (N := M195) (P := M201) (r1 := 0) (e1 := 1) (s1 := 1) (r2 := 0) (e2 := 1) (s2 := 0) 0 2 1 (by decide) (by omega) (by omega)
          have u204l := ri_l (M := M201) (by omega)
          have u204b := cb_x (M := M0) (N := M201) (r := 0) (e := 2) (s := 1) (by decide) (by omega) (by omega) (by omega)
          refine j_aload_n C 0 0 dX12_readUnit_156 rfl rfl ?_
          refine j_iload_n C 2 2 dX12_readUnit_157 rfl rfl ?_
          refine j_callVv C (d := 0) (As := [.int (sI a139)]) (st := []) 98 (s_lt rfl rfl) (s_kc (c := 11) rfl rfl) (by decide) rfl (s1_X12_codes hM201 hpr a139 (by omega) gf gn ((suR gf gn 6) ((sjP gf gn 6) gi).2.2).2.2 (by omega) (by omega) (by omega) (by omega)) gX12_readUnit_X12_codes rfl hdX12_codes (by decide) (Nat.le_of_ble_eq_true rfl) dX12_readUnit_158 rfl (fun M206 h207 => ?_)
          obtain ⟨hM206, fM206, h208⟩ := h207
          have bM206 := tkm_b (f := gf) (n := gn) (M := M206) (by omega)
          have qM206 := po_eq gn ((suR gf gn 6) ((sjP gf gn 6) gi).2.2).2.2 (M201.1 98 11).toInt (M201.1 98 6).toInt (M206.1 98 11).toInt (M206.1 98 6).toInt (by omega) (by omega) (by omega)
          have u209x := xw_a (M := M201) (N := M206) (c := a139) (r := 2) (e := (-1)) (FR.cell fM206 (by decide)) (ap_bin ⟨(INV.rd hM201 (i := 102) (c := 48) (k := 280) rfl rfl).1, by omega, by omega⟩) (by omega)
          have u209t := xw_t (M := M0) (N := M201) (P := M206) (r1 := 0) (e1 := 2) (s1 := 1) (r2 := 2) (e2 := (-1)) (s2 := (-1)) 0 1 0 (by decide) (by omega) (by omega)
          have u209i := ri_c (M := M201) (N := M206) (FR.cell fM206 (by decide)) (by omega)
          have u209l := ri_l (M := M206) (by omega)
          have u209a := ca_x (M := M0) (N := M206) (r := 0) (e := 1) (s := 0) (by decide) (by omega) (by omega)
          have u210r := un_6 gf gn 6 gi (M0.1 98 11).toInt (M0.1 98 12).toInt (M0.1 98 6).toInt (M195.1 98 11).toInt (M195.1 98 12).toInt (M195.1 98 6).toInt (M201.1 98 11).toInt (M201.1 98 12).toInt (M201.1 98 6).toInt (M206.1 98 11).toInt (M206.1 98 12).toInt (M206.1 98 6).toInt (by omega) (by omega) (by omega) (by omega) (by omega) (by omega) (by omega)
          have zz98_11 : (M206.1 98 11).toInt = (M201.1 98 11).toInt := s_fF fM206 (by decide) (rfl); have zz98_12 : (M206.1 98 12).toInt = (M201.1 98 12).toInt := s_fF fM206 (by decide) (rfl); have zz98_6 : (M206.1 98 6).toInt = (M201.1 98 6).toInt := s_fF fM206 (by decide) (rfl); have zz98_8 : (M206.1 98 8).toInt = (M201.1 98 8).toInt := s_fF fM206 (by decide) (rfl); exact hret _ _ _ dX12_readUnit_161 ⟨hM206, (((FR.rf.tr fM195 (by decide)).tr fM201 (by decide)).tr fM206 (by decide)), by omega⟩
        refine y_if_ne C 139 dX12_readUnit_118 (by decide) (by omega) (fun h149 => ?_) (fun h149 => ?_)
        · have u150k := ri_k (M := M119) (by omega) (by omega)
          refine j_aload_n C 1 0 dX12_readUnit_139 rfl rfl ?_
          have k151 := tkm_p (f := gf) (n := gn) (M := M119) (by omega)
          have k152 := tkm_K (f := gf) (n := gn) (M := M119) (by omega)
          refine j_callVv C (d := 5) (As := []) (st := []) 98 (s_lt rfl rfl) (s_kc (c := 11) rfl rfl) (by decide) rfl (s1_X12_next hM119 hpr gf gn (by omega) (by omega) (by omega) (by omega)) gX12_readUnit_X12_next rfl hdX12_next (by decide) (Nat.le_of_ble_eq_true rfl) dX12_readUnit_140 rfl (fun M154 h155 => ?_)
          obtain ⟨hM154, fM154, h156⟩ := h155
          have bM154 := tkm_b (f := gf) (n := gn) (M := M154) (by omega)
          have qM154 := nx_po (f := gf) (n := gn) (i := ((suR gf gn 6) gi).2.2) (M := M119) (M' := M154) (by omega) (by omega) (by omega) (by omega) (by omega)
          refine j_goto C 151 dX12_readUnit_143 (by decide) ?_
          have u157c := xw_c (N := M119) (P := M154) 1 (FR.cell fM154 (by decide)) (by omega)
          have u157t := xw_t (M := M0) (N := M119) (P := M154) (r1 := 0) (e1 := 1) (s1 := 0) (r2 := 0) (e2 := 0) (s2 := 1) 0 1 1 (by decide) (by omega) (by omega)
          have u157l := ri_l (M := M154) (by omega)
          have u157J := cj_1 gf gn 6 gi (M0.1 98 11).toInt (M0.1 98 12).toInt (M119.1 98 11).toInt (M119.1 98 12).toInt (M119.1 98 6).toInt (M154.1 98 11).toInt (M154.1 98 12).toInt (M154.1 98 6).toInt (by omega) (by omega) (by omega) (by omega) (by omega) (by omega) (by omega)
          have u157P := po_rr (sjP gf gn 6) gn gi (M0.1 98 11).toInt (M0.1 98 12).toInt (M0.1 98 6).toInt (M154.1 98 11).toInt (M154.1 98 12).toInt (M154.1 98 6).toInt (sj_g gf gn 6) (by omega) (by omega)
          refine j_lv [1, 2, 0] rfl ?_; exact J196 M154 (by omega) hM154 ((FR.rf.tr fM119 (by decide)).tr fM154 (by decide))
        · refine j_aload_n C 1 0 dX12_readUnit_121 rfl rfl ?_
          refine y_bipush C dX12_readUnit_122 rfl ?_
          have k158 := tkm_K (f := gf) (n := gn) (M := M119) (by omega)
          have k159 := kd_2 (kdk_40 gf gn (M119.1 98 6).toInt) (by omega)
          refine j_callVi C (d := 0) (As := [.int (sI 40)]) (st := []) 98 (s_lt rfl rfl) (s_kc (c := 11) rfl rfl) (by decide) rfl (s1_X12_is hM119 40 (by omega)) gX12_readUnit_X12_is rfl hdX12_is (by decide) (Nat.le_of_ble_eq_true rfl) dX12_readUnit_124 rfl (fun r160 M161 h162 => ?_)
          obtain ⟨a164, rfl, rfl, h163⟩ := h162
          refine y_if_ne C 139 dX12_readUnit_127 (by decide) (by omega) (fun h165 => ?_) (fun h165 => ?_)
          · have u166k := ri_k (M := M119) (by omega) (by omega)
            refine j_aload_n C 1 0 dX12_readUnit_139 rfl rfl ?_
            have k167 := tkm_p (f := gf) (n := gn) (M := M119) (by omega)
            have k168 := tkm_K (f := gf) (n := gn) (M := M119) (by omega)
            refine j_callVv C (d := 5) (As := []) (st := []) 98 (s_lt rfl rfl) (s_kc (c := 11) rfl rfl) (by decide) rfl (s1_X12_next hM119 hpr gf gn (by omega) (by omega) (by omega) (by omega)) gX12_readUnit_X12_next rfl hdX12_next (by decide) (Nat.le_of_ble_eq_true rfl) dX12_readUnit_140 rfl (fun M170 h171 => ?_)
            obtain ⟨hM170, fM170, h172⟩ := h171
            have bM170 := tkm_b (f := gf) (n := gn) (M := M170) (by omega)
            have qM170 := nx_po (f := gf) (n := gn) (i := ((suR gf gn 6) gi).2.2) (M := M119) (M' := M170) (by omega) (by omega) (by omega) (by omega) (by omega)
            refine j_goto C 151 dX12_readUnit_143 (by decide) ?_
            have u173c := xw_c (N := M119) (P := M170) 1 (FR.cell fM170 (by decide)) (by omega)
            have u173t := xw_t (M := M0) (N := M119) (P := M170) (r1 := 0) (e1 := 1) (s1 := 0) (r2 := 0) (e2 := 0) (s2 := 1) 0 1 1 (by decide) (by omega) (by omega)
            have u173l := ri_l (M := M170) (by omega)
            have u173J := cj_1 gf gn 6 gi (M0.1 98 11).toInt (M0.1 98 12).toInt (M119.1 98 11).toInt (M119.1 98 12).toInt (M119.1 98 6).toInt (M170.1 98 11).toInt (M170.1 98 12).toInt (M170.1 98 6).toInt (by omega) (by omega) (by omega) (by omega) (by omega) (by omega) (by omega)
            have u173P := po_rr (sjP gf gn 6) gn gi (M0.1 98 11).toInt (M0.1 98 12).toInt (M0.1 98 6).toInt (M170.1 98 11).toInt (M170.1 98 12).toInt (M170.1 98 6).toInt (sj_g gf gn 6) (by omega) (by omega)
            refine j_lv [1, 2, 0] rfl ?_; exact J196 M170 (by omega) hM170 ((FR.rf.tr fM119 (by decide)).tr fM170 (by decide))
          · refine j_aload_n C 1 0 dX12_readUnit_130 rfl rfl ?_
            refine y_bipush C dX12_readUnit_131 rfl ?_
            have k174 := tkm_K (f := gf) (n := gn) (M := M119) (by omega)
            have k175 := kd_2 (kdk_41 gf gn (M119.1 98 6).toInt) (by omega)
            refine j_callVi C (d := 0) (As := [.int (sI 41)]) (st := []) 98 (s_lt rfl rfl) (s_kc (c := 11) rfl rfl) (by decide) rfl (s1_X12_is hM119 41 (by omega)) gX12_readUnit_X12_is rfl hdX12_is (by decide) (Nat.le_of_ble_eq_true rfl) dX12_readUnit_133 rfl (fun r176 M177 h178 => ?_)
            obtain ⟨a180, rfl, rfl, h179⟩ := h178
            refine y_if_eq C 146 dX12_readUnit_136 (by decide) (by omega) (fun h181 => ?_) (fun h181 => ?_)
            · refine j_aload_n C 1 0 dX12_readUnit_146 rfl rfl ?_
              refine y_iconst C dX12_readUnit_147 ?_
              refine j_callVv C (d := 0) (As := [.int (sI 2)]) (st := []) 98 (s_lt rfl rfl) (s_kc (c := 11) rfl rfl) (by decide) rfl (s1_X12_fails hM119 hpr 2 (by omega) gf gn ((suR gf gn 6) gi).2.2 (by omega) (by omega) (by omega) (by omega) (by omega)) gX12_readUnit_X12_fails rfl hdX12_fails (by decide) (Nat.le_of_ble_eq_true rfl) dX12_readUnit_148 rfl (fun M183 h184 => ?_)
              obtain ⟨hM183, fM183, h185⟩ := h184
              have bM183 := tkm_b (f := gf) (n := gn) (M := M183) (by omega)
              have qM183 := po_f gn ((faQ gf gn 2) ((suR gf gn 6) gi).2.2).2.2 (M183.1 98 11).toInt (M183.1 98 6).toInt (by omega)
              have u186f : b01 (XW M0 M183 0 1 1) = 1 := b01_i (Or.inl (by omega))
              have u186l := ri_l (M := M183) (by omega)
              have u186J := cj_2 gf gn 6 gi (M0.1 98 11).toInt (M0.1 98 12).toInt (M119.1 98 11).toInt (M119.1 98 12).toInt (M119.1 98 6).toInt (M183.1 98 11).toInt (M183.1 98 12).toInt (M183.1 98 6).toInt (by omega) (by omega) (by omega) (by omega)
              have u186P := po_rr (sjP gf gn 6) gn gi (M0.1 98 11).toInt (M0.1 98 12).toInt (M0.1 98 6).toInt (M183.1 98 11).toInt (M183.1 98 12).toInt (M183.1 98 6).toInt (sj_g gf gn 6) (by omega) (by omega)
              refine j_lv [1, 2, 0] rfl ?_; exact J196 M183 (by omega) hM183 ((FR.rf.tr fM119 (by decide)).tr fM183 (by decide))
            · have u187k := ri_k (M := M119) (by omega) (by omega)
              refine j_aload_n C 1 0 dX12_readUnit_139 rfl rfl ?_
              have k188 := tkm_p (f := gf) (n := gn) (M := M119) (by omega)
              have k189 := tkm_K (f := gf) (n := gn) (M := M119) (by omega)
              refine j_callVv C (d := 5) (As := []) (st := []) 98 (s_lt rfl rfl) (s_kc (c := 11) rfl rfl) (by decide) rfl (s1_X12_next hM119 hpr gf gn (by omega) (by omega) (by omega) (by omega)) gX12_readUnit_X12_next rfl hdX12_next (by decide) (Nat.le_of_ble_eq_true rfl) dX12_readUnit_140 rfl (fun M191 h192 => ?_)
              obtain ⟨hM191, fM191, h193⟩ := h192
              have bM191 := tkm_b (f := gf) (n := gn) (M := M191) (by omega)
              have qM191 := nx_po (f := gf) (n := gn) (i := ((suR gf gn 6) gi).2.2) (M := M119) (M' := M191) (by omega) (by omega) (by omega) (by omega) (by omega)
              refine j_goto C 151 dX12_readUnit_143 (by decide) ?_
              have u194c := xw_c (N := M119) (P := M191) 1 (FR.cell fM191 (by decide)) (by omega)
              have u194t := xw_t (M := M0) (N := M119) (P := M191) (r1 := 0) (e1 := 1) (s1 := 0) (r2 := 0) (e2 := 0) (s2 := 1) 0 1 1 (by decide) (by omega) (by omega)
              have u194l := ri_l (M := M191) (by omega)
              have u194J := cj_1 gf gn 6 gi (M0.1 98 11).toInt (M0.1 98 12).toInt (M119.1 98 11).toInt (M119.1 98 12).toInt (M119.1 98 6).toInt (M191.1 98 11).toInt (M191.1 98 12).toInt (M191.1 98 6).toInt (by omega) (by omega) (by omega) (by omega) (by omega) (by omega) (by omega)
              have u194P := po_rr (sjP gf gn 6) gn gi (M0.1 98 11).toInt (M0.1 98 12).toInt (M0.1 98 6).toInt (M191.1 98 11).toInt (M191.1 98 12).toInt (M191.1 98 6).toInt (sj_g gf gn 6) (by omega) (by omega)
              refine j_lv [1, 2, 0] rfl ?_; exact J196 M191 (by omega) hM191 ((FR.rf.tr fM119 (by decide)).tr fM191 (by decide))
      refine y_if_eq C 93 dX12_readUnit_84 (by decide) (by omega) (fun h130 => ?_) (fun h130 => ?_)
      · refine j_aload_n C 0 0 dX12_readUnit_93 rfl rfl ?_
        refine y_bipush C dX12_readUnit_94 rfl ?_
        have k131 := tkm_K (f := gf) (n := gn) (M := M119) (by omega)
        have k132 := kd_2 (kdk_40 gf gn (M119.1 98 6).toInt) (by omega)
        refine j_callVi C (d := 0) (As := [.int (sI 40)]) (st := []) 98 (s_lt rfl rfl) (s_kc (c := 11) rfl rfl) (by decide) rfl (s1_X12_is hM119 40 (by omega)) gX12_readUnit_X12_is rfl hdX12_is (by decide) (Nat.le_of_ble_eq_true rfl) dX12_readUnit_96 rfl (fun r133 M134 h135 => ?_)
        obtain ⟨a137, rfl, rfl, h136⟩ := h135
        refine y_if_eq C 108 dX12_readUnit_99 (by decide) (by omega) (fun h138 => ?_) (fun h138 => ?_)
        · refine y_sipush C dX12_readUnit_108 rfl ?_
          exact J140 3005 (by omega)
        · refine y_sipush C dX12_readUnit_102 rfl ?_
          refine j_goto C 111 dX12_readUnit_105 (by decide) ?_
          exact J140 3004 (by omega)
      · refine y_sipush C dX12_readUnit_87 rfl ?_
        refine j_goto C 111 dX12_readUnit_90 (by decide) ?_
        exact J140 3003 (by omega)
    · have u211k := ri_k (M := M0) (by omega) (by omega)
      refine j_aload_n C 0 0 dX12_readUnit_42 rfl rfl ?_
      refine j_iload_n C 1 1 dX12_readUnit_43 rfl rfl ?_
      refine j_callVi C (d := 6) (As := [.int (sI 0)]) (st := []) 98 (s_lt rfl rfl) (s_kc (c := 11) rfl rfl) (by decide) rfl (s1_X12_goesIn hM0 hpr gf gn gi (by omega) (by omega) (by omega) (by omega) (by omega) (by omega) (by omega)) gX12_readUnit_X12_goesIn rfl hdX12_goesIn (by decide) (Nat.le_of_ble_eq_true rfl) dX12_readUnit_44 rfl (fun r212 M213 h214 => ?_)
      obtain ⟨a216, rfl, hM213, fM213, h215⟩ := h214
      have bM213 := tkm_b (f := gf) (n := gn) (M := M213) (by omega)
      refine y_if_ne C 51 dX12_readUnit_47 (by decide) (by omega) (fun h217 => ?_) (fun h217 => ?_)
      · have u218c := xw_c (N := M0) (P := M213) 1 (FR.cell fM213 (by decide)) (by omega)
        have u218t := xw_t (M := M0) (N := M0) (P := M213) (r1 := 0) (e1 := 0) (s1 := 0) (r2 := 0) (e2 := 0) (s2 := 1) 0 0 1 (by decide) (by omega) (by omega)
        have u218a := ca_x (M := M0) (N := M213) (r := 0) (e := 0) (s := 1) (by decide) (by omega) (by omega)
        have u218l := ri_l (M := M213) (by omega)
        refine j_aload_n C 0 0 dX12_readUnit_51 rfl rfl ?_
        refine j_iload_n C 1 1 dX12_readUnit_52 rfl rfl ?_
        refine y_iconst C dX12_readUnit_53 ?_
        refine y_iadd C dX12_readUnit_54 ?_
        refine j_callVv C (d := 27) (As := [.int (sI (0 + 1))]) (st := []) 98 (s_lt rfl rfl) (s_kc (c := 11) rfl rfl) (by decide) rfl (s6_X12_readTruth hM213 hpr gf gn (nxF gf gn gi) (by omega) (by omega) (by omega) (by omega) (by omega)) gX12_readUnit_X12_readTruth rfl hdX12_readTruth (by decide) (Nat.le_of_ble_eq_true rfl) dX12_readUnit_55 rfl (fun M220 h221 => ?_)
        obtain ⟨hM220, fM220, h222⟩ := h221
        have bM220 := tkm_b (f := gf) (n := gn) (M := M220) (by omega)
        have qM220 := po_rr (trP gf gn (unR gf gn 5)) gn (nxF gf gn gi) (M213.1 98 11).toInt (M213.1 98 12).toInt (M213.1 98 6).toInt (M220.1 98 11).toInt (M220.1 98 12).toInt (M220.1 98 6).toInt (tr_g gf gn (unR_g gf gn 5)) (by omega) (by omega)
        have u223t := xw_t (M := M0) (N := M213) (P := M220) (r1 := 0) (e1 := 0) (s1 := 1) (r2 := 0) (e2 := 1) (s2 := 0) 0 1 1 (by decide) (by omega) (by omega)
        have u223l := ri_l (M := M220) (by omega)
        refine j_aload_n C 0 0 dX12_readUnit_58 rfl rfl ?_
        refine y_bipush C dX12_readUnit_59 rfl ?_
        have k224 := tkm_K (f := gf) (n := gn) (M := M220) (by omega)
        have k225 := kd_2 (kdk_38 gf gn (M220.1 98 6).toInt) (by omega)
        refine j_callVi C (d := 6) (As := [.int (sI 38)]) (st := []) 98 (s_lt rfl rfl) (s_kc (c := 11) rfl rfl) (by decide) rfl (s1_X12_eats hM220 hpr 38 (by omega) gf gn ((trP gf gn (unR gf gn 5)) (nxF gf gn gi)).2.2 (by omega) (by omega) (by omega) (by omega) (by omega)) gX12_readUnit_X12_eats rfl hdX12_eats (by decide) (Nat.le_of_ble_eq_true rfl) dX12_readUnit_61 rfl (fun r226 M227 h228 => ?_)
        obtain ⟨a230, rfl, hM227, fM227, h229⟩ := h228
        have k231 := tk_c gf gn (M227.1 98 6).toInt (M220.1 98 6).toInt
        have bM227 := tkm_b (f := gf) (n := gn) (M := M227) (by omega)
        have u232c := xw_c (N := M220) (P := M227) 0 (FR.cell fM227 (by decide)) (by omega)
        have u232t := xw_t (M := M0) (N := M220) (P := M227) (r1 := 0) (e1 := 1) (s1 := 1) (r2 := 0) (e2 := 0) (s2 := 0) 0 1 0 (by decide) (by omega) (by omega)
        have u232l := ri_l (M := M227) (by omega)
        refine y_if_ne C 72 dX12_readUnit_64 (by decide) (by omega) (fun h233 => ?_) (fun h233 => ?_)
        · have u234a := ca_x (M := M0) (N := M227) (r := 0) (e := 1) (s := 0) (by decide) (by omega) (by omega)
          have u235x := ex_1 gf gn 2093 ((trP gf gn (unR gf gn 5)) (nxF gf gn gi)).2.2 (M220.1 98 11).toInt (M220.1 98 12).toInt (M220.1 98 6).toInt (M227.1 98 11).toInt (M227.1 98 12).toInt (M227.1 98 6).toInt (by omega) (by omega) (by omega) (by omega) (by omega) (by omega)
          have u235r := un_2 gf gn 5 6 rfl gi (M0.1 98 11).toInt (M0.1 98 12).toInt (M0.1 98 6).toInt (M213.1 98 11).toInt (M213.1 98 12).toInt (M220.1 98 11).toInt (M220.1 98 12).toInt (M220.1 98 6).toInt (M227.1 98 11).toInt (M227.1 98 12).toInt (M227.1 98 6).toInt (by omega) (by omega) (by omega) (by omega) (by omega) (by omega)
          exact hret _ _ _ dX12_readUnit_72 ⟨hM227, (((FR.rf.tr fM213 (by decide)).tr fM220 (by decide)).tr fM227 (by decide)), by omega⟩
        · refine j_aload_n C 0 0 dX12_readUnit_67 rfl rfl ?_
          refine y_iconst C dX12_readUnit_68 ?_
          have p236 := po_eq gn ((trP gf gn (unR gf gn 5)) (nxF gf gn gi)).2.2 (M220.1 98 11).toInt (M220.1 98 6).toInt (M227.1 98 11).toInt (M227.1 98 6).toInt (by omega) (by omega) (by omega)
          refine j_callVv C (d := 0) (As := [.int (sI 2)]) (st := []) 98 (s_lt rfl rfl) (s_kc (c := 11) rfl rfl) (by decide) rfl (s1_X12_fails hM227 hpr 2 (by omega) gf gn ((trP gf gn (unR gf gn 5)) (nxF gf gn gi)).2.2 (by omega) (by omega) (by omega) (by omega) (by omega)) gX12_readUnit_X12_fails rfl hdX12_fails (by decide) (Nat.le_of_ble_eq_true rfl) dX12_readUnit_69 rfl (fun M238 h239 => ?_)
          obtain ⟨hM238, fM238, h240⟩ := h239
          have bM238 := tkm_b (f := gf) (n := gn) (M := M238) (by omega)
          have qM238 := po_f gn ((faQ gf gn 2) ((trP gf gn (unR gf gn 5)) (nxF gf gn gi)).2.2).2.2 (M238.1 98 11).toInt (M238.1 98 6).toInt (by omega)
          have u241f : b01 (XW M0 M238 0 1 0) = 1 := b01_i (Or.inl (by omega))
          have u241a := ca_x (M := M0) (N := M238) (r := 0) (e := 1) (s := 0) (by decide) (by omega) (by omega)
          have u242x := ex_2z gf gn 2093 ((trP gf gn (unR gf gn 5)) (nxF gf gn gi)).2.2 (M220.1 98 11).toInt (M220.1 98 12).toInt (M220.1 98 6).toInt (M238.1 98 11).toInt (M238.1 98 12).toInt (M238.1 98 6).toInt (by omega) (by omega) (rr_fr (faQ gf gn 2 ((trP gf gn (unR gf gn 5)) (nxF gf gn gi)).2.2) (M220.1 98 11).toInt (M220.1 98 12).toInt (M227.1 98 11).toInt (M227.1 98 12).toInt (M238.1 98 11).toInt (M238.1 98 12).toInt (M238.1 98 6).toInt (by omega) (by omega) (by omega))
          have u242r := un_2 gf gn 5 6 rfl gi (M0.1 98 11).toInt (M0.1 98 12).toInt (M0.1 98 6).toInt (M213.1 98 11).toInt (M213.1 98 12).toInt (M220.1 98 11).toInt (M220.1 98 12).toInt (M220.1 98 6).toInt (M238.1 98 11).toInt (M238.1 98 12).toInt (M238.1 98 6).toInt (by omega) (by omega) (by omega) (by omega) (by omega) (by omega)
          exact hret _ _ _ dX12_readUnit_72 ⟨hM238, ((((FR.rf.tr fM213 (by decide)).tr fM220 (by decide)).tr fM227 (by decide)).tr fM238 (by decide)), by omega⟩
      · exfalso; omega
  · have u243k := ri_k (M := M0) (by omega) (by omega)
    refine j_aload_n C 0 0 dX12_readUnit_9 rfl rfl ?_
    refine j_iload_n C 1 1 dX12_readUnit_10 rfl rfl ?_
    refine j_callVi C (d := 6) (As := [.int (sI 0)]) (st := []) 98 (s_lt rfl rfl) (s_kc (c := 11) rfl rfl) (by decide) rfl (s1_X12_goesIn hM0 hpr gf gn gi (by omega) (by omega) (by omega) (by omega) (by omega) (by omega) (by omega)) gX12_readUnit_X12_goesIn rfl hdX12_goesIn (by decide) (Nat.le_of_ble_eq_true rfl) dX12_readUnit_11 rfl (fun r244 M245 h246 => ?_)
    obtain ⟨a248, rfl, hM245, fM245, h247⟩ := h246
    have bM245 := tkm_b (f := gf) (n := gn) (M := M245) (by omega)
    refine y_if_ne C 18 dX12_readUnit_14 (by decide) (by omega) (fun h249 => ?_) (fun h249 => ?_)
    · have u250c := xw_c (N := M0) (P := M245) 1 (FR.cell fM245 (by decide)) (by omega)
      have u250t := xw_t (M := M0) (N := M0) (P := M245) (r1 := 0) (e1 := 0) (s1 := 0) (r2 := 0) (e2 := 0) (s2 := 1) 0 0 1 (by decide) (by omega) (by omega)
      have u250a := ca_x (M := M0) (N := M245) (r := 0) (e := 0) (s := 1) (by decide) (by omega) (by omega)
      have u250l := ri_l (M := M245) (by omega)
      refine j_aload_n C 0 0 dX12_readUnit_18 rfl rfl ?_
      refine j_iload_n C 1 1 dX12_readUnit_19 rfl rfl ?_
      refine y_iconst C dX12_readUnit_20 ?_
      refine y_iadd C dX12_readUnit_21 ?_
      refine j_callVv C (d := 25) (As := [.int (sI (0 + 1))]) (st := []) 98 (s_lt rfl rfl) (s_kc (c := 11) rfl rfl) (by decide) rfl (s6_X12_readUnit hM245 hpr gf gn (nxF gf gn gi) (by omega) (by omega) (by omega) (by omega) (by omega)) gX12_readUnit_X12_readUnit rfl hdX12_readUnit (by decide) (Nat.le_of_ble_eq_true rfl) dX12_readUnit_22 rfl (fun M252 h253 => ?_)
      obtain ⟨hM252, fM252, h254⟩ := h253
      have bM252 := tkm_b (f := gf) (n := gn) (M := M252) (by omega)
      have qM252 := po_rr (unR gf gn 5) gn (nxF gf gn gi) (M245.1 98 11).toInt (M245.1 98 12).toInt (M245.1 98 6).toInt (M252.1 98 11).toInt (M252.1 98 12).toInt (M252.1 98 6).toInt (unR_g gf gn 5) (by omega) (by omega)
      have u255t := xw_t (M := M0) (N := M245) (P := M252) (r1 := 0) (e1 := 0) (s1 := 1) (r2 := 0) (e2 := 1) (s2 := 0) 0 1 1 (by decide) (by omega) (by omega)
      have u255l := ri_l (M := M252) (by omega)
      have u255b := cb_x (M := M0) (N := M252) (r := 0) (e := 1) (s := 1) (by decide) (by omega) (by omega) (by omega)
      refine j_aload_n C 0 0 dX12_readUnit_25 rfl rfl ?_
      refine y_sipush C dX12_readUnit_26 rfl ?_
      refine j_callVv C (d := 0) (As := [.int (sI 3006)]) (st := []) 98 (s_lt rfl rfl) (s_kc (c := 11) rfl rfl) (by decide) rfl (s1_X12_codes hM252 hpr 3006 (by omega) gf gn ((unR gf gn 5) (nxF gf gn gi)).2.2 (by omega) (by omega) (by omega) (by omega)) gX12_readUnit_X12_codes rfl hdX12_codes (by decide) (Nat.le_of_ble_eq_true rfl) dX12_readUnit_29 rfl (fun M257 h258 => ?_)
      obtain ⟨hM257, fM257, h259⟩ := h258
      have bM257 := tkm_b (f := gf) (n := gn) (M := M257) (by omega)
      have qM257 := po_eq gn ((unR gf gn 5) (nxF gf gn gi)).2.2 (M252.1 98 11).toInt (M252.1 98 6).toInt (M257.1 98 11).toInt (M257.1 98 6).toInt (by omega) (by omega) (by omega)
      have u260x := xw_a (M := M252) (N := M257) (c := 3006) (r := 1) (e := 0) (FR.cell fM257 (by decide)) (ap_not (INV.rd hM252 (i := 102) (c := 48) (k := 280) rfl rfl).1) (by omega)
      have u260t := xw_t (M := M0) (N := M252) (P := M257) (r1 := 0) (e1 := 1) (s1 := 1) (r2 := 1) (e2 := 0) (s2 := (-1)) 0 1 0 (by decide) (by omega) (by omega)
      have u260i := ri_c (M := M252) (N := M257) (FR.cell fM257 (by decide)) (by omega)
      have u260l := ri_l (M := M257) (by omega)
      have u260a := ca_x (M := M0) (N := M257) (r := 0) (e := 1) (s := 0) (by decide) (by omega) (by omega)
      have u261r := un_1 gf gn 5 6 rfl gi (M0.1 98 11).toInt (M0.1 98 12).toInt (M0.1 98 6).toInt (M245.1 98 11).toInt (M245.1 98 12).toInt (M252.1 98 11).toInt (M252.1 98 12).toInt (M252.1 98 6).toInt (M257.1 98 11).toInt (M257.1 98 12).toInt (M257.1 98 6).toInt (by omega) (by omega) (by omega) (by omega) (by omega) (by omega) (by omega) (by omega)
      have zz98_11 : (M257.1 98 11).toInt = (M252.1 98 11).toInt := s_fF fM257 (by decide) (rfl); have zz98_12 : (M257.1 98 12).toInt = (M252.1 98 12).toInt := s_fF fM257 (by decide) (rfl); have zz98_6 : (M257.1 98 6).toInt = (M252.1 98 6).toInt := s_fF fM257 (by decide) (rfl); have zz98_8 : (M257.1 98 8).toInt = (M252.1 98 8).toInt := s_fF fM257 (by decide) (rfl); exact hret _ _ _ dX12_readUnit_32 ⟨hM257, (((FR.rf.tr fM245 (by decide)).tr fM252 (by decide)).tr fM257 (by decide)), by omega⟩
    · exfalso; omega
set_option maxHeartbeats 4000000 in
theorem s7_X12_readBoth {l : Launch} {dC : Nat → ClassId} {dI : Nat → Nat → Nat} {ad : Nat → Nat} {cA : Nat → ClassId} {pr : Nat → Nat → Bool} {Kz : mm_M} {M0 : mm_M} (hM0 : INV pr Kz M0) (hpr : PM pr) (gf : Nat → Int) (gn : Int) (gi : Int) (hp0 : b01 (RIP M0) = 1) (hp1 : b01 (CA M0) = 1) (hp2 : b01 (TKM gf gn M0) = 1) (hp3 : b01 (PO gn gi (M0.1 98 11).toInt (M0.1 98 6).toInt) = 1) (hp4 : b01 (PI M0) = 1) : Cv l 29 yX12_readBoth wsX12_readBoth dC dI ad cA [.ref (ad 98), .int (sI 0)] M0 (fun M' => INV pr Kz M' ∧ FR [98, 102] M0 M' ∧ (b01 (RIP M') = 1) ∧ ((M'.1 98 8).toInt = (M0.1 98 8).toInt) ∧ ((M0.1 98 6).toInt ≤ (M'.1 98 6).toInt) ∧ (b01 (XW M0 M' 0 1 0) = 1) ∧ (b01 (CA M') = 1) ∧ (b01 (PI M') = 1) ∧ (b01 (TKM gf gn M') = 1) ∧ b01 (RR ((boP gf gn (unR gf gn 6)) gi) (M0.1 98 11).toInt (M0.1 98 12).toInt (M'.1 98 11).toInt (M'.1 98 12).toInt (M'.1 98 6).toInt) = 1) := by
  refine cv_of (cc := cX12_readBoth) (maxL := 2) (lv := [(0, .ref (ad 98)), (1, .int (sI 0))]) (by decide) rfl (Nat.le_of_ble_eq_true rfl) rfl ?_
  intro p e s m args below meth c A Q C hret
  have u101z := xw_0 M0
  have u101l := ri_l (M := M0) (by omega)
  refine j_aload_n C 0 0 dX12_readBoth_0 rfl rfl ?_
  refine j_iload_n C 1 1 dX12_readBoth_1 rfl rfl ?_
  refine j_callVv C (d := 28) (As := [.int (sI 0)]) (st := []) 98 (s_lt rfl rfl) (s_kc (c := 11) rfl rfl) (by decide) rfl (s7_X12_readUnit hM0 hpr gf gn gi (by omega) (by omega) (by omega) (by omega) (by omega)) gX12_readBoth_X12_readUnit rfl hdX12_readUnit (by decide) (Nat.le_of_ble_eq_true rfl) dX12_readBoth_2 rfl (fun M103 h104 => ?_)
  obtain ⟨hM103, fM103, h105⟩ := h104
  have bM103 := tkm_b (f := gf) (n := gn) (M := M103) (by omega)
  have qM103 := po_rr (unR gf gn 6) gn gi (M0.1 98 11).toInt (M0.1 98 12).toInt (M0.1 98 6).toInt (M103.1 98 11).toInt (M103.1 98 12).toInt (M103.1 98 6).toInt (unR_g gf gn 6) (by omega) (by omega)
  have u106l := ri_l (M := M103) (by omega)
  have u106L := ll_0 (luP gf gn 1015 1015 (unR gf gn 6)) gn ((unR gf gn 6) gi).2.2 (M103.1 98 11).toInt (M103.1 98 12).toInt (M103.1 98 6).toInt (by omega)
  have L132 : ∀ (n130 : Nat), ∀ (M133 : mm_M) (gq134 : Int), ((b01 (RIP M133) = 1) ∧ ((M133.1 98 8).toInt = (M0.1 98 8).toInt) ∧ ((M0.1 98 6).toInt ≤ (M133.1 98 6).toInt) ∧ (b01 (XW M0 M133 0 1 0) = 1) ∧ ((M133.1 98 6).toInt ≤ 900) ∧ (b01 (LL (luP gf gn 1015 1015 (unR gf gn 6)) gn ((unR gf gn 6) gi).2.2 gq134 0 (M103.1 98 11).toInt (M103.1 98 12).toInt (M133.1 98 11).toInt (M133.1 98 12).toInt (M133.1 98 6).toInt) = 1) ∧ (b01 (TKM gf gn M133) = 1) ∧ (b01 (PO gn gq134 (M133.1 98 11).toInt (M133.1 98 6).toInt) = 1) ∧ (b01 (PI M133) = 1) ∧ (900 - (M133.1 98 6).toInt) < (n130 : Int)) → INV pr Kz M133 → FR [98, 102] M0 M133 → jj p l e (cn_R 29) s m args below meth c 0 0 Q 2 dC dI ad cA A M133 5 [(0, .ref (ad 98)), (1, .int (sI 0))] [] := by
    intro n130
    induction n130 with
    | zero =>
      intro M133 gq134 h135 hM133 fM133
      exfalso; omega
    | succ n130 ih131 =>
      intro M133 gq134 h135 hM133 fM133
      have u136l := ri_l (M := M133) (by omega)
      have u136B := tkm_b (f := gf) (n := gn) (M := M133) (by omega)
      refine j_aload_n C 0 0 dX12_readBoth_5 rfl rfl ?_
      refine y_bipush C dX12_readBoth_6 rfl ?_
      have k137 := tkm_K (f := gf) (n := gn) (M := M133) (by omega)
      have k138 := kd_2 (kdk_14 gf gn (M133.1 98 6).toInt) (by omega)
      refine j_callVi C (d := 6) (As := [.int (sI 14)]) (st := []) 98 (s_lt rfl rfl) (s_kc (c := 11) rfl rfl) (by decide) rfl (s1_X12_eats hM133 hpr 14 (by omega) gf gn gq134 (by omega) (by omega) (by omega) (by omega) (by omega)) gX12_readBoth_X12_eats rfl hdX12_eats (by decide) (Nat.le_of_ble_eq_true rfl) dX12_readBoth_8 rfl (fun r139 M140 h141 => ?_)
      obtain ⟨a143, rfl, hM140, fM140, h142⟩ := h141
      have k144 := tk_c gf gn (M140.1 98 6).toInt (M133.1 98 6).toInt
      have bM140 := tkm_b (f := gf) (n := gn) (M := M140) (by omega)
      refine y_if_eq C 29 dX12_readBoth_11 (by decide) (by omega) (fun h145 => ?_) (fun h145 => ?_)
      · have u157c := xw_c (N := M133) (P := M140) 0 (FR.cell fM140 (by decide)) (by omega)
        have u157t := xw_t (M := M0) (N := M133) (P := M140) (r1 := 0) (e1 := 1) (s1 := 0) (r2 := 0) (e2 := 0) (s2 := 0) 0 1 0 (by decide) (by omega) (by omega)
        have u157a := ca_x (M := M0) (N := M140) (r := 0) (e := 1) (s := 0) (by decide) (by omega) (by omega)
        have u157E := ll_e gf gn 1015 1015 (unR gf gn 6) ((unR gf gn 6) gi).2.2 gq134 0 (M103.1 98 11).toInt (M103.1 98 12).toInt (M133.1 98 11).toInt (M133.1 98 12).toInt (M133.1 98 6).toInt (by decide) (unR_g gf gn 6) (by omega) (by omega)
        have u157S : b01 (RR ((boP gf gn (unR gf gn 6)) gi) (M0.1 98 11).toInt (M0.1 98 12).toInt (M133.1 98 11).toInt (M133.1 98 12).toInt (M133.1 98 6).toInt) = 1 := rr_sq ((unR gf gn 6) gi) (luP gf gn 1015 1015 (unR gf gn 6)) (M0.1 98 11).toInt (M0.1 98 12).toInt (M103.1 98 11).toInt (M103.1 98 12).toInt (M103.1 98 6).toInt (M133.1 98 11).toInt (M133.1 98 12).toInt (M133.1 98 6).toInt (by omega) (by omega)
        have u157R := rr_eq ((boP gf gn (unR gf gn 6)) gi) (M0.1 98 11).toInt (M0.1 98 12).toInt (M133.1 98 11).toInt (M133.1 98 12).toInt (M133.1 98 6).toInt (M140.1 98 11).toInt (M140.1 98 12).toInt (M140.1 98 6).toInt (by omega) (by omega) (by omega) (by omega)
        exact hret _ _ _ dX12_readBoth_29 ⟨hM140, ((FR.rf.tr fM133 (by decide)).tr fM140 (by decide)), by omega⟩
      · have u146c := xw_c (N := M133) (P := M140) 1 (FR.cell fM140 (by decide)) (by omega)
        have u146t := xw_t (M := M0) (N := M133) (P := M140) (r1 := 0) (e1 := 1) (s1 := 0) (r2 := 0) (e2 := 0) (s2 := 1) 0 1 1 (by decide) (by omega) (by omega)
        have u146a := ca_x (M := M0) (N := M140) (r := 0) (e := 1) (s := 1) (by decide) (by omega) (by omega)
        have u146l := ri_l (M := M140) (by omega)
        refine j_aload_n C 0 0 dX12_readBoth_14 rfl rfl ?_
        refine j_iload_n C 1 1 dX12_readBoth_15 rfl rfl ?_
        refine j_callVv C (d := 28) (As := [.int (sI 0)]) (st := []) 98 (s_lt rfl rfl) (s_kc (c := 11) rfl rfl) (by decide) rfl (s7_X12_readUnit hM140 hpr gf gn (nxF gf gn gq134) (by omega) (by omega) (by omega) (by omega) (by omega)) gX12_readBoth_X12_readUnit rfl hdX12_readUnit (by decide) (Nat.le_of_ble_eq_true rfl) dX12_readBoth_16 rfl (fun M148 h149 => ?_)
        obtain ⟨hM148, fM148, h150⟩ := h149
        have bM148 := tkm_b (f := gf) (n := gn) (M := M148) (by omega)
        have qM148 := po_rr (unR gf gn 6) gn (nxF gf gn gq134) (M140.1 98 11).toInt (M140.1 98 12).toInt (M140.1 98 6).toInt (M148.1 98 11).toInt (M148.1 98 12).toInt (M148.1 98 6).toInt (unR_g gf gn 6) (by omega) (by omega)
        have u151t := xw_t (M := M0) (N := M140) (P := M148) (r1 := 0) (e1 := 1) (s1 := 1) (r2 := 0) (e2 := 1) (s2 := 0) 0 2 1 (by decide) (by omega) (by omega)
        have u151l := ri_l (M := M148) (by omega)
        have u151b := cb_x (M := M0) (N := M148) (r := 0) (e := 2) (s := 1) (by decide) (by omega) (by omega) (by omega)
        refine j_aload_n C 0 0 dX12_readBoth_19 rfl rfl ?_
        refine y_sipush C dX12_readBoth_20 rfl ?_
        refine j_callVv C (d := 0) (As := [.int (sI 3007)]) (st := []) 98 (s_lt rfl rfl) (s_kc (c := 11) rfl rfl) (by decide) rfl (s1_X12_codes hM148 hpr 3007 (by omega) gf gn ((unR gf gn 6) (nxF gf gn gq134)).2.2 (by omega) (by omega) (by omega) (by omega)) gX12_readBoth_X12_codes rfl hdX12_codes (by decide) (Nat.le_of_ble_eq_true rfl) dX12_readBoth_23 rfl (fun M153 h154 => ?_)
        obtain ⟨hM153, fM153, h155⟩ := h154
        have bM153 := tkm_b (f := gf) (n := gn) (M := M153) (by omega)
        have qM153 := po_eq gn ((unR gf gn 6) (nxF gf gn gq134)).2.2 (M148.1 98 11).toInt (M148.1 98 6).toInt (M153.1 98 11).toInt (M153.1 98 6).toInt (by omega) (by omega) (by omega)
        refine j_goto C 5 dX12_readBoth_26 (by decide) ?_
        have u156x := xw_a (M := M148) (N := M153) (c := 3007) (r := 2) (e := (-1)) (FR.cell fM153 (by decide)) (ap_bin ⟨(INV.rd hM148 (i := 102) (c := 48) (k := 280) rfl rfl).1, by omega, by omega⟩) (by omega)
        have u156t := xw_t (M := M0) (N := M148) (P := M153) (r1 := 0) (e1 := 2) (s1 := 1) (r2 := 2) (e2 := (-1)) (s2 := (-1)) 0 1 0 (by decide) (by omega) (by omega)
        have u156i := ri_c (M := M148) (N := M153) (FR.cell fM153 (by decide)) (by omega)
        have u156l := ri_l (M := M153) (by omega)
        have u156L := ll_w (luP gf gn 1015 1015 (unR gf gn 6)) gn ((unR gf gn 6) gi).2.2 ((unR gf gn 6) (nxF gf gn gq134)).2.2 (0 + 1) 0 (M103.1 98 11).toInt (M103.1 98 12).toInt (M153.1 98 11).toInt (M153.1 98 12).toInt (M153.1 98 6).toInt (by decide) (ll_s gf gn 1015 1015 (unR gf gn 6) ((unR gf gn 6) gi).2.2 gq134 0 (M103.1 98 11).toInt (M103.1 98 12).toInt (M133.1 98 11).toInt (M133.1 98 12).toInt (M133.1 98 6).toInt (M140.1 98 11).toInt (M140.1 98 12).toInt (M148.1 98 11).toInt (M148.1 98 12).toInt (M148.1 98 6).toInt (M153.1 98 11).toInt (M153.1 98 12).toInt (M153.1 98 6).toInt (by decide) (unR_g gf gn 6) (by omega) (by omega) (by omega) (by omega) (by omega) (by omega) (by omega) (by omega) (by omega))
        have zz98_8 : (M153.1 98 8).toInt = (M148.1 98 8).toInt := s_fF fM153 (by decide) (rfl); have zz98_6 : (M153.1 98 6).toInt = (M148.1 98 6).toInt := s_fF fM153 (by decide) (rfl); have zz98_12 : (M153.1 98 12).toInt = (M148.1 98 12).toInt := s_fF fM153 (by decide) (rfl); have zz98_11 : (M153.1 98 11).toInt = (M148.1 98 11).toInt := s_fF fM153 (by decide) (rfl); exact ih131 M153 ((unR gf gn 6) (nxF gf gn gq134)).2.2 (by omega) hM153 ((((FR.rf.tr fM133 (by decide)).tr fM140 (by decide)).tr fM148 (by decide)).tr fM153 (by decide))
  exact L132 2010 M103 ((unR gf gn 6) gi).2.2 (by omega) hM103 (FR.rf.tr fM103 (by decide))
set_option maxHeartbeats 4000000 in
theorem s7_X12_readTruth {l : Launch} {dC : Nat → ClassId} {dI : Nat → Nat → Nat} {ad : Nat → Nat} {cA : Nat → ClassId} {pr : Nat → Nat → Bool} {Kz : mm_M} {M0 : mm_M} (hM0 : INV pr Kz M0) (hpr : PM pr) (gf : Nat → Int) (gn : Int) (gi : Int) (hp0 : b01 (RIP M0) = 1) (hp1 : b01 (CA M0) = 1) (hp2 : b01 (TKM gf gn M0) = 1) (hp3 : b01 (PO gn gi (M0.1 98 11).toInt (M0.1 98 6).toInt) = 1) (hp4 : b01 (PI M0) = 1) : Cv l 30 yX12_readTruth wsX12_readTruth dC dI ad cA [.ref (ad 98), .int (sI 0)] M0 (fun M' => INV pr Kz M' ∧ FR [98, 102] M0 M' ∧ (b01 (RIP M') = 1) ∧ ((M'.1 98 8).toInt = (M0.1 98 8).toInt) ∧ ((M0.1 98 6).toInt ≤ (M'.1 98 6).toInt) ∧ (b01 (XW M0 M' 0 1 0) = 1) ∧ (b01 (CA M') = 1) ∧ (b01 (PI M') = 1) ∧ (b01 (TKM gf gn M') = 1) ∧ b01 (RR ((trP gf gn (unR gf gn 6)) gi) (M0.1 98 11).toInt (M0.1 98 12).toInt (M'.1 98 11).toInt (M'.1 98 12).toInt (M'.1 98 6).toInt) = 1) := by
  refine cv_of (cc := cX12_readTruth) (maxL := 2) (lv := [(0, .ref (ad 98)), (1, .int (sI 0))]) (by decide) rfl (Nat.le_of_ble_eq_true rfl) rfl ?_
  intro p e s m args below meth c A Q C hret
  have u101z := xw_0 M0
  have u101l := ri_l (M := M0) (by omega)
  refine j_aload_n C 0 0 dX12_readTruth_0 rfl rfl ?_
  refine j_iload_n C 1 1 dX12_readTruth_1 rfl rfl ?_
  refine j_callVv C (d := 29) (As := [.int (sI 0)]) (st := []) 98 (s_lt rfl rfl) (s_kc (c := 11) rfl rfl) (by decide) rfl (s7_X12_readBoth hM0 hpr gf gn gi (by omega) (by omega) (by omega) (by omega) (by omega)) gX12_readTruth_X12_readBoth rfl hdX12_readBoth (by decide) (Nat.le_of_ble_eq_true rfl) dX12_readTruth_2 rfl (fun M103 h104 => ?_)
  obtain ⟨hM103, fM103, h105⟩ := h104
  have bM103 := tkm_b (f := gf) (n := gn) (M := M103) (by omega)
  have qM103 := po_rr (boP gf gn (unR gf gn 6)) gn gi (M0.1 98 11).toInt (M0.1 98 12).toInt (M0.1 98 6).toInt (M103.1 98 11).toInt (M103.1 98 12).toInt (M103.1 98 6).toInt (bo_g gf gn (unR_g gf gn 6)) (by omega) (by omega)
  have u106l := ri_l (M := M103) (by omega)
  have u106L := ll_0 (luP gf gn 1014 1014 (boP gf gn (unR gf gn 6))) gn ((boP gf gn (unR gf gn 6)) gi).2.2 (M103.1 98 11).toInt (M103.1 98 12).toInt (M103.1 98 6).toInt (by omega)
  have L132 : ∀ (n130 : Nat), ∀ (M133 : mm_M) (gq134 : Int), ((b01 (RIP M133) = 1) ∧ ((M133.1 98 8).toInt = (M0.1 98 8).toInt) ∧ ((M0.1 98 6).toInt ≤ (M133.1 98 6).toInt) ∧ (b01 (XW M0 M133 0 1 0) = 1) ∧ ((M133.1 98 6).toInt ≤ 900) ∧ (b01 (LL (luP gf gn 1014 1014 (boP gf gn (unR gf gn 6))) gn ((boP gf gn (unR gf gn 6)) gi).2.2 gq134 0 (M103.1 98 11).toInt (M103.1 98 12).toInt (M133.1 98 11).toInt (M133.1 98 12).toInt (M133.1 98 6).toInt) = 1) ∧ (b01 (TKM gf gn M133) = 1) ∧ (b01 (PO gn gq134 (M133.1 98 11).toInt (M133.1 98 6).toInt) = 1) ∧ (b01 (PI M133) = 1) ∧ (900 - (M133.1 98 6).toInt) < (n130 : Int)) → INV pr Kz M133 → FR [98, 102] M0 M133 → jj p l e (cn_R 30) s m args below meth c 0 0 Q 2 dC dI ad cA A M133 5 [(0, .ref (ad 98)), (1, .int (sI 0))] [] := by
    intro n130
    induction n130 with
    | zero =>
      intro M133 gq134 h135 hM133 fM133
      exfalso; omega
    | succ n130 ih131 =>
      intro M133 gq134 h135 hM133 fM133
      have u136l := ri_l (M := M133) (by omega)
      have u136B := tkm_b (f := gf) (n := gn) (M := M133) (by omega)
      refine j_aload_n C 0 0 dX12_readTruth_5 rfl rfl ?_
      refine y_bipush C dX12_readTruth_6 rfl ?_
      have k137 := tkm_K (f := gf) (n := gn) (M := M133) (by omega)
      have k138 := kd_2 (kdk_15 gf gn (M133.1 98 6).toInt) (by omega)
      refine j_callVi C (d := 6) (As := [.int (sI 15)]) (st := []) 98 (s_lt rfl rfl) (s_kc (c := 11) rfl rfl) (by decide) rfl (s1_X12_eats hM133 hpr 15 (by omega) gf gn gq134 (by omega) (by omega) (by omega) (by omega) (by omega)) gX12_readTruth_X12_eats rfl hdX12_eats (by decide) (Nat.le_of_ble_eq_true rfl) dX12_readTruth_8 rfl (fun r139 M140 h141 => ?_)
      obtain ⟨a143, rfl, hM140, fM140, h142⟩ := h141
      have k144 := tk_c gf gn (M140.1 98 6).toInt (M133.1 98 6).toInt
      have bM140 := tkm_b (f := gf) (n := gn) (M := M140) (by omega)
      refine y_if_eq C 29 dX12_readTruth_11 (by decide) (by omega) (fun h145 => ?_) (fun h145 => ?_)
      · have u157c := xw_c (N := M133) (P := M140) 0 (FR.cell fM140 (by decide)) (by omega)
        have u157t := xw_t (M := M0) (N := M133) (P := M140) (r1 := 0) (e1 := 1) (s1 := 0) (r2 := 0) (e2 := 0) (s2 := 0) 0 1 0 (by decide) (by omega) (by omega)
        have u157a := ca_x (M := M0) (N := M140) (r := 0) (e := 1) (s := 0) (by decide) (by omega) (by omega)
        have u157E := ll_e gf gn 1014 1014 (boP gf gn (unR gf gn 6)) ((boP gf gn (unR gf gn 6)) gi).2.2 gq134 0 (M103.1 98 11).toInt (M103.1 98 12).toInt (M133.1 98 11).toInt (M133.1 98 12).toInt (M133.1 98 6).toInt (by decide) (bo_g gf gn (unR_g gf gn 6)) (by omega) (by omega)
        have u157S : b01 (RR ((trP gf gn (unR gf gn 6)) gi) (M0.1 98 11).toInt (M0.1 98 12).toInt (M133.1 98 11).toInt (M133.1 98 12).toInt (M133.1 98 6).toInt) = 1 := rr_sq ((boP gf gn (unR gf gn 6)) gi) (luP gf gn 1014 1014 (boP gf gn (unR gf gn 6))) (M0.1 98 11).toInt (M0.1 98 12).toInt (M103.1 98 11).toInt (M103.1 98 12).toInt (M103.1 98 6).toInt (M133.1 98 11).toInt (M133.1 98 12).toInt (M133.1 98 6).toInt (by omega) (by omega)
        have u157R := rr_eq ((trP gf gn (unR gf gn 6)) gi) (M0.1 98 11).toInt (M0.1 98 12).toInt (M133.1 98 11).toInt (M133.1 98 12).toInt (M133.1 98 6).toInt (M140.1 98 11).toInt (M140.1 98 12).toInt (M140.1 98 6).toInt (by omega) (by omega) (by omega) (by omega)
        exact hret _ _ _ dX12_readTruth_29 ⟨hM140, ((FR.rf.tr fM133 (by decide)).tr fM140 (by decide)), by omega⟩
      · have u146c := xw_c (N := M133) (P := M140) 1 (FR.cell fM140 (by decide)) (by omega)
        have u146t := xw_t (M := M0) (N := M133) (P := M140) (r1 := 0) (e1 := 1) (s1 := 0) (r2 := 0) (e2 := 0) (s2 := 1) 0 1 1 (by decide) (by omega) (by omega)
        have u146a := ca_x (M := M0) (N := M140) (r := 0) (e := 1) (s := 1) (by decide) (by omega) (by omega)
        have u146l := ri_l (M := M140) (by omega)
        refine j_aload_n C 0 0 dX12_readTruth_14 rfl rfl ?_
        refine j_iload_n C 1 1 dX12_readTruth_15 rfl rfl ?_
        refine j_callVv C (d := 29) (As := [.int (sI 0)]) (st := []) 98 (s_lt rfl rfl) (s_kc (c := 11) rfl rfl) (by decide) rfl (s7_X12_readBoth hM140 hpr gf gn (nxF gf gn gq134) (by omega) (by omega) (by omega) (by omega) (by omega)) gX12_readTruth_X12_readBoth rfl hdX12_readBoth (by decide) (Nat.le_of_ble_eq_true rfl) dX12_readTruth_16 rfl (fun M148 h149 => ?_)
        obtain ⟨hM148, fM148, h150⟩ := h149
        have bM148 := tkm_b (f := gf) (n := gn) (M := M148) (by omega)
        have qM148 := po_rr (boP gf gn (unR gf gn 6)) gn (nxF gf gn gq134) (M140.1 98 11).toInt (M140.1 98 12).toInt (M140.1 98 6).toInt (M148.1 98 11).toInt (M148.1 98 12).toInt (M148.1 98 6).toInt (bo_g gf gn (unR_g gf gn 6)) (by omega) (by omega)
        have u151t := xw_t (M := M0) (N := M140) (P := M148) (r1 := 0) (e1 := 1) (s1 := 1) (r2 := 0) (e2 := 1) (s2 := 0) 0 2 1 (by decide) (by omega) (by omega)
        have u151l := ri_l (M := M148) (by omega)
        have u151b := cb_x (M := M0) (N := M148) (r := 0) (e := 2) (s := 1) (by decide) (by omega) (by omega) (by omega)
        refine j_aload_n C 0 0 dX12_readTruth_19 rfl rfl ?_
        refine y_sipush C dX12_readTruth_20 rfl ?_
        refine j_callVv C (d := 0) (As := [.int (sI 3008)]) (st := []) 98 (s_lt rfl rfl) (s_kc (c := 11) rfl rfl) (by decide) rfl (s1_X12_codes hM148 hpr 3008 (by omega) gf gn ((boP gf gn (unR gf gn 6)) (nxF gf gn gq134)).2.2 (by omega) (by omega) (by omega) (by omega)) gX12_readTruth_X12_codes rfl hdX12_codes (by decide) (Nat.le_of_ble_eq_true rfl) dX12_readTruth_23 rfl (fun M153 h154 => ?_)
        obtain ⟨hM153, fM153, h155⟩ := h154
        have bM153 := tkm_b (f := gf) (n := gn) (M := M153) (by omega)
        have qM153 := po_eq gn ((boP gf gn (unR gf gn 6)) (nxF gf gn gq134)).2.2 (M148.1 98 11).toInt (M148.1 98 6).toInt (M153.1 98 11).toInt (M153.1 98 6).toInt (by omega) (by omega) (by omega)
        refine j_goto C 5 dX12_readTruth_26 (by decide) ?_
        have u156x := xw_a (M := M148) (N := M153) (c := 3008) (r := 2) (e := (-1)) (FR.cell fM153 (by decide)) (ap_bin ⟨(INV.rd hM148 (i := 102) (c := 48) (k := 280) rfl rfl).1, by omega, by omega⟩) (by omega)
        have u156t := xw_t (M := M0) (N := M148) (P := M153) (r1 := 0) (e1 := 2) (s1 := 1) (r2 := 2) (e2 := (-1)) (s2 := (-1)) 0 1 0 (by decide) (by omega) (by omega)
        have u156i := ri_c (M := M148) (N := M153) (FR.cell fM153 (by decide)) (by omega)
        have u156l := ri_l (M := M153) (by omega)
        have u156L := ll_w (luP gf gn 1014 1014 (boP gf gn (unR gf gn 6))) gn ((boP gf gn (unR gf gn 6)) gi).2.2 ((boP gf gn (unR gf gn 6)) (nxF gf gn gq134)).2.2 (0 + 1) 0 (M103.1 98 11).toInt (M103.1 98 12).toInt (M153.1 98 11).toInt (M153.1 98 12).toInt (M153.1 98 6).toInt (by decide) (ll_s gf gn 1014 1014 (boP gf gn (unR gf gn 6)) ((boP gf gn (unR gf gn 6)) gi).2.2 gq134 0 (M103.1 98 11).toInt (M103.1 98 12).toInt (M133.1 98 11).toInt (M133.1 98 12).toInt (M133.1 98 6).toInt (M140.1 98 11).toInt (M140.1 98 12).toInt (M148.1 98 11).toInt (M148.1 98 12).toInt (M148.1 98 6).toInt (M153.1 98 11).toInt (M153.1 98 12).toInt (M153.1 98 6).toInt (by decide) (bo_g gf gn (unR_g gf gn 6)) (by omega) (by omega) (by omega) (by omega) (by omega) (by omega) (by omega) (by omega) (by omega))
        have zz98_8 : (M153.1 98 8).toInt = (M148.1 98 8).toInt := s_fF fM153 (by decide) (rfl); have zz98_6 : (M153.1 98 6).toInt = (M148.1 98 6).toInt := s_fF fM153 (by decide) (rfl); have zz98_12 : (M153.1 98 12).toInt = (M148.1 98 12).toInt := s_fF fM153 (by decide) (rfl); have zz98_11 : (M153.1 98 11).toInt = (M148.1 98 11).toInt := s_fF fM153 (by decide) (rfl); exact ih131 M153 ((boP gf gn (unR gf gn 6)) (nxF gf gn gq134)).2.2 (by omega) hM153 ((((FR.rf.tr fM133 (by decide)).tr fM140 (by decide)).tr fM148 (by decide)).tr fM153 (by decide))
  exact L132 2010 M103 ((boP gf gn (unR gf gn 6)) gi).2.2 (by omega) hM103 (FR.rf.tr fM103 (by decide))
set_option maxHeartbeats 4000000 in
theorem s1_X12_readLaw {l : Launch} {dC : Nat → ClassId} {dI : Nat → Nat → Nat} {ad : Nat → Nat} {cA : Nat → ClassId} {pr : Nat → Nat → Bool} {Kz : mm_M} {M0 : mm_M} (hM0 : INV pr Kz M0) (hpr : PM pr) (a1 : Int) (ha1 : -2147483648 ≤ a1 ∧ a1 ≤ 2147483647) (gf : Nat → Int) (gn : Int) (gi : Int) (hp0 : b01 (RIP M0) = 1) (hp1 : b01 (LV M0) = 1) (hp2 : (M0.1 98 11).toInt = 0) (hp3 : tkF gf gn (M0.1 98 6).toInt = 1010 ∨ tkF gf gn (M0.1 98 6).toInt = 1011) (hp4 : 0 ≤ a1 ∧ a1 ≤ 1) (hp5 : b01 (TKM gf gn M0) = 1) (hp6 : b01 (PO gn gi (M0.1 98 11).toInt (M0.1 98 6).toInt) = 1) (hp7 : b01 (PI M0) = 1) : Cv l 31 yX12_readLaw wsX12_readLaw dC dI ad cA [.ref (ad 98), .int (sI a1)] M0 (fun M' => INV pr Kz M' ∧ FR [98, 102] M0 M' ∧ (b01 (RIP M') = 1) ∧ ((M'.1 98 8).toInt = (M0.1 98 8).toInt) ∧ ((M0.1 98 6).toInt ≤ (M'.1 98 6).toInt) ∧ (b01 (LV M') = 1) ∧ (b01 (CK (M'.1 98 11).toInt (M'.1 102 26).toInt (M'.1 102 1).toInt (M'.1 102 0).toInt (M0.1 102 26).toInt (M0.1 102 1).toInt (M0.1 102 0).toInt) = 1) ∧ (b01 (PI M') = 1) ∧ (b01 (TKM gf gn M') = 1) ∧ b01 (RR ((lwP gf gn a1) gi) (M0.1 98 11).toInt (M0.1 98 12).toInt (M'.1 98 11).toInt (M'.1 98 12).toInt (M'.1 98 6).toInt) = 1) := by
  refine cv_of (cc := cX12_readLaw) (maxL := 3) (lv := [(0, .ref (ad 98)), (1, .int (sI a1))]) (by decide) rfl (Nat.le_of_ble_eq_true rfl) rfl ?_
  intro p e s m args below meth c A Q C hret
  have u101l := ri_l (M := M0) (by omega)
  have k102 := tkm_K (f := gf) (n := gn) (M := M0) (by omega)
  refine j_aload_n C 0 0 dX12_readLaw_0 rfl rfl ?_
  have k103 := tkm_p (f := gf) (n := gn) (M := M0) (by omega)
  have k104 := tkm_K (f := gf) (n := gn) (M := M0) (by omega)
  refine j_callVv C (d := 5) (As := []) (st := []) 98 (s_lt rfl rfl) (s_kc (c := 11) rfl rfl) (by decide) rfl (s1_X12_next hM0 hpr gf gn (by omega) (by omega) (by omega) (by omega)) gX12_readLaw_X12_next rfl hdX12_next (by decide) (Nat.le_of_ble_eq_true rfl) dX12_readLaw_1 rfl (fun M106 h107 => ?_)
  obtain ⟨hM106, fM106, h108⟩ := h107
  have bM106 := tkm_b (f := gf) (n := gn) (M := M106) (by omega)
  have qM106 := nx_po (f := gf) (n := gn) (i := gi) (M := M0) (M' := M106) (by omega) (by omega) (by omega) (by omega) (by omega)
  have u109v := lv_c (M := M0) (N := M106) (FR.cell fM106 (by decide)) (by omega) (by omega)
  have u109l := ri_l (M := M106) (by omega)
  refine j_aload_n C 0 0 dX12_readLaw_4 rfl rfl ?_
  refine y_bipush C dX12_readLaw_5 rfl ?_
  have k110 := tkm_K (f := gf) (n := gn) (M := M106) (by omega)
  have k111 := kd_2 (kdk_31 gf gn (M106.1 98 6).toInt) (by omega)
  refine j_callVi C (d := 6) (As := [.int (sI 31)]) (st := []) 98 (s_lt rfl rfl) (s_kc (c := 11) rfl rfl) (by decide) rfl (s1_X12_eats hM106 hpr 31 (by omega) gf gn (nxF gf gn gi) (by omega) (by omega) (by omega) (by omega) (by omega)) gX12_readLaw_X12_eats rfl hdX12_eats (by decide) (Nat.le_of_ble_eq_true rfl) dX12_readLaw_7 rfl (fun r112 M113 h114 => ?_)
  obtain ⟨a116, rfl, hM113, fM113, h115⟩ := h114
  have k117 := tk_c gf gn (M113.1 98 6).toInt (M106.1 98 6).toInt
  have bM113 := tkm_b (f := gf) (n := gn) (M := M113) (by omega)
  have u118v := lv_c (M := M106) (N := M113) (FR.cell fM113 (by decide)) (by omega) (by omega)
  have u118l := ri_l (M := M113) (by omega)
  have J128 : ∀ (M127 : mm_M), ((b01 (RIP M127) = 1) ∧ ((M127.1 98 8).toInt = (M0.1 98 8).toInt) ∧ ((M0.1 98 6).toInt ≤ (M127.1 98 6).toInt) ∧ (b01 (LV M127) = 1) ∧ (b01 (RR (exP gf gn 2058 (nxF gf gn gi)) (M0.1 98 11).toInt (M0.1 98 12).toInt (M127.1 98 11).toInt (M127.1 98 12).toInt (M127.1 98 6).toInt) = 1) ∧ ((M127.1 102 26).toInt = (M0.1 102 26).toInt ∧ (M127.1 102 1).toInt = (M0.1 102 1).toInt ∧ (M127.1 102 0).toInt = (M0.1 102 0).toInt) ∧ (b01 (TKM gf gn M127) = 1) ∧ (b01 (PO gn (exP gf gn 2058 (nxF gf gn gi)).2.2 (M127.1 98 11).toInt (M127.1 98 6).toInt) = 1) ∧ (b01 (PI M127) = 1)) → INV pr Kz M127 → FR [98, 102] M0 M127 → jj p l e (cn_R 31) s m args below meth c 0 0 Q 3 dC dI ad cA A M127 18 [(0, .ref (ad 98)), (1, .int (sI a1))] [] := by
    intro M127 h129 hM127 fM127
    have u131a := lv_ca (M := M127) (by omega)
    have u131l := ri_l (M := M127) (by omega)
    refine j_aload_n C 0 0 dX12_readLaw_18 rfl rfl ?_
    refine y_getC C 11 102 fX12_readLaw_24 rfl rfl ft_11_4 sm_11_4 rfl hM127 dX12_readLaw_19 ?_
    refine y_sipush C dX12_readLaw_22 rfl ?_
    refine y_ialdH C 48 1181 rfl rfl rfl ak_48 an_48 rfl _ _ hM127 (hr_48_280_280 _ (by omega) (by omega)) dX12_readLaw_25 (by omega) (fun a132 ea132 la132 ua132 => ?_)
    obtain rfl : a132 = (M127.1 102 280).toInt := ea132
    refine j_istore_n C 2 [(2, .int (sI (M127.1 102 280).toInt)), (0, .ref (ad 98)), (1, .int (sI a1))] dX12_readLaw_26 rfl (by decide) rfl ?_
    refine j_iload_n C 2 1 dX12_readLaw_27 rfl rfl ?_
    have J145 : ∀ (M144 : mm_M), ((b01 (RIP M144) = 1) ∧ ((M144.1 98 8).toInt = (M0.1 98 8).toInt) ∧ ((M0.1 98 6).toInt ≤ (M144.1 98 6).toInt) ∧ (b01 (XW M127 M144 0 1 0) = 1) ∧ ((M127.1 102 280).toInt = (M127.1 102 280).toInt) ∧ (b01 (RR (lwP gf gn a1 gi) (M0.1 98 11).toInt (M0.1 98 12).toInt (M144.1 98 11).toInt (M144.1 98 12).toInt (M144.1 98 6).toInt) = 1) ∧ (b01 (TKM gf gn M144) = 1) ∧ (b01 (PO gn (lwP gf gn a1 gi).2.2 (M144.1 98 11).toInt (M144.1 98 6).toInt) = 1) ∧ (b01 (PI M144) = 1)) → INV pr Kz M144 → FR [98, 102] M0 M144 → jj p l e (cn_R 31) s m args below meth c 0 0 Q 3 dC dI ad cA A M144 44 [(0, .ref (ad 98)), (1, .int (sI a1)), (2, .int (sI (M127.1 102 280).toInt))] [] := by
      intro M144 h146 hM144 fM144
      have u148k := xw_k (M := M127) (N := M144) (r := 0) (e := 1) (s := 0) (by omega) (INV.rd hM127 (i := 102) (c := 48) (k := 280) rfl rfl).1
      refine j_aload_n C 0 0 dX12_readLaw_44 rfl rfl ?_
      refine y_getI C 11 _ _ fX12_readLaw_126 rfl rfl ft_11_11 sb_11_11 hM144 dX12_readLaw_45 (fun a149 ea149 la149 ua149 => ?_)
      obtain rfl : a149 = (M144.1 98 11).toInt := ea149
      refine y_if_eq C 52 dX12_readLaw_48 (by decide) (by omega) (fun h151 => ?_) (fun h151 => ?_)
      · have u152n := xw_n (M := M127) (N := M144) (r := 0) (e := 1) (s := 0) (by omega) (by omega)
        have u152d := INV.rd hM144 (i := 102) (c := 48) (k := 280) rfl rfl
        refine j_aload_n C 0 0 dX12_readLaw_52 rfl rfl ?_
        refine y_getC C 11 102 fX12_readLaw_24 rfl rfl ft_11_4 sm_11_4 rfl hM144 dX12_readLaw_53 ?_
        refine y_iconst C dX12_readLaw_56 ?_
        refine j_iload_n C 1 1 dX12_readLaw_57 rfl rfl ?_
        refine y_iadd C dX12_readLaw_58 ?_
        refine y_iconst C dX12_readLaw_59 ?_
        refine y_iastH C 48 1181 rfl rfl rfl ak_48 an_48 rfl _ _ hM144 (PM.w hpr rfl rfl) (hs_48_2_3 _ (by omega) (by omega)) dX12_readLaw_60 (by omega) (by omega) (fun M153 eM153 hM153 => ?_)
        have xM153 := tkm_w (f := gf) (n := gn) eM153 (by decide) (by decide) (by omega)
        have qM153 := po_eq gn (lwP gf gn a1 gi).2.2 (M144.1 98 11).toInt (M144.1 98 6).toInt (M153.1 98 11).toInt (M153.1 98 6).toInt (by omega) (by omega) (by omega)
        have pM153 := pi_o eM153 (by decide) (by decide) (by omega)
        refine j_aload_n C 0 0 dX12_readLaw_61 rfl rfl ?_
        refine y_getC C 11 102 fX12_readLaw_24 rfl rfl ft_11_4 sm_11_4 rfl hM153 dX12_readLaw_62 ?_
        refine y_iconst C dX12_readLaw_65 ?_
        refine j_iload_n C 1 1 dX12_readLaw_66 rfl rfl ?_
        refine y_iadd C dX12_readLaw_67 ?_
        refine j_iload_n C 2 2 dX12_readLaw_68 rfl rfl ?_
        refine y_iastH C 48 1181 rfl rfl rfl ak_48 an_48 rfl _ _ hM153 (PM.w hpr rfl rfl) (hs_48_4_5 _ (by omega) (by omega)) dX12_readLaw_69 (by omega) (by omega) (fun M154 eM154 hM154 => ?_)
        have xM154 := tkm_w (f := gf) (n := gn) eM154 (by decide) (by decide) (by omega)
        have qM154 := po_eq gn (lwP gf gn a1 gi).2.2 (M153.1 98 11).toInt (M153.1 98 6).toInt (M154.1 98 11).toInt (M154.1 98 6).toInt (by omega) (by omega) (by omega)
        have pM154 := pi_o eM154 (by decide) (by decide) (by omega)
        refine j_aload_n C 0 0 dX12_readLaw_70 rfl rfl ?_
        refine y_getC C 11 102 fX12_readLaw_24 rfl rfl ft_11_4 sm_11_4 rfl hM154 dX12_readLaw_71 ?_
        refine y_bipush C dX12_readLaw_74 rfl ?_
        refine j_iload_n C 1 1 dX12_readLaw_76 rfl rfl ?_
        refine y_iadd C dX12_readLaw_77 ?_
        refine j_aload_n C 0 0 dX12_readLaw_78 rfl rfl ?_
        refine y_getC C 11 102 fX12_readLaw_24 rfl rfl ft_11_4 sm_11_4 rfl hM154 dX12_readLaw_79 ?_
        refine y_sipush C dX12_readLaw_82 rfl ?_
        refine y_ialdH C 48 1181 rfl rfl rfl ak_48 an_48 rfl _ _ hM154 (hr_48_280_280 _ (by omega) (by omega)) dX12_readLaw_85 (by omega) (fun a155 ea155 la155 ua155 => ?_)
        obtain rfl : a155 = (M144.1 102 280).toInt := s_fb eM153 (by omega) (s_fb eM154 (by omega) (ea155))
        refine j_iload_n C 2 2 dX12_readLaw_86 rfl rfl ?_
        refine y_isub C dX12_readLaw_87 ?_
        refine y_iastH C 48 1181 rfl rfl rfl ak_48 an_48 rfl _ _ hM154 (PM.w hpr rfl rfl) (hs_48_6_7 _ (by omega) (by omega)) dX12_readLaw_88 (by omega) (by omega) (fun M156 eM156 hM156 => ?_)
        have xM156 := tkm_w (f := gf) (n := gn) eM156 (by decide) (by decide) (by omega)
        have qM156 := po_eq gn (lwP gf gn a1 gi).2.2 (M154.1 98 11).toInt (M154.1 98 6).toInt (M156.1 98 11).toInt (M156.1 98 6).toInt (by omega) (by omega) (by omega)
        have pM156 := pi_o eM156 (by decide) (by decide) (by omega)
        have u157v := lv_law (M := M127) (N := M144) (a := a1) (by omega) (by omega) (by omega) (by omega) (h4b hM127) (by omega) (by omega) (by omega) eM153 eM154 eM156 (by omega)
        have u157i := ri_c (M := M144) (N := M156) ((wI_cell eM156 (by decide)).trans ((wI_cell eM154 (by decide)).trans (wI_cell eM153 (by decide)))) (by omega)
        have u158w6 : (M156.1 98 6).toInt = (M144.1 98 6).toInt := by rw [show M156.1 98 = M144.1 98 from (wI_cell eM156 (by decide)).trans ((wI_cell eM154 (by decide)).trans ((wI_cell eM153 (by decide))))]
        have u158w11 : (M156.1 98 11).toInt = (M144.1 98 11).toInt := by rw [show M156.1 98 = M144.1 98 from (wI_cell eM156 (by decide)).trans ((wI_cell eM154 (by decide)).trans ((wI_cell eM153 (by decide))))]
        have u158w12 : (M156.1 98 12).toInt = (M144.1 98 12).toInt := by rw [show M156.1 98 = M144.1 98 from (wI_cell eM156 (by decide)).trans ((wI_cell eM154 (by decide)).trans ((wI_cell eM153 (by decide))))]
        have zz102_26 : (M156.1 102 26).toInt = (M144.1 102 26).toInt := s_fb eM153 (by omega) (s_fb eM154 (by omega) (s_fb eM156 (by omega) (rfl)))
        have zz102_1 : (M156.1 102 1).toInt = (M144.1 102 1).toInt := s_fb eM153 (by omega) (s_fb eM154 (by omega) (s_fb eM156 (by omega) (rfl)))
        have zz102_0 : (M156.1 102 0).toInt = (M144.1 102 0).toInt := s_fb eM153 (by omega) (s_fb eM154 (by omega) (s_fb eM156 (by omega) (rfl)))
        have u158r := rr_eq (lwP gf gn a1 gi) (M0.1 98 11).toInt (M0.1 98 12).toInt (M144.1 98 11).toInt (M144.1 98 12).toInt (M144.1 98 6).toInt (M156.1 98 11).toInt (M156.1 98 12).toInt (M156.1 98 6).toInt (by omega) (by omega) (by omega) (by omega)
        have u158c := ck_i (M156.1 98 11).toInt (M156.1 102 26).toInt (M156.1 102 1).toInt (M156.1 102 0).toInt (M0.1 102 26).toInt (M0.1 102 1).toInt (M0.1 102 0).toInt (by omega)
        have zz102_0 : (M156.1 102 0).toInt = (M144.1 102 0).toInt := s_fb eM153 (by omega) (s_fb eM154 (by omega) (s_fb eM156 (by omega) (rfl))); have zz102_1 : (M156.1 102 1).toInt = (M144.1 102 1).toInt := s_fb eM153 (by omega) (s_fb eM154 (by omega) (s_fb eM156 (by omega) (rfl))); have zz102_26 : (M156.1 102 26).toInt = (M144.1 102 26).toInt := s_fb eM153 (by omega) (s_fb eM154 (by omega) (s_fb eM156 (by omega) (rfl))); have zz98_11 : (M156.1 98 11).toInt = (M144.1 98 11).toInt := s_fa eM153 (by decide) (s_fa eM154 (by decide) (s_fa eM156 (by decide) (rfl))); have zz98_12 : (M156.1 98 12).toInt = (M144.1 98 12).toInt := s_fa eM153 (by decide) (s_fa eM154 (by decide) (s_fa eM156 (by decide) (rfl))); have zz98_6 : (M156.1 98 6).toInt = (M144.1 98 6).toInt := s_fa eM153 (by decide) (s_fa eM154 (by decide) (s_fa eM156 (by decide) (rfl))); have zz98_8 : (M156.1 98 8).toInt = (M144.1 98 8).toInt := s_fa eM153 (by decide) (s_fa eM154 (by decide) (s_fa eM156 (by decide) (rfl))); exact hret _ _ _ dX12_readLaw_89 ⟨hM156, ((((FR.rf.tr fM144 (by decide)).wI eM153 (by decide)).wI eM154 (by decide)).wI eM156 (by decide)), by omega⟩
      · have u159w := lv_w0 (M := M144) (by omega)
        have u160c := ck_i (M144.1 98 11).toInt (M144.1 102 26).toInt (M144.1 102 1).toInt (M144.1 102 0).toInt (M0.1 102 26).toInt (M0.1 102 1).toInt (M0.1 102 0).toInt (by omega)
        exact hret _ _ _ dX12_readLaw_51 ⟨hM144, (FR.rf.tr fM144 (by decide)), by omega⟩
    refine y_if_ne C 39 dX12_readLaw_28 (by decide) (by omega) (fun h133 => ?_) (fun h133 => ?_)
    · refine j_aload_n C 1 0 dX12_readLaw_39 rfl rfl ?_
      refine y_iconst C dX12_readLaw_40 ?_
      refine j_callVv C (d := 30) (As := [.int (sI 0)]) (st := []) 98 (s_lt rfl rfl) (s_kc (c := 11) rfl rfl) (by decide) rfl (s7_X12_readTruth hM127 hpr gf gn (exP gf gn 2058 (nxF gf gn gi)).2.2 (by omega) (by omega) (by omega) (by omega) (by omega)) gX12_readLaw_X12_readTruth rfl hdX12_readTruth (by decide) (Nat.le_of_ble_eq_true rfl) dX12_readLaw_41 rfl (fun M135 h136 => ?_)
      obtain ⟨hM135, fM135, h137⟩ := h136
      have bM135 := tkm_b (f := gf) (n := gn) (M := M135) (by omega)
      have qM135 := po_rr (trP gf gn (unR gf gn 6)) gn (exP gf gn 2058 (nxF gf gn gi)).2.2 (M127.1 98 11).toInt (M127.1 98 12).toInt (M127.1 98 6).toInt (M135.1 98 11).toInt (M135.1 98 12).toInt (M135.1 98 6).toInt (tr_g gf gn (unR_g gf gn 6)) (by omega) (by omega)
      have u138l := ri_l (M := M135) (by omega)
      have u138l := lw_2 gf gn a1 gi (M0.1 98 11).toInt (M0.1 98 12).toInt (M127.1 98 11).toInt (M127.1 98 12).toInt (M127.1 98 6).toInt (M135.1 98 11).toInt (M135.1 98 12).toInt (M135.1 98 6).toInt (by omega) (by omega) (by omega)
      have u138p := po_lw gf gn a1 gi (M0.1 98 11).toInt (M0.1 98 12).toInt (M0.1 98 6).toInt (M135.1 98 11).toInt (M135.1 98 12).toInt (M135.1 98 6).toInt (by omega) (by omega) (by omega)
      refine j_lv [1, 2, 0] rfl ?_; exact J145 M135 (by omega) hM135 ((FR.rf.tr fM127 (by decide)).tr fM135 (by decide))
    · refine j_aload_n C 1 0 dX12_readLaw_31 rfl rfl ?_
      refine y_iconst C dX12_readLaw_32 ?_
      refine j_callVv C (d := 27) (As := [.int (sI 0)]) (st := []) 98 (s_lt rfl rfl) (s_kc (c := 11) rfl rfl) (by decide) rfl (s7_X12_readSum hM127 hpr gf gn (exP gf gn 2058 (nxF gf gn gi)).2.2 (by omega) (by omega) (by omega) (by omega) (by omega)) gX12_readLaw_X12_readSum rfl hdX12_readSum (by decide) (Nat.le_of_ble_eq_true rfl) dX12_readLaw_33 rfl (fun M140 h141 => ?_)
      obtain ⟨hM140, fM140, h142⟩ := h141
      have bM140 := tkm_b (f := gf) (n := gn) (M := M140) (by omega)
      have qM140 := po_rr (suR gf gn 6) gn (exP gf gn 2058 (nxF gf gn gi)).2.2 (M127.1 98 11).toInt (M127.1 98 12).toInt (M127.1 98 6).toInt (M140.1 98 11).toInt (M140.1 98 12).toInt (M140.1 98 6).toInt (suR_g gf gn 6) (by omega) (by omega)
      refine j_goto C 44 dX12_readLaw_36 (by decide) ?_
      have u143l := ri_l (M := M140) (by omega)
      have u143l := lw_1 gf gn a1 gi (M0.1 98 11).toInt (M0.1 98 12).toInt (M127.1 98 11).toInt (M127.1 98 12).toInt (M127.1 98 6).toInt (M140.1 98 11).toInt (M140.1 98 12).toInt (M140.1 98 6).toInt (by omega) (by omega) (by omega)
      have u143p := po_lw gf gn a1 gi (M0.1 98 11).toInt (M0.1 98 12).toInt (M0.1 98 6).toInt (M140.1 98 11).toInt (M140.1 98 12).toInt (M140.1 98 6).toInt (by omega) (by omega) (by omega)
      refine j_lv [1, 2, 0] rfl ?_; exact J145 M140 (by omega) hM140 ((FR.rf.tr fM127 (by decide)).tr fM140 (by decide))
  refine y_if_ne C 18 dX12_readLaw_10 (by decide) (by omega) (fun h119 => ?_) (fun h119 => ?_)
  · have u120x := ex_1 gf gn 2058 (nxF gf gn gi) (M106.1 98 11).toInt (M106.1 98 12).toInt (M106.1 98 6).toInt (M113.1 98 11).toInt (M113.1 98 12).toInt (M113.1 98 6).toInt (by omega) (by omega) (by omega) (by omega) (by omega) (by omega)
    have u120y := rr_fr (exP gf gn 2058 (nxF gf gn gi)) (M0.1 98 11).toInt (M0.1 98 12).toInt (M106.1 98 11).toInt (M106.1 98 12).toInt (M113.1 98 11).toInt (M113.1 98 12).toInt (M113.1 98 6).toInt (by omega) (by omega) (by omega)
    have u120p := po_rr (exP gf gn 2058) gn (nxF gf gn gi) (M106.1 98 11).toInt (M106.1 98 12).toInt (M106.1 98 6).toInt (M113.1 98 11).toInt (M113.1 98 12).toInt (M113.1 98 6).toInt (ex_g gf gn 2058 (by decide)) (by omega) (by omega)
    have zz102_26 : (M113.1 102 26).toInt = (M0.1 102 26).toInt := s_fF fM106 (by decide) (s_fF fM113 (by decide) (rfl)); have zz102_1 : (M113.1 102 1).toInt = (M0.1 102 1).toInt := s_fF fM106 (by decide) (s_fF fM113 (by decide) (rfl)); have zz102_0 : (M113.1 102 0).toInt = (M0.1 102 0).toInt := s_fF fM106 (by decide) (s_fF fM113 (by decide) (rfl)); exact J128 M113 (by omega) hM113 ((FR.rf.tr fM106 (by decide)).tr fM113 (by decide))
  · refine j_aload_n C 0 0 dX12_readLaw_13 rfl rfl ?_
    refine y_iconst C dX12_readLaw_14 ?_
    have p121 := po_eq gn (nxF gf gn gi) (M106.1 98 11).toInt (M106.1 98 6).toInt (M113.1 98 11).toInt (M113.1 98 6).toInt (by omega) (by omega) (by omega)
    refine j_callVv C (d := 0) (As := [.int (sI 2)]) (st := []) 98 (s_lt rfl rfl) (s_kc (c := 11) rfl rfl) (by decide) rfl (s1_X12_fails hM113 hpr 2 (by omega) gf gn (nxF gf gn gi) (by omega) (by omega) (by omega) (by omega) (by omega)) gX12_readLaw_X12_fails rfl hdX12_fails (by decide) (Nat.le_of_ble_eq_true rfl) dX12_readLaw_15 rfl (fun M123 h124 => ?_)
    obtain ⟨hM123, fM123, h125⟩ := h124
    have bM123 := tkm_b (f := gf) (n := gn) (M := M123) (by omega)
    have qM123 := po_f gn ((faQ gf gn 2) (nxF gf gn gi)).2.2 (M123.1 98 11).toInt (M123.1 98 6).toInt (by omega)
    have u126v := lv_c (M := M113) (N := M123) (FR.cell fM123 (by decide)) (by omega) (by omega)
    have u126l := ri_l (M := M123) (by omega)
    have u126x := ex_2z gf gn 2058 (nxF gf gn gi) (M106.1 98 11).toInt (M106.1 98 12).toInt (M106.1 98 6).toInt (M123.1 98 11).toInt (M123.1 98 12).toInt (M123.1 98 6).toInt (by omega) (by omega) (rr_fr (faQ gf gn 2 (nxF gf gn gi)) (M106.1 98 11).toInt (M106.1 98 12).toInt (M113.1 98 11).toInt (M113.1 98 12).toInt (M123.1 98 11).toInt (M123.1 98 12).toInt (M123.1 98 6).toInt (by omega) (by omega) (by omega))
    have u126y := rr_fr (exP gf gn 2058 (nxF gf gn gi)) (M0.1 98 11).toInt (M0.1 98 12).toInt (M106.1 98 11).toInt (M106.1 98 12).toInt (M123.1 98 11).toInt (M123.1 98 12).toInt (M123.1 98 6).toInt (by omega) (by omega) (by omega)
    have u126p := po_rr (exP gf gn 2058) gn (nxF gf gn gi) (M106.1 98 11).toInt (M106.1 98 12).toInt (M106.1 98 6).toInt (M123.1 98 11).toInt (M123.1 98 12).toInt (M123.1 98 6).toInt (ex_g gf gn 2058 (by decide)) (by omega) (by omega)
    have zz102_26 : (M123.1 102 26).toInt = (M0.1 102 26).toInt := s_fF fM106 (by decide) (s_fF fM113 (by decide) (s_fF fM123 (by decide) (rfl))); have zz102_1 : (M123.1 102 1).toInt = (M0.1 102 1).toInt := s_fF fM106 (by decide) (s_fF fM113 (by decide) (s_fF fM123 (by decide) (rfl))); have zz102_0 : (M123.1 102 0).toInt = (M0.1 102 0).toInt := s_fF fM106 (by decide) (s_fF fM113 (by decide) (s_fF fM123 (by decide) (rfl))); exact J128 M123 (by omega) hM123 (((FR.rf.tr fM106 (by decide)).tr fM113 (by decide)).tr fM123 (by decide))
set_option maxHeartbeats 4000000 in
theorem s1_X12_takes {l : Launch} {dC : Nat → ClassId} {dI : Nat → Nat → Nat} {ad : Nat → Nat} {cA : Nat → ClassId} {pr : Nat → Nat → Bool} {Kz : mm_M} {M0 : mm_M} (hM0 : INV pr Kz M0) (hpr : PM pr) (a1 : Int) (ha1 : -2147483648 ≤ a1 ∧ a1 ≤ 2147483647) (a2 : Int) (ha2 : -2147483648 ≤ a2 ∧ a2 ≤ 2147483647) (gf : Nat → Int) (gn : Int) (gi : Int) (hp0 : b01 (RIP M0) = 1) (hp1 : 0 ≤ a1 ∧ a1 ≤ 1) (hp2 : 9 ≤ a2 ∧ a2 ≤ 999) (hp3 : b01 (TKM gf gn M0) = 1) (hp4 : b01 (PO gn gi (M0.1 98 11).toInt (M0.1 98 6).toInt) = 1) (hp5 : b01 (PI M0) = 1) : Ci l 6 yX12_takes wsX12_takes dC dI ad cA [.ref (ad 98), .int (sI a1), .int (sI a2)] M0 (fun r M' => ∃ a : Int, r = sI a ∧ INV pr Kz M' ∧ FR [98] M0 M' ∧ 0 ≤ a ∧ a ≤ 999 ∧ (b01 (RIP M') = 1) ∧ ((M'.1 98 8).toInt = (M0.1 98 8).toInt) ∧ ((M0.1 98 6).toInt ≤ (M'.1 98 6).toInt) ∧ (¬ (M'.1 98 11).toInt = 0 ∨ (M0.1 98 11).toInt = 0 ∧ a1 ≤ a ∧ a ≤ a2 ∧ (M0.1 98 6).toInt + 1 ≤ (M'.1 98 6).toInt) ∧ (b01 (PI M') = 1) ∧ (b01 (TKM gf gn M') = 1) ∧ b01 (RR ((nuP gf gn a1 a2) gi) (M0.1 98 11).toInt (M0.1 98 12).toInt (M'.1 98 11).toInt (M'.1 98 12).toInt (M'.1 98 6).toInt) = 1) := by
  refine ci_of (cc := cX12_takes) (maxL := 4) (ty := .int) (lv := [(0, .ref (ad 98)), (1, .int (sI a1)), (2, .int (sI a2))]) (by decide) rfl (fun r M' hp => rfl) (Nat.le_of_ble_eq_true rfl) rfl ?_
  intro p e s m args below meth c A Q C hret
  have u101l := ri_l (M := M0) (by omega)
  have k102 := tkm_K (f := gf) (n := gn) (M := M0) (by omega)
  have u101n := tkm_N (f := gf) (n := gn) (M := M0) (by omega)
  have k103 := kd_2 (kd_23 gf gn (M0.1 98 6).toInt) (by omega)
  refine j_aload_n C 0 0 dX12_takes_0 rfl rfl ?_
  refine y_bipush C dX12_takes_1 rfl ?_
  have k104 := tkm_K (f := gf) (n := gn) (M := M0) (by omega)
  have k105 := kd_2 (kd_23 gf gn (M0.1 98 6).toInt) (by omega)
  refine j_callVi C (d := 0) (As := [.int (sI 23)]) (st := []) 98 (s_lt rfl rfl) (s_kc (c := 11) rfl rfl) (by decide) rfl (s1_X12_is hM0 23 (by omega)) gX12_takes_X12_is rfl hdX12_is (by decide) (Nat.le_of_ble_eq_true rfl) dX12_takes_3 rfl (fun r106 M107 h108 => ?_)
  obtain ⟨a110, rfl, rfl, h109⟩ := h108
  refine y_if_ne C 17 dX12_takes_6 (by decide) (by omega) (fun h111 => ?_) (fun h111 => ?_)
  · refine j_aload_n C 0 0 dX12_takes_17 rfl rfl ?_
    refine y_getI C 11 _ _ fX12_takes_121 rfl rfl ft_11_10 sb_11_10 hM0 dX12_takes_18 (fun a112 ea112 la112 ua112 => ?_)
    obtain rfl : a112 = (M0.1 98 10).toInt := ea112
    refine y_i2l C dX12_takes_21 (by omega) ?_
    refine j_iload_n C 1 1 dX12_takes_22 rfl rfl ?_
    refine y_i2l C dX12_takes_23 (by omega) ?_
    refine j_iload_n C 2 2 dX12_takes_24 rfl rfl ?_
    refine y_i2l C dX12_takes_25 (by omega) ?_
    refine j_callSi C (d := 0) (As := [.long (sJ (M0.1 98 10).toInt), .long (sJ a1), .long (sJ a2)]) (st := []) (s1_X12_within hM0 (M0.1 98 10).toInt (by omega) a1 (by omega) a2 (by omega)) gX12_takes_X12_within rfl hdX12_withins (by decide) (Nat.le_of_ble_eq_true rfl) dX12_takes_26 rfl (fun r114 M115 h116 => ?_)
    obtain ⟨a118, rfl, rfl, h117⟩ := h116
    refine y_if_ne C 37 dX12_takes_29 (by decide) (by omega) (fun h119 => ?_) (fun h119 => ?_)
    · have u120l := ri_l (M := M0) (by omega)
      refine j_aload_n C 0 0 dX12_takes_37 rfl rfl ?_
      refine y_getI C 11 _ _ fX12_takes_121 rfl rfl ft_11_10 sb_11_10 hM0 dX12_takes_38 (fun a121 ea121 la121 ua121 => ?_)
      obtain rfl : a121 = (M0.1 98 10).toInt := ea121
      refine j_istore_n C 3 [(3, .int (sI (M0.1 98 10).toInt)), (0, .ref (ad 98)), (1, .int (sI a1)), (2, .int (sI a2))] dX12_takes_41 rfl (by decide) rfl ?_
      refine j_aload_n C 1 0 dX12_takes_42 rfl rfl ?_
      refine y_getI C 11 _ _ fX12_takes_126 rfl rfl ft_11_11 sb_11_11 hM0 dX12_takes_43 (fun a123 ea123 la123 ua123 => ?_)
      obtain rfl : a123 = (M0.1 98 11).toInt := ea123
      refine y_if_ne C 53 dX12_takes_46 (by decide) (by omega) (fun h125 => ?_) (fun h125 => ?_)
      · refine j_iload_n C 0 3 dX12_takes_53 rfl rfl ?_
        have u126r := nu_1 gf gn a1 a2 gi (M0.1 98 11).toInt (M0.1 98 12).toInt (M0.1 98 6).toInt (M0.1 98 11).toInt (M0.1 98 12).toInt (M0.1 98 6).toInt (by omega) (by omega) (by omega) (by omega) (by omega) (by omega)
        exact hret _ _ _ _ dX12_takes_54 ⟨(M0.1 98 10).toInt, rfl, hM0, FR.rf, by omega⟩
      · have u127k := fun h => ri_k (M := M0) (by omega) h
        refine j_aload_n C 1 0 dX12_takes_49 rfl rfl ?_
        have k128 := tkm_p (f := gf) (n := gn) (M := M0) (by omega)
        have k129 := tkm_K (f := gf) (n := gn) (M := M0) (by omega)
        refine j_callVv C (d := 5) (As := []) (st := []) 98 (s_lt rfl rfl) (s_kc (c := 11) rfl rfl) (by decide) rfl (s1_X12_next hM0 hpr gf gn (by omega) (by omega) (by omega) (by omega)) gX12_takes_X12_next rfl hdX12_next (by decide) (Nat.le_of_ble_eq_true rfl) dX12_takes_50 rfl (fun M131 h132 => ?_)
        obtain ⟨hM131, fM131, h133⟩ := h132
        have bM131 := tkm_b (f := gf) (n := gn) (M := M131) (by omega)
        have qM131 := nx_po (f := gf) (n := gn) (i := gi) (M := M0) (M' := M131) (by omega) (by omega) (by omega) (by omega) (by omega)
        refine j_iload_n C 0 3 dX12_takes_53 rfl rfl ?_
        have u134r := nu_1 gf gn a1 a2 gi (M0.1 98 11).toInt (M0.1 98 12).toInt (M0.1 98 6).toInt (M131.1 98 11).toInt (M131.1 98 12).toInt (M131.1 98 6).toInt (by omega) (by omega) (by omega) (by omega) (by omega) (by omega)
        exact hret _ _ _ _ dX12_takes_54 ⟨(M0.1 98 10).toInt, rfl, hM131, (FR.rf.tr fM131 (by decide)), by omega⟩
    · refine j_aload_n C 0 0 dX12_takes_32 rfl rfl ?_
      refine y_iconst C dX12_takes_33 ?_
      refine j_callVv C (d := 0) (As := [.int (sI 3)]) (st := []) 98 (s_lt rfl rfl) (s_kc (c := 11) rfl rfl) (by decide) rfl (s1_X12_fails hM0 hpr 3 (by omega) gf gn gi (by omega) (by omega) (by omega) (by omega) (by omega)) gX12_takes_X12_fails rfl hdX12_fails (by decide) (Nat.le_of_ble_eq_true rfl) dX12_takes_34 rfl (fun M136 h137 => ?_)
      obtain ⟨hM136, fM136, h138⟩ := h137
      have bM136 := tkm_b (f := gf) (n := gn) (M := M136) (by omega)
      have qM136 := po_f gn ((faQ gf gn 3) gi).2.2 (M136.1 98 11).toInt (M136.1 98 6).toInt (by omega)
      have u139l := ri_l (M := M136) (by omega)
      refine j_aload_n C 0 0 dX12_takes_37 rfl rfl ?_
      refine y_getI C 11 _ _ fX12_takes_121 rfl rfl ft_11_10 sb_11_10 hM136 dX12_takes_38 (fun a140 ea140 la140 ua140 => ?_)
      obtain rfl : a140 = (M136.1 98 10).toInt := ea140
      refine j_istore_n C 3 [(3, .int (sI (M136.1 98 10).toInt)), (0, .ref (ad 98)), (1, .int (sI a1)), (2, .int (sI a2))] dX12_takes_41 rfl (by decide) rfl ?_
      refine j_aload_n C 1 0 dX12_takes_42 rfl rfl ?_
      refine y_getI C 11 _ _ fX12_takes_126 rfl rfl ft_11_11 sb_11_11 hM136 dX12_takes_43 (fun a142 ea142 la142 ua142 => ?_)
      obtain rfl : a142 = (M136.1 98 11).toInt := ea142
      refine y_if_ne C 53 dX12_takes_46 (by decide) (by omega) (fun h144 => ?_) (fun h144 => ?_)
      · refine j_iload_n C 0 3 dX12_takes_53 rfl rfl ?_
        have u145r := nu_3 gf gn a1 a2 gi (M0.1 98 11).toInt (M0.1 98 12).toInt (M0.1 98 6).toInt (M136.1 98 11).toInt (M136.1 98 12).toInt (M136.1 98 6).toInt (by omega) (by omega) (by omega)
        exact hret _ _ _ _ dX12_takes_54 ⟨(M136.1 98 10).toInt, rfl, hM136, (FR.rf.tr fM136 (by decide)), by omega⟩
      · have u146k := fun h => ri_k (M := M136) (by omega) h
        refine j_aload_n C 1 0 dX12_takes_49 rfl rfl ?_
        have k147 := tkm_p (f := gf) (n := gn) (M := M136) (by omega)
        have k148 := tkm_K (f := gf) (n := gn) (M := M136) (by omega)
        refine j_callVv C (d := 5) (As := []) (st := []) 98 (s_lt rfl rfl) (s_kc (c := 11) rfl rfl) (by decide) rfl (s1_X12_next hM136 hpr gf gn (by omega) (by omega) (by omega) (by omega)) gX12_takes_X12_next rfl hdX12_next (by decide) (Nat.le_of_ble_eq_true rfl) dX12_takes_50 rfl (fun M150 h151 => ?_)
        obtain ⟨hM150, fM150, h152⟩ := h151
        have bM150 := tkm_b (f := gf) (n := gn) (M := M150) (by omega)
        have qM150 := nx_po (f := gf) (n := gn) (i := ((faQ gf gn 3) gi).2.2) (M := M136) (M' := M150) (by omega) (by omega) (by omega) (by omega) (by omega)
        refine j_iload_n C 0 3 dX12_takes_53 rfl rfl ?_
        have u153r := nu_1 gf gn a1 a2 gi (M0.1 98 11).toInt (M0.1 98 12).toInt (M0.1 98 6).toInt (M150.1 98 11).toInt (M150.1 98 12).toInt (M150.1 98 6).toInt (by omega) (by omega) (by omega) (by omega) (by omega) (by omega)
        exact hret _ _ _ _ dX12_takes_54 ⟨(M136.1 98 10).toInt, rfl, hM150, ((FR.rf.tr fM136 (by decide)).tr fM150 (by decide)), by omega⟩
  · refine j_aload_n C 0 0 dX12_takes_9 rfl rfl ?_
    refine y_iconst C dX12_takes_10 ?_
    refine j_callVv C (d := 0) (As := [.int (sI 2)]) (st := []) 98 (s_lt rfl rfl) (s_kc (c := 11) rfl rfl) (by decide) rfl (s1_X12_fails hM0 hpr 2 (by omega) gf gn gi (by omega) (by omega) (by omega) (by omega) (by omega)) gX12_takes_X12_fails rfl hdX12_fails (by decide) (Nat.le_of_ble_eq_true rfl) dX12_takes_11 rfl (fun M155 h156 => ?_)
    obtain ⟨hM155, fM155, h157⟩ := h156
    have bM155 := tkm_b (f := gf) (n := gn) (M := M155) (by omega)
    have qM155 := po_f gn ((faQ gf gn 2) gi).2.2 (M155.1 98 11).toInt (M155.1 98 6).toInt (by omega)
    refine j_goto C 37 dX12_takes_14 (by decide) ?_
    have u158l := ri_l (M := M155) (by omega)
    refine j_aload_n C 0 0 dX12_takes_37 rfl rfl ?_
    refine y_getI C 11 _ _ fX12_takes_121 rfl rfl ft_11_10 sb_11_10 hM155 dX12_takes_38 (fun a159 ea159 la159 ua159 => ?_)
    obtain rfl : a159 = (M155.1 98 10).toInt := ea159
    refine j_istore_n C 3 [(3, .int (sI (M155.1 98 10).toInt)), (0, .ref (ad 98)), (1, .int (sI a1)), (2, .int (sI a2))] dX12_takes_41 rfl (by decide) rfl ?_
    refine j_aload_n C 1 0 dX12_takes_42 rfl rfl ?_
    refine y_getI C 11 _ _ fX12_takes_126 rfl rfl ft_11_11 sb_11_11 hM155 dX12_takes_43 (fun a161 ea161 la161 ua161 => ?_)
    obtain rfl : a161 = (M155.1 98 11).toInt := ea161
    refine y_if_ne C 53 dX12_takes_46 (by decide) (by omega) (fun h163 => ?_) (fun h163 => ?_)
    · refine j_iload_n C 0 3 dX12_takes_53 rfl rfl ?_
      have u164r := nu_2z gf gn a1 a2 gi (M0.1 98 11).toInt (M0.1 98 12).toInt (M0.1 98 6).toInt (M155.1 98 11).toInt (M155.1 98 12).toInt (M155.1 98 6).toInt (by omega) (by omega) (by omega)
      exact hret _ _ _ _ dX12_takes_54 ⟨(M155.1 98 10).toInt, rfl, hM155, (FR.rf.tr fM155 (by decide)), by omega⟩
    · have u165k := fun h => ri_k (M := M155) (by omega) h
      refine j_aload_n C 1 0 dX12_takes_49 rfl rfl ?_
      have k166 := tkm_p (f := gf) (n := gn) (M := M155) (by omega)
      have k167 := tkm_K (f := gf) (n := gn) (M := M155) (by omega)
      refine j_callVv C (d := 5) (As := []) (st := []) 98 (s_lt rfl rfl) (s_kc (c := 11) rfl rfl) (by decide) rfl (s1_X12_next hM155 hpr gf gn (by omega) (by omega) (by omega) (by omega)) gX12_takes_X12_next rfl hdX12_next (by decide) (Nat.le_of_ble_eq_true rfl) dX12_takes_50 rfl (fun M169 h170 => ?_)
      obtain ⟨hM169, fM169, h171⟩ := h170
      have bM169 := tkm_b (f := gf) (n := gn) (M := M169) (by omega)
      have qM169 := nx_po (f := gf) (n := gn) (i := ((faQ gf gn 2) gi).2.2) (M := M155) (M' := M169) (by omega) (by omega) (by omega) (by omega) (by omega)
      refine j_iload_n C 0 3 dX12_takes_53 rfl rfl ?_
      have u172r := nu_1 gf gn a1 a2 gi (M0.1 98 11).toInt (M0.1 98 12).toInt (M0.1 98 6).toInt (M169.1 98 11).toInt (M169.1 98 12).toInt (M169.1 98 6).toInt (by omega) (by omega) (by omega) (by omega) (by omega) (by omega)
      exact hret _ _ _ _ dX12_takes_54 ⟨(M155.1 98 10).toInt, rfl, hM169, ((FR.rf.tr fM155 (by decide)).tr fM169 (by decide)), by omega⟩
