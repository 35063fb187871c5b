set_option maxHeartbeats 4000000 in
theorem s7_X8_both {l : Launch} {dC : Nat → ClassId} {dI : Nat → Nat → Nat} {ad : Nat → Nat} {cA : Nat → ClassId} {pr : Nat → Nat → Bool} {Kz : mm_M} {M0 : mm_M} (hM0 : INV pr Kz M0) (hpr : PX pr) (gf : Nat → Int) (gn : Int) (gi : Int) (hp0 : b01 (TKX gf gn M0) = 1) (hp1 : b01 (PO gn gi (M0.1 78 5).toInt (psX M0)) = 1) : Cv l 22 yX8_both wsX8_both dC dI ad cA [.ref (ad 78), .int (sI 1)] M0 (fun M' => INV pr Kz M' ∧ (b01 (TKX gf gn M') = 1) ∧ b01 (RR ((boP gf gn (unR gf gn 5)) gi) (M0.1 78 5).toInt (M0.1 78 6).toInt (M'.1 78 5).toInt (M'.1 78 6).toInt (psX M')) = 1) := by
  refine cv_of (cc := cX8_both) (maxL := 3) (lv := [(0, .ref (ad 78)), (1, .int (sI 1))]) (by decide) rfl (Nat.le_of_ble_eq_true rfl) rfl ?_
  intro p e s m args below meth c A Q C hret
  refine j_aload_n C 0 0 dX8_both_0 rfl rfl ?_
  refine j_iload_n C 1 1 dX8_both_1 rfl rfl ?_
  refine j_callVv C (d := 21) (As := [.int (sI 1)]) (st := []) 78 (s_lt rfl rfl) (s_kc (c := 7) rfl rfl) (by decide) rfl (s7_X8_unit hM0 hpr gf gn gi (by omega) (by omega)) gX8_both_X8_unit rfl hdX8_unit (by decide) (Nat.le_of_ble_eq_true rfl) dX8_both_2 rfl (fun M102 h103 => ?_)
  obtain ⟨hM102, h104⟩ := h103
  have bM102 := tkx_b (f := gf) (n := gn) (M := M102) (by omega)
  have qM102 := po_rr (unR gf gn 5) gn gi (M0.1 78 5).toInt (M0.1 78 6).toInt (psX M0) (M102.1 78 5).toInt (M102.1 78 6).toInt (psX M102) (unR_g gf gn 5) (by omega) (by omega)
  refine y_iconst C dX8_both_5 ?_
  have u105l := ll_0 (luP gf gn 1015 1015 (unR gf gn 5)) gn ((unR gf gn 5) gi).2.2 (M102.1 78 5).toInt (M102.1 78 6).toInt (psX M102) (by omega)
  refine j_istore_n C 2 [(2, .int (sI 0)), (0, .ref (ad 78)), (1, .int (sI 1))] dX8_both_6 rfl (by decide) rfl ?_
  have L134 : ∀ (n132 : Nat), ∀ (a135 : Int) (M136 : mm_M) (gq137 : Int), (0 ≤ a135 ∧ a135 ≤ 900 ∧ (b01 (LL (luP gf gn 1015 1015 (unR gf gn 5)) gn ((unR gf gn 5) gi).2.2 gq137 a135 (M102.1 78 5).toInt (M102.1 78 6).toInt (M136.1 78 5).toInt (M136.1 78 6).toInt (psX M136)) = 1) ∧ (b01 (TKX gf gn M136) = 1) ∧ (b01 (PO gn gq137 (M136.1 78 5).toInt (psX M136)) = 1) ∧ (900 - a135) < (n132 : Int)) → INV pr Kz M136 → jj p l e (cn_R 22) s m args below meth c 0 0 Q 3 dC dI ad cA A M136 7 [(0, .ref (ad 78)), (1, .int (sI 1)), (2, .int (sI a135))] [] := by
    intro n132
    induction n132 with
    | zero =>
      intro a135 M136 gq137 h138 hM136
      exfalso; omega
    | succ n132 ih133 =>
      intro a135 M136 gq137 h138 hM136
      have u139b := tkx_b (f := gf) (n := gn) (M := M136) (by omega)
      refine j_iload_n C 2 2 dX8_both_7 rfl rfl ?_
      refine y_sipush C dX8_both_8 rfl ?_
      refine y_icmp_ge C 59 dX8_both_11 (by decide) (by omega) (fun h140 => ?_) (fun h140 => ?_)
      · have u162e := ll_e gf gn 1015 1015 (unR gf gn 5) ((unR gf gn 5) gi).2.2 gq137 a135 (M102.1 78 5).toInt (M102.1 78 6).toInt (M136.1 78 5).toInt (M136.1 78 6).toInt (psX M136) (by decide) (unR_g gf gn 5) (by omega) (by omega)
        have u162r : b01 (RR ((boP gf gn (unR gf gn 5)) gi) (M0.1 78 5).toInt (M0.1 78 6).toInt (M136.1 78 5).toInt (M136.1 78 6).toInt (psX M136)) = 1 := rr_sq ((unR gf gn 5) gi) (luP gf gn 1015 1015 (unR gf gn 5)) (M0.1 78 5).toInt (M0.1 78 6).toInt (M102.1 78 5).toInt (M102.1 78 6).toInt (psX M102) (M136.1 78 5).toInt (M136.1 78 6).toInt (psX M136) (by omega) (by omega)
        exact hret _ _ _ dX8_both_59 ⟨hM136, by omega⟩
      · refine j_aload_n C 0 0 dX8_both_14 rfl rfl ?_
        refine y_getI C 7 _ _ fX8_both_22 rfl rfl ft_7_5 sb_7_5 hM136 dX8_both_15 (fun a141 ea141 la141 ua141 => ?_)
        refine y_if_ne C 59 dX8_both_18 (by decide) (by omega) (fun h143 => ?_) (fun h143 => ?_)
        · have u163e := ll_e gf gn 1015 1015 (unR gf gn 5) ((unR gf gn 5) gi).2.2 gq137 a135 (M102.1 78 5).toInt (M102.1 78 6).toInt (M136.1 78 5).toInt (M136.1 78 6).toInt (psX M136) (by decide) (unR_g gf gn 5) (by omega) (by omega)
          have u163r : b01 (RR ((boP gf gn (unR gf gn 5)) gi) (M0.1 78 5).toInt (M0.1 78 6).toInt (M136.1 78 5).toInt (M136.1 78 6).toInt (psX M136)) = 1 := rr_sq ((unR gf gn 5) gi) (luP gf gn 1015 1015 (unR gf gn 5)) (M0.1 78 5).toInt (M0.1 78 6).toInt (M102.1 78 5).toInt (M102.1 78 6).toInt (psX M102) (M136.1 78 5).toInt (M136.1 78 6).toInt (psX M136) (by omega) (by omega)
          exact hret _ _ _ dX8_both_59 ⟨hM136, by omega⟩
        · refine j_aload_n C 0 0 dX8_both_21 rfl rfl ?_
          refine j_callVi C (d := 0) (As := []) (st := []) 78 (s_lt rfl rfl) (s_kc (c := 7) rfl rfl) (by decide) rfl (s1_X8_token hM136 gf gn gq137 (by omega) (by omega)) gX8_both_X8_token rfl hdX8_token (by decide) (Nat.le_of_ble_eq_true rfl) dX8_both_22 rfl (fun r144 M145 h146 => ?_)
          obtain ⟨a148, rfl, rfl, h147⟩ := h146
          refine y_sipush C dX8_both_25 rfl ?_
          refine y_icmp_ne C 59 dX8_both_28 (by decide) (by omega) (fun h149 => ?_) (fun h149 => ?_)
          · have u164e := ll_e gf gn 1015 1015 (unR gf gn 5) ((unR gf gn 5) gi).2.2 gq137 a135 (M102.1 78 5).toInt (M102.1 78 6).toInt (M136.1 78 5).toInt (M136.1 78 6).toInt (psX M136) (by decide) (unR_g gf gn 5) (by omega) (by omega)
            have u164r : b01 (RR ((boP gf gn (unR gf gn 5)) gi) (M0.1 78 5).toInt (M0.1 78 6).toInt (M136.1 78 5).toInt (M136.1 78 6).toInt (psX M136)) = 1 := rr_sq ((unR gf gn 5) gi) (luP gf gn 1015 1015 (unR gf gn 5)) (M0.1 78 5).toInt (M0.1 78 6).toInt (M102.1 78 5).toInt (M102.1 78 6).toInt (psX M102) (M136.1 78 5).toInt (M136.1 78 6).toInt (psX M136) (by omega) (by omega)
            exact hret _ _ _ dX8_both_59 ⟨hM136, by omega⟩
          · refine j_aload_n C 0 0 dX8_both_31 rfl rfl ?_
            refine j_dup C dX8_both_32 rfl ?_
            refine y_getI C 7 _ _ fX8_both_18 rfl rfl ft_7_2 sb_7_2 hM136 dX8_both_33 (fun a150 ea150 la150 ua150 => ?_)
            refine y_iconst C dX8_both_36 ?_
            refine y_iadd C dX8_both_37 ?_
            refine y_putI C 7 _ _ qX8_both_18 rfl rfl ft_7_2 sb_7_2 hM136 (PX.w hpr rfl rfl) dX8_both_38 (by omega) (fun M152 eM152 hM152 => ?_)
            have xM152 := tkx_j (f := gf) (n := gn) (gi := gq137) eM152 (by omega) (by omega) (by omega) (by omega)
            refine j_aload_n C 0 0 dX8_both_41 rfl rfl ?_
            refine j_iload_n C 1 1 dX8_both_42 rfl rfl ?_
            refine j_callVv C (d := 21) (As := [.int (sI 1)]) (st := []) 78 (s_lt rfl rfl) (s_kc (c := 7) rfl rfl) (by decide) rfl (s7_X8_unit hM152 hpr gf gn (nxF gf gn gq137) (by omega) (by omega)) gX8_both_X8_unit rfl hdX8_unit (by decide) (Nat.le_of_ble_eq_true rfl) dX8_both_43 rfl (fun M154 h155 => ?_)
            obtain ⟨hM154, h156⟩ := h155
            have bM154 := tkx_b (f := gf) (n := gn) (M := M154) (by omega)
            have qM154 := po_rr (unR gf gn 5) gn (nxF gf gn gq137) (M152.1 78 5).toInt (M152.1 78 6).toInt (psX M152) (M154.1 78 5).toInt (M154.1 78 6).toInt (psX M154) (unR_g gf gn 5) (by omega) (by omega)
            refine j_aload_n C 0 0 dX8_both_46 rfl rfl ?_
            refine y_sipush C dX8_both_47 rfl ?_
            refine j_callVv C (d := 0) (As := [.int (sI 1015)]) (st := []) 78 (s_lt rfl rfl) (s_kc (c := 7) rfl rfl) (by decide) rfl (s1_X8_emit hM154 hpr 1015 (by omega) gf gn ((unR gf gn 5) (nxF gf gn gq137)).2.2 (by omega) (by omega)) gX8_both_X8_emit rfl hdX8_emit (by decide) (Nat.le_of_ble_eq_true rfl) dX8_both_50 rfl (fun M158 h159 => ?_)
            obtain ⟨hM158, h160⟩ := h159
            have bM158 := tkx_b (f := gf) (n := gn) (M := M158) (by omega)
            have qM158 := po_eq gn ((unR gf gn 5) (nxF gf gn gq137)).2.2 (M154.1 78 5).toInt (psX M154) (M158.1 78 5).toInt (psX M158) (by omega) (by omega) (by omega)
            refine y_iinc C 2 [(2, .int (sI (a135 + 1))), (0, .ref (ad 78)), (1, .int (sI 1))] dX8_both_53 rfl (by decide) rfl ?_
            have u161s := ll_s gf gn 1015 1015 (unR gf gn 5) ((unR gf gn 5) gi).2.2 gq137 a135 (M102.1 78 5).toInt (M102.1 78 6).toInt (M136.1 78 5).toInt (M136.1 78 6).toInt (psX M136) (M152.1 78 5).toInt (M152.1 78 6).toInt (M154.1 78 5).toInt (M154.1 78 6).toInt (psX M154) (M158.1 78 5).toInt (M158.1 78 6).toInt (psX M158) (by decide) (unR_g gf gn 5) (by omega) (by omega) (by omega) (by omega) (by omega) (by omega) (by omega) (by omega) (by omega)
            refine j_goto C 7 dX8_both_56 (by decide) ?_
            refine j_lv [1, 2, 0] rfl ?_; exact ih133 (a135 + 1) M158 ((unR gf gn 5) (nxF gf gn gq137)).2.2 (by omega) hM158
  refine j_lv [1, 2, 0] rfl ?_; exact L134 2010 0 M102 ((unR gf gn 5) gi).2.2 (by omega) hM102
set_option maxHeartbeats 4000000 in
theorem s7_X8_truth {l : Launch} {dC : Nat → ClassId} {dI : Nat → Nat → Nat} {ad : Nat → Nat} {cA : Nat → ClassId} {pr : Nat → Nat → Bool} {Kz : mm_M} {M0 : mm_M} (hM0 : INV pr Kz M0) (hpr : PX pr) (gf : Nat → Int) (gn : Int) (gi : Int) (hp0 : b01 (TKX gf gn M0) = 1) (hp1 : b01 (PO gn gi (M0.1 78 5).toInt (psX M0)) = 1) : Cv l 23 yX8_truth wsX8_truth dC dI ad cA [.ref (ad 78), .int (sI 1)] M0 (fun M' => INV pr Kz M' ∧ (b01 (TKX gf gn M') = 1) ∧ b01 (RR ((trP gf gn (unR gf gn 5)) gi) (M0.1 78 5).toInt (M0.1 78 6).toInt (M'.1 78 5).toInt (M'.1 78 6).toInt (psX M')) = 1) := by
  refine cv_of (cc := cX8_truth) (maxL := 3) (lv := [(0, .ref (ad 78)), (1, .int (sI 1))]) (by decide) rfl (Nat.le_of_ble_eq_true rfl) rfl ?_
  intro p e s m args below meth c A Q C hret
  refine j_aload_n C 0 0 dX8_truth_0 rfl rfl ?_
  refine j_iload_n C 1 1 dX8_truth_1 rfl rfl ?_
  refine j_callVv C (d := 22) (As := [.int (sI 1)]) (st := []) 78 (s_lt rfl rfl) (s_kc (c := 7) rfl rfl) (by decide) rfl (s7_X8_both hM0 hpr gf gn gi (by omega) (by omega)) gX8_truth_X8_both rfl hdX8_both (by decide) (Nat.le_of_ble_eq_true rfl) dX8_truth_2 rfl (fun M102 h103 => ?_)
  obtain ⟨hM102, h104⟩ := h103
  have bM102 := tkx_b (f := gf) (n := gn) (M := M102) (by omega)
  have qM102 := po_rr (boP gf gn (unR gf gn 5)) gn gi (M0.1 78 5).toInt (M0.1 78 6).toInt (psX M0) (M102.1 78 5).toInt (M102.1 78 6).toInt (psX M102) (bo_g gf gn (unR_g gf gn 5)) (by omega) (by omega)
  refine y_iconst C dX8_truth_5 ?_
  have u105l := ll_0 (luP gf gn 1014 1014 (boP gf gn (unR gf gn 5))) gn ((boP gf gn (unR gf gn 5)) gi).2.2 (M102.1 78 5).toInt (M102.1 78 6).toInt (psX M102) (by omega)
  refine j_istore_n C 2 [(2, .int (sI 0)), (0, .ref (ad 78)), (1, .int (sI 1))] dX8_truth_6 rfl (by decide) rfl ?_
  have L134 : ∀ (n132 : Nat), ∀ (a135 : Int) (M136 : mm_M) (gq137 : Int), (0 ≤ a135 ∧ a135 ≤ 900 ∧ (b01 (LL (luP gf gn 1014 1014 (boP gf gn (unR gf gn 5))) gn ((boP gf gn (unR gf gn 5)) gi).2.2 gq137 a135 (M102.1 78 5).toInt (M102.1 78 6).toInt (M136.1 78 5).toInt (M136.1 78 6).toInt (psX M136)) = 1) ∧ (b01 (TKX gf gn M136) = 1) ∧ (b01 (PO gn gq137 (M136.1 78 5).toInt (psX M136)) = 1) ∧ (900 - a135) < (n132 : Int)) → INV pr Kz M136 → jj p l e (cn_R 23) s m args below meth c 0 0 Q 3 dC dI ad cA A M136 7 [(0, .ref (ad 78)), (1, .int (sI 1)), (2, .int (sI a135))] [] := by
    intro n132
    induction n132 with
    | zero =>
      intro a135 M136 gq137 h138 hM136
      exfalso; omega
    | succ n132 ih133 =>
      intro a135 M136 gq137 h138 hM136
      have u139b := tkx_b (f := gf) (n := gn) (M := M136) (by omega)
      refine j_iload_n C 2 2 dX8_truth_7 rfl rfl ?_
      refine y_sipush C dX8_truth_8 rfl ?_
      refine y_icmp_ge C 59 dX8_truth_11 (by decide) (by omega) (fun h140 => ?_) (fun h140 => ?_)
      · have u162e := ll_e gf gn 1014 1014 (boP gf gn (unR gf gn 5)) ((boP gf gn (unR gf gn 5)) gi).2.2 gq137 a135 (M102.1 78 5).toInt (M102.1 78 6).toInt (M136.1 78 5).toInt (M136.1 78 6).toInt (psX M136) (by decide) (bo_g gf gn (unR_g gf gn 5)) (by omega) (by omega)
        have u162r : b01 (RR ((trP gf gn (unR gf gn 5)) gi) (M0.1 78 5).toInt (M0.1 78 6).toInt (M136.1 78 5).toInt (M136.1 78 6).toInt (psX M136)) = 1 := rr_sq ((boP gf gn (unR gf gn 5)) gi) (luP gf gn 1014 1014 (boP gf gn (unR gf gn 5))) (M0.1 78 5).toInt (M0.1 78 6).toInt (M102.1 78 5).toInt (M102.1 78 6).toInt (psX M102) (M136.1 78 5).toInt (M136.1 78 6).toInt (psX M136) (by omega) (by omega)
        exact hret _ _ _ dX8_truth_59 ⟨hM136, by omega⟩
      · refine j_aload_n C 0 0 dX8_truth_14 rfl rfl ?_
        refine y_getI C 7 _ _ fX8_truth_22 rfl rfl ft_7_5 sb_7_5 hM136 dX8_truth_15 (fun a141 ea141 la141 ua141 => ?_)
        refine y_if_ne C 59 dX8_truth_18 (by decide) (by omega) (fun h143 => ?_) (fun h143 => ?_)
        · have u163e := ll_e gf gn 1014 1014 (boP gf gn (unR gf gn 5)) ((boP gf gn (unR gf gn 5)) gi).2.2 gq137 a135 (M102.1 78 5).toInt (M102.1 78 6).toInt (M136.1 78 5).toInt (M136.1 78 6).toInt (psX M136) (by decide) (bo_g gf gn (unR_g gf gn 5)) (by omega) (by omega)
          have u163r : b01 (RR ((trP gf gn (unR gf gn 5)) gi) (M0.1 78 5).toInt (M0.1 78 6).toInt (M136.1 78 5).toInt (M136.1 78 6).toInt (psX M136)) = 1 := rr_sq ((boP gf gn (unR gf gn 5)) gi) (luP gf gn 1014 1014 (boP gf gn (unR gf gn 5))) (M0.1 78 5).toInt (M0.1 78 6).toInt (M102.1 78 5).toInt (M102.1 78 6).toInt (psX M102) (M136.1 78 5).toInt (M136.1 78 6).toInt (psX M136) (by omega) (by omega)
          exact hret _ _ _ dX8_truth_59 ⟨hM136, by omega⟩
        · refine j_aload_n C 0 0 dX8_truth_21 rfl rfl ?_
          refine j_callVi C (d := 0) (As := []) (st := []) 78 (s_lt rfl rfl) (s_kc (c := 7) rfl rfl) (by decide) rfl (s1_X8_token hM136 gf gn gq137 (by omega) (by omega)) gX8_truth_X8_token rfl hdX8_token (by decide) (Nat.le_of_ble_eq_true rfl) dX8_truth_22 rfl (fun r144 M145 h146 => ?_)
          obtain ⟨a148, rfl, rfl, h147⟩ := h146
          refine y_sipush C dX8_truth_25 rfl ?_
          refine y_icmp_ne C 59 dX8_truth_28 (by decide) (by omega) (fun h149 => ?_) (fun h149 => ?_)
          · have u164e := ll_e gf gn 1014 1014 (boP gf gn (unR gf gn 5)) ((boP gf gn (unR gf gn 5)) gi).2.2 gq137 a135 (M102.1 78 5).toInt (M102.1 78 6).toInt (M136.1 78 5).toInt (M136.1 78 6).toInt (psX M136) (by decide) (bo_g gf gn (unR_g gf gn 5)) (by omega) (by omega)
            have u164r : b01 (RR ((trP gf gn (unR gf gn 5)) gi) (M0.1 78 5).toInt (M0.1 78 6).toInt (M136.1 78 5).toInt (M136.1 78 6).toInt (psX M136)) = 1 := rr_sq ((boP gf gn (unR gf gn 5)) gi) (luP gf gn 1014 1014 (boP gf gn (unR gf gn 5))) (M0.1 78 5).toInt (M0.1 78 6).toInt (M102.1 78 5).toInt (M102.1 78 6).toInt (psX M102) (M136.1 78 5).toInt (M136.1 78 6).toInt (psX M136) (by omega) (by omega)
            exact hret _ _ _ dX8_truth_59 ⟨hM136, by omega⟩
          · refine j_aload_n C 0 0 dX8_truth_31 rfl rfl ?_
            refine j_dup C dX8_truth_32 rfl ?_
            refine y_getI C 7 _ _ fX8_truth_18 rfl rfl ft_7_2 sb_7_2 hM136 dX8_truth_33 (fun a150 ea150 la150 ua150 => ?_)
            refine y_iconst C dX8_truth_36 ?_
            refine y_iadd C dX8_truth_37 ?_
            refine y_putI C 7 _ _ qX8_truth_18 rfl rfl ft_7_2 sb_7_2 hM136 (PX.w hpr rfl rfl) dX8_truth_38 (by omega) (fun M152 eM152 hM152 => ?_)
            have xM152 := tkx_j (f := gf) (n := gn) (gi := gq137) eM152 (by omega) (by omega) (by omega) (by omega)
            refine j_aload_n C 0 0 dX8_truth_41 rfl rfl ?_
            refine j_iload_n C 1 1 dX8_truth_42 rfl rfl ?_
            refine j_callVv C (d := 22) (As := [.int (sI 1)]) (st := []) 78 (s_lt rfl rfl) (s_kc (c := 7) rfl rfl) (by decide) rfl (s7_X8_both hM152 hpr gf gn (nxF gf gn gq137) (by omega) (by omega)) gX8_truth_X8_both rfl hdX8_both (by decide) (Nat.le_of_ble_eq_true rfl) dX8_truth_43 rfl (fun M154 h155 => ?_)
            obtain ⟨hM154, h156⟩ := h155
            have bM154 := tkx_b (f := gf) (n := gn) (M := M154) (by omega)
            have qM154 := po_rr (boP gf gn (unR gf gn 5)) gn (nxF gf gn gq137) (M152.1 78 5).toInt (M152.1 78 6).toInt (psX M152) (M154.1 78 5).toInt (M154.1 78 6).toInt (psX M154) (bo_g gf gn (unR_g gf gn 5)) (by omega) (by omega)
            refine j_aload_n C 0 0 dX8_truth_46 rfl rfl ?_
            refine y_sipush C dX8_truth_47 rfl ?_
            refine j_callVv C (d := 0) (As := [.int (sI 1014)]) (st := []) 78 (s_lt rfl rfl) (s_kc (c := 7) rfl rfl) (by decide) rfl (s1_X8_emit hM154 hpr 1014 (by omega) gf gn ((boP gf gn (unR gf gn 5)) (nxF gf gn gq137)).2.2 (by omega) (by omega)) gX8_truth_X8_emit rfl hdX8_emit (by decide) (Nat.le_of_ble_eq_true rfl) dX8_truth_50 rfl (fun M158 h159 => ?_)
            obtain ⟨hM158, h160⟩ := h159
            have bM158 := tkx_b (f := gf) (n := gn) (M := M158) (by omega)
            have qM158 := po_eq gn ((boP gf gn (unR gf gn 5)) (nxF gf gn gq137)).2.2 (M154.1 78 5).toInt (psX M154) (M158.1 78 5).toInt (psX M158) (by omega) (by omega) (by omega)
            refine y_iinc C 2 [(2, .int (sI (a135 + 1))), (0, .ref (ad 78)), (1, .int (sI 1))] dX8_truth_53 rfl (by decide) rfl ?_
            have u161s := ll_s gf gn 1014 1014 (boP gf gn (unR gf gn 5)) ((boP gf gn (unR gf gn 5)) gi).2.2 gq137 a135 (M102.1 78 5).toInt (M102.1 78 6).toInt (M136.1 78 5).toInt (M136.1 78 6).toInt (psX M136) (M152.1 78 5).toInt (M152.1 78 6).toInt (M154.1 78 5).toInt (M154.1 78 6).toInt (psX M154) (M158.1 78 5).toInt (M158.1 78 6).toInt (psX M158) (by decide) (bo_g gf gn (unR_g gf gn 5)) (by omega) (by omega) (by omega) (by omega) (by omega) (by omega) (by omega) (by omega) (by omega)
            refine j_goto C 7 dX8_truth_56 (by decide) ?_
            refine j_lv [1, 2, 0] rfl ?_; exact ih133 (a135 + 1) M158 ((boP gf gn (unR gf gn 5)) (nxF gf gn gq137)).2.2 (by omega) hM158
  refine j_lv [1, 2, 0] rfl ?_; exact L134 2010 0 M102 ((boP gf gn (unR gf gn 5)) gi).2.2 (by omega) hM102
set_option maxHeartbeats 4000000 in
theorem s8_X8_unit {l : Launch} {dC : Nat → ClassId} {dI : Nat → Nat → Nat} {ad : Nat → Nat} {cA : Nat → ClassId} {pr : Nat → Nat → Bool} {Kz : mm_M} {M0 : mm_M} (hM0 : INV pr Kz M0) (hpr : PX pr) (gf : Nat → Int) (gn : Int) (gi : Int) (hp0 : b01 (TKX gf gn M0) = 1) (hp1 : b01 (PO gn gi (M0.1 78 5).toInt (psX M0)) = 1) : Cv l 24 yX8_unit wsX8_unit dC dI ad cA [.ref (ad 78), .int (sI 0)] M0 (fun M' => INV pr Kz M' ∧ (b01 (TKX gf gn M') = 1) ∧ b01 (RR ((unR gf gn 6) gi) (M0.1 78 5).toInt (M0.1 78 6).toInt (M'.1 78 5).toInt (M'.1 78 6).toInt (psX M')) = 1) := by
  refine cv_of (cc := cX8_unit) (maxL := 4) (lv := [(0, .ref (ad 78)), (1, .int (sI 0))]) (by decide) rfl (Nat.le_of_ble_eq_true rfl) rfl ?_
  intro p e s m args below meth c A Q C hret
  refine j_aload_n C 0 0 dX8_unit_0 rfl rfl ?_
  refine y_getI C 7 _ _ fX8_unit_22 rfl rfl ft_7_5 sb_7_5 hM0 dX8_unit_1 (fun a101 ea101 la101 ua101 => ?_)
  refine y_if_eq C 8 dX8_unit_4 (by decide) (by omega) (fun h103 => ?_) (fun h103 => ?_)
  · refine j_aload_n C 0 0 dX8_unit_8 rfl rfl ?_
    refine j_callVi C (d := 0) (As := []) (st := []) 78 (s_lt rfl rfl) (s_kc (c := 7) rfl rfl) (by decide) rfl (s1_X8_token hM0 gf gn gi (by omega) (by omega)) gX8_unit_X8_token rfl hdX8_token (by decide) (Nat.le_of_ble_eq_true rfl) dX8_unit_9 rfl (fun r104 M105 h106 => ?_)
    obtain ⟨a108, rfl, rfl, h107⟩ := h106
    refine j_istore_n C 2 [(2, .int (sI a108)), (0, .ref (ad 78)), (1, .int (sI 0))] dX8_unit_12 rfl (by decide) rfl ?_
    refine j_iload_n C 0 2 dX8_unit_13 rfl rfl ?_
    refine y_sipush C dX8_unit_14 rfl ?_
    refine y_icmp_ne C 42 dX8_unit_17 (by decide) (by omega) (fun h109 => ?_) (fun h109 => ?_)
    · refine j_iload_n C 0 2 dX8_unit_42 rfl rfl ?_
      refine y_sipush C dX8_unit_43 rfl ?_
      refine y_icmp_ne C 71 dX8_unit_46 (by decide) (by omega) (fun h110 => ?_) (fun h110 => ?_)
      · refine j_aload_n C 1 0 dX8_unit_71 rfl rfl ?_
        refine j_iload_n C 2 1 dX8_unit_72 rfl rfl ?_
        refine j_callVv C (d := 23) (As := [.int (sI 0)]) (st := []) 78 (s_lt rfl rfl) (s_kc (c := 7) rfl rfl) (by decide) rfl (s8_X8_sum hM0 hpr gf gn gi (by omega) (by omega)) gX8_unit_X8_sum rfl hdX8_sum (by decide) (Nat.le_of_ble_eq_true rfl) dX8_unit_73 rfl (fun M112 h113 => ?_)
        obtain ⟨hM112, h114⟩ := h113
        have bM112 := tkx_b (f := gf) (n := gn) (M := M112) (by omega)
        have qM112 := po_rr (suR gf gn 6) gn gi (M0.1 78 5).toInt (M0.1 78 6).toInt (psX M0) (M112.1 78 5).toInt (M112.1 78 6).toInt (psX M112) (suR_g gf gn 6) (by omega) (by omega)
        refine j_aload_n C 1 0 dX8_unit_76 rfl rfl ?_
        refine j_callVi C (d := 0) (As := []) (st := []) 78 (s_lt rfl rfl) (s_kc (c := 7) rfl rfl) (by decide) rfl (s1_X8_token hM112 gf gn ((suR gf gn 6) gi).2.2 (by omega) (by omega)) gX8_unit_X8_token rfl hdX8_token (by decide) (Nat.le_of_ble_eq_true rfl) dX8_unit_77 rfl (fun r115 M116 h117 => ?_)
        obtain ⟨a119, rfl, rfl, h118⟩ := h117
        refine j_istore_n C 3 [(3, .int (sI a119)), (2, .int (sI a108)), (0, .ref (ad 78)), (1, .int (sI 0))] dX8_unit_80 rfl (by decide) rfl ?_
        refine j_iload_n C 0 3 dX8_unit_81 rfl rfl ?_
        refine y_sipush C dX8_unit_82 rfl ?_
        refine y_icmp_eq C 102 dX8_unit_85 (by decide) (by omega) (fun h120 => ?_) (fun h120 => ?_)
        · refine j_aload_n C 2 0 dX8_unit_102 rfl rfl ?_
          refine j_dup C dX8_unit_103 rfl ?_
          refine y_getI C 7 _ _ fX8_unit_18 rfl rfl ft_7_2 sb_7_2 hM112 dX8_unit_104 (fun a121 ea121 la121 ua121 => ?_)
          refine y_iconst C dX8_unit_107 ?_
          refine y_iadd C dX8_unit_108 ?_
          refine y_putI C 7 _ _ qX8_unit_18 rfl rfl ft_7_2 sb_7_2 hM112 (PX.w hpr rfl rfl) dX8_unit_109 (by omega) (fun M123 eM123 hM123 => ?_)
          have xM123 := tkx_j (f := gf) (n := gn) (gi := ((suR gf gn 6) gi).2.2) eM123 (by omega) (by omega) (by omega) (by omega)
          refine j_aload_n C 2 0 dX8_unit_112 rfl rfl ?_
          refine j_iload_n C 3 1 dX8_unit_113 rfl rfl ?_
          refine j_callVv C (d := 23) (As := [.int (sI 0)]) (st := []) 78 (s_lt rfl rfl) (s_kc (c := 7) rfl rfl) (by decide) rfl (s8_X8_sum hM123 hpr gf gn (nxF gf gn ((suR gf gn 6) gi).2.2) (by omega) (by omega)) gX8_unit_X8_sum rfl hdX8_sum (by decide) (Nat.le_of_ble_eq_true rfl) dX8_unit_114 rfl (fun M125 h126 => ?_)
          obtain ⟨hM125, h127⟩ := h126
          have bM125 := tkx_b (f := gf) (n := gn) (M := M125) (by omega)
          have qM125 := po_rr (suR gf gn 6) gn (nxF gf gn ((suR gf gn 6) gi).2.2) (M123.1 78 5).toInt (M123.1 78 6).toInt (psX M123) (M125.1 78 5).toInt (M125.1 78 6).toInt (psX M125) (suR_g gf gn 6) (by omega) (by omega)
          refine j_aload_n C 2 0 dX8_unit_117 rfl rfl ?_
          refine j_iload_n C 0 3 dX8_unit_118 rfl rfl ?_
          refine j_callVv C (d := 0) (As := [.int (sI a119)]) (st := []) 78 (s_lt rfl rfl) (s_kc (c := 7) rfl rfl) (by decide) rfl (s1_X8_emit hM125 hpr a119 (by omega) gf gn ((suR gf gn 6) (nxF gf gn ((suR gf gn 6) gi).2.2)).2.2 (by omega) (by omega)) gX8_unit_X8_emit rfl hdX8_emit (by decide) (Nat.le_of_ble_eq_true rfl) dX8_unit_119 rfl (fun M129 h130 => ?_)
          obtain ⟨hM129, h131⟩ := h130
          have bM129 := tkx_b (f := gf) (n := gn) (M := M129) (by omega)
          have qM129 := po_eq gn ((suR gf gn 6) (nxF gf gn ((suR gf gn 6) gi).2.2)).2.2 (M125.1 78 5).toInt (psX M125) (M129.1 78 5).toInt (psX M129) (by omega) (by omega) (by omega)
          refine j_goto C 130 dX8_unit_122 (by decide) ?_
          have u132r := un_4 gf gn 6 gi (M0.1 78 5).toInt (M0.1 78 6).toInt (psX M0) (M112.1 78 5).toInt (M112.1 78 6).toInt (psX M112) (M123.1 78 5).toInt (M123.1 78 6).toInt (M125.1 78 5).toInt (M125.1 78 6).toInt (psX M125) (M129.1 78 5).toInt (M129.1 78 6).toInt (psX M129) (by omega) (by omega) (by omega) (by omega) (by omega) (by omega) (by omega) (by omega) (by omega) (by omega) (by omega)
          exact hret _ _ _ dX8_unit_130 ⟨hM129, by omega⟩
        · refine j_iload_n C 0 3 dX8_unit_88 rfl rfl ?_
          refine y_sipush C dX8_unit_89 rfl ?_
          refine y_icmp_eq C 102 dX8_unit_92 (by decide) (by omega) (fun h133 => ?_) (fun h133 => ?_)
          · refine j_aload_n C 2 0 dX8_unit_102 rfl rfl ?_
            refine j_dup C dX8_unit_103 rfl ?_
            refine y_getI C 7 _ _ fX8_unit_18 rfl rfl ft_7_2 sb_7_2 hM112 dX8_unit_104 (fun a134 ea134 la134 ua134 => ?_)
            refine y_iconst C dX8_unit_107 ?_
            refine y_iadd C dX8_unit_108 ?_
            refine y_putI C 7 _ _ qX8_unit_18 rfl rfl ft_7_2 sb_7_2 hM112 (PX.w hpr rfl rfl) dX8_unit_109 (by omega) (fun M136 eM136 hM136 => ?_)
            have xM136 := tkx_j (f := gf) (n := gn) (gi := ((suR gf gn 6) gi).2.2) eM136 (by omega) (by omega) (by omega) (by omega)
            refine j_aload_n C 2 0 dX8_unit_112 rfl rfl ?_
            refine j_iload_n C 3 1 dX8_unit_113 rfl rfl ?_
            refine j_callVv C (d := 23) (As := [.int (sI 0)]) (st := []) 78 (s_lt rfl rfl) (s_kc (c := 7) rfl rfl) (by decide) rfl (s8_X8_sum hM136 hpr gf gn (nxF gf gn ((suR gf gn 6) gi).2.2) (by omega) (by omega)) gX8_unit_X8_sum rfl hdX8_sum (by decide) (Nat.le_of_ble_eq_true rfl) dX8_unit_114 rfl (fun M138 h139 => ?_)
            obtain ⟨hM138, h140⟩ := h139
            have bM138 := tkx_b (f := gf) (n := gn) (M := M138) (by omega)
            have qM138 := po_rr (suR gf gn 6) gn (nxF gf gn ((suR gf gn 6) gi).2.2) (M136.1 78 5).toInt (M136.1 78 6).toInt (psX M136) (M138.1 78 5).toInt (M138.1 78 6).toInt (psX M138) (suR_g gf gn 6) (by omega) (by omega)
            refine j_aload_n C 2 0 dX8_unit_117 rfl rfl ?_
            refine j_iload_n C 0 3 dX8_unit_118 rfl rfl ?_
            refine j_callVv C (d := 0) (As := [.int (sI a119)]) (st := []) 78 (s_lt rfl rfl) (s_kc (c := 7) rfl rfl) (by decide) rfl (s1_X8_emit hM138 hpr a119 (by omega) gf gn ((suR gf gn 6) (nxF gf gn ((suR gf gn 6) gi).2.2)).2.2 (by omega) (by omega)) gX8_unit_X8_emit rfl hdX8_emit (by decide) (Nat.le_of_ble_eq_true rfl) dX8_unit_119 rfl (fun M142 h143 => ?_)
            obtain ⟨hM142, h144⟩ := h143
            have bM142 := tkx_b (f := gf) (n := gn) (M := M142) (by omega)
            have qM142 := po_eq gn ((suR gf gn 6) (nxF gf gn ((suR gf gn 6) gi).2.2)).2.2 (M138.1 78 5).toInt (psX M138) (M142.1 78 5).toInt (psX M142) (by omega) (by omega) (by omega)
            refine j_goto C 130 dX8_unit_122 (by decide) ?_
            have u145r := un_4 gf gn 6 gi (M0.1 78 5).toInt (M0.1 78 6).toInt (psX M0) (M112.1 78 5).toInt (M112.1 78 6).toInt (psX M112) (M136.1 78 5).toInt (M136.1 78 6).toInt (M138.1 78 5).toInt (M138.1 78 6).toInt (psX M138) (M142.1 78 5).toInt (M142.1 78 6).toInt (psX M142) (by omega) (by omega) (by omega) (by omega) (by omega) (by omega) (by omega) (by omega) (by omega) (by omega) (by omega)
            exact hret _ _ _ dX8_unit_130 ⟨hM142, by omega⟩
          · refine j_iload_n C 0 3 dX8_unit_95 rfl rfl ?_
            refine y_sipush C dX8_unit_96 rfl ?_
            refine y_icmp_ne C 125 dX8_unit_99 (by decide) (by omega) (fun h146 => ?_) (fun h146 => ?_)
            · refine j_aload_n C 2 0 dX8_unit_125 rfl rfl ?_
              refine y_iconst C dX8_unit_126 ?_
              refine j_callVv C (d := 0) (As := [.int (sI 2)]) (st := []) 78 (s_lt rfl rfl) (s_kc (c := 7) rfl rfl) (by decide) rfl (s1_X8_fail hM112 hpr 2 (by omega) gf gn ((suR gf gn 6) gi).2.2 (by omega) (by omega) (by omega)) gX8_unit_X8_fail rfl hdX8_fail (by decide) (Nat.le_of_ble_eq_true rfl) dX8_unit_127 rfl (fun M148 h149 => ?_)
              obtain ⟨hM148, fM148, h150⟩ := h149
              have bM148 := tkx_b (f := gf) (n := gn) (M := M148) (by omega)
              have qM148 := po_f gn ((faQ gf gn 2) ((suR gf gn 6) gi).2.2).2.2 (M148.1 78 5).toInt (psX M148) (by omega)
              have u151r := un_5 gf gn 6 gi (M0.1 78 5).toInt (M0.1 78 6).toInt (psX M0) (M112.1 78 5).toInt (M112.1 78 6).toInt (psX M112) (M148.1 78 5).toInt (M148.1 78 6).toInt (psX M148) (by omega) (by omega) (by omega) (by omega) (fun _ => by omega) (by omega)
              exact hret _ _ _ dX8_unit_130 ⟨hM148, by omega⟩
            · refine j_aload_n C 2 0 dX8_unit_102 rfl rfl ?_
              refine j_dup C dX8_unit_103 rfl ?_
              refine y_getI C 7 _ _ fX8_unit_18 rfl rfl ft_7_2 sb_7_2 hM112 dX8_unit_104 (fun a152 ea152 la152 ua152 => ?_)
              refine y_iconst C dX8_unit_107 ?_
              refine y_iadd C dX8_unit_108 ?_
              refine y_putI C 7 _ _ qX8_unit_18 rfl rfl ft_7_2 sb_7_2 hM112 (PX.w hpr rfl rfl) dX8_unit_109 (by omega) (fun M154 eM154 hM154 => ?_)
              have xM154 := tkx_j (f := gf) (n := gn) (gi := ((suR gf gn 6) gi).2.2) eM154 (by omega) (by omega) (by omega) (by omega)
              refine j_aload_n C 2 0 dX8_unit_112 rfl rfl ?_
              refine j_iload_n C 3 1 dX8_unit_113 rfl rfl ?_
              refine j_callVv C (d := 23) (As := [.int (sI 0)]) (st := []) 78 (s_lt rfl rfl) (s_kc (c := 7) rfl rfl) (by decide) rfl (s8_X8_sum hM154 hpr gf gn (nxF gf gn ((suR gf gn 6) gi).2.2) (by omega) (by omega)) gX8_unit_X8_sum rfl hdX8_sum (by decide) (Nat.le_of_ble_eq_true rfl) dX8_unit_114 rfl (fun M156 h157 => ?_)
              obtain ⟨hM156, h158⟩ := h157
              have bM156 := tkx_b (f := gf) (n := gn) (M := M156) (by omega)
              have qM156 := po_rr (suR gf gn 6) gn (nxF gf gn ((suR gf gn 6) gi).2.2) (M154.1 78 5).toInt (M154.1 78 6).toInt (psX M154) (M156.1 78 5).toInt (M156.1 78 6).toInt (psX M156) (suR_g gf gn 6) (by omega) (by omega)
              refine j_aload_n C 2 0 dX8_unit_117 rfl rfl ?_
              refine j_iload_n C 0 3 dX8_unit_118 rfl rfl ?_
              refine j_callVv C (d := 0) (As := [.int (sI a119)]) (st := []) 78 (s_lt rfl rfl) (s_kc (c := 7) rfl rfl) (by decide) rfl (s1_X8_emit hM156 hpr a119 (by omega) gf gn ((suR gf gn 6) (nxF gf gn ((suR gf gn 6) gi).2.2)).2.2 (by omega) (by omega)) gX8_unit_X8_emit rfl hdX8_emit (by decide) (Nat.le_of_ble_eq_true rfl) dX8_unit_119 rfl (fun M160 h161 => ?_)
              obtain ⟨hM160, h162⟩ := h161
              have bM160 := tkx_b (f := gf) (n := gn) (M := M160) (by omega)
              have qM160 := po_eq gn ((suR gf gn 6) (nxF gf gn ((suR gf gn 6) gi).2.2)).2.2 (M156.1 78 5).toInt (psX M156) (M160.1 78 5).toInt (psX M160) (by omega) (by omega) (by omega)
              refine j_goto C 130 dX8_unit_122 (by decide) ?_
              have u163r := un_4 gf gn 6 gi (M0.1 78 5).toInt (M0.1 78 6).toInt (psX M0) (M112.1 78 5).toInt (M112.1 78 6).toInt (psX M112) (M154.1 78 5).toInt (M154.1 78 6).toInt (M156.1 78 5).toInt (M156.1 78 6).toInt (psX M156) (M160.1 78 5).toInt (M160.1 78 6).toInt (psX M160) (by omega) (by omega) (by omega) (by omega) (by omega) (by omega) (by omega) (by omega) (by omega) (by omega) (by omega)
              exact hret _ _ _ dX8_unit_130 ⟨hM160, by omega⟩
      · refine j_aload_n C 1 0 dX8_unit_49 rfl rfl ?_
        refine j_iload_n C 2 1 dX8_unit_50 rfl rfl ?_
        refine j_callVv C (d := 0) (As := [.int (sI 0)]) (st := []) 78 (s_lt rfl rfl) (s_kc (c := 7) rfl rfl) (by decide) rfl (s1_X8_goDeeper hM0 hpr gf gn gi (by omega) (by omega) (by omega) (by omega) (by omega)) gX8_unit_X8_goDeeper rfl hdX8_goDeeper (by decide) (Nat.le_of_ble_eq_true rfl) dX8_unit_51 rfl (fun M165 h166 => ?_)
        obtain ⟨hM165, fM165, h167⟩ := h166
        have bM165 := tkx_b (f := gf) (n := gn) (M := M165) (by omega)
        refine j_aload_n C 1 0 dX8_unit_54 rfl rfl ?_
        refine j_iload_n C 2 1 dX8_unit_55 rfl rfl ?_
        refine y_iconst C dX8_unit_56 ?_
        refine y_iadd C dX8_unit_57 ?_
        refine j_callVv C (d := 23) (As := [.int (sI (0 + 1))]) (st := []) 78 (s_lt rfl rfl) (s_kc (c := 7) rfl rfl) (by decide) rfl (s7_X8_truth hM165 hpr gf gn (nxF gf gn gi) (by omega) (by omega)) gX8_unit_X8_truth rfl hdX8_truth (by decide) (Nat.le_of_ble_eq_true rfl) dX8_unit_58 rfl (fun M169 h170 => ?_)
        obtain ⟨hM169, h171⟩ := h170
        have bM169 := tkx_b (f := gf) (n := gn) (M := M169) (by omega)
        have qM169 := po_rr (trP gf gn (unR gf gn 5)) gn (nxF gf gn gi) (M165.1 78 5).toInt (M165.1 78 6).toInt (psX M165) (M169.1 78 5).toInt (M169.1 78 6).toInt (psX M169) (tr_g gf gn (unR_g gf gn 5)) (by omega) (by omega)
        refine j_aload_n C 1 0 dX8_unit_61 rfl rfl ?_
        refine y_sipush C dX8_unit_62 rfl ?_
        refine j_callVv C (d := 1) (As := [.int (sI 2093)]) (st := []) 78 (s_lt rfl rfl) (s_kc (c := 7) rfl rfl) (by decide) rfl (s1_X8_expect hM169 hpr 2093 (by omega) gf gn ((trP gf gn (unR gf gn 5)) (nxF gf gn gi)).2.2 (by omega) (by omega) (by omega) (by omega)) gX8_unit_X8_expect rfl hdX8_expect (by decide) (Nat.le_of_ble_eq_true rfl) dX8_unit_65 rfl (fun M173 h174 => ?_)
        obtain ⟨hM173, fM173, h175⟩ := h174
        have bM173 := tkx_b (f := gf) (n := gn) (M := M173) (by omega)
        have qM173 := po_rr (exP gf gn 2093) gn ((trP gf gn (unR gf gn 5)) (nxF gf gn gi)).2.2 (M169.1 78 5).toInt (M169.1 78 6).toInt (psX M169) (M173.1 78 5).toInt (M173.1 78 6).toInt (psX M173) (ex_g gf gn 2093 (by omega)) (by omega) (by omega)
        refine j_goto C 130 dX8_unit_68 (by decide) ?_
        have u176r := un_2 gf gn 5 6 rfl gi (M0.1 78 5).toInt (M0.1 78 6).toInt (psX M0) (M165.1 78 5).toInt (M165.1 78 6).toInt (M169.1 78 5).toInt (M169.1 78 6).toInt (psX M169) (M173.1 78 5).toInt (M173.1 78 6).toInt (psX M173) (by omega) (by omega) (by omega) (by omega) (by omega) (by omega)
        exact hret _ _ _ dX8_unit_130 ⟨hM173, by omega⟩
    · refine j_aload_n C 1 0 dX8_unit_20 rfl rfl ?_
      refine j_iload_n C 2 1 dX8_unit_21 rfl rfl ?_
      refine j_callVv C (d := 0) (As := [.int (sI 0)]) (st := []) 78 (s_lt rfl rfl) (s_kc (c := 7) rfl rfl) (by decide) rfl (s1_X8_goDeeper hM0 hpr gf gn gi (by omega) (by omega) (by omega) (by omega) (by omega)) gX8_unit_X8_goDeeper rfl hdX8_goDeeper (by decide) (Nat.le_of_ble_eq_true rfl) dX8_unit_22 rfl (fun M178 h179 => ?_)
      obtain ⟨hM178, fM178, h180⟩ := h179
      have bM178 := tkx_b (f := gf) (n := gn) (M := M178) (by omega)
      refine j_aload_n C 1 0 dX8_unit_25 rfl rfl ?_
      refine j_iload_n C 2 1 dX8_unit_26 rfl rfl ?_
      refine y_iconst C dX8_unit_27 ?_
      refine y_iadd C dX8_unit_28 ?_
      refine j_callVv C (d := 21) (As := [.int (sI (0 + 1))]) (st := []) 78 (s_lt rfl rfl) (s_kc (c := 7) rfl rfl) (by decide) rfl (s7_X8_unit hM178 hpr gf gn (nxF gf gn gi) (by omega) (by omega)) gX8_unit_X8_unit rfl hdX8_unit (by decide) (Nat.le_of_ble_eq_true rfl) dX8_unit_29 rfl (fun M182 h183 => ?_)
      obtain ⟨hM182, h184⟩ := h183
      have bM182 := tkx_b (f := gf) (n := gn) (M := M182) (by omega)
      have qM182 := po_rr (unR gf gn 5) gn (nxF gf gn gi) (M178.1 78 5).toInt (M178.1 78 6).toInt (psX M178) (M182.1 78 5).toInt (M182.1 78 6).toInt (psX M182) (unR_g gf gn 5) (by omega) (by omega)
      refine j_aload_n C 1 0 dX8_unit_32 rfl rfl ?_
      refine y_sipush C dX8_unit_33 rfl ?_
      refine j_callVv C (d := 0) (As := [.int (sI 1016)]) (st := []) 78 (s_lt rfl rfl) (s_kc (c := 7) rfl rfl) (by decide) rfl (s1_X8_emit hM182 hpr 1016 (by omega) gf gn ((unR gf gn 5) (nxF gf gn gi)).2.2 (by omega) (by omega)) gX8_unit_X8_emit rfl hdX8_emit (by decide) (Nat.le_of_ble_eq_true rfl) dX8_unit_36 rfl (fun M186 h187 => ?_)
      obtain ⟨hM186, h188⟩ := h187
      have bM186 := tkx_b (f := gf) (n := gn) (M := M186) (by omega)
      have qM186 := po_eq gn ((unR gf gn 5) (nxF gf gn gi)).2.2 (M182.1 78 5).toInt (psX M182) (M186.1 78 5).toInt (psX M186) (by omega) (by omega) (by omega)
      refine j_goto C 130 dX8_unit_39 (by decide) ?_
      have u189r := un_1 gf gn 5 6 rfl gi (M0.1 78 5).toInt (M0.1 78 6).toInt (psX M0) (M178.1 78 5).toInt (M178.1 78 6).toInt (M182.1 78 5).toInt (M182.1 78 6).toInt (psX M182) (M186.1 78 5).toInt (M186.1 78 6).toInt (psX M186) (by omega) (by omega) (by omega) (by omega) (by omega) (by omega) (by omega) (by omega)
      exact hret _ _ _ dX8_unit_130 ⟨hM186, by omega⟩
  · have u190r := rr_no ((unR gf gn 6) gi) (M0.1 78 5).toInt (M0.1 78 6).toInt (M0.1 78 5).toInt (M0.1 78 6).toInt (psX M0) (by omega) rfl rfl
    exact hret _ _ _ dX8_unit_7 ⟨hM0, by omega⟩
set_option maxHeartbeats 4000000 in
theorem s8_X8_both {l : Launch} {dC : Nat → ClassId} {dI : Nat → Nat → Nat} {ad : Nat → Nat} {cA : Nat → ClassId} {pr : Nat → Nat → Bool} {Kz : mm_M} {M0 : mm_M} (hM0 : INV pr Kz M0) (hpr : PX pr) (gf : Nat → Int) (gn : Int) (gi : Int) (hp0 : b01 (TKX gf gn M0) = 1) (hp1 : b01 (PO gn gi (M0.1 78 5).toInt (psX M0)) = 1) : Cv l 25 yX8_both wsX8_both dC dI ad cA [.ref (ad 78), .int (sI 0)] M0 (fun M' => INV pr Kz M' ∧ (b01 (TKX gf gn M') = 1) ∧ b01 (RR ((boP gf gn (unR gf gn 6)) gi) (M0.1 78 5).toInt (M0.1 78 6).toInt (M'.1 78 5).toInt (M'.1 78 6).toInt (psX M')) = 1) := by
  refine cv_of (cc := cX8_both) (maxL := 3) (lv := [(0, .ref (ad 78)), (1, .int (sI 0))]) (by decide) rfl (Nat.le_of_ble_eq_true rfl) rfl ?_
  intro p e s m args below meth c A Q C hret
  refine j_aload_n C 0 0 dX8_both_0 rfl rfl ?_
  refine j_iload_n C 1 1 dX8_both_1 rfl rfl ?_
  refine j_callVv C (d := 24) (As := [.int (sI 0)]) (st := []) 78 (s_lt rfl rfl) (s_kc (c := 7) rfl rfl) (by decide) rfl (s8_X8_unit hM0 hpr gf gn gi (by omega) (by omega)) gX8_both_X8_unit rfl hdX8_unit (by decide) (Nat.le_of_ble_eq_true rfl) dX8_both_2 rfl (fun M102 h103 => ?_)
  obtain ⟨hM102, h104⟩ := h103
  have bM102 := tkx_b (f := gf) (n := gn) (M := M102) (by omega)
  have qM102 := po_rr (unR gf gn 6) gn gi (M0.1 78 5).toInt (M0.1 78 6).toInt (psX M0) (M102.1 78 5).toInt (M102.1 78 6).toInt (psX M102) (unR_g gf gn 6) (by omega) (by omega)
  refine y_iconst C dX8_both_5 ?_
  have u105l := ll_0 (luP gf gn 1015 1015 (unR gf gn 6)) gn ((unR gf gn 6) gi).2.2 (M102.1 78 5).toInt (M102.1 78 6).toInt (psX M102) (by omega)
  refine j_istore_n C 2 [(2, .int (sI 0)), (0, .ref (ad 78)), (1, .int (sI 0))] dX8_both_6 rfl (by decide) rfl ?_
  have L134 : ∀ (n132 : Nat), ∀ (a135 : Int) (M136 : mm_M) (gq137 : Int), (0 ≤ a135 ∧ a135 ≤ 900 ∧ (b01 (LL (luP gf gn 1015 1015 (unR gf gn 6)) gn ((unR gf gn 6) gi).2.2 gq137 a135 (M102.1 78 5).toInt (M102.1 78 6).toInt (M136.1 78 5).toInt (M136.1 78 6).toInt (psX M136)) = 1) ∧ (b01 (TKX gf gn M136) = 1) ∧ (b01 (PO gn gq137 (M136.1 78 5).toInt (psX M136)) = 1) ∧ (900 - a135) < (n132 : Int)) → INV pr Kz M136 → jj p l e (cn_R 25) s m args below meth c 0 0 Q 3 dC dI ad cA A M136 7 [(0, .ref (ad 78)), (1, .int (sI 0)), (2, .int (sI a135))] [] := by
    intro n132
    induction n132 with
    | zero =>
      intro a135 M136 gq137 h138 hM136
      exfalso; omega
    | succ n132 ih133 =>
      intro a135 M136 gq137 h138 hM136
      have u139b := tkx_b (f := gf) (n := gn) (M := M136) (by omega)
      refine j_iload_n C 2 2 dX8_both_7 rfl rfl ?_
      refine y_sipush C dX8_both_8 rfl ?_
      refine y_icmp_ge C 59 dX8_both_11 (by decide) (by omega) (fun h140 => ?_) (fun h140 => ?_)
      · have u162e := ll_e gf gn 1015 1015 (unR gf gn 6) ((unR gf gn 6) gi).2.2 gq137 a135 (M102.1 78 5).toInt (M102.1 78 6).toInt (M136.1 78 5).toInt (M136.1 78 6).toInt (psX M136) (by decide) (unR_g gf gn 6) (by omega) (by omega)
        have u162r : b01 (RR ((boP gf gn (unR gf gn 6)) gi) (M0.1 78 5).toInt (M0.1 78 6).toInt (M136.1 78 5).toInt (M136.1 78 6).toInt (psX M136)) = 1 := rr_sq ((unR gf gn 6) gi) (luP gf gn 1015 1015 (unR gf gn 6)) (M0.1 78 5).toInt (M0.1 78 6).toInt (M102.1 78 5).toInt (M102.1 78 6).toInt (psX M102) (M136.1 78 5).toInt (M136.1 78 6).toInt (psX M136) (by omega) (by omega)
        exact hret _ _ _ dX8_both_59 ⟨hM136, by omega⟩
      · refine j_aload_n C 0 0 dX8_both_14 rfl rfl ?_
        refine y_getI C 7 _ _ fX8_both_22 rfl rfl ft_7_5 sb_7_5 hM136 dX8_both_15 (fun a141 ea141 la141 ua141 => ?_)
        refine y_if_ne C 59 dX8_both_18 (by decide) (by omega) (fun h143 => ?_) (fun h143 => ?_)
        · have u163e := ll_e gf gn 1015 1015 (unR gf gn 6) ((unR gf gn 6) gi).2.2 gq137 a135 (M102.1 78 5).toInt (M102.1 78 6).toInt (M136.1 78 5).toInt (M136.1 78 6).toInt (psX M136) (by decide) (unR_g gf gn 6) (by omega) (by omega)
          have u163r : b01 (RR ((boP gf gn (unR gf gn 6)) gi) (M0.1 78 5).toInt (M0.1 78 6).toInt (M136.1 78 5).toInt (M136.1 78 6).toInt (psX M136)) = 1 := rr_sq ((unR gf gn 6) gi) (luP gf gn 1015 1015 (unR gf gn 6)) (M0.1 78 5).toInt (M0.1 78 6).toInt (M102.1 78 5).toInt (M102.1 78 6).toInt (psX M102) (M136.1 78 5).toInt (M136.1 78 6).toInt (psX M136) (by omega) (by omega)
          exact hret _ _ _ dX8_both_59 ⟨hM136, by omega⟩
        · refine j_aload_n C 0 0 dX8_both_21 rfl rfl ?_
          refine j_callVi C (d := 0) (As := []) (st := []) 78 (s_lt rfl rfl) (s_kc (c := 7) rfl rfl) (by decide) rfl (s1_X8_token hM136 gf gn gq137 (by omega) (by omega)) gX8_both_X8_token rfl hdX8_token (by decide) (Nat.le_of_ble_eq_true rfl) dX8_both_22 rfl (fun r144 M145 h146 => ?_)
          obtain ⟨a148, rfl, rfl, h147⟩ := h146
          refine y_sipush C dX8_both_25 rfl ?_
          refine y_icmp_ne C 59 dX8_both_28 (by decide) (by omega) (fun h149 => ?_) (fun h149 => ?_)
          · have u164e := ll_e gf gn 1015 1015 (unR gf gn 6) ((unR gf gn 6) gi).2.2 gq137 a135 (M102.1 78 5).toInt (M102.1 78 6).toInt (M136.1 78 5).toInt (M136.1 78 6).toInt (psX M136) (by decide) (unR_g gf gn 6) (by omega) (by omega)
            have u164r : b01 (RR ((boP gf gn (unR gf gn 6)) gi) (M0.1 78 5).toInt (M0.1 78 6).toInt (M136.1 78 5).toInt (M136.1 78 6).toInt (psX M136)) = 1 := rr_sq ((unR gf gn 6) gi) (luP gf gn 1015 1015 (unR gf gn 6)) (M0.1 78 5).toInt (M0.1 78 6).toInt (M102.1 78 5).toInt (M102.1 78 6).toInt (psX M102) (M136.1 78 5).toInt (M136.1 78 6).toInt (psX M136) (by omega) (by omega)
            exact hret _ _ _ dX8_both_59 ⟨hM136, by omega⟩
          · refine j_aload_n C 0 0 dX8_both_31 rfl rfl ?_
            refine j_dup C dX8_both_32 rfl ?_
            refine y_getI C 7 _ _ fX8_both_18 rfl rfl ft_7_2 sb_7_2 hM136 dX8_both_33 (fun a150 ea150 la150 ua150 => ?_)
            refine y_iconst C dX8_both_36 ?_
            refine y_iadd C dX8_both_37 ?_
            refine y_putI C 7 _ _ qX8_both_18 rfl rfl ft_7_2 sb_7_2 hM136 (PX.w hpr rfl rfl) dX8_both_38 (by omega) (fun M152 eM152 hM152 => ?_)
            have xM152 := tkx_j (f := gf) (n := gn) (gi := gq137) eM152 (by omega) (by omega) (by omega) (by omega)
            refine j_aload_n C 0 0 dX8_both_41 rfl rfl ?_
            refine j_iload_n C 1 1 dX8_both_42 rfl rfl ?_
            refine j_callVv C (d := 24) (As := [.int (sI 0)]) (st := []) 78 (s_lt rfl rfl) (s_kc (c := 7) rfl rfl) (by decide) rfl (s8_X8_unit hM152 hpr gf gn (nxF gf gn gq137) (by omega) (by omega)) gX8_both_X8_unit rfl hdX8_unit (by decide) (Nat.le_of_ble_eq_true rfl) dX8_both_43 rfl (fun M154 h155 => ?_)
            obtain ⟨hM154, h156⟩ := h155
            have bM154 := tkx_b (f := gf) (n := gn) (M := M154) (by omega)
            have qM154 := po_rr (unR gf gn 6) gn (nxF gf gn gq137) (M152.1 78 5).toInt (M152.1 78 6).toInt (psX M152) (M154.1 78 5).toInt (M154.1 78 6).toInt (psX M154) (unR_g gf gn 6) (by omega) (by omega)
            refine j_aload_n C 0 0 dX8_both_46 rfl rfl ?_
            refine y_sipush C dX8_both_47 rfl ?_
            refine j_callVv C (d := 0) (As := [.int (sI 1015)]) (st := []) 78 (s_lt rfl rfl) (s_kc (c := 7) rfl rfl) (by decide) rfl (s1_X8_emit hM154 hpr 1015 (by omega) gf gn ((unR gf gn 6) (nxF gf gn gq137)).2.2 (by omega) (by omega)) gX8_both_X8_emit rfl hdX8_emit (by decide) (Nat.le_of_ble_eq_true rfl) dX8_both_50 rfl (fun M158 h159 => ?_)
            obtain ⟨hM158, h160⟩ := h159
            have bM158 := tkx_b (f := gf) (n := gn) (M := M158) (by omega)
            have qM158 := po_eq gn ((unR gf gn 6) (nxF gf gn gq137)).2.2 (M154.1 78 5).toInt (psX M154) (M158.1 78 5).toInt (psX M158) (by omega) (by omega) (by omega)
            refine y_iinc C 2 [(2, .int (sI (a135 + 1))), (0, .ref (ad 78)), (1, .int (sI 0))] dX8_both_53 rfl (by decide) rfl ?_
            have u161s := ll_s gf gn 1015 1015 (unR gf gn 6) ((unR gf gn 6) gi).2.2 gq137 a135 (M102.1 78 5).toInt (M102.1 78 6).toInt (M136.1 78 5).toInt (M136.1 78 6).toInt (psX M136) (M152.1 78 5).toInt (M152.1 78 6).toInt (M154.1 78 5).toInt (M154.1 78 6).toInt (psX M154) (M158.1 78 5).toInt (M158.1 78 6).toInt (psX M158) (by decide) (unR_g gf gn 6) (by omega) (by omega) (by omega) (by omega) (by omega) (by omega) (by omega) (by omega) (by omega)
            refine j_goto C 7 dX8_both_56 (by decide) ?_
            refine j_lv [1, 2, 0] rfl ?_; exact ih133 (a135 + 1) M158 ((unR gf gn 6) (nxF gf gn gq137)).2.2 (by omega) hM158
  refine j_lv [1, 2, 0] rfl ?_; exact L134 2010 0 M102 ((unR gf gn 6) gi).2.2 (by omega) hM102
set_option maxHeartbeats 4000000 in
theorem s8_X8_truth {l : Launch} {dC : Nat → ClassId} {dI : Nat → Nat → Nat} {ad : Nat → Nat} {cA : Nat → ClassId} {pr : Nat → Nat → Bool} {Kz : mm_M} {M0 : mm_M} (hM0 : INV pr Kz M0) (hpr : PX pr) (gf : Nat → Int) (gn : Int) (gi : Int) (hp0 : b01 (TKX gf gn M0) = 1) (hp1 : b01 (PO gn gi (M0.1 78 5).toInt (psX M0)) = 1) : Cv l 26 yX8_truth wsX8_truth dC dI ad cA [.ref (ad 78), .int (sI 0)] M0 (fun M' => INV pr Kz M' ∧ (b01 (TKX gf gn M') = 1) ∧ b01 (RR ((trP gf gn (unR gf gn 6)) gi) (M0.1 78 5).toInt (M0.1 78 6).toInt (M'.1 78 5).toInt (M'.1 78 6).toInt (psX M')) = 1) := by
  refine cv_of (cc := cX8_truth) (maxL := 3) (lv := [(0, .ref (ad 78)), (1, .int (sI 0))]) (by decide) rfl (Nat.le_of_ble_eq_true rfl) rfl ?_
  intro p e s m args below meth c A Q C hret
  refine j_aload_n C 0 0 dX8_truth_0 rfl rfl ?_
  refine j_iload_n C 1 1 dX8_truth_1 rfl rfl ?_
  refine j_callVv C (d := 25) (As := [.int (sI 0)]) (st := []) 78 (s_lt rfl rfl) (s_kc (c := 7) rfl rfl) (by decide) rfl (s8_X8_both hM0 hpr gf gn gi (by omega) (by omega)) gX8_truth_X8_both rfl hdX8_both (by decide) (Nat.le_of_ble_eq_true rfl) dX8_truth_2 rfl (fun M102 h103 => ?_)
  obtain ⟨hM102, h104⟩ := h103
  have bM102 := tkx_b (f := gf) (n := gn) (M := M102) (by omega)
  have qM102 := po_rr (boP gf gn (unR gf gn 6)) gn gi (M0.1 78 5).toInt (M0.1 78 6).toInt (psX M0) (M102.1 78 5).toInt (M102.1 78 6).toInt (psX M102) (bo_g gf gn (unR_g gf gn 6)) (by omega) (by omega)
  refine y_iconst C dX8_truth_5 ?_
  have u105l := ll_0 (luP gf gn 1014 1014 (boP gf gn (unR gf gn 6))) gn ((boP gf gn (unR gf gn 6)) gi).2.2 (M102.1 78 5).toInt (M102.1 78 6).toInt (psX M102) (by omega)
  refine j_istore_n C 2 [(2, .int (sI 0)), (0, .ref (ad 78)), (1, .int (sI 0))] dX8_truth_6 rfl (by decide) rfl ?_
  have L134 : ∀ (n132 : Nat), ∀ (a135 : Int) (M136 : mm_M) (gq137 : Int), (0 ≤ a135 ∧ a135 ≤ 900 ∧ (b01 (LL (luP gf gn 1014 1014 (boP gf gn (unR gf gn 6))) gn ((boP gf gn (unR gf gn 6)) gi).2.2 gq137 a135 (M102.1 78 5).toInt (M102.1 78 6).toInt (M136.1 78 5).toInt (M136.1 78 6).toInt (psX M136)) = 1) ∧ (b01 (TKX gf gn M136) = 1) ∧ (b01 (PO gn gq137 (M136.1 78 5).toInt (psX M136)) = 1) ∧ (900 - a135) < (n132 : Int)) → INV pr Kz M136 → jj p l e (cn_R 26) s m args below meth c 0 0 Q 3 dC dI ad cA A M136 7 [(0, .ref (ad 78)), (1, .int (sI 0)), (2, .int (sI a135))] [] := by
    intro n132
    induction n132 with
    | zero =>
      intro a135 M136 gq137 h138 hM136
      exfalso; omega
    | succ n132 ih133 =>
      intro a135 M136 gq137 h138 hM136
      have u139b := tkx_b (f := gf) (n := gn) (M := M136) (by omega)
      refine j_iload_n C 2 2 dX8_truth_7 rfl rfl ?_
      refine y_sipush C dX8_truth_8 rfl ?_
      refine y_icmp_ge C 59 dX8_truth_11 (by decide) (by omega) (fun h140 => ?_) (fun h140 => ?_)
      · have u162e := ll_e gf gn 1014 1014 (boP gf gn (unR gf gn 6)) ((boP gf gn (unR gf gn 6)) gi).2.2 gq137 a135 (M102.1 78 5).toInt (M102.1 78 6).toInt (M136.1 78 5).toInt (M136.1 78 6).toInt (psX M136) (by decide) (bo_g gf gn (unR_g gf gn 6)) (by omega) (by omega)
        have u162r : b01 (RR ((trP gf gn (unR gf gn 6)) gi) (M0.1 78 5).toInt (M0.1 78 6).toInt (M136.1 78 5).toInt (M136.1 78 6).toInt (psX M136)) = 1 := rr_sq ((boP gf gn (unR gf gn 6)) gi) (luP gf gn 1014 1014 (boP gf gn (unR gf gn 6))) (M0.1 78 5).toInt (M0.1 78 6).toInt (M102.1 78 5).toInt (M102.1 78 6).toInt (psX M102) (M136.1 78 5).toInt (M136.1 78 6).toInt (psX M136) (by omega) (by omega)
        exact hret _ _ _ dX8_truth_59 ⟨hM136, by omega⟩
      · refine j_aload_n C 0 0 dX8_truth_14 rfl rfl ?_
        refine y_getI C 7 _ _ fX8_truth_22 rfl rfl ft_7_5 sb_7_5 hM136 dX8_truth_15 (fun a141 ea141 la141 ua141 => ?_)
        refine y_if_ne C 59 dX8_truth_18 (by decide) (by omega) (fun h143 => ?_) (fun h143 => ?_)
        · have u163e := ll_e gf gn 1014 1014 (boP gf gn (unR gf gn 6)) ((boP gf gn (unR gf gn 6)) gi).2.2 gq137 a135 (M102.1 78 5).toInt (M102.1 78 6).toInt (M136.1 78 5).toInt (M136.1 78 6).toInt (psX M136) (by decide) (bo_g gf gn (unR_g gf gn 6)) (by omega) (by omega)
          have u163r : b01 (RR ((trP gf gn (unR gf gn 6)) gi) (M0.1 78 5).toInt (M0.1 78 6).toInt (M136.1 78 5).toInt (M136.1 78 6).toInt (psX M136)) = 1 := rr_sq ((boP gf gn (unR gf gn 6)) gi) (luP gf gn 1014 1014 (boP gf gn (unR gf gn 6))) (M0.1 78 5).toInt (M0.1 78 6).toInt (M102.1 78 5).toInt (M102.1 78 6).toInt (psX M102) (M136.1 78 5).toInt (M136.1 78 6).toInt (psX M136) (by omega) (by omega)
          exact hret _ _ _ dX8_truth_59 ⟨hM136, by omega⟩
        · refine j_aload_n C 0 0 dX8_truth_21 rfl rfl ?_
          refine j_callVi C (d := 0) (As := []) (st := []) 78 (s_lt rfl rfl) (s_kc (c := 7) rfl rfl) (by decide) rfl (s1_X8_token hM136 gf gn gq137 (by omega) (by omega)) gX8_truth_X8_token rfl hdX8_token (by decide) (Nat.le_of_ble_eq_true rfl) dX8_truth_22 rfl (fun r144 M145 h146 => ?_)
          obtain ⟨a148, rfl, rfl, h147⟩ := h146
          refine y_sipush C dX8_truth_25 rfl ?_
          refine y_icmp_ne C 59 dX8_truth_28 (by decide) (by omega) (fun h149 => ?_) (fun h149 => ?_)
          · have u164e := ll_e gf gn 1014 1014 (boP gf gn (unR gf gn 6)) ((boP gf gn (unR gf gn 6)) gi).2.2 gq137 a135 (M102.1 78 5).toInt (M102.1 78 6).toInt (M136.1 78 5).toInt (M136.1 78 6).toInt (psX M136) (by decide) (bo_g gf gn (unR_g gf gn 6)) (by omega) (by omega)
            have u164r : b01 (RR ((trP gf gn (unR gf gn 6)) gi) (M0.1 78 5).toInt (M0.1 78 6).toInt (M136.1 78 5).toInt (M136.1 78 6).toInt (psX M136)) = 1 := rr_sq ((boP gf gn (unR gf gn 6)) gi) (luP gf gn 1014 1014 (boP gf gn (unR gf gn 6))) (M0.1 78 5).toInt (M0.1 78 6).toInt (M102.1 78 5).toInt (M102.1 78 6).toInt (psX M102) (M136.1 78 5).toInt (M136.1 78 6).toInt (psX M136) (by omega) (by omega)
            exact hret _ _ _ dX8_truth_59 ⟨hM136, by omega⟩
          · refine j_aload_n C 0 0 dX8_truth_31 rfl rfl ?_
            refine j_dup C dX8_truth_32 rfl ?_
            refine y_getI C 7 _ _ fX8_truth_18 rfl rfl ft_7_2 sb_7_2 hM136 dX8_truth_33 (fun a150 ea150 la150 ua150 => ?_)
            refine y_iconst C dX8_truth_36 ?_
            refine y_iadd C dX8_truth_37 ?_
            refine y_putI C 7 _ _ qX8_truth_18 rfl rfl ft_7_2 sb_7_2 hM136 (PX.w hpr rfl rfl) dX8_truth_38 (by omega) (fun M152 eM152 hM152 => ?_)
            have xM152 := tkx_j (f := gf) (n := gn) (gi := gq137) eM152 (by omega) (by omega) (by omega) (by omega)
            refine j_aload_n C 0 0 dX8_truth_41 rfl rfl ?_
            refine j_iload_n C 1 1 dX8_truth_42 rfl rfl ?_
            refine j_callVv C (d := 25) (As := [.int (sI 0)]) (st := []) 78 (s_lt rfl rfl) (s_kc (c := 7) rfl rfl) (by decide) rfl (s8_X8_both hM152 hpr gf gn (nxF gf gn gq137) (by omega) (by omega)) gX8_truth_X8_both rfl hdX8_both (by decide) (Nat.le_of_ble_eq_true rfl) dX8_truth_43 rfl (fun M154 h155 => ?_)
            obtain ⟨hM154, h156⟩ := h155
            have bM154 := tkx_b (f := gf) (n := gn) (M := M154) (by omega)
            have qM154 := po_rr (boP gf gn (unR gf gn 6)) gn (nxF gf gn gq137) (M152.1 78 5).toInt (M152.1 78 6).toInt (psX M152) (M154.1 78 5).toInt (M154.1 78 6).toInt (psX M154) (bo_g gf gn (unR_g gf gn 6)) (by omega) (by omega)
            refine j_aload_n C 0 0 dX8_truth_46 rfl rfl ?_
            refine y_sipush C dX8_truth_47 rfl ?_
            refine j_callVv C (d := 0) (As := [.int (sI 1014)]) (st := []) 78 (s_lt rfl rfl) (s_kc (c := 7) rfl rfl) (by decide) rfl (s1_X8_emit hM154 hpr 1014 (by omega) gf gn ((boP gf gn (unR gf gn 6)) (nxF gf gn gq137)).2.2 (by omega) (by omega)) gX8_truth_X8_emit rfl hdX8_emit (by decide) (Nat.le_of_ble_eq_true rfl) dX8_truth_50 rfl (fun M158 h159 => ?_)
            obtain ⟨hM158, h160⟩ := h159
            have bM158 := tkx_b (f := gf) (n := gn) (M := M158) (by omega)
            have qM158 := po_eq gn ((boP gf gn (unR gf gn 6)) (nxF gf gn gq137)).2.2 (M154.1 78 5).toInt (psX M154) (M158.1 78 5).toInt (psX M158) (by omega) (by omega) (by omega)
            refine y_iinc C 2 [(2, .int (sI (a135 + 1))), (0, .ref (ad 78)), (1, .int (sI 0))] dX8_truth_53 rfl (by decide) rfl ?_
            have u161s := ll_s gf gn 1014 1014 (boP gf gn (unR gf gn 6)) ((boP gf gn (unR gf gn 6)) gi).2.2 gq137 a135 (M102.1 78 5).toInt (M102.1 78 6).toInt (M136.1 78 5).toInt (M136.1 78 6).toInt (psX M136) (M152.1 78 5).toInt (M152.1 78 6).toInt (M154.1 78 5).toInt (M154.1 78 6).toInt (psX M154) (M158.1 78 5).toInt (M158.1 78 6).toInt (psX M158) (by decide) (bo_g gf gn (unR_g gf gn 6)) (by omega) (by omega) (by omega) (by omega) (by omega) (by omega) (by omega) (by omega) (by omega)
            refine j_goto C 7 dX8_truth_56 (by decide) ?_
            refine j_lv [1, 2, 0] rfl ?_; exact ih133 (a135 + 1) M158 ((boP gf gn (unR gf gn 6)) (nxF gf gn gq137)).2.2 (by omega) hM158
  refine j_lv [1, 2, 0] rfl ?_; exact L134 2010 0 M102 ((boP gf gn (unR gf gn 6)) gi).2.2 (by omega) hM102
set_option maxHeartbeats 4000000 in
theorem s1_X8_line {l : Launch} {dC : Nat → ClassId} {dI : Nat → Nat → Nat} {ad : Nat → Nat} {cA : Nat → ClassId} {pr : Nat → Nat → Bool} {Kz : mm_M} {M0 : mm_M} (hM0 : INV pr Kz M0) (hpr : PX pr) (hq8_0 : ∀ i, s_c i = 8 → pr i 0 = false) (hq6_0 : ∀ i, s_c i = 6 → pr i 0 = false) (gf : Nat → Int) (gn : Int) (gi : Int) (hp0 : (M0.1 78 5).toInt = 0) (hp1 : b01 (TKX gf gn M0) = 1) (hp2 : b01 (PO gn gi (M0.1 78 5).toInt (psX M0)) = 1) : Cv l 27 yX8_line wsX8_line dC dI ad cA [.ref (ad 78)] M0 (fun M' => INV pr Kz M' ∧ (b01 (CK (M'.1 78 5).toInt (kiX M') (byX M') (lnX M') (inc (tkF gf gn gi) 1003 (kiX M0)) (inc (tkF gf gn gi) 1009 (byX M0)) (lnX M0)) = 1) ∧ (lnX M' = lnX M0) ∧ (b01 (TKX gf gn M') = 1) ∧ b01 (RR ((liP gf gn (kiX M0) (byX M0)) gi) (M0.1 78 5).toInt (M0.1 78 6).toInt (M'.1 78 5).toInt (M'.1 78 6).toInt (psX M')) = 1) := by
  refine cv_of (cc := cX8_line) (maxL := 1) (lv := [(0, .ref (ad 78))]) (by decide) rfl (Nat.le_of_ble_eq_true rfl) rfl ?_
  intro p e s m args below meth c A Q C hret
  have u101b := tkx_b (f := gf) (n := gn) (M := M0) (by omega)
  have u101i := inc_s (tkF gf gn (psX M0)) 1003 (kiX M0)
  have u101j := inc_s (tkF gf gn (psX M0)) 1009 (byX M0)
  refine j_aload_n C 0 0 dX8_line_0 rfl rfl ?_
  refine j_callVi C (d := 0) (As := []) (st := []) 78 (s_lt rfl rfl) (s_kc (c := 7) rfl rfl) (by decide) rfl (s1_X8_token hM0 gf gn gi (by omega) (by omega)) gX8_line_X8_token rfl hdX8_token (by decide) (Nat.le_of_ble_eq_true rfl) dX8_line_1 rfl (fun r102 M103 h104 => ?_)
  obtain ⟨a106, rfl, rfl, h105⟩ := h104
  rcases (show (a106 < 1003 ∨ 1011 < a106) ∨ a106 = 1003 ∨ a106 = 1004 ∨ a106 = 1005 ∨ a106 = 1006 ∨ a106 = 1007 ∨ a106 = 1008 ∨ a106 = 1009 ∨ a106 = 1010 ∨ a106 = 1011 by omega) with h107 | h107 | h107 | h107 | h107 | h107 | h107 | h107 | h107 | h107
  · refine y_tabO C 176 dX8_line_4 (by decide) (by omega) ?_
    refine j_aload_n C 0 0 dX8_line_176 rfl rfl ?_
    refine y_iconst C dX8_line_177 ?_
    refine j_callVv C (d := 0) (As := [.int (sI 2)]) (st := []) 78 (s_lt rfl rfl) (s_kc (c := 7) rfl rfl) (by decide) rfl (s1_X8_fail hM0 hpr 2 (by omega) gf gn gi (by omega) (by omega) (by omega)) gX8_line_X8_fail rfl hdX8_fail (by decide) (Nat.le_of_ble_eq_true rfl) dX8_line_178 rfl (fun M109 h110 => ?_)
    obtain ⟨hM109, fM109, h111⟩ := h110
    have bM109 := tkx_b (f := gf) (n := gn) (M := M109) (by omega)
    have qM109 := po_f gn ((faQ gf gn 2) gi).2.2 (M109.1 78 5).toInt (psX M109) (by omega)
    have cM109 := cn_f hM0 fM109
    have u112r := li_5 gf gn (kiX M0) (byX M0) gi (M0.1 78 5).toInt (M0.1 78 6).toInt (psX M0) (M109.1 78 5).toInt (M109.1 78 6).toInt (psX M109) (by omega) (by omega) (by omega)
    have u112d := ck_i (M109.1 78 5).toInt (kiX M109) (byX M109) (lnX M109) (kiX M0) (byX M0) (lnX M0) (by omega)
    have u112c := ck_li gf gn gi (M0.1 78 5).toInt (psX M0) (M109.1 78 5).toInt (kiX M109) (byX M109) (lnX M109) (kiX M0) (byX M0) (lnX M0) (kiX M0) (byX M0) (by omega) (by omega) (by omega) (by omega) (by omega)
    exact hret _ _ _ dX8_line_181 ⟨hM109, by omega⟩
  · refine y_tabI C (off := 52) 56 1003 dX8_line_4 (by decide) rfl (by decide) h107 ?_
    refine j_aload_n C 0 0 dX8_line_56 rfl rfl ?_
    refine j_callVv C (d := 3) (As := []) (st := []) 78 (s_lt rfl rfl) (s_kc (c := 7) rfl rfl) (by decide) rfl (s1_X8_kindLine hM0 hpr hq8_0 gf gn gi (by omega) (by omega) (by omega) (by omega)) gX8_line_X8_kindLine rfl hdX8_kindLine (by decide) (Nat.le_of_ble_eq_true rfl) dX8_line_57 rfl (fun M114 h115 => ?_)
    obtain ⟨hM114, h116⟩ := h115
    have bM114 := tkx_b (f := gf) (n := gn) (M := M114) (by omega)
    refine j_goto C 181 dX8_line_60 (by decide) ?_
    have u117r := li_1 gf gn (kiX M0) (byX M0) gi (M0.1 78 5).toInt (M0.1 78 6).toInt (psX M0) (M114.1 78 5).toInt (M114.1 78 6).toInt (psX M114) (by omega) (by omega) (by omega)
    have u117c := ck_li gf gn gi (M0.1 78 5).toInt (psX M0) (M114.1 78 5).toInt (kiX M114) (byX M114) (lnX M114) (kiX M0) (byX M0) (lnX M0) (kiX M0 + 1) (byX M0) (by omega) (by omega) (by omega) (by omega) (by omega)
    exact hret _ _ _ dX8_line_181 ⟨hM114, by omega⟩
  · refine y_tabI C (off := 172) 176 1004 dX8_line_4 (by decide) rfl (by decide) h107 ?_
    refine j_aload_n C 0 0 dX8_line_176 rfl rfl ?_
    refine y_iconst C dX8_line_177 ?_
    refine j_callVv C (d := 0) (As := [.int (sI 2)]) (st := []) 78 (s_lt rfl rfl) (s_kc (c := 7) rfl rfl) (by decide) rfl (s1_X8_fail hM0 hpr 2 (by omega) gf gn gi (by omega) (by omega) (by omega)) gX8_line_X8_fail rfl hdX8_fail (by decide) (Nat.le_of_ble_eq_true rfl) dX8_line_178 rfl (fun M119 h120 => ?_)
    obtain ⟨hM119, fM119, h121⟩ := h120
    have bM119 := tkx_b (f := gf) (n := gn) (M := M119) (by omega)
    have qM119 := po_f gn ((faQ gf gn 2) gi).2.2 (M119.1 78 5).toInt (psX M119) (by omega)
    have cM119 := cn_f hM0 fM119
    have u122r := li_5 gf gn (kiX M0) (byX M0) gi (M0.1 78 5).toInt (M0.1 78 6).toInt (psX M0) (M119.1 78 5).toInt (M119.1 78 6).toInt (psX M119) (by omega) (by omega) (by omega)
    have u122d := ck_i (M119.1 78 5).toInt (kiX M119) (byX M119) (lnX M119) (kiX M0) (byX M0) (lnX M0) (by omega)
    have u122c := ck_li gf gn gi (M0.1 78 5).toInt (psX M0) (M119.1 78 5).toInt (kiX M119) (byX M119) (lnX M119) (kiX M0) (byX M0) (lnX M0) (kiX M0) (byX M0) (by omega) (by omega) (by omega) (by omega) (by omega)
    exact hret _ _ _ dX8_line_181 ⟨hM119, by omega⟩
  · refine y_tabI C (off := 172) 176 1005 dX8_line_4 (by decide) rfl (by decide) h107 ?_
    refine j_aload_n C 0 0 dX8_line_176 rfl rfl ?_
    refine y_iconst C dX8_line_177 ?_
    refine j_callVv C (d := 0) (As := [.int (sI 2)]) (st := []) 78 (s_lt rfl rfl) (s_kc (c := 7) rfl rfl) (by decide) rfl (s1_X8_fail hM0 hpr 2 (by omega) gf gn gi (by omega) (by omega) (by omega)) gX8_line_X8_fail rfl hdX8_fail (by decide) (Nat.le_of_ble_eq_true rfl) dX8_line_178 rfl (fun M124 h125 => ?_)
    obtain ⟨hM124, fM124, h126⟩ := h125
    have bM124 := tkx_b (f := gf) (n := gn) (M := M124) (by omega)
    have qM124 := po_f gn ((faQ gf gn 2) gi).2.2 (M124.1 78 5).toInt (psX M124) (by omega)
    have cM124 := cn_f hM0 fM124
    have u127r := li_5 gf gn (kiX M0) (byX M0) gi (M0.1 78 5).toInt (M0.1 78 6).toInt (psX M0) (M124.1 78 5).toInt (M124.1 78 6).toInt (psX M124) (by omega) (by omega) (by omega)
    have u127d := ck_i (M124.1 78 5).toInt (kiX M124) (byX M124) (lnX M124) (kiX M0) (byX M0) (lnX M0) (by omega)
    have u127c := ck_li gf gn gi (M0.1 78 5).toInt (psX M0) (M124.1 78 5).toInt (kiX M124) (byX M124) (lnX M124) (kiX M0) (byX M0) (lnX M0) (kiX M0) (byX M0) (by omega) (by omega) (by omega) (by omega) (by omega)
    exact hret _ _ _ dX8_line_181 ⟨hM124, by omega⟩
  · refine y_tabI C (off := 172) 176 1006 dX8_line_4 (by decide) rfl (by decide) h107 ?_
    refine j_aload_n C 0 0 dX8_line_176 rfl rfl ?_
    refine y_iconst C dX8_line_177 ?_
    refine j_callVv C (d := 0) (As := [.int (sI 2)]) (st := []) 78 (s_lt rfl rfl) (s_kc (c := 7) rfl rfl) (by decide) rfl (s1_X8_fail hM0 hpr 2 (by omega) gf gn gi (by omega) (by omega) (by omega)) gX8_line_X8_fail rfl hdX8_fail (by decide) (Nat.le_of_ble_eq_true rfl) dX8_line_178 rfl (fun M129 h130 => ?_)
    obtain ⟨hM129, fM129, h131⟩ := h130
    have bM129 := tkx_b (f := gf) (n := gn) (M := M129) (by omega)
    have qM129 := po_f gn ((faQ gf gn 2) gi).2.2 (M129.1 78 5).toInt (psX M129) (by omega)
    have cM129 := cn_f hM0 fM129
    have u132r := li_5 gf gn (kiX M0) (byX M0) gi (M0.1 78 5).toInt (M0.1 78 6).toInt (psX M0) (M129.1 78 5).toInt (M129.1 78 6).toInt (psX M129) (by omega) (by omega) (by omega)
    have u132d := ck_i (M129.1 78 5).toInt (kiX M129) (byX M129) (lnX M129) (kiX M0) (byX M0) (lnX M0) (by omega)
    have u132c := ck_li gf gn gi (M0.1 78 5).toInt (psX M0) (M129.1 78 5).toInt (kiX M129) (byX M129) (lnX M129) (kiX M0) (byX M0) (lnX M0) (kiX M0) (byX M0) (by omega) (by omega) (by omega) (by omega) (by omega)
    exact hret _ _ _ dX8_line_181 ⟨hM129, by omega⟩
  · refine y_tabI C (off := 172) 176 1007 dX8_line_4 (by decide) rfl (by decide) h107 ?_
    refine j_aload_n C 0 0 dX8_line_176 rfl rfl ?_
    refine y_iconst C dX8_line_177 ?_
    refine j_callVv C (d := 0) (As := [.int (sI 2)]) (st := []) 78 (s_lt rfl rfl) (s_kc (c := 7) rfl rfl) (by decide) rfl (s1_X8_fail hM0 hpr 2 (by omega) gf gn gi (by omega) (by omega) (by omega)) gX8_line_X8_fail rfl hdX8_fail (by decide) (Nat.le_of_ble_eq_true rfl) dX8_line_178 rfl (fun M134 h135 => ?_)
    obtain ⟨hM134, fM134, h136⟩ := h135
    have bM134 := tkx_b (f := gf) (n := gn) (M := M134) (by omega)
    have qM134 := po_f gn ((faQ gf gn 2) gi).2.2 (M134.1 78 5).toInt (psX M134) (by omega)
    have cM134 := cn_f hM0 fM134
    have u137r := li_5 gf gn (kiX M0) (byX M0) gi (M0.1 78 5).toInt (M0.1 78 6).toInt (psX M0) (M134.1 78 5).toInt (M134.1 78 6).toInt (psX M134) (by omega) (by omega) (by omega)
    have u137d := ck_i (M134.1 78 5).toInt (kiX M134) (byX M134) (lnX M134) (kiX M0) (byX M0) (lnX M0) (by omega)
    have u137c := ck_li gf gn gi (M0.1 78 5).toInt (psX M0) (M134.1 78 5).toInt (kiX M134) (byX M134) (lnX M134) (kiX M0) (byX M0) (lnX M0) (kiX M0) (byX M0) (by omega) (by omega) (by omega) (by omega) (by omega)
    exact hret _ _ _ dX8_line_181 ⟨hM134, by omega⟩
  · refine y_tabI C (off := 172) 176 1008 dX8_line_4 (by decide) rfl (by decide) h107 ?_
    refine j_aload_n C 0 0 dX8_line_176 rfl rfl ?_
    refine y_iconst C dX8_line_177 ?_
    refine j_callVv C (d := 0) (As := [.int (sI 2)]) (st := []) 78 (s_lt rfl rfl) (s_kc (c := 7) rfl rfl) (by decide) rfl (s1_X8_fail hM0 hpr 2 (by omega) gf gn gi (by omega) (by omega) (by omega)) gX8_line_X8_fail rfl hdX8_fail (by decide) (Nat.le_of_ble_eq_true rfl) dX8_line_178 rfl (fun M139 h140 => ?_)
    obtain ⟨hM139, fM139, h141⟩ := h140
    have bM139 := tkx_b (f := gf) (n := gn) (M := M139) (by omega)
    have qM139 := po_f gn ((faQ gf gn 2) gi).2.2 (M139.1 78 5).toInt (psX M139) (by omega)
    have cM139 := cn_f hM0 fM139
    have u142r := li_5 gf gn (kiX M0) (byX M0) gi (M0.1 78 5).toInt (M0.1 78 6).toInt (psX M0) (M139.1 78 5).toInt (M139.1 78 6).toInt (psX M139) (by omega) (by omega) (by omega)
    have u142d := ck_i (M139.1 78 5).toInt (kiX M139) (byX M139) (lnX M139) (kiX M0) (byX M0) (lnX M0) (by omega)
    have u142c := ck_li gf gn gi (M0.1 78 5).toInt (psX M0) (M139.1 78 5).toInt (kiX M139) (byX M139) (lnX M139) (kiX M0) (byX M0) (lnX M0) (kiX M0) (byX M0) (by omega) (by omega) (by omega) (by omega) (by omega)
    exact hret _ _ _ dX8_line_181 ⟨hM139, by omega⟩
  · refine y_tabI C (off := 59) 63 1009 dX8_line_4 (by decide) rfl (by decide) h107 ?_
    refine j_aload_n C 0 0 dX8_line_63 rfl rfl ?_
    refine j_callVv C (d := 3) (As := []) (st := []) 78 (s_lt rfl rfl) (s_kc (c := 7) rfl rfl) (by decide) rfl (s1_X8_buyerLine hM0 hpr hq6_0 gf gn gi (by omega) (by omega) (by omega) (by omega)) gX8_line_X8_buyerLine rfl hdX8_buyerLine (by decide) (Nat.le_of_ble_eq_true rfl) dX8_line_64 rfl (fun M144 h145 => ?_)
    obtain ⟨hM144, h146⟩ := h145
    have bM144 := tkx_b (f := gf) (n := gn) (M := M144) (by omega)
    refine j_goto C 181 dX8_line_67 (by decide) ?_
    have u147r := li_2 gf gn (kiX M0) (byX M0) gi (M0.1 78 5).toInt (M0.1 78 6).toInt (psX M0) (M144.1 78 5).toInt (M144.1 78 6).toInt (psX M144) (by omega) (by omega) (by omega)
    have u147c := ck_li gf gn gi (M0.1 78 5).toInt (psX M0) (M144.1 78 5).toInt (kiX M144) (byX M144) (lnX M144) (kiX M0) (byX M0) (lnX M0) (kiX M0) (byX M0 + 1) (by omega) (by omega) (by omega) (by omega) (by omega)
    exact hret _ _ _ dX8_line_181 ⟨hM144, by omega⟩
  · refine y_tabI C (off := 66) 70 1010 dX8_line_4 (by decide) rfl (by decide) h107 ?_
    refine j_aload_n C 0 0 dX8_line_70 rfl rfl ?_
    refine j_dup C dX8_line_71 rfl ?_
    refine y_getI C 7 _ _ fX8_line_18 rfl rfl ft_7_2 sb_7_2 hM0 dX8_line_72 (fun a148 ea148 la148 ua148 => ?_)
    refine y_iconst C dX8_line_75 ?_
    refine y_iadd C dX8_line_76 ?_
    refine y_putI C 7 _ _ qX8_line_18 rfl rfl ft_7_2 sb_7_2 hM0 (PX.w hpr rfl rfl) dX8_line_77 (by omega) (fun M150 eM150 hM150 => ?_)
    have xM150 := tkx_j (f := gf) (n := gn) (gi := gi) eM150 (by omega) (by omega) (by omega) (by omega)
    have cM150 := cn_w hM0 (c := 7) rfl eM150 (by decide)
    refine j_aload_n C 0 0 dX8_line_80 rfl rfl ?_
    refine y_sipush C dX8_line_81 rfl ?_
    refine j_callVv C (d := 1) (As := [.int (sI 2058)]) (st := []) 78 (s_lt rfl rfl) (s_kc (c := 7) rfl rfl) (by decide) rfl (s1_X8_expect hM150 hpr 2058 (by omega) gf gn (nxF gf gn gi) (by omega) (by omega) (by omega) (by omega)) gX8_line_X8_expect rfl hdX8_expect (by decide) (Nat.le_of_ble_eq_true rfl) dX8_line_84 rfl (fun M152 h153 => ?_)
    obtain ⟨hM152, fM152, h154⟩ := h153
    have bM152 := tkx_b (f := gf) (n := gn) (M := M152) (by omega)
    have qM152 := po_rr (exP gf gn 2058) gn (nxF gf gn gi) (M150.1 78 5).toInt (M150.1 78 6).toInt (psX M150) (M152.1 78 5).toInt (M152.1 78 6).toInt (psX M152) (ex_g gf gn 2058 (by omega)) (by omega) (by omega)
    have cM152 := cn_f hM150 fM152
    refine j_aload_n C 0 0 dX8_line_87 rfl rfl ?_
    refine y_getM C 7 6 fX8_line_28 rfl rfl ft_7_3 sm_7_3 (by decide) hM152 dX8_line_88 (fun v155 ev155 cv155 => ?_)
    refine j_aload_n C 0 0 dX8_line_91 rfl rfl ?_
    refine y_getV C 7 v155 fX8_line_28 rfl rfl ft_7_3 (ev155) dX8_line_92 ?_
    refine y_getI C 6 _ _ fX8_line_93 cv155 rfl ft_6_6 sb_6_6 hM152 dX8_line_95 (fun a156 ea156 la156 ua156 => ?_)
    have qa156 : a156 = (M0.1 v155 6).toInt := s_fb eM150 (by decide) (s_fF fM152 (s_nin cv155 (by decide)) (ea156))
    refine y_putI C 6 _ _ qX8_line_96 cv155 rfl ft_6_7 sb_6_7 hM152 (PX.w hpr cv155 rfl) dX8_line_98 (by omega) (fun M158 eM158 hM158 => ?_)
    have xM158 := tkx_w (f := gf) (n := gn) eM158 (s_ne (c := 31) (d := 6) rfl cv155 (by decide)) (s_ne (c := 32) (d := 6) rfl cv155 (by decide)) (s_ne (c := 7) (d := 6) rfl cv155 (by decide)) (by omega)
    have qM158 := po_eq gn ((exP gf gn 2058) (nxF gf gn gi)).2.2 (M152.1 78 5).toInt (psX M152) (M158.1 78 5).toInt (psX M158) (by omega) (by omega) (by omega)
    have cM158 := cn_w hM152 (c := 6) cv155 eM158 (by decide)
    refine j_aload_n C 0 0 dX8_line_101 rfl rfl ?_
    refine y_iconst C dX8_line_102 ?_
    obtain ⟨prz159, Kzz159, hprz159, hz159, hnez159, hbkz159⟩ := fzXs [6, 7, 8] hpr hM158
    refine j_callVv C (d := 23) (As := [.int (sI 0)]) (st := []) 78 (s_lt rfl rfl) (s_kc (c := 7) rfl rfl) (by decide) rfl (s8_X8_sum hz159 hprz159 gf gn ((exP gf gn 2058) (nxF gf gn gi)).2.2 (by omega) (by omega)) gX8_line_X8_sum rfl hdX8_sum (by decide) (Nat.le_of_ble_eq_true rfl) dX8_line_103 rfl (fun M161 h162 => ?_)
    obtain ⟨hM161, h163⟩ := h162
    have zbM161 := (hbkz159 _ hM161).2
    have hM161 := (hbkz159 _ hM161).1
    have bM161 := tkx_b (f := gf) (n := gn) (M := M161) (by omega)
    have qM161 := po_rr (suR gf gn 6) gn ((exP gf gn 2058) (nxF gf gn gi)).2.2 (M158.1 78 5).toInt (M158.1 78 6).toInt (psX M158) (M161.1 78 5).toInt (M161.1 78 6).toInt (psX M161) (suR_g gf gn 6) (by omega) (by omega)
    have cM161 := cn_z (cs := [6, 7, 8]) rfl rfl rfl hM158 zbM161
    refine j_aload_n C 0 0 dX8_line_106 rfl rfl ?_
    refine y_getM C 7 6 fX8_line_28 rfl rfl ft_7_3 sm_7_3 (by decide) hM161 dX8_line_107 (fun v164 ev164 cv164 => ?_)
    refine j_aload_n C 0 0 dX8_line_110 rfl rfl ?_
    refine y_getV C 7 v164 fX8_line_28 rfl rfl ft_7_3 (ev164) dX8_line_111 ?_
    refine y_getI C 6 _ _ fX8_line_93 cv164 rfl ft_6_6 sb_6_6 hM161 dX8_line_114 (fun a165 ea165 la165 ua165 => ?_)
    refine y_putI C 6 _ _ qX8_line_102 cv164 rfl ft_6_8 sb_6_8 hM161 (PX.w hpr cv164 rfl) dX8_line_117 (by omega) (fun M167 eM167 hM167 => ?_)
    have xM167 := tkx_w (f := gf) (n := gn) eM167 (s_ne (c := 31) (d := 6) rfl cv164 (by decide)) (s_ne (c := 32) (d := 6) rfl cv164 (by decide)) (s_ne (c := 7) (d := 6) rfl cv164 (by decide)) (by omega)
    have qM167 := po_eq gn ((suR gf gn 6) ((exP gf gn 2058) (nxF gf gn gi)).2.2).2.2 (M161.1 78 5).toInt (psX M161) (M167.1 78 5).toInt (psX M167) (by omega) (by omega) (by omega)
    have cM167 := cn_w hM161 (c := 6) cv164 eM167 (by decide)
    refine j_goto C 181 dX8_line_120 (by decide) ?_
    have u168w := wa_1 gf gn gi (M0.1 78 5).toInt (M0.1 78 6).toInt (M150.1 78 5).toInt (M150.1 78 6).toInt (M152.1 78 5).toInt (M152.1 78 6).toInt (psX M152) (M158.1 78 5).toInt (M158.1 78 6).toInt (M161.1 78 5).toInt (M161.1 78 6).toInt (psX M161) (M167.1 78 5).toInt (M167.1 78 6).toInt (psX M167) (by omega) (by omega) (by omega) (by omega) (by omega) (by omega) (by omega) (by omega) (by omega)
    have u168r := li_3 gf gn (kiX M0) (byX M0) gi (M0.1 78 5).toInt (M0.1 78 6).toInt (psX M0) (M167.1 78 5).toInt (M167.1 78 6).toInt (psX M167) (by omega) (by omega) (by omega)
    have u168d := ck_i (M167.1 78 5).toInt (kiX M167) (byX M167) (lnX M167) (kiX M0) (byX M0) (lnX M0) (by omega)
    have u168c := ck_li gf gn gi (M0.1 78 5).toInt (psX M0) (M167.1 78 5).toInt (kiX M167) (byX M167) (lnX M167) (kiX M0) (byX M0) (lnX M0) (kiX M0) (byX M0) (by omega) (by omega) (by omega) (by omega) (by omega)
    have zz78_5 : (M167.1 78 5).toInt = (M161.1 78 5).toInt := s_fb eM167 (by decide) (rfl); have zz78_6 : (M167.1 78 6).toInt = (M161.1 78 6).toInt := s_fb eM167 (by decide) (rfl); exact hret _ _ _ dX8_line_181 ⟨hM167, by omega⟩
  · refine y_tabI C (off := 119) 123 1011 dX8_line_4 (by decide) rfl (by decide) h107 ?_
    refine j_aload_n C 0 0 dX8_line_123 rfl rfl ?_
    refine j_dup C dX8_line_124 rfl ?_
    refine y_getI C 7 _ _ fX8_line_18 rfl rfl ft_7_2 sb_7_2 hM0 dX8_line_125 (fun a169 ea169 la169 ua169 => ?_)
    refine y_iconst C dX8_line_128 ?_
    refine y_iadd C dX8_line_129 ?_
    refine y_putI C 7 _ _ qX8_line_18 rfl rfl ft_7_2 sb_7_2 hM0 (PX.w hpr rfl rfl) dX8_line_130 (by omega) (fun M171 eM171 hM171 => ?_)
    have xM171 := tkx_j (f := gf) (n := gn) (gi := gi) eM171 (by omega) (by omega) (by omega) (by omega)
    have cM171 := cn_w hM0 (c := 7) rfl eM171 (by decide)
    refine j_aload_n C 0 0 dX8_line_133 rfl rfl ?_
    refine y_sipush C dX8_line_134 rfl ?_
    refine j_callVv C (d := 1) (As := [.int (sI 2058)]) (st := []) 78 (s_lt rfl rfl) (s_kc (c := 7) rfl rfl) (by decide) rfl (s1_X8_expect hM171 hpr 2058 (by omega) gf gn (nxF gf gn gi) (by omega) (by omega) (by omega) (by omega)) gX8_line_X8_expect rfl hdX8_expect (by decide) (Nat.le_of_ble_eq_true rfl) dX8_line_137 rfl (fun M173 h174 => ?_)
    obtain ⟨hM173, fM173, h175⟩ := h174
    have bM173 := tkx_b (f := gf) (n := gn) (M := M173) (by omega)
    have qM173 := po_rr (exP gf gn 2058) gn (nxF gf gn gi) (M171.1 78 5).toInt (M171.1 78 6).toInt (psX M171) (M173.1 78 5).toInt (M173.1 78 6).toInt (psX M173) (ex_g gf gn 2058 (by omega)) (by omega) (by omega)
    have cM173 := cn_f hM171 fM173
    refine j_aload_n C 0 0 dX8_line_140 rfl rfl ?_
    refine y_getM C 7 6 fX8_line_28 rfl rfl ft_7_3 sm_7_3 (by decide) hM173 dX8_line_141 (fun v176 ev176 cv176 => ?_)
    refine j_aload_n C 0 0 dX8_line_144 rfl rfl ?_
    refine y_getV C 7 v176 fX8_line_28 rfl rfl ft_7_3 (ev176) dX8_line_145 ?_
    refine y_getI C 6 _ _ fX8_line_93 cv176 rfl ft_6_6 sb_6_6 hM173 dX8_line_148 (fun a177 ea177 la177 ua177 => ?_)
    have qa177 : a177 = (M0.1 v176 6).toInt := s_fb eM171 (by decide) (s_fF fM173 (s_nin cv176 (by decide)) (ea177))
    refine y_putI C 6 _ _ qX8_line_105 cv176 rfl ft_6_9 sb_6_9 hM173 (PX.w hpr cv176 rfl) dX8_line_151 (by omega) (fun M179 eM179 hM179 => ?_)
    have xM179 := tkx_w (f := gf) (n := gn) eM179 (s_ne (c := 31) (d := 6) rfl cv176 (by decide)) (s_ne (c := 32) (d := 6) rfl cv176 (by decide)) (s_ne (c := 7) (d := 6) rfl cv176 (by decide)) (by omega)
    have qM179 := po_eq gn ((exP gf gn 2058) (nxF gf gn gi)).2.2 (M173.1 78 5).toInt (psX M173) (M179.1 78 5).toInt (psX M179) (by omega) (by omega) (by omega)
    have cM179 := cn_w hM173 (c := 6) cv176 eM179 (by decide)
    refine j_aload_n C 0 0 dX8_line_154 rfl rfl ?_
    refine y_iconst C dX8_line_155 ?_
    obtain ⟨prz180, Kzz180, hprz180, hz180, hnez180, hbkz180⟩ := fzXs [6, 7, 8] hpr hM179
    refine j_callVv C (d := 26) (As := [.int (sI 0)]) (st := []) 78 (s_lt rfl rfl) (s_kc (c := 7) rfl rfl) (by decide) rfl (s8_X8_truth hz180 hprz180 gf gn ((exP gf gn 2058) (nxF gf gn gi)).2.2 (by omega) (by omega)) gX8_line_X8_truth rfl hdX8_truth (by decide) (Nat.le_of_ble_eq_true rfl) dX8_line_156 rfl (fun M182 h183 => ?_)
    obtain ⟨hM182, h184⟩ := h183
    have zbM182 := (hbkz180 _ hM182).2
    have hM182 := (hbkz180 _ hM182).1
    have bM182 := tkx_b (f := gf) (n := gn) (M := M182) (by omega)
    have qM182 := po_rr (trP gf gn (unR gf gn 6)) gn ((exP gf gn 2058) (nxF gf gn gi)).2.2 (M179.1 78 5).toInt (M179.1 78 6).toInt (psX M179) (M182.1 78 5).toInt (M182.1 78 6).toInt (psX M182) (tr_g gf gn (unR_g gf gn 6)) (by omega) (by omega)
    have cM182 := cn_z (cs := [6, 7, 8]) rfl rfl rfl hM179 zbM182
    refine j_aload_n C 0 0 dX8_line_159 rfl rfl ?_
    refine y_getM C 7 6 fX8_line_28 rfl rfl ft_7_3 sm_7_3 (by decide) hM182 dX8_line_160 (fun v185 ev185 cv185 => ?_)
    refine j_aload_n C 0 0 dX8_line_163 rfl rfl ?_
    refine y_getV C 7 v185 fX8_line_28 rfl rfl ft_7_3 (ev185) dX8_line_164 ?_
    refine y_getI C 6 _ _ fX8_line_93 cv185 rfl ft_6_6 sb_6_6 hM182 dX8_line_167 (fun a186 ea186 la186 ua186 => ?_)
    refine y_putI C 6 _ _ qX8_line_111 cv185 rfl ft_6_10 sb_6_10 hM182 (PX.w hpr cv185 rfl) dX8_line_170 (by omega) (fun M188 eM188 hM188 => ?_)
    have xM188 := tkx_w (f := gf) (n := gn) eM188 (s_ne (c := 31) (d := 6) rfl cv185 (by decide)) (s_ne (c := 32) (d := 6) rfl cv185 (by decide)) (s_ne (c := 7) (d := 6) rfl cv185 (by decide)) (by omega)
    have qM188 := po_eq gn ((trP gf gn (unR gf gn 6)) ((exP gf gn 2058) (nxF gf gn gi)).2.2).2.2 (M182.1 78 5).toInt (psX M182) (M188.1 78 5).toInt (psX M188) (by omega) (by omega) (by omega)
    have cM188 := cn_w hM182 (c := 6) cv185 eM188 (by decide)
    refine j_goto C 181 dX8_line_173 (by decide) ?_
    have u189w := le_1 gf gn gi (M0.1 78 5).toInt (M0.1 78 6).toInt (M171.1 78 5).toInt (M171.1 78 6).toInt (M173.1 78 5).toInt (M173.1 78 6).toInt (psX M173) (M179.1 78 5).toInt (M179.1 78 6).toInt (M182.1 78 5).toInt (M182.1 78 6).toInt (psX M182) (M188.1 78 5).toInt (M188.1 78 6).toInt (psX M188) (by omega) (by omega) (by omega) (by omega) (by omega) (by omega) (by omega) (by omega) (by omega)
    have u189r := li_4 gf gn (kiX M0) (byX M0) gi (M0.1 78 5).toInt (M0.1 78 6).toInt (psX M0) (M188.1 78 5).toInt (M188.1 78 6).toInt (psX M188) (by omega) (by omega) (by omega)
    have u189d := ck_i (M188.1 78 5).toInt (kiX M188) (byX M188) (lnX M188) (kiX M0) (byX M0) (lnX M0) (by omega)
    have u189c := ck_li gf gn gi (M0.1 78 5).toInt (psX M0) (M188.1 78 5).toInt (kiX M188) (byX M188) (lnX M188) (kiX M0) (byX M0) (lnX M0) (kiX M0) (byX M0) (by omega) (by omega) (by omega) (by omega) (by omega)
    have zz78_5 : (M188.1 78 5).toInt = (M182.1 78 5).toInt := s_fb eM188 (by decide) (rfl); have zz78_6 : (M188.1 78 6).toInt = (M182.1 78 6).toInt := s_fb eM188 (by decide) (rfl); exact hret _ _ _ dX8_line_181 ⟨hM188, by omega⟩
set_option maxHeartbeats 4000000 in
theorem s1_X8_read {l : Launch} {dC : Nat → ClassId} {dI : Nat → Nat → Nat} {ad : Nat → Nat} {cA : Nat → ClassId} {pr : Nat → Nat → Bool} {Kz : mm_M} {M0 : mm_M} (hM0 : INV pr Kz M0) (hpr : PX pr) (hq7_3 : ∀ i, s_c i = 7 → pr i 3 = false) (hq7_4 : ∀ i, s_c i = 7 → pr i 4 = false) (hq6_0 : ∀ i, s_c i = 6 → pr i 0 = false) (hq6_1 : ∀ i, s_c i = 6 → pr i 1 = false) (hq8_0 : ∀ i, s_c i = 8 → pr i 0 = false) (a2 : Int) (ha2 : -2147483648 ≤ a2 ∧ a2 ≤ 2147483647) {v3 : Nat} (cv3 : s_c v3 = 6) {v4 : Nat} (cv4 : s_c v4 = 8) (gf : Nat → Int) (gn : Int) (hp0 : gn = a2) (hp1 : b01 (TPX gf gn M0) = 1) (hp2 : 0 ≤ a2 ∧ a2 ≤ 900) : Cv l 28 yX8_read wsX8_read dC dI ad cA [.ref (ad 78), .ref (ad 1), .int (sI a2), .ref (ad v3), .ref (ad v4)] M0 (fun M' => INV pr Kz M' ∧ ((M'.1 78 5).toInt = (rdP gf gn).1 ∧ ((M'.1 78 5).toInt = 0 ∧ (M'.1 78 6).toInt = -1 ∧ (M'.1 v3 1).toInt = (rdP gf gn).2.2 ∨ ¬ (M'.1 78 5).toInt = 0 ∧ (M'.1 78 6).toInt = (rdP gf gn).2.1))) := by
  refine cv_of (cc := cX8_read) (maxL := 6) (lv := [(0, .ref (ad 78)), (1, .ref (ad 1)), (2, .int (sI a2)), (3, .ref (ad v3)), (4, .ref (ad v4))]) (by decide) rfl (Nat.le_of_ble_eq_true rfl) rfl ?_
  intro p e s m args below meth c A Q C hret
  refine j_aload_n C 0 0 dX8_read_0 rfl rfl ?_
  refine j_aload_n C 3 3 dX8_read_1 rfl rfl ?_
  refine y_putP C 7 6 qX8_read_28 rfl rfl rfl rfl ft_7_3 sm_7_3 (by decide) hM0 (hq7_3 _ rfl) cv3 dX8_read_2 (fun M101 eM101 hM101 => ?_)
  refine j_aload_n C 0 0 dX8_read_5 rfl rfl ?_
  refine j_aload C 4 dX8_read_6 rfl ?_
  refine y_putP C 7 8 qX8_read_32 rfl rfl rfl rfl ft_7_4 sm_7_4 (by decide) hM101 (hq7_4 _ rfl) cv4 dX8_read_8 (fun M102 eM102 hM102 => ?_)
  have u1033 := s_pP eM102 (by decide) (s_pW eM101)
  have u1034 := s_pW eM102
  have u103t := tp_c (f := gf) (n := gn) (M := M0) (M' := M102) (by rw [eM102, eM101]) (by omega)
  refine j_aload_n C 0 0 dX8_read_11 rfl rfl ?_
  refine y_getV C 7 v3 fX8_read_28 rfl rfl ft_7_3 (s_pP eM102 (by decide) (s_pW eM101)) dX8_read_12 ?_
  obtain ⟨prz104, Kzz104, hprz104, hz104, hnez104, hbkz104⟩ := fzXs [7, 8, 20] hpr hM102
  refine j_callVv C (d := 0) (As := []) (st := []) v3 (s_lt cv3 rfl) (s_kc (c := 6) cv3 rfl) (by decide) rfl (s1_X7_clear hz104 hprz104 (fun i h => hnez104 i 0 (by rw [h]; rfl) (hq6_0 i h)) (fun i h => hnez104 i 1 (by rw [h]; rfl) (hq6_1 i h)) cv3) gX8_read_X7_clear rfl hdX7_clear (by decide) (Nat.le_of_ble_eq_true rfl) dX8_read_15 rfl (fun M106 h107 => ?_)
  obtain ⟨hM106, h108⟩ := h107
  have zbM106 := (hbkz104 _ hM106).2
  have hM106 := (hbkz104 _ hM106).1
  have u109r := (zbM106 78 3 rfl rfl).2
  have u109s := (zbM106 78 4 rfl rfl).2
  have u109t := tp_c (f := gf) (n := gn) (M := M102) (M' := M106) (funext fun k => (zbM106 1 k rfl (by show px 20 k = false; rfl)).1) (by omega)
  have u109b := by_r (M := M106) (v := v3) (by omega)
  have u109l := ln_r (M := M106) (v := v3) (by omega)
  refine j_aload_n C 0 0 dX8_read_18 rfl rfl ?_
  refine y_getM C 7 8 fX8_read_32 rfl rfl ft_7_4 sm_7_4 (by decide) hM106 dX8_read_19 (fun v110 ev110 cv110 => ?_)
  obtain ⟨prz111, Kzz111, hprz111, hz111, hnez111, hbkz111⟩ := fzXs [6, 7, 20] hpr hM106
  refine j_callVv C (d := 0) (As := []) (st := []) v110 (s_lt cv110 rfl) (s_kc (c := 8) cv110 rfl) (by decide) rfl (s1_X9_clear hz111 hprz111 (fun i h => hnez111 i 0 (by rw [h]; rfl) (hq8_0 i h)) cv110) gX8_read_X9_clear rfl hdX9_clear (by decide) (Nat.le_of_ble_eq_true rfl) dX8_read_22 rfl (fun M113 h114 => ?_)
  obtain ⟨hM113, h115⟩ := h114
  have zbM113 := (hbkz111 _ hM113).2
  have hM113 := (hbkz111 _ hM113).1
  have u116r := (zbM113 78 3 rfl rfl).2
  have u116s := (zbM113 78 4 rfl rfl).2
  have u116t := tp_c (f := gf) (n := gn) (M := M106) (M' := M113) (funext fun k => (zbM113 1 k rfl (by show px 20 k = false; rfl)).1) (by omega)
  have u116k := ki_r (M := M113) (v := v110) (by omega)
  have u116b := by_r (M := M113) (v := v3) (by omega)
  have u116l := ln_r (M := M113) (v := v3) (by omega)
  have u1160 := congrArg Int32.toInt (zbM113 v3 0 (by rw [cv3]; rfl) (by rw [cv3]; rfl)).1
  have u1161 := congrArg Int32.toInt (zbM113 v3 1 (by rw [cv3]; rfl) (by rw [cv3]; rfl)).1
  refine j_aload_n C 0 0 dX8_read_25 rfl rfl ?_
  refine j_aload_n C 1 1 dX8_read_26 rfl rfl ?_
  refine j_iload_n C 2 2 dX8_read_27 rfl rfl ?_
  obtain ⟨prz117, Kzz117, hprz117, hz117, hnez117, hbkz117⟩ := fzXs [6, 7, 8] hpr hM113
  refine j_callVv C (d := 6) (As := [.ref (ad 1), .int (sI a2)]) (st := []) 78 (s_lt rfl rfl) (s_kc (c := 7) rfl rfl) (by decide) rfl (s1_X8_split hz117 hprz117 a2 (by omega) gf gn (by omega) (by omega) (by omega)) gX8_read_X8_split rfl hdX8_split (by decide) (Nat.le_of_ble_eq_true rfl) dX8_read_28 rfl (fun M119 h120 => ?_)
  obtain ⟨hM119, h121⟩ := h120
  have zbM119 := (hbkz117 _ hM119).2
  have hM119 := (hbkz117 _ hM119).1
  have u122r := (zbM119 78 3 rfl rfl).2
  have u122c := cn_z (cs := [6, 7, 8]) rfl rfl rfl hM113 zbM119
  refine j_aload_n C 0 0 dX8_read_31 rfl rfl ?_
  refine y_iconst C dX8_read_32 ?_
  refine y_putI C 7 _ _ qX8_read_18 rfl rfl ft_7_2 sb_7_2 hM119 (PX.w hpr rfl rfl) dX8_read_33 (by omega) (fun M123 eM123 hM123 => ?_)
  refine j_aload_n C 0 0 dX8_read_36 rfl rfl ?_
  refine y_iconst C dX8_read_37 ?_
  refine y_putI C 7 _ _ qX8_read_22 rfl rfl ft_7_5 sb_7_5 hM123 (PX.w hpr rfl rfl) dX8_read_38 (by omega) (fun M124 eM124 hM124 => ?_)
  refine j_aload_n C 0 0 dX8_read_41 rfl rfl ?_
  refine y_iconst C dX8_read_42 ?_
  refine y_putIF C 7 qX8_read_25 rfl rfl ft_7_6 sb_7_6 hM124 (PX.w hpr rfl rfl) dX8_read_43 (fun M125 eM125 hM125 => ?_)
  have u126x := tz_x (f := gf) (n := gn) (by omega) eM123 eM124 eM125
  have u126a := cn_w hM124 (c := 7) rfl eM125 (by decide)
  have u126b := cn_w hM123 (c := 7) rfl eM124 (by decide)
  have u126c := cn_w hM119 (c := 7) rfl eM123 (by decide)
  have u126r : M125.2.2 78 3 = M119.2.2 78 3 := by rw [eM125, eM124, eM123]
  have u126y := tkx_b (f := gf) (n := gn) (M := M125) (by omega)
  have u126q := po_mk gn (runE blB gf gn 0) (M125.1 78 5).toInt (psX M125) (by omega) (by omega)
  refine j_aload_n C 0 0 dX8_read_46 rfl rfl ?_
  refine y_sipush C dX8_read_47 rfl ?_
  refine j_callVv C (d := 1) (As := [.int (sI 1008)]) (st := []) 78 (s_lt rfl rfl) (s_kc (c := 7) rfl rfl) (by decide) rfl (s1_X8_expect hM125 hpr 1008 (by omega) gf gn (runE blB gf gn 0) (by omega) (by omega) (by omega) (by omega)) gX8_read_X8_expect rfl hdX8_expect (by decide) (Nat.le_of_ble_eq_true rfl) dX8_read_50 rfl (fun M128 h129 => ?_)
  obtain ⟨hM128, fM128, h130⟩ := h129
  have bM128 := tkx_b (f := gf) (n := gn) (M := M128) (by omega)
  have qM128 := po_rr (exP gf gn 1008) gn (runE blB gf gn 0) (M125.1 78 5).toInt (M125.1 78 6).toInt (psX M125) (M128.1 78 5).toInt (M128.1 78 6).toInt (psX M128) (ex_g gf gn 1008 (by omega)) (by omega) (by omega)
  have cM128 := cn_f hM125 fM128
  have u131r : M128.2.2 78 3 = M125.2.2 78 3 := by rw [fM128.2.1]
  refine j_aload_n C 0 0 dX8_read_53 rfl rfl ?_
  obtain ⟨prz132, Kzz132, hprz132, hz132, hnez132, hbkz132⟩ := fzXs [7, 8] hpr hM128
  refine j_callVv C (d := 2) (As := []) (st := []) 78 (s_lt rfl rfl) (s_kc (c := 7) rfl rfl) (by decide) rfl (s1_X8_endLine hz132 hprz132 (fun i h => hnez132 i 1 (by rw [h]; rfl) (hq6_1 i h)) gf gn ((exP gf gn 1008) (runE blB gf gn 0)).2.2 (by omega) (by omega) (by omega)) gX8_read_X8_endLine rfl hdX8_endLine (by decide) (Nat.le_of_ble_eq_true rfl) dX8_read_54 rfl (fun M134 h135 => ?_)
  obtain ⟨hM134, h136⟩ := h135
  have zbM134 := (hbkz132 _ hM134).2
  have hM134 := (hbkz132 _ hM134).1
  have bM134 := tkx_b (f := gf) (n := gn) (M := M134) (by omega)
  have qM134 := po_rr (exP gf gn 2059) gn ((exP gf gn 1008) (runE blB gf gn 0)).2.2 (M128.1 78 5).toInt (M128.1 78 6).toInt (psX M128) (M134.1 78 5).toInt (M134.1 78 6).toInt (psX M134) (ex_g gf gn 2059 (by decide)) (by omega) (by omega)
  have u137r := (zbM134 78 3 rfl rfl).2
  refine y_iconst C dX8_read_57 ?_
  have u138l := lm_1 gf gn ((exP gf gn 2059) ((exP gf gn 1008) (runE blB gf gn 0)).2.2).2.2 (kiX M134) (byX M134) (lnX M134) (M134.1 78 5).toInt (M134.1 78 6).toInt (psX M134) (by omega) (by omega) (by omega) (by omega)
  refine j_istore C 5 [(5, .int (sI 0)), (0, .ref (ad 78)), (1, .ref (ad 1)), (2, .int (sI a2)), (3, .ref (ad v3)), (4, .ref (ad v4))] dX8_read_58 (by decide) rfl ?_
  have L168 : ∀ (n166 : Nat), ∀ (a169 : Int) (M170 : mm_M) (gq171 : Int), (0 ≤ a169 ∧ a169 ≤ 900 ∧ (M170.2.2 78 3 = v3) ∧ (0 ≤ lnX M170 ∧ lnX M170 ≤ a169 + 1) ∧ (b01 (LM gf gn ((exP gf gn 2059) ((exP gf gn 1008) (runE blB gf gn 0)).2.2).2.2 0 0 1 gq171 a169 (kiX M170) (byX M170) (lnX M170) (M134.1 78 5).toInt (M134.1 78 6).toInt (M170.1 78 5).toInt (M170.1 78 6).toInt (psX M170)) = 1) ∧ (b01 (TKX gf gn M170) = 1) ∧ (b01 (PO gn gq171 (M170.1 78 5).toInt (psX M170)) = 1) ∧ (900 - a169) < (n166 : Int)) → INV pr Kz M170 → jj p l e (cn_R 28) s m args below meth c 0 0 Q 6 dC dI ad cA A M170 60 [(0, .ref (ad 78)), (5, .int (sI a169))] [] := by
    intro n166
    induction n166 with
    | zero =>
      intro a169 M170 gq171 h172 hM170
      exfalso; omega
    | succ n166 ih167 =>
      intro a169 M170 gq171 h172 hM170
      have u173b := tkx_b (f := gf) (n := gn) (M := M170) (by omega)
      have u173l := ln_r (M := M170) (v := v3) (by omega)
      refine j_iload C 1 dX8_read_60 rfl ?_
      refine y_sipush C dX8_read_62 rfl ?_
      refine y_icmp_ge C 99 dX8_read_65 (by decide) (by omega) (fun h174 => ?_) (fun h174 => ?_)
      · have u197e := rd_e gf gn gq171 a169 (kiX M170) (byX M170) (lnX M170) (M125.1 78 5).toInt (M125.1 78 6).toInt (M128.1 78 5).toInt (M128.1 78 6).toInt (psX M128) (M134.1 78 5).toInt (M134.1 78 6).toInt (psX M134) (M170.1 78 5).toInt (M170.1 78 6).toInt (psX M170) 1 (by omega) (by omega) (by omega) rfl (by omega) (by omega)
        exact hret _ _ _ dX8_read_99 ⟨hM170, by omega⟩
      · refine j_aload_n C 0 0 dX8_read_68 rfl rfl ?_
        refine y_getI C 7 _ _ fX8_read_22 rfl rfl ft_7_5 sb_7_5 hM170 dX8_read_69 (fun a175 ea175 la175 ua175 => ?_)
        refine y_if_ne C 99 dX8_read_72 (by decide) (by omega) (fun h177 => ?_) (fun h177 => ?_)
        · have u198e := rd_e gf gn gq171 a169 (kiX M170) (byX M170) (lnX M170) (M125.1 78 5).toInt (M125.1 78 6).toInt (M128.1 78 5).toInt (M128.1 78 6).toInt (psX M128) (M134.1 78 5).toInt (M134.1 78 6).toInt (psX M134) (M170.1 78 5).toInt (M170.1 78 6).toInt (psX M170) 1 (by omega) (by omega) (by omega) rfl (by omega) (by omega)
          exact hret _ _ _ dX8_read_99 ⟨hM170, by omega⟩
        · refine j_aload_n C 0 0 dX8_read_75 rfl rfl ?_
          refine j_callVi C (d := 0) (As := []) (st := []) 78 (s_lt rfl rfl) (s_kc (c := 7) rfl rfl) (by decide) rfl (s1_X8_token hM170 gf gn gq171 (by omega) (by omega)) gX8_read_X8_token rfl hdX8_token (by decide) (Nat.le_of_ble_eq_true rfl) dX8_read_76 rfl (fun r178 M179 h180 => ?_)
          obtain ⟨a182, rfl, rfl, h181⟩ := h180
          refine y_sipush C dX8_read_79 rfl ?_
          refine y_icmp_eq C 99 dX8_read_82 (by decide) (by omega) (fun h183 => ?_) (fun h183 => ?_)
          · have u199e := rd_e gf gn gq171 a169 (kiX M170) (byX M170) (lnX M170) (M125.1 78 5).toInt (M125.1 78 6).toInt (M128.1 78 5).toInt (M128.1 78 6).toInt (psX M128) (M134.1 78 5).toInt (M134.1 78 6).toInt (psX M134) (M170.1 78 5).toInt (M170.1 78 6).toInt (psX M170) 1 (by omega) (by omega) (by omega) rfl (by omega) (by omega)
            exact hret _ _ _ dX8_read_99 ⟨hM170, by omega⟩
          · refine j_aload_n C 0 0 dX8_read_85 rfl rfl ?_
            obtain ⟨prz184, Kzz184, hprz184, hz184, hnez184, hbkz184⟩ := fzXs [7] hpr hM170
            refine j_callVv C (d := 27) (As := []) (st := []) 78 (s_lt rfl rfl) (s_kc (c := 7) rfl rfl) (by decide) rfl (s1_X8_line hz184 hprz184 (fun i h => hnez184 i 0 (by rw [h]; rfl) (hq8_0 i h)) (fun i h => hnez184 i 0 (by rw [h]; rfl) (hq6_0 i h)) gf gn gq171 (by omega) (by omega) (by omega)) gX8_read_X8_line rfl hdX8_line (by decide) (Nat.le_of_ble_eq_true rfl) dX8_read_86 rfl (fun M186 h187 => ?_)
            obtain ⟨hM186, h188⟩ := h187
            have zbM186 := (hbkz184 _ hM186).2
            have hM186 := (hbkz184 _ hM186).1
            have bM186 := tkx_b (f := gf) (n := gn) (M := M186) (by omega)
            have qM186 := po_rr (liP gf gn (kiX M170) (byX M170)) gn gq171 (M170.1 78 5).toInt (M170.1 78 6).toInt (psX M170) (M186.1 78 5).toInt (M186.1 78 6).toInt (psX M186) (li_g gf gn (kiX M170) (byX M170)) (by omega) (by omega)
            have u189r := (zbM186 78 3 rfl rfl).2
            refine j_aload_n C 0 0 dX8_read_89 rfl rfl ?_
            obtain ⟨prz190, Kzz190, hprz190, hz190, hnez190, hbkz190⟩ := fzXs [7, 8] hpr hM186
            refine j_callVv C (d := 2) (As := []) (st := []) 78 (s_lt rfl rfl) (s_kc (c := 7) rfl rfl) (by decide) rfl (s1_X8_endLine hz190 hprz190 (fun i h => hnez190 i 1 (by rw [h]; rfl) (hq6_1 i h)) gf gn ((liP gf gn (kiX M170) (byX M170)) gq171).2.2 (by omega) (by omega) (by omega)) gX8_read_X8_endLine rfl hdX8_endLine (by decide) (Nat.le_of_ble_eq_true rfl) dX8_read_90 rfl (fun M192 h193 => ?_)
            obtain ⟨hM192, h194⟩ := h193
            have zbM192 := (hbkz190 _ hM192).2
            have hM192 := (hbkz190 _ hM192).1
            have bM192 := tkx_b (f := gf) (n := gn) (M := M192) (by omega)
            have qM192 := po_rr (exP gf gn 2059) gn ((liP gf gn (kiX M170) (byX M170)) gq171).2.2 (M186.1 78 5).toInt (M186.1 78 6).toInt (psX M186) (M192.1 78 5).toInt (M192.1 78 6).toInt (psX M192) (ex_g gf gn 2059 (by decide)) (by omega) (by omega)
            have u195r := (zbM192 78 3 rfl rfl).2
            refine y_iinc C 1 [(5, .int (sI (a169 + 1))), (0, .ref (ad 78))] dX8_read_93 rfl (by decide) rfl ?_
            have u196k := ck_c (M186.1 78 5).toInt (kiX M186) (byX M186) (lnX M186) (inc (tkF gf gn gq171) 1003 (kiX M170)) (inc (tkF gf gn gq171) 1009 (byX M170)) (lnX M170) (kiX M192) (byX M192) (by omega) (by omega) (by omega)
            have u196s := lm_s gf gn ((exP gf gn 2059) ((exP gf gn 1008) (runE blB gf gn 0)).2.2).2.2 0 0 1 gq171 a169 (kiX M170) (byX M170) (lnX M170) (M134.1 78 5).toInt (M134.1 78 6).toInt (M170.1 78 5).toInt (M170.1 78 6).toInt (psX M170) (M186.1 78 5).toInt (M186.1 78 6).toInt (psX M186) (M192.1 78 5).toInt (M192.1 78 6).toInt (psX M192) (kiX M192) (byX M192) (lnX M192) (lnX M186) (by omega) (by omega) (by omega) (by omega) (by omega) (by omega) (by omega)
            refine j_goto C 60 dX8_read_96 (by decide) ?_
            refine j_lv [1, 0] rfl ?_; exact ih167 (a169 + 1) M192 ((exP gf gn 2059) ((liP gf gn (kiX M170) (byX M170)) gq171).2.2).2.2 (by omega) hM192
  refine j_lv [1, 0] rfl ?_; exact L168 2010 0 M134 ((exP gf gn 2059) ((exP gf gn 1008) (runE blB gf gn 0)).2.2).2.2 (by omega) hM134
set_option maxHeartbeats 4000000 in
theorem s1_X9_copyFrom {l : Launch} {dC : Nat → ClassId} {dI : Nat → Nat → Nat} {ad : Nat → Nat} {cA : Nat → ClassId} {pr : Nat → Nat → Bool} {Kz : mm_M} {M0 : mm_M} (hM0 : INV pr Kz M0) (hpr : PX pr) (hq8_0 : ∀ i, s_c i = 8 → pr i 0 = false) {v0 : Nat} (cv0 : s_c v0 = 8) {v1 : Nat} (cv1 : s_c v1 = 8) : Cv l 0 yX9_copyFrom wsX9_copyFrom dC dI ad cA [.ref (ad v0), .ref (ad v1)] M0 (fun M' => INV pr Kz M') := by
  refine cv_of (cc := cX9_copyFrom) (maxL := 3) (lv := [(0, .ref (ad v0)), (1, .ref (ad v1))]) (by decide) rfl (Nat.le_of_ble_eq_true rfl) rfl ?_
  intro p e s m args below meth c A Q C hret
  refine j_aload_n C 0 0 dX9_copyFrom_0 rfl rfl ?_
  refine j_aload_n C 1 1 dX9_copyFrom_1 rfl rfl ?_
  refine y_getI C 8 _ _ fX9_copyFrom_9 cv1 rfl ft_8_0 sb_8_0 hM0 dX9_copyFrom_2 (fun a101 ea101 la101 ua101 => ?_)
  refine y_putI C 8 _ _ qX9_copyFrom_9 cv0 rfl ft_8_0 sb_8_0 hM0 (hq8_0 _ cv0) dX9_copyFrom_5 (by omega) (fun M103 eM103 hM103 => ?_)
  refine y_iconst C dX9_copyFrom_8 ?_
  refine j_istore_n C 2 [(2, .int (sI 0)), (0, .ref (ad v0)), (1, .ref (ad v1))] dX9_copyFrom_9 rfl (by decide) rfl ?_
  have L205 : ∀ (n203 : Nat), ∀ (a206 : Int) (M207 : mm_M), (0 ≤ a206 ∧ a206 ≤ 8 ∧ (8 - a206) < (n203 : Int)) → INV pr Kz M207 → jj p l e (cn_R 0) s m args below meth c 0 0 Q 3 dC dI ad cA A M207 10 [(0, .ref (ad v0)), (1, .ref (ad v1)), (2, .int (sI a206))] [] := by
    intro n203
    induction n203 with
    | zero =>
      intro a206 M207 h208 hM207
      exfalso; omega
    | succ n203 ih204 =>
      intro a206 M207 h208 hM207
      refine j_iload_n C 2 2 dX9_copyFrom_10 rfl rfl ?_
      refine y_bipush C dX9_copyFrom_11 rfl ?_
      refine y_icmp_ge C 46 dX9_copyFrom_13 (by decide) (by omega) (fun h209 => ?_) (fun h209 => ?_)
      · refine j_aload_n C 0 0 dX9_copyFrom_46 rfl rfl ?_
        refine j_aload_n C 1 1 dX9_copyFrom_47 rfl rfl ?_
        refine y_getI C 8 _ _ fX9_copyFrom_22 cv1 rfl ft_8_3 sb_8_3 hM207 dX9_copyFrom_48 (fun a218 ea218 la218 ua218 => ?_)
        refine y_putI C 8 _ _ qX9_copyFrom_22 cv0 rfl ft_8_3 sb_8_3 hM207 (PX.w hpr cv0 rfl) dX9_copyFrom_51 (by omega) (fun M220 eM220 hM220 => ?_)
        refine j_aload_n C 0 0 dX9_copyFrom_54 rfl rfl ?_
        refine j_aload_n C 1 1 dX9_copyFrom_55 rfl rfl ?_
        refine y_getI C 8 _ _ fX9_copyFrom_25 cv1 rfl ft_8_4 sb_8_4 hM220 dX9_copyFrom_56 (fun a221 ea221 la221 ua221 => ?_)
        refine y_putI C 8 _ _ qX9_copyFrom_25 cv0 rfl ft_8_4 sb_8_4 hM220 (PX.w hpr cv0 rfl) dX9_copyFrom_59 (by omega) (fun M223 eM223 hM223 => ?_)
        refine j_aload_n C 0 0 dX9_copyFrom_62 rfl rfl ?_
        refine j_aload_n C 1 1 dX9_copyFrom_63 rfl rfl ?_
        refine y_getI C 8 _ _ fX9_copyFrom_28 cv1 rfl ft_8_5 sb_8_5 hM223 dX9_copyFrom_64 (fun a224 ea224 la224 ua224 => ?_)
        refine y_putIF C 8 qX9_copyFrom_28 cv0 rfl ft_8_5 sb_8_5 hM223 (PX.w hpr cv0 rfl) dX9_copyFrom_67 (fun M226 eM226 hM226 => ?_)
        refine j_aload_n C 0 0 dX9_copyFrom_70 rfl rfl ?_
        refine j_aload_n C 1 1 dX9_copyFrom_71 rfl rfl ?_
        refine y_getI C 8 _ _ fX9_copyFrom_31 cv1 rfl ft_8_6 sb_8_6 hM226 dX9_copyFrom_72 (fun a227 ea227 la227 ua227 => ?_)
        refine y_putIF C 8 qX9_copyFrom_31 cv0 rfl ft_8_6 sb_8_6 hM226 (PX.w hpr cv0 rfl) dX9_copyFrom_75 (fun M229 eM229 hM229 => ?_)
        refine j_aload_n C 0 0 dX9_copyFrom_78 rfl rfl ?_
        refine j_aload_n C 1 1 dX9_copyFrom_79 rfl rfl ?_
        refine y_getI C 8 _ _ fX9_copyFrom_34 cv1 rfl ft_8_7 sb_8_7 hM229 dX9_copyFrom_80 (fun a230 ea230 la230 ua230 => ?_)
        refine y_putIF C 8 qX9_copyFrom_34 cv0 rfl ft_8_7 sb_8_7 hM229 (PX.w hpr cv0 rfl) dX9_copyFrom_83 (fun M232 eM232 hM232 => ?_)
        refine j_aload_n C 0 0 dX9_copyFrom_86 rfl rfl ?_
        refine j_aload_n C 1 1 dX9_copyFrom_87 rfl rfl ?_
        refine y_getI C 8 _ _ fX9_copyFrom_37 cv1 rfl ft_8_8 sb_8_8 hM232 dX9_copyFrom_88 (fun a233 ea233 la233 ua233 => ?_)
        refine y_putIF C 8 qX9_copyFrom_37 cv0 rfl ft_8_8 sb_8_8 hM232 (PX.w hpr cv0 rfl) dX9_copyFrom_91 (fun M235 eM235 hM235 => ?_)
        exact hret _ _ _ dX9_copyFrom_94 hM235
      · refine j_aload_n C 0 0 dX9_copyFrom_16 rfl rfl ?_
        refine y_getT C 8 25 fX9_copyFrom_15 cv0 rfl ft_8_1 rfl sm_8_1 st_8_1 (by decide) hM207 dX9_copyFrom_17 (fun v210 cv210 => ?_)
        refine j_iload_n C 2 2 dX9_copyFrom_20 rfl rfl ?_
        refine j_aload_n C 1 1 dX9_copyFrom_21 rfl rfl ?_
        refine y_getT C 8 25 fX9_copyFrom_15 cv1 rfl ft_8_1 rfl sm_8_1 st_8_1 (by decide) hM207 dX9_copyFrom_22 (fun v211 cv211 => ?_)
        refine j_iload_n C 2 2 dX9_copyFrom_25 rfl rfl ?_
        refine y_iald C 25 8 _ _ cv211 rfl rfl ak_25 an_25 rfl (sb_25 _) hM207 dX9_copyFrom_26 (by omega) (fun a212 ea212 la212 ua212 => ?_)
        refine y_iastF C 25 8 cv210 rfl rfl ak_25 an_25 rfl (sb_25 _) hM207 (PX.w hpr cv210 rfl) dX9_copyFrom_27 (by omega) (fun M213 eM213 hM213 => ?_)
        refine j_aload_n C 0 0 dX9_copyFrom_28 rfl rfl ?_
        refine y_getT C 8 26 fX9_copyFrom_19 cv0 rfl ft_8_2 rfl sm_8_2 st_8_2 (by decide) hM213 dX9_copyFrom_29 (fun v214 cv214 => ?_)
        refine j_iload_n C 2 2 dX9_copyFrom_32 rfl rfl ?_
        refine j_aload_n C 1 1 dX9_copyFrom_33 rfl rfl ?_
        refine y_getT C 8 26 fX9_copyFrom_19 cv1 rfl ft_8_2 rfl sm_8_2 st_8_2 (by decide) hM213 dX9_copyFrom_34 (fun v215 cv215 => ?_)
        refine j_iload_n C 2 2 dX9_copyFrom_37 rfl rfl ?_
        refine y_iald C 26 8 _ _ cv215 rfl rfl ak_26 an_26 rfl (sb_26 _) hM213 dX9_copyFrom_38 (by omega) (fun a216 ea216 la216 ua216 => ?_)
        refine y_iastF C 26 8 cv214 rfl rfl ak_26 an_26 rfl (sb_26 _) hM213 (PX.w hpr cv214 rfl) dX9_copyFrom_39 (by omega) (fun M217 eM217 hM217 => ?_)
        refine y_iinc C 2 [(2, .int (sI (a206 + 1))), (0, .ref (ad v0)), (1, .ref (ad v1))] dX9_copyFrom_40 rfl (by decide) rfl ?_
        refine j_goto C 10 dX9_copyFrom_43 (by decide) ?_
        refine j_lv [1, 2, 0] rfl ?_; exact ih204 (a206 + 1) M217 (by omega) hM217
  refine j_lv [1, 2, 0] rfl ?_; exact L205 2010 0 M103 (by omega) hM103
set_option maxHeartbeats 4000000 in
theorem s1_X6_clear {l : Launch} {dC : Nat → ClassId} {dI : Nat → Nat → Nat} {ad : Nat → Nat} {cA : Nat → ClassId} {pr : Nat → Nat → Bool} {Kz : mm_M} {M0 : mm_M} (hM0 : INV pr Kz M0) (hpr : PX pr)  : Cv l 0 yX6_clear wsX6_clear dC dI ad cA [.ref (ad 18)] M0 (fun M' => INV pr Kz M') := by
  refine cv_of (cc := cX6_clear) (maxL := 1) (lv := [(0, .ref (ad 18))]) (by decide) rfl (Nat.le_of_ble_eq_true rfl) rfl ?_
  intro p e s m args below meth c A Q C hret
  refine j_aload_n C 0 0 dX6_clear_0 rfl rfl ?_
  refine y_iconst C dX6_clear_1 ?_
  refine y_putI C 5 _ _ qX6_clear_21 rfl rfl ft_5_2 sb_5_2 hM0 (PX.w hpr rfl rfl) dX6_clear_2 (by omega) (fun M101 eM101 hM101 => ?_)
  exact hret _ _ _ dX6_clear_5 hM101
set_option maxHeartbeats 4000000 in
theorem s1_J7_fill_53178 {l : Launch} {dC : Nat → ClassId} {dI : Nat → Nat → Nat} {ad : Nat → Nat} {cA : Nat → ClassId} {pr : Nat → Nat → Bool} {Kz : mm_M} {M0 : mm_M} (hM0 : INV pr Kz M0) (hpr : PX pr) (a1 : Int) (ha1 : -2147483648 ≤ a1 ∧ a1 ≤ 2147483647) : Cv l 0 yJ7_fill_53178 wsJ7_fill_53178 dC dI ad cA [.ref (ad 83), .int (sI a1)] M0 (fun M' => INV pr Kz M') := by
  refine cv_of (cc := cJ7_fill_53178) (maxL := 4) (lv := [(0, .ref (ad 83)), (1, .int (sI a1))]) (by decide) rfl (Nat.le_of_ble_eq_true rfl) rfl ?_
  intro p e s m args below meth c A Q C hret
  refine y_iconst C dJ7_fill_53178_0 ?_
  refine j_istore_n C 2 [(2, .int (sI 0)), (0, .ref (ad 83)), (1, .int (sI a1))] dJ7_fill_53178_1 rfl (by decide) rfl ?_
  refine j_aload_n C 1 0 dJ7_fill_53178_2 rfl rfl ?_
  refine y_alen C 34 8 rfl rfl rfl an_34 rfl rfl dJ7_fill_53178_3 ?_
  refine j_istore_n C 3 [(3, .int (sI 8)), (2, .int (sI 0)), (0, .ref (ad 83)), (1, .int (sI a1))] dJ7_fill_53178_4 rfl (by decide) rfl ?_
  have L139 : ∀ (n137 : Nat), ∀ (a140 : Int) (M141 : mm_M), (0 ≤ a140 ∧ a140 ≤ 8 ∧ (8 - a140) < (n137 : Int)) → INV pr Kz M141 → jj p l e (cn_R 0) s m args below meth c 0 0 Q 4 dC dI ad cA A M141 5 [(0, .ref (ad 83)), (1, .int (sI a1)), (2, .int (sI a140)), (3, .int (sI 8))] [] := by
    intro n137
    induction n137 with
    | zero =>
      intro a140 M141 h142 hM141
      exfalso; omega
    | succ n137 ih138 =>
      intro a140 M141 h142 hM141
      refine j_iload_n C 2 2 dJ7_fill_53178_5 rfl rfl ?_
      refine j_iload_n C 3 3 dJ7_fill_53178_6 rfl rfl ?_
      refine y_icmp_ge C 20 dJ7_fill_53178_7 (by decide) (by omega) (fun h143 => ?_) (fun h143 => ?_)
      · exact hret _ _ _ dJ7_fill_53178_20 hM141
      · refine j_aload_n C 0 0 dJ7_fill_53178_10 rfl rfl ?_
        refine j_iload_n C 2 2 dJ7_fill_53178_11 rfl rfl ?_
        refine j_iload_n C 1 1 dJ7_fill_53178_12 rfl rfl ?_
        refine y_iastF C 34 8 rfl rfl rfl ak_34 an_34 rfl (sb_34 _) hM141 (PX.w hpr rfl rfl) dJ7_fill_53178_13 (by omega) (fun M144 eM144 hM144 => ?_)
        refine y_iinc C 2 [(2, .int (sI (a140 + 1))), (0, .ref (ad 83)), (1, .int (sI a1)), (3, .int (sI 8))] dJ7_fill_53178_14 rfl (by decide) rfl ?_
        refine j_goto C 5 dJ7_fill_53178_17 (by decide) ?_
        refine j_lv [1, 2, 0, 3] rfl ?_; exact ih138 (a140 + 1) M144 (by omega) hM144
  refine j_lv [2, 3, 1, 0] rfl ?_; exact L139 2010 0 M0 (by omega) hM0
set_option maxHeartbeats 4000000 in
theorem s1_X4_forget {l : Launch} {dC : Nat → ClassId} {dI : Nat → Nat → Nat} {ad : Nat → Nat} {cA : Nat → ClassId} {pr : Nat → Nat → Bool} {Kz : mm_M} {M0 : mm_M} (hM0 : INV pr Kz M0) (hpr : PX pr)  : Cv l 1 yX4_forget wsX4_forget dC dI ad cA [.ref (ad 81)] M0 (fun M' => INV pr Kz M') := by
  refine cv_of (cc := cX4_forget) (maxL := 1) (lv := [(0, .ref (ad 81))]) (by decide) rfl (Nat.le_of_ble_eq_true rfl) rfl ?_
  intro p e s m args below meth c A Q C hret
  refine j_aload_n C 0 0 dX4_forget_0 rfl rfl ?_
  refine y_getC C 3 83 fX4_forget_15 rfl rfl ft_3_1 sm_3_1 rfl hM0 dX4_forget_1 ?_
  refine y_iconst C dX4_forget_4 ?_
  refine j_callSv C (d := 0) (As := [.ref (ad 83), .int (sI 0)]) (st := []) (s1_J7_fill_53178 hM0 hpr 0 (by omega)) gX4_forget_J7_fill_53178 rfl hdJ7_fill_53178s (by decide) (Nat.le_of_ble_eq_true rfl) dX4_forget_5 rfl (fun M102 h103 => ?_)
  have hM102 := h103
  exact hret _ _ _ dX4_forget_8 hM102
set_option maxHeartbeats 4000000 in
theorem s1_X11_beginAnew {l : Launch} {dC : Nat → ClassId} {dI : Nat → Nat → Nat} {ad : Nat → Nat} {cA : Nat → ClassId} {pr : Nat → Nat → Bool} {Kz : mm_M} {M0 : mm_M} (hM0 : INV pr Kz M0) (hpr : PX pr)  : Cv l 2 yX11_beginAnew wsX11_beginAnew dC dI ad cA [.ref (ad 0)] M0 (fun M' => INV pr Kz M') := by
  refine cv_of (cc := cX11_beginAnew) (maxL := 1) (lv := [(0, .ref (ad 0))]) (by decide) rfl (Nat.le_of_ble_eq_true rfl) rfl ?_
  intro p e s m args below meth c A Q C hret
  refine j_aload_n C 0 0 dX11_beginAnew_0 rfl rfl ?_
  refine y_getC C 10 18 fX11_beginAnew_46 rfl rfl ft_10_8 sm_10_8 rfl hM0 dX11_beginAnew_1 ?_
  refine j_callVv C (d := 0) (As := []) (st := []) 18 (s_lt rfl rfl) (s_kc (c := 5) rfl rfl) (by decide) rfl (s1_X6_clear hM0 hpr) gX11_beginAnew_X6_clear rfl hdX6_clear (by decide) (Nat.le_of_ble_eq_true rfl) dX11_beginAnew_4 rfl (fun M102 h103 => ?_)
  have hM102 := h103
  refine j_aload_n C 0 0 dX11_beginAnew_7 rfl rfl ?_
  refine y_getC C 10 81 fX11_beginAnew_76 rfl rfl ft_10_12 sm_10_12 rfl hM102 dX11_beginAnew_8 ?_
  refine j_callVv C (d := 1) (As := []) (st := []) 81 (s_lt rfl rfl) (s_kc (c := 3) rfl rfl) (by decide) rfl (s1_X4_forget hM102 hpr) gX11_beginAnew_X4_forget rfl hdX4_forget (by decide) (Nat.le_of_ble_eq_true rfl) dX11_beginAnew_11 rfl (fun M106 h107 => ?_)
  have hM106 := h107
  exact hret _ _ _ dX11_beginAnew_14 hM106
set_option maxHeartbeats 4000000 in
theorem s1_X11_shop {l : Launch} {dC : Nat → ClassId} {dI : Nat → Nat → Nat} {ad : Nat → Nat} {cA : Nat → ClassId} {pr : Nat → Nat → Bool} {Kz : mm_M} {M0 : mm_M} (hM0 : INV pr Kz M0) (hpr : PX pr) (hq7_3 : ∀ i, s_c i = 7 → pr i 3 = false) (hq7_4 : ∀ i, s_c i = 7 → pr i 4 = false) (hq6_0 : ∀ i, s_c i = 6 → pr i 0 = false) (hq6_1 : ∀ i, s_c i = 6 → pr i 1 = false) (hq8_0 : ∀ i, s_c i = 8 → pr i 0 = false) (hq10_1 : ∀ i, s_c i = 10 → pr i 1 = false) (hq10_2 : ∀ i, s_c i = 10 → pr i 2 = false) (hq10_3 : ∀ i, s_c i = 10 → pr i 3 = false) (hq10_4 : ∀ i, s_c i = 10 → pr i 4 = false) (hq10_5 : ∀ i, s_c i = 10 → pr i 5 = false) (a1 : Int) (ha1 : -2147483648 ≤ a1 ∧ a1 ≤ 2147483647) : Ci l 29 yX11_shop wsX11_shop dC dI ad cA [.ref (ad 0), .int (sI a1)] M0 (fun r M' => ∃ a : Int, r = sI a ∧ INV pr Kz M' ∧ (-2147483648) ≤ a ∧ a ≤ 2147483647 ∧ (0 ≤ a1 ∧ a1 ≤ (M0.1 0 1).toInt ∧ (M'.1 0 1).toInt = 0 ∧ (M'.1 0 2).toInt = (rdP (mskT (M0.1 1) a1) a1).1 ∧ ((rdP (mskT (M0.1 1) a1) a1).1 = 0 ∧ (M'.1 0 3).toInt = -1 ∧ a = (rdP (mskT (M0.1 1) a1) a1).2.2 ∨ ¬ (rdP (mskT (M0.1 1) a1) a1).1 = 0 ∧ (M'.1 0 3).toInt = (rdP (mskT (M0.1 1) a1) a1).2.1 ∧ a = -30 - (rdP (mskT (M0.1 1) a1) a1).1) ∨ (a1 < 0 ∨ (M0.1 0 1).toInt < a1) ∧ a = -3 ∧ (M'.1 0 1).toInt = (M0.1 0 1).toInt ∧ (M'.1 0 2).toInt = (M0.1 0 2).toInt ∧ (M'.1 0 3).toInt = (M0.1 0 3).toInt)) := by
  refine ci_of (cc := cX11_shop) (maxL := 3) (ty := .int) (lv := [(0, .ref (ad 0)), (1, .int (sI a1))]) (by decide) rfl (fun r M' hp => rfl) (Nat.le_of_ble_eq_true rfl) rfl ?_
  intro p e s m args below meth c A Q C hret
  refine j_iload_n C 1 1 dX11_shop_0 rfl rfl ?_
  refine y_if_lt C 12 dX11_shop_1 (by decide) (by omega) (fun h101 => ?_) (fun h101 => ?_)
  · refine y_bipush C dX11_shop_12 rfl ?_
    exact hret _ _ _ _ dX11_shop_14 ⟨(-3), rfl, hM0, by omega⟩
  · refine j_iload_n C 1 1 dX11_shop_4 rfl rfl ?_
    refine j_aload_n C 0 0 dX11_shop_5 rfl rfl ?_
    refine y_getI C 10 _ _ fX11_shop_13 rfl rfl ft_10_1 sb_10_1 hM0 dX11_shop_6 (fun a102 ea102 la102 ua102 => ?_)
    refine y_icmp_le C 15 dX11_shop_9 (by decide) (by omega) (fun h104 => ?_) (fun h104 => ?_)
    · refine j_aload_n C 0 0 dX11_shop_15 rfl rfl ?_
      refine y_getC C 10 78 fX11_shop_67 rfl rfl ft_10_11 sm_10_11 rfl hM0 dX11_shop_16 ?_
      refine j_aload_n C 0 0 dX11_shop_19 rfl rfl ?_
      refine y_getC C 10 1 fX11_shop_9 rfl rfl ft_10_0 sm_10_0 rfl hM0 dX11_shop_20 ?_
      refine j_iload_n C 1 1 dX11_shop_23 rfl rfl ?_
      refine j_aload_n C 0 0 dX11_shop_24 rfl rfl ?_
      refine y_getM C 10 6 fX11_shop_30 rfl rfl ft_10_5 sm_10_5 (by decide) hM0 dX11_shop_25 (fun v105 ev105 cv105 => ?_)
      refine j_aload_n C 0 0 dX11_shop_28 rfl rfl ?_
      refine y_getC C 10 15 fX11_shop_40 rfl rfl ft_10_7 sm_10_7 rfl hM0 dX11_shop_29 ?_
      have u106t := tp_0 M0 a1
      obtain ⟨prz107, Kzz107, hprz107, hz107, hnez107, hbkz107⟩ := fzXs [10] hpr hM0
      refine j_callVv C (d := 28) (As := [.ref (ad 1), .int (sI a1), .ref (ad v105), .ref (ad 15)]) (st := []) 78 (s_lt rfl rfl) (s_kc (c := 7) rfl rfl) (by decide) rfl (s1_X8_read hz107 hprz107 (fun i h => hnez107 i 3 (by rw [h]; rfl) (hq7_3 i h)) (fun i h => hnez107 i 4 (by rw [h]; rfl) (hq7_4 i h)) (fun i h => hnez107 i 0 (by rw [h]; rfl) (hq6_0 i h)) (fun i h => hnez107 i 1 (by rw [h]; rfl) (hq6_1 i h)) (fun i h => hnez107 i 0 (by rw [h]; rfl) (hq8_0 i h)) a1 (by omega) cv105 rfl (mskT (M0.1 1) a1) a1 (by omega) (by omega) (by omega)) gX11_shop_X8_read rfl hdX8_read (by decide) (Nat.le_of_ble_eq_true rfl) dX11_shop_32 rfl (fun M109 h110 => ?_)
      obtain ⟨hM109, h111⟩ := h110
      have zbM109 := (hbkz107 _ hM109).2
      have hM109 := (hbkz107 _ hM109).1
      have u1121 := congrArg Int32.toInt (zbM109 0 1 rfl rfl).1
      have u1122 := congrArg Int32.toInt (zbM109 0 2 rfl rfl).1
      have u1123 := congrArg Int32.toInt (zbM109 0 3 rfl rfl).1
      have u112s := (zbM109 0 5 rfl rfl).2
      refine j_aload_n C 0 0 dX11_shop_35 rfl rfl ?_
      refine y_iconst C dX11_shop_36 ?_
      refine y_putI C 10 _ _ qX11_shop_13 rfl rfl ft_10_1 sb_10_1 hM109 (hq10_1 _ rfl) dX11_shop_37 (by omega) (fun M113 eM113 hM113 => ?_)
      refine j_aload_n C 0 0 dX11_shop_40 rfl rfl ?_
      refine j_aload_n C 0 0 dX11_shop_41 rfl rfl ?_
      refine y_getC C 10 78 fX11_shop_67 rfl rfl ft_10_11 sm_10_11 rfl hM113 dX11_shop_42 ?_
      refine y_getI C 7 _ _ fX11_shop_117 rfl rfl ft_7_5 sb_7_5 hM113 dX11_shop_45 (fun a114 ea114 la114 ua114 => ?_)
      have qa114 : a114 = (M109.1 78 5).toInt := s_fa eM113 (by decide) (ea114)
      refine y_putIF C 10 qX11_shop_17 rfl rfl ft_10_2 sb_10_2 hM113 (hq10_2 _ rfl) dX11_shop_48 (fun M116 eM116 hM116 => ?_)
      refine j_aload_n C 0 0 dX11_shop_51 rfl rfl ?_
      refine j_aload_n C 0 0 dX11_shop_52 rfl rfl ?_
      refine y_getC C 10 78 fX11_shop_67 rfl rfl ft_10_11 sm_10_11 rfl hM116 dX11_shop_53 ?_
      refine y_getI C 7 _ _ fX11_shop_120 rfl rfl ft_7_6 sb_7_6 hM116 dX11_shop_56 (fun a117 ea117 la117 ua117 => ?_)
      have qa117 : a117 = (M109.1 78 6).toInt := s_fa eM113 (by decide) (s_fa eM116 (by decide) (ea117))
      refine y_putIF C 10 qX11_shop_20 rfl rfl ft_10_3 sb_10_3 hM116 (hq10_3 _ rfl) dX11_shop_59 (fun M119 eM119 hM119 => ?_)
      refine j_aload_n C 0 0 dX11_shop_62 rfl rfl ?_
      refine y_getI C 10 _ _ fX11_shop_17 rfl rfl ft_10_2 sb_10_2 hM119 dX11_shop_63 (fun a120 ea120 la120 ua120 => ?_)
      have qa120 : a120 = (M116.1 0 2).toInt := s_fb eM119 (by decide) (ea120)
      have zz0_2 := (Eq.trans (s_fb eM119 (by decide) (rfl) : (M119.1 0 2).toInt = (M116.1 0 2).toInt) (s_wr eM116 (by omega)))
      refine y_if_eq C 77 dX11_shop_66 (by decide) (by omega) (fun h123 => ?_) (fun h123 => ?_)
      · refine j_aload_n C 0 0 dX11_shop_77 rfl rfl ?_
        refine y_getM C 10 6 fX11_shop_26 rfl rfl ft_10_4 sm_10_4 (by decide) hM119 dX11_shop_78 (fun v124 ev124 cv124 => ?_)
        refine j_astore_n C 2 [(2, .ref (ad v124)), (0, .ref (ad 0)), (1, .int (sI a1))] dX11_shop_81 rfl (by decide) rfl ?_
        refine j_aload_n C 1 0 dX11_shop_82 rfl rfl ?_
        refine j_aload_n C 1 0 dX11_shop_83 rfl rfl ?_
        refine y_getM C 10 6 fX11_shop_30 rfl rfl ft_10_5 sm_10_5 (by decide) hM119 dX11_shop_84 (fun v125 ev125 cv125 => ?_)
        refine y_putP C 10 6 qX11_shop_26 rfl rfl rfl rfl ft_10_4 sm_10_4 (by decide) hM119 (hq10_4 _ rfl) cv125 dX11_shop_87 (fun M126 eM126 hM126 => ?_)
        refine j_aload_n C 1 0 dX11_shop_90 rfl rfl ?_
        refine j_aload_n C 0 2 dX11_shop_91 rfl rfl ?_
        refine y_putP C 10 6 qX11_shop_30 rfl rfl rfl rfl ft_10_5 sm_10_5 (by decide) hM126 (hq10_5 _ rfl) cv124 dX11_shop_92 (fun M127 eM127 hM127 => ?_)
        refine j_aload_n C 1 0 dX11_shop_95 rfl rfl ?_
        refine y_getC C 10 15 fX11_shop_40 rfl rfl ft_10_7 sm_10_7 rfl hM127 dX11_shop_96 ?_
        refine j_aload_n C 1 0 dX11_shop_99 rfl rfl ?_
        refine y_getC C 10 12 fX11_shop_36 rfl rfl ft_10_6 sm_10_6 rfl hM127 dX11_shop_100 ?_
        refine y_getI C 8 _ _ fX11_shop_121 rfl rfl ft_8_7 sb_8_7 hM127 dX11_shop_103 (fun a128 ea128 la128 ua128 => ?_)
        have qa128 : a128 = (M109.1 12 7).toInt := s_fa eM113 (by decide) (s_fa eM116 (by decide) (s_fa eM119 (by decide) (s_fP eM126 (s_fP eM127 (ea128)))))
        refine y_putIF C 8 qX11_shop_121 rfl rfl ft_8_7 sb_8_7 hM127 (PX.w hpr rfl rfl) dX11_shop_106 (fun M130 eM130 hM130 => ?_)
        have u131z : M119.2.2 0 5 = M109.2.2 0 5 := by rw [eM119, eM116, eM113]
        have u131l : (M130.1 v105 1).toInt = (M109.1 v105 1).toInt := s_fa eM113 (s_ne (c := 6) (d := 10) cv105 rfl (by decide)) (s_fa eM116 (s_ne (c := 6) (d := 10) cv105 rfl (by decide)) (s_fa eM119 (s_ne (c := 6) (d := 10) cv105 rfl (by decide)) (s_fP eM126 (s_fP eM127 (s_fa eM130 (s_ne (c := 6) (d := 8) cv105 rfl (by decide)) (rfl))))))
        have u131p : v125 = M130.2.2 0 4 := s_pI eM130 (s_pP eM127 (by decide) (s_pW eM126))
        have u131q : v125 = v105 := by omega
        have zz0_1 := (Eq.trans (s_fb eM116 (by decide) (s_fb eM119 (by decide) (s_fP eM126 (s_fP eM127 (s_fa eM130 (by decide) (rfl))))) : (M130.1 0 1).toInt = (M113.1 0 1).toInt) (s_wr eM113 (by omega)))
        have zz0_2 := (Eq.trans (s_fb eM119 (by decide) (s_fP eM126 (s_fP eM127 (s_fa eM130 (by decide) (rfl)))) : (M130.1 0 2).toInt = (M116.1 0 2).toInt) (s_wr eM116 (by omega)))
        have zz0_3 := (Eq.trans (s_fP eM126 (s_fP eM127 (s_fa eM130 (by decide) (rfl))) : (M130.1 0 3).toInt = (M119.1 0 3).toInt) (s_wr eM119 (by omega)))
        obtain ⟨pr, Kz, hpr, hM130, hne, hbk⟩ := fzXs [6, 10] hpr hM130
        have hq8_0 : ∀ i, s_c i = 8 → pr i 0 = false := fun i h => hne i 0 (by rw [h]; rfl) (hq8_0 i h)
        refine j_aload_n C 1 0 dX11_shop_109 rfl rfl ?_
        refine y_getC C 10 12 fX11_shop_36 rfl rfl ft_10_6 sm_10_6 rfl hM130 dX11_shop_110 ?_
        refine j_aload_n C 1 0 dX11_shop_113 rfl rfl ?_
        refine y_getC C 10 15 fX11_shop_40 rfl rfl ft_10_7 sm_10_7 rfl hM130 dX11_shop_114 ?_
        refine j_callVv C (d := 0) (As := [.ref (ad 15)]) (st := []) 12 (s_lt rfl rfl) (s_kc (c := 8) rfl rfl) (by decide) rfl (s1_X9_copyFrom hM130 hpr hq8_0 rfl rfl) gX11_shop_X9_copyFrom rfl hdX9_copyFrom (by decide) (Nat.le_of_ble_eq_true rfl) dX11_shop_117 rfl (fun M133 h134 => ?_)
        have hM133 := h134
        refine j_aload_n C 1 0 dX11_shop_120 rfl rfl ?_
        refine j_callVv C (d := 2) (As := []) (st := []) 0 (s_lt rfl rfl) (s_kc (c := 10) rfl rfl) (by decide) rfl (s1_X11_beginAnew hM133 hpr) gX11_shop_X11_beginAnew rfl hdX11_beginAnew (by decide) (Nat.le_of_ble_eq_true rfl) dX11_shop_121 rfl (fun M137 h138 => ?_)
        have hM137 := h138
        refine j_aload_n C 1 0 dX11_shop_124 rfl rfl ?_
        refine y_getM C 10 6 fX11_shop_26 rfl rfl ft_10_4 sm_10_4 (by decide) hM137 dX11_shop_125 (fun v140 ev140 cv140 => ?_)
        have u141p := ((hbk _ hM137).2 0 4 rfl rfl).2
        obtain rfl : v105 = v140 := by omega
        refine y_getI C 6 _ _ fX11_shop_131 cv140 rfl ft_6_1 sb_6_1 hM137 dX11_shop_128 (fun a142 ea142 la142 ua142 => ?_)
        have u1441 := congrArg Int32.toInt ((hbk _ hM137).2 0 1 rfl rfl).1
        have u1442 := congrArg Int32.toInt ((hbk _ hM137).2 0 2 rfl rfl).1
        have u1443 := congrArg Int32.toInt ((hbk _ hM137).2 0 3 rfl rfl).1
        have u144l := congrArg Int32.toInt ((hbk _ hM137).2 v105 1 (by rw [cv105]; rfl) (by rw [cv105]; rfl)).1
        have hM137 := (hbk _ hM137).1
        exact hret _ _ _ _ dX11_shop_131 ⟨a142, rfl, hM137, by omega⟩
      · refine y_bipush C dX11_shop_69 rfl ?_
        refine j_aload_n C 0 0 dX11_shop_71 rfl rfl ?_
        refine y_getI C 10 _ _ fX11_shop_17 rfl rfl ft_10_2 sb_10_2 hM119 dX11_shop_72 (fun a145 ea145 la145 ua145 => ?_)
        have u147 : 0 ≤ a145 ∧ a145 ≤ 4 := by omega
        refine y_isub C dX11_shop_75 ?_
        have zz0_1 := (Eq.trans (s_fb eM116 (by decide) (s_fb eM119 (by decide) (rfl)) : (M119.1 0 1).toInt = (M113.1 0 1).toInt) (s_wr eM113 (by omega))); have zz0_2 := (Eq.trans (s_fb eM119 (by decide) (rfl) : (M119.1 0 2).toInt = (M116.1 0 2).toInt) (s_wr eM116 (by omega))); have zz0_3 := (Eq.trans (rfl : (M119.1 0 3).toInt = (M119.1 0 3).toInt) (s_wr eM119 (by omega))); exact hret _ _ _ _ dX11_shop_76 ⟨((-30) - a145), rfl, hM119, by omega⟩
    · refine y_bipush C dX11_shop_12 rfl ?_
      exact hret _ _ _ _ dX11_shop_14 ⟨(-3), rfl, hM0, by omega⟩
set_option maxHeartbeats 4000000 in
theorem s1_X11_fault {l : Launch} {dC : Nat → ClassId} {dI : Nat → Nat → Nat} {ad : Nat → Nat} {cA : Nat → ClassId} {pr : Nat → Nat → Bool} {Kz : mm_M} {M0 : mm_M} (hM0 : INV pr Kz M0) (a1 : Int) (ha1 : -2147483648 ≤ a1 ∧ a1 ≤ 2147483647) : Ci l 0 yX11_fault wsX11_fault dC dI ad cA [.ref (ad 0), .int (sI a1)] M0 (fun r M' => ∃ a : Int, r = sI a ∧ M0 = M' ∧ (-2147483648) ≤ a ∧ a ≤ 2147483647 ∧ (a1 = 0 ∧ a = (M0.1 0 2).toInt ∨ a1 = 1 ∧ a = (M0.1 0 3).toInt ∨ ¬ a1 = 0 ∧ ¬ a1 = 1 ∧ a = -1)) := by
  refine ci_of (cc := cX11_fault) (maxL := 2) (ty := .int) (lv := [(0, .ref (ad 0)), (1, .int (sI a1))]) (by decide) rfl (fun r M' hp => rfl) (Nat.le_of_ble_eq_true rfl) rfl ?_
  intro p e s m args below meth c A Q C hret
  refine j_iload_n C 1 1 dX11_fault_0 rfl rfl ?_
  refine y_if_ne C 9 dX11_fault_1 (by decide) (by omega) (fun h101 => ?_) (fun h101 => ?_)
  · refine j_iload_n C 1 1 dX11_fault_9 rfl rfl ?_
    refine y_iconst C dX11_fault_10 ?_
    refine y_icmp_ne C 21 dX11_fault_11 (by decide) (by omega) (fun h102 => ?_) (fun h102 => ?_)
    · refine y_iconst C dX11_fault_21 ?_
      exact hret _ _ _ _ dX11_fault_22 ⟨(-1), rfl, rfl, by omega⟩
    · refine j_aload_n C 0 0 dX11_fault_14 rfl rfl ?_
      refine y_getI C 10 _ _ fX11_fault_20 rfl rfl ft_10_3 sb_10_3 hM0 dX11_fault_15 (fun a103 ea103 la103 ua103 => ?_)
      refine j_goto C 22 dX11_fault_18 (by decide) ?_
      exact hret _ _ _ _ dX11_fault_22 ⟨a103, rfl, rfl, by omega⟩
  · refine j_aload_n C 0 0 dX11_fault_4 rfl rfl ?_
    refine y_getI C 10 _ _ fX11_fault_17 rfl rfl ft_10_2 sb_10_2 hM0 dX11_fault_5 (fun a105 ea105 la105 ua105 => ?_)
    exact hret _ _ _ _ dX11_fault_8 ⟨a105, rfl, rfl, by omega⟩
set_option maxHeartbeats 4000000 in
theorem s1_X11_isKind {l : Launch} {dC : Nat → ClassId} {dI : Nat → Nat → Nat} {ad : Nat → Nat} {cA : Nat → ClassId} {pr : Nat → Nat → Bool} {Kz : mm_M} {M0 : mm_M} (hM0 : INV pr Kz M0) (a1 : Int) (ha1 : -2147483648 ≤ a1 ∧ a1 ≤ 2147483647) : Ci l 0 yX11_isKind wsX11_isKind dC dI ad cA [.ref (ad 0), .int (sI a1)] M0 (fun r M' => ∃ a : Int, r = sI a ∧ M0 = M' ∧ 0 ≤ a ∧ a ≤ 1 ∧ ((a1 < 0 ∧ a = 0) ∨ (0 ≤ (M0.1 12 0).toInt ∧ (M0.1 12 0).toInt ≤ 8 ∧ 0 ≤ a1 ∧ (M0.1 12 0).toInt ≤ a1 ∧ a = 0) ∨ (1 ≤ (M0.1 12 0).toInt ∧ (M0.1 12 0).toInt ≤ 8 ∧ 0 ≤ a1 ∧ a1 < (M0.1 12 0).toInt ∧ a = 1))) := by
  refine ci_of (cc := cX11_isKind) (maxL := 2) (ty := .boolean) (lv := [(0, .ref (ad 0)), (1, .int (sI a1))]) (by decide) rfl (fun r M' hp => by obtain ⟨a, rfl, -, h⟩ := hp; rcases (show a = 0 ∨ a = 1 by omega) with rfl | rfl <;> rfl) (Nat.le_of_ble_eq_true rfl) rfl ?_
  intro p e s m args below meth c A Q C hret
  refine j_iload_n C 1 1 dX11_isKind_0 rfl rfl ?_
  refine y_if_lt C 19 dX11_isKind_1 (by decide) (by omega) (fun h101 => ?_) (fun h101 => ?_)
  · refine y_iconst C dX11_isKind_19 ?_
    exact hret _ _ _ _ dX11_isKind_20 ⟨0, rfl, rfl, by omega⟩
  · refine j_iload_n C 1 1 dX11_isKind_4 rfl rfl ?_
    refine j_aload_n C 0 0 dX11_isKind_5 rfl rfl ?_
    refine y_getC C 10 12 fX11_isKind_36 rfl rfl ft_10_6 sm_10_6 rfl hM0 dX11_isKind_6 ?_
    refine y_getI C 8 _ _ fX11_isKind_160 rfl rfl ft_8_0 sb_8_0 hM0 dX11_isKind_9 (fun a102 ea102 la102 ua102 => ?_)
    refine y_icmp_ge C 19 dX11_isKind_12 (by decide) (by omega) (fun h104 => ?_) (fun h104 => ?_)
    · refine y_iconst C dX11_isKind_19 ?_
      exact hret _ _ _ _ dX11_isKind_20 ⟨0, rfl, rfl, by omega⟩
    · refine y_iconst C dX11_isKind_15 ?_
      refine j_goto C 20 dX11_isKind_16 (by decide) ?_
      exact hret _ _ _ _ dX11_isKind_20 ⟨1, rfl, rfl, by omega⟩
set_option maxHeartbeats 4000000 in
theorem s1_X4_tune {l : Launch} {dC : Nat → ClassId} {dI : Nat → Nat → Nat} {ad : Nat → Nat} {cA : Nat → ClassId} {pr : Nat → Nat → Bool} {Kz : mm_M} {M0 : mm_M} (hM0 : INV pr Kz M0) (hpr : PX pr) {v1 : Nat} (cv1 : s_c v1 = 6) {v2 : Nat} (cv2 : s_c v2 = 8) : Cv l 0 yX4_tune wsX4_tune dC dI ad cA [.ref (ad 81), .ref (ad v1), .ref (ad v2)] M0 (fun M' => INV pr Kz M') := by
  refine cv_of (cc := cX4_tune) (maxL := 5) (lv := [(0, .ref (ad 81)), (1, .ref (ad v1)), (2, .ref (ad v2))]) (by decide) rfl (Nat.le_of_ble_eq_true rfl) rfl ?_
  intro p e s m args below meth c A Q C hret
  refine j_aload_n C 0 0 dX4_tune_0 rfl rfl ?_
  refine j_aload_n C 1 1 dX4_tune_1 rfl rfl ?_
  refine y_putP C 3 6 qX4_tune_33 rfl rfl rfl rfl ft_3_5 sm_3_5 (by decide) hM0 (PX.w hpr rfl rfl) cv1 dX4_tune_2 (fun M101 eM101 hM101 => ?_)
  refine j_aload_n C 0 0 dX4_tune_5 rfl rfl ?_
  refine j_aload_n C 2 2 dX4_tune_6 rfl rfl ?_
  refine y_getI C 8 _ _ fX4_tune_43 cv2 rfl ft_8_0 sb_8_0 hM101 dX4_tune_7 (fun a102 ea102 la102 ua102 => ?_)
  refine y_putI C 3 _ _ qX4_tune_29 rfl rfl ft_3_6 sb_3_6 hM101 (PX.w hpr rfl rfl) dX4_tune_10 (by omega) (fun M104 eM104 hM104 => ?_)
  refine y_iconst C dX4_tune_13 ?_
  refine j_istore_n C 3 [(3, .int (sI 0)), (0, .ref (ad 81)), (1, .ref (ad v1)), (2, .ref (ad v2))] dX4_tune_14 rfl (by decide) rfl ?_
  have L1104 : ∀ (n1102 : Nat), ∀ (a1105 : Int) (M1106 : mm_M), (0 ≤ a1105 ∧ a1105 ≤ 8 ∧ (8 - a1105) < (n1102 : Int)) → INV pr Kz M1106 → jj p l e (cn_R 0) s m args below meth c 0 0 Q 5 dC dI ad cA A M1106 15 [(0, .ref (ad 81)), (2, .ref (ad v2)), (3, .int (sI a1105))] [] := by
    intro n1102
    induction n1102 with
    | zero =>
      intro a1105 M1106 h1107 hM1106
      exfalso; omega
    | succ n1102 ih1103 =>
      intro a1105 M1106 h1107 hM1106
      refine j_iload_n C 2 3 dX4_tune_15 rfl rfl ?_
      refine j_aload_n C 0 0 dX4_tune_16 rfl rfl ?_
      refine y_getI C 3 _ _ fX4_tune_29 rfl rfl ft_3_6 sb_3_6 hM1106 dX4_tune_17 (fun a1108 ea1108 la1108 ua1108 => ?_)
      refine y_icmp_ge C 124 dX4_tune_20 (by decide) (by omega) (fun h1110 => ?_) (fun h1110 => ?_)
      · exact hret _ _ _ dX4_tune_124 hM1106
      · refine j_aload_n C 0 0 dX4_tune_23 rfl rfl ?_
        refine y_getC C 3 83 fX4_tune_15 rfl rfl ft_3_1 sm_3_1 rfl hM1106 dX4_tune_24 ?_
        refine j_iload_n C 2 3 dX4_tune_27 rfl rfl ?_
        refine y_iald C 34 8 _ _ rfl rfl rfl ak_34 an_34 rfl (sb_34 _) hM1106 dX4_tune_28 (by omega) (fun a1111 ea1111 la1111 ua1111 => ?_)
        refine j_aload_n C 1 2 dX4_tune_29 rfl rfl ?_
        refine y_getT C 8 25 fX4_tune_46 cv2 rfl ft_8_1 rfl sm_8_1 st_8_1 (by decide) hM1106 dX4_tune_30 (fun v1112 cv1112 => ?_)
        refine j_iload_n C 2 3 dX4_tune_33 rfl rfl ?_
        refine y_iald C 25 8 _ _ cv1112 rfl rfl ak_25 an_25 rfl (sb_25 _) hM1106 dX4_tune_34 (by omega) (fun a1113 ea1113 la1113 ua1113 => ?_)
        refine y_icmp_ne C 53 dX4_tune_35 (by decide) (by omega) (fun h1114 => ?_) (fun h1114 => ?_)
        · refine j_aload_n C 0 0 dX4_tune_53 rfl rfl ?_
          refine y_getC C 3 83 fX4_tune_15 rfl rfl ft_3_1 sm_3_1 rfl hM1106 dX4_tune_54 ?_
          refine j_iload_n C 2 3 dX4_tune_57 rfl rfl ?_
          refine j_aload_n C 1 2 dX4_tune_58 rfl rfl ?_
          refine y_getT C 8 25 fX4_tune_46 cv2 rfl ft_8_1 rfl sm_8_1 st_8_1 (by decide) hM1106 dX4_tune_59 (fun v1115 cv1115 => ?_)
          refine j_iload_n C 2 3 dX4_tune_62 rfl rfl ?_
          refine y_iald C 25 8 _ _ cv1115 rfl rfl ak_25 an_25 rfl (sb_25 _) hM1106 dX4_tune_63 (by omega) (fun a1116 ea1116 la1116 ua1116 => ?_)
          refine y_iastF C 34 8 rfl rfl rfl ak_34 an_34 rfl (sb_34 _) hM1106 (PX.w hpr rfl rfl) dX4_tune_64 (by omega) (fun M1117 eM1117 hM1117 => ?_)
          refine j_aload_n C 0 0 dX4_tune_65 rfl rfl ?_
          refine y_getC C 3 84 fX4_tune_18 rfl rfl ft_3_2 sm_3_2 rfl hM1117 dX4_tune_66 ?_
          refine j_iload_n C 2 3 dX4_tune_69 rfl rfl ?_
          refine j_aload_n C 1 2 dX4_tune_70 rfl rfl ?_
          refine y_getT C 8 26 fX4_tune_47 cv2 rfl ft_8_2 rfl sm_8_2 st_8_2 (by decide) hM1117 dX4_tune_71 (fun v1118 cv1118 => ?_)
          refine j_iload_n C 2 3 dX4_tune_74 rfl rfl ?_
          refine y_iald C 26 8 _ _ cv1118 rfl rfl ak_26 an_26 rfl (sb_26 _) hM1117 dX4_tune_75 (by omega) (fun a1119 ea1119 la1119 ua1119 => ?_)
          refine y_iastF C 35 8 rfl rfl rfl ak_35 an_35 rfl (sb_35 _) hM1117 (PX.w hpr rfl rfl) dX4_tune_76 (by omega) (fun M1120 eM1120 hM1120 => ?_)
          refine j_iload_n C 2 3 dX4_tune_77 rfl rfl ?_
          refine y_bipush C dX4_tune_78 rfl ?_
          refine y_imul C dX4_tune_80 ?_
          refine j_istore C 4 [(4, .int (sI (a1105 * 108))), (0, .ref (ad 81)), (2, .ref (ad v2)), (3, .int (sI a1105))] dX4_tune_81 (by decide) rfl ?_
          have L1143 : ∀ (n1141 : Nat), ∀ (a1144 : Int) (M1145 : mm_M), (0 ≤ a1144 ∧ a1144 ≤ 899 ∧ (899 - a1144) < (n1141 : Int)) → INV pr Kz M1145 → jj p l e (cn_R 0) s m args below meth c 0 0 Q 5 dC dI ad cA A M1145 83 [(0, .ref (ad 81)), (2, .ref (ad v2)), (3, .int (sI a1105)), (4, .int (sI a1144))] [] := by
            intro n1141
            induction n1141 with
            | zero =>
              intro a1144 M1145 h1146 hM1145
              exfalso; omega
            | succ n1141 ih1142 =>
              intro a1144 M1145 h1146 hM1145
              refine j_iload C 3 dX4_tune_83 rfl ?_
              refine j_iload_n C 2 3 dX4_tune_85 rfl rfl ?_
              refine y_iconst C dX4_tune_86 ?_
              refine y_iadd C dX4_tune_87 ?_
              refine y_bipush C dX4_tune_88 rfl ?_
              refine y_imul C dX4_tune_90 ?_
              refine y_icmp_ge C 118 dX4_tune_91 (by decide) (by omega) (fun h1147 => ?_) (fun h1147 => ?_)
              · refine y_iinc C 2 [(3, .int (sI (a1105 + 1))), (0, .ref (ad 81)), (2, .ref (ad v2)), (4, .int (sI a1144))] dX4_tune_118 rfl (by decide) rfl ?_
                refine j_goto C 15 dX4_tune_121 (by decide) ?_
                refine j_lv [1, 2, 0] rfl ?_; exact ih1103 (a1105 + 1) M1145 (by omega) hM1145
              · refine j_iload C 3 dX4_tune_94 rfl ?_
                refine j_aload_n C 0 0 dX4_tune_96 rfl rfl ?_
                refine y_getC C 3 82 fX4_tune_11 rfl rfl ft_3_0 sm_3_0 rfl hM1145 dX4_tune_97 ?_
                refine y_alen C 33 864 rfl rfl rfl an_33 rfl rfl dX4_tune_100 ?_
                refine y_icmp_ge C 118 dX4_tune_101 (by decide) (by omega) (fun h1148 => ?_) (fun h1148 => ?_)
                · exfalso; omega
                · refine j_aload_n C 0 0 dX4_tune_104 rfl rfl ?_
                  refine y_getC C 3 82 fX4_tune_11 rfl rfl ft_3_0 sm_3_0 rfl hM1145 dX4_tune_105 ?_
                  refine j_iload C 3 dX4_tune_108 rfl ?_
                  refine y_iconst C dX4_tune_110 ?_
                  refine y_iastF C 33 864 rfl rfl rfl ak_33 an_33 rfl (sb_33 _) hM1145 (PX.w hpr rfl rfl) dX4_tune_111 (by omega) (fun M1149 eM1149 hM1149 => ?_)
                  refine y_iinc C 3 [(4, .int (sI (a1144 + 1))), (0, .ref (ad 81)), (2, .ref (ad v2)), (3, .int (sI a1105))] dX4_tune_112 rfl (by decide) rfl ?_
                  refine j_goto C 83 dX4_tune_115 (by decide) ?_
                  refine j_lv [1, 2, 3, 0] rfl ?_; exact ih1142 (a1144 + 1) M1149 (by omega) hM1149
          refine j_lv [1, 2, 3, 0] rfl ?_; exact L1143 2010 (a1105 * 108) M1120 (by omega) hM1120
        · refine j_aload_n C 0 0 dX4_tune_38 rfl rfl ?_
          refine y_getC C 3 84 fX4_tune_18 rfl rfl ft_3_2 sm_3_2 rfl hM1106 dX4_tune_39 ?_
          refine j_iload_n C 2 3 dX4_tune_42 rfl rfl ?_
          refine y_iald C 35 8 _ _ rfl rfl rfl ak_35 an_35 rfl (sb_35 _) hM1106 dX4_tune_43 (by omega) (fun a1150 ea1150 la1150 ua1150 => ?_)
          refine j_aload_n C 1 2 dX4_tune_44 rfl rfl ?_
          refine y_getT C 8 26 fX4_tune_47 cv2 rfl ft_8_2 rfl sm_8_2 st_8_2 (by decide) hM1106 dX4_tune_45 (fun v1151 cv1151 => ?_)
          refine j_iload_n C 2 3 dX4_tune_48 rfl rfl ?_
          refine y_iald C 26 8 _ _ cv1151 rfl rfl ak_26 an_26 rfl (sb_26 _) hM1106 dX4_tune_49 (by omega) (fun a1152 ea1152 la1152 ua1152 => ?_)
          refine y_icmp_eq C 118 dX4_tune_50 (by decide) (by omega) (fun h1153 => ?_) (fun h1153 => ?_)
          · refine y_iinc C 2 [(3, .int (sI (a1105 + 1))), (0, .ref (ad 81)), (2, .ref (ad v2))] dX4_tune_118 rfl (by decide) rfl ?_
            refine j_goto C 15 dX4_tune_121 (by decide) ?_
            refine j_lv [1, 2, 0] rfl ?_; exact ih1103 (a1105 + 1) M1106 (by omega) hM1106
          · refine j_aload_n C 0 0 dX4_tune_53 rfl rfl ?_
            refine y_getC C 3 83 fX4_tune_15 rfl rfl ft_3_1 sm_3_1 rfl hM1106 dX4_tune_54 ?_
            refine j_iload_n C 2 3 dX4_tune_57 rfl rfl ?_
            refine j_aload_n C 1 2 dX4_tune_58 rfl rfl ?_
            refine y_getT C 8 25 fX4_tune_46 cv2 rfl ft_8_1 rfl sm_8_1 st_8_1 (by decide) hM1106 dX4_tune_59 (fun v1154 cv1154 => ?_)
            refine j_iload_n C 2 3 dX4_tune_62 rfl rfl ?_
            refine y_iald C 25 8 _ _ cv1154 rfl rfl ak_25 an_25 rfl (sb_25 _) hM1106 dX4_tune_63 (by omega) (fun a1155 ea1155 la1155 ua1155 => ?_)
            refine y_iastF C 34 8 rfl rfl rfl ak_34 an_34 rfl (sb_34 _) hM1106 (PX.w hpr rfl rfl) dX4_tune_64 (by omega) (fun M1156 eM1156 hM1156 => ?_)
            refine j_aload_n C 0 0 dX4_tune_65 rfl rfl ?_
            refine y_getC C 3 84 fX4_tune_18 rfl rfl ft_3_2 sm_3_2 rfl hM1156 dX4_tune_66 ?_
            refine j_iload_n C 2 3 dX4_tune_69 rfl rfl ?_
            refine j_aload_n C 1 2 dX4_tune_70 rfl rfl ?_
            refine y_getT C 8 26 fX4_tune_47 cv2 rfl ft_8_2 rfl sm_8_2 st_8_2 (by decide) hM1156 dX4_tune_71 (fun v1157 cv1157 => ?_)
            refine j_iload_n C 2 3 dX4_tune_74 rfl rfl ?_
            refine y_iald C 26 8 _ _ cv1157 rfl rfl ak_26 an_26 rfl (sb_26 _) hM1156 dX4_tune_75 (by omega) (fun a1158 ea1158 la1158 ua1158 => ?_)
            refine y_iastF C 35 8 rfl rfl rfl ak_35 an_35 rfl (sb_35 _) hM1156 (PX.w hpr rfl rfl) dX4_tune_76 (by omega) (fun M1159 eM1159 hM1159 => ?_)
            refine j_iload_n C 2 3 dX4_tune_77 rfl rfl ?_
            refine y_bipush C dX4_tune_78 rfl ?_
            refine y_imul C dX4_tune_80 ?_
            refine j_istore C 4 [(4, .int (sI (a1105 * 108))), (0, .ref (ad 81)), (2, .ref (ad v2)), (3, .int (sI a1105))] dX4_tune_81 (by decide) rfl ?_
            have L1182 : ∀ (n1180 : Nat), ∀ (a1183 : Int) (M1184 : mm_M), (0 ≤ a1183 ∧ a1183 ≤ 899 ∧ (899 - a1183) < (n1180 : Int)) → INV pr Kz M1184 → jj p l e (cn_R 0) s m args below meth c 0 0 Q 5 dC dI ad cA A M1184 83 [(0, .ref (ad 81)), (2, .ref (ad v2)), (3, .int (sI a1105)), (4, .int (sI a1183))] [] := by
              intro n1180
              induction n1180 with
              | zero =>
                intro a1183 M1184 h1185 hM1184
                exfalso; omega
              | succ n1180 ih1181 =>
                intro a1183 M1184 h1185 hM1184
                refine j_iload C 3 dX4_tune_83 rfl ?_
                refine j_iload_n C 2 3 dX4_tune_85 rfl rfl ?_
                refine y_iconst C dX4_tune_86 ?_
                refine y_iadd C dX4_tune_87 ?_
                refine y_bipush C dX4_tune_88 rfl ?_
                refine y_imul C dX4_tune_90 ?_
                refine y_icmp_ge C 118 dX4_tune_91 (by decide) (by omega) (fun h1186 => ?_) (fun h1186 => ?_)
                · refine y_iinc C 2 [(3, .int (sI (a1105 + 1))), (0, .ref (ad 81)), (2, .ref (ad v2)), (4, .int (sI a1183))] dX4_tune_118 rfl (by decide) rfl ?_
                  refine j_goto C 15 dX4_tune_121 (by decide) ?_
                  refine j_lv [1, 2, 0] rfl ?_; exact ih1103 (a1105 + 1) M1184 (by omega) hM1184
                · refine j_iload C 3 dX4_tune_94 rfl ?_
                  refine j_aload_n C 0 0 dX4_tune_96 rfl rfl ?_
                  refine y_getC C 3 82 fX4_tune_11 rfl rfl ft_3_0 sm_3_0 rfl hM1184 dX4_tune_97 ?_
                  refine y_alen C 33 864 rfl rfl rfl an_33 rfl rfl dX4_tune_100 ?_
                  refine y_icmp_ge C 118 dX4_tune_101 (by decide) (by omega) (fun h1187 => ?_) (fun h1187 => ?_)
                  · exfalso; omega
                  · refine j_aload_n C 0 0 dX4_tune_104 rfl rfl ?_
                    refine y_getC C 3 82 fX4_tune_11 rfl rfl ft_3_0 sm_3_0 rfl hM1184 dX4_tune_105 ?_
                    refine j_iload C 3 dX4_tune_108 rfl ?_
                    refine y_iconst C dX4_tune_110 ?_
                    refine y_iastF C 33 864 rfl rfl rfl ak_33 an_33 rfl (sb_33 _) hM1184 (PX.w hpr rfl rfl) dX4_tune_111 (by omega) (fun M1188 eM1188 hM1188 => ?_)
                    refine y_iinc C 3 [(4, .int (sI (a1183 + 1))), (0, .ref (ad 81)), (2, .ref (ad v2)), (3, .int (sI a1105))] dX4_tune_112 rfl (by decide) rfl ?_
                    refine j_goto C 83 dX4_tune_115 (by decide) ?_
                    refine j_lv [1, 2, 3, 0] rfl ?_; exact ih1181 (a1183 + 1) M1188 (by omega) hM1188
            refine j_lv [1, 2, 3, 0] rfl ?_; exact L1182 2010 (a1105 * 108) M1159 (by omega) hM1159
  refine j_lv [1, 3, 0] rfl ?_; exact L1104 2010 0 M104 (by omega) hM104
set_option maxHeartbeats 4000000 in
theorem s1_J6_bitCount_0f7a4 {l : Launch} {dC : Nat → ClassId} {dI : Nat → Nat → Nat} {ad : Nat → Nat} {cA : Nat → ClassId} {pr : Nat → Nat → Bool} {Kz : mm_M} {M0 : mm_M} (hM0 : INV pr Kz M0) (a0 : Int) (ha0 : -2147483648 ≤ a0 ∧ a0 ≤ 2147483647) : Ci l 0 yJ6_bitCount_0f7a4 wsJ6_bitCount_0f7a4 dC dI ad cA [.int (sI a0)] M0 (fun r M' => ∃ a : Int, r = sI a ∧ M0 = M' ∧ 0 ≤ a ∧ a ≤ 63 ∧ ((0 ≤ a ∧ a ≤ 63))) := by
  refine ci_of (cc := cJ6_bitCount_0f7a4) (maxL := 1) (ty := .int) (lv := [(0, .int (sI a0))]) (by decide) rfl (fun r M' hp => rfl) (Nat.le_of_ble_eq_true rfl) rfl ?_
  intro p e s m args below meth c A Q C hret
  refine j_iload_n C 0 0 dJ6_bitCount_0f7a4_0 rfl rfl ?_
  refine j_iload_n C 0 0 dJ6_bitCount_0f7a4_1 rfl rfl ?_
  refine y_iconst C dJ6_bitCount_0f7a4_2 ?_
  refine y_iushr0 C dJ6_bitCount_0f7a4_3 (fun a101 la101 ua101 => ?_)
  refine y_ldcw C 1431655765 dJ6_bitCount_0f7a4_4 kJ6_bitCount_0f7a4_265 rfl ?_
  refine y_iandR C dJ6_bitCount_0f7a4_7 (by omega) (fun a102 la102 ua102 => ?_)
  refine y_isub0 C dJ6_bitCount_0f7a4_8 (fun a103 la103 ua103 => ?_)
  refine j_istore_n C 0 [(0, .int (sI a103))] dJ6_bitCount_0f7a4_9 rfl (by decide) rfl ?_
  refine j_iload_n C 0 0 dJ6_bitCount_0f7a4_10 rfl rfl ?_
  refine y_ldcw C 858993459 dJ6_bitCount_0f7a4_11 kJ6_bitCount_0f7a4_266 rfl ?_
  refine y_iandR C dJ6_bitCount_0f7a4_14 (by omega) (fun a104 la104 ua104 => ?_)
  refine j_iload_n C 0 0 dJ6_bitCount_0f7a4_15 rfl rfl ?_
  refine y_iconst C dJ6_bitCount_0f7a4_16 ?_
  refine y_iushr0 C dJ6_bitCount_0f7a4_17 (fun a105 la105 ua105 => ?_)
  refine y_ldcw C 858993459 dJ6_bitCount_0f7a4_18 kJ6_bitCount_0f7a4_266 rfl ?_
  refine y_iandR C dJ6_bitCount_0f7a4_21 (by omega) (fun a106 la106 ua106 => ?_)
  refine y_iadd C dJ6_bitCount_0f7a4_22 ?_
  refine j_istore_n C 0 [(0, .int (sI (a104 + a106)))] dJ6_bitCount_0f7a4_23 rfl (by decide) rfl ?_
  refine j_iload_n C 0 0 dJ6_bitCount_0f7a4_24 rfl rfl ?_
  refine j_iload_n C 0 0 dJ6_bitCount_0f7a4_25 rfl rfl ?_
  refine y_iconst C dJ6_bitCount_0f7a4_26 ?_
  refine y_iushr0 C dJ6_bitCount_0f7a4_27 (fun a107 la107 ua107 => ?_)
  refine y_iadd0 C dJ6_bitCount_0f7a4_28 (fun a108 la108 ua108 => ?_)
  refine y_ldcw C 252645135 dJ6_bitCount_0f7a4_29 kJ6_bitCount_0f7a4_267 rfl ?_
  refine y_iandR C dJ6_bitCount_0f7a4_32 (by omega) (fun a109 la109 ua109 => ?_)
  refine j_istore_n C 0 [(0, .int (sI a109))] dJ6_bitCount_0f7a4_33 rfl (by decide) rfl ?_
  refine j_iload_n C 0 0 dJ6_bitCount_0f7a4_34 rfl rfl ?_
  refine j_iload_n C 0 0 dJ6_bitCount_0f7a4_35 rfl rfl ?_
  refine y_bipush C dJ6_bitCount_0f7a4_36 rfl ?_
  refine y_iushr0 C dJ6_bitCount_0f7a4_38 (fun a110 la110 ua110 => ?_)
  refine y_iadd0 C dJ6_bitCount_0f7a4_39 (fun a111 la111 ua111 => ?_)
  refine j_istore_n C 0 [(0, .int (sI a111))] dJ6_bitCount_0f7a4_40 rfl (by decide) rfl ?_
  refine j_iload_n C 0 0 dJ6_bitCount_0f7a4_41 rfl rfl ?_
  refine j_iload_n C 0 0 dJ6_bitCount_0f7a4_42 rfl rfl ?_
  refine y_bipush C dJ6_bitCount_0f7a4_43 rfl ?_
  refine y_iushr16 C dJ6_bitCount_0f7a4_45 (fun a112 la112 ua112 => ?_)
  refine y_iadd0 C dJ6_bitCount_0f7a4_46 (fun a113 la113 ua113 => ?_)
  refine j_istore_n C 0 [(0, .int (sI a113))] dJ6_bitCount_0f7a4_47 rfl (by decide) rfl ?_
  refine j_iload_n C 0 0 dJ6_bitCount_0f7a4_48 rfl rfl ?_
  refine y_bipush C dJ6_bitCount_0f7a4_49 rfl ?_
  refine y_iandR C dJ6_bitCount_0f7a4_51 (by omega) (fun a114 la114 ua114 => ?_)
  exact hret _ _ _ _ dJ6_bitCount_0f7a4_52 ⟨a114, rfl, rfl, by omega⟩
set_option maxHeartbeats 4000000 in
theorem s1_X4_learn {l : Launch} {dC : Nat → ClassId} {dI : Nat → Nat → Nat} {ad : Nat → Nat} {cA : Nat → ClassId} {pr : Nat → Nat → Bool} {Kz : mm_M} {M0 : mm_M} (hM0 : INV pr Kz M0) (hpr : PX pr) (a1 : Int) (ha1 : -2147483648 ≤ a1 ∧ a1 ≤ 2147483647) (a2 : Int) (ha2 : -2147483648 ≤ a2 ∧ a2 ≤ 2147483647) (a3 : Int) (ha3 : -2147483648 ≤ a3 ∧ a3 ≤ 2147483647) (hp0 : 0 ≤ a1 ∧ a1 ≤ 5) (hp1 : 0 ≤ a2 ∧ a2 ≤ 7) : Cv l 1 yX4_learn wsX4_learn dC dI ad cA [.ref (ad 81), .int (sI a1), .int (sI a2), .int (sI a3)] M0 (fun M' => INV pr Kz M') := by
  refine cv_of (cc := cX4_learn) (maxL := 4) (lv := [(0, .ref (ad 81)), (1, .int (sI a1)), (2, .int (sI a2)), (3, .int (sI a3))]) (by decide) rfl (Nat.le_of_ble_eq_true rfl) rfl ?_
  intro p e s m args below meth c A Q C hret
  refine j_aload_n C 0 0 dX4_learn_0 rfl rfl ?_
  refine y_getC C 3 85 fX4_learn_23 rfl rfl ft_3_3 sm_3_3 rfl hM0 dX4_learn_1 ?_
  refine y_iconst C dX4_learn_4 ?_
  refine j_iload_n C 1 1 dX4_learn_5 rfl rfl ?_
  refine y_iastF C 36 8 rfl rfl rfl ak_36 an_36 rfl (sb_36 _) hM0 (PX.w hpr rfl rfl) dX4_learn_6 (by omega) (fun M101 eM101 hM101 => ?_)
  refine j_aload_n C 0 0 dX4_learn_7 rfl rfl ?_
  refine y_getC C 3 85 fX4_learn_23 rfl rfl ft_3_3 sm_3_3 rfl hM101 dX4_learn_8 ?_
  refine y_iconst C dX4_learn_11 ?_
  refine j_aload_n C 0 0 dX4_learn_12 rfl rfl ?_
  refine y_getM C 3 6 fX4_learn_33 rfl rfl ft_3_5 sm_3_5 (by decide) hM101 dX4_learn_13 (fun v102 ev102 cv102 => ?_)
  refine y_getT C 6 21 fX4_learn_68 cv102 rfl ft_6_2 rfl sm_6_2 st_6_2 (by decide) hM101 dX4_learn_16 (fun v103 cv103 => ?_)
  refine j_iload_n C 1 1 dX4_learn_19 rfl rfl ?_
  refine y_iald C 21 6 _ _ cv103 rfl rfl ak_21 an_21 rfl (sb_21 _) hM101 dX4_learn_20 (by omega) (fun a104 ea104 la104 ua104 => ?_)
  refine y_iastF C 36 8 rfl rfl rfl ak_36 an_36 rfl (sb_36 _) hM101 (PX.w hpr rfl rfl) dX4_learn_21 (by omega) (fun M105 eM105 hM105 => ?_)
  refine j_aload_n C 0 0 dX4_learn_22 rfl rfl ?_
  refine y_getC C 3 85 fX4_learn_23 rfl rfl ft_3_3 sm_3_3 rfl hM105 dX4_learn_23 ?_
  refine y_iconst C dX4_learn_26 ?_
  refine j_aload_n C 0 0 dX4_learn_27 rfl rfl ?_
  refine y_getV C 3 v102 fX4_learn_33 rfl rfl ft_3_5 (s_pI eM105 (ev102)) dX4_learn_28 ?_
  refine y_getT C 6 22 fX4_learn_92 cv102 rfl ft_6_3 rfl sm_6_3 st_6_3 (by decide) hM105 dX4_learn_31 (fun v106 cv106 => ?_)
  refine j_iload_n C 1 1 dX4_learn_34 rfl rfl ?_
  refine y_iald C 22 6 _ _ cv106 rfl rfl ak_22 an_22 rfl (sb_22 _) hM105 dX4_learn_35 (by omega) (fun a107 ea107 la107 ua107 => ?_)
  refine y_iastF C 36 8 rfl rfl rfl ak_36 an_36 rfl (sb_36 _) hM105 (PX.w hpr rfl rfl) dX4_learn_36 (by omega) (fun M108 eM108 hM108 => ?_)
  refine j_aload_n C 0 0 dX4_learn_37 rfl rfl ?_
  refine y_getC C 3 85 fX4_learn_23 rfl rfl ft_3_3 sm_3_3 rfl hM108 dX4_learn_38 ?_
  refine y_iconst C dX4_learn_41 ?_
  refine j_iload_n C 2 2 dX4_learn_42 rfl rfl ?_
  refine y_iastF C 36 8 rfl rfl rfl ak_36 an_36 rfl (sb_36 _) hM108 (PX.w hpr rfl rfl) dX4_learn_43 (by omega) (fun M109 eM109 hM109 => ?_)
  refine j_aload_n C 0 0 dX4_learn_44 rfl rfl ?_
  refine y_getC C 3 85 fX4_learn_23 rfl rfl ft_3_3 sm_3_3 rfl hM109 dX4_learn_45 ?_
  refine y_iconst C dX4_learn_48 ?_
  refine j_aload_n C 0 0 dX4_learn_49 rfl rfl ?_
  refine y_getC C 3 83 fX4_learn_15 rfl rfl ft_3_1 sm_3_1 rfl hM109 dX4_learn_50 ?_
  refine j_iload_n C 2 2 dX4_learn_53 rfl rfl ?_
  refine y_iald C 34 8 _ _ rfl rfl rfl ak_34 an_34 rfl (sb_34 _) hM109 dX4_learn_54 (by omega) (fun a110 ea110 la110 ua110 => ?_)
  refine y_iastF C 36 8 rfl rfl rfl ak_36 an_36 rfl (sb_36 _) hM109 (PX.w hpr rfl rfl) dX4_learn_55 (by omega) (fun M111 eM111 hM111 => ?_)
  refine j_aload_n C 0 0 dX4_learn_56 rfl rfl ?_
  refine y_getC C 3 85 fX4_learn_23 rfl rfl ft_3_3 sm_3_3 rfl hM111 dX4_learn_57 ?_
  refine y_iconst C dX4_learn_60 ?_
  refine j_aload_n C 0 0 dX4_learn_61 rfl rfl ?_
  refine y_getC C 3 84 fX4_learn_18 rfl rfl ft_3_2 sm_3_2 rfl hM111 dX4_learn_62 ?_
  refine j_iload_n C 2 2 dX4_learn_65 rfl rfl ?_
  refine y_iald C 35 8 _ _ rfl rfl rfl ak_35 an_35 rfl (sb_35 _) hM111 dX4_learn_66 (by omega) (fun a112 ea112 la112 ua112 => ?_)
  refine y_iastF C 36 8 rfl rfl rfl ak_36 an_36 rfl (sb_36 _) hM111 (PX.w hpr rfl rfl) dX4_learn_67 (by omega) (fun M113 eM113 hM113 => ?_)
  refine j_aload_n C 0 0 dX4_learn_68 rfl rfl ?_
  refine y_getC C 3 85 fX4_learn_23 rfl rfl ft_3_3 sm_3_3 rfl hM113 dX4_learn_69 ?_
  refine y_bipush C dX4_learn_72 rfl ?_
  refine j_iload_n C 3 3 dX4_learn_74 rfl rfl ?_
  refine j_callSi C (d := 0) (As := [.int (sI a3)]) (st := [.int (sI 6), .ref (ad 85)]) (s1_J6_bitCount_0f7a4 hM113 a3 (by omega)) gX4_learn_J6_bitCount_0f7a4 rfl hdJ6_bitCount_0f7a4s (by decide) (Nat.le_of_ble_eq_true rfl) dX4_learn_75 rfl (fun r114 M115 h116 => ?_)
  obtain ⟨a118, rfl, rfl, h117⟩ := h116
  refine y_iastF C 36 8 rfl rfl rfl ak_36 an_36 rfl (sb_36 _) hM113 (PX.w hpr rfl rfl) dX4_learn_78 (by omega) (fun M119 eM119 hM119 => ?_)
  refine j_aload_n C 0 0 dX4_learn_79 rfl rfl ?_
  refine y_getC C 3 85 fX4_learn_23 rfl rfl ft_3_3 sm_3_3 rfl hM119 dX4_learn_80 ?_
  refine y_bipush C dX4_learn_83 rfl ?_
  refine j_iload_n C 3 3 dX4_learn_85 rfl rfl ?_
  refine j_iload_n C 2 2 dX4_learn_86 rfl rfl ?_
  refine y_ishr0 C dX4_learn_87 (fun a120 la120 ua120 => ?_)
  refine y_iconst C dX4_learn_88 ?_
  refine y_iandR C dX4_learn_89 (by omega) (fun a121 la121 ua121 => ?_)
  refine y_iastF C 36 8 rfl rfl rfl ak_36 an_36 rfl (sb_36 _) hM119 (PX.w hpr rfl rfl) dX4_learn_90 (by omega) (fun M122 eM122 hM122 => ?_)
  exact hret _ _ _ dX4_learn_91 hM122
set_option maxHeartbeats 4000000 in
theorem s1_X4_joined {l : Launch} {dC : Nat → ClassId} {dI : Nat → Nat → Nat} {ad : Nat → Nat} {cA : Nat → ClassId} {pr : Nat → Nat → Bool} {Kz : mm_M} {M0 : mm_M} (hM0 : INV pr Kz M0) (a0 : Int) (ha0 : -9223372036854775808 ≤ a0 ∧ a0 ≤ 9223372036854775807) (a2 : Int) (ha2 : -2147483648 ≤ a2 ∧ a2 ≤ 2147483647) (a3 : Int) (ha3 : -9223372036854775808 ≤ a3 ∧ a3 ≤ 9223372036854775807) : Ci l 0 yX4_joined wsX4_joined dC dI ad cA [.long (sJ a0), .int (sI a2), .long (sJ a3)] M0 (fun r M' => ∃ a : Int, r = sI a ∧ M0 = M' ∧ (-2147483648) ≤ a ∧ a ≤ 2147483647) := by
  refine ci_of (cc := cX4_joined) (maxL := 7) (ty := .int) (lv := [(0, .long (sJ a0)), (2, .int (sI a2)), (3, .long (sJ a3))]) (by decide) rfl (fun r M' hp => rfl) (Nat.le_of_ble_eq_true rfl) rfl ?_
  intro p e s m args below meth c A Q C hret
  refine j_iload_n C 1 2 dX4_joined_0 rfl rfl ?_
  rcases (show a2 = 1015 ∨ a2 = 2042 ∨ a2 = 2043 ∨ a2 = 2045 ∨ a2 = 2060 ∨ a2 = 2061 ∨ a2 = 2062 ∨ (¬ a2 = 1015 ∧ ¬ a2 = 2042 ∧ ¬ a2 = 2043 ∧ ¬ a2 = 2045 ∧ ¬ a2 = 2060 ∧ ¬ a2 = 2061 ∧ ¬ a2 = 2062) by omega) with h101 | h101 | h101 | h101 | h101 | h101 | h101 | h101
  · refine y_lk C (off := 127) 128 dX4_joined_1 (by decide) (by decide) (by omega) (by rw [h101]; rfl) ?_
    refine j_lload_n C 0 0 dX4_joined_128 rfl rfl ?_
    refine j_lload_n C 2 3 dX4_joined_129 rfl rfl ?_
    refine y_land0 C dX4_joined_130 (fun a102 la102 ua102 => ?_)
    refine y_l2i C dX4_joined_131 ?_
    refine y_topI (fun a103 la103 ua103 => ?_)
    exact hret _ _ _ _ dX4_joined_132 ⟨a103, rfl, rfl, by omega⟩
  · refine y_lk C (off := 83) 84 dX4_joined_1 (by decide) (by decide) (by omega) (by rw [h101]; rfl) ?_
    refine j_lload_n C 0 0 dX4_joined_84 rfl rfl ?_
    refine j_lload_n C 2 3 dX4_joined_85 rfl rfl ?_
    refine y_lmul0 C dX4_joined_86 (fun a104 la104 ua104 => ?_)
    refine j_lstore C 5 [(5, .long (sJ a104)), (0, .long (sJ a0)), (2, .int (sI a2)), (3, .long (sJ a3))] dX4_joined_87 (by decide) rfl ?_
    refine j_goto C 138 dX4_joined_89 (by decide) ?_
    refine j_lload C 0 dX4_joined_138 rfl ?_
    refine y_ldc2 C 1000000 dX4_joined_140 kX4_joined_102 rfl ?_
    refine y_lcmp_le C 150 dX4_joined_143 dX4_joined_144 (by decide) (by omega) (fun h105 => ?_) (fun h105 => ?_)
    · refine j_lload C 0 dX4_joined_150 rfl ?_
      refine y_ldc2 C (-1000000) dX4_joined_152 kX4_joined_105 rfl ?_
      refine y_lcmp_ge C 164 dX4_joined_155 dX4_joined_156 (by decide) (by omega) (fun h106 => ?_) (fun h106 => ?_)
      · refine j_lload C 0 dX4_joined_164 rfl ?_
        refine y_l2i C dX4_joined_166 ?_
        exact hret _ _ _ _ dX4_joined_167 ⟨a104, rfl, rfl, by omega⟩
      · refine y_ldc C (-1000000) dX4_joined_159 kX4_joined_107 rfl ?_
        refine j_goto C 167 dX4_joined_161 (by decide) ?_
        exact hret _ _ _ _ dX4_joined_167 ⟨(-1000000), rfl, rfl, by omega⟩
    · refine y_ldc C 1000000 dX4_joined_147 kX4_joined_104 rfl ?_
      exact hret _ _ _ _ dX4_joined_149 ⟨1000000, rfl, rfl, by omega⟩
  · refine y_lk C (off := 67) 68 dX4_joined_1 (by decide) (by decide) (by omega) (by rw [h101]; rfl) ?_
    refine j_lload_n C 0 0 dX4_joined_68 rfl rfl ?_
    refine j_lload_n C 2 3 dX4_joined_69 rfl rfl ?_
    refine y_ladd0 C dX4_joined_70 (fun a107 la107 ua107 => ?_)
    refine j_lstore C 5 [(5, .long (sJ a107)), (0, .long (sJ a0)), (2, .int (sI a2)), (3, .long (sJ a3))] dX4_joined_71 (by decide) rfl ?_
    refine j_goto C 138 dX4_joined_73 (by decide) ?_
    refine j_lload C 0 dX4_joined_138 rfl ?_
    refine y_ldc2 C 1000000 dX4_joined_140 kX4_joined_102 rfl ?_
    refine y_lcmp_le C 150 dX4_joined_143 dX4_joined_144 (by decide) (by omega) (fun h108 => ?_) (fun h108 => ?_)
    · refine j_lload C 0 dX4_joined_150 rfl ?_
      refine y_ldc2 C (-1000000) dX4_joined_152 kX4_joined_105 rfl ?_
      refine y_lcmp_ge C 164 dX4_joined_155 dX4_joined_156 (by decide) (by omega) (fun h109 => ?_) (fun h109 => ?_)
      · refine j_lload C 0 dX4_joined_164 rfl ?_
        refine y_l2i C dX4_joined_166 ?_
        exact hret _ _ _ _ dX4_joined_167 ⟨a107, rfl, rfl, by omega⟩
      · refine y_ldc C (-1000000) dX4_joined_159 kX4_joined_107 rfl ?_
        refine j_goto C 167 dX4_joined_161 (by decide) ?_
        exact hret _ _ _ _ dX4_joined_167 ⟨(-1000000), rfl, rfl, by omega⟩
    · refine y_ldc C 1000000 dX4_joined_147 kX4_joined_104 rfl ?_
      exact hret _ _ _ _ dX4_joined_149 ⟨1000000, rfl, rfl, by omega⟩
  · refine y_lk C (off := 75) 76 dX4_joined_1 (by decide) (by decide) (by omega) (by rw [h101]; rfl) ?_
    refine j_lload_n C 0 0 dX4_joined_76 rfl rfl ?_
    refine j_lload_n C 2 3 dX4_joined_77 rfl rfl ?_
    refine y_lsub0 C dX4_joined_78 (fun a110 la110 ua110 => ?_)
    refine j_lstore C 5 [(5, .long (sJ a110)), (0, .long (sJ a0)), (2, .int (sI a2)), (3, .long (sJ a3))] dX4_joined_79 (by decide) rfl ?_
    refine j_goto C 138 dX4_joined_81 (by decide) ?_
    refine j_lload C 0 dX4_joined_138 rfl ?_
    refine y_ldc2 C 1000000 dX4_joined_140 kX4_joined_102 rfl ?_
    refine y_lcmp_le C 150 dX4_joined_143 dX4_joined_144 (by decide) (by omega) (fun h111 => ?_) (fun h111 => ?_)
    · refine j_lload C 0 dX4_joined_150 rfl ?_
      refine y_ldc2 C (-1000000) dX4_joined_152 kX4_joined_105 rfl ?_
      refine y_lcmp_ge C 164 dX4_joined_155 dX4_joined_156 (by decide) (by omega) (fun h112 => ?_) (fun h112 => ?_)
      · refine j_lload C 0 dX4_joined_164 rfl ?_
        refine y_l2i C dX4_joined_166 ?_
        exact hret _ _ _ _ dX4_joined_167 ⟨a110, rfl, rfl, by omega⟩
      · refine y_ldc C (-1000000) dX4_joined_159 kX4_joined_107 rfl ?_
        refine j_goto C 167 dX4_joined_161 (by decide) ?_
        exact hret _ _ _ _ dX4_joined_167 ⟨(-1000000), rfl, rfl, by omega⟩
    · refine y_ldc C 1000000 dX4_joined_147 kX4_joined_104 rfl ?_
      exact hret _ _ _ _ dX4_joined_149 ⟨1000000, rfl, rfl, by omega⟩
  · refine y_lk C (off := 103) 104 dX4_joined_1 (by decide) (by decide) (by omega) (by rw [h101]; rfl) ?_
    refine j_lload_n C 0 0 dX4_joined_104 rfl rfl ?_
    refine j_lload_n C 2 3 dX4_joined_105 rfl rfl ?_
    refine y_lcmp_ge C 114 dX4_joined_106 dX4_joined_107 (by decide) (by omega) (fun h113 => ?_) (fun h113 => ?_)
    · refine y_iconst C dX4_joined_114 ?_
      exact hret _ _ _ _ dX4_joined_115 ⟨0, rfl, rfl, by omega⟩
    · refine y_iconst C dX4_joined_110 ?_
      refine j_goto C 115 dX4_joined_111 (by decide) ?_
      exact hret _ _ _ _ dX4_joined_115 ⟨1, rfl, rfl, by omega⟩
  · refine y_lk C (off := 91) 92 dX4_joined_1 (by decide) (by decide) (by omega) (by rw [h101]; rfl) ?_
    refine j_lload_n C 0 0 dX4_joined_92 rfl rfl ?_
    refine j_lload_n C 2 3 dX4_joined_93 rfl rfl ?_
    refine y_lcmp_ne C 102 dX4_joined_94 dX4_joined_95 (by decide) (by omega) (fun h114 => ?_) (fun h114 => ?_)
    · refine y_iconst C dX4_joined_102 ?_
      exact hret _ _ _ _ dX4_joined_103 ⟨0, rfl, rfl, by omega⟩
    · refine y_iconst C dX4_joined_98 ?_
      refine j_goto C 103 dX4_joined_99 (by decide) ?_
      exact hret _ _ _ _ dX4_joined_103 ⟨1, rfl, rfl, by omega⟩
  · refine y_lk C (off := 115) 116 dX4_joined_1 (by decide) (by decide) (by omega) (by rw [h101]; rfl) ?_
    refine j_lload_n C 0 0 dX4_joined_116 rfl rfl ?_
    refine j_lload_n C 2 3 dX4_joined_117 rfl rfl ?_
    refine y_lcmp_le C 126 dX4_joined_118 dX4_joined_119 (by decide) (by omega) (fun h115 => ?_) (fun h115 => ?_)
    · refine y_iconst C dX4_joined_126 ?_
      exact hret _ _ _ _ dX4_joined_127 ⟨0, rfl, rfl, by omega⟩
    · refine y_iconst C dX4_joined_122 ?_
      refine j_goto C 127 dX4_joined_123 (by decide) ?_
      exact hret _ _ _ _ dX4_joined_127 ⟨1, rfl, rfl, by omega⟩
  · refine y_lk C (off := 132) 133 dX4_joined_1 (by decide) (by decide) (by omega) (by show Op.lookupswitch.offset [(1015, 127), (2042, 83), (2043, 67), (2045, 75), (2060, 103), (2061, 91), (2062, 115)] 132 a2 = 132; simp only [Op.lookupswitch.offset]; (repeat' split) <;> first | rfl | omega) ?_
    refine j_lload_n C 0 0 dX4_joined_133 rfl rfl ?_
    refine j_lload_n C 2 3 dX4_joined_134 rfl rfl ?_
    refine y_lor0 C dX4_joined_135 (fun a116 la116 ua116 => ?_)
    refine y_l2i C dX4_joined_136 ?_
    refine y_topI (fun a117 la117 ua117 => ?_)
    exact hret _ _ _ _ dX4_joined_137 ⟨a117, rfl, rfl, by omega⟩
set_option maxHeartbeats 4000000 in
theorem s1_X4_reckon {l : Launch} {dC : Nat → ClassId} {dI : Nat → Nat → Nat} {ad : Nat → Nat} {cA : Nat → ClassId} {pr : Nat → Nat → Bool} {Kz : mm_M} {M0 : mm_M} (hM0 : INV pr Kz M0) (hpr : PX pr) (a1 : Int) (ha1 : -2147483648 ≤ a1 ∧ a1 ≤ 2147483647) (a2 : Int) (ha2 : -2147483648 ≤ a2 ∧ a2 ≤ 2147483647) (hp0 : 0 ≤ a1 ∧ a1 ≤ 900) (hp1 : 0 ≤ a2 ∧ a2 ≤ 900) : Ci l 1 yX4_reckon wsX4_reckon dC dI ad cA [.ref (ad 81), .int (sI a1), .int (sI a2)] M0 (fun r M' => ∃ a : Int, r = sI a ∧ INV pr Kz M' ∧ (-2147483648) ≤ a ∧ a ≤ 2147483647) := by
  refine ci_of (cc := cX4_reckon) (maxL := 6) (ty := .int) (lv := [(0, .ref (ad 81)), (1, .int (sI a1)), (2, .int (sI a2))]) (by decide) rfl (fun r M' hp => rfl) (Nat.le_of_ble_eq_true rfl) rfl ?_
  intro p e s m args below meth c A Q C hret
  refine y_iconst C dX4_reckon_0 ?_
  refine j_istore_n C 3 [(3, .int (sI 0)), (0, .ref (ad 81)), (1, .int (sI a1)), (2, .int (sI a2))] dX4_reckon_1 rfl (by decide) rfl ?_
  refine j_iload_n C 2 1 dX4_reckon_2 rfl rfl ?_
  refine j_istore C 4 [(4, .int (sI a1)), (3, .int (sI 0)), (0, .ref (ad 81)), (1, .int (sI a1)), (2, .int (sI a2))] dX4_reckon_3 (by decide) rfl ?_
  have L664 : ∀ (n662 : Nat), ∀ (a665 : Int) (a666 : Int) (M667 : mm_M), (0 ≤ a665 ∧ a665 ≤ 64 ∧ 0 ≤ a666 ∧ a666 ≤ 900 ∧ (900 - a666) < (n662 : Int)) → INV pr Kz M667 → jj p l e (cn_R 1) s m args below meth c 0 0 Q 6 dC dI ad cA A M667 5 [(0, .ref (ad 81)), (2, .int (sI a2)), (3, .int (sI a665)), (4, .int (sI a666))] [] := by
    intro n662
    induction n662 with
    | zero =>
      intro a665 a666 M667 h668 hM667
      exfalso; omega
    | succ n662 ih663 =>
      intro a665 a666 M667 h668 hM667
      refine j_iload C 3 dX4_reckon_5 rfl ?_
      refine j_iload_n C 1 2 dX4_reckon_7 rfl rfl ?_
      refine y_icmp_ge C 166 dX4_reckon_8 (by decide) (by omega) (fun h669 => ?_) (fun h669 => ?_)
      · refine j_iload_n C 2 3 dX4_reckon_166 rfl rfl ?_
        refine y_if_le C 181 dX4_reckon_167 (by decide) (by omega) (fun h695 => ?_) (fun h695 => ?_)
        · refine y_iconst C dX4_reckon_181 ?_
          exact hret _ _ _ _ dX4_reckon_182 ⟨0, rfl, hM667, by omega⟩
        · refine j_aload_n C 0 0 dX4_reckon_170 rfl rfl ?_
          refine y_getC C 3 86 fX4_reckon_26 rfl rfl ft_3_4 sm_3_4 rfl hM667 dX4_reckon_171 ?_
          refine j_iload_n C 2 3 dX4_reckon_174 rfl rfl ?_
          refine y_iconst C dX4_reckon_175 ?_
          refine y_isub C dX4_reckon_176 ?_
          refine y_iald C 37 64 _ _ rfl rfl rfl ak_37 an_37 rfl (sb_37 _) hM667 dX4_reckon_177 (by omega) (fun a696 ea696 la696 ua696 => ?_)
          refine j_goto C 182 dX4_reckon_178 (by decide) ?_
          exact hret _ _ _ _ dX4_reckon_182 ⟨a696, rfl, hM667, by omega⟩
      · refine j_iload C 3 dX4_reckon_11 rfl ?_
        refine j_aload_n C 0 0 dX4_reckon_13 rfl rfl ?_
        refine y_getM C 3 6 fX4_reckon_33 rfl rfl ft_3_5 sm_3_5 (by decide) hM667 dX4_reckon_14 (fun v670 ev670 cv670 => ?_)
        refine y_getT C 6 24 fX4_reckon_95 cv670 rfl ft_6_5 rfl sm_6_5 st_6_5 (by decide) hM667 dX4_reckon_17 (fun v671 cv671 => ?_)
        refine y_alen C 24 900 cv671 rfl rfl an_24 rfl rfl dX4_reckon_20 ?_
        refine y_icmp_ge C 166 dX4_reckon_21 (by decide) (by omega) (fun h672 => ?_) (fun h672 => ?_)
        · exfalso; omega
        · refine j_aload_n C 0 0 dX4_reckon_24 rfl rfl ?_
          refine y_getV C 3 v670 fX4_reckon_33 rfl rfl ft_3_5 (ev670) dX4_reckon_25 ?_
          refine y_getT C 6 24 fX4_reckon_95 cv670 rfl ft_6_5 rfl sm_6_5 st_6_5 (by decide) hM667 dX4_reckon_28 (fun v673 cv673 => ?_)
          refine j_iload C 3 dX4_reckon_31 rfl ?_
          refine y_iald C 24 900 _ _ cv673 rfl rfl ak_24 an_24 rfl (sb_24 _) hM667 dX4_reckon_33 (by omega) (fun a674 ea674 la674 ua674 => ?_)
          refine j_istore C 5 [(5, .int (sI a674)), (0, .ref (ad 81)), (2, .int (sI a2)), (3, .int (sI a665)), (4, .int (sI a666))] dX4_reckon_34 (by decide) rfl ?_
          refine j_iload C 0 dX4_reckon_36 rfl ?_
          refine y_sipush C dX4_reckon_38 rfl ?_
          refine y_icmp_ge C 89 dX4_reckon_41 (by decide) (by omega) (fun h675 => ?_) (fun h675 => ?_)
          · refine j_iload C 0 dX4_reckon_89 rfl ?_
            refine y_sipush C dX4_reckon_91 rfl ?_
            refine y_icmp_ne C 123 dX4_reckon_94 (by decide) (by omega) (fun h676 => ?_) (fun h676 => ?_)
            · refine j_iload_n C 3 3 dX4_reckon_123 rfl rfl ?_
              refine y_iconst C dX4_reckon_124 ?_
              refine y_icmp_lt C 160 dX4_reckon_125 (by decide) (by omega) (fun h677 => ?_) (fun h677 => ?_)
              · refine y_iinc C 4 [(4, .int (sI (a666 + 1))), (5, .int (sI a674)), (0, .ref (ad 81)), (2, .int (sI a2)), (3, .int (sI a665))] dX4_reckon_160 rfl (by decide) rfl ?_
                refine j_goto C 5 dX4_reckon_163 (by decide) ?_
                refine j_lv [2, 3, 4, 0] rfl ?_; exact ih663 a665 (a666 + 1) M667 (by omega) hM667
              · refine y_iinc C 3 [(3, .int (sI (a665 + (-1)))), (5, .int (sI a674)), (0, .ref (ad 81)), (2, .int (sI a2)), (4, .int (sI a666))] dX4_reckon_128 rfl (by decide) rfl ?_
                refine j_aload_n C 2 0 dX4_reckon_131 rfl rfl ?_
                refine y_getC C 3 86 fX4_reckon_26 rfl rfl ft_3_4 sm_3_4 rfl hM667 dX4_reckon_132 ?_
                refine j_iload_n C 0 3 dX4_reckon_135 rfl rfl ?_
                refine y_iconst C dX4_reckon_136 ?_
                refine y_isub C dX4_reckon_137 ?_
                refine j_aload_n C 2 0 dX4_reckon_138 rfl rfl ?_
                refine y_getC C 3 86 fX4_reckon_26 rfl rfl ft_3_4 sm_3_4 rfl hM667 dX4_reckon_139 ?_
                refine j_iload_n C 0 3 dX4_reckon_142 rfl rfl ?_
                refine y_iconst C dX4_reckon_143 ?_
                refine y_isub C dX4_reckon_144 ?_
                refine y_iald C 37 64 _ _ rfl rfl rfl ak_37 an_37 rfl (sb_37 _) hM667 dX4_reckon_145 (by omega) (fun a678 ea678 la678 ua678 => ?_)
                refine y_i2l C dX4_reckon_146 (by omega) ?_
                refine j_iload C 1 dX4_reckon_147 rfl ?_
                refine j_aload_n C 2 0 dX4_reckon_149 rfl rfl ?_
                refine y_getC C 3 86 fX4_reckon_26 rfl rfl ft_3_4 sm_3_4 rfl hM667 dX4_reckon_150 ?_
                refine j_iload_n C 0 3 dX4_reckon_153 rfl rfl ?_
                refine y_iald C 37 64 _ _ rfl rfl rfl ak_37 an_37 rfl (sb_37 _) hM667 dX4_reckon_154 (by omega) (fun a679 ea679 la679 ua679 => ?_)
                refine y_i2l C dX4_reckon_155 (by omega) ?_
                refine j_callSi C (d := 0) (As := [.long (sJ a678), .int (sI a674), .long (sJ a679)]) (st := [.int (sI ((a665 + (-1)) - 1)), .ref (ad 86)]) (s1_X4_joined hM667 a678 (by omega) a674 (by omega) a679 (by omega)) gX4_reckon_X4_joined rfl hdX4_joineds (by decide) (Nat.le_of_ble_eq_true rfl) dX4_reckon_156 rfl (fun r680 M681 h682 => ?_)
                obtain ⟨a684, rfl, rfl, h683⟩ := h682
                refine y_iastF C 37 64 rfl rfl rfl ak_37 an_37 rfl (sb_37 _) hM667 (PX.w hpr rfl rfl) dX4_reckon_159 (by omega) (fun M685 eM685 hM685 => ?_)
                refine y_iinc C 4 [(4, .int (sI (a666 + 1))), (3, .int (sI (a665 + (-1)))), (5, .int (sI a674)), (0, .ref (ad 81)), (2, .int (sI a2))] dX4_reckon_160 rfl (by decide) rfl ?_
                refine j_goto C 5 dX4_reckon_163 (by decide) ?_
                refine j_lv [3, 4, 1, 0] rfl ?_; exact ih663 (a665 + (-1)) (a666 + 1) M685 (by omega) hM685
            · refine j_iload_n C 3 3 dX4_reckon_97 rfl rfl ?_
              refine y_iconst C dX4_reckon_98 ?_
              refine y_icmp_lt C 160 dX4_reckon_99 (by decide) (by omega) (fun h686 => ?_) (fun h686 => ?_)
              · refine y_iinc C 4 [(4, .int (sI (a666 + 1))), (5, .int (sI a674)), (0, .ref (ad 81)), (2, .int (sI a2)), (3, .int (sI a665))] dX4_reckon_160 rfl (by decide) rfl ?_
                refine j_goto C 5 dX4_reckon_163 (by decide) ?_
                refine j_lv [2, 3, 4, 0] rfl ?_; exact ih663 a665 (a666 + 1) M667 (by omega) hM667
              · refine j_aload_n C 1 0 dX4_reckon_102 rfl rfl ?_
                refine y_getC C 3 86 fX4_reckon_26 rfl rfl ft_3_4 sm_3_4 rfl hM667 dX4_reckon_103 ?_
                refine j_iload_n C 3 3 dX4_reckon_106 rfl rfl ?_
                refine y_iconst C dX4_reckon_107 ?_
                refine y_isub C dX4_reckon_108 ?_
                refine y_iconst C dX4_reckon_109 ?_
                refine j_aload_n C 1 0 dX4_reckon_110 rfl rfl ?_
                refine y_getC C 3 86 fX4_reckon_26 rfl rfl ft_3_4 sm_3_4 rfl hM667 dX4_reckon_111 ?_
                refine j_iload_n C 3 3 dX4_reckon_114 rfl rfl ?_
                refine y_iconst C dX4_reckon_115 ?_
                refine y_isub C dX4_reckon_116 ?_
                refine y_iald C 37 64 _ _ rfl rfl rfl ak_37 an_37 rfl (sb_37 _) hM667 dX4_reckon_117 (by omega) (fun a687 ea687 la687 ua687 => ?_)
                refine y_isub0 C dX4_reckon_118 (fun a688 la688 ua688 => ?_)
                refine y_iastF C 37 64 rfl rfl rfl ak_37 an_37 rfl (sb_37 _) hM667 (PX.w hpr rfl rfl) dX4_reckon_119 (by omega) (fun M689 eM689 hM689 => ?_)
                refine j_goto C 160 dX4_reckon_120 (by decide) ?_
                refine y_iinc C 4 [(4, .int (sI (a666 + 1))), (5, .int (sI a674)), (0, .ref (ad 81)), (2, .int (sI a2)), (3, .int (sI a665))] dX4_reckon_160 rfl (by decide) rfl ?_
                refine j_goto C 5 dX4_reckon_163 (by decide) ?_
                refine j_lv [2, 3, 4, 0] rfl ?_; exact ih663 a665 (a666 + 1) M689 (by omega) hM689
          · refine j_iload_n C 3 3 dX4_reckon_44 rfl rfl ?_
            refine j_aload_n C 1 0 dX4_reckon_45 rfl rfl ?_
            refine y_getC C 3 86 fX4_reckon_26 rfl rfl ft_3_4 sm_3_4 rfl hM667 dX4_reckon_46 ?_
            refine y_alen C 37 64 rfl rfl rfl an_37 rfl rfl dX4_reckon_49 ?_
            refine y_icmp_ge C 160 dX4_reckon_50 (by decide) (by omega) (fun h690 => ?_) (fun h690 => ?_)
            · refine y_iinc C 4 [(4, .int (sI (a666 + 1))), (5, .int (sI a674)), (0, .ref (ad 81)), (2, .int (sI a2)), (3, .int (sI a665))] dX4_reckon_160 rfl (by decide) rfl ?_
              refine j_goto C 5 dX4_reckon_163 (by decide) ?_
              refine j_lv [2, 3, 4, 0] rfl ?_; exact ih663 a665 (a666 + 1) M667 (by omega) hM667
            · refine j_aload_n C 1 0 dX4_reckon_53 rfl rfl ?_
              refine y_getC C 3 86 fX4_reckon_26 rfl rfl ft_3_4 sm_3_4 rfl hM667 dX4_reckon_54 ?_
              refine j_iload_n C 3 3 dX4_reckon_57 rfl rfl ?_
              refine j_iload C 0 dX4_reckon_58 rfl ?_
              refine y_sipush C dX4_reckon_60 rfl ?_
              refine y_icmp_ge C 71 dX4_reckon_63 (by decide) (by omega) (fun h691 => ?_) (fun h691 => ?_)
              · refine j_aload_n C 1 0 dX4_reckon_71 rfl rfl ?_
                refine y_getC C 3 85 fX4_reckon_23 rfl rfl ft_3_3 sm_3_3 rfl hM667 dX4_reckon_72 ?_
                refine j_iload C 0 dX4_reckon_75 rfl ?_
                refine y_sipush C dX4_reckon_77 rfl ?_
                refine y_isub C dX4_reckon_80 ?_
                refine y_iald C 36 8 _ _ rfl rfl rfl ak_36 an_36 rfl (sb_36 _) hM667 dX4_reckon_81 (by omega) (fun a692 ea692 la692 ua692 => ?_)
                refine y_iastF C 37 64 rfl rfl rfl ak_37 an_37 rfl (sb_37 _) hM667 (PX.w hpr rfl rfl) dX4_reckon_82 (by omega) (fun M693 eM693 hM693 => ?_)
                refine y_iinc C 3 [(3, .int (sI (a665 + 1))), (5, .int (sI a674)), (0, .ref (ad 81)), (2, .int (sI a2)), (4, .int (sI a666))] dX4_reckon_83 rfl (by decide) rfl ?_
                refine j_goto C 160 dX4_reckon_86 (by decide) ?_
                refine y_iinc C 4 [(4, .int (sI (a666 + 1))), (3, .int (sI (a665 + 1))), (5, .int (sI a674)), (0, .ref (ad 81)), (2, .int (sI a2))] dX4_reckon_160 rfl (by decide) rfl ?_
                refine j_goto C 5 dX4_reckon_163 (by decide) ?_
                refine j_lv [3, 4, 1, 0] rfl ?_; exact ih663 (a665 + 1) (a666 + 1) M693 (by omega) hM693
              · refine j_iload C 0 dX4_reckon_66 rfl ?_
                refine j_goto C 82 dX4_reckon_68 (by decide) ?_
                refine y_iastF C 37 64 rfl rfl rfl ak_37 an_37 rfl (sb_37 _) hM667 (PX.w hpr rfl rfl) dX4_reckon_82 (by omega) (fun M694 eM694 hM694 => ?_)
                refine y_iinc C 3 [(3, .int (sI (a665 + 1))), (5, .int (sI a674)), (0, .ref (ad 81)), (2, .int (sI a2)), (4, .int (sI a666))] dX4_reckon_83 rfl (by decide) rfl ?_
                refine j_goto C 160 dX4_reckon_86 (by decide) ?_
                refine y_iinc C 4 [(4, .int (sI (a666 + 1))), (3, .int (sI (a665 + 1))), (5, .int (sI a674)), (0, .ref (ad 81)), (2, .int (sI a2))] dX4_reckon_160 rfl (by decide) rfl ?_
                refine j_goto C 5 dX4_reckon_163 (by decide) ?_
                refine j_lv [3, 4, 1, 0] rfl ?_; exact ih663 (a665 + 1) (a666 + 1) M694 (by omega) hM694
  refine j_lv [2, 4, 1, 0] rfl ?_; exact L664 2010 0 a1 M0 (by omega) hM0
set_option maxHeartbeats 4000000 in
theorem s1_X4_lets {l : Launch} {dC : Nat → ClassId} {dI : Nat → Nat → Nat} {ad : Nat → Nat} {cA : Nat → ClassId} {pr : Nat → Nat → Bool} {Kz : mm_M} {M0 : mm_M} (hM0 : INV pr Kz M0) (hpr : PX pr) (a1 : Int) (ha1 : -2147483648 ≤ a1 ∧ a1 ≤ 2147483647) (a2 : Int) (ha2 : -2147483648 ≤ a2 ∧ a2 ≤ 2147483647) (a3 : Int) (ha3 : -2147483648 ≤ a3 ∧ a3 ≤ 2147483647) (hp0 : 0 ≤ a1 ∧ a1 ≤ 5) (hp1 : 0 ≤ a2 ∧ a2 ≤ 7) : Ci l 2 yX4_lets wsX4_lets dC dI ad cA [.ref (ad 81), .int (sI a1), .int (sI a2), .int (sI a3)] M0 (fun r M' => ∃ a : Int, r = sI a ∧ INV pr Kz M' ∧ 0 ≤ a ∧ a ≤ 1) := by
  refine ci_of (cc := cX4_lets) (maxL := 4) (ty := .boolean) (lv := [(0, .ref (ad 81)), (1, .int (sI a1)), (2, .int (sI a2)), (3, .int (sI a3))]) (by decide) rfl (fun r M' hp => by obtain ⟨a, rfl, -, h⟩ := hp; rcases (show a = 0 ∨ a = 1 by omega) with rfl | rfl <;> rfl) (Nat.le_of_ble_eq_true rfl) rfl ?_
  intro p e s m args below meth c A Q C hret
  refine j_aload_n C 0 0 dX4_lets_0 rfl rfl ?_
  refine y_getC C 3 83 fX4_lets_15 rfl rfl ft_3_1 sm_3_1 rfl hM0 dX4_lets_1 ?_
  refine j_iload_n C 2 2 dX4_lets_4 rfl rfl ?_
  refine y_iald C 34 8 _ _ rfl rfl rfl ak_34 an_34 rfl (sb_34 _) hM0 dX4_lets_5 (by omega) (fun a101 ea101 la101 ua101 => ?_)
  refine j_aload_n C 0 0 dX4_lets_6 rfl rfl ?_
  refine y_getM C 3 6 fX4_lets_33 rfl rfl ft_3_5 sm_3_5 (by decide) hM0 dX4_lets_7 (fun v102 ev102 cv102 => ?_)
  refine y_getT C 6 21 fX4_lets_68 cv102 rfl ft_6_2 rfl sm_6_2 st_6_2 (by decide) hM0 dX4_lets_10 (fun v103 cv103 => ?_)
  refine j_iload_n C 1 1 dX4_lets_13 rfl rfl ?_
  refine y_iald C 21 6 _ _ cv103 rfl rfl ak_21 an_21 rfl (sb_21 _) hM0 dX4_lets_14 (by omega) (fun a104 ea104 la104 ua104 => ?_)
  refine y_icmp_le C 20 dX4_lets_15 (by decide) (by omega) (fun h105 => ?_) (fun h105 => ?_)
  · refine j_aload_n C 0 0 dX4_lets_20 rfl rfl ?_
    refine y_getV C 3 v102 fX4_lets_33 rfl rfl ft_3_5 (ev102) dX4_lets_21 ?_
    refine y_getI C 6 _ _ fX4_lets_73 cv102 rfl ft_6_9 sb_6_9 hM0 dX4_lets_24 (fun a106 ea106 la106 ua106 => ?_)
    refine j_aload_n C 0 0 dX4_lets_27 rfl rfl ?_
    refine y_getV C 3 v102 fX4_lets_33 rfl rfl ft_3_5 (ev102) dX4_lets_28 ?_
    refine y_getI C 6 _ _ fX4_lets_76 cv102 rfl ft_6_10 sb_6_10 hM0 dX4_lets_31 (fun a108 ea108 la108 ua108 => ?_)
    refine y_icmp_ne C 39 dX4_lets_34 (by decide) (by omega) (fun h110 => ?_) (fun h110 => ?_)
    · refine j_aload_n C 0 0 dX4_lets_39 rfl rfl ?_
      refine j_iload_n C 1 1 dX4_lets_40 rfl rfl ?_
      refine j_iload_n C 2 2 dX4_lets_41 rfl rfl ?_
      refine j_iload_n C 3 3 dX4_lets_42 rfl rfl ?_
      refine j_callVv C (d := 1) (As := [.int (sI a1), .int (sI a2), .int (sI a3)]) (st := []) 81 (s_lt rfl rfl) (s_kc (c := 3) rfl rfl) (by decide) rfl (s1_X4_learn hM0 hpr a1 (by omega) a2 (by omega) a3 (by omega) (by omega) (by omega)) gX4_lets_X4_learn rfl hdX4_learn (by decide) (Nat.le_of_ble_eq_true rfl) dX4_lets_43 rfl (fun M112 h113 => ?_)
      have hM112 := h113
      refine j_aload_n C 0 0 dX4_lets_46 rfl rfl ?_
      refine j_aload_n C 0 0 dX4_lets_47 rfl rfl ?_
      refine y_getM C 3 6 fX4_lets_33 rfl rfl ft_3_5 sm_3_5 (by decide) hM112 dX4_lets_48 (fun v115 ev115 cv115 => ?_)
      refine y_getI C 6 _ _ fX4_lets_73 cv115 rfl ft_6_9 sb_6_9 hM112 dX4_lets_51 (fun a116 ea116 la116 ua116 => ?_)
      refine j_aload_n C 0 0 dX4_lets_54 rfl rfl ?_
      refine y_getV C 3 v115 fX4_lets_33 rfl rfl ft_3_5 (ev115) dX4_lets_55 ?_
      refine y_getI C 6 _ _ fX4_lets_76 cv115 rfl ft_6_10 sb_6_10 hM112 dX4_lets_58 (fun a118 ea118 la118 ua118 => ?_)
      refine j_callVi C (d := 1) (As := [.int (sI a116), .int (sI a118)]) (st := []) 81 (s_lt rfl rfl) (s_kc (c := 3) rfl rfl) (by decide) rfl (s1_X4_reckon hM112 hpr a116 (by omega) a118 (by omega) (by omega) (by omega)) gX4_lets_X4_reckon rfl hdX4_reckon (by decide) (Nat.le_of_ble_eq_true rfl) dX4_lets_61 rfl (fun r120 M121 h122 => ?_)
      obtain ⟨a124, rfl, hM121, h123⟩ := h122
      refine y_if_eq C 71 dX4_lets_64 (by decide) (by omega) (fun h125 => ?_) (fun h125 => ?_)
      · refine y_iconst C dX4_lets_71 ?_
        exact hret _ _ _ _ dX4_lets_72 ⟨0, rfl, hM121, by omega⟩
      · refine y_iconst C dX4_lets_67 ?_
        refine j_goto C 72 dX4_lets_68 (by decide) ?_
        exact hret _ _ _ _ dX4_lets_72 ⟨1, rfl, hM121, by omega⟩
    · refine y_iconst C dX4_lets_37 ?_
      exact hret _ _ _ _ dX4_lets_38 ⟨1, rfl, hM0, by omega⟩
  · refine y_iconst C dX4_lets_18 ?_
    exact hret _ _ _ _ dX4_lets_19 ⟨0, rfl, hM0, by omega⟩
set_option maxHeartbeats 4000000 in
theorem s1_X4_wish {l : Launch} {dC : Nat → ClassId} {dI : Nat → Nat → Nat} {ad : Nat → Nat} {cA : Nat → ClassId} {pr : Nat → Nat → Bool} {Kz : mm_M} {M0 : mm_M} (hM0 : INV pr Kz M0) (hpr : PX pr) (a1 : Int) (ha1 : -2147483648 ≤ a1 ∧ a1 ≤ 2147483647) (a2 : Int) (ha2 : -2147483648 ≤ a2 ∧ a2 ≤ 2147483647) (a3 : Int) (ha3 : -2147483648 ≤ a3 ∧ a3 ≤ 2147483647) (hp0 : 0 ≤ a1 ∧ a1 ≤ 5) (hp1 : 0 ≤ a2 ∧ a2 ≤ 7) : Ci l 2 yX4_wish wsX4_wish dC dI ad cA [.ref (ad 81), .int (sI a1), .int (sI a2), .int (sI a3)] M0 (fun r M' => ∃ a : Int, r = sI a ∧ INV pr Kz M' ∧ (-2147483648) ≤ a ∧ a ≤ 2147483647) := by
  refine ci_of (cc := cX4_wish) (maxL := 4) (ty := .int) (lv := [(0, .ref (ad 81)), (1, .int (sI a1)), (2, .int (sI a2)), (3, .int (sI a3))]) (by decide) rfl (fun r M' hp => rfl) (Nat.le_of_ble_eq_true rfl) rfl ?_
  intro p e s m args below meth c A Q C hret
  refine j_aload_n C 0 0 dX4_wish_0 rfl rfl ?_
  refine y_getM C 3 6 fX4_wish_33 rfl rfl ft_3_5 sm_3_5 (by decide) hM0 dX4_wish_1 (fun v101 ev101 cv101 => ?_)
  refine y_getI C 6 _ _ fX4_wish_86 cv101 rfl ft_6_7 sb_6_7 hM0 dX4_wish_4 (fun a102 ea102 la102 ua102 => ?_)
  refine j_aload_n C 0 0 dX4_wish_7 rfl rfl ?_
  refine y_getV C 3 v101 fX4_wish_33 rfl rfl ft_3_5 (ev101) dX4_wish_8 ?_
  refine y_getI C 6 _ _ fX4_wish_89 cv101 rfl ft_6_8 sb_6_8 hM0 dX4_wish_11 (fun a104 ea104 la104 ua104 => ?_)
  refine y_icmp_ne C 34 dX4_wish_14 (by decide) (by omega) (fun h106 => ?_) (fun h106 => ?_)
  · refine j_aload_n C 0 0 dX4_wish_34 rfl rfl ?_
    refine j_iload_n C 1 1 dX4_wish_35 rfl rfl ?_
    refine j_iload_n C 2 2 dX4_wish_36 rfl rfl ?_
    refine j_iload_n C 3 3 dX4_wish_37 rfl rfl ?_
    refine j_callVv C (d := 1) (As := [.int (sI a1), .int (sI a2), .int (sI a3)]) (st := []) 81 (s_lt rfl rfl) (s_kc (c := 3) rfl rfl) (by decide) rfl (s1_X4_learn hM0 hpr a1 (by omega) a2 (by omega) a3 (by omega) (by omega) (by omega)) gX4_wish_X4_learn rfl hdX4_learn (by decide) (Nat.le_of_ble_eq_true rfl) dX4_wish_38 rfl (fun M108 h109 => ?_)
    have hM108 := h109
    refine j_aload_n C 0 0 dX4_wish_41 rfl rfl ?_
    refine j_aload_n C 0 0 dX4_wish_42 rfl rfl ?_
    refine y_getM C 3 6 fX4_wish_33 rfl rfl ft_3_5 sm_3_5 (by decide) hM108 dX4_wish_43 (fun v111 ev111 cv111 => ?_)
    refine y_getI C 6 _ _ fX4_wish_86 cv111 rfl ft_6_7 sb_6_7 hM108 dX4_wish_46 (fun a112 ea112 la112 ua112 => ?_)
    refine j_aload_n C 0 0 dX4_wish_49 rfl rfl ?_
    refine y_getV C 3 v111 fX4_wish_33 rfl rfl ft_3_5 (ev111) dX4_wish_50 ?_
    refine y_getI C 6 _ _ fX4_wish_89 cv111 rfl ft_6_8 sb_6_8 hM108 dX4_wish_53 (fun a114 ea114 la114 ua114 => ?_)
    refine j_callVi C (d := 1) (As := [.int (sI a112), .int (sI a114)]) (st := []) 81 (s_lt rfl rfl) (s_kc (c := 3) rfl rfl) (by decide) rfl (s1_X4_reckon hM108 hpr a112 (by omega) a114 (by omega) (by omega) (by omega)) gX4_wish_X4_reckon rfl hdX4_reckon (by decide) (Nat.le_of_ble_eq_true rfl) dX4_wish_56 rfl (fun r116 M117 h118 => ?_)
    obtain ⟨a120, rfl, hM117, h119⟩ := h118
    exact hret _ _ _ _ dX4_wish_59 ⟨a120, rfl, hM117, by omega⟩
  · refine j_aload_n C 0 0 dX4_wish_17 rfl rfl ?_
    refine y_getV C 3 v101 fX4_wish_33 rfl rfl ft_3_5 (ev101) dX4_wish_18 ?_
    refine y_getT C 6 21 fX4_wish_68 cv101 rfl ft_6_2 rfl sm_6_2 st_6_2 (by decide) hM0 dX4_wish_21 (fun v121 cv121 => ?_)
    refine j_iload_n C 1 1 dX4_wish_24 rfl rfl ?_
    refine y_iald C 21 6 _ _ cv121 rfl rfl ak_21 an_21 rfl (sb_21 _) hM0 dX4_wish_25 (by omega) (fun a122 ea122 la122 ua122 => ?_)
    refine j_aload_n C 0 0 dX4_wish_26 rfl rfl ?_
    refine y_getC C 3 83 fX4_wish_15 rfl rfl ft_3_1 sm_3_1 rfl hM0 dX4_wish_27 ?_
    refine j_iload_n C 2 2 dX4_wish_30 rfl rfl ?_
    refine y_iald C 34 8 _ _ rfl rfl rfl ak_34 an_34 rfl (sb_34 _) hM0 dX4_wish_31 (by omega) (fun a123 ea123 la123 ua123 => ?_)
    refine y_isub0 C dX4_wish_32 (fun a124 la124 ua124 => ?_)
    exact hret _ _ _ _ dX4_wish_33 ⟨a124, rfl, hM0, by omega⟩
set_option maxHeartbeats 4000000 in
theorem s1_X4_choice {l : Launch} {dC : Nat → ClassId} {dI : Nat → Nat → Nat} {ad : Nat → Nat} {cA : Nat → ClassId} {pr : Nat → Nat → Bool} {Kz : mm_M} {M0 : mm_M} (hM0 : INV pr Kz M0) (hpr : PX pr) (a1 : Int) (ha1 : -2147483648 ≤ a1 ∧ a1 ≤ 2147483647) (a2 : Int) (ha2 : -2147483648 ≤ a2 ∧ a2 ≤ 2147483647) (a3 : Int) (ha3 : -2147483648 ≤ a3 ∧ a3 ≤ 2147483647) (hp0 : 0 ≤ a1 ∧ a1 ≤ 5) : Ci l 3 yX4_choice wsX4_choice dC dI ad cA [.ref (ad 81), .int (sI a1), .int (sI a2), .int (sI a3)] M0 (fun r M' => ∃ a : Int, r = sI a ∧ INV pr Kz M' ∧ (-1) ≤ a ∧ a ≤ 7) := by
  refine ci_of (cc := cX4_choice) (maxL := 10) (ty := .int) (lv := [(0, .ref (ad 81)), (1, .int (sI a1)), (2, .int (sI a2)), (3, .int (sI a3))]) (by decide) rfl (fun r M' hp => rfl) (Nat.le_of_ble_eq_true rfl) rfl ?_
  intro p e s m args below meth c A Q C hret
  refine y_iconst C dX4_choice_0 ?_
  refine j_istore C 4 [(4, .int (sI (-1))), (0, .ref (ad 81)), (1, .int (sI a1)), (2, .int (sI a2)), (3, .int (sI a3))] dX4_choice_1 (by decide) rfl ?_
  refine y_iconst C dX4_choice_3 ?_
  refine j_istore C 5 [(5, .int (sI 0)), (4, .int (sI (-1))), (0, .ref (ad 81)), (1, .int (sI a1)), (2, .int (sI a2)), (3, .int (sI a3))] dX4_choice_4 (by decide) rfl ?_
  refine y_iconst C dX4_choice_6 ?_
  refine j_aload_n C 2 0 dX4_choice_7 rfl rfl ?_
  refine y_getI C 3 _ _ fX4_choice_29 rfl rfl ft_3_6 sb_3_6 hM0 dX4_choice_8 (fun a101 ea101 la101 ua101 => ?_)
  refine y_shl1 C 8 256 dX4_choice_11 rfl (by decide) (by omega) (fun a103 la103 ua103 => ?_)
  refine y_iconst C dX4_choice_12 ?_
  refine y_isub C dX4_choice_13 ?_
  refine j_iload_n C 5 3 dX4_choice_14 rfl rfl ?_
  refine y_iconst C dX4_choice_15 ?_
  refine y_not C dX4_choice_16 ?_
  refine y_iandL C dX4_choice_17 (by omega) (fun a104 la104 ua104 => ?_)
  refine j_iload_n C 4 2 dX4_choice_18 rfl rfl ?_
  refine y_iconst C dX4_choice_19 ?_
  refine y_not C dX4_choice_20 ?_
  refine y_iandL C dX4_choice_21 (by omega) (fun a105 la105 ua105 => ?_)
  refine y_if_ne C 28 dX4_choice_22 (by decide) (by omega) (fun h106 => ?_) (fun h106 => ?_)
  · refine j_iload_n C 4 2 dX4_choice_28 rfl rfl ?_
    refine j_callSi C (d := 0) (As := [.int (sI a2)]) (st := []) (s1_J6_bitCount_0f7a4 hM0 a2 (by omega)) gX4_choice_J6_bitCount_0f7a4 rfl hdJ6_bitCount_0f7a4s (by decide) (Nat.le_of_ble_eq_true rfl) dX4_choice_29 rfl (fun r107 M108 h109 => ?_)
    obtain ⟨a111, rfl, rfl, h110⟩ := h109
    refine j_istore C 6 [(6, .int (sI a111)), (5, .int (sI 0)), (4, .int (sI (-1))), (0, .ref (ad 81)), (1, .int (sI a1)), (2, .int (sI a2)), (3, .int (sI a3))] dX4_choice_32 (by decide) rfl ?_
    refine y_iconst C dX4_choice_34 ?_
    refine j_istore C 7 [(7, .int (sI 0)), (6, .int (sI a111)), (5, .int (sI 0)), (4, .int (sI (-1))), (0, .ref (ad 81)), (1, .int (sI a1)), (2, .int (sI a2)), (3, .int (sI a3))] dX4_choice_35 (by decide) rfl ?_
    have L438 : ∀ (n436 : Nat), ∀ (a439 : Int) (a440 : Int) (a441 : Int) (M442 : mm_M), ((-1) ≤ a439 ∧ a439 ≤ 7 ∧ 0 ≤ a440 ∧ a440 ≤ 2147483647 ∧ 0 ≤ a441 ∧ a441 ≤ 8 ∧ (8 - a441) < (n436 : Int)) → INV pr Kz M442 → jj p l e (cn_R 3) s m args below meth c 0 0 Q 10 dC dI ad cA A M442 37 [(0, .ref (ad 81)), (1, .int (sI a1)), (2, .int (sI a2)), (3, .int (sI a3)), (4, .int (sI a439)), (5, .int (sI a440)), (6, .int (sI a111)), (7, .int (sI a441))] [] := by
      intro n436
      induction n436 with
      | zero =>
        intro a439 a440 a441 M442 h443 hM442
        exfalso; omega
      | succ n436 ih437 =>
        intro a439 a440 a441 M442 h443 hM442
        refine j_iload C 7 dX4_choice_37 rfl ?_
        refine j_aload_n C 0 0 dX4_choice_39 rfl rfl ?_
        refine y_getI C 3 _ _ fX4_choice_29 rfl rfl ft_3_6 sb_3_6 hM442 dX4_choice_40 (fun a444 ea444 la444 ua444 => ?_)
        refine y_icmp_ge C 172 dX4_choice_43 (by decide) (by omega) (fun h446 => ?_) (fun h446 => ?_)
        · refine j_iload C 4 dX4_choice_172 rfl ?_
          exact hret _ _ _ _ dX4_choice_174 ⟨a439, rfl, hM442, by omega⟩
        · refine j_iload_n C 3 3 dX4_choice_46 rfl rfl ?_
          refine j_iload C 7 dX4_choice_47 rfl ?_
          refine y_ishr0 C dX4_choice_49 (fun a447 la447 ua447 => ?_)
          refine y_iconst C dX4_choice_50 ?_
          refine y_iandR C dX4_choice_51 (by omega) (fun a448 la448 ua448 => ?_)
          refine y_if_ne C 166 dX4_choice_52 (by decide) (by omega) (fun h449 => ?_) (fun h449 => ?_)
          · refine y_iinc C 7 [(7, .int (sI (a441 + 1))), (0, .ref (ad 81)), (1, .int (sI a1)), (2, .int (sI a2)), (3, .int (sI a3)), (4, .int (sI a439)), (5, .int (sI a440)), (6, .int (sI a111))] dX4_choice_166 rfl (by decide) rfl ?_
            refine j_goto C 37 dX4_choice_169 (by decide) ?_
            refine j_lv [1, 2, 3, 4, 5, 6, 7, 0] rfl ?_; exact ih437 a439 a440 (a441 + 1) M442 (by omega) hM442
          · refine j_iload C 7 dX4_choice_55 rfl ?_
            refine y_bipush C dX4_choice_57 rfl ?_
            refine y_imul C dX4_choice_59 ?_
            refine j_iload_n C 1 1 dX4_choice_60 rfl rfl ?_
            refine y_bipush C dX4_choice_61 rfl ?_
            refine y_imul C dX4_choice_63 ?_
            refine j_iload C 6 dX4_choice_64 rfl ?_
            refine y_iadd C dX4_choice_66 ?_
            refine y_iconst C dX4_choice_67 ?_
            refine y_imul C dX4_choice_68 ?_
            refine y_iadd C dX4_choice_69 ?_
            refine j_iload_n C 2 2 dX4_choice_70 rfl rfl ?_
            refine j_iload C 7 dX4_choice_71 rfl ?_
            refine y_ishr0 C dX4_choice_73 (fun a450 la450 ua450 => ?_)
            refine y_iconst C dX4_choice_74 ?_
            refine y_iandR C dX4_choice_75 (by omega) (fun a451 la451 ua451 => ?_)
            refine y_iadd C dX4_choice_76 ?_
            refine j_istore C 8 [(8, .int (sI (((a441 * 108) + (((a1 * 9) + a111) * 2)) + a451))), (0, .ref (ad 81)), (1, .int (sI a1)), (2, .int (sI a2)), (3, .int (sI a3)), (4, .int (sI a439)), (5, .int (sI a440)), (6, .int (sI a111)), (7, .int (sI a441))] dX4_choice_77 (by decide) rfl ?_
            refine j_iload C 0 dX4_choice_79 rfl ?_
            have J456 : ∀ (a455 : Int), ((-2147483648) ≤ a455 ∧ a455 ≤ 2147483647 ∧ (¬ a455 = -1 ∨ (0 ≤ (((a441 * 108) + (((a1 * 9) + a111) * 2)) + a451) ∧ (((a441 * 108) + (((a1 * 9) + a111) * 2)) + a451) < 864))) → jj p l e (cn_R 3) s m args below meth c 0 0 Q 10 dC dI ad cA A M442 105 [(0, .ref (ad 81)), (1, .int (sI a1)), (2, .int (sI a2)), (3, .int (sI a3)), (4, .int (sI a439)), (5, .int (sI a440)), (6, .int (sI a111)), (7, .int (sI a441)), (8, .int (sI (((a441 * 108) + (((a1 * 9) + a111) * 2)) + a451)))] [.int (sI a455)] := by
              intro a455 h457
              refine j_istore C 9 [(9, .int (sI a455)), (0, .ref (ad 81)), (1, .int (sI a1)), (2, .int (sI a2)), (3, .int (sI a3)), (4, .int (sI a439)), (5, .int (sI a440)), (6, .int (sI a111)), (7, .int (sI a441)), (8, .int (sI (((a441 * 108) + (((a1 * 9) + a111) * 2)) + a451)))] dX4_choice_105 (by decide) rfl ?_
              refine j_iload C 0 dX4_choice_107 rfl ?_
              refine y_iconst C dX4_choice_109 ?_
              refine y_icmp_ne C 151 dX4_choice_110 (by decide) (by omega) (fun h458 => ?_) (fun h458 => ?_)
              · refine j_iload C 0 dX4_choice_151 rfl ?_
                refine j_iload C 6 dX4_choice_153 rfl ?_
                refine y_icmp_le C 166 dX4_choice_155 (by decide) (by omega) (fun h459 => ?_) (fun h459 => ?_)
                · refine y_iinc C 8 [(7, .int (sI (a441 + 1))), (9, .int (sI a455)), (0, .ref (ad 81)), (1, .int (sI a1)), (2, .int (sI a2)), (3, .int (sI a3)), (4, .int (sI a439)), (5, .int (sI a440)), (6, .int (sI a111)), (8, .int (sI (((a441 * 108) + (((a1 * 9) + a111) * 2)) + a451)))] dX4_choice_166 rfl (by decide) rfl ?_
                  refine j_goto C 37 dX4_choice_169 (by decide) ?_
                  refine j_lv [2, 3, 4, 5, 6, 7, 8, 0] rfl ?_; exact ih437 a439 a440 (a441 + 1) M442 (by omega) hM442
                · refine j_iload C 0 dX4_choice_158 rfl ?_
                  refine j_istore C 5 [(5, .int (sI a455)), (9, .int (sI a455)), (0, .ref (ad 81)), (1, .int (sI a1)), (2, .int (sI a2)), (3, .int (sI a3)), (4, .int (sI a439)), (6, .int (sI a111)), (7, .int (sI a441)), (8, .int (sI (((a441 * 108) + (((a1 * 9) + a111) * 2)) + a451)))] dX4_choice_160 (by decide) rfl ?_
                  refine j_iload C 8 dX4_choice_162 rfl ?_
                  refine j_istore C 4 [(4, .int (sI a441)), (5, .int (sI a455)), (9, .int (sI a455)), (0, .ref (ad 81)), (1, .int (sI a1)), (2, .int (sI a2)), (3, .int (sI a3)), (6, .int (sI a111)), (7, .int (sI a441)), (8, .int (sI (((a441 * 108) + (((a1 * 9) + a111) * 2)) + a451)))] dX4_choice_164 (by decide) rfl ?_
                  refine y_iinc C 8 [(7, .int (sI (a441 + 1))), (4, .int (sI a441)), (5, .int (sI a455)), (9, .int (sI a455)), (0, .ref (ad 81)), (1, .int (sI a1)), (2, .int (sI a2)), (3, .int (sI a3)), (6, .int (sI a111)), (8, .int (sI (((a441 * 108) + (((a1 * 9) + a111) * 2)) + a451)))] dX4_choice_166 rfl (by decide) rfl ?_
                  refine j_goto C 37 dX4_choice_169 (by decide) ?_
                  refine j_lv [4, 5, 6, 7, 1, 2, 8, 0] rfl ?_; exact ih437 a441 a455 (a441 + 1) M442 (by omega) hM442
              · refine j_aload_n C 1 0 dX4_choice_113 rfl rfl ?_
                refine j_iload_n C 2 1 dX4_choice_114 rfl rfl ?_
                refine j_iload C 8 dX4_choice_115 rfl ?_
                refine j_iload_n C 3 2 dX4_choice_117 rfl rfl ?_
                refine j_callVi C (d := 2) (As := [.int (sI a1), .int (sI a441), .int (sI a2)]) (st := []) 81 (s_lt rfl rfl) (s_kc (c := 3) rfl rfl) (by decide) rfl (s1_X4_lets hM442 hpr a1 (by omega) a441 (by omega) a2 (by omega) (by omega) (by omega)) gX4_choice_X4_lets rfl hdX4_lets (by decide) (Nat.le_of_ble_eq_true rfl) dX4_choice_118 rfl (fun r460 M461 h462 => ?_)
                obtain ⟨a464, rfl, hM461, h463⟩ := h462
                have J474 : ∀ (a472 : Int) (M473 : mm_M), (0 ≤ a472 ∧ a472 ≤ 2147483647) → INV pr Kz M473 → jj p l e (cn_R 3) s m args below meth c 0 0 Q 10 dC dI ad cA A M473 140 [(0, .ref (ad 81)), (1, .int (sI a1)), (2, .int (sI a2)), (3, .int (sI a3)), (4, .int (sI a439)), (5, .int (sI a440)), (6, .int (sI a111)), (7, .int (sI a441)), (8, .int (sI (((a441 * 108) + (((a1 * 9) + a111) * 2)) + a451)))] [.int (sI a472)] := by
                  intro a472 M473 h475 hM473
                  refine j_istore C 9 [(9, .int (sI a472)), (0, .ref (ad 81)), (1, .int (sI a1)), (2, .int (sI a2)), (3, .int (sI a3)), (4, .int (sI a439)), (5, .int (sI a440)), (6, .int (sI a111)), (7, .int (sI a441)), (8, .int (sI (((a441 * 108) + (((a1 * 9) + a111) * 2)) + a451)))] dX4_choice_140 (by decide) rfl ?_
                  refine j_aload_n C 1 0 dX4_choice_142 rfl rfl ?_
                  refine y_getC C 3 82 fX4_choice_11 rfl rfl ft_3_0 sm_3_0 rfl hM473 dX4_choice_143 ?_
                  refine j_iload C 9 dX4_choice_146 rfl ?_
                  refine j_iload C 0 dX4_choice_148 rfl ?_
                  refine y_iastF C 33 864 rfl rfl rfl ak_33 an_33 rfl (sb_33 _) hM473 (PX.w hpr rfl rfl) dX4_choice_150 (by omega) (fun M476 eM476 hM476 => ?_)
                  refine j_iload C 0 dX4_choice_151 rfl ?_
                  refine j_iload C 6 dX4_choice_153 rfl ?_
                  refine y_icmp_le C 166 dX4_choice_155 (by decide) (by omega) (fun h477 => ?_) (fun h477 => ?_)
                  · refine y_iinc C 8 [(7, .int (sI (a441 + 1))), (9, .int (sI a472)), (0, .ref (ad 81)), (1, .int (sI a1)), (2, .int (sI a2)), (3, .int (sI a3)), (4, .int (sI a439)), (5, .int (sI a440)), (6, .int (sI a111)), (8, .int (sI (((a441 * 108) + (((a1 * 9) + a111) * 2)) + a451)))] dX4_choice_166 rfl (by decide) rfl ?_
                    refine j_goto C 37 dX4_choice_169 (by decide) ?_
                    refine j_lv [2, 3, 4, 5, 6, 7, 8, 0] rfl ?_; exact ih437 a439 a440 (a441 + 1) M476 (by omega) hM476
                  · refine j_iload C 0 dX4_choice_158 rfl ?_
                    refine j_istore C 5 [(5, .int (sI a472)), (9, .int (sI a472)), (0, .ref (ad 81)), (1, .int (sI a1)), (2, .int (sI a2)), (3, .int (sI a3)), (4, .int (sI a439)), (6, .int (sI a111)), (7, .int (sI a441)), (8, .int (sI (((a441 * 108) + (((a1 * 9) + a111) * 2)) + a451)))] dX4_choice_160 (by decide) rfl ?_
                    refine j_iload C 8 dX4_choice_162 rfl ?_
                    refine j_istore C 4 [(4, .int (sI a441)), (5, .int (sI a472)), (9, .int (sI a472)), (0, .ref (ad 81)), (1, .int (sI a1)), (2, .int (sI a2)), (3, .int (sI a3)), (6, .int (sI a111)), (7, .int (sI a441)), (8, .int (sI (((a441 * 108) + (((a1 * 9) + a111) * 2)) + a451)))] dX4_choice_164 (by decide) rfl ?_
                    refine y_iinc C 8 [(7, .int (sI (a441 + 1))), (4, .int (sI a441)), (5, .int (sI a472)), (9, .int (sI a472)), (0, .ref (ad 81)), (1, .int (sI a1)), (2, .int (sI a2)), (3, .int (sI a3)), (6, .int (sI a111)), (8, .int (sI (((a441 * 108) + (((a1 * 9) + a111) * 2)) + a451)))] dX4_choice_166 rfl (by decide) rfl ?_
                    refine j_goto C 37 dX4_choice_169 (by decide) ?_
                    refine j_lv [4, 5, 6, 7, 1, 2, 8, 0] rfl ?_; exact ih437 a441 a472 (a441 + 1) M476 (by omega) hM476
                refine y_if_eq C 139 dX4_choice_121 (by decide) (by omega) (fun h465 => ?_) (fun h465 => ?_)
                · refine y_iconst C dX4_choice_139 ?_
                  refine j_lv [1, 2, 3, 4, 5, 6, 7, 8, 9] rfl ?_; exact J474 0 M461 (by omega) hM461
                · refine y_iconst C dX4_choice_124 ?_
                  refine j_aload_n C 1 0 dX4_choice_125 rfl rfl ?_
                  refine j_iload_n C 2 1 dX4_choice_126 rfl rfl ?_
                  refine j_iload C 8 dX4_choice_127 rfl ?_
                  refine j_iload_n C 3 2 dX4_choice_129 rfl rfl ?_
                  refine j_callVi C (d := 2) (As := [.int (sI a1), .int (sI a441), .int (sI a2)]) (st := [.int (sI 0)]) 81 (s_lt rfl rfl) (s_kc (c := 3) rfl rfl) (by decide) rfl (s1_X4_wish hM461 hpr a1 (by omega) a441 (by omega) a2 (by omega) (by omega) (by omega)) gX4_choice_X4_wish rfl hdX4_wish (by decide) (Nat.le_of_ble_eq_true rfl) dX4_choice_130 rfl (fun r466 M467 h468 => ?_)
                  obtain ⟨a470, rfl, hM467, h469⟩ := h468
                  refine y_mmax C wX4_choice_62_0 wX4_choice_62_1 wX4_choice_62_2 wX4_choice_62_3 (by decide) (Nat.le_of_ble_eq_true rfl) dX4_choice_133 (by omega) (fun a471 ha471 => ?_)
                  refine j_goto C 140 dX4_choice_136 (by decide) ?_
                  refine j_lv [1, 2, 3, 4, 5, 6, 7, 8, 9] rfl ?_; exact J474 a471 M467 (by omega) hM467
            refine y_if_lt C 104 dX4_choice_81 (by decide) (by omega) (fun h452 => ?_) (fun h452 => ?_)
            · exfalso; omega
            · refine j_iload C 0 dX4_choice_84 rfl ?_
              refine j_aload_n C 1 0 dX4_choice_86 rfl rfl ?_
              refine y_getC C 3 82 fX4_choice_11 rfl rfl ft_3_0 sm_3_0 rfl hM442 dX4_choice_87 ?_
              refine y_alen C 33 864 rfl rfl rfl an_33 rfl rfl dX4_choice_90 ?_
              refine y_icmp_ge C 104 dX4_choice_91 (by decide) (by omega) (fun h453 => ?_) (fun h453 => ?_)
              · refine y_iconst C dX4_choice_104 ?_
                refine j_lv [1, 2, 3, 4, 5, 6, 7, 8, 0] rfl ?_; exact J456 0 (by omega)
              · refine j_aload_n C 1 0 dX4_choice_94 rfl rfl ?_
                refine y_getC C 3 82 fX4_choice_11 rfl rfl ft_3_0 sm_3_0 rfl hM442 dX4_choice_95 ?_
                refine j_iload C 0 dX4_choice_98 rfl ?_
                refine y_iald C 33 864 _ _ rfl rfl rfl ak_33 an_33 rfl (sb_33 _) hM442 dX4_choice_100 (by omega) (fun a454 ea454 la454 ua454 => ?_)
                refine j_goto C 105 dX4_choice_101 (by decide) ?_
                refine j_lv [1, 2, 3, 4, 5, 6, 7, 8, 0] rfl ?_; exact J456 a454 (by omega)
    refine j_lv [4, 5, 6, 7, 3, 2, 1, 0] rfl ?_; exact L438 4294967304 (-1) 0 0 M0 (by omega) hM0
  · refine j_iload C 1 dX4_choice_25 rfl ?_
    exact hret _ _ _ _ dX4_choice_27 ⟨(-1), rfl, hM0, by omega⟩
set_option maxHeartbeats 4000000 in
theorem s1_X11_takersOf {l : Launch} {dC : Nat → ClassId} {dI : Nat → Nat → Nat} {ad : Nat → Nat} {cA : Nat → ClassId} {pr : Nat → Nat → Bool} {Kz : mm_M} {M0 : mm_M} (hM0 : INV pr Kz M0) (hpr : PX pr) (a1 : Int) (ha1 : -2147483648 ≤ a1 ∧ a1 ≤ 2147483647) : Ci l 4 yX11_takersOf wsX11_takersOf dC dI ad cA [.ref (ad 0), .int (sI a1)] M0 (fun r M' => ∃ a : Int, r = sI a ∧ INV pr Kz M' ∧ 0 ≤ a ∧ a ≤ 63) := by
  refine ci_of (cc := cX11_takersOf) (maxL := 4) (ty := .int) (lv := [(0, .ref (ad 0)), (1, .int (sI a1))]) (by decide) rfl (fun r M' hp => rfl) (Nat.le_of_ble_eq_true rfl) rfl ?_
  intro p e s m args below meth c A Q C hret
  refine j_aload_n C 0 0 dX11_takersOf_0 rfl rfl ?_
  refine y_getC C 10 81 fX11_takersOf_76 rfl rfl ft_10_12 sm_10_12 rfl hM0 dX11_takersOf_1 ?_
  refine j_aload_n C 0 0 dX11_takersOf_4 rfl rfl ?_
  refine y_getM C 10 6 fX11_takersOf_26 rfl rfl ft_10_4 sm_10_4 (by decide) hM0 dX11_takersOf_5 (fun v101 ev101 cv101 => ?_)
  refine j_aload_n C 0 0 dX11_takersOf_8 rfl rfl ?_
  refine y_getC C 10 12 fX11_takersOf_36 rfl rfl ft_10_6 sm_10_6 rfl hM0 dX11_takersOf_9 ?_
  refine j_callVv C (d := 0) (As := [.ref (ad v101), .ref (ad 12)]) (st := []) 81 (s_lt rfl rfl) (s_kc (c := 3) rfl rfl) (by decide) rfl (s1_X4_tune hM0 hpr cv101 rfl) gX11_takersOf_X4_tune rfl hdX4_tune (by decide) (Nat.le_of_ble_eq_true rfl) dX11_takersOf_12 rfl (fun M103 h104 => ?_)
  have hM103 := h104
  refine y_iconst C dX11_takersOf_15 ?_
  refine j_istore_n C 2 [(2, .int (sI 0)), (0, .ref (ad 0)), (1, .int (sI a1))] dX11_takersOf_16 rfl (by decide) rfl ?_
  refine y_iconst C dX11_takersOf_17 ?_
  refine j_istore_n C 3 [(3, .int (sI 0)), (2, .int (sI 0)), (0, .ref (ad 0)), (1, .int (sI a1))] dX11_takersOf_18 rfl (by decide) rfl ?_
  have L241 : ∀ (n239 : Nat), ∀ (a242 : Int) (a243 : Int) (M244 : mm_M), (0 ≤ a242 ∧ a242 ≤ 63 ∧ 0 ≤ a243 ∧ a243 ≤ 6 ∧ (6 - a243) < (n239 : Int)) → INV pr Kz M244 → jj p l e (cn_R 4) s m args below meth c 0 0 Q 4 dC dI ad cA A M244 19 [(0, .ref (ad 0)), (1, .int (sI a1)), (2, .int (sI a242)), (3, .int (sI a243))] [] := by
    intro n239
    induction n239 with
    | zero =>
      intro a242 a243 M244 h245 hM244
      exfalso; omega
    | succ n239 ih240 =>
      intro a242 a243 M244 h245 hM244
      refine j_iload_n C 3 3 dX11_takersOf_19 rfl rfl ?_
      refine j_aload_n C 0 0 dX11_takersOf_20 rfl rfl ?_
      refine y_getM C 10 6 fX11_takersOf_26 rfl rfl ft_10_4 sm_10_4 (by decide) hM244 dX11_takersOf_21 (fun v246 ev246 cv246 => ?_)
      refine y_getI C 6 _ _ fX11_takersOf_163 cv246 rfl ft_6_0 sb_6_0 hM244 dX11_takersOf_24 (fun a247 ea247 la247 ua247 => ?_)
      refine y_icmp_ge C 68 dX11_takersOf_27 (by decide) (by omega) (fun h249 => ?_) (fun h249 => ?_)
      · refine j_iload_n C 2 2 dX11_takersOf_68 rfl rfl ?_
        exact hret _ _ _ _ dX11_takersOf_69 ⟨a242, rfl, hM244, by omega⟩
      · refine j_aload_n C 0 0 dX11_takersOf_30 rfl rfl ?_
        refine y_getC C 10 81 fX11_takersOf_76 rfl rfl ft_10_12 sm_10_12 rfl hM244 dX11_takersOf_31 ?_
        refine j_iload_n C 3 3 dX11_takersOf_34 rfl rfl ?_
        refine j_aload_n C 0 0 dX11_takersOf_35 rfl rfl ?_
        refine y_getC C 10 12 fX11_takersOf_36 rfl rfl ft_10_6 sm_10_6 rfl hM244 dX11_takersOf_36 ?_
        refine y_getI C 8 _ _ fX11_takersOf_150 rfl rfl ft_8_3 sb_8_3 hM244 dX11_takersOf_39 (fun a250 ea250 la250 ua250 => ?_)
        refine j_aload_n C 0 0 dX11_takersOf_42 rfl rfl ?_
        refine y_getC C 10 12 fX11_takersOf_36 rfl rfl ft_10_6 sm_10_6 rfl hM244 dX11_takersOf_43 ?_
        refine y_getI C 8 _ _ fX11_takersOf_153 rfl rfl ft_8_4 sb_8_4 hM244 dX11_takersOf_46 (fun a252 ea252 la252 ua252 => ?_)
        refine j_callVi C (d := 3) (As := [.int (sI a243), .int (sI a250), .int (sI a252)]) (st := []) 81 (s_lt rfl rfl) (s_kc (c := 3) rfl rfl) (by decide) rfl (s1_X4_choice hM244 hpr a243 (by omega) a250 (by omega) a252 (by omega) (by omega)) gX11_takersOf_X4_choice rfl hdX4_choice (by decide) (Nat.le_of_ble_eq_true rfl) dX11_takersOf_49 rfl (fun r254 M255 h256 => ?_)
        obtain ⟨a258, rfl, hM255, h257⟩ := h256
        refine j_iload_n C 1 1 dX11_takersOf_52 rfl rfl ?_
        refine y_icmp_ne C 62 dX11_takersOf_53 (by decide) (by omega) (fun h259 => ?_) (fun h259 => ?_)
        · refine y_iinc C 3 [(3, .int (sI (a243 + 1))), (0, .ref (ad 0)), (1, .int (sI a1)), (2, .int (sI a242))] dX11_takersOf_62 rfl (by decide) rfl ?_
          refine j_goto C 19 dX11_takersOf_65 (by decide) ?_
          refine j_lv [1, 2, 3, 0] rfl ?_; exact ih240 a242 (a243 + 1) M255 (by omega) hM255
        · refine j_iload_n C 2 2 dX11_takersOf_56 rfl rfl ?_
          refine y_iconst C dX11_takersOf_57 ?_
          refine j_iload_n C 3 3 dX11_takersOf_58 rfl rfl ?_
          refine y_shl1 C 5 32 dX11_takersOf_59 rfl (by decide) (by omega) (fun a260 la260 ua260 => ?_)
          refine y_iorN C 6 63 dX11_takersOf_60 rfl (by decide) (by omega) (fun a261 la261 ua261 => ?_)
          refine j_istore_n C 2 [(2, .int (sI a261)), (0, .ref (ad 0)), (1, .int (sI a1)), (3, .int (sI a243))] dX11_takersOf_61 rfl (by decide) rfl ?_
          refine y_iinc C 3 [(3, .int (sI (a243 + 1))), (2, .int (sI a261)), (0, .ref (ad 0)), (1, .int (sI a1))] dX11_takersOf_62 rfl (by decide) rfl ?_
          refine j_goto C 19 dX11_takersOf_65 (by decide) ?_
          refine j_lv [2, 3, 1, 0] rfl ?_; exact ih240 a261 (a243 + 1) M255 (by omega) hM255
  refine j_lv [2, 3, 1, 0] rfl ?_; exact L241 2010 0 0 M103 (by omega) hM103
set_option maxHeartbeats 4000000 in
theorem s1_X11_kind {l : Launch} {dC : Nat → ClassId} {dI : Nat → Nat → Nat} {ad : Nat → Nat} {cA : Nat → ClassId} {pr : Nat → Nat → Bool} {Kz : mm_M} {M0 : mm_M} (hM0 : INV pr Kz M0) (hpr : PX pr) (a1 : Int) (ha1 : -2147483648 ≤ a1 ∧ a1 ≤ 2147483647) (a2 : Int) (ha2 : -2147483648 ≤ a2 ∧ a2 ≤ 2147483647) : Ci l 5 yX11_kind wsX11_kind dC dI ad cA [.ref (ad 0), .int (sI a1), .int (sI a2)] M0 (fun r M' => ∃ a : Int, r = sI a ∧ INV pr Kz M' ∧ (-2147483648) ≤ a ∧ a ≤ 2147483647) := by
  refine ci_of (cc := cX11_kind) (maxL := 3) (ty := .int) (lv := [(0, .ref (ad 0)), (1, .int (sI a1)), (2, .int (sI a2))]) (by decide) rfl (fun r M' hp => rfl) (Nat.le_of_ble_eq_true rfl) rfl ?_
  intro p e s m args below meth c A Q C hret
  refine j_aload_n C 0 0 dX11_kind_0 rfl rfl ?_
  refine j_iload_n C 1 1 dX11_kind_1 rfl rfl ?_
  refine j_callVi C (d := 0) (As := [.int (sI a1)]) (st := []) 0 (s_lt rfl rfl) (s_kc (c := 10) rfl rfl) (by decide) rfl (s1_X11_isKind hM0 a1 (by omega)) gX11_kind_X11_isKind rfl hdX11_isKind (by decide) (Nat.le_of_ble_eq_true rfl) dX11_kind_2 rfl (fun r101 M102 h103 => ?_)
  obtain ⟨a105, rfl, rfl, h104⟩ := h103
  refine y_if_ne C 11 dX11_kind_5 (by decide) (by omega) (fun h106 => ?_) (fun h106 => ?_)
  · refine j_iload_n C 2 2 dX11_kind_11 rfl rfl ?_
    rcases (show (a2 < 0 ∨ 4 < a2) ∨ a2 = 0 ∨ a2 = 1 ∨ a2 = 2 ∨ a2 = 3 ∨ a2 = 4 by omega) with h107 | h107 | h107 | h107 | h107 | h107
    · refine y_tabO C 98 dX11_kind_12 (by decide) (by omega) ?_
      refine y_bipush C dX11_kind_98 rfl ?_
      exact hret _ _ _ _ dX11_kind_100 ⟨(-2), rfl, hM0, by omega⟩
    · refine y_tabI C (off := 36) 48 0 dX11_kind_12 (by decide) rfl (by decide) h107 ?_
      refine j_aload_n C 0 0 dX11_kind_48 rfl rfl ?_
      refine y_getC C 10 12 fX11_kind_36 rfl rfl ft_10_6 sm_10_6 rfl hM0 dX11_kind_49 ?_
      refine y_getC C 8 13 fX11_kind_144 rfl rfl ft_8_1 sm_8_1 rfl hM0 dX11_kind_52 ?_
      refine j_iload_n C 1 1 dX11_kind_55 rfl rfl ?_
      refine y_iald C 25 8 _ _ rfl rfl rfl ak_25 an_25 rfl (sb_25 _) hM0 dX11_kind_56 (by omega) (fun a108 ea108 la108 ua108 => ?_)
      exact hret _ _ _ _ dX11_kind_57 ⟨a108, rfl, hM0, by omega⟩
    · refine y_tabI C (off := 46) 58 1 dX11_kind_12 (by decide) rfl (by decide) h107 ?_
      refine j_aload_n C 0 0 dX11_kind_58 rfl rfl ?_
      refine y_getC C 10 12 fX11_kind_36 rfl rfl ft_10_6 sm_10_6 rfl hM0 dX11_kind_59 ?_
      refine y_getC C 8 14 fX11_kind_147 rfl rfl ft_8_2 sm_8_2 rfl hM0 dX11_kind_62 ?_
      refine j_iload_n C 1 1 dX11_kind_65 rfl rfl ?_
      refine y_iald C 26 8 _ _ rfl rfl rfl ak_26 an_26 rfl (sb_26 _) hM0 dX11_kind_66 (by omega) (fun a109 ea109 la109 ua109 => ?_)
      exact hret _ _ _ _ dX11_kind_67 ⟨a109, rfl, hM0, by omega⟩
    · refine y_tabI C (off := 56) 68 2 dX11_kind_12 (by decide) rfl (by decide) h107 ?_
      refine j_aload_n C 0 0 dX11_kind_68 rfl rfl ?_
      refine y_getC C 10 12 fX11_kind_36 rfl rfl ft_10_6 sm_10_6 rfl hM0 dX11_kind_69 ?_
      refine y_getI C 8 _ _ fX11_kind_150 rfl rfl ft_8_3 sb_8_3 hM0 dX11_kind_72 (fun a110 ea110 la110 ua110 => ?_)
      refine j_iload_n C 1 1 dX11_kind_75 rfl rfl ?_
      refine y_ishrP C dX11_kind_76 (by omega) (fun a112 la112 ua112 => ?_)
      refine y_iconst C dX11_kind_77 ?_
      refine y_iandR C dX11_kind_78 (by omega) (fun a113 la113 ua113 => ?_)
      exact hret _ _ _ _ dX11_kind_79 ⟨a113, rfl, hM0, by omega⟩
    · refine y_tabI C (off := 68) 80 3 dX11_kind_12 (by decide) rfl (by decide) h107 ?_
      refine j_aload_n C 0 0 dX11_kind_80 rfl rfl ?_
      refine y_getC C 10 12 fX11_kind_36 rfl rfl ft_10_6 sm_10_6 rfl hM0 dX11_kind_81 ?_
      refine y_getI C 8 _ _ fX11_kind_153 rfl rfl ft_8_4 sb_8_4 hM0 dX11_kind_84 (fun a114 ea114 la114 ua114 => ?_)
      refine j_iload_n C 1 1 dX11_kind_87 rfl rfl ?_
      refine y_ishrP C dX11_kind_88 (by omega) (fun a116 la116 ua116 => ?_)
      refine y_iconst C dX11_kind_89 ?_
      refine y_iandR C dX11_kind_90 (by omega) (fun a117 la117 ua117 => ?_)
      exact hret _ _ _ _ dX11_kind_91 ⟨a117, rfl, hM0, by omega⟩
    · refine y_tabI C (off := 80) 92 4 dX11_kind_12 (by decide) rfl (by decide) h107 ?_
      refine j_aload_n C 0 0 dX11_kind_92 rfl rfl ?_
      refine j_iload_n C 1 1 dX11_kind_93 rfl rfl ?_
      refine j_callVi C (d := 4) (As := [.int (sI a1)]) (st := []) 0 (s_lt rfl rfl) (s_kc (c := 10) rfl rfl) (by decide) rfl (s1_X11_takersOf hM0 hpr a1 (by omega)) gX11_kind_X11_takersOf rfl hdX11_takersOf (by decide) (Nat.le_of_ble_eq_true rfl) dX11_kind_94 rfl (fun r118 M119 h120 => ?_)
      obtain ⟨a122, rfl, hM119, h121⟩ := h120
      exact hret _ _ _ _ dX11_kind_97 ⟨a122, rfl, hM119, by omega⟩
  · refine y_bipush C dX11_kind_8 rfl ?_
    exact hret _ _ _ _ dX11_kind_10 ⟨(-2), rfl, hM0, by omega⟩
set_option maxHeartbeats 4000000 in
theorem s1_X11_isBuyer {l : Launch} {dC : Nat → ClassId} {dI : Nat → Nat → Nat} {ad : Nat → Nat} {cA : Nat → ClassId} {pr : Nat → Nat → Bool} {Kz : mm_M} {M0 : mm_M} (hM0 : INV pr Kz M0) (a1 : Int) (ha1 : -2147483648 ≤ a1 ∧ a1 ≤ 2147483647) : Ci l 0 yX11_isBuyer wsX11_isBuyer dC dI ad cA [.ref (ad 0), .int (sI a1)] M0 (fun r M' => ∃ a : Int, r = sI a ∧ M0 = M' ∧ 0 ≤ a ∧ a ≤ 1 ∧ ((a1 < 0 ∧ a = 0) ∨ (0 ≤ a1 ∧ 0 ≤ a1 ∧ a = 0) ∨ (0 ≤ a1 ∧ a1 < 6 ∧ a = 1))) := by
  refine ci_of (cc := cX11_isBuyer) (maxL := 2) (ty := .boolean) (lv := [(0, .ref (ad 0)), (1, .int (sI a1))]) (by decide) rfl (fun r M' hp => by obtain ⟨a, rfl, -, h⟩ := hp; rcases (show a = 0 ∨ a = 1 by omega) with rfl | rfl <;> rfl) (Nat.le_of_ble_eq_true rfl) rfl ?_
  intro p e s m args below meth c A Q C hret
  refine j_iload_n C 1 1 dX11_isBuyer_0 rfl rfl ?_
  refine y_if_lt C 19 dX11_isBuyer_1 (by decide) (by omega) (fun h101 => ?_) (fun h101 => ?_)
  · refine y_iconst C dX11_isBuyer_19 ?_
    exact hret _ _ _ _ dX11_isBuyer_20 ⟨0, rfl, rfl, by omega⟩
  · refine j_iload_n C 1 1 dX11_isBuyer_4 rfl rfl ?_
    refine j_aload_n C 0 0 dX11_isBuyer_5 rfl rfl ?_
    refine y_getM C 10 6 fX11_isBuyer_26 rfl rfl ft_10_4 sm_10_4 (by decide) hM0 dX11_isBuyer_6 (fun v102 ev102 cv102 => ?_)
    refine y_getI C 6 _ _ fX11_isBuyer_163 cv102 rfl ft_6_0 sb_6_0 hM0 dX11_isBuyer_9 (fun a103 ea103 la103 ua103 => ?_)
    refine y_icmp_ge C 19 dX11_isBuyer_12 (by decide) (by omega) (fun h105 => ?_) (fun h105 => ?_)
    · refine y_iconst C dX11_isBuyer_19 ?_
      exact hret _ _ _ _ dX11_isBuyer_20 ⟨0, rfl, rfl, by omega⟩
    · refine y_iconst C dX11_isBuyer_15 ?_
      refine j_goto C 20 dX11_isBuyer_16 (by decide) ?_
      exact hret _ _ _ _ dX11_isBuyer_20 ⟨1, rfl, rfl, by omega⟩
set_option maxHeartbeats 4000000 in
theorem s1_X4_allowed {l : Launch} {dC : Nat → ClassId} {dI : Nat → Nat → Nat} {ad : Nat → Nat} {cA : Nat → ClassId} {pr : Nat → Nat → Bool} {Kz : mm_M} {M0 : mm_M} (hM0 : INV pr Kz M0) (hpr : PX pr) (a1 : Int) (ha1 : -2147483648 ≤ a1 ∧ a1 ≤ 2147483647) (a2 : Int) (ha2 : -2147483648 ≤ a2 ∧ a2 ≤ 2147483647) (a3 : Int) (ha3 : -2147483648 ≤ a3 ∧ a3 ≤ 2147483647) (hp0 : 0 ≤ a1 ∧ a1 ≤ 5) : Ci l 3 yX4_allowed wsX4_allowed dC dI ad cA [.ref (ad 81), .int (sI a1), .int (sI a2), .int (sI a3)] M0 (fun r M' => ∃ a : Int, r = sI a ∧ INV pr Kz M' ∧ 0 ≤ a ∧ a ≤ 255) := by
  refine ci_of (cc := cX4_allowed) (maxL := 6) (ty := .int) (lv := [(0, .ref (ad 81)), (1, .int (sI a1)), (2, .int (sI a2)), (3, .int (sI a3))]) (by decide) rfl (fun r M' hp => rfl) (Nat.le_of_ble_eq_true rfl) rfl ?_
  intro p e s m args below meth c A Q C hret
  refine y_iconst C dX4_allowed_0 ?_
  refine j_istore C 4 [(4, .int (sI 0)), (0, .ref (ad 81)), (1, .int (sI a1)), (2, .int (sI a2)), (3, .int (sI a3))] dX4_allowed_1 (by decide) rfl ?_
  refine y_iconst C dX4_allowed_3 ?_
  refine j_istore C 5 [(5, .int (sI 0)), (4, .int (sI 0)), (0, .ref (ad 81)), (1, .int (sI a1)), (2, .int (sI a2)), (3, .int (sI a3))] dX4_allowed_4 (by decide) rfl ?_
  have L256 : ∀ (n254 : Nat), ∀ (a257 : Int) (a258 : Int) (M259 : mm_M), (0 ≤ a257 ∧ a257 ≤ 255 ∧ 0 ≤ a258 ∧ a258 ≤ 8 ∧ (8 - a258) < (n254 : Int)) → INV pr Kz M259 → jj p l e (cn_R 3) s m args below meth c 0 0 Q 6 dC dI ad cA A M259 6 [(0, .ref (ad 81)), (1, .int (sI a1)), (2, .int (sI a2)), (3, .int (sI a3)), (4, .int (sI a257)), (5, .int (sI a258))] [] := by
    intro n254
    induction n254 with
    | zero =>
      intro a257 a258 M259 h260 hM259
      exfalso; omega
    | succ n254 ih255 =>
      intro a257 a258 M259 h260 hM259
      refine j_iload C 5 dX4_allowed_6 rfl ?_
      refine j_aload_n C 0 0 dX4_allowed_8 rfl rfl ?_
      refine y_getI C 3 _ _ fX4_allowed_29 rfl rfl ft_3_6 sb_3_6 hM259 dX4_allowed_9 (fun a261 ea261 la261 ua261 => ?_)
      refine y_icmp_ge C 50 dX4_allowed_12 (by decide) (by omega) (fun h263 => ?_) (fun h263 => ?_)
      · refine j_iload C 4 dX4_allowed_50 rfl ?_
        exact hret _ _ _ _ dX4_allowed_52 ⟨a257, rfl, hM259, by omega⟩
      · refine j_iload_n C 3 3 dX4_allowed_15 rfl rfl ?_
        refine j_iload C 5 dX4_allowed_16 rfl ?_
        refine y_ishr0 C dX4_allowed_18 (fun a264 la264 ua264 => ?_)
        refine y_iconst C dX4_allowed_19 ?_
        refine y_iandR C dX4_allowed_20 (by omega) (fun a265 la265 ua265 => ?_)
        refine y_if_ne C 44 dX4_allowed_21 (by decide) (by omega) (fun h266 => ?_) (fun h266 => ?_)
        · refine y_iinc C 5 [(5, .int (sI (a258 + 1))), (0, .ref (ad 81)), (1, .int (sI a1)), (2, .int (sI a2)), (3, .int (sI a3)), (4, .int (sI a257))] dX4_allowed_44 rfl (by decide) rfl ?_
          refine j_goto C 6 dX4_allowed_47 (by decide) ?_
          refine j_lv [1, 2, 3, 4, 5, 0] rfl ?_; exact ih255 a257 (a258 + 1) M259 (by omega) hM259
        · refine j_aload_n C 0 0 dX4_allowed_24 rfl rfl ?_
          refine j_iload_n C 1 1 dX4_allowed_25 rfl rfl ?_
          refine j_iload C 5 dX4_allowed_26 rfl ?_
          refine j_iload_n C 2 2 dX4_allowed_28 rfl rfl ?_
          refine j_callVi C (d := 2) (As := [.int (sI a1), .int (sI a258), .int (sI a2)]) (st := []) 81 (s_lt rfl rfl) (s_kc (c := 3) rfl rfl) (by decide) rfl (s1_X4_lets hM259 hpr a1 (by omega) a258 (by omega) a2 (by omega) (by omega) (by omega)) gX4_allowed_X4_lets rfl hdX4_lets (by decide) (Nat.le_of_ble_eq_true rfl) dX4_allowed_29 rfl (fun r267 M268 h269 => ?_)
          obtain ⟨a271, rfl, hM268, h270⟩ := h269
          refine y_if_eq C 44 dX4_allowed_32 (by decide) (by omega) (fun h272 => ?_) (fun h272 => ?_)
          · refine y_iinc C 5 [(5, .int (sI (a258 + 1))), (0, .ref (ad 81)), (1, .int (sI a1)), (2, .int (sI a2)), (3, .int (sI a3)), (4, .int (sI a257))] dX4_allowed_44 rfl (by decide) rfl ?_
            refine j_goto C 6 dX4_allowed_47 (by decide) ?_
            refine j_lv [1, 2, 3, 4, 5, 0] rfl ?_; exact ih255 a257 (a258 + 1) M268 (by omega) hM268
          · refine j_iload C 4 dX4_allowed_35 rfl ?_
            refine y_iconst C dX4_allowed_37 ?_
            refine j_iload C 5 dX4_allowed_38 rfl ?_
            refine y_shl1 C 7 128 dX4_allowed_40 rfl (by decide) (by omega) (fun a273 la273 ua273 => ?_)
            refine y_iorN C 8 255 dX4_allowed_41 rfl (by decide) (by omega) (fun a274 la274 ua274 => ?_)
            refine j_istore C 4 [(4, .int (sI a274)), (0, .ref (ad 81)), (1, .int (sI a1)), (2, .int (sI a2)), (3, .int (sI a3)), (5, .int (sI a258))] dX4_allowed_42 (by decide) rfl ?_
            refine y_iinc C 5 [(5, .int (sI (a258 + 1))), (4, .int (sI a274)), (0, .ref (ad 81)), (1, .int (sI a1)), (2, .int (sI a2)), (3, .int (sI a3))] dX4_allowed_44 rfl (by decide) rfl ?_
            refine j_goto C 6 dX4_allowed_47 (by decide) ?_
            refine j_lv [2, 3, 4, 5, 1, 0] rfl ?_; exact ih255 a274 (a258 + 1) M268 (by omega) hM268
  refine j_lv [2, 3, 4, 5, 1, 0] rfl ?_; exact L256 2010 0 0 M0 (by omega) hM0
set_option maxHeartbeats 4000000 in
theorem s1_X11_buyer {l : Launch} {dC : Nat → ClassId} {dI : Nat → Nat → Nat} {ad : Nat → Nat} {cA : Nat → ClassId} {pr : Nat → Nat → Bool} {Kz : mm_M} {M0 : mm_M} (hM0 : INV pr Kz M0) (hpr : PX pr) (a1 : Int) (ha1 : -2147483648 ≤ a1 ∧ a1 ≤ 2147483647) (a2 : Int) (ha2 : -2147483648 ≤ a2 ∧ a2 ≤ 2147483647) : Ci l 4 yX11_buyer wsX11_buyer dC dI ad cA [.ref (ad 0), .int (sI a1), .int (sI a2)] M0 (fun r M' => ∃ a : Int, r = sI a ∧ INV pr Kz M' ∧ (-2147483648) ≤ a ∧ a ≤ 2147483647) := by
  refine ci_of (cc := cX11_buyer) (maxL := 3) (ty := .int) (lv := [(0, .ref (ad 0)), (1, .int (sI a1)), (2, .int (sI a2))]) (by decide) rfl (fun r M' hp => rfl) (Nat.le_of_ble_eq_true rfl) rfl ?_
  intro p e s m args below meth c A Q C hret
  refine j_aload_n C 0 0 dX11_buyer_0 rfl rfl ?_
  refine j_iload_n C 1 1 dX11_buyer_1 rfl rfl ?_
  refine j_callVi C (d := 0) (As := [.int (sI a1)]) (st := []) 0 (s_lt rfl rfl) (s_kc (c := 10) rfl rfl) (by decide) rfl (s1_X11_isBuyer hM0 a1 (by omega)) gX11_buyer_X11_isBuyer rfl hdX11_isBuyer (by decide) (Nat.le_of_ble_eq_true rfl) dX11_buyer_2 rfl (fun r101 M102 h103 => ?_)
  obtain ⟨a105, rfl, rfl, h104⟩ := h103
  refine y_if_ne C 11 dX11_buyer_5 (by decide) (by omega) (fun h106 => ?_) (fun h106 => ?_)
  · refine j_aload_n C 0 0 dX11_buyer_11 rfl rfl ?_
    refine y_getC C 10 81 fX11_buyer_76 rfl rfl ft_10_12 sm_10_12 rfl hM0 dX11_buyer_12 ?_
    refine j_aload_n C 0 0 dX11_buyer_15 rfl rfl ?_
    refine y_getM C 10 6 fX11_buyer_26 rfl rfl ft_10_4 sm_10_4 (by decide) hM0 dX11_buyer_16 (fun v107 ev107 cv107 => ?_)
    refine j_aload_n C 0 0 dX11_buyer_19 rfl rfl ?_
    refine y_getC C 10 12 fX11_buyer_36 rfl rfl ft_10_6 sm_10_6 rfl hM0 dX11_buyer_20 ?_
    refine j_callVv C (d := 0) (As := [.ref (ad v107), .ref (ad 12)]) (st := []) 81 (s_lt rfl rfl) (s_kc (c := 3) rfl rfl) (by decide) rfl (s1_X4_tune hM0 hpr cv107 rfl) gX11_buyer_X4_tune rfl hdX4_tune (by decide) (Nat.le_of_ble_eq_true rfl) dX11_buyer_23 rfl (fun M109 h110 => ?_)
    have hM109 := h110
    refine j_iload_n C 2 2 dX11_buyer_26 rfl rfl ?_
    rcases (show (a2 < 0 ∨ 4 < a2) ∨ a2 = 0 ∨ a2 = 1 ∨ a2 = 2 ∨ a2 = 3 ∨ a2 = 4 by omega) with h112 | h112 | h112 | h112 | h112 | h112
    · refine y_tabO C 136 dX11_buyer_27 (by decide) (by omega) ?_
      refine y_bipush C dX11_buyer_136 rfl ?_
      exact hret _ _ _ _ dX11_buyer_138 ⟨(-2), rfl, hM109, by omega⟩
    · refine y_tabI C (off := 33) 60 0 dX11_buyer_27 (by decide) rfl (by decide) h112 ?_
      refine j_aload_n C 0 0 dX11_buyer_60 rfl rfl ?_
      refine y_getM C 10 6 fX11_buyer_26 rfl rfl ft_10_4 sm_10_4 (by decide) hM109 dX11_buyer_61 (fun v113 ev113 cv113 => ?_)
      refine y_getT C 6 21 fX11_buyer_176 cv113 rfl ft_6_2 rfl sm_6_2 st_6_2 (by decide) hM109 dX11_buyer_64 (fun v114 cv114 => ?_)
      refine j_iload_n C 1 1 dX11_buyer_67 rfl rfl ?_
      refine y_iald C 21 6 _ _ cv114 rfl rfl ak_21 an_21 rfl (sb_21 _) hM109 dX11_buyer_68 (by omega) (fun a115 ea115 la115 ua115 => ?_)
      exact hret _ _ _ _ dX11_buyer_69 ⟨a115, rfl, hM109, by omega⟩
    · refine y_tabI C (off := 43) 70 1 dX11_buyer_27 (by decide) rfl (by decide) h112 ?_
      refine j_aload_n C 0 0 dX11_buyer_70 rfl rfl ?_
      refine y_getM C 10 6 fX11_buyer_26 rfl rfl ft_10_4 sm_10_4 (by decide) hM109 dX11_buyer_71 (fun v116 ev116 cv116 => ?_)
      refine y_getT C 6 22 fX11_buyer_179 cv116 rfl ft_6_3 rfl sm_6_3 st_6_3 (by decide) hM109 dX11_buyer_74 (fun v117 cv117 => ?_)
      refine j_iload_n C 1 1 dX11_buyer_77 rfl rfl ?_
      refine y_iald C 22 6 _ _ cv117 rfl rfl ak_22 an_22 rfl (sb_22 _) hM109 dX11_buyer_78 (by omega) (fun a118 ea118 la118 ua118 => ?_)
      exact hret _ _ _ _ dX11_buyer_79 ⟨a118, rfl, hM109, by omega⟩
    · refine y_tabI C (off := 53) 80 2 dX11_buyer_27 (by decide) rfl (by decide) h112 ?_
      refine j_aload_n C 0 0 dX11_buyer_80 rfl rfl ?_
      refine y_getM C 10 6 fX11_buyer_26 rfl rfl ft_10_4 sm_10_4 (by decide) hM109 dX11_buyer_81 (fun v119 ev119 cv119 => ?_)
      refine y_getT C 6 23 fX11_buyer_182 cv119 rfl ft_6_4 rfl sm_6_4 st_6_4 (by decide) hM109 dX11_buyer_84 (fun v120 cv120 => ?_)
      refine j_iload_n C 1 1 dX11_buyer_87 rfl rfl ?_
      refine y_iald C 23 6 _ _ cv120 rfl rfl ak_23 an_23 rfl (sb_23 _) hM109 dX11_buyer_88 (by omega) (fun a121 ea121 la121 ua121 => ?_)
      exact hret _ _ _ _ dX11_buyer_89 ⟨a121, rfl, hM109, by omega⟩
    · refine y_tabI C (off := 63) 90 3 dX11_buyer_27 (by decide) rfl (by decide) h112 ?_
      refine j_aload_n C 0 0 dX11_buyer_90 rfl rfl ?_
      refine y_getC C 10 81 fX11_buyer_76 rfl rfl ft_10_12 sm_10_12 rfl hM109 dX11_buyer_91 ?_
      refine j_iload_n C 1 1 dX11_buyer_94 rfl rfl ?_
      refine j_aload_n C 0 0 dX11_buyer_95 rfl rfl ?_
      refine y_getC C 10 12 fX11_buyer_36 rfl rfl ft_10_6 sm_10_6 rfl hM109 dX11_buyer_96 ?_
      refine y_getI C 8 _ _ fX11_buyer_150 rfl rfl ft_8_3 sb_8_3 hM109 dX11_buyer_99 (fun a122 ea122 la122 ua122 => ?_)
      refine j_aload_n C 0 0 dX11_buyer_102 rfl rfl ?_
      refine y_getC C 10 12 fX11_buyer_36 rfl rfl ft_10_6 sm_10_6 rfl hM109 dX11_buyer_103 ?_
      refine y_getI C 8 _ _ fX11_buyer_153 rfl rfl ft_8_4 sb_8_4 hM109 dX11_buyer_106 (fun a124 ea124 la124 ua124 => ?_)
      refine j_callVi C (d := 3) (As := [.int (sI a1), .int (sI a122), .int (sI a124)]) (st := []) 81 (s_lt rfl rfl) (s_kc (c := 3) rfl rfl) (by decide) rfl (s1_X4_allowed hM109 hpr a1 (by omega) a122 (by omega) a124 (by omega) (by omega)) gX11_buyer_X4_allowed rfl hdX4_allowed (by decide) (Nat.le_of_ble_eq_true rfl) dX11_buyer_109 rfl (fun r126 M127 h128 => ?_)
      obtain ⟨a130, rfl, hM127, h129⟩ := h128
      exact hret _ _ _ _ dX11_buyer_112 ⟨a130, rfl, hM127, by omega⟩
    · refine y_tabI C (off := 86) 113 4 dX11_buyer_27 (by decide) rfl (by decide) h112 ?_
      refine j_aload_n C 0 0 dX11_buyer_113 rfl rfl ?_
      refine y_getC C 10 81 fX11_buyer_76 rfl rfl ft_10_12 sm_10_12 rfl hM109 dX11_buyer_114 ?_
      refine j_iload_n C 1 1 dX11_buyer_117 rfl rfl ?_
      refine j_aload_n C 0 0 dX11_buyer_118 rfl rfl ?_
      refine y_getC C 10 12 fX11_buyer_36 rfl rfl ft_10_6 sm_10_6 rfl hM109 dX11_buyer_119 ?_
      refine y_getI C 8 _ _ fX11_buyer_150 rfl rfl ft_8_3 sb_8_3 hM109 dX11_buyer_122 (fun a131 ea131 la131 ua131 => ?_)
      refine j_aload_n C 0 0 dX11_buyer_125 rfl rfl ?_
      refine y_getC C 10 12 fX11_buyer_36 rfl rfl ft_10_6 sm_10_6 rfl hM109 dX11_buyer_126 ?_
      refine y_getI C 8 _ _ fX11_buyer_153 rfl rfl ft_8_4 sb_8_4 hM109 dX11_buyer_129 (fun a133 ea133 la133 ua133 => ?_)
      refine j_callVi C (d := 3) (As := [.int (sI a1), .int (sI a131), .int (sI a133)]) (st := []) 81 (s_lt rfl rfl) (s_kc (c := 3) rfl rfl) (by decide) rfl (s1_X4_choice hM109 hpr a1 (by omega) a131 (by omega) a133 (by omega) (by omega)) gX11_buyer_X4_choice rfl hdX4_choice (by decide) (Nat.le_of_ble_eq_true rfl) dX11_buyer_132 rfl (fun r135 M136 h137 => ?_)
      obtain ⟨a139, rfl, hM136, h138⟩ := h137
      exact hret _ _ _ _ dX11_buyer_135 ⟨a139, rfl, hM136, by omega⟩
  · refine y_bipush C dX11_buyer_8 rfl ?_
    exact hret _ _ _ _ dX11_buyer_10 ⟨(-2), rfl, hM0, by omega⟩
set_option maxHeartbeats 4000000 in
theorem s1_X11_wants {l : Launch} {dC : Nat → ClassId} {dI : Nat → Nat → Nat} {ad : Nat → Nat} {cA : Nat → ClassId} {pr : Nat → Nat → Bool} {Kz : mm_M} {M0 : mm_M} (hM0 : INV pr Kz M0) (hpr : PX pr) (a1 : Int) (ha1 : -2147483648 ≤ a1 ∧ a1 ≤ 2147483647) (a2 : Int) (ha2 : -2147483648 ≤ a2 ∧ a2 ≤ 2147483647) : Ci l 3 yX11_wants wsX11_wants dC dI ad cA [.ref (ad 0), .int (sI a1), .int (sI a2)] M0 (fun r M' => ∃ a : Int, r = sI a ∧ INV pr Kz M' ∧ (-2147483648) ≤ a ∧ a ≤ 2147483647) := by
  refine ci_of (cc := cX11_wants) (maxL := 3) (ty := .int) (lv := [(0, .ref (ad 0)), (1, .int (sI a1)), (2, .int (sI a2))]) (by decide) rfl (fun r M' hp => rfl) (Nat.le_of_ble_eq_true rfl) rfl ?_
  intro p e s m args below meth c A Q C hret
  refine j_aload_n C 0 0 dX11_wants_0 rfl rfl ?_
  refine j_iload_n C 1 1 dX11_wants_1 rfl rfl ?_
  refine j_callVi C (d := 0) (As := [.int (sI a1)]) (st := []) 0 (s_lt rfl rfl) (s_kc (c := 10) rfl rfl) (by decide) rfl (s1_X11_isBuyer hM0 a1 (by omega)) gX11_wants_X11_isBuyer rfl hdX11_isBuyer (by decide) (Nat.le_of_ble_eq_true rfl) dX11_wants_2 rfl (fun r101 M102 h103 => ?_)
  obtain ⟨a105, rfl, rfl, h104⟩ := h103
  refine y_if_eq C 16 dX11_wants_5 (by decide) (by omega) (fun h106 => ?_) (fun h106 => ?_)
  · refine y_ldc C (-99000002) dX11_wants_16 kX11_wants_188 rfl ?_
    exact hret _ _ _ _ dX11_wants_18 ⟨(-99000002), rfl, hM0, by omega⟩
  · refine j_aload_n C 0 0 dX11_wants_8 rfl rfl ?_
    refine j_iload_n C 2 2 dX11_wants_9 rfl rfl ?_
    refine j_callVi C (d := 0) (As := [.int (sI a2)]) (st := []) 0 (s_lt rfl rfl) (s_kc (c := 10) rfl rfl) (by decide) rfl (s1_X11_isKind hM0 a2 (by omega)) gX11_wants_X11_isKind rfl hdX11_isKind (by decide) (Nat.le_of_ble_eq_true rfl) dX11_wants_10 rfl (fun r107 M108 h109 => ?_)
    obtain ⟨a111, rfl, rfl, h110⟩ := h109
    refine y_if_ne C 19 dX11_wants_13 (by decide) (by omega) (fun h112 => ?_) (fun h112 => ?_)
    · refine j_aload_n C 0 0 dX11_wants_19 rfl rfl ?_
      refine y_getC C 10 81 fX11_wants_76 rfl rfl ft_10_12 sm_10_12 rfl hM0 dX11_wants_20 ?_
      refine j_aload_n C 0 0 dX11_wants_23 rfl rfl ?_
      refine y_getM C 10 6 fX11_wants_26 rfl rfl ft_10_4 sm_10_4 (by decide) hM0 dX11_wants_24 (fun v113 ev113 cv113 => ?_)
      refine j_aload_n C 0 0 dX11_wants_27 rfl rfl ?_
      refine y_getC C 10 12 fX11_wants_36 rfl rfl ft_10_6 sm_10_6 rfl hM0 dX11_wants_28 ?_
      refine j_callVv C (d := 0) (As := [.ref (ad v113), .ref (ad 12)]) (st := []) 81 (s_lt rfl rfl) (s_kc (c := 3) rfl rfl) (by decide) rfl (s1_X4_tune hM0 hpr cv113 rfl) gX11_wants_X4_tune rfl hdX4_tune (by decide) (Nat.le_of_ble_eq_true rfl) dX11_wants_31 rfl (fun M115 h116 => ?_)
      have hM115 := h116
      refine j_aload_n C 0 0 dX11_wants_34 rfl rfl ?_
      refine y_getC C 10 81 fX11_wants_76 rfl rfl ft_10_12 sm_10_12 rfl hM115 dX11_wants_35 ?_
      refine j_iload_n C 1 1 dX11_wants_38 rfl rfl ?_
      refine j_iload_n C 2 2 dX11_wants_39 rfl rfl ?_
      refine j_aload_n C 0 0 dX11_wants_40 rfl rfl ?_
      refine y_getC C 10 12 fX11_wants_36 rfl rfl ft_10_6 sm_10_6 rfl hM115 dX11_wants_41 ?_
      refine y_getI C 8 _ _ fX11_wants_150 rfl rfl ft_8_3 sb_8_3 hM115 dX11_wants_44 (fun a118 ea118 la118 ua118 => ?_)
      refine j_callVi C (d := 2) (As := [.int (sI a1), .int (sI a2), .int (sI a118)]) (st := []) 81 (s_lt rfl rfl) (s_kc (c := 3) rfl rfl) (by decide) rfl (s1_X4_wish hM115 hpr a1 (by omega) a2 (by omega) a118 (by omega) (by omega) (by omega)) gX11_wants_X4_wish rfl hdX4_wish (by decide) (Nat.le_of_ble_eq_true rfl) dX11_wants_47 rfl (fun r120 M121 h122 => ?_)
      obtain ⟨a124, rfl, hM121, h123⟩ := h122
      exact hret _ _ _ _ dX11_wants_50 ⟨a124, rfl, hM121, by omega⟩
    · refine y_ldc C (-99000002) dX11_wants_16 kX11_wants_188 rfl ?_
      exact hret _ _ _ _ dX11_wants_18 ⟨(-99000002), rfl, hM0, by omega⟩
set_option maxHeartbeats 4000000 in
theorem s1_X6_keep {l : Launch} {dC : Nat → ClassId} {dI : Nat → Nat → Nat} {ad : Nat → Nat} {cA : Nat → ClassId} {pr : Nat → Nat → Bool} {Kz : mm_M} {M0 : mm_M} (hM0 : INV pr Kz M0) (hpr : PX pr) (hq8_0 : ∀ i, s_c i = 8 → pr i 0 = false) {v1 : Nat} (cv1 : s_c v1 = 8) : Cv l 1 yX6_keep wsX6_keep dC dI ad cA [.ref (ad 18), .ref (ad v1)] M0 (fun M' => INV pr Kz M') := by
  refine cv_of (cc := cX6_keep) (maxL := 2) (lv := [(0, .ref (ad 18)), (1, .ref (ad v1))]) (by decide) rfl (Nat.le_of_ble_eq_true rfl) rfl ?_
  intro p e s m args below meth c A Q C hret
  refine j_aload_n C 0 0 dX6_keep_0 rfl rfl ?_
  refine y_getC C 5 19 fX6_keep_11 rfl rfl ft_5_0 sm_5_0 rfl hM0 dX6_keep_1 ?_
  refine j_aload_n C 0 0 dX6_keep_4 rfl rfl ?_
  refine y_getI C 5 _ _ fX6_keep_17 rfl rfl ft_5_1 sb_5_1 hM0 dX6_keep_5 (fun a101 ea101 la101 ua101 => ?_)
  refine y_aald C 27 10 8 rfl rfl rfl rfl an_27 rfl sma_27 sta_27 (by decide) hM0 dX6_keep_8 (by omega) (fun v103 cv103 => ?_)
  refine j_aload_n C 1 1 dX6_keep_9 rfl rfl ?_
  refine j_callVv C (d := 0) (As := [.ref (ad v1)]) (st := []) v103 (s_lt cv103 rfl) (s_kc (c := 8) cv103 rfl) (by decide) rfl (s1_X9_copyFrom hM0 hpr hq8_0 cv103 cv1) gX6_keep_X9_copyFrom rfl hdX9_copyFrom (by decide) (Nat.le_of_ble_eq_true rfl) dX6_keep_10 rfl (fun M105 h106 => ?_)
  have hM105 := h106
  refine j_aload_n C 0 0 dX6_keep_13 rfl rfl ?_
  refine j_aload_n C 0 0 dX6_keep_14 rfl rfl ?_
  refine y_getI C 5 _ _ fX6_keep_17 rfl rfl ft_5_1 sb_5_1 hM105 dX6_keep_15 (fun a108 ea108 la108 ua108 => ?_)
  refine y_iconst C dX6_keep_18 ?_
  refine y_iadd C dX6_keep_19 ?_
  refine y_bipush C dX6_keep_20 rfl ?_
  refine y_irem C dX6_keep_22 (by omega) ?_
  refine y_putI C 5 _ _ qX6_keep_17 rfl rfl ft_5_1 sb_5_1 hM105 (PX.w hpr rfl rfl) dX6_keep_23 (by omega) (fun M110 eM110 hM110 => ?_)
  refine j_aload_n C 0 0 dX6_keep_26 rfl rfl ?_
  refine j_aload_n C 0 0 dX6_keep_27 rfl rfl ?_
  refine y_getI C 5 _ _ fX6_keep_21 rfl rfl ft_5_2 sb_5_2 hM110 dX6_keep_28 (fun a111 ea111 la111 ua111 => ?_)
  refine y_iconst C dX6_keep_31 ?_
  refine y_iadd C dX6_keep_32 ?_
  refine y_bipush C dX6_keep_33 rfl ?_
  refine y_mmin C wX6_keep_29_0 wX6_keep_29_1 wX6_keep_29_2 wX6_keep_29_3 (by decide) (Nat.le_of_ble_eq_true rfl) dX6_keep_35 (by omega) (fun a113 ha113 => ?_)
  refine y_putI C 5 _ _ qX6_keep_21 rfl rfl ft_5_2 sb_5_2 hM110 (PX.w hpr rfl rfl) dX6_keep_38 (by omega) (fun M114 eM114 hM114 => ?_)
  exact hret _ _ _ dX6_keep_41 hM114
set_option maxHeartbeats 4000000 in
theorem s1_X11_seed {l : Launch} {dC : Nat → ClassId} {dI : Nat → Nat → Nat} {ad : Nat → Nat} {cA : Nat → ClassId} {pr : Nat → Nat → Bool} {Kz : mm_M} {M0 : mm_M} (hM0 : INV pr Kz M0) (hpr : PX pr) (hq8_0 : ∀ i, s_c i = 8 → pr i 0 = false) (a1 : Int) (ha1 : -2147483648 ≤ a1 ∧ a1 ≤ 2147483647) : Ci l 2 yX11_seed wsX11_seed dC dI ad cA [.ref (ad 0), .int (sI a1)] M0 (fun r M' => ∃ a : Int, r = sI a ∧ INV pr Kz M' ∧ (-2147483648) ≤ a ∧ a ≤ 2147483647) := by
  refine ci_of (cc := cX11_seed) (maxL := 3) (ty := .int) (lv := [(0, .ref (ad 0)), (1, .int (sI a1))]) (by decide) rfl (fun r M' hp => rfl) (Nat.le_of_ble_eq_true rfl) rfl ?_
  intro p e s m args below meth c A Q C hret
  refine j_aload_n C 0 0 dX11_seed_0 rfl rfl ?_
  refine y_getC C 10 18 fX11_seed_46 rfl rfl ft_10_8 sm_10_8 rfl hM0 dX11_seed_1 ?_
  refine j_aload_n C 0 0 dX11_seed_4 rfl rfl ?_
  refine y_getC C 10 12 fX11_seed_36 rfl rfl ft_10_6 sm_10_6 rfl hM0 dX11_seed_5 ?_
  refine j_callVv C (d := 1) (As := [.ref (ad 12)]) (st := []) 18 (s_lt rfl rfl) (s_kc (c := 5) rfl rfl) (by decide) rfl (s1_X6_keep hM0 hpr hq8_0 rfl) gX11_seed_X6_keep rfl hdX6_keep (by decide) (Nat.le_of_ble_eq_true rfl) dX11_seed_8 rfl (fun M102 h103 => ?_)
  have hM102 := h103
  refine j_aload_n C 0 0 dX11_seed_11 rfl rfl ?_
  refine y_getC C 10 12 fX11_seed_36 rfl rfl ft_10_6 sm_10_6 rfl hM102 dX11_seed_12 ?_
  refine y_getI C 8 _ _ fX11_seed_195 rfl rfl ft_8_8 sb_8_8 hM102 dX11_seed_15 (fun a105 ea105 la105 ua105 => ?_)
  refine j_istore_n C 2 [(2, .int (sI a105)), (0, .ref (ad 0)), (1, .int (sI a1))] dX11_seed_18 rfl (by decide) rfl ?_
  refine j_aload_n C 1 0 dX11_seed_19 rfl rfl ?_
  refine y_getC C 10 12 fX11_seed_36 rfl rfl ft_10_6 sm_10_6 rfl hM102 dX11_seed_20 ?_
  refine j_iload_n C 2 1 dX11_seed_23 rfl rfl ?_
  refine y_putIF C 8 qX11_seed_195 rfl rfl ft_8_8 sb_8_8 hM102 (PX.w hpr rfl rfl) dX11_seed_24 (fun M107 eM107 hM107 => ?_)
  refine j_iload_n C 0 2 dX11_seed_27 rfl rfl ?_
  exact hret _ _ _ _ dX11_seed_28 ⟨a105, rfl, hM107, by omega⟩
set_option maxHeartbeats 4000000 in
theorem s1_X9_everyKind {l : Launch} {dC : Nat → ClassId} {dI : Nat → Nat → Nat} {ad : Nat → Nat} {cA : Nat → ClassId} {pr : Nat → Nat → Bool} {Kz : mm_M} {M0 : mm_M} (hM0 : INV pr Kz M0) {v0 : Nat} (cv0 : s_c v0 = 8) : Ci l 0 yX9_everyKind wsX9_everyKind dC dI ad cA [.ref (ad v0)] M0 (fun r M' => ∃ a : Int, r = sI a ∧ M0 = M' ∧ 0 ≤ a ∧ a ≤ 255 ∧ ((0 ≤ a ∧ a ≤ 255))) := by
  refine ci_of (cc := cX9_everyKind) (maxL := 1) (ty := .int) (lv := [(0, .ref (ad v0))]) (by decide) rfl (fun r M' hp => rfl) (Nat.le_of_ble_eq_true rfl) rfl ?_
  intro p e s m args below meth c A Q C hret
  refine y_iconst C dX9_everyKind_0 ?_
  refine j_aload_n C 0 0 dX9_everyKind_1 rfl rfl ?_
  refine y_getI C 8 _ _ fX9_everyKind_9 cv0 rfl ft_8_0 sb_8_0 hM0 dX9_everyKind_2 (fun a101 ea101 la101 ua101 => ?_)
  refine y_shl1 C 8 256 dX9_everyKind_5 rfl (by decide) (by omega) (fun a103 la103 ua103 => ?_)
  refine y_iconst C dX9_everyKind_6 ?_
  refine y_isub C dX9_everyKind_7 ?_
  exact hret _ _ _ _ dX9_everyKind_8 ⟨(a103 - 1), rfl, rfl, by omega⟩
set_option maxHeartbeats 4000000 in
theorem s1_X9_isShut {l : Launch} {dC : Nat → ClassId} {dI : Nat → Nat → Nat} {ad : Nat → Nat} {cA : Nat → ClassId} {pr : Nat → Nat → Bool} {Kz : mm_M} {M0 : mm_M} (hM0 : INV pr Kz M0) {v0 : Nat} (cv0 : s_c v0 = 8) : Ci l 1 yX9_isShut wsX9_isShut dC dI ad cA [.ref (ad v0)] M0 (fun r M' => ∃ a : Int, r = sI a ∧ M0 = M' ∧ 0 ≤ a ∧ a ≤ 1 ∧ ((a = 0) ∨ (a = 1))) := by
  refine ci_of (cc := cX9_isShut) (maxL := 1) (ty := .boolean) (lv := [(0, .ref (ad v0))]) (by decide) rfl (fun r M' hp => by obtain ⟨a, rfl, -, h⟩ := hp; rcases (show a = 0 ∨ a = 1 by omega) with rfl | rfl <;> rfl) (Nat.le_of_ble_eq_true rfl) rfl ?_
  intro p e s m args below meth c A Q C hret
  refine j_aload_n C 0 0 dX9_isShut_0 rfl rfl ?_
  refine j_callVi C (d := 0) (As := []) (st := []) v0 (s_lt cv0 rfl) (s_kc (c := 8) cv0 rfl) (by decide) rfl (s1_X9_everyKind hM0 cv0) gX9_isShut_X9_everyKind rfl hdX9_everyKind (by decide) (Nat.le_of_ble_eq_true rfl) dX9_isShut_1 rfl (fun r101 M102 h103 => ?_)
  obtain ⟨a105, rfl, rfl, h104⟩ := h103
  refine j_aload_n C 0 0 dX9_isShut_4 rfl rfl ?_
  refine y_getI C 8 _ _ fX9_isShut_25 cv0 rfl ft_8_4 sb_8_4 hM0 dX9_isShut_5 (fun a106 ea106 la106 ua106 => ?_)
  refine y_iconst C dX9_isShut_8 ?_
  refine y_not C dX9_isShut_9 ?_
  refine y_iandL C dX9_isShut_10 (by omega) (fun a108 la108 ua108 => ?_)
  refine j_aload_n C 0 0 dX9_isShut_11 rfl rfl ?_
  refine y_getI C 8 _ _ fX9_isShut_22 cv0 rfl ft_8_3 sb_8_3 hM0 dX9_isShut_12 (fun a109 ea109 la109 ua109 => ?_)
  refine y_iconst C dX9_isShut_15 ?_
  refine y_not C dX9_isShut_16 ?_
  refine y_iandL C dX9_isShut_17 (by omega) (fun a111 la111 ua111 => ?_)
  refine y_if_ne C 25 dX9_isShut_18 (by decide) (by omega) (fun h112 => ?_) (fun h112 => ?_)
  · refine y_iconst C dX9_isShut_25 ?_
    exact hret _ _ _ _ dX9_isShut_26 ⟨0, rfl, rfl, by omega⟩
  · refine y_iconst C dX9_isShut_21 ?_
    refine j_goto C 26 dX9_isShut_22 (by decide) ?_
    exact hret _ _ _ _ dX9_isShut_26 ⟨1, rfl, rfl, by omega⟩
set_option maxHeartbeats 4000000 in
theorem s1_X1_visitBy {l : Launch} {dC : Nat → ClassId} {dI : Nat → Nat → Nat} {ad : Nat → Nat} {cA : Nat → ClassId} {pr : Nat → Nat → Bool} {Kz : mm_M} {M0 : mm_M} (hM0 : INV pr Kz M0) (hpr : PX pr) {v1 : Nat} (cv1 : s_c v1 = 6) {v2 : Nat} (cv2 : s_c v2 = 8) (a3 : Int) (ha3 : -2147483648 ≤ a3 ∧ a3 ≤ 2147483647) : Ci l 4 yX1_visitBy wsX1_visitBy dC dI ad cA [.ref (ad 87), .ref (ad v1), .ref (ad v2), .int (sI a3)] M0 (fun r M' => ∃ a : Int, r = sI a ∧ INV pr Kz M' ∧ (-13) ≤ a ∧ a ≤ 7) := by
  refine ci_of (cc := cX1_visitBy) (maxL := 5) (ty := .int) (lv := [(0, .ref (ad 87)), (1, .ref (ad v1)), (2, .ref (ad v2)), (3, .int (sI a3))]) (by decide) rfl (fun r M' hp => rfl) (Nat.le_of_ble_eq_true rfl) rfl ?_
  intro p e s m args below meth c A Q C hret
  refine j_iload_n C 3 3 dX1_visitBy_0 rfl rfl ?_
  refine y_if_lt C 12 dX1_visitBy_1 (by decide) (by omega) (fun h101 => ?_) (fun h101 => ?_)
  · refine y_bipush C dX1_visitBy_12 rfl ?_
    exact hret _ _ _ _ dX1_visitBy_14 ⟨(-11), rfl, hM0, by omega⟩
  · refine j_iload_n C 3 3 dX1_visitBy_4 rfl rfl ?_
    refine j_aload_n C 1 1 dX1_visitBy_5 rfl rfl ?_
    refine y_getI C 6 _ _ fX1_visitBy_15 cv1 rfl ft_6_0 sb_6_0 hM0 dX1_visitBy_6 (fun a102 ea102 la102 ua102 => ?_)
    refine y_icmp_lt C 15 dX1_visitBy_9 (by decide) (by omega) (fun h104 => ?_) (fun h104 => ?_)
    · refine j_aload_n C 2 2 dX1_visitBy_15 rfl rfl ?_
      refine j_callVi C (d := 1) (As := []) (st := []) v2 (s_lt cv2 rfl) (s_kc (c := 8) cv2 rfl) (by decide) rfl (s1_X9_isShut hM0 cv2) gX1_visitBy_X9_isShut rfl hdX9_isShut (by decide) (Nat.le_of_ble_eq_true rfl) dX1_visitBy_16 rfl (fun r105 M106 h107 => ?_)
      obtain ⟨a109, rfl, rfl, h108⟩ := h107
      refine y_if_eq C 25 dX1_visitBy_19 (by decide) (by omega) (fun h110 => ?_) (fun h110 => ?_)
      · refine j_aload_n C 0 0 dX1_visitBy_25 rfl rfl ?_
        refine y_getC C 1 81 fX1_visitBy_9 rfl rfl ft_1_0 sm_1_0 rfl hM0 dX1_visitBy_26 ?_
        refine j_aload_n C 1 1 dX1_visitBy_29 rfl rfl ?_
        refine j_aload_n C 2 2 dX1_visitBy_30 rfl rfl ?_
        refine j_callVv C (d := 0) (As := [.ref (ad v1), .ref (ad v2)]) (st := []) 81 (s_lt rfl rfl) (s_kc (c := 3) rfl rfl) (by decide) rfl (s1_X4_tune hM0 hpr cv1 cv2) gX1_visitBy_X4_tune rfl hdX4_tune (by decide) (Nat.le_of_ble_eq_true rfl) dX1_visitBy_31 rfl (fun M112 h113 => ?_)
        have hM112 := h113
        refine j_aload_n C 0 0 dX1_visitBy_34 rfl rfl ?_
        refine y_getC C 1 81 fX1_visitBy_9 rfl rfl ft_1_0 sm_1_0 rfl hM112 dX1_visitBy_35 ?_
        refine j_iload_n C 3 3 dX1_visitBy_38 rfl rfl ?_
        refine j_aload_n C 2 2 dX1_visitBy_39 rfl rfl ?_
        refine y_getI C 8 _ _ fX1_visitBy_33 cv2 rfl ft_8_3 sb_8_3 hM112 dX1_visitBy_40 (fun a115 ea115 la115 ua115 => ?_)
        refine j_aload_n C 2 2 dX1_visitBy_43 rfl rfl ?_
        refine y_getI C 8 _ _ fX1_visitBy_36 cv2 rfl ft_8_4 sb_8_4 hM112 dX1_visitBy_44 (fun a117 ea117 la117 ua117 => ?_)
        refine j_callVi C (d := 3) (As := [.int (sI a3), .int (sI a115), .int (sI a117)]) (st := []) 81 (s_lt rfl rfl) (s_kc (c := 3) rfl rfl) (by decide) rfl (s1_X4_choice hM112 hpr a3 (by omega) a115 (by omega) a117 (by omega) (by omega)) gX1_visitBy_X4_choice rfl hdX4_choice (by decide) (Nat.le_of_ble_eq_true rfl) dX1_visitBy_47 rfl (fun r119 M120 h121 => ?_)
        obtain ⟨a123, rfl, hM120, h122⟩ := h121
        refine j_istore C 4 [(4, .int (sI a123)), (0, .ref (ad 87)), (1, .ref (ad v1)), (2, .ref (ad v2)), (3, .int (sI a3))] dX1_visitBy_50 (by decide) rfl ?_
        refine j_iload C 0 dX1_visitBy_52 rfl ?_
        refine y_if_ge C 60 dX1_visitBy_54 (by decide) (by omega) (fun h124 => ?_) (fun h124 => ?_)
        · refine j_aload_n C 3 2 dX1_visitBy_60 rfl rfl ?_
          refine j_dup C dX1_visitBy_61 rfl ?_
          refine y_getI C 8 _ _ fX1_visitBy_33 cv2 rfl ft_8_3 sb_8_3 hM120 dX1_visitBy_62 (fun a125 ea125 la125 ua125 => ?_)
          refine y_iconst C dX1_visitBy_65 ?_
          refine j_iload C 0 dX1_visitBy_66 rfl ?_
          refine y_shl1 C 7 128 dX1_visitBy_68 rfl (by decide) (by omega) (fun a127 la127 ua127 => ?_)
          refine y_iorN C 8 255 dX1_visitBy_69 rfl (by decide) (by omega) (fun a128 la128 ua128 => ?_)
          refine y_putI C 8 _ _ qX1_visitBy_33 cv2 rfl ft_8_3 sb_8_3 hM120 (PX.w hpr cv2 rfl) dX1_visitBy_70 (by omega) (fun M129 eM129 hM129 => ?_)
          refine j_aload_n C 3 2 dX1_visitBy_73 rfl rfl ?_
          refine j_dup C dX1_visitBy_74 rfl ?_
          refine y_getI C 8 _ _ fX1_visitBy_43 cv2 rfl ft_8_5 sb_8_5 hM129 dX1_visitBy_75 (fun a130 ea130 la130 ua130 => ?_)
          refine j_aload_n C 3 2 dX1_visitBy_78 rfl rfl ?_
          refine y_getT C 8 25 fX1_visitBy_46 cv2 rfl ft_8_1 rfl sm_8_1 st_8_1 (by decide) hM129 dX1_visitBy_79 (fun v132 cv132 => ?_)
          refine j_iload C 0 dX1_visitBy_82 rfl ?_
          refine y_iald C 25 8 _ _ cv132 rfl rfl ak_25 an_25 rfl (sb_25 _) hM129 dX1_visitBy_84 (by omega) (fun a133 ea133 la133 ua133 => ?_)
          refine y_iadd0 C dX1_visitBy_85 (fun a134 la134 ua134 => ?_)
          refine y_putIF C 8 qX1_visitBy_43 cv2 rfl ft_8_5 sb_8_5 hM129 (PX.w hpr cv2 rfl) dX1_visitBy_86 (fun M135 eM135 hM135 => ?_)
          refine j_iload C 0 dX1_visitBy_89 rfl ?_
          exact hret _ _ _ _ dX1_visitBy_91 ⟨a123, rfl, hM135, by omega⟩
        · refine y_bipush C dX1_visitBy_57 rfl ?_
          exact hret _ _ _ _ dX1_visitBy_59 ⟨(-13), rfl, hM120, by omega⟩
      · refine y_bipush C dX1_visitBy_22 rfl ?_
        exact hret _ _ _ _ dX1_visitBy_24 ⟨(-12), rfl, hM0, by omega⟩
    · refine y_bipush C dX1_visitBy_12 rfl ?_
      exact hret _ _ _ _ dX1_visitBy_14 ⟨(-11), rfl, hM0, by omega⟩
set_option maxHeartbeats 4000000 in
theorem s1_X11_settle {l : Launch} {dC : Nat → ClassId} {dI : Nat → Nat → Nat} {ad : Nat → Nat} {cA : Nat → ClassId} {pr : Nat → Nat → Bool} {Kz : mm_M} {M0 : mm_M} (hM0 : INV pr Kz M0) (hpr : PX pr) (hq8_0 : ∀ i, s_c i = 8 → pr i 0 = false) (a1 : Int) (ha1 : -2147483648 ≤ a1 ∧ a1 ≤ 2147483647) : Ci l 2 yX11_settle wsX11_settle dC dI ad cA [.ref (ad 0), .int (sI a1)] M0 (fun r M' => ∃ a : Int, r = sI a ∧ INV pr Kz M' ∧ (-2147483648) ≤ a ∧ a ≤ 2147483647) := by
  refine ci_of (cc := cX11_settle) (maxL := 2) (ty := .int) (lv := [(0, .ref (ad 0)), (1, .int (sI a1))]) (by decide) rfl (fun r M' hp => rfl) (Nat.le_of_ble_eq_true rfl) rfl ?_
  intro p e s m args below meth c A Q C hret
  refine j_iload_n C 1 1 dX11_settle_0 rfl rfl ?_
  refine y_if_lt C 15 dX11_settle_1 (by decide) (by omega) (fun h101 => ?_) (fun h101 => ?_)
  · refine j_iload_n C 1 1 dX11_settle_15 rfl rfl ?_
    exact hret _ _ _ _ dX11_settle_16 ⟨a1, rfl, hM0, by omega⟩
  · refine j_aload_n C 0 0 dX11_settle_4 rfl rfl ?_
    refine y_getC C 10 18 fX11_settle_46 rfl rfl ft_10_8 sm_10_8 rfl hM0 dX11_settle_5 ?_
    refine j_aload_n C 0 0 dX11_settle_8 rfl rfl ?_
    refine y_getC C 10 15 fX11_settle_40 rfl rfl ft_10_7 sm_10_7 rfl hM0 dX11_settle_9 ?_
    refine j_callVv C (d := 1) (As := [.ref (ad 15)]) (st := []) 18 (s_lt rfl rfl) (s_kc (c := 5) rfl rfl) (by decide) rfl (s1_X6_keep hM0 hpr hq8_0 rfl) gX11_settle_X6_keep rfl hdX6_keep (by decide) (Nat.le_of_ble_eq_true rfl) dX11_settle_12 rfl (fun M103 h104 => ?_)
    have hM103 := h104
    refine j_iload_n C 1 1 dX11_settle_15 rfl rfl ?_
    exact hret _ _ _ _ dX11_settle_16 ⟨a1, rfl, hM103, by omega⟩
set_option maxHeartbeats 4000000 in
theorem s1_X11_visit {l : Launch} {dC : Nat → ClassId} {dI : Nat → Nat → Nat} {ad : Nat → Nat} {cA : Nat → ClassId} {pr : Nat → Nat → Bool} {Kz : mm_M} {M0 : mm_M} (hM0 : INV pr Kz M0) (hpr : PX pr) (hq8_0 : ∀ i, s_c i = 8 → pr i 0 = false) (a1 : Int) (ha1 : -2147483648 ≤ a1 ∧ a1 ≤ 2147483647) : Ci l 5 yX11_visit wsX11_visit dC dI ad cA [.ref (ad 0), .int (sI a1)] M0 (fun r M' => ∃ a : Int, r = sI a ∧ INV pr Kz M' ∧ (-2147483648) ≤ a ∧ a ≤ 2147483647) := by
  refine ci_of (cc := cX11_visit) (maxL := 2) (ty := .int) (lv := [(0, .ref (ad 0)), (1, .int (sI a1))]) (by decide) rfl (fun r M' hp => rfl) (Nat.le_of_ble_eq_true rfl) rfl ?_
  intro p e s m args below meth c A Q C hret
  refine j_aload_n C 0 0 dX11_visit_0 rfl rfl ?_
  refine y_getC C 10 15 fX11_visit_40 rfl rfl ft_10_7 sm_10_7 rfl hM0 dX11_visit_1 ?_
  refine j_aload_n C 0 0 dX11_visit_4 rfl rfl ?_
  refine y_getC C 10 12 fX11_visit_36 rfl rfl ft_10_6 sm_10_6 rfl hM0 dX11_visit_5 ?_
  refine j_callVv C (d := 0) (As := [.ref (ad 12)]) (st := []) 15 (s_lt rfl rfl) (s_kc (c := 8) rfl rfl) (by decide) rfl (s1_X9_copyFrom hM0 hpr hq8_0 rfl rfl) gX11_visit_X9_copyFrom rfl hdX9_copyFrom (by decide) (Nat.le_of_ble_eq_true rfl) dX11_visit_8 rfl (fun M102 h103 => ?_)
  have hM102 := h103
  refine j_aload_n C 0 0 dX11_visit_11 rfl rfl ?_
  refine j_aload_n C 0 0 dX11_visit_12 rfl rfl ?_
  refine y_getC C 10 87 fX11_visit_85 rfl rfl ft_10_13 sm_10_13 rfl hM102 dX11_visit_13 ?_
  refine j_aload_n C 0 0 dX11_visit_16 rfl rfl ?_
  refine y_getM C 10 6 fX11_visit_26 rfl rfl ft_10_4 sm_10_4 (by decide) hM102 dX11_visit_17 (fun v105 ev105 cv105 => ?_)
  refine j_aload_n C 0 0 dX11_visit_20 rfl rfl ?_
  refine y_getC C 10 12 fX11_visit_36 rfl rfl ft_10_6 sm_10_6 rfl hM102 dX11_visit_21 ?_
  refine j_iload_n C 1 1 dX11_visit_24 rfl rfl ?_
  refine j_callVi C (d := 4) (As := [.ref (ad v105), .ref (ad 12), .int (sI a1)]) (st := [.ref (ad 0)]) 87 (s_lt rfl rfl) (s_kc (c := 1) rfl rfl) (by decide) rfl (s1_X1_visitBy hM102 hpr cv105 rfl a1 (by omega)) gX11_visit_X1_visitBy rfl hdX1_visitBy (by decide) (Nat.le_of_ble_eq_true rfl) dX11_visit_25 rfl (fun r106 M107 h108 => ?_)
  obtain ⟨a110, rfl, hM107, h109⟩ := h108
  refine j_callVi C (d := 2) (As := [.int (sI a110)]) (st := []) 0 (s_lt rfl rfl) (s_kc (c := 10) rfl rfl) (by decide) rfl (s1_X11_settle hM107 hpr hq8_0 a110 (by omega)) gX11_visit_X11_settle rfl hdX11_settle (by decide) (Nat.le_of_ble_eq_true rfl) dX11_visit_28 rfl (fun r111 M112 h113 => ?_)
  obtain ⟨a115, rfl, hM112, h114⟩ := h113
  exact hret _ _ _ _ dX11_visit_31 ⟨a115, rfl, hM112, by omega⟩
set_option maxHeartbeats 4000000 in
theorem s1_X9_holds {l : Launch} {dC : Nat → ClassId} {dI : Nat → Nat → Nat} {ad : Nat → Nat} {cA : Nat → ClassId} {pr : Nat → Nat → Bool} {Kz : mm_M} {M0 : mm_M} (hM0 : INV pr Kz M0) {v0 : Nat} (cv0 : s_c v0 = 8) (a1 : Int) (ha1 : -2147483648 ≤ a1 ∧ a1 ≤ 2147483647) : Ci l 0 yX9_holds wsX9_holds dC dI ad cA [.ref (ad v0), .int (sI a1)] M0 (fun r M' => ∃ a : Int, r = sI a ∧ M0 = M' ∧ 0 ≤ a ∧ a ≤ 1 ∧ ((a1 < 0 ∧ a = 0) ∨ (0 ≤ (M0.1 v0 0).toInt ∧ (M0.1 v0 0).toInt ≤ 8 ∧ 0 ≤ a1 ∧ (M0.1 v0 0).toInt ≤ a1 ∧ a = 0) ∨ (1 ≤ (M0.1 v0 0).toInt ∧ (M0.1 v0 0).toInt ≤ 8 ∧ 0 ≤ a1 ∧ a1 < (M0.1 v0 0).toInt ∧ a = 1))) := by
  refine ci_of (cc := cX9_holds) (maxL := 2) (ty := .boolean) (lv := [(0, .ref (ad v0)), (1, .int (sI a1))]) (by decide) rfl (fun r M' hp => by obtain ⟨a, rfl, -, h⟩ := hp; rcases (show a = 0 ∨ a = 1 by omega) with rfl | rfl <;> rfl) (Nat.le_of_ble_eq_true rfl) rfl ?_
  intro p e s m args below meth c A Q C hret
  refine j_iload_n C 1 1 dX9_holds_0 rfl rfl ?_
  refine y_if_lt C 16 dX9_holds_1 (by decide) (by omega) (fun h101 => ?_) (fun h101 => ?_)
  · refine y_iconst C dX9_holds_16 ?_
    exact hret _ _ _ _ dX9_holds_17 ⟨0, rfl, rfl, by omega⟩
  · refine j_iload_n C 1 1 dX9_holds_4 rfl rfl ?_
    refine j_aload_n C 0 0 dX9_holds_5 rfl rfl ?_
    refine y_getI C 8 _ _ fX9_holds_9 cv0 rfl ft_8_0 sb_8_0 hM0 dX9_holds_6 (fun a102 ea102 la102 ua102 => ?_)
    refine y_icmp_ge C 16 dX9_holds_9 (by decide) (by omega) (fun h104 => ?_) (fun h104 => ?_)
    · refine y_iconst C dX9_holds_16 ?_
      exact hret _ _ _ _ dX9_holds_17 ⟨0, rfl, rfl, by omega⟩
    · refine y_iconst C dX9_holds_12 ?_
      refine j_goto C 17 dX9_holds_13 (by decide) ?_
      exact hret _ _ _ _ dX9_holds_17 ⟨1, rfl, rfl, by omega⟩
set_option maxHeartbeats 4000000 in
theorem s1_X1_giveAway {l : Launch} {dC : Nat → ClassId} {dI : Nat → Nat → Nat} {ad : Nat → Nat} {cA : Nat → ClassId} {pr : Nat → Nat → Bool} {Kz : mm_M} {M0 : mm_M} (hM0 : INV pr Kz M0) (hpr : PX pr) {v1 : Nat} (cv1 : s_c v1 = 8) (a2 : Int) (ha2 : -2147483648 ≤ a2 ∧ a2 ≤ 2147483647) : Ci l 2 yX1_giveAway wsX1_giveAway dC dI ad cA [.ref (ad 87), .ref (ad v1), .int (sI a2)] M0 (fun r M' => ∃ a : Int, r = sI a ∧ INV pr Kz M' ∧ (-2147483648) ≤ a ∧ a ≤ 2147483647) := by
  refine ci_of (cc := cX1_giveAway) (maxL := 3) (ty := .int) (lv := [(0, .ref (ad 87)), (1, .ref (ad v1)), (2, .int (sI a2))]) (by decide) rfl (fun r M' hp => rfl) (Nat.le_of_ble_eq_true rfl) rfl ?_
  intro p e s m args below meth c A Q C hret
  refine j_aload_n C 1 1 dX1_giveAway_0 rfl rfl ?_
  refine j_iload_n C 2 2 dX1_giveAway_1 rfl rfl ?_
  refine j_callVi C (d := 0) (As := [.int (sI a2)]) (st := []) v1 (s_lt cv1 rfl) (s_kc (c := 8) cv1 rfl) (by decide) rfl (s1_X9_holds hM0 cv1 a2 (by omega)) gX1_giveAway_X9_holds rfl hdX9_holds (by decide) (Nat.le_of_ble_eq_true rfl) dX1_giveAway_2 rfl (fun r101 M102 h103 => ?_)
  obtain ⟨a105, rfl, rfl, h104⟩ := h103
  refine y_if_ne C 11 dX1_giveAway_5 (by decide) (by omega) (fun h106 => ?_) (fun h106 => ?_)
  · refine j_aload_n C 1 1 dX1_giveAway_11 rfl rfl ?_
    refine j_callVi C (d := 1) (As := []) (st := []) v1 (s_lt cv1 rfl) (s_kc (c := 8) cv1 rfl) (by decide) rfl (s1_X9_isShut hM0 cv1) gX1_giveAway_X9_isShut rfl hdX9_isShut (by decide) (Nat.le_of_ble_eq_true rfl) dX1_giveAway_12 rfl (fun r107 M108 h109 => ?_)
    obtain ⟨a111, rfl, rfl, h110⟩ := h109
    refine y_if_eq C 21 dX1_giveAway_15 (by decide) (by omega) (fun h112 => ?_) (fun h112 => ?_)
    · refine j_aload_n C 1 1 dX1_giveAway_21 rfl rfl ?_
      refine j_dup C dX1_giveAway_22 rfl ?_
      refine y_getI C 8 _ _ fX1_giveAway_54 cv1 rfl ft_8_6 sb_8_6 hM0 dX1_giveAway_23 (fun a113 ea113 la113 ua113 => ?_)
      refine y_iconst C dX1_giveAway_26 ?_
      refine y_iadd0 C dX1_giveAway_27 (fun a115 la115 ua115 => ?_)
      refine y_putIF C 8 qX1_giveAway_54 cv1 rfl ft_8_6 sb_8_6 hM0 (PX.w hpr cv1 rfl) dX1_giveAway_28 (fun M116 eM116 hM116 => ?_)
      refine j_aload_n C 1 1 dX1_giveAway_31 rfl rfl ?_
      refine y_getI C 8 _ _ fX1_giveAway_54 cv1 rfl ft_8_6 sb_8_6 hM116 dX1_giveAway_32 (fun a117 ea117 la117 ua117 => ?_)
      exact hret _ _ _ _ dX1_giveAway_35 ⟨a117, rfl, hM116, by omega⟩
    · refine y_bipush C dX1_giveAway_18 rfl ?_
      exact hret _ _ _ _ dX1_giveAway_20 ⟨(-12), rfl, hM0, by omega⟩
  · refine y_bipush C dX1_giveAway_8 rfl ?_
    exact hret _ _ _ _ dX1_giveAway_10 ⟨(-11), rfl, hM0, by omega⟩
set_option maxHeartbeats 4000000 in
theorem s1_X11_gift {l : Launch} {dC : Nat → ClassId} {dI : Nat → Nat → Nat} {ad : Nat → Nat} {cA : Nat → ClassId} {pr : Nat → Nat → Bool} {Kz : mm_M} {M0 : mm_M} (hM0 : INV pr Kz M0) (hpr : PX pr) (hq8_0 : ∀ i, s_c i = 8 → pr i 0 = false) (a1 : Int) (ha1 : -2147483648 ≤ a1 ∧ a1 ≤ 2147483647) : Ci l 3 yX11_gift wsX11_gift dC dI ad cA [.ref (ad 0), .int (sI a1)] M0 (fun r M' => ∃ a : Int, r = sI a ∧ INV pr Kz M' ∧ (-2147483648) ≤ a ∧ a ≤ 2147483647) := by
  refine ci_of (cc := cX11_gift) (maxL := 2) (ty := .int) (lv := [(0, .ref (ad 0)), (1, .int (sI a1))]) (by decide) rfl (fun r M' hp => rfl) (Nat.le_of_ble_eq_true rfl) rfl ?_
  intro p e s m args below meth c A Q C hret
  refine j_aload_n C 0 0 dX11_gift_0 rfl rfl ?_
  refine y_getC C 10 15 fX11_gift_40 rfl rfl ft_10_7 sm_10_7 rfl hM0 dX11_gift_1 ?_
  refine j_aload_n C 0 0 dX11_gift_4 rfl rfl ?_
  refine y_getC C 10 12 fX11_gift_36 rfl rfl ft_10_6 sm_10_6 rfl hM0 dX11_gift_5 ?_
  refine j_callVv C (d := 0) (As := [.ref (ad 12)]) (st := []) 15 (s_lt rfl rfl) (s_kc (c := 8) rfl rfl) (by decide) rfl (s1_X9_copyFrom hM0 hpr hq8_0 rfl rfl) gX11_gift_X9_copyFrom rfl hdX9_copyFrom (by decide) (Nat.le_of_ble_eq_true rfl) dX11_gift_8 rfl (fun M102 h103 => ?_)
  have hM102 := h103
  refine j_aload_n C 0 0 dX11_gift_11 rfl rfl ?_
  refine j_aload_n C 0 0 dX11_gift_12 rfl rfl ?_
  refine y_getC C 10 87 fX11_gift_85 rfl rfl ft_10_13 sm_10_13 rfl hM102 dX11_gift_13 ?_
  refine j_aload_n C 0 0 dX11_gift_16 rfl rfl ?_
  refine y_getC C 10 12 fX11_gift_36 rfl rfl ft_10_6 sm_10_6 rfl hM102 dX11_gift_17 ?_
  refine j_iload_n C 1 1 dX11_gift_20 rfl rfl ?_
  refine j_callVi C (d := 2) (As := [.ref (ad 12), .int (sI a1)]) (st := [.ref (ad 0)]) 87 (s_lt rfl rfl) (s_kc (c := 1) rfl rfl) (by decide) rfl (s1_X1_giveAway hM102 hpr rfl a1 (by omega)) gX11_gift_X1_giveAway rfl hdX1_giveAway (by decide) (Nat.le_of_ble_eq_true rfl) dX11_gift_21 rfl (fun r105 M106 h107 => ?_)
  obtain ⟨a109, rfl, hM106, h108⟩ := h107
  refine j_callVi C (d := 2) (As := [.int (sI a109)]) (st := []) 0 (s_lt rfl rfl) (s_kc (c := 10) rfl rfl) (by decide) rfl (s1_X11_settle hM106 hpr hq8_0 a109 (by omega)) gX11_gift_X11_settle rfl hdX11_settle (by decide) (Nat.le_of_ble_eq_true rfl) dX11_gift_24 rfl (fun r110 M111 h112 => ?_)
  obtain ⟨a114, rfl, hM111, h113⟩ := h112
  exact hret _ _ _ _ dX11_gift_27 ⟨a114, rfl, hM111, by omega⟩
set_option maxHeartbeats 4000000 in
theorem s1_X1_turn {l : Launch} {dC : Nat → ClassId} {dI : Nat → Nat → Nat} {ad : Nat → Nat} {cA : Nat → ClassId} {pr : Nat → Nat → Bool} {Kz : mm_M} {M0 : mm_M} (hM0 : INV pr Kz M0) (hpr : PX pr) {v1 : Nat} (cv1 : s_c v1 = 8) (a2 : Int) (ha2 : -2147483648 ≤ a2 ∧ a2 ≤ 2147483647) : Ci l 2 yX1_turn wsX1_turn dC dI ad cA [.ref (ad 87), .ref (ad v1), .int (sI a2)] M0 (fun r M' => ∃ a : Int, r = sI a ∧ INV pr Kz M' ∧ (-12) ≤ a ∧ a ≤ 1) := by
  refine ci_of (cc := cX1_turn) (maxL := 3) (ty := .int) (lv := [(0, .ref (ad 87)), (1, .ref (ad v1)), (2, .int (sI a2))]) (by decide) rfl (fun r M' hp => rfl) (Nat.le_of_ble_eq_true rfl) rfl ?_
  intro p e s m args below meth c A Q C hret
  refine j_aload_n C 1 1 dX1_turn_0 rfl rfl ?_
  refine j_iload_n C 2 2 dX1_turn_1 rfl rfl ?_
  refine j_callVi C (d := 0) (As := [.int (sI a2)]) (st := []) v1 (s_lt cv1 rfl) (s_kc (c := 8) cv1 rfl) (by decide) rfl (s1_X9_holds hM0 cv1 a2 (by omega)) gX1_turn_X9_holds rfl hdX9_holds (by decide) (Nat.le_of_ble_eq_true rfl) dX1_turn_2 rfl (fun r101 M102 h103 => ?_)
  obtain ⟨a105, rfl, rfl, h104⟩ := h103
  refine y_if_ne C 11 dX1_turn_5 (by decide) (by omega) (fun h106 => ?_) (fun h106 => ?_)
  · refine j_aload_n C 1 1 dX1_turn_11 rfl rfl ?_
    refine j_callVi C (d := 1) (As := []) (st := []) v1 (s_lt cv1 rfl) (s_kc (c := 8) cv1 rfl) (by decide) rfl (s1_X9_isShut hM0 cv1) gX1_turn_X9_isShut rfl hdX9_isShut (by decide) (Nat.le_of_ble_eq_true rfl) dX1_turn_12 rfl (fun r107 M108 h109 => ?_)
    obtain ⟨a111, rfl, rfl, h110⟩ := h109
    refine y_if_eq C 21 dX1_turn_15 (by decide) (by omega) (fun h112 => ?_) (fun h112 => ?_)
    · refine j_aload_n C 1 1 dX1_turn_21 rfl rfl ?_
      refine j_dup C dX1_turn_22 rfl ?_
      refine y_getI C 8 _ _ fX1_turn_36 cv1 rfl ft_8_4 sb_8_4 hM0 dX1_turn_23 (fun a113 ea113 la113 ua113 => ?_)
      refine y_iconst C dX1_turn_26 ?_
      refine j_iload_n C 2 2 dX1_turn_27 rfl rfl ?_
      refine y_shl1 C 7 128 dX1_turn_28 rfl (by decide) (by omega) (fun a115 la115 ua115 => ?_)
      refine y_ixorN C 8 255 dX1_turn_29 rfl (by decide) (by omega) (fun a116 la116 ua116 => ?_)
      refine y_putI C 8 _ _ qX1_turn_36 cv1 rfl ft_8_4 sb_8_4 hM0 (PX.w hpr cv1 rfl) dX1_turn_30 (by omega) (fun M117 eM117 hM117 => ?_)
      refine j_aload_n C 1 1 dX1_turn_33 rfl rfl ?_
      refine y_getI C 8 _ _ fX1_turn_36 cv1 rfl ft_8_4 sb_8_4 hM117 dX1_turn_34 (fun a118 ea118 la118 ua118 => ?_)
      refine j_iload_n C 2 2 dX1_turn_37 rfl rfl ?_
      refine y_ishrP C dX1_turn_38 (by omega) (fun a120 la120 ua120 => ?_)
      refine y_iconst C dX1_turn_39 ?_
      refine y_iandR C dX1_turn_40 (by omega) (fun a121 la121 ua121 => ?_)
      exact hret _ _ _ _ dX1_turn_41 ⟨a121, rfl, hM117, by omega⟩
    · refine y_bipush C dX1_turn_18 rfl ?_
      exact hret _ _ _ _ dX1_turn_20 ⟨(-12), rfl, hM0, by omega⟩
  · refine y_bipush C dX1_turn_8 rfl ?_
    exact hret _ _ _ _ dX1_turn_10 ⟨(-11), rfl, hM0, by omega⟩
set_option maxHeartbeats 4000000 in
theorem s1_X11_hide {l : Launch} {dC : Nat → ClassId} {dI : Nat → Nat → Nat} {ad : Nat → Nat} {cA : Nat → ClassId} {pr : Nat → Nat → Bool} {Kz : mm_M} {M0 : mm_M} (hM0 : INV pr Kz M0) (hpr : PX pr) (hq8_0 : ∀ i, s_c i = 8 → pr i 0 = false) (a1 : Int) (ha1 : -2147483648 ≤ a1 ∧ a1 ≤ 2147483647) : Ci l 3 yX11_hide wsX11_hide dC dI ad cA [.ref (ad 0), .int (sI a1)] M0 (fun r M' => ∃ a : Int, r = sI a ∧ INV pr Kz M' ∧ (-2147483648) ≤ a ∧ a ≤ 2147483647) := by
  refine ci_of (cc := cX11_hide) (maxL := 2) (ty := .int) (lv := [(0, .ref (ad 0)), (1, .int (sI a1))]) (by decide) rfl (fun r M' hp => rfl) (Nat.le_of_ble_eq_true rfl) rfl ?_
  intro p e s m args below meth c A Q C hret
  refine j_aload_n C 0 0 dX11_hide_0 rfl rfl ?_
  refine y_getC C 10 15 fX11_hide_40 rfl rfl ft_10_7 sm_10_7 rfl hM0 dX11_hide_1 ?_
  refine j_aload_n C 0 0 dX11_hide_4 rfl rfl ?_
  refine y_getC C 10 12 fX11_hide_36 rfl rfl ft_10_6 sm_10_6 rfl hM0 dX11_hide_5 ?_
  refine j_callVv C (d := 0) (As := [.ref (ad 12)]) (st := []) 15 (s_lt rfl rfl) (s_kc (c := 8) rfl rfl) (by decide) rfl (s1_X9_copyFrom hM0 hpr hq8_0 rfl rfl) gX11_hide_X9_copyFrom rfl hdX9_copyFrom (by decide) (Nat.le_of_ble_eq_true rfl) dX11_hide_8 rfl (fun M102 h103 => ?_)
  have hM102 := h103
  refine j_aload_n C 0 0 dX11_hide_11 rfl rfl ?_
  refine j_aload_n C 0 0 dX11_hide_12 rfl rfl ?_
  refine y_getC C 10 87 fX11_hide_85 rfl rfl ft_10_13 sm_10_13 rfl hM102 dX11_hide_13 ?_
  refine j_aload_n C 0 0 dX11_hide_16 rfl rfl ?_
  refine y_getC C 10 12 fX11_hide_36 rfl rfl ft_10_6 sm_10_6 rfl hM102 dX11_hide_17 ?_
  refine j_iload_n C 1 1 dX11_hide_20 rfl rfl ?_
  refine j_callVi C (d := 2) (As := [.ref (ad 12), .int (sI a1)]) (st := [.ref (ad 0)]) 87 (s_lt rfl rfl) (s_kc (c := 1) rfl rfl) (by decide) rfl (s1_X1_turn hM102 hpr rfl a1 (by omega)) gX11_hide_X1_turn rfl hdX1_turn (by decide) (Nat.le_of_ble_eq_true rfl) dX11_hide_21 rfl (fun r105 M106 h107 => ?_)
  obtain ⟨a109, rfl, hM106, h108⟩ := h107
  refine j_callVi C (d := 2) (As := [.int (sI a109)]) (st := []) 0 (s_lt rfl rfl) (s_kc (c := 10) rfl rfl) (by decide) rfl (s1_X11_settle hM106 hpr hq8_0 a109 (by omega)) gX11_hide_X11_settle rfl hdX11_settle (by decide) (Nat.le_of_ble_eq_true rfl) dX11_hide_24 rfl (fun r110 M111 h112 => ?_)
  obtain ⟨a114, rfl, hM111, h113⟩ := h112
  exact hret _ _ _ _ dX11_hide_27 ⟨a114, rfl, hM111, by omega⟩
set_option maxHeartbeats 4000000 in
theorem s1_X1_bringIn {l : Launch} {dC : Nat → ClassId} {dI : Nat → Nat → Nat} {ad : Nat → Nat} {cA : Nat → ClassId} {pr : Nat → Nat → Bool} {Kz : mm_M} {M0 : mm_M} (hM0 : INV pr Kz M0) (hpr : PX pr) (hq8_0 : ∀ i, s_c i = 8 → pr i 0 = false) {v1 : Nat} (cv1 : s_c v1 = 8) (a2 : Int) (ha2 : -2147483648 ≤ a2 ∧ a2 ≤ 2147483647) (a3 : Int) (ha3 : -2147483648 ≤ a3 ∧ a3 ≤ 2147483647) : Ci l 2 yX1_bringIn wsX1_bringIn dC dI ad cA [.ref (ad 87), .ref (ad v1), .int (sI a2), .int (sI a3)] M0 (fun r M' => ∃ a : Int, r = sI a ∧ INV pr Kz M' ∧ (-13) ≤ a ∧ a ≤ 7) := by
  refine ci_of (cc := cX1_bringIn) (maxL := 4) (ty := .int) (lv := [(0, .ref (ad 87)), (1, .ref (ad v1)), (2, .int (sI a2)), (3, .int (sI a3))]) (by decide) rfl (fun r M' hp => rfl) (Nat.le_of_ble_eq_true rfl) rfl ?_
  intro p e s m args below meth c A Q C hret
  refine j_iload_n C 2 2 dX1_bringIn_0 rfl rfl ?_
  refine y_iconst C dX1_bringIn_1 ?_
  refine y_icmp_lt C 21 dX1_bringIn_2 (by decide) (by omega) (fun h101 => ?_) (fun h101 => ?_)
  · refine y_bipush C dX1_bringIn_21 rfl ?_
    exact hret _ _ _ _ dX1_bringIn_23 ⟨(-11), rfl, hM0, by omega⟩
  · refine j_iload_n C 2 2 dX1_bringIn_5 rfl rfl ?_
    refine y_bipush C dX1_bringIn_6 rfl ?_
    refine y_icmp_gt C 21 dX1_bringIn_8 (by decide) (by omega) (fun h102 => ?_) (fun h102 => ?_)
    · refine y_bipush C dX1_bringIn_21 rfl ?_
      exact hret _ _ _ _ dX1_bringIn_23 ⟨(-11), rfl, hM0, by omega⟩
    · refine j_iload_n C 3 3 dX1_bringIn_11 rfl rfl ?_
      refine y_if_lt C 21 dX1_bringIn_12 (by decide) (by omega) (fun h103 => ?_) (fun h103 => ?_)
      · refine y_bipush C dX1_bringIn_21 rfl ?_
        exact hret _ _ _ _ dX1_bringIn_23 ⟨(-11), rfl, hM0, by omega⟩
      · refine j_iload_n C 3 3 dX1_bringIn_15 rfl rfl ?_
        refine y_bipush C dX1_bringIn_16 rfl ?_
        refine y_icmp_le C 24 dX1_bringIn_18 (by decide) (by omega) (fun h104 => ?_) (fun h104 => ?_)
        · refine j_aload_n C 1 1 dX1_bringIn_24 rfl rfl ?_
          refine j_callVi C (d := 1) (As := []) (st := []) v1 (s_lt cv1 rfl) (s_kc (c := 8) cv1 rfl) (by decide) rfl (s1_X9_isShut hM0 cv1) gX1_bringIn_X9_isShut rfl hdX9_isShut (by decide) (Nat.le_of_ble_eq_true rfl) dX1_bringIn_25 rfl (fun r105 M106 h107 => ?_)
          obtain ⟨a109, rfl, rfl, h108⟩ := h107
          refine y_if_eq C 34 dX1_bringIn_28 (by decide) (by omega) (fun h110 => ?_) (fun h110 => ?_)
          · refine j_aload_n C 1 1 dX1_bringIn_34 rfl rfl ?_
            refine y_getI C 8 _ _ fX1_bringIn_57 cv1 rfl ft_8_0 sb_8_0 hM0 dX1_bringIn_35 (fun a111 ea111 la111 ua111 => ?_)
            refine y_bipush C dX1_bringIn_38 rfl ?_
            refine y_icmp_lt C 46 dX1_bringIn_40 (by decide) (by omega) (fun h113 => ?_) (fun h113 => ?_)
            · refine j_aload_n C 1 1 dX1_bringIn_46 rfl rfl ?_
              refine y_getT C 8 25 fX1_bringIn_46 cv1 rfl ft_8_1 rfl sm_8_1 st_8_1 (by decide) hM0 dX1_bringIn_47 (fun v114 cv114 => ?_)
              refine j_aload_n C 1 1 dX1_bringIn_50 rfl rfl ?_
              refine y_getI C 8 _ _ fX1_bringIn_57 cv1 rfl ft_8_0 sb_8_0 hM0 dX1_bringIn_51 (fun a115 ea115 la115 ua115 => ?_)
              refine j_iload_n C 2 2 dX1_bringIn_54 rfl rfl ?_
              refine y_iastF C 25 8 cv114 rfl rfl ak_25 an_25 rfl (sb_25 _) hM0 (PX.w hpr cv114 rfl) dX1_bringIn_55 (by omega) (fun M117 eM117 hM117 => ?_)
              refine j_aload_n C 1 1 dX1_bringIn_56 rfl rfl ?_
              refine y_getT C 8 26 fX1_bringIn_60 cv1 rfl ft_8_2 rfl sm_8_2 st_8_2 (by decide) hM117 dX1_bringIn_57 (fun v118 cv118 => ?_)
              refine j_aload_n C 1 1 dX1_bringIn_60 rfl rfl ?_
              refine y_getI C 8 _ _ fX1_bringIn_57 cv1 rfl ft_8_0 sb_8_0 hM117 dX1_bringIn_61 (fun a119 ea119 la119 ua119 => ?_)
              have qa119 : a119 = a111 := (s_fa eM117 (s_ne (c := 8) (d := 25) cv1 cv114 (by decide)) (ea119)).trans ea111.symm
              refine j_iload_n C 3 3 dX1_bringIn_64 rfl rfl ?_
              refine y_iastF C 26 8 cv118 rfl rfl ak_26 an_26 rfl (sb_26 _) hM117 (PX.w hpr cv118 rfl) dX1_bringIn_65 (by omega) (fun M121 eM121 hM121 => ?_)
              refine j_aload_n C 1 1 dX1_bringIn_66 rfl rfl ?_
              refine j_dup C dX1_bringIn_67 rfl ?_
              refine y_getI C 8 _ _ fX1_bringIn_57 cv1 rfl ft_8_0 sb_8_0 hM121 dX1_bringIn_68 (fun a122 ea122 la122 ua122 => ?_)
              have qa122 : a122 = a119 := (s_fa eM121 (s_ne (c := 8) (d := 26) cv1 cv118 (by decide)) (ea122)).trans ea119.symm
              refine y_iconst C dX1_bringIn_71 ?_
              refine y_iadd C dX1_bringIn_72 ?_
              refine y_putI C 8 _ _ qX1_bringIn_57 cv1 rfl ft_8_0 sb_8_0 hM121 (hq8_0 _ cv1) dX1_bringIn_73 (by omega) (fun M124 eM124 hM124 => ?_)
              refine j_aload_n C 1 1 dX1_bringIn_76 rfl rfl ?_
              refine y_getI C 8 _ _ fX1_bringIn_57 cv1 rfl ft_8_0 sb_8_0 hM124 dX1_bringIn_77 (fun a125 ea125 la125 ua125 => ?_)
              refine y_iconst C dX1_bringIn_80 ?_
              refine y_isub C dX1_bringIn_81 ?_
              exact hret _ _ _ _ dX1_bringIn_82 ⟨(a125 - 1), rfl, hM124, by omega⟩
            · refine y_bipush C dX1_bringIn_43 rfl ?_
              exact hret _ _ _ _ dX1_bringIn_45 ⟨(-13), rfl, hM0, by omega⟩
          · refine y_bipush C dX1_bringIn_31 rfl ?_
            exact hret _ _ _ _ dX1_bringIn_33 ⟨(-12), rfl, hM0, by omega⟩
        · refine y_bipush C dX1_bringIn_21 rfl ?_
          exact hret _ _ _ _ dX1_bringIn_23 ⟨(-11), rfl, hM0, by omega⟩
set_option maxHeartbeats 4000000 in
theorem s1_X11_add {l : Launch} {dC : Nat → ClassId} {dI : Nat → Nat → Nat} {ad : Nat → Nat} {cA : Nat → ClassId} {pr : Nat → Nat → Bool} {Kz : mm_M} {M0 : mm_M} (hM0 : INV pr Kz M0) (hpr : PX pr) (hq8_0 : ∀ i, s_c i = 8 → pr i 0 = false) (a1 : Int) (ha1 : -2147483648 ≤ a1 ∧ a1 ≤ 2147483647) (a2 : Int) (ha2 : -2147483648 ≤ a2 ∧ a2 ≤ 2147483647) : Ci l 3 yX11_add wsX11_add dC dI ad cA [.ref (ad 0), .int (sI a1), .int (sI a2)] M0 (fun r M' => ∃ a : Int, r = sI a ∧ INV pr Kz M' ∧ (-2147483648) ≤ a ∧ a ≤ 2147483647) := by
  refine ci_of (cc := cX11_add) (maxL := 3) (ty := .int) (lv := [(0, .ref (ad 0)), (1, .int (sI a1)), (2, .int (sI a2))]) (by decide) rfl (fun r M' hp => rfl) (Nat.le_of_ble_eq_true rfl) rfl ?_
  intro p e s m args below meth c A Q C hret
  refine j_aload_n C 0 0 dX11_add_0 rfl rfl ?_
  refine y_getC C 10 15 fX11_add_40 rfl rfl ft_10_7 sm_10_7 rfl hM0 dX11_add_1 ?_
  refine j_aload_n C 0 0 dX11_add_4 rfl rfl ?_
  refine y_getC C 10 12 fX11_add_36 rfl rfl ft_10_6 sm_10_6 rfl hM0 dX11_add_5 ?_
  refine j_callVv C (d := 0) (As := [.ref (ad 12)]) (st := []) 15 (s_lt rfl rfl) (s_kc (c := 8) rfl rfl) (by decide) rfl (s1_X9_copyFrom hM0 hpr hq8_0 rfl rfl) gX11_add_X9_copyFrom rfl hdX9_copyFrom (by decide) (Nat.le_of_ble_eq_true rfl) dX11_add_8 rfl (fun M102 h103 => ?_)
  have hM102 := h103
  refine j_aload_n C 0 0 dX11_add_11 rfl rfl ?_
  refine j_aload_n C 0 0 dX11_add_12 rfl rfl ?_
  refine y_getC C 10 87 fX11_add_85 rfl rfl ft_10_13 sm_10_13 rfl hM102 dX11_add_13 ?_
  refine j_aload_n C 0 0 dX11_add_16 rfl rfl ?_
  refine y_getC C 10 12 fX11_add_36 rfl rfl ft_10_6 sm_10_6 rfl hM102 dX11_add_17 ?_
  refine j_iload_n C 1 1 dX11_add_20 rfl rfl ?_
  refine j_iload_n C 2 2 dX11_add_21 rfl rfl ?_
  refine j_callVi C (d := 2) (As := [.ref (ad 12), .int (sI a1), .int (sI a2)]) (st := [.ref (ad 0)]) 87 (s_lt rfl rfl) (s_kc (c := 1) rfl rfl) (by decide) rfl (s1_X1_bringIn hM102 hpr hq8_0 rfl a1 (by omega) a2 (by omega)) gX11_add_X1_bringIn rfl hdX1_bringIn (by decide) (Nat.le_of_ble_eq_true rfl) dX11_add_22 rfl (fun r105 M106 h107 => ?_)
  obtain ⟨a109, rfl, hM106, h108⟩ := h107
  refine j_callVi C (d := 2) (As := [.int (sI a109)]) (st := []) 0 (s_lt rfl rfl) (s_kc (c := 10) rfl rfl) (by decide) rfl (s1_X11_settle hM106 hpr hq8_0 a109 (by omega)) gX11_add_X11_settle rfl hdX11_settle (by decide) (Nat.le_of_ble_eq_true rfl) dX11_add_25 rfl (fun r110 M111 h112 => ?_)
  obtain ⟨a114, rfl, hM111, h113⟩ := h112
  exact hret _ _ _ _ dX11_add_28 ⟨a114, rfl, hM111, by omega⟩
set_option maxHeartbeats 4000000 in
theorem s1_X1_reprice {l : Launch} {dC : Nat → ClassId} {dI : Nat → Nat → Nat} {ad : Nat → Nat} {cA : Nat → ClassId} {pr : Nat → Nat → Bool} {Kz : mm_M} {M0 : mm_M} (hM0 : INV pr Kz M0) (hpr : PX pr) {v1 : Nat} (cv1 : s_c v1 = 8) (a2 : Int) (ha2 : -2147483648 ≤ a2 ∧ a2 ≤ 2147483647) (a3 : Int) (ha3 : -2147483648 ≤ a3 ∧ a3 ≤ 2147483647) : Ci l 2 yX1_reprice wsX1_reprice dC dI ad cA [.ref (ad 87), .ref (ad v1), .int (sI a2), .int (sI a3)] M0 (fun r M' => ∃ a : Int, r = sI a ∧ INV pr Kz M' ∧ (-2147483648) ≤ a ∧ a ≤ 2147483647) := by
  refine ci_of (cc := cX1_reprice) (maxL := 5) (ty := .int) (lv := [(0, .ref (ad 87)), (1, .ref (ad v1)), (2, .int (sI a2)), (3, .int (sI a3))]) (by decide) rfl (fun r M' hp => rfl) (Nat.le_of_ble_eq_true rfl) rfl ?_
  intro p e s m args below meth c A Q C hret
  refine j_aload_n C 1 1 dX1_reprice_0 rfl rfl ?_
  refine j_iload_n C 2 2 dX1_reprice_1 rfl rfl ?_
  refine j_callVi C (d := 0) (As := [.int (sI a2)]) (st := []) v1 (s_lt cv1 rfl) (s_kc (c := 8) cv1 rfl) (by decide) rfl (s1_X9_holds hM0 cv1 a2 (by omega)) gX1_reprice_X9_holds rfl hdX9_holds (by decide) (Nat.le_of_ble_eq_true rfl) dX1_reprice_2 rfl (fun r101 M102 h103 => ?_)
  obtain ⟨a105, rfl, rfl, h104⟩ := h103
  refine y_if_eq C 19 dX1_reprice_5 (by decide) (by omega) (fun h106 => ?_) (fun h106 => ?_)
  · refine y_bipush C dX1_reprice_19 rfl ?_
    exact hret _ _ _ _ dX1_reprice_21 ⟨(-11), rfl, hM0, by omega⟩
  · refine j_iload_n C 3 3 dX1_reprice_8 rfl rfl ?_
    refine y_iconst C dX1_reprice_9 ?_
    refine y_icmp_lt C 19 dX1_reprice_10 (by decide) (by omega) (fun h107 => ?_) (fun h107 => ?_)
    · refine y_bipush C dX1_reprice_19 rfl ?_
      exact hret _ _ _ _ dX1_reprice_21 ⟨(-11), rfl, hM0, by omega⟩
    · refine j_iload_n C 3 3 dX1_reprice_13 rfl rfl ?_
      refine y_bipush C dX1_reprice_14 rfl ?_
      refine y_icmp_le C 22 dX1_reprice_16 (by decide) (by omega) (fun h108 => ?_) (fun h108 => ?_)
      · refine j_aload_n C 1 1 dX1_reprice_22 rfl rfl ?_
        refine j_callVi C (d := 1) (As := []) (st := []) v1 (s_lt cv1 rfl) (s_kc (c := 8) cv1 rfl) (by decide) rfl (s1_X9_isShut hM0 cv1) gX1_reprice_X9_isShut rfl hdX9_isShut (by decide) (Nat.le_of_ble_eq_true rfl) dX1_reprice_23 rfl (fun r109 M110 h111 => ?_)
        obtain ⟨a113, rfl, rfl, h112⟩ := h111
        refine y_if_eq C 32 dX1_reprice_26 (by decide) (by omega) (fun h114 => ?_) (fun h114 => ?_)
        · refine j_aload_n C 1 1 dX1_reprice_32 rfl rfl ?_
          refine y_getT C 8 25 fX1_reprice_46 cv1 rfl ft_8_1 rfl sm_8_1 st_8_1 (by decide) hM0 dX1_reprice_33 (fun v115 cv115 => ?_)
          refine j_iload_n C 2 2 dX1_reprice_36 rfl rfl ?_
          refine y_iald C 25 8 _ _ cv115 rfl rfl ak_25 an_25 rfl (sb_25 _) hM0 dX1_reprice_37 (by omega) (fun a116 ea116 la116 ua116 => ?_)
          refine j_istore C 4 [(4, .int (sI a116)), (0, .ref (ad 87)), (1, .ref (ad v1)), (2, .int (sI a2)), (3, .int (sI a3))] dX1_reprice_38 (by decide) rfl ?_
          refine j_aload_n C 2 1 dX1_reprice_40 rfl rfl ?_
          refine y_getT C 8 25 fX1_reprice_46 cv1 rfl ft_8_1 rfl sm_8_1 st_8_1 (by decide) hM0 dX1_reprice_41 (fun v117 cv117 => ?_)
          refine j_iload_n C 3 2 dX1_reprice_44 rfl rfl ?_
          refine j_iload_n C 4 3 dX1_reprice_45 rfl rfl ?_
          refine y_iastF C 25 8 cv117 rfl rfl ak_25 an_25 rfl (sb_25 _) hM0 (PX.w hpr cv117 rfl) dX1_reprice_46 (by omega) (fun M118 eM118 hM118 => ?_)
          refine j_iload C 0 dX1_reprice_47 rfl ?_
          exact hret _ _ _ _ dX1_reprice_49 ⟨a116, rfl, hM118, by omega⟩
        · refine y_bipush C dX1_reprice_29 rfl ?_
          exact hret _ _ _ _ dX1_reprice_31 ⟨(-12), rfl, hM0, by omega⟩
      · refine y_bipush C dX1_reprice_19 rfl ?_
        exact hret _ _ _ _ dX1_reprice_21 ⟨(-11), rfl, hM0, by omega⟩
set_option maxHeartbeats 4000000 in
theorem s1_X11_price {l : Launch} {dC : Nat → ClassId} {dI : Nat → Nat → Nat} {ad : Nat → Nat} {cA : Nat → ClassId} {pr : Nat → Nat → Bool} {Kz : mm_M} {M0 : mm_M} (hM0 : INV pr Kz M0) (hpr : PX pr) (hq8_0 : ∀ i, s_c i = 8 → pr i 0 = false) (a1 : Int) (ha1 : -2147483648 ≤ a1 ∧ a1 ≤ 2147483647) (a2 : Int) (ha2 : -2147483648 ≤ a2 ∧ a2 ≤ 2147483647) : Ci l 3 yX11_price wsX11_price dC dI ad cA [.ref (ad 0), .int (sI a1), .int (sI a2)] M0 (fun r M' => ∃ a : Int, r = sI a ∧ INV pr Kz M' ∧ (-2147483648) ≤ a ∧ a ≤ 2147483647) := by
  refine ci_of (cc := cX11_price) (maxL := 3) (ty := .int) (lv := [(0, .ref (ad 0)), (1, .int (sI a1)), (2, .int (sI a2))]) (by decide) rfl (fun r M' hp => rfl) (Nat.le_of_ble_eq_true rfl) rfl ?_
  intro p e s m args below meth c A Q C hret
  refine j_aload_n C 0 0 dX11_price_0 rfl rfl ?_
  refine y_getC C 10 15 fX11_price_40 rfl rfl ft_10_7 sm_10_7 rfl hM0 dX11_price_1 ?_
  refine j_aload_n C 0 0 dX11_price_4 rfl rfl ?_
  refine y_getC C 10 12 fX11_price_36 rfl rfl ft_10_6 sm_10_6 rfl hM0 dX11_price_5 ?_
  refine j_callVv C (d := 0) (As := [.ref (ad 12)]) (st := []) 15 (s_lt rfl rfl) (s_kc (c := 8) rfl rfl) (by decide) rfl (s1_X9_copyFrom hM0 hpr hq8_0 rfl rfl) gX11_price_X9_copyFrom rfl hdX9_copyFrom (by decide) (Nat.le_of_ble_eq_true rfl) dX11_price_8 rfl (fun M102 h103 => ?_)
  have hM102 := h103
  refine j_aload_n C 0 0 dX11_price_11 rfl rfl ?_
  refine j_aload_n C 0 0 dX11_price_12 rfl rfl ?_
  refine y_getC C 10 87 fX11_price_85 rfl rfl ft_10_13 sm_10_13 rfl hM102 dX11_price_13 ?_
  refine j_aload_n C 0 0 dX11_price_16 rfl rfl ?_
  refine y_getC C 10 12 fX11_price_36 rfl rfl ft_10_6 sm_10_6 rfl hM102 dX11_price_17 ?_
  refine j_iload_n C 1 1 dX11_price_20 rfl rfl ?_
  refine j_iload_n C 2 2 dX11_price_21 rfl rfl ?_
  refine j_callVi C (d := 2) (As := [.ref (ad 12), .int (sI a1), .int (sI a2)]) (st := [.ref (ad 0)]) 87 (s_lt rfl rfl) (s_kc (c := 1) rfl rfl) (by decide) rfl (s1_X1_reprice hM102 hpr rfl a1 (by omega) a2 (by omega)) gX11_price_X1_reprice rfl hdX1_reprice (by decide) (Nat.le_of_ble_eq_true rfl) dX11_price_22 rfl (fun r105 M106 h107 => ?_)
  obtain ⟨a109, rfl, hM106, h108⟩ := h107
  refine j_callVi C (d := 2) (As := [.int (sI a109)]) (st := []) 0 (s_lt rfl rfl) (s_kc (c := 10) rfl rfl) (by decide) rfl (s1_X11_settle hM106 hpr hq8_0 a109 (by omega)) gX11_price_X11_settle rfl hdX11_settle (by decide) (Nat.le_of_ble_eq_true rfl) dX11_price_25 rfl (fun r110 M111 h112 => ?_)
  obtain ⟨a114, rfl, hM111, h113⟩ := h112
  exact hret _ _ _ _ dX11_price_28 ⟨a114, rfl, hM111, by omega⟩
set_option maxHeartbeats 4000000 in
theorem s1_X7_together {l : Launch} {dC : Nat → ClassId} {dI : Nat → Nat → Nat} {ad : Nat → Nat} {cA : Nat → ClassId} {pr : Nat → Nat → Bool} {Kz : mm_M} {M0 : mm_M} (hM0 : INV pr Kz M0) {v0 : Nat} (cv0 : s_c v0 = 6) : Ci l 0 yX7_together wsX7_together dC dI ad cA [.ref (ad v0)] M0 (fun r M' => ∃ a : Int, r = sI a ∧ M0 = M' ∧ (-2147483648) ≤ a ∧ a ≤ 2147483647) := by
  refine ci_of (cc := cX7_together) (maxL := 3) (ty := .int) (lv := [(0, .ref (ad v0))]) (by decide) rfl (fun r M' hp => rfl) (Nat.le_of_ble_eq_true rfl) rfl ?_
  intro p e s m args below meth c A Q C hret
  refine y_iconst C dX7_together_0 ?_
  refine j_istore_n C 1 [(1, .int (sI 0)), (0, .ref (ad v0))] dX7_together_1 rfl (by decide) rfl ?_
  refine y_iconst C dX7_together_2 ?_
  refine j_istore_n C 2 [(2, .int (sI 0)), (1, .int (sI 0)), (0, .ref (ad v0))] dX7_together_3 rfl (by decide) rfl ?_
  have L158 : ∀ (n156 : Nat), ∀ (a159 : Int) (a160 : Int), ((-2147483648) ≤ a159 ∧ a159 ≤ 2147483647 ∧ 0 ≤ a160 ∧ a160 ≤ 6 ∧ (6 - a160) < (n156 : Int)) → jj p l e (cn_R 0) s m args below meth c 0 0 Q 3 dC dI ad cA A M0 4 [(0, .ref (ad v0)), (1, .int (sI a159)), (2, .int (sI a160))] [] := by
    intro n156
    induction n156 with
    | zero =>
      intro a159 a160 h161
      exfalso; omega
    | succ n156 ih157 =>
      intro a159 a160 h161
      refine j_iload_n C 2 2 dX7_together_4 rfl rfl ?_
      refine j_aload_n C 0 0 dX7_together_5 rfl rfl ?_
      refine y_getI C 6 _ _ fX7_together_9 cv0 rfl ft_6_0 sb_6_0 hM0 dX7_together_6 (fun a162 ea162 la162 ua162 => ?_)
      refine y_icmp_ge C 27 dX7_together_9 (by decide) (by omega) (fun h164 => ?_) (fun h164 => ?_)
      · refine j_iload_n C 1 1 dX7_together_27 rfl rfl ?_
        exact hret _ _ _ _ dX7_together_28 ⟨a159, rfl, rfl, by omega⟩
      · refine j_iload_n C 1 1 dX7_together_12 rfl rfl ?_
        refine j_aload_n C 0 0 dX7_together_13 rfl rfl ?_
        refine y_getT C 6 23 fX7_together_25 cv0 rfl ft_6_4 rfl sm_6_4 st_6_4 (by decide) hM0 dX7_together_14 (fun v165 cv165 => ?_)
        refine j_iload_n C 2 2 dX7_together_17 rfl rfl ?_
        refine y_iald C 23 6 _ _ cv165 rfl rfl ak_23 an_23 rfl (sb_23 _) hM0 dX7_together_18 (by omega) (fun a166 ea166 la166 ua166 => ?_)
        refine y_iadd0 C dX7_together_19 (fun a167 la167 ua167 => ?_)
        refine j_istore_n C 1 [(1, .int (sI a167)), (0, .ref (ad v0)), (2, .int (sI a160))] dX7_together_20 rfl (by decide) rfl ?_
        refine y_iinc C 2 [(2, .int (sI (a160 + 1))), (1, .int (sI a167)), (0, .ref (ad v0))] dX7_together_21 rfl (by decide) rfl ?_
        refine j_goto C 4 dX7_together_24 (by decide) ?_
        refine j_lv [2, 1, 0] rfl ?_; exact ih157 a167 (a160 + 1) (by omega)
  refine j_lv [2, 1, 0] rfl ?_; exact L158 4294967306 0 0 (by omega)
set_option maxHeartbeats 4000000 in
theorem s1_X9_draw {l : Launch} {dC : Nat → ClassId} {dI : Nat → Nat → Nat} {ad : Nat → Nat} {cA : Nat → ClassId} {pr : Nat → Nat → Bool} {Kz : mm_M} {M0 : mm_M} (hM0 : INV pr Kz M0) (hpr : PX pr) {v0 : Nat} (cv0 : s_c v0 = 8) : Ci l 0 yX9_draw wsX9_draw dC dI ad cA [.ref (ad v0)] M0 (fun r M' => ∃ a : Int, r = sI a ∧ INV pr Kz M' ∧ 0 ≤ a ∧ a ≤ 65535) := by
  refine ci_of (cc := cX9_draw) (maxL := 1) (ty := .int) (lv := [(0, .ref (ad v0))]) (by decide) rfl (fun r M' hp => rfl) (Nat.le_of_ble_eq_true rfl) rfl ?_
  intro p e s m args below meth c A Q C hret
  refine j_aload_n C 0 0 dX9_draw_0 rfl rfl ?_
  refine y_ldc C 1103515245 dX9_draw_1 kX9_draw_44 rfl ?_
  refine j_aload_n C 0 0 dX9_draw_3 rfl rfl ?_
  refine y_getI C 8 _ _ fX9_draw_37 cv0 rfl ft_8_8 sb_8_8 hM0 dX9_draw_4 (fun a101 ea101 la101 ua101 => ?_)
  refine y_imul0 C dX9_draw_7 (fun a103 la103 ua103 => ?_)
  refine y_sipush C dX9_draw_8 rfl ?_
  refine y_iadd0 C dX9_draw_11 (fun a104 la104 ua104 => ?_)
  refine y_putIF C 8 qX9_draw_37 cv0 rfl ft_8_8 sb_8_8 hM0 (PX.w hpr cv0 rfl) dX9_draw_12 (fun M105 eM105 hM105 => ?_)
  refine j_aload_n C 0 0 dX9_draw_15 rfl rfl ?_
  refine y_getI C 8 _ _ fX9_draw_37 cv0 rfl ft_8_8 sb_8_8 hM105 dX9_draw_16 (fun a106 ea106 la106 ua106 => ?_)
  refine y_bipush C dX9_draw_19 rfl ?_
  refine y_iushr16 C dX9_draw_21 (fun a108 la108 ua108 => ?_)
  exact hret _ _ _ _ dX9_draw_22 ⟨a108, rfl, hM105, by omega⟩
set_option maxHeartbeats 4000000 in
theorem s1_X7_comerFor {l : Launch} {dC : Nat → ClassId} {dI : Nat → Nat → Nat} {ad : Nat → Nat} {cA : Nat → ClassId} {pr : Nat → Nat → Bool} {Kz : mm_M} {M0 : mm_M} (hM0 : INV pr Kz M0) {v0 : Nat} (cv0 : s_c v0 = 6) (a1 : Int) (ha1 : -2147483648 ≤ a1 ∧ a1 ≤ 2147483647) : Ci l 0 yX7_comerFor wsX7_comerFor dC dI ad cA [.ref (ad v0), .int (sI a1)] M0 (fun r M' => ∃ a : Int, r = sI a ∧ M0 = M' ∧ (-1) ≤ a ∧ a ≤ 5) := by
  refine ci_of (cc := cX7_comerFor) (maxL := 4) (ty := .int) (lv := [(0, .ref (ad v0)), (1, .int (sI a1))]) (by decide) rfl (fun r M' hp => rfl) (Nat.le_of_ble_eq_true rfl) rfl ?_
  intro p e s m args below meth c A Q C hret
  refine y_iconst C dX7_comerFor_0 ?_
  refine j_istore_n C 2 [(2, .int (sI 0)), (0, .ref (ad v0)), (1, .int (sI a1))] dX7_comerFor_1 rfl (by decide) rfl ?_
  refine y_iconst C dX7_comerFor_2 ?_
  refine j_istore_n C 3 [(3, .int (sI 0)), (2, .int (sI 0)), (0, .ref (ad v0)), (1, .int (sI a1))] dX7_comerFor_3 rfl (by decide) rfl ?_
  have L165 : ∀ (n163 : Nat), ∀ (a166 : Int) (a167 : Int), ((-2147483648) ≤ a166 ∧ a166 ≤ 2147483647 ∧ 0 ≤ a167 ∧ a167 ≤ 6 ∧ (6 - a167) < (n163 : Int)) → jj p l e (cn_R 0) s m args below meth c 0 0 Q 4 dC dI ad cA A M0 4 [(0, .ref (ad v0)), (1, .int (sI a1)), (2, .int (sI a166)), (3, .int (sI a167))] [] := by
    intro n163
    induction n163 with
    | zero =>
      intro a166 a167 h168
      exfalso; omega
    | succ n163 ih164 =>
      intro a166 a167 h168
      refine j_iload_n C 3 3 dX7_comerFor_4 rfl rfl ?_
      refine j_aload_n C 0 0 dX7_comerFor_5 rfl rfl ?_
      refine y_getI C 6 _ _ fX7_comerFor_9 cv0 rfl ft_6_0 sb_6_0 hM0 dX7_comerFor_6 (fun a169 ea169 la169 ua169 => ?_)
      refine y_icmp_ge C 34 dX7_comerFor_9 (by decide) (by omega) (fun h171 => ?_) (fun h171 => ?_)
      · refine y_iconst C dX7_comerFor_34 ?_
        exact hret _ _ _ _ dX7_comerFor_35 ⟨(-1), rfl, rfl, by omega⟩
      · refine j_iload_n C 2 2 dX7_comerFor_12 rfl rfl ?_
        refine j_aload_n C 0 0 dX7_comerFor_13 rfl rfl ?_
        refine y_getT C 6 23 fX7_comerFor_25 cv0 rfl ft_6_4 rfl sm_6_4 st_6_4 (by decide) hM0 dX7_comerFor_14 (fun v172 cv172 => ?_)
        refine j_iload_n C 3 3 dX7_comerFor_17 rfl rfl ?_
        refine y_iald C 23 6 _ _ cv172 rfl rfl ak_23 an_23 rfl (sb_23 _) hM0 dX7_comerFor_18 (by omega) (fun a173 ea173 la173 ua173 => ?_)
        refine y_iadd0 C dX7_comerFor_19 (fun a174 la174 ua174 => ?_)
        refine j_istore_n C 2 [(2, .int (sI a174)), (0, .ref (ad v0)), (1, .int (sI a1)), (3, .int (sI a167))] dX7_comerFor_20 rfl (by decide) rfl ?_
        refine j_iload_n C 0 2 dX7_comerFor_21 rfl rfl ?_
        refine j_iload_n C 2 1 dX7_comerFor_22 rfl rfl ?_
        refine y_icmp_le C 28 dX7_comerFor_23 (by decide) (by omega) (fun h175 => ?_) (fun h175 => ?_)
        · refine y_iinc C 3 [(3, .int (sI (a167 + 1))), (2, .int (sI a174)), (0, .ref (ad v0)), (1, .int (sI a1))] dX7_comerFor_28 rfl (by decide) rfl ?_
          refine j_goto C 4 dX7_comerFor_31 (by decide) ?_
          refine j_lv [2, 3, 1, 0] rfl ?_; exact ih164 a174 (a167 + 1) (by omega)
        · refine j_iload_n C 3 3 dX7_comerFor_26 rfl rfl ?_
          exact hret _ _ _ _ dX7_comerFor_27 ⟨a167, rfl, rfl, by omega⟩
  refine j_lv [2, 3, 1, 0] rfl ?_; exact L165 4294967306 0 0 (by omega)
set_option maxHeartbeats 4000000 in
theorem s1_X1_passDay {l : Launch} {dC : Nat → ClassId} {dI : Nat → Nat → Nat} {ad : Nat → Nat} {cA : Nat → ClassId} {pr : Nat → Nat → Bool} {Kz : mm_M} {M0 : mm_M} (hM0 : INV pr Kz M0) (hpr : PX pr) {v1 : Nat} (cv1 : s_c v1 = 6) {v2 : Nat} (cv2 : s_c v2 = 8) : Ci l 1 yX1_passDay wsX1_passDay dC dI ad cA [.ref (ad 87), .ref (ad v1), .ref (ad v2)] M0 (fun r M' => ∃ a : Int, r = sI a ∧ INV pr Kz M' ∧ (-1) ≤ a ∧ a ≤ 5) := by
  refine ci_of (cc := cX1_passDay) (maxL := 4) (ty := .int) (lv := [(0, .ref (ad 87)), (1, .ref (ad v1)), (2, .ref (ad v2))]) (by decide) rfl (fun r M' hp => rfl) (Nat.le_of_ble_eq_true rfl) rfl ?_
  intro p e s m args below meth c A Q C hret
  refine j_aload_n C 2 2 dX1_passDay_0 rfl rfl ?_
  refine j_dup C dX1_passDay_1 rfl ?_
  refine y_getI C 8 _ _ fX1_passDay_63 cv2 rfl ft_8_7 sb_8_7 hM0 dX1_passDay_2 (fun a101 ea101 la101 ua101 => ?_)
  refine y_iconst C dX1_passDay_5 ?_
  refine y_iadd0 C dX1_passDay_6 (fun a103 la103 ua103 => ?_)
  refine y_putIF C 8 qX1_passDay_63 cv2 rfl ft_8_7 sb_8_7 hM0 (PX.w hpr cv2 rfl) dX1_passDay_7 (fun M104 eM104 hM104 => ?_)
  refine j_aload_n C 1 1 dX1_passDay_10 rfl rfl ?_
  refine j_callVi C (d := 0) (As := []) (st := []) v1 (s_lt cv1 rfl) (s_kc (c := 6) cv1 rfl) (by decide) rfl (s1_X7_together hM104 cv1) gX1_passDay_X7_together rfl hdX7_together (by decide) (Nat.le_of_ble_eq_true rfl) dX1_passDay_11 rfl (fun r105 M106 h107 => ?_)
  obtain ⟨a109, rfl, rfl, h108⟩ := h107
  refine j_istore_n C 3 [(3, .int (sI a109)), (0, .ref (ad 87)), (1, .ref (ad v1)), (2, .ref (ad v2))] dX1_passDay_14 rfl (by decide) rfl ?_
  refine j_iload_n C 0 3 dX1_passDay_15 rfl rfl ?_
  refine y_if_le C 32 dX1_passDay_16 (by decide) (by omega) (fun h110 => ?_) (fun h110 => ?_)
  · refine y_iconst C dX1_passDay_32 ?_
    exact hret _ _ _ _ dX1_passDay_33 ⟨(-1), rfl, hM104, by omega⟩
  · refine j_aload_n C 2 1 dX1_passDay_19 rfl rfl ?_
    refine j_aload_n C 3 2 dX1_passDay_20 rfl rfl ?_
    refine j_callVi C (d := 0) (As := []) (st := [.ref (ad v1)]) v2 (s_lt cv2 rfl) (s_kc (c := 8) cv2 rfl) (by decide) rfl (s1_X9_draw hM104 hpr cv2) gX1_passDay_X9_draw rfl hdX9_draw (by decide) (Nat.le_of_ble_eq_true rfl) dX1_passDay_21 rfl (fun r111 M112 h113 => ?_)
    obtain ⟨a115, rfl, hM112, h114⟩ := h113
    refine j_iload_n C 0 3 dX1_passDay_24 rfl rfl ?_
    refine y_iremV C dX1_passDay_25 (by omega) (fun a116 la116 ua116 => ?_)
    refine j_callVi C (d := 0) (As := [.int (sI a116)]) (st := []) v1 (s_lt cv1 rfl) (s_kc (c := 6) cv1 rfl) (by decide) rfl (s1_X7_comerFor hM112 cv1 a116 (by omega)) gX1_passDay_X7_comerFor rfl hdX7_comerFor (by decide) (Nat.le_of_ble_eq_true rfl) dX1_passDay_26 rfl (fun r117 M118 h119 => ?_)
    obtain ⟨a121, rfl, rfl, h120⟩ := h119
    refine j_goto C 33 dX1_passDay_29 (by decide) ?_
    exact hret _ _ _ _ dX1_passDay_33 ⟨a121, rfl, hM112, by omega⟩
set_option maxHeartbeats 4000000 in
theorem s1_X1_carryOut {l : Launch} {dC : Nat → ClassId} {dI : Nat → Nat → Nat} {ad : Nat → Nat} {cA : Nat → ClassId} {pr : Nat → Nat → Bool} {Kz : mm_M} {M0 : mm_M} (hM0 : INV pr Kz M0) (hpr : PX pr) {v1 : Nat} (cv1 : s_c v1 = 6) {v2 : Nat} (cv2 : s_c v2 = 8) (a3 : Int) (ha3 : -9223372036854775808 ≤ a3 ∧ a3 ≤ 9223372036854775807) : Ci l 5 yX1_carryOut wsX1_carryOut dC dI ad cA [.ref (ad 87), .ref (ad v1), .ref (ad v2), .long (sJ a3)] M0 (fun r M' => ∃ a : Int, r = sI a ∧ INV pr Kz M' ∧ (-2147483648) ≤ a ∧ a ≤ 2147483647) := by
  refine ci_of (cc := cX1_carryOut) (maxL := 7) (ty := .int) (lv := [(0, .ref (ad 87)), (1, .ref (ad v1)), (2, .ref (ad v2)), (3, .long (sJ a3))]) (by decide) rfl (fun r M' hp => rfl) (Nat.le_of_ble_eq_true rfl) rfl ?_
  intro p e s m args below meth c A Q C hret
  refine j_lload_n C 3 3 dX1_carryOut_0 rfl rfl ?_
  refine y_ldc2 C (-1) dX1_carryOut_1 kX1_carryOut_77 rfl ?_
  refine y_lcmp_lt C 16 dX1_carryOut_4 dX1_carryOut_5 (by decide) (by omega) (fun h101 => ?_) (fun h101 => ?_)
  · refine y_bipush C dX1_carryOut_16 rfl ?_
    exact hret _ _ _ _ dX1_carryOut_18 ⟨(-11), rfl, hM0, by omega⟩
  · refine j_lload_n C 3 3 dX1_carryOut_8 rfl rfl ?_
    refine y_ldc2 C 1999 dX1_carryOut_9 kX1_carryOut_79 rfl ?_
    refine y_lcmp_le C 19 dX1_carryOut_12 dX1_carryOut_13 (by decide) (by omega) (fun h102 => ?_) (fun h102 => ?_)
    · refine j_lload_n C 3 3 dX1_carryOut_19 rfl rfl ?_
      refine y_l2i C dX1_carryOut_20 ?_
      refine j_istore C 5 [(5, .int (sI a3)), (0, .ref (ad 87)), (1, .ref (ad v1)), (2, .ref (ad v2)), (3, .long (sJ a3))] dX1_carryOut_21 (by decide) rfl ?_
      refine j_iload C 0 dX1_carryOut_23 rfl ?_
      refine y_iconst C dX1_carryOut_25 ?_
      refine y_icmp_ne C 54 dX1_carryOut_26 (by decide) (by omega) (fun h103 => ?_) (fun h103 => ?_)
      · refine j_iload C 0 dX1_carryOut_54 rfl ?_
        refine y_bipush C dX1_carryOut_56 rfl ?_
        refine y_icmp_gt C 70 dX1_carryOut_58 (by decide) (by omega) (fun h104 => ?_) (fun h104 => ?_)
        · refine j_iload C 0 dX1_carryOut_70 rfl ?_
          refine y_bipush C dX1_carryOut_72 rfl ?_
          refine y_icmp_lt C 95 dX1_carryOut_74 (by decide) (by omega) (fun h105 => ?_) (fun h105 => ?_)
          · refine j_iload C 0 dX1_carryOut_95 rfl ?_
            refine y_sipush C dX1_carryOut_97 rfl ?_
            refine y_icmp_lt C 123 dX1_carryOut_100 (by decide) (by omega) (fun h106 => ?_) (fun h106 => ?_)
            · refine j_iload C 0 dX1_carryOut_123 rfl ?_
              refine y_sipush C dX1_carryOut_125 rfl ?_
              refine y_icmp_lt C 151 dX1_carryOut_128 (by decide) (by omega) (fun h107 => ?_) (fun h107 => ?_)
              · refine y_bipush C dX1_carryOut_151 rfl ?_
                exact hret _ _ _ _ dX1_carryOut_153 ⟨(-11), rfl, hM0, by omega⟩
              · exfalso; omega
            · exfalso; omega
          · refine j_iload C 0 dX1_carryOut_77 rfl ?_
            refine y_bipush C dX1_carryOut_79 rfl ?_
            refine y_icmp_gt C 95 dX1_carryOut_81 (by decide) (by omega) (fun h108 => ?_) (fun h108 => ?_)
            · refine j_iload C 0 dX1_carryOut_95 rfl ?_
              refine y_sipush C dX1_carryOut_97 rfl ?_
              refine y_icmp_lt C 123 dX1_carryOut_100 (by decide) (by omega) (fun h109 => ?_) (fun h109 => ?_)
              · refine j_iload C 0 dX1_carryOut_123 rfl ?_
                refine y_sipush C dX1_carryOut_125 rfl ?_
                refine y_icmp_lt C 151 dX1_carryOut_128 (by decide) (by omega) (fun h110 => ?_) (fun h110 => ?_)
                · refine y_bipush C dX1_carryOut_151 rfl ?_
                  exact hret _ _ _ _ dX1_carryOut_153 ⟨(-11), rfl, hM0, by omega⟩
                · exfalso; omega
              · refine j_iload C 0 dX1_carryOut_103 rfl ?_
                refine y_sipush C dX1_carryOut_105 rfl ?_
                refine y_icmp_gt C 123 dX1_carryOut_108 (by decide) (by omega) (fun h111 => ?_) (fun h111 => ?_)
                · refine j_iload C 0 dX1_carryOut_123 rfl ?_
                  refine y_sipush C dX1_carryOut_125 rfl ?_
                  refine y_icmp_lt C 151 dX1_carryOut_128 (by decide) (by omega) (fun h112 => ?_) (fun h112 => ?_)
                  · refine y_bipush C dX1_carryOut_151 rfl ?_
                    exact hret _ _ _ _ dX1_carryOut_153 ⟨(-11), rfl, hM0, by omega⟩
                  · refine j_aload_n C 1 0 dX1_carryOut_131 rfl rfl ?_
                    refine j_aload_n C 3 2 dX1_carryOut_132 rfl rfl ?_
                    refine j_iload C 0 dX1_carryOut_133 rfl ?_
                    refine y_sipush C dX1_carryOut_135 rfl ?_
                    refine y_isub C dX1_carryOut_138 ?_
                    refine y_bipush C dX1_carryOut_139 rfl ?_
                    refine y_idiv C dX1_carryOut_141 (by omega) ?_
                    refine j_iload C 0 dX1_carryOut_142 rfl ?_
                    refine y_bipush C dX1_carryOut_144 rfl ?_
                    refine y_irem C dX1_carryOut_146 (by omega) ?_
                    refine j_callVi C (d := 2) (As := [.ref (ad v2), .int (sI ((a3 - 1000) / 100)), .int (sI (a3 % 100))]) (st := []) 87 (s_lt rfl rfl) (s_kc (c := 1) rfl rfl) (by decide) rfl (s1_X1_reprice hM0 hpr cv2 ((a3 - 1000) / 100) (by omega) (a3 % 100) (by omega)) gX1_carryOut_X1_reprice rfl hdX1_reprice (by decide) (Nat.le_of_ble_eq_true rfl) dX1_carryOut_147 rfl (fun r113 M114 h115 => ?_)
                    obtain ⟨a117, rfl, hM114, h116⟩ := h115
                    exact hret _ _ _ _ dX1_carryOut_150 ⟨a117, rfl, hM114, by omega⟩
                · refine j_aload_n C 1 0 dX1_carryOut_111 rfl rfl ?_
                  refine j_aload_n C 3 2 dX1_carryOut_112 rfl rfl ?_
                  refine j_iload C 0 dX1_carryOut_113 rfl ?_
                  refine y_sipush C dX1_carryOut_115 rfl ?_
                  refine y_isub C dX1_carryOut_118 ?_
                  refine j_callVi C (d := 2) (As := [.ref (ad v2), .int (sI (a3 - 200))]) (st := []) 87 (s_lt rfl rfl) (s_kc (c := 1) rfl rfl) (by decide) rfl (s1_X1_turn hM0 hpr cv2 (a3 - 200) (by omega)) gX1_carryOut_X1_turn rfl hdX1_turn (by decide) (Nat.le_of_ble_eq_true rfl) dX1_carryOut_119 rfl (fun r118 M119 h120 => ?_)
                  obtain ⟨a122, rfl, hM119, h121⟩ := h120
                  exact hret _ _ _ _ dX1_carryOut_122 ⟨a122, rfl, hM119, by omega⟩
            · refine j_aload_n C 1 0 dX1_carryOut_84 rfl rfl ?_
              refine j_aload_n C 3 2 dX1_carryOut_85 rfl rfl ?_
              refine j_iload C 0 dX1_carryOut_86 rfl ?_
              refine y_bipush C dX1_carryOut_88 rfl ?_
              refine y_isub C dX1_carryOut_90 ?_
              refine j_callVi C (d := 2) (As := [.ref (ad v2), .int (sI (a3 - 100))]) (st := []) 87 (s_lt rfl rfl) (s_kc (c := 1) rfl rfl) (by decide) rfl (s1_X1_giveAway hM0 hpr cv2 (a3 - 100) (by omega)) gX1_carryOut_X1_giveAway rfl hdX1_giveAway (by decide) (Nat.le_of_ble_eq_true rfl) dX1_carryOut_91 rfl (fun r123 M124 h125 => ?_)
              obtain ⟨a127, rfl, hM124, h126⟩ := h125
              exact hret _ _ _ _ dX1_carryOut_94 ⟨a127, rfl, hM124, by omega⟩
        · refine j_aload_n C 1 0 dX1_carryOut_61 rfl rfl ?_
          refine j_aload_n C 2 1 dX1_carryOut_62 rfl rfl ?_
          refine j_aload_n C 3 2 dX1_carryOut_63 rfl rfl ?_
          refine j_iload C 0 dX1_carryOut_64 rfl ?_
          refine j_callVi C (d := 4) (As := [.ref (ad v1), .ref (ad v2), .int (sI a3)]) (st := []) 87 (s_lt rfl rfl) (s_kc (c := 1) rfl rfl) (by decide) rfl (s1_X1_visitBy hM0 hpr cv1 cv2 a3 (by omega)) gX1_carryOut_X1_visitBy rfl hdX1_visitBy (by decide) (Nat.le_of_ble_eq_true rfl) dX1_carryOut_66 rfl (fun r128 M129 h130 => ?_)
          obtain ⟨a132, rfl, hM129, h131⟩ := h130
          exact hret _ _ _ _ dX1_carryOut_69 ⟨a132, rfl, hM129, by omega⟩
      · refine j_aload_n C 1 0 dX1_carryOut_29 rfl rfl ?_
        refine j_aload_n C 2 1 dX1_carryOut_30 rfl rfl ?_
        refine j_aload_n C 3 2 dX1_carryOut_31 rfl rfl ?_
        refine j_callVi C (d := 1) (As := [.ref (ad v1), .ref (ad v2)]) (st := []) 87 (s_lt rfl rfl) (s_kc (c := 1) rfl rfl) (by decide) rfl (s1_X1_passDay hM0 hpr cv1 cv2) gX1_carryOut_X1_passDay rfl hdX1_passDay (by decide) (Nat.le_of_ble_eq_true rfl) dX1_carryOut_32 rfl (fun r133 M134 h135 => ?_)
        obtain ⟨a137, rfl, hM134, h136⟩ := h135
        refine j_istore C 6 [(6, .int (sI a137)), (5, .int (sI a3)), (0, .ref (ad 87)), (1, .ref (ad v1)), (2, .ref (ad v2)), (3, .long (sJ a3))] dX1_carryOut_35 (by decide) rfl ?_
        refine j_aload_n C 2 0 dX1_carryOut_37 rfl rfl ?_
        refine j_aload_n C 3 1 dX1_carryOut_38 rfl rfl ?_
        refine j_aload_n C 4 2 dX1_carryOut_39 rfl rfl ?_
        refine j_iload C 0 dX1_carryOut_40 rfl ?_
        refine j_callVi C (d := 4) (As := [.ref (ad v1), .ref (ad v2), .int (sI a137)]) (st := []) 87 (s_lt rfl rfl) (s_kc (c := 1) rfl rfl) (by decide) rfl (s1_X1_visitBy hM134 hpr cv1 cv2 a137 (by omega)) gX1_carryOut_X1_visitBy rfl hdX1_visitBy (by decide) (Nat.le_of_ble_eq_true rfl) dX1_carryOut_42 rfl (fun r138 M139 h140 => ?_)
        obtain ⟨a142, rfl, hM139, h141⟩ := h140
        refine y_if_lt C 52 dX1_carryOut_45 (by decide) (by omega) (fun h143 => ?_) (fun h143 => ?_)
        · refine y_iconst C dX1_carryOut_52 ?_
          exact hret _ _ _ _ dX1_carryOut_53 ⟨0, rfl, hM139, by omega⟩
        · refine y_iconst C dX1_carryOut_48 ?_
          refine j_goto C 53 dX1_carryOut_49 (by decide) ?_
          exact hret _ _ _ _ dX1_carryOut_53 ⟨1, rfl, hM139, by omega⟩
    · refine y_bipush C dX1_carryOut_16 rfl ?_
      exact hret _ _ _ _ dX1_carryOut_18 ⟨(-11), rfl, hM0, by omega⟩
set_option maxHeartbeats 4000000 in
theorem s1_X11_days {l : Launch} {dC : Nat → ClassId} {dI : Nat → Nat → Nat} {ad : Nat → Nat} {cA : Nat → ClassId} {pr : Nat → Nat → Bool} {Kz : mm_M} {M0 : mm_M} (hM0 : INV pr Kz M0) (hpr : PX pr) (hq8_0 : ∀ i, s_c i = 8 → pr i 0 = false) (a1 : Int) (ha1 : -2147483648 ≤ a1 ∧ a1 ≤ 2147483647) : Ci l 6 yX11_days wsX11_days dC dI ad cA [.ref (ad 0), .int (sI a1)] M0 (fun r M' => ∃ a : Int, r = sI a ∧ INV pr Kz M' ∧ (-2147483648) ≤ a ∧ a ≤ 2147483647) := by
  refine ci_of (cc := cX11_days) (maxL := 4) (ty := .int) (lv := [(0, .ref (ad 0)), (1, .int (sI a1))]) (by decide) rfl (fun r M' hp => rfl) (Nat.le_of_ble_eq_true rfl) rfl ?_
  intro p e s m args below meth c A Q C hret
  refine j_iload_n C 1 1 dX11_days_0 rfl rfl ?_
  refine y_iconst C dX11_days_1 ?_
  refine y_icmp_lt C 11 dX11_days_2 (by decide) (by omega) (fun h101 => ?_) (fun h101 => ?_)
  · refine y_bipush C dX11_days_11 rfl ?_
    exact hret _ _ _ _ dX11_days_13 ⟨(-3), rfl, hM0, by omega⟩
  · refine j_iload_n C 1 1 dX11_days_5 rfl rfl ?_
    refine y_bipush C dX11_days_6 rfl ?_
    refine y_icmp_le C 14 dX11_days_8 (by decide) (by omega) (fun h102 => ?_) (fun h102 => ?_)
    · refine j_aload_n C 0 0 dX11_days_14 rfl rfl ?_
      refine y_getC C 10 15 fX11_days_40 rfl rfl ft_10_7 sm_10_7 rfl hM0 dX11_days_15 ?_
      refine j_aload_n C 0 0 dX11_days_18 rfl rfl ?_
      refine y_getC C 10 12 fX11_days_36 rfl rfl ft_10_6 sm_10_6 rfl hM0 dX11_days_19 ?_
      refine j_callVv C (d := 0) (As := [.ref (ad 12)]) (st := []) 15 (s_lt rfl rfl) (s_kc (c := 8) rfl rfl) (by decide) rfl (s1_X9_copyFrom hM0 hpr hq8_0 rfl rfl) gX11_days_X9_copyFrom rfl hdX9_copyFrom (by decide) (Nat.le_of_ble_eq_true rfl) dX11_days_22 rfl (fun M104 h105 => ?_)
      have hM104 := h105
      refine y_iconst C dX11_days_25 ?_
      refine j_istore_n C 2 [(2, .int (sI 0)), (0, .ref (ad 0)), (1, .int (sI a1))] dX11_days_26 rfl (by decide) rfl ?_
      refine y_iconst C dX11_days_27 ?_
      refine j_istore_n C 3 [(3, .int (sI 0)), (2, .int (sI 0)), (0, .ref (ad 0)), (1, .int (sI a1))] dX11_days_28 rfl (by decide) rfl ?_
      have L350 : ∀ (n348 : Nat), ∀ (a351 : Int) (a352 : Int) (M353 : mm_M), ((-2147483648) ≤ a351 ∧ a351 ≤ 2147483647 ∧ 0 ≤ a352 ∧ a352 ≤ 99 ∧ (99 - a352) < (n348 : Int)) → INV pr Kz M353 → jj p l e (cn_R 6) s m args below meth c 0 0 Q 4 dC dI ad cA A M353 29 [(0, .ref (ad 0)), (1, .int (sI a1)), (2, .int (sI a351)), (3, .int (sI a352))] [] := by
        intro n348
        induction n348 with
        | zero =>
          intro a351 a352 M353 h354 hM353
          exfalso; omega
        | succ n348 ih349 =>
          intro a351 a352 M353 h354 hM353
          refine j_iload_n C 3 3 dX11_days_29 rfl rfl ?_
          refine j_iload_n C 1 1 dX11_days_30 rfl rfl ?_
          refine y_icmp_ge C 61 dX11_days_31 (by decide) (by omega) (fun h355 => ?_) (fun h355 => ?_)
          · refine j_aload_n C 0 0 dX11_days_61 rfl rfl ?_
            refine y_getC C 10 18 fX11_days_46 rfl rfl ft_10_8 sm_10_8 rfl hM353 dX11_days_62 ?_
            refine j_aload_n C 0 0 dX11_days_65 rfl rfl ?_
            refine y_getC C 10 15 fX11_days_40 rfl rfl ft_10_7 sm_10_7 rfl hM353 dX11_days_66 ?_
            refine j_callVv C (d := 1) (As := [.ref (ad 15)]) (st := []) 18 (s_lt rfl rfl) (s_kc (c := 5) rfl rfl) (by decide) rfl (s1_X6_keep hM353 hpr hq8_0 rfl) gX11_days_X6_keep rfl hdX6_keep (by decide) (Nat.le_of_ble_eq_true rfl) dX11_days_69 rfl (fun M364 h365 => ?_)
            have hM364 := h365
            refine j_iload_n C 2 2 dX11_days_72 rfl rfl ?_
            exact hret _ _ _ _ dX11_days_73 ⟨a351, rfl, hM364, by omega⟩
          · refine j_iload_n C 2 2 dX11_days_34 rfl rfl ?_
            refine j_aload_n C 0 0 dX11_days_35 rfl rfl ?_
            refine y_getC C 10 87 fX11_days_85 rfl rfl ft_10_13 sm_10_13 rfl hM353 dX11_days_36 ?_
            refine j_aload_n C 0 0 dX11_days_39 rfl rfl ?_
            refine y_getM C 10 6 fX11_days_26 rfl rfl ft_10_4 sm_10_4 (by decide) hM353 dX11_days_40 (fun v356 ev356 cv356 => ?_)
            refine j_aload_n C 0 0 dX11_days_43 rfl rfl ?_
            refine y_getC C 10 12 fX11_days_36 rfl rfl ft_10_6 sm_10_6 rfl hM353 dX11_days_44 ?_
            refine y_ldc2 C (-1) dX11_days_47 kX11_days_219 rfl ?_
            refine j_callVi C (d := 5) (As := [.ref (ad v356), .ref (ad 12), .long (sJ (-1))]) (st := [.int (sI a351)]) 87 (s_lt rfl rfl) (s_kc (c := 1) rfl rfl) (by decide) rfl (s1_X1_carryOut hM353 hpr cv356 rfl (-1) (by omega)) gX11_days_X1_carryOut rfl hdX1_carryOut (by decide) (Nat.le_of_ble_eq_true rfl) dX11_days_50 rfl (fun r357 M358 h359 => ?_)
            obtain ⟨a361, rfl, hM358, h360⟩ := h359
            refine y_iadd0 C dX11_days_53 (fun a362 la362 ua362 => ?_)
            refine j_istore_n C 2 [(2, .int (sI a362)), (0, .ref (ad 0)), (1, .int (sI a1)), (3, .int (sI a352))] dX11_days_54 rfl (by decide) rfl ?_
            refine y_iinc C 3 [(3, .int (sI (a352 + 1))), (2, .int (sI a362)), (0, .ref (ad 0)), (1, .int (sI a1))] dX11_days_55 rfl (by decide) rfl ?_
            refine j_goto C 29 dX11_days_58 (by decide) ?_
            refine j_lv [2, 3, 1, 0] rfl ?_; exact ih349 a362 (a352 + 1) M358 (by omega) hM358
      refine j_lv [2, 3, 1, 0] rfl ?_; exact L350 4294967306 0 0 M104 (by omega) hM104
    · refine y_bipush C dX11_days_11 rfl ?_
      exact hret _ _ _ _ dX11_days_13 ⟨(-3), rfl, hM0, by omega⟩
set_option maxHeartbeats 4000000 in
theorem s1_J9_floorMod_7cf53 {l : Launch} {dC : Nat → ClassId} {dI : Nat → Nat → Nat} {ad : Nat → Nat} {cA : Nat → ClassId} {pr : Nat → Nat → Bool} {Kz : mm_M} {M0 : mm_M} (hM0 : INV pr Kz M0) (a0 : Int) (ha0 : -2147483648 ≤ a0 ∧ a0 ≤ 2147483647) : Ci l 0 yJ9_floorMod_7cf53 wsJ9_floorMod_7cf53 dC dI ad cA [.int (sI a0), .int (sI 10)] M0 (fun r M' => ∃ a : Int, r = sI a ∧ M0 = M' ∧ 0 ≤ a ∧ a ≤ 9) := by
  refine ci_ofF (cc := cJ9_floorMod_7cf53) (maxL := 3) (ty := .int) (lv := [(0, .int (sI a0)), (1, .int (sI 10))]) (by decide +kernel) rfl (fun r M' hp => rfl) (Nat.le_of_ble_eq_true rfl) rfl ?_
  intro p e s m args below meth c A Q C hret
  refine j_iload_n C 0 0 dJ9_floorMod_7cf53_0 rfl rfl ?_
  refine j_iload_n C 1 1 dJ9_floorMod_7cf53_1 rfl rfl ?_
  refine y_iremS C dJ9_floorMod_7cf53_2 (by omega) (fun a101 la101 ua101 ha101 => ?_)
  refine j_istore_n C 2 [(2, .int (sI a101)), (0, .int (sI a0)), (1, .int (sI 10))] dJ9_floorMod_7cf53_3 rfl (by decide) rfl ?_
  refine j_iload_n C 1 0 dJ9_floorMod_7cf53_4 rfl rfl ?_
  refine j_iload_n C 2 1 dJ9_floorMod_7cf53_5 rfl rfl ?_
  refine y_ixorS C dJ9_floorMod_7cf53_6 (by omega) (fun a102 la102 ua102 ha102 => ?_)
  refine y_if_ge C 18 dJ9_floorMod_7cf53_7 (by decide) (by omega) (fun h103 => ?_) (fun h103 => ?_)
  · refine j_iload_n C 0 2 dJ9_floorMod_7cf53_18 rfl rfl ?_
    exact hret _ _ _ _ dJ9_floorMod_7cf53_19 ⟨a101, rfl, rfl, by omega⟩
  · refine j_iload_n C 0 2 dJ9_floorMod_7cf53_10 rfl rfl ?_
    refine y_if_eq C 18 dJ9_floorMod_7cf53_11 (by decide) (by omega) (fun h104 => ?_) (fun h104 => ?_)
    · refine j_iload_n C 0 2 dJ9_floorMod_7cf53_18 rfl rfl ?_
      exact hret _ _ _ _ dJ9_floorMod_7cf53_19 ⟨a101, rfl, rfl, by omega⟩
    · refine j_iload_n C 0 2 dJ9_floorMod_7cf53_14 rfl rfl ?_
      refine j_iload_n C 2 1 dJ9_floorMod_7cf53_15 rfl rfl ?_
      refine y_iadd C dJ9_floorMod_7cf53_16 ?_
      exact hret _ _ _ _ dJ9_floorMod_7cf53_17 ⟨(a101 + 10), rfl, rfl, by omega⟩
set_option maxHeartbeats 4000000 in
theorem s1_X6_bringBack {l : Launch} {dC : Nat → ClassId} {dI : Nat → Nat → Nat} {ad : Nat → Nat} {cA : Nat → ClassId} {pr : Nat → Nat → Bool} {Kz : mm_M} {M0 : mm_M} (hM0 : INV pr Kz M0) (hpr : PX pr) (hq8_0 : ∀ i, s_c i = 8 → pr i 0 = false) (a1 : Int) (ha1 : -2147483648 ≤ a1 ∧ a1 ≤ 2147483647) {v2 : Nat} (cv2 : s_c v2 = 8) (hp0 : 1 ≤ a1 ∧ a1 ≤ (M0.1 18 2).toInt) (hp1 : 1 ≤ a1 ∧ a1 ≤ 10) : Cv l 1 yX6_bringBack wsX6_bringBack dC dI ad cA [.ref (ad 18), .int (sI a1), .ref (ad v2)] M0 (fun M' => INV pr Kz M') := by
  refine cv_of (cc := cX6_bringBack) (maxL := 3) (lv := [(0, .ref (ad 18)), (1, .int (sI a1)), (2, .ref (ad v2))]) (by decide) rfl (Nat.le_of_ble_eq_true rfl) rfl ?_
  intro p e s m args below meth c A Q C hret
  refine j_aload_n C 0 0 dX6_bringBack_0 rfl rfl ?_
  refine j_aload_n C 0 0 dX6_bringBack_1 rfl rfl ?_
  refine y_getI C 5 _ _ fX6_bringBack_17 rfl rfl ft_5_1 sb_5_1 hM0 dX6_bringBack_2 (fun a101 ea101 la101 ua101 => ?_)
  refine j_iload_n C 1 1 dX6_bringBack_5 rfl rfl ?_
  refine y_isub C dX6_bringBack_6 ?_
  refine y_bipush C dX6_bringBack_7 rfl ?_
  refine j_callSi C (d := 0) (As := [.int (sI (a101 - a1)), .int (sI 10)]) (st := [.ref (ad 18)]) (s1_J9_floorMod_7cf53 hM0 (a101 - a1) (by omega)) gX6_bringBack_J9_floorMod_7cf53 rfl hdJ9_floorMod_7cf53s (by decide) (Nat.le_of_ble_eq_true rfl) dX6_bringBack_9 rfl (fun r103 M104 h105 => ?_)
  obtain ⟨a107, rfl, rfl, h106⟩ := h105
  refine y_putI C 5 _ _ qX6_bringBack_17 rfl rfl ft_5_1 sb_5_1 hM0 (PX.w hpr rfl rfl) dX6_bringBack_12 (by omega) (fun M108 eM108 hM108 => ?_)
  refine j_aload_n C 0 0 dX6_bringBack_15 rfl rfl ?_
  refine j_dup C dX6_bringBack_16 rfl ?_
  refine y_getI C 5 _ _ fX6_bringBack_21 rfl rfl ft_5_2 sb_5_2 hM108 dX6_bringBack_17 (fun a109 ea109 la109 ua109 => ?_)
  have qa109 : a109 = (M0.1 18 2).toInt := s_fb eM108 (by decide) (ea109)
  refine j_iload_n C 1 1 dX6_bringBack_20 rfl rfl ?_
  refine y_isub C dX6_bringBack_21 ?_
  refine y_putI C 5 _ _ qX6_bringBack_21 rfl rfl ft_5_2 sb_5_2 hM108 (PX.w hpr rfl rfl) dX6_bringBack_22 (by omega) (fun M111 eM111 hM111 => ?_)
  refine j_aload_n C 2 2 dX6_bringBack_25 rfl rfl ?_
  refine j_aload_n C 0 0 dX6_bringBack_26 rfl rfl ?_
  refine y_getC C 5 19 fX6_bringBack_11 rfl rfl ft_5_0 sm_5_0 rfl hM111 dX6_bringBack_27 ?_
  refine j_aload_n C 0 0 dX6_bringBack_30 rfl rfl ?_
  refine y_getI C 5 _ _ fX6_bringBack_17 rfl rfl ft_5_1 sb_5_1 hM111 dX6_bringBack_31 (fun a112 ea112 la112 ua112 => ?_)
  have qa112 : a112 = (M108.1 18 1).toInt := s_fb eM111 (by decide) (ea112)
  refine y_aald C 27 10 8 rfl rfl rfl rfl an_27 rfl sma_27 sta_27 (by decide) hM111 dX6_bringBack_34 (by omega) (fun v114 cv114 => ?_)
  refine j_callVv C (d := 0) (As := [.ref (ad v114)]) (st := []) v2 (s_lt cv2 rfl) (s_kc (c := 8) cv2 rfl) (by decide) rfl (s1_X9_copyFrom hM111 hpr hq8_0 cv2 cv114) gX6_bringBack_X9_copyFrom rfl hdX9_copyFrom (by decide) (Nat.le_of_ble_eq_true rfl) dX6_bringBack_35 rfl (fun M116 h117 => ?_)
  have hM116 := h117
  exact hret _ _ _ dX6_bringBack_38 hM116
set_option maxHeartbeats 4000000 in
theorem s1_X11_undo {l : Launch} {dC : Nat → ClassId} {dI : Nat → Nat → Nat} {ad : Nat → Nat} {cA : Nat → ClassId} {pr : Nat → Nat → Bool} {Kz : mm_M} {M0 : mm_M} (hM0 : INV pr Kz M0) (hpr : PX pr) (hq8_0 : ∀ i, s_c i = 8 → pr i 0 = false) (a1 : Int) (ha1 : -2147483648 ≤ a1 ∧ a1 ≤ 2147483647) : Ci l 2 yX11_undo wsX11_undo dC dI ad cA [.ref (ad 0), .int (sI a1)] M0 (fun r M' => ∃ a : Int, r = sI a ∧ INV pr Kz M' ∧ (-3) ≤ a ∧ a ≤ 10) := by
  refine ci_of (cc := cX11_undo) (maxL := 2) (ty := .int) (lv := [(0, .ref (ad 0)), (1, .int (sI a1))]) (by decide) rfl (fun r M' hp => rfl) (Nat.le_of_ble_eq_true rfl) rfl ?_
  intro p e s m args below meth c A Q C hret
  refine j_iload_n C 1 1 dX11_undo_0 rfl rfl ?_
  refine y_iconst C dX11_undo_1 ?_
  refine y_icmp_lt C 16 dX11_undo_2 (by decide) (by omega) (fun h101 => ?_) (fun h101 => ?_)
  · refine y_bipush C dX11_undo_16 rfl ?_
    exact hret _ _ _ _ dX11_undo_18 ⟨(-3), rfl, hM0, by omega⟩
  · refine j_iload_n C 1 1 dX11_undo_5 rfl rfl ?_
    refine j_aload_n C 0 0 dX11_undo_6 rfl rfl ?_
    refine y_getC C 10 18 fX11_undo_46 rfl rfl ft_10_8 sm_10_8 rfl hM0 dX11_undo_7 ?_
    refine y_getI C 5 _ _ fX11_undo_225 rfl rfl ft_5_2 sb_5_2 hM0 dX11_undo_10 (fun a102 ea102 la102 ua102 => ?_)
    refine y_icmp_le C 19 dX11_undo_13 (by decide) (by omega) (fun h104 => ?_) (fun h104 => ?_)
    · refine j_aload_n C 0 0 dX11_undo_19 rfl rfl ?_
      refine y_getC C 10 18 fX11_undo_46 rfl rfl ft_10_8 sm_10_8 rfl hM0 dX11_undo_20 ?_
      refine j_iload_n C 1 1 dX11_undo_23 rfl rfl ?_
      refine j_aload_n C 0 0 dX11_undo_24 rfl rfl ?_
      refine y_getC C 10 12 fX11_undo_36 rfl rfl ft_10_6 sm_10_6 rfl hM0 dX11_undo_25 ?_
      refine j_callVv C (d := 1) (As := [.int (sI a1), .ref (ad 12)]) (st := []) 18 (s_lt rfl rfl) (s_kc (c := 5) rfl rfl) (by decide) rfl (s1_X6_bringBack hM0 hpr hq8_0 a1 (by omega) rfl (by omega) (by omega)) gX11_undo_X6_bringBack rfl hdX6_bringBack (by decide) (Nat.le_of_ble_eq_true rfl) dX11_undo_28 rfl (fun M106 h107 => ?_)
      have hM106 := h107
      refine j_aload_n C 0 0 dX11_undo_31 rfl rfl ?_
      refine y_getC C 10 18 fX11_undo_46 rfl rfl ft_10_8 sm_10_8 rfl hM106 dX11_undo_32 ?_
      refine y_getI C 5 _ _ fX11_undo_225 rfl rfl ft_5_2 sb_5_2 hM106 dX11_undo_35 (fun a109 ea109 la109 ua109 => ?_)
      exact hret _ _ _ _ dX11_undo_38 ⟨a109, rfl, hM106, by omega⟩
    · refine y_bipush C dX11_undo_16 rfl ?_
      exact hret _ _ _ _ dX11_undo_18 ⟨(-3), rfl, hM0, by omega⟩
set_option maxHeartbeats 4000000 in
theorem s1_X11_isTray {l : Launch} {dC : Nat → ClassId} {dI : Nat → Nat → Nat} {ad : Nat → Nat} {cA : Nat → ClassId} {pr : Nat → Nat → Bool} {Kz : mm_M} {M0 : mm_M} (hM0 : INV pr Kz M0) (a0 : Int) (ha0 : -2147483648 ≤ a0 ∧ a0 ≤ 2147483647) : Ci l 0 yX11_isTray wsX11_isTray dC dI ad cA [.int (sI a0)] M0 (fun r M' => ∃ a : Int, r = sI a ∧ M0 = M' ∧ 0 ≤ a ∧ a ≤ 1 ∧ ((a0 < 0 ∧ a = 0) ∨ (0 ≤ a0 ∧ 4 ≤ a0 ∧ a = 0) ∨ (0 ≤ a0 ∧ a0 < 4 ∧ a = 1))) := by
  refine ci_of (cc := cX11_isTray) (maxL := 1) (ty := .boolean) (lv := [(0, .int (sI a0))]) (by decide) rfl (fun r M' hp => by obtain ⟨a, rfl, -, h⟩ := hp; rcases (show a = 0 ∨ a = 1 by omega) with rfl | rfl <;> rfl) (Nat.le_of_ble_eq_true rfl) rfl ?_
  intro p e s m args below meth c A Q C hret
  refine j_iload_n C 0 0 dX11_isTray_0 rfl rfl ?_
  refine y_if_lt C 13 dX11_isTray_1 (by decide) (by omega) (fun h101 => ?_) (fun h101 => ?_)
  · refine y_iconst C dX11_isTray_13 ?_
    exact hret _ _ _ _ dX11_isTray_14 ⟨0, rfl, rfl, by omega⟩
  · refine j_iload_n C 0 0 dX11_isTray_4 rfl rfl ?_
    refine y_iconst C dX11_isTray_5 ?_
    refine y_icmp_ge C 13 dX11_isTray_6 (by decide) (by omega) (fun h102 => ?_) (fun h102 => ?_)
    · refine y_iconst C dX11_isTray_13 ?_
      exact hret _ _ _ _ dX11_isTray_14 ⟨0, rfl, rfl, by omega⟩
    · refine y_iconst C dX11_isTray_9 ?_
      refine j_goto C 14 dX11_isTray_10 (by decide) ?_
      exact hret _ _ _ _ dX11_isTray_14 ⟨1, rfl, rfl, by omega⟩
set_option maxHeartbeats 4000000 in
theorem s1_X10_isMissing {l : Launch} {dC : Nat → ClassId} {dI : Nat → Nat → Nat} {ad : Nat → Nat} {cA : Nat → ClassId} {pr : Nat → Nat → Bool} {Kz : mm_M} {M0 : mm_M} (hM0 : INV pr Kz M0) {v0 : Nat} (cv0 : s_c v0 = 9) : Ci l 0 yX10_isMissing wsX10_isMissing dC dI ad cA [.ref (ad v0)] M0 (fun r M' => ∃ a : Int, r = sI a ∧ M0 = M' ∧ 0 ≤ a ∧ a ≤ 1 ∧ ((0 ≤ (M0.1 v0 2).toInt ∧ (M0.1 v0 2).toInt ≤ 40 ∧ ¬ (M0.1 v0 2).toInt = (-1) ∧ a = 0) ∨ ((-1) ≤ (M0.1 v0 2).toInt ∧ (M0.1 v0 2).toInt ≤ (-1) ∧ (M0.1 v0 2).toInt = (-1) ∧ a = 1))) := by
  refine ci_of (cc := cX10_isMissing) (maxL := 1) (ty := .boolean) (lv := [(0, .ref (ad v0))]) (by decide) rfl (fun r M' hp => by obtain ⟨a, rfl, -, h⟩ := hp; rcases (show a = 0 ∨ a = 1 by omega) with rfl | rfl <;> rfl) (Nat.le_of_ble_eq_true rfl) rfl ?_
  intro p e s m args below meth c A Q C hret
  refine j_aload_n C 0 0 dX10_isMissing_0 rfl rfl ?_
  refine y_getI C 9 _ _ fX10_isMissing_19 cv0 rfl ft_9_2 sb_9_2 hM0 dX10_isMissing_1 (fun a101 ea101 la101 ua101 => ?_)
  refine y_iconst C dX10_isMissing_4 ?_
  refine y_icmp_ne C 12 dX10_isMissing_5 (by decide) (by omega) (fun h103 => ?_) (fun h103 => ?_)
  · refine y_iconst C dX10_isMissing_12 ?_
    exact hret _ _ _ _ dX10_isMissing_13 ⟨0, rfl, rfl, by omega⟩
  · refine y_iconst C dX10_isMissing_8 ?_
    refine j_goto C 13 dX10_isMissing_9 (by decide) ?_
    exact hret _ _ _ _ dX10_isMissing_13 ⟨1, rfl, rfl, by omega⟩
set_option maxHeartbeats 4000000 in
theorem s1_X10_size {l : Launch} {dC : Nat → ClassId} {dI : Nat → Nat → Nat} {ad : Nat → Nat} {cA : Nat → ClassId} {pr : Nat → Nat → Bool} {Kz : mm_M} {M0 : mm_M} (hM0 : INV pr Kz M0) {v0 : Nat} (cv0 : s_c v0 = 9) : Ci l 1 yX10_size wsX10_size dC dI ad cA [.ref (ad v0)] M0 (fun r M' => ∃ a : Int, r = sI a ∧ M0 = M' ∧ 0 ≤ a ∧ a ≤ 40 ∧ ((0 ≤ a ∧ a ≤ 40))) := by
  refine ci_of (cc := cX10_size) (maxL := 1) (ty := .int) (lv := [(0, .ref (ad v0))]) (by decide) rfl (fun r M' hp => rfl) (Nat.le_of_ble_eq_true rfl) rfl ?_
  intro p e s m args below meth c A Q C hret
  refine j_aload_n C 0 0 dX10_size_0 rfl rfl ?_
  refine y_getI C 9 _ _ fX10_size_19 cv0 rfl ft_9_2 sb_9_2 hM0 dX10_size_1 (fun a101 ea101 la101 ua101 => ?_)
  refine y_iconst C dX10_size_4 ?_
  refine y_mmax C wX10_size_22_0 wX10_size_22_1 wX10_size_22_2 wX10_size_22_3 (by decide) (Nat.le_of_ble_eq_true rfl) dX10_size_5 (by omega) (fun a103 ha103 => ?_)
  exact hret _ _ _ _ dX10_size_8 ⟨a103, rfl, rfl, by omega⟩
set_option maxHeartbeats 4000000 in
theorem s1_X10_has {l : Launch} {dC : Nat → ClassId} {dI : Nat → Nat → Nat} {ad : Nat → Nat} {cA : Nat → ClassId} {pr : Nat → Nat → Bool} {Kz : mm_M} {M0 : mm_M} (hM0 : INV pr Kz M0) {v0 : Nat} (cv0 : s_c v0 = 9) (a1 : Int) (ha1 : -2147483648 ≤ a1 ∧ a1 ≤ 2147483647) : Ci l 0 yX10_has wsX10_has dC dI ad cA [.ref (ad v0), .int (sI a1)] M0 (fun r M' => ∃ a : Int, r = sI a ∧ M0 = M' ∧ 0 ≤ a ∧ a ≤ 1 ∧ ((a1 < 0 ∧ a = 0) ∨ ((-1) ≤ (M0.1 v0 2).toInt ∧ (M0.1 v0 2).toInt ≤ 40 ∧ 0 ≤ a1 ∧ (M0.1 v0 2).toInt ≤ a1 ∧ a = 0) ∨ (1 ≤ (M0.1 v0 2).toInt ∧ (M0.1 v0 2).toInt ≤ 40 ∧ 0 ≤ a1 ∧ a1 < (M0.1 v0 2).toInt ∧ a = 1))) := by
  refine ci_of (cc := cX10_has) (maxL := 2) (ty := .boolean) (lv := [(0, .ref (ad v0)), (1, .int (sI a1))]) (by decide) rfl (fun r M' hp => by obtain ⟨a, rfl, -, h⟩ := hp; rcases (show a = 0 ∨ a = 1 by omega) with rfl | rfl <;> rfl) (Nat.le_of_ble_eq_true rfl) rfl ?_
  intro p e s m args below meth c A Q C hret
  refine j_iload_n C 1 1 dX10_has_0 rfl rfl ?_
  refine y_if_lt C 16 dX10_has_1 (by decide) (by omega) (fun h101 => ?_) (fun h101 => ?_)
  · refine y_iconst C dX10_has_16 ?_
    exact hret _ _ _ _ dX10_has_17 ⟨0, rfl, rfl, by omega⟩
  · refine j_iload_n C 1 1 dX10_has_4 rfl rfl ?_
    refine j_aload_n C 0 0 dX10_has_5 rfl rfl ?_
    refine y_getI C 9 _ _ fX10_has_19 cv0 rfl ft_9_2 sb_9_2 hM0 dX10_has_6 (fun a102 ea102 la102 ua102 => ?_)
    refine y_icmp_ge C 16 dX10_has_9 (by decide) (by omega) (fun h104 => ?_) (fun h104 => ?_)
    · refine y_iconst C dX10_has_16 ?_
      exact hret _ _ _ _ dX10_has_17 ⟨0, rfl, rfl, by omega⟩
    · refine y_iconst C dX10_has_12 ?_
      refine j_goto C 17 dX10_has_13 (by decide) ?_
      exact hret _ _ _ _ dX10_has_17 ⟨1, rfl, rfl, by omega⟩
set_option maxHeartbeats 4000000 in
theorem s1_X10_numberAt {l : Launch} {dC : Nat → ClassId} {dI : Nat → Nat → Nat} {ad : Nat → Nat} {cA : Nat → ClassId} {pr : Nat → Nat → Bool} {Kz : mm_M} {M0 : mm_M} (hM0 : INV pr Kz M0) {v0 : Nat} (cv0 : s_c v0 = 9) (a1 : Int) (ha1 : -2147483648 ≤ a1 ∧ a1 ≤ 2147483647) : Cj l 1 yX10_numberAt wsX10_numberAt dC dI ad cA [.ref (ad v0), .int (sI a1)] M0 (fun r M' => ∃ a : Int, r = sJ a ∧ M0 = M' ∧ (-9223372036854775808) ≤ a ∧ a ≤ 9223372036854775807) := by
  refine cj_of (cc := cX10_numberAt) (maxL := 2) (lv := [(0, .ref (ad v0)), (1, .int (sI a1))]) (by decide) rfl (Nat.le_of_ble_eq_true rfl) rfl ?_
  intro p e s m args below meth c A Q C hret
  refine j_aload_n C 0 0 dX10_numberAt_0 rfl rfl ?_
  refine j_iload_n C 1 1 dX10_numberAt_1 rfl rfl ?_
  refine j_callVi C (d := 0) (As := [.int (sI a1)]) (st := []) v0 (s_lt cv0 rfl) (s_kc (c := 9) cv0 rfl) (by decide) rfl (s1_X10_has hM0 cv0 a1 (by omega)) gX10_numberAt_X10_has rfl hdX10_has (by decide) (Nat.le_of_ble_eq_true rfl) dX10_numberAt_2 rfl (fun r101 M102 h103 => ?_)
  obtain ⟨a105, rfl, rfl, h104⟩ := h103
  refine y_if_eq C 17 dX10_numberAt_5 (by decide) (by omega) (fun h106 => ?_) (fun h106 => ?_)
  · refine y_lconst C 0 dX10_numberAt_17 rfl ?_
    exact hret _ _ _ _ dX10_numberAt_18 ⟨0, rfl, rfl, by omega⟩
  · refine j_aload_n C 0 0 dX10_numberAt_8 rfl rfl ?_
    refine y_getT C 9 29 fX10_numberAt_9 cv0 rfl ft_9_0 rfl sm_9_0 st_9_0 (by decide) hM0 dX10_numberAt_9 (fun v107 cv107 => ?_)
    refine j_iload_n C 1 1 dX10_numberAt_12 rfl rfl ?_
    refine y_lald C 29 40 cv107 rfl rfl ak_29 an_29 rfl dX10_numberAt_13 (by omega) (fun a108 ea108 la108 ua108 => ?_)
    refine j_goto C 18 dX10_numberAt_14 (by decide) ?_
    exact hret _ _ _ _ dX10_numberAt_18 ⟨a108, rfl, rfl, by omega⟩
set_option maxHeartbeats 4000000 in
theorem s1_X11_judge {l : Launch} {dC : Nat → ClassId} {dI : Nat → Nat → Nat} {ad : Nat → Nat} {cA : Nat → ClassId} {pr : Nat → Nat → Bool} {Kz : mm_M} {M0 : mm_M} (hM0 : INV pr Kz M0) (hpr : PX pr) (hq8_0 : ∀ i, s_c i = 8 → pr i 0 = false) (a1 : Int) (ha1 : -2147483648 ≤ a1 ∧ a1 ≤ 2147483647) (a2 : Int) (ha2 : -2147483648 ≤ a2 ∧ a2 ≤ 2147483647) : Ci l 6 yX11_judge wsX11_judge dC dI ad cA [.ref (ad 0), .int (sI a1), .int (sI a2)] M0 (fun r M' => ∃ a : Int, r = sI a ∧ INV pr Kz M' ∧ (-2147483648) ≤ a ∧ a ≤ 2147483647) := by
  refine ci_of (cc := cX11_judge) (maxL := 7) (ty := .int) (lv := [(0, .ref (ad 0)), (1, .int (sI a1)), (2, .int (sI a2))]) (by decide) rfl (fun r M' hp => rfl) (Nat.le_of_ble_eq_true rfl) rfl ?_
  intro p e s m args below meth c A Q C hret
  refine j_iload_n C 1 1 dX11_judge_0 rfl rfl ?_
  refine j_callSi C (d := 0) (As := [.int (sI a1)]) (st := []) (s1_X11_isTray hM0 a1 (by omega)) gX11_judge_X11_isTray rfl hdX11_isTrays (by decide) (Nat.le_of_ble_eq_true rfl) dX11_judge_1 rfl (fun r101 M102 h103 => ?_)
  obtain ⟨a105, rfl, rfl, h104⟩ := h103
  refine y_if_eq C 16 dX11_judge_4 (by decide) (by omega) (fun h106 => ?_) (fun h106 => ?_)
  · refine y_bipush C dX11_judge_16 rfl ?_
    exact hret _ _ _ _ dX11_judge_18 ⟨(-2), rfl, hM0, by omega⟩
  · refine j_iload_n C 2 2 dX11_judge_7 rfl rfl ?_
    refine y_if_lt C 16 dX11_judge_8 (by decide) (by omega) (fun h107 => ?_) (fun h107 => ?_)
    · refine y_bipush C dX11_judge_16 rfl ?_
      exact hret _ _ _ _ dX11_judge_18 ⟨(-2), rfl, hM0, by omega⟩
    · refine j_iload_n C 2 2 dX11_judge_11 rfl rfl ?_
      refine y_iconst C dX11_judge_12 ?_
      refine y_icmp_le C 19 dX11_judge_13 (by decide) (by omega) (fun h108 => ?_) (fun h108 => ?_)
      · refine j_aload_n C 0 0 dX11_judge_19 rfl rfl ?_
        refine y_getC C 10 50 fX11_judge_52 rfl rfl ft_10_9 sm_10_9 rfl hM0 dX11_judge_20 ?_
        refine j_iload_n C 1 1 dX11_judge_23 rfl rfl ?_
        refine y_aald C 28 4 9 rfl rfl rfl rfl an_28 rfl sma_28 sta_28 (by decide) hM0 dX11_judge_24 (by omega) (fun v109 cv109 => ?_)
        refine j_astore_n C 3 [(3, .ref (ad v109)), (0, .ref (ad 0)), (1, .int (sI a1)), (2, .int (sI a2))] dX11_judge_25 rfl (by decide) rfl ?_
        refine j_aload_n C 0 3 dX11_judge_26 rfl rfl ?_
        refine j_callVi C (d := 0) (As := []) (st := []) v109 (s_lt cv109 rfl) (s_kc (c := 9) cv109 rfl) (by decide) rfl (s1_X10_isMissing hM0 cv109) gX11_judge_X10_isMissing rfl hdX10_isMissing (by decide) (Nat.le_of_ble_eq_true rfl) dX11_judge_27 rfl (fun r110 M111 h112 => ?_)
        obtain ⟨a114, rfl, rfl, h113⟩ := h112
        refine y_if_eq C 36 dX11_judge_30 (by decide) (by omega) (fun h115 => ?_) (fun h115 => ?_)
        · refine j_aload_n C 1 0 dX11_judge_36 rfl rfl ?_
          refine y_getC C 10 15 fX11_judge_40 rfl rfl ft_10_7 sm_10_7 rfl hM0 dX11_judge_37 ?_
          refine j_aload_n C 1 0 dX11_judge_40 rfl rfl ?_
          refine y_getC C 10 12 fX11_judge_36 rfl rfl ft_10_6 sm_10_6 rfl hM0 dX11_judge_41 ?_
          refine j_callVv C (d := 0) (As := [.ref (ad 12)]) (st := []) 15 (s_lt rfl rfl) (s_kc (c := 8) rfl rfl) (by decide) rfl (s1_X9_copyFrom hM0 hpr hq8_0 rfl rfl) gX11_judge_X9_copyFrom rfl hdX9_copyFrom (by decide) (Nat.le_of_ble_eq_true rfl) dX11_judge_44 rfl (fun M117 h118 => ?_)
          have hM117 := h118
          refine y_iconst C dX11_judge_47 ?_
          refine j_istore C 4 [(4, .int (sI 0)), (3, .ref (ad v109)), (0, .ref (ad 0)), (1, .int (sI a1)), (2, .int (sI a2))] dX11_judge_48 (by decide) rfl ?_
          refine y_iconst C dX11_judge_50 ?_
          refine j_istore C 5 [(5, .int (sI 0)), (4, .int (sI 0)), (3, .ref (ad v109)), (0, .ref (ad 0)), (1, .int (sI a1)), (2, .int (sI a2))] dX11_judge_51 (by decide) rfl ?_
          refine y_iconst C dX11_judge_53 ?_
          refine j_istore C 6 [(6, .int (sI 0)), (5, .int (sI 0)), (4, .int (sI 0)), (3, .ref (ad v109)), (0, .ref (ad 0)), (1, .int (sI a1)), (2, .int (sI a2))] dX11_judge_54 (by decide) rfl ?_
          have X541 : ∀ (a538 : Int) (a539 : Int) (M540 : mm_M), ((-2147483648) ≤ a538 ∧ a538 ≤ 0 ∧ 0 ≤ a539 ∧ a539 ≤ 39) → INV pr Kz M540 → jj p l e (cn_R 6) s m args below meth c 0 0 Q 7 dC dI ad cA A M540 107 [(0, .ref (ad 0)), (2, .int (sI a2)), (4, .int (sI a538)), (5, .int (sI a539))] [] := by
            intro a538 a539 M540 h542 hM540
            refine j_iload_n C 1 2 dX11_judge_107 rfl rfl ?_
            refine y_if_ne C 123 dX11_judge_108 (by decide) (by omega) (fun h543 => ?_) (fun h543 => ?_)
            · refine j_iload_n C 1 2 dX11_judge_123 rfl rfl ?_
              refine y_iconst C dX11_judge_124 ?_
              refine y_icmp_ne C 143 dX11_judge_125 (by decide) (by omega) (fun h544 => ?_) (fun h544 => ?_)
              · refine j_iload_n C 1 2 dX11_judge_143 rfl rfl ?_
                refine y_iconst C dX11_judge_144 ?_
                refine y_icmp_ne C 158 dX11_judge_145 (by decide) (by omega) (fun h545 => ?_) (fun h545 => ?_)
                · refine j_aload_n C 0 0 dX11_judge_158 rfl rfl ?_
                  refine y_getC C 10 15 fX11_judge_40 rfl rfl ft_10_7 sm_10_7 rfl hM540 dX11_judge_159 ?_
                  refine y_getI C 8 _ _ fX11_judge_252 rfl rfl ft_8_5 sb_8_5 hM540 dX11_judge_162 (fun a546 ea546 la546 ua546 => ?_)
                  exact hret _ _ _ _ dX11_judge_165 ⟨a546, rfl, hM540, by omega⟩
                · refine j_aload_n C 0 0 dX11_judge_148 rfl rfl ?_
                  refine y_getC C 10 15 fX11_judge_40 rfl rfl ft_10_7 sm_10_7 rfl hM540 dX11_judge_149 ?_
                  refine y_getI C 8 _ _ fX11_judge_150 rfl rfl ft_8_3 sb_8_3 hM540 dX11_judge_152 (fun a548 ea548 la548 ua548 => ?_)
                  refine j_goto C 165 dX11_judge_155 (by decide) ?_
                  exact hret _ _ _ _ dX11_judge_165 ⟨a548, rfl, hM540, by omega⟩
              · refine j_iload C 2 dX11_judge_128 rfl ?_
                refine y_if_ne C 137 dX11_judge_130 (by decide) (by omega) (fun h550 => ?_) (fun h550 => ?_)
                · refine y_bipush C dX11_judge_137 rfl ?_
                  refine j_iload C 2 dX11_judge_139 rfl ?_
                  refine y_isub C dX11_judge_141 ?_
                  exact hret _ _ _ _ dX11_judge_142 ⟨((-10) - a538), rfl, hM540, by omega⟩
                · refine y_iconst C dX11_judge_133 ?_
                  refine j_goto C 142 dX11_judge_134 (by decide) ?_
                  exact hret _ _ _ _ dX11_judge_142 ⟨0, rfl, hM540, by omega⟩
            · refine j_iload C 2 dX11_judge_111 rfl ?_
              refine y_if_ne C 120 dX11_judge_113 (by decide) (by omega) (fun h551 => ?_) (fun h551 => ?_)
              · refine j_iload C 3 dX11_judge_120 rfl ?_
                exact hret _ _ _ _ dX11_judge_122 ⟨a539, rfl, hM540, by omega⟩
              · refine y_iconst C dX11_judge_116 ?_
                refine j_goto C 122 dX11_judge_117 (by decide) ?_
                exact hret _ _ _ _ dX11_judge_122 ⟨(-1), rfl, hM540, by omega⟩
          have L513 : ∀ (n511 : Nat), ∀ (a514 : Int) (a515 : Int) (a516 : Int) (M517 : mm_M), ((-2147483648) ≤ a514 ∧ a514 ≤ 0 ∧ 0 ≤ a515 ∧ a515 ≤ 39 ∧ 0 ≤ a516 ∧ a516 ≤ 40 ∧ (40 - a516) < (n511 : Int)) → INV pr Kz M517 → jj p l e (cn_R 6) s m args below meth c 0 0 Q 7 dC dI ad cA A M517 56 [(0, .ref (ad 0)), (2, .int (sI a2)), (3, .ref (ad v109)), (4, .int (sI a514)), (5, .int (sI a515)), (6, .int (sI a516))] [] := by
            intro n511
            induction n511 with
            | zero =>
              intro a514 a515 a516 M517 h518 hM517
              exfalso; omega
            | succ n511 ih512 =>
              intro a514 a515 a516 M517 h518 hM517
              refine j_iload C 5 dX11_judge_56 rfl ?_
              refine j_aload_n C 2 3 dX11_judge_58 rfl rfl ?_
              refine j_callVi C (d := 1) (As := []) (st := [.int (sI a516)]) v109 (s_lt cv109 rfl) (s_kc (c := 9) cv109 rfl) (by decide) rfl (s1_X10_size hM517 cv109) gX11_judge_X10_size rfl hdX10_size (by decide) (Nat.le_of_ble_eq_true rfl) dX11_judge_59 rfl (fun r519 M520 h521 => ?_)
              obtain ⟨a523, rfl, rfl, h522⟩ := h521
              refine y_icmp_ge C 107 dX11_judge_62 (by decide) (by omega) (fun h524 => ?_) (fun h524 => ?_)
              · refine j_lv [0, 1, 3, 4] rfl ?_; exact X541 a514 a515 M517 (by omega) hM517
              · refine j_iload C 3 dX11_judge_65 rfl ?_
                refine y_if_ne C 107 dX11_judge_67 (by decide) (by omega) (fun h525 => ?_) (fun h525 => ?_)
                · refine j_lv [0, 1, 3, 4] rfl ?_; exact X541 a514 a515 M517 (by omega) hM517
                · refine y_iconst C dX11_judge_70 ?_
                  refine j_aload_n C 0 0 dX11_judge_71 rfl rfl ?_
                  refine y_getC C 10 87 fX11_judge_85 rfl rfl ft_10_13 sm_10_13 rfl hM517 dX11_judge_72 ?_
                  refine j_aload_n C 0 0 dX11_judge_75 rfl rfl ?_
                  refine y_getM C 10 6 fX11_judge_26 rfl rfl ft_10_4 sm_10_4 (by decide) hM517 dX11_judge_76 (fun v526 ev526 cv526 => ?_)
                  refine j_aload_n C 0 0 dX11_judge_79 rfl rfl ?_
                  refine y_getC C 10 15 fX11_judge_40 rfl rfl ft_10_7 sm_10_7 rfl hM517 dX11_judge_80 ?_
                  refine j_aload_n C 2 3 dX11_judge_83 rfl rfl ?_
                  refine j_iload C 5 dX11_judge_84 rfl ?_
                  refine j_callVj C (d := 1) (As := [.int (sI a516)]) (st := [.ref (ad 15), .ref (ad v526), .ref (ad 87), .int (sI 0)]) v109 (s_lt cv109 rfl) (s_kc (c := 9) cv109 rfl) (by decide) rfl (s1_X10_numberAt hM517 cv109 a516 (by omega)) gX11_judge_X10_numberAt rfl hdX10_numberAt (by decide) (Nat.le_of_ble_eq_true rfl) dX11_judge_86 rfl (fun r527 M528 h529 => ?_)
                  obtain ⟨a531, rfl, rfl, h530⟩ := h529
                  refine j_callVi C (d := 5) (As := [.ref (ad v526), .ref (ad 15), .long (sJ a531)]) (st := [.int (sI 0)]) 87 (s_lt rfl rfl) (s_kc (c := 1) rfl rfl) (by decide) rfl (s1_X1_carryOut hM517 hpr cv526 rfl a531 (by omega)) gX11_judge_X1_carryOut rfl hdX1_carryOut (by decide) (Nat.le_of_ble_eq_true rfl) dX11_judge_89 rfl (fun r532 M533 h534 => ?_)
                  obtain ⟨a536, rfl, hM533, h535⟩ := h534
                  refine y_mmin C wX11_judge_246_0 wX11_judge_246_1 wX11_judge_246_2 wX11_judge_246_3 (by decide) (Nat.le_of_ble_eq_true rfl) dX11_judge_92 (by omega) (fun a537 ha537 => ?_)
                  refine j_istore C 4 [(4, .int (sI a537)), (0, .ref (ad 0)), (2, .int (sI a2)), (3, .ref (ad v109)), (5, .int (sI a515)), (6, .int (sI a516))] dX11_judge_95 (by decide) rfl ?_
                  refine j_iload C 5 dX11_judge_97 rfl ?_
                  refine j_istore C 5 [(5, .int (sI a516)), (4, .int (sI a537)), (0, .ref (ad 0)), (2, .int (sI a2)), (3, .ref (ad v109)), (6, .int (sI a516))] dX11_judge_99 (by decide) rfl ?_
                  refine y_iinc C 5 [(6, .int (sI (a516 + 1))), (5, .int (sI a516)), (4, .int (sI a537)), (0, .ref (ad 0)), (2, .int (sI a2)), (3, .ref (ad v109))] dX11_judge_101 rfl (by decide) rfl ?_
                  refine j_goto C 56 dX11_judge_104 (by decide) ?_
                  refine j_lv [3, 4, 5, 2, 1, 0] rfl ?_; exact ih512 a537 a516 (a516 + 1) M533 (by omega) hM533
          refine j_lv [4, 6, 3, 2, 1, 0] rfl ?_; exact L513 4294967306 0 0 0 M117 (by omega) hM117
        · refine y_bipush C dX11_judge_33 rfl ?_
          exact hret _ _ _ _ dX11_judge_35 ⟨(-6), rfl, hM0, by omega⟩
      · refine y_bipush C dX11_judge_16 rfl ?_
        exact hret _ _ _ _ dX11_judge_18 ⟨(-2), rfl, hM0, by omega⟩
