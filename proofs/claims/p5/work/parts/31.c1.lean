set_option maxHeartbeats 4000000 in
theorem s5_X8_sum {l : Launch} {dC : Nat → ClassId} {dI : Nat → Nat → Nat} {ad : Nat → Nat} {cA : Nat → ClassId} {pr : Nat → Nat → Bool} {Kz : mm_M} {M0 : mm_M} (hM0 : INV pr Kz M0) (hpr : PX pr) (gf : Nat → Int) (gn : Int) (gi : Int) (hp0 : b01 (TKX gf gn M0) = 1) (hp1 : b01 (PO gn gi (M0.1 78 5).toInt (psX M0)) = 1) : Cv l 14 yX8_sum wsX8_sum dC dI ad cA [.ref (ad 78), .int (sI 3)] M0 (fun M' => INV pr Kz M' ∧ (b01 (TKX gf gn M') = 1) ∧ b01 (RR ((suR gf gn 3) gi) (M0.1 78 5).toInt (M0.1 78 6).toInt (M'.1 78 5).toInt (M'.1 78 6).toInt (psX M')) = 1) := by
  refine cv_of (cc := cX8_sum) (maxL := 4) (lv := [(0, .ref (ad 78)), (1, .int (sI 3))]) (by decide) rfl (Nat.le_of_ble_eq_true rfl) rfl ?_
  intro p e s m args below meth c A Q C hret
  refine j_aload_n C 0 0 dX8_sum_0 rfl rfl ?_
  refine j_iload_n C 1 1 dX8_sum_1 rfl rfl ?_
  refine j_callVv C (d := 13) (As := [.int (sI 3)]) (st := []) 78 (s_lt rfl rfl) (s_kc (c := 7) rfl rfl) (by decide) rfl (s5_X8_term hM0 hpr gf gn gi (by omega) (by omega)) gX8_sum_X8_term rfl hdX8_term (by decide) (Nat.le_of_ble_eq_true rfl) dX8_sum_2 rfl (fun M102 h103 => ?_)
  obtain ⟨hM102, h104⟩ := h103
  have bM102 := tkx_b (f := gf) (n := gn) (M := M102) (by omega)
  have qM102 := po_rr (teP gf gn false (suR gf gn 2)) gn gi (M0.1 78 5).toInt (M0.1 78 6).toInt (psX M0) (M102.1 78 5).toInt (M102.1 78 6).toInt (psX M102) (te_g gf gn (fun _ => suR_g gf gn 2)) (by omega) (by omega)
  refine j_aload_n C 0 0 dX8_sum_5 rfl rfl ?_
  refine j_callVi C (d := 0) (As := []) (st := []) 78 (s_lt rfl rfl) (s_kc (c := 7) rfl rfl) (by decide) rfl (s1_X8_token hM102 gf gn ((teP gf gn false (suR gf gn 2)) gi).2.2 (by omega) (by omega)) gX8_sum_X8_token rfl hdX8_token (by decide) (Nat.le_of_ble_eq_true rfl) dX8_sum_6 rfl (fun r105 M106 h107 => ?_)
  obtain ⟨a109, rfl, rfl, h108⟩ := h107
  refine j_istore_n C 2 [(2, .int (sI a109)), (0, .ref (ad 78)), (1, .int (sI 3))] dX8_sum_9 rfl (by decide) rfl ?_
  refine y_iconst C dX8_sum_10 ?_
  have u110l := ll_0 (luP gf gn 2043 2045 (teP gf gn false (suR gf gn 2))) gn ((teP gf gn false (suR gf gn 2)) gi).2.2 (M102.1 78 5).toInt (M102.1 78 6).toInt (psX M102) (by omega)
  refine j_istore_n C 3 [(3, .int (sI 0)), (2, .int (sI a109)), (0, .ref (ad 78)), (1, .int (sI 3))] dX8_sum_11 rfl (by decide) rfl ?_
  have L158 : ∀ (n156 : Nat), ∀ (a159 : Int) (a160 : Int) (M161 : mm_M) (gq162 : Int), ((-2147483648) ≤ a159 ∧ a159 ≤ 2147483647 ∧ 0 ≤ a160 ∧ a160 ≤ 900 ∧ (b01 (LL (luP gf gn 2043 2045 (teP gf gn false (suR gf gn 2))) gn ((teP gf gn false (suR gf gn 2)) gi).2.2 gq162 a160 (M102.1 78 5).toInt (M102.1 78 6).toInt (M161.1 78 5).toInt (M161.1 78 6).toInt (psX M161)) = 1) ∧ (a159 = tkF gf gn (psX M161)) ∧ (b01 (TKX gf gn M161) = 1) ∧ (b01 (PO gn gq162 (M161.1 78 5).toInt (psX M161)) = 1) ∧ (900 - a160) < (n156 : Int)) → INV pr Kz M161 → jj p l e (cn_R 14) s m args below meth c 0 0 Q 4 dC dI ad cA A M161 12 [(0, .ref (ad 78)), (1, .int (sI 3)), (2, .int (sI a159)), (3, .int (sI a160))] [] := by
    intro n156
    induction n156 with
    | zero =>
      intro a159 a160 M161 gq162 h163 hM161
      exfalso; omega
    | succ n156 ih157 =>
      intro a159 a160 M161 gq162 h163 hM161
      have u164b := tkx_b (f := gf) (n := gn) (M := M161) (by omega)
      refine j_iload_n C 3 3 dX8_sum_12 rfl rfl ?_
      refine y_sipush C dX8_sum_13 rfl ?_
      refine y_icmp_ge C 71 dX8_sum_16 (by decide) (by omega) (fun h165 => ?_) (fun h165 => ?_)
      · have u205e := ll_e gf gn 2043 2045 (teP gf gn false (suR gf gn 2)) ((teP gf gn false (suR gf gn 2)) gi).2.2 gq162 a160 (M102.1 78 5).toInt (M102.1 78 6).toInt (M161.1 78 5).toInt (M161.1 78 6).toInt (psX M161) (by decide) (te_g gf gn (fun _ => suR_g gf gn 2)) (by omega) (by omega)
        have u205r : b01 (RR ((suR gf gn 3) gi) (M0.1 78 5).toInt (M0.1 78 6).toInt (M161.1 78 5).toInt (M161.1 78 6).toInt (psX M161)) = 1 := by rw [su_q gf gn 2 3 rfl]; exact rr_sq ((teP gf gn false (suR gf gn 2)) gi) (luP gf gn 2043 2045 (teP gf gn false (suR gf gn 2))) (M0.1 78 5).toInt (M0.1 78 6).toInt (M102.1 78 5).toInt (M102.1 78 6).toInt (psX M102) (M161.1 78 5).toInt (M161.1 78 6).toInt (psX M161) (by omega) (by omega)
        exact hret _ _ _ dX8_sum_71 ⟨hM161, by omega⟩
      · refine j_aload_n C 0 0 dX8_sum_19 rfl rfl ?_
        refine y_getI C 7 _ _ fX8_sum_22 rfl rfl ft_7_5 sb_7_5 hM161 dX8_sum_20 (fun a166 ea166 la166 ua166 => ?_)
        refine y_if_ne C 71 dX8_sum_23 (by decide) (by omega) (fun h168 => ?_) (fun h168 => ?_)
        · have u206e := ll_e gf gn 2043 2045 (teP gf gn false (suR gf gn 2)) ((teP gf gn false (suR gf gn 2)) gi).2.2 gq162 a160 (M102.1 78 5).toInt (M102.1 78 6).toInt (M161.1 78 5).toInt (M161.1 78 6).toInt (psX M161) (by decide) (te_g gf gn (fun _ => suR_g gf gn 2)) (by omega) (by omega)
          have u206r : b01 (RR ((suR gf gn 3) gi) (M0.1 78 5).toInt (M0.1 78 6).toInt (M161.1 78 5).toInt (M161.1 78 6).toInt (psX M161)) = 1 := by rw [su_q gf gn 2 3 rfl]; exact rr_sq ((teP gf gn false (suR gf gn 2)) gi) (luP gf gn 2043 2045 (teP gf gn false (suR gf gn 2))) (M0.1 78 5).toInt (M0.1 78 6).toInt (M102.1 78 5).toInt (M102.1 78 6).toInt (psX M102) (M161.1 78 5).toInt (M161.1 78 6).toInt (psX M161) (by omega) (by omega)
          exact hret _ _ _ dX8_sum_71 ⟨hM161, by omega⟩
        · refine j_iload_n C 2 2 dX8_sum_26 rfl rfl ?_
          refine y_sipush C dX8_sum_27 rfl ?_
          refine y_icmp_eq C 40 dX8_sum_30 (by decide) (by omega) (fun h169 => ?_) (fun h169 => ?_)
          · refine j_aload_n C 0 0 dX8_sum_40 rfl rfl ?_
            refine j_dup C dX8_sum_41 rfl ?_
            refine y_getI C 7 _ _ fX8_sum_18 rfl rfl ft_7_2 sb_7_2 hM161 dX8_sum_42 (fun a170 ea170 la170 ua170 => ?_)
            refine y_iconst C dX8_sum_45 ?_
            refine y_iadd C dX8_sum_46 ?_
            refine y_putI C 7 _ _ qX8_sum_18 rfl rfl ft_7_2 sb_7_2 hM161 (PX.w hpr rfl rfl) dX8_sum_47 (by omega) (fun M172 eM172 hM172 => ?_)
            have xM172 := tkx_j (f := gf) (n := gn) (gi := gq162) eM172 (by omega) (by omega) (by omega) (by omega)
            refine j_aload_n C 0 0 dX8_sum_50 rfl rfl ?_
            refine j_iload_n C 1 1 dX8_sum_51 rfl rfl ?_
            refine j_callVv C (d := 13) (As := [.int (sI 3)]) (st := []) 78 (s_lt rfl rfl) (s_kc (c := 7) rfl rfl) (by decide) rfl (s5_X8_term hM172 hpr gf gn (nxF gf gn gq162) (by omega) (by omega)) gX8_sum_X8_term rfl hdX8_term (by decide) (Nat.le_of_ble_eq_true rfl) dX8_sum_52 rfl (fun M174 h175 => ?_)
            obtain ⟨hM174, h176⟩ := h175
            have bM174 := tkx_b (f := gf) (n := gn) (M := M174) (by omega)
            have qM174 := po_rr (teP gf gn false (suR gf gn 2)) gn (nxF gf gn gq162) (M172.1 78 5).toInt (M172.1 78 6).toInt (psX M172) (M174.1 78 5).toInt (M174.1 78 6).toInt (psX M174) (te_g gf gn (fun _ => suR_g gf gn 2)) (by omega) (by omega)
            refine j_aload_n C 0 0 dX8_sum_55 rfl rfl ?_
            refine j_iload_n C 2 2 dX8_sum_56 rfl rfl ?_
            refine j_callVv C (d := 0) (As := [.int (sI a159)]) (st := []) 78 (s_lt rfl rfl) (s_kc (c := 7) rfl rfl) (by decide) rfl (s1_X8_emit hM174 hpr a159 (by omega) gf gn ((teP gf gn false (suR gf gn 2)) (nxF gf gn gq162)).2.2 (by omega) (by omega)) gX8_sum_X8_emit rfl hdX8_emit (by decide) (Nat.le_of_ble_eq_true rfl) dX8_sum_57 rfl (fun M178 h179 => ?_)
            obtain ⟨hM178, h180⟩ := h179
            have bM178 := tkx_b (f := gf) (n := gn) (M := M178) (by omega)
            have qM178 := po_eq gn ((teP gf gn false (suR gf gn 2)) (nxF gf gn gq162)).2.2 (M174.1 78 5).toInt (psX M174) (M178.1 78 5).toInt (psX M178) (by omega) (by omega) (by omega)
            refine j_aload_n C 0 0 dX8_sum_60 rfl rfl ?_
            refine j_callVi C (d := 0) (As := []) (st := []) 78 (s_lt rfl rfl) (s_kc (c := 7) rfl rfl) (by decide) rfl (s1_X8_token hM178 gf gn ((teP gf gn false (suR gf gn 2)) (nxF gf gn gq162)).2.2 (by omega) (by omega)) gX8_sum_X8_token rfl hdX8_token (by decide) (Nat.le_of_ble_eq_true rfl) dX8_sum_61 rfl (fun r181 M182 h183 => ?_)
            obtain ⟨a185, rfl, rfl, h184⟩ := h183
            refine j_istore_n C 2 [(2, .int (sI a185)), (0, .ref (ad 78)), (1, .int (sI 3)), (3, .int (sI a160))] dX8_sum_64 rfl (by decide) rfl ?_
            refine y_iinc C 3 [(3, .int (sI (a160 + 1))), (2, .int (sI a185)), (0, .ref (ad 78)), (1, .int (sI 3))] dX8_sum_65 rfl (by decide) rfl ?_
            have u186s := ll_s gf gn 2043 2045 (teP gf gn false (suR gf gn 2)) ((teP gf gn false (suR gf gn 2)) gi).2.2 gq162 a160 (M102.1 78 5).toInt (M102.1 78 6).toInt (M161.1 78 5).toInt (M161.1 78 6).toInt (psX M161) (M172.1 78 5).toInt (M172.1 78 6).toInt (M174.1 78 5).toInt (M174.1 78 6).toInt (psX M174) (M178.1 78 5).toInt (M178.1 78 6).toInt (psX M178) (by decide) (te_g gf gn (fun _ => suR_g gf gn 2)) (by omega) (by omega) (by omega) (by omega) (by omega) (by omega) (by omega) (by omega) (by omega)
            refine j_goto C 12 dX8_sum_68 (by decide) ?_
            refine j_lv [2, 3, 1, 0] rfl ?_; exact ih157 a185 (a160 + 1) M178 ((teP gf gn false (suR gf gn 2)) (nxF gf gn gq162)).2.2 (by omega) hM178
          · refine j_iload_n C 2 2 dX8_sum_33 rfl rfl ?_
            refine y_sipush C dX8_sum_34 rfl ?_
            refine y_icmp_ne C 71 dX8_sum_37 (by decide) (by omega) (fun h187 => ?_) (fun h187 => ?_)
            · have u207e := ll_e gf gn 2043 2045 (teP gf gn false (suR gf gn 2)) ((teP gf gn false (suR gf gn 2)) gi).2.2 gq162 a160 (M102.1 78 5).toInt (M102.1 78 6).toInt (M161.1 78 5).toInt (M161.1 78 6).toInt (psX M161) (by decide) (te_g gf gn (fun _ => suR_g gf gn 2)) (by omega) (by omega)
              have u207r : b01 (RR ((suR gf gn 3) gi) (M0.1 78 5).toInt (M0.1 78 6).toInt (M161.1 78 5).toInt (M161.1 78 6).toInt (psX M161)) = 1 := by rw [su_q gf gn 2 3 rfl]; exact rr_sq ((teP gf gn false (suR gf gn 2)) gi) (luP gf gn 2043 2045 (teP gf gn false (suR gf gn 2))) (M0.1 78 5).toInt (M0.1 78 6).toInt (M102.1 78 5).toInt (M102.1 78 6).toInt (psX M102) (M161.1 78 5).toInt (M161.1 78 6).toInt (psX M161) (by omega) (by omega)
              exact hret _ _ _ dX8_sum_71 ⟨hM161, by omega⟩
            · refine j_aload_n C 0 0 dX8_sum_40 rfl rfl ?_
              refine j_dup C dX8_sum_41 rfl ?_
              refine y_getI C 7 _ _ fX8_sum_18 rfl rfl ft_7_2 sb_7_2 hM161 dX8_sum_42 (fun a188 ea188 la188 ua188 => ?_)
              refine y_iconst C dX8_sum_45 ?_
              refine y_iadd C dX8_sum_46 ?_
              refine y_putI C 7 _ _ qX8_sum_18 rfl rfl ft_7_2 sb_7_2 hM161 (PX.w hpr rfl rfl) dX8_sum_47 (by omega) (fun M190 eM190 hM190 => ?_)
              have xM190 := tkx_j (f := gf) (n := gn) (gi := gq162) eM190 (by omega) (by omega) (by omega) (by omega)
              refine j_aload_n C 0 0 dX8_sum_50 rfl rfl ?_
              refine j_iload_n C 1 1 dX8_sum_51 rfl rfl ?_
              refine j_callVv C (d := 13) (As := [.int (sI 3)]) (st := []) 78 (s_lt rfl rfl) (s_kc (c := 7) rfl rfl) (by decide) rfl (s5_X8_term hM190 hpr gf gn (nxF gf gn gq162) (by omega) (by omega)) gX8_sum_X8_term rfl hdX8_term (by decide) (Nat.le_of_ble_eq_true rfl) dX8_sum_52 rfl (fun M192 h193 => ?_)
              obtain ⟨hM192, h194⟩ := h193
              have bM192 := tkx_b (f := gf) (n := gn) (M := M192) (by omega)
              have qM192 := po_rr (teP gf gn false (suR gf gn 2)) gn (nxF gf gn gq162) (M190.1 78 5).toInt (M190.1 78 6).toInt (psX M190) (M192.1 78 5).toInt (M192.1 78 6).toInt (psX M192) (te_g gf gn (fun _ => suR_g gf gn 2)) (by omega) (by omega)
              refine j_aload_n C 0 0 dX8_sum_55 rfl rfl ?_
              refine j_iload_n C 2 2 dX8_sum_56 rfl rfl ?_
              refine j_callVv C (d := 0) (As := [.int (sI a159)]) (st := []) 78 (s_lt rfl rfl) (s_kc (c := 7) rfl rfl) (by decide) rfl (s1_X8_emit hM192 hpr a159 (by omega) gf gn ((teP gf gn false (suR gf gn 2)) (nxF gf gn gq162)).2.2 (by omega) (by omega)) gX8_sum_X8_emit rfl hdX8_emit (by decide) (Nat.le_of_ble_eq_true rfl) dX8_sum_57 rfl (fun M196 h197 => ?_)
              obtain ⟨hM196, h198⟩ := h197
              have bM196 := tkx_b (f := gf) (n := gn) (M := M196) (by omega)
              have qM196 := po_eq gn ((teP gf gn false (suR gf gn 2)) (nxF gf gn gq162)).2.2 (M192.1 78 5).toInt (psX M192) (M196.1 78 5).toInt (psX M196) (by omega) (by omega) (by omega)
              refine j_aload_n C 0 0 dX8_sum_60 rfl rfl ?_
              refine j_callVi C (d := 0) (As := []) (st := []) 78 (s_lt rfl rfl) (s_kc (c := 7) rfl rfl) (by decide) rfl (s1_X8_token hM196 gf gn ((teP gf gn false (suR gf gn 2)) (nxF gf gn gq162)).2.2 (by omega) (by omega)) gX8_sum_X8_token rfl hdX8_token (by decide) (Nat.le_of_ble_eq_true rfl) dX8_sum_61 rfl (fun r199 M200 h201 => ?_)
              obtain ⟨a203, rfl, rfl, h202⟩ := h201
              refine j_istore_n C 2 [(2, .int (sI a203)), (0, .ref (ad 78)), (1, .int (sI 3)), (3, .int (sI a160))] dX8_sum_64 rfl (by decide) rfl ?_
              refine y_iinc C 3 [(3, .int (sI (a160 + 1))), (2, .int (sI a203)), (0, .ref (ad 78)), (1, .int (sI 3))] dX8_sum_65 rfl (by decide) rfl ?_
              have u204s := ll_s gf gn 2043 2045 (teP gf gn false (suR gf gn 2)) ((teP gf gn false (suR gf gn 2)) gi).2.2 gq162 a160 (M102.1 78 5).toInt (M102.1 78 6).toInt (M161.1 78 5).toInt (M161.1 78 6).toInt (psX M161) (M190.1 78 5).toInt (M190.1 78 6).toInt (M192.1 78 5).toInt (M192.1 78 6).toInt (psX M192) (M196.1 78 5).toInt (M196.1 78 6).toInt (psX M196) (by decide) (te_g gf gn (fun _ => suR_g gf gn 2)) (by omega) (by omega) (by omega) (by omega) (by omega) (by omega) (by omega) (by omega) (by omega)
              refine j_goto C 12 dX8_sum_68 (by decide) ?_
              refine j_lv [2, 3, 1, 0] rfl ?_; exact ih157 a203 (a160 + 1) M196 ((teP gf gn false (suR gf gn 2)) (nxF gf gn gq162)).2.2 (by omega) hM196
  refine j_lv [2, 3, 1, 0] rfl ?_; exact L158 4294967306 a109 0 M102 ((teP gf gn false (suR gf gn 2)) gi).2.2 (by omega) hM102
set_option maxHeartbeats 4000000 in
theorem s6_X8_atom {l : Launch} {dC : Nat → ClassId} {dI : Nat → Nat → Nat} {ad : Nat → Nat} {cA : Nat → ClassId} {pr : Nat → Nat → Bool} {Kz : mm_M} {M0 : mm_M} (hM0 : INV pr Kz M0) (hpr : PX pr) (gf : Nat → Int) (gn : Int) (gi : Int) (hp0 : b01 (TKX gf gn M0) = 1) (hp1 : b01 (PO gn gi (M0.1 78 5).toInt (psX M0)) = 1) : Cv l 15 yX8_atom wsX8_atom dC dI ad cA [.ref (ad 78), .int (sI 2)] M0 (fun M' => INV pr Kz M' ∧ (b01 (TKX gf gn M') = 1) ∧ b01 (RR ((atP gf gn false (suR gf gn 3)) gi) (M0.1 78 5).toInt (M0.1 78 6).toInt (M'.1 78 5).toInt (M'.1 78 6).toInt (psX M')) = 1) := by
  refine cv_of (cc := cX8_atom) (maxL := 3) (lv := [(0, .ref (ad 78)), (1, .int (sI 2))]) (by decide) rfl (Nat.le_of_ble_eq_true rfl) rfl ?_
  intro p e s m args below meth c A Q C hret
  have u101b := tkx_b (f := gf) (n := gn) (M := M0) (by omega)
  refine j_aload_n C 0 0 dX8_atom_0 rfl rfl ?_
  refine y_getI C 7 _ _ fX8_atom_22 rfl rfl ft_7_5 sb_7_5 hM0 dX8_atom_1 (fun a102 ea102 la102 ua102 => ?_)
  refine y_if_eq C 8 dX8_atom_4 (by decide) (by omega) (fun h104 => ?_) (fun h104 => ?_)
  · refine j_aload_n C 0 0 dX8_atom_8 rfl rfl ?_
    refine j_callVi C (d := 0) (As := []) (st := []) 78 (s_lt rfl rfl) (s_kc (c := 7) rfl rfl) (by decide) rfl (s1_X8_token hM0 gf gn gi (by omega) (by omega)) gX8_atom_X8_token rfl hdX8_token (by decide) (Nat.le_of_ble_eq_true rfl) dX8_atom_9 rfl (fun r105 M106 h107 => ?_)
    obtain ⟨a109, rfl, rfl, h108⟩ := h107
    refine j_istore_n C 2 [(2, .int (sI a109)), (0, .ref (ad 78)), (1, .int (sI 2))] dX8_atom_12 rfl (by decide) rfl ?_
    refine j_iload_n C 0 2 dX8_atom_13 rfl rfl ?_
    refine y_sipush C dX8_atom_14 rfl ?_
    refine y_icmp_ge C 38 dX8_atom_17 (by decide) (by omega) (fun h110 => ?_) (fun h110 => ?_)
    · refine j_iload_n C 0 2 dX8_atom_38 rfl rfl ?_
      refine y_sipush C dX8_atom_39 rfl ?_
      refine y_icmp_ne C 67 dX8_atom_42 (by decide) (by omega) (fun h111 => ?_) (fun h111 => ?_)
      · refine j_aload_n C 1 0 dX8_atom_67 rfl rfl ?_
        refine y_iconst C dX8_atom_68 ?_
        refine j_callVv C (d := 0) (As := [.int (sI 2)]) (st := []) 78 (s_lt rfl rfl) (s_kc (c := 7) rfl rfl) (by decide) rfl (s1_X8_fail hM0 hpr 2 (by omega) gf gn gi (by omega) (by omega) (by omega)) gX8_atom_X8_fail rfl hdX8_fail (by decide) (Nat.le_of_ble_eq_true rfl) dX8_atom_69 rfl (fun M113 h114 => ?_)
        obtain ⟨hM113, fM113, h115⟩ := h114
        have bM113 := tkx_b (f := gf) (n := gn) (M := M113) (by omega)
        have qM113 := po_f gn ((faQ gf gn 2) gi).2.2 (M113.1 78 5).toInt (psX M113) (by omega)
        have u116r := at_4 gf gn false (suR gf gn 3) gi (M0.1 78 5).toInt (M0.1 78 6).toInt (psX M0) (M113.1 78 5).toInt (M113.1 78 6).toInt (psX M113) (by omega) (by omega) (by omega)
        exact hret _ _ _ dX8_atom_72 ⟨hM113, by omega⟩
      · refine j_aload_n C 1 0 dX8_atom_45 rfl rfl ?_
        refine j_iload_n C 2 1 dX8_atom_46 rfl rfl ?_
        refine j_callVv C (d := 0) (As := [.int (sI 2)]) (st := []) 78 (s_lt rfl rfl) (s_kc (c := 7) rfl rfl) (by decide) rfl (s3_X8_goDeeper hM0 hpr gf gn gi (by omega) (by omega) (by omega) (by omega) (by omega)) gX8_atom_X8_goDeeper rfl hdX8_goDeeper (by decide) (Nat.le_of_ble_eq_true rfl) dX8_atom_47 rfl (fun M118 h119 => ?_)
        obtain ⟨hM118, fM118, h120⟩ := h119
        have bM118 := tkx_b (f := gf) (n := gn) (M := M118) (by omega)
        refine j_aload_n C 1 0 dX8_atom_50 rfl rfl ?_
        refine j_iload_n C 2 1 dX8_atom_51 rfl rfl ?_
        refine y_iconst C dX8_atom_52 ?_
        refine y_iadd C dX8_atom_53 ?_
        refine j_callVv C (d := 14) (As := [.int (sI (2 + 1))]) (st := []) 78 (s_lt rfl rfl) (s_kc (c := 7) rfl rfl) (by decide) rfl (s5_X8_sum hM118 hpr gf gn (nxF gf gn gi) (by omega) (by omega)) gX8_atom_X8_sum rfl hdX8_sum (by decide) (Nat.le_of_ble_eq_true rfl) dX8_atom_54 rfl (fun M122 h123 => ?_)
        obtain ⟨hM122, h124⟩ := h123
        have bM122 := tkx_b (f := gf) (n := gn) (M := M122) (by omega)
        have qM122 := po_rr (suR gf gn 3) gn (nxF gf gn gi) (M118.1 78 5).toInt (M118.1 78 6).toInt (psX M118) (M122.1 78 5).toInt (M122.1 78 6).toInt (psX M122) (suR_g gf gn 3) (by omega) (by omega)
        refine j_aload_n C 1 0 dX8_atom_57 rfl rfl ?_
        refine y_sipush C dX8_atom_58 rfl ?_
        refine j_callVv C (d := 1) (As := [.int (sI 2041)]) (st := []) 78 (s_lt rfl rfl) (s_kc (c := 7) rfl rfl) (by decide) rfl (s1_X8_expect hM122 hpr 2041 (by omega) gf gn ((suR gf gn 3) (nxF gf gn gi)).2.2 (by omega) (by omega) (by omega) (by omega)) gX8_atom_X8_expect rfl hdX8_expect (by decide) (Nat.le_of_ble_eq_true rfl) dX8_atom_61 rfl (fun M126 h127 => ?_)
        obtain ⟨hM126, fM126, h128⟩ := h127
        have bM126 := tkx_b (f := gf) (n := gn) (M := M126) (by omega)
        have qM126 := po_rr (exP gf gn 2041) gn ((suR gf gn 3) (nxF gf gn gi)).2.2 (M122.1 78 5).toInt (M122.1 78 6).toInt (psX M122) (M126.1 78 5).toInt (M126.1 78 6).toInt (psX M126) (ex_g gf gn 2041 (by omega)) (by omega) (by omega)
        refine j_goto C 72 dX8_atom_64 (by decide) ?_
        have u129r := at_2 gf gn (suR gf gn 3) gi (M0.1 78 5).toInt (M0.1 78 6).toInt (psX M0) (M118.1 78 5).toInt (M118.1 78 6).toInt (M122.1 78 5).toInt (M122.1 78 6).toInt (psX M122) (M126.1 78 5).toInt (M126.1 78 6).toInt (psX M126) (by omega) (by omega) (by omega) (by omega) (by omega) (by omega)
        exact hret _ _ _ dX8_atom_72 ⟨hM126, by omega⟩
    · refine j_aload_n C 1 0 dX8_atom_20 rfl rfl ?_
      refine j_dup C dX8_atom_21 rfl ?_
      refine y_getI C 7 _ _ fX8_atom_18 rfl rfl ft_7_2 sb_7_2 hM0 dX8_atom_22 (fun a130 ea130 la130 ua130 => ?_)
      refine y_iconst C dX8_atom_25 ?_
      refine y_iadd C dX8_atom_26 ?_
      refine y_putI C 7 _ _ qX8_atom_18 rfl rfl ft_7_2 sb_7_2 hM0 (PX.w hpr rfl rfl) dX8_atom_27 (by omega) (fun M132 eM132 hM132 => ?_)
      have xM132 := tkx_j (f := gf) (n := gn) (gi := gi) eM132 (by omega) (by omega) (by omega) (by omega)
      refine j_aload_n C 1 0 dX8_atom_30 rfl rfl ?_
      refine j_iload_n C 0 2 dX8_atom_31 rfl rfl ?_
      refine j_callVv C (d := 0) (As := [.int (sI a109)]) (st := []) 78 (s_lt rfl rfl) (s_kc (c := 7) rfl rfl) (by decide) rfl (s1_X8_emit hM132 hpr a109 (by omega) gf gn (nxF gf gn gi) (by omega) (by omega)) gX8_atom_X8_emit rfl hdX8_emit (by decide) (Nat.le_of_ble_eq_true rfl) dX8_atom_32 rfl (fun M134 h135 => ?_)
      obtain ⟨hM134, h136⟩ := h135
      have bM134 := tkx_b (f := gf) (n := gn) (M := M134) (by omega)
      have qM134 := po_eq gn (nxF gf gn gi) (M132.1 78 5).toInt (psX M132) (M134.1 78 5).toInt (psX M134) (by omega) (by omega) (by omega)
      refine j_goto C 72 dX8_atom_35 (by decide) ?_
      have u137r := rr_eq ((atP gf gn false (suR gf gn 3)) gi) (M0.1 78 5).toInt (M0.1 78 6).toInt (M132.1 78 5).toInt (M132.1 78 6).toInt (psX M132) (M134.1 78 5).toInt (M134.1 78 6).toInt (psX M134) (at_1 gf gn false (suR gf gn 3) gi (M0.1 78 5).toInt (M0.1 78 6).toInt (psX M0) (M132.1 78 5).toInt (M132.1 78 6).toInt (psX M132) (by omega) (by omega) (by omega) (by omega) (by omega) (by omega)) (by omega) (by omega) (by omega)
      exact hret _ _ _ dX8_atom_72 ⟨hM134, by omega⟩
  · have u138r := rr_no ((atP gf gn false (suR gf gn 3)) gi) (M0.1 78 5).toInt (M0.1 78 6).toInt (M0.1 78 5).toInt (M0.1 78 6).toInt (psX M0) (by omega) rfl rfl
    exact hret _ _ _ dX8_atom_7 ⟨hM0, by omega⟩
set_option maxHeartbeats 4000000 in
theorem s6_X8_term {l : Launch} {dC : Nat → ClassId} {dI : Nat → Nat → Nat} {ad : Nat → Nat} {cA : Nat → ClassId} {pr : Nat → Nat → Bool} {Kz : mm_M} {M0 : mm_M} (hM0 : INV pr Kz M0) (hpr : PX pr) (gf : Nat → Int) (gn : Int) (gi : Int) (hp0 : b01 (TKX gf gn M0) = 1) (hp1 : b01 (PO gn gi (M0.1 78 5).toInt (psX M0)) = 1) : Cv l 16 yX8_term wsX8_term dC dI ad cA [.ref (ad 78), .int (sI 2)] M0 (fun M' => INV pr Kz M' ∧ (b01 (TKX gf gn M') = 1) ∧ b01 (RR ((teP gf gn false (suR gf gn 3)) gi) (M0.1 78 5).toInt (M0.1 78 6).toInt (M'.1 78 5).toInt (M'.1 78 6).toInt (psX M')) = 1) := by
  refine cv_of (cc := cX8_term) (maxL := 3) (lv := [(0, .ref (ad 78)), (1, .int (sI 2))]) (by decide) rfl (Nat.le_of_ble_eq_true rfl) rfl ?_
  intro p e s m args below meth c A Q C hret
  refine j_aload_n C 0 0 dX8_term_0 rfl rfl ?_
  refine j_iload_n C 1 1 dX8_term_1 rfl rfl ?_
  refine j_callVv C (d := 15) (As := [.int (sI 2)]) (st := []) 78 (s_lt rfl rfl) (s_kc (c := 7) rfl rfl) (by decide) rfl (s6_X8_atom hM0 hpr gf gn gi (by omega) (by omega)) gX8_term_X8_atom rfl hdX8_atom (by decide) (Nat.le_of_ble_eq_true rfl) dX8_term_2 rfl (fun M102 h103 => ?_)
  obtain ⟨hM102, h104⟩ := h103
  have bM102 := tkx_b (f := gf) (n := gn) (M := M102) (by omega)
  have qM102 := po_rr (atP gf gn false (suR gf gn 3)) gn gi (M0.1 78 5).toInt (M0.1 78 6).toInt (psX M0) (M102.1 78 5).toInt (M102.1 78 6).toInt (psX M102) (at_g gf gn (fun _ => suR_g gf gn 3)) (by omega) (by omega)
  refine y_iconst C dX8_term_5 ?_
  have u105l := ll_0 (luP gf gn 2042 2042 (atP gf gn false (suR gf gn 3))) gn ((atP gf gn false (suR gf gn 3)) gi).2.2 (M102.1 78 5).toInt (M102.1 78 6).toInt (psX M102) (by omega)
  refine j_istore_n C 2 [(2, .int (sI 0)), (0, .ref (ad 78)), (1, .int (sI 2))] dX8_term_6 rfl (by decide) rfl ?_
  have L134 : ∀ (n132 : Nat), ∀ (a135 : Int) (M136 : mm_M) (gq137 : Int), (0 ≤ a135 ∧ a135 ≤ 900 ∧ (b01 (LL (luP gf gn 2042 2042 (atP gf gn false (suR gf gn 3))) gn ((atP gf gn false (suR gf gn 3)) gi).2.2 gq137 a135 (M102.1 78 5).toInt (M102.1 78 6).toInt (M136.1 78 5).toInt (M136.1 78 6).toInt (psX M136)) = 1) ∧ (b01 (TKX gf gn M136) = 1) ∧ (b01 (PO gn gq137 (M136.1 78 5).toInt (psX M136)) = 1) ∧ (900 - a135) < (n132 : Int)) → INV pr Kz M136 → jj p l e (cn_R 16) s m args below meth c 0 0 Q 3 dC dI ad cA A M136 7 [(0, .ref (ad 78)), (1, .int (sI 2)), (2, .int (sI a135))] [] := by
    intro n132
    induction n132 with
    | zero =>
      intro a135 M136 gq137 h138 hM136
      exfalso; omega
    | succ n132 ih133 =>
      intro a135 M136 gq137 h138 hM136
      have u139b := tkx_b (f := gf) (n := gn) (M := M136) (by omega)
      refine j_iload_n C 2 2 dX8_term_7 rfl rfl ?_
      refine y_sipush C dX8_term_8 rfl ?_
      refine y_icmp_ge C 59 dX8_term_11 (by decide) (by omega) (fun h140 => ?_) (fun h140 => ?_)
      · have u162e := ll_e gf gn 2042 2042 (atP gf gn false (suR gf gn 3)) ((atP gf gn false (suR gf gn 3)) gi).2.2 gq137 a135 (M102.1 78 5).toInt (M102.1 78 6).toInt (M136.1 78 5).toInt (M136.1 78 6).toInt (psX M136) (by decide) (at_g gf gn (fun _ => suR_g gf gn 3)) (by omega) (by omega)
        have u162r : b01 (RR ((teP gf gn false (suR gf gn 3)) gi) (M0.1 78 5).toInt (M0.1 78 6).toInt (M136.1 78 5).toInt (M136.1 78 6).toInt (psX M136)) = 1 := rr_sq ((atP gf gn false (suR gf gn 3)) gi) (luP gf gn 2042 2042 (atP gf gn false (suR gf gn 3))) (M0.1 78 5).toInt (M0.1 78 6).toInt (M102.1 78 5).toInt (M102.1 78 6).toInt (psX M102) (M136.1 78 5).toInt (M136.1 78 6).toInt (psX M136) (by omega) (by omega)
        exact hret _ _ _ dX8_term_59 ⟨hM136, by omega⟩
      · refine j_aload_n C 0 0 dX8_term_14 rfl rfl ?_
        refine y_getI C 7 _ _ fX8_term_22 rfl rfl ft_7_5 sb_7_5 hM136 dX8_term_15 (fun a141 ea141 la141 ua141 => ?_)
        refine y_if_ne C 59 dX8_term_18 (by decide) (by omega) (fun h143 => ?_) (fun h143 => ?_)
        · have u163e := ll_e gf gn 2042 2042 (atP gf gn false (suR gf gn 3)) ((atP gf gn false (suR gf gn 3)) gi).2.2 gq137 a135 (M102.1 78 5).toInt (M102.1 78 6).toInt (M136.1 78 5).toInt (M136.1 78 6).toInt (psX M136) (by decide) (at_g gf gn (fun _ => suR_g gf gn 3)) (by omega) (by omega)
          have u163r : b01 (RR ((teP gf gn false (suR gf gn 3)) gi) (M0.1 78 5).toInt (M0.1 78 6).toInt (M136.1 78 5).toInt (M136.1 78 6).toInt (psX M136)) = 1 := rr_sq ((atP gf gn false (suR gf gn 3)) gi) (luP gf gn 2042 2042 (atP gf gn false (suR gf gn 3))) (M0.1 78 5).toInt (M0.1 78 6).toInt (M102.1 78 5).toInt (M102.1 78 6).toInt (psX M102) (M136.1 78 5).toInt (M136.1 78 6).toInt (psX M136) (by omega) (by omega)
          exact hret _ _ _ dX8_term_59 ⟨hM136, by omega⟩
        · refine j_aload_n C 0 0 dX8_term_21 rfl rfl ?_
          refine j_callVi C (d := 0) (As := []) (st := []) 78 (s_lt rfl rfl) (s_kc (c := 7) rfl rfl) (by decide) rfl (s1_X8_token hM136 gf gn gq137 (by omega) (by omega)) gX8_term_X8_token rfl hdX8_token (by decide) (Nat.le_of_ble_eq_true rfl) dX8_term_22 rfl (fun r144 M145 h146 => ?_)
          obtain ⟨a148, rfl, rfl, h147⟩ := h146
          refine y_sipush C dX8_term_25 rfl ?_
          refine y_icmp_ne C 59 dX8_term_28 (by decide) (by omega) (fun h149 => ?_) (fun h149 => ?_)
          · have u164e := ll_e gf gn 2042 2042 (atP gf gn false (suR gf gn 3)) ((atP gf gn false (suR gf gn 3)) gi).2.2 gq137 a135 (M102.1 78 5).toInt (M102.1 78 6).toInt (M136.1 78 5).toInt (M136.1 78 6).toInt (psX M136) (by decide) (at_g gf gn (fun _ => suR_g gf gn 3)) (by omega) (by omega)
            have u164r : b01 (RR ((teP gf gn false (suR gf gn 3)) gi) (M0.1 78 5).toInt (M0.1 78 6).toInt (M136.1 78 5).toInt (M136.1 78 6).toInt (psX M136)) = 1 := rr_sq ((atP gf gn false (suR gf gn 3)) gi) (luP gf gn 2042 2042 (atP gf gn false (suR gf gn 3))) (M0.1 78 5).toInt (M0.1 78 6).toInt (M102.1 78 5).toInt (M102.1 78 6).toInt (psX M102) (M136.1 78 5).toInt (M136.1 78 6).toInt (psX M136) (by omega) (by omega)
            exact hret _ _ _ dX8_term_59 ⟨hM136, by omega⟩
          · refine j_aload_n C 0 0 dX8_term_31 rfl rfl ?_
            refine j_dup C dX8_term_32 rfl ?_
            refine y_getI C 7 _ _ fX8_term_18 rfl rfl ft_7_2 sb_7_2 hM136 dX8_term_33 (fun a150 ea150 la150 ua150 => ?_)
            refine y_iconst C dX8_term_36 ?_
            refine y_iadd C dX8_term_37 ?_
            refine y_putI C 7 _ _ qX8_term_18 rfl rfl ft_7_2 sb_7_2 hM136 (PX.w hpr rfl rfl) dX8_term_38 (by omega) (fun M152 eM152 hM152 => ?_)
            have xM152 := tkx_j (f := gf) (n := gn) (gi := gq137) eM152 (by omega) (by omega) (by omega) (by omega)
            refine j_aload_n C 0 0 dX8_term_41 rfl rfl ?_
            refine j_iload_n C 1 1 dX8_term_42 rfl rfl ?_
            refine j_callVv C (d := 15) (As := [.int (sI 2)]) (st := []) 78 (s_lt rfl rfl) (s_kc (c := 7) rfl rfl) (by decide) rfl (s6_X8_atom hM152 hpr gf gn (nxF gf gn gq137) (by omega) (by omega)) gX8_term_X8_atom rfl hdX8_atom (by decide) (Nat.le_of_ble_eq_true rfl) dX8_term_43 rfl (fun M154 h155 => ?_)
            obtain ⟨hM154, h156⟩ := h155
            have bM154 := tkx_b (f := gf) (n := gn) (M := M154) (by omega)
            have qM154 := po_rr (atP gf gn false (suR gf gn 3)) gn (nxF gf gn gq137) (M152.1 78 5).toInt (M152.1 78 6).toInt (psX M152) (M154.1 78 5).toInt (M154.1 78 6).toInt (psX M154) (at_g gf gn (fun _ => suR_g gf gn 3)) (by omega) (by omega)
            refine j_aload_n C 0 0 dX8_term_46 rfl rfl ?_
            refine y_sipush C dX8_term_47 rfl ?_
            refine j_callVv C (d := 0) (As := [.int (sI 2042)]) (st := []) 78 (s_lt rfl rfl) (s_kc (c := 7) rfl rfl) (by decide) rfl (s1_X8_emit hM154 hpr 2042 (by omega) gf gn ((atP gf gn false (suR gf gn 3)) (nxF gf gn gq137)).2.2 (by omega) (by omega)) gX8_term_X8_emit rfl hdX8_emit (by decide) (Nat.le_of_ble_eq_true rfl) dX8_term_50 rfl (fun M158 h159 => ?_)
            obtain ⟨hM158, h160⟩ := h159
            have bM158 := tkx_b (f := gf) (n := gn) (M := M158) (by omega)
            have qM158 := po_eq gn ((atP gf gn false (suR gf gn 3)) (nxF gf gn gq137)).2.2 (M154.1 78 5).toInt (psX M154) (M158.1 78 5).toInt (psX M158) (by omega) (by omega) (by omega)
            refine y_iinc C 2 [(2, .int (sI (a135 + 1))), (0, .ref (ad 78)), (1, .int (sI 2))] dX8_term_53 rfl (by decide) rfl ?_
            have u161s := ll_s gf gn 2042 2042 (atP gf gn false (suR gf gn 3)) ((atP gf gn false (suR gf gn 3)) gi).2.2 gq137 a135 (M102.1 78 5).toInt (M102.1 78 6).toInt (M136.1 78 5).toInt (M136.1 78 6).toInt (psX M136) (M152.1 78 5).toInt (M152.1 78 6).toInt (M154.1 78 5).toInt (M154.1 78 6).toInt (psX M154) (M158.1 78 5).toInt (M158.1 78 6).toInt (psX M158) (by decide) (at_g gf gn (fun _ => suR_g gf gn 3)) (by omega) (by omega) (by omega) (by omega) (by omega) (by omega) (by omega) (by omega) (by omega)
            refine j_goto C 7 dX8_term_56 (by decide) ?_
            refine j_lv [1, 2, 0] rfl ?_; exact ih133 (a135 + 1) M158 ((atP gf gn false (suR gf gn 3)) (nxF gf gn gq137)).2.2 (by omega) hM158
  refine j_lv [1, 2, 0] rfl ?_; exact L134 2010 0 M102 ((atP gf gn false (suR gf gn 3)) gi).2.2 (by omega) hM102
set_option maxHeartbeats 4000000 in
theorem s6_X8_sum {l : Launch} {dC : Nat → ClassId} {dI : Nat → Nat → Nat} {ad : Nat → Nat} {cA : Nat → ClassId} {pr : Nat → Nat → Bool} {Kz : mm_M} {M0 : mm_M} (hM0 : INV pr Kz M0) (hpr : PX pr) (gf : Nat → Int) (gn : Int) (gi : Int) (hp0 : b01 (TKX gf gn M0) = 1) (hp1 : b01 (PO gn gi (M0.1 78 5).toInt (psX M0)) = 1) : Cv l 17 yX8_sum wsX8_sum dC dI ad cA [.ref (ad 78), .int (sI 2)] M0 (fun M' => INV pr Kz M' ∧ (b01 (TKX gf gn M') = 1) ∧ b01 (RR ((suR gf gn 4) gi) (M0.1 78 5).toInt (M0.1 78 6).toInt (M'.1 78 5).toInt (M'.1 78 6).toInt (psX M')) = 1) := by
  refine cv_of (cc := cX8_sum) (maxL := 4) (lv := [(0, .ref (ad 78)), (1, .int (sI 2))]) (by decide) rfl (Nat.le_of_ble_eq_true rfl) rfl ?_
  intro p e s m args below meth c A Q C hret
  refine j_aload_n C 0 0 dX8_sum_0 rfl rfl ?_
  refine j_iload_n C 1 1 dX8_sum_1 rfl rfl ?_
  refine j_callVv C (d := 16) (As := [.int (sI 2)]) (st := []) 78 (s_lt rfl rfl) (s_kc (c := 7) rfl rfl) (by decide) rfl (s6_X8_term hM0 hpr gf gn gi (by omega) (by omega)) gX8_sum_X8_term rfl hdX8_term (by decide) (Nat.le_of_ble_eq_true rfl) dX8_sum_2 rfl (fun M102 h103 => ?_)
  obtain ⟨hM102, h104⟩ := h103
  have bM102 := tkx_b (f := gf) (n := gn) (M := M102) (by omega)
  have qM102 := po_rr (teP gf gn false (suR gf gn 3)) gn gi (M0.1 78 5).toInt (M0.1 78 6).toInt (psX M0) (M102.1 78 5).toInt (M102.1 78 6).toInt (psX M102) (te_g gf gn (fun _ => suR_g gf gn 3)) (by omega) (by omega)
  refine j_aload_n C 0 0 dX8_sum_5 rfl rfl ?_
  refine j_callVi C (d := 0) (As := []) (st := []) 78 (s_lt rfl rfl) (s_kc (c := 7) rfl rfl) (by decide) rfl (s1_X8_token hM102 gf gn ((teP gf gn false (suR gf gn 3)) gi).2.2 (by omega) (by omega)) gX8_sum_X8_token rfl hdX8_token (by decide) (Nat.le_of_ble_eq_true rfl) dX8_sum_6 rfl (fun r105 M106 h107 => ?_)
  obtain ⟨a109, rfl, rfl, h108⟩ := h107
  refine j_istore_n C 2 [(2, .int (sI a109)), (0, .ref (ad 78)), (1, .int (sI 2))] dX8_sum_9 rfl (by decide) rfl ?_
  refine y_iconst C dX8_sum_10 ?_
  have u110l := ll_0 (luP gf gn 2043 2045 (teP gf gn false (suR gf gn 3))) gn ((teP gf gn false (suR gf gn 3)) gi).2.2 (M102.1 78 5).toInt (M102.1 78 6).toInt (psX M102) (by omega)
  refine j_istore_n C 3 [(3, .int (sI 0)), (2, .int (sI a109)), (0, .ref (ad 78)), (1, .int (sI 2))] dX8_sum_11 rfl (by decide) rfl ?_
  have L158 : ∀ (n156 : Nat), ∀ (a159 : Int) (a160 : Int) (M161 : mm_M) (gq162 : Int), ((-2147483648) ≤ a159 ∧ a159 ≤ 2147483647 ∧ 0 ≤ a160 ∧ a160 ≤ 900 ∧ (b01 (LL (luP gf gn 2043 2045 (teP gf gn false (suR gf gn 3))) gn ((teP gf gn false (suR gf gn 3)) gi).2.2 gq162 a160 (M102.1 78 5).toInt (M102.1 78 6).toInt (M161.1 78 5).toInt (M161.1 78 6).toInt (psX M161)) = 1) ∧ (a159 = tkF gf gn (psX M161)) ∧ (b01 (TKX gf gn M161) = 1) ∧ (b01 (PO gn gq162 (M161.1 78 5).toInt (psX M161)) = 1) ∧ (900 - a160) < (n156 : Int)) → INV pr Kz M161 → jj p l e (cn_R 17) s m args below meth c 0 0 Q 4 dC dI ad cA A M161 12 [(0, .ref (ad 78)), (1, .int (sI 2)), (2, .int (sI a159)), (3, .int (sI a160))] [] := by
    intro n156
    induction n156 with
    | zero =>
      intro a159 a160 M161 gq162 h163 hM161
      exfalso; omega
    | succ n156 ih157 =>
      intro a159 a160 M161 gq162 h163 hM161
      have u164b := tkx_b (f := gf) (n := gn) (M := M161) (by omega)
      refine j_iload_n C 3 3 dX8_sum_12 rfl rfl ?_
      refine y_sipush C dX8_sum_13 rfl ?_
      refine y_icmp_ge C 71 dX8_sum_16 (by decide) (by omega) (fun h165 => ?_) (fun h165 => ?_)
      · have u205e := ll_e gf gn 2043 2045 (teP gf gn false (suR gf gn 3)) ((teP gf gn false (suR gf gn 3)) gi).2.2 gq162 a160 (M102.1 78 5).toInt (M102.1 78 6).toInt (M161.1 78 5).toInt (M161.1 78 6).toInt (psX M161) (by decide) (te_g gf gn (fun _ => suR_g gf gn 3)) (by omega) (by omega)
        have u205r : b01 (RR ((suR gf gn 4) gi) (M0.1 78 5).toInt (M0.1 78 6).toInt (M161.1 78 5).toInt (M161.1 78 6).toInt (psX M161)) = 1 := by rw [su_q gf gn 3 4 rfl]; exact rr_sq ((teP gf gn false (suR gf gn 3)) gi) (luP gf gn 2043 2045 (teP gf gn false (suR gf gn 3))) (M0.1 78 5).toInt (M0.1 78 6).toInt (M102.1 78 5).toInt (M102.1 78 6).toInt (psX M102) (M161.1 78 5).toInt (M161.1 78 6).toInt (psX M161) (by omega) (by omega)
        exact hret _ _ _ dX8_sum_71 ⟨hM161, by omega⟩
      · refine j_aload_n C 0 0 dX8_sum_19 rfl rfl ?_
        refine y_getI C 7 _ _ fX8_sum_22 rfl rfl ft_7_5 sb_7_5 hM161 dX8_sum_20 (fun a166 ea166 la166 ua166 => ?_)
        refine y_if_ne C 71 dX8_sum_23 (by decide) (by omega) (fun h168 => ?_) (fun h168 => ?_)
        · have u206e := ll_e gf gn 2043 2045 (teP gf gn false (suR gf gn 3)) ((teP gf gn false (suR gf gn 3)) gi).2.2 gq162 a160 (M102.1 78 5).toInt (M102.1 78 6).toInt (M161.1 78 5).toInt (M161.1 78 6).toInt (psX M161) (by decide) (te_g gf gn (fun _ => suR_g gf gn 3)) (by omega) (by omega)
          have u206r : b01 (RR ((suR gf gn 4) gi) (M0.1 78 5).toInt (M0.1 78 6).toInt (M161.1 78 5).toInt (M161.1 78 6).toInt (psX M161)) = 1 := by rw [su_q gf gn 3 4 rfl]; exact rr_sq ((teP gf gn false (suR gf gn 3)) gi) (luP gf gn 2043 2045 (teP gf gn false (suR gf gn 3))) (M0.1 78 5).toInt (M0.1 78 6).toInt (M102.1 78 5).toInt (M102.1 78 6).toInt (psX M102) (M161.1 78 5).toInt (M161.1 78 6).toInt (psX M161) (by omega) (by omega)
          exact hret _ _ _ dX8_sum_71 ⟨hM161, by omega⟩
        · refine j_iload_n C 2 2 dX8_sum_26 rfl rfl ?_
          refine y_sipush C dX8_sum_27 rfl ?_
          refine y_icmp_eq C 40 dX8_sum_30 (by decide) (by omega) (fun h169 => ?_) (fun h169 => ?_)
          · refine j_aload_n C 0 0 dX8_sum_40 rfl rfl ?_
            refine j_dup C dX8_sum_41 rfl ?_
            refine y_getI C 7 _ _ fX8_sum_18 rfl rfl ft_7_2 sb_7_2 hM161 dX8_sum_42 (fun a170 ea170 la170 ua170 => ?_)
            refine y_iconst C dX8_sum_45 ?_
            refine y_iadd C dX8_sum_46 ?_
            refine y_putI C 7 _ _ qX8_sum_18 rfl rfl ft_7_2 sb_7_2 hM161 (PX.w hpr rfl rfl) dX8_sum_47 (by omega) (fun M172 eM172 hM172 => ?_)
            have xM172 := tkx_j (f := gf) (n := gn) (gi := gq162) eM172 (by omega) (by omega) (by omega) (by omega)
            refine j_aload_n C 0 0 dX8_sum_50 rfl rfl ?_
            refine j_iload_n C 1 1 dX8_sum_51 rfl rfl ?_
            refine j_callVv C (d := 16) (As := [.int (sI 2)]) (st := []) 78 (s_lt rfl rfl) (s_kc (c := 7) rfl rfl) (by decide) rfl (s6_X8_term hM172 hpr gf gn (nxF gf gn gq162) (by omega) (by omega)) gX8_sum_X8_term rfl hdX8_term (by decide) (Nat.le_of_ble_eq_true rfl) dX8_sum_52 rfl (fun M174 h175 => ?_)
            obtain ⟨hM174, h176⟩ := h175
            have bM174 := tkx_b (f := gf) (n := gn) (M := M174) (by omega)
            have qM174 := po_rr (teP gf gn false (suR gf gn 3)) gn (nxF gf gn gq162) (M172.1 78 5).toInt (M172.1 78 6).toInt (psX M172) (M174.1 78 5).toInt (M174.1 78 6).toInt (psX M174) (te_g gf gn (fun _ => suR_g gf gn 3)) (by omega) (by omega)
            refine j_aload_n C 0 0 dX8_sum_55 rfl rfl ?_
            refine j_iload_n C 2 2 dX8_sum_56 rfl rfl ?_
            refine j_callVv C (d := 0) (As := [.int (sI a159)]) (st := []) 78 (s_lt rfl rfl) (s_kc (c := 7) rfl rfl) (by decide) rfl (s1_X8_emit hM174 hpr a159 (by omega) gf gn ((teP gf gn false (suR gf gn 3)) (nxF gf gn gq162)).2.2 (by omega) (by omega)) gX8_sum_X8_emit rfl hdX8_emit (by decide) (Nat.le_of_ble_eq_true rfl) dX8_sum_57 rfl (fun M178 h179 => ?_)
            obtain ⟨hM178, h180⟩ := h179
            have bM178 := tkx_b (f := gf) (n := gn) (M := M178) (by omega)
            have qM178 := po_eq gn ((teP gf gn false (suR gf gn 3)) (nxF gf gn gq162)).2.2 (M174.1 78 5).toInt (psX M174) (M178.1 78 5).toInt (psX M178) (by omega) (by omega) (by omega)
            refine j_aload_n C 0 0 dX8_sum_60 rfl rfl ?_
            refine j_callVi C (d := 0) (As := []) (st := []) 78 (s_lt rfl rfl) (s_kc (c := 7) rfl rfl) (by decide) rfl (s1_X8_token hM178 gf gn ((teP gf gn false (suR gf gn 3)) (nxF gf gn gq162)).2.2 (by omega) (by omega)) gX8_sum_X8_token rfl hdX8_token (by decide) (Nat.le_of_ble_eq_true rfl) dX8_sum_61 rfl (fun r181 M182 h183 => ?_)
            obtain ⟨a185, rfl, rfl, h184⟩ := h183
            refine j_istore_n C 2 [(2, .int (sI a185)), (0, .ref (ad 78)), (1, .int (sI 2)), (3, .int (sI a160))] dX8_sum_64 rfl (by decide) rfl ?_
            refine y_iinc C 3 [(3, .int (sI (a160 + 1))), (2, .int (sI a185)), (0, .ref (ad 78)), (1, .int (sI 2))] dX8_sum_65 rfl (by decide) rfl ?_
            have u186s := ll_s gf gn 2043 2045 (teP gf gn false (suR gf gn 3)) ((teP gf gn false (suR gf gn 3)) gi).2.2 gq162 a160 (M102.1 78 5).toInt (M102.1 78 6).toInt (M161.1 78 5).toInt (M161.1 78 6).toInt (psX M161) (M172.1 78 5).toInt (M172.1 78 6).toInt (M174.1 78 5).toInt (M174.1 78 6).toInt (psX M174) (M178.1 78 5).toInt (M178.1 78 6).toInt (psX M178) (by decide) (te_g gf gn (fun _ => suR_g gf gn 3)) (by omega) (by omega) (by omega) (by omega) (by omega) (by omega) (by omega) (by omega) (by omega)
            refine j_goto C 12 dX8_sum_68 (by decide) ?_
            refine j_lv [2, 3, 1, 0] rfl ?_; exact ih157 a185 (a160 + 1) M178 ((teP gf gn false (suR gf gn 3)) (nxF gf gn gq162)).2.2 (by omega) hM178
          · refine j_iload_n C 2 2 dX8_sum_33 rfl rfl ?_
            refine y_sipush C dX8_sum_34 rfl ?_
            refine y_icmp_ne C 71 dX8_sum_37 (by decide) (by omega) (fun h187 => ?_) (fun h187 => ?_)
            · have u207e := ll_e gf gn 2043 2045 (teP gf gn false (suR gf gn 3)) ((teP gf gn false (suR gf gn 3)) gi).2.2 gq162 a160 (M102.1 78 5).toInt (M102.1 78 6).toInt (M161.1 78 5).toInt (M161.1 78 6).toInt (psX M161) (by decide) (te_g gf gn (fun _ => suR_g gf gn 3)) (by omega) (by omega)
              have u207r : b01 (RR ((suR gf gn 4) gi) (M0.1 78 5).toInt (M0.1 78 6).toInt (M161.1 78 5).toInt (M161.1 78 6).toInt (psX M161)) = 1 := by rw [su_q gf gn 3 4 rfl]; exact rr_sq ((teP gf gn false (suR gf gn 3)) gi) (luP gf gn 2043 2045 (teP gf gn false (suR gf gn 3))) (M0.1 78 5).toInt (M0.1 78 6).toInt (M102.1 78 5).toInt (M102.1 78 6).toInt (psX M102) (M161.1 78 5).toInt (M161.1 78 6).toInt (psX M161) (by omega) (by omega)
              exact hret _ _ _ dX8_sum_71 ⟨hM161, by omega⟩
            · refine j_aload_n C 0 0 dX8_sum_40 rfl rfl ?_
              refine j_dup C dX8_sum_41 rfl ?_
              refine y_getI C 7 _ _ fX8_sum_18 rfl rfl ft_7_2 sb_7_2 hM161 dX8_sum_42 (fun a188 ea188 la188 ua188 => ?_)
              refine y_iconst C dX8_sum_45 ?_
              refine y_iadd C dX8_sum_46 ?_
              refine y_putI C 7 _ _ qX8_sum_18 rfl rfl ft_7_2 sb_7_2 hM161 (PX.w hpr rfl rfl) dX8_sum_47 (by omega) (fun M190 eM190 hM190 => ?_)
              have xM190 := tkx_j (f := gf) (n := gn) (gi := gq162) eM190 (by omega) (by omega) (by omega) (by omega)
              refine j_aload_n C 0 0 dX8_sum_50 rfl rfl ?_
              refine j_iload_n C 1 1 dX8_sum_51 rfl rfl ?_
              refine j_callVv C (d := 16) (As := [.int (sI 2)]) (st := []) 78 (s_lt rfl rfl) (s_kc (c := 7) rfl rfl) (by decide) rfl (s6_X8_term hM190 hpr gf gn (nxF gf gn gq162) (by omega) (by omega)) gX8_sum_X8_term rfl hdX8_term (by decide) (Nat.le_of_ble_eq_true rfl) dX8_sum_52 rfl (fun M192 h193 => ?_)
              obtain ⟨hM192, h194⟩ := h193
              have bM192 := tkx_b (f := gf) (n := gn) (M := M192) (by omega)
              have qM192 := po_rr (teP gf gn false (suR gf gn 3)) gn (nxF gf gn gq162) (M190.1 78 5).toInt (M190.1 78 6).toInt (psX M190) (M192.1 78 5).toInt (M192.1 78 6).toInt (psX M192) (te_g gf gn (fun _ => suR_g gf gn 3)) (by omega) (by omega)
              refine j_aload_n C 0 0 dX8_sum_55 rfl rfl ?_
              refine j_iload_n C 2 2 dX8_sum_56 rfl rfl ?_
              refine j_callVv C (d := 0) (As := [.int (sI a159)]) (st := []) 78 (s_lt rfl rfl) (s_kc (c := 7) rfl rfl) (by decide) rfl (s1_X8_emit hM192 hpr a159 (by omega) gf gn ((teP gf gn false (suR gf gn 3)) (nxF gf gn gq162)).2.2 (by omega) (by omega)) gX8_sum_X8_emit rfl hdX8_emit (by decide) (Nat.le_of_ble_eq_true rfl) dX8_sum_57 rfl (fun M196 h197 => ?_)
              obtain ⟨hM196, h198⟩ := h197
              have bM196 := tkx_b (f := gf) (n := gn) (M := M196) (by omega)
              have qM196 := po_eq gn ((teP gf gn false (suR gf gn 3)) (nxF gf gn gq162)).2.2 (M192.1 78 5).toInt (psX M192) (M196.1 78 5).toInt (psX M196) (by omega) (by omega) (by omega)
              refine j_aload_n C 0 0 dX8_sum_60 rfl rfl ?_
              refine j_callVi C (d := 0) (As := []) (st := []) 78 (s_lt rfl rfl) (s_kc (c := 7) rfl rfl) (by decide) rfl (s1_X8_token hM196 gf gn ((teP gf gn false (suR gf gn 3)) (nxF gf gn gq162)).2.2 (by omega) (by omega)) gX8_sum_X8_token rfl hdX8_token (by decide) (Nat.le_of_ble_eq_true rfl) dX8_sum_61 rfl (fun r199 M200 h201 => ?_)
              obtain ⟨a203, rfl, rfl, h202⟩ := h201
              refine j_istore_n C 2 [(2, .int (sI a203)), (0, .ref (ad 78)), (1, .int (sI 2)), (3, .int (sI a160))] dX8_sum_64 rfl (by decide) rfl ?_
              refine y_iinc C 3 [(3, .int (sI (a160 + 1))), (2, .int (sI a203)), (0, .ref (ad 78)), (1, .int (sI 2))] dX8_sum_65 rfl (by decide) rfl ?_
              have u204s := ll_s gf gn 2043 2045 (teP gf gn false (suR gf gn 3)) ((teP gf gn false (suR gf gn 3)) gi).2.2 gq162 a160 (M102.1 78 5).toInt (M102.1 78 6).toInt (M161.1 78 5).toInt (M161.1 78 6).toInt (psX M161) (M190.1 78 5).toInt (M190.1 78 6).toInt (M192.1 78 5).toInt (M192.1 78 6).toInt (psX M192) (M196.1 78 5).toInt (M196.1 78 6).toInt (psX M196) (by decide) (te_g gf gn (fun _ => suR_g gf gn 3)) (by omega) (by omega) (by omega) (by omega) (by omega) (by omega) (by omega) (by omega) (by omega)
              refine j_goto C 12 dX8_sum_68 (by decide) ?_
              refine j_lv [2, 3, 1, 0] rfl ?_; exact ih157 a203 (a160 + 1) M196 ((teP gf gn false (suR gf gn 3)) (nxF gf gn gq162)).2.2 (by omega) hM196
  refine j_lv [2, 3, 1, 0] rfl ?_; exact L158 4294967306 a109 0 M102 ((teP gf gn false (suR gf gn 3)) gi).2.2 (by omega) hM102
set_option maxHeartbeats 4000000 in
theorem s7_X8_atom {l : Launch} {dC : Nat → ClassId} {dI : Nat → Nat → Nat} {ad : Nat → Nat} {cA : Nat → ClassId} {pr : Nat → Nat → Bool} {Kz : mm_M} {M0 : mm_M} (hM0 : INV pr Kz M0) (hpr : PX pr) (gf : Nat → Int) (gn : Int) (gi : Int) (hp0 : b01 (TKX gf gn M0) = 1) (hp1 : b01 (PO gn gi (M0.1 78 5).toInt (psX M0)) = 1) : Cv l 18 yX8_atom wsX8_atom dC dI ad cA [.ref (ad 78), .int (sI 1)] M0 (fun M' => INV pr Kz M' ∧ (b01 (TKX gf gn M') = 1) ∧ b01 (RR ((atP gf gn false (suR gf gn 4)) gi) (M0.1 78 5).toInt (M0.1 78 6).toInt (M'.1 78 5).toInt (M'.1 78 6).toInt (psX M')) = 1) := by
  refine cv_of (cc := cX8_atom) (maxL := 3) (lv := [(0, .ref (ad 78)), (1, .int (sI 1))]) (by decide) rfl (Nat.le_of_ble_eq_true rfl) rfl ?_
  intro p e s m args below meth c A Q C hret
  have u101b := tkx_b (f := gf) (n := gn) (M := M0) (by omega)
  refine j_aload_n C 0 0 dX8_atom_0 rfl rfl ?_
  refine y_getI C 7 _ _ fX8_atom_22 rfl rfl ft_7_5 sb_7_5 hM0 dX8_atom_1 (fun a102 ea102 la102 ua102 => ?_)
  refine y_if_eq C 8 dX8_atom_4 (by decide) (by omega) (fun h104 => ?_) (fun h104 => ?_)
  · refine j_aload_n C 0 0 dX8_atom_8 rfl rfl ?_
    refine j_callVi C (d := 0) (As := []) (st := []) 78 (s_lt rfl rfl) (s_kc (c := 7) rfl rfl) (by decide) rfl (s1_X8_token hM0 gf gn gi (by omega) (by omega)) gX8_atom_X8_token rfl hdX8_token (by decide) (Nat.le_of_ble_eq_true rfl) dX8_atom_9 rfl (fun r105 M106 h107 => ?_)
    obtain ⟨a109, rfl, rfl, h108⟩ := h107
    refine j_istore_n C 2 [(2, .int (sI a109)), (0, .ref (ad 78)), (1, .int (sI 1))] dX8_atom_12 rfl (by decide) rfl ?_
    refine j_iload_n C 0 2 dX8_atom_13 rfl rfl ?_
    refine y_sipush C dX8_atom_14 rfl ?_
    refine y_icmp_ge C 38 dX8_atom_17 (by decide) (by omega) (fun h110 => ?_) (fun h110 => ?_)
    · refine j_iload_n C 0 2 dX8_atom_38 rfl rfl ?_
      refine y_sipush C dX8_atom_39 rfl ?_
      refine y_icmp_ne C 67 dX8_atom_42 (by decide) (by omega) (fun h111 => ?_) (fun h111 => ?_)
      · refine j_aload_n C 1 0 dX8_atom_67 rfl rfl ?_
        refine y_iconst C dX8_atom_68 ?_
        refine j_callVv C (d := 0) (As := [.int (sI 2)]) (st := []) 78 (s_lt rfl rfl) (s_kc (c := 7) rfl rfl) (by decide) rfl (s1_X8_fail hM0 hpr 2 (by omega) gf gn gi (by omega) (by omega) (by omega)) gX8_atom_X8_fail rfl hdX8_fail (by decide) (Nat.le_of_ble_eq_true rfl) dX8_atom_69 rfl (fun M113 h114 => ?_)
        obtain ⟨hM113, fM113, h115⟩ := h114
        have bM113 := tkx_b (f := gf) (n := gn) (M := M113) (by omega)
        have qM113 := po_f gn ((faQ gf gn 2) gi).2.2 (M113.1 78 5).toInt (psX M113) (by omega)
        have u116r := at_4 gf gn false (suR gf gn 4) gi (M0.1 78 5).toInt (M0.1 78 6).toInt (psX M0) (M113.1 78 5).toInt (M113.1 78 6).toInt (psX M113) (by omega) (by omega) (by omega)
        exact hret _ _ _ dX8_atom_72 ⟨hM113, by omega⟩
      · refine j_aload_n C 1 0 dX8_atom_45 rfl rfl ?_
        refine j_iload_n C 2 1 dX8_atom_46 rfl rfl ?_
        refine j_callVv C (d := 0) (As := [.int (sI 1)]) (st := []) 78 (s_lt rfl rfl) (s_kc (c := 7) rfl rfl) (by decide) rfl (s2_X8_goDeeper hM0 hpr gf gn gi (by omega) (by omega) (by omega) (by omega) (by omega)) gX8_atom_X8_goDeeper rfl hdX8_goDeeper (by decide) (Nat.le_of_ble_eq_true rfl) dX8_atom_47 rfl (fun M118 h119 => ?_)
        obtain ⟨hM118, fM118, h120⟩ := h119
        have bM118 := tkx_b (f := gf) (n := gn) (M := M118) (by omega)
        refine j_aload_n C 1 0 dX8_atom_50 rfl rfl ?_
        refine j_iload_n C 2 1 dX8_atom_51 rfl rfl ?_
        refine y_iconst C dX8_atom_52 ?_
        refine y_iadd C dX8_atom_53 ?_
        refine j_callVv C (d := 17) (As := [.int (sI (1 + 1))]) (st := []) 78 (s_lt rfl rfl) (s_kc (c := 7) rfl rfl) (by decide) rfl (s6_X8_sum hM118 hpr gf gn (nxF gf gn gi) (by omega) (by omega)) gX8_atom_X8_sum rfl hdX8_sum (by decide) (Nat.le_of_ble_eq_true rfl) dX8_atom_54 rfl (fun M122 h123 => ?_)
        obtain ⟨hM122, h124⟩ := h123
        have bM122 := tkx_b (f := gf) (n := gn) (M := M122) (by omega)
        have qM122 := po_rr (suR gf gn 4) gn (nxF gf gn gi) (M118.1 78 5).toInt (M118.1 78 6).toInt (psX M118) (M122.1 78 5).toInt (M122.1 78 6).toInt (psX M122) (suR_g gf gn 4) (by omega) (by omega)
        refine j_aload_n C 1 0 dX8_atom_57 rfl rfl ?_
        refine y_sipush C dX8_atom_58 rfl ?_
        refine j_callVv C (d := 1) (As := [.int (sI 2041)]) (st := []) 78 (s_lt rfl rfl) (s_kc (c := 7) rfl rfl) (by decide) rfl (s1_X8_expect hM122 hpr 2041 (by omega) gf gn ((suR gf gn 4) (nxF gf gn gi)).2.2 (by omega) (by omega) (by omega) (by omega)) gX8_atom_X8_expect rfl hdX8_expect (by decide) (Nat.le_of_ble_eq_true rfl) dX8_atom_61 rfl (fun M126 h127 => ?_)
        obtain ⟨hM126, fM126, h128⟩ := h127
        have bM126 := tkx_b (f := gf) (n := gn) (M := M126) (by omega)
        have qM126 := po_rr (exP gf gn 2041) gn ((suR gf gn 4) (nxF gf gn gi)).2.2 (M122.1 78 5).toInt (M122.1 78 6).toInt (psX M122) (M126.1 78 5).toInt (M126.1 78 6).toInt (psX M126) (ex_g gf gn 2041 (by omega)) (by omega) (by omega)
        refine j_goto C 72 dX8_atom_64 (by decide) ?_
        have u129r := at_2 gf gn (suR gf gn 4) gi (M0.1 78 5).toInt (M0.1 78 6).toInt (psX M0) (M118.1 78 5).toInt (M118.1 78 6).toInt (M122.1 78 5).toInt (M122.1 78 6).toInt (psX M122) (M126.1 78 5).toInt (M126.1 78 6).toInt (psX M126) (by omega) (by omega) (by omega) (by omega) (by omega) (by omega)
        exact hret _ _ _ dX8_atom_72 ⟨hM126, by omega⟩
    · refine j_aload_n C 1 0 dX8_atom_20 rfl rfl ?_
      refine j_dup C dX8_atom_21 rfl ?_
      refine y_getI C 7 _ _ fX8_atom_18 rfl rfl ft_7_2 sb_7_2 hM0 dX8_atom_22 (fun a130 ea130 la130 ua130 => ?_)
      refine y_iconst C dX8_atom_25 ?_
      refine y_iadd C dX8_atom_26 ?_
      refine y_putI C 7 _ _ qX8_atom_18 rfl rfl ft_7_2 sb_7_2 hM0 (PX.w hpr rfl rfl) dX8_atom_27 (by omega) (fun M132 eM132 hM132 => ?_)
      have xM132 := tkx_j (f := gf) (n := gn) (gi := gi) eM132 (by omega) (by omega) (by omega) (by omega)
      refine j_aload_n C 1 0 dX8_atom_30 rfl rfl ?_
      refine j_iload_n C 0 2 dX8_atom_31 rfl rfl ?_
      refine j_callVv C (d := 0) (As := [.int (sI a109)]) (st := []) 78 (s_lt rfl rfl) (s_kc (c := 7) rfl rfl) (by decide) rfl (s1_X8_emit hM132 hpr a109 (by omega) gf gn (nxF gf gn gi) (by omega) (by omega)) gX8_atom_X8_emit rfl hdX8_emit (by decide) (Nat.le_of_ble_eq_true rfl) dX8_atom_32 rfl (fun M134 h135 => ?_)
      obtain ⟨hM134, h136⟩ := h135
      have bM134 := tkx_b (f := gf) (n := gn) (M := M134) (by omega)
      have qM134 := po_eq gn (nxF gf gn gi) (M132.1 78 5).toInt (psX M132) (M134.1 78 5).toInt (psX M134) (by omega) (by omega) (by omega)
      refine j_goto C 72 dX8_atom_35 (by decide) ?_
      have u137r := rr_eq ((atP gf gn false (suR gf gn 4)) gi) (M0.1 78 5).toInt (M0.1 78 6).toInt (M132.1 78 5).toInt (M132.1 78 6).toInt (psX M132) (M134.1 78 5).toInt (M134.1 78 6).toInt (psX M134) (at_1 gf gn false (suR gf gn 4) gi (M0.1 78 5).toInt (M0.1 78 6).toInt (psX M0) (M132.1 78 5).toInt (M132.1 78 6).toInt (psX M132) (by omega) (by omega) (by omega) (by omega) (by omega) (by omega)) (by omega) (by omega) (by omega)
      exact hret _ _ _ dX8_atom_72 ⟨hM134, by omega⟩
  · have u138r := rr_no ((atP gf gn false (suR gf gn 4)) gi) (M0.1 78 5).toInt (M0.1 78 6).toInt (M0.1 78 5).toInt (M0.1 78 6).toInt (psX M0) (by omega) rfl rfl
    exact hret _ _ _ dX8_atom_7 ⟨hM0, by omega⟩
set_option maxHeartbeats 4000000 in
theorem s7_X8_term {l : Launch} {dC : Nat → ClassId} {dI : Nat → Nat → Nat} {ad : Nat → Nat} {cA : Nat → ClassId} {pr : Nat → Nat → Bool} {Kz : mm_M} {M0 : mm_M} (hM0 : INV pr Kz M0) (hpr : PX pr) (gf : Nat → Int) (gn : Int) (gi : Int) (hp0 : b01 (TKX gf gn M0) = 1) (hp1 : b01 (PO gn gi (M0.1 78 5).toInt (psX M0)) = 1) : Cv l 19 yX8_term wsX8_term dC dI ad cA [.ref (ad 78), .int (sI 1)] M0 (fun M' => INV pr Kz M' ∧ (b01 (TKX gf gn M') = 1) ∧ b01 (RR ((teP gf gn false (suR gf gn 4)) gi) (M0.1 78 5).toInt (M0.1 78 6).toInt (M'.1 78 5).toInt (M'.1 78 6).toInt (psX M')) = 1) := by
  refine cv_of (cc := cX8_term) (maxL := 3) (lv := [(0, .ref (ad 78)), (1, .int (sI 1))]) (by decide) rfl (Nat.le_of_ble_eq_true rfl) rfl ?_
  intro p e s m args below meth c A Q C hret
  refine j_aload_n C 0 0 dX8_term_0 rfl rfl ?_
  refine j_iload_n C 1 1 dX8_term_1 rfl rfl ?_
  refine j_callVv C (d := 18) (As := [.int (sI 1)]) (st := []) 78 (s_lt rfl rfl) (s_kc (c := 7) rfl rfl) (by decide) rfl (s7_X8_atom hM0 hpr gf gn gi (by omega) (by omega)) gX8_term_X8_atom rfl hdX8_atom (by decide) (Nat.le_of_ble_eq_true rfl) dX8_term_2 rfl (fun M102 h103 => ?_)
  obtain ⟨hM102, h104⟩ := h103
  have bM102 := tkx_b (f := gf) (n := gn) (M := M102) (by omega)
  have qM102 := po_rr (atP gf gn false (suR gf gn 4)) gn gi (M0.1 78 5).toInt (M0.1 78 6).toInt (psX M0) (M102.1 78 5).toInt (M102.1 78 6).toInt (psX M102) (at_g gf gn (fun _ => suR_g gf gn 4)) (by omega) (by omega)
  refine y_iconst C dX8_term_5 ?_
  have u105l := ll_0 (luP gf gn 2042 2042 (atP gf gn false (suR gf gn 4))) gn ((atP gf gn false (suR gf gn 4)) gi).2.2 (M102.1 78 5).toInt (M102.1 78 6).toInt (psX M102) (by omega)
  refine j_istore_n C 2 [(2, .int (sI 0)), (0, .ref (ad 78)), (1, .int (sI 1))] dX8_term_6 rfl (by decide) rfl ?_
  have L134 : ∀ (n132 : Nat), ∀ (a135 : Int) (M136 : mm_M) (gq137 : Int), (0 ≤ a135 ∧ a135 ≤ 900 ∧ (b01 (LL (luP gf gn 2042 2042 (atP gf gn false (suR gf gn 4))) gn ((atP gf gn false (suR gf gn 4)) gi).2.2 gq137 a135 (M102.1 78 5).toInt (M102.1 78 6).toInt (M136.1 78 5).toInt (M136.1 78 6).toInt (psX M136)) = 1) ∧ (b01 (TKX gf gn M136) = 1) ∧ (b01 (PO gn gq137 (M136.1 78 5).toInt (psX M136)) = 1) ∧ (900 - a135) < (n132 : Int)) → INV pr Kz M136 → jj p l e (cn_R 19) s m args below meth c 0 0 Q 3 dC dI ad cA A M136 7 [(0, .ref (ad 78)), (1, .int (sI 1)), (2, .int (sI a135))] [] := by
    intro n132
    induction n132 with
    | zero =>
      intro a135 M136 gq137 h138 hM136
      exfalso; omega
    | succ n132 ih133 =>
      intro a135 M136 gq137 h138 hM136
      have u139b := tkx_b (f := gf) (n := gn) (M := M136) (by omega)
      refine j_iload_n C 2 2 dX8_term_7 rfl rfl ?_
      refine y_sipush C dX8_term_8 rfl ?_
      refine y_icmp_ge C 59 dX8_term_11 (by decide) (by omega) (fun h140 => ?_) (fun h140 => ?_)
      · have u162e := ll_e gf gn 2042 2042 (atP gf gn false (suR gf gn 4)) ((atP gf gn false (suR gf gn 4)) gi).2.2 gq137 a135 (M102.1 78 5).toInt (M102.1 78 6).toInt (M136.1 78 5).toInt (M136.1 78 6).toInt (psX M136) (by decide) (at_g gf gn (fun _ => suR_g gf gn 4)) (by omega) (by omega)
        have u162r : b01 (RR ((teP gf gn false (suR gf gn 4)) gi) (M0.1 78 5).toInt (M0.1 78 6).toInt (M136.1 78 5).toInt (M136.1 78 6).toInt (psX M136)) = 1 := rr_sq ((atP gf gn false (suR gf gn 4)) gi) (luP gf gn 2042 2042 (atP gf gn false (suR gf gn 4))) (M0.1 78 5).toInt (M0.1 78 6).toInt (M102.1 78 5).toInt (M102.1 78 6).toInt (psX M102) (M136.1 78 5).toInt (M136.1 78 6).toInt (psX M136) (by omega) (by omega)
        exact hret _ _ _ dX8_term_59 ⟨hM136, by omega⟩
      · refine j_aload_n C 0 0 dX8_term_14 rfl rfl ?_
        refine y_getI C 7 _ _ fX8_term_22 rfl rfl ft_7_5 sb_7_5 hM136 dX8_term_15 (fun a141 ea141 la141 ua141 => ?_)
        refine y_if_ne C 59 dX8_term_18 (by decide) (by omega) (fun h143 => ?_) (fun h143 => ?_)
        · have u163e := ll_e gf gn 2042 2042 (atP gf gn false (suR gf gn 4)) ((atP gf gn false (suR gf gn 4)) gi).2.2 gq137 a135 (M102.1 78 5).toInt (M102.1 78 6).toInt (M136.1 78 5).toInt (M136.1 78 6).toInt (psX M136) (by decide) (at_g gf gn (fun _ => suR_g gf gn 4)) (by omega) (by omega)
          have u163r : b01 (RR ((teP gf gn false (suR gf gn 4)) gi) (M0.1 78 5).toInt (M0.1 78 6).toInt (M136.1 78 5).toInt (M136.1 78 6).toInt (psX M136)) = 1 := rr_sq ((atP gf gn false (suR gf gn 4)) gi) (luP gf gn 2042 2042 (atP gf gn false (suR gf gn 4))) (M0.1 78 5).toInt (M0.1 78 6).toInt (M102.1 78 5).toInt (M102.1 78 6).toInt (psX M102) (M136.1 78 5).toInt (M136.1 78 6).toInt (psX M136) (by omega) (by omega)
          exact hret _ _ _ dX8_term_59 ⟨hM136, by omega⟩
        · refine j_aload_n C 0 0 dX8_term_21 rfl rfl ?_
          refine j_callVi C (d := 0) (As := []) (st := []) 78 (s_lt rfl rfl) (s_kc (c := 7) rfl rfl) (by decide) rfl (s1_X8_token hM136 gf gn gq137 (by omega) (by omega)) gX8_term_X8_token rfl hdX8_token (by decide) (Nat.le_of_ble_eq_true rfl) dX8_term_22 rfl (fun r144 M145 h146 => ?_)
          obtain ⟨a148, rfl, rfl, h147⟩ := h146
          refine y_sipush C dX8_term_25 rfl ?_
          refine y_icmp_ne C 59 dX8_term_28 (by decide) (by omega) (fun h149 => ?_) (fun h149 => ?_)
          · have u164e := ll_e gf gn 2042 2042 (atP gf gn false (suR gf gn 4)) ((atP gf gn false (suR gf gn 4)) gi).2.2 gq137 a135 (M102.1 78 5).toInt (M102.1 78 6).toInt (M136.1 78 5).toInt (M136.1 78 6).toInt (psX M136) (by decide) (at_g gf gn (fun _ => suR_g gf gn 4)) (by omega) (by omega)
            have u164r : b01 (RR ((teP gf gn false (suR gf gn 4)) gi) (M0.1 78 5).toInt (M0.1 78 6).toInt (M136.1 78 5).toInt (M136.1 78 6).toInt (psX M136)) = 1 := rr_sq ((atP gf gn false (suR gf gn 4)) gi) (luP gf gn 2042 2042 (atP gf gn false (suR gf gn 4))) (M0.1 78 5).toInt (M0.1 78 6).toInt (M102.1 78 5).toInt (M102.1 78 6).toInt (psX M102) (M136.1 78 5).toInt (M136.1 78 6).toInt (psX M136) (by omega) (by omega)
            exact hret _ _ _ dX8_term_59 ⟨hM136, by omega⟩
          · refine j_aload_n C 0 0 dX8_term_31 rfl rfl ?_
            refine j_dup C dX8_term_32 rfl ?_
            refine y_getI C 7 _ _ fX8_term_18 rfl rfl ft_7_2 sb_7_2 hM136 dX8_term_33 (fun a150 ea150 la150 ua150 => ?_)
            refine y_iconst C dX8_term_36 ?_
            refine y_iadd C dX8_term_37 ?_
            refine y_putI C 7 _ _ qX8_term_18 rfl rfl ft_7_2 sb_7_2 hM136 (PX.w hpr rfl rfl) dX8_term_38 (by omega) (fun M152 eM152 hM152 => ?_)
            have xM152 := tkx_j (f := gf) (n := gn) (gi := gq137) eM152 (by omega) (by omega) (by omega) (by omega)
            refine j_aload_n C 0 0 dX8_term_41 rfl rfl ?_
            refine j_iload_n C 1 1 dX8_term_42 rfl rfl ?_
            refine j_callVv C (d := 18) (As := [.int (sI 1)]) (st := []) 78 (s_lt rfl rfl) (s_kc (c := 7) rfl rfl) (by decide) rfl (s7_X8_atom hM152 hpr gf gn (nxF gf gn gq137) (by omega) (by omega)) gX8_term_X8_atom rfl hdX8_atom (by decide) (Nat.le_of_ble_eq_true rfl) dX8_term_43 rfl (fun M154 h155 => ?_)
            obtain ⟨hM154, h156⟩ := h155
            have bM154 := tkx_b (f := gf) (n := gn) (M := M154) (by omega)
            have qM154 := po_rr (atP gf gn false (suR gf gn 4)) gn (nxF gf gn gq137) (M152.1 78 5).toInt (M152.1 78 6).toInt (psX M152) (M154.1 78 5).toInt (M154.1 78 6).toInt (psX M154) (at_g gf gn (fun _ => suR_g gf gn 4)) (by omega) (by omega)
            refine j_aload_n C 0 0 dX8_term_46 rfl rfl ?_
            refine y_sipush C dX8_term_47 rfl ?_
            refine j_callVv C (d := 0) (As := [.int (sI 2042)]) (st := []) 78 (s_lt rfl rfl) (s_kc (c := 7) rfl rfl) (by decide) rfl (s1_X8_emit hM154 hpr 2042 (by omega) gf gn ((atP gf gn false (suR gf gn 4)) (nxF gf gn gq137)).2.2 (by omega) (by omega)) gX8_term_X8_emit rfl hdX8_emit (by decide) (Nat.le_of_ble_eq_true rfl) dX8_term_50 rfl (fun M158 h159 => ?_)
            obtain ⟨hM158, h160⟩ := h159
            have bM158 := tkx_b (f := gf) (n := gn) (M := M158) (by omega)
            have qM158 := po_eq gn ((atP gf gn false (suR gf gn 4)) (nxF gf gn gq137)).2.2 (M154.1 78 5).toInt (psX M154) (M158.1 78 5).toInt (psX M158) (by omega) (by omega) (by omega)
            refine y_iinc C 2 [(2, .int (sI (a135 + 1))), (0, .ref (ad 78)), (1, .int (sI 1))] dX8_term_53 rfl (by decide) rfl ?_
            have u161s := ll_s gf gn 2042 2042 (atP gf gn false (suR gf gn 4)) ((atP gf gn false (suR gf gn 4)) gi).2.2 gq137 a135 (M102.1 78 5).toInt (M102.1 78 6).toInt (M136.1 78 5).toInt (M136.1 78 6).toInt (psX M136) (M152.1 78 5).toInt (M152.1 78 6).toInt (M154.1 78 5).toInt (M154.1 78 6).toInt (psX M154) (M158.1 78 5).toInt (M158.1 78 6).toInt (psX M158) (by decide) (at_g gf gn (fun _ => suR_g gf gn 4)) (by omega) (by omega) (by omega) (by omega) (by omega) (by omega) (by omega) (by omega) (by omega)
            refine j_goto C 7 dX8_term_56 (by decide) ?_
            refine j_lv [1, 2, 0] rfl ?_; exact ih133 (a135 + 1) M158 ((atP gf gn false (suR gf gn 4)) (nxF gf gn gq137)).2.2 (by omega) hM158
  refine j_lv [1, 2, 0] rfl ?_; exact L134 2010 0 M102 ((atP gf gn false (suR gf gn 4)) gi).2.2 (by omega) hM102
set_option maxHeartbeats 4000000 in
theorem s7_X8_sum {l : Launch} {dC : Nat → ClassId} {dI : Nat → Nat → Nat} {ad : Nat → Nat} {cA : Nat → ClassId} {pr : Nat → Nat → Bool} {Kz : mm_M} {M0 : mm_M} (hM0 : INV pr Kz M0) (hpr : PX pr) (gf : Nat → Int) (gn : Int) (gi : Int) (hp0 : b01 (TKX gf gn M0) = 1) (hp1 : b01 (PO gn gi (M0.1 78 5).toInt (psX M0)) = 1) : Cv l 20 yX8_sum wsX8_sum dC dI ad cA [.ref (ad 78), .int (sI 1)] M0 (fun M' => INV pr Kz M' ∧ (b01 (TKX gf gn M') = 1) ∧ b01 (RR ((suR gf gn 5) gi) (M0.1 78 5).toInt (M0.1 78 6).toInt (M'.1 78 5).toInt (M'.1 78 6).toInt (psX M')) = 1) := by
  refine cv_of (cc := cX8_sum) (maxL := 4) (lv := [(0, .ref (ad 78)), (1, .int (sI 1))]) (by decide) rfl (Nat.le_of_ble_eq_true rfl) rfl ?_
  intro p e s m args below meth c A Q C hret
  refine j_aload_n C 0 0 dX8_sum_0 rfl rfl ?_
  refine j_iload_n C 1 1 dX8_sum_1 rfl rfl ?_
  refine j_callVv C (d := 19) (As := [.int (sI 1)]) (st := []) 78 (s_lt rfl rfl) (s_kc (c := 7) rfl rfl) (by decide) rfl (s7_X8_term hM0 hpr gf gn gi (by omega) (by omega)) gX8_sum_X8_term rfl hdX8_term (by decide) (Nat.le_of_ble_eq_true rfl) dX8_sum_2 rfl (fun M102 h103 => ?_)
  obtain ⟨hM102, h104⟩ := h103
  have bM102 := tkx_b (f := gf) (n := gn) (M := M102) (by omega)
  have qM102 := po_rr (teP gf gn false (suR gf gn 4)) gn gi (M0.1 78 5).toInt (M0.1 78 6).toInt (psX M0) (M102.1 78 5).toInt (M102.1 78 6).toInt (psX M102) (te_g gf gn (fun _ => suR_g gf gn 4)) (by omega) (by omega)
  refine j_aload_n C 0 0 dX8_sum_5 rfl rfl ?_
  refine j_callVi C (d := 0) (As := []) (st := []) 78 (s_lt rfl rfl) (s_kc (c := 7) rfl rfl) (by decide) rfl (s1_X8_token hM102 gf gn ((teP gf gn false (suR gf gn 4)) gi).2.2 (by omega) (by omega)) gX8_sum_X8_token rfl hdX8_token (by decide) (Nat.le_of_ble_eq_true rfl) dX8_sum_6 rfl (fun r105 M106 h107 => ?_)
  obtain ⟨a109, rfl, rfl, h108⟩ := h107
  refine j_istore_n C 2 [(2, .int (sI a109)), (0, .ref (ad 78)), (1, .int (sI 1))] dX8_sum_9 rfl (by decide) rfl ?_
  refine y_iconst C dX8_sum_10 ?_
  have u110l := ll_0 (luP gf gn 2043 2045 (teP gf gn false (suR gf gn 4))) gn ((teP gf gn false (suR gf gn 4)) gi).2.2 (M102.1 78 5).toInt (M102.1 78 6).toInt (psX M102) (by omega)
  refine j_istore_n C 3 [(3, .int (sI 0)), (2, .int (sI a109)), (0, .ref (ad 78)), (1, .int (sI 1))] dX8_sum_11 rfl (by decide) rfl ?_
  have L158 : ∀ (n156 : Nat), ∀ (a159 : Int) (a160 : Int) (M161 : mm_M) (gq162 : Int), ((-2147483648) ≤ a159 ∧ a159 ≤ 2147483647 ∧ 0 ≤ a160 ∧ a160 ≤ 900 ∧ (b01 (LL (luP gf gn 2043 2045 (teP gf gn false (suR gf gn 4))) gn ((teP gf gn false (suR gf gn 4)) gi).2.2 gq162 a160 (M102.1 78 5).toInt (M102.1 78 6).toInt (M161.1 78 5).toInt (M161.1 78 6).toInt (psX M161)) = 1) ∧ (a159 = tkF gf gn (psX M161)) ∧ (b01 (TKX gf gn M161) = 1) ∧ (b01 (PO gn gq162 (M161.1 78 5).toInt (psX M161)) = 1) ∧ (900 - a160) < (n156 : Int)) → INV pr Kz M161 → jj p l e (cn_R 20) s m args below meth c 0 0 Q 4 dC dI ad cA A M161 12 [(0, .ref (ad 78)), (1, .int (sI 1)), (2, .int (sI a159)), (3, .int (sI a160))] [] := by
    intro n156
    induction n156 with
    | zero =>
      intro a159 a160 M161 gq162 h163 hM161
      exfalso; omega
    | succ n156 ih157 =>
      intro a159 a160 M161 gq162 h163 hM161
      have u164b := tkx_b (f := gf) (n := gn) (M := M161) (by omega)
      refine j_iload_n C 3 3 dX8_sum_12 rfl rfl ?_
      refine y_sipush C dX8_sum_13 rfl ?_
      refine y_icmp_ge C 71 dX8_sum_16 (by decide) (by omega) (fun h165 => ?_) (fun h165 => ?_)
      · have u205e := ll_e gf gn 2043 2045 (teP gf gn false (suR gf gn 4)) ((teP gf gn false (suR gf gn 4)) gi).2.2 gq162 a160 (M102.1 78 5).toInt (M102.1 78 6).toInt (M161.1 78 5).toInt (M161.1 78 6).toInt (psX M161) (by decide) (te_g gf gn (fun _ => suR_g gf gn 4)) (by omega) (by omega)
        have u205r : b01 (RR ((suR gf gn 5) gi) (M0.1 78 5).toInt (M0.1 78 6).toInt (M161.1 78 5).toInt (M161.1 78 6).toInt (psX M161)) = 1 := by rw [su_q gf gn 4 5 rfl]; exact rr_sq ((teP gf gn false (suR gf gn 4)) gi) (luP gf gn 2043 2045 (teP gf gn false (suR gf gn 4))) (M0.1 78 5).toInt (M0.1 78 6).toInt (M102.1 78 5).toInt (M102.1 78 6).toInt (psX M102) (M161.1 78 5).toInt (M161.1 78 6).toInt (psX M161) (by omega) (by omega)
        exact hret _ _ _ dX8_sum_71 ⟨hM161, by omega⟩
      · refine j_aload_n C 0 0 dX8_sum_19 rfl rfl ?_
        refine y_getI C 7 _ _ fX8_sum_22 rfl rfl ft_7_5 sb_7_5 hM161 dX8_sum_20 (fun a166 ea166 la166 ua166 => ?_)
        refine y_if_ne C 71 dX8_sum_23 (by decide) (by omega) (fun h168 => ?_) (fun h168 => ?_)
        · have u206e := ll_e gf gn 2043 2045 (teP gf gn false (suR gf gn 4)) ((teP gf gn false (suR gf gn 4)) gi).2.2 gq162 a160 (M102.1 78 5).toInt (M102.1 78 6).toInt (M161.1 78 5).toInt (M161.1 78 6).toInt (psX M161) (by decide) (te_g gf gn (fun _ => suR_g gf gn 4)) (by omega) (by omega)
          have u206r : b01 (RR ((suR gf gn 5) gi) (M0.1 78 5).toInt (M0.1 78 6).toInt (M161.1 78 5).toInt (M161.1 78 6).toInt (psX M161)) = 1 := by rw [su_q gf gn 4 5 rfl]; exact rr_sq ((teP gf gn false (suR gf gn 4)) gi) (luP gf gn 2043 2045 (teP gf gn false (suR gf gn 4))) (M0.1 78 5).toInt (M0.1 78 6).toInt (M102.1 78 5).toInt (M102.1 78 6).toInt (psX M102) (M161.1 78 5).toInt (M161.1 78 6).toInt (psX M161) (by omega) (by omega)
          exact hret _ _ _ dX8_sum_71 ⟨hM161, by omega⟩
        · refine j_iload_n C 2 2 dX8_sum_26 rfl rfl ?_
          refine y_sipush C dX8_sum_27 rfl ?_
          refine y_icmp_eq C 40 dX8_sum_30 (by decide) (by omega) (fun h169 => ?_) (fun h169 => ?_)
          · refine j_aload_n C 0 0 dX8_sum_40 rfl rfl ?_
            refine j_dup C dX8_sum_41 rfl ?_
            refine y_getI C 7 _ _ fX8_sum_18 rfl rfl ft_7_2 sb_7_2 hM161 dX8_sum_42 (fun a170 ea170 la170 ua170 => ?_)
            refine y_iconst C dX8_sum_45 ?_
            refine y_iadd C dX8_sum_46 ?_
            refine y_putI C 7 _ _ qX8_sum_18 rfl rfl ft_7_2 sb_7_2 hM161 (PX.w hpr rfl rfl) dX8_sum_47 (by omega) (fun M172 eM172 hM172 => ?_)
            have xM172 := tkx_j (f := gf) (n := gn) (gi := gq162) eM172 (by omega) (by omega) (by omega) (by omega)
            refine j_aload_n C 0 0 dX8_sum_50 rfl rfl ?_
            refine j_iload_n C 1 1 dX8_sum_51 rfl rfl ?_
            refine j_callVv C (d := 19) (As := [.int (sI 1)]) (st := []) 78 (s_lt rfl rfl) (s_kc (c := 7) rfl rfl) (by decide) rfl (s7_X8_term hM172 hpr gf gn (nxF gf gn gq162) (by omega) (by omega)) gX8_sum_X8_term rfl hdX8_term (by decide) (Nat.le_of_ble_eq_true rfl) dX8_sum_52 rfl (fun M174 h175 => ?_)
            obtain ⟨hM174, h176⟩ := h175
            have bM174 := tkx_b (f := gf) (n := gn) (M := M174) (by omega)
            have qM174 := po_rr (teP gf gn false (suR gf gn 4)) gn (nxF gf gn gq162) (M172.1 78 5).toInt (M172.1 78 6).toInt (psX M172) (M174.1 78 5).toInt (M174.1 78 6).toInt (psX M174) (te_g gf gn (fun _ => suR_g gf gn 4)) (by omega) (by omega)
            refine j_aload_n C 0 0 dX8_sum_55 rfl rfl ?_
            refine j_iload_n C 2 2 dX8_sum_56 rfl rfl ?_
            refine j_callVv C (d := 0) (As := [.int (sI a159)]) (st := []) 78 (s_lt rfl rfl) (s_kc (c := 7) rfl rfl) (by decide) rfl (s1_X8_emit hM174 hpr a159 (by omega) gf gn ((teP gf gn false (suR gf gn 4)) (nxF gf gn gq162)).2.2 (by omega) (by omega)) gX8_sum_X8_emit rfl hdX8_emit (by decide) (Nat.le_of_ble_eq_true rfl) dX8_sum_57 rfl (fun M178 h179 => ?_)
            obtain ⟨hM178, h180⟩ := h179
            have bM178 := tkx_b (f := gf) (n := gn) (M := M178) (by omega)
            have qM178 := po_eq gn ((teP gf gn false (suR gf gn 4)) (nxF gf gn gq162)).2.2 (M174.1 78 5).toInt (psX M174) (M178.1 78 5).toInt (psX M178) (by omega) (by omega) (by omega)
            refine j_aload_n C 0 0 dX8_sum_60 rfl rfl ?_
            refine j_callVi C (d := 0) (As := []) (st := []) 78 (s_lt rfl rfl) (s_kc (c := 7) rfl rfl) (by decide) rfl (s1_X8_token hM178 gf gn ((teP gf gn false (suR gf gn 4)) (nxF gf gn gq162)).2.2 (by omega) (by omega)) gX8_sum_X8_token rfl hdX8_token (by decide) (Nat.le_of_ble_eq_true rfl) dX8_sum_61 rfl (fun r181 M182 h183 => ?_)
            obtain ⟨a185, rfl, rfl, h184⟩ := h183
            refine j_istore_n C 2 [(2, .int (sI a185)), (0, .ref (ad 78)), (1, .int (sI 1)), (3, .int (sI a160))] dX8_sum_64 rfl (by decide) rfl ?_
            refine y_iinc C 3 [(3, .int (sI (a160 + 1))), (2, .int (sI a185)), (0, .ref (ad 78)), (1, .int (sI 1))] dX8_sum_65 rfl (by decide) rfl ?_
            have u186s := ll_s gf gn 2043 2045 (teP gf gn false (suR gf gn 4)) ((teP gf gn false (suR gf gn 4)) gi).2.2 gq162 a160 (M102.1 78 5).toInt (M102.1 78 6).toInt (M161.1 78 5).toInt (M161.1 78 6).toInt (psX M161) (M172.1 78 5).toInt (M172.1 78 6).toInt (M174.1 78 5).toInt (M174.1 78 6).toInt (psX M174) (M178.1 78 5).toInt (M178.1 78 6).toInt (psX M178) (by decide) (te_g gf gn (fun _ => suR_g gf gn 4)) (by omega) (by omega) (by omega) (by omega) (by omega) (by omega) (by omega) (by omega) (by omega)
            refine j_goto C 12 dX8_sum_68 (by decide) ?_
            refine j_lv [2, 3, 1, 0] rfl ?_; exact ih157 a185 (a160 + 1) M178 ((teP gf gn false (suR gf gn 4)) (nxF gf gn gq162)).2.2 (by omega) hM178
          · refine j_iload_n C 2 2 dX8_sum_33 rfl rfl ?_
            refine y_sipush C dX8_sum_34 rfl ?_
            refine y_icmp_ne C 71 dX8_sum_37 (by decide) (by omega) (fun h187 => ?_) (fun h187 => ?_)
            · have u207e := ll_e gf gn 2043 2045 (teP gf gn false (suR gf gn 4)) ((teP gf gn false (suR gf gn 4)) gi).2.2 gq162 a160 (M102.1 78 5).toInt (M102.1 78 6).toInt (M161.1 78 5).toInt (M161.1 78 6).toInt (psX M161) (by decide) (te_g gf gn (fun _ => suR_g gf gn 4)) (by omega) (by omega)
              have u207r : b01 (RR ((suR gf gn 5) gi) (M0.1 78 5).toInt (M0.1 78 6).toInt (M161.1 78 5).toInt (M161.1 78 6).toInt (psX M161)) = 1 := by rw [su_q gf gn 4 5 rfl]; exact rr_sq ((teP gf gn false (suR gf gn 4)) gi) (luP gf gn 2043 2045 (teP gf gn false (suR gf gn 4))) (M0.1 78 5).toInt (M0.1 78 6).toInt (M102.1 78 5).toInt (M102.1 78 6).toInt (psX M102) (M161.1 78 5).toInt (M161.1 78 6).toInt (psX M161) (by omega) (by omega)
              exact hret _ _ _ dX8_sum_71 ⟨hM161, by omega⟩
            · refine j_aload_n C 0 0 dX8_sum_40 rfl rfl ?_
              refine j_dup C dX8_sum_41 rfl ?_
              refine y_getI C 7 _ _ fX8_sum_18 rfl rfl ft_7_2 sb_7_2 hM161 dX8_sum_42 (fun a188 ea188 la188 ua188 => ?_)
              refine y_iconst C dX8_sum_45 ?_
              refine y_iadd C dX8_sum_46 ?_
              refine y_putI C 7 _ _ qX8_sum_18 rfl rfl ft_7_2 sb_7_2 hM161 (PX.w hpr rfl rfl) dX8_sum_47 (by omega) (fun M190 eM190 hM190 => ?_)
              have xM190 := tkx_j (f := gf) (n := gn) (gi := gq162) eM190 (by omega) (by omega) (by omega) (by omega)
              refine j_aload_n C 0 0 dX8_sum_50 rfl rfl ?_
              refine j_iload_n C 1 1 dX8_sum_51 rfl rfl ?_
              refine j_callVv C (d := 19) (As := [.int (sI 1)]) (st := []) 78 (s_lt rfl rfl) (s_kc (c := 7) rfl rfl) (by decide) rfl (s7_X8_term hM190 hpr gf gn (nxF gf gn gq162) (by omega) (by omega)) gX8_sum_X8_term rfl hdX8_term (by decide) (Nat.le_of_ble_eq_true rfl) dX8_sum_52 rfl (fun M192 h193 => ?_)
              obtain ⟨hM192, h194⟩ := h193
              have bM192 := tkx_b (f := gf) (n := gn) (M := M192) (by omega)
              have qM192 := po_rr (teP gf gn false (suR gf gn 4)) gn (nxF gf gn gq162) (M190.1 78 5).toInt (M190.1 78 6).toInt (psX M190) (M192.1 78 5).toInt (M192.1 78 6).toInt (psX M192) (te_g gf gn (fun _ => suR_g gf gn 4)) (by omega) (by omega)
              refine j_aload_n C 0 0 dX8_sum_55 rfl rfl ?_
              refine j_iload_n C 2 2 dX8_sum_56 rfl rfl ?_
              refine j_callVv C (d := 0) (As := [.int (sI a159)]) (st := []) 78 (s_lt rfl rfl) (s_kc (c := 7) rfl rfl) (by decide) rfl (s1_X8_emit hM192 hpr a159 (by omega) gf gn ((teP gf gn false (suR gf gn 4)) (nxF gf gn gq162)).2.2 (by omega) (by omega)) gX8_sum_X8_emit rfl hdX8_emit (by decide) (Nat.le_of_ble_eq_true rfl) dX8_sum_57 rfl (fun M196 h197 => ?_)
              obtain ⟨hM196, h198⟩ := h197
              have bM196 := tkx_b (f := gf) (n := gn) (M := M196) (by omega)
              have qM196 := po_eq gn ((teP gf gn false (suR gf gn 4)) (nxF gf gn gq162)).2.2 (M192.1 78 5).toInt (psX M192) (M196.1 78 5).toInt (psX M196) (by omega) (by omega) (by omega)
              refine j_aload_n C 0 0 dX8_sum_60 rfl rfl ?_
              refine j_callVi C (d := 0) (As := []) (st := []) 78 (s_lt rfl rfl) (s_kc (c := 7) rfl rfl) (by decide) rfl (s1_X8_token hM196 gf gn ((teP gf gn false (suR gf gn 4)) (nxF gf gn gq162)).2.2 (by omega) (by omega)) gX8_sum_X8_token rfl hdX8_token (by decide) (Nat.le_of_ble_eq_true rfl) dX8_sum_61 rfl (fun r199 M200 h201 => ?_)
              obtain ⟨a203, rfl, rfl, h202⟩ := h201
              refine j_istore_n C 2 [(2, .int (sI a203)), (0, .ref (ad 78)), (1, .int (sI 1)), (3, .int (sI a160))] dX8_sum_64 rfl (by decide) rfl ?_
              refine y_iinc C 3 [(3, .int (sI (a160 + 1))), (2, .int (sI a203)), (0, .ref (ad 78)), (1, .int (sI 1))] dX8_sum_65 rfl (by decide) rfl ?_
              have u204s := ll_s gf gn 2043 2045 (teP gf gn false (suR gf gn 4)) ((teP gf gn false (suR gf gn 4)) gi).2.2 gq162 a160 (M102.1 78 5).toInt (M102.1 78 6).toInt (M161.1 78 5).toInt (M161.1 78 6).toInt (psX M161) (M190.1 78 5).toInt (M190.1 78 6).toInt (M192.1 78 5).toInt (M192.1 78 6).toInt (psX M192) (M196.1 78 5).toInt (M196.1 78 6).toInt (psX M196) (by decide) (te_g gf gn (fun _ => suR_g gf gn 4)) (by omega) (by omega) (by omega) (by omega) (by omega) (by omega) (by omega) (by omega) (by omega)
              refine j_goto C 12 dX8_sum_68 (by decide) ?_
              refine j_lv [2, 3, 1, 0] rfl ?_; exact ih157 a203 (a160 + 1) M196 ((teP gf gn false (suR gf gn 4)) (nxF gf gn gq162)).2.2 (by omega) hM196
  refine j_lv [2, 3, 1, 0] rfl ?_; exact L158 4294967306 a109 0 M102 ((teP gf gn false (suR gf gn 4)) gi).2.2 (by omega) hM102
set_option maxHeartbeats 4000000 in
theorem s8_X8_atom {l : Launch} {dC : Nat → ClassId} {dI : Nat → Nat → Nat} {ad : Nat → Nat} {cA : Nat → ClassId} {pr : Nat → Nat → Bool} {Kz : mm_M} {M0 : mm_M} (hM0 : INV pr Kz M0) (hpr : PX pr) (gf : Nat → Int) (gn : Int) (gi : Int) (hp0 : b01 (TKX gf gn M0) = 1) (hp1 : b01 (PO gn gi (M0.1 78 5).toInt (psX M0)) = 1) : Cv l 21 yX8_atom wsX8_atom dC dI ad cA [.ref (ad 78), .int (sI 0)] M0 (fun M' => INV pr Kz M' ∧ (b01 (TKX gf gn M') = 1) ∧ b01 (RR ((atP gf gn false (suR gf gn 5)) gi) (M0.1 78 5).toInt (M0.1 78 6).toInt (M'.1 78 5).toInt (M'.1 78 6).toInt (psX M')) = 1) := by
  refine cv_of (cc := cX8_atom) (maxL := 3) (lv := [(0, .ref (ad 78)), (1, .int (sI 0))]) (by decide) rfl (Nat.le_of_ble_eq_true rfl) rfl ?_
  intro p e s m args below meth c A Q C hret
  have u101b := tkx_b (f := gf) (n := gn) (M := M0) (by omega)
  refine j_aload_n C 0 0 dX8_atom_0 rfl rfl ?_
  refine y_getI C 7 _ _ fX8_atom_22 rfl rfl ft_7_5 sb_7_5 hM0 dX8_atom_1 (fun a102 ea102 la102 ua102 => ?_)
  refine y_if_eq C 8 dX8_atom_4 (by decide) (by omega) (fun h104 => ?_) (fun h104 => ?_)
  · refine j_aload_n C 0 0 dX8_atom_8 rfl rfl ?_
    refine j_callVi C (d := 0) (As := []) (st := []) 78 (s_lt rfl rfl) (s_kc (c := 7) rfl rfl) (by decide) rfl (s1_X8_token hM0 gf gn gi (by omega) (by omega)) gX8_atom_X8_token rfl hdX8_token (by decide) (Nat.le_of_ble_eq_true rfl) dX8_atom_9 rfl (fun r105 M106 h107 => ?_)
    obtain ⟨a109, rfl, rfl, h108⟩ := h107
    refine j_istore_n C 2 [(2, .int (sI a109)), (0, .ref (ad 78)), (1, .int (sI 0))] dX8_atom_12 rfl (by decide) rfl ?_
    refine j_iload_n C 0 2 dX8_atom_13 rfl rfl ?_
    refine y_sipush C dX8_atom_14 rfl ?_
    refine y_icmp_ge C 38 dX8_atom_17 (by decide) (by omega) (fun h110 => ?_) (fun h110 => ?_)
    · refine j_iload_n C 0 2 dX8_atom_38 rfl rfl ?_
      refine y_sipush C dX8_atom_39 rfl ?_
      refine y_icmp_ne C 67 dX8_atom_42 (by decide) (by omega) (fun h111 => ?_) (fun h111 => ?_)
      · refine j_aload_n C 1 0 dX8_atom_67 rfl rfl ?_
        refine y_iconst C dX8_atom_68 ?_
        refine j_callVv C (d := 0) (As := [.int (sI 2)]) (st := []) 78 (s_lt rfl rfl) (s_kc (c := 7) rfl rfl) (by decide) rfl (s1_X8_fail hM0 hpr 2 (by omega) gf gn gi (by omega) (by omega) (by omega)) gX8_atom_X8_fail rfl hdX8_fail (by decide) (Nat.le_of_ble_eq_true rfl) dX8_atom_69 rfl (fun M113 h114 => ?_)
        obtain ⟨hM113, fM113, h115⟩ := h114
        have bM113 := tkx_b (f := gf) (n := gn) (M := M113) (by omega)
        have qM113 := po_f gn ((faQ gf gn 2) gi).2.2 (M113.1 78 5).toInt (psX M113) (by omega)
        have u116r := at_4 gf gn false (suR gf gn 5) gi (M0.1 78 5).toInt (M0.1 78 6).toInt (psX M0) (M113.1 78 5).toInt (M113.1 78 6).toInt (psX M113) (by omega) (by omega) (by omega)
        exact hret _ _ _ dX8_atom_72 ⟨hM113, by omega⟩
      · refine j_aload_n C 1 0 dX8_atom_45 rfl rfl ?_
        refine j_iload_n C 2 1 dX8_atom_46 rfl rfl ?_
        refine j_callVv C (d := 0) (As := [.int (sI 0)]) (st := []) 78 (s_lt rfl rfl) (s_kc (c := 7) rfl rfl) (by decide) rfl (s1_X8_goDeeper hM0 hpr gf gn gi (by omega) (by omega) (by omega) (by omega) (by omega)) gX8_atom_X8_goDeeper rfl hdX8_goDeeper (by decide) (Nat.le_of_ble_eq_true rfl) dX8_atom_47 rfl (fun M118 h119 => ?_)
        obtain ⟨hM118, fM118, h120⟩ := h119
        have bM118 := tkx_b (f := gf) (n := gn) (M := M118) (by omega)
        refine j_aload_n C 1 0 dX8_atom_50 rfl rfl ?_
        refine j_iload_n C 2 1 dX8_atom_51 rfl rfl ?_
        refine y_iconst C dX8_atom_52 ?_
        refine y_iadd C dX8_atom_53 ?_
        refine j_callVv C (d := 20) (As := [.int (sI (0 + 1))]) (st := []) 78 (s_lt rfl rfl) (s_kc (c := 7) rfl rfl) (by decide) rfl (s7_X8_sum hM118 hpr gf gn (nxF gf gn gi) (by omega) (by omega)) gX8_atom_X8_sum rfl hdX8_sum (by decide) (Nat.le_of_ble_eq_true rfl) dX8_atom_54 rfl (fun M122 h123 => ?_)
        obtain ⟨hM122, h124⟩ := h123
        have bM122 := tkx_b (f := gf) (n := gn) (M := M122) (by omega)
        have qM122 := po_rr (suR gf gn 5) gn (nxF gf gn gi) (M118.1 78 5).toInt (M118.1 78 6).toInt (psX M118) (M122.1 78 5).toInt (M122.1 78 6).toInt (psX M122) (suR_g gf gn 5) (by omega) (by omega)
        refine j_aload_n C 1 0 dX8_atom_57 rfl rfl ?_
        refine y_sipush C dX8_atom_58 rfl ?_
        refine j_callVv C (d := 1) (As := [.int (sI 2041)]) (st := []) 78 (s_lt rfl rfl) (s_kc (c := 7) rfl rfl) (by decide) rfl (s1_X8_expect hM122 hpr 2041 (by omega) gf gn ((suR gf gn 5) (nxF gf gn gi)).2.2 (by omega) (by omega) (by omega) (by omega)) gX8_atom_X8_expect rfl hdX8_expect (by decide) (Nat.le_of_ble_eq_true rfl) dX8_atom_61 rfl (fun M126 h127 => ?_)
        obtain ⟨hM126, fM126, h128⟩ := h127
        have bM126 := tkx_b (f := gf) (n := gn) (M := M126) (by omega)
        have qM126 := po_rr (exP gf gn 2041) gn ((suR gf gn 5) (nxF gf gn gi)).2.2 (M122.1 78 5).toInt (M122.1 78 6).toInt (psX M122) (M126.1 78 5).toInt (M126.1 78 6).toInt (psX M126) (ex_g gf gn 2041 (by omega)) (by omega) (by omega)
        refine j_goto C 72 dX8_atom_64 (by decide) ?_
        have u129r := at_2 gf gn (suR gf gn 5) gi (M0.1 78 5).toInt (M0.1 78 6).toInt (psX M0) (M118.1 78 5).toInt (M118.1 78 6).toInt (M122.1 78 5).toInt (M122.1 78 6).toInt (psX M122) (M126.1 78 5).toInt (M126.1 78 6).toInt (psX M126) (by omega) (by omega) (by omega) (by omega) (by omega) (by omega)
        exact hret _ _ _ dX8_atom_72 ⟨hM126, by omega⟩
    · refine j_aload_n C 1 0 dX8_atom_20 rfl rfl ?_
      refine j_dup C dX8_atom_21 rfl ?_
      refine y_getI C 7 _ _ fX8_atom_18 rfl rfl ft_7_2 sb_7_2 hM0 dX8_atom_22 (fun a130 ea130 la130 ua130 => ?_)
      refine y_iconst C dX8_atom_25 ?_
      refine y_iadd C dX8_atom_26 ?_
      refine y_putI C 7 _ _ qX8_atom_18 rfl rfl ft_7_2 sb_7_2 hM0 (PX.w hpr rfl rfl) dX8_atom_27 (by omega) (fun M132 eM132 hM132 => ?_)
      have xM132 := tkx_j (f := gf) (n := gn) (gi := gi) eM132 (by omega) (by omega) (by omega) (by omega)
      refine j_aload_n C 1 0 dX8_atom_30 rfl rfl ?_
      refine j_iload_n C 0 2 dX8_atom_31 rfl rfl ?_
      refine j_callVv C (d := 0) (As := [.int (sI a109)]) (st := []) 78 (s_lt rfl rfl) (s_kc (c := 7) rfl rfl) (by decide) rfl (s1_X8_emit hM132 hpr a109 (by omega) gf gn (nxF gf gn gi) (by omega) (by omega)) gX8_atom_X8_emit rfl hdX8_emit (by decide) (Nat.le_of_ble_eq_true rfl) dX8_atom_32 rfl (fun M134 h135 => ?_)
      obtain ⟨hM134, h136⟩ := h135
      have bM134 := tkx_b (f := gf) (n := gn) (M := M134) (by omega)
      have qM134 := po_eq gn (nxF gf gn gi) (M132.1 78 5).toInt (psX M132) (M134.1 78 5).toInt (psX M134) (by omega) (by omega) (by omega)
      refine j_goto C 72 dX8_atom_35 (by decide) ?_
      have u137r := rr_eq ((atP gf gn false (suR gf gn 5)) gi) (M0.1 78 5).toInt (M0.1 78 6).toInt (M132.1 78 5).toInt (M132.1 78 6).toInt (psX M132) (M134.1 78 5).toInt (M134.1 78 6).toInt (psX M134) (at_1 gf gn false (suR gf gn 5) gi (M0.1 78 5).toInt (M0.1 78 6).toInt (psX M0) (M132.1 78 5).toInt (M132.1 78 6).toInt (psX M132) (by omega) (by omega) (by omega) (by omega) (by omega) (by omega)) (by omega) (by omega) (by omega)
      exact hret _ _ _ dX8_atom_72 ⟨hM134, by omega⟩
  · have u138r := rr_no ((atP gf gn false (suR gf gn 5)) gi) (M0.1 78 5).toInt (M0.1 78 6).toInt (M0.1 78 5).toInt (M0.1 78 6).toInt (psX M0) (by omega) rfl rfl
    exact hret _ _ _ dX8_atom_7 ⟨hM0, by omega⟩
set_option maxHeartbeats 4000000 in
theorem s8_X8_term {l : Launch} {dC : Nat → ClassId} {dI : Nat → Nat → Nat} {ad : Nat → Nat} {cA : Nat → ClassId} {pr : Nat → Nat → Bool} {Kz : mm_M} {M0 : mm_M} (hM0 : INV pr Kz M0) (hpr : PX pr) (gf : Nat → Int) (gn : Int) (gi : Int) (hp0 : b01 (TKX gf gn M0) = 1) (hp1 : b01 (PO gn gi (M0.1 78 5).toInt (psX M0)) = 1) : Cv l 22 yX8_term wsX8_term dC dI ad cA [.ref (ad 78), .int (sI 0)] M0 (fun M' => INV pr Kz M' ∧ (b01 (TKX gf gn M') = 1) ∧ b01 (RR ((teP gf gn false (suR gf gn 5)) gi) (M0.1 78 5).toInt (M0.1 78 6).toInt (M'.1 78 5).toInt (M'.1 78 6).toInt (psX M')) = 1) := by
  refine cv_of (cc := cX8_term) (maxL := 3) (lv := [(0, .ref (ad 78)), (1, .int (sI 0))]) (by decide) rfl (Nat.le_of_ble_eq_true rfl) rfl ?_
  intro p e s m args below meth c A Q C hret
  refine j_aload_n C 0 0 dX8_term_0 rfl rfl ?_
  refine j_iload_n C 1 1 dX8_term_1 rfl rfl ?_
  refine j_callVv C (d := 21) (As := [.int (sI 0)]) (st := []) 78 (s_lt rfl rfl) (s_kc (c := 7) rfl rfl) (by decide) rfl (s8_X8_atom hM0 hpr gf gn gi (by omega) (by omega)) gX8_term_X8_atom rfl hdX8_atom (by decide) (Nat.le_of_ble_eq_true rfl) dX8_term_2 rfl (fun M102 h103 => ?_)
  obtain ⟨hM102, h104⟩ := h103
  have bM102 := tkx_b (f := gf) (n := gn) (M := M102) (by omega)
  have qM102 := po_rr (atP gf gn false (suR gf gn 5)) gn gi (M0.1 78 5).toInt (M0.1 78 6).toInt (psX M0) (M102.1 78 5).toInt (M102.1 78 6).toInt (psX M102) (at_g gf gn (fun _ => suR_g gf gn 5)) (by omega) (by omega)
  refine y_iconst C dX8_term_5 ?_
  have u105l := ll_0 (luP gf gn 2042 2042 (atP gf gn false (suR gf gn 5))) gn ((atP gf gn false (suR gf gn 5)) gi).2.2 (M102.1 78 5).toInt (M102.1 78 6).toInt (psX M102) (by omega)
  refine j_istore_n C 2 [(2, .int (sI 0)), (0, .ref (ad 78)), (1, .int (sI 0))] dX8_term_6 rfl (by decide) rfl ?_
  have L134 : ∀ (n132 : Nat), ∀ (a135 : Int) (M136 : mm_M) (gq137 : Int), (0 ≤ a135 ∧ a135 ≤ 900 ∧ (b01 (LL (luP gf gn 2042 2042 (atP gf gn false (suR gf gn 5))) gn ((atP gf gn false (suR gf gn 5)) gi).2.2 gq137 a135 (M102.1 78 5).toInt (M102.1 78 6).toInt (M136.1 78 5).toInt (M136.1 78 6).toInt (psX M136)) = 1) ∧ (b01 (TKX gf gn M136) = 1) ∧ (b01 (PO gn gq137 (M136.1 78 5).toInt (psX M136)) = 1) ∧ (900 - a135) < (n132 : Int)) → INV pr Kz M136 → jj p l e (cn_R 22) s m args below meth c 0 0 Q 3 dC dI ad cA A M136 7 [(0, .ref (ad 78)), (1, .int (sI 0)), (2, .int (sI a135))] [] := by
    intro n132
    induction n132 with
    | zero =>
      intro a135 M136 gq137 h138 hM136
      exfalso; omega
    | succ n132 ih133 =>
      intro a135 M136 gq137 h138 hM136
      have u139b := tkx_b (f := gf) (n := gn) (M := M136) (by omega)
      refine j_iload_n C 2 2 dX8_term_7 rfl rfl ?_
      refine y_sipush C dX8_term_8 rfl ?_
      refine y_icmp_ge C 59 dX8_term_11 (by decide) (by omega) (fun h140 => ?_) (fun h140 => ?_)
      · have u162e := ll_e gf gn 2042 2042 (atP gf gn false (suR gf gn 5)) ((atP gf gn false (suR gf gn 5)) gi).2.2 gq137 a135 (M102.1 78 5).toInt (M102.1 78 6).toInt (M136.1 78 5).toInt (M136.1 78 6).toInt (psX M136) (by decide) (at_g gf gn (fun _ => suR_g gf gn 5)) (by omega) (by omega)
        have u162r : b01 (RR ((teP gf gn false (suR gf gn 5)) gi) (M0.1 78 5).toInt (M0.1 78 6).toInt (M136.1 78 5).toInt (M136.1 78 6).toInt (psX M136)) = 1 := rr_sq ((atP gf gn false (suR gf gn 5)) gi) (luP gf gn 2042 2042 (atP gf gn false (suR gf gn 5))) (M0.1 78 5).toInt (M0.1 78 6).toInt (M102.1 78 5).toInt (M102.1 78 6).toInt (psX M102) (M136.1 78 5).toInt (M136.1 78 6).toInt (psX M136) (by omega) (by omega)
        exact hret _ _ _ dX8_term_59 ⟨hM136, by omega⟩
      · refine j_aload_n C 0 0 dX8_term_14 rfl rfl ?_
        refine y_getI C 7 _ _ fX8_term_22 rfl rfl ft_7_5 sb_7_5 hM136 dX8_term_15 (fun a141 ea141 la141 ua141 => ?_)
        refine y_if_ne C 59 dX8_term_18 (by decide) (by omega) (fun h143 => ?_) (fun h143 => ?_)
        · have u163e := ll_e gf gn 2042 2042 (atP gf gn false (suR gf gn 5)) ((atP gf gn false (suR gf gn 5)) gi).2.2 gq137 a135 (M102.1 78 5).toInt (M102.1 78 6).toInt (M136.1 78 5).toInt (M136.1 78 6).toInt (psX M136) (by decide) (at_g gf gn (fun _ => suR_g gf gn 5)) (by omega) (by omega)
          have u163r : b01 (RR ((teP gf gn false (suR gf gn 5)) gi) (M0.1 78 5).toInt (M0.1 78 6).toInt (M136.1 78 5).toInt (M136.1 78 6).toInt (psX M136)) = 1 := rr_sq ((atP gf gn false (suR gf gn 5)) gi) (luP gf gn 2042 2042 (atP gf gn false (suR gf gn 5))) (M0.1 78 5).toInt (M0.1 78 6).toInt (M102.1 78 5).toInt (M102.1 78 6).toInt (psX M102) (M136.1 78 5).toInt (M136.1 78 6).toInt (psX M136) (by omega) (by omega)
          exact hret _ _ _ dX8_term_59 ⟨hM136, by omega⟩
        · refine j_aload_n C 0 0 dX8_term_21 rfl rfl ?_
          refine j_callVi C (d := 0) (As := []) (st := []) 78 (s_lt rfl rfl) (s_kc (c := 7) rfl rfl) (by decide) rfl (s1_X8_token hM136 gf gn gq137 (by omega) (by omega)) gX8_term_X8_token rfl hdX8_token (by decide) (Nat.le_of_ble_eq_true rfl) dX8_term_22 rfl (fun r144 M145 h146 => ?_)
          obtain ⟨a148, rfl, rfl, h147⟩ := h146
          refine y_sipush C dX8_term_25 rfl ?_
          refine y_icmp_ne C 59 dX8_term_28 (by decide) (by omega) (fun h149 => ?_) (fun h149 => ?_)
          · have u164e := ll_e gf gn 2042 2042 (atP gf gn false (suR gf gn 5)) ((atP gf gn false (suR gf gn 5)) gi).2.2 gq137 a135 (M102.1 78 5).toInt (M102.1 78 6).toInt (M136.1 78 5).toInt (M136.1 78 6).toInt (psX M136) (by decide) (at_g gf gn (fun _ => suR_g gf gn 5)) (by omega) (by omega)
            have u164r : b01 (RR ((teP gf gn false (suR gf gn 5)) gi) (M0.1 78 5).toInt (M0.1 78 6).toInt (M136.1 78 5).toInt (M136.1 78 6).toInt (psX M136)) = 1 := rr_sq ((atP gf gn false (suR gf gn 5)) gi) (luP gf gn 2042 2042 (atP gf gn false (suR gf gn 5))) (M0.1 78 5).toInt (M0.1 78 6).toInt (M102.1 78 5).toInt (M102.1 78 6).toInt (psX M102) (M136.1 78 5).toInt (M136.1 78 6).toInt (psX M136) (by omega) (by omega)
            exact hret _ _ _ dX8_term_59 ⟨hM136, by omega⟩
          · refine j_aload_n C 0 0 dX8_term_31 rfl rfl ?_
            refine j_dup C dX8_term_32 rfl ?_
            refine y_getI C 7 _ _ fX8_term_18 rfl rfl ft_7_2 sb_7_2 hM136 dX8_term_33 (fun a150 ea150 la150 ua150 => ?_)
            refine y_iconst C dX8_term_36 ?_
            refine y_iadd C dX8_term_37 ?_
            refine y_putI C 7 _ _ qX8_term_18 rfl rfl ft_7_2 sb_7_2 hM136 (PX.w hpr rfl rfl) dX8_term_38 (by omega) (fun M152 eM152 hM152 => ?_)
            have xM152 := tkx_j (f := gf) (n := gn) (gi := gq137) eM152 (by omega) (by omega) (by omega) (by omega)
            refine j_aload_n C 0 0 dX8_term_41 rfl rfl ?_
            refine j_iload_n C 1 1 dX8_term_42 rfl rfl ?_
            refine j_callVv C (d := 21) (As := [.int (sI 0)]) (st := []) 78 (s_lt rfl rfl) (s_kc (c := 7) rfl rfl) (by decide) rfl (s8_X8_atom hM152 hpr gf gn (nxF gf gn gq137) (by omega) (by omega)) gX8_term_X8_atom rfl hdX8_atom (by decide) (Nat.le_of_ble_eq_true rfl) dX8_term_43 rfl (fun M154 h155 => ?_)
            obtain ⟨hM154, h156⟩ := h155
            have bM154 := tkx_b (f := gf) (n := gn) (M := M154) (by omega)
            have qM154 := po_rr (atP gf gn false (suR gf gn 5)) gn (nxF gf gn gq137) (M152.1 78 5).toInt (M152.1 78 6).toInt (psX M152) (M154.1 78 5).toInt (M154.1 78 6).toInt (psX M154) (at_g gf gn (fun _ => suR_g gf gn 5)) (by omega) (by omega)
            refine j_aload_n C 0 0 dX8_term_46 rfl rfl ?_
            refine y_sipush C dX8_term_47 rfl ?_
            refine j_callVv C (d := 0) (As := [.int (sI 2042)]) (st := []) 78 (s_lt rfl rfl) (s_kc (c := 7) rfl rfl) (by decide) rfl (s1_X8_emit hM154 hpr 2042 (by omega) gf gn ((atP gf gn false (suR gf gn 5)) (nxF gf gn gq137)).2.2 (by omega) (by omega)) gX8_term_X8_emit rfl hdX8_emit (by decide) (Nat.le_of_ble_eq_true rfl) dX8_term_50 rfl (fun M158 h159 => ?_)
            obtain ⟨hM158, h160⟩ := h159
            have bM158 := tkx_b (f := gf) (n := gn) (M := M158) (by omega)
            have qM158 := po_eq gn ((atP gf gn false (suR gf gn 5)) (nxF gf gn gq137)).2.2 (M154.1 78 5).toInt (psX M154) (M158.1 78 5).toInt (psX M158) (by omega) (by omega) (by omega)
            refine y_iinc C 2 [(2, .int (sI (a135 + 1))), (0, .ref (ad 78)), (1, .int (sI 0))] dX8_term_53 rfl (by decide) rfl ?_
            have u161s := ll_s gf gn 2042 2042 (atP gf gn false (suR gf gn 5)) ((atP gf gn false (suR gf gn 5)) gi).2.2 gq137 a135 (M102.1 78 5).toInt (M102.1 78 6).toInt (M136.1 78 5).toInt (M136.1 78 6).toInt (psX M136) (M152.1 78 5).toInt (M152.1 78 6).toInt (M154.1 78 5).toInt (M154.1 78 6).toInt (psX M154) (M158.1 78 5).toInt (M158.1 78 6).toInt (psX M158) (by decide) (at_g gf gn (fun _ => suR_g gf gn 5)) (by omega) (by omega) (by omega) (by omega) (by omega) (by omega) (by omega) (by omega) (by omega)
            refine j_goto C 7 dX8_term_56 (by decide) ?_
            refine j_lv [1, 2, 0] rfl ?_; exact ih133 (a135 + 1) M158 ((atP gf gn false (suR gf gn 5)) (nxF gf gn gq137)).2.2 (by omega) hM158
  refine j_lv [1, 2, 0] rfl ?_; exact L134 2010 0 M102 ((atP gf gn false (suR gf gn 5)) gi).2.2 (by omega) hM102
set_option maxHeartbeats 4000000 in
theorem s8_X8_sum {l : Launch} {dC : Nat → ClassId} {dI : Nat → Nat → Nat} {ad : Nat → Nat} {cA : Nat → ClassId} {pr : Nat → Nat → Bool} {Kz : mm_M} {M0 : mm_M} (hM0 : INV pr Kz M0) (hpr : PX pr) (gf : Nat → Int) (gn : Int) (gi : Int) (hp0 : b01 (TKX gf gn M0) = 1) (hp1 : b01 (PO gn gi (M0.1 78 5).toInt (psX M0)) = 1) : Cv l 23 yX8_sum wsX8_sum dC dI ad cA [.ref (ad 78), .int (sI 0)] M0 (fun M' => INV pr Kz M' ∧ (b01 (TKX gf gn M') = 1) ∧ b01 (RR ((suR gf gn 6) gi) (M0.1 78 5).toInt (M0.1 78 6).toInt (M'.1 78 5).toInt (M'.1 78 6).toInt (psX M')) = 1) := by
  refine cv_of (cc := cX8_sum) (maxL := 4) (lv := [(0, .ref (ad 78)), (1, .int (sI 0))]) (by decide) rfl (Nat.le_of_ble_eq_true rfl) rfl ?_
  intro p e s m args below meth c A Q C hret
  refine j_aload_n C 0 0 dX8_sum_0 rfl rfl ?_
  refine j_iload_n C 1 1 dX8_sum_1 rfl rfl ?_
  refine j_callVv C (d := 22) (As := [.int (sI 0)]) (st := []) 78 (s_lt rfl rfl) (s_kc (c := 7) rfl rfl) (by decide) rfl (s8_X8_term hM0 hpr gf gn gi (by omega) (by omega)) gX8_sum_X8_term rfl hdX8_term (by decide) (Nat.le_of_ble_eq_true rfl) dX8_sum_2 rfl (fun M102 h103 => ?_)
  obtain ⟨hM102, h104⟩ := h103
  have bM102 := tkx_b (f := gf) (n := gn) (M := M102) (by omega)
  have qM102 := po_rr (teP gf gn false (suR gf gn 5)) gn gi (M0.1 78 5).toInt (M0.1 78 6).toInt (psX M0) (M102.1 78 5).toInt (M102.1 78 6).toInt (psX M102) (te_g gf gn (fun _ => suR_g gf gn 5)) (by omega) (by omega)
  refine j_aload_n C 0 0 dX8_sum_5 rfl rfl ?_
  refine j_callVi C (d := 0) (As := []) (st := []) 78 (s_lt rfl rfl) (s_kc (c := 7) rfl rfl) (by decide) rfl (s1_X8_token hM102 gf gn ((teP gf gn false (suR gf gn 5)) gi).2.2 (by omega) (by omega)) gX8_sum_X8_token rfl hdX8_token (by decide) (Nat.le_of_ble_eq_true rfl) dX8_sum_6 rfl (fun r105 M106 h107 => ?_)
  obtain ⟨a109, rfl, rfl, h108⟩ := h107
  refine j_istore_n C 2 [(2, .int (sI a109)), (0, .ref (ad 78)), (1, .int (sI 0))] dX8_sum_9 rfl (by decide) rfl ?_
  refine y_iconst C dX8_sum_10 ?_
  have u110l := ll_0 (luP gf gn 2043 2045 (teP gf gn false (suR gf gn 5))) gn ((teP gf gn false (suR gf gn 5)) gi).2.2 (M102.1 78 5).toInt (M102.1 78 6).toInt (psX M102) (by omega)
  refine j_istore_n C 3 [(3, .int (sI 0)), (2, .int (sI a109)), (0, .ref (ad 78)), (1, .int (sI 0))] dX8_sum_11 rfl (by decide) rfl ?_
  have L158 : ∀ (n156 : Nat), ∀ (a159 : Int) (a160 : Int) (M161 : mm_M) (gq162 : Int), ((-2147483648) ≤ a159 ∧ a159 ≤ 2147483647 ∧ 0 ≤ a160 ∧ a160 ≤ 900 ∧ (b01 (LL (luP gf gn 2043 2045 (teP gf gn false (suR gf gn 5))) gn ((teP gf gn false (suR gf gn 5)) gi).2.2 gq162 a160 (M102.1 78 5).toInt (M102.1 78 6).toInt (M161.1 78 5).toInt (M161.1 78 6).toInt (psX M161)) = 1) ∧ (a159 = tkF gf gn (psX M161)) ∧ (b01 (TKX gf gn M161) = 1) ∧ (b01 (PO gn gq162 (M161.1 78 5).toInt (psX M161)) = 1) ∧ (900 - a160) < (n156 : Int)) → INV pr Kz M161 → jj p l e (cn_R 23) s m args below meth c 0 0 Q 4 dC dI ad cA A M161 12 [(0, .ref (ad 78)), (1, .int (sI 0)), (2, .int (sI a159)), (3, .int (sI a160))] [] := by
    intro n156
    induction n156 with
    | zero =>
      intro a159 a160 M161 gq162 h163 hM161
      exfalso; omega
    | succ n156 ih157 =>
      intro a159 a160 M161 gq162 h163 hM161
      have u164b := tkx_b (f := gf) (n := gn) (M := M161) (by omega)
      refine j_iload_n C 3 3 dX8_sum_12 rfl rfl ?_
      refine y_sipush C dX8_sum_13 rfl ?_
      refine y_icmp_ge C 71 dX8_sum_16 (by decide) (by omega) (fun h165 => ?_) (fun h165 => ?_)
      · have u205e := ll_e gf gn 2043 2045 (teP gf gn false (suR gf gn 5)) ((teP gf gn false (suR gf gn 5)) gi).2.2 gq162 a160 (M102.1 78 5).toInt (M102.1 78 6).toInt (M161.1 78 5).toInt (M161.1 78 6).toInt (psX M161) (by decide) (te_g gf gn (fun _ => suR_g gf gn 5)) (by omega) (by omega)
        have u205r : b01 (RR ((suR gf gn 6) gi) (M0.1 78 5).toInt (M0.1 78 6).toInt (M161.1 78 5).toInt (M161.1 78 6).toInt (psX M161)) = 1 := by rw [su_q gf gn 5 6 rfl]; exact rr_sq ((teP gf gn false (suR gf gn 5)) gi) (luP gf gn 2043 2045 (teP gf gn false (suR gf gn 5))) (M0.1 78 5).toInt (M0.1 78 6).toInt (M102.1 78 5).toInt (M102.1 78 6).toInt (psX M102) (M161.1 78 5).toInt (M161.1 78 6).toInt (psX M161) (by omega) (by omega)
        exact hret _ _ _ dX8_sum_71 ⟨hM161, by omega⟩
      · refine j_aload_n C 0 0 dX8_sum_19 rfl rfl ?_
        refine y_getI C 7 _ _ fX8_sum_22 rfl rfl ft_7_5 sb_7_5 hM161 dX8_sum_20 (fun a166 ea166 la166 ua166 => ?_)
        refine y_if_ne C 71 dX8_sum_23 (by decide) (by omega) (fun h168 => ?_) (fun h168 => ?_)
        · have u206e := ll_e gf gn 2043 2045 (teP gf gn false (suR gf gn 5)) ((teP gf gn false (suR gf gn 5)) gi).2.2 gq162 a160 (M102.1 78 5).toInt (M102.1 78 6).toInt (M161.1 78 5).toInt (M161.1 78 6).toInt (psX M161) (by decide) (te_g gf gn (fun _ => suR_g gf gn 5)) (by omega) (by omega)
          have u206r : b01 (RR ((suR gf gn 6) gi) (M0.1 78 5).toInt (M0.1 78 6).toInt (M161.1 78 5).toInt (M161.1 78 6).toInt (psX M161)) = 1 := by rw [su_q gf gn 5 6 rfl]; exact rr_sq ((teP gf gn false (suR gf gn 5)) gi) (luP gf gn 2043 2045 (teP gf gn false (suR gf gn 5))) (M0.1 78 5).toInt (M0.1 78 6).toInt (M102.1 78 5).toInt (M102.1 78 6).toInt (psX M102) (M161.1 78 5).toInt (M161.1 78 6).toInt (psX M161) (by omega) (by omega)
          exact hret _ _ _ dX8_sum_71 ⟨hM161, by omega⟩
        · refine j_iload_n C 2 2 dX8_sum_26 rfl rfl ?_
          refine y_sipush C dX8_sum_27 rfl ?_
          refine y_icmp_eq C 40 dX8_sum_30 (by decide) (by omega) (fun h169 => ?_) (fun h169 => ?_)
          · refine j_aload_n C 0 0 dX8_sum_40 rfl rfl ?_
            refine j_dup C dX8_sum_41 rfl ?_
            refine y_getI C 7 _ _ fX8_sum_18 rfl rfl ft_7_2 sb_7_2 hM161 dX8_sum_42 (fun a170 ea170 la170 ua170 => ?_)
            refine y_iconst C dX8_sum_45 ?_
            refine y_iadd C dX8_sum_46 ?_
            refine y_putI C 7 _ _ qX8_sum_18 rfl rfl ft_7_2 sb_7_2 hM161 (PX.w hpr rfl rfl) dX8_sum_47 (by omega) (fun M172 eM172 hM172 => ?_)
            have xM172 := tkx_j (f := gf) (n := gn) (gi := gq162) eM172 (by omega) (by omega) (by omega) (by omega)
            refine j_aload_n C 0 0 dX8_sum_50 rfl rfl ?_
            refine j_iload_n C 1 1 dX8_sum_51 rfl rfl ?_
            refine j_callVv C (d := 22) (As := [.int (sI 0)]) (st := []) 78 (s_lt rfl rfl) (s_kc (c := 7) rfl rfl) (by decide) rfl (s8_X8_term hM172 hpr gf gn (nxF gf gn gq162) (by omega) (by omega)) gX8_sum_X8_term rfl hdX8_term (by decide) (Nat.le_of_ble_eq_true rfl) dX8_sum_52 rfl (fun M174 h175 => ?_)
            obtain ⟨hM174, h176⟩ := h175
            have bM174 := tkx_b (f := gf) (n := gn) (M := M174) (by omega)
            have qM174 := po_rr (teP gf gn false (suR gf gn 5)) gn (nxF gf gn gq162) (M172.1 78 5).toInt (M172.1 78 6).toInt (psX M172) (M174.1 78 5).toInt (M174.1 78 6).toInt (psX M174) (te_g gf gn (fun _ => suR_g gf gn 5)) (by omega) (by omega)
            refine j_aload_n C 0 0 dX8_sum_55 rfl rfl ?_
            refine j_iload_n C 2 2 dX8_sum_56 rfl rfl ?_
            refine j_callVv C (d := 0) (As := [.int (sI a159)]) (st := []) 78 (s_lt rfl rfl) (s_kc (c := 7) rfl rfl) (by decide) rfl (s1_X8_emit hM174 hpr a159 (by omega) gf gn ((teP gf gn false (suR gf gn 5)) (nxF gf gn gq162)).2.2 (by omega) (by omega)) gX8_sum_X8_emit rfl hdX8_emit (by decide) (Nat.le_of_ble_eq_true rfl) dX8_sum_57 rfl (fun M178 h179 => ?_)
            obtain ⟨hM178, h180⟩ := h179
            have bM178 := tkx_b (f := gf) (n := gn) (M := M178) (by omega)
            have qM178 := po_eq gn ((teP gf gn false (suR gf gn 5)) (nxF gf gn gq162)).2.2 (M174.1 78 5).toInt (psX M174) (M178.1 78 5).toInt (psX M178) (by omega) (by omega) (by omega)
            refine j_aload_n C 0 0 dX8_sum_60 rfl rfl ?_
            refine j_callVi C (d := 0) (As := []) (st := []) 78 (s_lt rfl rfl) (s_kc (c := 7) rfl rfl) (by decide) rfl (s1_X8_token hM178 gf gn ((teP gf gn false (suR gf gn 5)) (nxF gf gn gq162)).2.2 (by omega) (by omega)) gX8_sum_X8_token rfl hdX8_token (by decide) (Nat.le_of_ble_eq_true rfl) dX8_sum_61 rfl (fun r181 M182 h183 => ?_)
            obtain ⟨a185, rfl, rfl, h184⟩ := h183
            refine j_istore_n C 2 [(2, .int (sI a185)), (0, .ref (ad 78)), (1, .int (sI 0)), (3, .int (sI a160))] dX8_sum_64 rfl (by decide) rfl ?_
            refine y_iinc C 3 [(3, .int (sI (a160 + 1))), (2, .int (sI a185)), (0, .ref (ad 78)), (1, .int (sI 0))] dX8_sum_65 rfl (by decide) rfl ?_
            have u186s := ll_s gf gn 2043 2045 (teP gf gn false (suR gf gn 5)) ((teP gf gn false (suR gf gn 5)) gi).2.2 gq162 a160 (M102.1 78 5).toInt (M102.1 78 6).toInt (M161.1 78 5).toInt (M161.1 78 6).toInt (psX M161) (M172.1 78 5).toInt (M172.1 78 6).toInt (M174.1 78 5).toInt (M174.1 78 6).toInt (psX M174) (M178.1 78 5).toInt (M178.1 78 6).toInt (psX M178) (by decide) (te_g gf gn (fun _ => suR_g gf gn 5)) (by omega) (by omega) (by omega) (by omega) (by omega) (by omega) (by omega) (by omega) (by omega)
            refine j_goto C 12 dX8_sum_68 (by decide) ?_
            refine j_lv [2, 3, 1, 0] rfl ?_; exact ih157 a185 (a160 + 1) M178 ((teP gf gn false (suR gf gn 5)) (nxF gf gn gq162)).2.2 (by omega) hM178
          · refine j_iload_n C 2 2 dX8_sum_33 rfl rfl ?_
            refine y_sipush C dX8_sum_34 rfl ?_
            refine y_icmp_ne C 71 dX8_sum_37 (by decide) (by omega) (fun h187 => ?_) (fun h187 => ?_)
            · have u207e := ll_e gf gn 2043 2045 (teP gf gn false (suR gf gn 5)) ((teP gf gn false (suR gf gn 5)) gi).2.2 gq162 a160 (M102.1 78 5).toInt (M102.1 78 6).toInt (M161.1 78 5).toInt (M161.1 78 6).toInt (psX M161) (by decide) (te_g gf gn (fun _ => suR_g gf gn 5)) (by omega) (by omega)
              have u207r : b01 (RR ((suR gf gn 6) gi) (M0.1 78 5).toInt (M0.1 78 6).toInt (M161.1 78 5).toInt (M161.1 78 6).toInt (psX M161)) = 1 := by rw [su_q gf gn 5 6 rfl]; exact rr_sq ((teP gf gn false (suR gf gn 5)) gi) (luP gf gn 2043 2045 (teP gf gn false (suR gf gn 5))) (M0.1 78 5).toInt (M0.1 78 6).toInt (M102.1 78 5).toInt (M102.1 78 6).toInt (psX M102) (M161.1 78 5).toInt (M161.1 78 6).toInt (psX M161) (by omega) (by omega)
              exact hret _ _ _ dX8_sum_71 ⟨hM161, by omega⟩
            · refine j_aload_n C 0 0 dX8_sum_40 rfl rfl ?_
              refine j_dup C dX8_sum_41 rfl ?_
              refine y_getI C 7 _ _ fX8_sum_18 rfl rfl ft_7_2 sb_7_2 hM161 dX8_sum_42 (fun a188 ea188 la188 ua188 => ?_)
              refine y_iconst C dX8_sum_45 ?_
              refine y_iadd C dX8_sum_46 ?_
              refine y_putI C 7 _ _ qX8_sum_18 rfl rfl ft_7_2 sb_7_2 hM161 (PX.w hpr rfl rfl) dX8_sum_47 (by omega) (fun M190 eM190 hM190 => ?_)
              have xM190 := tkx_j (f := gf) (n := gn) (gi := gq162) eM190 (by omega) (by omega) (by omega) (by omega)
              refine j_aload_n C 0 0 dX8_sum_50 rfl rfl ?_
              refine j_iload_n C 1 1 dX8_sum_51 rfl rfl ?_
              refine j_callVv C (d := 22) (As := [.int (sI 0)]) (st := []) 78 (s_lt rfl rfl) (s_kc (c := 7) rfl rfl) (by decide) rfl (s8_X8_term hM190 hpr gf gn (nxF gf gn gq162) (by omega) (by omega)) gX8_sum_X8_term rfl hdX8_term (by decide) (Nat.le_of_ble_eq_true rfl) dX8_sum_52 rfl (fun M192 h193 => ?_)
              obtain ⟨hM192, h194⟩ := h193
              have bM192 := tkx_b (f := gf) (n := gn) (M := M192) (by omega)
              have qM192 := po_rr (teP gf gn false (suR gf gn 5)) gn (nxF gf gn gq162) (M190.1 78 5).toInt (M190.1 78 6).toInt (psX M190) (M192.1 78 5).toInt (M192.1 78 6).toInt (psX M192) (te_g gf gn (fun _ => suR_g gf gn 5)) (by omega) (by omega)
              refine j_aload_n C 0 0 dX8_sum_55 rfl rfl ?_
              refine j_iload_n C 2 2 dX8_sum_56 rfl rfl ?_
              refine j_callVv C (d := 0) (As := [.int (sI a159)]) (st := []) 78 (s_lt rfl rfl) (s_kc (c := 7) rfl rfl) (by decide) rfl (s1_X8_emit hM192 hpr a159 (by omega) gf gn ((teP gf gn false (suR gf gn 5)) (nxF gf gn gq162)).2.2 (by omega) (by omega)) gX8_sum_X8_emit rfl hdX8_emit (by decide) (Nat.le_of_ble_eq_true rfl) dX8_sum_57 rfl (fun M196 h197 => ?_)
              obtain ⟨hM196, h198⟩ := h197
              have bM196 := tkx_b (f := gf) (n := gn) (M := M196) (by omega)
              have qM196 := po_eq gn ((teP gf gn false (suR gf gn 5)) (nxF gf gn gq162)).2.2 (M192.1 78 5).toInt (psX M192) (M196.1 78 5).toInt (psX M196) (by omega) (by omega) (by omega)
              refine j_aload_n C 0 0 dX8_sum_60 rfl rfl ?_
              refine j_callVi C (d := 0) (As := []) (st := []) 78 (s_lt rfl rfl) (s_kc (c := 7) rfl rfl) (by decide) rfl (s1_X8_token hM196 gf gn ((teP gf gn false (suR gf gn 5)) (nxF gf gn gq162)).2.2 (by omega) (by omega)) gX8_sum_X8_token rfl hdX8_token (by decide) (Nat.le_of_ble_eq_true rfl) dX8_sum_61 rfl (fun r199 M200 h201 => ?_)
              obtain ⟨a203, rfl, rfl, h202⟩ := h201
              refine j_istore_n C 2 [(2, .int (sI a203)), (0, .ref (ad 78)), (1, .int (sI 0)), (3, .int (sI a160))] dX8_sum_64 rfl (by decide) rfl ?_
              refine y_iinc C 3 [(3, .int (sI (a160 + 1))), (2, .int (sI a203)), (0, .ref (ad 78)), (1, .int (sI 0))] dX8_sum_65 rfl (by decide) rfl ?_
              have u204s := ll_s gf gn 2043 2045 (teP gf gn false (suR gf gn 5)) ((teP gf gn false (suR gf gn 5)) gi).2.2 gq162 a160 (M102.1 78 5).toInt (M102.1 78 6).toInt (M161.1 78 5).toInt (M161.1 78 6).toInt (psX M161) (M190.1 78 5).toInt (M190.1 78 6).toInt (M192.1 78 5).toInt (M192.1 78 6).toInt (psX M192) (M196.1 78 5).toInt (M196.1 78 6).toInt (psX M196) (by decide) (te_g gf gn (fun _ => suR_g gf gn 5)) (by omega) (by omega) (by omega) (by omega) (by omega) (by omega) (by omega) (by omega) (by omega)
              refine j_goto C 12 dX8_sum_68 (by decide) ?_
              refine j_lv [2, 3, 1, 0] rfl ?_; exact ih157 a203 (a160 + 1) M196 ((teP gf gn false (suR gf gn 5)) (nxF gf gn gq162)).2.2 (by omega) hM196
  refine j_lv [2, 3, 1, 0] rfl ?_; exact L158 4294967306 a109 0 M102 ((teP gf gn false (suR gf gn 5)) gi).2.2 (by omega) hM102
set_option maxHeartbeats 4000000 in
theorem s1_X8_unit {l : Launch} {dC : Nat → ClassId} {dI : Nat → Nat → Nat} {ad : Nat → Nat} {cA : Nat → ClassId} {pr : Nat → Nat → Bool} {Kz : mm_M} {M0 : mm_M} (hM0 : INV pr Kz M0) (hpr : PX pr) (gf : Nat → Int) (gn : Int) (gi : Int) (hp0 : 1 ≤ (M0.1 78 5).toInt ∧ (M0.1 78 5).toInt ≤ 4) (hp1 : b01 (TKX gf gn M0) = 1) (hp2 : b01 (PO gn gi (M0.1 78 5).toInt (psX M0)) = 1) : Cv l 0 yX8_unit wsX8_unit dC dI ad cA [.ref (ad 78), .int (sI 7)] M0 (fun M' => INV pr Kz M' ∧ ((M'.1 78 5).toInt = (M0.1 78 5).toInt ∧ (M'.1 78 6).toInt = (M0.1 78 6).toInt) ∧ (1 ≤ (M'.1 78 5).toInt ∧ (M'.1 78 5).toInt ≤ 4) ∧ (b01 (TKX gf gn M') = 1)) := by
  refine cv_of (cc := cX8_unit) (maxL := 4) (lv := [(0, .ref (ad 78)), (1, .int (sI 7))]) (by decide) rfl (Nat.le_of_ble_eq_true rfl) rfl ?_
  intro p e s m args below meth c A Q C hret
  refine j_aload_n C 0 0 dX8_unit_0 rfl rfl ?_
  refine y_getI C 7 _ _ fX8_unit_22 rfl rfl ft_7_5 sb_7_5 hM0 dX8_unit_1 (fun a101 ea101 la101 ua101 => ?_)
  refine y_if_eq C 8 dX8_unit_4 (by decide) (by omega) (fun h103 => ?_) (fun h103 => ?_)
  · exfalso; omega
  · exact hret _ _ _ dX8_unit_7 ⟨hM0, by omega⟩
set_option maxHeartbeats 4000000 in
theorem s1_X8_both {l : Launch} {dC : Nat → ClassId} {dI : Nat → Nat → Nat} {ad : Nat → Nat} {cA : Nat → ClassId} {pr : Nat → Nat → Bool} {Kz : mm_M} {M0 : mm_M} (hM0 : INV pr Kz M0) (hpr : PX pr) (gf : Nat → Int) (gn : Int) (gi : Int) (hp0 : 1 ≤ (M0.1 78 5).toInt ∧ (M0.1 78 5).toInt ≤ 4) (hp1 : b01 (TKX gf gn M0) = 1) (hp2 : b01 (PO gn gi (M0.1 78 5).toInt (psX M0)) = 1) : Cv l 1 yX8_both wsX8_both dC dI ad cA [.ref (ad 78), .int (sI 7)] M0 (fun M' => INV pr Kz M' ∧ ((M'.1 78 5).toInt = (M0.1 78 5).toInt ∧ (M'.1 78 6).toInt = (M0.1 78 6).toInt) ∧ (1 ≤ (M'.1 78 5).toInt ∧ (M'.1 78 5).toInt ≤ 4) ∧ (b01 (TKX gf gn M') = 1)) := by
  refine cv_of (cc := cX8_both) (maxL := 3) (lv := [(0, .ref (ad 78)), (1, .int (sI 7))]) (by decide) rfl (Nat.le_of_ble_eq_true rfl) rfl ?_
  intro p e s m args below meth c A Q C hret
  refine j_aload_n C 0 0 dX8_both_0 rfl rfl ?_
  refine j_iload_n C 1 1 dX8_both_1 rfl rfl ?_
  have z101 := (hM0).rd (i := 78) (c := 7) (k := 5) rfl sb_7_5
  refine j_callVv C (d := 0) (As := [.int (sI 7)]) (st := []) 78 (s_lt rfl rfl) (s_kc (c := 7) rfl rfl) (by decide) rfl (s1_X8_unit hM0 hpr gf gn gi (by omega) (by omega) (by omega)) gX8_both_X8_unit rfl hdX8_unit (by decide) (Nat.le_of_ble_eq_true rfl) dX8_both_2 rfl (fun M103 h104 => ?_)
  obtain ⟨hM103, h105⟩ := h104
  have bM103 := tkx_b (f := gf) (n := gn) (M := M103) (by omega)
  have qM103 := po_f gn gi (M103.1 78 5).toInt (psX M103) (by omega)
  refine y_iconst C dX8_both_5 ?_
  refine j_istore_n C 2 [(2, .int (sI 0)), (0, .ref (ad 78)), (1, .int (sI 7))] dX8_both_6 rfl (by decide) rfl ?_
  have L858 : ∀ (n856 : Nat), ∀ (a859 : Int) (M860 : mm_M) (gq861 : Int), (0 ≤ a859 ∧ a859 ≤ 900 ∧ ((M860.1 78 5).toInt = (M103.1 78 5).toInt ∧ (M860.1 78 6).toInt = (M103.1 78 6).toInt) ∧ (b01 (TKX gf gn M860) = 1) ∧ (b01 (PO gn gq861 (M860.1 78 5).toInt (psX M860)) = 1) ∧ (900 - a859) < (n856 : Int)) → INV pr Kz M860 → jj p l e (cn_R 1) s m args below meth c 0 0 Q 3 dC dI ad cA A M860 7 [(0, .ref (ad 78)), (1, .int (sI 7)), (2, .int (sI a859))] [] := by
    intro n856
    induction n856 with
    | zero =>
      intro a859 M860 gq861 h862 hM860
      exfalso; omega
    | succ n856 ih857 =>
      intro a859 M860 gq861 h862 hM860
      refine j_iload_n C 2 2 dX8_both_7 rfl rfl ?_
      refine y_sipush C dX8_both_8 rfl ?_
      refine y_icmp_ge C 59 dX8_both_11 (by decide) (by omega) (fun h863 => ?_) (fun h863 => ?_)
      · exact hret _ _ _ dX8_both_59 ⟨hM860, by omega⟩
      · refine j_aload_n C 0 0 dX8_both_14 rfl rfl ?_
        refine y_getI C 7 _ _ fX8_both_22 rfl rfl ft_7_5 sb_7_5 hM860 dX8_both_15 (fun a864 ea864 la864 ua864 => ?_)
        refine y_if_ne C 59 dX8_both_18 (by decide) (by omega) (fun h866 => ?_) (fun h866 => ?_)
        · exact hret _ _ _ dX8_both_59 ⟨hM860, by omega⟩
        · refine j_aload_n C 0 0 dX8_both_21 rfl rfl ?_
          refine j_callVi C (d := 0) (As := []) (st := []) 78 (s_lt rfl rfl) (s_kc (c := 7) rfl rfl) (by decide) rfl (s1_X8_token hM860 gf gn gq861 (by omega) (by omega)) gX8_both_X8_token rfl hdX8_token (by decide) (Nat.le_of_ble_eq_true rfl) dX8_both_22 rfl (fun r867 M868 h869 => ?_)
          obtain ⟨a871, rfl, rfl, h870⟩ := h869
          refine y_sipush C dX8_both_25 rfl ?_
          refine y_icmp_ne C 59 dX8_both_28 (by decide) (by omega) (fun h872 => ?_) (fun h872 => ?_)
          · exact hret _ _ _ dX8_both_59 ⟨hM860, by omega⟩
          · refine j_aload_n C 0 0 dX8_both_31 rfl rfl ?_
            refine j_dup C dX8_both_32 rfl ?_
            refine y_getI C 7 _ _ fX8_both_18 rfl rfl ft_7_2 sb_7_2 hM860 dX8_both_33 (fun a873 ea873 la873 ua873 => ?_)
            refine y_iconst C dX8_both_36 ?_
            refine y_iadd C dX8_both_37 ?_
            refine y_putI C 7 _ _ qX8_both_18 rfl rfl ft_7_2 sb_7_2 hM860 (PX.w hpr rfl rfl) dX8_both_38 (by omega) (fun M875 eM875 hM875 => ?_)
            have xM875 := tkx_j (f := gf) (n := gn) (gi := gq861) eM875 (by omega) (by omega) (by omega) (by omega)
            refine j_aload_n C 0 0 dX8_both_41 rfl rfl ?_
            refine j_iload_n C 1 1 dX8_both_42 rfl rfl ?_
            have z876 := (hM875).rd (i := 78) (c := 7) (k := 5) rfl sb_7_5
            refine j_callVv C (d := 0) (As := [.int (sI 7)]) (st := []) 78 (s_lt rfl rfl) (s_kc (c := 7) rfl rfl) (by decide) rfl (s1_X8_unit hM875 hpr gf gn (nxF gf gn gq861) (by omega) (by omega) (by omega)) gX8_both_X8_unit rfl hdX8_unit (by decide) (Nat.le_of_ble_eq_true rfl) dX8_both_43 rfl (fun M878 h879 => ?_)
            obtain ⟨hM878, h880⟩ := h879
            have bM878 := tkx_b (f := gf) (n := gn) (M := M878) (by omega)
            have qM878 := po_f gn (nxF gf gn gq861) (M878.1 78 5).toInt (psX M878) (by omega)
            refine j_aload_n C 0 0 dX8_both_46 rfl rfl ?_
            refine y_sipush C dX8_both_47 rfl ?_
            refine j_callVv C (d := 0) (As := [.int (sI 1015)]) (st := []) 78 (s_lt rfl rfl) (s_kc (c := 7) rfl rfl) (by decide) rfl (s1_X8_emit hM878 hpr 1015 (by omega) gf gn (nxF gf gn gq861) (by omega) (by omega)) gX8_both_X8_emit rfl hdX8_emit (by decide) (Nat.le_of_ble_eq_true rfl) dX8_both_50 rfl (fun M882 h883 => ?_)
            obtain ⟨hM882, h884⟩ := h883
            have bM882 := tkx_b (f := gf) (n := gn) (M := M882) (by omega)
            have qM882 := po_eq gn (nxF gf gn gq861) (M878.1 78 5).toInt (psX M878) (M882.1 78 5).toInt (psX M882) (by omega) (by omega) (by omega)
            refine y_iinc C 2 [(2, .int (sI (a859 + 1))), (0, .ref (ad 78)), (1, .int (sI 7))] dX8_both_53 rfl (by decide) rfl ?_
            refine j_goto C 7 dX8_both_56 (by decide) ?_
            refine j_lv [1, 2, 0] rfl ?_; exact ih857 (a859 + 1) M882 (nxF gf gn gq861) (by omega) hM882
  refine j_lv [1, 2, 0] rfl ?_; exact L858 2010 0 M103 gi (by omega) hM103
set_option maxHeartbeats 4000000 in
theorem s1_X8_truth {l : Launch} {dC : Nat → ClassId} {dI : Nat → Nat → Nat} {ad : Nat → Nat} {cA : Nat → ClassId} {pr : Nat → Nat → Bool} {Kz : mm_M} {M0 : mm_M} (hM0 : INV pr Kz M0) (hpr : PX pr) (gf : Nat → Int) (gn : Int) (gi : Int) (hp0 : 1 ≤ (M0.1 78 5).toInt ∧ (M0.1 78 5).toInt ≤ 4) (hp1 : b01 (TKX gf gn M0) = 1) (hp2 : b01 (PO gn gi (M0.1 78 5).toInt (psX M0)) = 1) : Cv l 2 yX8_truth wsX8_truth dC dI ad cA [.ref (ad 78), .int (sI 7)] M0 (fun M' => INV pr Kz M' ∧ ((M'.1 78 5).toInt = (M0.1 78 5).toInt ∧ (M'.1 78 6).toInt = (M0.1 78 6).toInt) ∧ (1 ≤ (M'.1 78 5).toInt ∧ (M'.1 78 5).toInt ≤ 4) ∧ (b01 (TKX gf gn M') = 1)) := by
  refine cv_of (cc := cX8_truth) (maxL := 3) (lv := [(0, .ref (ad 78)), (1, .int (sI 7))]) (by decide) rfl (Nat.le_of_ble_eq_true rfl) rfl ?_
  intro p e s m args below meth c A Q C hret
  refine j_aload_n C 0 0 dX8_truth_0 rfl rfl ?_
  refine j_iload_n C 1 1 dX8_truth_1 rfl rfl ?_
  have z101 := (hM0).rd (i := 78) (c := 7) (k := 5) rfl sb_7_5
  refine j_callVv C (d := 1) (As := [.int (sI 7)]) (st := []) 78 (s_lt rfl rfl) (s_kc (c := 7) rfl rfl) (by decide) rfl (s1_X8_both hM0 hpr gf gn gi (by omega) (by omega) (by omega)) gX8_truth_X8_both rfl hdX8_both (by decide) (Nat.le_of_ble_eq_true rfl) dX8_truth_2 rfl (fun M103 h104 => ?_)
  obtain ⟨hM103, h105⟩ := h104
  have bM103 := tkx_b (f := gf) (n := gn) (M := M103) (by omega)
  have qM103 := po_f gn gi (M103.1 78 5).toInt (psX M103) (by omega)
  refine y_iconst C dX8_truth_5 ?_
  refine j_istore_n C 2 [(2, .int (sI 0)), (0, .ref (ad 78)), (1, .int (sI 7))] dX8_truth_6 rfl (by decide) rfl ?_
  have L858 : ∀ (n856 : Nat), ∀ (a859 : Int) (M860 : mm_M) (gq861 : Int), (0 ≤ a859 ∧ a859 ≤ 900 ∧ ((M860.1 78 5).toInt = (M103.1 78 5).toInt ∧ (M860.1 78 6).toInt = (M103.1 78 6).toInt) ∧ (b01 (TKX gf gn M860) = 1) ∧ (b01 (PO gn gq861 (M860.1 78 5).toInt (psX M860)) = 1) ∧ (900 - a859) < (n856 : Int)) → INV pr Kz M860 → jj p l e (cn_R 2) s m args below meth c 0 0 Q 3 dC dI ad cA A M860 7 [(0, .ref (ad 78)), (1, .int (sI 7)), (2, .int (sI a859))] [] := by
    intro n856
    induction n856 with
    | zero =>
      intro a859 M860 gq861 h862 hM860
      exfalso; omega
    | succ n856 ih857 =>
      intro a859 M860 gq861 h862 hM860
      refine j_iload_n C 2 2 dX8_truth_7 rfl rfl ?_
      refine y_sipush C dX8_truth_8 rfl ?_
      refine y_icmp_ge C 59 dX8_truth_11 (by decide) (by omega) (fun h863 => ?_) (fun h863 => ?_)
      · exact hret _ _ _ dX8_truth_59 ⟨hM860, by omega⟩
      · refine j_aload_n C 0 0 dX8_truth_14 rfl rfl ?_
        refine y_getI C 7 _ _ fX8_truth_22 rfl rfl ft_7_5 sb_7_5 hM860 dX8_truth_15 (fun a864 ea864 la864 ua864 => ?_)
        refine y_if_ne C 59 dX8_truth_18 (by decide) (by omega) (fun h866 => ?_) (fun h866 => ?_)
        · exact hret _ _ _ dX8_truth_59 ⟨hM860, by omega⟩
        · refine j_aload_n C 0 0 dX8_truth_21 rfl rfl ?_
          refine j_callVi C (d := 0) (As := []) (st := []) 78 (s_lt rfl rfl) (s_kc (c := 7) rfl rfl) (by decide) rfl (s1_X8_token hM860 gf gn gq861 (by omega) (by omega)) gX8_truth_X8_token rfl hdX8_token (by decide) (Nat.le_of_ble_eq_true rfl) dX8_truth_22 rfl (fun r867 M868 h869 => ?_)
          obtain ⟨a871, rfl, rfl, h870⟩ := h869
          refine y_sipush C dX8_truth_25 rfl ?_
          refine y_icmp_ne C 59 dX8_truth_28 (by decide) (by omega) (fun h872 => ?_) (fun h872 => ?_)
          · exact hret _ _ _ dX8_truth_59 ⟨hM860, by omega⟩
          · refine j_aload_n C 0 0 dX8_truth_31 rfl rfl ?_
            refine j_dup C dX8_truth_32 rfl ?_
            refine y_getI C 7 _ _ fX8_truth_18 rfl rfl ft_7_2 sb_7_2 hM860 dX8_truth_33 (fun a873 ea873 la873 ua873 => ?_)
            refine y_iconst C dX8_truth_36 ?_
            refine y_iadd C dX8_truth_37 ?_
            refine y_putI C 7 _ _ qX8_truth_18 rfl rfl ft_7_2 sb_7_2 hM860 (PX.w hpr rfl rfl) dX8_truth_38 (by omega) (fun M875 eM875 hM875 => ?_)
            have xM875 := tkx_j (f := gf) (n := gn) (gi := gq861) eM875 (by omega) (by omega) (by omega) (by omega)
            refine j_aload_n C 0 0 dX8_truth_41 rfl rfl ?_
            refine j_iload_n C 1 1 dX8_truth_42 rfl rfl ?_
            have z876 := (hM875).rd (i := 78) (c := 7) (k := 5) rfl sb_7_5
            refine j_callVv C (d := 1) (As := [.int (sI 7)]) (st := []) 78 (s_lt rfl rfl) (s_kc (c := 7) rfl rfl) (by decide) rfl (s1_X8_both hM875 hpr gf gn (nxF gf gn gq861) (by omega) (by omega) (by omega)) gX8_truth_X8_both rfl hdX8_both (by decide) (Nat.le_of_ble_eq_true rfl) dX8_truth_43 rfl (fun M878 h879 => ?_)
            obtain ⟨hM878, h880⟩ := h879
            have bM878 := tkx_b (f := gf) (n := gn) (M := M878) (by omega)
            have qM878 := po_f gn (nxF gf gn gq861) (M878.1 78 5).toInt (psX M878) (by omega)
            refine j_aload_n C 0 0 dX8_truth_46 rfl rfl ?_
            refine y_sipush C dX8_truth_47 rfl ?_
            refine j_callVv C (d := 0) (As := [.int (sI 1014)]) (st := []) 78 (s_lt rfl rfl) (s_kc (c := 7) rfl rfl) (by decide) rfl (s1_X8_emit hM878 hpr 1014 (by omega) gf gn (nxF gf gn gq861) (by omega) (by omega)) gX8_truth_X8_emit rfl hdX8_emit (by decide) (Nat.le_of_ble_eq_true rfl) dX8_truth_50 rfl (fun M882 h883 => ?_)
            obtain ⟨hM882, h884⟩ := h883
            have bM882 := tkx_b (f := gf) (n := gn) (M := M882) (by omega)
            have qM882 := po_eq gn (nxF gf gn gq861) (M878.1 78 5).toInt (psX M878) (M882.1 78 5).toInt (psX M882) (by omega) (by omega) (by omega)
            refine y_iinc C 2 [(2, .int (sI (a859 + 1))), (0, .ref (ad 78)), (1, .int (sI 7))] dX8_truth_53 rfl (by decide) rfl ?_
            refine j_goto C 7 dX8_truth_56 (by decide) ?_
            refine j_lv [1, 2, 0] rfl ?_; exact ih857 (a859 + 1) M882 (nxF gf gn gq861) (by omega) hM882
  refine j_lv [1, 2, 0] rfl ?_; exact L858 2010 0 M103 gi (by omega) hM103
set_option maxHeartbeats 4000000 in
theorem s2_X8_unit {l : Launch} {dC : Nat → ClassId} {dI : Nat → Nat → Nat} {ad : Nat → Nat} {cA : Nat → ClassId} {pr : Nat → Nat → Bool} {Kz : mm_M} {M0 : mm_M} (hM0 : INV pr Kz M0) (hpr : PX pr) (gf : Nat → Int) (gn : Int) (gi : Int) (hp0 : b01 (TKX gf gn M0) = 1) (hp1 : b01 (PO gn gi (M0.1 78 5).toInt (psX M0)) = 1) : Cv l 6 yX8_unit wsX8_unit dC dI ad cA [.ref (ad 78), .int (sI 6)] M0 (fun M' => INV pr Kz M' ∧ (b01 (TKX gf gn M') = 1) ∧ b01 (RR ((unR gf gn 0) gi) (M0.1 78 5).toInt (M0.1 78 6).toInt (M'.1 78 5).toInt (M'.1 78 6).toInt (psX M')) = 1) := by
  refine cv_of (cc := cX8_unit) (maxL := 4) (lv := [(0, .ref (ad 78)), (1, .int (sI 6))]) (by decide) rfl (Nat.le_of_ble_eq_true rfl) rfl ?_
  intro p e s m args below meth c A Q C hret
  refine j_aload_n C 0 0 dX8_unit_0 rfl rfl ?_
  refine y_getI C 7 _ _ fX8_unit_22 rfl rfl ft_7_5 sb_7_5 hM0 dX8_unit_1 (fun a101 ea101 la101 ua101 => ?_)
  refine y_if_eq C 8 dX8_unit_4 (by decide) (by omega) (fun h103 => ?_) (fun h103 => ?_)
  · refine j_aload_n C 0 0 dX8_unit_8 rfl rfl ?_
    refine j_callVi C (d := 0) (As := []) (st := []) 78 (s_lt rfl rfl) (s_kc (c := 7) rfl rfl) (by decide) rfl (s1_X8_token hM0 gf gn gi (by omega) (by omega)) gX8_unit_X8_token rfl hdX8_token (by decide) (Nat.le_of_ble_eq_true rfl) dX8_unit_9 rfl (fun r104 M105 h106 => ?_)
    obtain ⟨a108, rfl, rfl, h107⟩ := h106
    refine j_istore_n C 2 [(2, .int (sI a108)), (0, .ref (ad 78)), (1, .int (sI 6))] dX8_unit_12 rfl (by decide) rfl ?_
    refine j_iload_n C 0 2 dX8_unit_13 rfl rfl ?_
    refine y_sipush C dX8_unit_14 rfl ?_
    refine y_icmp_ne C 42 dX8_unit_17 (by decide) (by omega) (fun h109 => ?_) (fun h109 => ?_)
    · refine j_iload_n C 0 2 dX8_unit_42 rfl rfl ?_
      refine y_sipush C dX8_unit_43 rfl ?_
      refine y_icmp_ne C 71 dX8_unit_46 (by decide) (by omega) (fun h110 => ?_) (fun h110 => ?_)
      · refine j_aload_n C 1 0 dX8_unit_71 rfl rfl ?_
        refine j_iload_n C 2 1 dX8_unit_72 rfl rfl ?_
        refine j_callVv C (d := 5) (As := [.int (sI 6)]) (st := []) 78 (s_lt rfl rfl) (s_kc (c := 7) rfl rfl) (by decide) rfl (s2_X8_sum hM0 hpr gf gn gi (by omega) (by omega)) gX8_unit_X8_sum rfl hdX8_sum (by decide) (Nat.le_of_ble_eq_true rfl) dX8_unit_73 rfl (fun M112 h113 => ?_)
        obtain ⟨hM112, h114⟩ := h113
        have bM112 := tkx_b (f := gf) (n := gn) (M := M112) (by omega)
        have qM112 := po_rr (suR gf gn 0) gn gi (M0.1 78 5).toInt (M0.1 78 6).toInt (psX M0) (M112.1 78 5).toInt (M112.1 78 6).toInt (psX M112) (suR_g gf gn 0) (by omega) (by omega)
        refine j_aload_n C 1 0 dX8_unit_76 rfl rfl ?_
        refine j_callVi C (d := 0) (As := []) (st := []) 78 (s_lt rfl rfl) (s_kc (c := 7) rfl rfl) (by decide) rfl (s1_X8_token hM112 gf gn ((suR gf gn 0) gi).2.2 (by omega) (by omega)) gX8_unit_X8_token rfl hdX8_token (by decide) (Nat.le_of_ble_eq_true rfl) dX8_unit_77 rfl (fun r115 M116 h117 => ?_)
        obtain ⟨a119, rfl, rfl, h118⟩ := h117
        refine j_istore_n C 3 [(3, .int (sI a119)), (2, .int (sI a108)), (0, .ref (ad 78)), (1, .int (sI 6))] dX8_unit_80 rfl (by decide) rfl ?_
        refine j_iload_n C 0 3 dX8_unit_81 rfl rfl ?_
        refine y_sipush C dX8_unit_82 rfl ?_
        refine y_icmp_eq C 102 dX8_unit_85 (by decide) (by omega) (fun h120 => ?_) (fun h120 => ?_)
        · refine j_aload_n C 2 0 dX8_unit_102 rfl rfl ?_
          refine j_dup C dX8_unit_103 rfl ?_
          refine y_getI C 7 _ _ fX8_unit_18 rfl rfl ft_7_2 sb_7_2 hM112 dX8_unit_104 (fun a121 ea121 la121 ua121 => ?_)
          refine y_iconst C dX8_unit_107 ?_
          refine y_iadd C dX8_unit_108 ?_
          refine y_putI C 7 _ _ qX8_unit_18 rfl rfl ft_7_2 sb_7_2 hM112 (PX.w hpr rfl rfl) dX8_unit_109 (by omega) (fun M123 eM123 hM123 => ?_)
          have xM123 := tkx_j (f := gf) (n := gn) (gi := ((suR gf gn 0) gi).2.2) eM123 (by omega) (by omega) (by omega) (by omega)
          refine j_aload_n C 2 0 dX8_unit_112 rfl rfl ?_
          refine j_iload_n C 3 1 dX8_unit_113 rfl rfl ?_
          refine j_callVv C (d := 5) (As := [.int (sI 6)]) (st := []) 78 (s_lt rfl rfl) (s_kc (c := 7) rfl rfl) (by decide) rfl (s2_X8_sum hM123 hpr gf gn (nxF gf gn ((suR gf gn 0) gi).2.2) (by omega) (by omega)) gX8_unit_X8_sum rfl hdX8_sum (by decide) (Nat.le_of_ble_eq_true rfl) dX8_unit_114 rfl (fun M125 h126 => ?_)
          obtain ⟨hM125, h127⟩ := h126
          have bM125 := tkx_b (f := gf) (n := gn) (M := M125) (by omega)
          have qM125 := po_rr (suR gf gn 0) gn (nxF gf gn ((suR gf gn 0) gi).2.2) (M123.1 78 5).toInt (M123.1 78 6).toInt (psX M123) (M125.1 78 5).toInt (M125.1 78 6).toInt (psX M125) (suR_g gf gn 0) (by omega) (by omega)
          refine j_aload_n C 2 0 dX8_unit_117 rfl rfl ?_
          refine j_iload_n C 0 3 dX8_unit_118 rfl rfl ?_
          refine j_callVv C (d := 0) (As := [.int (sI a119)]) (st := []) 78 (s_lt rfl rfl) (s_kc (c := 7) rfl rfl) (by decide) rfl (s1_X8_emit hM125 hpr a119 (by omega) gf gn ((suR gf gn 0) (nxF gf gn ((suR gf gn 0) gi).2.2)).2.2 (by omega) (by omega)) gX8_unit_X8_emit rfl hdX8_emit (by decide) (Nat.le_of_ble_eq_true rfl) dX8_unit_119 rfl (fun M129 h130 => ?_)
          obtain ⟨hM129, h131⟩ := h130
          have bM129 := tkx_b (f := gf) (n := gn) (M := M129) (by omega)
          have qM129 := po_eq gn ((suR gf gn 0) (nxF gf gn ((suR gf gn 0) gi).2.2)).2.2 (M125.1 78 5).toInt (psX M125) (M129.1 78 5).toInt (psX M129) (by omega) (by omega) (by omega)
          refine j_goto C 130 dX8_unit_122 (by decide) ?_
          have u132r := un_4 gf gn 0 gi (M0.1 78 5).toInt (M0.1 78 6).toInt (psX M0) (M112.1 78 5).toInt (M112.1 78 6).toInt (psX M112) (M123.1 78 5).toInt (M123.1 78 6).toInt (M125.1 78 5).toInt (M125.1 78 6).toInt (psX M125) (M129.1 78 5).toInt (M129.1 78 6).toInt (psX M129) (by omega) (by omega) (by omega) (by omega) (by omega) (by omega) (by omega) (by omega) (by omega) (by omega) (by omega)
          exact hret _ _ _ dX8_unit_130 ⟨hM129, by omega⟩
        · refine j_iload_n C 0 3 dX8_unit_88 rfl rfl ?_
          refine y_sipush C dX8_unit_89 rfl ?_
          refine y_icmp_eq C 102 dX8_unit_92 (by decide) (by omega) (fun h133 => ?_) (fun h133 => ?_)
          · refine j_aload_n C 2 0 dX8_unit_102 rfl rfl ?_
            refine j_dup C dX8_unit_103 rfl ?_
            refine y_getI C 7 _ _ fX8_unit_18 rfl rfl ft_7_2 sb_7_2 hM112 dX8_unit_104 (fun a134 ea134 la134 ua134 => ?_)
            refine y_iconst C dX8_unit_107 ?_
            refine y_iadd C dX8_unit_108 ?_
            refine y_putI C 7 _ _ qX8_unit_18 rfl rfl ft_7_2 sb_7_2 hM112 (PX.w hpr rfl rfl) dX8_unit_109 (by omega) (fun M136 eM136 hM136 => ?_)
            have xM136 := tkx_j (f := gf) (n := gn) (gi := ((suR gf gn 0) gi).2.2) eM136 (by omega) (by omega) (by omega) (by omega)
            refine j_aload_n C 2 0 dX8_unit_112 rfl rfl ?_
            refine j_iload_n C 3 1 dX8_unit_113 rfl rfl ?_
            refine j_callVv C (d := 5) (As := [.int (sI 6)]) (st := []) 78 (s_lt rfl rfl) (s_kc (c := 7) rfl rfl) (by decide) rfl (s2_X8_sum hM136 hpr gf gn (nxF gf gn ((suR gf gn 0) gi).2.2) (by omega) (by omega)) gX8_unit_X8_sum rfl hdX8_sum (by decide) (Nat.le_of_ble_eq_true rfl) dX8_unit_114 rfl (fun M138 h139 => ?_)
            obtain ⟨hM138, h140⟩ := h139
            have bM138 := tkx_b (f := gf) (n := gn) (M := M138) (by omega)
            have qM138 := po_rr (suR gf gn 0) gn (nxF gf gn ((suR gf gn 0) gi).2.2) (M136.1 78 5).toInt (M136.1 78 6).toInt (psX M136) (M138.1 78 5).toInt (M138.1 78 6).toInt (psX M138) (suR_g gf gn 0) (by omega) (by omega)
            refine j_aload_n C 2 0 dX8_unit_117 rfl rfl ?_
            refine j_iload_n C 0 3 dX8_unit_118 rfl rfl ?_
            refine j_callVv C (d := 0) (As := [.int (sI a119)]) (st := []) 78 (s_lt rfl rfl) (s_kc (c := 7) rfl rfl) (by decide) rfl (s1_X8_emit hM138 hpr a119 (by omega) gf gn ((suR gf gn 0) (nxF gf gn ((suR gf gn 0) gi).2.2)).2.2 (by omega) (by omega)) gX8_unit_X8_emit rfl hdX8_emit (by decide) (Nat.le_of_ble_eq_true rfl) dX8_unit_119 rfl (fun M142 h143 => ?_)
            obtain ⟨hM142, h144⟩ := h143
            have bM142 := tkx_b (f := gf) (n := gn) (M := M142) (by omega)
            have qM142 := po_eq gn ((suR gf gn 0) (nxF gf gn ((suR gf gn 0) gi).2.2)).2.2 (M138.1 78 5).toInt (psX M138) (M142.1 78 5).toInt (psX M142) (by omega) (by omega) (by omega)
            refine j_goto C 130 dX8_unit_122 (by decide) ?_
            have u145r := un_4 gf gn 0 gi (M0.1 78 5).toInt (M0.1 78 6).toInt (psX M0) (M112.1 78 5).toInt (M112.1 78 6).toInt (psX M112) (M136.1 78 5).toInt (M136.1 78 6).toInt (M138.1 78 5).toInt (M138.1 78 6).toInt (psX M138) (M142.1 78 5).toInt (M142.1 78 6).toInt (psX M142) (by omega) (by omega) (by omega) (by omega) (by omega) (by omega) (by omega) (by omega) (by omega) (by omega) (by omega)
            exact hret _ _ _ dX8_unit_130 ⟨hM142, by omega⟩
          · refine j_iload_n C 0 3 dX8_unit_95 rfl rfl ?_
            refine y_sipush C dX8_unit_96 rfl ?_
            refine y_icmp_ne C 125 dX8_unit_99 (by decide) (by omega) (fun h146 => ?_) (fun h146 => ?_)
            · refine j_aload_n C 2 0 dX8_unit_125 rfl rfl ?_
              refine y_iconst C dX8_unit_126 ?_
              refine j_callVv C (d := 0) (As := [.int (sI 2)]) (st := []) 78 (s_lt rfl rfl) (s_kc (c := 7) rfl rfl) (by decide) rfl (s1_X8_fail hM112 hpr 2 (by omega) gf gn ((suR gf gn 0) gi).2.2 (by omega) (by omega) (by omega)) gX8_unit_X8_fail rfl hdX8_fail (by decide) (Nat.le_of_ble_eq_true rfl) dX8_unit_127 rfl (fun M148 h149 => ?_)
              obtain ⟨hM148, fM148, h150⟩ := h149
              have bM148 := tkx_b (f := gf) (n := gn) (M := M148) (by omega)
              have qM148 := po_f gn ((faQ gf gn 2) ((suR gf gn 0) gi).2.2).2.2 (M148.1 78 5).toInt (psX M148) (by omega)
              have u151r := un_5 gf gn 0 gi (M0.1 78 5).toInt (M0.1 78 6).toInt (psX M0) (M112.1 78 5).toInt (M112.1 78 6).toInt (psX M112) (M148.1 78 5).toInt (M148.1 78 6).toInt (psX M148) (by omega) (by omega) (by omega) (by omega) (fun _ => by omega) (by omega)
              exact hret _ _ _ dX8_unit_130 ⟨hM148, by omega⟩
            · refine j_aload_n C 2 0 dX8_unit_102 rfl rfl ?_
              refine j_dup C dX8_unit_103 rfl ?_
              refine y_getI C 7 _ _ fX8_unit_18 rfl rfl ft_7_2 sb_7_2 hM112 dX8_unit_104 (fun a152 ea152 la152 ua152 => ?_)
              refine y_iconst C dX8_unit_107 ?_
              refine y_iadd C dX8_unit_108 ?_
              refine y_putI C 7 _ _ qX8_unit_18 rfl rfl ft_7_2 sb_7_2 hM112 (PX.w hpr rfl rfl) dX8_unit_109 (by omega) (fun M154 eM154 hM154 => ?_)
              have xM154 := tkx_j (f := gf) (n := gn) (gi := ((suR gf gn 0) gi).2.2) eM154 (by omega) (by omega) (by omega) (by omega)
              refine j_aload_n C 2 0 dX8_unit_112 rfl rfl ?_
              refine j_iload_n C 3 1 dX8_unit_113 rfl rfl ?_
              refine j_callVv C (d := 5) (As := [.int (sI 6)]) (st := []) 78 (s_lt rfl rfl) (s_kc (c := 7) rfl rfl) (by decide) rfl (s2_X8_sum hM154 hpr gf gn (nxF gf gn ((suR gf gn 0) gi).2.2) (by omega) (by omega)) gX8_unit_X8_sum rfl hdX8_sum (by decide) (Nat.le_of_ble_eq_true rfl) dX8_unit_114 rfl (fun M156 h157 => ?_)
              obtain ⟨hM156, h158⟩ := h157
              have bM156 := tkx_b (f := gf) (n := gn) (M := M156) (by omega)
              have qM156 := po_rr (suR gf gn 0) gn (nxF gf gn ((suR gf gn 0) gi).2.2) (M154.1 78 5).toInt (M154.1 78 6).toInt (psX M154) (M156.1 78 5).toInt (M156.1 78 6).toInt (psX M156) (suR_g gf gn 0) (by omega) (by omega)
              refine j_aload_n C 2 0 dX8_unit_117 rfl rfl ?_
              refine j_iload_n C 0 3 dX8_unit_118 rfl rfl ?_
              refine j_callVv C (d := 0) (As := [.int (sI a119)]) (st := []) 78 (s_lt rfl rfl) (s_kc (c := 7) rfl rfl) (by decide) rfl (s1_X8_emit hM156 hpr a119 (by omega) gf gn ((suR gf gn 0) (nxF gf gn ((suR gf gn 0) gi).2.2)).2.2 (by omega) (by omega)) gX8_unit_X8_emit rfl hdX8_emit (by decide) (Nat.le_of_ble_eq_true rfl) dX8_unit_119 rfl (fun M160 h161 => ?_)
              obtain ⟨hM160, h162⟩ := h161
              have bM160 := tkx_b (f := gf) (n := gn) (M := M160) (by omega)
              have qM160 := po_eq gn ((suR gf gn 0) (nxF gf gn ((suR gf gn 0) gi).2.2)).2.2 (M156.1 78 5).toInt (psX M156) (M160.1 78 5).toInt (psX M160) (by omega) (by omega) (by omega)
              refine j_goto C 130 dX8_unit_122 (by decide) ?_
              have u163r := un_4 gf gn 0 gi (M0.1 78 5).toInt (M0.1 78 6).toInt (psX M0) (M112.1 78 5).toInt (M112.1 78 6).toInt (psX M112) (M154.1 78 5).toInt (M154.1 78 6).toInt (M156.1 78 5).toInt (M156.1 78 6).toInt (psX M156) (M160.1 78 5).toInt (M160.1 78 6).toInt (psX M160) (by omega) (by omega) (by omega) (by omega) (by omega) (by omega) (by omega) (by omega) (by omega) (by omega) (by omega)
              exact hret _ _ _ dX8_unit_130 ⟨hM160, by omega⟩
      · refine j_aload_n C 1 0 dX8_unit_49 rfl rfl ?_
        refine j_iload_n C 2 1 dX8_unit_50 rfl rfl ?_
        refine j_callVv C (d := 1) (As := [.int (sI 6)]) (st := []) 78 (s_lt rfl rfl) (s_kc (c := 7) rfl rfl) (by decide) rfl (s7_X8_goDeeper hM0 hpr gf gn gi (by omega) (by omega) (by omega) (by omega) (by omega)) gX8_unit_X8_goDeeper rfl hdX8_goDeeper (by decide) (Nat.le_of_ble_eq_true rfl) dX8_unit_51 rfl (fun M165 h166 => ?_)
        obtain ⟨hM165, fM165, h167⟩ := h166
        have bM165 := tkx_b (f := gf) (n := gn) (M := M165) (by omega)
        have qM165 := po_f gn gi (M165.1 78 5).toInt (psX M165) (by omega)
        refine j_aload_n C 1 0 dX8_unit_54 rfl rfl ?_
        refine j_iload_n C 2 1 dX8_unit_55 rfl rfl ?_
        refine y_iconst C dX8_unit_56 ?_
        refine y_iadd C dX8_unit_57 ?_
        have z168 := (hM165).rd (i := 78) (c := 7) (k := 5) rfl sb_7_5
        refine j_callVv C (d := 2) (As := [.int (sI (6 + 1))]) (st := []) 78 (s_lt rfl rfl) (s_kc (c := 7) rfl rfl) (by decide) rfl (s1_X8_truth hM165 hpr gf gn gi (by omega) (by omega) (by omega)) gX8_unit_X8_truth rfl hdX8_truth (by decide) (Nat.le_of_ble_eq_true rfl) dX8_unit_58 rfl (fun M170 h171 => ?_)
        obtain ⟨hM170, h172⟩ := h171
        have bM170 := tkx_b (f := gf) (n := gn) (M := M170) (by omega)
        have qM170 := po_f gn gi (M170.1 78 5).toInt (psX M170) (by omega)
        refine j_aload_n C 1 0 dX8_unit_61 rfl rfl ?_
        refine y_sipush C dX8_unit_62 rfl ?_
        refine j_callVv C (d := 1) (As := [.int (sI 2093)]) (st := []) 78 (s_lt rfl rfl) (s_kc (c := 7) rfl rfl) (by decide) rfl (s1_X8_expect hM170 hpr 2093 (by omega) gf gn gi (by omega) (by omega) (by omega) (by omega)) gX8_unit_X8_expect rfl hdX8_expect (by decide) (Nat.le_of_ble_eq_true rfl) dX8_unit_65 rfl (fun M174 h175 => ?_)
        obtain ⟨hM174, fM174, h176⟩ := h175
        have bM174 := tkx_b (f := gf) (n := gn) (M := M174) (by omega)
        have qM174 := po_rr (exP gf gn 2093) gn gi (M170.1 78 5).toInt (M170.1 78 6).toInt (psX M170) (M174.1 78 5).toInt (M174.1 78 6).toInt (psX M174) (ex_g gf gn 2093 (by omega)) (by omega) (by omega)
        refine j_goto C 130 dX8_unit_68 (by decide) ?_
        have u177k := rr_k (exP gf gn 2093 gi) (M170.1 78 5).toInt (M170.1 78 6).toInt (M174.1 78 5).toInt (M174.1 78 6).toInt (psX M174) (by omega) (by omega)
        have u177r := un_3 gf gn gi (M0.1 78 5).toInt (M0.1 78 6).toInt (psX M0) (M174.1 78 5).toInt (M174.1 78 6).toInt (psX M174) (by omega) (by omega) (by omega) (by omega) (by omega)
        exact hret _ _ _ dX8_unit_130 ⟨hM174, by omega⟩
    · refine j_aload_n C 1 0 dX8_unit_20 rfl rfl ?_
      refine j_iload_n C 2 1 dX8_unit_21 rfl rfl ?_
      refine j_callVv C (d := 1) (As := [.int (sI 6)]) (st := []) 78 (s_lt rfl rfl) (s_kc (c := 7) rfl rfl) (by decide) rfl (s7_X8_goDeeper hM0 hpr gf gn gi (by omega) (by omega) (by omega) (by omega) (by omega)) gX8_unit_X8_goDeeper rfl hdX8_goDeeper (by decide) (Nat.le_of_ble_eq_true rfl) dX8_unit_22 rfl (fun M179 h180 => ?_)
      obtain ⟨hM179, fM179, h181⟩ := h180
      have bM179 := tkx_b (f := gf) (n := gn) (M := M179) (by omega)
      have qM179 := po_f gn gi (M179.1 78 5).toInt (psX M179) (by omega)
      refine j_aload_n C 1 0 dX8_unit_25 rfl rfl ?_
      refine j_iload_n C 2 1 dX8_unit_26 rfl rfl ?_
      refine y_iconst C dX8_unit_27 ?_
      refine y_iadd C dX8_unit_28 ?_
      have z182 := (hM179).rd (i := 78) (c := 7) (k := 5) rfl sb_7_5
      refine j_callVv C (d := 0) (As := [.int (sI (6 + 1))]) (st := []) 78 (s_lt rfl rfl) (s_kc (c := 7) rfl rfl) (by decide) rfl (s1_X8_unit hM179 hpr gf gn gi (by omega) (by omega) (by omega)) gX8_unit_X8_unit rfl hdX8_unit (by decide) (Nat.le_of_ble_eq_true rfl) dX8_unit_29 rfl (fun M184 h185 => ?_)
      obtain ⟨hM184, h186⟩ := h185
      have bM184 := tkx_b (f := gf) (n := gn) (M := M184) (by omega)
      have qM184 := po_f gn gi (M184.1 78 5).toInt (psX M184) (by omega)
      refine j_aload_n C 1 0 dX8_unit_32 rfl rfl ?_
      refine y_sipush C dX8_unit_33 rfl ?_
      refine j_callVv C (d := 0) (As := [.int (sI 1016)]) (st := []) 78 (s_lt rfl rfl) (s_kc (c := 7) rfl rfl) (by decide) rfl (s1_X8_emit hM184 hpr 1016 (by omega) gf gn gi (by omega) (by omega)) gX8_unit_X8_emit rfl hdX8_emit (by decide) (Nat.le_of_ble_eq_true rfl) dX8_unit_36 rfl (fun M188 h189 => ?_)
      obtain ⟨hM188, h190⟩ := h189
      have bM188 := tkx_b (f := gf) (n := gn) (M := M188) (by omega)
      have qM188 := po_eq gn gi (M184.1 78 5).toInt (psX M184) (M188.1 78 5).toInt (psX M188) (by omega) (by omega) (by omega)
      refine j_goto C 130 dX8_unit_39 (by decide) ?_
      have u191r := un_3 gf gn gi (M0.1 78 5).toInt (M0.1 78 6).toInt (psX M0) (M188.1 78 5).toInt (M188.1 78 6).toInt (psX M188) (by omega) (by omega) (by omega) (by omega) (by omega)
      exact hret _ _ _ dX8_unit_130 ⟨hM188, by omega⟩
  · have u192r := rr_no ((unR gf gn 0) gi) (M0.1 78 5).toInt (M0.1 78 6).toInt (M0.1 78 5).toInt (M0.1 78 6).toInt (psX M0) (by omega) rfl rfl
    exact hret _ _ _ dX8_unit_7 ⟨hM0, by omega⟩
set_option maxHeartbeats 4000000 in
theorem s2_X8_both {l : Launch} {dC : Nat → ClassId} {dI : Nat → Nat → Nat} {ad : Nat → Nat} {cA : Nat → ClassId} {pr : Nat → Nat → Bool} {Kz : mm_M} {M0 : mm_M} (hM0 : INV pr Kz M0) (hpr : PX pr) (gf : Nat → Int) (gn : Int) (gi : Int) (hp0 : b01 (TKX gf gn M0) = 1) (hp1 : b01 (PO gn gi (M0.1 78 5).toInt (psX M0)) = 1) : Cv l 7 yX8_both wsX8_both dC dI ad cA [.ref (ad 78), .int (sI 6)] M0 (fun M' => INV pr Kz M' ∧ (b01 (TKX gf gn M') = 1) ∧ b01 (RR ((boP gf gn (unR gf gn 0)) gi) (M0.1 78 5).toInt (M0.1 78 6).toInt (M'.1 78 5).toInt (M'.1 78 6).toInt (psX M')) = 1) := by
  refine cv_of (cc := cX8_both) (maxL := 3) (lv := [(0, .ref (ad 78)), (1, .int (sI 6))]) (by decide) rfl (Nat.le_of_ble_eq_true rfl) rfl ?_
  intro p e s m args below meth c A Q C hret
  refine j_aload_n C 0 0 dX8_both_0 rfl rfl ?_
  refine j_iload_n C 1 1 dX8_both_1 rfl rfl ?_
  refine j_callVv C (d := 6) (As := [.int (sI 6)]) (st := []) 78 (s_lt rfl rfl) (s_kc (c := 7) rfl rfl) (by decide) rfl (s2_X8_unit hM0 hpr gf gn gi (by omega) (by omega)) gX8_both_X8_unit rfl hdX8_unit (by decide) (Nat.le_of_ble_eq_true rfl) dX8_both_2 rfl (fun M102 h103 => ?_)
  obtain ⟨hM102, h104⟩ := h103
  have bM102 := tkx_b (f := gf) (n := gn) (M := M102) (by omega)
  have qM102 := po_rr (unR gf gn 0) gn gi (M0.1 78 5).toInt (M0.1 78 6).toInt (psX M0) (M102.1 78 5).toInt (M102.1 78 6).toInt (psX M102) (unR_g gf gn 0) (by omega) (by omega)
  refine y_iconst C dX8_both_5 ?_
  have u105l := ll_0 (luP gf gn 1015 1015 (unR gf gn 0)) gn ((unR gf gn 0) gi).2.2 (M102.1 78 5).toInt (M102.1 78 6).toInt (psX M102) (by omega)
  refine j_istore_n C 2 [(2, .int (sI 0)), (0, .ref (ad 78)), (1, .int (sI 6))] dX8_both_6 rfl (by decide) rfl ?_
  have L134 : ∀ (n132 : Nat), ∀ (a135 : Int) (M136 : mm_M) (gq137 : Int), (0 ≤ a135 ∧ a135 ≤ 900 ∧ (b01 (LL (luP gf gn 1015 1015 (unR gf gn 0)) gn ((unR gf gn 0) gi).2.2 gq137 a135 (M102.1 78 5).toInt (M102.1 78 6).toInt (M136.1 78 5).toInt (M136.1 78 6).toInt (psX M136)) = 1) ∧ (b01 (TKX gf gn M136) = 1) ∧ (b01 (PO gn gq137 (M136.1 78 5).toInt (psX M136)) = 1) ∧ (900 - a135) < (n132 : Int)) → INV pr Kz M136 → jj p l e (cn_R 7) s m args below meth c 0 0 Q 3 dC dI ad cA A M136 7 [(0, .ref (ad 78)), (1, .int (sI 6)), (2, .int (sI a135))] [] := by
    intro n132
    induction n132 with
    | zero =>
      intro a135 M136 gq137 h138 hM136
      exfalso; omega
    | succ n132 ih133 =>
      intro a135 M136 gq137 h138 hM136
      have u139b := tkx_b (f := gf) (n := gn) (M := M136) (by omega)
      refine j_iload_n C 2 2 dX8_both_7 rfl rfl ?_
      refine y_sipush C dX8_both_8 rfl ?_
      refine y_icmp_ge C 59 dX8_both_11 (by decide) (by omega) (fun h140 => ?_) (fun h140 => ?_)
      · have u162e := ll_e gf gn 1015 1015 (unR gf gn 0) ((unR gf gn 0) gi).2.2 gq137 a135 (M102.1 78 5).toInt (M102.1 78 6).toInt (M136.1 78 5).toInt (M136.1 78 6).toInt (psX M136) (by decide) (unR_g gf gn 0) (by omega) (by omega)
        have u162r : b01 (RR ((boP gf gn (unR gf gn 0)) gi) (M0.1 78 5).toInt (M0.1 78 6).toInt (M136.1 78 5).toInt (M136.1 78 6).toInt (psX M136)) = 1 := rr_sq ((unR gf gn 0) gi) (luP gf gn 1015 1015 (unR gf gn 0)) (M0.1 78 5).toInt (M0.1 78 6).toInt (M102.1 78 5).toInt (M102.1 78 6).toInt (psX M102) (M136.1 78 5).toInt (M136.1 78 6).toInt (psX M136) (by omega) (by omega)
        exact hret _ _ _ dX8_both_59 ⟨hM136, by omega⟩
      · refine j_aload_n C 0 0 dX8_both_14 rfl rfl ?_
        refine y_getI C 7 _ _ fX8_both_22 rfl rfl ft_7_5 sb_7_5 hM136 dX8_both_15 (fun a141 ea141 la141 ua141 => ?_)
        refine y_if_ne C 59 dX8_both_18 (by decide) (by omega) (fun h143 => ?_) (fun h143 => ?_)
        · have u163e := ll_e gf gn 1015 1015 (unR gf gn 0) ((unR gf gn 0) gi).2.2 gq137 a135 (M102.1 78 5).toInt (M102.1 78 6).toInt (M136.1 78 5).toInt (M136.1 78 6).toInt (psX M136) (by decide) (unR_g gf gn 0) (by omega) (by omega)
          have u163r : b01 (RR ((boP gf gn (unR gf gn 0)) gi) (M0.1 78 5).toInt (M0.1 78 6).toInt (M136.1 78 5).toInt (M136.1 78 6).toInt (psX M136)) = 1 := rr_sq ((unR gf gn 0) gi) (luP gf gn 1015 1015 (unR gf gn 0)) (M0.1 78 5).toInt (M0.1 78 6).toInt (M102.1 78 5).toInt (M102.1 78 6).toInt (psX M102) (M136.1 78 5).toInt (M136.1 78 6).toInt (psX M136) (by omega) (by omega)
          exact hret _ _ _ dX8_both_59 ⟨hM136, by omega⟩
        · refine j_aload_n C 0 0 dX8_both_21 rfl rfl ?_
          refine j_callVi C (d := 0) (As := []) (st := []) 78 (s_lt rfl rfl) (s_kc (c := 7) rfl rfl) (by decide) rfl (s1_X8_token hM136 gf gn gq137 (by omega) (by omega)) gX8_both_X8_token rfl hdX8_token (by decide) (Nat.le_of_ble_eq_true rfl) dX8_both_22 rfl (fun r144 M145 h146 => ?_)
          obtain ⟨a148, rfl, rfl, h147⟩ := h146
          refine y_sipush C dX8_both_25 rfl ?_
          refine y_icmp_ne C 59 dX8_both_28 (by decide) (by omega) (fun h149 => ?_) (fun h149 => ?_)
          · have u164e := ll_e gf gn 1015 1015 (unR gf gn 0) ((unR gf gn 0) gi).2.2 gq137 a135 (M102.1 78 5).toInt (M102.1 78 6).toInt (M136.1 78 5).toInt (M136.1 78 6).toInt (psX M136) (by decide) (unR_g gf gn 0) (by omega) (by omega)
            have u164r : b01 (RR ((boP gf gn (unR gf gn 0)) gi) (M0.1 78 5).toInt (M0.1 78 6).toInt (M136.1 78 5).toInt (M136.1 78 6).toInt (psX M136)) = 1 := rr_sq ((unR gf gn 0) gi) (luP gf gn 1015 1015 (unR gf gn 0)) (M0.1 78 5).toInt (M0.1 78 6).toInt (M102.1 78 5).toInt (M102.1 78 6).toInt (psX M102) (M136.1 78 5).toInt (M136.1 78 6).toInt (psX M136) (by omega) (by omega)
            exact hret _ _ _ dX8_both_59 ⟨hM136, by omega⟩
          · refine j_aload_n C 0 0 dX8_both_31 rfl rfl ?_
            refine j_dup C dX8_both_32 rfl ?_
            refine y_getI C 7 _ _ fX8_both_18 rfl rfl ft_7_2 sb_7_2 hM136 dX8_both_33 (fun a150 ea150 la150 ua150 => ?_)
            refine y_iconst C dX8_both_36 ?_
            refine y_iadd C dX8_both_37 ?_
            refine y_putI C 7 _ _ qX8_both_18 rfl rfl ft_7_2 sb_7_2 hM136 (PX.w hpr rfl rfl) dX8_both_38 (by omega) (fun M152 eM152 hM152 => ?_)
            have xM152 := tkx_j (f := gf) (n := gn) (gi := gq137) eM152 (by omega) (by omega) (by omega) (by omega)
            refine j_aload_n C 0 0 dX8_both_41 rfl rfl ?_
            refine j_iload_n C 1 1 dX8_both_42 rfl rfl ?_
            refine j_callVv C (d := 6) (As := [.int (sI 6)]) (st := []) 78 (s_lt rfl rfl) (s_kc (c := 7) rfl rfl) (by decide) rfl (s2_X8_unit hM152 hpr gf gn (nxF gf gn gq137) (by omega) (by omega)) gX8_both_X8_unit rfl hdX8_unit (by decide) (Nat.le_of_ble_eq_true rfl) dX8_both_43 rfl (fun M154 h155 => ?_)
            obtain ⟨hM154, h156⟩ := h155
            have bM154 := tkx_b (f := gf) (n := gn) (M := M154) (by omega)
            have qM154 := po_rr (unR gf gn 0) gn (nxF gf gn gq137) (M152.1 78 5).toInt (M152.1 78 6).toInt (psX M152) (M154.1 78 5).toInt (M154.1 78 6).toInt (psX M154) (unR_g gf gn 0) (by omega) (by omega)
            refine j_aload_n C 0 0 dX8_both_46 rfl rfl ?_
            refine y_sipush C dX8_both_47 rfl ?_
            refine j_callVv C (d := 0) (As := [.int (sI 1015)]) (st := []) 78 (s_lt rfl rfl) (s_kc (c := 7) rfl rfl) (by decide) rfl (s1_X8_emit hM154 hpr 1015 (by omega) gf gn ((unR gf gn 0) (nxF gf gn gq137)).2.2 (by omega) (by omega)) gX8_both_X8_emit rfl hdX8_emit (by decide) (Nat.le_of_ble_eq_true rfl) dX8_both_50 rfl (fun M158 h159 => ?_)
            obtain ⟨hM158, h160⟩ := h159
            have bM158 := tkx_b (f := gf) (n := gn) (M := M158) (by omega)
            have qM158 := po_eq gn ((unR gf gn 0) (nxF gf gn gq137)).2.2 (M154.1 78 5).toInt (psX M154) (M158.1 78 5).toInt (psX M158) (by omega) (by omega) (by omega)
            refine y_iinc C 2 [(2, .int (sI (a135 + 1))), (0, .ref (ad 78)), (1, .int (sI 6))] dX8_both_53 rfl (by decide) rfl ?_
            have u161s := ll_s gf gn 1015 1015 (unR gf gn 0) ((unR gf gn 0) gi).2.2 gq137 a135 (M102.1 78 5).toInt (M102.1 78 6).toInt (M136.1 78 5).toInt (M136.1 78 6).toInt (psX M136) (M152.1 78 5).toInt (M152.1 78 6).toInt (M154.1 78 5).toInt (M154.1 78 6).toInt (psX M154) (M158.1 78 5).toInt (M158.1 78 6).toInt (psX M158) (by decide) (unR_g gf gn 0) (by omega) (by omega) (by omega) (by omega) (by omega) (by omega) (by omega) (by omega) (by omega)
            refine j_goto C 7 dX8_both_56 (by decide) ?_
            refine j_lv [1, 2, 0] rfl ?_; exact ih133 (a135 + 1) M158 ((unR gf gn 0) (nxF gf gn gq137)).2.2 (by omega) hM158
  refine j_lv [1, 2, 0] rfl ?_; exact L134 2010 0 M102 ((unR gf gn 0) gi).2.2 (by omega) hM102
set_option maxHeartbeats 4000000 in
theorem s2_X8_truth {l : Launch} {dC : Nat → ClassId} {dI : Nat → Nat → Nat} {ad : Nat → Nat} {cA : Nat → ClassId} {pr : Nat → Nat → Bool} {Kz : mm_M} {M0 : mm_M} (hM0 : INV pr Kz M0) (hpr : PX pr) (gf : Nat → Int) (gn : Int) (gi : Int) (hp0 : b01 (TKX gf gn M0) = 1) (hp1 : b01 (PO gn gi (M0.1 78 5).toInt (psX M0)) = 1) : Cv l 8 yX8_truth wsX8_truth dC dI ad cA [.ref (ad 78), .int (sI 6)] M0 (fun M' => INV pr Kz M' ∧ (b01 (TKX gf gn M') = 1) ∧ b01 (RR ((trP gf gn (unR gf gn 0)) gi) (M0.1 78 5).toInt (M0.1 78 6).toInt (M'.1 78 5).toInt (M'.1 78 6).toInt (psX M')) = 1) := by
  refine cv_of (cc := cX8_truth) (maxL := 3) (lv := [(0, .ref (ad 78)), (1, .int (sI 6))]) (by decide) rfl (Nat.le_of_ble_eq_true rfl) rfl ?_
  intro p e s m args below meth c A Q C hret
  refine j_aload_n C 0 0 dX8_truth_0 rfl rfl ?_
  refine j_iload_n C 1 1 dX8_truth_1 rfl rfl ?_
  refine j_callVv C (d := 7) (As := [.int (sI 6)]) (st := []) 78 (s_lt rfl rfl) (s_kc (c := 7) rfl rfl) (by decide) rfl (s2_X8_both hM0 hpr gf gn gi (by omega) (by omega)) gX8_truth_X8_both rfl hdX8_both (by decide) (Nat.le_of_ble_eq_true rfl) dX8_truth_2 rfl (fun M102 h103 => ?_)
  obtain ⟨hM102, h104⟩ := h103
  have bM102 := tkx_b (f := gf) (n := gn) (M := M102) (by omega)
  have qM102 := po_rr (boP gf gn (unR gf gn 0)) gn gi (M0.1 78 5).toInt (M0.1 78 6).toInt (psX M0) (M102.1 78 5).toInt (M102.1 78 6).toInt (psX M102) (bo_g gf gn (unR_g gf gn 0)) (by omega) (by omega)
  refine y_iconst C dX8_truth_5 ?_
  have u105l := ll_0 (luP gf gn 1014 1014 (boP gf gn (unR gf gn 0))) gn ((boP gf gn (unR gf gn 0)) gi).2.2 (M102.1 78 5).toInt (M102.1 78 6).toInt (psX M102) (by omega)
  refine j_istore_n C 2 [(2, .int (sI 0)), (0, .ref (ad 78)), (1, .int (sI 6))] dX8_truth_6 rfl (by decide) rfl ?_
  have L134 : ∀ (n132 : Nat), ∀ (a135 : Int) (M136 : mm_M) (gq137 : Int), (0 ≤ a135 ∧ a135 ≤ 900 ∧ (b01 (LL (luP gf gn 1014 1014 (boP gf gn (unR gf gn 0))) gn ((boP gf gn (unR gf gn 0)) gi).2.2 gq137 a135 (M102.1 78 5).toInt (M102.1 78 6).toInt (M136.1 78 5).toInt (M136.1 78 6).toInt (psX M136)) = 1) ∧ (b01 (TKX gf gn M136) = 1) ∧ (b01 (PO gn gq137 (M136.1 78 5).toInt (psX M136)) = 1) ∧ (900 - a135) < (n132 : Int)) → INV pr Kz M136 → jj p l e (cn_R 8) s m args below meth c 0 0 Q 3 dC dI ad cA A M136 7 [(0, .ref (ad 78)), (1, .int (sI 6)), (2, .int (sI a135))] [] := by
    intro n132
    induction n132 with
    | zero =>
      intro a135 M136 gq137 h138 hM136
      exfalso; omega
    | succ n132 ih133 =>
      intro a135 M136 gq137 h138 hM136
      have u139b := tkx_b (f := gf) (n := gn) (M := M136) (by omega)
      refine j_iload_n C 2 2 dX8_truth_7 rfl rfl ?_
      refine y_sipush C dX8_truth_8 rfl ?_
      refine y_icmp_ge C 59 dX8_truth_11 (by decide) (by omega) (fun h140 => ?_) (fun h140 => ?_)
      · have u162e := ll_e gf gn 1014 1014 (boP gf gn (unR gf gn 0)) ((boP gf gn (unR gf gn 0)) gi).2.2 gq137 a135 (M102.1 78 5).toInt (M102.1 78 6).toInt (M136.1 78 5).toInt (M136.1 78 6).toInt (psX M136) (by decide) (bo_g gf gn (unR_g gf gn 0)) (by omega) (by omega)
        have u162r : b01 (RR ((trP gf gn (unR gf gn 0)) gi) (M0.1 78 5).toInt (M0.1 78 6).toInt (M136.1 78 5).toInt (M136.1 78 6).toInt (psX M136)) = 1 := rr_sq ((boP gf gn (unR gf gn 0)) gi) (luP gf gn 1014 1014 (boP gf gn (unR gf gn 0))) (M0.1 78 5).toInt (M0.1 78 6).toInt (M102.1 78 5).toInt (M102.1 78 6).toInt (psX M102) (M136.1 78 5).toInt (M136.1 78 6).toInt (psX M136) (by omega) (by omega)
        exact hret _ _ _ dX8_truth_59 ⟨hM136, by omega⟩
      · refine j_aload_n C 0 0 dX8_truth_14 rfl rfl ?_
        refine y_getI C 7 _ _ fX8_truth_22 rfl rfl ft_7_5 sb_7_5 hM136 dX8_truth_15 (fun a141 ea141 la141 ua141 => ?_)
        refine y_if_ne C 59 dX8_truth_18 (by decide) (by omega) (fun h143 => ?_) (fun h143 => ?_)
        · have u163e := ll_e gf gn 1014 1014 (boP gf gn (unR gf gn 0)) ((boP gf gn (unR gf gn 0)) gi).2.2 gq137 a135 (M102.1 78 5).toInt (M102.1 78 6).toInt (M136.1 78 5).toInt (M136.1 78 6).toInt (psX M136) (by decide) (bo_g gf gn (unR_g gf gn 0)) (by omega) (by omega)
          have u163r : b01 (RR ((trP gf gn (unR gf gn 0)) gi) (M0.1 78 5).toInt (M0.1 78 6).toInt (M136.1 78 5).toInt (M136.1 78 6).toInt (psX M136)) = 1 := rr_sq ((boP gf gn (unR gf gn 0)) gi) (luP gf gn 1014 1014 (boP gf gn (unR gf gn 0))) (M0.1 78 5).toInt (M0.1 78 6).toInt (M102.1 78 5).toInt (M102.1 78 6).toInt (psX M102) (M136.1 78 5).toInt (M136.1 78 6).toInt (psX M136) (by omega) (by omega)
          exact hret _ _ _ dX8_truth_59 ⟨hM136, by omega⟩
        · refine j_aload_n C 0 0 dX8_truth_21 rfl rfl ?_
          refine j_callVi C (d := 0) (As := []) (st := []) 78 (s_lt rfl rfl) (s_kc (c := 7) rfl rfl) (by decide) rfl (s1_X8_token hM136 gf gn gq137 (by omega) (by omega)) gX8_truth_X8_token rfl hdX8_token (by decide) (Nat.le_of_ble_eq_true rfl) dX8_truth_22 rfl (fun r144 M145 h146 => ?_)
          obtain ⟨a148, rfl, rfl, h147⟩ := h146
          refine y_sipush C dX8_truth_25 rfl ?_
          refine y_icmp_ne C 59 dX8_truth_28 (by decide) (by omega) (fun h149 => ?_) (fun h149 => ?_)
          · have u164e := ll_e gf gn 1014 1014 (boP gf gn (unR gf gn 0)) ((boP gf gn (unR gf gn 0)) gi).2.2 gq137 a135 (M102.1 78 5).toInt (M102.1 78 6).toInt (M136.1 78 5).toInt (M136.1 78 6).toInt (psX M136) (by decide) (bo_g gf gn (unR_g gf gn 0)) (by omega) (by omega)
            have u164r : b01 (RR ((trP gf gn (unR gf gn 0)) gi) (M0.1 78 5).toInt (M0.1 78 6).toInt (M136.1 78 5).toInt (M136.1 78 6).toInt (psX M136)) = 1 := rr_sq ((boP gf gn (unR gf gn 0)) gi) (luP gf gn 1014 1014 (boP gf gn (unR gf gn 0))) (M0.1 78 5).toInt (M0.1 78 6).toInt (M102.1 78 5).toInt (M102.1 78 6).toInt (psX M102) (M136.1 78 5).toInt (M136.1 78 6).toInt (psX M136) (by omega) (by omega)
            exact hret _ _ _ dX8_truth_59 ⟨hM136, by omega⟩
          · refine j_aload_n C 0 0 dX8_truth_31 rfl rfl ?_
            refine j_dup C dX8_truth_32 rfl ?_
            refine y_getI C 7 _ _ fX8_truth_18 rfl rfl ft_7_2 sb_7_2 hM136 dX8_truth_33 (fun a150 ea150 la150 ua150 => ?_)
            refine y_iconst C dX8_truth_36 ?_
            refine y_iadd C dX8_truth_37 ?_
            refine y_putI C 7 _ _ qX8_truth_18 rfl rfl ft_7_2 sb_7_2 hM136 (PX.w hpr rfl rfl) dX8_truth_38 (by omega) (fun M152 eM152 hM152 => ?_)
            have xM152 := tkx_j (f := gf) (n := gn) (gi := gq137) eM152 (by omega) (by omega) (by omega) (by omega)
            refine j_aload_n C 0 0 dX8_truth_41 rfl rfl ?_
            refine j_iload_n C 1 1 dX8_truth_42 rfl rfl ?_
            refine j_callVv C (d := 7) (As := [.int (sI 6)]) (st := []) 78 (s_lt rfl rfl) (s_kc (c := 7) rfl rfl) (by decide) rfl (s2_X8_both hM152 hpr gf gn (nxF gf gn gq137) (by omega) (by omega)) gX8_truth_X8_both rfl hdX8_both (by decide) (Nat.le_of_ble_eq_true rfl) dX8_truth_43 rfl (fun M154 h155 => ?_)
            obtain ⟨hM154, h156⟩ := h155
            have bM154 := tkx_b (f := gf) (n := gn) (M := M154) (by omega)
            have qM154 := po_rr (boP gf gn (unR gf gn 0)) gn (nxF gf gn gq137) (M152.1 78 5).toInt (M152.1 78 6).toInt (psX M152) (M154.1 78 5).toInt (M154.1 78 6).toInt (psX M154) (bo_g gf gn (unR_g gf gn 0)) (by omega) (by omega)
            refine j_aload_n C 0 0 dX8_truth_46 rfl rfl ?_
            refine y_sipush C dX8_truth_47 rfl ?_
            refine j_callVv C (d := 0) (As := [.int (sI 1014)]) (st := []) 78 (s_lt rfl rfl) (s_kc (c := 7) rfl rfl) (by decide) rfl (s1_X8_emit hM154 hpr 1014 (by omega) gf gn ((boP gf gn (unR gf gn 0)) (nxF gf gn gq137)).2.2 (by omega) (by omega)) gX8_truth_X8_emit rfl hdX8_emit (by decide) (Nat.le_of_ble_eq_true rfl) dX8_truth_50 rfl (fun M158 h159 => ?_)
            obtain ⟨hM158, h160⟩ := h159
            have bM158 := tkx_b (f := gf) (n := gn) (M := M158) (by omega)
            have qM158 := po_eq gn ((boP gf gn (unR gf gn 0)) (nxF gf gn gq137)).2.2 (M154.1 78 5).toInt (psX M154) (M158.1 78 5).toInt (psX M158) (by omega) (by omega) (by omega)
            refine y_iinc C 2 [(2, .int (sI (a135 + 1))), (0, .ref (ad 78)), (1, .int (sI 6))] dX8_truth_53 rfl (by decide) rfl ?_
            have u161s := ll_s gf gn 1014 1014 (boP gf gn (unR gf gn 0)) ((boP gf gn (unR gf gn 0)) gi).2.2 gq137 a135 (M102.1 78 5).toInt (M102.1 78 6).toInt (M136.1 78 5).toInt (M136.1 78 6).toInt (psX M136) (M152.1 78 5).toInt (M152.1 78 6).toInt (M154.1 78 5).toInt (M154.1 78 6).toInt (psX M154) (M158.1 78 5).toInt (M158.1 78 6).toInt (psX M158) (by decide) (bo_g gf gn (unR_g gf gn 0)) (by omega) (by omega) (by omega) (by omega) (by omega) (by omega) (by omega) (by omega) (by omega)
            refine j_goto C 7 dX8_truth_56 (by decide) ?_
            refine j_lv [1, 2, 0] rfl ?_; exact ih133 (a135 + 1) M158 ((boP gf gn (unR gf gn 0)) (nxF gf gn gq137)).2.2 (by omega) hM158
  refine j_lv [1, 2, 0] rfl ?_; exact L134 2010 0 M102 ((boP gf gn (unR gf gn 0)) gi).2.2 (by omega) hM102
set_option maxHeartbeats 4000000 in
theorem s3_X8_unit {l : Launch} {dC : Nat → ClassId} {dI : Nat → Nat → Nat} {ad : Nat → Nat} {cA : Nat → ClassId} {pr : Nat → Nat → Bool} {Kz : mm_M} {M0 : mm_M} (hM0 : INV pr Kz M0) (hpr : PX pr) (gf : Nat → Int) (gn : Int) (gi : Int) (hp0 : b01 (TKX gf gn M0) = 1) (hp1 : b01 (PO gn gi (M0.1 78 5).toInt (psX M0)) = 1) : Cv l 9 yX8_unit wsX8_unit dC dI ad cA [.ref (ad 78), .int (sI 5)] M0 (fun M' => INV pr Kz M' ∧ (b01 (TKX gf gn M') = 1) ∧ b01 (RR ((unR gf gn 1) gi) (M0.1 78 5).toInt (M0.1 78 6).toInt (M'.1 78 5).toInt (M'.1 78 6).toInt (psX M')) = 1) := by
  refine cv_of (cc := cX8_unit) (maxL := 4) (lv := [(0, .ref (ad 78)), (1, .int (sI 5))]) (by decide) rfl (Nat.le_of_ble_eq_true rfl) rfl ?_
  intro p e s m args below meth c A Q C hret
  refine j_aload_n C 0 0 dX8_unit_0 rfl rfl ?_
  refine y_getI C 7 _ _ fX8_unit_22 rfl rfl ft_7_5 sb_7_5 hM0 dX8_unit_1 (fun a101 ea101 la101 ua101 => ?_)
  refine y_if_eq C 8 dX8_unit_4 (by decide) (by omega) (fun h103 => ?_) (fun h103 => ?_)
  · refine j_aload_n C 0 0 dX8_unit_8 rfl rfl ?_
    refine j_callVi C (d := 0) (As := []) (st := []) 78 (s_lt rfl rfl) (s_kc (c := 7) rfl rfl) (by decide) rfl (s1_X8_token hM0 gf gn gi (by omega) (by omega)) gX8_unit_X8_token rfl hdX8_token (by decide) (Nat.le_of_ble_eq_true rfl) dX8_unit_9 rfl (fun r104 M105 h106 => ?_)
    obtain ⟨a108, rfl, rfl, h107⟩ := h106
    refine j_istore_n C 2 [(2, .int (sI a108)), (0, .ref (ad 78)), (1, .int (sI 5))] dX8_unit_12 rfl (by decide) rfl ?_
    refine j_iload_n C 0 2 dX8_unit_13 rfl rfl ?_
    refine y_sipush C dX8_unit_14 rfl ?_
    refine y_icmp_ne C 42 dX8_unit_17 (by decide) (by omega) (fun h109 => ?_) (fun h109 => ?_)
    · refine j_iload_n C 0 2 dX8_unit_42 rfl rfl ?_
      refine y_sipush C dX8_unit_43 rfl ?_
      refine y_icmp_ne C 71 dX8_unit_46 (by decide) (by omega) (fun h110 => ?_) (fun h110 => ?_)
      · refine j_aload_n C 1 0 dX8_unit_71 rfl rfl ?_
        refine j_iload_n C 2 1 dX8_unit_72 rfl rfl ?_
        refine j_callVv C (d := 8) (As := [.int (sI 5)]) (st := []) 78 (s_lt rfl rfl) (s_kc (c := 7) rfl rfl) (by decide) rfl (s3_X8_sum hM0 hpr gf gn gi (by omega) (by omega)) gX8_unit_X8_sum rfl hdX8_sum (by decide) (Nat.le_of_ble_eq_true rfl) dX8_unit_73 rfl (fun M112 h113 => ?_)
        obtain ⟨hM112, h114⟩ := h113
        have bM112 := tkx_b (f := gf) (n := gn) (M := M112) (by omega)
        have qM112 := po_rr (suR gf gn 1) gn gi (M0.1 78 5).toInt (M0.1 78 6).toInt (psX M0) (M112.1 78 5).toInt (M112.1 78 6).toInt (psX M112) (suR_g gf gn 1) (by omega) (by omega)
        refine j_aload_n C 1 0 dX8_unit_76 rfl rfl ?_
        refine j_callVi C (d := 0) (As := []) (st := []) 78 (s_lt rfl rfl) (s_kc (c := 7) rfl rfl) (by decide) rfl (s1_X8_token hM112 gf gn ((suR gf gn 1) gi).2.2 (by omega) (by omega)) gX8_unit_X8_token rfl hdX8_token (by decide) (Nat.le_of_ble_eq_true rfl) dX8_unit_77 rfl (fun r115 M116 h117 => ?_)
        obtain ⟨a119, rfl, rfl, h118⟩ := h117
        refine j_istore_n C 3 [(3, .int (sI a119)), (2, .int (sI a108)), (0, .ref (ad 78)), (1, .int (sI 5))] dX8_unit_80 rfl (by decide) rfl ?_
        refine j_iload_n C 0 3 dX8_unit_81 rfl rfl ?_
        refine y_sipush C dX8_unit_82 rfl ?_
        refine y_icmp_eq C 102 dX8_unit_85 (by decide) (by omega) (fun h120 => ?_) (fun h120 => ?_)
        · refine j_aload_n C 2 0 dX8_unit_102 rfl rfl ?_
          refine j_dup C dX8_unit_103 rfl ?_
          refine y_getI C 7 _ _ fX8_unit_18 rfl rfl ft_7_2 sb_7_2 hM112 dX8_unit_104 (fun a121 ea121 la121 ua121 => ?_)
          refine y_iconst C dX8_unit_107 ?_
          refine y_iadd C dX8_unit_108 ?_
          refine y_putI C 7 _ _ qX8_unit_18 rfl rfl ft_7_2 sb_7_2 hM112 (PX.w hpr rfl rfl) dX8_unit_109 (by omega) (fun M123 eM123 hM123 => ?_)
          have xM123 := tkx_j (f := gf) (n := gn) (gi := ((suR gf gn 1) gi).2.2) eM123 (by omega) (by omega) (by omega) (by omega)
          refine j_aload_n C 2 0 dX8_unit_112 rfl rfl ?_
          refine j_iload_n C 3 1 dX8_unit_113 rfl rfl ?_
          refine j_callVv C (d := 8) (As := [.int (sI 5)]) (st := []) 78 (s_lt rfl rfl) (s_kc (c := 7) rfl rfl) (by decide) rfl (s3_X8_sum hM123 hpr gf gn (nxF gf gn ((suR gf gn 1) gi).2.2) (by omega) (by omega)) gX8_unit_X8_sum rfl hdX8_sum (by decide) (Nat.le_of_ble_eq_true rfl) dX8_unit_114 rfl (fun M125 h126 => ?_)
          obtain ⟨hM125, h127⟩ := h126
          have bM125 := tkx_b (f := gf) (n := gn) (M := M125) (by omega)
          have qM125 := po_rr (suR gf gn 1) gn (nxF gf gn ((suR gf gn 1) gi).2.2) (M123.1 78 5).toInt (M123.1 78 6).toInt (psX M123) (M125.1 78 5).toInt (M125.1 78 6).toInt (psX M125) (suR_g gf gn 1) (by omega) (by omega)
          refine j_aload_n C 2 0 dX8_unit_117 rfl rfl ?_
          refine j_iload_n C 0 3 dX8_unit_118 rfl rfl ?_
          refine j_callVv C (d := 0) (As := [.int (sI a119)]) (st := []) 78 (s_lt rfl rfl) (s_kc (c := 7) rfl rfl) (by decide) rfl (s1_X8_emit hM125 hpr a119 (by omega) gf gn ((suR gf gn 1) (nxF gf gn ((suR gf gn 1) gi).2.2)).2.2 (by omega) (by omega)) gX8_unit_X8_emit rfl hdX8_emit (by decide) (Nat.le_of_ble_eq_true rfl) dX8_unit_119 rfl (fun M129 h130 => ?_)
          obtain ⟨hM129, h131⟩ := h130
          have bM129 := tkx_b (f := gf) (n := gn) (M := M129) (by omega)
          have qM129 := po_eq gn ((suR gf gn 1) (nxF gf gn ((suR gf gn 1) gi).2.2)).2.2 (M125.1 78 5).toInt (psX M125) (M129.1 78 5).toInt (psX M129) (by omega) (by omega) (by omega)
          refine j_goto C 130 dX8_unit_122 (by decide) ?_
          have u132r := un_4 gf gn 1 gi (M0.1 78 5).toInt (M0.1 78 6).toInt (psX M0) (M112.1 78 5).toInt (M112.1 78 6).toInt (psX M112) (M123.1 78 5).toInt (M123.1 78 6).toInt (M125.1 78 5).toInt (M125.1 78 6).toInt (psX M125) (M129.1 78 5).toInt (M129.1 78 6).toInt (psX M129) (by omega) (by omega) (by omega) (by omega) (by omega) (by omega) (by omega) (by omega) (by omega) (by omega) (by omega)
          exact hret _ _ _ dX8_unit_130 ⟨hM129, by omega⟩
        · refine j_iload_n C 0 3 dX8_unit_88 rfl rfl ?_
          refine y_sipush C dX8_unit_89 rfl ?_
          refine y_icmp_eq C 102 dX8_unit_92 (by decide) (by omega) (fun h133 => ?_) (fun h133 => ?_)
          · refine j_aload_n C 2 0 dX8_unit_102 rfl rfl ?_
            refine j_dup C dX8_unit_103 rfl ?_
            refine y_getI C 7 _ _ fX8_unit_18 rfl rfl ft_7_2 sb_7_2 hM112 dX8_unit_104 (fun a134 ea134 la134 ua134 => ?_)
            refine y_iconst C dX8_unit_107 ?_
            refine y_iadd C dX8_unit_108 ?_
            refine y_putI C 7 _ _ qX8_unit_18 rfl rfl ft_7_2 sb_7_2 hM112 (PX.w hpr rfl rfl) dX8_unit_109 (by omega) (fun M136 eM136 hM136 => ?_)
            have xM136 := tkx_j (f := gf) (n := gn) (gi := ((suR gf gn 1) gi).2.2) eM136 (by omega) (by omega) (by omega) (by omega)
            refine j_aload_n C 2 0 dX8_unit_112 rfl rfl ?_
            refine j_iload_n C 3 1 dX8_unit_113 rfl rfl ?_
            refine j_callVv C (d := 8) (As := [.int (sI 5)]) (st := []) 78 (s_lt rfl rfl) (s_kc (c := 7) rfl rfl) (by decide) rfl (s3_X8_sum hM136 hpr gf gn (nxF gf gn ((suR gf gn 1) gi).2.2) (by omega) (by omega)) gX8_unit_X8_sum rfl hdX8_sum (by decide) (Nat.le_of_ble_eq_true rfl) dX8_unit_114 rfl (fun M138 h139 => ?_)
            obtain ⟨hM138, h140⟩ := h139
            have bM138 := tkx_b (f := gf) (n := gn) (M := M138) (by omega)
            have qM138 := po_rr (suR gf gn 1) gn (nxF gf gn ((suR gf gn 1) gi).2.2) (M136.1 78 5).toInt (M136.1 78 6).toInt (psX M136) (M138.1 78 5).toInt (M138.1 78 6).toInt (psX M138) (suR_g gf gn 1) (by omega) (by omega)
            refine j_aload_n C 2 0 dX8_unit_117 rfl rfl ?_
            refine j_iload_n C 0 3 dX8_unit_118 rfl rfl ?_
            refine j_callVv C (d := 0) (As := [.int (sI a119)]) (st := []) 78 (s_lt rfl rfl) (s_kc (c := 7) rfl rfl) (by decide) rfl (s1_X8_emit hM138 hpr a119 (by omega) gf gn ((suR gf gn 1) (nxF gf gn ((suR gf gn 1) gi).2.2)).2.2 (by omega) (by omega)) gX8_unit_X8_emit rfl hdX8_emit (by decide) (Nat.le_of_ble_eq_true rfl) dX8_unit_119 rfl (fun M142 h143 => ?_)
            obtain ⟨hM142, h144⟩ := h143
            have bM142 := tkx_b (f := gf) (n := gn) (M := M142) (by omega)
            have qM142 := po_eq gn ((suR gf gn 1) (nxF gf gn ((suR gf gn 1) gi).2.2)).2.2 (M138.1 78 5).toInt (psX M138) (M142.1 78 5).toInt (psX M142) (by omega) (by omega) (by omega)
            refine j_goto C 130 dX8_unit_122 (by decide) ?_
            have u145r := un_4 gf gn 1 gi (M0.1 78 5).toInt (M0.1 78 6).toInt (psX M0) (M112.1 78 5).toInt (M112.1 78 6).toInt (psX M112) (M136.1 78 5).toInt (M136.1 78 6).toInt (M138.1 78 5).toInt (M138.1 78 6).toInt (psX M138) (M142.1 78 5).toInt (M142.1 78 6).toInt (psX M142) (by omega) (by omega) (by omega) (by omega) (by omega) (by omega) (by omega) (by omega) (by omega) (by omega) (by omega)
            exact hret _ _ _ dX8_unit_130 ⟨hM142, by omega⟩
          · refine j_iload_n C 0 3 dX8_unit_95 rfl rfl ?_
            refine y_sipush C dX8_unit_96 rfl ?_
            refine y_icmp_ne C 125 dX8_unit_99 (by decide) (by omega) (fun h146 => ?_) (fun h146 => ?_)
            · refine j_aload_n C 2 0 dX8_unit_125 rfl rfl ?_
              refine y_iconst C dX8_unit_126 ?_
              refine j_callVv C (d := 0) (As := [.int (sI 2)]) (st := []) 78 (s_lt rfl rfl) (s_kc (c := 7) rfl rfl) (by decide) rfl (s1_X8_fail hM112 hpr 2 (by omega) gf gn ((suR gf gn 1) gi).2.2 (by omega) (by omega) (by omega)) gX8_unit_X8_fail rfl hdX8_fail (by decide) (Nat.le_of_ble_eq_true rfl) dX8_unit_127 rfl (fun M148 h149 => ?_)
              obtain ⟨hM148, fM148, h150⟩ := h149
              have bM148 := tkx_b (f := gf) (n := gn) (M := M148) (by omega)
              have qM148 := po_f gn ((faQ gf gn 2) ((suR gf gn 1) gi).2.2).2.2 (M148.1 78 5).toInt (psX M148) (by omega)
              have u151r := un_5 gf gn 1 gi (M0.1 78 5).toInt (M0.1 78 6).toInt (psX M0) (M112.1 78 5).toInt (M112.1 78 6).toInt (psX M112) (M148.1 78 5).toInt (M148.1 78 6).toInt (psX M148) (by omega) (by omega) (by omega) (by omega) (fun _ => by omega) (by omega)
              exact hret _ _ _ dX8_unit_130 ⟨hM148, by omega⟩
            · refine j_aload_n C 2 0 dX8_unit_102 rfl rfl ?_
              refine j_dup C dX8_unit_103 rfl ?_
              refine y_getI C 7 _ _ fX8_unit_18 rfl rfl ft_7_2 sb_7_2 hM112 dX8_unit_104 (fun a152 ea152 la152 ua152 => ?_)
              refine y_iconst C dX8_unit_107 ?_
              refine y_iadd C dX8_unit_108 ?_
              refine y_putI C 7 _ _ qX8_unit_18 rfl rfl ft_7_2 sb_7_2 hM112 (PX.w hpr rfl rfl) dX8_unit_109 (by omega) (fun M154 eM154 hM154 => ?_)
              have xM154 := tkx_j (f := gf) (n := gn) (gi := ((suR gf gn 1) gi).2.2) eM154 (by omega) (by omega) (by omega) (by omega)
              refine j_aload_n C 2 0 dX8_unit_112 rfl rfl ?_
              refine j_iload_n C 3 1 dX8_unit_113 rfl rfl ?_
              refine j_callVv C (d := 8) (As := [.int (sI 5)]) (st := []) 78 (s_lt rfl rfl) (s_kc (c := 7) rfl rfl) (by decide) rfl (s3_X8_sum hM154 hpr gf gn (nxF gf gn ((suR gf gn 1) gi).2.2) (by omega) (by omega)) gX8_unit_X8_sum rfl hdX8_sum (by decide) (Nat.le_of_ble_eq_true rfl) dX8_unit_114 rfl (fun M156 h157 => ?_)
              obtain ⟨hM156, h158⟩ := h157
              have bM156 := tkx_b (f := gf) (n := gn) (M := M156) (by omega)
              have qM156 := po_rr (suR gf gn 1) gn (nxF gf gn ((suR gf gn 1) gi).2.2) (M154.1 78 5).toInt (M154.1 78 6).toInt (psX M154) (M156.1 78 5).toInt (M156.1 78 6).toInt (psX M156) (suR_g gf gn 1) (by omega) (by omega)
              refine j_aload_n C 2 0 dX8_unit_117 rfl rfl ?_
              refine j_iload_n C 0 3 dX8_unit_118 rfl rfl ?_
              refine j_callVv C (d := 0) (As := [.int (sI a119)]) (st := []) 78 (s_lt rfl rfl) (s_kc (c := 7) rfl rfl) (by decide) rfl (s1_X8_emit hM156 hpr a119 (by omega) gf gn ((suR gf gn 1) (nxF gf gn ((suR gf gn 1) gi).2.2)).2.2 (by omega) (by omega)) gX8_unit_X8_emit rfl hdX8_emit (by decide) (Nat.le_of_ble_eq_true rfl) dX8_unit_119 rfl (fun M160 h161 => ?_)
              obtain ⟨hM160, h162⟩ := h161
              have bM160 := tkx_b (f := gf) (n := gn) (M := M160) (by omega)
              have qM160 := po_eq gn ((suR gf gn 1) (nxF gf gn ((suR gf gn 1) gi).2.2)).2.2 (M156.1 78 5).toInt (psX M156) (M160.1 78 5).toInt (psX M160) (by omega) (by omega) (by omega)
              refine j_goto C 130 dX8_unit_122 (by decide) ?_
              have u163r := un_4 gf gn 1 gi (M0.1 78 5).toInt (M0.1 78 6).toInt (psX M0) (M112.1 78 5).toInt (M112.1 78 6).toInt (psX M112) (M154.1 78 5).toInt (M154.1 78 6).toInt (M156.1 78 5).toInt (M156.1 78 6).toInt (psX M156) (M160.1 78 5).toInt (M160.1 78 6).toInt (psX M160) (by omega) (by omega) (by omega) (by omega) (by omega) (by omega) (by omega) (by omega) (by omega) (by omega) (by omega)
              exact hret _ _ _ dX8_unit_130 ⟨hM160, by omega⟩
      · refine j_aload_n C 1 0 dX8_unit_49 rfl rfl ?_
        refine j_iload_n C 2 1 dX8_unit_50 rfl rfl ?_
        refine j_callVv C (d := 0) (As := [.int (sI 5)]) (st := []) 78 (s_lt rfl rfl) (s_kc (c := 7) rfl rfl) (by decide) rfl (s6_X8_goDeeper hM0 hpr gf gn gi (by omega) (by omega) (by omega) (by omega) (by omega)) gX8_unit_X8_goDeeper rfl hdX8_goDeeper (by decide) (Nat.le_of_ble_eq_true rfl) dX8_unit_51 rfl (fun M165 h166 => ?_)
        obtain ⟨hM165, fM165, h167⟩ := h166
        have bM165 := tkx_b (f := gf) (n := gn) (M := M165) (by omega)
        refine j_aload_n C 1 0 dX8_unit_54 rfl rfl ?_
        refine j_iload_n C 2 1 dX8_unit_55 rfl rfl ?_
        refine y_iconst C dX8_unit_56 ?_
        refine y_iadd C dX8_unit_57 ?_
        refine j_callVv C (d := 8) (As := [.int (sI (5 + 1))]) (st := []) 78 (s_lt rfl rfl) (s_kc (c := 7) rfl rfl) (by decide) rfl (s2_X8_truth hM165 hpr gf gn (nxF gf gn gi) (by omega) (by omega)) gX8_unit_X8_truth rfl hdX8_truth (by decide) (Nat.le_of_ble_eq_true rfl) dX8_unit_58 rfl (fun M169 h170 => ?_)
        obtain ⟨hM169, h171⟩ := h170
        have bM169 := tkx_b (f := gf) (n := gn) (M := M169) (by omega)
        have qM169 := po_rr (trP gf gn (unR gf gn 0)) gn (nxF gf gn gi) (M165.1 78 5).toInt (M165.1 78 6).toInt (psX M165) (M169.1 78 5).toInt (M169.1 78 6).toInt (psX M169) (tr_g gf gn (unR_g gf gn 0)) (by omega) (by omega)
        refine j_aload_n C 1 0 dX8_unit_61 rfl rfl ?_
        refine y_sipush C dX8_unit_62 rfl ?_
        refine j_callVv C (d := 1) (As := [.int (sI 2093)]) (st := []) 78 (s_lt rfl rfl) (s_kc (c := 7) rfl rfl) (by decide) rfl (s1_X8_expect hM169 hpr 2093 (by omega) gf gn ((trP gf gn (unR gf gn 0)) (nxF gf gn gi)).2.2 (by omega) (by omega) (by omega) (by omega)) gX8_unit_X8_expect rfl hdX8_expect (by decide) (Nat.le_of_ble_eq_true rfl) dX8_unit_65 rfl (fun M173 h174 => ?_)
        obtain ⟨hM173, fM173, h175⟩ := h174
        have bM173 := tkx_b (f := gf) (n := gn) (M := M173) (by omega)
        have qM173 := po_rr (exP gf gn 2093) gn ((trP gf gn (unR gf gn 0)) (nxF gf gn gi)).2.2 (M169.1 78 5).toInt (M169.1 78 6).toInt (psX M169) (M173.1 78 5).toInt (M173.1 78 6).toInt (psX M173) (ex_g gf gn 2093 (by omega)) (by omega) (by omega)
        refine j_goto C 130 dX8_unit_68 (by decide) ?_
        have u176r := un_2 gf gn 0 1 rfl gi (M0.1 78 5).toInt (M0.1 78 6).toInt (psX M0) (M165.1 78 5).toInt (M165.1 78 6).toInt (M169.1 78 5).toInt (M169.1 78 6).toInt (psX M169) (M173.1 78 5).toInt (M173.1 78 6).toInt (psX M173) (by omega) (by omega) (by omega) (by omega) (by omega) (by omega)
        exact hret _ _ _ dX8_unit_130 ⟨hM173, by omega⟩
    · refine j_aload_n C 1 0 dX8_unit_20 rfl rfl ?_
      refine j_iload_n C 2 1 dX8_unit_21 rfl rfl ?_
      refine j_callVv C (d := 0) (As := [.int (sI 5)]) (st := []) 78 (s_lt rfl rfl) (s_kc (c := 7) rfl rfl) (by decide) rfl (s6_X8_goDeeper hM0 hpr gf gn gi (by omega) (by omega) (by omega) (by omega) (by omega)) gX8_unit_X8_goDeeper rfl hdX8_goDeeper (by decide) (Nat.le_of_ble_eq_true rfl) dX8_unit_22 rfl (fun M178 h179 => ?_)
      obtain ⟨hM178, fM178, h180⟩ := h179
      have bM178 := tkx_b (f := gf) (n := gn) (M := M178) (by omega)
      refine j_aload_n C 1 0 dX8_unit_25 rfl rfl ?_
      refine j_iload_n C 2 1 dX8_unit_26 rfl rfl ?_
      refine y_iconst C dX8_unit_27 ?_
      refine y_iadd C dX8_unit_28 ?_
      refine j_callVv C (d := 6) (As := [.int (sI (5 + 1))]) (st := []) 78 (s_lt rfl rfl) (s_kc (c := 7) rfl rfl) (by decide) rfl (s2_X8_unit hM178 hpr gf gn (nxF gf gn gi) (by omega) (by omega)) gX8_unit_X8_unit rfl hdX8_unit (by decide) (Nat.le_of_ble_eq_true rfl) dX8_unit_29 rfl (fun M182 h183 => ?_)
      obtain ⟨hM182, h184⟩ := h183
      have bM182 := tkx_b (f := gf) (n := gn) (M := M182) (by omega)
      have qM182 := po_rr (unR gf gn 0) gn (nxF gf gn gi) (M178.1 78 5).toInt (M178.1 78 6).toInt (psX M178) (M182.1 78 5).toInt (M182.1 78 6).toInt (psX M182) (unR_g gf gn 0) (by omega) (by omega)
      refine j_aload_n C 1 0 dX8_unit_32 rfl rfl ?_
      refine y_sipush C dX8_unit_33 rfl ?_
      refine j_callVv C (d := 0) (As := [.int (sI 1016)]) (st := []) 78 (s_lt rfl rfl) (s_kc (c := 7) rfl rfl) (by decide) rfl (s1_X8_emit hM182 hpr 1016 (by omega) gf gn ((unR gf gn 0) (nxF gf gn gi)).2.2 (by omega) (by omega)) gX8_unit_X8_emit rfl hdX8_emit (by decide) (Nat.le_of_ble_eq_true rfl) dX8_unit_36 rfl (fun M186 h187 => ?_)
      obtain ⟨hM186, h188⟩ := h187
      have bM186 := tkx_b (f := gf) (n := gn) (M := M186) (by omega)
      have qM186 := po_eq gn ((unR gf gn 0) (nxF gf gn gi)).2.2 (M182.1 78 5).toInt (psX M182) (M186.1 78 5).toInt (psX M186) (by omega) (by omega) (by omega)
      refine j_goto C 130 dX8_unit_39 (by decide) ?_
      have u189r := un_1 gf gn 0 1 rfl gi (M0.1 78 5).toInt (M0.1 78 6).toInt (psX M0) (M178.1 78 5).toInt (M178.1 78 6).toInt (M182.1 78 5).toInt (M182.1 78 6).toInt (psX M182) (M186.1 78 5).toInt (M186.1 78 6).toInt (psX M186) (by omega) (by omega) (by omega) (by omega) (by omega) (by omega) (by omega) (by omega)
      exact hret _ _ _ dX8_unit_130 ⟨hM186, by omega⟩
  · have u190r := rr_no ((unR gf gn 1) gi) (M0.1 78 5).toInt (M0.1 78 6).toInt (M0.1 78 5).toInt (M0.1 78 6).toInt (psX M0) (by omega) rfl rfl
    exact hret _ _ _ dX8_unit_7 ⟨hM0, by omega⟩
set_option maxHeartbeats 4000000 in
theorem s3_X8_both {l : Launch} {dC : Nat → ClassId} {dI : Nat → Nat → Nat} {ad : Nat → Nat} {cA : Nat → ClassId} {pr : Nat → Nat → Bool} {Kz : mm_M} {M0 : mm_M} (hM0 : INV pr Kz M0) (hpr : PX pr) (gf : Nat → Int) (gn : Int) (gi : Int) (hp0 : b01 (TKX gf gn M0) = 1) (hp1 : b01 (PO gn gi (M0.1 78 5).toInt (psX M0)) = 1) : Cv l 10 yX8_both wsX8_both dC dI ad cA [.ref (ad 78), .int (sI 5)] M0 (fun M' => INV pr Kz M' ∧ (b01 (TKX gf gn M') = 1) ∧ b01 (RR ((boP gf gn (unR gf gn 1)) gi) (M0.1 78 5).toInt (M0.1 78 6).toInt (M'.1 78 5).toInt (M'.1 78 6).toInt (psX M')) = 1) := by
  refine cv_of (cc := cX8_both) (maxL := 3) (lv := [(0, .ref (ad 78)), (1, .int (sI 5))]) (by decide) rfl (Nat.le_of_ble_eq_true rfl) rfl ?_
  intro p e s m args below meth c A Q C hret
  refine j_aload_n C 0 0 dX8_both_0 rfl rfl ?_
  refine j_iload_n C 1 1 dX8_both_1 rfl rfl ?_
  refine j_callVv C (d := 9) (As := [.int (sI 5)]) (st := []) 78 (s_lt rfl rfl) (s_kc (c := 7) rfl rfl) (by decide) rfl (s3_X8_unit hM0 hpr gf gn gi (by omega) (by omega)) gX8_both_X8_unit rfl hdX8_unit (by decide) (Nat.le_of_ble_eq_true rfl) dX8_both_2 rfl (fun M102 h103 => ?_)
  obtain ⟨hM102, h104⟩ := h103
  have bM102 := tkx_b (f := gf) (n := gn) (M := M102) (by omega)
  have qM102 := po_rr (unR gf gn 1) gn gi (M0.1 78 5).toInt (M0.1 78 6).toInt (psX M0) (M102.1 78 5).toInt (M102.1 78 6).toInt (psX M102) (unR_g gf gn 1) (by omega) (by omega)
  refine y_iconst C dX8_both_5 ?_
  have u105l := ll_0 (luP gf gn 1015 1015 (unR gf gn 1)) gn ((unR gf gn 1) gi).2.2 (M102.1 78 5).toInt (M102.1 78 6).toInt (psX M102) (by omega)
  refine j_istore_n C 2 [(2, .int (sI 0)), (0, .ref (ad 78)), (1, .int (sI 5))] dX8_both_6 rfl (by decide) rfl ?_
  have L134 : ∀ (n132 : Nat), ∀ (a135 : Int) (M136 : mm_M) (gq137 : Int), (0 ≤ a135 ∧ a135 ≤ 900 ∧ (b01 (LL (luP gf gn 1015 1015 (unR gf gn 1)) gn ((unR gf gn 1) gi).2.2 gq137 a135 (M102.1 78 5).toInt (M102.1 78 6).toInt (M136.1 78 5).toInt (M136.1 78 6).toInt (psX M136)) = 1) ∧ (b01 (TKX gf gn M136) = 1) ∧ (b01 (PO gn gq137 (M136.1 78 5).toInt (psX M136)) = 1) ∧ (900 - a135) < (n132 : Int)) → INV pr Kz M136 → jj p l e (cn_R 10) s m args below meth c 0 0 Q 3 dC dI ad cA A M136 7 [(0, .ref (ad 78)), (1, .int (sI 5)), (2, .int (sI a135))] [] := by
    intro n132
    induction n132 with
    | zero =>
      intro a135 M136 gq137 h138 hM136
      exfalso; omega
    | succ n132 ih133 =>
      intro a135 M136 gq137 h138 hM136
      have u139b := tkx_b (f := gf) (n := gn) (M := M136) (by omega)
      refine j_iload_n C 2 2 dX8_both_7 rfl rfl ?_
      refine y_sipush C dX8_both_8 rfl ?_
      refine y_icmp_ge C 59 dX8_both_11 (by decide) (by omega) (fun h140 => ?_) (fun h140 => ?_)
      · have u162e := ll_e gf gn 1015 1015 (unR gf gn 1) ((unR gf gn 1) gi).2.2 gq137 a135 (M102.1 78 5).toInt (M102.1 78 6).toInt (M136.1 78 5).toInt (M136.1 78 6).toInt (psX M136) (by decide) (unR_g gf gn 1) (by omega) (by omega)
        have u162r : b01 (RR ((boP gf gn (unR gf gn 1)) gi) (M0.1 78 5).toInt (M0.1 78 6).toInt (M136.1 78 5).toInt (M136.1 78 6).toInt (psX M136)) = 1 := rr_sq ((unR gf gn 1) gi) (luP gf gn 1015 1015 (unR gf gn 1)) (M0.1 78 5).toInt (M0.1 78 6).toInt (M102.1 78 5).toInt (M102.1 78 6).toInt (psX M102) (M136.1 78 5).toInt (M136.1 78 6).toInt (psX M136) (by omega) (by omega)
        exact hret _ _ _ dX8_both_59 ⟨hM136, by omega⟩
      · refine j_aload_n C 0 0 dX8_both_14 rfl rfl ?_
        refine y_getI C 7 _ _ fX8_both_22 rfl rfl ft_7_5 sb_7_5 hM136 dX8_both_15 (fun a141 ea141 la141 ua141 => ?_)
        refine y_if_ne C 59 dX8_both_18 (by decide) (by omega) (fun h143 => ?_) (fun h143 => ?_)
        · have u163e := ll_e gf gn 1015 1015 (unR gf gn 1) ((unR gf gn 1) gi).2.2 gq137 a135 (M102.1 78 5).toInt (M102.1 78 6).toInt (M136.1 78 5).toInt (M136.1 78 6).toInt (psX M136) (by decide) (unR_g gf gn 1) (by omega) (by omega)
          have u163r : b01 (RR ((boP gf gn (unR gf gn 1)) gi) (M0.1 78 5).toInt (M0.1 78 6).toInt (M136.1 78 5).toInt (M136.1 78 6).toInt (psX M136)) = 1 := rr_sq ((unR gf gn 1) gi) (luP gf gn 1015 1015 (unR gf gn 1)) (M0.1 78 5).toInt (M0.1 78 6).toInt (M102.1 78 5).toInt (M102.1 78 6).toInt (psX M102) (M136.1 78 5).toInt (M136.1 78 6).toInt (psX M136) (by omega) (by omega)
          exact hret _ _ _ dX8_both_59 ⟨hM136, by omega⟩
        · refine j_aload_n C 0 0 dX8_both_21 rfl rfl ?_
          refine j_callVi C (d := 0) (As := []) (st := []) 78 (s_lt rfl rfl) (s_kc (c := 7) rfl rfl) (by decide) rfl (s1_X8_token hM136 gf gn gq137 (by omega) (by omega)) gX8_both_X8_token rfl hdX8_token (by decide) (Nat.le_of_ble_eq_true rfl) dX8_both_22 rfl (fun r144 M145 h146 => ?_)
          obtain ⟨a148, rfl, rfl, h147⟩ := h146
          refine y_sipush C dX8_both_25 rfl ?_
          refine y_icmp_ne C 59 dX8_both_28 (by decide) (by omega) (fun h149 => ?_) (fun h149 => ?_)
          · have u164e := ll_e gf gn 1015 1015 (unR gf gn 1) ((unR gf gn 1) gi).2.2 gq137 a135 (M102.1 78 5).toInt (M102.1 78 6).toInt (M136.1 78 5).toInt (M136.1 78 6).toInt (psX M136) (by decide) (unR_g gf gn 1) (by omega) (by omega)
            have u164r : b01 (RR ((boP gf gn (unR gf gn 1)) gi) (M0.1 78 5).toInt (M0.1 78 6).toInt (M136.1 78 5).toInt (M136.1 78 6).toInt (psX M136)) = 1 := rr_sq ((unR gf gn 1) gi) (luP gf gn 1015 1015 (unR gf gn 1)) (M0.1 78 5).toInt (M0.1 78 6).toInt (M102.1 78 5).toInt (M102.1 78 6).toInt (psX M102) (M136.1 78 5).toInt (M136.1 78 6).toInt (psX M136) (by omega) (by omega)
            exact hret _ _ _ dX8_both_59 ⟨hM136, by omega⟩
          · refine j_aload_n C 0 0 dX8_both_31 rfl rfl ?_
            refine j_dup C dX8_both_32 rfl ?_
            refine y_getI C 7 _ _ fX8_both_18 rfl rfl ft_7_2 sb_7_2 hM136 dX8_both_33 (fun a150 ea150 la150 ua150 => ?_)
            refine y_iconst C dX8_both_36 ?_
            refine y_iadd C dX8_both_37 ?_
            refine y_putI C 7 _ _ qX8_both_18 rfl rfl ft_7_2 sb_7_2 hM136 (PX.w hpr rfl rfl) dX8_both_38 (by omega) (fun M152 eM152 hM152 => ?_)
            have xM152 := tkx_j (f := gf) (n := gn) (gi := gq137) eM152 (by omega) (by omega) (by omega) (by omega)
            refine j_aload_n C 0 0 dX8_both_41 rfl rfl ?_
            refine j_iload_n C 1 1 dX8_both_42 rfl rfl ?_
            refine j_callVv C (d := 9) (As := [.int (sI 5)]) (st := []) 78 (s_lt rfl rfl) (s_kc (c := 7) rfl rfl) (by decide) rfl (s3_X8_unit hM152 hpr gf gn (nxF gf gn gq137) (by omega) (by omega)) gX8_both_X8_unit rfl hdX8_unit (by decide) (Nat.le_of_ble_eq_true rfl) dX8_both_43 rfl (fun M154 h155 => ?_)
            obtain ⟨hM154, h156⟩ := h155
            have bM154 := tkx_b (f := gf) (n := gn) (M := M154) (by omega)
            have qM154 := po_rr (unR gf gn 1) gn (nxF gf gn gq137) (M152.1 78 5).toInt (M152.1 78 6).toInt (psX M152) (M154.1 78 5).toInt (M154.1 78 6).toInt (psX M154) (unR_g gf gn 1) (by omega) (by omega)
            refine j_aload_n C 0 0 dX8_both_46 rfl rfl ?_
            refine y_sipush C dX8_both_47 rfl ?_
            refine j_callVv C (d := 0) (As := [.int (sI 1015)]) (st := []) 78 (s_lt rfl rfl) (s_kc (c := 7) rfl rfl) (by decide) rfl (s1_X8_emit hM154 hpr 1015 (by omega) gf gn ((unR gf gn 1) (nxF gf gn gq137)).2.2 (by omega) (by omega)) gX8_both_X8_emit rfl hdX8_emit (by decide) (Nat.le_of_ble_eq_true rfl) dX8_both_50 rfl (fun M158 h159 => ?_)
            obtain ⟨hM158, h160⟩ := h159
            have bM158 := tkx_b (f := gf) (n := gn) (M := M158) (by omega)
            have qM158 := po_eq gn ((unR gf gn 1) (nxF gf gn gq137)).2.2 (M154.1 78 5).toInt (psX M154) (M158.1 78 5).toInt (psX M158) (by omega) (by omega) (by omega)
            refine y_iinc C 2 [(2, .int (sI (a135 + 1))), (0, .ref (ad 78)), (1, .int (sI 5))] dX8_both_53 rfl (by decide) rfl ?_
            have u161s := ll_s gf gn 1015 1015 (unR gf gn 1) ((unR gf gn 1) gi).2.2 gq137 a135 (M102.1 78 5).toInt (M102.1 78 6).toInt (M136.1 78 5).toInt (M136.1 78 6).toInt (psX M136) (M152.1 78 5).toInt (M152.1 78 6).toInt (M154.1 78 5).toInt (M154.1 78 6).toInt (psX M154) (M158.1 78 5).toInt (M158.1 78 6).toInt (psX M158) (by decide) (unR_g gf gn 1) (by omega) (by omega) (by omega) (by omega) (by omega) (by omega) (by omega) (by omega) (by omega)
            refine j_goto C 7 dX8_both_56 (by decide) ?_
            refine j_lv [1, 2, 0] rfl ?_; exact ih133 (a135 + 1) M158 ((unR gf gn 1) (nxF gf gn gq137)).2.2 (by omega) hM158
  refine j_lv [1, 2, 0] rfl ?_; exact L134 2010 0 M102 ((unR gf gn 1) gi).2.2 (by omega) hM102
set_option maxHeartbeats 4000000 in
theorem s3_X8_truth {l : Launch} {dC : Nat → ClassId} {dI : Nat → Nat → Nat} {ad : Nat → Nat} {cA : Nat → ClassId} {pr : Nat → Nat → Bool} {Kz : mm_M} {M0 : mm_M} (hM0 : INV pr Kz M0) (hpr : PX pr) (gf : Nat → Int) (gn : Int) (gi : Int) (hp0 : b01 (TKX gf gn M0) = 1) (hp1 : b01 (PO gn gi (M0.1 78 5).toInt (psX M0)) = 1) : Cv l 11 yX8_truth wsX8_truth dC dI ad cA [.ref (ad 78), .int (sI 5)] M0 (fun M' => INV pr Kz M' ∧ (b01 (TKX gf gn M') = 1) ∧ b01 (RR ((trP gf gn (unR gf gn 1)) gi) (M0.1 78 5).toInt (M0.1 78 6).toInt (M'.1 78 5).toInt (M'.1 78 6).toInt (psX M')) = 1) := by
  refine cv_of (cc := cX8_truth) (maxL := 3) (lv := [(0, .ref (ad 78)), (1, .int (sI 5))]) (by decide) rfl (Nat.le_of_ble_eq_true rfl) rfl ?_
  intro p e s m args below meth c A Q C hret
  refine j_aload_n C 0 0 dX8_truth_0 rfl rfl ?_
  refine j_iload_n C 1 1 dX8_truth_1 rfl rfl ?_
  refine j_callVv C (d := 10) (As := [.int (sI 5)]) (st := []) 78 (s_lt rfl rfl) (s_kc (c := 7) rfl rfl) (by decide) rfl (s3_X8_both hM0 hpr gf gn gi (by omega) (by omega)) gX8_truth_X8_both rfl hdX8_both (by decide) (Nat.le_of_ble_eq_true rfl) dX8_truth_2 rfl (fun M102 h103 => ?_)
  obtain ⟨hM102, h104⟩ := h103
  have bM102 := tkx_b (f := gf) (n := gn) (M := M102) (by omega)
  have qM102 := po_rr (boP gf gn (unR gf gn 1)) gn gi (M0.1 78 5).toInt (M0.1 78 6).toInt (psX M0) (M102.1 78 5).toInt (M102.1 78 6).toInt (psX M102) (bo_g gf gn (unR_g gf gn 1)) (by omega) (by omega)
  refine y_iconst C dX8_truth_5 ?_
  have u105l := ll_0 (luP gf gn 1014 1014 (boP gf gn (unR gf gn 1))) gn ((boP gf gn (unR gf gn 1)) gi).2.2 (M102.1 78 5).toInt (M102.1 78 6).toInt (psX M102) (by omega)
  refine j_istore_n C 2 [(2, .int (sI 0)), (0, .ref (ad 78)), (1, .int (sI 5))] dX8_truth_6 rfl (by decide) rfl ?_
  have L134 : ∀ (n132 : Nat), ∀ (a135 : Int) (M136 : mm_M) (gq137 : Int), (0 ≤ a135 ∧ a135 ≤ 900 ∧ (b01 (LL (luP gf gn 1014 1014 (boP gf gn (unR gf gn 1))) gn ((boP gf gn (unR gf gn 1)) gi).2.2 gq137 a135 (M102.1 78 5).toInt (M102.1 78 6).toInt (M136.1 78 5).toInt (M136.1 78 6).toInt (psX M136)) = 1) ∧ (b01 (TKX gf gn M136) = 1) ∧ (b01 (PO gn gq137 (M136.1 78 5).toInt (psX M136)) = 1) ∧ (900 - a135) < (n132 : Int)) → INV pr Kz M136 → jj p l e (cn_R 11) s m args below meth c 0 0 Q 3 dC dI ad cA A M136 7 [(0, .ref (ad 78)), (1, .int (sI 5)), (2, .int (sI a135))] [] := by
    intro n132
    induction n132 with
    | zero =>
      intro a135 M136 gq137 h138 hM136
      exfalso; omega
    | succ n132 ih133 =>
      intro a135 M136 gq137 h138 hM136
      have u139b := tkx_b (f := gf) (n := gn) (M := M136) (by omega)
      refine j_iload_n C 2 2 dX8_truth_7 rfl rfl ?_
      refine y_sipush C dX8_truth_8 rfl ?_
      refine y_icmp_ge C 59 dX8_truth_11 (by decide) (by omega) (fun h140 => ?_) (fun h140 => ?_)
      · have u162e := ll_e gf gn 1014 1014 (boP gf gn (unR gf gn 1)) ((boP gf gn (unR gf gn 1)) gi).2.2 gq137 a135 (M102.1 78 5).toInt (M102.1 78 6).toInt (M136.1 78 5).toInt (M136.1 78 6).toInt (psX M136) (by decide) (bo_g gf gn (unR_g gf gn 1)) (by omega) (by omega)
        have u162r : b01 (RR ((trP gf gn (unR gf gn 1)) gi) (M0.1 78 5).toInt (M0.1 78 6).toInt (M136.1 78 5).toInt (M136.1 78 6).toInt (psX M136)) = 1 := rr_sq ((boP gf gn (unR gf gn 1)) gi) (luP gf gn 1014 1014 (boP gf gn (unR gf gn 1))) (M0.1 78 5).toInt (M0.1 78 6).toInt (M102.1 78 5).toInt (M102.1 78 6).toInt (psX M102) (M136.1 78 5).toInt (M136.1 78 6).toInt (psX M136) (by omega) (by omega)
        exact hret _ _ _ dX8_truth_59 ⟨hM136, by omega⟩
      · refine j_aload_n C 0 0 dX8_truth_14 rfl rfl ?_
        refine y_getI C 7 _ _ fX8_truth_22 rfl rfl ft_7_5 sb_7_5 hM136 dX8_truth_15 (fun a141 ea141 la141 ua141 => ?_)
        refine y_if_ne C 59 dX8_truth_18 (by decide) (by omega) (fun h143 => ?_) (fun h143 => ?_)
        · have u163e := ll_e gf gn 1014 1014 (boP gf gn (unR gf gn 1)) ((boP gf gn (unR gf gn 1)) gi).2.2 gq137 a135 (M102.1 78 5).toInt (M102.1 78 6).toInt (M136.1 78 5).toInt (M136.1 78 6).toInt (psX M136) (by decide) (bo_g gf gn (unR_g gf gn 1)) (by omega) (by omega)
          have u163r : b01 (RR ((trP gf gn (unR gf gn 1)) gi) (M0.1 78 5).toInt (M0.1 78 6).toInt (M136.1 78 5).toInt (M136.1 78 6).toInt (psX M136)) = 1 := rr_sq ((boP gf gn (unR gf gn 1)) gi) (luP gf gn 1014 1014 (boP gf gn (unR gf gn 1))) (M0.1 78 5).toInt (M0.1 78 6).toInt (M102.1 78 5).toInt (M102.1 78 6).toInt (psX M102) (M136.1 78 5).toInt (M136.1 78 6).toInt (psX M136) (by omega) (by omega)
          exact hret _ _ _ dX8_truth_59 ⟨hM136, by omega⟩
        · refine j_aload_n C 0 0 dX8_truth_21 rfl rfl ?_
          refine j_callVi C (d := 0) (As := []) (st := []) 78 (s_lt rfl rfl) (s_kc (c := 7) rfl rfl) (by decide) rfl (s1_X8_token hM136 gf gn gq137 (by omega) (by omega)) gX8_truth_X8_token rfl hdX8_token (by decide) (Nat.le_of_ble_eq_true rfl) dX8_truth_22 rfl (fun r144 M145 h146 => ?_)
          obtain ⟨a148, rfl, rfl, h147⟩ := h146
          refine y_sipush C dX8_truth_25 rfl ?_
          refine y_icmp_ne C 59 dX8_truth_28 (by decide) (by omega) (fun h149 => ?_) (fun h149 => ?_)
          · have u164e := ll_e gf gn 1014 1014 (boP gf gn (unR gf gn 1)) ((boP gf gn (unR gf gn 1)) gi).2.2 gq137 a135 (M102.1 78 5).toInt (M102.1 78 6).toInt (M136.1 78 5).toInt (M136.1 78 6).toInt (psX M136) (by decide) (bo_g gf gn (unR_g gf gn 1)) (by omega) (by omega)
            have u164r : b01 (RR ((trP gf gn (unR gf gn 1)) gi) (M0.1 78 5).toInt (M0.1 78 6).toInt (M136.1 78 5).toInt (M136.1 78 6).toInt (psX M136)) = 1 := rr_sq ((boP gf gn (unR gf gn 1)) gi) (luP gf gn 1014 1014 (boP gf gn (unR gf gn 1))) (M0.1 78 5).toInt (M0.1 78 6).toInt (M102.1 78 5).toInt (M102.1 78 6).toInt (psX M102) (M136.1 78 5).toInt (M136.1 78 6).toInt (psX M136) (by omega) (by omega)
            exact hret _ _ _ dX8_truth_59 ⟨hM136, by omega⟩
          · refine j_aload_n C 0 0 dX8_truth_31 rfl rfl ?_
            refine j_dup C dX8_truth_32 rfl ?_
            refine y_getI C 7 _ _ fX8_truth_18 rfl rfl ft_7_2 sb_7_2 hM136 dX8_truth_33 (fun a150 ea150 la150 ua150 => ?_)
            refine y_iconst C dX8_truth_36 ?_
            refine y_iadd C dX8_truth_37 ?_
            refine y_putI C 7 _ _ qX8_truth_18 rfl rfl ft_7_2 sb_7_2 hM136 (PX.w hpr rfl rfl) dX8_truth_38 (by omega) (fun M152 eM152 hM152 => ?_)
            have xM152 := tkx_j (f := gf) (n := gn) (gi := gq137) eM152 (by omega) (by omega) (by omega) (by omega)
            refine j_aload_n C 0 0 dX8_truth_41 rfl rfl ?_
            refine j_iload_n C 1 1 dX8_truth_42 rfl rfl ?_
            refine j_callVv C (d := 10) (As := [.int (sI 5)]) (st := []) 78 (s_lt rfl rfl) (s_kc (c := 7) rfl rfl) (by decide) rfl (s3_X8_both hM152 hpr gf gn (nxF gf gn gq137) (by omega) (by omega)) gX8_truth_X8_both rfl hdX8_both (by decide) (Nat.le_of_ble_eq_true rfl) dX8_truth_43 rfl (fun M154 h155 => ?_)
            obtain ⟨hM154, h156⟩ := h155
            have bM154 := tkx_b (f := gf) (n := gn) (M := M154) (by omega)
            have qM154 := po_rr (boP gf gn (unR gf gn 1)) gn (nxF gf gn gq137) (M152.1 78 5).toInt (M152.1 78 6).toInt (psX M152) (M154.1 78 5).toInt (M154.1 78 6).toInt (psX M154) (bo_g gf gn (unR_g gf gn 1)) (by omega) (by omega)
            refine j_aload_n C 0 0 dX8_truth_46 rfl rfl ?_
            refine y_sipush C dX8_truth_47 rfl ?_
            refine j_callVv C (d := 0) (As := [.int (sI 1014)]) (st := []) 78 (s_lt rfl rfl) (s_kc (c := 7) rfl rfl) (by decide) rfl (s1_X8_emit hM154 hpr 1014 (by omega) gf gn ((boP gf gn (unR gf gn 1)) (nxF gf gn gq137)).2.2 (by omega) (by omega)) gX8_truth_X8_emit rfl hdX8_emit (by decide) (Nat.le_of_ble_eq_true rfl) dX8_truth_50 rfl (fun M158 h159 => ?_)
            obtain ⟨hM158, h160⟩ := h159
            have bM158 := tkx_b (f := gf) (n := gn) (M := M158) (by omega)
            have qM158 := po_eq gn ((boP gf gn (unR gf gn 1)) (nxF gf gn gq137)).2.2 (M154.1 78 5).toInt (psX M154) (M158.1 78 5).toInt (psX M158) (by omega) (by omega) (by omega)
            refine y_iinc C 2 [(2, .int (sI (a135 + 1))), (0, .ref (ad 78)), (1, .int (sI 5))] dX8_truth_53 rfl (by decide) rfl ?_
            have u161s := ll_s gf gn 1014 1014 (boP gf gn (unR gf gn 1)) ((boP gf gn (unR gf gn 1)) gi).2.2 gq137 a135 (M102.1 78 5).toInt (M102.1 78 6).toInt (M136.1 78 5).toInt (M136.1 78 6).toInt (psX M136) (M152.1 78 5).toInt (M152.1 78 6).toInt (M154.1 78 5).toInt (M154.1 78 6).toInt (psX M154) (M158.1 78 5).toInt (M158.1 78 6).toInt (psX M158) (by decide) (bo_g gf gn (unR_g gf gn 1)) (by omega) (by omega) (by omega) (by omega) (by omega) (by omega) (by omega) (by omega) (by omega)
            refine j_goto C 7 dX8_truth_56 (by decide) ?_
            refine j_lv [1, 2, 0] rfl ?_; exact ih133 (a135 + 1) M158 ((boP gf gn (unR gf gn 1)) (nxF gf gn gq137)).2.2 (by omega) hM158
  refine j_lv [1, 2, 0] rfl ?_; exact L134 2010 0 M102 ((boP gf gn (unR gf gn 1)) gi).2.2 (by omega) hM102
set_option maxHeartbeats 4000000 in
theorem s4_X8_unit {l : Launch} {dC : Nat → ClassId} {dI : Nat → Nat → Nat} {ad : Nat → Nat} {cA : Nat → ClassId} {pr : Nat → Nat → Bool} {Kz : mm_M} {M0 : mm_M} (hM0 : INV pr Kz M0) (hpr : PX pr) (gf : Nat → Int) (gn : Int) (gi : Int) (hp0 : b01 (TKX gf gn M0) = 1) (hp1 : b01 (PO gn gi (M0.1 78 5).toInt (psX M0)) = 1) : Cv l 12 yX8_unit wsX8_unit dC dI ad cA [.ref (ad 78), .int (sI 4)] M0 (fun M' => INV pr Kz M' ∧ (b01 (TKX gf gn M') = 1) ∧ b01 (RR ((unR gf gn 2) gi) (M0.1 78 5).toInt (M0.1 78 6).toInt (M'.1 78 5).toInt (M'.1 78 6).toInt (psX M')) = 1) := by
  refine cv_of (cc := cX8_unit) (maxL := 4) (lv := [(0, .ref (ad 78)), (1, .int (sI 4))]) (by decide) rfl (Nat.le_of_ble_eq_true rfl) rfl ?_
  intro p e s m args below meth c A Q C hret
  refine j_aload_n C 0 0 dX8_unit_0 rfl rfl ?_
  refine y_getI C 7 _ _ fX8_unit_22 rfl rfl ft_7_5 sb_7_5 hM0 dX8_unit_1 (fun a101 ea101 la101 ua101 => ?_)
  refine y_if_eq C 8 dX8_unit_4 (by decide) (by omega) (fun h103 => ?_) (fun h103 => ?_)
  · refine j_aload_n C 0 0 dX8_unit_8 rfl rfl ?_
    refine j_callVi C (d := 0) (As := []) (st := []) 78 (s_lt rfl rfl) (s_kc (c := 7) rfl rfl) (by decide) rfl (s1_X8_token hM0 gf gn gi (by omega) (by omega)) gX8_unit_X8_token rfl hdX8_token (by decide) (Nat.le_of_ble_eq_true rfl) dX8_unit_9 rfl (fun r104 M105 h106 => ?_)
    obtain ⟨a108, rfl, rfl, h107⟩ := h106
    refine j_istore_n C 2 [(2, .int (sI a108)), (0, .ref (ad 78)), (1, .int (sI 4))] dX8_unit_12 rfl (by decide) rfl ?_
    refine j_iload_n C 0 2 dX8_unit_13 rfl rfl ?_
    refine y_sipush C dX8_unit_14 rfl ?_
    refine y_icmp_ne C 42 dX8_unit_17 (by decide) (by omega) (fun h109 => ?_) (fun h109 => ?_)
    · refine j_iload_n C 0 2 dX8_unit_42 rfl rfl ?_
      refine y_sipush C dX8_unit_43 rfl ?_
      refine y_icmp_ne C 71 dX8_unit_46 (by decide) (by omega) (fun h110 => ?_) (fun h110 => ?_)
      · refine j_aload_n C 1 0 dX8_unit_71 rfl rfl ?_
        refine j_iload_n C 2 1 dX8_unit_72 rfl rfl ?_
        refine j_callVv C (d := 11) (As := [.int (sI 4)]) (st := []) 78 (s_lt rfl rfl) (s_kc (c := 7) rfl rfl) (by decide) rfl (s4_X8_sum hM0 hpr gf gn gi (by omega) (by omega)) gX8_unit_X8_sum rfl hdX8_sum (by decide) (Nat.le_of_ble_eq_true rfl) dX8_unit_73 rfl (fun M112 h113 => ?_)
        obtain ⟨hM112, h114⟩ := h113
        have bM112 := tkx_b (f := gf) (n := gn) (M := M112) (by omega)
        have qM112 := po_rr (suR gf gn 2) gn gi (M0.1 78 5).toInt (M0.1 78 6).toInt (psX M0) (M112.1 78 5).toInt (M112.1 78 6).toInt (psX M112) (suR_g gf gn 2) (by omega) (by omega)
        refine j_aload_n C 1 0 dX8_unit_76 rfl rfl ?_
        refine j_callVi C (d := 0) (As := []) (st := []) 78 (s_lt rfl rfl) (s_kc (c := 7) rfl rfl) (by decide) rfl (s1_X8_token hM112 gf gn ((suR gf gn 2) gi).2.2 (by omega) (by omega)) gX8_unit_X8_token rfl hdX8_token (by decide) (Nat.le_of_ble_eq_true rfl) dX8_unit_77 rfl (fun r115 M116 h117 => ?_)
        obtain ⟨a119, rfl, rfl, h118⟩ := h117
        refine j_istore_n C 3 [(3, .int (sI a119)), (2, .int (sI a108)), (0, .ref (ad 78)), (1, .int (sI 4))] dX8_unit_80 rfl (by decide) rfl ?_
        refine j_iload_n C 0 3 dX8_unit_81 rfl rfl ?_
        refine y_sipush C dX8_unit_82 rfl ?_
        refine y_icmp_eq C 102 dX8_unit_85 (by decide) (by omega) (fun h120 => ?_) (fun h120 => ?_)
        · refine j_aload_n C 2 0 dX8_unit_102 rfl rfl ?_
          refine j_dup C dX8_unit_103 rfl ?_
          refine y_getI C 7 _ _ fX8_unit_18 rfl rfl ft_7_2 sb_7_2 hM112 dX8_unit_104 (fun a121 ea121 la121 ua121 => ?_)
          refine y_iconst C dX8_unit_107 ?_
          refine y_iadd C dX8_unit_108 ?_
          refine y_putI C 7 _ _ qX8_unit_18 rfl rfl ft_7_2 sb_7_2 hM112 (PX.w hpr rfl rfl) dX8_unit_109 (by omega) (fun M123 eM123 hM123 => ?_)
          have xM123 := tkx_j (f := gf) (n := gn) (gi := ((suR gf gn 2) gi).2.2) eM123 (by omega) (by omega) (by omega) (by omega)
          refine j_aload_n C 2 0 dX8_unit_112 rfl rfl ?_
          refine j_iload_n C 3 1 dX8_unit_113 rfl rfl ?_
          refine j_callVv C (d := 11) (As := [.int (sI 4)]) (st := []) 78 (s_lt rfl rfl) (s_kc (c := 7) rfl rfl) (by decide) rfl (s4_X8_sum hM123 hpr gf gn (nxF gf gn ((suR gf gn 2) gi).2.2) (by omega) (by omega)) gX8_unit_X8_sum rfl hdX8_sum (by decide) (Nat.le_of_ble_eq_true rfl) dX8_unit_114 rfl (fun M125 h126 => ?_)
          obtain ⟨hM125, h127⟩ := h126
          have bM125 := tkx_b (f := gf) (n := gn) (M := M125) (by omega)
          have qM125 := po_rr (suR gf gn 2) gn (nxF gf gn ((suR gf gn 2) gi).2.2) (M123.1 78 5).toInt (M123.1 78 6).toInt (psX M123) (M125.1 78 5).toInt (M125.1 78 6).toInt (psX M125) (suR_g gf gn 2) (by omega) (by omega)
          refine j_aload_n C 2 0 dX8_unit_117 rfl rfl ?_
          refine j_iload_n C 0 3 dX8_unit_118 rfl rfl ?_
          refine j_callVv C (d := 0) (As := [.int (sI a119)]) (st := []) 78 (s_lt rfl rfl) (s_kc (c := 7) rfl rfl) (by decide) rfl (s1_X8_emit hM125 hpr a119 (by omega) gf gn ((suR gf gn 2) (nxF gf gn ((suR gf gn 2) gi).2.2)).2.2 (by omega) (by omega)) gX8_unit_X8_emit rfl hdX8_emit (by decide) (Nat.le_of_ble_eq_true rfl) dX8_unit_119 rfl (fun M129 h130 => ?_)
          obtain ⟨hM129, h131⟩ := h130
          have bM129 := tkx_b (f := gf) (n := gn) (M := M129) (by omega)
          have qM129 := po_eq gn ((suR gf gn 2) (nxF gf gn ((suR gf gn 2) gi).2.2)).2.2 (M125.1 78 5).toInt (psX M125) (M129.1 78 5).toInt (psX M129) (by omega) (by omega) (by omega)
          refine j_goto C 130 dX8_unit_122 (by decide) ?_
          have u132r := un_4 gf gn 2 gi (M0.1 78 5).toInt (M0.1 78 6).toInt (psX M0) (M112.1 78 5).toInt (M112.1 78 6).toInt (psX M112) (M123.1 78 5).toInt (M123.1 78 6).toInt (M125.1 78 5).toInt (M125.1 78 6).toInt (psX M125) (M129.1 78 5).toInt (M129.1 78 6).toInt (psX M129) (by omega) (by omega) (by omega) (by omega) (by omega) (by omega) (by omega) (by omega) (by omega) (by omega) (by omega)
          exact hret _ _ _ dX8_unit_130 ⟨hM129, by omega⟩
        · refine j_iload_n C 0 3 dX8_unit_88 rfl rfl ?_
          refine y_sipush C dX8_unit_89 rfl ?_
          refine y_icmp_eq C 102 dX8_unit_92 (by decide) (by omega) (fun h133 => ?_) (fun h133 => ?_)
          · refine j_aload_n C 2 0 dX8_unit_102 rfl rfl ?_
            refine j_dup C dX8_unit_103 rfl ?_
            refine y_getI C 7 _ _ fX8_unit_18 rfl rfl ft_7_2 sb_7_2 hM112 dX8_unit_104 (fun a134 ea134 la134 ua134 => ?_)
            refine y_iconst C dX8_unit_107 ?_
            refine y_iadd C dX8_unit_108 ?_
            refine y_putI C 7 _ _ qX8_unit_18 rfl rfl ft_7_2 sb_7_2 hM112 (PX.w hpr rfl rfl) dX8_unit_109 (by omega) (fun M136 eM136 hM136 => ?_)
            have xM136 := tkx_j (f := gf) (n := gn) (gi := ((suR gf gn 2) gi).2.2) eM136 (by omega) (by omega) (by omega) (by omega)
            refine j_aload_n C 2 0 dX8_unit_112 rfl rfl ?_
            refine j_iload_n C 3 1 dX8_unit_113 rfl rfl ?_
            refine j_callVv C (d := 11) (As := [.int (sI 4)]) (st := []) 78 (s_lt rfl rfl) (s_kc (c := 7) rfl rfl) (by decide) rfl (s4_X8_sum hM136 hpr gf gn (nxF gf gn ((suR gf gn 2) gi).2.2) (by omega) (by omega)) gX8_unit_X8_sum rfl hdX8_sum (by decide) (Nat.le_of_ble_eq_true rfl) dX8_unit_114 rfl (fun M138 h139 => ?_)
            obtain ⟨hM138, h140⟩ := h139
            have bM138 := tkx_b (f := gf) (n := gn) (M := M138) (by omega)
            have qM138 := po_rr (suR gf gn 2) gn (nxF gf gn ((suR gf gn 2) gi).2.2) (M136.1 78 5).toInt (M136.1 78 6).toInt (psX M136) (M138.1 78 5).toInt (M138.1 78 6).toInt (psX M138) (suR_g gf gn 2) (by omega) (by omega)
            refine j_aload_n C 2 0 dX8_unit_117 rfl rfl ?_
            refine j_iload_n C 0 3 dX8_unit_118 rfl rfl ?_
            refine j_callVv C (d := 0) (As := [.int (sI a119)]) (st := []) 78 (s_lt rfl rfl) (s_kc (c := 7) rfl rfl) (by decide) rfl (s1_X8_emit hM138 hpr a119 (by omega) gf gn ((suR gf gn 2) (nxF gf gn ((suR gf gn 2) gi).2.2)).2.2 (by omega) (by omega)) gX8_unit_X8_emit rfl hdX8_emit (by decide) (Nat.le_of_ble_eq_true rfl) dX8_unit_119 rfl (fun M142 h143 => ?_)
            obtain ⟨hM142, h144⟩ := h143
            have bM142 := tkx_b (f := gf) (n := gn) (M := M142) (by omega)
            have qM142 := po_eq gn ((suR gf gn 2) (nxF gf gn ((suR gf gn 2) gi).2.2)).2.2 (M138.1 78 5).toInt (psX M138) (M142.1 78 5).toInt (psX M142) (by omega) (by omega) (by omega)
            refine j_goto C 130 dX8_unit_122 (by decide) ?_
            have u145r := un_4 gf gn 2 gi (M0.1 78 5).toInt (M0.1 78 6).toInt (psX M0) (M112.1 78 5).toInt (M112.1 78 6).toInt (psX M112) (M136.1 78 5).toInt (M136.1 78 6).toInt (M138.1 78 5).toInt (M138.1 78 6).toInt (psX M138) (M142.1 78 5).toInt (M142.1 78 6).toInt (psX M142) (by omega) (by omega) (by omega) (by omega) (by omega) (by omega) (by omega) (by omega) (by omega) (by omega) (by omega)
            exact hret _ _ _ dX8_unit_130 ⟨hM142, by omega⟩
          · refine j_iload_n C 0 3 dX8_unit_95 rfl rfl ?_
            refine y_sipush C dX8_unit_96 rfl ?_
            refine y_icmp_ne C 125 dX8_unit_99 (by decide) (by omega) (fun h146 => ?_) (fun h146 => ?_)
            · refine j_aload_n C 2 0 dX8_unit_125 rfl rfl ?_
              refine y_iconst C dX8_unit_126 ?_
              refine j_callVv C (d := 0) (As := [.int (sI 2)]) (st := []) 78 (s_lt rfl rfl) (s_kc (c := 7) rfl rfl) (by decide) rfl (s1_X8_fail hM112 hpr 2 (by omega) gf gn ((suR gf gn 2) gi).2.2 (by omega) (by omega) (by omega)) gX8_unit_X8_fail rfl hdX8_fail (by decide) (Nat.le_of_ble_eq_true rfl) dX8_unit_127 rfl (fun M148 h149 => ?_)
              obtain ⟨hM148, fM148, h150⟩ := h149
              have bM148 := tkx_b (f := gf) (n := gn) (M := M148) (by omega)
              have qM148 := po_f gn ((faQ gf gn 2) ((suR gf gn 2) gi).2.2).2.2 (M148.1 78 5).toInt (psX M148) (by omega)
              have u151r := un_5 gf gn 2 gi (M0.1 78 5).toInt (M0.1 78 6).toInt (psX M0) (M112.1 78 5).toInt (M112.1 78 6).toInt (psX M112) (M148.1 78 5).toInt (M148.1 78 6).toInt (psX M148) (by omega) (by omega) (by omega) (by omega) (fun _ => by omega) (by omega)
              exact hret _ _ _ dX8_unit_130 ⟨hM148, by omega⟩
            · refine j_aload_n C 2 0 dX8_unit_102 rfl rfl ?_
              refine j_dup C dX8_unit_103 rfl ?_
              refine y_getI C 7 _ _ fX8_unit_18 rfl rfl ft_7_2 sb_7_2 hM112 dX8_unit_104 (fun a152 ea152 la152 ua152 => ?_)
              refine y_iconst C dX8_unit_107 ?_
              refine y_iadd C dX8_unit_108 ?_
              refine y_putI C 7 _ _ qX8_unit_18 rfl rfl ft_7_2 sb_7_2 hM112 (PX.w hpr rfl rfl) dX8_unit_109 (by omega) (fun M154 eM154 hM154 => ?_)
              have xM154 := tkx_j (f := gf) (n := gn) (gi := ((suR gf gn 2) gi).2.2) eM154 (by omega) (by omega) (by omega) (by omega)
              refine j_aload_n C 2 0 dX8_unit_112 rfl rfl ?_
              refine j_iload_n C 3 1 dX8_unit_113 rfl rfl ?_
              refine j_callVv C (d := 11) (As := [.int (sI 4)]) (st := []) 78 (s_lt rfl rfl) (s_kc (c := 7) rfl rfl) (by decide) rfl (s4_X8_sum hM154 hpr gf gn (nxF gf gn ((suR gf gn 2) gi).2.2) (by omega) (by omega)) gX8_unit_X8_sum rfl hdX8_sum (by decide) (Nat.le_of_ble_eq_true rfl) dX8_unit_114 rfl (fun M156 h157 => ?_)
              obtain ⟨hM156, h158⟩ := h157
              have bM156 := tkx_b (f := gf) (n := gn) (M := M156) (by omega)
              have qM156 := po_rr (suR gf gn 2) gn (nxF gf gn ((suR gf gn 2) gi).2.2) (M154.1 78 5).toInt (M154.1 78 6).toInt (psX M154) (M156.1 78 5).toInt (M156.1 78 6).toInt (psX M156) (suR_g gf gn 2) (by omega) (by omega)
              refine j_aload_n C 2 0 dX8_unit_117 rfl rfl ?_
              refine j_iload_n C 0 3 dX8_unit_118 rfl rfl ?_
              refine j_callVv C (d := 0) (As := [.int (sI a119)]) (st := []) 78 (s_lt rfl rfl) (s_kc (c := 7) rfl rfl) (by decide) rfl (s1_X8_emit hM156 hpr a119 (by omega) gf gn ((suR gf gn 2) (nxF gf gn ((suR gf gn 2) gi).2.2)).2.2 (by omega) (by omega)) gX8_unit_X8_emit rfl hdX8_emit (by decide) (Nat.le_of_ble_eq_true rfl) dX8_unit_119 rfl (fun M160 h161 => ?_)
              obtain ⟨hM160, h162⟩ := h161
              have bM160 := tkx_b (f := gf) (n := gn) (M := M160) (by omega)
              have qM160 := po_eq gn ((suR gf gn 2) (nxF gf gn ((suR gf gn 2) gi).2.2)).2.2 (M156.1 78 5).toInt (psX M156) (M160.1 78 5).toInt (psX M160) (by omega) (by omega) (by omega)
              refine j_goto C 130 dX8_unit_122 (by decide) ?_
              have u163r := un_4 gf gn 2 gi (M0.1 78 5).toInt (M0.1 78 6).toInt (psX M0) (M112.1 78 5).toInt (M112.1 78 6).toInt (psX M112) (M154.1 78 5).toInt (M154.1 78 6).toInt (M156.1 78 5).toInt (M156.1 78 6).toInt (psX M156) (M160.1 78 5).toInt (M160.1 78 6).toInt (psX M160) (by omega) (by omega) (by omega) (by omega) (by omega) (by omega) (by omega) (by omega) (by omega) (by omega) (by omega)
              exact hret _ _ _ dX8_unit_130 ⟨hM160, by omega⟩
      · refine j_aload_n C 1 0 dX8_unit_49 rfl rfl ?_
        refine j_iload_n C 2 1 dX8_unit_50 rfl rfl ?_
        refine j_callVv C (d := 0) (As := [.int (sI 4)]) (st := []) 78 (s_lt rfl rfl) (s_kc (c := 7) rfl rfl) (by decide) rfl (s5_X8_goDeeper hM0 hpr gf gn gi (by omega) (by omega) (by omega) (by omega) (by omega)) gX8_unit_X8_goDeeper rfl hdX8_goDeeper (by decide) (Nat.le_of_ble_eq_true rfl) dX8_unit_51 rfl (fun M165 h166 => ?_)
        obtain ⟨hM165, fM165, h167⟩ := h166
        have bM165 := tkx_b (f := gf) (n := gn) (M := M165) (by omega)
        refine j_aload_n C 1 0 dX8_unit_54 rfl rfl ?_
        refine j_iload_n C 2 1 dX8_unit_55 rfl rfl ?_
        refine y_iconst C dX8_unit_56 ?_
        refine y_iadd C dX8_unit_57 ?_
        refine j_callVv C (d := 11) (As := [.int (sI (4 + 1))]) (st := []) 78 (s_lt rfl rfl) (s_kc (c := 7) rfl rfl) (by decide) rfl (s3_X8_truth hM165 hpr gf gn (nxF gf gn gi) (by omega) (by omega)) gX8_unit_X8_truth rfl hdX8_truth (by decide) (Nat.le_of_ble_eq_true rfl) dX8_unit_58 rfl (fun M169 h170 => ?_)
        obtain ⟨hM169, h171⟩ := h170
        have bM169 := tkx_b (f := gf) (n := gn) (M := M169) (by omega)
        have qM169 := po_rr (trP gf gn (unR gf gn 1)) gn (nxF gf gn gi) (M165.1 78 5).toInt (M165.1 78 6).toInt (psX M165) (M169.1 78 5).toInt (M169.1 78 6).toInt (psX M169) (tr_g gf gn (unR_g gf gn 1)) (by omega) (by omega)
        refine j_aload_n C 1 0 dX8_unit_61 rfl rfl ?_
        refine y_sipush C dX8_unit_62 rfl ?_
        refine j_callVv C (d := 1) (As := [.int (sI 2093)]) (st := []) 78 (s_lt rfl rfl) (s_kc (c := 7) rfl rfl) (by decide) rfl (s1_X8_expect hM169 hpr 2093 (by omega) gf gn ((trP gf gn (unR gf gn 1)) (nxF gf gn gi)).2.2 (by omega) (by omega) (by omega) (by omega)) gX8_unit_X8_expect rfl hdX8_expect (by decide) (Nat.le_of_ble_eq_true rfl) dX8_unit_65 rfl (fun M173 h174 => ?_)
        obtain ⟨hM173, fM173, h175⟩ := h174
        have bM173 := tkx_b (f := gf) (n := gn) (M := M173) (by omega)
        have qM173 := po_rr (exP gf gn 2093) gn ((trP gf gn (unR gf gn 1)) (nxF gf gn gi)).2.2 (M169.1 78 5).toInt (M169.1 78 6).toInt (psX M169) (M173.1 78 5).toInt (M173.1 78 6).toInt (psX M173) (ex_g gf gn 2093 (by omega)) (by omega) (by omega)
        refine j_goto C 130 dX8_unit_68 (by decide) ?_
        have u176r := un_2 gf gn 1 2 rfl gi (M0.1 78 5).toInt (M0.1 78 6).toInt (psX M0) (M165.1 78 5).toInt (M165.1 78 6).toInt (M169.1 78 5).toInt (M169.1 78 6).toInt (psX M169) (M173.1 78 5).toInt (M173.1 78 6).toInt (psX M173) (by omega) (by omega) (by omega) (by omega) (by omega) (by omega)
        exact hret _ _ _ dX8_unit_130 ⟨hM173, by omega⟩
    · refine j_aload_n C 1 0 dX8_unit_20 rfl rfl ?_
      refine j_iload_n C 2 1 dX8_unit_21 rfl rfl ?_
      refine j_callVv C (d := 0) (As := [.int (sI 4)]) (st := []) 78 (s_lt rfl rfl) (s_kc (c := 7) rfl rfl) (by decide) rfl (s5_X8_goDeeper hM0 hpr gf gn gi (by omega) (by omega) (by omega) (by omega) (by omega)) gX8_unit_X8_goDeeper rfl hdX8_goDeeper (by decide) (Nat.le_of_ble_eq_true rfl) dX8_unit_22 rfl (fun M178 h179 => ?_)
      obtain ⟨hM178, fM178, h180⟩ := h179
      have bM178 := tkx_b (f := gf) (n := gn) (M := M178) (by omega)
      refine j_aload_n C 1 0 dX8_unit_25 rfl rfl ?_
      refine j_iload_n C 2 1 dX8_unit_26 rfl rfl ?_
      refine y_iconst C dX8_unit_27 ?_
      refine y_iadd C dX8_unit_28 ?_
      refine j_callVv C (d := 9) (As := [.int (sI (4 + 1))]) (st := []) 78 (s_lt rfl rfl) (s_kc (c := 7) rfl rfl) (by decide) rfl (s3_X8_unit hM178 hpr gf gn (nxF gf gn gi) (by omega) (by omega)) gX8_unit_X8_unit rfl hdX8_unit (by decide) (Nat.le_of_ble_eq_true rfl) dX8_unit_29 rfl (fun M182 h183 => ?_)
      obtain ⟨hM182, h184⟩ := h183
      have bM182 := tkx_b (f := gf) (n := gn) (M := M182) (by omega)
      have qM182 := po_rr (unR gf gn 1) gn (nxF gf gn gi) (M178.1 78 5).toInt (M178.1 78 6).toInt (psX M178) (M182.1 78 5).toInt (M182.1 78 6).toInt (psX M182) (unR_g gf gn 1) (by omega) (by omega)
      refine j_aload_n C 1 0 dX8_unit_32 rfl rfl ?_
      refine y_sipush C dX8_unit_33 rfl ?_
      refine j_callVv C (d := 0) (As := [.int (sI 1016)]) (st := []) 78 (s_lt rfl rfl) (s_kc (c := 7) rfl rfl) (by decide) rfl (s1_X8_emit hM182 hpr 1016 (by omega) gf gn ((unR gf gn 1) (nxF gf gn gi)).2.2 (by omega) (by omega)) gX8_unit_X8_emit rfl hdX8_emit (by decide) (Nat.le_of_ble_eq_true rfl) dX8_unit_36 rfl (fun M186 h187 => ?_)
      obtain ⟨hM186, h188⟩ := h187
      have bM186 := tkx_b (f := gf) (n := gn) (M := M186) (by omega)
      have qM186 := po_eq gn ((unR gf gn 1) (nxF gf gn gi)).2.2 (M182.1 78 5).toInt (psX M182) (M186.1 78 5).toInt (psX M186) (by omega) (by omega) (by omega)
      refine j_goto C 130 dX8_unit_39 (by decide) ?_
      have u189r := un_1 gf gn 1 2 rfl gi (M0.1 78 5).toInt (M0.1 78 6).toInt (psX M0) (M178.1 78 5).toInt (M178.1 78 6).toInt (M182.1 78 5).toInt (M182.1 78 6).toInt (psX M182) (M186.1 78 5).toInt (M186.1 78 6).toInt (psX M186) (by omega) (by omega) (by omega) (by omega) (by omega) (by omega) (by omega) (by omega)
      exact hret _ _ _ dX8_unit_130 ⟨hM186, by omega⟩
  · have u190r := rr_no ((unR gf gn 2) gi) (M0.1 78 5).toInt (M0.1 78 6).toInt (M0.1 78 5).toInt (M0.1 78 6).toInt (psX M0) (by omega) rfl rfl
    exact hret _ _ _ dX8_unit_7 ⟨hM0, by omega⟩
set_option maxHeartbeats 4000000 in
theorem s4_X8_both {l : Launch} {dC : Nat → ClassId} {dI : Nat → Nat → Nat} {ad : Nat → Nat} {cA : Nat → ClassId} {pr : Nat → Nat → Bool} {Kz : mm_M} {M0 : mm_M} (hM0 : INV pr Kz M0) (hpr : PX pr) (gf : Nat → Int) (gn : Int) (gi : Int) (hp0 : b01 (TKX gf gn M0) = 1) (hp1 : b01 (PO gn gi (M0.1 78 5).toInt (psX M0)) = 1) : Cv l 13 yX8_both wsX8_both dC dI ad cA [.ref (ad 78), .int (sI 4)] M0 (fun M' => INV pr Kz M' ∧ (b01 (TKX gf gn M') = 1) ∧ b01 (RR ((boP gf gn (unR gf gn 2)) gi) (M0.1 78 5).toInt (M0.1 78 6).toInt (M'.1 78 5).toInt (M'.1 78 6).toInt (psX M')) = 1) := by
  refine cv_of (cc := cX8_both) (maxL := 3) (lv := [(0, .ref (ad 78)), (1, .int (sI 4))]) (by decide) rfl (Nat.le_of_ble_eq_true rfl) rfl ?_
  intro p e s m args below meth c A Q C hret
  refine j_aload_n C 0 0 dX8_both_0 rfl rfl ?_
  refine j_iload_n C 1 1 dX8_both_1 rfl rfl ?_
  refine j_callVv C (d := 12) (As := [.int (sI 4)]) (st := []) 78 (s_lt rfl rfl) (s_kc (c := 7) rfl rfl) (by decide) rfl (s4_X8_unit hM0 hpr gf gn gi (by omega) (by omega)) gX8_both_X8_unit rfl hdX8_unit (by decide) (Nat.le_of_ble_eq_true rfl) dX8_both_2 rfl (fun M102 h103 => ?_)
  obtain ⟨hM102, h104⟩ := h103
  have bM102 := tkx_b (f := gf) (n := gn) (M := M102) (by omega)
  have qM102 := po_rr (unR gf gn 2) gn gi (M0.1 78 5).toInt (M0.1 78 6).toInt (psX M0) (M102.1 78 5).toInt (M102.1 78 6).toInt (psX M102) (unR_g gf gn 2) (by omega) (by omega)
  refine y_iconst C dX8_both_5 ?_
  have u105l := ll_0 (luP gf gn 1015 1015 (unR gf gn 2)) gn ((unR gf gn 2) gi).2.2 (M102.1 78 5).toInt (M102.1 78 6).toInt (psX M102) (by omega)
  refine j_istore_n C 2 [(2, .int (sI 0)), (0, .ref (ad 78)), (1, .int (sI 4))] dX8_both_6 rfl (by decide) rfl ?_
  have L134 : ∀ (n132 : Nat), ∀ (a135 : Int) (M136 : mm_M) (gq137 : Int), (0 ≤ a135 ∧ a135 ≤ 900 ∧ (b01 (LL (luP gf gn 1015 1015 (unR gf gn 2)) gn ((unR gf gn 2) gi).2.2 gq137 a135 (M102.1 78 5).toInt (M102.1 78 6).toInt (M136.1 78 5).toInt (M136.1 78 6).toInt (psX M136)) = 1) ∧ (b01 (TKX gf gn M136) = 1) ∧ (b01 (PO gn gq137 (M136.1 78 5).toInt (psX M136)) = 1) ∧ (900 - a135) < (n132 : Int)) → INV pr Kz M136 → jj p l e (cn_R 13) s m args below meth c 0 0 Q 3 dC dI ad cA A M136 7 [(0, .ref (ad 78)), (1, .int (sI 4)), (2, .int (sI a135))] [] := by
    intro n132
    induction n132 with
    | zero =>
      intro a135 M136 gq137 h138 hM136
      exfalso; omega
    | succ n132 ih133 =>
      intro a135 M136 gq137 h138 hM136
      have u139b := tkx_b (f := gf) (n := gn) (M := M136) (by omega)
      refine j_iload_n C 2 2 dX8_both_7 rfl rfl ?_
      refine y_sipush C dX8_both_8 rfl ?_
      refine y_icmp_ge C 59 dX8_both_11 (by decide) (by omega) (fun h140 => ?_) (fun h140 => ?_)
      · have u162e := ll_e gf gn 1015 1015 (unR gf gn 2) ((unR gf gn 2) gi).2.2 gq137 a135 (M102.1 78 5).toInt (M102.1 78 6).toInt (M136.1 78 5).toInt (M136.1 78 6).toInt (psX M136) (by decide) (unR_g gf gn 2) (by omega) (by omega)
        have u162r : b01 (RR ((boP gf gn (unR gf gn 2)) gi) (M0.1 78 5).toInt (M0.1 78 6).toInt (M136.1 78 5).toInt (M136.1 78 6).toInt (psX M136)) = 1 := rr_sq ((unR gf gn 2) gi) (luP gf gn 1015 1015 (unR gf gn 2)) (M0.1 78 5).toInt (M0.1 78 6).toInt (M102.1 78 5).toInt (M102.1 78 6).toInt (psX M102) (M136.1 78 5).toInt (M136.1 78 6).toInt (psX M136) (by omega) (by omega)
        exact hret _ _ _ dX8_both_59 ⟨hM136, by omega⟩
      · refine j_aload_n C 0 0 dX8_both_14 rfl rfl ?_
        refine y_getI C 7 _ _ fX8_both_22 rfl rfl ft_7_5 sb_7_5 hM136 dX8_both_15 (fun a141 ea141 la141 ua141 => ?_)
        refine y_if_ne C 59 dX8_both_18 (by decide) (by omega) (fun h143 => ?_) (fun h143 => ?_)
        · have u163e := ll_e gf gn 1015 1015 (unR gf gn 2) ((unR gf gn 2) gi).2.2 gq137 a135 (M102.1 78 5).toInt (M102.1 78 6).toInt (M136.1 78 5).toInt (M136.1 78 6).toInt (psX M136) (by decide) (unR_g gf gn 2) (by omega) (by omega)
          have u163r : b01 (RR ((boP gf gn (unR gf gn 2)) gi) (M0.1 78 5).toInt (M0.1 78 6).toInt (M136.1 78 5).toInt (M136.1 78 6).toInt (psX M136)) = 1 := rr_sq ((unR gf gn 2) gi) (luP gf gn 1015 1015 (unR gf gn 2)) (M0.1 78 5).toInt (M0.1 78 6).toInt (M102.1 78 5).toInt (M102.1 78 6).toInt (psX M102) (M136.1 78 5).toInt (M136.1 78 6).toInt (psX M136) (by omega) (by omega)
          exact hret _ _ _ dX8_both_59 ⟨hM136, by omega⟩
        · refine j_aload_n C 0 0 dX8_both_21 rfl rfl ?_
          refine j_callVi C (d := 0) (As := []) (st := []) 78 (s_lt rfl rfl) (s_kc (c := 7) rfl rfl) (by decide) rfl (s1_X8_token hM136 gf gn gq137 (by omega) (by omega)) gX8_both_X8_token rfl hdX8_token (by decide) (Nat.le_of_ble_eq_true rfl) dX8_both_22 rfl (fun r144 M145 h146 => ?_)
          obtain ⟨a148, rfl, rfl, h147⟩ := h146
          refine y_sipush C dX8_both_25 rfl ?_
          refine y_icmp_ne C 59 dX8_both_28 (by decide) (by omega) (fun h149 => ?_) (fun h149 => ?_)
          · have u164e := ll_e gf gn 1015 1015 (unR gf gn 2) ((unR gf gn 2) gi).2.2 gq137 a135 (M102.1 78 5).toInt (M102.1 78 6).toInt (M136.1 78 5).toInt (M136.1 78 6).toInt (psX M136) (by decide) (unR_g gf gn 2) (by omega) (by omega)
            have u164r : b01 (RR ((boP gf gn (unR gf gn 2)) gi) (M0.1 78 5).toInt (M0.1 78 6).toInt (M136.1 78 5).toInt (M136.1 78 6).toInt (psX M136)) = 1 := rr_sq ((unR gf gn 2) gi) (luP gf gn 1015 1015 (unR gf gn 2)) (M0.1 78 5).toInt (M0.1 78 6).toInt (M102.1 78 5).toInt (M102.1 78 6).toInt (psX M102) (M136.1 78 5).toInt (M136.1 78 6).toInt (psX M136) (by omega) (by omega)
            exact hret _ _ _ dX8_both_59 ⟨hM136, by omega⟩
          · refine j_aload_n C 0 0 dX8_both_31 rfl rfl ?_
            refine j_dup C dX8_both_32 rfl ?_
            refine y_getI C 7 _ _ fX8_both_18 rfl rfl ft_7_2 sb_7_2 hM136 dX8_both_33 (fun a150 ea150 la150 ua150 => ?_)
            refine y_iconst C dX8_both_36 ?_
            refine y_iadd C dX8_both_37 ?_
            refine y_putI C 7 _ _ qX8_both_18 rfl rfl ft_7_2 sb_7_2 hM136 (PX.w hpr rfl rfl) dX8_both_38 (by omega) (fun M152 eM152 hM152 => ?_)
            have xM152 := tkx_j (f := gf) (n := gn) (gi := gq137) eM152 (by omega) (by omega) (by omega) (by omega)
            refine j_aload_n C 0 0 dX8_both_41 rfl rfl ?_
            refine j_iload_n C 1 1 dX8_both_42 rfl rfl ?_
            refine j_callVv C (d := 12) (As := [.int (sI 4)]) (st := []) 78 (s_lt rfl rfl) (s_kc (c := 7) rfl rfl) (by decide) rfl (s4_X8_unit hM152 hpr gf gn (nxF gf gn gq137) (by omega) (by omega)) gX8_both_X8_unit rfl hdX8_unit (by decide) (Nat.le_of_ble_eq_true rfl) dX8_both_43 rfl (fun M154 h155 => ?_)
            obtain ⟨hM154, h156⟩ := h155
            have bM154 := tkx_b (f := gf) (n := gn) (M := M154) (by omega)
            have qM154 := po_rr (unR gf gn 2) gn (nxF gf gn gq137) (M152.1 78 5).toInt (M152.1 78 6).toInt (psX M152) (M154.1 78 5).toInt (M154.1 78 6).toInt (psX M154) (unR_g gf gn 2) (by omega) (by omega)
            refine j_aload_n C 0 0 dX8_both_46 rfl rfl ?_
            refine y_sipush C dX8_both_47 rfl ?_
            refine j_callVv C (d := 0) (As := [.int (sI 1015)]) (st := []) 78 (s_lt rfl rfl) (s_kc (c := 7) rfl rfl) (by decide) rfl (s1_X8_emit hM154 hpr 1015 (by omega) gf gn ((unR gf gn 2) (nxF gf gn gq137)).2.2 (by omega) (by omega)) gX8_both_X8_emit rfl hdX8_emit (by decide) (Nat.le_of_ble_eq_true rfl) dX8_both_50 rfl (fun M158 h159 => ?_)
            obtain ⟨hM158, h160⟩ := h159
            have bM158 := tkx_b (f := gf) (n := gn) (M := M158) (by omega)
            have qM158 := po_eq gn ((unR gf gn 2) (nxF gf gn gq137)).2.2 (M154.1 78 5).toInt (psX M154) (M158.1 78 5).toInt (psX M158) (by omega) (by omega) (by omega)
            refine y_iinc C 2 [(2, .int (sI (a135 + 1))), (0, .ref (ad 78)), (1, .int (sI 4))] dX8_both_53 rfl (by decide) rfl ?_
            have u161s := ll_s gf gn 1015 1015 (unR gf gn 2) ((unR gf gn 2) gi).2.2 gq137 a135 (M102.1 78 5).toInt (M102.1 78 6).toInt (M136.1 78 5).toInt (M136.1 78 6).toInt (psX M136) (M152.1 78 5).toInt (M152.1 78 6).toInt (M154.1 78 5).toInt (M154.1 78 6).toInt (psX M154) (M158.1 78 5).toInt (M158.1 78 6).toInt (psX M158) (by decide) (unR_g gf gn 2) (by omega) (by omega) (by omega) (by omega) (by omega) (by omega) (by omega) (by omega) (by omega)
            refine j_goto C 7 dX8_both_56 (by decide) ?_
            refine j_lv [1, 2, 0] rfl ?_; exact ih133 (a135 + 1) M158 ((unR gf gn 2) (nxF gf gn gq137)).2.2 (by omega) hM158
  refine j_lv [1, 2, 0] rfl ?_; exact L134 2010 0 M102 ((unR gf gn 2) gi).2.2 (by omega) hM102
set_option maxHeartbeats 4000000 in
theorem s4_X8_truth {l : Launch} {dC : Nat → ClassId} {dI : Nat → Nat → Nat} {ad : Nat → Nat} {cA : Nat → ClassId} {pr : Nat → Nat → Bool} {Kz : mm_M} {M0 : mm_M} (hM0 : INV pr Kz M0) (hpr : PX pr) (gf : Nat → Int) (gn : Int) (gi : Int) (hp0 : b01 (TKX gf gn M0) = 1) (hp1 : b01 (PO gn gi (M0.1 78 5).toInt (psX M0)) = 1) : Cv l 14 yX8_truth wsX8_truth dC dI ad cA [.ref (ad 78), .int (sI 4)] M0 (fun M' => INV pr Kz M' ∧ (b01 (TKX gf gn M') = 1) ∧ b01 (RR ((trP gf gn (unR gf gn 2)) gi) (M0.1 78 5).toInt (M0.1 78 6).toInt (M'.1 78 5).toInt (M'.1 78 6).toInt (psX M')) = 1) := by
  refine cv_of (cc := cX8_truth) (maxL := 3) (lv := [(0, .ref (ad 78)), (1, .int (sI 4))]) (by decide) rfl (Nat.le_of_ble_eq_true rfl) rfl ?_
  intro p e s m args below meth c A Q C hret
  refine j_aload_n C 0 0 dX8_truth_0 rfl rfl ?_
  refine j_iload_n C 1 1 dX8_truth_1 rfl rfl ?_
  refine j_callVv C (d := 13) (As := [.int (sI 4)]) (st := []) 78 (s_lt rfl rfl) (s_kc (c := 7) rfl rfl) (by decide) rfl (s4_X8_both hM0 hpr gf gn gi (by omega) (by omega)) gX8_truth_X8_both rfl hdX8_both (by decide) (Nat.le_of_ble_eq_true rfl) dX8_truth_2 rfl (fun M102 h103 => ?_)
  obtain ⟨hM102, h104⟩ := h103
  have bM102 := tkx_b (f := gf) (n := gn) (M := M102) (by omega)
  have qM102 := po_rr (boP gf gn (unR gf gn 2)) gn gi (M0.1 78 5).toInt (M0.1 78 6).toInt (psX M0) (M102.1 78 5).toInt (M102.1 78 6).toInt (psX M102) (bo_g gf gn (unR_g gf gn 2)) (by omega) (by omega)
  refine y_iconst C dX8_truth_5 ?_
  have u105l := ll_0 (luP gf gn 1014 1014 (boP gf gn (unR gf gn 2))) gn ((boP gf gn (unR gf gn 2)) gi).2.2 (M102.1 78 5).toInt (M102.1 78 6).toInt (psX M102) (by omega)
  refine j_istore_n C 2 [(2, .int (sI 0)), (0, .ref (ad 78)), (1, .int (sI 4))] dX8_truth_6 rfl (by decide) rfl ?_
  have L134 : ∀ (n132 : Nat), ∀ (a135 : Int) (M136 : mm_M) (gq137 : Int), (0 ≤ a135 ∧ a135 ≤ 900 ∧ (b01 (LL (luP gf gn 1014 1014 (boP gf gn (unR gf gn 2))) gn ((boP gf gn (unR gf gn 2)) gi).2.2 gq137 a135 (M102.1 78 5).toInt (M102.1 78 6).toInt (M136.1 78 5).toInt (M136.1 78 6).toInt (psX M136)) = 1) ∧ (b01 (TKX gf gn M136) = 1) ∧ (b01 (PO gn gq137 (M136.1 78 5).toInt (psX M136)) = 1) ∧ (900 - a135) < (n132 : Int)) → INV pr Kz M136 → jj p l e (cn_R 14) s m args below meth c 0 0 Q 3 dC dI ad cA A M136 7 [(0, .ref (ad 78)), (1, .int (sI 4)), (2, .int (sI a135))] [] := by
    intro n132
    induction n132 with
    | zero =>
      intro a135 M136 gq137 h138 hM136
      exfalso; omega
    | succ n132 ih133 =>
      intro a135 M136 gq137 h138 hM136
      have u139b := tkx_b (f := gf) (n := gn) (M := M136) (by omega)
      refine j_iload_n C 2 2 dX8_truth_7 rfl rfl ?_
      refine y_sipush C dX8_truth_8 rfl ?_
      refine y_icmp_ge C 59 dX8_truth_11 (by decide) (by omega) (fun h140 => ?_) (fun h140 => ?_)
      · have u162e := ll_e gf gn 1014 1014 (boP gf gn (unR gf gn 2)) ((boP gf gn (unR gf gn 2)) gi).2.2 gq137 a135 (M102.1 78 5).toInt (M102.1 78 6).toInt (M136.1 78 5).toInt (M136.1 78 6).toInt (psX M136) (by decide) (bo_g gf gn (unR_g gf gn 2)) (by omega) (by omega)
        have u162r : b01 (RR ((trP gf gn (unR gf gn 2)) gi) (M0.1 78 5).toInt (M0.1 78 6).toInt (M136.1 78 5).toInt (M136.1 78 6).toInt (psX M136)) = 1 := rr_sq ((boP gf gn (unR gf gn 2)) gi) (luP gf gn 1014 1014 (boP gf gn (unR gf gn 2))) (M0.1 78 5).toInt (M0.1 78 6).toInt (M102.1 78 5).toInt (M102.1 78 6).toInt (psX M102) (M136.1 78 5).toInt (M136.1 78 6).toInt (psX M136) (by omega) (by omega)
        exact hret _ _ _ dX8_truth_59 ⟨hM136, by omega⟩
      · refine j_aload_n C 0 0 dX8_truth_14 rfl rfl ?_
        refine y_getI C 7 _ _ fX8_truth_22 rfl rfl ft_7_5 sb_7_5 hM136 dX8_truth_15 (fun a141 ea141 la141 ua141 => ?_)
        refine y_if_ne C 59 dX8_truth_18 (by decide) (by omega) (fun h143 => ?_) (fun h143 => ?_)
        · have u163e := ll_e gf gn 1014 1014 (boP gf gn (unR gf gn 2)) ((boP gf gn (unR gf gn 2)) gi).2.2 gq137 a135 (M102.1 78 5).toInt (M102.1 78 6).toInt (M136.1 78 5).toInt (M136.1 78 6).toInt (psX M136) (by decide) (bo_g gf gn (unR_g gf gn 2)) (by omega) (by omega)
          have u163r : b01 (RR ((trP gf gn (unR gf gn 2)) gi) (M0.1 78 5).toInt (M0.1 78 6).toInt (M136.1 78 5).toInt (M136.1 78 6).toInt (psX M136)) = 1 := rr_sq ((boP gf gn (unR gf gn 2)) gi) (luP gf gn 1014 1014 (boP gf gn (unR gf gn 2))) (M0.1 78 5).toInt (M0.1 78 6).toInt (M102.1 78 5).toInt (M102.1 78 6).toInt (psX M102) (M136.1 78 5).toInt (M136.1 78 6).toInt (psX M136) (by omega) (by omega)
          exact hret _ _ _ dX8_truth_59 ⟨hM136, by omega⟩
        · refine j_aload_n C 0 0 dX8_truth_21 rfl rfl ?_
          refine j_callVi C (d := 0) (As := []) (st := []) 78 (s_lt rfl rfl) (s_kc (c := 7) rfl rfl) (by decide) rfl (s1_X8_token hM136 gf gn gq137 (by omega) (by omega)) gX8_truth_X8_token rfl hdX8_token (by decide) (Nat.le_of_ble_eq_true rfl) dX8_truth_22 rfl (fun r144 M145 h146 => ?_)
          obtain ⟨a148, rfl, rfl, h147⟩ := h146
          refine y_sipush C dX8_truth_25 rfl ?_
          refine y_icmp_ne C 59 dX8_truth_28 (by decide) (by omega) (fun h149 => ?_) (fun h149 => ?_)
          · have u164e := ll_e gf gn 1014 1014 (boP gf gn (unR gf gn 2)) ((boP gf gn (unR gf gn 2)) gi).2.2 gq137 a135 (M102.1 78 5).toInt (M102.1 78 6).toInt (M136.1 78 5).toInt (M136.1 78 6).toInt (psX M136) (by decide) (bo_g gf gn (unR_g gf gn 2)) (by omega) (by omega)
            have u164r : b01 (RR ((trP gf gn (unR gf gn 2)) gi) (M0.1 78 5).toInt (M0.1 78 6).toInt (M136.1 78 5).toInt (M136.1 78 6).toInt (psX M136)) = 1 := rr_sq ((boP gf gn (unR gf gn 2)) gi) (luP gf gn 1014 1014 (boP gf gn (unR gf gn 2))) (M0.1 78 5).toInt (M0.1 78 6).toInt (M102.1 78 5).toInt (M102.1 78 6).toInt (psX M102) (M136.1 78 5).toInt (M136.1 78 6).toInt (psX M136) (by omega) (by omega)
            exact hret _ _ _ dX8_truth_59 ⟨hM136, by omega⟩
          · refine j_aload_n C 0 0 dX8_truth_31 rfl rfl ?_
            refine j_dup C dX8_truth_32 rfl ?_
            refine y_getI C 7 _ _ fX8_truth_18 rfl rfl ft_7_2 sb_7_2 hM136 dX8_truth_33 (fun a150 ea150 la150 ua150 => ?_)
            refine y_iconst C dX8_truth_36 ?_
            refine y_iadd C dX8_truth_37 ?_
            refine y_putI C 7 _ _ qX8_truth_18 rfl rfl ft_7_2 sb_7_2 hM136 (PX.w hpr rfl rfl) dX8_truth_38 (by omega) (fun M152 eM152 hM152 => ?_)
            have xM152 := tkx_j (f := gf) (n := gn) (gi := gq137) eM152 (by omega) (by omega) (by omega) (by omega)
            refine j_aload_n C 0 0 dX8_truth_41 rfl rfl ?_
            refine j_iload_n C 1 1 dX8_truth_42 rfl rfl ?_
            refine j_callVv C (d := 13) (As := [.int (sI 4)]) (st := []) 78 (s_lt rfl rfl) (s_kc (c := 7) rfl rfl) (by decide) rfl (s4_X8_both hM152 hpr gf gn (nxF gf gn gq137) (by omega) (by omega)) gX8_truth_X8_both rfl hdX8_both (by decide) (Nat.le_of_ble_eq_true rfl) dX8_truth_43 rfl (fun M154 h155 => ?_)
            obtain ⟨hM154, h156⟩ := h155
            have bM154 := tkx_b (f := gf) (n := gn) (M := M154) (by omega)
            have qM154 := po_rr (boP gf gn (unR gf gn 2)) gn (nxF gf gn gq137) (M152.1 78 5).toInt (M152.1 78 6).toInt (psX M152) (M154.1 78 5).toInt (M154.1 78 6).toInt (psX M154) (bo_g gf gn (unR_g gf gn 2)) (by omega) (by omega)
            refine j_aload_n C 0 0 dX8_truth_46 rfl rfl ?_
            refine y_sipush C dX8_truth_47 rfl ?_
            refine j_callVv C (d := 0) (As := [.int (sI 1014)]) (st := []) 78 (s_lt rfl rfl) (s_kc (c := 7) rfl rfl) (by decide) rfl (s1_X8_emit hM154 hpr 1014 (by omega) gf gn ((boP gf gn (unR gf gn 2)) (nxF gf gn gq137)).2.2 (by omega) (by omega)) gX8_truth_X8_emit rfl hdX8_emit (by decide) (Nat.le_of_ble_eq_true rfl) dX8_truth_50 rfl (fun M158 h159 => ?_)
            obtain ⟨hM158, h160⟩ := h159
            have bM158 := tkx_b (f := gf) (n := gn) (M := M158) (by omega)
            have qM158 := po_eq gn ((boP gf gn (unR gf gn 2)) (nxF gf gn gq137)).2.2 (M154.1 78 5).toInt (psX M154) (M158.1 78 5).toInt (psX M158) (by omega) (by omega) (by omega)
            refine y_iinc C 2 [(2, .int (sI (a135 + 1))), (0, .ref (ad 78)), (1, .int (sI 4))] dX8_truth_53 rfl (by decide) rfl ?_
            have u161s := ll_s gf gn 1014 1014 (boP gf gn (unR gf gn 2)) ((boP gf gn (unR gf gn 2)) gi).2.2 gq137 a135 (M102.1 78 5).toInt (M102.1 78 6).toInt (M136.1 78 5).toInt (M136.1 78 6).toInt (psX M136) (M152.1 78 5).toInt (M152.1 78 6).toInt (M154.1 78 5).toInt (M154.1 78 6).toInt (psX M154) (M158.1 78 5).toInt (M158.1 78 6).toInt (psX M158) (by decide) (bo_g gf gn (unR_g gf gn 2)) (by omega) (by omega) (by omega) (by omega) (by omega) (by omega) (by omega) (by omega) (by omega)
            refine j_goto C 7 dX8_truth_56 (by decide) ?_
            refine j_lv [1, 2, 0] rfl ?_; exact ih133 (a135 + 1) M158 ((boP gf gn (unR gf gn 2)) (nxF gf gn gq137)).2.2 (by omega) hM158
  refine j_lv [1, 2, 0] rfl ?_; exact L134 2010 0 M102 ((boP gf gn (unR gf gn 2)) gi).2.2 (by omega) hM102
set_option maxHeartbeats 4000000 in
theorem s5_X8_unit {l : Launch} {dC : Nat → ClassId} {dI : Nat → Nat → Nat} {ad : Nat → Nat} {cA : Nat → ClassId} {pr : Nat → Nat → Bool} {Kz : mm_M} {M0 : mm_M} (hM0 : INV pr Kz M0) (hpr : PX pr) (gf : Nat → Int) (gn : Int) (gi : Int) (hp0 : b01 (TKX gf gn M0) = 1) (hp1 : b01 (PO gn gi (M0.1 78 5).toInt (psX M0)) = 1) : Cv l 15 yX8_unit wsX8_unit dC dI ad cA [.ref (ad 78), .int (sI 3)] M0 (fun M' => INV pr Kz M' ∧ (b01 (TKX gf gn M') = 1) ∧ b01 (RR ((unR gf gn 3) gi) (M0.1 78 5).toInt (M0.1 78 6).toInt (M'.1 78 5).toInt (M'.1 78 6).toInt (psX M')) = 1) := by
  refine cv_of (cc := cX8_unit) (maxL := 4) (lv := [(0, .ref (ad 78)), (1, .int (sI 3))]) (by decide) rfl (Nat.le_of_ble_eq_true rfl) rfl ?_
  intro p e s m args below meth c A Q C hret
  refine j_aload_n C 0 0 dX8_unit_0 rfl rfl ?_
  refine y_getI C 7 _ _ fX8_unit_22 rfl rfl ft_7_5 sb_7_5 hM0 dX8_unit_1 (fun a101 ea101 la101 ua101 => ?_)
  refine y_if_eq C 8 dX8_unit_4 (by decide) (by omega) (fun h103 => ?_) (fun h103 => ?_)
  · refine j_aload_n C 0 0 dX8_unit_8 rfl rfl ?_
    refine j_callVi C (d := 0) (As := []) (st := []) 78 (s_lt rfl rfl) (s_kc (c := 7) rfl rfl) (by decide) rfl (s1_X8_token hM0 gf gn gi (by omega) (by omega)) gX8_unit_X8_token rfl hdX8_token (by decide) (Nat.le_of_ble_eq_true rfl) dX8_unit_9 rfl (fun r104 M105 h106 => ?_)
    obtain ⟨a108, rfl, rfl, h107⟩ := h106
    refine j_istore_n C 2 [(2, .int (sI a108)), (0, .ref (ad 78)), (1, .int (sI 3))] dX8_unit_12 rfl (by decide) rfl ?_
    refine j_iload_n C 0 2 dX8_unit_13 rfl rfl ?_
    refine y_sipush C dX8_unit_14 rfl ?_
    refine y_icmp_ne C 42 dX8_unit_17 (by decide) (by omega) (fun h109 => ?_) (fun h109 => ?_)
    · refine j_iload_n C 0 2 dX8_unit_42 rfl rfl ?_
      refine y_sipush C dX8_unit_43 rfl ?_
      refine y_icmp_ne C 71 dX8_unit_46 (by decide) (by omega) (fun h110 => ?_) (fun h110 => ?_)
      · refine j_aload_n C 1 0 dX8_unit_71 rfl rfl ?_
        refine j_iload_n C 2 1 dX8_unit_72 rfl rfl ?_
        refine j_callVv C (d := 14) (As := [.int (sI 3)]) (st := []) 78 (s_lt rfl rfl) (s_kc (c := 7) rfl rfl) (by decide) rfl (s5_X8_sum hM0 hpr gf gn gi (by omega) (by omega)) gX8_unit_X8_sum rfl hdX8_sum (by decide) (Nat.le_of_ble_eq_true rfl) dX8_unit_73 rfl (fun M112 h113 => ?_)
        obtain ⟨hM112, h114⟩ := h113
        have bM112 := tkx_b (f := gf) (n := gn) (M := M112) (by omega)
        have qM112 := po_rr (suR gf gn 3) gn gi (M0.1 78 5).toInt (M0.1 78 6).toInt (psX M0) (M112.1 78 5).toInt (M112.1 78 6).toInt (psX M112) (suR_g gf gn 3) (by omega) (by omega)
        refine j_aload_n C 1 0 dX8_unit_76 rfl rfl ?_
        refine j_callVi C (d := 0) (As := []) (st := []) 78 (s_lt rfl rfl) (s_kc (c := 7) rfl rfl) (by decide) rfl (s1_X8_token hM112 gf gn ((suR gf gn 3) gi).2.2 (by omega) (by omega)) gX8_unit_X8_token rfl hdX8_token (by decide) (Nat.le_of_ble_eq_true rfl) dX8_unit_77 rfl (fun r115 M116 h117 => ?_)
        obtain ⟨a119, rfl, rfl, h118⟩ := h117
        refine j_istore_n C 3 [(3, .int (sI a119)), (2, .int (sI a108)), (0, .ref (ad 78)), (1, .int (sI 3))] dX8_unit_80 rfl (by decide) rfl ?_
        refine j_iload_n C 0 3 dX8_unit_81 rfl rfl ?_
        refine y_sipush C dX8_unit_82 rfl ?_
        refine y_icmp_eq C 102 dX8_unit_85 (by decide) (by omega) (fun h120 => ?_) (fun h120 => ?_)
        · refine j_aload_n C 2 0 dX8_unit_102 rfl rfl ?_
          refine j_dup C dX8_unit_103 rfl ?_
          refine y_getI C 7 _ _ fX8_unit_18 rfl rfl ft_7_2 sb_7_2 hM112 dX8_unit_104 (fun a121 ea121 la121 ua121 => ?_)
          refine y_iconst C dX8_unit_107 ?_
          refine y_iadd C dX8_unit_108 ?_
          refine y_putI C 7 _ _ qX8_unit_18 rfl rfl ft_7_2 sb_7_2 hM112 (PX.w hpr rfl rfl) dX8_unit_109 (by omega) (fun M123 eM123 hM123 => ?_)
          have xM123 := tkx_j (f := gf) (n := gn) (gi := ((suR gf gn 3) gi).2.2) eM123 (by omega) (by omega) (by omega) (by omega)
          refine j_aload_n C 2 0 dX8_unit_112 rfl rfl ?_
          refine j_iload_n C 3 1 dX8_unit_113 rfl rfl ?_
          refine j_callVv C (d := 14) (As := [.int (sI 3)]) (st := []) 78 (s_lt rfl rfl) (s_kc (c := 7) rfl rfl) (by decide) rfl (s5_X8_sum hM123 hpr gf gn (nxF gf gn ((suR gf gn 3) gi).2.2) (by omega) (by omega)) gX8_unit_X8_sum rfl hdX8_sum (by decide) (Nat.le_of_ble_eq_true rfl) dX8_unit_114 rfl (fun M125 h126 => ?_)
          obtain ⟨hM125, h127⟩ := h126
          have bM125 := tkx_b (f := gf) (n := gn) (M := M125) (by omega)
          have qM125 := po_rr (suR gf gn 3) gn (nxF gf gn ((suR gf gn 3) gi).2.2) (M123.1 78 5).toInt (M123.1 78 6).toInt (psX M123) (M125.1 78 5).toInt (M125.1 78 6).toInt (psX M125) (suR_g gf gn 3) (by omega) (by omega)
          refine j_aload_n C 2 0 dX8_unit_117 rfl rfl ?_
          refine j_iload_n C 0 3 dX8_unit_118 rfl rfl ?_
          refine j_callVv C (d := 0) (As := [.int (sI a119)]) (st := []) 78 (s_lt rfl rfl) (s_kc (c := 7) rfl rfl) (by decide) rfl (s1_X8_emit hM125 hpr a119 (by omega) gf gn ((suR gf gn 3) (nxF gf gn ((suR gf gn 3) gi).2.2)).2.2 (by omega) (by omega)) gX8_unit_X8_emit rfl hdX8_emit (by decide) (Nat.le_of_ble_eq_true rfl) dX8_unit_119 rfl (fun M129 h130 => ?_)
          obtain ⟨hM129, h131⟩ := h130
          have bM129 := tkx_b (f := gf) (n := gn) (M := M129) (by omega)
          have qM129 := po_eq gn ((suR gf gn 3) (nxF gf gn ((suR gf gn 3) gi).2.2)).2.2 (M125.1 78 5).toInt (psX M125) (M129.1 78 5).toInt (psX M129) (by omega) (by omega) (by omega)
          refine j_goto C 130 dX8_unit_122 (by decide) ?_
          have u132r := un_4 gf gn 3 gi (M0.1 78 5).toInt (M0.1 78 6).toInt (psX M0) (M112.1 78 5).toInt (M112.1 78 6).toInt (psX M112) (M123.1 78 5).toInt (M123.1 78 6).toInt (M125.1 78 5).toInt (M125.1 78 6).toInt (psX M125) (M129.1 78 5).toInt (M129.1 78 6).toInt (psX M129) (by omega) (by omega) (by omega) (by omega) (by omega) (by omega) (by omega) (by omega) (by omega) (by omega) (by omega)
          exact hret _ _ _ dX8_unit_130 ⟨hM129, by omega⟩
        · refine j_iload_n C 0 3 dX8_unit_88 rfl rfl ?_
          refine y_sipush C dX8_unit_89 rfl ?_
          refine y_icmp_eq C 102 dX8_unit_92 (by decide) (by omega) (fun h133 => ?_) (fun h133 => ?_)
          · refine j_aload_n C 2 0 dX8_unit_102 rfl rfl ?_
            refine j_dup C dX8_unit_103 rfl ?_
            refine y_getI C 7 _ _ fX8_unit_18 rfl rfl ft_7_2 sb_7_2 hM112 dX8_unit_104 (fun a134 ea134 la134 ua134 => ?_)
            refine y_iconst C dX8_unit_107 ?_
            refine y_iadd C dX8_unit_108 ?_
            refine y_putI C 7 _ _ qX8_unit_18 rfl rfl ft_7_2 sb_7_2 hM112 (PX.w hpr rfl rfl) dX8_unit_109 (by omega) (fun M136 eM136 hM136 => ?_)
            have xM136 := tkx_j (f := gf) (n := gn) (gi := ((suR gf gn 3) gi).2.2) eM136 (by omega) (by omega) (by omega) (by omega)
            refine j_aload_n C 2 0 dX8_unit_112 rfl rfl ?_
            refine j_iload_n C 3 1 dX8_unit_113 rfl rfl ?_
            refine j_callVv C (d := 14) (As := [.int (sI 3)]) (st := []) 78 (s_lt rfl rfl) (s_kc (c := 7) rfl rfl) (by decide) rfl (s5_X8_sum hM136 hpr gf gn (nxF gf gn ((suR gf gn 3) gi).2.2) (by omega) (by omega)) gX8_unit_X8_sum rfl hdX8_sum (by decide) (Nat.le_of_ble_eq_true rfl) dX8_unit_114 rfl (fun M138 h139 => ?_)
            obtain ⟨hM138, h140⟩ := h139
            have bM138 := tkx_b (f := gf) (n := gn) (M := M138) (by omega)
            have qM138 := po_rr (suR gf gn 3) gn (nxF gf gn ((suR gf gn 3) gi).2.2) (M136.1 78 5).toInt (M136.1 78 6).toInt (psX M136) (M138.1 78 5).toInt (M138.1 78 6).toInt (psX M138) (suR_g gf gn 3) (by omega) (by omega)
            refine j_aload_n C 2 0 dX8_unit_117 rfl rfl ?_
            refine j_iload_n C 0 3 dX8_unit_118 rfl rfl ?_
            refine j_callVv C (d := 0) (As := [.int (sI a119)]) (st := []) 78 (s_lt rfl rfl) (s_kc (c := 7) rfl rfl) (by decide) rfl (s1_X8_emit hM138 hpr a119 (by omega) gf gn ((suR gf gn 3) (nxF gf gn ((suR gf gn 3) gi).2.2)).2.2 (by omega) (by omega)) gX8_unit_X8_emit rfl hdX8_emit (by decide) (Nat.le_of_ble_eq_true rfl) dX8_unit_119 rfl (fun M142 h143 => ?_)
            obtain ⟨hM142, h144⟩ := h143
            have bM142 := tkx_b (f := gf) (n := gn) (M := M142) (by omega)
            have qM142 := po_eq gn ((suR gf gn 3) (nxF gf gn ((suR gf gn 3) gi).2.2)).2.2 (M138.1 78 5).toInt (psX M138) (M142.1 78 5).toInt (psX M142) (by omega) (by omega) (by omega)
            refine j_goto C 130 dX8_unit_122 (by decide) ?_
            have u145r := un_4 gf gn 3 gi (M0.1 78 5).toInt (M0.1 78 6).toInt (psX M0) (M112.1 78 5).toInt (M112.1 78 6).toInt (psX M112) (M136.1 78 5).toInt (M136.1 78 6).toInt (M138.1 78 5).toInt (M138.1 78 6).toInt (psX M138) (M142.1 78 5).toInt (M142.1 78 6).toInt (psX M142) (by omega) (by omega) (by omega) (by omega) (by omega) (by omega) (by omega) (by omega) (by omega) (by omega) (by omega)
            exact hret _ _ _ dX8_unit_130 ⟨hM142, by omega⟩
          · refine j_iload_n C 0 3 dX8_unit_95 rfl rfl ?_
            refine y_sipush C dX8_unit_96 rfl ?_
            refine y_icmp_ne C 125 dX8_unit_99 (by decide) (by omega) (fun h146 => ?_) (fun h146 => ?_)
            · refine j_aload_n C 2 0 dX8_unit_125 rfl rfl ?_
              refine y_iconst C dX8_unit_126 ?_
              refine j_callVv C (d := 0) (As := [.int (sI 2)]) (st := []) 78 (s_lt rfl rfl) (s_kc (c := 7) rfl rfl) (by decide) rfl (s1_X8_fail hM112 hpr 2 (by omega) gf gn ((suR gf gn 3) gi).2.2 (by omega) (by omega) (by omega)) gX8_unit_X8_fail rfl hdX8_fail (by decide) (Nat.le_of_ble_eq_true rfl) dX8_unit_127 rfl (fun M148 h149 => ?_)
              obtain ⟨hM148, fM148, h150⟩ := h149
              have bM148 := tkx_b (f := gf) (n := gn) (M := M148) (by omega)
              have qM148 := po_f gn ((faQ gf gn 2) ((suR gf gn 3) gi).2.2).2.2 (M148.1 78 5).toInt (psX M148) (by omega)
              have u151r := un_5 gf gn 3 gi (M0.1 78 5).toInt (M0.1 78 6).toInt (psX M0) (M112.1 78 5).toInt (M112.1 78 6).toInt (psX M112) (M148.1 78 5).toInt (M148.1 78 6).toInt (psX M148) (by omega) (by omega) (by omega) (by omega) (fun _ => by omega) (by omega)
              exact hret _ _ _ dX8_unit_130 ⟨hM148, by omega⟩
            · refine j_aload_n C 2 0 dX8_unit_102 rfl rfl ?_
              refine j_dup C dX8_unit_103 rfl ?_
              refine y_getI C 7 _ _ fX8_unit_18 rfl rfl ft_7_2 sb_7_2 hM112 dX8_unit_104 (fun a152 ea152 la152 ua152 => ?_)
              refine y_iconst C dX8_unit_107 ?_
              refine y_iadd C dX8_unit_108 ?_
              refine y_putI C 7 _ _ qX8_unit_18 rfl rfl ft_7_2 sb_7_2 hM112 (PX.w hpr rfl rfl) dX8_unit_109 (by omega) (fun M154 eM154 hM154 => ?_)
              have xM154 := tkx_j (f := gf) (n := gn) (gi := ((suR gf gn 3) gi).2.2) eM154 (by omega) (by omega) (by omega) (by omega)
              refine j_aload_n C 2 0 dX8_unit_112 rfl rfl ?_
              refine j_iload_n C 3 1 dX8_unit_113 rfl rfl ?_
              refine j_callVv C (d := 14) (As := [.int (sI 3)]) (st := []) 78 (s_lt rfl rfl) (s_kc (c := 7) rfl rfl) (by decide) rfl (s5_X8_sum hM154 hpr gf gn (nxF gf gn ((suR gf gn 3) gi).2.2) (by omega) (by omega)) gX8_unit_X8_sum rfl hdX8_sum (by decide) (Nat.le_of_ble_eq_true rfl) dX8_unit_114 rfl (fun M156 h157 => ?_)
              obtain ⟨hM156, h158⟩ := h157
              have bM156 := tkx_b (f := gf) (n := gn) (M := M156) (by omega)
              have qM156 := po_rr (suR gf gn 3) gn (nxF gf gn ((suR gf gn 3) gi).2.2) (M154.1 78 5).toInt (M154.1 78 6).toInt (psX M154) (M156.1 78 5).toInt (M156.1 78 6).toInt (psX M156) (suR_g gf gn 3) (by omega) (by omega)
              refine j_aload_n C 2 0 dX8_unit_117 rfl rfl ?_
              refine j_iload_n C 0 3 dX8_unit_118 rfl rfl ?_
              refine j_callVv C (d := 0) (As := [.int (sI a119)]) (st := []) 78 (s_lt rfl rfl) (s_kc (c := 7) rfl rfl) (by decide) rfl (s1_X8_emit hM156 hpr a119 (by omega) gf gn ((suR gf gn 3) (nxF gf gn ((suR gf gn 3) gi).2.2)).2.2 (by omega) (by omega)) gX8_unit_X8_emit rfl hdX8_emit (by decide) (Nat.le_of_ble_eq_true rfl) dX8_unit_119 rfl (fun M160 h161 => ?_)
              obtain ⟨hM160, h162⟩ := h161
              have bM160 := tkx_b (f := gf) (n := gn) (M := M160) (by omega)
              have qM160 := po_eq gn ((suR gf gn 3) (nxF gf gn ((suR gf gn 3) gi).2.2)).2.2 (M156.1 78 5).toInt (psX M156) (M160.1 78 5).toInt (psX M160) (by omega) (by omega) (by omega)
              refine j_goto C 130 dX8_unit_122 (by decide) ?_
              have u163r := un_4 gf gn 3 gi (M0.1 78 5).toInt (M0.1 78 6).toInt (psX M0) (M112.1 78 5).toInt (M112.1 78 6).toInt (psX M112) (M154.1 78 5).toInt (M154.1 78 6).toInt (M156.1 78 5).toInt (M156.1 78 6).toInt (psX M156) (M160.1 78 5).toInt (M160.1 78 6).toInt (psX M160) (by omega) (by omega) (by omega) (by omega) (by omega) (by omega) (by omega) (by omega) (by omega) (by omega) (by omega)
              exact hret _ _ _ dX8_unit_130 ⟨hM160, by omega⟩
      · refine j_aload_n C 1 0 dX8_unit_49 rfl rfl ?_
        refine j_iload_n C 2 1 dX8_unit_50 rfl rfl ?_
        refine j_callVv C (d := 0) (As := [.int (sI 3)]) (st := []) 78 (s_lt rfl rfl) (s_kc (c := 7) rfl rfl) (by decide) rfl (s4_X8_goDeeper hM0 hpr gf gn gi (by omega) (by omega) (by omega) (by omega) (by omega)) gX8_unit_X8_goDeeper rfl hdX8_goDeeper (by decide) (Nat.le_of_ble_eq_true rfl) dX8_unit_51 rfl (fun M165 h166 => ?_)
        obtain ⟨hM165, fM165, h167⟩ := h166
        have bM165 := tkx_b (f := gf) (n := gn) (M := M165) (by omega)
        refine j_aload_n C 1 0 dX8_unit_54 rfl rfl ?_
        refine j_iload_n C 2 1 dX8_unit_55 rfl rfl ?_
        refine y_iconst C dX8_unit_56 ?_
        refine y_iadd C dX8_unit_57 ?_
        refine j_callVv C (d := 14) (As := [.int (sI (3 + 1))]) (st := []) 78 (s_lt rfl rfl) (s_kc (c := 7) rfl rfl) (by decide) rfl (s4_X8_truth hM165 hpr gf gn (nxF gf gn gi) (by omega) (by omega)) gX8_unit_X8_truth rfl hdX8_truth (by decide) (Nat.le_of_ble_eq_true rfl) dX8_unit_58 rfl (fun M169 h170 => ?_)
        obtain ⟨hM169, h171⟩ := h170
        have bM169 := tkx_b (f := gf) (n := gn) (M := M169) (by omega)
        have qM169 := po_rr (trP gf gn (unR gf gn 2)) gn (nxF gf gn gi) (M165.1 78 5).toInt (M165.1 78 6).toInt (psX M165) (M169.1 78 5).toInt (M169.1 78 6).toInt (psX M169) (tr_g gf gn (unR_g gf gn 2)) (by omega) (by omega)
        refine j_aload_n C 1 0 dX8_unit_61 rfl rfl ?_
        refine y_sipush C dX8_unit_62 rfl ?_
        refine j_callVv C (d := 1) (As := [.int (sI 2093)]) (st := []) 78 (s_lt rfl rfl) (s_kc (c := 7) rfl rfl) (by decide) rfl (s1_X8_expect hM169 hpr 2093 (by omega) gf gn ((trP gf gn (unR gf gn 2)) (nxF gf gn gi)).2.2 (by omega) (by omega) (by omega) (by omega)) gX8_unit_X8_expect rfl hdX8_expect (by decide) (Nat.le_of_ble_eq_true rfl) dX8_unit_65 rfl (fun M173 h174 => ?_)
        obtain ⟨hM173, fM173, h175⟩ := h174
        have bM173 := tkx_b (f := gf) (n := gn) (M := M173) (by omega)
        have qM173 := po_rr (exP gf gn 2093) gn ((trP gf gn (unR gf gn 2)) (nxF gf gn gi)).2.2 (M169.1 78 5).toInt (M169.1 78 6).toInt (psX M169) (M173.1 78 5).toInt (M173.1 78 6).toInt (psX M173) (ex_g gf gn 2093 (by omega)) (by omega) (by omega)
        refine j_goto C 130 dX8_unit_68 (by decide) ?_
        have u176r := un_2 gf gn 2 3 rfl gi (M0.1 78 5).toInt (M0.1 78 6).toInt (psX M0) (M165.1 78 5).toInt (M165.1 78 6).toInt (M169.1 78 5).toInt (M169.1 78 6).toInt (psX M169) (M173.1 78 5).toInt (M173.1 78 6).toInt (psX M173) (by omega) (by omega) (by omega) (by omega) (by omega) (by omega)
        exact hret _ _ _ dX8_unit_130 ⟨hM173, by omega⟩
    · refine j_aload_n C 1 0 dX8_unit_20 rfl rfl ?_
      refine j_iload_n C 2 1 dX8_unit_21 rfl rfl ?_
      refine j_callVv C (d := 0) (As := [.int (sI 3)]) (st := []) 78 (s_lt rfl rfl) (s_kc (c := 7) rfl rfl) (by decide) rfl (s4_X8_goDeeper hM0 hpr gf gn gi (by omega) (by omega) (by omega) (by omega) (by omega)) gX8_unit_X8_goDeeper rfl hdX8_goDeeper (by decide) (Nat.le_of_ble_eq_true rfl) dX8_unit_22 rfl (fun M178 h179 => ?_)
      obtain ⟨hM178, fM178, h180⟩ := h179
      have bM178 := tkx_b (f := gf) (n := gn) (M := M178) (by omega)
      refine j_aload_n C 1 0 dX8_unit_25 rfl rfl ?_
      refine j_iload_n C 2 1 dX8_unit_26 rfl rfl ?_
      refine y_iconst C dX8_unit_27 ?_
      refine y_iadd C dX8_unit_28 ?_
      refine j_callVv C (d := 12) (As := [.int (sI (3 + 1))]) (st := []) 78 (s_lt rfl rfl) (s_kc (c := 7) rfl rfl) (by decide) rfl (s4_X8_unit hM178 hpr gf gn (nxF gf gn gi) (by omega) (by omega)) gX8_unit_X8_unit rfl hdX8_unit (by decide) (Nat.le_of_ble_eq_true rfl) dX8_unit_29 rfl (fun M182 h183 => ?_)
      obtain ⟨hM182, h184⟩ := h183
      have bM182 := tkx_b (f := gf) (n := gn) (M := M182) (by omega)
      have qM182 := po_rr (unR gf gn 2) gn (nxF gf gn gi) (M178.1 78 5).toInt (M178.1 78 6).toInt (psX M178) (M182.1 78 5).toInt (M182.1 78 6).toInt (psX M182) (unR_g gf gn 2) (by omega) (by omega)
      refine j_aload_n C 1 0 dX8_unit_32 rfl rfl ?_
      refine y_sipush C dX8_unit_33 rfl ?_
      refine j_callVv C (d := 0) (As := [.int (sI 1016)]) (st := []) 78 (s_lt rfl rfl) (s_kc (c := 7) rfl rfl) (by decide) rfl (s1_X8_emit hM182 hpr 1016 (by omega) gf gn ((unR gf gn 2) (nxF gf gn gi)).2.2 (by omega) (by omega)) gX8_unit_X8_emit rfl hdX8_emit (by decide) (Nat.le_of_ble_eq_true rfl) dX8_unit_36 rfl (fun M186 h187 => ?_)
      obtain ⟨hM186, h188⟩ := h187
      have bM186 := tkx_b (f := gf) (n := gn) (M := M186) (by omega)
      have qM186 := po_eq gn ((unR gf gn 2) (nxF gf gn gi)).2.2 (M182.1 78 5).toInt (psX M182) (M186.1 78 5).toInt (psX M186) (by omega) (by omega) (by omega)
      refine j_goto C 130 dX8_unit_39 (by decide) ?_
      have u189r := un_1 gf gn 2 3 rfl gi (M0.1 78 5).toInt (M0.1 78 6).toInt (psX M0) (M178.1 78 5).toInt (M178.1 78 6).toInt (M182.1 78 5).toInt (M182.1 78 6).toInt (psX M182) (M186.1 78 5).toInt (M186.1 78 6).toInt (psX M186) (by omega) (by omega) (by omega) (by omega) (by omega) (by omega) (by omega) (by omega)
      exact hret _ _ _ dX8_unit_130 ⟨hM186, by omega⟩
  · have u190r := rr_no ((unR gf gn 3) gi) (M0.1 78 5).toInt (M0.1 78 6).toInt (M0.1 78 5).toInt (M0.1 78 6).toInt (psX M0) (by omega) rfl rfl
    exact hret _ _ _ dX8_unit_7 ⟨hM0, by omega⟩
set_option maxHeartbeats 4000000 in
theorem s5_X8_both {l : Launch} {dC : Nat → ClassId} {dI : Nat → Nat → Nat} {ad : Nat → Nat} {cA : Nat → ClassId} {pr : Nat → Nat → Bool} {Kz : mm_M} {M0 : mm_M} (hM0 : INV pr Kz M0) (hpr : PX pr) (gf : Nat → Int) (gn : Int) (gi : Int) (hp0 : b01 (TKX gf gn M0) = 1) (hp1 : b01 (PO gn gi (M0.1 78 5).toInt (psX M0)) = 1) : Cv l 16 yX8_both wsX8_both dC dI ad cA [.ref (ad 78), .int (sI 3)] M0 (fun M' => INV pr Kz M' ∧ (b01 (TKX gf gn M') = 1) ∧ b01 (RR ((boP gf gn (unR gf gn 3)) gi) (M0.1 78 5).toInt (M0.1 78 6).toInt (M'.1 78 5).toInt (M'.1 78 6).toInt (psX M')) = 1) := by
  refine cv_of (cc := cX8_both) (maxL := 3) (lv := [(0, .ref (ad 78)), (1, .int (sI 3))]) (by decide) rfl (Nat.le_of_ble_eq_true rfl) rfl ?_
  intro p e s m args below meth c A Q C hret
  refine j_aload_n C 0 0 dX8_both_0 rfl rfl ?_
  refine j_iload_n C 1 1 dX8_both_1 rfl rfl ?_
  refine j_callVv C (d := 15) (As := [.int (sI 3)]) (st := []) 78 (s_lt rfl rfl) (s_kc (c := 7) rfl rfl) (by decide) rfl (s5_X8_unit hM0 hpr gf gn gi (by omega) (by omega)) gX8_both_X8_unit rfl hdX8_unit (by decide) (Nat.le_of_ble_eq_true rfl) dX8_both_2 rfl (fun M102 h103 => ?_)
  obtain ⟨hM102, h104⟩ := h103
  have bM102 := tkx_b (f := gf) (n := gn) (M := M102) (by omega)
  have qM102 := po_rr (unR gf gn 3) gn gi (M0.1 78 5).toInt (M0.1 78 6).toInt (psX M0) (M102.1 78 5).toInt (M102.1 78 6).toInt (psX M102) (unR_g gf gn 3) (by omega) (by omega)
  refine y_iconst C dX8_both_5 ?_
  have u105l := ll_0 (luP gf gn 1015 1015 (unR gf gn 3)) gn ((unR gf gn 3) gi).2.2 (M102.1 78 5).toInt (M102.1 78 6).toInt (psX M102) (by omega)
  refine j_istore_n C 2 [(2, .int (sI 0)), (0, .ref (ad 78)), (1, .int (sI 3))] dX8_both_6 rfl (by decide) rfl ?_
  have L134 : ∀ (n132 : Nat), ∀ (a135 : Int) (M136 : mm_M) (gq137 : Int), (0 ≤ a135 ∧ a135 ≤ 900 ∧ (b01 (LL (luP gf gn 1015 1015 (unR gf gn 3)) gn ((unR gf gn 3) gi).2.2 gq137 a135 (M102.1 78 5).toInt (M102.1 78 6).toInt (M136.1 78 5).toInt (M136.1 78 6).toInt (psX M136)) = 1) ∧ (b01 (TKX gf gn M136) = 1) ∧ (b01 (PO gn gq137 (M136.1 78 5).toInt (psX M136)) = 1) ∧ (900 - a135) < (n132 : Int)) → INV pr Kz M136 → jj p l e (cn_R 16) s m args below meth c 0 0 Q 3 dC dI ad cA A M136 7 [(0, .ref (ad 78)), (1, .int (sI 3)), (2, .int (sI a135))] [] := by
    intro n132
    induction n132 with
    | zero =>
      intro a135 M136 gq137 h138 hM136
      exfalso; omega
    | succ n132 ih133 =>
      intro a135 M136 gq137 h138 hM136
      have u139b := tkx_b (f := gf) (n := gn) (M := M136) (by omega)
      refine j_iload_n C 2 2 dX8_both_7 rfl rfl ?_
      refine y_sipush C dX8_both_8 rfl ?_
      refine y_icmp_ge C 59 dX8_both_11 (by decide) (by omega) (fun h140 => ?_) (fun h140 => ?_)
      · have u162e := ll_e gf gn 1015 1015 (unR gf gn 3) ((unR gf gn 3) gi).2.2 gq137 a135 (M102.1 78 5).toInt (M102.1 78 6).toInt (M136.1 78 5).toInt (M136.1 78 6).toInt (psX M136) (by decide) (unR_g gf gn 3) (by omega) (by omega)
        have u162r : b01 (RR ((boP gf gn (unR gf gn 3)) gi) (M0.1 78 5).toInt (M0.1 78 6).toInt (M136.1 78 5).toInt (M136.1 78 6).toInt (psX M136)) = 1 := rr_sq ((unR gf gn 3) gi) (luP gf gn 1015 1015 (unR gf gn 3)) (M0.1 78 5).toInt (M0.1 78 6).toInt (M102.1 78 5).toInt (M102.1 78 6).toInt (psX M102) (M136.1 78 5).toInt (M136.1 78 6).toInt (psX M136) (by omega) (by omega)
        exact hret _ _ _ dX8_both_59 ⟨hM136, by omega⟩
      · refine j_aload_n C 0 0 dX8_both_14 rfl rfl ?_
        refine y_getI C 7 _ _ fX8_both_22 rfl rfl ft_7_5 sb_7_5 hM136 dX8_both_15 (fun a141 ea141 la141 ua141 => ?_)
        refine y_if_ne C 59 dX8_both_18 (by decide) (by omega) (fun h143 => ?_) (fun h143 => ?_)
        · have u163e := ll_e gf gn 1015 1015 (unR gf gn 3) ((unR gf gn 3) gi).2.2 gq137 a135 (M102.1 78 5).toInt (M102.1 78 6).toInt (M136.1 78 5).toInt (M136.1 78 6).toInt (psX M136) (by decide) (unR_g gf gn 3) (by omega) (by omega)
          have u163r : b01 (RR ((boP gf gn (unR gf gn 3)) gi) (M0.1 78 5).toInt (M0.1 78 6).toInt (M136.1 78 5).toInt (M136.1 78 6).toInt (psX M136)) = 1 := rr_sq ((unR gf gn 3) gi) (luP gf gn 1015 1015 (unR gf gn 3)) (M0.1 78 5).toInt (M0.1 78 6).toInt (M102.1 78 5).toInt (M102.1 78 6).toInt (psX M102) (M136.1 78 5).toInt (M136.1 78 6).toInt (psX M136) (by omega) (by omega)
          exact hret _ _ _ dX8_both_59 ⟨hM136, by omega⟩
        · refine j_aload_n C 0 0 dX8_both_21 rfl rfl ?_
          refine j_callVi C (d := 0) (As := []) (st := []) 78 (s_lt rfl rfl) (s_kc (c := 7) rfl rfl) (by decide) rfl (s1_X8_token hM136 gf gn gq137 (by omega) (by omega)) gX8_both_X8_token rfl hdX8_token (by decide) (Nat.le_of_ble_eq_true rfl) dX8_both_22 rfl (fun r144 M145 h146 => ?_)
          obtain ⟨a148, rfl, rfl, h147⟩ := h146
          refine y_sipush C dX8_both_25 rfl ?_
          refine y_icmp_ne C 59 dX8_both_28 (by decide) (by omega) (fun h149 => ?_) (fun h149 => ?_)
          · have u164e := ll_e gf gn 1015 1015 (unR gf gn 3) ((unR gf gn 3) gi).2.2 gq137 a135 (M102.1 78 5).toInt (M102.1 78 6).toInt (M136.1 78 5).toInt (M136.1 78 6).toInt (psX M136) (by decide) (unR_g gf gn 3) (by omega) (by omega)
            have u164r : b01 (RR ((boP gf gn (unR gf gn 3)) gi) (M0.1 78 5).toInt (M0.1 78 6).toInt (M136.1 78 5).toInt (M136.1 78 6).toInt (psX M136)) = 1 := rr_sq ((unR gf gn 3) gi) (luP gf gn 1015 1015 (unR gf gn 3)) (M0.1 78 5).toInt (M0.1 78 6).toInt (M102.1 78 5).toInt (M102.1 78 6).toInt (psX M102) (M136.1 78 5).toInt (M136.1 78 6).toInt (psX M136) (by omega) (by omega)
            exact hret _ _ _ dX8_both_59 ⟨hM136, by omega⟩
          · refine j_aload_n C 0 0 dX8_both_31 rfl rfl ?_
            refine j_dup C dX8_both_32 rfl ?_
            refine y_getI C 7 _ _ fX8_both_18 rfl rfl ft_7_2 sb_7_2 hM136 dX8_both_33 (fun a150 ea150 la150 ua150 => ?_)
            refine y_iconst C dX8_both_36 ?_
            refine y_iadd C dX8_both_37 ?_
            refine y_putI C 7 _ _ qX8_both_18 rfl rfl ft_7_2 sb_7_2 hM136 (PX.w hpr rfl rfl) dX8_both_38 (by omega) (fun M152 eM152 hM152 => ?_)
            have xM152 := tkx_j (f := gf) (n := gn) (gi := gq137) eM152 (by omega) (by omega) (by omega) (by omega)
            refine j_aload_n C 0 0 dX8_both_41 rfl rfl ?_
            refine j_iload_n C 1 1 dX8_both_42 rfl rfl ?_
            refine j_callVv C (d := 15) (As := [.int (sI 3)]) (st := []) 78 (s_lt rfl rfl) (s_kc (c := 7) rfl rfl) (by decide) rfl (s5_X8_unit hM152 hpr gf gn (nxF gf gn gq137) (by omega) (by omega)) gX8_both_X8_unit rfl hdX8_unit (by decide) (Nat.le_of_ble_eq_true rfl) dX8_both_43 rfl (fun M154 h155 => ?_)
            obtain ⟨hM154, h156⟩ := h155
            have bM154 := tkx_b (f := gf) (n := gn) (M := M154) (by omega)
            have qM154 := po_rr (unR gf gn 3) gn (nxF gf gn gq137) (M152.1 78 5).toInt (M152.1 78 6).toInt (psX M152) (M154.1 78 5).toInt (M154.1 78 6).toInt (psX M154) (unR_g gf gn 3) (by omega) (by omega)
            refine j_aload_n C 0 0 dX8_both_46 rfl rfl ?_
            refine y_sipush C dX8_both_47 rfl ?_
            refine j_callVv C (d := 0) (As := [.int (sI 1015)]) (st := []) 78 (s_lt rfl rfl) (s_kc (c := 7) rfl rfl) (by decide) rfl (s1_X8_emit hM154 hpr 1015 (by omega) gf gn ((unR gf gn 3) (nxF gf gn gq137)).2.2 (by omega) (by omega)) gX8_both_X8_emit rfl hdX8_emit (by decide) (Nat.le_of_ble_eq_true rfl) dX8_both_50 rfl (fun M158 h159 => ?_)
            obtain ⟨hM158, h160⟩ := h159
            have bM158 := tkx_b (f := gf) (n := gn) (M := M158) (by omega)
            have qM158 := po_eq gn ((unR gf gn 3) (nxF gf gn gq137)).2.2 (M154.1 78 5).toInt (psX M154) (M158.1 78 5).toInt (psX M158) (by omega) (by omega) (by omega)
            refine y_iinc C 2 [(2, .int (sI (a135 + 1))), (0, .ref (ad 78)), (1, .int (sI 3))] dX8_both_53 rfl (by decide) rfl ?_
            have u161s := ll_s gf gn 1015 1015 (unR gf gn 3) ((unR gf gn 3) gi).2.2 gq137 a135 (M102.1 78 5).toInt (M102.1 78 6).toInt (M136.1 78 5).toInt (M136.1 78 6).toInt (psX M136) (M152.1 78 5).toInt (M152.1 78 6).toInt (M154.1 78 5).toInt (M154.1 78 6).toInt (psX M154) (M158.1 78 5).toInt (M158.1 78 6).toInt (psX M158) (by decide) (unR_g gf gn 3) (by omega) (by omega) (by omega) (by omega) (by omega) (by omega) (by omega) (by omega) (by omega)
            refine j_goto C 7 dX8_both_56 (by decide) ?_
            refine j_lv [1, 2, 0] rfl ?_; exact ih133 (a135 + 1) M158 ((unR gf gn 3) (nxF gf gn gq137)).2.2 (by omega) hM158
  refine j_lv [1, 2, 0] rfl ?_; exact L134 2010 0 M102 ((unR gf gn 3) gi).2.2 (by omega) hM102
set_option maxHeartbeats 4000000 in
theorem s5_X8_truth {l : Launch} {dC : Nat → ClassId} {dI : Nat → Nat → Nat} {ad : Nat → Nat} {cA : Nat → ClassId} {pr : Nat → Nat → Bool} {Kz : mm_M} {M0 : mm_M} (hM0 : INV pr Kz M0) (hpr : PX pr) (gf : Nat → Int) (gn : Int) (gi : Int) (hp0 : b01 (TKX gf gn M0) = 1) (hp1 : b01 (PO gn gi (M0.1 78 5).toInt (psX M0)) = 1) : Cv l 17 yX8_truth wsX8_truth dC dI ad cA [.ref (ad 78), .int (sI 3)] M0 (fun M' => INV pr Kz M' ∧ (b01 (TKX gf gn M') = 1) ∧ b01 (RR ((trP gf gn (unR gf gn 3)) gi) (M0.1 78 5).toInt (M0.1 78 6).toInt (M'.1 78 5).toInt (M'.1 78 6).toInt (psX M')) = 1) := by
  refine cv_of (cc := cX8_truth) (maxL := 3) (lv := [(0, .ref (ad 78)), (1, .int (sI 3))]) (by decide) rfl (Nat.le_of_ble_eq_true rfl) rfl ?_
  intro p e s m args below meth c A Q C hret
  refine j_aload_n C 0 0 dX8_truth_0 rfl rfl ?_
  refine j_iload_n C 1 1 dX8_truth_1 rfl rfl ?_
  refine j_callVv C (d := 16) (As := [.int (sI 3)]) (st := []) 78 (s_lt rfl rfl) (s_kc (c := 7) rfl rfl) (by decide) rfl (s5_X8_both hM0 hpr gf gn gi (by omega) (by omega)) gX8_truth_X8_both rfl hdX8_both (by decide) (Nat.le_of_ble_eq_true rfl) dX8_truth_2 rfl (fun M102 h103 => ?_)
  obtain ⟨hM102, h104⟩ := h103
  have bM102 := tkx_b (f := gf) (n := gn) (M := M102) (by omega)
  have qM102 := po_rr (boP gf gn (unR gf gn 3)) gn gi (M0.1 78 5).toInt (M0.1 78 6).toInt (psX M0) (M102.1 78 5).toInt (M102.1 78 6).toInt (psX M102) (bo_g gf gn (unR_g gf gn 3)) (by omega) (by omega)
  refine y_iconst C dX8_truth_5 ?_
  have u105l := ll_0 (luP gf gn 1014 1014 (boP gf gn (unR gf gn 3))) gn ((boP gf gn (unR gf gn 3)) gi).2.2 (M102.1 78 5).toInt (M102.1 78 6).toInt (psX M102) (by omega)
  refine j_istore_n C 2 [(2, .int (sI 0)), (0, .ref (ad 78)), (1, .int (sI 3))] dX8_truth_6 rfl (by decide) rfl ?_
  have L134 : ∀ (n132 : Nat), ∀ (a135 : Int) (M136 : mm_M) (gq137 : Int), (0 ≤ a135 ∧ a135 ≤ 900 ∧ (b01 (LL (luP gf gn 1014 1014 (boP gf gn (unR gf gn 3))) gn ((boP gf gn (unR gf gn 3)) gi).2.2 gq137 a135 (M102.1 78 5).toInt (M102.1 78 6).toInt (M136.1 78 5).toInt (M136.1 78 6).toInt (psX M136)) = 1) ∧ (b01 (TKX gf gn M136) = 1) ∧ (b01 (PO gn gq137 (M136.1 78 5).toInt (psX M136)) = 1) ∧ (900 - a135) < (n132 : Int)) → INV pr Kz M136 → jj p l e (cn_R 17) s m args below meth c 0 0 Q 3 dC dI ad cA A M136 7 [(0, .ref (ad 78)), (1, .int (sI 3)), (2, .int (sI a135))] [] := by
    intro n132
    induction n132 with
    | zero =>
      intro a135 M136 gq137 h138 hM136
      exfalso; omega
    | succ n132 ih133 =>
      intro a135 M136 gq137 h138 hM136
      have u139b := tkx_b (f := gf) (n := gn) (M := M136) (by omega)
      refine j_iload_n C 2 2 dX8_truth_7 rfl rfl ?_
      refine y_sipush C dX8_truth_8 rfl ?_
      refine y_icmp_ge C 59 dX8_truth_11 (by decide) (by omega) (fun h140 => ?_) (fun h140 => ?_)
      · have u162e := ll_e gf gn 1014 1014 (boP gf gn (unR gf gn 3)) ((boP gf gn (unR gf gn 3)) gi).2.2 gq137 a135 (M102.1 78 5).toInt (M102.1 78 6).toInt (M136.1 78 5).toInt (M136.1 78 6).toInt (psX M136) (by decide) (bo_g gf gn (unR_g gf gn 3)) (by omega) (by omega)
        have u162r : b01 (RR ((trP gf gn (unR gf gn 3)) gi) (M0.1 78 5).toInt (M0.1 78 6).toInt (M136.1 78 5).toInt (M136.1 78 6).toInt (psX M136)) = 1 := rr_sq ((boP gf gn (unR gf gn 3)) gi) (luP gf gn 1014 1014 (boP gf gn (unR gf gn 3))) (M0.1 78 5).toInt (M0.1 78 6).toInt (M102.1 78 5).toInt (M102.1 78 6).toInt (psX M102) (M136.1 78 5).toInt (M136.1 78 6).toInt (psX M136) (by omega) (by omega)
        exact hret _ _ _ dX8_truth_59 ⟨hM136, by omega⟩
      · refine j_aload_n C 0 0 dX8_truth_14 rfl rfl ?_
        refine y_getI C 7 _ _ fX8_truth_22 rfl rfl ft_7_5 sb_7_5 hM136 dX8_truth_15 (fun a141 ea141 la141 ua141 => ?_)
        refine y_if_ne C 59 dX8_truth_18 (by decide) (by omega) (fun h143 => ?_) (fun h143 => ?_)
        · have u163e := ll_e gf gn 1014 1014 (boP gf gn (unR gf gn 3)) ((boP gf gn (unR gf gn 3)) gi).2.2 gq137 a135 (M102.1 78 5).toInt (M102.1 78 6).toInt (M136.1 78 5).toInt (M136.1 78 6).toInt (psX M136) (by decide) (bo_g gf gn (unR_g gf gn 3)) (by omega) (by omega)
          have u163r : b01 (RR ((trP gf gn (unR gf gn 3)) gi) (M0.1 78 5).toInt (M0.1 78 6).toInt (M136.1 78 5).toInt (M136.1 78 6).toInt (psX M136)) = 1 := rr_sq ((boP gf gn (unR gf gn 3)) gi) (luP gf gn 1014 1014 (boP gf gn (unR gf gn 3))) (M0.1 78 5).toInt (M0.1 78 6).toInt (M102.1 78 5).toInt (M102.1 78 6).toInt (psX M102) (M136.1 78 5).toInt (M136.1 78 6).toInt (psX M136) (by omega) (by omega)
          exact hret _ _ _ dX8_truth_59 ⟨hM136, by omega⟩
        · refine j_aload_n C 0 0 dX8_truth_21 rfl rfl ?_
          refine j_callVi C (d := 0) (As := []) (st := []) 78 (s_lt rfl rfl) (s_kc (c := 7) rfl rfl) (by decide) rfl (s1_X8_token hM136 gf gn gq137 (by omega) (by omega)) gX8_truth_X8_token rfl hdX8_token (by decide) (Nat.le_of_ble_eq_true rfl) dX8_truth_22 rfl (fun r144 M145 h146 => ?_)
          obtain ⟨a148, rfl, rfl, h147⟩ := h146
          refine y_sipush C dX8_truth_25 rfl ?_
          refine y_icmp_ne C 59 dX8_truth_28 (by decide) (by omega) (fun h149 => ?_) (fun h149 => ?_)
          · have u164e := ll_e gf gn 1014 1014 (boP gf gn (unR gf gn 3)) ((boP gf gn (unR gf gn 3)) gi).2.2 gq137 a135 (M102.1 78 5).toInt (M102.1 78 6).toInt (M136.1 78 5).toInt (M136.1 78 6).toInt (psX M136) (by decide) (bo_g gf gn (unR_g gf gn 3)) (by omega) (by omega)
            have u164r : b01 (RR ((trP gf gn (unR gf gn 3)) gi) (M0.1 78 5).toInt (M0.1 78 6).toInt (M136.1 78 5).toInt (M136.1 78 6).toInt (psX M136)) = 1 := rr_sq ((boP gf gn (unR gf gn 3)) gi) (luP gf gn 1014 1014 (boP gf gn (unR gf gn 3))) (M0.1 78 5).toInt (M0.1 78 6).toInt (M102.1 78 5).toInt (M102.1 78 6).toInt (psX M102) (M136.1 78 5).toInt (M136.1 78 6).toInt (psX M136) (by omega) (by omega)
            exact hret _ _ _ dX8_truth_59 ⟨hM136, by omega⟩
          · refine j_aload_n C 0 0 dX8_truth_31 rfl rfl ?_
            refine j_dup C dX8_truth_32 rfl ?_
            refine y_getI C 7 _ _ fX8_truth_18 rfl rfl ft_7_2 sb_7_2 hM136 dX8_truth_33 (fun a150 ea150 la150 ua150 => ?_)
            refine y_iconst C dX8_truth_36 ?_
            refine y_iadd C dX8_truth_37 ?_
            refine y_putI C 7 _ _ qX8_truth_18 rfl rfl ft_7_2 sb_7_2 hM136 (PX.w hpr rfl rfl) dX8_truth_38 (by omega) (fun M152 eM152 hM152 => ?_)
            have xM152 := tkx_j (f := gf) (n := gn) (gi := gq137) eM152 (by omega) (by omega) (by omega) (by omega)
            refine j_aload_n C 0 0 dX8_truth_41 rfl rfl ?_
            refine j_iload_n C 1 1 dX8_truth_42 rfl rfl ?_
            refine j_callVv C (d := 16) (As := [.int (sI 3)]) (st := []) 78 (s_lt rfl rfl) (s_kc (c := 7) rfl rfl) (by decide) rfl (s5_X8_both hM152 hpr gf gn (nxF gf gn gq137) (by omega) (by omega)) gX8_truth_X8_both rfl hdX8_both (by decide) (Nat.le_of_ble_eq_true rfl) dX8_truth_43 rfl (fun M154 h155 => ?_)
            obtain ⟨hM154, h156⟩ := h155
            have bM154 := tkx_b (f := gf) (n := gn) (M := M154) (by omega)
            have qM154 := po_rr (boP gf gn (unR gf gn 3)) gn (nxF gf gn gq137) (M152.1 78 5).toInt (M152.1 78 6).toInt (psX M152) (M154.1 78 5).toInt (M154.1 78 6).toInt (psX M154) (bo_g gf gn (unR_g gf gn 3)) (by omega) (by omega)
            refine j_aload_n C 0 0 dX8_truth_46 rfl rfl ?_
            refine y_sipush C dX8_truth_47 rfl ?_
            refine j_callVv C (d := 0) (As := [.int (sI 1014)]) (st := []) 78 (s_lt rfl rfl) (s_kc (c := 7) rfl rfl) (by decide) rfl (s1_X8_emit hM154 hpr 1014 (by omega) gf gn ((boP gf gn (unR gf gn 3)) (nxF gf gn gq137)).2.2 (by omega) (by omega)) gX8_truth_X8_emit rfl hdX8_emit (by decide) (Nat.le_of_ble_eq_true rfl) dX8_truth_50 rfl (fun M158 h159 => ?_)
            obtain ⟨hM158, h160⟩ := h159
            have bM158 := tkx_b (f := gf) (n := gn) (M := M158) (by omega)
            have qM158 := po_eq gn ((boP gf gn (unR gf gn 3)) (nxF gf gn gq137)).2.2 (M154.1 78 5).toInt (psX M154) (M158.1 78 5).toInt (psX M158) (by omega) (by omega) (by omega)
            refine y_iinc C 2 [(2, .int (sI (a135 + 1))), (0, .ref (ad 78)), (1, .int (sI 3))] dX8_truth_53 rfl (by decide) rfl ?_
            have u161s := ll_s gf gn 1014 1014 (boP gf gn (unR gf gn 3)) ((boP gf gn (unR gf gn 3)) gi).2.2 gq137 a135 (M102.1 78 5).toInt (M102.1 78 6).toInt (M136.1 78 5).toInt (M136.1 78 6).toInt (psX M136) (M152.1 78 5).toInt (M152.1 78 6).toInt (M154.1 78 5).toInt (M154.1 78 6).toInt (psX M154) (M158.1 78 5).toInt (M158.1 78 6).toInt (psX M158) (by decide) (bo_g gf gn (unR_g gf gn 3)) (by omega) (by omega) (by omega) (by omega) (by omega) (by omega) (by omega) (by omega) (by omega)
            refine j_goto C 7 dX8_truth_56 (by decide) ?_
            refine j_lv [1, 2, 0] rfl ?_; exact ih133 (a135 + 1) M158 ((boP gf gn (unR gf gn 3)) (nxF gf gn gq137)).2.2 (by omega) hM158
  refine j_lv [1, 2, 0] rfl ?_; exact L134 2010 0 M102 ((boP gf gn (unR gf gn 3)) gi).2.2 (by omega) hM102
set_option maxHeartbeats 4000000 in
theorem s6_X8_unit {l : Launch} {dC : Nat → ClassId} {dI : Nat → Nat → Nat} {ad : Nat → Nat} {cA : Nat → ClassId} {pr : Nat → Nat → Bool} {Kz : mm_M} {M0 : mm_M} (hM0 : INV pr Kz M0) (hpr : PX pr) (gf : Nat → Int) (gn : Int) (gi : Int) (hp0 : b01 (TKX gf gn M0) = 1) (hp1 : b01 (PO gn gi (M0.1 78 5).toInt (psX M0)) = 1) : Cv l 18 yX8_unit wsX8_unit dC dI ad cA [.ref (ad 78), .int (sI 2)] M0 (fun M' => INV pr Kz M' ∧ (b01 (TKX gf gn M') = 1) ∧ b01 (RR ((unR gf gn 4) gi) (M0.1 78 5).toInt (M0.1 78 6).toInt (M'.1 78 5).toInt (M'.1 78 6).toInt (psX M')) = 1) := by
  refine cv_of (cc := cX8_unit) (maxL := 4) (lv := [(0, .ref (ad 78)), (1, .int (sI 2))]) (by decide) rfl (Nat.le_of_ble_eq_true rfl) rfl ?_
  intro p e s m args below meth c A Q C hret
  refine j_aload_n C 0 0 dX8_unit_0 rfl rfl ?_
  refine y_getI C 7 _ _ fX8_unit_22 rfl rfl ft_7_5 sb_7_5 hM0 dX8_unit_1 (fun a101 ea101 la101 ua101 => ?_)
  refine y_if_eq C 8 dX8_unit_4 (by decide) (by omega) (fun h103 => ?_) (fun h103 => ?_)
  · refine j_aload_n C 0 0 dX8_unit_8 rfl rfl ?_
    refine j_callVi C (d := 0) (As := []) (st := []) 78 (s_lt rfl rfl) (s_kc (c := 7) rfl rfl) (by decide) rfl (s1_X8_token hM0 gf gn gi (by omega) (by omega)) gX8_unit_X8_token rfl hdX8_token (by decide) (Nat.le_of_ble_eq_true rfl) dX8_unit_9 rfl (fun r104 M105 h106 => ?_)
    obtain ⟨a108, rfl, rfl, h107⟩ := h106
    refine j_istore_n C 2 [(2, .int (sI a108)), (0, .ref (ad 78)), (1, .int (sI 2))] dX8_unit_12 rfl (by decide) rfl ?_
    refine j_iload_n C 0 2 dX8_unit_13 rfl rfl ?_
    refine y_sipush C dX8_unit_14 rfl ?_
    refine y_icmp_ne C 42 dX8_unit_17 (by decide) (by omega) (fun h109 => ?_) (fun h109 => ?_)
    · refine j_iload_n C 0 2 dX8_unit_42 rfl rfl ?_
      refine y_sipush C dX8_unit_43 rfl ?_
      refine y_icmp_ne C 71 dX8_unit_46 (by decide) (by omega) (fun h110 => ?_) (fun h110 => ?_)
      · refine j_aload_n C 1 0 dX8_unit_71 rfl rfl ?_
        refine j_iload_n C 2 1 dX8_unit_72 rfl rfl ?_
        refine j_callVv C (d := 17) (As := [.int (sI 2)]) (st := []) 78 (s_lt rfl rfl) (s_kc (c := 7) rfl rfl) (by decide) rfl (s6_X8_sum hM0 hpr gf gn gi (by omega) (by omega)) gX8_unit_X8_sum rfl hdX8_sum (by decide) (Nat.le_of_ble_eq_true rfl) dX8_unit_73 rfl (fun M112 h113 => ?_)
        obtain ⟨hM112, h114⟩ := h113
        have bM112 := tkx_b (f := gf) (n := gn) (M := M112) (by omega)
        have qM112 := po_rr (suR gf gn 4) gn gi (M0.1 78 5).toInt (M0.1 78 6).toInt (psX M0) (M112.1 78 5).toInt (M112.1 78 6).toInt (psX M112) (suR_g gf gn 4) (by omega) (by omega)
        refine j_aload_n C 1 0 dX8_unit_76 rfl rfl ?_
        refine j_callVi C (d := 0) (As := []) (st := []) 78 (s_lt rfl rfl) (s_kc (c := 7) rfl rfl) (by decide) rfl (s1_X8_token hM112 gf gn ((suR gf gn 4) gi).2.2 (by omega) (by omega)) gX8_unit_X8_token rfl hdX8_token (by decide) (Nat.le_of_ble_eq_true rfl) dX8_unit_77 rfl (fun r115 M116 h117 => ?_)
        obtain ⟨a119, rfl, rfl, h118⟩ := h117
        refine j_istore_n C 3 [(3, .int (sI a119)), (2, .int (sI a108)), (0, .ref (ad 78)), (1, .int (sI 2))] dX8_unit_80 rfl (by decide) rfl ?_
        refine j_iload_n C 0 3 dX8_unit_81 rfl rfl ?_
        refine y_sipush C dX8_unit_82 rfl ?_
        refine y_icmp_eq C 102 dX8_unit_85 (by decide) (by omega) (fun h120 => ?_) (fun h120 => ?_)
        · refine j_aload_n C 2 0 dX8_unit_102 rfl rfl ?_
          refine j_dup C dX8_unit_103 rfl ?_
          refine y_getI C 7 _ _ fX8_unit_18 rfl rfl ft_7_2 sb_7_2 hM112 dX8_unit_104 (fun a121 ea121 la121 ua121 => ?_)
          refine y_iconst C dX8_unit_107 ?_
          refine y_iadd C dX8_unit_108 ?_
          refine y_putI C 7 _ _ qX8_unit_18 rfl rfl ft_7_2 sb_7_2 hM112 (PX.w hpr rfl rfl) dX8_unit_109 (by omega) (fun M123 eM123 hM123 => ?_)
          have xM123 := tkx_j (f := gf) (n := gn) (gi := ((suR gf gn 4) gi).2.2) eM123 (by omega) (by omega) (by omega) (by omega)
          refine j_aload_n C 2 0 dX8_unit_112 rfl rfl ?_
          refine j_iload_n C 3 1 dX8_unit_113 rfl rfl ?_
          refine j_callVv C (d := 17) (As := [.int (sI 2)]) (st := []) 78 (s_lt rfl rfl) (s_kc (c := 7) rfl rfl) (by decide) rfl (s6_X8_sum hM123 hpr gf gn (nxF gf gn ((suR gf gn 4) gi).2.2) (by omega) (by omega)) gX8_unit_X8_sum rfl hdX8_sum (by decide) (Nat.le_of_ble_eq_true rfl) dX8_unit_114 rfl (fun M125 h126 => ?_)
          obtain ⟨hM125, h127⟩ := h126
          have bM125 := tkx_b (f := gf) (n := gn) (M := M125) (by omega)
          have qM125 := po_rr (suR gf gn 4) gn (nxF gf gn ((suR gf gn 4) gi).2.2) (M123.1 78 5).toInt (M123.1 78 6).toInt (psX M123) (M125.1 78 5).toInt (M125.1 78 6).toInt (psX M125) (suR_g gf gn 4) (by omega) (by omega)
          refine j_aload_n C 2 0 dX8_unit_117 rfl rfl ?_
          refine j_iload_n C 0 3 dX8_unit_118 rfl rfl ?_
          refine j_callVv C (d := 0) (As := [.int (sI a119)]) (st := []) 78 (s_lt rfl rfl) (s_kc (c := 7) rfl rfl) (by decide) rfl (s1_X8_emit hM125 hpr a119 (by omega) gf gn ((suR gf gn 4) (nxF gf gn ((suR gf gn 4) gi).2.2)).2.2 (by omega) (by omega)) gX8_unit_X8_emit rfl hdX8_emit (by decide) (Nat.le_of_ble_eq_true rfl) dX8_unit_119 rfl (fun M129 h130 => ?_)
          obtain ⟨hM129, h131⟩ := h130
          have bM129 := tkx_b (f := gf) (n := gn) (M := M129) (by omega)
          have qM129 := po_eq gn ((suR gf gn 4) (nxF gf gn ((suR gf gn 4) gi).2.2)).2.2 (M125.1 78 5).toInt (psX M125) (M129.1 78 5).toInt (psX M129) (by omega) (by omega) (by omega)
          refine j_goto C 130 dX8_unit_122 (by decide) ?_
          have u132r := un_4 gf gn 4 gi (M0.1 78 5).toInt (M0.1 78 6).toInt (psX M0) (M112.1 78 5).toInt (M112.1 78 6).toInt (psX M112) (M123.1 78 5).toInt (M123.1 78 6).toInt (M125.1 78 5).toInt (M125.1 78 6).toInt (psX M125) (M129.1 78 5).toInt (M129.1 78 6).toInt (psX M129) (by omega) (by omega) (by omega) (by omega) (by omega) (by omega) (by omega) (by omega) (by omega) (by omega) (by omega)
          exact hret _ _ _ dX8_unit_130 ⟨hM129, by omega⟩
        · refine j_iload_n C 0 3 dX8_unit_88 rfl rfl ?_
          refine y_sipush C dX8_unit_89 rfl ?_
          refine y_icmp_eq C 102 dX8_unit_92 (by decide) (by omega) (fun h133 => ?_) (fun h133 => ?_)
          · refine j_aload_n C 2 0 dX8_unit_102 rfl rfl ?_
            refine j_dup C dX8_unit_103 rfl ?_
            refine y_getI C 7 _ _ fX8_unit_18 rfl rfl ft_7_2 sb_7_2 hM112 dX8_unit_104 (fun a134 ea134 la134 ua134 => ?_)
            refine y_iconst C dX8_unit_107 ?_
            refine y_iadd C dX8_unit_108 ?_
            refine y_putI C 7 _ _ qX8_unit_18 rfl rfl ft_7_2 sb_7_2 hM112 (PX.w hpr rfl rfl) dX8_unit_109 (by omega) (fun M136 eM136 hM136 => ?_)
            have xM136 := tkx_j (f := gf) (n := gn) (gi := ((suR gf gn 4) gi).2.2) eM136 (by omega) (by omega) (by omega) (by omega)
            refine j_aload_n C 2 0 dX8_unit_112 rfl rfl ?_
            refine j_iload_n C 3 1 dX8_unit_113 rfl rfl ?_
            refine j_callVv C (d := 17) (As := [.int (sI 2)]) (st := []) 78 (s_lt rfl rfl) (s_kc (c := 7) rfl rfl) (by decide) rfl (s6_X8_sum hM136 hpr gf gn (nxF gf gn ((suR gf gn 4) gi).2.2) (by omega) (by omega)) gX8_unit_X8_sum rfl hdX8_sum (by decide) (Nat.le_of_ble_eq_true rfl) dX8_unit_114 rfl (fun M138 h139 => ?_)
            obtain ⟨hM138, h140⟩ := h139
            have bM138 := tkx_b (f := gf) (n := gn) (M := M138) (by omega)
            have qM138 := po_rr (suR gf gn 4) gn (nxF gf gn ((suR gf gn 4) gi).2.2) (M136.1 78 5).toInt (M136.1 78 6).toInt (psX M136) (M138.1 78 5).toInt (M138.1 78 6).toInt (psX M138) (suR_g gf gn 4) (by omega) (by omega)
            refine j_aload_n C 2 0 dX8_unit_117 rfl rfl ?_
            refine j_iload_n C 0 3 dX8_unit_118 rfl rfl ?_
            refine j_callVv C (d := 0) (As := [.int (sI a119)]) (st := []) 78 (s_lt rfl rfl) (s_kc (c := 7) rfl rfl) (by decide) rfl (s1_X8_emit hM138 hpr a119 (by omega) gf gn ((suR gf gn 4) (nxF gf gn ((suR gf gn 4) gi).2.2)).2.2 (by omega) (by omega)) gX8_unit_X8_emit rfl hdX8_emit (by decide) (Nat.le_of_ble_eq_true rfl) dX8_unit_119 rfl (fun M142 h143 => ?_)
            obtain ⟨hM142, h144⟩ := h143
            have bM142 := tkx_b (f := gf) (n := gn) (M := M142) (by omega)
            have qM142 := po_eq gn ((suR gf gn 4) (nxF gf gn ((suR gf gn 4) gi).2.2)).2.2 (M138.1 78 5).toInt (psX M138) (M142.1 78 5).toInt (psX M142) (by omega) (by omega) (by omega)
            refine j_goto C 130 dX8_unit_122 (by decide) ?_
            have u145r := un_4 gf gn 4 gi (M0.1 78 5).toInt (M0.1 78 6).toInt (psX M0) (M112.1 78 5).toInt (M112.1 78 6).toInt (psX M112) (M136.1 78 5).toInt (M136.1 78 6).toInt (M138.1 78 5).toInt (M138.1 78 6).toInt (psX M138) (M142.1 78 5).toInt (M142.1 78 6).toInt (psX M142) (by omega) (by omega) (by omega) (by omega) (by omega) (by omega) (by omega) (by omega) (by omega) (by omega) (by omega)
            exact hret _ _ _ dX8_unit_130 ⟨hM142, by omega⟩
          · refine j_iload_n C 0 3 dX8_unit_95 rfl rfl ?_
            refine y_sipush C dX8_unit_96 rfl ?_
            refine y_icmp_ne C 125 dX8_unit_99 (by decide) (by omega) (fun h146 => ?_) (fun h146 => ?_)
            · refine j_aload_n C 2 0 dX8_unit_125 rfl rfl ?_
              refine y_iconst C dX8_unit_126 ?_
              refine j_callVv C (d := 0) (As := [.int (sI 2)]) (st := []) 78 (s_lt rfl rfl) (s_kc (c := 7) rfl rfl) (by decide) rfl (s1_X8_fail hM112 hpr 2 (by omega) gf gn ((suR gf gn 4) gi).2.2 (by omega) (by omega) (by omega)) gX8_unit_X8_fail rfl hdX8_fail (by decide) (Nat.le_of_ble_eq_true rfl) dX8_unit_127 rfl (fun M148 h149 => ?_)
              obtain ⟨hM148, fM148, h150⟩ := h149
              have bM148 := tkx_b (f := gf) (n := gn) (M := M148) (by omega)
              have qM148 := po_f gn ((faQ gf gn 2) ((suR gf gn 4) gi).2.2).2.2 (M148.1 78 5).toInt (psX M148) (by omega)
              have u151r := un_5 gf gn 4 gi (M0.1 78 5).toInt (M0.1 78 6).toInt (psX M0) (M112.1 78 5).toInt (M112.1 78 6).toInt (psX M112) (M148.1 78 5).toInt (M148.1 78 6).toInt (psX M148) (by omega) (by omega) (by omega) (by omega) (fun _ => by omega) (by omega)
              exact hret _ _ _ dX8_unit_130 ⟨hM148, by omega⟩
            · refine j_aload_n C 2 0 dX8_unit_102 rfl rfl ?_
              refine j_dup C dX8_unit_103 rfl ?_
              refine y_getI C 7 _ _ fX8_unit_18 rfl rfl ft_7_2 sb_7_2 hM112 dX8_unit_104 (fun a152 ea152 la152 ua152 => ?_)
              refine y_iconst C dX8_unit_107 ?_
              refine y_iadd C dX8_unit_108 ?_
              refine y_putI C 7 _ _ qX8_unit_18 rfl rfl ft_7_2 sb_7_2 hM112 (PX.w hpr rfl rfl) dX8_unit_109 (by omega) (fun M154 eM154 hM154 => ?_)
              have xM154 := tkx_j (f := gf) (n := gn) (gi := ((suR gf gn 4) gi).2.2) eM154 (by omega) (by omega) (by omega) (by omega)
              refine j_aload_n C 2 0 dX8_unit_112 rfl rfl ?_
              refine j_iload_n C 3 1 dX8_unit_113 rfl rfl ?_
              refine j_callVv C (d := 17) (As := [.int (sI 2)]) (st := []) 78 (s_lt rfl rfl) (s_kc (c := 7) rfl rfl) (by decide) rfl (s6_X8_sum hM154 hpr gf gn (nxF gf gn ((suR gf gn 4) gi).2.2) (by omega) (by omega)) gX8_unit_X8_sum rfl hdX8_sum (by decide) (Nat.le_of_ble_eq_true rfl) dX8_unit_114 rfl (fun M156 h157 => ?_)
              obtain ⟨hM156, h158⟩ := h157
              have bM156 := tkx_b (f := gf) (n := gn) (M := M156) (by omega)
              have qM156 := po_rr (suR gf gn 4) gn (nxF gf gn ((suR gf gn 4) gi).2.2) (M154.1 78 5).toInt (M154.1 78 6).toInt (psX M154) (M156.1 78 5).toInt (M156.1 78 6).toInt (psX M156) (suR_g gf gn 4) (by omega) (by omega)
              refine j_aload_n C 2 0 dX8_unit_117 rfl rfl ?_
              refine j_iload_n C 0 3 dX8_unit_118 rfl rfl ?_
              refine j_callVv C (d := 0) (As := [.int (sI a119)]) (st := []) 78 (s_lt rfl rfl) (s_kc (c := 7) rfl rfl) (by decide) rfl (s1_X8_emit hM156 hpr a119 (by omega) gf gn ((suR gf gn 4) (nxF gf gn ((suR gf gn 4) gi).2.2)).2.2 (by omega) (by omega)) gX8_unit_X8_emit rfl hdX8_emit (by decide) (Nat.le_of_ble_eq_true rfl) dX8_unit_119 rfl (fun M160 h161 => ?_)
              obtain ⟨hM160, h162⟩ := h161
              have bM160 := tkx_b (f := gf) (n := gn) (M := M160) (by omega)
              have qM160 := po_eq gn ((suR gf gn 4) (nxF gf gn ((suR gf gn 4) gi).2.2)).2.2 (M156.1 78 5).toInt (psX M156) (M160.1 78 5).toInt (psX M160) (by omega) (by omega) (by omega)
              refine j_goto C 130 dX8_unit_122 (by decide) ?_
              have u163r := un_4 gf gn 4 gi (M0.1 78 5).toInt (M0.1 78 6).toInt (psX M0) (M112.1 78 5).toInt (M112.1 78 6).toInt (psX M112) (M154.1 78 5).toInt (M154.1 78 6).toInt (M156.1 78 5).toInt (M156.1 78 6).toInt (psX M156) (M160.1 78 5).toInt (M160.1 78 6).toInt (psX M160) (by omega) (by omega) (by omega) (by omega) (by omega) (by omega) (by omega) (by omega) (by omega) (by omega) (by omega)
              exact hret _ _ _ dX8_unit_130 ⟨hM160, by omega⟩
      · refine j_aload_n C 1 0 dX8_unit_49 rfl rfl ?_
        refine j_iload_n C 2 1 dX8_unit_50 rfl rfl ?_
        refine j_callVv C (d := 0) (As := [.int (sI 2)]) (st := []) 78 (s_lt rfl rfl) (s_kc (c := 7) rfl rfl) (by decide) rfl (s3_X8_goDeeper hM0 hpr gf gn gi (by omega) (by omega) (by omega) (by omega) (by omega)) gX8_unit_X8_goDeeper rfl hdX8_goDeeper (by decide) (Nat.le_of_ble_eq_true rfl) dX8_unit_51 rfl (fun M165 h166 => ?_)
        obtain ⟨hM165, fM165, h167⟩ := h166
        have bM165 := tkx_b (f := gf) (n := gn) (M := M165) (by omega)
        refine j_aload_n C 1 0 dX8_unit_54 rfl rfl ?_
        refine j_iload_n C 2 1 dX8_unit_55 rfl rfl ?_
        refine y_iconst C dX8_unit_56 ?_
        refine y_iadd C dX8_unit_57 ?_
        refine j_callVv C (d := 17) (As := [.int (sI (2 + 1))]) (st := []) 78 (s_lt rfl rfl) (s_kc (c := 7) rfl rfl) (by decide) rfl (s5_X8_truth hM165 hpr gf gn (nxF gf gn gi) (by omega) (by omega)) gX8_unit_X8_truth rfl hdX8_truth (by decide) (Nat.le_of_ble_eq_true rfl) dX8_unit_58 rfl (fun M169 h170 => ?_)
        obtain ⟨hM169, h171⟩ := h170
        have bM169 := tkx_b (f := gf) (n := gn) (M := M169) (by omega)
        have qM169 := po_rr (trP gf gn (unR gf gn 3)) gn (nxF gf gn gi) (M165.1 78 5).toInt (M165.1 78 6).toInt (psX M165) (M169.1 78 5).toInt (M169.1 78 6).toInt (psX M169) (tr_g gf gn (unR_g gf gn 3)) (by omega) (by omega)
        refine j_aload_n C 1 0 dX8_unit_61 rfl rfl ?_
        refine y_sipush C dX8_unit_62 rfl ?_
        refine j_callVv C (d := 1) (As := [.int (sI 2093)]) (st := []) 78 (s_lt rfl rfl) (s_kc (c := 7) rfl rfl) (by decide) rfl (s1_X8_expect hM169 hpr 2093 (by omega) gf gn ((trP gf gn (unR gf gn 3)) (nxF gf gn gi)).2.2 (by omega) (by omega) (by omega) (by omega)) gX8_unit_X8_expect rfl hdX8_expect (by decide) (Nat.le_of_ble_eq_true rfl) dX8_unit_65 rfl (fun M173 h174 => ?_)
        obtain ⟨hM173, fM173, h175⟩ := h174
        have bM173 := tkx_b (f := gf) (n := gn) (M := M173) (by omega)
        have qM173 := po_rr (exP gf gn 2093) gn ((trP gf gn (unR gf gn 3)) (nxF gf gn gi)).2.2 (M169.1 78 5).toInt (M169.1 78 6).toInt (psX M169) (M173.1 78 5).toInt (M173.1 78 6).toInt (psX M173) (ex_g gf gn 2093 (by omega)) (by omega) (by omega)
        refine j_goto C 130 dX8_unit_68 (by decide) ?_
        have u176r := un_2 gf gn 3 4 rfl gi (M0.1 78 5).toInt (M0.1 78 6).toInt (psX M0) (M165.1 78 5).toInt (M165.1 78 6).toInt (M169.1 78 5).toInt (M169.1 78 6).toInt (psX M169) (M173.1 78 5).toInt (M173.1 78 6).toInt (psX M173) (by omega) (by omega) (by omega) (by omega) (by omega) (by omega)
        exact hret _ _ _ dX8_unit_130 ⟨hM173, by omega⟩
    · refine j_aload_n C 1 0 dX8_unit_20 rfl rfl ?_
      refine j_iload_n C 2 1 dX8_unit_21 rfl rfl ?_
      refine j_callVv C (d := 0) (As := [.int (sI 2)]) (st := []) 78 (s_lt rfl rfl) (s_kc (c := 7) rfl rfl) (by decide) rfl (s3_X8_goDeeper hM0 hpr gf gn gi (by omega) (by omega) (by omega) (by omega) (by omega)) gX8_unit_X8_goDeeper rfl hdX8_goDeeper (by decide) (Nat.le_of_ble_eq_true rfl) dX8_unit_22 rfl (fun M178 h179 => ?_)
      obtain ⟨hM178, fM178, h180⟩ := h179
      have bM178 := tkx_b (f := gf) (n := gn) (M := M178) (by omega)
      refine j_aload_n C 1 0 dX8_unit_25 rfl rfl ?_
      refine j_iload_n C 2 1 dX8_unit_26 rfl rfl ?_
      refine y_iconst C dX8_unit_27 ?_
      refine y_iadd C dX8_unit_28 ?_
      refine j_callVv C (d := 15) (As := [.int (sI (2 + 1))]) (st := []) 78 (s_lt rfl rfl) (s_kc (c := 7) rfl rfl) (by decide) rfl (s5_X8_unit hM178 hpr gf gn (nxF gf gn gi) (by omega) (by omega)) gX8_unit_X8_unit rfl hdX8_unit (by decide) (Nat.le_of_ble_eq_true rfl) dX8_unit_29 rfl (fun M182 h183 => ?_)
      obtain ⟨hM182, h184⟩ := h183
      have bM182 := tkx_b (f := gf) (n := gn) (M := M182) (by omega)
      have qM182 := po_rr (unR gf gn 3) gn (nxF gf gn gi) (M178.1 78 5).toInt (M178.1 78 6).toInt (psX M178) (M182.1 78 5).toInt (M182.1 78 6).toInt (psX M182) (unR_g gf gn 3) (by omega) (by omega)
      refine j_aload_n C 1 0 dX8_unit_32 rfl rfl ?_
      refine y_sipush C dX8_unit_33 rfl ?_
      refine j_callVv C (d := 0) (As := [.int (sI 1016)]) (st := []) 78 (s_lt rfl rfl) (s_kc (c := 7) rfl rfl) (by decide) rfl (s1_X8_emit hM182 hpr 1016 (by omega) gf gn ((unR gf gn 3) (nxF gf gn gi)).2.2 (by omega) (by omega)) gX8_unit_X8_emit rfl hdX8_emit (by decide) (Nat.le_of_ble_eq_true rfl) dX8_unit_36 rfl (fun M186 h187 => ?_)
      obtain ⟨hM186, h188⟩ := h187
      have bM186 := tkx_b (f := gf) (n := gn) (M := M186) (by omega)
      have qM186 := po_eq gn ((unR gf gn 3) (nxF gf gn gi)).2.2 (M182.1 78 5).toInt (psX M182) (M186.1 78 5).toInt (psX M186) (by omega) (by omega) (by omega)
      refine j_goto C 130 dX8_unit_39 (by decide) ?_
      have u189r := un_1 gf gn 3 4 rfl gi (M0.1 78 5).toInt (M0.1 78 6).toInt (psX M0) (M178.1 78 5).toInt (M178.1 78 6).toInt (M182.1 78 5).toInt (M182.1 78 6).toInt (psX M182) (M186.1 78 5).toInt (M186.1 78 6).toInt (psX M186) (by omega) (by omega) (by omega) (by omega) (by omega) (by omega) (by omega) (by omega)
      exact hret _ _ _ dX8_unit_130 ⟨hM186, by omega⟩
  · have u190r := rr_no ((unR gf gn 4) gi) (M0.1 78 5).toInt (M0.1 78 6).toInt (M0.1 78 5).toInt (M0.1 78 6).toInt (psX M0) (by omega) rfl rfl
    exact hret _ _ _ dX8_unit_7 ⟨hM0, by omega⟩
set_option maxHeartbeats 4000000 in
theorem s6_X8_both {l : Launch} {dC : Nat → ClassId} {dI : Nat → Nat → Nat} {ad : Nat → Nat} {cA : Nat → ClassId} {pr : Nat → Nat → Bool} {Kz : mm_M} {M0 : mm_M} (hM0 : INV pr Kz M0) (hpr : PX pr) (gf : Nat → Int) (gn : Int) (gi : Int) (hp0 : b01 (TKX gf gn M0) = 1) (hp1 : b01 (PO gn gi (M0.1 78 5).toInt (psX M0)) = 1) : Cv l 19 yX8_both wsX8_both dC dI ad cA [.ref (ad 78), .int (sI 2)] M0 (fun M' => INV pr Kz M' ∧ (b01 (TKX gf gn M') = 1) ∧ b01 (RR ((boP gf gn (unR gf gn 4)) gi) (M0.1 78 5).toInt (M0.1 78 6).toInt (M'.1 78 5).toInt (M'.1 78 6).toInt (psX M')) = 1) := by
  refine cv_of (cc := cX8_both) (maxL := 3) (lv := [(0, .ref (ad 78)), (1, .int (sI 2))]) (by decide) rfl (Nat.le_of_ble_eq_true rfl) rfl ?_
  intro p e s m args below meth c A Q C hret
  refine j_aload_n C 0 0 dX8_both_0 rfl rfl ?_
  refine j_iload_n C 1 1 dX8_both_1 rfl rfl ?_
  refine j_callVv C (d := 18) (As := [.int (sI 2)]) (st := []) 78 (s_lt rfl rfl) (s_kc (c := 7) rfl rfl) (by decide) rfl (s6_X8_unit hM0 hpr gf gn gi (by omega) (by omega)) gX8_both_X8_unit rfl hdX8_unit (by decide) (Nat.le_of_ble_eq_true rfl) dX8_both_2 rfl (fun M102 h103 => ?_)
  obtain ⟨hM102, h104⟩ := h103
  have bM102 := tkx_b (f := gf) (n := gn) (M := M102) (by omega)
  have qM102 := po_rr (unR gf gn 4) gn gi (M0.1 78 5).toInt (M0.1 78 6).toInt (psX M0) (M102.1 78 5).toInt (M102.1 78 6).toInt (psX M102) (unR_g gf gn 4) (by omega) (by omega)
  refine y_iconst C dX8_both_5 ?_
  have u105l := ll_0 (luP gf gn 1015 1015 (unR gf gn 4)) gn ((unR gf gn 4) gi).2.2 (M102.1 78 5).toInt (M102.1 78 6).toInt (psX M102) (by omega)
  refine j_istore_n C 2 [(2, .int (sI 0)), (0, .ref (ad 78)), (1, .int (sI 2))] dX8_both_6 rfl (by decide) rfl ?_
  have L134 : ∀ (n132 : Nat), ∀ (a135 : Int) (M136 : mm_M) (gq137 : Int), (0 ≤ a135 ∧ a135 ≤ 900 ∧ (b01 (LL (luP gf gn 1015 1015 (unR gf gn 4)) gn ((unR gf gn 4) gi).2.2 gq137 a135 (M102.1 78 5).toInt (M102.1 78 6).toInt (M136.1 78 5).toInt (M136.1 78 6).toInt (psX M136)) = 1) ∧ (b01 (TKX gf gn M136) = 1) ∧ (b01 (PO gn gq137 (M136.1 78 5).toInt (psX M136)) = 1) ∧ (900 - a135) < (n132 : Int)) → INV pr Kz M136 → jj p l e (cn_R 19) s m args below meth c 0 0 Q 3 dC dI ad cA A M136 7 [(0, .ref (ad 78)), (1, .int (sI 2)), (2, .int (sI a135))] [] := by
    intro n132
    induction n132 with
    | zero =>
      intro a135 M136 gq137 h138 hM136
      exfalso; omega
    | succ n132 ih133 =>
      intro a135 M136 gq137 h138 hM136
      have u139b := tkx_b (f := gf) (n := gn) (M := M136) (by omega)
      refine j_iload_n C 2 2 dX8_both_7 rfl rfl ?_
      refine y_sipush C dX8_both_8 rfl ?_
      refine y_icmp_ge C 59 dX8_both_11 (by decide) (by omega) (fun h140 => ?_) (fun h140 => ?_)
      · have u162e := ll_e gf gn 1015 1015 (unR gf gn 4) ((unR gf gn 4) gi).2.2 gq137 a135 (M102.1 78 5).toInt (M102.1 78 6).toInt (M136.1 78 5).toInt (M136.1 78 6).toInt (psX M136) (by decide) (unR_g gf gn 4) (by omega) (by omega)
        have u162r : b01 (RR ((boP gf gn (unR gf gn 4)) gi) (M0.1 78 5).toInt (M0.1 78 6).toInt (M136.1 78 5).toInt (M136.1 78 6).toInt (psX M136)) = 1 := rr_sq ((unR gf gn 4) gi) (luP gf gn 1015 1015 (unR gf gn 4)) (M0.1 78 5).toInt (M0.1 78 6).toInt (M102.1 78 5).toInt (M102.1 78 6).toInt (psX M102) (M136.1 78 5).toInt (M136.1 78 6).toInt (psX M136) (by omega) (by omega)
        exact hret _ _ _ dX8_both_59 ⟨hM136, by omega⟩
      · refine j_aload_n C 0 0 dX8_both_14 rfl rfl ?_
        refine y_getI C 7 _ _ fX8_both_22 rfl rfl ft_7_5 sb_7_5 hM136 dX8_both_15 (fun a141 ea141 la141 ua141 => ?_)
        refine y_if_ne C 59 dX8_both_18 (by decide) (by omega) (fun h143 => ?_) (fun h143 => ?_)
        · have u163e := ll_e gf gn 1015 1015 (unR gf gn 4) ((unR gf gn 4) gi).2.2 gq137 a135 (M102.1 78 5).toInt (M102.1 78 6).toInt (M136.1 78 5).toInt (M136.1 78 6).toInt (psX M136) (by decide) (unR_g gf gn 4) (by omega) (by omega)
          have u163r : b01 (RR ((boP gf gn (unR gf gn 4)) gi) (M0.1 78 5).toInt (M0.1 78 6).toInt (M136.1 78 5).toInt (M136.1 78 6).toInt (psX M136)) = 1 := rr_sq ((unR gf gn 4) gi) (luP gf gn 1015 1015 (unR gf gn 4)) (M0.1 78 5).toInt (M0.1 78 6).toInt (M102.1 78 5).toInt (M102.1 78 6).toInt (psX M102) (M136.1 78 5).toInt (M136.1 78 6).toInt (psX M136) (by omega) (by omega)
          exact hret _ _ _ dX8_both_59 ⟨hM136, by omega⟩
        · refine j_aload_n C 0 0 dX8_both_21 rfl rfl ?_
          refine j_callVi C (d := 0) (As := []) (st := []) 78 (s_lt rfl rfl) (s_kc (c := 7) rfl rfl) (by decide) rfl (s1_X8_token hM136 gf gn gq137 (by omega) (by omega)) gX8_both_X8_token rfl hdX8_token (by decide) (Nat.le_of_ble_eq_true rfl) dX8_both_22 rfl (fun r144 M145 h146 => ?_)
          obtain ⟨a148, rfl, rfl, h147⟩ := h146
          refine y_sipush C dX8_both_25 rfl ?_
          refine y_icmp_ne C 59 dX8_both_28 (by decide) (by omega) (fun h149 => ?_) (fun h149 => ?_)
          · have u164e := ll_e gf gn 1015 1015 (unR gf gn 4) ((unR gf gn 4) gi).2.2 gq137 a135 (M102.1 78 5).toInt (M102.1 78 6).toInt (M136.1 78 5).toInt (M136.1 78 6).toInt (psX M136) (by decide) (unR_g gf gn 4) (by omega) (by omega)
            have u164r : b01 (RR ((boP gf gn (unR gf gn 4)) gi) (M0.1 78 5).toInt (M0.1 78 6).toInt (M136.1 78 5).toInt (M136.1 78 6).toInt (psX M136)) = 1 := rr_sq ((unR gf gn 4) gi) (luP gf gn 1015 1015 (unR gf gn 4)) (M0.1 78 5).toInt (M0.1 78 6).toInt (M102.1 78 5).toInt (M102.1 78 6).toInt (psX M102) (M136.1 78 5).toInt (M136.1 78 6).toInt (psX M136) (by omega) (by omega)
            exact hret _ _ _ dX8_both_59 ⟨hM136, by omega⟩
          · refine j_aload_n C 0 0 dX8_both_31 rfl rfl ?_
            refine j_dup C dX8_both_32 rfl ?_
            refine y_getI C 7 _ _ fX8_both_18 rfl rfl ft_7_2 sb_7_2 hM136 dX8_both_33 (fun a150 ea150 la150 ua150 => ?_)
            refine y_iconst C dX8_both_36 ?_
            refine y_iadd C dX8_both_37 ?_
            refine y_putI C 7 _ _ qX8_both_18 rfl rfl ft_7_2 sb_7_2 hM136 (PX.w hpr rfl rfl) dX8_both_38 (by omega) (fun M152 eM152 hM152 => ?_)
            have xM152 := tkx_j (f := gf) (n := gn) (gi := gq137) eM152 (by omega) (by omega) (by omega) (by omega)
            refine j_aload_n C 0 0 dX8_both_41 rfl rfl ?_
            refine j_iload_n C 1 1 dX8_both_42 rfl rfl ?_
            refine j_callVv C (d := 18) (As := [.int (sI 2)]) (st := []) 78 (s_lt rfl rfl) (s_kc (c := 7) rfl rfl) (by decide) rfl (s6_X8_unit hM152 hpr gf gn (nxF gf gn gq137) (by omega) (by omega)) gX8_both_X8_unit rfl hdX8_unit (by decide) (Nat.le_of_ble_eq_true rfl) dX8_both_43 rfl (fun M154 h155 => ?_)
            obtain ⟨hM154, h156⟩ := h155
            have bM154 := tkx_b (f := gf) (n := gn) (M := M154) (by omega)
            have qM154 := po_rr (unR gf gn 4) gn (nxF gf gn gq137) (M152.1 78 5).toInt (M152.1 78 6).toInt (psX M152) (M154.1 78 5).toInt (M154.1 78 6).toInt (psX M154) (unR_g gf gn 4) (by omega) (by omega)
            refine j_aload_n C 0 0 dX8_both_46 rfl rfl ?_
            refine y_sipush C dX8_both_47 rfl ?_
            refine j_callVv C (d := 0) (As := [.int (sI 1015)]) (st := []) 78 (s_lt rfl rfl) (s_kc (c := 7) rfl rfl) (by decide) rfl (s1_X8_emit hM154 hpr 1015 (by omega) gf gn ((unR gf gn 4) (nxF gf gn gq137)).2.2 (by omega) (by omega)) gX8_both_X8_emit rfl hdX8_emit (by decide) (Nat.le_of_ble_eq_true rfl) dX8_both_50 rfl (fun M158 h159 => ?_)
            obtain ⟨hM158, h160⟩ := h159
            have bM158 := tkx_b (f := gf) (n := gn) (M := M158) (by omega)
            have qM158 := po_eq gn ((unR gf gn 4) (nxF gf gn gq137)).2.2 (M154.1 78 5).toInt (psX M154) (M158.1 78 5).toInt (psX M158) (by omega) (by omega) (by omega)
            refine y_iinc C 2 [(2, .int (sI (a135 + 1))), (0, .ref (ad 78)), (1, .int (sI 2))] dX8_both_53 rfl (by decide) rfl ?_
            have u161s := ll_s gf gn 1015 1015 (unR gf gn 4) ((unR gf gn 4) gi).2.2 gq137 a135 (M102.1 78 5).toInt (M102.1 78 6).toInt (M136.1 78 5).toInt (M136.1 78 6).toInt (psX M136) (M152.1 78 5).toInt (M152.1 78 6).toInt (M154.1 78 5).toInt (M154.1 78 6).toInt (psX M154) (M158.1 78 5).toInt (M158.1 78 6).toInt (psX M158) (by decide) (unR_g gf gn 4) (by omega) (by omega) (by omega) (by omega) (by omega) (by omega) (by omega) (by omega) (by omega)
            refine j_goto C 7 dX8_both_56 (by decide) ?_
            refine j_lv [1, 2, 0] rfl ?_; exact ih133 (a135 + 1) M158 ((unR gf gn 4) (nxF gf gn gq137)).2.2 (by omega) hM158
  refine j_lv [1, 2, 0] rfl ?_; exact L134 2010 0 M102 ((unR gf gn 4) gi).2.2 (by omega) hM102
set_option maxHeartbeats 4000000 in
theorem s6_X8_truth {l : Launch} {dC : Nat → ClassId} {dI : Nat → Nat → Nat} {ad : Nat → Nat} {cA : Nat → ClassId} {pr : Nat → Nat → Bool} {Kz : mm_M} {M0 : mm_M} (hM0 : INV pr Kz M0) (hpr : PX pr) (gf : Nat → Int) (gn : Int) (gi : Int) (hp0 : b01 (TKX gf gn M0) = 1) (hp1 : b01 (PO gn gi (M0.1 78 5).toInt (psX M0)) = 1) : Cv l 20 yX8_truth wsX8_truth dC dI ad cA [.ref (ad 78), .int (sI 2)] M0 (fun M' => INV pr Kz M' ∧ (b01 (TKX gf gn M') = 1) ∧ b01 (RR ((trP gf gn (unR gf gn 4)) gi) (M0.1 78 5).toInt (M0.1 78 6).toInt (M'.1 78 5).toInt (M'.1 78 6).toInt (psX M')) = 1) := by
  refine cv_of (cc := cX8_truth) (maxL := 3) (lv := [(0, .ref (ad 78)), (1, .int (sI 2))]) (by decide) rfl (Nat.le_of_ble_eq_true rfl) rfl ?_
  intro p e s m args below meth c A Q C hret
  refine j_aload_n C 0 0 dX8_truth_0 rfl rfl ?_
  refine j_iload_n C 1 1 dX8_truth_1 rfl rfl ?_
  refine j_callVv C (d := 19) (As := [.int (sI 2)]) (st := []) 78 (s_lt rfl rfl) (s_kc (c := 7) rfl rfl) (by decide) rfl (s6_X8_both hM0 hpr gf gn gi (by omega) (by omega)) gX8_truth_X8_both rfl hdX8_both (by decide) (Nat.le_of_ble_eq_true rfl) dX8_truth_2 rfl (fun M102 h103 => ?_)
  obtain ⟨hM102, h104⟩ := h103
  have bM102 := tkx_b (f := gf) (n := gn) (M := M102) (by omega)
  have qM102 := po_rr (boP gf gn (unR gf gn 4)) gn gi (M0.1 78 5).toInt (M0.1 78 6).toInt (psX M0) (M102.1 78 5).toInt (M102.1 78 6).toInt (psX M102) (bo_g gf gn (unR_g gf gn 4)) (by omega) (by omega)
  refine y_iconst C dX8_truth_5 ?_
  have u105l := ll_0 (luP gf gn 1014 1014 (boP gf gn (unR gf gn 4))) gn ((boP gf gn (unR gf gn 4)) gi).2.2 (M102.1 78 5).toInt (M102.1 78 6).toInt (psX M102) (by omega)
  refine j_istore_n C 2 [(2, .int (sI 0)), (0, .ref (ad 78)), (1, .int (sI 2))] dX8_truth_6 rfl (by decide) rfl ?_
  have L134 : ∀ (n132 : Nat), ∀ (a135 : Int) (M136 : mm_M) (gq137 : Int), (0 ≤ a135 ∧ a135 ≤ 900 ∧ (b01 (LL (luP gf gn 1014 1014 (boP gf gn (unR gf gn 4))) gn ((boP gf gn (unR gf gn 4)) gi).2.2 gq137 a135 (M102.1 78 5).toInt (M102.1 78 6).toInt (M136.1 78 5).toInt (M136.1 78 6).toInt (psX M136)) = 1) ∧ (b01 (TKX gf gn M136) = 1) ∧ (b01 (PO gn gq137 (M136.1 78 5).toInt (psX M136)) = 1) ∧ (900 - a135) < (n132 : Int)) → INV pr Kz M136 → jj p l e (cn_R 20) s m args below meth c 0 0 Q 3 dC dI ad cA A M136 7 [(0, .ref (ad 78)), (1, .int (sI 2)), (2, .int (sI a135))] [] := by
    intro n132
    induction n132 with
    | zero =>
      intro a135 M136 gq137 h138 hM136
      exfalso; omega
    | succ n132 ih133 =>
      intro a135 M136 gq137 h138 hM136
      have u139b := tkx_b (f := gf) (n := gn) (M := M136) (by omega)
      refine j_iload_n C 2 2 dX8_truth_7 rfl rfl ?_
      refine y_sipush C dX8_truth_8 rfl ?_
      refine y_icmp_ge C 59 dX8_truth_11 (by decide) (by omega) (fun h140 => ?_) (fun h140 => ?_)
      · have u162e := ll_e gf gn 1014 1014 (boP gf gn (unR gf gn 4)) ((boP gf gn (unR gf gn 4)) gi).2.2 gq137 a135 (M102.1 78 5).toInt (M102.1 78 6).toInt (M136.1 78 5).toInt (M136.1 78 6).toInt (psX M136) (by decide) (bo_g gf gn (unR_g gf gn 4)) (by omega) (by omega)
        have u162r : b01 (RR ((trP gf gn (unR gf gn 4)) gi) (M0.1 78 5).toInt (M0.1 78 6).toInt (M136.1 78 5).toInt (M136.1 78 6).toInt (psX M136)) = 1 := rr_sq ((boP gf gn (unR gf gn 4)) gi) (luP gf gn 1014 1014 (boP gf gn (unR gf gn 4))) (M0.1 78 5).toInt (M0.1 78 6).toInt (M102.1 78 5).toInt (M102.1 78 6).toInt (psX M102) (M136.1 78 5).toInt (M136.1 78 6).toInt (psX M136) (by omega) (by omega)
        exact hret _ _ _ dX8_truth_59 ⟨hM136, by omega⟩
      · refine j_aload_n C 0 0 dX8_truth_14 rfl rfl ?_
        refine y_getI C 7 _ _ fX8_truth_22 rfl rfl ft_7_5 sb_7_5 hM136 dX8_truth_15 (fun a141 ea141 la141 ua141 => ?_)
        refine y_if_ne C 59 dX8_truth_18 (by decide) (by omega) (fun h143 => ?_) (fun h143 => ?_)
        · have u163e := ll_e gf gn 1014 1014 (boP gf gn (unR gf gn 4)) ((boP gf gn (unR gf gn 4)) gi).2.2 gq137 a135 (M102.1 78 5).toInt (M102.1 78 6).toInt (M136.1 78 5).toInt (M136.1 78 6).toInt (psX M136) (by decide) (bo_g gf gn (unR_g gf gn 4)) (by omega) (by omega)
          have u163r : b01 (RR ((trP gf gn (unR gf gn 4)) gi) (M0.1 78 5).toInt (M0.1 78 6).toInt (M136.1 78 5).toInt (M136.1 78 6).toInt (psX M136)) = 1 := rr_sq ((boP gf gn (unR gf gn 4)) gi) (luP gf gn 1014 1014 (boP gf gn (unR gf gn 4))) (M0.1 78 5).toInt (M0.1 78 6).toInt (M102.1 78 5).toInt (M102.1 78 6).toInt (psX M102) (M136.1 78 5).toInt (M136.1 78 6).toInt (psX M136) (by omega) (by omega)
          exact hret _ _ _ dX8_truth_59 ⟨hM136, by omega⟩
        · refine j_aload_n C 0 0 dX8_truth_21 rfl rfl ?_
          refine j_callVi C (d := 0) (As := []) (st := []) 78 (s_lt rfl rfl) (s_kc (c := 7) rfl rfl) (by decide) rfl (s1_X8_token hM136 gf gn gq137 (by omega) (by omega)) gX8_truth_X8_token rfl hdX8_token (by decide) (Nat.le_of_ble_eq_true rfl) dX8_truth_22 rfl (fun r144 M145 h146 => ?_)
          obtain ⟨a148, rfl, rfl, h147⟩ := h146
          refine y_sipush C dX8_truth_25 rfl ?_
          refine y_icmp_ne C 59 dX8_truth_28 (by decide) (by omega) (fun h149 => ?_) (fun h149 => ?_)
          · have u164e := ll_e gf gn 1014 1014 (boP gf gn (unR gf gn 4)) ((boP gf gn (unR gf gn 4)) gi).2.2 gq137 a135 (M102.1 78 5).toInt (M102.1 78 6).toInt (M136.1 78 5).toInt (M136.1 78 6).toInt (psX M136) (by decide) (bo_g gf gn (unR_g gf gn 4)) (by omega) (by omega)
            have u164r : b01 (RR ((trP gf gn (unR gf gn 4)) gi) (M0.1 78 5).toInt (M0.1 78 6).toInt (M136.1 78 5).toInt (M136.1 78 6).toInt (psX M136)) = 1 := rr_sq ((boP gf gn (unR gf gn 4)) gi) (luP gf gn 1014 1014 (boP gf gn (unR gf gn 4))) (M0.1 78 5).toInt (M0.1 78 6).toInt (M102.1 78 5).toInt (M102.1 78 6).toInt (psX M102) (M136.1 78 5).toInt (M136.1 78 6).toInt (psX M136) (by omega) (by omega)
            exact hret _ _ _ dX8_truth_59 ⟨hM136, by omega⟩
          · refine j_aload_n C 0 0 dX8_truth_31 rfl rfl ?_
            refine j_dup C dX8_truth_32 rfl ?_
            refine y_getI C 7 _ _ fX8_truth_18 rfl rfl ft_7_2 sb_7_2 hM136 dX8_truth_33 (fun a150 ea150 la150 ua150 => ?_)
            refine y_iconst C dX8_truth_36 ?_
            refine y_iadd C dX8_truth_37 ?_
            refine y_putI C 7 _ _ qX8_truth_18 rfl rfl ft_7_2 sb_7_2 hM136 (PX.w hpr rfl rfl) dX8_truth_38 (by omega) (fun M152 eM152 hM152 => ?_)
            have xM152 := tkx_j (f := gf) (n := gn) (gi := gq137) eM152 (by omega) (by omega) (by omega) (by omega)
            refine j_aload_n C 0 0 dX8_truth_41 rfl rfl ?_
            refine j_iload_n C 1 1 dX8_truth_42 rfl rfl ?_
            refine j_callVv C (d := 19) (As := [.int (sI 2)]) (st := []) 78 (s_lt rfl rfl) (s_kc (c := 7) rfl rfl) (by decide) rfl (s6_X8_both hM152 hpr gf gn (nxF gf gn gq137) (by omega) (by omega)) gX8_truth_X8_both rfl hdX8_both (by decide) (Nat.le_of_ble_eq_true rfl) dX8_truth_43 rfl (fun M154 h155 => ?_)
            obtain ⟨hM154, h156⟩ := h155
            have bM154 := tkx_b (f := gf) (n := gn) (M := M154) (by omega)
            have qM154 := po_rr (boP gf gn (unR gf gn 4)) gn (nxF gf gn gq137) (M152.1 78 5).toInt (M152.1 78 6).toInt (psX M152) (M154.1 78 5).toInt (M154.1 78 6).toInt (psX M154) (bo_g gf gn (unR_g gf gn 4)) (by omega) (by omega)
            refine j_aload_n C 0 0 dX8_truth_46 rfl rfl ?_
            refine y_sipush C dX8_truth_47 rfl ?_
            refine j_callVv C (d := 0) (As := [.int (sI 1014)]) (st := []) 78 (s_lt rfl rfl) (s_kc (c := 7) rfl rfl) (by decide) rfl (s1_X8_emit hM154 hpr 1014 (by omega) gf gn ((boP gf gn (unR gf gn 4)) (nxF gf gn gq137)).2.2 (by omega) (by omega)) gX8_truth_X8_emit rfl hdX8_emit (by decide) (Nat.le_of_ble_eq_true rfl) dX8_truth_50 rfl (fun M158 h159 => ?_)
            obtain ⟨hM158, h160⟩ := h159
            have bM158 := tkx_b (f := gf) (n := gn) (M := M158) (by omega)
            have qM158 := po_eq gn ((boP gf gn (unR gf gn 4)) (nxF gf gn gq137)).2.2 (M154.1 78 5).toInt (psX M154) (M158.1 78 5).toInt (psX M158) (by omega) (by omega) (by omega)
            refine y_iinc C 2 [(2, .int (sI (a135 + 1))), (0, .ref (ad 78)), (1, .int (sI 2))] dX8_truth_53 rfl (by decide) rfl ?_
            have u161s := ll_s gf gn 1014 1014 (boP gf gn (unR gf gn 4)) ((boP gf gn (unR gf gn 4)) gi).2.2 gq137 a135 (M102.1 78 5).toInt (M102.1 78 6).toInt (M136.1 78 5).toInt (M136.1 78 6).toInt (psX M136) (M152.1 78 5).toInt (M152.1 78 6).toInt (M154.1 78 5).toInt (M154.1 78 6).toInt (psX M154) (M158.1 78 5).toInt (M158.1 78 6).toInt (psX M158) (by decide) (bo_g gf gn (unR_g gf gn 4)) (by omega) (by omega) (by omega) (by omega) (by omega) (by omega) (by omega) (by omega) (by omega)
            refine j_goto C 7 dX8_truth_56 (by decide) ?_
            refine j_lv [1, 2, 0] rfl ?_; exact ih133 (a135 + 1) M158 ((boP gf gn (unR gf gn 4)) (nxF gf gn gq137)).2.2 (by omega) hM158
  refine j_lv [1, 2, 0] rfl ?_; exact L134 2010 0 M102 ((boP gf gn (unR gf gn 4)) gi).2.2 (by omega) hM102
set_option maxHeartbeats 4000000 in
theorem s7_X8_unit {l : Launch} {dC : Nat → ClassId} {dI : Nat → Nat → Nat} {ad : Nat → Nat} {cA : Nat → ClassId} {pr : Nat → Nat → Bool} {Kz : mm_M} {M0 : mm_M} (hM0 : INV pr Kz M0) (hpr : PX pr) (gf : Nat → Int) (gn : Int) (gi : Int) (hp0 : b01 (TKX gf gn M0) = 1) (hp1 : b01 (PO gn gi (M0.1 78 5).toInt (psX M0)) = 1) : Cv l 21 yX8_unit wsX8_unit dC dI ad cA [.ref (ad 78), .int (sI 1)] M0 (fun M' => INV pr Kz M' ∧ (b01 (TKX gf gn M') = 1) ∧ b01 (RR ((unR gf gn 5) gi) (M0.1 78 5).toInt (M0.1 78 6).toInt (M'.1 78 5).toInt (M'.1 78 6).toInt (psX M')) = 1) := by
  refine cv_of (cc := cX8_unit) (maxL := 4) (lv := [(0, .ref (ad 78)), (1, .int (sI 1))]) (by decide) rfl (Nat.le_of_ble_eq_true rfl) rfl ?_
  intro p e s m args below meth c A Q C hret
  refine j_aload_n C 0 0 dX8_unit_0 rfl rfl ?_
  refine y_getI C 7 _ _ fX8_unit_22 rfl rfl ft_7_5 sb_7_5 hM0 dX8_unit_1 (fun a101 ea101 la101 ua101 => ?_)
  refine y_if_eq C 8 dX8_unit_4 (by decide) (by omega) (fun h103 => ?_) (fun h103 => ?_)
  · refine j_aload_n C 0 0 dX8_unit_8 rfl rfl ?_
    refine j_callVi C (d := 0) (As := []) (st := []) 78 (s_lt rfl rfl) (s_kc (c := 7) rfl rfl) (by decide) rfl (s1_X8_token hM0 gf gn gi (by omega) (by omega)) gX8_unit_X8_token rfl hdX8_token (by decide) (Nat.le_of_ble_eq_true rfl) dX8_unit_9 rfl (fun r104 M105 h106 => ?_)
    obtain ⟨a108, rfl, rfl, h107⟩ := h106
    refine j_istore_n C 2 [(2, .int (sI a108)), (0, .ref (ad 78)), (1, .int (sI 1))] dX8_unit_12 rfl (by decide) rfl ?_
    refine j_iload_n C 0 2 dX8_unit_13 rfl rfl ?_
    refine y_sipush C dX8_unit_14 rfl ?_
    refine y_icmp_ne C 42 dX8_unit_17 (by decide) (by omega) (fun h109 => ?_) (fun h109 => ?_)
    · refine j_iload_n C 0 2 dX8_unit_42 rfl rfl ?_
      refine y_sipush C dX8_unit_43 rfl ?_
      refine y_icmp_ne C 71 dX8_unit_46 (by decide) (by omega) (fun h110 => ?_) (fun h110 => ?_)
      · refine j_aload_n C 1 0 dX8_unit_71 rfl rfl ?_
        refine j_iload_n C 2 1 dX8_unit_72 rfl rfl ?_
        refine j_callVv C (d := 20) (As := [.int (sI 1)]) (st := []) 78 (s_lt rfl rfl) (s_kc (c := 7) rfl rfl) (by decide) rfl (s7_X8_sum hM0 hpr gf gn gi (by omega) (by omega)) gX8_unit_X8_sum rfl hdX8_sum (by decide) (Nat.le_of_ble_eq_true rfl) dX8_unit_73 rfl (fun M112 h113 => ?_)
        obtain ⟨hM112, h114⟩ := h113
        have bM112 := tkx_b (f := gf) (n := gn) (M := M112) (by omega)
        have qM112 := po_rr (suR gf gn 5) gn gi (M0.1 78 5).toInt (M0.1 78 6).toInt (psX M0) (M112.1 78 5).toInt (M112.1 78 6).toInt (psX M112) (suR_g gf gn 5) (by omega) (by omega)
        refine j_aload_n C 1 0 dX8_unit_76 rfl rfl ?_
        refine j_callVi C (d := 0) (As := []) (st := []) 78 (s_lt rfl rfl) (s_kc (c := 7) rfl rfl) (by decide) rfl (s1_X8_token hM112 gf gn ((suR gf gn 5) gi).2.2 (by omega) (by omega)) gX8_unit_X8_token rfl hdX8_token (by decide) (Nat.le_of_ble_eq_true rfl) dX8_unit_77 rfl (fun r115 M116 h117 => ?_)
        obtain ⟨a119, rfl, rfl, h118⟩ := h117
        refine j_istore_n C 3 [(3, .int (sI a119)), (2, .int (sI a108)), (0, .ref (ad 78)), (1, .int (sI 1))] dX8_unit_80 rfl (by decide) rfl ?_
        refine j_iload_n C 0 3 dX8_unit_81 rfl rfl ?_
        refine y_sipush C dX8_unit_82 rfl ?_
        refine y_icmp_eq C 102 dX8_unit_85 (by decide) (by omega) (fun h120 => ?_) (fun h120 => ?_)
        · refine j_aload_n C 2 0 dX8_unit_102 rfl rfl ?_
          refine j_dup C dX8_unit_103 rfl ?_
          refine y_getI C 7 _ _ fX8_unit_18 rfl rfl ft_7_2 sb_7_2 hM112 dX8_unit_104 (fun a121 ea121 la121 ua121 => ?_)
          refine y_iconst C dX8_unit_107 ?_
          refine y_iadd C dX8_unit_108 ?_
          refine y_putI C 7 _ _ qX8_unit_18 rfl rfl ft_7_2 sb_7_2 hM112 (PX.w hpr rfl rfl) dX8_unit_109 (by omega) (fun M123 eM123 hM123 => ?_)
          have xM123 := tkx_j (f := gf) (n := gn) (gi := ((suR gf gn 5) gi).2.2) eM123 (by omega) (by omega) (by omega) (by omega)
          refine j_aload_n C 2 0 dX8_unit_112 rfl rfl ?_
          refine j_iload_n C 3 1 dX8_unit_113 rfl rfl ?_
          refine j_callVv C (d := 20) (As := [.int (sI 1)]) (st := []) 78 (s_lt rfl rfl) (s_kc (c := 7) rfl rfl) (by decide) rfl (s7_X8_sum hM123 hpr gf gn (nxF gf gn ((suR gf gn 5) gi).2.2) (by omega) (by omega)) gX8_unit_X8_sum rfl hdX8_sum (by decide) (Nat.le_of_ble_eq_true rfl) dX8_unit_114 rfl (fun M125 h126 => ?_)
          obtain ⟨hM125, h127⟩ := h126
          have bM125 := tkx_b (f := gf) (n := gn) (M := M125) (by omega)
          have qM125 := po_rr (suR gf gn 5) gn (nxF gf gn ((suR gf gn 5) gi).2.2) (M123.1 78 5).toInt (M123.1 78 6).toInt (psX M123) (M125.1 78 5).toInt (M125.1 78 6).toInt (psX M125) (suR_g gf gn 5) (by omega) (by omega)
          refine j_aload_n C 2 0 dX8_unit_117 rfl rfl ?_
          refine j_iload_n C 0 3 dX8_unit_118 rfl rfl ?_
          refine j_callVv C (d := 0) (As := [.int (sI a119)]) (st := []) 78 (s_lt rfl rfl) (s_kc (c := 7) rfl rfl) (by decide) rfl (s1_X8_emit hM125 hpr a119 (by omega) gf gn ((suR gf gn 5) (nxF gf gn ((suR gf gn 5) gi).2.2)).2.2 (by omega) (by omega)) gX8_unit_X8_emit rfl hdX8_emit (by decide) (Nat.le_of_ble_eq_true rfl) dX8_unit_119 rfl (fun M129 h130 => ?_)
          obtain ⟨hM129, h131⟩ := h130
          have bM129 := tkx_b (f := gf) (n := gn) (M := M129) (by omega)
          have qM129 := po_eq gn ((suR gf gn 5) (nxF gf gn ((suR gf gn 5) gi).2.2)).2.2 (M125.1 78 5).toInt (psX M125) (M129.1 78 5).toInt (psX M129) (by omega) (by omega) (by omega)
          refine j_goto C 130 dX8_unit_122 (by decide) ?_
          have u132r := un_4 gf gn 5 gi (M0.1 78 5).toInt (M0.1 78 6).toInt (psX M0) (M112.1 78 5).toInt (M112.1 78 6).toInt (psX M112) (M123.1 78 5).toInt (M123.1 78 6).toInt (M125.1 78 5).toInt (M125.1 78 6).toInt (psX M125) (M129.1 78 5).toInt (M129.1 78 6).toInt (psX M129) (by omega) (by omega) (by omega) (by omega) (by omega) (by omega) (by omega) (by omega) (by omega) (by omega) (by omega)
          exact hret _ _ _ dX8_unit_130 ⟨hM129, by omega⟩
        · refine j_iload_n C 0 3 dX8_unit_88 rfl rfl ?_
          refine y_sipush C dX8_unit_89 rfl ?_
          refine y_icmp_eq C 102 dX8_unit_92 (by decide) (by omega) (fun h133 => ?_) (fun h133 => ?_)
          · refine j_aload_n C 2 0 dX8_unit_102 rfl rfl ?_
            refine j_dup C dX8_unit_103 rfl ?_
            refine y_getI C 7 _ _ fX8_unit_18 rfl rfl ft_7_2 sb_7_2 hM112 dX8_unit_104 (fun a134 ea134 la134 ua134 => ?_)
            refine y_iconst C dX8_unit_107 ?_
            refine y_iadd C dX8_unit_108 ?_
            refine y_putI C 7 _ _ qX8_unit_18 rfl rfl ft_7_2 sb_7_2 hM112 (PX.w hpr rfl rfl) dX8_unit_109 (by omega) (fun M136 eM136 hM136 => ?_)
            have xM136 := tkx_j (f := gf) (n := gn) (gi := ((suR gf gn 5) gi).2.2) eM136 (by omega) (by omega) (by omega) (by omega)
            refine j_aload_n C 2 0 dX8_unit_112 rfl rfl ?_
            refine j_iload_n C 3 1 dX8_unit_113 rfl rfl ?_
            refine j_callVv C (d := 20) (As := [.int (sI 1)]) (st := []) 78 (s_lt rfl rfl) (s_kc (c := 7) rfl rfl) (by decide) rfl (s7_X8_sum hM136 hpr gf gn (nxF gf gn ((suR gf gn 5) gi).2.2) (by omega) (by omega)) gX8_unit_X8_sum rfl hdX8_sum (by decide) (Nat.le_of_ble_eq_true rfl) dX8_unit_114 rfl (fun M138 h139 => ?_)
            obtain ⟨hM138, h140⟩ := h139
            have bM138 := tkx_b (f := gf) (n := gn) (M := M138) (by omega)
            have qM138 := po_rr (suR gf gn 5) gn (nxF gf gn ((suR gf gn 5) gi).2.2) (M136.1 78 5).toInt (M136.1 78 6).toInt (psX M136) (M138.1 78 5).toInt (M138.1 78 6).toInt (psX M138) (suR_g gf gn 5) (by omega) (by omega)
            refine j_aload_n C 2 0 dX8_unit_117 rfl rfl ?_
            refine j_iload_n C 0 3 dX8_unit_118 rfl rfl ?_
            refine j_callVv C (d := 0) (As := [.int (sI a119)]) (st := []) 78 (s_lt rfl rfl) (s_kc (c := 7) rfl rfl) (by decide) rfl (s1_X8_emit hM138 hpr a119 (by omega) gf gn ((suR gf gn 5) (nxF gf gn ((suR gf gn 5) gi).2.2)).2.2 (by omega) (by omega)) gX8_unit_X8_emit rfl hdX8_emit (by decide) (Nat.le_of_ble_eq_true rfl) dX8_unit_119 rfl (fun M142 h143 => ?_)
            obtain ⟨hM142, h144⟩ := h143
            have bM142 := tkx_b (f := gf) (n := gn) (M := M142) (by omega)
            have qM142 := po_eq gn ((suR gf gn 5) (nxF gf gn ((suR gf gn 5) gi).2.2)).2.2 (M138.1 78 5).toInt (psX M138) (M142.1 78 5).toInt (psX M142) (by omega) (by omega) (by omega)
            refine j_goto C 130 dX8_unit_122 (by decide) ?_
            have u145r := un_4 gf gn 5 gi (M0.1 78 5).toInt (M0.1 78 6).toInt (psX M0) (M112.1 78 5).toInt (M112.1 78 6).toInt (psX M112) (M136.1 78 5).toInt (M136.1 78 6).toInt (M138.1 78 5).toInt (M138.1 78 6).toInt (psX M138) (M142.1 78 5).toInt (M142.1 78 6).toInt (psX M142) (by omega) (by omega) (by omega) (by omega) (by omega) (by omega) (by omega) (by omega) (by omega) (by omega) (by omega)
            exact hret _ _ _ dX8_unit_130 ⟨hM142, by omega⟩
          · refine j_iload_n C 0 3 dX8_unit_95 rfl rfl ?_
            refine y_sipush C dX8_unit_96 rfl ?_
            refine y_icmp_ne C 125 dX8_unit_99 (by decide) (by omega) (fun h146 => ?_) (fun h146 => ?_)
            · refine j_aload_n C 2 0 dX8_unit_125 rfl rfl ?_
              refine y_iconst C dX8_unit_126 ?_
              refine j_callVv C (d := 0) (As := [.int (sI 2)]) (st := []) 78 (s_lt rfl rfl) (s_kc (c := 7) rfl rfl) (by decide) rfl (s1_X8_fail hM112 hpr 2 (by omega) gf gn ((suR gf gn 5) gi).2.2 (by omega) (by omega) (by omega)) gX8_unit_X8_fail rfl hdX8_fail (by decide) (Nat.le_of_ble_eq_true rfl) dX8_unit_127 rfl (fun M148 h149 => ?_)
              obtain ⟨hM148, fM148, h150⟩ := h149
              have bM148 := tkx_b (f := gf) (n := gn) (M := M148) (by omega)
              have qM148 := po_f gn ((faQ gf gn 2) ((suR gf gn 5) gi).2.2).2.2 (M148.1 78 5).toInt (psX M148) (by omega)
              have u151r := un_5 gf gn 5 gi (M0.1 78 5).toInt (M0.1 78 6).toInt (psX M0) (M112.1 78 5).toInt (M112.1 78 6).toInt (psX M112) (M148.1 78 5).toInt (M148.1 78 6).toInt (psX M148) (by omega) (by omega) (by omega) (by omega) (fun _ => by omega) (by omega)
              exact hret _ _ _ dX8_unit_130 ⟨hM148, by omega⟩
            · refine j_aload_n C 2 0 dX8_unit_102 rfl rfl ?_
              refine j_dup C dX8_unit_103 rfl ?_
              refine y_getI C 7 _ _ fX8_unit_18 rfl rfl ft_7_2 sb_7_2 hM112 dX8_unit_104 (fun a152 ea152 la152 ua152 => ?_)
              refine y_iconst C dX8_unit_107 ?_
              refine y_iadd C dX8_unit_108 ?_
              refine y_putI C 7 _ _ qX8_unit_18 rfl rfl ft_7_2 sb_7_2 hM112 (PX.w hpr rfl rfl) dX8_unit_109 (by omega) (fun M154 eM154 hM154 => ?_)
              have xM154 := tkx_j (f := gf) (n := gn) (gi := ((suR gf gn 5) gi).2.2) eM154 (by omega) (by omega) (by omega) (by omega)
              refine j_aload_n C 2 0 dX8_unit_112 rfl rfl ?_
              refine j_iload_n C 3 1 dX8_unit_113 rfl rfl ?_
              refine j_callVv C (d := 20) (As := [.int (sI 1)]) (st := []) 78 (s_lt rfl rfl) (s_kc (c := 7) rfl rfl) (by decide) rfl (s7_X8_sum hM154 hpr gf gn (nxF gf gn ((suR gf gn 5) gi).2.2) (by omega) (by omega)) gX8_unit_X8_sum rfl hdX8_sum (by decide) (Nat.le_of_ble_eq_true rfl) dX8_unit_114 rfl (fun M156 h157 => ?_)
              obtain ⟨hM156, h158⟩ := h157
              have bM156 := tkx_b (f := gf) (n := gn) (M := M156) (by omega)
              have qM156 := po_rr (suR gf gn 5) gn (nxF gf gn ((suR gf gn 5) gi).2.2) (M154.1 78 5).toInt (M154.1 78 6).toInt (psX M154) (M156.1 78 5).toInt (M156.1 78 6).toInt (psX M156) (suR_g gf gn 5) (by omega) (by omega)
              refine j_aload_n C 2 0 dX8_unit_117 rfl rfl ?_
              refine j_iload_n C 0 3 dX8_unit_118 rfl rfl ?_
              refine j_callVv C (d := 0) (As := [.int (sI a119)]) (st := []) 78 (s_lt rfl rfl) (s_kc (c := 7) rfl rfl) (by decide) rfl (s1_X8_emit hM156 hpr a119 (by omega) gf gn ((suR gf gn 5) (nxF gf gn ((suR gf gn 5) gi).2.2)).2.2 (by omega) (by omega)) gX8_unit_X8_emit rfl hdX8_emit (by decide) (Nat.le_of_ble_eq_true rfl) dX8_unit_119 rfl (fun M160 h161 => ?_)
              obtain ⟨hM160, h162⟩ := h161
              have bM160 := tkx_b (f := gf) (n := gn) (M := M160) (by omega)
              have qM160 := po_eq gn ((suR gf gn 5) (nxF gf gn ((suR gf gn 5) gi).2.2)).2.2 (M156.1 78 5).toInt (psX M156) (M160.1 78 5).toInt (psX M160) (by omega) (by omega) (by omega)
              refine j_goto C 130 dX8_unit_122 (by decide) ?_
              have u163r := un_4 gf gn 5 gi (M0.1 78 5).toInt (M0.1 78 6).toInt (psX M0) (M112.1 78 5).toInt (M112.1 78 6).toInt (psX M112) (M154.1 78 5).toInt (M154.1 78 6).toInt (M156.1 78 5).toInt (M156.1 78 6).toInt (psX M156) (M160.1 78 5).toInt (M160.1 78 6).toInt (psX M160) (by omega) (by omega) (by omega) (by omega) (by omega) (by omega) (by omega) (by omega) (by omega) (by omega) (by omega)
              exact hret _ _ _ dX8_unit_130 ⟨hM160, by omega⟩
      · refine j_aload_n C 1 0 dX8_unit_49 rfl rfl ?_
        refine j_iload_n C 2 1 dX8_unit_50 rfl rfl ?_
        refine j_callVv C (d := 0) (As := [.int (sI 1)]) (st := []) 78 (s_lt rfl rfl) (s_kc (c := 7) rfl rfl) (by decide) rfl (s2_X8_goDeeper hM0 hpr gf gn gi (by omega) (by omega) (by omega) (by omega) (by omega)) gX8_unit_X8_goDeeper rfl hdX8_goDeeper (by decide) (Nat.le_of_ble_eq_true rfl) dX8_unit_51 rfl (fun M165 h166 => ?_)
        obtain ⟨hM165, fM165, h167⟩ := h166
        have bM165 := tkx_b (f := gf) (n := gn) (M := M165) (by omega)
        refine j_aload_n C 1 0 dX8_unit_54 rfl rfl ?_
        refine j_iload_n C 2 1 dX8_unit_55 rfl rfl ?_
        refine y_iconst C dX8_unit_56 ?_
        refine y_iadd C dX8_unit_57 ?_
        refine j_callVv C (d := 20) (As := [.int (sI (1 + 1))]) (st := []) 78 (s_lt rfl rfl) (s_kc (c := 7) rfl rfl) (by decide) rfl (s6_X8_truth hM165 hpr gf gn (nxF gf gn gi) (by omega) (by omega)) gX8_unit_X8_truth rfl hdX8_truth (by decide) (Nat.le_of_ble_eq_true rfl) dX8_unit_58 rfl (fun M169 h170 => ?_)
        obtain ⟨hM169, h171⟩ := h170
        have bM169 := tkx_b (f := gf) (n := gn) (M := M169) (by omega)
        have qM169 := po_rr (trP gf gn (unR gf gn 4)) gn (nxF gf gn gi) (M165.1 78 5).toInt (M165.1 78 6).toInt (psX M165) (M169.1 78 5).toInt (M169.1 78 6).toInt (psX M169) (tr_g gf gn (unR_g gf gn 4)) (by omega) (by omega)
        refine j_aload_n C 1 0 dX8_unit_61 rfl rfl ?_
        refine y_sipush C dX8_unit_62 rfl ?_
        refine j_callVv C (d := 1) (As := [.int (sI 2093)]) (st := []) 78 (s_lt rfl rfl) (s_kc (c := 7) rfl rfl) (by decide) rfl (s1_X8_expect hM169 hpr 2093 (by omega) gf gn ((trP gf gn (unR gf gn 4)) (nxF gf gn gi)).2.2 (by omega) (by omega) (by omega) (by omega)) gX8_unit_X8_expect rfl hdX8_expect (by decide) (Nat.le_of_ble_eq_true rfl) dX8_unit_65 rfl (fun M173 h174 => ?_)
        obtain ⟨hM173, fM173, h175⟩ := h174
        have bM173 := tkx_b (f := gf) (n := gn) (M := M173) (by omega)
        have qM173 := po_rr (exP gf gn 2093) gn ((trP gf gn (unR gf gn 4)) (nxF gf gn gi)).2.2 (M169.1 78 5).toInt (M169.1 78 6).toInt (psX M169) (M173.1 78 5).toInt (M173.1 78 6).toInt (psX M173) (ex_g gf gn 2093 (by omega)) (by omega) (by omega)
        refine j_goto C 130 dX8_unit_68 (by decide) ?_
        have u176r := un_2 gf gn 4 5 rfl gi (M0.1 78 5).toInt (M0.1 78 6).toInt (psX M0) (M165.1 78 5).toInt (M165.1 78 6).toInt (M169.1 78 5).toInt (M169.1 78 6).toInt (psX M169) (M173.1 78 5).toInt (M173.1 78 6).toInt (psX M173) (by omega) (by omega) (by omega) (by omega) (by omega) (by omega)
        exact hret _ _ _ dX8_unit_130 ⟨hM173, by omega⟩
    · refine j_aload_n C 1 0 dX8_unit_20 rfl rfl ?_
      refine j_iload_n C 2 1 dX8_unit_21 rfl rfl ?_
      refine j_callVv C (d := 0) (As := [.int (sI 1)]) (st := []) 78 (s_lt rfl rfl) (s_kc (c := 7) rfl rfl) (by decide) rfl (s2_X8_goDeeper hM0 hpr gf gn gi (by omega) (by omega) (by omega) (by omega) (by omega)) gX8_unit_X8_goDeeper rfl hdX8_goDeeper (by decide) (Nat.le_of_ble_eq_true rfl) dX8_unit_22 rfl (fun M178 h179 => ?_)
      obtain ⟨hM178, fM178, h180⟩ := h179
      have bM178 := tkx_b (f := gf) (n := gn) (M := M178) (by omega)
      refine j_aload_n C 1 0 dX8_unit_25 rfl rfl ?_
      refine j_iload_n C 2 1 dX8_unit_26 rfl rfl ?_
      refine y_iconst C dX8_unit_27 ?_
      refine y_iadd C dX8_unit_28 ?_
      refine j_callVv C (d := 18) (As := [.int (sI (1 + 1))]) (st := []) 78 (s_lt rfl rfl) (s_kc (c := 7) rfl rfl) (by decide) rfl (s6_X8_unit hM178 hpr gf gn (nxF gf gn gi) (by omega) (by omega)) gX8_unit_X8_unit rfl hdX8_unit (by decide) (Nat.le_of_ble_eq_true rfl) dX8_unit_29 rfl (fun M182 h183 => ?_)
      obtain ⟨hM182, h184⟩ := h183
      have bM182 := tkx_b (f := gf) (n := gn) (M := M182) (by omega)
      have qM182 := po_rr (unR gf gn 4) gn (nxF gf gn gi) (M178.1 78 5).toInt (M178.1 78 6).toInt (psX M178) (M182.1 78 5).toInt (M182.1 78 6).toInt (psX M182) (unR_g gf gn 4) (by omega) (by omega)
      refine j_aload_n C 1 0 dX8_unit_32 rfl rfl ?_
      refine y_sipush C dX8_unit_33 rfl ?_
      refine j_callVv C (d := 0) (As := [.int (sI 1016)]) (st := []) 78 (s_lt rfl rfl) (s_kc (c := 7) rfl rfl) (by decide) rfl (s1_X8_emit hM182 hpr 1016 (by omega) gf gn ((unR gf gn 4) (nxF gf gn gi)).2.2 (by omega) (by omega)) gX8_unit_X8_emit rfl hdX8_emit (by decide) (Nat.le_of_ble_eq_true rfl) dX8_unit_36 rfl (fun M186 h187 => ?_)
      obtain ⟨hM186, h188⟩ := h187
      have bM186 := tkx_b (f := gf) (n := gn) (M := M186) (by omega)
      have qM186 := po_eq gn ((unR gf gn 4) (nxF gf gn gi)).2.2 (M182.1 78 5).toInt (psX M182) (M186.1 78 5).toInt (psX M186) (by omega) (by omega) (by omega)
      refine j_goto C 130 dX8_unit_39 (by decide) ?_
      have u189r := un_1 gf gn 4 5 rfl gi (M0.1 78 5).toInt (M0.1 78 6).toInt (psX M0) (M178.1 78 5).toInt (M178.1 78 6).toInt (M182.1 78 5).toInt (M182.1 78 6).toInt (psX M182) (M186.1 78 5).toInt (M186.1 78 6).toInt (psX M186) (by omega) (by omega) (by omega) (by omega) (by omega) (by omega) (by omega) (by omega)
      exact hret _ _ _ dX8_unit_130 ⟨hM186, by omega⟩
  · have u190r := rr_no ((unR gf gn 5) gi) (M0.1 78 5).toInt (M0.1 78 6).toInt (M0.1 78 5).toInt (M0.1 78 6).toInt (psX M0) (by omega) rfl rfl
    exact hret _ _ _ dX8_unit_7 ⟨hM0, by omega⟩
