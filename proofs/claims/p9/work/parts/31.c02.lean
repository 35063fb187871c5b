set_option maxHeartbeats 4000000 in
theorem s2_X8_sum {l : Launch} {dC : Nat → ClassId} {dI : Nat → Nat → Nat} {ad : Nat → Nat} {cA : Nat → ClassId} {pr : Nat → Nat → Bool} {Kz : mm_M} {M0 : mm_M} (hM0 : INV pr Kz M0) (hpr : PX pr) (gf : Nat → Int) (gn : Int) (gi : Int) (hp0 : csX M0 ≤ (M0.1 78 2).toInt) (hp1 : b01 (TKX gf gn M0) = 1) (hp2 : b01 (PO gn gi (M0.1 78 5).toInt (psX M0)) = 1) : Cv l 5 yX8_sum wsX8_sum dC dI ad cA [.ref (ad 78), .int (sI 6)] M0 (fun M' => INV pr Kz M' ∧ (csX M' - csX M0 ≤ (M'.1 78 2).toInt - (M0.1 78 2).toInt) ∧ (b01 (CL AGC (M'.1 78 5).toInt M0 M' ((sLR gf gn 0) gi)) = 1) ∧ (b01 (TKX gf gn M') = 1) ∧ b01 (RR ((suR gf gn 0) gi) (M0.1 78 5).toInt (M0.1 78 6).toInt (M'.1 78 5).toInt (M'.1 78 6).toInt (psX M')) = 1 ∧ (b01 (RFX M0 M') = 1)) := by
  refine cv_of (cc := cX8_sum) (maxL := 4) (lv := [(0, .ref (ad 78)), (1, .int (sI 6))]) (by decide) rfl (Nat.le_of_ble_eq_true rfl) rfl ?_
  intro p e s m args below meth c A Q C hret
  refine j_aload_n C 0 0 dX8_sum_0 rfl rfl ?_
  refine j_iload_n C 1 1 dX8_sum_1 rfl rfl ?_
  refine j_callVv C (d := 4) (As := [.int (sI 6)]) (st := []) 78 (s_lt rfl rfl) (s_kc (c := 7) rfl rfl) (by decide) rfl (s2_X8_term hM0 hpr gf gn gi (by omega) (by omega) (by omega)) gX8_sum_X8_term rfl hdX8_term (by decide) (Nat.le_of_ble_eq_true rfl) dX8_sum_2 rfl (fun M102 h103 => ?_)
  obtain ⟨hM102, h104⟩ := h103
  have bM102 := tkx_b (f := gf) (n := gn) (M := M102) (by omega)
  have qM102 := po_rr (teP gf gn true (fun i => (0, 0, i))) gn gi (M0.1 78 5).toInt (M0.1 78 6).toInt (psX M0) (M102.1 78 5).toInt (M102.1 78 6).toInt (psX M102) (te_g gf gn (fun h => by cases h)) (by omega) (by omega)
  refine j_aload_n C 0 0 dX8_sum_5 rfl rfl ?_
  refine j_callVi C (d := 0) (As := []) (st := []) 78 (s_lt rfl rfl) (s_kc (c := 7) rfl rfl) (by decide) rfl (s1_X8_token hM102 gf gn ((teP gf gn true (fun i => (0, 0, i))) gi).2.2 (by omega) (by omega)) gX8_sum_X8_token rfl hdX8_token (by decide) (Nat.le_of_ble_eq_true rfl) dX8_sum_6 rfl (fun r105 M106 h107 => ?_)
  obtain ⟨a109, rfl, rfl, h108⟩ := h107
  refine j_istore_n C 2 [(2, .int (sI a109)), (0, .ref (ad 78)), (1, .int (sI 6))] dX8_sum_9 rfl (by decide) rfl ?_
  refine y_iconst C dX8_sum_10 ?_
  have u110l := ll_0 (luP gf gn 2043 2045 (teP gf gn true (fun i => (0, 0, i)))) gn ((teP gf gn true (fun i => (0, 0, i))) gi).2.2 (M102.1 78 5).toInt (M102.1 78 6).toInt (psX M102) (by omega)
  have u110c := lc_0 (A := AGC) (M102.1 78 5).toInt (luL gf gn 2043 2045 (teP gf gn true (fun i => (0, 0, i))) (teL gf gn true (fun i => (0, 0, i)) (fun _ => []))) ((teP gf gn true (fun i => (0, 0, i))) gi).2.2 M102
  refine j_istore_n C 3 [(3, .int (sI 0)), (2, .int (sI a109)), (0, .ref (ad 78)), (1, .int (sI 6))] dX8_sum_11 rfl (by decide) rfl ?_
  have L160 : ∀ (n158 : Nat), ∀ (a161 : Int) (a162 : Int) (M163 : mm_M) (gq164 : Int), ((-2147483648) ≤ a161 ∧ a161 ≤ 2147483647 ∧ 0 ≤ a162 ∧ a162 ≤ 900 ∧ (b01 (LL (luP gf gn 2043 2045 (teP gf gn true (fun i => (0, 0, i)))) gn ((teP gf gn true (fun i => (0, 0, i))) gi).2.2 gq164 a162 (M102.1 78 5).toInt (M102.1 78 6).toInt (M163.1 78 5).toInt (M163.1 78 6).toInt (psX M163)) = 1) ∧ (a161 = tkF gf gn (psX M163)) ∧ (b01 (LC AGC (M163.1 78 5).toInt (luL gf gn 2043 2045 (teP gf gn true (fun i => (0, 0, i))) (teL gf gn true (fun i => (0, 0, i)) (fun _ => []))) ((teP gf gn true (fun i => (0, 0, i))) gi).2.2 gq164 M102 M163) = 1) ∧ (csX M163 - csX M102 ≤ (M163.1 78 2).toInt - (M102.1 78 2).toInt) ∧ (b01 (TKX gf gn M163) = 1) ∧ (b01 (PO gn gq164 (M163.1 78 5).toInt (psX M163)) = 1) ∧ (b01 (RFX M0 M163) = 1) ∧ (900 - a162) < (n158 : Int)) → INV pr Kz M163 → jj p l e (cn_R 5) s m args below meth c 0 0 Q 4 dC dI ad cA A M163 12 [(0, .ref (ad 78)), (1, .int (sI 6)), (2, .int (sI a161)), (3, .int (sI a162))] [] := by
    intro n158
    induction n158 with
    | zero =>
      intro a161 a162 M163 gq164 h165 hM163
      exfalso; omega
    | succ n158 ih159 =>
      intro a161 a162 M163 gq164 h165 hM163
      have u166b := tkx_b (f := gf) (n := gn) (M := M163) (by omega)
      refine j_iload_n C 3 3 dX8_sum_12 rfl rfl ?_
      refine y_sipush C dX8_sum_13 rfl ?_
      refine y_icmp_ge C 71 dX8_sum_16 (by decide) (by omega) (fun h167 => ?_) (fun h167 => ?_)
      · have u209e := ll_e gf gn 2043 2045 (teP gf gn true (fun i => (0, 0, i))) ((teP gf gn true (fun i => (0, 0, i))) gi).2.2 gq164 a162 (M102.1 78 5).toInt (M102.1 78 6).toInt (M163.1 78 5).toInt (M163.1 78 6).toInt (psX M163) (by decide) (te_g gf gn (fun h => by cases h)) (by omega) (by omega)
        have u209r : b01 (RR ((suR gf gn 0) gi) (M0.1 78 5).toInt (M0.1 78 6).toInt (M163.1 78 5).toInt (M163.1 78 6).toInt (psX M163)) = 1 := by rw [su_q0 gf gn]; exact rr_sq ((teP gf gn true (fun i => (0, 0, i))) gi) (luP gf gn 2043 2045 (teP gf gn true (fun i => (0, 0, i)))) (M0.1 78 5).toInt (M0.1 78 6).toInt (M102.1 78 5).toInt (M102.1 78 6).toInt (psX M102) (M163.1 78 5).toInt (M163.1 78 6).toInt (psX M163) (by omega) (by omega)
        have u209x := lc_e gf gn 2043 2045 (teP gf gn true (fun i => (0, 0, i))) ((teL gf gn true (fun i => (0, 0, i)) (fun _ => []))) (by decide) (show b01 (LC AGC (M163.1 78 5).toInt (luL gf gn 2043 2045 (teP gf gn true (fun i => (0, 0, i))) (teL gf gn true (fun i => (0, 0, i)) (fun _ => []))) ((teP gf gn true (fun i => (0, 0, i))) gi).2.2 gq164 M102 M163) = 1 by omega) (show b01 (LL (luP gf gn 2043 2045 (teP gf gn true (fun i => (0, 0, i)))) gn ((teP gf gn true (fun i => (0, 0, i))) gi).2.2 gq164 a162 (M102.1 78 5).toInt (M102.1 78 6).toInt (M163.1 78 5).toInt (M163.1 78 6).toInt (psX M163)) = 1 by omega) (by omega)
        have u209l : b01 (CL AGC (M163.1 78 5).toInt M0 M163 ((sLR gf gn 0) gi)) = 1 := cl_e (cl_t (show b01 (CL AGC (M102.1 78 5).toInt M0 M102 ((teL gf gn true (fun i => (0, 0, i)) (fun _ => [])) gi)) = 1 by omega) u209x (fun z => rr_z (show b01 (RR ((luP gf gn 2043 2045 (teP gf gn true (fun i => (0, 0, i)))) ((teP gf gn true (fun i => (0, 0, i))) gi).2.2) (M102.1 78 5).toInt (M102.1 78 6).toInt (M163.1 78 5).toInt (M163.1 78 6).toInt (psX M163)) = 1 by omega) z)) (fun z => su_l0 gf gn gi)
        have zr := (show b01 (RFX M0 M163) = 1 by omega); exact hret _ _ _ dX8_sum_71 ⟨hM163, by omega⟩
      · refine j_aload_n C 0 0 dX8_sum_19 rfl rfl ?_
        refine y_getI C 7 _ _ fX8_sum_22 rfl rfl ft_7_5 sb_7_5 hM163 dX8_sum_20 (fun a168 ea168 la168 ua168 => ?_)
        refine y_if_ne C 71 dX8_sum_23 (by decide) (by omega) (fun h170 => ?_) (fun h170 => ?_)
        · have u210e := ll_e gf gn 2043 2045 (teP gf gn true (fun i => (0, 0, i))) ((teP gf gn true (fun i => (0, 0, i))) gi).2.2 gq164 a162 (M102.1 78 5).toInt (M102.1 78 6).toInt (M163.1 78 5).toInt (M163.1 78 6).toInt (psX M163) (by decide) (te_g gf gn (fun h => by cases h)) (by omega) (by omega)
          have u210r : b01 (RR ((suR gf gn 0) gi) (M0.1 78 5).toInt (M0.1 78 6).toInt (M163.1 78 5).toInt (M163.1 78 6).toInt (psX M163)) = 1 := by rw [su_q0 gf gn]; exact rr_sq ((teP gf gn true (fun i => (0, 0, i))) gi) (luP gf gn 2043 2045 (teP gf gn true (fun i => (0, 0, i)))) (M0.1 78 5).toInt (M0.1 78 6).toInt (M102.1 78 5).toInt (M102.1 78 6).toInt (psX M102) (M163.1 78 5).toInt (M163.1 78 6).toInt (psX M163) (by omega) (by omega)
          have u210x := lc_e gf gn 2043 2045 (teP gf gn true (fun i => (0, 0, i))) ((teL gf gn true (fun i => (0, 0, i)) (fun _ => []))) (by decide) (show b01 (LC AGC (M163.1 78 5).toInt (luL gf gn 2043 2045 (teP gf gn true (fun i => (0, 0, i))) (teL gf gn true (fun i => (0, 0, i)) (fun _ => []))) ((teP gf gn true (fun i => (0, 0, i))) gi).2.2 gq164 M102 M163) = 1 by omega) (show b01 (LL (luP gf gn 2043 2045 (teP gf gn true (fun i => (0, 0, i)))) gn ((teP gf gn true (fun i => (0, 0, i))) gi).2.2 gq164 a162 (M102.1 78 5).toInt (M102.1 78 6).toInt (M163.1 78 5).toInt (M163.1 78 6).toInt (psX M163)) = 1 by omega) (by omega)
          have u210l : b01 (CL AGC (M163.1 78 5).toInt M0 M163 ((sLR gf gn 0) gi)) = 1 := cl_e (cl_t (show b01 (CL AGC (M102.1 78 5).toInt M0 M102 ((teL gf gn true (fun i => (0, 0, i)) (fun _ => [])) gi)) = 1 by omega) u210x (fun z => rr_z (show b01 (RR ((luP gf gn 2043 2045 (teP gf gn true (fun i => (0, 0, i)))) ((teP gf gn true (fun i => (0, 0, i))) gi).2.2) (M102.1 78 5).toInt (M102.1 78 6).toInt (M163.1 78 5).toInt (M163.1 78 6).toInt (psX M163)) = 1 by omega) z)) (fun z => su_l0 gf gn gi)
          have zr := (show b01 (RFX M0 M163) = 1 by omega); exact hret _ _ _ dX8_sum_71 ⟨hM163, by omega⟩
        · refine j_iload_n C 2 2 dX8_sum_26 rfl rfl ?_
          refine y_sipush C dX8_sum_27 rfl ?_
          refine y_icmp_eq C 40 dX8_sum_30 (by decide) (by omega) (fun h171 => ?_) (fun h171 => ?_)
          · refine j_aload_n C 0 0 dX8_sum_40 rfl rfl ?_
            refine j_dup C dX8_sum_41 rfl ?_
            refine y_getI C 7 _ _ fX8_sum_18 rfl rfl ft_7_2 sb_7_2 hM163 dX8_sum_42 (fun a172 ea172 la172 ua172 => ?_)
            refine y_iconst C dX8_sum_45 ?_
            refine y_iadd C dX8_sum_46 ?_
            refine y_putI C 7 _ _ qX8_sum_18 rfl rfl ft_7_2 sb_7_2 hM163 (PX.w hpr rfl rfl) dX8_sum_47 (by omega) (fun M174 eM174 hM174 => ?_)
            have xM174 := tkx_j (f := gf) (n := gn) (gi := gq164) eM174 (by omega) (by omega) (by omega) (by omega)
            have dM174 := cs_w hM163 (c := 7) rfl eM174 (by decide)
            have gM174 := s_wr eM174 (by omega)
            refine j_aload_n C 0 0 dX8_sum_50 rfl rfl ?_
            refine j_iload_n C 1 1 dX8_sum_51 rfl rfl ?_
            refine j_callVv C (d := 4) (As := [.int (sI 6)]) (st := []) 78 (s_lt rfl rfl) (s_kc (c := 7) rfl rfl) (by decide) rfl (s2_X8_term hM174 hpr gf gn (nxF gf gn gq164) (by omega) (by omega) (by omega)) gX8_sum_X8_term rfl hdX8_term (by decide) (Nat.le_of_ble_eq_true rfl) dX8_sum_52 rfl (fun M176 h177 => ?_)
            obtain ⟨hM176, h178⟩ := h177
            have bM176 := tkx_b (f := gf) (n := gn) (M := M176) (by omega)
            have qM176 := po_rr (teP gf gn true (fun i => (0, 0, i))) gn (nxF gf gn gq164) (M174.1 78 5).toInt (M174.1 78 6).toInt (psX M174) (M176.1 78 5).toInt (M176.1 78 6).toInt (psX M176) (te_g gf gn (fun h => by cases h)) (by omega) (by omega)
            refine j_aload_n C 0 0 dX8_sum_55 rfl rfl ?_
            refine j_iload_n C 2 2 dX8_sum_56 rfl rfl ?_
            have u179b := tkx_b (f := gf) (n := gn) (M := M176) (by omega)
            refine j_callVv C (d := 0) (As := [.int (sI a161)]) (st := []) 78 (s_lt rfl rfl) (s_kc (c := 7) rfl rfl) (by decide) rfl (s1_X8_emit hM176 hpr a161 (by omega) gf gn ((teP gf gn true (fun i => (0, 0, i))) (nxF gf gn gq164)).2.2 (by omega) (by omega) (by omega)) gX8_sum_X8_emit rfl hdX8_emit (by decide) (Nat.le_of_ble_eq_true rfl) dX8_sum_57 rfl (fun M181 h182 => ?_)
            obtain ⟨hM181, h183⟩ := h182
            have bM181 := tkx_b (f := gf) (n := gn) (M := M181) (by omega)
            have qM181 := po_eq gn ((teP gf gn true (fun i => (0, 0, i))) (nxF gf gn gq164)).2.2 (M176.1 78 5).toInt (psX M176) (M181.1 78 5).toInt (psX M181) (by omega) (by omega) (by omega)
            refine j_aload_n C 0 0 dX8_sum_60 rfl rfl ?_
            refine j_callVi C (d := 0) (As := []) (st := []) 78 (s_lt rfl rfl) (s_kc (c := 7) rfl rfl) (by decide) rfl (s1_X8_token hM181 gf gn ((teP gf gn true (fun i => (0, 0, i))) (nxF gf gn gq164)).2.2 (by omega) (by omega)) gX8_sum_X8_token rfl hdX8_token (by decide) (Nat.le_of_ble_eq_true rfl) dX8_sum_61 rfl (fun r184 M185 h186 => ?_)
            obtain ⟨a188, rfl, rfl, h187⟩ := h186
            refine j_istore_n C 2 [(2, .int (sI a188)), (0, .ref (ad 78)), (1, .int (sI 6)), (3, .int (sI a162))] dX8_sum_64 rfl (by decide) rfl ?_
            refine y_iinc C 3 [(3, .int (sI (a162 + 1))), (2, .int (sI a188)), (0, .ref (ad 78)), (1, .int (sI 6))] dX8_sum_65 rfl (by decide) rfl ?_
            have u189s := ll_s gf gn 2043 2045 (teP gf gn true (fun i => (0, 0, i))) ((teP gf gn true (fun i => (0, 0, i))) gi).2.2 gq164 a162 (M102.1 78 5).toInt (M102.1 78 6).toInt (M163.1 78 5).toInt (M163.1 78 6).toInt (psX M163) (M174.1 78 5).toInt (M174.1 78 6).toInt (M176.1 78 5).toInt (M176.1 78 6).toInt (psX M176) (M181.1 78 5).toInt (M181.1 78 6).toInt (psX M181) (by decide) (te_g gf gn (fun h => by cases h)) (by omega) (by omega) (by omega) (by omega) (by omega) (by omega) (by omega) (by omega) (by omega)
            have u189c := lc_s gf gn 2043 2045 (teP gf gn true (fun i => (0, 0, i))) (teL gf gn true (fun i => (0, 0, i)) (fun _ => [])) (by decide) (te_g gf gn (fun h => by cases h)) (show b01 (LC AGC (M163.1 78 5).toInt (luL gf gn 2043 2045 (teP gf gn true (fun i => (0, 0, i))) (teL gf gn true (fun i => (0, 0, i)) (fun _ => []))) ((teP gf gn true (fun i => (0, 0, i))) gi).2.2 gq164 M102 M163) = 1 by omega) (show b01 (PO gn gq164 (M163.1 78 5).toInt (psX M163)) = 1 by omega) (by omega) (show b01 (RR ((teP gf gn true (fun i => (0, 0, i))) (nxF gf gn gq164)) (M174.1 78 5).toInt (M174.1 78 6).toInt (M176.1 78 5).toInt (M176.1 78 6).toInt (psX M176)) = 1 by omega) (fun z => by omega) (cl_e (L := ([] ++ ((teL gf gn true (fun i => (0, 0, i)) (fun _ => [])) (nxF gf gn gq164))) ++ [cmF a161]) (cl_t (cl_t (cl_r (A := AGC) (M := M163) (N := M174) (M174.1 78 5).toInt (agc_78 eM174)) (show b01 (CL AGC (M176.1 78 5).toInt M174 M176 ((teL gf gn true (fun i => (0, 0, i)) (fun _ => [])) (nxF gf gn gq164))) = 1 by omega) (fun z => rr_z (show b01 (RR ((teP gf gn true (fun i => (0, 0, i))) (nxF gf gn gq164)) (M174.1 78 5).toInt (M174.1 78 6).toInt (M176.1 78 5).toInt (M176.1 78 6).toInt (psX M176)) = 1 by omega) z)) (show b01 (CL AGC (M181.1 78 5).toInt M176 M181 [cmF a161]) = 1 by omega) (fun z => by omega)) (fun z => by rw [show tkF gf gn (psX M163) = a161 by omega, List.nil_append]) : b01 (CL AGC (M181.1 78 5).toInt M163 M181 (((teL gf gn true (fun i => (0, 0, i)) (fun _ => [])) (nxF gf gn gq164)) ++ [cmF (tkF gf gn (psX M163))])) = 1) (fun z => by omega)
            refine j_goto C 12 dX8_sum_68 (by decide) ?_
            have zr := (rfx_t (rfx_t (rfx_i (show b01 (RFX M0 M163) = 1 by omega) eM174 (by decide)) (show b01 (RFX M174 M176) = 1 by omega)) (show b01 (RFX M176 M181) = 1 by omega)); refine j_lv [2, 3, 1, 0] rfl ?_; exact ih159 a188 (a162 + 1) M181 ((teP gf gn true (fun i => (0, 0, i))) (nxF gf gn gq164)).2.2 (by omega) hM181
          · refine j_iload_n C 2 2 dX8_sum_33 rfl rfl ?_
            refine y_sipush C dX8_sum_34 rfl ?_
            refine y_icmp_ne C 71 dX8_sum_37 (by decide) (by omega) (fun h190 => ?_) (fun h190 => ?_)
            · have u211e := ll_e gf gn 2043 2045 (teP gf gn true (fun i => (0, 0, i))) ((teP gf gn true (fun i => (0, 0, i))) gi).2.2 gq164 a162 (M102.1 78 5).toInt (M102.1 78 6).toInt (M163.1 78 5).toInt (M163.1 78 6).toInt (psX M163) (by decide) (te_g gf gn (fun h => by cases h)) (by omega) (by omega)
              have u211r : b01 (RR ((suR gf gn 0) gi) (M0.1 78 5).toInt (M0.1 78 6).toInt (M163.1 78 5).toInt (M163.1 78 6).toInt (psX M163)) = 1 := by rw [su_q0 gf gn]; exact rr_sq ((teP gf gn true (fun i => (0, 0, i))) gi) (luP gf gn 2043 2045 (teP gf gn true (fun i => (0, 0, i)))) (M0.1 78 5).toInt (M0.1 78 6).toInt (M102.1 78 5).toInt (M102.1 78 6).toInt (psX M102) (M163.1 78 5).toInt (M163.1 78 6).toInt (psX M163) (by omega) (by omega)
              have u211x := lc_e gf gn 2043 2045 (teP gf gn true (fun i => (0, 0, i))) ((teL gf gn true (fun i => (0, 0, i)) (fun _ => []))) (by decide) (show b01 (LC AGC (M163.1 78 5).toInt (luL gf gn 2043 2045 (teP gf gn true (fun i => (0, 0, i))) (teL gf gn true (fun i => (0, 0, i)) (fun _ => []))) ((teP gf gn true (fun i => (0, 0, i))) gi).2.2 gq164 M102 M163) = 1 by omega) (show b01 (LL (luP gf gn 2043 2045 (teP gf gn true (fun i => (0, 0, i)))) gn ((teP gf gn true (fun i => (0, 0, i))) gi).2.2 gq164 a162 (M102.1 78 5).toInt (M102.1 78 6).toInt (M163.1 78 5).toInt (M163.1 78 6).toInt (psX M163)) = 1 by omega) (by omega)
              have u211l : b01 (CL AGC (M163.1 78 5).toInt M0 M163 ((sLR gf gn 0) gi)) = 1 := cl_e (cl_t (show b01 (CL AGC (M102.1 78 5).toInt M0 M102 ((teL gf gn true (fun i => (0, 0, i)) (fun _ => [])) gi)) = 1 by omega) u211x (fun z => rr_z (show b01 (RR ((luP gf gn 2043 2045 (teP gf gn true (fun i => (0, 0, i)))) ((teP gf gn true (fun i => (0, 0, i))) gi).2.2) (M102.1 78 5).toInt (M102.1 78 6).toInt (M163.1 78 5).toInt (M163.1 78 6).toInt (psX M163)) = 1 by omega) z)) (fun z => su_l0 gf gn gi)
              have zr := (show b01 (RFX M0 M163) = 1 by omega); exact hret _ _ _ dX8_sum_71 ⟨hM163, by omega⟩
            · refine j_aload_n C 0 0 dX8_sum_40 rfl rfl ?_
              refine j_dup C dX8_sum_41 rfl ?_
              refine y_getI C 7 _ _ fX8_sum_18 rfl rfl ft_7_2 sb_7_2 hM163 dX8_sum_42 (fun a191 ea191 la191 ua191 => ?_)
              refine y_iconst C dX8_sum_45 ?_
              refine y_iadd C dX8_sum_46 ?_
              refine y_putI C 7 _ _ qX8_sum_18 rfl rfl ft_7_2 sb_7_2 hM163 (PX.w hpr rfl rfl) dX8_sum_47 (by omega) (fun M193 eM193 hM193 => ?_)
              have xM193 := tkx_j (f := gf) (n := gn) (gi := gq164) eM193 (by omega) (by omega) (by omega) (by omega)
              have dM193 := cs_w hM163 (c := 7) rfl eM193 (by decide)
              have gM193 := s_wr eM193 (by omega)
              refine j_aload_n C 0 0 dX8_sum_50 rfl rfl ?_
              refine j_iload_n C 1 1 dX8_sum_51 rfl rfl ?_
              refine j_callVv C (d := 4) (As := [.int (sI 6)]) (st := []) 78 (s_lt rfl rfl) (s_kc (c := 7) rfl rfl) (by decide) rfl (s2_X8_term hM193 hpr gf gn (nxF gf gn gq164) (by omega) (by omega) (by omega)) gX8_sum_X8_term rfl hdX8_term (by decide) (Nat.le_of_ble_eq_true rfl) dX8_sum_52 rfl (fun M195 h196 => ?_)
              obtain ⟨hM195, h197⟩ := h196
              have bM195 := tkx_b (f := gf) (n := gn) (M := M195) (by omega)
              have qM195 := po_rr (teP gf gn true (fun i => (0, 0, i))) gn (nxF gf gn gq164) (M193.1 78 5).toInt (M193.1 78 6).toInt (psX M193) (M195.1 78 5).toInt (M195.1 78 6).toInt (psX M195) (te_g gf gn (fun h => by cases h)) (by omega) (by omega)
              refine j_aload_n C 0 0 dX8_sum_55 rfl rfl ?_
              refine j_iload_n C 2 2 dX8_sum_56 rfl rfl ?_
              have u198b := tkx_b (f := gf) (n := gn) (M := M195) (by omega)
              refine j_callVv C (d := 0) (As := [.int (sI a161)]) (st := []) 78 (s_lt rfl rfl) (s_kc (c := 7) rfl rfl) (by decide) rfl (s1_X8_emit hM195 hpr a161 (by omega) gf gn ((teP gf gn true (fun i => (0, 0, i))) (nxF gf gn gq164)).2.2 (by omega) (by omega) (by omega)) gX8_sum_X8_emit rfl hdX8_emit (by decide) (Nat.le_of_ble_eq_true rfl) dX8_sum_57 rfl (fun M200 h201 => ?_)
              obtain ⟨hM200, h202⟩ := h201
              have bM200 := tkx_b (f := gf) (n := gn) (M := M200) (by omega)
              have qM200 := po_eq gn ((teP gf gn true (fun i => (0, 0, i))) (nxF gf gn gq164)).2.2 (M195.1 78 5).toInt (psX M195) (M200.1 78 5).toInt (psX M200) (by omega) (by omega) (by omega)
              refine j_aload_n C 0 0 dX8_sum_60 rfl rfl ?_
              refine j_callVi C (d := 0) (As := []) (st := []) 78 (s_lt rfl rfl) (s_kc (c := 7) rfl rfl) (by decide) rfl (s1_X8_token hM200 gf gn ((teP gf gn true (fun i => (0, 0, i))) (nxF gf gn gq164)).2.2 (by omega) (by omega)) gX8_sum_X8_token rfl hdX8_token (by decide) (Nat.le_of_ble_eq_true rfl) dX8_sum_61 rfl (fun r203 M204 h205 => ?_)
              obtain ⟨a207, rfl, rfl, h206⟩ := h205
              refine j_istore_n C 2 [(2, .int (sI a207)), (0, .ref (ad 78)), (1, .int (sI 6)), (3, .int (sI a162))] dX8_sum_64 rfl (by decide) rfl ?_
              refine y_iinc C 3 [(3, .int (sI (a162 + 1))), (2, .int (sI a207)), (0, .ref (ad 78)), (1, .int (sI 6))] dX8_sum_65 rfl (by decide) rfl ?_
              have u208s := ll_s gf gn 2043 2045 (teP gf gn true (fun i => (0, 0, i))) ((teP gf gn true (fun i => (0, 0, i))) gi).2.2 gq164 a162 (M102.1 78 5).toInt (M102.1 78 6).toInt (M163.1 78 5).toInt (M163.1 78 6).toInt (psX M163) (M193.1 78 5).toInt (M193.1 78 6).toInt (M195.1 78 5).toInt (M195.1 78 6).toInt (psX M195) (M200.1 78 5).toInt (M200.1 78 6).toInt (psX M200) (by decide) (te_g gf gn (fun h => by cases h)) (by omega) (by omega) (by omega) (by omega) (by omega) (by omega) (by omega) (by omega) (by omega)
              have u208c := lc_s gf gn 2043 2045 (teP gf gn true (fun i => (0, 0, i))) (teL gf gn true (fun i => (0, 0, i)) (fun _ => [])) (by decide) (te_g gf gn (fun h => by cases h)) (show b01 (LC AGC (M163.1 78 5).toInt (luL gf gn 2043 2045 (teP gf gn true (fun i => (0, 0, i))) (teL gf gn true (fun i => (0, 0, i)) (fun _ => []))) ((teP gf gn true (fun i => (0, 0, i))) gi).2.2 gq164 M102 M163) = 1 by omega) (show b01 (PO gn gq164 (M163.1 78 5).toInt (psX M163)) = 1 by omega) (by omega) (show b01 (RR ((teP gf gn true (fun i => (0, 0, i))) (nxF gf gn gq164)) (M193.1 78 5).toInt (M193.1 78 6).toInt (M195.1 78 5).toInt (M195.1 78 6).toInt (psX M195)) = 1 by omega) (fun z => by omega) (cl_e (L := ([] ++ ((teL gf gn true (fun i => (0, 0, i)) (fun _ => [])) (nxF gf gn gq164))) ++ [cmF a161]) (cl_t (cl_t (cl_r (A := AGC) (M := M163) (N := M193) (M193.1 78 5).toInt (agc_78 eM193)) (show b01 (CL AGC (M195.1 78 5).toInt M193 M195 ((teL gf gn true (fun i => (0, 0, i)) (fun _ => [])) (nxF gf gn gq164))) = 1 by omega) (fun z => rr_z (show b01 (RR ((teP gf gn true (fun i => (0, 0, i))) (nxF gf gn gq164)) (M193.1 78 5).toInt (M193.1 78 6).toInt (M195.1 78 5).toInt (M195.1 78 6).toInt (psX M195)) = 1 by omega) z)) (show b01 (CL AGC (M200.1 78 5).toInt M195 M200 [cmF a161]) = 1 by omega) (fun z => by omega)) (fun z => by rw [show tkF gf gn (psX M163) = a161 by omega, List.nil_append]) : b01 (CL AGC (M200.1 78 5).toInt M163 M200 (((teL gf gn true (fun i => (0, 0, i)) (fun _ => [])) (nxF gf gn gq164)) ++ [cmF (tkF gf gn (psX M163))])) = 1) (fun z => by omega)
              refine j_goto C 12 dX8_sum_68 (by decide) ?_
              have zr := (rfx_t (rfx_t (rfx_i (show b01 (RFX M0 M163) = 1 by omega) eM193 (by decide)) (show b01 (RFX M193 M195) = 1 by omega)) (show b01 (RFX M195 M200) = 1 by omega)); refine j_lv [2, 3, 1, 0] rfl ?_; exact ih159 a207 (a162 + 1) M200 ((teP gf gn true (fun i => (0, 0, i))) (nxF gf gn gq164)).2.2 (by omega) hM200
  have zr := (rfx_t (rfx_r M0) (show b01 (RFX M0 M102) = 1 by omega)); refine j_lv [2, 3, 1, 0] rfl ?_; exact L160 4294967306 a109 0 M102 ((teP gf gn true (fun i => (0, 0, i))) gi).2.2 (by omega) hM102
set_option maxHeartbeats 4000000 in
theorem s3_X8_atom {l : Launch} {dC : Nat → ClassId} {dI : Nat → Nat → Nat} {ad : Nat → Nat} {cA : Nat → ClassId} {pr : Nat → Nat → Bool} {Kz : mm_M} {M0 : mm_M} (hM0 : INV pr Kz M0) (hpr : PX pr) (gf : Nat → Int) (gn : Int) (gi : Int) (hp0 : csX M0 ≤ (M0.1 78 2).toInt) (hp1 : b01 (TKX gf gn M0) = 1) (hp2 : b01 (PO gn gi (M0.1 78 5).toInt (psX M0)) = 1) : Cv l 6 yX8_atom wsX8_atom dC dI ad cA [.ref (ad 78), .int (sI 5)] M0 (fun M' => INV pr Kz M' ∧ (csX M' - csX M0 ≤ (M'.1 78 2).toInt - (M0.1 78 2).toInt) ∧ (b01 (CL AGC (M'.1 78 5).toInt M0 M' ((atL gf gn false (sLR gf gn 0)) gi)) = 1) ∧ (b01 (TKX gf gn M') = 1) ∧ b01 (RR ((atP gf gn false (suR gf gn 0)) gi) (M0.1 78 5).toInt (M0.1 78 6).toInt (M'.1 78 5).toInt (M'.1 78 6).toInt (psX M')) = 1 ∧ (b01 (RFX M0 M') = 1)) := by
  refine cv_of (cc := cX8_atom) (maxL := 3) (lv := [(0, .ref (ad 78)), (1, .int (sI 5))]) (by decide) rfl (Nat.le_of_ble_eq_true rfl) rfl ?_
  intro p e s m args below meth c A Q C hret
  have u101b := tkx_b (f := gf) (n := gn) (M := M0) (by omega)
  refine j_aload_n C 0 0 dX8_atom_0 rfl rfl ?_
  refine y_getI C 7 _ _ fX8_atom_22 rfl rfl ft_7_5 sb_7_5 hM0 dX8_atom_1 (fun a102 ea102 la102 ua102 => ?_)
  refine y_if_eq C 8 dX8_atom_4 (by decide) (by omega) (fun h104 => ?_) (fun h104 => ?_)
  · refine j_aload_n C 0 0 dX8_atom_8 rfl rfl ?_
    refine j_callVi C (d := 0) (As := []) (st := []) 78 (s_lt rfl rfl) (s_kc (c := 7) rfl rfl) (by decide) rfl (s1_X8_token hM0 gf gn gi (by omega) (by omega)) gX8_atom_X8_token rfl hdX8_token (by decide) (Nat.le_of_ble_eq_true rfl) dX8_atom_9 rfl (fun r105 M106 h107 => ?_)
    obtain ⟨a109, rfl, rfl, h108⟩ := h107
    refine j_istore_n C 2 [(2, .int (sI a109)), (0, .ref (ad 78)), (1, .int (sI 5))] dX8_atom_12 rfl (by decide) rfl ?_
    refine j_iload_n C 0 2 dX8_atom_13 rfl rfl ?_
    refine y_sipush C dX8_atom_14 rfl ?_
    refine y_icmp_ge C 38 dX8_atom_17 (by decide) (by omega) (fun h110 => ?_) (fun h110 => ?_)
    · refine j_iload_n C 0 2 dX8_atom_38 rfl rfl ?_
      refine y_sipush C dX8_atom_39 rfl ?_
      refine y_icmp_ne C 67 dX8_atom_42 (by decide) (by omega) (fun h111 => ?_) (fun h111 => ?_)
      · refine j_aload_n C 1 0 dX8_atom_67 rfl rfl ?_
        refine y_iconst C dX8_atom_68 ?_
        refine j_callVv C (d := 0) (As := [.int (sI 2)]) (st := []) 78 (s_lt rfl rfl) (s_kc (c := 7) rfl rfl) (by decide) rfl (s1_X8_fail hM0 hpr 2 (by omega) gf gn gi (by omega) (by omega) (by omega)) gX8_atom_X8_fail rfl hdX8_fail (by decide) (Nat.le_of_ble_eq_true rfl) dX8_atom_69 rfl (fun M113 h114 => ?_)
        obtain ⟨hM113, fM113, h115⟩ := h114
        have bM113 := tkx_b (f := gf) (n := gn) (M := M113) (by omega)
        have qM113 := po_f gn ((faQ gf gn 2) gi).2.2 (M113.1 78 5).toInt (psX M113) (by omega)
        have dM113 := cs_f hM0 fM113
        have u116r := at_4 gf gn false (suR gf gn 0) gi (M0.1 78 5).toInt (M0.1 78 6).toInt (psX M0) (M113.1 78 5).toInt (M113.1 78 6).toInt (psX M113) (by omega) (by omega) (by omega)
        have u116l := cl_n (A := AGC) (M := M0) (N := M113) ((atL gf gn false (sLR gf gn 0)) gi) (a := (M113.1 78 5).toInt) (by omega)
        have zr := (rfx_F (rfx_r M0) fM113); exact hret _ _ _ dX8_atom_72 ⟨hM113, by omega⟩
      · refine j_aload_n C 1 0 dX8_atom_45 rfl rfl ?_
        refine j_iload_n C 2 1 dX8_atom_46 rfl rfl ?_
        refine j_callVv C (d := 0) (As := [.int (sI 5)]) (st := []) 78 (s_lt rfl rfl) (s_kc (c := 7) rfl rfl) (by decide) rfl (s6_X8_goDeeper hM0 hpr gf gn gi (by omega) (by omega) (by omega) (by omega) (by omega)) gX8_atom_X8_goDeeper rfl hdX8_goDeeper (by decide) (Nat.le_of_ble_eq_true rfl) dX8_atom_47 rfl (fun M118 h119 => ?_)
        obtain ⟨hM118, fM118, h120⟩ := h119
        have bM118 := tkx_b (f := gf) (n := gn) (M := M118) (by omega)
        have dM118 := cs_f hM0 fM118
        refine j_aload_n C 1 0 dX8_atom_50 rfl rfl ?_
        refine j_iload_n C 2 1 dX8_atom_51 rfl rfl ?_
        refine y_iconst C dX8_atom_52 ?_
        refine y_iadd C dX8_atom_53 ?_
        refine j_callVv C (d := 5) (As := [.int (sI (5 + 1))]) (st := []) 78 (s_lt rfl rfl) (s_kc (c := 7) rfl rfl) (by decide) rfl (s2_X8_sum hM118 hpr gf gn (nxF gf gn gi) (by omega) (by omega) (by omega)) gX8_atom_X8_sum rfl hdX8_sum (by decide) (Nat.le_of_ble_eq_true rfl) dX8_atom_54 rfl (fun M122 h123 => ?_)
        obtain ⟨hM122, h124⟩ := h123
        have bM122 := tkx_b (f := gf) (n := gn) (M := M122) (by omega)
        have qM122 := po_rr (suR gf gn 0) gn (nxF gf gn gi) (M118.1 78 5).toInt (M118.1 78 6).toInt (psX M118) (M122.1 78 5).toInt (M122.1 78 6).toInt (psX M122) (suR_g gf gn 0) (by omega) (by omega)
        refine j_aload_n C 1 0 dX8_atom_57 rfl rfl ?_
        refine y_sipush C dX8_atom_58 rfl ?_
        refine j_callVv C (d := 1) (As := [.int (sI 2041)]) (st := []) 78 (s_lt rfl rfl) (s_kc (c := 7) rfl rfl) (by decide) rfl (s1_X8_expect hM122 hpr 2041 (by omega) gf gn ((suR gf gn 0) (nxF gf gn gi)).2.2 (by omega) (by omega) (by omega) (by omega)) gX8_atom_X8_expect rfl hdX8_expect (by decide) (Nat.le_of_ble_eq_true rfl) dX8_atom_61 rfl (fun M126 h127 => ?_)
        obtain ⟨hM126, fM126, h128⟩ := h127
        have bM126 := tkx_b (f := gf) (n := gn) (M := M126) (by omega)
        have qM126 := po_rr (exP gf gn 2041) gn ((suR gf gn 0) (nxF gf gn gi)).2.2 (M122.1 78 5).toInt (M122.1 78 6).toInt (psX M122) (M126.1 78 5).toInt (M126.1 78 6).toInt (psX M126) (ex_g gf gn 2041 (by omega)) (by omega) (by omega)
        have dM126 := cs_f hM122 fM126
        refine j_goto C 72 dX8_atom_64 (by decide) ?_
        have u129r := at_2 gf gn (suR gf gn 0) gi (M0.1 78 5).toInt (M0.1 78 6).toInt (psX M0) (M118.1 78 5).toInt (M118.1 78 6).toInt (M122.1 78 5).toInt (M122.1 78 6).toInt (psX M122) (M126.1 78 5).toInt (M126.1 78 6).toInt (psX M126) (by omega) (by omega) (by omega) (by omega) (by omega) (by omega)
        have u129l : b01 (CL AGC (M126.1 78 5).toInt M0 M126 ((atL gf gn false (sLR gf gn 0)) gi)) = 1 := cl_e (cl_t (cl_t (cl_r (A := AGC) (M := M0) (N := M118) (M118.1 78 5).toInt (agc_F fM118)) (show b01 (CL AGC (M122.1 78 5).toInt M118 M122 ((sLR gf gn 0) (nxF gf gn gi))) = 1 by omega) (fun z => rr_z (show b01 (RR ((suR gf gn 0) (nxF gf gn gi)) (M118.1 78 5).toInt (M118.1 78 6).toInt (M122.1 78 5).toInt (M122.1 78 6).toInt (psX M122)) = 1 by omega) z)) (cl_r (A := AGC) (M := M122) (N := M126) (M126.1 78 5).toInt (agc_F fM126)) (fun z => rr_z (show b01 (RR ((exP gf gn 2041) ((suR gf gn 0) (nxF gf gn gi)).2.2) (M122.1 78 5).toInt (M122.1 78 6).toInt (M126.1 78 5).toInt (M126.1 78 6).toInt (psX M126)) = 1 by omega) z)) (fun z => by rw [at_l2 gf gn (sLR gf gn 0) (show b01 (PO gn gi (M0.1 78 5).toInt (psX M0)) = 1 by omega) (by omega) (by omega), List.nil_append, List.append_nil])
        have zr := (rfx_F (rfx_t (rfx_F (rfx_r M0) fM118) (show b01 (RFX M118 M122) = 1 by omega)) fM126); exact hret _ _ _ dX8_atom_72 ⟨hM126, by omega⟩
    · refine j_aload_n C 1 0 dX8_atom_20 rfl rfl ?_
      refine j_dup C dX8_atom_21 rfl ?_
      refine y_getI C 7 _ _ fX8_atom_18 rfl rfl ft_7_2 sb_7_2 hM0 dX8_atom_22 (fun a130 ea130 la130 ua130 => ?_)
      refine y_iconst C dX8_atom_25 ?_
      refine y_iadd C dX8_atom_26 ?_
      refine y_putI C 7 _ _ qX8_atom_18 rfl rfl ft_7_2 sb_7_2 hM0 (PX.w hpr rfl rfl) dX8_atom_27 (by omega) (fun M132 eM132 hM132 => ?_)
      have xM132 := tkx_j (f := gf) (n := gn) (gi := gi) eM132 (by omega) (by omega) (by omega) (by omega)
      have dM132 := cs_w hM0 (c := 7) rfl eM132 (by decide)
      have gM132 := s_wr eM132 (by omega)
      refine j_aload_n C 1 0 dX8_atom_30 rfl rfl ?_
      refine j_iload_n C 0 2 dX8_atom_31 rfl rfl ?_
      have u133b := tkx_b (f := gf) (n := gn) (M := M132) (by omega)
      refine j_callVv C (d := 0) (As := [.int (sI a109)]) (st := []) 78 (s_lt rfl rfl) (s_kc (c := 7) rfl rfl) (by decide) rfl (s1_X8_emit hM132 hpr a109 (by omega) gf gn (nxF gf gn gi) (by omega) (by omega) (by omega)) gX8_atom_X8_emit rfl hdX8_emit (by decide) (Nat.le_of_ble_eq_true rfl) dX8_atom_32 rfl (fun M135 h136 => ?_)
      obtain ⟨hM135, h137⟩ := h136
      have bM135 := tkx_b (f := gf) (n := gn) (M := M135) (by omega)
      have qM135 := po_eq gn (nxF gf gn gi) (M132.1 78 5).toInt (psX M132) (M135.1 78 5).toInt (psX M135) (by omega) (by omega) (by omega)
      refine j_goto C 72 dX8_atom_35 (by decide) ?_
      have u138r := rr_eq ((atP gf gn false (suR gf gn 0)) gi) (M0.1 78 5).toInt (M0.1 78 6).toInt (M132.1 78 5).toInt (M132.1 78 6).toInt (psX M132) (M135.1 78 5).toInt (M135.1 78 6).toInt (psX M135) (at_1 gf gn false (suR gf gn 0) gi (M0.1 78 5).toInt (M0.1 78 6).toInt (psX M0) (M132.1 78 5).toInt (M132.1 78 6).toInt (psX M132) (by omega) (by omega) (by omega) (by omega) (by omega) (by omega)) (by omega) (by omega) (by omega)
      have u138l : b01 (CL AGC (M135.1 78 5).toInt M0 M135 ((atL gf gn false (sLR gf gn 0)) gi)) = 1 := cl_e (cl_t (cl_r (A := AGC) (M := M0) (N := M132) (M132.1 78 5).toInt (agc_78 eM132)) (show b01 (CL AGC (M135.1 78 5).toInt M132 M135 [cmF a109]) = 1 by omega) (fun z => by omega)) (fun z => by rw [at_l1 gf gn false (sLR gf gn 0) (show b01 (PO gn gi (M0.1 78 5).toInt (psX M0)) = 1 by omega) (by omega) (by omega), show tkF gf gn (psX M0) = a109 by omega]; rfl)
      have zr := (rfx_t (rfx_i (rfx_r M0) eM132 (by decide)) (show b01 (RFX M132 M135) = 1 by omega)); exact hret _ _ _ dX8_atom_72 ⟨hM135, by omega⟩
  · have u139r := rr_no ((atP gf gn false (suR gf gn 0)) gi) (M0.1 78 5).toInt (M0.1 78 6).toInt (M0.1 78 5).toInt (M0.1 78 6).toInt (psX M0) (by omega) rfl rfl
    have u139l := cl_n (A := AGC) (M := M0) (N := M0) ((atL gf gn false (sLR gf gn 0)) gi) (a := (M0.1 78 5).toInt) (by omega)
    have zr := (rfx_r M0); exact hret _ _ _ dX8_atom_7 ⟨hM0, by omega⟩
set_option maxHeartbeats 4000000 in
theorem s3_X8_term {l : Launch} {dC : Nat → ClassId} {dI : Nat → Nat → Nat} {ad : Nat → Nat} {cA : Nat → ClassId} {pr : Nat → Nat → Bool} {Kz : mm_M} {M0 : mm_M} (hM0 : INV pr Kz M0) (hpr : PX pr) (gf : Nat → Int) (gn : Int) (gi : Int) (hp0 : csX M0 ≤ (M0.1 78 2).toInt) (hp1 : b01 (TKX gf gn M0) = 1) (hp2 : b01 (PO gn gi (M0.1 78 5).toInt (psX M0)) = 1) : Cv l 7 yX8_term wsX8_term dC dI ad cA [.ref (ad 78), .int (sI 5)] M0 (fun M' => INV pr Kz M' ∧ (csX M' - csX M0 ≤ (M'.1 78 2).toInt - (M0.1 78 2).toInt) ∧ (b01 (CL AGC (M'.1 78 5).toInt M0 M' ((teL gf gn false (suR gf gn 0) (sLR gf gn 0)) gi)) = 1) ∧ (b01 (TKX gf gn M') = 1) ∧ b01 (RR ((teP gf gn false (suR gf gn 0)) gi) (M0.1 78 5).toInt (M0.1 78 6).toInt (M'.1 78 5).toInt (M'.1 78 6).toInt (psX M')) = 1 ∧ (b01 (RFX M0 M') = 1)) := by
  refine cv_of (cc := cX8_term) (maxL := 3) (lv := [(0, .ref (ad 78)), (1, .int (sI 5))]) (by decide) rfl (Nat.le_of_ble_eq_true rfl) rfl ?_
  intro p e s m args below meth c A Q C hret
  refine j_aload_n C 0 0 dX8_term_0 rfl rfl ?_
  refine j_iload_n C 1 1 dX8_term_1 rfl rfl ?_
  refine j_callVv C (d := 6) (As := [.int (sI 5)]) (st := []) 78 (s_lt rfl rfl) (s_kc (c := 7) rfl rfl) (by decide) rfl (s3_X8_atom hM0 hpr gf gn gi (by omega) (by omega) (by omega)) gX8_term_X8_atom rfl hdX8_atom (by decide) (Nat.le_of_ble_eq_true rfl) dX8_term_2 rfl (fun M102 h103 => ?_)
  obtain ⟨hM102, h104⟩ := h103
  have bM102 := tkx_b (f := gf) (n := gn) (M := M102) (by omega)
  have qM102 := po_rr (atP gf gn false (suR gf gn 0)) gn gi (M0.1 78 5).toInt (M0.1 78 6).toInt (psX M0) (M102.1 78 5).toInt (M102.1 78 6).toInt (psX M102) (at_g gf gn (fun _ => suR_g gf gn 0)) (by omega) (by omega)
  refine y_iconst C dX8_term_5 ?_
  have u105l := ll_0 (luP gf gn 2042 2042 (atP gf gn false (suR gf gn 0))) gn ((atP gf gn false (suR gf gn 0)) gi).2.2 (M102.1 78 5).toInt (M102.1 78 6).toInt (psX M102) (by omega)
  have u105c := lc_0 (A := AGC) (M102.1 78 5).toInt (luL gf gn 2042 2042 (atP gf gn false (suR gf gn 0)) (atL gf gn false (sLR gf gn 0))) ((atP gf gn false (suR gf gn 0)) gi).2.2 M102
  refine j_istore_n C 2 [(2, .int (sI 0)), (0, .ref (ad 78)), (1, .int (sI 5))] dX8_term_6 rfl (by decide) rfl ?_
  have L135 : ∀ (n133 : Nat), ∀ (a136 : Int) (M137 : mm_M) (gq138 : Int), (0 ≤ a136 ∧ a136 ≤ 900 ∧ (b01 (LL (luP gf gn 2042 2042 (atP gf gn false (suR gf gn 0))) gn ((atP gf gn false (suR gf gn 0)) gi).2.2 gq138 a136 (M102.1 78 5).toInt (M102.1 78 6).toInt (M137.1 78 5).toInt (M137.1 78 6).toInt (psX M137)) = 1) ∧ (b01 (LC AGC (M137.1 78 5).toInt (luL gf gn 2042 2042 (atP gf gn false (suR gf gn 0)) (atL gf gn false (sLR gf gn 0))) ((atP gf gn false (suR gf gn 0)) gi).2.2 gq138 M102 M137) = 1) ∧ (csX M137 - csX M102 ≤ (M137.1 78 2).toInt - (M102.1 78 2).toInt) ∧ (b01 (TKX gf gn M137) = 1) ∧ (b01 (PO gn gq138 (M137.1 78 5).toInt (psX M137)) = 1) ∧ (b01 (RFX M0 M137) = 1) ∧ (900 - a136) < (n133 : Int)) → INV pr Kz M137 → jj p l e (cn_R 7) s m args below meth c 0 0 Q 3 dC dI ad cA A M137 7 [(0, .ref (ad 78)), (1, .int (sI 5)), (2, .int (sI a136))] [] := by
    intro n133
    induction n133 with
    | zero =>
      intro a136 M137 gq138 h139 hM137
      exfalso; omega
    | succ n133 ih134 =>
      intro a136 M137 gq138 h139 hM137
      have u140b := tkx_b (f := gf) (n := gn) (M := M137) (by omega)
      refine j_iload_n C 2 2 dX8_term_7 rfl rfl ?_
      refine y_sipush C dX8_term_8 rfl ?_
      refine y_icmp_ge C 59 dX8_term_11 (by decide) (by omega) (fun h141 => ?_) (fun h141 => ?_)
      · have u164e := ll_e gf gn 2042 2042 (atP gf gn false (suR gf gn 0)) ((atP gf gn false (suR gf gn 0)) gi).2.2 gq138 a136 (M102.1 78 5).toInt (M102.1 78 6).toInt (M137.1 78 5).toInt (M137.1 78 6).toInt (psX M137) (by decide) (at_g gf gn (fun _ => suR_g gf gn 0)) (by omega) (by omega)
        have u164r : b01 (RR ((teP gf gn false (suR gf gn 0)) gi) (M0.1 78 5).toInt (M0.1 78 6).toInt (M137.1 78 5).toInt (M137.1 78 6).toInt (psX M137)) = 1 := rr_sq ((atP gf gn false (suR gf gn 0)) gi) (luP gf gn 2042 2042 (atP gf gn false (suR gf gn 0))) (M0.1 78 5).toInt (M0.1 78 6).toInt (M102.1 78 5).toInt (M102.1 78 6).toInt (psX M102) (M137.1 78 5).toInt (M137.1 78 6).toInt (psX M137) (by omega) (by omega)
        have u164x := lc_e gf gn 2042 2042 (atP gf gn false (suR gf gn 0)) ((atL gf gn false (sLR gf gn 0))) (by decide) (show b01 (LC AGC (M137.1 78 5).toInt (luL gf gn 2042 2042 (atP gf gn false (suR gf gn 0)) (atL gf gn false (sLR gf gn 0))) ((atP gf gn false (suR gf gn 0)) gi).2.2 gq138 M102 M137) = 1 by omega) (show b01 (LL (luP gf gn 2042 2042 (atP gf gn false (suR gf gn 0))) gn ((atP gf gn false (suR gf gn 0)) gi).2.2 gq138 a136 (M102.1 78 5).toInt (M102.1 78 6).toInt (M137.1 78 5).toInt (M137.1 78 6).toInt (psX M137)) = 1 by omega) (by omega)
        have u164l : b01 (CL AGC (M137.1 78 5).toInt M0 M137 ((teL gf gn false (suR gf gn 0) (sLR gf gn 0)) gi)) = 1 := cl_e (cl_t (show b01 (CL AGC (M102.1 78 5).toInt M0 M102 ((atL gf gn false (sLR gf gn 0)) gi)) = 1 by omega) u164x (fun z => rr_z (show b01 (RR ((luP gf gn 2042 2042 (atP gf gn false (suR gf gn 0))) ((atP gf gn false (suR gf gn 0)) gi).2.2) (M102.1 78 5).toInt (M102.1 78 6).toInt (M137.1 78 5).toInt (M137.1 78 6).toInt (psX M137)) = 1 by omega) z)) (fun z => rfl)
        have zr := (show b01 (RFX M0 M137) = 1 by omega); exact hret _ _ _ dX8_term_59 ⟨hM137, by omega⟩
      · refine j_aload_n C 0 0 dX8_term_14 rfl rfl ?_
        refine y_getI C 7 _ _ fX8_term_22 rfl rfl ft_7_5 sb_7_5 hM137 dX8_term_15 (fun a142 ea142 la142 ua142 => ?_)
        refine y_if_ne C 59 dX8_term_18 (by decide) (by omega) (fun h144 => ?_) (fun h144 => ?_)
        · have u165e := ll_e gf gn 2042 2042 (atP gf gn false (suR gf gn 0)) ((atP gf gn false (suR gf gn 0)) gi).2.2 gq138 a136 (M102.1 78 5).toInt (M102.1 78 6).toInt (M137.1 78 5).toInt (M137.1 78 6).toInt (psX M137) (by decide) (at_g gf gn (fun _ => suR_g gf gn 0)) (by omega) (by omega)
          have u165r : b01 (RR ((teP gf gn false (suR gf gn 0)) gi) (M0.1 78 5).toInt (M0.1 78 6).toInt (M137.1 78 5).toInt (M137.1 78 6).toInt (psX M137)) = 1 := rr_sq ((atP gf gn false (suR gf gn 0)) gi) (luP gf gn 2042 2042 (atP gf gn false (suR gf gn 0))) (M0.1 78 5).toInt (M0.1 78 6).toInt (M102.1 78 5).toInt (M102.1 78 6).toInt (psX M102) (M137.1 78 5).toInt (M137.1 78 6).toInt (psX M137) (by omega) (by omega)
          have u165x := lc_e gf gn 2042 2042 (atP gf gn false (suR gf gn 0)) ((atL gf gn false (sLR gf gn 0))) (by decide) (show b01 (LC AGC (M137.1 78 5).toInt (luL gf gn 2042 2042 (atP gf gn false (suR gf gn 0)) (atL gf gn false (sLR gf gn 0))) ((atP gf gn false (suR gf gn 0)) gi).2.2 gq138 M102 M137) = 1 by omega) (show b01 (LL (luP gf gn 2042 2042 (atP gf gn false (suR gf gn 0))) gn ((atP gf gn false (suR gf gn 0)) gi).2.2 gq138 a136 (M102.1 78 5).toInt (M102.1 78 6).toInt (M137.1 78 5).toInt (M137.1 78 6).toInt (psX M137)) = 1 by omega) (by omega)
          have u165l : b01 (CL AGC (M137.1 78 5).toInt M0 M137 ((teL gf gn false (suR gf gn 0) (sLR gf gn 0)) gi)) = 1 := cl_e (cl_t (show b01 (CL AGC (M102.1 78 5).toInt M0 M102 ((atL gf gn false (sLR gf gn 0)) gi)) = 1 by omega) u165x (fun z => rr_z (show b01 (RR ((luP gf gn 2042 2042 (atP gf gn false (suR gf gn 0))) ((atP gf gn false (suR gf gn 0)) gi).2.2) (M102.1 78 5).toInt (M102.1 78 6).toInt (M137.1 78 5).toInt (M137.1 78 6).toInt (psX M137)) = 1 by omega) z)) (fun z => rfl)
          have zr := (show b01 (RFX M0 M137) = 1 by omega); exact hret _ _ _ dX8_term_59 ⟨hM137, by omega⟩
        · refine j_aload_n C 0 0 dX8_term_21 rfl rfl ?_
          refine j_callVi C (d := 0) (As := []) (st := []) 78 (s_lt rfl rfl) (s_kc (c := 7) rfl rfl) (by decide) rfl (s1_X8_token hM137 gf gn gq138 (by omega) (by omega)) gX8_term_X8_token rfl hdX8_token (by decide) (Nat.le_of_ble_eq_true rfl) dX8_term_22 rfl (fun r145 M146 h147 => ?_)
          obtain ⟨a149, rfl, rfl, h148⟩ := h147
          refine y_sipush C dX8_term_25 rfl ?_
          refine y_icmp_ne C 59 dX8_term_28 (by decide) (by omega) (fun h150 => ?_) (fun h150 => ?_)
          · have u166e := ll_e gf gn 2042 2042 (atP gf gn false (suR gf gn 0)) ((atP gf gn false (suR gf gn 0)) gi).2.2 gq138 a136 (M102.1 78 5).toInt (M102.1 78 6).toInt (M137.1 78 5).toInt (M137.1 78 6).toInt (psX M137) (by decide) (at_g gf gn (fun _ => suR_g gf gn 0)) (by omega) (by omega)
            have u166r : b01 (RR ((teP gf gn false (suR gf gn 0)) gi) (M0.1 78 5).toInt (M0.1 78 6).toInt (M137.1 78 5).toInt (M137.1 78 6).toInt (psX M137)) = 1 := rr_sq ((atP gf gn false (suR gf gn 0)) gi) (luP gf gn 2042 2042 (atP gf gn false (suR gf gn 0))) (M0.1 78 5).toInt (M0.1 78 6).toInt (M102.1 78 5).toInt (M102.1 78 6).toInt (psX M102) (M137.1 78 5).toInt (M137.1 78 6).toInt (psX M137) (by omega) (by omega)
            have u166x := lc_e gf gn 2042 2042 (atP gf gn false (suR gf gn 0)) ((atL gf gn false (sLR gf gn 0))) (by decide) (show b01 (LC AGC (M137.1 78 5).toInt (luL gf gn 2042 2042 (atP gf gn false (suR gf gn 0)) (atL gf gn false (sLR gf gn 0))) ((atP gf gn false (suR gf gn 0)) gi).2.2 gq138 M102 M137) = 1 by omega) (show b01 (LL (luP gf gn 2042 2042 (atP gf gn false (suR gf gn 0))) gn ((atP gf gn false (suR gf gn 0)) gi).2.2 gq138 a136 (M102.1 78 5).toInt (M102.1 78 6).toInt (M137.1 78 5).toInt (M137.1 78 6).toInt (psX M137)) = 1 by omega) (by omega)
            have u166l : b01 (CL AGC (M137.1 78 5).toInt M0 M137 ((teL gf gn false (suR gf gn 0) (sLR gf gn 0)) gi)) = 1 := cl_e (cl_t (show b01 (CL AGC (M102.1 78 5).toInt M0 M102 ((atL gf gn false (sLR gf gn 0)) gi)) = 1 by omega) u166x (fun z => rr_z (show b01 (RR ((luP gf gn 2042 2042 (atP gf gn false (suR gf gn 0))) ((atP gf gn false (suR gf gn 0)) gi).2.2) (M102.1 78 5).toInt (M102.1 78 6).toInt (M137.1 78 5).toInt (M137.1 78 6).toInt (psX M137)) = 1 by omega) z)) (fun z => rfl)
            have zr := (show b01 (RFX M0 M137) = 1 by omega); exact hret _ _ _ dX8_term_59 ⟨hM137, by omega⟩
          · refine j_aload_n C 0 0 dX8_term_31 rfl rfl ?_
            refine j_dup C dX8_term_32 rfl ?_
            refine y_getI C 7 _ _ fX8_term_18 rfl rfl ft_7_2 sb_7_2 hM137 dX8_term_33 (fun a151 ea151 la151 ua151 => ?_)
            refine y_iconst C dX8_term_36 ?_
            refine y_iadd C dX8_term_37 ?_
            refine y_putI C 7 _ _ qX8_term_18 rfl rfl ft_7_2 sb_7_2 hM137 (PX.w hpr rfl rfl) dX8_term_38 (by omega) (fun M153 eM153 hM153 => ?_)
            have xM153 := tkx_j (f := gf) (n := gn) (gi := gq138) eM153 (by omega) (by omega) (by omega) (by omega)
            have dM153 := cs_w hM137 (c := 7) rfl eM153 (by decide)
            have gM153 := s_wr eM153 (by omega)
            refine j_aload_n C 0 0 dX8_term_41 rfl rfl ?_
            refine j_iload_n C 1 1 dX8_term_42 rfl rfl ?_
            refine j_callVv C (d := 6) (As := [.int (sI 5)]) (st := []) 78 (s_lt rfl rfl) (s_kc (c := 7) rfl rfl) (by decide) rfl (s3_X8_atom hM153 hpr gf gn (nxF gf gn gq138) (by omega) (by omega) (by omega)) gX8_term_X8_atom rfl hdX8_atom (by decide) (Nat.le_of_ble_eq_true rfl) dX8_term_43 rfl (fun M155 h156 => ?_)
            obtain ⟨hM155, h157⟩ := h156
            have bM155 := tkx_b (f := gf) (n := gn) (M := M155) (by omega)
            have qM155 := po_rr (atP gf gn false (suR gf gn 0)) gn (nxF gf gn gq138) (M153.1 78 5).toInt (M153.1 78 6).toInt (psX M153) (M155.1 78 5).toInt (M155.1 78 6).toInt (psX M155) (at_g gf gn (fun _ => suR_g gf gn 0)) (by omega) (by omega)
            refine j_aload_n C 0 0 dX8_term_46 rfl rfl ?_
            refine y_sipush C dX8_term_47 rfl ?_
            have u158b := tkx_b (f := gf) (n := gn) (M := M155) (by omega)
            refine j_callVv C (d := 0) (As := [.int (sI 2042)]) (st := []) 78 (s_lt rfl rfl) (s_kc (c := 7) rfl rfl) (by decide) rfl (s1_X8_emit hM155 hpr 2042 (by omega) gf gn ((atP gf gn false (suR gf gn 0)) (nxF gf gn gq138)).2.2 (by omega) (by omega) (by omega)) gX8_term_X8_emit rfl hdX8_emit (by decide) (Nat.le_of_ble_eq_true rfl) dX8_term_50 rfl (fun M160 h161 => ?_)
            obtain ⟨hM160, h162⟩ := h161
            have bM160 := tkx_b (f := gf) (n := gn) (M := M160) (by omega)
            have qM160 := po_eq gn ((atP gf gn false (suR gf gn 0)) (nxF gf gn gq138)).2.2 (M155.1 78 5).toInt (psX M155) (M160.1 78 5).toInt (psX M160) (by omega) (by omega) (by omega)
            refine y_iinc C 2 [(2, .int (sI (a136 + 1))), (0, .ref (ad 78)), (1, .int (sI 5))] dX8_term_53 rfl (by decide) rfl ?_
            have u163s := ll_s gf gn 2042 2042 (atP gf gn false (suR gf gn 0)) ((atP gf gn false (suR gf gn 0)) gi).2.2 gq138 a136 (M102.1 78 5).toInt (M102.1 78 6).toInt (M137.1 78 5).toInt (M137.1 78 6).toInt (psX M137) (M153.1 78 5).toInt (M153.1 78 6).toInt (M155.1 78 5).toInt (M155.1 78 6).toInt (psX M155) (M160.1 78 5).toInt (M160.1 78 6).toInt (psX M160) (by decide) (at_g gf gn (fun _ => suR_g gf gn 0)) (by omega) (by omega) (by omega) (by omega) (by omega) (by omega) (by omega) (by omega) (by omega)
            have u163c := lc_s gf gn 2042 2042 (atP gf gn false (suR gf gn 0)) (atL gf gn false (sLR gf gn 0)) (by decide) (at_g gf gn (fun _ => suR_g gf gn 0)) (show b01 (LC AGC (M137.1 78 5).toInt (luL gf gn 2042 2042 (atP gf gn false (suR gf gn 0)) (atL gf gn false (sLR gf gn 0))) ((atP gf gn false (suR gf gn 0)) gi).2.2 gq138 M102 M137) = 1 by omega) (show b01 (PO gn gq138 (M137.1 78 5).toInt (psX M137)) = 1 by omega) (by omega) (show b01 (RR ((atP gf gn false (suR gf gn 0)) (nxF gf gn gq138)) (M153.1 78 5).toInt (M153.1 78 6).toInt (M155.1 78 5).toInt (M155.1 78 6).toInt (psX M155)) = 1 by omega) (fun z => by omega) (cl_e (L := ([] ++ ((atL gf gn false (sLR gf gn 0)) (nxF gf gn gq138))) ++ [cmF 2042]) (cl_t (cl_t (cl_r (A := AGC) (M := M137) (N := M153) (M153.1 78 5).toInt (agc_78 eM153)) (show b01 (CL AGC (M155.1 78 5).toInt M153 M155 ((atL gf gn false (sLR gf gn 0)) (nxF gf gn gq138))) = 1 by omega) (fun z => rr_z (show b01 (RR ((atP gf gn false (suR gf gn 0)) (nxF gf gn gq138)) (M153.1 78 5).toInt (M153.1 78 6).toInt (M155.1 78 5).toInt (M155.1 78 6).toInt (psX M155)) = 1 by omega) z)) (show b01 (CL AGC (M160.1 78 5).toInt M155 M160 [cmF 2042]) = 1 by omega) (fun z => by omega)) (fun z => by rw [show tkF gf gn (psX M137) = 2042 by omega, List.nil_append]) : b01 (CL AGC (M160.1 78 5).toInt M137 M160 (((atL gf gn false (sLR gf gn 0)) (nxF gf gn gq138)) ++ [cmF (tkF gf gn (psX M137))])) = 1) (fun z => by omega)
            refine j_goto C 7 dX8_term_56 (by decide) ?_
            have zr := (rfx_t (rfx_t (rfx_i (show b01 (RFX M0 M137) = 1 by omega) eM153 (by decide)) (show b01 (RFX M153 M155) = 1 by omega)) (show b01 (RFX M155 M160) = 1 by omega)); refine j_lv [1, 2, 0] rfl ?_; exact ih134 (a136 + 1) M160 ((atP gf gn false (suR gf gn 0)) (nxF gf gn gq138)).2.2 (by omega) hM160
  have zr := (rfx_t (rfx_r M0) (show b01 (RFX M0 M102) = 1 by omega)); refine j_lv [1, 2, 0] rfl ?_; exact L135 2010 0 M102 ((atP gf gn false (suR gf gn 0)) gi).2.2 (by omega) hM102
set_option maxHeartbeats 4000000 in
theorem s3_X8_sum {l : Launch} {dC : Nat → ClassId} {dI : Nat → Nat → Nat} {ad : Nat → Nat} {cA : Nat → ClassId} {pr : Nat → Nat → Bool} {Kz : mm_M} {M0 : mm_M} (hM0 : INV pr Kz M0) (hpr : PX pr) (gf : Nat → Int) (gn : Int) (gi : Int) (hp0 : csX M0 ≤ (M0.1 78 2).toInt) (hp1 : b01 (TKX gf gn M0) = 1) (hp2 : b01 (PO gn gi (M0.1 78 5).toInt (psX M0)) = 1) : Cv l 8 yX8_sum wsX8_sum dC dI ad cA [.ref (ad 78), .int (sI 5)] M0 (fun M' => INV pr Kz M' ∧ (csX M' - csX M0 ≤ (M'.1 78 2).toInt - (M0.1 78 2).toInt) ∧ (b01 (CL AGC (M'.1 78 5).toInt M0 M' ((sLR gf gn 1) gi)) = 1) ∧ (b01 (TKX gf gn M') = 1) ∧ b01 (RR ((suR gf gn 1) gi) (M0.1 78 5).toInt (M0.1 78 6).toInt (M'.1 78 5).toInt (M'.1 78 6).toInt (psX M')) = 1 ∧ (b01 (RFX M0 M') = 1)) := by
  refine cv_of (cc := cX8_sum) (maxL := 4) (lv := [(0, .ref (ad 78)), (1, .int (sI 5))]) (by decide) rfl (Nat.le_of_ble_eq_true rfl) rfl ?_
  intro p e s m args below meth c A Q C hret
  refine j_aload_n C 0 0 dX8_sum_0 rfl rfl ?_
  refine j_iload_n C 1 1 dX8_sum_1 rfl rfl ?_
  refine j_callVv C (d := 7) (As := [.int (sI 5)]) (st := []) 78 (s_lt rfl rfl) (s_kc (c := 7) rfl rfl) (by decide) rfl (s3_X8_term hM0 hpr gf gn gi (by omega) (by omega) (by omega)) gX8_sum_X8_term rfl hdX8_term (by decide) (Nat.le_of_ble_eq_true rfl) dX8_sum_2 rfl (fun M102 h103 => ?_)
  obtain ⟨hM102, h104⟩ := h103
  have bM102 := tkx_b (f := gf) (n := gn) (M := M102) (by omega)
  have qM102 := po_rr (teP gf gn false (suR gf gn 0)) gn gi (M0.1 78 5).toInt (M0.1 78 6).toInt (psX M0) (M102.1 78 5).toInt (M102.1 78 6).toInt (psX M102) (te_g gf gn (fun _ => suR_g gf gn 0)) (by omega) (by omega)
  refine j_aload_n C 0 0 dX8_sum_5 rfl rfl ?_
  refine j_callVi C (d := 0) (As := []) (st := []) 78 (s_lt rfl rfl) (s_kc (c := 7) rfl rfl) (by decide) rfl (s1_X8_token hM102 gf gn ((teP gf gn false (suR gf gn 0)) gi).2.2 (by omega) (by omega)) gX8_sum_X8_token rfl hdX8_token (by decide) (Nat.le_of_ble_eq_true rfl) dX8_sum_6 rfl (fun r105 M106 h107 => ?_)
  obtain ⟨a109, rfl, rfl, h108⟩ := h107
  refine j_istore_n C 2 [(2, .int (sI a109)), (0, .ref (ad 78)), (1, .int (sI 5))] dX8_sum_9 rfl (by decide) rfl ?_
  refine y_iconst C dX8_sum_10 ?_
  have u110l := ll_0 (luP gf gn 2043 2045 (teP gf gn false (suR gf gn 0))) gn ((teP gf gn false (suR gf gn 0)) gi).2.2 (M102.1 78 5).toInt (M102.1 78 6).toInt (psX M102) (by omega)
  have u110c := lc_0 (A := AGC) (M102.1 78 5).toInt (luL gf gn 2043 2045 (teP gf gn false (suR gf gn 0)) (teL gf gn false (suR gf gn 0) (sLR gf gn 0))) ((teP gf gn false (suR gf gn 0)) gi).2.2 M102
  refine j_istore_n C 3 [(3, .int (sI 0)), (2, .int (sI a109)), (0, .ref (ad 78)), (1, .int (sI 5))] dX8_sum_11 rfl (by decide) rfl ?_
  have L160 : ∀ (n158 : Nat), ∀ (a161 : Int) (a162 : Int) (M163 : mm_M) (gq164 : Int), ((-2147483648) ≤ a161 ∧ a161 ≤ 2147483647 ∧ 0 ≤ a162 ∧ a162 ≤ 900 ∧ (b01 (LL (luP gf gn 2043 2045 (teP gf gn false (suR gf gn 0))) gn ((teP gf gn false (suR gf gn 0)) gi).2.2 gq164 a162 (M102.1 78 5).toInt (M102.1 78 6).toInt (M163.1 78 5).toInt (M163.1 78 6).toInt (psX M163)) = 1) ∧ (a161 = tkF gf gn (psX M163)) ∧ (b01 (LC AGC (M163.1 78 5).toInt (luL gf gn 2043 2045 (teP gf gn false (suR gf gn 0)) (teL gf gn false (suR gf gn 0) (sLR gf gn 0))) ((teP gf gn false (suR gf gn 0)) gi).2.2 gq164 M102 M163) = 1) ∧ (csX M163 - csX M102 ≤ (M163.1 78 2).toInt - (M102.1 78 2).toInt) ∧ (b01 (TKX gf gn M163) = 1) ∧ (b01 (PO gn gq164 (M163.1 78 5).toInt (psX M163)) = 1) ∧ (b01 (RFX M0 M163) = 1) ∧ (900 - a162) < (n158 : Int)) → INV pr Kz M163 → jj p l e (cn_R 8) s m args below meth c 0 0 Q 4 dC dI ad cA A M163 12 [(0, .ref (ad 78)), (1, .int (sI 5)), (2, .int (sI a161)), (3, .int (sI a162))] [] := by
    intro n158
    induction n158 with
    | zero =>
      intro a161 a162 M163 gq164 h165 hM163
      exfalso; omega
    | succ n158 ih159 =>
      intro a161 a162 M163 gq164 h165 hM163
      have u166b := tkx_b (f := gf) (n := gn) (M := M163) (by omega)
      refine j_iload_n C 3 3 dX8_sum_12 rfl rfl ?_
      refine y_sipush C dX8_sum_13 rfl ?_
      refine y_icmp_ge C 71 dX8_sum_16 (by decide) (by omega) (fun h167 => ?_) (fun h167 => ?_)
      · have u209e := ll_e gf gn 2043 2045 (teP gf gn false (suR gf gn 0)) ((teP gf gn false (suR gf gn 0)) gi).2.2 gq164 a162 (M102.1 78 5).toInt (M102.1 78 6).toInt (M163.1 78 5).toInt (M163.1 78 6).toInt (psX M163) (by decide) (te_g gf gn (fun _ => suR_g gf gn 0)) (by omega) (by omega)
        have u209r : b01 (RR ((suR gf gn 1) gi) (M0.1 78 5).toInt (M0.1 78 6).toInt (M163.1 78 5).toInt (M163.1 78 6).toInt (psX M163)) = 1 := by rw [su_q gf gn 0 1 rfl]; exact rr_sq ((teP gf gn false (suR gf gn 0)) gi) (luP gf gn 2043 2045 (teP gf gn false (suR gf gn 0))) (M0.1 78 5).toInt (M0.1 78 6).toInt (M102.1 78 5).toInt (M102.1 78 6).toInt (psX M102) (M163.1 78 5).toInt (M163.1 78 6).toInt (psX M163) (by omega) (by omega)
        have u209x := lc_e gf gn 2043 2045 (teP gf gn false (suR gf gn 0)) ((teL gf gn false (suR gf gn 0) (sLR gf gn 0))) (by decide) (show b01 (LC AGC (M163.1 78 5).toInt (luL gf gn 2043 2045 (teP gf gn false (suR gf gn 0)) (teL gf gn false (suR gf gn 0) (sLR gf gn 0))) ((teP gf gn false (suR gf gn 0)) gi).2.2 gq164 M102 M163) = 1 by omega) (show b01 (LL (luP gf gn 2043 2045 (teP gf gn false (suR gf gn 0))) gn ((teP gf gn false (suR gf gn 0)) gi).2.2 gq164 a162 (M102.1 78 5).toInt (M102.1 78 6).toInt (M163.1 78 5).toInt (M163.1 78 6).toInt (psX M163)) = 1 by omega) (by omega)
        have u209l : b01 (CL AGC (M163.1 78 5).toInt M0 M163 ((sLR gf gn 1) gi)) = 1 := cl_e (cl_t (show b01 (CL AGC (M102.1 78 5).toInt M0 M102 ((teL gf gn false (suR gf gn 0) (sLR gf gn 0)) gi)) = 1 by omega) u209x (fun z => rr_z (show b01 (RR ((luP gf gn 2043 2045 (teP gf gn false (suR gf gn 0))) ((teP gf gn false (suR gf gn 0)) gi).2.2) (M102.1 78 5).toInt (M102.1 78 6).toInt (M163.1 78 5).toInt (M163.1 78 6).toInt (psX M163)) = 1 by omega) z)) (fun z => su_l gf gn 0 1 rfl gi)
        have zr := (show b01 (RFX M0 M163) = 1 by omega); exact hret _ _ _ dX8_sum_71 ⟨hM163, by omega⟩
      · refine j_aload_n C 0 0 dX8_sum_19 rfl rfl ?_
        refine y_getI C 7 _ _ fX8_sum_22 rfl rfl ft_7_5 sb_7_5 hM163 dX8_sum_20 (fun a168 ea168 la168 ua168 => ?_)
        refine y_if_ne C 71 dX8_sum_23 (by decide) (by omega) (fun h170 => ?_) (fun h170 => ?_)
        · have u210e := ll_e gf gn 2043 2045 (teP gf gn false (suR gf gn 0)) ((teP gf gn false (suR gf gn 0)) gi).2.2 gq164 a162 (M102.1 78 5).toInt (M102.1 78 6).toInt (M163.1 78 5).toInt (M163.1 78 6).toInt (psX M163) (by decide) (te_g gf gn (fun _ => suR_g gf gn 0)) (by omega) (by omega)
          have u210r : b01 (RR ((suR gf gn 1) gi) (M0.1 78 5).toInt (M0.1 78 6).toInt (M163.1 78 5).toInt (M163.1 78 6).toInt (psX M163)) = 1 := by rw [su_q gf gn 0 1 rfl]; exact rr_sq ((teP gf gn false (suR gf gn 0)) gi) (luP gf gn 2043 2045 (teP gf gn false (suR gf gn 0))) (M0.1 78 5).toInt (M0.1 78 6).toInt (M102.1 78 5).toInt (M102.1 78 6).toInt (psX M102) (M163.1 78 5).toInt (M163.1 78 6).toInt (psX M163) (by omega) (by omega)
          have u210x := lc_e gf gn 2043 2045 (teP gf gn false (suR gf gn 0)) ((teL gf gn false (suR gf gn 0) (sLR gf gn 0))) (by decide) (show b01 (LC AGC (M163.1 78 5).toInt (luL gf gn 2043 2045 (teP gf gn false (suR gf gn 0)) (teL gf gn false (suR gf gn 0) (sLR gf gn 0))) ((teP gf gn false (suR gf gn 0)) gi).2.2 gq164 M102 M163) = 1 by omega) (show b01 (LL (luP gf gn 2043 2045 (teP gf gn false (suR gf gn 0))) gn ((teP gf gn false (suR gf gn 0)) gi).2.2 gq164 a162 (M102.1 78 5).toInt (M102.1 78 6).toInt (M163.1 78 5).toInt (M163.1 78 6).toInt (psX M163)) = 1 by omega) (by omega)
          have u210l : b01 (CL AGC (M163.1 78 5).toInt M0 M163 ((sLR gf gn 1) gi)) = 1 := cl_e (cl_t (show b01 (CL AGC (M102.1 78 5).toInt M0 M102 ((teL gf gn false (suR gf gn 0) (sLR gf gn 0)) gi)) = 1 by omega) u210x (fun z => rr_z (show b01 (RR ((luP gf gn 2043 2045 (teP gf gn false (suR gf gn 0))) ((teP gf gn false (suR gf gn 0)) gi).2.2) (M102.1 78 5).toInt (M102.1 78 6).toInt (M163.1 78 5).toInt (M163.1 78 6).toInt (psX M163)) = 1 by omega) z)) (fun z => su_l gf gn 0 1 rfl gi)
          have zr := (show b01 (RFX M0 M163) = 1 by omega); exact hret _ _ _ dX8_sum_71 ⟨hM163, by omega⟩
        · refine j_iload_n C 2 2 dX8_sum_26 rfl rfl ?_
          refine y_sipush C dX8_sum_27 rfl ?_
          refine y_icmp_eq C 40 dX8_sum_30 (by decide) (by omega) (fun h171 => ?_) (fun h171 => ?_)
          · refine j_aload_n C 0 0 dX8_sum_40 rfl rfl ?_
            refine j_dup C dX8_sum_41 rfl ?_
            refine y_getI C 7 _ _ fX8_sum_18 rfl rfl ft_7_2 sb_7_2 hM163 dX8_sum_42 (fun a172 ea172 la172 ua172 => ?_)
            refine y_iconst C dX8_sum_45 ?_
            refine y_iadd C dX8_sum_46 ?_
            refine y_putI C 7 _ _ qX8_sum_18 rfl rfl ft_7_2 sb_7_2 hM163 (PX.w hpr rfl rfl) dX8_sum_47 (by omega) (fun M174 eM174 hM174 => ?_)
            have xM174 := tkx_j (f := gf) (n := gn) (gi := gq164) eM174 (by omega) (by omega) (by omega) (by omega)
            have dM174 := cs_w hM163 (c := 7) rfl eM174 (by decide)
            have gM174 := s_wr eM174 (by omega)
            refine j_aload_n C 0 0 dX8_sum_50 rfl rfl ?_
            refine j_iload_n C 1 1 dX8_sum_51 rfl rfl ?_
            refine j_callVv C (d := 7) (As := [.int (sI 5)]) (st := []) 78 (s_lt rfl rfl) (s_kc (c := 7) rfl rfl) (by decide) rfl (s3_X8_term hM174 hpr gf gn (nxF gf gn gq164) (by omega) (by omega) (by omega)) gX8_sum_X8_term rfl hdX8_term (by decide) (Nat.le_of_ble_eq_true rfl) dX8_sum_52 rfl (fun M176 h177 => ?_)
            obtain ⟨hM176, h178⟩ := h177
            have bM176 := tkx_b (f := gf) (n := gn) (M := M176) (by omega)
            have qM176 := po_rr (teP gf gn false (suR gf gn 0)) gn (nxF gf gn gq164) (M174.1 78 5).toInt (M174.1 78 6).toInt (psX M174) (M176.1 78 5).toInt (M176.1 78 6).toInt (psX M176) (te_g gf gn (fun _ => suR_g gf gn 0)) (by omega) (by omega)
            refine j_aload_n C 0 0 dX8_sum_55 rfl rfl ?_
            refine j_iload_n C 2 2 dX8_sum_56 rfl rfl ?_
            have u179b := tkx_b (f := gf) (n := gn) (M := M176) (by omega)
            refine j_callVv C (d := 0) (As := [.int (sI a161)]) (st := []) 78 (s_lt rfl rfl) (s_kc (c := 7) rfl rfl) (by decide) rfl (s1_X8_emit hM176 hpr a161 (by omega) gf gn ((teP gf gn false (suR gf gn 0)) (nxF gf gn gq164)).2.2 (by omega) (by omega) (by omega)) gX8_sum_X8_emit rfl hdX8_emit (by decide) (Nat.le_of_ble_eq_true rfl) dX8_sum_57 rfl (fun M181 h182 => ?_)
            obtain ⟨hM181, h183⟩ := h182
            have bM181 := tkx_b (f := gf) (n := gn) (M := M181) (by omega)
            have qM181 := po_eq gn ((teP gf gn false (suR gf gn 0)) (nxF gf gn gq164)).2.2 (M176.1 78 5).toInt (psX M176) (M181.1 78 5).toInt (psX M181) (by omega) (by omega) (by omega)
            refine j_aload_n C 0 0 dX8_sum_60 rfl rfl ?_
            refine j_callVi C (d := 0) (As := []) (st := []) 78 (s_lt rfl rfl) (s_kc (c := 7) rfl rfl) (by decide) rfl (s1_X8_token hM181 gf gn ((teP gf gn false (suR gf gn 0)) (nxF gf gn gq164)).2.2 (by omega) (by omega)) gX8_sum_X8_token rfl hdX8_token (by decide) (Nat.le_of_ble_eq_true rfl) dX8_sum_61 rfl (fun r184 M185 h186 => ?_)
            obtain ⟨a188, rfl, rfl, h187⟩ := h186
            refine j_istore_n C 2 [(2, .int (sI a188)), (0, .ref (ad 78)), (1, .int (sI 5)), (3, .int (sI a162))] dX8_sum_64 rfl (by decide) rfl ?_
            refine y_iinc C 3 [(3, .int (sI (a162 + 1))), (2, .int (sI a188)), (0, .ref (ad 78)), (1, .int (sI 5))] dX8_sum_65 rfl (by decide) rfl ?_
            have u189s := ll_s gf gn 2043 2045 (teP gf gn false (suR gf gn 0)) ((teP gf gn false (suR gf gn 0)) gi).2.2 gq164 a162 (M102.1 78 5).toInt (M102.1 78 6).toInt (M163.1 78 5).toInt (M163.1 78 6).toInt (psX M163) (M174.1 78 5).toInt (M174.1 78 6).toInt (M176.1 78 5).toInt (M176.1 78 6).toInt (psX M176) (M181.1 78 5).toInt (M181.1 78 6).toInt (psX M181) (by decide) (te_g gf gn (fun _ => suR_g gf gn 0)) (by omega) (by omega) (by omega) (by omega) (by omega) (by omega) (by omega) (by omega) (by omega)
            have u189c := lc_s gf gn 2043 2045 (teP gf gn false (suR gf gn 0)) (teL gf gn false (suR gf gn 0) (sLR gf gn 0)) (by decide) (te_g gf gn (fun _ => suR_g gf gn 0)) (show b01 (LC AGC (M163.1 78 5).toInt (luL gf gn 2043 2045 (teP gf gn false (suR gf gn 0)) (teL gf gn false (suR gf gn 0) (sLR gf gn 0))) ((teP gf gn false (suR gf gn 0)) gi).2.2 gq164 M102 M163) = 1 by omega) (show b01 (PO gn gq164 (M163.1 78 5).toInt (psX M163)) = 1 by omega) (by omega) (show b01 (RR ((teP gf gn false (suR gf gn 0)) (nxF gf gn gq164)) (M174.1 78 5).toInt (M174.1 78 6).toInt (M176.1 78 5).toInt (M176.1 78 6).toInt (psX M176)) = 1 by omega) (fun z => by omega) (cl_e (L := ([] ++ ((teL gf gn false (suR gf gn 0) (sLR gf gn 0)) (nxF gf gn gq164))) ++ [cmF a161]) (cl_t (cl_t (cl_r (A := AGC) (M := M163) (N := M174) (M174.1 78 5).toInt (agc_78 eM174)) (show b01 (CL AGC (M176.1 78 5).toInt M174 M176 ((teL gf gn false (suR gf gn 0) (sLR gf gn 0)) (nxF gf gn gq164))) = 1 by omega) (fun z => rr_z (show b01 (RR ((teP gf gn false (suR gf gn 0)) (nxF gf gn gq164)) (M174.1 78 5).toInt (M174.1 78 6).toInt (M176.1 78 5).toInt (M176.1 78 6).toInt (psX M176)) = 1 by omega) z)) (show b01 (CL AGC (M181.1 78 5).toInt M176 M181 [cmF a161]) = 1 by omega) (fun z => by omega)) (fun z => by rw [show tkF gf gn (psX M163) = a161 by omega, List.nil_append]) : b01 (CL AGC (M181.1 78 5).toInt M163 M181 (((teL gf gn false (suR gf gn 0) (sLR gf gn 0)) (nxF gf gn gq164)) ++ [cmF (tkF gf gn (psX M163))])) = 1) (fun z => by omega)
            refine j_goto C 12 dX8_sum_68 (by decide) ?_
            have zr := (rfx_t (rfx_t (rfx_i (show b01 (RFX M0 M163) = 1 by omega) eM174 (by decide)) (show b01 (RFX M174 M176) = 1 by omega)) (show b01 (RFX M176 M181) = 1 by omega)); refine j_lv [2, 3, 1, 0] rfl ?_; exact ih159 a188 (a162 + 1) M181 ((teP gf gn false (suR gf gn 0)) (nxF gf gn gq164)).2.2 (by omega) hM181
          · refine j_iload_n C 2 2 dX8_sum_33 rfl rfl ?_
            refine y_sipush C dX8_sum_34 rfl ?_
            refine y_icmp_ne C 71 dX8_sum_37 (by decide) (by omega) (fun h190 => ?_) (fun h190 => ?_)
            · have u211e := ll_e gf gn 2043 2045 (teP gf gn false (suR gf gn 0)) ((teP gf gn false (suR gf gn 0)) gi).2.2 gq164 a162 (M102.1 78 5).toInt (M102.1 78 6).toInt (M163.1 78 5).toInt (M163.1 78 6).toInt (psX M163) (by decide) (te_g gf gn (fun _ => suR_g gf gn 0)) (by omega) (by omega)
              have u211r : b01 (RR ((suR gf gn 1) gi) (M0.1 78 5).toInt (M0.1 78 6).toInt (M163.1 78 5).toInt (M163.1 78 6).toInt (psX M163)) = 1 := by rw [su_q gf gn 0 1 rfl]; exact rr_sq ((teP gf gn false (suR gf gn 0)) gi) (luP gf gn 2043 2045 (teP gf gn false (suR gf gn 0))) (M0.1 78 5).toInt (M0.1 78 6).toInt (M102.1 78 5).toInt (M102.1 78 6).toInt (psX M102) (M163.1 78 5).toInt (M163.1 78 6).toInt (psX M163) (by omega) (by omega)
              have u211x := lc_e gf gn 2043 2045 (teP gf gn false (suR gf gn 0)) ((teL gf gn false (suR gf gn 0) (sLR gf gn 0))) (by decide) (show b01 (LC AGC (M163.1 78 5).toInt (luL gf gn 2043 2045 (teP gf gn false (suR gf gn 0)) (teL gf gn false (suR gf gn 0) (sLR gf gn 0))) ((teP gf gn false (suR gf gn 0)) gi).2.2 gq164 M102 M163) = 1 by omega) (show b01 (LL (luP gf gn 2043 2045 (teP gf gn false (suR gf gn 0))) gn ((teP gf gn false (suR gf gn 0)) gi).2.2 gq164 a162 (M102.1 78 5).toInt (M102.1 78 6).toInt (M163.1 78 5).toInt (M163.1 78 6).toInt (psX M163)) = 1 by omega) (by omega)
              have u211l : b01 (CL AGC (M163.1 78 5).toInt M0 M163 ((sLR gf gn 1) gi)) = 1 := cl_e (cl_t (show b01 (CL AGC (M102.1 78 5).toInt M0 M102 ((teL gf gn false (suR gf gn 0) (sLR gf gn 0)) gi)) = 1 by omega) u211x (fun z => rr_z (show b01 (RR ((luP gf gn 2043 2045 (teP gf gn false (suR gf gn 0))) ((teP gf gn false (suR gf gn 0)) gi).2.2) (M102.1 78 5).toInt (M102.1 78 6).toInt (M163.1 78 5).toInt (M163.1 78 6).toInt (psX M163)) = 1 by omega) z)) (fun z => su_l gf gn 0 1 rfl gi)
              have zr := (show b01 (RFX M0 M163) = 1 by omega); exact hret _ _ _ dX8_sum_71 ⟨hM163, by omega⟩
            · refine j_aload_n C 0 0 dX8_sum_40 rfl rfl ?_
              refine j_dup C dX8_sum_41 rfl ?_
              refine y_getI C 7 _ _ fX8_sum_18 rfl rfl ft_7_2 sb_7_2 hM163 dX8_sum_42 (fun a191 ea191 la191 ua191 => ?_)
              refine y_iconst C dX8_sum_45 ?_
              refine y_iadd C dX8_sum_46 ?_
              refine y_putI C 7 _ _ qX8_sum_18 rfl rfl ft_7_2 sb_7_2 hM163 (PX.w hpr rfl rfl) dX8_sum_47 (by omega) (fun M193 eM193 hM193 => ?_)
              have xM193 := tkx_j (f := gf) (n := gn) (gi := gq164) eM193 (by omega) (by omega) (by omega) (by omega)
              have dM193 := cs_w hM163 (c := 7) rfl eM193 (by decide)
              have gM193 := s_wr eM193 (by omega)
              refine j_aload_n C 0 0 dX8_sum_50 rfl rfl ?_
              refine j_iload_n C 1 1 dX8_sum_51 rfl rfl ?_
              refine j_callVv C (d := 7) (As := [.int (sI 5)]) (st := []) 78 (s_lt rfl rfl) (s_kc (c := 7) rfl rfl) (by decide) rfl (s3_X8_term hM193 hpr gf gn (nxF gf gn gq164) (by omega) (by omega) (by omega)) gX8_sum_X8_term rfl hdX8_term (by decide) (Nat.le_of_ble_eq_true rfl) dX8_sum_52 rfl (fun M195 h196 => ?_)
              obtain ⟨hM195, h197⟩ := h196
              have bM195 := tkx_b (f := gf) (n := gn) (M := M195) (by omega)
              have qM195 := po_rr (teP gf gn false (suR gf gn 0)) gn (nxF gf gn gq164) (M193.1 78 5).toInt (M193.1 78 6).toInt (psX M193) (M195.1 78 5).toInt (M195.1 78 6).toInt (psX M195) (te_g gf gn (fun _ => suR_g gf gn 0)) (by omega) (by omega)
              refine j_aload_n C 0 0 dX8_sum_55 rfl rfl ?_
              refine j_iload_n C 2 2 dX8_sum_56 rfl rfl ?_
              have u198b := tkx_b (f := gf) (n := gn) (M := M195) (by omega)
              refine j_callVv C (d := 0) (As := [.int (sI a161)]) (st := []) 78 (s_lt rfl rfl) (s_kc (c := 7) rfl rfl) (by decide) rfl (s1_X8_emit hM195 hpr a161 (by omega) gf gn ((teP gf gn false (suR gf gn 0)) (nxF gf gn gq164)).2.2 (by omega) (by omega) (by omega)) gX8_sum_X8_emit rfl hdX8_emit (by decide) (Nat.le_of_ble_eq_true rfl) dX8_sum_57 rfl (fun M200 h201 => ?_)
              obtain ⟨hM200, h202⟩ := h201
              have bM200 := tkx_b (f := gf) (n := gn) (M := M200) (by omega)
              have qM200 := po_eq gn ((teP gf gn false (suR gf gn 0)) (nxF gf gn gq164)).2.2 (M195.1 78 5).toInt (psX M195) (M200.1 78 5).toInt (psX M200) (by omega) (by omega) (by omega)
              refine j_aload_n C 0 0 dX8_sum_60 rfl rfl ?_
              refine j_callVi C (d := 0) (As := []) (st := []) 78 (s_lt rfl rfl) (s_kc (c := 7) rfl rfl) (by decide) rfl (s1_X8_token hM200 gf gn ((teP gf gn false (suR gf gn 0)) (nxF gf gn gq164)).2.2 (by omega) (by omega)) gX8_sum_X8_token rfl hdX8_token (by decide) (Nat.le_of_ble_eq_true rfl) dX8_sum_61 rfl (fun r203 M204 h205 => ?_)
              obtain ⟨a207, rfl, rfl, h206⟩ := h205
              refine j_istore_n C 2 [(2, .int (sI a207)), (0, .ref (ad 78)), (1, .int (sI 5)), (3, .int (sI a162))] dX8_sum_64 rfl (by decide) rfl ?_
              refine y_iinc C 3 [(3, .int (sI (a162 + 1))), (2, .int (sI a207)), (0, .ref (ad 78)), (1, .int (sI 5))] dX8_sum_65 rfl (by decide) rfl ?_
              have u208s := ll_s gf gn 2043 2045 (teP gf gn false (suR gf gn 0)) ((teP gf gn false (suR gf gn 0)) gi).2.2 gq164 a162 (M102.1 78 5).toInt (M102.1 78 6).toInt (M163.1 78 5).toInt (M163.1 78 6).toInt (psX M163) (M193.1 78 5).toInt (M193.1 78 6).toInt (M195.1 78 5).toInt (M195.1 78 6).toInt (psX M195) (M200.1 78 5).toInt (M200.1 78 6).toInt (psX M200) (by decide) (te_g gf gn (fun _ => suR_g gf gn 0)) (by omega) (by omega) (by omega) (by omega) (by omega) (by omega) (by omega) (by omega) (by omega)
              have u208c := lc_s gf gn 2043 2045 (teP gf gn false (suR gf gn 0)) (teL gf gn false (suR gf gn 0) (sLR gf gn 0)) (by decide) (te_g gf gn (fun _ => suR_g gf gn 0)) (show b01 (LC AGC (M163.1 78 5).toInt (luL gf gn 2043 2045 (teP gf gn false (suR gf gn 0)) (teL gf gn false (suR gf gn 0) (sLR gf gn 0))) ((teP gf gn false (suR gf gn 0)) gi).2.2 gq164 M102 M163) = 1 by omega) (show b01 (PO gn gq164 (M163.1 78 5).toInt (psX M163)) = 1 by omega) (by omega) (show b01 (RR ((teP gf gn false (suR gf gn 0)) (nxF gf gn gq164)) (M193.1 78 5).toInt (M193.1 78 6).toInt (M195.1 78 5).toInt (M195.1 78 6).toInt (psX M195)) = 1 by omega) (fun z => by omega) (cl_e (L := ([] ++ ((teL gf gn false (suR gf gn 0) (sLR gf gn 0)) (nxF gf gn gq164))) ++ [cmF a161]) (cl_t (cl_t (cl_r (A := AGC) (M := M163) (N := M193) (M193.1 78 5).toInt (agc_78 eM193)) (show b01 (CL AGC (M195.1 78 5).toInt M193 M195 ((teL gf gn false (suR gf gn 0) (sLR gf gn 0)) (nxF gf gn gq164))) = 1 by omega) (fun z => rr_z (show b01 (RR ((teP gf gn false (suR gf gn 0)) (nxF gf gn gq164)) (M193.1 78 5).toInt (M193.1 78 6).toInt (M195.1 78 5).toInt (M195.1 78 6).toInt (psX M195)) = 1 by omega) z)) (show b01 (CL AGC (M200.1 78 5).toInt M195 M200 [cmF a161]) = 1 by omega) (fun z => by omega)) (fun z => by rw [show tkF gf gn (psX M163) = a161 by omega, List.nil_append]) : b01 (CL AGC (M200.1 78 5).toInt M163 M200 (((teL gf gn false (suR gf gn 0) (sLR gf gn 0)) (nxF gf gn gq164)) ++ [cmF (tkF gf gn (psX M163))])) = 1) (fun z => by omega)
              refine j_goto C 12 dX8_sum_68 (by decide) ?_
              have zr := (rfx_t (rfx_t (rfx_i (show b01 (RFX M0 M163) = 1 by omega) eM193 (by decide)) (show b01 (RFX M193 M195) = 1 by omega)) (show b01 (RFX M195 M200) = 1 by omega)); refine j_lv [2, 3, 1, 0] rfl ?_; exact ih159 a207 (a162 + 1) M200 ((teP gf gn false (suR gf gn 0)) (nxF gf gn gq164)).2.2 (by omega) hM200
  have zr := (rfx_t (rfx_r M0) (show b01 (RFX M0 M102) = 1 by omega)); refine j_lv [2, 3, 1, 0] rfl ?_; exact L160 4294967306 a109 0 M102 ((teP gf gn false (suR gf gn 0)) gi).2.2 (by omega) hM102
set_option maxHeartbeats 4000000 in
theorem s4_X8_atom {l : Launch} {dC : Nat → ClassId} {dI : Nat → Nat → Nat} {ad : Nat → Nat} {cA : Nat → ClassId} {pr : Nat → Nat → Bool} {Kz : mm_M} {M0 : mm_M} (hM0 : INV pr Kz M0) (hpr : PX pr) (gf : Nat → Int) (gn : Int) (gi : Int) (hp0 : csX M0 ≤ (M0.1 78 2).toInt) (hp1 : b01 (TKX gf gn M0) = 1) (hp2 : b01 (PO gn gi (M0.1 78 5).toInt (psX M0)) = 1) : Cv l 9 yX8_atom wsX8_atom dC dI ad cA [.ref (ad 78), .int (sI 4)] M0 (fun M' => INV pr Kz M' ∧ (csX M' - csX M0 ≤ (M'.1 78 2).toInt - (M0.1 78 2).toInt) ∧ (b01 (CL AGC (M'.1 78 5).toInt M0 M' ((atL gf gn false (sLR gf gn 1)) gi)) = 1) ∧ (b01 (TKX gf gn M') = 1) ∧ b01 (RR ((atP gf gn false (suR gf gn 1)) gi) (M0.1 78 5).toInt (M0.1 78 6).toInt (M'.1 78 5).toInt (M'.1 78 6).toInt (psX M')) = 1 ∧ (b01 (RFX M0 M') = 1)) := by
  refine cv_of (cc := cX8_atom) (maxL := 3) (lv := [(0, .ref (ad 78)), (1, .int (sI 4))]) (by decide) rfl (Nat.le_of_ble_eq_true rfl) rfl ?_
  intro p e s m args below meth c A Q C hret
  have u101b := tkx_b (f := gf) (n := gn) (M := M0) (by omega)
  refine j_aload_n C 0 0 dX8_atom_0 rfl rfl ?_
  refine y_getI C 7 _ _ fX8_atom_22 rfl rfl ft_7_5 sb_7_5 hM0 dX8_atom_1 (fun a102 ea102 la102 ua102 => ?_)
  refine y_if_eq C 8 dX8_atom_4 (by decide) (by omega) (fun h104 => ?_) (fun h104 => ?_)
  · refine j_aload_n C 0 0 dX8_atom_8 rfl rfl ?_
    refine j_callVi C (d := 0) (As := []) (st := []) 78 (s_lt rfl rfl) (s_kc (c := 7) rfl rfl) (by decide) rfl (s1_X8_token hM0 gf gn gi (by omega) (by omega)) gX8_atom_X8_token rfl hdX8_token (by decide) (Nat.le_of_ble_eq_true rfl) dX8_atom_9 rfl (fun r105 M106 h107 => ?_)
    obtain ⟨a109, rfl, rfl, h108⟩ := h107
    refine j_istore_n C 2 [(2, .int (sI a109)), (0, .ref (ad 78)), (1, .int (sI 4))] dX8_atom_12 rfl (by decide) rfl ?_
    refine j_iload_n C 0 2 dX8_atom_13 rfl rfl ?_
    refine y_sipush C dX8_atom_14 rfl ?_
    refine y_icmp_ge C 38 dX8_atom_17 (by decide) (by omega) (fun h110 => ?_) (fun h110 => ?_)
    · refine j_iload_n C 0 2 dX8_atom_38 rfl rfl ?_
      refine y_sipush C dX8_atom_39 rfl ?_
      refine y_icmp_ne C 67 dX8_atom_42 (by decide) (by omega) (fun h111 => ?_) (fun h111 => ?_)
      · refine j_aload_n C 1 0 dX8_atom_67 rfl rfl ?_
        refine y_iconst C dX8_atom_68 ?_
        refine j_callVv C (d := 0) (As := [.int (sI 2)]) (st := []) 78 (s_lt rfl rfl) (s_kc (c := 7) rfl rfl) (by decide) rfl (s1_X8_fail hM0 hpr 2 (by omega) gf gn gi (by omega) (by omega) (by omega)) gX8_atom_X8_fail rfl hdX8_fail (by decide) (Nat.le_of_ble_eq_true rfl) dX8_atom_69 rfl (fun M113 h114 => ?_)
        obtain ⟨hM113, fM113, h115⟩ := h114
        have bM113 := tkx_b (f := gf) (n := gn) (M := M113) (by omega)
        have qM113 := po_f gn ((faQ gf gn 2) gi).2.2 (M113.1 78 5).toInt (psX M113) (by omega)
        have dM113 := cs_f hM0 fM113
        have u116r := at_4 gf gn false (suR gf gn 1) gi (M0.1 78 5).toInt (M0.1 78 6).toInt (psX M0) (M113.1 78 5).toInt (M113.1 78 6).toInt (psX M113) (by omega) (by omega) (by omega)
        have u116l := cl_n (A := AGC) (M := M0) (N := M113) ((atL gf gn false (sLR gf gn 1)) gi) (a := (M113.1 78 5).toInt) (by omega)
        have zr := (rfx_F (rfx_r M0) fM113); exact hret _ _ _ dX8_atom_72 ⟨hM113, by omega⟩
      · refine j_aload_n C 1 0 dX8_atom_45 rfl rfl ?_
        refine j_iload_n C 2 1 dX8_atom_46 rfl rfl ?_
        refine j_callVv C (d := 0) (As := [.int (sI 4)]) (st := []) 78 (s_lt rfl rfl) (s_kc (c := 7) rfl rfl) (by decide) rfl (s5_X8_goDeeper hM0 hpr gf gn gi (by omega) (by omega) (by omega) (by omega) (by omega)) gX8_atom_X8_goDeeper rfl hdX8_goDeeper (by decide) (Nat.le_of_ble_eq_true rfl) dX8_atom_47 rfl (fun M118 h119 => ?_)
        obtain ⟨hM118, fM118, h120⟩ := h119
        have bM118 := tkx_b (f := gf) (n := gn) (M := M118) (by omega)
        have dM118 := cs_f hM0 fM118
        refine j_aload_n C 1 0 dX8_atom_50 rfl rfl ?_
        refine j_iload_n C 2 1 dX8_atom_51 rfl rfl ?_
        refine y_iconst C dX8_atom_52 ?_
        refine y_iadd C dX8_atom_53 ?_
        refine j_callVv C (d := 8) (As := [.int (sI (4 + 1))]) (st := []) 78 (s_lt rfl rfl) (s_kc (c := 7) rfl rfl) (by decide) rfl (s3_X8_sum hM118 hpr gf gn (nxF gf gn gi) (by omega) (by omega) (by omega)) gX8_atom_X8_sum rfl hdX8_sum (by decide) (Nat.le_of_ble_eq_true rfl) dX8_atom_54 rfl (fun M122 h123 => ?_)
        obtain ⟨hM122, h124⟩ := h123
        have bM122 := tkx_b (f := gf) (n := gn) (M := M122) (by omega)
        have qM122 := po_rr (suR gf gn 1) gn (nxF gf gn gi) (M118.1 78 5).toInt (M118.1 78 6).toInt (psX M118) (M122.1 78 5).toInt (M122.1 78 6).toInt (psX M122) (suR_g gf gn 1) (by omega) (by omega)
        refine j_aload_n C 1 0 dX8_atom_57 rfl rfl ?_
        refine y_sipush C dX8_atom_58 rfl ?_
        refine j_callVv C (d := 1) (As := [.int (sI 2041)]) (st := []) 78 (s_lt rfl rfl) (s_kc (c := 7) rfl rfl) (by decide) rfl (s1_X8_expect hM122 hpr 2041 (by omega) gf gn ((suR gf gn 1) (nxF gf gn gi)).2.2 (by omega) (by omega) (by omega) (by omega)) gX8_atom_X8_expect rfl hdX8_expect (by decide) (Nat.le_of_ble_eq_true rfl) dX8_atom_61 rfl (fun M126 h127 => ?_)
        obtain ⟨hM126, fM126, h128⟩ := h127
        have bM126 := tkx_b (f := gf) (n := gn) (M := M126) (by omega)
        have qM126 := po_rr (exP gf gn 2041) gn ((suR gf gn 1) (nxF gf gn gi)).2.2 (M122.1 78 5).toInt (M122.1 78 6).toInt (psX M122) (M126.1 78 5).toInt (M126.1 78 6).toInt (psX M126) (ex_g gf gn 2041 (by omega)) (by omega) (by omega)
        have dM126 := cs_f hM122 fM126
        refine j_goto C 72 dX8_atom_64 (by decide) ?_
        have u129r := at_2 gf gn (suR gf gn 1) gi (M0.1 78 5).toInt (M0.1 78 6).toInt (psX M0) (M118.1 78 5).toInt (M118.1 78 6).toInt (M122.1 78 5).toInt (M122.1 78 6).toInt (psX M122) (M126.1 78 5).toInt (M126.1 78 6).toInt (psX M126) (by omega) (by omega) (by omega) (by omega) (by omega) (by omega)
        have u129l : b01 (CL AGC (M126.1 78 5).toInt M0 M126 ((atL gf gn false (sLR gf gn 1)) gi)) = 1 := cl_e (cl_t (cl_t (cl_r (A := AGC) (M := M0) (N := M118) (M118.1 78 5).toInt (agc_F fM118)) (show b01 (CL AGC (M122.1 78 5).toInt M118 M122 ((sLR gf gn 1) (nxF gf gn gi))) = 1 by omega) (fun z => rr_z (show b01 (RR ((suR gf gn 1) (nxF gf gn gi)) (M118.1 78 5).toInt (M118.1 78 6).toInt (M122.1 78 5).toInt (M122.1 78 6).toInt (psX M122)) = 1 by omega) z)) (cl_r (A := AGC) (M := M122) (N := M126) (M126.1 78 5).toInt (agc_F fM126)) (fun z => rr_z (show b01 (RR ((exP gf gn 2041) ((suR gf gn 1) (nxF gf gn gi)).2.2) (M122.1 78 5).toInt (M122.1 78 6).toInt (M126.1 78 5).toInt (M126.1 78 6).toInt (psX M126)) = 1 by omega) z)) (fun z => by rw [at_l2 gf gn (sLR gf gn 1) (show b01 (PO gn gi (M0.1 78 5).toInt (psX M0)) = 1 by omega) (by omega) (by omega), List.nil_append, List.append_nil])
        have zr := (rfx_F (rfx_t (rfx_F (rfx_r M0) fM118) (show b01 (RFX M118 M122) = 1 by omega)) fM126); exact hret _ _ _ dX8_atom_72 ⟨hM126, by omega⟩
    · refine j_aload_n C 1 0 dX8_atom_20 rfl rfl ?_
      refine j_dup C dX8_atom_21 rfl ?_
      refine y_getI C 7 _ _ fX8_atom_18 rfl rfl ft_7_2 sb_7_2 hM0 dX8_atom_22 (fun a130 ea130 la130 ua130 => ?_)
      refine y_iconst C dX8_atom_25 ?_
      refine y_iadd C dX8_atom_26 ?_
      refine y_putI C 7 _ _ qX8_atom_18 rfl rfl ft_7_2 sb_7_2 hM0 (PX.w hpr rfl rfl) dX8_atom_27 (by omega) (fun M132 eM132 hM132 => ?_)
      have xM132 := tkx_j (f := gf) (n := gn) (gi := gi) eM132 (by omega) (by omega) (by omega) (by omega)
      have dM132 := cs_w hM0 (c := 7) rfl eM132 (by decide)
      have gM132 := s_wr eM132 (by omega)
      refine j_aload_n C 1 0 dX8_atom_30 rfl rfl ?_
      refine j_iload_n C 0 2 dX8_atom_31 rfl rfl ?_
      have u133b := tkx_b (f := gf) (n := gn) (M := M132) (by omega)
      refine j_callVv C (d := 0) (As := [.int (sI a109)]) (st := []) 78 (s_lt rfl rfl) (s_kc (c := 7) rfl rfl) (by decide) rfl (s1_X8_emit hM132 hpr a109 (by omega) gf gn (nxF gf gn gi) (by omega) (by omega) (by omega)) gX8_atom_X8_emit rfl hdX8_emit (by decide) (Nat.le_of_ble_eq_true rfl) dX8_atom_32 rfl (fun M135 h136 => ?_)
      obtain ⟨hM135, h137⟩ := h136
      have bM135 := tkx_b (f := gf) (n := gn) (M := M135) (by omega)
      have qM135 := po_eq gn (nxF gf gn gi) (M132.1 78 5).toInt (psX M132) (M135.1 78 5).toInt (psX M135) (by omega) (by omega) (by omega)
      refine j_goto C 72 dX8_atom_35 (by decide) ?_
      have u138r := rr_eq ((atP gf gn false (suR gf gn 1)) gi) (M0.1 78 5).toInt (M0.1 78 6).toInt (M132.1 78 5).toInt (M132.1 78 6).toInt (psX M132) (M135.1 78 5).toInt (M135.1 78 6).toInt (psX M135) (at_1 gf gn false (suR gf gn 1) gi (M0.1 78 5).toInt (M0.1 78 6).toInt (psX M0) (M132.1 78 5).toInt (M132.1 78 6).toInt (psX M132) (by omega) (by omega) (by omega) (by omega) (by omega) (by omega)) (by omega) (by omega) (by omega)
      have u138l : b01 (CL AGC (M135.1 78 5).toInt M0 M135 ((atL gf gn false (sLR gf gn 1)) gi)) = 1 := cl_e (cl_t (cl_r (A := AGC) (M := M0) (N := M132) (M132.1 78 5).toInt (agc_78 eM132)) (show b01 (CL AGC (M135.1 78 5).toInt M132 M135 [cmF a109]) = 1 by omega) (fun z => by omega)) (fun z => by rw [at_l1 gf gn false (sLR gf gn 1) (show b01 (PO gn gi (M0.1 78 5).toInt (psX M0)) = 1 by omega) (by omega) (by omega), show tkF gf gn (psX M0) = a109 by omega]; rfl)
      have zr := (rfx_t (rfx_i (rfx_r M0) eM132 (by decide)) (show b01 (RFX M132 M135) = 1 by omega)); exact hret _ _ _ dX8_atom_72 ⟨hM135, by omega⟩
  · have u139r := rr_no ((atP gf gn false (suR gf gn 1)) gi) (M0.1 78 5).toInt (M0.1 78 6).toInt (M0.1 78 5).toInt (M0.1 78 6).toInt (psX M0) (by omega) rfl rfl
    have u139l := cl_n (A := AGC) (M := M0) (N := M0) ((atL gf gn false (sLR gf gn 1)) gi) (a := (M0.1 78 5).toInt) (by omega)
    have zr := (rfx_r M0); exact hret _ _ _ dX8_atom_7 ⟨hM0, by omega⟩
set_option maxHeartbeats 4000000 in
theorem s4_X8_term {l : Launch} {dC : Nat → ClassId} {dI : Nat → Nat → Nat} {ad : Nat → Nat} {cA : Nat → ClassId} {pr : Nat → Nat → Bool} {Kz : mm_M} {M0 : mm_M} (hM0 : INV pr Kz M0) (hpr : PX pr) (gf : Nat → Int) (gn : Int) (gi : Int) (hp0 : csX M0 ≤ (M0.1 78 2).toInt) (hp1 : b01 (TKX gf gn M0) = 1) (hp2 : b01 (PO gn gi (M0.1 78 5).toInt (psX M0)) = 1) : Cv l 10 yX8_term wsX8_term dC dI ad cA [.ref (ad 78), .int (sI 4)] M0 (fun M' => INV pr Kz M' ∧ (csX M' - csX M0 ≤ (M'.1 78 2).toInt - (M0.1 78 2).toInt) ∧ (b01 (CL AGC (M'.1 78 5).toInt M0 M' ((teL gf gn false (suR gf gn 1) (sLR gf gn 1)) gi)) = 1) ∧ (b01 (TKX gf gn M') = 1) ∧ b01 (RR ((teP gf gn false (suR gf gn 1)) gi) (M0.1 78 5).toInt (M0.1 78 6).toInt (M'.1 78 5).toInt (M'.1 78 6).toInt (psX M')) = 1 ∧ (b01 (RFX M0 M') = 1)) := by
  refine cv_of (cc := cX8_term) (maxL := 3) (lv := [(0, .ref (ad 78)), (1, .int (sI 4))]) (by decide) rfl (Nat.le_of_ble_eq_true rfl) rfl ?_
  intro p e s m args below meth c A Q C hret
  refine j_aload_n C 0 0 dX8_term_0 rfl rfl ?_
  refine j_iload_n C 1 1 dX8_term_1 rfl rfl ?_
  refine j_callVv C (d := 9) (As := [.int (sI 4)]) (st := []) 78 (s_lt rfl rfl) (s_kc (c := 7) rfl rfl) (by decide) rfl (s4_X8_atom hM0 hpr gf gn gi (by omega) (by omega) (by omega)) gX8_term_X8_atom rfl hdX8_atom (by decide) (Nat.le_of_ble_eq_true rfl) dX8_term_2 rfl (fun M102 h103 => ?_)
  obtain ⟨hM102, h104⟩ := h103
  have bM102 := tkx_b (f := gf) (n := gn) (M := M102) (by omega)
  have qM102 := po_rr (atP gf gn false (suR gf gn 1)) gn gi (M0.1 78 5).toInt (M0.1 78 6).toInt (psX M0) (M102.1 78 5).toInt (M102.1 78 6).toInt (psX M102) (at_g gf gn (fun _ => suR_g gf gn 1)) (by omega) (by omega)
  refine y_iconst C dX8_term_5 ?_
  have u105l := ll_0 (luP gf gn 2042 2042 (atP gf gn false (suR gf gn 1))) gn ((atP gf gn false (suR gf gn 1)) gi).2.2 (M102.1 78 5).toInt (M102.1 78 6).toInt (psX M102) (by omega)
  have u105c := lc_0 (A := AGC) (M102.1 78 5).toInt (luL gf gn 2042 2042 (atP gf gn false (suR gf gn 1)) (atL gf gn false (sLR gf gn 1))) ((atP gf gn false (suR gf gn 1)) gi).2.2 M102
  refine j_istore_n C 2 [(2, .int (sI 0)), (0, .ref (ad 78)), (1, .int (sI 4))] dX8_term_6 rfl (by decide) rfl ?_
  have L135 : ∀ (n133 : Nat), ∀ (a136 : Int) (M137 : mm_M) (gq138 : Int), (0 ≤ a136 ∧ a136 ≤ 900 ∧ (b01 (LL (luP gf gn 2042 2042 (atP gf gn false (suR gf gn 1))) gn ((atP gf gn false (suR gf gn 1)) gi).2.2 gq138 a136 (M102.1 78 5).toInt (M102.1 78 6).toInt (M137.1 78 5).toInt (M137.1 78 6).toInt (psX M137)) = 1) ∧ (b01 (LC AGC (M137.1 78 5).toInt (luL gf gn 2042 2042 (atP gf gn false (suR gf gn 1)) (atL gf gn false (sLR gf gn 1))) ((atP gf gn false (suR gf gn 1)) gi).2.2 gq138 M102 M137) = 1) ∧ (csX M137 - csX M102 ≤ (M137.1 78 2).toInt - (M102.1 78 2).toInt) ∧ (b01 (TKX gf gn M137) = 1) ∧ (b01 (PO gn gq138 (M137.1 78 5).toInt (psX M137)) = 1) ∧ (b01 (RFX M0 M137) = 1) ∧ (900 - a136) < (n133 : Int)) → INV pr Kz M137 → jj p l e (cn_R 10) s m args below meth c 0 0 Q 3 dC dI ad cA A M137 7 [(0, .ref (ad 78)), (1, .int (sI 4)), (2, .int (sI a136))] [] := by
    intro n133
    induction n133 with
    | zero =>
      intro a136 M137 gq138 h139 hM137
      exfalso; omega
    | succ n133 ih134 =>
      intro a136 M137 gq138 h139 hM137
      have u140b := tkx_b (f := gf) (n := gn) (M := M137) (by omega)
      refine j_iload_n C 2 2 dX8_term_7 rfl rfl ?_
      refine y_sipush C dX8_term_8 rfl ?_
      refine y_icmp_ge C 59 dX8_term_11 (by decide) (by omega) (fun h141 => ?_) (fun h141 => ?_)
      · have u164e := ll_e gf gn 2042 2042 (atP gf gn false (suR gf gn 1)) ((atP gf gn false (suR gf gn 1)) gi).2.2 gq138 a136 (M102.1 78 5).toInt (M102.1 78 6).toInt (M137.1 78 5).toInt (M137.1 78 6).toInt (psX M137) (by decide) (at_g gf gn (fun _ => suR_g gf gn 1)) (by omega) (by omega)
        have u164r : b01 (RR ((teP gf gn false (suR gf gn 1)) gi) (M0.1 78 5).toInt (M0.1 78 6).toInt (M137.1 78 5).toInt (M137.1 78 6).toInt (psX M137)) = 1 := rr_sq ((atP gf gn false (suR gf gn 1)) gi) (luP gf gn 2042 2042 (atP gf gn false (suR gf gn 1))) (M0.1 78 5).toInt (M0.1 78 6).toInt (M102.1 78 5).toInt (M102.1 78 6).toInt (psX M102) (M137.1 78 5).toInt (M137.1 78 6).toInt (psX M137) (by omega) (by omega)
        have u164x := lc_e gf gn 2042 2042 (atP gf gn false (suR gf gn 1)) ((atL gf gn false (sLR gf gn 1))) (by decide) (show b01 (LC AGC (M137.1 78 5).toInt (luL gf gn 2042 2042 (atP gf gn false (suR gf gn 1)) (atL gf gn false (sLR gf gn 1))) ((atP gf gn false (suR gf gn 1)) gi).2.2 gq138 M102 M137) = 1 by omega) (show b01 (LL (luP gf gn 2042 2042 (atP gf gn false (suR gf gn 1))) gn ((atP gf gn false (suR gf gn 1)) gi).2.2 gq138 a136 (M102.1 78 5).toInt (M102.1 78 6).toInt (M137.1 78 5).toInt (M137.1 78 6).toInt (psX M137)) = 1 by omega) (by omega)
        have u164l : b01 (CL AGC (M137.1 78 5).toInt M0 M137 ((teL gf gn false (suR gf gn 1) (sLR gf gn 1)) gi)) = 1 := cl_e (cl_t (show b01 (CL AGC (M102.1 78 5).toInt M0 M102 ((atL gf gn false (sLR gf gn 1)) gi)) = 1 by omega) u164x (fun z => rr_z (show b01 (RR ((luP gf gn 2042 2042 (atP gf gn false (suR gf gn 1))) ((atP gf gn false (suR gf gn 1)) gi).2.2) (M102.1 78 5).toInt (M102.1 78 6).toInt (M137.1 78 5).toInt (M137.1 78 6).toInt (psX M137)) = 1 by omega) z)) (fun z => rfl)
        have zr := (show b01 (RFX M0 M137) = 1 by omega); exact hret _ _ _ dX8_term_59 ⟨hM137, by omega⟩
      · refine j_aload_n C 0 0 dX8_term_14 rfl rfl ?_
        refine y_getI C 7 _ _ fX8_term_22 rfl rfl ft_7_5 sb_7_5 hM137 dX8_term_15 (fun a142 ea142 la142 ua142 => ?_)
        refine y_if_ne C 59 dX8_term_18 (by decide) (by omega) (fun h144 => ?_) (fun h144 => ?_)
        · have u165e := ll_e gf gn 2042 2042 (atP gf gn false (suR gf gn 1)) ((atP gf gn false (suR gf gn 1)) gi).2.2 gq138 a136 (M102.1 78 5).toInt (M102.1 78 6).toInt (M137.1 78 5).toInt (M137.1 78 6).toInt (psX M137) (by decide) (at_g gf gn (fun _ => suR_g gf gn 1)) (by omega) (by omega)
          have u165r : b01 (RR ((teP gf gn false (suR gf gn 1)) gi) (M0.1 78 5).toInt (M0.1 78 6).toInt (M137.1 78 5).toInt (M137.1 78 6).toInt (psX M137)) = 1 := rr_sq ((atP gf gn false (suR gf gn 1)) gi) (luP gf gn 2042 2042 (atP gf gn false (suR gf gn 1))) (M0.1 78 5).toInt (M0.1 78 6).toInt (M102.1 78 5).toInt (M102.1 78 6).toInt (psX M102) (M137.1 78 5).toInt (M137.1 78 6).toInt (psX M137) (by omega) (by omega)
          have u165x := lc_e gf gn 2042 2042 (atP gf gn false (suR gf gn 1)) ((atL gf gn false (sLR gf gn 1))) (by decide) (show b01 (LC AGC (M137.1 78 5).toInt (luL gf gn 2042 2042 (atP gf gn false (suR gf gn 1)) (atL gf gn false (sLR gf gn 1))) ((atP gf gn false (suR gf gn 1)) gi).2.2 gq138 M102 M137) = 1 by omega) (show b01 (LL (luP gf gn 2042 2042 (atP gf gn false (suR gf gn 1))) gn ((atP gf gn false (suR gf gn 1)) gi).2.2 gq138 a136 (M102.1 78 5).toInt (M102.1 78 6).toInt (M137.1 78 5).toInt (M137.1 78 6).toInt (psX M137)) = 1 by omega) (by omega)
          have u165l : b01 (CL AGC (M137.1 78 5).toInt M0 M137 ((teL gf gn false (suR gf gn 1) (sLR gf gn 1)) gi)) = 1 := cl_e (cl_t (show b01 (CL AGC (M102.1 78 5).toInt M0 M102 ((atL gf gn false (sLR gf gn 1)) gi)) = 1 by omega) u165x (fun z => rr_z (show b01 (RR ((luP gf gn 2042 2042 (atP gf gn false (suR gf gn 1))) ((atP gf gn false (suR gf gn 1)) gi).2.2) (M102.1 78 5).toInt (M102.1 78 6).toInt (M137.1 78 5).toInt (M137.1 78 6).toInt (psX M137)) = 1 by omega) z)) (fun z => rfl)
          have zr := (show b01 (RFX M0 M137) = 1 by omega); exact hret _ _ _ dX8_term_59 ⟨hM137, by omega⟩
        · refine j_aload_n C 0 0 dX8_term_21 rfl rfl ?_
          refine j_callVi C (d := 0) (As := []) (st := []) 78 (s_lt rfl rfl) (s_kc (c := 7) rfl rfl) (by decide) rfl (s1_X8_token hM137 gf gn gq138 (by omega) (by omega)) gX8_term_X8_token rfl hdX8_token (by decide) (Nat.le_of_ble_eq_true rfl) dX8_term_22 rfl (fun r145 M146 h147 => ?_)
          obtain ⟨a149, rfl, rfl, h148⟩ := h147
          refine y_sipush C dX8_term_25 rfl ?_
          refine y_icmp_ne C 59 dX8_term_28 (by decide) (by omega) (fun h150 => ?_) (fun h150 => ?_)
          · have u166e := ll_e gf gn 2042 2042 (atP gf gn false (suR gf gn 1)) ((atP gf gn false (suR gf gn 1)) gi).2.2 gq138 a136 (M102.1 78 5).toInt (M102.1 78 6).toInt (M137.1 78 5).toInt (M137.1 78 6).toInt (psX M137) (by decide) (at_g gf gn (fun _ => suR_g gf gn 1)) (by omega) (by omega)
            have u166r : b01 (RR ((teP gf gn false (suR gf gn 1)) gi) (M0.1 78 5).toInt (M0.1 78 6).toInt (M137.1 78 5).toInt (M137.1 78 6).toInt (psX M137)) = 1 := rr_sq ((atP gf gn false (suR gf gn 1)) gi) (luP gf gn 2042 2042 (atP gf gn false (suR gf gn 1))) (M0.1 78 5).toInt (M0.1 78 6).toInt (M102.1 78 5).toInt (M102.1 78 6).toInt (psX M102) (M137.1 78 5).toInt (M137.1 78 6).toInt (psX M137) (by omega) (by omega)
            have u166x := lc_e gf gn 2042 2042 (atP gf gn false (suR gf gn 1)) ((atL gf gn false (sLR gf gn 1))) (by decide) (show b01 (LC AGC (M137.1 78 5).toInt (luL gf gn 2042 2042 (atP gf gn false (suR gf gn 1)) (atL gf gn false (sLR gf gn 1))) ((atP gf gn false (suR gf gn 1)) gi).2.2 gq138 M102 M137) = 1 by omega) (show b01 (LL (luP gf gn 2042 2042 (atP gf gn false (suR gf gn 1))) gn ((atP gf gn false (suR gf gn 1)) gi).2.2 gq138 a136 (M102.1 78 5).toInt (M102.1 78 6).toInt (M137.1 78 5).toInt (M137.1 78 6).toInt (psX M137)) = 1 by omega) (by omega)
            have u166l : b01 (CL AGC (M137.1 78 5).toInt M0 M137 ((teL gf gn false (suR gf gn 1) (sLR gf gn 1)) gi)) = 1 := cl_e (cl_t (show b01 (CL AGC (M102.1 78 5).toInt M0 M102 ((atL gf gn false (sLR gf gn 1)) gi)) = 1 by omega) u166x (fun z => rr_z (show b01 (RR ((luP gf gn 2042 2042 (atP gf gn false (suR gf gn 1))) ((atP gf gn false (suR gf gn 1)) gi).2.2) (M102.1 78 5).toInt (M102.1 78 6).toInt (M137.1 78 5).toInt (M137.1 78 6).toInt (psX M137)) = 1 by omega) z)) (fun z => rfl)
            have zr := (show b01 (RFX M0 M137) = 1 by omega); exact hret _ _ _ dX8_term_59 ⟨hM137, by omega⟩
          · refine j_aload_n C 0 0 dX8_term_31 rfl rfl ?_
            refine j_dup C dX8_term_32 rfl ?_
            refine y_getI C 7 _ _ fX8_term_18 rfl rfl ft_7_2 sb_7_2 hM137 dX8_term_33 (fun a151 ea151 la151 ua151 => ?_)
            refine y_iconst C dX8_term_36 ?_
            refine y_iadd C dX8_term_37 ?_
            refine y_putI C 7 _ _ qX8_term_18 rfl rfl ft_7_2 sb_7_2 hM137 (PX.w hpr rfl rfl) dX8_term_38 (by omega) (fun M153 eM153 hM153 => ?_)
            have xM153 := tkx_j (f := gf) (n := gn) (gi := gq138) eM153 (by omega) (by omega) (by omega) (by omega)
            have dM153 := cs_w hM137 (c := 7) rfl eM153 (by decide)
            have gM153 := s_wr eM153 (by omega)
            refine j_aload_n C 0 0 dX8_term_41 rfl rfl ?_
            refine j_iload_n C 1 1 dX8_term_42 rfl rfl ?_
            refine j_callVv C (d := 9) (As := [.int (sI 4)]) (st := []) 78 (s_lt rfl rfl) (s_kc (c := 7) rfl rfl) (by decide) rfl (s4_X8_atom hM153 hpr gf gn (nxF gf gn gq138) (by omega) (by omega) (by omega)) gX8_term_X8_atom rfl hdX8_atom (by decide) (Nat.le_of_ble_eq_true rfl) dX8_term_43 rfl (fun M155 h156 => ?_)
            obtain ⟨hM155, h157⟩ := h156
            have bM155 := tkx_b (f := gf) (n := gn) (M := M155) (by omega)
            have qM155 := po_rr (atP gf gn false (suR gf gn 1)) gn (nxF gf gn gq138) (M153.1 78 5).toInt (M153.1 78 6).toInt (psX M153) (M155.1 78 5).toInt (M155.1 78 6).toInt (psX M155) (at_g gf gn (fun _ => suR_g gf gn 1)) (by omega) (by omega)
            refine j_aload_n C 0 0 dX8_term_46 rfl rfl ?_
            refine y_sipush C dX8_term_47 rfl ?_
            have u158b := tkx_b (f := gf) (n := gn) (M := M155) (by omega)
            refine j_callVv C (d := 0) (As := [.int (sI 2042)]) (st := []) 78 (s_lt rfl rfl) (s_kc (c := 7) rfl rfl) (by decide) rfl (s1_X8_emit hM155 hpr 2042 (by omega) gf gn ((atP gf gn false (suR gf gn 1)) (nxF gf gn gq138)).2.2 (by omega) (by omega) (by omega)) gX8_term_X8_emit rfl hdX8_emit (by decide) (Nat.le_of_ble_eq_true rfl) dX8_term_50 rfl (fun M160 h161 => ?_)
            obtain ⟨hM160, h162⟩ := h161
            have bM160 := tkx_b (f := gf) (n := gn) (M := M160) (by omega)
            have qM160 := po_eq gn ((atP gf gn false (suR gf gn 1)) (nxF gf gn gq138)).2.2 (M155.1 78 5).toInt (psX M155) (M160.1 78 5).toInt (psX M160) (by omega) (by omega) (by omega)
            refine y_iinc C 2 [(2, .int (sI (a136 + 1))), (0, .ref (ad 78)), (1, .int (sI 4))] dX8_term_53 rfl (by decide) rfl ?_
            have u163s := ll_s gf gn 2042 2042 (atP gf gn false (suR gf gn 1)) ((atP gf gn false (suR gf gn 1)) gi).2.2 gq138 a136 (M102.1 78 5).toInt (M102.1 78 6).toInt (M137.1 78 5).toInt (M137.1 78 6).toInt (psX M137) (M153.1 78 5).toInt (M153.1 78 6).toInt (M155.1 78 5).toInt (M155.1 78 6).toInt (psX M155) (M160.1 78 5).toInt (M160.1 78 6).toInt (psX M160) (by decide) (at_g gf gn (fun _ => suR_g gf gn 1)) (by omega) (by omega) (by omega) (by omega) (by omega) (by omega) (by omega) (by omega) (by omega)
            have u163c := lc_s gf gn 2042 2042 (atP gf gn false (suR gf gn 1)) (atL gf gn false (sLR gf gn 1)) (by decide) (at_g gf gn (fun _ => suR_g gf gn 1)) (show b01 (LC AGC (M137.1 78 5).toInt (luL gf gn 2042 2042 (atP gf gn false (suR gf gn 1)) (atL gf gn false (sLR gf gn 1))) ((atP gf gn false (suR gf gn 1)) gi).2.2 gq138 M102 M137) = 1 by omega) (show b01 (PO gn gq138 (M137.1 78 5).toInt (psX M137)) = 1 by omega) (by omega) (show b01 (RR ((atP gf gn false (suR gf gn 1)) (nxF gf gn gq138)) (M153.1 78 5).toInt (M153.1 78 6).toInt (M155.1 78 5).toInt (M155.1 78 6).toInt (psX M155)) = 1 by omega) (fun z => by omega) (cl_e (L := ([] ++ ((atL gf gn false (sLR gf gn 1)) (nxF gf gn gq138))) ++ [cmF 2042]) (cl_t (cl_t (cl_r (A := AGC) (M := M137) (N := M153) (M153.1 78 5).toInt (agc_78 eM153)) (show b01 (CL AGC (M155.1 78 5).toInt M153 M155 ((atL gf gn false (sLR gf gn 1)) (nxF gf gn gq138))) = 1 by omega) (fun z => rr_z (show b01 (RR ((atP gf gn false (suR gf gn 1)) (nxF gf gn gq138)) (M153.1 78 5).toInt (M153.1 78 6).toInt (M155.1 78 5).toInt (M155.1 78 6).toInt (psX M155)) = 1 by omega) z)) (show b01 (CL AGC (M160.1 78 5).toInt M155 M160 [cmF 2042]) = 1 by omega) (fun z => by omega)) (fun z => by rw [show tkF gf gn (psX M137) = 2042 by omega, List.nil_append]) : b01 (CL AGC (M160.1 78 5).toInt M137 M160 (((atL gf gn false (sLR gf gn 1)) (nxF gf gn gq138)) ++ [cmF (tkF gf gn (psX M137))])) = 1) (fun z => by omega)
            refine j_goto C 7 dX8_term_56 (by decide) ?_
            have zr := (rfx_t (rfx_t (rfx_i (show b01 (RFX M0 M137) = 1 by omega) eM153 (by decide)) (show b01 (RFX M153 M155) = 1 by omega)) (show b01 (RFX M155 M160) = 1 by omega)); refine j_lv [1, 2, 0] rfl ?_; exact ih134 (a136 + 1) M160 ((atP gf gn false (suR gf gn 1)) (nxF gf gn gq138)).2.2 (by omega) hM160
  have zr := (rfx_t (rfx_r M0) (show b01 (RFX M0 M102) = 1 by omega)); refine j_lv [1, 2, 0] rfl ?_; exact L135 2010 0 M102 ((atP gf gn false (suR gf gn 1)) gi).2.2 (by omega) hM102
set_option maxHeartbeats 4000000 in
theorem s4_X8_sum {l : Launch} {dC : Nat → ClassId} {dI : Nat → Nat → Nat} {ad : Nat → Nat} {cA : Nat → ClassId} {pr : Nat → Nat → Bool} {Kz : mm_M} {M0 : mm_M} (hM0 : INV pr Kz M0) (hpr : PX pr) (gf : Nat → Int) (gn : Int) (gi : Int) (hp0 : csX M0 ≤ (M0.1 78 2).toInt) (hp1 : b01 (TKX gf gn M0) = 1) (hp2 : b01 (PO gn gi (M0.1 78 5).toInt (psX M0)) = 1) : Cv l 11 yX8_sum wsX8_sum dC dI ad cA [.ref (ad 78), .int (sI 4)] M0 (fun M' => INV pr Kz M' ∧ (csX M' - csX M0 ≤ (M'.1 78 2).toInt - (M0.1 78 2).toInt) ∧ (b01 (CL AGC (M'.1 78 5).toInt M0 M' ((sLR gf gn 2) gi)) = 1) ∧ (b01 (TKX gf gn M') = 1) ∧ b01 (RR ((suR gf gn 2) gi) (M0.1 78 5).toInt (M0.1 78 6).toInt (M'.1 78 5).toInt (M'.1 78 6).toInt (psX M')) = 1 ∧ (b01 (RFX M0 M') = 1)) := by
  refine cv_of (cc := cX8_sum) (maxL := 4) (lv := [(0, .ref (ad 78)), (1, .int (sI 4))]) (by decide) rfl (Nat.le_of_ble_eq_true rfl) rfl ?_
  intro p e s m args below meth c A Q C hret
  refine j_aload_n C 0 0 dX8_sum_0 rfl rfl ?_
  refine j_iload_n C 1 1 dX8_sum_1 rfl rfl ?_
  refine j_callVv C (d := 10) (As := [.int (sI 4)]) (st := []) 78 (s_lt rfl rfl) (s_kc (c := 7) rfl rfl) (by decide) rfl (s4_X8_term hM0 hpr gf gn gi (by omega) (by omega) (by omega)) gX8_sum_X8_term rfl hdX8_term (by decide) (Nat.le_of_ble_eq_true rfl) dX8_sum_2 rfl (fun M102 h103 => ?_)
  obtain ⟨hM102, h104⟩ := h103
  have bM102 := tkx_b (f := gf) (n := gn) (M := M102) (by omega)
  have qM102 := po_rr (teP gf gn false (suR gf gn 1)) gn gi (M0.1 78 5).toInt (M0.1 78 6).toInt (psX M0) (M102.1 78 5).toInt (M102.1 78 6).toInt (psX M102) (te_g gf gn (fun _ => suR_g gf gn 1)) (by omega) (by omega)
  refine j_aload_n C 0 0 dX8_sum_5 rfl rfl ?_
  refine j_callVi C (d := 0) (As := []) (st := []) 78 (s_lt rfl rfl) (s_kc (c := 7) rfl rfl) (by decide) rfl (s1_X8_token hM102 gf gn ((teP gf gn false (suR gf gn 1)) gi).2.2 (by omega) (by omega)) gX8_sum_X8_token rfl hdX8_token (by decide) (Nat.le_of_ble_eq_true rfl) dX8_sum_6 rfl (fun r105 M106 h107 => ?_)
  obtain ⟨a109, rfl, rfl, h108⟩ := h107
  refine j_istore_n C 2 [(2, .int (sI a109)), (0, .ref (ad 78)), (1, .int (sI 4))] dX8_sum_9 rfl (by decide) rfl ?_
  refine y_iconst C dX8_sum_10 ?_
  have u110l := ll_0 (luP gf gn 2043 2045 (teP gf gn false (suR gf gn 1))) gn ((teP gf gn false (suR gf gn 1)) gi).2.2 (M102.1 78 5).toInt (M102.1 78 6).toInt (psX M102) (by omega)
  have u110c := lc_0 (A := AGC) (M102.1 78 5).toInt (luL gf gn 2043 2045 (teP gf gn false (suR gf gn 1)) (teL gf gn false (suR gf gn 1) (sLR gf gn 1))) ((teP gf gn false (suR gf gn 1)) gi).2.2 M102
  refine j_istore_n C 3 [(3, .int (sI 0)), (2, .int (sI a109)), (0, .ref (ad 78)), (1, .int (sI 4))] dX8_sum_11 rfl (by decide) rfl ?_
  have L160 : ∀ (n158 : Nat), ∀ (a161 : Int) (a162 : Int) (M163 : mm_M) (gq164 : Int), ((-2147483648) ≤ a161 ∧ a161 ≤ 2147483647 ∧ 0 ≤ a162 ∧ a162 ≤ 900 ∧ (b01 (LL (luP gf gn 2043 2045 (teP gf gn false (suR gf gn 1))) gn ((teP gf gn false (suR gf gn 1)) gi).2.2 gq164 a162 (M102.1 78 5).toInt (M102.1 78 6).toInt (M163.1 78 5).toInt (M163.1 78 6).toInt (psX M163)) = 1) ∧ (a161 = tkF gf gn (psX M163)) ∧ (b01 (LC AGC (M163.1 78 5).toInt (luL gf gn 2043 2045 (teP gf gn false (suR gf gn 1)) (teL gf gn false (suR gf gn 1) (sLR gf gn 1))) ((teP gf gn false (suR gf gn 1)) gi).2.2 gq164 M102 M163) = 1) ∧ (csX M163 - csX M102 ≤ (M163.1 78 2).toInt - (M102.1 78 2).toInt) ∧ (b01 (TKX gf gn M163) = 1) ∧ (b01 (PO gn gq164 (M163.1 78 5).toInt (psX M163)) = 1) ∧ (b01 (RFX M0 M163) = 1) ∧ (900 - a162) < (n158 : Int)) → INV pr Kz M163 → jj p l e (cn_R 11) s m args below meth c 0 0 Q 4 dC dI ad cA A M163 12 [(0, .ref (ad 78)), (1, .int (sI 4)), (2, .int (sI a161)), (3, .int (sI a162))] [] := by
    intro n158
    induction n158 with
    | zero =>
      intro a161 a162 M163 gq164 h165 hM163
      exfalso; omega
    | succ n158 ih159 =>
      intro a161 a162 M163 gq164 h165 hM163
      have u166b := tkx_b (f := gf) (n := gn) (M := M163) (by omega)
      refine j_iload_n C 3 3 dX8_sum_12 rfl rfl ?_
      refine y_sipush C dX8_sum_13 rfl ?_
      refine y_icmp_ge C 71 dX8_sum_16 (by decide) (by omega) (fun h167 => ?_) (fun h167 => ?_)
      · have u209e := ll_e gf gn 2043 2045 (teP gf gn false (suR gf gn 1)) ((teP gf gn false (suR gf gn 1)) gi).2.2 gq164 a162 (M102.1 78 5).toInt (M102.1 78 6).toInt (M163.1 78 5).toInt (M163.1 78 6).toInt (psX M163) (by decide) (te_g gf gn (fun _ => suR_g gf gn 1)) (by omega) (by omega)
        have u209r : b01 (RR ((suR gf gn 2) gi) (M0.1 78 5).toInt (M0.1 78 6).toInt (M163.1 78 5).toInt (M163.1 78 6).toInt (psX M163)) = 1 := by rw [su_q gf gn 1 2 rfl]; exact rr_sq ((teP gf gn false (suR gf gn 1)) gi) (luP gf gn 2043 2045 (teP gf gn false (suR gf gn 1))) (M0.1 78 5).toInt (M0.1 78 6).toInt (M102.1 78 5).toInt (M102.1 78 6).toInt (psX M102) (M163.1 78 5).toInt (M163.1 78 6).toInt (psX M163) (by omega) (by omega)
        have u209x := lc_e gf gn 2043 2045 (teP gf gn false (suR gf gn 1)) ((teL gf gn false (suR gf gn 1) (sLR gf gn 1))) (by decide) (show b01 (LC AGC (M163.1 78 5).toInt (luL gf gn 2043 2045 (teP gf gn false (suR gf gn 1)) (teL gf gn false (suR gf gn 1) (sLR gf gn 1))) ((teP gf gn false (suR gf gn 1)) gi).2.2 gq164 M102 M163) = 1 by omega) (show b01 (LL (luP gf gn 2043 2045 (teP gf gn false (suR gf gn 1))) gn ((teP gf gn false (suR gf gn 1)) gi).2.2 gq164 a162 (M102.1 78 5).toInt (M102.1 78 6).toInt (M163.1 78 5).toInt (M163.1 78 6).toInt (psX M163)) = 1 by omega) (by omega)
        have u209l : b01 (CL AGC (M163.1 78 5).toInt M0 M163 ((sLR gf gn 2) gi)) = 1 := cl_e (cl_t (show b01 (CL AGC (M102.1 78 5).toInt M0 M102 ((teL gf gn false (suR gf gn 1) (sLR gf gn 1)) gi)) = 1 by omega) u209x (fun z => rr_z (show b01 (RR ((luP gf gn 2043 2045 (teP gf gn false (suR gf gn 1))) ((teP gf gn false (suR gf gn 1)) gi).2.2) (M102.1 78 5).toInt (M102.1 78 6).toInt (M163.1 78 5).toInt (M163.1 78 6).toInt (psX M163)) = 1 by omega) z)) (fun z => su_l gf gn 1 2 rfl gi)
        have zr := (show b01 (RFX M0 M163) = 1 by omega); exact hret _ _ _ dX8_sum_71 ⟨hM163, by omega⟩
      · refine j_aload_n C 0 0 dX8_sum_19 rfl rfl ?_
        refine y_getI C 7 _ _ fX8_sum_22 rfl rfl ft_7_5 sb_7_5 hM163 dX8_sum_20 (fun a168 ea168 la168 ua168 => ?_)
        refine y_if_ne C 71 dX8_sum_23 (by decide) (by omega) (fun h170 => ?_) (fun h170 => ?_)
        · have u210e := ll_e gf gn 2043 2045 (teP gf gn false (suR gf gn 1)) ((teP gf gn false (suR gf gn 1)) gi).2.2 gq164 a162 (M102.1 78 5).toInt (M102.1 78 6).toInt (M163.1 78 5).toInt (M163.1 78 6).toInt (psX M163) (by decide) (te_g gf gn (fun _ => suR_g gf gn 1)) (by omega) (by omega)
          have u210r : b01 (RR ((suR gf gn 2) gi) (M0.1 78 5).toInt (M0.1 78 6).toInt (M163.1 78 5).toInt (M163.1 78 6).toInt (psX M163)) = 1 := by rw [su_q gf gn 1 2 rfl]; exact rr_sq ((teP gf gn false (suR gf gn 1)) gi) (luP gf gn 2043 2045 (teP gf gn false (suR gf gn 1))) (M0.1 78 5).toInt (M0.1 78 6).toInt (M102.1 78 5).toInt (M102.1 78 6).toInt (psX M102) (M163.1 78 5).toInt (M163.1 78 6).toInt (psX M163) (by omega) (by omega)
          have u210x := lc_e gf gn 2043 2045 (teP gf gn false (suR gf gn 1)) ((teL gf gn false (suR gf gn 1) (sLR gf gn 1))) (by decide) (show b01 (LC AGC (M163.1 78 5).toInt (luL gf gn 2043 2045 (teP gf gn false (suR gf gn 1)) (teL gf gn false (suR gf gn 1) (sLR gf gn 1))) ((teP gf gn false (suR gf gn 1)) gi).2.2 gq164 M102 M163) = 1 by omega) (show b01 (LL (luP gf gn 2043 2045 (teP gf gn false (suR gf gn 1))) gn ((teP gf gn false (suR gf gn 1)) gi).2.2 gq164 a162 (M102.1 78 5).toInt (M102.1 78 6).toInt (M163.1 78 5).toInt (M163.1 78 6).toInt (psX M163)) = 1 by omega) (by omega)
          have u210l : b01 (CL AGC (M163.1 78 5).toInt M0 M163 ((sLR gf gn 2) gi)) = 1 := cl_e (cl_t (show b01 (CL AGC (M102.1 78 5).toInt M0 M102 ((teL gf gn false (suR gf gn 1) (sLR gf gn 1)) gi)) = 1 by omega) u210x (fun z => rr_z (show b01 (RR ((luP gf gn 2043 2045 (teP gf gn false (suR gf gn 1))) ((teP gf gn false (suR gf gn 1)) gi).2.2) (M102.1 78 5).toInt (M102.1 78 6).toInt (M163.1 78 5).toInt (M163.1 78 6).toInt (psX M163)) = 1 by omega) z)) (fun z => su_l gf gn 1 2 rfl gi)
          have zr := (show b01 (RFX M0 M163) = 1 by omega); exact hret _ _ _ dX8_sum_71 ⟨hM163, by omega⟩
        · refine j_iload_n C 2 2 dX8_sum_26 rfl rfl ?_
          refine y_sipush C dX8_sum_27 rfl ?_
          refine y_icmp_eq C 40 dX8_sum_30 (by decide) (by omega) (fun h171 => ?_) (fun h171 => ?_)
          · refine j_aload_n C 0 0 dX8_sum_40 rfl rfl ?_
            refine j_dup C dX8_sum_41 rfl ?_
            refine y_getI C 7 _ _ fX8_sum_18 rfl rfl ft_7_2 sb_7_2 hM163 dX8_sum_42 (fun a172 ea172 la172 ua172 => ?_)
            refine y_iconst C dX8_sum_45 ?_
            refine y_iadd C dX8_sum_46 ?_
            refine y_putI C 7 _ _ qX8_sum_18 rfl rfl ft_7_2 sb_7_2 hM163 (PX.w hpr rfl rfl) dX8_sum_47 (by omega) (fun M174 eM174 hM174 => ?_)
            have xM174 := tkx_j (f := gf) (n := gn) (gi := gq164) eM174 (by omega) (by omega) (by omega) (by omega)
            have dM174 := cs_w hM163 (c := 7) rfl eM174 (by decide)
            have gM174 := s_wr eM174 (by omega)
            refine j_aload_n C 0 0 dX8_sum_50 rfl rfl ?_
            refine j_iload_n C 1 1 dX8_sum_51 rfl rfl ?_
            refine j_callVv C (d := 10) (As := [.int (sI 4)]) (st := []) 78 (s_lt rfl rfl) (s_kc (c := 7) rfl rfl) (by decide) rfl (s4_X8_term hM174 hpr gf gn (nxF gf gn gq164) (by omega) (by omega) (by omega)) gX8_sum_X8_term rfl hdX8_term (by decide) (Nat.le_of_ble_eq_true rfl) dX8_sum_52 rfl (fun M176 h177 => ?_)
            obtain ⟨hM176, h178⟩ := h177
            have bM176 := tkx_b (f := gf) (n := gn) (M := M176) (by omega)
            have qM176 := po_rr (teP gf gn false (suR gf gn 1)) gn (nxF gf gn gq164) (M174.1 78 5).toInt (M174.1 78 6).toInt (psX M174) (M176.1 78 5).toInt (M176.1 78 6).toInt (psX M176) (te_g gf gn (fun _ => suR_g gf gn 1)) (by omega) (by omega)
            refine j_aload_n C 0 0 dX8_sum_55 rfl rfl ?_
            refine j_iload_n C 2 2 dX8_sum_56 rfl rfl ?_
            have u179b := tkx_b (f := gf) (n := gn) (M := M176) (by omega)
            refine j_callVv C (d := 0) (As := [.int (sI a161)]) (st := []) 78 (s_lt rfl rfl) (s_kc (c := 7) rfl rfl) (by decide) rfl (s1_X8_emit hM176 hpr a161 (by omega) gf gn ((teP gf gn false (suR gf gn 1)) (nxF gf gn gq164)).2.2 (by omega) (by omega) (by omega)) gX8_sum_X8_emit rfl hdX8_emit (by decide) (Nat.le_of_ble_eq_true rfl) dX8_sum_57 rfl (fun M181 h182 => ?_)
            obtain ⟨hM181, h183⟩ := h182
            have bM181 := tkx_b (f := gf) (n := gn) (M := M181) (by omega)
            have qM181 := po_eq gn ((teP gf gn false (suR gf gn 1)) (nxF gf gn gq164)).2.2 (M176.1 78 5).toInt (psX M176) (M181.1 78 5).toInt (psX M181) (by omega) (by omega) (by omega)
            refine j_aload_n C 0 0 dX8_sum_60 rfl rfl ?_
            refine j_callVi C (d := 0) (As := []) (st := []) 78 (s_lt rfl rfl) (s_kc (c := 7) rfl rfl) (by decide) rfl (s1_X8_token hM181 gf gn ((teP gf gn false (suR gf gn 1)) (nxF gf gn gq164)).2.2 (by omega) (by omega)) gX8_sum_X8_token rfl hdX8_token (by decide) (Nat.le_of_ble_eq_true rfl) dX8_sum_61 rfl (fun r184 M185 h186 => ?_)
            obtain ⟨a188, rfl, rfl, h187⟩ := h186
            refine j_istore_n C 2 [(2, .int (sI a188)), (0, .ref (ad 78)), (1, .int (sI 4)), (3, .int (sI a162))] dX8_sum_64 rfl (by decide) rfl ?_
            refine y_iinc C 3 [(3, .int (sI (a162 + 1))), (2, .int (sI a188)), (0, .ref (ad 78)), (1, .int (sI 4))] dX8_sum_65 rfl (by decide) rfl ?_
            have u189s := ll_s gf gn 2043 2045 (teP gf gn false (suR gf gn 1)) ((teP gf gn false (suR gf gn 1)) gi).2.2 gq164 a162 (M102.1 78 5).toInt (M102.1 78 6).toInt (M163.1 78 5).toInt (M163.1 78 6).toInt (psX M163) (M174.1 78 5).toInt (M174.1 78 6).toInt (M176.1 78 5).toInt (M176.1 78 6).toInt (psX M176) (M181.1 78 5).toInt (M181.1 78 6).toInt (psX M181) (by decide) (te_g gf gn (fun _ => suR_g gf gn 1)) (by omega) (by omega) (by omega) (by omega) (by omega) (by omega) (by omega) (by omega) (by omega)
            have u189c := lc_s gf gn 2043 2045 (teP gf gn false (suR gf gn 1)) (teL gf gn false (suR gf gn 1) (sLR gf gn 1)) (by decide) (te_g gf gn (fun _ => suR_g gf gn 1)) (show b01 (LC AGC (M163.1 78 5).toInt (luL gf gn 2043 2045 (teP gf gn false (suR gf gn 1)) (teL gf gn false (suR gf gn 1) (sLR gf gn 1))) ((teP gf gn false (suR gf gn 1)) gi).2.2 gq164 M102 M163) = 1 by omega) (show b01 (PO gn gq164 (M163.1 78 5).toInt (psX M163)) = 1 by omega) (by omega) (show b01 (RR ((teP gf gn false (suR gf gn 1)) (nxF gf gn gq164)) (M174.1 78 5).toInt (M174.1 78 6).toInt (M176.1 78 5).toInt (M176.1 78 6).toInt (psX M176)) = 1 by omega) (fun z => by omega) (cl_e (L := ([] ++ ((teL gf gn false (suR gf gn 1) (sLR gf gn 1)) (nxF gf gn gq164))) ++ [cmF a161]) (cl_t (cl_t (cl_r (A := AGC) (M := M163) (N := M174) (M174.1 78 5).toInt (agc_78 eM174)) (show b01 (CL AGC (M176.1 78 5).toInt M174 M176 ((teL gf gn false (suR gf gn 1) (sLR gf gn 1)) (nxF gf gn gq164))) = 1 by omega) (fun z => rr_z (show b01 (RR ((teP gf gn false (suR gf gn 1)) (nxF gf gn gq164)) (M174.1 78 5).toInt (M174.1 78 6).toInt (M176.1 78 5).toInt (M176.1 78 6).toInt (psX M176)) = 1 by omega) z)) (show b01 (CL AGC (M181.1 78 5).toInt M176 M181 [cmF a161]) = 1 by omega) (fun z => by omega)) (fun z => by rw [show tkF gf gn (psX M163) = a161 by omega, List.nil_append]) : b01 (CL AGC (M181.1 78 5).toInt M163 M181 (((teL gf gn false (suR gf gn 1) (sLR gf gn 1)) (nxF gf gn gq164)) ++ [cmF (tkF gf gn (psX M163))])) = 1) (fun z => by omega)
            refine j_goto C 12 dX8_sum_68 (by decide) ?_
            have zr := (rfx_t (rfx_t (rfx_i (show b01 (RFX M0 M163) = 1 by omega) eM174 (by decide)) (show b01 (RFX M174 M176) = 1 by omega)) (show b01 (RFX M176 M181) = 1 by omega)); refine j_lv [2, 3, 1, 0] rfl ?_; exact ih159 a188 (a162 + 1) M181 ((teP gf gn false (suR gf gn 1)) (nxF gf gn gq164)).2.2 (by omega) hM181
          · refine j_iload_n C 2 2 dX8_sum_33 rfl rfl ?_
            refine y_sipush C dX8_sum_34 rfl ?_
            refine y_icmp_ne C 71 dX8_sum_37 (by decide) (by omega) (fun h190 => ?_) (fun h190 => ?_)
            · have u211e := ll_e gf gn 2043 2045 (teP gf gn false (suR gf gn 1)) ((teP gf gn false (suR gf gn 1)) gi).2.2 gq164 a162 (M102.1 78 5).toInt (M102.1 78 6).toInt (M163.1 78 5).toInt (M163.1 78 6).toInt (psX M163) (by decide) (te_g gf gn (fun _ => suR_g gf gn 1)) (by omega) (by omega)
              have u211r : b01 (RR ((suR gf gn 2) gi) (M0.1 78 5).toInt (M0.1 78 6).toInt (M163.1 78 5).toInt (M163.1 78 6).toInt (psX M163)) = 1 := by rw [su_q gf gn 1 2 rfl]; exact rr_sq ((teP gf gn false (suR gf gn 1)) gi) (luP gf gn 2043 2045 (teP gf gn false (suR gf gn 1))) (M0.1 78 5).toInt (M0.1 78 6).toInt (M102.1 78 5).toInt (M102.1 78 6).toInt (psX M102) (M163.1 78 5).toInt (M163.1 78 6).toInt (psX M163) (by omega) (by omega)
              have u211x := lc_e gf gn 2043 2045 (teP gf gn false (suR gf gn 1)) ((teL gf gn false (suR gf gn 1) (sLR gf gn 1))) (by decide) (show b01 (LC AGC (M163.1 78 5).toInt (luL gf gn 2043 2045 (teP gf gn false (suR gf gn 1)) (teL gf gn false (suR gf gn 1) (sLR gf gn 1))) ((teP gf gn false (suR gf gn 1)) gi).2.2 gq164 M102 M163) = 1 by omega) (show b01 (LL (luP gf gn 2043 2045 (teP gf gn false (suR gf gn 1))) gn ((teP gf gn false (suR gf gn 1)) gi).2.2 gq164 a162 (M102.1 78 5).toInt (M102.1 78 6).toInt (M163.1 78 5).toInt (M163.1 78 6).toInt (psX M163)) = 1 by omega) (by omega)
              have u211l : b01 (CL AGC (M163.1 78 5).toInt M0 M163 ((sLR gf gn 2) gi)) = 1 := cl_e (cl_t (show b01 (CL AGC (M102.1 78 5).toInt M0 M102 ((teL gf gn false (suR gf gn 1) (sLR gf gn 1)) gi)) = 1 by omega) u211x (fun z => rr_z (show b01 (RR ((luP gf gn 2043 2045 (teP gf gn false (suR gf gn 1))) ((teP gf gn false (suR gf gn 1)) gi).2.2) (M102.1 78 5).toInt (M102.1 78 6).toInt (M163.1 78 5).toInt (M163.1 78 6).toInt (psX M163)) = 1 by omega) z)) (fun z => su_l gf gn 1 2 rfl gi)
              have zr := (show b01 (RFX M0 M163) = 1 by omega); exact hret _ _ _ dX8_sum_71 ⟨hM163, by omega⟩
            · refine j_aload_n C 0 0 dX8_sum_40 rfl rfl ?_
              refine j_dup C dX8_sum_41 rfl ?_
              refine y_getI C 7 _ _ fX8_sum_18 rfl rfl ft_7_2 sb_7_2 hM163 dX8_sum_42 (fun a191 ea191 la191 ua191 => ?_)
              refine y_iconst C dX8_sum_45 ?_
              refine y_iadd C dX8_sum_46 ?_
              refine y_putI C 7 _ _ qX8_sum_18 rfl rfl ft_7_2 sb_7_2 hM163 (PX.w hpr rfl rfl) dX8_sum_47 (by omega) (fun M193 eM193 hM193 => ?_)
              have xM193 := tkx_j (f := gf) (n := gn) (gi := gq164) eM193 (by omega) (by omega) (by omega) (by omega)
              have dM193 := cs_w hM163 (c := 7) rfl eM193 (by decide)
              have gM193 := s_wr eM193 (by omega)
              refine j_aload_n C 0 0 dX8_sum_50 rfl rfl ?_
              refine j_iload_n C 1 1 dX8_sum_51 rfl rfl ?_
              refine j_callVv C (d := 10) (As := [.int (sI 4)]) (st := []) 78 (s_lt rfl rfl) (s_kc (c := 7) rfl rfl) (by decide) rfl (s4_X8_term hM193 hpr gf gn (nxF gf gn gq164) (by omega) (by omega) (by omega)) gX8_sum_X8_term rfl hdX8_term (by decide) (Nat.le_of_ble_eq_true rfl) dX8_sum_52 rfl (fun M195 h196 => ?_)
              obtain ⟨hM195, h197⟩ := h196
              have bM195 := tkx_b (f := gf) (n := gn) (M := M195) (by omega)
              have qM195 := po_rr (teP gf gn false (suR gf gn 1)) gn (nxF gf gn gq164) (M193.1 78 5).toInt (M193.1 78 6).toInt (psX M193) (M195.1 78 5).toInt (M195.1 78 6).toInt (psX M195) (te_g gf gn (fun _ => suR_g gf gn 1)) (by omega) (by omega)
              refine j_aload_n C 0 0 dX8_sum_55 rfl rfl ?_
              refine j_iload_n C 2 2 dX8_sum_56 rfl rfl ?_
              have u198b := tkx_b (f := gf) (n := gn) (M := M195) (by omega)
              refine j_callVv C (d := 0) (As := [.int (sI a161)]) (st := []) 78 (s_lt rfl rfl) (s_kc (c := 7) rfl rfl) (by decide) rfl (s1_X8_emit hM195 hpr a161 (by omega) gf gn ((teP gf gn false (suR gf gn 1)) (nxF gf gn gq164)).2.2 (by omega) (by omega) (by omega)) gX8_sum_X8_emit rfl hdX8_emit (by decide) (Nat.le_of_ble_eq_true rfl) dX8_sum_57 rfl (fun M200 h201 => ?_)
              obtain ⟨hM200, h202⟩ := h201
              have bM200 := tkx_b (f := gf) (n := gn) (M := M200) (by omega)
              have qM200 := po_eq gn ((teP gf gn false (suR gf gn 1)) (nxF gf gn gq164)).2.2 (M195.1 78 5).toInt (psX M195) (M200.1 78 5).toInt (psX M200) (by omega) (by omega) (by omega)
              refine j_aload_n C 0 0 dX8_sum_60 rfl rfl ?_
              refine j_callVi C (d := 0) (As := []) (st := []) 78 (s_lt rfl rfl) (s_kc (c := 7) rfl rfl) (by decide) rfl (s1_X8_token hM200 gf gn ((teP gf gn false (suR gf gn 1)) (nxF gf gn gq164)).2.2 (by omega) (by omega)) gX8_sum_X8_token rfl hdX8_token (by decide) (Nat.le_of_ble_eq_true rfl) dX8_sum_61 rfl (fun r203 M204 h205 => ?_)
              obtain ⟨a207, rfl, rfl, h206⟩ := h205
              refine j_istore_n C 2 [(2, .int (sI a207)), (0, .ref (ad 78)), (1, .int (sI 4)), (3, .int (sI a162))] dX8_sum_64 rfl (by decide) rfl ?_
              refine y_iinc C 3 [(3, .int (sI (a162 + 1))), (2, .int (sI a207)), (0, .ref (ad 78)), (1, .int (sI 4))] dX8_sum_65 rfl (by decide) rfl ?_
              have u208s := ll_s gf gn 2043 2045 (teP gf gn false (suR gf gn 1)) ((teP gf gn false (suR gf gn 1)) gi).2.2 gq164 a162 (M102.1 78 5).toInt (M102.1 78 6).toInt (M163.1 78 5).toInt (M163.1 78 6).toInt (psX M163) (M193.1 78 5).toInt (M193.1 78 6).toInt (M195.1 78 5).toInt (M195.1 78 6).toInt (psX M195) (M200.1 78 5).toInt (M200.1 78 6).toInt (psX M200) (by decide) (te_g gf gn (fun _ => suR_g gf gn 1)) (by omega) (by omega) (by omega) (by omega) (by omega) (by omega) (by omega) (by omega) (by omega)
              have u208c := lc_s gf gn 2043 2045 (teP gf gn false (suR gf gn 1)) (teL gf gn false (suR gf gn 1) (sLR gf gn 1)) (by decide) (te_g gf gn (fun _ => suR_g gf gn 1)) (show b01 (LC AGC (M163.1 78 5).toInt (luL gf gn 2043 2045 (teP gf gn false (suR gf gn 1)) (teL gf gn false (suR gf gn 1) (sLR gf gn 1))) ((teP gf gn false (suR gf gn 1)) gi).2.2 gq164 M102 M163) = 1 by omega) (show b01 (PO gn gq164 (M163.1 78 5).toInt (psX M163)) = 1 by omega) (by omega) (show b01 (RR ((teP gf gn false (suR gf gn 1)) (nxF gf gn gq164)) (M193.1 78 5).toInt (M193.1 78 6).toInt (M195.1 78 5).toInt (M195.1 78 6).toInt (psX M195)) = 1 by omega) (fun z => by omega) (cl_e (L := ([] ++ ((teL gf gn false (suR gf gn 1) (sLR gf gn 1)) (nxF gf gn gq164))) ++ [cmF a161]) (cl_t (cl_t (cl_r (A := AGC) (M := M163) (N := M193) (M193.1 78 5).toInt (agc_78 eM193)) (show b01 (CL AGC (M195.1 78 5).toInt M193 M195 ((teL gf gn false (suR gf gn 1) (sLR gf gn 1)) (nxF gf gn gq164))) = 1 by omega) (fun z => rr_z (show b01 (RR ((teP gf gn false (suR gf gn 1)) (nxF gf gn gq164)) (M193.1 78 5).toInt (M193.1 78 6).toInt (M195.1 78 5).toInt (M195.1 78 6).toInt (psX M195)) = 1 by omega) z)) (show b01 (CL AGC (M200.1 78 5).toInt M195 M200 [cmF a161]) = 1 by omega) (fun z => by omega)) (fun z => by rw [show tkF gf gn (psX M163) = a161 by omega, List.nil_append]) : b01 (CL AGC (M200.1 78 5).toInt M163 M200 (((teL gf gn false (suR gf gn 1) (sLR gf gn 1)) (nxF gf gn gq164)) ++ [cmF (tkF gf gn (psX M163))])) = 1) (fun z => by omega)
              refine j_goto C 12 dX8_sum_68 (by decide) ?_
              have zr := (rfx_t (rfx_t (rfx_i (show b01 (RFX M0 M163) = 1 by omega) eM193 (by decide)) (show b01 (RFX M193 M195) = 1 by omega)) (show b01 (RFX M195 M200) = 1 by omega)); refine j_lv [2, 3, 1, 0] rfl ?_; exact ih159 a207 (a162 + 1) M200 ((teP gf gn false (suR gf gn 1)) (nxF gf gn gq164)).2.2 (by omega) hM200
  have zr := (rfx_t (rfx_r M0) (show b01 (RFX M0 M102) = 1 by omega)); refine j_lv [2, 3, 1, 0] rfl ?_; exact L160 4294967306 a109 0 M102 ((teP gf gn false (suR gf gn 1)) gi).2.2 (by omega) hM102
set_option maxHeartbeats 4000000 in
theorem s5_X8_atom {l : Launch} {dC : Nat → ClassId} {dI : Nat → Nat → Nat} {ad : Nat → Nat} {cA : Nat → ClassId} {pr : Nat → Nat → Bool} {Kz : mm_M} {M0 : mm_M} (hM0 : INV pr Kz M0) (hpr : PX pr) (gf : Nat → Int) (gn : Int) (gi : Int) (hp0 : csX M0 ≤ (M0.1 78 2).toInt) (hp1 : b01 (TKX gf gn M0) = 1) (hp2 : b01 (PO gn gi (M0.1 78 5).toInt (psX M0)) = 1) : Cv l 12 yX8_atom wsX8_atom dC dI ad cA [.ref (ad 78), .int (sI 3)] M0 (fun M' => INV pr Kz M' ∧ (csX M' - csX M0 ≤ (M'.1 78 2).toInt - (M0.1 78 2).toInt) ∧ (b01 (CL AGC (M'.1 78 5).toInt M0 M' ((atL gf gn false (sLR gf gn 2)) gi)) = 1) ∧ (b01 (TKX gf gn M') = 1) ∧ b01 (RR ((atP gf gn false (suR gf gn 2)) gi) (M0.1 78 5).toInt (M0.1 78 6).toInt (M'.1 78 5).toInt (M'.1 78 6).toInt (psX M')) = 1 ∧ (b01 (RFX M0 M') = 1)) := by
  refine cv_of (cc := cX8_atom) (maxL := 3) (lv := [(0, .ref (ad 78)), (1, .int (sI 3))]) (by decide) rfl (Nat.le_of_ble_eq_true rfl) rfl ?_
  intro p e s m args below meth c A Q C hret
  have u101b := tkx_b (f := gf) (n := gn) (M := M0) (by omega)
  refine j_aload_n C 0 0 dX8_atom_0 rfl rfl ?_
  refine y_getI C 7 _ _ fX8_atom_22 rfl rfl ft_7_5 sb_7_5 hM0 dX8_atom_1 (fun a102 ea102 la102 ua102 => ?_)
  refine y_if_eq C 8 dX8_atom_4 (by decide) (by omega) (fun h104 => ?_) (fun h104 => ?_)
  · refine j_aload_n C 0 0 dX8_atom_8 rfl rfl ?_
    refine j_callVi C (d := 0) (As := []) (st := []) 78 (s_lt rfl rfl) (s_kc (c := 7) rfl rfl) (by decide) rfl (s1_X8_token hM0 gf gn gi (by omega) (by omega)) gX8_atom_X8_token rfl hdX8_token (by decide) (Nat.le_of_ble_eq_true rfl) dX8_atom_9 rfl (fun r105 M106 h107 => ?_)
    obtain ⟨a109, rfl, rfl, h108⟩ := h107
    refine j_istore_n C 2 [(2, .int (sI a109)), (0, .ref (ad 78)), (1, .int (sI 3))] dX8_atom_12 rfl (by decide) rfl ?_
    refine j_iload_n C 0 2 dX8_atom_13 rfl rfl ?_
    refine y_sipush C dX8_atom_14 rfl ?_
    refine y_icmp_ge C 38 dX8_atom_17 (by decide) (by omega) (fun h110 => ?_) (fun h110 => ?_)
    · refine j_iload_n C 0 2 dX8_atom_38 rfl rfl ?_
      refine y_sipush C dX8_atom_39 rfl ?_
      refine y_icmp_ne C 67 dX8_atom_42 (by decide) (by omega) (fun h111 => ?_) (fun h111 => ?_)
      · refine j_aload_n C 1 0 dX8_atom_67 rfl rfl ?_
        refine y_iconst C dX8_atom_68 ?_
        refine j_callVv C (d := 0) (As := [.int (sI 2)]) (st := []) 78 (s_lt rfl rfl) (s_kc (c := 7) rfl rfl) (by decide) rfl (s1_X8_fail hM0 hpr 2 (by omega) gf gn gi (by omega) (by omega) (by omega)) gX8_atom_X8_fail rfl hdX8_fail (by decide) (Nat.le_of_ble_eq_true rfl) dX8_atom_69 rfl (fun M113 h114 => ?_)
        obtain ⟨hM113, fM113, h115⟩ := h114
        have bM113 := tkx_b (f := gf) (n := gn) (M := M113) (by omega)
        have qM113 := po_f gn ((faQ gf gn 2) gi).2.2 (M113.1 78 5).toInt (psX M113) (by omega)
        have dM113 := cs_f hM0 fM113
        have u116r := at_4 gf gn false (suR gf gn 2) gi (M0.1 78 5).toInt (M0.1 78 6).toInt (psX M0) (M113.1 78 5).toInt (M113.1 78 6).toInt (psX M113) (by omega) (by omega) (by omega)
        have u116l := cl_n (A := AGC) (M := M0) (N := M113) ((atL gf gn false (sLR gf gn 2)) gi) (a := (M113.1 78 5).toInt) (by omega)
        have zr := (rfx_F (rfx_r M0) fM113); exact hret _ _ _ dX8_atom_72 ⟨hM113, by omega⟩
      · refine j_aload_n C 1 0 dX8_atom_45 rfl rfl ?_
        refine j_iload_n C 2 1 dX8_atom_46 rfl rfl ?_
        refine j_callVv C (d := 0) (As := [.int (sI 3)]) (st := []) 78 (s_lt rfl rfl) (s_kc (c := 7) rfl rfl) (by decide) rfl (s4_X8_goDeeper hM0 hpr gf gn gi (by omega) (by omega) (by omega) (by omega) (by omega)) gX8_atom_X8_goDeeper rfl hdX8_goDeeper (by decide) (Nat.le_of_ble_eq_true rfl) dX8_atom_47 rfl (fun M118 h119 => ?_)
        obtain ⟨hM118, fM118, h120⟩ := h119
        have bM118 := tkx_b (f := gf) (n := gn) (M := M118) (by omega)
        have dM118 := cs_f hM0 fM118
        refine j_aload_n C 1 0 dX8_atom_50 rfl rfl ?_
        refine j_iload_n C 2 1 dX8_atom_51 rfl rfl ?_
        refine y_iconst C dX8_atom_52 ?_
        refine y_iadd C dX8_atom_53 ?_
        refine j_callVv C (d := 11) (As := [.int (sI (3 + 1))]) (st := []) 78 (s_lt rfl rfl) (s_kc (c := 7) rfl rfl) (by decide) rfl (s4_X8_sum hM118 hpr gf gn (nxF gf gn gi) (by omega) (by omega) (by omega)) gX8_atom_X8_sum rfl hdX8_sum (by decide) (Nat.le_of_ble_eq_true rfl) dX8_atom_54 rfl (fun M122 h123 => ?_)
        obtain ⟨hM122, h124⟩ := h123
        have bM122 := tkx_b (f := gf) (n := gn) (M := M122) (by omega)
        have qM122 := po_rr (suR gf gn 2) gn (nxF gf gn gi) (M118.1 78 5).toInt (M118.1 78 6).toInt (psX M118) (M122.1 78 5).toInt (M122.1 78 6).toInt (psX M122) (suR_g gf gn 2) (by omega) (by omega)
        refine j_aload_n C 1 0 dX8_atom_57 rfl rfl ?_
        refine y_sipush C dX8_atom_58 rfl ?_
        refine j_callVv C (d := 1) (As := [.int (sI 2041)]) (st := []) 78 (s_lt rfl rfl) (s_kc (c := 7) rfl rfl) (by decide) rfl (s1_X8_expect hM122 hpr 2041 (by omega) gf gn ((suR gf gn 2) (nxF gf gn gi)).2.2 (by omega) (by omega) (by omega) (by omega)) gX8_atom_X8_expect rfl hdX8_expect (by decide) (Nat.le_of_ble_eq_true rfl) dX8_atom_61 rfl (fun M126 h127 => ?_)
        obtain ⟨hM126, fM126, h128⟩ := h127
        have bM126 := tkx_b (f := gf) (n := gn) (M := M126) (by omega)
        have qM126 := po_rr (exP gf gn 2041) gn ((suR gf gn 2) (nxF gf gn gi)).2.2 (M122.1 78 5).toInt (M122.1 78 6).toInt (psX M122) (M126.1 78 5).toInt (M126.1 78 6).toInt (psX M126) (ex_g gf gn 2041 (by omega)) (by omega) (by omega)
        have dM126 := cs_f hM122 fM126
        refine j_goto C 72 dX8_atom_64 (by decide) ?_
        have u129r := at_2 gf gn (suR gf gn 2) gi (M0.1 78 5).toInt (M0.1 78 6).toInt (psX M0) (M118.1 78 5).toInt (M118.1 78 6).toInt (M122.1 78 5).toInt (M122.1 78 6).toInt (psX M122) (M126.1 78 5).toInt (M126.1 78 6).toInt (psX M126) (by omega) (by omega) (by omega) (by omega) (by omega) (by omega)
        have u129l : b01 (CL AGC (M126.1 78 5).toInt M0 M126 ((atL gf gn false (sLR gf gn 2)) gi)) = 1 := cl_e (cl_t (cl_t (cl_r (A := AGC) (M := M0) (N := M118) (M118.1 78 5).toInt (agc_F fM118)) (show b01 (CL AGC (M122.1 78 5).toInt M118 M122 ((sLR gf gn 2) (nxF gf gn gi))) = 1 by omega) (fun z => rr_z (show b01 (RR ((suR gf gn 2) (nxF gf gn gi)) (M118.1 78 5).toInt (M118.1 78 6).toInt (M122.1 78 5).toInt (M122.1 78 6).toInt (psX M122)) = 1 by omega) z)) (cl_r (A := AGC) (M := M122) (N := M126) (M126.1 78 5).toInt (agc_F fM126)) (fun z => rr_z (show b01 (RR ((exP gf gn 2041) ((suR gf gn 2) (nxF gf gn gi)).2.2) (M122.1 78 5).toInt (M122.1 78 6).toInt (M126.1 78 5).toInt (M126.1 78 6).toInt (psX M126)) = 1 by omega) z)) (fun z => by rw [at_l2 gf gn (sLR gf gn 2) (show b01 (PO gn gi (M0.1 78 5).toInt (psX M0)) = 1 by omega) (by omega) (by omega), List.nil_append, List.append_nil])
        have zr := (rfx_F (rfx_t (rfx_F (rfx_r M0) fM118) (show b01 (RFX M118 M122) = 1 by omega)) fM126); exact hret _ _ _ dX8_atom_72 ⟨hM126, by omega⟩
    · refine j_aload_n C 1 0 dX8_atom_20 rfl rfl ?_
      refine j_dup C dX8_atom_21 rfl ?_
      refine y_getI C 7 _ _ fX8_atom_18 rfl rfl ft_7_2 sb_7_2 hM0 dX8_atom_22 (fun a130 ea130 la130 ua130 => ?_)
      refine y_iconst C dX8_atom_25 ?_
      refine y_iadd C dX8_atom_26 ?_
      refine y_putI C 7 _ _ qX8_atom_18 rfl rfl ft_7_2 sb_7_2 hM0 (PX.w hpr rfl rfl) dX8_atom_27 (by omega) (fun M132 eM132 hM132 => ?_)
      have xM132 := tkx_j (f := gf) (n := gn) (gi := gi) eM132 (by omega) (by omega) (by omega) (by omega)
      have dM132 := cs_w hM0 (c := 7) rfl eM132 (by decide)
      have gM132 := s_wr eM132 (by omega)
      refine j_aload_n C 1 0 dX8_atom_30 rfl rfl ?_
      refine j_iload_n C 0 2 dX8_atom_31 rfl rfl ?_
      have u133b := tkx_b (f := gf) (n := gn) (M := M132) (by omega)
      refine j_callVv C (d := 0) (As := [.int (sI a109)]) (st := []) 78 (s_lt rfl rfl) (s_kc (c := 7) rfl rfl) (by decide) rfl (s1_X8_emit hM132 hpr a109 (by omega) gf gn (nxF gf gn gi) (by omega) (by omega) (by omega)) gX8_atom_X8_emit rfl hdX8_emit (by decide) (Nat.le_of_ble_eq_true rfl) dX8_atom_32 rfl (fun M135 h136 => ?_)
      obtain ⟨hM135, h137⟩ := h136
      have bM135 := tkx_b (f := gf) (n := gn) (M := M135) (by omega)
      have qM135 := po_eq gn (nxF gf gn gi) (M132.1 78 5).toInt (psX M132) (M135.1 78 5).toInt (psX M135) (by omega) (by omega) (by omega)
      refine j_goto C 72 dX8_atom_35 (by decide) ?_
      have u138r := rr_eq ((atP gf gn false (suR gf gn 2)) gi) (M0.1 78 5).toInt (M0.1 78 6).toInt (M132.1 78 5).toInt (M132.1 78 6).toInt (psX M132) (M135.1 78 5).toInt (M135.1 78 6).toInt (psX M135) (at_1 gf gn false (suR gf gn 2) gi (M0.1 78 5).toInt (M0.1 78 6).toInt (psX M0) (M132.1 78 5).toInt (M132.1 78 6).toInt (psX M132) (by omega) (by omega) (by omega) (by omega) (by omega) (by omega)) (by omega) (by omega) (by omega)
      have u138l : b01 (CL AGC (M135.1 78 5).toInt M0 M135 ((atL gf gn false (sLR gf gn 2)) gi)) = 1 := cl_e (cl_t (cl_r (A := AGC) (M := M0) (N := M132) (M132.1 78 5).toInt (agc_78 eM132)) (show b01 (CL AGC (M135.1 78 5).toInt M132 M135 [cmF a109]) = 1 by omega) (fun z => by omega)) (fun z => by rw [at_l1 gf gn false (sLR gf gn 2) (show b01 (PO gn gi (M0.1 78 5).toInt (psX M0)) = 1 by omega) (by omega) (by omega), show tkF gf gn (psX M0) = a109 by omega]; rfl)
      have zr := (rfx_t (rfx_i (rfx_r M0) eM132 (by decide)) (show b01 (RFX M132 M135) = 1 by omega)); exact hret _ _ _ dX8_atom_72 ⟨hM135, by omega⟩
  · have u139r := rr_no ((atP gf gn false (suR gf gn 2)) gi) (M0.1 78 5).toInt (M0.1 78 6).toInt (M0.1 78 5).toInt (M0.1 78 6).toInt (psX M0) (by omega) rfl rfl
    have u139l := cl_n (A := AGC) (M := M0) (N := M0) ((atL gf gn false (sLR gf gn 2)) gi) (a := (M0.1 78 5).toInt) (by omega)
    have zr := (rfx_r M0); exact hret _ _ _ dX8_atom_7 ⟨hM0, by omega⟩
