set_option maxHeartbeats 4000000 in
theorem tt_s1_X12_laysBuys {l : Launch} {dC : Nat → ClassId} {dI : Nat → Nat → Nat} {ad : Nat → Nat} {cA : Nat → ClassId} {pr : Nat → Nat → Bool} {Kz : mm_M} {M0 : mm_M} (hM0 : INV pr Kz M0) (hpr : PM pr) (hcw : CWK pr Kz)  (hp0 : b01 (PI M0) = 1) : Cv l 4 yX12_laysBuys wsX12_laysBuys dC dI ad cA [.ref (ad 98)] M0 (fun M' => INV pr Kz M' ∧ FR [103, 104, 106] M0 M' ∧ (b01 (lbP M') = 1) ∧ (b01 (LBF M' (M0.1 99)) = 1) ∧ (b01 (PI M') = 1)) := by
  refine cv_of (cc := cX12_laysBuys) (maxL := 3) (lv := [(0, .ref (ad 98))]) (by decide) rfl (Nat.le_of_ble_eq_true rfl) rfl ?_
  intro p e s m args below meth c A Q C hret
  have u101r26 := INV.rd hM0 (i := 99) (c := 45) (k := 26) rfl rfl
  have u101r1 := INV.rd hM0 (i := 99) (c := 45) (k := 1) rfl rfl
  refine y_iconst C dX12_laysBuys_0 ?_
  refine j_istore_n C 1 [(1, .int (sI 0)), (0, .ref (ad 98))] dX12_laysBuys_1 rfl (by decide) rfl ?_
  have u102 := lb_0 M0 (M0.1 99)
  have u102x := lx_0 M0 (M0.1 99)
  have L143 : ∀ (n141 : Nat), ∀ (a144 : Int) (M145 : mm_M), (0 ≤ a144 ∧ a144 ≤ 256 ∧ (b01 (lbQ M145 (M0.1 99) a144 0) = 1) ∧ (b01 (LBX M145 (M0.1 99) a144 0) = 1) ∧ (b01 (PI M145) = 1) ∧ (256 - a144) < (n141 : Int)) → INV pr Kz M145 → FR [103, 104, 106] M0 M145 → jj p l e (cn_R 4) s m args below meth c 0 0 Q 3 dC dI ad cA A M145 2 [(0, .ref (ad 98)), (1, .int (sI a144))] [] := by
    intro n141
    induction n141 with
    | zero =>
      intro a144 M145 h146 hM145 fM145
      exfalso; omega
    | succ n141 ih142 =>
      intro a144 M145 h146 hM145 fM145
      refine j_iload_n C 1 1 dX12_laysBuys_2 rfl rfl ?_
      refine j_aload_n C 0 0 dX12_laysBuys_3 rfl rfl ?_
      refine j_callVi C (d := 0) (As := []) (st := [.int (sI a144)]) 98 (s_lt rfl rfl) (s_kc (c := 11) rfl rfl) (by decide) rfl (s1_X12_everyKind hM145) gX12_laysBuys_X12_everyKind rfl hdX12_everyKind (by decide) (Nat.le_of_ble_eq_true rfl) dX12_laysBuys_4 rfl (fun r147 M148 h149 => ?_)
      obtain ⟨a151, rfl, rfl, h150⟩ := h149
      rw [show M145.1 99 = M0.1 99 from (FR.cell fM145 (by decide))] at h150
      obtain rfl : a151 = (evF (M0.1 99)) := by omega
      refine y_icmp_gt C 51 dX12_laysBuys_7 (by decide) (by omega) (fun h152 => ?_) (fun h152 => ?_)
      · have u183 := lb_e (M := M145) (f := (M0.1 99)) (s := a144) (show M145.1 99 = M0.1 99 from (FR.cell fM145 (by decide))) (by omega) (by omega)
        have u183x := lx_e (M := M145) (f := (M0.1 99)) (s := a144) (by omega) (by omega)
        exact hret _ _ _ dX12_laysBuys_51 ⟨hM145, (FR.rf.tr fM145 (by decide)), by omega⟩
      · refine y_iconst C dX12_laysBuys_10 ?_
        refine j_istore_n C 2 [(2, .int (sI 0)), (0, .ref (ad 98)), (1, .int (sI a144))] dX12_laysBuys_11 rfl (by decide) rfl ?_
        have L167 : ∀ (n165 : Nat), ∀ (a168 : Int) (M169 : mm_M), (0 ≤ a168 ∧ a168 ≤ 6 ∧ (b01 (lbQ M169 (M0.1 99) a144 a168) = 1) ∧ (b01 (LBX M169 (M0.1 99) a144 a168) = 1) ∧ (b01 (PI M169) = 1) ∧ (6 - a168) < (n165 : Int)) → INV pr Kz M169 → FR [103, 104, 106] M0 M169 → jj p l e (cn_R 4) s m args below meth c 0 0 Q 3 dC dI ad cA A M169 12 [(0, .ref (ad 98)), (1, .int (sI a144)), (2, .int (sI a168))] [] := by
          intro n165
          induction n165 with
          | zero =>
            intro a168 M169 h170 hM169 fM169
            exfalso; omega
          | succ n165 ih166 =>
            intro a168 M169 h170 hM169 fM169
            refine j_iload_n C 2 2 dX12_laysBuys_12 rfl rfl ?_
            refine j_aload_n C 0 0 dX12_laysBuys_13 rfl rfl ?_
            refine y_getC C 11 99 fX12_laysBuys_13 rfl rfl ft_11_1 sm_11_1 rfl hM169 dX12_laysBuys_14 ?_
            refine y_iconst C dX12_laysBuys_17 ?_
            refine y_ialdH C 45 3543 rfl rfl rfl ak_45 an_45 rfl _ _ hM169 (hr_45_1_1 _ (by omega) (by omega)) dX12_laysBuys_18 (by omega) (fun a171 ea171 la171 ua171 => ?_)
            obtain rfl : a171 = (M0.1 99 1).toInt := s_fF fM169 (by decide) (ea171)
            refine y_icmp_ge C 45 dX12_laysBuys_19 (by decide) (by omega) (fun h172 => ?_) (fun h172 => ?_)
            · have u181 := lb_n (f := (M0.1 99)) (M := M169) (s := a144) (b := a168) (by omega) (by omega)
              have u181x := lx_n (M := M169) (f := (M0.1 99)) (s := a144) (b := a168) (by omega) (by omega)
              refine y_iinc C 1 [(1, .int (sI (a144 + 1))), (0, .ref (ad 98)), (2, .int (sI a168))] dX12_laysBuys_45 rfl (by decide) rfl ?_
              refine j_goto C 2 dX12_laysBuys_48 (by decide) ?_
              refine j_lv [1, 0] rfl ?_; exact ih142 (a144 + 1) M169 (by omega) hM169 (FR.rf.tr fM169 (by decide))
            · refine j_aload_n C 0 0 dX12_laysBuys_22 rfl rfl ?_
              refine y_getC C 11 106 fX12_laysBuys_39 rfl rfl ft_11_19 sm_11_19 rfl hM169 dX12_laysBuys_23 ?_
              refine y_bipush C dX12_laysBuys_26 rfl ?_
              refine j_iload_n C 1 1 dX12_laysBuys_28 rfl rfl ?_
              refine y_imul C dX12_laysBuys_29 ?_
              refine j_iload_n C 2 2 dX12_laysBuys_30 rfl rfl ?_
              refine y_iadd C dX12_laysBuys_31 ?_
              refine j_aload_n C 0 0 dX12_laysBuys_32 rfl rfl ?_
              refine j_iload_n C 2 2 dX12_laysBuys_33 rfl rfl ?_
              refine j_iload_n C 1 1 dX12_laysBuys_34 rfl rfl ?_
              refine j_callVi C (d := 3) (As := [.int (sI a168), .int (sI a144)]) (st := [.int (sI ((6 * a144) + a168)), .ref (ad 106)]) 98 (s_lt rfl rfl) (s_kc (c := 11) rfl rfl) (by decide) rfl (s1_X12_buysOf hM169 hpr hcw a168 (by omega) a144 (by omega) (by omega) (by omega)) gX12_laysBuys_X12_buysOf rfl hdX12_buysOf (by decide) (Nat.le_of_ble_eq_true rfl) dX12_laysBuys_35 rfl (fun r173 M174 h175 => ?_)
              obtain ⟨a177, rfl, hM174, fM174, h176⟩ := h175
              rw [show M169.1 99 = M0.1 99 from (FR.cell fM169 (by decide))] at h176
              obtain rfl : a177 = (boF (M0.1 99) a168 a144) := by omega
              have u178 : b01 (lbQ M174 (M0.1 99) a144 a168) = 1 := b01_i (by intro s b; rw [FR.cell fM174 (by decide)]; exact b01_e (P := lbQ M169 (M0.1 99) a144 a168) (by omega) s b)
              have u178x := lx_c (M := M169) (N := M174) (f := (M0.1 99)) (s := a144) (b := a168) (FR.cell fM174 (by decide)) (by omega)
              refine y_iast C 52 1536 _ _ rfl rfl rfl ak_52 an_52 rfl (sb_52 _) hM174 (PM.w hpr rfl rfl) dX12_laysBuys_38 (by omega) (by omega) (fun M179 eM179 hM179 => ?_)
              have pM179 := pi_o eM179 (by decide) (by decide) (by omega)
              have u180z := boF_lt (M0.1 99) a168 a144 (by omega)
              have u180 := lb_s (f := (M0.1 99)) (s := a144) (b := a168) eM179 (by omega) (by omega)
              have u180x := lx_s (f := (M0.1 99)) (s := a144) (b := a168) eM179 (by omega) (by omega)
              refine y_iinc C 2 [(2, .int (sI (a168 + 1))), (0, .ref (ad 98)), (1, .int (sI a144))] dX12_laysBuys_39 rfl (by decide) rfl ?_
              refine j_goto C 12 dX12_laysBuys_42 (by decide) ?_
              refine j_lv [1, 2, 0] rfl ?_; exact ih166 (a168 + 1) M179 (by omega) hM179 (((FR.rf.tr fM169 (by decide)).tr fM174 (by decide)).wI eM179 (by decide))
        refine j_lv [1, 2, 0] rfl ?_; exact L167 2010 0 M145 (by omega) hM145 (FR.rf.tr fM145 (by decide))
  refine j_lv [1, 0] rfl ?_; exact L143 2010 0 M0 (by omega) hM0 FR.rf

set_option maxHeartbeats 4000000 in
theorem tt_s1_X12_laysEnding {l : Launch} {dC : Nat → ClassId} {dI : Nat → Nat → Nat} {ad : Nat → Nat} {cA : Nat → ClassId} {pr : Nat → Nat → Bool} {Kz : mm_M} {M0 : mm_M} (hM0 : INV pr Kz M0) (hpr : PM pr) (a1 : Int) (ha1 : -2147483648 ≤ a1 ∧ a1 ≤ 2147483647) (hp0 : b01 (lbP M0) = 1) (hp1 : b01 (LBF M0 (M0.1 99)) = 1) (hp2 : b01 (PI M0) = 1) : Ci l 3 yX12_laysEnding wsX12_laysEnding dC dI ad cA [.ref (ad 98), .int (sI a1)] M0 (fun r M' => ∃ a : Int, r = sI a ∧ INV pr Kz M' ∧ FR [107] M0 M' ∧ (-1) ≤ a ∧ a ≤ 255 ∧ (b01 (leQ M' (-1)) = 1) ∧ (b01 (lbP M') = 1) ∧ (a = -1 ∨ a = (M'.1 107 (M'.1 99 27).toInt.toNat).toInt ∧ a < 268435456) ∧ (b01 (LBF M' (M0.1 99)) = 1) ∧ (b01 (EDQ M' (M0.1 99) a1 (-1)) = 1) ∧ (a = enF (M0.1 99) a1) ∧ (b01 (PI M') = 1)) := by
  refine ci_of (cc := cX12_laysEnding) (maxL := 7) (ty := .int) (lv := [(0, .ref (ad 98)), (1, .int (sI a1))]) (by decide) rfl (fun r M' hp => rfl) (Nat.le_of_ble_eq_true rfl) rfl ?_
  intro p e s m args below meth c A Q C hret
  have u101r26 := INV.rd hM0 (i := 99) (c := 45) (k := 26) rfl rfl
  have u101r1 := INV.rd hM0 (i := 99) (c := 45) (k := 1) rfl rfl
  have u101r27 := INV.rd hM0 (i := 99) (c := 45) (k := 27) rfl rfl
  refine j_aload_n C 0 0 dX12_laysEnding_0 rfl rfl ?_
  refine j_callVi C (d := 0) (As := []) (st := []) 98 (s_lt rfl rfl) (s_kc (c := 11) rfl rfl) (by decide) rfl (s1_X12_everyKind hM0) gX12_laysEnding_X12_everyKind rfl hdX12_everyKind (by decide) (Nat.le_of_ble_eq_true rfl) dX12_laysEnding_1 rfl (fun r102 M103 h104 => ?_)
  obtain ⟨a106, rfl, rfl, h105⟩ := h104
  obtain rfl : a106 = (evF (M0.1 99)) := by omega
  refine j_istore_n C 2 [(2, .int (sI (evF (M0.1 99)))), (0, .ref (ad 98)), (1, .int (sI a1))] dX12_laysEnding_4 rfl (by decide) rfl ?_
  have u107 := le_0 M0 (evF (M0.1 99)) (by omega)
  have u107d := dq_0 M0 (M0.1 99) a1 (evF (M0.1 99)) (by omega)
  have L186 : ∀ (n184 : Nat), ∀ (a187 : Int) (M188 : mm_M), ((-1) ≤ a187 ∧ a187 ≤ 255 ∧ (b01 (leQ M188 a187) = 1) ∧ (a187 ≤ evF (M0.1 99)) ∧ (b01 (EDQ M188 (M0.1 99) a1 a187) = 1) ∧ (b01 (PI M188) = 1) ∧ (a187 - (-1)) < (n184 : Int)) → INV pr Kz M188 → FR [107] M0 M188 → jj p l e (cn_R 3) s m args below meth c 0 0 Q 7 dC dI ad cA A M188 5 [(0, .ref (ad 98)), (1, .int (sI a1)), (2, .int (sI a187))] [] := by
    intro n184
    induction n184 with
    | zero =>
      intro a187 M188 h189 hM188 fM188
      exfalso; omega
    | succ n184 ih185 =>
      intro a187 M188 h189 hM188 fM188
      refine j_iload_n C 2 2 dX12_laysEnding_5 rfl rfl ?_
      refine y_if_lt C 124 dX12_laysEnding_6 (by decide) (by omega) (fun h190 => ?_) (fun h190 => ?_)
      · obtain rfl : a187 = -1 := by omega
        have u264A : evF (M188.1 99) = evF (M0.1 99) := by rw [(show M188.1 99 = M0.1 99 from (FR.cell fM188 (by decide)))]
        have u264B : (M188.1 99 1).toInt = (M0.1 99 1).toInt := by rw [(show M188.1 99 = M0.1 99 from (FR.cell fM188 (by decide)))]
        have u264C : (M188.1 99 26).toInt = (M0.1 99 26).toInt := by rw [(show M188.1 99 = M0.1 99 from (FR.cell fM188 (by decide)))]
        have u264D : (M188.1 99 27).toInt = (M0.1 99 27).toInt := by rw [(show M188.1 99 = M0.1 99 from (FR.cell fM188 (by decide)))]
        have u264p := pi_27 (M := M0) (by omega)
        have u264g := le_g (M := M188) (by omega) (M0.1 99 27).toInt (by omega)
        have u264h := eo_b u264g (by omega)
        have u264l := lb_c (M := M0) (N := M188) (show M188.1 99 = M0.1 99 from (FR.cell fM188 (by decide))) (show M188.1 106 = M0.1 106 from (FR.cell fM188 (by decide))) (by omega)
        have u264z : (M188.1 107 (M188.1 99 27).toInt.toNat).toInt = (M188.1 107 (M0.1 99 27).toInt.toNat).toInt := by rw [(show M188.1 99 = M0.1 99 from (FR.cell fM188 (by decide)))]
        have u264q := dq_g (M := M188) (f := (M0.1 99)) (a := a1) (s := -1) (by omega) (M0.1 99 27).toInt (by omega)
        have u264f := lf_c (M := M0) (N := M188) (f := (M0.1 99)) (show M188.1 106 = M0.1 106 from (FR.cell fM188 (by decide))) (by omega)
        refine j_aload_n C 0 0 dX12_laysEnding_124 rfl rfl ?_
        refine y_getC C 11 107 fX12_laysEnding_42 rfl rfl ft_11_20 sm_11_20 rfl hM188 dX12_laysEnding_125 ?_
        refine j_aload_n C 0 0 dX12_laysEnding_128 rfl rfl ?_
        refine y_getC C 11 99 fX12_laysEnding_13 rfl rfl ft_11_1 sm_11_1 rfl hM188 dX12_laysEnding_129 ?_
        refine y_bipush C dX12_laysEnding_132 rfl ?_
        refine y_ialdH C 45 3543 rfl rfl rfl ak_45 an_45 rfl _ _ hM188 (hr_45_27_27 _ (by omega) (by omega)) dX12_laysEnding_134 (by omega) (fun a265 ea265 la265 ua265 => ?_)
        obtain rfl : a265 = (M0.1 99 27).toInt := s_fF fM188 (by decide) (ea265)
        refine y_iald C 53 256 _ _ rfl rfl rfl ak_53 an_53 rfl (sb_53 _) hM188 dX12_laysEnding_135 (by omega) (fun a266 ea266 la266 ua266 => ?_)
        obtain rfl : a266 = (M188.1 107 ((M0.1 99 27).toInt).toNat).toInt := ea266
        refine y_ldcw C 268435456 dX12_laysEnding_136 kX12_laysEnding_341 rfl ?_
        refine y_icmp_lt C 146 dX12_laysEnding_139 (by decide) (by omega) (fun h267 => ?_) (fun h267 => ?_)
        · refine j_aload_n C 0 0 dX12_laysEnding_146 rfl rfl ?_
          refine y_getC C 11 107 fX12_laysEnding_42 rfl rfl ft_11_20 sm_11_20 rfl hM188 dX12_laysEnding_147 ?_
          refine j_aload_n C 0 0 dX12_laysEnding_150 rfl rfl ?_
          refine y_getC C 11 99 fX12_laysEnding_13 rfl rfl ft_11_1 sm_11_1 rfl hM188 dX12_laysEnding_151 ?_
          refine y_bipush C dX12_laysEnding_154 rfl ?_
          refine y_ialdH C 45 3543 rfl rfl rfl ak_45 an_45 rfl _ _ hM188 (hr_45_27_27 _ (by omega) (by omega)) dX12_laysEnding_156 (by omega) (fun a268 ea268 la268 ua268 => ?_)
          obtain rfl : a268 = (M0.1 99 27).toInt := s_fF fM188 (by decide) (ea268)
          refine y_iald C 53 256 _ _ rfl rfl rfl ak_53 an_53 rfl (sb_53 _) hM188 dX12_laysEnding_157 (by omega) (fun a269 ea269 la269 ua269 => ?_)
          obtain rfl : a269 = (M188.1 107 ((M0.1 99 27).toInt).toNat).toInt := ea269
          have u270n := enF_s (M0.1 99) a1
          have zz99_27 : (M188.1 99 27).toInt = (M0.1 99 27).toInt := s_fF fM188 (by decide) (rfl); exact hret _ _ _ _ dX12_laysEnding_158 ⟨(M188.1 107 ((M0.1 99 27).toInt).toNat).toInt, rfl, hM188, (FR.rf.tr fM188 (by decide)), by omega⟩
        · refine y_iconst C dX12_laysEnding_142 ?_
          refine j_goto C 158 dX12_laysEnding_143 (by decide) ?_
          have u271n := enF_s (M0.1 99) a1
          have zz99_27 : (M188.1 99 27).toInt = (M0.1 99 27).toInt := s_fF fM188 (by decide) (rfl); exact hret _ _ _ _ dX12_laysEnding_158 ⟨(-1), rfl, hM188, (FR.rf.tr fM188 (by decide)), by omega⟩
      · refine j_aload_n C 0 0 dX12_laysEnding_9 rfl rfl ?_
        refine j_iload_n C 2 2 dX12_laysEnding_10 rfl rfl ?_
        refine j_callVi C (d := 2) (As := [.int (sI a187)]) (st := []) 98 (s_lt rfl rfl) (s_kc (c := 11) rfl rfl) (by decide) rfl (s1_X12_isShutBy hM188 a187 (by omega)) gX12_laysEnding_X12_isShutBy rfl hdX12_isShutBy (by decide) (Nat.le_of_ble_eq_true rfl) dX12_laysEnding_11 rfl (fun r191 M192 h193 => ?_)
        obtain ⟨a195, rfl, rfl, h194⟩ := h193
        rw [show M188.1 99 = M0.1 99 from (FR.cell fM188 (by decide))] at h194
        obtain rfl : a195 = (shF (M0.1 99) a187) := by omega
        have J200 : ∀ (a199 : Int), (0 ≤ a199 ∧ a199 ≤ 268435456 ∧ (b01 (eoP M188 a187 a199) = 1) ∧ (a199 = edE (edF (M0.1 99) a1) (M0.1 99) a1 a187 (0 : Int).toNat)) → jj p l e (cn_R 3) s m args below meth c 0 0 Q 7 dC dI ad cA A M188 24 [(0, .ref (ad 98)), (1, .int (sI a1)), (2, .int (sI a187))] [.int (sI a199)] := by
          intro a199 h201
          refine j_istore_n C 3 [(3, .int (sI a199)), (0, .ref (ad 98)), (1, .int (sI a1)), (2, .int (sI a187))] dX12_laysEnding_24 rfl (by decide) rfl ?_
          refine y_iconst C dX12_laysEnding_25 ?_
          refine j_istore C 4 [(4, .int (sI 0)), (3, .int (sI a199)), (0, .ref (ad 98)), (1, .int (sI a1)), (2, .int (sI a187))] dX12_laysEnding_26 (by decide) rfl ?_
          have L231 : ∀ (n229 : Nat), ∀ (a232 : Int) (a233 : Int), (0 ≤ a232 ∧ a232 ≤ 268435456 ∧ 0 ≤ a233 ∧ a233 ≤ 6 ∧ (b01 (eoP M188 a187 a232) = 1) ∧ (a232 = edE (edF (M0.1 99) a1) (M0.1 99) a1 a187 (a233).toNat) ∧ (a233 ≤ (M0.1 99 1).toInt) ∧ (6 - a233) < (n229 : Int)) → jj p l e (cn_R 3) s m args below meth c 0 0 Q 7 dC dI ad cA A M188 28 [(0, .ref (ad 98)), (1, .int (sI a1)), (2, .int (sI a187)), (3, .int (sI a232)), (4, .int (sI a233))] [] := by
            intro n229
            induction n229 with
            | zero =>
              intro a232 a233 h234
              exfalso; omega
            | succ n229 ih230 =>
              intro a232 a233 h234
              refine j_iload C 4 dX12_laysEnding_28 rfl ?_
              refine j_aload_n C 0 0 dX12_laysEnding_30 rfl rfl ?_
              refine y_getC C 11 99 fX12_laysEnding_13 rfl rfl ft_11_1 sm_11_1 rfl hM188 dX12_laysEnding_31 ?_
              refine y_iconst C dX12_laysEnding_34 ?_
              refine y_ialdH C 45 3543 rfl rfl rfl ak_45 an_45 rfl _ _ hM188 (hr_45_1_1 _ (by omega) (by omega)) dX12_laysEnding_35 (by omega) (fun a235 ea235 la235 ua235 => ?_)
              obtain rfl : a235 = (M0.1 99 1).toInt := s_fF fM188 (by decide) (ea235)
              refine y_icmp_ge C 111 dX12_laysEnding_36 (by decide) (by omega) (fun h236 => ?_) (fun h236 => ?_)
              · have u260x : a233 = (M0.1 99 1).toInt := by omega
                have u260y : edE (edF (M0.1 99) a1) (M0.1 99) a1 a187 (a233).toNat = edE (edF (M0.1 99) a1) (M0.1 99) a1 a187 (M0.1 99 1).toInt.toNat := by rw [u260x]
                have u260b := evF_b (f := (M0.1 99)) (by omega)
                have u260z := edF_e (f := (M0.1 99)) (a := a1) (s := a187) (by omega) (by omega)
                refine j_aload_n C 0 0 dX12_laysEnding_111 rfl rfl ?_
                refine y_getC C 11 107 fX12_laysEnding_42 rfl rfl ft_11_20 sm_11_20 rfl hM188 dX12_laysEnding_112 ?_
                refine j_iload_n C 2 2 dX12_laysEnding_115 rfl rfl ?_
                refine j_iload_n C 3 3 dX12_laysEnding_116 rfl rfl ?_
                refine y_iast C 53 256 _ _ rfl rfl rfl ak_53 an_53 rfl (sb_53 _) hM188 (PM.w hpr rfl rfl) dX12_laysEnding_117 (by omega) (by omega) (fun M261 eM261 hM261 => ?_)
                have pM261 := pi_o eM261 (by decide) (by decide) (by omega)
                have u262 := le_s (s := a187) (v := a232) eM261 (by omega) (by omega) (by omega)
                have u262d := dq_s (f := (M0.1 99)) (a := a1) (s := a187) (v := a232) eM261 (by omega) (by omega)
                refine y_iinc C 2 [(2, .int (sI (a187 + (-1)))), (0, .ref (ad 98)), (1, .int (sI a1)), (3, .int (sI a232)), (4, .int (sI a233))] dX12_laysEnding_118 rfl (by decide) rfl ?_
                refine j_goto C 5 dX12_laysEnding_121 (by decide) ?_
                refine j_lv [1, 2, 0] rfl ?_; exact ih185 (a187 + (-1)) M261 (by omega) hM261 ((FR.rf.tr fM188 (by decide)).wI eM261 (by decide))
              · have u237q := edE_s (f := (M0.1 99)) (a := a1) (s := a187) (b := a233) (b' := a233 + 1) (v := a232) (edF (M0.1 99) a1) (by omega) (by omega)
                have u237l := lf_g (M := M0) (f := (M0.1 99)) (by omega) (s := a187) (b := a233) (by omega)
                have u237v := bo_ev (f := (M0.1 99)) (b := a233) (s := a187) (by omega) (by omega)
                refine j_iload C 4 dX12_laysEnding_39 rfl ?_
                refine j_iload_n C 1 1 dX12_laysEnding_41 rfl rfl ?_
                refine y_icmp_ne C 49 dX12_laysEnding_42 (by decide) (by omega) (fun h238 => ?_) (fun h238 => ?_)
                · refine j_aload_n C 0 0 dX12_laysEnding_49 rfl rfl ?_
                  refine j_iload_n C 2 2 dX12_laysEnding_50 rfl rfl ?_
                  refine j_iload C 4 dX12_laysEnding_51 rfl ?_
                  refine j_callVi C (d := 0) (As := [.int (sI a187), .int (sI a233)]) (st := []) 98 (s_lt rfl rfl) (s_kc (c := 11) rfl rfl) (by decide) rfl (s1_X12_boughtBy hM188 a187 (by omega) a233 (by omega) (by omega) (by omega)) gX12_laysEnding_X12_boughtBy rfl hdX12_boughtBy (by decide) (Nat.le_of_ble_eq_true rfl) dX12_laysEnding_53 rfl (fun r239 M240 h241 => ?_)
                  obtain ⟨a243, rfl, rfl, h242⟩ := h241
                  rw [show M188.1 106 = M0.1 106 from (FR.cell fM188 (by decide))] at h242
                  obtain rfl : a243 = ((M0.1 106 (6 * a187 + a233).toNat).toInt) := by omega
                  refine j_istore C 5 [(5, .int (sI ((M0.1 106 (6 * a187 + a233).toNat).toInt))), (0, .ref (ad 98)), (1, .int (sI a1)), (2, .int (sI a187)), (3, .int (sI a232)), (4, .int (sI a233))] dX12_laysEnding_56 (by decide) rfl ?_
                  have u244l : ((M0.1 106 (6 * a187 + a233).toNat).toInt) = (boF (M0.1 99) a233 a187) := by omega
                  have u244i : iiF a187 ((M0.1 106 (6 * a187 + a233).toNat).toInt) = iiF a187 (boF (M0.1 99) a233 a187) := by rw [u244l]
                  have u244o : orI a187 (pw2 ((M0.1 106 (6 * a187 + a233).toNat).toInt)) = orI a187 (pw2 (boF (M0.1 99) a233 a187)) := by rw [u244l]
                  have u244d : edF (M0.1 99) a1 (orI a187 (pw2 ((M0.1 106 (6 * a187 + a233).toNat).toInt))) = edF (M0.1 99) a1 (orI a187 (pw2 (boF (M0.1 99) a233 a187))) := by rw [u244l]
                  refine j_iload C 0 dX12_laysEnding_58 rfl ?_
                  refine y_iconst C dX12_laysEnding_60 ?_
                  refine y_icmp_eq C 105 dX12_laysEnding_61 (by decide) (by omega) (fun h245 => ?_) (fun h245 => ?_)
                  · refine y_iinc C 5 [(4, .int (sI (a233 + 1))), (5, .int (sI ((M0.1 106 (6 * a187 + a233).toNat).toInt))), (0, .ref (ad 98)), (1, .int (sI a1)), (2, .int (sI a187)), (3, .int (sI a232))] dX12_laysEnding_105 rfl (by decide) rfl ?_
                    refine j_goto C 28 dX12_laysEnding_108 (by decide) ?_
                    refine j_lv [2, 3, 4, 5, 0] rfl ?_; exact ih230 a232 (a233 + 1) (by omega)
                  · refine j_iload_n C 3 2 dX12_laysEnding_64 rfl rfl ?_
                    refine y_i2l C dX12_laysEnding_65 (by omega) ?_
                    refine j_iload C 0 dX12_laysEnding_66 rfl ?_
                    refine j_callSi C (d := 0) (As := [.long (sJ a187), .int (sI ((M0.1 106 (6 * a187 + a233).toNat).toInt))]) (st := []) (s1_X12_isIn hM188 a187 (by omega) ((M0.1 106 (6 * a187 + a233).toNat).toInt) (by omega)) gX12_laysEnding_X12_isIn rfl hdX12_isIns (by decide) (Nat.le_of_ble_eq_true rfl) dX12_laysEnding_68 rfl (fun r246 M247 h248 => ?_)
                    obtain ⟨a250, rfl, rfl, h249⟩ := h248
                    obtain rfl : a250 = (iiF a187 ((M0.1 106 (6 * a187 + a233).toNat).toInt)) := by omega
                    refine y_if_eq C 77 dX12_laysEnding_71 (by decide) (by omega) (fun h251 => ?_) (fun h251 => ?_)
                    · refine j_aload_n C 1 0 dX12_laysEnding_77 rfl rfl ?_
                      refine y_getC C 11 107 fX12_laysEnding_42 rfl rfl ft_11_20 sm_11_20 rfl hM188 dX12_laysEnding_78 ?_
                      refine j_iload_n C 3 2 dX12_laysEnding_81 rfl rfl ?_
                      refine y_iconst C dX12_laysEnding_82 ?_
                      refine j_iload C 0 dX12_laysEnding_83 rfl ?_
                      refine e_shl1 C 7 128 dX12_laysEnding_85 rfl (by decide) (by omega) (fun lb252 ub252 => ?_)
                      refine e_iorN C 8 255 dX12_laysEnding_86 rfl (by decide) (by omega) (fun lb253 ub253 ob253 => ?_)
                      refine y_iald C 53 256 _ _ rfl rfl rfl ak_53 an_53 rfl (sb_53 _) hM188 dX12_laysEnding_87 (by omega) (fun a254 ea254 la254 ua254 => ?_)
                      obtain rfl : a254 = (M188.1 107 ((orI a187 (pw2 ((M0.1 106 (6 * a187 + a233).toNat).toInt)))).toNat).toInt := ea254
                      refine y_iconst C dX12_laysEnding_88 ?_
                      refine y_iadd C dX12_laysEnding_89 ?_
                      refine j_istore C 6 [(6, .int (sI ((M188.1 107 ((orI a187 (pw2 ((M0.1 106 (6 * a187 + a233).toNat).toInt)))).toNat).toInt + 1))), (5, .int (sI ((M0.1 106 (6 * a187 + a233).toNat).toInt))), (0, .ref (ad 98)), (1, .int (sI a1)), (2, .int (sI a187)), (3, .int (sI a232)), (4, .int (sI a233))] dX12_laysEnding_90 (by decide) rfl ?_
                      have u255g := dq_g (M := M188) (f := (M0.1 99)) (a := a1) (s := a187) (by omega) (orI a187 (pw2 ((M0.1 106 (6 * a187 + a233).toNat).toInt))) (by omega)
                      refine j_iload C 0 dX12_laysEnding_92 rfl ?_
                      refine j_iload_n C 5 3 dX12_laysEnding_94 rfl rfl ?_
                      refine y_icmp_ge C 103 dX12_laysEnding_95 (by decide) (by omega) (fun h256 => ?_) (fun h256 => ?_)
                      · refine j_iload_n C 5 3 dX12_laysEnding_103 rfl rfl ?_
                        refine j_istore_n C 3 [(3, .int (sI a232)), (6, .int (sI ((M188.1 107 ((orI a187 (pw2 ((M0.1 106 (6 * a187 + a233).toNat).toInt)))).toNat).toInt + 1))), (5, .int (sI ((M0.1 106 (6 * a187 + a233).toNat).toInt))), (0, .ref (ad 98)), (1, .int (sI a1)), (2, .int (sI a187)), (4, .int (sI a233))] dX12_laysEnding_104 rfl (by decide) rfl ?_
                        refine y_iinc C 6 [(4, .int (sI (a233 + 1))), (3, .int (sI a232)), (6, .int (sI ((M188.1 107 ((orI a187 (pw2 ((M0.1 106 (6 * a187 + a233).toNat).toInt)))).toNat).toInt + 1))), (5, .int (sI ((M0.1 106 (6 * a187 + a233).toNat).toInt))), (0, .ref (ad 98)), (1, .int (sI a1)), (2, .int (sI a187))] dX12_laysEnding_105 rfl (by decide) rfl ?_
                        refine j_goto C 28 dX12_laysEnding_108 (by decide) ?_
                        refine j_lv [4, 5, 6, 1, 0] rfl ?_; exact ih230 a232 (a233 + 1) (by omega)
                      · have u257A : evF (M188.1 99) = evF (M0.1 99) := by rw [(show M188.1 99 = M0.1 99 from (FR.cell fM188 (by decide)))]
                        have u257B : (M188.1 99 1).toInt = (M0.1 99 1).toInt := by rw [(show M188.1 99 = M0.1 99 from (FR.cell fM188 (by decide)))]
                        have u257C : (M188.1 99 26).toInt = (M0.1 99 26).toInt := by rw [(show M188.1 99 = M0.1 99 from (FR.cell fM188 (by decide)))]
                        have u257D : (M188.1 99 27).toInt = (M0.1 99 27).toInt := by rw [(show M188.1 99 = M0.1 99 from (FR.cell fM188 (by decide)))]
                        have u257l := lb_c (M := M0) (N := M188) (show M188.1 99 = M0.1 99 from (FR.cell fM188 (by decide))) (show M188.1 106 = M0.1 106 from (FR.cell fM188 (by decide))) (by omega)
                        have u257b := eo_b (M := M188) (s := a187) (v := a232) (by omega) (by omega)
                        have u257 := eo_up (M := M188) (s := a187) (b := a233) (k := ((M0.1 106 (6 * a187 + a233).toNat).toInt)) (v := ((M188.1 107 ((orI a187 (pw2 ((M0.1 106 (6 * a187 + a233).toNat).toInt)))).toNat).toInt + 1)) (by omega) (by omega) (by rw [(show M188.1 106 = M0.1 106 from (FR.cell fM188 (by decide)))]) (by omega) rfl
                        refine j_iload C 0 dX12_laysEnding_98 rfl ?_
                        refine j_goto C 104 dX12_laysEnding_100 (by decide) ?_
                        refine j_istore_n C 3 [(3, .int (sI ((M188.1 107 ((orI a187 (pw2 ((M0.1 106 (6 * a187 + a233).toNat).toInt)))).toNat).toInt + 1))), (6, .int (sI ((M188.1 107 ((orI a187 (pw2 ((M0.1 106 (6 * a187 + a233).toNat).toInt)))).toNat).toInt + 1))), (5, .int (sI ((M0.1 106 (6 * a187 + a233).toNat).toInt))), (0, .ref (ad 98)), (1, .int (sI a1)), (2, .int (sI a187)), (4, .int (sI a233))] dX12_laysEnding_104 rfl (by decide) rfl ?_
                        refine y_iinc C 6 [(4, .int (sI (a233 + 1))), (3, .int (sI ((M188.1 107 ((orI a187 (pw2 ((M0.1 106 (6 * a187 + a233).toNat).toInt)))).toNat).toInt + 1))), (6, .int (sI ((M188.1 107 ((orI a187 (pw2 ((M0.1 106 (6 * a187 + a233).toNat).toInt)))).toNat).toInt + 1))), (5, .int (sI ((M0.1 106 (6 * a187 + a233).toNat).toInt))), (0, .ref (ad 98)), (1, .int (sI a1)), (2, .int (sI a187))] dX12_laysEnding_105 rfl (by decide) rfl ?_
                        refine j_goto C 28 dX12_laysEnding_108 (by decide) ?_
                        refine j_lv [4, 5, 6, 1, 0] rfl ?_; exact ih230 ((M188.1 107 ((orI a187 (pw2 ((M0.1 106 (6 * a187 + a233).toNat).toInt)))).toNat).toInt + 1) (a233 + 1) (by omega)
                    · refine j_goto C 105 dX12_laysEnding_74 (by decide) ?_
                      refine y_iinc C 5 [(4, .int (sI (a233 + 1))), (5, .int (sI ((M0.1 106 (6 * a187 + a233).toNat).toInt))), (0, .ref (ad 98)), (1, .int (sI a1)), (2, .int (sI a187)), (3, .int (sI a232))] dX12_laysEnding_105 rfl (by decide) rfl ?_
                      refine j_goto C 28 dX12_laysEnding_108 (by decide) ?_
                      refine j_lv [2, 3, 4, 5, 0] rfl ?_; exact ih230 a232 (a233 + 1) (by omega)
                · refine y_iconst C dX12_laysEnding_45 ?_
                  refine j_goto C 56 dX12_laysEnding_46 (by decide) ?_
                  refine j_istore C 5 [(5, .int (sI (-1))), (0, .ref (ad 98)), (1, .int (sI a1)), (2, .int (sI a187)), (3, .int (sI a232)), (4, .int (sI a233))] dX12_laysEnding_56 (by decide) rfl ?_
                  refine j_iload C 0 dX12_laysEnding_58 rfl ?_
                  refine y_iconst C dX12_laysEnding_60 ?_
                  refine y_icmp_eq C 105 dX12_laysEnding_61 (by decide) (by omega) (fun h259 => ?_) (fun h259 => ?_)
                  · refine y_iinc C 5 [(4, .int (sI (a233 + 1))), (5, .int (sI (-1))), (0, .ref (ad 98)), (1, .int (sI a1)), (2, .int (sI a187)), (3, .int (sI a232))] dX12_laysEnding_105 rfl (by decide) rfl ?_
                    refine j_goto C 28 dX12_laysEnding_108 (by decide) ?_
                    refine j_lv [2, 3, 4, 5, 0] rfl ?_; exact ih230 a232 (a233 + 1) (by omega)
                  · exfalso; omega
          refine j_lv [2, 3, 4, 1, 0] rfl ?_; exact L231 536870922 a199 0 (by omega)
        refine y_if_eq C 21 dX12_laysEnding_14 (by decide) (by omega) (fun h196 => ?_) (fun h196 => ?_)
        · have u197 := eo_N M188 a187
          have u197e := edE_0 (edF (M0.1 99) a1) (M0.1 99) a1 a187
          have u197h := shF_s (M0.1 99) a187
          refine y_ldcw C 268435456 dX12_laysEnding_21 kX12_laysEnding_341 rfl ?_
          exact J200 268435456 (by omega)
        · refine y_iconst C dX12_laysEnding_17 ?_
          have u198 := eo_0 M188 a187 (by omega)
          have u198e := edE_0 (edF (M0.1 99) a1) (M0.1 99) a1 a187
          have u198h := shF_s (M0.1 99) a187
          refine j_goto C 24 dX12_laysEnding_18 (by decide) ?_
          exact J200 0 (by omega)
  refine j_lv [1, 2, 0] rfl ?_; exact L186 2010 (evF (M0.1 99)) M0 (by omega) hM0 FR.rf

set_option maxHeartbeats 4000000 in
theorem tt_s1_X12_endingNow {l : Launch} {dC : Nat → ClassId} {dI : Nat → Nat → Nat} {ad : Nat → Nat} {cA : Nat → ClassId} {pr : Nat → Nat → Bool} {Kz : mm_M} {M0 : mm_M} (hM0 : INV pr Kz M0) (hpr : PM pr) (hcw : CWK pr Kz)  (hp0 : b01 (PI M0) = 1) : Ci l 5 yX12_endingNow wsX12_endingNow dC dI ad cA [.ref (ad 98)] M0 (fun r M' => ∃ a : Int, r = sI a ∧ INV pr Kz M' ∧ FR [103, 104, 106, 107] M0 M' ∧ (-1) ≤ a ∧ a ≤ 255 ∧ (b01 (leQ M' (-1)) = 1) ∧ (b01 (lbP M') = 1) ∧ (a = -1 ∨ a = (M'.1 107 (M'.1 99 27).toInt.toNat).toInt ∧ a < 268435456) ∧ (b01 (LBF M' (M0.1 99)) = 1) ∧ (b01 (EDQ M' (M0.1 99) (-1) (-1)) = 1) ∧ (a = enF (M0.1 99) (-1)) ∧ (b01 (PI M') = 1)) := by
  refine ci_of (cc := cX12_endingNow) (maxL := 1) (ty := .int) (lv := [(0, .ref (ad 98))]) (by decide) rfl (fun r M' hp => rfl) (Nat.le_of_ble_eq_true rfl) rfl ?_
  intro p e s m args below meth c A Q C hret
  refine j_aload_n C 0 0 dX12_endingNow_0 rfl rfl ?_
  refine j_callVv C (d := 4) (As := []) (st := []) 98 (s_lt rfl rfl) (s_kc (c := 11) rfl rfl) (by decide) rfl (tt_s1_X12_laysBuys hM0 hpr hcw (by omega)) gX12_endingNow_X12_laysBuys rfl hdX12_laysBuys (by decide) (Nat.le_of_ble_eq_true rfl) dX12_endingNow_1 rfl (fun M102 h103 => ?_)
  obtain ⟨hM102, fM102, h104⟩ := h103
  have u105e : b01 (LBF M102 (M102.1 99)) = 1 := by rw [((FR.cell fM102 (by decide)))]; omega
  refine j_aload_n C 0 0 dX12_endingNow_4 rfl rfl ?_
  refine y_iconst C dX12_endingNow_5 ?_
  refine j_callVi C (d := 3) (As := [.int (sI (-1))]) (st := []) 98 (s_lt rfl rfl) (s_kc (c := 11) rfl rfl) (by decide) rfl (tt_s1_X12_laysEnding hM102 hpr (-1) (by omega) (by omega) (by omega) (by omega)) gX12_endingNow_X12_laysEnding rfl hdX12_laysEnding (by decide) (Nat.le_of_ble_eq_true rfl) dX12_endingNow_6 rfl (fun r106 M107 h108 => ?_)
  obtain ⟨a110, rfl, hM107, fM107, h109⟩ := h108
  have u111a : b01 (LBF M107 (M0.1 99)) = 1 := by rw [← ((FR.cell fM102 (by decide)))]; omega
  have u111b : b01 (EDQ M107 (M0.1 99) (-1) (-1)) = 1 := by rw [← ((FR.cell fM102 (by decide)))]; omega
  have u111c : a110 = enF (M0.1 99) (-1) := by rw [← ((FR.cell fM102 (by decide)))]; omega
  have zz99_27 : (M107.1 99 27).toInt = (M0.1 99 27).toInt := s_fF fM102 (by decide) (s_fF fM107 (by decide) (rfl)); exact hret _ _ _ _ dX12_endingNow_9 ⟨a110, rfl, hM107, ((FR.rf.tr fM102 (by decide)).tr fM107 (by decide)), by omega⟩

set_option maxHeartbeats 4000000 in
theorem tt_s1_X12_ending {l : Launch} {dC : Nat → ClassId} {dI : Nat → Nat → Nat} {ad : Nat → Nat} {cA : Nat → ClassId} {pr : Nat → Nat → Bool} {Kz : mm_M} {M0 : mm_M} (hM0 : INV pr Kz M0) (hpr : PM pr) (hcw : CWK pr Kz)  (hp0 : b01 (PI M0) = 1) : Ci l 6 yX12_ending wsX12_ending dC dI ad cA [.ref (ad 98)] M0 (fun r M' => ∃ a : Int, r = sI a ∧ INV pr Kz M' ∧ FR [98, 103, 104, 106, 107] M0 M' ∧ (-1) ≤ a ∧ a ≤ 255 ∧ (a = enF (M0.1 99) (-1)) ∧ (b01 (PI M') = 1)) := by
  refine ci_of (cc := cX12_ending) (maxL := 1) (ty := .int) (lv := [(0, .ref (ad 98))]) (by decide) rfl (fun r M' hp => rfl) (Nat.le_of_ble_eq_true rfl) rfl ?_
  intro p e s m args below meth c A Q C hret
  refine j_aload_n C 0 0 dX12_ending_0 rfl rfl ?_
  refine y_iconst C dX12_ending_1 ?_
  refine y_putIF C 11 qX12_ending_1 rfl rfl ft_11_0 sb_11_0 hM0 (PM.w hpr rfl rfl) dX12_ending_2 (fun M101 eM101 hM101 => ?_)
  have pM101 := pi_o eM101 (by decide) (by decide) (by omega)
  refine j_aload_n C 0 0 dX12_ending_5 rfl rfl ?_
  refine j_callVi C (d := 5) (As := []) (st := []) 98 (s_lt rfl rfl) (s_kc (c := 11) rfl rfl) (by decide) rfl (tt_s1_X12_endingNow hM101 hpr hcw (by omega)) gX12_ending_X12_endingNow rfl hdX12_endingNow (by decide) (Nat.le_of_ble_eq_true rfl) dX12_ending_6 rfl (fun r102 M103 h104 => ?_)
  obtain ⟨a106, rfl, hM103, fM103, h105⟩ := h104
  have u107c : enF (M101.1 99) (-1) = enF (M0.1 99) (-1) := by rw [((wI_cell eM101 (by decide)))]
  exact hret _ _ _ _ dX12_ending_9 ⟨a106, rfl, hM103, ((FR.rf.wI eM101 (by decide)).tr fM103 (by decide)), by omega⟩

set_option maxHeartbeats 4000000 in
theorem tt_s1_X12_laysEndingRow {l : Launch} {dC : Nat → ClassId} {dI : Nat → Nat → Nat} {ad : Nat → Nat} {cA : Nat → ClassId} {pr : Nat → Nat → Bool} {Kz : mm_M} {M0 : mm_M} (hM0 : INV pr Kz M0) (hpr : PM pr) (hcw : CWK pr Kz)  (hp0 : b01 (PI M0) = 1) : Ci l 6 yX12_laysEndingRow wsX12_laysEndingRow dC dI ad cA [.ref (ad 98)] M0 (fun r M' => ∃ a : Int, r = sI a ∧ INV pr Kz M' ∧ FR [103, 104, 106, 107, 108] M0 M' ∧ (-1) ≤ a ∧ a ≤ 255 ∧ (a = enF (M0.1 99) (-1)) ∧ (b01 (ERW M' (M0.1 99) a a) = 1) ∧ (b01 (PI M') = 1)) := by
  refine ci_of (cc := cX12_laysEndingRow) (maxL := 5) (ty := .int) (lv := [(0, .ref (ad 98))]) (by decide) rfl (fun r M' hp => rfl) (Nat.le_of_ble_eq_true rfl) rfl ?_
  intro p e s m args below meth c A Q C hret
  have u101r26 := INV.rd hM0 (i := 99) (c := 45) (k := 26) rfl rfl
  have u101r1 := INV.rd hM0 (i := 99) (c := 45) (k := 1) rfl rfl
  have u101r27 := INV.rd hM0 (i := 99) (c := 45) (k := 27) rfl rfl
  refine j_aload_n C 0 0 dX12_laysEndingRow_0 rfl rfl ?_
  refine j_callVi C (d := 5) (As := []) (st := []) 98 (s_lt rfl rfl) (s_kc (c := 11) rfl rfl) (by decide) rfl (tt_s1_X12_endingNow hM0 hpr hcw (by omega)) gX12_laysEndingRow_X12_endingNow rfl hdX12_endingNow (by decide) (Nat.le_of_ble_eq_true rfl) dX12_laysEndingRow_1 rfl (fun r102 M103 h104 => ?_)
  obtain ⟨a106, rfl, hM103, fM103, h105⟩ := h104
  refine j_istore_n C 1 [(1, .int (sI a106)), (0, .ref (ad 98))] dX12_laysEndingRow_4 rfl (by decide) rfl ?_
  refine j_aload_n C 1 0 dX12_laysEndingRow_5 rfl rfl ?_
  refine y_getC C 11 99 fX12_laysEndingRow_13 rfl rfl ft_11_1 sm_11_1 rfl hM103 dX12_laysEndingRow_6 ?_
  refine y_bipush C dX12_laysEndingRow_9 rfl ?_
  refine y_ialdH C 45 3543 rfl rfl rfl ak_45 an_45 rfl _ _ hM103 (hr_45_27_27 _ (by omega) (by omega)) dX12_laysEndingRow_11 (by omega) (fun a107 ea107 la107 ua107 => ?_)
  obtain rfl : a107 = (M0.1 99 27).toInt := s_fF fM103 (by decide) (ea107)
  refine j_istore_n C 2 [(2, .int (sI (M0.1 99 27).toInt)), (1, .int (sI a106)), (0, .ref (ad 98))] dX12_laysEndingRow_12 rfl (by decide) rfl ?_
  refine y_iconst C dX12_laysEndingRow_13 ?_
  refine j_istore_n C 3 [(3, .int (sI 0)), (2, .int (sI (M0.1 99 27).toInt)), (1, .int (sI a106)), (0, .ref (ad 98))] dX12_laysEndingRow_14 rfl (by decide) rfl ?_
  have u108z : (M103.1 107 (M103.1 99 27).toInt.toNat).toInt = (M103.1 107 (M0.1 99 27).toInt.toNat).toInt := by rw [(show M103.1 99 = M0.1 99 from (FR.cell fM103 (by decide)))]
  have u108p := pi_27 (M := M0) (by omega)
  have u108e := er_0 M103 (M0.1 99) a106
  have u108s : (M0.1 99 27).toInt = roS (M0.1 99) a106 (0 : Int).toNat := rfl
  have L205 : ∀ (n203 : Nat), ∀ (a206 : Int) (a207 : Int) (M208 : mm_M), (0 ≤ a206 ∧ a206 ≤ 255 ∧ 0 ≤ a207 ∧ a207 ≤ 255 ∧ (b01 (leQ M208 (-1)) = 1) ∧ (b01 (lbP M208) = 1) ∧ (a106 = -1 ∨ (M208.1 107 (a206).toNat).toInt = a106 - a207) ∧ (a206 ≤ evF (M0.1 99)) ∧ (a206 = roS (M0.1 99) a106 (a207).toNat) ∧ (b01 (ERW M208 (M0.1 99) a106 a207) = 1) ∧ (b01 (EDQ M208 (M0.1 99) (-1) (-1)) = 1) ∧ (b01 (LBF M208 (M0.1 99)) = 1) ∧ (a106 = -1 ∨ a207 ≤ a106) ∧ (b01 (PI M208) = 1) ∧ (255 - a207) < (n203 : Int)) → INV pr Kz M208 → FR [103, 104, 106, 107, 108] M0 M208 → jj p l e (cn_R 6) s m args below meth c 0 0 Q 5 dC dI ad cA A M208 15 [(0, .ref (ad 98)), (1, .int (sI a106)), (2, .int (sI a206)), (3, .int (sI a207))] [] := by
    intro n203
    induction n203 with
    | zero =>
      intro a206 a207 M208 h209 hM208 fM208
      exfalso; omega
    | succ n203 ih204 =>
      intro a206 a207 M208 h209 hM208 fM208
      have u210b := evF_b (f := (M0.1 99)) (by omega)
      refine j_iload_n C 3 3 dX12_laysEndingRow_15 rfl rfl ?_
      refine j_iload_n C 1 1 dX12_laysEndingRow_16 rfl rfl ?_
      refine y_icmp_ge C 105 dX12_laysEndingRow_17 (by decide) (by omega) (fun h211 => ?_) (fun h211 => ?_)
      · have u301e : b01 (ERW M208 (M0.1 99) a106 a106) = 1 := b01_i (fun i hi => b01_e (P := ERW M208 (M0.1 99) a106 a207) (by omega) i (by omega))
        refine j_iload_n C 1 1 dX12_laysEndingRow_105 rfl rfl ?_
        exact hret _ _ _ _ dX12_laysEndingRow_106 ⟨a106, rfl, hM208, (FR.rf.tr fM208 (by decide)), by omega⟩
      · refine y_iconst C dX12_laysEndingRow_20 ?_
        refine j_istore C 4 [(4, .int (sI 0)), (0, .ref (ad 98)), (1, .int (sI a106)), (2, .int (sI a206)), (3, .int (sI a207))] dX12_laysEndingRow_21 (by decide) rfl ?_
        have u212A : evF (M208.1 99) = evF (M0.1 99) := by rw [(show M208.1 99 = M0.1 99 from (FR.cell fM208 (by decide)))]
        have u212B : (M208.1 99 1).toInt = (M0.1 99 1).toInt := by rw [(show M208.1 99 = M0.1 99 from (FR.cell fM208 (by decide)))]
        have u212C : (M208.1 99 26).toInt = (M0.1 99 26).toInt := by rw [(show M208.1 99 = M0.1 99 from (FR.cell fM208 (by decide)))]
        have u212D : (M208.1 99 27).toInt = (M0.1 99 27).toInt := by rw [(show M208.1 99 = M0.1 99 from (FR.cell fM208 (by decide)))]
        have u212g := le_g (M := M208) (by omega) a206 (by omega)
        have u212 := wt_0 (M := M208) (s := a206) (v := a106 - a207) u212g (by omega) (by omega)
        have u212z : nbS (M0.1 99) a206 (a106 - a207 - 1) (6 - 0 : Int).toNat 0 = nbS (M0.1 99) a206 (a106 - a207 - 1) 6 0 := rfl
        have L251 : ∀ (n249 : Nat), ∀ (a252 : Int), (0 ≤ a252 ∧ a252 ≤ 6 ∧ (b01 (wtP M208 a206 a252 (a106 - a207)) = 1) ∧ (nbS (M0.1 99) a206 (a106 - a207 - 1) (6 - a252).toNat a252 = nbS (M0.1 99) a206 (a106 - a207 - 1) 6 0) ∧ (6 - a252) < (n249 : Int)) → jj p l e (cn_R 6) s m args below meth c 0 0 Q 5 dC dI ad cA A M208 23 [(0, .ref (ad 98)), (1, .int (sI a106)), (2, .int (sI a206)), (3, .int (sI a207)), (4, .int (sI a252))] [] := by
          intro n249
          induction n249 with
          | zero =>
            intro a252 h253
            exfalso; omega
          | succ n249 ih250 =>
            intro a252 h253
            have u254A : evF (M208.1 99) = evF (M0.1 99) := by rw [(show M208.1 99 = M0.1 99 from (FR.cell fM208 (by decide)))]
            have u254B : (M208.1 99 1).toInt = (M0.1 99 1).toInt := by rw [(show M208.1 99 = M0.1 99 from (FR.cell fM208 (by decide)))]
            have u254C : (M208.1 99 26).toInt = (M0.1 99 26).toInt := by rw [(show M208.1 99 = M0.1 99 from (FR.cell fM208 (by decide)))]
            have u254D : (M208.1 99 27).toInt = (M0.1 99 27).toInt := by rw [(show M208.1 99 = M0.1 99 from (FR.cell fM208 (by decide)))]
            have u254w := wt_b (M := M208) (s := a206) (b := a252) (v := a106 - a207) (by omega)
            refine j_aload_n C 0 0 dX12_laysEndingRow_23 rfl rfl ?_
            have u255y := nbS_t (f := (M0.1 99)) (s := a206) (v := a106 - a207 - 1) (b := a252) (b' := a252 + 1) (by omega)
            have u255l := lf_g (M := M208) (f := (M0.1 99)) (by omega) (s := a206) (b := a252) (by omega)
            have u255v := bo_ev (f := (M0.1 99)) (b := a252) (s := a206) (by omega) (by omega)
            have u255i : iiF a206 (M208.1 106 (6 * a206 + a252).toNat).toInt = iiF a206 (boF (M0.1 99) a252 a206) := by rw [u255l]
            have u255o : orI a206 (pw2 (M208.1 106 (6 * a206 + a252).toNat).toInt) = orI a206 (pw2 (boF (M0.1 99) a252 a206)) := by rw [u255l]
            have u255g : (boF (M0.1 99) a252 a206) = -1 ∨ (M208.1 107 (orI a206 (pw2 (M208.1 106 (6 * a206 + a252).toNat).toInt)).toNat).toInt = edF (M0.1 99) (-1) (orI a206 (pw2 (boF (M0.1 99) a252 a206))) := by
              by_cases c : (boF (M0.1 99) a252 a206) = -1
              · exact Or.inl c
              · exact Or.inr (by rw [u255o]; exact dq_g (a := -1) (s := -1) (by omega) _ (by omega))
            have u256 : 0 ≤ a252 ∧ a252 ≤ 5 := by omega
            refine j_iload_n C 2 2 dX12_laysEndingRow_24 rfl rfl ?_
            refine j_iload C 4 dX12_laysEndingRow_25 rfl ?_
            refine j_callVi C (d := 0) (As := [.int (sI a206), .int (sI a252)]) (st := []) 98 (s_lt rfl rfl) (s_kc (c := 11) rfl rfl) (by decide) rfl (s1_X12_boughtBy hM208 a206 (by omega) a252 (by omega) (by omega) (by omega)) gX12_laysEndingRow_X12_boughtBy rfl hdX12_boughtBy (by decide) (Nat.le_of_ble_eq_true rfl) dX12_laysEndingRow_27 rfl (fun r257 M258 h259 => ?_)
            obtain ⟨a261, rfl, rfl, h260⟩ := h259
            obtain rfl : a261 = ((M208.1 106 (6 * a206 + a252).toNat).toInt) := by omega
            refine y_iconst C dX12_laysEndingRow_30 ?_
            refine y_icmp_eq C 73 dX12_laysEndingRow_31 (by decide) (by omega) (fun h262 => ?_) (fun h262 => ?_)
            · have u263 := wt_s (M := M208) (s := a206) (b := a252) (v := a106 - a207) (T := (M208.1 106 (6 * a206 + a252).toNat).toInt) (by omega) rfl (by omega)
              refine y_iinc C 4 [(4, .int (sI (a252 + 1))), (0, .ref (ad 98)), (1, .int (sI a106)), (2, .int (sI a206)), (3, .int (sI a207))] dX12_laysEndingRow_73 rfl (by decide) rfl ?_
              refine j_goto C 23 dX12_laysEndingRow_76 (by decide) ?_
              refine j_lv [1, 2, 3, 4, 0] rfl ?_; exact ih250 (a252 + 1) (by omega)
            · refine j_iload_n C 2 2 dX12_laysEndingRow_34 rfl rfl ?_
              refine y_i2l C dX12_laysEndingRow_35 (by omega) ?_
              refine j_aload_n C 0 0 dX12_laysEndingRow_36 rfl rfl ?_
              refine j_iload_n C 2 2 dX12_laysEndingRow_37 rfl rfl ?_
              refine j_iload C 4 dX12_laysEndingRow_38 rfl ?_
              refine j_callVi C (d := 0) (As := [.int (sI a206), .int (sI a252)]) (st := [.long (sJ a206)]) 98 (s_lt rfl rfl) (s_kc (c := 11) rfl rfl) (by decide) rfl (s1_X12_boughtBy hM208 a206 (by omega) a252 (by omega) (by omega) (by omega)) gX12_laysEndingRow_X12_boughtBy rfl hdX12_boughtBy (by decide) (Nat.le_of_ble_eq_true rfl) dX12_laysEndingRow_40 rfl (fun r265 M266 h267 => ?_)
              obtain ⟨a269, rfl, rfl, h268⟩ := h267
              obtain rfl : a269 = ((M208.1 106 (6 * a206 + a252).toNat).toInt) := by omega
              refine j_callSi C (d := 0) (As := [.long (sJ a206), .int (sI ((M208.1 106 (6 * a206 + a252).toNat).toInt))]) (st := []) (s1_X12_isIn hM208 a206 (by omega) ((M208.1 106 (6 * a206 + a252).toNat).toInt) (by omega)) gX12_laysEndingRow_X12_isIn rfl hdX12_isIns (by decide) (Nat.le_of_ble_eq_true rfl) dX12_laysEndingRow_43 rfl (fun r270 M271 h272 => ?_)
              obtain ⟨a274, rfl, rfl, h273⟩ := h272
              obtain rfl : a274 = (iiF a206 ((M208.1 106 (6 * a206 + a252).toNat).toInt)) := by omega
              refine y_if_ne C 73 dX12_laysEndingRow_46 (by decide) (by omega) (fun h275 => ?_) (fun h275 => ?_)
              · have u276 := wt_s (M := M208) (s := a206) (b := a252) (v := a106 - a207) (T := (M208.1 106 (6 * a206 + a252).toNat).toInt) (by omega) rfl (by omega)
                refine y_iinc C 4 [(4, .int (sI (a252 + 1))), (0, .ref (ad 98)), (1, .int (sI a106)), (2, .int (sI a206)), (3, .int (sI a207))] dX12_laysEndingRow_73 rfl (by decide) rfl ?_
                refine j_goto C 23 dX12_laysEndingRow_76 (by decide) ?_
                refine j_lv [1, 2, 3, 4, 0] rfl ?_; exact ih250 (a252 + 1) (by omega)
              · refine j_aload_n C 0 0 dX12_laysEndingRow_49 rfl rfl ?_
                refine y_getC C 11 107 fX12_laysEndingRow_42 rfl rfl ft_11_20 sm_11_20 rfl hM208 dX12_laysEndingRow_50 ?_
                refine j_iload_n C 2 2 dX12_laysEndingRow_53 rfl rfl ?_
                refine y_iconst C dX12_laysEndingRow_54 ?_
                refine j_aload_n C 0 0 dX12_laysEndingRow_55 rfl rfl ?_
                refine j_iload_n C 2 2 dX12_laysEndingRow_56 rfl rfl ?_
                refine j_iload C 4 dX12_laysEndingRow_57 rfl ?_
                refine j_callVi C (d := 0) (As := [.int (sI a206), .int (sI a252)]) (st := [.int (sI 1), .int (sI a206), .ref (ad 107)]) 98 (s_lt rfl rfl) (s_kc (c := 11) rfl rfl) (by decide) rfl (s1_X12_boughtBy hM208 a206 (by omega) a252 (by omega) (by omega) (by omega)) gX12_laysEndingRow_X12_boughtBy rfl hdX12_boughtBy (by decide) (Nat.le_of_ble_eq_true rfl) dX12_laysEndingRow_59 rfl (fun r278 M279 h280 => ?_)
                obtain ⟨a282, rfl, rfl, h281⟩ := h280
                obtain rfl : a282 = ((M208.1 106 (6 * a206 + a252).toNat).toInt) := by omega
                refine e_shl1 C 7 128 dX12_laysEndingRow_62 rfl (by decide) (by omega) (fun lb283 ub283 => ?_)
                refine e_iorN C 8 255 dX12_laysEndingRow_63 rfl (by decide) (by omega) (fun lb284 ub284 ob284 => ?_)
                refine y_iald C 53 256 _ _ rfl rfl rfl ak_53 an_53 rfl (sb_53 _) hM208 dX12_laysEndingRow_64 (by omega) (fun a285 ea285 la285 ua285 => ?_)
                obtain rfl : a285 = (M208.1 107 ((orI a206 (pw2 ((M208.1 106 (6 * a206 + a252).toNat).toInt)))).toNat).toInt := ea285
                refine j_iload_n C 1 1 dX12_laysEndingRow_65 rfl rfl ?_
                refine j_iload_n C 3 3 dX12_laysEndingRow_66 rfl rfl ?_
                refine y_isub C dX12_laysEndingRow_67 ?_
                refine y_iconst C dX12_laysEndingRow_68 ?_
                refine y_isub C dX12_laysEndingRow_69 ?_
                refine y_icmp_eq C 79 dX12_laysEndingRow_70 (by decide) (by omega) (fun h286 => ?_) (fun h286 => ?_)
                · have u289e := ev_or (M := M208) (s := a206) (b := a252) (k := (M208.1 106 (6 * a206 + a252).toNat).toInt) (by omega) rfl (by omega)
                  have u289c : a252 = nbS (M0.1 99) a206 (a106 - a207 - 1) 6 0 := by omega
                  have u289r := ro_s (f := (M0.1 99)) (m := a106) (i := a207) (i' := a207 + 1) (s := a206) (b := a252) (by omega) (by omega) u289c
                  have u289p : orI a206 (pw2 (M208.1 106 (6 * a206 + a252).toNat).toInt) = roS (M0.1 99) a106 (a207 + 1).toNat := by rw [show (M208.1 106 (6 * a206 + a252).toNat).toInt = (boF (M0.1 99) a252 a206) by omega]; exact u289r.2
                  have u289q := u289r.1
                  refine j_aload_n C 0 0 dX12_laysEndingRow_79 rfl rfl ?_
                  refine y_getC C 11 108 fX12_laysEndingRow_45 rfl rfl ft_11_21 sm_11_21 rfl hM208 dX12_laysEndingRow_80 ?_
                  refine j_iload_n C 3 3 dX12_laysEndingRow_83 rfl rfl ?_
                  refine j_iload C 4 dX12_laysEndingRow_84 rfl ?_
                  refine y_iast C 54 256 _ _ rfl rfl rfl ak_54 an_54 rfl (sb_54 _) hM208 (PM.w hpr rfl rfl) dX12_laysEndingRow_86 (by omega) (by omega) (fun M290 eM290 hM290 => ?_)
                  have pM290 := pi_o eM290 (by decide) (by decide) (by omega)
                  have u291l := le_c (M := M208) (N := M290) (s := -1) (wI_cell eM290 (by decide)) (wI_cell eM290 (by decide)) (wI_cell eM290 (by decide)) (by omega)
                  have u291b := lb_c (M := M208) (N := M290) (wI_cell eM290 (by decide)) (wI_cell eM290 (by decide)) (by omega)
                  refine j_iload_n C 2 2 dX12_laysEndingRow_87 rfl rfl ?_
                  refine y_iconst C dX12_laysEndingRow_88 ?_
                  refine j_aload_n C 0 0 dX12_laysEndingRow_89 rfl rfl ?_
                  refine j_iload_n C 2 2 dX12_laysEndingRow_90 rfl rfl ?_
                  refine j_iload C 4 dX12_laysEndingRow_91 rfl ?_
                  refine j_callVi C (d := 0) (As := [.int (sI a206), .int (sI a252)]) (st := [.int (sI 1), .int (sI a206)]) 98 (s_lt rfl rfl) (s_kc (c := 11) rfl rfl) (by decide) rfl (s1_X12_boughtBy hM290 a206 (by omega) a252 (by omega) (by omega) (by omega)) gX12_laysEndingRow_X12_boughtBy rfl hdX12_boughtBy (by decide) (Nat.le_of_ble_eq_true rfl) dX12_laysEndingRow_93 rfl (fun r292 M293 h294 => ?_)
                  obtain ⟨a296, rfl, rfl, h295⟩ := h294
                  rw [show M290.1 106 = M208.1 106 from (wI_cell eM290 (by decide))] at h295
                  obtain rfl : a296 = ((M208.1 106 (6 * a206 + a252).toNat).toInt) := by omega
                  refine e_shl1 C 7 128 dX12_laysEndingRow_96 rfl (by decide) (by omega) (fun lb297 ub297 => ?_)
                  refine e_iorN C 8 255 dX12_laysEndingRow_97 rfl (by decide) (by omega) (fun lb298 ub298 ob298 => ?_)
                  refine j_istore_n C 2 [(2, .int (sI (orI a206 (pw2 ((M208.1 106 (6 * a206 + a252).toNat).toInt))))), (0, .ref (ad 98)), (1, .int (sI a106)), (3, .int (sI a207)), (4, .int (sI a252))] dX12_laysEndingRow_98 rfl (by decide) rfl ?_
                  have u299s : (M290.1 107 ((orI a206 (pw2 ((M208.1 106 (6 * a206 + a252).toNat).toInt)))).toNat).toInt = (M208.1 107 ((orI a206 (pw2 ((M208.1 106 (6 * a206 + a252).toNat).toInt)))).toNat).toInt := by rw [wI_cell eM290 (by decide)]
                  have u299t : orI a206 (pw2 (M290.1 106 (6 * a206 + a252).toNat).toInt) = orI a206 (pw2 (M208.1 106 (6 * a206 + a252).toNat).toInt) := by rw [show M290.1 106 = M208.1 106 from wI_cell eM290 (by decide)]
                  refine y_iinc C 3 [(3, .int (sI (a207 + 1))), (2, .int (sI (orI a206 (pw2 ((M208.1 106 (6 * a206 + a252).toNat).toInt))))), (0, .ref (ad 98)), (1, .int (sI a106)), (4, .int (sI a252))] dX12_laysEndingRow_99 rfl (by decide) rfl ?_
                  refine j_goto C 15 dX12_laysEndingRow_102 (by decide) ?_
                  have u300e := er_s (M := M208) (N := M290) (f := (M0.1 99)) (m := a106) (n := a207) (n' := a207 + 1) (v := a252) (by omega) eM290 (by omega)
                  have u300d := dq_c (M := M208) (N := M290) (f := (M0.1 99)) (a := -1) (s := -1) (wI_cell eM290 (by decide)) (by omega)
                  have u300l := lf_c (M := M208) (N := M290) (f := (M0.1 99)) (wI_cell eM290 (by decide)) (by omega)
                  refine j_lv [2, 3, 1, 0] rfl ?_; exact ih204 (orI a206 (pw2 ((M208.1 106 (6 * a206 + a252).toNat).toInt))) (a207 + 1) M290 (by omega) hM290 ((FR.rf.tr fM208 (by decide)).wI eM290 (by decide))
                · have u287 := wt_s (M := M208) (s := a206) (b := a252) (v := a106 - a207) (T := (M208.1 106 (6 * a206 + a252).toNat).toInt) (by omega) rfl (by omega)
                  refine y_iinc C 4 [(4, .int (sI (a252 + 1))), (0, .ref (ad 98)), (1, .int (sI a106)), (2, .int (sI a206)), (3, .int (sI a207))] dX12_laysEndingRow_73 rfl (by decide) rfl ?_
                  refine j_goto C 23 dX12_laysEndingRow_76 (by decide) ?_
                  refine j_lv [1, 2, 3, 4, 0] rfl ?_; exact ih250 (a252 + 1) (by omega)
        refine j_lv [1, 2, 3, 4, 0] rfl ?_; exact L251 2010 0 (by omega)
  refine j_lv [3, 2, 1, 0] rfl ?_; exact L205 2010 (M0.1 99 27).toInt 0 M103 (by omega) hM103 (FR.rf.tr fM103 (by decide))

set_option maxHeartbeats 4000000 in
theorem tt_s1_X12_endingBy {l : Launch} {dC : Nat → ClassId} {dI : Nat → Nat → Nat} {ad : Nat → Nat} {cA : Nat → ClassId} {pr : Nat → Nat → Bool} {Kz : mm_M} {M0 : mm_M} (hM0 : INV pr Kz M0) (hpr : PM pr) (hcw : CWK pr Kz) (a1 : Int) (ha1 : -2147483648 ≤ a1 ∧ a1 ≤ 2147483647) (hp0 : b01 (PI M0) = 1) : Ci l 7 yX12_endingBy wsX12_endingBy dC dI ad cA [.ref (ad 98), .int (sI a1)] M0 (fun r M' => ∃ a : Int, r = sI a ∧ INV pr Kz M' ∧ FR [98, 103, 104, 106, 107, 108] M0 M' ∧ (-3) ≤ a ∧ a ≤ 5 ∧ (a = ebA (M0.1 99) a1) ∧ (b01 (PI M') = 1)) := by
  refine ci_of (cc := cX12_endingBy) (maxL := 3) (ty := .int) (lv := [(0, .ref (ad 98)), (1, .int (sI a1))]) (by decide) rfl (fun r M' hp => rfl) (Nat.le_of_ble_eq_true rfl) rfl ?_
  intro p e s m args below meth c A Q C hret
  refine j_aload_n C 0 0 dX12_endingBy_0 rfl rfl ?_
  refine y_iconst C dX12_endingBy_1 ?_
  refine y_putIF C 11 qX12_endingBy_1 rfl rfl ft_11_0 sb_11_0 hM0 (PM.w hpr rfl rfl) dX12_endingBy_2 (fun M101 eM101 hM101 => ?_)
  have pM101 := pi_o eM101 (by decide) (by decide) (by omega)
  refine j_iload_n C 1 1 dX12_endingBy_5 rfl rfl ?_
  refine y_if_ge C 12 dX12_endingBy_6 (by decide) (by omega) (fun h102 => ?_) (fun h102 => ?_)
  · refine j_aload_n C 0 0 dX12_endingBy_12 rfl rfl ?_
    refine j_callVi C (d := 6) (As := []) (st := []) 98 (s_lt rfl rfl) (s_kc (c := 11) rfl rfl) (by decide) rfl (tt_s1_X12_laysEndingRow hM101 hpr hcw (by omega)) gX12_endingBy_X12_laysEndingRow rfl hdX12_laysEndingRow (by decide) (Nat.le_of_ble_eq_true rfl) dX12_endingBy_13 rfl (fun r103 M104 h105 => ?_)
    obtain ⟨a107, rfl, hM104, fM104, h106⟩ := h105
    refine j_istore_n C 2 [(2, .int (sI a107)), (0, .ref (ad 98)), (1, .int (sI a1))] dX12_endingBy_16 rfl (by decide) rfl ?_
    refine j_iload_n C 2 1 dX12_endingBy_17 rfl rfl ?_
    refine j_iload_n C 0 2 dX12_endingBy_18 rfl rfl ?_
    refine y_icmp_ge C 31 dX12_endingBy_19 (by decide) (by omega) (fun h109 => ?_) (fun h109 => ?_)
    · refine y_iconst C dX12_endingBy_31 ?_
      have u110s := ebA_s (M0.1 99) a1
      have u110c : enF (M101.1 99) (-1) = enF (M0.1 99) (-1) := by rw [((wI_cell eM101 (by decide)))]
      have u110r : ¬ (0 ≤ a1 ∧ a1 < enF (M0.1 99) (-1)) ∨ (M104.1 108 (a1).toNat).toInt = roB (M0.1 99) (enF (M0.1 99) (-1)) (a1).toNat := by
        by_cases c : 0 ≤ a1 ∧ a1 < enF (M0.1 99) (-1)
        · refine Or.inr ?_
          have z := b01_e (P := ERW M104 (M101.1 99) a107 a107) (by omega) (a1).toNat (by omega)
          rw [show a107 = enF (M0.1 99) (-1) by omega, ((wI_cell eM101 (by decide)))] at z
          exact z
        · exact Or.inl c
      exact hret _ _ _ _ dX12_endingBy_32 ⟨(-1), rfl, hM104, ((FR.rf.wI eM101 (by decide)).tr fM104 (by decide)), by omega⟩
    · refine j_aload_n C 1 0 dX12_endingBy_22 rfl rfl ?_
      refine y_getC C 11 108 fX12_endingBy_45 rfl rfl ft_11_21 sm_11_21 rfl hM104 dX12_endingBy_23 ?_
      refine j_iload_n C 2 1 dX12_endingBy_26 rfl rfl ?_
      refine y_iald C 54 256 _ _ rfl rfl rfl ak_54 an_54 rfl (sb_54 _) hM104 dX12_endingBy_27 (by omega) (fun a111 ea111 la111 ua111 => ?_)
      obtain rfl : a111 = (M104.1 108 (a1).toNat).toInt := ea111
      refine j_goto C 32 dX12_endingBy_28 (by decide) ?_
      have u112s := ebA_s (M0.1 99) a1
      have u112c : enF (M101.1 99) (-1) = enF (M0.1 99) (-1) := by rw [((wI_cell eM101 (by decide)))]
      have u112r : ¬ (0 ≤ a1 ∧ a1 < enF (M0.1 99) (-1)) ∨ (M104.1 108 (a1).toNat).toInt = roB (M0.1 99) (enF (M0.1 99) (-1)) (a1).toNat := by
        by_cases c : 0 ≤ a1 ∧ a1 < enF (M0.1 99) (-1)
        · refine Or.inr ?_
          have z := b01_e (P := ERW M104 (M101.1 99) a107 a107) (by omega) (a1).toNat (by omega)
          rw [show a107 = enF (M0.1 99) (-1) by omega, ((wI_cell eM101 (by decide)))] at z
          exact z
        · exact Or.inl c
      exact hret _ _ _ _ dX12_endingBy_32 ⟨(M104.1 108 (a1).toNat).toInt, rfl, hM104, ((FR.rf.wI eM101 (by decide)).tr fM104 (by decide)), by omega⟩
  · refine y_bipush C dX12_endingBy_9 rfl ?_
    have u113s := ebA_s (M0.1 99) a1
    exact hret _ _ _ _ dX12_endingBy_11 ⟨(-3), rfl, hM101, (FR.rf.wI eM101 (by decide)), by omega⟩

set_option maxHeartbeats 4000000 in
theorem tt_s1_X12_lists {l : Launch} {dC : Nat → ClassId} {dI : Nat → Nat → Nat} {ad : Nat → Nat} {cA : Nat → ClassId} {pr : Nat → Nat → Bool} {Kz : mm_M} {M0 : mm_M} (hM0 : INV pr Kz M0) (hpr : PM pr) (hcw : CWK pr Kz) (a1 : Int) (ha1 : -2147483648 ≤ a1 ∧ a1 ≤ 2147483647) (hp0 : b01 (PI M0) = 1) : Ci l 7 yX12_lists wsX12_lists dC dI ad cA [.ref (ad 98), .int (sI a1)] M0 (fun r M' => ∃ a : Int, r = sI a ∧ INV pr Kz M' ∧ FR [98, 103, 104, 106, 107, 108, 117] M0 M' ∧ (-6) ≤ a ∧ a ≤ 40 ∧ (a = lsA (ntA M0 a1) (enF (M0.1 99) (-1)) (M0.1 116 (a1).toNat).toInt) ∧ (0 ≤ a ∧ b01 (M'.2.1 117 = lsJ (M0.1 99) (M0.2.1 117) (40 * a1).toNat (a).toNat) = 1 ∨ a < 0 ∧ b01 (M'.2.1 117 = M0.2.1 117) = 1) ∧ (b01 (PI M') = 1)) := by
  refine ci_of (cc := cX12_lists) (maxL := 6) (ty := .int) (lv := [(0, .ref (ad 98)), (1, .int (sI a1))]) (by decide) rfl (fun r M' hp => rfl) (Nat.le_of_ble_eq_true rfl) rfl ?_
  intro p e s m args below meth c A Q C hret
  refine j_aload_n C 0 0 dX12_lists_0 rfl rfl ?_
  refine y_iconst C dX12_lists_1 ?_
  refine y_putIF C 11 qX12_lists_1 rfl rfl ft_11_0 sb_11_0 hM0 (PM.w hpr rfl rfl) dX12_lists_2 (fun M101 eM101 hM101 => ?_)
  have pM101 := pi_o eM101 (by decide) (by decide) (by omega)
  refine j_aload_n C 0 0 dX12_lists_5 rfl rfl ?_
  refine j_iload_n C 1 1 dX12_lists_6 rfl rfl ?_
  refine j_callVi C (d := 1) (As := [.int (sI a1)]) (st := []) 98 (s_lt rfl rfl) (s_kc (c := 11) rfl rfl) (by decide) rfl (s1_X12_noTray hM101 a1 (by omega)) gX12_lists_X12_noTray rfl hdX12_noTray (by decide) (Nat.le_of_ble_eq_true rfl) dX12_lists_7 rfl (fun r102 M103 h104 => ?_)
  obtain ⟨a106, rfl, rfl, h105⟩ := h104
  refine j_istore_n C 2 [(2, .int (sI a106)), (0, .ref (ad 98)), (1, .int (sI a1))] dX12_lists_10 rfl (by decide) rfl ?_
  refine j_iload_n C 0 2 dX12_lists_11 rfl rfl ?_
  refine y_if_eq C 17 dX12_lists_12 (by decide) (by omega) (fun h108 => ?_) (fun h108 => ?_)
  · refine j_aload_n C 1 0 dX12_lists_17 rfl rfl ?_
    refine j_callVi C (d := 6) (As := []) (st := []) 98 (s_lt rfl rfl) (s_kc (c := 11) rfl rfl) (by decide) rfl (tt_s1_X12_laysEndingRow hM101 hpr hcw (by omega)) gX12_lists_X12_laysEndingRow rfl hdX12_laysEndingRow (by decide) (Nat.le_of_ble_eq_true rfl) dX12_lists_18 rfl (fun r109 M110 h111 => ?_)
    obtain ⟨a113, rfl, hM110, fM110, h112⟩ := h111
    have u114c : enF (M101.1 99) (-1) = enF (M0.1 99) (-1) := by rw [((wI_cell eM101 (by decide)))]
    have u114e : b01 (ERW M110 (M0.1 99) a113 a113) = 1 := by rw [show (M0.1 99) = M101.1 99 from ((wI_cell eM101 (by decide))).symm]; omega
    have u114t : (M110.1 116 (a1).toNat).toInt = (M0.1 116 (a1).toNat).toInt := by rw [(((FR.cell fM110 (by decide)).trans (wI_cell eM101 (by decide))))]
    refine j_istore_n C 3 [(3, .int (sI a113)), (2, .int (sI a106)), (0, .ref (ad 98)), (1, .int (sI a1))] dX12_lists_21 rfl (by decide) rfl ?_
    refine j_iload_n C 0 3 dX12_lists_22 rfl rfl ?_
    refine y_iconst C dX12_lists_23 ?_
    refine y_icmp_ne C 30 dX12_lists_24 (by decide) (by omega) (fun h115 => ?_) (fun h115 => ?_)
    · refine j_iload_n C 0 3 dX12_lists_30 rfl rfl ?_
      refine j_aload_n C 2 0 dX12_lists_31 rfl rfl ?_
      refine y_getC C 11 116 fX12_lists_70 rfl rfl ft_11_30 sm_11_30 rfl hM110 dX12_lists_32 ?_
      refine j_iload_n C 3 1 dX12_lists_35 rfl rfl ?_
      refine y_iald C 62 4 _ _ rfl rfl rfl ak_62 an_62 rfl (sb_62 _) hM110 dX12_lists_36 (by omega) (fun a116 ea116 la116 ua116 => ?_)
      obtain rfl : a116 = (M0.1 116 (a1).toNat).toInt := s_fa eM101 (by decide) (s_fF fM110 (by decide) (ea116))
      refine y_icmp_ge C 44 dX12_lists_37 (by decide) (by omega) (fun h117 => ?_) (fun h117 => ?_)
      · refine j_aload_n C 2 0 dX12_lists_44 rfl rfl ?_
        refine y_getC C 11 116 fX12_lists_70 rfl rfl ft_11_30 sm_11_30 rfl hM110 dX12_lists_45 ?_
        refine j_iload_n C 3 1 dX12_lists_48 rfl rfl ?_
        refine y_iald C 62 4 _ _ rfl rfl rfl ak_62 an_62 rfl (sb_62 _) hM110 dX12_lists_49 (by omega) (fun a118 ea118 la118 ua118 => ?_)
        obtain rfl : a118 = (M0.1 116 (a1).toNat).toInt := s_fa eM101 (by decide) (s_fF fM110 (by decide) (ea118))
        refine j_istore C 4 [(4, .int (sI (M0.1 116 (a1).toNat).toInt)), (3, .int (sI a113)), (2, .int (sI a106)), (0, .ref (ad 98)), (1, .int (sI a1))] dX12_lists_50 (by decide) rfl ?_
        refine y_iconst C dX12_lists_52 ?_
        refine j_istore C 5 [(5, .int (sI 0)), (4, .int (sI (M0.1 116 (a1).toNat).toInt)), (3, .int (sI a113)), (2, .int (sI a106)), (0, .ref (ad 98)), (1, .int (sI a1))] dX12_lists_53 (by decide) rfl ?_
        have u119z := ls_0 (M0.1 99) (M0.2.1 117) (40 * a1).toNat
        have u119y : b01 (M110.2.1 117 = lsJ (M0.1 99) (M0.2.1 117) (40 * a1).toNat (0 : Int).toNat) = 1 := b01_i ((((FR.cellJ fM110 (by decide)).trans (wI_J eM101 117))).trans (b01_e u119z))
        have u119e : b01 (ERW M110 (M0.1 99) (enF (M0.1 99) (-1)) (M0.1 116 (a1).toNat).toInt) = 1 := b01_i (fun i hi => by have z := b01_e (P := ERW M110 (M0.1 99) a113 a113) (by omega) i (by omega); rw [show a113 = enF (M0.1 99) (-1) by omega] at z; exact z)
        have L129 : ∀ (n127 : Nat), ∀ (a130 : Int) (M131 : mm_M), (0 ≤ a130 ∧ a130 ≤ 40 ∧ (b01 (M131.2.1 117 = lsJ (M0.1 99) (M0.2.1 117) (40 * a1).toNat (a130).toNat) = 1) ∧ (b01 (ERW M131 (M0.1 99) (enF (M0.1 99) (-1)) (M0.1 116 (a1).toNat).toInt) = 1) ∧ (a130 ≤ (M0.1 116 (a1).toNat).toInt) ∧ (0 ≤ (M0.1 116 (a1).toNat).toInt ∧ (M0.1 116 (a1).toNat).toInt ≤ 40) ∧ (b01 (PI M131) = 1) ∧ (40 - a130) < (n127 : Int)) → INV pr Kz M131 → FR [98, 103, 104, 106, 107, 108, 117] M0 M131 → jj p l e (cn_R 7) s m args below meth c 0 0 Q 6 dC dI ad cA A M131 55 [(0, .ref (ad 98)), (1, .int (sI a1)), (4, .int (sI (M0.1 116 (a1).toNat).toInt)), (5, .int (sI a130))] [] := by
          intro n127
          induction n127 with
          | zero =>
            intro a130 M131 h132 hM131 fM131
            exfalso; omega
          | succ n127 ih128 =>
            intro a130 M131 h132 hM131 fM131
            have u133g : (M0.1 116 (a1).toNat).toInt ≤ a130 ∨ (M131.1 108 (a130).toNat).toInt = roB (M0.1 99) (enF (M0.1 99) (-1)) (a130).toNat := by
              by_cases c : a130 < (M0.1 116 (a1).toNat).toInt
              · exact Or.inr (b01_e (P := ERW M131 (M0.1 99) (enF (M0.1 99) (-1)) (M0.1 116 (a1).toNat).toInt) (by omega) (a130).toNat (by omega))
              · exact Or.inl (by omega)
            refine j_iload C 3 dX12_lists_55 rfl ?_
            refine j_iload C 2 dX12_lists_57 rfl ?_
            refine y_icmp_ge C 88 dX12_lists_59 (by decide) (by omega) (fun h134 => ?_) (fun h134 => ?_)
            · refine j_iload C 2 dX12_lists_88 rfl ?_
              have u138s := lsA_s (ntA M0 a1) (enF (M0.1 99) (-1)) (M0.1 116 (a1).toNat).toInt
              have u138n : ntA M101 a1 = ntA M0 a1 := by unfold ntA; rw [((wI_cell eM101 (by decide)))]
              have u138x : a130 = (M0.1 116 (a1).toNat).toInt := by omega
              have u138y : b01 (M131.2.1 117 = lsJ (M0.1 99) (M0.2.1 117) (40 * a1).toNat ((M0.1 116 (a1).toNat).toInt).toNat) = 1 := by rw [← u138x]; omega
              exact hret _ _ _ _ dX12_lists_90 ⟨(M0.1 116 (a1).toNat).toInt, rfl, hM131, (FR.rf.tr fM131 (by decide)), by omega⟩
            · refine j_aload_n C 0 0 dX12_lists_62 rfl rfl ?_
              refine y_getC C 11 117 fX12_lists_73 rfl rfl ft_11_31 sm_11_31 rfl hM131 dX12_lists_63 ?_
              refine y_bipush C dX12_lists_66 rfl ?_
              refine j_iload_n C 1 1 dX12_lists_68 rfl rfl ?_
              refine y_imul C dX12_lists_69 ?_
              refine j_iload C 3 dX12_lists_70 rfl ?_
              refine y_iadd C dX12_lists_72 ?_
              refine j_aload_n C 0 0 dX12_lists_73 rfl rfl ?_
              refine y_getC C 11 108 fX12_lists_45 rfl rfl ft_11_21 sm_11_21 rfl hM131 dX12_lists_74 ?_
              refine j_iload C 3 dX12_lists_77 rfl ?_
              refine y_iald C 54 256 _ _ rfl rfl rfl ak_54 an_54 rfl (sb_54 _) hM131 dX12_lists_79 (by omega) (fun a135 ea135 la135 ua135 => ?_)
              obtain rfl : a135 = (M131.1 108 (a130).toNat).toInt := ea135
              refine y_i2l C dX12_lists_80 (by omega) ?_
              refine y_last C 63 160 rfl rfl rfl ak_63 an_63 rfl hM131 (PM.w hpr rfl rfl) dX12_lists_81 (by omega) (fun M136 eM136 hM136 => ?_)
              have pM136 := pi_J eM136 (by omega)
              refine y_iinc C 3 [(5, .int (sI (a130 + 1))), (0, .ref (ad 98)), (1, .int (sI a1)), (4, .int (sI (M0.1 116 (a1).toNat).toInt))] dX12_lists_82 rfl (by decide) rfl ?_
              refine j_goto C 55 dX12_lists_85 (by decide) ?_
              have u137z := ls_s (M := M131) (N := M136) (f := (M0.1 99)) (g := M0.2.1 117) (a := (40 * a1).toNat) (x := a130) (x' := (a130 + 1)) (v := (M131.1 108 (a130).toNat).toInt) (by omega) eM136 (by omega)
              have u137e : b01 (ERW M136 (M0.1 99) (enF (M0.1 99) (-1)) (M0.1 116 (a1).toNat).toInt) = 1 := by unfold ERW; rw [show M136.1 108 = M131.1 108 from wJ_cell eM136]; exact b01_i (b01_e (P := ERW M131 (M0.1 99) (enF (M0.1 99) (-1)) (M0.1 116 (a1).toNat).toInt) (by omega))
              refine j_lv [1, 2, 3, 0] rfl ?_; exact ih128 (a130 + 1) M136 (by omega) hM136 ((FR.rf.tr fM131 (by decide)).wJ eM136 (by decide))
        refine j_lv [4, 5, 1, 0] rfl ?_; exact L129 2010 0 M110 (by omega) hM110 ((FR.rf.wI eM101 (by decide)).tr fM110 (by decide))
      · refine j_iload_n C 0 3 dX12_lists_40 rfl rfl ?_
        refine j_goto C 50 dX12_lists_41 (by decide) ?_
        refine j_istore C 4 [(4, .int (sI a113)), (3, .int (sI a113)), (2, .int (sI a106)), (0, .ref (ad 98)), (1, .int (sI a1))] dX12_lists_50 (by decide) rfl ?_
        refine y_iconst C dX12_lists_52 ?_
        refine j_istore C 5 [(5, .int (sI 0)), (4, .int (sI a113)), (3, .int (sI a113)), (2, .int (sI a106)), (0, .ref (ad 98)), (1, .int (sI a1))] dX12_lists_53 (by decide) rfl ?_
        have u139z := ls_0 (M0.1 99) (M0.2.1 117) (40 * a1).toNat
        have u139y : b01 (M110.2.1 117 = lsJ (M0.1 99) (M0.2.1 117) (40 * a1).toNat (0 : Int).toNat) = 1 := b01_i ((((FR.cellJ fM110 (by decide)).trans (wI_J eM101 117))).trans (b01_e u139z))
        have u139e : b01 (ERW M110 (M0.1 99) (enF (M0.1 99) (-1)) a113) = 1 := b01_i (fun i hi => by have z := b01_e (P := ERW M110 (M0.1 99) a113 a113) (by omega) i (by omega); rw [show a113 = enF (M0.1 99) (-1) by omega] at z; exact z)
        have L149 : ∀ (n147 : Nat), ∀ (a150 : Int) (M151 : mm_M), (0 ≤ a150 ∧ a150 ≤ 40 ∧ (b01 (M151.2.1 117 = lsJ (M0.1 99) (M0.2.1 117) (40 * a1).toNat (a150).toNat) = 1) ∧ (b01 (ERW M151 (M0.1 99) (enF (M0.1 99) (-1)) a113) = 1) ∧ (a150 ≤ a113) ∧ (0 ≤ a113 ∧ a113 ≤ 40) ∧ (b01 (PI M151) = 1) ∧ (40 - a150) < (n147 : Int)) → INV pr Kz M151 → FR [98, 103, 104, 106, 107, 108, 117] M0 M151 → jj p l e (cn_R 7) s m args below meth c 0 0 Q 6 dC dI ad cA A M151 55 [(0, .ref (ad 98)), (1, .int (sI a1)), (4, .int (sI a113)), (5, .int (sI a150))] [] := by
          intro n147
          induction n147 with
          | zero =>
            intro a150 M151 h152 hM151 fM151
            exfalso; omega
          | succ n147 ih148 =>
            intro a150 M151 h152 hM151 fM151
            have u153g : a113 ≤ a150 ∨ (M151.1 108 (a150).toNat).toInt = roB (M0.1 99) (enF (M0.1 99) (-1)) (a150).toNat := by
              by_cases c : a150 < a113
              · exact Or.inr (b01_e (P := ERW M151 (M0.1 99) (enF (M0.1 99) (-1)) a113) (by omega) (a150).toNat (by omega))
              · exact Or.inl (by omega)
            refine j_iload C 3 dX12_lists_55 rfl ?_
            refine j_iload C 2 dX12_lists_57 rfl ?_
            refine y_icmp_ge C 88 dX12_lists_59 (by decide) (by omega) (fun h154 => ?_) (fun h154 => ?_)
            · refine j_iload C 2 dX12_lists_88 rfl ?_
              have u158s := lsA_s (ntA M0 a1) (enF (M0.1 99) (-1)) (M0.1 116 (a1).toNat).toInt
              have u158n : ntA M101 a1 = ntA M0 a1 := by unfold ntA; rw [((wI_cell eM101 (by decide)))]
              have u158x : a150 = a113 := by omega
              have u158y : b01 (M151.2.1 117 = lsJ (M0.1 99) (M0.2.1 117) (40 * a1).toNat (a113).toNat) = 1 := by rw [← u158x]; omega
              exact hret _ _ _ _ dX12_lists_90 ⟨a113, rfl, hM151, (FR.rf.tr fM151 (by decide)), by omega⟩
            · refine j_aload_n C 0 0 dX12_lists_62 rfl rfl ?_
              refine y_getC C 11 117 fX12_lists_73 rfl rfl ft_11_31 sm_11_31 rfl hM151 dX12_lists_63 ?_
              refine y_bipush C dX12_lists_66 rfl ?_
              refine j_iload_n C 1 1 dX12_lists_68 rfl rfl ?_
              refine y_imul C dX12_lists_69 ?_
              refine j_iload C 3 dX12_lists_70 rfl ?_
              refine y_iadd C dX12_lists_72 ?_
              refine j_aload_n C 0 0 dX12_lists_73 rfl rfl ?_
              refine y_getC C 11 108 fX12_lists_45 rfl rfl ft_11_21 sm_11_21 rfl hM151 dX12_lists_74 ?_
              refine j_iload C 3 dX12_lists_77 rfl ?_
              refine y_iald C 54 256 _ _ rfl rfl rfl ak_54 an_54 rfl (sb_54 _) hM151 dX12_lists_79 (by omega) (fun a155 ea155 la155 ua155 => ?_)
              obtain rfl : a155 = (M151.1 108 (a150).toNat).toInt := ea155
              refine y_i2l C dX12_lists_80 (by omega) ?_
              refine y_last C 63 160 rfl rfl rfl ak_63 an_63 rfl hM151 (PM.w hpr rfl rfl) dX12_lists_81 (by omega) (fun M156 eM156 hM156 => ?_)
              have pM156 := pi_J eM156 (by omega)
              refine y_iinc C 3 [(5, .int (sI (a150 + 1))), (0, .ref (ad 98)), (1, .int (sI a1)), (4, .int (sI a113))] dX12_lists_82 rfl (by decide) rfl ?_
              refine j_goto C 55 dX12_lists_85 (by decide) ?_
              have u157z := ls_s (M := M151) (N := M156) (f := (M0.1 99)) (g := M0.2.1 117) (a := (40 * a1).toNat) (x := a150) (x' := (a150 + 1)) (v := (M151.1 108 (a150).toNat).toInt) (by omega) eM156 (by omega)
              have u157e : b01 (ERW M156 (M0.1 99) (enF (M0.1 99) (-1)) a113) = 1 := by unfold ERW; rw [show M156.1 108 = M151.1 108 from wJ_cell eM156]; exact b01_i (b01_e (P := ERW M151 (M0.1 99) (enF (M0.1 99) (-1)) a113) (by omega))
              refine j_lv [1, 2, 3, 0] rfl ?_; exact ih148 (a150 + 1) M156 (by omega) hM156 ((FR.rf.tr fM151 (by decide)).wJ eM156 (by decide))
        refine j_lv [4, 5, 1, 0] rfl ?_; exact L149 2010 0 M110 (by omega) hM110 ((FR.rf.wI eM101 (by decide)).tr fM110 (by decide))
    · refine y_bipush C dX12_lists_27 rfl ?_
      have u159s := lsA_s (ntA M0 a1) (enF (M0.1 99) (-1)) (M0.1 116 (a1).toNat).toInt
      have u159j : b01 (M110.2.1 117 = M0.2.1 117) = 1 := b01_i ((FR.cellJ fM110 (by decide)).trans (wI_J eM101 117))
      have u159n : ntA M101 a1 = ntA M0 a1 := by unfold ntA; rw [((wI_cell eM101 (by decide)))]
      exact hret _ _ _ _ dX12_lists_29 ⟨(-5), rfl, hM110, ((FR.rf.wI eM101 (by decide)).tr fM110 (by decide)), by omega⟩
  · refine j_iload_n C 0 2 dX12_lists_15 rfl rfl ?_
    have u160s := lsA_s (ntA M0 a1) (enF (M0.1 99) (-1)) (M0.1 116 (a1).toNat).toInt
    have u160j : b01 (M101.2.1 117 = M0.2.1 117) = 1 := b01_i (wI_J eM101 117)
    have u160n : ntA M101 a1 = ntA M0 a1 := by unfold ntA; rw [((wI_cell eM101 (by decide)))]
    exact hret _ _ _ _ dX12_lists_16 ⟨a106, rfl, hM101, (FR.rf.wI eM101 (by decide)), by omega⟩
