set_option maxHeartbeats 4000000 in
theorem s1_X12_boughtBy {l : Launch} {dC : Nat → ClassId} {dI : Nat → Nat → Nat} {ad : Nat → Nat} {cA : Nat → ClassId} {pr : Nat → Nat → Bool} {Kz : mm_M} {M0 : mm_M} (hM0 : INV pr Kz M0) (a1 : Int) (ha1 : -2147483648 ≤ a1 ∧ a1 ≤ 2147483647) (a2 : Int) (ha2 : -2147483648 ≤ a2 ∧ a2 ≤ 2147483647) (hp0 : 0 ≤ a1 ∧ a1 ≤ 255) (hp1 : 0 ≤ a2 ∧ a2 ≤ 5) : Ci l 0 yX12_boughtBy wsX12_boughtBy dC dI ad cA [.ref (ad 98), .int (sI a1), .int (sI a2)] M0 (fun r M' => ∃ a : Int, r = sI a ∧ M0 = M' ∧ (-1) ≤ a ∧ a ≤ 7 ∧ (a = ((M0.1 106 (6 * a1 + a2).toNat).toInt))) := by
  refine ci_of (cc := cX12_boughtBy) (maxL := 3) (ty := .int) (lv := [(0, .ref (ad 98)), (1, .int (sI a1)), (2, .int (sI a2))]) (by decide) rfl (fun r M' hp => rfl) (Nat.le_of_ble_eq_true rfl) rfl ?_
  intro p e s m args below meth c A Q C hret
  refine j_aload_n C 0 0 dX12_boughtBy_0 rfl rfl ?_
  refine y_getC C 11 106 fX12_boughtBy_39 rfl rfl ft_11_19 sm_11_19 rfl hM0 dX12_boughtBy_1 ?_
  refine y_bipush C dX12_boughtBy_4 rfl ?_
  refine j_iload_n C 1 1 dX12_boughtBy_6 rfl rfl ?_
  refine y_imul C dX12_boughtBy_7 ?_
  refine j_iload_n C 2 2 dX12_boughtBy_8 rfl rfl ?_
  refine y_iadd C dX12_boughtBy_9 ?_
  refine y_iald C 52 1536 _ _ rfl rfl rfl ak_52 an_52 rfl (sb_52 _) hM0 dX12_boughtBy_10 (by omega) (fun a101 ea101 la101 ua101 => ?_)
  obtain rfl : a101 = (M0.1 106 (((6 * a1) + a2)).toNat).toInt := ea101
  exact hret _ _ _ _ dX12_boughtBy_11 ⟨(M0.1 106 (((6 * a1) + a2)).toNat).toInt, rfl, rfl, by omega⟩
set_option maxHeartbeats 4000000 in
theorem s1_X12_laysEnding {l : Launch} {dC : Nat → ClassId} {dI : Nat → Nat → Nat} {ad : Nat → Nat} {cA : Nat → ClassId} {pr : Nat → Nat → Bool} {Kz : mm_M} {M0 : mm_M} (hM0 : INV pr Kz M0) (hpr : PM pr) (a1 : Int) (ha1 : -2147483648 ≤ a1 ∧ a1 ≤ 2147483647) (hp0 : b01 (lbP M0) = 1) (hp1 : b01 (LBF M0 (M0.1 99)) = 1) (hp2 : b01 (PI M0) = 1) : Ci l 3 yX12_laysEnding wsX12_laysEnding dC dI ad cA [.ref (ad 98), .int (sI a1)] M0 (fun r M' => ∃ a : Int, r = sI a ∧ INV pr Kz M' ∧ FR [107] M0 M' ∧ (-1) ≤ a ∧ a ≤ 255 ∧ (b01 (leQ M' (-1)) = 1) ∧ (b01 (lbP M') = 1) ∧ (a = -1 ∨ a = (M'.1 107 (M'.1 99 27).toInt.toNat).toInt ∧ a < 268435456) ∧ (b01 (LBF M' (M0.1 99)) = 1) ∧ (b01 (EDQ M' (M0.1 99) a1 (-1)) = 1) ∧ (a = enF (M0.1 99) a1) ∧ (b01 (PI M') = 1)) := by
  refine ci_of (cc := cX12_laysEnding) (maxL := 7) (ty := .int) (lv := [(0, .ref (ad 98)), (1, .int (sI a1))]) (by decide) rfl (fun r M' hp => rfl) (Nat.le_of_ble_eq_true rfl) rfl ?_
  intro p e s m args below meth c A Q C hret
  have u101r26 := INV.rd hM0 (i := 99) (c := 45) (k := 26) rfl rfl
  have u101r1 := INV.rd hM0 (i := 99) (c := 45) (k := 1) rfl rfl
  have u101r27 := INV.rd hM0 (i := 99) (c := 45) (k := 27) rfl rfl
  refine j_aload_n C 0 0 dX12_laysEnding_0 rfl rfl ?_
  refine j_callVi C (d := 0) (As := []) (st := []) 98 (s_lt rfl rfl) (s_kc (c := 11) rfl rfl) (by decide) rfl (s1_X12_everyKind hM0) gX12_laysEnding_X12_everyKind rfl hdX12_everyKind (by decide) (Nat.le_of_ble_eq_true rfl) dX12_laysEnding_1 rfl (fun r102 M103 h104 => ?_)
  obtain ⟨a106, rfl, rfl, h105⟩ := h104
  obtain rfl : a106 = (evF (M0.1 99)) := by exact h105.2.2
  refine j_istore_n C 2 [(2, .int (sI (evF (M0.1 99)))), (0, .ref (ad 98)), (1, .int (sI a1))] dX12_laysEnding_4 rfl (by decide) rfl ?_
  have u107 := le_0 M0 (evF (M0.1 99)) (by omega)
  have u107d := dq_0 M0 (M0.1 99) a1 (evF (M0.1 99)) (by omega)
  have L186 : ∀ (n184 : Nat), ∀ (a187 : Int) (M188 : mm_M), ((-1) ≤ a187 ∧ a187 ≤ 255 ∧ (b01 (leQ M188 a187) = 1) ∧ (a187 ≤ evF (M0.1 99)) ∧ (b01 (EDQ M188 (M0.1 99) a1 a187) = 1) ∧ (b01 (PI M188) = 1) ∧ (a187 - (-1)) < (n184 : Int)) → INV pr Kz M188 → FR [107] M0 M188 → jj p l e (cn_R 3) s m args below meth c 0 0 Q 7 dC dI ad cA A M188 5 [(0, .ref (ad 98)), (1, .int (sI a1)), (2, .int (sI a187))] [] := by
    intro n184
    induction n184 with
    | zero =>
      intro a187 M188 h189 hM188 fM188
      exfalso; omega
    | succ n184 ih185 =>
      intro a187 M188 h189 hM188 fM188
      refine j_iload_n C 2 2 dX12_laysEnding_5 rfl rfl ?_
      refine y_if_lt C 124 dX12_laysEnding_6 (by decide) (by (clear fM188 hM188 ih185 u107d u107 h105 u101r27 u101r1 u101r26 hret C hp2 hp1 hp0 ha1 hpr hM0; omega)) (fun h190 => ?_) (fun h190 => ?_)
      · obtain rfl : a187 = -1 := by (clear fM188 hM188 ih185 u107d u107 h105 u101r27 u101r1 u101r26 hret C hp2 hp1 hp0 ha1 hpr hM0; omega)
        have u264A : evF (M188.1 99) = evF (M0.1 99) := by rw [(show M188.1 99 = M0.1 99 from (FR.cell fM188 (by decide)))]
        have u264B : (M188.1 99 1).toInt = (M0.1 99 1).toInt := by rw [(show M188.1 99 = M0.1 99 from (FR.cell fM188 (by decide)))]
        have u264C : (M188.1 99 26).toInt = (M0.1 99 26).toInt := by rw [(show M188.1 99 = M0.1 99 from (FR.cell fM188 (by decide)))]
        have u264D : (M188.1 99 27).toInt = (M0.1 99 27).toInt := by rw [(show M188.1 99 = M0.1 99 from (FR.cell fM188 (by decide)))]
        have u264p := pi_27 (M := M0) (by exact hp2)
        have u264g := le_g (M := M188) (by exact h189.2.2.1) (M0.1 99 27).toInt (by exact ⟨u101r27.1, (by (clear u264C u264B h190 h189 fM188 hM188 ih185 u107d u107 h105 u101r1 u101r26 hret C hp2 hp1 hp0 ha1 hpr hM0; omega))⟩)
        have u264h := eo_b u264g (by exact u101r27.1)
        have u264l := lb_c (M := M0) (N := M188) (show M188.1 99 = M0.1 99 from (FR.cell fM188 (by decide))) (show M188.1 106 = M0.1 106 from (FR.cell fM188 (by decide))) (by exact hp0)
        have u264z : (M188.1 107 (M188.1 99 27).toInt.toNat).toInt = (M188.1 107 (M0.1 99 27).toInt.toNat).toInt := by rw [(show M188.1 99 = M0.1 99 from (FR.cell fM188 (by decide)))]
        have u264q := dq_g (M := M188) (f := (M0.1 99)) (a := a1) (s := -1) (by exact h189.2.2.2.2.1) (M0.1 99 27).toInt (by exact ⟨(by (clear u264z u264l u264h u264g u264C u264B h190 h189 fM188 hM188 ih185 u107d u107 h105 u101r1 u101r26 hret C hp2 hp1 hp0 ha1 hpr hM0; omega)), ⟨u101r27.1, u264p⟩⟩)
        have u264f := lf_c (M := M0) (N := M188) (f := (M0.1 99)) (show M188.1 106 = M0.1 106 from (FR.cell fM188 (by decide))) (by exact hp1)
        refine j_aload_n C 0 0 dX12_laysEnding_124 rfl rfl ?_
        refine y_getC C 11 107 fX12_laysEnding_42 rfl rfl ft_11_20 sm_11_20 rfl hM188 dX12_laysEnding_125 ?_
        refine j_aload_n C 0 0 dX12_laysEnding_128 rfl rfl ?_
        refine y_getC C 11 99 fX12_laysEnding_13 rfl rfl ft_11_1 sm_11_1 rfl hM188 dX12_laysEnding_129 ?_
        refine y_bipush C dX12_laysEnding_132 rfl ?_
        refine y_ialdH C 45 3543 rfl rfl rfl ak_45 an_45 rfl _ _ hM188 (hr_45_27_27 _ (by exact (by decide)) (by exact (by decide))) dX12_laysEnding_134 (by exact ⟨(by decide), (by decide)⟩) (fun a265 ea265 la265 ua265 => ?_)
        obtain rfl : a265 = (M0.1 99 27).toInt := s_fF fM188 (by decide) (ea265)
        refine y_iald C 53 256 _ _ rfl rfl rfl ak_53 an_53 rfl (sb_53 _) hM188 dX12_laysEnding_135 (by exact ⟨u101r27.1, (by (clear ua265 la265 u264f u264q u264z u264l u264h u264g u264p u264C u264B u264A h190 h189 fM188 hM188 ih185 u107d u107 h105 u101r1 u101r26 hret C hp2 hp1 hp0 ha1 hpr hM0; omega))⟩) (fun a266 ea266 la266 ua266 => ?_)
        obtain rfl : a266 = (M188.1 107 ((M0.1 99 27).toInt).toNat).toInt := ea266
        refine y_ldcw C 268435456 dX12_laysEnding_136 kX12_laysEnding_341 rfl ?_
        refine y_icmp_lt C 146 dX12_laysEnding_139 (by decide) (by exact ⟨⟨(by (clear ua266 la266 ua265 la265 ea265 u264f u264l u264g u264p u264D u264C u264B u264A h190 h189 fM188 hM188 ih185 u107d u107 h105 u101r27 u101r1 u101r26 hret C hp2 hp1 hp0 ha1 hpr hM0; omega)), (by (clear ua266 la266 ua265 la265 ea265 u264f u264l u264g u264p u264D u264C u264B u264A h190 h189 fM188 hM188 ih185 u107d u107 h105 u101r27 u101r1 u101r26 hret C hp2 hp1 hp0 ha1 hpr hM0; omega))⟩, ⟨(by decide), (by decide)⟩⟩) (fun h267 => ?_) (fun h267 => ?_)
        · refine j_aload_n C 0 0 dX12_laysEnding_146 rfl rfl ?_
          refine y_getC C 11 107 fX12_laysEnding_42 rfl rfl ft_11_20 sm_11_20 rfl hM188 dX12_laysEnding_147 ?_
          refine j_aload_n C 0 0 dX12_laysEnding_150 rfl rfl ?_
          refine y_getC C 11 99 fX12_laysEnding_13 rfl rfl ft_11_1 sm_11_1 rfl hM188 dX12_laysEnding_151 ?_
          refine y_bipush C dX12_laysEnding_154 rfl ?_
          refine y_ialdH C 45 3543 rfl rfl rfl ak_45 an_45 rfl _ _ hM188 (hr_45_27_27 _ (by exact (by decide)) (by exact (by decide))) dX12_laysEnding_156 (by exact ⟨(by decide), (by decide)⟩) (fun a268 ea268 la268 ua268 => ?_)
          obtain rfl : a268 = (M0.1 99 27).toInt := s_fF fM188 (by decide) (ea268)
          refine y_iald C 53 256 _ _ rfl rfl rfl ak_53 an_53 rfl (sb_53 _) hM188 dX12_laysEnding_157 (by exact ⟨u101r27.1, (by omega)⟩) (fun a269 ea269 la269 ua269 => ?_)
          obtain rfl : a269 = (M188.1 107 ((M0.1 99 27).toInt).toNat).toInt := ea269
          have u270n := enF_s (M0.1 99) a1
          have zz99_27 : (M188.1 99 27).toInt = (M0.1 99 27).toInt := s_fF fM188 (by decide) (rfl); exact hret _ _ _ _ dX12_laysEnding_158 ⟨(M188.1 107 ((M0.1 99 27).toInt).toNat).toInt, rfl, hM188, (FR.rf.tr fM188 (by decide)), by exact ⟨(by (clear zz99_27 ua269 la269 ua268 la268 ea268 ua266 la266 ua265 la265 u264g u264p u264C u264B u264A h190 fM188 hM188 ih185 u107d u107 h105 u101r1 u101r26 hret C hp2 hp1 hp0 ha1 hpr hM0; omega)), ⟨(by (clear zz99_27 ua269 la269 ua268 la268 ea268 ua266 la266 ua265 la265 u264g u264p u264C u264B u264A h190 fM188 hM188 ih185 u107d u107 h105 u101r1 u101r26 hret C hp2 hp1 hp0 ha1 hpr hM0; omega)), ⟨h189.2.2.1, ⟨u264l, ⟨(by (clear zz99_27 ua269 la269 ua268 la268 ea268 ua266 la266 ua265 la265 u264g u264p u264C u264B u264A h190 fM188 hM188 ih185 u107d u107 h105 u101r1 u101r26 hret C hp2 hp1 hp0 ha1 hpr hM0; omega)), ⟨u264f, ⟨h189.2.2.2.2.1, ⟨(by (clear zz99_27 ua269 la269 ua268 la268 ea268 ua266 la266 ua265 la265 u264g u264p u264C u264B u264A h190 fM188 hM188 ih185 u107d u107 h105 u101r1 u101r26 hret C hp2 hp1 hp0 ha1 hpr hM0; omega)), h189.2.2.2.2.2.1⟩⟩⟩⟩⟩⟩⟩⟩⟩
        · refine y_iconst C dX12_laysEnding_142 ?_
          refine j_goto C 158 dX12_laysEnding_143 (by decide) ?_
          have u271n := enF_s (M0.1 99) a1
          have zz99_27 : (M188.1 99 27).toInt = (M0.1 99 27).toInt := s_fF fM188 (by decide) (rfl); exact hret _ _ _ _ dX12_laysEnding_158 ⟨(-1), rfl, hM188, (FR.rf.tr fM188 (by decide)), by exact ⟨h189.1, ⟨h189.2.1, ⟨h189.2.2.1, ⟨u264l, ⟨(by (clear zz99_27 ua266 la266 ua265 la265 ea265 u264g u264p u264D u264C u264B u264A h190 fM188 hM188 ih185 u107d u107 h105 u101r27 u101r1 u101r26 hret C hp2 hp1 hp0 ha1 hpr hM0; omega)), ⟨u264f, ⟨h189.2.2.2.2.1, ⟨(by (clear zz99_27 ua266 la266 ua265 la265 ea265 u264g u264p u264D u264C u264B u264A h190 fM188 hM188 ih185 u107d u107 h105 u101r27 u101r1 u101r26 hret C hp2 hp1 hp0 ha1 hpr hM0; omega)), h189.2.2.2.2.2.1⟩⟩⟩⟩⟩⟩⟩⟩⟩
      · refine j_aload_n C 0 0 dX12_laysEnding_9 rfl rfl ?_
        refine j_iload_n C 2 2 dX12_laysEnding_10 rfl rfl ?_
        refine j_callVi C (d := 2) (As := [.int (sI a187)]) (st := []) 98 (s_lt rfl rfl) (s_kc (c := 11) rfl rfl) (by decide) rfl (s1_X12_isShutBy hM188 a187 (by omega)) gX12_laysEnding_X12_isShutBy rfl hdX12_isShutBy (by decide) (Nat.le_of_ble_eq_true rfl) dX12_laysEnding_11 rfl (fun r191 M192 h193 => ?_)
        obtain ⟨a195, rfl, rfl, h194⟩ := h193
        rw [show M188.1 99 = M0.1 99 from (FR.cell fM188 (by decide))] at h194
        obtain rfl : a195 = (shF (M0.1 99) a187) := by exact h194.2.2
        have J200 : ∀ (a199 : Int), (0 ≤ a199 ∧ a199 ≤ 268435456 ∧ (b01 (eoP M188 a187 a199) = 1) ∧ (a199 = edE (edF (M0.1 99) a1) (M0.1 99) a1 a187 (0 : Int).toNat)) → jj p l e (cn_R 3) s m args below meth c 0 0 Q 7 dC dI ad cA A M188 24 [(0, .ref (ad 98)), (1, .int (sI a1)), (2, .int (sI a187))] [.int (sI a199)] := by
          intro a199 h201
          refine j_istore_n C 3 [(3, .int (sI a199)), (0, .ref (ad 98)), (1, .int (sI a1)), (2, .int (sI a187))] dX12_laysEnding_24 rfl (by decide) rfl ?_
          refine y_iconst C dX12_laysEnding_25 ?_
          refine j_istore C 4 [(4, .int (sI 0)), (3, .int (sI a199)), (0, .ref (ad 98)), (1, .int (sI a1)), (2, .int (sI a187))] dX12_laysEnding_26 (by decide) rfl ?_
          have L231 : ∀ (n229 : Nat), ∀ (a232 : Int) (a233 : Int), (0 ≤ a232 ∧ a232 ≤ 268435456 ∧ 0 ≤ a233 ∧ a233 ≤ 6 ∧ (b01 (eoP M188 a187 a232) = 1) ∧ (a232 = edE (edF (M0.1 99) a1) (M0.1 99) a1 a187 (a233).toNat) ∧ (a233 ≤ (M0.1 99 1).toInt) ∧ (6 - a233) < (n229 : Int)) → jj p l e (cn_R 3) s m args below meth c 0 0 Q 7 dC dI ad cA A M188 28 [(0, .ref (ad 98)), (1, .int (sI a1)), (2, .int (sI a187)), (3, .int (sI a232)), (4, .int (sI a233))] [] := by
            intro n229
            induction n229 with
            | zero =>
              intro a232 a233 h234
              exfalso; omega
            | succ n229 ih230 =>
              intro a232 a233 h234
              refine j_iload C 4 dX12_laysEnding_28 rfl ?_
              refine j_aload_n C 0 0 dX12_laysEnding_30 rfl rfl ?_
              refine y_getC C 11 99 fX12_laysEnding_13 rfl rfl ft_11_1 sm_11_1 rfl hM188 dX12_laysEnding_31 ?_
              refine y_iconst C dX12_laysEnding_34 ?_
              refine y_ialdH C 45 3543 rfl rfl rfl ak_45 an_45 rfl _ _ hM188 (hr_45_1_1 _ (by exact (by decide)) (by exact (by decide))) dX12_laysEnding_35 (by exact ⟨(by decide), (by decide)⟩) (fun a235 ea235 la235 ua235 => ?_)
              obtain rfl : a235 = (M0.1 99 1).toInt := s_fF fM188 (by decide) (ea235)
              refine y_icmp_ge C 111 dX12_laysEnding_36 (by decide) (by (clear ua235 la235 ih230 h201 h194 h190 fM188 hM188 h189 ih185 u107d u107 h105 u101r27 u101r26 hret C hp2 hp1 hp0 ha1 hpr hM0; omega)) (fun h236 => ?_) (fun h236 => ?_)
              · have u260x : a233 = (M0.1 99 1).toInt := by (clear ua235 la235 ih230 h201 h194 h190 fM188 hM188 h189 ih185 u107d u107 h105 u101r27 u101r1 u101r26 hret C hp2 hp1 hp0 ha1 hpr hM0; omega)
                have u260y : edE (edF (M0.1 99) a1) (M0.1 99) a1 a187 (a233).toNat = edE (edF (M0.1 99) a1) (M0.1 99) a1 a187 (M0.1 99 1).toInt.toNat := by rw [u260x]
                have u260b := evF_b (f := (M0.1 99)) (by exact ⟨u101r26.1, u101r26.2⟩)
                have u260z := edF_e (f := (M0.1 99)) (a := a1) (s := a187) (by exact ⟨u101r26.1, u101r26.2⟩) (by exact ⟨(by (clear u260b u260y u260x h236 ua235 la235 ea235 h234 ih230 h201 h194 fM188 hM188 ih185 u107d u107 h105 u101r27 u101r1 u101r26 hret C hp2 hp1 hp0 ha1 hpr hM0; omega)), h189.2.1⟩)
                refine j_aload_n C 0 0 dX12_laysEnding_111 rfl rfl ?_
                refine y_getC C 11 107 fX12_laysEnding_42 rfl rfl ft_11_20 sm_11_20 rfl hM188 dX12_laysEnding_112 ?_
                refine j_iload_n C 2 2 dX12_laysEnding_115 rfl rfl ?_
                refine j_iload_n C 3 3 dX12_laysEnding_116 rfl rfl ?_
                refine y_iast C 53 256 _ _ rfl rfl rfl ak_53 an_53 rfl (sb_53 _) hM188 (PM.w hpr rfl rfl) dX12_laysEnding_117 (by (clear u260z u260b u260y u260x h236 ua235 la235 ea235 h234 ih230 h201 h194 fM188 hM188 ih185 u107d u107 h105 u101r27 u101r1 u101r26 hret C hp2 hp1 hp0 ha1 hpr hM0; omega)) (by exact ⟨⟨(by (clear u260b u260x h236 ua235 la235 ea235 ih230 h201 h194 h190 fM188 hM188 h189 ih185 u107d u107 h105 u101r27 u101r1 u101r26 hret C hp2 hp1 hp0 ha1 hpr hM0; omega)), (by (clear u260b u260x h236 ua235 la235 ea235 ih230 h201 h194 h190 fM188 hM188 h189 ih185 u107d u107 h105 u101r27 u101r1 u101r26 hret C hp2 hp1 hp0 ha1 hpr hM0; omega))⟩, ⟨h234.1, h234.2.1⟩⟩) (fun M261 eM261 hM261 => ?_)
                have pM261 := pi_o eM261 (by decide) (by decide) (by exact h189.2.2.2.2.2.1)
                have u262 := le_s (s := a187) (v := a232) eM261 (by exact h189.2.2.1) (by exact h234.2.2.2.2.1) (by (clear pM261 hM261 eM261 u260b u260x h236 ua235 la235 ea235 ih230 h201 h194 fM188 hM188 ih185 u107d u107 h105 u101r27 u101r1 u101r26 hret C hp2 hp1 hp0 ha1 hpr hM0; omega))
                have u262d := dq_s (f := (M0.1 99)) (a := a1) (s := a187) (v := a232) eM261 (by exact h189.2.2.2.2.1) (by (clear u262 pM261 hM261 eM261 u260b u260x h236 ua235 la235 ea235 ih230 h201 h194 fM188 hM188 ih185 u107d u107 h105 u101r27 u101r1 u101r26 hret C hp2 hp1 hp0 ha1 hpr hM0; omega))
                refine y_iinc C 2 [(2, .int (sI (a187 + (-1)))), (0, .ref (ad 98)), (1, .int (sI a1)), (3, .int (sI a232)), (4, .int (sI a233))] dX12_laysEnding_118 rfl (by decide) rfl ?_
                refine j_goto C 5 dX12_laysEnding_121 (by decide) ?_
                refine j_lv [1, 2, 0] rfl ?_; exact ih185 (a187 + (-1)) M261 (by exact ⟨(by (clear hM261 eM261 u260z u260b u260y u260x h236 ua235 la235 ea235 h234 ih230 h201 h194 fM188 hM188 ih185 u107d u107 h105 u101r27 u101r1 u101r26 hret C hp2 hp1 hp0 ha1 hpr hM0; omega)), ⟨(by (clear hM261 eM261 u260z u260b u260y u260x h236 ua235 la235 ea235 h234 ih230 h201 h194 fM188 hM188 ih185 u107d u107 h105 u101r27 u101r1 u101r26 hret C hp2 hp1 hp0 ha1 hpr hM0; omega)), ⟨u262, ⟨(by (clear hM261 eM261 u260z u260b u260y u260x h236 ua235 la235 ea235 h234 ih230 h201 h194 fM188 hM188 ih185 u107d u107 h105 u101r27 u101r1 u101r26 hret C hp2 hp1 hp0 ha1 hpr hM0; omega)), ⟨u262d, ⟨pM261, (by (clear hM261 eM261 u260z u260b u260y u260x h236 ua235 la235 ea235 h234 ih230 h201 h194 fM188 hM188 ih185 u107d u107 h105 u101r27 u101r1 u101r26 hret C hp2 hp1 hp0 ha1 hpr hM0; omega))⟩⟩⟩⟩⟩⟩) hM261 ((FR.rf.tr fM188 (by decide)).wI eM261 (by decide))
              · have u237q := edE_s (f := (M0.1 99)) (a := a1) (s := a187) (b := a233) (b' := a233 + 1) (v := a232) (edF (M0.1 99) a1) (by (clear h236 ua235 la235 ea235 ih230 h201 h194 h190 fM188 hM188 h189 ih185 u107d u107 h105 u101r27 u101r1 u101r26 hret C hp2 hp1 hp0 ha1 hpr hM0; omega)) (by exact h234.2.2.2.2.2.1)
                have u237l := lf_g (M := M0) (f := (M0.1 99)) (by exact hp1) (s := a187) (b := a233) (by exact ⟨(by (clear u237q ua235 la235 ih230 h201 h194 fM188 hM188 ih185 u107d u107 h105 u101r27 u101r1 u101r26 hret C hp2 hp1 hp0 ha1 hpr hM0; omega)), ⟨h189.2.2.2.1, ⟨h234.2.2.1, (by (clear u237q ua235 la235 ih230 h201 h194 fM188 hM188 ih185 u107d u107 h105 u101r27 u101r1 u101r26 hret C hp2 hp1 hp0 ha1 hpr hM0; omega))⟩⟩⟩)
                have u237v := bo_ev (f := (M0.1 99)) (b := a233) (s := a187) (by exact ⟨u101r26.1, u101r26.2⟩) (by exact ⟨(by (clear u237l u237q h236 ua235 la235 ea235 h234 ih230 h201 h194 fM188 hM188 ih185 u107d u107 h105 u101r27 u101r1 u101r26 hret C hp2 hp1 hp0 ha1 hpr hM0; omega)), h189.2.2.2.1⟩)
                refine j_iload C 4 dX12_laysEnding_39 rfl ?_
                refine j_iload_n C 1 1 dX12_laysEnding_41 rfl rfl ?_
                refine y_icmp_ne C 49 dX12_laysEnding_42 (by decide) (by exact ⟨⟨(by (clear u237v u237l u237q h236 ua235 la235 ea235 ih230 h201 h194 h190 fM188 hM188 h189 ih185 u107d u107 h105 u101r27 u101r1 u101r26 hret C hp2 hp1 hp0 hpr hM0; omega)), (by (clear u237v u237l u237q h236 ua235 la235 ea235 ih230 h201 h194 h190 fM188 hM188 h189 ih185 u107d u107 h105 u101r27 u101r1 u101r26 hret C hp2 hp1 hp0 hpr hM0; omega))⟩, ⟨ha1.1, ha1.2⟩⟩) (fun h238 => ?_) (fun h238 => ?_)
                · refine j_aload_n C 0 0 dX12_laysEnding_49 rfl rfl ?_
                  refine j_iload_n C 2 2 dX12_laysEnding_50 rfl rfl ?_
                  refine j_iload C 4 dX12_laysEnding_51 rfl ?_
                  refine j_callVi C (d := 0) (As := [.int (sI a187), .int (sI a233)]) (st := []) 98 (s_lt rfl rfl) (s_kc (c := 11) rfl rfl) (by decide) rfl (s1_X12_boughtBy hM188 a187 (by (clear h238 u237v u237l u237q h236 ua235 la235 ea235 h234 ih230 h201 h194 fM188 hM188 ih185 u107d u107 h105 u101r27 u101r1 u101r26 hret C hp2 hp1 hp0 ha1 hpr hM0; omega)) a233 (by (clear h238 u237v u237l u237q h236 ua235 la235 ea235 ih230 h201 h194 h190 fM188 hM188 h189 ih185 u107d u107 h105 u101r27 u101r1 u101r26 hret C hp2 hp1 hp0 ha1 hpr hM0; omega)) (by exact ⟨(by omega), h189.2.1⟩) (by exact ⟨h234.2.2.1, (by (clear h238 u237v u237l u237q ua235 la235 ih230 h201 h194 h190 fM188 hM188 h189 ih185 u107d u107 h105 u101r27 u101r26 hret C hp2 hp1 hp0 ha1 hpr hM0; omega))⟩)) gX12_laysEnding_X12_boughtBy rfl hdX12_boughtBy (by decide) (Nat.le_of_ble_eq_true rfl) dX12_laysEnding_53 rfl (fun r239 M240 h241 => ?_)
                  obtain ⟨a243, rfl, rfl, h242⟩ := h241
                  rw [show M188.1 106 = M0.1 106 from (FR.cell fM188 (by decide))] at h242
                  obtain rfl : a243 = ((M0.1 106 (6 * a187 + a233).toNat).toInt) := by exact h242.2.2
                  refine j_istore C 5 [(5, .int (sI ((M0.1 106 (6 * a187 + a233).toNat).toInt))), (0, .ref (ad 98)), (1, .int (sI a1)), (2, .int (sI a187)), (3, .int (sI a232)), (4, .int (sI a233))] dX12_laysEnding_56 (by decide) rfl ?_
                  have u244l : ((M0.1 106 (6 * a187 + a233).toNat).toInt) = (boF (M0.1 99) a233 a187) := by exact u237l
                  have u244i : iiF a187 ((M0.1 106 (6 * a187 + a233).toNat).toInt) = iiF a187 (boF (M0.1 99) a233 a187) := by rw [u244l]
                  have u244o : orI a187 (pw2 ((M0.1 106 (6 * a187 + a233).toNat).toInt)) = orI a187 (pw2 (boF (M0.1 99) a233 a187)) := by rw [u244l]
                  have u244d : edF (M0.1 99) a1 (orI a187 (pw2 ((M0.1 106 (6 * a187 + a233).toNat).toInt))) = edF (M0.1 99) a1 (orI a187 (pw2 (boF (M0.1 99) a233 a187))) := by rw [u244l]
                  refine j_iload C 0 dX12_laysEnding_58 rfl ?_
                  refine y_iconst C dX12_laysEnding_60 ?_
                  refine y_icmp_eq C 105 dX12_laysEnding_61 (by decide) (by exact ⟨⟨(by (clear u244d u244o u244i u244l h238 u237q h236 ua235 la235 ea235 h234 ih230 h201 h194 h190 fM188 hM188 h189 ih185 u107d u107 h105 u101r27 u101r1 u101r26 hret C hp2 hp1 hp0 ha1 hpr hM0; omega)), (by (clear u244d u244o u244i u244l h238 u237q h236 ua235 la235 ea235 h234 ih230 h201 h194 h190 fM188 hM188 h189 ih185 u107d u107 h105 u101r27 u101r1 u101r26 hret C hp2 hp1 hp0 ha1 hpr hM0; omega))⟩, ⟨(by decide), (by decide)⟩⟩) (fun h245 => ?_) (fun h245 => ?_)
                  · refine y_iinc C 5 [(4, .int (sI (a233 + 1))), (5, .int (sI ((M0.1 106 (6 * a187 + a233).toNat).toInt))), (0, .ref (ad 98)), (1, .int (sI a1)), (2, .int (sI a187)), (3, .int (sI a232))] dX12_laysEnding_105 rfl (by decide) rfl ?_
                    refine j_goto C 28 dX12_laysEnding_108 (by decide) ?_
                    refine j_lv [2, 3, 4, 5, 0] rfl ?_; exact ih230 a232 (a233 + 1) (by exact ⟨h234.1, ⟨h234.2.1, ⟨(by (clear u244d u244o u244i u244l h242 ua235 la235 ih230 h201 h194 h190 fM188 hM188 h189 ih185 u107d u107 h105 u101r27 u101r26 hret C hp2 hp1 hp0 ha1 hpr hM0; omega)), ⟨(by (clear u244d u244o u244i u244l h242 ua235 la235 ih230 h201 h194 h190 fM188 hM188 h189 ih185 u107d u107 h105 u101r27 u101r26 hret C hp2 hp1 hp0 ha1 hpr hM0; omega)), ⟨h234.2.2.2.2.1, ⟨(by (clear u244d u244o u244i u244l h242 ua235 la235 ih230 h201 h194 h190 fM188 hM188 h189 ih185 u107d u107 h105 u101r27 u101r26 hret C hp2 hp1 hp0 ha1 hpr hM0; omega)), ⟨(by (clear u244d u244o u244i u244l h242 ua235 la235 ih230 h201 h194 h190 fM188 hM188 h189 ih185 u107d u107 h105 u101r27 u101r26 hret C hp2 hp1 hp0 ha1 hpr hM0; omega)), (by (clear u244d u244o u244i u244l h242 ua235 la235 ih230 h201 h194 h190 fM188 hM188 h189 ih185 u107d u107 h105 u101r27 u101r26 hret C hp2 hp1 hp0 ha1 hpr hM0; omega))⟩⟩⟩⟩⟩⟩⟩)
                  · refine j_iload_n C 3 2 dX12_laysEnding_64 rfl rfl ?_
                    refine y_i2l C dX12_laysEnding_65 (by omega) ?_
                    refine j_iload C 0 dX12_laysEnding_66 rfl ?_
                    refine j_callSi C (d := 0) (As := [.long (sJ a187), .int (sI ((M0.1 106 (6 * a187 + a233).toNat).toInt))]) (st := []) (s1_X12_isIn hM188 a187 (by (clear h245 u244d u244o u244i u244l h242 h238 u237v u237l u237q h236 ua235 la235 ea235 h234 ih230 h201 h194 fM188 hM188 ih185 u107d u107 h105 u101r27 u101r1 u101r26 hret C hp2 hp1 hp0 ha1 hpr hM0; omega)) ((M0.1 106 (6 * a187 + a233).toNat).toInt) (by (clear h245 u244d u244o u244i u244l h238 u237q h236 ua235 la235 ea235 h234 ih230 h201 h194 h190 fM188 hM188 h189 ih185 u107d u107 h105 u101r27 u101r1 u101r26 hret C hp2 hp1 hp0 ha1 hpr hM0; omega))) gX12_laysEnding_X12_isIn rfl hdX12_isIns (by decide) (Nat.le_of_ble_eq_true rfl) dX12_laysEnding_68 rfl (fun r246 M247 h248 => ?_)
                    obtain ⟨a250, rfl, rfl, h249⟩ := h248
                    obtain rfl : a250 = (iiF a187 ((M0.1 106 (6 * a187 + a233).toNat).toInt)) := by exact h249.2.2
                    refine y_if_eq C 77 dX12_laysEnding_71 (by decide) (by (clear h245 u244d u244o u244l h242 h238 u237v u237l u237q h236 ua235 la235 ea235 h234 ih230 h201 h194 h190 fM188 hM188 h189 ih185 u107d u107 h105 u101r27 u101r1 u101r26 hret C hp2 hp1 hp0 ha1 hpr hM0; omega)) (fun h251 => ?_) (fun h251 => ?_)
                    · refine j_aload_n C 1 0 dX12_laysEnding_77 rfl rfl ?_
                      refine y_getC C 11 107 fX12_laysEnding_42 rfl rfl ft_11_20 sm_11_20 rfl hM188 dX12_laysEnding_78 ?_
                      refine j_iload_n C 3 2 dX12_laysEnding_81 rfl rfl ?_
                      refine y_iconst C dX12_laysEnding_82 ?_
                      refine j_iload C 0 dX12_laysEnding_83 rfl ?_
                      refine e_shl1 C 7 128 dX12_laysEnding_85 rfl (by decide) (by (clear h251 h249 u244d u244o u244i u244l h238 u237q h236 ua235 la235 ea235 h234 ih230 h201 h194 h190 fM188 hM188 h189 ih185 u107d u107 h105 u101r27 u101r1 u101r26 hret C hp2 hp1 hp0 ha1 hpr hM0; omega)) (fun lb252 ub252 => ?_)
                      refine e_iorN C 8 255 dX12_laysEnding_86 rfl (by decide) (by exact ⟨(by (clear h251 h249 h245 u244d u244o u244i u244l h242 h238 u237v u237l u237q h236 ua235 la235 ea235 h234 ih230 h201 h194 fM188 hM188 ih185 u107d u107 h105 u101r27 u101r1 u101r26 hret C hp2 hp1 hp0 ha1 hpr hM0; omega)), ⟨h189.2.1, ⟨(by (clear h251 h249 h245 u244d u244o u244i u244l h242 h238 u237v u237l u237q h236 ua235 la235 ea235 h234 ih230 h201 h194 fM188 hM188 ih185 u107d u107 h105 u101r27 u101r1 u101r26 hret C hp2 hp1 hp0 ha1 hpr hM0; omega)), (by (clear h251 h249 h245 u244d u244o u244i u244l h242 h238 u237v u237l u237q h236 ua235 la235 ea235 h234 ih230 h201 h194 fM188 hM188 ih185 u107d u107 h105 u101r27 u101r1 u101r26 hret C hp2 hp1 hp0 ha1 hpr hM0; omega))⟩⟩⟩) (fun lb253 ub253 ob253 => ?_)
                      refine y_iald C 53 256 _ _ rfl rfl rfl ak_53 an_53 rfl (sb_53 _) hM188 dX12_laysEnding_87 (by exact ⟨lb253, (by (clear ob253 ub252 lb252 h251 h249 h245 u244d u244i u244l h242 h238 u237v u237l u237q h236 ua235 la235 ea235 h234 ih230 h201 h194 h190 fM188 hM188 h189 ih185 u107d u107 h105 u101r27 u101r1 u101r26 hret C hp2 hp1 hp0 ha1 hpr hM0; omega))⟩) (fun a254 ea254 la254 ua254 => ?_)
                      obtain rfl : a254 = (M188.1 107 ((orI a187 (pw2 ((M0.1 106 (6 * a187 + a233).toNat).toInt)))).toNat).toInt := ea254
                      refine y_iconst C dX12_laysEnding_88 ?_
                      refine y_iadd C dX12_laysEnding_89 ?_
                      refine j_istore C 6 [(6, .int (sI ((M188.1 107 ((orI a187 (pw2 ((M0.1 106 (6 * a187 + a233).toNat).toInt)))).toNat).toInt + 1))), (5, .int (sI ((M0.1 106 (6 * a187 + a233).toNat).toInt))), (0, .ref (ad 98)), (1, .int (sI a1)), (2, .int (sI a187)), (3, .int (sI a232)), (4, .int (sI a233))] dX12_laysEnding_90 (by decide) rfl ?_
                      have u255g := dq_g (M := M188) (f := (M0.1 99)) (a := a1) (s := a187) (by exact h189.2.2.2.2.1) (orI a187 (pw2 ((M0.1 106 (6 * a187 + a233).toNat).toInt))) (by exact ⟨(by (clear ua254 la254 ub252 lb252 h249 u244d u244l u237q h236 ua235 la235 ea235 h234 ih230 h201 h194 h190 fM188 hM188 h189 ih185 u107d u107 h105 u101r27 u101r1 u101r26 hret C hp2 hp1 hp0 ha1 hpr hM0; omega)), ⟨lb253, (by (clear ua254 la254 ub252 lb252 h249 u244d u244l u237q h236 ua235 la235 ea235 h234 ih230 h201 h194 h190 fM188 hM188 h189 ih185 u107d u107 h105 u101r27 u101r1 u101r26 hret C hp2 hp1 hp0 ha1 hpr hM0; omega))⟩⟩)
                      refine j_iload C 0 dX12_laysEnding_92 rfl ?_
                      refine j_iload_n C 5 3 dX12_laysEnding_94 rfl rfl ?_
                      refine y_icmp_ge C 103 dX12_laysEnding_95 (by decide) (by (clear u255g ob253 ub253 lb253 ub252 lb252 h251 h249 h245 u244d u244o u244i u244l h242 h238 u237v u237l u237q h236 ua235 la235 ea235 ih230 h201 h194 h190 fM188 hM188 h189 ih185 u107d u107 h105 u101r27 u101r1 u101r26 hret C hp2 hp1 hp0 ha1 hpr hM0; omega)) (fun h256 => ?_) (fun h256 => ?_)
                      · refine j_iload_n C 5 3 dX12_laysEnding_103 rfl rfl ?_
                        refine j_istore_n C 3 [(3, .int (sI a232)), (6, .int (sI ((M188.1 107 ((orI a187 (pw2 ((M0.1 106 (6 * a187 + a233).toNat).toInt)))).toNat).toInt + 1))), (5, .int (sI ((M0.1 106 (6 * a187 + a233).toNat).toInt))), (0, .ref (ad 98)), (1, .int (sI a1)), (2, .int (sI a187)), (4, .int (sI a233))] dX12_laysEnding_104 rfl (by decide) rfl ?_
                        refine y_iinc C 6 [(4, .int (sI (a233 + 1))), (3, .int (sI a232)), (6, .int (sI ((M188.1 107 ((orI a187 (pw2 ((M0.1 106 (6 * a187 + a233).toNat).toInt)))).toNat).toInt + 1))), (5, .int (sI ((M0.1 106 (6 * a187 + a233).toNat).toInt))), (0, .ref (ad 98)), (1, .int (sI a1)), (2, .int (sI a187))] dX12_laysEnding_105 rfl (by decide) rfl ?_
                        refine j_goto C 28 dX12_laysEnding_108 (by decide) ?_
                        refine j_lv [4, 5, 6, 1, 0] rfl ?_; exact ih230 a232 (a233 + 1) (by exact ⟨h234.1, ⟨h234.2.1, ⟨(by (clear ua254 la254 ob253 ub253 lb253 ub252 lb252 h249 u244o u244l ua235 la235 ih230 h201 h194 h190 fM188 hM188 h189 ih185 u107d u107 h105 u101r27 u101r26 hret C hp2 hp1 hp0 ha1 hpr hM0; omega)), ⟨(by (clear ua254 la254 ob253 ub253 lb253 ub252 lb252 h249 u244o u244l ua235 la235 ih230 h201 h194 h190 fM188 hM188 h189 ih185 u107d u107 h105 u101r27 u101r26 hret C hp2 hp1 hp0 ha1 hpr hM0; omega)), ⟨h234.2.2.2.2.1, ⟨(by (clear ua254 la254 ob253 ub253 lb253 ub252 lb252 h249 u244o u244l ua235 la235 ih230 h201 h194 h190 fM188 hM188 h189 ih185 u107d u107 h105 u101r27 u101r26 hret C hp2 hp1 hp0 ha1 hpr hM0; omega)), ⟨(by (clear ua254 la254 ob253 ub253 lb253 ub252 lb252 h249 u244o u244l ua235 la235 ih230 h201 h194 h190 fM188 hM188 h189 ih185 u107d u107 h105 u101r27 u101r26 hret C hp2 hp1 hp0 ha1 hpr hM0; omega)), (by (clear ua254 la254 ob253 ub253 lb253 ub252 lb252 h249 u244o u244l ua235 la235 ih230 h201 h194 h190 fM188 hM188 h189 ih185 u107d u107 h105 u101r27 u101r26 hret C hp2 hp1 hp0 ha1 hpr hM0; omega))⟩⟩⟩⟩⟩⟩⟩)
                      · have u257A : evF (M188.1 99) = evF (M0.1 99) := by rw [(show M188.1 99 = M0.1 99 from (FR.cell fM188 (by decide)))]
                        have u257B : (M188.1 99 1).toInt = (M0.1 99 1).toInt := by rw [(show M188.1 99 = M0.1 99 from (FR.cell fM188 (by decide)))]
                        have u257C : (M188.1 99 26).toInt = (M0.1 99 26).toInt := by rw [(show M188.1 99 = M0.1 99 from (FR.cell fM188 (by decide)))]
                        have u257D : (M188.1 99 27).toInt = (M0.1 99 27).toInt := by rw [(show M188.1 99 = M0.1 99 from (FR.cell fM188 (by decide)))]
                        have u257l := lb_c (M := M0) (N := M188) (show M188.1 99 = M0.1 99 from (FR.cell fM188 (by decide))) (show M188.1 106 = M0.1 106 from (FR.cell fM188 (by decide))) (by exact hp0)
                        have u257b := eo_b (M := M188) (s := a187) (v := a232) (by exact h234.2.2.2.2.1) (by (clear u257l u257D u257C u257B u257A h256 u255g ua254 la254 ob253 ub253 lb253 ub252 lb252 h251 h249 h245 u244d u244o u244i u244l h242 h238 u237v u237l u237q h236 ua235 la235 ea235 h234 ih230 h201 h194 fM188 hM188 ih185 u107d u107 h105 u101r27 u101r1 u101r26 hret C hp2 hp1 hp0 ha1 hpr hM0; omega))
                        have u257 := eo_up (M := M188) (s := a187) (b := a233) (k := ((M0.1 106 (6 * a187 + a233).toNat).toInt)) (v := ((M188.1 107 ((orI a187 (pw2 ((M0.1 106 (6 * a187 + a233).toNat).toInt)))).toNat).toInt + 1)) (by exact h189.2.2.1) (by exact u257l) (by rw [(show M188.1 106 = M0.1 106 from (FR.cell fM188 (by decide)))]) (by (clear u257l u257D u255g ob253 ub253 lb253 ub252 lb252 h249 u244d u244o u244l h238 u237q ua235 la235 ih230 h201 h194 fM188 hM188 ih185 u107d u107 h105 u101r27 hret C hp2 hp1 hp0 ha1 hpr hM0; omega)) rfl
                        refine j_iload C 0 dX12_laysEnding_98 rfl ?_
                        refine j_goto C 104 dX12_laysEnding_100 (by decide) ?_
                        refine j_istore_n C 3 [(3, .int (sI ((M188.1 107 ((orI a187 (pw2 ((M0.1 106 (6 * a187 + a233).toNat).toInt)))).toNat).toInt + 1))), (6, .int (sI ((M188.1 107 ((orI a187 (pw2 ((M0.1 106 (6 * a187 + a233).toNat).toInt)))).toNat).toInt + 1))), (5, .int (sI ((M0.1 106 (6 * a187 + a233).toNat).toInt))), (0, .ref (ad 98)), (1, .int (sI a1)), (2, .int (sI a187)), (4, .int (sI a233))] dX12_laysEnding_104 rfl (by decide) rfl ?_
                        refine y_iinc C 6 [(4, .int (sI (a233 + 1))), (3, .int (sI ((M188.1 107 ((orI a187 (pw2 ((M0.1 106 (6 * a187 + a233).toNat).toInt)))).toNat).toInt + 1))), (6, .int (sI ((M188.1 107 ((orI a187 (pw2 ((M0.1 106 (6 * a187 + a233).toNat).toInt)))).toNat).toInt + 1))), (5, .int (sI ((M0.1 106 (6 * a187 + a233).toNat).toInt))), (0, .ref (ad 98)), (1, .int (sI a1)), (2, .int (sI a187))] dX12_laysEnding_105 rfl (by decide) rfl ?_
                        refine j_goto C 28 dX12_laysEnding_108 (by decide) ?_
                        refine j_lv [4, 5, 6, 1, 0] rfl ?_; exact ih230 ((M188.1 107 ((orI a187 (pw2 ((M0.1 106 (6 * a187 + a233).toNat).toInt)))).toNat).toInt + 1) (a233 + 1) (by (clear u257l u257D u257C u257A ob253 ub253 lb253 ub252 lb252 h249 u244o u244l ua235 la235 ih230 h201 h194 h190 fM188 hM188 h189 ih185 u107d u107 h105 u101r27 u101r26 hret C hp2 hp1 hp0 ha1 hpr hM0; omega))
                    · refine j_goto C 105 dX12_laysEnding_74 (by decide) ?_
                      refine y_iinc C 5 [(4, .int (sI (a233 + 1))), (5, .int (sI ((M0.1 106 (6 * a187 + a233).toNat).toInt))), (0, .ref (ad 98)), (1, .int (sI a1)), (2, .int (sI a187)), (3, .int (sI a232))] dX12_laysEnding_105 rfl (by decide) rfl ?_
                      refine j_goto C 28 dX12_laysEnding_108 (by decide) ?_
                      refine j_lv [2, 3, 4, 5, 0] rfl ?_; exact ih230 a232 (a233 + 1) (by exact ⟨h234.1, ⟨h234.2.1, ⟨(by (clear u244d u244o u244l ua235 la235 ih230 h201 h194 h190 fM188 hM188 h189 ih185 u107d u107 h105 u101r27 u101r26 hret C hp2 hp1 hp0 ha1 hpr hM0; omega)), ⟨(by (clear u244d u244o u244l ua235 la235 ih230 h201 h194 h190 fM188 hM188 h189 ih185 u107d u107 h105 u101r27 u101r26 hret C hp2 hp1 hp0 ha1 hpr hM0; omega)), ⟨h234.2.2.2.2.1, ⟨(by (clear u244d u244o u244l ua235 la235 ih230 h201 h194 h190 fM188 hM188 h189 ih185 u107d u107 h105 u101r27 u101r26 hret C hp2 hp1 hp0 ha1 hpr hM0; omega)), ⟨(by (clear u244d u244o u244l ua235 la235 ih230 h201 h194 h190 fM188 hM188 h189 ih185 u107d u107 h105 u101r27 u101r26 hret C hp2 hp1 hp0 ha1 hpr hM0; omega)), (by (clear u244d u244o u244l ua235 la235 ih230 h201 h194 h190 fM188 hM188 h189 ih185 u107d u107 h105 u101r27 u101r26 hret C hp2 hp1 hp0 ha1 hpr hM0; omega))⟩⟩⟩⟩⟩⟩⟩)
                · refine y_iconst C dX12_laysEnding_45 ?_
                  refine j_goto C 56 dX12_laysEnding_46 (by decide) ?_
                  refine j_istore C 5 [(5, .int (sI (-1))), (0, .ref (ad 98)), (1, .int (sI a1)), (2, .int (sI a187)), (3, .int (sI a232)), (4, .int (sI a233))] dX12_laysEnding_56 (by decide) rfl ?_
                  refine j_iload C 0 dX12_laysEnding_58 rfl ?_
                  refine y_iconst C dX12_laysEnding_60 ?_
                  refine y_icmp_eq C 105 dX12_laysEnding_61 (by decide) (by exact ⟨⟨(by decide), (by decide)⟩, ⟨(by decide), (by decide)⟩⟩) (fun h259 => ?_) (fun h259 => ?_)
                  · refine y_iinc C 5 [(4, .int (sI (a233 + 1))), (5, .int (sI (-1))), (0, .ref (ad 98)), (1, .int (sI a1)), (2, .int (sI a187)), (3, .int (sI a232))] dX12_laysEnding_105 rfl (by decide) rfl ?_
                    refine j_goto C 28 dX12_laysEnding_108 (by decide) ?_
                    refine j_lv [2, 3, 4, 5, 0] rfl ?_; exact ih230 a232 (a233 + 1) (by exact ⟨h234.1, ⟨h234.2.1, ⟨(by (clear h259 u237l ua235 la235 ih230 h201 h194 h190 fM188 hM188 h189 ih185 u107d u107 h105 u101r27 u101r26 hret C hp2 hp1 hp0 ha1 hpr hM0; omega)), ⟨(by (clear h259 u237l ua235 la235 ih230 h201 h194 h190 fM188 hM188 h189 ih185 u107d u107 h105 u101r27 u101r26 hret C hp2 hp1 hp0 ha1 hpr hM0; omega)), ⟨h234.2.2.2.2.1, ⟨(by (clear h259 u237l ua235 la235 ih230 h201 h194 h190 fM188 hM188 h189 ih185 u107d u107 h105 u101r27 u101r26 hret C hp2 hp1 hp0 ha1 hpr hM0; omega)), ⟨(by (clear h259 u237l ua235 la235 ih230 h201 h194 h190 fM188 hM188 h189 ih185 u107d u107 h105 u101r27 u101r26 hret C hp2 hp1 hp0 ha1 hpr hM0; omega)), (by (clear h259 u237l ua235 la235 ih230 h201 h194 h190 fM188 hM188 h189 ih185 u107d u107 h105 u101r27 u101r26 hret C hp2 hp1 hp0 ha1 hpr hM0; omega))⟩⟩⟩⟩⟩⟩⟩)
                  · exfalso; omega
          refine j_lv [2, 3, 4, 1, 0] rfl ?_; exact L231 536870922 a199 0 (by exact ⟨h201.1, ⟨h201.2.1, ⟨(by decide), ⟨(by decide), ⟨h201.2.2.1, ⟨h201.2.2.2, ⟨u101r1.1, (by decide)⟩⟩⟩⟩⟩⟩⟩)
        refine y_if_eq C 21 dX12_laysEnding_14 (by decide) (by (clear J200 h190 fM188 hM188 h189 ih185 u107d u107 h105 u101r27 u101r1 u101r26 hret C hp2 hp1 hp0 ha1 hpr hM0; omega)) (fun h196 => ?_) (fun h196 => ?_)
        · have u197 := eo_N M188 a187
          have u197e := edE_0 (edF (M0.1 99) a1) (M0.1 99) a1 a187
          have u197h := shF_s (M0.1 99) a187
          refine y_ldcw C 268435456 dX12_laysEnding_21 kX12_laysEnding_341 rfl ?_
          exact J200 268435456 (by exact ⟨(by decide), ⟨(by decide), ⟨u197, (by (clear J200 h194 h190 fM188 hM188 h189 ih185 u107d u107 h105 u101r27 u101r1 u101r26 hret C hp2 hp1 hp0 ha1 hpr hM0; omega))⟩⟩⟩)
        · refine y_iconst C dX12_laysEnding_17 ?_
          have u198 := eo_0 M188 a187 (by exact h189.2.1)
          have u198e := edE_0 (edF (M0.1 99) a1) (M0.1 99) a1 a187
          have u198h := shF_s (M0.1 99) a187
          refine j_goto C 24 dX12_laysEnding_18 (by decide) ?_
          exact J200 0 (by exact ⟨(by decide), ⟨(by decide), ⟨u198, (by (clear J200 h194 h190 fM188 hM188 h189 ih185 u107d u107 h105 u101r27 u101r1 u101r26 hret C hp2 hp1 hp0 ha1 hpr hM0; omega))⟩⟩⟩)
  refine j_lv [1, 2, 0] rfl ?_; exact L186 2010 (evF (M0.1 99)) M0 (by exact ⟨(by (clear L186 u101r27 u101r1 u101r26 hret C hp1 hp0 ha1 hpr hM0; omega)), ⟨h105.2.1, ⟨u107, ⟨(by (clear L186 u101r27 u101r1 u101r26 hret C hp1 hp0 ha1 hpr hM0; omega)), ⟨u107d, ⟨hp2, (by (clear L186 u101r27 u101r1 u101r26 hret C hp1 hp0 ha1 hpr hM0; omega))⟩⟩⟩⟩⟩⟩) hM0 FR.rf
set_option maxHeartbeats 4000000 in
theorem s1_X12_endingNow {l : Launch} {dC : Nat → ClassId} {dI : Nat → Nat → Nat} {ad : Nat → Nat} {cA : Nat → ClassId} {pr : Nat → Nat → Bool} {Kz : mm_M} {M0 : mm_M} (hM0 : INV pr Kz M0) (hpr : PM pr) (hcw : CWK pr Kz)  (hp0 : b01 (PI M0) = 1) : Ci l 5 yX12_endingNow wsX12_endingNow dC dI ad cA [.ref (ad 98)] M0 (fun r M' => ∃ a : Int, r = sI a ∧ INV pr Kz M' ∧ FR [103, 104, 106, 107] M0 M' ∧ (-1) ≤ a ∧ a ≤ 255 ∧ (b01 (leQ M' (-1)) = 1) ∧ (b01 (lbP M') = 1) ∧ (a = -1 ∨ a = (M'.1 107 (M'.1 99 27).toInt.toNat).toInt ∧ a < 268435456) ∧ (b01 (LBF M' (M0.1 99)) = 1) ∧ (b01 (EDQ M' (M0.1 99) (-1) (-1)) = 1) ∧ (a = enF (M0.1 99) (-1)) ∧ (b01 (PI M') = 1)) := by
  refine ci_of (cc := cX12_endingNow) (maxL := 1) (ty := .int) (lv := [(0, .ref (ad 98))]) (by decide) rfl (fun r M' hp => rfl) (Nat.le_of_ble_eq_true rfl) rfl ?_
  intro p e s m args below meth c A Q C hret
  refine j_aload_n C 0 0 dX12_endingNow_0 rfl rfl ?_
  refine j_callVv C (d := 4) (As := []) (st := []) 98 (s_lt rfl rfl) (s_kc (c := 11) rfl rfl) (by decide) rfl (s1_X12_laysBuys hM0 hpr hcw (by exact hp0)) gX12_endingNow_X12_laysBuys rfl hdX12_laysBuys (by decide) (Nat.le_of_ble_eq_true rfl) dX12_endingNow_1 rfl (fun M102 h103 => ?_)
  obtain ⟨hM102, fM102, h104⟩ := h103
  have u105e : b01 (LBF M102 (M102.1 99)) = 1 := by rw [((FR.cell fM102 (by decide)))]; exact h104.2.1
  refine j_aload_n C 0 0 dX12_endingNow_4 rfl rfl ?_
  refine y_iconst C dX12_endingNow_5 ?_
  refine j_callVi C (d := 3) (As := [.int (sI (-1))]) (st := []) 98 (s_lt rfl rfl) (s_kc (c := 11) rfl rfl) (by decide) rfl (s1_X12_laysEnding hM102 hpr (-1) (by exact ⟨(by decide), (by decide)⟩) (by exact h104.1) (by exact u105e) (by exact h104.2.2)) gX12_endingNow_X12_laysEnding rfl hdX12_laysEnding (by decide) (Nat.le_of_ble_eq_true rfl) dX12_endingNow_6 rfl (fun r106 M107 h108 => ?_)
  obtain ⟨a110, rfl, hM107, fM107, h109⟩ := h108
  have u111a : b01 (LBF M107 (M0.1 99)) = 1 := by rw [← ((FR.cell fM102 (by decide)))]; exact h109.2.2.2.2.2.1
  have u111b : b01 (EDQ M107 (M0.1 99) (-1) (-1)) = 1 := by rw [← ((FR.cell fM102 (by decide)))]; exact h109.2.2.2.2.2.2.1
  have u111c : a110 = enF (M0.1 99) (-1) := by rw [← ((FR.cell fM102 (by decide)))]; exact h109.2.2.2.2.2.2.2.1
  have zz99_27 : (M107.1 99 27).toInt = (M0.1 99 27).toInt := s_fF fM102 (by decide) (s_fF fM107 (by decide) (rfl)); exact hret _ _ _ _ dX12_endingNow_9 ⟨a110, rfl, hM107, ((FR.rf.tr fM102 (by decide)).tr fM107 (by decide)), by exact ⟨h109.1, ⟨h109.2.1, ⟨h109.2.2.1, ⟨h109.2.2.2.1, ⟨h109.2.2.2.2.1, ⟨u111a, ⟨u111b, ⟨u111c, h109.2.2.2.2.2.2.2.2⟩⟩⟩⟩⟩⟩⟩⟩⟩
set_option maxHeartbeats 4000000 in
theorem s1_X12_ending {l : Launch} {dC : Nat → ClassId} {dI : Nat → Nat → Nat} {ad : Nat → Nat} {cA : Nat → ClassId} {pr : Nat → Nat → Bool} {Kz : mm_M} {M0 : mm_M} (hM0 : INV pr Kz M0) (hpr : PM pr) (hcw : CWK pr Kz)  (hp0 : b01 (PI M0) = 1) : Ci l 6 yX12_ending wsX12_ending dC dI ad cA [.ref (ad 98)] M0 (fun r M' => ∃ a : Int, r = sI a ∧ INV pr Kz M' ∧ FR [98, 103, 104, 106, 107] M0 M' ∧ (-1) ≤ a ∧ a ≤ 255 ∧ (a = enF (M0.1 99) (-1)) ∧ (b01 (PI M') = 1)) := by
  refine ci_of (cc := cX12_ending) (maxL := 1) (ty := .int) (lv := [(0, .ref (ad 98))]) (by decide) rfl (fun r M' hp => rfl) (Nat.le_of_ble_eq_true rfl) rfl ?_
  intro p e s m args below meth c A Q C hret
  refine j_aload_n C 0 0 dX12_ending_0 rfl rfl ?_
  refine y_iconst C dX12_ending_1 ?_
  refine y_putIF C 11 qX12_ending_1 rfl rfl ft_11_0 sb_11_0 hM0 (PM.w hpr rfl rfl) dX12_ending_2 (fun M101 eM101 hM101 => ?_)
  have pM101 := pi_o eM101 (by decide) (by decide) (by exact hp0)
  refine j_aload_n C 0 0 dX12_ending_5 rfl rfl ?_
  refine j_callVi C (d := 5) (As := []) (st := []) 98 (s_lt rfl rfl) (s_kc (c := 11) rfl rfl) (by decide) rfl (s1_X12_endingNow hM101 hpr hcw (by exact pM101)) gX12_ending_X12_endingNow rfl hdX12_endingNow (by decide) (Nat.le_of_ble_eq_true rfl) dX12_ending_6 rfl (fun r102 M103 h104 => ?_)
  obtain ⟨a106, rfl, hM103, fM103, h105⟩ := h104
  have u107c : enF (M101.1 99) (-1) = enF (M0.1 99) (-1) := by rw [((wI_cell eM101 (by decide)))]
  exact hret _ _ _ _ dX12_ending_9 ⟨a106, rfl, hM103, ((FR.rf.wI eM101 (by decide)).tr fM103 (by decide)), by exact ⟨h105.1, ⟨h105.2.1, ⟨(by (clear fM103 hM103 pM101 hM101 eM101 hret C hp0 hcw hpr hM0; omega)), h105.2.2.2.2.2.2.2.2⟩⟩⟩⟩
set_option maxHeartbeats 4000000 in
theorem s1_X12_laysEndingRow {l : Launch} {dC : Nat → ClassId} {dI : Nat → Nat → Nat} {ad : Nat → Nat} {cA : Nat → ClassId} {pr : Nat → Nat → Bool} {Kz : mm_M} {M0 : mm_M} (hM0 : INV pr Kz M0) (hpr : PM pr) (hcw : CWK pr Kz)  (hp0 : b01 (PI M0) = 1) : Ci l 6 yX12_laysEndingRow wsX12_laysEndingRow dC dI ad cA [.ref (ad 98)] M0 (fun r M' => ∃ a : Int, r = sI a ∧ INV pr Kz M' ∧ FR [103, 104, 106, 107, 108] M0 M' ∧ (-1) ≤ a ∧ a ≤ 255 ∧ (a = enF (M0.1 99) (-1)) ∧ (b01 (ERW M' (M0.1 99) a a) = 1) ∧ (b01 (PI M') = 1)) := by
  refine ci_of (cc := cX12_laysEndingRow) (maxL := 5) (ty := .int) (lv := [(0, .ref (ad 98))]) (by decide) rfl (fun r M' hp => rfl) (Nat.le_of_ble_eq_true rfl) rfl ?_
  intro p e s m args below meth c A Q C hret
  have u101r26 := INV.rd hM0 (i := 99) (c := 45) (k := 26) rfl rfl
  have u101r1 := INV.rd hM0 (i := 99) (c := 45) (k := 1) rfl rfl
  have u101r27 := INV.rd hM0 (i := 99) (c := 45) (k := 27) rfl rfl
  refine j_aload_n C 0 0 dX12_laysEndingRow_0 rfl rfl ?_
  refine j_callVi C (d := 5) (As := []) (st := []) 98 (s_lt rfl rfl) (s_kc (c := 11) rfl rfl) (by decide) rfl (s1_X12_endingNow hM0 hpr hcw (by exact hp0)) gX12_laysEndingRow_X12_endingNow rfl hdX12_endingNow (by decide) (Nat.le_of_ble_eq_true rfl) dX12_laysEndingRow_1 rfl (fun r102 M103 h104 => ?_)
  obtain ⟨a106, rfl, hM103, fM103, h105⟩ := h104
  refine j_istore_n C 1 [(1, .int (sI a106)), (0, .ref (ad 98))] dX12_laysEndingRow_4 rfl (by decide) rfl ?_
  refine j_aload_n C 1 0 dX12_laysEndingRow_5 rfl rfl ?_
  refine y_getC C 11 99 fX12_laysEndingRow_13 rfl rfl ft_11_1 sm_11_1 rfl hM103 dX12_laysEndingRow_6 ?_
  refine y_bipush C dX12_laysEndingRow_9 rfl ?_
  refine y_ialdH C 45 3543 rfl rfl rfl ak_45 an_45 rfl _ _ hM103 (hr_45_27_27 _ (by exact (by decide)) (by exact (by decide))) dX12_laysEndingRow_11 (by exact ⟨(by decide), (by decide)⟩) (fun a107 ea107 la107 ua107 => ?_)
  obtain rfl : a107 = (M0.1 99 27).toInt := s_fF fM103 (by decide) (ea107)
  refine j_istore_n C 2 [(2, .int (sI (M0.1 99 27).toInt)), (1, .int (sI a106)), (0, .ref (ad 98))] dX12_laysEndingRow_12 rfl (by decide) rfl ?_
  refine y_iconst C dX12_laysEndingRow_13 ?_
  refine j_istore_n C 3 [(3, .int (sI 0)), (2, .int (sI (M0.1 99 27).toInt)), (1, .int (sI a106)), (0, .ref (ad 98))] dX12_laysEndingRow_14 rfl (by decide) rfl ?_
  have u108z : (M103.1 107 (M103.1 99 27).toInt.toNat).toInt = (M103.1 107 (M0.1 99 27).toInt.toNat).toInt := by rw [(show M103.1 99 = M0.1 99 from (FR.cell fM103 (by decide)))]
  have u108p := pi_27 (M := M0) (by exact hp0)
  have u108e := er_0 M103 (M0.1 99) a106
  have u108s : (M0.1 99 27).toInt = roS (M0.1 99) a106 (0 : Int).toNat := rfl
  have L205 : ∀ (n203 : Nat), ∀ (a206 : Int) (a207 : Int) (M208 : mm_M), (0 ≤ a206 ∧ a206 ≤ 255 ∧ 0 ≤ a207 ∧ a207 ≤ 255 ∧ (b01 (leQ M208 (-1)) = 1) ∧ (b01 (lbP M208) = 1) ∧ (a106 = -1 ∨ (M208.1 107 (a206).toNat).toInt = a106 - a207) ∧ (a206 ≤ evF (M0.1 99)) ∧ (a206 = roS (M0.1 99) a106 (a207).toNat) ∧ (b01 (ERW M208 (M0.1 99) a106 a207) = 1) ∧ (b01 (EDQ M208 (M0.1 99) (-1) (-1)) = 1) ∧ (b01 (LBF M208 (M0.1 99)) = 1) ∧ (a106 = -1 ∨ a207 ≤ a106) ∧ (b01 (PI M208) = 1) ∧ (255 - a207) < (n203 : Int)) → INV pr Kz M208 → FR [103, 104, 106, 107, 108] M0 M208 → jj p l e (cn_R 6) s m args below meth c 0 0 Q 5 dC dI ad cA A M208 15 [(0, .ref (ad 98)), (1, .int (sI a106)), (2, .int (sI a206)), (3, .int (sI a207))] [] := by
    intro n203
    induction n203 with
    | zero =>
      intro a206 a207 M208 h209 hM208 fM208
      exfalso; (clear fM208 hM208 u108s u108e u108p u108z ua107 la107 ea107 h105 fM103 hM103 u101r27 u101r1 u101r26 hret C hp0 hcw hpr hM0; omega)
    | succ n203 ih204 =>
      intro a206 a207 M208 h209 hM208 fM208
      have u210b := evF_b (f := (M0.1 99)) (by exact ⟨u101r26.1, u101r26.2⟩)
      refine j_iload_n C 3 3 dX12_laysEndingRow_15 rfl rfl ?_
      refine j_iload_n C 1 1 dX12_laysEndingRow_16 rfl rfl ?_
      refine y_icmp_ge C 105 dX12_laysEndingRow_17 (by decide) (by (clear u210b fM208 hM208 ih204 u108s u108e u108p u108z ua107 la107 ea107 fM103 hM103 u101r27 u101r1 u101r26 hret C hp0 hcw hpr hM0; omega)) (fun h211 => ?_) (fun h211 => ?_)
      · have u301e : b01 (ERW M208 (M0.1 99) a106 a106) = 1 := b01_i (fun i hi => b01_e (P := ERW M208 (M0.1 99) a106 a207) (by exact h209.2.2.2.2.2.2.2.2.2.1) i (by (clear u210b fM208 hM208 h209 ih204 u108s u108e u108p u108z ua107 la107 ea107 fM103 hM103 u101r27 u101r1 u101r26 hret C hp0 hcw hpr hM0; omega)))
        refine j_iload_n C 1 1 dX12_laysEndingRow_105 rfl rfl ?_
        exact hret _ _ _ _ dX12_laysEndingRow_106 ⟨a106, rfl, hM208, (FR.rf.tr fM208 (by decide)), by exact ⟨h105.1, ⟨h105.2.1, ⟨h105.2.2.2.2.2.2.2.1, ⟨u301e, h209.2.2.2.2.2.2.2.2.2.2.2.2.2.1⟩⟩⟩⟩⟩
      · refine y_iconst C dX12_laysEndingRow_20 ?_
        refine j_istore C 4 [(4, .int (sI 0)), (0, .ref (ad 98)), (1, .int (sI a106)), (2, .int (sI a206)), (3, .int (sI a207))] dX12_laysEndingRow_21 (by decide) rfl ?_
        have u212A : evF (M208.1 99) = evF (M0.1 99) := by rw [(show M208.1 99 = M0.1 99 from (FR.cell fM208 (by decide)))]
        have u212B : (M208.1 99 1).toInt = (M0.1 99 1).toInt := by rw [(show M208.1 99 = M0.1 99 from (FR.cell fM208 (by decide)))]
        have u212C : (M208.1 99 26).toInt = (M0.1 99 26).toInt := by rw [(show M208.1 99 = M0.1 99 from (FR.cell fM208 (by decide)))]
        have u212D : (M208.1 99 27).toInt = (M0.1 99 27).toInt := by rw [(show M208.1 99 = M0.1 99 from (FR.cell fM208 (by decide)))]
        have u212g := le_g (M := M208) (by exact h209.2.2.2.2.1) a206 (by exact ⟨h209.1, (by (clear u212D u212C u212B h211 u210b fM208 hM208 ih204 u108s u108e u108p u108z ua107 la107 ea107 h105 fM103 hM103 u101r27 u101r1 u101r26 hret C hp0 hcw hpr hM0; omega))⟩)
        have u212 := wt_0 (M := M208) (s := a206) (v := a106 - a207) u212g (by (clear u212g u212D u212C u212B u212A u210b fM208 hM208 ih204 u108s u108e u108p u108z ua107 la107 ea107 fM103 hM103 u101r27 u101r1 u101r26 hret C hp0 hcw hpr hM0; omega)) (by (clear u212g u212D u212C u212B u212A u210b fM208 hM208 ih204 u108s u108e u108p u108z ua107 la107 ea107 fM103 hM103 u101r27 u101r1 u101r26 hret C hp0 hcw hpr hM0; omega))
        have u212z : nbS (M0.1 99) a206 (a106 - a207 - 1) (6 - 0 : Int).toNat 0 = nbS (M0.1 99) a206 (a106 - a207 - 1) 6 0 := rfl
        have L251 : ∀ (n249 : Nat), ∀ (a252 : Int), (0 ≤ a252 ∧ a252 ≤ 6 ∧ (b01 (wtP M208 a206 a252 (a106 - a207)) = 1) ∧ (nbS (M0.1 99) a206 (a106 - a207 - 1) (6 - a252).toNat a252 = nbS (M0.1 99) a206 (a106 - a207 - 1) 6 0) ∧ (6 - a252) < (n249 : Int)) → jj p l e (cn_R 6) s m args below meth c 0 0 Q 5 dC dI ad cA A M208 23 [(0, .ref (ad 98)), (1, .int (sI a106)), (2, .int (sI a206)), (3, .int (sI a207)), (4, .int (sI a252))] [] := by
          intro n249
          induction n249 with
          | zero =>
            intro a252 h253
            exfalso; (clear u212z u212 u212g u212D u212C u212B u212A h211 u210b fM208 hM208 h209 ih204 u108s u108e u108p u108z ua107 la107 ea107 h105 fM103 hM103 u101r27 u101r1 u101r26 hret C hp0 hcw hpr hM0; omega)
          | succ n249 ih250 =>
            intro a252 h253
            have u254A : evF (M208.1 99) = evF (M0.1 99) := by rw [(show M208.1 99 = M0.1 99 from (FR.cell fM208 (by decide)))]
            have u254B : (M208.1 99 1).toInt = (M0.1 99 1).toInt := by rw [(show M208.1 99 = M0.1 99 from (FR.cell fM208 (by decide)))]
            have u254C : (M208.1 99 26).toInt = (M0.1 99 26).toInt := by rw [(show M208.1 99 = M0.1 99 from (FR.cell fM208 (by decide)))]
            have u254D : (M208.1 99 27).toInt = (M0.1 99 27).toInt := by rw [(show M208.1 99 = M0.1 99 from (FR.cell fM208 (by decide)))]
            have u254w := wt_b (M := M208) (s := a206) (b := a252) (v := a106 - a207) (by exact h253.2.2.1)
            refine j_aload_n C 0 0 dX12_laysEndingRow_23 rfl rfl ?_
            have u255y := nbS_t (f := (M0.1 99)) (s := a206) (v := a106 - a207 - 1) (b := a252) (b' := a252 + 1) (by (clear u254D u254C u254B u254A ih250 u212z u212 u212g u212D u212C u212A h211 u210b fM208 hM208 h209 ih204 u108s u108e u108p u108z ua107 la107 ea107 h105 fM103 hM103 u101r27 u101r26 hret C hp0 hcw hpr hM0; omega))
            have u255l := lf_g (M := M208) (f := (M0.1 99)) (by exact h209.2.2.2.2.2.2.2.2.2.2.2.1) (s := a206) (b := a252) (by exact ⟨h209.1, ⟨h209.2.2.2.2.2.2.2.1, ⟨h253.1, (by (clear u255y u254D u254C u254B u254A ih250 u212z u212 u212g u212D u212C h211 u210b fM208 hM208 ih204 u108s u108e u108p u108z ua107 la107 ea107 h105 fM103 hM103 u101r27 u101r1 u101r26 hret C hp0 hcw hpr hM0; omega))⟩⟩⟩)
            have u255v := bo_ev (f := (M0.1 99)) (b := a252) (s := a206) (by exact ⟨u101r26.1, u101r26.2⟩) (by exact ⟨h209.1, h209.2.2.2.2.2.2.2.1⟩)
            have u255i : iiF a206 (M208.1 106 (6 * a206 + a252).toNat).toInt = iiF a206 (boF (M0.1 99) a252 a206) := by rw [u255l]
            have u255o : orI a206 (pw2 (M208.1 106 (6 * a206 + a252).toNat).toInt) = orI a206 (pw2 (boF (M0.1 99) a252 a206)) := by rw [u255l]
            have u255g : (boF (M0.1 99) a252 a206) = -1 ∨ (M208.1 107 (orI a206 (pw2 (M208.1 106 (6 * a206 + a252).toNat).toInt)).toNat).toInt = edF (M0.1 99) (-1) (orI a206 (pw2 (boF (M0.1 99) a252 a206))) := by
              by_cases c : (boF (M0.1 99) a252 a206) = -1
              · exact Or.inl c
              · exact Or.inr (by rw [u255o]; exact dq_g (a := -1) (s := -1) (by exact h209.2.2.2.2.2.2.2.2.2.2.1) _ (by (clear u255o u255i u255l u255y u254w u254D u254C u254B u254A h253 ih250 u212z u212 u212g u212D u212C u212B h211 u210b fM208 hM208 h209 ih204 u108s u108e u108p u108z ua107 la107 ea107 h105 fM103 hM103 u101r27 u101r1 u101r26 hret C hp0 hcw hpr hM0; omega)))
            have u256 : 0 ≤ a252 ∧ a252 ≤ 5 := by exact ⟨h253.1, (by (clear u255g u255o u255i u255v u255l u255y u254D u254C u254B u254A ih250 u212z u212 u212g u212D u212C u212A h211 u210b fM208 hM208 h209 ih204 u108s u108e u108p u108z ua107 la107 ea107 h105 fM103 hM103 u101r27 u101r26 hret C hp0 hcw hpr hM0; omega))⟩
            refine j_iload_n C 2 2 dX12_laysEndingRow_24 rfl rfl ?_
            refine j_iload C 4 dX12_laysEndingRow_25 rfl ?_
            refine j_callVi C (d := 0) (As := [.int (sI a206), .int (sI a252)]) (st := []) 98 (s_lt rfl rfl) (s_kc (c := 11) rfl rfl) (by decide) rfl (s1_X12_boughtBy hM208 a206 (by (clear u256 u255g u255o u255i u255v u255l u255y u254w u254D u254C u254B u254A h253 ih250 u212z u212 u212g u212D u212C u212B u212A h211 u210b fM208 hM208 ih204 u108s u108e u108p u108z ua107 la107 ea107 h105 fM103 hM103 u101r27 u101r1 u101r26 hret C hp0 hcw hpr hM0; omega)) a252 (by (clear u255g u255o u255i u255v u255l u255y u254w u254D u254C u254B u254A ih250 u212z u212 u212g u212D u212C u212B u212A h211 u210b fM208 hM208 h209 ih204 u108s u108e u108p u108z ua107 la107 ea107 h105 fM103 hM103 u101r27 u101r1 u101r26 hret C hp0 hcw hpr hM0; omega)) (by exact ⟨h209.1, h209.2.1⟩) (by exact ⟨u256.1, u256.2⟩)) gX12_laysEndingRow_X12_boughtBy rfl hdX12_boughtBy (by decide) (Nat.le_of_ble_eq_true rfl) dX12_laysEndingRow_27 rfl (fun r257 M258 h259 => ?_)
            obtain ⟨a261, rfl, rfl, h260⟩ := h259
            obtain rfl : a261 = ((M208.1 106 (6 * a206 + a252).toNat).toInt) := by exact h260.2.2
            refine y_iconst C dX12_laysEndingRow_30 ?_
            refine y_icmp_eq C 73 dX12_laysEndingRow_31 (by decide) (by exact ⟨⟨(by (clear u256 u255g u255o u255i u255y u254w u254D u254C u254B u254A h253 ih250 u212z u212 u212g u212D u212C u212B u212A h211 u210b fM208 hM208 h209 ih204 u108s u108e u108p u108z ua107 la107 ea107 h105 fM103 hM103 u101r27 u101r1 u101r26 hret C hp0 hcw hpr hM0; omega)), (by (clear u256 u255g u255o u255i u255y u254w u254D u254C u254B u254A h253 ih250 u212z u212 u212g u212D u212C u212B u212A h211 u210b fM208 hM208 h209 ih204 u108s u108e u108p u108z ua107 la107 ea107 h105 fM103 hM103 u101r27 u101r1 u101r26 hret C hp0 hcw hpr hM0; omega))⟩, ⟨(by decide), (by decide)⟩⟩) (fun h262 => ?_) (fun h262 => ?_)
            · have u263 := wt_s (M := M208) (s := a206) (b := a252) (v := a106 - a207) (T := (M208.1 106 (6 * a206 + a252).toNat).toInt) (by exact h253.2.2.1) rfl (by (clear h260 u256 u255g u255o u255i u255v u255y u254w u254D u254C u254B u254A h253 ih250 u212z u212 u212g u212D u212C u212B u212A h211 u210b fM208 hM208 h209 ih204 u108s u108e u108p u108z ua107 la107 ea107 h105 fM103 hM103 u101r27 u101r1 u101r26 hret C hp0 hcw hpr hM0; omega))
              refine y_iinc C 4 [(4, .int (sI (a252 + 1))), (0, .ref (ad 98)), (1, .int (sI a106)), (2, .int (sI a206)), (3, .int (sI a207))] dX12_laysEndingRow_73 rfl (by decide) rfl ?_
              refine j_goto C 23 dX12_laysEndingRow_76 (by decide) ?_
              refine j_lv [1, 2, 3, 4, 0] rfl ?_; exact ih250 (a252 + 1) (by exact ⟨(by (clear h260 u255o u255i u254w u254D u254C u254B u254A ih250 u212z u212 u212g u212D u212C u212B u212A h211 u210b fM208 hM208 h209 ih204 u108s u108e u108p u108z ua107 la107 ea107 h105 fM103 hM103 u101r27 u101r1 u101r26 hret C hp0 hcw hpr hM0; omega)), ⟨(by (clear h260 u255o u255i u254w u254D u254C u254B u254A ih250 u212z u212 u212g u212D u212C u212B u212A h211 u210b fM208 hM208 h209 ih204 u108s u108e u108p u108z ua107 la107 ea107 h105 fM103 hM103 u101r27 u101r1 u101r26 hret C hp0 hcw hpr hM0; omega)), ⟨u263, ⟨(by (clear h260 u255o u255i u254w u254D u254C u254B u254A ih250 u212z u212 u212g u212D u212C u212B u212A h211 u210b fM208 hM208 h209 ih204 u108s u108e u108p u108z ua107 la107 ea107 h105 fM103 hM103 u101r27 u101r1 u101r26 hret C hp0 hcw hpr hM0; omega)), (by (clear h260 u255o u255i u254w u254D u254C u254B u254A ih250 u212z u212 u212g u212D u212C u212B u212A h211 u210b fM208 hM208 h209 ih204 u108s u108e u108p u108z ua107 la107 ea107 h105 fM103 hM103 u101r27 u101r1 u101r26 hret C hp0 hcw hpr hM0; omega))⟩⟩⟩⟩)
            · refine j_iload_n C 2 2 dX12_laysEndingRow_34 rfl rfl ?_
              refine y_i2l C dX12_laysEndingRow_35 (by omega) ?_
              refine j_aload_n C 0 0 dX12_laysEndingRow_36 rfl rfl ?_
              refine j_iload_n C 2 2 dX12_laysEndingRow_37 rfl rfl ?_
              refine j_iload C 4 dX12_laysEndingRow_38 rfl ?_
              refine j_callVi C (d := 0) (As := [.int (sI a206), .int (sI a252)]) (st := [.long (sJ a206)]) 98 (s_lt rfl rfl) (s_kc (c := 11) rfl rfl) (by decide) rfl (s1_X12_boughtBy hM208 a206 (by omega) a252 (by omega) (by exact ⟨h209.1, h209.2.1⟩) (by exact ⟨u256.1, u256.2⟩)) gX12_laysEndingRow_X12_boughtBy rfl hdX12_boughtBy (by decide) (Nat.le_of_ble_eq_true rfl) dX12_laysEndingRow_40 rfl (fun r265 M266 h267 => ?_)
              obtain ⟨a269, rfl, rfl, h268⟩ := h267
              obtain rfl : a269 = ((M208.1 106 (6 * a206 + a252).toNat).toInt) := by exact h268.2.2
              refine j_callSi C (d := 0) (As := [.long (sJ a206), .int (sI ((M208.1 106 (6 * a206 + a252).toNat).toInt))]) (st := []) (s1_X12_isIn hM208 a206 (by (clear h268 h262 h260 u256 u255g u255o u255i u255v u255l u255y u254w u254D u254C u254B u254A h253 ih250 u212z u212 u212g u212D u212C u212B u212A h211 u210b fM208 hM208 ih204 u108s u108e u108p u108z ua107 la107 ea107 h105 fM103 hM103 u101r27 u101r1 u101r26 hret C hp0 hcw hpr hM0; omega)) ((M208.1 106 (6 * a206 + a252).toNat).toInt) (by (clear h268 h262 u256 u255g u255o u255i u255y u254w u254D u254C u254B u254A h253 ih250 u212z u212 u212g u212D u212C u212B u212A h211 u210b fM208 hM208 h209 ih204 u108s u108e u108p u108z ua107 la107 ea107 h105 fM103 hM103 u101r27 u101r1 u101r26 hret C hp0 hcw hpr hM0; omega))) gX12_laysEndingRow_X12_isIn rfl hdX12_isIns (by decide) (Nat.le_of_ble_eq_true rfl) dX12_laysEndingRow_43 rfl (fun r270 M271 h272 => ?_)
              obtain ⟨a274, rfl, rfl, h273⟩ := h272
              obtain rfl : a274 = (iiF a206 ((M208.1 106 (6 * a206 + a252).toNat).toInt)) := by exact h273.2.2
              refine y_if_ne C 73 dX12_laysEndingRow_46 (by decide) (by (clear h268 h262 h260 u256 u255g u255o u255v u255l u255y u254w u254D u254C u254B u254A h253 ih250 u212z u212 u212g u212D u212C u212B u212A h211 u210b fM208 hM208 h209 ih204 u108s u108e u108p u108z ua107 la107 ea107 h105 fM103 hM103 u101r27 u101r1 u101r26 hret C hp0 hcw hpr hM0; omega)) (fun h275 => ?_) (fun h275 => ?_)
              · have u276 := wt_s (M := M208) (s := a206) (b := a252) (v := a106 - a207) (T := (M208.1 106 (6 * a206 + a252).toNat).toInt) (by exact h253.2.2.1) rfl (by (clear h273 h268 h262 u256 u255g u255o u255y u254w u254D u254C u254B u254A h253 ih250 u212z u212 u212g u212D u212C u212B u212A h211 u210b fM208 hM208 h209 ih204 u108s u108e u108p u108z ua107 la107 ea107 h105 fM103 hM103 u101r27 u101r1 u101r26 hret C hp0 hcw hpr hM0; omega))
                refine y_iinc C 4 [(4, .int (sI (a252 + 1))), (0, .ref (ad 98)), (1, .int (sI a106)), (2, .int (sI a206)), (3, .int (sI a207))] dX12_laysEndingRow_73 rfl (by decide) rfl ?_
                refine j_goto C 23 dX12_laysEndingRow_76 (by decide) ?_
                refine j_lv [1, 2, 3, 4, 0] rfl ?_; exact ih250 (a252 + 1) (by exact ⟨(by (clear h268 u255o u254w u254D u254C u254B u254A ih250 u212z u212 u212g u212D u212C u212B u212A h211 u210b fM208 hM208 h209 ih204 u108s u108e u108p u108z ua107 la107 ea107 h105 fM103 hM103 u101r27 u101r1 u101r26 hret C hp0 hcw hpr hM0; omega)), ⟨(by (clear h268 u255o u254w u254D u254C u254B u254A ih250 u212z u212 u212g u212D u212C u212B u212A h211 u210b fM208 hM208 h209 ih204 u108s u108e u108p u108z ua107 la107 ea107 h105 fM103 hM103 u101r27 u101r1 u101r26 hret C hp0 hcw hpr hM0; omega)), ⟨u276, ⟨(by (clear h268 u255o u254w u254D u254C u254B u254A ih250 u212z u212 u212g u212D u212C u212B u212A h211 u210b fM208 hM208 h209 ih204 u108s u108e u108p u108z ua107 la107 ea107 h105 fM103 hM103 u101r27 u101r1 u101r26 hret C hp0 hcw hpr hM0; omega)), (by (clear h268 u255o u254w u254D u254C u254B u254A ih250 u212z u212 u212g u212D u212C u212B u212A h211 u210b fM208 hM208 h209 ih204 u108s u108e u108p u108z ua107 la107 ea107 h105 fM103 hM103 u101r27 u101r1 u101r26 hret C hp0 hcw hpr hM0; omega))⟩⟩⟩⟩)
              · refine j_aload_n C 0 0 dX12_laysEndingRow_49 rfl rfl ?_
                refine y_getC C 11 107 fX12_laysEndingRow_42 rfl rfl ft_11_20 sm_11_20 rfl hM208 dX12_laysEndingRow_50 ?_
                refine j_iload_n C 2 2 dX12_laysEndingRow_53 rfl rfl ?_
                refine y_iconst C dX12_laysEndingRow_54 ?_
                refine j_aload_n C 0 0 dX12_laysEndingRow_55 rfl rfl ?_
                refine j_iload_n C 2 2 dX12_laysEndingRow_56 rfl rfl ?_
                refine j_iload C 4 dX12_laysEndingRow_57 rfl ?_
                refine j_callVi C (d := 0) (As := [.int (sI a206), .int (sI a252)]) (st := [.int (sI 1), .int (sI a206), .ref (ad 107)]) 98 (s_lt rfl rfl) (s_kc (c := 11) rfl rfl) (by decide) rfl (s1_X12_boughtBy hM208 a206 (by omega) a252 (by omega) (by exact ⟨h209.1, h209.2.1⟩) (by exact ⟨u256.1, u256.2⟩)) gX12_laysEndingRow_X12_boughtBy rfl hdX12_boughtBy (by decide) (Nat.le_of_ble_eq_true rfl) dX12_laysEndingRow_59 rfl (fun r278 M279 h280 => ?_)
                obtain ⟨a282, rfl, rfl, h281⟩ := h280
                obtain rfl : a282 = ((M208.1 106 (6 * a206 + a252).toNat).toInt) := by exact h281.2.2
                refine e_shl1 C 7 128 dX12_laysEndingRow_62 rfl (by decide) (by (clear h281 h275 h273 h268 u256 u255g u255o u255i u255y u254w u254D u254C u254B u254A h253 ih250 u212z u212 u212g u212D u212C u212B u212A h211 u210b fM208 hM208 h209 ih204 u108s u108e u108p u108z ua107 la107 ea107 h105 fM103 hM103 u101r27 u101r1 u101r26 hret C hp0 hcw hpr hM0; omega)) (fun lb283 ub283 => ?_)
                refine e_iorN C 8 255 dX12_laysEndingRow_63 rfl (by decide) (by exact ⟨h209.1, ⟨h209.2.1, ⟨(by (clear h281 h275 h273 h268 h262 h260 u256 u255g u255o u255i u255v u255l u255y u254w u254D u254C u254B u254A h253 ih250 u212z u212 u212g u212D u212C u212B u212A h211 u210b fM208 hM208 ih204 u108s u108e u108p u108z ua107 la107 ea107 h105 fM103 hM103 u101r27 u101r1 u101r26 hret C hp0 hcw hpr hM0; omega)), (by (clear h281 h275 h273 h268 h262 h260 u256 u255g u255o u255i u255v u255l u255y u254w u254D u254C u254B u254A h253 ih250 u212z u212 u212g u212D u212C u212B u212A h211 u210b fM208 hM208 ih204 u108s u108e u108p u108z ua107 la107 ea107 h105 fM103 hM103 u101r27 u101r1 u101r26 hret C hp0 hcw hpr hM0; omega))⟩⟩⟩) (fun lb284 ub284 ob284 => ?_)
                refine y_iald C 53 256 _ _ rfl rfl rfl ak_53 an_53 rfl (sb_53 _) hM208 dX12_laysEndingRow_64 (by exact ⟨lb284, (by (clear ob284 ub283 lb283 h281 h275 h273 h268 h262 h260 u256 u255g u255i u255v u255l u255y u254w u254D u254C u254B u254A h253 ih250 u212z u212 u212g u212D u212C u212B u212A h211 u210b fM208 hM208 h209 ih204 u108s u108e u108p u108z ua107 la107 ea107 h105 fM103 hM103 u101r27 u101r1 u101r26 hret C hp0 hcw hpr hM0; omega))⟩) (fun a285 ea285 la285 ua285 => ?_)
                obtain rfl : a285 = (M208.1 107 ((orI a206 (pw2 ((M208.1 106 (6 * a206 + a252).toNat).toInt)))).toNat).toInt := ea285
                refine j_iload_n C 1 1 dX12_laysEndingRow_65 rfl rfl ?_
                refine j_iload_n C 3 3 dX12_laysEndingRow_66 rfl rfl ?_
                refine y_isub C dX12_laysEndingRow_67 ?_
                refine y_iconst C dX12_laysEndingRow_68 ?_
                refine y_isub C dX12_laysEndingRow_69 ?_
                refine y_icmp_eq C 79 dX12_laysEndingRow_70 (by decide) (by (clear ob284 ub284 lb284 ub283 lb283 h281 h275 h273 h268 h262 h260 u256 u255g u255o u255i u255v u255l u255y u254w u254D u254C u254B u254A h253 ih250 u212z u212 u212g u212D u212C u212B u212A u210b fM208 hM208 ih204 u108s u108e u108p u108z ua107 la107 ea107 fM103 hM103 u101r27 u101r1 u101r26 hret C hp0 hcw hpr hM0; omega)) (fun h286 => ?_) (fun h286 => ?_)
                · have u289e := ev_or (M := M208) (s := a206) (b := a252) (k := (M208.1 106 (6 * a206 + a252).toNat).toInt) (by exact h209.2.2.2.2.2.1) rfl (by exact ⟨h209.1, ⟨(by (clear h286 ua285 la285 ob284 ub284 lb284 ub283 lb283 h281 h275 h273 h268 u255g u255o u255i u255y u254D u254C u254B u254A ih250 u212z u212 u212g u212D u212B h211 u210b fM208 hM208 ih204 u108s u108e u108p u108z ua107 la107 ea107 h105 fM103 hM103 u101r27 u101r1 hret C hp0 hcw hpr hM0; omega)), ⟨h253.1, ⟨u254w, ⟨(by (clear h286 ua285 la285 ob284 ub284 lb284 ub283 lb283 h281 h275 h273 h268 u255g u255o u255i u255y u254D u254C u254B u254A ih250 u212z u212 u212g u212D u212B h211 u210b fM208 hM208 ih204 u108s u108e u108p u108z ua107 la107 ea107 h105 fM103 hM103 u101r27 u101r1 hret C hp0 hcw hpr hM0; omega)), ⟨(by (clear h286 ua285 la285 ob284 ub284 lb284 ub283 lb283 h281 h275 h273 h268 u255g u255o u255i u255y u254D u254C u254B u254A ih250 u212z u212 u212g u212D u212B h211 u210b fM208 hM208 ih204 u108s u108e u108p u108z ua107 la107 ea107 h105 fM103 hM103 u101r27 u101r1 hret C hp0 hcw hpr hM0; omega)), (by (clear h286 ua285 la285 ob284 ub284 lb284 ub283 lb283 h281 h275 h273 h268 u255g u255o u255i u255y u254D u254C u254B u254A ih250 u212z u212 u212g u212D u212B h211 u210b fM208 hM208 ih204 u108s u108e u108p u108z ua107 la107 ea107 h105 fM103 hM103 u101r27 u101r1 hret C hp0 hcw hpr hM0; omega))⟩⟩⟩⟩⟩⟩)
                  have u289c : a252 = nbS (M0.1 99) a206 (a106 - a207 - 1) 6 0 := by (clear u289e ua285 la285 ob284 ub284 lb284 ub283 lb283 h281 h273 h268 u256 u255o u254w u254D u254C u254B u254A ih250 u212z u212 u212g u212D u212C u212B u212A h211 u210b fM208 hM208 h209 ih204 u108s u108e u108p u108z ua107 la107 ea107 fM103 hM103 u101r27 u101r1 u101r26 hret C hp0 hcw hpr hM0; omega)
                  have u289r := ro_s (f := (M0.1 99)) (m := a106) (i := a207) (i' := a207 + 1) (s := a206) (b := a252) (by (clear u289c u289e h286 ua285 la285 ob284 ub284 lb284 ub283 lb283 h281 h275 h273 h268 h262 h260 u256 u255g u255o u255i u255v u255l u255y u254w u254D u254C u254B u254A h253 ih250 u212z u212 u212g u212D u212C u212B u212A h211 u210b fM208 hM208 ih204 u108s u108e u108p u108z ua107 la107 ea107 h105 fM103 hM103 u101r27 u101r1 u101r26 hret C hp0 hcw hpr hM0; omega)) (by exact h209.2.2.2.2.2.2.2.2.1) u289c
                  have u289p : orI a206 (pw2 (M208.1 106 (6 * a206 + a252).toNat).toInt) = roS (M0.1 99) a106 (a207 + 1).toNat := by rw [show (M208.1 106 (6 * a206 + a252).toNat).toInt = (boF (M0.1 99) a252 a206) by exact u255l]; exact u289r.2
                  have u289q := u289r.1
                  refine j_aload_n C 0 0 dX12_laysEndingRow_79 rfl rfl ?_
                  refine y_getC C 11 108 fX12_laysEndingRow_45 rfl rfl ft_11_21 sm_11_21 rfl hM208 dX12_laysEndingRow_80 ?_
                  refine j_iload_n C 3 3 dX12_laysEndingRow_83 rfl rfl ?_
                  refine j_iload C 4 dX12_laysEndingRow_84 rfl ?_
                  refine y_iast C 54 256 _ _ rfl rfl rfl ak_54 an_54 rfl (sb_54 _) hM208 (PM.w hpr rfl rfl) dX12_laysEndingRow_86 (by exact ⟨h209.2.2.1, (by (clear u289q u289p u289r u289c u289e h286 ua285 la285 ob284 ub284 lb284 ub283 lb283 h281 h275 h273 h268 h262 h260 u256 u255g u255o u255i u255v u255l u255y u254w u254D u254C u254B u254A h253 ih250 u212z u212 u212g u212D u212C u212B u212A h211 u210b fM208 hM208 ih204 u108s u108e u108p u108z ua107 la107 ea107 h105 fM103 hM103 u101r27 u101r1 u101r26 hret C hp0 hcw hpr hM0; omega))⟩) (by exact ⟨⟨(by (clear u289q u289p u289e h286 ua285 la285 ob284 ub284 lb284 ub283 lb283 h281 h275 h273 h268 h262 h260 u255g u255o u255i u255v u255l u255y u254w u254D u254C u254B u254A ih250 u212z u212 u212g u212D u212C u212B u212A h211 u210b fM208 hM208 h209 ih204 u108s u108e u108p u108z ua107 la107 ea107 h105 fM103 hM103 u101r27 u101r1 u101r26 hret C hp0 hcw hpr hM0; omega)), (by (clear u289q u289p u289e h286 ua285 la285 ob284 ub284 lb284 ub283 lb283 h281 h275 h273 h268 h262 h260 u255g u255o u255i u255v u255l u255y u254w u254D u254C u254B u254A ih250 u212z u212 u212g u212D u212C u212B u212A h211 u210b fM208 hM208 h209 ih204 u108s u108e u108p u108z ua107 la107 ea107 h105 fM103 hM103 u101r27 u101r1 u101r26 hret C hp0 hcw hpr hM0; omega))⟩, ⟨h253.1, u256.2⟩⟩) (fun M290 eM290 hM290 => ?_)
                  have pM290 := pi_o eM290 (by decide) (by decide) (by exact h209.2.2.2.2.2.2.2.2.2.2.2.2.2.1)
                  have u291l := le_c (M := M208) (N := M290) (s := -1) (wI_cell eM290 (by decide)) (wI_cell eM290 (by decide)) (wI_cell eM290 (by decide)) (by exact h209.2.2.2.2.1)
                  have u291b := lb_c (M := M208) (N := M290) (wI_cell eM290 (by decide)) (wI_cell eM290 (by decide)) (by exact h209.2.2.2.2.2.1)
                  refine j_iload_n C 2 2 dX12_laysEndingRow_87 rfl rfl ?_
                  refine y_iconst C dX12_laysEndingRow_88 ?_
                  refine j_aload_n C 0 0 dX12_laysEndingRow_89 rfl rfl ?_
                  refine j_iload_n C 2 2 dX12_laysEndingRow_90 rfl rfl ?_
                  refine j_iload C 4 dX12_laysEndingRow_91 rfl ?_
                  refine j_callVi C (d := 0) (As := [.int (sI a206), .int (sI a252)]) (st := [.int (sI 1), .int (sI a206)]) 98 (s_lt rfl rfl) (s_kc (c := 11) rfl rfl) (by decide) rfl (s1_X12_boughtBy hM290 a206 (by (clear u291b u291l pM290 hM290 eM290 u289q u289p u289r u289c u289e h286 ua285 la285 ob284 ub284 lb284 ub283 lb283 h281 h275 h273 h268 h262 h260 u256 u255g u255o u255i u255v u255l u255y u254w u254D u254C u254B u254A h253 ih250 u212z u212 u212g u212D u212C u212B u212A h211 u210b fM208 hM208 ih204 u108s u108e u108p u108z ua107 la107 ea107 h105 fM103 hM103 u101r27 u101r1 u101r26 hret C hp0 hcw hpr hM0; omega)) a252 (by (clear u291b u291l pM290 hM290 eM290 u289q u289p u289e h286 ua285 la285 ob284 ub284 lb284 ub283 lb283 h281 h275 h273 h268 h262 h260 u255g u255o u255i u255v u255l u255y u254w u254D u254C u254B u254A ih250 u212z u212 u212g u212D u212C u212B u212A h211 u210b fM208 hM208 h209 ih204 u108s u108e u108p u108z ua107 la107 ea107 h105 fM103 hM103 u101r27 u101r1 u101r26 hret C hp0 hcw hpr hM0; omega)) (by exact ⟨h209.1, h209.2.1⟩) (by exact ⟨u256.1, u256.2⟩)) gX12_laysEndingRow_X12_boughtBy rfl hdX12_boughtBy (by decide) (Nat.le_of_ble_eq_true rfl) dX12_laysEndingRow_93 rfl (fun r292 M293 h294 => ?_)
                  obtain ⟨a296, rfl, rfl, h295⟩ := h294
                  rw [show M290.1 106 = M208.1 106 from (wI_cell eM290 (by decide))] at h295
                  obtain rfl : a296 = ((M208.1 106 (6 * a206 + a252).toNat).toInt) := by exact h295.2.2
                  refine e_shl1 C 7 128 dX12_laysEndingRow_96 rfl (by decide) (by (clear h295 u291b u291l pM290 hM290 eM290 u289q u289p u289r u289c u289e h286 ua285 la285 ob284 ub284 lb284 ub283 lb283 h281 h275 h273 h268 u256 u255g u255o u255i u255y u254w u254D u254C u254B u254A h253 ih250 u212z u212 u212g u212D u212C u212B u212A h211 u210b fM208 hM208 h209 ih204 u108s u108e u108p u108z ua107 la107 ea107 h105 fM103 hM103 u101r27 u101r1 u101r26 hret C hp0 hcw hpr hM0; omega)) (fun lb297 ub297 => ?_)
                  refine e_iorN C 8 255 dX12_laysEndingRow_97 rfl (by decide) (by exact ⟨h209.1, ⟨h209.2.1, ⟨(by (clear ub297 lb297 h295 u291b u291l pM290 hM290 eM290 u289q u289p u289r u289c u289e h286 ua285 la285 ob284 ub284 lb284 h281 h275 h273 h268 h262 h260 u256 u255g u255o u255i u255v u255l u255y u254w u254D u254C u254B u254A h253 ih250 u212z u212 u212g u212D u212C u212B u212A h211 u210b fM208 hM208 ih204 u108s u108e u108p u108z ua107 la107 ea107 h105 fM103 hM103 u101r27 u101r1 u101r26 hret C hp0 hcw hpr hM0; omega)), (by (clear ub297 lb297 h295 u291b u291l pM290 hM290 eM290 u289q u289p u289r u289c u289e h286 ua285 la285 ob284 ub284 lb284 h281 h275 h273 h268 h262 h260 u256 u255g u255o u255i u255v u255l u255y u254w u254D u254C u254B u254A h253 ih250 u212z u212 u212g u212D u212C u212B u212A h211 u210b fM208 hM208 ih204 u108s u108e u108p u108z ua107 la107 ea107 h105 fM103 hM103 u101r27 u101r1 u101r26 hret C hp0 hcw hpr hM0; omega))⟩⟩⟩) (fun lb298 ub298 ob298 => ?_)
                  refine j_istore_n C 2 [(2, .int (sI (orI a206 (pw2 ((M208.1 106 (6 * a206 + a252).toNat).toInt))))), (0, .ref (ad 98)), (1, .int (sI a106)), (3, .int (sI a207)), (4, .int (sI a252))] dX12_laysEndingRow_98 rfl (by decide) rfl ?_
                  have u299s : (M290.1 107 ((orI a206 (pw2 ((M208.1 106 (6 * a206 + a252).toNat).toInt)))).toNat).toInt = (M208.1 107 ((orI a206 (pw2 ((M208.1 106 (6 * a206 + a252).toNat).toInt)))).toNat).toInt := by rw [wI_cell eM290 (by decide)]
                  have u299t : orI a206 (pw2 (M290.1 106 (6 * a206 + a252).toNat).toInt) = orI a206 (pw2 (M208.1 106 (6 * a206 + a252).toNat).toInt) := by rw [show M290.1 106 = M208.1 106 from wI_cell eM290 (by decide)]
                  refine y_iinc C 3 [(3, .int (sI (a207 + 1))), (2, .int (sI (orI a206 (pw2 ((M208.1 106 (6 * a206 + a252).toNat).toInt))))), (0, .ref (ad 98)), (1, .int (sI a106)), (4, .int (sI a252))] dX12_laysEndingRow_99 rfl (by decide) rfl ?_
                  refine j_goto C 15 dX12_laysEndingRow_102 (by decide) ?_
                  have u300e := er_s (M := M208) (N := M290) (f := (M0.1 99)) (m := a106) (n := a207) (n' := a207 + 1) (v := a252) (by exact h209.2.2.2.2.2.2.2.2.2.1) eM290 (by (clear u299t u299s ob298 ub298 lb298 ub297 lb297 h295 u291b u291l pM290 hM290 eM290 u289q u289p u289e h286 ua285 la285 ob284 ub284 lb284 ub283 lb283 h281 h275 h273 h268 h262 h260 u255g u255o u255i u255v u255l u255y u254w u254D u254C u254B u254A ih250 u212z u212 u212g u212D u212C u212B u212A h211 u210b fM208 hM208 ih204 u108s u108e u108p u108z ua107 la107 ea107 h105 fM103 hM103 u101r27 u101r1 u101r26 hret C hp0 hcw hpr hM0; omega))
                  have u300d := dq_c (M := M208) (N := M290) (f := (M0.1 99)) (a := -1) (s := -1) (wI_cell eM290 (by decide)) (by exact h209.2.2.2.2.2.2.2.2.2.2.1)
                  have u300l := lf_c (M := M208) (N := M290) (f := (M0.1 99)) (wI_cell eM290 (by decide)) (by exact h209.2.2.2.2.2.2.2.2.2.2.2.1)
                  refine j_lv [2, 3, 1, 0] rfl ?_; exact ih204 (orI a206 (pw2 ((M208.1 106 (6 * a206 + a252).toNat).toInt))) (a207 + 1) M290 (by exact ⟨lb284, ⟨ub284, ⟨(by (clear ob298 ub298 lb298 ub297 lb297 h295 hM290 eM290 u289q u289p u289c ob284 ub283 lb283 h281 h275 h273 h268 h262 h260 u256 u255g u255i u255v u255l u255y u254w u254D u254C u254B u254A h253 ih250 u212z u212 u212g u212D u212C u212B h211 u210b fM208 hM208 ih204 u108s u108e u108p u108z ua107 la107 ea107 fM103 hM103 u101r27 u101r1 u101r26 hret C hp0 hcw hpr hM0; omega)), ⟨(by (clear ob298 ub298 lb298 ub297 lb297 h295 hM290 eM290 u289q u289p u289c ob284 ub283 lb283 h281 h275 h273 h268 h262 h260 u256 u255g u255i u255v u255l u255y u254w u254D u254C u254B u254A h253 ih250 u212z u212 u212g u212D u212C u212B h211 u210b fM208 hM208 ih204 u108s u108e u108p u108z ua107 la107 ea107 fM103 hM103 u101r27 u101r1 u101r26 hret C hp0 hcw hpr hM0; omega)), ⟨u291l, ⟨u291b, ⟨(by (clear ob298 ub298 lb298 ub297 lb297 h295 hM290 eM290 u289q u289p u289c ob284 ub283 lb283 h281 h275 h273 h268 h262 h260 u256 u255g u255i u255v u255l u255y u254w u254D u254C u254B u254A h253 ih250 u212z u212 u212g u212D u212C u212B h211 u210b fM208 hM208 ih204 u108s u108e u108p u108z ua107 la107 ea107 fM103 hM103 u101r27 u101r1 u101r26 hret C hp0 hcw hpr hM0; omega)), ⟨(by (clear ob298 ub298 lb298 ub297 lb297 h295 hM290 eM290 u289q u289p u289c ob284 ub283 lb283 h281 h275 h273 h268 h262 h260 u256 u255g u255i u255v u255l u255y u254w u254D u254C u254B u254A h253 ih250 u212z u212 u212g u212D u212C u212B h211 u210b fM208 hM208 ih204 u108s u108e u108p u108z ua107 la107 ea107 fM103 hM103 u101r27 u101r1 u101r26 hret C hp0 hcw hpr hM0; omega)), ⟨u289p, ⟨u300e, ⟨u300d, ⟨u300l, ⟨(by (clear ob298 ub298 lb298 ub297 lb297 h295 hM290 eM290 u289q u289p u289c ob284 ub283 lb283 h281 h275 h273 h268 h262 h260 u256 u255g u255i u255v u255l u255y u254w u254D u254C u254B u254A h253 ih250 u212z u212 u212g u212D u212C u212B h211 u210b fM208 hM208 ih204 u108s u108e u108p u108z ua107 la107 ea107 fM103 hM103 u101r27 u101r1 u101r26 hret C hp0 hcw hpr hM0; omega)), ⟨pM290, (by (clear ob298 ub298 lb298 ub297 lb297 h295 hM290 eM290 u289q u289p u289c ob284 ub283 lb283 h281 h275 h273 h268 h262 h260 u256 u255g u255i u255v u255l u255y u254w u254D u254C u254B u254A h253 ih250 u212z u212 u212g u212D u212C u212B h211 u210b fM208 hM208 ih204 u108s u108e u108p u108z ua107 la107 ea107 fM103 hM103 u101r27 u101r1 u101r26 hret C hp0 hcw hpr hM0; omega))⟩⟩⟩⟩⟩⟩⟩⟩⟩⟩⟩⟩⟩⟩) hM290 ((FR.rf.tr fM208 (by decide)).wI eM290 (by decide))
                · have u287 := wt_s (M := M208) (s := a206) (b := a252) (v := a106 - a207) (T := (M208.1 106 (6 * a206 + a252).toNat).toInt) (by exact h253.2.2.1) rfl (by (clear ua285 la285 ob284 ub284 lb284 ub283 lb283 h281 h275 h273 h268 h262 u256 u255g u255o u255i u255y u254w u254D u254C u254B u254A h253 ih250 u212z u212 u212g u212D u212C u212B u212A h211 u210b fM208 hM208 h209 ih204 u108s u108e u108p u108z ua107 la107 ea107 fM103 hM103 u101r27 u101r1 u101r26 hret C hp0 hcw hpr hM0; omega))
                  refine y_iinc C 4 [(4, .int (sI (a252 + 1))), (0, .ref (ad 98)), (1, .int (sI a106)), (2, .int (sI a206)), (3, .int (sI a207))] dX12_laysEndingRow_73 rfl (by decide) rfl ?_
                  refine j_goto C 23 dX12_laysEndingRow_76 (by decide) ?_
                  refine j_lv [1, 2, 3, 4, 0] rfl ?_; exact ih250 (a252 + 1) (by exact ⟨(by (clear ua285 la285 ob284 ub284 lb284 ub283 lb283 h281 h273 h268 u255o u254w u254D u254C u254B u254A ih250 u212z u212 u212g u212D u212C u212B u212A h211 u210b fM208 hM208 h209 ih204 u108s u108e u108p u108z ua107 la107 ea107 fM103 hM103 u101r27 u101r1 u101r26 hret C hp0 hcw hpr hM0; omega)), ⟨(by (clear ua285 la285 ob284 ub284 lb284 ub283 lb283 h281 h273 h268 u255o u254w u254D u254C u254B u254A ih250 u212z u212 u212g u212D u212C u212B u212A h211 u210b fM208 hM208 h209 ih204 u108s u108e u108p u108z ua107 la107 ea107 fM103 hM103 u101r27 u101r1 u101r26 hret C hp0 hcw hpr hM0; omega)), ⟨u287, ⟨(by (clear ua285 la285 ob284 ub284 lb284 ub283 lb283 h281 h273 h268 u255o u254w u254D u254C u254B u254A ih250 u212z u212 u212g u212D u212C u212B u212A h211 u210b fM208 hM208 h209 ih204 u108s u108e u108p u108z ua107 la107 ea107 fM103 hM103 u101r27 u101r1 u101r26 hret C hp0 hcw hpr hM0; omega)), (by (clear ua285 la285 ob284 ub284 lb284 ub283 lb283 h281 h273 h268 u255o u254w u254D u254C u254B u254A ih250 u212z u212 u212g u212D u212C u212B u212A h211 u210b fM208 hM208 h209 ih204 u108s u108e u108p u108z ua107 la107 ea107 fM103 hM103 u101r27 u101r1 u101r26 hret C hp0 hcw hpr hM0; omega))⟩⟩⟩⟩)
        refine j_lv [1, 2, 3, 4, 0] rfl ?_; exact L251 2010 0 (by exact ⟨(by decide), ⟨(by decide), ⟨u212, ⟨u212z, (by decide)⟩⟩⟩⟩)
  refine j_lv [3, 2, 1, 0] rfl ?_; exact L205 2010 (M0.1 99 27).toInt 0 M103 (by exact ⟨u101r27.1, ⟨u101r27.2, ⟨(by decide), ⟨(by decide), ⟨h105.2.2.1, ⟨h105.2.2.2.1, ⟨(by (clear L205 ua107 la107 fM103 hM103 u101r1 u101r26 hret C hp0 hcw hpr hM0; omega)), ⟨u108p, ⟨u108s, ⟨u108e, ⟨h105.2.2.2.2.2.2.1, ⟨h105.2.2.2.2.2.1, ⟨(by (clear L205 ua107 la107 fM103 hM103 u101r1 u101r26 hret C hp0 hcw hpr hM0; omega)), ⟨h105.2.2.2.2.2.2.2.2, (by decide)⟩⟩⟩⟩⟩⟩⟩⟩⟩⟩⟩⟩⟩⟩) hM103 (FR.rf.tr fM103 (by decide))
set_option maxHeartbeats 4000000 in
theorem s1_X12_endingBy {l : Launch} {dC : Nat → ClassId} {dI : Nat → Nat → Nat} {ad : Nat → Nat} {cA : Nat → ClassId} {pr : Nat → Nat → Bool} {Kz : mm_M} {M0 : mm_M} (hM0 : INV pr Kz M0) (hpr : PM pr) (hcw : CWK pr Kz) (a1 : Int) (ha1 : -2147483648 ≤ a1 ∧ a1 ≤ 2147483647) (hp0 : b01 (PI M0) = 1) : Ci l 7 yX12_endingBy wsX12_endingBy dC dI ad cA [.ref (ad 98), .int (sI a1)] M0 (fun r M' => ∃ a : Int, r = sI a ∧ INV pr Kz M' ∧ FR [98, 103, 104, 106, 107, 108] M0 M' ∧ (-3) ≤ a ∧ a ≤ 5 ∧ (a = ebA (M0.1 99) a1) ∧ (b01 (PI M') = 1)) := by
  refine ci_of (cc := cX12_endingBy) (maxL := 3) (ty := .int) (lv := [(0, .ref (ad 98)), (1, .int (sI a1))]) (by decide) rfl (fun r M' hp => rfl) (Nat.le_of_ble_eq_true rfl) rfl ?_
  intro p e s m args below meth c A Q C hret
  refine j_aload_n C 0 0 dX12_endingBy_0 rfl rfl ?_
  refine y_iconst C dX12_endingBy_1 ?_
  refine y_putIF C 11 qX12_endingBy_1 rfl rfl ft_11_0 sb_11_0 hM0 (PM.w hpr rfl rfl) dX12_endingBy_2 (fun M101 eM101 hM101 => ?_)
  have pM101 := pi_o eM101 (by decide) (by decide) (by exact hp0)
  refine j_iload_n C 1 1 dX12_endingBy_5 rfl rfl ?_
  refine y_if_ge C 12 dX12_endingBy_6 (by decide) (by exact ⟨ha1.1, ha1.2⟩) (fun h102 => ?_) (fun h102 => ?_)
  · refine j_aload_n C 0 0 dX12_endingBy_12 rfl rfl ?_
    refine j_callVi C (d := 6) (As := []) (st := []) 98 (s_lt rfl rfl) (s_kc (c := 11) rfl rfl) (by decide) rfl (s1_X12_laysEndingRow hM101 hpr hcw (by exact pM101)) gX12_endingBy_X12_laysEndingRow rfl hdX12_laysEndingRow (by decide) (Nat.le_of_ble_eq_true rfl) dX12_endingBy_13 rfl (fun r103 M104 h105 => ?_)
    obtain ⟨a107, rfl, hM104, fM104, h106⟩ := h105
    refine j_istore_n C 2 [(2, .int (sI a107)), (0, .ref (ad 98)), (1, .int (sI a1))] dX12_endingBy_16 rfl (by decide) rfl ?_
    refine j_iload_n C 2 1 dX12_endingBy_17 rfl rfl ?_
    refine j_iload_n C 0 2 dX12_endingBy_18 rfl rfl ?_
    refine y_icmp_ge C 31 dX12_endingBy_19 (by decide) (by exact ⟨⟨ha1.1, ha1.2⟩, ⟨(by (clear fM104 hM104 pM101 hM101 eM101 hret C hp0 hcw hpr hM0; omega)), (by (clear fM104 hM104 pM101 hM101 eM101 hret C hp0 hcw hpr hM0; omega))⟩⟩) (fun h109 => ?_) (fun h109 => ?_)
    · refine y_iconst C dX12_endingBy_31 ?_
      have u110s := ebA_s (M0.1 99) a1
      have u110c : enF (M101.1 99) (-1) = enF (M0.1 99) (-1) := by rw [((wI_cell eM101 (by decide)))]
      have u110r : ¬ (0 ≤ a1 ∧ a1 < enF (M0.1 99) (-1)) ∨ (M104.1 108 (a1).toNat).toInt = roB (M0.1 99) (enF (M0.1 99) (-1)) (a1).toNat := by
        by_cases c : 0 ≤ a1 ∧ a1 < enF (M0.1 99) (-1)
        · refine Or.inr ?_
          have z := b01_e (P := ERW M104 (M101.1 99) a107 a107) (by exact h106.2.2.2.1) (a1).toNat (by omega)
          rw [show a107 = enF (M0.1 99) (-1) by omega, ((wI_cell eM101 (by decide)))] at z
          exact z
        · exact Or.inl c
      exact hret _ _ _ _ dX12_endingBy_32 ⟨(-1), rfl, hM104, ((FR.rf.wI eM101 (by decide)).tr fM104 (by decide)), by exact ⟨(by decide), ⟨(by decide), ⟨(by (clear fM104 hM104 pM101 hM101 eM101 hret C hp0 hcw hpr hM0; omega)), h106.2.2.2.2⟩⟩⟩⟩
    · refine j_aload_n C 1 0 dX12_endingBy_22 rfl rfl ?_
      refine y_getC C 11 108 fX12_endingBy_45 rfl rfl ft_11_21 sm_11_21 rfl hM104 dX12_endingBy_23 ?_
      refine j_iload_n C 2 1 dX12_endingBy_26 rfl rfl ?_
      refine y_iald C 54 256 _ _ rfl rfl rfl ak_54 an_54 rfl (sb_54 _) hM104 dX12_endingBy_27 (by exact ⟨h102, (by (clear fM104 hM104 pM101 hM101 eM101 hret C hp0 hcw hpr hM0; omega))⟩) (fun a111 ea111 la111 ua111 => ?_)
      obtain rfl : a111 = (M104.1 108 (a1).toNat).toInt := ea111
      refine j_goto C 32 dX12_endingBy_28 (by decide) ?_
      have u112s := ebA_s (M0.1 99) a1
      have u112c : enF (M101.1 99) (-1) = enF (M0.1 99) (-1) := by rw [((wI_cell eM101 (by decide)))]
      have u112r : ¬ (0 ≤ a1 ∧ a1 < enF (M0.1 99) (-1)) ∨ (M104.1 108 (a1).toNat).toInt = roB (M0.1 99) (enF (M0.1 99) (-1)) (a1).toNat := by
        by_cases c : 0 ≤ a1 ∧ a1 < enF (M0.1 99) (-1)
        · refine Or.inr ?_
          have z := b01_e (P := ERW M104 (M101.1 99) a107 a107) (by exact h106.2.2.2.1) (a1).toNat (by (clear c u112s ua111 la111 fM104 hM104 pM101 hM101 eM101 hret C hp0 hcw hpr hM0; omega))
          rw [show a107 = enF (M0.1 99) (-1) by (clear z c u112s ua111 la111 h109 fM104 hM104 h102 pM101 hM101 eM101 hret C hp0 ha1 hcw hpr hM0; omega), ((wI_cell eM101 (by decide)))] at z
          exact z
        · exact Or.inl c
      exact hret _ _ _ _ dX12_endingBy_32 ⟨(M104.1 108 (a1).toNat).toInt, rfl, hM104, ((FR.rf.wI eM101 (by decide)).tr fM104 (by decide)), by exact ⟨(by (clear fM104 hM104 pM101 hM101 eM101 hret C hp0 hcw hpr hM0; omega)), ⟨ua111, ⟨(by (clear fM104 hM104 pM101 hM101 eM101 hret C hp0 hcw hpr hM0; omega)), h106.2.2.2.2⟩⟩⟩⟩
  · refine y_bipush C dX12_endingBy_9 rfl ?_
    have u113s := ebA_s (M0.1 99) a1
    exact hret _ _ _ _ dX12_endingBy_11 ⟨(-3), rfl, hM101, (FR.rf.wI eM101 (by decide)), by exact ⟨(by decide), ⟨(by decide), ⟨(by (clear hM101 eM101 hret C hp0 hcw hpr hM0; omega)), pM101⟩⟩⟩⟩
set_option maxHeartbeats 4000000 in
theorem s1_X12_beginsRows {l : Launch} {dC : Nat → ClassId} {dI : Nat → Nat → Nat} {ad : Nat → Nat} {cA : Nat → ClassId} {pr : Nat → Nat → Bool} {Kz : mm_M} {M0 : mm_M} (hM0 : INV pr Kz M0) (hpr : PM pr)  (hp0 : b01 (PI M0) = 1) : Cv l 0 yX12_beginsRows wsX12_beginsRows dC dI ad cA [.ref (ad 98)] M0 (fun M' => INV pr Kz M' ∧ FR [110] M0 M' ∧ (b01 (PI M') = 1)) := by
  refine cv_of (cc := cX12_beginsRows) (maxL := 2) (lv := [(0, .ref (ad 98))]) (by decide) rfl (Nat.le_of_ble_eq_true rfl) rfl ?_
  intro p e s m args below meth c A Q C hret
  refine y_iconst C dX12_beginsRows_0 ?_
  refine j_istore_n C 1 [(1, .int (sI 0)), (0, .ref (ad 98))] dX12_beginsRows_1 rfl (by decide) rfl ?_
  have L292 : ∀ (n290 : Nat), ∀ (a293 : Int) (M294 : mm_M), (0 ≤ a293 ∧ a293 ≤ 256 ∧ (b01 (PI M294) = 1) ∧ (256 - a293) < (n290 : Int)) → INV pr Kz M294 → FR [110] M0 M294 → jj p l e (cn_R 0) s m args below meth c 0 0 Q 2 dC dI ad cA A M294 2 [(0, .ref (ad 98)), (1, .int (sI a293))] [] := by
    intro n290
    induction n290 with
    | zero =>
      intro a293 M294 h295 hM294 fM294
      exfalso; omega
    | succ n290 ih291 =>
      intro a293 M294 h295 hM294 fM294
      refine j_iload_n C 1 1 dX12_beginsRows_2 rfl rfl ?_
      refine y_sipush C dX12_beginsRows_3 rfl ?_
      refine y_icmp_ge C 37 dX12_beginsRows_6 (by decide) (by exact ⟨⟨(by omega), (by omega)⟩, ⟨(by decide), (by decide)⟩⟩) (fun h296 => ?_) (fun h296 => ?_)
      · exact hret _ _ _ dX12_beginsRows_37 ⟨hM294, (FR.rf.tr fM294 (by decide)), by exact h295.2.2.1⟩
      · refine j_aload_n C 0 0 dX12_beginsRows_9 rfl rfl ?_
        refine y_getC C 11 110 fX12_beginsRows_51 rfl rfl ft_11_23 sm_11_23 rfl hM294 dX12_beginsRows_10 ?_
        refine j_iload_n C 1 1 dX12_beginsRows_13 rfl rfl ?_
        refine j_iload_n C 1 1 dX12_beginsRows_14 rfl rfl ?_
        refine j_aload_n C 0 0 dX12_beginsRows_15 rfl rfl ?_
        refine y_getC C 11 99 fX12_beginsRows_13 rfl rfl ft_11_1 sm_11_1 rfl hM294 dX12_beginsRows_16 ?_
        refine y_bipush C dX12_beginsRows_19 rfl ?_
        refine y_ialdH C 45 3543 rfl rfl rfl ak_45 an_45 rfl _ _ hM294 (hr_45_27_27 _ (by exact (by decide)) (by exact (by decide))) dX12_beginsRows_21 (by exact ⟨(by decide), (by decide)⟩) (fun a297 ea297 la297 ua297 => ?_)
        obtain rfl : a297 = (M0.1 99 27).toInt := s_fF fM294 (by decide) (ea297)
        refine y_icmp_ne C 29 dX12_beginsRows_22 (by decide) (by (clear fM294 hM294 ih291 hret C hp0 hpr hM0; omega)) (fun h298 => ?_) (fun h298 => ?_)
        · refine y_lconst C 0 dX12_beginsRows_29 rfl ?_
          refine y_last C 56 256 rfl rfl rfl ak_56 an_56 rfl hM294 (PM.w hpr rfl rfl) dX12_beginsRows_30 (by exact ⟨h295.1, (by omega)⟩) (fun M299 eM299 hM299 => ?_)
          have pM299 := pi_J eM299 (by exact h295.2.2.1)
          refine y_iinc C 1 [(1, .int (sI (a293 + 1))), (0, .ref (ad 98))] dX12_beginsRows_31 rfl (by decide) rfl ?_
          refine j_goto C 2 dX12_beginsRows_34 (by decide) ?_
          refine j_lv [1, 0] rfl ?_; exact ih291 (a293 + 1) M299 (by exact ⟨(by (clear hM299 eM299 h298 ua297 la297 ea297 fM294 hM294 ih291 hret C hp0 hpr hM0; omega)), ⟨(by (clear hM299 eM299 h298 ua297 la297 ea297 fM294 hM294 ih291 hret C hp0 hpr hM0; omega)), ⟨pM299, (by (clear hM299 eM299 h298 ua297 la297 ea297 fM294 hM294 ih291 hret C hp0 hpr hM0; omega))⟩⟩⟩) hM299 ((FR.rf.tr fM294 (by decide)).wJ eM299 (by decide))
        · refine y_lconst C 1 dX12_beginsRows_25 rfl ?_
          refine j_goto C 30 dX12_beginsRows_26 (by decide) ?_
          refine y_last C 56 256 rfl rfl rfl ak_56 an_56 rfl hM294 (PM.w hpr rfl rfl) dX12_beginsRows_30 (by exact ⟨h295.1, (by (clear h296 fM294 hM294 h295 ih291 hret C hp0 hpr hM0; omega))⟩) (fun M300 eM300 hM300 => ?_)
          have pM300 := pi_J eM300 (by exact h295.2.2.1)
          refine y_iinc C 1 [(1, .int (sI (a293 + 1))), (0, .ref (ad 98))] dX12_beginsRows_31 rfl (by decide) rfl ?_
          refine j_goto C 2 dX12_beginsRows_34 (by decide) ?_
          refine j_lv [1, 0] rfl ?_; exact ih291 (a293 + 1) M300 (by exact ⟨(by (clear hM300 eM300 h296 fM294 hM294 ih291 hret C hp0 hpr hM0; omega)), ⟨(by (clear hM300 eM300 h296 fM294 hM294 ih291 hret C hp0 hpr hM0; omega)), ⟨pM300, (by (clear hM300 eM300 h296 fM294 hM294 ih291 hret C hp0 hpr hM0; omega))⟩⟩⟩) hM300 ((FR.rf.tr fM294 (by decide)).wJ eM300 (by decide))
  refine j_lv [1, 0] rfl ?_; exact L292 2010 0 M0 (by exact ⟨(by decide), ⟨(by decide), ⟨hp0, (by decide)⟩⟩⟩) hM0 FR.rf
set_option maxHeartbeats 4000000 in
theorem s1_X12_goesRows {l : Launch} {dC : Nat → ClassId} {dI : Nat → Nat → Nat} {ad : Nat → Nat} {cA : Nat → ClassId} {pr : Nat → Nat → Bool} {Kz : mm_M} {M0 : mm_M} (hM0 : INV pr Kz M0) (hpr : PM pr) (a1 : Int) (ha1 : -2147483648 ≤ a1 ∧ a1 ≤ 2147483647) (a2 : Int) (ha2 : -2147483648 ≤ a2 ∧ a2 ≤ 2147483647) (hp0 : b01 (PI M0) = 1) : Cv l 1 yX12_goesRows wsX12_goesRows dC dI ad cA [.ref (ad 98), .int (sI a1), .int (sI a2)] M0 (fun M' => INV pr Kz M' ∧ FR [110, 111] M0 M' ∧ (b01 (PI M') = 1)) := by
  refine cv_of (cc := cX12_goesRows) (maxL := 6) (lv := [(0, .ref (ad 98)), (1, .int (sI a1)), (2, .int (sI a2))]) (by decide) rfl (Nat.le_of_ble_eq_true rfl) rfl ?_
  intro p e s m args below meth c A Q C hret
  refine y_iconst C dX12_goesRows_0 ?_
  refine j_istore_n C 3 [(3, .int (sI 0)), (0, .ref (ad 98)), (1, .int (sI a1)), (2, .int (sI a2))] dX12_goesRows_1 rfl (by decide) rfl ?_
  have L211 : ∀ (n209 : Nat), ∀ (a212 : Int) (M213 : mm_M), (0 ≤ a212 ∧ a212 ≤ 256 ∧ (b01 (PI M213) = 1) ∧ (256 - a212) < (n209 : Int)) → INV pr Kz M213 → FR [110, 111] M0 M213 → jj p l e (cn_R 1) s m args below meth c 0 0 Q 6 dC dI ad cA A M213 2 [(0, .ref (ad 98)), (1, .int (sI a1)), (2, .int (sI a2)), (3, .int (sI a212))] [] := by
    intro n209
    induction n209 with
    | zero =>
      intro a212 M213 h214 hM213 fM213
      exfalso; omega
    | succ n209 ih210 =>
      intro a212 M213 h214 hM213 fM213
      refine j_iload_n C 3 3 dX12_goesRows_2 rfl rfl ?_
      refine y_sipush C dX12_goesRows_3 rfl ?_
      refine y_icmp_ge C 22 dX12_goesRows_6 (by decide) (by exact ⟨⟨(by (clear fM213 hM213 ih210 hret C hp0 ha2 ha1 hpr hM0; omega)), (by (clear fM213 hM213 ih210 hret C hp0 ha2 ha1 hpr hM0; omega))⟩, ⟨(by decide), (by decide)⟩⟩) (fun h215 => ?_) (fun h215 => ?_)
      · refine y_iconst C dX12_goesRows_22 ?_
        refine j_istore_n C 3 [(3, .int (sI 0)), (0, .ref (ad 98)), (1, .int (sI a1)), (2, .int (sI a2))] dX12_goesRows_23 rfl (by decide) rfl ?_
        have L9615 : ∀ (n9613 : Nat), ∀ (a9616 : Int) (M9617 : mm_M), (0 ≤ a9616 ∧ a9616 ≤ 256 ∧ (b01 (PI M9617) = 1) ∧ (256 - a9616) < (n9613 : Int)) → INV pr Kz M9617 → FR [110, 111] M0 M9617 → jj p l e (cn_R 1) s m args below meth c 0 0 Q 6 dC dI ad cA A M9617 24 [(0, .ref (ad 98)), (1, .int (sI a1)), (2, .int (sI a2)), (3, .int (sI a9616))] [] := by
          intro n9613
          induction n9613 with
          | zero =>
            intro a9616 M9617 h9618 hM9617 fM9617
            exfalso; omega
          | succ n9613 ih9614 =>
            intro a9616 M9617 h9618 hM9617 fM9617
            refine j_iload_n C 3 3 dX12_goesRows_24 rfl rfl ?_
            refine j_aload_n C 0 0 dX12_goesRows_25 rfl rfl ?_
            refine j_callVi C (d := 0) (As := []) (st := [.int (sI a9616)]) 98 (s_lt rfl rfl) (s_kc (c := 11) rfl rfl) (by decide) rfl (s1_X12_everyKind hM9617) gX12_goesRows_X12_everyKind rfl hdX12_everyKind (by decide) (Nat.le_of_ble_eq_true rfl) dX12_goesRows_26 rfl (fun r9619 M9620 h9621 => ?_)
            obtain ⟨a9623, rfl, rfl, h9622⟩ := h9621
            rw [show M9617.1 99 = M0.1 99 from (FR.cell fM9617 (by decide))] at h9622
            obtain rfl : a9623 = (evF (M0.1 99)) := by exact h9622.2.2
            refine y_icmp_gt C 126 dX12_goesRows_29 (by decide) (by (clear fM9617 hM9617 ih9614 h215 fM213 hM213 h214 ih210 hret C hp0 ha2 ha1 hpr hM0; omega)) (fun h9624 => ?_) (fun h9624 => ?_)
            · refine y_iconst C dX12_goesRows_126 ?_
              refine j_istore_n C 3 [(3, .int (sI 0)), (0, .ref (ad 98)), (1, .int (sI a1)), (2, .int (sI a2))] dX12_goesRows_127 rfl (by decide) rfl ?_
              have L10102 : ∀ (n10100 : Nat), ∀ (a10103 : Int) (M10104 : mm_M), (0 ≤ a10103 ∧ a10103 ≤ 256 ∧ (b01 (PI M10104) = 1) ∧ (256 - a10103) < (n10100 : Int)) → INV pr Kz M10104 → FR [110, 111] M0 M10104 → jj p l e (cn_R 1) s m args below meth c 0 0 Q 6 dC dI ad cA A M10104 128 [(0, .ref (ad 98)), (3, .int (sI a10103))] [] := by
                intro n10100
                induction n10100 with
                | zero =>
                  intro a10103 M10104 h10105 hM10104 fM10104
                  exfalso; omega
                | succ n10100 ih10101 =>
                  intro a10103 M10104 h10105 hM10104 fM10104
                  refine j_iload_n C 1 3 dX12_goesRows_128 rfl rfl ?_
                  refine y_sipush C dX12_goesRows_129 rfl ?_
                  refine y_icmp_ge C 153 dX12_goesRows_132 (by decide) (by exact ⟨⟨(by (clear fM10104 hM10104 ih10101 h9624 h9622 fM9617 hM9617 h9618 ih9614 h215 fM213 hM213 h214 ih210 hret C hp0 ha2 ha1 hpr hM0; omega)), (by (clear fM10104 hM10104 ih10101 h9624 h9622 fM9617 hM9617 h9618 ih9614 h215 fM213 hM213 h214 ih210 hret C hp0 ha2 ha1 hpr hM0; omega))⟩, ⟨(by decide), (by decide)⟩⟩) (fun h10106 => ?_) (fun h10106 => ?_)
                  · exact hret _ _ _ dX12_goesRows_153 ⟨hM10104, (FR.rf.tr fM10104 (by decide)), by exact h10105.2.2.1⟩
                  · refine j_aload_n C 0 0 dX12_goesRows_135 rfl rfl ?_
                    refine y_getC C 11 110 fX12_goesRows_51 rfl rfl ft_11_23 sm_11_23 rfl hM10104 dX12_goesRows_136 ?_
                    refine j_iload_n C 1 3 dX12_goesRows_139 rfl rfl ?_
                    refine j_aload_n C 0 0 dX12_goesRows_140 rfl rfl ?_
                    refine y_getC C 11 111 fX12_goesRows_55 rfl rfl ft_11_24 sm_11_24 rfl hM10104 dX12_goesRows_141 ?_
                    refine j_iload_n C 1 3 dX12_goesRows_144 rfl rfl ?_
                    refine y_lald C 57 256 rfl rfl rfl ak_57 an_57 rfl dX12_goesRows_145 (by exact ⟨h10105.1, (by (clear fM10104 hM10104 ih10101 h9624 h9622 fM9617 hM9617 h9618 ih9614 h215 fM213 hM213 h214 ih210 hret C hp0 ha2 ha1 hpr hM0; omega))⟩) (fun a10107 ea10107 la10107 ua10107 => ?_)
                    obtain rfl : a10107 = (M10104.2.1 111 (a10103).toNat).toInt := ea10107
                    refine y_last C 56 256 rfl rfl rfl ak_56 an_56 rfl hM10104 (PM.w hpr rfl rfl) dX12_goesRows_146 (by exact ⟨h10105.1, (by omega)⟩) (fun M10108 eM10108 hM10108 => ?_)
                    have pM10108 := pi_J eM10108 (by exact h10105.2.2.1)
                    refine y_iinc C 1 [(3, .int (sI (a10103 + 1))), (0, .ref (ad 98))] dX12_goesRows_147 rfl (by decide) rfl ?_
                    refine j_goto C 128 dX12_goesRows_150 (by decide) ?_
                    refine j_lv [1, 0] rfl ?_; exact ih10101 (a10103 + 1) M10108 (by exact ⟨(by (clear hM10108 eM10108 ua10107 la10107 fM10104 hM10104 ih10101 h9624 h9622 fM9617 hM9617 h9618 ih9614 h215 fM213 hM213 h214 ih210 hret C hp0 ha2 ha1 hpr hM0; omega)), ⟨(by (clear hM10108 eM10108 ua10107 la10107 fM10104 hM10104 ih10101 h9624 h9622 fM9617 hM9617 h9618 ih9614 h215 fM213 hM213 h214 ih210 hret C hp0 ha2 ha1 hpr hM0; omega)), ⟨pM10108, (by (clear hM10108 eM10108 ua10107 la10107 fM10104 hM10104 ih10101 h9624 h9622 fM9617 hM9617 h9618 ih9614 h215 fM213 hM213 h214 ih210 hret C hp0 ha2 ha1 hpr hM0; omega))⟩⟩⟩) hM10108 ((FR.rf.tr fM10104 (by decide)).wJ eM10108 (by decide))
              refine j_lv [1, 0] rfl ?_; exact L10102 2010 0 M9617 (by exact ⟨(by decide), ⟨(by decide), ⟨h9618.2.2.1, (by decide)⟩⟩⟩) hM9617 (FR.rf.tr fM9617 (by decide))
            · refine y_iconst C dX12_goesRows_32 ?_
              refine j_istore C 4 [(4, .int (sI 0)), (0, .ref (ad 98)), (1, .int (sI a1)), (2, .int (sI a2)), (3, .int (sI a9616))] dX12_goesRows_33 (by decide) rfl ?_
              have L9921 : ∀ (n9919 : Nat), ∀ (a9922 : Int) (M9923 : mm_M), (0 ≤ a9922 ∧ a9922 ≤ 6 ∧ (b01 (PI M9923) = 1) ∧ (6 - a9922) < (n9919 : Int)) → INV pr Kz M9923 → FR [110, 111] M0 M9923 → jj p l e (cn_R 1) s m args below meth c 0 0 Q 6 dC dI ad cA A M9923 35 [(0, .ref (ad 98)), (1, .int (sI a1)), (2, .int (sI a2)), (3, .int (sI a9616)), (4, .int (sI a9922))] [] := by
                intro n9919
                induction n9919 with
                | zero =>
                  intro a9922 M9923 h9924 hM9923 fM9923
                  exfalso; omega
                | succ n9919 ih9920 =>
                  intro a9922 M9923 h9924 hM9923 fM9923
                  refine j_iload C 4 dX12_goesRows_35 rfl ?_
                  refine j_aload_n C 0 0 dX12_goesRows_37 rfl rfl ?_
                  refine y_getC C 11 99 fX12_goesRows_13 rfl rfl ft_11_1 sm_11_1 rfl hM9923 dX12_goesRows_38 ?_
                  refine y_iconst C dX12_goesRows_41 ?_
                  refine y_ialdH C 45 3543 rfl rfl rfl ak_45 an_45 rfl _ _ hM9923 (hr_45_1_1 _ (by exact (by decide)) (by exact (by decide))) dX12_goesRows_42 (by exact ⟨(by decide), (by decide)⟩) (fun a9925 ea9925 la9925 ua9925 => ?_)
                  obtain rfl : a9925 = (M0.1 99 1).toInt := s_fF fM9923 (by decide) (ea9925)
                  refine y_icmp_ge C 120 dX12_goesRows_43 (by decide) (by (clear fM9923 hM9923 ih9920 h9624 h9622 fM9617 hM9617 h9618 ih9614 h215 fM213 hM213 h214 ih210 hret C hp0 ha2 ha1 hpr hM0; omega)) (fun h9926 => ?_) (fun h9926 => ?_)
                  · refine y_iinc C 3 [(3, .int (sI (a9616 + 1))), (0, .ref (ad 98)), (1, .int (sI a1)), (2, .int (sI a2)), (4, .int (sI a9922))] dX12_goesRows_120 rfl (by decide) rfl ?_
                    refine j_goto C 24 dX12_goesRows_123 (by decide) ?_
                    refine j_lv [1, 2, 3, 0] rfl ?_; exact ih9614 (a9616 + 1) M9923 (by exact ⟨(by (clear h9926 ua9925 la9925 ea9925 fM9923 hM9923 ih9920 fM9617 hM9617 ih9614 h215 fM213 hM213 h214 ih210 hret C hp0 ha2 ha1 hpr hM0; omega)), ⟨(by (clear h9926 ua9925 la9925 ea9925 fM9923 hM9923 ih9920 fM9617 hM9617 ih9614 h215 fM213 hM213 h214 ih210 hret C hp0 ha2 ha1 hpr hM0; omega)), ⟨h9924.2.2.1, (by (clear h9926 ua9925 la9925 ea9925 fM9923 hM9923 ih9920 fM9617 hM9617 ih9614 h215 fM213 hM213 h214 ih210 hret C hp0 ha2 ha1 hpr hM0; omega))⟩⟩⟩) hM9923 (FR.rf.tr fM9923 (by decide))
                  · refine j_aload_n C 0 0 dX12_goesRows_46 rfl rfl ?_
                    refine y_getC C 11 110 fX12_goesRows_51 rfl rfl ft_11_23 sm_11_23 rfl hM9923 dX12_goesRows_47 ?_
                    refine j_iload_n C 3 3 dX12_goesRows_50 rfl rfl ?_
                    refine y_lald C 56 256 rfl rfl rfl ak_56 an_56 rfl dX12_goesRows_51 (by exact ⟨h9618.1, (by (clear h9926 ua9925 la9925 ea9925 fM9923 hM9923 h9924 ih9920 fM9617 hM9617 ih9614 h215 fM213 hM213 h214 ih210 hret C hp0 ha2 ha1 hpr hM0; omega))⟩) (fun a9927 ea9927 la9927 ua9927 => ?_)
                    obtain rfl : a9927 = (M9923.2.1 110 (a9616).toNat).toInt := ea9927
                    refine y_lconst C 0 dX12_goesRows_52 rfl ?_
                    refine y_lcmp_le C 120 dX12_goesRows_53 dX12_goesRows_54 (by decide) (by exact ⟨⟨la9927, ua9927⟩, ⟨(by decide), (by decide)⟩⟩) (fun h9928 => ?_) (fun h9928 => ?_)
                    · refine y_iinc C 3 [(3, .int (sI (a9616 + 1))), (0, .ref (ad 98)), (1, .int (sI a1)), (2, .int (sI a2)), (4, .int (sI a9922))] dX12_goesRows_120 rfl (by decide) rfl ?_
                      refine j_goto C 24 dX12_goesRows_123 (by decide) ?_
                      refine j_lv [1, 2, 3, 0] rfl ?_; exact ih9614 (a9616 + 1) M9923 (by exact ⟨(by omega), ⟨(by omega), ⟨h9924.2.2.1, (by omega)⟩⟩⟩) hM9923 (FR.rf.tr fM9923 (by decide))
                    · refine j_aload_n C 0 0 dX12_goesRows_57 rfl rfl ?_
                      refine j_iload_n C 3 3 dX12_goesRows_58 rfl rfl ?_
                      refine j_iload C 4 dX12_goesRows_59 rfl ?_
                      refine j_callVi C (d := 0) (As := [.int (sI a9616), .int (sI a9922)]) (st := []) 98 (s_lt rfl rfl) (s_kc (c := 11) rfl rfl) (by decide) rfl (s1_X12_boughtBy hM9923 a9616 (by omega) a9922 (by (clear h9928 ua9927 la9927 h9926 ua9925 la9925 ea9925 fM9923 hM9923 ih9920 h9624 h9622 fM9617 hM9617 h9618 ih9614 h215 fM213 hM213 h214 ih210 hret C hp0 ha2 ha1 hpr hM0; omega)) (by exact ⟨h9618.1, (by (clear h9928 ua9927 la9927 h9926 ua9925 la9925 ea9925 fM9923 hM9923 h9924 ih9920 fM9617 hM9617 ih9614 h215 fM213 hM213 h214 ih210 hret C hp0 ha2 ha1 hpr hM0; omega))⟩) (by exact ⟨h9924.1, (by (clear h9928 ua9927 la9927 fM9923 hM9923 ih9920 h9624 h9622 fM9617 hM9617 h9618 ih9614 h215 fM213 hM213 h214 ih210 hret C hp0 ha2 ha1 hpr hM0; omega))⟩)) gX12_goesRows_X12_boughtBy rfl hdX12_boughtBy (by decide) (Nat.le_of_ble_eq_true rfl) dX12_goesRows_61 rfl (fun r9929 M9930 h9931 => ?_)
                      obtain ⟨a9933, rfl, rfl, h9932⟩ := h9931
                      rw [show M9923.1 106 = M0.1 106 from (FR.cell fM9923 (by decide))] at h9932
                      obtain rfl : a9933 = ((M0.1 106 (6 * a9616 + a9922).toNat).toInt) := by exact h9932.2.2
                      refine j_istore C 5 [(5, .int (sI ((M0.1 106 (6 * a9616 + a9922).toNat).toInt))), (0, .ref (ad 98)), (1, .int (sI a1)), (2, .int (sI a2)), (3, .int (sI a9616)), (4, .int (sI a9922))] dX12_goesRows_64 (by decide) rfl ?_
                      refine j_iload C 0 dX12_goesRows_66 rfl ?_
                      refine y_iconst C dX12_goesRows_68 ?_
                      refine y_icmp_eq C 114 dX12_goesRows_69 (by decide) (by exact ⟨⟨(by (clear h9928 ua9927 la9927 h9926 ua9925 la9925 ea9925 fM9923 hM9923 h9924 ih9920 h9624 h9622 fM9617 hM9617 h9618 ih9614 h215 fM213 hM213 h214 ih210 hret C hp0 ha2 ha1 hpr hM0; omega)), (by (clear h9928 ua9927 la9927 h9926 ua9925 la9925 ea9925 fM9923 hM9923 h9924 ih9920 h9624 h9622 fM9617 hM9617 h9618 ih9614 h215 fM213 hM213 h214 ih210 hret C hp0 ha2 ha1 hpr hM0; omega))⟩, ⟨(by decide), (by decide)⟩⟩) (fun h9934 => ?_) (fun h9934 => ?_)
                      · refine y_iinc C 5 [(4, .int (sI (a9922 + 1))), (5, .int (sI ((M0.1 106 (6 * a9616 + a9922).toNat).toInt))), (0, .ref (ad 98)), (1, .int (sI a1)), (2, .int (sI a2)), (3, .int (sI a9616))] dX12_goesRows_114 rfl (by decide) rfl ?_
                        refine j_goto C 35 dX12_goesRows_117 (by decide) ?_
                        refine j_lv [2, 3, 4, 5, 0] rfl ?_; exact ih9920 (a9922 + 1) M9923 (by exact ⟨(by (clear h9934 h9932 h9928 ua9927 la9927 fM9923 hM9923 ih9920 h9624 h9622 fM9617 hM9617 h9618 ih9614 h215 fM213 hM213 h214 ih210 hret C hp0 ha2 ha1 hpr hM0; omega)), ⟨(by (clear h9934 h9932 h9928 ua9927 la9927 fM9923 hM9923 ih9920 h9624 h9622 fM9617 hM9617 h9618 ih9614 h215 fM213 hM213 h214 ih210 hret C hp0 ha2 ha1 hpr hM0; omega)), ⟨h9924.2.2.1, (by (clear h9934 h9932 h9928 ua9927 la9927 fM9923 hM9923 ih9920 h9624 h9622 fM9617 hM9617 h9618 ih9614 h215 fM213 hM213 h214 ih210 hret C hp0 ha2 ha1 hpr hM0; omega))⟩⟩⟩) hM9923 (FR.rf.tr fM9923 (by decide))
                      · refine j_iload_n C 2 1 dX12_goesRows_72 rfl rfl ?_
                        refine y_iconst C dX12_goesRows_73 ?_
                        refine y_icmp_eq C 83 dX12_goesRows_74 (by decide) (by exact ⟨⟨ha1.1, ha1.2⟩, ⟨(by decide), (by decide)⟩⟩) (fun h9935 => ?_) (fun h9935 => ?_)
                        · refine j_iload_n C 3 2 dX12_goesRows_83 rfl rfl ?_
                          refine y_iconst C dX12_goesRows_84 ?_
                          refine y_icmp_eq C 94 dX12_goesRows_85 (by decide) (by exact ⟨⟨ha2.1, ha2.2⟩, ⟨(by decide), (by decide)⟩⟩) (fun h9936 => ?_) (fun h9936 => ?_)
                          · refine j_aload_n C 1 0 dX12_goesRows_94 rfl rfl ?_
                            refine y_getC C 11 111 fX12_goesRows_55 rfl rfl ft_11_24 sm_11_24 rfl hM9923 dX12_goesRows_95 ?_
                            refine j_iload_n C 4 3 dX12_goesRows_98 rfl rfl ?_
                            refine y_iconst C dX12_goesRows_99 ?_
                            refine j_iload C 0 dX12_goesRows_100 rfl ?_
                            refine e_shl1 C 7 128 dX12_goesRows_102 rfl (by decide) (by (clear h9936 h9935 h9928 ua9927 la9927 h9926 ua9925 la9925 ea9925 fM9923 hM9923 h9924 ih9920 h9624 h9622 fM9617 hM9617 h9618 ih9614 h215 fM213 hM213 h214 ih210 hret C hp0 ha2 ha1 hpr hM0; omega)) (fun lb9937 ub9937 => ?_)
                            refine e_iorN C 8 255 dX12_goesRows_103 rfl (by decide) (by exact ⟨h9618.1, ⟨(by (clear h9936 h9935 h9934 h9932 h9928 ua9927 la9927 h9926 ua9925 la9925 ea9925 fM9923 hM9923 h9924 ih9920 fM9617 hM9617 ih9614 h215 fM213 hM213 h214 ih210 hret C hp0 ha2 ha1 hpr hM0; omega)), ⟨(by (clear h9936 h9935 h9934 h9932 h9928 ua9927 la9927 h9926 ua9925 la9925 ea9925 fM9923 hM9923 h9924 ih9920 fM9617 hM9617 ih9614 h215 fM213 hM213 h214 ih210 hret C hp0 ha2 ha1 hpr hM0; omega)), (by (clear h9936 h9935 h9934 h9932 h9928 ua9927 la9927 h9926 ua9925 la9925 ea9925 fM9923 hM9923 h9924 ih9920 fM9617 hM9617 ih9614 h215 fM213 hM213 h214 ih210 hret C hp0 ha2 ha1 hpr hM0; omega))⟩⟩⟩) (fun lb9938 ub9938 ob9938 => ?_)
                            refine j_dup2 C dX12_goesRows_104 rfl rfl ?_
                            refine y_lald C 57 256 rfl rfl rfl ak_57 an_57 rfl dX12_goesRows_105 (by exact ⟨lb9938, (by (clear ob9938 ub9937 lb9937 h9936 h9935 h9934 h9932 h9928 ua9927 la9927 h9926 ua9925 la9925 ea9925 fM9923 hM9923 h9924 ih9920 h9624 h9622 fM9617 hM9617 h9618 ih9614 h215 fM213 hM213 h214 ih210 hret C hp0 ha2 ha1 hpr hM0; omega))⟩) (fun a9939 ea9939 la9939 ua9939 => ?_)
                            obtain rfl : a9939 = (M9923.2.1 111 ((orI a9616 (pw2 ((M0.1 106 (6 * a9616 + a9922).toNat).toInt)))).toNat).toInt := ea9939
                            refine j_aload_n C 1 0 dX12_goesRows_106 rfl rfl ?_
                            refine y_getC C 11 110 fX12_goesRows_51 rfl rfl ft_11_23 sm_11_23 rfl hM9923 dX12_goesRows_107 ?_
                            refine j_iload_n C 4 3 dX12_goesRows_110 rfl rfl ?_
                            refine y_lald C 56 256 rfl rfl rfl ak_56 an_56 rfl dX12_goesRows_111 (by exact ⟨h9618.1, (by omega)⟩) (fun a9940 ea9940 la9940 ua9940 => ?_)
                            obtain rfl : a9940 = (M9923.2.1 110 (a9616).toNat).toInt := ea9940
                            refine e_ladd C dX12_goesRows_112 (fun lb9941 ub9941 => ?_)
                            refine y_last C 57 256 rfl rfl rfl ak_57 an_57 rfl hM9923 (PM.w hpr rfl rfl) dX12_goesRows_113 (by exact ⟨lb9938, (by omega)⟩) (fun M9942 eM9942 hM9942 => ?_)
                            have pM9942 := pi_J eM9942 (by exact h9924.2.2.1)
                            refine y_iinc C 5 [(4, .int (sI (a9922 + 1))), (5, .int (sI ((M0.1 106 (6 * a9616 + a9922).toNat).toInt))), (0, .ref (ad 98)), (1, .int (sI a1)), (2, .int (sI a2)), (3, .int (sI a9616))] dX12_goesRows_114 rfl (by decide) rfl ?_
                            refine j_goto C 35 dX12_goesRows_117 (by decide) ?_
                            refine j_lv [2, 3, 4, 5, 0] rfl ?_; exact ih9920 (a9922 + 1) M9942 (by exact ⟨(by (clear hM9942 eM9942 ub9941 lb9941 ua9940 la9940 ua9939 la9939 ob9938 ub9938 lb9938 ub9937 lb9937 h9936 h9935 h9934 h9932 h9928 ua9927 la9927 fM9923 hM9923 ih9920 h9624 h9622 fM9617 hM9617 h9618 ih9614 h215 fM213 hM213 h214 ih210 hret C hp0 ha2 ha1 hpr hM0; omega)), ⟨(by (clear hM9942 eM9942 ub9941 lb9941 ua9940 la9940 ua9939 la9939 ob9938 ub9938 lb9938 ub9937 lb9937 h9936 h9935 h9934 h9932 h9928 ua9927 la9927 fM9923 hM9923 ih9920 h9624 h9622 fM9617 hM9617 h9618 ih9614 h215 fM213 hM213 h214 ih210 hret C hp0 ha2 ha1 hpr hM0; omega)), ⟨pM9942, (by (clear hM9942 eM9942 ub9941 lb9941 ua9940 la9940 ua9939 la9939 ob9938 ub9938 lb9938 ub9937 lb9937 h9936 h9935 h9934 h9932 h9928 ua9927 la9927 fM9923 hM9923 ih9920 h9624 h9622 fM9617 hM9617 h9618 ih9614 h215 fM213 hM213 h214 ih210 hret C hp0 ha2 ha1 hpr hM0; omega))⟩⟩⟩) hM9942 ((FR.rf.tr fM9923 (by decide)).wJ eM9942 (by decide))
                          · refine j_iload C 5 dX12_goesRows_88 rfl ?_
                            refine j_iload_n C 3 2 dX12_goesRows_90 rfl rfl ?_
                            refine y_icmp_ne C 114 dX12_goesRows_91 (by decide) (by exact ⟨⟨(by (clear h9936 h9935 h9934 h9932 h9928 ua9927 la9927 h9926 ua9925 la9925 ea9925 fM9923 hM9923 ih9920 h9624 h9622 fM9617 hM9617 h9618 ih9614 h215 fM213 hM213 h214 ih210 hret C hp0 ha1 hpr hM0; omega)), (by (clear h9936 h9935 h9934 h9932 h9928 ua9927 la9927 h9926 ua9925 la9925 ea9925 fM9923 hM9923 ih9920 h9624 h9622 fM9617 hM9617 h9618 ih9614 h215 fM213 hM213 h214 ih210 hret C hp0 ha1 hpr hM0; omega))⟩, ⟨ha2.1, ha2.2⟩⟩) (fun h9943 => ?_) (fun h9943 => ?_)
                            · refine y_iinc C 5 [(4, .int (sI (a9922 + 1))), (5, .int (sI ((M0.1 106 (6 * a9616 + a9922).toNat).toInt))), (0, .ref (ad 98)), (1, .int (sI a1)), (2, .int (sI a2)), (3, .int (sI a9616))] dX12_goesRows_114 rfl (by decide) rfl ?_
                              refine j_goto C 35 dX12_goesRows_117 (by decide) ?_
                              refine j_lv [2, 3, 4, 5, 0] rfl ?_; exact ih9920 (a9922 + 1) M9923 (by exact ⟨(by omega), ⟨(by omega), ⟨h9924.2.2.1, (by omega)⟩⟩⟩) hM9923 (FR.rf.tr fM9923 (by decide))
                            · refine j_aload_n C 1 0 dX12_goesRows_94 rfl rfl ?_
                              refine y_getC C 11 111 fX12_goesRows_55 rfl rfl ft_11_24 sm_11_24 rfl hM9923 dX12_goesRows_95 ?_
                              refine j_iload_n C 4 3 dX12_goesRows_98 rfl rfl ?_
                              refine y_iconst C dX12_goesRows_99 ?_
                              refine j_iload C 0 dX12_goesRows_100 rfl ?_
                              refine e_shl1 C 7 128 dX12_goesRows_102 rfl (by decide) (by (clear h9935 h9928 ua9927 la9927 h9926 ua9925 la9925 ea9925 fM9923 hM9923 ih9920 h9624 h9622 fM9617 hM9617 h9618 ih9614 h215 fM213 hM213 h214 ih210 hret C hp0 ha2 ha1 hpr hM0; omega)) (fun lb9944 ub9944 => ?_)
                              refine e_iorN C 8 255 dX12_goesRows_103 rfl (by decide) (by exact ⟨h9618.1, ⟨(by omega), ⟨(by omega), (by omega)⟩⟩⟩) (fun lb9945 ub9945 ob9945 => ?_)
                              refine j_dup2 C dX12_goesRows_104 rfl rfl ?_
                              refine y_lald C 57 256 rfl rfl rfl ak_57 an_57 rfl dX12_goesRows_105 (by exact ⟨lb9945, (by omega)⟩) (fun a9946 ea9946 la9946 ua9946 => ?_)
                              obtain rfl : a9946 = (M9923.2.1 111 ((orI a9616 (pw2 ((M0.1 106 (6 * a9616 + a9922).toNat).toInt)))).toNat).toInt := ea9946
                              refine j_aload_n C 1 0 dX12_goesRows_106 rfl rfl ?_
                              refine y_getC C 11 110 fX12_goesRows_51 rfl rfl ft_11_23 sm_11_23 rfl hM9923 dX12_goesRows_107 ?_
                              refine j_iload_n C 4 3 dX12_goesRows_110 rfl rfl ?_
                              refine y_lald C 56 256 rfl rfl rfl ak_56 an_56 rfl dX12_goesRows_111 (by exact ⟨h9618.1, (by omega)⟩) (fun a9947 ea9947 la9947 ua9947 => ?_)
                              obtain rfl : a9947 = (M9923.2.1 110 (a9616).toNat).toInt := ea9947
                              refine e_ladd C dX12_goesRows_112 (fun lb9948 ub9948 => ?_)
                              refine y_last C 57 256 rfl rfl rfl ak_57 an_57 rfl hM9923 (PM.w hpr rfl rfl) dX12_goesRows_113 (by exact ⟨lb9945, (by omega)⟩) (fun M9949 eM9949 hM9949 => ?_)
                              have pM9949 := pi_J eM9949 (by exact h9924.2.2.1)
                              refine y_iinc C 5 [(4, .int (sI (a9922 + 1))), (5, .int (sI ((M0.1 106 (6 * a9616 + a9922).toNat).toInt))), (0, .ref (ad 98)), (1, .int (sI a1)), (2, .int (sI a2)), (3, .int (sI a9616))] dX12_goesRows_114 rfl (by decide) rfl ?_
                              refine j_goto C 35 dX12_goesRows_117 (by decide) ?_
                              refine j_lv [2, 3, 4, 5, 0] rfl ?_; exact ih9920 (a9922 + 1) M9949 (by exact ⟨(by (clear hM9949 eM9949 ub9948 lb9948 ua9947 la9947 ua9946 la9946 ob9945 ub9945 lb9945 ub9944 lb9944 h9943 h9936 h9935 h9934 h9932 h9928 ua9927 la9927 fM9923 hM9923 ih9920 h9624 h9622 fM9617 hM9617 h9618 ih9614 h215 fM213 hM213 h214 ih210 hret C hp0 ha2 ha1 hpr hM0; omega)), ⟨(by (clear hM9949 eM9949 ub9948 lb9948 ua9947 la9947 ua9946 la9946 ob9945 ub9945 lb9945 ub9944 lb9944 h9943 h9936 h9935 h9934 h9932 h9928 ua9927 la9927 fM9923 hM9923 ih9920 h9624 h9622 fM9617 hM9617 h9618 ih9614 h215 fM213 hM213 h214 ih210 hret C hp0 ha2 ha1 hpr hM0; omega)), ⟨pM9949, (by (clear hM9949 eM9949 ub9948 lb9948 ua9947 la9947 ua9946 la9946 ob9945 ub9945 lb9945 ub9944 lb9944 h9943 h9936 h9935 h9934 h9932 h9928 ua9927 la9927 fM9923 hM9923 ih9920 h9624 h9622 fM9617 hM9617 h9618 ih9614 h215 fM213 hM213 h214 ih210 hret C hp0 ha2 ha1 hpr hM0; omega))⟩⟩⟩) hM9949 ((FR.rf.tr fM9923 (by decide)).wJ eM9949 (by decide))
                        · refine j_iload C 0 dX12_goesRows_77 rfl ?_
                          refine j_iload_n C 2 1 dX12_goesRows_79 rfl rfl ?_
                          refine y_icmp_ne C 114 dX12_goesRows_80 (by decide) (by exact ⟨⟨(by (clear h9935 h9934 h9928 ua9927 la9927 h9926 ua9925 la9925 ea9925 fM9923 hM9923 h9924 ih9920 h9624 h9622 fM9617 hM9617 h9618 ih9614 h215 fM213 hM213 h214 ih210 hret C hp0 ha2 hpr hM0; omega)), (by (clear h9935 h9934 h9928 ua9927 la9927 h9926 ua9925 la9925 ea9925 fM9923 hM9923 h9924 ih9920 h9624 h9622 fM9617 hM9617 h9618 ih9614 h215 fM213 hM213 h214 ih210 hret C hp0 ha2 hpr hM0; omega))⟩, ⟨ha1.1, ha1.2⟩⟩) (fun h9950 => ?_) (fun h9950 => ?_)
                          · refine y_iinc C 5 [(4, .int (sI (a9922 + 1))), (5, .int (sI ((M0.1 106 (6 * a9616 + a9922).toNat).toInt))), (0, .ref (ad 98)), (1, .int (sI a1)), (2, .int (sI a2)), (3, .int (sI a9616))] dX12_goesRows_114 rfl (by decide) rfl ?_
                            refine j_goto C 35 dX12_goesRows_117 (by decide) ?_
                            refine j_lv [2, 3, 4, 5, 0] rfl ?_; exact ih9920 (a9922 + 1) M9923 (by exact ⟨(by omega), ⟨(by omega), ⟨h9924.2.2.1, (by omega)⟩⟩⟩) hM9923 (FR.rf.tr fM9923 (by decide))
                          · refine j_iload_n C 3 2 dX12_goesRows_83 rfl rfl ?_
                            refine y_iconst C dX12_goesRows_84 ?_
                            refine y_icmp_eq C 94 dX12_goesRows_85 (by decide) (by exact ⟨⟨ha2.1, ha2.2⟩, ⟨(by decide), (by decide)⟩⟩) (fun h9951 => ?_) (fun h9951 => ?_)
                            · refine j_aload_n C 1 0 dX12_goesRows_94 rfl rfl ?_
                              refine y_getC C 11 111 fX12_goesRows_55 rfl rfl ft_11_24 sm_11_24 rfl hM9923 dX12_goesRows_95 ?_
                              refine j_iload_n C 4 3 dX12_goesRows_98 rfl rfl ?_
                              refine y_iconst C dX12_goesRows_99 ?_
                              refine j_iload C 0 dX12_goesRows_100 rfl ?_
                              refine e_shl1 C 7 128 dX12_goesRows_102 rfl (by decide) (by (clear h9951 h9934 h9928 ua9927 la9927 h9926 ua9925 la9925 ea9925 fM9923 hM9923 h9924 ih9920 h9624 h9622 fM9617 hM9617 h9618 ih9614 h215 fM213 hM213 h214 ih210 hret C hp0 ha2 ha1 hpr hM0; omega)) (fun lb9952 ub9952 => ?_)
                              refine e_iorN C 8 255 dX12_goesRows_103 rfl (by decide) (by exact ⟨h9618.1, ⟨(by omega), ⟨(by omega), (by omega)⟩⟩⟩) (fun lb9953 ub9953 ob9953 => ?_)
                              refine j_dup2 C dX12_goesRows_104 rfl rfl ?_
                              refine y_lald C 57 256 rfl rfl rfl ak_57 an_57 rfl dX12_goesRows_105 (by exact ⟨lb9953, (by omega)⟩) (fun a9954 ea9954 la9954 ua9954 => ?_)
                              obtain rfl : a9954 = (M9923.2.1 111 ((orI a9616 (pw2 ((M0.1 106 (6 * a9616 + a9922).toNat).toInt)))).toNat).toInt := ea9954
                              refine j_aload_n C 1 0 dX12_goesRows_106 rfl rfl ?_
                              refine y_getC C 11 110 fX12_goesRows_51 rfl rfl ft_11_23 sm_11_23 rfl hM9923 dX12_goesRows_107 ?_
                              refine j_iload_n C 4 3 dX12_goesRows_110 rfl rfl ?_
                              refine y_lald C 56 256 rfl rfl rfl ak_56 an_56 rfl dX12_goesRows_111 (by exact ⟨h9618.1, (by omega)⟩) (fun a9955 ea9955 la9955 ua9955 => ?_)
                              obtain rfl : a9955 = (M9923.2.1 110 (a9616).toNat).toInt := ea9955
                              refine e_ladd C dX12_goesRows_112 (fun lb9956 ub9956 => ?_)
                              refine y_last C 57 256 rfl rfl rfl ak_57 an_57 rfl hM9923 (PM.w hpr rfl rfl) dX12_goesRows_113 (by exact ⟨lb9953, (by omega)⟩) (fun M9957 eM9957 hM9957 => ?_)
                              have pM9957 := pi_J eM9957 (by exact h9924.2.2.1)
                              refine y_iinc C 5 [(4, .int (sI (a9922 + 1))), (5, .int (sI ((M0.1 106 (6 * a9616 + a9922).toNat).toInt))), (0, .ref (ad 98)), (1, .int (sI a1)), (2, .int (sI a2)), (3, .int (sI a9616))] dX12_goesRows_114 rfl (by decide) rfl ?_
                              refine j_goto C 35 dX12_goesRows_117 (by decide) ?_
                              refine j_lv [2, 3, 4, 5, 0] rfl ?_; exact ih9920 (a9922 + 1) M9957 (by exact ⟨(by (clear hM9957 eM9957 ub9956 lb9956 ua9955 la9955 ua9954 la9954 ob9953 ub9953 lb9953 ub9952 lb9952 h9951 h9950 h9935 h9934 h9932 h9928 ua9927 la9927 fM9923 hM9923 ih9920 h9624 h9622 fM9617 hM9617 h9618 ih9614 h215 fM213 hM213 h214 ih210 hret C hp0 ha2 ha1 hpr hM0; omega)), ⟨(by (clear hM9957 eM9957 ub9956 lb9956 ua9955 la9955 ua9954 la9954 ob9953 ub9953 lb9953 ub9952 lb9952 h9951 h9950 h9935 h9934 h9932 h9928 ua9927 la9927 fM9923 hM9923 ih9920 h9624 h9622 fM9617 hM9617 h9618 ih9614 h215 fM213 hM213 h214 ih210 hret C hp0 ha2 ha1 hpr hM0; omega)), ⟨pM9957, (by (clear hM9957 eM9957 ub9956 lb9956 ua9955 la9955 ua9954 la9954 ob9953 ub9953 lb9953 ub9952 lb9952 h9951 h9950 h9935 h9934 h9932 h9928 ua9927 la9927 fM9923 hM9923 ih9920 h9624 h9622 fM9617 hM9617 h9618 ih9614 h215 fM213 hM213 h214 ih210 hret C hp0 ha2 ha1 hpr hM0; omega))⟩⟩⟩) hM9957 ((FR.rf.tr fM9923 (by decide)).wJ eM9957 (by decide))
                            · refine j_iload C 5 dX12_goesRows_88 rfl ?_
                              refine j_iload_n C 3 2 dX12_goesRows_90 rfl rfl ?_
                              refine y_icmp_ne C 114 dX12_goesRows_91 (by decide) (by exact ⟨⟨(by omega), (by omega)⟩, ⟨ha2.1, ha2.2⟩⟩) (fun h9958 => ?_) (fun h9958 => ?_)
                              · refine y_iinc C 5 [(4, .int (sI (a9922 + 1))), (5, .int (sI ((M0.1 106 (6 * a9616 + a9922).toNat).toInt))), (0, .ref (ad 98)), (1, .int (sI a1)), (2, .int (sI a2)), (3, .int (sI a9616))] dX12_goesRows_114 rfl (by decide) rfl ?_
                                refine j_goto C 35 dX12_goesRows_117 (by decide) ?_
                                refine j_lv [2, 3, 4, 5, 0] rfl ?_; exact ih9920 (a9922 + 1) M9923 (by exact ⟨(by (clear h9958 h9951 h9950 h9935 h9934 h9932 h9928 ua9927 la9927 fM9923 hM9923 ih9920 h9624 h9622 fM9617 hM9617 h9618 ih9614 h215 fM213 hM213 h214 ih210 hret C hp0 ha2 ha1 hpr hM0; omega)), ⟨(by (clear h9958 h9951 h9950 h9935 h9934 h9932 h9928 ua9927 la9927 fM9923 hM9923 ih9920 h9624 h9622 fM9617 hM9617 h9618 ih9614 h215 fM213 hM213 h214 ih210 hret C hp0 ha2 ha1 hpr hM0; omega)), ⟨h9924.2.2.1, (by (clear h9958 h9951 h9950 h9935 h9934 h9932 h9928 ua9927 la9927 fM9923 hM9923 ih9920 h9624 h9622 fM9617 hM9617 h9618 ih9614 h215 fM213 hM213 h214 ih210 hret C hp0 ha2 ha1 hpr hM0; omega))⟩⟩⟩) hM9923 (FR.rf.tr fM9923 (by decide))
                              · refine j_aload_n C 1 0 dX12_goesRows_94 rfl rfl ?_
                                refine y_getC C 11 111 fX12_goesRows_55 rfl rfl ft_11_24 sm_11_24 rfl hM9923 dX12_goesRows_95 ?_
                                refine j_iload_n C 4 3 dX12_goesRows_98 rfl rfl ?_
                                refine y_iconst C dX12_goesRows_99 ?_
                                refine j_iload C 0 dX12_goesRows_100 rfl ?_
                                refine e_shl1 C 7 128 dX12_goesRows_102 rfl (by decide) (by (clear h9934 h9928 ua9927 la9927 h9926 ua9925 la9925 ea9925 fM9923 hM9923 ih9920 h9624 h9622 fM9617 hM9617 h9618 ih9614 h215 fM213 hM213 h214 ih210 hret C hp0 ha2 ha1 hpr hM0; omega)) (fun lb9959 ub9959 => ?_)
                                refine e_iorN C 8 255 dX12_goesRows_103 rfl (by decide) (by exact ⟨h9618.1, ⟨(by omega), ⟨(by omega), (by omega)⟩⟩⟩) (fun lb9960 ub9960 ob9960 => ?_)
                                refine j_dup2 C dX12_goesRows_104 rfl rfl ?_
                                refine y_lald C 57 256 rfl rfl rfl ak_57 an_57 rfl dX12_goesRows_105 (by exact ⟨lb9960, (by omega)⟩) (fun a9961 ea9961 la9961 ua9961 => ?_)
                                obtain rfl : a9961 = (M9923.2.1 111 ((orI a9616 (pw2 ((M0.1 106 (6 * a9616 + a9922).toNat).toInt)))).toNat).toInt := ea9961
                                refine j_aload_n C 1 0 dX12_goesRows_106 rfl rfl ?_
                                refine y_getC C 11 110 fX12_goesRows_51 rfl rfl ft_11_23 sm_11_23 rfl hM9923 dX12_goesRows_107 ?_
                                refine j_iload_n C 4 3 dX12_goesRows_110 rfl rfl ?_
                                refine y_lald C 56 256 rfl rfl rfl ak_56 an_56 rfl dX12_goesRows_111 (by exact ⟨h9618.1, (by omega)⟩) (fun a9962 ea9962 la9962 ua9962 => ?_)
                                obtain rfl : a9962 = (M9923.2.1 110 (a9616).toNat).toInt := ea9962
                                refine e_ladd C dX12_goesRows_112 (fun lb9963 ub9963 => ?_)
                                refine y_last C 57 256 rfl rfl rfl ak_57 an_57 rfl hM9923 (PM.w hpr rfl rfl) dX12_goesRows_113 (by exact ⟨lb9960, (by omega)⟩) (fun M9964 eM9964 hM9964 => ?_)
                                have pM9964 := pi_J eM9964 (by exact h9924.2.2.1)
                                refine y_iinc C 5 [(4, .int (sI (a9922 + 1))), (5, .int (sI ((M0.1 106 (6 * a9616 + a9922).toNat).toInt))), (0, .ref (ad 98)), (1, .int (sI a1)), (2, .int (sI a2)), (3, .int (sI a9616))] dX12_goesRows_114 rfl (by decide) rfl ?_
                                refine j_goto C 35 dX12_goesRows_117 (by decide) ?_
                                refine j_lv [2, 3, 4, 5, 0] rfl ?_; exact ih9920 (a9922 + 1) M9964 (by exact ⟨(by omega), ⟨(by omega), ⟨pM9964, (by omega)⟩⟩⟩) hM9964 ((FR.rf.tr fM9923 (by decide)).wJ eM9964 (by decide))
              refine j_lv [1, 2, 3, 4, 0] rfl ?_; exact L9921 2010 0 M9617 (by exact ⟨(by decide), ⟨(by decide), ⟨h9618.2.2.1, (by decide)⟩⟩⟩) hM9617 (FR.rf.tr fM9617 (by decide))
        refine j_lv [1, 2, 3, 0] rfl ?_; exact L9615 2010 0 M213 (by exact ⟨(by decide), ⟨(by decide), ⟨h214.2.2.1, (by decide)⟩⟩⟩) hM213 (FR.rf.tr fM213 (by decide))
      · refine j_aload_n C 0 0 dX12_goesRows_9 rfl rfl ?_
        refine y_getC C 11 111 fX12_goesRows_55 rfl rfl ft_11_24 sm_11_24 rfl hM213 dX12_goesRows_10 ?_
        refine j_iload_n C 3 3 dX12_goesRows_13 rfl rfl ?_
        refine y_lconst C 0 dX12_goesRows_14 rfl ?_
        refine y_last C 57 256 rfl rfl rfl ak_57 an_57 rfl hM213 (PM.w hpr rfl rfl) dX12_goesRows_15 (by exact ⟨h214.1, (by (clear fM213 hM213 ih210 hret C hp0 ha2 ha1 hpr hM0; omega))⟩) (fun M216 eM216 hM216 => ?_)
        have pM216 := pi_J eM216 (by exact h214.2.2.1)
        refine y_iinc C 3 [(3, .int (sI (a212 + 1))), (0, .ref (ad 98)), (1, .int (sI a1)), (2, .int (sI a2))] dX12_goesRows_16 rfl (by decide) rfl ?_
        refine j_goto C 2 dX12_goesRows_19 (by decide) ?_
        refine j_lv [1, 2, 3, 0] rfl ?_; exact ih210 (a212 + 1) M216 (by exact ⟨(by (clear hM216 eM216 fM213 hM213 ih210 hret C hp0 ha2 ha1 hpr hM0; omega)), ⟨(by (clear hM216 eM216 fM213 hM213 ih210 hret C hp0 ha2 ha1 hpr hM0; omega)), ⟨pM216, (by (clear hM216 eM216 fM213 hM213 ih210 hret C hp0 ha2 ha1 hpr hM0; omega))⟩⟩⟩) hM216 ((FR.rf.tr fM213 (by decide)).wJ eM216 (by decide))
  refine j_lv [1, 2, 3, 0] rfl ?_; exact L211 2010 0 M0 (by exact ⟨(by decide), ⟨(by decide), ⟨hp0, (by decide)⟩⟩⟩) hM0 FR.rf
set_option maxHeartbeats 4000000 in
theorem s1_X12_shutRows {l : Launch} {dC : Nat → ClassId} {dI : Nat → Nat → Nat} {ad : Nat → Nat} {cA : Nat → ClassId} {pr : Nat → Nat → Bool} {Kz : mm_M} {M0 : mm_M} (hM0 : INV pr Kz M0)  : Cj l 3 yX12_shutRows wsX12_shutRows dC dI ad cA [.ref (ad 98)] M0 (fun r M' => ∃ a : Int, r = sJ a ∧ M0 = M' ∧ (-9223372036854775808) ≤ a ∧ a ≤ 9223372036854775807) := by
  refine cj_of (cc := cX12_shutRows) (maxL := 4) (lv := [(0, .ref (ad 98))]) (by decide) rfl (Nat.le_of_ble_eq_true rfl) rfl ?_
  intro p e s m args below meth c A Q C hret
  refine y_lconst C 0 dX12_shutRows_0 rfl ?_
  refine j_lstore_n C 1 [(1, .long (sJ 0)), (0, .ref (ad 98))] dX12_shutRows_1 rfl (by decide) rfl ?_
  refine y_iconst C dX12_shutRows_2 ?_
  refine j_istore_n C 3 [(3, .int (sI 0)), (1, .long (sJ 0)), (0, .ref (ad 98))] dX12_shutRows_3 rfl (by decide) rfl ?_
  have L399 : ∀ (n397 : Nat), ∀ (a400 : Int) (a401 : Int), ((-9223372036854775808) ≤ a400 ∧ a400 ≤ 9223372036854775807 ∧ 0 ≤ a401 ∧ a401 ≤ 256 ∧ (256 - a401) < (n397 : Int)) → jj p l e (cn_R 3) s m args below meth c 0 0 Q 4 dC dI ad cA A M0 4 [(0, .ref (ad 98)), (1, .long (sJ a400)), (3, .int (sI a401))] [] := by
    intro n397
    induction n397 with
    | zero =>
      intro a400 a401 h402
      exfalso; omega
    | succ n397 ih398 =>
      intro a400 a401 h402
      refine j_iload_n C 2 3 dX12_shutRows_4 rfl rfl ?_
      refine y_sipush C dX12_shutRows_5 rfl ?_
      refine y_icmp_ge C 38 dX12_shutRows_8 (by decide) (by exact ⟨⟨(by (clear ih398 hret C hM0; omega)), (by (clear ih398 hret C hM0; omega))⟩, ⟨(by decide), (by decide)⟩⟩) (fun h403 => ?_) (fun h403 => ?_)
      · refine j_lload_n C 1 1 dX12_shutRows_38 rfl rfl ?_
        exact hret _ _ _ _ dX12_shutRows_39 ⟨a400, rfl, rfl, by exact ⟨h402.1, h402.2.1⟩⟩
      · refine j_lload_n C 1 1 dX12_shutRows_11 rfl rfl ?_
        refine j_aload_n C 0 0 dX12_shutRows_12 rfl rfl ?_
        refine j_iload_n C 2 3 dX12_shutRows_13 rfl rfl ?_
        refine j_callVi C (d := 2) (As := [.int (sI a401)]) (st := [.long (sJ a400)]) 98 (s_lt rfl rfl) (s_kc (c := 11) rfl rfl) (by decide) rfl (s1_X12_isShutBy hM0 a401 (by (clear ih398 hret C hM0; omega))) gX12_shutRows_X12_isShutBy rfl hdX12_isShutBy (by decide) (Nat.le_of_ble_eq_true rfl) dX12_shutRows_14 rfl (fun r404 M405 h406 => ?_)
        obtain ⟨a408, rfl, rfl, h407⟩ := h406
        obtain rfl : a408 = (shF (M0.1 99) a401) := by exact h407.2.2
        refine y_if_eq C 29 dX12_shutRows_17 (by decide) (by omega) (fun h409 => ?_) (fun h409 => ?_)
        · refine y_lconst C 0 dX12_shutRows_29 rfl ?_
          refine y_ladd C dX12_shutRows_30 ?_
          refine j_lstore_n C 1 [(1, .long (sJ (a400 + 0))), (0, .ref (ad 98)), (3, .int (sI a401))] dX12_shutRows_31 rfl (by decide) rfl ?_
          refine y_iinc C 2 [(3, .int (sI (a401 + 1))), (1, .long (sJ (a400 + 0))), (0, .ref (ad 98))] dX12_shutRows_32 rfl (by decide) rfl ?_
          refine j_goto C 4 dX12_shutRows_35 (by decide) ?_
          refine j_lv [2, 1, 0] rfl ?_; exact ih398 (a400 + 0) (a401 + 1) (by (clear h409 h407 ih398 hret C hM0; omega))
        · refine j_aload_n C 0 0 dX12_shutRows_20 rfl rfl ?_
          refine y_getC C 11 110 fX12_shutRows_51 rfl rfl ft_11_23 sm_11_23 rfl hM0 dX12_shutRows_21 ?_
          refine j_iload_n C 2 3 dX12_shutRows_24 rfl rfl ?_
          refine y_lald C 56 256 rfl rfl rfl ak_56 an_56 rfl dX12_shutRows_25 (by exact ⟨h402.2.2.1, (by omega)⟩) (fun a410 ea410 la410 ua410 => ?_)
          obtain rfl : a410 = (M0.2.1 110 (a401).toNat).toInt := ea410
          refine j_goto C 30 dX12_shutRows_26 (by decide) ?_
          refine e_ladd C dX12_shutRows_30 (fun lb411 ub411 => ?_)
          refine j_lstore_n C 1 [(1, .long (sJ (addJ a400 (M0.2.1 110 (a401).toNat).toInt))), (0, .ref (ad 98)), (3, .int (sI a401))] dX12_shutRows_31 rfl (by decide) rfl ?_
          refine y_iinc C 2 [(3, .int (sI (a401 + 1))), (1, .long (sJ (addJ a400 (M0.2.1 110 (a401).toNat).toInt))), (0, .ref (ad 98))] dX12_shutRows_32 rfl (by decide) rfl ?_
          refine j_goto C 4 dX12_shutRows_35 (by decide) ?_
          refine j_lv [2, 1, 0] rfl ?_; exact ih398 (addJ a400 (M0.2.1 110 (a401).toNat).toInt) (a401 + 1) (by exact ⟨lb411, ⟨ub411, ⟨(by (clear ua410 la410 h409 h407 ih398 hret C hM0; omega)), ⟨(by (clear ua410 la410 h409 h407 ih398 hret C hM0; omega)), (by (clear ua410 la410 h409 h407 ih398 hret C hM0; omega))⟩⟩⟩⟩)
  refine j_lv [2, 1, 0] rfl ?_; exact L399 2010 0 0 (by exact ⟨(by decide), ⟨(by decide), ⟨(by decide), ⟨(by decide), (by decide)⟩⟩⟩⟩)
set_option maxHeartbeats 4000000 in
theorem s1_X12_endings {l : Launch} {dC : Nat → ClassId} {dI : Nat → Nat → Nat} {ad : Nat → Nat} {cA : Nat → ClassId} {pr : Nat → Nat → Bool} {Kz : mm_M} {M0 : mm_M} (hM0 : INV pr Kz M0) (hpr : PM pr) (hcw : CWK pr Kz) (a1 : Int) (ha1 : -2147483648 ≤ a1 ∧ a1 ≤ 2147483647) (hp0 : b01 (PI M0) = 1) : Cj l 5 yX12_endings wsX12_endings dC dI ad cA [.ref (ad 98), .int (sI a1)] M0 (fun r M' => ∃ a : Int, r = sJ a ∧ INV pr Kz M' ∧ FR [98, 103, 104, 106, 110, 111] M0 M' ∧ (-9223372036854775808) ≤ a ∧ a ≤ 9223372036854775807 ∧ (b01 (PI M') = 1)) := by
  refine cj_of (cc := cX12_endings) (maxL := 3) (lv := [(0, .ref (ad 98)), (1, .int (sI a1))]) (by decide) rfl (Nat.le_of_ble_eq_true rfl) rfl ?_
  intro p e s m args below meth c A Q C hret
  refine j_aload_n C 0 0 dX12_endings_0 rfl rfl ?_
  refine y_iconst C dX12_endings_1 ?_
  refine y_putIF C 11 qX12_endings_1 rfl rfl ft_11_0 sb_11_0 hM0 (PM.w hpr rfl rfl) dX12_endings_2 (fun M101 eM101 hM101 => ?_)
  have pM101 := pi_o eM101 (by decide) (by decide) (by exact hp0)
  refine j_iload_n C 1 1 dX12_endings_5 rfl rfl ?_
  refine y_i2l C dX12_endings_6 (by exact ⟨ha1.1, ha1.2⟩) ?_
  refine y_lconst C 0 dX12_endings_7 rfl ?_
  refine y_ldc2 C 15 dX12_endings_8 kX12_endings_357 rfl ?_
  refine j_callSi C (d := 0) (As := [.long (sJ a1), .long (sJ 0), .long (sJ 15)]) (st := []) (s1_X12_within hM101 a1 (by omega) 0 (by exact ⟨(by decide), (by decide)⟩) 15 (by exact ⟨(by decide), (by decide)⟩)) gX12_endings_X12_within rfl hdX12_withins (by decide) (Nat.le_of_ble_eq_true rfl) dX12_endings_11 rfl (fun r102 M103 h104 => ?_)
  obtain ⟨a106, rfl, rfl, h105⟩ := h104
  refine y_if_ne C 21 dX12_endings_14 (by decide) (by omega) (fun h107 => ?_) (fun h107 => ?_)
  · refine j_aload_n C 0 0 dX12_endings_21 rfl rfl ?_
    refine j_callVv C (d := 4) (As := []) (st := []) 98 (s_lt rfl rfl) (s_kc (c := 11) rfl rfl) (by decide) rfl (s1_X12_laysBuys hM101 hpr hcw (by exact pM101)) gX12_endings_X12_laysBuys rfl hdX12_laysBuys (by decide) (Nat.le_of_ble_eq_true rfl) dX12_endings_22 rfl (fun M109 h110 => ?_)
    obtain ⟨hM109, fM109, h111⟩ := h110
    refine j_aload_n C 0 0 dX12_endings_25 rfl rfl ?_
    refine j_callVv C (d := 0) (As := []) (st := []) 98 (s_lt rfl rfl) (s_kc (c := 11) rfl rfl) (by decide) rfl (s1_X12_beginsRows hM109 hpr (by exact h111.2.2)) gX12_endings_X12_beginsRows rfl hdX12_beginsRows (by decide) (Nat.le_of_ble_eq_true rfl) dX12_endings_26 rfl (fun M113 h114 => ?_)
    obtain ⟨hM113, fM113, h115⟩ := h114
    refine y_iconst C dX12_endings_29 ?_
    refine j_istore_n C 2 [(2, .int (sI 0)), (0, .ref (ad 98)), (1, .int (sI a1))] dX12_endings_30 rfl (by decide) rfl ?_
    have L216 : ∀ (n214 : Nat), ∀ (a217 : Int) (M218 : mm_M), (0 ≤ a217 ∧ a217 ≤ 20 ∧ (b01 (PI M218) = 1) ∧ (20 - a217) < (n214 : Int)) → INV pr Kz M218 → FR [98, 103, 104, 106, 110, 111] M0 M218 → jj p l e (cn_R 5) s m args below meth c 0 0 Q 3 dC dI ad cA A M218 31 [(0, .ref (ad 98)), (1, .int (sI a1)), (2, .int (sI a217))] [] := by
      intro n214
      induction n214 with
      | zero =>
        intro a217 M218 h219 hM218 fM218
        exfalso; omega
      | succ n214 ih215 =>
        intro a217 M218 h219 hM218 fM218
        refine j_iload_n C 2 2 dX12_endings_31 rfl rfl ?_
        refine j_iload_n C 1 1 dX12_endings_32 rfl rfl ?_
        refine y_icmp_ge C 48 dX12_endings_33 (by decide) (by exact ⟨⟨(by (clear fM218 hM218 ih215 h115 fM113 hM113 h111 fM109 hM109 h107 h105 pM101 hM101 eM101 hret C hp0 hcw hpr hM0; omega)), (by (clear fM218 hM218 ih215 h115 fM113 hM113 h111 fM109 hM109 h107 h105 pM101 hM101 eM101 hret C hp0 hcw hpr hM0; omega))⟩, ⟨ha1.1, ha1.2⟩⟩) (fun h220 => ?_) (fun h220 => ?_)
        · refine j_aload_n C 0 0 dX12_endings_48 rfl rfl ?_
          refine j_callVj C (d := 3) (As := []) (st := []) 98 (s_lt rfl rfl) (s_kc (c := 11) rfl rfl) (by decide) rfl (s1_X12_shutRows hM218) gX12_endings_X12_shutRows rfl hdX12_shutRows (by decide) (Nat.le_of_ble_eq_true rfl) dX12_endings_49 rfl (fun r225 M226 h227 => ?_)
          obtain ⟨a229, rfl, rfl, h228⟩ := h227
          exact hret _ _ _ _ dX12_endings_52 ⟨a229, rfl, hM218, (FR.rf.tr fM218 (by decide)), by exact ⟨h228.1, ⟨h228.2, h219.2.2.1⟩⟩⟩
        · refine j_aload_n C 0 0 dX12_endings_36 rfl rfl ?_
          refine y_iconst C dX12_endings_37 ?_
          refine y_iconst C dX12_endings_38 ?_
          refine j_callVv C (d := 1) (As := [.int (sI (-1)), .int (sI (-1))]) (st := []) 98 (s_lt rfl rfl) (s_kc (c := 11) rfl rfl) (by decide) rfl (s1_X12_goesRows hM218 hpr (-1) (by exact ⟨(by decide), (by decide)⟩) (-1) (by exact ⟨(by decide), (by decide)⟩) (by exact h219.2.2.1)) gX12_endings_X12_goesRows rfl hdX12_goesRows (by decide) (Nat.le_of_ble_eq_true rfl) dX12_endings_39 rfl (fun M222 h223 => ?_)
          obtain ⟨hM222, fM222, h224⟩ := h223
          refine y_iinc C 2 [(2, .int (sI (a217 + 1))), (0, .ref (ad 98)), (1, .int (sI a1))] dX12_endings_42 rfl (by decide) rfl ?_
          refine j_goto C 31 dX12_endings_45 (by decide) ?_
          refine j_lv [1, 2, 0] rfl ?_; exact ih215 (a217 + 1) M222 (by exact ⟨(by (clear fM222 hM222 fM218 hM218 ih215 h115 fM113 hM113 h111 fM109 hM109 pM101 hM101 eM101 hret C hp0 hcw hpr hM0; omega)), ⟨(by (clear fM222 hM222 fM218 hM218 ih215 h115 fM113 hM113 h111 fM109 hM109 pM101 hM101 eM101 hret C hp0 hcw hpr hM0; omega)), ⟨h224, (by (clear fM222 hM222 fM218 hM218 ih215 h115 fM113 hM113 h111 fM109 hM109 pM101 hM101 eM101 hret C hp0 hcw hpr hM0; omega))⟩⟩⟩) hM222 ((FR.rf.tr fM218 (by decide)).tr fM222 (by decide))
    refine j_lv [1, 2, 0] rfl ?_; exact L216 2010 0 M113 (by exact ⟨(by decide), ⟨(by decide), ⟨h115, (by decide)⟩⟩⟩) hM113 (((FR.rf.wI eM101 (by decide)).tr fM109 (by decide)).tr fM113 (by decide))
  · refine y_ldc2 C (-3) dX12_endings_17 kX12_endings_359 rfl ?_
    exact hret _ _ _ _ dX12_endings_20 ⟨(-3), rfl, hM101, (FR.rf.wI eM101 (by decide)), by exact ⟨(by decide), ⟨(by decide), pM101⟩⟩⟩
set_option maxHeartbeats 4000000 in
theorem s1_X12_needed {l : Launch} {dC : Nat → ClassId} {dI : Nat → Nat → Nat} {ad : Nat → Nat} {cA : Nat → ClassId} {pr : Nat → Nat → Bool} {Kz : mm_M} {M0 : mm_M} (hM0 : INV pr Kz M0) (hpr : PM pr) (hcw : CWK pr Kz)  (hp0 : b01 (PI M0) = 1) : Ci l 6 yX12_needed wsX12_needed dC dI ad cA [.ref (ad 98)] M0 (fun r M' => ∃ a : Int, r = sI a ∧ INV pr Kz M' ∧ FR [98, 103, 104, 106, 107] M0 M' ∧ 0 ≤ a ∧ a ≤ 63 ∧ (a = ndA (M0.1 99)) ∧ (b01 (PI M') = 1)) := by
  refine ci_of (cc := cX12_needed) (maxL := 3) (ty := .int) (lv := [(0, .ref (ad 98))]) (by decide) rfl (fun r M' hp => rfl) (Nat.le_of_ble_eq_true rfl) rfl ?_
  intro p e s m args below meth c A Q C hret
  refine j_aload_n C 0 0 dX12_needed_0 rfl rfl ?_
  refine y_iconst C dX12_needed_1 ?_
  refine y_putIF C 11 qX12_needed_1 rfl rfl ft_11_0 sb_11_0 hM0 (PM.w hpr rfl rfl) dX12_needed_2 (fun M101 eM101 hM101 => ?_)
  have pM101 := pi_o eM101 (by decide) (by decide) (by exact hp0)
  refine y_iconst C dX12_needed_5 ?_
  refine j_istore_n C 1 [(1, .int (sI 0)), (0, .ref (ad 98))] dX12_needed_6 rfl (by decide) rfl ?_
  refine j_aload_n C 1 0 dX12_needed_7 rfl rfl ?_
  refine j_callVi C (d := 5) (As := []) (st := []) 98 (s_lt rfl rfl) (s_kc (c := 11) rfl rfl) (by decide) rfl (s1_X12_endingNow hM101 hpr hcw (by exact pM101)) gX12_needed_X12_endingNow rfl hdX12_endingNow (by decide) (Nat.le_of_ble_eq_true rfl) dX12_needed_8 rfl (fun r102 M103 h104 => ?_)
  obtain ⟨a106, rfl, hM103, fM103, h105⟩ := h104
  have u107c : enF (M101.1 99) (-1) = enF (M0.1 99) (-1) := by rw [((wI_cell eM101 (by decide)))]
  have u107z : ndF (M0.1 99) (0 : Int).toNat = 0 := rfl
  have u107s := ndA_s (M0.1 99)
  have u107B := hM0.rd (i := 99) (c := 45) (k := 1) rfl (show s_b 45 1 = (0, 6) from rfl)
  refine y_iconst C dX12_needed_11 ?_
  refine y_icmp_ne C 17 dX12_needed_12 (by decide) (by exact ⟨⟨(by (clear u107B u107s u107z fM103 hM103 pM101 hM101 eM101 hret C hp0 hcw hpr hM0; omega)), (by (clear u107B u107s u107z fM103 hM103 pM101 hM101 eM101 hret C hp0 hcw hpr hM0; omega))⟩, ⟨(by decide), (by decide)⟩⟩) (fun h108 => ?_) (fun h108 => ?_)
  · refine y_iconst C dX12_needed_17 ?_
    refine j_istore_n C 2 [(2, .int (sI 0)), (1, .int (sI 0)), (0, .ref (ad 98))] dX12_needed_18 rfl (by decide) rfl ?_
    have u109x : b01 (LBF M103 (M0.1 99)) = 1 := by rw [← ((wI_cell eM101 (by decide)))]; exact h105.2.2.2.2.2.1
    have L130 : ∀ (n128 : Nat), ∀ (a131 : Int) (a132 : Int) (M133 : mm_M), (0 ≤ a131 ∧ a131 ≤ 63 ∧ 0 ≤ a132 ∧ a132 ≤ 6 ∧ (b01 (lbP M133) = 1) ∧ (b01 (LBF M133 (M0.1 99)) = 1) ∧ (a131 = ndF (M0.1 99) (a132).toNat) ∧ (a132 ≤ (M0.1 99 1).toInt) ∧ (¬ enF (M0.1 99) (-1) = -1) ∧ (b01 (PI M133) = 1) ∧ (6 - a132) < (n128 : Int)) → INV pr Kz M133 → FR [98, 103, 104, 106, 107] M0 M133 → jj p l e (cn_R 6) s m args below meth c 0 0 Q 3 dC dI ad cA A M133 19 [(0, .ref (ad 98)), (1, .int (sI a131)), (2, .int (sI a132))] [] := by
      intro n128
      induction n128 with
      | zero =>
        intro a131 a132 M133 h134 hM133 fM133
        exfalso; (clear fM133 hM133 u109x h108 u107B u107s u107z u107c h105 fM103 hM103 pM101 hM101 eM101 hret C hp0 hcw hpr hM0; omega)
      | succ n128 ih129 =>
        intro a131 a132 M133 h134 hM133 fM133
        refine j_iload_n C 2 2 dX12_needed_19 rfl rfl ?_
        refine j_aload_n C 0 0 dX12_needed_20 rfl rfl ?_
        refine y_getC C 11 99 fX12_needed_13 rfl rfl ft_11_1 sm_11_1 rfl hM133 dX12_needed_21 ?_
        refine y_iconst C dX12_needed_24 ?_
        refine y_ialdH C 45 3543 rfl rfl rfl ak_45 an_45 rfl _ _ hM133 (hr_45_1_1 _ (by exact (by decide)) (by exact (by decide))) dX12_needed_25 (by exact ⟨(by decide), (by decide)⟩) (fun a135 ea135 la135 ua135 => ?_)
        obtain rfl : a135 = (M0.1 99 1).toInt := s_fF fM133 (by decide) (ea135)
        refine y_icmp_ge C 54 dX12_needed_26 (by decide) (by (clear ua135 la135 fM133 hM133 ih129 u109x h108 u107s u107z u107c h105 fM103 hM103 pM101 hM101 eM101 hret C hp0 hcw hpr hM0; omega)) (fun h136 => ?_) (fun h136 => ?_)
        · have u150x : a132 = (M0.1 99 1).toInt := by (clear ua135 la135 fM133 hM133 ih129 u109x h108 u107B u107s u107z u107c h105 fM103 hM103 pM101 hM101 eM101 hret C hp0 hcw hpr hM0; omega)
          have u150y : ndF (M0.1 99) (a132).toNat = ndF (M0.1 99) (M0.1 99 1).toInt.toNat := by rw [u150x]
          have u150s := ndA_s (M0.1 99)
          refine j_iload_n C 1 1 dX12_needed_54 rfl rfl ?_
          exact hret _ _ _ _ dX12_needed_55 ⟨a131, rfl, hM133, (FR.rf.tr fM133 (by decide)), by exact ⟨h134.1, ⟨h134.2.1, ⟨(by (clear u150x h136 ua135 la135 ea135 fM133 hM133 ih129 u109x h108 u107B u107s u107z u107c h105 fM103 hM103 pM101 hM101 eM101 hret C hp0 hcw hpr hM0; omega)), h134.2.2.2.2.2.2.2.2.2.1⟩⟩⟩⟩
        · refine j_iload_n C 1 1 dX12_needed_29 rfl rfl ?_
          refine j_aload_n C 0 0 dX12_needed_30 rfl rfl ?_
          refine j_iload_n C 2 2 dX12_needed_31 rfl rfl ?_
          have u137e : b01 (LBF M133 (M133.1 99)) = 1 := by rw [((FR.cell fM133 (by decide)))]; exact h134.2.2.2.2.2.1
          refine j_callVi C (d := 3) (As := [.int (sI a132)]) (st := [.int (sI a131)]) 98 (s_lt rfl rfl) (s_kc (c := 11) rfl rfl) (by decide) rfl (s1_X12_laysEnding hM133 hpr a132 (by (clear u137e h136 ua135 la135 ea135 fM133 hM133 ih129 u109x h108 u107B u107s u107z u107c h105 fM103 hM103 pM101 hM101 eM101 hret C hp0 hcw hpr hM0; omega)) (by exact h134.2.2.2.2.1) (by exact u137e) (by exact h134.2.2.2.2.2.2.2.2.2.1)) gX12_needed_X12_laysEnding rfl hdX12_laysEnding (by decide) (Nat.le_of_ble_eq_true rfl) dX12_needed_32 rfl (fun r138 M139 h140 => ?_)
          obtain ⟨a142, rfl, hM139, fM139, h141⟩ := h140
          have u143c : enF (M133.1 99) a132 = enF (M0.1 99) a132 := by rw [((FR.cell fM133 (by decide)))]
          have u143s := nd_s (M0.1 99) (x := a132) (x' := a132 + 1) (a := a131) (by exact h134.2.2.1) rfl (by exact h134.2.2.2.2.2.2.1)
          refine y_iconst C dX12_needed_35 ?_
          refine y_icmp_ne C 45 dX12_needed_36 (by decide) (by exact ⟨⟨(by (clear u143s fM139 hM139 u137e h136 ua135 la135 ea135 fM133 hM133 h134 ih129 u109x h108 u107B u107s u107z u107c h105 fM103 hM103 pM101 hM101 eM101 hret C hp0 hcw hpr hM0; omega)), (by (clear u143s fM139 hM139 u137e h136 ua135 la135 ea135 fM133 hM133 h134 ih129 u109x h108 u107B u107s u107z u107c h105 fM103 hM103 pM101 hM101 eM101 hret C hp0 hcw hpr hM0; omega))⟩, ⟨(by decide), (by decide)⟩⟩) (fun h144 => ?_) (fun h144 => ?_)
          · refine y_iconst C dX12_needed_45 ?_
            refine e_iorN C 6 63 dX12_needed_46 rfl (by decide) (by exact ⟨h134.1, ⟨h134.2.1, ⟨(by decide), (by decide)⟩⟩⟩) (fun lb145 ub145 ob145 => ?_)
            refine j_istore_n C 1 [(1, .int (sI (orI a131 0))), (0, .ref (ad 98)), (2, .int (sI a132))] dX12_needed_47 rfl (by decide) rfl ?_
            refine y_iinc C 2 [(2, .int (sI (a132 + 1))), (1, .int (sI (orI a131 0))), (0, .ref (ad 98))] dX12_needed_48 rfl (by decide) rfl ?_
            refine j_goto C 19 dX12_needed_51 (by decide) ?_
            have u146x : b01 (LBF M139 (M0.1 99)) = 1 := by rw [← ((FR.cell fM133 (by decide)))]; exact h141.2.2.2.2.2.1
            refine j_lv [2, 1, 0] rfl ?_; exact ih129 (orI a131 0) (a132 + 1) M139 (by exact ⟨lb145, ⟨ub145, ⟨(by (clear ob145 fM139 hM139 u137e ua135 la135 fM133 hM133 ih129 u109x h108 u107s u107z u107c h105 fM103 hM103 pM101 hM101 eM101 hret C hp0 hcw hpr hM0; omega)), ⟨(by (clear ob145 fM139 hM139 u137e ua135 la135 fM133 hM133 ih129 u109x h108 u107s u107z u107c h105 fM103 hM103 pM101 hM101 eM101 hret C hp0 hcw hpr hM0; omega)), ⟨h141.2.2.2.1, ⟨u146x, ⟨(by (clear ob145 fM139 hM139 u137e ua135 la135 fM133 hM133 ih129 u109x h108 u107s u107z u107c h105 fM103 hM103 pM101 hM101 eM101 hret C hp0 hcw hpr hM0; omega)), ⟨(by (clear ob145 fM139 hM139 u137e ua135 la135 fM133 hM133 ih129 u109x h108 u107s u107z u107c h105 fM103 hM103 pM101 hM101 eM101 hret C hp0 hcw hpr hM0; omega)), ⟨h134.2.2.2.2.2.2.2.2.1, ⟨h141.2.2.2.2.2.2.2.2, (by (clear ob145 fM139 hM139 u137e ua135 la135 fM133 hM133 ih129 u109x h108 u107s u107z u107c h105 fM103 hM103 pM101 hM101 eM101 hret C hp0 hcw hpr hM0; omega))⟩⟩⟩⟩⟩⟩⟩⟩⟩⟩) hM139 ((FR.rf.tr fM133 (by decide)).tr fM139 (by decide))
          · refine y_iconst C dX12_needed_39 ?_
            refine j_iload_n C 2 2 dX12_needed_40 rfl rfl ?_
            refine e_shl1 C 5 32 dX12_needed_41 rfl (by decide) (by exact ⟨h134.2.2.1, (by (clear h144 u143s u143c h141 fM139 hM139 u137e ua135 la135 fM133 hM133 ih129 u109x h108 u107s u107z u107c h105 fM103 hM103 pM101 hM101 eM101 hret C hp0 hcw hpr hM0; omega))⟩) (fun lb147 ub147 => ?_)
            refine j_goto C 46 dX12_needed_42 (by decide) ?_
            refine e_iorN C 6 63 dX12_needed_46 rfl (by decide) (by exact ⟨h134.1, ⟨h134.2.1, ⟨(by (clear h144 u143s u143c h141 fM139 hM139 u137e h136 ua135 la135 ea135 fM133 hM133 ih129 u109x h108 u107B u107s u107z u107c h105 fM103 hM103 pM101 hM101 eM101 hret C hp0 hcw hpr hM0; omega)), (by (clear h144 u143s u143c h141 fM139 hM139 u137e h136 ua135 la135 ea135 fM133 hM133 ih129 u109x h108 u107B u107s u107z u107c h105 fM103 hM103 pM101 hM101 eM101 hret C hp0 hcw hpr hM0; omega))⟩⟩⟩) (fun lb148 ub148 ob148 => ?_)
            refine j_istore_n C 1 [(1, .int (sI (orI a131 (pw2 a132)))), (0, .ref (ad 98)), (2, .int (sI a132))] dX12_needed_47 rfl (by decide) rfl ?_
            refine y_iinc C 2 [(2, .int (sI (a132 + 1))), (1, .int (sI (orI a131 (pw2 a132)))), (0, .ref (ad 98))] dX12_needed_48 rfl (by decide) rfl ?_
            refine j_goto C 19 dX12_needed_51 (by decide) ?_
            have u149x : b01 (LBF M139 (M0.1 99)) = 1 := by rw [← ((FR.cell fM133 (by decide)))]; exact h141.2.2.2.2.2.1
            refine j_lv [2, 1, 0] rfl ?_; exact ih129 (orI a131 (pw2 a132)) (a132 + 1) M139 (by exact ⟨lb148, ⟨ub148, ⟨(by (clear ob148 ub147 lb147 fM139 hM139 u137e ua135 la135 fM133 hM133 ih129 u109x h108 u107s u107z u107c h105 fM103 hM103 pM101 hM101 eM101 hret C hp0 hcw hpr hM0; omega)), ⟨(by (clear ob148 ub147 lb147 fM139 hM139 u137e ua135 la135 fM133 hM133 ih129 u109x h108 u107s u107z u107c h105 fM103 hM103 pM101 hM101 eM101 hret C hp0 hcw hpr hM0; omega)), ⟨h141.2.2.2.1, ⟨u149x, ⟨(by (clear ob148 ub147 lb147 fM139 hM139 u137e ua135 la135 fM133 hM133 ih129 u109x h108 u107s u107z u107c h105 fM103 hM103 pM101 hM101 eM101 hret C hp0 hcw hpr hM0; omega)), ⟨(by (clear ob148 ub147 lb147 fM139 hM139 u137e ua135 la135 fM133 hM133 ih129 u109x h108 u107s u107z u107c h105 fM103 hM103 pM101 hM101 eM101 hret C hp0 hcw hpr hM0; omega)), ⟨h134.2.2.2.2.2.2.2.2.1, ⟨h141.2.2.2.2.2.2.2.2, (by (clear ob148 ub147 lb147 fM139 hM139 u137e ua135 la135 fM133 hM133 ih129 u109x h108 u107s u107z u107c h105 fM103 hM103 pM101 hM101 eM101 hret C hp0 hcw hpr hM0; omega))⟩⟩⟩⟩⟩⟩⟩⟩⟩⟩) hM139 ((FR.rf.tr fM133 (by decide)).tr fM139 (by decide))
    refine j_lv [2, 1, 0] rfl ?_; exact L130 2010 0 0 M103 (by exact ⟨(by decide), ⟨(by decide), ⟨(by decide), ⟨(by decide), ⟨h105.2.2.2.1, ⟨u109x, ⟨u107z.symm, ⟨u107B.1, ⟨(by (clear L130 u107s fM103 hM103 pM101 hM101 eM101 hret C hp0 hcw hpr hM0; omega)), ⟨h105.2.2.2.2.2.2.2.2, (by decide)⟩⟩⟩⟩⟩⟩⟩⟩⟩⟩) hM103 ((FR.rf.wI eM101 (by decide)).tr fM103 (by decide))
  · refine j_iload_n C 0 1 dX12_needed_15 rfl rfl ?_
    exact hret _ _ _ _ dX12_needed_16 ⟨0, rfl, hM103, ((FR.rf.wI eM101 (by decide)).tr fM103 (by decide)), by exact ⟨(by decide), ⟨(by decide), ⟨(by (clear u107B u107z fM103 hM103 pM101 hM101 eM101 hret C hp0 hcw hpr hM0; omega)), h105.2.2.2.2.2.2.2.2⟩⟩⟩⟩
set_option maxHeartbeats 4000000 in
theorem s1_X12_laysComes {l : Launch} {dC : Nat → ClassId} {dI : Nat → Nat → Nat} {ad : Nat → Nat} {cA : Nat → ClassId} {pr : Nat → Nat → Bool} {Kz : mm_M} {M0 : mm_M} (hM0 : INV pr Kz M0) (hpr : PM pr) (hcw : CWK pr Kz)  (hp0 : b01 (PI M0) = 1) : Cv l 5 yX12_laysComes wsX12_laysComes dC dI ad cA [.ref (ad 98)] M0 (fun M' => INV pr Kz M' ∧ FR [103, 104, 106, 109] M0 M' ∧ (b01 (CME M' (M0.1 99)) = 1) ∧ (b01 (PI M') = 1)) := by
  refine cv_of (cc := cX12_laysComes) (maxL := 3) (lv := [(0, .ref (ad 98))]) (by decide) rfl (Nat.le_of_ble_eq_true rfl) rfl ?_
  intro p e s m args below meth c A Q C hret
  have rns : RNS (M0.1 99) := rns_i hM0.1 (by exact hp0)
  have rnE := evF_b rns.1
  have rnK := rns.1
  have rnS := rns.2.1
  have rnB := rns.2.2
  refine j_aload_n C 0 0 dX12_laysComes_0 rfl rfl ?_
  refine j_callVv C (d := 4) (As := []) (st := []) 98 (s_lt rfl rfl) (s_kc (c := 11) rfl rfl) (by decide) rfl (s1_X12_laysBuys hM0 hpr hcw (by exact hp0)) gX12_laysComes_X12_laysBuys rfl hdX12_laysBuys (by decide) (Nat.le_of_ble_eq_true rfl) dX12_laysComes_1 rfl (fun M103 h104 => ?_)
  obtain ⟨hM103, fM103, h105⟩ := h104
  have u106z := c0_0 M103 (M0.1 99)
  refine y_iconst C dX12_laysComes_4 ?_
  refine j_istore_n C 1 [(1, .int (sI 0)), (0, .ref (ad 98))] dX12_laysComes_5 rfl (by decide) rfl ?_
  have L118 : ∀ (n116 : Nat), ∀ (a119 : Int) (M120 : mm_M), (0 ≤ a119 ∧ a119 ≤ 256 ∧ (b01 (C0X M120 (M0.1 99) a119) = 1) ∧ (b01 (LBF M120 (M0.1 99)) = 1) ∧ (b01 (PI M120) = 1) ∧ (256 - a119) < (n116 : Int)) → INV pr Kz M120 → FR [103, 104, 106, 109] M0 M120 → jj p l e (cn_R 5) s m args below meth c 0 0 Q 3 dC dI ad cA A M120 6 [(0, .ref (ad 98)), (1, .int (sI a119))] [] := by
    intro n116
    induction n116 with
    | zero =>
      intro a119 M120 h121 hM120 fM120
      exfalso; omega
    | succ n116 ih117 =>
      intro a119 M120 h121 hM120 fM120
      refine j_iload_n C 1 1 dX12_laysComes_6 rfl rfl ?_
      refine y_sipush C dX12_laysComes_7 rfl ?_
      refine y_icmp_ge C 41 dX12_laysComes_10 (by decide) (by exact ⟨⟨(by (clear fM120 hM120 ih117 u106z h105 fM103 hM103 rnB rnS rnK rnE rns hret C hp0 hcw hpr hM0; omega)), (by (clear fM120 hM120 ih117 u106z h105 fM103 hM103 rnB rnS rnK rnE rns hret C hp0 hcw hpr hM0; omega))⟩, ⟨(by decide), (by decide)⟩⟩) (fun h122 => ?_) (fun h122 => ?_)
      · have u129x : b01 (C0X M120 (M0.1 99) 256) = 1 := by rw [show (256 : Int) = a119 by (clear fM120 hM120 ih117 u106z h105 fM103 hM103 rnB rnS rnK rnE rns hret C hp0 hcw hpr hM0; omega)]; exact h121.2.2.1
        have u129m := cm_0 (M := M120) (f := (M0.1 99)) rns u129x
        refine y_iconst C dX12_laysComes_41 ?_
        refine j_istore_n C 1 [(1, .int (sI 0)), (0, .ref (ad 98))] dX12_laysComes_42 rfl (by decide) rfl ?_
        have L192 : ∀ (n190 : Nat), ∀ (a193 : Int) (M194 : mm_M), (0 ≤ a193 ∧ a193 ≤ 256 ∧ (b01 (CMX M194 (M0.1 99) a193 0) = 1) ∧ (b01 (LBF M194 (M0.1 99)) = 1) ∧ (a193 ≤ evF (M0.1 99) + 1) ∧ (b01 (PI M194) = 1) ∧ (256 - a193) < (n190 : Int)) → INV pr Kz M194 → FR [103, 104, 106, 109] M0 M194 → jj p l e (cn_R 5) s m args below meth c 0 0 Q 3 dC dI ad cA A M194 43 [(0, .ref (ad 98)), (1, .int (sI a193))] [] := by
          intro n190
          induction n190 with
          | zero =>
            intro a193 M194 h195 hM194 fM194
            exfalso; omega
          | succ n190 ih191 =>
            intro a193 M194 h195 hM194 fM194
            refine j_iload_n C 1 1 dX12_laysComes_43 rfl rfl ?_
            refine j_aload_n C 0 0 dX12_laysComes_44 rfl rfl ?_
            refine j_callVi C (d := 0) (As := []) (st := [.int (sI a193)]) 98 (s_lt rfl rfl) (s_kc (c := 11) rfl rfl) (by decide) rfl (s1_X12_everyKind hM194) gX12_laysComes_X12_everyKind rfl hdX12_everyKind (by decide) (Nat.le_of_ble_eq_true rfl) dX12_laysComes_45 rfl (fun r196 M197 h198 => ?_)
            obtain ⟨a200, rfl, rfl, h199⟩ := h198
            rw [show M194.1 99 = M0.1 99 from (FR.cell fM194 (by decide))] at h199
            obtain rfl : a200 = (evF (M0.1 99)) := by exact h199.2.2
            refine y_icmp_gt C 110 dX12_laysComes_48 (by decide) (by (clear h199 fM194 hM194 ih191 u129m u129x h122 fM120 hM120 h121 ih117 u106z h105 fM103 hM103 rnB rnS rnK rns hret C hp0 hcw hpr hM0; omega)) (fun h201 => ?_) (fun h201 => ?_)
            · have u254e := cm_e (M := M194) (f := (M0.1 99)) (t := a193) rns (by exact h195.2.2.1) (by exact h201) (b109 hM194.1)
              exact hret _ _ _ dX12_laysComes_110 ⟨hM194, (FR.rf.tr fM194 (by decide)), by exact ⟨u254e, h195.2.2.2.2.2.1⟩⟩
            · refine y_iconst C dX12_laysComes_51 ?_
              refine j_istore_n C 2 [(2, .int (sI 0)), (0, .ref (ad 98)), (1, .int (sI a193))] dX12_laysComes_52 rfl (by decide) rfl ?_
              have L227 : ∀ (n225 : Nat), ∀ (a228 : Int) (M229 : mm_M), (0 ≤ a228 ∧ a228 ≤ 6 ∧ (b01 (CMX M229 (M0.1 99) a193 a228) = 1) ∧ (b01 (LBF M229 (M0.1 99)) = 1) ∧ (a228 ≤ (M0.1 99 1).toInt) ∧ (a193 ≤ evF (M0.1 99)) ∧ (b01 (PI M229) = 1) ∧ (6 - a228) < (n225 : Int)) → INV pr Kz M229 → FR [103, 104, 106, 109] M0 M229 → jj p l e (cn_R 5) s m args below meth c 0 0 Q 3 dC dI ad cA A M229 53 [(0, .ref (ad 98)), (1, .int (sI a193)), (2, .int (sI a228))] [] := by
                intro n225
                induction n225 with
                | zero =>
                  intro a228 M229 h230 hM229 fM229
                  exfalso; omega
                | succ n225 ih226 =>
                  intro a228 M229 h230 hM229 fM229
                  refine j_iload_n C 2 2 dX12_laysComes_53 rfl rfl ?_
                  refine j_aload_n C 0 0 dX12_laysComes_54 rfl rfl ?_
                  refine y_getC C 11 99 fX12_laysComes_13 rfl rfl ft_11_1 sm_11_1 rfl hM229 dX12_laysComes_55 ?_
                  refine y_iconst C dX12_laysComes_58 ?_
                  refine y_ialdH C 45 3543 rfl rfl rfl ak_45 an_45 rfl _ _ hM229 (hr_45_1_1 _ (by exact (by decide)) (by exact (by decide))) dX12_laysComes_59 (by exact ⟨(by decide), (by decide)⟩) (fun a231 ea231 la231 ua231 => ?_)
                  obtain rfl : a231 = (M0.1 99 1).toInt := s_fF fM229 (by decide) (ea231)
                  refine y_icmp_ge C 104 dX12_laysComes_60 (by decide) (by (clear ua231 la231 fM229 hM229 ih226 h201 h199 fM194 hM194 h195 ih191 u129m u129x h122 fM120 hM120 h121 ih117 u106z h105 fM103 hM103 rnS rnK rnE rns hret C hp0 hcw hpr hM0; omega)) (fun h232 => ?_) (fun h232 => ?_)
                  · have u252m := cm_t (M := M229) (f := (M0.1 99)) (t := a193) (b := a228) (t' := a193 + 1) (by exact h230.2.2.1) (by (clear ua231 la231 fM229 hM229 ih226 h201 h199 fM194 hM194 h195 ih191 u129m u129x h122 fM120 hM120 h121 ih117 u106z h105 fM103 hM103 rnB rnS rnK rnE rns hret C hp0 hcw hpr hM0; omega)) rfl
                    refine y_iinc C 1 [(1, .int (sI (a193 + 1))), (0, .ref (ad 98)), (2, .int (sI a228))] dX12_laysComes_104 rfl (by decide) rfl ?_
                    refine j_goto C 43 dX12_laysComes_107 (by decide) ?_
                    refine j_lv [1, 0] rfl ?_; exact ih191 (a193 + 1) M229 (by exact ⟨(by (clear h232 ua231 la231 ea231 fM229 hM229 ih226 h199 fM194 hM194 ih191 u129m u129x h122 fM120 hM120 h121 ih117 u106z h105 fM103 hM103 rnB rnS rnK rns hret C hp0 hcw hpr hM0; omega)), ⟨(by (clear h232 ua231 la231 ea231 fM229 hM229 ih226 h199 fM194 hM194 ih191 u129m u129x h122 fM120 hM120 h121 ih117 u106z h105 fM103 hM103 rnB rnS rnK rns hret C hp0 hcw hpr hM0; omega)), ⟨u252m, ⟨h230.2.2.2.1, ⟨(by (clear h232 ua231 la231 ea231 fM229 hM229 ih226 h199 fM194 hM194 ih191 u129m u129x h122 fM120 hM120 h121 ih117 u106z h105 fM103 hM103 rnB rnS rnK rns hret C hp0 hcw hpr hM0; omega)), ⟨h230.2.2.2.2.2.2.1, (by (clear h232 ua231 la231 ea231 fM229 hM229 ih226 h199 fM194 hM194 ih191 u129m u129x h122 fM120 hM120 h121 ih117 u106z h105 fM103 hM103 rnB rnS rnK rns hret C hp0 hcw hpr hM0; omega))⟩⟩⟩⟩⟩⟩) hM229 (FR.rf.tr fM229 (by decide))
                  · refine j_aload_n C 0 0 dX12_laysComes_63 rfl rfl ?_
                    refine y_getC C 11 109 fX12_laysComes_48 rfl rfl ft_11_22 sm_11_22 rfl hM229 dX12_laysComes_64 ?_
                    refine j_iload_n C 1 1 dX12_laysComes_67 rfl rfl ?_
                    refine y_zald C 55 256 _ _ rfl rfl rfl ak_55 an_55 rfl (sb_55 _) hM229 dX12_laysComes_68 (by exact ⟨h195.1, (by (clear h232 ua231 la231 ea231 fM229 hM229 h230 ih226 h199 fM194 hM194 ih191 u129m u129x h122 fM120 hM120 h121 ih117 u106z h105 fM103 hM103 rnB rnS rnK rns hret C hp0 hcw hpr hM0; omega))⟩) (fun a233 ea233 la233 ua233 => ?_)
                    obtain rfl : a233 = (M229.1 109 (a193).toNat).toInt := ea233
                    refine y_if_eq C 104 dX12_laysComes_69 (by decide) (by (clear h232 ua231 la231 ea231 fM229 hM229 h230 ih226 h201 h199 fM194 hM194 h195 ih191 u129m u129x h122 fM120 hM120 h121 ih117 u106z h105 fM103 hM103 rnB rnS rnK rnE rns hret C hp0 hcw hpr hM0; omega)) (fun h234 => ?_) (fun h234 => ?_)
                    · have u253m := cm_t (M := M229) (f := (M0.1 99)) (t := a193) (b := a228) (t' := a193 + 1) (by exact h230.2.2.1) (by (clear ua233 la233 h232 ua231 la231 ea231 fM229 hM229 h230 ih226 h201 h199 fM194 hM194 h195 ih191 u129m u129x h122 fM120 hM120 h121 ih117 u106z h105 fM103 hM103 rnB rnS rnK rnE rns hret C hp0 hcw hpr hM0; omega)) rfl
                      refine y_iinc C 1 [(1, .int (sI (a193 + 1))), (0, .ref (ad 98)), (2, .int (sI a228))] dX12_laysComes_104 rfl (by decide) rfl ?_
                      refine j_goto C 43 dX12_laysComes_107 (by decide) ?_
                      refine j_lv [1, 0] rfl ?_; exact ih191 (a193 + 1) M229 (by exact ⟨(by (clear h234 ua233 la233 h232 ua231 la231 ea231 fM229 hM229 ih226 h199 fM194 hM194 ih191 u129m u129x h122 fM120 hM120 h121 ih117 u106z h105 fM103 hM103 rnB rnS rnK rns hret C hp0 hcw hpr hM0; omega)), ⟨(by (clear h234 ua233 la233 h232 ua231 la231 ea231 fM229 hM229 ih226 h199 fM194 hM194 ih191 u129m u129x h122 fM120 hM120 h121 ih117 u106z h105 fM103 hM103 rnB rnS rnK rns hret C hp0 hcw hpr hM0; omega)), ⟨u253m, ⟨h230.2.2.2.1, ⟨(by (clear h234 ua233 la233 h232 ua231 la231 ea231 fM229 hM229 ih226 h199 fM194 hM194 ih191 u129m u129x h122 fM120 hM120 h121 ih117 u106z h105 fM103 hM103 rnB rnS rnK rns hret C hp0 hcw hpr hM0; omega)), ⟨h230.2.2.2.2.2.2.1, (by (clear h234 ua233 la233 h232 ua231 la231 ea231 fM229 hM229 ih226 h199 fM194 hM194 ih191 u129m u129x h122 fM120 hM120 h121 ih117 u106z h105 fM103 hM103 rnB rnS rnK rns hret C hp0 hcw hpr hM0; omega))⟩⟩⟩⟩⟩⟩) hM229 (FR.rf.tr fM229 (by decide))
                    · refine j_aload_n C 0 0 dX12_laysComes_72 rfl rfl ?_
                      refine j_iload_n C 1 1 dX12_laysComes_73 rfl rfl ?_
                      refine j_iload_n C 2 2 dX12_laysComes_74 rfl rfl ?_
                      refine j_callVi C (d := 0) (As := [.int (sI a193), .int (sI a228)]) (st := []) 98 (s_lt rfl rfl) (s_kc (c := 11) rfl rfl) (by decide) rfl (s1_X12_boughtBy hM229 a193 (by (clear h234 ua233 la233 h232 ua231 la231 ea231 fM229 hM229 h230 ih226 h201 h199 fM194 hM194 ih191 u129m u129x h122 fM120 hM120 h121 ih117 u106z h105 fM103 hM103 rnB rnS rnK rnE rns hret C hp0 hcw hpr hM0; omega)) a228 (by (clear h234 ua233 la233 h232 ua231 la231 ea231 fM229 hM229 ih226 h201 h199 fM194 hM194 h195 ih191 u129m u129x h122 fM120 hM120 h121 ih117 u106z h105 fM103 hM103 rnB rnS rnK rnE rns hret C hp0 hcw hpr hM0; omega)) (by exact ⟨h195.1, (by (clear h234 ua233 la233 h232 ua231 la231 ea231 fM229 hM229 h230 ih226 h199 fM194 hM194 ih191 u129m u129x h122 fM120 hM120 h121 ih117 u106z h105 fM103 hM103 rnB rnS rnK rns hret C hp0 hcw hpr hM0; omega))⟩) (by exact ⟨h230.1, (by (clear h234 ua233 la233 ua231 la231 fM229 hM229 ih226 h201 h199 fM194 hM194 h195 ih191 u129m u129x h122 fM120 hM120 h121 ih117 u106z h105 fM103 hM103 rnS rnK rnE rns hret C hp0 hcw hpr hM0; omega))⟩)) gX12_laysComes_X12_boughtBy rfl hdX12_boughtBy (by decide) (Nat.le_of_ble_eq_true rfl) dX12_laysComes_75 rfl (fun r235 M236 h237 => ?_)
                      obtain ⟨a239, rfl, rfl, h238⟩ := h237
                      obtain rfl : a239 = ((M229.1 106 (6 * a193 + a228).toNat).toInt) := by exact h238.2.2
                      refine y_iconst C dX12_laysComes_78 ?_
                      have u240l := lf_g (M := M229) (f := (M0.1 99)) (by exact h230.2.2.2.1) (s := a193) (b := a228) (by exact ⟨h195.1, ⟨h230.2.2.2.2.2.1, ⟨h230.1, (by (clear h238 h234 ua233 la233 ua231 la231 fM229 hM229 ih226 h199 fM194 hM194 ih191 u129m u129x h122 fM120 hM120 h121 ih117 u106z h105 fM103 hM103 rnB rnS rnK rnE rns hret C hp0 hcw hpr hM0; omega))⟩⟩⟩)
                      have u240v := bo_ev (f := (M0.1 99)) (b := a228) (s := a193) rnK (by exact ⟨h195.1, h230.2.2.2.2.2.1⟩)
                      have u240k : ((M229.1 106 (6 * a193 + a228).toNat).toInt) = boF (M0.1 99) a228 a193 := by exact u240l
                      refine y_icmp_eq C 98 dX12_laysComes_79 (by decide) (by exact ⟨⟨(by (clear u240k u240v h234 ua233 la233 h232 ua231 la231 ea231 fM229 hM229 h230 ih226 h201 h199 fM194 hM194 h195 ih191 u129m u129x h122 fM120 hM120 h121 ih117 u106z h105 fM103 hM103 rnB rnS rnK rnE rns hret C hp0 hcw hpr hM0; omega)), (by (clear u240k u240v h234 ua233 la233 h232 ua231 la231 ea231 fM229 hM229 h230 ih226 h201 h199 fM194 hM194 h195 ih191 u129m u129x h122 fM120 hM120 h121 ih117 u106z h105 fM103 hM103 rnB rnS rnK rnE rns hret C hp0 hcw hpr hM0; omega))⟩, ⟨(by decide), (by decide)⟩⟩) (fun h241 => ?_) (fun h241 => ?_)
                      · have u242m := cm_n (M := M229) (f := (M0.1 99)) (t := a193) (b := a228) (by exact h230.2.2.1) (by (clear u240k u240v h238 h234 ua233 la233 h232 ua231 la231 ea231 fM229 hM229 h230 ih226 h201 h199 fM194 hM194 h195 ih191 u129m u129x h122 fM120 hM120 h121 ih117 u106z h105 fM103 hM103 rnB rnS rnK rnE rns hret C hp0 hcw hpr hM0; omega))
                        refine y_iinc C 2 [(2, .int (sI (a228 + 1))), (0, .ref (ad 98)), (1, .int (sI a193))] dX12_laysComes_98 rfl (by decide) rfl ?_
                        refine j_goto C 53 dX12_laysComes_101 (by decide) ?_
                        refine j_lv [1, 2, 0] rfl ?_; exact ih226 (a228 + 1) M229 (by exact ⟨(by (clear h241 u240k u240v u240l h238 h234 ua233 la233 ua231 la231 fM229 hM229 ih226 h199 fM194 hM194 h195 ih191 u129m u129x h122 fM120 hM120 h121 ih117 u106z h105 fM103 hM103 rnS rnK rnE rns hret C hp0 hcw hpr hM0; omega)), ⟨(by (clear h241 u240k u240v u240l h238 h234 ua233 la233 ua231 la231 fM229 hM229 ih226 h199 fM194 hM194 h195 ih191 u129m u129x h122 fM120 hM120 h121 ih117 u106z h105 fM103 hM103 rnS rnK rnE rns hret C hp0 hcw hpr hM0; omega)), ⟨u242m, ⟨h230.2.2.2.1, ⟨(by (clear h241 u240k u240v u240l h238 h234 ua233 la233 ua231 la231 fM229 hM229 ih226 h199 fM194 hM194 h195 ih191 u129m u129x h122 fM120 hM120 h121 ih117 u106z h105 fM103 hM103 rnS rnK rnE rns hret C hp0 hcw hpr hM0; omega)), ⟨h230.2.2.2.2.2.1, ⟨h230.2.2.2.2.2.2.1, (by (clear h241 u240k u240v u240l h238 h234 ua233 la233 ua231 la231 fM229 hM229 ih226 h199 fM194 hM194 h195 ih191 u129m u129x h122 fM120 hM120 h121 ih117 u106z h105 fM103 hM103 rnS rnK rnE rns hret C hp0 hcw hpr hM0; omega))⟩⟩⟩⟩⟩⟩⟩) hM229 (FR.rf.tr fM229 (by decide))
                      · refine j_aload_n C 0 0 dX12_laysComes_82 rfl rfl ?_
                        refine y_getC C 11 109 fX12_laysComes_48 rfl rfl ft_11_22 sm_11_22 rfl hM229 dX12_laysComes_83 ?_
                        refine j_iload_n C 1 1 dX12_laysComes_86 rfl rfl ?_
                        refine y_iconst C dX12_laysComes_87 ?_
                        refine j_aload_n C 0 0 dX12_laysComes_88 rfl rfl ?_
                        refine j_iload_n C 1 1 dX12_laysComes_89 rfl rfl ?_
                        refine j_iload_n C 2 2 dX12_laysComes_90 rfl rfl ?_
                        refine j_callVi C (d := 0) (As := [.int (sI a193), .int (sI a228)]) (st := [.int (sI 1), .int (sI a193), .ref (ad 109)]) 98 (s_lt rfl rfl) (s_kc (c := 11) rfl rfl) (by decide) rfl (s1_X12_boughtBy hM229 a193 (by omega) a228 (by omega) (by exact ⟨h195.1, (by omega)⟩) (by exact ⟨h230.1, (by omega)⟩)) gX12_laysComes_X12_boughtBy rfl hdX12_boughtBy (by decide) (Nat.le_of_ble_eq_true rfl) dX12_laysComes_91 rfl (fun r243 M244 h245 => ?_)
                        obtain ⟨a247, rfl, rfl, h246⟩ := h245
                        obtain rfl : a247 = ((M229.1 106 (6 * a193 + a228).toNat).toInt) := by exact h246.2.2
                        refine e_shl1 C 7 128 dX12_laysComes_94 rfl (by decide) (by (clear h246 u240k u240v h234 ua233 la233 h232 ua231 la231 ea231 fM229 hM229 h230 ih226 h201 h199 fM194 hM194 h195 ih191 u129m u129x h122 fM120 hM120 h121 ih117 u106z h105 fM103 hM103 rnB rnS rnK rnE rns hret C hp0 hcw hpr hM0; omega)) (fun lb248 ub248 => ?_)
                        refine e_iorN C 8 255 dX12_laysComes_95 rfl (by decide) (by exact ⟨h195.1, ⟨(by (clear h246 h241 u240k u240v u240l h238 h234 ua233 la233 h232 ua231 la231 ea231 fM229 hM229 h230 ih226 h199 fM194 hM194 ih191 u129m u129x h122 fM120 hM120 h121 ih117 u106z h105 fM103 hM103 rnB rnS rnK rns hret C hp0 hcw hpr hM0; omega)), ⟨(by (clear h246 h241 u240k u240v u240l h238 h234 ua233 la233 h232 ua231 la231 ea231 fM229 hM229 h230 ih226 h199 fM194 hM194 ih191 u129m u129x h122 fM120 hM120 h121 ih117 u106z h105 fM103 hM103 rnB rnS rnK rns hret C hp0 hcw hpr hM0; omega)), (by (clear h246 h241 u240k u240v u240l h238 h234 ua233 la233 h232 ua231 la231 ea231 fM229 hM229 h230 ih226 h199 fM194 hM194 ih191 u129m u129x h122 fM120 hM120 h121 ih117 u106z h105 fM103 hM103 rnB rnS rnK rns hret C hp0 hcw hpr hM0; omega))⟩⟩⟩) (fun lb249 ub249 ob249 => ?_)
                        refine y_iconst C dX12_laysComes_96 ?_
                        refine y_zast C 55 256 rfl rfl rfl ak_55 an_55 rfl (sb_55 _) hM229 (PM.w hpr rfl rfl) dX12_laysComes_97 (by exact ⟨lb249, (by (clear ob249 ub248 lb248 h246 h241 u240k u240v u240l h238 h234 ua233 la233 h232 ua231 la231 ea231 fM229 hM229 h230 ih226 h201 h199 fM194 hM194 h195 ih191 u129m u129x h122 fM120 hM120 h121 ih117 u106z h105 fM103 hM103 rnB rnS rnK rnE rns hret C hp0 hcw hpr hM0; omega))⟩) (by exact ⟨(by decide), (by decide)⟩) (fun M250 eM250 hM250 => ?_)
                        have pM250 := pi_o eM250 (by decide) (by decide) (by exact h230.2.2.2.2.2.2.1)
                        have u251o : orI a193 (pw2 ((M229.1 106 (6 * a193 + a228).toNat).toInt)) = orI a193 (pw2 (boF (M0.1 99) a228 a193)) := by rw [show ((M229.1 106 (6 * a193 + a228).toNat).toInt) = boF (M0.1 99) a228 a193 by exact u240k]
                        have u251w : M250 = wI M229 109 (orI a193 (pw2 (boF (M0.1 99) a228 a193))).toNat (sI 1) := by rw [← u251o]; exact eM250
                        have u251m := cm_w (M := M229) (N := M250) (f := (M0.1 99)) (t := a193) (b := a228) rns u251w (by exact h230.2.2.1) (by (clear u251w u251o pM250 hM250 eM250 ob249 ub249 lb249 ub248 lb248 h246 u240k h232 ua231 la231 ea231 fM229 hM229 h230 ih226 h201 h199 fM194 hM194 h195 ih191 u129m u129x h122 fM120 hM120 h121 ih117 u106z h105 fM103 hM103 rnB rnS rnK rnE rns hret C hp0 hcw hpr hM0; omega)) (by exact ⟨h195.1, ⟨h230.2.2.2.2.2.1, ⟨h230.1, (by (clear u251w u251o pM250 hM250 eM250 ob249 ub249 lb249 ub248 lb248 h246 h241 u240k u240v u240l h238 h234 ua233 la233 ua231 la231 fM229 hM229 ih226 h199 fM194 hM194 ih191 u129m u129x h122 fM120 hM120 h121 ih117 u106z h105 fM103 hM103 rnB rnS rnK rnE rns hret C hp0 hcw hpr hM0; omega))⟩⟩⟩) (by (clear u251w u251o pM250 hM250 eM250 ob249 ub249 lb249 ub248 lb248 h246 u240k u240v h238 h234 ua233 la233 h232 ua231 la231 ea231 fM229 hM229 h230 ih226 h201 h199 fM194 hM194 h195 ih191 u129m u129x h122 fM120 hM120 h121 ih117 u106z h105 fM103 hM103 rnB rnS rnK rnE rns hret C hp0 hcw hpr hM0; omega))
                        have u251l := lf_c (M := M229) (N := M250) (f := (M0.1 99)) (wI_cell eM250 (by decide)) (by exact h230.2.2.2.1)
                        refine y_iinc C 2 [(2, .int (sI (a228 + 1))), (0, .ref (ad 98)), (1, .int (sI a193))] dX12_laysComes_98 rfl (by decide) rfl ?_
                        refine j_goto C 53 dX12_laysComes_101 (by decide) ?_
                        refine j_lv [1, 2, 0] rfl ?_; exact ih226 (a228 + 1) M250 (by exact ⟨(by (clear u251w u251o hM250 eM250 ob249 ub249 lb249 ub248 lb248 h246 h241 u240k u240v u240l h238 h234 ua233 la233 ua231 la231 fM229 hM229 ih226 h199 fM194 hM194 h195 ih191 u129m u129x h122 fM120 hM120 h121 ih117 u106z h105 fM103 hM103 rnS rnK rnE rns hret C hp0 hcw hpr hM0; omega)), ⟨(by (clear u251w u251o hM250 eM250 ob249 ub249 lb249 ub248 lb248 h246 h241 u240k u240v u240l h238 h234 ua233 la233 ua231 la231 fM229 hM229 ih226 h199 fM194 hM194 h195 ih191 u129m u129x h122 fM120 hM120 h121 ih117 u106z h105 fM103 hM103 rnS rnK rnE rns hret C hp0 hcw hpr hM0; omega)), ⟨u251m, ⟨u251l, ⟨(by (clear u251w u251o hM250 eM250 ob249 ub249 lb249 ub248 lb248 h246 h241 u240k u240v u240l h238 h234 ua233 la233 ua231 la231 fM229 hM229 ih226 h199 fM194 hM194 h195 ih191 u129m u129x h122 fM120 hM120 h121 ih117 u106z h105 fM103 hM103 rnS rnK rnE rns hret C hp0 hcw hpr hM0; omega)), ⟨h230.2.2.2.2.2.1, ⟨pM250, (by (clear u251w u251o hM250 eM250 ob249 ub249 lb249 ub248 lb248 h246 h241 u240k u240v u240l h238 h234 ua233 la233 ua231 la231 fM229 hM229 ih226 h199 fM194 hM194 h195 ih191 u129m u129x h122 fM120 hM120 h121 ih117 u106z h105 fM103 hM103 rnS rnK rnE rns hret C hp0 hcw hpr hM0; omega))⟩⟩⟩⟩⟩⟩⟩) hM250 ((FR.rf.tr fM229 (by decide)).wI eM250 (by decide))
              refine j_lv [1, 2, 0] rfl ?_; exact L227 2010 0 M194 (by exact ⟨(by decide), ⟨(by decide), ⟨h195.2.2.1, ⟨h195.2.2.2.1, ⟨rnB.1, ⟨(by (clear L227 h199 fM194 hM194 ih191 u129m u129x h122 fM120 hM120 h121 ih117 u106z h105 fM103 hM103 rnS rnK rnE rns hret C hp0 hcw hpr hM0; omega)), ⟨h195.2.2.2.2.2.1, (by decide)⟩⟩⟩⟩⟩⟩⟩) hM194 (FR.rf.tr fM194 (by decide))
        refine j_lv [1, 0] rfl ?_; exact L192 2010 0 M120 (by exact ⟨(by decide), ⟨(by decide), ⟨u129m, ⟨h121.2.2.2.1, ⟨(by (clear L192 u129x h122 fM120 hM120 ih117 u106z h105 fM103 hM103 rnB rnS rnK rns hret C hp0 hcw hpr hM0; omega)), ⟨h121.2.2.2.2.1, (by decide)⟩⟩⟩⟩⟩⟩) hM120 (FR.rf.tr fM120 (by decide))
      · refine j_aload_n C 0 0 dX12_laysComes_13 rfl rfl ?_
        refine y_getC C 11 109 fX12_laysComes_48 rfl rfl ft_11_22 sm_11_22 rfl hM120 dX12_laysComes_14 ?_
        refine j_iload_n C 1 1 dX12_laysComes_17 rfl rfl ?_
        refine j_iload_n C 1 1 dX12_laysComes_18 rfl rfl ?_
        refine j_aload_n C 0 0 dX12_laysComes_19 rfl rfl ?_
        refine y_getC C 11 99 fX12_laysComes_13 rfl rfl ft_11_1 sm_11_1 rfl hM120 dX12_laysComes_20 ?_
        refine y_bipush C dX12_laysComes_23 rfl ?_
        refine y_ialdH C 45 3543 rfl rfl rfl ak_45 an_45 rfl _ _ hM120 (hr_45_27_27 _ (by exact (by decide)) (by exact (by decide))) dX12_laysComes_25 (by exact ⟨(by decide), (by decide)⟩) (fun a123 ea123 la123 ua123 => ?_)
        obtain rfl : a123 = (M0.1 99 27).toInt := s_fF fM120 (by decide) (ea123)
        refine y_icmp_ne C 33 dX12_laysComes_26 (by decide) (by (clear la123 fM120 hM120 ih117 u106z h105 fM103 hM103 rnB rnK rnE rns hret C hp0 hcw hpr hM0; omega)) (fun h124 => ?_) (fun h124 => ?_)
        · refine y_iconst C dX12_laysComes_33 ?_
          refine y_zast C 55 256 rfl rfl rfl ak_55 an_55 rfl (sb_55 _) hM120 (PM.w hpr rfl rfl) dX12_laysComes_34 (by exact ⟨h121.1, (by (clear h124 ua123 la123 ea123 fM120 hM120 ih117 u106z h105 fM103 hM103 rnB rnS rnK rnE rns hret C hp0 hcw hpr hM0; omega))⟩) (by exact ⟨(by decide), (by decide)⟩) (fun M125 eM125 hM125 => ?_)
          have pM125 := pi_o eM125 (by decide) (by decide) (by exact h121.2.2.2.2.1)
          have u126c := c0_s (M := M120) (N := M125) (f := (M0.1 99)) (x := a119) (x' := a119 + 1) (v := 0) eM125 (by exact h121.2.2.1) (by (clear pM125 hM125 eM125 h124 ua123 la123 ea123 fM120 hM120 ih117 u106z h105 fM103 hM103 rnB rnS rnK rnE rns hret C hp0 hcw hpr hM0; omega)) (by (clear pM125 hM125 eM125 ua123 la123 h122 fM120 hM120 h121 ih117 u106z h105 fM103 hM103 rnB rnS rnK rnE rns hret C hp0 hcw hpr hM0; omega))
          have u126l := lf_c (M := M120) (N := M125) (f := (M0.1 99)) (wI_cell eM125 (by decide)) (by exact h121.2.2.2.1)
          refine y_iinc C 1 [(1, .int (sI (a119 + 1))), (0, .ref (ad 98))] dX12_laysComes_35 rfl (by decide) rfl ?_
          refine j_goto C 6 dX12_laysComes_38 (by decide) ?_
          refine j_lv [1, 0] rfl ?_; exact ih117 (a119 + 1) M125 (by exact ⟨(by (clear hM125 eM125 h124 ua123 la123 ea123 fM120 hM120 ih117 u106z h105 fM103 hM103 rnB rnS rnK rnE rns hret C hp0 hcw hpr hM0; omega)), ⟨(by (clear hM125 eM125 h124 ua123 la123 ea123 fM120 hM120 ih117 u106z h105 fM103 hM103 rnB rnS rnK rnE rns hret C hp0 hcw hpr hM0; omega)), ⟨u126c, ⟨u126l, ⟨pM125, (by (clear hM125 eM125 h124 ua123 la123 ea123 fM120 hM120 ih117 u106z h105 fM103 hM103 rnB rnS rnK rnE rns hret C hp0 hcw hpr hM0; omega))⟩⟩⟩⟩⟩) hM125 ((FR.rf.tr fM120 (by decide)).wI eM125 (by decide))
        · refine y_iconst C dX12_laysComes_29 ?_
          refine j_goto C 34 dX12_laysComes_30 (by decide) ?_
          refine y_zast C 55 256 rfl rfl rfl ak_55 an_55 rfl (sb_55 _) hM120 (PM.w hpr rfl rfl) dX12_laysComes_34 (by exact ⟨h121.1, (by (clear la123 h122 fM120 hM120 h121 ih117 u106z h105 fM103 hM103 rnB rnK rnE rns hret C hp0 hcw hpr hM0; omega))⟩) (by exact ⟨(by decide), (by decide)⟩) (fun M127 eM127 hM127 => ?_)
          have pM127 := pi_o eM127 (by decide) (by decide) (by exact h121.2.2.2.2.1)
          have u128c := c0_s (M := M120) (N := M127) (f := (M0.1 99)) (x := a119) (x' := a119 + 1) (v := 1) eM127 (by exact h121.2.2.1) (by (clear pM127 hM127 eM127 la123 h122 fM120 hM120 h121 ih117 u106z h105 fM103 hM103 rnB rnK rnE rns hret C hp0 hcw hpr hM0; omega)) (by (clear pM127 hM127 eM127 ua123 la123 h122 fM120 hM120 h121 ih117 u106z h105 fM103 hM103 rnB rnS rnK rnE rns hret C hp0 hcw hpr hM0; omega))
          have u128l := lf_c (M := M120) (N := M127) (f := (M0.1 99)) (wI_cell eM127 (by decide)) (by exact h121.2.2.2.1)
          refine y_iinc C 1 [(1, .int (sI (a119 + 1))), (0, .ref (ad 98))] dX12_laysComes_35 rfl (by decide) rfl ?_
          refine j_goto C 6 dX12_laysComes_38 (by decide) ?_
          refine j_lv [1, 0] rfl ?_; exact ih117 (a119 + 1) M127 (by exact ⟨(by (clear hM127 eM127 la123 h122 fM120 hM120 ih117 u106z h105 fM103 hM103 rnB rnK rnE rns hret C hp0 hcw hpr hM0; omega)), ⟨(by (clear hM127 eM127 la123 h122 fM120 hM120 ih117 u106z h105 fM103 hM103 rnB rnK rnE rns hret C hp0 hcw hpr hM0; omega)), ⟨u128c, ⟨u128l, ⟨pM127, (by (clear hM127 eM127 la123 h122 fM120 hM120 ih117 u106z h105 fM103 hM103 rnB rnK rnE rns hret C hp0 hcw hpr hM0; omega))⟩⟩⟩⟩⟩) hM127 ((FR.rf.tr fM120 (by decide)).wI eM127 (by decide))
  refine j_lv [1, 0] rfl ?_; exact L118 2010 0 M103 (by exact ⟨(by decide), ⟨(by decide), ⟨u106z, ⟨h105.2.1, ⟨h105.2.2, (by decide)⟩⟩⟩⟩⟩) hM103 (FR.rf.tr fM103 (by decide))
set_option maxHeartbeats 4000000 in
theorem s1_X12_sellable {l : Launch} {dC : Nat → ClassId} {dI : Nat → Nat → Nat} {ad : Nat → Nat} {cA : Nat → ClassId} {pr : Nat → Nat → Bool} {Kz : mm_M} {M0 : mm_M} (hM0 : INV pr Kz M0) (hpr : PM pr) (hcw : CWK pr Kz)  (hp0 : b01 (PI M0) = 1) : Ci l 6 yX12_sellable wsX12_sellable dC dI ad cA [.ref (ad 98)] M0 (fun r M' => ∃ a : Int, r = sI a ∧ INV pr Kz M' ∧ FR [98, 103, 104, 106, 109] M0 M' ∧ 0 ≤ a ∧ a ≤ 255 ∧ (a = svA (M0.1 99)) ∧ (b01 (PI M') = 1)) := by
  refine ci_of (cc := cX12_sellable) (maxL := 3) (ty := .int) (lv := [(0, .ref (ad 98))]) (by decide) rfl (fun r M' hp => rfl) (Nat.le_of_ble_eq_true rfl) rfl ?_
  intro p e s m args below meth c A Q C hret
  refine j_aload_n C 0 0 dX12_sellable_0 rfl rfl ?_
  refine y_iconst C dX12_sellable_1 ?_
  refine y_putIF C 11 qX12_sellable_1 rfl rfl ft_11_0 sb_11_0 hM0 (PM.w hpr rfl rfl) dX12_sellable_2 (fun M101 eM101 hM101 => ?_)
  have pM101 := pi_o eM101 (by decide) (by decide) (by exact hp0)
  refine j_aload_n C 0 0 dX12_sellable_5 rfl rfl ?_
  refine j_callVv C (d := 5) (As := []) (st := []) 98 (s_lt rfl rfl) (s_kc (c := 11) rfl rfl) (by decide) rfl (s1_X12_laysComes hM101 hpr hcw (by exact pM101)) gX12_sellable_X12_laysComes rfl hdX12_laysComes (by decide) (Nat.le_of_ble_eq_true rfl) dX12_sellable_6 rfl (fun M103 h104 => ?_)
  obtain ⟨hM103, fM103, h105⟩ := h104
  have rns : RNS (M0.1 99) := rns_i hM0.1 (by exact hp0)
  have rnE := evF_b rns.1
  have rnK := rns.1
  have rnS := rns.2.1
  have rnB := rns.2.2
  have u106c : b01 (CME M103 (M0.1 99)) = 1 := by rw [← ((wI_cell eM101 (by decide)))]; exact h105.1
  have u106z : scF (M0.1 99) (0 : Int).toNat = 0 := rfl
  refine y_iconst C dX12_sellable_9 ?_
  refine j_istore_n C 1 [(1, .int (sI 0)), (0, .ref (ad 98))] dX12_sellable_10 rfl (by decide) rfl ?_
  refine y_iconst C dX12_sellable_11 ?_
  refine j_istore_n C 2 [(2, .int (sI 0)), (1, .int (sI 0)), (0, .ref (ad 98))] dX12_sellable_12 rfl (by decide) rfl ?_
  have L117 : ∀ (n115 : Nat), ∀ (a118 : Int) (a119 : Int), (0 ≤ a118 ∧ a118 ≤ 255 ∧ 0 ≤ a119 ∧ a119 ≤ 256 ∧ (a118 = scF (M0.1 99) (a119).toNat) ∧ (b01 (CME M103 (M0.1 99)) = 1) ∧ (256 - a119) < (n115 : Int)) → jj p l e (cn_R 6) s m args below meth c 0 0 Q 3 dC dI ad cA A M103 13 [(0, .ref (ad 98)), (1, .int (sI a118)), (2, .int (sI a119))] [] := by
    intro n115
    induction n115 with
    | zero =>
      intro a118 a119 h120
      exfalso; (clear u106z u106c rnB rnS rnK rnE rns h105 fM103 hM103 pM101 hM101 eM101 hret C hp0 hcw hpr hM0; omega)
    | succ n115 ih116 =>
      intro a118 a119 h120
      refine j_iload_n C 2 2 dX12_sellable_13 rfl rfl ?_
      refine y_sipush C dX12_sellable_14 rfl ?_
      refine y_icmp_ge C 43 dX12_sellable_17 (by decide) (by exact ⟨⟨(by (clear ih116 u106z u106c rnB rnS rnK rnE rns h105 fM103 hM103 pM101 hM101 eM101 hret C hp0 hcw hpr hM0; omega)), (by (clear ih116 u106z u106c rnB rnS rnK rnE rns h105 fM103 hM103 pM101 hM101 eM101 hret C hp0 hcw hpr hM0; omega))⟩, ⟨(by decide), (by decide)⟩⟩) (fun h121 => ?_) (fun h121 => ?_)
      · have u127x : a119 = 256 := by (clear ih116 u106z u106c rnB rnS rnK rnE rns h105 fM103 hM103 pM101 hM101 eM101 hret C hp0 hcw hpr hM0; omega)
        have u127y : scF (M0.1 99) (a119).toNat = svA (M0.1 99) := by rw [u127x]; rfl
        refine j_iload_n C 1 1 dX12_sellable_43 rfl rfl ?_
        exact hret _ _ _ _ dX12_sellable_44 ⟨a118, rfl, hM103, ((FR.rf.wI eM101 (by decide)).tr fM103 (by decide)), by exact ⟨h120.1, ⟨h120.2.1, ⟨(by (clear u127x h121 ih116 u106z u106c rnB rnS rnK rnE rns fM103 hM103 pM101 hM101 eM101 hret C hp0 hcw hpr hM0; omega)), h105.2⟩⟩⟩⟩
      · refine j_iload_n C 1 1 dX12_sellable_20 rfl rfl ?_
        refine j_aload_n C 0 0 dX12_sellable_21 rfl rfl ?_
        refine y_getC C 11 109 fX12_sellable_48 rfl rfl ft_11_22 sm_11_22 rfl hM103 dX12_sellable_22 ?_
        refine j_iload_n C 2 2 dX12_sellable_25 rfl rfl ?_
        refine y_zald C 55 256 _ _ rfl rfl rfl ak_55 an_55 rfl (sb_55 _) hM103 dX12_sellable_26 (by exact ⟨h120.2.2.1, (by (clear ih116 u106z u106c rnB rnS rnK rnE rns h105 fM103 hM103 pM101 hM101 eM101 hret C hp0 hcw hpr hM0; omega))⟩) (fun a122 ea122 la122 ua122 => ?_)
        obtain rfl : a122 = (M103.1 109 (a119).toNat).toInt := ea122
        have u123g := cme_g (M := M103) (f := (M0.1 99)) (by exact u106c) (s := a119) (by exact ⟨h120.2.2.1, (by (clear ua122 la122 ih116 u106z u106c rnB rnS rnK rnE rns h105 fM103 hM103 pM101 hM101 eM101 hret C hp0 hcw hpr hM0; omega))⟩)
        have u123s := sc_s (M0.1 99) (x := a119) (x' := a119 + 1) (a := a118) (by exact h120.2.2.1) rfl (by exact h120.2.2.2.2.1)
        refine y_if_eq C 34 dX12_sellable_27 (by decide) (by (clear u123s h121 h120 ih116 u106z u106c rnB rnS rnK rnE rns h105 fM103 hM103 pM101 hM101 eM101 hret C hp0 hcw hpr hM0; omega)) (fun h124 => ?_) (fun h124 => ?_)
        · refine y_iconst C dX12_sellable_34 ?_
          refine e_iorN C 8 255 dX12_sellable_35 rfl (by decide) (by exact ⟨h120.1, ⟨h120.2.1, ⟨(by decide), (by decide)⟩⟩⟩) (fun lb125 ub125 ob125 => ?_)
          refine j_istore_n C 1 [(1, .int (sI (orI a118 0))), (0, .ref (ad 98)), (2, .int (sI a119))] dX12_sellable_36 rfl (by decide) rfl ?_
          refine y_iinc C 2 [(2, .int (sI (a119 + 1))), (1, .int (sI (orI a118 0))), (0, .ref (ad 98))] dX12_sellable_37 rfl (by decide) rfl ?_
          refine j_goto C 13 dX12_sellable_40 (by decide) ?_
          refine j_lv [2, 1, 0] rfl ?_; exact ih116 (orI a118 0) (a119 + 1) (by exact ⟨lb125, ⟨ub125, ⟨(by (clear ob125 ua122 la122 ih116 u106z rnB rnS rnK rnE rns h105 fM103 hM103 pM101 hM101 eM101 hret C hp0 hcw hpr hM0; omega)), ⟨(by (clear ob125 ua122 la122 ih116 u106z rnB rnS rnK rnE rns h105 fM103 hM103 pM101 hM101 eM101 hret C hp0 hcw hpr hM0; omega)), ⟨(by (clear ob125 ua122 la122 ih116 u106z rnB rnS rnK rnE rns h105 fM103 hM103 pM101 hM101 eM101 hret C hp0 hcw hpr hM0; omega)), ⟨u106c, (by (clear ob125 ua122 la122 ih116 u106z rnB rnS rnK rnE rns h105 fM103 hM103 pM101 hM101 eM101 hret C hp0 hcw hpr hM0; omega))⟩⟩⟩⟩⟩⟩)
        · refine j_iload_n C 2 2 dX12_sellable_30 rfl rfl ?_
          refine j_goto C 35 dX12_sellable_31 (by decide) ?_
          refine e_iorN C 8 255 dX12_sellable_35 rfl (by decide) (by exact ⟨h120.1, ⟨h120.2.1, ⟨h120.2.2.1, (by (clear h124 u123s u123g ua122 la122 ih116 u106z u106c rnB rnS rnK rnE rns h105 fM103 hM103 pM101 hM101 eM101 hret C hp0 hcw hpr hM0; omega))⟩⟩⟩) (fun lb126 ub126 ob126 => ?_)
          refine j_istore_n C 1 [(1, .int (sI (orI a118 a119))), (0, .ref (ad 98)), (2, .int (sI a119))] dX12_sellable_36 rfl (by decide) rfl ?_
          refine y_iinc C 2 [(2, .int (sI (a119 + 1))), (1, .int (sI (orI a118 a119))), (0, .ref (ad 98))] dX12_sellable_37 rfl (by decide) rfl ?_
          refine j_goto C 13 dX12_sellable_40 (by decide) ?_
          refine j_lv [2, 1, 0] rfl ?_; exact ih116 (orI a118 a119) (a119 + 1) (by exact ⟨lb126, ⟨ub126, ⟨(by (clear ob126 ih116 u106z rnB rnS rnK rnE rns h105 fM103 hM103 pM101 hM101 eM101 hret C hp0 hcw hpr hM0; omega)), ⟨(by (clear ob126 ih116 u106z rnB rnS rnK rnE rns h105 fM103 hM103 pM101 hM101 eM101 hret C hp0 hcw hpr hM0; omega)), ⟨(by (clear ob126 ih116 u106z rnB rnS rnK rnE rns h105 fM103 hM103 pM101 hM101 eM101 hret C hp0 hcw hpr hM0; omega)), ⟨u106c, (by (clear ob126 ih116 u106z rnB rnS rnK rnE rns h105 fM103 hM103 pM101 hM101 eM101 hret C hp0 hcw hpr hM0; omega))⟩⟩⟩⟩⟩⟩)
  refine j_lv [2, 1, 0] rfl ?_; exact L117 2010 0 0 (by exact ⟨(by decide), ⟨(by decide), ⟨(by decide), ⟨(by decide), ⟨u106z.symm, ⟨u106c, (by decide)⟩⟩⟩⟩⟩⟩)
set_option maxHeartbeats 4000000 in
theorem s1_X12_guards {l : Launch} {dC : Nat → ClassId} {dI : Nat → Nat → Nat} {ad : Nat → Nat} {cA : Nat → ClassId} {pr : Nat → Nat → Bool} {Kz : mm_M} {M0 : mm_M} (hM0 : INV pr Kz M0) (hpr : PM pr) (hcw : CWK pr Kz)  (hp0 : b01 (PI M0) = 1) : Ci l 6 yX12_guards wsX12_guards dC dI ad cA [.ref (ad 98)] M0 (fun r M' => ∃ a : Int, r = sI a ∧ INV pr Kz M' ∧ FR [98, 99, 103, 104, 106, 107] M0 M' ∧ 0 ≤ a ∧ a ≤ 255 ∧ (b01 (M'.1 99 = (M0.1 99)) = 1) ∧ (a = guA (M0.1 99)) ∧ (b01 (PI M') = 1)) := by
  refine ci_of (cc := cX12_guards) (maxL := 4) (ty := .int) (lv := [(0, .ref (ad 98))]) (by decide) rfl (fun r M' hp => rfl) (Nat.le_of_ble_eq_true rfl) rfl ?_
  intro p e s m args below meth c A Q C hret
  refine j_aload_n C 0 0 dX12_guards_0 rfl rfl ?_
  refine y_iconst C dX12_guards_1 ?_
  refine y_putIF C 11 qX12_guards_1 rfl rfl ft_11_0 sb_11_0 hM0 (PM.w hpr rfl rfl) dX12_guards_2 (fun M101 eM101 hM101 => ?_)
  have pM101 := pi_o eM101 (by decide) (by decide) (by exact hp0)
  refine y_iconst C dX12_guards_5 ?_
  refine j_istore_n C 1 [(1, .int (sI 0)), (0, .ref (ad 98))] dX12_guards_6 rfl (by decide) rfl ?_
  refine j_aload_n C 1 0 dX12_guards_7 rfl rfl ?_
  refine j_callVi C (d := 5) (As := []) (st := []) 98 (s_lt rfl rfl) (s_kc (c := 11) rfl rfl) (by decide) rfl (s1_X12_endingNow hM101 hpr hcw (by exact pM101)) gX12_guards_X12_endingNow rfl hdX12_endingNow (by decide) (Nat.le_of_ble_eq_true rfl) dX12_guards_8 rfl (fun r102 M103 h104 => ?_)
  obtain ⟨a106, rfl, hM103, fM103, h105⟩ := h104
  have u107c : enF (M101.1 99) (-1) = enF (M0.1 99) (-1) := by rw [((wI_cell eM101 (by decide)))]
  have u107z : guF (M0.1 99) (0 : Int).toNat = 0 := rfl
  have u107s := guA_s (M0.1 99)
  have u107B := hM0.rd (i := 99) (c := 45) (k := 26) rfl (show s_b 45 26 = (0, 8) from rfl)
  refine y_iconst C dX12_guards_11 ?_
  refine y_icmp_ne C 17 dX12_guards_12 (by decide) (by exact ⟨⟨(by omega), (by omega)⟩, ⟨(by decide), (by decide)⟩⟩) (fun h108 => ?_) (fun h108 => ?_)
  · refine j_aload_n C 1 0 dX12_guards_17 rfl rfl ?_
    refine y_getC C 11 99 fX12_guards_13 rfl rfl ft_11_1 sm_11_1 rfl hM103 dX12_guards_18 ?_
    refine y_bipush C dX12_guards_21 rfl ?_
    refine y_ialdH C 45 3543 rfl rfl rfl ak_45 an_45 rfl _ _ hM103 (hr_45_28_28 _ (by exact (by decide)) (by exact (by decide))) dX12_guards_23 (by exact ⟨(by decide), (by decide)⟩) (fun a109 ea109 la109 ua109 => ?_)
    obtain rfl : a109 = (M0.1 99 28).toInt := s_fa eM101 (by decide) (s_fF fM103 (by decide) (ea109))
    refine j_istore_n C 2 [(2, .int (sI (M0.1 99 28).toInt)), (1, .int (sI 0)), (0, .ref (ad 98))] dX12_guards_24 rfl (by decide) rfl ?_
    refine y_iconst C dX12_guards_25 ?_
    refine j_istore_n C 3 [(3, .int (sI 0)), (2, .int (sI (M0.1 99 28).toInt)), (1, .int (sI 0)), (0, .ref (ad 98))] dX12_guards_26 rfl (by decide) rfl ?_
    have u1100 := smj_0 (M := M0) 28 (f := M0.1 99) rfl
    have u110s0 : b01 (SMJ 28 (M0.1 99) (M101.1 99)) = 1 := smj_c (M := M0) (N := M101) u1100 ((wI_cell eM101 (by decide)))
    have u110s1 : b01 (SMJ 28 (M0.1 99) (M103.1 99)) = 1 := smj_c (M := M101) (N := M103) u110s0 ((FR.cell fM103 (by decide)))
    have L142 : ∀ (n140 : Nat), ∀ (a143 : Int) (a144 : Int) (M145 : mm_M), (0 ≤ a143 ∧ a143 ≤ 255 ∧ 0 ≤ a144 ∧ a144 ≤ 8 ∧ (b01 (SMJ 28 (M0.1 99) (M145.1 99)) = 1) ∧ (a143 = guF (M0.1 99) (a144).toNat) ∧ ((M0.1 99 28).toInt = (M0.1 99 28).toInt) ∧ (a144 ≤ (M0.1 99 26).toInt) ∧ (¬ enF (M0.1 99) (-1) = -1) ∧ (b01 (PI M145) = 1) ∧ (8 - a144) < (n140 : Int)) → INV pr Kz M145 → FR [98, 99, 103, 104, 106, 107] M0 M145 → jj p l e (cn_R 6) s m args below meth c 0 0 Q 4 dC dI ad cA A M145 27 [(0, .ref (ad 98)), (1, .int (sI a143)), (2, .int (sI (M0.1 99 28).toInt)), (3, .int (sI a144))] [] := by
      intro n140
      induction n140 with
      | zero =>
        intro a143 a144 M145 h146 hM145 fM145
        exfalso; omega
      | succ n140 ih141 =>
        intro a143 a144 M145 h146 hM145 fM145
        have u147q := congrArg Int32.toInt (b01_e (P := SMJ 28 (M0.1 99) (M145.1 99)) (by exact h146.2.2.2.2.1) 26 (by decide))
        refine j_iload_n C 3 3 dX12_guards_27 rfl rfl ?_
        refine j_aload_n C 0 0 dX12_guards_28 rfl rfl ?_
        refine y_getC C 11 99 fX12_guards_13 rfl rfl ft_11_1 sm_11_1 rfl hM145 dX12_guards_29 ?_
        refine y_bipush C dX12_guards_32 rfl ?_
        refine y_ialdH C 45 3543 rfl rfl rfl ak_45 an_45 rfl _ _ hM145 (hr_45_26_26 _ (by exact (by decide)) (by exact (by decide))) dX12_guards_34 (by exact ⟨(by decide), (by decide)⟩) (fun a148 ea148 la148 ua148 => ?_)
        obtain rfl : a148 = (M145.1 99 26).toInt := ea148
        refine y_icmp_ge C 86 dX12_guards_35 (by decide) (by (clear ua148 la148 fM145 hM145 ih141 u110s1 u110s0 u1100 ua109 la109 ea109 h108 u107s u107z u107c h105 fM103 hM103 pM101 hM101 eM101 hret C hp0 hcw hpr hM0; omega)) (fun h149 => ?_) (fun h149 => ?_)
        · have u173x : a144 = (M0.1 99 26).toInt := by (clear ua148 la148 fM145 hM145 ih141 u110s1 u110s0 u1100 ua109 la109 ea109 h108 u107B u107s u107z u107c h105 fM103 hM103 pM101 hM101 eM101 hret C hp0 hcw hpr hM0; omega)
          have u173y : guF (M0.1 99) (a144).toNat = guF (M0.1 99) (M0.1 99 26).toInt.toNat := by rw [u173x]
          have u173s := guA_s (M0.1 99)
          refine j_aload_n C 0 0 dX12_guards_86 rfl rfl ?_
          refine y_getC C 11 99 fX12_guards_13 rfl rfl ft_11_1 sm_11_1 rfl hM145 dX12_guards_87 ?_
          refine y_bipush C dX12_guards_90 rfl ?_
          refine j_iload_n C 2 2 dX12_guards_92 rfl rfl ?_
          refine y_iastH C 45 3543 rfl rfl rfl ak_45 an_45 rfl _ _ hM145 (PM.w hpr rfl (hm_28_28 _ (by exact (by decide)) (by exact (by decide)))) (hs_45_28_28 _ (by exact (by decide)) (by exact (by decide))) dX12_guards_93 (by exact ⟨(by decide), (by decide)⟩) (by exact ⟨⟨(by (clear u173s u173y u173x h149 ua148 la148 u147q fM145 hM145 h146 ih141 u110s1 u110s0 u1100 h108 u107B u107s u107z u107c h105 fM103 hM103 pM101 hM101 eM101 hret C hp0 hcw hpr hM0; omega)), (by (clear u173s u173y u173x h149 ua148 la148 u147q fM145 hM145 h146 ih141 u110s1 u110s0 u1100 h108 u107B u107s u107z u107c h105 fM103 hM103 pM101 hM101 eM101 hret C hp0 hcw hpr hM0; omega))⟩, ⟨la109, ua109⟩⟩) (fun M174 eM174 hM174 => ?_)
          have pM174 := pi_n eM174 (hn_28_28 _ (by exact (by decide)) (by exact (by decide))) (by exact h146.2.2.2.2.2.2.2.2.2.1)
          refine j_iload_n C 1 1 dX12_guards_94 rfl rfl ?_
          have u175e := smj_e (M := M145) (N := M174) (k := 28) (f := M0.1 99) eM174 (h := show b01 (SMJ 28 (M0.1 99) (M145.1 99)) = 1 by exact h146.2.2.2.2.1) (by exact h146.2.2.2.2.2.2.1)
          exact hret _ _ _ _ dX12_guards_95 ⟨a143, rfl, hM174, ((FR.rf.tr fM145 (by decide)).wI eM174 (by decide)), by exact ⟨h146.1, ⟨h146.2.1, ⟨u175e, ⟨(by (clear hM174 eM174 u173x h149 ua148 la148 u147q fM145 hM145 ih141 u110s1 u110s0 u1100 ua109 la109 ea109 h108 u107B u107s u107z u107c h105 fM103 hM103 pM101 hM101 eM101 hret C hp0 hcw hpr hM0; omega)), pM174⟩⟩⟩⟩⟩
        · refine j_iload_n C 2 2 dX12_guards_38 rfl rfl ?_
          refine y_i2l C dX12_guards_39 (by (clear h149 ua148 la148 u147q fM145 hM145 h146 ih141 u110s1 u110s0 u1100 h108 u107B u107s u107z u107c h105 fM103 hM103 pM101 hM101 eM101 hret C hp0 hcw hpr hM0; omega)) ?_
          refine j_iload_n C 3 3 dX12_guards_40 rfl rfl ?_
          refine j_callSi C (d := 0) (As := [.long (sJ (M0.1 99 28).toInt), .int (sI a144)]) (st := []) (s1_X12_isIn hM145 (M0.1 99 28).toInt (by (clear h149 ua148 la148 u147q fM145 hM145 h146 ih141 u110s1 u110s0 u1100 h108 u107B u107s u107z u107c h105 fM103 hM103 pM101 hM101 eM101 hret C hp0 hcw hpr hM0; omega)) a144 (by (clear h149 ua148 la148 u147q fM145 hM145 ih141 u110s1 u110s0 u1100 ua109 la109 ea109 h108 u107B u107s u107z u107c h105 fM103 hM103 pM101 hM101 eM101 hret C hp0 hcw hpr hM0; omega))) gX12_guards_X12_isIn rfl hdX12_isIns (by decide) (Nat.le_of_ble_eq_true rfl) dX12_guards_41 rfl (fun r150 M151 h152 => ?_)
          obtain ⟨a154, rfl, rfl, h153⟩ := h152
          obtain rfl : a154 = (iiF (M0.1 99 28).toInt a144) := by exact h153.2.2
          have u155s := gu_s (M0.1 99) (x := a144) (x' := a144 + 1) (a := a143) (by exact h146.2.2.1) rfl (by exact h146.2.2.2.2.2.1)
          have u155f : iiF (M0.1 99 28).toInt a144 = iiF (M0.1 99 28).toInt a144 := by rw [show (M0.1 99 28).toInt = (M0.1 99 28).toInt by exact h146.2.2.2.2.2.2.1]
          refine y_if_eq C 50 dX12_guards_44 (by decide) (by (clear u155f u155s h149 ua148 la148 u147q fM145 hM145 h146 ih141 u110s1 u110s0 u1100 ua109 la109 ea109 h108 u107B u107s u107z u107c h105 fM103 hM103 pM101 hM101 eM101 hret C hp0 hcw hpr hM0; omega)) (fun h156 => ?_) (fun h156 => ?_)
          · refine j_aload_n C 0 0 dX12_guards_50 rfl rfl ?_
            refine y_getC C 11 99 fX12_guards_13 rfl rfl ft_11_1 sm_11_1 rfl hM145 dX12_guards_51 ?_
            refine y_bipush C dX12_guards_54 rfl ?_
            refine j_iload_n C 2 2 dX12_guards_56 rfl rfl ?_
            refine y_iconst C dX12_guards_57 ?_
            refine j_iload_n C 3 3 dX12_guards_58 rfl rfl ?_
            refine e_shl1 C 7 128 dX12_guards_59 rfl (by decide) (by exact ⟨h146.2.2.1, (by (clear h156 u155f u155s h153 ua148 la148 fM145 hM145 ih141 u110s1 u110s0 u1100 ua109 la109 ea109 h108 u107s u107z u107c h105 fM103 hM103 pM101 hM101 eM101 hret C hp0 hcw hpr hM0; omega))⟩) (fun lb157 ub157 => ?_)
            refine e_iorN C 8 255 dX12_guards_60 rfl (by decide) (by exact ⟨la109, ⟨ua109, ⟨(by (clear h156 u155f u155s h153 h149 ua148 la148 u147q fM145 hM145 h146 ih141 u110s1 u110s0 u1100 h108 u107B u107s u107z u107c h105 fM103 hM103 pM101 hM101 eM101 hret C hp0 hcw hpr hM0; omega)), (by (clear h156 u155f u155s h153 h149 ua148 la148 u147q fM145 hM145 h146 ih141 u110s1 u110s0 u1100 h108 u107B u107s u107z u107c h105 fM103 hM103 pM101 hM101 eM101 hret C hp0 hcw hpr hM0; omega))⟩⟩⟩) (fun lb158 ub158 ob158 => ?_)
            refine y_iastH C 45 3543 rfl rfl rfl ak_45 an_45 rfl _ _ hM145 (PM.w hpr rfl (hm_28_28 _ (by exact (by decide)) (by exact (by decide)))) (hs_45_28_28 _ (by exact (by decide)) (by exact (by decide))) dX12_guards_61 (by exact ⟨(by decide), (by decide)⟩) (by exact ⟨⟨(by (clear ob158 ub157 lb157 h156 u155f u155s h153 h149 ua148 la148 u147q fM145 hM145 h146 ih141 u110s1 u110s0 u1100 ua109 la109 ea109 h108 u107B u107s u107z u107c h105 fM103 hM103 pM101 hM101 eM101 hret C hp0 hcw hpr hM0; omega)), (by (clear ob158 ub157 lb157 h156 u155f u155s h153 h149 ua148 la148 u147q fM145 hM145 h146 ih141 u110s1 u110s0 u1100 ua109 la109 ea109 h108 u107B u107s u107z u107c h105 fM103 hM103 pM101 hM101 eM101 hret C hp0 hcw hpr hM0; omega))⟩, ⟨lb158, ub158⟩⟩) (fun M159 eM159 hM159 => ?_)
            have pM159 := pi_n eM159 (hn_28_28 _ (by exact (by decide)) (by exact (by decide))) (by exact h146.2.2.2.2.2.2.2.2.2.1)
            refine j_iload_n C 1 1 dX12_guards_62 rfl rfl ?_
            refine j_aload_n C 0 0 dX12_guards_63 rfl rfl ?_
            refine j_callVi C (d := 5) (As := []) (st := [.int (sI a143)]) 98 (s_lt rfl rfl) (s_kc (c := 11) rfl rfl) (by decide) rfl (s1_X12_endingNow hM159 hpr hcw (by exact pM159)) gX12_guards_X12_endingNow rfl hdX12_endingNow (by decide) (Nat.le_of_ble_eq_true rfl) dX12_guards_64 rfl (fun r160 M161 h162 => ?_)
            obtain ⟨a164, rfl, hM161, fM161, h163⟩ := h162
            have u165w : M159.1 99 = hdS (M0.1 99) a144 := hd_w (M := M145) (f := (M0.1 99)) (h := (M0.1 99 28).toInt) eM159 (by exact h146.2.2.2.2.1) (by exact h146.2.2.2.2.2.2.1)
            have u165c : enF (M159.1 99) (-1) = enF (hdS (M0.1 99) a144) (-1) := by rw [u165w]
            refine y_iconst C dX12_guards_67 ?_
            refine y_icmp_ne C 77 dX12_guards_68 (by decide) (by exact ⟨⟨(by (clear u165w fM161 hM161 pM159 hM159 eM159 ob158 ub158 lb158 ub157 lb157 h156 u155f u155s h153 h149 ua148 la148 u147q fM145 hM145 h146 ih141 u110s1 u110s0 u1100 ua109 la109 ea109 h108 u107B u107s u107z u107c h105 fM103 hM103 pM101 hM101 eM101 hret C hp0 hcw hpr hM0; omega)), (by (clear u165w fM161 hM161 pM159 hM159 eM159 ob158 ub158 lb158 ub157 lb157 h156 u155f u155s h153 h149 ua148 la148 u147q fM145 hM145 h146 ih141 u110s1 u110s0 u1100 ua109 la109 ea109 h108 u107B u107s u107z u107c h105 fM103 hM103 pM101 hM101 eM101 hret C hp0 hcw hpr hM0; omega))⟩, ⟨(by decide), (by decide)⟩⟩) (fun h166 => ?_) (fun h166 => ?_)
            · refine y_iconst C dX12_guards_77 ?_
              refine e_iorN C 8 255 dX12_guards_78 rfl (by decide) (by exact ⟨h146.1, ⟨h146.2.1, ⟨(by decide), (by decide)⟩⟩⟩) (fun lb167 ub167 ob167 => ?_)
              refine j_istore_n C 1 [(1, .int (sI (orI a143 0))), (0, .ref (ad 98)), (2, .int (sI (M0.1 99 28).toInt)), (3, .int (sI a144))] dX12_guards_79 rfl (by decide) rfl ?_
              refine y_iinc C 3 [(3, .int (sI (a144 + 1))), (1, .int (sI (orI a143 0))), (0, .ref (ad 98)), (2, .int (sI (M0.1 99 28).toInt))] dX12_guards_80 rfl (by decide) rfl ?_
              refine j_goto C 27 dX12_guards_83 (by decide) ?_
              have u168s0 : b01 (SMJ 28 (M0.1 99) (M159.1 99)) = 1 := smj_w (M := M145) (N := M159) eM159 (by exact h146.2.2.2.2.1)
              have u168s1 : b01 (SMJ 28 (M0.1 99) (M161.1 99)) = 1 := smj_c (M := M159) (N := M161) u168s0 ((FR.cell fM161 (by decide)))
              refine j_lv [2, 1, 3, 0] rfl ?_; exact ih141 (orI a143 0) (a144 + 1) M161 (by exact ⟨lb167, ⟨ub167, ⟨(by (clear u168s0 ob167 u165w fM161 hM161 pM159 hM159 eM159 ob158 ub158 lb158 ub157 lb157 u155f h153 ua148 la148 fM145 hM145 ih141 u110s1 u110s0 u1100 ua109 la109 ea109 h108 u107s u107z u107c h105 fM103 hM103 pM101 hM101 eM101 hret C hp0 hcw hpr hM0; omega)), ⟨(by (clear u168s0 ob167 u165w fM161 hM161 pM159 hM159 eM159 ob158 ub158 lb158 ub157 lb157 u155f h153 ua148 la148 fM145 hM145 ih141 u110s1 u110s0 u1100 ua109 la109 ea109 h108 u107s u107z u107c h105 fM103 hM103 pM101 hM101 eM101 hret C hp0 hcw hpr hM0; omega)), ⟨u168s1, ⟨(by (clear u168s0 ob167 u165w fM161 hM161 pM159 hM159 eM159 ob158 ub158 lb158 ub157 lb157 u155f h153 ua148 la148 fM145 hM145 ih141 u110s1 u110s0 u1100 ua109 la109 ea109 h108 u107s u107z u107c h105 fM103 hM103 pM101 hM101 eM101 hret C hp0 hcw hpr hM0; omega)), ⟨h146.2.2.2.2.2.2.1, ⟨(by (clear u168s0 ob167 u165w fM161 hM161 pM159 hM159 eM159 ob158 ub158 lb158 ub157 lb157 u155f h153 ua148 la148 fM145 hM145 ih141 u110s1 u110s0 u1100 ua109 la109 ea109 h108 u107s u107z u107c h105 fM103 hM103 pM101 hM101 eM101 hret C hp0 hcw hpr hM0; omega)), ⟨h146.2.2.2.2.2.2.2.2.1, ⟨h163.2.2.2.2.2.2.2.2, (by (clear u168s0 ob167 u165w fM161 hM161 pM159 hM159 eM159 ob158 ub158 lb158 ub157 lb157 u155f h153 ua148 la148 fM145 hM145 ih141 u110s1 u110s0 u1100 ua109 la109 ea109 h108 u107s u107z u107c h105 fM103 hM103 pM101 hM101 eM101 hret C hp0 hcw hpr hM0; omega))⟩⟩⟩⟩⟩⟩⟩⟩⟩⟩) hM161 (((FR.rf.tr fM145 (by decide)).wI eM159 (by decide)).tr fM161 (by decide))
            · refine y_iconst C dX12_guards_71 ?_
              refine j_iload_n C 3 3 dX12_guards_72 rfl rfl ?_
              refine e_shl1 C 7 128 dX12_guards_73 rfl (by decide) (by exact ⟨h146.2.2.1, (by (clear h166 u165c u165w h163 fM161 hM161 pM159 hM159 eM159 ob158 ub158 lb158 ub157 lb157 h156 u155f u155s h153 ua148 la148 fM145 hM145 ih141 u110s1 u110s0 u1100 ua109 la109 ea109 h108 u107s u107z u107c h105 fM103 hM103 pM101 hM101 eM101 hret C hp0 hcw hpr hM0; omega))⟩) (fun lb169 ub169 => ?_)
              refine j_goto C 78 dX12_guards_74 (by decide) ?_
              refine e_iorN C 8 255 dX12_guards_78 rfl (by decide) (by exact ⟨h146.1, ⟨h146.2.1, ⟨(by (clear ub169 lb169 h166 u165c u165w h163 fM161 hM161 pM159 hM159 eM159 ob158 ub158 lb158 h156 u155f u155s h153 h149 ua148 la148 u147q fM145 hM145 ih141 u110s1 u110s0 u1100 ua109 la109 ea109 h108 u107B u107s u107z u107c h105 fM103 hM103 pM101 hM101 eM101 hret C hp0 hcw hpr hM0; omega)), (by (clear ub169 lb169 h166 u165c u165w h163 fM161 hM161 pM159 hM159 eM159 ob158 ub158 lb158 h156 u155f u155s h153 h149 ua148 la148 u147q fM145 hM145 ih141 u110s1 u110s0 u1100 ua109 la109 ea109 h108 u107B u107s u107z u107c h105 fM103 hM103 pM101 hM101 eM101 hret C hp0 hcw hpr hM0; omega))⟩⟩⟩) (fun lb170 ub170 ob170 => ?_)
              refine j_istore_n C 1 [(1, .int (sI (orI a143 (pw2 a144)))), (0, .ref (ad 98)), (2, .int (sI (M0.1 99 28).toInt)), (3, .int (sI a144))] dX12_guards_79 rfl (by decide) rfl ?_
              refine y_iinc C 3 [(3, .int (sI (a144 + 1))), (1, .int (sI (orI a143 (pw2 a144)))), (0, .ref (ad 98)), (2, .int (sI (M0.1 99 28).toInt))] dX12_guards_80 rfl (by decide) rfl ?_
              refine j_goto C 27 dX12_guards_83 (by decide) ?_
              have u171s0 : b01 (SMJ 28 (M0.1 99) (M159.1 99)) = 1 := smj_w (M := M145) (N := M159) eM159 (by exact h146.2.2.2.2.1)
              have u171s1 : b01 (SMJ 28 (M0.1 99) (M161.1 99)) = 1 := smj_c (M := M159) (N := M161) u171s0 ((FR.cell fM161 (by decide)))
              refine j_lv [2, 1, 3, 0] rfl ?_; exact ih141 (orI a143 (pw2 a144)) (a144 + 1) M161 (by exact ⟨lb170, ⟨ub170, ⟨(by (clear u171s0 ob170 ub169 lb169 u165w fM161 hM161 pM159 hM159 eM159 ob158 ub158 lb158 ub157 lb157 u155f h153 ua148 la148 fM145 hM145 ih141 u110s1 u110s0 u1100 ua109 la109 ea109 h108 u107s u107z u107c h105 fM103 hM103 pM101 hM101 eM101 hret C hp0 hcw hpr hM0; omega)), ⟨(by (clear u171s0 ob170 ub169 lb169 u165w fM161 hM161 pM159 hM159 eM159 ob158 ub158 lb158 ub157 lb157 u155f h153 ua148 la148 fM145 hM145 ih141 u110s1 u110s0 u1100 ua109 la109 ea109 h108 u107s u107z u107c h105 fM103 hM103 pM101 hM101 eM101 hret C hp0 hcw hpr hM0; omega)), ⟨u171s1, ⟨(by (clear u171s0 ob170 ub169 lb169 u165w fM161 hM161 pM159 hM159 eM159 ob158 ub158 lb158 ub157 lb157 u155f h153 ua148 la148 fM145 hM145 ih141 u110s1 u110s0 u1100 ua109 la109 ea109 h108 u107s u107z u107c h105 fM103 hM103 pM101 hM101 eM101 hret C hp0 hcw hpr hM0; omega)), ⟨h146.2.2.2.2.2.2.1, ⟨(by (clear u171s0 ob170 ub169 lb169 u165w fM161 hM161 pM159 hM159 eM159 ob158 ub158 lb158 ub157 lb157 u155f h153 ua148 la148 fM145 hM145 ih141 u110s1 u110s0 u1100 ua109 la109 ea109 h108 u107s u107z u107c h105 fM103 hM103 pM101 hM101 eM101 hret C hp0 hcw hpr hM0; omega)), ⟨h146.2.2.2.2.2.2.2.2.1, ⟨h163.2.2.2.2.2.2.2.2, (by (clear u171s0 ob170 ub169 lb169 u165w fM161 hM161 pM159 hM159 eM159 ob158 ub158 lb158 ub157 lb157 u155f h153 ua148 la148 fM145 hM145 ih141 u110s1 u110s0 u1100 ua109 la109 ea109 h108 u107s u107z u107c h105 fM103 hM103 pM101 hM101 eM101 hret C hp0 hcw hpr hM0; omega))⟩⟩⟩⟩⟩⟩⟩⟩⟩⟩) hM161 (((FR.rf.tr fM145 (by decide)).wI eM159 (by decide)).tr fM161 (by decide))
          · refine j_goto C 80 dX12_guards_47 (by decide) ?_
            refine y_iinc C 3 [(3, .int (sI (a144 + 1))), (0, .ref (ad 98)), (1, .int (sI a143)), (2, .int (sI (M0.1 99 28).toInt))] dX12_guards_80 rfl (by decide) rfl ?_
            refine j_goto C 27 dX12_guards_83 (by decide) ?_
            refine j_lv [1, 2, 3, 0] rfl ?_; exact ih141 a143 (a144 + 1) M145 (by exact ⟨h146.1, ⟨h146.2.1, ⟨(by (clear u155f ua148 la148 fM145 hM145 ih141 u110s1 u110s0 u1100 ua109 la109 ea109 h108 u107s u107z u107c h105 fM103 hM103 pM101 hM101 eM101 hret C hp0 hcw hpr hM0; omega)), ⟨(by (clear u155f ua148 la148 fM145 hM145 ih141 u110s1 u110s0 u1100 ua109 la109 ea109 h108 u107s u107z u107c h105 fM103 hM103 pM101 hM101 eM101 hret C hp0 hcw hpr hM0; omega)), ⟨h146.2.2.2.2.1, ⟨(by (clear u155f ua148 la148 fM145 hM145 ih141 u110s1 u110s0 u1100 ua109 la109 ea109 h108 u107s u107z u107c h105 fM103 hM103 pM101 hM101 eM101 hret C hp0 hcw hpr hM0; omega)), ⟨h146.2.2.2.2.2.2.1, ⟨(by (clear u155f ua148 la148 fM145 hM145 ih141 u110s1 u110s0 u1100 ua109 la109 ea109 h108 u107s u107z u107c h105 fM103 hM103 pM101 hM101 eM101 hret C hp0 hcw hpr hM0; omega)), ⟨h146.2.2.2.2.2.2.2.2.1, ⟨h146.2.2.2.2.2.2.2.2.2.1, (by (clear u155f ua148 la148 fM145 hM145 ih141 u110s1 u110s0 u1100 ua109 la109 ea109 h108 u107s u107z u107c h105 fM103 hM103 pM101 hM101 eM101 hret C hp0 hcw hpr hM0; omega))⟩⟩⟩⟩⟩⟩⟩⟩⟩⟩) hM145 (FR.rf.tr fM145 (by decide))
    refine j_lv [3, 2, 1, 0] rfl ?_; exact L142 2010 0 0 M103 (by (clear L142 u110s0 u1100 ua109 la109 ea109 u107s fM103 hM103 pM101 hM101 eM101 hret C hp0 hcw hpr hM0; omega)) hM103 ((FR.rf.wI eM101 (by decide)).tr fM103 (by decide))
  · refine j_iload_n C 0 1 dX12_guards_15 rfl rfl ?_
    have u176r : b01 (M103.1 99 = M0.1 99) = 1 := b01_i (((FR.cell fM103 (by decide)).trans (wI_cell eM101 (by decide))))
    exact hret _ _ _ _ dX12_guards_16 ⟨0, rfl, hM103, ((FR.rf.wI eM101 (by decide)).tr fM103 (by decide)), by exact ⟨(by decide), ⟨(by decide), ⟨u176r, ⟨(by (clear u107B u107z fM103 hM103 pM101 hM101 eM101 hret C hp0 hcw hpr hM0; omega)), h105.2.2.2.2.2.2.2.2⟩⟩⟩⟩⟩
set_option maxHeartbeats 4000000 in
theorem s1_X12_last {l : Launch} {dC : Nat → ClassId} {dI : Nat → Nat → Nat} {ad : Nat → Nat} {cA : Nat → ClassId} {pr : Nat → Nat → Bool} {Kz : mm_M} {M0 : mm_M} (hM0 : INV pr Kz M0) (hpr : PM pr) (hcw : CWK pr Kz)  (hp0 : b01 (PI M0) = 1) : Ci l 6 yX12_last wsX12_last dC dI ad cA [.ref (ad 98)] M0 (fun r M' => ∃ a : Int, r = sI a ∧ INV pr Kz M' ∧ FR [98, 103, 104, 106, 109] M0 M' ∧ 0 ≤ a ∧ a ≤ 255 ∧ (a = laA (M0.1 99)) ∧ (b01 (PI M') = 1)) := by
  refine ci_of (cc := cX12_last) (maxL := 4) (ty := .int) (lv := [(0, .ref (ad 98))]) (by decide) rfl (fun r M' hp => rfl) (Nat.le_of_ble_eq_true rfl) rfl ?_
  intro p e s m args below meth c A Q C hret
  refine j_aload_n C 0 0 dX12_last_0 rfl rfl ?_
  refine y_iconst C dX12_last_1 ?_
  refine y_putIF C 11 qX12_last_1 rfl rfl ft_11_0 sb_11_0 hM0 (PM.w hpr rfl rfl) dX12_last_2 (fun M101 eM101 hM101 => ?_)
  have pM101 := pi_o eM101 (by decide) (by decide) (by exact hp0)
  refine j_aload_n C 0 0 dX12_last_5 rfl rfl ?_
  refine j_callVv C (d := 5) (As := []) (st := []) 98 (s_lt rfl rfl) (s_kc (c := 11) rfl rfl) (by decide) rfl (s1_X12_laysComes hM101 hpr hcw (by exact pM101)) gX12_last_X12_laysComes rfl hdX12_laysComes (by decide) (Nat.le_of_ble_eq_true rfl) dX12_last_6 rfl (fun M103 h104 => ?_)
  obtain ⟨hM103, fM103, h105⟩ := h104
  have rns : RNS (M0.1 99) := rns_i hM0.1 (by exact hp0)
  have rnE := evF_b rns.1
  have rnK := rns.1
  have rnS := rns.2.1
  have rnB := rns.2.2
  have u106c : b01 (CME M103 (M0.1 99)) = 1 := by rw [← ((wI_cell eM101 (by decide)))]; exact h105.1
  have u106z : laF (M0.1 99) (0 : Int).toNat = 0 := rfl
  refine y_iconst C dX12_last_9 ?_
  refine j_istore_n C 1 [(1, .int (sI 0)), (0, .ref (ad 98))] dX12_last_10 rfl (by decide) rfl ?_
  refine y_iconst C dX12_last_11 ?_
  refine j_istore_n C 2 [(2, .int (sI 0)), (1, .int (sI 0)), (0, .ref (ad 98))] dX12_last_12 rfl (by decide) rfl ?_
  have L133 : ∀ (n131 : Nat), ∀ (a134 : Int) (a135 : Int), (0 ≤ a134 ∧ a134 ≤ 255 ∧ 0 ≤ a135 ∧ a135 ≤ 256 ∧ (a134 = laF (M0.1 99) (a135).toNat) ∧ (b01 (CME M103 (M0.1 99)) = 1) ∧ (a135 ≤ evF (M0.1 99) + 1) ∧ (256 - a135) < (n131 : Int)) → jj p l e (cn_R 6) s m args below meth c 0 0 Q 4 dC dI ad cA A M103 13 [(0, .ref (ad 98)), (1, .int (sI a134)), (2, .int (sI a135))] [] := by
    intro n131
    induction n131 with
    | zero =>
      intro a134 a135 h136
      exfalso; omega
    | succ n131 ih132 =>
      intro a134 a135 h136
      refine j_iload_n C 2 2 dX12_last_13 rfl rfl ?_
      refine j_aload_n C 0 0 dX12_last_14 rfl rfl ?_
      refine j_callVi C (d := 0) (As := []) (st := [.int (sI a135)]) 98 (s_lt rfl rfl) (s_kc (c := 11) rfl rfl) (by decide) rfl (s1_X12_everyKind hM103) gX12_last_X12_everyKind rfl hdX12_everyKind (by decide) (Nat.le_of_ble_eq_true rfl) dX12_last_15 rfl (fun r137 M138 h139 => ?_)
      obtain ⟨a141, rfl, rfl, h140⟩ := h139
      rw [show M103.1 99 = M0.1 99 from ((FR.cell fM103 (by decide)).trans (wI_cell eM101 (by decide)))] at h140
      obtain rfl : a141 = (evF (M0.1 99)) := by exact h140.2.2
      refine y_icmp_gt C 57 dX12_last_18 (by decide) (by (clear h140 ih132 u106z u106c rnB rnS rnK rns h105 fM103 hM103 pM101 hM101 eM101 hret C hp0 hcw hpr hM0; omega)) (fun h142 => ?_) (fun h142 => ?_)
      · have u159x : a135 = evF (M0.1 99) + 1 := by (clear h140 ih132 u106z u106c rnB rnS rnK rnE rns h105 fM103 hM103 pM101 hM101 eM101 hret C hp0 hcw hpr hM0; omega)
        have u159y : laF (M0.1 99) (a135).toNat = laA (M0.1 99) := by rw [u159x]; rfl
        refine j_iload_n C 1 1 dX12_last_57 rfl rfl ?_
        exact hret _ _ _ _ dX12_last_58 ⟨a134, rfl, hM103, ((FR.rf.wI eM101 (by decide)).tr fM103 (by decide)), by exact ⟨h136.1, ⟨h136.2.1, ⟨(by (clear u159x h142 h140 ih132 u106z u106c rnB rnS rnK rnE rns fM103 hM103 pM101 hM101 eM101 hret C hp0 hcw hpr hM0; omega)), h105.2⟩⟩⟩⟩
      · refine j_aload_n C 0 0 dX12_last_21 rfl rfl ?_
        refine j_callVi C (d := 1) (As := []) (st := []) 98 (s_lt rfl rfl) (s_kc (c := 11) rfl rfl) (by decide) rfl (s1_X12_shown hM103) gX12_last_X12_shown rfl hdX12_shown (by decide) (Nat.le_of_ble_eq_true rfl) dX12_last_22 rfl (fun r143 M144 h145 => ?_)
        obtain ⟨a147, rfl, rfl, h146⟩ := h145
        rw [show M103.1 99 = M0.1 99 from ((FR.cell fM103 (by decide)).trans (wI_cell eM101 (by decide)))] at h146
        obtain rfl : a147 = (snF (M0.1 99)) := by exact h146.2.2
        refine j_iload_n C 2 2 dX12_last_25 rfl rfl ?_
        refine y_iconst C dX12_last_26 ?_
        refine y_not C dX12_last_27 ?_
        refine e_iandL C dX12_last_28 (by exact ⟨h146.1, (by (clear h142 h140 h136 ih132 u106z u106c rnB rnS rnK rnE rns h105 fM103 hM103 pM101 hM101 eM101 hret C hp0 hcw hpr hM0; omega))⟩) (fun lb148 ub148 => ?_)
        refine j_istore_n C 3 [(3, .int (sI (andI (snF (M0.1 99)) ((-1) - a135)))), (0, .ref (ad 98)), (1, .int (sI a134)), (2, .int (sI a135))] dX12_last_29 rfl (by decide) rfl ?_
        refine j_aload_n C 1 0 dX12_last_30 rfl rfl ?_
        refine y_getC C 11 109 fX12_last_48 rfl rfl ft_11_22 sm_11_22 rfl hM103 dX12_last_31 ?_
        refine j_iload_n C 3 2 dX12_last_34 rfl rfl ?_
        refine y_zald C 55 256 _ _ rfl rfl rfl ak_55 an_55 rfl (sb_55 _) hM103 dX12_last_35 (by exact ⟨h136.2.2.1, (by (clear ub148 lb148 h146 h140 ih132 u106z u106c rnB rnS rnK rns h105 fM103 hM103 pM101 hM101 eM101 hret C hp0 hcw hpr hM0; omega))⟩) (fun a149 ea149 la149 ua149 => ?_)
        obtain rfl : a149 = (M103.1 109 (a135).toNat).toInt := ea149
        have u150g := cme_g (M := M103) (f := (M0.1 99)) (by exact u106c) (s := a135) (by exact ⟨h136.2.2.1, (by (clear ua149 la149 ub148 lb148 h146 h140 ih132 u106z u106c rnB rnS rnK rns h105 fM103 hM103 pM101 hM101 eM101 hret C hp0 hcw hpr hM0; omega))⟩)
        have u150s := la_s (M0.1 99) (x := a135) (x' := a135 + 1) (a := a134) (by exact h136.2.2.1) rfl (by exact h136.2.2.2.2.1)
        refine y_if_eq C 51 dX12_last_36 (by decide) (by omega) (fun h151 => ?_) (fun h151 => ?_)
        · refine y_iinc C 3 [(2, .int (sI (a135 + 1))), (3, .int (sI (andI (snF (M0.1 99)) ((-1) - a135)))), (0, .ref (ad 98)), (1, .int (sI a134))] dX12_last_51 rfl (by decide) rfl ?_
          refine j_goto C 13 dX12_last_54 (by decide) ?_
          refine j_lv [2, 3, 0] rfl ?_; exact ih132 a134 (a135 + 1) (by exact ⟨h136.1, ⟨h136.2.1, ⟨(by (clear ua149 la149 ub148 lb148 h146 h140 ih132 u106z rnB rnS rnK rns h105 fM103 hM103 pM101 hM101 eM101 hret C hp0 hcw hpr hM0; omega)), ⟨(by (clear ua149 la149 ub148 lb148 h146 h140 ih132 u106z rnB rnS rnK rns h105 fM103 hM103 pM101 hM101 eM101 hret C hp0 hcw hpr hM0; omega)), ⟨(by (clear ua149 la149 ub148 lb148 h146 h140 ih132 u106z rnB rnS rnK rns h105 fM103 hM103 pM101 hM101 eM101 hret C hp0 hcw hpr hM0; omega)), ⟨u106c, ⟨(by (clear ua149 la149 ub148 lb148 h146 h140 ih132 u106z rnB rnS rnK rns h105 fM103 hM103 pM101 hM101 eM101 hret C hp0 hcw hpr hM0; omega)), (by (clear ua149 la149 ub148 lb148 h146 h140 ih132 u106z rnB rnS rnK rns h105 fM103 hM103 pM101 hM101 eM101 hret C hp0 hcw hpr hM0; omega))⟩⟩⟩⟩⟩⟩⟩)
        · refine j_iload_n C 0 3 dX12_last_39 rfl rfl ?_
          refine j_callSi C (d := 0) (As := [.int (sI (andI (snF (M0.1 99)) ((-1) - a135)))]) (st := []) (s1_X12_bitsOf hM103 (andI (snF (M0.1 99)) ((-1) - a135)) (by (clear h151 u150s u150g ua149 la149 h142 h140 h136 ih132 u106z u106c rnB rnS rnK rnE rns h105 fM103 hM103 pM101 hM101 eM101 hret C hp0 hcw hpr hM0; omega))) gX12_last_X12_bitsOf rfl hdX12_bitsOfs (by decide) (Nat.le_of_ble_eq_true rfl) dX12_last_40 rfl (fun r152 M153 h154 => ?_)
          obtain ⟨a156, rfl, rfl, h155⟩ := h154
          obtain rfl : a156 = (bsF (andI (snF (M0.1 99)) ((-1) - a135)) (8 : Int).toNat) := by exact h155.2.2
          refine y_iconst C dX12_last_43 ?_
          refine y_icmp_ne C 51 dX12_last_44 (by decide) (by exact ⟨⟨(by (clear h151 u150s u150g ua149 la149 ub148 lb148 h146 h142 h140 h136 ih132 u106z u106c rnB rnS rnK rnE rns h105 fM103 hM103 pM101 hM101 eM101 hret C hp0 hcw hpr hM0; omega)), (by (clear h151 u150s u150g ua149 la149 ub148 lb148 h146 h142 h140 h136 ih132 u106z u106c rnB rnS rnK rnE rns h105 fM103 hM103 pM101 hM101 eM101 hret C hp0 hcw hpr hM0; omega))⟩, ⟨(by decide), (by decide)⟩⟩) (fun h157 => ?_) (fun h157 => ?_)
          · refine y_iinc C 3 [(2, .int (sI (a135 + 1))), (3, .int (sI (andI (snF (M0.1 99)) ((-1) - a135)))), (0, .ref (ad 98)), (1, .int (sI a134))] dX12_last_51 rfl (by decide) rfl ?_
            refine j_goto C 13 dX12_last_54 (by decide) ?_
            refine j_lv [2, 3, 0] rfl ?_; exact ih132 a134 (a135 + 1) (by exact ⟨h136.1, ⟨h136.2.1, ⟨(by (clear ub148 lb148 h146 h140 ih132 u106z rnB rnS rnK rns h105 fM103 hM103 pM101 hM101 eM101 hret C hp0 hcw hpr hM0; omega)), ⟨(by (clear ub148 lb148 h146 h140 ih132 u106z rnB rnS rnK rns h105 fM103 hM103 pM101 hM101 eM101 hret C hp0 hcw hpr hM0; omega)), ⟨(by (clear ub148 lb148 h146 h140 ih132 u106z rnB rnS rnK rns h105 fM103 hM103 pM101 hM101 eM101 hret C hp0 hcw hpr hM0; omega)), ⟨u106c, ⟨(by (clear ub148 lb148 h146 h140 ih132 u106z rnB rnS rnK rns h105 fM103 hM103 pM101 hM101 eM101 hret C hp0 hcw hpr hM0; omega)), (by (clear ub148 lb148 h146 h140 ih132 u106z rnB rnS rnK rns h105 fM103 hM103 pM101 hM101 eM101 hret C hp0 hcw hpr hM0; omega))⟩⟩⟩⟩⟩⟩⟩)
          · refine j_iload_n C 2 1 dX12_last_47 rfl rfl ?_
            refine j_iload_n C 0 3 dX12_last_48 rfl rfl ?_
            refine e_iorN C 8 255 dX12_last_49 rfl (by decide) (by exact ⟨h136.1, ⟨h136.2.1, ⟨lb148, (by (clear h157 h155 h151 u150s u150g ua149 la149 h142 h140 ih132 u106z u106c rnB rnS rnK rnE rns h105 fM103 hM103 pM101 hM101 eM101 hret C hp0 hcw hpr hM0; omega))⟩⟩⟩) (fun lb158 ub158 ob158 => ?_)
            refine j_istore_n C 1 [(1, .int (sI (orI a134 (andI (snF (M0.1 99)) ((-1) - a135))))), (3, .int (sI (andI (snF (M0.1 99)) ((-1) - a135)))), (0, .ref (ad 98)), (2, .int (sI a135))] dX12_last_50 rfl (by decide) rfl ?_
            refine y_iinc C 3 [(2, .int (sI (a135 + 1))), (1, .int (sI (orI a134 (andI (snF (M0.1 99)) ((-1) - a135))))), (3, .int (sI (andI (snF (M0.1 99)) ((-1) - a135)))), (0, .ref (ad 98))] dX12_last_51 rfl (by decide) rfl ?_
            refine j_goto C 13 dX12_last_54 (by decide) ?_
            refine j_lv [3, 1, 0] rfl ?_; exact ih132 (orI a134 (andI (snF (M0.1 99)) ((-1) - a135))) (a135 + 1) (by exact ⟨lb158, ⟨ub158, ⟨(by (clear h155 ub148 lb148 h146 h140 ih132 u106z rnB rnS rnK rns h105 fM103 hM103 pM101 hM101 eM101 hret C hp0 hcw hpr hM0; omega)), ⟨(by (clear h155 ub148 lb148 h146 h140 ih132 u106z rnB rnS rnK rns h105 fM103 hM103 pM101 hM101 eM101 hret C hp0 hcw hpr hM0; omega)), ⟨(by (clear h155 ub148 lb148 h146 h140 ih132 u106z rnB rnS rnK rns h105 fM103 hM103 pM101 hM101 eM101 hret C hp0 hcw hpr hM0; omega)), ⟨u106c, ⟨(by (clear h155 ub148 lb148 h146 h140 ih132 u106z rnB rnS rnK rns h105 fM103 hM103 pM101 hM101 eM101 hret C hp0 hcw hpr hM0; omega)), (by (clear h155 ub148 lb148 h146 h140 ih132 u106z rnB rnS rnK rns h105 fM103 hM103 pM101 hM101 eM101 hret C hp0 hcw hpr hM0; omega))⟩⟩⟩⟩⟩⟩⟩)
  refine j_lv [2, 1, 0] rfl ?_; exact L133 2010 0 0 (by exact ⟨(by decide), ⟨(by decide), ⟨(by decide), ⟨(by decide), ⟨u106z.symm, ⟨u106c, ⟨(by (clear L133 rnB rnS rnK rns h105 fM103 hM103 pM101 hM101 eM101 hret C hp0 hcw hpr hM0; omega)), (by decide)⟩⟩⟩⟩⟩⟩⟩)
set_option maxHeartbeats 4000000 in
theorem s1_X12_isPart {l : Launch} {dC : Nat → ClassId} {dI : Nat → Nat → Nat} {ad : Nat → Nat} {cA : Nat → ClassId} {pr : Nat → Nat → Bool} {Kz : mm_M} {M0 : mm_M} (hM0 : INV pr Kz M0) (a0 : Int) (ha0 : -2147483648 ≤ a0 ∧ a0 ≤ 2147483647) : Ci l 1 yX12_isPart wsX12_isPart dC dI ad cA [.int (sI a0)] M0 (fun r M' => ∃ a : Int, r = sI a ∧ M0 = M' ∧ 0 ≤ a ∧ a ≤ 1 ∧ ((a0 < 0 ∧ 0 ≤ a ∧ a ≤ 0) ∨ (0 ≤ a0 ∧ 1 < a0 ∧ 0 ≤ a ∧ a ≤ 0) ∨ (0 ≤ a0 ∧ a0 ≤ 1 ∧ 1 ≤ a ∧ a ≤ 1))) := by
  refine ci_of (cc := cX12_isPart) (maxL := 1) (ty := .boolean) (lv := [(0, .int (sI a0))]) (by decide) rfl (fun r M' hp => by obtain ⟨a, rfl, -, h⟩ := hp; rcases (show a = 0 ∨ a = 1 by omega) with rfl | rfl <;> rfl) (Nat.le_of_ble_eq_true rfl) rfl ?_
  intro p e s m args below meth c A Q C hret
  refine j_iload_n C 0 0 dX12_isPart_0 rfl rfl ?_
  refine y_i2l C dX12_isPart_1 (by exact ⟨ha0.1, ha0.2⟩) ?_
  refine y_lconst C 0 dX12_isPart_2 rfl ?_
  refine y_lconst C 1 dX12_isPart_3 rfl ?_
  refine j_callSi C (d := 0) (As := [.long (sJ a0), .long (sJ 0), .long (sJ 1)]) (st := []) (s1_X12_within hM0 a0 (by omega) 0 (by exact ⟨(by decide), (by decide)⟩) 1 (by exact ⟨(by decide), (by decide)⟩)) gX12_isPart_X12_within rfl hdX12_withins (by decide) (Nat.le_of_ble_eq_true rfl) dX12_isPart_4 rfl (fun r101 M102 h103 => ?_)
  obtain ⟨a105, rfl, rfl, h104⟩ := h103
  exact hret _ _ _ _ dX12_isPart_7 ⟨a105, rfl, rfl, by exact ⟨h104.1, ⟨h104.2.1, (by omega)⟩⟩⟩
set_option maxHeartbeats 4000000 in
theorem s1_X12_isLate {l : Launch} {dC : Nat → ClassId} {dI : Nat → Nat → Nat} {ad : Nat → Nat} {cA : Nat → ClassId} {pr : Nat → Nat → Bool} {Kz : mm_M} {M0 : mm_M} (hM0 : INV pr Kz M0) (a0 : Int) (ha0 : -2147483648 ≤ a0 ∧ a0 ≤ 2147483647) : Ci l 1 yX12_isLate wsX12_isLate dC dI ad cA [.int (sI a0)] M0 (fun r M' => ∃ a : Int, r = sI a ∧ M0 = M' ∧ 0 ≤ a ∧ a ≤ 1 ∧ ((a0 < 0 ∧ 0 ≤ a ∧ a ≤ 0) ∨ (0 ≤ a0 ∧ 10 < a0 ∧ 0 ≤ a ∧ a ≤ 0) ∨ (0 ≤ a0 ∧ a0 ≤ 10 ∧ 1 ≤ a ∧ a ≤ 1))) := by
  refine ci_of (cc := cX12_isLate) (maxL := 1) (ty := .boolean) (lv := [(0, .int (sI a0))]) (by decide) rfl (fun r M' hp => by obtain ⟨a, rfl, -, h⟩ := hp; rcases (show a = 0 ∨ a = 1 by omega) with rfl | rfl <;> rfl) (Nat.le_of_ble_eq_true rfl) rfl ?_
  intro p e s m args below meth c A Q C hret
  refine j_iload_n C 0 0 dX12_isLate_0 rfl rfl ?_
  refine y_i2l C dX12_isLate_1 (by exact ⟨ha0.1, ha0.2⟩) ?_
  refine y_lconst C 0 dX12_isLate_2 rfl ?_
  refine y_ldc2 C 10 dX12_isLate_3 kX12_isLate_300 rfl ?_
  refine j_callSi C (d := 0) (As := [.long (sJ a0), .long (sJ 0), .long (sJ 10)]) (st := []) (s1_X12_within hM0 a0 (by omega) 0 (by exact ⟨(by decide), (by decide)⟩) 10 (by exact ⟨(by decide), (by decide)⟩)) gX12_isLate_X12_within rfl hdX12_withins (by decide) (Nat.le_of_ble_eq_true rfl) dX12_isLate_6 rfl (fun r101 M102 h103 => ?_)
  obtain ⟨a105, rfl, rfl, h104⟩ := h103
  exact hret _ _ _ _ dX12_isLate_9 ⟨a105, rfl, rfl, by exact ⟨h104.1, ⟨h104.2.1, (by omega)⟩⟩⟩
set_option maxHeartbeats 4000000 in
theorem s1_X12_goesOdds {l : Launch} {dC : Nat → ClassId} {dI : Nat → Nat → Nat} {ad : Nat → Nat} {cA : Nat → ClassId} {pr : Nat → Nat → Bool} {Kz : mm_M} {M0 : mm_M} (hM0 : INV pr Kz M0) (hpr : PM pr) (a1 : Int) (ha1 : -2147483648 ≤ a1 ∧ a1 ≤ 2147483647) (hp0 : 0 ≤ a1 ∧ a1 ≤ 255) (hp1 : b01 (PI M0) = 1) : Cv l 3 yX12_goesOdds wsX12_goesOdds dC dI ad cA [.ref (ad 98), .int (sI a1)] M0 (fun M' => INV pr Kz M' ∧ FR [98, 111, 112] M0 M' ∧ (b01 (PI M') = 1)) := by
  refine cv_of (cc := cX12_goesOdds) (maxL := 7) (lv := [(0, .ref (ad 98)), (1, .int (sI a1))]) (by decide) rfl (Nat.le_of_ble_eq_true rfl) rfl ?_
  intro p e s m args below meth c A Q C hret
  refine y_iconst C dX12_goesOdds_0 ?_
  refine j_istore_n C 2 [(2, .int (sI 0)), (0, .ref (ad 98)), (1, .int (sI a1))] dX12_goesOdds_1 rfl (by decide) rfl ?_
  have L383 : ∀ (n381 : Nat), ∀ (a384 : Int) (M385 : mm_M), (0 ≤ a384 ∧ a384 ≤ 6 ∧ (b01 (PI M385) = 1) ∧ (6 - a384) < (n381 : Int)) → INV pr Kz M385 → FR [98, 111, 112] M0 M385 → jj p l e (cn_R 3) s m args below meth c 0 0 Q 7 dC dI ad cA A M385 2 [(0, .ref (ad 98)), (1, .int (sI a1)), (2, .int (sI a384))] [] := by
    intro n381
    induction n381 with
    | zero =>
      intro a384 M385 h386 hM385 fM385
      exfalso; omega
    | succ n381 ih382 =>
      intro a384 M385 h386 hM385 fM385
      refine j_iload_n C 2 2 dX12_goesOdds_2 rfl rfl ?_
      refine j_aload_n C 0 0 dX12_goesOdds_3 rfl rfl ?_
      refine y_getC C 11 99 fX12_goesOdds_13 rfl rfl ft_11_1 sm_11_1 rfl hM385 dX12_goesOdds_4 ?_
      refine y_iconst C dX12_goesOdds_7 ?_
      refine y_ialdH C 45 3543 rfl rfl rfl ak_45 an_45 rfl _ _ hM385 (hr_45_1_1 _ (by exact (by decide)) (by exact (by decide))) dX12_goesOdds_8 (by exact ⟨(by decide), (by decide)⟩) (fun a387 ea387 la387 ua387 => ?_)
      obtain rfl : a387 = (M0.1 99 1).toInt := s_fF fM385 (by decide) (ea387)
      refine y_icmp_ge C 126 dX12_goesOdds_9 (by decide) (by (clear fM385 hM385 ih382 hret C hp1 hp0 ha1 hpr hM0; omega)) (fun h388 => ?_) (fun h388 => ?_)
      · exact hret _ _ _ dX12_goesOdds_126 ⟨hM385, (FR.rf.tr fM385 (by decide)), by exact h386.2.2.1⟩
      · refine j_aload_n C 0 0 dX12_goesOdds_12 rfl rfl ?_
        refine y_getC C 11 110 fX12_goesOdds_51 rfl rfl ft_11_23 sm_11_23 rfl hM385 dX12_goesOdds_13 ?_
        refine j_iload_n C 1 1 dX12_goesOdds_16 rfl rfl ?_
        refine y_lald C 56 256 rfl rfl rfl ak_56 an_56 rfl dX12_goesOdds_17 (by exact ⟨hp0.1, (by omega)⟩) (fun a389 ea389 la389 ua389 => ?_)
        obtain rfl : a389 = (M0.2.1 110 (a1).toNat).toInt := s_gF fM385 (by decide) (ea389)
        refine j_aload_n C 0 0 dX12_goesOdds_18 rfl rfl ?_
        refine y_getC C 11 99 fX12_goesOdds_13 rfl rfl ft_11_1 sm_11_1 rfl hM385 dX12_goesOdds_19 ?_
        refine y_bipush C dX12_goesOdds_22 rfl ?_
        refine j_iload_n C 2 2 dX12_goesOdds_24 rfl rfl ?_
        refine y_iadd C dX12_goesOdds_25 ?_
        refine y_ialdH C 45 3543 rfl rfl rfl ak_45 an_45 rfl _ _ hM385 (hr_45_20_25 _ (by (clear ua389 la389 ea389 fM385 hM385 ih382 hret C hp1 hp0 ha1 hpr hM0; omega)) (by (clear ua389 la389 ea389 h388 ua387 la387 ea387 fM385 hM385 ih382 hret C hp1 hp0 ha1 hpr hM0; omega))) dX12_goesOdds_26 (by omega) (fun a390 ea390 la390 ua390 => ?_)
        obtain rfl : a390 = (M0.1 99 ((20 + a384)).toNat).toInt := s_fF fM385 (by decide) (ea390)
        refine y_i2l C dX12_goesOdds_27 (by (clear ua389 la389 ea389 h388 ua387 la387 ea387 fM385 hM385 h386 ih382 hret C hp1 hp0 ha1 hpr hM0; omega)) ?_
        refine e_lmul C dX12_goesOdds_28 (fun lb391 ub391 => ?_)
        refine j_lstore_n C 3 [(3, .long (sJ (mulJ (M0.2.1 110 (a1).toNat).toInt (M0.1 99 ((20 + a384)).toNat).toInt))), (0, .ref (ad 98)), (1, .int (sI a1)), (2, .int (sI a384))] dX12_goesOdds_29 rfl (by decide) rfl ?_
        refine j_aload_n C 1 0 dX12_goesOdds_30 rfl rfl ?_
        refine j_iload_n C 2 1 dX12_goesOdds_31 rfl rfl ?_
        refine j_iload_n C 3 2 dX12_goesOdds_32 rfl rfl ?_
        refine j_callVi C (d := 0) (As := [.int (sI a1), .int (sI a384)]) (st := []) 98 (s_lt rfl rfl) (s_kc (c := 11) rfl rfl) (by decide) rfl (s1_X12_boughtBy hM385 a1 (by exact ⟨ha1.1, ha1.2⟩) a384 (by omega) (by exact ⟨hp0.1, hp0.2⟩) (by exact ⟨h386.1, (by (clear ub391 lb391 ua390 la390 ea390 ua389 la389 ea389 fM385 hM385 ih382 hret C hp1 hp0 ha1 hpr hM0; omega))⟩)) gX12_goesOdds_X12_boughtBy rfl hdX12_boughtBy (by decide) (Nat.le_of_ble_eq_true rfl) dX12_goesOdds_33 rfl (fun r392 M393 h394 => ?_)
        obtain ⟨a396, rfl, rfl, h395⟩ := h394
        rw [show M385.1 106 = M0.1 106 from (FR.cell fM385 (by decide))] at h395
        obtain rfl : a396 = ((M0.1 106 (6 * a1 + a384).toNat).toInt) := by exact h395.2.2
        refine j_istore C 5 [(5, .int (sI ((M0.1 106 (6 * a1 + a384).toNat).toInt))), (3, .long (sJ (mulJ (M0.2.1 110 (a1).toNat).toInt (M0.1 99 ((20 + a384)).toNat).toInt))), (0, .ref (ad 98)), (1, .int (sI a1)), (2, .int (sI a384))] dX12_goesOdds_36 (by decide) rfl ?_
        refine j_iload C 0 dX12_goesOdds_38 rfl ?_
        refine y_iconst C dX12_goesOdds_40 ?_
        have J401 : ∀ (a400 : Int), (0 ≤ a400 ∧ a400 ≤ 255) → jj p l e (cn_R 3) s m args below meth c 0 0 Q 7 dC dI ad cA A M385 54 [(0, .ref (ad 98)), (1, .int (sI a1)), (2, .int (sI a384)), (3, .long (sJ (mulJ (M0.2.1 110 (a1).toNat).toInt (M0.1 99 ((20 + a384)).toNat).toInt))), (5, .int (sI ((M0.1 106 (6 * a1 + a384).toNat).toInt)))] [.int (sI a400)] := by
          intro a400 h402
          refine j_istore C 6 [(6, .int (sI a400)), (0, .ref (ad 98)), (1, .int (sI a1)), (2, .int (sI a384)), (3, .long (sJ (mulJ (M0.2.1 110 (a1).toNat).toInt (M0.1 99 ((20 + a384)).toNat).toInt))), (5, .int (sI ((M0.1 106 (6 * a1 + a384).toNat).toInt)))] dX12_goesOdds_54 (by decide) rfl ?_
          refine j_aload_n C 1 0 dX12_goesOdds_56 rfl rfl ?_
          refine y_getC C 11 111 fX12_goesOdds_55 rfl rfl ft_11_24 sm_11_24 rfl hM385 dX12_goesOdds_57 ?_
          refine j_iload C 0 dX12_goesOdds_60 rfl ?_
          refine j_dup2 C dX12_goesOdds_62 rfl rfl ?_
          refine y_lald C 57 256 rfl rfl rfl ak_57 an_57 rfl dX12_goesOdds_63 (by exact ⟨h402.1, (by (clear h395 ub391 lb391 ua390 la390 ea390 ua389 la389 ea389 h388 ua387 la387 ea387 fM385 hM385 h386 ih382 hret C hp1 hp0 ha1 hpr hM0; omega))⟩) (fun a403 ea403 la403 ua403 => ?_)
          obtain rfl : a403 = (M385.2.1 111 (a400).toNat).toInt := ea403
          refine j_lload_n C 4 3 dX12_goesOdds_64 rfl rfl ?_
          refine e_ladd C dX12_goesOdds_65 (fun lb404 ub404 => ?_)
          refine y_last C 57 256 rfl rfl rfl ak_57 an_57 rfl hM385 (PM.w hpr rfl rfl) dX12_goesOdds_66 (by exact ⟨h402.1, (by omega)⟩) (fun M405 eM405 hM405 => ?_)
          have pM405 := pi_J eM405 (by exact h386.2.2.1)
          refine j_iload C 5 dX12_goesOdds_67 rfl ?_
          refine y_iconst C dX12_goesOdds_69 ?_
          have J413 : ∀ (M412 : mm_M), ((b01 (PI M412) = 1)) → INV pr Kz M412 → FR [98, 111, 112] M0 M412 → jj p l e (cn_R 3) s m args below meth c 0 0 Q 7 dC dI ad cA A M412 95 [(0, .ref (ad 98)), (1, .int (sI a1)), (2, .int (sI a384)), (3, .long (sJ (mulJ (M0.2.1 110 (a1).toNat).toInt (M0.1 99 ((20 + a384)).toNat).toInt))), (5, .int (sI ((M0.1 106 (6 * a1 + a384).toNat).toInt))), (6, .int (sI a400))] [] := by
            intro M412 h414 hM412 fM412
            refine j_iload C 4 dX12_goesOdds_95 rfl ?_
            refine y_iconst C dX12_goesOdds_97 ?_
            refine y_icmp_eq C 120 dX12_goesOdds_98 (by decide) (by exact ⟨⟨(by (clear fM412 hM412 h414 pM405 hM405 eM405 ub404 lb404 ua403 la403 h402 ub391 lb391 ua390 la390 ea390 ua389 la389 ea389 h388 ua387 la387 ea387 fM385 hM385 h386 ih382 hret C hp1 hp0 ha1 hpr hM0; omega)), (by (clear fM412 hM412 h414 pM405 hM405 eM405 ub404 lb404 ua403 la403 h402 ub391 lb391 ua390 la390 ea390 ua389 la389 ea389 h388 ua387 la387 ea387 fM385 hM385 h386 ih382 hret C hp1 hp0 ha1 hpr hM0; omega))⟩, ⟨(by decide), (by decide)⟩⟩) (fun h415 => ?_) (fun h415 => ?_)
            · refine y_iinc C 2 [(2, .int (sI (a384 + 1))), (0, .ref (ad 98)), (1, .int (sI a1)), (3, .long (sJ (mulJ (M0.2.1 110 (a1).toNat).toInt (M0.1 99 ((20 + a384)).toNat).toInt))), (5, .int (sI ((M0.1 106 (6 * a1 + a384).toNat).toInt))), (6, .int (sI a400))] dX12_goesOdds_120 rfl (by decide) rfl ?_
              refine j_goto C 2 dX12_goesOdds_123 (by decide) ?_
              refine j_lv [1, 2, 0] rfl ?_; exact ih382 (a384 + 1) M412 (by exact ⟨(by (clear h415 fM412 hM412 pM405 hM405 eM405 ub404 lb404 ua403 la403 h402 h395 ub391 lb391 ua390 la390 ea390 ua389 la389 ea389 fM385 hM385 ih382 hret C hp1 hp0 ha1 hpr hM0; omega)), ⟨(by (clear h415 fM412 hM412 pM405 hM405 eM405 ub404 lb404 ua403 la403 h402 h395 ub391 lb391 ua390 la390 ea390 ua389 la389 ea389 fM385 hM385 ih382 hret C hp1 hp0 ha1 hpr hM0; omega)), ⟨h414, (by (clear h415 fM412 hM412 pM405 hM405 eM405 ub404 lb404 ua403 la403 h402 h395 ub391 lb391 ua390 la390 ea390 ua389 la389 ea389 fM385 hM385 ih382 hret C hp1 hp0 ha1 hpr hM0; omega))⟩⟩⟩) hM412 (FR.rf.tr fM412 (by decide))
            · refine j_aload_n C 0 0 dX12_goesOdds_101 rfl rfl ?_
              refine j_iload C 5 dX12_goesOdds_102 rfl ?_
              refine j_callVi C (d := 2) (As := [.int (sI a400)]) (st := []) 98 (s_lt rfl rfl) (s_kc (c := 11) rfl rfl) (by decide) rfl (s1_X12_isShutBy hM412 a400 (by (clear h415 fM412 hM412 h414 pM405 hM405 eM405 ub404 lb404 ua403 la403 h395 ub391 lb391 ua390 la390 ea390 ua389 la389 ea389 h388 ua387 la387 ea387 fM385 hM385 h386 ih382 hret C hp1 hp0 ha1 hpr hM0; omega))) gX12_goesOdds_X12_isShutBy rfl hdX12_isShutBy (by decide) (Nat.le_of_ble_eq_true rfl) dX12_goesOdds_104 rfl (fun r416 M417 h418 => ?_)
              obtain ⟨a420, rfl, rfl, h419⟩ := h418
              rw [show M412.1 99 = M0.1 99 from (FR.cell fM412 (by decide))] at h419
              obtain rfl : a420 = (shF (M0.1 99) a400) := by exact h419.2.2
              refine y_if_eq C 120 dX12_goesOdds_107 (by decide) (by (clear h415 fM412 hM412 h414 pM405 hM405 eM405 ub404 lb404 ua403 la403 h402 h395 ub391 lb391 ua390 la390 ea390 ua389 la389 ea389 h388 ua387 la387 ea387 fM385 hM385 h386 ih382 hret C hp1 hp0 ha1 hpr hM0; omega)) (fun h421 => ?_) (fun h421 => ?_)
              · refine y_iinc C 2 [(2, .int (sI (a384 + 1))), (0, .ref (ad 98)), (1, .int (sI a1)), (3, .long (sJ (mulJ (M0.2.1 110 (a1).toNat).toInt (M0.1 99 ((20 + a384)).toNat).toInt))), (5, .int (sI ((M0.1 106 (6 * a1 + a384).toNat).toInt))), (6, .int (sI a400))] dX12_goesOdds_120 rfl (by decide) rfl ?_
                refine j_goto C 2 dX12_goesOdds_123 (by decide) ?_
                refine j_lv [1, 2, 0] rfl ?_; exact ih382 (a384 + 1) M412 (by exact ⟨(by omega), ⟨(by omega), ⟨h414, (by omega)⟩⟩⟩) hM412 (FR.rf.tr fM412 (by decide))
              · refine j_aload_n C 0 0 dX12_goesOdds_110 rfl rfl ?_
                refine y_getC C 11 112 fX12_goesOdds_58 rfl rfl ft_11_25 sm_11_25 rfl hM412 dX12_goesOdds_111 ?_
                refine j_iload_n C 2 2 dX12_goesOdds_114 rfl rfl ?_
                refine j_dup2 C dX12_goesOdds_115 rfl rfl ?_
                refine y_lald C 58 6 rfl rfl rfl ak_58 an_58 rfl dX12_goesOdds_116 (by exact ⟨h386.1, (by (clear h421 h419 h415 fM412 hM412 h414 pM405 hM405 eM405 ub404 lb404 ua403 la403 h402 h395 ub391 lb391 ua390 la390 ea390 ua389 la389 ea389 fM385 hM385 ih382 hret C hp1 hp0 ha1 hpr hM0; omega))⟩) (fun a422 ea422 la422 ua422 => ?_)
                obtain rfl : a422 = (M412.2.1 112 (a384).toNat).toInt := ea422
                refine j_lload_n C 3 3 dX12_goesOdds_117 rfl rfl ?_
                refine e_ladd C dX12_goesOdds_118 (fun lb423 ub423 => ?_)
                refine y_last C 58 6 rfl rfl rfl ak_58 an_58 rfl hM412 (PM.w hpr rfl rfl) dX12_goesOdds_119 (by exact ⟨h386.1, (by omega)⟩) (fun M424 eM424 hM424 => ?_)
                have pM424 := pi_J eM424 (by exact h414)
                refine y_iinc C 2 [(2, .int (sI (a384 + 1))), (0, .ref (ad 98)), (1, .int (sI a1)), (3, .long (sJ (mulJ (M0.2.1 110 (a1).toNat).toInt (M0.1 99 ((20 + a384)).toNat).toInt))), (5, .int (sI ((M0.1 106 (6 * a1 + a384).toNat).toInt))), (6, .int (sI a400))] dX12_goesOdds_120 rfl (by decide) rfl ?_
                refine j_goto C 2 dX12_goesOdds_123 (by decide) ?_
                refine j_lv [1, 2, 0] rfl ?_; exact ih382 (a384 + 1) M424 (by exact ⟨(by (clear hM424 eM424 ub423 lb423 ua422 la422 h421 h419 h415 fM412 hM412 h414 pM405 hM405 eM405 ub404 lb404 ua403 la403 h402 h395 ub391 lb391 ua390 la390 ea390 ua389 la389 ea389 fM385 hM385 ih382 hret C hp1 hp0 ha1 hpr hM0; omega)), ⟨(by (clear hM424 eM424 ub423 lb423 ua422 la422 h421 h419 h415 fM412 hM412 h414 pM405 hM405 eM405 ub404 lb404 ua403 la403 h402 h395 ub391 lb391 ua390 la390 ea390 ua389 la389 ea389 fM385 hM385 ih382 hret C hp1 hp0 ha1 hpr hM0; omega)), ⟨pM424, (by (clear hM424 eM424 ub423 lb423 ua422 la422 h421 h419 h415 fM412 hM412 h414 pM405 hM405 eM405 ub404 lb404 ua403 la403 h402 h395 ub391 lb391 ua390 la390 ea390 ua389 la389 ea389 fM385 hM385 ih382 hret C hp1 hp0 ha1 hpr hM0; omega))⟩⟩⟩) hM424 ((FR.rf.tr fM412 (by decide)).wJ eM424 (by decide))
          refine y_icmp_eq C 95 dX12_goesOdds_70 (by decide) (by exact ⟨⟨(by (clear J413 pM405 hM405 eM405 ub404 lb404 ua403 la403 h402 ub391 lb391 ua390 la390 ea390 ua389 la389 ea389 h388 ua387 la387 ea387 fM385 hM385 h386 ih382 hret C hp1 hp0 ha1 hpr hM0; omega)), (by (clear J413 pM405 hM405 eM405 ub404 lb404 ua403 la403 h402 ub391 lb391 ua390 la390 ea390 ua389 la389 ea389 h388 ua387 la387 ea387 fM385 hM385 h386 ih382 hret C hp1 hp0 ha1 hpr hM0; omega))⟩, ⟨(by decide), (by decide)⟩⟩) (fun h406 => ?_) (fun h406 => ?_)
          · refine j_lv [1, 2, 3, 4, 5, 0] rfl ?_; exact J413 M405 (by exact pM405) hM405 ((FR.rf.tr fM385 (by decide)).wJ eM405 (by decide))
          · refine j_aload_n C 1 0 dX12_goesOdds_73 rfl rfl ?_
            refine j_dup C dX12_goesOdds_74 rfl ?_
            refine y_getJ C 11 fX12_goesOdds_379 rfl rfl ft_11_26 dX12_goesOdds_75 (fun a407 ea407 la407 ua407 => ?_)
            refine j_lload_n C 4 3 dX12_goesOdds_78 rfl rfl ?_
            refine j_aload_n C 1 0 dX12_goesOdds_79 rfl rfl ?_
            refine y_getC C 11 99 fX12_goesOdds_13 rfl rfl ft_11_1 sm_11_1 rfl hM405 dX12_goesOdds_80 ?_
            refine y_bipush C dX12_goesOdds_83 rfl ?_
            refine j_iload C 5 dX12_goesOdds_85 rfl ?_
            refine y_iadd C dX12_goesOdds_87 ?_
            refine y_ialdF C 45 3543 rfl rfl rfl ak_45 an_45 rfl dX12_goesOdds_88 (by (clear ua407 la407 ea407 h406 J413 pM405 hM405 eM405 ub404 lb404 ua403 la403 h402 ub391 lb391 ua390 la390 ea390 ua389 la389 ea389 h388 ua387 la387 ea387 fM385 hM385 h386 ih382 hret C hp1 hp0 ha1 hpr hM0; omega)) (fun a408 ea408 la408 ua408 => ?_)
            obtain rfl : a408 = (M0.1 99 ((33 + ((M0.1 106 (6 * a1 + a384).toNat).toInt))).toNat).toInt := s_fF fM385 (by decide) (s_fJ eM405 (ea408))
            refine y_i2l C dX12_goesOdds_89 (by exact ⟨la408, ua408⟩) ?_
            refine e_lmul C dX12_goesOdds_90 (fun lb409 ub409 => ?_)
            refine e_ladd C dX12_goesOdds_91 (fun lb410 ub410 => ?_)
            refine y_putJ C 11 qX12_goesOdds_379 rfl rfl ft_11_26 hM405 (PM.w hpr rfl rfl) dX12_goesOdds_92 (fun M411 eM411 hM411 => ?_)
            have pM411 := pi_J eM411 (by exact pM405)
            refine j_lv [1, 2, 3, 4, 5, 0] rfl ?_; exact J413 M411 (by exact pM411) hM411 (((FR.rf.tr fM385 (by decide)).wJ eM405 (by decide)).wJ eM411 (by decide))
        refine y_icmp_ne C 48 dX12_goesOdds_41 (by decide) (by exact ⟨⟨(by (clear J401 ub391 lb391 ua390 la390 ea390 ua389 la389 ea389 h388 ua387 la387 ea387 fM385 hM385 h386 ih382 hret C hp1 hp0 ha1 hpr hM0; omega)), (by (clear J401 ub391 lb391 ua390 la390 ea390 ua389 la389 ea389 h388 ua387 la387 ea387 fM385 hM385 h386 ih382 hret C hp1 hp0 ha1 hpr hM0; omega))⟩, ⟨(by decide), (by decide)⟩⟩) (fun h397 => ?_) (fun h397 => ?_)
        · refine j_iload_n C 3 1 dX12_goesOdds_48 rfl rfl ?_
          refine y_iconst C dX12_goesOdds_49 ?_
          refine j_iload C 0 dX12_goesOdds_50 rfl ?_
          refine e_shl1 C 7 128 dX12_goesOdds_52 rfl (by decide) (by (clear J401 ub391 lb391 ua390 la390 ea390 ua389 la389 ea389 h388 ua387 la387 ea387 fM385 hM385 h386 ih382 hret C hp1 hp0 ha1 hpr hM0; omega)) (fun lb398 ub398 => ?_)
          refine e_iorN C 8 255 dX12_goesOdds_53 rfl (by decide) (by exact ⟨hp0.1, ⟨hp0.2, ⟨(by (clear h397 J401 h395 ub391 lb391 ua390 la390 ea390 ua389 la389 ea389 h388 ua387 la387 ea387 fM385 hM385 h386 ih382 hret C hp1 hpr hM0; omega)), (by (clear h397 J401 h395 ub391 lb391 ua390 la390 ea390 ua389 la389 ea389 h388 ua387 la387 ea387 fM385 hM385 h386 ih382 hret C hp1 hpr hM0; omega))⟩⟩⟩) (fun lb399 ub399 ob399 => ?_)
          refine j_lv [2, 3, 4, 1, 0] rfl ?_; exact J401 (orI a1 (pw2 ((M0.1 106 (6 * a1 + a384).toNat).toInt))) (by exact ⟨lb399, ub399⟩)
        · refine j_iload_n C 3 1 dX12_goesOdds_44 rfl rfl ?_
          refine j_goto C 54 dX12_goesOdds_45 (by decide) ?_
          refine j_lv [2, 3, 4, 1, 0] rfl ?_; exact J401 a1 (by exact ⟨hp0.1, hp0.2⟩)
  refine j_lv [1, 2, 0] rfl ?_; exact L383 2010 0 M0 (by exact ⟨(by decide), ⟨(by decide), ⟨hp1, (by decide)⟩⟩⟩) hM0 FR.rf
set_option maxHeartbeats 4000000 in
theorem s1_X12_laysDays {l : Launch} {dC : Nat → ClassId} {dI : Nat → Nat → Nat} {ad : Nat → Nat} {cA : Nat → ClassId} {pr : Nat → Nat → Bool} {Kz : mm_M} {M0 : mm_M} (hM0 : INV pr Kz M0) (hpr : PM pr) (a1 : Int) (ha1 : -2147483648 ≤ a1 ∧ a1 ≤ 2147483647) (hp0 : b01 (PI M0) = 1) : Cv l 4 yX12_laysDays wsX12_laysDays dC dI ad cA [.ref (ad 98), .int (sI a1)] M0 (fun M' => INV pr Kz M' ∧ FR [98, 110, 111, 112] M0 M' ∧ (b01 (PI M') = 1)) := by
  refine cv_of (cc := cX12_laysDays) (maxL := 5) (lv := [(0, .ref (ad 98)), (1, .int (sI a1))]) (by decide) rfl (Nat.le_of_ble_eq_true rfl) rfl ?_
  intro p e s m args below meth c A Q C hret
  refine j_aload_n C 0 0 dX12_laysDays_0 rfl rfl ?_
  refine j_callVv C (d := 0) (As := []) (st := []) 98 (s_lt rfl rfl) (s_kc (c := 11) rfl rfl) (by decide) rfl (s1_X12_beginsRows hM0 hpr (by exact hp0)) gX12_laysDays_X12_beginsRows rfl hdX12_beginsRows (by decide) (Nat.le_of_ble_eq_true rfl) dX12_laysDays_1 rfl (fun M102 h103 => ?_)
  obtain ⟨hM102, fM102, h104⟩ := h103
  refine j_aload_n C 0 0 dX12_laysDays_4 rfl rfl ?_
  refine y_lconst C 0 dX12_laysDays_5 rfl ?_
  refine y_putJ C 11 qX12_laysDays_379 rfl rfl ft_11_26 hM102 (PM.w hpr rfl rfl) dX12_laysDays_6 (fun M105 eM105 hM105 => ?_)
  have pM105 := pi_J eM105 (by exact h104)
  refine y_iconst C dX12_laysDays_9 ?_
  refine j_istore_n C 2 [(2, .int (sI 0)), (0, .ref (ad 98)), (1, .int (sI a1))] dX12_laysDays_10 rfl (by decide) rfl ?_
  have L136 : ∀ (n134 : Nat), ∀ (a137 : Int) (M138 : mm_M), (0 ≤ a137 ∧ a137 ≤ 6 ∧ (b01 (PI M138) = 1) ∧ (6 - a137) < (n134 : Int)) → INV pr Kz M138 → FR [98, 110, 111, 112] M0 M138 → jj p l e (cn_R 4) s m args below meth c 0 0 Q 5 dC dI ad cA A M138 11 [(0, .ref (ad 98)), (1, .int (sI a1)), (2, .int (sI a137))] [] := by
    intro n134
    induction n134 with
    | zero =>
      intro a137 M138 h139 hM138 fM138
      exfalso; omega
    | succ n134 ih135 =>
      intro a137 M138 h139 hM138 fM138
      refine j_iload_n C 2 2 dX12_laysDays_11 rfl rfl ?_
      refine y_bipush C dX12_laysDays_12 rfl ?_
      refine y_icmp_ge C 30 dX12_laysDays_14 (by decide) (by exact ⟨⟨(by omega), (by omega)⟩, ⟨(by decide), (by decide)⟩⟩) (fun h140 => ?_) (fun h140 => ?_)
      · refine j_aload_n C 0 0 dX12_laysDays_30 rfl rfl ?_
        refine j_callVi C (d := 0) (As := []) (st := []) 98 (s_lt rfl rfl) (s_kc (c := 11) rfl rfl) (by decide) rfl (s1_X12_oddsAll hM138) gX12_laysDays_X12_oddsAll rfl hdX12_oddsAll (by decide) (Nat.le_of_ble_eq_true rfl) dX12_laysDays_31 rfl (fun r142 M143 h144 => ?_)
        obtain ⟨a146, rfl, rfl, h145⟩ := h144
        rw [show M138.1 99 = M0.1 99 from (FR.cell fM138 (by decide))] at h145
        obtain rfl : a146 = (psF (M0.1 99) (M0.1 99 1).toInt.toNat) := by exact h145.2.2
        refine j_istore_n C 2 [(2, .int (sI (psF (M0.1 99) (M0.1 99 1).toInt.toNat))), (0, .ref (ad 98)), (1, .int (sI a1))] dX12_laysDays_34 rfl (by decide) rfl ?_
        refine y_iconst C dX12_laysDays_35 ?_
        refine j_istore_n C 3 [(3, .int (sI 0)), (2, .int (sI (psF (M0.1 99) (M0.1 99 1).toInt.toNat))), (0, .ref (ad 98)), (1, .int (sI a1))] dX12_laysDays_36 rfl (by decide) rfl ?_
        have L24459 : ∀ (n24457 : Nat), ∀ (a24460 : Int) (M24461 : mm_M), (0 ≤ a24460 ∧ a24460 ≤ 2147483647 ∧ (b01 (PI M24461) = 1) ∧ (2147483647 - a24460) < (n24457 : Int)) → INV pr Kz M24461 → FR [98, 110, 111, 112] M0 M24461 → jj p l e (cn_R 4) s m args below meth c 0 0 Q 5 dC dI ad cA A M24461 37 [(0, .ref (ad 98)), (1, .int (sI a1)), (2, .int (sI (psF (M0.1 99) (M0.1 99 1).toInt.toNat))), (3, .int (sI a24460))] [] := by
          intro n24457
          induction n24457 with
          | zero =>
            intro a24460 M24461 h24462 hM24461 fM24461
            exfalso; omega
          | succ n24457 ih24458 =>
            intro a24460 M24461 h24462 hM24461 fM24461
            refine j_iload_n C 3 3 dX12_laysDays_37 rfl rfl ?_
            refine j_iload_n C 1 1 dX12_laysDays_38 rfl rfl ?_
            refine y_icmp_ge C 183 dX12_laysDays_39 (by decide) (by exact ⟨⟨(by (clear fM24461 hM24461 ih24458 h145 h140 fM138 hM138 h139 ih135 pM105 hM105 eM105 h104 fM102 hM102 hret C hp0 hpr hM0; omega)), h24462.2.1⟩, ⟨ha1.1, ha1.2⟩⟩) (fun h24463 => ?_) (fun h24463 => ?_)
            · exact hret _ _ _ dX12_laysDays_183 ⟨hM24461, (FR.rf.tr fM24461 (by decide)), by exact h24462.2.2.1⟩
            · refine j_iload_n C 2 2 dX12_laysDays_42 rfl rfl ?_
              refine y_if_le C 183 dX12_laysDays_43 (by decide) (by omega) (fun h24464 => ?_) (fun h24464 => ?_)
              · exact hret _ _ _ dX12_laysDays_183 ⟨hM24461, (FR.rf.tr fM24461 (by decide)), by exact h24462.2.2.1⟩
              · refine y_iconst C dX12_laysDays_46 ?_
                refine j_istore C 4 [(4, .int (sI 0)), (0, .ref (ad 98)), (1, .int (sI a1)), (2, .int (sI (psF (M0.1 99) (M0.1 99 1).toInt.toNat))), (3, .int (sI a24460))] dX12_laysDays_47 (by decide) rfl ?_
                have L24575 : ∀ (n24573 : Nat), ∀ (a24576 : Int) (M24577 : mm_M), (0 ≤ a24576 ∧ a24576 ≤ 256 ∧ (b01 (PI M24577) = 1) ∧ (256 - a24576) < (n24573 : Int)) → INV pr Kz M24577 → FR [98, 110, 111, 112] M0 M24577 → jj p l e (cn_R 4) s m args below meth c 0 0 Q 5 dC dI ad cA A M24577 49 [(0, .ref (ad 98)), (1, .int (sI a1)), (2, .int (sI (psF (M0.1 99) (M0.1 99 1).toInt.toNat))), (3, .int (sI a24460)), (4, .int (sI a24576))] [] := by
                  intro n24573
                  induction n24573 with
                  | zero =>
                    intro a24576 M24577 h24578 hM24577 fM24577
                    exfalso; omega
                  | succ n24573 ih24574 =>
                    intro a24576 M24577 h24578 hM24577 fM24577
                    refine j_iload C 4 dX12_laysDays_49 rfl ?_
                    refine y_sipush C dX12_laysDays_51 rfl ?_
                    refine y_icmp_ge C 71 dX12_laysDays_54 (by decide) (by exact ⟨⟨(by (clear fM24577 hM24577 ih24574 h24464 h24463 fM24461 hM24461 h24462 ih24458 h145 h140 fM138 hM138 h139 ih135 pM105 hM105 eM105 h104 fM102 hM102 hret C hp0 ha1 hpr hM0; omega)), (by (clear fM24577 hM24577 ih24574 h24464 h24463 fM24461 hM24461 h24462 ih24458 h145 h140 fM138 hM138 h139 ih135 pM105 hM105 eM105 h104 fM102 hM102 hret C hp0 ha1 hpr hM0; omega))⟩, ⟨(by decide), (by decide)⟩⟩) (fun h24579 => ?_) (fun h24579 => ?_)
                    · refine y_iconst C dX12_laysDays_71 ?_
                      refine j_istore C 4 [(4, .int (sI 0)), (0, .ref (ad 98)), (1, .int (sI a1)), (2, .int (sI (psF (M0.1 99) (M0.1 99 1).toInt.toNat))), (3, .int (sI a24460))] dX12_laysDays_72 (by decide) rfl ?_
                      have L24625 : ∀ (n24623 : Nat), ∀ (a24626 : Int) (M24627 : mm_M), (0 ≤ a24626 ∧ a24626 ≤ 6 ∧ (b01 (PI M24627) = 1) ∧ (6 - a24626) < (n24623 : Int)) → INV pr Kz M24627 → FR [98, 110, 111, 112] M0 M24627 → jj p l e (cn_R 4) s m args below meth c 0 0 Q 5 dC dI ad cA A M24627 74 [(0, .ref (ad 98)), (1, .int (sI a1)), (2, .int (sI (psF (M0.1 99) (M0.1 99 1).toInt.toNat))), (3, .int (sI a24460)), (4, .int (sI a24626))] [] := by
                        intro n24623
                        induction n24623 with
                        | zero =>
                          intro a24626 M24627 h24628 hM24627 fM24627
                          exfalso; omega
                        | succ n24623 ih24624 =>
                          intro a24626 M24627 h24628 hM24627 fM24627
                          refine j_iload C 4 dX12_laysDays_74 rfl ?_
                          refine y_bipush C dX12_laysDays_76 rfl ?_
                          refine y_icmp_ge C 99 dX12_laysDays_78 (by decide) (by exact ⟨⟨(by (clear fM24627 hM24627 ih24624 h24579 fM24577 hM24577 h24578 ih24574 h24464 h24463 fM24461 hM24461 h24462 ih24458 h145 h140 fM138 hM138 h139 ih135 pM105 hM105 eM105 h104 fM102 hM102 hret C hp0 ha1 hpr hM0; omega)), (by (clear fM24627 hM24627 ih24624 h24579 fM24577 hM24577 h24578 ih24574 h24464 h24463 fM24461 hM24461 h24462 ih24458 h145 h140 fM138 hM138 h139 ih135 pM105 hM105 eM105 h104 fM102 hM102 hret C hp0 ha1 hpr hM0; omega))⟩, ⟨(by decide), (by decide)⟩⟩) (fun h24629 => ?_) (fun h24629 => ?_)
                          · refine j_aload_n C 0 0 dX12_laysDays_99 rfl rfl ?_
                            refine j_dup C dX12_laysDays_100 rfl ?_
                            refine y_getJ C 11 fX12_laysDays_379 rfl rfl ft_11_26 dX12_laysDays_101 (fun a24633 ea24633 la24633 ua24633 => ?_)
                            refine j_iload_n C 2 2 dX12_laysDays_104 rfl rfl ?_
                            refine y_i2l C dX12_laysDays_105 (by omega) ?_
                            refine e_lmul C dX12_laysDays_106 (fun lb24634 ub24634 => ?_)
                            refine y_putJ C 11 qX12_laysDays_379 rfl rfl ft_11_26 hM24627 (PM.w hpr rfl rfl) dX12_laysDays_107 (fun M24635 eM24635 hM24635 => ?_)
                            have pM24635 := pi_J eM24635 (by exact h24628.2.2.1)
                            refine y_iconst C dX12_laysDays_110 ?_
                            refine j_istore C 4 [(4, .int (sI 0)), (0, .ref (ad 98)), (1, .int (sI a1)), (2, .int (sI (psF (M0.1 99) (M0.1 99 1).toInt.toNat))), (3, .int (sI a24460))] dX12_laysDays_111 (by decide) rfl ?_
                            have L25016 : ∀ (n25014 : Nat), ∀ (a25017 : Int) (M25018 : mm_M), (0 ≤ a25017 ∧ a25017 ≤ 256 ∧ (b01 (PI M25018) = 1) ∧ (256 - a25017) < (n25014 : Int)) → INV pr Kz M25018 → FR [98, 110, 111, 112] M0 M25018 → jj p l e (cn_R 4) s m args below meth c 0 0 Q 5 dC dI ad cA A M25018 113 [(0, .ref (ad 98)), (1, .int (sI a1)), (2, .int (sI (psF (M0.1 99) (M0.1 99 1).toInt.toNat))), (3, .int (sI a24460)), (4, .int (sI a25017))] [] := by
                              intro n25014
                              induction n25014 with
                              | zero =>
                                intro a25017 M25018 h25019 hM25018 fM25018
                                exfalso; omega
                              | succ n25014 ih25015 =>
                                intro a25017 M25018 h25019 hM25018 fM25018
                                refine j_iload C 4 dX12_laysDays_113 rfl ?_
                                refine j_aload_n C 0 0 dX12_laysDays_115 rfl rfl ?_
                                refine j_callVi C (d := 0) (As := []) (st := [.int (sI a25017)]) 98 (s_lt rfl rfl) (s_kc (c := 11) rfl rfl) (by decide) rfl (s1_X12_everyKind hM25018) gX12_laysDays_X12_everyKind rfl hdX12_everyKind (by decide) (Nat.le_of_ble_eq_true rfl) dX12_laysDays_116 rfl (fun r25020 M25021 h25022 => ?_)
                                obtain ⟨a25024, rfl, rfl, h25023⟩ := h25022
                                rw [show M25018.1 99 = M0.1 99 from (FR.cell fM25018 (by decide))] at h25023
                                obtain rfl : a25024 = (evF (M0.1 99)) := by exact h25023.2.2
                                refine y_icmp_gt C 146 dX12_laysDays_119 (by decide) (by (clear fM25018 hM25018 ih25015 pM24635 hM24635 eM24635 ub24634 lb24634 ua24633 la24633 ea24633 h24629 fM24627 hM24627 h24628 ih24624 h24579 fM24577 hM24577 h24578 ih24574 h24464 h24463 fM24461 hM24461 h24462 ih24458 h145 h140 fM138 hM138 h139 ih135 pM105 hM105 eM105 h104 fM102 hM102 hret C hp0 ha1 hpr hM0; omega)) (fun h25025 => ?_) (fun h25025 => ?_)
                                · refine y_iconst C dX12_laysDays_146 ?_
                                  refine j_istore C 4 [(4, .int (sI 0)), (0, .ref (ad 98)), (1, .int (sI a1)), (2, .int (sI (psF (M0.1 99) (M0.1 99 1).toInt.toNat))), (3, .int (sI a24460))] dX12_laysDays_147 (by decide) rfl ?_
                                  have L25169 : ∀ (n25167 : Nat), ∀ (a25170 : Int) (M25171 : mm_M), (0 ≤ a25170 ∧ a25170 ≤ 256 ∧ (b01 (PI M25171) = 1) ∧ (256 - a25170) < (n25167 : Int)) → INV pr Kz M25171 → FR [98, 110, 111, 112] M0 M25171 → jj p l e (cn_R 4) s m args below meth c 0 0 Q 5 dC dI ad cA A M25171 149 [(0, .ref (ad 98)), (1, .int (sI a1)), (2, .int (sI (psF (M0.1 99) (M0.1 99 1).toInt.toNat))), (3, .int (sI a24460)), (4, .int (sI a25170))] [] := by
                                    intro n25167
                                    induction n25167 with
                                    | zero =>
                                      intro a25170 M25171 h25172 hM25171 fM25171
                                      exfalso; omega
                                    | succ n25167 ih25168 =>
                                      intro a25170 M25171 h25172 hM25171 fM25171
                                      refine j_iload C 4 dX12_laysDays_149 rfl ?_
                                      refine y_sipush C dX12_laysDays_151 rfl ?_
                                      refine y_icmp_ge C 177 dX12_laysDays_154 (by decide) (by exact ⟨⟨(by (clear fM25171 hM25171 ih25168 h25025 h25023 fM25018 hM25018 h25019 ih25015 pM24635 hM24635 eM24635 ub24634 lb24634 ua24633 la24633 ea24633 h24629 fM24627 hM24627 h24628 ih24624 h24579 fM24577 hM24577 h24578 ih24574 h24464 h24463 fM24461 hM24461 h24462 ih24458 h145 h140 fM138 hM138 h139 ih135 pM105 hM105 eM105 h104 fM102 hM102 hret C hp0 ha1 hpr hM0; omega)), (by (clear fM25171 hM25171 ih25168 h25025 h25023 fM25018 hM25018 h25019 ih25015 pM24635 hM24635 eM24635 ub24634 lb24634 ua24633 la24633 ea24633 h24629 fM24627 hM24627 h24628 ih24624 h24579 fM24577 hM24577 h24578 ih24574 h24464 h24463 fM24461 hM24461 h24462 ih24458 h145 h140 fM138 hM138 h139 ih135 pM105 hM105 eM105 h104 fM102 hM102 hret C hp0 ha1 hpr hM0; omega))⟩, ⟨(by decide), (by decide)⟩⟩) (fun h25173 => ?_) (fun h25173 => ?_)
                                      · refine y_iinc C 3 [(3, .int (sI (a24460 + 1))), (0, .ref (ad 98)), (1, .int (sI a1)), (2, .int (sI (psF (M0.1 99) (M0.1 99 1).toInt.toNat))), (4, .int (sI a25170))] dX12_laysDays_177 rfl (by decide) rfl ?_
                                        refine j_goto C 37 dX12_laysDays_180 (by decide) ?_
                                        refine j_lv [1, 2, 3, 0] rfl ?_; exact ih24458 (a24460 + 1) M25171 (by exact ⟨(by (clear h25173 fM25171 hM25171 ih25168 h25025 h25023 fM25018 hM25018 h25019 ih25015 pM24635 hM24635 eM24635 ub24634 lb24634 ua24633 la24633 ea24633 h24629 fM24627 hM24627 h24628 ih24624 h24579 fM24577 hM24577 h24578 ih24574 h24464 fM24461 hM24461 ih24458 h145 h140 fM138 hM138 h139 ih135 pM105 hM105 eM105 h104 fM102 hM102 hret C hp0 hpr hM0; omega)), ⟨(by (clear h25173 fM25171 hM25171 ih25168 h25025 h25023 fM25018 hM25018 h25019 ih25015 pM24635 hM24635 eM24635 ub24634 lb24634 ua24633 la24633 ea24633 h24629 fM24627 hM24627 h24628 ih24624 h24579 fM24577 hM24577 h24578 ih24574 h24464 fM24461 hM24461 ih24458 h145 h140 fM138 hM138 h139 ih135 pM105 hM105 eM105 h104 fM102 hM102 hret C hp0 hpr hM0; omega)), ⟨h25172.2.2.1, (by (clear h25173 fM25171 hM25171 ih25168 h25025 h25023 fM25018 hM25018 h25019 ih25015 pM24635 hM24635 eM24635 ub24634 lb24634 ua24633 la24633 ea24633 h24629 fM24627 hM24627 h24628 ih24624 h24579 fM24577 hM24577 h24578 ih24574 h24464 fM24461 hM24461 ih24458 h145 h140 fM138 hM138 h139 ih135 pM105 hM105 eM105 h104 fM102 hM102 hret C hp0 hpr hM0; omega))⟩⟩⟩) hM25171 (FR.rf.tr fM25171 (by decide))
                                      · refine j_aload_n C 0 0 dX12_laysDays_157 rfl rfl ?_
                                        refine y_getC C 11 110 fX12_laysDays_51 rfl rfl ft_11_23 sm_11_23 rfl hM25171 dX12_laysDays_158 ?_
                                        refine j_iload C 4 dX12_laysDays_161 rfl ?_
                                        refine j_aload_n C 0 0 dX12_laysDays_163 rfl rfl ?_
                                        refine y_getC C 11 111 fX12_laysDays_55 rfl rfl ft_11_24 sm_11_24 rfl hM25171 dX12_laysDays_164 ?_
                                        refine j_iload C 4 dX12_laysDays_167 rfl ?_
                                        refine y_lald C 57 256 rfl rfl rfl ak_57 an_57 rfl dX12_laysDays_169 (by exact ⟨h25172.1, (by (clear fM25171 hM25171 ih25168 h25025 h25023 fM25018 hM25018 h25019 ih25015 pM24635 hM24635 eM24635 ub24634 lb24634 ua24633 la24633 ea24633 h24629 fM24627 hM24627 h24628 ih24624 h24579 fM24577 hM24577 h24578 ih24574 h24464 h24463 fM24461 hM24461 h24462 ih24458 h145 h140 fM138 hM138 h139 ih135 pM105 hM105 eM105 h104 fM102 hM102 hret C hp0 ha1 hpr hM0; omega))⟩) (fun a25174 ea25174 la25174 ua25174 => ?_)
                                        obtain rfl : a25174 = (M25171.2.1 111 (a25170).toNat).toInt := ea25174
                                        refine y_last C 56 256 rfl rfl rfl ak_56 an_56 rfl hM25171 (PM.w hpr rfl rfl) dX12_laysDays_170 (by exact ⟨h25172.1, (by omega)⟩) (fun M25175 eM25175 hM25175 => ?_)
                                        have pM25175 := pi_J eM25175 (by exact h25172.2.2.1)
                                        refine y_iinc C 4 [(4, .int (sI (a25170 + 1))), (0, .ref (ad 98)), (1, .int (sI a1)), (2, .int (sI (psF (M0.1 99) (M0.1 99 1).toInt.toNat))), (3, .int (sI a24460))] dX12_laysDays_171 rfl (by decide) rfl ?_
                                        refine j_goto C 149 dX12_laysDays_174 (by decide) ?_
                                        refine j_lv [1, 2, 3, 4, 0] rfl ?_; exact ih25168 (a25170 + 1) M25175 (by exact ⟨(by (clear hM25175 eM25175 ua25174 la25174 fM25171 hM25171 ih25168 h25025 h25023 fM25018 hM25018 h25019 ih25015 pM24635 hM24635 eM24635 ub24634 lb24634 ua24633 la24633 ea24633 h24629 fM24627 hM24627 h24628 ih24624 h24579 fM24577 hM24577 h24578 ih24574 h24464 h24463 fM24461 hM24461 h24462 ih24458 h145 h140 fM138 hM138 h139 ih135 pM105 hM105 eM105 h104 fM102 hM102 hret C hp0 ha1 hpr hM0; omega)), ⟨(by (clear hM25175 eM25175 ua25174 la25174 fM25171 hM25171 ih25168 h25025 h25023 fM25018 hM25018 h25019 ih25015 pM24635 hM24635 eM24635 ub24634 lb24634 ua24633 la24633 ea24633 h24629 fM24627 hM24627 h24628 ih24624 h24579 fM24577 hM24577 h24578 ih24574 h24464 h24463 fM24461 hM24461 h24462 ih24458 h145 h140 fM138 hM138 h139 ih135 pM105 hM105 eM105 h104 fM102 hM102 hret C hp0 ha1 hpr hM0; omega)), ⟨pM25175, (by (clear hM25175 eM25175 ua25174 la25174 fM25171 hM25171 ih25168 h25025 h25023 fM25018 hM25018 h25019 ih25015 pM24635 hM24635 eM24635 ub24634 lb24634 ua24633 la24633 ea24633 h24629 fM24627 hM24627 h24628 ih24624 h24579 fM24577 hM24577 h24578 ih24574 h24464 h24463 fM24461 hM24461 h24462 ih24458 h145 h140 fM138 hM138 h139 ih135 pM105 hM105 eM105 h104 fM102 hM102 hret C hp0 ha1 hpr hM0; omega))⟩⟩⟩) hM25175 ((FR.rf.tr fM25171 (by decide)).wJ eM25175 (by decide))
                                  refine j_lv [1, 2, 3, 4, 0] rfl ?_; exact L25169 2010 0 M25018 (by exact ⟨(by decide), ⟨(by decide), ⟨h25019.2.2.1, (by decide)⟩⟩⟩) hM25018 (FR.rf.tr fM25018 (by decide))
                                · refine j_aload_n C 0 0 dX12_laysDays_122 rfl rfl ?_
                                  refine y_getC C 11 110 fX12_laysDays_51 rfl rfl ft_11_23 sm_11_23 rfl hM25018 dX12_laysDays_123 ?_
                                  refine j_iload C 4 dX12_laysDays_126 rfl ?_
                                  refine y_lald C 56 256 rfl rfl rfl ak_56 an_56 rfl dX12_laysDays_128 (by exact ⟨h25019.1, (by (clear fM25018 hM25018 ih25015 pM24635 hM24635 eM24635 ub24634 lb24634 ua24633 la24633 ea24633 h24629 fM24627 hM24627 h24628 ih24624 h24579 fM24577 hM24577 h24578 ih24574 h24464 h24463 fM24461 hM24461 h24462 ih24458 h145 h140 fM138 hM138 h139 ih135 pM105 hM105 eM105 h104 fM102 hM102 hret C hp0 ha1 hpr hM0; omega))⟩) (fun a25026 ea25026 la25026 ua25026 => ?_)
                                  obtain rfl : a25026 = (M25018.2.1 110 (a25017).toNat).toInt := ea25026
                                  refine y_lconst C 0 dX12_laysDays_129 rfl ?_
                                  refine y_lcmp_le C 140 dX12_laysDays_130 dX12_laysDays_131 (by decide) (by exact ⟨⟨la25026, ua25026⟩, ⟨(by decide), (by decide)⟩⟩) (fun h25027 => ?_) (fun h25027 => ?_)
                                  · refine y_iinc C 4 [(4, .int (sI (a25017 + 1))), (0, .ref (ad 98)), (1, .int (sI a1)), (2, .int (sI (psF (M0.1 99) (M0.1 99 1).toInt.toNat))), (3, .int (sI a24460))] dX12_laysDays_140 rfl (by decide) rfl ?_
                                    refine j_goto C 113 dX12_laysDays_143 (by decide) ?_
                                    refine j_lv [1, 2, 3, 4, 0] rfl ?_; exact ih25015 (a25017 + 1) M25018 (by exact ⟨(by (clear h25027 ua25026 la25026 fM25018 hM25018 ih25015 pM24635 hM24635 eM24635 ub24634 lb24634 ua24633 la24633 ea24633 h24629 fM24627 hM24627 h24628 ih24624 h24579 fM24577 hM24577 h24578 ih24574 h24464 h24463 fM24461 hM24461 h24462 ih24458 h145 h140 fM138 hM138 h139 ih135 pM105 hM105 eM105 h104 fM102 hM102 hret C hp0 ha1 hpr hM0; omega)), ⟨(by (clear h25027 ua25026 la25026 fM25018 hM25018 ih25015 pM24635 hM24635 eM24635 ub24634 lb24634 ua24633 la24633 ea24633 h24629 fM24627 hM24627 h24628 ih24624 h24579 fM24577 hM24577 h24578 ih24574 h24464 h24463 fM24461 hM24461 h24462 ih24458 h145 h140 fM138 hM138 h139 ih135 pM105 hM105 eM105 h104 fM102 hM102 hret C hp0 ha1 hpr hM0; omega)), ⟨h25019.2.2.1, (by (clear h25027 ua25026 la25026 fM25018 hM25018 ih25015 pM24635 hM24635 eM24635 ub24634 lb24634 ua24633 la24633 ea24633 h24629 fM24627 hM24627 h24628 ih24624 h24579 fM24577 hM24577 h24578 ih24574 h24464 h24463 fM24461 hM24461 h24462 ih24458 h145 h140 fM138 hM138 h139 ih135 pM105 hM105 eM105 h104 fM102 hM102 hret C hp0 ha1 hpr hM0; omega))⟩⟩⟩) hM25018 (FR.rf.tr fM25018 (by decide))
                                  · refine j_aload_n C 0 0 dX12_laysDays_134 rfl rfl ?_
                                    refine j_iload C 4 dX12_laysDays_135 rfl ?_
                                    refine j_callVv C (d := 3) (As := [.int (sI a25017)]) (st := []) 98 (s_lt rfl rfl) (s_kc (c := 11) rfl rfl) (by decide) rfl (s1_X12_goesOdds hM25018 hpr a25017 (by (clear h25027 ua25026 la25026 h25025 h25023 fM25018 hM25018 ih25015 pM24635 hM24635 eM24635 ub24634 lb24634 ua24633 la24633 ea24633 h24629 fM24627 hM24627 h24628 ih24624 h24579 fM24577 hM24577 h24578 ih24574 h24464 h24463 fM24461 hM24461 h24462 ih24458 h145 h140 fM138 hM138 h139 ih135 pM105 hM105 eM105 h104 fM102 hM102 hret C hp0 ha1 hpr hM0; omega)) (by exact ⟨h25019.1, (by (clear h25027 ua25026 la25026 fM25018 hM25018 ih25015 pM24635 hM24635 eM24635 ub24634 lb24634 ua24633 la24633 ea24633 h24629 fM24627 hM24627 h24628 ih24624 h24579 fM24577 hM24577 h24578 ih24574 h24464 h24463 fM24461 hM24461 h24462 ih24458 h145 h140 fM138 hM138 h139 ih135 pM105 hM105 eM105 h104 fM102 hM102 hret C hp0 ha1 hpr hM0; omega))⟩) (by exact h25019.2.2.1)) gX12_laysDays_X12_goesOdds rfl hdX12_goesOdds (by decide) (Nat.le_of_ble_eq_true rfl) dX12_laysDays_137 rfl (fun M25029 h25030 => ?_)
                                    obtain ⟨hM25029, fM25029, h25031⟩ := h25030
                                    refine y_iinc C 4 [(4, .int (sI (a25017 + 1))), (0, .ref (ad 98)), (1, .int (sI a1)), (2, .int (sI (psF (M0.1 99) (M0.1 99 1).toInt.toNat))), (3, .int (sI a24460))] dX12_laysDays_140 rfl (by decide) rfl ?_
                                    refine j_goto C 113 dX12_laysDays_143 (by decide) ?_
                                    refine j_lv [1, 2, 3, 4, 0] rfl ?_; exact ih25015 (a25017 + 1) M25029 (by exact ⟨(by (clear fM25029 hM25029 h25027 ua25026 la25026 fM25018 hM25018 ih25015 pM24635 hM24635 eM24635 ub24634 lb24634 ua24633 la24633 ea24633 h24629 fM24627 hM24627 h24628 ih24624 h24579 fM24577 hM24577 h24578 ih24574 h24464 h24463 fM24461 hM24461 h24462 ih24458 h145 h140 fM138 hM138 h139 ih135 pM105 hM105 eM105 h104 fM102 hM102 hret C hp0 ha1 hpr hM0; omega)), ⟨(by (clear fM25029 hM25029 h25027 ua25026 la25026 fM25018 hM25018 ih25015 pM24635 hM24635 eM24635 ub24634 lb24634 ua24633 la24633 ea24633 h24629 fM24627 hM24627 h24628 ih24624 h24579 fM24577 hM24577 h24578 ih24574 h24464 h24463 fM24461 hM24461 h24462 ih24458 h145 h140 fM138 hM138 h139 ih135 pM105 hM105 eM105 h104 fM102 hM102 hret C hp0 ha1 hpr hM0; omega)), ⟨h25031, (by (clear fM25029 hM25029 h25027 ua25026 la25026 fM25018 hM25018 ih25015 pM24635 hM24635 eM24635 ub24634 lb24634 ua24633 la24633 ea24633 h24629 fM24627 hM24627 h24628 ih24624 h24579 fM24577 hM24577 h24578 ih24574 h24464 h24463 fM24461 hM24461 h24462 ih24458 h145 h140 fM138 hM138 h139 ih135 pM105 hM105 eM105 h104 fM102 hM102 hret C hp0 ha1 hpr hM0; omega))⟩⟩⟩) hM25029 ((FR.rf.tr fM25018 (by decide)).tr fM25029 (by decide))
                            refine j_lv [1, 2, 3, 4, 0] rfl ?_; exact L25016 2010 0 M24635 (by exact ⟨(by decide), ⟨(by decide), ⟨pM24635, (by decide)⟩⟩⟩) hM24635 ((FR.rf.tr fM24627 (by decide)).wJ eM24635 (by decide))
                          · refine j_aload_n C 0 0 dX12_laysDays_81 rfl rfl ?_
                            refine y_getC C 11 112 fX12_laysDays_58 rfl rfl ft_11_25 sm_11_25 rfl hM24627 dX12_laysDays_82 ?_
                            refine j_iload C 4 dX12_laysDays_85 rfl ?_
                            refine j_dup2 C dX12_laysDays_87 rfl rfl ?_
                            refine y_lald C 58 6 rfl rfl rfl ak_58 an_58 rfl dX12_laysDays_88 (by exact ⟨h24628.1, (by (clear fM24627 hM24627 ih24624 h24579 fM24577 hM24577 h24578 ih24574 h24464 h24463 fM24461 hM24461 h24462 ih24458 h145 h140 fM138 hM138 h139 ih135 pM105 hM105 eM105 h104 fM102 hM102 hret C hp0 ha1 hpr hM0; omega))⟩) (fun a24630 ea24630 la24630 ua24630 => ?_)
                            obtain rfl : a24630 = (M24627.2.1 112 (a24626).toNat).toInt := ea24630
                            refine j_iload_n C 2 2 dX12_laysDays_89 rfl rfl ?_
                            refine y_i2l C dX12_laysDays_90 (by (clear ua24630 la24630 h24629 fM24627 hM24627 h24628 ih24624 h24579 fM24577 hM24577 h24578 ih24574 h24463 fM24461 hM24461 h24462 ih24458 h140 fM138 hM138 h139 ih135 pM105 hM105 eM105 h104 fM102 hM102 hret C hp0 ha1 hpr hM0; omega)) ?_
                            refine e_lmul C dX12_laysDays_91 (fun lb24631 ub24631 => ?_)
                            refine y_last C 58 6 rfl rfl rfl ak_58 an_58 rfl hM24627 (PM.w hpr rfl rfl) dX12_laysDays_92 (by exact ⟨h24628.1, (by omega)⟩) (fun M24632 eM24632 hM24632 => ?_)
                            have pM24632 := pi_J eM24632 (by exact h24628.2.2.1)
                            refine y_iinc C 4 [(4, .int (sI (a24626 + 1))), (0, .ref (ad 98)), (1, .int (sI a1)), (2, .int (sI (psF (M0.1 99) (M0.1 99 1).toInt.toNat))), (3, .int (sI a24460))] dX12_laysDays_93 rfl (by decide) rfl ?_
                            refine j_goto C 74 dX12_laysDays_96 (by decide) ?_
                            refine j_lv [1, 2, 3, 4, 0] rfl ?_; exact ih24624 (a24626 + 1) M24632 (by exact ⟨(by (clear hM24632 eM24632 ub24631 lb24631 ua24630 la24630 fM24627 hM24627 ih24624 h24579 fM24577 hM24577 h24578 ih24574 h24464 h24463 fM24461 hM24461 h24462 ih24458 h145 h140 fM138 hM138 h139 ih135 pM105 hM105 eM105 h104 fM102 hM102 hret C hp0 ha1 hpr hM0; omega)), ⟨(by (clear hM24632 eM24632 ub24631 lb24631 ua24630 la24630 fM24627 hM24627 ih24624 h24579 fM24577 hM24577 h24578 ih24574 h24464 h24463 fM24461 hM24461 h24462 ih24458 h145 h140 fM138 hM138 h139 ih135 pM105 hM105 eM105 h104 fM102 hM102 hret C hp0 ha1 hpr hM0; omega)), ⟨pM24632, (by (clear hM24632 eM24632 ub24631 lb24631 ua24630 la24630 fM24627 hM24627 ih24624 h24579 fM24577 hM24577 h24578 ih24574 h24464 h24463 fM24461 hM24461 h24462 ih24458 h145 h140 fM138 hM138 h139 ih135 pM105 hM105 eM105 h104 fM102 hM102 hret C hp0 ha1 hpr hM0; omega))⟩⟩⟩) hM24632 ((FR.rf.tr fM24627 (by decide)).wJ eM24632 (by decide))
                      refine j_lv [1, 2, 3, 4, 0] rfl ?_; exact L24625 2010 0 M24577 (by exact ⟨(by decide), ⟨(by decide), ⟨h24578.2.2.1, (by decide)⟩⟩⟩) hM24577 (FR.rf.tr fM24577 (by decide))
                    · refine j_aload_n C 0 0 dX12_laysDays_57 rfl rfl ?_
                      refine y_getC C 11 111 fX12_laysDays_55 rfl rfl ft_11_24 sm_11_24 rfl hM24577 dX12_laysDays_58 ?_
                      refine j_iload C 4 dX12_laysDays_61 rfl ?_
                      refine y_lconst C 0 dX12_laysDays_63 rfl ?_
                      refine y_last C 57 256 rfl rfl rfl ak_57 an_57 rfl hM24577 (PM.w hpr rfl rfl) dX12_laysDays_64 (by exact ⟨h24578.1, (by (clear fM24577 hM24577 ih24574 h24464 h24463 fM24461 hM24461 h24462 ih24458 h145 h140 fM138 hM138 h139 ih135 pM105 hM105 eM105 h104 fM102 hM102 hret C hp0 ha1 hpr hM0; omega))⟩) (fun M24580 eM24580 hM24580 => ?_)
                      have pM24580 := pi_J eM24580 (by exact h24578.2.2.1)
                      refine y_iinc C 4 [(4, .int (sI (a24576 + 1))), (0, .ref (ad 98)), (1, .int (sI a1)), (2, .int (sI (psF (M0.1 99) (M0.1 99 1).toInt.toNat))), (3, .int (sI a24460))] dX12_laysDays_65 rfl (by decide) rfl ?_
                      refine j_goto C 49 dX12_laysDays_68 (by decide) ?_
                      refine j_lv [1, 2, 3, 4, 0] rfl ?_; exact ih24574 (a24576 + 1) M24580 (by exact ⟨(by (clear hM24580 eM24580 fM24577 hM24577 ih24574 h24464 h24463 fM24461 hM24461 h24462 ih24458 h145 h140 fM138 hM138 h139 ih135 pM105 hM105 eM105 h104 fM102 hM102 hret C hp0 ha1 hpr hM0; omega)), ⟨(by (clear hM24580 eM24580 fM24577 hM24577 ih24574 h24464 h24463 fM24461 hM24461 h24462 ih24458 h145 h140 fM138 hM138 h139 ih135 pM105 hM105 eM105 h104 fM102 hM102 hret C hp0 ha1 hpr hM0; omega)), ⟨pM24580, (by (clear hM24580 eM24580 fM24577 hM24577 ih24574 h24464 h24463 fM24461 hM24461 h24462 ih24458 h145 h140 fM138 hM138 h139 ih135 pM105 hM105 eM105 h104 fM102 hM102 hret C hp0 ha1 hpr hM0; omega))⟩⟩⟩) hM24580 ((FR.rf.tr fM24577 (by decide)).wJ eM24580 (by decide))
                refine j_lv [1, 2, 3, 4, 0] rfl ?_; exact L24575 2010 0 M24461 (by exact ⟨(by decide), ⟨(by decide), ⟨h24462.2.2.1, (by decide)⟩⟩⟩) hM24461 (FR.rf.tr fM24461 (by decide))
        refine j_lv [2, 3, 1, 0] rfl ?_; exact L24459 4294967304 0 M138 (by exact ⟨(by decide), ⟨(by decide), ⟨h139.2.2.1, (by decide)⟩⟩⟩) hM138 (FR.rf.tr fM138 (by decide))
      · refine j_aload_n C 0 0 dX12_laysDays_17 rfl rfl ?_
        refine y_getC C 11 112 fX12_laysDays_58 rfl rfl ft_11_25 sm_11_25 rfl hM138 dX12_laysDays_18 ?_
        refine j_iload_n C 2 2 dX12_laysDays_21 rfl rfl ?_
        refine y_lconst C 0 dX12_laysDays_22 rfl ?_
        refine y_last C 58 6 rfl rfl rfl ak_58 an_58 rfl hM138 (PM.w hpr rfl rfl) dX12_laysDays_23 (by exact ⟨h139.1, (by omega)⟩) (fun M141 eM141 hM141 => ?_)
        have pM141 := pi_J eM141 (by exact h139.2.2.1)
        refine y_iinc C 2 [(2, .int (sI (a137 + 1))), (0, .ref (ad 98)), (1, .int (sI a1))] dX12_laysDays_24 rfl (by decide) rfl ?_
        refine j_goto C 11 dX12_laysDays_27 (by decide) ?_
        refine j_lv [1, 2, 0] rfl ?_; exact ih135 (a137 + 1) M141 (by exact ⟨(by (clear hM141 eM141 fM138 hM138 ih135 pM105 hM105 eM105 h104 fM102 hM102 hret C hp0 ha1 hpr hM0; omega)), ⟨(by (clear hM141 eM141 fM138 hM138 ih135 pM105 hM105 eM105 h104 fM102 hM102 hret C hp0 ha1 hpr hM0; omega)), ⟨pM141, (by (clear hM141 eM141 fM138 hM138 ih135 pM105 hM105 eM105 h104 fM102 hM102 hret C hp0 ha1 hpr hM0; omega))⟩⟩⟩) hM141 ((FR.rf.tr fM138 (by decide)).wJ eM141 (by decide))
  refine j_lv [1, 2, 0] rfl ?_; exact L136 2010 0 M105 (by exact ⟨(by decide), ⟨(by decide), ⟨pM105, (by decide)⟩⟩⟩) hM105 ((FR.rf.tr fM102 (by decide)).wJ eM105 (by decide))
set_option maxHeartbeats 4000000 in
theorem s1_X12_sumRows {l : Launch} {dC : Nat → ClassId} {dI : Nat → Nat → Nat} {ad : Nat → Nat} {cA : Nat → ClassId} {pr : Nat → Nat → Bool} {Kz : mm_M} {M0 : mm_M} (hM0 : INV pr Kz M0)  : Cj l 0 yX12_sumRows wsX12_sumRows dC dI ad cA [.ref (ad 98)] M0 (fun r M' => ∃ a : Int, r = sJ a ∧ M0 = M' ∧ (-9223372036854775808) ≤ a ∧ a ≤ 9223372036854775807) := by
  refine cj_of (cc := cX12_sumRows) (maxL := 4) (lv := [(0, .ref (ad 98))]) (by decide) rfl (Nat.le_of_ble_eq_true rfl) rfl ?_
  intro p e s m args below meth c A Q C hret
  refine y_lconst C 0 dX12_sumRows_0 rfl ?_
  refine j_lstore_n C 1 [(1, .long (sJ 0)), (0, .ref (ad 98))] dX12_sumRows_1 rfl (by decide) rfl ?_
  refine y_iconst C dX12_sumRows_2 ?_
  refine j_istore_n C 3 [(3, .int (sI 0)), (1, .long (sJ 0)), (0, .ref (ad 98))] dX12_sumRows_3 rfl (by decide) rfl ?_
  have L237 : ∀ (n235 : Nat), ∀ (a238 : Int) (a239 : Int), ((-9223372036854775808) ≤ a238 ∧ a238 ≤ 9223372036854775807 ∧ 0 ≤ a239 ∧ a239 ≤ 256 ∧ (256 - a239) < (n235 : Int)) → jj p l e (cn_R 0) s m args below meth c 0 0 Q 4 dC dI ad cA A M0 4 [(0, .ref (ad 98)), (1, .long (sJ a238)), (3, .int (sI a239))] [] := by
    intro n235
    induction n235 with
    | zero =>
      intro a238 a239 h240
      exfalso; omega
    | succ n235 ih236 =>
      intro a238 a239 h240
      refine j_iload_n C 2 3 dX12_sumRows_4 rfl rfl ?_
      refine y_sipush C dX12_sumRows_5 rfl ?_
      refine y_icmp_ge C 26 dX12_sumRows_8 (by decide) (by exact ⟨⟨(by omega), (by omega)⟩, ⟨(by decide), (by decide)⟩⟩) (fun h241 => ?_) (fun h241 => ?_)
      · refine j_lload_n C 1 1 dX12_sumRows_26 rfl rfl ?_
        exact hret _ _ _ _ dX12_sumRows_27 ⟨a238, rfl, rfl, by exact ⟨h240.1, h240.2.1⟩⟩
      · refine j_lload_n C 1 1 dX12_sumRows_11 rfl rfl ?_
        refine j_aload_n C 0 0 dX12_sumRows_12 rfl rfl ?_
        refine y_getC C 11 110 fX12_sumRows_51 rfl rfl ft_11_23 sm_11_23 rfl hM0 dX12_sumRows_13 ?_
        refine j_iload_n C 2 3 dX12_sumRows_16 rfl rfl ?_
        refine y_lald C 56 256 rfl rfl rfl ak_56 an_56 rfl dX12_sumRows_17 (by exact ⟨h240.2.2.1, (by omega)⟩) (fun a242 ea242 la242 ua242 => ?_)
        obtain rfl : a242 = (M0.2.1 110 (a239).toNat).toInt := ea242
        refine e_ladd C dX12_sumRows_18 (fun lb243 ub243 => ?_)
        refine j_lstore_n C 1 [(1, .long (sJ (addJ a238 (M0.2.1 110 (a239).toNat).toInt))), (0, .ref (ad 98)), (3, .int (sI a239))] dX12_sumRows_19 rfl (by decide) rfl ?_
        refine y_iinc C 2 [(3, .int (sI (a239 + 1))), (1, .long (sJ (addJ a238 (M0.2.1 110 (a239).toNat).toInt))), (0, .ref (ad 98))] dX12_sumRows_20 rfl (by decide) rfl ?_
        refine j_goto C 4 dX12_sumRows_23 (by decide) ?_
        refine j_lv [2, 1, 0] rfl ?_; exact ih236 (addJ a238 (M0.2.1 110 (a239).toNat).toInt) (a239 + 1) (by exact ⟨lb243, ⟨ub243, ⟨(by omega), ⟨(by omega), (by omega)⟩⟩⟩⟩)
  refine j_lv [2, 1, 0] rfl ?_; exact L237 2010 0 0 (by exact ⟨(by decide), ⟨(by decide), ⟨(by decide), ⟨(by decide), (by decide)⟩⟩⟩⟩)
set_option maxHeartbeats 4000000 in
theorem s1_X12_powerOf {l : Launch} {dC : Nat → ClassId} {dI : Nat → Nat → Nat} {ad : Nat → Nat} {cA : Nat → ClassId} {pr : Nat → Nat → Bool} {Kz : mm_M} {M0 : mm_M} (hM0 : INV pr Kz M0) (a0 : Int) (ha0 : -9223372036854775808 ≤ a0 ∧ a0 ≤ 9223372036854775807) (a2 : Int) (ha2 : -2147483648 ≤ a2 ∧ a2 ≤ 2147483647) (hp0 : 1 ≤ a0 ∧ a0 ≤ 54) (hp1 : 0 ≤ a2 ∧ a2 ≤ 10) : Cj l 0 yX12_powerOf wsX12_powerOf dC dI ad cA [.long (sJ a0), .int (sI a2)] M0 (fun r M' => ∃ a : Int, r = sJ a ∧ M0 = M' ∧ 1 ≤ a ∧ a ≤ 210832519264920576) := by
  refine cj_of (cc := cX12_powerOf) (maxL := 6) (lv := [(0, .long (sJ a0)), (2, .int (sI a2))]) (by decide) rfl (Nat.le_of_ble_eq_true rfl) rfl ?_
  intro p e s m args below meth c A Q C hret
  have u101 := pwF_0
  refine y_lconst C 1 dX12_powerOf_0 rfl ?_
  refine j_lstore_n C 3 [(3, .long (sJ 1)), (0, .long (sJ a0)), (2, .int (sI a2))] dX12_powerOf_1 rfl (by decide) rfl ?_
  refine y_iconst C dX12_powerOf_2 ?_
  refine j_istore C 5 [(5, .int (sI 0)), (3, .long (sJ 1)), (0, .long (sJ a0)), (2, .int (sI a2))] dX12_powerOf_3 (by decide) rfl ?_
  have L108 : ∀ (n106 : Nat), ∀ (a109 : Int) (a110 : Int), (1 ≤ a109 ∧ a109 ≤ 210832519264920576 ∧ 0 ≤ a110 ∧ a110 ≤ 10 ∧ (a109 ≤ pwF a110) ∧ (a110 ≤ a2) ∧ (10 - a110) < (n106 : Int)) → jj p l e (cn_R 0) s m args below meth c 0 0 Q 6 dC dI ad cA A M0 5 [(0, .long (sJ a0)), (2, .int (sI a2)), (3, .long (sJ a109)), (5, .int (sI a110))] [] := by
    intro n106
    induction n106 with
    | zero =>
      intro a109 a110 h111
      exfalso; omega
    | succ n106 ih107 =>
      intro a109 a110 h111
      refine j_iload C 3 dX12_powerOf_5 rfl ?_
      refine j_iload_n C 1 2 dX12_powerOf_7 rfl rfl ?_
      refine y_icmp_ge C 21 dX12_powerOf_8 (by decide) (by exact ⟨⟨(by (clear ih107 u101 hret C hp0 ha0 hM0; omega)), (by (clear ih107 u101 hret C hp0 ha0 hM0; omega))⟩, ⟨ha2.1, ha2.2⟩⟩) (fun h112 => ?_) (fun h112 => ?_)
      · refine j_lload_n C 2 3 dX12_powerOf_21 rfl rfl ?_
        exact hret _ _ _ _ dX12_powerOf_22 ⟨a109, rfl, rfl, by exact ⟨h111.1, h111.2.1⟩⟩
      · refine j_lload_n C 2 3 dX12_powerOf_11 rfl rfl ?_
        refine j_lload_n C 0 0 dX12_powerOf_12 rfl rfl ?_
        have u113 := pwF_s a0 a109 a110 (by exact ⟨⟨hp0.1, hp0.2⟩, ⟨⟨h111.1, h111.2.2.2.2.1⟩, ⟨h111.2.2.1, (by (clear ih107 u101 hret C hM0; omega))⟩⟩⟩)
        refine y_lmulP C (a109 * a0) dX12_powerOf_13 (by omega) ?_
        refine j_lstore_n C 3 [(3, .long (sJ (a109 * a0))), (0, .long (sJ a0)), (2, .int (sI a2)), (5, .int (sI a110))] dX12_powerOf_14 rfl (by decide) rfl ?_
        refine y_iinc C 3 [(5, .int (sI (a110 + 1))), (3, .long (sJ (a109 * a0))), (0, .long (sJ a0)), (2, .int (sI a2))] dX12_powerOf_15 rfl (by decide) rfl ?_
        refine j_goto C 5 dX12_powerOf_18 (by decide) ?_
        refine j_lv [2, 3, 1, 0] rfl ?_; exact ih107 (a109 * a0) (a110 + 1) (by exact ⟨u113.1, ⟨(by (clear ih107 u101 hret C hp0 ha0 hM0; omega)), ⟨(by (clear ih107 u101 hret C hp0 ha0 hM0; omega)), ⟨(by (clear ih107 u101 hret C hp0 ha0 hM0; omega)), ⟨u113.2.1, ⟨(by (clear ih107 u101 hret C hp0 ha0 hM0; omega)), (by (clear ih107 u101 hret C hp0 ha0 hM0; omega))⟩⟩⟩⟩⟩⟩)
  refine j_lv [2, 3, 1, 0] rfl ?_; exact L108 2010 1 0 (by exact ⟨(by decide), ⟨(by decide), ⟨(by decide), ⟨(by decide), ⟨(by decide), ⟨hp1.1, (by decide)⟩⟩⟩⟩⟩⟩)
set_option maxHeartbeats 4000000 in
theorem s1_X12_wholeOf {l : Launch} {dC : Nat → ClassId} {dI : Nat → Nat → Nat} {ad : Nat → Nat} {cA : Nat → ClassId} {pr : Nat → Nat → Bool} {Kz : mm_M} {M0 : mm_M} (hM0 : INV pr Kz M0) (a1 : Int) (ha1 : -2147483648 ≤ a1 ∧ a1 ≤ 2147483647) (hp0 : 0 ≤ a1 ∧ a1 ≤ 10) : Cj l 1 yX12_wholeOf wsX12_wholeOf dC dI ad cA [.ref (ad 98), .int (sI a1)] M0 (fun r M' => ∃ a : Int, r = sJ a ∧ M0 = M' ∧ 1 ≤ a ∧ a ≤ 210832519264920576) := by
  refine cj_of (cc := cX12_wholeOf) (maxL := 2) (lv := [(0, .ref (ad 98)), (1, .int (sI a1))]) (by decide) rfl (Nat.le_of_ble_eq_true rfl) rfl ?_
  intro p e s m args below meth c A Q C hret
  refine j_aload_n C 0 0 dX12_wholeOf_0 rfl rfl ?_
  refine j_callVi C (d := 0) (As := []) (st := []) 98 (s_lt rfl rfl) (s_kc (c := 11) rfl rfl) (by decide) rfl (s1_X12_oddsAll hM0) gX12_wholeOf_X12_oddsAll rfl hdX12_oddsAll (by decide) (Nat.le_of_ble_eq_true rfl) dX12_wholeOf_1 rfl (fun r101 M102 h103 => ?_)
  obtain ⟨a105, rfl, rfl, h104⟩ := h103
  obtain rfl : a105 = (psF (M0.1 99) (M0.1 99 1).toInt.toNat) := by exact h104.2.2
  refine y_if_ne C 11 dX12_wholeOf_4 (by decide) (by omega) (fun h106 => ?_) (fun h106 => ?_)
  · refine j_aload_n C 0 0 dX12_wholeOf_11 rfl rfl ?_
    refine j_callVi C (d := 0) (As := []) (st := []) 98 (s_lt rfl rfl) (s_kc (c := 11) rfl rfl) (by decide) rfl (s1_X12_oddsAll hM0) gX12_wholeOf_X12_oddsAll rfl hdX12_oddsAll (by decide) (Nat.le_of_ble_eq_true rfl) dX12_wholeOf_12 rfl (fun r107 M108 h109 => ?_)
    obtain ⟨a111, rfl, rfl, h110⟩ := h109
    obtain rfl : a111 = (psF (M0.1 99) (M0.1 99 1).toInt.toNat) := by exact h110.2.2
    refine y_i2l C dX12_wholeOf_15 (by omega) ?_
    refine j_iload_n C 1 1 dX12_wholeOf_16 rfl rfl ?_
    refine j_callSj C (d := 0) (As := [.long (sJ (psF (M0.1 99) (M0.1 99 1).toInt.toNat)), .int (sI a1)]) (st := []) (s1_X12_powerOf hM0 (psF (M0.1 99) (M0.1 99 1).toInt.toNat) (by omega) a1 (by exact ⟨ha1.1, ha1.2⟩) (by exact ⟨(by (clear h110 hret C hp0 ha1 hM0; omega)), h104.2.1⟩) (by exact ⟨hp0.1, hp0.2⟩)) gX12_wholeOf_X12_powerOf rfl hdX12_powerOfs (by decide) (Nat.le_of_ble_eq_true rfl) dX12_wholeOf_17 rfl (fun r112 M113 h114 => ?_)
    obtain ⟨a116, rfl, rfl, h115⟩ := h114
    exact hret _ _ _ _ dX12_wholeOf_20 ⟨a116, rfl, rfl, by exact ⟨h115.1, h115.2⟩⟩
  · refine y_lconst C 1 dX12_wholeOf_7 rfl ?_
    refine j_goto C 20 dX12_wholeOf_8 (by decide) ?_
    exact hret _ _ _ _ dX12_wholeOf_20 ⟨1, rfl, rfl, by exact ⟨(by decide), (by decide)⟩⟩
set_option maxHeartbeats 4000000 in
theorem s1_X12_common {l : Launch} {dC : Nat → ClassId} {dI : Nat → Nat → Nat} {ad : Nat → Nat} {cA : Nat → ClassId} {pr : Nat → Nat → Bool} {Kz : mm_M} {M0 : mm_M} (hM0 : INV pr Kz M0) (a0 : Int) (ha0 : -9223372036854775808 ≤ a0 ∧ a0 ≤ 9223372036854775807) (a2 : Int) (ha2 : -9223372036854775808 ≤ a2 ∧ a2 ≤ 9223372036854775807) (hp0 : (a2).natAbs < 1 ∨ (a0).natAbs < 1) (hp1 : (a2).natAbs ≤ (a0).natAbs) (hp2 : ¬ a0 = 0) (hp3 : 0 ≤ a2 ∧ a2 ≤ 0) : Cj l 0 yX12_common wsX12_common dC dI ad cA [.long (sJ a0), .long (sJ a2)] M0 (fun r M' => ∃ a : Int, r = sJ a ∧ M0 = M' ∧ (-9223372036854775808) ≤ a ∧ a ≤ 9223372036854775807 ∧ (¬ a = 0)) := by
  refine cj_of (cc := cX12_common) (maxL := 4) (lv := [(0, .long (sJ a0)), (2, .long (sJ a2))]) (by decide) rfl (Nat.le_of_ble_eq_true rfl) rfl ?_
  intro p e s m args below meth c A Q C hret
  refine j_lload_n C 1 2 dX12_common_0 rfl rfl ?_
  refine y_lconst C 0 dX12_common_1 rfl ?_
  refine y_lcmp_ne C 10 dX12_common_2 dX12_common_3 (by decide) (by exact ⟨⟨ha2.1, ha2.2⟩, ⟨(by decide), (by decide)⟩⟩) (fun h101 => ?_) (fun h101 => ?_)
  · exfalso; omega
  · refine j_lload_n C 0 0 dX12_common_6 rfl rfl ?_
    refine j_goto C 17 dX12_common_7 (by decide) ?_
    exact hret _ _ _ _ dX12_common_17 ⟨a0, rfl, rfl, by exact ⟨ha0.1, ⟨ha0.2, hp2⟩⟩⟩
set_option maxHeartbeats 4000000 in
theorem s2_X12_common {l : Launch} {dC : Nat → ClassId} {dI : Nat → Nat → Nat} {ad : Nat → Nat} {cA : Nat → ClassId} {pr : Nat → Nat → Bool} {Kz : mm_M} {M0 : mm_M} (hM0 : INV pr Kz M0) (a0 : Int) (ha0 : -9223372036854775808 ≤ a0 ∧ a0 ≤ 9223372036854775807) (a2 : Int) (ha2 : -9223372036854775808 ≤ a2 ∧ a2 ≤ 9223372036854775807) (hp0 : (a2).natAbs < 1 ∨ (a0).natAbs < 2) (hp1 : (a2).natAbs ≤ (a0).natAbs) (hp2 : ¬ a0 = 0) : Cj l 1 yX12_common wsX12_common dC dI ad cA [.long (sJ a0), .long (sJ a2)] M0 (fun r M' => ∃ a : Int, r = sJ a ∧ M0 = M' ∧ (-9223372036854775808) ≤ a ∧ a ≤ 9223372036854775807 ∧ (¬ a = 0)) := by
  refine cj_of (cc := cX12_common) (maxL := 4) (lv := [(0, .long (sJ a0)), (2, .long (sJ a2))]) (by decide) rfl (Nat.le_of_ble_eq_true rfl) rfl ?_
  intro p e s m args below meth c A Q C hret
  refine j_lload_n C 1 2 dX12_common_0 rfl rfl ?_
  refine y_lconst C 0 dX12_common_1 rfl ?_
  refine y_lcmp_ne C 10 dX12_common_2 dX12_common_3 (by decide) (by exact ⟨⟨ha2.1, ha2.2⟩, ⟨(by decide), (by decide)⟩⟩) (fun h101 => ?_) (fun h101 => ?_)
  · refine j_lload_n C 1 2 dX12_common_10 rfl rfl ?_
    refine j_lload_n C 0 0 dX12_common_11 rfl rfl ?_
    refine j_lload_n C 1 2 dX12_common_12 rfl rfl ?_
    refine y_lremA C dX12_common_13 (by exact ⟨⟨ha0.1, ha0.2⟩, ⟨⟨ha2.1, ha2.2⟩, h101⟩⟩) (fun a102 la102 ua102 ha102 => ?_)
    refine j_callSj C (d := 0) (As := [.long (sJ a2), .long (sJ a102)]) (st := []) (s1_X12_common hM0 a2 (by exact ⟨ha2.1, ha2.2⟩) a102 (by exact ⟨la102, ua102⟩) (by omega) (by omega) (by exact h101) (by omega)) gX12_common_X12_common rfl hdX12_commons (by decide) (Nat.le_of_ble_eq_true rfl) dX12_common_14 rfl (fun r103 M104 h105 => ?_)
    obtain ⟨a107, rfl, rfl, h106⟩ := h105
    exact hret _ _ _ _ dX12_common_17 ⟨a107, rfl, rfl, by exact ⟨h106.1, ⟨h106.2.1, h106.2.2⟩⟩⟩
  · refine j_lload_n C 0 0 dX12_common_6 rfl rfl ?_
    refine j_goto C 17 dX12_common_7 (by decide) ?_
    exact hret _ _ _ _ dX12_common_17 ⟨a0, rfl, rfl, by exact ⟨ha0.1, ⟨ha0.2, hp2⟩⟩⟩
set_option maxHeartbeats 4000000 in
theorem s3_X12_common {l : Launch} {dC : Nat → ClassId} {dI : Nat → Nat → Nat} {ad : Nat → Nat} {cA : Nat → ClassId} {pr : Nat → Nat → Bool} {Kz : mm_M} {M0 : mm_M} (hM0 : INV pr Kz M0) (a0 : Int) (ha0 : -9223372036854775808 ≤ a0 ∧ a0 ≤ 9223372036854775807) (a2 : Int) (ha2 : -9223372036854775808 ≤ a2 ∧ a2 ≤ 9223372036854775807) (hp0 : (a2).natAbs < 2 ∨ (a0).natAbs < 3) (hp1 : (a2).natAbs ≤ (a0).natAbs) (hp2 : ¬ a0 = 0) : Cj l 2 yX12_common wsX12_common dC dI ad cA [.long (sJ a0), .long (sJ a2)] M0 (fun r M' => ∃ a : Int, r = sJ a ∧ M0 = M' ∧ (-9223372036854775808) ≤ a ∧ a ≤ 9223372036854775807 ∧ (¬ a = 0)) := by
  refine cj_of (cc := cX12_common) (maxL := 4) (lv := [(0, .long (sJ a0)), (2, .long (sJ a2))]) (by decide) rfl (Nat.le_of_ble_eq_true rfl) rfl ?_
  intro p e s m args below meth c A Q C hret
  refine j_lload_n C 1 2 dX12_common_0 rfl rfl ?_
  refine y_lconst C 0 dX12_common_1 rfl ?_
  refine y_lcmp_ne C 10 dX12_common_2 dX12_common_3 (by decide) (by exact ⟨⟨ha2.1, ha2.2⟩, ⟨(by decide), (by decide)⟩⟩) (fun h101 => ?_) (fun h101 => ?_)
  · refine j_lload_n C 1 2 dX12_common_10 rfl rfl ?_
    refine j_lload_n C 0 0 dX12_common_11 rfl rfl ?_
    refine j_lload_n C 1 2 dX12_common_12 rfl rfl ?_
    refine y_lremA C dX12_common_13 (by exact ⟨⟨ha0.1, ha0.2⟩, ⟨⟨ha2.1, ha2.2⟩, h101⟩⟩) (fun a102 la102 ua102 ha102 => ?_)
    refine j_callSj C (d := 1) (As := [.long (sJ a2), .long (sJ a102)]) (st := []) (s2_X12_common hM0 a2 (by exact ⟨ha2.1, ha2.2⟩) a102 (by exact ⟨la102, ua102⟩) (by omega) (by omega) (by exact h101)) gX12_common_X12_common rfl hdX12_commons (by decide) (Nat.le_of_ble_eq_true rfl) dX12_common_14 rfl (fun r103 M104 h105 => ?_)
    obtain ⟨a107, rfl, rfl, h106⟩ := h105
    exact hret _ _ _ _ dX12_common_17 ⟨a107, rfl, rfl, by exact ⟨h106.1, ⟨h106.2.1, h106.2.2⟩⟩⟩
  · refine j_lload_n C 0 0 dX12_common_6 rfl rfl ?_
    refine j_goto C 17 dX12_common_7 (by decide) ?_
    exact hret _ _ _ _ dX12_common_17 ⟨a0, rfl, rfl, by exact ⟨ha0.1, ⟨ha0.2, hp2⟩⟩⟩
set_option maxHeartbeats 4000000 in
theorem s4_X12_common {l : Launch} {dC : Nat → ClassId} {dI : Nat → Nat → Nat} {ad : Nat → Nat} {cA : Nat → ClassId} {pr : Nat → Nat → Bool} {Kz : mm_M} {M0 : mm_M} (hM0 : INV pr Kz M0) (a0 : Int) (ha0 : -9223372036854775808 ≤ a0 ∧ a0 ≤ 9223372036854775807) (a2 : Int) (ha2 : -9223372036854775808 ≤ a2 ∧ a2 ≤ 9223372036854775807) (hp0 : (a2).natAbs < 3 ∨ (a0).natAbs < 5) (hp1 : (a2).natAbs ≤ (a0).natAbs) (hp2 : ¬ a0 = 0) : Cj l 3 yX12_common wsX12_common dC dI ad cA [.long (sJ a0), .long (sJ a2)] M0 (fun r M' => ∃ a : Int, r = sJ a ∧ M0 = M' ∧ (-9223372036854775808) ≤ a ∧ a ≤ 9223372036854775807 ∧ (¬ a = 0)) := by
  refine cj_of (cc := cX12_common) (maxL := 4) (lv := [(0, .long (sJ a0)), (2, .long (sJ a2))]) (by decide) rfl (Nat.le_of_ble_eq_true rfl) rfl ?_
  intro p e s m args below meth c A Q C hret
  refine j_lload_n C 1 2 dX12_common_0 rfl rfl ?_
  refine y_lconst C 0 dX12_common_1 rfl ?_
  refine y_lcmp_ne C 10 dX12_common_2 dX12_common_3 (by decide) (by exact ⟨⟨ha2.1, ha2.2⟩, ⟨(by decide), (by decide)⟩⟩) (fun h101 => ?_) (fun h101 => ?_)
  · refine j_lload_n C 1 2 dX12_common_10 rfl rfl ?_
    refine j_lload_n C 0 0 dX12_common_11 rfl rfl ?_
    refine j_lload_n C 1 2 dX12_common_12 rfl rfl ?_
    refine y_lremA C dX12_common_13 (by exact ⟨⟨ha0.1, ha0.2⟩, ⟨⟨ha2.1, ha2.2⟩, h101⟩⟩) (fun a102 la102 ua102 ha102 => ?_)
    refine j_callSj C (d := 2) (As := [.long (sJ a2), .long (sJ a102)]) (st := []) (s3_X12_common hM0 a2 (by exact ⟨ha2.1, ha2.2⟩) a102 (by exact ⟨la102, ua102⟩) (by omega) (by omega) (by exact h101)) gX12_common_X12_common rfl hdX12_commons (by decide) (Nat.le_of_ble_eq_true rfl) dX12_common_14 rfl (fun r103 M104 h105 => ?_)
    obtain ⟨a107, rfl, rfl, h106⟩ := h105
    exact hret _ _ _ _ dX12_common_17 ⟨a107, rfl, rfl, by exact ⟨h106.1, ⟨h106.2.1, h106.2.2⟩⟩⟩
  · refine j_lload_n C 0 0 dX12_common_6 rfl rfl ?_
    refine j_goto C 17 dX12_common_7 (by decide) ?_
    exact hret _ _ _ _ dX12_common_17 ⟨a0, rfl, rfl, by exact ⟨ha0.1, ⟨ha0.2, hp2⟩⟩⟩
set_option maxHeartbeats 4000000 in
theorem s5_X12_common {l : Launch} {dC : Nat → ClassId} {dI : Nat → Nat → Nat} {ad : Nat → Nat} {cA : Nat → ClassId} {pr : Nat → Nat → Bool} {Kz : mm_M} {M0 : mm_M} (hM0 : INV pr Kz M0) (a0 : Int) (ha0 : -9223372036854775808 ≤ a0 ∧ a0 ≤ 9223372036854775807) (a2 : Int) (ha2 : -9223372036854775808 ≤ a2 ∧ a2 ≤ 9223372036854775807) (hp0 : (a2).natAbs < 5 ∨ (a0).natAbs < 8) (hp1 : (a2).natAbs ≤ (a0).natAbs) (hp2 : ¬ a0 = 0) : Cj l 4 yX12_common wsX12_common dC dI ad cA [.long (sJ a0), .long (sJ a2)] M0 (fun r M' => ∃ a : Int, r = sJ a ∧ M0 = M' ∧ (-9223372036854775808) ≤ a ∧ a ≤ 9223372036854775807 ∧ (¬ a = 0)) := by
  refine cj_of (cc := cX12_common) (maxL := 4) (lv := [(0, .long (sJ a0)), (2, .long (sJ a2))]) (by decide) rfl (Nat.le_of_ble_eq_true rfl) rfl ?_
  intro p e s m args below meth c A Q C hret
  refine j_lload_n C 1 2 dX12_common_0 rfl rfl ?_
  refine y_lconst C 0 dX12_common_1 rfl ?_
  refine y_lcmp_ne C 10 dX12_common_2 dX12_common_3 (by decide) (by exact ⟨⟨ha2.1, ha2.2⟩, ⟨(by decide), (by decide)⟩⟩) (fun h101 => ?_) (fun h101 => ?_)
  · refine j_lload_n C 1 2 dX12_common_10 rfl rfl ?_
    refine j_lload_n C 0 0 dX12_common_11 rfl rfl ?_
    refine j_lload_n C 1 2 dX12_common_12 rfl rfl ?_
    refine y_lremA C dX12_common_13 (by exact ⟨⟨ha0.1, ha0.2⟩, ⟨⟨ha2.1, ha2.2⟩, h101⟩⟩) (fun a102 la102 ua102 ha102 => ?_)
    refine j_callSj C (d := 3) (As := [.long (sJ a2), .long (sJ a102)]) (st := []) (s4_X12_common hM0 a2 (by exact ⟨ha2.1, ha2.2⟩) a102 (by exact ⟨la102, ua102⟩) (by omega) (by omega) (by exact h101)) gX12_common_X12_common rfl hdX12_commons (by decide) (Nat.le_of_ble_eq_true rfl) dX12_common_14 rfl (fun r103 M104 h105 => ?_)
    obtain ⟨a107, rfl, rfl, h106⟩ := h105
    exact hret _ _ _ _ dX12_common_17 ⟨a107, rfl, rfl, by exact ⟨h106.1, ⟨h106.2.1, h106.2.2⟩⟩⟩
  · refine j_lload_n C 0 0 dX12_common_6 rfl rfl ?_
    refine j_goto C 17 dX12_common_7 (by decide) ?_
    exact hret _ _ _ _ dX12_common_17 ⟨a0, rfl, rfl, by exact ⟨ha0.1, ⟨ha0.2, hp2⟩⟩⟩
set_option maxHeartbeats 4000000 in
theorem s6_X12_common {l : Launch} {dC : Nat → ClassId} {dI : Nat → Nat → Nat} {ad : Nat → Nat} {cA : Nat → ClassId} {pr : Nat → Nat → Bool} {Kz : mm_M} {M0 : mm_M} (hM0 : INV pr Kz M0) (a0 : Int) (ha0 : -9223372036854775808 ≤ a0 ∧ a0 ≤ 9223372036854775807) (a2 : Int) (ha2 : -9223372036854775808 ≤ a2 ∧ a2 ≤ 9223372036854775807) (hp0 : (a2).natAbs < 8 ∨ (a0).natAbs < 13) (hp1 : (a2).natAbs ≤ (a0).natAbs) (hp2 : ¬ a0 = 0) : Cj l 5 yX12_common wsX12_common dC dI ad cA [.long (sJ a0), .long (sJ a2)] M0 (fun r M' => ∃ a : Int, r = sJ a ∧ M0 = M' ∧ (-9223372036854775808) ≤ a ∧ a ≤ 9223372036854775807 ∧ (¬ a = 0)) := by
  refine cj_of (cc := cX12_common) (maxL := 4) (lv := [(0, .long (sJ a0)), (2, .long (sJ a2))]) (by decide) rfl (Nat.le_of_ble_eq_true rfl) rfl ?_
  intro p e s m args below meth c A Q C hret
  refine j_lload_n C 1 2 dX12_common_0 rfl rfl ?_
  refine y_lconst C 0 dX12_common_1 rfl ?_
  refine y_lcmp_ne C 10 dX12_common_2 dX12_common_3 (by decide) (by exact ⟨⟨ha2.1, ha2.2⟩, ⟨(by decide), (by decide)⟩⟩) (fun h101 => ?_) (fun h101 => ?_)
  · refine j_lload_n C 1 2 dX12_common_10 rfl rfl ?_
    refine j_lload_n C 0 0 dX12_common_11 rfl rfl ?_
    refine j_lload_n C 1 2 dX12_common_12 rfl rfl ?_
    refine y_lremA C dX12_common_13 (by exact ⟨⟨ha0.1, ha0.2⟩, ⟨⟨ha2.1, ha2.2⟩, h101⟩⟩) (fun a102 la102 ua102 ha102 => ?_)
    refine j_callSj C (d := 4) (As := [.long (sJ a2), .long (sJ a102)]) (st := []) (s5_X12_common hM0 a2 (by exact ⟨ha2.1, ha2.2⟩) a102 (by exact ⟨la102, ua102⟩) (by omega) (by omega) (by exact h101)) gX12_common_X12_common rfl hdX12_commons (by decide) (Nat.le_of_ble_eq_true rfl) dX12_common_14 rfl (fun r103 M104 h105 => ?_)
    obtain ⟨a107, rfl, rfl, h106⟩ := h105
    exact hret _ _ _ _ dX12_common_17 ⟨a107, rfl, rfl, by exact ⟨h106.1, ⟨h106.2.1, h106.2.2⟩⟩⟩
  · refine j_lload_n C 0 0 dX12_common_6 rfl rfl ?_
    refine j_goto C 17 dX12_common_7 (by decide) ?_
    exact hret _ _ _ _ dX12_common_17 ⟨a0, rfl, rfl, by exact ⟨ha0.1, ⟨ha0.2, hp2⟩⟩⟩
set_option maxHeartbeats 4000000 in
theorem s7_X12_common {l : Launch} {dC : Nat → ClassId} {dI : Nat → Nat → Nat} {ad : Nat → Nat} {cA : Nat → ClassId} {pr : Nat → Nat → Bool} {Kz : mm_M} {M0 : mm_M} (hM0 : INV pr Kz M0) (a0 : Int) (ha0 : -9223372036854775808 ≤ a0 ∧ a0 ≤ 9223372036854775807) (a2 : Int) (ha2 : -9223372036854775808 ≤ a2 ∧ a2 ≤ 9223372036854775807) (hp0 : (a2).natAbs < 13 ∨ (a0).natAbs < 21) (hp1 : (a2).natAbs ≤ (a0).natAbs) (hp2 : ¬ a0 = 0) : Cj l 6 yX12_common wsX12_common dC dI ad cA [.long (sJ a0), .long (sJ a2)] M0 (fun r M' => ∃ a : Int, r = sJ a ∧ M0 = M' ∧ (-9223372036854775808) ≤ a ∧ a ≤ 9223372036854775807 ∧ (¬ a = 0)) := by
  refine cj_of (cc := cX12_common) (maxL := 4) (lv := [(0, .long (sJ a0)), (2, .long (sJ a2))]) (by decide) rfl (Nat.le_of_ble_eq_true rfl) rfl ?_
  intro p e s m args below meth c A Q C hret
  refine j_lload_n C 1 2 dX12_common_0 rfl rfl ?_
  refine y_lconst C 0 dX12_common_1 rfl ?_
  refine y_lcmp_ne C 10 dX12_common_2 dX12_common_3 (by decide) (by exact ⟨⟨ha2.1, ha2.2⟩, ⟨(by decide), (by decide)⟩⟩) (fun h101 => ?_) (fun h101 => ?_)
  · refine j_lload_n C 1 2 dX12_common_10 rfl rfl ?_
    refine j_lload_n C 0 0 dX12_common_11 rfl rfl ?_
    refine j_lload_n C 1 2 dX12_common_12 rfl rfl ?_
    refine y_lremA C dX12_common_13 (by exact ⟨⟨ha0.1, ha0.2⟩, ⟨⟨ha2.1, ha2.2⟩, h101⟩⟩) (fun a102 la102 ua102 ha102 => ?_)
    refine j_callSj C (d := 5) (As := [.long (sJ a2), .long (sJ a102)]) (st := []) (s6_X12_common hM0 a2 (by exact ⟨ha2.1, ha2.2⟩) a102 (by exact ⟨la102, ua102⟩) (by omega) (by omega) (by exact h101)) gX12_common_X12_common rfl hdX12_commons (by decide) (Nat.le_of_ble_eq_true rfl) dX12_common_14 rfl (fun r103 M104 h105 => ?_)
    obtain ⟨a107, rfl, rfl, h106⟩ := h105
    exact hret _ _ _ _ dX12_common_17 ⟨a107, rfl, rfl, by exact ⟨h106.1, ⟨h106.2.1, h106.2.2⟩⟩⟩
  · refine j_lload_n C 0 0 dX12_common_6 rfl rfl ?_
    refine j_goto C 17 dX12_common_7 (by decide) ?_
    exact hret _ _ _ _ dX12_common_17 ⟨a0, rfl, rfl, by exact ⟨ha0.1, ⟨ha0.2, hp2⟩⟩⟩
set_option maxHeartbeats 4000000 in
theorem s8_X12_common {l : Launch} {dC : Nat → ClassId} {dI : Nat → Nat → Nat} {ad : Nat → Nat} {cA : Nat → ClassId} {pr : Nat → Nat → Bool} {Kz : mm_M} {M0 : mm_M} (hM0 : INV pr Kz M0) (a0 : Int) (ha0 : -9223372036854775808 ≤ a0 ∧ a0 ≤ 9223372036854775807) (a2 : Int) (ha2 : -9223372036854775808 ≤ a2 ∧ a2 ≤ 9223372036854775807) (hp0 : (a2).natAbs < 21 ∨ (a0).natAbs < 34) (hp1 : (a2).natAbs ≤ (a0).natAbs) (hp2 : ¬ a0 = 0) : Cj l 7 yX12_common wsX12_common dC dI ad cA [.long (sJ a0), .long (sJ a2)] M0 (fun r M' => ∃ a : Int, r = sJ a ∧ M0 = M' ∧ (-9223372036854775808) ≤ a ∧ a ≤ 9223372036854775807 ∧ (¬ a = 0)) := by
  refine cj_of (cc := cX12_common) (maxL := 4) (lv := [(0, .long (sJ a0)), (2, .long (sJ a2))]) (by decide) rfl (Nat.le_of_ble_eq_true rfl) rfl ?_
  intro p e s m args below meth c A Q C hret
  refine j_lload_n C 1 2 dX12_common_0 rfl rfl ?_
  refine y_lconst C 0 dX12_common_1 rfl ?_
  refine y_lcmp_ne C 10 dX12_common_2 dX12_common_3 (by decide) (by exact ⟨⟨ha2.1, ha2.2⟩, ⟨(by decide), (by decide)⟩⟩) (fun h101 => ?_) (fun h101 => ?_)
  · refine j_lload_n C 1 2 dX12_common_10 rfl rfl ?_
    refine j_lload_n C 0 0 dX12_common_11 rfl rfl ?_
    refine j_lload_n C 1 2 dX12_common_12 rfl rfl ?_
    refine y_lremA C dX12_common_13 (by exact ⟨⟨ha0.1, ha0.2⟩, ⟨⟨ha2.1, ha2.2⟩, h101⟩⟩) (fun a102 la102 ua102 ha102 => ?_)
    refine j_callSj C (d := 6) (As := [.long (sJ a2), .long (sJ a102)]) (st := []) (s7_X12_common hM0 a2 (by exact ⟨ha2.1, ha2.2⟩) a102 (by exact ⟨la102, ua102⟩) (by omega) (by omega) (by exact h101)) gX12_common_X12_common rfl hdX12_commons (by decide) (Nat.le_of_ble_eq_true rfl) dX12_common_14 rfl (fun r103 M104 h105 => ?_)
    obtain ⟨a107, rfl, rfl, h106⟩ := h105
    exact hret _ _ _ _ dX12_common_17 ⟨a107, rfl, rfl, by exact ⟨h106.1, ⟨h106.2.1, h106.2.2⟩⟩⟩
  · refine j_lload_n C 0 0 dX12_common_6 rfl rfl ?_
    refine j_goto C 17 dX12_common_7 (by decide) ?_
    exact hret _ _ _ _ dX12_common_17 ⟨a0, rfl, rfl, by exact ⟨ha0.1, ⟨ha0.2, hp2⟩⟩⟩
set_option maxHeartbeats 4000000 in
theorem s9_X12_common {l : Launch} {dC : Nat → ClassId} {dI : Nat → Nat → Nat} {ad : Nat → Nat} {cA : Nat → ClassId} {pr : Nat → Nat → Bool} {Kz : mm_M} {M0 : mm_M} (hM0 : INV pr Kz M0) (a0 : Int) (ha0 : -9223372036854775808 ≤ a0 ∧ a0 ≤ 9223372036854775807) (a2 : Int) (ha2 : -9223372036854775808 ≤ a2 ∧ a2 ≤ 9223372036854775807) (hp0 : (a2).natAbs < 34 ∨ (a0).natAbs < 55) (hp1 : (a2).natAbs ≤ (a0).natAbs) (hp2 : ¬ a0 = 0) : Cj l 8 yX12_common wsX12_common dC dI ad cA [.long (sJ a0), .long (sJ a2)] M0 (fun r M' => ∃ a : Int, r = sJ a ∧ M0 = M' ∧ (-9223372036854775808) ≤ a ∧ a ≤ 9223372036854775807 ∧ (¬ a = 0)) := by
  refine cj_of (cc := cX12_common) (maxL := 4) (lv := [(0, .long (sJ a0)), (2, .long (sJ a2))]) (by decide) rfl (Nat.le_of_ble_eq_true rfl) rfl ?_
  intro p e s m args below meth c A Q C hret
  refine j_lload_n C 1 2 dX12_common_0 rfl rfl ?_
  refine y_lconst C 0 dX12_common_1 rfl ?_
  refine y_lcmp_ne C 10 dX12_common_2 dX12_common_3 (by decide) (by exact ⟨⟨ha2.1, ha2.2⟩, ⟨(by decide), (by decide)⟩⟩) (fun h101 => ?_) (fun h101 => ?_)
  · refine j_lload_n C 1 2 dX12_common_10 rfl rfl ?_
    refine j_lload_n C 0 0 dX12_common_11 rfl rfl ?_
    refine j_lload_n C 1 2 dX12_common_12 rfl rfl ?_
    refine y_lremA C dX12_common_13 (by exact ⟨⟨ha0.1, ha0.2⟩, ⟨⟨ha2.1, ha2.2⟩, h101⟩⟩) (fun a102 la102 ua102 ha102 => ?_)
    refine j_callSj C (d := 7) (As := [.long (sJ a2), .long (sJ a102)]) (st := []) (s8_X12_common hM0 a2 (by exact ⟨ha2.1, ha2.2⟩) a102 (by exact ⟨la102, ua102⟩) (by omega) (by omega) (by exact h101)) gX12_common_X12_common rfl hdX12_commons (by decide) (Nat.le_of_ble_eq_true rfl) dX12_common_14 rfl (fun r103 M104 h105 => ?_)
    obtain ⟨a107, rfl, rfl, h106⟩ := h105
    exact hret _ _ _ _ dX12_common_17 ⟨a107, rfl, rfl, by exact ⟨h106.1, ⟨h106.2.1, h106.2.2⟩⟩⟩
  · refine j_lload_n C 0 0 dX12_common_6 rfl rfl ?_
    refine j_goto C 17 dX12_common_7 (by decide) ?_
    exact hret _ _ _ _ dX12_common_17 ⟨a0, rfl, rfl, by exact ⟨ha0.1, ⟨ha0.2, hp2⟩⟩⟩
set_option maxHeartbeats 4000000 in
theorem s10_X12_common {l : Launch} {dC : Nat → ClassId} {dI : Nat → Nat → Nat} {ad : Nat → Nat} {cA : Nat → ClassId} {pr : Nat → Nat → Bool} {Kz : mm_M} {M0 : mm_M} (hM0 : INV pr Kz M0) (a0 : Int) (ha0 : -9223372036854775808 ≤ a0 ∧ a0 ≤ 9223372036854775807) (a2 : Int) (ha2 : -9223372036854775808 ≤ a2 ∧ a2 ≤ 9223372036854775807) (hp0 : (a2).natAbs < 55 ∨ (a0).natAbs < 89) (hp1 : (a2).natAbs ≤ (a0).natAbs) (hp2 : ¬ a0 = 0) : Cj l 9 yX12_common wsX12_common dC dI ad cA [.long (sJ a0), .long (sJ a2)] M0 (fun r M' => ∃ a : Int, r = sJ a ∧ M0 = M' ∧ (-9223372036854775808) ≤ a ∧ a ≤ 9223372036854775807 ∧ (¬ a = 0)) := by
  refine cj_of (cc := cX12_common) (maxL := 4) (lv := [(0, .long (sJ a0)), (2, .long (sJ a2))]) (by decide) rfl (Nat.le_of_ble_eq_true rfl) rfl ?_
  intro p e s m args below meth c A Q C hret
  refine j_lload_n C 1 2 dX12_common_0 rfl rfl ?_
  refine y_lconst C 0 dX12_common_1 rfl ?_
  refine y_lcmp_ne C 10 dX12_common_2 dX12_common_3 (by decide) (by exact ⟨⟨ha2.1, ha2.2⟩, ⟨(by decide), (by decide)⟩⟩) (fun h101 => ?_) (fun h101 => ?_)
  · refine j_lload_n C 1 2 dX12_common_10 rfl rfl ?_
    refine j_lload_n C 0 0 dX12_common_11 rfl rfl ?_
    refine j_lload_n C 1 2 dX12_common_12 rfl rfl ?_
    refine y_lremA C dX12_common_13 (by exact ⟨⟨ha0.1, ha0.2⟩, ⟨⟨ha2.1, ha2.2⟩, h101⟩⟩) (fun a102 la102 ua102 ha102 => ?_)
    refine j_callSj C (d := 8) (As := [.long (sJ a2), .long (sJ a102)]) (st := []) (s9_X12_common hM0 a2 (by exact ⟨ha2.1, ha2.2⟩) a102 (by exact ⟨la102, ua102⟩) (by omega) (by omega) (by exact h101)) gX12_common_X12_common rfl hdX12_commons (by decide) (Nat.le_of_ble_eq_true rfl) dX12_common_14 rfl (fun r103 M104 h105 => ?_)
    obtain ⟨a107, rfl, rfl, h106⟩ := h105
    exact hret _ _ _ _ dX12_common_17 ⟨a107, rfl, rfl, by exact ⟨h106.1, ⟨h106.2.1, h106.2.2⟩⟩⟩
  · refine j_lload_n C 0 0 dX12_common_6 rfl rfl ?_
    refine j_goto C 17 dX12_common_7 (by decide) ?_
    exact hret _ _ _ _ dX12_common_17 ⟨a0, rfl, rfl, by exact ⟨ha0.1, ⟨ha0.2, hp2⟩⟩⟩
set_option maxHeartbeats 4000000 in
theorem s11_X12_common {l : Launch} {dC : Nat → ClassId} {dI : Nat → Nat → Nat} {ad : Nat → Nat} {cA : Nat → ClassId} {pr : Nat → Nat → Bool} {Kz : mm_M} {M0 : mm_M} (hM0 : INV pr Kz M0) (a0 : Int) (ha0 : -9223372036854775808 ≤ a0 ∧ a0 ≤ 9223372036854775807) (a2 : Int) (ha2 : -9223372036854775808 ≤ a2 ∧ a2 ≤ 9223372036854775807) (hp0 : (a2).natAbs < 89 ∨ (a0).natAbs < 144) (hp1 : (a2).natAbs ≤ (a0).natAbs) (hp2 : ¬ a0 = 0) : Cj l 10 yX12_common wsX12_common dC dI ad cA [.long (sJ a0), .long (sJ a2)] M0 (fun r M' => ∃ a : Int, r = sJ a ∧ M0 = M' ∧ (-9223372036854775808) ≤ a ∧ a ≤ 9223372036854775807 ∧ (¬ a = 0)) := by
  refine cj_of (cc := cX12_common) (maxL := 4) (lv := [(0, .long (sJ a0)), (2, .long (sJ a2))]) (by decide) rfl (Nat.le_of_ble_eq_true rfl) rfl ?_
  intro p e s m args below meth c A Q C hret
  refine j_lload_n C 1 2 dX12_common_0 rfl rfl ?_
  refine y_lconst C 0 dX12_common_1 rfl ?_
  refine y_lcmp_ne C 10 dX12_common_2 dX12_common_3 (by decide) (by exact ⟨⟨ha2.1, ha2.2⟩, ⟨(by decide), (by decide)⟩⟩) (fun h101 => ?_) (fun h101 => ?_)
  · refine j_lload_n C 1 2 dX12_common_10 rfl rfl ?_
    refine j_lload_n C 0 0 dX12_common_11 rfl rfl ?_
    refine j_lload_n C 1 2 dX12_common_12 rfl rfl ?_
    refine y_lremA C dX12_common_13 (by exact ⟨⟨ha0.1, ha0.2⟩, ⟨⟨ha2.1, ha2.2⟩, h101⟩⟩) (fun a102 la102 ua102 ha102 => ?_)
    refine j_callSj C (d := 9) (As := [.long (sJ a2), .long (sJ a102)]) (st := []) (s10_X12_common hM0 a2 (by exact ⟨ha2.1, ha2.2⟩) a102 (by exact ⟨la102, ua102⟩) (by omega) (by omega) (by exact h101)) gX12_common_X12_common rfl hdX12_commons (by decide) (Nat.le_of_ble_eq_true rfl) dX12_common_14 rfl (fun r103 M104 h105 => ?_)
    obtain ⟨a107, rfl, rfl, h106⟩ := h105
    exact hret _ _ _ _ dX12_common_17 ⟨a107, rfl, rfl, by exact ⟨h106.1, ⟨h106.2.1, h106.2.2⟩⟩⟩
  · refine j_lload_n C 0 0 dX12_common_6 rfl rfl ?_
    refine j_goto C 17 dX12_common_7 (by decide) ?_
    exact hret _ _ _ _ dX12_common_17 ⟨a0, rfl, rfl, by exact ⟨ha0.1, ⟨ha0.2, hp2⟩⟩⟩
set_option maxHeartbeats 4000000 in
theorem s12_X12_common {l : Launch} {dC : Nat → ClassId} {dI : Nat → Nat → Nat} {ad : Nat → Nat} {cA : Nat → ClassId} {pr : Nat → Nat → Bool} {Kz : mm_M} {M0 : mm_M} (hM0 : INV pr Kz M0) (a0 : Int) (ha0 : -9223372036854775808 ≤ a0 ∧ a0 ≤ 9223372036854775807) (a2 : Int) (ha2 : -9223372036854775808 ≤ a2 ∧ a2 ≤ 9223372036854775807) (hp0 : (a2).natAbs < 144 ∨ (a0).natAbs < 233) (hp1 : (a2).natAbs ≤ (a0).natAbs) (hp2 : ¬ a0 = 0) : Cj l 11 yX12_common wsX12_common dC dI ad cA [.long (sJ a0), .long (sJ a2)] M0 (fun r M' => ∃ a : Int, r = sJ a ∧ M0 = M' ∧ (-9223372036854775808) ≤ a ∧ a ≤ 9223372036854775807 ∧ (¬ a = 0)) := by
  refine cj_of (cc := cX12_common) (maxL := 4) (lv := [(0, .long (sJ a0)), (2, .long (sJ a2))]) (by decide) rfl (Nat.le_of_ble_eq_true rfl) rfl ?_
  intro p e s m args below meth c A Q C hret
  refine j_lload_n C 1 2 dX12_common_0 rfl rfl ?_
  refine y_lconst C 0 dX12_common_1 rfl ?_
  refine y_lcmp_ne C 10 dX12_common_2 dX12_common_3 (by decide) (by exact ⟨⟨ha2.1, ha2.2⟩, ⟨(by decide), (by decide)⟩⟩) (fun h101 => ?_) (fun h101 => ?_)
  · refine j_lload_n C 1 2 dX12_common_10 rfl rfl ?_
    refine j_lload_n C 0 0 dX12_common_11 rfl rfl ?_
    refine j_lload_n C 1 2 dX12_common_12 rfl rfl ?_
    refine y_lremA C dX12_common_13 (by exact ⟨⟨ha0.1, ha0.2⟩, ⟨⟨ha2.1, ha2.2⟩, h101⟩⟩) (fun a102 la102 ua102 ha102 => ?_)
    refine j_callSj C (d := 10) (As := [.long (sJ a2), .long (sJ a102)]) (st := []) (s11_X12_common hM0 a2 (by exact ⟨ha2.1, ha2.2⟩) a102 (by exact ⟨la102, ua102⟩) (by omega) (by omega) (by exact h101)) gX12_common_X12_common rfl hdX12_commons (by decide) (Nat.le_of_ble_eq_true rfl) dX12_common_14 rfl (fun r103 M104 h105 => ?_)
    obtain ⟨a107, rfl, rfl, h106⟩ := h105
    exact hret _ _ _ _ dX12_common_17 ⟨a107, rfl, rfl, by exact ⟨h106.1, ⟨h106.2.1, h106.2.2⟩⟩⟩
  · refine j_lload_n C 0 0 dX12_common_6 rfl rfl ?_
    refine j_goto C 17 dX12_common_7 (by decide) ?_
    exact hret _ _ _ _ dX12_common_17 ⟨a0, rfl, rfl, by exact ⟨ha0.1, ⟨ha0.2, hp2⟩⟩⟩
set_option maxHeartbeats 4000000 in
theorem s13_X12_common {l : Launch} {dC : Nat → ClassId} {dI : Nat → Nat → Nat} {ad : Nat → Nat} {cA : Nat → ClassId} {pr : Nat → Nat → Bool} {Kz : mm_M} {M0 : mm_M} (hM0 : INV pr Kz M0) (a0 : Int) (ha0 : -9223372036854775808 ≤ a0 ∧ a0 ≤ 9223372036854775807) (a2 : Int) (ha2 : -9223372036854775808 ≤ a2 ∧ a2 ≤ 9223372036854775807) (hp0 : (a2).natAbs < 233 ∨ (a0).natAbs < 377) (hp1 : (a2).natAbs ≤ (a0).natAbs) (hp2 : ¬ a0 = 0) : Cj l 12 yX12_common wsX12_common dC dI ad cA [.long (sJ a0), .long (sJ a2)] M0 (fun r M' => ∃ a : Int, r = sJ a ∧ M0 = M' ∧ (-9223372036854775808) ≤ a ∧ a ≤ 9223372036854775807 ∧ (¬ a = 0)) := by
  refine cj_of (cc := cX12_common) (maxL := 4) (lv := [(0, .long (sJ a0)), (2, .long (sJ a2))]) (by decide) rfl (Nat.le_of_ble_eq_true rfl) rfl ?_
  intro p e s m args below meth c A Q C hret
  refine j_lload_n C 1 2 dX12_common_0 rfl rfl ?_
  refine y_lconst C 0 dX12_common_1 rfl ?_
  refine y_lcmp_ne C 10 dX12_common_2 dX12_common_3 (by decide) (by exact ⟨⟨ha2.1, ha2.2⟩, ⟨(by decide), (by decide)⟩⟩) (fun h101 => ?_) (fun h101 => ?_)
  · refine j_lload_n C 1 2 dX12_common_10 rfl rfl ?_
    refine j_lload_n C 0 0 dX12_common_11 rfl rfl ?_
    refine j_lload_n C 1 2 dX12_common_12 rfl rfl ?_
    refine y_lremA C dX12_common_13 (by exact ⟨⟨ha0.1, ha0.2⟩, ⟨⟨ha2.1, ha2.2⟩, h101⟩⟩) (fun a102 la102 ua102 ha102 => ?_)
    refine j_callSj C (d := 11) (As := [.long (sJ a2), .long (sJ a102)]) (st := []) (s12_X12_common hM0 a2 (by exact ⟨ha2.1, ha2.2⟩) a102 (by exact ⟨la102, ua102⟩) (by omega) (by omega) (by exact h101)) gX12_common_X12_common rfl hdX12_commons (by decide) (Nat.le_of_ble_eq_true rfl) dX12_common_14 rfl (fun r103 M104 h105 => ?_)
    obtain ⟨a107, rfl, rfl, h106⟩ := h105
    exact hret _ _ _ _ dX12_common_17 ⟨a107, rfl, rfl, by exact ⟨h106.1, ⟨h106.2.1, h106.2.2⟩⟩⟩
  · refine j_lload_n C 0 0 dX12_common_6 rfl rfl ?_
    refine j_goto C 17 dX12_common_7 (by decide) ?_
    exact hret _ _ _ _ dX12_common_17 ⟨a0, rfl, rfl, by exact ⟨ha0.1, ⟨ha0.2, hp2⟩⟩⟩
set_option maxHeartbeats 4000000 in
theorem s14_X12_common {l : Launch} {dC : Nat → ClassId} {dI : Nat → Nat → Nat} {ad : Nat → Nat} {cA : Nat → ClassId} {pr : Nat → Nat → Bool} {Kz : mm_M} {M0 : mm_M} (hM0 : INV pr Kz M0) (a0 : Int) (ha0 : -9223372036854775808 ≤ a0 ∧ a0 ≤ 9223372036854775807) (a2 : Int) (ha2 : -9223372036854775808 ≤ a2 ∧ a2 ≤ 9223372036854775807) (hp0 : (a2).natAbs < 377 ∨ (a0).natAbs < 610) (hp1 : (a2).natAbs ≤ (a0).natAbs) (hp2 : ¬ a0 = 0) : Cj l 13 yX12_common wsX12_common dC dI ad cA [.long (sJ a0), .long (sJ a2)] M0 (fun r M' => ∃ a : Int, r = sJ a ∧ M0 = M' ∧ (-9223372036854775808) ≤ a ∧ a ≤ 9223372036854775807 ∧ (¬ a = 0)) := by
  refine cj_of (cc := cX12_common) (maxL := 4) (lv := [(0, .long (sJ a0)), (2, .long (sJ a2))]) (by decide) rfl (Nat.le_of_ble_eq_true rfl) rfl ?_
  intro p e s m args below meth c A Q C hret
  refine j_lload_n C 1 2 dX12_common_0 rfl rfl ?_
  refine y_lconst C 0 dX12_common_1 rfl ?_
  refine y_lcmp_ne C 10 dX12_common_2 dX12_common_3 (by decide) (by exact ⟨⟨ha2.1, ha2.2⟩, ⟨(by decide), (by decide)⟩⟩) (fun h101 => ?_) (fun h101 => ?_)
  · refine j_lload_n C 1 2 dX12_common_10 rfl rfl ?_
    refine j_lload_n C 0 0 dX12_common_11 rfl rfl ?_
    refine j_lload_n C 1 2 dX12_common_12 rfl rfl ?_
    refine y_lremA C dX12_common_13 (by exact ⟨⟨ha0.1, ha0.2⟩, ⟨⟨ha2.1, ha2.2⟩, h101⟩⟩) (fun a102 la102 ua102 ha102 => ?_)
    refine j_callSj C (d := 12) (As := [.long (sJ a2), .long (sJ a102)]) (st := []) (s13_X12_common hM0 a2 (by exact ⟨ha2.1, ha2.2⟩) a102 (by exact ⟨la102, ua102⟩) (by omega) (by omega) (by exact h101)) gX12_common_X12_common rfl hdX12_commons (by decide) (Nat.le_of_ble_eq_true rfl) dX12_common_14 rfl (fun r103 M104 h105 => ?_)
    obtain ⟨a107, rfl, rfl, h106⟩ := h105
    exact hret _ _ _ _ dX12_common_17 ⟨a107, rfl, rfl, by exact ⟨h106.1, ⟨h106.2.1, h106.2.2⟩⟩⟩
  · refine j_lload_n C 0 0 dX12_common_6 rfl rfl ?_
    refine j_goto C 17 dX12_common_7 (by decide) ?_
    exact hret _ _ _ _ dX12_common_17 ⟨a0, rfl, rfl, by exact ⟨ha0.1, ⟨ha0.2, hp2⟩⟩⟩
set_option maxHeartbeats 4000000 in
theorem s15_X12_common {l : Launch} {dC : Nat → ClassId} {dI : Nat → Nat → Nat} {ad : Nat → Nat} {cA : Nat → ClassId} {pr : Nat → Nat → Bool} {Kz : mm_M} {M0 : mm_M} (hM0 : INV pr Kz M0) (a0 : Int) (ha0 : -9223372036854775808 ≤ a0 ∧ a0 ≤ 9223372036854775807) (a2 : Int) (ha2 : -9223372036854775808 ≤ a2 ∧ a2 ≤ 9223372036854775807) (hp0 : (a2).natAbs < 610 ∨ (a0).natAbs < 987) (hp1 : (a2).natAbs ≤ (a0).natAbs) (hp2 : ¬ a0 = 0) : Cj l 14 yX12_common wsX12_common dC dI ad cA [.long (sJ a0), .long (sJ a2)] M0 (fun r M' => ∃ a : Int, r = sJ a ∧ M0 = M' ∧ (-9223372036854775808) ≤ a ∧ a ≤ 9223372036854775807 ∧ (¬ a = 0)) := by
  refine cj_of (cc := cX12_common) (maxL := 4) (lv := [(0, .long (sJ a0)), (2, .long (sJ a2))]) (by decide) rfl (Nat.le_of_ble_eq_true rfl) rfl ?_
  intro p e s m args below meth c A Q C hret
  refine j_lload_n C 1 2 dX12_common_0 rfl rfl ?_
  refine y_lconst C 0 dX12_common_1 rfl ?_
  refine y_lcmp_ne C 10 dX12_common_2 dX12_common_3 (by decide) (by exact ⟨⟨ha2.1, ha2.2⟩, ⟨(by decide), (by decide)⟩⟩) (fun h101 => ?_) (fun h101 => ?_)
  · refine j_lload_n C 1 2 dX12_common_10 rfl rfl ?_
    refine j_lload_n C 0 0 dX12_common_11 rfl rfl ?_
    refine j_lload_n C 1 2 dX12_common_12 rfl rfl ?_
    refine y_lremA C dX12_common_13 (by exact ⟨⟨ha0.1, ha0.2⟩, ⟨⟨ha2.1, ha2.2⟩, h101⟩⟩) (fun a102 la102 ua102 ha102 => ?_)
    refine j_callSj C (d := 13) (As := [.long (sJ a2), .long (sJ a102)]) (st := []) (s14_X12_common hM0 a2 (by exact ⟨ha2.1, ha2.2⟩) a102 (by exact ⟨la102, ua102⟩) (by omega) (by omega) (by exact h101)) gX12_common_X12_common rfl hdX12_commons (by decide) (Nat.le_of_ble_eq_true rfl) dX12_common_14 rfl (fun r103 M104 h105 => ?_)
    obtain ⟨a107, rfl, rfl, h106⟩ := h105
    exact hret _ _ _ _ dX12_common_17 ⟨a107, rfl, rfl, by exact ⟨h106.1, ⟨h106.2.1, h106.2.2⟩⟩⟩
  · refine j_lload_n C 0 0 dX12_common_6 rfl rfl ?_
    refine j_goto C 17 dX12_common_7 (by decide) ?_
    exact hret _ _ _ _ dX12_common_17 ⟨a0, rfl, rfl, by exact ⟨ha0.1, ⟨ha0.2, hp2⟩⟩⟩
set_option maxHeartbeats 4000000 in
theorem s16_X12_common {l : Launch} {dC : Nat → ClassId} {dI : Nat → Nat → Nat} {ad : Nat → Nat} {cA : Nat → ClassId} {pr : Nat → Nat → Bool} {Kz : mm_M} {M0 : mm_M} (hM0 : INV pr Kz M0) (a0 : Int) (ha0 : -9223372036854775808 ≤ a0 ∧ a0 ≤ 9223372036854775807) (a2 : Int) (ha2 : -9223372036854775808 ≤ a2 ∧ a2 ≤ 9223372036854775807) (hp0 : (a2).natAbs < 987 ∨ (a0).natAbs < 1597) (hp1 : (a2).natAbs ≤ (a0).natAbs) (hp2 : ¬ a0 = 0) : Cj l 15 yX12_common wsX12_common dC dI ad cA [.long (sJ a0), .long (sJ a2)] M0 (fun r M' => ∃ a : Int, r = sJ a ∧ M0 = M' ∧ (-9223372036854775808) ≤ a ∧ a ≤ 9223372036854775807 ∧ (¬ a = 0)) := by
  refine cj_of (cc := cX12_common) (maxL := 4) (lv := [(0, .long (sJ a0)), (2, .long (sJ a2))]) (by decide) rfl (Nat.le_of_ble_eq_true rfl) rfl ?_
  intro p e s m args below meth c A Q C hret
  refine j_lload_n C 1 2 dX12_common_0 rfl rfl ?_
  refine y_lconst C 0 dX12_common_1 rfl ?_
  refine y_lcmp_ne C 10 dX12_common_2 dX12_common_3 (by decide) (by exact ⟨⟨ha2.1, ha2.2⟩, ⟨(by decide), (by decide)⟩⟩) (fun h101 => ?_) (fun h101 => ?_)
  · refine j_lload_n C 1 2 dX12_common_10 rfl rfl ?_
    refine j_lload_n C 0 0 dX12_common_11 rfl rfl ?_
    refine j_lload_n C 1 2 dX12_common_12 rfl rfl ?_
    refine y_lremA C dX12_common_13 (by exact ⟨⟨ha0.1, ha0.2⟩, ⟨⟨ha2.1, ha2.2⟩, h101⟩⟩) (fun a102 la102 ua102 ha102 => ?_)
    refine j_callSj C (d := 14) (As := [.long (sJ a2), .long (sJ a102)]) (st := []) (s15_X12_common hM0 a2 (by exact ⟨ha2.1, ha2.2⟩) a102 (by exact ⟨la102, ua102⟩) (by omega) (by omega) (by exact h101)) gX12_common_X12_common rfl hdX12_commons (by decide) (Nat.le_of_ble_eq_true rfl) dX12_common_14 rfl (fun r103 M104 h105 => ?_)
    obtain ⟨a107, rfl, rfl, h106⟩ := h105
    exact hret _ _ _ _ dX12_common_17 ⟨a107, rfl, rfl, by exact ⟨h106.1, ⟨h106.2.1, h106.2.2⟩⟩⟩
  · refine j_lload_n C 0 0 dX12_common_6 rfl rfl ?_
    refine j_goto C 17 dX12_common_7 (by decide) ?_
    exact hret _ _ _ _ dX12_common_17 ⟨a0, rfl, rfl, by exact ⟨ha0.1, ⟨ha0.2, hp2⟩⟩⟩
set_option maxHeartbeats 4000000 in
theorem s17_X12_common {l : Launch} {dC : Nat → ClassId} {dI : Nat → Nat → Nat} {ad : Nat → Nat} {cA : Nat → ClassId} {pr : Nat → Nat → Bool} {Kz : mm_M} {M0 : mm_M} (hM0 : INV pr Kz M0) (a0 : Int) (ha0 : -9223372036854775808 ≤ a0 ∧ a0 ≤ 9223372036854775807) (a2 : Int) (ha2 : -9223372036854775808 ≤ a2 ∧ a2 ≤ 9223372036854775807) (hp0 : (a2).natAbs < 1597 ∨ (a0).natAbs < 2584) (hp1 : (a2).natAbs ≤ (a0).natAbs) (hp2 : ¬ a0 = 0) : Cj l 16 yX12_common wsX12_common dC dI ad cA [.long (sJ a0), .long (sJ a2)] M0 (fun r M' => ∃ a : Int, r = sJ a ∧ M0 = M' ∧ (-9223372036854775808) ≤ a ∧ a ≤ 9223372036854775807 ∧ (¬ a = 0)) := by
  refine cj_of (cc := cX12_common) (maxL := 4) (lv := [(0, .long (sJ a0)), (2, .long (sJ a2))]) (by decide) rfl (Nat.le_of_ble_eq_true rfl) rfl ?_
  intro p e s m args below meth c A Q C hret
  refine j_lload_n C 1 2 dX12_common_0 rfl rfl ?_
  refine y_lconst C 0 dX12_common_1 rfl ?_
  refine y_lcmp_ne C 10 dX12_common_2 dX12_common_3 (by decide) (by exact ⟨⟨ha2.1, ha2.2⟩, ⟨(by decide), (by decide)⟩⟩) (fun h101 => ?_) (fun h101 => ?_)
  · refine j_lload_n C 1 2 dX12_common_10 rfl rfl ?_
    refine j_lload_n C 0 0 dX12_common_11 rfl rfl ?_
    refine j_lload_n C 1 2 dX12_common_12 rfl rfl ?_
    refine y_lremA C dX12_common_13 (by exact ⟨⟨ha0.1, ha0.2⟩, ⟨⟨ha2.1, ha2.2⟩, h101⟩⟩) (fun a102 la102 ua102 ha102 => ?_)
    refine j_callSj C (d := 15) (As := [.long (sJ a2), .long (sJ a102)]) (st := []) (s16_X12_common hM0 a2 (by exact ⟨ha2.1, ha2.2⟩) a102 (by exact ⟨la102, ua102⟩) (by omega) (by omega) (by exact h101)) gX12_common_X12_common rfl hdX12_commons (by decide) (Nat.le_of_ble_eq_true rfl) dX12_common_14 rfl (fun r103 M104 h105 => ?_)
    obtain ⟨a107, rfl, rfl, h106⟩ := h105
    exact hret _ _ _ _ dX12_common_17 ⟨a107, rfl, rfl, by exact ⟨h106.1, ⟨h106.2.1, h106.2.2⟩⟩⟩
  · refine j_lload_n C 0 0 dX12_common_6 rfl rfl ?_
    refine j_goto C 17 dX12_common_7 (by decide) ?_
    exact hret _ _ _ _ dX12_common_17 ⟨a0, rfl, rfl, by exact ⟨ha0.1, ⟨ha0.2, hp2⟩⟩⟩
set_option maxHeartbeats 4000000 in
theorem s18_X12_common {l : Launch} {dC : Nat → ClassId} {dI : Nat → Nat → Nat} {ad : Nat → Nat} {cA : Nat → ClassId} {pr : Nat → Nat → Bool} {Kz : mm_M} {M0 : mm_M} (hM0 : INV pr Kz M0) (a0 : Int) (ha0 : -9223372036854775808 ≤ a0 ∧ a0 ≤ 9223372036854775807) (a2 : Int) (ha2 : -9223372036854775808 ≤ a2 ∧ a2 ≤ 9223372036854775807) (hp0 : (a2).natAbs < 2584 ∨ (a0).natAbs < 4181) (hp1 : (a2).natAbs ≤ (a0).natAbs) (hp2 : ¬ a0 = 0) : Cj l 17 yX12_common wsX12_common dC dI ad cA [.long (sJ a0), .long (sJ a2)] M0 (fun r M' => ∃ a : Int, r = sJ a ∧ M0 = M' ∧ (-9223372036854775808) ≤ a ∧ a ≤ 9223372036854775807 ∧ (¬ a = 0)) := by
  refine cj_of (cc := cX12_common) (maxL := 4) (lv := [(0, .long (sJ a0)), (2, .long (sJ a2))]) (by decide) rfl (Nat.le_of_ble_eq_true rfl) rfl ?_
  intro p e s m args below meth c A Q C hret
  refine j_lload_n C 1 2 dX12_common_0 rfl rfl ?_
  refine y_lconst C 0 dX12_common_1 rfl ?_
  refine y_lcmp_ne C 10 dX12_common_2 dX12_common_3 (by decide) (by exact ⟨⟨ha2.1, ha2.2⟩, ⟨(by decide), (by decide)⟩⟩) (fun h101 => ?_) (fun h101 => ?_)
  · refine j_lload_n C 1 2 dX12_common_10 rfl rfl ?_
    refine j_lload_n C 0 0 dX12_common_11 rfl rfl ?_
    refine j_lload_n C 1 2 dX12_common_12 rfl rfl ?_
    refine y_lremA C dX12_common_13 (by exact ⟨⟨ha0.1, ha0.2⟩, ⟨⟨ha2.1, ha2.2⟩, h101⟩⟩) (fun a102 la102 ua102 ha102 => ?_)
    refine j_callSj C (d := 16) (As := [.long (sJ a2), .long (sJ a102)]) (st := []) (s17_X12_common hM0 a2 (by exact ⟨ha2.1, ha2.2⟩) a102 (by exact ⟨la102, ua102⟩) (by omega) (by omega) (by exact h101)) gX12_common_X12_common rfl hdX12_commons (by decide) (Nat.le_of_ble_eq_true rfl) dX12_common_14 rfl (fun r103 M104 h105 => ?_)
    obtain ⟨a107, rfl, rfl, h106⟩ := h105
    exact hret _ _ _ _ dX12_common_17 ⟨a107, rfl, rfl, by exact ⟨h106.1, ⟨h106.2.1, h106.2.2⟩⟩⟩
  · refine j_lload_n C 0 0 dX12_common_6 rfl rfl ?_
    refine j_goto C 17 dX12_common_7 (by decide) ?_
    exact hret _ _ _ _ dX12_common_17 ⟨a0, rfl, rfl, by exact ⟨ha0.1, ⟨ha0.2, hp2⟩⟩⟩
set_option maxHeartbeats 4000000 in
theorem s19_X12_common {l : Launch} {dC : Nat → ClassId} {dI : Nat → Nat → Nat} {ad : Nat → Nat} {cA : Nat → ClassId} {pr : Nat → Nat → Bool} {Kz : mm_M} {M0 : mm_M} (hM0 : INV pr Kz M0) (a0 : Int) (ha0 : -9223372036854775808 ≤ a0 ∧ a0 ≤ 9223372036854775807) (a2 : Int) (ha2 : -9223372036854775808 ≤ a2 ∧ a2 ≤ 9223372036854775807) (hp0 : (a2).natAbs < 4181 ∨ (a0).natAbs < 6765) (hp1 : (a2).natAbs ≤ (a0).natAbs) (hp2 : ¬ a0 = 0) : Cj l 18 yX12_common wsX12_common dC dI ad cA [.long (sJ a0), .long (sJ a2)] M0 (fun r M' => ∃ a : Int, r = sJ a ∧ M0 = M' ∧ (-9223372036854775808) ≤ a ∧ a ≤ 9223372036854775807 ∧ (¬ a = 0)) := by
  refine cj_of (cc := cX12_common) (maxL := 4) (lv := [(0, .long (sJ a0)), (2, .long (sJ a2))]) (by decide) rfl (Nat.le_of_ble_eq_true rfl) rfl ?_
  intro p e s m args below meth c A Q C hret
  refine j_lload_n C 1 2 dX12_common_0 rfl rfl ?_
  refine y_lconst C 0 dX12_common_1 rfl ?_
  refine y_lcmp_ne C 10 dX12_common_2 dX12_common_3 (by decide) (by exact ⟨⟨ha2.1, ha2.2⟩, ⟨(by decide), (by decide)⟩⟩) (fun h101 => ?_) (fun h101 => ?_)
  · refine j_lload_n C 1 2 dX12_common_10 rfl rfl ?_
    refine j_lload_n C 0 0 dX12_common_11 rfl rfl ?_
    refine j_lload_n C 1 2 dX12_common_12 rfl rfl ?_
    refine y_lremA C dX12_common_13 (by exact ⟨⟨ha0.1, ha0.2⟩, ⟨⟨ha2.1, ha2.2⟩, h101⟩⟩) (fun a102 la102 ua102 ha102 => ?_)
    refine j_callSj C (d := 17) (As := [.long (sJ a2), .long (sJ a102)]) (st := []) (s18_X12_common hM0 a2 (by exact ⟨ha2.1, ha2.2⟩) a102 (by exact ⟨la102, ua102⟩) (by omega) (by omega) (by exact h101)) gX12_common_X12_common rfl hdX12_commons (by decide) (Nat.le_of_ble_eq_true rfl) dX12_common_14 rfl (fun r103 M104 h105 => ?_)
    obtain ⟨a107, rfl, rfl, h106⟩ := h105
    exact hret _ _ _ _ dX12_common_17 ⟨a107, rfl, rfl, by exact ⟨h106.1, ⟨h106.2.1, h106.2.2⟩⟩⟩
  · refine j_lload_n C 0 0 dX12_common_6 rfl rfl ?_
    refine j_goto C 17 dX12_common_7 (by decide) ?_
    exact hret _ _ _ _ dX12_common_17 ⟨a0, rfl, rfl, by exact ⟨ha0.1, ⟨ha0.2, hp2⟩⟩⟩
set_option maxHeartbeats 4000000 in
theorem s20_X12_common {l : Launch} {dC : Nat → ClassId} {dI : Nat → Nat → Nat} {ad : Nat → Nat} {cA : Nat → ClassId} {pr : Nat → Nat → Bool} {Kz : mm_M} {M0 : mm_M} (hM0 : INV pr Kz M0) (a0 : Int) (ha0 : -9223372036854775808 ≤ a0 ∧ a0 ≤ 9223372036854775807) (a2 : Int) (ha2 : -9223372036854775808 ≤ a2 ∧ a2 ≤ 9223372036854775807) (hp0 : (a2).natAbs < 6765 ∨ (a0).natAbs < 10946) (hp1 : (a2).natAbs ≤ (a0).natAbs) (hp2 : ¬ a0 = 0) : Cj l 19 yX12_common wsX12_common dC dI ad cA [.long (sJ a0), .long (sJ a2)] M0 (fun r M' => ∃ a : Int, r = sJ a ∧ M0 = M' ∧ (-9223372036854775808) ≤ a ∧ a ≤ 9223372036854775807 ∧ (¬ a = 0)) := by
  refine cj_of (cc := cX12_common) (maxL := 4) (lv := [(0, .long (sJ a0)), (2, .long (sJ a2))]) (by decide) rfl (Nat.le_of_ble_eq_true rfl) rfl ?_
  intro p e s m args below meth c A Q C hret
  refine j_lload_n C 1 2 dX12_common_0 rfl rfl ?_
  refine y_lconst C 0 dX12_common_1 rfl ?_
  refine y_lcmp_ne C 10 dX12_common_2 dX12_common_3 (by decide) (by exact ⟨⟨ha2.1, ha2.2⟩, ⟨(by decide), (by decide)⟩⟩) (fun h101 => ?_) (fun h101 => ?_)
  · refine j_lload_n C 1 2 dX12_common_10 rfl rfl ?_
    refine j_lload_n C 0 0 dX12_common_11 rfl rfl ?_
    refine j_lload_n C 1 2 dX12_common_12 rfl rfl ?_
    refine y_lremA C dX12_common_13 (by exact ⟨⟨ha0.1, ha0.2⟩, ⟨⟨ha2.1, ha2.2⟩, h101⟩⟩) (fun a102 la102 ua102 ha102 => ?_)
    refine j_callSj C (d := 18) (As := [.long (sJ a2), .long (sJ a102)]) (st := []) (s19_X12_common hM0 a2 (by exact ⟨ha2.1, ha2.2⟩) a102 (by exact ⟨la102, ua102⟩) (by omega) (by omega) (by exact h101)) gX12_common_X12_common rfl hdX12_commons (by decide) (Nat.le_of_ble_eq_true rfl) dX12_common_14 rfl (fun r103 M104 h105 => ?_)
    obtain ⟨a107, rfl, rfl, h106⟩ := h105
    exact hret _ _ _ _ dX12_common_17 ⟨a107, rfl, rfl, by exact ⟨h106.1, ⟨h106.2.1, h106.2.2⟩⟩⟩
  · refine j_lload_n C 0 0 dX12_common_6 rfl rfl ?_
    refine j_goto C 17 dX12_common_7 (by decide) ?_
    exact hret _ _ _ _ dX12_common_17 ⟨a0, rfl, rfl, by exact ⟨ha0.1, ⟨ha0.2, hp2⟩⟩⟩
set_option maxHeartbeats 4000000 in
theorem s21_X12_common {l : Launch} {dC : Nat → ClassId} {dI : Nat → Nat → Nat} {ad : Nat → Nat} {cA : Nat → ClassId} {pr : Nat → Nat → Bool} {Kz : mm_M} {M0 : mm_M} (hM0 : INV pr Kz M0) (a0 : Int) (ha0 : -9223372036854775808 ≤ a0 ∧ a0 ≤ 9223372036854775807) (a2 : Int) (ha2 : -9223372036854775808 ≤ a2 ∧ a2 ≤ 9223372036854775807) (hp0 : (a2).natAbs < 10946 ∨ (a0).natAbs < 17711) (hp1 : (a2).natAbs ≤ (a0).natAbs) (hp2 : ¬ a0 = 0) : Cj l 20 yX12_common wsX12_common dC dI ad cA [.long (sJ a0), .long (sJ a2)] M0 (fun r M' => ∃ a : Int, r = sJ a ∧ M0 = M' ∧ (-9223372036854775808) ≤ a ∧ a ≤ 9223372036854775807 ∧ (¬ a = 0)) := by
  refine cj_of (cc := cX12_common) (maxL := 4) (lv := [(0, .long (sJ a0)), (2, .long (sJ a2))]) (by decide) rfl (Nat.le_of_ble_eq_true rfl) rfl ?_
  intro p e s m args below meth c A Q C hret
  refine j_lload_n C 1 2 dX12_common_0 rfl rfl ?_
  refine y_lconst C 0 dX12_common_1 rfl ?_
  refine y_lcmp_ne C 10 dX12_common_2 dX12_common_3 (by decide) (by exact ⟨⟨ha2.1, ha2.2⟩, ⟨(by decide), (by decide)⟩⟩) (fun h101 => ?_) (fun h101 => ?_)
  · refine j_lload_n C 1 2 dX12_common_10 rfl rfl ?_
    refine j_lload_n C 0 0 dX12_common_11 rfl rfl ?_
    refine j_lload_n C 1 2 dX12_common_12 rfl rfl ?_
    refine y_lremA C dX12_common_13 (by exact ⟨⟨ha0.1, ha0.2⟩, ⟨⟨ha2.1, ha2.2⟩, h101⟩⟩) (fun a102 la102 ua102 ha102 => ?_)
    refine j_callSj C (d := 19) (As := [.long (sJ a2), .long (sJ a102)]) (st := []) (s20_X12_common hM0 a2 (by exact ⟨ha2.1, ha2.2⟩) a102 (by exact ⟨la102, ua102⟩) (by omega) (by omega) (by exact h101)) gX12_common_X12_common rfl hdX12_commons (by decide) (Nat.le_of_ble_eq_true rfl) dX12_common_14 rfl (fun r103 M104 h105 => ?_)
    obtain ⟨a107, rfl, rfl, h106⟩ := h105
    exact hret _ _ _ _ dX12_common_17 ⟨a107, rfl, rfl, by exact ⟨h106.1, ⟨h106.2.1, h106.2.2⟩⟩⟩
  · refine j_lload_n C 0 0 dX12_common_6 rfl rfl ?_
    refine j_goto C 17 dX12_common_7 (by decide) ?_
    exact hret _ _ _ _ dX12_common_17 ⟨a0, rfl, rfl, by exact ⟨ha0.1, ⟨ha0.2, hp2⟩⟩⟩
set_option maxHeartbeats 4000000 in
theorem s22_X12_common {l : Launch} {dC : Nat → ClassId} {dI : Nat → Nat → Nat} {ad : Nat → Nat} {cA : Nat → ClassId} {pr : Nat → Nat → Bool} {Kz : mm_M} {M0 : mm_M} (hM0 : INV pr Kz M0) (a0 : Int) (ha0 : -9223372036854775808 ≤ a0 ∧ a0 ≤ 9223372036854775807) (a2 : Int) (ha2 : -9223372036854775808 ≤ a2 ∧ a2 ≤ 9223372036854775807) (hp0 : (a2).natAbs < 17711 ∨ (a0).natAbs < 28657) (hp1 : (a2).natAbs ≤ (a0).natAbs) (hp2 : ¬ a0 = 0) : Cj l 21 yX12_common wsX12_common dC dI ad cA [.long (sJ a0), .long (sJ a2)] M0 (fun r M' => ∃ a : Int, r = sJ a ∧ M0 = M' ∧ (-9223372036854775808) ≤ a ∧ a ≤ 9223372036854775807 ∧ (¬ a = 0)) := by
  refine cj_of (cc := cX12_common) (maxL := 4) (lv := [(0, .long (sJ a0)), (2, .long (sJ a2))]) (by decide) rfl (Nat.le_of_ble_eq_true rfl) rfl ?_
  intro p e s m args below meth c A Q C hret
  refine j_lload_n C 1 2 dX12_common_0 rfl rfl ?_
  refine y_lconst C 0 dX12_common_1 rfl ?_
  refine y_lcmp_ne C 10 dX12_common_2 dX12_common_3 (by decide) (by exact ⟨⟨ha2.1, ha2.2⟩, ⟨(by decide), (by decide)⟩⟩) (fun h101 => ?_) (fun h101 => ?_)
  · refine j_lload_n C 1 2 dX12_common_10 rfl rfl ?_
    refine j_lload_n C 0 0 dX12_common_11 rfl rfl ?_
    refine j_lload_n C 1 2 dX12_common_12 rfl rfl ?_
    refine y_lremA C dX12_common_13 (by exact ⟨⟨ha0.1, ha0.2⟩, ⟨⟨ha2.1, ha2.2⟩, h101⟩⟩) (fun a102 la102 ua102 ha102 => ?_)
    refine j_callSj C (d := 20) (As := [.long (sJ a2), .long (sJ a102)]) (st := []) (s21_X12_common hM0 a2 (by exact ⟨ha2.1, ha2.2⟩) a102 (by exact ⟨la102, ua102⟩) (by omega) (by omega) (by exact h101)) gX12_common_X12_common rfl hdX12_commons (by decide) (Nat.le_of_ble_eq_true rfl) dX12_common_14 rfl (fun r103 M104 h105 => ?_)
    obtain ⟨a107, rfl, rfl, h106⟩ := h105
    exact hret _ _ _ _ dX12_common_17 ⟨a107, rfl, rfl, by exact ⟨h106.1, ⟨h106.2.1, h106.2.2⟩⟩⟩
  · refine j_lload_n C 0 0 dX12_common_6 rfl rfl ?_
    refine j_goto C 17 dX12_common_7 (by decide) ?_
    exact hret _ _ _ _ dX12_common_17 ⟨a0, rfl, rfl, by exact ⟨ha0.1, ⟨ha0.2, hp2⟩⟩⟩
set_option maxHeartbeats 4000000 in
theorem s23_X12_common {l : Launch} {dC : Nat → ClassId} {dI : Nat → Nat → Nat} {ad : Nat → Nat} {cA : Nat → ClassId} {pr : Nat → Nat → Bool} {Kz : mm_M} {M0 : mm_M} (hM0 : INV pr Kz M0) (a0 : Int) (ha0 : -9223372036854775808 ≤ a0 ∧ a0 ≤ 9223372036854775807) (a2 : Int) (ha2 : -9223372036854775808 ≤ a2 ∧ a2 ≤ 9223372036854775807) (hp0 : (a2).natAbs < 28657 ∨ (a0).natAbs < 46368) (hp1 : (a2).natAbs ≤ (a0).natAbs) (hp2 : ¬ a0 = 0) : Cj l 22 yX12_common wsX12_common dC dI ad cA [.long (sJ a0), .long (sJ a2)] M0 (fun r M' => ∃ a : Int, r = sJ a ∧ M0 = M' ∧ (-9223372036854775808) ≤ a ∧ a ≤ 9223372036854775807 ∧ (¬ a = 0)) := by
  refine cj_of (cc := cX12_common) (maxL := 4) (lv := [(0, .long (sJ a0)), (2, .long (sJ a2))]) (by decide) rfl (Nat.le_of_ble_eq_true rfl) rfl ?_
  intro p e s m args below meth c A Q C hret
  refine j_lload_n C 1 2 dX12_common_0 rfl rfl ?_
  refine y_lconst C 0 dX12_common_1 rfl ?_
  refine y_lcmp_ne C 10 dX12_common_2 dX12_common_3 (by decide) (by exact ⟨⟨ha2.1, ha2.2⟩, ⟨(by decide), (by decide)⟩⟩) (fun h101 => ?_) (fun h101 => ?_)
  · refine j_lload_n C 1 2 dX12_common_10 rfl rfl ?_
    refine j_lload_n C 0 0 dX12_common_11 rfl rfl ?_
    refine j_lload_n C 1 2 dX12_common_12 rfl rfl ?_
    refine y_lremA C dX12_common_13 (by exact ⟨⟨ha0.1, ha0.2⟩, ⟨⟨ha2.1, ha2.2⟩, h101⟩⟩) (fun a102 la102 ua102 ha102 => ?_)
    refine j_callSj C (d := 21) (As := [.long (sJ a2), .long (sJ a102)]) (st := []) (s22_X12_common hM0 a2 (by exact ⟨ha2.1, ha2.2⟩) a102 (by exact ⟨la102, ua102⟩) (by omega) (by omega) (by exact h101)) gX12_common_X12_common rfl hdX12_commons (by decide) (Nat.le_of_ble_eq_true rfl) dX12_common_14 rfl (fun r103 M104 h105 => ?_)
    obtain ⟨a107, rfl, rfl, h106⟩ := h105
    exact hret _ _ _ _ dX12_common_17 ⟨a107, rfl, rfl, by exact ⟨h106.1, ⟨h106.2.1, h106.2.2⟩⟩⟩
  · refine j_lload_n C 0 0 dX12_common_6 rfl rfl ?_
    refine j_goto C 17 dX12_common_7 (by decide) ?_
    exact hret _ _ _ _ dX12_common_17 ⟨a0, rfl, rfl, by exact ⟨ha0.1, ⟨ha0.2, hp2⟩⟩⟩
set_option maxHeartbeats 4000000 in
theorem s24_X12_common {l : Launch} {dC : Nat → ClassId} {dI : Nat → Nat → Nat} {ad : Nat → Nat} {cA : Nat → ClassId} {pr : Nat → Nat → Bool} {Kz : mm_M} {M0 : mm_M} (hM0 : INV pr Kz M0) (a0 : Int) (ha0 : -9223372036854775808 ≤ a0 ∧ a0 ≤ 9223372036854775807) (a2 : Int) (ha2 : -9223372036854775808 ≤ a2 ∧ a2 ≤ 9223372036854775807) (hp0 : (a2).natAbs < 46368 ∨ (a0).natAbs < 75025) (hp1 : (a2).natAbs ≤ (a0).natAbs) (hp2 : ¬ a0 = 0) : Cj l 23 yX12_common wsX12_common dC dI ad cA [.long (sJ a0), .long (sJ a2)] M0 (fun r M' => ∃ a : Int, r = sJ a ∧ M0 = M' ∧ (-9223372036854775808) ≤ a ∧ a ≤ 9223372036854775807 ∧ (¬ a = 0)) := by
  refine cj_of (cc := cX12_common) (maxL := 4) (lv := [(0, .long (sJ a0)), (2, .long (sJ a2))]) (by decide) rfl (Nat.le_of_ble_eq_true rfl) rfl ?_
  intro p e s m args below meth c A Q C hret
  refine j_lload_n C 1 2 dX12_common_0 rfl rfl ?_
  refine y_lconst C 0 dX12_common_1 rfl ?_
  refine y_lcmp_ne C 10 dX12_common_2 dX12_common_3 (by decide) (by exact ⟨⟨ha2.1, ha2.2⟩, ⟨(by decide), (by decide)⟩⟩) (fun h101 => ?_) (fun h101 => ?_)
  · refine j_lload_n C 1 2 dX12_common_10 rfl rfl ?_
    refine j_lload_n C 0 0 dX12_common_11 rfl rfl ?_
    refine j_lload_n C 1 2 dX12_common_12 rfl rfl ?_
    refine y_lremA C dX12_common_13 (by exact ⟨⟨ha0.1, ha0.2⟩, ⟨⟨ha2.1, ha2.2⟩, h101⟩⟩) (fun a102 la102 ua102 ha102 => ?_)
    refine j_callSj C (d := 22) (As := [.long (sJ a2), .long (sJ a102)]) (st := []) (s23_X12_common hM0 a2 (by exact ⟨ha2.1, ha2.2⟩) a102 (by exact ⟨la102, ua102⟩) (by omega) (by omega) (by exact h101)) gX12_common_X12_common rfl hdX12_commons (by decide) (Nat.le_of_ble_eq_true rfl) dX12_common_14 rfl (fun r103 M104 h105 => ?_)
    obtain ⟨a107, rfl, rfl, h106⟩ := h105
    exact hret _ _ _ _ dX12_common_17 ⟨a107, rfl, rfl, by exact ⟨h106.1, ⟨h106.2.1, h106.2.2⟩⟩⟩
  · refine j_lload_n C 0 0 dX12_common_6 rfl rfl ?_
    refine j_goto C 17 dX12_common_7 (by decide) ?_
    exact hret _ _ _ _ dX12_common_17 ⟨a0, rfl, rfl, by exact ⟨ha0.1, ⟨ha0.2, hp2⟩⟩⟩
set_option maxHeartbeats 4000000 in
theorem s25_X12_common {l : Launch} {dC : Nat → ClassId} {dI : Nat → Nat → Nat} {ad : Nat → Nat} {cA : Nat → ClassId} {pr : Nat → Nat → Bool} {Kz : mm_M} {M0 : mm_M} (hM0 : INV pr Kz M0) (a0 : Int) (ha0 : -9223372036854775808 ≤ a0 ∧ a0 ≤ 9223372036854775807) (a2 : Int) (ha2 : -9223372036854775808 ≤ a2 ∧ a2 ≤ 9223372036854775807) (hp0 : (a2).natAbs < 75025 ∨ (a0).natAbs < 121393) (hp1 : (a2).natAbs ≤ (a0).natAbs) (hp2 : ¬ a0 = 0) : Cj l 24 yX12_common wsX12_common dC dI ad cA [.long (sJ a0), .long (sJ a2)] M0 (fun r M' => ∃ a : Int, r = sJ a ∧ M0 = M' ∧ (-9223372036854775808) ≤ a ∧ a ≤ 9223372036854775807 ∧ (¬ a = 0)) := by
  refine cj_of (cc := cX12_common) (maxL := 4) (lv := [(0, .long (sJ a0)), (2, .long (sJ a2))]) (by decide) rfl (Nat.le_of_ble_eq_true rfl) rfl ?_
  intro p e s m args below meth c A Q C hret
  refine j_lload_n C 1 2 dX12_common_0 rfl rfl ?_
  refine y_lconst C 0 dX12_common_1 rfl ?_
  refine y_lcmp_ne C 10 dX12_common_2 dX12_common_3 (by decide) (by exact ⟨⟨ha2.1, ha2.2⟩, ⟨(by decide), (by decide)⟩⟩) (fun h101 => ?_) (fun h101 => ?_)
  · refine j_lload_n C 1 2 dX12_common_10 rfl rfl ?_
    refine j_lload_n C 0 0 dX12_common_11 rfl rfl ?_
    refine j_lload_n C 1 2 dX12_common_12 rfl rfl ?_
    refine y_lremA C dX12_common_13 (by exact ⟨⟨ha0.1, ha0.2⟩, ⟨⟨ha2.1, ha2.2⟩, h101⟩⟩) (fun a102 la102 ua102 ha102 => ?_)
    refine j_callSj C (d := 23) (As := [.long (sJ a2), .long (sJ a102)]) (st := []) (s24_X12_common hM0 a2 (by exact ⟨ha2.1, ha2.2⟩) a102 (by exact ⟨la102, ua102⟩) (by omega) (by omega) (by exact h101)) gX12_common_X12_common rfl hdX12_commons (by decide) (Nat.le_of_ble_eq_true rfl) dX12_common_14 rfl (fun r103 M104 h105 => ?_)
    obtain ⟨a107, rfl, rfl, h106⟩ := h105
    exact hret _ _ _ _ dX12_common_17 ⟨a107, rfl, rfl, by exact ⟨h106.1, ⟨h106.2.1, h106.2.2⟩⟩⟩
  · refine j_lload_n C 0 0 dX12_common_6 rfl rfl ?_
    refine j_goto C 17 dX12_common_7 (by decide) ?_
    exact hret _ _ _ _ dX12_common_17 ⟨a0, rfl, rfl, by exact ⟨ha0.1, ⟨ha0.2, hp2⟩⟩⟩
set_option maxHeartbeats 4000000 in
theorem s26_X12_common {l : Launch} {dC : Nat → ClassId} {dI : Nat → Nat → Nat} {ad : Nat → Nat} {cA : Nat → ClassId} {pr : Nat → Nat → Bool} {Kz : mm_M} {M0 : mm_M} (hM0 : INV pr Kz M0) (a0 : Int) (ha0 : -9223372036854775808 ≤ a0 ∧ a0 ≤ 9223372036854775807) (a2 : Int) (ha2 : -9223372036854775808 ≤ a2 ∧ a2 ≤ 9223372036854775807) (hp0 : (a2).natAbs < 121393 ∨ (a0).natAbs < 196418) (hp1 : (a2).natAbs ≤ (a0).natAbs) (hp2 : ¬ a0 = 0) : Cj l 25 yX12_common wsX12_common dC dI ad cA [.long (sJ a0), .long (sJ a2)] M0 (fun r M' => ∃ a : Int, r = sJ a ∧ M0 = M' ∧ (-9223372036854775808) ≤ a ∧ a ≤ 9223372036854775807 ∧ (¬ a = 0)) := by
  refine cj_of (cc := cX12_common) (maxL := 4) (lv := [(0, .long (sJ a0)), (2, .long (sJ a2))]) (by decide) rfl (Nat.le_of_ble_eq_true rfl) rfl ?_
  intro p e s m args below meth c A Q C hret
  refine j_lload_n C 1 2 dX12_common_0 rfl rfl ?_
  refine y_lconst C 0 dX12_common_1 rfl ?_
  refine y_lcmp_ne C 10 dX12_common_2 dX12_common_3 (by decide) (by exact ⟨⟨ha2.1, ha2.2⟩, ⟨(by decide), (by decide)⟩⟩) (fun h101 => ?_) (fun h101 => ?_)
  · refine j_lload_n C 1 2 dX12_common_10 rfl rfl ?_
    refine j_lload_n C 0 0 dX12_common_11 rfl rfl ?_
    refine j_lload_n C 1 2 dX12_common_12 rfl rfl ?_
    refine y_lremA C dX12_common_13 (by exact ⟨⟨ha0.1, ha0.2⟩, ⟨⟨ha2.1, ha2.2⟩, h101⟩⟩) (fun a102 la102 ua102 ha102 => ?_)
    refine j_callSj C (d := 24) (As := [.long (sJ a2), .long (sJ a102)]) (st := []) (s25_X12_common hM0 a2 (by exact ⟨ha2.1, ha2.2⟩) a102 (by exact ⟨la102, ua102⟩) (by omega) (by omega) (by exact h101)) gX12_common_X12_common rfl hdX12_commons (by decide) (Nat.le_of_ble_eq_true rfl) dX12_common_14 rfl (fun r103 M104 h105 => ?_)
    obtain ⟨a107, rfl, rfl, h106⟩ := h105
    exact hret _ _ _ _ dX12_common_17 ⟨a107, rfl, rfl, by exact ⟨h106.1, ⟨h106.2.1, h106.2.2⟩⟩⟩
  · refine j_lload_n C 0 0 dX12_common_6 rfl rfl ?_
    refine j_goto C 17 dX12_common_7 (by decide) ?_
    exact hret _ _ _ _ dX12_common_17 ⟨a0, rfl, rfl, by exact ⟨ha0.1, ⟨ha0.2, hp2⟩⟩⟩
set_option maxHeartbeats 4000000 in
theorem s27_X12_common {l : Launch} {dC : Nat → ClassId} {dI : Nat → Nat → Nat} {ad : Nat → Nat} {cA : Nat → ClassId} {pr : Nat → Nat → Bool} {Kz : mm_M} {M0 : mm_M} (hM0 : INV pr Kz M0) (a0 : Int) (ha0 : -9223372036854775808 ≤ a0 ∧ a0 ≤ 9223372036854775807) (a2 : Int) (ha2 : -9223372036854775808 ≤ a2 ∧ a2 ≤ 9223372036854775807) (hp0 : (a2).natAbs < 196418 ∨ (a0).natAbs < 317811) (hp1 : (a2).natAbs ≤ (a0).natAbs) (hp2 : ¬ a0 = 0) : Cj l 26 yX12_common wsX12_common dC dI ad cA [.long (sJ a0), .long (sJ a2)] M0 (fun r M' => ∃ a : Int, r = sJ a ∧ M0 = M' ∧ (-9223372036854775808) ≤ a ∧ a ≤ 9223372036854775807 ∧ (¬ a = 0)) := by
  refine cj_of (cc := cX12_common) (maxL := 4) (lv := [(0, .long (sJ a0)), (2, .long (sJ a2))]) (by decide) rfl (Nat.le_of_ble_eq_true rfl) rfl ?_
  intro p e s m args below meth c A Q C hret
  refine j_lload_n C 1 2 dX12_common_0 rfl rfl ?_
  refine y_lconst C 0 dX12_common_1 rfl ?_
  refine y_lcmp_ne C 10 dX12_common_2 dX12_common_3 (by decide) (by exact ⟨⟨ha2.1, ha2.2⟩, ⟨(by decide), (by decide)⟩⟩) (fun h101 => ?_) (fun h101 => ?_)
  · refine j_lload_n C 1 2 dX12_common_10 rfl rfl ?_
    refine j_lload_n C 0 0 dX12_common_11 rfl rfl ?_
    refine j_lload_n C 1 2 dX12_common_12 rfl rfl ?_
    refine y_lremA C dX12_common_13 (by exact ⟨⟨ha0.1, ha0.2⟩, ⟨⟨ha2.1, ha2.2⟩, h101⟩⟩) (fun a102 la102 ua102 ha102 => ?_)
    refine j_callSj C (d := 25) (As := [.long (sJ a2), .long (sJ a102)]) (st := []) (s26_X12_common hM0 a2 (by exact ⟨ha2.1, ha2.2⟩) a102 (by exact ⟨la102, ua102⟩) (by omega) (by omega) (by exact h101)) gX12_common_X12_common rfl hdX12_commons (by decide) (Nat.le_of_ble_eq_true rfl) dX12_common_14 rfl (fun r103 M104 h105 => ?_)
    obtain ⟨a107, rfl, rfl, h106⟩ := h105
    exact hret _ _ _ _ dX12_common_17 ⟨a107, rfl, rfl, by exact ⟨h106.1, ⟨h106.2.1, h106.2.2⟩⟩⟩
  · refine j_lload_n C 0 0 dX12_common_6 rfl rfl ?_
    refine j_goto C 17 dX12_common_7 (by decide) ?_
    exact hret _ _ _ _ dX12_common_17 ⟨a0, rfl, rfl, by exact ⟨ha0.1, ⟨ha0.2, hp2⟩⟩⟩
set_option maxHeartbeats 4000000 in
theorem s28_X12_common {l : Launch} {dC : Nat → ClassId} {dI : Nat → Nat → Nat} {ad : Nat → Nat} {cA : Nat → ClassId} {pr : Nat → Nat → Bool} {Kz : mm_M} {M0 : mm_M} (hM0 : INV pr Kz M0) (a0 : Int) (ha0 : -9223372036854775808 ≤ a0 ∧ a0 ≤ 9223372036854775807) (a2 : Int) (ha2 : -9223372036854775808 ≤ a2 ∧ a2 ≤ 9223372036854775807) (hp0 : (a2).natAbs < 317811 ∨ (a0).natAbs < 514229) (hp1 : (a2).natAbs ≤ (a0).natAbs) (hp2 : ¬ a0 = 0) : Cj l 27 yX12_common wsX12_common dC dI ad cA [.long (sJ a0), .long (sJ a2)] M0 (fun r M' => ∃ a : Int, r = sJ a ∧ M0 = M' ∧ (-9223372036854775808) ≤ a ∧ a ≤ 9223372036854775807 ∧ (¬ a = 0)) := by
  refine cj_of (cc := cX12_common) (maxL := 4) (lv := [(0, .long (sJ a0)), (2, .long (sJ a2))]) (by decide) rfl (Nat.le_of_ble_eq_true rfl) rfl ?_
  intro p e s m args below meth c A Q C hret
  refine j_lload_n C 1 2 dX12_common_0 rfl rfl ?_
  refine y_lconst C 0 dX12_common_1 rfl ?_
  refine y_lcmp_ne C 10 dX12_common_2 dX12_common_3 (by decide) (by exact ⟨⟨ha2.1, ha2.2⟩, ⟨(by decide), (by decide)⟩⟩) (fun h101 => ?_) (fun h101 => ?_)
  · refine j_lload_n C 1 2 dX12_common_10 rfl rfl ?_
    refine j_lload_n C 0 0 dX12_common_11 rfl rfl ?_
    refine j_lload_n C 1 2 dX12_common_12 rfl rfl ?_
    refine y_lremA C dX12_common_13 (by exact ⟨⟨ha0.1, ha0.2⟩, ⟨⟨ha2.1, ha2.2⟩, h101⟩⟩) (fun a102 la102 ua102 ha102 => ?_)
    refine j_callSj C (d := 26) (As := [.long (sJ a2), .long (sJ a102)]) (st := []) (s27_X12_common hM0 a2 (by exact ⟨ha2.1, ha2.2⟩) a102 (by exact ⟨la102, ua102⟩) (by omega) (by omega) (by exact h101)) gX12_common_X12_common rfl hdX12_commons (by decide) (Nat.le_of_ble_eq_true rfl) dX12_common_14 rfl (fun r103 M104 h105 => ?_)
    obtain ⟨a107, rfl, rfl, h106⟩ := h105
    exact hret _ _ _ _ dX12_common_17 ⟨a107, rfl, rfl, by exact ⟨h106.1, ⟨h106.2.1, h106.2.2⟩⟩⟩
  · refine j_lload_n C 0 0 dX12_common_6 rfl rfl ?_
    refine j_goto C 17 dX12_common_7 (by decide) ?_
    exact hret _ _ _ _ dX12_common_17 ⟨a0, rfl, rfl, by exact ⟨ha0.1, ⟨ha0.2, hp2⟩⟩⟩
set_option maxHeartbeats 4000000 in
theorem s29_X12_common {l : Launch} {dC : Nat → ClassId} {dI : Nat → Nat → Nat} {ad : Nat → Nat} {cA : Nat → ClassId} {pr : Nat → Nat → Bool} {Kz : mm_M} {M0 : mm_M} (hM0 : INV pr Kz M0) (a0 : Int) (ha0 : -9223372036854775808 ≤ a0 ∧ a0 ≤ 9223372036854775807) (a2 : Int) (ha2 : -9223372036854775808 ≤ a2 ∧ a2 ≤ 9223372036854775807) (hp0 : (a2).natAbs < 514229 ∨ (a0).natAbs < 832040) (hp1 : (a2).natAbs ≤ (a0).natAbs) (hp2 : ¬ a0 = 0) : Cj l 28 yX12_common wsX12_common dC dI ad cA [.long (sJ a0), .long (sJ a2)] M0 (fun r M' => ∃ a : Int, r = sJ a ∧ M0 = M' ∧ (-9223372036854775808) ≤ a ∧ a ≤ 9223372036854775807 ∧ (¬ a = 0)) := by
  refine cj_of (cc := cX12_common) (maxL := 4) (lv := [(0, .long (sJ a0)), (2, .long (sJ a2))]) (by decide) rfl (Nat.le_of_ble_eq_true rfl) rfl ?_
  intro p e s m args below meth c A Q C hret
  refine j_lload_n C 1 2 dX12_common_0 rfl rfl ?_
  refine y_lconst C 0 dX12_common_1 rfl ?_
  refine y_lcmp_ne C 10 dX12_common_2 dX12_common_3 (by decide) (by exact ⟨⟨ha2.1, ha2.2⟩, ⟨(by decide), (by decide)⟩⟩) (fun h101 => ?_) (fun h101 => ?_)
  · refine j_lload_n C 1 2 dX12_common_10 rfl rfl ?_
    refine j_lload_n C 0 0 dX12_common_11 rfl rfl ?_
    refine j_lload_n C 1 2 dX12_common_12 rfl rfl ?_
    refine y_lremA C dX12_common_13 (by exact ⟨⟨ha0.1, ha0.2⟩, ⟨⟨ha2.1, ha2.2⟩, h101⟩⟩) (fun a102 la102 ua102 ha102 => ?_)
    refine j_callSj C (d := 27) (As := [.long (sJ a2), .long (sJ a102)]) (st := []) (s28_X12_common hM0 a2 (by exact ⟨ha2.1, ha2.2⟩) a102 (by exact ⟨la102, ua102⟩) (by omega) (by omega) (by exact h101)) gX12_common_X12_common rfl hdX12_commons (by decide) (Nat.le_of_ble_eq_true rfl) dX12_common_14 rfl (fun r103 M104 h105 => ?_)
    obtain ⟨a107, rfl, rfl, h106⟩ := h105
    exact hret _ _ _ _ dX12_common_17 ⟨a107, rfl, rfl, by exact ⟨h106.1, ⟨h106.2.1, h106.2.2⟩⟩⟩
  · refine j_lload_n C 0 0 dX12_common_6 rfl rfl ?_
    refine j_goto C 17 dX12_common_7 (by decide) ?_
    exact hret _ _ _ _ dX12_common_17 ⟨a0, rfl, rfl, by exact ⟨ha0.1, ⟨ha0.2, hp2⟩⟩⟩
set_option maxHeartbeats 4000000 in
theorem s30_X12_common {l : Launch} {dC : Nat → ClassId} {dI : Nat → Nat → Nat} {ad : Nat → Nat} {cA : Nat → ClassId} {pr : Nat → Nat → Bool} {Kz : mm_M} {M0 : mm_M} (hM0 : INV pr Kz M0) (a0 : Int) (ha0 : -9223372036854775808 ≤ a0 ∧ a0 ≤ 9223372036854775807) (a2 : Int) (ha2 : -9223372036854775808 ≤ a2 ∧ a2 ≤ 9223372036854775807) (hp0 : (a2).natAbs < 832040 ∨ (a0).natAbs < 1346269) (hp1 : (a2).natAbs ≤ (a0).natAbs) (hp2 : ¬ a0 = 0) : Cj l 29 yX12_common wsX12_common dC dI ad cA [.long (sJ a0), .long (sJ a2)] M0 (fun r M' => ∃ a : Int, r = sJ a ∧ M0 = M' ∧ (-9223372036854775808) ≤ a ∧ a ≤ 9223372036854775807 ∧ (¬ a = 0)) := by
  refine cj_of (cc := cX12_common) (maxL := 4) (lv := [(0, .long (sJ a0)), (2, .long (sJ a2))]) (by decide) rfl (Nat.le_of_ble_eq_true rfl) rfl ?_
  intro p e s m args below meth c A Q C hret
  refine j_lload_n C 1 2 dX12_common_0 rfl rfl ?_
  refine y_lconst C 0 dX12_common_1 rfl ?_
  refine y_lcmp_ne C 10 dX12_common_2 dX12_common_3 (by decide) (by exact ⟨⟨ha2.1, ha2.2⟩, ⟨(by decide), (by decide)⟩⟩) (fun h101 => ?_) (fun h101 => ?_)
  · refine j_lload_n C 1 2 dX12_common_10 rfl rfl ?_
    refine j_lload_n C 0 0 dX12_common_11 rfl rfl ?_
    refine j_lload_n C 1 2 dX12_common_12 rfl rfl ?_
    refine y_lremA C dX12_common_13 (by exact ⟨⟨ha0.1, ha0.2⟩, ⟨⟨ha2.1, ha2.2⟩, h101⟩⟩) (fun a102 la102 ua102 ha102 => ?_)
    refine j_callSj C (d := 28) (As := [.long (sJ a2), .long (sJ a102)]) (st := []) (s29_X12_common hM0 a2 (by exact ⟨ha2.1, ha2.2⟩) a102 (by exact ⟨la102, ua102⟩) (by omega) (by omega) (by exact h101)) gX12_common_X12_common rfl hdX12_commons (by decide) (Nat.le_of_ble_eq_true rfl) dX12_common_14 rfl (fun r103 M104 h105 => ?_)
    obtain ⟨a107, rfl, rfl, h106⟩ := h105
    exact hret _ _ _ _ dX12_common_17 ⟨a107, rfl, rfl, by exact ⟨h106.1, ⟨h106.2.1, h106.2.2⟩⟩⟩
  · refine j_lload_n C 0 0 dX12_common_6 rfl rfl ?_
    refine j_goto C 17 dX12_common_7 (by decide) ?_
    exact hret _ _ _ _ dX12_common_17 ⟨a0, rfl, rfl, by exact ⟨ha0.1, ⟨ha0.2, hp2⟩⟩⟩
set_option maxHeartbeats 4000000 in
theorem s31_X12_common {l : Launch} {dC : Nat → ClassId} {dI : Nat → Nat → Nat} {ad : Nat → Nat} {cA : Nat → ClassId} {pr : Nat → Nat → Bool} {Kz : mm_M} {M0 : mm_M} (hM0 : INV pr Kz M0) (a0 : Int) (ha0 : -9223372036854775808 ≤ a0 ∧ a0 ≤ 9223372036854775807) (a2 : Int) (ha2 : -9223372036854775808 ≤ a2 ∧ a2 ≤ 9223372036854775807) (hp0 : (a2).natAbs < 1346269 ∨ (a0).natAbs < 2178309) (hp1 : (a2).natAbs ≤ (a0).natAbs) (hp2 : ¬ a0 = 0) : Cj l 30 yX12_common wsX12_common dC dI ad cA [.long (sJ a0), .long (sJ a2)] M0 (fun r M' => ∃ a : Int, r = sJ a ∧ M0 = M' ∧ (-9223372036854775808) ≤ a ∧ a ≤ 9223372036854775807 ∧ (¬ a = 0)) := by
  refine cj_of (cc := cX12_common) (maxL := 4) (lv := [(0, .long (sJ a0)), (2, .long (sJ a2))]) (by decide) rfl (Nat.le_of_ble_eq_true rfl) rfl ?_
  intro p e s m args below meth c A Q C hret
  refine j_lload_n C 1 2 dX12_common_0 rfl rfl ?_
  refine y_lconst C 0 dX12_common_1 rfl ?_
  refine y_lcmp_ne C 10 dX12_common_2 dX12_common_3 (by decide) (by exact ⟨⟨ha2.1, ha2.2⟩, ⟨(by decide), (by decide)⟩⟩) (fun h101 => ?_) (fun h101 => ?_)
  · refine j_lload_n C 1 2 dX12_common_10 rfl rfl ?_
    refine j_lload_n C 0 0 dX12_common_11 rfl rfl ?_
    refine j_lload_n C 1 2 dX12_common_12 rfl rfl ?_
    refine y_lremA C dX12_common_13 (by exact ⟨⟨ha0.1, ha0.2⟩, ⟨⟨ha2.1, ha2.2⟩, h101⟩⟩) (fun a102 la102 ua102 ha102 => ?_)
    refine j_callSj C (d := 29) (As := [.long (sJ a2), .long (sJ a102)]) (st := []) (s30_X12_common hM0 a2 (by exact ⟨ha2.1, ha2.2⟩) a102 (by exact ⟨la102, ua102⟩) (by omega) (by omega) (by exact h101)) gX12_common_X12_common rfl hdX12_commons (by decide) (Nat.le_of_ble_eq_true rfl) dX12_common_14 rfl (fun r103 M104 h105 => ?_)
    obtain ⟨a107, rfl, rfl, h106⟩ := h105
    exact hret _ _ _ _ dX12_common_17 ⟨a107, rfl, rfl, by exact ⟨h106.1, ⟨h106.2.1, h106.2.2⟩⟩⟩
  · refine j_lload_n C 0 0 dX12_common_6 rfl rfl ?_
    refine j_goto C 17 dX12_common_7 (by decide) ?_
    exact hret _ _ _ _ dX12_common_17 ⟨a0, rfl, rfl, by exact ⟨ha0.1, ⟨ha0.2, hp2⟩⟩⟩
set_option maxHeartbeats 4000000 in
theorem s32_X12_common {l : Launch} {dC : Nat → ClassId} {dI : Nat → Nat → Nat} {ad : Nat → Nat} {cA : Nat → ClassId} {pr : Nat → Nat → Bool} {Kz : mm_M} {M0 : mm_M} (hM0 : INV pr Kz M0) (a0 : Int) (ha0 : -9223372036854775808 ≤ a0 ∧ a0 ≤ 9223372036854775807) (a2 : Int) (ha2 : -9223372036854775808 ≤ a2 ∧ a2 ≤ 9223372036854775807) (hp0 : (a2).natAbs < 2178309 ∨ (a0).natAbs < 3524578) (hp1 : (a2).natAbs ≤ (a0).natAbs) (hp2 : ¬ a0 = 0) : Cj l 31 yX12_common wsX12_common dC dI ad cA [.long (sJ a0), .long (sJ a2)] M0 (fun r M' => ∃ a : Int, r = sJ a ∧ M0 = M' ∧ (-9223372036854775808) ≤ a ∧ a ≤ 9223372036854775807 ∧ (¬ a = 0)) := by
  refine cj_of (cc := cX12_common) (maxL := 4) (lv := [(0, .long (sJ a0)), (2, .long (sJ a2))]) (by decide) rfl (Nat.le_of_ble_eq_true rfl) rfl ?_
  intro p e s m args below meth c A Q C hret
  refine j_lload_n C 1 2 dX12_common_0 rfl rfl ?_
  refine y_lconst C 0 dX12_common_1 rfl ?_
  refine y_lcmp_ne C 10 dX12_common_2 dX12_common_3 (by decide) (by exact ⟨⟨ha2.1, ha2.2⟩, ⟨(by decide), (by decide)⟩⟩) (fun h101 => ?_) (fun h101 => ?_)
  · refine j_lload_n C 1 2 dX12_common_10 rfl rfl ?_
    refine j_lload_n C 0 0 dX12_common_11 rfl rfl ?_
    refine j_lload_n C 1 2 dX12_common_12 rfl rfl ?_
    refine y_lremA C dX12_common_13 (by exact ⟨⟨ha0.1, ha0.2⟩, ⟨⟨ha2.1, ha2.2⟩, h101⟩⟩) (fun a102 la102 ua102 ha102 => ?_)
    refine j_callSj C (d := 30) (As := [.long (sJ a2), .long (sJ a102)]) (st := []) (s31_X12_common hM0 a2 (by exact ⟨ha2.1, ha2.2⟩) a102 (by exact ⟨la102, ua102⟩) (by omega) (by omega) (by exact h101)) gX12_common_X12_common rfl hdX12_commons (by decide) (Nat.le_of_ble_eq_true rfl) dX12_common_14 rfl (fun r103 M104 h105 => ?_)
    obtain ⟨a107, rfl, rfl, h106⟩ := h105
    exact hret _ _ _ _ dX12_common_17 ⟨a107, rfl, rfl, by exact ⟨h106.1, ⟨h106.2.1, h106.2.2⟩⟩⟩
  · refine j_lload_n C 0 0 dX12_common_6 rfl rfl ?_
    refine j_goto C 17 dX12_common_7 (by decide) ?_
    exact hret _ _ _ _ dX12_common_17 ⟨a0, rfl, rfl, by exact ⟨ha0.1, ⟨ha0.2, hp2⟩⟩⟩
set_option maxHeartbeats 4000000 in
theorem s33_X12_common {l : Launch} {dC : Nat → ClassId} {dI : Nat → Nat → Nat} {ad : Nat → Nat} {cA : Nat → ClassId} {pr : Nat → Nat → Bool} {Kz : mm_M} {M0 : mm_M} (hM0 : INV pr Kz M0) (a0 : Int) (ha0 : -9223372036854775808 ≤ a0 ∧ a0 ≤ 9223372036854775807) (a2 : Int) (ha2 : -9223372036854775808 ≤ a2 ∧ a2 ≤ 9223372036854775807) (hp0 : (a2).natAbs < 3524578 ∨ (a0).natAbs < 5702887) (hp1 : (a2).natAbs ≤ (a0).natAbs) (hp2 : ¬ a0 = 0) : Cj l 32 yX12_common wsX12_common dC dI ad cA [.long (sJ a0), .long (sJ a2)] M0 (fun r M' => ∃ a : Int, r = sJ a ∧ M0 = M' ∧ (-9223372036854775808) ≤ a ∧ a ≤ 9223372036854775807 ∧ (¬ a = 0)) := by
  refine cj_of (cc := cX12_common) (maxL := 4) (lv := [(0, .long (sJ a0)), (2, .long (sJ a2))]) (by decide) rfl (Nat.le_of_ble_eq_true rfl) rfl ?_
  intro p e s m args below meth c A Q C hret
  refine j_lload_n C 1 2 dX12_common_0 rfl rfl ?_
  refine y_lconst C 0 dX12_common_1 rfl ?_
  refine y_lcmp_ne C 10 dX12_common_2 dX12_common_3 (by decide) (by exact ⟨⟨ha2.1, ha2.2⟩, ⟨(by decide), (by decide)⟩⟩) (fun h101 => ?_) (fun h101 => ?_)
  · refine j_lload_n C 1 2 dX12_common_10 rfl rfl ?_
    refine j_lload_n C 0 0 dX12_common_11 rfl rfl ?_
    refine j_lload_n C 1 2 dX12_common_12 rfl rfl ?_
    refine y_lremA C dX12_common_13 (by exact ⟨⟨ha0.1, ha0.2⟩, ⟨⟨ha2.1, ha2.2⟩, h101⟩⟩) (fun a102 la102 ua102 ha102 => ?_)
    refine j_callSj C (d := 31) (As := [.long (sJ a2), .long (sJ a102)]) (st := []) (s32_X12_common hM0 a2 (by exact ⟨ha2.1, ha2.2⟩) a102 (by exact ⟨la102, ua102⟩) (by omega) (by omega) (by exact h101)) gX12_common_X12_common rfl hdX12_commons (by decide) (Nat.le_of_ble_eq_true rfl) dX12_common_14 rfl (fun r103 M104 h105 => ?_)
    obtain ⟨a107, rfl, rfl, h106⟩ := h105
    exact hret _ _ _ _ dX12_common_17 ⟨a107, rfl, rfl, by exact ⟨h106.1, ⟨h106.2.1, h106.2.2⟩⟩⟩
  · refine j_lload_n C 0 0 dX12_common_6 rfl rfl ?_
    refine j_goto C 17 dX12_common_7 (by decide) ?_
    exact hret _ _ _ _ dX12_common_17 ⟨a0, rfl, rfl, by exact ⟨ha0.1, ⟨ha0.2, hp2⟩⟩⟩
set_option maxHeartbeats 4000000 in
theorem s34_X12_common {l : Launch} {dC : Nat → ClassId} {dI : Nat → Nat → Nat} {ad : Nat → Nat} {cA : Nat → ClassId} {pr : Nat → Nat → Bool} {Kz : mm_M} {M0 : mm_M} (hM0 : INV pr Kz M0) (a0 : Int) (ha0 : -9223372036854775808 ≤ a0 ∧ a0 ≤ 9223372036854775807) (a2 : Int) (ha2 : -9223372036854775808 ≤ a2 ∧ a2 ≤ 9223372036854775807) (hp0 : (a2).natAbs < 5702887 ∨ (a0).natAbs < 9227465) (hp1 : (a2).natAbs ≤ (a0).natAbs) (hp2 : ¬ a0 = 0) : Cj l 33 yX12_common wsX12_common dC dI ad cA [.long (sJ a0), .long (sJ a2)] M0 (fun r M' => ∃ a : Int, r = sJ a ∧ M0 = M' ∧ (-9223372036854775808) ≤ a ∧ a ≤ 9223372036854775807 ∧ (¬ a = 0)) := by
  refine cj_of (cc := cX12_common) (maxL := 4) (lv := [(0, .long (sJ a0)), (2, .long (sJ a2))]) (by decide) rfl (Nat.le_of_ble_eq_true rfl) rfl ?_
  intro p e s m args below meth c A Q C hret
  refine j_lload_n C 1 2 dX12_common_0 rfl rfl ?_
  refine y_lconst C 0 dX12_common_1 rfl ?_
  refine y_lcmp_ne C 10 dX12_common_2 dX12_common_3 (by decide) (by exact ⟨⟨ha2.1, ha2.2⟩, ⟨(by decide), (by decide)⟩⟩) (fun h101 => ?_) (fun h101 => ?_)
  · refine j_lload_n C 1 2 dX12_common_10 rfl rfl ?_
    refine j_lload_n C 0 0 dX12_common_11 rfl rfl ?_
    refine j_lload_n C 1 2 dX12_common_12 rfl rfl ?_
    refine y_lremA C dX12_common_13 (by exact ⟨⟨ha0.1, ha0.2⟩, ⟨⟨ha2.1, ha2.2⟩, h101⟩⟩) (fun a102 la102 ua102 ha102 => ?_)
    refine j_callSj C (d := 32) (As := [.long (sJ a2), .long (sJ a102)]) (st := []) (s33_X12_common hM0 a2 (by exact ⟨ha2.1, ha2.2⟩) a102 (by exact ⟨la102, ua102⟩) (by omega) (by omega) (by exact h101)) gX12_common_X12_common rfl hdX12_commons (by decide) (Nat.le_of_ble_eq_true rfl) dX12_common_14 rfl (fun r103 M104 h105 => ?_)
    obtain ⟨a107, rfl, rfl, h106⟩ := h105
    exact hret _ _ _ _ dX12_common_17 ⟨a107, rfl, rfl, by exact ⟨h106.1, ⟨h106.2.1, h106.2.2⟩⟩⟩
  · refine j_lload_n C 0 0 dX12_common_6 rfl rfl ?_
    refine j_goto C 17 dX12_common_7 (by decide) ?_
    exact hret _ _ _ _ dX12_common_17 ⟨a0, rfl, rfl, by exact ⟨ha0.1, ⟨ha0.2, hp2⟩⟩⟩
set_option maxHeartbeats 4000000 in
theorem s35_X12_common {l : Launch} {dC : Nat → ClassId} {dI : Nat → Nat → Nat} {ad : Nat → Nat} {cA : Nat → ClassId} {pr : Nat → Nat → Bool} {Kz : mm_M} {M0 : mm_M} (hM0 : INV pr Kz M0) (a0 : Int) (ha0 : -9223372036854775808 ≤ a0 ∧ a0 ≤ 9223372036854775807) (a2 : Int) (ha2 : -9223372036854775808 ≤ a2 ∧ a2 ≤ 9223372036854775807) (hp0 : (a2).natAbs < 9227465 ∨ (a0).natAbs < 14930352) (hp1 : (a2).natAbs ≤ (a0).natAbs) (hp2 : ¬ a0 = 0) : Cj l 34 yX12_common wsX12_common dC dI ad cA [.long (sJ a0), .long (sJ a2)] M0 (fun r M' => ∃ a : Int, r = sJ a ∧ M0 = M' ∧ (-9223372036854775808) ≤ a ∧ a ≤ 9223372036854775807 ∧ (¬ a = 0)) := by
  refine cj_of (cc := cX12_common) (maxL := 4) (lv := [(0, .long (sJ a0)), (2, .long (sJ a2))]) (by decide) rfl (Nat.le_of_ble_eq_true rfl) rfl ?_
  intro p e s m args below meth c A Q C hret
  refine j_lload_n C 1 2 dX12_common_0 rfl rfl ?_
  refine y_lconst C 0 dX12_common_1 rfl ?_
  refine y_lcmp_ne C 10 dX12_common_2 dX12_common_3 (by decide) (by exact ⟨⟨ha2.1, ha2.2⟩, ⟨(by decide), (by decide)⟩⟩) (fun h101 => ?_) (fun h101 => ?_)
  · refine j_lload_n C 1 2 dX12_common_10 rfl rfl ?_
    refine j_lload_n C 0 0 dX12_common_11 rfl rfl ?_
    refine j_lload_n C 1 2 dX12_common_12 rfl rfl ?_
    refine y_lremA C dX12_common_13 (by exact ⟨⟨ha0.1, ha0.2⟩, ⟨⟨ha2.1, ha2.2⟩, h101⟩⟩) (fun a102 la102 ua102 ha102 => ?_)
    refine j_callSj C (d := 33) (As := [.long (sJ a2), .long (sJ a102)]) (st := []) (s34_X12_common hM0 a2 (by exact ⟨ha2.1, ha2.2⟩) a102 (by exact ⟨la102, ua102⟩) (by omega) (by omega) (by exact h101)) gX12_common_X12_common rfl hdX12_commons (by decide) (Nat.le_of_ble_eq_true rfl) dX12_common_14 rfl (fun r103 M104 h105 => ?_)
    obtain ⟨a107, rfl, rfl, h106⟩ := h105
    exact hret _ _ _ _ dX12_common_17 ⟨a107, rfl, rfl, by exact ⟨h106.1, ⟨h106.2.1, h106.2.2⟩⟩⟩
  · refine j_lload_n C 0 0 dX12_common_6 rfl rfl ?_
    refine j_goto C 17 dX12_common_7 (by decide) ?_
    exact hret _ _ _ _ dX12_common_17 ⟨a0, rfl, rfl, by exact ⟨ha0.1, ⟨ha0.2, hp2⟩⟩⟩
set_option maxHeartbeats 4000000 in
theorem s36_X12_common {l : Launch} {dC : Nat → ClassId} {dI : Nat → Nat → Nat} {ad : Nat → Nat} {cA : Nat → ClassId} {pr : Nat → Nat → Bool} {Kz : mm_M} {M0 : mm_M} (hM0 : INV pr Kz M0) (a0 : Int) (ha0 : -9223372036854775808 ≤ a0 ∧ a0 ≤ 9223372036854775807) (a2 : Int) (ha2 : -9223372036854775808 ≤ a2 ∧ a2 ≤ 9223372036854775807) (hp0 : (a2).natAbs < 14930352 ∨ (a0).natAbs < 24157817) (hp1 : (a2).natAbs ≤ (a0).natAbs) (hp2 : ¬ a0 = 0) : Cj l 35 yX12_common wsX12_common dC dI ad cA [.long (sJ a0), .long (sJ a2)] M0 (fun r M' => ∃ a : Int, r = sJ a ∧ M0 = M' ∧ (-9223372036854775808) ≤ a ∧ a ≤ 9223372036854775807 ∧ (¬ a = 0)) := by
  refine cj_of (cc := cX12_common) (maxL := 4) (lv := [(0, .long (sJ a0)), (2, .long (sJ a2))]) (by decide) rfl (Nat.le_of_ble_eq_true rfl) rfl ?_
  intro p e s m args below meth c A Q C hret
  refine j_lload_n C 1 2 dX12_common_0 rfl rfl ?_
  refine y_lconst C 0 dX12_common_1 rfl ?_
  refine y_lcmp_ne C 10 dX12_common_2 dX12_common_3 (by decide) (by exact ⟨⟨ha2.1, ha2.2⟩, ⟨(by decide), (by decide)⟩⟩) (fun h101 => ?_) (fun h101 => ?_)
  · refine j_lload_n C 1 2 dX12_common_10 rfl rfl ?_
    refine j_lload_n C 0 0 dX12_common_11 rfl rfl ?_
    refine j_lload_n C 1 2 dX12_common_12 rfl rfl ?_
    refine y_lremA C dX12_common_13 (by exact ⟨⟨ha0.1, ha0.2⟩, ⟨⟨ha2.1, ha2.2⟩, h101⟩⟩) (fun a102 la102 ua102 ha102 => ?_)
    refine j_callSj C (d := 34) (As := [.long (sJ a2), .long (sJ a102)]) (st := []) (s35_X12_common hM0 a2 (by exact ⟨ha2.1, ha2.2⟩) a102 (by exact ⟨la102, ua102⟩) (by omega) (by omega) (by exact h101)) gX12_common_X12_common rfl hdX12_commons (by decide) (Nat.le_of_ble_eq_true rfl) dX12_common_14 rfl (fun r103 M104 h105 => ?_)
    obtain ⟨a107, rfl, rfl, h106⟩ := h105
    exact hret _ _ _ _ dX12_common_17 ⟨a107, rfl, rfl, by exact ⟨h106.1, ⟨h106.2.1, h106.2.2⟩⟩⟩
  · refine j_lload_n C 0 0 dX12_common_6 rfl rfl ?_
    refine j_goto C 17 dX12_common_7 (by decide) ?_
    exact hret _ _ _ _ dX12_common_17 ⟨a0, rfl, rfl, by exact ⟨ha0.1, ⟨ha0.2, hp2⟩⟩⟩
set_option maxHeartbeats 4000000 in
theorem s37_X12_common {l : Launch} {dC : Nat → ClassId} {dI : Nat → Nat → Nat} {ad : Nat → Nat} {cA : Nat → ClassId} {pr : Nat → Nat → Bool} {Kz : mm_M} {M0 : mm_M} (hM0 : INV pr Kz M0) (a0 : Int) (ha0 : -9223372036854775808 ≤ a0 ∧ a0 ≤ 9223372036854775807) (a2 : Int) (ha2 : -9223372036854775808 ≤ a2 ∧ a2 ≤ 9223372036854775807) (hp0 : (a2).natAbs < 24157817 ∨ (a0).natAbs < 39088169) (hp1 : (a2).natAbs ≤ (a0).natAbs) (hp2 : ¬ a0 = 0) : Cj l 36 yX12_common wsX12_common dC dI ad cA [.long (sJ a0), .long (sJ a2)] M0 (fun r M' => ∃ a : Int, r = sJ a ∧ M0 = M' ∧ (-9223372036854775808) ≤ a ∧ a ≤ 9223372036854775807 ∧ (¬ a = 0)) := by
  refine cj_of (cc := cX12_common) (maxL := 4) (lv := [(0, .long (sJ a0)), (2, .long (sJ a2))]) (by decide) rfl (Nat.le_of_ble_eq_true rfl) rfl ?_
  intro p e s m args below meth c A Q C hret
  refine j_lload_n C 1 2 dX12_common_0 rfl rfl ?_
  refine y_lconst C 0 dX12_common_1 rfl ?_
  refine y_lcmp_ne C 10 dX12_common_2 dX12_common_3 (by decide) (by exact ⟨⟨ha2.1, ha2.2⟩, ⟨(by decide), (by decide)⟩⟩) (fun h101 => ?_) (fun h101 => ?_)
  · refine j_lload_n C 1 2 dX12_common_10 rfl rfl ?_
    refine j_lload_n C 0 0 dX12_common_11 rfl rfl ?_
    refine j_lload_n C 1 2 dX12_common_12 rfl rfl ?_
    refine y_lremA C dX12_common_13 (by exact ⟨⟨ha0.1, ha0.2⟩, ⟨⟨ha2.1, ha2.2⟩, h101⟩⟩) (fun a102 la102 ua102 ha102 => ?_)
    refine j_callSj C (d := 35) (As := [.long (sJ a2), .long (sJ a102)]) (st := []) (s36_X12_common hM0 a2 (by exact ⟨ha2.1, ha2.2⟩) a102 (by exact ⟨la102, ua102⟩) (by omega) (by omega) (by exact h101)) gX12_common_X12_common rfl hdX12_commons (by decide) (Nat.le_of_ble_eq_true rfl) dX12_common_14 rfl (fun r103 M104 h105 => ?_)
    obtain ⟨a107, rfl, rfl, h106⟩ := h105
    exact hret _ _ _ _ dX12_common_17 ⟨a107, rfl, rfl, by exact ⟨h106.1, ⟨h106.2.1, h106.2.2⟩⟩⟩
  · refine j_lload_n C 0 0 dX12_common_6 rfl rfl ?_
    refine j_goto C 17 dX12_common_7 (by decide) ?_
    exact hret _ _ _ _ dX12_common_17 ⟨a0, rfl, rfl, by exact ⟨ha0.1, ⟨ha0.2, hp2⟩⟩⟩
set_option maxHeartbeats 4000000 in
theorem s38_X12_common {l : Launch} {dC : Nat → ClassId} {dI : Nat → Nat → Nat} {ad : Nat → Nat} {cA : Nat → ClassId} {pr : Nat → Nat → Bool} {Kz : mm_M} {M0 : mm_M} (hM0 : INV pr Kz M0) (a0 : Int) (ha0 : -9223372036854775808 ≤ a0 ∧ a0 ≤ 9223372036854775807) (a2 : Int) (ha2 : -9223372036854775808 ≤ a2 ∧ a2 ≤ 9223372036854775807) (hp0 : (a2).natAbs < 39088169 ∨ (a0).natAbs < 63245986) (hp1 : (a2).natAbs ≤ (a0).natAbs) (hp2 : ¬ a0 = 0) : Cj l 37 yX12_common wsX12_common dC dI ad cA [.long (sJ a0), .long (sJ a2)] M0 (fun r M' => ∃ a : Int, r = sJ a ∧ M0 = M' ∧ (-9223372036854775808) ≤ a ∧ a ≤ 9223372036854775807 ∧ (¬ a = 0)) := by
  refine cj_of (cc := cX12_common) (maxL := 4) (lv := [(0, .long (sJ a0)), (2, .long (sJ a2))]) (by decide) rfl (Nat.le_of_ble_eq_true rfl) rfl ?_
  intro p e s m args below meth c A Q C hret
  refine j_lload_n C 1 2 dX12_common_0 rfl rfl ?_
  refine y_lconst C 0 dX12_common_1 rfl ?_
  refine y_lcmp_ne C 10 dX12_common_2 dX12_common_3 (by decide) (by exact ⟨⟨ha2.1, ha2.2⟩, ⟨(by decide), (by decide)⟩⟩) (fun h101 => ?_) (fun h101 => ?_)
  · refine j_lload_n C 1 2 dX12_common_10 rfl rfl ?_
    refine j_lload_n C 0 0 dX12_common_11 rfl rfl ?_
    refine j_lload_n C 1 2 dX12_common_12 rfl rfl ?_
    refine y_lremA C dX12_common_13 (by exact ⟨⟨ha0.1, ha0.2⟩, ⟨⟨ha2.1, ha2.2⟩, h101⟩⟩) (fun a102 la102 ua102 ha102 => ?_)
    refine j_callSj C (d := 36) (As := [.long (sJ a2), .long (sJ a102)]) (st := []) (s37_X12_common hM0 a2 (by exact ⟨ha2.1, ha2.2⟩) a102 (by exact ⟨la102, ua102⟩) (by omega) (by omega) (by exact h101)) gX12_common_X12_common rfl hdX12_commons (by decide) (Nat.le_of_ble_eq_true rfl) dX12_common_14 rfl (fun r103 M104 h105 => ?_)
    obtain ⟨a107, rfl, rfl, h106⟩ := h105
    exact hret _ _ _ _ dX12_common_17 ⟨a107, rfl, rfl, by exact ⟨h106.1, ⟨h106.2.1, h106.2.2⟩⟩⟩
  · refine j_lload_n C 0 0 dX12_common_6 rfl rfl ?_
    refine j_goto C 17 dX12_common_7 (by decide) ?_
    exact hret _ _ _ _ dX12_common_17 ⟨a0, rfl, rfl, by exact ⟨ha0.1, ⟨ha0.2, hp2⟩⟩⟩
set_option maxHeartbeats 4000000 in
theorem s39_X12_common {l : Launch} {dC : Nat → ClassId} {dI : Nat → Nat → Nat} {ad : Nat → Nat} {cA : Nat → ClassId} {pr : Nat → Nat → Bool} {Kz : mm_M} {M0 : mm_M} (hM0 : INV pr Kz M0) (a0 : Int) (ha0 : -9223372036854775808 ≤ a0 ∧ a0 ≤ 9223372036854775807) (a2 : Int) (ha2 : -9223372036854775808 ≤ a2 ∧ a2 ≤ 9223372036854775807) (hp0 : (a2).natAbs < 63245986 ∨ (a0).natAbs < 102334155) (hp1 : (a2).natAbs ≤ (a0).natAbs) (hp2 : ¬ a0 = 0) : Cj l 38 yX12_common wsX12_common dC dI ad cA [.long (sJ a0), .long (sJ a2)] M0 (fun r M' => ∃ a : Int, r = sJ a ∧ M0 = M' ∧ (-9223372036854775808) ≤ a ∧ a ≤ 9223372036854775807 ∧ (¬ a = 0)) := by
  refine cj_of (cc := cX12_common) (maxL := 4) (lv := [(0, .long (sJ a0)), (2, .long (sJ a2))]) (by decide) rfl (Nat.le_of_ble_eq_true rfl) rfl ?_
  intro p e s m args below meth c A Q C hret
  refine j_lload_n C 1 2 dX12_common_0 rfl rfl ?_
  refine y_lconst C 0 dX12_common_1 rfl ?_
  refine y_lcmp_ne C 10 dX12_common_2 dX12_common_3 (by decide) (by exact ⟨⟨ha2.1, ha2.2⟩, ⟨(by decide), (by decide)⟩⟩) (fun h101 => ?_) (fun h101 => ?_)
  · refine j_lload_n C 1 2 dX12_common_10 rfl rfl ?_
    refine j_lload_n C 0 0 dX12_common_11 rfl rfl ?_
    refine j_lload_n C 1 2 dX12_common_12 rfl rfl ?_
    refine y_lremA C dX12_common_13 (by exact ⟨⟨ha0.1, ha0.2⟩, ⟨⟨ha2.1, ha2.2⟩, h101⟩⟩) (fun a102 la102 ua102 ha102 => ?_)
    refine j_callSj C (d := 37) (As := [.long (sJ a2), .long (sJ a102)]) (st := []) (s38_X12_common hM0 a2 (by exact ⟨ha2.1, ha2.2⟩) a102 (by exact ⟨la102, ua102⟩) (by omega) (by omega) (by exact h101)) gX12_common_X12_common rfl hdX12_commons (by decide) (Nat.le_of_ble_eq_true rfl) dX12_common_14 rfl (fun r103 M104 h105 => ?_)
    obtain ⟨a107, rfl, rfl, h106⟩ := h105
    exact hret _ _ _ _ dX12_common_17 ⟨a107, rfl, rfl, by exact ⟨h106.1, ⟨h106.2.1, h106.2.2⟩⟩⟩
  · refine j_lload_n C 0 0 dX12_common_6 rfl rfl ?_
    refine j_goto C 17 dX12_common_7 (by decide) ?_
    exact hret _ _ _ _ dX12_common_17 ⟨a0, rfl, rfl, by exact ⟨ha0.1, ⟨ha0.2, hp2⟩⟩⟩
set_option maxHeartbeats 4000000 in
theorem s40_X12_common {l : Launch} {dC : Nat → ClassId} {dI : Nat → Nat → Nat} {ad : Nat → Nat} {cA : Nat → ClassId} {pr : Nat → Nat → Bool} {Kz : mm_M} {M0 : mm_M} (hM0 : INV pr Kz M0) (a0 : Int) (ha0 : -9223372036854775808 ≤ a0 ∧ a0 ≤ 9223372036854775807) (a2 : Int) (ha2 : -9223372036854775808 ≤ a2 ∧ a2 ≤ 9223372036854775807) (hp0 : (a2).natAbs < 102334155 ∨ (a0).natAbs < 165580141) (hp1 : (a2).natAbs ≤ (a0).natAbs) (hp2 : ¬ a0 = 0) : Cj l 39 yX12_common wsX12_common dC dI ad cA [.long (sJ a0), .long (sJ a2)] M0 (fun r M' => ∃ a : Int, r = sJ a ∧ M0 = M' ∧ (-9223372036854775808) ≤ a ∧ a ≤ 9223372036854775807 ∧ (¬ a = 0)) := by
  refine cj_of (cc := cX12_common) (maxL := 4) (lv := [(0, .long (sJ a0)), (2, .long (sJ a2))]) (by decide) rfl (Nat.le_of_ble_eq_true rfl) rfl ?_
  intro p e s m args below meth c A Q C hret
  refine j_lload_n C 1 2 dX12_common_0 rfl rfl ?_
  refine y_lconst C 0 dX12_common_1 rfl ?_
  refine y_lcmp_ne C 10 dX12_common_2 dX12_common_3 (by decide) (by exact ⟨⟨ha2.1, ha2.2⟩, ⟨(by decide), (by decide)⟩⟩) (fun h101 => ?_) (fun h101 => ?_)
  · refine j_lload_n C 1 2 dX12_common_10 rfl rfl ?_
    refine j_lload_n C 0 0 dX12_common_11 rfl rfl ?_
    refine j_lload_n C 1 2 dX12_common_12 rfl rfl ?_
    refine y_lremA C dX12_common_13 (by exact ⟨⟨ha0.1, ha0.2⟩, ⟨⟨ha2.1, ha2.2⟩, h101⟩⟩) (fun a102 la102 ua102 ha102 => ?_)
    refine j_callSj C (d := 38) (As := [.long (sJ a2), .long (sJ a102)]) (st := []) (s39_X12_common hM0 a2 (by exact ⟨ha2.1, ha2.2⟩) a102 (by exact ⟨la102, ua102⟩) (by omega) (by omega) (by exact h101)) gX12_common_X12_common rfl hdX12_commons (by decide) (Nat.le_of_ble_eq_true rfl) dX12_common_14 rfl (fun r103 M104 h105 => ?_)
    obtain ⟨a107, rfl, rfl, h106⟩ := h105
    exact hret _ _ _ _ dX12_common_17 ⟨a107, rfl, rfl, by exact ⟨h106.1, ⟨h106.2.1, h106.2.2⟩⟩⟩
  · refine j_lload_n C 0 0 dX12_common_6 rfl rfl ?_
    refine j_goto C 17 dX12_common_7 (by decide) ?_
    exact hret _ _ _ _ dX12_common_17 ⟨a0, rfl, rfl, by exact ⟨ha0.1, ⟨ha0.2, hp2⟩⟩⟩
set_option maxHeartbeats 4000000 in
theorem s41_X12_common {l : Launch} {dC : Nat → ClassId} {dI : Nat → Nat → Nat} {ad : Nat → Nat} {cA : Nat → ClassId} {pr : Nat → Nat → Bool} {Kz : mm_M} {M0 : mm_M} (hM0 : INV pr Kz M0) (a0 : Int) (ha0 : -9223372036854775808 ≤ a0 ∧ a0 ≤ 9223372036854775807) (a2 : Int) (ha2 : -9223372036854775808 ≤ a2 ∧ a2 ≤ 9223372036854775807) (hp0 : (a2).natAbs < 165580141 ∨ (a0).natAbs < 267914296) (hp1 : (a2).natAbs ≤ (a0).natAbs) (hp2 : ¬ a0 = 0) : Cj l 40 yX12_common wsX12_common dC dI ad cA [.long (sJ a0), .long (sJ a2)] M0 (fun r M' => ∃ a : Int, r = sJ a ∧ M0 = M' ∧ (-9223372036854775808) ≤ a ∧ a ≤ 9223372036854775807 ∧ (¬ a = 0)) := by
  refine cj_of (cc := cX12_common) (maxL := 4) (lv := [(0, .long (sJ a0)), (2, .long (sJ a2))]) (by decide) rfl (Nat.le_of_ble_eq_true rfl) rfl ?_
  intro p e s m args below meth c A Q C hret
  refine j_lload_n C 1 2 dX12_common_0 rfl rfl ?_
  refine y_lconst C 0 dX12_common_1 rfl ?_
  refine y_lcmp_ne C 10 dX12_common_2 dX12_common_3 (by decide) (by exact ⟨⟨ha2.1, ha2.2⟩, ⟨(by decide), (by decide)⟩⟩) (fun h101 => ?_) (fun h101 => ?_)
  · refine j_lload_n C 1 2 dX12_common_10 rfl rfl ?_
    refine j_lload_n C 0 0 dX12_common_11 rfl rfl ?_
    refine j_lload_n C 1 2 dX12_common_12 rfl rfl ?_
    refine y_lremA C dX12_common_13 (by exact ⟨⟨ha0.1, ha0.2⟩, ⟨⟨ha2.1, ha2.2⟩, h101⟩⟩) (fun a102 la102 ua102 ha102 => ?_)
    refine j_callSj C (d := 39) (As := [.long (sJ a2), .long (sJ a102)]) (st := []) (s40_X12_common hM0 a2 (by exact ⟨ha2.1, ha2.2⟩) a102 (by exact ⟨la102, ua102⟩) (by omega) (by omega) (by exact h101)) gX12_common_X12_common rfl hdX12_commons (by decide) (Nat.le_of_ble_eq_true rfl) dX12_common_14 rfl (fun r103 M104 h105 => ?_)
    obtain ⟨a107, rfl, rfl, h106⟩ := h105
    exact hret _ _ _ _ dX12_common_17 ⟨a107, rfl, rfl, by exact ⟨h106.1, ⟨h106.2.1, h106.2.2⟩⟩⟩
  · refine j_lload_n C 0 0 dX12_common_6 rfl rfl ?_
    refine j_goto C 17 dX12_common_7 (by decide) ?_
    exact hret _ _ _ _ dX12_common_17 ⟨a0, rfl, rfl, by exact ⟨ha0.1, ⟨ha0.2, hp2⟩⟩⟩
set_option maxHeartbeats 4000000 in
theorem s42_X12_common {l : Launch} {dC : Nat → ClassId} {dI : Nat → Nat → Nat} {ad : Nat → Nat} {cA : Nat → ClassId} {pr : Nat → Nat → Bool} {Kz : mm_M} {M0 : mm_M} (hM0 : INV pr Kz M0) (a0 : Int) (ha0 : -9223372036854775808 ≤ a0 ∧ a0 ≤ 9223372036854775807) (a2 : Int) (ha2 : -9223372036854775808 ≤ a2 ∧ a2 ≤ 9223372036854775807) (hp0 : (a2).natAbs < 267914296 ∨ (a0).natAbs < 433494437) (hp1 : (a2).natAbs ≤ (a0).natAbs) (hp2 : ¬ a0 = 0) : Cj l 41 yX12_common wsX12_common dC dI ad cA [.long (sJ a0), .long (sJ a2)] M0 (fun r M' => ∃ a : Int, r = sJ a ∧ M0 = M' ∧ (-9223372036854775808) ≤ a ∧ a ≤ 9223372036854775807 ∧ (¬ a = 0)) := by
  refine cj_of (cc := cX12_common) (maxL := 4) (lv := [(0, .long (sJ a0)), (2, .long (sJ a2))]) (by decide) rfl (Nat.le_of_ble_eq_true rfl) rfl ?_
  intro p e s m args below meth c A Q C hret
  refine j_lload_n C 1 2 dX12_common_0 rfl rfl ?_
  refine y_lconst C 0 dX12_common_1 rfl ?_
  refine y_lcmp_ne C 10 dX12_common_2 dX12_common_3 (by decide) (by exact ⟨⟨ha2.1, ha2.2⟩, ⟨(by decide), (by decide)⟩⟩) (fun h101 => ?_) (fun h101 => ?_)
  · refine j_lload_n C 1 2 dX12_common_10 rfl rfl ?_
    refine j_lload_n C 0 0 dX12_common_11 rfl rfl ?_
    refine j_lload_n C 1 2 dX12_common_12 rfl rfl ?_
    refine y_lremA C dX12_common_13 (by exact ⟨⟨ha0.1, ha0.2⟩, ⟨⟨ha2.1, ha2.2⟩, h101⟩⟩) (fun a102 la102 ua102 ha102 => ?_)
    refine j_callSj C (d := 40) (As := [.long (sJ a2), .long (sJ a102)]) (st := []) (s41_X12_common hM0 a2 (by exact ⟨ha2.1, ha2.2⟩) a102 (by exact ⟨la102, ua102⟩) (by omega) (by omega) (by exact h101)) gX12_common_X12_common rfl hdX12_commons (by decide) (Nat.le_of_ble_eq_true rfl) dX12_common_14 rfl (fun r103 M104 h105 => ?_)
    obtain ⟨a107, rfl, rfl, h106⟩ := h105
    exact hret _ _ _ _ dX12_common_17 ⟨a107, rfl, rfl, by exact ⟨h106.1, ⟨h106.2.1, h106.2.2⟩⟩⟩
  · refine j_lload_n C 0 0 dX12_common_6 rfl rfl ?_
    refine j_goto C 17 dX12_common_7 (by decide) ?_
    exact hret _ _ _ _ dX12_common_17 ⟨a0, rfl, rfl, by exact ⟨ha0.1, ⟨ha0.2, hp2⟩⟩⟩
set_option maxHeartbeats 4000000 in
theorem s43_X12_common {l : Launch} {dC : Nat → ClassId} {dI : Nat → Nat → Nat} {ad : Nat → Nat} {cA : Nat → ClassId} {pr : Nat → Nat → Bool} {Kz : mm_M} {M0 : mm_M} (hM0 : INV pr Kz M0) (a0 : Int) (ha0 : -9223372036854775808 ≤ a0 ∧ a0 ≤ 9223372036854775807) (a2 : Int) (ha2 : -9223372036854775808 ≤ a2 ∧ a2 ≤ 9223372036854775807) (hp0 : (a2).natAbs < 433494437 ∨ (a0).natAbs < 701408733) (hp1 : (a2).natAbs ≤ (a0).natAbs) (hp2 : ¬ a0 = 0) : Cj l 42 yX12_common wsX12_common dC dI ad cA [.long (sJ a0), .long (sJ a2)] M0 (fun r M' => ∃ a : Int, r = sJ a ∧ M0 = M' ∧ (-9223372036854775808) ≤ a ∧ a ≤ 9223372036854775807 ∧ (¬ a = 0)) := by
  refine cj_of (cc := cX12_common) (maxL := 4) (lv := [(0, .long (sJ a0)), (2, .long (sJ a2))]) (by decide) rfl (Nat.le_of_ble_eq_true rfl) rfl ?_
  intro p e s m args below meth c A Q C hret
  refine j_lload_n C 1 2 dX12_common_0 rfl rfl ?_
  refine y_lconst C 0 dX12_common_1 rfl ?_
  refine y_lcmp_ne C 10 dX12_common_2 dX12_common_3 (by decide) (by exact ⟨⟨ha2.1, ha2.2⟩, ⟨(by decide), (by decide)⟩⟩) (fun h101 => ?_) (fun h101 => ?_)
  · refine j_lload_n C 1 2 dX12_common_10 rfl rfl ?_
    refine j_lload_n C 0 0 dX12_common_11 rfl rfl ?_
    refine j_lload_n C 1 2 dX12_common_12 rfl rfl ?_
    refine y_lremA C dX12_common_13 (by exact ⟨⟨ha0.1, ha0.2⟩, ⟨⟨ha2.1, ha2.2⟩, h101⟩⟩) (fun a102 la102 ua102 ha102 => ?_)
    refine j_callSj C (d := 41) (As := [.long (sJ a2), .long (sJ a102)]) (st := []) (s42_X12_common hM0 a2 (by exact ⟨ha2.1, ha2.2⟩) a102 (by exact ⟨la102, ua102⟩) (by omega) (by omega) (by exact h101)) gX12_common_X12_common rfl hdX12_commons (by decide) (Nat.le_of_ble_eq_true rfl) dX12_common_14 rfl (fun r103 M104 h105 => ?_)
    obtain ⟨a107, rfl, rfl, h106⟩ := h105
    exact hret _ _ _ _ dX12_common_17 ⟨a107, rfl, rfl, by exact ⟨h106.1, ⟨h106.2.1, h106.2.2⟩⟩⟩
  · refine j_lload_n C 0 0 dX12_common_6 rfl rfl ?_
    refine j_goto C 17 dX12_common_7 (by decide) ?_
    exact hret _ _ _ _ dX12_common_17 ⟨a0, rfl, rfl, by exact ⟨ha0.1, ⟨ha0.2, hp2⟩⟩⟩
set_option maxHeartbeats 4000000 in
theorem s44_X12_common {l : Launch} {dC : Nat → ClassId} {dI : Nat → Nat → Nat} {ad : Nat → Nat} {cA : Nat → ClassId} {pr : Nat → Nat → Bool} {Kz : mm_M} {M0 : mm_M} (hM0 : INV pr Kz M0) (a0 : Int) (ha0 : -9223372036854775808 ≤ a0 ∧ a0 ≤ 9223372036854775807) (a2 : Int) (ha2 : -9223372036854775808 ≤ a2 ∧ a2 ≤ 9223372036854775807) (hp0 : (a2).natAbs < 701408733 ∨ (a0).natAbs < 1134903170) (hp1 : (a2).natAbs ≤ (a0).natAbs) (hp2 : ¬ a0 = 0) : Cj l 43 yX12_common wsX12_common dC dI ad cA [.long (sJ a0), .long (sJ a2)] M0 (fun r M' => ∃ a : Int, r = sJ a ∧ M0 = M' ∧ (-9223372036854775808) ≤ a ∧ a ≤ 9223372036854775807 ∧ (¬ a = 0)) := by
  refine cj_of (cc := cX12_common) (maxL := 4) (lv := [(0, .long (sJ a0)), (2, .long (sJ a2))]) (by decide) rfl (Nat.le_of_ble_eq_true rfl) rfl ?_
  intro p e s m args below meth c A Q C hret
  refine j_lload_n C 1 2 dX12_common_0 rfl rfl ?_
  refine y_lconst C 0 dX12_common_1 rfl ?_
  refine y_lcmp_ne C 10 dX12_common_2 dX12_common_3 (by decide) (by exact ⟨⟨ha2.1, ha2.2⟩, ⟨(by decide), (by decide)⟩⟩) (fun h101 => ?_) (fun h101 => ?_)
  · refine j_lload_n C 1 2 dX12_common_10 rfl rfl ?_
    refine j_lload_n C 0 0 dX12_common_11 rfl rfl ?_
    refine j_lload_n C 1 2 dX12_common_12 rfl rfl ?_
    refine y_lremA C dX12_common_13 (by exact ⟨⟨ha0.1, ha0.2⟩, ⟨⟨ha2.1, ha2.2⟩, h101⟩⟩) (fun a102 la102 ua102 ha102 => ?_)
    refine j_callSj C (d := 42) (As := [.long (sJ a2), .long (sJ a102)]) (st := []) (s43_X12_common hM0 a2 (by exact ⟨ha2.1, ha2.2⟩) a102 (by exact ⟨la102, ua102⟩) (by omega) (by omega) (by exact h101)) gX12_common_X12_common rfl hdX12_commons (by decide) (Nat.le_of_ble_eq_true rfl) dX12_common_14 rfl (fun r103 M104 h105 => ?_)
    obtain ⟨a107, rfl, rfl, h106⟩ := h105
    exact hret _ _ _ _ dX12_common_17 ⟨a107, rfl, rfl, by exact ⟨h106.1, ⟨h106.2.1, h106.2.2⟩⟩⟩
  · refine j_lload_n C 0 0 dX12_common_6 rfl rfl ?_
    refine j_goto C 17 dX12_common_7 (by decide) ?_
    exact hret _ _ _ _ dX12_common_17 ⟨a0, rfl, rfl, by exact ⟨ha0.1, ⟨ha0.2, hp2⟩⟩⟩
set_option maxHeartbeats 4000000 in
theorem s45_X12_common {l : Launch} {dC : Nat → ClassId} {dI : Nat → Nat → Nat} {ad : Nat → Nat} {cA : Nat → ClassId} {pr : Nat → Nat → Bool} {Kz : mm_M} {M0 : mm_M} (hM0 : INV pr Kz M0) (a0 : Int) (ha0 : -9223372036854775808 ≤ a0 ∧ a0 ≤ 9223372036854775807) (a2 : Int) (ha2 : -9223372036854775808 ≤ a2 ∧ a2 ≤ 9223372036854775807) (hp0 : (a2).natAbs < 1134903170 ∨ (a0).natAbs < 1836311903) (hp1 : (a2).natAbs ≤ (a0).natAbs) (hp2 : ¬ a0 = 0) : Cj l 44 yX12_common wsX12_common dC dI ad cA [.long (sJ a0), .long (sJ a2)] M0 (fun r M' => ∃ a : Int, r = sJ a ∧ M0 = M' ∧ (-9223372036854775808) ≤ a ∧ a ≤ 9223372036854775807 ∧ (¬ a = 0)) := by
  refine cj_of (cc := cX12_common) (maxL := 4) (lv := [(0, .long (sJ a0)), (2, .long (sJ a2))]) (by decide) rfl (Nat.le_of_ble_eq_true rfl) rfl ?_
  intro p e s m args below meth c A Q C hret
  refine j_lload_n C 1 2 dX12_common_0 rfl rfl ?_
  refine y_lconst C 0 dX12_common_1 rfl ?_
  refine y_lcmp_ne C 10 dX12_common_2 dX12_common_3 (by decide) (by exact ⟨⟨ha2.1, ha2.2⟩, ⟨(by decide), (by decide)⟩⟩) (fun h101 => ?_) (fun h101 => ?_)
  · refine j_lload_n C 1 2 dX12_common_10 rfl rfl ?_
    refine j_lload_n C 0 0 dX12_common_11 rfl rfl ?_
    refine j_lload_n C 1 2 dX12_common_12 rfl rfl ?_
    refine y_lremA C dX12_common_13 (by exact ⟨⟨ha0.1, ha0.2⟩, ⟨⟨ha2.1, ha2.2⟩, h101⟩⟩) (fun a102 la102 ua102 ha102 => ?_)
    refine j_callSj C (d := 43) (As := [.long (sJ a2), .long (sJ a102)]) (st := []) (s44_X12_common hM0 a2 (by exact ⟨ha2.1, ha2.2⟩) a102 (by exact ⟨la102, ua102⟩) (by omega) (by omega) (by exact h101)) gX12_common_X12_common rfl hdX12_commons (by decide) (Nat.le_of_ble_eq_true rfl) dX12_common_14 rfl (fun r103 M104 h105 => ?_)
    obtain ⟨a107, rfl, rfl, h106⟩ := h105
    exact hret _ _ _ _ dX12_common_17 ⟨a107, rfl, rfl, by exact ⟨h106.1, ⟨h106.2.1, h106.2.2⟩⟩⟩
  · refine j_lload_n C 0 0 dX12_common_6 rfl rfl ?_
    refine j_goto C 17 dX12_common_7 (by decide) ?_
    exact hret _ _ _ _ dX12_common_17 ⟨a0, rfl, rfl, by exact ⟨ha0.1, ⟨ha0.2, hp2⟩⟩⟩
set_option maxHeartbeats 4000000 in
theorem s46_X12_common {l : Launch} {dC : Nat → ClassId} {dI : Nat → Nat → Nat} {ad : Nat → Nat} {cA : Nat → ClassId} {pr : Nat → Nat → Bool} {Kz : mm_M} {M0 : mm_M} (hM0 : INV pr Kz M0) (a0 : Int) (ha0 : -9223372036854775808 ≤ a0 ∧ a0 ≤ 9223372036854775807) (a2 : Int) (ha2 : -9223372036854775808 ≤ a2 ∧ a2 ≤ 9223372036854775807) (hp0 : (a2).natAbs < 1836311903 ∨ (a0).natAbs < 2971215073) (hp1 : (a2).natAbs ≤ (a0).natAbs) (hp2 : ¬ a0 = 0) : Cj l 45 yX12_common wsX12_common dC dI ad cA [.long (sJ a0), .long (sJ a2)] M0 (fun r M' => ∃ a : Int, r = sJ a ∧ M0 = M' ∧ (-9223372036854775808) ≤ a ∧ a ≤ 9223372036854775807 ∧ (¬ a = 0)) := by
  refine cj_of (cc := cX12_common) (maxL := 4) (lv := [(0, .long (sJ a0)), (2, .long (sJ a2))]) (by decide) rfl (Nat.le_of_ble_eq_true rfl) rfl ?_
  intro p e s m args below meth c A Q C hret
  refine j_lload_n C 1 2 dX12_common_0 rfl rfl ?_
  refine y_lconst C 0 dX12_common_1 rfl ?_
  refine y_lcmp_ne C 10 dX12_common_2 dX12_common_3 (by decide) (by exact ⟨⟨ha2.1, ha2.2⟩, ⟨(by decide), (by decide)⟩⟩) (fun h101 => ?_) (fun h101 => ?_)
  · refine j_lload_n C 1 2 dX12_common_10 rfl rfl ?_
    refine j_lload_n C 0 0 dX12_common_11 rfl rfl ?_
    refine j_lload_n C 1 2 dX12_common_12 rfl rfl ?_
    refine y_lremA C dX12_common_13 (by exact ⟨⟨ha0.1, ha0.2⟩, ⟨⟨ha2.1, ha2.2⟩, h101⟩⟩) (fun a102 la102 ua102 ha102 => ?_)
    refine j_callSj C (d := 44) (As := [.long (sJ a2), .long (sJ a102)]) (st := []) (s45_X12_common hM0 a2 (by exact ⟨ha2.1, ha2.2⟩) a102 (by exact ⟨la102, ua102⟩) (by omega) (by omega) (by exact h101)) gX12_common_X12_common rfl hdX12_commons (by decide) (Nat.le_of_ble_eq_true rfl) dX12_common_14 rfl (fun r103 M104 h105 => ?_)
    obtain ⟨a107, rfl, rfl, h106⟩ := h105
    exact hret _ _ _ _ dX12_common_17 ⟨a107, rfl, rfl, by exact ⟨h106.1, ⟨h106.2.1, h106.2.2⟩⟩⟩
  · refine j_lload_n C 0 0 dX12_common_6 rfl rfl ?_
    refine j_goto C 17 dX12_common_7 (by decide) ?_
    exact hret _ _ _ _ dX12_common_17 ⟨a0, rfl, rfl, by exact ⟨ha0.1, ⟨ha0.2, hp2⟩⟩⟩
set_option maxHeartbeats 4000000 in
theorem s47_X12_common {l : Launch} {dC : Nat → ClassId} {dI : Nat → Nat → Nat} {ad : Nat → Nat} {cA : Nat → ClassId} {pr : Nat → Nat → Bool} {Kz : mm_M} {M0 : mm_M} (hM0 : INV pr Kz M0) (a0 : Int) (ha0 : -9223372036854775808 ≤ a0 ∧ a0 ≤ 9223372036854775807) (a2 : Int) (ha2 : -9223372036854775808 ≤ a2 ∧ a2 ≤ 9223372036854775807) (hp0 : (a2).natAbs < 2971215073 ∨ (a0).natAbs < 4807526976) (hp1 : (a2).natAbs ≤ (a0).natAbs) (hp2 : ¬ a0 = 0) : Cj l 46 yX12_common wsX12_common dC dI ad cA [.long (sJ a0), .long (sJ a2)] M0 (fun r M' => ∃ a : Int, r = sJ a ∧ M0 = M' ∧ (-9223372036854775808) ≤ a ∧ a ≤ 9223372036854775807 ∧ (¬ a = 0)) := by
  refine cj_of (cc := cX12_common) (maxL := 4) (lv := [(0, .long (sJ a0)), (2, .long (sJ a2))]) (by decide) rfl (Nat.le_of_ble_eq_true rfl) rfl ?_
  intro p e s m args below meth c A Q C hret
  refine j_lload_n C 1 2 dX12_common_0 rfl rfl ?_
  refine y_lconst C 0 dX12_common_1 rfl ?_
  refine y_lcmp_ne C 10 dX12_common_2 dX12_common_3 (by decide) (by exact ⟨⟨ha2.1, ha2.2⟩, ⟨(by decide), (by decide)⟩⟩) (fun h101 => ?_) (fun h101 => ?_)
  · refine j_lload_n C 1 2 dX12_common_10 rfl rfl ?_
    refine j_lload_n C 0 0 dX12_common_11 rfl rfl ?_
    refine j_lload_n C 1 2 dX12_common_12 rfl rfl ?_
    refine y_lremA C dX12_common_13 (by exact ⟨⟨ha0.1, ha0.2⟩, ⟨⟨ha2.1, ha2.2⟩, h101⟩⟩) (fun a102 la102 ua102 ha102 => ?_)
    refine j_callSj C (d := 45) (As := [.long (sJ a2), .long (sJ a102)]) (st := []) (s46_X12_common hM0 a2 (by exact ⟨ha2.1, ha2.2⟩) a102 (by exact ⟨la102, ua102⟩) (by omega) (by omega) (by exact h101)) gX12_common_X12_common rfl hdX12_commons (by decide) (Nat.le_of_ble_eq_true rfl) dX12_common_14 rfl (fun r103 M104 h105 => ?_)
    obtain ⟨a107, rfl, rfl, h106⟩ := h105
    exact hret _ _ _ _ dX12_common_17 ⟨a107, rfl, rfl, by exact ⟨h106.1, ⟨h106.2.1, h106.2.2⟩⟩⟩
  · refine j_lload_n C 0 0 dX12_common_6 rfl rfl ?_
    refine j_goto C 17 dX12_common_7 (by decide) ?_
    exact hret _ _ _ _ dX12_common_17 ⟨a0, rfl, rfl, by exact ⟨ha0.1, ⟨ha0.2, hp2⟩⟩⟩
set_option maxHeartbeats 4000000 in
theorem s48_X12_common {l : Launch} {dC : Nat → ClassId} {dI : Nat → Nat → Nat} {ad : Nat → Nat} {cA : Nat → ClassId} {pr : Nat → Nat → Bool} {Kz : mm_M} {M0 : mm_M} (hM0 : INV pr Kz M0) (a0 : Int) (ha0 : -9223372036854775808 ≤ a0 ∧ a0 ≤ 9223372036854775807) (a2 : Int) (ha2 : -9223372036854775808 ≤ a2 ∧ a2 ≤ 9223372036854775807) (hp0 : (a2).natAbs < 4807526976 ∨ (a0).natAbs < 7778742049) (hp1 : (a2).natAbs ≤ (a0).natAbs) (hp2 : ¬ a0 = 0) : Cj l 47 yX12_common wsX12_common dC dI ad cA [.long (sJ a0), .long (sJ a2)] M0 (fun r M' => ∃ a : Int, r = sJ a ∧ M0 = M' ∧ (-9223372036854775808) ≤ a ∧ a ≤ 9223372036854775807 ∧ (¬ a = 0)) := by
  refine cj_of (cc := cX12_common) (maxL := 4) (lv := [(0, .long (sJ a0)), (2, .long (sJ a2))]) (by decide) rfl (Nat.le_of_ble_eq_true rfl) rfl ?_
  intro p e s m args below meth c A Q C hret
  refine j_lload_n C 1 2 dX12_common_0 rfl rfl ?_
  refine y_lconst C 0 dX12_common_1 rfl ?_
  refine y_lcmp_ne C 10 dX12_common_2 dX12_common_3 (by decide) (by exact ⟨⟨ha2.1, ha2.2⟩, ⟨(by decide), (by decide)⟩⟩) (fun h101 => ?_) (fun h101 => ?_)
  · refine j_lload_n C 1 2 dX12_common_10 rfl rfl ?_
    refine j_lload_n C 0 0 dX12_common_11 rfl rfl ?_
    refine j_lload_n C 1 2 dX12_common_12 rfl rfl ?_
    refine y_lremA C dX12_common_13 (by exact ⟨⟨ha0.1, ha0.2⟩, ⟨⟨ha2.1, ha2.2⟩, h101⟩⟩) (fun a102 la102 ua102 ha102 => ?_)
    refine j_callSj C (d := 46) (As := [.long (sJ a2), .long (sJ a102)]) (st := []) (s47_X12_common hM0 a2 (by exact ⟨ha2.1, ha2.2⟩) a102 (by exact ⟨la102, ua102⟩) (by omega) (by omega) (by exact h101)) gX12_common_X12_common rfl hdX12_commons (by decide) (Nat.le_of_ble_eq_true rfl) dX12_common_14 rfl (fun r103 M104 h105 => ?_)
    obtain ⟨a107, rfl, rfl, h106⟩ := h105
    exact hret _ _ _ _ dX12_common_17 ⟨a107, rfl, rfl, by exact ⟨h106.1, ⟨h106.2.1, h106.2.2⟩⟩⟩
  · refine j_lload_n C 0 0 dX12_common_6 rfl rfl ?_
    refine j_goto C 17 dX12_common_7 (by decide) ?_
    exact hret _ _ _ _ dX12_common_17 ⟨a0, rfl, rfl, by exact ⟨ha0.1, ⟨ha0.2, hp2⟩⟩⟩
set_option maxHeartbeats 4000000 in
theorem s49_X12_common {l : Launch} {dC : Nat → ClassId} {dI : Nat → Nat → Nat} {ad : Nat → Nat} {cA : Nat → ClassId} {pr : Nat → Nat → Bool} {Kz : mm_M} {M0 : mm_M} (hM0 : INV pr Kz M0) (a0 : Int) (ha0 : -9223372036854775808 ≤ a0 ∧ a0 ≤ 9223372036854775807) (a2 : Int) (ha2 : -9223372036854775808 ≤ a2 ∧ a2 ≤ 9223372036854775807) (hp0 : (a2).natAbs < 7778742049 ∨ (a0).natAbs < 12586269025) (hp1 : (a2).natAbs ≤ (a0).natAbs) (hp2 : ¬ a0 = 0) : Cj l 48 yX12_common wsX12_common dC dI ad cA [.long (sJ a0), .long (sJ a2)] M0 (fun r M' => ∃ a : Int, r = sJ a ∧ M0 = M' ∧ (-9223372036854775808) ≤ a ∧ a ≤ 9223372036854775807 ∧ (¬ a = 0)) := by
  refine cj_of (cc := cX12_common) (maxL := 4) (lv := [(0, .long (sJ a0)), (2, .long (sJ a2))]) (by decide) rfl (Nat.le_of_ble_eq_true rfl) rfl ?_
  intro p e s m args below meth c A Q C hret
  refine j_lload_n C 1 2 dX12_common_0 rfl rfl ?_
  refine y_lconst C 0 dX12_common_1 rfl ?_
  refine y_lcmp_ne C 10 dX12_common_2 dX12_common_3 (by decide) (by exact ⟨⟨ha2.1, ha2.2⟩, ⟨(by decide), (by decide)⟩⟩) (fun h101 => ?_) (fun h101 => ?_)
  · refine j_lload_n C 1 2 dX12_common_10 rfl rfl ?_
    refine j_lload_n C 0 0 dX12_common_11 rfl rfl ?_
    refine j_lload_n C 1 2 dX12_common_12 rfl rfl ?_
    refine y_lremA C dX12_common_13 (by exact ⟨⟨ha0.1, ha0.2⟩, ⟨⟨ha2.1, ha2.2⟩, h101⟩⟩) (fun a102 la102 ua102 ha102 => ?_)
    refine j_callSj C (d := 47) (As := [.long (sJ a2), .long (sJ a102)]) (st := []) (s48_X12_common hM0 a2 (by exact ⟨ha2.1, ha2.2⟩) a102 (by exact ⟨la102, ua102⟩) (by omega) (by omega) (by exact h101)) gX12_common_X12_common rfl hdX12_commons (by decide) (Nat.le_of_ble_eq_true rfl) dX12_common_14 rfl (fun r103 M104 h105 => ?_)
    obtain ⟨a107, rfl, rfl, h106⟩ := h105
    exact hret _ _ _ _ dX12_common_17 ⟨a107, rfl, rfl, by exact ⟨h106.1, ⟨h106.2.1, h106.2.2⟩⟩⟩
  · refine j_lload_n C 0 0 dX12_common_6 rfl rfl ?_
    refine j_goto C 17 dX12_common_7 (by decide) ?_
    exact hret _ _ _ _ dX12_common_17 ⟨a0, rfl, rfl, by exact ⟨ha0.1, ⟨ha0.2, hp2⟩⟩⟩
set_option maxHeartbeats 4000000 in
theorem s50_X12_common {l : Launch} {dC : Nat → ClassId} {dI : Nat → Nat → Nat} {ad : Nat → Nat} {cA : Nat → ClassId} {pr : Nat → Nat → Bool} {Kz : mm_M} {M0 : mm_M} (hM0 : INV pr Kz M0) (a0 : Int) (ha0 : -9223372036854775808 ≤ a0 ∧ a0 ≤ 9223372036854775807) (a2 : Int) (ha2 : -9223372036854775808 ≤ a2 ∧ a2 ≤ 9223372036854775807) (hp0 : (a2).natAbs < 12586269025 ∨ (a0).natAbs < 20365011074) (hp1 : (a2).natAbs ≤ (a0).natAbs) (hp2 : ¬ a0 = 0) : Cj l 49 yX12_common wsX12_common dC dI ad cA [.long (sJ a0), .long (sJ a2)] M0 (fun r M' => ∃ a : Int, r = sJ a ∧ M0 = M' ∧ (-9223372036854775808) ≤ a ∧ a ≤ 9223372036854775807 ∧ (¬ a = 0)) := by
  refine cj_of (cc := cX12_common) (maxL := 4) (lv := [(0, .long (sJ a0)), (2, .long (sJ a2))]) (by decide) rfl (Nat.le_of_ble_eq_true rfl) rfl ?_
  intro p e s m args below meth c A Q C hret
  refine j_lload_n C 1 2 dX12_common_0 rfl rfl ?_
  refine y_lconst C 0 dX12_common_1 rfl ?_
  refine y_lcmp_ne C 10 dX12_common_2 dX12_common_3 (by decide) (by exact ⟨⟨ha2.1, ha2.2⟩, ⟨(by decide), (by decide)⟩⟩) (fun h101 => ?_) (fun h101 => ?_)
  · refine j_lload_n C 1 2 dX12_common_10 rfl rfl ?_
    refine j_lload_n C 0 0 dX12_common_11 rfl rfl ?_
    refine j_lload_n C 1 2 dX12_common_12 rfl rfl ?_
    refine y_lremA C dX12_common_13 (by exact ⟨⟨ha0.1, ha0.2⟩, ⟨⟨ha2.1, ha2.2⟩, h101⟩⟩) (fun a102 la102 ua102 ha102 => ?_)
    refine j_callSj C (d := 48) (As := [.long (sJ a2), .long (sJ a102)]) (st := []) (s49_X12_common hM0 a2 (by exact ⟨ha2.1, ha2.2⟩) a102 (by exact ⟨la102, ua102⟩) (by omega) (by omega) (by exact h101)) gX12_common_X12_common rfl hdX12_commons (by decide) (Nat.le_of_ble_eq_true rfl) dX12_common_14 rfl (fun r103 M104 h105 => ?_)
    obtain ⟨a107, rfl, rfl, h106⟩ := h105
    exact hret _ _ _ _ dX12_common_17 ⟨a107, rfl, rfl, by exact ⟨h106.1, ⟨h106.2.1, h106.2.2⟩⟩⟩
  · refine j_lload_n C 0 0 dX12_common_6 rfl rfl ?_
    refine j_goto C 17 dX12_common_7 (by decide) ?_
    exact hret _ _ _ _ dX12_common_17 ⟨a0, rfl, rfl, by exact ⟨ha0.1, ⟨ha0.2, hp2⟩⟩⟩
set_option maxHeartbeats 4000000 in
theorem s51_X12_common {l : Launch} {dC : Nat → ClassId} {dI : Nat → Nat → Nat} {ad : Nat → Nat} {cA : Nat → ClassId} {pr : Nat → Nat → Bool} {Kz : mm_M} {M0 : mm_M} (hM0 : INV pr Kz M0) (a0 : Int) (ha0 : -9223372036854775808 ≤ a0 ∧ a0 ≤ 9223372036854775807) (a2 : Int) (ha2 : -9223372036854775808 ≤ a2 ∧ a2 ≤ 9223372036854775807) (hp0 : (a2).natAbs < 20365011074 ∨ (a0).natAbs < 32951280099) (hp1 : (a2).natAbs ≤ (a0).natAbs) (hp2 : ¬ a0 = 0) : Cj l 50 yX12_common wsX12_common dC dI ad cA [.long (sJ a0), .long (sJ a2)] M0 (fun r M' => ∃ a : Int, r = sJ a ∧ M0 = M' ∧ (-9223372036854775808) ≤ a ∧ a ≤ 9223372036854775807 ∧ (¬ a = 0)) := by
  refine cj_of (cc := cX12_common) (maxL := 4) (lv := [(0, .long (sJ a0)), (2, .long (sJ a2))]) (by decide) rfl (Nat.le_of_ble_eq_true rfl) rfl ?_
  intro p e s m args below meth c A Q C hret
  refine j_lload_n C 1 2 dX12_common_0 rfl rfl ?_
  refine y_lconst C 0 dX12_common_1 rfl ?_
  refine y_lcmp_ne C 10 dX12_common_2 dX12_common_3 (by decide) (by exact ⟨⟨ha2.1, ha2.2⟩, ⟨(by decide), (by decide)⟩⟩) (fun h101 => ?_) (fun h101 => ?_)
  · refine j_lload_n C 1 2 dX12_common_10 rfl rfl ?_
    refine j_lload_n C 0 0 dX12_common_11 rfl rfl ?_
    refine j_lload_n C 1 2 dX12_common_12 rfl rfl ?_
    refine y_lremA C dX12_common_13 (by exact ⟨⟨ha0.1, ha0.2⟩, ⟨⟨ha2.1, ha2.2⟩, h101⟩⟩) (fun a102 la102 ua102 ha102 => ?_)
    refine j_callSj C (d := 49) (As := [.long (sJ a2), .long (sJ a102)]) (st := []) (s50_X12_common hM0 a2 (by exact ⟨ha2.1, ha2.2⟩) a102 (by exact ⟨la102, ua102⟩) (by omega) (by omega) (by exact h101)) gX12_common_X12_common rfl hdX12_commons (by decide) (Nat.le_of_ble_eq_true rfl) dX12_common_14 rfl (fun r103 M104 h105 => ?_)
    obtain ⟨a107, rfl, rfl, h106⟩ := h105
    exact hret _ _ _ _ dX12_common_17 ⟨a107, rfl, rfl, by exact ⟨h106.1, ⟨h106.2.1, h106.2.2⟩⟩⟩
  · refine j_lload_n C 0 0 dX12_common_6 rfl rfl ?_
    refine j_goto C 17 dX12_common_7 (by decide) ?_
    exact hret _ _ _ _ dX12_common_17 ⟨a0, rfl, rfl, by exact ⟨ha0.1, ⟨ha0.2, hp2⟩⟩⟩
set_option maxHeartbeats 4000000 in
theorem s52_X12_common {l : Launch} {dC : Nat → ClassId} {dI : Nat → Nat → Nat} {ad : Nat → Nat} {cA : Nat → ClassId} {pr : Nat → Nat → Bool} {Kz : mm_M} {M0 : mm_M} (hM0 : INV pr Kz M0) (a0 : Int) (ha0 : -9223372036854775808 ≤ a0 ∧ a0 ≤ 9223372036854775807) (a2 : Int) (ha2 : -9223372036854775808 ≤ a2 ∧ a2 ≤ 9223372036854775807) (hp0 : (a2).natAbs < 32951280099 ∨ (a0).natAbs < 53316291173) (hp1 : (a2).natAbs ≤ (a0).natAbs) (hp2 : ¬ a0 = 0) : Cj l 51 yX12_common wsX12_common dC dI ad cA [.long (sJ a0), .long (sJ a2)] M0 (fun r M' => ∃ a : Int, r = sJ a ∧ M0 = M' ∧ (-9223372036854775808) ≤ a ∧ a ≤ 9223372036854775807 ∧ (¬ a = 0)) := by
  refine cj_of (cc := cX12_common) (maxL := 4) (lv := [(0, .long (sJ a0)), (2, .long (sJ a2))]) (by decide) rfl (Nat.le_of_ble_eq_true rfl) rfl ?_
  intro p e s m args below meth c A Q C hret
  refine j_lload_n C 1 2 dX12_common_0 rfl rfl ?_
  refine y_lconst C 0 dX12_common_1 rfl ?_
  refine y_lcmp_ne C 10 dX12_common_2 dX12_common_3 (by decide) (by exact ⟨⟨ha2.1, ha2.2⟩, ⟨(by decide), (by decide)⟩⟩) (fun h101 => ?_) (fun h101 => ?_)
  · refine j_lload_n C 1 2 dX12_common_10 rfl rfl ?_
    refine j_lload_n C 0 0 dX12_common_11 rfl rfl ?_
    refine j_lload_n C 1 2 dX12_common_12 rfl rfl ?_
    refine y_lremA C dX12_common_13 (by exact ⟨⟨ha0.1, ha0.2⟩, ⟨⟨ha2.1, ha2.2⟩, h101⟩⟩) (fun a102 la102 ua102 ha102 => ?_)
    refine j_callSj C (d := 50) (As := [.long (sJ a2), .long (sJ a102)]) (st := []) (s51_X12_common hM0 a2 (by exact ⟨ha2.1, ha2.2⟩) a102 (by exact ⟨la102, ua102⟩) (by omega) (by omega) (by exact h101)) gX12_common_X12_common rfl hdX12_commons (by decide) (Nat.le_of_ble_eq_true rfl) dX12_common_14 rfl (fun r103 M104 h105 => ?_)
    obtain ⟨a107, rfl, rfl, h106⟩ := h105
    exact hret _ _ _ _ dX12_common_17 ⟨a107, rfl, rfl, by exact ⟨h106.1, ⟨h106.2.1, h106.2.2⟩⟩⟩
  · refine j_lload_n C 0 0 dX12_common_6 rfl rfl ?_
    refine j_goto C 17 dX12_common_7 (by decide) ?_
    exact hret _ _ _ _ dX12_common_17 ⟨a0, rfl, rfl, by exact ⟨ha0.1, ⟨ha0.2, hp2⟩⟩⟩
set_option maxHeartbeats 4000000 in
theorem s53_X12_common {l : Launch} {dC : Nat → ClassId} {dI : Nat → Nat → Nat} {ad : Nat → Nat} {cA : Nat → ClassId} {pr : Nat → Nat → Bool} {Kz : mm_M} {M0 : mm_M} (hM0 : INV pr Kz M0) (a0 : Int) (ha0 : -9223372036854775808 ≤ a0 ∧ a0 ≤ 9223372036854775807) (a2 : Int) (ha2 : -9223372036854775808 ≤ a2 ∧ a2 ≤ 9223372036854775807) (hp0 : (a2).natAbs < 53316291173 ∨ (a0).natAbs < 86267571272) (hp1 : (a2).natAbs ≤ (a0).natAbs) (hp2 : ¬ a0 = 0) : Cj l 52 yX12_common wsX12_common dC dI ad cA [.long (sJ a0), .long (sJ a2)] M0 (fun r M' => ∃ a : Int, r = sJ a ∧ M0 = M' ∧ (-9223372036854775808) ≤ a ∧ a ≤ 9223372036854775807 ∧ (¬ a = 0)) := by
  refine cj_of (cc := cX12_common) (maxL := 4) (lv := [(0, .long (sJ a0)), (2, .long (sJ a2))]) (by decide) rfl (Nat.le_of_ble_eq_true rfl) rfl ?_
  intro p e s m args below meth c A Q C hret
  refine j_lload_n C 1 2 dX12_common_0 rfl rfl ?_
  refine y_lconst C 0 dX12_common_1 rfl ?_
  refine y_lcmp_ne C 10 dX12_common_2 dX12_common_3 (by decide) (by exact ⟨⟨ha2.1, ha2.2⟩, ⟨(by decide), (by decide)⟩⟩) (fun h101 => ?_) (fun h101 => ?_)
  · refine j_lload_n C 1 2 dX12_common_10 rfl rfl ?_
    refine j_lload_n C 0 0 dX12_common_11 rfl rfl ?_
    refine j_lload_n C 1 2 dX12_common_12 rfl rfl ?_
    refine y_lremA C dX12_common_13 (by exact ⟨⟨ha0.1, ha0.2⟩, ⟨⟨ha2.1, ha2.2⟩, h101⟩⟩) (fun a102 la102 ua102 ha102 => ?_)
    refine j_callSj C (d := 51) (As := [.long (sJ a2), .long (sJ a102)]) (st := []) (s52_X12_common hM0 a2 (by exact ⟨ha2.1, ha2.2⟩) a102 (by exact ⟨la102, ua102⟩) (by omega) (by omega) (by exact h101)) gX12_common_X12_common rfl hdX12_commons (by decide) (Nat.le_of_ble_eq_true rfl) dX12_common_14 rfl (fun r103 M104 h105 => ?_)
    obtain ⟨a107, rfl, rfl, h106⟩ := h105
    exact hret _ _ _ _ dX12_common_17 ⟨a107, rfl, rfl, by exact ⟨h106.1, ⟨h106.2.1, h106.2.2⟩⟩⟩
  · refine j_lload_n C 0 0 dX12_common_6 rfl rfl ?_
    refine j_goto C 17 dX12_common_7 (by decide) ?_
    exact hret _ _ _ _ dX12_common_17 ⟨a0, rfl, rfl, by exact ⟨ha0.1, ⟨ha0.2, hp2⟩⟩⟩
set_option maxHeartbeats 4000000 in
theorem s54_X12_common {l : Launch} {dC : Nat → ClassId} {dI : Nat → Nat → Nat} {ad : Nat → Nat} {cA : Nat → ClassId} {pr : Nat → Nat → Bool} {Kz : mm_M} {M0 : mm_M} (hM0 : INV pr Kz M0) (a0 : Int) (ha0 : -9223372036854775808 ≤ a0 ∧ a0 ≤ 9223372036854775807) (a2 : Int) (ha2 : -9223372036854775808 ≤ a2 ∧ a2 ≤ 9223372036854775807) (hp0 : (a2).natAbs < 86267571272 ∨ (a0).natAbs < 139583862445) (hp1 : (a2).natAbs ≤ (a0).natAbs) (hp2 : ¬ a0 = 0) : Cj l 53 yX12_common wsX12_common dC dI ad cA [.long (sJ a0), .long (sJ a2)] M0 (fun r M' => ∃ a : Int, r = sJ a ∧ M0 = M' ∧ (-9223372036854775808) ≤ a ∧ a ≤ 9223372036854775807 ∧ (¬ a = 0)) := by
  refine cj_of (cc := cX12_common) (maxL := 4) (lv := [(0, .long (sJ a0)), (2, .long (sJ a2))]) (by decide) rfl (Nat.le_of_ble_eq_true rfl) rfl ?_
  intro p e s m args below meth c A Q C hret
  refine j_lload_n C 1 2 dX12_common_0 rfl rfl ?_
  refine y_lconst C 0 dX12_common_1 rfl ?_
  refine y_lcmp_ne C 10 dX12_common_2 dX12_common_3 (by decide) (by exact ⟨⟨ha2.1, ha2.2⟩, ⟨(by decide), (by decide)⟩⟩) (fun h101 => ?_) (fun h101 => ?_)
  · refine j_lload_n C 1 2 dX12_common_10 rfl rfl ?_
    refine j_lload_n C 0 0 dX12_common_11 rfl rfl ?_
    refine j_lload_n C 1 2 dX12_common_12 rfl rfl ?_
    refine y_lremA C dX12_common_13 (by exact ⟨⟨ha0.1, ha0.2⟩, ⟨⟨ha2.1, ha2.2⟩, h101⟩⟩) (fun a102 la102 ua102 ha102 => ?_)
    refine j_callSj C (d := 52) (As := [.long (sJ a2), .long (sJ a102)]) (st := []) (s53_X12_common hM0 a2 (by exact ⟨ha2.1, ha2.2⟩) a102 (by exact ⟨la102, ua102⟩) (by omega) (by omega) (by exact h101)) gX12_common_X12_common rfl hdX12_commons (by decide) (Nat.le_of_ble_eq_true rfl) dX12_common_14 rfl (fun r103 M104 h105 => ?_)
    obtain ⟨a107, rfl, rfl, h106⟩ := h105
    exact hret _ _ _ _ dX12_common_17 ⟨a107, rfl, rfl, by exact ⟨h106.1, ⟨h106.2.1, h106.2.2⟩⟩⟩
  · refine j_lload_n C 0 0 dX12_common_6 rfl rfl ?_
    refine j_goto C 17 dX12_common_7 (by decide) ?_
    exact hret _ _ _ _ dX12_common_17 ⟨a0, rfl, rfl, by exact ⟨ha0.1, ⟨ha0.2, hp2⟩⟩⟩
set_option maxHeartbeats 4000000 in
theorem s55_X12_common {l : Launch} {dC : Nat → ClassId} {dI : Nat → Nat → Nat} {ad : Nat → Nat} {cA : Nat → ClassId} {pr : Nat → Nat → Bool} {Kz : mm_M} {M0 : mm_M} (hM0 : INV pr Kz M0) (a0 : Int) (ha0 : -9223372036854775808 ≤ a0 ∧ a0 ≤ 9223372036854775807) (a2 : Int) (ha2 : -9223372036854775808 ≤ a2 ∧ a2 ≤ 9223372036854775807) (hp0 : (a2).natAbs < 139583862445 ∨ (a0).natAbs < 225851433717) (hp1 : (a2).natAbs ≤ (a0).natAbs) (hp2 : ¬ a0 = 0) : Cj l 54 yX12_common wsX12_common dC dI ad cA [.long (sJ a0), .long (sJ a2)] M0 (fun r M' => ∃ a : Int, r = sJ a ∧ M0 = M' ∧ (-9223372036854775808) ≤ a ∧ a ≤ 9223372036854775807 ∧ (¬ a = 0)) := by
  refine cj_of (cc := cX12_common) (maxL := 4) (lv := [(0, .long (sJ a0)), (2, .long (sJ a2))]) (by decide) rfl (Nat.le_of_ble_eq_true rfl) rfl ?_
  intro p e s m args below meth c A Q C hret
  refine j_lload_n C 1 2 dX12_common_0 rfl rfl ?_
  refine y_lconst C 0 dX12_common_1 rfl ?_
  refine y_lcmp_ne C 10 dX12_common_2 dX12_common_3 (by decide) (by exact ⟨⟨ha2.1, ha2.2⟩, ⟨(by decide), (by decide)⟩⟩) (fun h101 => ?_) (fun h101 => ?_)
  · refine j_lload_n C 1 2 dX12_common_10 rfl rfl ?_
    refine j_lload_n C 0 0 dX12_common_11 rfl rfl ?_
    refine j_lload_n C 1 2 dX12_common_12 rfl rfl ?_
    refine y_lremA C dX12_common_13 (by exact ⟨⟨ha0.1, ha0.2⟩, ⟨⟨ha2.1, ha2.2⟩, h101⟩⟩) (fun a102 la102 ua102 ha102 => ?_)
    refine j_callSj C (d := 53) (As := [.long (sJ a2), .long (sJ a102)]) (st := []) (s54_X12_common hM0 a2 (by exact ⟨ha2.1, ha2.2⟩) a102 (by exact ⟨la102, ua102⟩) (by omega) (by omega) (by exact h101)) gX12_common_X12_common rfl hdX12_commons (by decide) (Nat.le_of_ble_eq_true rfl) dX12_common_14 rfl (fun r103 M104 h105 => ?_)
    obtain ⟨a107, rfl, rfl, h106⟩ := h105
    exact hret _ _ _ _ dX12_common_17 ⟨a107, rfl, rfl, by exact ⟨h106.1, ⟨h106.2.1, h106.2.2⟩⟩⟩
  · refine j_lload_n C 0 0 dX12_common_6 rfl rfl ?_
    refine j_goto C 17 dX12_common_7 (by decide) ?_
    exact hret _ _ _ _ dX12_common_17 ⟨a0, rfl, rfl, by exact ⟨ha0.1, ⟨ha0.2, hp2⟩⟩⟩
set_option maxHeartbeats 4000000 in
theorem s56_X12_common {l : Launch} {dC : Nat → ClassId} {dI : Nat → Nat → Nat} {ad : Nat → Nat} {cA : Nat → ClassId} {pr : Nat → Nat → Bool} {Kz : mm_M} {M0 : mm_M} (hM0 : INV pr Kz M0) (a0 : Int) (ha0 : -9223372036854775808 ≤ a0 ∧ a0 ≤ 9223372036854775807) (a2 : Int) (ha2 : -9223372036854775808 ≤ a2 ∧ a2 ≤ 9223372036854775807) (hp0 : (a2).natAbs < 225851433717 ∨ (a0).natAbs < 365435296162) (hp1 : (a2).natAbs ≤ (a0).natAbs) (hp2 : ¬ a0 = 0) : Cj l 55 yX12_common wsX12_common dC dI ad cA [.long (sJ a0), .long (sJ a2)] M0 (fun r M' => ∃ a : Int, r = sJ a ∧ M0 = M' ∧ (-9223372036854775808) ≤ a ∧ a ≤ 9223372036854775807 ∧ (¬ a = 0)) := by
  refine cj_of (cc := cX12_common) (maxL := 4) (lv := [(0, .long (sJ a0)), (2, .long (sJ a2))]) (by decide) rfl (Nat.le_of_ble_eq_true rfl) rfl ?_
  intro p e s m args below meth c A Q C hret
  refine j_lload_n C 1 2 dX12_common_0 rfl rfl ?_
  refine y_lconst C 0 dX12_common_1 rfl ?_
  refine y_lcmp_ne C 10 dX12_common_2 dX12_common_3 (by decide) (by exact ⟨⟨ha2.1, ha2.2⟩, ⟨(by decide), (by decide)⟩⟩) (fun h101 => ?_) (fun h101 => ?_)
  · refine j_lload_n C 1 2 dX12_common_10 rfl rfl ?_
    refine j_lload_n C 0 0 dX12_common_11 rfl rfl ?_
    refine j_lload_n C 1 2 dX12_common_12 rfl rfl ?_
    refine y_lremA C dX12_common_13 (by exact ⟨⟨ha0.1, ha0.2⟩, ⟨⟨ha2.1, ha2.2⟩, h101⟩⟩) (fun a102 la102 ua102 ha102 => ?_)
    refine j_callSj C (d := 54) (As := [.long (sJ a2), .long (sJ a102)]) (st := []) (s55_X12_common hM0 a2 (by exact ⟨ha2.1, ha2.2⟩) a102 (by exact ⟨la102, ua102⟩) (by omega) (by omega) (by exact h101)) gX12_common_X12_common rfl hdX12_commons (by decide) (Nat.le_of_ble_eq_true rfl) dX12_common_14 rfl (fun r103 M104 h105 => ?_)
    obtain ⟨a107, rfl, rfl, h106⟩ := h105
    exact hret _ _ _ _ dX12_common_17 ⟨a107, rfl, rfl, by exact ⟨h106.1, ⟨h106.2.1, h106.2.2⟩⟩⟩
  · refine j_lload_n C 0 0 dX12_common_6 rfl rfl ?_
    refine j_goto C 17 dX12_common_7 (by decide) ?_
    exact hret _ _ _ _ dX12_common_17 ⟨a0, rfl, rfl, by exact ⟨ha0.1, ⟨ha0.2, hp2⟩⟩⟩
set_option maxHeartbeats 4000000 in
theorem s57_X12_common {l : Launch} {dC : Nat → ClassId} {dI : Nat → Nat → Nat} {ad : Nat → Nat} {cA : Nat → ClassId} {pr : Nat → Nat → Bool} {Kz : mm_M} {M0 : mm_M} (hM0 : INV pr Kz M0) (a0 : Int) (ha0 : -9223372036854775808 ≤ a0 ∧ a0 ≤ 9223372036854775807) (a2 : Int) (ha2 : -9223372036854775808 ≤ a2 ∧ a2 ≤ 9223372036854775807) (hp0 : (a2).natAbs < 365435296162 ∨ (a0).natAbs < 591286729879) (hp1 : (a2).natAbs ≤ (a0).natAbs) (hp2 : ¬ a0 = 0) : Cj l 56 yX12_common wsX12_common dC dI ad cA [.long (sJ a0), .long (sJ a2)] M0 (fun r M' => ∃ a : Int, r = sJ a ∧ M0 = M' ∧ (-9223372036854775808) ≤ a ∧ a ≤ 9223372036854775807 ∧ (¬ a = 0)) := by
  refine cj_of (cc := cX12_common) (maxL := 4) (lv := [(0, .long (sJ a0)), (2, .long (sJ a2))]) (by decide) rfl (Nat.le_of_ble_eq_true rfl) rfl ?_
  intro p e s m args below meth c A Q C hret
  refine j_lload_n C 1 2 dX12_common_0 rfl rfl ?_
  refine y_lconst C 0 dX12_common_1 rfl ?_
  refine y_lcmp_ne C 10 dX12_common_2 dX12_common_3 (by decide) (by exact ⟨⟨ha2.1, ha2.2⟩, ⟨(by decide), (by decide)⟩⟩) (fun h101 => ?_) (fun h101 => ?_)
  · refine j_lload_n C 1 2 dX12_common_10 rfl rfl ?_
    refine j_lload_n C 0 0 dX12_common_11 rfl rfl ?_
    refine j_lload_n C 1 2 dX12_common_12 rfl rfl ?_
    refine y_lremA C dX12_common_13 (by exact ⟨⟨ha0.1, ha0.2⟩, ⟨⟨ha2.1, ha2.2⟩, h101⟩⟩) (fun a102 la102 ua102 ha102 => ?_)
    refine j_callSj C (d := 55) (As := [.long (sJ a2), .long (sJ a102)]) (st := []) (s56_X12_common hM0 a2 (by exact ⟨ha2.1, ha2.2⟩) a102 (by exact ⟨la102, ua102⟩) (by omega) (by omega) (by exact h101)) gX12_common_X12_common rfl hdX12_commons (by decide) (Nat.le_of_ble_eq_true rfl) dX12_common_14 rfl (fun r103 M104 h105 => ?_)
    obtain ⟨a107, rfl, rfl, h106⟩ := h105
    exact hret _ _ _ _ dX12_common_17 ⟨a107, rfl, rfl, by exact ⟨h106.1, ⟨h106.2.1, h106.2.2⟩⟩⟩
  · refine j_lload_n C 0 0 dX12_common_6 rfl rfl ?_
    refine j_goto C 17 dX12_common_7 (by decide) ?_
    exact hret _ _ _ _ dX12_common_17 ⟨a0, rfl, rfl, by exact ⟨ha0.1, ⟨ha0.2, hp2⟩⟩⟩
set_option maxHeartbeats 4000000 in
theorem s58_X12_common {l : Launch} {dC : Nat → ClassId} {dI : Nat → Nat → Nat} {ad : Nat → Nat} {cA : Nat → ClassId} {pr : Nat → Nat → Bool} {Kz : mm_M} {M0 : mm_M} (hM0 : INV pr Kz M0) (a0 : Int) (ha0 : -9223372036854775808 ≤ a0 ∧ a0 ≤ 9223372036854775807) (a2 : Int) (ha2 : -9223372036854775808 ≤ a2 ∧ a2 ≤ 9223372036854775807) (hp0 : (a2).natAbs < 591286729879 ∨ (a0).natAbs < 956722026041) (hp1 : (a2).natAbs ≤ (a0).natAbs) (hp2 : ¬ a0 = 0) : Cj l 57 yX12_common wsX12_common dC dI ad cA [.long (sJ a0), .long (sJ a2)] M0 (fun r M' => ∃ a : Int, r = sJ a ∧ M0 = M' ∧ (-9223372036854775808) ≤ a ∧ a ≤ 9223372036854775807 ∧ (¬ a = 0)) := by
  refine cj_of (cc := cX12_common) (maxL := 4) (lv := [(0, .long (sJ a0)), (2, .long (sJ a2))]) (by decide) rfl (Nat.le_of_ble_eq_true rfl) rfl ?_
  intro p e s m args below meth c A Q C hret
  refine j_lload_n C 1 2 dX12_common_0 rfl rfl ?_
  refine y_lconst C 0 dX12_common_1 rfl ?_
  refine y_lcmp_ne C 10 dX12_common_2 dX12_common_3 (by decide) (by exact ⟨⟨ha2.1, ha2.2⟩, ⟨(by decide), (by decide)⟩⟩) (fun h101 => ?_) (fun h101 => ?_)
  · refine j_lload_n C 1 2 dX12_common_10 rfl rfl ?_
    refine j_lload_n C 0 0 dX12_common_11 rfl rfl ?_
    refine j_lload_n C 1 2 dX12_common_12 rfl rfl ?_
    refine y_lremA C dX12_common_13 (by exact ⟨⟨ha0.1, ha0.2⟩, ⟨⟨ha2.1, ha2.2⟩, h101⟩⟩) (fun a102 la102 ua102 ha102 => ?_)
    refine j_callSj C (d := 56) (As := [.long (sJ a2), .long (sJ a102)]) (st := []) (s57_X12_common hM0 a2 (by exact ⟨ha2.1, ha2.2⟩) a102 (by exact ⟨la102, ua102⟩) (by omega) (by omega) (by exact h101)) gX12_common_X12_common rfl hdX12_commons (by decide) (Nat.le_of_ble_eq_true rfl) dX12_common_14 rfl (fun r103 M104 h105 => ?_)
    obtain ⟨a107, rfl, rfl, h106⟩ := h105
    exact hret _ _ _ _ dX12_common_17 ⟨a107, rfl, rfl, by exact ⟨h106.1, ⟨h106.2.1, h106.2.2⟩⟩⟩
  · refine j_lload_n C 0 0 dX12_common_6 rfl rfl ?_
    refine j_goto C 17 dX12_common_7 (by decide) ?_
    exact hret _ _ _ _ dX12_common_17 ⟨a0, rfl, rfl, by exact ⟨ha0.1, ⟨ha0.2, hp2⟩⟩⟩
set_option maxHeartbeats 4000000 in
theorem s59_X12_common {l : Launch} {dC : Nat → ClassId} {dI : Nat → Nat → Nat} {ad : Nat → Nat} {cA : Nat → ClassId} {pr : Nat → Nat → Bool} {Kz : mm_M} {M0 : mm_M} (hM0 : INV pr Kz M0) (a0 : Int) (ha0 : -9223372036854775808 ≤ a0 ∧ a0 ≤ 9223372036854775807) (a2 : Int) (ha2 : -9223372036854775808 ≤ a2 ∧ a2 ≤ 9223372036854775807) (hp0 : (a2).natAbs < 956722026041 ∨ (a0).natAbs < 1548008755920) (hp1 : (a2).natAbs ≤ (a0).natAbs) (hp2 : ¬ a0 = 0) : Cj l 58 yX12_common wsX12_common dC dI ad cA [.long (sJ a0), .long (sJ a2)] M0 (fun r M' => ∃ a : Int, r = sJ a ∧ M0 = M' ∧ (-9223372036854775808) ≤ a ∧ a ≤ 9223372036854775807 ∧ (¬ a = 0)) := by
  refine cj_of (cc := cX12_common) (maxL := 4) (lv := [(0, .long (sJ a0)), (2, .long (sJ a2))]) (by decide) rfl (Nat.le_of_ble_eq_true rfl) rfl ?_
  intro p e s m args below meth c A Q C hret
  refine j_lload_n C 1 2 dX12_common_0 rfl rfl ?_
  refine y_lconst C 0 dX12_common_1 rfl ?_
  refine y_lcmp_ne C 10 dX12_common_2 dX12_common_3 (by decide) (by exact ⟨⟨ha2.1, ha2.2⟩, ⟨(by decide), (by decide)⟩⟩) (fun h101 => ?_) (fun h101 => ?_)
  · refine j_lload_n C 1 2 dX12_common_10 rfl rfl ?_
    refine j_lload_n C 0 0 dX12_common_11 rfl rfl ?_
    refine j_lload_n C 1 2 dX12_common_12 rfl rfl ?_
    refine y_lremA C dX12_common_13 (by exact ⟨⟨ha0.1, ha0.2⟩, ⟨⟨ha2.1, ha2.2⟩, h101⟩⟩) (fun a102 la102 ua102 ha102 => ?_)
    refine j_callSj C (d := 57) (As := [.long (sJ a2), .long (sJ a102)]) (st := []) (s58_X12_common hM0 a2 (by exact ⟨ha2.1, ha2.2⟩) a102 (by exact ⟨la102, ua102⟩) (by omega) (by omega) (by exact h101)) gX12_common_X12_common rfl hdX12_commons (by decide) (Nat.le_of_ble_eq_true rfl) dX12_common_14 rfl (fun r103 M104 h105 => ?_)
    obtain ⟨a107, rfl, rfl, h106⟩ := h105
    exact hret _ _ _ _ dX12_common_17 ⟨a107, rfl, rfl, by exact ⟨h106.1, ⟨h106.2.1, h106.2.2⟩⟩⟩
  · refine j_lload_n C 0 0 dX12_common_6 rfl rfl ?_
    refine j_goto C 17 dX12_common_7 (by decide) ?_
    exact hret _ _ _ _ dX12_common_17 ⟨a0, rfl, rfl, by exact ⟨ha0.1, ⟨ha0.2, hp2⟩⟩⟩
set_option maxHeartbeats 4000000 in
theorem s60_X12_common {l : Launch} {dC : Nat → ClassId} {dI : Nat → Nat → Nat} {ad : Nat → Nat} {cA : Nat → ClassId} {pr : Nat → Nat → Bool} {Kz : mm_M} {M0 : mm_M} (hM0 : INV pr Kz M0) (a0 : Int) (ha0 : -9223372036854775808 ≤ a0 ∧ a0 ≤ 9223372036854775807) (a2 : Int) (ha2 : -9223372036854775808 ≤ a2 ∧ a2 ≤ 9223372036854775807) (hp0 : (a2).natAbs < 1548008755920 ∨ (a0).natAbs < 2504730781961) (hp1 : (a2).natAbs ≤ (a0).natAbs) (hp2 : ¬ a0 = 0) : Cj l 59 yX12_common wsX12_common dC dI ad cA [.long (sJ a0), .long (sJ a2)] M0 (fun r M' => ∃ a : Int, r = sJ a ∧ M0 = M' ∧ (-9223372036854775808) ≤ a ∧ a ≤ 9223372036854775807 ∧ (¬ a = 0)) := by
  refine cj_of (cc := cX12_common) (maxL := 4) (lv := [(0, .long (sJ a0)), (2, .long (sJ a2))]) (by decide) rfl (Nat.le_of_ble_eq_true rfl) rfl ?_
  intro p e s m args below meth c A Q C hret
  refine j_lload_n C 1 2 dX12_common_0 rfl rfl ?_
  refine y_lconst C 0 dX12_common_1 rfl ?_
  refine y_lcmp_ne C 10 dX12_common_2 dX12_common_3 (by decide) (by exact ⟨⟨ha2.1, ha2.2⟩, ⟨(by decide), (by decide)⟩⟩) (fun h101 => ?_) (fun h101 => ?_)
  · refine j_lload_n C 1 2 dX12_common_10 rfl rfl ?_
    refine j_lload_n C 0 0 dX12_common_11 rfl rfl ?_
    refine j_lload_n C 1 2 dX12_common_12 rfl rfl ?_
    refine y_lremA C dX12_common_13 (by exact ⟨⟨ha0.1, ha0.2⟩, ⟨⟨ha2.1, ha2.2⟩, h101⟩⟩) (fun a102 la102 ua102 ha102 => ?_)
    refine j_callSj C (d := 58) (As := [.long (sJ a2), .long (sJ a102)]) (st := []) (s59_X12_common hM0 a2 (by exact ⟨ha2.1, ha2.2⟩) a102 (by exact ⟨la102, ua102⟩) (by omega) (by omega) (by exact h101)) gX12_common_X12_common rfl hdX12_commons (by decide) (Nat.le_of_ble_eq_true rfl) dX12_common_14 rfl (fun r103 M104 h105 => ?_)
    obtain ⟨a107, rfl, rfl, h106⟩ := h105
    exact hret _ _ _ _ dX12_common_17 ⟨a107, rfl, rfl, by exact ⟨h106.1, ⟨h106.2.1, h106.2.2⟩⟩⟩
  · refine j_lload_n C 0 0 dX12_common_6 rfl rfl ?_
    refine j_goto C 17 dX12_common_7 (by decide) ?_
    exact hret _ _ _ _ dX12_common_17 ⟨a0, rfl, rfl, by exact ⟨ha0.1, ⟨ha0.2, hp2⟩⟩⟩
set_option maxHeartbeats 4000000 in
theorem s61_X12_common {l : Launch} {dC : Nat → ClassId} {dI : Nat → Nat → Nat} {ad : Nat → Nat} {cA : Nat → ClassId} {pr : Nat → Nat → Bool} {Kz : mm_M} {M0 : mm_M} (hM0 : INV pr Kz M0) (a0 : Int) (ha0 : -9223372036854775808 ≤ a0 ∧ a0 ≤ 9223372036854775807) (a2 : Int) (ha2 : -9223372036854775808 ≤ a2 ∧ a2 ≤ 9223372036854775807) (hp0 : (a2).natAbs < 2504730781961 ∨ (a0).natAbs < 4052739537881) (hp1 : (a2).natAbs ≤ (a0).natAbs) (hp2 : ¬ a0 = 0) : Cj l 60 yX12_common wsX12_common dC dI ad cA [.long (sJ a0), .long (sJ a2)] M0 (fun r M' => ∃ a : Int, r = sJ a ∧ M0 = M' ∧ (-9223372036854775808) ≤ a ∧ a ≤ 9223372036854775807 ∧ (¬ a = 0)) := by
  refine cj_of (cc := cX12_common) (maxL := 4) (lv := [(0, .long (sJ a0)), (2, .long (sJ a2))]) (by decide) rfl (Nat.le_of_ble_eq_true rfl) rfl ?_
  intro p e s m args below meth c A Q C hret
  refine j_lload_n C 1 2 dX12_common_0 rfl rfl ?_
  refine y_lconst C 0 dX12_common_1 rfl ?_
  refine y_lcmp_ne C 10 dX12_common_2 dX12_common_3 (by decide) (by exact ⟨⟨ha2.1, ha2.2⟩, ⟨(by decide), (by decide)⟩⟩) (fun h101 => ?_) (fun h101 => ?_)
  · refine j_lload_n C 1 2 dX12_common_10 rfl rfl ?_
    refine j_lload_n C 0 0 dX12_common_11 rfl rfl ?_
    refine j_lload_n C 1 2 dX12_common_12 rfl rfl ?_
    refine y_lremA C dX12_common_13 (by exact ⟨⟨ha0.1, ha0.2⟩, ⟨⟨ha2.1, ha2.2⟩, h101⟩⟩) (fun a102 la102 ua102 ha102 => ?_)
    refine j_callSj C (d := 59) (As := [.long (sJ a2), .long (sJ a102)]) (st := []) (s60_X12_common hM0 a2 (by exact ⟨ha2.1, ha2.2⟩) a102 (by exact ⟨la102, ua102⟩) (by omega) (by omega) (by exact h101)) gX12_common_X12_common rfl hdX12_commons (by decide) (Nat.le_of_ble_eq_true rfl) dX12_common_14 rfl (fun r103 M104 h105 => ?_)
    obtain ⟨a107, rfl, rfl, h106⟩ := h105
    exact hret _ _ _ _ dX12_common_17 ⟨a107, rfl, rfl, by exact ⟨h106.1, ⟨h106.2.1, h106.2.2⟩⟩⟩
  · refine j_lload_n C 0 0 dX12_common_6 rfl rfl ?_
    refine j_goto C 17 dX12_common_7 (by decide) ?_
    exact hret _ _ _ _ dX12_common_17 ⟨a0, rfl, rfl, by exact ⟨ha0.1, ⟨ha0.2, hp2⟩⟩⟩
set_option maxHeartbeats 4000000 in
theorem s62_X12_common {l : Launch} {dC : Nat → ClassId} {dI : Nat → Nat → Nat} {ad : Nat → Nat} {cA : Nat → ClassId} {pr : Nat → Nat → Bool} {Kz : mm_M} {M0 : mm_M} (hM0 : INV pr Kz M0) (a0 : Int) (ha0 : -9223372036854775808 ≤ a0 ∧ a0 ≤ 9223372036854775807) (a2 : Int) (ha2 : -9223372036854775808 ≤ a2 ∧ a2 ≤ 9223372036854775807) (hp0 : (a2).natAbs < 4052739537881 ∨ (a0).natAbs < 6557470319842) (hp1 : (a2).natAbs ≤ (a0).natAbs) (hp2 : ¬ a0 = 0) : Cj l 61 yX12_common wsX12_common dC dI ad cA [.long (sJ a0), .long (sJ a2)] M0 (fun r M' => ∃ a : Int, r = sJ a ∧ M0 = M' ∧ (-9223372036854775808) ≤ a ∧ a ≤ 9223372036854775807 ∧ (¬ a = 0)) := by
  refine cj_of (cc := cX12_common) (maxL := 4) (lv := [(0, .long (sJ a0)), (2, .long (sJ a2))]) (by decide) rfl (Nat.le_of_ble_eq_true rfl) rfl ?_
  intro p e s m args below meth c A Q C hret
  refine j_lload_n C 1 2 dX12_common_0 rfl rfl ?_
  refine y_lconst C 0 dX12_common_1 rfl ?_
  refine y_lcmp_ne C 10 dX12_common_2 dX12_common_3 (by decide) (by exact ⟨⟨ha2.1, ha2.2⟩, ⟨(by decide), (by decide)⟩⟩) (fun h101 => ?_) (fun h101 => ?_)
  · refine j_lload_n C 1 2 dX12_common_10 rfl rfl ?_
    refine j_lload_n C 0 0 dX12_common_11 rfl rfl ?_
    refine j_lload_n C 1 2 dX12_common_12 rfl rfl ?_
    refine y_lremA C dX12_common_13 (by exact ⟨⟨ha0.1, ha0.2⟩, ⟨⟨ha2.1, ha2.2⟩, h101⟩⟩) (fun a102 la102 ua102 ha102 => ?_)
    refine j_callSj C (d := 60) (As := [.long (sJ a2), .long (sJ a102)]) (st := []) (s61_X12_common hM0 a2 (by exact ⟨ha2.1, ha2.2⟩) a102 (by exact ⟨la102, ua102⟩) (by omega) (by omega) (by exact h101)) gX12_common_X12_common rfl hdX12_commons (by decide) (Nat.le_of_ble_eq_true rfl) dX12_common_14 rfl (fun r103 M104 h105 => ?_)
    obtain ⟨a107, rfl, rfl, h106⟩ := h105
    exact hret _ _ _ _ dX12_common_17 ⟨a107, rfl, rfl, by exact ⟨h106.1, ⟨h106.2.1, h106.2.2⟩⟩⟩
  · refine j_lload_n C 0 0 dX12_common_6 rfl rfl ?_
    refine j_goto C 17 dX12_common_7 (by decide) ?_
    exact hret _ _ _ _ dX12_common_17 ⟨a0, rfl, rfl, by exact ⟨ha0.1, ⟨ha0.2, hp2⟩⟩⟩
set_option maxHeartbeats 4000000 in
theorem s63_X12_common {l : Launch} {dC : Nat → ClassId} {dI : Nat → Nat → Nat} {ad : Nat → Nat} {cA : Nat → ClassId} {pr : Nat → Nat → Bool} {Kz : mm_M} {M0 : mm_M} (hM0 : INV pr Kz M0) (a0 : Int) (ha0 : -9223372036854775808 ≤ a0 ∧ a0 ≤ 9223372036854775807) (a2 : Int) (ha2 : -9223372036854775808 ≤ a2 ∧ a2 ≤ 9223372036854775807) (hp0 : (a2).natAbs < 6557470319842 ∨ (a0).natAbs < 10610209857723) (hp1 : (a2).natAbs ≤ (a0).natAbs) (hp2 : ¬ a0 = 0) : Cj l 62 yX12_common wsX12_common dC dI ad cA [.long (sJ a0), .long (sJ a2)] M0 (fun r M' => ∃ a : Int, r = sJ a ∧ M0 = M' ∧ (-9223372036854775808) ≤ a ∧ a ≤ 9223372036854775807 ∧ (¬ a = 0)) := by
  refine cj_of (cc := cX12_common) (maxL := 4) (lv := [(0, .long (sJ a0)), (2, .long (sJ a2))]) (by decide) rfl (Nat.le_of_ble_eq_true rfl) rfl ?_
  intro p e s m args below meth c A Q C hret
  refine j_lload_n C 1 2 dX12_common_0 rfl rfl ?_
  refine y_lconst C 0 dX12_common_1 rfl ?_
  refine y_lcmp_ne C 10 dX12_common_2 dX12_common_3 (by decide) (by exact ⟨⟨ha2.1, ha2.2⟩, ⟨(by decide), (by decide)⟩⟩) (fun h101 => ?_) (fun h101 => ?_)
  · refine j_lload_n C 1 2 dX12_common_10 rfl rfl ?_
    refine j_lload_n C 0 0 dX12_common_11 rfl rfl ?_
    refine j_lload_n C 1 2 dX12_common_12 rfl rfl ?_
    refine y_lremA C dX12_common_13 (by exact ⟨⟨ha0.1, ha0.2⟩, ⟨⟨ha2.1, ha2.2⟩, h101⟩⟩) (fun a102 la102 ua102 ha102 => ?_)
    refine j_callSj C (d := 61) (As := [.long (sJ a2), .long (sJ a102)]) (st := []) (s62_X12_common hM0 a2 (by exact ⟨ha2.1, ha2.2⟩) a102 (by exact ⟨la102, ua102⟩) (by omega) (by omega) (by exact h101)) gX12_common_X12_common rfl hdX12_commons (by decide) (Nat.le_of_ble_eq_true rfl) dX12_common_14 rfl (fun r103 M104 h105 => ?_)
    obtain ⟨a107, rfl, rfl, h106⟩ := h105
    exact hret _ _ _ _ dX12_common_17 ⟨a107, rfl, rfl, by exact ⟨h106.1, ⟨h106.2.1, h106.2.2⟩⟩⟩
  · refine j_lload_n C 0 0 dX12_common_6 rfl rfl ?_
    refine j_goto C 17 dX12_common_7 (by decide) ?_
    exact hret _ _ _ _ dX12_common_17 ⟨a0, rfl, rfl, by exact ⟨ha0.1, ⟨ha0.2, hp2⟩⟩⟩
set_option maxHeartbeats 4000000 in
theorem s64_X12_common {l : Launch} {dC : Nat → ClassId} {dI : Nat → Nat → Nat} {ad : Nat → Nat} {cA : Nat → ClassId} {pr : Nat → Nat → Bool} {Kz : mm_M} {M0 : mm_M} (hM0 : INV pr Kz M0) (a0 : Int) (ha0 : -9223372036854775808 ≤ a0 ∧ a0 ≤ 9223372036854775807) (a2 : Int) (ha2 : -9223372036854775808 ≤ a2 ∧ a2 ≤ 9223372036854775807) (hp0 : (a2).natAbs < 10610209857723 ∨ (a0).natAbs < 17167680177565) (hp1 : (a2).natAbs ≤ (a0).natAbs) (hp2 : ¬ a0 = 0) : Cj l 63 yX12_common wsX12_common dC dI ad cA [.long (sJ a0), .long (sJ a2)] M0 (fun r M' => ∃ a : Int, r = sJ a ∧ M0 = M' ∧ (-9223372036854775808) ≤ a ∧ a ≤ 9223372036854775807 ∧ (¬ a = 0)) := by
  refine cj_of (cc := cX12_common) (maxL := 4) (lv := [(0, .long (sJ a0)), (2, .long (sJ a2))]) (by decide) rfl (Nat.le_of_ble_eq_true rfl) rfl ?_
  intro p e s m args below meth c A Q C hret
  refine j_lload_n C 1 2 dX12_common_0 rfl rfl ?_
  refine y_lconst C 0 dX12_common_1 rfl ?_
  refine y_lcmp_ne C 10 dX12_common_2 dX12_common_3 (by decide) (by exact ⟨⟨ha2.1, ha2.2⟩, ⟨(by decide), (by decide)⟩⟩) (fun h101 => ?_) (fun h101 => ?_)
  · refine j_lload_n C 1 2 dX12_common_10 rfl rfl ?_
    refine j_lload_n C 0 0 dX12_common_11 rfl rfl ?_
    refine j_lload_n C 1 2 dX12_common_12 rfl rfl ?_
    refine y_lremA C dX12_common_13 (by exact ⟨⟨ha0.1, ha0.2⟩, ⟨⟨ha2.1, ha2.2⟩, h101⟩⟩) (fun a102 la102 ua102 ha102 => ?_)
    refine j_callSj C (d := 62) (As := [.long (sJ a2), .long (sJ a102)]) (st := []) (s63_X12_common hM0 a2 (by exact ⟨ha2.1, ha2.2⟩) a102 (by exact ⟨la102, ua102⟩) (by omega) (by omega) (by exact h101)) gX12_common_X12_common rfl hdX12_commons (by decide) (Nat.le_of_ble_eq_true rfl) dX12_common_14 rfl (fun r103 M104 h105 => ?_)
    obtain ⟨a107, rfl, rfl, h106⟩ := h105
    exact hret _ _ _ _ dX12_common_17 ⟨a107, rfl, rfl, by exact ⟨h106.1, ⟨h106.2.1, h106.2.2⟩⟩⟩
  · refine j_lload_n C 0 0 dX12_common_6 rfl rfl ?_
    refine j_goto C 17 dX12_common_7 (by decide) ?_
    exact hret _ _ _ _ dX12_common_17 ⟨a0, rfl, rfl, by exact ⟨ha0.1, ⟨ha0.2, hp2⟩⟩⟩
set_option maxHeartbeats 4000000 in
theorem s65_X12_common {l : Launch} {dC : Nat → ClassId} {dI : Nat → Nat → Nat} {ad : Nat → Nat} {cA : Nat → ClassId} {pr : Nat → Nat → Bool} {Kz : mm_M} {M0 : mm_M} (hM0 : INV pr Kz M0) (a0 : Int) (ha0 : -9223372036854775808 ≤ a0 ∧ a0 ≤ 9223372036854775807) (a2 : Int) (ha2 : -9223372036854775808 ≤ a2 ∧ a2 ≤ 9223372036854775807) (hp0 : (a2).natAbs < 17167680177565 ∨ (a0).natAbs < 27777890035288) (hp1 : (a2).natAbs ≤ (a0).natAbs) (hp2 : ¬ a0 = 0) : Cj l 64 yX12_common wsX12_common dC dI ad cA [.long (sJ a0), .long (sJ a2)] M0 (fun r M' => ∃ a : Int, r = sJ a ∧ M0 = M' ∧ (-9223372036854775808) ≤ a ∧ a ≤ 9223372036854775807 ∧ (¬ a = 0)) := by
  refine cj_of (cc := cX12_common) (maxL := 4) (lv := [(0, .long (sJ a0)), (2, .long (sJ a2))]) (by decide) rfl (Nat.le_of_ble_eq_true rfl) rfl ?_
  intro p e s m args below meth c A Q C hret
  refine j_lload_n C 1 2 dX12_common_0 rfl rfl ?_
  refine y_lconst C 0 dX12_common_1 rfl ?_
  refine y_lcmp_ne C 10 dX12_common_2 dX12_common_3 (by decide) (by exact ⟨⟨ha2.1, ha2.2⟩, ⟨(by decide), (by decide)⟩⟩) (fun h101 => ?_) (fun h101 => ?_)
  · refine j_lload_n C 1 2 dX12_common_10 rfl rfl ?_
    refine j_lload_n C 0 0 dX12_common_11 rfl rfl ?_
    refine j_lload_n C 1 2 dX12_common_12 rfl rfl ?_
    refine y_lremA C dX12_common_13 (by exact ⟨⟨ha0.1, ha0.2⟩, ⟨⟨ha2.1, ha2.2⟩, h101⟩⟩) (fun a102 la102 ua102 ha102 => ?_)
    refine j_callSj C (d := 63) (As := [.long (sJ a2), .long (sJ a102)]) (st := []) (s64_X12_common hM0 a2 (by exact ⟨ha2.1, ha2.2⟩) a102 (by exact ⟨la102, ua102⟩) (by omega) (by omega) (by exact h101)) gX12_common_X12_common rfl hdX12_commons (by decide) (Nat.le_of_ble_eq_true rfl) dX12_common_14 rfl (fun r103 M104 h105 => ?_)
    obtain ⟨a107, rfl, rfl, h106⟩ := h105
    exact hret _ _ _ _ dX12_common_17 ⟨a107, rfl, rfl, by exact ⟨h106.1, ⟨h106.2.1, h106.2.2⟩⟩⟩
  · refine j_lload_n C 0 0 dX12_common_6 rfl rfl ?_
    refine j_goto C 17 dX12_common_7 (by decide) ?_
    exact hret _ _ _ _ dX12_common_17 ⟨a0, rfl, rfl, by exact ⟨ha0.1, ⟨ha0.2, hp2⟩⟩⟩
set_option maxHeartbeats 4000000 in
theorem s66_X12_common {l : Launch} {dC : Nat → ClassId} {dI : Nat → Nat → Nat} {ad : Nat → Nat} {cA : Nat → ClassId} {pr : Nat → Nat → Bool} {Kz : mm_M} {M0 : mm_M} (hM0 : INV pr Kz M0) (a0 : Int) (ha0 : -9223372036854775808 ≤ a0 ∧ a0 ≤ 9223372036854775807) (a2 : Int) (ha2 : -9223372036854775808 ≤ a2 ∧ a2 ≤ 9223372036854775807) (hp0 : (a2).natAbs < 27777890035288 ∨ (a0).natAbs < 44945570212853) (hp1 : (a2).natAbs ≤ (a0).natAbs) (hp2 : ¬ a0 = 0) : Cj l 65 yX12_common wsX12_common dC dI ad cA [.long (sJ a0), .long (sJ a2)] M0 (fun r M' => ∃ a : Int, r = sJ a ∧ M0 = M' ∧ (-9223372036854775808) ≤ a ∧ a ≤ 9223372036854775807 ∧ (¬ a = 0)) := by
  refine cj_of (cc := cX12_common) (maxL := 4) (lv := [(0, .long (sJ a0)), (2, .long (sJ a2))]) (by decide) rfl (Nat.le_of_ble_eq_true rfl) rfl ?_
  intro p e s m args below meth c A Q C hret
  refine j_lload_n C 1 2 dX12_common_0 rfl rfl ?_
  refine y_lconst C 0 dX12_common_1 rfl ?_
  refine y_lcmp_ne C 10 dX12_common_2 dX12_common_3 (by decide) (by exact ⟨⟨ha2.1, ha2.2⟩, ⟨(by decide), (by decide)⟩⟩) (fun h101 => ?_) (fun h101 => ?_)
  · refine j_lload_n C 1 2 dX12_common_10 rfl rfl ?_
    refine j_lload_n C 0 0 dX12_common_11 rfl rfl ?_
    refine j_lload_n C 1 2 dX12_common_12 rfl rfl ?_
    refine y_lremA C dX12_common_13 (by exact ⟨⟨ha0.1, ha0.2⟩, ⟨⟨ha2.1, ha2.2⟩, h101⟩⟩) (fun a102 la102 ua102 ha102 => ?_)
    refine j_callSj C (d := 64) (As := [.long (sJ a2), .long (sJ a102)]) (st := []) (s65_X12_common hM0 a2 (by exact ⟨ha2.1, ha2.2⟩) a102 (by exact ⟨la102, ua102⟩) (by omega) (by omega) (by exact h101)) gX12_common_X12_common rfl hdX12_commons (by decide) (Nat.le_of_ble_eq_true rfl) dX12_common_14 rfl (fun r103 M104 h105 => ?_)
    obtain ⟨a107, rfl, rfl, h106⟩ := h105
    exact hret _ _ _ _ dX12_common_17 ⟨a107, rfl, rfl, by exact ⟨h106.1, ⟨h106.2.1, h106.2.2⟩⟩⟩
  · refine j_lload_n C 0 0 dX12_common_6 rfl rfl ?_
    refine j_goto C 17 dX12_common_7 (by decide) ?_
    exact hret _ _ _ _ dX12_common_17 ⟨a0, rfl, rfl, by exact ⟨ha0.1, ⟨ha0.2, hp2⟩⟩⟩
set_option maxHeartbeats 4000000 in
theorem s67_X12_common {l : Launch} {dC : Nat → ClassId} {dI : Nat → Nat → Nat} {ad : Nat → Nat} {cA : Nat → ClassId} {pr : Nat → Nat → Bool} {Kz : mm_M} {M0 : mm_M} (hM0 : INV pr Kz M0) (a0 : Int) (ha0 : -9223372036854775808 ≤ a0 ∧ a0 ≤ 9223372036854775807) (a2 : Int) (ha2 : -9223372036854775808 ≤ a2 ∧ a2 ≤ 9223372036854775807) (hp0 : (a2).natAbs < 44945570212853 ∨ (a0).natAbs < 72723460248141) (hp1 : (a2).natAbs ≤ (a0).natAbs) (hp2 : ¬ a0 = 0) : Cj l 66 yX12_common wsX12_common dC dI ad cA [.long (sJ a0), .long (sJ a2)] M0 (fun r M' => ∃ a : Int, r = sJ a ∧ M0 = M' ∧ (-9223372036854775808) ≤ a ∧ a ≤ 9223372036854775807 ∧ (¬ a = 0)) := by
  refine cj_of (cc := cX12_common) (maxL := 4) (lv := [(0, .long (sJ a0)), (2, .long (sJ a2))]) (by decide) rfl (Nat.le_of_ble_eq_true rfl) rfl ?_
  intro p e s m args below meth c A Q C hret
  refine j_lload_n C 1 2 dX12_common_0 rfl rfl ?_
  refine y_lconst C 0 dX12_common_1 rfl ?_
  refine y_lcmp_ne C 10 dX12_common_2 dX12_common_3 (by decide) (by exact ⟨⟨ha2.1, ha2.2⟩, ⟨(by decide), (by decide)⟩⟩) (fun h101 => ?_) (fun h101 => ?_)
  · refine j_lload_n C 1 2 dX12_common_10 rfl rfl ?_
    refine j_lload_n C 0 0 dX12_common_11 rfl rfl ?_
    refine j_lload_n C 1 2 dX12_common_12 rfl rfl ?_
    refine y_lremA C dX12_common_13 (by exact ⟨⟨ha0.1, ha0.2⟩, ⟨⟨ha2.1, ha2.2⟩, h101⟩⟩) (fun a102 la102 ua102 ha102 => ?_)
    refine j_callSj C (d := 65) (As := [.long (sJ a2), .long (sJ a102)]) (st := []) (s66_X12_common hM0 a2 (by exact ⟨ha2.1, ha2.2⟩) a102 (by exact ⟨la102, ua102⟩) (by omega) (by omega) (by exact h101)) gX12_common_X12_common rfl hdX12_commons (by decide) (Nat.le_of_ble_eq_true rfl) dX12_common_14 rfl (fun r103 M104 h105 => ?_)
    obtain ⟨a107, rfl, rfl, h106⟩ := h105
    exact hret _ _ _ _ dX12_common_17 ⟨a107, rfl, rfl, by exact ⟨h106.1, ⟨h106.2.1, h106.2.2⟩⟩⟩
  · refine j_lload_n C 0 0 dX12_common_6 rfl rfl ?_
    refine j_goto C 17 dX12_common_7 (by decide) ?_
    exact hret _ _ _ _ dX12_common_17 ⟨a0, rfl, rfl, by exact ⟨ha0.1, ⟨ha0.2, hp2⟩⟩⟩
