set_option maxHeartbeats 4000000 in
theorem s3_X12_readBoth {l : Launch} {dC : Nat → ClassId} {dI : Nat → Nat → Nat} {ad : Nat → Nat} {cA : Nat → ClassId} {pr : Nat → Nat → Bool} {Kz : mm_M} {M0 : mm_M} (hM0 : INV pr Kz M0) (hpr : PM pr)  (hp0 : b01 (RIP M0) = 1) (hp1 : b01 (CA M0) = 1) (hp2 : b01 (PI M0) = 1) : Cv l 17 yX12_readBoth wsX12_readBoth dC dI ad cA [.ref (ad 98), .int (sI 4)] M0 (fun M' => INV pr Kz M' ∧ FR [98, 102] M0 M' ∧ (b01 (RIP M') = 1) ∧ ((M'.1 98 8).toInt = (M0.1 98 8).toInt) ∧ ((M0.1 98 6).toInt ≤ (M'.1 98 6).toInt) ∧ (b01 (XW M0 M' 0 1 0) = 1) ∧ (b01 (CA M') = 1) ∧ (b01 (PI M') = 1)) := by
  refine cv_of (cc := cX12_readBoth) (maxL := 2) (lv := [(0, .ref (ad 98)), (1, .int (sI 4))]) (by decide) rfl (Nat.le_of_ble_eq_true rfl) rfl ?_
  intro p e s m args below meth c A Q C hret
  have u101z := xw_0 M0
  have u101l := ri_l (M := M0) (by omega)
  refine j_aload_n C 0 0 dX12_readBoth_0 rfl rfl ?_
  refine j_iload_n C 1 1 dX12_readBoth_1 rfl rfl ?_
  refine j_callVv C (d := 16) (As := [.int (sI 4)]) (st := []) 98 (s_lt rfl rfl) (s_kc (c := 11) rfl rfl) (by decide) rfl (s3_X12_readUnit hM0 hpr (by omega) (by omega) (by omega)) gX12_readBoth_X12_readUnit rfl hdX12_readUnit (by decide) (Nat.le_of_ble_eq_true rfl) dX12_readBoth_2 rfl (fun M103 h104 => ?_)
  obtain ⟨hM103, fM103, h105⟩ := h104
  have u106l := ri_l (M := M103) (by omega)
  have L128 : ∀ (n126 : Nat), ∀ (M129 : mm_M), ((b01 (RIP M129) = 1) ∧ ((M129.1 98 8).toInt = (M0.1 98 8).toInt) ∧ ((M0.1 98 6).toInt ≤ (M129.1 98 6).toInt) ∧ (b01 (XW M0 M129 0 1 0) = 1) ∧ ((M129.1 98 6).toInt ≤ 900) ∧ (b01 (PI M129) = 1) ∧ (900 - (M129.1 98 6).toInt) < (n126 : Int)) → INV pr Kz M129 → FR [98, 102] M0 M129 → jj p l e (cn_R 17) s m args below meth c 0 0 Q 2 dC dI ad cA A M129 5 [(0, .ref (ad 98)), (1, .int (sI 4))] [] := by
    intro n126
    induction n126 with
    | zero =>
      intro M129 h130 hM129 fM129
      exfalso; omega
    | succ n126 ih127 =>
      intro M129 h130 hM129 fM129
      have u131l := ri_l (M := M129) (by omega)
      refine j_aload_n C 0 0 dX12_readBoth_5 rfl rfl ?_
      refine y_bipush C dX12_readBoth_6 rfl ?_
      refine j_callVi C (d := 6) (As := [.int (sI 14)]) (st := []) 98 (s_lt rfl rfl) (s_kc (c := 11) rfl rfl) (by decide) rfl (s1_X12_eats hM129 hpr 14 (by omega) (by omega) (by omega) (by omega)) gX12_readBoth_X12_eats rfl hdX12_eats (by decide) (Nat.le_of_ble_eq_true rfl) dX12_readBoth_8 rfl (fun r132 M133 h134 => ?_)
      obtain ⟨a136, rfl, hM133, fM133, h135⟩ := h134
      refine y_if_eq C 29 dX12_readBoth_11 (by decide) (by omega) (fun h137 => ?_) (fun h137 => ?_)
      · have u149c := xw_c (N := M129) (P := M133) 0 (FR.cell fM133 (by decide)) (by omega)
        have u149t := xw_t (M := M0) (N := M129) (P := M133) (r1 := 0) (e1 := 1) (s1 := 0) (r2 := 0) (e2 := 0) (s2 := 0) 0 1 0 (by decide) (by omega) (by omega)
        have u149a := ca_x (M := M0) (N := M133) (r := 0) (e := 1) (s := 0) (by decide) (by omega) (by omega)
        exact hret _ _ _ dX12_readBoth_29 ⟨hM133, ((FR.rf.tr fM129 (by decide)).tr fM133 (by decide)), by omega⟩
      · have u138c := xw_c (N := M129) (P := M133) 1 (FR.cell fM133 (by decide)) (by omega)
        have u138t := xw_t (M := M0) (N := M129) (P := M133) (r1 := 0) (e1 := 1) (s1 := 0) (r2 := 0) (e2 := 0) (s2 := 1) 0 1 1 (by decide) (by omega) (by omega)
        have u138a := ca_x (M := M0) (N := M133) (r := 0) (e := 1) (s := 1) (by decide) (by omega) (by omega)
        have u138l := ri_l (M := M133) (by omega)
        refine j_aload_n C 0 0 dX12_readBoth_14 rfl rfl ?_
        refine j_iload_n C 1 1 dX12_readBoth_15 rfl rfl ?_
        refine j_callVv C (d := 16) (As := [.int (sI 4)]) (st := []) 98 (s_lt rfl rfl) (s_kc (c := 11) rfl rfl) (by decide) rfl (s3_X12_readUnit hM133 hpr (by omega) (by omega) (by omega)) gX12_readBoth_X12_readUnit rfl hdX12_readUnit (by decide) (Nat.le_of_ble_eq_true rfl) dX12_readBoth_16 rfl (fun M140 h141 => ?_)
        obtain ⟨hM140, fM140, h142⟩ := h141
        have u143t := xw_t (M := M0) (N := M133) (P := M140) (r1 := 0) (e1 := 1) (s1 := 1) (r2 := 0) (e2 := 1) (s2 := 0) 0 2 1 (by decide) (by omega) (by omega)
        have u143l := ri_l (M := M140) (by omega)
        have u143b := cb_x (M := M0) (N := M140) (r := 0) (e := 2) (s := 1) (by decide) (by omega) (by omega) (by omega)
        refine j_aload_n C 0 0 dX12_readBoth_19 rfl rfl ?_
        refine y_sipush C dX12_readBoth_20 rfl ?_
        refine j_callVv C (d := 0) (As := [.int (sI 3007)]) (st := []) 98 (s_lt rfl rfl) (s_kc (c := 11) rfl rfl) (by decide) rfl (s1_X12_codes hM140 hpr 3007 (by omega) (by omega) (by omega)) gX12_readBoth_X12_codes rfl hdX12_codes (by decide) (Nat.le_of_ble_eq_true rfl) dX12_readBoth_23 rfl (fun M145 h146 => ?_)
        obtain ⟨hM145, fM145, h147⟩ := h146
        refine j_goto C 5 dX12_readBoth_26 (by decide) ?_
        have u148x := xw_a (M := M140) (N := M145) (c := 3007) (r := 2) (e := (-1)) (FR.cell fM145 (by decide)) (ap_bin ⟨(INV.rd hM140 (i := 102) (c := 48) (k := 280) rfl rfl).1, by omega, by omega⟩) (by omega)
        have u148t := xw_t (M := M0) (N := M140) (P := M145) (r1 := 0) (e1 := 2) (s1 := 1) (r2 := 2) (e2 := (-1)) (s2 := (-1)) 0 1 0 (by decide) (by omega) (by omega)
        have u148i := ri_c (M := M140) (N := M145) (FR.cell fM145 (by decide)) (by omega)
        have u148l := ri_l (M := M145) (by omega)
        have zz98_8 : (M145.1 98 8).toInt = (M140.1 98 8).toInt := s_fF fM145 (by decide) (rfl); have zz98_6 : (M145.1 98 6).toInt = (M140.1 98 6).toInt := s_fF fM145 (by decide) (rfl); exact ih127 M145 (by omega) hM145 ((((FR.rf.tr fM129 (by decide)).tr fM133 (by decide)).tr fM140 (by decide)).tr fM145 (by decide))
  exact L128 2010 M103 (by omega) hM103 (FR.rf.tr fM103 (by decide))
set_option maxHeartbeats 4000000 in
theorem s3_X12_readTruth {l : Launch} {dC : Nat → ClassId} {dI : Nat → Nat → Nat} {ad : Nat → Nat} {cA : Nat → ClassId} {pr : Nat → Nat → Bool} {Kz : mm_M} {M0 : mm_M} (hM0 : INV pr Kz M0) (hpr : PM pr)  (hp0 : b01 (RIP M0) = 1) (hp1 : b01 (CA M0) = 1) (hp2 : b01 (PI M0) = 1) : Cv l 18 yX12_readTruth wsX12_readTruth dC dI ad cA [.ref (ad 98), .int (sI 4)] M0 (fun M' => INV pr Kz M' ∧ FR [98, 102] M0 M' ∧ (b01 (RIP M') = 1) ∧ ((M'.1 98 8).toInt = (M0.1 98 8).toInt) ∧ ((M0.1 98 6).toInt ≤ (M'.1 98 6).toInt) ∧ (b01 (XW M0 M' 0 1 0) = 1) ∧ (b01 (CA M') = 1) ∧ (b01 (PI M') = 1)) := by
  refine cv_of (cc := cX12_readTruth) (maxL := 2) (lv := [(0, .ref (ad 98)), (1, .int (sI 4))]) (by decide) rfl (Nat.le_of_ble_eq_true rfl) rfl ?_
  intro p e s m args below meth c A Q C hret
  have u101z := xw_0 M0
  have u101l := ri_l (M := M0) (by omega)
  refine j_aload_n C 0 0 dX12_readTruth_0 rfl rfl ?_
  refine j_iload_n C 1 1 dX12_readTruth_1 rfl rfl ?_
  refine j_callVv C (d := 17) (As := [.int (sI 4)]) (st := []) 98 (s_lt rfl rfl) (s_kc (c := 11) rfl rfl) (by decide) rfl (s3_X12_readBoth hM0 hpr (by omega) (by omega) (by omega)) gX12_readTruth_X12_readBoth rfl hdX12_readBoth (by decide) (Nat.le_of_ble_eq_true rfl) dX12_readTruth_2 rfl (fun M103 h104 => ?_)
  obtain ⟨hM103, fM103, h105⟩ := h104
  have u106l := ri_l (M := M103) (by omega)
  have L128 : ∀ (n126 : Nat), ∀ (M129 : mm_M), ((b01 (RIP M129) = 1) ∧ ((M129.1 98 8).toInt = (M0.1 98 8).toInt) ∧ ((M0.1 98 6).toInt ≤ (M129.1 98 6).toInt) ∧ (b01 (XW M0 M129 0 1 0) = 1) ∧ ((M129.1 98 6).toInt ≤ 900) ∧ (b01 (PI M129) = 1) ∧ (900 - (M129.1 98 6).toInt) < (n126 : Int)) → INV pr Kz M129 → FR [98, 102] M0 M129 → jj p l e (cn_R 18) s m args below meth c 0 0 Q 2 dC dI ad cA A M129 5 [(0, .ref (ad 98)), (1, .int (sI 4))] [] := by
    intro n126
    induction n126 with
    | zero =>
      intro M129 h130 hM129 fM129
      exfalso; omega
    | succ n126 ih127 =>
      intro M129 h130 hM129 fM129
      have u131l := ri_l (M := M129) (by omega)
      refine j_aload_n C 0 0 dX12_readTruth_5 rfl rfl ?_
      refine y_bipush C dX12_readTruth_6 rfl ?_
      refine j_callVi C (d := 6) (As := [.int (sI 15)]) (st := []) 98 (s_lt rfl rfl) (s_kc (c := 11) rfl rfl) (by decide) rfl (s1_X12_eats hM129 hpr 15 (by omega) (by omega) (by omega) (by omega)) gX12_readTruth_X12_eats rfl hdX12_eats (by decide) (Nat.le_of_ble_eq_true rfl) dX12_readTruth_8 rfl (fun r132 M133 h134 => ?_)
      obtain ⟨a136, rfl, hM133, fM133, h135⟩ := h134
      refine y_if_eq C 29 dX12_readTruth_11 (by decide) (by omega) (fun h137 => ?_) (fun h137 => ?_)
      · have u149c := xw_c (N := M129) (P := M133) 0 (FR.cell fM133 (by decide)) (by omega)
        have u149t := xw_t (M := M0) (N := M129) (P := M133) (r1 := 0) (e1 := 1) (s1 := 0) (r2 := 0) (e2 := 0) (s2 := 0) 0 1 0 (by decide) (by omega) (by omega)
        have u149a := ca_x (M := M0) (N := M133) (r := 0) (e := 1) (s := 0) (by decide) (by omega) (by omega)
        exact hret _ _ _ dX12_readTruth_29 ⟨hM133, ((FR.rf.tr fM129 (by decide)).tr fM133 (by decide)), by omega⟩
      · have u138c := xw_c (N := M129) (P := M133) 1 (FR.cell fM133 (by decide)) (by omega)
        have u138t := xw_t (M := M0) (N := M129) (P := M133) (r1 := 0) (e1 := 1) (s1 := 0) (r2 := 0) (e2 := 0) (s2 := 1) 0 1 1 (by decide) (by omega) (by omega)
        have u138a := ca_x (M := M0) (N := M133) (r := 0) (e := 1) (s := 1) (by decide) (by omega) (by omega)
        have u138l := ri_l (M := M133) (by omega)
        refine j_aload_n C 0 0 dX12_readTruth_14 rfl rfl ?_
        refine j_iload_n C 1 1 dX12_readTruth_15 rfl rfl ?_
        refine j_callVv C (d := 17) (As := [.int (sI 4)]) (st := []) 98 (s_lt rfl rfl) (s_kc (c := 11) rfl rfl) (by decide) rfl (s3_X12_readBoth hM133 hpr (by omega) (by omega) (by omega)) gX12_readTruth_X12_readBoth rfl hdX12_readBoth (by decide) (Nat.le_of_ble_eq_true rfl) dX12_readTruth_16 rfl (fun M140 h141 => ?_)
        obtain ⟨hM140, fM140, h142⟩ := h141
        have u143t := xw_t (M := M0) (N := M133) (P := M140) (r1 := 0) (e1 := 1) (s1 := 1) (r2 := 0) (e2 := 1) (s2 := 0) 0 2 1 (by decide) (by omega) (by omega)
        have u143l := ri_l (M := M140) (by omega)
        have u143b := cb_x (M := M0) (N := M140) (r := 0) (e := 2) (s := 1) (by decide) (by omega) (by omega) (by omega)
        refine j_aload_n C 0 0 dX12_readTruth_19 rfl rfl ?_
        refine y_sipush C dX12_readTruth_20 rfl ?_
        refine j_callVv C (d := 0) (As := [.int (sI 3008)]) (st := []) 98 (s_lt rfl rfl) (s_kc (c := 11) rfl rfl) (by decide) rfl (s1_X12_codes hM140 hpr 3008 (by omega) (by omega) (by omega)) gX12_readTruth_X12_codes rfl hdX12_codes (by decide) (Nat.le_of_ble_eq_true rfl) dX12_readTruth_23 rfl (fun M145 h146 => ?_)
        obtain ⟨hM145, fM145, h147⟩ := h146
        refine j_goto C 5 dX12_readTruth_26 (by decide) ?_
        have u148x := xw_a (M := M140) (N := M145) (c := 3008) (r := 2) (e := (-1)) (FR.cell fM145 (by decide)) (ap_bin ⟨(INV.rd hM140 (i := 102) (c := 48) (k := 280) rfl rfl).1, by omega, by omega⟩) (by omega)
        have u148t := xw_t (M := M0) (N := M140) (P := M145) (r1 := 0) (e1 := 2) (s1 := 1) (r2 := 2) (e2 := (-1)) (s2 := (-1)) 0 1 0 (by decide) (by omega) (by omega)
        have u148i := ri_c (M := M140) (N := M145) (FR.cell fM145 (by decide)) (by omega)
        have u148l := ri_l (M := M145) (by omega)
        have zz98_8 : (M145.1 98 8).toInt = (M140.1 98 8).toInt := s_fF fM145 (by decide) (rfl); have zz98_6 : (M145.1 98 6).toInt = (M140.1 98 6).toInt := s_fF fM145 (by decide) (rfl); exact ih127 M145 (by omega) hM145 ((((FR.rf.tr fM129 (by decide)).tr fM133 (by decide)).tr fM140 (by decide)).tr fM145 (by decide))
  exact L128 2010 M103 (by omega) hM103 (FR.rf.tr fM103 (by decide))
set_option maxHeartbeats 4000000 in
theorem s4_X12_readUnit {l : Launch} {dC : Nat → ClassId} {dI : Nat → Nat → Nat} {ad : Nat → Nat} {cA : Nat → ClassId} {pr : Nat → Nat → Bool} {Kz : mm_M} {M0 : mm_M} (hM0 : INV pr Kz M0) (hpr : PM pr)  (hp0 : b01 (RIP M0) = 1) (hp1 : b01 (CA M0) = 1) (hp2 : b01 (PI M0) = 1) : Cv l 19 yX12_readUnit wsX12_readUnit dC dI ad cA [.ref (ad 98), .int (sI 3)] M0 (fun M' => INV pr Kz M' ∧ FR [98, 102] M0 M' ∧ (b01 (RIP M') = 1) ∧ ((M'.1 98 8).toInt = (M0.1 98 8).toInt) ∧ ((M0.1 98 6).toInt ≤ (M'.1 98 6).toInt) ∧ (b01 (XW M0 M' 0 1 0) = 1) ∧ (b01 (CA M') = 1) ∧ (b01 (PI M') = 1)) := by
  refine cv_of (cc := cX12_readUnit) (maxL := 3) (lv := [(0, .ref (ad 98)), (1, .int (sI 3))]) (by decide) rfl (Nat.le_of_ble_eq_true rfl) rfl ?_
  intro p e s m args below meth c A Q C hret
  have u101z := xw_0 M0
  have u101l := ri_l (M := M0) (by omega)
  refine j_aload_n C 0 0 dX12_readUnit_0 rfl rfl ?_
  refine y_bipush C dX12_readUnit_1 rfl ?_
  refine j_callVi C (d := 0) (As := [.int (sI 16)]) (st := []) 98 (s_lt rfl rfl) (s_kc (c := 11) rfl rfl) (by decide) rfl (s1_X12_is hM0 16 (by omega)) gX12_readUnit_X12_is rfl hdX12_is (by decide) (Nat.le_of_ble_eq_true rfl) dX12_readUnit_3 rfl (fun r102 M103 h104 => ?_)
  obtain ⟨a106, rfl, rfl, h105⟩ := h104
  refine y_if_eq C 33 dX12_readUnit_6 (by decide) (by omega) (fun h107 => ?_) (fun h107 => ?_)
  · refine j_aload_n C 0 0 dX12_readUnit_33 rfl rfl ?_
    refine y_bipush C dX12_readUnit_34 rfl ?_
    refine j_callVi C (d := 0) (As := [.int (sI 37)]) (st := []) 98 (s_lt rfl rfl) (s_kc (c := 11) rfl rfl) (by decide) rfl (s1_X12_is hM0 37 (by omega)) gX12_readUnit_X12_is rfl hdX12_is (by decide) (Nat.le_of_ble_eq_true rfl) dX12_readUnit_36 rfl (fun r108 M109 h110 => ?_)
    obtain ⟨a112, rfl, rfl, h111⟩ := h110
    refine y_if_eq C 73 dX12_readUnit_39 (by decide) (by omega) (fun h113 => ?_) (fun h113 => ?_)
    · refine j_aload_n C 0 0 dX12_readUnit_73 rfl rfl ?_
      refine j_iload_n C 1 1 dX12_readUnit_74 rfl rfl ?_
      refine j_callVv C (d := 18) (As := [.int (sI 3)]) (st := []) 98 (s_lt rfl rfl) (s_kc (c := 11) rfl rfl) (by decide) rfl (s4_X12_readSum hM0 hpr (by omega) (by omega) (by omega)) gX12_readUnit_X12_readSum rfl hdX12_readSum (by decide) (Nat.le_of_ble_eq_true rfl) dX12_readUnit_75 rfl (fun M115 h116 => ?_)
      obtain ⟨hM115, fM115, h117⟩ := h116
      have u118l := ri_l (M := M115) (by omega)
      refine j_aload_n C 0 0 dX12_readUnit_78 rfl rfl ?_
      refine y_bipush C dX12_readUnit_79 rfl ?_
      refine j_callVi C (d := 0) (As := [.int (sI 39)]) (st := []) 98 (s_lt rfl rfl) (s_kc (c := 11) rfl rfl) (by decide) rfl (s1_X12_is hM115 39 (by omega)) gX12_readUnit_X12_is rfl hdX12_is (by decide) (Nat.le_of_ble_eq_true rfl) dX12_readUnit_81 rfl (fun r119 M120 h121 => ?_)
      obtain ⟨a123, rfl, rfl, h122⟩ := h121
      have J132 : ∀ (a131 : Int), (3003 ≤ a131 ∧ a131 ≤ 3005) → jj p l e (cn_R 19) s m args below meth c 0 0 Q 3 dC dI ad cA A M115 111 [(0, .ref (ad 98)), (1, .int (sI 3))] [.int (sI a131)] := by
        intro a131 h133
        refine j_istore_n C 2 [(2, .int (sI a131)), (0, .ref (ad 98)), (1, .int (sI 3))] dX12_readUnit_111 rfl (by decide) rfl ?_
        refine j_aload_n C 1 0 dX12_readUnit_112 rfl rfl ?_
        refine y_bipush C dX12_readUnit_113 rfl ?_
        refine j_callVi C (d := 0) (As := [.int (sI 39)]) (st := []) 98 (s_lt rfl rfl) (s_kc (c := 11) rfl rfl) (by decide) rfl (s1_X12_is hM115 39 (by omega)) gX12_readUnit_X12_is rfl hdX12_is (by decide) (Nat.le_of_ble_eq_true rfl) dX12_readUnit_115 rfl (fun r134 M135 h136 => ?_)
        obtain ⟨a138, rfl, rfl, h137⟩ := h136
        have J176 : ∀ (M175 : mm_M), ((b01 (RIP M175) = 1) ∧ ((M175.1 98 8).toInt = (M0.1 98 8).toInt) ∧ ((M0.1 98 6).toInt ≤ (M175.1 98 6).toInt) ∧ (b01 (XW M0 M175 0 1 1) = 1) ∧ (b01 (PI M175) = 1)) → INV pr Kz M175 → FR [98, 102] M0 M175 → jj p l e (cn_R 19) s m args below meth c 0 0 Q 3 dC dI ad cA A M175 151 [(0, .ref (ad 98)), (1, .int (sI 3)), (2, .int (sI a131))] [] := by
          intro M175 h177 hM175 fM175
          have u179a := ca_x (M := M0) (N := M175) (r := 0) (e := 1) (s := 1) (by decide) (by omega) (by omega)
          have u179l := ri_l (M := M175) (by omega)
          refine j_aload_n C 0 0 dX12_readUnit_151 rfl rfl ?_
          refine j_iload_n C 1 1 dX12_readUnit_152 rfl rfl ?_
          refine j_callVv C (d := 18) (As := [.int (sI 3)]) (st := []) 98 (s_lt rfl rfl) (s_kc (c := 11) rfl rfl) (by decide) rfl (s4_X12_readSum hM175 hpr (by omega) (by omega) (by omega)) gX12_readUnit_X12_readSum rfl hdX12_readSum (by decide) (Nat.le_of_ble_eq_true rfl) dX12_readUnit_153 rfl (fun M181 h182 => ?_)
          obtain ⟨hM181, fM181, h183⟩ := h182
          have u184t := xw_t (M := M0) (N := M175) (P := M181) (r1 := 0) (e1 := 1) (s1 := 1) (r2 := 0) (e2 := 1) (s2 := 0) 0 2 1 (by decide) (by omega) (by omega)
          have u184l := ri_l (M := M181) (by omega)
          have u184b := cb_x (M := M0) (N := M181) (r := 0) (e := 2) (s := 1) (by decide) (by omega) (by omega) (by omega)
          refine j_aload_n C 0 0 dX12_readUnit_156 rfl rfl ?_
          refine j_iload_n C 2 2 dX12_readUnit_157 rfl rfl ?_
          refine j_callVv C (d := 0) (As := [.int (sI a131)]) (st := []) 98 (s_lt rfl rfl) (s_kc (c := 11) rfl rfl) (by decide) rfl (s1_X12_codes hM181 hpr a131 (by omega) (by omega) (by omega)) gX12_readUnit_X12_codes rfl hdX12_codes (by decide) (Nat.le_of_ble_eq_true rfl) dX12_readUnit_158 rfl (fun M186 h187 => ?_)
          obtain ⟨hM186, fM186, h188⟩ := h187
          have u189x := xw_a (M := M181) (N := M186) (c := a131) (r := 2) (e := (-1)) (FR.cell fM186 (by decide)) (ap_bin ⟨(INV.rd hM181 (i := 102) (c := 48) (k := 280) rfl rfl).1, by omega, by omega⟩) (by omega)
          have u189t := xw_t (M := M0) (N := M181) (P := M186) (r1 := 0) (e1 := 2) (s1 := 1) (r2 := 2) (e2 := (-1)) (s2 := (-1)) 0 1 0 (by decide) (by omega) (by omega)
          have u189i := ri_c (M := M181) (N := M186) (FR.cell fM186 (by decide)) (by omega)
          have u189l := ri_l (M := M186) (by omega)
          have u189a := ca_x (M := M0) (N := M186) (r := 0) (e := 1) (s := 0) (by decide) (by omega) (by omega)
          have zz98_6 : (M186.1 98 6).toInt = (M181.1 98 6).toInt := s_fF fM186 (by decide) (rfl); have zz98_8 : (M186.1 98 8).toInt = (M181.1 98 8).toInt := s_fF fM186 (by decide) (rfl); exact hret _ _ _ dX12_readUnit_161 ⟨hM186, (((FR.rf.tr fM175 (by decide)).tr fM181 (by decide)).tr fM186 (by decide)), by omega⟩
        refine y_if_ne C 139 dX12_readUnit_118 (by decide) (by omega) (fun h139 => ?_) (fun h139 => ?_)
        · have u140k := ri_k (M := M115) (by omega) (by omega)
          refine j_aload_n C 1 0 dX12_readUnit_139 rfl rfl ?_
          refine j_callVv C (d := 5) (As := []) (st := []) 98 (s_lt rfl rfl) (s_kc (c := 11) rfl rfl) (by decide) rfl (s1_X12_next hM115 hpr (by omega) (by omega) (by omega)) gX12_readUnit_X12_next rfl hdX12_next (by decide) (Nat.le_of_ble_eq_true rfl) dX12_readUnit_140 rfl (fun M142 h143 => ?_)
          obtain ⟨hM142, fM142, h144⟩ := h143
          refine j_goto C 151 dX12_readUnit_143 (by decide) ?_
          have u145c := xw_c (N := M115) (P := M142) 1 (FR.cell fM142 (by decide)) (by omega)
          have u145t := xw_t (M := M0) (N := M115) (P := M142) (r1 := 0) (e1 := 1) (s1 := 0) (r2 := 0) (e2 := 0) (s2 := 1) 0 1 1 (by decide) (by omega) (by omega)
          have u145l := ri_l (M := M142) (by omega)
          refine j_lv [1, 2, 0] rfl ?_; exact J176 M142 (by omega) hM142 ((FR.rf.tr fM115 (by decide)).tr fM142 (by decide))
        · refine j_aload_n C 1 0 dX12_readUnit_121 rfl rfl ?_
          refine y_bipush C dX12_readUnit_122 rfl ?_
          refine j_callVi C (d := 0) (As := [.int (sI 40)]) (st := []) 98 (s_lt rfl rfl) (s_kc (c := 11) rfl rfl) (by decide) rfl (s1_X12_is hM115 40 (by omega)) gX12_readUnit_X12_is rfl hdX12_is (by decide) (Nat.le_of_ble_eq_true rfl) dX12_readUnit_124 rfl (fun r146 M147 h148 => ?_)
          obtain ⟨a150, rfl, rfl, h149⟩ := h148
          refine y_if_ne C 139 dX12_readUnit_127 (by decide) (by omega) (fun h151 => ?_) (fun h151 => ?_)
          · have u152k := ri_k (M := M115) (by omega) (by omega)
            refine j_aload_n C 1 0 dX12_readUnit_139 rfl rfl ?_
            refine j_callVv C (d := 5) (As := []) (st := []) 98 (s_lt rfl rfl) (s_kc (c := 11) rfl rfl) (by decide) rfl (s1_X12_next hM115 hpr (by omega) (by omega) (by omega)) gX12_readUnit_X12_next rfl hdX12_next (by decide) (Nat.le_of_ble_eq_true rfl) dX12_readUnit_140 rfl (fun M154 h155 => ?_)
            obtain ⟨hM154, fM154, h156⟩ := h155
            refine j_goto C 151 dX12_readUnit_143 (by decide) ?_
            have u157c := xw_c (N := M115) (P := M154) 1 (FR.cell fM154 (by decide)) (by omega)
            have u157t := xw_t (M := M0) (N := M115) (P := M154) (r1 := 0) (e1 := 1) (s1 := 0) (r2 := 0) (e2 := 0) (s2 := 1) 0 1 1 (by decide) (by omega) (by omega)
            have u157l := ri_l (M := M154) (by omega)
            refine j_lv [1, 2, 0] rfl ?_; exact J176 M154 (by omega) hM154 ((FR.rf.tr fM115 (by decide)).tr fM154 (by decide))
          · refine j_aload_n C 1 0 dX12_readUnit_130 rfl rfl ?_
            refine y_bipush C dX12_readUnit_131 rfl ?_
            refine j_callVi C (d := 0) (As := [.int (sI 41)]) (st := []) 98 (s_lt rfl rfl) (s_kc (c := 11) rfl rfl) (by decide) rfl (s1_X12_is hM115 41 (by omega)) gX12_readUnit_X12_is rfl hdX12_is (by decide) (Nat.le_of_ble_eq_true rfl) dX12_readUnit_133 rfl (fun r158 M159 h160 => ?_)
            obtain ⟨a162, rfl, rfl, h161⟩ := h160
            refine y_if_eq C 146 dX12_readUnit_136 (by decide) (by omega) (fun h163 => ?_) (fun h163 => ?_)
            · refine j_aload_n C 1 0 dX12_readUnit_146 rfl rfl ?_
              refine y_iconst C dX12_readUnit_147 ?_
              refine j_callVv C (d := 0) (As := [.int (sI 2)]) (st := []) 98 (s_lt rfl rfl) (s_kc (c := 11) rfl rfl) (by decide) rfl (s1_X12_fails hM115 hpr 2 (by omega) (by omega) (by omega) (by omega)) gX12_readUnit_X12_fails rfl hdX12_fails (by decide) (Nat.le_of_ble_eq_true rfl) dX12_readUnit_148 rfl (fun M165 h166 => ?_)
              obtain ⟨hM165, fM165, h167⟩ := h166
              have u168f : b01 (XW M0 M165 0 1 1) = 1 := b01_i (Or.inl (by omega))
              have u168l := ri_l (M := M165) (by omega)
              refine j_lv [1, 2, 0] rfl ?_; exact J176 M165 (by omega) hM165 ((FR.rf.tr fM115 (by decide)).tr fM165 (by decide))
            · have u169k := ri_k (M := M115) (by omega) (by omega)
              refine j_aload_n C 1 0 dX12_readUnit_139 rfl rfl ?_
              refine j_callVv C (d := 5) (As := []) (st := []) 98 (s_lt rfl rfl) (s_kc (c := 11) rfl rfl) (by decide) rfl (s1_X12_next hM115 hpr (by omega) (by omega) (by omega)) gX12_readUnit_X12_next rfl hdX12_next (by decide) (Nat.le_of_ble_eq_true rfl) dX12_readUnit_140 rfl (fun M171 h172 => ?_)
              obtain ⟨hM171, fM171, h173⟩ := h172
              refine j_goto C 151 dX12_readUnit_143 (by decide) ?_
              have u174c := xw_c (N := M115) (P := M171) 1 (FR.cell fM171 (by decide)) (by omega)
              have u174t := xw_t (M := M0) (N := M115) (P := M171) (r1 := 0) (e1 := 1) (s1 := 0) (r2 := 0) (e2 := 0) (s2 := 1) 0 1 1 (by decide) (by omega) (by omega)
              have u174l := ri_l (M := M171) (by omega)
              refine j_lv [1, 2, 0] rfl ?_; exact J176 M171 (by omega) hM171 ((FR.rf.tr fM115 (by decide)).tr fM171 (by decide))
      refine y_if_eq C 93 dX12_readUnit_84 (by decide) (by omega) (fun h124 => ?_) (fun h124 => ?_)
      · refine j_aload_n C 0 0 dX12_readUnit_93 rfl rfl ?_
        refine y_bipush C dX12_readUnit_94 rfl ?_
        refine j_callVi C (d := 0) (As := [.int (sI 40)]) (st := []) 98 (s_lt rfl rfl) (s_kc (c := 11) rfl rfl) (by decide) rfl (s1_X12_is hM115 40 (by omega)) gX12_readUnit_X12_is rfl hdX12_is (by decide) (Nat.le_of_ble_eq_true rfl) dX12_readUnit_96 rfl (fun r125 M126 h127 => ?_)
        obtain ⟨a129, rfl, rfl, h128⟩ := h127
        refine y_if_eq C 108 dX12_readUnit_99 (by decide) (by omega) (fun h130 => ?_) (fun h130 => ?_)
        · refine y_sipush C dX12_readUnit_108 rfl ?_
          exact J132 3005 (by omega)
        · refine y_sipush C dX12_readUnit_102 rfl ?_
          refine j_goto C 111 dX12_readUnit_105 (by decide) ?_
          exact J132 3004 (by omega)
      · refine y_sipush C dX12_readUnit_87 rfl ?_
        refine j_goto C 111 dX12_readUnit_90 (by decide) ?_
        exact J132 3003 (by omega)
    · have u190k := ri_k (M := M0) (by omega) (by omega)
      refine j_aload_n C 0 0 dX12_readUnit_42 rfl rfl ?_
      refine j_iload_n C 1 1 dX12_readUnit_43 rfl rfl ?_
      refine j_callVi C (d := 6) (As := [.int (sI 3)]) (st := []) 98 (s_lt rfl rfl) (s_kc (c := 11) rfl rfl) (by decide) rfl (s4_X12_goesIn hM0 hpr (by omega) (by omega)) gX12_readUnit_X12_goesIn rfl hdX12_goesIn (by decide) (Nat.le_of_ble_eq_true rfl) dX12_readUnit_44 rfl (fun r191 M192 h193 => ?_)
      obtain ⟨a195, rfl, hM192, fM192, h194⟩ := h193
      refine y_if_ne C 51 dX12_readUnit_47 (by decide) (by omega) (fun h196 => ?_) (fun h196 => ?_)
      · have u197c := xw_c (N := M0) (P := M192) 1 (FR.cell fM192 (by decide)) (by omega)
        have u197t := xw_t (M := M0) (N := M0) (P := M192) (r1 := 0) (e1 := 0) (s1 := 0) (r2 := 0) (e2 := 0) (s2 := 1) 0 0 1 (by decide) (by omega) (by omega)
        have u197a := ca_x (M := M0) (N := M192) (r := 0) (e := 0) (s := 1) (by decide) (by omega) (by omega)
        have u197l := ri_l (M := M192) (by omega)
        refine j_aload_n C 0 0 dX12_readUnit_51 rfl rfl ?_
        refine j_iload_n C 1 1 dX12_readUnit_52 rfl rfl ?_
        refine y_iconst C dX12_readUnit_53 ?_
        refine y_iadd C dX12_readUnit_54 ?_
        refine j_callVv C (d := 18) (As := [.int (sI (3 + 1))]) (st := []) 98 (s_lt rfl rfl) (s_kc (c := 11) rfl rfl) (by decide) rfl (s3_X12_readTruth hM192 hpr (by omega) (by omega) (by omega)) gX12_readUnit_X12_readTruth rfl hdX12_readTruth (by decide) (Nat.le_of_ble_eq_true rfl) dX12_readUnit_55 rfl (fun M199 h200 => ?_)
        obtain ⟨hM199, fM199, h201⟩ := h200
        have u202t := xw_t (M := M0) (N := M192) (P := M199) (r1 := 0) (e1 := 0) (s1 := 1) (r2 := 0) (e2 := 1) (s2 := 0) 0 1 1 (by decide) (by omega) (by omega)
        have u202l := ri_l (M := M199) (by omega)
        refine j_aload_n C 0 0 dX12_readUnit_58 rfl rfl ?_
        refine y_bipush C dX12_readUnit_59 rfl ?_
        refine j_callVi C (d := 6) (As := [.int (sI 38)]) (st := []) 98 (s_lt rfl rfl) (s_kc (c := 11) rfl rfl) (by decide) rfl (s1_X12_eats hM199 hpr 38 (by omega) (by omega) (by omega) (by omega)) gX12_readUnit_X12_eats rfl hdX12_eats (by decide) (Nat.le_of_ble_eq_true rfl) dX12_readUnit_61 rfl (fun r203 M204 h205 => ?_)
        obtain ⟨a207, rfl, hM204, fM204, h206⟩ := h205
        have u208c := xw_c (N := M199) (P := M204) 0 (FR.cell fM204 (by decide)) (by omega)
        have u208t := xw_t (M := M0) (N := M199) (P := M204) (r1 := 0) (e1 := 1) (s1 := 1) (r2 := 0) (e2 := 0) (s2 := 0) 0 1 0 (by decide) (by omega) (by omega)
        have u208l := ri_l (M := M204) (by omega)
        refine y_if_ne C 72 dX12_readUnit_64 (by decide) (by omega) (fun h209 => ?_) (fun h209 => ?_)
        · have u210a := ca_x (M := M0) (N := M204) (r := 0) (e := 1) (s := 0) (by decide) (by omega) (by omega)
          exact hret _ _ _ dX12_readUnit_72 ⟨hM204, (((FR.rf.tr fM192 (by decide)).tr fM199 (by decide)).tr fM204 (by decide)), by omega⟩
        · refine j_aload_n C 0 0 dX12_readUnit_67 rfl rfl ?_
          refine y_iconst C dX12_readUnit_68 ?_
          refine j_callVv C (d := 0) (As := [.int (sI 2)]) (st := []) 98 (s_lt rfl rfl) (s_kc (c := 11) rfl rfl) (by decide) rfl (s1_X12_fails hM204 hpr 2 (by omega) (by omega) (by omega) (by omega)) gX12_readUnit_X12_fails rfl hdX12_fails (by decide) (Nat.le_of_ble_eq_true rfl) dX12_readUnit_69 rfl (fun M212 h213 => ?_)
          obtain ⟨hM212, fM212, h214⟩ := h213
          have u215f : b01 (XW M0 M212 0 1 0) = 1 := b01_i (Or.inl (by omega))
          have u215a := ca_x (M := M0) (N := M212) (r := 0) (e := 1) (s := 0) (by decide) (by omega) (by omega)
          exact hret _ _ _ dX12_readUnit_72 ⟨hM212, ((((FR.rf.tr fM192 (by decide)).tr fM199 (by decide)).tr fM204 (by decide)).tr fM212 (by decide)), by omega⟩
      · have u216f : b01 (XW M0 M192 0 1 0) = 1 := b01_i (Or.inl (by omega))
        have u216a := ca_x (M := M0) (N := M192) (r := 0) (e := 1) (s := 0) (by decide) (by omega) (by omega)
        exact hret _ _ _ dX12_readUnit_50 ⟨hM192, (FR.rf.tr fM192 (by decide)), by omega⟩
  · have u217k := ri_k (M := M0) (by omega) (by omega)
    refine j_aload_n C 0 0 dX12_readUnit_9 rfl rfl ?_
    refine j_iload_n C 1 1 dX12_readUnit_10 rfl rfl ?_
    refine j_callVi C (d := 6) (As := [.int (sI 3)]) (st := []) 98 (s_lt rfl rfl) (s_kc (c := 11) rfl rfl) (by decide) rfl (s4_X12_goesIn hM0 hpr (by omega) (by omega)) gX12_readUnit_X12_goesIn rfl hdX12_goesIn (by decide) (Nat.le_of_ble_eq_true rfl) dX12_readUnit_11 rfl (fun r218 M219 h220 => ?_)
    obtain ⟨a222, rfl, hM219, fM219, h221⟩ := h220
    refine y_if_ne C 18 dX12_readUnit_14 (by decide) (by omega) (fun h223 => ?_) (fun h223 => ?_)
    · have u224c := xw_c (N := M0) (P := M219) 1 (FR.cell fM219 (by decide)) (by omega)
      have u224t := xw_t (M := M0) (N := M0) (P := M219) (r1 := 0) (e1 := 0) (s1 := 0) (r2 := 0) (e2 := 0) (s2 := 1) 0 0 1 (by decide) (by omega) (by omega)
      have u224a := ca_x (M := M0) (N := M219) (r := 0) (e := 0) (s := 1) (by decide) (by omega) (by omega)
      have u224l := ri_l (M := M219) (by omega)
      refine j_aload_n C 0 0 dX12_readUnit_18 rfl rfl ?_
      refine j_iload_n C 1 1 dX12_readUnit_19 rfl rfl ?_
      refine y_iconst C dX12_readUnit_20 ?_
      refine y_iadd C dX12_readUnit_21 ?_
      refine j_callVv C (d := 16) (As := [.int (sI (3 + 1))]) (st := []) 98 (s_lt rfl rfl) (s_kc (c := 11) rfl rfl) (by decide) rfl (s3_X12_readUnit hM219 hpr (by omega) (by omega) (by omega)) gX12_readUnit_X12_readUnit rfl hdX12_readUnit (by decide) (Nat.le_of_ble_eq_true rfl) dX12_readUnit_22 rfl (fun M226 h227 => ?_)
      obtain ⟨hM226, fM226, h228⟩ := h227
      have u229t := xw_t (M := M0) (N := M219) (P := M226) (r1 := 0) (e1 := 0) (s1 := 1) (r2 := 0) (e2 := 1) (s2 := 0) 0 1 1 (by decide) (by omega) (by omega)
      have u229l := ri_l (M := M226) (by omega)
      have u229b := cb_x (M := M0) (N := M226) (r := 0) (e := 1) (s := 1) (by decide) (by omega) (by omega) (by omega)
      refine j_aload_n C 0 0 dX12_readUnit_25 rfl rfl ?_
      refine y_sipush C dX12_readUnit_26 rfl ?_
      refine j_callVv C (d := 0) (As := [.int (sI 3006)]) (st := []) 98 (s_lt rfl rfl) (s_kc (c := 11) rfl rfl) (by decide) rfl (s1_X12_codes hM226 hpr 3006 (by omega) (by omega) (by omega)) gX12_readUnit_X12_codes rfl hdX12_codes (by decide) (Nat.le_of_ble_eq_true rfl) dX12_readUnit_29 rfl (fun M231 h232 => ?_)
      obtain ⟨hM231, fM231, h233⟩ := h232
      have u234x := xw_a (M := M226) (N := M231) (c := 3006) (r := 1) (e := 0) (FR.cell fM231 (by decide)) (ap_not (INV.rd hM226 (i := 102) (c := 48) (k := 280) rfl rfl).1) (by omega)
      have u234t := xw_t (M := M0) (N := M226) (P := M231) (r1 := 0) (e1 := 1) (s1 := 1) (r2 := 1) (e2 := 0) (s2 := (-1)) 0 1 0 (by decide) (by omega) (by omega)
      have u234i := ri_c (M := M226) (N := M231) (FR.cell fM231 (by decide)) (by omega)
      have u234l := ri_l (M := M231) (by omega)
      have u234a := ca_x (M := M0) (N := M231) (r := 0) (e := 1) (s := 0) (by decide) (by omega) (by omega)
      have zz98_6 : (M231.1 98 6).toInt = (M226.1 98 6).toInt := s_fF fM231 (by decide) (rfl); have zz98_8 : (M231.1 98 8).toInt = (M226.1 98 8).toInt := s_fF fM231 (by decide) (rfl); exact hret _ _ _ dX12_readUnit_32 ⟨hM231, (((FR.rf.tr fM219 (by decide)).tr fM226 (by decide)).tr fM231 (by decide)), by omega⟩
    · have u235f : b01 (XW M0 M219 0 1 0) = 1 := b01_i (Or.inl (by omega))
      have u235a := ca_x (M := M0) (N := M219) (r := 0) (e := 1) (s := 0) (by decide) (by omega) (by omega)
      exact hret _ _ _ dX12_readUnit_17 ⟨hM219, (FR.rf.tr fM219 (by decide)), by omega⟩
set_option maxHeartbeats 4000000 in
theorem s4_X12_readBoth {l : Launch} {dC : Nat → ClassId} {dI : Nat → Nat → Nat} {ad : Nat → Nat} {cA : Nat → ClassId} {pr : Nat → Nat → Bool} {Kz : mm_M} {M0 : mm_M} (hM0 : INV pr Kz M0) (hpr : PM pr)  (hp0 : b01 (RIP M0) = 1) (hp1 : b01 (CA M0) = 1) (hp2 : b01 (PI M0) = 1) : Cv l 20 yX12_readBoth wsX12_readBoth dC dI ad cA [.ref (ad 98), .int (sI 3)] M0 (fun M' => INV pr Kz M' ∧ FR [98, 102] M0 M' ∧ (b01 (RIP M') = 1) ∧ ((M'.1 98 8).toInt = (M0.1 98 8).toInt) ∧ ((M0.1 98 6).toInt ≤ (M'.1 98 6).toInt) ∧ (b01 (XW M0 M' 0 1 0) = 1) ∧ (b01 (CA M') = 1) ∧ (b01 (PI M') = 1)) := by
  refine cv_of (cc := cX12_readBoth) (maxL := 2) (lv := [(0, .ref (ad 98)), (1, .int (sI 3))]) (by decide) rfl (Nat.le_of_ble_eq_true rfl) rfl ?_
  intro p e s m args below meth c A Q C hret
  have u101z := xw_0 M0
  have u101l := ri_l (M := M0) (by omega)
  refine j_aload_n C 0 0 dX12_readBoth_0 rfl rfl ?_
  refine j_iload_n C 1 1 dX12_readBoth_1 rfl rfl ?_
  refine j_callVv C (d := 19) (As := [.int (sI 3)]) (st := []) 98 (s_lt rfl rfl) (s_kc (c := 11) rfl rfl) (by decide) rfl (s4_X12_readUnit hM0 hpr (by omega) (by omega) (by omega)) gX12_readBoth_X12_readUnit rfl hdX12_readUnit (by decide) (Nat.le_of_ble_eq_true rfl) dX12_readBoth_2 rfl (fun M103 h104 => ?_)
  obtain ⟨hM103, fM103, h105⟩ := h104
  have u106l := ri_l (M := M103) (by omega)
  have L128 : ∀ (n126 : Nat), ∀ (M129 : mm_M), ((b01 (RIP M129) = 1) ∧ ((M129.1 98 8).toInt = (M0.1 98 8).toInt) ∧ ((M0.1 98 6).toInt ≤ (M129.1 98 6).toInt) ∧ (b01 (XW M0 M129 0 1 0) = 1) ∧ ((M129.1 98 6).toInt ≤ 900) ∧ (b01 (PI M129) = 1) ∧ (900 - (M129.1 98 6).toInt) < (n126 : Int)) → INV pr Kz M129 → FR [98, 102] M0 M129 → jj p l e (cn_R 20) s m args below meth c 0 0 Q 2 dC dI ad cA A M129 5 [(0, .ref (ad 98)), (1, .int (sI 3))] [] := by
    intro n126
    induction n126 with
    | zero =>
      intro M129 h130 hM129 fM129
      exfalso; omega
    | succ n126 ih127 =>
      intro M129 h130 hM129 fM129
      have u131l := ri_l (M := M129) (by omega)
      refine j_aload_n C 0 0 dX12_readBoth_5 rfl rfl ?_
      refine y_bipush C dX12_readBoth_6 rfl ?_
      refine j_callVi C (d := 6) (As := [.int (sI 14)]) (st := []) 98 (s_lt rfl rfl) (s_kc (c := 11) rfl rfl) (by decide) rfl (s1_X12_eats hM129 hpr 14 (by omega) (by omega) (by omega) (by omega)) gX12_readBoth_X12_eats rfl hdX12_eats (by decide) (Nat.le_of_ble_eq_true rfl) dX12_readBoth_8 rfl (fun r132 M133 h134 => ?_)
      obtain ⟨a136, rfl, hM133, fM133, h135⟩ := h134
      refine y_if_eq C 29 dX12_readBoth_11 (by decide) (by omega) (fun h137 => ?_) (fun h137 => ?_)
      · have u149c := xw_c (N := M129) (P := M133) 0 (FR.cell fM133 (by decide)) (by omega)
        have u149t := xw_t (M := M0) (N := M129) (P := M133) (r1 := 0) (e1 := 1) (s1 := 0) (r2 := 0) (e2 := 0) (s2 := 0) 0 1 0 (by decide) (by omega) (by omega)
        have u149a := ca_x (M := M0) (N := M133) (r := 0) (e := 1) (s := 0) (by decide) (by omega) (by omega)
        exact hret _ _ _ dX12_readBoth_29 ⟨hM133, ((FR.rf.tr fM129 (by decide)).tr fM133 (by decide)), by omega⟩
      · have u138c := xw_c (N := M129) (P := M133) 1 (FR.cell fM133 (by decide)) (by omega)
        have u138t := xw_t (M := M0) (N := M129) (P := M133) (r1 := 0) (e1 := 1) (s1 := 0) (r2 := 0) (e2 := 0) (s2 := 1) 0 1 1 (by decide) (by omega) (by omega)
        have u138a := ca_x (M := M0) (N := M133) (r := 0) (e := 1) (s := 1) (by decide) (by omega) (by omega)
        have u138l := ri_l (M := M133) (by omega)
        refine j_aload_n C 0 0 dX12_readBoth_14 rfl rfl ?_
        refine j_iload_n C 1 1 dX12_readBoth_15 rfl rfl ?_
        refine j_callVv C (d := 19) (As := [.int (sI 3)]) (st := []) 98 (s_lt rfl rfl) (s_kc (c := 11) rfl rfl) (by decide) rfl (s4_X12_readUnit hM133 hpr (by omega) (by omega) (by omega)) gX12_readBoth_X12_readUnit rfl hdX12_readUnit (by decide) (Nat.le_of_ble_eq_true rfl) dX12_readBoth_16 rfl (fun M140 h141 => ?_)
        obtain ⟨hM140, fM140, h142⟩ := h141
        have u143t := xw_t (M := M0) (N := M133) (P := M140) (r1 := 0) (e1 := 1) (s1 := 1) (r2 := 0) (e2 := 1) (s2 := 0) 0 2 1 (by decide) (by omega) (by omega)
        have u143l := ri_l (M := M140) (by omega)
        have u143b := cb_x (M := M0) (N := M140) (r := 0) (e := 2) (s := 1) (by decide) (by omega) (by omega) (by omega)
        refine j_aload_n C 0 0 dX12_readBoth_19 rfl rfl ?_
        refine y_sipush C dX12_readBoth_20 rfl ?_
        refine j_callVv C (d := 0) (As := [.int (sI 3007)]) (st := []) 98 (s_lt rfl rfl) (s_kc (c := 11) rfl rfl) (by decide) rfl (s1_X12_codes hM140 hpr 3007 (by omega) (by omega) (by omega)) gX12_readBoth_X12_codes rfl hdX12_codes (by decide) (Nat.le_of_ble_eq_true rfl) dX12_readBoth_23 rfl (fun M145 h146 => ?_)
        obtain ⟨hM145, fM145, h147⟩ := h146
        refine j_goto C 5 dX12_readBoth_26 (by decide) ?_
        have u148x := xw_a (M := M140) (N := M145) (c := 3007) (r := 2) (e := (-1)) (FR.cell fM145 (by decide)) (ap_bin ⟨(INV.rd hM140 (i := 102) (c := 48) (k := 280) rfl rfl).1, by omega, by omega⟩) (by omega)
        have u148t := xw_t (M := M0) (N := M140) (P := M145) (r1 := 0) (e1 := 2) (s1 := 1) (r2 := 2) (e2 := (-1)) (s2 := (-1)) 0 1 0 (by decide) (by omega) (by omega)
        have u148i := ri_c (M := M140) (N := M145) (FR.cell fM145 (by decide)) (by omega)
        have u148l := ri_l (M := M145) (by omega)
        have zz98_8 : (M145.1 98 8).toInt = (M140.1 98 8).toInt := s_fF fM145 (by decide) (rfl); have zz98_6 : (M145.1 98 6).toInt = (M140.1 98 6).toInt := s_fF fM145 (by decide) (rfl); exact ih127 M145 (by omega) hM145 ((((FR.rf.tr fM129 (by decide)).tr fM133 (by decide)).tr fM140 (by decide)).tr fM145 (by decide))
  exact L128 2010 M103 (by omega) hM103 (FR.rf.tr fM103 (by decide))
set_option maxHeartbeats 4000000 in
theorem s4_X12_readTruth {l : Launch} {dC : Nat → ClassId} {dI : Nat → Nat → Nat} {ad : Nat → Nat} {cA : Nat → ClassId} {pr : Nat → Nat → Bool} {Kz : mm_M} {M0 : mm_M} (hM0 : INV pr Kz M0) (hpr : PM pr)  (hp0 : b01 (RIP M0) = 1) (hp1 : b01 (CA M0) = 1) (hp2 : b01 (PI M0) = 1) : Cv l 21 yX12_readTruth wsX12_readTruth dC dI ad cA [.ref (ad 98), .int (sI 3)] M0 (fun M' => INV pr Kz M' ∧ FR [98, 102] M0 M' ∧ (b01 (RIP M') = 1) ∧ ((M'.1 98 8).toInt = (M0.1 98 8).toInt) ∧ ((M0.1 98 6).toInt ≤ (M'.1 98 6).toInt) ∧ (b01 (XW M0 M' 0 1 0) = 1) ∧ (b01 (CA M') = 1) ∧ (b01 (PI M') = 1)) := by
  refine cv_of (cc := cX12_readTruth) (maxL := 2) (lv := [(0, .ref (ad 98)), (1, .int (sI 3))]) (by decide) rfl (Nat.le_of_ble_eq_true rfl) rfl ?_
  intro p e s m args below meth c A Q C hret
  have u101z := xw_0 M0
  have u101l := ri_l (M := M0) (by omega)
  refine j_aload_n C 0 0 dX12_readTruth_0 rfl rfl ?_
  refine j_iload_n C 1 1 dX12_readTruth_1 rfl rfl ?_
  refine j_callVv C (d := 20) (As := [.int (sI 3)]) (st := []) 98 (s_lt rfl rfl) (s_kc (c := 11) rfl rfl) (by decide) rfl (s4_X12_readBoth hM0 hpr (by omega) (by omega) (by omega)) gX12_readTruth_X12_readBoth rfl hdX12_readBoth (by decide) (Nat.le_of_ble_eq_true rfl) dX12_readTruth_2 rfl (fun M103 h104 => ?_)
  obtain ⟨hM103, fM103, h105⟩ := h104
  have u106l := ri_l (M := M103) (by omega)
  have L128 : ∀ (n126 : Nat), ∀ (M129 : mm_M), ((b01 (RIP M129) = 1) ∧ ((M129.1 98 8).toInt = (M0.1 98 8).toInt) ∧ ((M0.1 98 6).toInt ≤ (M129.1 98 6).toInt) ∧ (b01 (XW M0 M129 0 1 0) = 1) ∧ ((M129.1 98 6).toInt ≤ 900) ∧ (b01 (PI M129) = 1) ∧ (900 - (M129.1 98 6).toInt) < (n126 : Int)) → INV pr Kz M129 → FR [98, 102] M0 M129 → jj p l e (cn_R 21) s m args below meth c 0 0 Q 2 dC dI ad cA A M129 5 [(0, .ref (ad 98)), (1, .int (sI 3))] [] := by
    intro n126
    induction n126 with
    | zero =>
      intro M129 h130 hM129 fM129
      exfalso; omega
    | succ n126 ih127 =>
      intro M129 h130 hM129 fM129
      have u131l := ri_l (M := M129) (by omega)
      refine j_aload_n C 0 0 dX12_readTruth_5 rfl rfl ?_
      refine y_bipush C dX12_readTruth_6 rfl ?_
      refine j_callVi C (d := 6) (As := [.int (sI 15)]) (st := []) 98 (s_lt rfl rfl) (s_kc (c := 11) rfl rfl) (by decide) rfl (s1_X12_eats hM129 hpr 15 (by omega) (by omega) (by omega) (by omega)) gX12_readTruth_X12_eats rfl hdX12_eats (by decide) (Nat.le_of_ble_eq_true rfl) dX12_readTruth_8 rfl (fun r132 M133 h134 => ?_)
      obtain ⟨a136, rfl, hM133, fM133, h135⟩ := h134
      refine y_if_eq C 29 dX12_readTruth_11 (by decide) (by omega) (fun h137 => ?_) (fun h137 => ?_)
      · have u149c := xw_c (N := M129) (P := M133) 0 (FR.cell fM133 (by decide)) (by omega)
        have u149t := xw_t (M := M0) (N := M129) (P := M133) (r1 := 0) (e1 := 1) (s1 := 0) (r2 := 0) (e2 := 0) (s2 := 0) 0 1 0 (by decide) (by omega) (by omega)
        have u149a := ca_x (M := M0) (N := M133) (r := 0) (e := 1) (s := 0) (by decide) (by omega) (by omega)
        exact hret _ _ _ dX12_readTruth_29 ⟨hM133, ((FR.rf.tr fM129 (by decide)).tr fM133 (by decide)), by omega⟩
      · have u138c := xw_c (N := M129) (P := M133) 1 (FR.cell fM133 (by decide)) (by omega)
        have u138t := xw_t (M := M0) (N := M129) (P := M133) (r1 := 0) (e1 := 1) (s1 := 0) (r2 := 0) (e2 := 0) (s2 := 1) 0 1 1 (by decide) (by omega) (by omega)
        have u138a := ca_x (M := M0) (N := M133) (r := 0) (e := 1) (s := 1) (by decide) (by omega) (by omega)
        have u138l := ri_l (M := M133) (by omega)
        refine j_aload_n C 0 0 dX12_readTruth_14 rfl rfl ?_
        refine j_iload_n C 1 1 dX12_readTruth_15 rfl rfl ?_
        refine j_callVv C (d := 20) (As := [.int (sI 3)]) (st := []) 98 (s_lt rfl rfl) (s_kc (c := 11) rfl rfl) (by decide) rfl (s4_X12_readBoth hM133 hpr (by omega) (by omega) (by omega)) gX12_readTruth_X12_readBoth rfl hdX12_readBoth (by decide) (Nat.le_of_ble_eq_true rfl) dX12_readTruth_16 rfl (fun M140 h141 => ?_)
        obtain ⟨hM140, fM140, h142⟩ := h141
        have u143t := xw_t (M := M0) (N := M133) (P := M140) (r1 := 0) (e1 := 1) (s1 := 1) (r2 := 0) (e2 := 1) (s2 := 0) 0 2 1 (by decide) (by omega) (by omega)
        have u143l := ri_l (M := M140) (by omega)
        have u143b := cb_x (M := M0) (N := M140) (r := 0) (e := 2) (s := 1) (by decide) (by omega) (by omega) (by omega)
        refine j_aload_n C 0 0 dX12_readTruth_19 rfl rfl ?_
        refine y_sipush C dX12_readTruth_20 rfl ?_
        refine j_callVv C (d := 0) (As := [.int (sI 3008)]) (st := []) 98 (s_lt rfl rfl) (s_kc (c := 11) rfl rfl) (by decide) rfl (s1_X12_codes hM140 hpr 3008 (by omega) (by omega) (by omega)) gX12_readTruth_X12_codes rfl hdX12_codes (by decide) (Nat.le_of_ble_eq_true rfl) dX12_readTruth_23 rfl (fun M145 h146 => ?_)
        obtain ⟨hM145, fM145, h147⟩ := h146
        refine j_goto C 5 dX12_readTruth_26 (by decide) ?_
        have u148x := xw_a (M := M140) (N := M145) (c := 3008) (r := 2) (e := (-1)) (FR.cell fM145 (by decide)) (ap_bin ⟨(INV.rd hM140 (i := 102) (c := 48) (k := 280) rfl rfl).1, by omega, by omega⟩) (by omega)
        have u148t := xw_t (M := M0) (N := M140) (P := M145) (r1 := 0) (e1 := 2) (s1 := 1) (r2 := 2) (e2 := (-1)) (s2 := (-1)) 0 1 0 (by decide) (by omega) (by omega)
        have u148i := ri_c (M := M140) (N := M145) (FR.cell fM145 (by decide)) (by omega)
        have u148l := ri_l (M := M145) (by omega)
        have zz98_8 : (M145.1 98 8).toInt = (M140.1 98 8).toInt := s_fF fM145 (by decide) (rfl); have zz98_6 : (M145.1 98 6).toInt = (M140.1 98 6).toInt := s_fF fM145 (by decide) (rfl); exact ih127 M145 (by omega) hM145 ((((FR.rf.tr fM129 (by decide)).tr fM133 (by decide)).tr fM140 (by decide)).tr fM145 (by decide))
  exact L128 2010 M103 (by omega) hM103 (FR.rf.tr fM103 (by decide))
set_option maxHeartbeats 4000000 in
theorem s5_X12_readUnit {l : Launch} {dC : Nat → ClassId} {dI : Nat → Nat → Nat} {ad : Nat → Nat} {cA : Nat → ClassId} {pr : Nat → Nat → Bool} {Kz : mm_M} {M0 : mm_M} (hM0 : INV pr Kz M0) (hpr : PM pr)  (hp0 : b01 (RIP M0) = 1) (hp1 : b01 (CA M0) = 1) (hp2 : b01 (PI M0) = 1) : Cv l 22 yX12_readUnit wsX12_readUnit dC dI ad cA [.ref (ad 98), .int (sI 2)] M0 (fun M' => INV pr Kz M' ∧ FR [98, 102] M0 M' ∧ (b01 (RIP M') = 1) ∧ ((M'.1 98 8).toInt = (M0.1 98 8).toInt) ∧ ((M0.1 98 6).toInt ≤ (M'.1 98 6).toInt) ∧ (b01 (XW M0 M' 0 1 0) = 1) ∧ (b01 (CA M') = 1) ∧ (b01 (PI M') = 1)) := by
  refine cv_of (cc := cX12_readUnit) (maxL := 3) (lv := [(0, .ref (ad 98)), (1, .int (sI 2))]) (by decide) rfl (Nat.le_of_ble_eq_true rfl) rfl ?_
  intro p e s m args below meth c A Q C hret
  have u101z := xw_0 M0
  have u101l := ri_l (M := M0) (by omega)
  refine j_aload_n C 0 0 dX12_readUnit_0 rfl rfl ?_
  refine y_bipush C dX12_readUnit_1 rfl ?_
  refine j_callVi C (d := 0) (As := [.int (sI 16)]) (st := []) 98 (s_lt rfl rfl) (s_kc (c := 11) rfl rfl) (by decide) rfl (s1_X12_is hM0 16 (by omega)) gX12_readUnit_X12_is rfl hdX12_is (by decide) (Nat.le_of_ble_eq_true rfl) dX12_readUnit_3 rfl (fun r102 M103 h104 => ?_)
  obtain ⟨a106, rfl, rfl, h105⟩ := h104
  refine y_if_eq C 33 dX12_readUnit_6 (by decide) (by omega) (fun h107 => ?_) (fun h107 => ?_)
  · refine j_aload_n C 0 0 dX12_readUnit_33 rfl rfl ?_
    refine y_bipush C dX12_readUnit_34 rfl ?_
    refine j_callVi C (d := 0) (As := [.int (sI 37)]) (st := []) 98 (s_lt rfl rfl) (s_kc (c := 11) rfl rfl) (by decide) rfl (s1_X12_is hM0 37 (by omega)) gX12_readUnit_X12_is rfl hdX12_is (by decide) (Nat.le_of_ble_eq_true rfl) dX12_readUnit_36 rfl (fun r108 M109 h110 => ?_)
    obtain ⟨a112, rfl, rfl, h111⟩ := h110
    refine y_if_eq C 73 dX12_readUnit_39 (by decide) (by omega) (fun h113 => ?_) (fun h113 => ?_)
    · refine j_aload_n C 0 0 dX12_readUnit_73 rfl rfl ?_
      refine j_iload_n C 1 1 dX12_readUnit_74 rfl rfl ?_
      refine j_callVv C (d := 21) (As := [.int (sI 2)]) (st := []) 98 (s_lt rfl rfl) (s_kc (c := 11) rfl rfl) (by decide) rfl (s5_X12_readSum hM0 hpr (by omega) (by omega) (by omega)) gX12_readUnit_X12_readSum rfl hdX12_readSum (by decide) (Nat.le_of_ble_eq_true rfl) dX12_readUnit_75 rfl (fun M115 h116 => ?_)
      obtain ⟨hM115, fM115, h117⟩ := h116
      have u118l := ri_l (M := M115) (by omega)
      refine j_aload_n C 0 0 dX12_readUnit_78 rfl rfl ?_
      refine y_bipush C dX12_readUnit_79 rfl ?_
      refine j_callVi C (d := 0) (As := [.int (sI 39)]) (st := []) 98 (s_lt rfl rfl) (s_kc (c := 11) rfl rfl) (by decide) rfl (s1_X12_is hM115 39 (by omega)) gX12_readUnit_X12_is rfl hdX12_is (by decide) (Nat.le_of_ble_eq_true rfl) dX12_readUnit_81 rfl (fun r119 M120 h121 => ?_)
      obtain ⟨a123, rfl, rfl, h122⟩ := h121
      have J132 : ∀ (a131 : Int), (3003 ≤ a131 ∧ a131 ≤ 3005) → jj p l e (cn_R 22) s m args below meth c 0 0 Q 3 dC dI ad cA A M115 111 [(0, .ref (ad 98)), (1, .int (sI 2))] [.int (sI a131)] := by
        intro a131 h133
        refine j_istore_n C 2 [(2, .int (sI a131)), (0, .ref (ad 98)), (1, .int (sI 2))] dX12_readUnit_111 rfl (by decide) rfl ?_
        refine j_aload_n C 1 0 dX12_readUnit_112 rfl rfl ?_
        refine y_bipush C dX12_readUnit_113 rfl ?_
        refine j_callVi C (d := 0) (As := [.int (sI 39)]) (st := []) 98 (s_lt rfl rfl) (s_kc (c := 11) rfl rfl) (by decide) rfl (s1_X12_is hM115 39 (by omega)) gX12_readUnit_X12_is rfl hdX12_is (by decide) (Nat.le_of_ble_eq_true rfl) dX12_readUnit_115 rfl (fun r134 M135 h136 => ?_)
        obtain ⟨a138, rfl, rfl, h137⟩ := h136
        have J176 : ∀ (M175 : mm_M), ((b01 (RIP M175) = 1) ∧ ((M175.1 98 8).toInt = (M0.1 98 8).toInt) ∧ ((M0.1 98 6).toInt ≤ (M175.1 98 6).toInt) ∧ (b01 (XW M0 M175 0 1 1) = 1) ∧ (b01 (PI M175) = 1)) → INV pr Kz M175 → FR [98, 102] M0 M175 → jj p l e (cn_R 22) s m args below meth c 0 0 Q 3 dC dI ad cA A M175 151 [(0, .ref (ad 98)), (1, .int (sI 2)), (2, .int (sI a131))] [] := by
          intro M175 h177 hM175 fM175
          have u179a := ca_x (M := M0) (N := M175) (r := 0) (e := 1) (s := 1) (by decide) (by omega) (by omega)
          have u179l := ri_l (M := M175) (by omega)
          refine j_aload_n C 0 0 dX12_readUnit_151 rfl rfl ?_
          refine j_iload_n C 1 1 dX12_readUnit_152 rfl rfl ?_
          refine j_callVv C (d := 21) (As := [.int (sI 2)]) (st := []) 98 (s_lt rfl rfl) (s_kc (c := 11) rfl rfl) (by decide) rfl (s5_X12_readSum hM175 hpr (by omega) (by omega) (by omega)) gX12_readUnit_X12_readSum rfl hdX12_readSum (by decide) (Nat.le_of_ble_eq_true rfl) dX12_readUnit_153 rfl (fun M181 h182 => ?_)
          obtain ⟨hM181, fM181, h183⟩ := h182
          have u184t := xw_t (M := M0) (N := M175) (P := M181) (r1 := 0) (e1 := 1) (s1 := 1) (r2 := 0) (e2 := 1) (s2 := 0) 0 2 1 (by decide) (by omega) (by omega)
          have u184l := ri_l (M := M181) (by omega)
          have u184b := cb_x (M := M0) (N := M181) (r := 0) (e := 2) (s := 1) (by decide) (by omega) (by omega) (by omega)
          refine j_aload_n C 0 0 dX12_readUnit_156 rfl rfl ?_
          refine j_iload_n C 2 2 dX12_readUnit_157 rfl rfl ?_
          refine j_callVv C (d := 0) (As := [.int (sI a131)]) (st := []) 98 (s_lt rfl rfl) (s_kc (c := 11) rfl rfl) (by decide) rfl (s1_X12_codes hM181 hpr a131 (by omega) (by omega) (by omega)) gX12_readUnit_X12_codes rfl hdX12_codes (by decide) (Nat.le_of_ble_eq_true rfl) dX12_readUnit_158 rfl (fun M186 h187 => ?_)
          obtain ⟨hM186, fM186, h188⟩ := h187
          have u189x := xw_a (M := M181) (N := M186) (c := a131) (r := 2) (e := (-1)) (FR.cell fM186 (by decide)) (ap_bin ⟨(INV.rd hM181 (i := 102) (c := 48) (k := 280) rfl rfl).1, by omega, by omega⟩) (by omega)
          have u189t := xw_t (M := M0) (N := M181) (P := M186) (r1 := 0) (e1 := 2) (s1 := 1) (r2 := 2) (e2 := (-1)) (s2 := (-1)) 0 1 0 (by decide) (by omega) (by omega)
          have u189i := ri_c (M := M181) (N := M186) (FR.cell fM186 (by decide)) (by omega)
          have u189l := ri_l (M := M186) (by omega)
          have u189a := ca_x (M := M0) (N := M186) (r := 0) (e := 1) (s := 0) (by decide) (by omega) (by omega)
          have zz98_6 : (M186.1 98 6).toInt = (M181.1 98 6).toInt := s_fF fM186 (by decide) (rfl); have zz98_8 : (M186.1 98 8).toInt = (M181.1 98 8).toInt := s_fF fM186 (by decide) (rfl); exact hret _ _ _ dX12_readUnit_161 ⟨hM186, (((FR.rf.tr fM175 (by decide)).tr fM181 (by decide)).tr fM186 (by decide)), by omega⟩
        refine y_if_ne C 139 dX12_readUnit_118 (by decide) (by omega) (fun h139 => ?_) (fun h139 => ?_)
        · have u140k := ri_k (M := M115) (by omega) (by omega)
          refine j_aload_n C 1 0 dX12_readUnit_139 rfl rfl ?_
          refine j_callVv C (d := 5) (As := []) (st := []) 98 (s_lt rfl rfl) (s_kc (c := 11) rfl rfl) (by decide) rfl (s1_X12_next hM115 hpr (by omega) (by omega) (by omega)) gX12_readUnit_X12_next rfl hdX12_next (by decide) (Nat.le_of_ble_eq_true rfl) dX12_readUnit_140 rfl (fun M142 h143 => ?_)
          obtain ⟨hM142, fM142, h144⟩ := h143
          refine j_goto C 151 dX12_readUnit_143 (by decide) ?_
          have u145c := xw_c (N := M115) (P := M142) 1 (FR.cell fM142 (by decide)) (by omega)
          have u145t := xw_t (M := M0) (N := M115) (P := M142) (r1 := 0) (e1 := 1) (s1 := 0) (r2 := 0) (e2 := 0) (s2 := 1) 0 1 1 (by decide) (by omega) (by omega)
          have u145l := ri_l (M := M142) (by omega)
          refine j_lv [1, 2, 0] rfl ?_; exact J176 M142 (by omega) hM142 ((FR.rf.tr fM115 (by decide)).tr fM142 (by decide))
        · refine j_aload_n C 1 0 dX12_readUnit_121 rfl rfl ?_
          refine y_bipush C dX12_readUnit_122 rfl ?_
          refine j_callVi C (d := 0) (As := [.int (sI 40)]) (st := []) 98 (s_lt rfl rfl) (s_kc (c := 11) rfl rfl) (by decide) rfl (s1_X12_is hM115 40 (by omega)) gX12_readUnit_X12_is rfl hdX12_is (by decide) (Nat.le_of_ble_eq_true rfl) dX12_readUnit_124 rfl (fun r146 M147 h148 => ?_)
          obtain ⟨a150, rfl, rfl, h149⟩ := h148
          refine y_if_ne C 139 dX12_readUnit_127 (by decide) (by omega) (fun h151 => ?_) (fun h151 => ?_)
          · have u152k := ri_k (M := M115) (by omega) (by omega)
            refine j_aload_n C 1 0 dX12_readUnit_139 rfl rfl ?_
            refine j_callVv C (d := 5) (As := []) (st := []) 98 (s_lt rfl rfl) (s_kc (c := 11) rfl rfl) (by decide) rfl (s1_X12_next hM115 hpr (by omega) (by omega) (by omega)) gX12_readUnit_X12_next rfl hdX12_next (by decide) (Nat.le_of_ble_eq_true rfl) dX12_readUnit_140 rfl (fun M154 h155 => ?_)
            obtain ⟨hM154, fM154, h156⟩ := h155
            refine j_goto C 151 dX12_readUnit_143 (by decide) ?_
            have u157c := xw_c (N := M115) (P := M154) 1 (FR.cell fM154 (by decide)) (by omega)
            have u157t := xw_t (M := M0) (N := M115) (P := M154) (r1 := 0) (e1 := 1) (s1 := 0) (r2 := 0) (e2 := 0) (s2 := 1) 0 1 1 (by decide) (by omega) (by omega)
            have u157l := ri_l (M := M154) (by omega)
            refine j_lv [1, 2, 0] rfl ?_; exact J176 M154 (by omega) hM154 ((FR.rf.tr fM115 (by decide)).tr fM154 (by decide))
          · refine j_aload_n C 1 0 dX12_readUnit_130 rfl rfl ?_
            refine y_bipush C dX12_readUnit_131 rfl ?_
            refine j_callVi C (d := 0) (As := [.int (sI 41)]) (st := []) 98 (s_lt rfl rfl) (s_kc (c := 11) rfl rfl) (by decide) rfl (s1_X12_is hM115 41 (by omega)) gX12_readUnit_X12_is rfl hdX12_is (by decide) (Nat.le_of_ble_eq_true rfl) dX12_readUnit_133 rfl (fun r158 M159 h160 => ?_)
            obtain ⟨a162, rfl, rfl, h161⟩ := h160
            refine y_if_eq C 146 dX12_readUnit_136 (by decide) (by omega) (fun h163 => ?_) (fun h163 => ?_)
            · refine j_aload_n C 1 0 dX12_readUnit_146 rfl rfl ?_
              refine y_iconst C dX12_readUnit_147 ?_
              refine j_callVv C (d := 0) (As := [.int (sI 2)]) (st := []) 98 (s_lt rfl rfl) (s_kc (c := 11) rfl rfl) (by decide) rfl (s1_X12_fails hM115 hpr 2 (by omega) (by omega) (by omega) (by omega)) gX12_readUnit_X12_fails rfl hdX12_fails (by decide) (Nat.le_of_ble_eq_true rfl) dX12_readUnit_148 rfl (fun M165 h166 => ?_)
              obtain ⟨hM165, fM165, h167⟩ := h166
              have u168f : b01 (XW M0 M165 0 1 1) = 1 := b01_i (Or.inl (by omega))
              have u168l := ri_l (M := M165) (by omega)
              refine j_lv [1, 2, 0] rfl ?_; exact J176 M165 (by omega) hM165 ((FR.rf.tr fM115 (by decide)).tr fM165 (by decide))
            · have u169k := ri_k (M := M115) (by omega) (by omega)
              refine j_aload_n C 1 0 dX12_readUnit_139 rfl rfl ?_
              refine j_callVv C (d := 5) (As := []) (st := []) 98 (s_lt rfl rfl) (s_kc (c := 11) rfl rfl) (by decide) rfl (s1_X12_next hM115 hpr (by omega) (by omega) (by omega)) gX12_readUnit_X12_next rfl hdX12_next (by decide) (Nat.le_of_ble_eq_true rfl) dX12_readUnit_140 rfl (fun M171 h172 => ?_)
              obtain ⟨hM171, fM171, h173⟩ := h172
              refine j_goto C 151 dX12_readUnit_143 (by decide) ?_
              have u174c := xw_c (N := M115) (P := M171) 1 (FR.cell fM171 (by decide)) (by omega)
              have u174t := xw_t (M := M0) (N := M115) (P := M171) (r1 := 0) (e1 := 1) (s1 := 0) (r2 := 0) (e2 := 0) (s2 := 1) 0 1 1 (by decide) (by omega) (by omega)
              have u174l := ri_l (M := M171) (by omega)
              refine j_lv [1, 2, 0] rfl ?_; exact J176 M171 (by omega) hM171 ((FR.rf.tr fM115 (by decide)).tr fM171 (by decide))
      refine y_if_eq C 93 dX12_readUnit_84 (by decide) (by omega) (fun h124 => ?_) (fun h124 => ?_)
      · refine j_aload_n C 0 0 dX12_readUnit_93 rfl rfl ?_
        refine y_bipush C dX12_readUnit_94 rfl ?_
        refine j_callVi C (d := 0) (As := [.int (sI 40)]) (st := []) 98 (s_lt rfl rfl) (s_kc (c := 11) rfl rfl) (by decide) rfl (s1_X12_is hM115 40 (by omega)) gX12_readUnit_X12_is rfl hdX12_is (by decide) (Nat.le_of_ble_eq_true rfl) dX12_readUnit_96 rfl (fun r125 M126 h127 => ?_)
        obtain ⟨a129, rfl, rfl, h128⟩ := h127
        refine y_if_eq C 108 dX12_readUnit_99 (by decide) (by omega) (fun h130 => ?_) (fun h130 => ?_)
        · refine y_sipush C dX12_readUnit_108 rfl ?_
          exact J132 3005 (by omega)
        · refine y_sipush C dX12_readUnit_102 rfl ?_
          refine j_goto C 111 dX12_readUnit_105 (by decide) ?_
          exact J132 3004 (by omega)
      · refine y_sipush C dX12_readUnit_87 rfl ?_
        refine j_goto C 111 dX12_readUnit_90 (by decide) ?_
        exact J132 3003 (by omega)
    · have u190k := ri_k (M := M0) (by omega) (by omega)
      refine j_aload_n C 0 0 dX12_readUnit_42 rfl rfl ?_
      refine j_iload_n C 1 1 dX12_readUnit_43 rfl rfl ?_
      refine j_callVi C (d := 6) (As := [.int (sI 2)]) (st := []) 98 (s_lt rfl rfl) (s_kc (c := 11) rfl rfl) (by decide) rfl (s3_X12_goesIn hM0 hpr (by omega) (by omega)) gX12_readUnit_X12_goesIn rfl hdX12_goesIn (by decide) (Nat.le_of_ble_eq_true rfl) dX12_readUnit_44 rfl (fun r191 M192 h193 => ?_)
      obtain ⟨a195, rfl, hM192, fM192, h194⟩ := h193
      refine y_if_ne C 51 dX12_readUnit_47 (by decide) (by omega) (fun h196 => ?_) (fun h196 => ?_)
      · have u197c := xw_c (N := M0) (P := M192) 1 (FR.cell fM192 (by decide)) (by omega)
        have u197t := xw_t (M := M0) (N := M0) (P := M192) (r1 := 0) (e1 := 0) (s1 := 0) (r2 := 0) (e2 := 0) (s2 := 1) 0 0 1 (by decide) (by omega) (by omega)
        have u197a := ca_x (M := M0) (N := M192) (r := 0) (e := 0) (s := 1) (by decide) (by omega) (by omega)
        have u197l := ri_l (M := M192) (by omega)
        refine j_aload_n C 0 0 dX12_readUnit_51 rfl rfl ?_
        refine j_iload_n C 1 1 dX12_readUnit_52 rfl rfl ?_
        refine y_iconst C dX12_readUnit_53 ?_
        refine y_iadd C dX12_readUnit_54 ?_
        refine j_callVv C (d := 21) (As := [.int (sI (2 + 1))]) (st := []) 98 (s_lt rfl rfl) (s_kc (c := 11) rfl rfl) (by decide) rfl (s4_X12_readTruth hM192 hpr (by omega) (by omega) (by omega)) gX12_readUnit_X12_readTruth rfl hdX12_readTruth (by decide) (Nat.le_of_ble_eq_true rfl) dX12_readUnit_55 rfl (fun M199 h200 => ?_)
        obtain ⟨hM199, fM199, h201⟩ := h200
        have u202t := xw_t (M := M0) (N := M192) (P := M199) (r1 := 0) (e1 := 0) (s1 := 1) (r2 := 0) (e2 := 1) (s2 := 0) 0 1 1 (by decide) (by omega) (by omega)
        have u202l := ri_l (M := M199) (by omega)
        refine j_aload_n C 0 0 dX12_readUnit_58 rfl rfl ?_
        refine y_bipush C dX12_readUnit_59 rfl ?_
        refine j_callVi C (d := 6) (As := [.int (sI 38)]) (st := []) 98 (s_lt rfl rfl) (s_kc (c := 11) rfl rfl) (by decide) rfl (s1_X12_eats hM199 hpr 38 (by omega) (by omega) (by omega) (by omega)) gX12_readUnit_X12_eats rfl hdX12_eats (by decide) (Nat.le_of_ble_eq_true rfl) dX12_readUnit_61 rfl (fun r203 M204 h205 => ?_)
        obtain ⟨a207, rfl, hM204, fM204, h206⟩ := h205
        have u208c := xw_c (N := M199) (P := M204) 0 (FR.cell fM204 (by decide)) (by omega)
        have u208t := xw_t (M := M0) (N := M199) (P := M204) (r1 := 0) (e1 := 1) (s1 := 1) (r2 := 0) (e2 := 0) (s2 := 0) 0 1 0 (by decide) (by omega) (by omega)
        have u208l := ri_l (M := M204) (by omega)
        refine y_if_ne C 72 dX12_readUnit_64 (by decide) (by omega) (fun h209 => ?_) (fun h209 => ?_)
        · have u210a := ca_x (M := M0) (N := M204) (r := 0) (e := 1) (s := 0) (by decide) (by omega) (by omega)
          exact hret _ _ _ dX12_readUnit_72 ⟨hM204, (((FR.rf.tr fM192 (by decide)).tr fM199 (by decide)).tr fM204 (by decide)), by omega⟩
        · refine j_aload_n C 0 0 dX12_readUnit_67 rfl rfl ?_
          refine y_iconst C dX12_readUnit_68 ?_
          refine j_callVv C (d := 0) (As := [.int (sI 2)]) (st := []) 98 (s_lt rfl rfl) (s_kc (c := 11) rfl rfl) (by decide) rfl (s1_X12_fails hM204 hpr 2 (by omega) (by omega) (by omega) (by omega)) gX12_readUnit_X12_fails rfl hdX12_fails (by decide) (Nat.le_of_ble_eq_true rfl) dX12_readUnit_69 rfl (fun M212 h213 => ?_)
          obtain ⟨hM212, fM212, h214⟩ := h213
          have u215f : b01 (XW M0 M212 0 1 0) = 1 := b01_i (Or.inl (by omega))
          have u215a := ca_x (M := M0) (N := M212) (r := 0) (e := 1) (s := 0) (by decide) (by omega) (by omega)
          exact hret _ _ _ dX12_readUnit_72 ⟨hM212, ((((FR.rf.tr fM192 (by decide)).tr fM199 (by decide)).tr fM204 (by decide)).tr fM212 (by decide)), by omega⟩
      · have u216f : b01 (XW M0 M192 0 1 0) = 1 := b01_i (Or.inl (by omega))
        have u216a := ca_x (M := M0) (N := M192) (r := 0) (e := 1) (s := 0) (by decide) (by omega) (by omega)
        exact hret _ _ _ dX12_readUnit_50 ⟨hM192, (FR.rf.tr fM192 (by decide)), by omega⟩
  · have u217k := ri_k (M := M0) (by omega) (by omega)
    refine j_aload_n C 0 0 dX12_readUnit_9 rfl rfl ?_
    refine j_iload_n C 1 1 dX12_readUnit_10 rfl rfl ?_
    refine j_callVi C (d := 6) (As := [.int (sI 2)]) (st := []) 98 (s_lt rfl rfl) (s_kc (c := 11) rfl rfl) (by decide) rfl (s3_X12_goesIn hM0 hpr (by omega) (by omega)) gX12_readUnit_X12_goesIn rfl hdX12_goesIn (by decide) (Nat.le_of_ble_eq_true rfl) dX12_readUnit_11 rfl (fun r218 M219 h220 => ?_)
    obtain ⟨a222, rfl, hM219, fM219, h221⟩ := h220
    refine y_if_ne C 18 dX12_readUnit_14 (by decide) (by omega) (fun h223 => ?_) (fun h223 => ?_)
    · have u224c := xw_c (N := M0) (P := M219) 1 (FR.cell fM219 (by decide)) (by omega)
      have u224t := xw_t (M := M0) (N := M0) (P := M219) (r1 := 0) (e1 := 0) (s1 := 0) (r2 := 0) (e2 := 0) (s2 := 1) 0 0 1 (by decide) (by omega) (by omega)
      have u224a := ca_x (M := M0) (N := M219) (r := 0) (e := 0) (s := 1) (by decide) (by omega) (by omega)
      have u224l := ri_l (M := M219) (by omega)
      refine j_aload_n C 0 0 dX12_readUnit_18 rfl rfl ?_
      refine j_iload_n C 1 1 dX12_readUnit_19 rfl rfl ?_
      refine y_iconst C dX12_readUnit_20 ?_
      refine y_iadd C dX12_readUnit_21 ?_
      refine j_callVv C (d := 19) (As := [.int (sI (2 + 1))]) (st := []) 98 (s_lt rfl rfl) (s_kc (c := 11) rfl rfl) (by decide) rfl (s4_X12_readUnit hM219 hpr (by omega) (by omega) (by omega)) gX12_readUnit_X12_readUnit rfl hdX12_readUnit (by decide) (Nat.le_of_ble_eq_true rfl) dX12_readUnit_22 rfl (fun M226 h227 => ?_)
      obtain ⟨hM226, fM226, h228⟩ := h227
      have u229t := xw_t (M := M0) (N := M219) (P := M226) (r1 := 0) (e1 := 0) (s1 := 1) (r2 := 0) (e2 := 1) (s2 := 0) 0 1 1 (by decide) (by omega) (by omega)
      have u229l := ri_l (M := M226) (by omega)
      have u229b := cb_x (M := M0) (N := M226) (r := 0) (e := 1) (s := 1) (by decide) (by omega) (by omega) (by omega)
      refine j_aload_n C 0 0 dX12_readUnit_25 rfl rfl ?_
      refine y_sipush C dX12_readUnit_26 rfl ?_
      refine j_callVv C (d := 0) (As := [.int (sI 3006)]) (st := []) 98 (s_lt rfl rfl) (s_kc (c := 11) rfl rfl) (by decide) rfl (s1_X12_codes hM226 hpr 3006 (by omega) (by omega) (by omega)) gX12_readUnit_X12_codes rfl hdX12_codes (by decide) (Nat.le_of_ble_eq_true rfl) dX12_readUnit_29 rfl (fun M231 h232 => ?_)
      obtain ⟨hM231, fM231, h233⟩ := h232
      have u234x := xw_a (M := M226) (N := M231) (c := 3006) (r := 1) (e := 0) (FR.cell fM231 (by decide)) (ap_not (INV.rd hM226 (i := 102) (c := 48) (k := 280) rfl rfl).1) (by omega)
      have u234t := xw_t (M := M0) (N := M226) (P := M231) (r1 := 0) (e1 := 1) (s1 := 1) (r2 := 1) (e2 := 0) (s2 := (-1)) 0 1 0 (by decide) (by omega) (by omega)
      have u234i := ri_c (M := M226) (N := M231) (FR.cell fM231 (by decide)) (by omega)
      have u234l := ri_l (M := M231) (by omega)
      have u234a := ca_x (M := M0) (N := M231) (r := 0) (e := 1) (s := 0) (by decide) (by omega) (by omega)
      have zz98_6 : (M231.1 98 6).toInt = (M226.1 98 6).toInt := s_fF fM231 (by decide) (rfl); have zz98_8 : (M231.1 98 8).toInt = (M226.1 98 8).toInt := s_fF fM231 (by decide) (rfl); exact hret _ _ _ dX12_readUnit_32 ⟨hM231, (((FR.rf.tr fM219 (by decide)).tr fM226 (by decide)).tr fM231 (by decide)), by omega⟩
    · have u235f : b01 (XW M0 M219 0 1 0) = 1 := b01_i (Or.inl (by omega))
      have u235a := ca_x (M := M0) (N := M219) (r := 0) (e := 1) (s := 0) (by decide) (by omega) (by omega)
      exact hret _ _ _ dX12_readUnit_17 ⟨hM219, (FR.rf.tr fM219 (by decide)), by omega⟩
set_option maxHeartbeats 4000000 in
theorem s5_X12_readBoth {l : Launch} {dC : Nat → ClassId} {dI : Nat → Nat → Nat} {ad : Nat → Nat} {cA : Nat → ClassId} {pr : Nat → Nat → Bool} {Kz : mm_M} {M0 : mm_M} (hM0 : INV pr Kz M0) (hpr : PM pr)  (hp0 : b01 (RIP M0) = 1) (hp1 : b01 (CA M0) = 1) (hp2 : b01 (PI M0) = 1) : Cv l 23 yX12_readBoth wsX12_readBoth dC dI ad cA [.ref (ad 98), .int (sI 2)] M0 (fun M' => INV pr Kz M' ∧ FR [98, 102] M0 M' ∧ (b01 (RIP M') = 1) ∧ ((M'.1 98 8).toInt = (M0.1 98 8).toInt) ∧ ((M0.1 98 6).toInt ≤ (M'.1 98 6).toInt) ∧ (b01 (XW M0 M' 0 1 0) = 1) ∧ (b01 (CA M') = 1) ∧ (b01 (PI M') = 1)) := by
  refine cv_of (cc := cX12_readBoth) (maxL := 2) (lv := [(0, .ref (ad 98)), (1, .int (sI 2))]) (by decide) rfl (Nat.le_of_ble_eq_true rfl) rfl ?_
  intro p e s m args below meth c A Q C hret
  have u101z := xw_0 M0
  have u101l := ri_l (M := M0) (by omega)
  refine j_aload_n C 0 0 dX12_readBoth_0 rfl rfl ?_
  refine j_iload_n C 1 1 dX12_readBoth_1 rfl rfl ?_
  refine j_callVv C (d := 22) (As := [.int (sI 2)]) (st := []) 98 (s_lt rfl rfl) (s_kc (c := 11) rfl rfl) (by decide) rfl (s5_X12_readUnit hM0 hpr (by omega) (by omega) (by omega)) gX12_readBoth_X12_readUnit rfl hdX12_readUnit (by decide) (Nat.le_of_ble_eq_true rfl) dX12_readBoth_2 rfl (fun M103 h104 => ?_)
  obtain ⟨hM103, fM103, h105⟩ := h104
  have u106l := ri_l (M := M103) (by omega)
  have L128 : ∀ (n126 : Nat), ∀ (M129 : mm_M), ((b01 (RIP M129) = 1) ∧ ((M129.1 98 8).toInt = (M0.1 98 8).toInt) ∧ ((M0.1 98 6).toInt ≤ (M129.1 98 6).toInt) ∧ (b01 (XW M0 M129 0 1 0) = 1) ∧ ((M129.1 98 6).toInt ≤ 900) ∧ (b01 (PI M129) = 1) ∧ (900 - (M129.1 98 6).toInt) < (n126 : Int)) → INV pr Kz M129 → FR [98, 102] M0 M129 → jj p l e (cn_R 23) s m args below meth c 0 0 Q 2 dC dI ad cA A M129 5 [(0, .ref (ad 98)), (1, .int (sI 2))] [] := by
    intro n126
    induction n126 with
    | zero =>
      intro M129 h130 hM129 fM129
      exfalso; omega
    | succ n126 ih127 =>
      intro M129 h130 hM129 fM129
      have u131l := ri_l (M := M129) (by omega)
      refine j_aload_n C 0 0 dX12_readBoth_5 rfl rfl ?_
      refine y_bipush C dX12_readBoth_6 rfl ?_
      refine j_callVi C (d := 6) (As := [.int (sI 14)]) (st := []) 98 (s_lt rfl rfl) (s_kc (c := 11) rfl rfl) (by decide) rfl (s1_X12_eats hM129 hpr 14 (by omega) (by omega) (by omega) (by omega)) gX12_readBoth_X12_eats rfl hdX12_eats (by decide) (Nat.le_of_ble_eq_true rfl) dX12_readBoth_8 rfl (fun r132 M133 h134 => ?_)
      obtain ⟨a136, rfl, hM133, fM133, h135⟩ := h134
      refine y_if_eq C 29 dX12_readBoth_11 (by decide) (by omega) (fun h137 => ?_) (fun h137 => ?_)
      · have u149c := xw_c (N := M129) (P := M133) 0 (FR.cell fM133 (by decide)) (by omega)
        have u149t := xw_t (M := M0) (N := M129) (P := M133) (r1 := 0) (e1 := 1) (s1 := 0) (r2 := 0) (e2 := 0) (s2 := 0) 0 1 0 (by decide) (by omega) (by omega)
        have u149a := ca_x (M := M0) (N := M133) (r := 0) (e := 1) (s := 0) (by decide) (by omega) (by omega)
        exact hret _ _ _ dX12_readBoth_29 ⟨hM133, ((FR.rf.tr fM129 (by decide)).tr fM133 (by decide)), by omega⟩
      · have u138c := xw_c (N := M129) (P := M133) 1 (FR.cell fM133 (by decide)) (by omega)
        have u138t := xw_t (M := M0) (N := M129) (P := M133) (r1 := 0) (e1 := 1) (s1 := 0) (r2 := 0) (e2 := 0) (s2 := 1) 0 1 1 (by decide) (by omega) (by omega)
        have u138a := ca_x (M := M0) (N := M133) (r := 0) (e := 1) (s := 1) (by decide) (by omega) (by omega)
        have u138l := ri_l (M := M133) (by omega)
        refine j_aload_n C 0 0 dX12_readBoth_14 rfl rfl ?_
        refine j_iload_n C 1 1 dX12_readBoth_15 rfl rfl ?_
        refine j_callVv C (d := 22) (As := [.int (sI 2)]) (st := []) 98 (s_lt rfl rfl) (s_kc (c := 11) rfl rfl) (by decide) rfl (s5_X12_readUnit hM133 hpr (by omega) (by omega) (by omega)) gX12_readBoth_X12_readUnit rfl hdX12_readUnit (by decide) (Nat.le_of_ble_eq_true rfl) dX12_readBoth_16 rfl (fun M140 h141 => ?_)
        obtain ⟨hM140, fM140, h142⟩ := h141
        have u143t := xw_t (M := M0) (N := M133) (P := M140) (r1 := 0) (e1 := 1) (s1 := 1) (r2 := 0) (e2 := 1) (s2 := 0) 0 2 1 (by decide) (by omega) (by omega)
        have u143l := ri_l (M := M140) (by omega)
        have u143b := cb_x (M := M0) (N := M140) (r := 0) (e := 2) (s := 1) (by decide) (by omega) (by omega) (by omega)
        refine j_aload_n C 0 0 dX12_readBoth_19 rfl rfl ?_
        refine y_sipush C dX12_readBoth_20 rfl ?_
        refine j_callVv C (d := 0) (As := [.int (sI 3007)]) (st := []) 98 (s_lt rfl rfl) (s_kc (c := 11) rfl rfl) (by decide) rfl (s1_X12_codes hM140 hpr 3007 (by omega) (by omega) (by omega)) gX12_readBoth_X12_codes rfl hdX12_codes (by decide) (Nat.le_of_ble_eq_true rfl) dX12_readBoth_23 rfl (fun M145 h146 => ?_)
        obtain ⟨hM145, fM145, h147⟩ := h146
        refine j_goto C 5 dX12_readBoth_26 (by decide) ?_
        have u148x := xw_a (M := M140) (N := M145) (c := 3007) (r := 2) (e := (-1)) (FR.cell fM145 (by decide)) (ap_bin ⟨(INV.rd hM140 (i := 102) (c := 48) (k := 280) rfl rfl).1, by omega, by omega⟩) (by omega)
        have u148t := xw_t (M := M0) (N := M140) (P := M145) (r1 := 0) (e1 := 2) (s1 := 1) (r2 := 2) (e2 := (-1)) (s2 := (-1)) 0 1 0 (by decide) (by omega) (by omega)
        have u148i := ri_c (M := M140) (N := M145) (FR.cell fM145 (by decide)) (by omega)
        have u148l := ri_l (M := M145) (by omega)
        have zz98_8 : (M145.1 98 8).toInt = (M140.1 98 8).toInt := s_fF fM145 (by decide) (rfl); have zz98_6 : (M145.1 98 6).toInt = (M140.1 98 6).toInt := s_fF fM145 (by decide) (rfl); exact ih127 M145 (by omega) hM145 ((((FR.rf.tr fM129 (by decide)).tr fM133 (by decide)).tr fM140 (by decide)).tr fM145 (by decide))
  exact L128 2010 M103 (by omega) hM103 (FR.rf.tr fM103 (by decide))
set_option maxHeartbeats 4000000 in
theorem s5_X12_readTruth {l : Launch} {dC : Nat → ClassId} {dI : Nat → Nat → Nat} {ad : Nat → Nat} {cA : Nat → ClassId} {pr : Nat → Nat → Bool} {Kz : mm_M} {M0 : mm_M} (hM0 : INV pr Kz M0) (hpr : PM pr)  (hp0 : b01 (RIP M0) = 1) (hp1 : b01 (CA M0) = 1) (hp2 : b01 (PI M0) = 1) : Cv l 24 yX12_readTruth wsX12_readTruth dC dI ad cA [.ref (ad 98), .int (sI 2)] M0 (fun M' => INV pr Kz M' ∧ FR [98, 102] M0 M' ∧ (b01 (RIP M') = 1) ∧ ((M'.1 98 8).toInt = (M0.1 98 8).toInt) ∧ ((M0.1 98 6).toInt ≤ (M'.1 98 6).toInt) ∧ (b01 (XW M0 M' 0 1 0) = 1) ∧ (b01 (CA M') = 1) ∧ (b01 (PI M') = 1)) := by
  refine cv_of (cc := cX12_readTruth) (maxL := 2) (lv := [(0, .ref (ad 98)), (1, .int (sI 2))]) (by decide) rfl (Nat.le_of_ble_eq_true rfl) rfl ?_
  intro p e s m args below meth c A Q C hret
  have u101z := xw_0 M0
  have u101l := ri_l (M := M0) (by omega)
  refine j_aload_n C 0 0 dX12_readTruth_0 rfl rfl ?_
  refine j_iload_n C 1 1 dX12_readTruth_1 rfl rfl ?_
  refine j_callVv C (d := 23) (As := [.int (sI 2)]) (st := []) 98 (s_lt rfl rfl) (s_kc (c := 11) rfl rfl) (by decide) rfl (s5_X12_readBoth hM0 hpr (by omega) (by omega) (by omega)) gX12_readTruth_X12_readBoth rfl hdX12_readBoth (by decide) (Nat.le_of_ble_eq_true rfl) dX12_readTruth_2 rfl (fun M103 h104 => ?_)
  obtain ⟨hM103, fM103, h105⟩ := h104
  have u106l := ri_l (M := M103) (by omega)
  have L128 : ∀ (n126 : Nat), ∀ (M129 : mm_M), ((b01 (RIP M129) = 1) ∧ ((M129.1 98 8).toInt = (M0.1 98 8).toInt) ∧ ((M0.1 98 6).toInt ≤ (M129.1 98 6).toInt) ∧ (b01 (XW M0 M129 0 1 0) = 1) ∧ ((M129.1 98 6).toInt ≤ 900) ∧ (b01 (PI M129) = 1) ∧ (900 - (M129.1 98 6).toInt) < (n126 : Int)) → INV pr Kz M129 → FR [98, 102] M0 M129 → jj p l e (cn_R 24) s m args below meth c 0 0 Q 2 dC dI ad cA A M129 5 [(0, .ref (ad 98)), (1, .int (sI 2))] [] := by
    intro n126
    induction n126 with
    | zero =>
      intro M129 h130 hM129 fM129
      exfalso; omega
    | succ n126 ih127 =>
      intro M129 h130 hM129 fM129
      have u131l := ri_l (M := M129) (by omega)
      refine j_aload_n C 0 0 dX12_readTruth_5 rfl rfl ?_
      refine y_bipush C dX12_readTruth_6 rfl ?_
      refine j_callVi C (d := 6) (As := [.int (sI 15)]) (st := []) 98 (s_lt rfl rfl) (s_kc (c := 11) rfl rfl) (by decide) rfl (s1_X12_eats hM129 hpr 15 (by omega) (by omega) (by omega) (by omega)) gX12_readTruth_X12_eats rfl hdX12_eats (by decide) (Nat.le_of_ble_eq_true rfl) dX12_readTruth_8 rfl (fun r132 M133 h134 => ?_)
      obtain ⟨a136, rfl, hM133, fM133, h135⟩ := h134
      refine y_if_eq C 29 dX12_readTruth_11 (by decide) (by omega) (fun h137 => ?_) (fun h137 => ?_)
      · have u149c := xw_c (N := M129) (P := M133) 0 (FR.cell fM133 (by decide)) (by omega)
        have u149t := xw_t (M := M0) (N := M129) (P := M133) (r1 := 0) (e1 := 1) (s1 := 0) (r2 := 0) (e2 := 0) (s2 := 0) 0 1 0 (by decide) (by omega) (by omega)
        have u149a := ca_x (M := M0) (N := M133) (r := 0) (e := 1) (s := 0) (by decide) (by omega) (by omega)
        exact hret _ _ _ dX12_readTruth_29 ⟨hM133, ((FR.rf.tr fM129 (by decide)).tr fM133 (by decide)), by omega⟩
      · have u138c := xw_c (N := M129) (P := M133) 1 (FR.cell fM133 (by decide)) (by omega)
        have u138t := xw_t (M := M0) (N := M129) (P := M133) (r1 := 0) (e1 := 1) (s1 := 0) (r2 := 0) (e2 := 0) (s2 := 1) 0 1 1 (by decide) (by omega) (by omega)
        have u138a := ca_x (M := M0) (N := M133) (r := 0) (e := 1) (s := 1) (by decide) (by omega) (by omega)
        have u138l := ri_l (M := M133) (by omega)
        refine j_aload_n C 0 0 dX12_readTruth_14 rfl rfl ?_
        refine j_iload_n C 1 1 dX12_readTruth_15 rfl rfl ?_
        refine j_callVv C (d := 23) (As := [.int (sI 2)]) (st := []) 98 (s_lt rfl rfl) (s_kc (c := 11) rfl rfl) (by decide) rfl (s5_X12_readBoth hM133 hpr (by omega) (by omega) (by omega)) gX12_readTruth_X12_readBoth rfl hdX12_readBoth (by decide) (Nat.le_of_ble_eq_true rfl) dX12_readTruth_16 rfl (fun M140 h141 => ?_)
        obtain ⟨hM140, fM140, h142⟩ := h141
        have u143t := xw_t (M := M0) (N := M133) (P := M140) (r1 := 0) (e1 := 1) (s1 := 1) (r2 := 0) (e2 := 1) (s2 := 0) 0 2 1 (by decide) (by omega) (by omega)
        have u143l := ri_l (M := M140) (by omega)
        have u143b := cb_x (M := M0) (N := M140) (r := 0) (e := 2) (s := 1) (by decide) (by omega) (by omega) (by omega)
        refine j_aload_n C 0 0 dX12_readTruth_19 rfl rfl ?_
        refine y_sipush C dX12_readTruth_20 rfl ?_
        refine j_callVv C (d := 0) (As := [.int (sI 3008)]) (st := []) 98 (s_lt rfl rfl) (s_kc (c := 11) rfl rfl) (by decide) rfl (s1_X12_codes hM140 hpr 3008 (by omega) (by omega) (by omega)) gX12_readTruth_X12_codes rfl hdX12_codes (by decide) (Nat.le_of_ble_eq_true rfl) dX12_readTruth_23 rfl (fun M145 h146 => ?_)
        obtain ⟨hM145, fM145, h147⟩ := h146
        refine j_goto C 5 dX12_readTruth_26 (by decide) ?_
        have u148x := xw_a (M := M140) (N := M145) (c := 3008) (r := 2) (e := (-1)) (FR.cell fM145 (by decide)) (ap_bin ⟨(INV.rd hM140 (i := 102) (c := 48) (k := 280) rfl rfl).1, by omega, by omega⟩) (by omega)
        have u148t := xw_t (M := M0) (N := M140) (P := M145) (r1 := 0) (e1 := 2) (s1 := 1) (r2 := 2) (e2 := (-1)) (s2 := (-1)) 0 1 0 (by decide) (by omega) (by omega)
        have u148i := ri_c (M := M140) (N := M145) (FR.cell fM145 (by decide)) (by omega)
        have u148l := ri_l (M := M145) (by omega)
        have zz98_8 : (M145.1 98 8).toInt = (M140.1 98 8).toInt := s_fF fM145 (by decide) (rfl); have zz98_6 : (M145.1 98 6).toInt = (M140.1 98 6).toInt := s_fF fM145 (by decide) (rfl); exact ih127 M145 (by omega) hM145 ((((FR.rf.tr fM129 (by decide)).tr fM133 (by decide)).tr fM140 (by decide)).tr fM145 (by decide))
  exact L128 2010 M103 (by omega) hM103 (FR.rf.tr fM103 (by decide))
set_option maxHeartbeats 4000000 in
theorem s6_X12_readUnit {l : Launch} {dC : Nat → ClassId} {dI : Nat → Nat → Nat} {ad : Nat → Nat} {cA : Nat → ClassId} {pr : Nat → Nat → Bool} {Kz : mm_M} {M0 : mm_M} (hM0 : INV pr Kz M0) (hpr : PM pr)  (hp0 : b01 (RIP M0) = 1) (hp1 : b01 (CA M0) = 1) (hp2 : b01 (PI M0) = 1) : Cv l 25 yX12_readUnit wsX12_readUnit dC dI ad cA [.ref (ad 98), .int (sI 1)] M0 (fun M' => INV pr Kz M' ∧ FR [98, 102] M0 M' ∧ (b01 (RIP M') = 1) ∧ ((M'.1 98 8).toInt = (M0.1 98 8).toInt) ∧ ((M0.1 98 6).toInt ≤ (M'.1 98 6).toInt) ∧ (b01 (XW M0 M' 0 1 0) = 1) ∧ (b01 (CA M') = 1) ∧ (b01 (PI M') = 1)) := by
  refine cv_of (cc := cX12_readUnit) (maxL := 3) (lv := [(0, .ref (ad 98)), (1, .int (sI 1))]) (by decide) rfl (Nat.le_of_ble_eq_true rfl) rfl ?_
  intro p e s m args below meth c A Q C hret
  have u101z := xw_0 M0
  have u101l := ri_l (M := M0) (by omega)
  refine j_aload_n C 0 0 dX12_readUnit_0 rfl rfl ?_
  refine y_bipush C dX12_readUnit_1 rfl ?_
  refine j_callVi C (d := 0) (As := [.int (sI 16)]) (st := []) 98 (s_lt rfl rfl) (s_kc (c := 11) rfl rfl) (by decide) rfl (s1_X12_is hM0 16 (by omega)) gX12_readUnit_X12_is rfl hdX12_is (by decide) (Nat.le_of_ble_eq_true rfl) dX12_readUnit_3 rfl (fun r102 M103 h104 => ?_)
  obtain ⟨a106, rfl, rfl, h105⟩ := h104
  refine y_if_eq C 33 dX12_readUnit_6 (by decide) (by omega) (fun h107 => ?_) (fun h107 => ?_)
  · refine j_aload_n C 0 0 dX12_readUnit_33 rfl rfl ?_
    refine y_bipush C dX12_readUnit_34 rfl ?_
    refine j_callVi C (d := 0) (As := [.int (sI 37)]) (st := []) 98 (s_lt rfl rfl) (s_kc (c := 11) rfl rfl) (by decide) rfl (s1_X12_is hM0 37 (by omega)) gX12_readUnit_X12_is rfl hdX12_is (by decide) (Nat.le_of_ble_eq_true rfl) dX12_readUnit_36 rfl (fun r108 M109 h110 => ?_)
    obtain ⟨a112, rfl, rfl, h111⟩ := h110
    refine y_if_eq C 73 dX12_readUnit_39 (by decide) (by omega) (fun h113 => ?_) (fun h113 => ?_)
    · refine j_aload_n C 0 0 dX12_readUnit_73 rfl rfl ?_
      refine j_iload_n C 1 1 dX12_readUnit_74 rfl rfl ?_
      refine j_callVv C (d := 24) (As := [.int (sI 1)]) (st := []) 98 (s_lt rfl rfl) (s_kc (c := 11) rfl rfl) (by decide) rfl (s6_X12_readSum hM0 hpr (by omega) (by omega) (by omega)) gX12_readUnit_X12_readSum rfl hdX12_readSum (by decide) (Nat.le_of_ble_eq_true rfl) dX12_readUnit_75 rfl (fun M115 h116 => ?_)
      obtain ⟨hM115, fM115, h117⟩ := h116
      have u118l := ri_l (M := M115) (by omega)
      refine j_aload_n C 0 0 dX12_readUnit_78 rfl rfl ?_
      refine y_bipush C dX12_readUnit_79 rfl ?_
      refine j_callVi C (d := 0) (As := [.int (sI 39)]) (st := []) 98 (s_lt rfl rfl) (s_kc (c := 11) rfl rfl) (by decide) rfl (s1_X12_is hM115 39 (by omega)) gX12_readUnit_X12_is rfl hdX12_is (by decide) (Nat.le_of_ble_eq_true rfl) dX12_readUnit_81 rfl (fun r119 M120 h121 => ?_)
      obtain ⟨a123, rfl, rfl, h122⟩ := h121
      have J132 : ∀ (a131 : Int), (3003 ≤ a131 ∧ a131 ≤ 3005) → jj p l e (cn_R 25) s m args below meth c 0 0 Q 3 dC dI ad cA A M115 111 [(0, .ref (ad 98)), (1, .int (sI 1))] [.int (sI a131)] := by
        intro a131 h133
        refine j_istore_n C 2 [(2, .int (sI a131)), (0, .ref (ad 98)), (1, .int (sI 1))] dX12_readUnit_111 rfl (by decide) rfl ?_
        refine j_aload_n C 1 0 dX12_readUnit_112 rfl rfl ?_
        refine y_bipush C dX12_readUnit_113 rfl ?_
        refine j_callVi C (d := 0) (As := [.int (sI 39)]) (st := []) 98 (s_lt rfl rfl) (s_kc (c := 11) rfl rfl) (by decide) rfl (s1_X12_is hM115 39 (by omega)) gX12_readUnit_X12_is rfl hdX12_is (by decide) (Nat.le_of_ble_eq_true rfl) dX12_readUnit_115 rfl (fun r134 M135 h136 => ?_)
        obtain ⟨a138, rfl, rfl, h137⟩ := h136
        have J176 : ∀ (M175 : mm_M), ((b01 (RIP M175) = 1) ∧ ((M175.1 98 8).toInt = (M0.1 98 8).toInt) ∧ ((M0.1 98 6).toInt ≤ (M175.1 98 6).toInt) ∧ (b01 (XW M0 M175 0 1 1) = 1) ∧ (b01 (PI M175) = 1)) → INV pr Kz M175 → FR [98, 102] M0 M175 → jj p l e (cn_R 25) s m args below meth c 0 0 Q 3 dC dI ad cA A M175 151 [(0, .ref (ad 98)), (1, .int (sI 1)), (2, .int (sI a131))] [] := by
          intro M175 h177 hM175 fM175
          have u179a := ca_x (M := M0) (N := M175) (r := 0) (e := 1) (s := 1) (by decide) (by omega) (by omega)
          have u179l := ri_l (M := M175) (by omega)
          refine j_aload_n C 0 0 dX12_readUnit_151 rfl rfl ?_
          refine j_iload_n C 1 1 dX12_readUnit_152 rfl rfl ?_
          refine j_callVv C (d := 24) (As := [.int (sI 1)]) (st := []) 98 (s_lt rfl rfl) (s_kc (c := 11) rfl rfl) (by decide) rfl (s6_X12_readSum hM175 hpr (by omega) (by omega) (by omega)) gX12_readUnit_X12_readSum rfl hdX12_readSum (by decide) (Nat.le_of_ble_eq_true rfl) dX12_readUnit_153 rfl (fun M181 h182 => ?_)
          obtain ⟨hM181, fM181, h183⟩ := h182
          have u184t := xw_t (M := M0) (N := M175) (P := M181) (r1 := 0) (e1 := 1) (s1 := 1) (r2 := 0) (e2 := 1) (s2 := 0) 0 2 1 (by decide) (by omega) (by omega)
          have u184l := ri_l (M := M181) (by omega)
          have u184b := cb_x (M := M0) (N := M181) (r := 0) (e := 2) (s := 1) (by decide) (by omega) (by omega) (by omega)
          refine j_aload_n C 0 0 dX12_readUnit_156 rfl rfl ?_
          refine j_iload_n C 2 2 dX12_readUnit_157 rfl rfl ?_
          refine j_callVv C (d := 0) (As := [.int (sI a131)]) (st := []) 98 (s_lt rfl rfl) (s_kc (c := 11) rfl rfl) (by decide) rfl (s1_X12_codes hM181 hpr a131 (by omega) (by omega) (by omega)) gX12_readUnit_X12_codes rfl hdX12_codes (by decide) (Nat.le_of_ble_eq_true rfl) dX12_readUnit_158 rfl (fun M186 h187 => ?_)
          obtain ⟨hM186, fM186, h188⟩ := h187
          have u189x := xw_a (M := M181) (N := M186) (c := a131) (r := 2) (e := (-1)) (FR.cell fM186 (by decide)) (ap_bin ⟨(INV.rd hM181 (i := 102) (c := 48) (k := 280) rfl rfl).1, by omega, by omega⟩) (by omega)
          have u189t := xw_t (M := M0) (N := M181) (P := M186) (r1 := 0) (e1 := 2) (s1 := 1) (r2 := 2) (e2 := (-1)) (s2 := (-1)) 0 1 0 (by decide) (by omega) (by omega)
          have u189i := ri_c (M := M181) (N := M186) (FR.cell fM186 (by decide)) (by omega)
          have u189l := ri_l (M := M186) (by omega)
          have u189a := ca_x (M := M0) (N := M186) (r := 0) (e := 1) (s := 0) (by decide) (by omega) (by omega)
          have zz98_6 : (M186.1 98 6).toInt = (M181.1 98 6).toInt := s_fF fM186 (by decide) (rfl); have zz98_8 : (M186.1 98 8).toInt = (M181.1 98 8).toInt := s_fF fM186 (by decide) (rfl); exact hret _ _ _ dX12_readUnit_161 ⟨hM186, (((FR.rf.tr fM175 (by decide)).tr fM181 (by decide)).tr fM186 (by decide)), by omega⟩
        refine y_if_ne C 139 dX12_readUnit_118 (by decide) (by omega) (fun h139 => ?_) (fun h139 => ?_)
        · have u140k := ri_k (M := M115) (by omega) (by omega)
          refine j_aload_n C 1 0 dX12_readUnit_139 rfl rfl ?_
          refine j_callVv C (d := 5) (As := []) (st := []) 98 (s_lt rfl rfl) (s_kc (c := 11) rfl rfl) (by decide) rfl (s1_X12_next hM115 hpr (by omega) (by omega) (by omega)) gX12_readUnit_X12_next rfl hdX12_next (by decide) (Nat.le_of_ble_eq_true rfl) dX12_readUnit_140 rfl (fun M142 h143 => ?_)
          obtain ⟨hM142, fM142, h144⟩ := h143
          refine j_goto C 151 dX12_readUnit_143 (by decide) ?_
          have u145c := xw_c (N := M115) (P := M142) 1 (FR.cell fM142 (by decide)) (by omega)
          have u145t := xw_t (M := M0) (N := M115) (P := M142) (r1 := 0) (e1 := 1) (s1 := 0) (r2 := 0) (e2 := 0) (s2 := 1) 0 1 1 (by decide) (by omega) (by omega)
          have u145l := ri_l (M := M142) (by omega)
          refine j_lv [1, 2, 0] rfl ?_; exact J176 M142 (by omega) hM142 ((FR.rf.tr fM115 (by decide)).tr fM142 (by decide))
        · refine j_aload_n C 1 0 dX12_readUnit_121 rfl rfl ?_
          refine y_bipush C dX12_readUnit_122 rfl ?_
          refine j_callVi C (d := 0) (As := [.int (sI 40)]) (st := []) 98 (s_lt rfl rfl) (s_kc (c := 11) rfl rfl) (by decide) rfl (s1_X12_is hM115 40 (by omega)) gX12_readUnit_X12_is rfl hdX12_is (by decide) (Nat.le_of_ble_eq_true rfl) dX12_readUnit_124 rfl (fun r146 M147 h148 => ?_)
          obtain ⟨a150, rfl, rfl, h149⟩ := h148
          refine y_if_ne C 139 dX12_readUnit_127 (by decide) (by omega) (fun h151 => ?_) (fun h151 => ?_)
          · have u152k := ri_k (M := M115) (by omega) (by omega)
            refine j_aload_n C 1 0 dX12_readUnit_139 rfl rfl ?_
            refine j_callVv C (d := 5) (As := []) (st := []) 98 (s_lt rfl rfl) (s_kc (c := 11) rfl rfl) (by decide) rfl (s1_X12_next hM115 hpr (by omega) (by omega) (by omega)) gX12_readUnit_X12_next rfl hdX12_next (by decide) (Nat.le_of_ble_eq_true rfl) dX12_readUnit_140 rfl (fun M154 h155 => ?_)
            obtain ⟨hM154, fM154, h156⟩ := h155
            refine j_goto C 151 dX12_readUnit_143 (by decide) ?_
            have u157c := xw_c (N := M115) (P := M154) 1 (FR.cell fM154 (by decide)) (by omega)
            have u157t := xw_t (M := M0) (N := M115) (P := M154) (r1 := 0) (e1 := 1) (s1 := 0) (r2 := 0) (e2 := 0) (s2 := 1) 0 1 1 (by decide) (by omega) (by omega)
            have u157l := ri_l (M := M154) (by omega)
            refine j_lv [1, 2, 0] rfl ?_; exact J176 M154 (by omega) hM154 ((FR.rf.tr fM115 (by decide)).tr fM154 (by decide))
          · refine j_aload_n C 1 0 dX12_readUnit_130 rfl rfl ?_
            refine y_bipush C dX12_readUnit_131 rfl ?_
            refine j_callVi C (d := 0) (As := [.int (sI 41)]) (st := []) 98 (s_lt rfl rfl) (s_kc (c := 11) rfl rfl) (by decide) rfl (s1_X12_is hM115 41 (by omega)) gX12_readUnit_X12_is rfl hdX12_is (by decide) (Nat.le_of_ble_eq_true rfl) dX12_readUnit_133 rfl (fun r158 M159 h160 => ?_)
            obtain ⟨a162, rfl, rfl, h161⟩ := h160
            refine y_if_eq C 146 dX12_readUnit_136 (by decide) (by omega) (fun h163 => ?_) (fun h163 => ?_)
            · refine j_aload_n C 1 0 dX12_readUnit_146 rfl rfl ?_
              refine y_iconst C dX12_readUnit_147 ?_
              refine j_callVv C (d := 0) (As := [.int (sI 2)]) (st := []) 98 (s_lt rfl rfl) (s_kc (c := 11) rfl rfl) (by decide) rfl (s1_X12_fails hM115 hpr 2 (by omega) (by omega) (by omega) (by omega)) gX12_readUnit_X12_fails rfl hdX12_fails (by decide) (Nat.le_of_ble_eq_true rfl) dX12_readUnit_148 rfl (fun M165 h166 => ?_)
              obtain ⟨hM165, fM165, h167⟩ := h166
              have u168f : b01 (XW M0 M165 0 1 1) = 1 := b01_i (Or.inl (by omega))
              have u168l := ri_l (M := M165) (by omega)
              refine j_lv [1, 2, 0] rfl ?_; exact J176 M165 (by omega) hM165 ((FR.rf.tr fM115 (by decide)).tr fM165 (by decide))
            · have u169k := ri_k (M := M115) (by omega) (by omega)
              refine j_aload_n C 1 0 dX12_readUnit_139 rfl rfl ?_
              refine j_callVv C (d := 5) (As := []) (st := []) 98 (s_lt rfl rfl) (s_kc (c := 11) rfl rfl) (by decide) rfl (s1_X12_next hM115 hpr (by omega) (by omega) (by omega)) gX12_readUnit_X12_next rfl hdX12_next (by decide) (Nat.le_of_ble_eq_true rfl) dX12_readUnit_140 rfl (fun M171 h172 => ?_)
              obtain ⟨hM171, fM171, h173⟩ := h172
              refine j_goto C 151 dX12_readUnit_143 (by decide) ?_
              have u174c := xw_c (N := M115) (P := M171) 1 (FR.cell fM171 (by decide)) (by omega)
              have u174t := xw_t (M := M0) (N := M115) (P := M171) (r1 := 0) (e1 := 1) (s1 := 0) (r2 := 0) (e2 := 0) (s2 := 1) 0 1 1 (by decide) (by omega) (by omega)
              have u174l := ri_l (M := M171) (by omega)
              refine j_lv [1, 2, 0] rfl ?_; exact J176 M171 (by omega) hM171 ((FR.rf.tr fM115 (by decide)).tr fM171 (by decide))
      refine y_if_eq C 93 dX12_readUnit_84 (by decide) (by omega) (fun h124 => ?_) (fun h124 => ?_)
      · refine j_aload_n C 0 0 dX12_readUnit_93 rfl rfl ?_
        refine y_bipush C dX12_readUnit_94 rfl ?_
        refine j_callVi C (d := 0) (As := [.int (sI 40)]) (st := []) 98 (s_lt rfl rfl) (s_kc (c := 11) rfl rfl) (by decide) rfl (s1_X12_is hM115 40 (by omega)) gX12_readUnit_X12_is rfl hdX12_is (by decide) (Nat.le_of_ble_eq_true rfl) dX12_readUnit_96 rfl (fun r125 M126 h127 => ?_)
        obtain ⟨a129, rfl, rfl, h128⟩ := h127
        refine y_if_eq C 108 dX12_readUnit_99 (by decide) (by omega) (fun h130 => ?_) (fun h130 => ?_)
        · refine y_sipush C dX12_readUnit_108 rfl ?_
          exact J132 3005 (by omega)
        · refine y_sipush C dX12_readUnit_102 rfl ?_
          refine j_goto C 111 dX12_readUnit_105 (by decide) ?_
          exact J132 3004 (by omega)
      · refine y_sipush C dX12_readUnit_87 rfl ?_
        refine j_goto C 111 dX12_readUnit_90 (by decide) ?_
        exact J132 3003 (by omega)
    · have u190k := ri_k (M := M0) (by omega) (by omega)
      refine j_aload_n C 0 0 dX12_readUnit_42 rfl rfl ?_
      refine j_iload_n C 1 1 dX12_readUnit_43 rfl rfl ?_
      refine j_callVi C (d := 6) (As := [.int (sI 1)]) (st := []) 98 (s_lt rfl rfl) (s_kc (c := 11) rfl rfl) (by decide) rfl (s2_X12_goesIn hM0 hpr (by omega) (by omega)) gX12_readUnit_X12_goesIn rfl hdX12_goesIn (by decide) (Nat.le_of_ble_eq_true rfl) dX12_readUnit_44 rfl (fun r191 M192 h193 => ?_)
      obtain ⟨a195, rfl, hM192, fM192, h194⟩ := h193
      refine y_if_ne C 51 dX12_readUnit_47 (by decide) (by omega) (fun h196 => ?_) (fun h196 => ?_)
      · have u197c := xw_c (N := M0) (P := M192) 1 (FR.cell fM192 (by decide)) (by omega)
        have u197t := xw_t (M := M0) (N := M0) (P := M192) (r1 := 0) (e1 := 0) (s1 := 0) (r2 := 0) (e2 := 0) (s2 := 1) 0 0 1 (by decide) (by omega) (by omega)
        have u197a := ca_x (M := M0) (N := M192) (r := 0) (e := 0) (s := 1) (by decide) (by omega) (by omega)
        have u197l := ri_l (M := M192) (by omega)
        refine j_aload_n C 0 0 dX12_readUnit_51 rfl rfl ?_
        refine j_iload_n C 1 1 dX12_readUnit_52 rfl rfl ?_
        refine y_iconst C dX12_readUnit_53 ?_
        refine y_iadd C dX12_readUnit_54 ?_
        refine j_callVv C (d := 24) (As := [.int (sI (1 + 1))]) (st := []) 98 (s_lt rfl rfl) (s_kc (c := 11) rfl rfl) (by decide) rfl (s5_X12_readTruth hM192 hpr (by omega) (by omega) (by omega)) gX12_readUnit_X12_readTruth rfl hdX12_readTruth (by decide) (Nat.le_of_ble_eq_true rfl) dX12_readUnit_55 rfl (fun M199 h200 => ?_)
        obtain ⟨hM199, fM199, h201⟩ := h200
        have u202t := xw_t (M := M0) (N := M192) (P := M199) (r1 := 0) (e1 := 0) (s1 := 1) (r2 := 0) (e2 := 1) (s2 := 0) 0 1 1 (by decide) (by omega) (by omega)
        have u202l := ri_l (M := M199) (by omega)
        refine j_aload_n C 0 0 dX12_readUnit_58 rfl rfl ?_
        refine y_bipush C dX12_readUnit_59 rfl ?_
        refine j_callVi C (d := 6) (As := [.int (sI 38)]) (st := []) 98 (s_lt rfl rfl) (s_kc (c := 11) rfl rfl) (by decide) rfl (s1_X12_eats hM199 hpr 38 (by omega) (by omega) (by omega) (by omega)) gX12_readUnit_X12_eats rfl hdX12_eats (by decide) (Nat.le_of_ble_eq_true rfl) dX12_readUnit_61 rfl (fun r203 M204 h205 => ?_)
        obtain ⟨a207, rfl, hM204, fM204, h206⟩ := h205
        have u208c := xw_c (N := M199) (P := M204) 0 (FR.cell fM204 (by decide)) (by omega)
        have u208t := xw_t (M := M0) (N := M199) (P := M204) (r1 := 0) (e1 := 1) (s1 := 1) (r2 := 0) (e2 := 0) (s2 := 0) 0 1 0 (by decide) (by omega) (by omega)
        have u208l := ri_l (M := M204) (by omega)
        refine y_if_ne C 72 dX12_readUnit_64 (by decide) (by omega) (fun h209 => ?_) (fun h209 => ?_)
        · have u210a := ca_x (M := M0) (N := M204) (r := 0) (e := 1) (s := 0) (by decide) (by omega) (by omega)
          exact hret _ _ _ dX12_readUnit_72 ⟨hM204, (((FR.rf.tr fM192 (by decide)).tr fM199 (by decide)).tr fM204 (by decide)), by omega⟩
        · refine j_aload_n C 0 0 dX12_readUnit_67 rfl rfl ?_
          refine y_iconst C dX12_readUnit_68 ?_
          refine j_callVv C (d := 0) (As := [.int (sI 2)]) (st := []) 98 (s_lt rfl rfl) (s_kc (c := 11) rfl rfl) (by decide) rfl (s1_X12_fails hM204 hpr 2 (by omega) (by omega) (by omega) (by omega)) gX12_readUnit_X12_fails rfl hdX12_fails (by decide) (Nat.le_of_ble_eq_true rfl) dX12_readUnit_69 rfl (fun M212 h213 => ?_)
          obtain ⟨hM212, fM212, h214⟩ := h213
          have u215f : b01 (XW M0 M212 0 1 0) = 1 := b01_i (Or.inl (by omega))
          have u215a := ca_x (M := M0) (N := M212) (r := 0) (e := 1) (s := 0) (by decide) (by omega) (by omega)
          exact hret _ _ _ dX12_readUnit_72 ⟨hM212, ((((FR.rf.tr fM192 (by decide)).tr fM199 (by decide)).tr fM204 (by decide)).tr fM212 (by decide)), by omega⟩
      · have u216f : b01 (XW M0 M192 0 1 0) = 1 := b01_i (Or.inl (by omega))
        have u216a := ca_x (M := M0) (N := M192) (r := 0) (e := 1) (s := 0) (by decide) (by omega) (by omega)
        exact hret _ _ _ dX12_readUnit_50 ⟨hM192, (FR.rf.tr fM192 (by decide)), by omega⟩
  · have u217k := ri_k (M := M0) (by omega) (by omega)
    refine j_aload_n C 0 0 dX12_readUnit_9 rfl rfl ?_
    refine j_iload_n C 1 1 dX12_readUnit_10 rfl rfl ?_
    refine j_callVi C (d := 6) (As := [.int (sI 1)]) (st := []) 98 (s_lt rfl rfl) (s_kc (c := 11) rfl rfl) (by decide) rfl (s2_X12_goesIn hM0 hpr (by omega) (by omega)) gX12_readUnit_X12_goesIn rfl hdX12_goesIn (by decide) (Nat.le_of_ble_eq_true rfl) dX12_readUnit_11 rfl (fun r218 M219 h220 => ?_)
    obtain ⟨a222, rfl, hM219, fM219, h221⟩ := h220
    refine y_if_ne C 18 dX12_readUnit_14 (by decide) (by omega) (fun h223 => ?_) (fun h223 => ?_)
    · have u224c := xw_c (N := M0) (P := M219) 1 (FR.cell fM219 (by decide)) (by omega)
      have u224t := xw_t (M := M0) (N := M0) (P := M219) (r1 := 0) (e1 := 0) (s1 := 0) (r2 := 0) (e2 := 0) (s2 := 1) 0 0 1 (by decide) (by omega) (by omega)
      have u224a := ca_x (M := M0) (N := M219) (r := 0) (e := 0) (s := 1) (by decide) (by omega) (by omega)
      have u224l := ri_l (M := M219) (by omega)
      refine j_aload_n C 0 0 dX12_readUnit_18 rfl rfl ?_
      refine j_iload_n C 1 1 dX12_readUnit_19 rfl rfl ?_
      refine y_iconst C dX12_readUnit_20 ?_
      refine y_iadd C dX12_readUnit_21 ?_
      refine j_callVv C (d := 22) (As := [.int (sI (1 + 1))]) (st := []) 98 (s_lt rfl rfl) (s_kc (c := 11) rfl rfl) (by decide) rfl (s5_X12_readUnit hM219 hpr (by omega) (by omega) (by omega)) gX12_readUnit_X12_readUnit rfl hdX12_readUnit (by decide) (Nat.le_of_ble_eq_true rfl) dX12_readUnit_22 rfl (fun M226 h227 => ?_)
      obtain ⟨hM226, fM226, h228⟩ := h227
      have u229t := xw_t (M := M0) (N := M219) (P := M226) (r1 := 0) (e1 := 0) (s1 := 1) (r2 := 0) (e2 := 1) (s2 := 0) 0 1 1 (by decide) (by omega) (by omega)
      have u229l := ri_l (M := M226) (by omega)
      have u229b := cb_x (M := M0) (N := M226) (r := 0) (e := 1) (s := 1) (by decide) (by omega) (by omega) (by omega)
      refine j_aload_n C 0 0 dX12_readUnit_25 rfl rfl ?_
      refine y_sipush C dX12_readUnit_26 rfl ?_
      refine j_callVv C (d := 0) (As := [.int (sI 3006)]) (st := []) 98 (s_lt rfl rfl) (s_kc (c := 11) rfl rfl) (by decide) rfl (s1_X12_codes hM226 hpr 3006 (by omega) (by omega) (by omega)) gX12_readUnit_X12_codes rfl hdX12_codes (by decide) (Nat.le_of_ble_eq_true rfl) dX12_readUnit_29 rfl (fun M231 h232 => ?_)
      obtain ⟨hM231, fM231, h233⟩ := h232
      have u234x := xw_a (M := M226) (N := M231) (c := 3006) (r := 1) (e := 0) (FR.cell fM231 (by decide)) (ap_not (INV.rd hM226 (i := 102) (c := 48) (k := 280) rfl rfl).1) (by omega)
      have u234t := xw_t (M := M0) (N := M226) (P := M231) (r1 := 0) (e1 := 1) (s1 := 1) (r2 := 1) (e2 := 0) (s2 := (-1)) 0 1 0 (by decide) (by omega) (by omega)
      have u234i := ri_c (M := M226) (N := M231) (FR.cell fM231 (by decide)) (by omega)
      have u234l := ri_l (M := M231) (by omega)
      have u234a := ca_x (M := M0) (N := M231) (r := 0) (e := 1) (s := 0) (by decide) (by omega) (by omega)
      have zz98_6 : (M231.1 98 6).toInt = (M226.1 98 6).toInt := s_fF fM231 (by decide) (rfl); have zz98_8 : (M231.1 98 8).toInt = (M226.1 98 8).toInt := s_fF fM231 (by decide) (rfl); exact hret _ _ _ dX12_readUnit_32 ⟨hM231, (((FR.rf.tr fM219 (by decide)).tr fM226 (by decide)).tr fM231 (by decide)), by omega⟩
    · have u235f : b01 (XW M0 M219 0 1 0) = 1 := b01_i (Or.inl (by omega))
      have u235a := ca_x (M := M0) (N := M219) (r := 0) (e := 1) (s := 0) (by decide) (by omega) (by omega)
      exact hret _ _ _ dX12_readUnit_17 ⟨hM219, (FR.rf.tr fM219 (by decide)), by omega⟩
set_option maxHeartbeats 4000000 in
theorem s6_X12_readBoth {l : Launch} {dC : Nat → ClassId} {dI : Nat → Nat → Nat} {ad : Nat → Nat} {cA : Nat → ClassId} {pr : Nat → Nat → Bool} {Kz : mm_M} {M0 : mm_M} (hM0 : INV pr Kz M0) (hpr : PM pr)  (hp0 : b01 (RIP M0) = 1) (hp1 : b01 (CA M0) = 1) (hp2 : b01 (PI M0) = 1) : Cv l 26 yX12_readBoth wsX12_readBoth dC dI ad cA [.ref (ad 98), .int (sI 1)] M0 (fun M' => INV pr Kz M' ∧ FR [98, 102] M0 M' ∧ (b01 (RIP M') = 1) ∧ ((M'.1 98 8).toInt = (M0.1 98 8).toInt) ∧ ((M0.1 98 6).toInt ≤ (M'.1 98 6).toInt) ∧ (b01 (XW M0 M' 0 1 0) = 1) ∧ (b01 (CA M') = 1) ∧ (b01 (PI M') = 1)) := by
  refine cv_of (cc := cX12_readBoth) (maxL := 2) (lv := [(0, .ref (ad 98)), (1, .int (sI 1))]) (by decide) rfl (Nat.le_of_ble_eq_true rfl) rfl ?_
  intro p e s m args below meth c A Q C hret
  have u101z := xw_0 M0
  have u101l := ri_l (M := M0) (by omega)
  refine j_aload_n C 0 0 dX12_readBoth_0 rfl rfl ?_
  refine j_iload_n C 1 1 dX12_readBoth_1 rfl rfl ?_
  refine j_callVv C (d := 25) (As := [.int (sI 1)]) (st := []) 98 (s_lt rfl rfl) (s_kc (c := 11) rfl rfl) (by decide) rfl (s6_X12_readUnit hM0 hpr (by omega) (by omega) (by omega)) gX12_readBoth_X12_readUnit rfl hdX12_readUnit (by decide) (Nat.le_of_ble_eq_true rfl) dX12_readBoth_2 rfl (fun M103 h104 => ?_)
  obtain ⟨hM103, fM103, h105⟩ := h104
  have u106l := ri_l (M := M103) (by omega)
  have L128 : ∀ (n126 : Nat), ∀ (M129 : mm_M), ((b01 (RIP M129) = 1) ∧ ((M129.1 98 8).toInt = (M0.1 98 8).toInt) ∧ ((M0.1 98 6).toInt ≤ (M129.1 98 6).toInt) ∧ (b01 (XW M0 M129 0 1 0) = 1) ∧ ((M129.1 98 6).toInt ≤ 900) ∧ (b01 (PI M129) = 1) ∧ (900 - (M129.1 98 6).toInt) < (n126 : Int)) → INV pr Kz M129 → FR [98, 102] M0 M129 → jj p l e (cn_R 26) s m args below meth c 0 0 Q 2 dC dI ad cA A M129 5 [(0, .ref (ad 98)), (1, .int (sI 1))] [] := by
    intro n126
    induction n126 with
    | zero =>
      intro M129 h130 hM129 fM129
      exfalso; omega
    | succ n126 ih127 =>
      intro M129 h130 hM129 fM129
      have u131l := ri_l (M := M129) (by omega)
      refine j_aload_n C 0 0 dX12_readBoth_5 rfl rfl ?_
      refine y_bipush C dX12_readBoth_6 rfl ?_
      refine j_callVi C (d := 6) (As := [.int (sI 14)]) (st := []) 98 (s_lt rfl rfl) (s_kc (c := 11) rfl rfl) (by decide) rfl (s1_X12_eats hM129 hpr 14 (by omega) (by omega) (by omega) (by omega)) gX12_readBoth_X12_eats rfl hdX12_eats (by decide) (Nat.le_of_ble_eq_true rfl) dX12_readBoth_8 rfl (fun r132 M133 h134 => ?_)
      obtain ⟨a136, rfl, hM133, fM133, h135⟩ := h134
      refine y_if_eq C 29 dX12_readBoth_11 (by decide) (by omega) (fun h137 => ?_) (fun h137 => ?_)
      · have u149c := xw_c (N := M129) (P := M133) 0 (FR.cell fM133 (by decide)) (by omega)
        have u149t := xw_t (M := M0) (N := M129) (P := M133) (r1 := 0) (e1 := 1) (s1 := 0) (r2 := 0) (e2 := 0) (s2 := 0) 0 1 0 (by decide) (by omega) (by omega)
        have u149a := ca_x (M := M0) (N := M133) (r := 0) (e := 1) (s := 0) (by decide) (by omega) (by omega)
        exact hret _ _ _ dX12_readBoth_29 ⟨hM133, ((FR.rf.tr fM129 (by decide)).tr fM133 (by decide)), by omega⟩
      · have u138c := xw_c (N := M129) (P := M133) 1 (FR.cell fM133 (by decide)) (by omega)
        have u138t := xw_t (M := M0) (N := M129) (P := M133) (r1 := 0) (e1 := 1) (s1 := 0) (r2 := 0) (e2 := 0) (s2 := 1) 0 1 1 (by decide) (by omega) (by omega)
        have u138a := ca_x (M := M0) (N := M133) (r := 0) (e := 1) (s := 1) (by decide) (by omega) (by omega)
        have u138l := ri_l (M := M133) (by omega)
        refine j_aload_n C 0 0 dX12_readBoth_14 rfl rfl ?_
        refine j_iload_n C 1 1 dX12_readBoth_15 rfl rfl ?_
        refine j_callVv C (d := 25) (As := [.int (sI 1)]) (st := []) 98 (s_lt rfl rfl) (s_kc (c := 11) rfl rfl) (by decide) rfl (s6_X12_readUnit hM133 hpr (by omega) (by omega) (by omega)) gX12_readBoth_X12_readUnit rfl hdX12_readUnit (by decide) (Nat.le_of_ble_eq_true rfl) dX12_readBoth_16 rfl (fun M140 h141 => ?_)
        obtain ⟨hM140, fM140, h142⟩ := h141
        have u143t := xw_t (M := M0) (N := M133) (P := M140) (r1 := 0) (e1 := 1) (s1 := 1) (r2 := 0) (e2 := 1) (s2 := 0) 0 2 1 (by decide) (by omega) (by omega)
        have u143l := ri_l (M := M140) (by omega)
        have u143b := cb_x (M := M0) (N := M140) (r := 0) (e := 2) (s := 1) (by decide) (by omega) (by omega) (by omega)
        refine j_aload_n C 0 0 dX12_readBoth_19 rfl rfl ?_
        refine y_sipush C dX12_readBoth_20 rfl ?_
        refine j_callVv C (d := 0) (As := [.int (sI 3007)]) (st := []) 98 (s_lt rfl rfl) (s_kc (c := 11) rfl rfl) (by decide) rfl (s1_X12_codes hM140 hpr 3007 (by omega) (by omega) (by omega)) gX12_readBoth_X12_codes rfl hdX12_codes (by decide) (Nat.le_of_ble_eq_true rfl) dX12_readBoth_23 rfl (fun M145 h146 => ?_)
        obtain ⟨hM145, fM145, h147⟩ := h146
        refine j_goto C 5 dX12_readBoth_26 (by decide) ?_
        have u148x := xw_a (M := M140) (N := M145) (c := 3007) (r := 2) (e := (-1)) (FR.cell fM145 (by decide)) (ap_bin ⟨(INV.rd hM140 (i := 102) (c := 48) (k := 280) rfl rfl).1, by omega, by omega⟩) (by omega)
        have u148t := xw_t (M := M0) (N := M140) (P := M145) (r1 := 0) (e1 := 2) (s1 := 1) (r2 := 2) (e2 := (-1)) (s2 := (-1)) 0 1 0 (by decide) (by omega) (by omega)
        have u148i := ri_c (M := M140) (N := M145) (FR.cell fM145 (by decide)) (by omega)
        have u148l := ri_l (M := M145) (by omega)
        have zz98_8 : (M145.1 98 8).toInt = (M140.1 98 8).toInt := s_fF fM145 (by decide) (rfl); have zz98_6 : (M145.1 98 6).toInt = (M140.1 98 6).toInt := s_fF fM145 (by decide) (rfl); exact ih127 M145 (by omega) hM145 ((((FR.rf.tr fM129 (by decide)).tr fM133 (by decide)).tr fM140 (by decide)).tr fM145 (by decide))
  exact L128 2010 M103 (by omega) hM103 (FR.rf.tr fM103 (by decide))
set_option maxHeartbeats 4000000 in
theorem s6_X12_readTruth {l : Launch} {dC : Nat → ClassId} {dI : Nat → Nat → Nat} {ad : Nat → Nat} {cA : Nat → ClassId} {pr : Nat → Nat → Bool} {Kz : mm_M} {M0 : mm_M} (hM0 : INV pr Kz M0) (hpr : PM pr)  (hp0 : b01 (RIP M0) = 1) (hp1 : b01 (CA M0) = 1) (hp2 : b01 (PI M0) = 1) : Cv l 27 yX12_readTruth wsX12_readTruth dC dI ad cA [.ref (ad 98), .int (sI 1)] M0 (fun M' => INV pr Kz M' ∧ FR [98, 102] M0 M' ∧ (b01 (RIP M') = 1) ∧ ((M'.1 98 8).toInt = (M0.1 98 8).toInt) ∧ ((M0.1 98 6).toInt ≤ (M'.1 98 6).toInt) ∧ (b01 (XW M0 M' 0 1 0) = 1) ∧ (b01 (CA M') = 1) ∧ (b01 (PI M') = 1)) := by
  refine cv_of (cc := cX12_readTruth) (maxL := 2) (lv := [(0, .ref (ad 98)), (1, .int (sI 1))]) (by decide) rfl (Nat.le_of_ble_eq_true rfl) rfl ?_
  intro p e s m args below meth c A Q C hret
  have u101z := xw_0 M0
  have u101l := ri_l (M := M0) (by omega)
  refine j_aload_n C 0 0 dX12_readTruth_0 rfl rfl ?_
  refine j_iload_n C 1 1 dX12_readTruth_1 rfl rfl ?_
  refine j_callVv C (d := 26) (As := [.int (sI 1)]) (st := []) 98 (s_lt rfl rfl) (s_kc (c := 11) rfl rfl) (by decide) rfl (s6_X12_readBoth hM0 hpr (by omega) (by omega) (by omega)) gX12_readTruth_X12_readBoth rfl hdX12_readBoth (by decide) (Nat.le_of_ble_eq_true rfl) dX12_readTruth_2 rfl (fun M103 h104 => ?_)
  obtain ⟨hM103, fM103, h105⟩ := h104
  have u106l := ri_l (M := M103) (by omega)
  have L128 : ∀ (n126 : Nat), ∀ (M129 : mm_M), ((b01 (RIP M129) = 1) ∧ ((M129.1 98 8).toInt = (M0.1 98 8).toInt) ∧ ((M0.1 98 6).toInt ≤ (M129.1 98 6).toInt) ∧ (b01 (XW M0 M129 0 1 0) = 1) ∧ ((M129.1 98 6).toInt ≤ 900) ∧ (b01 (PI M129) = 1) ∧ (900 - (M129.1 98 6).toInt) < (n126 : Int)) → INV pr Kz M129 → FR [98, 102] M0 M129 → jj p l e (cn_R 27) s m args below meth c 0 0 Q 2 dC dI ad cA A M129 5 [(0, .ref (ad 98)), (1, .int (sI 1))] [] := by
    intro n126
    induction n126 with
    | zero =>
      intro M129 h130 hM129 fM129
      exfalso; omega
    | succ n126 ih127 =>
      intro M129 h130 hM129 fM129
      have u131l := ri_l (M := M129) (by omega)
      refine j_aload_n C 0 0 dX12_readTruth_5 rfl rfl ?_
      refine y_bipush C dX12_readTruth_6 rfl ?_
      refine j_callVi C (d := 6) (As := [.int (sI 15)]) (st := []) 98 (s_lt rfl rfl) (s_kc (c := 11) rfl rfl) (by decide) rfl (s1_X12_eats hM129 hpr 15 (by omega) (by omega) (by omega) (by omega)) gX12_readTruth_X12_eats rfl hdX12_eats (by decide) (Nat.le_of_ble_eq_true rfl) dX12_readTruth_8 rfl (fun r132 M133 h134 => ?_)
      obtain ⟨a136, rfl, hM133, fM133, h135⟩ := h134
      refine y_if_eq C 29 dX12_readTruth_11 (by decide) (by omega) (fun h137 => ?_) (fun h137 => ?_)
      · have u149c := xw_c (N := M129) (P := M133) 0 (FR.cell fM133 (by decide)) (by omega)
        have u149t := xw_t (M := M0) (N := M129) (P := M133) (r1 := 0) (e1 := 1) (s1 := 0) (r2 := 0) (e2 := 0) (s2 := 0) 0 1 0 (by decide) (by omega) (by omega)
        have u149a := ca_x (M := M0) (N := M133) (r := 0) (e := 1) (s := 0) (by decide) (by omega) (by omega)
        exact hret _ _ _ dX12_readTruth_29 ⟨hM133, ((FR.rf.tr fM129 (by decide)).tr fM133 (by decide)), by omega⟩
      · have u138c := xw_c (N := M129) (P := M133) 1 (FR.cell fM133 (by decide)) (by omega)
        have u138t := xw_t (M := M0) (N := M129) (P := M133) (r1 := 0) (e1 := 1) (s1 := 0) (r2 := 0) (e2 := 0) (s2 := 1) 0 1 1 (by decide) (by omega) (by omega)
        have u138a := ca_x (M := M0) (N := M133) (r := 0) (e := 1) (s := 1) (by decide) (by omega) (by omega)
        have u138l := ri_l (M := M133) (by omega)
        refine j_aload_n C 0 0 dX12_readTruth_14 rfl rfl ?_
        refine j_iload_n C 1 1 dX12_readTruth_15 rfl rfl ?_
        refine j_callVv C (d := 26) (As := [.int (sI 1)]) (st := []) 98 (s_lt rfl rfl) (s_kc (c := 11) rfl rfl) (by decide) rfl (s6_X12_readBoth hM133 hpr (by omega) (by omega) (by omega)) gX12_readTruth_X12_readBoth rfl hdX12_readBoth (by decide) (Nat.le_of_ble_eq_true rfl) dX12_readTruth_16 rfl (fun M140 h141 => ?_)
        obtain ⟨hM140, fM140, h142⟩ := h141
        have u143t := xw_t (M := M0) (N := M133) (P := M140) (r1 := 0) (e1 := 1) (s1 := 1) (r2 := 0) (e2 := 1) (s2 := 0) 0 2 1 (by decide) (by omega) (by omega)
        have u143l := ri_l (M := M140) (by omega)
        have u143b := cb_x (M := M0) (N := M140) (r := 0) (e := 2) (s := 1) (by decide) (by omega) (by omega) (by omega)
        refine j_aload_n C 0 0 dX12_readTruth_19 rfl rfl ?_
        refine y_sipush C dX12_readTruth_20 rfl ?_
        refine j_callVv C (d := 0) (As := [.int (sI 3008)]) (st := []) 98 (s_lt rfl rfl) (s_kc (c := 11) rfl rfl) (by decide) rfl (s1_X12_codes hM140 hpr 3008 (by omega) (by omega) (by omega)) gX12_readTruth_X12_codes rfl hdX12_codes (by decide) (Nat.le_of_ble_eq_true rfl) dX12_readTruth_23 rfl (fun M145 h146 => ?_)
        obtain ⟨hM145, fM145, h147⟩ := h146
        refine j_goto C 5 dX12_readTruth_26 (by decide) ?_
        have u148x := xw_a (M := M140) (N := M145) (c := 3008) (r := 2) (e := (-1)) (FR.cell fM145 (by decide)) (ap_bin ⟨(INV.rd hM140 (i := 102) (c := 48) (k := 280) rfl rfl).1, by omega, by omega⟩) (by omega)
        have u148t := xw_t (M := M0) (N := M140) (P := M145) (r1 := 0) (e1 := 2) (s1 := 1) (r2 := 2) (e2 := (-1)) (s2 := (-1)) 0 1 0 (by decide) (by omega) (by omega)
        have u148i := ri_c (M := M140) (N := M145) (FR.cell fM145 (by decide)) (by omega)
        have u148l := ri_l (M := M145) (by omega)
        have zz98_8 : (M145.1 98 8).toInt = (M140.1 98 8).toInt := s_fF fM145 (by decide) (rfl); have zz98_6 : (M145.1 98 6).toInt = (M140.1 98 6).toInt := s_fF fM145 (by decide) (rfl); exact ih127 M145 (by omega) hM145 ((((FR.rf.tr fM129 (by decide)).tr fM133 (by decide)).tr fM140 (by decide)).tr fM145 (by decide))
  exact L128 2010 M103 (by omega) hM103 (FR.rf.tr fM103 (by decide))
set_option maxHeartbeats 4000000 in
theorem s7_X12_readUnit {l : Launch} {dC : Nat → ClassId} {dI : Nat → Nat → Nat} {ad : Nat → Nat} {cA : Nat → ClassId} {pr : Nat → Nat → Bool} {Kz : mm_M} {M0 : mm_M} (hM0 : INV pr Kz M0) (hpr : PM pr)  (hp0 : b01 (RIP M0) = 1) (hp1 : b01 (CA M0) = 1) (hp2 : b01 (PI M0) = 1) : Cv l 28 yX12_readUnit wsX12_readUnit dC dI ad cA [.ref (ad 98), .int (sI 0)] M0 (fun M' => INV pr Kz M' ∧ FR [98, 102] M0 M' ∧ (b01 (RIP M') = 1) ∧ ((M'.1 98 8).toInt = (M0.1 98 8).toInt) ∧ ((M0.1 98 6).toInt ≤ (M'.1 98 6).toInt) ∧ (b01 (XW M0 M' 0 1 0) = 1) ∧ (b01 (CA M') = 1) ∧ (b01 (PI M') = 1)) := by
  refine cv_of (cc := cX12_readUnit) (maxL := 3) (lv := [(0, .ref (ad 98)), (1, .int (sI 0))]) (by decide) rfl (Nat.le_of_ble_eq_true rfl) rfl ?_
  intro p e s m args below meth c A Q C hret
  have u101z := xw_0 M0
  have u101l := ri_l (M := M0) (by omega)
  refine j_aload_n C 0 0 dX12_readUnit_0 rfl rfl ?_
  refine y_bipush C dX12_readUnit_1 rfl ?_
  refine j_callVi C (d := 0) (As := [.int (sI 16)]) (st := []) 98 (s_lt rfl rfl) (s_kc (c := 11) rfl rfl) (by decide) rfl (s1_X12_is hM0 16 (by omega)) gX12_readUnit_X12_is rfl hdX12_is (by decide) (Nat.le_of_ble_eq_true rfl) dX12_readUnit_3 rfl (fun r102 M103 h104 => ?_)
  obtain ⟨a106, rfl, rfl, h105⟩ := h104
  refine y_if_eq C 33 dX12_readUnit_6 (by decide) (by omega) (fun h107 => ?_) (fun h107 => ?_)
  · refine j_aload_n C 0 0 dX12_readUnit_33 rfl rfl ?_
    refine y_bipush C dX12_readUnit_34 rfl ?_
    refine j_callVi C (d := 0) (As := [.int (sI 37)]) (st := []) 98 (s_lt rfl rfl) (s_kc (c := 11) rfl rfl) (by decide) rfl (s1_X12_is hM0 37 (by omega)) gX12_readUnit_X12_is rfl hdX12_is (by decide) (Nat.le_of_ble_eq_true rfl) dX12_readUnit_36 rfl (fun r108 M109 h110 => ?_)
    obtain ⟨a112, rfl, rfl, h111⟩ := h110
    refine y_if_eq C 73 dX12_readUnit_39 (by decide) (by omega) (fun h113 => ?_) (fun h113 => ?_)
    · refine j_aload_n C 0 0 dX12_readUnit_73 rfl rfl ?_
      refine j_iload_n C 1 1 dX12_readUnit_74 rfl rfl ?_
      refine j_callVv C (d := 27) (As := [.int (sI 0)]) (st := []) 98 (s_lt rfl rfl) (s_kc (c := 11) rfl rfl) (by decide) rfl (s7_X12_readSum hM0 hpr (by omega) (by omega) (by omega)) gX12_readUnit_X12_readSum rfl hdX12_readSum (by decide) (Nat.le_of_ble_eq_true rfl) dX12_readUnit_75 rfl (fun M115 h116 => ?_)
      obtain ⟨hM115, fM115, h117⟩ := h116
      have u118l := ri_l (M := M115) (by omega)
      refine j_aload_n C 0 0 dX12_readUnit_78 rfl rfl ?_
      refine y_bipush C dX12_readUnit_79 rfl ?_
      refine j_callVi C (d := 0) (As := [.int (sI 39)]) (st := []) 98 (s_lt rfl rfl) (s_kc (c := 11) rfl rfl) (by decide) rfl (s1_X12_is hM115 39 (by omega)) gX12_readUnit_X12_is rfl hdX12_is (by decide) (Nat.le_of_ble_eq_true rfl) dX12_readUnit_81 rfl (fun r119 M120 h121 => ?_)
      obtain ⟨a123, rfl, rfl, h122⟩ := h121
      have J132 : ∀ (a131 : Int), (3003 ≤ a131 ∧ a131 ≤ 3005) → jj p l e (cn_R 28) s m args below meth c 0 0 Q 3 dC dI ad cA A M115 111 [(0, .ref (ad 98)), (1, .int (sI 0))] [.int (sI a131)] := by
        intro a131 h133
        refine j_istore_n C 2 [(2, .int (sI a131)), (0, .ref (ad 98)), (1, .int (sI 0))] dX12_readUnit_111 rfl (by decide) rfl ?_
        refine j_aload_n C 1 0 dX12_readUnit_112 rfl rfl ?_
        refine y_bipush C dX12_readUnit_113 rfl ?_
        refine j_callVi C (d := 0) (As := [.int (sI 39)]) (st := []) 98 (s_lt rfl rfl) (s_kc (c := 11) rfl rfl) (by decide) rfl (s1_X12_is hM115 39 (by omega)) gX12_readUnit_X12_is rfl hdX12_is (by decide) (Nat.le_of_ble_eq_true rfl) dX12_readUnit_115 rfl (fun r134 M135 h136 => ?_)
        obtain ⟨a138, rfl, rfl, h137⟩ := h136
        have J176 : ∀ (M175 : mm_M), ((b01 (RIP M175) = 1) ∧ ((M175.1 98 8).toInt = (M0.1 98 8).toInt) ∧ ((M0.1 98 6).toInt ≤ (M175.1 98 6).toInt) ∧ (b01 (XW M0 M175 0 1 1) = 1) ∧ (b01 (PI M175) = 1)) → INV pr Kz M175 → FR [98, 102] M0 M175 → jj p l e (cn_R 28) s m args below meth c 0 0 Q 3 dC dI ad cA A M175 151 [(0, .ref (ad 98)), (1, .int (sI 0)), (2, .int (sI a131))] [] := by
          intro M175 h177 hM175 fM175
          have u179a := ca_x (M := M0) (N := M175) (r := 0) (e := 1) (s := 1) (by decide) (by omega) (by omega)
          have u179l := ri_l (M := M175) (by omega)
          refine j_aload_n C 0 0 dX12_readUnit_151 rfl rfl ?_
          refine j_iload_n C 1 1 dX12_readUnit_152 rfl rfl ?_
          refine j_callVv C (d := 27) (As := [.int (sI 0)]) (st := []) 98 (s_lt rfl rfl) (s_kc (c := 11) rfl rfl) (by decide) rfl (s7_X12_readSum hM175 hpr (by omega) (by omega) (by omega)) gX12_readUnit_X12_readSum rfl hdX12_readSum (by decide) (Nat.le_of_ble_eq_true rfl) dX12_readUnit_153 rfl (fun M181 h182 => ?_)
          obtain ⟨hM181, fM181, h183⟩ := h182
          have u184t := xw_t (M := M0) (N := M175) (P := M181) (r1 := 0) (e1 := 1) (s1 := 1) (r2 := 0) (e2 := 1) (s2 := 0) 0 2 1 (by decide) (by omega) (by omega)
          have u184l := ri_l (M := M181) (by omega)
          have u184b := cb_x (M := M0) (N := M181) (r := 0) (e := 2) (s := 1) (by decide) (by omega) (by omega) (by omega)
          refine j_aload_n C 0 0 dX12_readUnit_156 rfl rfl ?_
          refine j_iload_n C 2 2 dX12_readUnit_157 rfl rfl ?_
          refine j_callVv C (d := 0) (As := [.int (sI a131)]) (st := []) 98 (s_lt rfl rfl) (s_kc (c := 11) rfl rfl) (by decide) rfl (s1_X12_codes hM181 hpr a131 (by omega) (by omega) (by omega)) gX12_readUnit_X12_codes rfl hdX12_codes (by decide) (Nat.le_of_ble_eq_true rfl) dX12_readUnit_158 rfl (fun M186 h187 => ?_)
          obtain ⟨hM186, fM186, h188⟩ := h187
          have u189x := xw_a (M := M181) (N := M186) (c := a131) (r := 2) (e := (-1)) (FR.cell fM186 (by decide)) (ap_bin ⟨(INV.rd hM181 (i := 102) (c := 48) (k := 280) rfl rfl).1, by omega, by omega⟩) (by omega)
          have u189t := xw_t (M := M0) (N := M181) (P := M186) (r1 := 0) (e1 := 2) (s1 := 1) (r2 := 2) (e2 := (-1)) (s2 := (-1)) 0 1 0 (by decide) (by omega) (by omega)
          have u189i := ri_c (M := M181) (N := M186) (FR.cell fM186 (by decide)) (by omega)
          have u189l := ri_l (M := M186) (by omega)
          have u189a := ca_x (M := M0) (N := M186) (r := 0) (e := 1) (s := 0) (by decide) (by omega) (by omega)
          have zz98_6 : (M186.1 98 6).toInt = (M181.1 98 6).toInt := s_fF fM186 (by decide) (rfl); have zz98_8 : (M186.1 98 8).toInt = (M181.1 98 8).toInt := s_fF fM186 (by decide) (rfl); exact hret _ _ _ dX12_readUnit_161 ⟨hM186, (((FR.rf.tr fM175 (by decide)).tr fM181 (by decide)).tr fM186 (by decide)), by omega⟩
        refine y_if_ne C 139 dX12_readUnit_118 (by decide) (by omega) (fun h139 => ?_) (fun h139 => ?_)
        · have u140k := ri_k (M := M115) (by omega) (by omega)
          refine j_aload_n C 1 0 dX12_readUnit_139 rfl rfl ?_
          refine j_callVv C (d := 5) (As := []) (st := []) 98 (s_lt rfl rfl) (s_kc (c := 11) rfl rfl) (by decide) rfl (s1_X12_next hM115 hpr (by omega) (by omega) (by omega)) gX12_readUnit_X12_next rfl hdX12_next (by decide) (Nat.le_of_ble_eq_true rfl) dX12_readUnit_140 rfl (fun M142 h143 => ?_)
          obtain ⟨hM142, fM142, h144⟩ := h143
          refine j_goto C 151 dX12_readUnit_143 (by decide) ?_
          have u145c := xw_c (N := M115) (P := M142) 1 (FR.cell fM142 (by decide)) (by omega)
          have u145t := xw_t (M := M0) (N := M115) (P := M142) (r1 := 0) (e1 := 1) (s1 := 0) (r2 := 0) (e2 := 0) (s2 := 1) 0 1 1 (by decide) (by omega) (by omega)
          have u145l := ri_l (M := M142) (by omega)
          refine j_lv [1, 2, 0] rfl ?_; exact J176 M142 (by omega) hM142 ((FR.rf.tr fM115 (by decide)).tr fM142 (by decide))
        · refine j_aload_n C 1 0 dX12_readUnit_121 rfl rfl ?_
          refine y_bipush C dX12_readUnit_122 rfl ?_
          refine j_callVi C (d := 0) (As := [.int (sI 40)]) (st := []) 98 (s_lt rfl rfl) (s_kc (c := 11) rfl rfl) (by decide) rfl (s1_X12_is hM115 40 (by omega)) gX12_readUnit_X12_is rfl hdX12_is (by decide) (Nat.le_of_ble_eq_true rfl) dX12_readUnit_124 rfl (fun r146 M147 h148 => ?_)
          obtain ⟨a150, rfl, rfl, h149⟩ := h148
          refine y_if_ne C 139 dX12_readUnit_127 (by decide) (by omega) (fun h151 => ?_) (fun h151 => ?_)
          · have u152k := ri_k (M := M115) (by omega) (by omega)
            refine j_aload_n C 1 0 dX12_readUnit_139 rfl rfl ?_
            refine j_callVv C (d := 5) (As := []) (st := []) 98 (s_lt rfl rfl) (s_kc (c := 11) rfl rfl) (by decide) rfl (s1_X12_next hM115 hpr (by omega) (by omega) (by omega)) gX12_readUnit_X12_next rfl hdX12_next (by decide) (Nat.le_of_ble_eq_true rfl) dX12_readUnit_140 rfl (fun M154 h155 => ?_)
            obtain ⟨hM154, fM154, h156⟩ := h155
            refine j_goto C 151 dX12_readUnit_143 (by decide) ?_
            have u157c := xw_c (N := M115) (P := M154) 1 (FR.cell fM154 (by decide)) (by omega)
            have u157t := xw_t (M := M0) (N := M115) (P := M154) (r1 := 0) (e1 := 1) (s1 := 0) (r2 := 0) (e2 := 0) (s2 := 1) 0 1 1 (by decide) (by omega) (by omega)
            have u157l := ri_l (M := M154) (by omega)
            refine j_lv [1, 2, 0] rfl ?_; exact J176 M154 (by omega) hM154 ((FR.rf.tr fM115 (by decide)).tr fM154 (by decide))
          · refine j_aload_n C 1 0 dX12_readUnit_130 rfl rfl ?_
            refine y_bipush C dX12_readUnit_131 rfl ?_
            refine j_callVi C (d := 0) (As := [.int (sI 41)]) (st := []) 98 (s_lt rfl rfl) (s_kc (c := 11) rfl rfl) (by decide) rfl (s1_X12_is hM115 41 (by omega)) gX12_readUnit_X12_is rfl hdX12_is (by decide) (Nat.le_of_ble_eq_true rfl) dX12_readUnit_133 rfl (fun r158 M159 h160 => ?_)
            obtain ⟨a162, rfl, rfl, h161⟩ := h160
            refine y_if_eq C 146 dX12_readUnit_136 (by decide) (by omega) (fun h163 => ?_) (fun h163 => ?_)
            · refine j_aload_n C 1 0 dX12_readUnit_146 rfl rfl ?_
              refine y_iconst C dX12_readUnit_147 ?_
              refine j_callVv C (d := 0) (As := [.int (sI 2)]) (st := []) 98 (s_lt rfl rfl) (s_kc (c := 11) rfl rfl) (by decide) rfl (s1_X12_fails hM115 hpr 2 (by omega) (by omega) (by omega) (by omega)) gX12_readUnit_X12_fails rfl hdX12_fails (by decide) (Nat.le_of_ble_eq_true rfl) dX12_readUnit_148 rfl (fun M165 h166 => ?_)
              obtain ⟨hM165, fM165, h167⟩ := h166
              have u168f : b01 (XW M0 M165 0 1 1) = 1 := b01_i (Or.inl (by omega))
              have u168l := ri_l (M := M165) (by omega)
              refine j_lv [1, 2, 0] rfl ?_; exact J176 M165 (by omega) hM165 ((FR.rf.tr fM115 (by decide)).tr fM165 (by decide))
            · have u169k := ri_k (M := M115) (by omega) (by omega)
              refine j_aload_n C 1 0 dX12_readUnit_139 rfl rfl ?_
              refine j_callVv C (d := 5) (As := []) (st := []) 98 (s_lt rfl rfl) (s_kc (c := 11) rfl rfl) (by decide) rfl (s1_X12_next hM115 hpr (by omega) (by omega) (by omega)) gX12_readUnit_X12_next rfl hdX12_next (by decide) (Nat.le_of_ble_eq_true rfl) dX12_readUnit_140 rfl (fun M171 h172 => ?_)
              obtain ⟨hM171, fM171, h173⟩ := h172
              refine j_goto C 151 dX12_readUnit_143 (by decide) ?_
              have u174c := xw_c (N := M115) (P := M171) 1 (FR.cell fM171 (by decide)) (by omega)
              have u174t := xw_t (M := M0) (N := M115) (P := M171) (r1 := 0) (e1 := 1) (s1 := 0) (r2 := 0) (e2 := 0) (s2 := 1) 0 1 1 (by decide) (by omega) (by omega)
              have u174l := ri_l (M := M171) (by omega)
              refine j_lv [1, 2, 0] rfl ?_; exact J176 M171 (by omega) hM171 ((FR.rf.tr fM115 (by decide)).tr fM171 (by decide))
      refine y_if_eq C 93 dX12_readUnit_84 (by decide) (by omega) (fun h124 => ?_) (fun h124 => ?_)
      · refine j_aload_n C 0 0 dX12_readUnit_93 rfl rfl ?_
        refine y_bipush C dX12_readUnit_94 rfl ?_
        refine j_callVi C (d := 0) (As := [.int (sI 40)]) (st := []) 98 (s_lt rfl rfl) (s_kc (c := 11) rfl rfl) (by decide) rfl (s1_X12_is hM115 40 (by omega)) gX12_readUnit_X12_is rfl hdX12_is (by decide) (Nat.le_of_ble_eq_true rfl) dX12_readUnit_96 rfl (fun r125 M126 h127 => ?_)
        obtain ⟨a129, rfl, rfl, h128⟩ := h127
        refine y_if_eq C 108 dX12_readUnit_99 (by decide) (by omega) (fun h130 => ?_) (fun h130 => ?_)
        · refine y_sipush C dX12_readUnit_108 rfl ?_
          exact J132 3005 (by omega)
        · refine y_sipush C dX12_readUnit_102 rfl ?_
          refine j_goto C 111 dX12_readUnit_105 (by decide) ?_
          exact J132 3004 (by omega)
      · refine y_sipush C dX12_readUnit_87 rfl ?_
        refine j_goto C 111 dX12_readUnit_90 (by decide) ?_
        exact J132 3003 (by omega)
    · have u190k := ri_k (M := M0) (by omega) (by omega)
      refine j_aload_n C 0 0 dX12_readUnit_42 rfl rfl ?_
      refine j_iload_n C 1 1 dX12_readUnit_43 rfl rfl ?_
      refine j_callVi C (d := 6) (As := [.int (sI 0)]) (st := []) 98 (s_lt rfl rfl) (s_kc (c := 11) rfl rfl) (by decide) rfl (s1_X12_goesIn hM0 hpr (by omega) (by omega)) gX12_readUnit_X12_goesIn rfl hdX12_goesIn (by decide) (Nat.le_of_ble_eq_true rfl) dX12_readUnit_44 rfl (fun r191 M192 h193 => ?_)
      obtain ⟨a195, rfl, hM192, fM192, h194⟩ := h193
      refine y_if_ne C 51 dX12_readUnit_47 (by decide) (by omega) (fun h196 => ?_) (fun h196 => ?_)
      · have u197c := xw_c (N := M0) (P := M192) 1 (FR.cell fM192 (by decide)) (by omega)
        have u197t := xw_t (M := M0) (N := M0) (P := M192) (r1 := 0) (e1 := 0) (s1 := 0) (r2 := 0) (e2 := 0) (s2 := 1) 0 0 1 (by decide) (by omega) (by omega)
        have u197a := ca_x (M := M0) (N := M192) (r := 0) (e := 0) (s := 1) (by decide) (by omega) (by omega)
        have u197l := ri_l (M := M192) (by omega)
        refine j_aload_n C 0 0 dX12_readUnit_51 rfl rfl ?_
        refine j_iload_n C 1 1 dX12_readUnit_52 rfl rfl ?_
        refine y_iconst C dX12_readUnit_53 ?_
        refine y_iadd C dX12_readUnit_54 ?_
        refine j_callVv C (d := 27) (As := [.int (sI (0 + 1))]) (st := []) 98 (s_lt rfl rfl) (s_kc (c := 11) rfl rfl) (by decide) rfl (s6_X12_readTruth hM192 hpr (by omega) (by omega) (by omega)) gX12_readUnit_X12_readTruth rfl hdX12_readTruth (by decide) (Nat.le_of_ble_eq_true rfl) dX12_readUnit_55 rfl (fun M199 h200 => ?_)
        obtain ⟨hM199, fM199, h201⟩ := h200
        have u202t := xw_t (M := M0) (N := M192) (P := M199) (r1 := 0) (e1 := 0) (s1 := 1) (r2 := 0) (e2 := 1) (s2 := 0) 0 1 1 (by decide) (by omega) (by omega)
        have u202l := ri_l (M := M199) (by omega)
        refine j_aload_n C 0 0 dX12_readUnit_58 rfl rfl ?_
        refine y_bipush C dX12_readUnit_59 rfl ?_
        refine j_callVi C (d := 6) (As := [.int (sI 38)]) (st := []) 98 (s_lt rfl rfl) (s_kc (c := 11) rfl rfl) (by decide) rfl (s1_X12_eats hM199 hpr 38 (by omega) (by omega) (by omega) (by omega)) gX12_readUnit_X12_eats rfl hdX12_eats (by decide) (Nat.le_of_ble_eq_true rfl) dX12_readUnit_61 rfl (fun r203 M204 h205 => ?_)
        obtain ⟨a207, rfl, hM204, fM204, h206⟩ := h205
        have u208c := xw_c (N := M199) (P := M204) 0 (FR.cell fM204 (by decide)) (by omega)
        have u208t := xw_t (M := M0) (N := M199) (P := M204) (r1 := 0) (e1 := 1) (s1 := 1) (r2 := 0) (e2 := 0) (s2 := 0) 0 1 0 (by decide) (by omega) (by omega)
        have u208l := ri_l (M := M204) (by omega)
        refine y_if_ne C 72 dX12_readUnit_64 (by decide) (by omega) (fun h209 => ?_) (fun h209 => ?_)
        · have u210a := ca_x (M := M0) (N := M204) (r := 0) (e := 1) (s := 0) (by decide) (by omega) (by omega)
          exact hret _ _ _ dX12_readUnit_72 ⟨hM204, (((FR.rf.tr fM192 (by decide)).tr fM199 (by decide)).tr fM204 (by decide)), by omega⟩
        · refine j_aload_n C 0 0 dX12_readUnit_67 rfl rfl ?_
          refine y_iconst C dX12_readUnit_68 ?_
          refine j_callVv C (d := 0) (As := [.int (sI 2)]) (st := []) 98 (s_lt rfl rfl) (s_kc (c := 11) rfl rfl) (by decide) rfl (s1_X12_fails hM204 hpr 2 (by omega) (by omega) (by omega) (by omega)) gX12_readUnit_X12_fails rfl hdX12_fails (by decide) (Nat.le_of_ble_eq_true rfl) dX12_readUnit_69 rfl (fun M212 h213 => ?_)
          obtain ⟨hM212, fM212, h214⟩ := h213
          have u215f : b01 (XW M0 M212 0 1 0) = 1 := b01_i (Or.inl (by omega))
          have u215a := ca_x (M := M0) (N := M212) (r := 0) (e := 1) (s := 0) (by decide) (by omega) (by omega)
          exact hret _ _ _ dX12_readUnit_72 ⟨hM212, ((((FR.rf.tr fM192 (by decide)).tr fM199 (by decide)).tr fM204 (by decide)).tr fM212 (by decide)), by omega⟩
      · have u216f : b01 (XW M0 M192 0 1 0) = 1 := b01_i (Or.inl (by omega))
        have u216a := ca_x (M := M0) (N := M192) (r := 0) (e := 1) (s := 0) (by decide) (by omega) (by omega)
        exact hret _ _ _ dX12_readUnit_50 ⟨hM192, (FR.rf.tr fM192 (by decide)), by omega⟩
  · have u217k := ri_k (M := M0) (by omega) (by omega)
    refine j_aload_n C 0 0 dX12_readUnit_9 rfl rfl ?_
    refine j_iload_n C 1 1 dX12_readUnit_10 rfl rfl ?_
    refine j_callVi C (d := 6) (As := [.int (sI 0)]) (st := []) 98 (s_lt rfl rfl) (s_kc (c := 11) rfl rfl) (by decide) rfl (s1_X12_goesIn hM0 hpr (by omega) (by omega)) gX12_readUnit_X12_goesIn rfl hdX12_goesIn (by decide) (Nat.le_of_ble_eq_true rfl) dX12_readUnit_11 rfl (fun r218 M219 h220 => ?_)
    obtain ⟨a222, rfl, hM219, fM219, h221⟩ := h220
    refine y_if_ne C 18 dX12_readUnit_14 (by decide) (by omega) (fun h223 => ?_) (fun h223 => ?_)
    · have u224c := xw_c (N := M0) (P := M219) 1 (FR.cell fM219 (by decide)) (by omega)
      have u224t := xw_t (M := M0) (N := M0) (P := M219) (r1 := 0) (e1 := 0) (s1 := 0) (r2 := 0) (e2 := 0) (s2 := 1) 0 0 1 (by decide) (by omega) (by omega)
      have u224a := ca_x (M := M0) (N := M219) (r := 0) (e := 0) (s := 1) (by decide) (by omega) (by omega)
      have u224l := ri_l (M := M219) (by omega)
      refine j_aload_n C 0 0 dX12_readUnit_18 rfl rfl ?_
      refine j_iload_n C 1 1 dX12_readUnit_19 rfl rfl ?_
      refine y_iconst C dX12_readUnit_20 ?_
      refine y_iadd C dX12_readUnit_21 ?_
      refine j_callVv C (d := 25) (As := [.int (sI (0 + 1))]) (st := []) 98 (s_lt rfl rfl) (s_kc (c := 11) rfl rfl) (by decide) rfl (s6_X12_readUnit hM219 hpr (by omega) (by omega) (by omega)) gX12_readUnit_X12_readUnit rfl hdX12_readUnit (by decide) (Nat.le_of_ble_eq_true rfl) dX12_readUnit_22 rfl (fun M226 h227 => ?_)
      obtain ⟨hM226, fM226, h228⟩ := h227
      have u229t := xw_t (M := M0) (N := M219) (P := M226) (r1 := 0) (e1 := 0) (s1 := 1) (r2 := 0) (e2 := 1) (s2 := 0) 0 1 1 (by decide) (by omega) (by omega)
      have u229l := ri_l (M := M226) (by omega)
      have u229b := cb_x (M := M0) (N := M226) (r := 0) (e := 1) (s := 1) (by decide) (by omega) (by omega) (by omega)
      refine j_aload_n C 0 0 dX12_readUnit_25 rfl rfl ?_
      refine y_sipush C dX12_readUnit_26 rfl ?_
      refine j_callVv C (d := 0) (As := [.int (sI 3006)]) (st := []) 98 (s_lt rfl rfl) (s_kc (c := 11) rfl rfl) (by decide) rfl (s1_X12_codes hM226 hpr 3006 (by omega) (by omega) (by omega)) gX12_readUnit_X12_codes rfl hdX12_codes (by decide) (Nat.le_of_ble_eq_true rfl) dX12_readUnit_29 rfl (fun M231 h232 => ?_)
      obtain ⟨hM231, fM231, h233⟩ := h232
      have u234x := xw_a (M := M226) (N := M231) (c := 3006) (r := 1) (e := 0) (FR.cell fM231 (by decide)) (ap_not (INV.rd hM226 (i := 102) (c := 48) (k := 280) rfl rfl).1) (by omega)
      have u234t := xw_t (M := M0) (N := M226) (P := M231) (r1 := 0) (e1 := 1) (s1 := 1) (r2 := 1) (e2 := 0) (s2 := (-1)) 0 1 0 (by decide) (by omega) (by omega)
      have u234i := ri_c (M := M226) (N := M231) (FR.cell fM231 (by decide)) (by omega)
      have u234l := ri_l (M := M231) (by omega)
      have u234a := ca_x (M := M0) (N := M231) (r := 0) (e := 1) (s := 0) (by decide) (by omega) (by omega)
      have zz98_6 : (M231.1 98 6).toInt = (M226.1 98 6).toInt := s_fF fM231 (by decide) (rfl); have zz98_8 : (M231.1 98 8).toInt = (M226.1 98 8).toInt := s_fF fM231 (by decide) (rfl); exact hret _ _ _ dX12_readUnit_32 ⟨hM231, (((FR.rf.tr fM219 (by decide)).tr fM226 (by decide)).tr fM231 (by decide)), by omega⟩
    · have u235f : b01 (XW M0 M219 0 1 0) = 1 := b01_i (Or.inl (by omega))
      have u235a := ca_x (M := M0) (N := M219) (r := 0) (e := 1) (s := 0) (by decide) (by omega) (by omega)
      exact hret _ _ _ dX12_readUnit_17 ⟨hM219, (FR.rf.tr fM219 (by decide)), by omega⟩
set_option maxHeartbeats 4000000 in
theorem s7_X12_readBoth {l : Launch} {dC : Nat → ClassId} {dI : Nat → Nat → Nat} {ad : Nat → Nat} {cA : Nat → ClassId} {pr : Nat → Nat → Bool} {Kz : mm_M} {M0 : mm_M} (hM0 : INV pr Kz M0) (hpr : PM pr)  (hp0 : b01 (RIP M0) = 1) (hp1 : b01 (CA M0) = 1) (hp2 : b01 (PI M0) = 1) : Cv l 29 yX12_readBoth wsX12_readBoth dC dI ad cA [.ref (ad 98), .int (sI 0)] M0 (fun M' => INV pr Kz M' ∧ FR [98, 102] M0 M' ∧ (b01 (RIP M') = 1) ∧ ((M'.1 98 8).toInt = (M0.1 98 8).toInt) ∧ ((M0.1 98 6).toInt ≤ (M'.1 98 6).toInt) ∧ (b01 (XW M0 M' 0 1 0) = 1) ∧ (b01 (CA M') = 1) ∧ (b01 (PI M') = 1)) := by
  refine cv_of (cc := cX12_readBoth) (maxL := 2) (lv := [(0, .ref (ad 98)), (1, .int (sI 0))]) (by decide) rfl (Nat.le_of_ble_eq_true rfl) rfl ?_
  intro p e s m args below meth c A Q C hret
  have u101z := xw_0 M0
  have u101l := ri_l (M := M0) (by omega)
  refine j_aload_n C 0 0 dX12_readBoth_0 rfl rfl ?_
  refine j_iload_n C 1 1 dX12_readBoth_1 rfl rfl ?_
  refine j_callVv C (d := 28) (As := [.int (sI 0)]) (st := []) 98 (s_lt rfl rfl) (s_kc (c := 11) rfl rfl) (by decide) rfl (s7_X12_readUnit hM0 hpr (by omega) (by omega) (by omega)) gX12_readBoth_X12_readUnit rfl hdX12_readUnit (by decide) (Nat.le_of_ble_eq_true rfl) dX12_readBoth_2 rfl (fun M103 h104 => ?_)
  obtain ⟨hM103, fM103, h105⟩ := h104
  have u106l := ri_l (M := M103) (by omega)
  have L128 : ∀ (n126 : Nat), ∀ (M129 : mm_M), ((b01 (RIP M129) = 1) ∧ ((M129.1 98 8).toInt = (M0.1 98 8).toInt) ∧ ((M0.1 98 6).toInt ≤ (M129.1 98 6).toInt) ∧ (b01 (XW M0 M129 0 1 0) = 1) ∧ ((M129.1 98 6).toInt ≤ 900) ∧ (b01 (PI M129) = 1) ∧ (900 - (M129.1 98 6).toInt) < (n126 : Int)) → INV pr Kz M129 → FR [98, 102] M0 M129 → jj p l e (cn_R 29) s m args below meth c 0 0 Q 2 dC dI ad cA A M129 5 [(0, .ref (ad 98)), (1, .int (sI 0))] [] := by
    intro n126
    induction n126 with
    | zero =>
      intro M129 h130 hM129 fM129
      exfalso; omega
    | succ n126 ih127 =>
      intro M129 h130 hM129 fM129
      have u131l := ri_l (M := M129) (by omega)
      refine j_aload_n C 0 0 dX12_readBoth_5 rfl rfl ?_
      refine y_bipush C dX12_readBoth_6 rfl ?_
      refine j_callVi C (d := 6) (As := [.int (sI 14)]) (st := []) 98 (s_lt rfl rfl) (s_kc (c := 11) rfl rfl) (by decide) rfl (s1_X12_eats hM129 hpr 14 (by omega) (by omega) (by omega) (by omega)) gX12_readBoth_X12_eats rfl hdX12_eats (by decide) (Nat.le_of_ble_eq_true rfl) dX12_readBoth_8 rfl (fun r132 M133 h134 => ?_)
      obtain ⟨a136, rfl, hM133, fM133, h135⟩ := h134
      refine y_if_eq C 29 dX12_readBoth_11 (by decide) (by omega) (fun h137 => ?_) (fun h137 => ?_)
      · have u149c := xw_c (N := M129) (P := M133) 0 (FR.cell fM133 (by decide)) (by omega)
        have u149t := xw_t (M := M0) (N := M129) (P := M133) (r1 := 0) (e1 := 1) (s1 := 0) (r2 := 0) (e2 := 0) (s2 := 0) 0 1 0 (by decide) (by omega) (by omega)
        have u149a := ca_x (M := M0) (N := M133) (r := 0) (e := 1) (s := 0) (by decide) (by omega) (by omega)
        exact hret _ _ _ dX12_readBoth_29 ⟨hM133, ((FR.rf.tr fM129 (by decide)).tr fM133 (by decide)), by omega⟩
      · have u138c := xw_c (N := M129) (P := M133) 1 (FR.cell fM133 (by decide)) (by omega)
        have u138t := xw_t (M := M0) (N := M129) (P := M133) (r1 := 0) (e1 := 1) (s1 := 0) (r2 := 0) (e2 := 0) (s2 := 1) 0 1 1 (by decide) (by omega) (by omega)
        have u138a := ca_x (M := M0) (N := M133) (r := 0) (e := 1) (s := 1) (by decide) (by omega) (by omega)
        have u138l := ri_l (M := M133) (by omega)
        refine j_aload_n C 0 0 dX12_readBoth_14 rfl rfl ?_
        refine j_iload_n C 1 1 dX12_readBoth_15 rfl rfl ?_
        refine j_callVv C (d := 28) (As := [.int (sI 0)]) (st := []) 98 (s_lt rfl rfl) (s_kc (c := 11) rfl rfl) (by decide) rfl (s7_X12_readUnit hM133 hpr (by omega) (by omega) (by omega)) gX12_readBoth_X12_readUnit rfl hdX12_readUnit (by decide) (Nat.le_of_ble_eq_true rfl) dX12_readBoth_16 rfl (fun M140 h141 => ?_)
        obtain ⟨hM140, fM140, h142⟩ := h141
        have u143t := xw_t (M := M0) (N := M133) (P := M140) (r1 := 0) (e1 := 1) (s1 := 1) (r2 := 0) (e2 := 1) (s2 := 0) 0 2 1 (by decide) (by omega) (by omega)
        have u143l := ri_l (M := M140) (by omega)
        have u143b := cb_x (M := M0) (N := M140) (r := 0) (e := 2) (s := 1) (by decide) (by omega) (by omega) (by omega)
        refine j_aload_n C 0 0 dX12_readBoth_19 rfl rfl ?_
        refine y_sipush C dX12_readBoth_20 rfl ?_
        refine j_callVv C (d := 0) (As := [.int (sI 3007)]) (st := []) 98 (s_lt rfl rfl) (s_kc (c := 11) rfl rfl) (by decide) rfl (s1_X12_codes hM140 hpr 3007 (by omega) (by omega) (by omega)) gX12_readBoth_X12_codes rfl hdX12_codes (by decide) (Nat.le_of_ble_eq_true rfl) dX12_readBoth_23 rfl (fun M145 h146 => ?_)
        obtain ⟨hM145, fM145, h147⟩ := h146
        refine j_goto C 5 dX12_readBoth_26 (by decide) ?_
        have u148x := xw_a (M := M140) (N := M145) (c := 3007) (r := 2) (e := (-1)) (FR.cell fM145 (by decide)) (ap_bin ⟨(INV.rd hM140 (i := 102) (c := 48) (k := 280) rfl rfl).1, by omega, by omega⟩) (by omega)
        have u148t := xw_t (M := M0) (N := M140) (P := M145) (r1 := 0) (e1 := 2) (s1 := 1) (r2 := 2) (e2 := (-1)) (s2 := (-1)) 0 1 0 (by decide) (by omega) (by omega)
        have u148i := ri_c (M := M140) (N := M145) (FR.cell fM145 (by decide)) (by omega)
        have u148l := ri_l (M := M145) (by omega)
        have zz98_8 : (M145.1 98 8).toInt = (M140.1 98 8).toInt := s_fF fM145 (by decide) (rfl); have zz98_6 : (M145.1 98 6).toInt = (M140.1 98 6).toInt := s_fF fM145 (by decide) (rfl); exact ih127 M145 (by omega) hM145 ((((FR.rf.tr fM129 (by decide)).tr fM133 (by decide)).tr fM140 (by decide)).tr fM145 (by decide))
  exact L128 2010 M103 (by omega) hM103 (FR.rf.tr fM103 (by decide))
set_option maxHeartbeats 4000000 in
theorem s7_X12_readTruth {l : Launch} {dC : Nat → ClassId} {dI : Nat → Nat → Nat} {ad : Nat → Nat} {cA : Nat → ClassId} {pr : Nat → Nat → Bool} {Kz : mm_M} {M0 : mm_M} (hM0 : INV pr Kz M0) (hpr : PM pr)  (hp0 : b01 (RIP M0) = 1) (hp1 : b01 (CA M0) = 1) (hp2 : b01 (PI M0) = 1) : Cv l 30 yX12_readTruth wsX12_readTruth dC dI ad cA [.ref (ad 98), .int (sI 0)] M0 (fun M' => INV pr Kz M' ∧ FR [98, 102] M0 M' ∧ (b01 (RIP M') = 1) ∧ ((M'.1 98 8).toInt = (M0.1 98 8).toInt) ∧ ((M0.1 98 6).toInt ≤ (M'.1 98 6).toInt) ∧ (b01 (XW M0 M' 0 1 0) = 1) ∧ (b01 (CA M') = 1) ∧ (b01 (PI M') = 1)) := by
  refine cv_of (cc := cX12_readTruth) (maxL := 2) (lv := [(0, .ref (ad 98)), (1, .int (sI 0))]) (by decide) rfl (Nat.le_of_ble_eq_true rfl) rfl ?_
  intro p e s m args below meth c A Q C hret
  have u101z := xw_0 M0
  have u101l := ri_l (M := M0) (by omega)
  refine j_aload_n C 0 0 dX12_readTruth_0 rfl rfl ?_
  refine j_iload_n C 1 1 dX12_readTruth_1 rfl rfl ?_
  refine j_callVv C (d := 29) (As := [.int (sI 0)]) (st := []) 98 (s_lt rfl rfl) (s_kc (c := 11) rfl rfl) (by decide) rfl (s7_X12_readBoth hM0 hpr (by omega) (by omega) (by omega)) gX12_readTruth_X12_readBoth rfl hdX12_readBoth (by decide) (Nat.le_of_ble_eq_true rfl) dX12_readTruth_2 rfl (fun M103 h104 => ?_)
  obtain ⟨hM103, fM103, h105⟩ := h104
  have u106l := ri_l (M := M103) (by omega)
  have L128 : ∀ (n126 : Nat), ∀ (M129 : mm_M), ((b01 (RIP M129) = 1) ∧ ((M129.1 98 8).toInt = (M0.1 98 8).toInt) ∧ ((M0.1 98 6).toInt ≤ (M129.1 98 6).toInt) ∧ (b01 (XW M0 M129 0 1 0) = 1) ∧ ((M129.1 98 6).toInt ≤ 900) ∧ (b01 (PI M129) = 1) ∧ (900 - (M129.1 98 6).toInt) < (n126 : Int)) → INV pr Kz M129 → FR [98, 102] M0 M129 → jj p l e (cn_R 30) s m args below meth c 0 0 Q 2 dC dI ad cA A M129 5 [(0, .ref (ad 98)), (1, .int (sI 0))] [] := by
    intro n126
    induction n126 with
    | zero =>
      intro M129 h130 hM129 fM129
      exfalso; omega
    | succ n126 ih127 =>
      intro M129 h130 hM129 fM129
      have u131l := ri_l (M := M129) (by omega)
      refine j_aload_n C 0 0 dX12_readTruth_5 rfl rfl ?_
      refine y_bipush C dX12_readTruth_6 rfl ?_
      refine j_callVi C (d := 6) (As := [.int (sI 15)]) (st := []) 98 (s_lt rfl rfl) (s_kc (c := 11) rfl rfl) (by decide) rfl (s1_X12_eats hM129 hpr 15 (by omega) (by omega) (by omega) (by omega)) gX12_readTruth_X12_eats rfl hdX12_eats (by decide) (Nat.le_of_ble_eq_true rfl) dX12_readTruth_8 rfl (fun r132 M133 h134 => ?_)
      obtain ⟨a136, rfl, hM133, fM133, h135⟩ := h134
      refine y_if_eq C 29 dX12_readTruth_11 (by decide) (by omega) (fun h137 => ?_) (fun h137 => ?_)
      · have u149c := xw_c (N := M129) (P := M133) 0 (FR.cell fM133 (by decide)) (by omega)
        have u149t := xw_t (M := M0) (N := M129) (P := M133) (r1 := 0) (e1 := 1) (s1 := 0) (r2 := 0) (e2 := 0) (s2 := 0) 0 1 0 (by decide) (by omega) (by omega)
        have u149a := ca_x (M := M0) (N := M133) (r := 0) (e := 1) (s := 0) (by decide) (by omega) (by omega)
        exact hret _ _ _ dX12_readTruth_29 ⟨hM133, ((FR.rf.tr fM129 (by decide)).tr fM133 (by decide)), by omega⟩
      · have u138c := xw_c (N := M129) (P := M133) 1 (FR.cell fM133 (by decide)) (by omega)
        have u138t := xw_t (M := M0) (N := M129) (P := M133) (r1 := 0) (e1 := 1) (s1 := 0) (r2 := 0) (e2 := 0) (s2 := 1) 0 1 1 (by decide) (by omega) (by omega)
        have u138a := ca_x (M := M0) (N := M133) (r := 0) (e := 1) (s := 1) (by decide) (by omega) (by omega)
        have u138l := ri_l (M := M133) (by omega)
        refine j_aload_n C 0 0 dX12_readTruth_14 rfl rfl ?_
        refine j_iload_n C 1 1 dX12_readTruth_15 rfl rfl ?_
        refine j_callVv C (d := 29) (As := [.int (sI 0)]) (st := []) 98 (s_lt rfl rfl) (s_kc (c := 11) rfl rfl) (by decide) rfl (s7_X12_readBoth hM133 hpr (by omega) (by omega) (by omega)) gX12_readTruth_X12_readBoth rfl hdX12_readBoth (by decide) (Nat.le_of_ble_eq_true rfl) dX12_readTruth_16 rfl (fun M140 h141 => ?_)
        obtain ⟨hM140, fM140, h142⟩ := h141
        have u143t := xw_t (M := M0) (N := M133) (P := M140) (r1 := 0) (e1 := 1) (s1 := 1) (r2 := 0) (e2 := 1) (s2 := 0) 0 2 1 (by decide) (by omega) (by omega)
        have u143l := ri_l (M := M140) (by omega)
        have u143b := cb_x (M := M0) (N := M140) (r := 0) (e := 2) (s := 1) (by decide) (by omega) (by omega) (by omega)
        refine j_aload_n C 0 0 dX12_readTruth_19 rfl rfl ?_
        refine y_sipush C dX12_readTruth_20 rfl ?_
        refine j_callVv C (d := 0) (As := [.int (sI 3008)]) (st := []) 98 (s_lt rfl rfl) (s_kc (c := 11) rfl rfl) (by decide) rfl (s1_X12_codes hM140 hpr 3008 (by omega) (by omega) (by omega)) gX12_readTruth_X12_codes rfl hdX12_codes (by decide) (Nat.le_of_ble_eq_true rfl) dX12_readTruth_23 rfl (fun M145 h146 => ?_)
        obtain ⟨hM145, fM145, h147⟩ := h146
        refine j_goto C 5 dX12_readTruth_26 (by decide) ?_
        have u148x := xw_a (M := M140) (N := M145) (c := 3008) (r := 2) (e := (-1)) (FR.cell fM145 (by decide)) (ap_bin ⟨(INV.rd hM140 (i := 102) (c := 48) (k := 280) rfl rfl).1, by omega, by omega⟩) (by omega)
        have u148t := xw_t (M := M0) (N := M140) (P := M145) (r1 := 0) (e1 := 2) (s1 := 1) (r2 := 2) (e2 := (-1)) (s2 := (-1)) 0 1 0 (by decide) (by omega) (by omega)
        have u148i := ri_c (M := M140) (N := M145) (FR.cell fM145 (by decide)) (by omega)
        have u148l := ri_l (M := M145) (by omega)
        have zz98_8 : (M145.1 98 8).toInt = (M140.1 98 8).toInt := s_fF fM145 (by decide) (rfl); have zz98_6 : (M145.1 98 6).toInt = (M140.1 98 6).toInt := s_fF fM145 (by decide) (rfl); exact ih127 M145 (by omega) hM145 ((((FR.rf.tr fM129 (by decide)).tr fM133 (by decide)).tr fM140 (by decide)).tr fM145 (by decide))
  exact L128 2010 M103 (by omega) hM103 (FR.rf.tr fM103 (by decide))
set_option maxHeartbeats 4000000 in
theorem s1_X12_readLaw {l : Launch} {dC : Nat → ClassId} {dI : Nat → Nat → Nat} {ad : Nat → Nat} {cA : Nat → ClassId} {pr : Nat → Nat → Bool} {Kz : mm_M} {M0 : mm_M} (hM0 : INV pr Kz M0) (hpr : PM pr) (a1 : Int) (ha1 : -2147483648 ≤ a1 ∧ a1 ≤ 2147483647) (hp0 : b01 (RIP M0) = 1) (hp1 : b01 (LV M0) = 1) (hp2 : 0 ≤ a1 ∧ a1 ≤ 1) (hp3 : b01 (PI M0) = 1) : Cv l 31 yX12_readLaw wsX12_readLaw dC dI ad cA [.ref (ad 98), .int (sI a1)] M0 (fun M' => INV pr Kz M' ∧ FR [98, 102] M0 M' ∧ (b01 (RIP M') = 1) ∧ ((M'.1 98 8).toInt = (M0.1 98 8).toInt) ∧ ((M0.1 98 6).toInt ≤ (M'.1 98 6).toInt) ∧ (b01 (LV M') = 1) ∧ (b01 (PI M') = 1)) := by
  refine cv_of (cc := cX12_readLaw) (maxL := 3) (lv := [(0, .ref (ad 98)), (1, .int (sI a1))]) (by decide) rfl (Nat.le_of_ble_eq_true rfl) rfl ?_
  intro p e s m args below meth c A Q C hret
  have u101l := ri_l (M := M0) (by omega)
  refine j_aload_n C 0 0 dX12_readLaw_0 rfl rfl ?_
  refine j_callVv C (d := 5) (As := []) (st := []) 98 (s_lt rfl rfl) (s_kc (c := 11) rfl rfl) (by decide) rfl (s1_X12_next hM0 hpr (by omega) (by omega) (by omega)) gX12_readLaw_X12_next rfl hdX12_next (by decide) (Nat.le_of_ble_eq_true rfl) dX12_readLaw_1 rfl (fun M103 h104 => ?_)
  obtain ⟨hM103, fM103, h105⟩ := h104
  have u106v := lv_c (M := M0) (N := M103) (FR.cell fM103 (by decide)) (by omega) (by omega)
  have u106l := ri_l (M := M103) (by omega)
  refine j_aload_n C 0 0 dX12_readLaw_4 rfl rfl ?_
  refine y_bipush C dX12_readLaw_5 rfl ?_
  refine j_callVi C (d := 6) (As := [.int (sI 31)]) (st := []) 98 (s_lt rfl rfl) (s_kc (c := 11) rfl rfl) (by decide) rfl (s1_X12_eats hM103 hpr 31 (by omega) (by omega) (by omega) (by omega)) gX12_readLaw_X12_eats rfl hdX12_eats (by decide) (Nat.le_of_ble_eq_true rfl) dX12_readLaw_7 rfl (fun r107 M108 h109 => ?_)
  obtain ⟨a111, rfl, hM108, fM108, h110⟩ := h109
  have u112v := lv_c (M := M103) (N := M108) (FR.cell fM108 (by decide)) (by omega) (by omega)
  have u112l := ri_l (M := M108) (by omega)
  have J121 : ∀ (M120 : mm_M), ((b01 (RIP M120) = 1) ∧ ((M120.1 98 8).toInt = (M0.1 98 8).toInt) ∧ ((M0.1 98 6).toInt ≤ (M120.1 98 6).toInt) ∧ (b01 (LV M120) = 1) ∧ (b01 (PI M120) = 1)) → INV pr Kz M120 → FR [98, 102] M0 M120 → jj p l e (cn_R 31) s m args below meth c 0 0 Q 3 dC dI ad cA A M120 18 [(0, .ref (ad 98)), (1, .int (sI a1))] [] := by
    intro M120 h122 hM120 fM120
    have u124a := lv_ca (M := M120) (by omega)
    have u124l := ri_l (M := M120) (by omega)
    refine j_aload_n C 0 0 dX12_readLaw_18 rfl rfl ?_
    refine y_getC C 11 102 fX12_readLaw_24 rfl rfl ft_11_4 sm_11_4 rfl hM120 dX12_readLaw_19 ?_
    refine y_sipush C dX12_readLaw_22 rfl ?_
    refine y_ialdH C 48 1181 rfl rfl rfl ak_48 an_48 rfl _ _ hM120 (hr_48_280_280 _ (by omega) (by omega)) dX12_readLaw_25 (by omega) (fun a125 ea125 la125 ua125 => ?_)
    obtain rfl : a125 = (M120.1 102 280).toInt := ea125
    refine j_istore_n C 2 [(2, .int (sI (M120.1 102 280).toInt)), (0, .ref (ad 98)), (1, .int (sI a1))] dX12_readLaw_26 rfl (by decide) rfl ?_
    refine j_iload_n C 2 1 dX12_readLaw_27 rfl rfl ?_
    have J138 : ∀ (M137 : mm_M), ((b01 (RIP M137) = 1) ∧ ((M137.1 98 8).toInt = (M0.1 98 8).toInt) ∧ ((M0.1 98 6).toInt ≤ (M137.1 98 6).toInt) ∧ (b01 (XW M120 M137 0 1 0) = 1) ∧ ((M120.1 102 280).toInt = (M120.1 102 280).toInt) ∧ (b01 (PI M137) = 1)) → INV pr Kz M137 → FR [98, 102] M0 M137 → jj p l e (cn_R 31) s m args below meth c 0 0 Q 3 dC dI ad cA A M137 44 [(0, .ref (ad 98)), (1, .int (sI a1)), (2, .int (sI (M120.1 102 280).toInt))] [] := by
      intro M137 h139 hM137 fM137
      refine j_aload_n C 0 0 dX12_readLaw_44 rfl rfl ?_
      refine y_getI C 11 _ _ fX12_readLaw_126 rfl rfl ft_11_11 sb_11_11 hM137 dX12_readLaw_45 (fun a141 ea141 la141 ua141 => ?_)
      obtain rfl : a141 = (M137.1 98 11).toInt := ea141
      refine y_if_eq C 52 dX12_readLaw_48 (by decide) (by omega) (fun h143 => ?_) (fun h143 => ?_)
      · have u144n := xw_n (M := M120) (N := M137) (r := 0) (e := 1) (s := 0) (by omega) (by omega)
        have u144d := INV.rd hM137 (i := 102) (c := 48) (k := 280) rfl rfl
        refine j_aload_n C 0 0 dX12_readLaw_52 rfl rfl ?_
        refine y_getC C 11 102 fX12_readLaw_24 rfl rfl ft_11_4 sm_11_4 rfl hM137 dX12_readLaw_53 ?_
        refine y_iconst C dX12_readLaw_56 ?_
        refine j_iload_n C 1 1 dX12_readLaw_57 rfl rfl ?_
        refine y_iadd C dX12_readLaw_58 ?_
        refine y_iconst C dX12_readLaw_59 ?_
        refine y_iastH C 48 1181 rfl rfl rfl ak_48 an_48 rfl _ _ hM137 (PM.w hpr rfl rfl) (hs_48_2_3 _ (by omega) (by omega)) dX12_readLaw_60 (by omega) (by omega) (fun M145 eM145 hM145 => ?_)
        have pM145 := pi_o eM145 (by decide) (by decide) (by omega)
        refine j_aload_n C 0 0 dX12_readLaw_61 rfl rfl ?_
        refine y_getC C 11 102 fX12_readLaw_24 rfl rfl ft_11_4 sm_11_4 rfl hM145 dX12_readLaw_62 ?_
        refine y_iconst C dX12_readLaw_65 ?_
        refine j_iload_n C 1 1 dX12_readLaw_66 rfl rfl ?_
        refine y_iadd C dX12_readLaw_67 ?_
        refine j_iload_n C 2 2 dX12_readLaw_68 rfl rfl ?_
        refine y_iastH C 48 1181 rfl rfl rfl ak_48 an_48 rfl _ _ hM145 (PM.w hpr rfl rfl) (hs_48_4_5 _ (by omega) (by omega)) dX12_readLaw_69 (by omega) (by omega) (fun M146 eM146 hM146 => ?_)
        have pM146 := pi_o eM146 (by decide) (by decide) (by omega)
        refine j_aload_n C 0 0 dX12_readLaw_70 rfl rfl ?_
        refine y_getC C 11 102 fX12_readLaw_24 rfl rfl ft_11_4 sm_11_4 rfl hM146 dX12_readLaw_71 ?_
        refine y_bipush C dX12_readLaw_74 rfl ?_
        refine j_iload_n C 1 1 dX12_readLaw_76 rfl rfl ?_
        refine y_iadd C dX12_readLaw_77 ?_
        refine j_aload_n C 0 0 dX12_readLaw_78 rfl rfl ?_
        refine y_getC C 11 102 fX12_readLaw_24 rfl rfl ft_11_4 sm_11_4 rfl hM146 dX12_readLaw_79 ?_
        refine y_sipush C dX12_readLaw_82 rfl ?_
        refine y_ialdH C 48 1181 rfl rfl rfl ak_48 an_48 rfl _ _ hM146 (hr_48_280_280 _ (by omega) (by omega)) dX12_readLaw_85 (by omega) (fun a147 ea147 la147 ua147 => ?_)
        obtain rfl : a147 = (M137.1 102 280).toInt := s_fb eM145 (by omega) (s_fb eM146 (by omega) (ea147))
        refine j_iload_n C 2 2 dX12_readLaw_86 rfl rfl ?_
        refine y_isub C dX12_readLaw_87 ?_
        refine y_iastH C 48 1181 rfl rfl rfl ak_48 an_48 rfl _ _ hM146 (PM.w hpr rfl rfl) (hs_48_6_7 _ (by omega) (by omega)) dX12_readLaw_88 (by omega) (by omega) (fun M148 eM148 hM148 => ?_)
        have pM148 := pi_o eM148 (by decide) (by decide) (by omega)
        have u149v := lv_law (M := M120) (N := M137) (a := a1) (by omega) (by omega) (by omega) (by omega) (h4b hM120) (by omega) (by omega) (by omega) eM145 eM146 eM148 (by omega)
        have u149i := ri_c (M := M137) (N := M148) ((wI_cell eM148 (by decide)).trans ((wI_cell eM146 (by decide)).trans (wI_cell eM145 (by decide)))) (by omega)
        have zz98_6 : (M148.1 98 6).toInt = (M137.1 98 6).toInt := s_fa eM145 (by decide) (s_fa eM146 (by decide) (s_fa eM148 (by decide) (rfl))); have zz98_8 : (M148.1 98 8).toInt = (M137.1 98 8).toInt := s_fa eM145 (by decide) (s_fa eM146 (by decide) (s_fa eM148 (by decide) (rfl))); exact hret _ _ _ dX12_readLaw_89 ⟨hM148, ((((FR.rf.tr fM137 (by decide)).wI eM145 (by decide)).wI eM146 (by decide)).wI eM148 (by decide)), by omega⟩
      · have u150w := lv_w0 (M := M137) (by omega)
        exact hret _ _ _ dX12_readLaw_51 ⟨hM137, (FR.rf.tr fM137 (by decide)), by omega⟩
    refine y_if_ne C 39 dX12_readLaw_28 (by decide) (by omega) (fun h126 => ?_) (fun h126 => ?_)
    · refine j_aload_n C 1 0 dX12_readLaw_39 rfl rfl ?_
      refine y_iconst C dX12_readLaw_40 ?_
      refine j_callVv C (d := 30) (As := [.int (sI 0)]) (st := []) 98 (s_lt rfl rfl) (s_kc (c := 11) rfl rfl) (by decide) rfl (s7_X12_readTruth hM120 hpr (by omega) (by omega) (by omega)) gX12_readLaw_X12_readTruth rfl hdX12_readTruth (by decide) (Nat.le_of_ble_eq_true rfl) dX12_readLaw_41 rfl (fun M128 h129 => ?_)
      obtain ⟨hM128, fM128, h130⟩ := h129
      have u131l := ri_l (M := M128) (by omega)
      refine j_lv [1, 2, 0] rfl ?_; exact J138 M128 (by omega) hM128 ((FR.rf.tr fM120 (by decide)).tr fM128 (by decide))
    · refine j_aload_n C 1 0 dX12_readLaw_31 rfl rfl ?_
      refine y_iconst C dX12_readLaw_32 ?_
      refine j_callVv C (d := 27) (As := [.int (sI 0)]) (st := []) 98 (s_lt rfl rfl) (s_kc (c := 11) rfl rfl) (by decide) rfl (s7_X12_readSum hM120 hpr (by omega) (by omega) (by omega)) gX12_readLaw_X12_readSum rfl hdX12_readSum (by decide) (Nat.le_of_ble_eq_true rfl) dX12_readLaw_33 rfl (fun M133 h134 => ?_)
      obtain ⟨hM133, fM133, h135⟩ := h134
      refine j_goto C 44 dX12_readLaw_36 (by decide) ?_
      have u136l := ri_l (M := M133) (by omega)
      refine j_lv [1, 2, 0] rfl ?_; exact J138 M133 (by omega) hM133 ((FR.rf.tr fM120 (by decide)).tr fM133 (by decide))
  refine y_if_ne C 18 dX12_readLaw_10 (by decide) (by omega) (fun h113 => ?_) (fun h113 => ?_)
  · exact J121 M108 (by omega) hM108 ((FR.rf.tr fM103 (by decide)).tr fM108 (by decide))
  · refine j_aload_n C 0 0 dX12_readLaw_13 rfl rfl ?_
    refine y_iconst C dX12_readLaw_14 ?_
    refine j_callVv C (d := 0) (As := [.int (sI 2)]) (st := []) 98 (s_lt rfl rfl) (s_kc (c := 11) rfl rfl) (by decide) rfl (s1_X12_fails hM108 hpr 2 (by omega) (by omega) (by omega) (by omega)) gX12_readLaw_X12_fails rfl hdX12_fails (by decide) (Nat.le_of_ble_eq_true rfl) dX12_readLaw_15 rfl (fun M116 h117 => ?_)
    obtain ⟨hM116, fM116, h118⟩ := h117
    have u119v := lv_c (M := M108) (N := M116) (FR.cell fM116 (by decide)) (by omega) (by omega)
    have u119l := ri_l (M := M116) (by omega)
    exact J121 M116 (by omega) hM116 (((FR.rf.tr fM103 (by decide)).tr fM108 (by decide)).tr fM116 (by decide))
set_option maxHeartbeats 4000000 in
theorem s1_X12_takes {l : Launch} {dC : Nat → ClassId} {dI : Nat → Nat → Nat} {ad : Nat → Nat} {cA : Nat → ClassId} {pr : Nat → Nat → Bool} {Kz : mm_M} {M0 : mm_M} (hM0 : INV pr Kz M0) (hpr : PM pr) (a1 : Int) (ha1 : -2147483648 ≤ a1 ∧ a1 ≤ 2147483647) (a2 : Int) (ha2 : -2147483648 ≤ a2 ∧ a2 ≤ 2147483647) (hp0 : b01 (RIP M0) = 1) (hp1 : 0 ≤ a1 ∧ a1 ≤ 1) (hp2 : 9 ≤ a2 ∧ a2 ≤ 999) (hp3 : b01 (PI M0) = 1) : Ci l 6 yX12_takes wsX12_takes dC dI ad cA [.ref (ad 98), .int (sI a1), .int (sI a2)] M0 (fun r M' => ∃ a : Int, r = sI a ∧ INV pr Kz M' ∧ FR [98] M0 M' ∧ 0 ≤ a ∧ a ≤ 999 ∧ (b01 (RIP M') = 1) ∧ ((M'.1 98 8).toInt = (M0.1 98 8).toInt) ∧ ((M0.1 98 6).toInt ≤ (M'.1 98 6).toInt) ∧ (¬ (M'.1 98 11).toInt = 0 ∨ (M0.1 98 11).toInt = 0 ∧ a1 ≤ a ∧ a ≤ a2 ∧ (M0.1 98 6).toInt + 1 ≤ (M'.1 98 6).toInt) ∧ (b01 (PI M') = 1)) := by
  refine ci_of (cc := cX12_takes) (maxL := 4) (ty := .int) (lv := [(0, .ref (ad 98)), (1, .int (sI a1)), (2, .int (sI a2))]) (by decide) rfl (fun r M' hp => rfl) (Nat.le_of_ble_eq_true rfl) rfl ?_
  intro p e s m args below meth c A Q C hret
  have u101l := ri_l (M := M0) (by omega)
  refine j_aload_n C 0 0 dX12_takes_0 rfl rfl ?_
  refine y_bipush C dX12_takes_1 rfl ?_
  refine j_callVi C (d := 0) (As := [.int (sI 23)]) (st := []) 98 (s_lt rfl rfl) (s_kc (c := 11) rfl rfl) (by decide) rfl (s1_X12_is hM0 23 (by omega)) gX12_takes_X12_is rfl hdX12_is (by decide) (Nat.le_of_ble_eq_true rfl) dX12_takes_3 rfl (fun r102 M103 h104 => ?_)
  obtain ⟨a106, rfl, rfl, h105⟩ := h104
  refine y_if_ne C 17 dX12_takes_6 (by decide) (by omega) (fun h107 => ?_) (fun h107 => ?_)
  · refine j_aload_n C 0 0 dX12_takes_17 rfl rfl ?_
    refine y_getI C 11 _ _ fX12_takes_121 rfl rfl ft_11_10 sb_11_10 hM0 dX12_takes_18 (fun a108 ea108 la108 ua108 => ?_)
    obtain rfl : a108 = (M0.1 98 10).toInt := ea108
    refine y_i2l C dX12_takes_21 (by omega) ?_
    refine j_iload_n C 1 1 dX12_takes_22 rfl rfl ?_
    refine y_i2l C dX12_takes_23 (by omega) ?_
    refine j_iload_n C 2 2 dX12_takes_24 rfl rfl ?_
    refine y_i2l C dX12_takes_25 (by omega) ?_
    refine j_callSi C (d := 0) (As := [.long (sJ (M0.1 98 10).toInt), .long (sJ a1), .long (sJ a2)]) (st := []) (s1_X12_within hM0 (M0.1 98 10).toInt (by omega) a1 (by omega) a2 (by omega)) gX12_takes_X12_within rfl hdX12_withins (by decide) (Nat.le_of_ble_eq_true rfl) dX12_takes_26 rfl (fun r110 M111 h112 => ?_)
    obtain ⟨a114, rfl, rfl, h113⟩ := h112
    refine y_if_ne C 37 dX12_takes_29 (by decide) (by omega) (fun h115 => ?_) (fun h115 => ?_)
    · have u116l := ri_l (M := M0) (by omega)
      refine j_aload_n C 0 0 dX12_takes_37 rfl rfl ?_
      refine y_getI C 11 _ _ fX12_takes_121 rfl rfl ft_11_10 sb_11_10 hM0 dX12_takes_38 (fun a117 ea117 la117 ua117 => ?_)
      obtain rfl : a117 = (M0.1 98 10).toInt := ea117
      refine j_istore_n C 3 [(3, .int (sI (M0.1 98 10).toInt)), (0, .ref (ad 98)), (1, .int (sI a1)), (2, .int (sI a2))] dX12_takes_41 rfl (by decide) rfl ?_
      refine j_aload_n C 1 0 dX12_takes_42 rfl rfl ?_
      refine y_getI C 11 _ _ fX12_takes_126 rfl rfl ft_11_11 sb_11_11 hM0 dX12_takes_43 (fun a119 ea119 la119 ua119 => ?_)
      obtain rfl : a119 = (M0.1 98 11).toInt := ea119
      refine y_if_ne C 53 dX12_takes_46 (by decide) (by omega) (fun h121 => ?_) (fun h121 => ?_)
      · refine j_iload_n C 0 3 dX12_takes_53 rfl rfl ?_
        exact hret _ _ _ _ dX12_takes_54 ⟨(M0.1 98 10).toInt, rfl, hM0, FR.rf, by omega⟩
      · have u122k := fun h => ri_k (M := M0) (by omega) h
        refine j_aload_n C 1 0 dX12_takes_49 rfl rfl ?_
        refine j_callVv C (d := 5) (As := []) (st := []) 98 (s_lt rfl rfl) (s_kc (c := 11) rfl rfl) (by decide) rfl (s1_X12_next hM0 hpr (by omega) (by omega) (by omega)) gX12_takes_X12_next rfl hdX12_next (by decide) (Nat.le_of_ble_eq_true rfl) dX12_takes_50 rfl (fun M124 h125 => ?_)
        obtain ⟨hM124, fM124, h126⟩ := h125
        refine j_iload_n C 0 3 dX12_takes_53 rfl rfl ?_
        exact hret _ _ _ _ dX12_takes_54 ⟨(M0.1 98 10).toInt, rfl, hM124, (FR.rf.tr fM124 (by decide)), by omega⟩
    · refine j_aload_n C 0 0 dX12_takes_32 rfl rfl ?_
      refine y_iconst C dX12_takes_33 ?_
      refine j_callVv C (d := 0) (As := [.int (sI 3)]) (st := []) 98 (s_lt rfl rfl) (s_kc (c := 11) rfl rfl) (by decide) rfl (s1_X12_fails hM0 hpr 3 (by omega) (by omega) (by omega) (by omega)) gX12_takes_X12_fails rfl hdX12_fails (by decide) (Nat.le_of_ble_eq_true rfl) dX12_takes_34 rfl (fun M128 h129 => ?_)
      obtain ⟨hM128, fM128, h130⟩ := h129
      have u131l := ri_l (M := M128) (by omega)
      refine j_aload_n C 0 0 dX12_takes_37 rfl rfl ?_
      refine y_getI C 11 _ _ fX12_takes_121 rfl rfl ft_11_10 sb_11_10 hM128 dX12_takes_38 (fun a132 ea132 la132 ua132 => ?_)
      obtain rfl : a132 = (M128.1 98 10).toInt := ea132
      refine j_istore_n C 3 [(3, .int (sI (M128.1 98 10).toInt)), (0, .ref (ad 98)), (1, .int (sI a1)), (2, .int (sI a2))] dX12_takes_41 rfl (by decide) rfl ?_
      refine j_aload_n C 1 0 dX12_takes_42 rfl rfl ?_
      refine y_getI C 11 _ _ fX12_takes_126 rfl rfl ft_11_11 sb_11_11 hM128 dX12_takes_43 (fun a134 ea134 la134 ua134 => ?_)
      obtain rfl : a134 = (M128.1 98 11).toInt := ea134
      refine y_if_ne C 53 dX12_takes_46 (by decide) (by omega) (fun h136 => ?_) (fun h136 => ?_)
      · refine j_iload_n C 0 3 dX12_takes_53 rfl rfl ?_
        exact hret _ _ _ _ dX12_takes_54 ⟨(M128.1 98 10).toInt, rfl, hM128, (FR.rf.tr fM128 (by decide)), by omega⟩
      · have u137k := fun h => ri_k (M := M128) (by omega) h
        refine j_aload_n C 1 0 dX12_takes_49 rfl rfl ?_
        refine j_callVv C (d := 5) (As := []) (st := []) 98 (s_lt rfl rfl) (s_kc (c := 11) rfl rfl) (by decide) rfl (s1_X12_next hM128 hpr (by omega) (by omega) (by omega)) gX12_takes_X12_next rfl hdX12_next (by decide) (Nat.le_of_ble_eq_true rfl) dX12_takes_50 rfl (fun M139 h140 => ?_)
        obtain ⟨hM139, fM139, h141⟩ := h140
        refine j_iload_n C 0 3 dX12_takes_53 rfl rfl ?_
        exact hret _ _ _ _ dX12_takes_54 ⟨(M128.1 98 10).toInt, rfl, hM139, ((FR.rf.tr fM128 (by decide)).tr fM139 (by decide)), by omega⟩
  · refine j_aload_n C 0 0 dX12_takes_9 rfl rfl ?_
    refine y_iconst C dX12_takes_10 ?_
    refine j_callVv C (d := 0) (As := [.int (sI 2)]) (st := []) 98 (s_lt rfl rfl) (s_kc (c := 11) rfl rfl) (by decide) rfl (s1_X12_fails hM0 hpr 2 (by omega) (by omega) (by omega) (by omega)) gX12_takes_X12_fails rfl hdX12_fails (by decide) (Nat.le_of_ble_eq_true rfl) dX12_takes_11 rfl (fun M143 h144 => ?_)
    obtain ⟨hM143, fM143, h145⟩ := h144
    refine j_goto C 37 dX12_takes_14 (by decide) ?_
    have u146l := ri_l (M := M143) (by omega)
    refine j_aload_n C 0 0 dX12_takes_37 rfl rfl ?_
    refine y_getI C 11 _ _ fX12_takes_121 rfl rfl ft_11_10 sb_11_10 hM143 dX12_takes_38 (fun a147 ea147 la147 ua147 => ?_)
    obtain rfl : a147 = (M143.1 98 10).toInt := ea147
    refine j_istore_n C 3 [(3, .int (sI (M143.1 98 10).toInt)), (0, .ref (ad 98)), (1, .int (sI a1)), (2, .int (sI a2))] dX12_takes_41 rfl (by decide) rfl ?_
    refine j_aload_n C 1 0 dX12_takes_42 rfl rfl ?_
    refine y_getI C 11 _ _ fX12_takes_126 rfl rfl ft_11_11 sb_11_11 hM143 dX12_takes_43 (fun a149 ea149 la149 ua149 => ?_)
    obtain rfl : a149 = (M143.1 98 11).toInt := ea149
    refine y_if_ne C 53 dX12_takes_46 (by decide) (by omega) (fun h151 => ?_) (fun h151 => ?_)
    · refine j_iload_n C 0 3 dX12_takes_53 rfl rfl ?_
      exact hret _ _ _ _ dX12_takes_54 ⟨(M143.1 98 10).toInt, rfl, hM143, (FR.rf.tr fM143 (by decide)), by omega⟩
    · have u152k := fun h => ri_k (M := M143) (by omega) h
      refine j_aload_n C 1 0 dX12_takes_49 rfl rfl ?_
      refine j_callVv C (d := 5) (As := []) (st := []) 98 (s_lt rfl rfl) (s_kc (c := 11) rfl rfl) (by decide) rfl (s1_X12_next hM143 hpr (by omega) (by omega) (by omega)) gX12_takes_X12_next rfl hdX12_next (by decide) (Nat.le_of_ble_eq_true rfl) dX12_takes_50 rfl (fun M154 h155 => ?_)
      obtain ⟨hM154, fM154, h156⟩ := h155
      refine j_iload_n C 0 3 dX12_takes_53 rfl rfl ?_
      exact hret _ _ _ _ dX12_takes_54 ⟨(M143.1 98 10).toInt, rfl, hM154, ((FR.rf.tr fM143 (by decide)).tr fM154 (by decide)), by omega⟩
set_option maxHeartbeats 4000000 in
theorem s1_X12_readMark {l : Launch} {dC : Nat → ClassId} {dI : Nat → Nat → Nat} {ad : Nat → Nat} {cA : Nat → ClassId} {pr : Nat → Nat → Bool} {Kz : mm_M} {M0 : mm_M} (hM0 : INV pr Kz M0) (hpr : PM pr) (a1 : Int) (ha1 : -2147483648 ≤ a1 ∧ a1 ≤ 2147483647) (hp0 : b01 (RIP M0) = 1) (hp1 : b01 (LV M0) = 1) (hp2 : 0 ≤ a1 ∧ a1 ≤ 5) (hp3 : b01 (PI M0) = 1) : Ci l 7 yX12_readMark wsX12_readMark dC dI ad cA [.ref (ad 98), .int (sI a1)] M0 (fun r M' => ∃ a : Int, r = sI a ∧ INV pr Kz M' ∧ FR [98, 102] M0 M' ∧ 0 ≤ a ∧ a ≤ 1 ∧ (b01 (RIP M') = 1) ∧ ((M'.1 98 8).toInt = (M0.1 98 8).toInt) ∧ ((M0.1 98 6).toInt ≤ (M'.1 98 6).toInt) ∧ (b01 (LV M') = 1) ∧ (a = 0 ∨ a = 1 ∧ (M'.1 98 11).toInt = 0 ∧ (M0.1 98 6).toInt + 1 ≤ (M'.1 98 6).toInt) ∧ ((M'.1 102 1).toInt = (M0.1 102 1).toInt) ∧ (b01 (PI M') = 1)) := by
  refine ci_of (cc := cX12_readMark) (maxL := 2) (ty := .boolean) (lv := [(0, .ref (ad 98)), (1, .int (sI a1))]) (by decide) rfl (fun r M' hp => by obtain ⟨a, rfl, -, h⟩ := hp; rcases (show a = 0 ∨ a = 1 by omega) with rfl | rfl <;> rfl) (Nat.le_of_ble_eq_true rfl) rfl ?_
  intro p e s m args below meth c A Q C hret
  have u101l := ri_l (M := M0) (by omega)
  refine j_aload_n C 0 0 dX12_readMark_0 rfl rfl ?_
  refine y_bipush C dX12_readMark_1 rfl ?_
  refine j_callVi C (d := 6) (As := [.int (sI 8)]) (st := []) 98 (s_lt rfl rfl) (s_kc (c := 11) rfl rfl) (by decide) rfl (s1_X12_eats hM0 hpr 8 (by omega) (by omega) (by omega) (by omega)) gX12_readMark_X12_eats rfl hdX12_eats (by decide) (Nat.le_of_ble_eq_true rfl) dX12_readMark_3 rfl (fun r102 M103 h104 => ?_)
  obtain ⟨a106, rfl, hM103, fM103, h105⟩ := h104
  have u107v := lv_c (M := M0) (N := M103) (FR.cell fM103 (by decide)) (by omega) (by omega)
  have u107l := ri_l (M := M103) (by omega)
  refine y_if_eq C 28 dX12_readMark_6 (by decide) (by omega) (fun h108 => ?_) (fun h108 => ?_)
  · refine j_aload_n C 0 0 dX12_readMark_28 rfl rfl ?_
    refine y_bipush C dX12_readMark_29 rfl ?_
    refine j_callVi C (d := 6) (As := [.int (sI 9)]) (st := []) 98 (s_lt rfl rfl) (s_kc (c := 11) rfl rfl) (by decide) rfl (s1_X12_eats hM103 hpr 9 (by omega) (by omega) (by omega) (by omega)) gX12_readMark_X12_eats rfl hdX12_eats (by decide) (Nat.le_of_ble_eq_true rfl) dX12_readMark_31 rfl (fun r109 M110 h111 => ?_)
    obtain ⟨a113, rfl, hM110, fM110, h112⟩ := h111
    have u114v := lv_c (M := M103) (N := M110) (FR.cell fM110 (by decide)) (by omega) (by omega)
    have u114l := ri_l (M := M110) (by omega)
    refine y_if_eq C 56 dX12_readMark_34 (by decide) (by omega) (fun h115 => ?_) (fun h115 => ?_)
    · refine y_iconst C dX12_readMark_56 ?_
      have zz102_1 : (M110.1 102 1).toInt = (M0.1 102 1).toInt := s_fF fM103 (by decide) (s_fF fM110 (by decide) (rfl)); exact hret _ _ _ _ dX12_readMark_57 ⟨0, rfl, hM110, ((FR.rf.tr fM103 (by decide)).tr fM110 (by decide)), by omega⟩
    · refine j_aload_n C 0 0 dX12_readMark_37 rfl rfl ?_
      refine y_getC C 11 102 fX12_readMark_24 rfl rfl ft_11_4 sm_11_4 rfl hM110 dX12_readMark_38 ?_
      refine y_bipush C dX12_readMark_41 rfl ?_
      refine j_iload_n C 1 1 dX12_readMark_43 rfl rfl ?_
      refine y_iadd C dX12_readMark_44 ?_
      refine j_aload_n C 0 0 dX12_readMark_45 rfl rfl ?_
      refine y_iconst C dX12_readMark_46 ?_
      refine y_bipush C dX12_readMark_47 rfl ?_
      refine j_callVi C (d := 6) (As := [.int (sI 0), .int (sI 9)]) (st := [.int (sI (20 + a1)), .ref (ad 102)]) 98 (s_lt rfl rfl) (s_kc (c := 11) rfl rfl) (by decide) rfl (s1_X12_takes hM110 hpr 0 (by omega) 9 (by omega) (by omega) (by omega) (by omega) (by omega)) gX12_readMark_X12_takes rfl hdX12_takes (by decide) (Nat.le_of_ble_eq_true rfl) dX12_readMark_49 rfl (fun r116 M117 h118 => ?_)
      obtain ⟨a120, rfl, hM117, fM117, h119⟩ := h118
      have u121v := lv_c (M := M110) (N := M117) (FR.cell fM117 (by decide)) (by omega) (by omega)
      have u121l := ri_l (M := M117) (by omega)
      refine y_iastH C 48 1181 rfl rfl rfl ak_48 an_48 rfl _ _ hM117 (PM.w hpr rfl rfl) (hs_48_20_25 _ (by omega) (by omega)) dX12_readMark_52 (by omega) (by omega) (fun M122 eM122 hM122 => ?_)
      have pM122 := pi_o eM122 (by decide) (by decide) (by omega)
      have u123v := lv_o eM122 (h4b hM117) (by omega) (by omega) (by omega)
      have u123i := ri_c (M := M117) (N := M122) (wI_cell eM122 (by decide)) (by omega)
      have u123q6 : (M122.1 98 6).toInt = (M117.1 98 6).toInt := by rw [show M122.1 98 = M117.1 98 from wI_cell eM122 (by decide)]
      have u123q8 : (M122.1 98 8).toInt = (M117.1 98 8).toInt := by rw [show M122.1 98 = M117.1 98 from wI_cell eM122 (by decide)]
      have u123q11 : (M122.1 98 11).toInt = (M117.1 98 11).toInt := by rw [show M122.1 98 = M117.1 98 from wI_cell eM122 (by decide)]
      refine j_goto C 58 dX12_readMark_53 (by decide) ?_
      refine j_aload_n C 0 0 dX12_readMark_58 rfl rfl ?_
      refine y_getI C 11 _ _ fX12_readMark_126 rfl rfl ft_11_11 sb_11_11 hM122 dX12_readMark_59 (fun a124 ea124 la124 ua124 => ?_)
      obtain rfl : a124 = (M117.1 98 11).toInt := s_fa eM122 (by decide) (ea124)
      refine y_if_ne C 69 dX12_readMark_62 (by decide) (by omega) (fun h126 => ?_) (fun h126 => ?_)
      · refine y_iconst C dX12_readMark_69 ?_
        have zz102_1 : (M122.1 102 1).toInt = (M0.1 102 1).toInt := s_fF fM103 (by decide) (s_fF fM110 (by decide) (s_fF fM117 (by decide) (s_fb eM122 (by omega) (rfl)))); have zz98_11 : (M122.1 98 11).toInt = (M117.1 98 11).toInt := s_fa eM122 (by decide) (rfl); have zz98_6 : (M122.1 98 6).toInt = (M117.1 98 6).toInt := s_fa eM122 (by decide) (rfl); have zz98_8 : (M122.1 98 8).toInt = (M117.1 98 8).toInt := s_fa eM122 (by decide) (rfl); exact hret _ _ _ _ dX12_readMark_70 ⟨0, rfl, hM122, ((((FR.rf.tr fM103 (by decide)).tr fM110 (by decide)).tr fM117 (by decide)).wI eM122 (by decide)), by omega⟩
      · refine y_iconst C dX12_readMark_65 ?_
        refine j_goto C 70 dX12_readMark_66 (by decide) ?_
        have zz102_1 : (M122.1 102 1).toInt = (M0.1 102 1).toInt := s_fF fM103 (by decide) (s_fF fM110 (by decide) (s_fF fM117 (by decide) (s_fb eM122 (by omega) (rfl)))); have zz98_11 : (M122.1 98 11).toInt = (M117.1 98 11).toInt := s_fa eM122 (by decide) (rfl); have zz98_6 : (M122.1 98 6).toInt = (M117.1 98 6).toInt := s_fa eM122 (by decide) (rfl); have zz98_8 : (M122.1 98 8).toInt = (M117.1 98 8).toInt := s_fa eM122 (by decide) (rfl); exact hret _ _ _ _ dX12_readMark_70 ⟨1, rfl, hM122, ((((FR.rf.tr fM103 (by decide)).tr fM110 (by decide)).tr fM117 (by decide)).wI eM122 (by decide)), by omega⟩
  · refine j_aload_n C 0 0 dX12_readMark_9 rfl rfl ?_
    refine y_getC C 11 102 fX12_readMark_24 rfl rfl ft_11_4 sm_11_4 rfl hM103 dX12_readMark_10 ?_
    refine y_bipush C dX12_readMark_13 rfl ?_
    refine j_iload_n C 1 1 dX12_readMark_15 rfl rfl ?_
    refine y_iadd C dX12_readMark_16 ?_
    refine j_aload_n C 0 0 dX12_readMark_17 rfl rfl ?_
    refine y_iconst C dX12_readMark_18 ?_
    refine y_bipush C dX12_readMark_19 rfl ?_
    refine j_callVi C (d := 6) (As := [.int (sI 0), .int (sI 9)]) (st := [.int (sI (14 + a1)), .ref (ad 102)]) 98 (s_lt rfl rfl) (s_kc (c := 11) rfl rfl) (by decide) rfl (s1_X12_takes hM103 hpr 0 (by omega) 9 (by omega) (by omega) (by omega) (by omega) (by omega)) gX12_readMark_X12_takes rfl hdX12_takes (by decide) (Nat.le_of_ble_eq_true rfl) dX12_readMark_21 rfl (fun r127 M128 h129 => ?_)
    obtain ⟨a131, rfl, hM128, fM128, h130⟩ := h129
    have u132v := lv_c (M := M103) (N := M128) (FR.cell fM128 (by decide)) (by omega) (by omega)
    have u132l := ri_l (M := M128) (by omega)
    refine y_iastH C 48 1181 rfl rfl rfl ak_48 an_48 rfl _ _ hM128 (PM.w hpr rfl rfl) (hs_48_14_19 _ (by omega) (by omega)) dX12_readMark_24 (by omega) (by omega) (fun M133 eM133 hM133 => ?_)
    have pM133 := pi_o eM133 (by decide) (by decide) (by omega)
    have u134v := lv_w eM133 (h4b hM128) (by omega) (by omega)
    have u134i := ri_c (M := M128) (N := M133) (wI_cell eM133 (by decide)) (by omega)
    have u134q6 : (M133.1 98 6).toInt = (M128.1 98 6).toInt := by rw [show M133.1 98 = M128.1 98 from wI_cell eM133 (by decide)]
    have u134q8 : (M133.1 98 8).toInt = (M128.1 98 8).toInt := by rw [show M133.1 98 = M128.1 98 from wI_cell eM133 (by decide)]
    have u134q11 : (M133.1 98 11).toInt = (M128.1 98 11).toInt := by rw [show M133.1 98 = M128.1 98 from wI_cell eM133 (by decide)]
    refine j_goto C 58 dX12_readMark_25 (by decide) ?_
    refine j_aload_n C 0 0 dX12_readMark_58 rfl rfl ?_
    refine y_getI C 11 _ _ fX12_readMark_126 rfl rfl ft_11_11 sb_11_11 hM133 dX12_readMark_59 (fun a135 ea135 la135 ua135 => ?_)
    obtain rfl : a135 = (M128.1 98 11).toInt := s_fa eM133 (by decide) (ea135)
    refine y_if_ne C 69 dX12_readMark_62 (by decide) (by omega) (fun h137 => ?_) (fun h137 => ?_)
    · refine y_iconst C dX12_readMark_69 ?_
      have zz102_1 : (M133.1 102 1).toInt = (M0.1 102 1).toInt := s_fF fM103 (by decide) (s_fF fM128 (by decide) (s_fb eM133 (by omega) (rfl))); have zz98_11 : (M133.1 98 11).toInt = (M128.1 98 11).toInt := s_fa eM133 (by decide) (rfl); have zz98_6 : (M133.1 98 6).toInt = (M128.1 98 6).toInt := s_fa eM133 (by decide) (rfl); have zz98_8 : (M133.1 98 8).toInt = (M128.1 98 8).toInt := s_fa eM133 (by decide) (rfl); exact hret _ _ _ _ dX12_readMark_70 ⟨0, rfl, hM133, (((FR.rf.tr fM103 (by decide)).tr fM128 (by decide)).wI eM133 (by decide)), by omega⟩
    · refine y_iconst C dX12_readMark_65 ?_
      refine j_goto C 70 dX12_readMark_66 (by decide) ?_
      have zz102_1 : (M133.1 102 1).toInt = (M0.1 102 1).toInt := s_fF fM103 (by decide) (s_fF fM128 (by decide) (s_fb eM133 (by omega) (rfl))); have zz98_11 : (M133.1 98 11).toInt = (M128.1 98 11).toInt := s_fa eM133 (by decide) (rfl); have zz98_6 : (M133.1 98 6).toInt = (M128.1 98 6).toInt := s_fa eM133 (by decide) (rfl); have zz98_8 : (M133.1 98 8).toInt = (M128.1 98 8).toInt := s_fa eM133 (by decide) (rfl); exact hret _ _ _ _ dX12_readMark_70 ⟨1, rfl, hM133, (((FR.rf.tr fM103 (by decide)).tr fM128 (by decide)).wI eM133 (by decide)), by omega⟩
set_option maxHeartbeats 4000000 in
theorem s1_X12_readBuyer {l : Launch} {dC : Nat → ClassId} {dI : Nat → Nat → Nat} {ad : Nat → Nat} {cA : Nat → ClassId} {pr : Nat → Nat → Bool} {Kz : mm_M} {M0 : mm_M} (hM0 : INV pr Kz M0) (hpr : PM pr)  (hp0 : b01 (RIP M0) = 1) (hp1 : b01 (LV M0) = 1) (hp2 : b01 (PI M0) = 1) : Cv l 8 yX12_readBuyer wsX12_readBuyer dC dI ad cA [.ref (ad 98)] M0 (fun M' => INV pr Kz M' ∧ FR [98, 102] M0 M' ∧ (b01 (RIP M') = 1) ∧ ((M'.1 98 8).toInt = (M0.1 98 8).toInt) ∧ ((M0.1 98 6).toInt ≤ (M'.1 98 6).toInt) ∧ (b01 (LV M') = 1) ∧ (b01 (PI M') = 1)) := by
  refine cv_of (cc := cX12_readBuyer) (maxL := 2) (lv := [(0, .ref (ad 98))]) (by decide) rfl (Nat.le_of_ble_eq_true rfl) rfl ?_
  intro p e s m args below meth c A Q C hret
  have u101l := ri_l (M := M0) (by omega)
  refine j_aload_n C 0 0 dX12_readBuyer_0 rfl rfl ?_
  refine y_getC C 11 102 fX12_readBuyer_24 rfl rfl ft_11_4 sm_11_4 rfl hM0 dX12_readBuyer_1 ?_
  refine y_iconst C dX12_readBuyer_4 ?_
  refine y_ialdH C 48 1181 rfl rfl rfl ak_48 an_48 rfl _ _ hM0 (hr_48_1_1 _ (by omega) (by omega)) dX12_readBuyer_5 (by omega) (fun a102 ea102 la102 ua102 => ?_)
  obtain rfl : a102 = (M0.1 102 1).toInt := ea102
  refine j_istore_n C 1 [(1, .int (sI (M0.1 102 1).toInt)), (0, .ref (ad 98))] dX12_readBuyer_6 rfl (by decide) rfl ?_
  refine j_iload_n C 0 1 dX12_readBuyer_7 rfl rfl ?_
  refine y_bipush C dX12_readBuyer_8 rfl ?_
  refine y_icmp_ne C 18 dX12_readBuyer_10 (by decide) (by omega) (fun h103 => ?_) (fun h103 => ?_)
  · refine j_aload_n C 1 0 dX12_readBuyer_18 rfl rfl ?_
    refine y_getI C 11 _ _ fX12_readBuyer_126 rfl rfl ft_11_11 sb_11_11 hM0 dX12_readBuyer_19 (fun a105 ea105 la105 ua105 => ?_)
    obtain rfl : a105 = (M0.1 98 11).toInt := ea105
    refine y_if_eq C 26 dX12_readBuyer_22 (by decide) (by omega) (fun h107 => ?_) (fun h107 => ?_)
    · have u108 : 0 ≤ (M0.1 102 1).toInt ∧ (M0.1 102 1).toInt ≤ 5 := by omega
      refine j_aload_n C 1 0 dX12_readBuyer_26 rfl rfl ?_
      refine j_callVv C (d := 5) (As := []) (st := []) 98 (s_lt rfl rfl) (s_kc (c := 11) rfl rfl) (by decide) rfl (s1_X12_next hM0 hpr (by omega) (by omega) (by omega)) gX12_readBuyer_X12_next rfl hdX12_next (by decide) (Nat.le_of_ble_eq_true rfl) dX12_readBuyer_27 rfl (fun M110 h111 => ?_)
      obtain ⟨hM110, fM110, h112⟩ := h111
      have u113v := lv_c (M := M0) (N := M110) (FR.cell fM110 (by decide)) (by omega) (by omega)
      have u113l := ri_l (M := M110) (by omega)
      refine j_aload_n C 1 0 dX12_readBuyer_30 rfl rfl ?_
      refine y_bipush C dX12_readBuyer_31 rfl ?_
      refine j_callVi C (d := 6) (As := [.int (sI 7)]) (st := []) 98 (s_lt rfl rfl) (s_kc (c := 11) rfl rfl) (by decide) rfl (s1_X12_eats hM110 hpr 7 (by omega) (by omega) (by omega) (by omega)) gX12_readBuyer_X12_eats rfl hdX12_eats (by decide) (Nat.le_of_ble_eq_true rfl) dX12_readBuyer_33 rfl (fun r114 M115 h116 => ?_)
      obtain ⟨a118, rfl, hM115, fM115, h117⟩ := h116
      have u119v := lv_c (M := M110) (N := M115) (FR.cell fM115 (by decide)) (by omega) (by omega)
      have u119l := ri_l (M := M115) (by omega)
      have J128 : ∀ (M127 : mm_M), ((b01 (RIP M127) = 1) ∧ ((M127.1 98 8).toInt = (M0.1 98 8).toInt) ∧ ((M0.1 98 6).toInt ≤ (M127.1 98 6).toInt) ∧ (b01 (LV M127) = 1) ∧ ((M127.1 102 1).toInt = (M0.1 102 1).toInt) ∧ (b01 (PI M127) = 1)) → INV pr Kz M127 → FR [98, 102] M0 M127 → jj p l e (cn_R 8) s m args below meth c 0 0 Q 2 dC dI ad cA A M127 44 [(0, .ref (ad 98)), (1, .int (sI (M0.1 102 1).toInt))] [] := by
        intro M127 h129 hM127 fM127
        have u131l := ri_l (M := M127) (by omega)
        refine j_aload_n C 0 0 dX12_readBuyer_44 rfl rfl ?_
        refine y_getC C 11 102 fX12_readBuyer_24 rfl rfl ft_11_4 sm_11_4 rfl hM127 dX12_readBuyer_45 ?_
        refine y_bipush C dX12_readBuyer_48 rfl ?_
        refine j_iload_n C 1 1 dX12_readBuyer_50 rfl rfl ?_
        refine y_iadd C dX12_readBuyer_51 ?_
        refine j_aload_n C 0 0 dX12_readBuyer_52 rfl rfl ?_
        refine y_iconst C dX12_readBuyer_53 ?_
        refine y_sipush C dX12_readBuyer_54 rfl ?_
        refine j_callVi C (d := 6) (As := [.int (sI 0), .int (sI 999)]) (st := [.int (sI (8 + (M0.1 102 1).toInt)), .ref (ad 102)]) 98 (s_lt rfl rfl) (s_kc (c := 11) rfl rfl) (by decide) rfl (s1_X12_takes hM127 hpr 0 (by omega) 999 (by omega) (by omega) (by omega) (by omega) (by omega)) gX12_readBuyer_X12_takes rfl hdX12_takes (by decide) (Nat.le_of_ble_eq_true rfl) dX12_readBuyer_57 rfl (fun r132 M133 h134 => ?_)
        obtain ⟨a136, rfl, hM133, fM133, h135⟩ := h134
        have u137v := lv_c (M := M127) (N := M133) (FR.cell fM133 (by decide)) (by omega) (by omega)
        have u137l := ri_l (M := M133) (by omega)
        refine y_iastH C 48 1181 rfl rfl rfl ak_48 an_48 rfl _ _ hM133 (PM.w hpr rfl rfl) (hs_48_8_13 _ (by omega) (by omega)) dX12_readBuyer_60 (by omega) (by omega) (fun M138 eM138 hM138 => ?_)
        have pM138 := pi_o eM138 (by decide) (by decide) (by omega)
        have u139v := lv_w eM138 (h4b hM133) (by omega) (by omega)
        have u139i := ri_c (M := M133) (N := M138) (wI_cell eM138 (by decide)) (by omega)
        have u139q6 : (M138.1 98 6).toInt = (M133.1 98 6).toInt := by rw [show M138.1 98 = M133.1 98 from wI_cell eM138 (by decide)]
        have u139q8 : (M138.1 98 8).toInt = (M133.1 98 8).toInt := by rw [show M138.1 98 = M133.1 98 from wI_cell eM138 (by decide)]
        have u139q11 : (M138.1 98 11).toInt = (M133.1 98 11).toInt := by rw [show M138.1 98 = M133.1 98 from wI_cell eM138 (by decide)]
        refine j_aload_n C 0 0 dX12_readBuyer_61 rfl rfl ?_
        refine y_getC C 11 102 fX12_readBuyer_24 rfl rfl ft_11_4 sm_11_4 rfl hM138 dX12_readBuyer_62 ?_
        refine y_bipush C dX12_readBuyer_65 rfl ?_
        refine j_iload_n C 1 1 dX12_readBuyer_67 rfl rfl ?_
        refine y_iadd C dX12_readBuyer_68 ?_
        refine y_iconst C dX12_readBuyer_69 ?_
        refine y_iastH C 48 1181 rfl rfl rfl ak_48 an_48 rfl _ _ hM138 (PM.w hpr rfl rfl) (hs_48_20_25 _ (by omega) (by omega)) dX12_readBuyer_70 (by omega) (by omega) (fun M140 eM140 hM140 => ?_)
        have pM140 := pi_o eM140 (by decide) (by decide) (by omega)
        have u141v := lv_o eM140 (h4b hM138) (by omega) (by omega) (by omega)
        have u141i := ri_c (M := M138) (N := M140) (wI_cell eM140 (by decide)) (by omega)
        have u141q6 : (M140.1 98 6).toInt = (M138.1 98 6).toInt := by rw [show M140.1 98 = M138.1 98 from wI_cell eM140 (by decide)]
        have u141q8 : (M140.1 98 8).toInt = (M138.1 98 8).toInt := by rw [show M140.1 98 = M138.1 98 from wI_cell eM140 (by decide)]
        have u141q11 : (M140.1 98 11).toInt = (M138.1 98 11).toInt := by rw [show M140.1 98 = M138.1 98 from wI_cell eM140 (by decide)]
        have u141l := ri_l (M := M140) (by omega)
        have L155 : ∀ (n153 : Nat), ∀ (M156 : mm_M), ((b01 (RIP M156) = 1) ∧ ((M156.1 98 8).toInt = (M0.1 98 8).toInt) ∧ ((M0.1 98 6).toInt ≤ (M156.1 98 6).toInt) ∧ (b01 (LV M156) = 1) ∧ ((M156.1 98 6).toInt ≤ 900) ∧ ((M156.1 102 1).toInt = (M0.1 102 1).toInt) ∧ (b01 (PI M156) = 1) ∧ (900 - (M156.1 98 6).toInt) < (n153 : Int)) → INV pr Kz M156 → FR [98, 102] M0 M156 → jj p l e (cn_R 8) s m args below meth c 0 0 Q 2 dC dI ad cA A M156 71 [(0, .ref (ad 98)), (1, .int (sI (M0.1 102 1).toInt))] [] := by
          intro n153
          induction n153 with
          | zero =>
            intro M156 h157 hM156 fM156
            exfalso; omega
          | succ n153 ih154 =>
            intro M156 h157 hM156 fM156
            refine j_aload_n C 0 0 dX12_readBuyer_71 rfl rfl ?_
            refine y_getI C 11 _ _ fX12_readBuyer_126 rfl rfl ft_11_11 sb_11_11 hM156 dX12_readBuyer_72 (fun a158 ea158 la158 ua158 => ?_)
            obtain rfl : a158 = (M156.1 98 11).toInt := ea158
            refine y_if_ne C 89 dX12_readBuyer_75 (by decide) (by omega) (fun h160 => ?_) (fun h160 => ?_)
            · refine j_aload_n C 0 0 dX12_readBuyer_89 rfl rfl ?_
              refine y_getI C 11 _ _ fX12_readBuyer_126 rfl rfl ft_11_11 sb_11_11 hM156 dX12_readBuyer_90 (fun a168 ea168 la168 ua168 => ?_)
              obtain rfl : a168 = (M156.1 98 11).toInt := ea168
              refine y_if_ne C 106 dX12_readBuyer_93 (by decide) (by omega) (fun h170 => ?_) (fun h170 => ?_)
              · exact hret _ _ _ dX12_readBuyer_106 ⟨hM156, (FR.rf.tr fM156 (by decide)), by omega⟩
              · exfalso; omega
            · refine j_aload_n C 0 0 dX12_readBuyer_78 rfl rfl ?_
              refine j_iload_n C 1 1 dX12_readBuyer_79 rfl rfl ?_
              refine j_callVi C (d := 7) (As := [.int (sI (M0.1 102 1).toInt)]) (st := []) 98 (s_lt rfl rfl) (s_kc (c := 11) rfl rfl) (by decide) rfl (s1_X12_readMark hM156 hpr (M0.1 102 1).toInt (by omega) (by omega) (by omega) (by omega) (by omega)) gX12_readBuyer_X12_readMark rfl hdX12_readMark (by decide) (Nat.le_of_ble_eq_true rfl) dX12_readBuyer_80 rfl (fun r161 M162 h163 => ?_)
              obtain ⟨a165, rfl, hM162, fM162, h164⟩ := h163
              refine y_if_eq C 89 dX12_readBuyer_83 (by decide) (by omega) (fun h166 => ?_) (fun h166 => ?_)
              · refine j_aload_n C 0 0 dX12_readBuyer_89 rfl rfl ?_
                refine y_getI C 11 _ _ fX12_readBuyer_126 rfl rfl ft_11_11 sb_11_11 hM162 dX12_readBuyer_90 (fun a172 ea172 la172 ua172 => ?_)
                obtain rfl : a172 = (M162.1 98 11).toInt := ea172
                refine y_if_ne C 106 dX12_readBuyer_93 (by decide) (by omega) (fun h174 => ?_) (fun h174 => ?_)
                · exact hret _ _ _ dX12_readBuyer_106 ⟨hM162, ((FR.rf.tr fM156 (by decide)).tr fM162 (by decide)), by omega⟩
                · refine j_aload_n C 0 0 dX12_readBuyer_96 rfl rfl ?_
                  refine y_getC C 11 102 fX12_readBuyer_24 rfl rfl ft_11_4 sm_11_4 rfl hM162 dX12_readBuyer_97 ?_
                  refine y_iconst C dX12_readBuyer_100 ?_
                  refine j_dup2 C dX12_readBuyer_101 rfl rfl ?_
                  refine y_ialdH C 48 1181 rfl rfl rfl ak_48 an_48 rfl _ _ hM162 (hr_48_1_1 _ (by omega) (by omega)) dX12_readBuyer_102 (by omega) (fun a176 ea176 la176 ua176 => ?_)
                  obtain rfl : a176 = (M162.1 102 1).toInt := ea176
                  refine y_iconst C dX12_readBuyer_103 ?_
                  refine y_iadd C dX12_readBuyer_104 ?_
                  refine y_iastH C 48 1181 rfl rfl rfl ak_48 an_48 rfl _ _ hM162 (PM.w hpr rfl rfl) (hs_48_1_1 _ (by omega) (by omega)) dX12_readBuyer_105 (by omega) (by omega) (fun M177 eM177 hM177 => ?_)
                  have pM177 := pi_o eM177 (by decide) (by decide) (by omega)
                  have u178v := lv_w eM177 (h4b hM162) (by decide) (by omega)
                  have u178i := ri_c (M := M162) (N := M177) (wI_cell eM177 (by decide)) (by omega)
                  have u178q6 : (M177.1 98 6).toInt = (M162.1 98 6).toInt := by rw [show M177.1 98 = M162.1 98 from wI_cell eM177 (by decide)]
                  have u178q8 : (M177.1 98 8).toInt = (M162.1 98 8).toInt := by rw [show M177.1 98 = M162.1 98 from wI_cell eM177 (by decide)]
                  have u178q11 : (M177.1 98 11).toInt = (M162.1 98 11).toInt := by rw [show M177.1 98 = M162.1 98 from wI_cell eM177 (by decide)]
                  have zz98_6 : (M177.1 98 6).toInt = (M162.1 98 6).toInt := s_fa eM177 (by decide) (rfl); have zz98_8 : (M177.1 98 8).toInt = (M162.1 98 8).toInt := s_fa eM177 (by decide) (rfl); exact hret _ _ _ dX12_readBuyer_106 ⟨hM177, (((FR.rf.tr fM156 (by decide)).tr fM162 (by decide)).wI eM177 (by decide)), by omega⟩
              · refine j_goto C 71 dX12_readBuyer_86 (by decide) ?_
                have u167l := ri_l (M := M162) (by omega)
                exact ih154 M162 (by omega) hM162 ((FR.rf.tr fM156 (by decide)).tr fM162 (by decide))
        have zz98_8 : (M140.1 98 8).toInt = (M133.1 98 8).toInt := s_fa eM138 (by decide) (s_fa eM140 (by decide) (rfl)); have zz98_6 : (M140.1 98 6).toInt = (M133.1 98 6).toInt := s_fa eM138 (by decide) (s_fa eM140 (by decide) (rfl)); have zz102_1 : (M140.1 102 1).toInt = (M127.1 102 1).toInt := s_fF fM133 (by decide) (s_fb eM138 (by omega) (s_fb eM140 (by omega) (rfl))); exact L155 2010 M140 (by omega) hM140 ((((FR.rf.tr fM127 (by decide)).tr fM133 (by decide)).wI eM138 (by decide)).wI eM140 (by decide))
      refine y_if_ne C 44 dX12_readBuyer_36 (by decide) (by omega) (fun h120 => ?_) (fun h120 => ?_)
      · have zz102_1 : (M115.1 102 1).toInt = (M0.1 102 1).toInt := s_fF fM110 (by decide) (s_fF fM115 (by decide) (rfl)); refine j_lv [1, 0] rfl ?_; exact J128 M115 (by omega) hM115 ((FR.rf.tr fM110 (by decide)).tr fM115 (by decide))
      · refine j_aload_n C 1 0 dX12_readBuyer_39 rfl rfl ?_
        refine y_iconst C dX12_readBuyer_40 ?_
        refine j_callVv C (d := 0) (As := [.int (sI 2)]) (st := []) 98 (s_lt rfl rfl) (s_kc (c := 11) rfl rfl) (by decide) rfl (s1_X12_fails hM115 hpr 2 (by omega) (by omega) (by omega) (by omega)) gX12_readBuyer_X12_fails rfl hdX12_fails (by decide) (Nat.le_of_ble_eq_true rfl) dX12_readBuyer_41 rfl (fun M123 h124 => ?_)
        obtain ⟨hM123, fM123, h125⟩ := h124
        have u126v := lv_c (M := M115) (N := M123) (FR.cell fM123 (by decide)) (by omega) (by omega)
        have u126l := ri_l (M := M123) (by omega)
        have zz102_1 : (M123.1 102 1).toInt = (M0.1 102 1).toInt := s_fF fM110 (by decide) (s_fF fM115 (by decide) (s_fF fM123 (by decide) (rfl))); refine j_lv [1, 0] rfl ?_; exact J128 M123 (by omega) hM123 (((FR.rf.tr fM110 (by decide)).tr fM115 (by decide)).tr fM123 (by decide))
    · exact hret _ _ _ dX12_readBuyer_25 ⟨hM0, FR.rf, by omega⟩
  · refine j_aload_n C 1 0 dX12_readBuyer_13 rfl rfl ?_
    refine y_iconst C dX12_readBuyer_14 ?_
    refine j_callVv C (d := 0) (As := [.int (sI 4)]) (st := []) 98 (s_lt rfl rfl) (s_kc (c := 11) rfl rfl) (by decide) rfl (s1_X12_fails hM0 hpr 4 (by omega) (by omega) (by omega) (by omega)) gX12_readBuyer_X12_fails rfl hdX12_fails (by decide) (Nat.le_of_ble_eq_true rfl) dX12_readBuyer_15 rfl (fun M180 h181 => ?_)
    obtain ⟨hM180, fM180, h182⟩ := h181
    have u183v := lv_c (M := M0) (N := M180) (FR.cell fM180 (by decide)) (by omega) (by omega)
    have u183l := ri_l (M := M180) (by omega)
    refine j_aload_n C 1 0 dX12_readBuyer_18 rfl rfl ?_
    refine y_getI C 11 _ _ fX12_readBuyer_126 rfl rfl ft_11_11 sb_11_11 hM180 dX12_readBuyer_19 (fun a184 ea184 la184 ua184 => ?_)
    obtain rfl : a184 = (M180.1 98 11).toInt := ea184
    refine y_if_eq C 26 dX12_readBuyer_22 (by decide) (by omega) (fun h186 => ?_) (fun h186 => ?_)
    · have u187 : 0 ≤ (M0.1 102 1).toInt ∧ (M0.1 102 1).toInt ≤ 5 := by omega
      refine j_aload_n C 1 0 dX12_readBuyer_26 rfl rfl ?_
      refine j_callVv C (d := 5) (As := []) (st := []) 98 (s_lt rfl rfl) (s_kc (c := 11) rfl rfl) (by decide) rfl (s1_X12_next hM180 hpr (by omega) (by omega) (by omega)) gX12_readBuyer_X12_next rfl hdX12_next (by decide) (Nat.le_of_ble_eq_true rfl) dX12_readBuyer_27 rfl (fun M189 h190 => ?_)
      obtain ⟨hM189, fM189, h191⟩ := h190
      have u192v := lv_c (M := M180) (N := M189) (FR.cell fM189 (by decide)) (by omega) (by omega)
      have u192l := ri_l (M := M189) (by omega)
      refine j_aload_n C 1 0 dX12_readBuyer_30 rfl rfl ?_
      refine y_bipush C dX12_readBuyer_31 rfl ?_
      refine j_callVi C (d := 6) (As := [.int (sI 7)]) (st := []) 98 (s_lt rfl rfl) (s_kc (c := 11) rfl rfl) (by decide) rfl (s1_X12_eats hM189 hpr 7 (by omega) (by omega) (by omega) (by omega)) gX12_readBuyer_X12_eats rfl hdX12_eats (by decide) (Nat.le_of_ble_eq_true rfl) dX12_readBuyer_33 rfl (fun r193 M194 h195 => ?_)
      obtain ⟨a197, rfl, hM194, fM194, h196⟩ := h195
      have u198v := lv_c (M := M189) (N := M194) (FR.cell fM194 (by decide)) (by omega) (by omega)
      have u198l := ri_l (M := M194) (by omega)
      have J207 : ∀ (M206 : mm_M), ((b01 (RIP M206) = 1) ∧ ((M206.1 98 8).toInt = (M0.1 98 8).toInt) ∧ ((M0.1 98 6).toInt ≤ (M206.1 98 6).toInt) ∧ (b01 (LV M206) = 1) ∧ ((M206.1 102 1).toInt = (M0.1 102 1).toInt) ∧ (b01 (PI M206) = 1)) → INV pr Kz M206 → FR [98, 102] M0 M206 → jj p l e (cn_R 8) s m args below meth c 0 0 Q 2 dC dI ad cA A M206 44 [(0, .ref (ad 98)), (1, .int (sI (M0.1 102 1).toInt))] [] := by
        intro M206 h208 hM206 fM206
        have u210l := ri_l (M := M206) (by omega)
        refine j_aload_n C 0 0 dX12_readBuyer_44 rfl rfl ?_
        refine y_getC C 11 102 fX12_readBuyer_24 rfl rfl ft_11_4 sm_11_4 rfl hM206 dX12_readBuyer_45 ?_
        refine y_bipush C dX12_readBuyer_48 rfl ?_
        refine j_iload_n C 1 1 dX12_readBuyer_50 rfl rfl ?_
        refine y_iadd C dX12_readBuyer_51 ?_
        refine j_aload_n C 0 0 dX12_readBuyer_52 rfl rfl ?_
        refine y_iconst C dX12_readBuyer_53 ?_
        refine y_sipush C dX12_readBuyer_54 rfl ?_
        refine j_callVi C (d := 6) (As := [.int (sI 0), .int (sI 999)]) (st := [.int (sI (8 + (M0.1 102 1).toInt)), .ref (ad 102)]) 98 (s_lt rfl rfl) (s_kc (c := 11) rfl rfl) (by decide) rfl (s1_X12_takes hM206 hpr 0 (by omega) 999 (by omega) (by omega) (by omega) (by omega) (by omega)) gX12_readBuyer_X12_takes rfl hdX12_takes (by decide) (Nat.le_of_ble_eq_true rfl) dX12_readBuyer_57 rfl (fun r211 M212 h213 => ?_)
        obtain ⟨a215, rfl, hM212, fM212, h214⟩ := h213
        have u216v := lv_c (M := M206) (N := M212) (FR.cell fM212 (by decide)) (by omega) (by omega)
        have u216l := ri_l (M := M212) (by omega)
        refine y_iastH C 48 1181 rfl rfl rfl ak_48 an_48 rfl _ _ hM212 (PM.w hpr rfl rfl) (hs_48_8_13 _ (by omega) (by omega)) dX12_readBuyer_60 (by omega) (by omega) (fun M217 eM217 hM217 => ?_)
        have pM217 := pi_o eM217 (by decide) (by decide) (by omega)
        have u218v := lv_w eM217 (h4b hM212) (by omega) (by omega)
        have u218i := ri_c (M := M212) (N := M217) (wI_cell eM217 (by decide)) (by omega)
        have u218q6 : (M217.1 98 6).toInt = (M212.1 98 6).toInt := by rw [show M217.1 98 = M212.1 98 from wI_cell eM217 (by decide)]
        have u218q8 : (M217.1 98 8).toInt = (M212.1 98 8).toInt := by rw [show M217.1 98 = M212.1 98 from wI_cell eM217 (by decide)]
        have u218q11 : (M217.1 98 11).toInt = (M212.1 98 11).toInt := by rw [show M217.1 98 = M212.1 98 from wI_cell eM217 (by decide)]
        refine j_aload_n C 0 0 dX12_readBuyer_61 rfl rfl ?_
        refine y_getC C 11 102 fX12_readBuyer_24 rfl rfl ft_11_4 sm_11_4 rfl hM217 dX12_readBuyer_62 ?_
        refine y_bipush C dX12_readBuyer_65 rfl ?_
        refine j_iload_n C 1 1 dX12_readBuyer_67 rfl rfl ?_
        refine y_iadd C dX12_readBuyer_68 ?_
        refine y_iconst C dX12_readBuyer_69 ?_
        refine y_iastH C 48 1181 rfl rfl rfl ak_48 an_48 rfl _ _ hM217 (PM.w hpr rfl rfl) (hs_48_20_25 _ (by omega) (by omega)) dX12_readBuyer_70 (by omega) (by omega) (fun M219 eM219 hM219 => ?_)
        have pM219 := pi_o eM219 (by decide) (by decide) (by omega)
        have u220v := lv_o eM219 (h4b hM217) (by omega) (by omega) (by omega)
        have u220i := ri_c (M := M217) (N := M219) (wI_cell eM219 (by decide)) (by omega)
        have u220q6 : (M219.1 98 6).toInt = (M217.1 98 6).toInt := by rw [show M219.1 98 = M217.1 98 from wI_cell eM219 (by decide)]
        have u220q8 : (M219.1 98 8).toInt = (M217.1 98 8).toInt := by rw [show M219.1 98 = M217.1 98 from wI_cell eM219 (by decide)]
        have u220q11 : (M219.1 98 11).toInt = (M217.1 98 11).toInt := by rw [show M219.1 98 = M217.1 98 from wI_cell eM219 (by decide)]
        have u220l := ri_l (M := M219) (by omega)
        have L234 : ∀ (n232 : Nat), ∀ (M235 : mm_M), ((b01 (RIP M235) = 1) ∧ ((M235.1 98 8).toInt = (M0.1 98 8).toInt) ∧ ((M0.1 98 6).toInt ≤ (M235.1 98 6).toInt) ∧ (b01 (LV M235) = 1) ∧ ((M235.1 98 6).toInt ≤ 900) ∧ ((M235.1 102 1).toInt = (M0.1 102 1).toInt) ∧ (b01 (PI M235) = 1) ∧ (900 - (M235.1 98 6).toInt) < (n232 : Int)) → INV pr Kz M235 → FR [98, 102] M0 M235 → jj p l e (cn_R 8) s m args below meth c 0 0 Q 2 dC dI ad cA A M235 71 [(0, .ref (ad 98)), (1, .int (sI (M0.1 102 1).toInt))] [] := by
          intro n232
          induction n232 with
          | zero =>
            intro M235 h236 hM235 fM235
            exfalso; omega
          | succ n232 ih233 =>
            intro M235 h236 hM235 fM235
            refine j_aload_n C 0 0 dX12_readBuyer_71 rfl rfl ?_
            refine y_getI C 11 _ _ fX12_readBuyer_126 rfl rfl ft_11_11 sb_11_11 hM235 dX12_readBuyer_72 (fun a237 ea237 la237 ua237 => ?_)
            obtain rfl : a237 = (M235.1 98 11).toInt := ea237
            refine y_if_ne C 89 dX12_readBuyer_75 (by decide) (by omega) (fun h239 => ?_) (fun h239 => ?_)
            · refine j_aload_n C 0 0 dX12_readBuyer_89 rfl rfl ?_
              refine y_getI C 11 _ _ fX12_readBuyer_126 rfl rfl ft_11_11 sb_11_11 hM235 dX12_readBuyer_90 (fun a247 ea247 la247 ua247 => ?_)
              obtain rfl : a247 = (M235.1 98 11).toInt := ea247
              refine y_if_ne C 106 dX12_readBuyer_93 (by decide) (by omega) (fun h249 => ?_) (fun h249 => ?_)
              · exact hret _ _ _ dX12_readBuyer_106 ⟨hM235, (FR.rf.tr fM235 (by decide)), by omega⟩
              · exfalso; omega
            · refine j_aload_n C 0 0 dX12_readBuyer_78 rfl rfl ?_
              refine j_iload_n C 1 1 dX12_readBuyer_79 rfl rfl ?_
              refine j_callVi C (d := 7) (As := [.int (sI (M0.1 102 1).toInt)]) (st := []) 98 (s_lt rfl rfl) (s_kc (c := 11) rfl rfl) (by decide) rfl (s1_X12_readMark hM235 hpr (M0.1 102 1).toInt (by omega) (by omega) (by omega) (by omega) (by omega)) gX12_readBuyer_X12_readMark rfl hdX12_readMark (by decide) (Nat.le_of_ble_eq_true rfl) dX12_readBuyer_80 rfl (fun r240 M241 h242 => ?_)
              obtain ⟨a244, rfl, hM241, fM241, h243⟩ := h242
              refine y_if_eq C 89 dX12_readBuyer_83 (by decide) (by omega) (fun h245 => ?_) (fun h245 => ?_)
              · refine j_aload_n C 0 0 dX12_readBuyer_89 rfl rfl ?_
                refine y_getI C 11 _ _ fX12_readBuyer_126 rfl rfl ft_11_11 sb_11_11 hM241 dX12_readBuyer_90 (fun a251 ea251 la251 ua251 => ?_)
                obtain rfl : a251 = (M241.1 98 11).toInt := ea251
                refine y_if_ne C 106 dX12_readBuyer_93 (by decide) (by omega) (fun h253 => ?_) (fun h253 => ?_)
                · exact hret _ _ _ dX12_readBuyer_106 ⟨hM241, ((FR.rf.tr fM235 (by decide)).tr fM241 (by decide)), by omega⟩
                · refine j_aload_n C 0 0 dX12_readBuyer_96 rfl rfl ?_
                  refine y_getC C 11 102 fX12_readBuyer_24 rfl rfl ft_11_4 sm_11_4 rfl hM241 dX12_readBuyer_97 ?_
                  refine y_iconst C dX12_readBuyer_100 ?_
                  refine j_dup2 C dX12_readBuyer_101 rfl rfl ?_
                  refine y_ialdH C 48 1181 rfl rfl rfl ak_48 an_48 rfl _ _ hM241 (hr_48_1_1 _ (by omega) (by omega)) dX12_readBuyer_102 (by omega) (fun a255 ea255 la255 ua255 => ?_)
                  obtain rfl : a255 = (M241.1 102 1).toInt := ea255
                  refine y_iconst C dX12_readBuyer_103 ?_
                  refine y_iadd C dX12_readBuyer_104 ?_
                  refine y_iastH C 48 1181 rfl rfl rfl ak_48 an_48 rfl _ _ hM241 (PM.w hpr rfl rfl) (hs_48_1_1 _ (by omega) (by omega)) dX12_readBuyer_105 (by omega) (by omega) (fun M256 eM256 hM256 => ?_)
                  have pM256 := pi_o eM256 (by decide) (by decide) (by omega)
                  have u257v := lv_w eM256 (h4b hM241) (by decide) (by omega)
                  have u257i := ri_c (M := M241) (N := M256) (wI_cell eM256 (by decide)) (by omega)
                  have u257q6 : (M256.1 98 6).toInt = (M241.1 98 6).toInt := by rw [show M256.1 98 = M241.1 98 from wI_cell eM256 (by decide)]
                  have u257q8 : (M256.1 98 8).toInt = (M241.1 98 8).toInt := by rw [show M256.1 98 = M241.1 98 from wI_cell eM256 (by decide)]
                  have u257q11 : (M256.1 98 11).toInt = (M241.1 98 11).toInt := by rw [show M256.1 98 = M241.1 98 from wI_cell eM256 (by decide)]
                  have zz98_6 : (M256.1 98 6).toInt = (M241.1 98 6).toInt := s_fa eM256 (by decide) (rfl); have zz98_8 : (M256.1 98 8).toInt = (M241.1 98 8).toInt := s_fa eM256 (by decide) (rfl); exact hret _ _ _ dX12_readBuyer_106 ⟨hM256, (((FR.rf.tr fM235 (by decide)).tr fM241 (by decide)).wI eM256 (by decide)), by omega⟩
              · refine j_goto C 71 dX12_readBuyer_86 (by decide) ?_
                have u246l := ri_l (M := M241) (by omega)
                exact ih233 M241 (by omega) hM241 ((FR.rf.tr fM235 (by decide)).tr fM241 (by decide))
        have zz98_8 : (M219.1 98 8).toInt = (M212.1 98 8).toInt := s_fa eM217 (by decide) (s_fa eM219 (by decide) (rfl)); have zz98_6 : (M219.1 98 6).toInt = (M212.1 98 6).toInt := s_fa eM217 (by decide) (s_fa eM219 (by decide) (rfl)); have zz102_1 : (M219.1 102 1).toInt = (M206.1 102 1).toInt := s_fF fM212 (by decide) (s_fb eM217 (by omega) (s_fb eM219 (by omega) (rfl))); exact L234 2010 M219 (by omega) hM219 ((((FR.rf.tr fM206 (by decide)).tr fM212 (by decide)).wI eM217 (by decide)).wI eM219 (by decide))
      refine y_if_ne C 44 dX12_readBuyer_36 (by decide) (by omega) (fun h199 => ?_) (fun h199 => ?_)
      · have zz102_1 : (M194.1 102 1).toInt = (M0.1 102 1).toInt := s_fF fM180 (by decide) (s_fF fM189 (by decide) (s_fF fM194 (by decide) (rfl))); refine j_lv [1, 0] rfl ?_; exact J207 M194 (by omega) hM194 (((FR.rf.tr fM180 (by decide)).tr fM189 (by decide)).tr fM194 (by decide))
      · refine j_aload_n C 1 0 dX12_readBuyer_39 rfl rfl ?_
        refine y_iconst C dX12_readBuyer_40 ?_
        refine j_callVv C (d := 0) (As := [.int (sI 2)]) (st := []) 98 (s_lt rfl rfl) (s_kc (c := 11) rfl rfl) (by decide) rfl (s1_X12_fails hM194 hpr 2 (by omega) (by omega) (by omega) (by omega)) gX12_readBuyer_X12_fails rfl hdX12_fails (by decide) (Nat.le_of_ble_eq_true rfl) dX12_readBuyer_41 rfl (fun M202 h203 => ?_)
        obtain ⟨hM202, fM202, h204⟩ := h203
        have u205v := lv_c (M := M194) (N := M202) (FR.cell fM202 (by decide)) (by omega) (by omega)
        have u205l := ri_l (M := M202) (by omega)
        have zz102_1 : (M202.1 102 1).toInt = (M0.1 102 1).toInt := s_fF fM180 (by decide) (s_fF fM189 (by decide) (s_fF fM194 (by decide) (s_fF fM202 (by decide) (rfl)))); refine j_lv [1, 0] rfl ?_; exact J207 M202 (by omega) hM202 ((((FR.rf.tr fM180 (by decide)).tr fM189 (by decide)).tr fM194 (by decide)).tr fM202 (by decide))
    · exact hret _ _ _ dX12_readBuyer_25 ⟨hM180, (FR.rf.tr fM180 (by decide)), by omega⟩
set_option maxHeartbeats 4000000 in
theorem s1_X12_readFlag {l : Launch} {dC : Nat → ClassId} {dI : Nat → Nat → Nat} {ad : Nat → Nat} {cA : Nat → ClassId} {pr : Nat → Nat → Bool} {Kz : mm_M} {M0 : mm_M} (hM0 : INV pr Kz M0) (hpr : PM pr) (a1 : Int) (ha1 : -2147483648 ≤ a1 ∧ a1 ≤ 2147483647) (hp0 : b01 (RIP M0) = 1) (hp1 : b01 (KV M0 a1) = 1) (hp2 : 0 ≤ a1 ∧ a1 ≤ 7) (hp3 : b01 (PI M0) = 1) : Ci l 7 yX12_readFlag wsX12_readFlag dC dI ad cA [.ref (ad 98), .int (sI a1)] M0 (fun r M' => ∃ a : Int, r = sI a ∧ INV pr Kz M' ∧ FR [98, 102] M0 M' ∧ 0 ≤ a ∧ a ≤ 1 ∧ (b01 (RIP M') = 1) ∧ ((M'.1 98 8).toInt = (M0.1 98 8).toInt) ∧ ((M0.1 98 6).toInt ≤ (M'.1 98 6).toInt) ∧ (b01 (KV M' a1) = 1) ∧ (a = 0 ∨ a = 1 ∧ (M'.1 98 11).toInt = 0 ∧ (M0.1 98 6).toInt + 1 ≤ (M'.1 98 6).toInt) ∧ (b01 (PI M') = 1)) := by
  refine ci_of (cc := cX12_readFlag) (maxL := 2) (ty := .boolean) (lv := [(0, .ref (ad 98)), (1, .int (sI a1))]) (by decide) rfl (fun r M' hp => by obtain ⟨a, rfl, -, h⟩ := hp; rcases (show a = 0 ∨ a = 1 by omega) with rfl | rfl <;> rfl) (Nat.le_of_ble_eq_true rfl) rfl ?_
  intro p e s m args below meth c A Q C hret
  have u101l := ri_l (M := M0) (by omega)
  refine j_aload_n C 0 0 dX12_readFlag_0 rfl rfl ?_
  refine y_iconst C dX12_readFlag_1 ?_
  refine j_callVi C (d := 6) (As := [.int (sI 3)]) (st := []) 98 (s_lt rfl rfl) (s_kc (c := 11) rfl rfl) (by decide) rfl (s1_X12_eats hM0 hpr 3 (by omega) (by omega) (by omega) (by omega)) gX12_readFlag_X12_eats rfl hdX12_eats (by decide) (Nat.le_of_ble_eq_true rfl) dX12_readFlag_2 rfl (fun r102 M103 h104 => ?_)
  obtain ⟨a106, rfl, hM103, fM103, h105⟩ := h104
  have u107v := kv_c (M := M0) (N := M103) (k := a1) (FR.cell fM103 (by decide)) (by omega) (by omega)
  have u107l := ri_l (M := M103) (by omega)
  refine y_if_eq C 27 dX12_readFlag_5 (by decide) (by omega) (fun h108 => ?_) (fun h108 => ?_)
  · refine j_aload_n C 0 0 dX12_readFlag_27 rfl rfl ?_
    refine y_iconst C dX12_readFlag_28 ?_
    refine j_callVi C (d := 6) (As := [.int (sI 4)]) (st := []) 98 (s_lt rfl rfl) (s_kc (c := 11) rfl rfl) (by decide) rfl (s1_X12_eats hM103 hpr 4 (by omega) (by omega) (by omega) (by omega)) gX12_readFlag_X12_eats rfl hdX12_eats (by decide) (Nat.le_of_ble_eq_true rfl) dX12_readFlag_29 rfl (fun r109 M110 h111 => ?_)
    obtain ⟨a113, rfl, hM110, fM110, h112⟩ := h111
    have u114v := kv_c (M := M103) (N := M110) (k := a1) (FR.cell fM110 (by decide)) (by omega) (by omega)
    have u114l := ri_l (M := M110) (by omega)
    refine y_if_eq C 51 dX12_readFlag_32 (by decide) (by omega) (fun h115 => ?_) (fun h115 => ?_)
    · refine j_aload_n C 0 0 dX12_readFlag_51 rfl rfl ?_
      refine y_iconst C dX12_readFlag_52 ?_
      refine j_callVi C (d := 6) (As := [.int (sI 5)]) (st := []) 98 (s_lt rfl rfl) (s_kc (c := 11) rfl rfl) (by decide) rfl (s1_X12_eats hM110 hpr 5 (by omega) (by omega) (by omega) (by omega)) gX12_readFlag_X12_eats rfl hdX12_eats (by decide) (Nat.le_of_ble_eq_true rfl) dX12_readFlag_53 rfl (fun r116 M117 h118 => ?_)
      obtain ⟨a120, rfl, hM117, fM117, h119⟩ := h118
      have u121v := kv_c (M := M110) (N := M117) (k := a1) (FR.cell fM117 (by decide)) (by omega) (by omega)
      have u121l := ri_l (M := M117) (by omega)
      refine y_if_eq C 75 dX12_readFlag_56 (by decide) (by omega) (fun h122 => ?_) (fun h122 => ?_)
      · refine y_iconst C dX12_readFlag_75 ?_
        exact hret _ _ _ _ dX12_readFlag_76 ⟨0, rfl, hM117, (((FR.rf.tr fM103 (by decide)).tr fM110 (by decide)).tr fM117 (by decide)), by omega⟩
      · refine j_aload_n C 0 0 dX12_readFlag_59 rfl rfl ?_
        refine y_getC C 11 102 fX12_readFlag_24 rfl rfl ft_11_4 sm_11_4 rfl hM117 dX12_readFlag_60 ?_
        refine y_bipush C dX12_readFlag_63 rfl ?_
        refine j_dup2 C dX12_readFlag_65 rfl rfl ?_
        refine y_ialdH C 48 1181 rfl rfl rfl ak_48 an_48 rfl _ _ hM117 (hr_48_28_28 _ (by omega) (by omega)) dX12_readFlag_66 (by omega) (fun a123 ea123 la123 ua123 => ?_)
        obtain rfl : a123 = (M0.1 102 28).toInt := s_fF fM103 (by decide) (s_fF fM110 (by decide) (s_fF fM117 (by decide) (ea123)))
        refine y_iconst C dX12_readFlag_67 ?_
        refine j_iload_n C 1 1 dX12_readFlag_68 rfl rfl ?_
        refine e_shl1 C 7 128 dX12_readFlag_69 rfl (by decide) (by omega) (fun lb124 ub124 => ?_)
        refine e_iorN C 8 255 dX12_readFlag_70 rfl (by decide) (by omega) (fun lb125 ub125 ob125 => ?_)
        refine y_iastH C 48 1181 rfl rfl rfl ak_48 an_48 rfl _ _ hM117 (PM.w hpr rfl rfl) (hs_48_28_28 _ (by omega) (by omega)) dX12_readFlag_71 (by omega) (by omega) (fun M126 eM126 hM126 => ?_)
        have pM126 := pi_o eM126 (by decide) (by decide) (by omega)
        have u127v := kv_w (k := a1) eM126 (h4b hM117) (by decide) (by omega)
        have u127i := ri_c (M := M117) (N := M126) (wI_cell eM126 (by decide)) (by omega)
        have u127q6 : (M126.1 98 6).toInt = (M117.1 98 6).toInt := by rw [show M126.1 98 = M117.1 98 from wI_cell eM126 (by decide)]
        have u127q8 : (M126.1 98 8).toInt = (M117.1 98 8).toInt := by rw [show M126.1 98 = M117.1 98 from wI_cell eM126 (by decide)]
        have u127q11 : (M126.1 98 11).toInt = (M117.1 98 11).toInt := by rw [show M126.1 98 = M117.1 98 from wI_cell eM126 (by decide)]
        refine j_goto C 77 dX12_readFlag_72 (by decide) ?_
        refine j_aload_n C 0 0 dX12_readFlag_77 rfl rfl ?_
        refine y_getI C 11 _ _ fX12_readFlag_126 rfl rfl ft_11_11 sb_11_11 hM126 dX12_readFlag_78 (fun a128 ea128 la128 ua128 => ?_)
        obtain rfl : a128 = (M117.1 98 11).toInt := s_fa eM126 (by decide) (ea128)
        refine y_if_ne C 88 dX12_readFlag_81 (by decide) (by omega) (fun h130 => ?_) (fun h130 => ?_)
        · refine y_iconst C dX12_readFlag_88 ?_
          have zz98_11 : (M126.1 98 11).toInt = (M117.1 98 11).toInt := s_fa eM126 (by decide) (rfl); have zz98_6 : (M126.1 98 6).toInt = (M117.1 98 6).toInt := s_fa eM126 (by decide) (rfl); have zz98_8 : (M126.1 98 8).toInt = (M117.1 98 8).toInt := s_fa eM126 (by decide) (rfl); exact hret _ _ _ _ dX12_readFlag_89 ⟨0, rfl, hM126, ((((FR.rf.tr fM103 (by decide)).tr fM110 (by decide)).tr fM117 (by decide)).wI eM126 (by decide)), by omega⟩
        · refine y_iconst C dX12_readFlag_84 ?_
          refine j_goto C 89 dX12_readFlag_85 (by decide) ?_
          have zz98_11 : (M126.1 98 11).toInt = (M117.1 98 11).toInt := s_fa eM126 (by decide) (rfl); have zz98_6 : (M126.1 98 6).toInt = (M117.1 98 6).toInt := s_fa eM126 (by decide) (rfl); have zz98_8 : (M126.1 98 8).toInt = (M117.1 98 8).toInt := s_fa eM126 (by decide) (rfl); exact hret _ _ _ _ dX12_readFlag_89 ⟨1, rfl, hM126, ((((FR.rf.tr fM103 (by decide)).tr fM110 (by decide)).tr fM117 (by decide)).wI eM126 (by decide)), by omega⟩
    · refine j_aload_n C 0 0 dX12_readFlag_35 rfl rfl ?_
      refine y_getC C 11 102 fX12_readFlag_24 rfl rfl ft_11_4 sm_11_4 rfl hM110 dX12_readFlag_36 ?_
      refine y_bipush C dX12_readFlag_39 rfl ?_
      refine j_dup2 C dX12_readFlag_41 rfl rfl ?_
      refine y_ialdH C 48 1181 rfl rfl rfl ak_48 an_48 rfl _ _ hM110 (hr_48_27_27 _ (by omega) (by omega)) dX12_readFlag_42 (by omega) (fun a131 ea131 la131 ua131 => ?_)
      obtain rfl : a131 = (M0.1 102 27).toInt := s_fF fM103 (by decide) (s_fF fM110 (by decide) (ea131))
      refine y_iconst C dX12_readFlag_43 ?_
      refine j_iload_n C 1 1 dX12_readFlag_44 rfl rfl ?_
      refine e_shl1 C 7 128 dX12_readFlag_45 rfl (by decide) (by omega) (fun lb132 ub132 => ?_)
      refine e_iorN C 8 255 dX12_readFlag_46 rfl (by decide) (by omega) (fun lb133 ub133 ob133 => ?_)
      have u134e : (M0.1 102 27).toInt = (M110.1 102 27).toInt := by rw [(show M110.1 102 = M0.1 102 from ((FR.cell fM110 (by decide)).trans (FR.cell fM103 (by decide))))]
      refine y_iastH C 48 1181 rfl rfl rfl ak_48 an_48 rfl _ _ hM110 (PM.w hpr rfl rfl) (hs_48_27_27 _ (by omega) (by omega)) dX12_readFlag_47 (by omega) (by omega) (fun M135 eM135 hM135 => ?_)
      have pM135 := pi_o eM135 (by decide) (by decide) (by omega)
      have u136v := kv_s (k := a1) eM135 (by omega) (h4b hM110) (by omega) (by omega)
      have u136i := ri_c (M := M110) (N := M135) (wI_cell eM135 (by decide)) (by omega)
      have u136q6 : (M135.1 98 6).toInt = (M110.1 98 6).toInt := by rw [show M135.1 98 = M110.1 98 from wI_cell eM135 (by decide)]
      have u136q8 : (M135.1 98 8).toInt = (M110.1 98 8).toInt := by rw [show M135.1 98 = M110.1 98 from wI_cell eM135 (by decide)]
      have u136q11 : (M135.1 98 11).toInt = (M110.1 98 11).toInt := by rw [show M135.1 98 = M110.1 98 from wI_cell eM135 (by decide)]
      refine j_goto C 77 dX12_readFlag_48 (by decide) ?_
      refine j_aload_n C 0 0 dX12_readFlag_77 rfl rfl ?_
      refine y_getI C 11 _ _ fX12_readFlag_126 rfl rfl ft_11_11 sb_11_11 hM135 dX12_readFlag_78 (fun a137 ea137 la137 ua137 => ?_)
      obtain rfl : a137 = (M110.1 98 11).toInt := s_fa eM135 (by decide) (ea137)
      refine y_if_ne C 88 dX12_readFlag_81 (by decide) (by omega) (fun h139 => ?_) (fun h139 => ?_)
      · refine y_iconst C dX12_readFlag_88 ?_
        have zz98_11 : (M135.1 98 11).toInt = (M110.1 98 11).toInt := s_fa eM135 (by decide) (rfl); have zz98_6 : (M135.1 98 6).toInt = (M110.1 98 6).toInt := s_fa eM135 (by decide) (rfl); have zz98_8 : (M135.1 98 8).toInt = (M110.1 98 8).toInt := s_fa eM135 (by decide) (rfl); exact hret _ _ _ _ dX12_readFlag_89 ⟨0, rfl, hM135, (((FR.rf.tr fM103 (by decide)).tr fM110 (by decide)).wI eM135 (by decide)), by omega⟩
      · refine y_iconst C dX12_readFlag_84 ?_
        refine j_goto C 89 dX12_readFlag_85 (by decide) ?_
        have zz98_11 : (M135.1 98 11).toInt = (M110.1 98 11).toInt := s_fa eM135 (by decide) (rfl); have zz98_6 : (M135.1 98 6).toInt = (M110.1 98 6).toInt := s_fa eM135 (by decide) (rfl); have zz98_8 : (M135.1 98 8).toInt = (M110.1 98 8).toInt := s_fa eM135 (by decide) (rfl); exact hret _ _ _ _ dX12_readFlag_89 ⟨1, rfl, hM135, (((FR.rf.tr fM103 (by decide)).tr fM110 (by decide)).wI eM135 (by decide)), by omega⟩
  · refine j_aload_n C 0 0 dX12_readFlag_8 rfl rfl ?_
    refine y_getC C 11 102 fX12_readFlag_24 rfl rfl ft_11_4 sm_11_4 rfl hM103 dX12_readFlag_9 ?_
    refine y_bipush C dX12_readFlag_12 rfl ?_
    refine j_iload_n C 1 1 dX12_readFlag_14 rfl rfl ?_
    refine y_iadd C dX12_readFlag_15 ?_
    refine j_aload_n C 0 0 dX12_readFlag_16 rfl rfl ?_
    refine y_iconst C dX12_readFlag_17 ?_
    refine y_bipush C dX12_readFlag_18 rfl ?_
    refine j_callVi C (d := 6) (As := [.int (sI 0), .int (sI 9)]) (st := [.int (sI (41 + a1)), .ref (ad 102)]) 98 (s_lt rfl rfl) (s_kc (c := 11) rfl rfl) (by decide) rfl (s1_X12_takes hM103 hpr 0 (by omega) 9 (by omega) (by omega) (by omega) (by omega) (by omega)) gX12_readFlag_X12_takes rfl hdX12_takes (by decide) (Nat.le_of_ble_eq_true rfl) dX12_readFlag_20 rfl (fun r140 M141 h142 => ?_)
    obtain ⟨a144, rfl, hM141, fM141, h143⟩ := h142
    have u145v := kv_c (M := M103) (N := M141) (k := a1) (FR.cell fM141 (by decide)) (by omega) (by omega)
    have u145l := ri_l (M := M141) (by omega)
    refine y_iastH C 48 1181 rfl rfl rfl ak_48 an_48 rfl _ _ hM141 (PM.w hpr rfl rfl) (hs_48_41_48 _ (by omega) (by omega)) dX12_readFlag_23 (by omega) (by omega) (fun M146 eM146 hM146 => ?_)
    have pM146 := pi_o eM146 (by decide) (by decide) (by omega)
    have u147v := kv_w (k := a1) eM146 (h4b hM141) (by omega) (by omega)
    have u147i := ri_c (M := M141) (N := M146) (wI_cell eM146 (by decide)) (by omega)
    have u147q6 : (M146.1 98 6).toInt = (M141.1 98 6).toInt := by rw [show M146.1 98 = M141.1 98 from wI_cell eM146 (by decide)]
    have u147q8 : (M146.1 98 8).toInt = (M141.1 98 8).toInt := by rw [show M146.1 98 = M141.1 98 from wI_cell eM146 (by decide)]
    have u147q11 : (M146.1 98 11).toInt = (M141.1 98 11).toInt := by rw [show M146.1 98 = M141.1 98 from wI_cell eM146 (by decide)]
    refine j_goto C 77 dX12_readFlag_24 (by decide) ?_
    refine j_aload_n C 0 0 dX12_readFlag_77 rfl rfl ?_
    refine y_getI C 11 _ _ fX12_readFlag_126 rfl rfl ft_11_11 sb_11_11 hM146 dX12_readFlag_78 (fun a148 ea148 la148 ua148 => ?_)
    obtain rfl : a148 = (M141.1 98 11).toInt := s_fa eM146 (by decide) (ea148)
    refine y_if_ne C 88 dX12_readFlag_81 (by decide) (by omega) (fun h150 => ?_) (fun h150 => ?_)
    · refine y_iconst C dX12_readFlag_88 ?_
      have zz98_11 : (M146.1 98 11).toInt = (M141.1 98 11).toInt := s_fa eM146 (by decide) (rfl); have zz98_6 : (M146.1 98 6).toInt = (M141.1 98 6).toInt := s_fa eM146 (by decide) (rfl); have zz98_8 : (M146.1 98 8).toInt = (M141.1 98 8).toInt := s_fa eM146 (by decide) (rfl); exact hret _ _ _ _ dX12_readFlag_89 ⟨0, rfl, hM146, (((FR.rf.tr fM103 (by decide)).tr fM141 (by decide)).wI eM146 (by decide)), by omega⟩
    · refine y_iconst C dX12_readFlag_84 ?_
      refine j_goto C 89 dX12_readFlag_85 (by decide) ?_
      have zz98_11 : (M146.1 98 11).toInt = (M141.1 98 11).toInt := s_fa eM146 (by decide) (rfl); have zz98_6 : (M146.1 98 6).toInt = (M141.1 98 6).toInt := s_fa eM146 (by decide) (rfl); have zz98_8 : (M146.1 98 8).toInt = (M141.1 98 8).toInt := s_fa eM146 (by decide) (rfl); exact hret _ _ _ _ dX12_readFlag_89 ⟨1, rfl, hM146, (((FR.rf.tr fM103 (by decide)).tr fM141 (by decide)).wI eM146 (by decide)), by omega⟩
set_option maxHeartbeats 4000000 in
theorem s1_X12_readKind {l : Launch} {dC : Nat → ClassId} {dI : Nat → Nat → Nat} {ad : Nat → Nat} {cA : Nat → ClassId} {pr : Nat → Nat → Bool} {Kz : mm_M} {M0 : mm_M} (hM0 : INV pr Kz M0) (hpr : PM pr)  (hp0 : b01 (RIP M0) = 1) (hp1 : b01 (LV M0) = 1) (hp2 : b01 (PI M0) = 1) : Cv l 8 yX12_readKind wsX12_readKind dC dI ad cA [.ref (ad 98)] M0 (fun M' => INV pr Kz M' ∧ FR [98, 102] M0 M' ∧ (b01 (RIP M') = 1) ∧ ((M'.1 98 8).toInt = (M0.1 98 8).toInt) ∧ ((M0.1 98 6).toInt ≤ (M'.1 98 6).toInt) ∧ (b01 (LV M') = 1) ∧ (b01 (PI M') = 1)) := by
  refine cv_of (cc := cX12_readKind) (maxL := 2) (lv := [(0, .ref (ad 98))]) (by decide) rfl (Nat.le_of_ble_eq_true rfl) rfl ?_
  intro p e s m args below meth c A Q C hret
  have u101l := ri_l (M := M0) (by omega)
  refine j_aload_n C 0 0 dX12_readKind_0 rfl rfl ?_
  refine y_getC C 11 102 fX12_readKind_24 rfl rfl ft_11_4 sm_11_4 rfl hM0 dX12_readKind_1 ?_
  refine y_bipush C dX12_readKind_4 rfl ?_
  refine y_ialdH C 48 1181 rfl rfl rfl ak_48 an_48 rfl _ _ hM0 (hr_48_26_26 _ (by omega) (by omega)) dX12_readKind_6 (by omega) (fun a102 ea102 la102 ua102 => ?_)
  obtain rfl : a102 = (M0.1 102 26).toInt := ea102
  refine j_istore_n C 1 [(1, .int (sI (M0.1 102 26).toInt)), (0, .ref (ad 98))] dX12_readKind_7 rfl (by decide) rfl ?_
  have u103k := kv_0 (M := M0) (k := (M0.1 102 26).toInt) rfl (by omega)
  refine j_iload_n C 0 1 dX12_readKind_8 rfl rfl ?_
  refine y_bipush C dX12_readKind_9 rfl ?_
  refine y_icmp_ne C 19 dX12_readKind_11 (by decide) (by omega) (fun h104 => ?_) (fun h104 => ?_)
  · refine j_aload_n C 1 0 dX12_readKind_19 rfl rfl ?_
    refine y_getI C 11 _ _ fX12_readKind_126 rfl rfl ft_11_11 sb_11_11 hM0 dX12_readKind_20 (fun a106 ea106 la106 ua106 => ?_)
    obtain rfl : a106 = (M0.1 98 11).toInt := ea106
    refine y_if_eq C 27 dX12_readKind_23 (by decide) (by omega) (fun h108 => ?_) (fun h108 => ?_)
    · have u109 : 0 ≤ (M0.1 102 26).toInt ∧ (M0.1 102 26).toInt ≤ 7 := by omega
      refine j_aload_n C 1 0 dX12_readKind_27 rfl rfl ?_
      refine j_callVv C (d := 5) (As := []) (st := []) 98 (s_lt rfl rfl) (s_kc (c := 11) rfl rfl) (by decide) rfl (s1_X12_next hM0 hpr (by omega) (by omega) (by omega)) gX12_readKind_X12_next rfl hdX12_next (by decide) (Nat.le_of_ble_eq_true rfl) dX12_readKind_28 rfl (fun M111 h112 => ?_)
      obtain ⟨hM111, fM111, h113⟩ := h112
      have u114v := kv_c (M := M0) (N := M111) (k := (M0.1 102 26).toInt) (FR.cell fM111 (by decide)) (by omega) (by omega)
      have u114l := ri_l (M := M111) (by omega)
      refine j_aload_n C 1 0 dX12_readKind_31 rfl rfl ?_
      refine y_iconst C dX12_readKind_32 ?_
      refine j_callVi C (d := 6) (As := [.int (sI 2)]) (st := []) 98 (s_lt rfl rfl) (s_kc (c := 11) rfl rfl) (by decide) rfl (s1_X12_eats hM111 hpr 2 (by omega) (by omega) (by omega) (by omega)) gX12_readKind_X12_eats rfl hdX12_eats (by decide) (Nat.le_of_ble_eq_true rfl) dX12_readKind_33 rfl (fun r115 M116 h117 => ?_)
      obtain ⟨a119, rfl, hM116, fM116, h118⟩ := h117
      have u120v := kv_c (M := M111) (N := M116) (k := (M0.1 102 26).toInt) (FR.cell fM116 (by decide)) (by omega) (by omega)
      have u120l := ri_l (M := M116) (by omega)
      have J129 : ∀ (M128 : mm_M), ((b01 (RIP M128) = 1) ∧ ((M128.1 98 8).toInt = (M0.1 98 8).toInt) ∧ ((M0.1 98 6).toInt ≤ (M128.1 98 6).toInt) ∧ (b01 (KV M128 (M0.1 102 26).toInt) = 1) ∧ (b01 (PI M128) = 1)) → INV pr Kz M128 → FR [98, 102] M0 M128 → jj p l e (cn_R 8) s m args below meth c 0 0 Q 2 dC dI ad cA A M128 44 [(0, .ref (ad 98)), (1, .int (sI (M0.1 102 26).toInt))] [] := by
        intro M128 h130 hM128 fM128
        have u132l := ri_l (M := M128) (by omega)
        refine j_aload_n C 0 0 dX12_readKind_44 rfl rfl ?_
        refine y_getC C 11 102 fX12_readKind_24 rfl rfl ft_11_4 sm_11_4 rfl hM128 dX12_readKind_45 ?_
        refine y_bipush C dX12_readKind_48 rfl ?_
        refine j_iload_n C 1 1 dX12_readKind_50 rfl rfl ?_
        refine y_iadd C dX12_readKind_51 ?_
        refine j_aload_n C 0 0 dX12_readKind_52 rfl rfl ?_
        refine y_iconst C dX12_readKind_53 ?_
        refine y_bipush C dX12_readKind_54 rfl ?_
        refine j_callVi C (d := 6) (As := [.int (sI 1), .int (sI 99)]) (st := [.int (sI (33 + (M0.1 102 26).toInt)), .ref (ad 102)]) 98 (s_lt rfl rfl) (s_kc (c := 11) rfl rfl) (by decide) rfl (s1_X12_takes hM128 hpr 1 (by omega) 99 (by omega) (by omega) (by omega) (by omega) (by omega)) gX12_readKind_X12_takes rfl hdX12_takes (by decide) (Nat.le_of_ble_eq_true rfl) dX12_readKind_56 rfl (fun r133 M134 h135 => ?_)
        obtain ⟨a137, rfl, hM134, fM134, h136⟩ := h135
        have u138v := kv_c (M := M128) (N := M134) (k := (M0.1 102 26).toInt) (FR.cell fM134 (by decide)) (by omega) (by omega)
        have u138l := ri_l (M := M134) (by omega)
        refine y_iastH C 48 1181 rfl rfl rfl ak_48 an_48 rfl _ _ hM134 (PM.w hpr rfl rfl) (hs_48_33_40 _ (by omega) (by omega)) dX12_readKind_59 (by omega) (by omega) (fun M139 eM139 hM139 => ?_)
        have pM139 := pi_o eM139 (by decide) (by decide) (by omega)
        have u140v := kv_w (k := (M0.1 102 26).toInt) eM139 (h4b hM134) (by omega) (by omega)
        have u140i := ri_c (M := M134) (N := M139) (wI_cell eM139 (by decide)) (by omega)
        have u140q6 : (M139.1 98 6).toInt = (M134.1 98 6).toInt := by rw [show M139.1 98 = M134.1 98 from wI_cell eM139 (by decide)]
        have u140q8 : (M139.1 98 8).toInt = (M134.1 98 8).toInt := by rw [show M139.1 98 = M134.1 98 from wI_cell eM139 (by decide)]
        have u140q11 : (M139.1 98 11).toInt = (M134.1 98 11).toInt := by rw [show M139.1 98 = M134.1 98 from wI_cell eM139 (by decide)]
        have u140l := ri_l (M := M139) (by omega)
        have L154 : ∀ (n152 : Nat), ∀ (M155 : mm_M), ((b01 (RIP M155) = 1) ∧ ((M155.1 98 8).toInt = (M0.1 98 8).toInt) ∧ ((M0.1 98 6).toInt ≤ (M155.1 98 6).toInt) ∧ (b01 (KV M155 (M0.1 102 26).toInt) = 1) ∧ ((M155.1 98 6).toInt ≤ 900) ∧ (b01 (PI M155) = 1) ∧ (900 - (M155.1 98 6).toInt) < (n152 : Int)) → INV pr Kz M155 → FR [98, 102] M0 M155 → jj p l e (cn_R 8) s m args below meth c 0 0 Q 2 dC dI ad cA A M155 60 [(0, .ref (ad 98)), (1, .int (sI (M0.1 102 26).toInt))] [] := by
          intro n152
          induction n152 with
          | zero =>
            intro M155 h156 hM155 fM155
            exfalso; omega
          | succ n152 ih153 =>
            intro M155 h156 hM155 fM155
            refine j_aload_n C 0 0 dX12_readKind_60 rfl rfl ?_
            refine y_getI C 11 _ _ fX12_readKind_126 rfl rfl ft_11_11 sb_11_11 hM155 dX12_readKind_61 (fun a157 ea157 la157 ua157 => ?_)
            obtain rfl : a157 = (M155.1 98 11).toInt := ea157
            refine y_if_ne C 78 dX12_readKind_64 (by decide) (by omega) (fun h159 => ?_) (fun h159 => ?_)
            · refine j_aload_n C 0 0 dX12_readKind_78 rfl rfl ?_
              refine y_getI C 11 _ _ fX12_readKind_126 rfl rfl ft_11_11 sb_11_11 hM155 dX12_readKind_79 (fun a167 ea167 la167 ua167 => ?_)
              obtain rfl : a167 = (M155.1 98 11).toInt := ea167
              refine y_if_ne C 96 dX12_readKind_82 (by decide) (by omega) (fun h169 => ?_) (fun h169 => ?_)
              · have u170w := lv_w0 (M := M155) (by omega)
                exact hret _ _ _ dX12_readKind_96 ⟨hM155, (FR.rf.tr fM155 (by decide)), by omega⟩
              · exfalso; omega
            · refine j_aload_n C 0 0 dX12_readKind_67 rfl rfl ?_
              refine j_iload_n C 1 1 dX12_readKind_68 rfl rfl ?_
              refine j_callVi C (d := 7) (As := [.int (sI (M0.1 102 26).toInt)]) (st := []) 98 (s_lt rfl rfl) (s_kc (c := 11) rfl rfl) (by decide) rfl (s1_X12_readFlag hM155 hpr (M0.1 102 26).toInt (by omega) (by omega) (by omega) (by omega) (by omega)) gX12_readKind_X12_readFlag rfl hdX12_readFlag (by decide) (Nat.le_of_ble_eq_true rfl) dX12_readKind_69 rfl (fun r160 M161 h162 => ?_)
              obtain ⟨a164, rfl, hM161, fM161, h163⟩ := h162
              refine y_if_eq C 78 dX12_readKind_72 (by decide) (by omega) (fun h165 => ?_) (fun h165 => ?_)
              · refine j_aload_n C 0 0 dX12_readKind_78 rfl rfl ?_
                refine y_getI C 11 _ _ fX12_readKind_126 rfl rfl ft_11_11 sb_11_11 hM161 dX12_readKind_79 (fun a171 ea171 la171 ua171 => ?_)
                obtain rfl : a171 = (M161.1 98 11).toInt := ea171
                refine y_if_ne C 96 dX12_readKind_82 (by decide) (by omega) (fun h173 => ?_) (fun h173 => ?_)
                · have u174w := lv_w0 (M := M161) (by omega)
                  exact hret _ _ _ dX12_readKind_96 ⟨hM161, ((FR.rf.tr fM155 (by decide)).tr fM161 (by decide)), by omega⟩
                · have u175k := kv_k (M := M161) (k := (M0.1 102 26).toInt) (by omega) (by omega)
                  refine j_aload_n C 0 0 dX12_readKind_85 rfl rfl ?_
                  refine y_getC C 11 102 fX12_readKind_24 rfl rfl ft_11_4 sm_11_4 rfl hM161 dX12_readKind_86 ?_
                  refine y_bipush C dX12_readKind_89 rfl ?_
                  refine j_dup2 C dX12_readKind_91 rfl rfl ?_
                  refine y_ialdH C 48 1181 rfl rfl rfl ak_48 an_48 rfl _ _ hM161 (hr_48_26_26 _ (by omega) (by omega)) dX12_readKind_92 (by omega) (fun a176 ea176 la176 ua176 => ?_)
                  obtain rfl : a176 = (M161.1 102 26).toInt := ea176
                  refine y_iconst C dX12_readKind_93 ?_
                  refine y_iadd C dX12_readKind_94 ?_
                  refine y_iastH C 48 1181 rfl rfl rfl ak_48 an_48 rfl _ _ hM161 (PM.w hpr rfl rfl) (hs_48_26_26 _ (by omega) (by omega)) dX12_readKind_95 (by omega) (by omega) (fun M177 eM177 hM177 => ?_)
                  have pM177 := pi_o eM177 (by decide) (by decide) (by omega)
                  have u178v : b01 (LV M177) = 1 := kv_e (k := (M0.1 102 26).toInt) eM177 (by omega) (h4b hM161) (by omega) (by omega)
                  have u178i := ri_c (M := M161) (N := M177) (wI_cell eM177 (by decide)) (by omega)
                  have u178q6 : (M177.1 98 6).toInt = (M161.1 98 6).toInt := by rw [show M177.1 98 = M161.1 98 from wI_cell eM177 (by decide)]
                  have u178q8 : (M177.1 98 8).toInt = (M161.1 98 8).toInt := by rw [show M177.1 98 = M161.1 98 from wI_cell eM177 (by decide)]
                  have u178q11 : (M177.1 98 11).toInt = (M161.1 98 11).toInt := by rw [show M177.1 98 = M161.1 98 from wI_cell eM177 (by decide)]
                  have zz98_6 : (M177.1 98 6).toInt = (M161.1 98 6).toInt := s_fa eM177 (by decide) (rfl); have zz98_8 : (M177.1 98 8).toInt = (M161.1 98 8).toInt := s_fa eM177 (by decide) (rfl); exact hret _ _ _ dX12_readKind_96 ⟨hM177, (((FR.rf.tr fM155 (by decide)).tr fM161 (by decide)).wI eM177 (by decide)), by omega⟩
              · refine j_goto C 60 dX12_readKind_75 (by decide) ?_
                have u166l := ri_l (M := M161) (by omega)
                exact ih153 M161 (by omega) hM161 ((FR.rf.tr fM155 (by decide)).tr fM161 (by decide))
        have zz98_8 : (M139.1 98 8).toInt = (M134.1 98 8).toInt := s_fa eM139 (by decide) (rfl); have zz98_6 : (M139.1 98 6).toInt = (M134.1 98 6).toInt := s_fa eM139 (by decide) (rfl); exact L154 2010 M139 (by omega) hM139 (((FR.rf.tr fM128 (by decide)).tr fM134 (by decide)).wI eM139 (by decide))
      refine y_if_ne C 44 dX12_readKind_36 (by decide) (by omega) (fun h121 => ?_) (fun h121 => ?_)
      · refine j_lv [1, 0] rfl ?_; exact J129 M116 (by omega) hM116 ((FR.rf.tr fM111 (by decide)).tr fM116 (by decide))
      · refine j_aload_n C 1 0 dX12_readKind_39 rfl rfl ?_
        refine y_iconst C dX12_readKind_40 ?_
        refine j_callVv C (d := 0) (As := [.int (sI 2)]) (st := []) 98 (s_lt rfl rfl) (s_kc (c := 11) rfl rfl) (by decide) rfl (s1_X12_fails hM116 hpr 2 (by omega) (by omega) (by omega) (by omega)) gX12_readKind_X12_fails rfl hdX12_fails (by decide) (Nat.le_of_ble_eq_true rfl) dX12_readKind_41 rfl (fun M124 h125 => ?_)
        obtain ⟨hM124, fM124, h126⟩ := h125
        have u127v := kv_c (M := M116) (N := M124) (k := (M0.1 102 26).toInt) (FR.cell fM124 (by decide)) (by omega) (by omega)
        have u127l := ri_l (M := M124) (by omega)
        refine j_lv [1, 0] rfl ?_; exact J129 M124 (by omega) hM124 (((FR.rf.tr fM111 (by decide)).tr fM116 (by decide)).tr fM124 (by decide))
    · exact hret _ _ _ dX12_readKind_26 ⟨hM0, FR.rf, by omega⟩
  · refine j_aload_n C 1 0 dX12_readKind_14 rfl rfl ?_
    refine y_iconst C dX12_readKind_15 ?_
    refine j_callVv C (d := 0) (As := [.int (sI 4)]) (st := []) 98 (s_lt rfl rfl) (s_kc (c := 11) rfl rfl) (by decide) rfl (s1_X12_fails hM0 hpr 4 (by omega) (by omega) (by omega) (by omega)) gX12_readKind_X12_fails rfl hdX12_fails (by decide) (Nat.le_of_ble_eq_true rfl) dX12_readKind_16 rfl (fun M180 h181 => ?_)
    obtain ⟨hM180, fM180, h182⟩ := h181
    have u183v := kv_c (M := M0) (N := M180) (k := (M0.1 102 26).toInt) (FR.cell fM180 (by decide)) (by omega) (by omega)
    have u183w := lv_w0 (M := M180) (by omega)
    have u183l := ri_l (M := M180) (by omega)
    refine j_aload_n C 1 0 dX12_readKind_19 rfl rfl ?_
    refine y_getI C 11 _ _ fX12_readKind_126 rfl rfl ft_11_11 sb_11_11 hM180 dX12_readKind_20 (fun a184 ea184 la184 ua184 => ?_)
    obtain rfl : a184 = (M180.1 98 11).toInt := ea184
    refine y_if_eq C 27 dX12_readKind_23 (by decide) (by omega) (fun h186 => ?_) (fun h186 => ?_)
    · have u187 : 0 ≤ (M0.1 102 26).toInt ∧ (M0.1 102 26).toInt ≤ 7 := by omega
      refine j_aload_n C 1 0 dX12_readKind_27 rfl rfl ?_
      refine j_callVv C (d := 5) (As := []) (st := []) 98 (s_lt rfl rfl) (s_kc (c := 11) rfl rfl) (by decide) rfl (s1_X12_next hM180 hpr (by omega) (by omega) (by omega)) gX12_readKind_X12_next rfl hdX12_next (by decide) (Nat.le_of_ble_eq_true rfl) dX12_readKind_28 rfl (fun M189 h190 => ?_)
      obtain ⟨hM189, fM189, h191⟩ := h190
      have u192v := kv_c (M := M180) (N := M189) (k := (M0.1 102 26).toInt) (FR.cell fM189 (by decide)) (by omega) (by omega)
      have u192l := ri_l (M := M189) (by omega)
      refine j_aload_n C 1 0 dX12_readKind_31 rfl rfl ?_
      refine y_iconst C dX12_readKind_32 ?_
      refine j_callVi C (d := 6) (As := [.int (sI 2)]) (st := []) 98 (s_lt rfl rfl) (s_kc (c := 11) rfl rfl) (by decide) rfl (s1_X12_eats hM189 hpr 2 (by omega) (by omega) (by omega) (by omega)) gX12_readKind_X12_eats rfl hdX12_eats (by decide) (Nat.le_of_ble_eq_true rfl) dX12_readKind_33 rfl (fun r193 M194 h195 => ?_)
      obtain ⟨a197, rfl, hM194, fM194, h196⟩ := h195
      have u198v := kv_c (M := M189) (N := M194) (k := (M0.1 102 26).toInt) (FR.cell fM194 (by decide)) (by omega) (by omega)
      have u198l := ri_l (M := M194) (by omega)
      have J207 : ∀ (M206 : mm_M), ((b01 (RIP M206) = 1) ∧ ((M206.1 98 8).toInt = (M0.1 98 8).toInt) ∧ ((M0.1 98 6).toInt ≤ (M206.1 98 6).toInt) ∧ (b01 (KV M206 (M0.1 102 26).toInt) = 1) ∧ (b01 (PI M206) = 1)) → INV pr Kz M206 → FR [98, 102] M0 M206 → jj p l e (cn_R 8) s m args below meth c 0 0 Q 2 dC dI ad cA A M206 44 [(0, .ref (ad 98)), (1, .int (sI (M0.1 102 26).toInt))] [] := by
        intro M206 h208 hM206 fM206
        have u210l := ri_l (M := M206) (by omega)
        refine j_aload_n C 0 0 dX12_readKind_44 rfl rfl ?_
        refine y_getC C 11 102 fX12_readKind_24 rfl rfl ft_11_4 sm_11_4 rfl hM206 dX12_readKind_45 ?_
        refine y_bipush C dX12_readKind_48 rfl ?_
        refine j_iload_n C 1 1 dX12_readKind_50 rfl rfl ?_
        refine y_iadd C dX12_readKind_51 ?_
        refine j_aload_n C 0 0 dX12_readKind_52 rfl rfl ?_
        refine y_iconst C dX12_readKind_53 ?_
        refine y_bipush C dX12_readKind_54 rfl ?_
        refine j_callVi C (d := 6) (As := [.int (sI 1), .int (sI 99)]) (st := [.int (sI (33 + (M0.1 102 26).toInt)), .ref (ad 102)]) 98 (s_lt rfl rfl) (s_kc (c := 11) rfl rfl) (by decide) rfl (s1_X12_takes hM206 hpr 1 (by omega) 99 (by omega) (by omega) (by omega) (by omega) (by omega)) gX12_readKind_X12_takes rfl hdX12_takes (by decide) (Nat.le_of_ble_eq_true rfl) dX12_readKind_56 rfl (fun r211 M212 h213 => ?_)
        obtain ⟨a215, rfl, hM212, fM212, h214⟩ := h213
        have u216v := kv_c (M := M206) (N := M212) (k := (M0.1 102 26).toInt) (FR.cell fM212 (by decide)) (by omega) (by omega)
        have u216l := ri_l (M := M212) (by omega)
        refine y_iastH C 48 1181 rfl rfl rfl ak_48 an_48 rfl _ _ hM212 (PM.w hpr rfl rfl) (hs_48_33_40 _ (by omega) (by omega)) dX12_readKind_59 (by omega) (by omega) (fun M217 eM217 hM217 => ?_)
        have pM217 := pi_o eM217 (by decide) (by decide) (by omega)
        have u218v := kv_w (k := (M0.1 102 26).toInt) eM217 (h4b hM212) (by omega) (by omega)
        have u218i := ri_c (M := M212) (N := M217) (wI_cell eM217 (by decide)) (by omega)
        have u218q6 : (M217.1 98 6).toInt = (M212.1 98 6).toInt := by rw [show M217.1 98 = M212.1 98 from wI_cell eM217 (by decide)]
        have u218q8 : (M217.1 98 8).toInt = (M212.1 98 8).toInt := by rw [show M217.1 98 = M212.1 98 from wI_cell eM217 (by decide)]
        have u218q11 : (M217.1 98 11).toInt = (M212.1 98 11).toInt := by rw [show M217.1 98 = M212.1 98 from wI_cell eM217 (by decide)]
        have u218l := ri_l (M := M217) (by omega)
        have L232 : ∀ (n230 : Nat), ∀ (M233 : mm_M), ((b01 (RIP M233) = 1) ∧ ((M233.1 98 8).toInt = (M0.1 98 8).toInt) ∧ ((M0.1 98 6).toInt ≤ (M233.1 98 6).toInt) ∧ (b01 (KV M233 (M0.1 102 26).toInt) = 1) ∧ ((M233.1 98 6).toInt ≤ 900) ∧ (b01 (PI M233) = 1) ∧ (900 - (M233.1 98 6).toInt) < (n230 : Int)) → INV pr Kz M233 → FR [98, 102] M0 M233 → jj p l e (cn_R 8) s m args below meth c 0 0 Q 2 dC dI ad cA A M233 60 [(0, .ref (ad 98)), (1, .int (sI (M0.1 102 26).toInt))] [] := by
          intro n230
          induction n230 with
          | zero =>
            intro M233 h234 hM233 fM233
            exfalso; omega
          | succ n230 ih231 =>
            intro M233 h234 hM233 fM233
            refine j_aload_n C 0 0 dX12_readKind_60 rfl rfl ?_
            refine y_getI C 11 _ _ fX12_readKind_126 rfl rfl ft_11_11 sb_11_11 hM233 dX12_readKind_61 (fun a235 ea235 la235 ua235 => ?_)
            obtain rfl : a235 = (M233.1 98 11).toInt := ea235
            refine y_if_ne C 78 dX12_readKind_64 (by decide) (by omega) (fun h237 => ?_) (fun h237 => ?_)
            · refine j_aload_n C 0 0 dX12_readKind_78 rfl rfl ?_
              refine y_getI C 11 _ _ fX12_readKind_126 rfl rfl ft_11_11 sb_11_11 hM233 dX12_readKind_79 (fun a245 ea245 la245 ua245 => ?_)
              obtain rfl : a245 = (M233.1 98 11).toInt := ea245
              refine y_if_ne C 96 dX12_readKind_82 (by decide) (by omega) (fun h247 => ?_) (fun h247 => ?_)
              · have u248w := lv_w0 (M := M233) (by omega)
                exact hret _ _ _ dX12_readKind_96 ⟨hM233, (FR.rf.tr fM233 (by decide)), by omega⟩
              · exfalso; omega
            · refine j_aload_n C 0 0 dX12_readKind_67 rfl rfl ?_
              refine j_iload_n C 1 1 dX12_readKind_68 rfl rfl ?_
              refine j_callVi C (d := 7) (As := [.int (sI (M0.1 102 26).toInt)]) (st := []) 98 (s_lt rfl rfl) (s_kc (c := 11) rfl rfl) (by decide) rfl (s1_X12_readFlag hM233 hpr (M0.1 102 26).toInt (by omega) (by omega) (by omega) (by omega) (by omega)) gX12_readKind_X12_readFlag rfl hdX12_readFlag (by decide) (Nat.le_of_ble_eq_true rfl) dX12_readKind_69 rfl (fun r238 M239 h240 => ?_)
              obtain ⟨a242, rfl, hM239, fM239, h241⟩ := h240
              refine y_if_eq C 78 dX12_readKind_72 (by decide) (by omega) (fun h243 => ?_) (fun h243 => ?_)
              · refine j_aload_n C 0 0 dX12_readKind_78 rfl rfl ?_
                refine y_getI C 11 _ _ fX12_readKind_126 rfl rfl ft_11_11 sb_11_11 hM239 dX12_readKind_79 (fun a249 ea249 la249 ua249 => ?_)
                obtain rfl : a249 = (M239.1 98 11).toInt := ea249
                refine y_if_ne C 96 dX12_readKind_82 (by decide) (by omega) (fun h251 => ?_) (fun h251 => ?_)
                · have u252w := lv_w0 (M := M239) (by omega)
                  exact hret _ _ _ dX12_readKind_96 ⟨hM239, ((FR.rf.tr fM233 (by decide)).tr fM239 (by decide)), by omega⟩
                · have u253k := kv_k (M := M239) (k := (M0.1 102 26).toInt) (by omega) (by omega)
                  refine j_aload_n C 0 0 dX12_readKind_85 rfl rfl ?_
                  refine y_getC C 11 102 fX12_readKind_24 rfl rfl ft_11_4 sm_11_4 rfl hM239 dX12_readKind_86 ?_
                  refine y_bipush C dX12_readKind_89 rfl ?_
                  refine j_dup2 C dX12_readKind_91 rfl rfl ?_
                  refine y_ialdH C 48 1181 rfl rfl rfl ak_48 an_48 rfl _ _ hM239 (hr_48_26_26 _ (by omega) (by omega)) dX12_readKind_92 (by omega) (fun a254 ea254 la254 ua254 => ?_)
                  obtain rfl : a254 = (M239.1 102 26).toInt := ea254
                  refine y_iconst C dX12_readKind_93 ?_
                  refine y_iadd C dX12_readKind_94 ?_
                  refine y_iastH C 48 1181 rfl rfl rfl ak_48 an_48 rfl _ _ hM239 (PM.w hpr rfl rfl) (hs_48_26_26 _ (by omega) (by omega)) dX12_readKind_95 (by omega) (by omega) (fun M255 eM255 hM255 => ?_)
                  have pM255 := pi_o eM255 (by decide) (by decide) (by omega)
                  have u256v : b01 (LV M255) = 1 := kv_e (k := (M0.1 102 26).toInt) eM255 (by omega) (h4b hM239) (by omega) (by omega)
                  have u256i := ri_c (M := M239) (N := M255) (wI_cell eM255 (by decide)) (by omega)
                  have u256q6 : (M255.1 98 6).toInt = (M239.1 98 6).toInt := by rw [show M255.1 98 = M239.1 98 from wI_cell eM255 (by decide)]
                  have u256q8 : (M255.1 98 8).toInt = (M239.1 98 8).toInt := by rw [show M255.1 98 = M239.1 98 from wI_cell eM255 (by decide)]
                  have u256q11 : (M255.1 98 11).toInt = (M239.1 98 11).toInt := by rw [show M255.1 98 = M239.1 98 from wI_cell eM255 (by decide)]
                  have zz98_6 : (M255.1 98 6).toInt = (M239.1 98 6).toInt := s_fa eM255 (by decide) (rfl); have zz98_8 : (M255.1 98 8).toInt = (M239.1 98 8).toInt := s_fa eM255 (by decide) (rfl); exact hret _ _ _ dX12_readKind_96 ⟨hM255, (((FR.rf.tr fM233 (by decide)).tr fM239 (by decide)).wI eM255 (by decide)), by omega⟩
              · refine j_goto C 60 dX12_readKind_75 (by decide) ?_
                have u244l := ri_l (M := M239) (by omega)
                exact ih231 M239 (by omega) hM239 ((FR.rf.tr fM233 (by decide)).tr fM239 (by decide))
        have zz98_8 : (M217.1 98 8).toInt = (M212.1 98 8).toInt := s_fa eM217 (by decide) (rfl); have zz98_6 : (M217.1 98 6).toInt = (M212.1 98 6).toInt := s_fa eM217 (by decide) (rfl); exact L232 2010 M217 (by omega) hM217 (((FR.rf.tr fM206 (by decide)).tr fM212 (by decide)).wI eM217 (by decide))
      refine y_if_ne C 44 dX12_readKind_36 (by decide) (by omega) (fun h199 => ?_) (fun h199 => ?_)
      · refine j_lv [1, 0] rfl ?_; exact J207 M194 (by omega) hM194 (((FR.rf.tr fM180 (by decide)).tr fM189 (by decide)).tr fM194 (by decide))
      · refine j_aload_n C 1 0 dX12_readKind_39 rfl rfl ?_
        refine y_iconst C dX12_readKind_40 ?_
        refine j_callVv C (d := 0) (As := [.int (sI 2)]) (st := []) 98 (s_lt rfl rfl) (s_kc (c := 11) rfl rfl) (by decide) rfl (s1_X12_fails hM194 hpr 2 (by omega) (by omega) (by omega) (by omega)) gX12_readKind_X12_fails rfl hdX12_fails (by decide) (Nat.le_of_ble_eq_true rfl) dX12_readKind_41 rfl (fun M202 h203 => ?_)
        obtain ⟨hM202, fM202, h204⟩ := h203
        have u205v := kv_c (M := M194) (N := M202) (k := (M0.1 102 26).toInt) (FR.cell fM202 (by decide)) (by omega) (by omega)
        have u205l := ri_l (M := M202) (by omega)
        refine j_lv [1, 0] rfl ?_; exact J207 M202 (by omega) hM202 ((((FR.rf.tr fM180 (by decide)).tr fM189 (by decide)).tr fM194 (by decide)).tr fM202 (by decide))
    · exact hret _ _ _ dX12_readKind_26 ⟨hM180, (FR.rf.tr fM180 (by decide)), by omega⟩
set_option maxHeartbeats 4000000 in
theorem s1_X12_readLine {l : Launch} {dC : Nat → ClassId} {dI : Nat → Nat → Nat} {ad : Nat → Nat} {cA : Nat → ClassId} {pr : Nat → Nat → Bool} {Kz : mm_M} {M0 : mm_M} (hM0 : INV pr Kz M0) (hpr : PM pr)  (hp0 : b01 (RIP M0) = 1) (hp1 : b01 (LV M0) = 1) (hp2 : b01 (PI M0) = 1) : Cv l 32 yX12_readLine wsX12_readLine dC dI ad cA [.ref (ad 98)] M0 (fun M' => INV pr Kz M' ∧ FR [98, 102] M0 M' ∧ (b01 (RIP M') = 1) ∧ ((M'.1 98 8).toInt = (M0.1 98 8).toInt) ∧ ((M0.1 98 6).toInt ≤ (M'.1 98 6).toInt) ∧ (b01 (LV M') = 1) ∧ (b01 (PI M') = 1)) := by
  refine cv_of (cc := cX12_readLine) (maxL := 1) (lv := [(0, .ref (ad 98))]) (by decide) rfl (Nat.le_of_ble_eq_true rfl) rfl ?_
  intro p e s m args below meth c A Q C hret
  have u101l := ri_l (M := M0) (by omega)
  refine j_aload_n C 0 0 dX12_readLine_0 rfl rfl ?_
  refine y_getI C 11 _ _ fX12_readLine_126 rfl rfl ft_11_11 sb_11_11 hM0 dX12_readLine_1 (fun a102 ea102 la102 ua102 => ?_)
  obtain rfl : a102 = (M0.1 98 11).toInt := ea102
  refine y_if_eq C 8 dX12_readLine_4 (by decide) (by omega) (fun h104 => ?_) (fun h104 => ?_)
  · refine j_aload_n C 0 0 dX12_readLine_8 rfl rfl ?_
    refine y_iconst C dX12_readLine_9 ?_
    refine j_callVi C (d := 0) (As := [.int (sI 1)]) (st := []) 98 (s_lt rfl rfl) (s_kc (c := 11) rfl rfl) (by decide) rfl (s1_X12_is hM0 1 (by omega)) gX12_readLine_X12_is rfl hdX12_is (by decide) (Nat.le_of_ble_eq_true rfl) dX12_readLine_10 rfl (fun r105 M106 h107 => ?_)
    obtain ⟨a109, rfl, rfl, h108⟩ := h107
    refine y_if_eq C 23 dX12_readLine_13 (by decide) (by omega) (fun h110 => ?_) (fun h110 => ?_)
    · refine j_aload_n C 0 0 dX12_readLine_23 rfl rfl ?_
      refine y_bipush C dX12_readLine_24 rfl ?_
      refine j_callVi C (d := 0) (As := [.int (sI 6)]) (st := []) 98 (s_lt rfl rfl) (s_kc (c := 11) rfl rfl) (by decide) rfl (s1_X12_is hM0 6 (by omega)) gX12_readLine_X12_is rfl hdX12_is (by decide) (Nat.le_of_ble_eq_true rfl) dX12_readLine_26 rfl (fun r111 M112 h113 => ?_)
      obtain ⟨a115, rfl, rfl, h114⟩ := h113
      refine y_if_eq C 39 dX12_readLine_29 (by decide) (by omega) (fun h116 => ?_) (fun h116 => ?_)
      · refine j_aload_n C 0 0 dX12_readLine_39 rfl rfl ?_
        refine y_bipush C dX12_readLine_40 rfl ?_
        refine j_callVi C (d := 0) (As := [.int (sI 10)]) (st := []) 98 (s_lt rfl rfl) (s_kc (c := 11) rfl rfl) (by decide) rfl (s1_X12_is hM0 10 (by omega)) gX12_readLine_X12_is rfl hdX12_is (by decide) (Nat.le_of_ble_eq_true rfl) dX12_readLine_42 rfl (fun r117 M118 h119 => ?_)
        obtain ⟨a121, rfl, rfl, h120⟩ := h119
        refine y_if_ne C 57 dX12_readLine_45 (by decide) (by omega) (fun h122 => ?_) (fun h122 => ?_)
        · refine j_aload_n C 0 0 dX12_readLine_57 rfl rfl ?_
          refine j_aload_n C 0 0 dX12_readLine_58 rfl rfl ?_
          refine y_getI C 11 _ _ fX12_readLine_108 rfl rfl ft_11_9 sb_11_9 hM0 dX12_readLine_59 (fun a123 ea123 la123 ua123 => ?_)
          obtain rfl : a123 = (M0.1 98 9).toInt := ea123
          have u125 : 10 ≤ (M0.1 98 9).toInt ∧ (M0.1 98 9).toInt ≤ 11 := by omega
          refine y_bipush C dX12_readLine_62 rfl ?_
          refine y_isub C dX12_readLine_64 ?_
          refine j_callVv C (d := 31) (As := [.int (sI ((M0.1 98 9).toInt - 10))]) (st := []) 98 (s_lt rfl rfl) (s_kc (c := 11) rfl rfl) (by decide) rfl (s1_X12_readLaw hM0 hpr ((M0.1 98 9).toInt - 10) (by omega) (by omega) (by omega) (by omega) (by omega)) gX12_readLine_X12_readLaw rfl hdX12_readLaw (by decide) (Nat.le_of_ble_eq_true rfl) dX12_readLine_65 rfl (fun M127 h128 => ?_)
          obtain ⟨hM127, fM127, h129⟩ := h128
          refine j_goto C 76 dX12_readLine_68 (by decide) ?_
          exact hret _ _ _ dX12_readLine_76 ⟨hM127, (FR.rf.tr fM127 (by decide)), by omega⟩
        · refine j_aload_n C 0 0 dX12_readLine_48 rfl rfl ?_
          refine y_bipush C dX12_readLine_49 rfl ?_
          refine j_callVi C (d := 0) (As := [.int (sI 11)]) (st := []) 98 (s_lt rfl rfl) (s_kc (c := 11) rfl rfl) (by decide) rfl (s1_X12_is hM0 11 (by omega)) gX12_readLine_X12_is rfl hdX12_is (by decide) (Nat.le_of_ble_eq_true rfl) dX12_readLine_51 rfl (fun r131 M132 h133 => ?_)
          obtain ⟨a135, rfl, rfl, h134⟩ := h133
          refine y_if_eq C 71 dX12_readLine_54 (by decide) (by omega) (fun h136 => ?_) (fun h136 => ?_)
          · refine j_aload_n C 0 0 dX12_readLine_71 rfl rfl ?_
            refine y_iconst C dX12_readLine_72 ?_
            refine j_callVv C (d := 0) (As := [.int (sI 2)]) (st := []) 98 (s_lt rfl rfl) (s_kc (c := 11) rfl rfl) (by decide) rfl (s1_X12_fails hM0 hpr 2 (by omega) (by omega) (by omega) (by omega)) gX12_readLine_X12_fails rfl hdX12_fails (by decide) (Nat.le_of_ble_eq_true rfl) dX12_readLine_73 rfl (fun M138 h139 => ?_)
            obtain ⟨hM138, fM138, h140⟩ := h139
            have u141v := lv_c (M := M0) (N := M138) (FR.cell fM138 (by decide)) (by omega) (by omega)
            exact hret _ _ _ dX12_readLine_76 ⟨hM138, (FR.rf.tr fM138 (by decide)), by omega⟩
          · refine j_aload_n C 0 0 dX12_readLine_57 rfl rfl ?_
            refine j_aload_n C 0 0 dX12_readLine_58 rfl rfl ?_
            refine y_getI C 11 _ _ fX12_readLine_108 rfl rfl ft_11_9 sb_11_9 hM0 dX12_readLine_59 (fun a142 ea142 la142 ua142 => ?_)
            obtain rfl : a142 = (M0.1 98 9).toInt := ea142
            have u144 : 10 ≤ (M0.1 98 9).toInt ∧ (M0.1 98 9).toInt ≤ 11 := by omega
            refine y_bipush C dX12_readLine_62 rfl ?_
            refine y_isub C dX12_readLine_64 ?_
            refine j_callVv C (d := 31) (As := [.int (sI ((M0.1 98 9).toInt - 10))]) (st := []) 98 (s_lt rfl rfl) (s_kc (c := 11) rfl rfl) (by decide) rfl (s1_X12_readLaw hM0 hpr ((M0.1 98 9).toInt - 10) (by omega) (by omega) (by omega) (by omega) (by omega)) gX12_readLine_X12_readLaw rfl hdX12_readLaw (by decide) (Nat.le_of_ble_eq_true rfl) dX12_readLine_65 rfl (fun M146 h147 => ?_)
            obtain ⟨hM146, fM146, h148⟩ := h147
            refine j_goto C 76 dX12_readLine_68 (by decide) ?_
            exact hret _ _ _ dX12_readLine_76 ⟨hM146, (FR.rf.tr fM146 (by decide)), by omega⟩
      · refine j_aload_n C 0 0 dX12_readLine_32 rfl rfl ?_
        refine j_callVv C (d := 8) (As := []) (st := []) 98 (s_lt rfl rfl) (s_kc (c := 11) rfl rfl) (by decide) rfl (s1_X12_readBuyer hM0 hpr (by omega) (by omega) (by omega)) gX12_readLine_X12_readBuyer rfl hdX12_readBuyer (by decide) (Nat.le_of_ble_eq_true rfl) dX12_readLine_33 rfl (fun M151 h152 => ?_)
        obtain ⟨hM151, fM151, h153⟩ := h152
        refine j_goto C 76 dX12_readLine_36 (by decide) ?_
        exact hret _ _ _ dX12_readLine_76 ⟨hM151, (FR.rf.tr fM151 (by decide)), by omega⟩
    · refine j_aload_n C 0 0 dX12_readLine_16 rfl rfl ?_
      refine j_callVv C (d := 8) (As := []) (st := []) 98 (s_lt rfl rfl) (s_kc (c := 11) rfl rfl) (by decide) rfl (s1_X12_readKind hM0 hpr (by omega) (by omega) (by omega)) gX12_readLine_X12_readKind rfl hdX12_readKind (by decide) (Nat.le_of_ble_eq_true rfl) dX12_readLine_17 rfl (fun M156 h157 => ?_)
      obtain ⟨hM156, fM156, h158⟩ := h157
      refine j_goto C 76 dX12_readLine_20 (by decide) ?_
      exact hret _ _ _ dX12_readLine_76 ⟨hM156, (FR.rf.tr fM156 (by decide)), by omega⟩
  · exact hret _ _ _ dX12_readLine_7 ⟨hM0, FR.rf, by omega⟩
set_option maxHeartbeats 4000000 in
theorem s1_X12_shop {l : Launch} {dC : Nat → ClassId} {dI : Nat → Nat → Nat} {ad : Nat → Nat} {cA : Nat → ClassId} {pr : Nat → Nat → Bool} {Kz : mm_M} {M0 : mm_M} (hM0 : INV pr Kz M0) (hpr : PM pr) (hq11_5 : ∀ i, s_c i = 11 → pr i 5 = false) (hq45 : ∀ i k, s_c i = 45 → pr i k = false) (a1 : Int) (ha1 : -2147483648 ≤ a1 ∧ a1 ≤ 2147483647) (hp0 : b01 (CWA M0) = 1) (hp1 : b01 (PI M0) = 1) : Ci l 33 yX12_shop wsX12_shop dC dI ad cA [.ref (ad 98), .int (sI a1)] M0 (fun r M' => ∃ a : Int, r = sI a ∧ INV pr Kz M' ∧ FR [98, 99, 102] M0 M' ∧ (-2147483648) ≤ a ∧ a ≤ 2147483647 ∧ (b01 (CWA M') = 1) ∧ (0 ≤ a1 ∧ a1 ≤ (M0.1 98 5).toInt ∧ (M'.1 98 5).toInt = 0 ∨ (a1 < 0 ∨ (M0.1 98 5).toInt < a1) ∧ (M'.1 98 5).toInt = (M0.1 98 5).toInt) ∧ (b01 (PI M') = 1)) := by
  refine ci_of (cc := cX12_shop) (maxL := 3) (ty := .int) (lv := [(0, .ref (ad 98)), (1, .int (sI a1))]) (by decide) rfl (fun r M' hp => rfl) (Nat.le_of_ble_eq_true rfl) rfl ?_
  intro p e s m args below meth c A Q C hret
  refine j_aload_n C 0 0 dX12_shop_0 rfl rfl ?_
  refine y_iconst C dX12_shop_1 ?_
  refine y_putIF C 11 qX12_shop_1 rfl rfl ft_11_0 sb_11_0 hM0 (PM.w hpr rfl rfl) dX12_shop_2 (fun M101 eM101 hM101 => ?_)
  have pM101 := pi_o eM101 (by decide) (by decide) (by omega)
  refine j_iload_n C 1 1 dX12_shop_5 rfl rfl ?_
  refine y_i2l C dX12_shop_6 (by omega) ?_
  refine y_lconst C 0 dX12_shop_7 rfl ?_
  refine j_aload_n C 0 0 dX12_shop_8 rfl rfl ?_
  refine y_getI C 11 _ _ fX12_shop_80 rfl rfl ft_11_5 sb_11_5 hM101 dX12_shop_9 (fun a102 ea102 la102 ua102 => ?_)
  obtain rfl : a102 = (M0.1 98 5).toInt := s_fb eM101 (by decide) (ea102)
  refine y_i2l C dX12_shop_12 (by omega) ?_
  refine j_callSi C (d := 0) (As := [.long (sJ a1), .long (sJ 0), .long (sJ (M0.1 98 5).toInt)]) (st := []) (s1_X12_within hM101 a1 (by omega) 0 (by omega) (M0.1 98 5).toInt (by omega)) gX12_shop_X12_within rfl hdX12_withins (by decide) (Nat.le_of_ble_eq_true rfl) dX12_shop_13 rfl (fun r104 M105 h106 => ?_)
  obtain ⟨a108, rfl, rfl, h107⟩ := h106
  refine y_if_ne C 22 dX12_shop_16 (by decide) (by omega) (fun h109 => ?_) (fun h109 => ?_)
  · refine j_aload_n C 0 0 dX12_shop_22 rfl rfl ?_
    refine j_iload_n C 1 1 dX12_shop_23 rfl rfl ?_
    refine y_putI C 11 _ _ qX12_shop_83 rfl rfl ft_11_8 sb_11_8 hM101 (PM.w hpr rfl rfl) dX12_shop_24 (by omega) (fun M110 eM110 hM110 => ?_)
    have pM110 := pi_o eM110 (by decide) (by decide) (by omega)
    refine j_aload_n C 0 0 dX12_shop_27 rfl rfl ?_
    refine y_iconst C dX12_shop_28 ?_
    refine y_putI C 11 _ _ qX12_shop_80 rfl rfl ft_11_5 sb_11_5 hM110 (hq11_5 _ rfl) dX12_shop_29 (by omega) (fun M111 eM111 hM111 => ?_)
    have pM111 := pi_o eM111 (by decide) (by decide) (by omega)
    have hz0 : (M111.1 98 5).toInt = 0 := s_wr eM111 (by omega)
    obtain ⟨pr, Kz, hpr, hM111, hne, hbk⟩ := fzM [11] hpr hM111
    have hq45 : ∀ i k, s_c i = 45 → pr i k = false := fun i k h => hne i k (by rw [h]; rfl) (hq45 i k h)
    refine j_aload_n C 0 0 dX12_shop_32 rfl rfl ?_
    refine y_iconst C dX12_shop_33 ?_
    refine y_putI C 11 _ _ qX12_shop_101 rfl rfl ft_11_7 sb_11_7 hM111 (PM.w hpr rfl rfl) dX12_shop_34 (by omega) (fun M113 eM113 hM113 => ?_)
    have pM113 := pi_o eM113 (by decide) (by decide) (by omega)
    refine j_aload_n C 0 0 dX12_shop_37 rfl rfl ?_
    refine y_iconst C dX12_shop_38 ?_
    refine y_putIF C 11 qX12_shop_126 rfl rfl ft_11_11 sb_11_11 hM113 (PM.w hpr rfl rfl) dX12_shop_39 (fun M114 eM114 hM114 => ?_)
    have pM114 := pi_o eM114 (by decide) (by decide) (by omega)
    refine j_aload_n C 0 0 dX12_shop_42 rfl rfl ?_
    refine y_getC C 11 102 fX12_shop_24 rfl rfl ft_11_4 sm_11_4 rfl hM114 dX12_shop_43 ?_
    refine j_callSv C (d := 0) (As := [.ref (ad 102)]) (st := []) (s1_X12_plain hM114 hpr (by omega)) gX12_shop_X12_plain rfl hdX12_plains (by decide) (Nat.le_of_ble_eq_true rfl) dX12_shop_46 rfl (fun M116 h117 => ?_)
    obtain ⟨hM116, fM116, h118⟩ := h117
    refine j_aload_n C 0 0 dX12_shop_49 rfl rfl ?_
    have zz98_7 := (Eq.trans (s_fb eM114 (by decide) (s_fF fM116 (by decide) (rfl)) : (M116.1 98 7).toInt = (M113.1 98 7).toInt) (s_wr eM113 (by omega)))
    have zz98_8 := (Eq.trans (s_fb eM111 (by decide) (s_fb eM113 (by decide) (s_fb eM114 (by decide) (s_fF fM116 (by decide) (rfl)))) : (M116.1 98 8).toInt = (M110.1 98 8).toInt) (s_wr eM110 (by omega)))
    refine j_callVv C (d := 5) (As := []) (st := []) 98 (s_lt rfl rfl) (s_kc (c := 11) rfl rfl) (by decide) rfl (s1_X12_next hM116 hpr (by omega) (by omega) (by omega)) gX12_shop_X12_next rfl hdX12_next (by decide) (Nat.le_of_ble_eq_true rfl) dX12_shop_50 rfl (fun M120 h121 => ?_)
    obtain ⟨hM120, fM120, h122⟩ := h121
    have u123C := cwa_c (M := M0) (N := M120) (show M120.1 99 = M0.1 99 from (((((((FR.cell fM120 (by decide)).trans (FR.cell fM116 (by decide))).trans (wI_cell eM114 (by decide))).trans (wI_cell eM113 (by decide))).trans (wI_cell eM111 (by decide))).trans (wI_cell eM110 (by decide))).trans (wI_cell eM101 (by decide)))) (by omega)
    have u123z := zr_c (M := M116) (N := M120) (k := 1181) (FR.cell fM120 (by decide)) (by omega)
    have u123l := ri_l (M := M120) (by omega)
    have u123v := lv_z (M := M120) (by omega) (by omega)
    refine j_aload_n C 0 0 dX12_shop_53 rfl rfl ?_
    refine y_iconst C dX12_shop_54 ?_
    refine j_callVi C (d := 6) (As := [.int (sI 0)]) (st := []) 98 (s_lt rfl rfl) (s_kc (c := 11) rfl rfl) (by decide) rfl (s1_X12_eats hM120 hpr 0 (by omega) (by omega) (by omega) (by omega)) gX12_shop_X12_eats rfl hdX12_eats (by decide) (Nat.le_of_ble_eq_true rfl) dX12_shop_55 rfl (fun r124 M125 h126 => ?_)
    obtain ⟨a128, rfl, hM125, fM125, h127⟩ := h126
    have u129v := lv_c (M := M120) (N := M125) (FR.cell fM125 (by decide)) (by omega) (by omega)
    have u129l := ri_l (M := M125) (by omega)
    have u129C := cwa_c (M := M120) (N := M125) (FR.cell fM125 (by decide)) (by omega)
    have J138 : ∀ (M137 : mm_M), ((b01 (RIP M137) = 1) ∧ (b01 (LV M137) = 1) ∧ (b01 (CWA M137) = 1) ∧ (b01 (PI M137) = 1)) → INV pr Kz M137 → FR [98, 99, 102] M0 M137 → jj p l e (cn_R 33) s m args below meth c 0 0 Q 3 dC dI ad cA A M137 66 [(0, .ref (ad 98))] [] := by
      intro M137 h139 hM137 fM137
      have u141l := ri_l (M := M137) (by omega)
      refine j_aload_n C 0 0 dX12_shop_66 rfl rfl ?_
      refine j_callVv C (d := 7) (As := []) (st := []) 98 (s_lt rfl rfl) (s_kc (c := 11) rfl rfl) (by decide) rfl (s1_X12_ends hM137 hpr (by omega) (by omega) (by omega)) gX12_shop_X12_ends rfl hdX12_ends (by decide) (Nat.le_of_ble_eq_true rfl) dX12_shop_67 rfl (fun M143 h144 => ?_)
      obtain ⟨hM143, fM143, h145⟩ := h144
      have u146l := ri_l (M := M143) (by omega)
      have u146w := w01_s M143
      have u146C := cwa_c (M := M137) (N := M143) (FR.cell fM143 (by decide)) (by omega)
      have L168 : ∀ (n166 : Nat), ∀ (M169 : mm_M), ((b01 (RIP M169) = 1) ∧ (b01 (LV M169) = 1) ∧ (b01 (CWA M169) = 1) ∧ (0 ≤ (M169.1 98 6).toInt ∧ (M169.1 98 6).toInt ≤ 900) ∧ (0 ≤ w01 M169 ∧ w01 M169 ≤ 1) ∧ (b01 (PI M169) = 1) ∧ (2 * (900 - (M169.1 98 6).toInt) + w01 M169) < (n166 : Int)) → INV pr Kz M169 → FR [98, 99, 102] M0 M169 → jj p l e (cn_R 33) s m args below meth c 0 0 Q 3 dC dI ad cA A M169 70 [(0, .ref (ad 98))] [] := by
        intro n166
        induction n166 with
        | zero =>
          intro M169 h170 hM169 fM169
          exfalso; omega
        | succ n166 ih167 =>
          intro M169 h170 hM169 fM169
          have u171w := w01_s M169
          refine j_aload_n C 0 0 dX12_shop_70 rfl rfl ?_
          refine y_getI C 11 _ _ fX12_shop_126 rfl rfl ft_11_11 sb_11_11 hM169 dX12_shop_71 (fun a172 ea172 la172 ua172 => ?_)
          obtain rfl : a172 = (M169.1 98 11).toInt := ea172
          refine y_if_ne C 97 dX12_shop_74 (by decide) (by omega) (fun h174 => ?_) (fun h174 => ?_)
          · refine j_aload_n C 0 0 dX12_shop_97 rfl rfl ?_
            refine j_aload_n C 0 0 dX12_shop_98 rfl rfl ?_
            refine y_getI C 11 _ _ fX12_shop_126 rfl rfl ft_11_11 sb_11_11 hM169 dX12_shop_99 (fun a189 ea189 la189 ua189 => ?_)
            obtain rfl : a189 = (M169.1 98 11).toInt := ea189
            refine y_putIF C 11 qX12_shop_201 rfl rfl ft_11_13 sb_11_13 hM169 (PM.w hpr rfl rfl) dX12_shop_102 (fun M191 eM191 hM191 => ?_)
            have pM191 := pi_o eM191 (by decide) (by decide) (by omega)
            refine j_aload_n C 0 0 dX12_shop_105 rfl rfl ?_
            refine j_aload_n C 0 0 dX12_shop_106 rfl rfl ?_
            refine y_getI C 11 _ _ fX12_shop_126 rfl rfl ft_11_11 sb_11_11 hM191 dX12_shop_107 (fun a192 ea192 la192 ua192 => ?_)
            obtain rfl : a192 = (M169.1 98 11).toInt := s_fb eM191 (by decide) (ea192)
            refine y_if_ne C 117 dX12_shop_110 (by decide) (by omega) (fun h194 => ?_) (fun h194 => ?_)
            · refine j_aload_n C 0 0 dX12_shop_117 rfl rfl ?_
              refine y_getI C 11 _ _ fX12_shop_129 rfl rfl ft_11_12 sb_11_12 hM191 dX12_shop_118 (fun a195 ea195 la195 ua195 => ?_)
              obtain rfl : a195 = (M169.1 98 12).toInt := s_fb eM191 (by decide) (ea195)
              refine y_putIF C 11 qX12_shop_27 rfl rfl ft_11_14 sb_11_14 hM191 (PM.w hpr rfl rfl) dX12_shop_121 (fun M197 eM197 hM197 => ?_)
              have pM197 := pi_o eM197 (by decide) (by decide) (by omega)
              refine j_aload_n C 0 0 dX12_shop_124 rfl rfl ?_
              refine y_getI C 11 _ _ fX12_shop_126 rfl rfl ft_11_11 sb_11_11 hM197 dX12_shop_125 (fun a198 ea198 la198 ua198 => ?_)
              obtain rfl : a198 = (M169.1 98 11).toInt := s_fb eM191 (by decide) (s_fb eM197 (by decide) (ea198))
              refine y_if_eq C 139 dX12_shop_128 (by decide) (by omega) (fun h200 => ?_) (fun h200 => ?_)
              · exfalso; omega
              · refine y_bipush C dX12_shop_131 rfl ?_
                refine j_aload_n C 0 0 dX12_shop_133 rfl rfl ?_
                refine y_getI C 11 _ _ fX12_shop_126 rfl rfl ft_11_11 sb_11_11 hM197 dX12_shop_134 (fun a201 ea201 la201 ua201 => ?_)
                obtain rfl : a201 = (M169.1 98 11).toInt := s_fb eM191 (by decide) (s_fb eM197 (by decide) (ea201))
                refine y_isub0 C dX12_shop_137 (fun a203 la203 ua203 => ?_)
                have u204C := cwa_c (M := M169) (N := M197) ((wI_cell eM197 (by decide)).trans (wI_cell eM191 (by decide))) (by omega)
                have u204t : (M197.1 98 5).toInt = 0 := by rw [(hbk _ hM197).2 98 5 rfl rfl]; exact hz0
                have hM197 := (hbk _ hM197).1
                have zz98_5 : (M197.1 98 5).toInt = (M169.1 98 5).toInt := s_fb eM191 (by decide) (s_fb eM197 (by decide) (rfl)); exact hret _ _ _ _ dX12_shop_138 ⟨a203, rfl, hM197, (((FR.rf.tr fM169 (by decide)).wI eM191 (by decide)).wI eM197 (by decide)), by omega⟩
            · exfalso; omega
          · refine j_aload_n C 0 0 dX12_shop_77 rfl rfl ?_
            refine y_getI C 11 _ _ fX12_shop_108 rfl rfl ft_11_9 sb_11_9 hM169 dX12_shop_78 (fun a175 ea175 la175 ua175 => ?_)
            obtain rfl : a175 = (M169.1 98 9).toInt := ea175
            refine y_bipush C dX12_shop_81 rfl ?_
            refine y_icmp_eq C 97 dX12_shop_83 (by decide) (by omega) (fun h177 => ?_) (fun h177 => ?_)
            · refine j_aload_n C 0 0 dX12_shop_97 rfl rfl ?_
              refine j_aload_n C 0 0 dX12_shop_98 rfl rfl ?_
              refine y_getI C 11 _ _ fX12_shop_126 rfl rfl ft_11_11 sb_11_11 hM169 dX12_shop_99 (fun a205 ea205 la205 ua205 => ?_)
              obtain rfl : a205 = (M169.1 98 11).toInt := ea205
              refine y_putIF C 11 qX12_shop_201 rfl rfl ft_11_13 sb_11_13 hM169 (PM.w hpr rfl rfl) dX12_shop_102 (fun M207 eM207 hM207 => ?_)
              have pM207 := pi_o eM207 (by decide) (by decide) (by omega)
              refine j_aload_n C 0 0 dX12_shop_105 rfl rfl ?_
              refine j_aload_n C 0 0 dX12_shop_106 rfl rfl ?_
              refine y_getI C 11 _ _ fX12_shop_126 rfl rfl ft_11_11 sb_11_11 hM207 dX12_shop_107 (fun a208 ea208 la208 ua208 => ?_)
              obtain rfl : a208 = (M169.1 98 11).toInt := s_fb eM207 (by decide) (ea208)
              refine y_if_ne C 117 dX12_shop_110 (by decide) (by omega) (fun h210 => ?_) (fun h210 => ?_)
              · exfalso; omega
              · refine y_iconst C dX12_shop_113 ?_
                refine j_goto C 121 dX12_shop_114 (by decide) ?_
                refine y_putIF C 11 qX12_shop_27 rfl rfl ft_11_14 sb_11_14 hM207 (PM.w hpr rfl rfl) dX12_shop_121 (fun M211 eM211 hM211 => ?_)
                have pM211 := pi_o eM211 (by decide) (by decide) (by omega)
                refine j_aload_n C 0 0 dX12_shop_124 rfl rfl ?_
                refine y_getI C 11 _ _ fX12_shop_126 rfl rfl ft_11_11 sb_11_11 hM211 dX12_shop_125 (fun a212 ea212 la212 ua212 => ?_)
                obtain rfl : a212 = (M169.1 98 11).toInt := s_fb eM207 (by decide) (s_fb eM211 (by decide) (ea212))
                refine y_if_eq C 139 dX12_shop_128 (by decide) (by omega) (fun h214 => ?_) (fun h214 => ?_)
                · have zz98_6 : (M211.1 98 6).toInt = (M169.1 98 6).toInt := s_fb eM207 (by decide) (s_fb eM211 (by decide) (rfl))
                  have zz98_11 : (M211.1 98 11).toInt = (M169.1 98 11).toInt := s_fb eM207 (by decide) (s_fb eM211 (by decide) (rfl))
                  have zz98_11 : (M211.1 98 11).toInt = (M169.1 98 11).toInt := s_fb eM207 (by decide) (s_fb eM211 (by decide) (rfl))
                  have u215v := lv_c (M := M169) (N := M211) ((wI_cell eM211 (by decide)).trans (wI_cell eM207 (by decide))) (by omega) (by omega)
                  have u215C := cwa_c (M := M169) (N := M211) ((wI_cell eM211 (by decide)).trans (wI_cell eM207 (by decide))) (by omega)
                  refine y_iconst C dX12_shop_139 ?_
                  refine j_istore_n C 2 [(2, .int (sI 0)), (0, .ref (ad 98))] dX12_shop_140 rfl (by decide) rfl ?_
                  have u216 := cx_0 M211 0 102 0
                  have L226 : ∀ (n224 : Nat), ∀ (a227 : Int) (M228 : mm_M), (0 ≤ a227 ∧ a227 ≤ 1181 ∧ (b01 (CPX M228 M211 0 102 0 a227) = 1) ∧ (1181 - a227) < (n224 : Int)) → INV pr Kz M228 → FR [98, 99, 102] M0 M228 → jj p l e (cn_R 33) s m args below meth c 0 0 Q 3 dC dI ad cA A M228 141 [(0, .ref (ad 98)), (2, .int (sI a227))] [] := by
                    intro n224
                    induction n224 with
                    | zero =>
                      intro a227 M228 h229 hM228 fM228
                      exfalso; omega
                    | succ n224 ih225 =>
                      intro a227 M228 h229 hM228 fM228
                      refine j_iload_n C 1 2 dX12_shop_141 rfl rfl ?_
                      refine y_sipush C dX12_shop_142 rfl ?_
                      refine y_icmp_ge C 166 dX12_shop_145 (by decide) (by omega) (fun h230 => ?_) (fun h230 => ?_)
                      · obtain rfl : a227 = 1181 := by omega
                        have u235X := cx_102 (B := M211) (M := M228) hM211 (by omega) (by omega) (by omega) (by omega) (by omega)
                        have p236 : b01 (PI M228) = 1 := by omega
                        refine j_aload_n C 0 0 dX12_shop_166 rfl rfl ?_
                        refine y_getC C 11 99 fX12_shop_13 rfl rfl ft_11_1 sm_11_1 rfl hM228 dX12_shop_167 ?_
                        refine y_iconst C dX12_shop_170 ?_
                        refine y_ialdF C 45 3543 rfl rfl rfl ak_45 an_45 rfl dX12_shop_171 (by omega) (fun a237 ea237 la237 ua237 => ?_)
                        obtain rfl : a237 = (M228.1 99 0).toInt := ea237
                        have u238t : (M228.1 98 5).toInt = 0 := by rw [(hbk _ hM228).2 98 5 rfl rfl]; exact hz0
                        have hM228 := (hbk _ hM228).1
                        exact hret _ _ _ _ dX12_shop_172 ⟨(M228.1 99 0).toInt, rfl, hM228, (FR.rf.tr fM228 (by decide)), by omega⟩
                      · refine j_aload_n C 0 0 dX12_shop_148 rfl rfl ?_
                        refine y_getC C 11 99 fX12_shop_13 rfl rfl ft_11_1 sm_11_1 rfl hM228 dX12_shop_149 ?_
                        refine j_iload_n C 1 2 dX12_shop_152 rfl rfl ?_
                        refine j_aload_n C 0 0 dX12_shop_153 rfl rfl ?_
                        refine y_getC C 11 102 fX12_shop_24 rfl rfl ft_11_4 sm_11_4 rfl hM228 dX12_shop_154 ?_
                        refine j_iload_n C 1 2 dX12_shop_157 rfl rfl ?_
                        refine y_ialdR C 48 1181 rfl rfl rfl ak_48 an_48 rfl hM228 dX12_shop_158 (by omega) (fun a231 ea231 la231 ua231 ba231 => ?_)
                        obtain rfl : a231 = (M228.1 102 (a227).toNat).toInt := ea231
                        refine y_iastR C 45 3543 rfl rfl rfl ak_45 an_45 rfl hM228 (hq45 _ _ rfl) dX12_shop_159 (by omega) (by omega) (q_f (by omega) (by assumption) (fun z1 z2 => by rw [cx_f (M := M228) (B := M211) (d := 0) (c2 := 102) (s := 0) (k := a227) (by omega)]; exact lv_od (by omega) (by omega) _ z1 z2)) (fun M232 eM232 hM232 => ?_)
                        have u233 := cx_s (B := M211) (d := 0) (c2 := 102) (s := 0) (k := a227) eM232 (by omega) (by omega) (by rw [sI_o, Nat.zero_add]; exact congrFun (cx_f (M := M228) (B := M211) (d := 0) (c2 := 102) (s := 0) (k := a227) (by omega)) _) (by omega)
                        refine y_iinc C 1 [(2, .int (sI (a227 + 1))), (0, .ref (ad 98))] dX12_shop_160 rfl (by decide) rfl ?_
                        refine j_goto C 141 dX12_shop_163 (by decide) ?_
                        refine j_lv [1, 0] rfl ?_; exact ih225 (a227 + 1) M232 (by omega) hM232 ((FR.rf.tr fM228 (by decide)).wI eM232 (by decide))
                  refine j_lv [1, 0] rfl ?_; exact L226 2372 0 M211 (by omega) hM211 (((FR.rf.tr fM169 (by decide)).wI eM207 (by decide)).wI eM211 (by decide))
                · exfalso; omega
            · have u178l := ri_l (M := M169) (by omega)
              refine j_aload_n C 0 0 dX12_shop_86 rfl rfl ?_
              refine j_callVv C (d := 32) (As := []) (st := []) 98 (s_lt rfl rfl) (s_kc (c := 11) rfl rfl) (by decide) rfl (s1_X12_readLine hM169 hpr (by omega) (by omega) (by omega)) gX12_shop_X12_readLine rfl hdX12_readLine (by decide) (Nat.le_of_ble_eq_true rfl) dX12_shop_87 rfl (fun M180 h181 => ?_)
              obtain ⟨hM180, fM180, h182⟩ := h181
              have u183l := ri_l (M := M180) (by omega)
              have u183C := cwa_c (M := M169) (N := M180) (FR.cell fM180 (by decide)) (by omega)
              refine j_aload_n C 0 0 dX12_shop_90 rfl rfl ?_
              refine j_callVv C (d := 7) (As := []) (st := []) 98 (s_lt rfl rfl) (s_kc (c := 11) rfl rfl) (by decide) rfl (s1_X12_ends hM180 hpr (by omega) (by omega) (by omega)) gX12_shop_X12_ends rfl hdX12_ends (by decide) (Nat.le_of_ble_eq_true rfl) dX12_shop_91 rfl (fun M185 h186 => ?_)
              obtain ⟨hM185, fM185, h187⟩ := h186
              refine j_goto C 70 dX12_shop_94 (by decide) ?_
              have u188l := ri_l (M := M185) (by omega)
              have u188w := w01_s M185
              have u188C := cwa_c (M := M180) (N := M185) (FR.cell fM185 (by decide)) (by omega)
              exact ih167 M185 (by omega) hM185 (((FR.rf.tr fM169 (by decide)).tr fM180 (by decide)).tr fM185 (by decide))
      exact L168 2010 M143 (by omega) hM143 ((FR.rf.tr fM137 (by decide)).tr fM143 (by decide))
    refine y_if_ne C 66 dX12_shop_58 (by decide) (by omega) (fun h130 => ?_) (fun h130 => ?_)
    · refine j_lv [0] rfl ?_; exact J138 M125 (by omega) hM125 ((((((((FR.rf.wI eM101 (by decide)).wI eM110 (by decide)).wI eM111 (by decide)).wI eM113 (by decide)).wI eM114 (by decide)).tr fM116 (by decide)).tr fM120 (by decide)).tr fM125 (by decide))
    · refine j_aload_n C 0 0 dX12_shop_61 rfl rfl ?_
      refine y_iconst C dX12_shop_62 ?_
      refine j_callVv C (d := 0) (As := [.int (sI 2)]) (st := []) 98 (s_lt rfl rfl) (s_kc (c := 11) rfl rfl) (by decide) rfl (s1_X12_fails hM125 hpr 2 (by omega) (by omega) (by omega) (by omega)) gX12_shop_X12_fails rfl hdX12_fails (by decide) (Nat.le_of_ble_eq_true rfl) dX12_shop_63 rfl (fun M133 h134 => ?_)
      obtain ⟨hM133, fM133, h135⟩ := h134
      have u136v := lv_c (M := M125) (N := M133) (FR.cell fM133 (by decide)) (by omega) (by omega)
      have u136l := ri_l (M := M133) (by omega)
      have u136C := cwa_c (M := M125) (N := M133) (FR.cell fM133 (by decide)) (by omega)
      refine j_lv [0] rfl ?_; exact J138 M133 (by omega) hM133 (((((((((FR.rf.wI eM101 (by decide)).wI eM110 (by decide)).wI eM111 (by decide)).wI eM113 (by decide)).wI eM114 (by decide)).tr fM116 (by decide)).tr fM120 (by decide)).tr fM125 (by decide)).tr fM133 (by decide))
  · refine y_bipush C dX12_shop_19 rfl ?_
    have u239C := cwa_c (M := M0) (N := M101) (show M101.1 99 = M0.1 99 from (wI_cell eM101 (by decide))) (by omega)
    have zz98_5 : (M101.1 98 5).toInt = (M0.1 98 5).toInt := s_fb eM101 (by decide) (rfl); exact hret _ _ _ _ dX12_shop_21 ⟨(-3), rfl, hM101, (FR.rf.wI eM101 (by decide)), by omega⟩
set_option maxHeartbeats 4000000 in
theorem s1_X12_image {l : Launch} {dC : Nat → ClassId} {dI : Nat → Nat → Nat} {ad : Nat → Nat} {cA : Nat → ClassId} {pr : Nat → Nat → Bool} {Kz : mm_M} {M0 : mm_M} (hM0 : INV pr Kz M0) (hpr : PM pr) (hq45 : ∀ i k, s_c i = 45 → pr i k = false) (hq46 : ∀ i k, s_c i = 46 → pr i k = false) (a1 : Int) (ha1 : -2147483648 ≤ a1 ∧ a1 ≤ 2147483647) (hp0 : b01 (CWA M0) = 1) (hp1 : b01 (PI M0) = 1) : Ci l 1 yX12_image wsX12_image dC dI ad cA [.ref (ad 98), .int (sI a1)] M0 (fun r M' => ∃ a : Int, r = sI a ∧ INV pr Kz M' ∧ FR [98, 99, 100] M0 M' ∧ (-2) ≤ a ∧ a ≤ 0 ∧ (b01 (CWA M') = 1) ∧ (a1 = 0 ∧ a = 0 ∧ (M'.1 100 (0)).toInt = 1 ∧ (M'.1 100 (1)).toInt = (M0.1 100 (1)).toInt ∨ a1 = 1 ∧ a = 0 ∧ (M'.1 100 (0)).toInt = (M0.1 100 (0)).toInt ∧ (M'.1 100 (1)).toInt = 1 ∨ (a1 < 0 ∨ 1 < a1) ∧ a = -2 ∧ (M'.1 100 (0)).toInt = (M0.1 100 (0)).toInt ∧ (M'.1 100 (1)).toInt = (M0.1 100 (1)).toInt) ∧ (b01 (PI M') = 1)) := by
  refine ci_of (cc := cX12_image) (maxL := 3) (ty := .int) (lv := [(0, .ref (ad 98)), (1, .int (sI a1))]) (by decide) rfl (fun r M' hp => rfl) (Nat.le_of_ble_eq_true rfl) rfl ?_
  intro p e s m args below meth c A Q C hret
  refine j_aload_n C 0 0 dX12_image_0 rfl rfl ?_
  refine y_iconst C dX12_image_1 ?_
  refine y_putIF C 11 qX12_image_1 rfl rfl ft_11_0 sb_11_0 hM0 (PM.w hpr rfl rfl) dX12_image_2 (fun M101 eM101 hM101 => ?_)
  have pM101 := pi_o eM101 (by decide) (by decide) (by omega)
  refine j_iload_n C 1 1 dX12_image_5 rfl rfl ?_
  refine y_i2l C dX12_image_6 (by omega) ?_
  refine y_lconst C 0 dX12_image_7 rfl ?_
  refine y_lconst C 1 dX12_image_8 rfl ?_
  refine j_callSi C (d := 0) (As := [.long (sJ a1), .long (sJ 0), .long (sJ 1)]) (st := []) (s1_X12_within hM101 a1 (by omega) 0 (by omega) 1 (by omega)) gX12_image_X12_within rfl hdX12_withins (by decide) (Nat.le_of_ble_eq_true rfl) dX12_image_9 rfl (fun r102 M103 h104 => ?_)
  obtain ⟨a106, rfl, rfl, h105⟩ := h104
  refine y_if_ne C 18 dX12_image_12 (by decide) (by omega) (fun h107 => ?_) (fun h107 => ?_)
  · have hy0 : (M101.1 100 0).toInt = (M0.1 100 0).toInt := s_fa eM101 (by decide) rfl
    have hy1 : (M101.1 100 1).toInt = (M0.1 100 1).toInt := s_fa eM101 (by decide) rfl
    obtain ⟨pr, Kz, hpr, hM101, hne, hbk⟩ := fzM [46] hpr hM101
    have hq45 : ∀ i k, s_c i = 45 → pr i k = false := fun i k h => hne i k (by rw [h]; rfl) (hq45 i k h)
    refine y_iconst C dX12_image_18 ?_
    refine j_istore_n C 2 [(2, .int (sI 0)), (0, .ref (ad 98)), (1, .int (sI a1))] dX12_image_19 rfl (by decide) rfl ?_
    have u109 := cx_0 M101 (1181 * (a1 + 1)).toNat 99 0
    have L119 : ∀ (n117 : Nat), ∀ (a120 : Int) (M121 : mm_M), (0 ≤ a120 ∧ a120 ≤ 1181 ∧ (b01 (CPX M121 M101 (1181 * (a1 + 1)).toNat 99 0 a120) = 1) ∧ (1181 - a120) < (n117 : Int)) → INV pr Kz M121 → FR [98, 99, 100] M0 M121 → jj p l e (cn_R 1) s m args below meth c 0 0 Q 3 dC dI ad cA A M121 20 [(0, .ref (ad 98)), (1, .int (sI a1)), (2, .int (sI a120))] [] := by
      intro n117
      induction n117 with
      | zero =>
        intro a120 M121 h122 hM121 fM121
        exfalso; omega
      | succ n117 ih118 =>
        intro a120 M121 h122 hM121 fM121
        refine j_iload_n C 2 2 dX12_image_20 rfl rfl ?_
        refine y_sipush C dX12_image_21 rfl ?_
        refine y_icmp_ge C 53 dX12_image_24 (by decide) (by omega) (fun h123 => ?_) (fun h123 => ?_)
        · obtain rfl : a120 = 1181 := by omega
          have u128X := cx_99 (B := M101) (M := M121) hM101 (a := (a1 + 1).toNat) (b := 0) (by omega) (by decide) (d := (1181 * (a1 + 1)).toNat) (s := 0) (by omega) rfl (by omega) (by omega) (cwa_c (M := M0) (wI_cell eM101 (by decide)) (by omega))
          have hz0 := congrArg Int32.toInt ((hbk _ hM121).2 100 0 rfl rfl)
          have hz1 := congrArg Int32.toInt ((hbk _ hM121).2 100 1 rfl rfl)
          have hM121 := (hbk _ hM121).1
          have p129 : b01 (PI M121) = 1 := by omega
          refine j_aload_n C 0 0 dX12_image_53 rfl rfl ?_
          refine y_getC C 11 100 fX12_image_17 rfl rfl ft_11_2 sm_11_2 rfl hM121 dX12_image_54 ?_
          refine j_iload_n C 1 1 dX12_image_57 rfl rfl ?_
          refine y_iconst C dX12_image_58 ?_
          refine y_zast C 46 2 rfl rfl rfl ak_46 an_46 rfl (sb_46 _) hM121 (hq46 _ _ rfl) dX12_image_59 (by omega) (by omega) (fun M130 eM130 hM130 => ?_)
          have pM130 := pi_o eM130 (by decide) (by decide) (by omega)
          refine y_iconst C dX12_image_60 ?_
          have u131h := w_or eM130 (by omega) 100 0
          have u131i := w_or eM130 (by omega) 100 1
          have u132C := cwa_c (M := M121) (N := M130) (wI_cell eM130 (by decide)) (by omega)
          exact hret _ _ _ _ dX12_image_61 ⟨0, rfl, hM130, ((FR.rf.tr fM121 (by decide)).wI eM130 (by decide)), by omega⟩
        · refine j_aload_n C 0 0 dX12_image_27 rfl rfl ?_
          refine y_getC C 11 99 fX12_image_13 rfl rfl ft_11_1 sm_11_1 rfl hM121 dX12_image_28 ?_
          refine y_sipush C dX12_image_31 rfl ?_
          refine j_iload_n C 1 1 dX12_image_34 rfl rfl ?_
          refine y_iconst C dX12_image_35 ?_
          refine y_iadd C dX12_image_36 ?_
          refine y_imul C dX12_image_37 ?_
          refine j_iload_n C 2 2 dX12_image_38 rfl rfl ?_
          refine y_iadd C dX12_image_39 ?_
          refine j_aload_n C 0 0 dX12_image_40 rfl rfl ?_
          refine y_getC C 11 99 fX12_image_13 rfl rfl ft_11_1 sm_11_1 rfl hM121 dX12_image_41 ?_
          refine j_iload_n C 2 2 dX12_image_44 rfl rfl ?_
          refine y_ialdR C 45 3543 rfl rfl rfl ak_45 an_45 rfl hM121 dX12_image_45 (by omega) (fun a124 ea124 la124 ua124 ba124 => ?_)
          obtain rfl : a124 = (M121.1 99 (a120).toNat).toInt := ea124
          refine y_iastR C 45 3543 rfl rfl rfl ak_45 an_45 rfl hM121 (hq45 _ _ rfl) dX12_image_46 (by omega) (by omega) (by rw [q_i a120 (a1 + 1) (by omega)]; assumption) (fun M125 eM125 hM125 => ?_)
          have u126 := cx_s (B := M101) (d := (1181 * (a1 + 1)).toNat) (c2 := 99) (s := 0) (k := a120) eM125 (by omega) (by omega) (by rw [sI_o, Nat.zero_add]; exact cx_r (M := M121) (B := M101) (d := (1181 * (a1 + 1)).toNat) (c2 := 99) (s := 0) (k := a120) (by omega) _ (by omega)) (by omega)
          refine y_iinc C 2 [(2, .int (sI (a120 + 1))), (0, .ref (ad 98)), (1, .int (sI a1))] dX12_image_47 rfl (by decide) rfl ?_
          refine j_goto C 20 dX12_image_50 (by decide) ?_
          refine j_lv [1, 2, 0] rfl ?_; exact ih118 (a120 + 1) M125 (by omega) hM125 ((FR.rf.tr fM121 (by decide)).wI eM125 (by decide))
    refine j_lv [1, 2, 0] rfl ?_; exact L119 2372 0 M101 (by omega) hM101 (FR.rf.wI eM101 (by decide))
  · refine y_bipush C dX12_image_15 rfl ?_
    have u133C := cwa_c (M := M0) (N := M101) (show M101.1 99 = M0.1 99 from (wI_cell eM101 (by decide))) (by omega)
    have u133h : (M101.1 100 0).toInt = (M0.1 100 0).toInt := s_fa eM101 (by decide) rfl
    have u133i : (M101.1 100 1).toInt = (M0.1 100 1).toInt := s_fa eM101 (by decide) rfl
    exact hret _ _ _ _ dX12_image_17 ⟨(-2), rfl, hM101, (FR.rf.wI eM101 (by decide)), by omega⟩
set_option maxHeartbeats 4000000 in
theorem s1_X12_restore {l : Launch} {dC : Nat → ClassId} {dI : Nat → Nat → Nat} {ad : Nat → Nat} {cA : Nat → ClassId} {pr : Nat → Nat → Bool} {Kz : mm_M} {M0 : mm_M} (hM0 : INV pr Kz M0) (hpr : PM pr) (hq45 : ∀ i k, s_c i = 45 → pr i k = false) (a1 : Int) (ha1 : -2147483648 ≤ a1 ∧ a1 ≤ 2147483647) (hp0 : b01 (CWA M0) = 1) (hp1 : b01 (PI M0) = 1) : Ci l 1 yX12_restore wsX12_restore dC dI ad cA [.ref (ad 98), .int (sI a1)] M0 (fun r M' => ∃ a : Int, r = sI a ∧ INV pr Kz M' ∧ FR [98, 99] M0 M' ∧ (-5) ≤ a ∧ a ≤ 0 ∧ (b01 (CWA M') = 1) ∧ ((a1 < 0 ∨ 1 < a1) ∧ a = -2 ∨ 0 ≤ a1 ∧ a1 ≤ 1 ∧ (M0.1 100 (a1).toNat).toInt = 0 ∧ a = -5 ∨ 0 ≤ a1 ∧ a1 ≤ 1 ∧ ¬ (M0.1 100 (a1).toNat).toInt = 0 ∧ a = 0) ∧ (b01 (PI M') = 1)) := by
  refine ci_of (cc := cX12_restore) (maxL := 3) (ty := .int) (lv := [(0, .ref (ad 98)), (1, .int (sI a1))]) (by decide) rfl (fun r M' hp => rfl) (Nat.le_of_ble_eq_true rfl) rfl ?_
  intro p e s m args below meth c A Q C hret
  refine j_aload_n C 0 0 dX12_restore_0 rfl rfl ?_
  refine y_iconst C dX12_restore_1 ?_
  refine y_putIF C 11 qX12_restore_1 rfl rfl ft_11_0 sb_11_0 hM0 (PM.w hpr rfl rfl) dX12_restore_2 (fun M101 eM101 hM101 => ?_)
  have pM101 := pi_o eM101 (by decide) (by decide) (by omega)
  refine j_iload_n C 1 1 dX12_restore_5 rfl rfl ?_
  refine y_i2l C dX12_restore_6 (by omega) ?_
  refine y_lconst C 0 dX12_restore_7 rfl ?_
  refine y_lconst C 1 dX12_restore_8 rfl ?_
  refine j_callSi C (d := 0) (As := [.long (sJ a1), .long (sJ 0), .long (sJ 1)]) (st := []) (s1_X12_within hM101 a1 (by omega) 0 (by omega) 1 (by omega)) gX12_restore_X12_within rfl hdX12_withins (by decide) (Nat.le_of_ble_eq_true rfl) dX12_restore_9 rfl (fun r102 M103 h104 => ?_)
  obtain ⟨a106, rfl, rfl, h105⟩ := h104
  refine y_if_ne C 18 dX12_restore_12 (by decide) (by omega) (fun h107 => ?_) (fun h107 => ?_)
  · refine j_aload_n C 0 0 dX12_restore_18 rfl rfl ?_
    refine y_getC C 11 100 fX12_restore_17 rfl rfl ft_11_2 sm_11_2 rfl hM101 dX12_restore_19 ?_
    refine j_iload_n C 1 1 dX12_restore_22 rfl rfl ?_
    refine y_zald C 46 2 _ _ rfl rfl rfl ak_46 an_46 rfl (sb_46 _) hM101 dX12_restore_23 (by omega) (fun a108 ea108 la108 ua108 => ?_)
    obtain rfl : a108 = (M0.1 100 (a1).toNat).toInt := s_fa eM101 (by decide) (ea108)
    refine y_if_ne C 30 dX12_restore_24 (by decide) (by omega) (fun h109 => ?_) (fun h109 => ?_)
    · refine y_iconst C dX12_restore_30 ?_
      refine j_istore_n C 2 [(2, .int (sI 0)), (0, .ref (ad 98)), (1, .int (sI a1))] dX12_restore_31 rfl (by decide) rfl ?_
      have u110 := cx_0 M101 0 99 (1181 * (a1 + 1)).toNat
      have L120 : ∀ (n118 : Nat), ∀ (a121 : Int) (M122 : mm_M), (0 ≤ a121 ∧ a121 ≤ 1181 ∧ (b01 (CPX M122 M101 0 99 (1181 * (a1 + 1)).toNat a121) = 1) ∧ (1181 - a121) < (n118 : Int)) → INV pr Kz M122 → FR [98, 99] M0 M122 → jj p l e (cn_R 1) s m args below meth c 0 0 Q 3 dC dI ad cA A M122 32 [(0, .ref (ad 98)), (1, .int (sI a1)), (2, .int (sI a121))] [] := by
        intro n118
        induction n118 with
        | zero =>
          intro a121 M122 h123 hM122 fM122
          exfalso; omega
        | succ n118 ih119 =>
          intro a121 M122 h123 hM122 fM122
          refine j_iload_n C 2 2 dX12_restore_32 rfl rfl ?_
          refine y_sipush C dX12_restore_33 rfl ?_
          refine y_icmp_ge C 65 dX12_restore_36 (by decide) (by omega) (fun h124 => ?_) (fun h124 => ?_)
          · obtain rfl : a121 = 1181 := by omega
            have u129X := cx_99 (B := M101) (M := M122) hM101 (a := 0) (b := (a1 + 1).toNat) (by decide) (by omega) (d := 0) (s := (1181 * (a1 + 1)).toNat) rfl (by omega) (by omega) (by omega) (cwa_c (M := M0) (wI_cell eM101 (by decide)) (by omega))
            have p130 : b01 (PI M122) = 1 := by omega
            refine j_aload_n C 0 0 dX12_restore_65 rfl rfl ?_
            refine y_getC C 11 99 fX12_restore_13 rfl rfl ft_11_1 sm_11_1 rfl hM122 dX12_restore_66 ?_
            refine y_bipush C dX12_restore_69 rfl ?_
            refine y_iconst C dX12_restore_71 ?_
            refine y_iastH C 45 3543 rfl rfl rfl ak_45 an_45 rfl _ _ hM122 (PM.w hpr rfl (hm_49_49 _ (by omega) (by omega))) (hs_45_49_49 _ (by omega) (by omega)) dX12_restore_72 (by omega) (by omega) (fun M131 eM131 hM131 => ?_)
            have pM131 := pi_n eM131 (hn_49_49 _ (by omega) (by omega)) (by omega)
            have u132C := cwa_w hM122 eM131 (by omega)
            refine y_iconst C dX12_restore_73 ?_
            exact hret _ _ _ _ dX12_restore_74 ⟨0, rfl, hM131, ((FR.rf.tr fM122 (by decide)).wI eM131 (by decide)), by omega⟩
          · refine j_aload_n C 0 0 dX12_restore_39 rfl rfl ?_
            refine y_getC C 11 99 fX12_restore_13 rfl rfl ft_11_1 sm_11_1 rfl hM122 dX12_restore_40 ?_
            refine j_iload_n C 2 2 dX12_restore_43 rfl rfl ?_
            refine j_aload_n C 0 0 dX12_restore_44 rfl rfl ?_
            refine y_getC C 11 99 fX12_restore_13 rfl rfl ft_11_1 sm_11_1 rfl hM122 dX12_restore_45 ?_
            refine y_sipush C dX12_restore_48 rfl ?_
            refine j_iload_n C 1 1 dX12_restore_51 rfl rfl ?_
            refine y_iconst C dX12_restore_52 ?_
            refine y_iadd C dX12_restore_53 ?_
            refine y_imul C dX12_restore_54 ?_
            refine j_iload_n C 2 2 dX12_restore_55 rfl rfl ?_
            refine y_iadd C dX12_restore_56 ?_
            refine y_ialdR C 45 3543 rfl rfl rfl ak_45 an_45 rfl hM122 dX12_restore_57 (by omega) (fun a125 ea125 la125 ua125 ba125 => ?_)
            obtain rfl : a125 = (M122.1 99 (((1181 * (a1 + 1)) + a121)).toNat).toInt := ea125
            refine y_iastR C 45 3543 rfl rfl rfl ak_45 an_45 rfl hM122 (hq45 _ _ rfl) dX12_restore_58 (by omega) (by omega) (by rw [← q_i a121 (a1 + 1) (by omega)]; assumption) (fun M126 eM126 hM126 => ?_)
            have u127 := cx_s (B := M101) (d := 0) (c2 := 99) (s := (1181 * (a1 + 1)).toNat) (k := a121) eM126 (by omega) (by omega) (by rw [sI_o, show (1181 * (a1 + 1)).toNat + (a121).toNat = (1181 * (a1 + 1) + a121).toNat by omega]; exact cx_r (M := M122) (B := M101) (d := 0) (c2 := 99) (s := (1181 * (a1 + 1)).toNat) (k := a121) (by omega) _ (by omega)) (by omega)
            refine y_iinc C 2 [(2, .int (sI (a121 + 1))), (0, .ref (ad 98)), (1, .int (sI a1))] dX12_restore_59 rfl (by decide) rfl ?_
            refine j_goto C 32 dX12_restore_62 (by decide) ?_
            refine j_lv [1, 2, 0] rfl ?_; exact ih119 (a121 + 1) M126 (by omega) hM126 ((FR.rf.tr fM122 (by decide)).wI eM126 (by decide))
      refine j_lv [1, 2, 0] rfl ?_; exact L120 2372 0 M101 (by omega) hM101 (FR.rf.wI eM101 (by decide))
    · refine y_bipush C dX12_restore_27 rfl ?_
      have u133C := cwa_c (M := M0) (N := M101) (show M101.1 99 = M0.1 99 from (wI_cell eM101 (by decide))) (by omega)
      exact hret _ _ _ _ dX12_restore_29 ⟨(-5), rfl, hM101, (FR.rf.wI eM101 (by decide)), by omega⟩
  · refine y_bipush C dX12_restore_15 rfl ?_
    have u134C := cwa_c (M := M0) (N := M101) (show M101.1 99 = M0.1 99 from (wI_cell eM101 (by decide))) (by omega)
    exact hret _ _ _ _ dX12_restore_17 ⟨(-2), rfl, hM101, (FR.rf.wI eM101 (by decide)), by omega⟩
