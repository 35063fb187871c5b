set_option maxHeartbeats 4000000 in
set_option maxRecDepth 100000 in
theorem k76_X1_reprice {l : Launch} {dC : Nat → ClassId} {dI : Nat → Nat → Nat} {ad : Nat → Nat} {cA : Nat → ClassId} (p0 : Int32) (p1 : Int32) : Ci l 1 yX1_reprice wsX1_reprice dC dI ad cA [.ref (ad 87), .ref (ad 12), .int p0, .int p1] M0 (fun r M' => (-11) = r ∧ M0 = M') := by
  refine ci_of (cc := cX1_reprice) (maxL := 5) (ty := .int) (lv := [(0, .ref (ad 87)), (1, .ref (ad 12)), (2, .int p0), (3, .int p1)]) (by decide) rfl (fun r M' hp => rfl) (Nat.le_of_ble_eq_true rfl) rfl ?_
  intro p e s m args below meth c A Q C hret
  refine j_aload_n C 1 1 dX1_reprice_0 rfl rfl ?_
  refine j_iload_n C 2 2 dX1_reprice_1 rfl rfl ?_
  refine j_callVi C (d := 0) (As := [.int p0]) (st := []) 12 (by decide) rfl (by decide) rfl (k55_X9_holds p0) gX1_reprice_X9_holds rfl hdX9_holds (by decide) (Nat.le_of_ble_eq_true rfl) dX1_reprice_2 rfl (fun r M' hp => ?_)
  obtain ⟨rfl, rfl⟩ := hp
  refine j_if_eq_t C 19 dX1_reprice_5 (by decide) (by decide) ?_
  refine j_bipush C (-11) dX1_reprice_19 (by decide) ?_
  exact hret _ _ _ _ dX1_reprice_21 ⟨rfl, rfl⟩
set_option maxHeartbeats 4000000 in
set_option maxRecDepth 100000 in
theorem ox_price {l : Launch} {dC : Nat → ClassId} {dI : Nat → Nat → Nat} {ad : Nat → Nat} {cA : Nat → ClassId} (p0 : Int32) (p1 : Int32) : Ci l 2 yX11_price wsX11_price dC dI ad cA [.ref (ad 0), .int p0, .int p1] M0 (fun r M' => r = fo_price p0 p1 ∧ MB M') := by
  refine ci_of (cc := cX11_price) (maxL := 3) (ty := .int) (lv := [(0, .ref (ad 0)), (1, .int p0), (2, .int p1)]) (by decide) rfl (fun r M' hp => rfl) (Nat.le_of_ble_eq_true rfl) rfl ?_
  intro p e s m args below meth c A Q C hret
  refine j_aload_n C 0 0 dX11_price_0 rfl rfl ?_
  refine j_getP C 10 15 fX11_price_40 (by decide) rfl (by decide) rfl rfl dX11_price_1 ?_
  refine j_aload_n C 0 0 dX11_price_4 rfl rfl ?_
  refine j_getP C 10 12 fX11_price_36 (by decide) rfl (by decide) rfl rfl dX11_price_5 ?_
  refine j_callVv C (d := 0) (As := [.ref (ad 12)]) (st := []) 15 (by decide) rfl (by decide) rfl (k49_X9_copyFrom) gX11_price_X9_copyFrom rfl hdX9_copyFrom (by decide) (Nat.le_of_ble_eq_true rfl) dX11_price_8 rfl (fun M' hp => ?_)
  obtain rfl := hp
  refine j_aload_n C 0 0 dX11_price_11 rfl rfl ?_
  refine j_aload_n C 0 0 dX11_price_12 rfl rfl ?_
  refine j_getP C 10 87 fX11_price_85 (by decide) rfl (by decide) rfl rfl dX11_price_13 ?_
  refine j_aload_n C 0 0 dX11_price_16 rfl rfl ?_
  refine j_getP C 10 12 fX11_price_36 (by decide) rfl (by decide) rfl rfl dX11_price_17 ?_
  refine j_iload_n C 1 1 dX11_price_20 rfl rfl ?_
  refine j_iload_n C 2 2 dX11_price_21 rfl rfl ?_
  refine j_callVi C (d := 1) (As := [.ref (ad 12), .int p0, .int p1]) (st := [.ref (ad 0)]) 87 (by decide) rfl (by decide) rfl (k76_X1_reprice p0 p1) gX11_price_X1_reprice rfl hdX1_reprice (by decide) (Nat.le_of_ble_eq_true rfl) dX11_price_22 rfl (fun r M' hp => ?_)
  obtain ⟨rfl, rfl⟩ := hp
  refine j_callVi C (d := 0) (As := [.int (-11)]) (st := []) 0 (by decide) rfl (by decide) rfl (k51_X11_settle) gX11_price_X11_settle rfl hdX11_settle (by decide) (Nat.le_of_ble_eq_true rfl) dX11_price_25 rfl (fun r M' hp => ?_)
  obtain ⟨rfl, rfl⟩ := hp
  exact hret _ _ _ _ dX11_price_28 ⟨by first | rfl | (unfold fo_price; rw [if_pos (by rw [nI_toInt (by omega)]; omega), nI_clamp (by omega)]; exact hrel) | (unfold fo_price; (repeat' split) <;> first | rfl | (exfalso; omega) | (exfalso; simp_all; done)), MB_0⟩
set_option maxHeartbeats 4000000 in
set_option maxRecDepth 100000 in
theorem k80_X9_copyFrom {l : Launch} {dC : Nat → ClassId} {dI : Nat → Nat → Nat} {ad : Nat → Nat} {cA : Nat → ClassId} (p0 : Int32) : Cv l 0 yX9_copyFrom wsX9_copyFrom dC dI ad cA [.ref (ad 20), .ref (ad 15)] (wI M0 12 7 p0) (fun M' => (wI M0 12 7 p0) = M') := by
  refine cv_of (cc := cX9_copyFrom) (maxL := 3) (lv := [(0, .ref (ad 20)), (1, .ref (ad 15))]) (by decide) rfl (Nat.le_of_ble_eq_true rfl) rfl ?_
  intro p e s m args below meth c A Q C hret
  refine j_aload_n C 0 0 dX9_copyFrom_0 rfl rfl ?_
  refine j_aload_n C 1 1 dX9_copyFrom_1 rfl rfl ?_
  refine j_getI C 8 0 fX9_copyFrom_9 (by decide) rfl (by decide) rfl rfl dX9_copyFrom_2 ?_
  refine j_putI C 8 qX9_copyFrom_9 rfl rfl (by decide) rfl (by decide) rfl dX9_copyFrom_5 ?_
  refine z_noI rfl ?_
  refine j_iconst C 0 dX9_copyFrom_8 (by decide) ?_
  refine j_istore_n C 2 [(2, .int 0), (0, .ref (ad 20)), (1, .ref (ad 15))] dX9_copyFrom_9 rfl (by decide) rfl ?_
  refine j_lv [1, 2, 0] rfl ?_
  have L : ∀ (n i : Nat), 0 ≤ i → i + n = 8 → jj p l e (cn_R 0) s m args below meth c 0 0 Q 3 dC dI ad cA A (wI M0 12 7 p0) 10 [(0, .ref (ad 20)), (1, .ref (ad 15)), (2, .int (nI i))] [] := by
    intro n
    induction n with
    | zero =>
      intro i h1 h2
      obtain rfl : i = 8 := by omega
      refine j_iload_n C 2 2 dX9_copyFrom_10 rfl rfl ?_
      refine j_bipush C 8 dX9_copyFrom_11 (by decide) ?_
      refine j_icmp_ge_t C 46 dX9_copyFrom_13 (by decide) (by decide) ?_
      refine j_aload_n C 0 0 dX9_copyFrom_46 rfl rfl ?_
      refine j_aload_n C 1 1 dX9_copyFrom_47 rfl rfl ?_
      refine j_getI C 8 0 fX9_copyFrom_22 (by decide) rfl (by decide) rfl rfl dX9_copyFrom_48 ?_
      refine j_putI C 8 qX9_copyFrom_22 rfl rfl (by decide) rfl (by decide) rfl dX9_copyFrom_51 ?_
      refine z_noI rfl ?_
      refine j_aload_n C 0 0 dX9_copyFrom_54 rfl rfl ?_
      refine j_aload_n C 1 1 dX9_copyFrom_55 rfl rfl ?_
      refine j_getI C 8 0 fX9_copyFrom_25 (by decide) rfl (by decide) rfl rfl dX9_copyFrom_56 ?_
      refine j_putI C 8 qX9_copyFrom_25 rfl rfl (by decide) rfl (by decide) rfl dX9_copyFrom_59 ?_
      refine z_noI rfl ?_
      refine j_aload_n C 0 0 dX9_copyFrom_62 rfl rfl ?_
      refine j_aload_n C 1 1 dX9_copyFrom_63 rfl rfl ?_
      refine j_getI C 8 0 fX9_copyFrom_28 (by decide) rfl (by decide) rfl rfl dX9_copyFrom_64 ?_
      refine j_putI C 8 qX9_copyFrom_28 rfl rfl (by decide) rfl (by decide) rfl dX9_copyFrom_67 ?_
      refine z_noI rfl ?_
      refine j_aload_n C 0 0 dX9_copyFrom_70 rfl rfl ?_
      refine j_aload_n C 1 1 dX9_copyFrom_71 rfl rfl ?_
      refine j_getI C 8 0 fX9_copyFrom_31 (by decide) rfl (by decide) rfl rfl dX9_copyFrom_72 ?_
      refine j_putI C 8 qX9_copyFrom_31 rfl rfl (by decide) rfl (by decide) rfl dX9_copyFrom_75 ?_
      refine z_noI rfl ?_
      refine j_aload_n C 0 0 dX9_copyFrom_78 rfl rfl ?_
      refine j_aload_n C 1 1 dX9_copyFrom_79 rfl rfl ?_
      refine j_getI C 8 0 fX9_copyFrom_34 (by decide) rfl (by decide) rfl rfl dX9_copyFrom_80 ?_
      refine j_putI C 8 qX9_copyFrom_34 rfl rfl (by decide) rfl (by decide) rfl dX9_copyFrom_83 ?_
      refine z_noI rfl ?_
      refine j_aload_n C 0 0 dX9_copyFrom_86 rfl rfl ?_
      refine j_aload_n C 1 1 dX9_copyFrom_87 rfl rfl ?_
      refine j_getI C 8 0 fX9_copyFrom_37 (by decide) rfl (by decide) rfl rfl dX9_copyFrom_88 ?_
      refine j_putI C 8 qX9_copyFrom_37 rfl rfl (by decide) rfl (by decide) rfl dX9_copyFrom_91 ?_
      refine z_noI rfl ?_
      exact hret _ _ _ dX9_copyFrom_94 rfl
    | succ n ih =>
      intro i h1 h2
      refine j_iload_n C 2 2 dX9_copyFrom_10 rfl rfl ?_
      refine j_bipush C 8 dX9_copyFrom_11 (by decide) ?_
      refine z_icmp_ge C 46 (i : Int) 8 (nI_toInt (n := i) (by omega)) (by decide) dX9_copyFrom_13 (by decide) (fun h1 => ?_) (fun h1 => ?_)
      · exfalso; omega
      · refine j_aload_n C 0 0 dX9_copyFrom_16 rfl rfl ?_
        refine j_getP C 8 21 fX9_copyFrom_15 (by decide) rfl (by decide) rfl rfl dX9_copyFrom_17 ?_
        refine j_iload_n C 2 2 dX9_copyFrom_20 rfl rfl ?_
        refine j_aload_n C 1 1 dX9_copyFrom_21 rfl rfl ?_
        refine j_getP C 8 16 fX9_copyFrom_15 (by decide) rfl (by decide) rfl rfl dX9_copyFrom_22 ?_
        refine j_iload_n C 2 2 dX9_copyFrom_25 rfl rfl ?_
        refine x_iald C i 8 0 (by decide) rfl rfl rfl (by omega) (by decide) rfl dX9_copyFrom_26 ?_
        refine x_iast C i 8 (by decide) rfl rfl rfl (by omega) (by decide) dX9_copyFrom_27 ?_
        refine z_noI rfl ?_
        refine j_aload_n C 0 0 dX9_copyFrom_28 rfl rfl ?_
        refine j_getP C 8 22 fX9_copyFrom_19 (by decide) rfl (by decide) rfl rfl dX9_copyFrom_29 ?_
        refine j_iload_n C 2 2 dX9_copyFrom_32 rfl rfl ?_
        refine j_aload_n C 1 1 dX9_copyFrom_33 rfl rfl ?_
        refine j_getP C 8 17 fX9_copyFrom_19 (by decide) rfl (by decide) rfl rfl dX9_copyFrom_34 ?_
        refine j_iload_n C 2 2 dX9_copyFrom_37 rfl rfl ?_
        refine x_iald C i 8 0 (by decide) rfl rfl rfl (by omega) (by decide) rfl dX9_copyFrom_38 ?_
        refine x_iast C i 8 (by decide) rfl rfl rfl (by omega) (by decide) dX9_copyFrom_39 ?_
        refine z_noI rfl ?_
        refine j_iinc C 2 (nI (i + 1)) [(2, .int (nI (i + 1))), (0, .ref (ad 20)), (1, .ref (ad 15))] dX9_copyFrom_40 rfl (nI_1 i) (by decide) rfl ?_
        refine j_goto C 10 dX9_copyFrom_43 (by decide) ?_
        refine j_lv [1, 2, 0] rfl ?_
        exact ih (i + 1) (by omega) (by omega)
  exact L (8 - 0) 0 (by omega) (by omega)
set_option maxHeartbeats 4000000 in
set_option maxRecDepth 100000 in
theorem k81_X6_keep {l : Launch} {dC : Nat → ClassId} {dI : Nat → Nat → Nat} {ad : Nat → Nat} {cA : Nat → ClassId} (p0 : Int32) : Cv l 1 yX6_keep wsX6_keep dC dI ad cA [.ref (ad 18), .ref (ad 15)] (wI M0 12 7 p0) (fun M' => (wI (wI (wI M0 12 7 p0) 18 1 1) 18 2 1) = M') := by
  refine cv_of (cc := cX6_keep) (maxL := 2) (lv := [(0, .ref (ad 18)), (1, .ref (ad 15))]) (by decide) rfl (Nat.le_of_ble_eq_true rfl) rfl ?_
  intro p e s m args below meth c A Q C hret
  refine j_aload_n C 0 0 dX6_keep_0 rfl rfl ?_
  refine j_getP C 5 19 fX6_keep_11 (by decide) rfl (by decide) rfl rfl dX6_keep_1 ?_
  refine j_aload_n C 0 0 dX6_keep_4 rfl rfl ?_
  refine j_getI C 5 0 fX6_keep_17 (by decide) rfl (by decide) rfl rfl dX6_keep_5 ?_
  refine x_aald C 0 10 20 (by decide) (by decide) rfl rfl (by decide) (by decide) rfl dX6_keep_8 ?_
  refine j_aload_n C 1 1 dX6_keep_9 rfl rfl ?_
  refine j_callVv C (d := 0) (As := [.ref (ad 15)]) (st := []) 20 (by decide) rfl (by decide) rfl (k80_X9_copyFrom p0) gX6_keep_X9_copyFrom rfl hdX9_copyFrom (by decide) (Nat.le_of_ble_eq_true rfl) dX6_keep_10 rfl (fun M' hp => ?_)
  obtain rfl := hp
  refine j_aload_n C 0 0 dX6_keep_13 rfl rfl ?_
  refine j_aload_n C 0 0 dX6_keep_14 rfl rfl ?_
  refine j_getI C 5 0 fX6_keep_17 (by decide) rfl (by decide) rfl rfl dX6_keep_15 ?_
  refine j_iconst C 1 dX6_keep_18 (by decide) ?_
  refine z_iadd C 1 (by decide) dX6_keep_19 ?_
  refine j_bipush C 10 dX6_keep_20 (by decide) ?_
  refine z_irem C 1 (by decide) (by decide) dX6_keep_22 ?_
  refine j_putI C 5 qX6_keep_17 rfl rfl (by decide) rfl (by decide) rfl dX6_keep_23 ?_
  refine j_aload_n C 0 0 dX6_keep_26 rfl rfl ?_
  refine j_aload_n C 0 0 dX6_keep_27 rfl rfl ?_
  refine j_getI C 5 0 fX6_keep_21 (by decide) rfl (by decide) rfl rfl dX6_keep_28 ?_
  refine j_iconst C 1 dX6_keep_31 (by decide) ?_
  refine z_iadd C 1 (by decide) dX6_keep_32 ?_
  refine j_bipush C 10 dX6_keep_33 (by decide) ?_
  refine j_mmin C 1 (by decide) (by decide +kernel) (by decide +kernel) (by decide +kernel) (by decide +kernel) (by decide) (Nat.le_of_ble_eq_true rfl) dX6_keep_35 ?_
  refine j_putI C 5 qX6_keep_21 rfl rfl (by decide) rfl (by decide) rfl dX6_keep_38 ?_
  exact hret _ _ _ dX6_keep_41 rfl
set_option maxHeartbeats 4000000 in
set_option maxRecDepth 100000 in
theorem k82_X7_together {l : Launch} {dC : Nat → ClassId} {dI : Nat → Nat → Nat} {ad : Nat → Nat} {cA : Nat → ClassId} (p0 : Int32) : Ci l 0 yX7_together wsX7_together dC dI ad cA [.ref (ad 2)] (wI M0 12 7 (p0 + 1)) (fun r M' => 0 = r ∧ (wI M0 12 7 (p0 + 1)) = M') := by
  refine ci_of (cc := cX7_together) (maxL := 3) (ty := .int) (lv := [(0, .ref (ad 2))]) (by decide) rfl (fun r M' hp => rfl) (Nat.le_of_ble_eq_true rfl) rfl ?_
  intro p e s m args below meth c A Q C hret
  refine j_iconst C 0 dX7_together_0 (by decide) ?_
  refine j_istore_n C 1 [(1, .int 0), (0, .ref (ad 2))] dX7_together_1 rfl (by decide) rfl ?_
  refine j_iconst C 0 dX7_together_2 (by decide) ?_
  refine j_istore_n C 2 [(2, .int 0), (1, .int 0), (0, .ref (ad 2))] dX7_together_3 rfl (by decide) rfl ?_
  refine j_iload_n C 0 2 dX7_together_4 rfl rfl ?_
  refine j_aload_n C 2 0 dX7_together_5 rfl rfl ?_
  refine j_getI C 6 0 fX7_together_9 (by decide) rfl (by decide) rfl rfl dX7_together_6 ?_
  refine j_icmp_ge_t C 27 dX7_together_9 (by decide) (by decide) ?_
  refine j_iload_n C 1 1 dX7_together_27 rfl rfl ?_
  exact hret _ _ _ _ dX7_together_28 ⟨rfl, rfl⟩
set_option maxHeartbeats 4000000 in
set_option maxRecDepth 100000 in
theorem k83_X1_passDay {l : Launch} {dC : Nat → ClassId} {dI : Nat → Nat → Nat} {ad : Nat → Nat} {cA : Nat → ClassId} (p0 : Int32) : Ci l 1 yX1_passDay wsX1_passDay dC dI ad cA [.ref (ad 87), .ref (ad 2), .ref (ad 12)] (wI M0 12 7 p0) (fun r M' => (-1) = r ∧ (wI M0 12 7 (p0 + 1)) = M') := by
  refine ci_of (cc := cX1_passDay) (maxL := 4) (ty := .int) (lv := [(0, .ref (ad 87)), (1, .ref (ad 2)), (2, .ref (ad 12))]) (by decide) rfl (fun r M' hp => rfl) (Nat.le_of_ble_eq_true rfl) rfl ?_
  intro p e s m args below meth c A Q C hret
  refine j_aload_n C 2 2 dX1_passDay_0 rfl rfl ?_
  refine j_dup C dX1_passDay_1 rfl ?_
  refine j_getI C 8 p0 fX1_passDay_63 (by decide) rfl (by decide) rfl rfl dX1_passDay_2 ?_
  refine j_iconst C 1 dX1_passDay_5 (by decide) ?_
  refine z_iadd C (p0 + 1) rfl dX1_passDay_6 ?_
  refine j_putI C 8 qX1_passDay_63 rfl rfl (by decide) rfl (by decide) rfl dX1_passDay_7 ?_
  refine j_M (M' := (wI M0 12 7 (p0 + 1))) (wI_w _ _ _ _ _) ?_
  refine j_aload_n C 1 1 dX1_passDay_10 rfl rfl ?_
  refine j_callVi C (d := 0) (As := []) (st := []) 2 (by decide) rfl (by decide) rfl (k82_X7_together p0) gX1_passDay_X7_together rfl hdX7_together (by decide) (Nat.le_of_ble_eq_true rfl) dX1_passDay_11 rfl (fun r M' hp => ?_)
  obtain ⟨rfl, rfl⟩ := hp
  refine j_istore_n C 3 [(3, .int 0), (0, .ref (ad 87)), (1, .ref (ad 2)), (2, .ref (ad 12))] dX1_passDay_14 rfl (by decide) rfl ?_
  refine j_iload_n C 0 3 dX1_passDay_15 rfl rfl ?_
  refine j_if_le_t C 32 dX1_passDay_16 (by decide) (by decide) ?_
  refine j_iconst C (-1) dX1_passDay_32 (by decide) ?_
  exact hret _ _ _ _ dX1_passDay_33 ⟨rfl, rfl⟩
set_option maxHeartbeats 4000000 in
set_option maxRecDepth 100000 in
theorem k84_X1_visitBy {l : Launch} {dC : Nat → ClassId} {dI : Nat → Nat → Nat} {ad : Nat → Nat} {cA : Nat → ClassId} (p0 : Int32) : Ci l 0 yX1_visitBy wsX1_visitBy dC dI ad cA [.ref (ad 87), .ref (ad 2), .ref (ad 12), .int (-1)] (wI M0 12 7 (p0 + 1)) (fun r M' => (-11) = r ∧ (wI M0 12 7 (p0 + 1)) = M') := by
  refine ci_of (cc := cX1_visitBy) (maxL := 5) (ty := .int) (lv := [(0, .ref (ad 87)), (1, .ref (ad 2)), (2, .ref (ad 12)), (3, .int (-1))]) (by decide) rfl (fun r M' hp => rfl) (Nat.le_of_ble_eq_true rfl) rfl ?_
  intro p e s m args below meth c A Q C hret
  refine j_iload_n C 3 3 dX1_visitBy_0 rfl rfl ?_
  refine j_if_lt_t C 12 dX1_visitBy_1 (by decide) (by decide) ?_
  refine j_bipush C (-11) dX1_visitBy_12 (by decide) ?_
  exact hret _ _ _ _ dX1_visitBy_14 ⟨rfl, rfl⟩
set_option maxHeartbeats 4000000 in
set_option maxRecDepth 100000 in
theorem k85_X1_carryOut {l : Launch} {dC : Nat → ClassId} {dI : Nat → Nat → Nat} {ad : Nat → Nat} {cA : Nat → ClassId} (p0 : Int32) : Ci l 2 yX1_carryOut wsX1_carryOut dC dI ad cA [.ref (ad 87), .ref (ad 2), .ref (ad 12), .long (-1)] (wI M0 12 7 p0) (fun r M' => 0 = r ∧ (wI M0 12 7 (p0 + 1)) = M') := by
  refine ci_of (cc := cX1_carryOut) (maxL := 7) (ty := .int) (lv := [(0, .ref (ad 87)), (1, .ref (ad 2)), (2, .ref (ad 12)), (3, .long (-1))]) (by decide) rfl (fun r M' hp => rfl) (Nat.le_of_ble_eq_true rfl) rfl ?_
  intro p e s m args below meth c A Q C hret
  refine j_lload_n C 3 3 dX1_carryOut_0 rfl rfl ?_
  refine j_ldc2 C (-1) dX1_carryOut_1 (by decide +kernel) ?_
  refine z_lcmp C 0 (by decide) dX1_carryOut_4 ?_
  refine j_if_lt_f C 16 dX1_carryOut_5 (by decide) (by decide) ?_
  refine j_lload_n C 3 3 dX1_carryOut_8 rfl rfl ?_
  refine j_ldc2 C 1999 dX1_carryOut_9 (by decide +kernel) ?_
  refine z_lcmp C (-1) (by decide) dX1_carryOut_12 ?_
  refine j_if_le_t C 19 dX1_carryOut_13 (by decide) (by decide) ?_
  refine j_lload_n C 3 3 dX1_carryOut_19 rfl rfl ?_
  refine z_l2i C (-1) (by decide) dX1_carryOut_20 ?_
  refine j_istore C 5 [(5, .int (-1)), (0, .ref (ad 87)), (1, .ref (ad 2)), (2, .ref (ad 12)), (3, .long (-1))] dX1_carryOut_21 (by decide) rfl ?_
  refine j_iload C 0 dX1_carryOut_23 rfl ?_
  refine j_iconst C (-1) dX1_carryOut_25 (by decide) ?_
  refine j_icmp_ne_f C 54 dX1_carryOut_26 (by decide) (by decide) ?_
  refine j_aload_n C 1 0 dX1_carryOut_29 rfl rfl ?_
  refine j_aload_n C 2 1 dX1_carryOut_30 rfl rfl ?_
  refine j_aload_n C 3 2 dX1_carryOut_31 rfl rfl ?_
  refine j_callVi C (d := 1) (As := [.ref (ad 2), .ref (ad 12)]) (st := []) 87 (by decide) rfl (by decide) rfl (k83_X1_passDay p0) gX1_carryOut_X1_passDay rfl hdX1_passDay (by decide) (Nat.le_of_ble_eq_true rfl) dX1_carryOut_32 rfl (fun r M' hp => ?_)
  obtain ⟨rfl, rfl⟩ := hp
  refine j_istore C 6 [(6, .int (-1)), (5, .int (-1)), (0, .ref (ad 87)), (1, .ref (ad 2)), (2, .ref (ad 12)), (3, .long (-1))] dX1_carryOut_35 (by decide) rfl ?_
  refine j_aload_n C 2 0 dX1_carryOut_37 rfl rfl ?_
  refine j_aload_n C 3 1 dX1_carryOut_38 rfl rfl ?_
  refine j_aload_n C 4 2 dX1_carryOut_39 rfl rfl ?_
  refine j_iload C 0 dX1_carryOut_40 rfl ?_
  refine j_callVi C (d := 0) (As := [.ref (ad 2), .ref (ad 12), .int (-1)]) (st := []) 87 (by decide) rfl (by decide) rfl (k84_X1_visitBy p0) gX1_carryOut_X1_visitBy rfl hdX1_visitBy (by decide) (Nat.le_of_ble_eq_true rfl) dX1_carryOut_42 rfl (fun r M' hp => ?_)
  obtain ⟨rfl, rfl⟩ := hp
  refine j_if_lt_t C 52 dX1_carryOut_45 (by decide) (by decide) ?_
  refine j_iconst C 0 dX1_carryOut_52 (by decide) ?_
  exact hret _ _ _ _ dX1_carryOut_53 ⟨rfl, rfl⟩
set_option maxHeartbeats 4000000 in
set_option maxRecDepth 100000 in
theorem ox_days {l : Launch} {dC : Nat → ClassId} {dI : Nat → Nat → Nat} {ad : Nat → Nat} {cA : Nat → ClassId} (p0 : Int32) : Ci l 3 yX11_days wsX11_days dC dI ad cA [.ref (ad 0), .int p0] M0 (fun r M' => r = fo_days p0 ∧ MB M') := by
  refine ci_of (cc := cX11_days) (maxL := 4) (ty := .int) (lv := [(0, .ref (ad 0)), (1, .int p0)]) (by decide) rfl (fun r M' hp => rfl) (Nat.le_of_ble_eq_true rfl) rfl ?_
  intro p e s m args below meth c A Q C hret
  refine j_iload_n C 1 1 dX11_days_0 rfl rfl ?_
  refine j_iconst C 1 dX11_days_1 (by decide) ?_
  refine z_icmp_lt C 11 p0.toInt 1 rfl (by decide) dX11_days_2 (by decide) (fun h1 => ?_) (fun h1 => ?_)
  · refine j_bipush C (-3) dX11_days_11 (by decide) ?_
    exact hret _ _ _ _ dX11_days_13 ⟨by first | rfl | (unfold fo_days; rw [if_pos (by rw [nI_toInt (by omega)]; omega), nI_clamp (by omega)]; exact hrel) | (unfold fo_days; (repeat' split) <;> first | rfl | (exfalso; omega) | (exfalso; simp_all; done)), MB_0⟩
  · refine j_iload_n C 1 1 dX11_days_5 rfl rfl ?_
    refine j_bipush C 99 dX11_days_6 (by decide) ?_
    refine z_icmp_le C 14 p0.toInt 99 rfl (by decide) dX11_days_8 (by decide) (fun h2 => ?_) (fun h2 => ?_)
    · refine j_aload_n C 0 0 dX11_days_14 rfl rfl ?_
      refine j_getP C 10 15 fX11_days_40 (by decide) rfl (by decide) rfl rfl dX11_days_15 ?_
      refine j_aload_n C 0 0 dX11_days_18 rfl rfl ?_
      refine j_getP C 10 12 fX11_days_36 (by decide) rfl (by decide) rfl rfl dX11_days_19 ?_
      refine j_callVv C (d := 0) (As := [.ref (ad 12)]) (st := []) 15 (by decide) rfl (by decide) rfl (k49_X9_copyFrom) gX11_days_X9_copyFrom rfl hdX9_copyFrom (by decide) (Nat.le_of_ble_eq_true rfl) dX11_days_22 rfl (fun M' hp => ?_)
      obtain rfl := hp
      refine j_iconst C 0 dX11_days_25 (by decide) ?_
      refine j_istore_n C 2 [(2, .int 0), (0, .ref (ad 0)), (1, .int p0)] dX11_days_26 rfl (by decide) rfl ?_
      refine j_iconst C 0 dX11_days_27 (by decide) ?_
      refine j_istore_n C 3 [(3, .int 0), (2, .int 0), (0, .ref (ad 0)), (1, .int p0)] dX11_days_28 rfl (by decide) rfl ?_
      obtain ⟨j, hja, hjb, rfl⟩ := z_n31 (x := p0) (a := 1) (b := 99) (by omega) (by omega) (by decide)
      show jj _ _ _ _ _ _ _ _ _ _ _ _ _ _ _ _ _ _ _ M0 29 [(3, .int 0), (2, .int 0), (0, .ref (ad 0)), (1, .int (nI j))] []
      refine j_lv [2, 3, 1, 0] rfl ?_
      refine j_M (M' := (wI M0 12 7 0)) (by refine Prod.ext ?_ (Prod.ext ?_ ?_) <;> funext a b <;> simp only [u2] <;> (repeat' split) <;> first | rfl | omega | (subst_vars; rfl) | (subst_vars; contradiction)) ?_
      have L : ∀ (n i : Nat), 0 ≤ i → i + n = j → ∀ (g0 : Int32), jj p l e (cn_R 3) s m args below meth c 0 0 Q 4 dC dI ad cA A (wI M0 12 7 g0) 29 [(0, .ref (ad 0)), (1, .int (nI j)), (2, .int 0), (3, .int (nI i))] [] := by
        intro n
        induction n with
        | zero =>
          intro i h1 h2 g0
          obtain rfl : j = i := by omega
          refine j_iload_n C 3 3 dX11_days_29 rfl rfl ?_
          refine j_iload_n C 1 1 dX11_days_30 rfl rfl ?_
          refine z_icmp_ge C 61 (j : Int) (j : Int) (nI_toInt (n := j) (by omega)) (nI_toInt (n := j) (by omega)) dX11_days_31 (by decide) (fun h3 => ?_) (fun h3 => ?_)
          · refine j_aload_n C 0 0 dX11_days_61 rfl rfl ?_
            refine j_getP C 10 18 fX11_days_46 (by decide) rfl (by decide) rfl rfl dX11_days_62 ?_
            refine j_aload_n C 0 0 dX11_days_65 rfl rfl ?_
            refine j_getP C 10 15 fX11_days_40 (by decide) rfl (by decide) rfl rfl dX11_days_66 ?_
            refine j_callVv C (d := 1) (As := [.ref (ad 15)]) (st := []) 18 (by decide) rfl (by decide) rfl (k81_X6_keep g0) gX11_days_X6_keep rfl hdX6_keep (by decide) (Nat.le_of_ble_eq_true rfl) dX11_days_69 rfl (fun M' hp => ?_)
            obtain rfl := hp
            refine j_iload_n C 2 2 dX11_days_72 rfl rfl ?_
            exact hret _ _ _ _ dX11_days_73 ⟨by first | rfl | (unfold fo_days; rw [if_pos (by rw [nI_toInt (by omega)]; omega), nI_clamp (by omega)]; exact hrel) | (unfold fo_days; (repeat' split) <;> first | rfl | (exfalso; omega) | (exfalso; simp_all; done)), (MB_I (MB_I (MB_I MB_0 (by decide)) (by decide)) (by decide))⟩
          · exfalso; omega
        | succ n ih =>
          intro i h1 h2 g0
          refine j_iload_n C 3 3 dX11_days_29 rfl rfl ?_
          refine j_iload_n C 1 1 dX11_days_30 rfl rfl ?_
          refine z_icmp_ge C 61 (i : Int) (j : Int) (nI_toInt (n := i) (by omega)) (nI_toInt (n := j) (by omega)) dX11_days_31 (by decide) (fun h4 => ?_) (fun h4 => ?_)
          · exfalso; omega
          · refine j_iload_n C 2 2 dX11_days_34 rfl rfl ?_
            refine j_aload_n C 0 0 dX11_days_35 rfl rfl ?_
            refine j_getP C 10 87 fX11_days_85 (by decide) rfl (by decide) rfl rfl dX11_days_36 ?_
            refine j_aload_n C 0 0 dX11_days_39 rfl rfl ?_
            refine j_getP C 10 2 fX11_days_26 (by decide) rfl (by decide) rfl rfl dX11_days_40 ?_
            refine j_aload_n C 0 0 dX11_days_43 rfl rfl ?_
            refine j_getP C 10 12 fX11_days_36 (by decide) rfl (by decide) rfl rfl dX11_days_44 ?_
            refine j_ldc2 C (-1) dX11_days_47 (by decide +kernel) ?_
            refine j_callVi C (d := 2) (As := [.ref (ad 2), .ref (ad 12), .long (-1)]) (st := [.int 0]) 87 (by decide) rfl (by decide) rfl (k85_X1_carryOut g0) gX11_days_X1_carryOut rfl hdX1_carryOut (by decide) (Nat.le_of_ble_eq_true rfl) dX11_days_50 rfl (fun r M' hp => ?_)
            obtain ⟨rfl, rfl⟩ := hp
            refine z_iadd C 0 (by decide) dX11_days_53 ?_
            refine j_istore_n C 2 [(2, .int 0), (0, .ref (ad 0)), (1, .int (nI j)), (3, .int (nI i))] dX11_days_54 rfl (by decide) rfl ?_
            refine j_iinc C 3 (nI (i + 1)) [(3, .int (nI (i + 1))), (2, .int 0), (0, .ref (ad 0)), (1, .int (nI j))] dX11_days_55 rfl (nI_1 i) (by decide) rfl ?_
            refine j_goto C 29 dX11_days_58 (by decide) ?_
            refine j_lv [2, 3, 1, 0] rfl ?_
            exact ih (i + 1) (by omega) (by omega) (g0 + 1)
      exact L (j - 0) 0 (by omega) (by omega) 0
    · refine j_bipush C (-3) dX11_days_11 (by decide) ?_
      exact hret _ _ _ _ dX11_days_13 ⟨by first | rfl | (unfold fo_days; rw [if_pos (by rw [nI_toInt (by omega)]; omega), nI_clamp (by omega)]; exact hrel) | (unfold fo_days; (repeat' split) <;> first | rfl | (exfalso; omega) | (exfalso; simp_all; done)), MB_0⟩
set_option maxHeartbeats 4000000 in
set_option maxRecDepth 100000 in
theorem ox_undo {l : Launch} {dC : Nat → ClassId} {dI : Nat → Nat → Nat} {ad : Nat → Nat} {cA : Nat → ClassId} (p0 : Int32) : Ci l 0 yX11_undo wsX11_undo dC dI ad cA [.ref (ad 0), .int p0] M0 (fun r M' => r = fo_undo p0 ∧ MB M') := by
  refine ci_of (cc := cX11_undo) (maxL := 2) (ty := .int) (lv := [(0, .ref (ad 0)), (1, .int p0)]) (by decide) rfl (fun r M' hp => rfl) (Nat.le_of_ble_eq_true rfl) rfl ?_
  intro p e s m args below meth c A Q C hret
  refine j_iload_n C 1 1 dX11_undo_0 rfl rfl ?_
  refine j_iconst C 1 dX11_undo_1 (by decide) ?_
  refine z_icmp_lt C 16 p0.toInt 1 rfl (by decide) dX11_undo_2 (by decide) (fun h1 => ?_) (fun h1 => ?_)
  · refine j_bipush C (-3) dX11_undo_16 (by decide) ?_
    exact hret _ _ _ _ dX11_undo_18 ⟨by first | rfl | (unfold fo_undo; rw [if_pos (by rw [nI_toInt (by omega)]; omega), nI_clamp (by omega)]; exact hrel) | (unfold fo_undo; (repeat' split) <;> first | rfl | (exfalso; omega) | (exfalso; simp_all; done)), MB_0⟩
  · refine j_iload_n C 1 1 dX11_undo_5 rfl rfl ?_
    refine j_aload_n C 0 0 dX11_undo_6 rfl rfl ?_
    refine j_getP C 10 18 fX11_undo_46 (by decide) rfl (by decide) rfl rfl dX11_undo_7 ?_
    refine j_getI C 5 0 fX11_undo_225 (by decide) rfl (by decide) rfl rfl dX11_undo_10 ?_
    refine z_icmp_le C 19 p0.toInt 0 rfl (by decide) dX11_undo_13 (by decide) (fun h2 => ?_) (fun h2 => ?_)
    · exfalso; omega
    · refine j_bipush C (-3) dX11_undo_16 (by decide) ?_
      exact hret _ _ _ _ dX11_undo_18 ⟨by first | rfl | (unfold fo_undo; rw [if_pos (by rw [nI_toInt (by omega)]; omega), nI_clamp (by omega)]; exact hrel) | (unfold fo_undo; (repeat' split) <;> first | rfl | (exfalso; omega) | (exfalso; simp_all; done)), MB_0⟩
set_option maxHeartbeats 4000000 in
set_option maxRecDepth 100000 in
theorem k94_X11_isTray {l : Launch} {dC : Nat → ClassId} {dI : Nat → Nat → Nat} {ad : Nat → Nat} {cA : Nat → ClassId} (p0 : Int32) : Ci l 0 yX11_isTray wsX11_isTray dC dI ad cA [.int p0] M0 (fun r M' => ((p0.toInt < 0) ∧ 0 = r ∧ M0 = M') ∨ ((¬ p0.toInt < 0 ∧ 4 ≤ p0.toInt) ∧ 0 = r ∧ M0 = M') ∨ ((¬ p0.toInt < 0 ∧ ¬ 4 ≤ p0.toInt) ∧ 1 = r ∧ M0 = M')) := by
  refine ci_of (cc := cX11_isTray) (maxL := 1) (ty := .boolean) (lv := [(0, .int p0)]) (by decide) rfl (fun r M' hp => by rcases hp with ⟨-, rfl, rfl⟩ | ⟨-, rfl, rfl⟩ | ⟨-, rfl, rfl⟩ <;> rfl) (Nat.le_of_ble_eq_true rfl) rfl ?_
  intro p e s m args below meth c A Q C hret
  refine j_iload_n C 0 0 dX11_isTray_0 rfl rfl ?_
  refine z_if_lt C 13 p0.toInt rfl dX11_isTray_1 (by decide) (fun h1 => ?_) (fun h1 => ?_)
  · refine j_iconst C 0 dX11_isTray_13 (by decide) ?_
    exact hret _ _ _ _ dX11_isTray_14 (Or.inl ⟨h1, rfl, rfl⟩)
  · refine j_iload_n C 0 0 dX11_isTray_4 rfl rfl ?_
    refine j_iconst C 4 dX11_isTray_5 (by decide) ?_
    refine z_icmp_ge C 13 p0.toInt 4 rfl (by decide) dX11_isTray_6 (by decide) (fun h2 => ?_) (fun h2 => ?_)
    · refine j_iconst C 0 dX11_isTray_13 (by decide) ?_
      exact hret _ _ _ _ dX11_isTray_14 (Or.inr (Or.inl ⟨⟨h1, h2⟩, rfl, rfl⟩))
    · refine j_iconst C 1 dX11_isTray_9 (by decide) ?_
      refine j_goto C 14 dX11_isTray_10 (by decide) ?_
      exact hret _ _ _ _ dX11_isTray_14 (Or.inr (Or.inr ⟨⟨h1, h2⟩, rfl, rfl⟩))
set_option maxHeartbeats 4000000 in
set_option maxRecDepth 100000 in
theorem k95_X10_isMissing {l : Launch} {dC : Nat → ClassId} {dI : Nat → Nat → Nat} {ad : Nat → Nat} {cA : Nat → ClassId} : Ci l 0 yX10_isMissing wsX10_isMissing dC dI ad cA [.ref (ad 51)] M0 (fun r M' => 1 = r ∧ M0 = M') := by
  refine ci_of (cc := cX10_isMissing) (maxL := 1) (ty := .boolean) (lv := [(0, .ref (ad 51))]) (by decide) rfl (fun r M' hp => by obtain ⟨rfl, rfl⟩ := hp; rfl) (Nat.le_of_ble_eq_true rfl) rfl ?_
  intro p e s m args below meth c A Q C hret
  refine j_aload_n C 0 0 dX10_isMissing_0 rfl rfl ?_
  refine j_getI C 9 (-1) fX10_isMissing_19 (by decide) rfl (by decide) rfl rfl dX10_isMissing_1 ?_
  refine j_iconst C (-1) dX10_isMissing_4 (by decide) ?_
  refine j_icmp_ne_f C 12 dX10_isMissing_5 (by decide) (by decide) ?_
  refine j_iconst C 1 dX10_isMissing_8 (by decide) ?_
  refine j_goto C 13 dX10_isMissing_9 (by decide) ?_
  exact hret _ _ _ _ dX10_isMissing_13 ⟨rfl, rfl⟩
set_option maxHeartbeats 4000000 in
set_option maxRecDepth 100000 in
theorem k96_X10_isMissing {l : Launch} {dC : Nat → ClassId} {dI : Nat → Nat → Nat} {ad : Nat → Nat} {cA : Nat → ClassId} : Ci l 0 yX10_isMissing wsX10_isMissing dC dI ad cA [.ref (ad 53)] M0 (fun r M' => 1 = r ∧ M0 = M') := by
  refine ci_of (cc := cX10_isMissing) (maxL := 1) (ty := .boolean) (lv := [(0, .ref (ad 53))]) (by decide) rfl (fun r M' hp => by obtain ⟨rfl, rfl⟩ := hp; rfl) (Nat.le_of_ble_eq_true rfl) rfl ?_
  intro p e s m args below meth c A Q C hret
  refine j_aload_n C 0 0 dX10_isMissing_0 rfl rfl ?_
  refine j_getI C 9 (-1) fX10_isMissing_19 (by decide) rfl (by decide) rfl rfl dX10_isMissing_1 ?_
  refine j_iconst C (-1) dX10_isMissing_4 (by decide) ?_
  refine j_icmp_ne_f C 12 dX10_isMissing_5 (by decide) (by decide) ?_
  refine j_iconst C 1 dX10_isMissing_8 (by decide) ?_
  refine j_goto C 13 dX10_isMissing_9 (by decide) ?_
  exact hret _ _ _ _ dX10_isMissing_13 ⟨rfl, rfl⟩
set_option maxHeartbeats 4000000 in
set_option maxRecDepth 100000 in
theorem k97_X10_isMissing {l : Launch} {dC : Nat → ClassId} {dI : Nat → Nat → Nat} {ad : Nat → Nat} {cA : Nat → ClassId} : Ci l 0 yX10_isMissing wsX10_isMissing dC dI ad cA [.ref (ad 55)] M0 (fun r M' => 1 = r ∧ M0 = M') := by
  refine ci_of (cc := cX10_isMissing) (maxL := 1) (ty := .boolean) (lv := [(0, .ref (ad 55))]) (by decide) rfl (fun r M' hp => by obtain ⟨rfl, rfl⟩ := hp; rfl) (Nat.le_of_ble_eq_true rfl) rfl ?_
  intro p e s m args below meth c A Q C hret
  refine j_aload_n C 0 0 dX10_isMissing_0 rfl rfl ?_
  refine j_getI C 9 (-1) fX10_isMissing_19 (by decide) rfl (by decide) rfl rfl dX10_isMissing_1 ?_
  refine j_iconst C (-1) dX10_isMissing_4 (by decide) ?_
  refine j_icmp_ne_f C 12 dX10_isMissing_5 (by decide) (by decide) ?_
  refine j_iconst C 1 dX10_isMissing_8 (by decide) ?_
  refine j_goto C 13 dX10_isMissing_9 (by decide) ?_
  exact hret _ _ _ _ dX10_isMissing_13 ⟨rfl, rfl⟩
set_option maxHeartbeats 4000000 in
set_option maxRecDepth 100000 in
theorem k98_X10_isMissing {l : Launch} {dC : Nat → ClassId} {dI : Nat → Nat → Nat} {ad : Nat → Nat} {cA : Nat → ClassId} : Ci l 0 yX10_isMissing wsX10_isMissing dC dI ad cA [.ref (ad 57)] M0 (fun r M' => 1 = r ∧ M0 = M') := by
  refine ci_of (cc := cX10_isMissing) (maxL := 1) (ty := .boolean) (lv := [(0, .ref (ad 57))]) (by decide) rfl (fun r M' hp => by obtain ⟨rfl, rfl⟩ := hp; rfl) (Nat.le_of_ble_eq_true rfl) rfl ?_
  intro p e s m args below meth c A Q C hret
  refine j_aload_n C 0 0 dX10_isMissing_0 rfl rfl ?_
  refine j_getI C 9 (-1) fX10_isMissing_19 (by decide) rfl (by decide) rfl rfl dX10_isMissing_1 ?_
  refine j_iconst C (-1) dX10_isMissing_4 (by decide) ?_
  refine j_icmp_ne_f C 12 dX10_isMissing_5 (by decide) (by decide) ?_
  refine j_iconst C 1 dX10_isMissing_8 (by decide) ?_
  refine j_goto C 13 dX10_isMissing_9 (by decide) ?_
  exact hret _ _ _ _ dX10_isMissing_13 ⟨rfl, rfl⟩
set_option maxHeartbeats 4000000 in
set_option maxRecDepth 100000 in
theorem ox_judge {l : Launch} {dC : Nat → ClassId} {dI : Nat → Nat → Nat} {ad : Nat → Nat} {cA : Nat → ClassId} (p0 : Int32) (p1 : Int32) : Ci l 1 yX11_judge wsX11_judge dC dI ad cA [.ref (ad 0), .int p0, .int p1] M0 (fun r M' => r = fo_judge p0 p1 ∧ MB M') := by
  refine ci_of (cc := cX11_judge) (maxL := 7) (ty := .int) (lv := [(0, .ref (ad 0)), (1, .int p0), (2, .int p1)]) (by decide) rfl (fun r M' hp => rfl) (Nat.le_of_ble_eq_true rfl) rfl ?_
  intro p e s m args below meth c A Q C hret
  refine j_iload_n C 1 1 dX11_judge_0 rfl rfl ?_
  refine j_callSi C (d := 0) (As := [.int p0]) (st := []) (k94_X11_isTray p0) gX11_judge_X11_isTray rfl hdX11_isTrays (by decide) (Nat.le_of_ble_eq_true rfl) dX11_judge_1 rfl (fun r M' hp => ?_)
  rcases hp with ⟨h1, rfl, rfl⟩ | ⟨⟨h2, h3⟩, rfl, rfl⟩ | ⟨⟨h4, h5⟩, rfl, rfl⟩
  · refine j_if_eq_t C 16 dX11_judge_4 (by decide) (by decide) ?_
    refine j_bipush C (-2) dX11_judge_16 (by decide) ?_
    exact hret _ _ _ _ dX11_judge_18 ⟨by first | rfl | (unfold fo_judge; rw [if_pos (by rw [nI_toInt (by omega)]; omega), nI_clamp (by omega)]; exact hrel) | (unfold fo_judge; (repeat' split) <;> first | rfl | (exfalso; omega) | (exfalso; simp_all; done)), MB_0⟩
  · refine j_if_eq_t C 16 dX11_judge_4 (by decide) (by decide) ?_
    refine j_bipush C (-2) dX11_judge_16 (by decide) ?_
    exact hret _ _ _ _ dX11_judge_18 ⟨by first | rfl | (unfold fo_judge; rw [if_pos (by rw [nI_toInt (by omega)]; omega), nI_clamp (by omega)]; exact hrel) | (unfold fo_judge; (repeat' split) <;> first | rfl | (exfalso; omega) | (exfalso; simp_all; done)), MB_0⟩
  · refine j_if_eq_f C 16 dX11_judge_4 (by decide) (by decide) ?_
    refine j_iload_n C 2 2 dX11_judge_7 rfl rfl ?_
    refine z_if_lt C 16 p1.toInt rfl dX11_judge_8 (by decide) (fun h6 => ?_) (fun h6 => ?_)
    · refine j_bipush C (-2) dX11_judge_16 (by decide) ?_
      exact hret _ _ _ _ dX11_judge_18 ⟨by first | rfl | (unfold fo_judge; rw [if_pos (by rw [nI_toInt (by omega)]; omega), nI_clamp (by omega)]; exact hrel) | (unfold fo_judge; (repeat' split) <;> first | rfl | (exfalso; omega) | (exfalso; simp_all; done)), MB_0⟩
    · refine j_iload_n C 2 2 dX11_judge_11 rfl rfl ?_
      refine j_iconst C 3 dX11_judge_12 (by decide) ?_
      refine z_icmp_le C 19 p1.toInt 3 rfl (by decide) dX11_judge_13 (by decide) (fun h7 => ?_) (fun h7 => ?_)
      · refine j_aload_n C 0 0 dX11_judge_19 rfl rfl ?_
        refine j_getP C 10 50 fX11_judge_52 (by decide) rfl (by decide) rfl rfl dX11_judge_20 ?_
        refine j_iload_n C 1 1 dX11_judge_23 rfl rfl ?_
        obtain ⟨j, hj, rfl⟩ := z_sp (x := p0) (b := 3) (by omega) (by omega)
        rcases (show j = 0 ∨ j = 1 ∨ j = 2 ∨ j = 3 by omega) with rfl | rfl | rfl | rfl
        · show jj _ _ _ _ _ _ _ _ _ _ _ _ _ _ _ _ _ _ _ M0 24 [(0, .ref (ad 0)), (1, .int 0), (2, .int p1)] [.int 0, .ref (ad 50)]
          refine x_aald C 0 4 51 (by decide) (by decide) rfl rfl (by decide) (by decide) rfl dX11_judge_24 ?_
          refine j_astore_n C 3 [(3, .ref (ad 51)), (0, .ref (ad 0)), (1, .int 0), (2, .int p1)] dX11_judge_25 rfl (by decide) rfl ?_
          refine j_aload_n C 0 3 dX11_judge_26 rfl rfl ?_
          refine j_callVi C (d := 0) (As := []) (st := []) 51 (by decide) rfl (by decide) rfl (k95_X10_isMissing) gX11_judge_X10_isMissing rfl hdX10_isMissing (by decide) (Nat.le_of_ble_eq_true rfl) dX11_judge_27 rfl (fun r M' hp => ?_)
          obtain ⟨rfl, rfl⟩ := hp
          refine j_if_eq_f C 36 dX11_judge_30 (by decide) (by decide) ?_
          refine j_bipush C (-6) dX11_judge_33 (by decide) ?_
          exact hret _ _ _ _ dX11_judge_35 ⟨by first | rfl | (unfold fo_judge; rw [if_pos (by rw [nI_toInt (by omega)]; omega), nI_clamp (by omega)]; exact hrel) | (unfold fo_judge; (repeat' split) <;> first | rfl | (exfalso; omega) | (exfalso; simp_all; done)), MB_0⟩
        · show jj _ _ _ _ _ _ _ _ _ _ _ _ _ _ _ _ _ _ _ M0 24 [(0, .ref (ad 0)), (1, .int 1), (2, .int p1)] [.int 1, .ref (ad 50)]
          refine x_aald C 1 4 53 (by decide) (by decide) rfl rfl (by decide) (by decide) rfl dX11_judge_24 ?_
          refine j_astore_n C 3 [(3, .ref (ad 53)), (0, .ref (ad 0)), (1, .int 1), (2, .int p1)] dX11_judge_25 rfl (by decide) rfl ?_
          refine j_aload_n C 0 3 dX11_judge_26 rfl rfl ?_
          refine j_callVi C (d := 0) (As := []) (st := []) 53 (by decide) rfl (by decide) rfl (k96_X10_isMissing) gX11_judge_X10_isMissing rfl hdX10_isMissing (by decide) (Nat.le_of_ble_eq_true rfl) dX11_judge_27 rfl (fun r M' hp => ?_)
          obtain ⟨rfl, rfl⟩ := hp
          refine j_if_eq_f C 36 dX11_judge_30 (by decide) (by decide) ?_
          refine j_bipush C (-6) dX11_judge_33 (by decide) ?_
          exact hret _ _ _ _ dX11_judge_35 ⟨by first | rfl | (unfold fo_judge; rw [if_pos (by rw [nI_toInt (by omega)]; omega), nI_clamp (by omega)]; exact hrel) | (unfold fo_judge; (repeat' split) <;> first | rfl | (exfalso; omega) | (exfalso; simp_all; done)), MB_0⟩
        · show jj _ _ _ _ _ _ _ _ _ _ _ _ _ _ _ _ _ _ _ M0 24 [(0, .ref (ad 0)), (1, .int 2), (2, .int p1)] [.int 2, .ref (ad 50)]
          refine x_aald C 2 4 55 (by decide) (by decide) rfl rfl (by decide) (by decide) rfl dX11_judge_24 ?_
          refine j_astore_n C 3 [(3, .ref (ad 55)), (0, .ref (ad 0)), (1, .int 2), (2, .int p1)] dX11_judge_25 rfl (by decide) rfl ?_
          refine j_aload_n C 0 3 dX11_judge_26 rfl rfl ?_
          refine j_callVi C (d := 0) (As := []) (st := []) 55 (by decide) rfl (by decide) rfl (k97_X10_isMissing) gX11_judge_X10_isMissing rfl hdX10_isMissing (by decide) (Nat.le_of_ble_eq_true rfl) dX11_judge_27 rfl (fun r M' hp => ?_)
          obtain ⟨rfl, rfl⟩ := hp
          refine j_if_eq_f C 36 dX11_judge_30 (by decide) (by decide) ?_
          refine j_bipush C (-6) dX11_judge_33 (by decide) ?_
          exact hret _ _ _ _ dX11_judge_35 ⟨by first | rfl | (unfold fo_judge; rw [if_pos (by rw [nI_toInt (by omega)]; omega), nI_clamp (by omega)]; exact hrel) | (unfold fo_judge; (repeat' split) <;> first | rfl | (exfalso; omega) | (exfalso; simp_all; done)), MB_0⟩
        · show jj _ _ _ _ _ _ _ _ _ _ _ _ _ _ _ _ _ _ _ M0 24 [(0, .ref (ad 0)), (1, .int 3), (2, .int p1)] [.int 3, .ref (ad 50)]
          refine x_aald C 3 4 57 (by decide) (by decide) rfl rfl (by decide) (by decide) rfl dX11_judge_24 ?_
          refine j_astore_n C 3 [(3, .ref (ad 57)), (0, .ref (ad 0)), (1, .int 3), (2, .int p1)] dX11_judge_25 rfl (by decide) rfl ?_
          refine j_aload_n C 0 3 dX11_judge_26 rfl rfl ?_
          refine j_callVi C (d := 0) (As := []) (st := []) 57 (by decide) rfl (by decide) rfl (k98_X10_isMissing) gX11_judge_X10_isMissing rfl hdX10_isMissing (by decide) (Nat.le_of_ble_eq_true rfl) dX11_judge_27 rfl (fun r M' hp => ?_)
          obtain ⟨rfl, rfl⟩ := hp
          refine j_if_eq_f C 36 dX11_judge_30 (by decide) (by decide) ?_
          refine j_bipush C (-6) dX11_judge_33 (by decide) ?_
          exact hret _ _ _ _ dX11_judge_35 ⟨by first | rfl | (unfold fo_judge; rw [if_pos (by rw [nI_toInt (by omega)]; omega), nI_clamp (by omega)]; exact hrel) | (unfold fo_judge; (repeat' split) <;> first | rfl | (exfalso; omega) | (exfalso; simp_all; done)), MB_0⟩
      · refine j_bipush C (-2) dX11_judge_16 (by decide) ?_
        exact hret _ _ _ _ dX11_judge_18 ⟨by first | rfl | (unfold fo_judge; rw [if_pos (by rw [nI_toInt (by omega)]; omega), nI_clamp (by omega)]; exact hrel) | (unfold fo_judge; (repeat' split) <;> first | rfl | (exfalso; omega) | (exfalso; simp_all; done)), MB_0⟩
set_option maxHeartbeats 4000000 in
set_option maxRecDepth 100000 in
theorem k103_X11_trayRefusal {l : Launch} {dC : Nat → ClassId} {dI : Nat → Nat → Nat} {ad : Nat → Nat} {cA : Nat → ClassId} (p0 : Int32) : Ci l 1 yX11_trayRefusal wsX11_trayRefusal dC dI ad cA [.ref (ad 0), .int p0] M0 (fun r M' => ((p0.toInt < 0) ∧ (-2) = r ∧ M0 = M') ∨ ((¬ p0.toInt < 0 ∧ 4 ≤ p0.toInt) ∧ (-2) = r ∧ M0 = M') ∨ ((¬ p0.toInt < 0 ∧ ¬ 4 ≤ p0.toInt ∧ p0 = 0) ∧ (-6) = r ∧ M0 = M') ∨ ((¬ p0.toInt < 0 ∧ ¬ 4 ≤ p0.toInt ∧ p0 = 1) ∧ (-6) = r ∧ M0 = M') ∨ ((¬ p0.toInt < 0 ∧ ¬ 4 ≤ p0.toInt ∧ p0 = 2) ∧ (-6) = r ∧ M0 = M') ∨ ((¬ p0.toInt < 0 ∧ ¬ 4 ≤ p0.toInt ∧ p0 = 3) ∧ (-6) = r ∧ M0 = M')) := by
  refine ci_of (cc := cX11_trayRefusal) (maxL := 2) (ty := .int) (lv := [(0, .ref (ad 0)), (1, .int p0)]) (by decide) rfl (fun r M' hp => rfl) (Nat.le_of_ble_eq_true rfl) rfl ?_
  intro p e s m args below meth c A Q C hret
  refine j_iload_n C 1 1 dX11_trayRefusal_0 rfl rfl ?_
  refine j_callSi C (d := 0) (As := [.int p0]) (st := []) (k94_X11_isTray p0) gX11_trayRefusal_X11_isTray rfl hdX11_isTrays (by decide) (Nat.le_of_ble_eq_true rfl) dX11_trayRefusal_1 rfl (fun r M' hp => ?_)
  rcases hp with ⟨h1, rfl, rfl⟩ | ⟨⟨h2, h3⟩, rfl, rfl⟩ | ⟨⟨h4, h5⟩, rfl, rfl⟩
  · refine j_if_ne_f C 10 dX11_trayRefusal_4 (by decide) (by decide) ?_
    refine j_bipush C (-2) dX11_trayRefusal_7 (by decide) ?_
    exact hret _ _ _ _ dX11_trayRefusal_9 (Or.inl ⟨h1, rfl, rfl⟩)
  · refine j_if_ne_f C 10 dX11_trayRefusal_4 (by decide) (by decide) ?_
    refine j_bipush C (-2) dX11_trayRefusal_7 (by decide) ?_
    exact hret _ _ _ _ dX11_trayRefusal_9 (Or.inr (Or.inl ⟨⟨h2, h3⟩, rfl, rfl⟩))
  · refine j_if_ne_t C 10 dX11_trayRefusal_4 (by decide) (by decide) ?_
    refine j_aload_n C 0 0 dX11_trayRefusal_10 rfl rfl ?_
    refine j_getP C 10 50 fX11_trayRefusal_52 (by decide) rfl (by decide) rfl rfl dX11_trayRefusal_11 ?_
    refine j_iload_n C 1 1 dX11_trayRefusal_14 rfl rfl ?_
    obtain ⟨j, hj, rfl⟩ := z_sp (x := p0) (b := 3) (by omega) (by omega)
    rcases (show j = 0 ∨ j = 1 ∨ j = 2 ∨ j = 3 by omega) with rfl | rfl | rfl | rfl
    · show jj _ _ _ _ _ _ _ _ _ _ _ _ _ _ _ _ _ _ _ M0 15 [(0, .ref (ad 0)), (1, .int 0)] [.int 0, .ref (ad 50)]
      refine x_aald C 0 4 51 (by decide) (by decide) rfl rfl (by decide) (by decide) rfl dX11_trayRefusal_15 ?_
      refine j_callVi C (d := 0) (As := []) (st := []) 51 (by decide) rfl (by decide) rfl (k95_X10_isMissing) gX11_trayRefusal_X10_isMissing rfl hdX10_isMissing (by decide) (Nat.le_of_ble_eq_true rfl) dX11_trayRefusal_16 rfl (fun r M' hp => ?_)
      obtain ⟨rfl, rfl⟩ := hp
      refine j_if_eq_f C 27 dX11_trayRefusal_19 (by decide) (by decide) ?_
      refine j_bipush C (-6) dX11_trayRefusal_22 (by decide) ?_
      refine j_goto C 28 dX11_trayRefusal_24 (by decide) ?_
      exact hret _ _ _ _ dX11_trayRefusal_28 (Or.inr (Or.inr (Or.inl ⟨⟨h4, h5, rfl⟩, rfl, rfl⟩)))
    · show jj _ _ _ _ _ _ _ _ _ _ _ _ _ _ _ _ _ _ _ M0 15 [(0, .ref (ad 0)), (1, .int 1)] [.int 1, .ref (ad 50)]
      refine x_aald C 1 4 53 (by decide) (by decide) rfl rfl (by decide) (by decide) rfl dX11_trayRefusal_15 ?_
      refine j_callVi C (d := 0) (As := []) (st := []) 53 (by decide) rfl (by decide) rfl (k96_X10_isMissing) gX11_trayRefusal_X10_isMissing rfl hdX10_isMissing (by decide) (Nat.le_of_ble_eq_true rfl) dX11_trayRefusal_16 rfl (fun r M' hp => ?_)
      obtain ⟨rfl, rfl⟩ := hp
      refine j_if_eq_f C 27 dX11_trayRefusal_19 (by decide) (by decide) ?_
      refine j_bipush C (-6) dX11_trayRefusal_22 (by decide) ?_
      refine j_goto C 28 dX11_trayRefusal_24 (by decide) ?_
      exact hret _ _ _ _ dX11_trayRefusal_28 (Or.inr (Or.inr (Or.inr (Or.inl ⟨⟨h4, h5, rfl⟩, rfl, rfl⟩))))
    · show jj _ _ _ _ _ _ _ _ _ _ _ _ _ _ _ _ _ _ _ M0 15 [(0, .ref (ad 0)), (1, .int 2)] [.int 2, .ref (ad 50)]
      refine x_aald C 2 4 55 (by decide) (by decide) rfl rfl (by decide) (by decide) rfl dX11_trayRefusal_15 ?_
      refine j_callVi C (d := 0) (As := []) (st := []) 55 (by decide) rfl (by decide) rfl (k97_X10_isMissing) gX11_trayRefusal_X10_isMissing rfl hdX10_isMissing (by decide) (Nat.le_of_ble_eq_true rfl) dX11_trayRefusal_16 rfl (fun r M' hp => ?_)
      obtain ⟨rfl, rfl⟩ := hp
      refine j_if_eq_f C 27 dX11_trayRefusal_19 (by decide) (by decide) ?_
      refine j_bipush C (-6) dX11_trayRefusal_22 (by decide) ?_
      refine j_goto C 28 dX11_trayRefusal_24 (by decide) ?_
      exact hret _ _ _ _ dX11_trayRefusal_28 (Or.inr (Or.inr (Or.inr (Or.inr (Or.inl ⟨⟨h4, h5, rfl⟩, rfl, rfl⟩)))))
    · show jj _ _ _ _ _ _ _ _ _ _ _ _ _ _ _ _ _ _ _ M0 15 [(0, .ref (ad 0)), (1, .int 3)] [.int 3, .ref (ad 50)]
      refine x_aald C 3 4 57 (by decide) (by decide) rfl rfl (by decide) (by decide) rfl dX11_trayRefusal_15 ?_
      refine j_callVi C (d := 0) (As := []) (st := []) 57 (by decide) rfl (by decide) rfl (k98_X10_isMissing) gX11_trayRefusal_X10_isMissing rfl hdX10_isMissing (by decide) (Nat.le_of_ble_eq_true rfl) dX11_trayRefusal_16 rfl (fun r M' hp => ?_)
      obtain ⟨rfl, rfl⟩ := hp
      refine j_if_eq_f C 27 dX11_trayRefusal_19 (by decide) (by decide) ?_
      refine j_bipush C (-6) dX11_trayRefusal_22 (by decide) ?_
      refine j_goto C 28 dX11_trayRefusal_24 (by decide) ?_
      exact hret _ _ _ _ dX11_trayRefusal_28 (Or.inr (Or.inr (Or.inr (Or.inr (Or.inr ⟨⟨h4, h5, rfl⟩, rfl, rfl⟩)))))
set_option maxHeartbeats 4000000 in
set_option maxRecDepth 100000 in
theorem ox_perform {l : Launch} {dC : Nat → ClassId} {dI : Nat → Nat → Nat} {ad : Nat → Nat} {cA : Nat → ClassId} (p0 : Int32) : Ci l 2 yX11_perform wsX11_perform dC dI ad cA [.ref (ad 0), .int p0] M0 (fun r M' => r = fo_perform p0 ∧ MB M') := by
  refine ci_of (cc := cX11_perform) (maxL := 6) (ty := .int) (lv := [(0, .ref (ad 0)), (1, .int p0)]) (by decide) rfl (fun r M' hp => rfl) (Nat.le_of_ble_eq_true rfl) rfl ?_
  intro p e s m args below meth c A Q C hret
  refine j_aload_n C 0 0 dX11_perform_0 rfl rfl ?_
  refine j_iload_n C 1 1 dX11_perform_1 rfl rfl ?_
  refine j_callVi C (d := 1) (As := [.int p0]) (st := []) 0 (by decide) rfl (by decide) rfl (k103_X11_trayRefusal p0) gX11_perform_X11_trayRefusal rfl hdX11_trayRefusal (by decide) (Nat.le_of_ble_eq_true rfl) dX11_perform_2 rfl (fun r M' hp => ?_)
  rcases hp with ⟨h1, rfl, rfl⟩ | ⟨⟨h2, h3⟩, rfl, rfl⟩ | ⟨⟨h4, h5, h6⟩, rfl, rfl⟩ | ⟨⟨h7, h8, h9⟩, rfl, rfl⟩ | ⟨⟨h10, h11, h12⟩, rfl, rfl⟩ | ⟨⟨h13, h14, h15⟩, rfl, rfl⟩
  · refine j_istore_n C 2 [(2, .int (-2)), (0, .ref (ad 0)), (1, .int p0)] dX11_perform_5 rfl (by decide) rfl ?_
    refine j_iload_n C 0 2 dX11_perform_6 rfl rfl ?_
    refine j_if_eq_f C 12 dX11_perform_7 (by decide) (by decide) ?_
    refine j_iload_n C 0 2 dX11_perform_10 rfl rfl ?_
    exact hret _ _ _ _ dX11_perform_11 ⟨by first | rfl | (unfold fo_perform; rw [if_pos (by rw [nI_toInt (by omega)]; omega), nI_clamp (by omega)]; exact hrel) | (unfold fo_perform; (repeat' split) <;> first | rfl | (exfalso; omega) | (exfalso; simp_all; done)), MB_0⟩
  · refine j_istore_n C 2 [(2, .int (-2)), (0, .ref (ad 0)), (1, .int p0)] dX11_perform_5 rfl (by decide) rfl ?_
    refine j_iload_n C 0 2 dX11_perform_6 rfl rfl ?_
    refine j_if_eq_f C 12 dX11_perform_7 (by decide) (by decide) ?_
    refine j_iload_n C 0 2 dX11_perform_10 rfl rfl ?_
    exact hret _ _ _ _ dX11_perform_11 ⟨by first | rfl | (unfold fo_perform; rw [if_pos (by rw [nI_toInt (by omega)]; omega), nI_clamp (by omega)]; exact hrel) | (unfold fo_perform; (repeat' split) <;> first | rfl | (exfalso; omega) | (exfalso; simp_all; done)), MB_0⟩
  · refine j_istore_n C 2 [(2, .int (-6)), (0, .ref (ad 0)), (1, .int p0)] dX11_perform_5 rfl (by decide) rfl ?_
    refine j_iload_n C 0 2 dX11_perform_6 rfl rfl ?_
    refine j_if_eq_f C 12 dX11_perform_7 (by decide) (by decide) ?_
    refine j_iload_n C 0 2 dX11_perform_10 rfl rfl ?_
    exact hret _ _ _ _ dX11_perform_11 ⟨by first | rfl | (unfold fo_perform; rw [if_pos (by rw [nI_toInt (by omega)]; omega), nI_clamp (by omega)]; exact hrel) | (unfold fo_perform; (repeat' split) <;> first | rfl | (exfalso; omega) | (exfalso; simp_all; done)), MB_0⟩
  · refine j_istore_n C 2 [(2, .int (-6)), (0, .ref (ad 0)), (1, .int p0)] dX11_perform_5 rfl (by decide) rfl ?_
    refine j_iload_n C 0 2 dX11_perform_6 rfl rfl ?_
    refine j_if_eq_f C 12 dX11_perform_7 (by decide) (by decide) ?_
    refine j_iload_n C 0 2 dX11_perform_10 rfl rfl ?_
    exact hret _ _ _ _ dX11_perform_11 ⟨by first | rfl | (unfold fo_perform; rw [if_pos (by rw [nI_toInt (by omega)]; omega), nI_clamp (by omega)]; exact hrel) | (unfold fo_perform; (repeat' split) <;> first | rfl | (exfalso; omega) | (exfalso; simp_all; done)), MB_0⟩
  · refine j_istore_n C 2 [(2, .int (-6)), (0, .ref (ad 0)), (1, .int p0)] dX11_perform_5 rfl (by decide) rfl ?_
    refine j_iload_n C 0 2 dX11_perform_6 rfl rfl ?_
    refine j_if_eq_f C 12 dX11_perform_7 (by decide) (by decide) ?_
    refine j_iload_n C 0 2 dX11_perform_10 rfl rfl ?_
    exact hret _ _ _ _ dX11_perform_11 ⟨by first | rfl | (unfold fo_perform; rw [if_pos (by rw [nI_toInt (by omega)]; omega), nI_clamp (by omega)]; exact hrel) | (unfold fo_perform; (repeat' split) <;> first | rfl | (exfalso; omega) | (exfalso; simp_all; done)), MB_0⟩
  · refine j_istore_n C 2 [(2, .int (-6)), (0, .ref (ad 0)), (1, .int p0)] dX11_perform_5 rfl (by decide) rfl ?_
    refine j_iload_n C 0 2 dX11_perform_6 rfl rfl ?_
    refine j_if_eq_f C 12 dX11_perform_7 (by decide) (by decide) ?_
    refine j_iload_n C 0 2 dX11_perform_10 rfl rfl ?_
    exact hret _ _ _ _ dX11_perform_11 ⟨by first | rfl | (unfold fo_perform; rw [if_pos (by rw [nI_toInt (by omega)]; omega), nI_clamp (by omega)]; exact hrel) | (unfold fo_perform; (repeat' split) <;> first | rfl | (exfalso; omega) | (exfalso; simp_all; done)), MB_0⟩
set_option maxHeartbeats 4000000 in
set_option maxRecDepth 100000 in
theorem k106_X4_tune {l : Launch} {dC : Nat → ClassId} {dI : Nat → Nat → Nat} {ad : Nat → Nat} {cA : Nat → ClassId} : Cv l 0 yX4_tune wsX4_tune dC dI ad cA [.ref (ad 81), .ref (ad 2), .ref (ad 12)] M0 (fun M' => M0 = M') := by
  refine cv_of (cc := cX4_tune) (maxL := 5) (lv := [(0, .ref (ad 81)), (1, .ref (ad 2)), (2, .ref (ad 12))]) (by decide) rfl (Nat.le_of_ble_eq_true rfl) rfl ?_
  intro p e s m args below meth c A Q C hret
  refine j_aload_n C 0 0 dX4_tune_0 rfl rfl ?_
  refine j_aload_n C 1 1 dX4_tune_1 rfl rfl ?_
  refine j_putP C 3 qX4_tune_33 rfl rfl (by decide) rfl (by decide) rfl dX4_tune_2 ?_
  refine z_noP rfl ?_
  refine j_aload_n C 0 0 dX4_tune_5 rfl rfl ?_
  refine j_aload_n C 2 2 dX4_tune_6 rfl rfl ?_
  refine j_getI C 8 0 fX4_tune_43 (by decide) rfl (by decide) rfl rfl dX4_tune_7 ?_
  refine j_putI C 3 qX4_tune_29 rfl rfl (by decide) rfl (by decide) rfl dX4_tune_10 ?_
  refine z_noI rfl ?_
  refine j_iconst C 0 dX4_tune_13 (by decide) ?_
  refine j_istore_n C 3 [(3, .int 0), (0, .ref (ad 81)), (1, .ref (ad 2)), (2, .ref (ad 12))] dX4_tune_14 rfl (by decide) rfl ?_
  refine j_iload_n C 0 3 dX4_tune_15 rfl rfl ?_
  refine j_aload_n C 1 0 dX4_tune_16 rfl rfl ?_
  refine j_getI C 3 0 fX4_tune_29 (by decide) rfl (by decide) rfl rfl dX4_tune_17 ?_
  refine j_icmp_ge_t C 124 dX4_tune_20 (by decide) (by decide) ?_
  exact hret _ _ _ dX4_tune_124 rfl
set_option maxHeartbeats 4000000 in
set_option maxRecDepth 100000 in
theorem k107_X5_aim {l : Launch} {dC : Nat → ClassId} {dI : Nat → Nat → Nat} {ad : Nat → Nat} {cA : Nat → ClassId} : Cv l 1 yX5_aim wsX5_aim dC dI ad cA [.ref (ad 88), .ref (ad 2), .ref (ad 12), .int 0] M0 (fun M' => M0 = M') := by
  refine cv_of (cc := cX5_aim) (maxL := 4) (lv := [(0, .ref (ad 88)), (1, .ref (ad 2)), (2, .ref (ad 12)), (3, .int 0)]) (by decide) rfl (Nat.le_of_ble_eq_true rfl) rfl ?_
  intro p e s m args below meth c A Q C hret
  refine j_aload_n C 0 0 dX5_aim_0 rfl rfl ?_
  refine j_aload_n C 1 1 dX5_aim_1 rfl rfl ?_
  refine j_putP C 4 qX5_aim_52 rfl rfl (by decide) rfl (by decide) rfl dX5_aim_2 ?_
  refine z_noP rfl ?_
  refine j_aload_n C 0 0 dX5_aim_5 rfl rfl ?_
  refine j_aload_n C 2 2 dX5_aim_6 rfl rfl ?_
  refine j_putP C 4 qX5_aim_56 rfl rfl (by decide) rfl (by decide) rfl dX5_aim_7 ?_
  refine z_noP rfl ?_
  refine j_aload_n C 0 0 dX5_aim_10 rfl rfl ?_
  refine j_aload_n C 0 0 dX5_aim_11 rfl rfl ?_
  refine j_getP C 4 12 fX5_aim_56 (by decide) rfl (by decide) rfl rfl dX5_aim_12 ?_
  refine j_callVi C (d := 0) (As := []) (st := [.ref (ad 88)]) 12 (by decide) rfl (by decide) rfl (k63_X9_everyKind) gX5_aim_X9_everyKind rfl hdX9_everyKind (by decide) (Nat.le_of_ble_eq_true rfl) dX5_aim_15 rfl (fun r M' hp => ?_)
  obtain ⟨rfl, rfl⟩ := hp
  refine j_putI C 4 qX5_aim_38 rfl rfl (by decide) rfl (by decide) rfl dX5_aim_18 ?_
  refine z_noI rfl ?_
  refine j_aload_n C 0 0 dX5_aim_21 rfl rfl ?_
  refine j_aload_n C 0 0 dX5_aim_22 rfl rfl ?_
  refine j_getI C 4 0 fX5_aim_38 (by decide) rfl (by decide) rfl rfl dX5_aim_23 ?_
  refine j_iload_n C 3 3 dX5_aim_26 rfl rfl ?_
  refine j_iconst C (-1) dX5_aim_27 (by decide) ?_
  refine z_ixor C (-1) (by decide) dX5_aim_28 ?_
  refine z_iand C 0 (by decide) dX5_aim_29 ?_
  refine j_putI C 4 qX5_aim_42 rfl rfl (by decide) rfl (by decide) rfl dX5_aim_30 ?_
  refine z_noI rfl ?_
  refine j_aload_n C 0 0 dX5_aim_33 rfl rfl ?_
  refine j_aload_n C 0 0 dX5_aim_34 rfl rfl ?_
  refine j_getP C 4 12 fX5_aim_56 (by decide) rfl (by decide) rfl rfl dX5_aim_35 ?_
  refine j_getI C 8 0 fX5_aim_66 (by decide) rfl (by decide) rfl rfl dX5_aim_38 ?_
  refine j_aload_n C 0 0 dX5_aim_41 rfl rfl ?_
  refine j_getI C 4 0 fX5_aim_38 (by decide) rfl (by decide) rfl rfl dX5_aim_42 ?_
  refine z_iand C 0 (by decide) dX5_aim_45 ?_
  refine j_putI C 4 qX5_aim_45 rfl rfl (by decide) rfl (by decide) rfl dX5_aim_46 ?_
  refine z_noI rfl ?_
  refine j_aload_n C 0 0 dX5_aim_49 rfl rfl ?_
  refine j_getP C 4 81 fX5_aim_48 (by decide) rfl (by decide) rfl rfl dX5_aim_50 ?_
  refine j_aload_n C 0 0 dX5_aim_53 rfl rfl ?_
  refine j_getP C 4 2 fX5_aim_52 (by decide) rfl (by decide) rfl rfl dX5_aim_54 ?_
  refine j_aload_n C 0 0 dX5_aim_57 rfl rfl ?_
  refine j_getP C 4 12 fX5_aim_56 (by decide) rfl (by decide) rfl rfl dX5_aim_58 ?_
  refine j_callVv C (d := 0) (As := [.ref (ad 2), .ref (ad 12)]) (st := []) 81 (by decide) rfl (by decide) rfl (k106_X4_tune) gX5_aim_X4_tune rfl hdX4_tune (by decide) (Nat.le_of_ble_eq_true rfl) dX5_aim_61 rfl (fun M' hp => ?_)
  obtain rfl := hp
  exact hret _ _ _ dX5_aim_64 rfl
set_option maxHeartbeats 4000000 in
set_option maxRecDepth 100000 in
theorem k108_J7_fill_53178 {l : Launch} {dC : Nat → ClassId} {dI : Nat → Nat → Nat} {ad : Nat → Nat} {cA : Nat → ClassId} : Cv l 0 yJ7_fill_53178 wsJ7_fill_53178 dC dI ad cA [.ref (ad 90), .int 0] M0 (fun M' => M0 = M') := by
  refine cv_of (cc := cJ7_fill_53178) (maxL := 4) (lv := [(0, .ref (ad 90)), (1, .int 0)]) (by decide) rfl (Nat.le_of_ble_eq_true rfl) rfl ?_
  intro p e s m args below meth c A Q C hret
  refine j_iconst C 0 dJ7_fill_53178_0 (by decide) ?_
  refine j_istore_n C 2 [(2, .int 0), (0, .ref (ad 90)), (1, .int 0)] dJ7_fill_53178_1 rfl (by decide) rfl ?_
  refine j_aload_n C 1 0 dJ7_fill_53178_2 rfl rfl ?_
  refine j_alen C 256 (by decide) (by decide) (by decide) dJ7_fill_53178_3 ?_
  refine j_istore_n C 3 [(3, .int 256), (2, .int 0), (0, .ref (ad 90)), (1, .int 0)] dJ7_fill_53178_4 rfl (by decide) rfl ?_
  refine j_lv [2, 3, 1, 0] rfl ?_
  have L : ∀ (n i : Nat), 0 ≤ i → i + n = 256 → jj p l e (cn_R 0) s m args below meth c 0 0 Q 4 dC dI ad cA A M0 5 [(0, .ref (ad 90)), (1, .int 0), (2, .int (nI i)), (3, .int 256)] [] := by
    intro n
    induction n with
    | zero =>
      intro i h1 h2
      obtain rfl : i = 256 := by omega
      refine j_iload_n C 2 2 dJ7_fill_53178_5 rfl rfl ?_
      refine j_iload_n C 3 3 dJ7_fill_53178_6 rfl rfl ?_
      refine j_icmp_ge_t C 20 dJ7_fill_53178_7 (by decide) (by decide) ?_
      exact hret _ _ _ dJ7_fill_53178_20 rfl
    | succ n ih =>
      intro i h1 h2
      refine j_iload_n C 2 2 dJ7_fill_53178_5 rfl rfl ?_
      refine j_iload_n C 3 3 dJ7_fill_53178_6 rfl rfl ?_
      refine z_icmp_ge C 20 (i : Int) 256 (nI_toInt (n := i) (by omega)) (by decide) dJ7_fill_53178_7 (by decide) (fun h1 => ?_) (fun h1 => ?_)
      · exfalso; omega
      · refine j_aload_n C 0 0 dJ7_fill_53178_10 rfl rfl ?_
        refine j_iload_n C 2 2 dJ7_fill_53178_11 rfl rfl ?_
        refine j_iload_n C 1 1 dJ7_fill_53178_12 rfl rfl ?_
        refine x_iast C i 256 (by decide) rfl rfl rfl (by omega) (by decide) dJ7_fill_53178_13 ?_
        refine z_noI rfl ?_
        refine j_iinc C 2 (nI (i + 1)) [(2, .int (nI (i + 1))), (0, .ref (ad 90)), (1, .int 0), (3, .int 256)] dJ7_fill_53178_14 rfl (nI_1 i) (by decide) rfl ?_
        refine j_goto C 5 dJ7_fill_53178_17 (by decide) ?_
        refine j_lv [1, 2, 0, 3] rfl ?_
        exact ih (i + 1) (by omega) (by omega)
  exact L (256 - 0) 0 (by omega) (by omega)
set_option maxHeartbeats 4000000 in
set_option maxRecDepth 100000 in
theorem k109_X5_meet {l : Launch} {dC : Nat → ClassId} {dI : Nat → Nat → Nat} {ad : Nat → Nat} {cA : Nat → ClassId} : Cv l 0 yX5_meet wsX5_meet dC dI ad cA [.ref (ad 88), .int 0, .int 0] (wI M0 90 0 1) (fun M' => (wI M0 90 0 1) = M') := by
  refine cv_of (cc := cX5_meet) (maxL := 5) (lv := [(0, .ref (ad 88)), (1, .int 0), (2, .int 0)]) (by decide) rfl (Nat.le_of_ble_eq_true rfl) rfl ?_
  intro p e s m args below meth c A Q C hret
  refine j_aload_n C 0 0 dX5_meet_0 rfl rfl ?_
  refine j_getP C 4 90 fX5_meet_15 (by decide) rfl (by decide) rfl rfl dX5_meet_1 ?_
  refine j_iload_n C 1 1 dX5_meet_4 rfl rfl ?_
  refine j_iconst C 1 dX5_meet_5 (by decide) ?_
  refine x_iast C 0 256 (by decide) rfl rfl rfl (by decide) (by decide) dX5_meet_6 ?_
  refine z_noI rfl ?_
  refine j_iconst C 0 dX5_meet_7 (by decide) ?_
  refine j_istore_n C 3 [(3, .int 0), (0, .ref (ad 88)), (1, .int 0), (2, .int 0)] dX5_meet_8 rfl (by decide) rfl ?_
  refine j_iload_n C 0 3 dX5_meet_9 rfl rfl ?_
  refine j_aload_n C 1 0 dX5_meet_10 rfl rfl ?_
  refine j_getP C 4 2 fX5_meet_52 (by decide) rfl (by decide) rfl rfl dX5_meet_11 ?_
  refine j_getI C 6 0 fX5_meet_92 (by decide) rfl (by decide) rfl rfl dX5_meet_14 ?_
  refine j_icmp_ge_t C 68 dX5_meet_17 (by decide) (by decide) ?_
  exact hret _ _ _ dX5_meet_68 rfl
set_option maxHeartbeats 4000000 in
set_option maxRecDepth 100000 in
theorem k110_X5_look {l : Launch} {dC : Nat → ClassId} {dI : Nat → Nat → Nat} {ad : Nat → Nat} {cA : Nat → ClassId} : Cv l 2 yX5_look wsX5_look dC dI ad cA [.ref (ad 88), .ref (ad 2), .ref (ad 12), .int 0] M0 (fun M' => (wI M0 90 0 1) = M') := by
  refine cv_of (cc := cX5_look) (maxL := 5) (lv := [(0, .ref (ad 88)), (1, .ref (ad 2)), (2, .ref (ad 12)), (3, .int 0)]) (by decide) rfl (Nat.le_of_ble_eq_true rfl) rfl ?_
  intro p e s m args below meth c A Q C hret
  refine j_aload_n C 0 0 dX5_look_0 rfl rfl ?_
  refine j_aload_n C 1 1 dX5_look_1 rfl rfl ?_
  refine j_aload_n C 2 2 dX5_look_2 rfl rfl ?_
  refine j_iload_n C 3 3 dX5_look_3 rfl rfl ?_
  refine j_callVv C (d := 1) (As := [.ref (ad 2), .ref (ad 12), .int 0]) (st := []) 88 (by decide) rfl (by decide) rfl (k107_X5_aim) gX5_look_X5_aim rfl hdX5_aim (by decide) (Nat.le_of_ble_eq_true rfl) dX5_look_4 rfl (fun M' hp => ?_)
  obtain rfl := hp
  refine j_aload_n C 0 0 dX5_look_7 rfl rfl ?_
  refine j_getP C 4 90 fX5_look_15 (by decide) rfl (by decide) rfl rfl dX5_look_8 ?_
  refine j_iconst C 0 dX5_look_11 (by decide) ?_
  refine j_callSv C (d := 0) (As := [.ref (ad 90), .int 0]) (st := []) (k108_J7_fill_53178) gX5_look_J7_fill_53178 rfl hdJ7_fill_53178s (by decide) (Nat.le_of_ble_eq_true rfl) dX5_look_12 rfl (fun M' hp => ?_)
  obtain rfl := hp
  refine j_aload_n C 0 0 dX5_look_15 rfl rfl ?_
  refine j_getP C 4 90 fX5_look_15 (by decide) rfl (by decide) rfl rfl dX5_look_16 ?_
  refine j_aload_n C 0 0 dX5_look_19 rfl rfl ?_
  refine j_getI C 4 0 fX5_look_45 (by decide) rfl (by decide) rfl rfl dX5_look_20 ?_
  refine j_iconst C 1 dX5_look_23 (by decide) ?_
  refine x_iast C 0 256 (by decide) rfl rfl rfl (by decide) (by decide) dX5_look_24 ?_
  refine j_aload_n C 0 0 dX5_look_25 rfl rfl ?_
  refine j_getI C 4 0 fX5_look_45 (by decide) rfl (by decide) rfl rfl dX5_look_26 ?_
  refine j_istore C 4 [(4, .int 0), (0, .ref (ad 88)), (1, .ref (ad 2)), (2, .ref (ad 12)), (3, .int 0)] dX5_look_29 (by decide) rfl ?_
  refine j_iload C 0 dX5_look_31 rfl ?_
  refine j_aload_n C 1 0 dX5_look_33 rfl rfl ?_
  refine j_getI C 4 0 fX5_look_38 (by decide) rfl (by decide) rfl rfl dX5_look_34 ?_
  refine j_icmp_gt_f C 64 dX5_look_37 (by decide) (by decide) ?_
  refine j_aload_n C 1 0 dX5_look_40 rfl rfl ?_
  refine j_getP C 4 90 fX5_look_15 (by decide) rfl (by decide) rfl rfl dX5_look_41 ?_
  refine j_iload C 0 dX5_look_44 rfl ?_
  refine x_iald C 0 256 1 (by decide) rfl rfl rfl (by decide) (by decide) rfl dX5_look_46 ?_
  refine j_iconst C 1 dX5_look_47 (by decide) ?_
  refine j_icmp_ne_f C 58 dX5_look_48 (by decide) (by decide) ?_
  refine j_aload_n C 1 0 dX5_look_51 rfl rfl ?_
  refine j_iload C 0 dX5_look_52 rfl ?_
  refine j_iload_n C 4 3 dX5_look_54 rfl rfl ?_
  refine j_callVv C (d := 0) (As := [.int 0, .int 0]) (st := []) 88 (by decide) rfl (by decide) rfl (k109_X5_meet) gX5_look_X5_meet rfl hdX5_meet (by decide) (Nat.le_of_ble_eq_true rfl) dX5_look_55 rfl (fun M' hp => ?_)
  obtain rfl := hp
  refine j_iinc C 0 1 [(4, .int 1), (0, .ref (ad 88)), (1, .ref (ad 2)), (2, .ref (ad 12)), (3, .int 0)] dX5_look_58 rfl (by decide) (by decide) rfl ?_
  refine j_goto C 31 dX5_look_61 (by decide) ?_
  refine j_iload C 0 dX5_look_31 rfl ?_
  refine j_aload_n C 1 0 dX5_look_33 rfl rfl ?_
  refine j_getI C 4 0 fX5_look_38 (by decide) rfl (by decide) rfl rfl dX5_look_34 ?_
  refine j_icmp_gt_t C 64 dX5_look_37 (by decide) (by decide) ?_
  exact hret _ _ _ dX5_look_64 rfl
set_option maxHeartbeats 4000000 in
set_option maxRecDepth 100000 in
theorem k111_X5_isShutAt {l : Launch} {dC : Nat → ClassId} {dI : Nat → Nat → Nat} {ad : Nat → Nat} {cA : Nat → ClassId} : Ci l 0 yX5_isShutAt wsX5_isShutAt dC dI ad cA [.ref (ad 88), .int 0] (wI M0 90 0 1) (fun r M' => 1 = r ∧ (wI M0 90 0 1) = M') := by
  refine ci_of (cc := cX5_isShutAt) (maxL := 2) (ty := .boolean) (lv := [(0, .ref (ad 88)), (1, .int 0)]) (by decide) rfl (fun r M' hp => by obtain ⟨rfl, rfl⟩ := hp; rfl) (Nat.le_of_ble_eq_true rfl) rfl ?_
  intro p e s m args below meth c A Q C hret
  refine j_aload_n C 0 0 dX5_isShutAt_0 rfl rfl ?_
  refine j_getI C 4 0 fX5_isShutAt_42 (by decide) rfl (by decide) rfl rfl dX5_isShutAt_1 ?_
  refine j_iload_n C 1 1 dX5_isShutAt_4 rfl rfl ?_
  refine j_iconst C (-1) dX5_isShutAt_5 (by decide) ?_
  refine z_ixor C (-1) (by decide) dX5_isShutAt_6 ?_
  refine z_iand C 0 (by decide) dX5_isShutAt_7 ?_
  refine j_if_ne_f C 15 dX5_isShutAt_8 (by decide) (by decide) ?_
  refine j_iconst C 1 dX5_isShutAt_11 (by decide) ?_
  refine j_goto C 16 dX5_isShutAt_12 (by decide) ?_
  exact hret _ _ _ _ dX5_isShutAt_16 ⟨rfl, rfl⟩
set_option maxHeartbeats 4000000 in
set_option maxRecDepth 100000 in
theorem k112_X5_measure {l : Launch} {dC : Nat → ClassId} {dI : Nat → Nat → Nat} {ad : Nat → Nat} {cA : Nat → ClassId} : Ci l 1 yX5_measure wsX5_measure dC dI ad cA [.ref (ad 88), .int 0] (wI M0 90 0 1) (fun r M' => 0 = r ∧ (wI M0 90 0 1) = M') := by
  refine ci_of (cc := cX5_measure) (maxL := 3) (ty := .int) (lv := [(0, .ref (ad 88)), (1, .int 0)]) (by decide) rfl (fun r M' hp => rfl) (Nat.le_of_ble_eq_true rfl) rfl ?_
  intro p e s m args below meth c A Q C hret
  refine j_aload_n C 0 0 dX5_measure_0 rfl rfl ?_
  refine j_getI C 4 0 fX5_measure_38 (by decide) rfl (by decide) rfl rfl dX5_measure_1 ?_
  refine j_istore_n C 2 [(2, .int 0), (0, .ref (ad 88)), (1, .int 0)] dX5_measure_4 rfl (by decide) rfl ?_
  refine j_iload_n C 0 2 dX5_measure_5 rfl rfl ?_
  refine j_aload_n C 1 0 dX5_measure_6 rfl rfl ?_
  refine j_getI C 4 0 fX5_measure_45 (by decide) rfl (by decide) rfl rfl dX5_measure_7 ?_
  refine j_icmp_lt_f C 53 dX5_measure_10 (by decide) (by decide) ?_
  refine j_aload_n C 1 0 dX5_measure_13 rfl rfl ?_
  refine j_getP C 4 90 fX5_measure_15 (by decide) rfl (by decide) rfl rfl dX5_measure_14 ?_
  refine j_iload_n C 0 2 dX5_measure_17 rfl rfl ?_
  refine x_iald C 0 256 1 (by decide) rfl rfl rfl (by decide) (by decide) rfl dX5_measure_18 ?_
  refine j_iconst C 1 dX5_measure_19 (by decide) ?_
  refine j_icmp_ne_f C 47 dX5_measure_20 (by decide) (by decide) ?_
  refine j_aload_n C 1 0 dX5_measure_23 rfl rfl ?_
  refine j_getP C 4 91 fX5_measure_18 (by decide) rfl (by decide) rfl rfl dX5_measure_24 ?_
  refine j_iload_n C 0 2 dX5_measure_27 rfl rfl ?_
  refine j_aload_n C 1 0 dX5_measure_28 rfl rfl ?_
  refine j_iload_n C 0 2 dX5_measure_29 rfl rfl ?_
  refine j_callVi C (d := 0) (As := [.int 0]) (st := [.int 0, .ref (ad 91)]) 88 (by decide) rfl (by decide) rfl (k111_X5_isShutAt) gX5_measure_X5_isShutAt rfl hdX5_isShutAt (by decide) (Nat.le_of_ble_eq_true rfl) dX5_measure_30 rfl (fun r M' hp => ?_)
  obtain ⟨rfl, rfl⟩ := hp
  refine j_if_eq_f C 40 dX5_measure_33 (by decide) (by decide) ?_
  refine j_iconst C 0 dX5_measure_36 (by decide) ?_
  refine j_goto C 46 dX5_measure_37 (by decide) ?_
  refine x_iast C 0 256 (by decide) rfl rfl rfl (by decide) (by decide) dX5_measure_46 ?_
  refine z_noI rfl ?_
  refine j_iinc C 0 (-1) [(2, .int (-1)), (0, .ref (ad 88)), (1, .int 0)] dX5_measure_47 rfl (by decide) (by decide) rfl ?_
  refine j_goto C 5 dX5_measure_50 (by decide) ?_
  refine j_iload_n C 0 2 dX5_measure_5 rfl rfl ?_
  refine j_aload_n C 1 0 dX5_measure_6 rfl rfl ?_
  refine j_getI C 4 0 fX5_measure_45 (by decide) rfl (by decide) rfl rfl dX5_measure_7 ?_
  refine j_icmp_lt_t C 53 dX5_measure_10 (by decide) (by decide) ?_
  refine j_aload_n C 1 0 dX5_measure_53 rfl rfl ?_
  refine j_getP C 4 91 fX5_measure_18 (by decide) rfl (by decide) rfl rfl dX5_measure_54 ?_
  refine j_aload_n C 1 0 dX5_measure_57 rfl rfl ?_
  refine j_getI C 4 0 fX5_measure_45 (by decide) rfl (by decide) rfl rfl dX5_measure_58 ?_
  refine x_iald C 0 256 0 (by decide) rfl rfl rfl (by decide) (by decide) rfl dX5_measure_61 ?_
  exact hret _ _ _ _ dX5_measure_62 ⟨rfl, rfl⟩
set_option maxHeartbeats 4000000 in
set_option maxRecDepth 100000 in
theorem k113_X5_shortest {l : Launch} {dC : Nat → ClassId} {dI : Nat → Nat → Nat} {ad : Nat → Nat} {cA : Nat → ClassId} : Ci l 2 yX5_shortest wsX5_shortest dC dI ad cA [.ref (ad 88)] (wI M0 90 0 1) (fun r M' => 0 = r ∧ (wI M0 90 0 1) = M') := by
  refine ci_of (cc := cX5_shortest) (maxL := 1) (ty := .int) (lv := [(0, .ref (ad 88))]) (by decide) rfl (fun r M' hp => rfl) (Nat.le_of_ble_eq_true rfl) rfl ?_
  intro p e s m args below meth c A Q C hret
  refine j_aload_n C 0 0 dX5_shortest_0 rfl rfl ?_
  refine j_iconst C 1 dX5_shortest_1 (by decide) ?_
  refine j_aload_n C 0 0 dX5_shortest_2 rfl rfl ?_
  refine j_getP C 4 2 fX5_shortest_52 (by decide) rfl (by decide) rfl rfl dX5_shortest_3 ?_
  refine j_getI C 6 0 fX5_shortest_92 (by decide) rfl (by decide) rfl rfl dX5_shortest_6 ?_
  refine z_ishl C 1 (by decide) dX5_shortest_9 ?_
  refine j_iconst C 1 dX5_shortest_10 (by decide) ?_
  refine z_isub C 0 (by decide) dX5_shortest_11 ?_
  refine j_callVi C (d := 1) (As := [.int 0]) (st := []) 88 (by decide) rfl (by decide) rfl (k112_X5_measure) gX5_shortest_X5_measure rfl hdX5_measure (by decide) (Nat.le_of_ble_eq_true rfl) dX5_shortest_12 rfl (fun r M' hp => ?_)
  obtain ⟨rfl, rfl⟩ := hp
  exact hret _ _ _ _ dX5_shortest_15 ⟨rfl, rfl⟩
set_option maxHeartbeats 4000000 in
set_option maxRecDepth 100000 in
theorem ox_ending {l : Launch} {dC : Nat → ClassId} {dI : Nat → Nat → Nat} {ad : Nat → Nat} {cA : Nat → ClassId} : Ci l 3 yX11_ending wsX11_ending dC dI ad cA [.ref (ad 0)] M0 (fun r M' => r = fo_ending ∧ MB M') := by
  refine ci_of (cc := cX11_ending) (maxL := 1) (ty := .int) (lv := [(0, .ref (ad 0))]) (by decide) rfl (fun r M' hp => rfl) (Nat.le_of_ble_eq_true rfl) rfl ?_
  intro p e s m args below meth c A Q C hret
  refine j_aload_n C 0 0 dX11_ending_0 rfl rfl ?_
  refine j_getP C 10 88 fX11_ending_94 (by decide) rfl (by decide) rfl rfl dX11_ending_1 ?_
  refine j_aload_n C 0 0 dX11_ending_4 rfl rfl ?_
  refine j_getP C 10 2 fX11_ending_26 (by decide) rfl (by decide) rfl rfl dX11_ending_5 ?_
  refine j_aload_n C 0 0 dX11_ending_8 rfl rfl ?_
  refine j_getP C 10 12 fX11_ending_36 (by decide) rfl (by decide) rfl rfl dX11_ending_9 ?_
  refine j_aload_n C 0 0 dX11_ending_12 rfl rfl ?_
  refine j_getP C 10 12 fX11_ending_36 (by decide) rfl (by decide) rfl rfl dX11_ending_13 ?_
  refine j_getI C 8 0 fX11_ending_153 (by decide) rfl (by decide) rfl rfl dX11_ending_16 ?_
  refine j_callVv C (d := 2) (As := [.ref (ad 2), .ref (ad 12), .int 0]) (st := []) 88 (by decide) rfl (by decide) rfl (k110_X5_look) gX11_ending_X5_look rfl hdX5_look (by decide) (Nat.le_of_ble_eq_true rfl) dX11_ending_19 rfl (fun M' hp => ?_)
  obtain rfl := hp
  refine j_aload_n C 0 0 dX11_ending_22 rfl rfl ?_
  refine j_getP C 10 88 fX11_ending_94 (by decide) rfl (by decide) rfl rfl dX11_ending_23 ?_
  refine j_callVi C (d := 2) (As := []) (st := []) 88 (by decide) rfl (by decide) rfl (k113_X5_shortest) gX11_ending_X5_shortest rfl hdX5_shortest (by decide) (Nat.le_of_ble_eq_true rfl) dX11_ending_26 rfl (fun r M' hp => ?_)
  obtain ⟨rfl, rfl⟩ := hp
  exact hret _ _ _ _ dX11_ending_29 ⟨by first | rfl | (unfold fo_ending; rw [if_pos (by rw [nI_toInt (by omega)]; omega), nI_clamp (by omega)]; exact hrel) | (unfold fo_ending; (repeat' split) <;> first | rfl | (exfalso; omega) | (exfalso; simp_all; done)), (MB_I MB_0 (by decide))⟩
set_option maxHeartbeats 4000000 in
set_option maxRecDepth 100000 in
theorem ox_endingBy {l : Launch} {dC : Nat → ClassId} {dI : Nat → Nat → Nat} {ad : Nat → Nat} {cA : Nat → ClassId} (p0 : Int32) : Ci l 3 yX11_endingBy wsX11_endingBy dC dI ad cA [.ref (ad 0), .int p0] M0 (fun r M' => r = fo_endingBy p0 ∧ MB M') := by
  refine ci_of (cc := cX11_endingBy) (maxL := 2) (ty := .int) (lv := [(0, .ref (ad 0)), (1, .int p0)]) (by decide) rfl (fun r M' hp => rfl) (Nat.le_of_ble_eq_true rfl) rfl ?_
  intro p e s m args below meth c A Q C hret
  refine j_iload_n C 1 1 dX11_endingBy_0 rfl rfl ?_
  refine z_if_ge C 7 p0.toInt rfl dX11_endingBy_1 (by decide) (fun h1 => ?_) (fun h1 => ?_)
  · refine j_aload_n C 0 0 dX11_endingBy_7 rfl rfl ?_
    refine j_getP C 10 88 fX11_endingBy_94 (by decide) rfl (by decide) rfl rfl dX11_endingBy_8 ?_
    refine j_aload_n C 0 0 dX11_endingBy_11 rfl rfl ?_
    refine j_getP C 10 2 fX11_endingBy_26 (by decide) rfl (by decide) rfl rfl dX11_endingBy_12 ?_
    refine j_aload_n C 0 0 dX11_endingBy_15 rfl rfl ?_
    refine j_getP C 10 12 fX11_endingBy_36 (by decide) rfl (by decide) rfl rfl dX11_endingBy_16 ?_
    refine j_aload_n C 0 0 dX11_endingBy_19 rfl rfl ?_
    refine j_getP C 10 12 fX11_endingBy_36 (by decide) rfl (by decide) rfl rfl dX11_endingBy_20 ?_
    refine j_getI C 8 0 fX11_endingBy_153 (by decide) rfl (by decide) rfl rfl dX11_endingBy_23 ?_
    refine j_callVv C (d := 2) (As := [.ref (ad 2), .ref (ad 12), .int 0]) (st := []) 88 (by decide) rfl (by decide) rfl (k110_X5_look) gX11_endingBy_X5_look rfl hdX5_look (by decide) (Nat.le_of_ble_eq_true rfl) dX11_endingBy_26 rfl (fun M' hp => ?_)
    obtain rfl := hp
    refine j_iload_n C 1 1 dX11_endingBy_29 rfl rfl ?_
    refine j_aload_n C 0 0 dX11_endingBy_30 rfl rfl ?_
    refine j_getP C 10 88 fX11_endingBy_94 (by decide) rfl (by decide) rfl rfl dX11_endingBy_31 ?_
    refine j_callVi C (d := 2) (As := []) (st := [.int p0]) 88 (by decide) rfl (by decide) rfl (k113_X5_shortest) gX11_endingBy_X5_shortest rfl hdX5_shortest (by decide) (Nat.le_of_ble_eq_true rfl) dX11_endingBy_34 rfl (fun r M' hp => ?_)
    obtain ⟨rfl, rfl⟩ := hp
    refine z_icmp_ge C 51 p0.toInt 0 rfl (by decide) dX11_endingBy_37 (by decide) (fun h2 => ?_) (fun h2 => ?_)
    · refine j_iconst C (-1) dX11_endingBy_51 (by decide) ?_
      exact hret _ _ _ _ dX11_endingBy_52 ⟨by first | rfl | (unfold fo_endingBy; rw [if_pos (by rw [nI_toInt (by omega)]; omega), nI_clamp (by omega)]; exact hrel) | (unfold fo_endingBy; (repeat' split) <;> first | rfl | (exfalso; omega) | (exfalso; simp_all; done)), (MB_I MB_0 (by decide))⟩
    · exfalso; omega
  · refine j_bipush C (-3) dX11_endingBy_4 (by decide) ?_
    exact hret _ _ _ _ dX11_endingBy_6 ⟨by first | rfl | (unfold fo_endingBy; rw [if_pos (by rw [nI_toInt (by omega)]; omega), nI_clamp (by omega)]; exact hrel) | (unfold fo_endingBy; (repeat' split) <;> first | rfl | (exfalso; omega) | (exfalso; simp_all; done)), MB_0⟩
set_option maxHeartbeats 4000000 in
set_option maxRecDepth 100000 in
theorem k122_J7_fill_d0a16 {l : Launch} {dC : Nat → ClassId} {dI : Nat → Nat → Nat} {ad : Nat → Nat} {cA : Nat → ClassId} : Cv l 0 yJ7_fill_d0a16 wsJ7_fill_d0a16 dC dI ad cA [.ref (ad 92), .long 0] (wI M0 90 0 1) (fun M' => (wI M0 90 0 1) = M') := by
  refine cv_of (cc := cJ7_fill_d0a16) (maxL := 5) (lv := [(0, .ref (ad 92)), (1, .long 0)]) (by decide) rfl (Nat.le_of_ble_eq_true rfl) rfl ?_
  intro p e s m args below meth c A Q C hret
  refine j_iconst C 0 dJ7_fill_d0a16_0 (by decide) ?_
  refine j_istore_n C 3 [(3, .int 0), (0, .ref (ad 92)), (1, .long 0)] dJ7_fill_d0a16_1 rfl (by decide) rfl ?_
  refine j_aload_n C 1 0 dJ7_fill_d0a16_2 rfl rfl ?_
  refine j_alen C 256 (by decide) (by decide) (by decide) dJ7_fill_d0a16_3 ?_
  refine j_istore C 4 [(4, .int 256), (3, .int 0), (0, .ref (ad 92)), (1, .long 0)] dJ7_fill_d0a16_4 (by decide) rfl ?_
  refine j_lv [2, 3, 1, 0] rfl ?_
  have L : ∀ (n i : Nat), 0 ≤ i → i + n = 256 → jj p l e (cn_R 0) s m args below meth c 0 0 Q 5 dC dI ad cA A (wI M0 90 0 1) 6 [(0, .ref (ad 92)), (1, .long 0), (3, .int (nI i)), (4, .int 256)] [] := by
    intro n
    induction n with
    | zero =>
      intro i h1 h2
      obtain rfl : i = 256 := by omega
      refine j_iload_n C 2 3 dJ7_fill_d0a16_6 rfl rfl ?_
      refine j_iload C 3 dJ7_fill_d0a16_7 rfl ?_
      refine j_icmp_ge_t C 22 dJ7_fill_d0a16_9 (by decide) (by decide) ?_
      exact hret _ _ _ dJ7_fill_d0a16_22 rfl
    | succ n ih =>
      intro i h1 h2
      refine j_iload_n C 2 3 dJ7_fill_d0a16_6 rfl rfl ?_
      refine j_iload C 3 dJ7_fill_d0a16_7 rfl ?_
      refine z_icmp_ge C 22 (i : Int) 256 (nI_toInt (n := i) (by omega)) (by decide) dJ7_fill_d0a16_9 (by decide) (fun h1 => ?_) (fun h1 => ?_)
      · exfalso; omega
      · refine j_aload_n C 0 0 dJ7_fill_d0a16_12 rfl rfl ?_
        refine j_iload_n C 2 3 dJ7_fill_d0a16_13 rfl rfl ?_
        refine j_lload_n C 1 1 dJ7_fill_d0a16_14 rfl rfl ?_
        refine x_last C i 256 (by decide) rfl rfl rfl (by omega) (by decide) dJ7_fill_d0a16_15 ?_
        refine z_noJ rfl ?_
        refine j_iinc C 2 (nI (i + 1)) [(3, .int (nI (i + 1))), (0, .ref (ad 92)), (1, .long 0), (4, .int 256)] dJ7_fill_d0a16_16 rfl (nI_1 i) (by decide) rfl ?_
        refine j_goto C 6 dJ7_fill_d0a16_19 (by decide) ?_
        refine j_lv [1, 2, 0, 3] rfl ?_
        exact ih (i + 1) (by omega) (by omega)
  exact L (256 - 0) 0 (by omega) (by omega)
set_option maxHeartbeats 4000000 in
set_option maxRecDepth 100000 in
theorem k123_X5_beginRows {l : Launch} {dC : Nat → ClassId} {dI : Nat → Nat → Nat} {ad : Nat → Nat} {cA : Nat → ClassId} : Cv l 1 yX5_beginRows wsX5_beginRows dC dI ad cA [.ref (ad 88)] (wI M0 90 0 1) (fun M' => (wJ (wI M0 90 0 1) 92 0 1) = M') := by
  refine cv_of (cc := cX5_beginRows) (maxL := 1) (lv := [(0, .ref (ad 88))]) (by decide) rfl (Nat.le_of_ble_eq_true rfl) rfl ?_
  intro p e s m args below meth c A Q C hret
  refine j_aload_n C 0 0 dX5_beginRows_0 rfl rfl ?_
  refine j_getP C 4 92 fX5_beginRows_21 (by decide) rfl (by decide) rfl rfl dX5_beginRows_1 ?_
  refine j_lconst C 0 dX5_beginRows_4 (by decide) ?_
  refine j_callSv C (d := 0) (As := [.ref (ad 92), .long 0]) (st := []) (k122_J7_fill_d0a16) gX5_beginRows_J7_fill_d0a16 rfl hdJ7_fill_d0a16s (by decide) (Nat.le_of_ble_eq_true rfl) dX5_beginRows_5 rfl (fun M' hp => ?_)
  obtain rfl := hp
  refine j_aload_n C 0 0 dX5_beginRows_8 rfl rfl ?_
  refine j_getP C 4 92 fX5_beginRows_21 (by decide) rfl (by decide) rfl rfl dX5_beginRows_9 ?_
  refine j_aload_n C 0 0 dX5_beginRows_12 rfl rfl ?_
  refine j_getI C 4 0 fX5_beginRows_45 (by decide) rfl (by decide) rfl rfl dX5_beginRows_13 ?_
  refine j_lconst C 1 dX5_beginRows_16 (by decide) ?_
  refine x_last C 0 256 (by decide) rfl rfl rfl (by decide) (by decide) dX5_beginRows_17 ?_
  exact hret _ _ _ dX5_beginRows_18 rfl
set_option maxHeartbeats 4000000 in
set_option maxRecDepth 100000 in
theorem k124_X5_allWays {l : Launch} {dC : Nat → ClassId} {dI : Nat → Nat → Nat} {ad : Nat → Nat} {cA : Nat → ClassId} : Cj l 0 yX5_allWays wsX5_allWays dC dI ad cA [.ref (ad 88)] (wJ (wI M0 90 0 1) 92 0 1) (fun r M' => 1 = r ∧ (wJ (wI M0 90 0 1) 92 0 1) = M') := by
  refine cj_of (cc := cX5_allWays) (maxL := 4) (lv := [(0, .ref (ad 88))]) (by decide) rfl (Nat.le_of_ble_eq_true rfl) rfl ?_
  intro p e s m args below meth c A Q C hret
  refine j_lconst C 0 dX5_allWays_0 (by decide) ?_
  refine j_lstore_n C 1 [(1, .long 0), (0, .ref (ad 88))] dX5_allWays_1 rfl (by decide) rfl ?_
  refine j_aload_n C 1 0 dX5_allWays_2 rfl rfl ?_
  refine j_getI C 4 0 fX5_allWays_45 (by decide) rfl (by decide) rfl rfl dX5_allWays_3 ?_
  refine j_istore_n C 3 [(3, .int 0), (1, .long 0), (0, .ref (ad 88))] dX5_allWays_6 rfl (by decide) rfl ?_
  refine j_iload_n C 0 3 dX5_allWays_7 rfl rfl ?_
  refine j_aload_n C 2 0 dX5_allWays_8 rfl rfl ?_
  refine j_getI C 4 0 fX5_allWays_38 (by decide) rfl (by decide) rfl rfl dX5_allWays_9 ?_
  refine j_icmp_gt_f C 30 dX5_allWays_12 (by decide) (by decide) ?_
  refine j_lload_n C 1 1 dX5_allWays_15 rfl rfl ?_
  refine j_aload_n C 2 0 dX5_allWays_16 rfl rfl ?_
  refine j_getP C 4 92 fX5_allWays_21 (by decide) rfl (by decide) rfl rfl dX5_allWays_17 ?_
  refine j_iload_n C 0 3 dX5_allWays_20 rfl rfl ?_
  refine x_lald C 0 256 1 (by decide) rfl rfl rfl (by decide) (by decide) rfl dX5_allWays_21 ?_
  refine z_ladd C 1 (by decide) dX5_allWays_22 ?_
  refine j_lstore_n C 1 [(1, .long 1), (3, .int 0), (0, .ref (ad 88))] dX5_allWays_23 rfl (by decide) rfl ?_
  refine j_iinc C 1 1 [(3, .int 1), (1, .long 1), (0, .ref (ad 88))] dX5_allWays_24 rfl (by decide) (by decide) rfl ?_
  refine j_goto C 7 dX5_allWays_27 (by decide) ?_
  refine j_iload_n C 0 3 dX5_allWays_7 rfl rfl ?_
  refine j_aload_n C 2 0 dX5_allWays_8 rfl rfl ?_
  refine j_getI C 4 0 fX5_allWays_38 (by decide) rfl (by decide) rfl rfl dX5_allWays_9 ?_
  refine j_icmp_gt_t C 30 dX5_allWays_12 (by decide) (by decide) ?_
  refine j_lload_n C 1 1 dX5_allWays_30 rfl rfl ?_
  exact hret _ _ _ _ dX5_allWays_31 ⟨rfl, rfl⟩
set_option maxHeartbeats 4000000 in
set_option maxRecDepth 100000 in
theorem k125_X5_isShutAt {l : Launch} {dC : Nat → ClassId} {dI : Nat → Nat → Nat} {ad : Nat → Nat} {cA : Nat → ClassId} : Ci l 0 yX5_isShutAt wsX5_isShutAt dC dI ad cA [.ref (ad 88), .int 0] (wJ (wI M0 90 0 1) 92 0 1) (fun r M' => 1 = r ∧ (wJ (wI M0 90 0 1) 92 0 1) = M') := by
  refine ci_of (cc := cX5_isShutAt) (maxL := 2) (ty := .boolean) (lv := [(0, .ref (ad 88)), (1, .int 0)]) (by decide) rfl (fun r M' hp => by obtain ⟨rfl, rfl⟩ := hp; rfl) (Nat.le_of_ble_eq_true rfl) rfl ?_
  intro p e s m args below meth c A Q C hret
  refine j_aload_n C 0 0 dX5_isShutAt_0 rfl rfl ?_
  refine j_getI C 4 0 fX5_isShutAt_42 (by decide) rfl (by decide) rfl rfl dX5_isShutAt_1 ?_
  refine j_iload_n C 1 1 dX5_isShutAt_4 rfl rfl ?_
  refine j_iconst C (-1) dX5_isShutAt_5 (by decide) ?_
  refine z_ixor C (-1) (by decide) dX5_isShutAt_6 ?_
  refine z_iand C 0 (by decide) dX5_isShutAt_7 ?_
  refine j_if_ne_f C 15 dX5_isShutAt_8 (by decide) (by decide) ?_
  refine j_iconst C 1 dX5_isShutAt_11 (by decide) ?_
  refine j_goto C 16 dX5_isShutAt_12 (by decide) ?_
  exact hret _ _ _ _ dX5_isShutAt_16 ⟨rfl, rfl⟩
set_option maxHeartbeats 4000000 in
set_option maxRecDepth 100000 in
theorem k126_X5_openWays {l : Launch} {dC : Nat → ClassId} {dI : Nat → Nat → Nat} {ad : Nat → Nat} {cA : Nat → ClassId} : Cj l 1 yX5_openWays wsX5_openWays dC dI ad cA [.ref (ad 88)] (wJ (wI M0 90 0 1) 92 0 1) (fun r M' => 0 = r ∧ (wJ (wI M0 90 0 1) 92 0 1) = M') := by
  refine cj_of (cc := cX5_openWays) (maxL := 4) (lv := [(0, .ref (ad 88))]) (by decide) rfl (Nat.le_of_ble_eq_true rfl) rfl ?_
  intro p e s m args below meth c A Q C hret
  refine j_lconst C 0 dX5_openWays_0 (by decide) ?_
  refine j_lstore_n C 1 [(1, .long 0), (0, .ref (ad 88))] dX5_openWays_1 rfl (by decide) rfl ?_
  refine j_aload_n C 1 0 dX5_openWays_2 rfl rfl ?_
  refine j_getI C 4 0 fX5_openWays_45 (by decide) rfl (by decide) rfl rfl dX5_openWays_3 ?_
  refine j_istore_n C 3 [(3, .int 0), (1, .long 0), (0, .ref (ad 88))] dX5_openWays_6 rfl (by decide) rfl ?_
  refine j_iload_n C 0 3 dX5_openWays_7 rfl rfl ?_
  refine j_aload_n C 2 0 dX5_openWays_8 rfl rfl ?_
  refine j_getI C 4 0 fX5_openWays_38 (by decide) rfl (by decide) rfl rfl dX5_openWays_9 ?_
  refine j_icmp_gt_f C 42 dX5_openWays_12 (by decide) (by decide) ?_
  refine j_lload_n C 1 1 dX5_openWays_15 rfl rfl ?_
  refine j_aload_n C 2 0 dX5_openWays_16 rfl rfl ?_
  refine j_iload_n C 0 3 dX5_openWays_17 rfl rfl ?_
  refine j_callVi C (d := 0) (As := [.int 0]) (st := [.long 0]) 88 (by decide) rfl (by decide) rfl (k125_X5_isShutAt) gX5_openWays_X5_isShutAt rfl hdX5_isShutAt (by decide) (Nat.le_of_ble_eq_true rfl) dX5_openWays_18 rfl (fun r M' hp => ?_)
  obtain ⟨rfl, rfl⟩ := hp
  refine j_if_eq_f C 28 dX5_openWays_21 (by decide) (by decide) ?_
  refine j_lconst C 0 dX5_openWays_24 (by decide) ?_
  refine j_goto C 34 dX5_openWays_25 (by decide) ?_
  refine z_ladd C 0 (by decide) dX5_openWays_34 ?_
  refine j_lstore_n C 1 [(1, .long 0), (3, .int 0), (0, .ref (ad 88))] dX5_openWays_35 rfl (by decide) rfl ?_
  refine j_iinc C 1 1 [(3, .int 1), (1, .long 0), (0, .ref (ad 88))] dX5_openWays_36 rfl (by decide) (by decide) rfl ?_
  refine j_goto C 7 dX5_openWays_39 (by decide) ?_
  refine j_iload_n C 0 3 dX5_openWays_7 rfl rfl ?_
  refine j_aload_n C 2 0 dX5_openWays_8 rfl rfl ?_
  refine j_getI C 4 0 fX5_openWays_38 (by decide) rfl (by decide) rfl rfl dX5_openWays_9 ?_
  refine j_icmp_gt_t C 42 dX5_openWays_12 (by decide) (by decide) ?_
  refine j_lload_n C 1 1 dX5_openWays_42 rfl rfl ?_
  exact hret _ _ _ _ dX5_openWays_43 ⟨rfl, rfl⟩
set_option maxHeartbeats 4000000 in
set_option maxRecDepth 100000 in
theorem k127_J7_fill_d0a16 {l : Launch} {dC : Nat → ClassId} {dI : Nat → Nat → Nat} {ad : Nat → Nat} {cA : Nat → ClassId} : Cv l 0 yJ7_fill_d0a16 wsJ7_fill_d0a16 dC dI ad cA [.ref (ad 93), .long 0] (wJ (wI M0 90 0 1) 92 0 1) (fun M' => (wJ (wI M0 90 0 1) 92 0 1) = M') := by
  refine cv_of (cc := cJ7_fill_d0a16) (maxL := 5) (lv := [(0, .ref (ad 93)), (1, .long 0)]) (by decide) rfl (Nat.le_of_ble_eq_true rfl) rfl ?_
  intro p e s m args below meth c A Q C hret
  refine j_iconst C 0 dJ7_fill_d0a16_0 (by decide) ?_
  refine j_istore_n C 3 [(3, .int 0), (0, .ref (ad 93)), (1, .long 0)] dJ7_fill_d0a16_1 rfl (by decide) rfl ?_
  refine j_aload_n C 1 0 dJ7_fill_d0a16_2 rfl rfl ?_
  refine j_alen C 256 (by decide) (by decide) (by decide) dJ7_fill_d0a16_3 ?_
  refine j_istore C 4 [(4, .int 256), (3, .int 0), (0, .ref (ad 93)), (1, .long 0)] dJ7_fill_d0a16_4 (by decide) rfl ?_
  refine j_lv [2, 3, 1, 0] rfl ?_
  have L : ∀ (n i : Nat), 0 ≤ i → i + n = 256 → jj p l e (cn_R 0) s m args below meth c 0 0 Q 5 dC dI ad cA A (wJ (wI M0 90 0 1) 92 0 1) 6 [(0, .ref (ad 93)), (1, .long 0), (3, .int (nI i)), (4, .int 256)] [] := by
    intro n
    induction n with
    | zero =>
      intro i h1 h2
      obtain rfl : i = 256 := by omega
      refine j_iload_n C 2 3 dJ7_fill_d0a16_6 rfl rfl ?_
      refine j_iload C 3 dJ7_fill_d0a16_7 rfl ?_
      refine j_icmp_ge_t C 22 dJ7_fill_d0a16_9 (by decide) (by decide) ?_
      exact hret _ _ _ dJ7_fill_d0a16_22 rfl
    | succ n ih =>
      intro i h1 h2
      refine j_iload_n C 2 3 dJ7_fill_d0a16_6 rfl rfl ?_
      refine j_iload C 3 dJ7_fill_d0a16_7 rfl ?_
      refine z_icmp_ge C 22 (i : Int) 256 (nI_toInt (n := i) (by omega)) (by decide) dJ7_fill_d0a16_9 (by decide) (fun h1 => ?_) (fun h1 => ?_)
      · exfalso; omega
      · refine j_aload_n C 0 0 dJ7_fill_d0a16_12 rfl rfl ?_
        refine j_iload_n C 2 3 dJ7_fill_d0a16_13 rfl rfl ?_
        refine j_lload_n C 1 1 dJ7_fill_d0a16_14 rfl rfl ?_
        refine x_last C i 256 (by decide) rfl rfl rfl (by omega) (by decide) dJ7_fill_d0a16_15 ?_
        refine z_noJ rfl ?_
        refine j_iinc C 2 (nI (i + 1)) [(3, .int (nI (i + 1))), (0, .ref (ad 93)), (1, .long 0), (4, .int 256)] dJ7_fill_d0a16_16 rfl (nI_1 i) (by decide) rfl ?_
        refine j_goto C 6 dJ7_fill_d0a16_19 (by decide) ?_
        refine j_lv [1, 2, 0, 3] rfl ?_
        exact ih (i + 1) (by omega) (by omega)
  exact L (256 - 0) 0 (by omega) (by omega)
set_option maxHeartbeats 4000000 in
set_option maxRecDepth 100000 in
theorem k128_X5_swapWays {l : Launch} {dC : Nat → ClassId} {dI : Nat → Nat → Nat} {ad : Nat → Nat} {cA : Nat → ClassId} : Cv l 0 yX5_swapWays wsX5_swapWays dC dI ad cA [.ref (ad 88)] (wJ (wI M0 90 0 1) 92 0 1) (fun M' => (wP (wP (wJ (wI M0 90 0 1) 92 0 1) 88 4 93) 88 5 92) = M') := by
  refine cv_of (cc := cX5_swapWays) (maxL := 2) (lv := [(0, .ref (ad 88))]) (by decide) rfl (Nat.le_of_ble_eq_true rfl) rfl ?_
  intro p e s m args below meth c A Q C hret
  refine j_aload_n C 0 0 dX5_swapWays_0 rfl rfl ?_
  refine j_getP C 4 92 fX5_swapWays_21 (by decide) rfl (by decide) rfl rfl dX5_swapWays_1 ?_
  refine j_astore_n C 1 [(1, .ref (ad 92)), (0, .ref (ad 88))] dX5_swapWays_4 rfl (by decide) rfl ?_
  refine j_aload_n C 1 0 dX5_swapWays_5 rfl rfl ?_
  refine j_aload_n C 1 0 dX5_swapWays_6 rfl rfl ?_
  refine j_getP C 4 93 fX5_swapWays_25 (by decide) rfl (by decide) rfl rfl dX5_swapWays_7 ?_
  refine j_putP C 4 qX5_swapWays_21 rfl rfl (by decide) rfl (by decide) rfl dX5_swapWays_10 ?_
  refine j_aload_n C 1 0 dX5_swapWays_13 rfl rfl ?_
  refine j_aload_n C 0 1 dX5_swapWays_14 rfl rfl ?_
  refine j_putP C 4 qX5_swapWays_25 rfl rfl (by decide) rfl (by decide) rfl dX5_swapWays_15 ?_
  exact hret _ _ _ dX5_swapWays_18 rfl
set_option maxHeartbeats 4000000 in
set_option maxRecDepth 100000 in
theorem k129_X5_lengthenRows {l : Launch} {dC : Nat → ClassId} {dI : Nat → Nat → Nat} {ad : Nat → Nat} {cA : Nat → ClassId} : Cv l 1 yX5_lengthenRows wsX5_lengthenRows dC dI ad cA [.ref (ad 88), .int (-1)] (wJ (wI M0 90 0 1) 92 0 1) (fun M' => (wP (wP (wJ (wI M0 90 0 1) 92 0 1) 88 4 93) 88 5 92) = M') := by
  refine cv_of (cc := cX5_lengthenRows) (maxL := 5) (lv := [(0, .ref (ad 88)), (1, .int (-1))]) (by decide) rfl (Nat.le_of_ble_eq_true rfl) rfl ?_
  intro p e s m args below meth c A Q C hret
  refine j_aload_n C 0 0 dX5_lengthenRows_0 rfl rfl ?_
  refine j_getP C 4 93 fX5_lengthenRows_25 (by decide) rfl (by decide) rfl rfl dX5_lengthenRows_1 ?_
  refine j_lconst C 0 dX5_lengthenRows_4 (by decide) ?_
  refine j_callSv C (d := 0) (As := [.ref (ad 93), .long 0]) (st := []) (k127_J7_fill_d0a16) gX5_lengthenRows_J7_fill_d0a16 rfl hdJ7_fill_d0a16s (by decide) (Nat.le_of_ble_eq_true rfl) dX5_lengthenRows_5 rfl (fun M' hp => ?_)
  obtain rfl := hp
  refine j_aload_n C 0 0 dX5_lengthenRows_8 rfl rfl ?_
  refine j_getI C 4 0 fX5_lengthenRows_45 (by decide) rfl (by decide) rfl rfl dX5_lengthenRows_9 ?_
  refine j_istore_n C 2 [(2, .int 0), (0, .ref (ad 88)), (1, .int (-1))] dX5_lengthenRows_12 rfl (by decide) rfl ?_
  refine j_iload_n C 0 2 dX5_lengthenRows_13 rfl rfl ?_
  refine j_aload_n C 1 0 dX5_lengthenRows_14 rfl rfl ?_
  refine j_getI C 4 0 fX5_lengthenRows_38 (by decide) rfl (by decide) rfl rfl dX5_lengthenRows_15 ?_
  refine j_icmp_gt_f C 101 dX5_lengthenRows_18 (by decide) (by decide) ?_
  refine j_iconst C 0 dX5_lengthenRows_21 (by decide) ?_
  refine j_istore_n C 3 [(3, .int 0), (2, .int 0), (0, .ref (ad 88)), (1, .int (-1))] dX5_lengthenRows_22 rfl (by decide) rfl ?_
  refine j_iload_n C 0 3 dX5_lengthenRows_23 rfl rfl ?_
  refine j_aload_n C 2 0 dX5_lengthenRows_24 rfl rfl ?_
  refine j_getP C 4 2 fX5_lengthenRows_52 (by decide) rfl (by decide) rfl rfl dX5_lengthenRows_25 ?_
  refine j_getI C 6 0 fX5_lengthenRows_92 (by decide) rfl (by decide) rfl rfl dX5_lengthenRows_28 ?_
  refine j_icmp_ge_t C 95 dX5_lengthenRows_31 (by decide) (by decide) ?_
  refine j_iinc C 1 1 [(2, .int 1), (3, .int 0), (0, .ref (ad 88)), (1, .int (-1))] dX5_lengthenRows_95 rfl (by decide) (by decide) rfl ?_
  refine j_goto C 13 dX5_lengthenRows_98 (by decide) ?_
  refine j_iload_n C 0 2 dX5_lengthenRows_13 rfl rfl ?_
  refine j_aload_n C 2 0 dX5_lengthenRows_14 rfl rfl ?_
  refine j_getI C 4 0 fX5_lengthenRows_38 (by decide) rfl (by decide) rfl rfl dX5_lengthenRows_15 ?_
  refine j_icmp_gt_t C 101 dX5_lengthenRows_18 (by decide) (by decide) ?_
  refine j_aload_n C 2 0 dX5_lengthenRows_101 rfl rfl ?_
  refine j_callVv C (d := 0) (As := []) (st := []) 88 (by decide) rfl (by decide) rfl (k128_X5_swapWays) gX5_lengthenRows_X5_swapWays rfl hdX5_swapWays (by decide) (Nat.le_of_ble_eq_true rfl) dX5_lengthenRows_102 rfl (fun M' hp => ?_)
  obtain rfl := hp
  exact hret _ _ _ dX5_lengthenRows_105 rfl
set_option maxHeartbeats 4000000 in
set_option maxRecDepth 100000 in
theorem k130_X5_allWays {l : Launch} {dC : Nat → ClassId} {dI : Nat → Nat → Nat} {ad : Nat → Nat} {cA : Nat → ClassId} : Cj l 0 yX5_allWays wsX5_allWays dC dI ad cA [.ref (ad 88)] (wP (wP (wJ (wI M0 90 0 1) 92 0 1) 88 4 93) 88 5 92) (fun r M' => 0 = r ∧ (wP (wP (wJ (wI M0 90 0 1) 92 0 1) 88 4 93) 88 5 92) = M') := by
  refine cj_of (cc := cX5_allWays) (maxL := 4) (lv := [(0, .ref (ad 88))]) (by decide) rfl (Nat.le_of_ble_eq_true rfl) rfl ?_
  intro p e s m args below meth c A Q C hret
  refine j_lconst C 0 dX5_allWays_0 (by decide) ?_
  refine j_lstore_n C 1 [(1, .long 0), (0, .ref (ad 88))] dX5_allWays_1 rfl (by decide) rfl ?_
  refine j_aload_n C 1 0 dX5_allWays_2 rfl rfl ?_
  refine j_getI C 4 0 fX5_allWays_45 (by decide) rfl (by decide) rfl rfl dX5_allWays_3 ?_
  refine j_istore_n C 3 [(3, .int 0), (1, .long 0), (0, .ref (ad 88))] dX5_allWays_6 rfl (by decide) rfl ?_
  refine j_iload_n C 0 3 dX5_allWays_7 rfl rfl ?_
  refine j_aload_n C 2 0 dX5_allWays_8 rfl rfl ?_
  refine j_getI C 4 0 fX5_allWays_38 (by decide) rfl (by decide) rfl rfl dX5_allWays_9 ?_
  refine j_icmp_gt_f C 30 dX5_allWays_12 (by decide) (by decide) ?_
  refine j_lload_n C 1 1 dX5_allWays_15 rfl rfl ?_
  refine j_aload_n C 2 0 dX5_allWays_16 rfl rfl ?_
  refine j_getP C 4 93 fX5_allWays_21 (by decide) rfl (by decide) rfl rfl dX5_allWays_17 ?_
  refine j_iload_n C 0 3 dX5_allWays_20 rfl rfl ?_
  refine x_lald C 0 256 0 (by decide) rfl rfl rfl (by decide) (by decide) rfl dX5_allWays_21 ?_
  refine z_ladd C 0 (by decide) dX5_allWays_22 ?_
  refine j_lstore_n C 1 [(1, .long 0), (3, .int 0), (0, .ref (ad 88))] dX5_allWays_23 rfl (by decide) rfl ?_
  refine j_iinc C 1 1 [(3, .int 1), (1, .long 0), (0, .ref (ad 88))] dX5_allWays_24 rfl (by decide) (by decide) rfl ?_
  refine j_goto C 7 dX5_allWays_27 (by decide) ?_
  refine j_iload_n C 0 3 dX5_allWays_7 rfl rfl ?_
  refine j_aload_n C 2 0 dX5_allWays_8 rfl rfl ?_
  refine j_getI C 4 0 fX5_allWays_38 (by decide) rfl (by decide) rfl rfl dX5_allWays_9 ?_
  refine j_icmp_gt_t C 30 dX5_allWays_12 (by decide) (by decide) ?_
  refine j_lload_n C 1 1 dX5_allWays_30 rfl rfl ?_
  exact hret _ _ _ _ dX5_allWays_31 ⟨rfl, rfl⟩
set_option maxHeartbeats 4000000 in
set_option maxRecDepth 100000 in
theorem k131_X5_isShutAt {l : Launch} {dC : Nat → ClassId} {dI : Nat → Nat → Nat} {ad : Nat → Nat} {cA : Nat → ClassId} : Ci l 0 yX5_isShutAt wsX5_isShutAt dC dI ad cA [.ref (ad 88), .int 0] (wP (wP (wJ (wI M0 90 0 1) 92 0 1) 88 4 93) 88 5 92) (fun r M' => 1 = r ∧ (wP (wP (wJ (wI M0 90 0 1) 92 0 1) 88 4 93) 88 5 92) = M') := by
  refine ci_of (cc := cX5_isShutAt) (maxL := 2) (ty := .boolean) (lv := [(0, .ref (ad 88)), (1, .int 0)]) (by decide) rfl (fun r M' hp => by obtain ⟨rfl, rfl⟩ := hp; rfl) (Nat.le_of_ble_eq_true rfl) rfl ?_
  intro p e s m args below meth c A Q C hret
  refine j_aload_n C 0 0 dX5_isShutAt_0 rfl rfl ?_
  refine j_getI C 4 0 fX5_isShutAt_42 (by decide) rfl (by decide) rfl rfl dX5_isShutAt_1 ?_
  refine j_iload_n C 1 1 dX5_isShutAt_4 rfl rfl ?_
  refine j_iconst C (-1) dX5_isShutAt_5 (by decide) ?_
  refine z_ixor C (-1) (by decide) dX5_isShutAt_6 ?_
  refine z_iand C 0 (by decide) dX5_isShutAt_7 ?_
  refine j_if_ne_f C 15 dX5_isShutAt_8 (by decide) (by decide) ?_
  refine j_iconst C 1 dX5_isShutAt_11 (by decide) ?_
  refine j_goto C 16 dX5_isShutAt_12 (by decide) ?_
  exact hret _ _ _ _ dX5_isShutAt_16 ⟨rfl, rfl⟩
set_option maxHeartbeats 4000000 in
set_option maxRecDepth 100000 in
theorem k132_X5_openWays {l : Launch} {dC : Nat → ClassId} {dI : Nat → Nat → Nat} {ad : Nat → Nat} {cA : Nat → ClassId} : Cj l 1 yX5_openWays wsX5_openWays dC dI ad cA [.ref (ad 88)] (wP (wP (wJ (wI M0 90 0 1) 92 0 1) 88 4 93) 88 5 92) (fun r M' => 0 = r ∧ (wP (wP (wJ (wI M0 90 0 1) 92 0 1) 88 4 93) 88 5 92) = M') := by
  refine cj_of (cc := cX5_openWays) (maxL := 4) (lv := [(0, .ref (ad 88))]) (by decide) rfl (Nat.le_of_ble_eq_true rfl) rfl ?_
  intro p e s m args below meth c A Q C hret
  refine j_lconst C 0 dX5_openWays_0 (by decide) ?_
  refine j_lstore_n C 1 [(1, .long 0), (0, .ref (ad 88))] dX5_openWays_1 rfl (by decide) rfl ?_
  refine j_aload_n C 1 0 dX5_openWays_2 rfl rfl ?_
  refine j_getI C 4 0 fX5_openWays_45 (by decide) rfl (by decide) rfl rfl dX5_openWays_3 ?_
  refine j_istore_n C 3 [(3, .int 0), (1, .long 0), (0, .ref (ad 88))] dX5_openWays_6 rfl (by decide) rfl ?_
  refine j_iload_n C 0 3 dX5_openWays_7 rfl rfl ?_
  refine j_aload_n C 2 0 dX5_openWays_8 rfl rfl ?_
  refine j_getI C 4 0 fX5_openWays_38 (by decide) rfl (by decide) rfl rfl dX5_openWays_9 ?_
  refine j_icmp_gt_f C 42 dX5_openWays_12 (by decide) (by decide) ?_
  refine j_lload_n C 1 1 dX5_openWays_15 rfl rfl ?_
  refine j_aload_n C 2 0 dX5_openWays_16 rfl rfl ?_
  refine j_iload_n C 0 3 dX5_openWays_17 rfl rfl ?_
  refine j_callVi C (d := 0) (As := [.int 0]) (st := [.long 0]) 88 (by decide) rfl (by decide) rfl (k131_X5_isShutAt) gX5_openWays_X5_isShutAt rfl hdX5_isShutAt (by decide) (Nat.le_of_ble_eq_true rfl) dX5_openWays_18 rfl (fun r M' hp => ?_)
  obtain ⟨rfl, rfl⟩ := hp
  refine j_if_eq_f C 28 dX5_openWays_21 (by decide) (by decide) ?_
  refine j_lconst C 0 dX5_openWays_24 (by decide) ?_
  refine j_goto C 34 dX5_openWays_25 (by decide) ?_
  refine z_ladd C 0 (by decide) dX5_openWays_34 ?_
  refine j_lstore_n C 1 [(1, .long 0), (3, .int 0), (0, .ref (ad 88))] dX5_openWays_35 rfl (by decide) rfl ?_
  refine j_iinc C 1 1 [(3, .int 1), (1, .long 0), (0, .ref (ad 88))] dX5_openWays_36 rfl (by decide) (by decide) rfl ?_
  refine j_goto C 7 dX5_openWays_39 (by decide) ?_
  refine j_iload_n C 0 3 dX5_openWays_7 rfl rfl ?_
  refine j_aload_n C 2 0 dX5_openWays_8 rfl rfl ?_
  refine j_getI C 4 0 fX5_openWays_38 (by decide) rfl (by decide) rfl rfl dX5_openWays_9 ?_
  refine j_icmp_gt_t C 42 dX5_openWays_12 (by decide) (by decide) ?_
  refine j_lload_n C 1 1 dX5_openWays_42 rfl rfl ?_
  exact hret _ _ _ _ dX5_openWays_43 ⟨rfl, rfl⟩
set_option maxHeartbeats 4000000 in
set_option maxRecDepth 100000 in
theorem k133_J7_fill_d0a16 {l : Launch} {dC : Nat → ClassId} {dI : Nat → Nat → Nat} {ad : Nat → Nat} {cA : Nat → ClassId} : Cv l 0 yJ7_fill_d0a16 wsJ7_fill_d0a16 dC dI ad cA [.ref (ad 92), .long 0] (wP (wP (wJ (wI M0 90 0 1) 92 0 1) 88 4 93) 88 5 92) (fun M' => (wP (wP (wI M0 90 0 1) 88 4 93) 88 5 92) = M') := by
  refine cv_of (cc := cJ7_fill_d0a16) (maxL := 5) (lv := [(0, .ref (ad 92)), (1, .long 0)]) (by decide) rfl (Nat.le_of_ble_eq_true rfl) rfl ?_
  intro p e s m args below meth c A Q C hret
  refine j_iconst C 0 dJ7_fill_d0a16_0 (by decide) ?_
  refine j_istore_n C 3 [(3, .int 0), (0, .ref (ad 92)), (1, .long 0)] dJ7_fill_d0a16_1 rfl (by decide) rfl ?_
  refine j_aload_n C 1 0 dJ7_fill_d0a16_2 rfl rfl ?_
  refine j_alen C 256 (by decide) (by decide) (by decide) dJ7_fill_d0a16_3 ?_
  refine j_istore C 4 [(4, .int 256), (3, .int 0), (0, .ref (ad 92)), (1, .long 0)] dJ7_fill_d0a16_4 (by decide) rfl ?_
  refine j_iload_n C 1 3 dJ7_fill_d0a16_6 rfl rfl ?_
  refine j_iload C 0 dJ7_fill_d0a16_7 rfl ?_
  refine j_icmp_ge_f C 22 dJ7_fill_d0a16_9 (by decide) (by decide) ?_
  refine j_aload_n C 2 0 dJ7_fill_d0a16_12 rfl rfl ?_
  refine j_iload_n C 1 3 dJ7_fill_d0a16_13 rfl rfl ?_
  refine j_lload_n C 3 1 dJ7_fill_d0a16_14 rfl rfl ?_
  refine x_last C 0 256 (by decide) rfl rfl rfl (by decide) (by decide) dJ7_fill_d0a16_15 ?_
  refine j_M (M' := (wP (wP (wI M0 90 0 1) 88 4 93) 88 5 92)) (congrArg (fun X => wP X 88 5 92) (congrArg (fun X => wP X 88 4 93) ((wJ_w _ _ _ _ _).trans (wJ_e rfl)))) ?_
  refine j_iinc C 1 1 [(3, .int 1), (4, .int 256), (0, .ref (ad 92)), (1, .long 0)] dJ7_fill_d0a16_16 rfl (by decide) (by decide) rfl ?_
  refine j_goto C 6 dJ7_fill_d0a16_19 (by decide) ?_
  refine j_lv [2, 3, 0, 1] rfl ?_
  have L : ∀ (n i : Nat), 1 ≤ i → i + n = 256 → jj p l e (cn_R 0) s m args below meth c 0 0 Q 5 dC dI ad cA A (wP (wP (wI M0 90 0 1) 88 4 93) 88 5 92) 6 [(0, .ref (ad 92)), (1, .long 0), (3, .int (nI i)), (4, .int 256)] [] := by
    intro n
    induction n with
    | zero =>
      intro i h1 h2
      obtain rfl : i = 256 := by omega
      refine j_iload_n C 2 3 dJ7_fill_d0a16_6 rfl rfl ?_
      refine j_iload C 3 dJ7_fill_d0a16_7 rfl ?_
      refine j_icmp_ge_t C 22 dJ7_fill_d0a16_9 (by decide) (by decide) ?_
      exact hret _ _ _ dJ7_fill_d0a16_22 rfl
    | succ n ih =>
      intro i h1 h2
      refine j_iload_n C 2 3 dJ7_fill_d0a16_6 rfl rfl ?_
      refine j_iload C 3 dJ7_fill_d0a16_7 rfl ?_
      refine z_icmp_ge C 22 (i : Int) 256 (nI_toInt (n := i) (by omega)) (by decide) dJ7_fill_d0a16_9 (by decide) (fun h1 => ?_) (fun h1 => ?_)
      · exfalso; omega
      · refine j_aload_n C 0 0 dJ7_fill_d0a16_12 rfl rfl ?_
        refine j_iload_n C 2 3 dJ7_fill_d0a16_13 rfl rfl ?_
        refine j_lload_n C 1 1 dJ7_fill_d0a16_14 rfl rfl ?_
        refine x_last C i 256 (by decide) rfl rfl rfl (by omega) (by decide) dJ7_fill_d0a16_15 ?_
        refine z_noJ rfl ?_
        refine j_iinc C 2 (nI (i + 1)) [(3, .int (nI (i + 1))), (0, .ref (ad 92)), (1, .long 0), (4, .int 256)] dJ7_fill_d0a16_16 rfl (nI_1 i) (by decide) rfl ?_
        refine j_goto C 6 dJ7_fill_d0a16_19 (by decide) ?_
        refine j_lv [1, 2, 0, 3] rfl ?_
        exact ih (i + 1) (by omega) (by omega)
  exact L (256 - 1) 1 (by omega) (by omega)
set_option maxHeartbeats 4000000 in
set_option maxRecDepth 100000 in
theorem k134_X5_swapWays {l : Launch} {dC : Nat → ClassId} {dI : Nat → Nat → Nat} {ad : Nat → Nat} {cA : Nat → ClassId} : Cv l 0 yX5_swapWays wsX5_swapWays dC dI ad cA [.ref (ad 88)] (wP (wP (wI M0 90 0 1) 88 4 93) 88 5 92) (fun M' => (wI M0 90 0 1) = M') := by
  refine cv_of (cc := cX5_swapWays) (maxL := 2) (lv := [(0, .ref (ad 88))]) (by decide) rfl (Nat.le_of_ble_eq_true rfl) rfl ?_
  intro p e s m args below meth c A Q C hret
  refine j_aload_n C 0 0 dX5_swapWays_0 rfl rfl ?_
  refine j_getP C 4 93 fX5_swapWays_21 (by decide) rfl (by decide) rfl rfl dX5_swapWays_1 ?_
  refine j_astore_n C 1 [(1, .ref (ad 93)), (0, .ref (ad 88))] dX5_swapWays_4 rfl (by decide) rfl ?_
  refine j_aload_n C 1 0 dX5_swapWays_5 rfl rfl ?_
  refine j_aload_n C 1 0 dX5_swapWays_6 rfl rfl ?_
  refine j_getP C 4 92 fX5_swapWays_25 (by decide) rfl (by decide) rfl rfl dX5_swapWays_7 ?_
  refine j_putP C 4 qX5_swapWays_21 rfl rfl (by decide) rfl (by decide) rfl dX5_swapWays_10 ?_
  refine j_M (M' := (wP (wI M0 90 0 1) 88 5 92)) ((wP_c (by decide)).trans (congrArg (fun X => wP X 88 5 92) ((wP_w _ _ _ _ _).trans (wP_e rfl)))) ?_
  refine j_aload_n C 1 0 dX5_swapWays_13 rfl rfl ?_
  refine j_aload_n C 0 1 dX5_swapWays_14 rfl rfl ?_
  refine j_putP C 4 qX5_swapWays_25 rfl rfl (by decide) rfl (by decide) rfl dX5_swapWays_15 ?_
  refine j_M (M' := (wI M0 90 0 1)) ((wP_w _ _ _ _ _).trans (wP_e rfl)) ?_
  exact hret _ _ _ dX5_swapWays_18 rfl
set_option maxHeartbeats 4000000 in
set_option maxRecDepth 100000 in
theorem k135_X5_lengthenRows {l : Launch} {dC : Nat → ClassId} {dI : Nat → Nat → Nat} {ad : Nat → Nat} {cA : Nat → ClassId} : Cv l 1 yX5_lengthenRows wsX5_lengthenRows dC dI ad cA [.ref (ad 88), .int (-1)] (wP (wP (wJ (wI M0 90 0 1) 92 0 1) 88 4 93) 88 5 92) (fun M' => (wI M0 90 0 1) = M') := by
  refine cv_of (cc := cX5_lengthenRows) (maxL := 5) (lv := [(0, .ref (ad 88)), (1, .int (-1))]) (by decide) rfl (Nat.le_of_ble_eq_true rfl) rfl ?_
  intro p e s m args below meth c A Q C hret
  refine j_aload_n C 0 0 dX5_lengthenRows_0 rfl rfl ?_
  refine j_getP C 4 92 fX5_lengthenRows_25 (by decide) rfl (by decide) rfl rfl dX5_lengthenRows_1 ?_
  refine j_lconst C 0 dX5_lengthenRows_4 (by decide) ?_
  refine j_callSv C (d := 0) (As := [.ref (ad 92), .long 0]) (st := []) (k133_J7_fill_d0a16) gX5_lengthenRows_J7_fill_d0a16 rfl hdJ7_fill_d0a16s (by decide) (Nat.le_of_ble_eq_true rfl) dX5_lengthenRows_5 rfl (fun M' hp => ?_)
  obtain rfl := hp
  refine j_aload_n C 0 0 dX5_lengthenRows_8 rfl rfl ?_
  refine j_getI C 4 0 fX5_lengthenRows_45 (by decide) rfl (by decide) rfl rfl dX5_lengthenRows_9 ?_
  refine j_istore_n C 2 [(2, .int 0), (0, .ref (ad 88)), (1, .int (-1))] dX5_lengthenRows_12 rfl (by decide) rfl ?_
  refine j_iload_n C 0 2 dX5_lengthenRows_13 rfl rfl ?_
  refine j_aload_n C 1 0 dX5_lengthenRows_14 rfl rfl ?_
  refine j_getI C 4 0 fX5_lengthenRows_38 (by decide) rfl (by decide) rfl rfl dX5_lengthenRows_15 ?_
  refine j_icmp_gt_f C 101 dX5_lengthenRows_18 (by decide) (by decide) ?_
  refine j_iconst C 0 dX5_lengthenRows_21 (by decide) ?_
  refine j_istore_n C 3 [(3, .int 0), (2, .int 0), (0, .ref (ad 88)), (1, .int (-1))] dX5_lengthenRows_22 rfl (by decide) rfl ?_
  refine j_iload_n C 0 3 dX5_lengthenRows_23 rfl rfl ?_
  refine j_aload_n C 2 0 dX5_lengthenRows_24 rfl rfl ?_
  refine j_getP C 4 2 fX5_lengthenRows_52 (by decide) rfl (by decide) rfl rfl dX5_lengthenRows_25 ?_
  refine j_getI C 6 0 fX5_lengthenRows_92 (by decide) rfl (by decide) rfl rfl dX5_lengthenRows_28 ?_
  refine j_icmp_ge_t C 95 dX5_lengthenRows_31 (by decide) (by decide) ?_
  refine j_iinc C 1 1 [(2, .int 1), (3, .int 0), (0, .ref (ad 88)), (1, .int (-1))] dX5_lengthenRows_95 rfl (by decide) (by decide) rfl ?_
  refine j_goto C 13 dX5_lengthenRows_98 (by decide) ?_
  refine j_iload_n C 0 2 dX5_lengthenRows_13 rfl rfl ?_
  refine j_aload_n C 2 0 dX5_lengthenRows_14 rfl rfl ?_
  refine j_getI C 4 0 fX5_lengthenRows_38 (by decide) rfl (by decide) rfl rfl dX5_lengthenRows_15 ?_
  refine j_icmp_gt_t C 101 dX5_lengthenRows_18 (by decide) (by decide) ?_
  refine j_aload_n C 2 0 dX5_lengthenRows_101 rfl rfl ?_
  refine j_callVv C (d := 0) (As := []) (st := []) 88 (by decide) rfl (by decide) rfl (k134_X5_swapWays) gX5_lengthenRows_X5_swapWays rfl hdX5_swapWays (by decide) (Nat.le_of_ble_eq_true rfl) dX5_lengthenRows_102 rfl (fun M' hp => ?_)
  obtain rfl := hp
  exact hret _ _ _ dX5_lengthenRows_105 rfl
set_option maxHeartbeats 4000000 in
set_option maxRecDepth 100000 in
theorem k136_X5_allWays {l : Launch} {dC : Nat → ClassId} {dI : Nat → Nat → Nat} {ad : Nat → Nat} {cA : Nat → ClassId} : Cj l 0 yX5_allWays wsX5_allWays dC dI ad cA [.ref (ad 88)] (wI M0 90 0 1) (fun r M' => 0 = r ∧ (wI M0 90 0 1) = M') := by
  refine cj_of (cc := cX5_allWays) (maxL := 4) (lv := [(0, .ref (ad 88))]) (by decide) rfl (Nat.le_of_ble_eq_true rfl) rfl ?_
  intro p e s m args below meth c A Q C hret
  refine j_lconst C 0 dX5_allWays_0 (by decide) ?_
  refine j_lstore_n C 1 [(1, .long 0), (0, .ref (ad 88))] dX5_allWays_1 rfl (by decide) rfl ?_
  refine j_aload_n C 1 0 dX5_allWays_2 rfl rfl ?_
  refine j_getI C 4 0 fX5_allWays_45 (by decide) rfl (by decide) rfl rfl dX5_allWays_3 ?_
  refine j_istore_n C 3 [(3, .int 0), (1, .long 0), (0, .ref (ad 88))] dX5_allWays_6 rfl (by decide) rfl ?_
  refine j_iload_n C 0 3 dX5_allWays_7 rfl rfl ?_
  refine j_aload_n C 2 0 dX5_allWays_8 rfl rfl ?_
  refine j_getI C 4 0 fX5_allWays_38 (by decide) rfl (by decide) rfl rfl dX5_allWays_9 ?_
  refine j_icmp_gt_f C 30 dX5_allWays_12 (by decide) (by decide) ?_
  refine j_lload_n C 1 1 dX5_allWays_15 rfl rfl ?_
  refine j_aload_n C 2 0 dX5_allWays_16 rfl rfl ?_
  refine j_getP C 4 92 fX5_allWays_21 (by decide) rfl (by decide) rfl rfl dX5_allWays_17 ?_
  refine j_iload_n C 0 3 dX5_allWays_20 rfl rfl ?_
  refine x_lald C 0 256 0 (by decide) rfl rfl rfl (by decide) (by decide) rfl dX5_allWays_21 ?_
  refine z_ladd C 0 (by decide) dX5_allWays_22 ?_
  refine j_lstore_n C 1 [(1, .long 0), (3, .int 0), (0, .ref (ad 88))] dX5_allWays_23 rfl (by decide) rfl ?_
  refine j_iinc C 1 1 [(3, .int 1), (1, .long 0), (0, .ref (ad 88))] dX5_allWays_24 rfl (by decide) (by decide) rfl ?_
  refine j_goto C 7 dX5_allWays_27 (by decide) ?_
  refine j_iload_n C 0 3 dX5_allWays_7 rfl rfl ?_
  refine j_aload_n C 2 0 dX5_allWays_8 rfl rfl ?_
  refine j_getI C 4 0 fX5_allWays_38 (by decide) rfl (by decide) rfl rfl dX5_allWays_9 ?_
  refine j_icmp_gt_t C 30 dX5_allWays_12 (by decide) (by decide) ?_
  refine j_lload_n C 1 1 dX5_allWays_30 rfl rfl ?_
  exact hret _ _ _ _ dX5_allWays_31 ⟨rfl, rfl⟩
set_option maxHeartbeats 4000000 in
set_option maxRecDepth 100000 in
theorem k137_X5_openWays {l : Launch} {dC : Nat → ClassId} {dI : Nat → Nat → Nat} {ad : Nat → Nat} {cA : Nat → ClassId} : Cj l 1 yX5_openWays wsX5_openWays dC dI ad cA [.ref (ad 88)] (wI M0 90 0 1) (fun r M' => 0 = r ∧ (wI M0 90 0 1) = M') := by
  refine cj_of (cc := cX5_openWays) (maxL := 4) (lv := [(0, .ref (ad 88))]) (by decide) rfl (Nat.le_of_ble_eq_true rfl) rfl ?_
  intro p e s m args below meth c A Q C hret
  refine j_lconst C 0 dX5_openWays_0 (by decide) ?_
  refine j_lstore_n C 1 [(1, .long 0), (0, .ref (ad 88))] dX5_openWays_1 rfl (by decide) rfl ?_
  refine j_aload_n C 1 0 dX5_openWays_2 rfl rfl ?_
  refine j_getI C 4 0 fX5_openWays_45 (by decide) rfl (by decide) rfl rfl dX5_openWays_3 ?_
  refine j_istore_n C 3 [(3, .int 0), (1, .long 0), (0, .ref (ad 88))] dX5_openWays_6 rfl (by decide) rfl ?_
  refine j_iload_n C 0 3 dX5_openWays_7 rfl rfl ?_
  refine j_aload_n C 2 0 dX5_openWays_8 rfl rfl ?_
  refine j_getI C 4 0 fX5_openWays_38 (by decide) rfl (by decide) rfl rfl dX5_openWays_9 ?_
  refine j_icmp_gt_f C 42 dX5_openWays_12 (by decide) (by decide) ?_
  refine j_lload_n C 1 1 dX5_openWays_15 rfl rfl ?_
  refine j_aload_n C 2 0 dX5_openWays_16 rfl rfl ?_
  refine j_iload_n C 0 3 dX5_openWays_17 rfl rfl ?_
  refine j_callVi C (d := 0) (As := [.int 0]) (st := [.long 0]) 88 (by decide) rfl (by decide) rfl (k111_X5_isShutAt) gX5_openWays_X5_isShutAt rfl hdX5_isShutAt (by decide) (Nat.le_of_ble_eq_true rfl) dX5_openWays_18 rfl (fun r M' hp => ?_)
  obtain ⟨rfl, rfl⟩ := hp
  refine j_if_eq_f C 28 dX5_openWays_21 (by decide) (by decide) ?_
  refine j_lconst C 0 dX5_openWays_24 (by decide) ?_
  refine j_goto C 34 dX5_openWays_25 (by decide) ?_
  refine z_ladd C 0 (by decide) dX5_openWays_34 ?_
  refine j_lstore_n C 1 [(1, .long 0), (3, .int 0), (0, .ref (ad 88))] dX5_openWays_35 rfl (by decide) rfl ?_
  refine j_iinc C 1 1 [(3, .int 1), (1, .long 0), (0, .ref (ad 88))] dX5_openWays_36 rfl (by decide) (by decide) rfl ?_
  refine j_goto C 7 dX5_openWays_39 (by decide) ?_
  refine j_iload_n C 0 3 dX5_openWays_7 rfl rfl ?_
  refine j_aload_n C 2 0 dX5_openWays_8 rfl rfl ?_
  refine j_getI C 4 0 fX5_openWays_38 (by decide) rfl (by decide) rfl rfl dX5_openWays_9 ?_
  refine j_icmp_gt_t C 42 dX5_openWays_12 (by decide) (by decide) ?_
  refine j_lload_n C 1 1 dX5_openWays_42 rfl rfl ?_
  exact hret _ _ _ _ dX5_openWays_43 ⟨rfl, rfl⟩
set_option maxHeartbeats 4000000 in
set_option maxRecDepth 100000 in
theorem k138_J7_fill_d0a16 {l : Launch} {dC : Nat → ClassId} {dI : Nat → Nat → Nat} {ad : Nat → Nat} {cA : Nat → ClassId} : Cv l 0 yJ7_fill_d0a16 wsJ7_fill_d0a16 dC dI ad cA [.ref (ad 93), .long 0] (wI M0 90 0 1) (fun M' => (wI M0 90 0 1) = M') := by
  refine cv_of (cc := cJ7_fill_d0a16) (maxL := 5) (lv := [(0, .ref (ad 93)), (1, .long 0)]) (by decide) rfl (Nat.le_of_ble_eq_true rfl) rfl ?_
  intro p e s m args below meth c A Q C hret
  refine j_iconst C 0 dJ7_fill_d0a16_0 (by decide) ?_
  refine j_istore_n C 3 [(3, .int 0), (0, .ref (ad 93)), (1, .long 0)] dJ7_fill_d0a16_1 rfl (by decide) rfl ?_
  refine j_aload_n C 1 0 dJ7_fill_d0a16_2 rfl rfl ?_
  refine j_alen C 256 (by decide) (by decide) (by decide) dJ7_fill_d0a16_3 ?_
  refine j_istore C 4 [(4, .int 256), (3, .int 0), (0, .ref (ad 93)), (1, .long 0)] dJ7_fill_d0a16_4 (by decide) rfl ?_
  refine j_lv [2, 3, 1, 0] rfl ?_
  have L : ∀ (n i : Nat), 0 ≤ i → i + n = 256 → jj p l e (cn_R 0) s m args below meth c 0 0 Q 5 dC dI ad cA A (wI M0 90 0 1) 6 [(0, .ref (ad 93)), (1, .long 0), (3, .int (nI i)), (4, .int 256)] [] := by
    intro n
    induction n with
    | zero =>
      intro i h1 h2
      obtain rfl : i = 256 := by omega
      refine j_iload_n C 2 3 dJ7_fill_d0a16_6 rfl rfl ?_
      refine j_iload C 3 dJ7_fill_d0a16_7 rfl ?_
      refine j_icmp_ge_t C 22 dJ7_fill_d0a16_9 (by decide) (by decide) ?_
      exact hret _ _ _ dJ7_fill_d0a16_22 rfl
    | succ n ih =>
      intro i h1 h2
      refine j_iload_n C 2 3 dJ7_fill_d0a16_6 rfl rfl ?_
      refine j_iload C 3 dJ7_fill_d0a16_7 rfl ?_
      refine z_icmp_ge C 22 (i : Int) 256 (nI_toInt (n := i) (by omega)) (by decide) dJ7_fill_d0a16_9 (by decide) (fun h1 => ?_) (fun h1 => ?_)
      · exfalso; omega
      · refine j_aload_n C 0 0 dJ7_fill_d0a16_12 rfl rfl ?_
        refine j_iload_n C 2 3 dJ7_fill_d0a16_13 rfl rfl ?_
        refine j_lload_n C 1 1 dJ7_fill_d0a16_14 rfl rfl ?_
        refine x_last C i 256 (by decide) rfl rfl rfl (by omega) (by decide) dJ7_fill_d0a16_15 ?_
        refine z_noJ rfl ?_
        refine j_iinc C 2 (nI (i + 1)) [(3, .int (nI (i + 1))), (0, .ref (ad 93)), (1, .long 0), (4, .int 256)] dJ7_fill_d0a16_16 rfl (nI_1 i) (by decide) rfl ?_
        refine j_goto C 6 dJ7_fill_d0a16_19 (by decide) ?_
        refine j_lv [1, 2, 0, 3] rfl ?_
        exact ih (i + 1) (by omega) (by omega)
  exact L (256 - 0) 0 (by omega) (by omega)
set_option maxHeartbeats 4000000 in
set_option maxRecDepth 100000 in
theorem k139_X5_swapWays {l : Launch} {dC : Nat → ClassId} {dI : Nat → Nat → Nat} {ad : Nat → Nat} {cA : Nat → ClassId} : Cv l 0 yX5_swapWays wsX5_swapWays dC dI ad cA [.ref (ad 88)] (wI M0 90 0 1) (fun M' => (wP (wP (wI M0 90 0 1) 88 4 93) 88 5 92) = M') := by
  refine cv_of (cc := cX5_swapWays) (maxL := 2) (lv := [(0, .ref (ad 88))]) (by decide) rfl (Nat.le_of_ble_eq_true rfl) rfl ?_
  intro p e s m args below meth c A Q C hret
  refine j_aload_n C 0 0 dX5_swapWays_0 rfl rfl ?_
  refine j_getP C 4 92 fX5_swapWays_21 (by decide) rfl (by decide) rfl rfl dX5_swapWays_1 ?_
  refine j_astore_n C 1 [(1, .ref (ad 92)), (0, .ref (ad 88))] dX5_swapWays_4 rfl (by decide) rfl ?_
  refine j_aload_n C 1 0 dX5_swapWays_5 rfl rfl ?_
  refine j_aload_n C 1 0 dX5_swapWays_6 rfl rfl ?_
  refine j_getP C 4 93 fX5_swapWays_25 (by decide) rfl (by decide) rfl rfl dX5_swapWays_7 ?_
  refine j_putP C 4 qX5_swapWays_21 rfl rfl (by decide) rfl (by decide) rfl dX5_swapWays_10 ?_
  refine j_aload_n C 1 0 dX5_swapWays_13 rfl rfl ?_
  refine j_aload_n C 0 1 dX5_swapWays_14 rfl rfl ?_
  refine j_putP C 4 qX5_swapWays_25 rfl rfl (by decide) rfl (by decide) rfl dX5_swapWays_15 ?_
  exact hret _ _ _ dX5_swapWays_18 rfl
set_option maxHeartbeats 4000000 in
set_option maxRecDepth 100000 in
theorem k140_X5_lengthenRows {l : Launch} {dC : Nat → ClassId} {dI : Nat → Nat → Nat} {ad : Nat → Nat} {cA : Nat → ClassId} : Cv l 1 yX5_lengthenRows wsX5_lengthenRows dC dI ad cA [.ref (ad 88), .int (-1)] (wI M0 90 0 1) (fun M' => (wP (wP (wI M0 90 0 1) 88 4 93) 88 5 92) = M') := by
  refine cv_of (cc := cX5_lengthenRows) (maxL := 5) (lv := [(0, .ref (ad 88)), (1, .int (-1))]) (by decide) rfl (Nat.le_of_ble_eq_true rfl) rfl ?_
  intro p e s m args below meth c A Q C hret
  refine j_aload_n C 0 0 dX5_lengthenRows_0 rfl rfl ?_
  refine j_getP C 4 93 fX5_lengthenRows_25 (by decide) rfl (by decide) rfl rfl dX5_lengthenRows_1 ?_
  refine j_lconst C 0 dX5_lengthenRows_4 (by decide) ?_
  refine j_callSv C (d := 0) (As := [.ref (ad 93), .long 0]) (st := []) (k138_J7_fill_d0a16) gX5_lengthenRows_J7_fill_d0a16 rfl hdJ7_fill_d0a16s (by decide) (Nat.le_of_ble_eq_true rfl) dX5_lengthenRows_5 rfl (fun M' hp => ?_)
  obtain rfl := hp
  refine j_aload_n C 0 0 dX5_lengthenRows_8 rfl rfl ?_
  refine j_getI C 4 0 fX5_lengthenRows_45 (by decide) rfl (by decide) rfl rfl dX5_lengthenRows_9 ?_
  refine j_istore_n C 2 [(2, .int 0), (0, .ref (ad 88)), (1, .int (-1))] dX5_lengthenRows_12 rfl (by decide) rfl ?_
  refine j_iload_n C 0 2 dX5_lengthenRows_13 rfl rfl ?_
  refine j_aload_n C 1 0 dX5_lengthenRows_14 rfl rfl ?_
  refine j_getI C 4 0 fX5_lengthenRows_38 (by decide) rfl (by decide) rfl rfl dX5_lengthenRows_15 ?_
  refine j_icmp_gt_f C 101 dX5_lengthenRows_18 (by decide) (by decide) ?_
  refine j_iconst C 0 dX5_lengthenRows_21 (by decide) ?_
  refine j_istore_n C 3 [(3, .int 0), (2, .int 0), (0, .ref (ad 88)), (1, .int (-1))] dX5_lengthenRows_22 rfl (by decide) rfl ?_
  refine j_iload_n C 0 3 dX5_lengthenRows_23 rfl rfl ?_
  refine j_aload_n C 2 0 dX5_lengthenRows_24 rfl rfl ?_
  refine j_getP C 4 2 fX5_lengthenRows_52 (by decide) rfl (by decide) rfl rfl dX5_lengthenRows_25 ?_
  refine j_getI C 6 0 fX5_lengthenRows_92 (by decide) rfl (by decide) rfl rfl dX5_lengthenRows_28 ?_
  refine j_icmp_ge_t C 95 dX5_lengthenRows_31 (by decide) (by decide) ?_
  refine j_iinc C 1 1 [(2, .int 1), (3, .int 0), (0, .ref (ad 88)), (1, .int (-1))] dX5_lengthenRows_95 rfl (by decide) (by decide) rfl ?_
  refine j_goto C 13 dX5_lengthenRows_98 (by decide) ?_
  refine j_iload_n C 0 2 dX5_lengthenRows_13 rfl rfl ?_
  refine j_aload_n C 2 0 dX5_lengthenRows_14 rfl rfl ?_
  refine j_getI C 4 0 fX5_lengthenRows_38 (by decide) rfl (by decide) rfl rfl dX5_lengthenRows_15 ?_
  refine j_icmp_gt_t C 101 dX5_lengthenRows_18 (by decide) (by decide) ?_
  refine j_aload_n C 2 0 dX5_lengthenRows_101 rfl rfl ?_
  refine j_callVv C (d := 0) (As := []) (st := []) 88 (by decide) rfl (by decide) rfl (k139_X5_swapWays) gX5_lengthenRows_X5_swapWays rfl hdX5_swapWays (by decide) (Nat.le_of_ble_eq_true rfl) dX5_lengthenRows_102 rfl (fun M' hp => ?_)
  obtain rfl := hp
  exact hret _ _ _ dX5_lengthenRows_105 rfl
set_option maxHeartbeats 4000000 in
set_option maxRecDepth 100000 in
theorem k141_X5_allWays {l : Launch} {dC : Nat → ClassId} {dI : Nat → Nat → Nat} {ad : Nat → Nat} {cA : Nat → ClassId} : Cj l 0 yX5_allWays wsX5_allWays dC dI ad cA [.ref (ad 88)] (wP (wP (wI M0 90 0 1) 88 4 93) 88 5 92) (fun r M' => 0 = r ∧ (wP (wP (wI M0 90 0 1) 88 4 93) 88 5 92) = M') := by
  refine cj_of (cc := cX5_allWays) (maxL := 4) (lv := [(0, .ref (ad 88))]) (by decide) rfl (Nat.le_of_ble_eq_true rfl) rfl ?_
  intro p e s m args below meth c A Q C hret
  refine j_lconst C 0 dX5_allWays_0 (by decide) ?_
  refine j_lstore_n C 1 [(1, .long 0), (0, .ref (ad 88))] dX5_allWays_1 rfl (by decide) rfl ?_
  refine j_aload_n C 1 0 dX5_allWays_2 rfl rfl ?_
  refine j_getI C 4 0 fX5_allWays_45 (by decide) rfl (by decide) rfl rfl dX5_allWays_3 ?_
  refine j_istore_n C 3 [(3, .int 0), (1, .long 0), (0, .ref (ad 88))] dX5_allWays_6 rfl (by decide) rfl ?_
  refine j_iload_n C 0 3 dX5_allWays_7 rfl rfl ?_
  refine j_aload_n C 2 0 dX5_allWays_8 rfl rfl ?_
  refine j_getI C 4 0 fX5_allWays_38 (by decide) rfl (by decide) rfl rfl dX5_allWays_9 ?_
  refine j_icmp_gt_f C 30 dX5_allWays_12 (by decide) (by decide) ?_
  refine j_lload_n C 1 1 dX5_allWays_15 rfl rfl ?_
  refine j_aload_n C 2 0 dX5_allWays_16 rfl rfl ?_
  refine j_getP C 4 93 fX5_allWays_21 (by decide) rfl (by decide) rfl rfl dX5_allWays_17 ?_
  refine j_iload_n C 0 3 dX5_allWays_20 rfl rfl ?_
  refine x_lald C 0 256 0 (by decide) rfl rfl rfl (by decide) (by decide) rfl dX5_allWays_21 ?_
  refine z_ladd C 0 (by decide) dX5_allWays_22 ?_
  refine j_lstore_n C 1 [(1, .long 0), (3, .int 0), (0, .ref (ad 88))] dX5_allWays_23 rfl (by decide) rfl ?_
  refine j_iinc C 1 1 [(3, .int 1), (1, .long 0), (0, .ref (ad 88))] dX5_allWays_24 rfl (by decide) (by decide) rfl ?_
  refine j_goto C 7 dX5_allWays_27 (by decide) ?_
  refine j_iload_n C 0 3 dX5_allWays_7 rfl rfl ?_
  refine j_aload_n C 2 0 dX5_allWays_8 rfl rfl ?_
  refine j_getI C 4 0 fX5_allWays_38 (by decide) rfl (by decide) rfl rfl dX5_allWays_9 ?_
  refine j_icmp_gt_t C 30 dX5_allWays_12 (by decide) (by decide) ?_
  refine j_lload_n C 1 1 dX5_allWays_30 rfl rfl ?_
  exact hret _ _ _ _ dX5_allWays_31 ⟨rfl, rfl⟩
set_option maxHeartbeats 4000000 in
set_option maxRecDepth 100000 in
theorem k142_X5_isShutAt {l : Launch} {dC : Nat → ClassId} {dI : Nat → Nat → Nat} {ad : Nat → Nat} {cA : Nat → ClassId} : Ci l 0 yX5_isShutAt wsX5_isShutAt dC dI ad cA [.ref (ad 88), .int 0] (wP (wP (wI M0 90 0 1) 88 4 93) 88 5 92) (fun r M' => 1 = r ∧ (wP (wP (wI M0 90 0 1) 88 4 93) 88 5 92) = M') := by
  refine ci_of (cc := cX5_isShutAt) (maxL := 2) (ty := .boolean) (lv := [(0, .ref (ad 88)), (1, .int 0)]) (by decide) rfl (fun r M' hp => by obtain ⟨rfl, rfl⟩ := hp; rfl) (Nat.le_of_ble_eq_true rfl) rfl ?_
  intro p e s m args below meth c A Q C hret
  refine j_aload_n C 0 0 dX5_isShutAt_0 rfl rfl ?_
  refine j_getI C 4 0 fX5_isShutAt_42 (by decide) rfl (by decide) rfl rfl dX5_isShutAt_1 ?_
  refine j_iload_n C 1 1 dX5_isShutAt_4 rfl rfl ?_
  refine j_iconst C (-1) dX5_isShutAt_5 (by decide) ?_
  refine z_ixor C (-1) (by decide) dX5_isShutAt_6 ?_
  refine z_iand C 0 (by decide) dX5_isShutAt_7 ?_
  refine j_if_ne_f C 15 dX5_isShutAt_8 (by decide) (by decide) ?_
  refine j_iconst C 1 dX5_isShutAt_11 (by decide) ?_
  refine j_goto C 16 dX5_isShutAt_12 (by decide) ?_
  exact hret _ _ _ _ dX5_isShutAt_16 ⟨rfl, rfl⟩
set_option maxHeartbeats 4000000 in
set_option maxRecDepth 100000 in
theorem k143_X5_openWays {l : Launch} {dC : Nat → ClassId} {dI : Nat → Nat → Nat} {ad : Nat → Nat} {cA : Nat → ClassId} : Cj l 1 yX5_openWays wsX5_openWays dC dI ad cA [.ref (ad 88)] (wP (wP (wI M0 90 0 1) 88 4 93) 88 5 92) (fun r M' => 0 = r ∧ (wP (wP (wI M0 90 0 1) 88 4 93) 88 5 92) = M') := by
  refine cj_of (cc := cX5_openWays) (maxL := 4) (lv := [(0, .ref (ad 88))]) (by decide) rfl (Nat.le_of_ble_eq_true rfl) rfl ?_
  intro p e s m args below meth c A Q C hret
  refine j_lconst C 0 dX5_openWays_0 (by decide) ?_
  refine j_lstore_n C 1 [(1, .long 0), (0, .ref (ad 88))] dX5_openWays_1 rfl (by decide) rfl ?_
  refine j_aload_n C 1 0 dX5_openWays_2 rfl rfl ?_
  refine j_getI C 4 0 fX5_openWays_45 (by decide) rfl (by decide) rfl rfl dX5_openWays_3 ?_
  refine j_istore_n C 3 [(3, .int 0), (1, .long 0), (0, .ref (ad 88))] dX5_openWays_6 rfl (by decide) rfl ?_
  refine j_iload_n C 0 3 dX5_openWays_7 rfl rfl ?_
  refine j_aload_n C 2 0 dX5_openWays_8 rfl rfl ?_
  refine j_getI C 4 0 fX5_openWays_38 (by decide) rfl (by decide) rfl rfl dX5_openWays_9 ?_
  refine j_icmp_gt_f C 42 dX5_openWays_12 (by decide) (by decide) ?_
  refine j_lload_n C 1 1 dX5_openWays_15 rfl rfl ?_
  refine j_aload_n C 2 0 dX5_openWays_16 rfl rfl ?_
  refine j_iload_n C 0 3 dX5_openWays_17 rfl rfl ?_
  refine j_callVi C (d := 0) (As := [.int 0]) (st := [.long 0]) 88 (by decide) rfl (by decide) rfl (k142_X5_isShutAt) gX5_openWays_X5_isShutAt rfl hdX5_isShutAt (by decide) (Nat.le_of_ble_eq_true rfl) dX5_openWays_18 rfl (fun r M' hp => ?_)
  obtain ⟨rfl, rfl⟩ := hp
  refine j_if_eq_f C 28 dX5_openWays_21 (by decide) (by decide) ?_
  refine j_lconst C 0 dX5_openWays_24 (by decide) ?_
  refine j_goto C 34 dX5_openWays_25 (by decide) ?_
  refine z_ladd C 0 (by decide) dX5_openWays_34 ?_
  refine j_lstore_n C 1 [(1, .long 0), (3, .int 0), (0, .ref (ad 88))] dX5_openWays_35 rfl (by decide) rfl ?_
  refine j_iinc C 1 1 [(3, .int 1), (1, .long 0), (0, .ref (ad 88))] dX5_openWays_36 rfl (by decide) (by decide) rfl ?_
  refine j_goto C 7 dX5_openWays_39 (by decide) ?_
  refine j_iload_n C 0 3 dX5_openWays_7 rfl rfl ?_
  refine j_aload_n C 2 0 dX5_openWays_8 rfl rfl ?_
  refine j_getI C 4 0 fX5_openWays_38 (by decide) rfl (by decide) rfl rfl dX5_openWays_9 ?_
  refine j_icmp_gt_t C 42 dX5_openWays_12 (by decide) (by decide) ?_
  refine j_lload_n C 1 1 dX5_openWays_42 rfl rfl ?_
  exact hret _ _ _ _ dX5_openWays_43 ⟨rfl, rfl⟩
set_option maxHeartbeats 4000000 in
set_option maxRecDepth 100000 in
theorem k144_J7_fill_d0a16 {l : Launch} {dC : Nat → ClassId} {dI : Nat → Nat → Nat} {ad : Nat → Nat} {cA : Nat → ClassId} : Cv l 0 yJ7_fill_d0a16 wsJ7_fill_d0a16 dC dI ad cA [.ref (ad 92), .long 0] (wP (wP (wI M0 90 0 1) 88 4 93) 88 5 92) (fun M' => (wP (wP (wI M0 90 0 1) 88 4 93) 88 5 92) = M') := by
  refine cv_of (cc := cJ7_fill_d0a16) (maxL := 5) (lv := [(0, .ref (ad 92)), (1, .long 0)]) (by decide) rfl (Nat.le_of_ble_eq_true rfl) rfl ?_
  intro p e s m args below meth c A Q C hret
  refine j_iconst C 0 dJ7_fill_d0a16_0 (by decide) ?_
  refine j_istore_n C 3 [(3, .int 0), (0, .ref (ad 92)), (1, .long 0)] dJ7_fill_d0a16_1 rfl (by decide) rfl ?_
  refine j_aload_n C 1 0 dJ7_fill_d0a16_2 rfl rfl ?_
  refine j_alen C 256 (by decide) (by decide) (by decide) dJ7_fill_d0a16_3 ?_
  refine j_istore C 4 [(4, .int 256), (3, .int 0), (0, .ref (ad 92)), (1, .long 0)] dJ7_fill_d0a16_4 (by decide) rfl ?_
  refine j_lv [2, 3, 1, 0] rfl ?_
  have L : ∀ (n i : Nat), 0 ≤ i → i + n = 256 → jj p l e (cn_R 0) s m args below meth c 0 0 Q 5 dC dI ad cA A (wP (wP (wI M0 90 0 1) 88 4 93) 88 5 92) 6 [(0, .ref (ad 92)), (1, .long 0), (3, .int (nI i)), (4, .int 256)] [] := by
    intro n
    induction n with
    | zero =>
      intro i h1 h2
      obtain rfl : i = 256 := by omega
      refine j_iload_n C 2 3 dJ7_fill_d0a16_6 rfl rfl ?_
      refine j_iload C 3 dJ7_fill_d0a16_7 rfl ?_
      refine j_icmp_ge_t C 22 dJ7_fill_d0a16_9 (by decide) (by decide) ?_
      exact hret _ _ _ dJ7_fill_d0a16_22 rfl
    | succ n ih =>
      intro i h1 h2
      refine j_iload_n C 2 3 dJ7_fill_d0a16_6 rfl rfl ?_
      refine j_iload C 3 dJ7_fill_d0a16_7 rfl ?_
      refine z_icmp_ge C 22 (i : Int) 256 (nI_toInt (n := i) (by omega)) (by decide) dJ7_fill_d0a16_9 (by decide) (fun h1 => ?_) (fun h1 => ?_)
      · exfalso; omega
      · refine j_aload_n C 0 0 dJ7_fill_d0a16_12 rfl rfl ?_
        refine j_iload_n C 2 3 dJ7_fill_d0a16_13 rfl rfl ?_
        refine j_lload_n C 1 1 dJ7_fill_d0a16_14 rfl rfl ?_
        refine x_last C i 256 (by decide) rfl rfl rfl (by omega) (by decide) dJ7_fill_d0a16_15 ?_
        refine z_noJ rfl ?_
        refine j_iinc C 2 (nI (i + 1)) [(3, .int (nI (i + 1))), (0, .ref (ad 92)), (1, .long 0), (4, .int 256)] dJ7_fill_d0a16_16 rfl (nI_1 i) (by decide) rfl ?_
        refine j_goto C 6 dJ7_fill_d0a16_19 (by decide) ?_
        refine j_lv [1, 2, 0, 3] rfl ?_
        exact ih (i + 1) (by omega) (by omega)
  exact L (256 - 0) 0 (by omega) (by omega)
