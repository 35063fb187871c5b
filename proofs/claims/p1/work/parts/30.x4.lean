set_option maxHeartbeats 4000000 in
set_option maxRecDepth 100000 in
theorem hk_X1_drawDeed {l : Launch} {dC : Nat → ClassId} {dI : Nat → Nat → Nat} {ad : Nat → Nat} {cA : Nat → ClassId} (g0 g1 : Int32) : Ci l 1 yX1_drawDeed wsX1_drawDeed dC dI ad cA [.ref (ad 87), .ref (ad 12)] (wI (wI M0 12 7 g0) 12 8 g1) (fun r M' => ((sr (sx g1) 5).toInt < 2 ∧ r = -1 ∧ M' = (wI (wI M0 12 7 g0) 12 8 (sx g1))) ∨ (¬ (sr (sx g1) 5).toInt < 2 ∧ ((0 ≤ r.toInt ∧ r.toInt ≤ 5) ∨ (100 ≤ r.toInt ∧ r.toInt ≤ 107) ∨ (200 ≤ r.toInt ∧ r.toInt ≤ 207)) ∧ M' = (wI (wI M0 12 7 g0) 12 8 (sx (sx g1))))) := by
  refine ci_of (cc := cX1_drawDeed) (maxL := 2) (ty := .int) (lv := [(0, .ref (ad 87)), (1, .ref (ad 12))]) (by decide) rfl (fun r M' hp => rfl) (Nat.le_of_ble_eq_true rfl) rfl ?_
  intro p e s m args below meth c A Q C hret
  refine j_aload_n C 1 1 dX1_drawDeed_0 rfl rfl ?_
  refine j_callVi C (d := 0) (As := []) (st := []) 12 (by decide) rfl (by decide) rfl (k264_X9_draw g0 g1) gX1_drawDeed_X9_draw rfl hdX9_draw (by decide) (Nat.le_of_ble_eq_true rfl) dX1_drawDeed_1 rfl (fun r M' hp => ?_)
  obtain ⟨rfl, rfl⟩ := hp
  refine j_iconst C 5 dX1_drawDeed_4 (by decide) ?_
  refine z_irem C (sr (sx g1) 5) rfl (by decide) dX1_drawDeed_5 ?_
  have hN := sr_5 (sx g1)
  by_cases h2 : (sr (sx g1) 5).toInt < 2
  · refine j_tableOut C 63 dX1_drawDeed_6 (Or.inl (by omega)) (by decide) ?_
    refine j_iconst C (-1) dX1_drawDeed_63 (by decide) ?_
    exact hret _ _ _ _ dX1_drawDeed_64 (Or.inl ⟨h2, rfl, rfl⟩)
  · rcases sr_c _ h2 with e | e | e
    · refine j_i 2 e ?_
      refine j_tableIn C (off := 26) 32 dX1_drawDeed_6 (by decide) (by decide) (by decide) (by decide) ?_
      refine j_aload_n C 1 1 dX1_drawDeed_32 rfl rfl ?_
      refine j_callVi C (d := 0) (As := []) (st := []) 12 (by decide) rfl (by decide) rfl (k265_X9_draw g0 g1) gX1_drawDeed_X9_draw rfl hdX9_draw (by decide) (Nat.le_of_ble_eq_true rfl) dX1_drawDeed_33 rfl (fun r M' hp => ?_)
      obtain ⟨rfl, rfl⟩ := hp
      refine j_bipush C 6 dX1_drawDeed_36 (by decide) ?_
      refine z_irem C (sr (sx (sx g1)) 6) rfl (by decide) dX1_drawDeed_38 ?_
      exact hret _ _ _ _ dX1_drawDeed_39 (Or.inr ⟨h2, Or.inl (sr_6 _), rfl⟩)
    · refine j_i 3 e ?_
      refine j_tableIn C (off := 34) 40 dX1_drawDeed_6 (by decide) (by decide) (by decide) (by decide) ?_
      refine j_bipush C 100 dX1_drawDeed_40 (by decide) ?_
      refine j_aload_n C 1 1 dX1_drawDeed_42 rfl rfl ?_
      refine j_callVi C (d := 0) (As := []) (st := [.int 100]) 12 (by decide) rfl (by decide) rfl (k265_X9_draw g0 g1) gX1_drawDeed_X9_draw rfl hdX9_draw (by decide) (Nat.le_of_ble_eq_true rfl) dX1_drawDeed_43 rfl (fun r M' hp => ?_)
      obtain ⟨rfl, rfl⟩ := hp
      refine j_bipush C 8 dX1_drawDeed_46 (by decide) ?_
      refine z_irem C (sr (sx (sx g1)) 8) rfl (by decide) dX1_drawDeed_48 ?_
      refine z_iadd C (100 + (sr (sx (sx g1)) 8)) rfl dX1_drawDeed_49 ?_
      exact hret _ _ _ _ dX1_drawDeed_50 (Or.inr ⟨h2, Or.inr (Or.inl (sr_8 _ 100 (by decide))), rfl⟩)
    · refine j_i 4 e ?_
      refine j_tableIn C (off := 45) 51 dX1_drawDeed_6 (by decide) (by decide) (by decide) (by decide) ?_
      refine j_sipush C 200 dX1_drawDeed_51 (by decide) ?_
      refine j_aload_n C 1 1 dX1_drawDeed_54 rfl rfl ?_
      refine j_callVi C (d := 0) (As := []) (st := [.int 200]) 12 (by decide) rfl (by decide) rfl (k265_X9_draw g0 g1) gX1_drawDeed_X9_draw rfl hdX9_draw (by decide) (Nat.le_of_ble_eq_true rfl) dX1_drawDeed_55 rfl (fun r M' hp => ?_)
      obtain ⟨rfl, rfl⟩ := hp
      refine j_bipush C 8 dX1_drawDeed_58 (by decide) ?_
      refine z_irem C (sr (sx (sx g1)) 8) rfl (by decide) dX1_drawDeed_60 ?_
      refine z_iadd C (200 + (sr (sx (sx g1)) 8)) rfl dX1_drawDeed_61 ?_
      exact hret _ _ _ _ dX1_drawDeed_62 (Or.inr ⟨h2, Or.inr (Or.inr (sr_8 _ 200 (by decide))), rfl⟩)
set_option maxHeartbeats 4000000 in
set_option maxRecDepth 100000 in
theorem k269_X9_copyFrom {l : Launch} {dC : Nat → ClassId} {dI : Nat → Nat → Nat} {ad : Nat → Nat} {cA : Nat → ClassId} (p0 : Int32) (p1 : Int32) : Cv l 0 yX9_copyFrom wsX9_copyFrom dC dI ad cA [.ref (ad 20), .ref (ad 15)] (wI (wI M0 12 7 p0) 12 8 p1) (fun M' => (wI (wI M0 12 7 p0) 12 8 p1) = M') := by
  refine cv_of (cc := cX9_copyFrom) (maxL := 3) (lv := [(0, .ref (ad 20)), (1, .ref (ad 15))]) (by decide) rfl (Nat.le_of_ble_eq_true rfl) rfl ?_
  intro p e s m args below meth c A Q C hret
  refine j_aload_n C 0 0 dX9_copyFrom_0 rfl rfl ?_
  refine j_aload_n C 1 1 dX9_copyFrom_1 rfl rfl ?_
  refine j_getI C 8 0 fX9_copyFrom_9 (by decide) rfl (by decide) rfl rfl dX9_copyFrom_2 ?_
  refine j_putI C 8 qX9_copyFrom_9 rfl rfl (by decide) rfl (by decide) rfl dX9_copyFrom_5 ?_
  refine z_noI rfl ?_
  refine j_iconst C 0 dX9_copyFrom_8 (by decide) ?_
  refine j_istore_n C 2 [(2, .int 0), (0, .ref (ad 20)), (1, .ref (ad 15))] dX9_copyFrom_9 rfl (by decide) rfl ?_
  refine j_lv [1, 2, 0] rfl ?_
  have L : ∀ (n i : Nat), 0 ≤ i → i + n = 8 → jj p l e (cn_R 0) s m args below meth c 0 0 Q 3 dC dI ad cA A (wI (wI M0 12 7 p0) 12 8 p1) 10 [(0, .ref (ad 20)), (1, .ref (ad 15)), (2, .int (nI i))] [] := by
    intro n
    induction n with
    | zero =>
      intro i h1 h2
      obtain rfl : i = 8 := by omega
      refine j_iload_n C 2 2 dX9_copyFrom_10 rfl rfl ?_
      refine j_bipush C 8 dX9_copyFrom_11 (by decide) ?_
      refine j_icmp_ge_t C 46 dX9_copyFrom_13 (by decide) (by decide) ?_
      refine j_aload_n C 0 0 dX9_copyFrom_46 rfl rfl ?_
      refine j_aload_n C 1 1 dX9_copyFrom_47 rfl rfl ?_
      refine j_getI C 8 0 fX9_copyFrom_22 (by decide) rfl (by decide) rfl rfl dX9_copyFrom_48 ?_
      refine j_putI C 8 qX9_copyFrom_22 rfl rfl (by decide) rfl (by decide) rfl dX9_copyFrom_51 ?_
      refine z_noI rfl ?_
      refine j_aload_n C 0 0 dX9_copyFrom_54 rfl rfl ?_
      refine j_aload_n C 1 1 dX9_copyFrom_55 rfl rfl ?_
      refine j_getI C 8 0 fX9_copyFrom_25 (by decide) rfl (by decide) rfl rfl dX9_copyFrom_56 ?_
      refine j_putI C 8 qX9_copyFrom_25 rfl rfl (by decide) rfl (by decide) rfl dX9_copyFrom_59 ?_
      refine z_noI rfl ?_
      refine j_aload_n C 0 0 dX9_copyFrom_62 rfl rfl ?_
      refine j_aload_n C 1 1 dX9_copyFrom_63 rfl rfl ?_
      refine j_getI C 8 0 fX9_copyFrom_28 (by decide) rfl (by decide) rfl rfl dX9_copyFrom_64 ?_
      refine j_putI C 8 qX9_copyFrom_28 rfl rfl (by decide) rfl (by decide) rfl dX9_copyFrom_67 ?_
      refine z_noI rfl ?_
      refine j_aload_n C 0 0 dX9_copyFrom_70 rfl rfl ?_
      refine j_aload_n C 1 1 dX9_copyFrom_71 rfl rfl ?_
      refine j_getI C 8 0 fX9_copyFrom_31 (by decide) rfl (by decide) rfl rfl dX9_copyFrom_72 ?_
      refine j_putI C 8 qX9_copyFrom_31 rfl rfl (by decide) rfl (by decide) rfl dX9_copyFrom_75 ?_
      refine z_noI rfl ?_
      refine j_aload_n C 0 0 dX9_copyFrom_78 rfl rfl ?_
      refine j_aload_n C 1 1 dX9_copyFrom_79 rfl rfl ?_
      refine j_getI C 8 0 fX9_copyFrom_34 (by decide) rfl (by decide) rfl rfl dX9_copyFrom_80 ?_
      refine j_putI C 8 qX9_copyFrom_34 rfl rfl (by decide) rfl (by decide) rfl dX9_copyFrom_83 ?_
      refine z_noI rfl ?_
      refine j_aload_n C 0 0 dX9_copyFrom_86 rfl rfl ?_
      refine j_aload_n C 1 1 dX9_copyFrom_87 rfl rfl ?_
      refine j_getI C 8 0 fX9_copyFrom_37 (by decide) rfl (by decide) rfl rfl dX9_copyFrom_88 ?_
      refine j_putI C 8 qX9_copyFrom_37 rfl rfl (by decide) rfl (by decide) rfl dX9_copyFrom_91 ?_
      refine z_noI rfl ?_
      exact hret _ _ _ dX9_copyFrom_94 rfl
    | succ n ih =>
      intro i h1 h2
      refine j_iload_n C 2 2 dX9_copyFrom_10 rfl rfl ?_
      refine j_bipush C 8 dX9_copyFrom_11 (by decide) ?_
      refine z_icmp_ge C 46 (i : Int) 8 (nI_toInt (n := i) (by omega)) (by decide) dX9_copyFrom_13 (by decide) (fun h1 => ?_) (fun h1 => ?_)
      · exfalso; omega
      · refine j_aload_n C 0 0 dX9_copyFrom_16 rfl rfl ?_
        refine j_getP C 8 21 fX9_copyFrom_15 (by decide) rfl (by decide) rfl rfl dX9_copyFrom_17 ?_
        refine j_iload_n C 2 2 dX9_copyFrom_20 rfl rfl ?_
        refine j_aload_n C 1 1 dX9_copyFrom_21 rfl rfl ?_
        refine j_getP C 8 16 fX9_copyFrom_15 (by decide) rfl (by decide) rfl rfl dX9_copyFrom_22 ?_
        refine j_iload_n C 2 2 dX9_copyFrom_25 rfl rfl ?_
        refine x_iald C i 8 0 (by decide) rfl rfl rfl (by omega) (by decide) rfl dX9_copyFrom_26 ?_
        refine x_iast C i 8 (by decide) rfl rfl rfl (by omega) (by decide) dX9_copyFrom_27 ?_
        refine z_noI rfl ?_
        refine j_aload_n C 0 0 dX9_copyFrom_28 rfl rfl ?_
        refine j_getP C 8 22 fX9_copyFrom_19 (by decide) rfl (by decide) rfl rfl dX9_copyFrom_29 ?_
        refine j_iload_n C 2 2 dX9_copyFrom_32 rfl rfl ?_
        refine j_aload_n C 1 1 dX9_copyFrom_33 rfl rfl ?_
        refine j_getP C 8 17 fX9_copyFrom_19 (by decide) rfl (by decide) rfl rfl dX9_copyFrom_34 ?_
        refine j_iload_n C 2 2 dX9_copyFrom_37 rfl rfl ?_
        refine x_iald C i 8 0 (by decide) rfl rfl rfl (by omega) (by decide) rfl dX9_copyFrom_38 ?_
        refine x_iast C i 8 (by decide) rfl rfl rfl (by omega) (by decide) dX9_copyFrom_39 ?_
        refine z_noI rfl ?_
        refine j_iinc C 2 (nI (i + 1)) [(2, .int (nI (i + 1))), (0, .ref (ad 20)), (1, .ref (ad 15))] dX9_copyFrom_40 rfl (nI_1 i) (by decide) rfl ?_
        refine j_goto C 10 dX9_copyFrom_43 (by decide) ?_
        refine j_lv [1, 2, 0] rfl ?_
        exact ih (i + 1) (by omega) (by omega)
  exact L (8 - 0) 0 (by omega) (by omega)
set_option maxHeartbeats 4000000 in
set_option maxRecDepth 100000 in
theorem k270_X6_keep {l : Launch} {dC : Nat → ClassId} {dI : Nat → Nat → Nat} {ad : Nat → Nat} {cA : Nat → ClassId} (p0 : Int32) (p1 : Int32) : Cv l 1 yX6_keep wsX6_keep dC dI ad cA [.ref (ad 18), .ref (ad 15)] (wI (wI M0 12 7 p0) 12 8 p1) (fun M' => (wI (wI (wI (wI M0 12 7 p0) 12 8 p1) 18 1 1) 18 2 1) = M') := by
  refine cv_of (cc := cX6_keep) (maxL := 2) (lv := [(0, .ref (ad 18)), (1, .ref (ad 15))]) (by decide) rfl (Nat.le_of_ble_eq_true rfl) rfl ?_
  intro p e s m args below meth c A Q C hret
  refine j_aload_n C 0 0 dX6_keep_0 rfl rfl ?_
  refine j_getP C 5 19 fX6_keep_11 (by decide) rfl (by decide) rfl rfl dX6_keep_1 ?_
  refine j_aload_n C 0 0 dX6_keep_4 rfl rfl ?_
  refine j_getI C 5 0 fX6_keep_17 (by decide) rfl (by decide) rfl rfl dX6_keep_5 ?_
  refine x_aald C 0 10 20 (by decide) (by decide) rfl rfl (by decide) (by decide) rfl dX6_keep_8 ?_
  refine j_aload_n C 1 1 dX6_keep_9 rfl rfl ?_
  refine j_callVv C (d := 0) (As := [.ref (ad 15)]) (st := []) 20 (by decide) rfl (by decide) rfl (k269_X9_copyFrom p0 p1) gX6_keep_X9_copyFrom rfl hdX9_copyFrom (by decide) (Nat.le_of_ble_eq_true rfl) dX6_keep_10 rfl (fun M' hp => ?_)
  obtain rfl := hp
  refine j_aload_n C 0 0 dX6_keep_13 rfl rfl ?_
  refine j_aload_n C 0 0 dX6_keep_14 rfl rfl ?_
  refine j_getI C 5 0 fX6_keep_17 (by decide) rfl (by decide) rfl rfl dX6_keep_15 ?_
  refine j_iconst C 1 dX6_keep_18 (by decide) ?_
  refine z_iadd C 1 (by decide) dX6_keep_19 ?_
  refine j_bipush C 10 dX6_keep_20 (by decide) ?_
  refine z_irem C 1 (by decide) (by decide) dX6_keep_22 ?_
  refine j_putI C 5 qX6_keep_17 rfl rfl (by decide) rfl (by decide) rfl dX6_keep_23 ?_
  refine j_aload_n C 0 0 dX6_keep_26 rfl rfl ?_
  refine j_aload_n C 0 0 dX6_keep_27 rfl rfl ?_
  refine j_getI C 5 0 fX6_keep_21 (by decide) rfl (by decide) rfl rfl dX6_keep_28 ?_
  refine j_iconst C 1 dX6_keep_31 (by decide) ?_
  refine z_iadd C 1 (by decide) dX6_keep_32 ?_
  refine j_bipush C 10 dX6_keep_33 (by decide) ?_
  refine j_mmin C 1 (by decide) (by decide +kernel) (by decide +kernel) (by decide +kernel) (by decide +kernel) (by decide) (Nat.le_of_ble_eq_true rfl) dX6_keep_35 ?_
  refine j_putI C 5 qX6_keep_21 rfl rfl (by decide) rfl (by decide) rfl dX6_keep_38 ?_
  exact hret _ _ _ dX6_keep_41 rfl
set_option maxHeartbeats 4000000 in
set_option maxRecDepth 100000 in
theorem k271_X9_copyFrom {l : Launch} {dC : Nat → ClassId} {dI : Nat → Nat → Nat} {ad : Nat → Nat} {cA : Nat → ClassId} (p0 : Int32) (p1 : Int32) : Cv l 0 yX9_copyFrom wsX9_copyFrom dC dI ad cA [.ref (ad 12), .ref (ad 15)] (wI (wI M0 12 7 p0) 12 8 p1) (fun M' => M0 = M') := by
  refine cv_of (cc := cX9_copyFrom) (maxL := 3) (lv := [(0, .ref (ad 12)), (1, .ref (ad 15))]) (by decide) rfl (Nat.le_of_ble_eq_true rfl) rfl ?_
  intro p e s m args below meth c A Q C hret
  refine j_aload_n C 0 0 dX9_copyFrom_0 rfl rfl ?_
  refine j_aload_n C 1 1 dX9_copyFrom_1 rfl rfl ?_
  refine j_getI C 8 0 fX9_copyFrom_9 (by decide) rfl (by decide) rfl rfl dX9_copyFrom_2 ?_
  refine j_putI C 8 qX9_copyFrom_9 rfl rfl (by decide) rfl (by decide) rfl dX9_copyFrom_5 ?_
  refine z_noI rfl ?_
  refine j_iconst C 0 dX9_copyFrom_8 (by decide) ?_
  refine j_istore_n C 2 [(2, .int 0), (0, .ref (ad 12)), (1, .ref (ad 15))] dX9_copyFrom_9 rfl (by decide) rfl ?_
  refine j_lv [1, 2, 0] rfl ?_
  have L : ∀ (n i : Nat), 0 ≤ i → i + n = 8 → jj p l e (cn_R 0) s m args below meth c 0 0 Q 3 dC dI ad cA A (wI (wI M0 12 7 p0) 12 8 p1) 10 [(0, .ref (ad 12)), (1, .ref (ad 15)), (2, .int (nI i))] [] := by
    intro n
    induction n with
    | zero =>
      intro i h1 h2
      obtain rfl : i = 8 := by omega
      refine j_iload_n C 2 2 dX9_copyFrom_10 rfl rfl ?_
      refine j_bipush C 8 dX9_copyFrom_11 (by decide) ?_
      refine j_icmp_ge_t C 46 dX9_copyFrom_13 (by decide) (by decide) ?_
      refine j_aload_n C 0 0 dX9_copyFrom_46 rfl rfl ?_
      refine j_aload_n C 1 1 dX9_copyFrom_47 rfl rfl ?_
      refine j_getI C 8 0 fX9_copyFrom_22 (by decide) rfl (by decide) rfl rfl dX9_copyFrom_48 ?_
      refine j_putI C 8 qX9_copyFrom_22 rfl rfl (by decide) rfl (by decide) rfl dX9_copyFrom_51 ?_
      refine z_noI rfl ?_
      refine j_aload_n C 0 0 dX9_copyFrom_54 rfl rfl ?_
      refine j_aload_n C 1 1 dX9_copyFrom_55 rfl rfl ?_
      refine j_getI C 8 0 fX9_copyFrom_25 (by decide) rfl (by decide) rfl rfl dX9_copyFrom_56 ?_
      refine j_putI C 8 qX9_copyFrom_25 rfl rfl (by decide) rfl (by decide) rfl dX9_copyFrom_59 ?_
      refine z_noI rfl ?_
      refine j_aload_n C 0 0 dX9_copyFrom_62 rfl rfl ?_
      refine j_aload_n C 1 1 dX9_copyFrom_63 rfl rfl ?_
      refine j_getI C 8 0 fX9_copyFrom_28 (by decide) rfl (by decide) rfl rfl dX9_copyFrom_64 ?_
      refine j_putI C 8 qX9_copyFrom_28 rfl rfl (by decide) rfl (by decide) rfl dX9_copyFrom_67 ?_
      refine z_noI rfl ?_
      refine j_aload_n C 0 0 dX9_copyFrom_70 rfl rfl ?_
      refine j_aload_n C 1 1 dX9_copyFrom_71 rfl rfl ?_
      refine j_getI C 8 0 fX9_copyFrom_31 (by decide) rfl (by decide) rfl rfl dX9_copyFrom_72 ?_
      refine j_putI C 8 qX9_copyFrom_31 rfl rfl (by decide) rfl (by decide) rfl dX9_copyFrom_75 ?_
      refine z_noI rfl ?_
      refine j_aload_n C 0 0 dX9_copyFrom_78 rfl rfl ?_
      refine j_aload_n C 1 1 dX9_copyFrom_79 rfl rfl ?_
      refine j_getI C 8 0 fX9_copyFrom_34 (by decide) rfl (by decide) rfl rfl dX9_copyFrom_80 ?_
      refine j_putI C 8 qX9_copyFrom_34 rfl rfl (by decide) rfl (by decide) rfl dX9_copyFrom_83 ?_
      refine j_M (M' := (wI M0 12 8 p1)) ((wI_c (by decide)).trans (congrArg (fun X => wI X 12 8 p1) ((wI_w _ _ _ _ _).trans (wI_e rfl)))) ?_
      refine j_aload_n C 0 0 dX9_copyFrom_86 rfl rfl ?_
      refine j_aload_n C 1 1 dX9_copyFrom_87 rfl rfl ?_
      refine j_getI C 8 0 fX9_copyFrom_37 (by decide) rfl (by decide) rfl rfl dX9_copyFrom_88 ?_
      refine j_putI C 8 qX9_copyFrom_37 rfl rfl (by decide) rfl (by decide) rfl dX9_copyFrom_91 ?_
      refine j_M (M' := M0) ((wI_w _ _ _ _ _).trans (wI_e rfl)) ?_
      exact hret _ _ _ dX9_copyFrom_94 rfl
    | succ n ih =>
      intro i h1 h2
      refine j_iload_n C 2 2 dX9_copyFrom_10 rfl rfl ?_
      refine j_bipush C 8 dX9_copyFrom_11 (by decide) ?_
      refine z_icmp_ge C 46 (i : Int) 8 (nI_toInt (n := i) (by omega)) (by decide) dX9_copyFrom_13 (by decide) (fun h1 => ?_) (fun h1 => ?_)
      · exfalso; omega
      · refine j_aload_n C 0 0 dX9_copyFrom_16 rfl rfl ?_
        refine j_getP C 8 13 fX9_copyFrom_15 (by decide) rfl (by decide) rfl rfl dX9_copyFrom_17 ?_
        refine j_iload_n C 2 2 dX9_copyFrom_20 rfl rfl ?_
        refine j_aload_n C 1 1 dX9_copyFrom_21 rfl rfl ?_
        refine j_getP C 8 16 fX9_copyFrom_15 (by decide) rfl (by decide) rfl rfl dX9_copyFrom_22 ?_
        refine j_iload_n C 2 2 dX9_copyFrom_25 rfl rfl ?_
        refine x_iald C i 8 0 (by decide) rfl rfl rfl (by omega) (by decide) rfl dX9_copyFrom_26 ?_
        refine x_iast C i 8 (by decide) rfl rfl rfl (by omega) (by decide) dX9_copyFrom_27 ?_
        refine z_noI rfl ?_
        refine j_aload_n C 0 0 dX9_copyFrom_28 rfl rfl ?_
        refine j_getP C 8 14 fX9_copyFrom_19 (by decide) rfl (by decide) rfl rfl dX9_copyFrom_29 ?_
        refine j_iload_n C 2 2 dX9_copyFrom_32 rfl rfl ?_
        refine j_aload_n C 1 1 dX9_copyFrom_33 rfl rfl ?_
        refine j_getP C 8 17 fX9_copyFrom_19 (by decide) rfl (by decide) rfl rfl dX9_copyFrom_34 ?_
        refine j_iload_n C 2 2 dX9_copyFrom_37 rfl rfl ?_
        refine x_iald C i 8 0 (by decide) rfl rfl rfl (by omega) (by decide) rfl dX9_copyFrom_38 ?_
        refine x_iast C i 8 (by decide) rfl rfl rfl (by omega) (by decide) dX9_copyFrom_39 ?_
        refine z_noI rfl ?_
        refine j_iinc C 2 (nI (i + 1)) [(2, .int (nI (i + 1))), (0, .ref (ad 12)), (1, .ref (ad 15))] dX9_copyFrom_40 rfl (nI_1 i) (by decide) rfl ?_
        refine j_goto C 10 dX9_copyFrom_43 (by decide) ?_
        refine j_lv [1, 2, 0] rfl ?_
        exact ih (i + 1) (by omega) (by omega)
  exact L (8 - 0) 0 (by omega) (by omega)
set_option maxHeartbeats 4000000 in
set_option maxRecDepth 100000 in
theorem k272_X7_together {l : Launch} {dC : Nat → ClassId} {dI : Nat → Nat → Nat} {ad : Nat → Nat} {cA : Nat → ClassId} (p0 : Int32) (p1 : Int32) : Ci l 0 yX7_together wsX7_together dC dI ad cA [.ref (ad 2)] (wI (wI M0 12 7 (p0 + 1)) 12 8 (sx p1)) (fun r M' => 0 = r ∧ (wI (wI M0 12 7 (p0 + 1)) 12 8 (sx p1)) = M') := by
  refine ci_of (cc := cX7_together) (maxL := 3) (ty := .int) (lv := [(0, .ref (ad 2))]) (by decide) rfl (fun r M' hp => rfl) (Nat.le_of_ble_eq_true rfl) rfl ?_
  intro p e s m args below meth c A Q C hret
  refine j_iconst C 0 dX7_together_0 (by decide) ?_
  refine j_istore_n C 1 [(1, .int 0), (0, .ref (ad 2))] dX7_together_1 rfl (by decide) rfl ?_
  refine j_iconst C 0 dX7_together_2 (by decide) ?_
  refine j_istore_n C 2 [(2, .int 0), (1, .int 0), (0, .ref (ad 2))] dX7_together_3 rfl (by decide) rfl ?_
  refine j_iload_n C 0 2 dX7_together_4 rfl rfl ?_
  refine j_aload_n C 2 0 dX7_together_5 rfl rfl ?_
  refine j_getI C 6 0 fX7_together_9 (by decide) rfl (by decide) rfl rfl dX7_together_6 ?_
  refine j_icmp_ge_t C 27 dX7_together_9 (by decide) (by decide) ?_
  refine j_iload_n C 1 1 dX7_together_27 rfl rfl ?_
  exact hret _ _ _ _ dX7_together_28 ⟨rfl, rfl⟩
set_option maxHeartbeats 4000000 in
set_option maxRecDepth 100000 in
theorem k273_X1_passDay {l : Launch} {dC : Nat → ClassId} {dI : Nat → Nat → Nat} {ad : Nat → Nat} {cA : Nat → ClassId} (p0 : Int32) (p1 : Int32) : Ci l 1 yX1_passDay wsX1_passDay dC dI ad cA [.ref (ad 87), .ref (ad 2), .ref (ad 12)] (wI (wI M0 12 7 p0) 12 8 (sx p1)) (fun r M' => (-1) = r ∧ (wI (wI M0 12 7 (p0 + 1)) 12 8 (sx p1)) = M') := by
  refine ci_of (cc := cX1_passDay) (maxL := 4) (ty := .int) (lv := [(0, .ref (ad 87)), (1, .ref (ad 2)), (2, .ref (ad 12))]) (by decide) rfl (fun r M' hp => rfl) (Nat.le_of_ble_eq_true rfl) rfl ?_
  intro p e s m args below meth c A Q C hret
  refine j_aload_n C 2 2 dX1_passDay_0 rfl rfl ?_
  refine j_dup C dX1_passDay_1 rfl ?_
  refine j_getI C 8 p0 fX1_passDay_63 (by decide) rfl (by decide) rfl rfl dX1_passDay_2 ?_
  refine j_iconst C 1 dX1_passDay_5 (by decide) ?_
  refine z_iadd C (p0 + 1) rfl dX1_passDay_6 ?_
  refine j_putI C 8 qX1_passDay_63 rfl rfl (by decide) rfl (by decide) rfl dX1_passDay_7 ?_
  refine j_M (M' := (wI (wI M0 12 7 (p0 + 1)) 12 8 (sx p1))) ((wI_c (by decide)).trans (congrArg (fun X => wI X 12 8 (sx p1)) (wI_w _ _ _ _ _))) ?_
  refine j_aload_n C 1 1 dX1_passDay_10 rfl rfl ?_
  refine j_callVi C (d := 0) (As := []) (st := []) 2 (by decide) rfl (by decide) rfl (k272_X7_together p0 p1) gX1_passDay_X7_together rfl hdX7_together (by decide) (Nat.le_of_ble_eq_true rfl) dX1_passDay_11 rfl (fun r M' hp => ?_)
  obtain ⟨rfl, rfl⟩ := hp
  refine j_istore_n C 3 [(3, .int 0), (0, .ref (ad 87)), (1, .ref (ad 2)), (2, .ref (ad 12))] dX1_passDay_14 rfl (by decide) rfl ?_
  refine j_iload_n C 0 3 dX1_passDay_15 rfl rfl ?_
  refine j_if_le_t C 32 dX1_passDay_16 (by decide) (by decide) ?_
  refine j_iconst C (-1) dX1_passDay_32 (by decide) ?_
  exact hret _ _ _ _ dX1_passDay_33 ⟨rfl, rfl⟩
set_option maxHeartbeats 4000000 in
set_option maxRecDepth 100000 in
theorem k274_X1_visitBy {l : Launch} {dC : Nat → ClassId} {dI : Nat → Nat → Nat} {ad : Nat → Nat} {cA : Nat → ClassId} (p0 : Int32) (p1 : Int32) : Ci l 0 yX1_visitBy wsX1_visitBy dC dI ad cA [.ref (ad 87), .ref (ad 2), .ref (ad 12), .int (-1)] (wI (wI M0 12 7 (p0 + 1)) 12 8 (sx p1)) (fun r M' => (-11) = r ∧ (wI (wI M0 12 7 (p0 + 1)) 12 8 (sx p1)) = M') := by
  refine ci_of (cc := cX1_visitBy) (maxL := 5) (ty := .int) (lv := [(0, .ref (ad 87)), (1, .ref (ad 2)), (2, .ref (ad 12)), (3, .int (-1))]) (by decide) rfl (fun r M' hp => rfl) (Nat.le_of_ble_eq_true rfl) rfl ?_
  intro p e s m args below meth c A Q C hret
  refine j_iload_n C 3 3 dX1_visitBy_0 rfl rfl ?_
  refine j_if_lt_t C 12 dX1_visitBy_1 (by decide) (by decide) ?_
  refine j_bipush C (-11) dX1_visitBy_12 (by decide) ?_
  exact hret _ _ _ _ dX1_visitBy_14 ⟨rfl, rfl⟩
set_option maxHeartbeats 4000000 in
set_option maxRecDepth 100000 in
theorem k275_X1_carryOut {l : Launch} {dC : Nat → ClassId} {dI : Nat → Nat → Nat} {ad : Nat → Nat} {cA : Nat → ClassId} (p0 : Int32) (p1 : Int32) : Ci l 2 yX1_carryOut wsX1_carryOut dC dI ad cA [.ref (ad 87), .ref (ad 2), .ref (ad 12), .long (-1)] (wI (wI M0 12 7 p0) 12 8 (sx p1)) (fun r M' => 0 = r ∧ (wI (wI M0 12 7 (p0 + 1)) 12 8 (sx p1)) = M') := by
  refine ci_of (cc := cX1_carryOut) (maxL := 7) (ty := .int) (lv := [(0, .ref (ad 87)), (1, .ref (ad 2)), (2, .ref (ad 12)), (3, .long (-1))]) (by decide) rfl (fun r M' hp => rfl) (Nat.le_of_ble_eq_true rfl) rfl ?_
  intro p e s m args below meth c A Q C hret
  refine j_lload_n C 3 3 dX1_carryOut_0 rfl rfl ?_
  refine j_ldc2 C (-1) dX1_carryOut_1 (by decide +kernel) ?_
  refine z_lcmp C 0 (by decide) dX1_carryOut_4 ?_
  refine j_if_lt_f C 16 dX1_carryOut_5 (by decide) (by decide) ?_
  refine j_lload_n C 3 3 dX1_carryOut_8 rfl rfl ?_
  refine j_ldc2 C 1999 dX1_carryOut_9 (by decide +kernel) ?_
  refine z_lcmp C (-1) (by decide) dX1_carryOut_12 ?_
  refine j_if_le_t C 19 dX1_carryOut_13 (by decide) (by decide) ?_
  refine j_lload_n C 3 3 dX1_carryOut_19 rfl rfl ?_
  refine z_l2i C (-1) (by decide) dX1_carryOut_20 ?_
  refine j_istore C 5 [(5, .int (-1)), (0, .ref (ad 87)), (1, .ref (ad 2)), (2, .ref (ad 12)), (3, .long (-1))] dX1_carryOut_21 (by decide) rfl ?_
  refine j_iload C 0 dX1_carryOut_23 rfl ?_
  refine j_iconst C (-1) dX1_carryOut_25 (by decide) ?_
  refine j_icmp_ne_f C 54 dX1_carryOut_26 (by decide) (by decide) ?_
  refine j_aload_n C 1 0 dX1_carryOut_29 rfl rfl ?_
  refine j_aload_n C 2 1 dX1_carryOut_30 rfl rfl ?_
  refine j_aload_n C 3 2 dX1_carryOut_31 rfl rfl ?_
  refine j_callVi C (d := 1) (As := [.ref (ad 2), .ref (ad 12)]) (st := []) 87 (by decide) rfl (by decide) rfl (k273_X1_passDay p0 p1) gX1_carryOut_X1_passDay rfl hdX1_passDay (by decide) (Nat.le_of_ble_eq_true rfl) dX1_carryOut_32 rfl (fun r M' hp => ?_)
  obtain ⟨rfl, rfl⟩ := hp
  refine j_istore C 6 [(6, .int (-1)), (5, .int (-1)), (0, .ref (ad 87)), (1, .ref (ad 2)), (2, .ref (ad 12)), (3, .long (-1))] dX1_carryOut_35 (by decide) rfl ?_
  refine j_aload_n C 2 0 dX1_carryOut_37 rfl rfl ?_
  refine j_aload_n C 3 1 dX1_carryOut_38 rfl rfl ?_
  refine j_aload_n C 4 2 dX1_carryOut_39 rfl rfl ?_
  refine j_iload C 0 dX1_carryOut_40 rfl ?_
  refine j_callVi C (d := 0) (As := [.ref (ad 2), .ref (ad 12), .int (-1)]) (st := []) 87 (by decide) rfl (by decide) rfl (k274_X1_visitBy p0 p1) gX1_carryOut_X1_visitBy rfl hdX1_visitBy (by decide) (Nat.le_of_ble_eq_true rfl) dX1_carryOut_42 rfl (fun r M' hp => ?_)
  obtain ⟨rfl, rfl⟩ := hp
  refine j_if_lt_t C 52 dX1_carryOut_45 (by decide) (by decide) ?_
  refine j_iconst C 0 dX1_carryOut_52 (by decide) ?_
  exact hret _ _ _ _ dX1_carryOut_53 ⟨rfl, rfl⟩
set_option maxHeartbeats 4000000 in
set_option maxRecDepth 100000 in
theorem k276_X1_visitBy {l : Launch} {dC : Nat → ClassId} {dI : Nat → Nat → Nat} {ad : Nat → Nat} {cA : Nat → ClassId} (p0 : Int32) (p1 : Int32) (p2 : Int32) : Ci l 0 yX1_visitBy wsX1_visitBy dC dI ad cA [.ref (ad 87), .ref (ad 2), .ref (ad 12), .int p0] (wI (wI M0 12 7 p1) 12 8 (sx (sx p2))) (fun r M' => (-11) = r ∧ (wI (wI M0 12 7 p1) 12 8 (sx (sx p2))) = M') := by
  refine ci_of (cc := cX1_visitBy) (maxL := 5) (ty := .int) (lv := [(0, .ref (ad 87)), (1, .ref (ad 2)), (2, .ref (ad 12)), (3, .int p0)]) (by decide) rfl (fun r M' hp => rfl) (Nat.le_of_ble_eq_true rfl) rfl ?_
  intro p e s m args below meth c A Q C hret
  refine j_iload_n C 3 3 dX1_visitBy_0 rfl rfl ?_
  refine z_if_lt C 12 p0.toInt rfl dX1_visitBy_1 (by decide) (fun h1 => ?_) (fun h1 => ?_)
  · refine j_bipush C (-11) dX1_visitBy_12 (by decide) ?_
    exact hret _ _ _ _ dX1_visitBy_14 ⟨rfl, rfl⟩
  · refine j_iload_n C 3 3 dX1_visitBy_4 rfl rfl ?_
    refine j_aload_n C 1 1 dX1_visitBy_5 rfl rfl ?_
    refine j_getI C 6 0 fX1_visitBy_15 (by decide) rfl (by decide) rfl rfl dX1_visitBy_6 ?_
    refine z_icmp_lt C 15 p0.toInt 0 rfl (by decide) dX1_visitBy_9 (by decide) (fun h2 => ?_) (fun h2 => ?_)
    · exfalso; omega
    · refine j_bipush C (-11) dX1_visitBy_12 (by decide) ?_
      exact hret _ _ _ _ dX1_visitBy_14 ⟨rfl, rfl⟩
set_option maxHeartbeats 4000000 in
set_option maxRecDepth 100000 in
theorem k277_X1_carryOut {l : Launch} {dC : Nat → ClassId} {dI : Nat → Nat → Nat} {ad : Nat → Nat} {cA : Nat → ClassId} (p0 : Int32) (p1 : Int32) (p2 : Int32) (hbp0 : 0 ≤ p0.toInt ∧ p0.toInt ≤ 5) : Ci l 1 yX1_carryOut wsX1_carryOut dC dI ad cA [.ref (ad 87), .ref (ad 2), .ref (ad 12), .long p0.toInt64] (wI (wI M0 12 7 p1) 12 8 (sx (sx p2))) (fun r M' => (-11) = r ∧ (wI (wI M0 12 7 p1) 12 8 (sx (sx p2))) = M') := by
  refine ci_of (cc := cX1_carryOut) (maxL := 7) (ty := .int) (lv := [(0, .ref (ad 87)), (1, .ref (ad 2)), (2, .ref (ad 12)), (3, .long p0.toInt64)]) (by decide) rfl (fun r M' hp => rfl) (Nat.le_of_ble_eq_true rfl) rfl ?_
  intro p e s m args below meth c A Q C hret
  refine j_lload_n C 3 3 dX1_carryOut_0 rfl rfl ?_
  refine j_ldc2 C (-1) dX1_carryOut_1 (by decide +kernel) ?_
  refine z_lcmp_lt C 16 p0.toInt (-1) ((Int32.toInt_toInt64 p0).trans rfl) (by decide) dX1_carryOut_4 dX1_carryOut_5 (by decide) (fun h1 => ?_) (fun h1 => ?_)
  · exfalso; omega
  · refine j_lload_n C 3 3 dX1_carryOut_8 rfl rfl ?_
    refine j_ldc2 C 1999 dX1_carryOut_9 (by decide +kernel) ?_
    refine z_lcmp_le C 19 p0.toInt 1999 ((Int32.toInt_toInt64 p0).trans rfl) (by decide) dX1_carryOut_12 dX1_carryOut_13 (by decide) (fun h2 => ?_) (fun h2 => ?_)
    · refine j_lload_n C 3 3 dX1_carryOut_19 rfl rfl ?_
      refine z_l2i C p0 (by simp) dX1_carryOut_20 ?_
      refine j_istore C 5 [(5, .int p0), (0, .ref (ad 87)), (1, .ref (ad 2)), (2, .ref (ad 12)), (3, .long p0.toInt64)] dX1_carryOut_21 (by decide) rfl ?_
      refine j_iload C 0 dX1_carryOut_23 rfl ?_
      refine j_iconst C (-1) dX1_carryOut_25 (by decide) ?_
      refine z_icmp_ne C 54 p0.toInt (-1) rfl (by decide) dX1_carryOut_26 (by decide) (fun h3 => ?_) (fun h3 => ?_)
      · refine j_iload C 0 dX1_carryOut_54 rfl ?_
        refine j_bipush C 9 dX1_carryOut_56 (by decide) ?_
        refine z_icmp_gt C 70 p0.toInt 9 rfl (by decide) dX1_carryOut_58 (by decide) (fun h4 => ?_) (fun h4 => ?_)
        · exfalso; omega
        · refine j_aload_n C 1 0 dX1_carryOut_61 rfl rfl ?_
          refine j_aload_n C 2 1 dX1_carryOut_62 rfl rfl ?_
          refine j_aload_n C 3 2 dX1_carryOut_63 rfl rfl ?_
          refine j_iload C 0 dX1_carryOut_64 rfl ?_
          refine j_callVi C (d := 0) (As := [.ref (ad 2), .ref (ad 12), .int p0]) (st := []) 87 (by decide) rfl (by decide) rfl (k276_X1_visitBy p0 p1 p2) gX1_carryOut_X1_visitBy rfl hdX1_visitBy (by decide) (Nat.le_of_ble_eq_true rfl) dX1_carryOut_66 rfl (fun r M' hp => ?_)
          obtain ⟨rfl, rfl⟩ := hp
          exact hret _ _ _ _ dX1_carryOut_69 ⟨rfl, rfl⟩
      · exfalso; omega
    · exfalso; omega
set_option maxHeartbeats 4000000 in
set_option maxRecDepth 100000 in
theorem k278_X9_holds {l : Launch} {dC : Nat → ClassId} {dI : Nat → Nat → Nat} {ad : Nat → Nat} {cA : Nat → ClassId} (p0 : Int32) (p1 : Int32) (p2 : Int32) : Ci l 0 yX9_holds wsX9_holds dC dI ad cA [.ref (ad 12), .int (p0 - (100 : Int32))] (wI (wI M0 12 7 p1) 12 8 (sx (sx p2))) (fun r M' => 0 = r ∧ (wI (wI M0 12 7 p1) 12 8 (sx (sx p2))) = M') := by
  refine ci_of (cc := cX9_holds) (maxL := 2) (ty := .boolean) (lv := [(0, .ref (ad 12)), (1, .int (p0 - (100 : Int32)))]) (by decide) rfl (fun r M' hp => by obtain ⟨rfl, rfl⟩ := hp; rfl) (Nat.le_of_ble_eq_true rfl) rfl ?_
  intro p e s m args below meth c A Q C hret
  refine j_iload_n C 1 1 dX9_holds_0 rfl rfl ?_
  refine z_if_lt C 16 ((p0 - (100 : Int32)).toInt) rfl dX9_holds_1 (by decide) (fun h1 => ?_) (fun h1 => ?_)
  · refine j_iconst C 0 dX9_holds_16 (by decide) ?_
    exact hret _ _ _ _ dX9_holds_17 ⟨rfl, rfl⟩
  · refine j_iload_n C 1 1 dX9_holds_4 rfl rfl ?_
    refine j_aload_n C 0 0 dX9_holds_5 rfl rfl ?_
    refine j_getI C 8 0 fX9_holds_9 (by decide) rfl (by decide) rfl rfl dX9_holds_6 ?_
    refine z_icmp_ge C 16 ((p0 - (100 : Int32)).toInt) 0 rfl (by decide) dX9_holds_9 (by decide) (fun h2 => ?_) (fun h2 => ?_)
    · refine j_iconst C 0 dX9_holds_16 (by decide) ?_
      exact hret _ _ _ _ dX9_holds_17 ⟨rfl, rfl⟩
    · exfalso; omega
set_option maxHeartbeats 4000000 in
set_option maxRecDepth 100000 in
theorem k279_X1_giveAway {l : Launch} {dC : Nat → ClassId} {dI : Nat → Nat → Nat} {ad : Nat → Nat} {cA : Nat → ClassId} (p0 : Int32) (p1 : Int32) (p2 : Int32) : Ci l 1 yX1_giveAway wsX1_giveAway dC dI ad cA [.ref (ad 87), .ref (ad 12), .int (p0 - (100 : Int32))] (wI (wI M0 12 7 p1) 12 8 (sx (sx p2))) (fun r M' => (-11) = r ∧ (wI (wI M0 12 7 p1) 12 8 (sx (sx p2))) = M') := by
  refine ci_of (cc := cX1_giveAway) (maxL := 3) (ty := .int) (lv := [(0, .ref (ad 87)), (1, .ref (ad 12)), (2, .int (p0 - (100 : Int32)))]) (by decide) rfl (fun r M' hp => rfl) (Nat.le_of_ble_eq_true rfl) rfl ?_
  intro p e s m args below meth c A Q C hret
  refine j_aload_n C 1 1 dX1_giveAway_0 rfl rfl ?_
  refine j_iload_n C 2 2 dX1_giveAway_1 rfl rfl ?_
  refine j_callVi C (d := 0) (As := [.int (p0 - (100 : Int32))]) (st := []) 12 (by decide) rfl (by decide) rfl (k278_X9_holds p0 p1 p2) gX1_giveAway_X9_holds rfl hdX9_holds (by decide) (Nat.le_of_ble_eq_true rfl) dX1_giveAway_2 rfl (fun r M' hp => ?_)
  obtain ⟨rfl, rfl⟩ := hp
  refine j_if_ne_f C 11 dX1_giveAway_5 (by decide) (by decide) ?_
  refine j_bipush C (-11) dX1_giveAway_8 (by decide) ?_
  exact hret _ _ _ _ dX1_giveAway_10 ⟨rfl, rfl⟩
set_option maxHeartbeats 4000000 in
set_option maxRecDepth 100000 in
theorem k280_X1_carryOut {l : Launch} {dC : Nat → ClassId} {dI : Nat → Nat → Nat} {ad : Nat → Nat} {cA : Nat → ClassId} (p0 : Int32) (p1 : Int32) (p2 : Int32) (hbp0 : 100 ≤ p0.toInt ∧ p0.toInt ≤ 107) : Ci l 2 yX1_carryOut wsX1_carryOut dC dI ad cA [.ref (ad 87), .ref (ad 2), .ref (ad 12), .long p0.toInt64] (wI (wI M0 12 7 p1) 12 8 (sx (sx p2))) (fun r M' => (-11) = r ∧ (wI (wI M0 12 7 p1) 12 8 (sx (sx p2))) = M') := by
  refine ci_of (cc := cX1_carryOut) (maxL := 7) (ty := .int) (lv := [(0, .ref (ad 87)), (1, .ref (ad 2)), (2, .ref (ad 12)), (3, .long p0.toInt64)]) (by decide) rfl (fun r M' hp => rfl) (Nat.le_of_ble_eq_true rfl) rfl ?_
  intro p e s m args below meth c A Q C hret
  refine j_lload_n C 3 3 dX1_carryOut_0 rfl rfl ?_
  refine j_ldc2 C (-1) dX1_carryOut_1 (by decide +kernel) ?_
  refine z_lcmp_lt C 16 p0.toInt (-1) ((Int32.toInt_toInt64 p0).trans rfl) (by decide) dX1_carryOut_4 dX1_carryOut_5 (by decide) (fun h1 => ?_) (fun h1 => ?_)
  · exfalso; omega
  · refine j_lload_n C 3 3 dX1_carryOut_8 rfl rfl ?_
    refine j_ldc2 C 1999 dX1_carryOut_9 (by decide +kernel) ?_
    refine z_lcmp_le C 19 p0.toInt 1999 ((Int32.toInt_toInt64 p0).trans rfl) (by decide) dX1_carryOut_12 dX1_carryOut_13 (by decide) (fun h2 => ?_) (fun h2 => ?_)
    · refine j_lload_n C 3 3 dX1_carryOut_19 rfl rfl ?_
      refine z_l2i C p0 (by simp) dX1_carryOut_20 ?_
      refine j_istore C 5 [(5, .int p0), (0, .ref (ad 87)), (1, .ref (ad 2)), (2, .ref (ad 12)), (3, .long p0.toInt64)] dX1_carryOut_21 (by decide) rfl ?_
      refine j_iload C 0 dX1_carryOut_23 rfl ?_
      refine j_iconst C (-1) dX1_carryOut_25 (by decide) ?_
      refine z_icmp_ne C 54 p0.toInt (-1) rfl (by decide) dX1_carryOut_26 (by decide) (fun h3 => ?_) (fun h3 => ?_)
      · refine j_iload C 0 dX1_carryOut_54 rfl ?_
        refine j_bipush C 9 dX1_carryOut_56 (by decide) ?_
        refine z_icmp_gt C 70 p0.toInt 9 rfl (by decide) dX1_carryOut_58 (by decide) (fun h4 => ?_) (fun h4 => ?_)
        · refine j_iload C 0 dX1_carryOut_70 rfl ?_
          refine j_bipush C 100 dX1_carryOut_72 (by decide) ?_
          refine z_icmp_lt C 95 p0.toInt 100 rfl (by decide) dX1_carryOut_74 (by decide) (fun h5 => ?_) (fun h5 => ?_)
          · exfalso; omega
          · refine j_iload C 0 dX1_carryOut_77 rfl ?_
            refine j_bipush C 109 dX1_carryOut_79 (by decide) ?_
            refine z_icmp_gt C 95 p0.toInt 109 rfl (by decide) dX1_carryOut_81 (by decide) (fun h6 => ?_) (fun h6 => ?_)
            · exfalso; omega
            · refine j_aload_n C 1 0 dX1_carryOut_84 rfl rfl ?_
              refine j_aload_n C 3 2 dX1_carryOut_85 rfl rfl ?_
              refine j_iload C 0 dX1_carryOut_86 rfl ?_
              refine j_bipush C 100 dX1_carryOut_88 (by decide) ?_
              refine z_isub C (p0 - (100 : Int32)) rfl dX1_carryOut_90 ?_
              refine j_callVi C (d := 1) (As := [.ref (ad 12), .int (p0 - (100 : Int32))]) (st := []) 87 (by decide) rfl (by decide) rfl (k279_X1_giveAway p0 p1 p2) gX1_carryOut_X1_giveAway rfl hdX1_giveAway (by decide) (Nat.le_of_ble_eq_true rfl) dX1_carryOut_91 rfl (fun r M' hp => ?_)
              obtain ⟨rfl, rfl⟩ := hp
              exact hret _ _ _ _ dX1_carryOut_94 ⟨rfl, rfl⟩
        · exfalso; omega
      · exfalso; omega
    · exfalso; omega
set_option maxHeartbeats 4000000 in
set_option maxRecDepth 100000 in
theorem k281_X9_holds {l : Launch} {dC : Nat → ClassId} {dI : Nat → Nat → Nat} {ad : Nat → Nat} {cA : Nat → ClassId} (p0 : Int32) (p1 : Int32) (p2 : Int32) : Ci l 0 yX9_holds wsX9_holds dC dI ad cA [.ref (ad 12), .int (p0 - (200 : Int32))] (wI (wI M0 12 7 p1) 12 8 (sx (sx p2))) (fun r M' => 0 = r ∧ (wI (wI M0 12 7 p1) 12 8 (sx (sx p2))) = M') := by
  refine ci_of (cc := cX9_holds) (maxL := 2) (ty := .boolean) (lv := [(0, .ref (ad 12)), (1, .int (p0 - (200 : Int32)))]) (by decide) rfl (fun r M' hp => by obtain ⟨rfl, rfl⟩ := hp; rfl) (Nat.le_of_ble_eq_true rfl) rfl ?_
  intro p e s m args below meth c A Q C hret
  refine j_iload_n C 1 1 dX9_holds_0 rfl rfl ?_
  refine z_if_lt C 16 ((p0 - (200 : Int32)).toInt) rfl dX9_holds_1 (by decide) (fun h1 => ?_) (fun h1 => ?_)
  · refine j_iconst C 0 dX9_holds_16 (by decide) ?_
    exact hret _ _ _ _ dX9_holds_17 ⟨rfl, rfl⟩
  · refine j_iload_n C 1 1 dX9_holds_4 rfl rfl ?_
    refine j_aload_n C 0 0 dX9_holds_5 rfl rfl ?_
    refine j_getI C 8 0 fX9_holds_9 (by decide) rfl (by decide) rfl rfl dX9_holds_6 ?_
    refine z_icmp_ge C 16 ((p0 - (200 : Int32)).toInt) 0 rfl (by decide) dX9_holds_9 (by decide) (fun h2 => ?_) (fun h2 => ?_)
    · refine j_iconst C 0 dX9_holds_16 (by decide) ?_
      exact hret _ _ _ _ dX9_holds_17 ⟨rfl, rfl⟩
    · exfalso; omega
set_option maxHeartbeats 4000000 in
set_option maxRecDepth 100000 in
theorem k282_X1_turn {l : Launch} {dC : Nat → ClassId} {dI : Nat → Nat → Nat} {ad : Nat → Nat} {cA : Nat → ClassId} (p0 : Int32) (p1 : Int32) (p2 : Int32) : Ci l 1 yX1_turn wsX1_turn dC dI ad cA [.ref (ad 87), .ref (ad 12), .int (p0 - (200 : Int32))] (wI (wI M0 12 7 p1) 12 8 (sx (sx p2))) (fun r M' => (-11) = r ∧ (wI (wI M0 12 7 p1) 12 8 (sx (sx p2))) = M') := by
  refine ci_of (cc := cX1_turn) (maxL := 3) (ty := .int) (lv := [(0, .ref (ad 87)), (1, .ref (ad 12)), (2, .int (p0 - (200 : Int32)))]) (by decide) rfl (fun r M' hp => rfl) (Nat.le_of_ble_eq_true rfl) rfl ?_
  intro p e s m args below meth c A Q C hret
  refine j_aload_n C 1 1 dX1_turn_0 rfl rfl ?_
  refine j_iload_n C 2 2 dX1_turn_1 rfl rfl ?_
  refine j_callVi C (d := 0) (As := [.int (p0 - (200 : Int32))]) (st := []) 12 (by decide) rfl (by decide) rfl (k281_X9_holds p0 p1 p2) gX1_turn_X9_holds rfl hdX9_holds (by decide) (Nat.le_of_ble_eq_true rfl) dX1_turn_2 rfl (fun r M' hp => ?_)
  obtain ⟨rfl, rfl⟩ := hp
  refine j_if_ne_f C 11 dX1_turn_5 (by decide) (by decide) ?_
  refine j_bipush C (-11) dX1_turn_8 (by decide) ?_
  exact hret _ _ _ _ dX1_turn_10 ⟨rfl, rfl⟩
set_option maxHeartbeats 4000000 in
set_option maxRecDepth 100000 in
theorem k283_X1_carryOut {l : Launch} {dC : Nat → ClassId} {dI : Nat → Nat → Nat} {ad : Nat → Nat} {cA : Nat → ClassId} (p0 : Int32) (p1 : Int32) (p2 : Int32) (hbp0 : 200 ≤ p0.toInt ∧ p0.toInt ≤ 207) : Ci l 2 yX1_carryOut wsX1_carryOut dC dI ad cA [.ref (ad 87), .ref (ad 2), .ref (ad 12), .long p0.toInt64] (wI (wI M0 12 7 p1) 12 8 (sx (sx p2))) (fun r M' => (-11) = r ∧ (wI (wI M0 12 7 p1) 12 8 (sx (sx p2))) = M') := by
  refine ci_of (cc := cX1_carryOut) (maxL := 7) (ty := .int) (lv := [(0, .ref (ad 87)), (1, .ref (ad 2)), (2, .ref (ad 12)), (3, .long p0.toInt64)]) (by decide) rfl (fun r M' hp => rfl) (Nat.le_of_ble_eq_true rfl) rfl ?_
  intro p e s m args below meth c A Q C hret
  refine j_lload_n C 3 3 dX1_carryOut_0 rfl rfl ?_
  refine j_ldc2 C (-1) dX1_carryOut_1 (by decide +kernel) ?_
  refine z_lcmp_lt C 16 p0.toInt (-1) ((Int32.toInt_toInt64 p0).trans rfl) (by decide) dX1_carryOut_4 dX1_carryOut_5 (by decide) (fun h1 => ?_) (fun h1 => ?_)
  · exfalso; omega
  · refine j_lload_n C 3 3 dX1_carryOut_8 rfl rfl ?_
    refine j_ldc2 C 1999 dX1_carryOut_9 (by decide +kernel) ?_
    refine z_lcmp_le C 19 p0.toInt 1999 ((Int32.toInt_toInt64 p0).trans rfl) (by decide) dX1_carryOut_12 dX1_carryOut_13 (by decide) (fun h2 => ?_) (fun h2 => ?_)
    · refine j_lload_n C 3 3 dX1_carryOut_19 rfl rfl ?_
      refine z_l2i C p0 (by simp) dX1_carryOut_20 ?_
      refine j_istore C 5 [(5, .int p0), (0, .ref (ad 87)), (1, .ref (ad 2)), (2, .ref (ad 12)), (3, .long p0.toInt64)] dX1_carryOut_21 (by decide) rfl ?_
      refine j_iload C 0 dX1_carryOut_23 rfl ?_
      refine j_iconst C (-1) dX1_carryOut_25 (by decide) ?_
      refine z_icmp_ne C 54 p0.toInt (-1) rfl (by decide) dX1_carryOut_26 (by decide) (fun h3 => ?_) (fun h3 => ?_)
      · refine j_iload C 0 dX1_carryOut_54 rfl ?_
        refine j_bipush C 9 dX1_carryOut_56 (by decide) ?_
        refine z_icmp_gt C 70 p0.toInt 9 rfl (by decide) dX1_carryOut_58 (by decide) (fun h4 => ?_) (fun h4 => ?_)
        · refine j_iload C 0 dX1_carryOut_70 rfl ?_
          refine j_bipush C 100 dX1_carryOut_72 (by decide) ?_
          refine z_icmp_lt C 95 p0.toInt 100 rfl (by decide) dX1_carryOut_74 (by decide) (fun h5 => ?_) (fun h5 => ?_)
          · exfalso; omega
          · refine j_iload C 0 dX1_carryOut_77 rfl ?_
            refine j_bipush C 109 dX1_carryOut_79 (by decide) ?_
            refine z_icmp_gt C 95 p0.toInt 109 rfl (by decide) dX1_carryOut_81 (by decide) (fun h6 => ?_) (fun h6 => ?_)
            · refine j_iload C 0 dX1_carryOut_95 rfl ?_
              refine j_sipush C 200 dX1_carryOut_97 (by decide) ?_
              refine z_icmp_lt C 123 p0.toInt 200 rfl (by decide) dX1_carryOut_100 (by decide) (fun h7 => ?_) (fun h7 => ?_)
              · exfalso; omega
              · refine j_iload C 0 dX1_carryOut_103 rfl ?_
                refine j_sipush C 209 dX1_carryOut_105 (by decide) ?_
                refine z_icmp_gt C 123 p0.toInt 209 rfl (by decide) dX1_carryOut_108 (by decide) (fun h8 => ?_) (fun h8 => ?_)
                · exfalso; omega
                · refine j_aload_n C 1 0 dX1_carryOut_111 rfl rfl ?_
                  refine j_aload_n C 3 2 dX1_carryOut_112 rfl rfl ?_
                  refine j_iload C 0 dX1_carryOut_113 rfl ?_
                  refine j_sipush C 200 dX1_carryOut_115 (by decide) ?_
                  refine z_isub C (p0 - (200 : Int32)) rfl dX1_carryOut_118 ?_
                  refine j_callVi C (d := 1) (As := [.ref (ad 12), .int (p0 - (200 : Int32))]) (st := []) 87 (by decide) rfl (by decide) rfl (k282_X1_turn p0 p1 p2) gX1_carryOut_X1_turn rfl hdX1_turn (by decide) (Nat.le_of_ble_eq_true rfl) dX1_carryOut_119 rfl (fun r M' hp => ?_)
                  obtain ⟨rfl, rfl⟩ := hp
                  exact hret _ _ _ _ dX1_carryOut_122 ⟨rfl, rfl⟩
            · exfalso; omega
        · exfalso; omega
      · exfalso; omega
    · exfalso; omega
set_option maxHeartbeats 4000000 in
set_option maxRecDepth 100000 in
theorem ox_season {l : Launch} {dC : Nat → ClassId} {dI : Nat → Nat → Nat} {ad : Nat → Nat} {cA : Nat → ClassId} (p0 : Int32) (p1 : Int32) : Ci l 3 yX11_season wsX11_season dC dI ad cA [.ref (ad 0), .int p0, .int p1] M0 (fun r M' => r = fo_season p0 p1 ∧ MB M') := by
  refine ci_of (cc := cX11_season) (maxL := 5) (ty := .int) (lv := [(0, .ref (ad 0)), (1, .int p0), (2, .int p1)]) (by decide) rfl (fun r M' hp => rfl) (Nat.le_of_ble_eq_true rfl) rfl ?_
  intro p e s m args below meth c A Q C hret
  refine j_iload_n C 2 2 dX11_season_0 rfl rfl ?_
  refine j_iconst C 1 dX11_season_1 (by decide) ?_
  refine z_icmp_lt C 11 p1.toInt 1 rfl (by decide) dX11_season_2 (by decide) (fun h1 => ?_) (fun h1 => ?_)
  · refine j_bipush C (-3) dX11_season_11 (by decide) ?_
    exact hret _ _ _ _ dX11_season_13 ⟨by first | rfl | (unfold fo_season; rw [if_pos (by rw [nI_toInt (by omega)]; omega), nI_clamp (by omega)]; exact hrel) | (unfold fo_season; (repeat' split) <;> first | rfl | (exfalso; omega) | (exfalso; simp_all; done)), MB_0⟩
  · refine j_iload_n C 2 2 dX11_season_5 rfl rfl ?_
    refine j_bipush C 40 dX11_season_6 (by decide) ?_
    refine z_icmp_le C 14 p1.toInt 40 rfl (by decide) dX11_season_8 (by decide) (fun h2 => ?_) (fun h2 => ?_)
    · refine j_aload_n C 0 0 dX11_season_14 rfl rfl ?_
      refine j_getP C 10 15 fX11_season_40 (by decide) rfl (by decide) rfl rfl dX11_season_15 ?_
      refine j_aload_n C 0 0 dX11_season_18 rfl rfl ?_
      refine j_getP C 10 12 fX11_season_36 (by decide) rfl (by decide) rfl rfl dX11_season_19 ?_
      refine j_callVv C (d := 0) (As := [.ref (ad 12)]) (st := []) 15 (by decide) rfl (by decide) rfl (k49_X9_copyFrom) gX11_season_X9_copyFrom rfl hdX9_copyFrom (by decide) (Nat.le_of_ble_eq_true rfl) dX11_season_22 rfl (fun M' hp => ?_)
      obtain rfl := hp
      refine j_aload_n C 0 0 dX11_season_25 rfl rfl ?_
      refine j_getP C 10 12 fX11_season_36 (by decide) rfl (by decide) rfl rfl dX11_season_26 ?_
      refine j_iload_n C 1 1 dX11_season_29 rfl rfl ?_
      refine j_putI C 8 qX11_season_195 rfl rfl (by decide) rfl (by decide) rfl dX11_season_30 ?_
      refine j_iconst C 0 dX11_season_33 (by decide) ?_
      refine j_istore_n C 3 [(3, .int 0), (0, .ref (ad 0)), (1, .int p0), (2, .int p1)] dX11_season_34 rfl (by decide) rfl ?_
      refine j_iconst C 0 dX11_season_35 (by decide) ?_
      refine j_istore C 4 [(4, .int 0), (3, .int 0), (0, .ref (ad 0)), (1, .int p0), (2, .int p1)] dX11_season_36 (by decide) rfl ?_
      obtain ⟨j, hja, hjb, rfl⟩ := z_n31 (x := p1) (a := 1) (b := 40) (by omega) (by omega) (by decide)
      show jj _ _ _ _ _ _ _ _ _ _ _ _ _ _ _ _ _ _ _ (wI M0 12 8 p0) 38 [(4, .int 0), (3, .int 0), (0, .ref (ad 0)), (1, .int p0), (2, .int (nI j))] []
      refine j_lv [2, 3, 4, 1, 0] rfl ?_
      refine j_M (M' := (wI (wI M0 12 7 0) 12 8 p0)) (by refine Prod.ext ?_ (Prod.ext ?_ ?_) <;> funext a b <;> simp only [u2] <;> (repeat' split) <;> first | rfl | omega | (subst_vars; rfl) | (subst_vars; contradiction)) ?_
      have L : ∀ (n i : Nat), 0 ≤ i → i + n = j → ∀ (g0 : Int32) (g1 : Int32) (k : Int32), sea n g1 k = sea j p0 0 → jj p l e (cn_R 3) s m args below meth c 0 0 Q 5 dC dI ad cA A (wI (wI M0 12 7 g0) 12 8 g1) 38 [(0, .ref (ad 0)), (1, .int p0), (2, .int (nI j)), (3, .int k), (4, .int (nI i))] [] := by
        intro n
        induction n with
        | zero =>
          intro i h1 h2 g0 g1 k hrel
          obtain rfl : j = i := by omega
          refine j_iload C 4 dX11_season_38 rfl ?_
          refine j_iload_n C 2 2 dX11_season_40 rfl rfl ?_
          refine z_icmp_ge C 83 (j : Int) (j : Int) (nI_toInt (n := j) (by omega)) (nI_toInt (n := j) (by omega)) dX11_season_41 (by decide) (fun h3 => ?_) (fun h3 => ?_)
          · refine j_iload_n C 3 3 dX11_season_83 rfl rfl ?_
            refine z_if_ne C 101 k.toInt rfl dX11_season_84 (by decide) (fun h4 => ?_) (fun h4 => ?_)
            · refine j_aload_n C 0 0 dX11_season_101 rfl rfl ?_
              refine j_getP C 10 18 fX11_season_46 (by decide) rfl (by decide) rfl rfl dX11_season_102 ?_
              refine j_aload_n C 0 0 dX11_season_105 rfl rfl ?_
              refine j_getP C 10 15 fX11_season_40 (by decide) rfl (by decide) rfl rfl dX11_season_106 ?_
              refine j_callVv C (d := 1) (As := [.ref (ad 15)]) (st := []) 18 (by decide) rfl (by decide) rfl (k270_X6_keep g0 g1) gX11_season_X6_keep rfl hdX6_keep (by decide) (Nat.le_of_ble_eq_true rfl) dX11_season_109 rfl (fun M' hp => ?_)
              obtain rfl := hp
              refine j_iload_n C 3 3 dX11_season_112 rfl rfl ?_
              exact hret _ _ _ _ dX11_season_113 ⟨by first | rfl | (unfold fo_season; rw [if_pos (by rw [nI_toInt (by omega)]; omega), nI_clamp (by omega)]; exact hrel) | (unfold fo_season; (repeat' split) <;> first | rfl | (exfalso; omega) | (exfalso; simp_all; done)), (MB_I (MB_I (MB_I (MB_I MB_0 (by decide)) (by decide)) (by decide)) (by decide))⟩
            · obtain rfl : k = 0 := Int32.toInt_inj.mp (show k.toInt = (0 : Int32).toInt by rw [show (0 : Int32).toInt = 0 from rfl]; omega)
              show jj _ _ _ _ _ _ _ _ _ _ _ _ _ _ _ _ _ _ _ (wI (wI M0 12 7 g0) 12 8 g1) 87 [(0, .ref (ad 0)), (1, .int p0), (2, .int (nI j)), (3, .int 0), (4, .int (nI j))] []
              refine j_aload_n C 0 0 dX11_season_87 rfl rfl ?_
              refine j_getP C 10 12 fX11_season_36 (by decide) rfl (by decide) rfl rfl dX11_season_88 ?_
              refine j_aload_n C 0 0 dX11_season_91 rfl rfl ?_
              refine j_getP C 10 15 fX11_season_40 (by decide) rfl (by decide) rfl rfl dX11_season_92 ?_
              refine j_callVv C (d := 0) (As := [.ref (ad 15)]) (st := []) 12 (by decide) rfl (by decide) rfl (k271_X9_copyFrom g0 g1) gX11_season_X9_copyFrom rfl hdX9_copyFrom (by decide) (Nat.le_of_ble_eq_true rfl) dX11_season_95 rfl (fun M' hp => ?_)
              obtain rfl := hp
              refine j_goto C 112 dX11_season_98 (by decide) ?_
              refine j_iload_n C 3 3 dX11_season_112 rfl rfl ?_
              exact hret _ _ _ _ dX11_season_113 ⟨by first | rfl | (unfold fo_season; rw [if_pos (by rw [nI_toInt (by omega)]; omega), nI_clamp (by omega)]; exact hrel) | (unfold fo_season; (repeat' split) <;> first | rfl | (exfalso; omega) | (exfalso; simp_all; done)), MB_0⟩
          · exfalso; omega
        | succ n ih =>
          intro i h1 h2 g0 g1 k hrel
          refine j_iload C 4 dX11_season_38 rfl ?_
          refine j_iload_n C 2 2 dX11_season_40 rfl rfl ?_
          refine z_icmp_ge C 83 (i : Int) (j : Int) (nI_toInt (n := i) (by omega)) (nI_toInt (n := j) (by omega)) dX11_season_41 (by decide) (fun h5 => ?_) (fun h5 => ?_)
          · exfalso; omega
          · refine j_aload_n C 0 0 dX11_season_44 rfl rfl ?_
            refine j_getP C 10 87 fX11_season_85 (by decide) rfl (by decide) rfl rfl dX11_season_45 ?_
            refine j_aload_n C 0 0 dX11_season_48 rfl rfl ?_
            refine j_getP C 10 2 fX11_season_26 (by decide) rfl (by decide) rfl rfl dX11_season_49 ?_
            refine j_aload_n C 0 0 dX11_season_52 rfl rfl ?_
            refine j_getP C 10 12 fX11_season_36 (by decide) rfl (by decide) rfl rfl dX11_season_53 ?_
            refine j_aload_n C 0 0 dX11_season_56 rfl rfl ?_
            refine j_getP C 10 87 fX11_season_85 (by decide) rfl (by decide) rfl rfl dX11_season_57 ?_
            refine j_aload_n C 0 0 dX11_season_60 rfl rfl ?_
            refine j_getP C 10 12 fX11_season_36 (by decide) rfl (by decide) rfl rfl dX11_season_61 ?_
            refine j_callVi C (d := 1) (As := [.ref (ad 12)]) (st := [.ref (ad 12), .ref (ad 2), .ref (ad 87)]) 87 (by decide) rfl (by decide) rfl (hk_X1_drawDeed g0 g1) gX11_season_X1_drawDeed rfl hdX1_drawDeed (by decide) (Nat.le_of_ble_eq_true rfl) dX11_season_64 rfl (fun r9 M' hp => ?_)
            rcases hp with ⟨hA9, rfl, rfl⟩ | ⟨hA9, hB9 | hB9 | hB9, rfl⟩
            · refine z_i2l C (-1) (by decide) dX11_season_67 ?_
              refine j_callVi C (d := 2) (As := [.ref (ad 2), .ref (ad 12), .long (-1)]) (st := []) 87 (by decide) rfl (by decide) rfl (k275_X1_carryOut g0 g1) gX11_season_X1_carryOut rfl hdX1_carryOut (by decide) (Nat.le_of_ble_eq_true rfl) dX11_season_68 rfl (fun r M' hp => ?_)
              obtain ⟨rfl, rfl⟩ := hp
              refine j_if_lt_f C 77 dX11_season_71 (by decide) (by decide) ?_
              refine j_iinc C 3 (k + 1) [(3, .int (k + 1)), (0, .ref (ad 0)), (1, .int p0), (2, .int (nI j)), (4, .int (nI i))] dX11_season_74 rfl rfl (by decide) rfl ?_
              refine j_iinc C 4 (nI (i + 1)) [(4, .int (nI (i + 1))), (3, .int (k + 1)), (0, .ref (ad 0)), (1, .int p0), (2, .int (nI j))] dX11_season_77 rfl (nI_1 i) (by decide) rfl ?_
              refine j_goto C 38 dX11_season_80 (by decide) ?_
              refine j_lv [2, 3, 4, 1, 0] rfl ?_
              exact ih (i + 1) (by omega) (by omega) (g0 + 1) (sx g1) (k + 1) (by first | exact (sea_lt hA9).symm.trans hrel | exact (sea_ge hA9).symm.trans hrel)
            · refine z_i2l C r9.toInt64 rfl dX11_season_67 ?_
              refine j_callVi C (d := 1) (As := [.ref (ad 2), .ref (ad 12), .long r9.toInt64]) (st := []) 87 (by decide) rfl (by decide) rfl (k277_X1_carryOut r9 g0 g1 (by omega)) gX11_season_X1_carryOut rfl hdX1_carryOut (by decide) (Nat.le_of_ble_eq_true rfl) dX11_season_68 rfl (fun r M' hp => ?_)
              obtain ⟨rfl, rfl⟩ := hp
              refine j_if_lt_t C 77 dX11_season_71 (by decide) (by decide) ?_
              refine j_iinc C 4 (nI (i + 1)) [(4, .int (nI (i + 1))), (0, .ref (ad 0)), (1, .int p0), (2, .int (nI j)), (3, .int k)] dX11_season_77 rfl (nI_1 i) (by decide) rfl ?_
              refine j_goto C 38 dX11_season_80 (by decide) ?_
              refine j_lv [1, 2, 3, 4, 0] rfl ?_
              exact ih (i + 1) (by omega) (by omega) g0 (sx (sx g1)) k (by first | exact (sea_lt hA9).symm.trans hrel | exact (sea_ge hA9).symm.trans hrel)
            · refine z_i2l C r9.toInt64 rfl dX11_season_67 ?_
              refine j_callVi C (d := 2) (As := [.ref (ad 2), .ref (ad 12), .long r9.toInt64]) (st := []) 87 (by decide) rfl (by decide) rfl (k280_X1_carryOut r9 g0 g1 (by omega)) gX11_season_X1_carryOut rfl hdX1_carryOut (by decide) (Nat.le_of_ble_eq_true rfl) dX11_season_68 rfl (fun r M' hp => ?_)
              obtain ⟨rfl, rfl⟩ := hp
              refine j_if_lt_t C 77 dX11_season_71 (by decide) (by decide) ?_
              refine j_iinc C 4 (nI (i + 1)) [(4, .int (nI (i + 1))), (0, .ref (ad 0)), (1, .int p0), (2, .int (nI j)), (3, .int k)] dX11_season_77 rfl (nI_1 i) (by decide) rfl ?_
              refine j_goto C 38 dX11_season_80 (by decide) ?_
              refine j_lv [1, 2, 3, 4, 0] rfl ?_
              exact ih (i + 1) (by omega) (by omega) g0 (sx (sx g1)) k (by first | exact (sea_lt hA9).symm.trans hrel | exact (sea_ge hA9).symm.trans hrel)
            · refine z_i2l C r9.toInt64 rfl dX11_season_67 ?_
              refine j_callVi C (d := 2) (As := [.ref (ad 2), .ref (ad 12), .long r9.toInt64]) (st := []) 87 (by decide) rfl (by decide) rfl (k283_X1_carryOut r9 g0 g1 (by omega)) gX11_season_X1_carryOut rfl hdX1_carryOut (by decide) (Nat.le_of_ble_eq_true rfl) dX11_season_68 rfl (fun r M' hp => ?_)
              obtain ⟨rfl, rfl⟩ := hp
              refine j_if_lt_t C 77 dX11_season_71 (by decide) (by decide) ?_
              refine j_iinc C 4 (nI (i + 1)) [(4, .int (nI (i + 1))), (0, .ref (ad 0)), (1, .int p0), (2, .int (nI j)), (3, .int k)] dX11_season_77 rfl (nI_1 i) (by decide) rfl ?_
              refine j_goto C 38 dX11_season_80 (by decide) ?_
              refine j_lv [1, 2, 3, 4, 0] rfl ?_
              exact ih (i + 1) (by omega) (by omega) g0 (sx (sx g1)) k (by first | exact (sea_lt hA9).symm.trans hrel | exact (sea_ge hA9).symm.trans hrel)
      exact L (j - 0) 0 (by omega) (by omega) 0 p0 0 rfl
    · refine j_bipush C (-3) dX11_season_11 (by decide) ?_
      exact hret _ _ _ _ dX11_season_13 ⟨by first | rfl | (unfold fo_season; rw [if_pos (by rw [nI_toInt (by omega)]; omega), nI_clamp (by omega)]; exact hrel) | (unfold fo_season; (repeat' split) <;> first | rfl | (exfalso; omega) | (exfalso; simp_all; done)), MB_0⟩
