set_option maxHeartbeats 4000000 in
set_option maxRecDepth 100000 in
theorem k145_X5_lengthenRows {l : Launch} {dC : Nat → ClassId} {dI : Nat → Nat → Nat} {ad : Nat → Nat} {cA : Nat → ClassId} : Cv l 1 yX5_lengthenRows wsX5_lengthenRows dC dI ad cA [.ref (ad 88), .int (-1)] (wP (wP (wI M0 90 0 1) 88 4 93) 88 5 92) (fun M' => (wI M0 90 0 1) = M') := by
  refine cv_of (cc := cX5_lengthenRows) (maxL := 5) (lv := [(0, .ref (ad 88)), (1, .int (-1))]) (by decide) rfl (Nat.le_of_ble_eq_true rfl) rfl ?_
  intro p e s m args below meth c A Q C hret
  refine j_aload_n C 0 0 dX5_lengthenRows_0 rfl rfl ?_
  refine j_getP C 4 92 fX5_lengthenRows_25 (by decide) rfl (by decide) rfl rfl dX5_lengthenRows_1 ?_
  refine j_lconst C 0 dX5_lengthenRows_4 (by decide) ?_
  refine j_callSv C (d := 0) (As := [.ref (ad 92), .long 0]) (st := []) (k144_J7_fill_d0a16) gX5_lengthenRows_J7_fill_d0a16 rfl hdJ7_fill_d0a16s (by decide) (Nat.le_of_ble_eq_true rfl) dX5_lengthenRows_5 rfl (fun M' hp => ?_)
  obtain rfl := hp
  refine j_aload_n C 0 0 dX5_lengthenRows_8 rfl rfl ?_
  refine j_getI C 4 0 fX5_lengthenRows_45 (by decide) rfl (by decide) rfl rfl dX5_lengthenRows_9 ?_
  refine j_istore_n C 2 [(2, .int 0), (0, .ref (ad 88)), (1, .int (-1))] dX5_lengthenRows_12 rfl (by decide) rfl ?_
  refine j_iload_n C 0 2 dX5_lengthenRows_13 rfl rfl ?_
  refine j_aload_n C 1 0 dX5_lengthenRows_14 rfl rfl ?_
  refine j_getI C 4 0 fX5_lengthenRows_38 (by decide) rfl (by decide) rfl rfl dX5_lengthenRows_15 ?_
  refine j_icmp_gt_f C 101 dX5_lengthenRows_18 (by decide) (by decide) ?_
  refine j_iconst C 0 dX5_lengthenRows_21 (by decide) ?_
  refine j_istore_n C 3 [(3, .int 0), (2, .int 0), (0, .ref (ad 88)), (1, .int (-1))] dX5_lengthenRows_22 rfl (by decide) rfl ?_
  refine j_iload_n C 0 3 dX5_lengthenRows_23 rfl rfl ?_
  refine j_aload_n C 2 0 dX5_lengthenRows_24 rfl rfl ?_
  refine j_getP C 4 2 fX5_lengthenRows_52 (by decide) rfl (by decide) rfl rfl dX5_lengthenRows_25 ?_
  refine j_getI C 6 0 fX5_lengthenRows_92 (by decide) rfl (by decide) rfl rfl dX5_lengthenRows_28 ?_
  refine j_icmp_ge_t C 95 dX5_lengthenRows_31 (by decide) (by decide) ?_
  refine j_iinc C 1 1 [(2, .int 1), (3, .int 0), (0, .ref (ad 88)), (1, .int (-1))] dX5_lengthenRows_95 rfl (by decide) (by decide) rfl ?_
  refine j_goto C 13 dX5_lengthenRows_98 (by decide) ?_
  refine j_iload_n C 0 2 dX5_lengthenRows_13 rfl rfl ?_
  refine j_aload_n C 2 0 dX5_lengthenRows_14 rfl rfl ?_
  refine j_getI C 4 0 fX5_lengthenRows_38 (by decide) rfl (by decide) rfl rfl dX5_lengthenRows_15 ?_
  refine j_icmp_gt_t C 101 dX5_lengthenRows_18 (by decide) (by decide) ?_
  refine j_aload_n C 2 0 dX5_lengthenRows_101 rfl rfl ?_
  refine j_callVv C (d := 0) (As := []) (st := []) 88 (by decide) rfl (by decide) rfl (k134_X5_swapWays) gX5_lengthenRows_X5_swapWays rfl hdX5_swapWays (by decide) (Nat.le_of_ble_eq_true rfl) dX5_lengthenRows_102 rfl (fun M' hp => ?_)
  obtain rfl := hp
  exact hret _ _ _ dX5_lengthenRows_105 rfl
set_option maxHeartbeats 4000000 in
set_option maxRecDepth 100000 in
theorem k146_X5_rowsToShut {l : Launch} {dC : Nat → ClassId} {dI : Nat → Nat → Nat} {ad : Nat → Nat} {cA : Nat → ClassId} (p0 : Int32) (hbp0 : 0 ≤ p0.toInt ∧ p0.toInt ≤ 15) : Cj l 2 yX5_rowsToShut wsX5_rowsToShut dC dI ad cA [.ref (ad 88), .int p0] (wI M0 90 0 1) (fun r M' => ((p0.toInt ≤ 0 ∧ p0 = 0) ∧ 1 = r ∧ (wJ (wI M0 90 0 1) 92 0 1) = M') ∨ ((¬ p0.toInt ≤ 0 ∧ p0.toInt ≤ 1 ∧ p0 = 1) ∧ 0 = r ∧ (wP (wP (wJ (wI M0 90 0 1) 92 0 1) 88 4 93) 88 5 92) = M') ∨ ((¬ p0.toInt ≤ 0 ∧ ¬ p0.toInt ≤ 1 ∧ p0.toInt ≤ 2 ∧ p0 = 2) ∧ 0 = r ∧ (wI M0 90 0 1) = M') ∨ ((¬ p0.toInt ≤ 0 ∧ ¬ p0.toInt ≤ 1 ∧ ¬ p0.toInt ≤ 2 ∧ p0.toInt ≤ 3 ∧ p0 = 3) ∧ 0 = r ∧ (wP (wP (wI M0 90 0 1) 88 4 93) 88 5 92) = M') ∨ ((¬ p0.toInt ≤ 0 ∧ ¬ p0.toInt ≤ 1 ∧ ¬ p0.toInt ≤ 2 ∧ ¬ p0.toInt ≤ 3 ∧ p0.toInt ≤ 4 ∧ p0 = 4) ∧ 0 = r ∧ (wI M0 90 0 1) = M') ∨ ((¬ p0.toInt ≤ 0 ∧ ¬ p0.toInt ≤ 1 ∧ ¬ p0.toInt ≤ 2 ∧ ¬ p0.toInt ≤ 3 ∧ ¬ p0.toInt ≤ 4 ∧ p0.toInt ≤ 5 ∧ p0 = 5) ∧ 0 = r ∧ (wP (wP (wI M0 90 0 1) 88 4 93) 88 5 92) = M') ∨ ((¬ p0.toInt ≤ 0 ∧ ¬ p0.toInt ≤ 1 ∧ ¬ p0.toInt ≤ 2 ∧ ¬ p0.toInt ≤ 3 ∧ ¬ p0.toInt ≤ 4 ∧ ¬ p0.toInt ≤ 5 ∧ p0.toInt ≤ 6 ∧ p0 = 6) ∧ 0 = r ∧ (wI M0 90 0 1) = M') ∨ ((¬ p0.toInt ≤ 0 ∧ ¬ p0.toInt ≤ 1 ∧ ¬ p0.toInt ≤ 2 ∧ ¬ p0.toInt ≤ 3 ∧ ¬ p0.toInt ≤ 4 ∧ ¬ p0.toInt ≤ 5 ∧ ¬ p0.toInt ≤ 6 ∧ p0.toInt ≤ 7 ∧ p0 = 7) ∧ 0 = r ∧ (wP (wP (wI M0 90 0 1) 88 4 93) 88 5 92) = M') ∨ ((¬ p0.toInt ≤ 0 ∧ ¬ p0.toInt ≤ 1 ∧ ¬ p0.toInt ≤ 2 ∧ ¬ p0.toInt ≤ 3 ∧ ¬ p0.toInt ≤ 4 ∧ ¬ p0.toInt ≤ 5 ∧ ¬ p0.toInt ≤ 6 ∧ ¬ p0.toInt ≤ 7 ∧ p0.toInt ≤ 8 ∧ p0 = 8) ∧ 0 = r ∧ (wI M0 90 0 1) = M') ∨ ((¬ p0.toInt ≤ 0 ∧ ¬ p0.toInt ≤ 1 ∧ ¬ p0.toInt ≤ 2 ∧ ¬ p0.toInt ≤ 3 ∧ ¬ p0.toInt ≤ 4 ∧ ¬ p0.toInt ≤ 5 ∧ ¬ p0.toInt ≤ 6 ∧ ¬ p0.toInt ≤ 7 ∧ ¬ p0.toInt ≤ 8 ∧ p0.toInt ≤ 9 ∧ p0 = 9) ∧ 0 = r ∧ (wP (wP (wI M0 90 0 1) 88 4 93) 88 5 92) = M') ∨ ((¬ p0.toInt ≤ 0 ∧ ¬ p0.toInt ≤ 1 ∧ ¬ p0.toInt ≤ 2 ∧ ¬ p0.toInt ≤ 3 ∧ ¬ p0.toInt ≤ 4 ∧ ¬ p0.toInt ≤ 5 ∧ ¬ p0.toInt ≤ 6 ∧ ¬ p0.toInt ≤ 7 ∧ ¬ p0.toInt ≤ 8 ∧ ¬ p0.toInt ≤ 9 ∧ p0.toInt ≤ 10 ∧ p0 = 10) ∧ 0 = r ∧ (wI M0 90 0 1) = M') ∨ ((¬ p0.toInt ≤ 0 ∧ ¬ p0.toInt ≤ 1 ∧ ¬ p0.toInt ≤ 2 ∧ ¬ p0.toInt ≤ 3 ∧ ¬ p0.toInt ≤ 4 ∧ ¬ p0.toInt ≤ 5 ∧ ¬ p0.toInt ≤ 6 ∧ ¬ p0.toInt ≤ 7 ∧ ¬ p0.toInt ≤ 8 ∧ ¬ p0.toInt ≤ 9 ∧ ¬ p0.toInt ≤ 10 ∧ p0.toInt ≤ 11 ∧ p0 = 11) ∧ 0 = r ∧ (wP (wP (wI M0 90 0 1) 88 4 93) 88 5 92) = M') ∨ ((¬ p0.toInt ≤ 0 ∧ ¬ p0.toInt ≤ 1 ∧ ¬ p0.toInt ≤ 2 ∧ ¬ p0.toInt ≤ 3 ∧ ¬ p0.toInt ≤ 4 ∧ ¬ p0.toInt ≤ 5 ∧ ¬ p0.toInt ≤ 6 ∧ ¬ p0.toInt ≤ 7 ∧ ¬ p0.toInt ≤ 8 ∧ ¬ p0.toInt ≤ 9 ∧ ¬ p0.toInt ≤ 10 ∧ ¬ p0.toInt ≤ 11 ∧ p0.toInt ≤ 12 ∧ p0 = 12) ∧ 0 = r ∧ (wI M0 90 0 1) = M') ∨ ((¬ p0.toInt ≤ 0 ∧ ¬ p0.toInt ≤ 1 ∧ ¬ p0.toInt ≤ 2 ∧ ¬ p0.toInt ≤ 3 ∧ ¬ p0.toInt ≤ 4 ∧ ¬ p0.toInt ≤ 5 ∧ ¬ p0.toInt ≤ 6 ∧ ¬ p0.toInt ≤ 7 ∧ ¬ p0.toInt ≤ 8 ∧ ¬ p0.toInt ≤ 9 ∧ ¬ p0.toInt ≤ 10 ∧ ¬ p0.toInt ≤ 11 ∧ ¬ p0.toInt ≤ 12 ∧ p0.toInt ≤ 13 ∧ p0 = 13) ∧ 0 = r ∧ (wP (wP (wI M0 90 0 1) 88 4 93) 88 5 92) = M') ∨ ((¬ p0.toInt ≤ 0 ∧ ¬ p0.toInt ≤ 1 ∧ ¬ p0.toInt ≤ 2 ∧ ¬ p0.toInt ≤ 3 ∧ ¬ p0.toInt ≤ 4 ∧ ¬ p0.toInt ≤ 5 ∧ ¬ p0.toInt ≤ 6 ∧ ¬ p0.toInt ≤ 7 ∧ ¬ p0.toInt ≤ 8 ∧ ¬ p0.toInt ≤ 9 ∧ ¬ p0.toInt ≤ 10 ∧ ¬ p0.toInt ≤ 11 ∧ ¬ p0.toInt ≤ 12 ∧ ¬ p0.toInt ≤ 13 ∧ p0.toInt ≤ 14 ∧ p0 = 14) ∧ 0 = r ∧ (wI M0 90 0 1) = M') ∨ ((¬ p0.toInt ≤ 0 ∧ ¬ p0.toInt ≤ 1 ∧ ¬ p0.toInt ≤ 2 ∧ ¬ p0.toInt ≤ 3 ∧ ¬ p0.toInt ≤ 4 ∧ ¬ p0.toInt ≤ 5 ∧ ¬ p0.toInt ≤ 6 ∧ ¬ p0.toInt ≤ 7 ∧ ¬ p0.toInt ≤ 8 ∧ ¬ p0.toInt ≤ 9 ∧ ¬ p0.toInt ≤ 10 ∧ ¬ p0.toInt ≤ 11 ∧ ¬ p0.toInt ≤ 12 ∧ ¬ p0.toInt ≤ 13 ∧ ¬ p0.toInt ≤ 14 ∧ p0 = 15) ∧ 0 = r ∧ (wP (wP (wI M0 90 0 1) 88 4 93) 88 5 92) = M')) := by
  refine cj_of (cc := cX5_rowsToShut) (maxL := 3) (lv := [(0, .ref (ad 88)), (1, .int p0)]) (by decide) rfl (Nat.le_of_ble_eq_true rfl) rfl ?_
  intro p e s m args below meth c A Q C hret
  refine j_aload_n C 0 0 dX5_rowsToShut_0 rfl rfl ?_
  refine j_callVv C (d := 1) (As := []) (st := []) 88 (by decide) rfl (by decide) rfl (k123_X5_beginRows) gX5_rowsToShut_X5_beginRows rfl hdX5_beginRows (by decide) (Nat.le_of_ble_eq_true rfl) dX5_rowsToShut_1 rfl (fun M' hp => ?_)
  obtain rfl := hp
  refine j_iconst C 0 dX5_rowsToShut_4 (by decide) ?_
  refine j_istore_n C 2 [(2, .int 0), (0, .ref (ad 88)), (1, .int p0)] dX5_rowsToShut_5 rfl (by decide) rfl ?_
  refine j_iload_n C 0 2 dX5_rowsToShut_6 rfl rfl ?_
  refine j_iload_n C 2 1 dX5_rowsToShut_7 rfl rfl ?_
  refine z_icmp_ge C 22 0 p0.toInt (by decide) rfl dX5_rowsToShut_8 (by decide) (fun h1 => ?_) (fun h1 => ?_)
  · obtain rfl : p0 = 0 := Int32.toInt_inj.mp (show p0.toInt = (0 : Int32).toInt by rw [show (0 : Int32).toInt = 0 from rfl]; omega)
    show jj _ _ _ _ _ _ _ _ _ _ _ _ _ _ _ _ _ _ _ (wJ (wI M0 90 0 1) 92 0 1) 22 [(2, .int 0), (0, .ref (ad 88)), (1, .int 0)] []
    refine j_aload_n C 1 0 dX5_rowsToShut_22 rfl rfl ?_
    refine j_callVj C (d := 0) (As := []) (st := []) 88 (by decide) rfl (by decide) rfl (k124_X5_allWays) gX5_rowsToShut_X5_allWays rfl hdX5_allWays (by decide) (Nat.le_of_ble_eq_true rfl) dX5_rowsToShut_23 rfl (fun r M' hp => ?_)
    obtain ⟨rfl, rfl⟩ := hp
    refine j_aload_n C 1 0 dX5_rowsToShut_26 rfl rfl ?_
    refine j_callVj C (d := 1) (As := []) (st := [.long 1]) 88 (by decide) rfl (by decide) rfl (k126_X5_openWays) gX5_rowsToShut_X5_openWays rfl hdX5_openWays (by decide) (Nat.le_of_ble_eq_true rfl) dX5_rowsToShut_27 rfl (fun r M' hp => ?_)
    obtain ⟨rfl, rfl⟩ := hp
    refine z_lsub C 1 (by decide) dX5_rowsToShut_30 ?_
    exact hret _ _ _ _ dX5_rowsToShut_31 (Or.inl ⟨⟨h1, rfl⟩, rfl, rfl⟩)
  · refine j_aload_n C 1 0 dX5_rowsToShut_11 rfl rfl ?_
    refine j_iconst C (-1) dX5_rowsToShut_12 (by decide) ?_
    refine j_callVv C (d := 1) (As := [.int (-1)]) (st := []) 88 (by decide) rfl (by decide) rfl (k129_X5_lengthenRows) gX5_rowsToShut_X5_lengthenRows rfl hdX5_lengthenRows (by decide) (Nat.le_of_ble_eq_true rfl) dX5_rowsToShut_13 rfl (fun M' hp => ?_)
    obtain rfl := hp
    refine j_iinc C 0 1 [(2, .int 1), (0, .ref (ad 88)), (1, .int p0)] dX5_rowsToShut_16 rfl (by decide) (by decide) rfl ?_
    refine j_goto C 6 dX5_rowsToShut_19 (by decide) ?_
    refine j_iload_n C 0 2 dX5_rowsToShut_6 rfl rfl ?_
    refine j_iload_n C 2 1 dX5_rowsToShut_7 rfl rfl ?_
    refine z_icmp_ge C 22 1 p0.toInt (by decide) rfl dX5_rowsToShut_8 (by decide) (fun h2 => ?_) (fun h2 => ?_)
    · obtain rfl : p0 = 1 := Int32.toInt_inj.mp (show p0.toInt = (1 : Int32).toInt by rw [show (1 : Int32).toInt = 1 from rfl]; omega)
      show jj _ _ _ _ _ _ _ _ _ _ _ _ _ _ _ _ _ _ _ (wP (wP (wJ (wI M0 90 0 1) 92 0 1) 88 4 93) 88 5 92) 22 [(2, .int 1), (0, .ref (ad 88)), (1, .int 1)] []
      refine j_aload_n C 1 0 dX5_rowsToShut_22 rfl rfl ?_
      refine j_callVj C (d := 0) (As := []) (st := []) 88 (by decide) rfl (by decide) rfl (k130_X5_allWays) gX5_rowsToShut_X5_allWays rfl hdX5_allWays (by decide) (Nat.le_of_ble_eq_true rfl) dX5_rowsToShut_23 rfl (fun r M' hp => ?_)
      obtain ⟨rfl, rfl⟩ := hp
      refine j_aload_n C 1 0 dX5_rowsToShut_26 rfl rfl ?_
      refine j_callVj C (d := 1) (As := []) (st := [.long 0]) 88 (by decide) rfl (by decide) rfl (k132_X5_openWays) gX5_rowsToShut_X5_openWays rfl hdX5_openWays (by decide) (Nat.le_of_ble_eq_true rfl) dX5_rowsToShut_27 rfl (fun r M' hp => ?_)
      obtain ⟨rfl, rfl⟩ := hp
      refine z_lsub C 0 (by decide) dX5_rowsToShut_30 ?_
      exact hret _ _ _ _ dX5_rowsToShut_31 (Or.inr (Or.inl ⟨⟨h1, h2, rfl⟩, rfl, rfl⟩))
    · refine j_aload_n C 1 0 dX5_rowsToShut_11 rfl rfl ?_
      refine j_iconst C (-1) dX5_rowsToShut_12 (by decide) ?_
      refine j_callVv C (d := 1) (As := [.int (-1)]) (st := []) 88 (by decide) rfl (by decide) rfl (k135_X5_lengthenRows) gX5_rowsToShut_X5_lengthenRows rfl hdX5_lengthenRows (by decide) (Nat.le_of_ble_eq_true rfl) dX5_rowsToShut_13 rfl (fun M' hp => ?_)
      obtain rfl := hp
      refine j_iinc C 0 2 [(2, .int 2), (0, .ref (ad 88)), (1, .int p0)] dX5_rowsToShut_16 rfl (by decide) (by decide) rfl ?_
      refine j_goto C 6 dX5_rowsToShut_19 (by decide) ?_
      refine j_iload_n C 0 2 dX5_rowsToShut_6 rfl rfl ?_
      refine j_iload_n C 2 1 dX5_rowsToShut_7 rfl rfl ?_
      refine z_icmp_ge C 22 2 p0.toInt (by decide) rfl dX5_rowsToShut_8 (by decide) (fun h3 => ?_) (fun h3 => ?_)
      · obtain rfl : p0 = 2 := Int32.toInt_inj.mp (show p0.toInt = (2 : Int32).toInt by rw [show (2 : Int32).toInt = 2 from rfl]; omega)
        show jj _ _ _ _ _ _ _ _ _ _ _ _ _ _ _ _ _ _ _ (wI M0 90 0 1) 22 [(2, .int 2), (0, .ref (ad 88)), (1, .int 2)] []
        refine j_aload_n C 1 0 dX5_rowsToShut_22 rfl rfl ?_
        refine j_callVj C (d := 0) (As := []) (st := []) 88 (by decide) rfl (by decide) rfl (k136_X5_allWays) gX5_rowsToShut_X5_allWays rfl hdX5_allWays (by decide) (Nat.le_of_ble_eq_true rfl) dX5_rowsToShut_23 rfl (fun r M' hp => ?_)
        obtain ⟨rfl, rfl⟩ := hp
        refine j_aload_n C 1 0 dX5_rowsToShut_26 rfl rfl ?_
        refine j_callVj C (d := 1) (As := []) (st := [.long 0]) 88 (by decide) rfl (by decide) rfl (k137_X5_openWays) gX5_rowsToShut_X5_openWays rfl hdX5_openWays (by decide) (Nat.le_of_ble_eq_true rfl) dX5_rowsToShut_27 rfl (fun r M' hp => ?_)
        obtain ⟨rfl, rfl⟩ := hp
        refine z_lsub C 0 (by decide) dX5_rowsToShut_30 ?_
        exact hret _ _ _ _ dX5_rowsToShut_31 (Or.inr (Or.inr (Or.inl ⟨⟨h1, h2, h3, rfl⟩, rfl, rfl⟩)))
      · refine j_aload_n C 1 0 dX5_rowsToShut_11 rfl rfl ?_
        refine j_iconst C (-1) dX5_rowsToShut_12 (by decide) ?_
        refine j_callVv C (d := 1) (As := [.int (-1)]) (st := []) 88 (by decide) rfl (by decide) rfl (k140_X5_lengthenRows) gX5_rowsToShut_X5_lengthenRows rfl hdX5_lengthenRows (by decide) (Nat.le_of_ble_eq_true rfl) dX5_rowsToShut_13 rfl (fun M' hp => ?_)
        obtain rfl := hp
        refine j_iinc C 0 3 [(2, .int 3), (0, .ref (ad 88)), (1, .int p0)] dX5_rowsToShut_16 rfl (by decide) (by decide) rfl ?_
        refine j_goto C 6 dX5_rowsToShut_19 (by decide) ?_
        refine j_iload_n C 0 2 dX5_rowsToShut_6 rfl rfl ?_
        refine j_iload_n C 2 1 dX5_rowsToShut_7 rfl rfl ?_
        refine z_icmp_ge C 22 3 p0.toInt (by decide) rfl dX5_rowsToShut_8 (by decide) (fun h4 => ?_) (fun h4 => ?_)
        · obtain rfl : p0 = 3 := Int32.toInt_inj.mp (show p0.toInt = (3 : Int32).toInt by rw [show (3 : Int32).toInt = 3 from rfl]; omega)
          show jj _ _ _ _ _ _ _ _ _ _ _ _ _ _ _ _ _ _ _ (wP (wP (wI M0 90 0 1) 88 4 93) 88 5 92) 22 [(2, .int 3), (0, .ref (ad 88)), (1, .int 3)] []
          refine j_aload_n C 1 0 dX5_rowsToShut_22 rfl rfl ?_
          refine j_callVj C (d := 0) (As := []) (st := []) 88 (by decide) rfl (by decide) rfl (k141_X5_allWays) gX5_rowsToShut_X5_allWays rfl hdX5_allWays (by decide) (Nat.le_of_ble_eq_true rfl) dX5_rowsToShut_23 rfl (fun r M' hp => ?_)
          obtain ⟨rfl, rfl⟩ := hp
          refine j_aload_n C 1 0 dX5_rowsToShut_26 rfl rfl ?_
          refine j_callVj C (d := 1) (As := []) (st := [.long 0]) 88 (by decide) rfl (by decide) rfl (k143_X5_openWays) gX5_rowsToShut_X5_openWays rfl hdX5_openWays (by decide) (Nat.le_of_ble_eq_true rfl) dX5_rowsToShut_27 rfl (fun r M' hp => ?_)
          obtain ⟨rfl, rfl⟩ := hp
          refine z_lsub C 0 (by decide) dX5_rowsToShut_30 ?_
          exact hret _ _ _ _ dX5_rowsToShut_31 (Or.inr (Or.inr (Or.inr (Or.inl ⟨⟨h1, h2, h3, h4, rfl⟩, rfl, rfl⟩))))
        · refine j_aload_n C 1 0 dX5_rowsToShut_11 rfl rfl ?_
          refine j_iconst C (-1) dX5_rowsToShut_12 (by decide) ?_
          refine j_callVv C (d := 1) (As := [.int (-1)]) (st := []) 88 (by decide) rfl (by decide) rfl (k145_X5_lengthenRows) gX5_rowsToShut_X5_lengthenRows rfl hdX5_lengthenRows (by decide) (Nat.le_of_ble_eq_true rfl) dX5_rowsToShut_13 rfl (fun M' hp => ?_)
          obtain rfl := hp
          refine j_iinc C 0 4 [(2, .int 4), (0, .ref (ad 88)), (1, .int p0)] dX5_rowsToShut_16 rfl (by decide) (by decide) rfl ?_
          refine j_goto C 6 dX5_rowsToShut_19 (by decide) ?_
          refine j_iload_n C 0 2 dX5_rowsToShut_6 rfl rfl ?_
          refine j_iload_n C 2 1 dX5_rowsToShut_7 rfl rfl ?_
          refine z_icmp_ge C 22 4 p0.toInt (by decide) rfl dX5_rowsToShut_8 (by decide) (fun h5 => ?_) (fun h5 => ?_)
          · obtain rfl : p0 = 4 := Int32.toInt_inj.mp (show p0.toInt = (4 : Int32).toInt by rw [show (4 : Int32).toInt = 4 from rfl]; omega)
            show jj _ _ _ _ _ _ _ _ _ _ _ _ _ _ _ _ _ _ _ (wI M0 90 0 1) 22 [(2, .int 4), (0, .ref (ad 88)), (1, .int 4)] []
            refine j_aload_n C 1 0 dX5_rowsToShut_22 rfl rfl ?_
            refine j_callVj C (d := 0) (As := []) (st := []) 88 (by decide) rfl (by decide) rfl (k136_X5_allWays) gX5_rowsToShut_X5_allWays rfl hdX5_allWays (by decide) (Nat.le_of_ble_eq_true rfl) dX5_rowsToShut_23 rfl (fun r M' hp => ?_)
            obtain ⟨rfl, rfl⟩ := hp
            refine j_aload_n C 1 0 dX5_rowsToShut_26 rfl rfl ?_
            refine j_callVj C (d := 1) (As := []) (st := [.long 0]) 88 (by decide) rfl (by decide) rfl (k137_X5_openWays) gX5_rowsToShut_X5_openWays rfl hdX5_openWays (by decide) (Nat.le_of_ble_eq_true rfl) dX5_rowsToShut_27 rfl (fun r M' hp => ?_)
            obtain ⟨rfl, rfl⟩ := hp
            refine z_lsub C 0 (by decide) dX5_rowsToShut_30 ?_
            exact hret _ _ _ _ dX5_rowsToShut_31 (Or.inr (Or.inr (Or.inr (Or.inr (Or.inl ⟨⟨h1, h2, h3, h4, h5, rfl⟩, rfl, rfl⟩)))))
          · refine j_aload_n C 1 0 dX5_rowsToShut_11 rfl rfl ?_
            refine j_iconst C (-1) dX5_rowsToShut_12 (by decide) ?_
            refine j_callVv C (d := 1) (As := [.int (-1)]) (st := []) 88 (by decide) rfl (by decide) rfl (k140_X5_lengthenRows) gX5_rowsToShut_X5_lengthenRows rfl hdX5_lengthenRows (by decide) (Nat.le_of_ble_eq_true rfl) dX5_rowsToShut_13 rfl (fun M' hp => ?_)
            obtain rfl := hp
            refine j_iinc C 0 5 [(2, .int 5), (0, .ref (ad 88)), (1, .int p0)] dX5_rowsToShut_16 rfl (by decide) (by decide) rfl ?_
            refine j_goto C 6 dX5_rowsToShut_19 (by decide) ?_
            refine j_iload_n C 0 2 dX5_rowsToShut_6 rfl rfl ?_
            refine j_iload_n C 2 1 dX5_rowsToShut_7 rfl rfl ?_
            refine z_icmp_ge C 22 5 p0.toInt (by decide) rfl dX5_rowsToShut_8 (by decide) (fun h6 => ?_) (fun h6 => ?_)
            · obtain rfl : p0 = 5 := Int32.toInt_inj.mp (show p0.toInt = (5 : Int32).toInt by rw [show (5 : Int32).toInt = 5 from rfl]; omega)
              show jj _ _ _ _ _ _ _ _ _ _ _ _ _ _ _ _ _ _ _ (wP (wP (wI M0 90 0 1) 88 4 93) 88 5 92) 22 [(2, .int 5), (0, .ref (ad 88)), (1, .int 5)] []
              refine j_aload_n C 1 0 dX5_rowsToShut_22 rfl rfl ?_
              refine j_callVj C (d := 0) (As := []) (st := []) 88 (by decide) rfl (by decide) rfl (k141_X5_allWays) gX5_rowsToShut_X5_allWays rfl hdX5_allWays (by decide) (Nat.le_of_ble_eq_true rfl) dX5_rowsToShut_23 rfl (fun r M' hp => ?_)
              obtain ⟨rfl, rfl⟩ := hp
              refine j_aload_n C 1 0 dX5_rowsToShut_26 rfl rfl ?_
              refine j_callVj C (d := 1) (As := []) (st := [.long 0]) 88 (by decide) rfl (by decide) rfl (k143_X5_openWays) gX5_rowsToShut_X5_openWays rfl hdX5_openWays (by decide) (Nat.le_of_ble_eq_true rfl) dX5_rowsToShut_27 rfl (fun r M' hp => ?_)
              obtain ⟨rfl, rfl⟩ := hp
              refine z_lsub C 0 (by decide) dX5_rowsToShut_30 ?_
              exact hret _ _ _ _ dX5_rowsToShut_31 (Or.inr (Or.inr (Or.inr (Or.inr (Or.inr (Or.inl ⟨⟨h1, h2, h3, h4, h5, h6, rfl⟩, rfl, rfl⟩))))))
            · refine j_aload_n C 1 0 dX5_rowsToShut_11 rfl rfl ?_
              refine j_iconst C (-1) dX5_rowsToShut_12 (by decide) ?_
              refine j_callVv C (d := 1) (As := [.int (-1)]) (st := []) 88 (by decide) rfl (by decide) rfl (k145_X5_lengthenRows) gX5_rowsToShut_X5_lengthenRows rfl hdX5_lengthenRows (by decide) (Nat.le_of_ble_eq_true rfl) dX5_rowsToShut_13 rfl (fun M' hp => ?_)
              obtain rfl := hp
              refine j_iinc C 0 6 [(2, .int 6), (0, .ref (ad 88)), (1, .int p0)] dX5_rowsToShut_16 rfl (by decide) (by decide) rfl ?_
              refine j_goto C 6 dX5_rowsToShut_19 (by decide) ?_
              refine j_iload_n C 0 2 dX5_rowsToShut_6 rfl rfl ?_
              refine j_iload_n C 2 1 dX5_rowsToShut_7 rfl rfl ?_
              refine z_icmp_ge C 22 6 p0.toInt (by decide) rfl dX5_rowsToShut_8 (by decide) (fun h7 => ?_) (fun h7 => ?_)
              · obtain rfl : p0 = 6 := Int32.toInt_inj.mp (show p0.toInt = (6 : Int32).toInt by rw [show (6 : Int32).toInt = 6 from rfl]; omega)
                show jj _ _ _ _ _ _ _ _ _ _ _ _ _ _ _ _ _ _ _ (wI M0 90 0 1) 22 [(2, .int 6), (0, .ref (ad 88)), (1, .int 6)] []
                refine j_aload_n C 1 0 dX5_rowsToShut_22 rfl rfl ?_
                refine j_callVj C (d := 0) (As := []) (st := []) 88 (by decide) rfl (by decide) rfl (k136_X5_allWays) gX5_rowsToShut_X5_allWays rfl hdX5_allWays (by decide) (Nat.le_of_ble_eq_true rfl) dX5_rowsToShut_23 rfl (fun r M' hp => ?_)
                obtain ⟨rfl, rfl⟩ := hp
                refine j_aload_n C 1 0 dX5_rowsToShut_26 rfl rfl ?_
                refine j_callVj C (d := 1) (As := []) (st := [.long 0]) 88 (by decide) rfl (by decide) rfl (k137_X5_openWays) gX5_rowsToShut_X5_openWays rfl hdX5_openWays (by decide) (Nat.le_of_ble_eq_true rfl) dX5_rowsToShut_27 rfl (fun r M' hp => ?_)
                obtain ⟨rfl, rfl⟩ := hp
                refine z_lsub C 0 (by decide) dX5_rowsToShut_30 ?_
                exact hret _ _ _ _ dX5_rowsToShut_31 (Or.inr (Or.inr (Or.inr (Or.inr (Or.inr (Or.inr (Or.inl ⟨⟨h1, h2, h3, h4, h5, h6, h7, rfl⟩, rfl, rfl⟩)))))))
              · refine j_aload_n C 1 0 dX5_rowsToShut_11 rfl rfl ?_
                refine j_iconst C (-1) dX5_rowsToShut_12 (by decide) ?_
                refine j_callVv C (d := 1) (As := [.int (-1)]) (st := []) 88 (by decide) rfl (by decide) rfl (k140_X5_lengthenRows) gX5_rowsToShut_X5_lengthenRows rfl hdX5_lengthenRows (by decide) (Nat.le_of_ble_eq_true rfl) dX5_rowsToShut_13 rfl (fun M' hp => ?_)
                obtain rfl := hp
                refine j_iinc C 0 7 [(2, .int 7), (0, .ref (ad 88)), (1, .int p0)] dX5_rowsToShut_16 rfl (by decide) (by decide) rfl ?_
                refine j_goto C 6 dX5_rowsToShut_19 (by decide) ?_
                refine j_iload_n C 0 2 dX5_rowsToShut_6 rfl rfl ?_
                refine j_iload_n C 2 1 dX5_rowsToShut_7 rfl rfl ?_
                refine z_icmp_ge C 22 7 p0.toInt (by decide) rfl dX5_rowsToShut_8 (by decide) (fun h8 => ?_) (fun h8 => ?_)
                · obtain rfl : p0 = 7 := Int32.toInt_inj.mp (show p0.toInt = (7 : Int32).toInt by rw [show (7 : Int32).toInt = 7 from rfl]; omega)
                  show jj _ _ _ _ _ _ _ _ _ _ _ _ _ _ _ _ _ _ _ (wP (wP (wI M0 90 0 1) 88 4 93) 88 5 92) 22 [(2, .int 7), (0, .ref (ad 88)), (1, .int 7)] []
                  refine j_aload_n C 1 0 dX5_rowsToShut_22 rfl rfl ?_
                  refine j_callVj C (d := 0) (As := []) (st := []) 88 (by decide) rfl (by decide) rfl (k141_X5_allWays) gX5_rowsToShut_X5_allWays rfl hdX5_allWays (by decide) (Nat.le_of_ble_eq_true rfl) dX5_rowsToShut_23 rfl (fun r M' hp => ?_)
                  obtain ⟨rfl, rfl⟩ := hp
                  refine j_aload_n C 1 0 dX5_rowsToShut_26 rfl rfl ?_
                  refine j_callVj C (d := 1) (As := []) (st := [.long 0]) 88 (by decide) rfl (by decide) rfl (k143_X5_openWays) gX5_rowsToShut_X5_openWays rfl hdX5_openWays (by decide) (Nat.le_of_ble_eq_true rfl) dX5_rowsToShut_27 rfl (fun r M' hp => ?_)
                  obtain ⟨rfl, rfl⟩ := hp
                  refine z_lsub C 0 (by decide) dX5_rowsToShut_30 ?_
                  exact hret _ _ _ _ dX5_rowsToShut_31 (Or.inr (Or.inr (Or.inr (Or.inr (Or.inr (Or.inr (Or.inr (Or.inl ⟨⟨h1, h2, h3, h4, h5, h6, h7, h8, rfl⟩, rfl, rfl⟩))))))))
                · refine j_aload_n C 1 0 dX5_rowsToShut_11 rfl rfl ?_
                  refine j_iconst C (-1) dX5_rowsToShut_12 (by decide) ?_
                  refine j_callVv C (d := 1) (As := [.int (-1)]) (st := []) 88 (by decide) rfl (by decide) rfl (k145_X5_lengthenRows) gX5_rowsToShut_X5_lengthenRows rfl hdX5_lengthenRows (by decide) (Nat.le_of_ble_eq_true rfl) dX5_rowsToShut_13 rfl (fun M' hp => ?_)
                  obtain rfl := hp
                  refine j_iinc C 0 8 [(2, .int 8), (0, .ref (ad 88)), (1, .int p0)] dX5_rowsToShut_16 rfl (by decide) (by decide) rfl ?_
                  refine j_goto C 6 dX5_rowsToShut_19 (by decide) ?_
                  refine j_iload_n C 0 2 dX5_rowsToShut_6 rfl rfl ?_
                  refine j_iload_n C 2 1 dX5_rowsToShut_7 rfl rfl ?_
                  refine z_icmp_ge C 22 8 p0.toInt (by decide) rfl dX5_rowsToShut_8 (by decide) (fun h9 => ?_) (fun h9 => ?_)
                  · obtain rfl : p0 = 8 := Int32.toInt_inj.mp (show p0.toInt = (8 : Int32).toInt by rw [show (8 : Int32).toInt = 8 from rfl]; omega)
                    show jj _ _ _ _ _ _ _ _ _ _ _ _ _ _ _ _ _ _ _ (wI M0 90 0 1) 22 [(2, .int 8), (0, .ref (ad 88)), (1, .int 8)] []
                    refine j_aload_n C 1 0 dX5_rowsToShut_22 rfl rfl ?_
                    refine j_callVj C (d := 0) (As := []) (st := []) 88 (by decide) rfl (by decide) rfl (k136_X5_allWays) gX5_rowsToShut_X5_allWays rfl hdX5_allWays (by decide) (Nat.le_of_ble_eq_true rfl) dX5_rowsToShut_23 rfl (fun r M' hp => ?_)
                    obtain ⟨rfl, rfl⟩ := hp
                    refine j_aload_n C 1 0 dX5_rowsToShut_26 rfl rfl ?_
                    refine j_callVj C (d := 1) (As := []) (st := [.long 0]) 88 (by decide) rfl (by decide) rfl (k137_X5_openWays) gX5_rowsToShut_X5_openWays rfl hdX5_openWays (by decide) (Nat.le_of_ble_eq_true rfl) dX5_rowsToShut_27 rfl (fun r M' hp => ?_)
                    obtain ⟨rfl, rfl⟩ := hp
                    refine z_lsub C 0 (by decide) dX5_rowsToShut_30 ?_
                    exact hret _ _ _ _ dX5_rowsToShut_31 (Or.inr (Or.inr (Or.inr (Or.inr (Or.inr (Or.inr (Or.inr (Or.inr (Or.inl ⟨⟨h1, h2, h3, h4, h5, h6, h7, h8, h9, rfl⟩, rfl, rfl⟩)))))))))
                  · refine j_aload_n C 1 0 dX5_rowsToShut_11 rfl rfl ?_
                    refine j_iconst C (-1) dX5_rowsToShut_12 (by decide) ?_
                    refine j_callVv C (d := 1) (As := [.int (-1)]) (st := []) 88 (by decide) rfl (by decide) rfl (k140_X5_lengthenRows) gX5_rowsToShut_X5_lengthenRows rfl hdX5_lengthenRows (by decide) (Nat.le_of_ble_eq_true rfl) dX5_rowsToShut_13 rfl (fun M' hp => ?_)
                    obtain rfl := hp
                    refine j_iinc C 0 9 [(2, .int 9), (0, .ref (ad 88)), (1, .int p0)] dX5_rowsToShut_16 rfl (by decide) (by decide) rfl ?_
                    refine j_goto C 6 dX5_rowsToShut_19 (by decide) ?_
                    refine j_iload_n C 0 2 dX5_rowsToShut_6 rfl rfl ?_
                    refine j_iload_n C 2 1 dX5_rowsToShut_7 rfl rfl ?_
                    refine z_icmp_ge C 22 9 p0.toInt (by decide) rfl dX5_rowsToShut_8 (by decide) (fun h10 => ?_) (fun h10 => ?_)
                    · obtain rfl : p0 = 9 := Int32.toInt_inj.mp (show p0.toInt = (9 : Int32).toInt by rw [show (9 : Int32).toInt = 9 from rfl]; omega)
                      show jj _ _ _ _ _ _ _ _ _ _ _ _ _ _ _ _ _ _ _ (wP (wP (wI M0 90 0 1) 88 4 93) 88 5 92) 22 [(2, .int 9), (0, .ref (ad 88)), (1, .int 9)] []
                      refine j_aload_n C 1 0 dX5_rowsToShut_22 rfl rfl ?_
                      refine j_callVj C (d := 0) (As := []) (st := []) 88 (by decide) rfl (by decide) rfl (k141_X5_allWays) gX5_rowsToShut_X5_allWays rfl hdX5_allWays (by decide) (Nat.le_of_ble_eq_true rfl) dX5_rowsToShut_23 rfl (fun r M' hp => ?_)
                      obtain ⟨rfl, rfl⟩ := hp
                      refine j_aload_n C 1 0 dX5_rowsToShut_26 rfl rfl ?_
                      refine j_callVj C (d := 1) (As := []) (st := [.long 0]) 88 (by decide) rfl (by decide) rfl (k143_X5_openWays) gX5_rowsToShut_X5_openWays rfl hdX5_openWays (by decide) (Nat.le_of_ble_eq_true rfl) dX5_rowsToShut_27 rfl (fun r M' hp => ?_)
                      obtain ⟨rfl, rfl⟩ := hp
                      refine z_lsub C 0 (by decide) dX5_rowsToShut_30 ?_
                      exact hret _ _ _ _ dX5_rowsToShut_31 (Or.inr (Or.inr (Or.inr (Or.inr (Or.inr (Or.inr (Or.inr (Or.inr (Or.inr (Or.inl ⟨⟨h1, h2, h3, h4, h5, h6, h7, h8, h9, h10, rfl⟩, rfl, rfl⟩))))))))))
                    · refine j_aload_n C 1 0 dX5_rowsToShut_11 rfl rfl ?_
                      refine j_iconst C (-1) dX5_rowsToShut_12 (by decide) ?_
                      refine j_callVv C (d := 1) (As := [.int (-1)]) (st := []) 88 (by decide) rfl (by decide) rfl (k145_X5_lengthenRows) gX5_rowsToShut_X5_lengthenRows rfl hdX5_lengthenRows (by decide) (Nat.le_of_ble_eq_true rfl) dX5_rowsToShut_13 rfl (fun M' hp => ?_)
                      obtain rfl := hp
                      refine j_iinc C 0 10 [(2, .int 10), (0, .ref (ad 88)), (1, .int p0)] dX5_rowsToShut_16 rfl (by decide) (by decide) rfl ?_
                      refine j_goto C 6 dX5_rowsToShut_19 (by decide) ?_
                      refine j_iload_n C 0 2 dX5_rowsToShut_6 rfl rfl ?_
                      refine j_iload_n C 2 1 dX5_rowsToShut_7 rfl rfl ?_
                      refine z_icmp_ge C 22 10 p0.toInt (by decide) rfl dX5_rowsToShut_8 (by decide) (fun h11 => ?_) (fun h11 => ?_)
                      · obtain rfl : p0 = 10 := Int32.toInt_inj.mp (show p0.toInt = (10 : Int32).toInt by rw [show (10 : Int32).toInt = 10 from rfl]; omega)
                        show jj _ _ _ _ _ _ _ _ _ _ _ _ _ _ _ _ _ _ _ (wI M0 90 0 1) 22 [(2, .int 10), (0, .ref (ad 88)), (1, .int 10)] []
                        refine j_aload_n C 1 0 dX5_rowsToShut_22 rfl rfl ?_
                        refine j_callVj C (d := 0) (As := []) (st := []) 88 (by decide) rfl (by decide) rfl (k136_X5_allWays) gX5_rowsToShut_X5_allWays rfl hdX5_allWays (by decide) (Nat.le_of_ble_eq_true rfl) dX5_rowsToShut_23 rfl (fun r M' hp => ?_)
                        obtain ⟨rfl, rfl⟩ := hp
                        refine j_aload_n C 1 0 dX5_rowsToShut_26 rfl rfl ?_
                        refine j_callVj C (d := 1) (As := []) (st := [.long 0]) 88 (by decide) rfl (by decide) rfl (k137_X5_openWays) gX5_rowsToShut_X5_openWays rfl hdX5_openWays (by decide) (Nat.le_of_ble_eq_true rfl) dX5_rowsToShut_27 rfl (fun r M' hp => ?_)
                        obtain ⟨rfl, rfl⟩ := hp
                        refine z_lsub C 0 (by decide) dX5_rowsToShut_30 ?_
                        exact hret _ _ _ _ dX5_rowsToShut_31 (Or.inr (Or.inr (Or.inr (Or.inr (Or.inr (Or.inr (Or.inr (Or.inr (Or.inr (Or.inr (Or.inl ⟨⟨h1, h2, h3, h4, h5, h6, h7, h8, h9, h10, h11, rfl⟩, rfl, rfl⟩)))))))))))
                      · refine j_aload_n C 1 0 dX5_rowsToShut_11 rfl rfl ?_
                        refine j_iconst C (-1) dX5_rowsToShut_12 (by decide) ?_
                        refine j_callVv C (d := 1) (As := [.int (-1)]) (st := []) 88 (by decide) rfl (by decide) rfl (k140_X5_lengthenRows) gX5_rowsToShut_X5_lengthenRows rfl hdX5_lengthenRows (by decide) (Nat.le_of_ble_eq_true rfl) dX5_rowsToShut_13 rfl (fun M' hp => ?_)
                        obtain rfl := hp
                        refine j_iinc C 0 11 [(2, .int 11), (0, .ref (ad 88)), (1, .int p0)] dX5_rowsToShut_16 rfl (by decide) (by decide) rfl ?_
                        refine j_goto C 6 dX5_rowsToShut_19 (by decide) ?_
                        refine j_iload_n C 0 2 dX5_rowsToShut_6 rfl rfl ?_
                        refine j_iload_n C 2 1 dX5_rowsToShut_7 rfl rfl ?_
                        refine z_icmp_ge C 22 11 p0.toInt (by decide) rfl dX5_rowsToShut_8 (by decide) (fun h12 => ?_) (fun h12 => ?_)
                        · obtain rfl : p0 = 11 := Int32.toInt_inj.mp (show p0.toInt = (11 : Int32).toInt by rw [show (11 : Int32).toInt = 11 from rfl]; omega)
                          show jj _ _ _ _ _ _ _ _ _ _ _ _ _ _ _ _ _ _ _ (wP (wP (wI M0 90 0 1) 88 4 93) 88 5 92) 22 [(2, .int 11), (0, .ref (ad 88)), (1, .int 11)] []
                          refine j_aload_n C 1 0 dX5_rowsToShut_22 rfl rfl ?_
                          refine j_callVj C (d := 0) (As := []) (st := []) 88 (by decide) rfl (by decide) rfl (k141_X5_allWays) gX5_rowsToShut_X5_allWays rfl hdX5_allWays (by decide) (Nat.le_of_ble_eq_true rfl) dX5_rowsToShut_23 rfl (fun r M' hp => ?_)
                          obtain ⟨rfl, rfl⟩ := hp
                          refine j_aload_n C 1 0 dX5_rowsToShut_26 rfl rfl ?_
                          refine j_callVj C (d := 1) (As := []) (st := [.long 0]) 88 (by decide) rfl (by decide) rfl (k143_X5_openWays) gX5_rowsToShut_X5_openWays rfl hdX5_openWays (by decide) (Nat.le_of_ble_eq_true rfl) dX5_rowsToShut_27 rfl (fun r M' hp => ?_)
                          obtain ⟨rfl, rfl⟩ := hp
                          refine z_lsub C 0 (by decide) dX5_rowsToShut_30 ?_
                          exact hret _ _ _ _ dX5_rowsToShut_31 (Or.inr (Or.inr (Or.inr (Or.inr (Or.inr (Or.inr (Or.inr (Or.inr (Or.inr (Or.inr (Or.inr (Or.inl ⟨⟨h1, h2, h3, h4, h5, h6, h7, h8, h9, h10, h11, h12, rfl⟩, rfl, rfl⟩))))))))))))
                        · refine j_aload_n C 1 0 dX5_rowsToShut_11 rfl rfl ?_
                          refine j_iconst C (-1) dX5_rowsToShut_12 (by decide) ?_
                          refine j_callVv C (d := 1) (As := [.int (-1)]) (st := []) 88 (by decide) rfl (by decide) rfl (k145_X5_lengthenRows) gX5_rowsToShut_X5_lengthenRows rfl hdX5_lengthenRows (by decide) (Nat.le_of_ble_eq_true rfl) dX5_rowsToShut_13 rfl (fun M' hp => ?_)
                          obtain rfl := hp
                          refine j_iinc C 0 12 [(2, .int 12), (0, .ref (ad 88)), (1, .int p0)] dX5_rowsToShut_16 rfl (by decide) (by decide) rfl ?_
                          refine j_goto C 6 dX5_rowsToShut_19 (by decide) ?_
                          refine j_iload_n C 0 2 dX5_rowsToShut_6 rfl rfl ?_
                          refine j_iload_n C 2 1 dX5_rowsToShut_7 rfl rfl ?_
                          refine z_icmp_ge C 22 12 p0.toInt (by decide) rfl dX5_rowsToShut_8 (by decide) (fun h13 => ?_) (fun h13 => ?_)
                          · obtain rfl : p0 = 12 := Int32.toInt_inj.mp (show p0.toInt = (12 : Int32).toInt by rw [show (12 : Int32).toInt = 12 from rfl]; omega)
                            show jj _ _ _ _ _ _ _ _ _ _ _ _ _ _ _ _ _ _ _ (wI M0 90 0 1) 22 [(2, .int 12), (0, .ref (ad 88)), (1, .int 12)] []
                            refine j_aload_n C 1 0 dX5_rowsToShut_22 rfl rfl ?_
                            refine j_callVj C (d := 0) (As := []) (st := []) 88 (by decide) rfl (by decide) rfl (k136_X5_allWays) gX5_rowsToShut_X5_allWays rfl hdX5_allWays (by decide) (Nat.le_of_ble_eq_true rfl) dX5_rowsToShut_23 rfl (fun r M' hp => ?_)
                            obtain ⟨rfl, rfl⟩ := hp
                            refine j_aload_n C 1 0 dX5_rowsToShut_26 rfl rfl ?_
                            refine j_callVj C (d := 1) (As := []) (st := [.long 0]) 88 (by decide) rfl (by decide) rfl (k137_X5_openWays) gX5_rowsToShut_X5_openWays rfl hdX5_openWays (by decide) (Nat.le_of_ble_eq_true rfl) dX5_rowsToShut_27 rfl (fun r M' hp => ?_)
                            obtain ⟨rfl, rfl⟩ := hp
                            refine z_lsub C 0 (by decide) dX5_rowsToShut_30 ?_
                            exact hret _ _ _ _ dX5_rowsToShut_31 (Or.inr (Or.inr (Or.inr (Or.inr (Or.inr (Or.inr (Or.inr (Or.inr (Or.inr (Or.inr (Or.inr (Or.inr (Or.inl ⟨⟨h1, h2, h3, h4, h5, h6, h7, h8, h9, h10, h11, h12, h13, rfl⟩, rfl, rfl⟩)))))))))))))
                          · refine j_aload_n C 1 0 dX5_rowsToShut_11 rfl rfl ?_
                            refine j_iconst C (-1) dX5_rowsToShut_12 (by decide) ?_
                            refine j_callVv C (d := 1) (As := [.int (-1)]) (st := []) 88 (by decide) rfl (by decide) rfl (k140_X5_lengthenRows) gX5_rowsToShut_X5_lengthenRows rfl hdX5_lengthenRows (by decide) (Nat.le_of_ble_eq_true rfl) dX5_rowsToShut_13 rfl (fun M' hp => ?_)
                            obtain rfl := hp
                            refine j_iinc C 0 13 [(2, .int 13), (0, .ref (ad 88)), (1, .int p0)] dX5_rowsToShut_16 rfl (by decide) (by decide) rfl ?_
                            refine j_goto C 6 dX5_rowsToShut_19 (by decide) ?_
                            refine j_iload_n C 0 2 dX5_rowsToShut_6 rfl rfl ?_
                            refine j_iload_n C 2 1 dX5_rowsToShut_7 rfl rfl ?_
                            refine z_icmp_ge C 22 13 p0.toInt (by decide) rfl dX5_rowsToShut_8 (by decide) (fun h14 => ?_) (fun h14 => ?_)
                            · obtain rfl : p0 = 13 := Int32.toInt_inj.mp (show p0.toInt = (13 : Int32).toInt by rw [show (13 : Int32).toInt = 13 from rfl]; omega)
                              show jj _ _ _ _ _ _ _ _ _ _ _ _ _ _ _ _ _ _ _ (wP (wP (wI M0 90 0 1) 88 4 93) 88 5 92) 22 [(2, .int 13), (0, .ref (ad 88)), (1, .int 13)] []
                              refine j_aload_n C 1 0 dX5_rowsToShut_22 rfl rfl ?_
                              refine j_callVj C (d := 0) (As := []) (st := []) 88 (by decide) rfl (by decide) rfl (k141_X5_allWays) gX5_rowsToShut_X5_allWays rfl hdX5_allWays (by decide) (Nat.le_of_ble_eq_true rfl) dX5_rowsToShut_23 rfl (fun r M' hp => ?_)
                              obtain ⟨rfl, rfl⟩ := hp
                              refine j_aload_n C 1 0 dX5_rowsToShut_26 rfl rfl ?_
                              refine j_callVj C (d := 1) (As := []) (st := [.long 0]) 88 (by decide) rfl (by decide) rfl (k143_X5_openWays) gX5_rowsToShut_X5_openWays rfl hdX5_openWays (by decide) (Nat.le_of_ble_eq_true rfl) dX5_rowsToShut_27 rfl (fun r M' hp => ?_)
                              obtain ⟨rfl, rfl⟩ := hp
                              refine z_lsub C 0 (by decide) dX5_rowsToShut_30 ?_
                              exact hret _ _ _ _ dX5_rowsToShut_31 (Or.inr (Or.inr (Or.inr (Or.inr (Or.inr (Or.inr (Or.inr (Or.inr (Or.inr (Or.inr (Or.inr (Or.inr (Or.inr (Or.inl ⟨⟨h1, h2, h3, h4, h5, h6, h7, h8, h9, h10, h11, h12, h13, h14, rfl⟩, rfl, rfl⟩))))))))))))))
                            · refine j_aload_n C 1 0 dX5_rowsToShut_11 rfl rfl ?_
                              refine j_iconst C (-1) dX5_rowsToShut_12 (by decide) ?_
                              refine j_callVv C (d := 1) (As := [.int (-1)]) (st := []) 88 (by decide) rfl (by decide) rfl (k145_X5_lengthenRows) gX5_rowsToShut_X5_lengthenRows rfl hdX5_lengthenRows (by decide) (Nat.le_of_ble_eq_true rfl) dX5_rowsToShut_13 rfl (fun M' hp => ?_)
                              obtain rfl := hp
                              refine j_iinc C 0 14 [(2, .int 14), (0, .ref (ad 88)), (1, .int p0)] dX5_rowsToShut_16 rfl (by decide) (by decide) rfl ?_
                              refine j_goto C 6 dX5_rowsToShut_19 (by decide) ?_
                              refine j_iload_n C 0 2 dX5_rowsToShut_6 rfl rfl ?_
                              refine j_iload_n C 2 1 dX5_rowsToShut_7 rfl rfl ?_
                              refine z_icmp_ge C 22 14 p0.toInt (by decide) rfl dX5_rowsToShut_8 (by decide) (fun h15 => ?_) (fun h15 => ?_)
                              · obtain rfl : p0 = 14 := Int32.toInt_inj.mp (show p0.toInt = (14 : Int32).toInt by rw [show (14 : Int32).toInt = 14 from rfl]; omega)
                                show jj _ _ _ _ _ _ _ _ _ _ _ _ _ _ _ _ _ _ _ (wI M0 90 0 1) 22 [(2, .int 14), (0, .ref (ad 88)), (1, .int 14)] []
                                refine j_aload_n C 1 0 dX5_rowsToShut_22 rfl rfl ?_
                                refine j_callVj C (d := 0) (As := []) (st := []) 88 (by decide) rfl (by decide) rfl (k136_X5_allWays) gX5_rowsToShut_X5_allWays rfl hdX5_allWays (by decide) (Nat.le_of_ble_eq_true rfl) dX5_rowsToShut_23 rfl (fun r M' hp => ?_)
                                obtain ⟨rfl, rfl⟩ := hp
                                refine j_aload_n C 1 0 dX5_rowsToShut_26 rfl rfl ?_
                                refine j_callVj C (d := 1) (As := []) (st := [.long 0]) 88 (by decide) rfl (by decide) rfl (k137_X5_openWays) gX5_rowsToShut_X5_openWays rfl hdX5_openWays (by decide) (Nat.le_of_ble_eq_true rfl) dX5_rowsToShut_27 rfl (fun r M' hp => ?_)
                                obtain ⟨rfl, rfl⟩ := hp
                                refine z_lsub C 0 (by decide) dX5_rowsToShut_30 ?_
                                exact hret _ _ _ _ dX5_rowsToShut_31 (Or.inr (Or.inr (Or.inr (Or.inr (Or.inr (Or.inr (Or.inr (Or.inr (Or.inr (Or.inr (Or.inr (Or.inr (Or.inr (Or.inr (Or.inl ⟨⟨h1, h2, h3, h4, h5, h6, h7, h8, h9, h10, h11, h12, h13, h14, h15, rfl⟩, rfl, rfl⟩)))))))))))))))
                              · obtain rfl : p0 = 15 := Int32.toInt_inj.mp (show p0.toInt = (15 : Int32).toInt by rw [show (15 : Int32).toInt = 15 from rfl]; omega)
                                show jj _ _ _ _ _ _ _ _ _ _ _ _ _ _ _ _ _ _ _ (wI M0 90 0 1) 11 [(2, .int 14), (0, .ref (ad 88)), (1, .int 15)] []
                                refine j_aload_n C 1 0 dX5_rowsToShut_11 rfl rfl ?_
                                refine j_iconst C (-1) dX5_rowsToShut_12 (by decide) ?_
                                refine j_callVv C (d := 1) (As := [.int (-1)]) (st := []) 88 (by decide) rfl (by decide) rfl (k140_X5_lengthenRows) gX5_rowsToShut_X5_lengthenRows rfl hdX5_lengthenRows (by decide) (Nat.le_of_ble_eq_true rfl) dX5_rowsToShut_13 rfl (fun M' hp => ?_)
                                obtain rfl := hp
                                refine j_iinc C 0 15 [(2, .int 15), (0, .ref (ad 88)), (1, .int 15)] dX5_rowsToShut_16 rfl (by decide) (by decide) rfl ?_
                                refine j_goto C 6 dX5_rowsToShut_19 (by decide) ?_
                                refine j_iload_n C 0 2 dX5_rowsToShut_6 rfl rfl ?_
                                refine j_iload_n C 2 1 dX5_rowsToShut_7 rfl rfl ?_
                                refine j_icmp_ge_t C 22 dX5_rowsToShut_8 (by decide) (by decide) ?_
                                refine j_aload_n C 1 0 dX5_rowsToShut_22 rfl rfl ?_
                                refine j_callVj C (d := 0) (As := []) (st := []) 88 (by decide) rfl (by decide) rfl (k141_X5_allWays) gX5_rowsToShut_X5_allWays rfl hdX5_allWays (by decide) (Nat.le_of_ble_eq_true rfl) dX5_rowsToShut_23 rfl (fun r M' hp => ?_)
                                obtain ⟨rfl, rfl⟩ := hp
                                refine j_aload_n C 1 0 dX5_rowsToShut_26 rfl rfl ?_
                                refine j_callVj C (d := 1) (As := []) (st := [.long 0]) 88 (by decide) rfl (by decide) rfl (k143_X5_openWays) gX5_rowsToShut_X5_openWays rfl hdX5_openWays (by decide) (Nat.le_of_ble_eq_true rfl) dX5_rowsToShut_27 rfl (fun r M' hp => ?_)
                                obtain ⟨rfl, rfl⟩ := hp
                                refine z_lsub C 0 (by decide) dX5_rowsToShut_30 ?_
                                exact hret _ _ _ _ dX5_rowsToShut_31 (Or.inr (Or.inr (Or.inr (Or.inr (Or.inr (Or.inr (Or.inr (Or.inr (Or.inr (Or.inr (Or.inr (Or.inr (Or.inr (Or.inr (Or.inr ⟨⟨h1, h2, h3, h4, h5, h6, h7, h8, h9, h10, h11, h12, h13, h14, h15, rfl⟩, rfl, rfl⟩)))))))))))))))
set_option maxHeartbeats 4000000 in
set_option maxRecDepth 100000 in
theorem ox_endings {l : Launch} {dC : Nat → ClassId} {dI : Nat → Nat → Nat} {ad : Nat → Nat} {cA : Nat → ClassId} (p0 : Int32) : Cj l 3 yX11_endings wsX11_endings dC dI ad cA [.ref (ad 0), .int p0] M0 (fun r M' => r = fo_endings p0 ∧ MB M') := by
  refine cj_of (cc := cX11_endings) (maxL := 2) (lv := [(0, .ref (ad 0)), (1, .int p0)]) (by decide) rfl (Nat.le_of_ble_eq_true rfl) rfl ?_
  intro p e s m args below meth c A Q C hret
  refine j_iload_n C 1 1 dX11_endings_0 rfl rfl ?_
  refine z_if_lt C 10 p0.toInt rfl dX11_endings_1 (by decide) (fun h1 => ?_) (fun h1 => ?_)
  · refine j_ldc2 C (-3) dX11_endings_10 (by decide +kernel) ?_
    exact hret _ _ _ _ dX11_endings_13 ⟨by first | rfl | (unfold fo_endings; rw [if_pos (by rw [nI_toInt (by omega)]; omega), nI_clamp (by omega)]; exact hrel) | (unfold fo_endings; (repeat' split) <;> first | rfl | (exfalso; omega) | (exfalso; simp_all; done)), MB_0⟩
  · refine j_iload_n C 1 1 dX11_endings_4 rfl rfl ?_
    refine j_bipush C 15 dX11_endings_5 (by decide) ?_
    refine z_icmp_le C 14 p0.toInt 15 rfl (by decide) dX11_endings_7 (by decide) (fun h2 => ?_) (fun h2 => ?_)
    · refine j_aload_n C 0 0 dX11_endings_14 rfl rfl ?_
      refine j_getP C 10 88 fX11_endings_94 (by decide) rfl (by decide) rfl rfl dX11_endings_15 ?_
      refine j_aload_n C 0 0 dX11_endings_18 rfl rfl ?_
      refine j_getP C 10 2 fX11_endings_26 (by decide) rfl (by decide) rfl rfl dX11_endings_19 ?_
      refine j_aload_n C 0 0 dX11_endings_22 rfl rfl ?_
      refine j_getP C 10 12 fX11_endings_36 (by decide) rfl (by decide) rfl rfl dX11_endings_23 ?_
      refine j_aload_n C 0 0 dX11_endings_26 rfl rfl ?_
      refine j_getP C 10 12 fX11_endings_36 (by decide) rfl (by decide) rfl rfl dX11_endings_27 ?_
      refine j_getI C 8 0 fX11_endings_153 (by decide) rfl (by decide) rfl rfl dX11_endings_30 ?_
      refine j_callVv C (d := 2) (As := [.ref (ad 2), .ref (ad 12), .int 0]) (st := []) 88 (by decide) rfl (by decide) rfl (k110_X5_look) gX11_endings_X5_look rfl hdX5_look (by decide) (Nat.le_of_ble_eq_true rfl) dX11_endings_33 rfl (fun M' hp => ?_)
      obtain rfl := hp
      refine j_aload_n C 0 0 dX11_endings_36 rfl rfl ?_
      refine j_getP C 10 88 fX11_endings_94 (by decide) rfl (by decide) rfl rfl dX11_endings_37 ?_
      refine j_iload_n C 1 1 dX11_endings_40 rfl rfl ?_
      refine j_callVj C (d := 2) (As := [.int p0]) (st := []) 88 (by decide) rfl (by decide) rfl (k146_X5_rowsToShut p0 (by omega)) gX11_endings_X5_rowsToShut rfl hdX5_rowsToShut (by decide) (Nat.le_of_ble_eq_true rfl) dX11_endings_41 rfl (fun r M' hp => ?_)
      rcases hp with ⟨⟨h3, h4⟩, rfl, rfl⟩ | ⟨⟨h5, h6, h7⟩, rfl, rfl⟩ | ⟨⟨h8, h9, h10, h11⟩, rfl, rfl⟩ | ⟨⟨h12, h13, h14, h15, h16⟩, rfl, rfl⟩ | ⟨⟨h17, h18, h19, h20, h21, h22⟩, rfl, rfl⟩ | ⟨⟨h23, h24, h25, h26, h27, h28, h29⟩, rfl, rfl⟩ | ⟨⟨h30, h31, h32, h33, h34, h35, h36, h37⟩, rfl, rfl⟩ | ⟨⟨h38, h39, h40, h41, h42, h43, h44, h45, h46⟩, rfl, rfl⟩ | ⟨⟨h47, h48, h49, h50, h51, h52, h53, h54, h55, h56⟩, rfl, rfl⟩ | ⟨⟨h57, h58, h59, h60, h61, h62, h63, h64, h65, h66, h67⟩, rfl, rfl⟩ | ⟨⟨h68, h69, h70, h71, h72, h73, h74, h75, h76, h77, h78, h79⟩, rfl, rfl⟩ | ⟨⟨h80, h81, h82, h83, h84, h85, h86, h87, h88, h89, h90, h91, h92⟩, rfl, rfl⟩ | ⟨⟨h93, h94, h95, h96, h97, h98, h99, h100, h101, h102, h103, h104, h105, h106⟩, rfl, rfl⟩ | ⟨⟨h107, h108, h109, h110, h111, h112, h113, h114, h115, h116, h117, h118, h119, h120, h121⟩, rfl, rfl⟩ | ⟨⟨h122, h123, h124, h125, h126, h127, h128, h129, h130, h131, h132, h133, h134, h135, h136, h137⟩, rfl, rfl⟩ | ⟨⟨h138, h139, h140, h141, h142, h143, h144, h145, h146, h147, h148, h149, h150, h151, h152, h153⟩, rfl, rfl⟩
      · obtain rfl : p0 = 0 := Int32.toInt_inj.mp (show p0.toInt = (0 : Int32).toInt by rw [show (0 : Int32).toInt = 0 from rfl]; omega)
        show jj _ _ _ _ _ _ _ _ _ _ _ _ _ _ _ _ _ _ _ (wJ (wI M0 90 0 1) 92 0 1) 44 [(0, .ref (ad 0)), (1, .int 0)] [.long 1]
        exact hret _ _ _ _ dX11_endings_44 ⟨by first | rfl | (unfold fo_endings; rw [if_pos (by rw [nI_toInt (by omega)]; omega), nI_clamp (by omega)]; exact hrel) | (unfold fo_endings; (repeat' split) <;> first | rfl | (exfalso; omega) | (exfalso; simp_all; done)), (MB_J (MB_I MB_0 (by decide)) (by decide))⟩
      · obtain rfl : p0 = 1 := Int32.toInt_inj.mp (show p0.toInt = (1 : Int32).toInt by rw [show (1 : Int32).toInt = 1 from rfl]; omega)
        show jj _ _ _ _ _ _ _ _ _ _ _ _ _ _ _ _ _ _ _ (wP (wP (wJ (wI M0 90 0 1) 92 0 1) 88 4 93) 88 5 92) 44 [(0, .ref (ad 0)), (1, .int 1)] [.long 0]
        exact hret _ _ _ _ dX11_endings_44 ⟨by first | rfl | (unfold fo_endings; rw [if_pos (by rw [nI_toInt (by omega)]; omega), nI_clamp (by omega)]; exact hrel) | (unfold fo_endings; (repeat' split) <;> first | rfl | (exfalso; omega) | (exfalso; simp_all; done)), (MB_P (MB_P (MB_J (MB_I MB_0 (by decide)) (by decide)) (by decide)) (by decide))⟩
      · obtain rfl : p0 = 2 := Int32.toInt_inj.mp (show p0.toInt = (2 : Int32).toInt by rw [show (2 : Int32).toInt = 2 from rfl]; omega)
        show jj _ _ _ _ _ _ _ _ _ _ _ _ _ _ _ _ _ _ _ (wI M0 90 0 1) 44 [(0, .ref (ad 0)), (1, .int 2)] [.long 0]
        exact hret _ _ _ _ dX11_endings_44 ⟨by first | rfl | (unfold fo_endings; rw [if_pos (by rw [nI_toInt (by omega)]; omega), nI_clamp (by omega)]; exact hrel) | (unfold fo_endings; (repeat' split) <;> first | rfl | (exfalso; omega) | (exfalso; simp_all; done)), (MB_I MB_0 (by decide))⟩
      · obtain rfl : p0 = 3 := Int32.toInt_inj.mp (show p0.toInt = (3 : Int32).toInt by rw [show (3 : Int32).toInt = 3 from rfl]; omega)
        show jj _ _ _ _ _ _ _ _ _ _ _ _ _ _ _ _ _ _ _ (wP (wP (wI M0 90 0 1) 88 4 93) 88 5 92) 44 [(0, .ref (ad 0)), (1, .int 3)] [.long 0]
        exact hret _ _ _ _ dX11_endings_44 ⟨by first | rfl | (unfold fo_endings; rw [if_pos (by rw [nI_toInt (by omega)]; omega), nI_clamp (by omega)]; exact hrel) | (unfold fo_endings; (repeat' split) <;> first | rfl | (exfalso; omega) | (exfalso; simp_all; done)), (MB_P (MB_P (MB_I MB_0 (by decide)) (by decide)) (by decide))⟩
      · obtain rfl : p0 = 4 := Int32.toInt_inj.mp (show p0.toInt = (4 : Int32).toInt by rw [show (4 : Int32).toInt = 4 from rfl]; omega)
        show jj _ _ _ _ _ _ _ _ _ _ _ _ _ _ _ _ _ _ _ (wI M0 90 0 1) 44 [(0, .ref (ad 0)), (1, .int 4)] [.long 0]
        exact hret _ _ _ _ dX11_endings_44 ⟨by first | rfl | (unfold fo_endings; rw [if_pos (by rw [nI_toInt (by omega)]; omega), nI_clamp (by omega)]; exact hrel) | (unfold fo_endings; (repeat' split) <;> first | rfl | (exfalso; omega) | (exfalso; simp_all; done)), (MB_I MB_0 (by decide))⟩
      · obtain rfl : p0 = 5 := Int32.toInt_inj.mp (show p0.toInt = (5 : Int32).toInt by rw [show (5 : Int32).toInt = 5 from rfl]; omega)
        show jj _ _ _ _ _ _ _ _ _ _ _ _ _ _ _ _ _ _ _ (wP (wP (wI M0 90 0 1) 88 4 93) 88 5 92) 44 [(0, .ref (ad 0)), (1, .int 5)] [.long 0]
        exact hret _ _ _ _ dX11_endings_44 ⟨by first | rfl | (unfold fo_endings; rw [if_pos (by rw [nI_toInt (by omega)]; omega), nI_clamp (by omega)]; exact hrel) | (unfold fo_endings; (repeat' split) <;> first | rfl | (exfalso; omega) | (exfalso; simp_all; done)), (MB_P (MB_P (MB_I MB_0 (by decide)) (by decide)) (by decide))⟩
      · obtain rfl : p0 = 6 := Int32.toInt_inj.mp (show p0.toInt = (6 : Int32).toInt by rw [show (6 : Int32).toInt = 6 from rfl]; omega)
        show jj _ _ _ _ _ _ _ _ _ _ _ _ _ _ _ _ _ _ _ (wI M0 90 0 1) 44 [(0, .ref (ad 0)), (1, .int 6)] [.long 0]
        exact hret _ _ _ _ dX11_endings_44 ⟨by first | rfl | (unfold fo_endings; rw [if_pos (by rw [nI_toInt (by omega)]; omega), nI_clamp (by omega)]; exact hrel) | (unfold fo_endings; (repeat' split) <;> first | rfl | (exfalso; omega) | (exfalso; simp_all; done)), (MB_I MB_0 (by decide))⟩
      · obtain rfl : p0 = 7 := Int32.toInt_inj.mp (show p0.toInt = (7 : Int32).toInt by rw [show (7 : Int32).toInt = 7 from rfl]; omega)
        show jj _ _ _ _ _ _ _ _ _ _ _ _ _ _ _ _ _ _ _ (wP (wP (wI M0 90 0 1) 88 4 93) 88 5 92) 44 [(0, .ref (ad 0)), (1, .int 7)] [.long 0]
        exact hret _ _ _ _ dX11_endings_44 ⟨by first | rfl | (unfold fo_endings; rw [if_pos (by rw [nI_toInt (by omega)]; omega), nI_clamp (by omega)]; exact hrel) | (unfold fo_endings; (repeat' split) <;> first | rfl | (exfalso; omega) | (exfalso; simp_all; done)), (MB_P (MB_P (MB_I MB_0 (by decide)) (by decide)) (by decide))⟩
      · obtain rfl : p0 = 8 := Int32.toInt_inj.mp (show p0.toInt = (8 : Int32).toInt by rw [show (8 : Int32).toInt = 8 from rfl]; omega)
        show jj _ _ _ _ _ _ _ _ _ _ _ _ _ _ _ _ _ _ _ (wI M0 90 0 1) 44 [(0, .ref (ad 0)), (1, .int 8)] [.long 0]
        exact hret _ _ _ _ dX11_endings_44 ⟨by first | rfl | (unfold fo_endings; rw [if_pos (by rw [nI_toInt (by omega)]; omega), nI_clamp (by omega)]; exact hrel) | (unfold fo_endings; (repeat' split) <;> first | rfl | (exfalso; omega) | (exfalso; simp_all; done)), (MB_I MB_0 (by decide))⟩
      · obtain rfl : p0 = 9 := Int32.toInt_inj.mp (show p0.toInt = (9 : Int32).toInt by rw [show (9 : Int32).toInt = 9 from rfl]; omega)
        show jj _ _ _ _ _ _ _ _ _ _ _ _ _ _ _ _ _ _ _ (wP (wP (wI M0 90 0 1) 88 4 93) 88 5 92) 44 [(0, .ref (ad 0)), (1, .int 9)] [.long 0]
        exact hret _ _ _ _ dX11_endings_44 ⟨by first | rfl | (unfold fo_endings; rw [if_pos (by rw [nI_toInt (by omega)]; omega), nI_clamp (by omega)]; exact hrel) | (unfold fo_endings; (repeat' split) <;> first | rfl | (exfalso; omega) | (exfalso; simp_all; done)), (MB_P (MB_P (MB_I MB_0 (by decide)) (by decide)) (by decide))⟩
      · obtain rfl : p0 = 10 := Int32.toInt_inj.mp (show p0.toInt = (10 : Int32).toInt by rw [show (10 : Int32).toInt = 10 from rfl]; omega)
        show jj _ _ _ _ _ _ _ _ _ _ _ _ _ _ _ _ _ _ _ (wI M0 90 0 1) 44 [(0, .ref (ad 0)), (1, .int 10)] [.long 0]
        exact hret _ _ _ _ dX11_endings_44 ⟨by first | rfl | (unfold fo_endings; rw [if_pos (by rw [nI_toInt (by omega)]; omega), nI_clamp (by omega)]; exact hrel) | (unfold fo_endings; (repeat' split) <;> first | rfl | (exfalso; omega) | (exfalso; simp_all; done)), (MB_I MB_0 (by decide))⟩
      · obtain rfl : p0 = 11 := Int32.toInt_inj.mp (show p0.toInt = (11 : Int32).toInt by rw [show (11 : Int32).toInt = 11 from rfl]; omega)
        show jj _ _ _ _ _ _ _ _ _ _ _ _ _ _ _ _ _ _ _ (wP (wP (wI M0 90 0 1) 88 4 93) 88 5 92) 44 [(0, .ref (ad 0)), (1, .int 11)] [.long 0]
        exact hret _ _ _ _ dX11_endings_44 ⟨by first | rfl | (unfold fo_endings; rw [if_pos (by rw [nI_toInt (by omega)]; omega), nI_clamp (by omega)]; exact hrel) | (unfold fo_endings; (repeat' split) <;> first | rfl | (exfalso; omega) | (exfalso; simp_all; done)), (MB_P (MB_P (MB_I MB_0 (by decide)) (by decide)) (by decide))⟩
      · obtain rfl : p0 = 12 := Int32.toInt_inj.mp (show p0.toInt = (12 : Int32).toInt by rw [show (12 : Int32).toInt = 12 from rfl]; omega)
        show jj _ _ _ _ _ _ _ _ _ _ _ _ _ _ _ _ _ _ _ (wI M0 90 0 1) 44 [(0, .ref (ad 0)), (1, .int 12)] [.long 0]
        exact hret _ _ _ _ dX11_endings_44 ⟨by first | rfl | (unfold fo_endings; rw [if_pos (by rw [nI_toInt (by omega)]; omega), nI_clamp (by omega)]; exact hrel) | (unfold fo_endings; (repeat' split) <;> first | rfl | (exfalso; omega) | (exfalso; simp_all; done)), (MB_I MB_0 (by decide))⟩
      · obtain rfl : p0 = 13 := Int32.toInt_inj.mp (show p0.toInt = (13 : Int32).toInt by rw [show (13 : Int32).toInt = 13 from rfl]; omega)
        show jj _ _ _ _ _ _ _ _ _ _ _ _ _ _ _ _ _ _ _ (wP (wP (wI M0 90 0 1) 88 4 93) 88 5 92) 44 [(0, .ref (ad 0)), (1, .int 13)] [.long 0]
        exact hret _ _ _ _ dX11_endings_44 ⟨by first | rfl | (unfold fo_endings; rw [if_pos (by rw [nI_toInt (by omega)]; omega), nI_clamp (by omega)]; exact hrel) | (unfold fo_endings; (repeat' split) <;> first | rfl | (exfalso; omega) | (exfalso; simp_all; done)), (MB_P (MB_P (MB_I MB_0 (by decide)) (by decide)) (by decide))⟩
      · obtain rfl : p0 = 14 := Int32.toInt_inj.mp (show p0.toInt = (14 : Int32).toInt by rw [show (14 : Int32).toInt = 14 from rfl]; omega)
        show jj _ _ _ _ _ _ _ _ _ _ _ _ _ _ _ _ _ _ _ (wI M0 90 0 1) 44 [(0, .ref (ad 0)), (1, .int 14)] [.long 0]
        exact hret _ _ _ _ dX11_endings_44 ⟨by first | rfl | (unfold fo_endings; rw [if_pos (by rw [nI_toInt (by omega)]; omega), nI_clamp (by omega)]; exact hrel) | (unfold fo_endings; (repeat' split) <;> first | rfl | (exfalso; omega) | (exfalso; simp_all; done)), (MB_I MB_0 (by decide))⟩
      · obtain rfl : p0 = 15 := Int32.toInt_inj.mp (show p0.toInt = (15 : Int32).toInt by rw [show (15 : Int32).toInt = 15 from rfl]; omega)
        show jj _ _ _ _ _ _ _ _ _ _ _ _ _ _ _ _ _ _ _ (wP (wP (wI M0 90 0 1) 88 4 93) 88 5 92) 44 [(0, .ref (ad 0)), (1, .int 15)] [.long 0]
        exact hret _ _ _ _ dX11_endings_44 ⟨by first | rfl | (unfold fo_endings; rw [if_pos (by rw [nI_toInt (by omega)]; omega), nI_clamp (by omega)]; exact hrel) | (unfold fo_endings; (repeat' split) <;> first | rfl | (exfalso; omega) | (exfalso; simp_all; done)), (MB_P (MB_P (MB_I MB_0 (by decide)) (by decide)) (by decide))⟩
    · refine j_ldc2 C (-3) dX11_endings_10 (by decide +kernel) ?_
      exact hret _ _ _ _ dX11_endings_13 ⟨by first | rfl | (unfold fo_endings; rw [if_pos (by rw [nI_toInt (by omega)]; omega), nI_clamp (by omega)]; exact hrel) | (unfold fo_endings; (repeat' split) <;> first | rfl | (exfalso; omega) | (exfalso; simp_all; done)), MB_0⟩
set_option maxHeartbeats 4000000 in
set_option maxRecDepth 100000 in
theorem k163_X5_neededBuyers {l : Launch} {dC : Nat → ClassId} {dI : Nat → Nat → Nat} {ad : Nat → Nat} {cA : Nat → ClassId} : Ci l 2 yX5_neededBuyers wsX5_neededBuyers dC dI ad cA [.ref (ad 88)] (wI M0 90 0 1) (fun r M' => 0 = r ∧ (wI M0 90 0 1) = M') := by
  refine ci_of (cc := cX5_neededBuyers) (maxL := 4) (ty := .int) (lv := [(0, .ref (ad 88))]) (by decide) rfl (fun r M' hp => rfl) (Nat.le_of_ble_eq_true rfl) rfl ?_
  intro p e s m args below meth c A Q C hret
  refine j_iconst C 0 dX5_neededBuyers_0 (by decide) ?_
  refine j_istore_n C 1 [(1, .int 0), (0, .ref (ad 88))] dX5_neededBuyers_1 rfl (by decide) rfl ?_
  refine j_iconst C 1 dX5_neededBuyers_2 (by decide) ?_
  refine j_aload_n C 1 0 dX5_neededBuyers_3 rfl rfl ?_
  refine j_getP C 4 2 fX5_neededBuyers_52 (by decide) rfl (by decide) rfl rfl dX5_neededBuyers_4 ?_
  refine j_getI C 6 0 fX5_neededBuyers_92 (by decide) rfl (by decide) rfl rfl dX5_neededBuyers_7 ?_
  refine z_ishl C 1 (by decide) dX5_neededBuyers_10 ?_
  refine j_iconst C 1 dX5_neededBuyers_11 (by decide) ?_
  refine z_isub C 0 (by decide) dX5_neededBuyers_12 ?_
  refine j_istore_n C 2 [(2, .int 0), (1, .int 0), (0, .ref (ad 88))] dX5_neededBuyers_13 rfl (by decide) rfl ?_
  refine j_aload_n C 2 0 dX5_neededBuyers_14 rfl rfl ?_
  refine j_iload_n C 0 2 dX5_neededBuyers_15 rfl rfl ?_
  refine j_callVi C (d := 1) (As := [.int 0]) (st := []) 88 (by decide) rfl (by decide) rfl (k112_X5_measure) gX5_neededBuyers_X5_measure rfl hdX5_measure (by decide) (Nat.le_of_ble_eq_true rfl) dX5_neededBuyers_16 rfl (fun r M' hp => ?_)
  obtain ⟨rfl, rfl⟩ := hp
  refine j_iconst C (-1) dX5_neededBuyers_19 (by decide) ?_
  refine j_icmp_ne_t C 25 dX5_neededBuyers_20 (by decide) (by decide) ?_
  refine j_iconst C 0 dX5_neededBuyers_25 (by decide) ?_
  refine j_istore_n C 3 [(3, .int 0), (2, .int 0), (1, .int 0), (0, .ref (ad 88))] dX5_neededBuyers_26 rfl (by decide) rfl ?_
  refine j_iload_n C 0 3 dX5_neededBuyers_27 rfl rfl ?_
  refine j_aload_n C 3 0 dX5_neededBuyers_28 rfl rfl ?_
  refine j_getP C 4 2 fX5_neededBuyers_52 (by decide) rfl (by decide) rfl rfl dX5_neededBuyers_29 ?_
  refine j_getI C 6 0 fX5_neededBuyers_92 (by decide) rfl (by decide) rfl rfl dX5_neededBuyers_32 ?_
  refine j_icmp_ge_t C 65 dX5_neededBuyers_35 (by decide) (by decide) ?_
  refine j_iload_n C 2 1 dX5_neededBuyers_65 rfl rfl ?_
  exact hret _ _ _ _ dX5_neededBuyers_66 ⟨rfl, rfl⟩
set_option maxHeartbeats 4000000 in
set_option maxRecDepth 100000 in
theorem ox_needed {l : Launch} {dC : Nat → ClassId} {dI : Nat → Nat → Nat} {ad : Nat → Nat} {cA : Nat → ClassId} : Ci l 3 yX11_needed wsX11_needed dC dI ad cA [.ref (ad 0)] M0 (fun r M' => r = fo_needed ∧ MB M') := by
  refine ci_of (cc := cX11_needed) (maxL := 1) (ty := .int) (lv := [(0, .ref (ad 0))]) (by decide) rfl (fun r M' hp => rfl) (Nat.le_of_ble_eq_true rfl) rfl ?_
  intro p e s m args below meth c A Q C hret
  refine j_aload_n C 0 0 dX11_needed_0 rfl rfl ?_
  refine j_getP C 10 88 fX11_needed_94 (by decide) rfl (by decide) rfl rfl dX11_needed_1 ?_
  refine j_aload_n C 0 0 dX11_needed_4 rfl rfl ?_
  refine j_getP C 10 2 fX11_needed_26 (by decide) rfl (by decide) rfl rfl dX11_needed_5 ?_
  refine j_aload_n C 0 0 dX11_needed_8 rfl rfl ?_
  refine j_getP C 10 12 fX11_needed_36 (by decide) rfl (by decide) rfl rfl dX11_needed_9 ?_
  refine j_aload_n C 0 0 dX11_needed_12 rfl rfl ?_
  refine j_getP C 10 12 fX11_needed_36 (by decide) rfl (by decide) rfl rfl dX11_needed_13 ?_
  refine j_getI C 8 0 fX11_needed_153 (by decide) rfl (by decide) rfl rfl dX11_needed_16 ?_
  refine j_callVv C (d := 2) (As := [.ref (ad 2), .ref (ad 12), .int 0]) (st := []) 88 (by decide) rfl (by decide) rfl (k110_X5_look) gX11_needed_X5_look rfl hdX5_look (by decide) (Nat.le_of_ble_eq_true rfl) dX11_needed_19 rfl (fun M' hp => ?_)
  obtain rfl := hp
  refine j_aload_n C 0 0 dX11_needed_22 rfl rfl ?_
  refine j_getP C 10 88 fX11_needed_94 (by decide) rfl (by decide) rfl rfl dX11_needed_23 ?_
  refine j_callVi C (d := 2) (As := []) (st := []) 88 (by decide) rfl (by decide) rfl (k163_X5_neededBuyers) gX11_needed_X5_neededBuyers rfl hdX5_neededBuyers (by decide) (Nat.le_of_ble_eq_true rfl) dX11_needed_26 rfl (fun r M' hp => ?_)
  obtain ⟨rfl, rfl⟩ := hp
  exact hret _ _ _ _ dX11_needed_29 ⟨by first | rfl | (unfold fo_needed; rw [if_pos (by rw [nI_toInt (by omega)]; omega), nI_clamp (by omega)]; exact hrel) | (unfold fo_needed; (repeat' split) <;> first | rfl | (exfalso; omega) | (exfalso; simp_all; done)), (MB_I MB_0 (by decide))⟩
set_option maxHeartbeats 4000000 in
set_option maxRecDepth 100000 in
theorem k166_X5_everSold {l : Launch} {dC : Nat → ClassId} {dI : Nat → Nat → Nat} {ad : Nat → Nat} {cA : Nat → ClassId} : Ci l 0 yX5_everSold wsX5_everSold dC dI ad cA [.ref (ad 88)] (wI M0 90 0 1) (fun r M' => 0 = r ∧ (wI M0 90 0 1) = M') := by
  refine ci_of (cc := cX5_everSold) (maxL := 3) (ty := .int) (lv := [(0, .ref (ad 88))]) (by decide) rfl (fun r M' hp => rfl) (Nat.le_of_ble_eq_true rfl) rfl ?_
  intro p e s m args below meth c A Q C hret
  refine j_aload_n C 0 0 dX5_everSold_0 rfl rfl ?_
  refine j_getI C 4 0 fX5_everSold_45 (by decide) rfl (by decide) rfl rfl dX5_everSold_1 ?_
  refine j_istore_n C 1 [(1, .int 0), (0, .ref (ad 88))] dX5_everSold_4 rfl (by decide) rfl ?_
  refine j_aload_n C 1 0 dX5_everSold_5 rfl rfl ?_
  refine j_getI C 4 0 fX5_everSold_45 (by decide) rfl (by decide) rfl rfl dX5_everSold_6 ?_
  refine j_istore_n C 2 [(2, .int 0), (1, .int 0), (0, .ref (ad 88))] dX5_everSold_9 rfl (by decide) rfl ?_
  refine j_iload_n C 0 2 dX5_everSold_10 rfl rfl ?_
  refine j_aload_n C 2 0 dX5_everSold_11 rfl rfl ?_
  refine j_getI C 4 0 fX5_everSold_38 (by decide) rfl (by decide) rfl rfl dX5_everSold_12 ?_
  refine j_icmp_gt_f C 42 dX5_everSold_15 (by decide) (by decide) ?_
  refine j_iload_n C 1 1 dX5_everSold_18 rfl rfl ?_
  refine j_aload_n C 2 0 dX5_everSold_19 rfl rfl ?_
  refine j_getP C 4 90 fX5_everSold_15 (by decide) rfl (by decide) rfl rfl dX5_everSold_20 ?_
  refine j_iload_n C 0 2 dX5_everSold_23 rfl rfl ?_
  refine x_iald C 0 256 1 (by decide) rfl rfl rfl (by decide) (by decide) rfl dX5_everSold_24 ?_
  refine j_iconst C 1 dX5_everSold_25 (by decide) ?_
  refine j_icmp_ne_f C 33 dX5_everSold_26 (by decide) (by decide) ?_
  refine j_iload_n C 0 2 dX5_everSold_29 rfl rfl ?_
  refine j_goto C 34 dX5_everSold_30 (by decide) ?_
  refine z_ior C 0 (by decide) dX5_everSold_34 ?_
  refine j_istore_n C 1 [(1, .int 0), (2, .int 0), (0, .ref (ad 88))] dX5_everSold_35 rfl (by decide) rfl ?_
  refine j_iinc C 1 1 [(2, .int 1), (1, .int 0), (0, .ref (ad 88))] dX5_everSold_36 rfl (by decide) (by decide) rfl ?_
  refine j_goto C 10 dX5_everSold_39 (by decide) ?_
  refine j_iload_n C 0 2 dX5_everSold_10 rfl rfl ?_
  refine j_aload_n C 2 0 dX5_everSold_11 rfl rfl ?_
  refine j_getI C 4 0 fX5_everSold_38 (by decide) rfl (by decide) rfl rfl dX5_everSold_12 ?_
  refine j_icmp_gt_t C 42 dX5_everSold_15 (by decide) (by decide) ?_
  refine j_iload_n C 1 1 dX5_everSold_42 rfl rfl ?_
  exact hret _ _ _ _ dX5_everSold_43 ⟨rfl, rfl⟩
set_option maxHeartbeats 4000000 in
set_option maxRecDepth 100000 in
theorem ox_sellable {l : Launch} {dC : Nat → ClassId} {dI : Nat → Nat → Nat} {ad : Nat → Nat} {cA : Nat → ClassId} : Ci l 3 yX11_sellable wsX11_sellable dC dI ad cA [.ref (ad 0)] M0 (fun r M' => r = fo_sellable ∧ MB M') := by
  refine ci_of (cc := cX11_sellable) (maxL := 1) (ty := .int) (lv := [(0, .ref (ad 0))]) (by decide) rfl (fun r M' hp => rfl) (Nat.le_of_ble_eq_true rfl) rfl ?_
  intro p e s m args below meth c A Q C hret
  refine j_aload_n C 0 0 dX11_sellable_0 rfl rfl ?_
  refine j_getP C 10 88 fX11_sellable_94 (by decide) rfl (by decide) rfl rfl dX11_sellable_1 ?_
  refine j_aload_n C 0 0 dX11_sellable_4 rfl rfl ?_
  refine j_getP C 10 2 fX11_sellable_26 (by decide) rfl (by decide) rfl rfl dX11_sellable_5 ?_
  refine j_aload_n C 0 0 dX11_sellable_8 rfl rfl ?_
  refine j_getP C 10 12 fX11_sellable_36 (by decide) rfl (by decide) rfl rfl dX11_sellable_9 ?_
  refine j_aload_n C 0 0 dX11_sellable_12 rfl rfl ?_
  refine j_getP C 10 12 fX11_sellable_36 (by decide) rfl (by decide) rfl rfl dX11_sellable_13 ?_
  refine j_getI C 8 0 fX11_sellable_153 (by decide) rfl (by decide) rfl rfl dX11_sellable_16 ?_
  refine j_callVv C (d := 2) (As := [.ref (ad 2), .ref (ad 12), .int 0]) (st := []) 88 (by decide) rfl (by decide) rfl (k110_X5_look) gX11_sellable_X5_look rfl hdX5_look (by decide) (Nat.le_of_ble_eq_true rfl) dX11_sellable_19 rfl (fun M' hp => ?_)
  obtain rfl := hp
  refine j_aload_n C 0 0 dX11_sellable_22 rfl rfl ?_
  refine j_getP C 10 88 fX11_sellable_94 (by decide) rfl (by decide) rfl rfl dX11_sellable_23 ?_
  refine j_callVi C (d := 0) (As := []) (st := []) 88 (by decide) rfl (by decide) rfl (k166_X5_everSold) gX11_sellable_X5_everSold rfl hdX5_everSold (by decide) (Nat.le_of_ble_eq_true rfl) dX11_sellable_26 rfl (fun r M' hp => ?_)
  obtain ⟨rfl, rfl⟩ := hp
  exact hret _ _ _ _ dX11_sellable_29 ⟨by first | rfl | (unfold fo_sellable; rw [if_pos (by rw [nI_toInt (by omega)]; omega), nI_clamp (by omega)]; exact hrel) | (unfold fo_sellable; (repeat' split) <;> first | rfl | (exfalso; omega) | (exfalso; simp_all; done)), (MB_I MB_0 (by decide))⟩
set_option maxHeartbeats 4000000 in
set_option maxRecDepth 100000 in
theorem ox_guards {l : Launch} {dC : Nat → ClassId} {dI : Nat → Nat → Nat} {ad : Nat → Nat} {cA : Nat → ClassId} : Ci l 3 yX11_guards wsX11_guards dC dI ad cA [.ref (ad 0)] M0 (fun r M' => r = fo_guards ∧ MB M') := by
  refine ci_of (cc := cX11_guards) (maxL := 3) (ty := .int) (lv := [(0, .ref (ad 0))]) (by decide) rfl (fun r M' hp => rfl) (Nat.le_of_ble_eq_true rfl) rfl ?_
  intro p e s m args below meth c A Q C hret
  refine j_iconst C 0 dX11_guards_0 (by decide) ?_
  refine j_istore_n C 1 [(1, .int 0), (0, .ref (ad 0))] dX11_guards_1 rfl (by decide) rfl ?_
  refine j_aload_n C 1 0 dX11_guards_2 rfl rfl ?_
  refine j_getP C 10 88 fX11_guards_94 (by decide) rfl (by decide) rfl rfl dX11_guards_3 ?_
  refine j_aload_n C 1 0 dX11_guards_6 rfl rfl ?_
  refine j_getP C 10 2 fX11_guards_26 (by decide) rfl (by decide) rfl rfl dX11_guards_7 ?_
  refine j_aload_n C 1 0 dX11_guards_10 rfl rfl ?_
  refine j_getP C 10 12 fX11_guards_36 (by decide) rfl (by decide) rfl rfl dX11_guards_11 ?_
  refine j_aload_n C 1 0 dX11_guards_14 rfl rfl ?_
  refine j_getP C 10 12 fX11_guards_36 (by decide) rfl (by decide) rfl rfl dX11_guards_15 ?_
  refine j_getI C 8 0 fX11_guards_153 (by decide) rfl (by decide) rfl rfl dX11_guards_18 ?_
  refine j_callVv C (d := 2) (As := [.ref (ad 2), .ref (ad 12), .int 0]) (st := []) 88 (by decide) rfl (by decide) rfl (k110_X5_look) gX11_guards_X5_look rfl hdX5_look (by decide) (Nat.le_of_ble_eq_true rfl) dX11_guards_21 rfl (fun M' hp => ?_)
  obtain rfl := hp
  refine j_aload_n C 1 0 dX11_guards_24 rfl rfl ?_
  refine j_getP C 10 88 fX11_guards_94 (by decide) rfl (by decide) rfl rfl dX11_guards_25 ?_
  refine j_callVi C (d := 2) (As := []) (st := []) 88 (by decide) rfl (by decide) rfl (k113_X5_shortest) gX11_guards_X5_shortest rfl hdX5_shortest (by decide) (Nat.le_of_ble_eq_true rfl) dX11_guards_28 rfl (fun r M' hp => ?_)
  obtain ⟨rfl, rfl⟩ := hp
  refine j_iconst C (-1) dX11_guards_31 (by decide) ?_
  refine j_icmp_ne_t C 37 dX11_guards_32 (by decide) (by decide) ?_
  refine j_iconst C 0 dX11_guards_37 (by decide) ?_
  refine j_istore_n C 2 [(2, .int 0), (1, .int 0), (0, .ref (ad 0))] dX11_guards_38 rfl (by decide) rfl ?_
  refine j_iload_n C 0 2 dX11_guards_39 rfl rfl ?_
  refine j_aload_n C 2 0 dX11_guards_40 rfl rfl ?_
  refine j_getP C 10 12 fX11_guards_36 (by decide) rfl (by decide) rfl rfl dX11_guards_41 ?_
  refine j_getI C 8 0 fX11_guards_160 (by decide) rfl (by decide) rfl rfl dX11_guards_44 ?_
  refine j_icmp_ge_t C 117 dX11_guards_47 (by decide) (by decide) ?_
  refine j_iload_n C 1 1 dX11_guards_117 rfl rfl ?_
  exact hret _ _ _ _ dX11_guards_118 ⟨by first | rfl | (unfold fo_guards; rw [if_pos (by rw [nI_toInt (by omega)]; omega), nI_clamp (by omega)]; exact hrel) | (unfold fo_guards; (repeat' split) <;> first | rfl | (exfalso; omega) | (exfalso; simp_all; done)), (MB_I MB_0 (by decide))⟩
set_option maxHeartbeats 4000000 in
set_option maxRecDepth 100000 in
theorem k173_J6_bitCount_0f7a4 {l : Launch} {dC : Nat → ClassId} {dI : Nat → Nat → Nat} {ad : Nat → Nat} {cA : Nat → ClassId} : Ci l 0 yJ6_bitCount_0f7a4 wsJ6_bitCount_0f7a4 dC dI ad cA [.int 0] (wI M0 90 0 1) (fun r M' => 0 = r ∧ (wI M0 90 0 1) = M') := by
  refine ci_of (cc := cJ6_bitCount_0f7a4) (maxL := 1) (ty := .int) (lv := [(0, .int 0)]) (by decide) rfl (fun r M' hp => rfl) (Nat.le_of_ble_eq_true rfl) rfl ?_
  intro p e s m args below meth c A Q C hret
  refine j_iload_n C 0 0 dJ6_bitCount_0f7a4_0 rfl rfl ?_
  refine j_iload_n C 0 0 dJ6_bitCount_0f7a4_1 rfl rfl ?_
  refine j_iconst C 1 dJ6_bitCount_0f7a4_2 (by decide) ?_
  refine z_iushr C 0 (by decide) dJ6_bitCount_0f7a4_3 ?_
  refine j_ldcw C 1431655765 dJ6_bitCount_0f7a4_4 (by decide +kernel) ?_
  refine z_iand C 0 (by decide) dJ6_bitCount_0f7a4_7 ?_
  refine z_isub C 0 (by decide) dJ6_bitCount_0f7a4_8 ?_
  refine j_istore_n C 0 [(0, .int 0)] dJ6_bitCount_0f7a4_9 rfl (by decide) rfl ?_
  refine j_iload_n C 0 0 dJ6_bitCount_0f7a4_10 rfl rfl ?_
  refine j_ldcw C 858993459 dJ6_bitCount_0f7a4_11 (by decide +kernel) ?_
  refine z_iand C 0 (by decide) dJ6_bitCount_0f7a4_14 ?_
  refine j_iload_n C 0 0 dJ6_bitCount_0f7a4_15 rfl rfl ?_
  refine j_iconst C 2 dJ6_bitCount_0f7a4_16 (by decide) ?_
  refine z_iushr C 0 (by decide) dJ6_bitCount_0f7a4_17 ?_
  refine j_ldcw C 858993459 dJ6_bitCount_0f7a4_18 (by decide +kernel) ?_
  refine z_iand C 0 (by decide) dJ6_bitCount_0f7a4_21 ?_
  refine z_iadd C 0 (by decide) dJ6_bitCount_0f7a4_22 ?_
  refine j_istore_n C 0 [(0, .int 0)] dJ6_bitCount_0f7a4_23 rfl (by decide) rfl ?_
  refine j_iload_n C 0 0 dJ6_bitCount_0f7a4_24 rfl rfl ?_
  refine j_iload_n C 0 0 dJ6_bitCount_0f7a4_25 rfl rfl ?_
  refine j_iconst C 4 dJ6_bitCount_0f7a4_26 (by decide) ?_
  refine z_iushr C 0 (by decide) dJ6_bitCount_0f7a4_27 ?_
  refine z_iadd C 0 (by decide) dJ6_bitCount_0f7a4_28 ?_
  refine j_ldcw C 252645135 dJ6_bitCount_0f7a4_29 (by decide +kernel) ?_
  refine z_iand C 0 (by decide) dJ6_bitCount_0f7a4_32 ?_
  refine j_istore_n C 0 [(0, .int 0)] dJ6_bitCount_0f7a4_33 rfl (by decide) rfl ?_
  refine j_iload_n C 0 0 dJ6_bitCount_0f7a4_34 rfl rfl ?_
  refine j_iload_n C 0 0 dJ6_bitCount_0f7a4_35 rfl rfl ?_
  refine j_bipush C 8 dJ6_bitCount_0f7a4_36 (by decide) ?_
  refine z_iushr C 0 (by decide) dJ6_bitCount_0f7a4_38 ?_
  refine z_iadd C 0 (by decide) dJ6_bitCount_0f7a4_39 ?_
  refine j_istore_n C 0 [(0, .int 0)] dJ6_bitCount_0f7a4_40 rfl (by decide) rfl ?_
  refine j_iload_n C 0 0 dJ6_bitCount_0f7a4_41 rfl rfl ?_
  refine j_iload_n C 0 0 dJ6_bitCount_0f7a4_42 rfl rfl ?_
  refine j_bipush C 16 dJ6_bitCount_0f7a4_43 (by decide) ?_
  refine z_iushr C 0 (by decide) dJ6_bitCount_0f7a4_45 ?_
  refine z_iadd C 0 (by decide) dJ6_bitCount_0f7a4_46 ?_
  refine j_istore_n C 0 [(0, .int 0)] dJ6_bitCount_0f7a4_47 rfl (by decide) rfl ?_
  refine j_iload_n C 0 0 dJ6_bitCount_0f7a4_48 rfl rfl ?_
  refine j_bipush C 63 dJ6_bitCount_0f7a4_49 (by decide) ?_
  refine z_iand C 0 (by decide) dJ6_bitCount_0f7a4_51 ?_
  exact hret _ _ _ _ dJ6_bitCount_0f7a4_52 ⟨rfl, rfl⟩
set_option maxHeartbeats 4000000 in
set_option maxRecDepth 100000 in
theorem k174_X5_lastLeft {l : Launch} {dC : Nat → ClassId} {dI : Nat → Nat → Nat} {ad : Nat → Nat} {cA : Nat → ClassId} : Ci l 1 yX5_lastLeft wsX5_lastLeft dC dI ad cA [.ref (ad 88)] (wI M0 90 0 1) (fun r M' => 0 = r ∧ (wI M0 90 0 1) = M') := by
  refine ci_of (cc := cX5_lastLeft) (maxL := 4) (ty := .int) (lv := [(0, .ref (ad 88))]) (by decide) rfl (fun r M' hp => rfl) (Nat.le_of_ble_eq_true rfl) rfl ?_
  intro p e s m args below meth c A Q C hret
  refine j_iconst C 0 dX5_lastLeft_0 (by decide) ?_
  refine j_istore_n C 1 [(1, .int 0), (0, .ref (ad 88))] dX5_lastLeft_1 rfl (by decide) rfl ?_
  refine j_aload_n C 1 0 dX5_lastLeft_2 rfl rfl ?_
  refine j_getI C 4 0 fX5_lastLeft_45 (by decide) rfl (by decide) rfl rfl dX5_lastLeft_3 ?_
  refine j_istore_n C 2 [(2, .int 0), (1, .int 0), (0, .ref (ad 88))] dX5_lastLeft_6 rfl (by decide) rfl ?_
  refine j_iload_n C 0 2 dX5_lastLeft_7 rfl rfl ?_
  refine j_aload_n C 2 0 dX5_lastLeft_8 rfl rfl ?_
  refine j_getI C 4 0 fX5_lastLeft_38 (by decide) rfl (by decide) rfl rfl dX5_lastLeft_9 ?_
  refine j_icmp_gt_f C 52 dX5_lastLeft_12 (by decide) (by decide) ?_
  refine j_aload_n C 2 0 dX5_lastLeft_15 rfl rfl ?_
  refine j_getI C 4 0 fX5_lastLeft_42 (by decide) rfl (by decide) rfl rfl dX5_lastLeft_16 ?_
  refine j_iload_n C 0 2 dX5_lastLeft_19 rfl rfl ?_
  refine j_iconst C (-1) dX5_lastLeft_20 (by decide) ?_
  refine z_ixor C (-1) (by decide) dX5_lastLeft_21 ?_
  refine z_iand C 0 (by decide) dX5_lastLeft_22 ?_
  refine j_istore_n C 3 [(3, .int 0), (2, .int 0), (1, .int 0), (0, .ref (ad 88))] dX5_lastLeft_23 rfl (by decide) rfl ?_
  refine j_aload_n C 3 0 dX5_lastLeft_24 rfl rfl ?_
  refine j_getP C 4 90 fX5_lastLeft_15 (by decide) rfl (by decide) rfl rfl dX5_lastLeft_25 ?_
  refine j_iload_n C 1 2 dX5_lastLeft_28 rfl rfl ?_
  refine x_iald C 0 256 1 (by decide) rfl rfl rfl (by decide) (by decide) rfl dX5_lastLeft_29 ?_
  refine j_iconst C 1 dX5_lastLeft_30 (by decide) ?_
  refine j_icmp_ne_f C 46 dX5_lastLeft_31 (by decide) (by decide) ?_
  refine j_iload_n C 0 3 dX5_lastLeft_34 rfl rfl ?_
  refine j_callSi C (d := 0) (As := [.int 0]) (st := []) (k173_J6_bitCount_0f7a4) gX5_lastLeft_J6_bitCount_0f7a4 rfl hdJ6_bitCount_0f7a4s (by decide) (Nat.le_of_ble_eq_true rfl) dX5_lastLeft_35 rfl (fun r M' hp => ?_)
  obtain ⟨rfl, rfl⟩ := hp
  refine j_iconst C 1 dX5_lastLeft_38 (by decide) ?_
  refine j_icmp_ne_t C 46 dX5_lastLeft_39 (by decide) (by decide) ?_
  refine j_iinc C 1 1 [(2, .int 1), (3, .int 0), (1, .int 0), (0, .ref (ad 88))] dX5_lastLeft_46 rfl (by decide) (by decide) rfl ?_
  refine j_goto C 7 dX5_lastLeft_49 (by decide) ?_
  refine j_iload_n C 0 2 dX5_lastLeft_7 rfl rfl ?_
  refine j_aload_n C 3 0 dX5_lastLeft_8 rfl rfl ?_
  refine j_getI C 4 0 fX5_lastLeft_38 (by decide) rfl (by decide) rfl rfl dX5_lastLeft_9 ?_
  refine j_icmp_gt_t C 52 dX5_lastLeft_12 (by decide) (by decide) ?_
  refine j_iload_n C 2 1 dX5_lastLeft_52 rfl rfl ?_
  exact hret _ _ _ _ dX5_lastLeft_53 ⟨rfl, rfl⟩
set_option maxHeartbeats 4000000 in
set_option maxRecDepth 100000 in
theorem ox_last {l : Launch} {dC : Nat → ClassId} {dI : Nat → Nat → Nat} {ad : Nat → Nat} {cA : Nat → ClassId} : Ci l 3 yX11_last wsX11_last dC dI ad cA [.ref (ad 0)] M0 (fun r M' => r = fo_last ∧ MB M') := by
  refine ci_of (cc := cX11_last) (maxL := 1) (ty := .int) (lv := [(0, .ref (ad 0))]) (by decide) rfl (fun r M' hp => rfl) (Nat.le_of_ble_eq_true rfl) rfl ?_
  intro p e s m args below meth c A Q C hret
  refine j_aload_n C 0 0 dX11_last_0 rfl rfl ?_
  refine j_getP C 10 88 fX11_last_94 (by decide) rfl (by decide) rfl rfl dX11_last_1 ?_
  refine j_aload_n C 0 0 dX11_last_4 rfl rfl ?_
  refine j_getP C 10 2 fX11_last_26 (by decide) rfl (by decide) rfl rfl dX11_last_5 ?_
  refine j_aload_n C 0 0 dX11_last_8 rfl rfl ?_
  refine j_getP C 10 12 fX11_last_36 (by decide) rfl (by decide) rfl rfl dX11_last_9 ?_
  refine j_aload_n C 0 0 dX11_last_12 rfl rfl ?_
  refine j_getP C 10 12 fX11_last_36 (by decide) rfl (by decide) rfl rfl dX11_last_13 ?_
  refine j_getI C 8 0 fX11_last_153 (by decide) rfl (by decide) rfl rfl dX11_last_16 ?_
  refine j_callVv C (d := 2) (As := [.ref (ad 2), .ref (ad 12), .int 0]) (st := []) 88 (by decide) rfl (by decide) rfl (k110_X5_look) gX11_last_X5_look rfl hdX5_look (by decide) (Nat.le_of_ble_eq_true rfl) dX11_last_19 rfl (fun M' hp => ?_)
  obtain rfl := hp
  refine j_aload_n C 0 0 dX11_last_22 rfl rfl ?_
  refine j_getP C 10 88 fX11_last_94 (by decide) rfl (by decide) rfl rfl dX11_last_23 ?_
  refine j_callVi C (d := 1) (As := []) (st := []) 88 (by decide) rfl (by decide) rfl (k174_X5_lastLeft) gX11_last_X5_lastLeft rfl hdX5_lastLeft (by decide) (Nat.le_of_ble_eq_true rfl) dX11_last_26 rfl (fun r M' hp => ?_)
  obtain ⟨rfl, rfl⟩ := hp
  exact hret _ _ _ _ dX11_last_29 ⟨by first | rfl | (unfold fo_last; rw [if_pos (by rw [nI_toInt (by omega)]; omega), nI_clamp (by omega)]; exact hrel) | (unfold fo_last; (repeat' split) <;> first | rfl | (exfalso; omega) | (exfalso; simp_all; done)), (MB_I MB_0 (by decide))⟩
set_option maxHeartbeats 4000000 in
set_option maxRecDepth 100000 in
theorem k179_X11_chanceRefusal {l : Launch} {dC : Nat → ClassId} {dI : Nat → Nat → Nat} {ad : Nat → Nat} {cA : Nat → ClassId} (p0 : Int32) (p1 : Int32) : Ci l 0 yX11_chanceRefusal wsX11_chanceRefusal dC dI ad cA [.int p0, .int p1, .int 10] M0 (fun r M' => ((p0.toInt < 0) ∧ (-2) = r ∧ M0 = M') ∨ ((¬ p0.toInt < 0 ∧ p0.toInt ≤ 1 ∧ p1.toInt < 0) ∧ (-3) = r ∧ M0 = M') ∨ ((¬ p0.toInt < 0 ∧ p0.toInt ≤ 1 ∧ ¬ p1.toInt < 0 ∧ p1.toInt ≤ 10) ∧ 0 = r ∧ M0 = M') ∨ ((¬ p0.toInt < 0 ∧ p0.toInt ≤ 1 ∧ ¬ p1.toInt < 0 ∧ ¬ p1.toInt ≤ 10) ∧ (-3) = r ∧ M0 = M') ∨ ((¬ p0.toInt < 0 ∧ ¬ p0.toInt ≤ 1) ∧ (-2) = r ∧ M0 = M')) := by
  refine ci_of (cc := cX11_chanceRefusal) (maxL := 3) (ty := .int) (lv := [(0, .int p0), (1, .int p1), (2, .int 10)]) (by decide) rfl (fun r M' hp => rfl) (Nat.le_of_ble_eq_true rfl) rfl ?_
  intro p e s m args below meth c A Q C hret
  refine j_iload_n C 0 0 dX11_chanceRefusal_0 rfl rfl ?_
  refine z_if_lt C 9 p0.toInt rfl dX11_chanceRefusal_1 (by decide) (fun h1 => ?_) (fun h1 => ?_)
  · refine j_bipush C (-2) dX11_chanceRefusal_9 (by decide) ?_
    exact hret _ _ _ _ dX11_chanceRefusal_11 (Or.inl ⟨h1, rfl, rfl⟩)
  · refine j_iload_n C 0 0 dX11_chanceRefusal_4 rfl rfl ?_
    refine j_iconst C 1 dX11_chanceRefusal_5 (by decide) ?_
    refine z_icmp_le C 12 p0.toInt 1 rfl (by decide) dX11_chanceRefusal_6 (by decide) (fun h2 => ?_) (fun h2 => ?_)
    · refine j_iload_n C 1 1 dX11_chanceRefusal_12 rfl rfl ?_
      refine z_if_lt C 21 p1.toInt rfl dX11_chanceRefusal_13 (by decide) (fun h3 => ?_) (fun h3 => ?_)
      · refine j_bipush C (-3) dX11_chanceRefusal_21 (by decide) ?_
        refine j_goto C 27 dX11_chanceRefusal_23 (by decide) ?_
        exact hret _ _ _ _ dX11_chanceRefusal_27 (Or.inr (Or.inl ⟨⟨h1, h2, h3⟩, rfl, rfl⟩))
      · refine j_iload_n C 1 1 dX11_chanceRefusal_16 rfl rfl ?_
        refine j_iload_n C 2 2 dX11_chanceRefusal_17 rfl rfl ?_
        refine z_icmp_le C 26 p1.toInt 10 rfl (by decide) dX11_chanceRefusal_18 (by decide) (fun h4 => ?_) (fun h4 => ?_)
        · refine j_iconst C 0 dX11_chanceRefusal_26 (by decide) ?_
          exact hret _ _ _ _ dX11_chanceRefusal_27 (Or.inr (Or.inr (Or.inl ⟨⟨h1, h2, h3, h4⟩, rfl, rfl⟩)))
        · refine j_bipush C (-3) dX11_chanceRefusal_21 (by decide) ?_
          refine j_goto C 27 dX11_chanceRefusal_23 (by decide) ?_
          exact hret _ _ _ _ dX11_chanceRefusal_27 (Or.inr (Or.inr (Or.inr (Or.inl ⟨⟨h1, h2, h3, h4⟩, rfl, rfl⟩))))
    · refine j_bipush C (-2) dX11_chanceRefusal_9 (by decide) ?_
      exact hret _ _ _ _ dX11_chanceRefusal_11 (Or.inr (Or.inr (Or.inr (Or.inr ⟨⟨h1, h2⟩, rfl, rfl⟩))))
set_option maxHeartbeats 4000000 in
set_option maxRecDepth 100000 in
theorem k180_J7_fill_d0a16 {l : Launch} {dC : Nat → ClassId} {dI : Nat → Nat → Nat} {ad : Nat → Nat} {cA : Nat → ClassId} : Cv l 0 yJ7_fill_d0a16 wsJ7_fill_d0a16 dC dI ad cA [.ref (ad 94), .long 0] (wJ (wI M0 90 0 1) 92 0 1) (fun M' => (wJ (wI M0 90 0 1) 92 0 1) = M') := by
  refine cv_of (cc := cJ7_fill_d0a16) (maxL := 5) (lv := [(0, .ref (ad 94)), (1, .long 0)]) (by decide) rfl (Nat.le_of_ble_eq_true rfl) rfl ?_
  intro p e s m args below meth c A Q C hret
  refine j_iconst C 0 dJ7_fill_d0a16_0 (by decide) ?_
  refine j_istore_n C 3 [(3, .int 0), (0, .ref (ad 94)), (1, .long 0)] dJ7_fill_d0a16_1 rfl (by decide) rfl ?_
  refine j_aload_n C 1 0 dJ7_fill_d0a16_2 rfl rfl ?_
  refine j_alen C 6 (by decide) (by decide) (by decide) dJ7_fill_d0a16_3 ?_
  refine j_istore C 4 [(4, .int 6), (3, .int 0), (0, .ref (ad 94)), (1, .long 0)] dJ7_fill_d0a16_4 (by decide) rfl ?_
  refine j_lv [2, 3, 1, 0] rfl ?_
  have L : ∀ (n i : Nat), 0 ≤ i → i + n = 6 → jj p l e (cn_R 0) s m args below meth c 0 0 Q 5 dC dI ad cA A (wJ (wI M0 90 0 1) 92 0 1) 6 [(0, .ref (ad 94)), (1, .long 0), (3, .int (nI i)), (4, .int 6)] [] := by
    intro n
    induction n with
    | zero =>
      intro i h1 h2
      obtain rfl : i = 6 := by omega
      refine j_iload_n C 2 3 dJ7_fill_d0a16_6 rfl rfl ?_
      refine j_iload C 3 dJ7_fill_d0a16_7 rfl ?_
      refine j_icmp_ge_t C 22 dJ7_fill_d0a16_9 (by decide) (by decide) ?_
      exact hret _ _ _ dJ7_fill_d0a16_22 rfl
    | succ n ih =>
      intro i h1 h2
      refine j_iload_n C 2 3 dJ7_fill_d0a16_6 rfl rfl ?_
      refine j_iload C 3 dJ7_fill_d0a16_7 rfl ?_
      refine z_icmp_ge C 22 (i : Int) 6 (nI_toInt (n := i) (by omega)) (by decide) dJ7_fill_d0a16_9 (by decide) (fun h1 => ?_) (fun h1 => ?_)
      · exfalso; omega
      · refine j_aload_n C 0 0 dJ7_fill_d0a16_12 rfl rfl ?_
        refine j_iload_n C 2 3 dJ7_fill_d0a16_13 rfl rfl ?_
        refine j_lload_n C 1 1 dJ7_fill_d0a16_14 rfl rfl ?_
        refine x_last C i 6 (by decide) rfl rfl rfl (by omega) (by decide) dJ7_fill_d0a16_15 ?_
        refine z_noJ rfl ?_
        refine j_iinc C 2 (nI (i + 1)) [(3, .int (nI (i + 1))), (0, .ref (ad 94)), (1, .long 0), (4, .int 6)] dJ7_fill_d0a16_16 rfl (nI_1 i) (by decide) rfl ?_
        refine j_goto C 6 dJ7_fill_d0a16_19 (by decide) ?_
        refine j_lv [1, 2, 0, 3] rfl ?_
        exact ih (i + 1) (by omega) (by omega)
  exact L (6 - 0) 0 (by omega) (by omega)
set_option maxHeartbeats 4000000 in
set_option maxRecDepth 100000 in
theorem k181_X7_together {l : Launch} {dC : Nat → ClassId} {dI : Nat → Nat → Nat} {ad : Nat → Nat} {cA : Nat → ClassId} : Ci l 0 yX7_together wsX7_together dC dI ad cA [.ref (ad 2)] (wJ (wI M0 90 0 1) 92 0 1) (fun r M' => 0 = r ∧ (wJ (wI M0 90 0 1) 92 0 1) = M') := by
  refine ci_of (cc := cX7_together) (maxL := 3) (ty := .int) (lv := [(0, .ref (ad 2))]) (by decide) rfl (fun r M' hp => rfl) (Nat.le_of_ble_eq_true rfl) rfl ?_
  intro p e s m args below meth c A Q C hret
  refine j_iconst C 0 dX7_together_0 (by decide) ?_
  refine j_istore_n C 1 [(1, .int 0), (0, .ref (ad 2))] dX7_together_1 rfl (by decide) rfl ?_
  refine j_iconst C 0 dX7_together_2 (by decide) ?_
  refine j_istore_n C 2 [(2, .int 0), (1, .int 0), (0, .ref (ad 2))] dX7_together_3 rfl (by decide) rfl ?_
  refine j_iload_n C 0 2 dX7_together_4 rfl rfl ?_
  refine j_aload_n C 2 0 dX7_together_5 rfl rfl ?_
  refine j_getI C 6 0 fX7_together_9 (by decide) rfl (by decide) rfl rfl dX7_together_6 ?_
  refine j_icmp_ge_t C 27 dX7_together_9 (by decide) (by decide) ?_
  refine j_iload_n C 1 1 dX7_together_27 rfl rfl ?_
  exact hret _ _ _ _ dX7_together_28 ⟨rfl, rfl⟩
set_option maxHeartbeats 4000000 in
set_option maxRecDepth 100000 in
theorem k182_X5_passDays {l : Launch} {dC : Nat → ClassId} {dI : Nat → Nat → Nat} {ad : Nat → Nat} {cA : Nat → ClassId} (p0 : Int32) : Cv l 2 yX5_passDays wsX5_passDays dC dI ad cA [.ref (ad 88), .int p0] (wI M0 90 0 1) (fun M' => (wJ (wI M0 90 0 1) 92 0 1) = M') := by
  refine cv_of (cc := cX5_passDays) (maxL := 4) (lv := [(0, .ref (ad 88)), (1, .int p0)]) (by decide) rfl (Nat.le_of_ble_eq_true rfl) rfl ?_
  intro p e s m args below meth c A Q C hret
  refine j_aload_n C 0 0 dX5_passDays_0 rfl rfl ?_
  refine j_callVv C (d := 1) (As := []) (st := []) 88 (by decide) rfl (by decide) rfl (k123_X5_beginRows) gX5_passDays_X5_beginRows rfl hdX5_beginRows (by decide) (Nat.le_of_ble_eq_true rfl) dX5_passDays_1 rfl (fun M' hp => ?_)
  obtain rfl := hp
  refine j_aload_n C 0 0 dX5_passDays_4 rfl rfl ?_
  refine j_getP C 4 94 fX5_passDays_28 (by decide) rfl (by decide) rfl rfl dX5_passDays_5 ?_
  refine j_lconst C 0 dX5_passDays_8 (by decide) ?_
  refine j_callSv C (d := 0) (As := [.ref (ad 94), .long 0]) (st := []) (k180_J7_fill_d0a16) gX5_passDays_J7_fill_d0a16 rfl hdJ7_fill_d0a16s (by decide) (Nat.le_of_ble_eq_true rfl) dX5_passDays_9 rfl (fun M' hp => ?_)
  obtain rfl := hp
  refine j_aload_n C 0 0 dX5_passDays_12 rfl rfl ?_
  refine j_lconst C 1 dX5_passDays_13 (by decide) ?_
  refine j_putJ C 4 qX5_passDays_31 (by decide) rfl (by decide) rfl dX5_passDays_14 ?_
  refine z_noJ rfl ?_
  refine j_aload_n C 0 0 dX5_passDays_17 rfl rfl ?_
  refine j_lconst C 0 dX5_passDays_18 (by decide) ?_
  refine j_putJ C 4 qX5_passDays_35 (by decide) rfl (by decide) rfl dX5_passDays_19 ?_
  refine z_noJ rfl ?_
  refine j_aload_n C 0 0 dX5_passDays_22 rfl rfl ?_
  refine j_getP C 4 2 fX5_passDays_52 (by decide) rfl (by decide) rfl rfl dX5_passDays_23 ?_
  refine j_callVi C (d := 0) (As := []) (st := []) 2 (by decide) rfl (by decide) rfl (k181_X7_together) gX5_passDays_X7_together rfl hdX7_together (by decide) (Nat.le_of_ble_eq_true rfl) dX5_passDays_26 rfl (fun r M' hp => ?_)
  obtain ⟨rfl, rfl⟩ := hp
  refine j_istore_n C 2 [(2, .int 0), (0, .ref (ad 88)), (1, .int p0)] dX5_passDays_29 rfl (by decide) rfl ?_
  refine j_iconst C 0 dX5_passDays_30 (by decide) ?_
  refine j_istore_n C 3 [(3, .int 0), (2, .int 0), (0, .ref (ad 88)), (1, .int p0)] dX5_passDays_31 rfl (by decide) rfl ?_
  refine j_iload_n C 0 3 dX5_passDays_32 rfl rfl ?_
  refine j_iload_n C 3 1 dX5_passDays_33 rfl rfl ?_
  refine z_icmp_ge C 52 0 p0.toInt (by decide) rfl dX5_passDays_34 (by decide) (fun h1 => ?_) (fun h1 => ?_)
  · exact hret _ _ _ dX5_passDays_52 rfl
  · refine j_iload_n C 1 2 dX5_passDays_37 rfl rfl ?_
    refine j_if_le_t C 52 dX5_passDays_38 (by decide) (by decide) ?_
    exact hret _ _ _ dX5_passDays_52 rfl
set_option maxHeartbeats 4000000 in
set_option maxRecDepth 100000 in
theorem k183_X11_commonDivisor {l : Launch} {dC : Nat → ClassId} {dI : Nat → Nat → Nat} {ad : Nat → Nat} {cA : Nat → ClassId} : Cj l 0 yX11_commonDivisor wsX11_commonDivisor dC dI ad cA [.long 0, .long 1] (wJ (wI M0 90 0 1) 92 0 1) (fun r M' => 1 = r ∧ (wJ (wI M0 90 0 1) 92 0 1) = M') := by
  refine cj_of (cc := cX11_commonDivisor) (maxL := 11) (lv := [(0, .long 0), (2, .long 1)]) (by decide) rfl (Nat.le_of_ble_eq_true rfl) rfl ?_
  intro p e s m args below meth c A Q C hret
  refine j_lload_n C 0 0 dX11_commonDivisor_0 rfl rfl ?_
  refine j_lstore C 4 [(4, .long 0), (0, .long 0), (2, .long 1)] dX11_commonDivisor_1 (by decide) rfl ?_
  refine j_lload_n C 2 2 dX11_commonDivisor_3 rfl rfl ?_
  refine j_lstore C 6 [(6, .long 1), (4, .long 0), (0, .long 0), (2, .long 1)] dX11_commonDivisor_4 (by decide) rfl ?_
  refine j_iconst C 0 dX11_commonDivisor_6 (by decide) ?_
  refine j_istore C 8 [(8, .int 0), (6, .long 1), (4, .long 0), (0, .long 0), (2, .long 1)] dX11_commonDivisor_7 (by decide) rfl ?_
  refine j_iload C 0 dX11_commonDivisor_9 rfl ?_
  refine j_sipush C 200 dX11_commonDivisor_11 (by decide) ?_
  refine j_icmp_ge_f C 45 dX11_commonDivisor_14 (by decide) (by decide) ?_
  refine j_lload C 1 dX11_commonDivisor_17 rfl ?_
  refine j_lconst C 0 dX11_commonDivisor_19 (by decide) ?_
  refine z_lcmp C 1 (by decide) dX11_commonDivisor_20 ?_
  refine j_if_eq_f C 45 dX11_commonDivisor_21 (by decide) (by decide) ?_
  refine j_lload C 2 dX11_commonDivisor_24 rfl ?_
  refine j_lload C 1 dX11_commonDivisor_26 rfl ?_
  refine z_lrem C 0 (by decide) (by decide) dX11_commonDivisor_28 ?_
  refine j_lstore C 9 [(9, .long 0), (8, .int 0), (6, .long 1), (4, .long 0), (0, .long 0), (2, .long 1)] dX11_commonDivisor_29 (by decide) rfl ?_
  refine j_lload C 2 dX11_commonDivisor_31 rfl ?_
  refine j_lstore C 4 [(4, .long 1), (9, .long 0), (8, .int 0), (6, .long 1), (0, .long 0), (2, .long 1)] dX11_commonDivisor_33 (by decide) rfl ?_
  refine j_lload C 1 dX11_commonDivisor_35 rfl ?_
  refine j_lstore C 6 [(6, .long 0), (4, .long 1), (9, .long 0), (8, .int 0), (0, .long 0), (2, .long 1)] dX11_commonDivisor_37 (by decide) rfl ?_
  refine j_iinc C 3 1 [(8, .int 1), (6, .long 0), (4, .long 1), (9, .long 0), (0, .long 0), (2, .long 1)] dX11_commonDivisor_39 rfl (by decide) (by decide) rfl ?_
  refine j_goto C 9 dX11_commonDivisor_42 (by decide) ?_
  refine j_iload C 0 dX11_commonDivisor_9 rfl ?_
  refine j_sipush C 200 dX11_commonDivisor_11 (by decide) ?_
  refine j_icmp_ge_f C 45 dX11_commonDivisor_14 (by decide) (by decide) ?_
  refine j_lload C 1 dX11_commonDivisor_17 rfl ?_
  refine j_lconst C 0 dX11_commonDivisor_19 (by decide) ?_
  refine z_lcmp C 0 (by decide) dX11_commonDivisor_20 ?_
  refine j_if_eq_t C 45 dX11_commonDivisor_21 (by decide) (by decide) ?_
  refine j_lload C 2 dX11_commonDivisor_45 rfl ?_
  exact hret _ _ _ _ dX11_commonDivisor_47 ⟨rfl, rfl⟩
set_option maxHeartbeats 4000000 in
set_option maxRecDepth 100000 in
theorem k184_X11_inLowestTerms {l : Launch} {dC : Nat → ClassId} {dI : Nat → Nat → Nat} {ad : Nat → Nat} {cA : Nat → ClassId} (p0 : Int32) : Cj l 1 yX11_inLowestTerms wsX11_inLowestTerms dC dI ad cA [.long 0, .long 1, .int p0] (wJ (wI M0 90 0 1) 92 0 1) (fun r M' => ((¬ p0.toInt = 0) ∧ 1 = r ∧ (wJ (wI M0 90 0 1) 92 0 1) = M') ∨ ((p0.toInt = 0 ∧ p0 = 0) ∧ 0 = r ∧ (wJ (wI M0 90 0 1) 92 0 1) = M')) := by
  refine cj_of (cc := cX11_inLowestTerms) (maxL := 9) (lv := [(0, .long 0), (2, .long 1), (4, .int p0)]) (by decide) rfl (Nat.le_of_ble_eq_true rfl) rfl ?_
  intro p e s m args below meth c A Q C hret
  refine j_lload_n C 0 0 dX11_inLowestTerms_0 rfl rfl ?_
  refine j_lload_n C 1 2 dX11_inLowestTerms_1 rfl rfl ?_
  refine j_callSj C (d := 0) (As := [.long 0, .long 1]) (st := []) (k183_X11_commonDivisor) gX11_inLowestTerms_X11_commonDivisor rfl hdX11_commonDivisors (by decide) (Nat.le_of_ble_eq_true rfl) dX11_inLowestTerms_2 rfl (fun r M' hp => ?_)
  obtain ⟨rfl, rfl⟩ := hp
  refine j_lstore C 5 [(5, .long 1), (0, .long 0), (2, .long 1), (4, .int p0)] dX11_inLowestTerms_5 (by decide) rfl ?_
  refine j_iload C 3 dX11_inLowestTerms_7 rfl ?_
  refine z_if_ne C 16 p0.toInt rfl dX11_inLowestTerms_9 (by decide) (fun h1 => ?_) (fun h1 => ?_)
  · refine j_lload_n C 2 2 dX11_inLowestTerms_16 rfl rfl ?_
    refine j_lstore C 7 [(7, .long 1), (5, .long 1), (0, .long 0), (2, .long 1), (4, .int p0)] dX11_inLowestTerms_17 (by decide) rfl ?_
    refine j_lload C 1 dX11_inLowestTerms_19 rfl ?_
    refine j_lconst C 0 dX11_inLowestTerms_21 (by decide) ?_
    refine z_lcmp C 1 (by decide) dX11_inLowestTerms_22 ?_
    refine j_if_le_f C 34 dX11_inLowestTerms_23 (by decide) (by decide) ?_
    refine j_lload C 0 dX11_inLowestTerms_26 rfl ?_
    refine j_lload C 1 dX11_inLowestTerms_28 rfl ?_
    refine z_ldiv C 1 (by decide) (by decide) dX11_inLowestTerms_30 ?_
    refine j_goto C 36 dX11_inLowestTerms_31 (by decide) ?_
    exact hret _ _ _ _ dX11_inLowestTerms_36 (Or.inl ⟨h1, rfl, rfl⟩)
  · obtain rfl : p0 = 0 := Int32.toInt_inj.mp (show p0.toInt = (0 : Int32).toInt by rw [show (0 : Int32).toInt = 0 from rfl]; omega)
    show jj _ _ _ _ _ _ _ _ _ _ _ _ _ _ _ _ _ _ _ (wJ (wI M0 90 0 1) 92 0 1) 12 [(5, .long 1), (0, .long 0), (2, .long 1), (4, .int 0)] []
    refine j_lload_n C 1 0 dX11_inLowestTerms_12 rfl rfl ?_
    refine j_goto C 17 dX11_inLowestTerms_13 (by decide) ?_
    refine j_lstore C 7 [(7, .long 0), (5, .long 1), (0, .long 0), (2, .long 1), (4, .int 0)] dX11_inLowestTerms_17 (by decide) rfl ?_
    refine j_lload C 1 dX11_inLowestTerms_19 rfl ?_
    refine j_lconst C 0 dX11_inLowestTerms_21 (by decide) ?_
    refine z_lcmp C 1 (by decide) dX11_inLowestTerms_22 ?_
    refine j_if_le_f C 34 dX11_inLowestTerms_23 (by decide) (by decide) ?_
    refine j_lload C 0 dX11_inLowestTerms_26 rfl ?_
    refine j_lload C 1 dX11_inLowestTerms_28 rfl ?_
    refine z_ldiv C 0 (by decide) (by decide) dX11_inLowestTerms_30 ?_
    refine j_goto C 36 dX11_inLowestTerms_31 (by decide) ?_
    exact hret _ _ _ _ dX11_inLowestTerms_36 (Or.inr ⟨⟨h1, rfl⟩, rfl, rfl⟩)
set_option maxHeartbeats 4000000 in
set_option maxRecDepth 100000 in
theorem ox_open {l : Launch} {dC : Nat → ClassId} {dI : Nat → Nat → Nat} {ad : Nat → Nat} {cA : Nat → ClassId} (p0 : Int32) (p1 : Int32) : Cj l 3 yX11_open wsX11_open dC dI ad cA [.ref (ad 0), .int p0, .int p1] M0 (fun r M' => r = fo_open p0 p1 ∧ MB M') := by
  refine cj_of (cc := cX11_open) (maxL := 4) (lv := [(0, .ref (ad 0)), (1, .int p0), (2, .int p1)]) (by decide) rfl (Nat.le_of_ble_eq_true rfl) rfl ?_
  intro p e s m args below meth c A Q C hret
  refine j_iload_n C 2 2 dX11_open_0 rfl rfl ?_
  refine j_iload_n C 1 1 dX11_open_1 rfl rfl ?_
  refine j_bipush C 10 dX11_open_2 (by decide) ?_
  refine j_callSi C (d := 0) (As := [.int p1, .int p0, .int 10]) (st := []) (k179_X11_chanceRefusal p1 p0) gX11_open_X11_chanceRefusal rfl hdX11_chanceRefusals (by decide) (Nat.le_of_ble_eq_true rfl) dX11_open_4 rfl (fun r M' hp => ?_)
  rcases hp with ⟨h1, rfl, rfl⟩ | ⟨⟨h2, h3, h4⟩, rfl, rfl⟩ | ⟨⟨h5, h6, h7, h8⟩, rfl, rfl⟩ | ⟨⟨h9, h10, h11, h12⟩, rfl, rfl⟩ | ⟨⟨h13, h14⟩, rfl, rfl⟩
  · refine j_istore_n C 3 [(3, .int (-2)), (0, .ref (ad 0)), (1, .int p0), (2, .int p1)] dX11_open_7 rfl (by decide) rfl ?_
    refine j_iload_n C 0 3 dX11_open_8 rfl rfl ?_
    refine j_if_eq_f C 15 dX11_open_9 (by decide) (by decide) ?_
    refine j_iload_n C 0 3 dX11_open_12 rfl rfl ?_
    refine z_i2l C (-2) (by decide) dX11_open_13 ?_
    exact hret _ _ _ _ dX11_open_14 ⟨by first | rfl | (unfold fo_open; rw [if_pos (by rw [nI_toInt (by omega)]; omega), nI_clamp (by omega)]; exact hrel) | (unfold fo_open; (repeat' split) <;> first | rfl | (exfalso; omega) | (exfalso; simp_all; done)), MB_0⟩
  · refine j_istore_n C 3 [(3, .int (-3)), (0, .ref (ad 0)), (1, .int p0), (2, .int p1)] dX11_open_7 rfl (by decide) rfl ?_
    refine j_iload_n C 0 3 dX11_open_8 rfl rfl ?_
    refine j_if_eq_f C 15 dX11_open_9 (by decide) (by decide) ?_
    refine j_iload_n C 0 3 dX11_open_12 rfl rfl ?_
    refine z_i2l C (-3) (by decide) dX11_open_13 ?_
    exact hret _ _ _ _ dX11_open_14 ⟨by first | rfl | (unfold fo_open; rw [if_pos (by rw [nI_toInt (by omega)]; omega), nI_clamp (by omega)]; exact hrel) | (unfold fo_open; (repeat' split) <;> first | rfl | (exfalso; omega) | (exfalso; simp_all; done)), MB_0⟩
  · refine j_istore_n C 3 [(3, .int 0), (0, .ref (ad 0)), (1, .int p0), (2, .int p1)] dX11_open_7 rfl (by decide) rfl ?_
    refine j_iload_n C 0 3 dX11_open_8 rfl rfl ?_
    refine j_if_eq_t C 15 dX11_open_9 (by decide) (by decide) ?_
    refine j_aload_n C 1 0 dX11_open_15 rfl rfl ?_
    refine j_getP C 10 88 fX11_open_94 (by decide) rfl (by decide) rfl rfl dX11_open_16 ?_
    refine j_aload_n C 1 0 dX11_open_19 rfl rfl ?_
    refine j_getP C 10 2 fX11_open_26 (by decide) rfl (by decide) rfl rfl dX11_open_20 ?_
    refine j_aload_n C 1 0 dX11_open_23 rfl rfl ?_
    refine j_getP C 10 12 fX11_open_36 (by decide) rfl (by decide) rfl rfl dX11_open_24 ?_
    refine j_aload_n C 1 0 dX11_open_27 rfl rfl ?_
    refine j_getP C 10 12 fX11_open_36 (by decide) rfl (by decide) rfl rfl dX11_open_28 ?_
    refine j_getI C 8 0 fX11_open_153 (by decide) rfl (by decide) rfl rfl dX11_open_31 ?_
    refine j_callVv C (d := 2) (As := [.ref (ad 2), .ref (ad 12), .int 0]) (st := []) 88 (by decide) rfl (by decide) rfl (k110_X5_look) gX11_open_X5_look rfl hdX5_look (by decide) (Nat.le_of_ble_eq_true rfl) dX11_open_34 rfl (fun M' hp => ?_)
    obtain rfl := hp
    refine j_aload_n C 1 0 dX11_open_37 rfl rfl ?_
    refine j_getP C 10 88 fX11_open_94 (by decide) rfl (by decide) rfl rfl dX11_open_38 ?_
    refine j_iload_n C 2 1 dX11_open_41 rfl rfl ?_
    refine j_callVv C (d := 2) (As := [.int p0]) (st := []) 88 (by decide) rfl (by decide) rfl (k182_X5_passDays p0) gX11_open_X5_passDays rfl hdX5_passDays (by decide) (Nat.le_of_ble_eq_true rfl) dX11_open_42 rfl (fun M' hp => ?_)
    obtain rfl := hp
    refine j_aload_n C 1 0 dX11_open_45 rfl rfl ?_
    refine j_getP C 10 88 fX11_open_94 (by decide) rfl (by decide) rfl rfl dX11_open_46 ?_
    refine j_callVj C (d := 1) (As := []) (st := []) 88 (by decide) rfl (by decide) rfl (k126_X5_openWays) gX11_open_X5_openWays rfl hdX5_openWays (by decide) (Nat.le_of_ble_eq_true rfl) dX11_open_49 rfl (fun r M' hp => ?_)
    obtain ⟨rfl, rfl⟩ := hp
    refine j_aload_n C 1 0 dX11_open_52 rfl rfl ?_
    refine j_getP C 10 88 fX11_open_94 (by decide) rfl (by decide) rfl rfl dX11_open_53 ?_
    refine j_getJ C 4 1 fX11_open_296 (by decide) rfl (by decide) rfl rfl dX11_open_56 ?_
    refine j_iload_n C 3 2 dX11_open_59 rfl rfl ?_
    refine j_callSj C (d := 1) (As := [.long 0, .long 1, .int p1]) (st := []) (k184_X11_inLowestTerms p1) gX11_open_X11_inLowestTerms rfl hdX11_inLowestTermss (by decide) (Nat.le_of_ble_eq_true rfl) dX11_open_60 rfl (fun r M' hp => ?_)
    rcases hp with ⟨h15, rfl, rfl⟩ | ⟨⟨h16, h17⟩, rfl, rfl⟩
    · obtain rfl : p1 = 1 := Int32.toInt_inj.mp (show p1.toInt = (1 : Int32).toInt by rw [show (1 : Int32).toInt = 1 from rfl]; omega)
      show jj _ _ _ _ _ _ _ _ _ _ _ _ _ _ _ _ _ _ _ (wJ (wI M0 90 0 1) 92 0 1) 63 [(3, .int 0), (0, .ref (ad 0)), (1, .int p0), (2, .int 1)] [.long 1]
      exact hret _ _ _ _ dX11_open_63 ⟨by first | rfl | (unfold fo_open; rw [if_pos (by rw [nI_toInt (by omega)]; omega), nI_clamp (by omega)]; exact hrel) | (unfold fo_open; (repeat' split) <;> first | rfl | (exfalso; omega) | (exfalso; simp_all; done)), (MB_J (MB_I MB_0 (by decide)) (by decide))⟩
    · obtain rfl : p1 = 0 := Int32.toInt_inj.mp (show p1.toInt = (0 : Int32).toInt by rw [show (0 : Int32).toInt = 0 from rfl]; omega)
      show jj _ _ _ _ _ _ _ _ _ _ _ _ _ _ _ _ _ _ _ (wJ (wI M0 90 0 1) 92 0 1) 63 [(3, .int 0), (0, .ref (ad 0)), (1, .int p0), (2, .int 0)] [.long 0]
      exact hret _ _ _ _ dX11_open_63 ⟨by first | rfl | (unfold fo_open; rw [if_pos (by rw [nI_toInt (by omega)]; omega), nI_clamp (by omega)]; exact hrel) | (unfold fo_open; (repeat' split) <;> first | rfl | (exfalso; omega) | (exfalso; simp_all; done)), (MB_J (MB_I MB_0 (by decide)) (by decide))⟩
  · refine j_istore_n C 3 [(3, .int (-3)), (0, .ref (ad 0)), (1, .int p0), (2, .int p1)] dX11_open_7 rfl (by decide) rfl ?_
    refine j_iload_n C 0 3 dX11_open_8 rfl rfl ?_
    refine j_if_eq_f C 15 dX11_open_9 (by decide) (by decide) ?_
    refine j_iload_n C 0 3 dX11_open_12 rfl rfl ?_
    refine z_i2l C (-3) (by decide) dX11_open_13 ?_
    exact hret _ _ _ _ dX11_open_14 ⟨by first | rfl | (unfold fo_open; rw [if_pos (by rw [nI_toInt (by omega)]; omega), nI_clamp (by omega)]; exact hrel) | (unfold fo_open; (repeat' split) <;> first | rfl | (exfalso; omega) | (exfalso; simp_all; done)), MB_0⟩
  · refine j_istore_n C 3 [(3, .int (-2)), (0, .ref (ad 0)), (1, .int p0), (2, .int p1)] dX11_open_7 rfl (by decide) rfl ?_
    refine j_iload_n C 0 3 dX11_open_8 rfl rfl ?_
    refine j_if_eq_f C 15 dX11_open_9 (by decide) (by decide) ?_
    refine j_iload_n C 0 3 dX11_open_12 rfl rfl ?_
    refine z_i2l C (-2) (by decide) dX11_open_13 ?_
    exact hret _ _ _ _ dX11_open_14 ⟨by first | rfl | (unfold fo_open; rw [if_pos (by rw [nI_toInt (by omega)]; omega), nI_clamp (by omega)]; exact hrel) | (unfold fo_open; (repeat' split) <;> first | rfl | (exfalso; omega) | (exfalso; simp_all; done)), MB_0⟩
set_option maxHeartbeats 4000000 in
set_option maxRecDepth 100000 in
theorem k198_X5_passDays {l : Launch} {dC : Nat → ClassId} {dI : Nat → Nat → Nat} {ad : Nat → Nat} {cA : Nat → ClassId} : Cv l 2 yX5_passDays wsX5_passDays dC dI ad cA [.ref (ad 88), .int 0] (wI M0 90 0 1) (fun M' => (wJ (wI M0 90 0 1) 92 0 1) = M') := by
  refine cv_of (cc := cX5_passDays) (maxL := 4) (lv := [(0, .ref (ad 88)), (1, .int 0)]) (by decide) rfl (Nat.le_of_ble_eq_true rfl) rfl ?_
  intro p e s m args below meth c A Q C hret
  refine j_aload_n C 0 0 dX5_passDays_0 rfl rfl ?_
  refine j_callVv C (d := 1) (As := []) (st := []) 88 (by decide) rfl (by decide) rfl (k123_X5_beginRows) gX5_passDays_X5_beginRows rfl hdX5_beginRows (by decide) (Nat.le_of_ble_eq_true rfl) dX5_passDays_1 rfl (fun M' hp => ?_)
  obtain rfl := hp
  refine j_aload_n C 0 0 dX5_passDays_4 rfl rfl ?_
  refine j_getP C 4 94 fX5_passDays_28 (by decide) rfl (by decide) rfl rfl dX5_passDays_5 ?_
  refine j_lconst C 0 dX5_passDays_8 (by decide) ?_
  refine j_callSv C (d := 0) (As := [.ref (ad 94), .long 0]) (st := []) (k180_J7_fill_d0a16) gX5_passDays_J7_fill_d0a16 rfl hdJ7_fill_d0a16s (by decide) (Nat.le_of_ble_eq_true rfl) dX5_passDays_9 rfl (fun M' hp => ?_)
  obtain rfl := hp
  refine j_aload_n C 0 0 dX5_passDays_12 rfl rfl ?_
  refine j_lconst C 1 dX5_passDays_13 (by decide) ?_
  refine j_putJ C 4 qX5_passDays_31 (by decide) rfl (by decide) rfl dX5_passDays_14 ?_
  refine z_noJ rfl ?_
  refine j_aload_n C 0 0 dX5_passDays_17 rfl rfl ?_
  refine j_lconst C 0 dX5_passDays_18 (by decide) ?_
  refine j_putJ C 4 qX5_passDays_35 (by decide) rfl (by decide) rfl dX5_passDays_19 ?_
  refine z_noJ rfl ?_
  refine j_aload_n C 0 0 dX5_passDays_22 rfl rfl ?_
  refine j_getP C 4 2 fX5_passDays_52 (by decide) rfl (by decide) rfl rfl dX5_passDays_23 ?_
  refine j_callVi C (d := 0) (As := []) (st := []) 2 (by decide) rfl (by decide) rfl (k181_X7_together) gX5_passDays_X7_together rfl hdX7_together (by decide) (Nat.le_of_ble_eq_true rfl) dX5_passDays_26 rfl (fun r M' hp => ?_)
  obtain ⟨rfl, rfl⟩ := hp
  refine j_istore_n C 2 [(2, .int 0), (0, .ref (ad 88)), (1, .int 0)] dX5_passDays_29 rfl (by decide) rfl ?_
  refine j_iconst C 0 dX5_passDays_30 (by decide) ?_
  refine j_istore_n C 3 [(3, .int 0), (2, .int 0), (0, .ref (ad 88)), (1, .int 0)] dX5_passDays_31 rfl (by decide) rfl ?_
  refine j_iload_n C 0 3 dX5_passDays_32 rfl rfl ?_
  refine j_iload_n C 3 1 dX5_passDays_33 rfl rfl ?_
  refine j_icmp_ge_t C 52 dX5_passDays_34 (by decide) (by decide) ?_
  exact hret _ _ _ dX5_passDays_52 rfl
set_option maxHeartbeats 4000000 in
set_option maxRecDepth 100000 in
theorem k199_X11_hundredths {l : Launch} {dC : Nat → ClassId} {dI : Nat → Nat → Nat} {ad : Nat → Nat} {cA : Nat → ClassId} : Cj l 0 yX11_hundredths wsX11_hundredths dC dI ad cA [.long 1, .long 1] (wJ (wI M0 90 0 1) 92 0 1) (fun r M' => 100 = r ∧ (wJ (wI M0 90 0 1) 92 0 1) = M') := by
  refine cj_of (cc := cX11_hundredths) (maxL := 8) (lv := [(0, .long 1), (2, .long 1)]) (by decide) rfl (Nat.le_of_ble_eq_true rfl) rfl ?_
  intro p e s m args below meth c A Q C hret
  refine j_lload_n C 1 2 dX11_hundredths_0 rfl rfl ?_
  refine j_lconst C 0 dX11_hundredths_1 (by decide) ?_
  refine z_lcmp C 1 (by decide) dX11_hundredths_2 ?_
  refine j_if_gt_t C 8 dX11_hundredths_3 (by decide) (by decide) ?_
  refine j_lload_n C 0 0 dX11_hundredths_8 rfl rfl ?_
  refine j_ldc2 C 10 dX11_hundredths_9 (by decide +kernel) ?_
  refine z_lmul C 10 (by decide) dX11_hundredths_12 ?_
  refine j_lload_n C 1 2 dX11_hundredths_13 rfl rfl ?_
  refine z_ldiv C 10 (by decide) (by decide) dX11_hundredths_14 ?_
  refine j_lstore C 4 [(4, .long 10), (0, .long 1), (2, .long 1)] dX11_hundredths_15 (by decide) rfl ?_
  refine j_lload_n C 1 0 dX11_hundredths_17 rfl rfl ?_
  refine j_ldc2 C 10 dX11_hundredths_18 (by decide +kernel) ?_
  refine z_lmul C 10 (by decide) dX11_hundredths_21 ?_
  refine j_lload_n C 2 2 dX11_hundredths_22 rfl rfl ?_
  refine z_lrem C 0 (by decide) (by decide) dX11_hundredths_23 ?_
  refine j_lstore C 6 [(6, .long 0), (4, .long 10), (0, .long 1), (2, .long 1)] dX11_hundredths_24 (by decide) rfl ?_
  refine j_lload C 1 dX11_hundredths_26 rfl ?_
  refine j_ldc2 C 10 dX11_hundredths_28 (by decide +kernel) ?_
  refine z_lmul C 100 (by decide) dX11_hundredths_31 ?_
  refine j_lload C 0 dX11_hundredths_32 rfl ?_
  refine j_ldc2 C 10 dX11_hundredths_34 (by decide +kernel) ?_
  refine z_lmul C 0 (by decide) dX11_hundredths_37 ?_
  refine j_lload_n C 3 2 dX11_hundredths_38 rfl rfl ?_
  refine z_ldiv C 0 (by decide) (by decide) dX11_hundredths_39 ?_
  refine z_ladd C 100 (by decide) dX11_hundredths_40 ?_
  exact hret _ _ _ _ dX11_hundredths_41 ⟨rfl, rfl⟩
set_option maxHeartbeats 4000000 in
set_option maxRecDepth 100000 in
theorem ox_likely {l : Launch} {dC : Nat → ClassId} {dI : Nat → Nat → Nat} {ad : Nat → Nat} {cA : Nat → ClassId} (p0 : Int32) : Ci l 3 yX11_likely wsX11_likely dC dI ad cA [.ref (ad 0), .int p0] M0 (fun r M' => r = fo_likely p0 ∧ MB M') := by
  refine ci_of (cc := cX11_likely) (maxL := 3) (ty := .int) (lv := [(0, .ref (ad 0)), (1, .int p0)]) (by decide) rfl (fun r M' hp => rfl) (Nat.le_of_ble_eq_true rfl) rfl ?_
  intro p e s m args below meth c A Q C hret
  refine j_iload_n C 1 1 dX11_likely_0 rfl rfl ?_
  refine z_if_lt C 10 p0.toInt rfl dX11_likely_1 (by decide) (fun h1 => ?_) (fun h1 => ?_)
  · refine j_bipush C (-3) dX11_likely_10 (by decide) ?_
    exact hret _ _ _ _ dX11_likely_12 ⟨by first | rfl | (unfold fo_likely; rw [if_pos (by rw [nI_toInt (by omega)]; omega), nI_clamp (by omega)]; exact hrel) | (unfold fo_likely; (repeat' split) <;> first | rfl | (exfalso; omega) | (exfalso; simp_all; done)), MB_0⟩
  · refine j_iload_n C 1 1 dX11_likely_4 rfl rfl ?_
    refine j_bipush C 100 dX11_likely_5 (by decide) ?_
    refine z_icmp_le C 13 p0.toInt 100 rfl (by decide) dX11_likely_7 (by decide) (fun h2 => ?_) (fun h2 => ?_)
    · refine j_aload_n C 0 0 dX11_likely_13 rfl rfl ?_
      refine j_getP C 10 88 fX11_likely_94 (by decide) rfl (by decide) rfl rfl dX11_likely_14 ?_
      refine j_aload_n C 0 0 dX11_likely_17 rfl rfl ?_
      refine j_getP C 10 2 fX11_likely_26 (by decide) rfl (by decide) rfl rfl dX11_likely_18 ?_
      refine j_aload_n C 0 0 dX11_likely_21 rfl rfl ?_
      refine j_getP C 10 12 fX11_likely_36 (by decide) rfl (by decide) rfl rfl dX11_likely_22 ?_
      refine j_aload_n C 0 0 dX11_likely_25 rfl rfl ?_
      refine j_getP C 10 12 fX11_likely_36 (by decide) rfl (by decide) rfl rfl dX11_likely_26 ?_
      refine j_getI C 8 0 fX11_likely_153 (by decide) rfl (by decide) rfl rfl dX11_likely_29 ?_
      refine j_callVv C (d := 2) (As := [.ref (ad 2), .ref (ad 12), .int 0]) (st := []) 88 (by decide) rfl (by decide) rfl (k110_X5_look) gX11_likely_X5_look rfl hdX5_look (by decide) (Nat.le_of_ble_eq_true rfl) dX11_likely_32 rfl (fun M' hp => ?_)
      obtain rfl := hp
      refine j_iconst C 0 dX11_likely_35 (by decide) ?_
      refine j_istore_n C 2 [(2, .int 0), (0, .ref (ad 0)), (1, .int p0)] dX11_likely_36 rfl (by decide) rfl ?_
      refine j_iload_n C 0 2 dX11_likely_37 rfl rfl ?_
      refine j_bipush C 10 dX11_likely_38 (by decide) ?_
      refine j_icmp_gt_f C 90 dX11_likely_40 (by decide) (by decide) ?_
      refine j_aload_n C 1 0 dX11_likely_43 rfl rfl ?_
      refine j_getP C 10 88 fX11_likely_94 (by decide) rfl (by decide) rfl rfl dX11_likely_44 ?_
      refine j_iload_n C 0 2 dX11_likely_47 rfl rfl ?_
      refine j_callVv C (d := 2) (As := [.int 0]) (st := []) 88 (by decide) rfl (by decide) rfl (k198_X5_passDays) gX11_likely_X5_passDays rfl hdX5_passDays (by decide) (Nat.le_of_ble_eq_true rfl) dX11_likely_48 rfl (fun M' hp => ?_)
      obtain rfl := hp
      refine j_aload_n C 1 0 dX11_likely_51 rfl rfl ?_
      refine j_getP C 10 88 fX11_likely_94 (by decide) rfl (by decide) rfl rfl dX11_likely_52 ?_
      refine j_getJ C 4 1 fX11_likely_296 (by decide) rfl (by decide) rfl rfl dX11_likely_55 ?_
      refine j_aload_n C 1 0 dX11_likely_58 rfl rfl ?_
      refine j_getP C 10 88 fX11_likely_94 (by decide) rfl (by decide) rfl rfl dX11_likely_59 ?_
      refine j_callVj C (d := 1) (As := []) (st := [.long 1]) 88 (by decide) rfl (by decide) rfl (k126_X5_openWays) gX11_likely_X5_openWays rfl hdX5_openWays (by decide) (Nat.le_of_ble_eq_true rfl) dX11_likely_62 rfl (fun r M' hp => ?_)
      obtain ⟨rfl, rfl⟩ := hp
      refine z_lsub C 1 (by decide) dX11_likely_65 ?_
      refine j_aload_n C 1 0 dX11_likely_66 rfl rfl ?_
      refine j_getP C 10 88 fX11_likely_94 (by decide) rfl (by decide) rfl rfl dX11_likely_67 ?_
      refine j_getJ C 4 1 fX11_likely_296 (by decide) rfl (by decide) rfl rfl dX11_likely_70 ?_
      refine j_callSj C (d := 0) (As := [.long 1, .long 1]) (st := []) (k199_X11_hundredths) gX11_likely_X11_hundredths rfl hdX11_hundredthss (by decide) (Nat.le_of_ble_eq_true rfl) dX11_likely_73 rfl (fun r M' hp => ?_)
      obtain ⟨rfl, rfl⟩ := hp
      refine j_iload_n C 2 1 dX11_likely_76 rfl rfl ?_
      refine z_i2l C p0.toInt64 rfl dX11_likely_77 ?_
      refine z_lcmp_lt C 84 100 p0.toInt (by decide) ((Int32.toInt_toInt64 p0).trans rfl) dX11_likely_78 dX11_likely_79 (by decide) (fun h3 => ?_) (fun h3 => ?_)
      · exfalso; omega
      · refine j_iload_n C 0 2 dX11_likely_82 rfl rfl ?_
        exact hret _ _ _ _ dX11_likely_83 ⟨by first | rfl | (unfold fo_likely; rw [if_pos (by rw [nI_toInt (by omega)]; omega), nI_clamp (by omega)]; exact hrel) | (unfold fo_likely; (repeat' split) <;> first | rfl | (exfalso; omega) | (exfalso; simp_all; done)), (MB_J (MB_I MB_0 (by decide)) (by decide))⟩
    · refine j_bipush C (-3) dX11_likely_10 (by decide) ?_
      exact hret _ _ _ _ dX11_likely_12 ⟨by first | rfl | (unfold fo_likely; rw [if_pos (by rw [nI_toInt (by omega)]; omega), nI_clamp (by omega)]; exact hrel) | (unfold fo_likely; (repeat' split) <;> first | rfl | (exfalso; omega) | (exfalso; simp_all; done)), MB_0⟩
set_option maxHeartbeats 4000000 in
set_option maxRecDepth 100000 in
theorem ox_shutsBy {l : Launch} {dC : Nat → ClassId} {dI : Nat → Nat → Nat} {ad : Nat → Nat} {cA : Nat → ClassId} (p0 : Int32) (p1 : Int32) (p2 : Int32) : Cj l 1 yX11_shutsBy wsX11_shutsBy dC dI ad cA [.ref (ad 0), .int p0, .int p1, .int p2] M0 (fun r M' => r = fo_shutsBy p0 p1 p2 ∧ MB M') := by
  refine cj_of (cc := cX11_shutsBy) (maxL := 5) (lv := [(0, .ref (ad 0)), (1, .int p0), (2, .int p1), (3, .int p2)]) (by decide) rfl (Nat.le_of_ble_eq_true rfl) rfl ?_
  intro p e s m args below meth c A Q C hret
  refine j_aload_n C 0 0 dX11_shutsBy_0 rfl rfl ?_
  refine j_iload_n C 1 1 dX11_shutsBy_1 rfl rfl ?_
  refine j_callVi C (d := 0) (As := [.int p0]) (st := []) 0 (by decide) rfl (by decide) rfl (k37_X11_isBuyer p0) gX11_shutsBy_X11_isBuyer rfl hdX11_isBuyer (by decide) (Nat.le_of_ble_eq_true rfl) dX11_shutsBy_2 rfl (fun r M' hp => ?_)
  obtain ⟨rfl, rfl⟩ := hp
  refine j_if_eq_t C 18 dX11_shutsBy_5 (by decide) (by decide) ?_
  refine j_bipush C (-2) dX11_shutsBy_18 (by decide) ?_
  refine j_istore C 4 [(4, .int (-2)), (0, .ref (ad 0)), (1, .int p0), (2, .int p1), (3, .int p2)] dX11_shutsBy_20 (by decide) rfl ?_
  refine j_iload C 0 dX11_shutsBy_22 rfl ?_
  refine j_if_eq_f C 31 dX11_shutsBy_24 (by decide) (by decide) ?_
  refine j_iload C 0 dX11_shutsBy_27 rfl ?_
  refine z_i2l C (-2) (by decide) dX11_shutsBy_29 ?_
  exact hret _ _ _ _ dX11_shutsBy_30 ⟨by first | rfl | (unfold fo_shutsBy; rw [if_pos (by rw [nI_toInt (by omega)]; omega), nI_clamp (by omega)]; exact hrel) | (unfold fo_shutsBy; (repeat' split) <;> first | rfl | (exfalso; omega) | (exfalso; simp_all; done)), MB_0⟩
set_option maxHeartbeats 4000000 in
set_option maxRecDepth 100000 in
theorem ox_closer {l : Launch} {dC : Nat → ClassId} {dI : Nat → Nat → Nat} {ad : Nat → Nat} {cA : Nat → ClassId} (p0 : Int32) : Ci l 3 yX11_closer wsX11_closer dC dI ad cA [.ref (ad 0), .int p0] M0 (fun r M' => r = fo_closer p0 ∧ MB M') := by
  refine ci_of (cc := cX11_closer) (maxL := 6) (ty := .int) (lv := [(0, .ref (ad 0)), (1, .int p0)]) (by decide) rfl (fun r M' hp => rfl) (Nat.le_of_ble_eq_true rfl) rfl ?_
  intro p e s m args below meth c A Q C hret
  refine j_iload_n C 1 1 dX11_closer_0 rfl rfl ?_
  refine z_if_lt C 10 p0.toInt rfl dX11_closer_1 (by decide) (fun h1 => ?_) (fun h1 => ?_)
  · refine j_bipush C (-3) dX11_closer_10 (by decide) ?_
    exact hret _ _ _ _ dX11_closer_12 ⟨by first | rfl | (unfold fo_closer; rw [if_pos (by rw [nI_toInt (by omega)]; omega), nI_clamp (by omega)]; exact hrel) | (unfold fo_closer; (repeat' split) <;> first | rfl | (exfalso; omega) | (exfalso; simp_all; done)), MB_0⟩
  · refine j_iload_n C 1 1 dX11_closer_4 rfl rfl ?_
    refine j_bipush C 10 dX11_closer_5 (by decide) ?_
    refine z_icmp_le C 13 p0.toInt 10 rfl (by decide) dX11_closer_7 (by decide) (fun h2 => ?_) (fun h2 => ?_)
    · refine j_aload_n C 0 0 dX11_closer_13 rfl rfl ?_
      refine j_getP C 10 88 fX11_closer_94 (by decide) rfl (by decide) rfl rfl dX11_closer_14 ?_
      refine j_aload_n C 0 0 dX11_closer_17 rfl rfl ?_
      refine j_getP C 10 2 fX11_closer_26 (by decide) rfl (by decide) rfl rfl dX11_closer_18 ?_
      refine j_aload_n C 0 0 dX11_closer_21 rfl rfl ?_
      refine j_getP C 10 12 fX11_closer_36 (by decide) rfl (by decide) rfl rfl dX11_closer_22 ?_
      refine j_aload_n C 0 0 dX11_closer_25 rfl rfl ?_
      refine j_getP C 10 12 fX11_closer_36 (by decide) rfl (by decide) rfl rfl dX11_closer_26 ?_
      refine j_getI C 8 0 fX11_closer_153 (by decide) rfl (by decide) rfl rfl dX11_closer_29 ?_
      refine j_callVv C (d := 2) (As := [.ref (ad 2), .ref (ad 12), .int 0]) (st := []) 88 (by decide) rfl (by decide) rfl (k110_X5_look) gX11_closer_X5_look rfl hdX5_look (by decide) (Nat.le_of_ble_eq_true rfl) dX11_closer_32 rfl (fun M' hp => ?_)
      obtain rfl := hp
      refine j_aload_n C 0 0 dX11_closer_35 rfl rfl ?_
      refine j_getP C 10 88 fX11_closer_94 (by decide) rfl (by decide) rfl rfl dX11_closer_36 ?_
      refine j_iload_n C 1 1 dX11_closer_39 rfl rfl ?_
      refine j_callVv C (d := 2) (As := [.int p0]) (st := []) 88 (by decide) rfl (by decide) rfl (k182_X5_passDays p0) gX11_closer_X5_passDays rfl hdX5_passDays (by decide) (Nat.le_of_ble_eq_true rfl) dX11_closer_40 rfl (fun M' hp => ?_)
      obtain rfl := hp
      refine j_iconst C (-1) dX11_closer_43 (by decide) ?_
      refine j_istore_n C 2 [(2, .int (-1)), (0, .ref (ad 0)), (1, .int p0)] dX11_closer_44 rfl (by decide) rfl ?_
      refine j_lconst C 0 dX11_closer_45 (by decide) ?_
      refine j_lstore_n C 3 [(3, .long 0), (2, .int (-1)), (0, .ref (ad 0)), (1, .int p0)] dX11_closer_46 rfl (by decide) rfl ?_
      refine j_iconst C 0 dX11_closer_47 (by decide) ?_
      refine j_istore C 5 [(5, .int 0), (3, .long 0), (2, .int (-1)), (0, .ref (ad 0)), (1, .int p0)] dX11_closer_48 (by decide) rfl ?_
      refine j_iload C 0 dX11_closer_50 rfl ?_
      refine j_aload_n C 3 0 dX11_closer_52 rfl rfl ?_
      refine j_getP C 10 2 fX11_closer_26 (by decide) rfl (by decide) rfl rfl dX11_closer_53 ?_
      refine j_getI C 6 0 fX11_closer_163 (by decide) rfl (by decide) rfl rfl dX11_closer_56 ?_
      refine j_icmp_ge_t C 97 dX11_closer_59 (by decide) (by decide) ?_
      refine j_iload_n C 2 2 dX11_closer_97 rfl rfl ?_
      exact hret _ _ _ _ dX11_closer_98 ⟨by first | rfl | (unfold fo_closer; rw [if_pos (by rw [nI_toInt (by omega)]; omega), nI_clamp (by omega)]; exact hrel) | (unfold fo_closer; (repeat' split) <;> first | rfl | (exfalso; omega) | (exfalso; simp_all; done)), (MB_J (MB_I MB_0 (by decide)) (by decide))⟩
    · refine j_bipush C (-3) dX11_closer_10 (by decide) ?_
      exact hret _ _ _ _ dX11_closer_12 ⟨by first | rfl | (unfold fo_closer; rw [if_pos (by rw [nI_toInt (by omega)]; omega), nI_clamp (by omega)]; exact hrel) | (unfold fo_closer; (repeat' split) <;> first | rfl | (exfalso; omega) | (exfalso; simp_all; done)), MB_0⟩
set_option maxHeartbeats 4000000 in
set_option maxRecDepth 100000 in
theorem ox_soldIn {l : Launch} {dC : Nat → ClassId} {dI : Nat → Nat → Nat} {ad : Nat → Nat} {cA : Nat → ClassId} (p0 : Int32) (p1 : Int32) (p2 : Int32) : Cj l 1 yX11_soldIn wsX11_soldIn dC dI ad cA [.ref (ad 0), .int p0, .int p1, .int p2] M0 (fun r M' => r = fo_soldIn p0 p1 p2 ∧ MB M') := by
  refine cj_of (cc := cX11_soldIn) (maxL := 5) (lv := [(0, .ref (ad 0)), (1, .int p0), (2, .int p1), (3, .int p2)]) (by decide) rfl (Nat.le_of_ble_eq_true rfl) rfl ?_
  intro p e s m args below meth c A Q C hret
  refine j_aload_n C 0 0 dX11_soldIn_0 rfl rfl ?_
  refine j_iload_n C 1 1 dX11_soldIn_1 rfl rfl ?_
  refine j_callVi C (d := 0) (As := [.int p0]) (st := []) 0 (by decide) rfl (by decide) rfl (k32_X11_isKind p0) gX11_soldIn_X11_isKind rfl hdX11_isKind (by decide) (Nat.le_of_ble_eq_true rfl) dX11_soldIn_2 rfl (fun r M' hp => ?_)
  obtain ⟨rfl, rfl⟩ := hp
  refine j_if_eq_t C 18 dX11_soldIn_5 (by decide) (by decide) ?_
  refine j_bipush C (-2) dX11_soldIn_18 (by decide) ?_
  refine j_istore C 4 [(4, .int (-2)), (0, .ref (ad 0)), (1, .int p0), (2, .int p1), (3, .int p2)] dX11_soldIn_20 (by decide) rfl ?_
  refine j_iload C 0 dX11_soldIn_22 rfl ?_
  refine j_if_eq_f C 31 dX11_soldIn_24 (by decide) (by decide) ?_
  refine j_iload C 0 dX11_soldIn_27 rfl ?_
  refine z_i2l C (-2) (by decide) dX11_soldIn_29 ?_
  exact hret _ _ _ _ dX11_soldIn_30 ⟨by first | rfl | (unfold fo_soldIn; rw [if_pos (by rw [nI_toInt (by omega)]; omega), nI_clamp (by omega)]; exact hrel) | (unfold fo_soldIn; (repeat' split) <;> first | rfl | (exfalso; omega) | (exfalso; simp_all; done)), MB_0⟩
set_option maxHeartbeats 4000000 in
set_option maxRecDepth 100000 in
theorem ox_hides {l : Launch} {dC : Nat → ClassId} {dI : Nat → Nat → Nat} {ad : Nat → Nat} {cA : Nat → ClassId} (p0 : Int32) (p1 : Int32) (p2 : Int32) : Ci l 2 yX11_hides wsX11_hides dC dI ad cA [.ref (ad 0), .int p0, .int p1, .int p2] M0 (fun r M' => r = fo_hides p0 p1 p2 ∧ MB M') := by
  refine ci_of (cc := cX11_hides) (maxL := 11) (ty := .int) (lv := [(0, .ref (ad 0)), (1, .int p0), (2, .int p1), (3, .int p2)]) (by decide) rfl (fun r M' hp => rfl) (Nat.le_of_ble_eq_true rfl) rfl ?_
  intro p e s m args below meth c A Q C hret
  refine j_iload_n C 3 3 dX11_hides_0 rfl rfl ?_
  refine z_if_lt C 9 p2.toInt rfl dX11_hides_1 (by decide) (fun h1 => ?_) (fun h1 => ?_)
  · refine j_bipush C (-2) dX11_hides_9 (by decide) ?_
    exact hret _ _ _ _ dX11_hides_11 ⟨by first | rfl | (unfold fo_hides; rw [if_pos (by rw [nI_toInt (by omega)]; omega), nI_clamp (by omega)]; exact hrel) | (unfold fo_hides; (repeat' split) <;> first | rfl | (exfalso; omega) | (exfalso; simp_all; done)), MB_0⟩
  · refine j_iload_n C 3 3 dX11_hides_4 rfl rfl ?_
    refine j_iconst C 1 dX11_hides_5 (by decide) ?_
    refine z_icmp_le C 12 p2.toInt 1 rfl (by decide) dX11_hides_6 (by decide) (fun h2 => ?_) (fun h2 => ?_)
    · refine j_iload_n C 1 1 dX11_hides_12 rfl rfl ?_
      refine z_if_lt C 32 p0.toInt rfl dX11_hides_13 (by decide) (fun h3 => ?_) (fun h3 => ?_)
      · refine j_bipush C (-3) dX11_hides_32 (by decide) ?_
        exact hret _ _ _ _ dX11_hides_34 ⟨by first | rfl | (unfold fo_hides; rw [if_pos (by rw [nI_toInt (by omega)]; omega), nI_clamp (by omega)]; exact hrel) | (unfold fo_hides; (repeat' split) <;> first | rfl | (exfalso; omega) | (exfalso; simp_all; done)), MB_0⟩
      · refine j_iload_n C 1 1 dX11_hides_16 rfl rfl ?_
        refine j_iconst C 3 dX11_hides_17 (by decide) ?_
        refine z_icmp_gt C 32 p0.toInt 3 rfl (by decide) dX11_hides_18 (by decide) (fun h4 => ?_) (fun h4 => ?_)
        · refine j_bipush C (-3) dX11_hides_32 (by decide) ?_
          exact hret _ _ _ _ dX11_hides_34 ⟨by first | rfl | (unfold fo_hides; rw [if_pos (by rw [nI_toInt (by omega)]; omega), nI_clamp (by omega)]; exact hrel) | (unfold fo_hides; (repeat' split) <;> first | rfl | (exfalso; omega) | (exfalso; simp_all; done)), MB_0⟩
        · refine j_iload_n C 2 2 dX11_hides_21 rfl rfl ?_
          refine j_iconst C 1 dX11_hides_22 (by decide) ?_
          refine z_icmp_lt C 32 p1.toInt 1 rfl (by decide) dX11_hides_23 (by decide) (fun h5 => ?_) (fun h5 => ?_)
          · refine j_bipush C (-3) dX11_hides_32 (by decide) ?_
            exact hret _ _ _ _ dX11_hides_34 ⟨by first | rfl | (unfold fo_hides; rw [if_pos (by rw [nI_toInt (by omega)]; omega), nI_clamp (by omega)]; exact hrel) | (unfold fo_hides; (repeat' split) <;> first | rfl | (exfalso; omega) | (exfalso; simp_all; done)), MB_0⟩
          · refine j_iload_n C 2 2 dX11_hides_26 rfl rfl ?_
            refine j_bipush C 6 dX11_hides_27 (by decide) ?_
            refine z_icmp_le C 35 p1.toInt 6 rfl (by decide) dX11_hides_29 (by decide) (fun h6 => ?_) (fun h6 => ?_)
            · refine j_aload_n C 0 0 dX11_hides_35 rfl rfl ?_
              refine j_getP C 10 12 fX11_hides_36 (by decide) rfl (by decide) rfl rfl dX11_hides_36 ?_
              refine j_callVi C (d := 1) (As := []) (st := []) 12 (by decide) rfl (by decide) rfl (k64_X9_isShut) gX11_hides_X9_isShut rfl hdX9_isShut (by decide) (Nat.le_of_ble_eq_true rfl) dX11_hides_39 rfl (fun r M' hp => ?_)
              obtain ⟨rfl, rfl⟩ := hp
              refine j_if_eq_f C 48 dX11_hides_42 (by decide) (by decide) ?_
              refine j_bipush C (-5) dX11_hides_45 (by decide) ?_
              exact hret _ _ _ _ dX11_hides_47 ⟨by first | rfl | (unfold fo_hides; rw [if_pos (by rw [nI_toInt (by omega)]; omega), nI_clamp (by omega)]; exact hrel) | (unfold fo_hides; (repeat' split) <;> first | rfl | (exfalso; omega) | (exfalso; simp_all; done)), MB_0⟩
            · refine j_bipush C (-3) dX11_hides_32 (by decide) ?_
              exact hret _ _ _ _ dX11_hides_34 ⟨by first | rfl | (unfold fo_hides; rw [if_pos (by rw [nI_toInt (by omega)]; omega), nI_clamp (by omega)]; exact hrel) | (unfold fo_hides; (repeat' split) <;> first | rfl | (exfalso; omega) | (exfalso; simp_all; done)), MB_0⟩
    · refine j_bipush C (-2) dX11_hides_9 (by decide) ?_
      exact hret _ _ _ _ dX11_hides_11 ⟨by first | rfl | (unfold fo_hides; rw [if_pos (by rw [nI_toInt (by omega)]; omega), nI_clamp (by omega)]; exact hrel) | (unfold fo_hides; (repeat' split) <;> first | rfl | (exfalso; omega) | (exfalso; simp_all; done)), MB_0⟩
set_option maxHeartbeats 4000000 in
set_option maxRecDepth 100000 in
theorem ox_rota {l : Launch} {dC : Nat → ClassId} {dI : Nat → Nat → Nat} {ad : Nat → Nat} {cA : Nat → ClassId} (p0 : Int32) : Ci l 2 yX11_rota wsX11_rota dC dI ad cA [.ref (ad 0), .int p0] M0 (fun r M' => r = fo_rota p0 ∧ MB M') := by
  refine ci_of (cc := cX11_rota) (maxL := 5) (ty := .int) (lv := [(0, .ref (ad 0)), (1, .int p0)]) (by decide) rfl (fun r M' hp => rfl) (Nat.le_of_ble_eq_true rfl) rfl ?_
  intro p e s m args below meth c A Q C hret
  refine j_iload_n C 1 1 dX11_rota_0 rfl rfl ?_
  refine z_if_lt C 9 p0.toInt rfl dX11_rota_1 (by decide) (fun h1 => ?_) (fun h1 => ?_)
  · refine j_bipush C (-2) dX11_rota_9 (by decide) ?_
    exact hret _ _ _ _ dX11_rota_11 ⟨by first | rfl | (unfold fo_rota; rw [if_pos (by rw [nI_toInt (by omega)]; omega), nI_clamp (by omega)]; exact hrel) | (unfold fo_rota; (repeat' split) <;> first | rfl | (exfalso; omega) | (exfalso; simp_all; done)), MB_0⟩
  · refine j_iload_n C 1 1 dX11_rota_4 rfl rfl ?_
    refine j_iconst C 1 dX11_rota_5 (by decide) ?_
    refine z_icmp_le C 12 p0.toInt 1 rfl (by decide) dX11_rota_6 (by decide) (fun h2 => ?_) (fun h2 => ?_)
    · refine j_aload_n C 0 0 dX11_rota_12 rfl rfl ?_
      refine j_getP C 10 12 fX11_rota_36 (by decide) rfl (by decide) rfl rfl dX11_rota_13 ?_
      refine j_callVi C (d := 1) (As := []) (st := []) 12 (by decide) rfl (by decide) rfl (k64_X9_isShut) gX11_rota_X9_isShut rfl hdX9_isShut (by decide) (Nat.le_of_ble_eq_true rfl) dX11_rota_16 rfl (fun r M' hp => ?_)
      obtain ⟨rfl, rfl⟩ := hp
      refine j_if_eq_f C 25 dX11_rota_19 (by decide) (by decide) ?_
      refine j_bipush C (-5) dX11_rota_22 (by decide) ?_
      exact hret _ _ _ _ dX11_rota_24 ⟨by first | rfl | (unfold fo_rota; rw [if_pos (by rw [nI_toInt (by omega)]; omega), nI_clamp (by omega)]; exact hrel) | (unfold fo_rota; (repeat' split) <;> first | rfl | (exfalso; omega) | (exfalso; simp_all; done)), MB_0⟩
    · refine j_bipush C (-2) dX11_rota_9 (by decide) ?_
      exact hret _ _ _ _ dX11_rota_11 ⟨by first | rfl | (unfold fo_rota; rw [if_pos (by rw [nI_toInt (by omega)]; omega), nI_clamp (by omega)]; exact hrel) | (unfold fo_rota; (repeat' split) <;> first | rfl | (exfalso; omega) | (exfalso; simp_all; done)), MB_0⟩
set_option maxHeartbeats 4000000 in
set_option maxRecDepth 100000 in
theorem k217_X11_chanceRefusal {l : Launch} {dC : Nat → ClassId} {dI : Nat → Nat → Nat} {ad : Nat → Nat} {cA : Nat → ClassId} (p0 : Int32) (p1 : Int32) : Ci l 0 yX11_chanceRefusal wsX11_chanceRefusal dC dI ad cA [.int p0, .int p1, .int 8] M0 (fun r M' => ((p0.toInt < 0) ∧ (-2) = r ∧ M0 = M') ∨ ((¬ p0.toInt < 0 ∧ p0.toInt ≤ 1 ∧ p1.toInt < 0) ∧ (-3) = r ∧ M0 = M') ∨ ((¬ p0.toInt < 0 ∧ p0.toInt ≤ 1 ∧ ¬ p1.toInt < 0 ∧ p1.toInt ≤ 8) ∧ 0 = r ∧ M0 = M') ∨ ((¬ p0.toInt < 0 ∧ p0.toInt ≤ 1 ∧ ¬ p1.toInt < 0 ∧ ¬ p1.toInt ≤ 8) ∧ (-3) = r ∧ M0 = M') ∨ ((¬ p0.toInt < 0 ∧ ¬ p0.toInt ≤ 1) ∧ (-2) = r ∧ M0 = M')) := by
  refine ci_of (cc := cX11_chanceRefusal) (maxL := 3) (ty := .int) (lv := [(0, .int p0), (1, .int p1), (2, .int 8)]) (by decide) rfl (fun r M' hp => rfl) (Nat.le_of_ble_eq_true rfl) rfl ?_
  intro p e s m args below meth c A Q C hret
  refine j_iload_n C 0 0 dX11_chanceRefusal_0 rfl rfl ?_
  refine z_if_lt C 9 p0.toInt rfl dX11_chanceRefusal_1 (by decide) (fun h1 => ?_) (fun h1 => ?_)
  · refine j_bipush C (-2) dX11_chanceRefusal_9 (by decide) ?_
    exact hret _ _ _ _ dX11_chanceRefusal_11 (Or.inl ⟨h1, rfl, rfl⟩)
  · refine j_iload_n C 0 0 dX11_chanceRefusal_4 rfl rfl ?_
    refine j_iconst C 1 dX11_chanceRefusal_5 (by decide) ?_
    refine z_icmp_le C 12 p0.toInt 1 rfl (by decide) dX11_chanceRefusal_6 (by decide) (fun h2 => ?_) (fun h2 => ?_)
    · refine j_iload_n C 1 1 dX11_chanceRefusal_12 rfl rfl ?_
      refine z_if_lt C 21 p1.toInt rfl dX11_chanceRefusal_13 (by decide) (fun h3 => ?_) (fun h3 => ?_)
      · refine j_bipush C (-3) dX11_chanceRefusal_21 (by decide) ?_
        refine j_goto C 27 dX11_chanceRefusal_23 (by decide) ?_
        exact hret _ _ _ _ dX11_chanceRefusal_27 (Or.inr (Or.inl ⟨⟨h1, h2, h3⟩, rfl, rfl⟩))
      · refine j_iload_n C 1 1 dX11_chanceRefusal_16 rfl rfl ?_
        refine j_iload_n C 2 2 dX11_chanceRefusal_17 rfl rfl ?_
        refine z_icmp_le C 26 p1.toInt 8 rfl (by decide) dX11_chanceRefusal_18 (by decide) (fun h4 => ?_) (fun h4 => ?_)
        · refine j_iconst C 0 dX11_chanceRefusal_26 (by decide) ?_
          exact hret _ _ _ _ dX11_chanceRefusal_27 (Or.inr (Or.inr (Or.inl ⟨⟨h1, h2, h3, h4⟩, rfl, rfl⟩)))
        · refine j_bipush C (-3) dX11_chanceRefusal_21 (by decide) ?_
          refine j_goto C 27 dX11_chanceRefusal_23 (by decide) ?_
          exact hret _ _ _ _ dX11_chanceRefusal_27 (Or.inr (Or.inr (Or.inr (Or.inl ⟨⟨h1, h2, h3, h4⟩, rfl, rfl⟩))))
    · refine j_bipush C (-2) dX11_chanceRefusal_9 (by decide) ?_
      exact hret _ _ _ _ dX11_chanceRefusal_11 (Or.inr (Or.inr (Or.inr (Or.inr ⟨⟨h1, h2⟩, rfl, rfl⟩))))
set_option maxHeartbeats 4000000 in
set_option maxRecDepth 100000 in
theorem ox_earns {l : Launch} {dC : Nat → ClassId} {dI : Nat → Nat → Nat} {ad : Nat → Nat} {cA : Nat → ClassId} (p0 : Int32) (p1 : Int32) : Cj l 3 yX11_earns wsX11_earns dC dI ad cA [.ref (ad 0), .int p0, .int p1] M0 (fun r M' => r = fo_earns p0 p1 ∧ MB M') := by
  refine cj_of (cc := cX11_earns) (maxL := 4) (lv := [(0, .ref (ad 0)), (1, .int p0), (2, .int p1)]) (by decide) rfl (Nat.le_of_ble_eq_true rfl) rfl ?_
  intro p e s m args below meth c A Q C hret
  refine j_iload_n C 2 2 dX11_earns_0 rfl rfl ?_
  refine j_iload_n C 1 1 dX11_earns_1 rfl rfl ?_
  refine j_bipush C 8 dX11_earns_2 (by decide) ?_
  refine j_callSi C (d := 0) (As := [.int p1, .int p0, .int 8]) (st := []) (k217_X11_chanceRefusal p1 p0) gX11_earns_X11_chanceRefusal rfl hdX11_chanceRefusals (by decide) (Nat.le_of_ble_eq_true rfl) dX11_earns_4 rfl (fun r M' hp => ?_)
  rcases hp with ⟨h1, rfl, rfl⟩ | ⟨⟨h2, h3, h4⟩, rfl, rfl⟩ | ⟨⟨h5, h6, h7, h8⟩, rfl, rfl⟩ | ⟨⟨h9, h10, h11, h12⟩, rfl, rfl⟩ | ⟨⟨h13, h14⟩, rfl, rfl⟩
  · refine j_istore_n C 3 [(3, .int (-2)), (0, .ref (ad 0)), (1, .int p0), (2, .int p1)] dX11_earns_7 rfl (by decide) rfl ?_
    refine j_iload_n C 0 3 dX11_earns_8 rfl rfl ?_
    refine j_if_eq_f C 15 dX11_earns_9 (by decide) (by decide) ?_
    refine j_iload_n C 0 3 dX11_earns_12 rfl rfl ?_
    refine z_i2l C (-2) (by decide) dX11_earns_13 ?_
    exact hret _ _ _ _ dX11_earns_14 ⟨by first | rfl | (unfold fo_earns; rw [if_pos (by rw [nI_toInt (by omega)]; omega), nI_clamp (by omega)]; exact hrel) | (unfold fo_earns; (repeat' split) <;> first | rfl | (exfalso; omega) | (exfalso; simp_all; done)), MB_0⟩
  · refine j_istore_n C 3 [(3, .int (-3)), (0, .ref (ad 0)), (1, .int p0), (2, .int p1)] dX11_earns_7 rfl (by decide) rfl ?_
    refine j_iload_n C 0 3 dX11_earns_8 rfl rfl ?_
    refine j_if_eq_f C 15 dX11_earns_9 (by decide) (by decide) ?_
    refine j_iload_n C 0 3 dX11_earns_12 rfl rfl ?_
    refine z_i2l C (-3) (by decide) dX11_earns_13 ?_
    exact hret _ _ _ _ dX11_earns_14 ⟨by first | rfl | (unfold fo_earns; rw [if_pos (by rw [nI_toInt (by omega)]; omega), nI_clamp (by omega)]; exact hrel) | (unfold fo_earns; (repeat' split) <;> first | rfl | (exfalso; omega) | (exfalso; simp_all; done)), MB_0⟩
  · refine j_istore_n C 3 [(3, .int 0), (0, .ref (ad 0)), (1, .int p0), (2, .int p1)] dX11_earns_7 rfl (by decide) rfl ?_
    refine j_iload_n C 0 3 dX11_earns_8 rfl rfl ?_
    refine j_if_eq_t C 15 dX11_earns_9 (by decide) (by decide) ?_
    refine j_aload_n C 1 0 dX11_earns_15 rfl rfl ?_
    refine j_getP C 10 88 fX11_earns_94 (by decide) rfl (by decide) rfl rfl dX11_earns_16 ?_
    refine j_aload_n C 1 0 dX11_earns_19 rfl rfl ?_
    refine j_getP C 10 2 fX11_earns_26 (by decide) rfl (by decide) rfl rfl dX11_earns_20 ?_
    refine j_aload_n C 1 0 dX11_earns_23 rfl rfl ?_
    refine j_getP C 10 12 fX11_earns_36 (by decide) rfl (by decide) rfl rfl dX11_earns_24 ?_
    refine j_aload_n C 1 0 dX11_earns_27 rfl rfl ?_
    refine j_getP C 10 12 fX11_earns_36 (by decide) rfl (by decide) rfl rfl dX11_earns_28 ?_
    refine j_getI C 8 0 fX11_earns_153 (by decide) rfl (by decide) rfl rfl dX11_earns_31 ?_
    refine j_callVv C (d := 2) (As := [.ref (ad 2), .ref (ad 12), .int 0]) (st := []) 88 (by decide) rfl (by decide) rfl (k110_X5_look) gX11_earns_X5_look rfl hdX5_look (by decide) (Nat.le_of_ble_eq_true rfl) dX11_earns_34 rfl (fun M' hp => ?_)
    obtain rfl := hp
    refine j_aload_n C 1 0 dX11_earns_37 rfl rfl ?_
    refine j_getP C 10 88 fX11_earns_94 (by decide) rfl (by decide) rfl rfl dX11_earns_38 ?_
    refine j_iload_n C 2 1 dX11_earns_41 rfl rfl ?_
    refine j_callVv C (d := 2) (As := [.int p0]) (st := []) 88 (by decide) rfl (by decide) rfl (k182_X5_passDays p0) gX11_earns_X5_passDays rfl hdX5_passDays (by decide) (Nat.le_of_ble_eq_true rfl) dX11_earns_42 rfl (fun M' hp => ?_)
    obtain rfl := hp
    refine j_aload_n C 1 0 dX11_earns_45 rfl rfl ?_
    refine j_getP C 10 88 fX11_earns_94 (by decide) rfl (by decide) rfl rfl dX11_earns_46 ?_
    refine j_getJ C 4 0 fX11_earns_341 (by decide) rfl (by decide) rfl rfl dX11_earns_49 ?_
    refine j_aload_n C 1 0 dX11_earns_52 rfl rfl ?_
    refine j_getP C 10 88 fX11_earns_94 (by decide) rfl (by decide) rfl rfl dX11_earns_53 ?_
    refine j_getJ C 4 1 fX11_earns_296 (by decide) rfl (by decide) rfl rfl dX11_earns_56 ?_
    refine j_iload_n C 3 2 dX11_earns_59 rfl rfl ?_
    refine j_callSj C (d := 1) (As := [.long 0, .long 1, .int p1]) (st := []) (k184_X11_inLowestTerms p1) gX11_earns_X11_inLowestTerms rfl hdX11_inLowestTermss (by decide) (Nat.le_of_ble_eq_true rfl) dX11_earns_60 rfl (fun r M' hp => ?_)
    rcases hp with ⟨h15, rfl, rfl⟩ | ⟨⟨h16, h17⟩, rfl, rfl⟩
    · obtain rfl : p1 = 1 := Int32.toInt_inj.mp (show p1.toInt = (1 : Int32).toInt by rw [show (1 : Int32).toInt = 1 from rfl]; omega)
      show jj _ _ _ _ _ _ _ _ _ _ _ _ _ _ _ _ _ _ _ (wJ (wI M0 90 0 1) 92 0 1) 63 [(3, .int 0), (0, .ref (ad 0)), (1, .int p0), (2, .int 1)] [.long 1]
      exact hret _ _ _ _ dX11_earns_63 ⟨by first | rfl | (unfold fo_earns; rw [if_pos (by rw [nI_toInt (by omega)]; omega), nI_clamp (by omega)]; exact hrel) | (unfold fo_earns; (repeat' split) <;> first | rfl | (exfalso; omega) | (exfalso; simp_all; done)), (MB_J (MB_I MB_0 (by decide)) (by decide))⟩
    · obtain rfl : p1 = 0 := Int32.toInt_inj.mp (show p1.toInt = (0 : Int32).toInt by rw [show (0 : Int32).toInt = 0 from rfl]; omega)
      show jj _ _ _ _ _ _ _ _ _ _ _ _ _ _ _ _ _ _ _ (wJ (wI M0 90 0 1) 92 0 1) 63 [(3, .int 0), (0, .ref (ad 0)), (1, .int p0), (2, .int 0)] [.long 0]
      exact hret _ _ _ _ dX11_earns_63 ⟨by first | rfl | (unfold fo_earns; rw [if_pos (by rw [nI_toInt (by omega)]; omega), nI_clamp (by omega)]; exact hrel) | (unfold fo_earns; (repeat' split) <;> first | rfl | (exfalso; omega) | (exfalso; simp_all; done)), (MB_J (MB_I MB_0 (by decide)) (by decide))⟩
  · refine j_istore_n C 3 [(3, .int (-3)), (0, .ref (ad 0)), (1, .int p0), (2, .int p1)] dX11_earns_7 rfl (by decide) rfl ?_
    refine j_iload_n C 0 3 dX11_earns_8 rfl rfl ?_
    refine j_if_eq_f C 15 dX11_earns_9 (by decide) (by decide) ?_
    refine j_iload_n C 0 3 dX11_earns_12 rfl rfl ?_
    refine z_i2l C (-3) (by decide) dX11_earns_13 ?_
    exact hret _ _ _ _ dX11_earns_14 ⟨by first | rfl | (unfold fo_earns; rw [if_pos (by rw [nI_toInt (by omega)]; omega), nI_clamp (by omega)]; exact hrel) | (unfold fo_earns; (repeat' split) <;> first | rfl | (exfalso; omega) | (exfalso; simp_all; done)), MB_0⟩
  · refine j_istore_n C 3 [(3, .int (-2)), (0, .ref (ad 0)), (1, .int p0), (2, .int p1)] dX11_earns_7 rfl (by decide) rfl ?_
    refine j_iload_n C 0 3 dX11_earns_8 rfl rfl ?_
    refine j_if_eq_f C 15 dX11_earns_9 (by decide) (by decide) ?_
    refine j_iload_n C 0 3 dX11_earns_12 rfl rfl ?_
    refine z_i2l C (-2) (by decide) dX11_earns_13 ?_
    exact hret _ _ _ _ dX11_earns_14 ⟨by first | rfl | (unfold fo_earns; rw [if_pos (by rw [nI_toInt (by omega)]; omega), nI_clamp (by omega)]; exact hrel) | (unfold fo_earns; (repeat' split) <;> first | rfl | (exfalso; omega) | (exfalso; simp_all; done)), MB_0⟩
set_option maxHeartbeats 4000000 in
set_option maxRecDepth 100000 in
theorem ox_bestPrice {l : Launch} {dC : Nat → ClassId} {dI : Nat → Nat → Nat} {ad : Nat → Nat} {cA : Nat → ClassId} (p0 : Int32) (p1 : Int32) : Ci l 1 yX11_bestPrice wsX11_bestPrice dC dI ad cA [.ref (ad 0), .int p0, .int p1] M0 (fun r M' => r = fo_bestPrice p0 p1 ∧ MB M') := by
  refine ci_of (cc := cX11_bestPrice) (maxL := 7) (ty := .int) (lv := [(0, .ref (ad 0)), (1, .int p0), (2, .int p1)]) (by decide) rfl (fun r M' hp => rfl) (Nat.le_of_ble_eq_true rfl) rfl ?_
  intro p e s m args below meth c A Q C hret
  refine j_aload_n C 0 0 dX11_bestPrice_0 rfl rfl ?_
  refine j_iload_n C 1 1 dX11_bestPrice_1 rfl rfl ?_
  refine j_callVi C (d := 0) (As := [.int p0]) (st := []) 0 (by decide) rfl (by decide) rfl (k32_X11_isKind p0) gX11_bestPrice_X11_isKind rfl hdX11_isKind (by decide) (Nat.le_of_ble_eq_true rfl) dX11_bestPrice_2 rfl (fun r M' hp => ?_)
  obtain ⟨rfl, rfl⟩ := hp
  refine j_if_ne_f C 11 dX11_bestPrice_5 (by decide) (by decide) ?_
  refine j_bipush C (-2) dX11_bestPrice_8 (by decide) ?_
  exact hret _ _ _ _ dX11_bestPrice_10 ⟨by first | rfl | (unfold fo_bestPrice; rw [if_pos (by rw [nI_toInt (by omega)]; omega), nI_clamp (by omega)]; exact hrel) | (unfold fo_bestPrice; (repeat' split) <;> first | rfl | (exfalso; omega) | (exfalso; simp_all; done)), MB_0⟩
set_option maxHeartbeats 4000000 in
set_option maxRecDepth 100000 in
theorem k223_X11_seenRefusal {l : Launch} {dC : Nat → ClassId} {dI : Nat → Nat → Nat} {ad : Nat → Nat} {cA : Nat → ClassId} (p0 : Int32) : Ci l 2 yX11_seenRefusal wsX11_seenRefusal dC dI ad cA [.ref (ad 0), .int p0] M0 (fun r M' => ((p0.toInt < 0) ∧ (-2) = r ∧ M0 = M') ∨ ((¬ p0.toInt < 0 ∧ 4 ≤ p0.toInt) ∧ (-2) = r ∧ M0 = M') ∨ ((¬ p0.toInt < 0 ∧ ¬ 4 ≤ p0.toInt ∧ p0 = 0) ∧ (-6) = r ∧ M0 = M') ∨ ((¬ p0.toInt < 0 ∧ ¬ 4 ≤ p0.toInt ∧ p0 = 1) ∧ (-6) = r ∧ M0 = M') ∨ ((¬ p0.toInt < 0 ∧ ¬ 4 ≤ p0.toInt ∧ p0 = 2) ∧ (-6) = r ∧ M0 = M') ∨ ((¬ p0.toInt < 0 ∧ ¬ 4 ≤ p0.toInt ∧ p0 = 3) ∧ (-6) = r ∧ M0 = M')) := by
  refine ci_of (cc := cX11_seenRefusal) (maxL := 5) (ty := .int) (lv := [(0, .ref (ad 0)), (1, .int p0)]) (by decide) rfl (fun r M' hp => rfl) (Nat.le_of_ble_eq_true rfl) rfl ?_
  intro p e s m args below meth c A Q C hret
  refine j_aload_n C 0 0 dX11_seenRefusal_0 rfl rfl ?_
  refine j_iload_n C 1 1 dX11_seenRefusal_1 rfl rfl ?_
  refine j_callVi C (d := 1) (As := [.int p0]) (st := []) 0 (by decide) rfl (by decide) rfl (k103_X11_trayRefusal p0) gX11_seenRefusal_X11_trayRefusal rfl hdX11_trayRefusal (by decide) (Nat.le_of_ble_eq_true rfl) dX11_seenRefusal_2 rfl (fun r M' hp => ?_)
  rcases hp with ⟨h1, rfl, rfl⟩ | ⟨⟨h2, h3⟩, rfl, rfl⟩ | ⟨⟨h4, h5, h6⟩, rfl, rfl⟩ | ⟨⟨h7, h8, h9⟩, rfl, rfl⟩ | ⟨⟨h10, h11, h12⟩, rfl, rfl⟩ | ⟨⟨h13, h14, h15⟩, rfl, rfl⟩
  · refine j_istore_n C 2 [(2, .int (-2)), (0, .ref (ad 0)), (1, .int p0)] dX11_seenRefusal_5 rfl (by decide) rfl ?_
    refine j_iload_n C 0 2 dX11_seenRefusal_6 rfl rfl ?_
    refine j_if_eq_f C 12 dX11_seenRefusal_7 (by decide) (by decide) ?_
    refine j_iload_n C 0 2 dX11_seenRefusal_10 rfl rfl ?_
    exact hret _ _ _ _ dX11_seenRefusal_11 (Or.inl ⟨h1, rfl, rfl⟩)
  · refine j_istore_n C 2 [(2, .int (-2)), (0, .ref (ad 0)), (1, .int p0)] dX11_seenRefusal_5 rfl (by decide) rfl ?_
    refine j_iload_n C 0 2 dX11_seenRefusal_6 rfl rfl ?_
    refine j_if_eq_f C 12 dX11_seenRefusal_7 (by decide) (by decide) ?_
    refine j_iload_n C 0 2 dX11_seenRefusal_10 rfl rfl ?_
    exact hret _ _ _ _ dX11_seenRefusal_11 (Or.inr (Or.inl ⟨⟨h2, h3⟩, rfl, rfl⟩))
  · refine j_istore_n C 2 [(2, .int (-6)), (0, .ref (ad 0)), (1, .int p0)] dX11_seenRefusal_5 rfl (by decide) rfl ?_
    refine j_iload_n C 0 2 dX11_seenRefusal_6 rfl rfl ?_
    refine j_if_eq_f C 12 dX11_seenRefusal_7 (by decide) (by decide) ?_
    refine j_iload_n C 0 2 dX11_seenRefusal_10 rfl rfl ?_
    exact hret _ _ _ _ dX11_seenRefusal_11 (Or.inr (Or.inr (Or.inl ⟨⟨h4, h5, h6⟩, rfl, rfl⟩)))
  · refine j_istore_n C 2 [(2, .int (-6)), (0, .ref (ad 0)), (1, .int p0)] dX11_seenRefusal_5 rfl (by decide) rfl ?_
    refine j_iload_n C 0 2 dX11_seenRefusal_6 rfl rfl ?_
    refine j_if_eq_f C 12 dX11_seenRefusal_7 (by decide) (by decide) ?_
    refine j_iload_n C 0 2 dX11_seenRefusal_10 rfl rfl ?_
    exact hret _ _ _ _ dX11_seenRefusal_11 (Or.inr (Or.inr (Or.inr (Or.inl ⟨⟨h7, h8, h9⟩, rfl, rfl⟩))))
  · refine j_istore_n C 2 [(2, .int (-6)), (0, .ref (ad 0)), (1, .int p0)] dX11_seenRefusal_5 rfl (by decide) rfl ?_
    refine j_iload_n C 0 2 dX11_seenRefusal_6 rfl rfl ?_
    refine j_if_eq_f C 12 dX11_seenRefusal_7 (by decide) (by decide) ?_
    refine j_iload_n C 0 2 dX11_seenRefusal_10 rfl rfl ?_
    exact hret _ _ _ _ dX11_seenRefusal_11 (Or.inr (Or.inr (Or.inr (Or.inr (Or.inl ⟨⟨h10, h11, h12⟩, rfl, rfl⟩)))))
  · refine j_istore_n C 2 [(2, .int (-6)), (0, .ref (ad 0)), (1, .int p0)] dX11_seenRefusal_5 rfl (by decide) rfl ?_
    refine j_iload_n C 0 2 dX11_seenRefusal_6 rfl rfl ?_
    refine j_if_eq_f C 12 dX11_seenRefusal_7 (by decide) (by decide) ?_
    refine j_iload_n C 0 2 dX11_seenRefusal_10 rfl rfl ?_
    exact hret _ _ _ _ dX11_seenRefusal_11 (Or.inr (Or.inr (Or.inr (Or.inr (Or.inr ⟨⟨h13, h14, h15⟩, rfl, rfl⟩)))))
set_option maxHeartbeats 4000000 in
set_option maxRecDepth 100000 in
theorem ox_seen {l : Launch} {dC : Nat → ClassId} {dI : Nat → Nat → Nat} {ad : Nat → Nat} {cA : Nat → ClassId} (p0 : Int32) : Ci l 3 yX11_seen wsX11_seen dC dI ad cA [.ref (ad 0), .int p0] M0 (fun r M' => r = fo_seen p0 ∧ MB M') := by
  refine ci_of (cc := cX11_seen) (maxL := 3) (ty := .int) (lv := [(0, .ref (ad 0)), (1, .int p0)]) (by decide) rfl (fun r M' hp => rfl) (Nat.le_of_ble_eq_true rfl) rfl ?_
  intro p e s m args below meth c A Q C hret
  refine j_aload_n C 0 0 dX11_seen_0 rfl rfl ?_
  refine j_iload_n C 1 1 dX11_seen_1 rfl rfl ?_
  refine j_callVi C (d := 2) (As := [.int p0]) (st := []) 0 (by decide) rfl (by decide) rfl (k223_X11_seenRefusal p0) gX11_seen_X11_seenRefusal rfl hdX11_seenRefusal (by decide) (Nat.le_of_ble_eq_true rfl) dX11_seen_2 rfl (fun r M' hp => ?_)
  rcases hp with ⟨h1, rfl, rfl⟩ | ⟨⟨h2, h3⟩, rfl, rfl⟩ | ⟨⟨h4, h5, h6⟩, rfl, rfl⟩ | ⟨⟨h7, h8, h9⟩, rfl, rfl⟩ | ⟨⟨h10, h11, h12⟩, rfl, rfl⟩ | ⟨⟨h13, h14, h15⟩, rfl, rfl⟩
  · refine j_istore_n C 2 [(2, .int (-2)), (0, .ref (ad 0)), (1, .int p0)] dX11_seen_5 rfl (by decide) rfl ?_
    refine j_iload_n C 0 2 dX11_seen_6 rfl rfl ?_
    refine j_if_eq_f C 12 dX11_seen_7 (by decide) (by decide) ?_
    refine j_iload_n C 0 2 dX11_seen_10 rfl rfl ?_
    exact hret _ _ _ _ dX11_seen_11 ⟨by first | rfl | (unfold fo_seen; rw [if_pos (by rw [nI_toInt (by omega)]; omega), nI_clamp (by omega)]; exact hrel) | (unfold fo_seen; (repeat' split) <;> first | rfl | (exfalso; omega) | (exfalso; simp_all; done)), MB_0⟩
  · refine j_istore_n C 2 [(2, .int (-2)), (0, .ref (ad 0)), (1, .int p0)] dX11_seen_5 rfl (by decide) rfl ?_
    refine j_iload_n C 0 2 dX11_seen_6 rfl rfl ?_
    refine j_if_eq_f C 12 dX11_seen_7 (by decide) (by decide) ?_
    refine j_iload_n C 0 2 dX11_seen_10 rfl rfl ?_
    exact hret _ _ _ _ dX11_seen_11 ⟨by first | rfl | (unfold fo_seen; rw [if_pos (by rw [nI_toInt (by omega)]; omega), nI_clamp (by omega)]; exact hrel) | (unfold fo_seen; (repeat' split) <;> first | rfl | (exfalso; omega) | (exfalso; simp_all; done)), MB_0⟩
  · refine j_istore_n C 2 [(2, .int (-6)), (0, .ref (ad 0)), (1, .int p0)] dX11_seen_5 rfl (by decide) rfl ?_
    refine j_iload_n C 0 2 dX11_seen_6 rfl rfl ?_
    refine j_if_eq_f C 12 dX11_seen_7 (by decide) (by decide) ?_
    refine j_iload_n C 0 2 dX11_seen_10 rfl rfl ?_
    exact hret _ _ _ _ dX11_seen_11 ⟨by first | rfl | (unfold fo_seen; rw [if_pos (by rw [nI_toInt (by omega)]; omega), nI_clamp (by omega)]; exact hrel) | (unfold fo_seen; (repeat' split) <;> first | rfl | (exfalso; omega) | (exfalso; simp_all; done)), MB_0⟩
  · refine j_istore_n C 2 [(2, .int (-6)), (0, .ref (ad 0)), (1, .int p0)] dX11_seen_5 rfl (by decide) rfl ?_
    refine j_iload_n C 0 2 dX11_seen_6 rfl rfl ?_
    refine j_if_eq_f C 12 dX11_seen_7 (by decide) (by decide) ?_
    refine j_iload_n C 0 2 dX11_seen_10 rfl rfl ?_
    exact hret _ _ _ _ dX11_seen_11 ⟨by first | rfl | (unfold fo_seen; rw [if_pos (by rw [nI_toInt (by omega)]; omega), nI_clamp (by omega)]; exact hrel) | (unfold fo_seen; (repeat' split) <;> first | rfl | (exfalso; omega) | (exfalso; simp_all; done)), MB_0⟩
  · refine j_istore_n C 2 [(2, .int (-6)), (0, .ref (ad 0)), (1, .int p0)] dX11_seen_5 rfl (by decide) rfl ?_
    refine j_iload_n C 0 2 dX11_seen_6 rfl rfl ?_
    refine j_if_eq_f C 12 dX11_seen_7 (by decide) (by decide) ?_
    refine j_iload_n C 0 2 dX11_seen_10 rfl rfl ?_
    exact hret _ _ _ _ dX11_seen_11 ⟨by first | rfl | (unfold fo_seen; rw [if_pos (by rw [nI_toInt (by omega)]; omega), nI_clamp (by omega)]; exact hrel) | (unfold fo_seen; (repeat' split) <;> first | rfl | (exfalso; omega) | (exfalso; simp_all; done)), MB_0⟩
  · refine j_istore_n C 2 [(2, .int (-6)), (0, .ref (ad 0)), (1, .int p0)] dX11_seen_5 rfl (by decide) rfl ?_
    refine j_iload_n C 0 2 dX11_seen_6 rfl rfl ?_
    refine j_if_eq_f C 12 dX11_seen_7 (by decide) (by decide) ?_
    refine j_iload_n C 0 2 dX11_seen_10 rfl rfl ?_
    exact hret _ _ _ _ dX11_seen_11 ⟨by first | rfl | (unfold fo_seen; rw [if_pos (by rw [nI_toInt (by omega)]; omega), nI_clamp (by omega)]; exact hrel) | (unfold fo_seen; (repeat' split) <;> first | rfl | (exfalso; omega) | (exfalso; simp_all; done)), MB_0⟩
set_option maxHeartbeats 4000000 in
set_option maxRecDepth 100000 in
theorem ox_sureGone {l : Launch} {dC : Nat → ClassId} {dI : Nat → Nat → Nat} {ad : Nat → Nat} {cA : Nat → ClassId} (p0 : Int32) : Ci l 3 yX11_sureGone wsX11_sureGone dC dI ad cA [.ref (ad 0), .int p0] M0 (fun r M' => r = fo_sureGone p0 ∧ MB M') := by
  refine ci_of (cc := cX11_sureGone) (maxL := 3) (ty := .int) (lv := [(0, .ref (ad 0)), (1, .int p0)]) (by decide) rfl (fun r M' hp => rfl) (Nat.le_of_ble_eq_true rfl) rfl ?_
  intro p e s m args below meth c A Q C hret
  refine j_aload_n C 0 0 dX11_sureGone_0 rfl rfl ?_
  refine j_iload_n C 1 1 dX11_sureGone_1 rfl rfl ?_
  refine j_callVi C (d := 2) (As := [.int p0]) (st := []) 0 (by decide) rfl (by decide) rfl (k223_X11_seenRefusal p0) gX11_sureGone_X11_seenRefusal rfl hdX11_seenRefusal (by decide) (Nat.le_of_ble_eq_true rfl) dX11_sureGone_2 rfl (fun r M' hp => ?_)
  rcases hp with ⟨h1, rfl, rfl⟩ | ⟨⟨h2, h3⟩, rfl, rfl⟩ | ⟨⟨h4, h5, h6⟩, rfl, rfl⟩ | ⟨⟨h7, h8, h9⟩, rfl, rfl⟩ | ⟨⟨h10, h11, h12⟩, rfl, rfl⟩ | ⟨⟨h13, h14, h15⟩, rfl, rfl⟩
  · refine j_istore_n C 2 [(2, .int (-2)), (0, .ref (ad 0)), (1, .int p0)] dX11_sureGone_5 rfl (by decide) rfl ?_
    refine j_iload_n C 0 2 dX11_sureGone_6 rfl rfl ?_
    refine j_if_eq_f C 12 dX11_sureGone_7 (by decide) (by decide) ?_
    refine j_iload_n C 0 2 dX11_sureGone_10 rfl rfl ?_
    exact hret _ _ _ _ dX11_sureGone_11 ⟨by first | rfl | (unfold fo_sureGone; rw [if_pos (by rw [nI_toInt (by omega)]; omega), nI_clamp (by omega)]; exact hrel) | (unfold fo_sureGone; (repeat' split) <;> first | rfl | (exfalso; omega) | (exfalso; simp_all; done)), MB_0⟩
  · refine j_istore_n C 2 [(2, .int (-2)), (0, .ref (ad 0)), (1, .int p0)] dX11_sureGone_5 rfl (by decide) rfl ?_
    refine j_iload_n C 0 2 dX11_sureGone_6 rfl rfl ?_
    refine j_if_eq_f C 12 dX11_sureGone_7 (by decide) (by decide) ?_
    refine j_iload_n C 0 2 dX11_sureGone_10 rfl rfl ?_
    exact hret _ _ _ _ dX11_sureGone_11 ⟨by first | rfl | (unfold fo_sureGone; rw [if_pos (by rw [nI_toInt (by omega)]; omega), nI_clamp (by omega)]; exact hrel) | (unfold fo_sureGone; (repeat' split) <;> first | rfl | (exfalso; omega) | (exfalso; simp_all; done)), MB_0⟩
  · refine j_istore_n C 2 [(2, .int (-6)), (0, .ref (ad 0)), (1, .int p0)] dX11_sureGone_5 rfl (by decide) rfl ?_
    refine j_iload_n C 0 2 dX11_sureGone_6 rfl rfl ?_
    refine j_if_eq_f C 12 dX11_sureGone_7 (by decide) (by decide) ?_
    refine j_iload_n C 0 2 dX11_sureGone_10 rfl rfl ?_
    exact hret _ _ _ _ dX11_sureGone_11 ⟨by first | rfl | (unfold fo_sureGone; rw [if_pos (by rw [nI_toInt (by omega)]; omega), nI_clamp (by omega)]; exact hrel) | (unfold fo_sureGone; (repeat' split) <;> first | rfl | (exfalso; omega) | (exfalso; simp_all; done)), MB_0⟩
  · refine j_istore_n C 2 [(2, .int (-6)), (0, .ref (ad 0)), (1, .int p0)] dX11_sureGone_5 rfl (by decide) rfl ?_
    refine j_iload_n C 0 2 dX11_sureGone_6 rfl rfl ?_
    refine j_if_eq_f C 12 dX11_sureGone_7 (by decide) (by decide) ?_
    refine j_iload_n C 0 2 dX11_sureGone_10 rfl rfl ?_
    exact hret _ _ _ _ dX11_sureGone_11 ⟨by first | rfl | (unfold fo_sureGone; rw [if_pos (by rw [nI_toInt (by omega)]; omega), nI_clamp (by omega)]; exact hrel) | (unfold fo_sureGone; (repeat' split) <;> first | rfl | (exfalso; omega) | (exfalso; simp_all; done)), MB_0⟩
  · refine j_istore_n C 2 [(2, .int (-6)), (0, .ref (ad 0)), (1, .int p0)] dX11_sureGone_5 rfl (by decide) rfl ?_
    refine j_iload_n C 0 2 dX11_sureGone_6 rfl rfl ?_
    refine j_if_eq_f C 12 dX11_sureGone_7 (by decide) (by decide) ?_
    refine j_iload_n C 0 2 dX11_sureGone_10 rfl rfl ?_
    exact hret _ _ _ _ dX11_sureGone_11 ⟨by first | rfl | (unfold fo_sureGone; rw [if_pos (by rw [nI_toInt (by omega)]; omega), nI_clamp (by omega)]; exact hrel) | (unfold fo_sureGone; (repeat' split) <;> first | rfl | (exfalso; omega) | (exfalso; simp_all; done)), MB_0⟩
  · refine j_istore_n C 2 [(2, .int (-6)), (0, .ref (ad 0)), (1, .int p0)] dX11_sureGone_5 rfl (by decide) rfl ?_
    refine j_iload_n C 0 2 dX11_sureGone_6 rfl rfl ?_
    refine j_if_eq_f C 12 dX11_sureGone_7 (by decide) (by decide) ?_
    refine j_iload_n C 0 2 dX11_sureGone_10 rfl rfl ?_
    exact hret _ _ _ _ dX11_sureGone_11 ⟨by first | rfl | (unfold fo_sureGone; rw [if_pos (by rw [nI_toInt (by omega)]; omega), nI_clamp (by omega)]; exact hrel) | (unfold fo_sureGone; (repeat' split) <;> first | rfl | (exfalso; omega) | (exfalso; simp_all; done)), MB_0⟩
set_option maxHeartbeats 4000000 in
set_option maxRecDepth 100000 in
theorem ox_ask {l : Launch} {dC : Nat → ClassId} {dI : Nat → Nat → Nat} {ad : Nat → Nat} {cA : Nat → ClassId} (p0 : Int32) : Ci l 3 yX11_ask wsX11_ask dC dI ad cA [.ref (ad 0), .int p0] M0 (fun r M' => r = fo_ask p0 ∧ MB M') := by
  refine ci_of (cc := cX11_ask) (maxL := 3) (ty := .int) (lv := [(0, .ref (ad 0)), (1, .int p0)]) (by decide) rfl (fun r M' hp => rfl) (Nat.le_of_ble_eq_true rfl) rfl ?_
  intro p e s m args below meth c A Q C hret
  refine j_aload_n C 0 0 dX11_ask_0 rfl rfl ?_
  refine j_iload_n C 1 1 dX11_ask_1 rfl rfl ?_
  refine j_callVi C (d := 2) (As := [.int p0]) (st := []) 0 (by decide) rfl (by decide) rfl (k223_X11_seenRefusal p0) gX11_ask_X11_seenRefusal rfl hdX11_seenRefusal (by decide) (Nat.le_of_ble_eq_true rfl) dX11_ask_2 rfl (fun r M' hp => ?_)
  rcases hp with ⟨h1, rfl, rfl⟩ | ⟨⟨h2, h3⟩, rfl, rfl⟩ | ⟨⟨h4, h5, h6⟩, rfl, rfl⟩ | ⟨⟨h7, h8, h9⟩, rfl, rfl⟩ | ⟨⟨h10, h11, h12⟩, rfl, rfl⟩ | ⟨⟨h13, h14, h15⟩, rfl, rfl⟩
  · refine j_istore_n C 2 [(2, .int (-2)), (0, .ref (ad 0)), (1, .int p0)] dX11_ask_5 rfl (by decide) rfl ?_
    refine j_iload_n C 0 2 dX11_ask_6 rfl rfl ?_
    refine j_if_eq_f C 12 dX11_ask_7 (by decide) (by decide) ?_
    refine j_iload_n C 0 2 dX11_ask_10 rfl rfl ?_
    exact hret _ _ _ _ dX11_ask_11 ⟨by first | rfl | (unfold fo_ask; rw [if_pos (by rw [nI_toInt (by omega)]; omega), nI_clamp (by omega)]; exact hrel) | (unfold fo_ask; (repeat' split) <;> first | rfl | (exfalso; omega) | (exfalso; simp_all; done)), MB_0⟩
  · refine j_istore_n C 2 [(2, .int (-2)), (0, .ref (ad 0)), (1, .int p0)] dX11_ask_5 rfl (by decide) rfl ?_
    refine j_iload_n C 0 2 dX11_ask_6 rfl rfl ?_
    refine j_if_eq_f C 12 dX11_ask_7 (by decide) (by decide) ?_
    refine j_iload_n C 0 2 dX11_ask_10 rfl rfl ?_
    exact hret _ _ _ _ dX11_ask_11 ⟨by first | rfl | (unfold fo_ask; rw [if_pos (by rw [nI_toInt (by omega)]; omega), nI_clamp (by omega)]; exact hrel) | (unfold fo_ask; (repeat' split) <;> first | rfl | (exfalso; omega) | (exfalso; simp_all; done)), MB_0⟩
  · refine j_istore_n C 2 [(2, .int (-6)), (0, .ref (ad 0)), (1, .int p0)] dX11_ask_5 rfl (by decide) rfl ?_
    refine j_iload_n C 0 2 dX11_ask_6 rfl rfl ?_
    refine j_if_eq_f C 12 dX11_ask_7 (by decide) (by decide) ?_
    refine j_iload_n C 0 2 dX11_ask_10 rfl rfl ?_
    exact hret _ _ _ _ dX11_ask_11 ⟨by first | rfl | (unfold fo_ask; rw [if_pos (by rw [nI_toInt (by omega)]; omega), nI_clamp (by omega)]; exact hrel) | (unfold fo_ask; (repeat' split) <;> first | rfl | (exfalso; omega) | (exfalso; simp_all; done)), MB_0⟩
  · refine j_istore_n C 2 [(2, .int (-6)), (0, .ref (ad 0)), (1, .int p0)] dX11_ask_5 rfl (by decide) rfl ?_
    refine j_iload_n C 0 2 dX11_ask_6 rfl rfl ?_
    refine j_if_eq_f C 12 dX11_ask_7 (by decide) (by decide) ?_
    refine j_iload_n C 0 2 dX11_ask_10 rfl rfl ?_
    exact hret _ _ _ _ dX11_ask_11 ⟨by first | rfl | (unfold fo_ask; rw [if_pos (by rw [nI_toInt (by omega)]; omega), nI_clamp (by omega)]; exact hrel) | (unfold fo_ask; (repeat' split) <;> first | rfl | (exfalso; omega) | (exfalso; simp_all; done)), MB_0⟩
  · refine j_istore_n C 2 [(2, .int (-6)), (0, .ref (ad 0)), (1, .int p0)] dX11_ask_5 rfl (by decide) rfl ?_
    refine j_iload_n C 0 2 dX11_ask_6 rfl rfl ?_
    refine j_if_eq_f C 12 dX11_ask_7 (by decide) (by decide) ?_
    refine j_iload_n C 0 2 dX11_ask_10 rfl rfl ?_
    exact hret _ _ _ _ dX11_ask_11 ⟨by first | rfl | (unfold fo_ask; rw [if_pos (by rw [nI_toInt (by omega)]; omega), nI_clamp (by omega)]; exact hrel) | (unfold fo_ask; (repeat' split) <;> first | rfl | (exfalso; omega) | (exfalso; simp_all; done)), MB_0⟩
  · refine j_istore_n C 2 [(2, .int (-6)), (0, .ref (ad 0)), (1, .int p0)] dX11_ask_5 rfl (by decide) rfl ?_
    refine j_iload_n C 0 2 dX11_ask_6 rfl rfl ?_
    refine j_if_eq_f C 12 dX11_ask_7 (by decide) (by decide) ?_
    refine j_iload_n C 0 2 dX11_ask_10 rfl rfl ?_
    exact hret _ _ _ _ dX11_ask_11 ⟨by first | rfl | (unfold fo_ask; rw [if_pos (by rw [nI_toInt (by omega)]; omega), nI_clamp (by omega)]; exact hrel) | (unfold fo_ask; (repeat' split) <;> first | rfl | (exfalso; omega) | (exfalso; simp_all; done)), MB_0⟩
