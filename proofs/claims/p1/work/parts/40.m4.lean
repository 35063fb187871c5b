set_option maxHeartbeats 4000000 in
set_option maxRecDepth 100000 in
theorem hk_X12_drawn {l : Launch} {dC : Nat → ClassId} {dI : Nat → Nat → Nat} {ad : Nat → Nat} {cA : Nat → ClassId} {B : mm_M} (hB : MB B) (g0 g1 : Int32) : Ci l 1 yX12_drawn wsX12_drawn dC dI ad cA [.ref (ad 98)] (wI (wI B 99 31 g0) 99 32 g1) (fun r M' => ((sr (sx g1) 5).toInt < 2 ∧ r = -1 ∧ M' = (wI (wI B 99 31 g0) 99 32 (sx g1))) ∨ (¬ (sr (sx g1) 5).toInt < 2 ∧ ((0 ≤ r.toInt ∧ r.toInt ≤ 5) ∨ (100 ≤ r.toInt ∧ r.toInt ≤ 107) ∨ (200 ≤ r.toInt ∧ r.toInt ≤ 207)) ∧ M' = (wI (wI B 99 31 g0) 99 32 (sx (sx g1))))) := by
  refine ci_of (cc := cX12_drawn) (maxL := 2) (ty := .int) (lv := [(0, .ref (ad 98))]) (by decide) rfl (fun r M' hp => rfl) (Nat.le_of_ble_eq_true rfl) rfl ?_
  intro p e s m args below meth c A Q C hret
  refine j_aload_n C 0 0 dX12_drawn_0 rfl rfl ?_
  refine j_iconst C 5 dX12_drawn_1 (by decide) ?_
  refine j_callVi C (d := 0) (As := [.int 5]) (st := []) 98 (by decide) rfl (by decide) rfl (k266_X12_draw hB g0 g1) gX12_drawn_X12_draw rfl hdX12_draw (by decide) (Nat.le_of_ble_eq_true rfl) dX12_drawn_2 rfl (fun r M' hp => ?_)
  obtain ⟨rfl, rfl⟩ := hp
  have hN := sr_5 (sx g1)
  by_cases h2 : (sr (sx g1) 5).toInt < 2
  · refine j_istore_n C 1 [(1, .int (sr (sx g1) 5)), (0, .ref (ad 98))] dX12_drawn_5 rfl (by decide) rfl ?_
    refine j_iload_n C 0 1 dX12_drawn_6 rfl rfl ?_
    refine j_iconst C 2 dX12_drawn_7 (by decide) ?_
    refine z_icmp_ge C 15 ((sr (sx g1) 5).toInt) 2 rfl (by decide) dX12_drawn_8 (by decide) (fun h1 => ?_) (fun h1 => ?_)
    · exfalso; omega
    · refine j_iconst C (-1) dX12_drawn_11 (by decide) ?_
      refine j_goto C 42 dX12_drawn_12 (by decide) ?_
      exact hret _ _ _ _ dX12_drawn_42 (Or.inl ⟨h2, rfl, rfl⟩)
  · rcases sr_c _ h2 with e | e | e
    · refine j_i 2 e ?_
      refine j_istore_n C 1 [(1, .int 2), (0, .ref (ad 98))] dX12_drawn_5 rfl (by decide) rfl ?_
      refine j_iload_n C 0 1 dX12_drawn_6 rfl rfl ?_
      refine j_iconst C 2 dX12_drawn_7 (by decide) ?_
      refine j_icmp_ge_t C 15 dX12_drawn_8 (by decide) (by decide) ?_
      refine j_iload_n C 0 1 dX12_drawn_15 rfl rfl ?_
      refine j_iconst C 2 dX12_drawn_16 (by decide) ?_
      refine j_icmp_ne_f C 29 dX12_drawn_17 (by decide) (by decide) ?_
      refine j_aload_n C 1 0 dX12_drawn_20 rfl rfl ?_
      refine j_bipush C 6 dX12_drawn_21 (by decide) ?_
      refine j_callVi C (d := 0) (As := [.int 6]) (st := []) 98 (by decide) rfl (by decide) rfl (k267_X12_draw hB g0 g1) gX12_drawn_X12_draw rfl hdX12_draw (by decide) (Nat.le_of_ble_eq_true rfl) dX12_drawn_23 rfl (fun r M' hp => ?_)
      obtain ⟨rfl, rfl⟩ := hp
      refine j_goto C 42 dX12_drawn_26 (by decide) ?_
      exact hret _ _ _ _ dX12_drawn_42 (Or.inr ⟨h2, Or.inl (sr_6 _), rfl⟩)
    · refine j_i 3 e ?_
      refine j_istore_n C 1 [(1, .int 3), (0, .ref (ad 98))] dX12_drawn_5 rfl (by decide) rfl ?_
      refine j_iload_n C 0 1 dX12_drawn_6 rfl rfl ?_
      refine j_iconst C 2 dX12_drawn_7 (by decide) ?_
      refine j_icmp_ge_t C 15 dX12_drawn_8 (by decide) (by decide) ?_
      refine j_iload_n C 0 1 dX12_drawn_15 rfl rfl ?_
      refine j_iconst C 2 dX12_drawn_16 (by decide) ?_
      refine j_icmp_ne_t C 29 dX12_drawn_17 (by decide) (by decide) ?_
      refine j_bipush C 100 dX12_drawn_29 (by decide) ?_
      refine j_iload_n C 0 1 dX12_drawn_31 rfl rfl ?_
      refine j_iconst C 2 dX12_drawn_32 (by decide) ?_
      refine z_isub C 1 (by decide) dX12_drawn_33 ?_
      refine z_imul C 100 (by decide) dX12_drawn_34 ?_
      refine j_aload_n C 1 0 dX12_drawn_35 rfl rfl ?_
      refine j_bipush C 8 dX12_drawn_36 (by decide) ?_
      refine j_callVi C (d := 0) (As := [.int 8]) (st := [.int 100]) 98 (by decide) rfl (by decide) rfl (k268_X12_draw hB g0 g1) gX12_drawn_X12_draw rfl hdX12_draw (by decide) (Nat.le_of_ble_eq_true rfl) dX12_drawn_38 rfl (fun r M' hp => ?_)
      obtain ⟨rfl, rfl⟩ := hp
      refine z_iadd C (100 + (sr (sx (sx g1)) 8)) rfl dX12_drawn_41 ?_
      exact hret _ _ _ _ dX12_drawn_42 (Or.inr ⟨h2, Or.inr (Or.inl (sr_8 _ 100 (by decide))), rfl⟩)
    · refine j_i 4 e ?_
      refine j_istore_n C 1 [(1, .int 4), (0, .ref (ad 98))] dX12_drawn_5 rfl (by decide) rfl ?_
      refine j_iload_n C 0 1 dX12_drawn_6 rfl rfl ?_
      refine j_iconst C 2 dX12_drawn_7 (by decide) ?_
      refine j_icmp_ge_t C 15 dX12_drawn_8 (by decide) (by decide) ?_
      refine j_iload_n C 0 1 dX12_drawn_15 rfl rfl ?_
      refine j_iconst C 2 dX12_drawn_16 (by decide) ?_
      refine j_icmp_ne_t C 29 dX12_drawn_17 (by decide) (by decide) ?_
      refine j_bipush C 100 dX12_drawn_29 (by decide) ?_
      refine j_iload_n C 0 1 dX12_drawn_31 rfl rfl ?_
      refine j_iconst C 2 dX12_drawn_32 (by decide) ?_
      refine z_isub C 2 (by decide) dX12_drawn_33 ?_
      refine z_imul C 200 (by decide) dX12_drawn_34 ?_
      refine j_aload_n C 1 0 dX12_drawn_35 rfl rfl ?_
      refine j_bipush C 8 dX12_drawn_36 (by decide) ?_
      refine j_callVi C (d := 0) (As := [.int 8]) (st := [.int 200]) 98 (by decide) rfl (by decide) rfl (k268_X12_draw hB g0 g1) gX12_drawn_X12_draw rfl hdX12_draw (by decide) (Nat.le_of_ble_eq_true rfl) dX12_drawn_38 rfl (fun r M' hp => ?_)
      obtain ⟨rfl, rfl⟩ := hp
      refine z_iadd C (200 + (sr (sx (sx g1)) 8)) rfl dX12_drawn_41 ?_
      exact hret _ _ _ _ dX12_drawn_42 (Or.inr ⟨h2, Or.inr (Or.inr (sr_8 _ 200 (by decide))), rfl⟩)
set_option maxHeartbeats 4000000 in
set_option maxRecDepth 100000 in
theorem k285_X12_within {l : Launch} {dC : Nat → ClassId} {dI : Nat → Nat → Nat} {ad : Nat → Nat} {cA : Nat → ClassId} {B : mm_M} (hB : MB B) (p0 : Int32) : Ci l 0 yX12_within wsX12_within dC dI ad cA [.long p0.toInt64, .long 1, .long 40] B (fun r M' => ((p0.toInt < 1) ∧ 0 = r ∧ B = M') ∨ ((¬ p0.toInt < 1 ∧ 40 < p0.toInt) ∧ 0 = r ∧ B = M') ∨ ((¬ p0.toInt < 1 ∧ ¬ 40 < p0.toInt) ∧ 1 = r ∧ B = M')) := by
  refine ci_of (cc := cX12_within) (maxL := 6) (ty := .boolean) (lv := [(0, .long p0.toInt64), (2, .long 1), (4, .long 40)]) (by decide) rfl (fun r M' hp => by rcases hp with ⟨-, rfl, rfl⟩ | ⟨-, rfl, rfl⟩ | ⟨-, rfl, rfl⟩ <;> rfl) (Nat.le_of_ble_eq_true rfl) rfl ?_
  intro p e s m args below meth c A Q C hret
  refine j_lload_n C 0 0 dX12_within_0 rfl rfl ?_
  refine j_lload_n C 1 2 dX12_within_1 rfl rfl ?_
  refine z_lcmp_lt C 17 p0.toInt 1 ((Int32.toInt_toInt64 p0).trans rfl) (by decide) dX12_within_2 dX12_within_3 (by decide) (fun h1 => ?_) (fun h1 => ?_)
  · refine j_iconst C 0 dX12_within_17 (by decide) ?_
    exact hret _ _ _ _ dX12_within_18 (Or.inl ⟨h1, rfl, rfl⟩)
  · refine j_lload_n C 0 0 dX12_within_6 rfl rfl ?_
    refine j_lload C 2 dX12_within_7 rfl ?_
    refine z_lcmp_gt C 17 p0.toInt 40 ((Int32.toInt_toInt64 p0).trans rfl) (by decide) dX12_within_9 dX12_within_10 (by decide) (fun h2 => ?_) (fun h2 => ?_)
    · refine j_iconst C 0 dX12_within_17 (by decide) ?_
      exact hret _ _ _ _ dX12_within_18 (Or.inr (Or.inl ⟨⟨h1, h2⟩, rfl, rfl⟩))
    · refine j_iconst C 1 dX12_within_13 (by decide) ?_
      refine j_goto C 18 dX12_within_14 (by decide) ?_
      exact hret _ _ _ _ dX12_within_18 (Or.inr (Or.inr ⟨⟨h1, h2⟩, rfl, rfl⟩))
set_option maxHeartbeats 4000000 in
set_option maxRecDepth 100000 in
theorem k286_X12_isAgain {l : Launch} {dC : Nat → ClassId} {dI : Nat → Nat → Nat} {ad : Nat → Nat} {cA : Nat → ClassId} {B : mm_M} (hB : MB B) (p0 : Int32) (p1 : Int32) : Cv l 0 yX12_isAgain wsX12_isAgain dC dI ad cA [.ref (ad 98)] (wI (wI B 99 31 p0) 99 32 p1) (fun M' => (wI (wI B 99 31 0) 99 32 0) = M') := by
  refine cv_of (cc := cX12_isAgain) (maxL := 2) (lv := [(0, .ref (ad 98))]) (by decide) rfl (Nat.le_of_ble_eq_true rfl) rfl ?_
  intro p e s m args below meth c A Q C hret
  refine j_iconst C 0 dX12_isAgain_0 (by decide) ?_
  refine j_istore_n C 1 [(1, .int 0), (0, .ref (ad 98))] dX12_isAgain_1 rfl (by decide) rfl ?_
  refine j_iload_n C 0 1 dX12_isAgain_2 rfl rfl ?_
  refine j_bipush C 23 dX12_isAgain_3 (by decide) ?_
  refine j_icmp_ge_f C 29 dX12_isAgain_5 (by decide) (by decide) ?_
  refine j_aload_n C 1 0 dX12_isAgain_8 rfl rfl ?_
  refine j_getP C 11 99 fX12_isAgain_13 (by decide) rfl (by decide) rfl (show B.2.2 98 1 = 99 from hB.2.2 98 1 (by decide)) dX12_isAgain_9 ?_
  refine j_bipush C 26 dX12_isAgain_12 (by decide) ?_
  refine j_iload_n C 0 1 dX12_isAgain_14 rfl rfl ?_
  refine z_iadd C 26 (by decide) dX12_isAgain_15 ?_
  refine j_aload_n C 1 0 dX12_isAgain_16 rfl rfl ?_
  refine j_getP C 11 105 fX12_isAgain_36 (by decide) rfl (by decide) rfl (show B.2.2 98 17 = 105 from hB.2.2 98 17 (by decide)) dX12_isAgain_17 ?_
  refine j_iload_n C 0 1 dX12_isAgain_20 rfl rfl ?_
  refine x_iald C 0 23 0 (by decide) rfl rfl rfl (by decide) (by decide) (show B.1 105 0 = 0 from hB.1 105 0 (by decide)) dX12_isAgain_21 ?_
  refine x_iast C 26 3543 (by decide) rfl rfl rfl (by decide) (by decide) dX12_isAgain_22 ?_
  refine z_noI (show B.1 99 26 = 0 from hB.1 99 26 (by decide)) ?_
  refine j_iinc C 0 1 [(1, .int 1), (0, .ref (ad 98))] dX12_isAgain_23 rfl (by decide) (by decide) rfl ?_
  refine j_goto C 2 dX12_isAgain_26 (by decide) ?_
  refine j_iload_n C 0 1 dX12_isAgain_2 rfl rfl ?_
  refine j_bipush C 23 dX12_isAgain_3 (by decide) ?_
  refine j_icmp_ge_f C 29 dX12_isAgain_5 (by decide) (by decide) ?_
  refine j_aload_n C 1 0 dX12_isAgain_8 rfl rfl ?_
  refine j_getP C 11 99 fX12_isAgain_13 (by decide) rfl (by decide) rfl (show B.2.2 98 1 = 99 from hB.2.2 98 1 (by decide)) dX12_isAgain_9 ?_
  refine j_bipush C 26 dX12_isAgain_12 (by decide) ?_
  refine j_iload_n C 0 1 dX12_isAgain_14 rfl rfl ?_
  refine z_iadd C 27 (by decide) dX12_isAgain_15 ?_
  refine j_aload_n C 1 0 dX12_isAgain_16 rfl rfl ?_
  refine j_getP C 11 105 fX12_isAgain_36 (by decide) rfl (by decide) rfl (show B.2.2 98 17 = 105 from hB.2.2 98 17 (by decide)) dX12_isAgain_17 ?_
  refine j_iload_n C 0 1 dX12_isAgain_20 rfl rfl ?_
  refine x_iald C 1 23 0 (by decide) rfl rfl rfl (by decide) (by decide) (show B.1 105 1 = 0 from hB.1 105 1 (by decide)) dX12_isAgain_21 ?_
  refine x_iast C 27 3543 (by decide) rfl rfl rfl (by decide) (by decide) dX12_isAgain_22 ?_
  refine z_noI (show B.1 99 27 = 0 from hB.1 99 27 (by decide)) ?_
  refine j_iinc C 0 2 [(1, .int 2), (0, .ref (ad 98))] dX12_isAgain_23 rfl (by decide) (by decide) rfl ?_
  refine j_goto C 2 dX12_isAgain_26 (by decide) ?_
  refine j_iload_n C 0 1 dX12_isAgain_2 rfl rfl ?_
  refine j_bipush C 23 dX12_isAgain_3 (by decide) ?_
  refine j_icmp_ge_f C 29 dX12_isAgain_5 (by decide) (by decide) ?_
  refine j_aload_n C 1 0 dX12_isAgain_8 rfl rfl ?_
  refine j_getP C 11 99 fX12_isAgain_13 (by decide) rfl (by decide) rfl (show B.2.2 98 1 = 99 from hB.2.2 98 1 (by decide)) dX12_isAgain_9 ?_
  refine j_bipush C 26 dX12_isAgain_12 (by decide) ?_
  refine j_iload_n C 0 1 dX12_isAgain_14 rfl rfl ?_
  refine z_iadd C 28 (by decide) dX12_isAgain_15 ?_
  refine j_aload_n C 1 0 dX12_isAgain_16 rfl rfl ?_
  refine j_getP C 11 105 fX12_isAgain_36 (by decide) rfl (by decide) rfl (show B.2.2 98 17 = 105 from hB.2.2 98 17 (by decide)) dX12_isAgain_17 ?_
  refine j_iload_n C 0 1 dX12_isAgain_20 rfl rfl ?_
  refine x_iald C 2 23 0 (by decide) rfl rfl rfl (by decide) (by decide) (show B.1 105 2 = 0 from hB.1 105 2 (by decide)) dX12_isAgain_21 ?_
  refine x_iast C 28 3543 (by decide) rfl rfl rfl (by decide) (by decide) dX12_isAgain_22 ?_
  refine z_noI (show B.1 99 28 = 0 from hB.1 99 28 (by decide)) ?_
  refine j_iinc C 0 3 [(1, .int 3), (0, .ref (ad 98))] dX12_isAgain_23 rfl (by decide) (by decide) rfl ?_
  refine j_goto C 2 dX12_isAgain_26 (by decide) ?_
  refine j_iload_n C 0 1 dX12_isAgain_2 rfl rfl ?_
  refine j_bipush C 23 dX12_isAgain_3 (by decide) ?_
  refine j_icmp_ge_f C 29 dX12_isAgain_5 (by decide) (by decide) ?_
  refine j_aload_n C 1 0 dX12_isAgain_8 rfl rfl ?_
  refine j_getP C 11 99 fX12_isAgain_13 (by decide) rfl (by decide) rfl (show B.2.2 98 1 = 99 from hB.2.2 98 1 (by decide)) dX12_isAgain_9 ?_
  refine j_bipush C 26 dX12_isAgain_12 (by decide) ?_
  refine j_iload_n C 0 1 dX12_isAgain_14 rfl rfl ?_
  refine z_iadd C 29 (by decide) dX12_isAgain_15 ?_
  refine j_aload_n C 1 0 dX12_isAgain_16 rfl rfl ?_
  refine j_getP C 11 105 fX12_isAgain_36 (by decide) rfl (by decide) rfl (show B.2.2 98 17 = 105 from hB.2.2 98 17 (by decide)) dX12_isAgain_17 ?_
  refine j_iload_n C 0 1 dX12_isAgain_20 rfl rfl ?_
  refine x_iald C 3 23 0 (by decide) rfl rfl rfl (by decide) (by decide) (show B.1 105 3 = 0 from hB.1 105 3 (by decide)) dX12_isAgain_21 ?_
  refine x_iast C 29 3543 (by decide) rfl rfl rfl (by decide) (by decide) dX12_isAgain_22 ?_
  refine z_noI (show B.1 99 29 = 0 from hB.1 99 29 (by decide)) ?_
  refine j_iinc C 0 4 [(1, .int 4), (0, .ref (ad 98))] dX12_isAgain_23 rfl (by decide) (by decide) rfl ?_
  refine j_goto C 2 dX12_isAgain_26 (by decide) ?_
  refine j_iload_n C 0 1 dX12_isAgain_2 rfl rfl ?_
  refine j_bipush C 23 dX12_isAgain_3 (by decide) ?_
  refine j_icmp_ge_f C 29 dX12_isAgain_5 (by decide) (by decide) ?_
  refine j_aload_n C 1 0 dX12_isAgain_8 rfl rfl ?_
  refine j_getP C 11 99 fX12_isAgain_13 (by decide) rfl (by decide) rfl (show B.2.2 98 1 = 99 from hB.2.2 98 1 (by decide)) dX12_isAgain_9 ?_
  refine j_bipush C 26 dX12_isAgain_12 (by decide) ?_
  refine j_iload_n C 0 1 dX12_isAgain_14 rfl rfl ?_
  refine z_iadd C 30 (by decide) dX12_isAgain_15 ?_
  refine j_aload_n C 1 0 dX12_isAgain_16 rfl rfl ?_
  refine j_getP C 11 105 fX12_isAgain_36 (by decide) rfl (by decide) rfl (show B.2.2 98 17 = 105 from hB.2.2 98 17 (by decide)) dX12_isAgain_17 ?_
  refine j_iload_n C 0 1 dX12_isAgain_20 rfl rfl ?_
  refine x_iald C 4 23 0 (by decide) rfl rfl rfl (by decide) (by decide) (show B.1 105 4 = 0 from hB.1 105 4 (by decide)) dX12_isAgain_21 ?_
  refine x_iast C 30 3543 (by decide) rfl rfl rfl (by decide) (by decide) dX12_isAgain_22 ?_
  refine z_noI (show B.1 99 30 = 0 from hB.1 99 30 (by decide)) ?_
  refine j_iinc C 0 5 [(1, .int 5), (0, .ref (ad 98))] dX12_isAgain_23 rfl (by decide) (by decide) rfl ?_
  refine j_goto C 2 dX12_isAgain_26 (by decide) ?_
  refine j_iload_n C 0 1 dX12_isAgain_2 rfl rfl ?_
  refine j_bipush C 23 dX12_isAgain_3 (by decide) ?_
  refine j_icmp_ge_f C 29 dX12_isAgain_5 (by decide) (by decide) ?_
  refine j_aload_n C 1 0 dX12_isAgain_8 rfl rfl ?_
  refine j_getP C 11 99 fX12_isAgain_13 (by decide) rfl (by decide) rfl (show B.2.2 98 1 = 99 from hB.2.2 98 1 (by decide)) dX12_isAgain_9 ?_
  refine j_bipush C 26 dX12_isAgain_12 (by decide) ?_
  refine j_iload_n C 0 1 dX12_isAgain_14 rfl rfl ?_
  refine z_iadd C 31 (by decide) dX12_isAgain_15 ?_
  refine j_aload_n C 1 0 dX12_isAgain_16 rfl rfl ?_
  refine j_getP C 11 105 fX12_isAgain_36 (by decide) rfl (by decide) rfl (show B.2.2 98 17 = 105 from hB.2.2 98 17 (by decide)) dX12_isAgain_17 ?_
  refine j_iload_n C 0 1 dX12_isAgain_20 rfl rfl ?_
  refine x_iald C 5 23 0 (by decide) rfl rfl rfl (by decide) (by decide) (show B.1 105 5 = 0 from hB.1 105 5 (by decide)) dX12_isAgain_21 ?_
  refine x_iast C 31 3543 (by decide) rfl rfl rfl (by decide) (by decide) dX12_isAgain_22 ?_
  refine j_M (M' := (wI (wI B 99 31 0) 99 32 p1)) ((wI_c (by decide)).trans (congrArg (fun X => wI X 99 32 p1) (wI_w _ _ _ _ _))) ?_
  refine j_iinc C 0 6 [(1, .int 6), (0, .ref (ad 98))] dX12_isAgain_23 rfl (by decide) (by decide) rfl ?_
  refine j_goto C 2 dX12_isAgain_26 (by decide) ?_
  refine j_iload_n C 0 1 dX12_isAgain_2 rfl rfl ?_
  refine j_bipush C 23 dX12_isAgain_3 (by decide) ?_
  refine j_icmp_ge_f C 29 dX12_isAgain_5 (by decide) (by decide) ?_
  refine j_aload_n C 1 0 dX12_isAgain_8 rfl rfl ?_
  refine j_getP C 11 99 fX12_isAgain_13 (by decide) rfl (by decide) rfl (show B.2.2 98 1 = 99 from hB.2.2 98 1 (by decide)) dX12_isAgain_9 ?_
  refine j_bipush C 26 dX12_isAgain_12 (by decide) ?_
  refine j_iload_n C 0 1 dX12_isAgain_14 rfl rfl ?_
  refine z_iadd C 32 (by decide) dX12_isAgain_15 ?_
  refine j_aload_n C 1 0 dX12_isAgain_16 rfl rfl ?_
  refine j_getP C 11 105 fX12_isAgain_36 (by decide) rfl (by decide) rfl (show B.2.2 98 17 = 105 from hB.2.2 98 17 (by decide)) dX12_isAgain_17 ?_
  refine j_iload_n C 0 1 dX12_isAgain_20 rfl rfl ?_
  refine x_iald C 6 23 0 (by decide) rfl rfl rfl (by decide) (by decide) (show B.1 105 6 = 0 from hB.1 105 6 (by decide)) dX12_isAgain_21 ?_
  refine x_iast C 32 3543 (by decide) rfl rfl rfl (by decide) (by decide) dX12_isAgain_22 ?_
  refine j_M (M' := (wI (wI B 99 31 0) 99 32 0)) (wI_w _ _ _ _ _) ?_
  refine j_iinc C 0 7 [(1, .int 7), (0, .ref (ad 98))] dX12_isAgain_23 rfl (by decide) (by decide) rfl ?_
  refine j_goto C 2 dX12_isAgain_26 (by decide) ?_
  refine j_iload_n C 0 1 dX12_isAgain_2 rfl rfl ?_
  refine j_bipush C 23 dX12_isAgain_3 (by decide) ?_
  refine j_icmp_ge_f C 29 dX12_isAgain_5 (by decide) (by decide) ?_
  refine j_aload_n C 1 0 dX12_isAgain_8 rfl rfl ?_
  refine j_getP C 11 99 fX12_isAgain_13 (by decide) rfl (by decide) rfl (show B.2.2 98 1 = 99 from hB.2.2 98 1 (by decide)) dX12_isAgain_9 ?_
  refine j_bipush C 26 dX12_isAgain_12 (by decide) ?_
  refine j_iload_n C 0 1 dX12_isAgain_14 rfl rfl ?_
  refine z_iadd C 33 (by decide) dX12_isAgain_15 ?_
  refine j_aload_n C 1 0 dX12_isAgain_16 rfl rfl ?_
  refine j_getP C 11 105 fX12_isAgain_36 (by decide) rfl (by decide) rfl (show B.2.2 98 17 = 105 from hB.2.2 98 17 (by decide)) dX12_isAgain_17 ?_
  refine j_iload_n C 0 1 dX12_isAgain_20 rfl rfl ?_
  refine x_iald C 7 23 0 (by decide) rfl rfl rfl (by decide) (by decide) (show B.1 105 7 = 0 from hB.1 105 7 (by decide)) dX12_isAgain_21 ?_
  refine x_iast C 33 3543 (by decide) rfl rfl rfl (by decide) (by decide) dX12_isAgain_22 ?_
  refine z_noI (show B.1 99 33 = 0 from hB.1 99 33 (by decide)) ?_
  refine j_iinc C 0 8 [(1, .int 8), (0, .ref (ad 98))] dX12_isAgain_23 rfl (by decide) (by decide) rfl ?_
  refine j_goto C 2 dX12_isAgain_26 (by decide) ?_
  refine j_iload_n C 0 1 dX12_isAgain_2 rfl rfl ?_
  refine j_bipush C 23 dX12_isAgain_3 (by decide) ?_
  refine j_icmp_ge_f C 29 dX12_isAgain_5 (by decide) (by decide) ?_
  refine j_aload_n C 1 0 dX12_isAgain_8 rfl rfl ?_
  refine j_getP C 11 99 fX12_isAgain_13 (by decide) rfl (by decide) rfl (show B.2.2 98 1 = 99 from hB.2.2 98 1 (by decide)) dX12_isAgain_9 ?_
  refine j_bipush C 26 dX12_isAgain_12 (by decide) ?_
  refine j_iload_n C 0 1 dX12_isAgain_14 rfl rfl ?_
  refine z_iadd C 34 (by decide) dX12_isAgain_15 ?_
  refine j_aload_n C 1 0 dX12_isAgain_16 rfl rfl ?_
  refine j_getP C 11 105 fX12_isAgain_36 (by decide) rfl (by decide) rfl (show B.2.2 98 17 = 105 from hB.2.2 98 17 (by decide)) dX12_isAgain_17 ?_
  refine j_iload_n C 0 1 dX12_isAgain_20 rfl rfl ?_
  refine x_iald C 8 23 0 (by decide) rfl rfl rfl (by decide) (by decide) (show B.1 105 8 = 0 from hB.1 105 8 (by decide)) dX12_isAgain_21 ?_
  refine x_iast C 34 3543 (by decide) rfl rfl rfl (by decide) (by decide) dX12_isAgain_22 ?_
  refine z_noI (show B.1 99 34 = 0 from hB.1 99 34 (by decide)) ?_
  refine j_iinc C 0 9 [(1, .int 9), (0, .ref (ad 98))] dX12_isAgain_23 rfl (by decide) (by decide) rfl ?_
  refine j_goto C 2 dX12_isAgain_26 (by decide) ?_
  refine j_iload_n C 0 1 dX12_isAgain_2 rfl rfl ?_
  refine j_bipush C 23 dX12_isAgain_3 (by decide) ?_
  refine j_icmp_ge_f C 29 dX12_isAgain_5 (by decide) (by decide) ?_
  refine j_aload_n C 1 0 dX12_isAgain_8 rfl rfl ?_
  refine j_getP C 11 99 fX12_isAgain_13 (by decide) rfl (by decide) rfl (show B.2.2 98 1 = 99 from hB.2.2 98 1 (by decide)) dX12_isAgain_9 ?_
  refine j_bipush C 26 dX12_isAgain_12 (by decide) ?_
  refine j_iload_n C 0 1 dX12_isAgain_14 rfl rfl ?_
  refine z_iadd C 35 (by decide) dX12_isAgain_15 ?_
  refine j_aload_n C 1 0 dX12_isAgain_16 rfl rfl ?_
  refine j_getP C 11 105 fX12_isAgain_36 (by decide) rfl (by decide) rfl (show B.2.2 98 17 = 105 from hB.2.2 98 17 (by decide)) dX12_isAgain_17 ?_
  refine j_iload_n C 0 1 dX12_isAgain_20 rfl rfl ?_
  refine x_iald C 9 23 0 (by decide) rfl rfl rfl (by decide) (by decide) (show B.1 105 9 = 0 from hB.1 105 9 (by decide)) dX12_isAgain_21 ?_
  refine x_iast C 35 3543 (by decide) rfl rfl rfl (by decide) (by decide) dX12_isAgain_22 ?_
  refine z_noI (show B.1 99 35 = 0 from hB.1 99 35 (by decide)) ?_
  refine j_iinc C 0 10 [(1, .int 10), (0, .ref (ad 98))] dX12_isAgain_23 rfl (by decide) (by decide) rfl ?_
  refine j_goto C 2 dX12_isAgain_26 (by decide) ?_
  refine j_iload_n C 0 1 dX12_isAgain_2 rfl rfl ?_
  refine j_bipush C 23 dX12_isAgain_3 (by decide) ?_
  refine j_icmp_ge_f C 29 dX12_isAgain_5 (by decide) (by decide) ?_
  refine j_aload_n C 1 0 dX12_isAgain_8 rfl rfl ?_
  refine j_getP C 11 99 fX12_isAgain_13 (by decide) rfl (by decide) rfl (show B.2.2 98 1 = 99 from hB.2.2 98 1 (by decide)) dX12_isAgain_9 ?_
  refine j_bipush C 26 dX12_isAgain_12 (by decide) ?_
  refine j_iload_n C 0 1 dX12_isAgain_14 rfl rfl ?_
  refine z_iadd C 36 (by decide) dX12_isAgain_15 ?_
  refine j_aload_n C 1 0 dX12_isAgain_16 rfl rfl ?_
  refine j_getP C 11 105 fX12_isAgain_36 (by decide) rfl (by decide) rfl (show B.2.2 98 17 = 105 from hB.2.2 98 17 (by decide)) dX12_isAgain_17 ?_
  refine j_iload_n C 0 1 dX12_isAgain_20 rfl rfl ?_
  refine x_iald C 10 23 0 (by decide) rfl rfl rfl (by decide) (by decide) (show B.1 105 10 = 0 from hB.1 105 10 (by decide)) dX12_isAgain_21 ?_
  refine x_iast C 36 3543 (by decide) rfl rfl rfl (by decide) (by decide) dX12_isAgain_22 ?_
  refine z_noI (show B.1 99 36 = 0 from hB.1 99 36 (by decide)) ?_
  refine j_iinc C 0 11 [(1, .int 11), (0, .ref (ad 98))] dX12_isAgain_23 rfl (by decide) (by decide) rfl ?_
  refine j_goto C 2 dX12_isAgain_26 (by decide) ?_
  refine j_iload_n C 0 1 dX12_isAgain_2 rfl rfl ?_
  refine j_bipush C 23 dX12_isAgain_3 (by decide) ?_
  refine j_icmp_ge_f C 29 dX12_isAgain_5 (by decide) (by decide) ?_
  refine j_aload_n C 1 0 dX12_isAgain_8 rfl rfl ?_
  refine j_getP C 11 99 fX12_isAgain_13 (by decide) rfl (by decide) rfl (show B.2.2 98 1 = 99 from hB.2.2 98 1 (by decide)) dX12_isAgain_9 ?_
  refine j_bipush C 26 dX12_isAgain_12 (by decide) ?_
  refine j_iload_n C 0 1 dX12_isAgain_14 rfl rfl ?_
  refine z_iadd C 37 (by decide) dX12_isAgain_15 ?_
  refine j_aload_n C 1 0 dX12_isAgain_16 rfl rfl ?_
  refine j_getP C 11 105 fX12_isAgain_36 (by decide) rfl (by decide) rfl (show B.2.2 98 17 = 105 from hB.2.2 98 17 (by decide)) dX12_isAgain_17 ?_
  refine j_iload_n C 0 1 dX12_isAgain_20 rfl rfl ?_
  refine x_iald C 11 23 0 (by decide) rfl rfl rfl (by decide) (by decide) (show B.1 105 11 = 0 from hB.1 105 11 (by decide)) dX12_isAgain_21 ?_
  refine x_iast C 37 3543 (by decide) rfl rfl rfl (by decide) (by decide) dX12_isAgain_22 ?_
  refine z_noI (show B.1 99 37 = 0 from hB.1 99 37 (by decide)) ?_
  refine j_iinc C 0 12 [(1, .int 12), (0, .ref (ad 98))] dX12_isAgain_23 rfl (by decide) (by decide) rfl ?_
  refine j_goto C 2 dX12_isAgain_26 (by decide) ?_
  refine j_iload_n C 0 1 dX12_isAgain_2 rfl rfl ?_
  refine j_bipush C 23 dX12_isAgain_3 (by decide) ?_
  refine j_icmp_ge_f C 29 dX12_isAgain_5 (by decide) (by decide) ?_
  refine j_aload_n C 1 0 dX12_isAgain_8 rfl rfl ?_
  refine j_getP C 11 99 fX12_isAgain_13 (by decide) rfl (by decide) rfl (show B.2.2 98 1 = 99 from hB.2.2 98 1 (by decide)) dX12_isAgain_9 ?_
  refine j_bipush C 26 dX12_isAgain_12 (by decide) ?_
  refine j_iload_n C 0 1 dX12_isAgain_14 rfl rfl ?_
  refine z_iadd C 38 (by decide) dX12_isAgain_15 ?_
  refine j_aload_n C 1 0 dX12_isAgain_16 rfl rfl ?_
  refine j_getP C 11 105 fX12_isAgain_36 (by decide) rfl (by decide) rfl (show B.2.2 98 17 = 105 from hB.2.2 98 17 (by decide)) dX12_isAgain_17 ?_
  refine j_iload_n C 0 1 dX12_isAgain_20 rfl rfl ?_
  refine x_iald C 12 23 0 (by decide) rfl rfl rfl (by decide) (by decide) (show B.1 105 12 = 0 from hB.1 105 12 (by decide)) dX12_isAgain_21 ?_
  refine x_iast C 38 3543 (by decide) rfl rfl rfl (by decide) (by decide) dX12_isAgain_22 ?_
  refine z_noI (show B.1 99 38 = 0 from hB.1 99 38 (by decide)) ?_
  refine j_iinc C 0 13 [(1, .int 13), (0, .ref (ad 98))] dX12_isAgain_23 rfl (by decide) (by decide) rfl ?_
  refine j_goto C 2 dX12_isAgain_26 (by decide) ?_
  refine j_iload_n C 0 1 dX12_isAgain_2 rfl rfl ?_
  refine j_bipush C 23 dX12_isAgain_3 (by decide) ?_
  refine j_icmp_ge_f C 29 dX12_isAgain_5 (by decide) (by decide) ?_
  refine j_aload_n C 1 0 dX12_isAgain_8 rfl rfl ?_
  refine j_getP C 11 99 fX12_isAgain_13 (by decide) rfl (by decide) rfl (show B.2.2 98 1 = 99 from hB.2.2 98 1 (by decide)) dX12_isAgain_9 ?_
  refine j_bipush C 26 dX12_isAgain_12 (by decide) ?_
  refine j_iload_n C 0 1 dX12_isAgain_14 rfl rfl ?_
  refine z_iadd C 39 (by decide) dX12_isAgain_15 ?_
  refine j_aload_n C 1 0 dX12_isAgain_16 rfl rfl ?_
  refine j_getP C 11 105 fX12_isAgain_36 (by decide) rfl (by decide) rfl (show B.2.2 98 17 = 105 from hB.2.2 98 17 (by decide)) dX12_isAgain_17 ?_
  refine j_iload_n C 0 1 dX12_isAgain_20 rfl rfl ?_
  refine x_iald C 13 23 0 (by decide) rfl rfl rfl (by decide) (by decide) (show B.1 105 13 = 0 from hB.1 105 13 (by decide)) dX12_isAgain_21 ?_
  refine x_iast C 39 3543 (by decide) rfl rfl rfl (by decide) (by decide) dX12_isAgain_22 ?_
  refine z_noI (show B.1 99 39 = 0 from hB.1 99 39 (by decide)) ?_
  refine j_iinc C 0 14 [(1, .int 14), (0, .ref (ad 98))] dX12_isAgain_23 rfl (by decide) (by decide) rfl ?_
  refine j_goto C 2 dX12_isAgain_26 (by decide) ?_
  refine j_iload_n C 0 1 dX12_isAgain_2 rfl rfl ?_
  refine j_bipush C 23 dX12_isAgain_3 (by decide) ?_
  refine j_icmp_ge_f C 29 dX12_isAgain_5 (by decide) (by decide) ?_
  refine j_aload_n C 1 0 dX12_isAgain_8 rfl rfl ?_
  refine j_getP C 11 99 fX12_isAgain_13 (by decide) rfl (by decide) rfl (show B.2.2 98 1 = 99 from hB.2.2 98 1 (by decide)) dX12_isAgain_9 ?_
  refine j_bipush C 26 dX12_isAgain_12 (by decide) ?_
  refine j_iload_n C 0 1 dX12_isAgain_14 rfl rfl ?_
  refine z_iadd C 40 (by decide) dX12_isAgain_15 ?_
  refine j_aload_n C 1 0 dX12_isAgain_16 rfl rfl ?_
  refine j_getP C 11 105 fX12_isAgain_36 (by decide) rfl (by decide) rfl (show B.2.2 98 17 = 105 from hB.2.2 98 17 (by decide)) dX12_isAgain_17 ?_
  refine j_iload_n C 0 1 dX12_isAgain_20 rfl rfl ?_
  refine x_iald C 14 23 0 (by decide) rfl rfl rfl (by decide) (by decide) (show B.1 105 14 = 0 from hB.1 105 14 (by decide)) dX12_isAgain_21 ?_
  refine x_iast C 40 3543 (by decide) rfl rfl rfl (by decide) (by decide) dX12_isAgain_22 ?_
  refine z_noI (show B.1 99 40 = 0 from hB.1 99 40 (by decide)) ?_
  refine j_iinc C 0 15 [(1, .int 15), (0, .ref (ad 98))] dX12_isAgain_23 rfl (by decide) (by decide) rfl ?_
  refine j_goto C 2 dX12_isAgain_26 (by decide) ?_
  refine j_iload_n C 0 1 dX12_isAgain_2 rfl rfl ?_
  refine j_bipush C 23 dX12_isAgain_3 (by decide) ?_
  refine j_icmp_ge_f C 29 dX12_isAgain_5 (by decide) (by decide) ?_
  refine j_aload_n C 1 0 dX12_isAgain_8 rfl rfl ?_
  refine j_getP C 11 99 fX12_isAgain_13 (by decide) rfl (by decide) rfl (show B.2.2 98 1 = 99 from hB.2.2 98 1 (by decide)) dX12_isAgain_9 ?_
  refine j_bipush C 26 dX12_isAgain_12 (by decide) ?_
  refine j_iload_n C 0 1 dX12_isAgain_14 rfl rfl ?_
  refine z_iadd C 41 (by decide) dX12_isAgain_15 ?_
  refine j_aload_n C 1 0 dX12_isAgain_16 rfl rfl ?_
  refine j_getP C 11 105 fX12_isAgain_36 (by decide) rfl (by decide) rfl (show B.2.2 98 17 = 105 from hB.2.2 98 17 (by decide)) dX12_isAgain_17 ?_
  refine j_iload_n C 0 1 dX12_isAgain_20 rfl rfl ?_
  refine x_iald C 15 23 0 (by decide) rfl rfl rfl (by decide) (by decide) (show B.1 105 15 = 0 from hB.1 105 15 (by decide)) dX12_isAgain_21 ?_
  refine x_iast C 41 3543 (by decide) rfl rfl rfl (by decide) (by decide) dX12_isAgain_22 ?_
  refine z_noI (show B.1 99 41 = 0 from hB.1 99 41 (by decide)) ?_
  refine j_iinc C 0 16 [(1, .int 16), (0, .ref (ad 98))] dX12_isAgain_23 rfl (by decide) (by decide) rfl ?_
  refine j_goto C 2 dX12_isAgain_26 (by decide) ?_
  refine j_iload_n C 0 1 dX12_isAgain_2 rfl rfl ?_
  refine j_bipush C 23 dX12_isAgain_3 (by decide) ?_
  refine j_icmp_ge_f C 29 dX12_isAgain_5 (by decide) (by decide) ?_
  refine j_aload_n C 1 0 dX12_isAgain_8 rfl rfl ?_
  refine j_getP C 11 99 fX12_isAgain_13 (by decide) rfl (by decide) rfl (show B.2.2 98 1 = 99 from hB.2.2 98 1 (by decide)) dX12_isAgain_9 ?_
  refine j_bipush C 26 dX12_isAgain_12 (by decide) ?_
  refine j_iload_n C 0 1 dX12_isAgain_14 rfl rfl ?_
  refine z_iadd C 42 (by decide) dX12_isAgain_15 ?_
  refine j_aload_n C 1 0 dX12_isAgain_16 rfl rfl ?_
  refine j_getP C 11 105 fX12_isAgain_36 (by decide) rfl (by decide) rfl (show B.2.2 98 17 = 105 from hB.2.2 98 17 (by decide)) dX12_isAgain_17 ?_
  refine j_iload_n C 0 1 dX12_isAgain_20 rfl rfl ?_
  refine x_iald C 16 23 0 (by decide) rfl rfl rfl (by decide) (by decide) (show B.1 105 16 = 0 from hB.1 105 16 (by decide)) dX12_isAgain_21 ?_
  refine x_iast C 42 3543 (by decide) rfl rfl rfl (by decide) (by decide) dX12_isAgain_22 ?_
  refine z_noI (show B.1 99 42 = 0 from hB.1 99 42 (by decide)) ?_
  refine j_iinc C 0 17 [(1, .int 17), (0, .ref (ad 98))] dX12_isAgain_23 rfl (by decide) (by decide) rfl ?_
  refine j_goto C 2 dX12_isAgain_26 (by decide) ?_
  refine j_iload_n C 0 1 dX12_isAgain_2 rfl rfl ?_
  refine j_bipush C 23 dX12_isAgain_3 (by decide) ?_
  refine j_icmp_ge_f C 29 dX12_isAgain_5 (by decide) (by decide) ?_
  refine j_aload_n C 1 0 dX12_isAgain_8 rfl rfl ?_
  refine j_getP C 11 99 fX12_isAgain_13 (by decide) rfl (by decide) rfl (show B.2.2 98 1 = 99 from hB.2.2 98 1 (by decide)) dX12_isAgain_9 ?_
  refine j_bipush C 26 dX12_isAgain_12 (by decide) ?_
  refine j_iload_n C 0 1 dX12_isAgain_14 rfl rfl ?_
  refine z_iadd C 43 (by decide) dX12_isAgain_15 ?_
  refine j_aload_n C 1 0 dX12_isAgain_16 rfl rfl ?_
  refine j_getP C 11 105 fX12_isAgain_36 (by decide) rfl (by decide) rfl (show B.2.2 98 17 = 105 from hB.2.2 98 17 (by decide)) dX12_isAgain_17 ?_
  refine j_iload_n C 0 1 dX12_isAgain_20 rfl rfl ?_
  refine x_iald C 17 23 0 (by decide) rfl rfl rfl (by decide) (by decide) (show B.1 105 17 = 0 from hB.1 105 17 (by decide)) dX12_isAgain_21 ?_
  refine x_iast C 43 3543 (by decide) rfl rfl rfl (by decide) (by decide) dX12_isAgain_22 ?_
  refine z_noI (show B.1 99 43 = 0 from hB.1 99 43 (by decide)) ?_
  refine j_iinc C 0 18 [(1, .int 18), (0, .ref (ad 98))] dX12_isAgain_23 rfl (by decide) (by decide) rfl ?_
  refine j_goto C 2 dX12_isAgain_26 (by decide) ?_
  refine j_iload_n C 0 1 dX12_isAgain_2 rfl rfl ?_
  refine j_bipush C 23 dX12_isAgain_3 (by decide) ?_
  refine j_icmp_ge_f C 29 dX12_isAgain_5 (by decide) (by decide) ?_
  refine j_aload_n C 1 0 dX12_isAgain_8 rfl rfl ?_
  refine j_getP C 11 99 fX12_isAgain_13 (by decide) rfl (by decide) rfl (show B.2.2 98 1 = 99 from hB.2.2 98 1 (by decide)) dX12_isAgain_9 ?_
  refine j_bipush C 26 dX12_isAgain_12 (by decide) ?_
  refine j_iload_n C 0 1 dX12_isAgain_14 rfl rfl ?_
  refine z_iadd C 44 (by decide) dX12_isAgain_15 ?_
  refine j_aload_n C 1 0 dX12_isAgain_16 rfl rfl ?_
  refine j_getP C 11 105 fX12_isAgain_36 (by decide) rfl (by decide) rfl (show B.2.2 98 17 = 105 from hB.2.2 98 17 (by decide)) dX12_isAgain_17 ?_
  refine j_iload_n C 0 1 dX12_isAgain_20 rfl rfl ?_
  refine x_iald C 18 23 0 (by decide) rfl rfl rfl (by decide) (by decide) (show B.1 105 18 = 0 from hB.1 105 18 (by decide)) dX12_isAgain_21 ?_
  refine x_iast C 44 3543 (by decide) rfl rfl rfl (by decide) (by decide) dX12_isAgain_22 ?_
  refine z_noI (show B.1 99 44 = 0 from hB.1 99 44 (by decide)) ?_
  refine j_iinc C 0 19 [(1, .int 19), (0, .ref (ad 98))] dX12_isAgain_23 rfl (by decide) (by decide) rfl ?_
  refine j_goto C 2 dX12_isAgain_26 (by decide) ?_
  refine j_iload_n C 0 1 dX12_isAgain_2 rfl rfl ?_
  refine j_bipush C 23 dX12_isAgain_3 (by decide) ?_
  refine j_icmp_ge_f C 29 dX12_isAgain_5 (by decide) (by decide) ?_
  refine j_aload_n C 1 0 dX12_isAgain_8 rfl rfl ?_
  refine j_getP C 11 99 fX12_isAgain_13 (by decide) rfl (by decide) rfl (show B.2.2 98 1 = 99 from hB.2.2 98 1 (by decide)) dX12_isAgain_9 ?_
  refine j_bipush C 26 dX12_isAgain_12 (by decide) ?_
  refine j_iload_n C 0 1 dX12_isAgain_14 rfl rfl ?_
  refine z_iadd C 45 (by decide) dX12_isAgain_15 ?_
  refine j_aload_n C 1 0 dX12_isAgain_16 rfl rfl ?_
  refine j_getP C 11 105 fX12_isAgain_36 (by decide) rfl (by decide) rfl (show B.2.2 98 17 = 105 from hB.2.2 98 17 (by decide)) dX12_isAgain_17 ?_
  refine j_iload_n C 0 1 dX12_isAgain_20 rfl rfl ?_
  refine x_iald C 19 23 0 (by decide) rfl rfl rfl (by decide) (by decide) (show B.1 105 19 = 0 from hB.1 105 19 (by decide)) dX12_isAgain_21 ?_
  refine x_iast C 45 3543 (by decide) rfl rfl rfl (by decide) (by decide) dX12_isAgain_22 ?_
  refine z_noI (show B.1 99 45 = 0 from hB.1 99 45 (by decide)) ?_
  refine j_iinc C 0 20 [(1, .int 20), (0, .ref (ad 98))] dX12_isAgain_23 rfl (by decide) (by decide) rfl ?_
  refine j_goto C 2 dX12_isAgain_26 (by decide) ?_
  refine j_iload_n C 0 1 dX12_isAgain_2 rfl rfl ?_
  refine j_bipush C 23 dX12_isAgain_3 (by decide) ?_
  refine j_icmp_ge_f C 29 dX12_isAgain_5 (by decide) (by decide) ?_
  refine j_aload_n C 1 0 dX12_isAgain_8 rfl rfl ?_
  refine j_getP C 11 99 fX12_isAgain_13 (by decide) rfl (by decide) rfl (show B.2.2 98 1 = 99 from hB.2.2 98 1 (by decide)) dX12_isAgain_9 ?_
  refine j_bipush C 26 dX12_isAgain_12 (by decide) ?_
  refine j_iload_n C 0 1 dX12_isAgain_14 rfl rfl ?_
  refine z_iadd C 46 (by decide) dX12_isAgain_15 ?_
  refine j_aload_n C 1 0 dX12_isAgain_16 rfl rfl ?_
  refine j_getP C 11 105 fX12_isAgain_36 (by decide) rfl (by decide) rfl (show B.2.2 98 17 = 105 from hB.2.2 98 17 (by decide)) dX12_isAgain_17 ?_
  refine j_iload_n C 0 1 dX12_isAgain_20 rfl rfl ?_
  refine x_iald C 20 23 0 (by decide) rfl rfl rfl (by decide) (by decide) (show B.1 105 20 = 0 from hB.1 105 20 (by decide)) dX12_isAgain_21 ?_
  refine x_iast C 46 3543 (by decide) rfl rfl rfl (by decide) (by decide) dX12_isAgain_22 ?_
  refine z_noI (show B.1 99 46 = 0 from hB.1 99 46 (by decide)) ?_
  refine j_iinc C 0 21 [(1, .int 21), (0, .ref (ad 98))] dX12_isAgain_23 rfl (by decide) (by decide) rfl ?_
  refine j_goto C 2 dX12_isAgain_26 (by decide) ?_
  refine j_iload_n C 0 1 dX12_isAgain_2 rfl rfl ?_
  refine j_bipush C 23 dX12_isAgain_3 (by decide) ?_
  refine j_icmp_ge_f C 29 dX12_isAgain_5 (by decide) (by decide) ?_
  refine j_aload_n C 1 0 dX12_isAgain_8 rfl rfl ?_
  refine j_getP C 11 99 fX12_isAgain_13 (by decide) rfl (by decide) rfl (show B.2.2 98 1 = 99 from hB.2.2 98 1 (by decide)) dX12_isAgain_9 ?_
  refine j_bipush C 26 dX12_isAgain_12 (by decide) ?_
  refine j_iload_n C 0 1 dX12_isAgain_14 rfl rfl ?_
  refine z_iadd C 47 (by decide) dX12_isAgain_15 ?_
  refine j_aload_n C 1 0 dX12_isAgain_16 rfl rfl ?_
  refine j_getP C 11 105 fX12_isAgain_36 (by decide) rfl (by decide) rfl (show B.2.2 98 17 = 105 from hB.2.2 98 17 (by decide)) dX12_isAgain_17 ?_
  refine j_iload_n C 0 1 dX12_isAgain_20 rfl rfl ?_
  refine x_iald C 21 23 0 (by decide) rfl rfl rfl (by decide) (by decide) (show B.1 105 21 = 0 from hB.1 105 21 (by decide)) dX12_isAgain_21 ?_
  refine x_iast C 47 3543 (by decide) rfl rfl rfl (by decide) (by decide) dX12_isAgain_22 ?_
  refine z_noI (show B.1 99 47 = 0 from hB.1 99 47 (by decide)) ?_
  refine j_iinc C 0 22 [(1, .int 22), (0, .ref (ad 98))] dX12_isAgain_23 rfl (by decide) (by decide) rfl ?_
  refine j_goto C 2 dX12_isAgain_26 (by decide) ?_
  refine j_iload_n C 0 1 dX12_isAgain_2 rfl rfl ?_
  refine j_bipush C 23 dX12_isAgain_3 (by decide) ?_
  refine j_icmp_ge_f C 29 dX12_isAgain_5 (by decide) (by decide) ?_
  refine j_aload_n C 1 0 dX12_isAgain_8 rfl rfl ?_
  refine j_getP C 11 99 fX12_isAgain_13 (by decide) rfl (by decide) rfl (show B.2.2 98 1 = 99 from hB.2.2 98 1 (by decide)) dX12_isAgain_9 ?_
  refine j_bipush C 26 dX12_isAgain_12 (by decide) ?_
  refine j_iload_n C 0 1 dX12_isAgain_14 rfl rfl ?_
  refine z_iadd C 48 (by decide) dX12_isAgain_15 ?_
  refine j_aload_n C 1 0 dX12_isAgain_16 rfl rfl ?_
  refine j_getP C 11 105 fX12_isAgain_36 (by decide) rfl (by decide) rfl (show B.2.2 98 17 = 105 from hB.2.2 98 17 (by decide)) dX12_isAgain_17 ?_
  refine j_iload_n C 0 1 dX12_isAgain_20 rfl rfl ?_
  refine x_iald C 22 23 0 (by decide) rfl rfl rfl (by decide) (by decide) (show B.1 105 22 = 0 from hB.1 105 22 (by decide)) dX12_isAgain_21 ?_
  refine x_iast C 48 3543 (by decide) rfl rfl rfl (by decide) (by decide) dX12_isAgain_22 ?_
  refine z_noI (show B.1 99 48 = 0 from hB.1 99 48 (by decide)) ?_
  refine j_iinc C 0 23 [(1, .int 23), (0, .ref (ad 98))] dX12_isAgain_23 rfl (by decide) (by decide) rfl ?_
  refine j_goto C 2 dX12_isAgain_26 (by decide) ?_
  refine j_iload_n C 0 1 dX12_isAgain_2 rfl rfl ?_
  refine j_bipush C 23 dX12_isAgain_3 (by decide) ?_
  refine j_icmp_ge_t C 29 dX12_isAgain_5 (by decide) (by decide) ?_
  exact hret _ _ _ dX12_isAgain_29 rfl
set_option maxHeartbeats 4000000 in
set_option maxRecDepth 100000 in
theorem k287_X12_notes {l : Launch} {dC : Nat → ClassId} {dI : Nat → Nat → Nat} {ad : Nat → Nat} {cA : Nat → ClassId} {B : mm_M} (hB : MB B) (p0 : Int32) (p1 : Int32) : Cv l 0 yX12_notes wsX12_notes dC dI ad cA [.ref (ad 98)] (wI (wI B 99 31 p0) 99 32 p1) (fun M' => (wI (wI (wI B 99 31 p0) 99 32 p1) 99 49 1) = M') := by
  refine cv_of (cc := cX12_notes) (maxL := 2) (lv := [(0, .ref (ad 98))]) (by decide) rfl (Nat.le_of_ble_eq_true rfl) rfl ?_
  intro p e s m args below meth c A Q C hret
  refine j_aload_n C 0 0 dX12_notes_0 rfl rfl ?_
  refine j_getP C 11 99 fX12_notes_13 (by decide) rfl (by decide) rfl (show B.2.2 98 1 = 99 from hB.2.2 98 1 (by decide)) dX12_notes_1 ?_
  refine j_bipush C 49 dX12_notes_4 (by decide) ?_
  refine x_iald C 49 3543 0 (by decide) rfl rfl rfl (by decide) (by decide) (show B.1 99 49 = 0 from hB.1 99 49 (by decide)) dX12_notes_6 ?_
  refine j_bipush C 10 dX12_notes_7 (by decide) ?_
  refine j_icmp_ne_t C 56 dX12_notes_9 (by decide) (by decide) ?_
  refine j_iconst C 0 dX12_notes_56 (by decide) ?_
  refine j_istore_n C 1 [(1, .int 0), (0, .ref (ad 98))] dX12_notes_57 rfl (by decide) rfl ?_
  refine j_lv [1, 0] rfl ?_
  have L : ∀ (n i : Nat), 0 ≤ i → i + n = 23 → jj p l e (cn_R 0) s m args below meth c 0 0 Q 2 dC dI ad cA A (wI (wI B 99 31 p0) 99 32 p1) 58 [(0, .ref (ad 98)), (1, .int (nI i))] [] := by
    intro n
    induction n with
    | zero =>
      intro i h1 h2
      obtain rfl : i = 23 := by omega
      refine j_iload_n C 1 1 dX12_notes_58 rfl rfl ?_
      refine j_bipush C 23 dX12_notes_59 (by decide) ?_
      refine j_icmp_ge_t C 96 dX12_notes_61 (by decide) (by decide) ?_
      refine j_aload_n C 0 0 dX12_notes_96 rfl rfl ?_
      refine j_getP C 11 99 fX12_notes_13 (by decide) rfl (by decide) rfl (show B.2.2 98 1 = 99 from hB.2.2 98 1 (by decide)) dX12_notes_97 ?_
      refine j_bipush C 49 dX12_notes_100 (by decide) ?_
      refine j_dup2 C dX12_notes_102 rfl rfl ?_
      refine x_iald C 49 3543 0 (by decide) rfl rfl rfl (by decide) (by decide) (show B.1 99 49 = 0 from hB.1 99 49 (by decide)) dX12_notes_103 ?_
      refine j_iconst C 1 dX12_notes_104 (by decide) ?_
      refine z_iadd C 1 (by decide) dX12_notes_105 ?_
      refine x_iast C 49 3543 (by decide) rfl rfl rfl (by decide) (by decide) dX12_notes_106 ?_
      exact hret _ _ _ dX12_notes_107 rfl
    | succ n ih =>
      intro i h1 h2
      refine j_iload_n C 1 1 dX12_notes_58 rfl rfl ?_
      refine j_bipush C 23 dX12_notes_59 (by decide) ?_
      refine z_icmp_ge C 96 (i : Int) 23 (nI_toInt (n := i) (by omega)) (by decide) dX12_notes_61 (by decide) (fun h1 => ?_) (fun h1 => ?_)
      · exfalso; omega
      · refine j_aload_n C 0 0 dX12_notes_64 rfl rfl ?_
        refine j_getP C 11 99 fX12_notes_13 (by decide) rfl (by decide) rfl (show B.2.2 98 1 = 99 from hB.2.2 98 1 (by decide)) dX12_notes_65 ?_
        refine j_bipush C 50 dX12_notes_68 (by decide) ?_
        refine j_bipush C 23 dX12_notes_70 (by decide) ?_
        refine j_aload_n C 0 0 dX12_notes_72 rfl rfl ?_
        refine j_getP C 11 99 fX12_notes_13 (by decide) rfl (by decide) rfl (show B.2.2 98 1 = 99 from hB.2.2 98 1 (by decide)) dX12_notes_73 ?_
        refine j_bipush C 49 dX12_notes_76 (by decide) ?_
        refine x_iald C 49 3543 0 (by decide) rfl rfl rfl (by decide) (by decide) (show B.1 99 49 = 0 from hB.1 99 49 (by decide)) dX12_notes_78 ?_
        refine z_imul C 0 (by decide) dX12_notes_79 ?_
        refine z_iadd C 50 (by decide) dX12_notes_80 ?_
        refine j_iload_n C 1 1 dX12_notes_81 rfl rfl ?_
        refine z_iadd C (nI (i + 50)) ((nI_add 50 i).trans (congrArg nI (by omega))) dX12_notes_82 ?_
        refine j_aload_n C 0 0 dX12_notes_83 rfl rfl ?_
        refine j_getP C 11 105 fX12_notes_36 (by decide) rfl (by decide) rfl (show B.2.2 98 17 = 105 from hB.2.2 98 17 (by decide)) dX12_notes_84 ?_
        refine j_iload_n C 1 1 dX12_notes_87 rfl rfl ?_
        refine x_iald C i 23 0 (by decide) rfl rfl rfl (by omega) (by decide) (show B.1 105 i = 0 from hB.1 105 i (by decide)) dX12_notes_88 ?_
        refine x_iast C (i + 50) 3543 (by decide) rfl rfl rfl (by omega) (by decide) dX12_notes_89 ?_
        refine z_noI ((u2_b (i := 99) (k := 32) (a := 99) (b := (i + 50)) _ (p1 : Int32) (by omega)).trans ((u2_b (i := 99) (k := 31) (a := 99) (b := (i + 50)) _ (p0 : Int32) (by omega)).trans (show B.1 99 (i + 50) = 0 from hB.1 99 (i + 50) (by decide)))) ?_
        refine j_iinc C 1 (nI (i + 1)) [(1, .int (nI (i + 1))), (0, .ref (ad 98))] dX12_notes_90 rfl (nI_1 i) (by decide) rfl ?_
        refine j_goto C 58 dX12_notes_93 (by decide) ?_
        refine j_lv [1, 0] rfl ?_
        exact ih (i + 1) (by omega) (by omega)
  exact L (23 - 0) 0 (by omega) (by omega)
set_option maxHeartbeats 4000000 in
set_option maxRecDepth 100000 in
theorem k288_X12_whyNot {l : Launch} {dC : Nat → ClassId} {dI : Nat → Nat → Nat} {ad : Nat → Nat} {cA : Nat → ClassId} {B : mm_M} (hB : MB B) (p0 : Int32) (p1 : Int32) : Ci l 0 yX12_whyNot wsX12_whyNot dC dI ad cA [.ref (ad 98), .long (-1)] (wI (wI B 99 31 p0) 99 32 (sx p1)) (fun r M' => 0 = r ∧ (wI (wI B 99 31 p0) 99 32 (sx p1)) = M') := by
  refine ci_of (cc := cX12_whyNot) (maxL := 3) (ty := .int) (lv := [(0, .ref (ad 98)), (1, .long (-1))]) (by decide) rfl (fun r M' hp => rfl) (Nat.le_of_ble_eq_true rfl) rfl ?_
  intro p e s m args below meth c A Q C hret
  refine j_lload_n C 1 1 dX12_whyNot_0 rfl rfl ?_
  refine j_ldc2 C (-1) dX12_whyNot_1 (by decide +kernel) ?_
  refine z_lcmp C 0 (by decide) dX12_whyNot_4 ?_
  refine j_if_ne_f C 10 dX12_whyNot_5 (by decide) (by decide) ?_
  refine j_iconst C 0 dX12_whyNot_8 (by decide) ?_
  exact hret _ _ _ _ dX12_whyNot_9 ⟨rfl, rfl⟩
set_option maxHeartbeats 4000000 in
set_option maxRecDepth 100000 in
theorem k289_X12_oddsAll {l : Launch} {dC : Nat → ClassId} {dI : Nat → Nat → Nat} {ad : Nat → Nat} {cA : Nat → ClassId} {B : mm_M} (hB : MB B) (p0 : Int32) (p1 : Int32) : Ci l 0 yX12_oddsAll wsX12_oddsAll dC dI ad cA [.ref (ad 98)] (wI (wI B 99 31 (p0 + 1)) 99 32 (sx p1)) (fun r M' => 0 = r ∧ (wI (wI B 99 31 (p0 + 1)) 99 32 (sx p1)) = M') := by
  refine ci_of (cc := cX12_oddsAll) (maxL := 3) (ty := .int) (lv := [(0, .ref (ad 98))]) (by decide) rfl (fun r M' hp => rfl) (Nat.le_of_ble_eq_true rfl) rfl ?_
  intro p e s m args below meth c A Q C hret
  refine j_iconst C 0 dX12_oddsAll_0 (by decide) ?_
  refine j_istore_n C 1 [(1, .int 0), (0, .ref (ad 98))] dX12_oddsAll_1 rfl (by decide) rfl ?_
  refine j_iconst C 0 dX12_oddsAll_2 (by decide) ?_
  refine j_istore_n C 2 [(2, .int 0), (1, .int 0), (0, .ref (ad 98))] dX12_oddsAll_3 rfl (by decide) rfl ?_
  refine j_iload_n C 0 2 dX12_oddsAll_4 rfl rfl ?_
  refine j_aload_n C 2 0 dX12_oddsAll_5 rfl rfl ?_
  refine j_getP C 11 99 fX12_oddsAll_13 (by decide) rfl (by decide) rfl (show B.2.2 98 1 = 99 from hB.2.2 98 1 (by decide)) dX12_oddsAll_6 ?_
  refine j_iconst C 1 dX12_oddsAll_9 (by decide) ?_
  refine x_iald C 1 3543 0 (by decide) rfl rfl rfl (by decide) (by decide) (show B.1 99 1 = 0 from hB.1 99 1 (by decide)) dX12_oddsAll_10 ?_
  refine j_icmp_ge_t C 32 dX12_oddsAll_11 (by decide) (by decide) ?_
  refine j_iload_n C 1 1 dX12_oddsAll_32 rfl rfl ?_
  exact hret _ _ _ _ dX12_oddsAll_33 ⟨rfl, rfl⟩
set_option maxHeartbeats 4000000 in
set_option maxRecDepth 100000 in
theorem k290_X12_goesDay {l : Launch} {dC : Nat → ClassId} {dI : Nat → Nat → Nat} {ad : Nat → Nat} {cA : Nat → ClassId} {B : mm_M} (hB : MB B) (p0 : Int32) (p1 : Int32) : Ci l 1 yX12_goesDay wsX12_goesDay dC dI ad cA [.ref (ad 98)] (wI (wI B 99 31 p0) 99 32 (sx p1)) (fun r M' => 0 = r ∧ (wI (wI B 99 31 (p0 + 1)) 99 32 (sx p1)) = M') := by
  refine ci_of (cc := cX12_goesDay) (maxL := 4) (ty := .int) (lv := [(0, .ref (ad 98))]) (by decide) rfl (fun r M' hp => rfl) (Nat.le_of_ble_eq_true rfl) rfl ?_
  intro p e s m args below meth c A Q C hret
  refine j_aload_n C 0 0 dX12_goesDay_0 rfl rfl ?_
  refine j_getP C 11 99 fX12_goesDay_13 (by decide) rfl (by decide) rfl (show B.2.2 98 1 = 99 from hB.2.2 98 1 (by decide)) dX12_goesDay_1 ?_
  refine j_bipush C 31 dX12_goesDay_4 (by decide) ?_
  refine j_dup2 C dX12_goesDay_6 rfl rfl ?_
  refine x_iald C 31 3543 p0 (by decide) rfl rfl rfl (by decide) (by decide) rfl dX12_goesDay_7 ?_
  refine j_iconst C 1 dX12_goesDay_8 (by decide) ?_
  refine z_iadd C (p0 + 1) rfl dX12_goesDay_9 ?_
  refine x_iast C 31 3543 (by decide) rfl rfl rfl (by decide) (by decide) dX12_goesDay_10 ?_
  refine j_M (M' := (wI (wI B 99 31 (p0 + 1)) 99 32 (sx p1))) ((wI_c (by decide)).trans (congrArg (fun X => wI X 99 32 (sx p1)) (wI_w _ _ _ _ _))) ?_
  refine j_aload_n C 0 0 dX12_goesDay_11 rfl rfl ?_
  refine j_callVi C (d := 0) (As := []) (st := []) 98 (by decide) rfl (by decide) rfl (k289_X12_oddsAll hB p0 p1) gX12_goesDay_X12_oddsAll rfl hdX12_oddsAll (by decide) (Nat.le_of_ble_eq_true rfl) dX12_goesDay_12 rfl (fun r M' hp => ?_)
  obtain ⟨rfl, rfl⟩ := hp
  refine j_istore_n C 1 [(1, .int 0), (0, .ref (ad 98))] dX12_goesDay_15 rfl (by decide) rfl ?_
  refine j_iload_n C 0 1 dX12_goesDay_16 rfl rfl ?_
  refine j_if_ne_f C 22 dX12_goesDay_17 (by decide) (by decide) ?_
  refine j_iconst C 0 dX12_goesDay_20 (by decide) ?_
  exact hret _ _ _ _ dX12_goesDay_21 ⟨rfl, rfl⟩
set_option maxHeartbeats 4000000 in
set_option maxRecDepth 100000 in
theorem k291_X12_does {l : Launch} {dC : Nat → ClassId} {dI : Nat → Nat → Nat} {ad : Nat → Nat} {cA : Nat → ClassId} {B : mm_M} (hB : MB B) (p0 : Int32) (p1 : Int32) : Cv l 2 yX12_does wsX12_does dC dI ad cA [.ref (ad 98), .int (-1)] (wI (wI B 99 31 p0) 99 32 (sx p1)) (fun M' => (wI (wI B 99 31 (p0 + 1)) 99 32 (sx p1)) = M') := by
  refine cv_of (cc := cX12_does) (maxL := 2) (lv := [(0, .ref (ad 98)), (1, .int (-1))]) (by decide) rfl (Nat.le_of_ble_eq_true rfl) rfl ?_
  intro p e s m args below meth c A Q C hret
  refine j_iload_n C 1 1 dX12_does_0 rfl rfl ?_
  refine j_iconst C (-1) dX12_does_1 (by decide) ?_
  refine j_icmp_ne_f C 13 dX12_does_2 (by decide) (by decide) ?_
  refine j_aload_n C 0 0 dX12_does_5 rfl rfl ?_
  refine j_callVi C (d := 1) (As := []) (st := []) 98 (by decide) rfl (by decide) rfl (k290_X12_goesDay hB p0 p1) gX12_does_X12_goesDay rfl hdX12_goesDay (by decide) (Nat.le_of_ble_eq_true rfl) dX12_does_6 rfl (fun r M' hp => ?_)
  obtain ⟨rfl, rfl⟩ := hp
  refine j_pop C dX12_does_9 rfl ?_
  refine j_goto C 96 dX12_does_10 (by decide) ?_
  exact hret _ _ _ dX12_does_96 rfl
set_option maxHeartbeats 4000000 in
set_option maxRecDepth 100000 in
theorem k292_X12_within {l : Launch} {dC : Nat → ClassId} {dI : Nat → Nat → Nat} {ad : Nat → Nat} {cA : Nat → ClassId} {B : mm_M} (hB : MB B) (p0 : Int32) (p1 : Int32) (p2 : Int32) : Ci l 0 yX12_within wsX12_within dC dI ad cA [.long p0.toInt64, .long 0, .long 9] (wI (wI B 99 31 p1) 99 32 (sx (sx p2))) (fun r M' => ((p0.toInt < 0) ∧ 0 = r ∧ (wI (wI B 99 31 p1) 99 32 (sx (sx p2))) = M') ∨ ((¬ p0.toInt < 0 ∧ 9 < p0.toInt) ∧ 0 = r ∧ (wI (wI B 99 31 p1) 99 32 (sx (sx p2))) = M') ∨ ((¬ p0.toInt < 0 ∧ ¬ 9 < p0.toInt) ∧ 1 = r ∧ (wI (wI B 99 31 p1) 99 32 (sx (sx p2))) = M')) := by
  refine ci_of (cc := cX12_within) (maxL := 6) (ty := .boolean) (lv := [(0, .long p0.toInt64), (2, .long 0), (4, .long 9)]) (by decide) rfl (fun r M' hp => by rcases hp with ⟨-, rfl, rfl⟩ | ⟨-, rfl, rfl⟩ | ⟨-, rfl, rfl⟩ <;> rfl) (Nat.le_of_ble_eq_true rfl) rfl ?_
  intro p e s m args below meth c A Q C hret
  refine j_lload_n C 0 0 dX12_within_0 rfl rfl ?_
  refine j_lload_n C 1 2 dX12_within_1 rfl rfl ?_
  refine z_lcmp_lt C 17 p0.toInt 0 ((Int32.toInt_toInt64 p0).trans rfl) (by decide) dX12_within_2 dX12_within_3 (by decide) (fun h1 => ?_) (fun h1 => ?_)
  · refine j_iconst C 0 dX12_within_17 (by decide) ?_
    exact hret _ _ _ _ dX12_within_18 (Or.inl ⟨h1, rfl, rfl⟩)
  · refine j_lload_n C 0 0 dX12_within_6 rfl rfl ?_
    refine j_lload C 2 dX12_within_7 rfl ?_
    refine z_lcmp_gt C 17 p0.toInt 9 ((Int32.toInt_toInt64 p0).trans rfl) (by decide) dX12_within_9 dX12_within_10 (by decide) (fun h2 => ?_) (fun h2 => ?_)
    · refine j_iconst C 0 dX12_within_17 (by decide) ?_
      exact hret _ _ _ _ dX12_within_18 (Or.inr (Or.inl ⟨⟨h1, h2⟩, rfl, rfl⟩))
    · refine j_iconst C 1 dX12_within_13 (by decide) ?_
      refine j_goto C 18 dX12_within_14 (by decide) ?_
      exact hret _ _ _ _ dX12_within_18 (Or.inr (Or.inr ⟨⟨h1, h2⟩, rfl, rfl⟩))
set_option maxHeartbeats 4000000 in
set_option maxRecDepth 100000 in
theorem k293_X12_within {l : Launch} {dC : Nat → ClassId} {dI : Nat → Nat → Nat} {ad : Nat → Nat} {cA : Nat → ClassId} {B : mm_M} (hB : MB B) (p0 : Int32) (p1 : Int32) (p2 : Int32) : Ci l 0 yX12_within wsX12_within dC dI ad cA [.long p0.toInt64, .long 0, .long (-1)] (wI (wI B 99 31 p1) 99 32 (sx (sx p2))) (fun r M' => 0 = r ∧ (wI (wI B 99 31 p1) 99 32 (sx (sx p2))) = M') := by
  refine ci_of (cc := cX12_within) (maxL := 6) (ty := .boolean) (lv := [(0, .long p0.toInt64), (2, .long 0), (4, .long (-1))]) (by decide) rfl (fun r M' hp => by obtain ⟨rfl, rfl⟩ := hp; rfl) (Nat.le_of_ble_eq_true rfl) rfl ?_
  intro p e s m args below meth c A Q C hret
  refine j_lload_n C 0 0 dX12_within_0 rfl rfl ?_
  refine j_lload_n C 1 2 dX12_within_1 rfl rfl ?_
  refine z_lcmp_lt C 17 p0.toInt 0 ((Int32.toInt_toInt64 p0).trans rfl) (by decide) dX12_within_2 dX12_within_3 (by decide) (fun h1 => ?_) (fun h1 => ?_)
  · refine j_iconst C 0 dX12_within_17 (by decide) ?_
    exact hret _ _ _ _ dX12_within_18 ⟨rfl, rfl⟩
  · refine j_lload_n C 0 0 dX12_within_6 rfl rfl ?_
    refine j_lload C 2 dX12_within_7 rfl ?_
    refine z_lcmp_gt C 17 p0.toInt (-1) ((Int32.toInt_toInt64 p0).trans rfl) (by decide) dX12_within_9 dX12_within_10 (by decide) (fun h2 => ?_) (fun h2 => ?_)
    · refine j_iconst C 0 dX12_within_17 (by decide) ?_
      exact hret _ _ _ _ dX12_within_18 ⟨rfl, rfl⟩
    · exfalso; omega
set_option maxHeartbeats 4000000 in
set_option maxRecDepth 100000 in
theorem k294_X12_isBuyer {l : Launch} {dC : Nat → ClassId} {dI : Nat → Nat → Nat} {ad : Nat → Nat} {cA : Nat → ClassId} {B : mm_M} (hB : MB B) (p0 : Int32) (p1 : Int32) (p2 : Int32) : Ci l 1 yX12_isBuyer wsX12_isBuyer dC dI ad cA [.ref (ad 98), .long p0.toInt64] (wI (wI B 99 31 p1) 99 32 (sx (sx p2))) (fun r M' => 0 = r ∧ (wI (wI B 99 31 p1) 99 32 (sx (sx p2))) = M') := by
  refine ci_of (cc := cX12_isBuyer) (maxL := 3) (ty := .boolean) (lv := [(0, .ref (ad 98)), (1, .long p0.toInt64)]) (by decide) rfl (fun r M' hp => by obtain ⟨rfl, rfl⟩ := hp; rfl) (Nat.le_of_ble_eq_true rfl) rfl ?_
  intro p e s m args below meth c A Q C hret
  refine j_lload_n C 1 1 dX12_isBuyer_0 rfl rfl ?_
  refine j_lconst C 0 dX12_isBuyer_1 (by decide) ?_
  refine j_aload_n C 0 0 dX12_isBuyer_2 rfl rfl ?_
  refine j_getP C 11 99 fX12_isBuyer_13 (by decide) rfl (by decide) rfl (show B.2.2 98 1 = 99 from hB.2.2 98 1 (by decide)) dX12_isBuyer_3 ?_
  refine j_iconst C 1 dX12_isBuyer_6 (by decide) ?_
  refine x_iald C 1 3543 0 (by decide) rfl rfl rfl (by decide) (by decide) (show B.1 99 1 = 0 from hB.1 99 1 (by decide)) dX12_isBuyer_7 ?_
  refine j_iconst C 1 dX12_isBuyer_8 (by decide) ?_
  refine z_isub C (-1) (by decide) dX12_isBuyer_9 ?_
  refine z_i2l C (-1) (by decide) dX12_isBuyer_10 ?_
  refine j_callSi C (d := 0) (As := [.long p0.toInt64, .long 0, .long (-1)]) (st := []) (k293_X12_within hB p0 p1 p2) gX12_isBuyer_X12_within rfl hdX12_withins (by decide) (Nat.le_of_ble_eq_true rfl) dX12_isBuyer_11 rfl (fun r M' hp => ?_)
  obtain ⟨rfl, rfl⟩ := hp
  exact hret _ _ _ _ dX12_isBuyer_14 ⟨rfl, rfl⟩
set_option maxHeartbeats 4000000 in
set_option maxRecDepth 100000 in
theorem k295_X12_whyVisit {l : Launch} {dC : Nat → ClassId} {dI : Nat → Nat → Nat} {ad : Nat → Nat} {cA : Nat → ClassId} {B : mm_M} (hB : MB B) (p0 : Int32) (p1 : Int32) (p2 : Int32) : Ci l 2 yX12_whyVisit wsX12_whyVisit dC dI ad cA [.ref (ad 98), .long p0.toInt64] (wI (wI B 99 31 p1) 99 32 (sx (sx p2))) (fun r M' => 1 = r ∧ (wI (wI B 99 31 p1) 99 32 (sx (sx p2))) = M') := by
  refine ci_of (cc := cX12_whyVisit) (maxL := 3) (ty := .int) (lv := [(0, .ref (ad 98)), (1, .long p0.toInt64)]) (by decide) rfl (fun r M' hp => rfl) (Nat.le_of_ble_eq_true rfl) rfl ?_
  intro p e s m args below meth c A Q C hret
  refine j_aload_n C 0 0 dX12_whyVisit_0 rfl rfl ?_
  refine j_lload_n C 1 1 dX12_whyVisit_1 rfl rfl ?_
  refine j_callVi C (d := 1) (As := [.long p0.toInt64]) (st := []) 98 (by decide) rfl (by decide) rfl (k294_X12_isBuyer hB p0 p1 p2) gX12_whyVisit_X12_isBuyer rfl hdX12_isBuyer (by decide) (Nat.le_of_ble_eq_true rfl) dX12_whyVisit_2 rfl (fun r M' hp => ?_)
  obtain ⟨rfl, rfl⟩ := hp
  refine j_if_ne_f C 12 dX12_whyVisit_5 (by decide) (by decide) ?_
  refine j_iconst C 1 dX12_whyVisit_8 (by decide) ?_
  refine j_goto C 38 dX12_whyVisit_9 (by decide) ?_
  exact hret _ _ _ _ dX12_whyVisit_38 ⟨rfl, rfl⟩
set_option maxHeartbeats 4000000 in
set_option maxRecDepth 100000 in
theorem k296_X12_whyNot {l : Launch} {dC : Nat → ClassId} {dI : Nat → Nat → Nat} {ad : Nat → Nat} {cA : Nat → ClassId} {B : mm_M} (hB : MB B) (p0 : Int32) (p1 : Int32) (p2 : Int32) (hbp0 : 0 ≤ p0.toInt ∧ p0.toInt ≤ 5) : Ci l 3 yX12_whyNot wsX12_whyNot dC dI ad cA [.ref (ad 98), .long p0.toInt64] (wI (wI B 99 31 p1) 99 32 (sx (sx p2))) (fun r M' => 1 = r ∧ (wI (wI B 99 31 p1) 99 32 (sx (sx p2))) = M') := by
  refine ci_of (cc := cX12_whyNot) (maxL := 3) (ty := .int) (lv := [(0, .ref (ad 98)), (1, .long p0.toInt64)]) (by decide) rfl (fun r M' hp => rfl) (Nat.le_of_ble_eq_true rfl) rfl ?_
  intro p e s m args below meth c A Q C hret
  refine j_lload_n C 1 1 dX12_whyNot_0 rfl rfl ?_
  refine j_ldc2 C (-1) dX12_whyNot_1 (by decide +kernel) ?_
  refine z_lcmp_ne C 10 p0.toInt (-1) ((Int32.toInt_toInt64 p0).trans rfl) (by decide) dX12_whyNot_4 dX12_whyNot_5 (by decide) (fun h1 => ?_) (fun h1 => ?_)
  · refine j_lload_n C 1 1 dX12_whyNot_10 rfl rfl ?_
    refine j_lconst C 0 dX12_whyNot_11 (by decide) ?_
    refine j_ldc2 C 9 dX12_whyNot_12 (by decide +kernel) ?_
    refine j_callSi C (d := 0) (As := [.long p0.toInt64, .long 0, .long 9]) (st := []) (k292_X12_within hB p0 p1 p2) gX12_whyNot_X12_within rfl hdX12_withins (by decide) (Nat.le_of_ble_eq_true rfl) dX12_whyNot_15 rfl (fun r M' hp => ?_)
    rcases hp with ⟨h2, rfl, rfl⟩ | ⟨⟨h3, h4⟩, rfl, rfl⟩ | ⟨⟨h5, h6⟩, rfl, rfl⟩
    · exfalso; omega
    · exfalso; omega
    · refine j_if_eq_f C 27 dX12_whyNot_18 (by decide) (by decide) ?_
      refine j_aload_n C 0 0 dX12_whyNot_21 rfl rfl ?_
      refine j_lload_n C 1 1 dX12_whyNot_22 rfl rfl ?_
      refine j_callVi C (d := 2) (As := [.long p0.toInt64]) (st := []) 98 (by decide) rfl (by decide) rfl (k295_X12_whyVisit hB p0 p1 p2) gX12_whyNot_X12_whyVisit rfl hdX12_whyVisit (by decide) (Nat.le_of_ble_eq_true rfl) dX12_whyNot_23 rfl (fun r M' hp => ?_)
      obtain ⟨rfl, rfl⟩ := hp
      exact hret _ _ _ _ dX12_whyNot_26 ⟨rfl, rfl⟩
  · exfalso; omega
set_option maxHeartbeats 4000000 in
set_option maxRecDepth 100000 in
theorem k297_X12_within {l : Launch} {dC : Nat → ClassId} {dI : Nat → Nat → Nat} {ad : Nat → Nat} {cA : Nat → ClassId} {B : mm_M} (hB : MB B) (p0 : Int32) (p1 : Int32) (p2 : Int32) : Ci l 0 yX12_within wsX12_within dC dI ad cA [.long p0.toInt64, .long 100, .long 109] (wI (wI B 99 31 p1) 99 32 (sx (sx p2))) (fun r M' => ((p0.toInt < 100) ∧ 0 = r ∧ (wI (wI B 99 31 p1) 99 32 (sx (sx p2))) = M') ∨ ((¬ p0.toInt < 100 ∧ 109 < p0.toInt) ∧ 0 = r ∧ (wI (wI B 99 31 p1) 99 32 (sx (sx p2))) = M') ∨ ((¬ p0.toInt < 100 ∧ ¬ 109 < p0.toInt) ∧ 1 = r ∧ (wI (wI B 99 31 p1) 99 32 (sx (sx p2))) = M')) := by
  refine ci_of (cc := cX12_within) (maxL := 6) (ty := .boolean) (lv := [(0, .long p0.toInt64), (2, .long 100), (4, .long 109)]) (by decide) rfl (fun r M' hp => by rcases hp with ⟨-, rfl, rfl⟩ | ⟨-, rfl, rfl⟩ | ⟨-, rfl, rfl⟩ <;> rfl) (Nat.le_of_ble_eq_true rfl) rfl ?_
  intro p e s m args below meth c A Q C hret
  refine j_lload_n C 0 0 dX12_within_0 rfl rfl ?_
  refine j_lload_n C 1 2 dX12_within_1 rfl rfl ?_
  refine z_lcmp_lt C 17 p0.toInt 100 ((Int32.toInt_toInt64 p0).trans rfl) (by decide) dX12_within_2 dX12_within_3 (by decide) (fun h1 => ?_) (fun h1 => ?_)
  · refine j_iconst C 0 dX12_within_17 (by decide) ?_
    exact hret _ _ _ _ dX12_within_18 (Or.inl ⟨h1, rfl, rfl⟩)
  · refine j_lload_n C 0 0 dX12_within_6 rfl rfl ?_
    refine j_lload C 2 dX12_within_7 rfl ?_
    refine z_lcmp_gt C 17 p0.toInt 109 ((Int32.toInt_toInt64 p0).trans rfl) (by decide) dX12_within_9 dX12_within_10 (by decide) (fun h2 => ?_) (fun h2 => ?_)
    · refine j_iconst C 0 dX12_within_17 (by decide) ?_
      exact hret _ _ _ _ dX12_within_18 (Or.inr (Or.inl ⟨⟨h1, h2⟩, rfl, rfl⟩))
    · refine j_iconst C 1 dX12_within_13 (by decide) ?_
      refine j_goto C 18 dX12_within_14 (by decide) ?_
      exact hret _ _ _ _ dX12_within_18 (Or.inr (Or.inr ⟨⟨h1, h2⟩, rfl, rfl⟩))
set_option maxHeartbeats 4000000 in
set_option maxRecDepth 100000 in
theorem k298_X12_within {l : Launch} {dC : Nat → ClassId} {dI : Nat → Nat → Nat} {ad : Nat → Nat} {cA : Nat → ClassId} {B : mm_M} (hB : MB B) (p0 : Int32) (p1 : Int32) (p2 : Int32) : Ci l 0 yX12_within wsX12_within dC dI ad cA [.long (p0.toInt64 - (100 : Int64)), .long 0, .long (-1)] (wI (wI B 99 31 p1) 99 32 (sx (sx p2))) (fun r M' => 0 = r ∧ (wI (wI B 99 31 p1) 99 32 (sx (sx p2))) = M') := by
  refine ci_of (cc := cX12_within) (maxL := 6) (ty := .boolean) (lv := [(0, .long (p0.toInt64 - (100 : Int64))), (2, .long 0), (4, .long (-1))]) (by decide) rfl (fun r M' hp => by obtain ⟨rfl, rfl⟩ := hp; rfl) (Nat.le_of_ble_eq_true rfl) rfl ?_
  intro p e s m args below meth c A Q C hret
  refine j_lload_n C 0 0 dX12_within_0 rfl rfl ?_
  refine j_lload_n C 1 2 dX12_within_1 rfl rfl ?_
  refine z_lcmp_lt C 17 ((p0.toInt64 - (100 : Int64)).toInt) 0 rfl (by decide) dX12_within_2 dX12_within_3 (by decide) (fun h1 => ?_) (fun h1 => ?_)
  · refine j_iconst C 0 dX12_within_17 (by decide) ?_
    exact hret _ _ _ _ dX12_within_18 ⟨rfl, rfl⟩
  · refine j_lload_n C 0 0 dX12_within_6 rfl rfl ?_
    refine j_lload C 2 dX12_within_7 rfl ?_
    refine z_lcmp_gt C 17 ((p0.toInt64 - (100 : Int64)).toInt) (-1) rfl (by decide) dX12_within_9 dX12_within_10 (by decide) (fun h2 => ?_) (fun h2 => ?_)
    · refine j_iconst C 0 dX12_within_17 (by decide) ?_
      exact hret _ _ _ _ dX12_within_18 ⟨rfl, rfl⟩
    · exfalso; omega
set_option maxHeartbeats 4000000 in
set_option maxRecDepth 100000 in
theorem k299_X12_isKind {l : Launch} {dC : Nat → ClassId} {dI : Nat → Nat → Nat} {ad : Nat → Nat} {cA : Nat → ClassId} {B : mm_M} (hB : MB B) (p0 : Int32) (p1 : Int32) (p2 : Int32) : Ci l 1 yX12_isKind wsX12_isKind dC dI ad cA [.ref (ad 98), .long (p0.toInt64 - (100 : Int64))] (wI (wI B 99 31 p1) 99 32 (sx (sx p2))) (fun r M' => 0 = r ∧ (wI (wI B 99 31 p1) 99 32 (sx (sx p2))) = M') := by
  refine ci_of (cc := cX12_isKind) (maxL := 3) (ty := .boolean) (lv := [(0, .ref (ad 98)), (1, .long (p0.toInt64 - (100 : Int64)))]) (by decide) rfl (fun r M' hp => by obtain ⟨rfl, rfl⟩ := hp; rfl) (Nat.le_of_ble_eq_true rfl) rfl ?_
  intro p e s m args below meth c A Q C hret
  refine j_lload_n C 1 1 dX12_isKind_0 rfl rfl ?_
  refine j_lconst C 0 dX12_isKind_1 (by decide) ?_
  refine j_aload_n C 0 0 dX12_isKind_2 rfl rfl ?_
  refine j_getP C 11 99 fX12_isKind_13 (by decide) rfl (by decide) rfl (show B.2.2 98 1 = 99 from hB.2.2 98 1 (by decide)) dX12_isKind_3 ?_
  refine j_bipush C 26 dX12_isKind_6 (by decide) ?_
  refine x_iald C 26 3543 0 (by decide) rfl rfl rfl (by decide) (by decide) (show B.1 99 26 = 0 from hB.1 99 26 (by decide)) dX12_isKind_8 ?_
  refine j_iconst C 1 dX12_isKind_9 (by decide) ?_
  refine z_isub C (-1) (by decide) dX12_isKind_10 ?_
  refine z_i2l C (-1) (by decide) dX12_isKind_11 ?_
  refine j_callSi C (d := 0) (As := [.long (p0.toInt64 - (100 : Int64)), .long 0, .long (-1)]) (st := []) (k298_X12_within hB p0 p1 p2) gX12_isKind_X12_within rfl hdX12_withins (by decide) (Nat.le_of_ble_eq_true rfl) dX12_isKind_12 rfl (fun r M' hp => ?_)
  obtain ⟨rfl, rfl⟩ := hp
  exact hret _ _ _ _ dX12_isKind_15 ⟨rfl, rfl⟩
set_option maxHeartbeats 4000000 in
set_option maxRecDepth 100000 in
theorem k300_X12_whyKind {l : Launch} {dC : Nat → ClassId} {dI : Nat → Nat → Nat} {ad : Nat → Nat} {cA : Nat → ClassId} {B : mm_M} (hB : MB B) (p0 : Int32) (p1 : Int32) (p2 : Int32) : Ci l 2 yX12_whyKind wsX12_whyKind dC dI ad cA [.ref (ad 98), .long (p0.toInt64 - (100 : Int64))] (wI (wI B 99 31 p1) 99 32 (sx (sx p2))) (fun r M' => 1 = r ∧ (wI (wI B 99 31 p1) 99 32 (sx (sx p2))) = M') := by
  refine ci_of (cc := cX12_whyKind) (maxL := 3) (ty := .int) (lv := [(0, .ref (ad 98)), (1, .long (p0.toInt64 - (100 : Int64)))]) (by decide) rfl (fun r M' hp => rfl) (Nat.le_of_ble_eq_true rfl) rfl ?_
  intro p e s m args below meth c A Q C hret
  refine j_aload_n C 0 0 dX12_whyKind_0 rfl rfl ?_
  refine j_lload_n C 1 1 dX12_whyKind_1 rfl rfl ?_
  refine j_callVi C (d := 1) (As := [.long (p0.toInt64 - (100 : Int64))]) (st := []) 98 (by decide) rfl (by decide) rfl (k299_X12_isKind hB p0 p1 p2) gX12_whyKind_X12_isKind rfl hdX12_isKind (by decide) (Nat.le_of_ble_eq_true rfl) dX12_whyKind_2 rfl (fun r M' hp => ?_)
  obtain ⟨rfl, rfl⟩ := hp
  refine j_if_ne_f C 12 dX12_whyKind_5 (by decide) (by decide) ?_
  refine j_iconst C 1 dX12_whyKind_8 (by decide) ?_
  refine j_goto C 24 dX12_whyKind_9 (by decide) ?_
  exact hret _ _ _ _ dX12_whyKind_24 ⟨rfl, rfl⟩
set_option maxHeartbeats 4000000 in
set_option maxRecDepth 100000 in
theorem k301_X12_whyNot {l : Launch} {dC : Nat → ClassId} {dI : Nat → Nat → Nat} {ad : Nat → Nat} {cA : Nat → ClassId} {B : mm_M} (hB : MB B) (p0 : Int32) (p1 : Int32) (p2 : Int32) (hbp0 : 100 ≤ p0.toInt ∧ p0.toInt ≤ 107) : Ci l 3 yX12_whyNot wsX12_whyNot dC dI ad cA [.ref (ad 98), .long p0.toInt64] (wI (wI B 99 31 p1) 99 32 (sx (sx p2))) (fun r M' => 1 = r ∧ (wI (wI B 99 31 p1) 99 32 (sx (sx p2))) = M') := by
  refine ci_of (cc := cX12_whyNot) (maxL := 3) (ty := .int) (lv := [(0, .ref (ad 98)), (1, .long p0.toInt64)]) (by decide) rfl (fun r M' hp => rfl) (Nat.le_of_ble_eq_true rfl) rfl ?_
  intro p e s m args below meth c A Q C hret
  refine j_lload_n C 1 1 dX12_whyNot_0 rfl rfl ?_
  refine j_ldc2 C (-1) dX12_whyNot_1 (by decide +kernel) ?_
  refine z_lcmp_ne C 10 p0.toInt (-1) ((Int32.toInt_toInt64 p0).trans rfl) (by decide) dX12_whyNot_4 dX12_whyNot_5 (by decide) (fun h1 => ?_) (fun h1 => ?_)
  · refine j_lload_n C 1 1 dX12_whyNot_10 rfl rfl ?_
    refine j_lconst C 0 dX12_whyNot_11 (by decide) ?_
    refine j_ldc2 C 9 dX12_whyNot_12 (by decide +kernel) ?_
    refine j_callSi C (d := 0) (As := [.long p0.toInt64, .long 0, .long 9]) (st := []) (k292_X12_within hB p0 p1 p2) gX12_whyNot_X12_within rfl hdX12_withins (by decide) (Nat.le_of_ble_eq_true rfl) dX12_whyNot_15 rfl (fun r M' hp => ?_)
    rcases hp with ⟨h2, rfl, rfl⟩ | ⟨⟨h3, h4⟩, rfl, rfl⟩ | ⟨⟨h5, h6⟩, rfl, rfl⟩
    · exfalso; omega
    · refine j_if_eq_t C 27 dX12_whyNot_18 (by decide) (by decide) ?_
      refine j_lload_n C 1 1 dX12_whyNot_27 rfl rfl ?_
      refine j_ldc2 C 100 dX12_whyNot_28 (by decide +kernel) ?_
      refine j_ldc2 C 109 dX12_whyNot_31 (by decide +kernel) ?_
      refine j_callSi C (d := 0) (As := [.long p0.toInt64, .long 100, .long 109]) (st := []) (k297_X12_within hB p0 p1 p2) gX12_whyNot_X12_within rfl hdX12_withins (by decide) (Nat.le_of_ble_eq_true rfl) dX12_whyNot_34 rfl (fun r M' hp => ?_)
      rcases hp with ⟨h7, rfl, rfl⟩ | ⟨⟨h8, h9⟩, rfl, rfl⟩ | ⟨⟨h10, h11⟩, rfl, rfl⟩
      · exfalso; omega
      · exfalso; omega
      · refine j_if_eq_f C 50 dX12_whyNot_37 (by decide) (by decide) ?_
        refine j_aload_n C 0 0 dX12_whyNot_40 rfl rfl ?_
        refine j_lload_n C 1 1 dX12_whyNot_41 rfl rfl ?_
        refine j_ldc2 C 100 dX12_whyNot_42 (by decide +kernel) ?_
        refine z_lsub C (p0.toInt64 - (100 : Int64)) rfl dX12_whyNot_45 ?_
        refine j_callVi C (d := 2) (As := [.long (p0.toInt64 - (100 : Int64))]) (st := []) 98 (by decide) rfl (by decide) rfl (k300_X12_whyKind hB p0 p1 p2) gX12_whyNot_X12_whyKind rfl hdX12_whyKind (by decide) (Nat.le_of_ble_eq_true rfl) dX12_whyNot_46 rfl (fun r M' hp => ?_)
        obtain ⟨rfl, rfl⟩ := hp
        exact hret _ _ _ _ dX12_whyNot_49 ⟨rfl, rfl⟩
    · exfalso; omega
  · exfalso; omega
set_option maxHeartbeats 4000000 in
set_option maxRecDepth 100000 in
theorem k302_X12_within {l : Launch} {dC : Nat → ClassId} {dI : Nat → Nat → Nat} {ad : Nat → Nat} {cA : Nat → ClassId} {B : mm_M} (hB : MB B) (p0 : Int32) (p1 : Int32) (p2 : Int32) : Ci l 0 yX12_within wsX12_within dC dI ad cA [.long p0.toInt64, .long 200, .long 209] (wI (wI B 99 31 p1) 99 32 (sx (sx p2))) (fun r M' => ((p0.toInt < 200) ∧ 0 = r ∧ (wI (wI B 99 31 p1) 99 32 (sx (sx p2))) = M') ∨ ((¬ p0.toInt < 200 ∧ 209 < p0.toInt) ∧ 0 = r ∧ (wI (wI B 99 31 p1) 99 32 (sx (sx p2))) = M') ∨ ((¬ p0.toInt < 200 ∧ ¬ 209 < p0.toInt) ∧ 1 = r ∧ (wI (wI B 99 31 p1) 99 32 (sx (sx p2))) = M')) := by
  refine ci_of (cc := cX12_within) (maxL := 6) (ty := .boolean) (lv := [(0, .long p0.toInt64), (2, .long 200), (4, .long 209)]) (by decide) rfl (fun r M' hp => by rcases hp with ⟨-, rfl, rfl⟩ | ⟨-, rfl, rfl⟩ | ⟨-, rfl, rfl⟩ <;> rfl) (Nat.le_of_ble_eq_true rfl) rfl ?_
  intro p e s m args below meth c A Q C hret
  refine j_lload_n C 0 0 dX12_within_0 rfl rfl ?_
  refine j_lload_n C 1 2 dX12_within_1 rfl rfl ?_
  refine z_lcmp_lt C 17 p0.toInt 200 ((Int32.toInt_toInt64 p0).trans rfl) (by decide) dX12_within_2 dX12_within_3 (by decide) (fun h1 => ?_) (fun h1 => ?_)
  · refine j_iconst C 0 dX12_within_17 (by decide) ?_
    exact hret _ _ _ _ dX12_within_18 (Or.inl ⟨h1, rfl, rfl⟩)
  · refine j_lload_n C 0 0 dX12_within_6 rfl rfl ?_
    refine j_lload C 2 dX12_within_7 rfl ?_
    refine z_lcmp_gt C 17 p0.toInt 209 ((Int32.toInt_toInt64 p0).trans rfl) (by decide) dX12_within_9 dX12_within_10 (by decide) (fun h2 => ?_) (fun h2 => ?_)
    · refine j_iconst C 0 dX12_within_17 (by decide) ?_
      exact hret _ _ _ _ dX12_within_18 (Or.inr (Or.inl ⟨⟨h1, h2⟩, rfl, rfl⟩))
    · refine j_iconst C 1 dX12_within_13 (by decide) ?_
      refine j_goto C 18 dX12_within_14 (by decide) ?_
      exact hret _ _ _ _ dX12_within_18 (Or.inr (Or.inr ⟨⟨h1, h2⟩, rfl, rfl⟩))
set_option maxHeartbeats 4000000 in
set_option maxRecDepth 100000 in
theorem k303_X12_within {l : Launch} {dC : Nat → ClassId} {dI : Nat → Nat → Nat} {ad : Nat → Nat} {cA : Nat → ClassId} {B : mm_M} (hB : MB B) (p0 : Int32) (p1 : Int32) (p2 : Int32) : Ci l 0 yX12_within wsX12_within dC dI ad cA [.long (p0.toInt64 - (200 : Int64)), .long 0, .long (-1)] (wI (wI B 99 31 p1) 99 32 (sx (sx p2))) (fun r M' => 0 = r ∧ (wI (wI B 99 31 p1) 99 32 (sx (sx p2))) = M') := by
  refine ci_of (cc := cX12_within) (maxL := 6) (ty := .boolean) (lv := [(0, .long (p0.toInt64 - (200 : Int64))), (2, .long 0), (4, .long (-1))]) (by decide) rfl (fun r M' hp => by obtain ⟨rfl, rfl⟩ := hp; rfl) (Nat.le_of_ble_eq_true rfl) rfl ?_
  intro p e s m args below meth c A Q C hret
  refine j_lload_n C 0 0 dX12_within_0 rfl rfl ?_
  refine j_lload_n C 1 2 dX12_within_1 rfl rfl ?_
  refine z_lcmp_lt C 17 ((p0.toInt64 - (200 : Int64)).toInt) 0 rfl (by decide) dX12_within_2 dX12_within_3 (by decide) (fun h1 => ?_) (fun h1 => ?_)
  · refine j_iconst C 0 dX12_within_17 (by decide) ?_
    exact hret _ _ _ _ dX12_within_18 ⟨rfl, rfl⟩
  · refine j_lload_n C 0 0 dX12_within_6 rfl rfl ?_
    refine j_lload C 2 dX12_within_7 rfl ?_
    refine z_lcmp_gt C 17 ((p0.toInt64 - (200 : Int64)).toInt) (-1) rfl (by decide) dX12_within_9 dX12_within_10 (by decide) (fun h2 => ?_) (fun h2 => ?_)
    · refine j_iconst C 0 dX12_within_17 (by decide) ?_
      exact hret _ _ _ _ dX12_within_18 ⟨rfl, rfl⟩
    · exfalso; omega
set_option maxHeartbeats 4000000 in
set_option maxRecDepth 100000 in
theorem k304_X12_isKind {l : Launch} {dC : Nat → ClassId} {dI : Nat → Nat → Nat} {ad : Nat → Nat} {cA : Nat → ClassId} {B : mm_M} (hB : MB B) (p0 : Int32) (p1 : Int32) (p2 : Int32) : Ci l 1 yX12_isKind wsX12_isKind dC dI ad cA [.ref (ad 98), .long (p0.toInt64 - (200 : Int64))] (wI (wI B 99 31 p1) 99 32 (sx (sx p2))) (fun r M' => 0 = r ∧ (wI (wI B 99 31 p1) 99 32 (sx (sx p2))) = M') := by
  refine ci_of (cc := cX12_isKind) (maxL := 3) (ty := .boolean) (lv := [(0, .ref (ad 98)), (1, .long (p0.toInt64 - (200 : Int64)))]) (by decide) rfl (fun r M' hp => by obtain ⟨rfl, rfl⟩ := hp; rfl) (Nat.le_of_ble_eq_true rfl) rfl ?_
  intro p e s m args below meth c A Q C hret
  refine j_lload_n C 1 1 dX12_isKind_0 rfl rfl ?_
  refine j_lconst C 0 dX12_isKind_1 (by decide) ?_
  refine j_aload_n C 0 0 dX12_isKind_2 rfl rfl ?_
  refine j_getP C 11 99 fX12_isKind_13 (by decide) rfl (by decide) rfl (show B.2.2 98 1 = 99 from hB.2.2 98 1 (by decide)) dX12_isKind_3 ?_
  refine j_bipush C 26 dX12_isKind_6 (by decide) ?_
  refine x_iald C 26 3543 0 (by decide) rfl rfl rfl (by decide) (by decide) (show B.1 99 26 = 0 from hB.1 99 26 (by decide)) dX12_isKind_8 ?_
  refine j_iconst C 1 dX12_isKind_9 (by decide) ?_
  refine z_isub C (-1) (by decide) dX12_isKind_10 ?_
  refine z_i2l C (-1) (by decide) dX12_isKind_11 ?_
  refine j_callSi C (d := 0) (As := [.long (p0.toInt64 - (200 : Int64)), .long 0, .long (-1)]) (st := []) (k303_X12_within hB p0 p1 p2) gX12_isKind_X12_within rfl hdX12_withins (by decide) (Nat.le_of_ble_eq_true rfl) dX12_isKind_12 rfl (fun r M' hp => ?_)
  obtain ⟨rfl, rfl⟩ := hp
  exact hret _ _ _ _ dX12_isKind_15 ⟨rfl, rfl⟩
set_option maxHeartbeats 4000000 in
set_option maxRecDepth 100000 in
theorem k305_X12_whyKind {l : Launch} {dC : Nat → ClassId} {dI : Nat → Nat → Nat} {ad : Nat → Nat} {cA : Nat → ClassId} {B : mm_M} (hB : MB B) (p0 : Int32) (p1 : Int32) (p2 : Int32) : Ci l 2 yX12_whyKind wsX12_whyKind dC dI ad cA [.ref (ad 98), .long (p0.toInt64 - (200 : Int64))] (wI (wI B 99 31 p1) 99 32 (sx (sx p2))) (fun r M' => 1 = r ∧ (wI (wI B 99 31 p1) 99 32 (sx (sx p2))) = M') := by
  refine ci_of (cc := cX12_whyKind) (maxL := 3) (ty := .int) (lv := [(0, .ref (ad 98)), (1, .long (p0.toInt64 - (200 : Int64)))]) (by decide) rfl (fun r M' hp => rfl) (Nat.le_of_ble_eq_true rfl) rfl ?_
  intro p e s m args below meth c A Q C hret
  refine j_aload_n C 0 0 dX12_whyKind_0 rfl rfl ?_
  refine j_lload_n C 1 1 dX12_whyKind_1 rfl rfl ?_
  refine j_callVi C (d := 1) (As := [.long (p0.toInt64 - (200 : Int64))]) (st := []) 98 (by decide) rfl (by decide) rfl (k304_X12_isKind hB p0 p1 p2) gX12_whyKind_X12_isKind rfl hdX12_isKind (by decide) (Nat.le_of_ble_eq_true rfl) dX12_whyKind_2 rfl (fun r M' hp => ?_)
  obtain ⟨rfl, rfl⟩ := hp
  refine j_if_ne_f C 12 dX12_whyKind_5 (by decide) (by decide) ?_
  refine j_iconst C 1 dX12_whyKind_8 (by decide) ?_
  refine j_goto C 24 dX12_whyKind_9 (by decide) ?_
  exact hret _ _ _ _ dX12_whyKind_24 ⟨rfl, rfl⟩
set_option maxHeartbeats 4000000 in
set_option maxRecDepth 100000 in
theorem k306_X12_whyNot {l : Launch} {dC : Nat → ClassId} {dI : Nat → Nat → Nat} {ad : Nat → Nat} {cA : Nat → ClassId} {B : mm_M} (hB : MB B) (p0 : Int32) (p1 : Int32) (p2 : Int32) (hbp0 : 200 ≤ p0.toInt ∧ p0.toInt ≤ 207) : Ci l 3 yX12_whyNot wsX12_whyNot dC dI ad cA [.ref (ad 98), .long p0.toInt64] (wI (wI B 99 31 p1) 99 32 (sx (sx p2))) (fun r M' => 1 = r ∧ (wI (wI B 99 31 p1) 99 32 (sx (sx p2))) = M') := by
  refine ci_of (cc := cX12_whyNot) (maxL := 3) (ty := .int) (lv := [(0, .ref (ad 98)), (1, .long p0.toInt64)]) (by decide) rfl (fun r M' hp => rfl) (Nat.le_of_ble_eq_true rfl) rfl ?_
  intro p e s m args below meth c A Q C hret
  refine j_lload_n C 1 1 dX12_whyNot_0 rfl rfl ?_
  refine j_ldc2 C (-1) dX12_whyNot_1 (by decide +kernel) ?_
  refine z_lcmp_ne C 10 p0.toInt (-1) ((Int32.toInt_toInt64 p0).trans rfl) (by decide) dX12_whyNot_4 dX12_whyNot_5 (by decide) (fun h1 => ?_) (fun h1 => ?_)
  · refine j_lload_n C 1 1 dX12_whyNot_10 rfl rfl ?_
    refine j_lconst C 0 dX12_whyNot_11 (by decide) ?_
    refine j_ldc2 C 9 dX12_whyNot_12 (by decide +kernel) ?_
    refine j_callSi C (d := 0) (As := [.long p0.toInt64, .long 0, .long 9]) (st := []) (k292_X12_within hB p0 p1 p2) gX12_whyNot_X12_within rfl hdX12_withins (by decide) (Nat.le_of_ble_eq_true rfl) dX12_whyNot_15 rfl (fun r M' hp => ?_)
    rcases hp with ⟨h2, rfl, rfl⟩ | ⟨⟨h3, h4⟩, rfl, rfl⟩ | ⟨⟨h5, h6⟩, rfl, rfl⟩
    · exfalso; omega
    · refine j_if_eq_t C 27 dX12_whyNot_18 (by decide) (by decide) ?_
      refine j_lload_n C 1 1 dX12_whyNot_27 rfl rfl ?_
      refine j_ldc2 C 100 dX12_whyNot_28 (by decide +kernel) ?_
      refine j_ldc2 C 109 dX12_whyNot_31 (by decide +kernel) ?_
      refine j_callSi C (d := 0) (As := [.long p0.toInt64, .long 100, .long 109]) (st := []) (k297_X12_within hB p0 p1 p2) gX12_whyNot_X12_within rfl hdX12_withins (by decide) (Nat.le_of_ble_eq_true rfl) dX12_whyNot_34 rfl (fun r M' hp => ?_)
      rcases hp with ⟨h7, rfl, rfl⟩ | ⟨⟨h8, h9⟩, rfl, rfl⟩ | ⟨⟨h10, h11⟩, rfl, rfl⟩
      · exfalso; omega
      · refine j_if_eq_t C 50 dX12_whyNot_37 (by decide) (by decide) ?_
        refine j_lload_n C 1 1 dX12_whyNot_50 rfl rfl ?_
        refine j_ldc2 C 200 dX12_whyNot_51 (by decide +kernel) ?_
        refine j_ldc2 C 209 dX12_whyNot_54 (by decide +kernel) ?_
        refine j_callSi C (d := 0) (As := [.long p0.toInt64, .long 200, .long 209]) (st := []) (k302_X12_within hB p0 p1 p2) gX12_whyNot_X12_within rfl hdX12_withins (by decide) (Nat.le_of_ble_eq_true rfl) dX12_whyNot_57 rfl (fun r M' hp => ?_)
        rcases hp with ⟨h12, rfl, rfl⟩ | ⟨⟨h13, h14⟩, rfl, rfl⟩ | ⟨⟨h15, h16⟩, rfl, rfl⟩
        · exfalso; omega
        · exfalso; omega
        · refine j_if_eq_f C 73 dX12_whyNot_60 (by decide) (by decide) ?_
          refine j_aload_n C 0 0 dX12_whyNot_63 rfl rfl ?_
          refine j_lload_n C 1 1 dX12_whyNot_64 rfl rfl ?_
          refine j_ldc2 C 200 dX12_whyNot_65 (by decide +kernel) ?_
          refine z_lsub C (p0.toInt64 - (200 : Int64)) rfl dX12_whyNot_68 ?_
          refine j_callVi C (d := 2) (As := [.long (p0.toInt64 - (200 : Int64))]) (st := []) 98 (by decide) rfl (by decide) rfl (k305_X12_whyKind hB p0 p1 p2) gX12_whyNot_X12_whyKind rfl hdX12_whyKind (by decide) (Nat.le_of_ble_eq_true rfl) dX12_whyNot_69 rfl (fun r M' hp => ?_)
          obtain ⟨rfl, rfl⟩ := hp
          exact hret _ _ _ _ dX12_whyNot_72 ⟨rfl, rfl⟩
      · exfalso; omega
    · exfalso; omega
  · exfalso; omega
set_option maxHeartbeats 4000000 in
set_option maxRecDepth 100000 in
theorem om_season {l : Launch} {dC : Nat → ClassId} {dI : Nat → Nat → Nat} {ad : Nat → Nat} {cA : Nat → ClassId} {B : mm_M} (hB : MB B) (p0 : Int32) (p1 : Int32) : Ci l 4 yX12_season wsX12_season dC dI ad cA [.ref (ad 98), .int p0, .int p1] B (fun r _ => r = fo_season p0 p1) := by
  refine ci_of (cc := cX12_season) (maxL := 6) (ty := .int) (lv := [(0, .ref (ad 98)), (1, .int p0), (2, .int p1)]) (by decide) rfl (fun r M' hp => rfl) (Nat.le_of_ble_eq_true rfl) rfl ?_
  intro p e s m args below meth c A Q C hret
  refine j_aload_n C 0 0 dX12_season_0 rfl rfl ?_
  refine j_iconst C 0 dX12_season_1 (by decide) ?_
  refine j_putI C 11 qX12_season_1 rfl rfl (by decide) rfl (by decide) rfl dX12_season_2 ?_
  refine z_noI (show B.1 98 0 = 0 from hB.1 98 0 (by decide)) ?_
  refine j_iload_n C 2 2 dX12_season_5 rfl rfl ?_
  refine z_i2l C p1.toInt64 rfl dX12_season_6 ?_
  refine j_lconst C 1 dX12_season_7 (by decide) ?_
  refine j_ldc2 C 40 dX12_season_8 (by decide +kernel) ?_
  refine j_callSi C (d := 0) (As := [.long p1.toInt64, .long 1, .long 40]) (st := []) (k285_X12_within hB p1) gX12_season_X12_within rfl hdX12_withins (by decide) (Nat.le_of_ble_eq_true rfl) dX12_season_11 rfl (fun r M' hp => ?_)
  rcases hp with ⟨h1, rfl, rfl⟩ | ⟨⟨h2, h3⟩, rfl, rfl⟩ | ⟨⟨h4, h5⟩, rfl, rfl⟩
  · refine j_if_ne_f C 20 dX12_season_14 (by decide) (by decide) ?_
    refine j_bipush C (-3) dX12_season_17 (by decide) ?_
    exact hret _ _ _ _ dX12_season_19 (by first | rfl | (unfold fo_season; rw [if_pos (by rw [nI_toInt (by omega)]; omega), nI_clamp (by omega)]; exact hrel) | (unfold fo_season; (repeat' split) <;> first | rfl | (exfalso; omega) | (exfalso; simp_all; done)))
  · refine j_if_ne_f C 20 dX12_season_14 (by decide) (by decide) ?_
    refine j_bipush C (-3) dX12_season_17 (by decide) ?_
    exact hret _ _ _ _ dX12_season_19 (by first | rfl | (unfold fo_season; rw [if_pos (by rw [nI_toInt (by omega)]; omega), nI_clamp (by omega)]; exact hrel) | (unfold fo_season; (repeat' split) <;> first | rfl | (exfalso; omega) | (exfalso; simp_all; done)))
  · refine j_if_ne_t C 20 dX12_season_14 (by decide) (by decide) ?_
    refine j_aload_n C 0 0 dX12_season_20 rfl rfl ?_
    refine j_callVv C (d := 0) (As := []) (st := []) 98 (by decide) rfl (by decide) rfl (k46_X12_keeps hB) gX12_season_X12_keeps rfl hdX12_keeps (by decide) (Nat.le_of_ble_eq_true rfl) dX12_season_21 rfl (fun M' hp => ?_)
    obtain rfl := hp
    refine j_aload_n C 0 0 dX12_season_24 rfl rfl ?_
    refine j_getP C 11 99 fX12_season_13 (by decide) rfl (by decide) rfl (show B.2.2 98 1 = 99 from hB.2.2 98 1 (by decide)) dX12_season_25 ?_
    refine j_bipush C 32 dX12_season_28 (by decide) ?_
    refine j_iload_n C 1 1 dX12_season_30 rfl rfl ?_
    refine x_iast C 32 3543 (by decide) rfl rfl rfl (by decide) (by decide) dX12_season_31 ?_
    refine j_iconst C 0 dX12_season_32 (by decide) ?_
    refine j_istore_n C 3 [(3, .int 0), (0, .ref (ad 98)), (1, .int p0), (2, .int p1)] dX12_season_33 rfl (by decide) rfl ?_
    refine j_iconst C 0 dX12_season_34 (by decide) ?_
    refine j_istore C 4 [(4, .int 0), (3, .int 0), (0, .ref (ad 98)), (1, .int p0), (2, .int p1)] dX12_season_35 (by decide) rfl ?_
    obtain ⟨j, hja, hjb, rfl⟩ := z_n31 (x := p1) (a := 1) (b := 40) (by omega) (by omega) (by decide)
    show jj _ _ _ _ _ _ _ _ _ _ _ _ _ _ _ _ _ _ _ (wI B 99 32 p0) 37 [(4, .int 0), (3, .int 0), (0, .ref (ad 98)), (1, .int p0), (2, .int (nI j))] []
    refine j_lv [2, 3, 4, 1, 0] rfl ?_
    refine j_M (M' := (wI (wI B 99 31 0) 99 32 p0)) (by refine Prod.ext ?_ (Prod.ext ?_ ?_) <;> funext a b <;> simp only [u2] <;> (repeat' split) <;> first | rfl | omega | (subst_vars; first | rfl | exact hB.1 _ _ (by decide) | exact (hB.1 _ _ (by decide)).symm) | (subst_vars; contradiction)) ?_
    have L : ∀ (n i : Nat), 0 ≤ i → i + n = j → ∀ (g0 : Int32) (g1 : Int32) (k : Int32), sea n g1 k = sea j p0 0 → jj p l e (cn_R 4) s m args below meth c 0 0 Q 6 dC dI ad cA A (wI (wI B 99 31 g0) 99 32 g1) 37 [(0, .ref (ad 98)), (1, .int p0), (2, .int (nI j)), (3, .int k), (4, .int (nI i))] [] := by
      intro n
      induction n with
      | zero =>
        intro i h1 h2 g0 g1 k hrel
        obtain rfl : j = i := by omega
        refine j_iload C 4 dX12_season_37 rfl ?_
        refine j_iload_n C 2 2 dX12_season_39 rfl rfl ?_
        refine z_icmp_ge C 77 (j : Int) (j : Int) (nI_toInt (n := j) (by omega)) (nI_toInt (n := j) (by omega)) dX12_season_40 (by decide) (fun h6 => ?_) (fun h6 => ?_)
        · refine j_iload_n C 3 3 dX12_season_77 rfl rfl ?_
          refine z_if_le C 88 k.toInt rfl dX12_season_78 (by decide) (fun h7 => ?_) (fun h7 => ?_)
          · refine j_aload_n C 0 0 dX12_season_88 rfl rfl ?_
            refine j_callVv C (d := 0) (As := []) (st := []) 98 (by decide) rfl (by decide) rfl (k286_X12_isAgain hB g0 g1) gX12_season_X12_isAgain rfl hdX12_isAgain (by decide) (Nat.le_of_ble_eq_true rfl) dX12_season_89 rfl (fun M' hp => ?_)
            obtain rfl := hp
            refine j_iload_n C 3 3 dX12_season_92 rfl rfl ?_
            exact hret _ _ _ _ dX12_season_93 (by first | rfl | (unfold fo_season; rw [if_pos (by rw [nI_toInt (by omega)]; omega), nI_clamp (by omega)]; exact hrel) | (unfold fo_season; (repeat' split) <;> first | rfl | (exfalso; omega) | (exfalso; simp_all; done)))
          · refine j_aload_n C 0 0 dX12_season_81 rfl rfl ?_
            refine j_callVv C (d := 0) (As := []) (st := []) 98 (by decide) rfl (by decide) rfl (k287_X12_notes hB g0 g1) gX12_season_X12_notes rfl hdX12_notes (by decide) (Nat.le_of_ble_eq_true rfl) dX12_season_82 rfl (fun M' hp => ?_)
            obtain rfl := hp
            refine j_goto C 92 dX12_season_85 (by decide) ?_
            refine j_iload_n C 3 3 dX12_season_92 rfl rfl ?_
            exact hret _ _ _ _ dX12_season_93 (by first | rfl | (unfold fo_season; rw [if_pos (by rw [nI_toInt (by omega)]; omega), nI_clamp (by omega)]; exact hrel) | (unfold fo_season; (repeat' split) <;> first | rfl | (exfalso; omega) | (exfalso; simp_all; done)))
        · exfalso; omega
      | succ n ih =>
        intro i h1 h2 g0 g1 k hrel
        refine j_iload C 4 dX12_season_37 rfl ?_
        refine j_iload_n C 2 2 dX12_season_39 rfl rfl ?_
        refine z_icmp_ge C 77 (i : Int) (j : Int) (nI_toInt (n := i) (by omega)) (nI_toInt (n := j) (by omega)) dX12_season_40 (by decide) (fun h8 => ?_) (fun h8 => ?_)
        · exfalso; omega
        · refine j_aload_n C 0 0 dX12_season_43 rfl rfl ?_
          refine j_callVi C (d := 1) (As := []) (st := []) 98 (by decide) rfl (by decide) rfl (hk_X12_drawn hB g0 g1) gX12_season_X12_drawn rfl hdX12_drawn (by decide) (Nat.le_of_ble_eq_true rfl) dX12_season_44 rfl (fun r9 M' hp => ?_)
          rcases hp with ⟨hA9, rfl, rfl⟩ | ⟨hA9, hB9 | hB9 | hB9, rfl⟩
          · refine j_istore C 5 [(5, .int (-1)), (0, .ref (ad 98)), (1, .int p0), (2, .int (nI j)), (3, .int k), (4, .int (nI i))] dX12_season_47 (by decide) rfl ?_
            refine j_aload_n C 1 0 dX12_season_49 rfl rfl ?_
            refine j_iload C 0 dX12_season_50 rfl ?_
            refine z_i2l C (-1) (by decide) dX12_season_52 ?_
            refine j_callVi C (d := 0) (As := [.long (-1)]) (st := []) 98 (by decide) rfl (by decide) rfl (k288_X12_whyNot hB g0 g1) gX12_season_X12_whyNot rfl hdX12_whyNot (by decide) (Nat.le_of_ble_eq_true rfl) dX12_season_53 rfl (fun r M' hp => ?_)
            obtain ⟨rfl, rfl⟩ := hp
            refine j_if_eq_t C 62 dX12_season_56 (by decide) (by decide) ?_
            refine j_aload_n C 1 0 dX12_season_62 rfl rfl ?_
            refine j_iload C 0 dX12_season_63 rfl ?_
            refine j_callVv C (d := 2) (As := [.int (-1)]) (st := []) 98 (by decide) rfl (by decide) rfl (k291_X12_does hB g0 g1) gX12_season_X12_does rfl hdX12_does (by decide) (Nat.le_of_ble_eq_true rfl) dX12_season_65 rfl (fun M' hp => ?_)
            obtain rfl := hp
            refine j_iinc C 4 (k + 1) [(3, .int (k + 1)), (5, .int (-1)), (0, .ref (ad 98)), (1, .int p0), (2, .int (nI j)), (4, .int (nI i))] dX12_season_68 rfl rfl (by decide) rfl ?_
            refine j_iinc C 5 (nI (i + 1)) [(4, .int (nI (i + 1))), (3, .int (k + 1)), (5, .int (-1)), (0, .ref (ad 98)), (1, .int p0), (2, .int (nI j))] dX12_season_71 rfl (nI_1 i) (by decide) rfl ?_
            refine j_goto C 37 dX12_season_74 (by decide) ?_
            refine j_lv [3, 4, 5, 1, 0] rfl ?_
            exact ih (i + 1) (by omega) (by omega) (g0 + 1) (sx g1) (k + 1) (by first | exact (sea_lt hA9).symm.trans hrel | exact (sea_ge hA9).symm.trans hrel)
          · refine j_istore C 5 [(5, .int r9), (0, .ref (ad 98)), (1, .int p0), (2, .int (nI j)), (3, .int k), (4, .int (nI i))] dX12_season_47 (by decide) rfl ?_
            refine j_aload_n C 1 0 dX12_season_49 rfl rfl ?_
            refine j_iload C 0 dX12_season_50 rfl ?_
            refine z_i2l C r9.toInt64 rfl dX12_season_52 ?_
            refine j_callVi C (d := 3) (As := [.long r9.toInt64]) (st := []) 98 (by decide) rfl (by decide) rfl (k296_X12_whyNot hB r9 g0 g1 (by omega)) gX12_season_X12_whyNot rfl hdX12_whyNot (by decide) (Nat.le_of_ble_eq_true rfl) dX12_season_53 rfl (fun r M' hp => ?_)
            obtain ⟨rfl, rfl⟩ := hp
            refine j_if_eq_f C 62 dX12_season_56 (by decide) (by decide) ?_
            refine j_goto C 71 dX12_season_59 (by decide) ?_
            refine j_iinc C 5 (nI (i + 1)) [(4, .int (nI (i + 1))), (5, .int r9), (0, .ref (ad 98)), (1, .int p0), (2, .int (nI j)), (3, .int k)] dX12_season_71 rfl (nI_1 i) (by decide) rfl ?_
            refine j_goto C 37 dX12_season_74 (by decide) ?_
            refine j_lv [2, 3, 4, 5, 0] rfl ?_
            exact ih (i + 1) (by omega) (by omega) g0 (sx (sx g1)) k (by first | exact (sea_lt hA9).symm.trans hrel | exact (sea_ge hA9).symm.trans hrel)
          · refine j_istore C 5 [(5, .int r9), (0, .ref (ad 98)), (1, .int p0), (2, .int (nI j)), (3, .int k), (4, .int (nI i))] dX12_season_47 (by decide) rfl ?_
            refine j_aload_n C 1 0 dX12_season_49 rfl rfl ?_
            refine j_iload C 0 dX12_season_50 rfl ?_
            refine z_i2l C r9.toInt64 rfl dX12_season_52 ?_
            refine j_callVi C (d := 3) (As := [.long r9.toInt64]) (st := []) 98 (by decide) rfl (by decide) rfl (k301_X12_whyNot hB r9 g0 g1 (by omega)) gX12_season_X12_whyNot rfl hdX12_whyNot (by decide) (Nat.le_of_ble_eq_true rfl) dX12_season_53 rfl (fun r M' hp => ?_)
            obtain ⟨rfl, rfl⟩ := hp
            refine j_if_eq_f C 62 dX12_season_56 (by decide) (by decide) ?_
            refine j_goto C 71 dX12_season_59 (by decide) ?_
            refine j_iinc C 5 (nI (i + 1)) [(4, .int (nI (i + 1))), (5, .int r9), (0, .ref (ad 98)), (1, .int p0), (2, .int (nI j)), (3, .int k)] dX12_season_71 rfl (nI_1 i) (by decide) rfl ?_
            refine j_goto C 37 dX12_season_74 (by decide) ?_
            refine j_lv [2, 3, 4, 5, 0] rfl ?_
            exact ih (i + 1) (by omega) (by omega) g0 (sx (sx g1)) k (by first | exact (sea_lt hA9).symm.trans hrel | exact (sea_ge hA9).symm.trans hrel)
          · refine j_istore C 5 [(5, .int r9), (0, .ref (ad 98)), (1, .int p0), (2, .int (nI j)), (3, .int k), (4, .int (nI i))] dX12_season_47 (by decide) rfl ?_
            refine j_aload_n C 1 0 dX12_season_49 rfl rfl ?_
            refine j_iload C 0 dX12_season_50 rfl ?_
            refine z_i2l C r9.toInt64 rfl dX12_season_52 ?_
            refine j_callVi C (d := 3) (As := [.long r9.toInt64]) (st := []) 98 (by decide) rfl (by decide) rfl (k306_X12_whyNot hB r9 g0 g1 (by omega)) gX12_season_X12_whyNot rfl hdX12_whyNot (by decide) (Nat.le_of_ble_eq_true rfl) dX12_season_53 rfl (fun r M' hp => ?_)
            obtain ⟨rfl, rfl⟩ := hp
            refine j_if_eq_f C 62 dX12_season_56 (by decide) (by decide) ?_
            refine j_goto C 71 dX12_season_59 (by decide) ?_
            refine j_iinc C 5 (nI (i + 1)) [(4, .int (nI (i + 1))), (5, .int r9), (0, .ref (ad 98)), (1, .int p0), (2, .int (nI j)), (3, .int k)] dX12_season_71 rfl (nI_1 i) (by decide) rfl ?_
            refine j_goto C 37 dX12_season_74 (by decide) ?_
            refine j_lv [2, 3, 4, 5, 0] rfl ?_
            exact ih (i + 1) (by omega) (by omega) g0 (sx (sx g1)) k (by first | exact (sea_lt hA9).symm.trans hrel | exact (sea_ge hA9).symm.trans hrel)
    exact L (j - 0) 0 (by omega) (by omega) 0 p0 0 rfl
