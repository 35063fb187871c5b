set_option maxHeartbeats 4000000 in
set_option maxRecDepth 100000 in
theorem om_needed {l : Launch} {dC : Nat → ClassId} {dI : Nat → Nat → Nat} {ad : Nat → Nat} {cA : Nat → ClassId} {B : mm_M} (hB : MB B) : Ci l 5 yX12_needed wsX12_needed dC dI ad cA [.ref (ad 98)] B (fun r _ => r = fo_needed) := by
  refine ci_of (cc := cX12_needed) (maxL := 3) (ty := .int) (lv := [(0, .ref (ad 98))]) (by decide) rfl (fun r M' hp => rfl) (Nat.le_of_ble_eq_true rfl) rfl ?_
  intro p e s m args below meth c A Q C hret
  refine j_aload_n C 0 0 dX12_needed_0 rfl rfl ?_
  refine j_iconst C 0 dX12_needed_1 (by decide) ?_
  refine j_putI C 11 qX12_needed_1 rfl rfl (by decide) rfl (by decide) rfl dX12_needed_2 ?_
  refine z_noI (show B.1 98 0 = 0 from hB.1 98 0 (by decide)) ?_
  refine j_iconst C 0 dX12_needed_5 (by decide) ?_
  refine j_istore_n C 1 [(1, .int 0), (0, .ref (ad 98))] dX12_needed_6 rfl (by decide) rfl ?_
  refine j_aload_n C 1 0 dX12_needed_7 rfl rfl ?_
  refine j_callVi C (d := 4) (As := []) (st := []) 98 (by decide) rfl (by decide) rfl (k117_X12_endingNow hB) gX12_needed_X12_endingNow rfl hdX12_endingNow (by decide) (Nat.le_of_ble_eq_true rfl) dX12_needed_8 rfl (fun r M' hp => ?_)
  obtain ⟨rfl, rfl⟩ := hp
  refine j_iconst C (-1) dX12_needed_11 (by decide) ?_
  refine j_icmp_ne_t C 17 dX12_needed_12 (by decide) (by decide) ?_
  refine j_iconst C 0 dX12_needed_17 (by decide) ?_
  refine j_istore_n C 2 [(2, .int 0), (1, .int 0), (0, .ref (ad 98))] dX12_needed_18 rfl (by decide) rfl ?_
  refine j_iload_n C 0 2 dX12_needed_19 rfl rfl ?_
  refine j_aload_n C 2 0 dX12_needed_20 rfl rfl ?_
  refine j_getP C 11 99 fX12_needed_13 (by decide) rfl (by decide) rfl (show B.2.2 98 1 = 99 from hB.2.2 98 1 (by decide)) dX12_needed_21 ?_
  refine j_iconst C 1 dX12_needed_24 (by decide) ?_
  refine x_iald C 1 3543 0 (by decide) rfl rfl rfl (by decide) (by decide) (show B.1 99 1 = 0 from hB.1 99 1 (by decide)) dX12_needed_25 ?_
  refine j_icmp_ge_t C 54 dX12_needed_26 (by decide) (by decide) ?_
  refine j_iload_n C 1 1 dX12_needed_54 rfl rfl ?_
  exact hret _ _ _ _ dX12_needed_55 (by first | rfl | (unfold fo_needed; rw [if_pos (by rw [nI_toInt (by omega)]; omega), nI_clamp (by omega)]; exact hrel) | (unfold fo_needed; (repeat' split) <;> first | rfl | (exfalso; omega) | (exfalso; simp_all; done)))
set_option maxHeartbeats 4000000 in
set_option maxRecDepth 100000 in
theorem k168_X12_everyKind {l : Launch} {dC : Nat → ClassId} {dI : Nat → Nat → Nat} {ad : Nat → Nat} {cA : Nat → ClassId} {B : mm_M} (hB : MB B) : Ci l 0 yX12_everyKind wsX12_everyKind dC dI ad cA [.ref (ad 98)] (wI B 109 0 1) (fun r M' => 0 = r ∧ (wI B 109 0 1) = M') := by
  refine ci_of (cc := cX12_everyKind) (maxL := 1) (ty := .int) (lv := [(0, .ref (ad 98))]) (by decide) rfl (fun r M' hp => rfl) (Nat.le_of_ble_eq_true rfl) rfl ?_
  intro p e s m args below meth c A Q C hret
  refine j_iconst C 1 dX12_everyKind_0 (by decide) ?_
  refine j_aload_n C 0 0 dX12_everyKind_1 rfl rfl ?_
  refine j_getP C 11 99 fX12_everyKind_13 (by decide) rfl (by decide) rfl (show B.2.2 98 1 = 99 from hB.2.2 98 1 (by decide)) dX12_everyKind_2 ?_
  refine j_bipush C 26 dX12_everyKind_5 (by decide) ?_
  refine x_iald C 26 3543 0 (by decide) rfl rfl rfl (by decide) (by decide) (show B.1 99 26 = 0 from hB.1 99 26 (by decide)) dX12_everyKind_7 ?_
  refine z_ishl C 1 (by decide) dX12_everyKind_8 ?_
  refine j_iconst C 1 dX12_everyKind_9 (by decide) ?_
  refine z_isub C 0 (by decide) dX12_everyKind_10 ?_
  exact hret _ _ _ _ dX12_everyKind_11 ⟨rfl, rfl⟩
set_option maxHeartbeats 4000000 in
set_option maxRecDepth 100000 in
theorem k169_X12_laysComes {l : Launch} {dC : Nat → ClassId} {dI : Nat → Nat → Nat} {ad : Nat → Nat} {cA : Nat → ClassId} {B : mm_M} (hB : MB B) : Cv l 2 yX12_laysComes wsX12_laysComes dC dI ad cA [.ref (ad 98)] B (fun M' => (wI B 109 0 1) = M') := by
  refine cv_of (cc := cX12_laysComes) (maxL := 3) (lv := [(0, .ref (ad 98))]) (by decide) rfl (Nat.le_of_ble_eq_true rfl) rfl ?_
  intro p e s m args below meth c A Q C hret
  refine j_aload_n C 0 0 dX12_laysComes_0 rfl rfl ?_
  refine j_callVv C (d := 1) (As := []) (st := []) 98 (by decide) rfl (by decide) rfl (k115_X12_laysBuys hB) gX12_laysComes_X12_laysBuys rfl hdX12_laysBuys (by decide) (Nat.le_of_ble_eq_true rfl) dX12_laysComes_1 rfl (fun M' hp => ?_)
  obtain rfl := hp
  refine j_iconst C 0 dX12_laysComes_4 (by decide) ?_
  refine j_istore_n C 1 [(1, .int 0), (0, .ref (ad 98))] dX12_laysComes_5 rfl (by decide) rfl ?_
  refine j_iload_n C 0 1 dX12_laysComes_6 rfl rfl ?_
  refine j_sipush C 256 dX12_laysComes_7 (by decide) ?_
  refine j_icmp_ge_f C 41 dX12_laysComes_10 (by decide) (by decide) ?_
  refine j_aload_n C 1 0 dX12_laysComes_13 rfl rfl ?_
  refine j_getP C 11 109 fX12_laysComes_48 (by decide) rfl (by decide) rfl (show B.2.2 98 22 = 109 from hB.2.2 98 22 (by decide)) dX12_laysComes_14 ?_
  refine j_iload_n C 0 1 dX12_laysComes_17 rfl rfl ?_
  refine j_iload_n C 0 1 dX12_laysComes_18 rfl rfl ?_
  refine j_aload_n C 1 0 dX12_laysComes_19 rfl rfl ?_
  refine j_getP C 11 99 fX12_laysComes_13 (by decide) rfl (by decide) rfl (show B.2.2 98 1 = 99 from hB.2.2 98 1 (by decide)) dX12_laysComes_20 ?_
  refine j_bipush C 27 dX12_laysComes_23 (by decide) ?_
  refine x_iald C 27 3543 0 (by decide) rfl rfl rfl (by decide) (by decide) (show B.1 99 27 = 0 from hB.1 99 27 (by decide)) dX12_laysComes_25 ?_
  refine j_icmp_ne_f C 33 dX12_laysComes_26 (by decide) (by decide) ?_
  refine j_iconst C 1 dX12_laysComes_29 (by decide) ?_
  refine j_goto C 34 dX12_laysComes_30 (by decide) ?_
  refine x_zast C 0 256 (by decide) rfl rfl rfl (by decide) (by decide) rfl dX12_laysComes_34 ?_
  refine j_iinc C 0 1 [(1, .int 1), (0, .ref (ad 98))] dX12_laysComes_35 rfl (by decide) (by decide) rfl ?_
  refine j_goto C 6 dX12_laysComes_38 (by decide) ?_
  refine j_lv [1, 0] rfl ?_
  have L : ∀ (n i : Nat), 1 ≤ i → i + n = 256 → jj p l e (cn_R 2) s m args below meth c 0 0 Q 3 dC dI ad cA A (wI B 109 0 1) 6 [(0, .ref (ad 98)), (1, .int (nI i))] [] := by
    intro n
    induction n with
    | zero =>
      intro i h1 h2
      obtain rfl : i = 256 := by omega
      refine j_iload_n C 1 1 dX12_laysComes_6 rfl rfl ?_
      refine j_sipush C 256 dX12_laysComes_7 (by decide) ?_
      refine j_icmp_ge_t C 41 dX12_laysComes_10 (by decide) (by decide) ?_
      refine j_iconst C 0 dX12_laysComes_41 (by decide) ?_
      refine j_istore_n C 1 [(1, .int 0), (0, .ref (ad 98))] dX12_laysComes_42 rfl (by decide) rfl ?_
      refine j_iload_n C 0 1 dX12_laysComes_43 rfl rfl ?_
      refine j_aload_n C 1 0 dX12_laysComes_44 rfl rfl ?_
      refine j_callVi C (d := 0) (As := []) (st := [.int 0]) 98 (by decide) rfl (by decide) rfl (k168_X12_everyKind hB) gX12_laysComes_X12_everyKind rfl hdX12_everyKind (by decide) (Nat.le_of_ble_eq_true rfl) dX12_laysComes_45 rfl (fun r M' hp => ?_)
      obtain ⟨rfl, rfl⟩ := hp
      refine j_icmp_gt_f C 110 dX12_laysComes_48 (by decide) (by decide) ?_
      refine j_iconst C 0 dX12_laysComes_51 (by decide) ?_
      refine j_istore_n C 2 [(2, .int 0), (1, .int 0), (0, .ref (ad 98))] dX12_laysComes_52 rfl (by decide) rfl ?_
      refine j_iload_n C 0 2 dX12_laysComes_53 rfl rfl ?_
      refine j_aload_n C 2 0 dX12_laysComes_54 rfl rfl ?_
      refine j_getP C 11 99 fX12_laysComes_13 (by decide) rfl (by decide) rfl (show B.2.2 98 1 = 99 from hB.2.2 98 1 (by decide)) dX12_laysComes_55 ?_
      refine j_iconst C 1 dX12_laysComes_58 (by decide) ?_
      refine x_iald C 1 3543 0 (by decide) rfl rfl rfl (by decide) (by decide) (show B.1 99 1 = 0 from hB.1 99 1 (by decide)) dX12_laysComes_59 ?_
      refine j_icmp_ge_t C 104 dX12_laysComes_60 (by decide) (by decide) ?_
      refine j_iinc C 1 1 [(1, .int 1), (2, .int 0), (0, .ref (ad 98))] dX12_laysComes_104 rfl (by decide) (by decide) rfl ?_
      refine j_goto C 43 dX12_laysComes_107 (by decide) ?_
      refine j_iload_n C 0 1 dX12_laysComes_43 rfl rfl ?_
      refine j_aload_n C 2 0 dX12_laysComes_44 rfl rfl ?_
      refine j_callVi C (d := 0) (As := []) (st := [.int 1]) 98 (by decide) rfl (by decide) rfl (k168_X12_everyKind hB) gX12_laysComes_X12_everyKind rfl hdX12_everyKind (by decide) (Nat.le_of_ble_eq_true rfl) dX12_laysComes_45 rfl (fun r M' hp => ?_)
      obtain ⟨rfl, rfl⟩ := hp
      refine j_icmp_gt_t C 110 dX12_laysComes_48 (by decide) (by decide) ?_
      exact hret _ _ _ dX12_laysComes_110 rfl
    | succ n ih =>
      intro i h1 h2
      refine j_iload_n C 1 1 dX12_laysComes_6 rfl rfl ?_
      refine j_sipush C 256 dX12_laysComes_7 (by decide) ?_
      refine z_icmp_ge C 41 (i : Int) 256 (nI_toInt (n := i) (by omega)) (by decide) dX12_laysComes_10 (by decide) (fun h1 => ?_) (fun h1 => ?_)
      · exfalso; omega
      · refine j_aload_n C 0 0 dX12_laysComes_13 rfl rfl ?_
        refine j_getP C 11 109 fX12_laysComes_48 (by decide) rfl (by decide) rfl (show B.2.2 98 22 = 109 from hB.2.2 98 22 (by decide)) dX12_laysComes_14 ?_
        refine j_iload_n C 1 1 dX12_laysComes_17 rfl rfl ?_
        refine j_iload_n C 1 1 dX12_laysComes_18 rfl rfl ?_
        refine j_aload_n C 0 0 dX12_laysComes_19 rfl rfl ?_
        refine j_getP C 11 99 fX12_laysComes_13 (by decide) rfl (by decide) rfl (show B.2.2 98 1 = 99 from hB.2.2 98 1 (by decide)) dX12_laysComes_20 ?_
        refine j_bipush C 27 dX12_laysComes_23 (by decide) ?_
        refine x_iald C 27 3543 0 (by decide) rfl rfl rfl (by decide) (by decide) (show B.1 99 27 = 0 from hB.1 99 27 (by decide)) dX12_laysComes_25 ?_
        refine z_icmp_ne C 33 (i : Int) 0 (nI_toInt (n := i) (by omega)) (by decide) dX12_laysComes_26 (by decide) (fun h2 => ?_) (fun h2 => ?_)
        · refine j_iconst C 0 dX12_laysComes_33 (by decide) ?_
          refine x_zast C i 256 (by decide) rfl rfl rfl (by omega) (by decide) rfl dX12_laysComes_34 ?_
          refine z_noI ((u2_b (i := 109) (k := 0) (a := 109) (b := i) _ (1 : Int32) (by omega)).trans (show B.1 109 i = 0 from hB.1 109 i (by decide))) ?_
          refine j_iinc C 1 (nI (i + 1)) [(1, .int (nI (i + 1))), (0, .ref (ad 98))] dX12_laysComes_35 rfl (nI_1 i) (by decide) rfl ?_
          refine j_goto C 6 dX12_laysComes_38 (by decide) ?_
          refine j_lv [1, 0] rfl ?_
          exact ih (i + 1) (by omega) (by omega)
        · exfalso; omega
  exact L (256 - 1) 1 (by omega) (by omega)
set_option maxHeartbeats 4000000 in
set_option maxRecDepth 100000 in
theorem om_sellable {l : Launch} {dC : Nat → ClassId} {dI : Nat → Nat → Nat} {ad : Nat → Nat} {cA : Nat → ClassId} {B : mm_M} (hB : MB B) : Ci l 3 yX12_sellable wsX12_sellable dC dI ad cA [.ref (ad 98)] B (fun r _ => r = fo_sellable) := by
  refine ci_of (cc := cX12_sellable) (maxL := 3) (ty := .int) (lv := [(0, .ref (ad 98))]) (by decide) rfl (fun r M' hp => rfl) (Nat.le_of_ble_eq_true rfl) rfl ?_
  intro p e s m args below meth c A Q C hret
  refine j_aload_n C 0 0 dX12_sellable_0 rfl rfl ?_
  refine j_iconst C 0 dX12_sellable_1 (by decide) ?_
  refine j_putI C 11 qX12_sellable_1 rfl rfl (by decide) rfl (by decide) rfl dX12_sellable_2 ?_
  refine z_noI (show B.1 98 0 = 0 from hB.1 98 0 (by decide)) ?_
  refine j_aload_n C 0 0 dX12_sellable_5 rfl rfl ?_
  refine j_callVv C (d := 2) (As := []) (st := []) 98 (by decide) rfl (by decide) rfl (k169_X12_laysComes hB) gX12_sellable_X12_laysComes rfl hdX12_laysComes (by decide) (Nat.le_of_ble_eq_true rfl) dX12_sellable_6 rfl (fun M' hp => ?_)
  obtain rfl := hp
  refine j_iconst C 0 dX12_sellable_9 (by decide) ?_
  refine j_istore_n C 1 [(1, .int 0), (0, .ref (ad 98))] dX12_sellable_10 rfl (by decide) rfl ?_
  refine j_iconst C 0 dX12_sellable_11 (by decide) ?_
  refine j_istore_n C 2 [(2, .int 0), (1, .int 0), (0, .ref (ad 98))] dX12_sellable_12 rfl (by decide) rfl ?_
  refine j_iload_n C 0 2 dX12_sellable_13 rfl rfl ?_
  refine j_sipush C 256 dX12_sellable_14 (by decide) ?_
  refine j_icmp_ge_f C 43 dX12_sellable_17 (by decide) (by decide) ?_
  refine j_iload_n C 1 1 dX12_sellable_20 rfl rfl ?_
  refine j_aload_n C 2 0 dX12_sellable_21 rfl rfl ?_
  refine j_getP C 11 109 fX12_sellable_48 (by decide) rfl (by decide) rfl (show B.2.2 98 22 = 109 from hB.2.2 98 22 (by decide)) dX12_sellable_22 ?_
  refine j_iload_n C 0 2 dX12_sellable_25 rfl rfl ?_
  refine x_zald C 0 256 1 (by decide) rfl rfl rfl (by decide) (by decide) rfl dX12_sellable_26 ?_
  refine j_if_eq_f C 34 dX12_sellable_27 (by decide) (by decide) ?_
  refine j_iload_n C 0 2 dX12_sellable_30 rfl rfl ?_
  refine j_goto C 35 dX12_sellable_31 (by decide) ?_
  refine z_ior C 0 (by decide) dX12_sellable_35 ?_
  refine j_istore_n C 1 [(1, .int 0), (2, .int 0), (0, .ref (ad 98))] dX12_sellable_36 rfl (by decide) rfl ?_
  refine j_iinc C 1 1 [(2, .int 1), (1, .int 0), (0, .ref (ad 98))] dX12_sellable_37 rfl (by decide) (by decide) rfl ?_
  refine j_goto C 13 dX12_sellable_40 (by decide) ?_
  refine j_lv [2, 1, 0] rfl ?_
  have L : ∀ (n i : Nat), 1 ≤ i → i + n = 256 → jj p l e (cn_R 3) s m args below meth c 0 0 Q 3 dC dI ad cA A (wI B 109 0 1) 13 [(0, .ref (ad 98)), (1, .int 0), (2, .int (nI i))] [] := by
    intro n
    induction n with
    | zero =>
      intro i h1 h2
      obtain rfl : i = 256 := by omega
      refine j_iload_n C 2 2 dX12_sellable_13 rfl rfl ?_
      refine j_sipush C 256 dX12_sellable_14 (by decide) ?_
      refine j_icmp_ge_t C 43 dX12_sellable_17 (by decide) (by decide) ?_
      refine j_iload_n C 1 1 dX12_sellable_43 rfl rfl ?_
      exact hret _ _ _ _ dX12_sellable_44 (by first | rfl | (unfold fo_sellable; rw [if_pos (by rw [nI_toInt (by omega)]; omega), nI_clamp (by omega)]; exact hrel) | (unfold fo_sellable; (repeat' split) <;> first | rfl | (exfalso; omega) | (exfalso; simp_all; done)))
    | succ n ih =>
      intro i h1 h2
      refine j_iload_n C 2 2 dX12_sellable_13 rfl rfl ?_
      refine j_sipush C 256 dX12_sellable_14 (by decide) ?_
      refine z_icmp_ge C 43 (i : Int) 256 (nI_toInt (n := i) (by omega)) (by decide) dX12_sellable_17 (by decide) (fun h1 => ?_) (fun h1 => ?_)
      · exfalso; omega
      · refine j_iload_n C 1 1 dX12_sellable_20 rfl rfl ?_
        refine j_aload_n C 0 0 dX12_sellable_21 rfl rfl ?_
        refine j_getP C 11 109 fX12_sellable_48 (by decide) rfl (by decide) rfl (show B.2.2 98 22 = 109 from hB.2.2 98 22 (by decide)) dX12_sellable_22 ?_
        refine j_iload_n C 2 2 dX12_sellable_25 rfl rfl ?_
        refine x_zald C i 256 0 (by decide) rfl rfl rfl (by omega) (by decide) ((u2_b (i := 109) (k := 0) (a := 109) (b := i) _ (1 : Int32) (by omega)).trans (show B.1 109 i = 0 from hB.1 109 i (by decide))) dX12_sellable_26 ?_
        refine j_if_eq_t C 34 dX12_sellable_27 (by decide) (by decide) ?_
        refine j_iconst C 0 dX12_sellable_34 (by decide) ?_
        refine z_ior C 0 (by decide) dX12_sellable_35 ?_
        refine j_istore_n C 1 [(1, .int 0), (0, .ref (ad 98)), (2, .int (nI i))] dX12_sellable_36 rfl (by decide) rfl ?_
        refine j_iinc C 2 (nI (i + 1)) [(2, .int (nI (i + 1))), (1, .int 0), (0, .ref (ad 98))] dX12_sellable_37 rfl (nI_1 i) (by decide) rfl ?_
        refine j_goto C 13 dX12_sellable_40 (by decide) ?_
        refine j_lv [2, 1, 0] rfl ?_
        exact ih (i + 1) (by omega) (by omega)
  exact L (256 - 1) 1 (by omega) (by omega)
set_option maxHeartbeats 4000000 in
set_option maxRecDepth 100000 in
theorem om_guards {l : Launch} {dC : Nat → ClassId} {dI : Nat → Nat → Nat} {ad : Nat → Nat} {cA : Nat → ClassId} {B : mm_M} (hB : MB B) : Ci l 5 yX12_guards wsX12_guards dC dI ad cA [.ref (ad 98)] B (fun r _ => r = fo_guards) := by
  refine ci_of (cc := cX12_guards) (maxL := 4) (ty := .int) (lv := [(0, .ref (ad 98))]) (by decide) rfl (fun r M' hp => rfl) (Nat.le_of_ble_eq_true rfl) rfl ?_
  intro p e s m args below meth c A Q C hret
  refine j_aload_n C 0 0 dX12_guards_0 rfl rfl ?_
  refine j_iconst C 0 dX12_guards_1 (by decide) ?_
  refine j_putI C 11 qX12_guards_1 rfl rfl (by decide) rfl (by decide) rfl dX12_guards_2 ?_
  refine z_noI (show B.1 98 0 = 0 from hB.1 98 0 (by decide)) ?_
  refine j_iconst C 0 dX12_guards_5 (by decide) ?_
  refine j_istore_n C 1 [(1, .int 0), (0, .ref (ad 98))] dX12_guards_6 rfl (by decide) rfl ?_
  refine j_aload_n C 1 0 dX12_guards_7 rfl rfl ?_
  refine j_callVi C (d := 4) (As := []) (st := []) 98 (by decide) rfl (by decide) rfl (k117_X12_endingNow hB) gX12_guards_X12_endingNow rfl hdX12_endingNow (by decide) (Nat.le_of_ble_eq_true rfl) dX12_guards_8 rfl (fun r M' hp => ?_)
  obtain ⟨rfl, rfl⟩ := hp
  refine j_iconst C (-1) dX12_guards_11 (by decide) ?_
  refine j_icmp_ne_t C 17 dX12_guards_12 (by decide) (by decide) ?_
  refine j_aload_n C 1 0 dX12_guards_17 rfl rfl ?_
  refine j_getP C 11 99 fX12_guards_13 (by decide) rfl (by decide) rfl (show B.2.2 98 1 = 99 from hB.2.2 98 1 (by decide)) dX12_guards_18 ?_
  refine j_bipush C 28 dX12_guards_21 (by decide) ?_
  refine x_iald C 28 3543 0 (by decide) rfl rfl rfl (by decide) (by decide) (show B.1 99 28 = 0 from hB.1 99 28 (by decide)) dX12_guards_23 ?_
  refine j_istore_n C 2 [(2, .int 0), (1, .int 0), (0, .ref (ad 98))] dX12_guards_24 rfl (by decide) rfl ?_
  refine j_iconst C 0 dX12_guards_25 (by decide) ?_
  refine j_istore_n C 3 [(3, .int 0), (2, .int 0), (1, .int 0), (0, .ref (ad 98))] dX12_guards_26 rfl (by decide) rfl ?_
  refine j_iload_n C 0 3 dX12_guards_27 rfl rfl ?_
  refine j_aload_n C 3 0 dX12_guards_28 rfl rfl ?_
  refine j_getP C 11 99 fX12_guards_13 (by decide) rfl (by decide) rfl (show B.2.2 98 1 = 99 from hB.2.2 98 1 (by decide)) dX12_guards_29 ?_
  refine j_bipush C 26 dX12_guards_32 (by decide) ?_
  refine x_iald C 26 3543 0 (by decide) rfl rfl rfl (by decide) (by decide) (show B.1 99 26 = 0 from hB.1 99 26 (by decide)) dX12_guards_34 ?_
  refine j_icmp_ge_t C 86 dX12_guards_35 (by decide) (by decide) ?_
  refine j_aload_n C 3 0 dX12_guards_86 rfl rfl ?_
  refine j_getP C 11 99 fX12_guards_13 (by decide) rfl (by decide) rfl (show B.2.2 98 1 = 99 from hB.2.2 98 1 (by decide)) dX12_guards_87 ?_
  refine j_bipush C 28 dX12_guards_90 (by decide) ?_
  refine j_iload_n C 1 2 dX12_guards_92 rfl rfl ?_
  refine x_iast C 28 3543 (by decide) rfl rfl rfl (by decide) (by decide) dX12_guards_93 ?_
  refine z_noI (show B.1 99 28 = 0 from hB.1 99 28 (by decide)) ?_
  refine j_iload_n C 2 1 dX12_guards_94 rfl rfl ?_
  exact hret _ _ _ _ dX12_guards_95 (by first | rfl | (unfold fo_guards; rw [if_pos (by rw [nI_toInt (by omega)]; omega), nI_clamp (by omega)]; exact hrel) | (unfold fo_guards; (repeat' split) <;> first | rfl | (exfalso; omega) | (exfalso; simp_all; done)))
set_option maxHeartbeats 4000000 in
set_option maxRecDepth 100000 in
theorem k176_X12_shown {l : Launch} {dC : Nat → ClassId} {dI : Nat → Nat → Nat} {ad : Nat → Nat} {cA : Nat → ClassId} {B : mm_M} (hB : MB B) : Ci l 1 yX12_shown wsX12_shown dC dI ad cA [.ref (ad 98)] (wI B 109 0 1) (fun r M' => 0 = r ∧ (wI B 109 0 1) = M') := by
  refine ci_of (cc := cX12_shown) (maxL := 1) (ty := .int) (lv := [(0, .ref (ad 98))]) (by decide) rfl (fun r M' hp => rfl) (Nat.le_of_ble_eq_true rfl) rfl ?_
  intro p e s m args below meth c A Q C hret
  refine j_aload_n C 0 0 dX12_shown_0 rfl rfl ?_
  refine j_callVi C (d := 0) (As := []) (st := []) 98 (by decide) rfl (by decide) rfl (k168_X12_everyKind hB) gX12_shown_X12_everyKind rfl hdX12_everyKind (by decide) (Nat.le_of_ble_eq_true rfl) dX12_shown_1 rfl (fun r M' hp => ?_)
  obtain ⟨rfl, rfl⟩ := hp
  refine j_aload_n C 0 0 dX12_shown_4 rfl rfl ?_
  refine j_getP C 11 99 fX12_shown_13 (by decide) rfl (by decide) rfl (show B.2.2 98 1 = 99 from hB.2.2 98 1 (by decide)) dX12_shown_5 ?_
  refine j_bipush C 28 dX12_shown_8 (by decide) ?_
  refine x_iald C 28 3543 0 (by decide) rfl rfl rfl (by decide) (by decide) (show B.1 99 28 = 0 from hB.1 99 28 (by decide)) dX12_shown_10 ?_
  refine j_iconst C (-1) dX12_shown_11 (by decide) ?_
  refine z_ixor C (-1) (by decide) dX12_shown_12 ?_
  refine z_iand C 0 (by decide) dX12_shown_13 ?_
  exact hret _ _ _ _ dX12_shown_14 ⟨rfl, rfl⟩
set_option maxHeartbeats 4000000 in
set_option maxRecDepth 100000 in
theorem k177_X12_bitsOf {l : Launch} {dC : Nat → ClassId} {dI : Nat → Nat → Nat} {ad : Nat → Nat} {cA : Nat → ClassId} {B : mm_M} (hB : MB B) : Ci l 0 yX12_bitsOf wsX12_bitsOf dC dI ad cA [.int 0] (wI B 109 0 1) (fun r M' => 0 = r ∧ (wI B 109 0 1) = M') := by
  refine ci_of (cc := cX12_bitsOf) (maxL := 3) (ty := .int) (lv := [(0, .int 0)]) (by decide) rfl (fun r M' hp => rfl) (Nat.le_of_ble_eq_true rfl) rfl ?_
  intro p e s m args below meth c A Q C hret
  refine j_iconst C 0 dX12_bitsOf_0 (by decide) ?_
  refine j_istore_n C 1 [(1, .int 0), (0, .int 0)] dX12_bitsOf_1 rfl (by decide) rfl ?_
  refine j_iconst C 0 dX12_bitsOf_2 (by decide) ?_
  refine j_istore_n C 2 [(2, .int 0), (1, .int 0), (0, .int 0)] dX12_bitsOf_3 rfl (by decide) rfl ?_
  refine j_iload_n C 0 2 dX12_bitsOf_4 rfl rfl ?_
  refine j_bipush C 8 dX12_bitsOf_5 (by decide) ?_
  refine j_icmp_ge_f C 24 dX12_bitsOf_7 (by decide) (by decide) ?_
  refine j_iload_n C 1 1 dX12_bitsOf_10 rfl rfl ?_
  refine j_iload_n C 2 0 dX12_bitsOf_11 rfl rfl ?_
  refine j_iload_n C 0 2 dX12_bitsOf_12 rfl rfl ?_
  refine z_ishr C 0 (by decide) dX12_bitsOf_13 ?_
  refine j_iconst C 1 dX12_bitsOf_14 (by decide) ?_
  refine z_iand C 0 (by decide) dX12_bitsOf_15 ?_
  refine z_iadd C 0 (by decide) dX12_bitsOf_16 ?_
  refine j_istore_n C 1 [(1, .int 0), (2, .int 0), (0, .int 0)] dX12_bitsOf_17 rfl (by decide) rfl ?_
  refine j_iinc C 1 1 [(2, .int 1), (1, .int 0), (0, .int 0)] dX12_bitsOf_18 rfl (by decide) (by decide) rfl ?_
  refine j_goto C 4 dX12_bitsOf_21 (by decide) ?_
  refine j_iload_n C 0 2 dX12_bitsOf_4 rfl rfl ?_
  refine j_bipush C 8 dX12_bitsOf_5 (by decide) ?_
  refine j_icmp_ge_f C 24 dX12_bitsOf_7 (by decide) (by decide) ?_
  refine j_iload_n C 1 1 dX12_bitsOf_10 rfl rfl ?_
  refine j_iload_n C 2 0 dX12_bitsOf_11 rfl rfl ?_
  refine j_iload_n C 0 2 dX12_bitsOf_12 rfl rfl ?_
  refine z_ishr C 0 (by decide) dX12_bitsOf_13 ?_
  refine j_iconst C 1 dX12_bitsOf_14 (by decide) ?_
  refine z_iand C 0 (by decide) dX12_bitsOf_15 ?_
  refine z_iadd C 0 (by decide) dX12_bitsOf_16 ?_
  refine j_istore_n C 1 [(1, .int 0), (2, .int 1), (0, .int 0)] dX12_bitsOf_17 rfl (by decide) rfl ?_
  refine j_iinc C 1 2 [(2, .int 2), (1, .int 0), (0, .int 0)] dX12_bitsOf_18 rfl (by decide) (by decide) rfl ?_
  refine j_goto C 4 dX12_bitsOf_21 (by decide) ?_
  refine j_iload_n C 0 2 dX12_bitsOf_4 rfl rfl ?_
  refine j_bipush C 8 dX12_bitsOf_5 (by decide) ?_
  refine j_icmp_ge_f C 24 dX12_bitsOf_7 (by decide) (by decide) ?_
  refine j_iload_n C 1 1 dX12_bitsOf_10 rfl rfl ?_
  refine j_iload_n C 2 0 dX12_bitsOf_11 rfl rfl ?_
  refine j_iload_n C 0 2 dX12_bitsOf_12 rfl rfl ?_
  refine z_ishr C 0 (by decide) dX12_bitsOf_13 ?_
  refine j_iconst C 1 dX12_bitsOf_14 (by decide) ?_
  refine z_iand C 0 (by decide) dX12_bitsOf_15 ?_
  refine z_iadd C 0 (by decide) dX12_bitsOf_16 ?_
  refine j_istore_n C 1 [(1, .int 0), (2, .int 2), (0, .int 0)] dX12_bitsOf_17 rfl (by decide) rfl ?_
  refine j_iinc C 1 3 [(2, .int 3), (1, .int 0), (0, .int 0)] dX12_bitsOf_18 rfl (by decide) (by decide) rfl ?_
  refine j_goto C 4 dX12_bitsOf_21 (by decide) ?_
  refine j_iload_n C 0 2 dX12_bitsOf_4 rfl rfl ?_
  refine j_bipush C 8 dX12_bitsOf_5 (by decide) ?_
  refine j_icmp_ge_f C 24 dX12_bitsOf_7 (by decide) (by decide) ?_
  refine j_iload_n C 1 1 dX12_bitsOf_10 rfl rfl ?_
  refine j_iload_n C 2 0 dX12_bitsOf_11 rfl rfl ?_
  refine j_iload_n C 0 2 dX12_bitsOf_12 rfl rfl ?_
  refine z_ishr C 0 (by decide) dX12_bitsOf_13 ?_
  refine j_iconst C 1 dX12_bitsOf_14 (by decide) ?_
  refine z_iand C 0 (by decide) dX12_bitsOf_15 ?_
  refine z_iadd C 0 (by decide) dX12_bitsOf_16 ?_
  refine j_istore_n C 1 [(1, .int 0), (2, .int 3), (0, .int 0)] dX12_bitsOf_17 rfl (by decide) rfl ?_
  refine j_iinc C 1 4 [(2, .int 4), (1, .int 0), (0, .int 0)] dX12_bitsOf_18 rfl (by decide) (by decide) rfl ?_
  refine j_goto C 4 dX12_bitsOf_21 (by decide) ?_
  refine j_iload_n C 0 2 dX12_bitsOf_4 rfl rfl ?_
  refine j_bipush C 8 dX12_bitsOf_5 (by decide) ?_
  refine j_icmp_ge_f C 24 dX12_bitsOf_7 (by decide) (by decide) ?_
  refine j_iload_n C 1 1 dX12_bitsOf_10 rfl rfl ?_
  refine j_iload_n C 2 0 dX12_bitsOf_11 rfl rfl ?_
  refine j_iload_n C 0 2 dX12_bitsOf_12 rfl rfl ?_
  refine z_ishr C 0 (by decide) dX12_bitsOf_13 ?_
  refine j_iconst C 1 dX12_bitsOf_14 (by decide) ?_
  refine z_iand C 0 (by decide) dX12_bitsOf_15 ?_
  refine z_iadd C 0 (by decide) dX12_bitsOf_16 ?_
  refine j_istore_n C 1 [(1, .int 0), (2, .int 4), (0, .int 0)] dX12_bitsOf_17 rfl (by decide) rfl ?_
  refine j_iinc C 1 5 [(2, .int 5), (1, .int 0), (0, .int 0)] dX12_bitsOf_18 rfl (by decide) (by decide) rfl ?_
  refine j_goto C 4 dX12_bitsOf_21 (by decide) ?_
  refine j_iload_n C 0 2 dX12_bitsOf_4 rfl rfl ?_
  refine j_bipush C 8 dX12_bitsOf_5 (by decide) ?_
  refine j_icmp_ge_f C 24 dX12_bitsOf_7 (by decide) (by decide) ?_
  refine j_iload_n C 1 1 dX12_bitsOf_10 rfl rfl ?_
  refine j_iload_n C 2 0 dX12_bitsOf_11 rfl rfl ?_
  refine j_iload_n C 0 2 dX12_bitsOf_12 rfl rfl ?_
  refine z_ishr C 0 (by decide) dX12_bitsOf_13 ?_
  refine j_iconst C 1 dX12_bitsOf_14 (by decide) ?_
  refine z_iand C 0 (by decide) dX12_bitsOf_15 ?_
  refine z_iadd C 0 (by decide) dX12_bitsOf_16 ?_
  refine j_istore_n C 1 [(1, .int 0), (2, .int 5), (0, .int 0)] dX12_bitsOf_17 rfl (by decide) rfl ?_
  refine j_iinc C 1 6 [(2, .int 6), (1, .int 0), (0, .int 0)] dX12_bitsOf_18 rfl (by decide) (by decide) rfl ?_
  refine j_goto C 4 dX12_bitsOf_21 (by decide) ?_
  refine j_iload_n C 0 2 dX12_bitsOf_4 rfl rfl ?_
  refine j_bipush C 8 dX12_bitsOf_5 (by decide) ?_
  refine j_icmp_ge_f C 24 dX12_bitsOf_7 (by decide) (by decide) ?_
  refine j_iload_n C 1 1 dX12_bitsOf_10 rfl rfl ?_
  refine j_iload_n C 2 0 dX12_bitsOf_11 rfl rfl ?_
  refine j_iload_n C 0 2 dX12_bitsOf_12 rfl rfl ?_
  refine z_ishr C 0 (by decide) dX12_bitsOf_13 ?_
  refine j_iconst C 1 dX12_bitsOf_14 (by decide) ?_
  refine z_iand C 0 (by decide) dX12_bitsOf_15 ?_
  refine z_iadd C 0 (by decide) dX12_bitsOf_16 ?_
  refine j_istore_n C 1 [(1, .int 0), (2, .int 6), (0, .int 0)] dX12_bitsOf_17 rfl (by decide) rfl ?_
  refine j_iinc C 1 7 [(2, .int 7), (1, .int 0), (0, .int 0)] dX12_bitsOf_18 rfl (by decide) (by decide) rfl ?_
  refine j_goto C 4 dX12_bitsOf_21 (by decide) ?_
  refine j_iload_n C 0 2 dX12_bitsOf_4 rfl rfl ?_
  refine j_bipush C 8 dX12_bitsOf_5 (by decide) ?_
  refine j_icmp_ge_f C 24 dX12_bitsOf_7 (by decide) (by decide) ?_
  refine j_iload_n C 1 1 dX12_bitsOf_10 rfl rfl ?_
  refine j_iload_n C 2 0 dX12_bitsOf_11 rfl rfl ?_
  refine j_iload_n C 0 2 dX12_bitsOf_12 rfl rfl ?_
  refine z_ishr C 0 (by decide) dX12_bitsOf_13 ?_
  refine j_iconst C 1 dX12_bitsOf_14 (by decide) ?_
  refine z_iand C 0 (by decide) dX12_bitsOf_15 ?_
  refine z_iadd C 0 (by decide) dX12_bitsOf_16 ?_
  refine j_istore_n C 1 [(1, .int 0), (2, .int 7), (0, .int 0)] dX12_bitsOf_17 rfl (by decide) rfl ?_
  refine j_iinc C 1 8 [(2, .int 8), (1, .int 0), (0, .int 0)] dX12_bitsOf_18 rfl (by decide) (by decide) rfl ?_
  refine j_goto C 4 dX12_bitsOf_21 (by decide) ?_
  refine j_iload_n C 0 2 dX12_bitsOf_4 rfl rfl ?_
  refine j_bipush C 8 dX12_bitsOf_5 (by decide) ?_
  refine j_icmp_ge_t C 24 dX12_bitsOf_7 (by decide) (by decide) ?_
  refine j_iload_n C 1 1 dX12_bitsOf_24 rfl rfl ?_
  exact hret _ _ _ _ dX12_bitsOf_25 ⟨rfl, rfl⟩
set_option maxHeartbeats 4000000 in
set_option maxRecDepth 100000 in
theorem om_last {l : Launch} {dC : Nat → ClassId} {dI : Nat → Nat → Nat} {ad : Nat → Nat} {cA : Nat → ClassId} {B : mm_M} (hB : MB B) : Ci l 3 yX12_last wsX12_last dC dI ad cA [.ref (ad 98)] B (fun r _ => r = fo_last) := by
  refine ci_of (cc := cX12_last) (maxL := 4) (ty := .int) (lv := [(0, .ref (ad 98))]) (by decide) rfl (fun r M' hp => rfl) (Nat.le_of_ble_eq_true rfl) rfl ?_
  intro p e s m args below meth c A Q C hret
  refine j_aload_n C 0 0 dX12_last_0 rfl rfl ?_
  refine j_iconst C 0 dX12_last_1 (by decide) ?_
  refine j_putI C 11 qX12_last_1 rfl rfl (by decide) rfl (by decide) rfl dX12_last_2 ?_
  refine z_noI (show B.1 98 0 = 0 from hB.1 98 0 (by decide)) ?_
  refine j_aload_n C 0 0 dX12_last_5 rfl rfl ?_
  refine j_callVv C (d := 2) (As := []) (st := []) 98 (by decide) rfl (by decide) rfl (k169_X12_laysComes hB) gX12_last_X12_laysComes rfl hdX12_laysComes (by decide) (Nat.le_of_ble_eq_true rfl) dX12_last_6 rfl (fun M' hp => ?_)
  obtain rfl := hp
  refine j_iconst C 0 dX12_last_9 (by decide) ?_
  refine j_istore_n C 1 [(1, .int 0), (0, .ref (ad 98))] dX12_last_10 rfl (by decide) rfl ?_
  refine j_iconst C 0 dX12_last_11 (by decide) ?_
  refine j_istore_n C 2 [(2, .int 0), (1, .int 0), (0, .ref (ad 98))] dX12_last_12 rfl (by decide) rfl ?_
  refine j_iload_n C 0 2 dX12_last_13 rfl rfl ?_
  refine j_aload_n C 2 0 dX12_last_14 rfl rfl ?_
  refine j_callVi C (d := 0) (As := []) (st := [.int 0]) 98 (by decide) rfl (by decide) rfl (k168_X12_everyKind hB) gX12_last_X12_everyKind rfl hdX12_everyKind (by decide) (Nat.le_of_ble_eq_true rfl) dX12_last_15 rfl (fun r M' hp => ?_)
  obtain ⟨rfl, rfl⟩ := hp
  refine j_icmp_gt_f C 57 dX12_last_18 (by decide) (by decide) ?_
  refine j_aload_n C 2 0 dX12_last_21 rfl rfl ?_
  refine j_callVi C (d := 1) (As := []) (st := []) 98 (by decide) rfl (by decide) rfl (k176_X12_shown hB) gX12_last_X12_shown rfl hdX12_shown (by decide) (Nat.le_of_ble_eq_true rfl) dX12_last_22 rfl (fun r M' hp => ?_)
  obtain ⟨rfl, rfl⟩ := hp
  refine j_iload_n C 0 2 dX12_last_25 rfl rfl ?_
  refine j_iconst C (-1) dX12_last_26 (by decide) ?_
  refine z_ixor C (-1) (by decide) dX12_last_27 ?_
  refine z_iand C 0 (by decide) dX12_last_28 ?_
  refine j_istore_n C 3 [(3, .int 0), (2, .int 0), (1, .int 0), (0, .ref (ad 98))] dX12_last_29 rfl (by decide) rfl ?_
  refine j_aload_n C 3 0 dX12_last_30 rfl rfl ?_
  refine j_getP C 11 109 fX12_last_48 (by decide) rfl (by decide) rfl (show B.2.2 98 22 = 109 from hB.2.2 98 22 (by decide)) dX12_last_31 ?_
  refine j_iload_n C 1 2 dX12_last_34 rfl rfl ?_
  refine x_zald C 0 256 1 (by decide) rfl rfl rfl (by decide) (by decide) rfl dX12_last_35 ?_
  refine j_if_eq_f C 51 dX12_last_36 (by decide) (by decide) ?_
  refine j_iload_n C 0 3 dX12_last_39 rfl rfl ?_
  refine j_callSi C (d := 0) (As := [.int 0]) (st := []) (k177_X12_bitsOf hB) gX12_last_X12_bitsOf rfl hdX12_bitsOfs (by decide) (Nat.le_of_ble_eq_true rfl) dX12_last_40 rfl (fun r M' hp => ?_)
  obtain ⟨rfl, rfl⟩ := hp
  refine j_iconst C 1 dX12_last_43 (by decide) ?_
  refine j_icmp_ne_t C 51 dX12_last_44 (by decide) (by decide) ?_
  refine j_iinc C 1 1 [(2, .int 1), (3, .int 0), (1, .int 0), (0, .ref (ad 98))] dX12_last_51 rfl (by decide) (by decide) rfl ?_
  refine j_goto C 13 dX12_last_54 (by decide) ?_
  refine j_iload_n C 0 2 dX12_last_13 rfl rfl ?_
  refine j_aload_n C 3 0 dX12_last_14 rfl rfl ?_
  refine j_callVi C (d := 0) (As := []) (st := [.int 1]) 98 (by decide) rfl (by decide) rfl (k168_X12_everyKind hB) gX12_last_X12_everyKind rfl hdX12_everyKind (by decide) (Nat.le_of_ble_eq_true rfl) dX12_last_15 rfl (fun r M' hp => ?_)
  obtain ⟨rfl, rfl⟩ := hp
  refine j_icmp_gt_t C 57 dX12_last_18 (by decide) (by decide) ?_
  refine j_iload_n C 2 1 dX12_last_57 rfl rfl ?_
  exact hret _ _ _ _ dX12_last_58 (by first | rfl | (unfold fo_last; rw [if_pos (by rw [nI_toInt (by omega)]; omega), nI_clamp (by omega)]; exact hrel) | (unfold fo_last; (repeat' split) <;> first | rfl | (exfalso; omega) | (exfalso; simp_all; done)))
set_option maxHeartbeats 4000000 in
set_option maxRecDepth 100000 in
theorem k186_X12_within {l : Launch} {dC : Nat → ClassId} {dI : Nat → Nat → Nat} {ad : Nat → Nat} {cA : Nat → ClassId} {B : mm_M} (hB : MB B) (p0 : Int32) : Ci l 0 yX12_within wsX12_within dC dI ad cA [.long p0.toInt64, .long 0, .long 1] B (fun r M' => ((p0.toInt < 0) ∧ 0 = r ∧ B = M') ∨ ((¬ p0.toInt < 0 ∧ 1 < p0.toInt) ∧ 0 = r ∧ B = M') ∨ ((¬ p0.toInt < 0 ∧ ¬ 1 < p0.toInt) ∧ 1 = r ∧ B = M')) := by
  refine ci_of (cc := cX12_within) (maxL := 6) (ty := .boolean) (lv := [(0, .long p0.toInt64), (2, .long 0), (4, .long 1)]) (by decide) rfl (fun r M' hp => by rcases hp with ⟨-, rfl, rfl⟩ | ⟨-, rfl, rfl⟩ | ⟨-, rfl, rfl⟩ <;> rfl) (Nat.le_of_ble_eq_true rfl) rfl ?_
  intro p e s m args below meth c A Q C hret
  refine j_lload_n C 0 0 dX12_within_0 rfl rfl ?_
  refine j_lload_n C 1 2 dX12_within_1 rfl rfl ?_
  refine z_lcmp_lt C 17 p0.toInt 0 ((Int32.toInt_toInt64 p0).trans rfl) (by decide) dX12_within_2 dX12_within_3 (by decide) (fun h1 => ?_) (fun h1 => ?_)
  · refine j_iconst C 0 dX12_within_17 (by decide) ?_
    exact hret _ _ _ _ dX12_within_18 (Or.inl ⟨h1, rfl, rfl⟩)
  · refine j_lload_n C 0 0 dX12_within_6 rfl rfl ?_
    refine j_lload C 2 dX12_within_7 rfl ?_
    refine z_lcmp_gt C 17 p0.toInt 1 ((Int32.toInt_toInt64 p0).trans rfl) (by decide) dX12_within_9 dX12_within_10 (by decide) (fun h2 => ?_) (fun h2 => ?_)
    · refine j_iconst C 0 dX12_within_17 (by decide) ?_
      exact hret _ _ _ _ dX12_within_18 (Or.inr (Or.inl ⟨⟨h1, h2⟩, rfl, rfl⟩))
    · refine j_iconst C 1 dX12_within_13 (by decide) ?_
      refine j_goto C 18 dX12_within_14 (by decide) ?_
      exact hret _ _ _ _ dX12_within_18 (Or.inr (Or.inr ⟨⟨h1, h2⟩, rfl, rfl⟩))
set_option maxHeartbeats 4000000 in
set_option maxRecDepth 100000 in
theorem k187_X12_isPart {l : Launch} {dC : Nat → ClassId} {dI : Nat → Nat → Nat} {ad : Nat → Nat} {cA : Nat → ClassId} {B : mm_M} (hB : MB B) (p0 : Int32) : Ci l 1 yX12_isPart wsX12_isPart dC dI ad cA [.int p0] B (fun r M' => ((p0.toInt < 0) ∧ 0 = r ∧ B = M') ∨ ((¬ p0.toInt < 0 ∧ 1 < p0.toInt) ∧ 0 = r ∧ B = M') ∨ ((¬ p0.toInt < 0 ∧ ¬ 1 < p0.toInt) ∧ 1 = r ∧ B = M')) := by
  refine ci_of (cc := cX12_isPart) (maxL := 1) (ty := .boolean) (lv := [(0, .int p0)]) (by decide) rfl (fun r M' hp => by rcases hp with ⟨-, rfl, rfl⟩ | ⟨-, rfl, rfl⟩ | ⟨-, rfl, rfl⟩ <;> rfl) (Nat.le_of_ble_eq_true rfl) rfl ?_
  intro p e s m args below meth c A Q C hret
  refine j_iload_n C 0 0 dX12_isPart_0 rfl rfl ?_
  refine z_i2l C p0.toInt64 rfl dX12_isPart_1 ?_
  refine j_lconst C 0 dX12_isPart_2 (by decide) ?_
  refine j_lconst C 1 dX12_isPart_3 (by decide) ?_
  refine j_callSi C (d := 0) (As := [.long p0.toInt64, .long 0, .long 1]) (st := []) (k186_X12_within hB p0) gX12_isPart_X12_within rfl hdX12_withins (by decide) (Nat.le_of_ble_eq_true rfl) dX12_isPart_4 rfl (fun r M' hp => ?_)
  rcases hp with ⟨h1, rfl, rfl⟩ | ⟨⟨h2, h3⟩, rfl, rfl⟩ | ⟨⟨h4, h5⟩, rfl, rfl⟩
  · exact hret _ _ _ _ dX12_isPart_7 (Or.inl ⟨h1, rfl, rfl⟩)
  · exact hret _ _ _ _ dX12_isPart_7 (Or.inr (Or.inl ⟨⟨h2, h3⟩, rfl, rfl⟩))
  · exact hret _ _ _ _ dX12_isPart_7 (Or.inr (Or.inr ⟨⟨h4, h5⟩, rfl, rfl⟩))
set_option maxHeartbeats 4000000 in
set_option maxRecDepth 100000 in
theorem k188_X12_within {l : Launch} {dC : Nat → ClassId} {dI : Nat → Nat → Nat} {ad : Nat → Nat} {cA : Nat → ClassId} {B : mm_M} (hB : MB B) (p0 : Int32) : Ci l 0 yX12_within wsX12_within dC dI ad cA [.long p0.toInt64, .long 0, .long 10] B (fun r M' => ((p0.toInt < 0) ∧ 0 = r ∧ B = M') ∨ ((¬ p0.toInt < 0 ∧ 10 < p0.toInt) ∧ 0 = r ∧ B = M') ∨ ((¬ p0.toInt < 0 ∧ ¬ 10 < p0.toInt) ∧ 1 = r ∧ B = M')) := by
  refine ci_of (cc := cX12_within) (maxL := 6) (ty := .boolean) (lv := [(0, .long p0.toInt64), (2, .long 0), (4, .long 10)]) (by decide) rfl (fun r M' hp => by rcases hp with ⟨-, rfl, rfl⟩ | ⟨-, rfl, rfl⟩ | ⟨-, rfl, rfl⟩ <;> rfl) (Nat.le_of_ble_eq_true rfl) rfl ?_
  intro p e s m args below meth c A Q C hret
  refine j_lload_n C 0 0 dX12_within_0 rfl rfl ?_
  refine j_lload_n C 1 2 dX12_within_1 rfl rfl ?_
  refine z_lcmp_lt C 17 p0.toInt 0 ((Int32.toInt_toInt64 p0).trans rfl) (by decide) dX12_within_2 dX12_within_3 (by decide) (fun h1 => ?_) (fun h1 => ?_)
  · refine j_iconst C 0 dX12_within_17 (by decide) ?_
    exact hret _ _ _ _ dX12_within_18 (Or.inl ⟨h1, rfl, rfl⟩)
  · refine j_lload_n C 0 0 dX12_within_6 rfl rfl ?_
    refine j_lload C 2 dX12_within_7 rfl ?_
    refine z_lcmp_gt C 17 p0.toInt 10 ((Int32.toInt_toInt64 p0).trans rfl) (by decide) dX12_within_9 dX12_within_10 (by decide) (fun h2 => ?_) (fun h2 => ?_)
    · refine j_iconst C 0 dX12_within_17 (by decide) ?_
      exact hret _ _ _ _ dX12_within_18 (Or.inr (Or.inl ⟨⟨h1, h2⟩, rfl, rfl⟩))
    · refine j_iconst C 1 dX12_within_13 (by decide) ?_
      refine j_goto C 18 dX12_within_14 (by decide) ?_
      exact hret _ _ _ _ dX12_within_18 (Or.inr (Or.inr ⟨⟨h1, h2⟩, rfl, rfl⟩))
set_option maxHeartbeats 4000000 in
set_option maxRecDepth 100000 in
theorem k189_X12_isLate {l : Launch} {dC : Nat → ClassId} {dI : Nat → Nat → Nat} {ad : Nat → Nat} {cA : Nat → ClassId} {B : mm_M} (hB : MB B) (p0 : Int32) : Ci l 1 yX12_isLate wsX12_isLate dC dI ad cA [.int p0] B (fun r M' => ((p0.toInt < 0) ∧ 0 = r ∧ B = M') ∨ ((¬ p0.toInt < 0 ∧ 10 < p0.toInt) ∧ 0 = r ∧ B = M') ∨ ((¬ p0.toInt < 0 ∧ ¬ 10 < p0.toInt) ∧ 1 = r ∧ B = M')) := by
  refine ci_of (cc := cX12_isLate) (maxL := 1) (ty := .boolean) (lv := [(0, .int p0)]) (by decide) rfl (fun r M' hp => by rcases hp with ⟨-, rfl, rfl⟩ | ⟨-, rfl, rfl⟩ | ⟨-, rfl, rfl⟩ <;> rfl) (Nat.le_of_ble_eq_true rfl) rfl ?_
  intro p e s m args below meth c A Q C hret
  refine j_iload_n C 0 0 dX12_isLate_0 rfl rfl ?_
  refine z_i2l C p0.toInt64 rfl dX12_isLate_1 ?_
  refine j_lconst C 0 dX12_isLate_2 (by decide) ?_
  refine j_ldc2 C 10 dX12_isLate_3 (by decide +kernel) ?_
  refine j_callSi C (d := 0) (As := [.long p0.toInt64, .long 0, .long 10]) (st := []) (k188_X12_within hB p0) gX12_isLate_X12_within rfl hdX12_withins (by decide) (Nat.le_of_ble_eq_true rfl) dX12_isLate_6 rfl (fun r M' hp => ?_)
  rcases hp with ⟨h1, rfl, rfl⟩ | ⟨⟨h2, h3⟩, rfl, rfl⟩ | ⟨⟨h4, h5⟩, rfl, rfl⟩
  · exact hret _ _ _ _ dX12_isLate_9 (Or.inl ⟨h1, rfl, rfl⟩)
  · exact hret _ _ _ _ dX12_isLate_9 (Or.inr (Or.inl ⟨⟨h2, h3⟩, rfl, rfl⟩))
  · exact hret _ _ _ _ dX12_isLate_9 (Or.inr (Or.inr ⟨⟨h4, h5⟩, rfl, rfl⟩))
set_option maxHeartbeats 4000000 in
set_option maxRecDepth 100000 in
theorem k190_X12_oddsAll {l : Launch} {dC : Nat → ClassId} {dI : Nat → Nat → Nat} {ad : Nat → Nat} {cA : Nat → ClassId} {B : mm_M} (hB : MB B) : Ci l 0 yX12_oddsAll wsX12_oddsAll dC dI ad cA [.ref (ad 98)] (wJ B 110 0 1) (fun r M' => 0 = r ∧ (wJ B 110 0 1) = M') := by
  refine ci_of (cc := cX12_oddsAll) (maxL := 3) (ty := .int) (lv := [(0, .ref (ad 98))]) (by decide) rfl (fun r M' hp => rfl) (Nat.le_of_ble_eq_true rfl) rfl ?_
  intro p e s m args below meth c A Q C hret
  refine j_iconst C 0 dX12_oddsAll_0 (by decide) ?_
  refine j_istore_n C 1 [(1, .int 0), (0, .ref (ad 98))] dX12_oddsAll_1 rfl (by decide) rfl ?_
  refine j_iconst C 0 dX12_oddsAll_2 (by decide) ?_
  refine j_istore_n C 2 [(2, .int 0), (1, .int 0), (0, .ref (ad 98))] dX12_oddsAll_3 rfl (by decide) rfl ?_
  refine j_iload_n C 0 2 dX12_oddsAll_4 rfl rfl ?_
  refine j_aload_n C 2 0 dX12_oddsAll_5 rfl rfl ?_
  refine j_getP C 11 99 fX12_oddsAll_13 (by decide) rfl (by decide) rfl (show B.2.2 98 1 = 99 from hB.2.2 98 1 (by decide)) dX12_oddsAll_6 ?_
  refine j_iconst C 1 dX12_oddsAll_9 (by decide) ?_
  refine x_iald C 1 3543 0 (by decide) rfl rfl rfl (by decide) (by decide) (show B.1 99 1 = 0 from hB.1 99 1 (by decide)) dX12_oddsAll_10 ?_
  refine j_icmp_ge_t C 32 dX12_oddsAll_11 (by decide) (by decide) ?_
  refine j_iload_n C 1 1 dX12_oddsAll_32 rfl rfl ?_
  exact hret _ _ _ _ dX12_oddsAll_33 ⟨rfl, rfl⟩
set_option maxHeartbeats 4000000 in
set_option maxRecDepth 100000 in
theorem k191_X12_laysDays {l : Launch} {dC : Nat → ClassId} {dI : Nat → Nat → Nat} {ad : Nat → Nat} {cA : Nat → ClassId} {B : mm_M} (hB : MB B) (p0 : Int32) : Cv l 1 yX12_laysDays wsX12_laysDays dC dI ad cA [.ref (ad 98), .int p0] B (fun M' => (wJ B 110 0 1) = M') := by
  refine cv_of (cc := cX12_laysDays) (maxL := 5) (lv := [(0, .ref (ad 98)), (1, .int p0)]) (by decide) rfl (Nat.le_of_ble_eq_true rfl) rfl ?_
  intro p e s m args below meth c A Q C hret
  refine j_aload_n C 0 0 dX12_laysDays_0 rfl rfl ?_
  refine j_callVv C (d := 0) (As := []) (st := []) 98 (by decide) rfl (by decide) rfl (k149_X12_beginsRows hB) gX12_laysDays_X12_beginsRows rfl hdX12_beginsRows (by decide) (Nat.le_of_ble_eq_true rfl) dX12_laysDays_1 rfl (fun M' hp => ?_)
  obtain rfl := hp
  refine j_aload_n C 0 0 dX12_laysDays_4 rfl rfl ?_
  refine j_lconst C 0 dX12_laysDays_5 (by decide) ?_
  refine j_putJ C 11 qX12_laysDays_379 (by decide) rfl (by decide) rfl dX12_laysDays_6 ?_
  refine z_noJ (show B.2.1 98 26 = 0 from hB.2.1 98 26 (by decide)) ?_
  refine j_iconst C 0 dX12_laysDays_9 (by decide) ?_
  refine j_istore_n C 2 [(2, .int 0), (0, .ref (ad 98)), (1, .int p0)] dX12_laysDays_10 rfl (by decide) rfl ?_
  refine j_iload_n C 0 2 dX12_laysDays_11 rfl rfl ?_
  refine j_bipush C 6 dX12_laysDays_12 (by decide) ?_
  refine j_icmp_ge_f C 30 dX12_laysDays_14 (by decide) (by decide) ?_
  refine j_aload_n C 1 0 dX12_laysDays_17 rfl rfl ?_
  refine j_getP C 11 112 fX12_laysDays_58 (by decide) rfl (by decide) rfl (show B.2.2 98 25 = 112 from hB.2.2 98 25 (by decide)) dX12_laysDays_18 ?_
  refine j_iload_n C 0 2 dX12_laysDays_21 rfl rfl ?_
  refine j_lconst C 0 dX12_laysDays_22 (by decide) ?_
  refine x_last C 0 6 (by decide) rfl rfl rfl (by decide) (by decide) dX12_laysDays_23 ?_
  refine z_noJ (show B.2.1 112 0 = 0 from hB.2.1 112 0 (by decide)) ?_
  refine j_iinc C 0 1 [(2, .int 1), (0, .ref (ad 98)), (1, .int p0)] dX12_laysDays_24 rfl (by decide) (by decide) rfl ?_
  refine j_goto C 11 dX12_laysDays_27 (by decide) ?_
  refine j_iload_n C 0 2 dX12_laysDays_11 rfl rfl ?_
  refine j_bipush C 6 dX12_laysDays_12 (by decide) ?_
  refine j_icmp_ge_f C 30 dX12_laysDays_14 (by decide) (by decide) ?_
  refine j_aload_n C 1 0 dX12_laysDays_17 rfl rfl ?_
  refine j_getP C 11 112 fX12_laysDays_58 (by decide) rfl (by decide) rfl (show B.2.2 98 25 = 112 from hB.2.2 98 25 (by decide)) dX12_laysDays_18 ?_
  refine j_iload_n C 0 2 dX12_laysDays_21 rfl rfl ?_
  refine j_lconst C 0 dX12_laysDays_22 (by decide) ?_
  refine x_last C 1 6 (by decide) rfl rfl rfl (by decide) (by decide) dX12_laysDays_23 ?_
  refine z_noJ (show B.2.1 112 1 = 0 from hB.2.1 112 1 (by decide)) ?_
  refine j_iinc C 0 2 [(2, .int 2), (0, .ref (ad 98)), (1, .int p0)] dX12_laysDays_24 rfl (by decide) (by decide) rfl ?_
  refine j_goto C 11 dX12_laysDays_27 (by decide) ?_
  refine j_iload_n C 0 2 dX12_laysDays_11 rfl rfl ?_
  refine j_bipush C 6 dX12_laysDays_12 (by decide) ?_
  refine j_icmp_ge_f C 30 dX12_laysDays_14 (by decide) (by decide) ?_
  refine j_aload_n C 1 0 dX12_laysDays_17 rfl rfl ?_
  refine j_getP C 11 112 fX12_laysDays_58 (by decide) rfl (by decide) rfl (show B.2.2 98 25 = 112 from hB.2.2 98 25 (by decide)) dX12_laysDays_18 ?_
  refine j_iload_n C 0 2 dX12_laysDays_21 rfl rfl ?_
  refine j_lconst C 0 dX12_laysDays_22 (by decide) ?_
  refine x_last C 2 6 (by decide) rfl rfl rfl (by decide) (by decide) dX12_laysDays_23 ?_
  refine z_noJ (show B.2.1 112 2 = 0 from hB.2.1 112 2 (by decide)) ?_
  refine j_iinc C 0 3 [(2, .int 3), (0, .ref (ad 98)), (1, .int p0)] dX12_laysDays_24 rfl (by decide) (by decide) rfl ?_
  refine j_goto C 11 dX12_laysDays_27 (by decide) ?_
  refine j_iload_n C 0 2 dX12_laysDays_11 rfl rfl ?_
  refine j_bipush C 6 dX12_laysDays_12 (by decide) ?_
  refine j_icmp_ge_f C 30 dX12_laysDays_14 (by decide) (by decide) ?_
  refine j_aload_n C 1 0 dX12_laysDays_17 rfl rfl ?_
  refine j_getP C 11 112 fX12_laysDays_58 (by decide) rfl (by decide) rfl (show B.2.2 98 25 = 112 from hB.2.2 98 25 (by decide)) dX12_laysDays_18 ?_
  refine j_iload_n C 0 2 dX12_laysDays_21 rfl rfl ?_
  refine j_lconst C 0 dX12_laysDays_22 (by decide) ?_
  refine x_last C 3 6 (by decide) rfl rfl rfl (by decide) (by decide) dX12_laysDays_23 ?_
  refine z_noJ (show B.2.1 112 3 = 0 from hB.2.1 112 3 (by decide)) ?_
  refine j_iinc C 0 4 [(2, .int 4), (0, .ref (ad 98)), (1, .int p0)] dX12_laysDays_24 rfl (by decide) (by decide) rfl ?_
  refine j_goto C 11 dX12_laysDays_27 (by decide) ?_
  refine j_iload_n C 0 2 dX12_laysDays_11 rfl rfl ?_
  refine j_bipush C 6 dX12_laysDays_12 (by decide) ?_
  refine j_icmp_ge_f C 30 dX12_laysDays_14 (by decide) (by decide) ?_
  refine j_aload_n C 1 0 dX12_laysDays_17 rfl rfl ?_
  refine j_getP C 11 112 fX12_laysDays_58 (by decide) rfl (by decide) rfl (show B.2.2 98 25 = 112 from hB.2.2 98 25 (by decide)) dX12_laysDays_18 ?_
  refine j_iload_n C 0 2 dX12_laysDays_21 rfl rfl ?_
  refine j_lconst C 0 dX12_laysDays_22 (by decide) ?_
  refine x_last C 4 6 (by decide) rfl rfl rfl (by decide) (by decide) dX12_laysDays_23 ?_
  refine z_noJ (show B.2.1 112 4 = 0 from hB.2.1 112 4 (by decide)) ?_
  refine j_iinc C 0 5 [(2, .int 5), (0, .ref (ad 98)), (1, .int p0)] dX12_laysDays_24 rfl (by decide) (by decide) rfl ?_
  refine j_goto C 11 dX12_laysDays_27 (by decide) ?_
  refine j_iload_n C 0 2 dX12_laysDays_11 rfl rfl ?_
  refine j_bipush C 6 dX12_laysDays_12 (by decide) ?_
  refine j_icmp_ge_f C 30 dX12_laysDays_14 (by decide) (by decide) ?_
  refine j_aload_n C 1 0 dX12_laysDays_17 rfl rfl ?_
  refine j_getP C 11 112 fX12_laysDays_58 (by decide) rfl (by decide) rfl (show B.2.2 98 25 = 112 from hB.2.2 98 25 (by decide)) dX12_laysDays_18 ?_
  refine j_iload_n C 0 2 dX12_laysDays_21 rfl rfl ?_
  refine j_lconst C 0 dX12_laysDays_22 (by decide) ?_
  refine x_last C 5 6 (by decide) rfl rfl rfl (by decide) (by decide) dX12_laysDays_23 ?_
  refine z_noJ (show B.2.1 112 5 = 0 from hB.2.1 112 5 (by decide)) ?_
  refine j_iinc C 0 6 [(2, .int 6), (0, .ref (ad 98)), (1, .int p0)] dX12_laysDays_24 rfl (by decide) (by decide) rfl ?_
  refine j_goto C 11 dX12_laysDays_27 (by decide) ?_
  refine j_iload_n C 0 2 dX12_laysDays_11 rfl rfl ?_
  refine j_bipush C 6 dX12_laysDays_12 (by decide) ?_
  refine j_icmp_ge_t C 30 dX12_laysDays_14 (by decide) (by decide) ?_
  refine j_aload_n C 1 0 dX12_laysDays_30 rfl rfl ?_
  refine j_callVi C (d := 0) (As := []) (st := []) 98 (by decide) rfl (by decide) rfl (k190_X12_oddsAll hB) gX12_laysDays_X12_oddsAll rfl hdX12_oddsAll (by decide) (Nat.le_of_ble_eq_true rfl) dX12_laysDays_31 rfl (fun r M' hp => ?_)
  obtain ⟨rfl, rfl⟩ := hp
  refine j_istore_n C 2 [(2, .int 0), (0, .ref (ad 98)), (1, .int p0)] dX12_laysDays_34 rfl (by decide) rfl ?_
  refine j_iconst C 0 dX12_laysDays_35 (by decide) ?_
  refine j_istore_n C 3 [(3, .int 0), (2, .int 0), (0, .ref (ad 98)), (1, .int p0)] dX12_laysDays_36 rfl (by decide) rfl ?_
  refine j_iload_n C 0 3 dX12_laysDays_37 rfl rfl ?_
  refine j_iload_n C 3 1 dX12_laysDays_38 rfl rfl ?_
  refine z_icmp_ge C 183 0 p0.toInt (by decide) rfl dX12_laysDays_39 (by decide) (fun h1 => ?_) (fun h1 => ?_)
  · exact hret _ _ _ dX12_laysDays_183 rfl
  · refine j_iload_n C 1 2 dX12_laysDays_42 rfl rfl ?_
    refine j_if_le_t C 183 dX12_laysDays_43 (by decide) (by decide) ?_
    exact hret _ _ _ dX12_laysDays_183 rfl
set_option maxHeartbeats 4000000 in
set_option maxRecDepth 100000 in
theorem k192_X12_sumRows {l : Launch} {dC : Nat → ClassId} {dI : Nat → Nat → Nat} {ad : Nat → Nat} {cA : Nat → ClassId} {B : mm_M} (hB : MB B) : Cj l 0 yX12_sumRows wsX12_sumRows dC dI ad cA [.ref (ad 98)] (wJ B 110 0 1) (fun r M' => 1 = r ∧ (wJ B 110 0 1) = M') := by
  refine cj_of (cc := cX12_sumRows) (maxL := 4) (lv := [(0, .ref (ad 98))]) (by decide) rfl (Nat.le_of_ble_eq_true rfl) rfl ?_
  intro p e s m args below meth c A Q C hret
  refine j_lconst C 0 dX12_sumRows_0 (by decide) ?_
  refine j_lstore_n C 1 [(1, .long 0), (0, .ref (ad 98))] dX12_sumRows_1 rfl (by decide) rfl ?_
  refine j_iconst C 0 dX12_sumRows_2 (by decide) ?_
  refine j_istore_n C 3 [(3, .int 0), (1, .long 0), (0, .ref (ad 98))] dX12_sumRows_3 rfl (by decide) rfl ?_
  refine j_iload_n C 0 3 dX12_sumRows_4 rfl rfl ?_
  refine j_sipush C 256 dX12_sumRows_5 (by decide) ?_
  refine j_icmp_ge_f C 26 dX12_sumRows_8 (by decide) (by decide) ?_
  refine j_lload_n C 1 1 dX12_sumRows_11 rfl rfl ?_
  refine j_aload_n C 2 0 dX12_sumRows_12 rfl rfl ?_
  refine j_getP C 11 110 fX12_sumRows_51 (by decide) rfl (by decide) rfl (show B.2.2 98 23 = 110 from hB.2.2 98 23 (by decide)) dX12_sumRows_13 ?_
  refine j_iload_n C 0 3 dX12_sumRows_16 rfl rfl ?_
  refine x_lald C 0 256 1 (by decide) rfl rfl rfl (by decide) (by decide) rfl dX12_sumRows_17 ?_
  refine z_ladd C 1 (by decide) dX12_sumRows_18 ?_
  refine j_lstore_n C 1 [(1, .long 1), (3, .int 0), (0, .ref (ad 98))] dX12_sumRows_19 rfl (by decide) rfl ?_
  refine j_iinc C 1 1 [(3, .int 1), (1, .long 1), (0, .ref (ad 98))] dX12_sumRows_20 rfl (by decide) (by decide) rfl ?_
  refine j_goto C 4 dX12_sumRows_23 (by decide) ?_
  refine j_lv [2, 1, 0] rfl ?_
  have L : ∀ (n i : Nat), 1 ≤ i → i + n = 256 → jj p l e (cn_R 0) s m args below meth c 0 0 Q 4 dC dI ad cA A (wJ B 110 0 1) 4 [(0, .ref (ad 98)), (1, .long 1), (3, .int (nI i))] [] := by
    intro n
    induction n with
    | zero =>
      intro i h1 h2
      obtain rfl : i = 256 := by omega
      refine j_iload_n C 2 3 dX12_sumRows_4 rfl rfl ?_
      refine j_sipush C 256 dX12_sumRows_5 (by decide) ?_
      refine j_icmp_ge_t C 26 dX12_sumRows_8 (by decide) (by decide) ?_
      refine j_lload_n C 1 1 dX12_sumRows_26 rfl rfl ?_
      exact hret _ _ _ _ dX12_sumRows_27 ⟨rfl, rfl⟩
    | succ n ih =>
      intro i h1 h2
      refine j_iload_n C 2 3 dX12_sumRows_4 rfl rfl ?_
      refine j_sipush C 256 dX12_sumRows_5 (by decide) ?_
      refine z_icmp_ge C 26 (i : Int) 256 (nI_toInt (n := i) (by omega)) (by decide) dX12_sumRows_8 (by decide) (fun h1 => ?_) (fun h1 => ?_)
      · exfalso; omega
      · refine j_lload_n C 1 1 dX12_sumRows_11 rfl rfl ?_
        refine j_aload_n C 0 0 dX12_sumRows_12 rfl rfl ?_
        refine j_getP C 11 110 fX12_sumRows_51 (by decide) rfl (by decide) rfl (show B.2.2 98 23 = 110 from hB.2.2 98 23 (by decide)) dX12_sumRows_13 ?_
        refine j_iload_n C 2 3 dX12_sumRows_16 rfl rfl ?_
        refine x_lald C i 256 0 (by decide) rfl rfl rfl (by omega) (by decide) ((u2_b (i := 110) (k := 0) (a := 110) (b := i) _ (1 : Int64) (by omega)).trans (show B.2.1 110 i = 0 from hB.2.1 110 i (by decide))) dX12_sumRows_17 ?_
        refine z_ladd C 1 (by decide) dX12_sumRows_18 ?_
        refine j_lstore_n C 1 [(1, .long 1), (0, .ref (ad 98)), (3, .int (nI i))] dX12_sumRows_19 rfl (by decide) rfl ?_
        refine j_iinc C 2 (nI (i + 1)) [(3, .int (nI (i + 1))), (1, .long 1), (0, .ref (ad 98))] dX12_sumRows_20 rfl (nI_1 i) (by decide) rfl ?_
        refine j_goto C 4 dX12_sumRows_23 (by decide) ?_
        refine j_lv [2, 1, 0] rfl ?_
        exact ih (i + 1) (by omega) (by omega)
  exact L (256 - 1) 1 (by omega) (by omega)
set_option maxHeartbeats 4000000 in
set_option maxRecDepth 100000 in
theorem k193_X12_wholeOf {l : Launch} {dC : Nat → ClassId} {dI : Nat → Nat → Nat} {ad : Nat → Nat} {cA : Nat → ClassId} {B : mm_M} (hB : MB B) (p0 : Int32) : Cj l 1 yX12_wholeOf wsX12_wholeOf dC dI ad cA [.ref (ad 98), .int p0] (wJ B 110 0 1) (fun r M' => 1 = r ∧ (wJ B 110 0 1) = M') := by
  refine cj_of (cc := cX12_wholeOf) (maxL := 2) (lv := [(0, .ref (ad 98)), (1, .int p0)]) (by decide) rfl (Nat.le_of_ble_eq_true rfl) rfl ?_
  intro p e s m args below meth c A Q C hret
  refine j_aload_n C 0 0 dX12_wholeOf_0 rfl rfl ?_
  refine j_callVi C (d := 0) (As := []) (st := []) 98 (by decide) rfl (by decide) rfl (k190_X12_oddsAll hB) gX12_wholeOf_X12_oddsAll rfl hdX12_oddsAll (by decide) (Nat.le_of_ble_eq_true rfl) dX12_wholeOf_1 rfl (fun r M' hp => ?_)
  obtain ⟨rfl, rfl⟩ := hp
  refine j_if_ne_f C 11 dX12_wholeOf_4 (by decide) (by decide) ?_
  refine j_lconst C 1 dX12_wholeOf_7 (by decide) ?_
  refine j_goto C 20 dX12_wholeOf_8 (by decide) ?_
  exact hret _ _ _ _ dX12_wholeOf_20 ⟨rfl, rfl⟩
set_option maxHeartbeats 4000000 in
set_option maxRecDepth 100000 in
theorem k194_X12_common {l : Launch} {dC : Nat → ClassId} {dI : Nat → Nat → Nat} {ad : Nat → Nat} {cA : Nat → ClassId} {B : mm_M} (hB : MB B) : Cj l 0 yX12_common wsX12_common dC dI ad cA [.long 1, .long 0] (wJ B 110 0 1) (fun r M' => 1 = r ∧ (wJ B 110 0 1) = M') := by
  refine cj_of (cc := cX12_common) (maxL := 4) (lv := [(0, .long 1), (2, .long 0)]) (by decide) rfl (Nat.le_of_ble_eq_true rfl) rfl ?_
  intro p e s m args below meth c A Q C hret
  refine j_lload_n C 1 2 dX12_common_0 rfl rfl ?_
  refine j_lconst C 0 dX12_common_1 (by decide) ?_
  refine z_lcmp C 0 (by decide) dX12_common_2 ?_
  refine j_if_ne_f C 10 dX12_common_3 (by decide) (by decide) ?_
  refine j_lload_n C 0 0 dX12_common_6 rfl rfl ?_
  refine j_goto C 17 dX12_common_7 (by decide) ?_
  exact hret _ _ _ _ dX12_common_17 ⟨rfl, rfl⟩
set_option maxHeartbeats 4000000 in
set_option maxRecDepth 100000 in
theorem k195_X12_common {l : Launch} {dC : Nat → ClassId} {dI : Nat → Nat → Nat} {ad : Nat → Nat} {cA : Nat → ClassId} {B : mm_M} (hB : MB B) : Cj l 1 yX12_common wsX12_common dC dI ad cA [.long 0, .long 1] (wJ B 110 0 1) (fun r M' => 1 = r ∧ (wJ B 110 0 1) = M') := by
  refine cj_of (cc := cX12_common) (maxL := 4) (lv := [(0, .long 0), (2, .long 1)]) (by decide) rfl (Nat.le_of_ble_eq_true rfl) rfl ?_
  intro p e s m args below meth c A Q C hret
  refine j_lload_n C 1 2 dX12_common_0 rfl rfl ?_
  refine j_lconst C 0 dX12_common_1 (by decide) ?_
  refine z_lcmp C 1 (by decide) dX12_common_2 ?_
  refine j_if_ne_t C 10 dX12_common_3 (by decide) (by decide) ?_
  refine j_lload_n C 1 2 dX12_common_10 rfl rfl ?_
  refine j_lload_n C 0 0 dX12_common_11 rfl rfl ?_
  refine j_lload_n C 1 2 dX12_common_12 rfl rfl ?_
  refine z_lrem C 0 (by decide) (by decide) dX12_common_13 ?_
  refine j_callSj C (d := 0) (As := [.long 1, .long 0]) (st := []) (k194_X12_common hB) gX12_common_X12_common rfl hdX12_commons (by decide) (Nat.le_of_ble_eq_true rfl) dX12_common_14 rfl (fun r M' hp => ?_)
  obtain ⟨rfl, rfl⟩ := hp
  exact hret _ _ _ _ dX12_common_17 ⟨rfl, rfl⟩
set_option maxHeartbeats 4000000 in
set_option maxRecDepth 100000 in
theorem k196_X12_part {l : Launch} {dC : Nat → ClassId} {dI : Nat → Nat → Nat} {ad : Nat → Nat} {cA : Nat → ClassId} {B : mm_M} (hB : MB B) (p0 : Int32) : Cj l 2 yX12_part wsX12_part dC dI ad cA [.long 0, .long 1, .int p0] (wJ B 110 0 1) (fun r M' => ((¬ p0.toInt = 0) ∧ 1 = r ∧ (wJ B 110 0 1) = M') ∨ ((p0.toInt = 0 ∧ p0 = 0) ∧ 0 = r ∧ (wJ B 110 0 1) = M')) := by
  refine cj_of (cc := cX12_part) (maxL := 5) (lv := [(0, .long 0), (2, .long 1), (4, .int p0)]) (by decide) rfl (Nat.le_of_ble_eq_true rfl) rfl ?_
  intro p e s m args below meth c A Q C hret
  refine j_iload C 2 dX12_part_0 rfl ?_
  refine z_if_ne C 9 p0.toInt rfl dX12_part_2 (by decide) (fun h1 => ?_) (fun h1 => ?_)
  · refine j_lload_n C 1 2 dX12_part_9 rfl rfl ?_
    refine j_lload_n C 0 0 dX12_part_10 rfl rfl ?_
    refine j_lload_n C 1 2 dX12_part_11 rfl rfl ?_
    refine j_callSj C (d := 1) (As := [.long 0, .long 1]) (st := [.long 1]) (k195_X12_common hB) gX12_part_X12_common rfl hdX12_commons (by decide) (Nat.le_of_ble_eq_true rfl) dX12_part_12 rfl (fun r M' hp => ?_)
    obtain ⟨rfl, rfl⟩ := hp
    refine z_ldiv C 1 (by decide) (by decide) dX12_part_15 ?_
    exact hret _ _ _ _ dX12_part_16 (Or.inl ⟨h1, rfl, rfl⟩)
  · obtain rfl : p0 = 0 := Int32.toInt_inj.mp (show p0.toInt = (0 : Int32).toInt by rw [show (0 : Int32).toInt = 0 from rfl]; omega)
    show jj _ _ _ _ _ _ _ _ _ _ _ _ _ _ _ _ _ _ _ (wJ B 110 0 1) 5 [(0, .long 0), (2, .long 1), (4, .int 0)] []
    refine j_lload_n C 0 0 dX12_part_5 rfl rfl ?_
    refine j_goto C 10 dX12_part_6 (by decide) ?_
    refine j_lload_n C 0 0 dX12_part_10 rfl rfl ?_
    refine j_lload_n C 1 2 dX12_part_11 rfl rfl ?_
    refine j_callSj C (d := 1) (As := [.long 0, .long 1]) (st := [.long 0]) (k195_X12_common hB) gX12_part_X12_common rfl hdX12_commons (by decide) (Nat.le_of_ble_eq_true rfl) dX12_part_12 rfl (fun r M' hp => ?_)
    obtain ⟨rfl, rfl⟩ := hp
    refine z_ldiv C 0 (by decide) (by decide) dX12_part_15 ?_
    exact hret _ _ _ _ dX12_part_16 (Or.inr ⟨⟨h1, rfl⟩, rfl, rfl⟩)
set_option maxHeartbeats 4000000 in
set_option maxRecDepth 100000 in
theorem om_open {l : Launch} {dC : Nat → ClassId} {dI : Nat → Nat → Nat} {ad : Nat → Nat} {cA : Nat → ClassId} {B : mm_M} (hB : MB B) (p0 : Int32) (p1 : Int32) : Cj l 4 yX12_open wsX12_open dC dI ad cA [.ref (ad 98), .int p0, .int p1] B (fun r _ => r = fo_open p0 p1) := by
  refine cj_of (cc := cX12_open) (maxL := 3) (lv := [(0, .ref (ad 98)), (1, .int p0), (2, .int p1)]) (by decide) rfl (Nat.le_of_ble_eq_true rfl) rfl ?_
  intro p e s m args below meth c A Q C hret
  refine j_aload_n C 0 0 dX12_open_0 rfl rfl ?_
  refine j_iconst C 0 dX12_open_1 (by decide) ?_
  refine j_putI C 11 qX12_open_1 rfl rfl (by decide) rfl (by decide) rfl dX12_open_2 ?_
  refine z_noI (show B.1 98 0 = 0 from hB.1 98 0 (by decide)) ?_
  refine j_iload_n C 2 2 dX12_open_5 rfl rfl ?_
  refine j_callSi C (d := 1) (As := [.int p1]) (st := []) (k187_X12_isPart hB p1) gX12_open_X12_isPart rfl hdX12_isParts (by decide) (Nat.le_of_ble_eq_true rfl) dX12_open_6 rfl (fun r M' hp => ?_)
  rcases hp with ⟨h1, rfl, rfl⟩ | ⟨⟨h2, h3⟩, rfl, rfl⟩ | ⟨⟨h4, h5⟩, rfl, rfl⟩
  · refine j_if_ne_f C 16 dX12_open_9 (by decide) (by decide) ?_
    refine j_ldc2 C (-2) dX12_open_12 (by decide +kernel) ?_
    exact hret _ _ _ _ dX12_open_15 (by first | rfl | (unfold fo_open; rw [if_pos (by rw [nI_toInt (by omega)]; omega), nI_clamp (by omega)]; exact hrel) | (unfold fo_open; (repeat' split) <;> first | rfl | (exfalso; omega) | (exfalso; simp_all; done)))
  · refine j_if_ne_f C 16 dX12_open_9 (by decide) (by decide) ?_
    refine j_ldc2 C (-2) dX12_open_12 (by decide +kernel) ?_
    exact hret _ _ _ _ dX12_open_15 (by first | rfl | (unfold fo_open; rw [if_pos (by rw [nI_toInt (by omega)]; omega), nI_clamp (by omega)]; exact hrel) | (unfold fo_open; (repeat' split) <;> first | rfl | (exfalso; omega) | (exfalso; simp_all; done)))
  · refine j_if_ne_t C 16 dX12_open_9 (by decide) (by decide) ?_
    refine j_iload_n C 1 1 dX12_open_16 rfl rfl ?_
    refine j_callSi C (d := 1) (As := [.int p0]) (st := []) (k189_X12_isLate hB p0) gX12_open_X12_isLate rfl hdX12_isLates (by decide) (Nat.le_of_ble_eq_true rfl) dX12_open_17 rfl (fun r M' hp => ?_)
    rcases hp with ⟨h6, rfl, rfl⟩ | ⟨⟨h7, h8⟩, rfl, rfl⟩ | ⟨⟨h9, h10⟩, rfl, rfl⟩
    · refine j_if_ne_f C 27 dX12_open_20 (by decide) (by decide) ?_
      refine j_ldc2 C (-3) dX12_open_23 (by decide +kernel) ?_
      exact hret _ _ _ _ dX12_open_26 (by first | rfl | (unfold fo_open; rw [if_pos (by rw [nI_toInt (by omega)]; omega), nI_clamp (by omega)]; exact hrel) | (unfold fo_open; (repeat' split) <;> first | rfl | (exfalso; omega) | (exfalso; simp_all; done)))
    · refine j_if_ne_f C 27 dX12_open_20 (by decide) (by decide) ?_
      refine j_ldc2 C (-3) dX12_open_23 (by decide +kernel) ?_
      exact hret _ _ _ _ dX12_open_26 (by first | rfl | (unfold fo_open; rw [if_pos (by rw [nI_toInt (by omega)]; omega), nI_clamp (by omega)]; exact hrel) | (unfold fo_open; (repeat' split) <;> first | rfl | (exfalso; omega) | (exfalso; simp_all; done)))
    · refine j_if_ne_t C 27 dX12_open_20 (by decide) (by decide) ?_
      refine j_aload_n C 0 0 dX12_open_27 rfl rfl ?_
      refine j_callVv C (d := 1) (As := []) (st := []) 98 (by decide) rfl (by decide) rfl (k115_X12_laysBuys hB) gX12_open_X12_laysBuys rfl hdX12_laysBuys (by decide) (Nat.le_of_ble_eq_true rfl) dX12_open_28 rfl (fun M' hp => ?_)
      obtain rfl := hp
      refine j_aload_n C 0 0 dX12_open_31 rfl rfl ?_
      refine j_iload_n C 1 1 dX12_open_32 rfl rfl ?_
      refine j_callVv C (d := 1) (As := [.int p0]) (st := []) 98 (by decide) rfl (by decide) rfl (k191_X12_laysDays hB p0) gX12_open_X12_laysDays rfl hdX12_laysDays (by decide) (Nat.le_of_ble_eq_true rfl) dX12_open_33 rfl (fun M' hp => ?_)
      obtain rfl := hp
      refine j_aload_n C 0 0 dX12_open_36 rfl rfl ?_
      refine j_callVj C (d := 0) (As := []) (st := []) 98 (by decide) rfl (by decide) rfl (k192_X12_sumRows hB) gX12_open_X12_sumRows rfl hdX12_sumRows (by decide) (Nat.le_of_ble_eq_true rfl) dX12_open_37 rfl (fun r M' hp => ?_)
      obtain ⟨rfl, rfl⟩ := hp
      refine j_aload_n C 0 0 dX12_open_40 rfl rfl ?_
      refine j_callVj C (d := 3) (As := []) (st := [.long 1]) 98 (by decide) rfl (by decide) rfl (k154_X12_shutRows hB) gX12_open_X12_shutRows rfl hdX12_shutRows (by decide) (Nat.le_of_ble_eq_true rfl) dX12_open_41 rfl (fun r M' hp => ?_)
      obtain ⟨rfl, rfl⟩ := hp
      refine z_lsub C 0 (by decide) dX12_open_44 ?_
      refine j_aload_n C 0 0 dX12_open_45 rfl rfl ?_
      refine j_iload_n C 1 1 dX12_open_46 rfl rfl ?_
      refine j_callVj C (d := 1) (As := [.int p0]) (st := [.long 0]) 98 (by decide) rfl (by decide) rfl (k193_X12_wholeOf hB p0) gX12_open_X12_wholeOf rfl hdX12_wholeOf (by decide) (Nat.le_of_ble_eq_true rfl) dX12_open_47 rfl (fun r M' hp => ?_)
      obtain ⟨rfl, rfl⟩ := hp
      refine j_iload_n C 2 2 dX12_open_50 rfl rfl ?_
      refine j_callSj C (d := 2) (As := [.long 0, .long 1, .int p1]) (st := []) (k196_X12_part hB p1) gX12_open_X12_part rfl hdX12_parts (by decide) (Nat.le_of_ble_eq_true rfl) dX12_open_51 rfl (fun r M' hp => ?_)
      rcases hp with ⟨h11, rfl, rfl⟩ | ⟨⟨h12, h13⟩, rfl, rfl⟩
      · obtain rfl : p1 = 1 := Int32.toInt_inj.mp (show p1.toInt = (1 : Int32).toInt by rw [show (1 : Int32).toInt = 1 from rfl]; omega)
        show jj _ _ _ _ _ _ _ _ _ _ _ _ _ _ _ _ _ _ _ (wJ B 110 0 1) 54 [(0, .ref (ad 98)), (1, .int p0), (2, .int 1)] [.long 1]
        exact hret _ _ _ _ dX12_open_54 (by first | rfl | (unfold fo_open; rw [if_pos (by rw [nI_toInt (by omega)]; omega), nI_clamp (by omega)]; exact hrel) | (unfold fo_open; (repeat' split) <;> first | rfl | (exfalso; omega) | (exfalso; simp_all; done)))
      · obtain rfl : p1 = 0 := Int32.toInt_inj.mp (show p1.toInt = (0 : Int32).toInt by rw [show (0 : Int32).toInt = 0 from rfl]; omega)
        show jj _ _ _ _ _ _ _ _ _ _ _ _ _ _ _ _ _ _ _ (wJ B 110 0 1) 54 [(0, .ref (ad 98)), (1, .int p0), (2, .int 0)] [.long 0]
        exact hret _ _ _ _ dX12_open_54 (by first | rfl | (unfold fo_open; rw [if_pos (by rw [nI_toInt (by omega)]; omega), nI_clamp (by omega)]; exact hrel) | (unfold fo_open; (repeat' split) <;> first | rfl | (exfalso; omega) | (exfalso; simp_all; done)))
set_option maxHeartbeats 4000000 in
set_option maxRecDepth 100000 in
theorem k201_X12_within {l : Launch} {dC : Nat → ClassId} {dI : Nat → Nat → Nat} {ad : Nat → Nat} {cA : Nat → ClassId} {B : mm_M} (hB : MB B) (p0 : Int32) : Ci l 0 yX12_within wsX12_within dC dI ad cA [.long p0.toInt64, .long 0, .long 100] B (fun r M' => ((p0.toInt < 0) ∧ 0 = r ∧ B = M') ∨ ((¬ p0.toInt < 0 ∧ 100 < p0.toInt) ∧ 0 = r ∧ B = M') ∨ ((¬ p0.toInt < 0 ∧ ¬ 100 < p0.toInt) ∧ 1 = r ∧ B = M')) := by
  refine ci_of (cc := cX12_within) (maxL := 6) (ty := .boolean) (lv := [(0, .long p0.toInt64), (2, .long 0), (4, .long 100)]) (by decide) rfl (fun r M' hp => by rcases hp with ⟨-, rfl, rfl⟩ | ⟨-, rfl, rfl⟩ | ⟨-, rfl, rfl⟩ <;> rfl) (Nat.le_of_ble_eq_true rfl) rfl ?_
  intro p e s m args below meth c A Q C hret
  refine j_lload_n C 0 0 dX12_within_0 rfl rfl ?_
  refine j_lload_n C 1 2 dX12_within_1 rfl rfl ?_
  refine z_lcmp_lt C 17 p0.toInt 0 ((Int32.toInt_toInt64 p0).trans rfl) (by decide) dX12_within_2 dX12_within_3 (by decide) (fun h1 => ?_) (fun h1 => ?_)
  · refine j_iconst C 0 dX12_within_17 (by decide) ?_
    exact hret _ _ _ _ dX12_within_18 (Or.inl ⟨h1, rfl, rfl⟩)
  · refine j_lload_n C 0 0 dX12_within_6 rfl rfl ?_
    refine j_lload C 2 dX12_within_7 rfl ?_
    refine z_lcmp_gt C 17 p0.toInt 100 ((Int32.toInt_toInt64 p0).trans rfl) (by decide) dX12_within_9 dX12_within_10 (by decide) (fun h2 => ?_) (fun h2 => ?_)
    · refine j_iconst C 0 dX12_within_17 (by decide) ?_
      exact hret _ _ _ _ dX12_within_18 (Or.inr (Or.inl ⟨⟨h1, h2⟩, rfl, rfl⟩))
    · refine j_iconst C 1 dX12_within_13 (by decide) ?_
      refine j_goto C 18 dX12_within_14 (by decide) ?_
      exact hret _ _ _ _ dX12_within_18 (Or.inr (Or.inr ⟨⟨h1, h2⟩, rfl, rfl⟩))
set_option maxHeartbeats 4000000 in
set_option maxRecDepth 100000 in
theorem k202_X12_laysDays {l : Launch} {dC : Nat → ClassId} {dI : Nat → Nat → Nat} {ad : Nat → Nat} {cA : Nat → ClassId} {B : mm_M} (hB : MB B) : Cv l 1 yX12_laysDays wsX12_laysDays dC dI ad cA [.ref (ad 98), .int 0] B (fun M' => (wJ B 110 0 1) = M') := by
  refine cv_of (cc := cX12_laysDays) (maxL := 5) (lv := [(0, .ref (ad 98)), (1, .int 0)]) (by decide) rfl (Nat.le_of_ble_eq_true rfl) rfl ?_
  intro p e s m args below meth c A Q C hret
  refine j_aload_n C 0 0 dX12_laysDays_0 rfl rfl ?_
  refine j_callVv C (d := 0) (As := []) (st := []) 98 (by decide) rfl (by decide) rfl (k149_X12_beginsRows hB) gX12_laysDays_X12_beginsRows rfl hdX12_beginsRows (by decide) (Nat.le_of_ble_eq_true rfl) dX12_laysDays_1 rfl (fun M' hp => ?_)
  obtain rfl := hp
  refine j_aload_n C 0 0 dX12_laysDays_4 rfl rfl ?_
  refine j_lconst C 0 dX12_laysDays_5 (by decide) ?_
  refine j_putJ C 11 qX12_laysDays_379 (by decide) rfl (by decide) rfl dX12_laysDays_6 ?_
  refine z_noJ (show B.2.1 98 26 = 0 from hB.2.1 98 26 (by decide)) ?_
  refine j_iconst C 0 dX12_laysDays_9 (by decide) ?_
  refine j_istore_n C 2 [(2, .int 0), (0, .ref (ad 98)), (1, .int 0)] dX12_laysDays_10 rfl (by decide) rfl ?_
  refine j_iload_n C 0 2 dX12_laysDays_11 rfl rfl ?_
  refine j_bipush C 6 dX12_laysDays_12 (by decide) ?_
  refine j_icmp_ge_f C 30 dX12_laysDays_14 (by decide) (by decide) ?_
  refine j_aload_n C 1 0 dX12_laysDays_17 rfl rfl ?_
  refine j_getP C 11 112 fX12_laysDays_58 (by decide) rfl (by decide) rfl (show B.2.2 98 25 = 112 from hB.2.2 98 25 (by decide)) dX12_laysDays_18 ?_
  refine j_iload_n C 0 2 dX12_laysDays_21 rfl rfl ?_
  refine j_lconst C 0 dX12_laysDays_22 (by decide) ?_
  refine x_last C 0 6 (by decide) rfl rfl rfl (by decide) (by decide) dX12_laysDays_23 ?_
  refine z_noJ (show B.2.1 112 0 = 0 from hB.2.1 112 0 (by decide)) ?_
  refine j_iinc C 0 1 [(2, .int 1), (0, .ref (ad 98)), (1, .int 0)] dX12_laysDays_24 rfl (by decide) (by decide) rfl ?_
  refine j_goto C 11 dX12_laysDays_27 (by decide) ?_
  refine j_iload_n C 0 2 dX12_laysDays_11 rfl rfl ?_
  refine j_bipush C 6 dX12_laysDays_12 (by decide) ?_
  refine j_icmp_ge_f C 30 dX12_laysDays_14 (by decide) (by decide) ?_
  refine j_aload_n C 1 0 dX12_laysDays_17 rfl rfl ?_
  refine j_getP C 11 112 fX12_laysDays_58 (by decide) rfl (by decide) rfl (show B.2.2 98 25 = 112 from hB.2.2 98 25 (by decide)) dX12_laysDays_18 ?_
  refine j_iload_n C 0 2 dX12_laysDays_21 rfl rfl ?_
  refine j_lconst C 0 dX12_laysDays_22 (by decide) ?_
  refine x_last C 1 6 (by decide) rfl rfl rfl (by decide) (by decide) dX12_laysDays_23 ?_
  refine z_noJ (show B.2.1 112 1 = 0 from hB.2.1 112 1 (by decide)) ?_
  refine j_iinc C 0 2 [(2, .int 2), (0, .ref (ad 98)), (1, .int 0)] dX12_laysDays_24 rfl (by decide) (by decide) rfl ?_
  refine j_goto C 11 dX12_laysDays_27 (by decide) ?_
  refine j_iload_n C 0 2 dX12_laysDays_11 rfl rfl ?_
  refine j_bipush C 6 dX12_laysDays_12 (by decide) ?_
  refine j_icmp_ge_f C 30 dX12_laysDays_14 (by decide) (by decide) ?_
  refine j_aload_n C 1 0 dX12_laysDays_17 rfl rfl ?_
  refine j_getP C 11 112 fX12_laysDays_58 (by decide) rfl (by decide) rfl (show B.2.2 98 25 = 112 from hB.2.2 98 25 (by decide)) dX12_laysDays_18 ?_
  refine j_iload_n C 0 2 dX12_laysDays_21 rfl rfl ?_
  refine j_lconst C 0 dX12_laysDays_22 (by decide) ?_
  refine x_last C 2 6 (by decide) rfl rfl rfl (by decide) (by decide) dX12_laysDays_23 ?_
  refine z_noJ (show B.2.1 112 2 = 0 from hB.2.1 112 2 (by decide)) ?_
  refine j_iinc C 0 3 [(2, .int 3), (0, .ref (ad 98)), (1, .int 0)] dX12_laysDays_24 rfl (by decide) (by decide) rfl ?_
  refine j_goto C 11 dX12_laysDays_27 (by decide) ?_
  refine j_iload_n C 0 2 dX12_laysDays_11 rfl rfl ?_
  refine j_bipush C 6 dX12_laysDays_12 (by decide) ?_
  refine j_icmp_ge_f C 30 dX12_laysDays_14 (by decide) (by decide) ?_
  refine j_aload_n C 1 0 dX12_laysDays_17 rfl rfl ?_
  refine j_getP C 11 112 fX12_laysDays_58 (by decide) rfl (by decide) rfl (show B.2.2 98 25 = 112 from hB.2.2 98 25 (by decide)) dX12_laysDays_18 ?_
  refine j_iload_n C 0 2 dX12_laysDays_21 rfl rfl ?_
  refine j_lconst C 0 dX12_laysDays_22 (by decide) ?_
  refine x_last C 3 6 (by decide) rfl rfl rfl (by decide) (by decide) dX12_laysDays_23 ?_
  refine z_noJ (show B.2.1 112 3 = 0 from hB.2.1 112 3 (by decide)) ?_
  refine j_iinc C 0 4 [(2, .int 4), (0, .ref (ad 98)), (1, .int 0)] dX12_laysDays_24 rfl (by decide) (by decide) rfl ?_
  refine j_goto C 11 dX12_laysDays_27 (by decide) ?_
  refine j_iload_n C 0 2 dX12_laysDays_11 rfl rfl ?_
  refine j_bipush C 6 dX12_laysDays_12 (by decide) ?_
  refine j_icmp_ge_f C 30 dX12_laysDays_14 (by decide) (by decide) ?_
  refine j_aload_n C 1 0 dX12_laysDays_17 rfl rfl ?_
  refine j_getP C 11 112 fX12_laysDays_58 (by decide) rfl (by decide) rfl (show B.2.2 98 25 = 112 from hB.2.2 98 25 (by decide)) dX12_laysDays_18 ?_
  refine j_iload_n C 0 2 dX12_laysDays_21 rfl rfl ?_
  refine j_lconst C 0 dX12_laysDays_22 (by decide) ?_
  refine x_last C 4 6 (by decide) rfl rfl rfl (by decide) (by decide) dX12_laysDays_23 ?_
  refine z_noJ (show B.2.1 112 4 = 0 from hB.2.1 112 4 (by decide)) ?_
  refine j_iinc C 0 5 [(2, .int 5), (0, .ref (ad 98)), (1, .int 0)] dX12_laysDays_24 rfl (by decide) (by decide) rfl ?_
  refine j_goto C 11 dX12_laysDays_27 (by decide) ?_
  refine j_iload_n C 0 2 dX12_laysDays_11 rfl rfl ?_
  refine j_bipush C 6 dX12_laysDays_12 (by decide) ?_
  refine j_icmp_ge_f C 30 dX12_laysDays_14 (by decide) (by decide) ?_
  refine j_aload_n C 1 0 dX12_laysDays_17 rfl rfl ?_
  refine j_getP C 11 112 fX12_laysDays_58 (by decide) rfl (by decide) rfl (show B.2.2 98 25 = 112 from hB.2.2 98 25 (by decide)) dX12_laysDays_18 ?_
  refine j_iload_n C 0 2 dX12_laysDays_21 rfl rfl ?_
  refine j_lconst C 0 dX12_laysDays_22 (by decide) ?_
  refine x_last C 5 6 (by decide) rfl rfl rfl (by decide) (by decide) dX12_laysDays_23 ?_
  refine z_noJ (show B.2.1 112 5 = 0 from hB.2.1 112 5 (by decide)) ?_
  refine j_iinc C 0 6 [(2, .int 6), (0, .ref (ad 98)), (1, .int 0)] dX12_laysDays_24 rfl (by decide) (by decide) rfl ?_
  refine j_goto C 11 dX12_laysDays_27 (by decide) ?_
  refine j_iload_n C 0 2 dX12_laysDays_11 rfl rfl ?_
  refine j_bipush C 6 dX12_laysDays_12 (by decide) ?_
  refine j_icmp_ge_t C 30 dX12_laysDays_14 (by decide) (by decide) ?_
  refine j_aload_n C 1 0 dX12_laysDays_30 rfl rfl ?_
  refine j_callVi C (d := 0) (As := []) (st := []) 98 (by decide) rfl (by decide) rfl (k190_X12_oddsAll hB) gX12_laysDays_X12_oddsAll rfl hdX12_oddsAll (by decide) (Nat.le_of_ble_eq_true rfl) dX12_laysDays_31 rfl (fun r M' hp => ?_)
  obtain ⟨rfl, rfl⟩ := hp
  refine j_istore_n C 2 [(2, .int 0), (0, .ref (ad 98)), (1, .int 0)] dX12_laysDays_34 rfl (by decide) rfl ?_
  refine j_iconst C 0 dX12_laysDays_35 (by decide) ?_
  refine j_istore_n C 3 [(3, .int 0), (2, .int 0), (0, .ref (ad 98)), (1, .int 0)] dX12_laysDays_36 rfl (by decide) rfl ?_
  refine j_iload_n C 0 3 dX12_laysDays_37 rfl rfl ?_
  refine j_iload_n C 3 1 dX12_laysDays_38 rfl rfl ?_
  refine j_icmp_ge_t C 183 dX12_laysDays_39 (by decide) (by decide) ?_
  exact hret _ _ _ dX12_laysDays_183 rfl
set_option maxHeartbeats 4000000 in
set_option maxRecDepth 100000 in
theorem k203_X12_wholeOf {l : Launch} {dC : Nat → ClassId} {dI : Nat → Nat → Nat} {ad : Nat → Nat} {cA : Nat → ClassId} {B : mm_M} (hB : MB B) : Cj l 1 yX12_wholeOf wsX12_wholeOf dC dI ad cA [.ref (ad 98), .int 0] (wJ B 110 0 1) (fun r M' => 1 = r ∧ (wJ B 110 0 1) = M') := by
  refine cj_of (cc := cX12_wholeOf) (maxL := 2) (lv := [(0, .ref (ad 98)), (1, .int 0)]) (by decide) rfl (Nat.le_of_ble_eq_true rfl) rfl ?_
  intro p e s m args below meth c A Q C hret
  refine j_aload_n C 0 0 dX12_wholeOf_0 rfl rfl ?_
  refine j_callVi C (d := 0) (As := []) (st := []) 98 (by decide) rfl (by decide) rfl (k190_X12_oddsAll hB) gX12_wholeOf_X12_oddsAll rfl hdX12_oddsAll (by decide) (Nat.le_of_ble_eq_true rfl) dX12_wholeOf_1 rfl (fun r M' hp => ?_)
  obtain ⟨rfl, rfl⟩ := hp
  refine j_if_ne_f C 11 dX12_wholeOf_4 (by decide) (by decide) ?_
  refine j_lconst C 1 dX12_wholeOf_7 (by decide) ?_
  refine j_goto C 20 dX12_wholeOf_8 (by decide) ?_
  exact hret _ _ _ _ dX12_wholeOf_20 ⟨rfl, rfl⟩
set_option maxHeartbeats 4000000 in
set_option maxRecDepth 100000 in
theorem k204_X12_isMuch {l : Launch} {dC : Nat → ClassId} {dI : Nat → Nat → Nat} {ad : Nat → Nat} {cA : Nat → ClassId} {B : mm_M} (hB : MB B) (p0 : Int32) : Ci l 0 yX12_isMuch wsX12_isMuch dC dI ad cA [.long 1, .long 1, .int p0] (wJ B 110 0 1) (fun r M' => ((100 < p0.toInt) ∧ 0 = r ∧ (wJ B 110 0 1) = M') ∨ ((¬ 100 < p0.toInt) ∧ 1 = r ∧ (wJ B 110 0 1) = M')) := by
  refine ci_of (cc := cX12_isMuch) (maxL := 7) (ty := .boolean) (lv := [(0, .long 1), (2, .long 1), (4, .int p0)]) (by decide) rfl (fun r M' hp => by rcases hp with ⟨-, rfl, rfl⟩ | ⟨-, rfl, rfl⟩ <;> rfl) (Nat.le_of_ble_eq_true rfl) rfl ?_
  intro p e s m args below meth c A Q C hret
  refine j_lload_n C 0 0 dX12_isMuch_0 rfl rfl ?_
  refine j_iload C 2 dX12_isMuch_1 rfl ?_
  refine z_i2l C p0.toInt64 rfl dX12_isMuch_3 ?_
  refine j_lload_n C 1 2 dX12_isMuch_4 rfl rfl ?_
  refine j_ldc2 C 100 dX12_isMuch_5 (by decide +kernel) ?_
  refine z_ldiv C 0 (by decide) (by decide) dX12_isMuch_8 ?_
  refine z_lmul C 0 (by simp) dX12_isMuch_9 ?_
  refine z_lsub C 1 (by decide) dX12_isMuch_10 ?_
  refine j_lstore C 5 [(5, .long 1), (0, .long 1), (2, .long 1), (4, .int p0)] dX12_isMuch_11 (by decide) rfl ?_
  refine j_lload C 0 dX12_isMuch_13 rfl ?_
  refine j_ldc2 C 100 dX12_isMuch_15 (by decide +kernel) ?_
  refine z_lcmp C (-1) (by decide) dX12_isMuch_18 ?_
  refine j_if_ge_f C 48 dX12_isMuch_19 (by decide) (by decide) ?_
  refine j_lload C 0 dX12_isMuch_22 rfl ?_
  refine j_lconst C 0 dX12_isMuch_24 (by decide) ?_
  refine z_lcmp C 1 (by decide) dX12_isMuch_25 ?_
  refine j_if_lt_f C 52 dX12_isMuch_26 (by decide) (by decide) ?_
  refine j_lload C 0 dX12_isMuch_29 rfl ?_
  refine j_ldc2 C 100 dX12_isMuch_31 (by decide +kernel) ?_
  refine z_lmul C 100 (by decide) dX12_isMuch_34 ?_
  refine j_iload C 3 dX12_isMuch_35 rfl ?_
  refine z_i2l C p0.toInt64 rfl dX12_isMuch_37 ?_
  refine j_lload_n C 2 2 dX12_isMuch_38 rfl rfl ?_
  refine j_ldc2 C 100 dX12_isMuch_39 (by decide +kernel) ?_
  refine z_lrem C 1 (by decide) (by decide) dX12_isMuch_42 ?_
  refine z_lmul C p0.toInt64 (by simp) dX12_isMuch_43 ?_
  refine z_lcmp_lt C 52 100 p0.toInt (by decide) ((Int32.toInt_toInt64 p0).trans rfl) dX12_isMuch_44 dX12_isMuch_45 (by decide) (fun h1 => ?_) (fun h1 => ?_)
  · refine j_iconst C 0 dX12_isMuch_52 (by decide) ?_
    exact hret _ _ _ _ dX12_isMuch_53 (Or.inl ⟨h1, rfl, rfl⟩)
  · refine j_iconst C 1 dX12_isMuch_48 (by decide) ?_
    refine j_goto C 53 dX12_isMuch_49 (by decide) ?_
    exact hret _ _ _ _ dX12_isMuch_53 (Or.inr ⟨h1, rfl, rfl⟩)
set_option maxHeartbeats 4000000 in
set_option maxRecDepth 100000 in
theorem om_likely {l : Launch} {dC : Nat → ClassId} {dI : Nat → Nat → Nat} {ad : Nat → Nat} {cA : Nat → ClassId} {B : mm_M} (hB : MB B) (p0 : Int32) : Ci l 4 yX12_likely wsX12_likely dC dI ad cA [.ref (ad 98), .int p0] B (fun r _ => r = fo_likely p0) := by
  refine ci_of (cc := cX12_likely) (maxL := 3) (ty := .int) (lv := [(0, .ref (ad 98)), (1, .int p0)]) (by decide) rfl (fun r M' hp => rfl) (Nat.le_of_ble_eq_true rfl) rfl ?_
  intro p e s m args below meth c A Q C hret
  refine j_aload_n C 0 0 dX12_likely_0 rfl rfl ?_
  refine j_iconst C 0 dX12_likely_1 (by decide) ?_
  refine j_putI C 11 qX12_likely_1 rfl rfl (by decide) rfl (by decide) rfl dX12_likely_2 ?_
  refine z_noI (show B.1 98 0 = 0 from hB.1 98 0 (by decide)) ?_
  refine j_iload_n C 1 1 dX12_likely_5 rfl rfl ?_
  refine z_i2l C p0.toInt64 rfl dX12_likely_6 ?_
  refine j_lconst C 0 dX12_likely_7 (by decide) ?_
  refine j_ldc2 C 100 dX12_likely_8 (by decide +kernel) ?_
  refine j_callSi C (d := 0) (As := [.long p0.toInt64, .long 0, .long 100]) (st := []) (k201_X12_within hB p0) gX12_likely_X12_within rfl hdX12_withins (by decide) (Nat.le_of_ble_eq_true rfl) dX12_likely_11 rfl (fun r M' hp => ?_)
  rcases hp with ⟨h1, rfl, rfl⟩ | ⟨⟨h2, h3⟩, rfl, rfl⟩ | ⟨⟨h4, h5⟩, rfl, rfl⟩
  · refine j_if_ne_f C 20 dX12_likely_14 (by decide) (by decide) ?_
    refine j_bipush C (-3) dX12_likely_17 (by decide) ?_
    exact hret _ _ _ _ dX12_likely_19 (by first | rfl | (unfold fo_likely; rw [if_pos (by rw [nI_toInt (by omega)]; omega), nI_clamp (by omega)]; exact hrel) | (unfold fo_likely; (repeat' split) <;> first | rfl | (exfalso; omega) | (exfalso; simp_all; done)))
  · refine j_if_ne_f C 20 dX12_likely_14 (by decide) (by decide) ?_
    refine j_bipush C (-3) dX12_likely_17 (by decide) ?_
    exact hret _ _ _ _ dX12_likely_19 (by first | rfl | (unfold fo_likely; rw [if_pos (by rw [nI_toInt (by omega)]; omega), nI_clamp (by omega)]; exact hrel) | (unfold fo_likely; (repeat' split) <;> first | rfl | (exfalso; omega) | (exfalso; simp_all; done)))
  · refine j_if_ne_t C 20 dX12_likely_14 (by decide) (by decide) ?_
    refine j_aload_n C 0 0 dX12_likely_20 rfl rfl ?_
    refine j_callVv C (d := 1) (As := []) (st := []) 98 (by decide) rfl (by decide) rfl (k115_X12_laysBuys hB) gX12_likely_X12_laysBuys rfl hdX12_laysBuys (by decide) (Nat.le_of_ble_eq_true rfl) dX12_likely_21 rfl (fun M' hp => ?_)
    obtain rfl := hp
    refine j_iconst C 0 dX12_likely_24 (by decide) ?_
    refine j_istore_n C 2 [(2, .int 0), (0, .ref (ad 98)), (1, .int p0)] dX12_likely_25 rfl (by decide) rfl ?_
    refine j_iload_n C 0 2 dX12_likely_26 rfl rfl ?_
    refine j_bipush C 10 dX12_likely_27 (by decide) ?_
    refine j_icmp_gt_f C 61 dX12_likely_29 (by decide) (by decide) ?_
    refine j_aload_n C 1 0 dX12_likely_32 rfl rfl ?_
    refine j_iload_n C 0 2 dX12_likely_33 rfl rfl ?_
    refine j_callVv C (d := 1) (As := [.int 0]) (st := []) 98 (by decide) rfl (by decide) rfl (k202_X12_laysDays hB) gX12_likely_X12_laysDays rfl hdX12_laysDays (by decide) (Nat.le_of_ble_eq_true rfl) dX12_likely_34 rfl (fun M' hp => ?_)
    obtain rfl := hp
    refine j_aload_n C 1 0 dX12_likely_37 rfl rfl ?_
    refine j_callVj C (d := 3) (As := []) (st := []) 98 (by decide) rfl (by decide) rfl (k154_X12_shutRows hB) gX12_likely_X12_shutRows rfl hdX12_shutRows (by decide) (Nat.le_of_ble_eq_true rfl) dX12_likely_38 rfl (fun r M' hp => ?_)
    obtain ⟨rfl, rfl⟩ := hp
    refine j_aload_n C 1 0 dX12_likely_41 rfl rfl ?_
    refine j_iload_n C 0 2 dX12_likely_42 rfl rfl ?_
    refine j_callVj C (d := 1) (As := [.int 0]) (st := [.long 1]) 98 (by decide) rfl (by decide) rfl (k203_X12_wholeOf hB) gX12_likely_X12_wholeOf rfl hdX12_wholeOf (by decide) (Nat.le_of_ble_eq_true rfl) dX12_likely_43 rfl (fun r M' hp => ?_)
    obtain ⟨rfl, rfl⟩ := hp
    refine j_iload_n C 2 1 dX12_likely_46 rfl rfl ?_
    refine j_callSi C (d := 0) (As := [.long 1, .long 1, .int p0]) (st := []) (k204_X12_isMuch hB p0) gX12_likely_X12_isMuch rfl hdX12_isMuchs (by decide) (Nat.le_of_ble_eq_true rfl) dX12_likely_47 rfl (fun r M' hp => ?_)
    rcases hp with ⟨h6, rfl, rfl⟩ | ⟨h7, rfl, rfl⟩
    · exfalso; omega
    · refine j_if_eq_f C 55 dX12_likely_50 (by decide) (by decide) ?_
      refine j_iload_n C 0 2 dX12_likely_53 rfl rfl ?_
      exact hret _ _ _ _ dX12_likely_54 (by first | rfl | (unfold fo_likely; rw [if_pos (by rw [nI_toInt (by omega)]; omega), nI_clamp (by omega)]; exact hrel) | (unfold fo_likely; (repeat' split) <;> first | rfl | (exfalso; omega) | (exfalso; simp_all; done)))
set_option maxHeartbeats 4000000 in
set_option maxRecDepth 100000 in
theorem om_shutsBy {l : Launch} {dC : Nat → ClassId} {dI : Nat → Nat → Nat} {ad : Nat → Nat} {cA : Nat → ClassId} {B : mm_M} (hB : MB B) (p0 : Int32) (p1 : Int32) (p2 : Int32) : Cj l 2 yX12_shutsBy wsX12_shutsBy dC dI ad cA [.ref (ad 98), .int p0, .int p1, .int p2] B (fun r _ => r = fo_shutsBy p0 p1 p2) := by
  refine cj_of (cc := cX12_shutsBy) (maxL := 4) (lv := [(0, .ref (ad 98)), (1, .int p0), (2, .int p1), (3, .int p2)]) (by decide) rfl (Nat.le_of_ble_eq_true rfl) rfl ?_
  intro p e s m args below meth c A Q C hret
  refine j_aload_n C 0 0 dX12_shutsBy_0 rfl rfl ?_
  refine j_iconst C 0 dX12_shutsBy_1 (by decide) ?_
  refine j_putI C 11 qX12_shutsBy_1 rfl rfl (by decide) rfl (by decide) rfl dX12_shutsBy_2 ?_
  refine z_noI (show B.1 98 0 = 0 from hB.1 98 0 (by decide)) ?_
  refine j_aload_n C 0 0 dX12_shutsBy_5 rfl rfl ?_
  refine j_iload_n C 1 1 dX12_shutsBy_6 rfl rfl ?_
  refine z_i2l C p0.toInt64 rfl dX12_shutsBy_7 ?_
  refine j_callVi C (d := 1) (As := [.long p0.toInt64]) (st := []) 98 (by decide) rfl (by decide) rfl (k39_X12_isBuyer hB p0) gX12_shutsBy_X12_isBuyer rfl hdX12_isBuyer (by decide) (Nat.le_of_ble_eq_true rfl) dX12_shutsBy_8 rfl (fun r M' hp => ?_)
  obtain ⟨rfl, rfl⟩ := hp
  refine j_if_eq_t C 21 dX12_shutsBy_11 (by decide) (by decide) ?_
  refine j_ldc2 C (-2) dX12_shutsBy_21 (by decide +kernel) ?_
  exact hret _ _ _ _ dX12_shutsBy_24 (by first | rfl | (unfold fo_shutsBy; rw [if_pos (by rw [nI_toInt (by omega)]; omega), nI_clamp (by omega)]; exact hrel) | (unfold fo_shutsBy; (repeat' split) <;> first | rfl | (exfalso; omega) | (exfalso; simp_all; done)))
set_option maxHeartbeats 4000000 in
set_option maxRecDepth 100000 in
theorem om_closer {l : Launch} {dC : Nat → ClassId} {dI : Nat → Nat → Nat} {ad : Nat → Nat} {cA : Nat → ClassId} {B : mm_M} (hB : MB B) (p0 : Int32) : Ci l 2 yX12_closer wsX12_closer dC dI ad cA [.ref (ad 98), .int p0] B (fun r _ => r = fo_closer p0) := by
  refine ci_of (cc := cX12_closer) (maxL := 6) (ty := .int) (lv := [(0, .ref (ad 98)), (1, .int p0)]) (by decide) rfl (fun r M' hp => rfl) (Nat.le_of_ble_eq_true rfl) rfl ?_
  intro p e s m args below meth c A Q C hret
  refine j_aload_n C 0 0 dX12_closer_0 rfl rfl ?_
  refine j_iconst C 0 dX12_closer_1 (by decide) ?_
  refine j_putI C 11 qX12_closer_1 rfl rfl (by decide) rfl (by decide) rfl dX12_closer_2 ?_
  refine z_noI (show B.1 98 0 = 0 from hB.1 98 0 (by decide)) ?_
  refine j_iload_n C 1 1 dX12_closer_5 rfl rfl ?_
  refine j_callSi C (d := 1) (As := [.int p0]) (st := []) (k189_X12_isLate hB p0) gX12_closer_X12_isLate rfl hdX12_isLates (by decide) (Nat.le_of_ble_eq_true rfl) dX12_closer_6 rfl (fun r M' hp => ?_)
  rcases hp with ⟨h1, rfl, rfl⟩ | ⟨⟨h2, h3⟩, rfl, rfl⟩ | ⟨⟨h4, h5⟩, rfl, rfl⟩
  · refine j_if_ne_f C 15 dX12_closer_9 (by decide) (by decide) ?_
    refine j_bipush C (-3) dX12_closer_12 (by decide) ?_
    exact hret _ _ _ _ dX12_closer_14 (by first | rfl | (unfold fo_closer; rw [if_pos (by rw [nI_toInt (by omega)]; omega), nI_clamp (by omega)]; exact hrel) | (unfold fo_closer; (repeat' split) <;> first | rfl | (exfalso; omega) | (exfalso; simp_all; done)))
  · refine j_if_ne_f C 15 dX12_closer_9 (by decide) (by decide) ?_
    refine j_bipush C (-3) dX12_closer_12 (by decide) ?_
    exact hret _ _ _ _ dX12_closer_14 (by first | rfl | (unfold fo_closer; rw [if_pos (by rw [nI_toInt (by omega)]; omega), nI_clamp (by omega)]; exact hrel) | (unfold fo_closer; (repeat' split) <;> first | rfl | (exfalso; omega) | (exfalso; simp_all; done)))
  · refine j_if_ne_t C 15 dX12_closer_9 (by decide) (by decide) ?_
    refine j_aload_n C 0 0 dX12_closer_15 rfl rfl ?_
    refine j_callVv C (d := 1) (As := []) (st := []) 98 (by decide) rfl (by decide) rfl (k115_X12_laysBuys hB) gX12_closer_X12_laysBuys rfl hdX12_laysBuys (by decide) (Nat.le_of_ble_eq_true rfl) dX12_closer_16 rfl (fun M' hp => ?_)
    obtain rfl := hp
    refine j_aload_n C 0 0 dX12_closer_19 rfl rfl ?_
    refine j_iload_n C 1 1 dX12_closer_20 rfl rfl ?_
    refine j_callVv C (d := 1) (As := [.int p0]) (st := []) 98 (by decide) rfl (by decide) rfl (k191_X12_laysDays hB p0) gX12_closer_X12_laysDays rfl hdX12_laysDays (by decide) (Nat.le_of_ble_eq_true rfl) dX12_closer_21 rfl (fun M' hp => ?_)
    obtain rfl := hp
    refine j_iconst C (-1) dX12_closer_24 (by decide) ?_
    refine j_istore_n C 2 [(2, .int (-1)), (0, .ref (ad 98)), (1, .int p0)] dX12_closer_25 rfl (by decide) rfl ?_
    refine j_lconst C 0 dX12_closer_26 (by decide) ?_
    refine j_lstore_n C 3 [(3, .long 0), (2, .int (-1)), (0, .ref (ad 98)), (1, .int p0)] dX12_closer_27 rfl (by decide) rfl ?_
    refine j_iconst C 0 dX12_closer_28 (by decide) ?_
    refine j_istore C 5 [(5, .int 0), (3, .long 0), (2, .int (-1)), (0, .ref (ad 98)), (1, .int p0)] dX12_closer_29 (by decide) rfl ?_
    refine j_iload C 0 dX12_closer_31 rfl ?_
    refine j_aload_n C 3 0 dX12_closer_33 rfl rfl ?_
    refine j_getP C 11 99 fX12_closer_13 (by decide) rfl (by decide) rfl (show B.2.2 98 1 = 99 from hB.2.2 98 1 (by decide)) dX12_closer_34 ?_
    refine j_iconst C 1 dX12_closer_37 (by decide) ?_
    refine x_iald C 1 3543 0 (by decide) rfl rfl rfl (by decide) (by decide) (show B.1 99 1 = 0 from hB.1 99 1 (by decide)) dX12_closer_38 ?_
    refine j_icmp_ge_t C 74 dX12_closer_39 (by decide) (by decide) ?_
    refine j_iload_n C 2 2 dX12_closer_74 rfl rfl ?_
    exact hret _ _ _ _ dX12_closer_75 (by first | rfl | (unfold fo_closer; rw [if_pos (by rw [nI_toInt (by omega)]; omega), nI_clamp (by omega)]; exact hrel) | (unfold fo_closer; (repeat' split) <;> first | rfl | (exfalso; omega) | (exfalso; simp_all; done)))
set_option maxHeartbeats 4000000 in
set_option maxRecDepth 100000 in
theorem om_soldIn {l : Launch} {dC : Nat → ClassId} {dI : Nat → Nat → Nat} {ad : Nat → Nat} {cA : Nat → ClassId} {B : mm_M} (hB : MB B) (p0 : Int32) (p1 : Int32) (p2 : Int32) : Cj l 2 yX12_soldIn wsX12_soldIn dC dI ad cA [.ref (ad 98), .int p0, .int p1, .int p2] B (fun r _ => r = fo_soldIn p0 p1 p2) := by
  refine cj_of (cc := cX12_soldIn) (maxL := 7) (lv := [(0, .ref (ad 98)), (1, .int p0), (2, .int p1), (3, .int p2)]) (by decide) rfl (Nat.le_of_ble_eq_true rfl) rfl ?_
  intro p e s m args below meth c A Q C hret
  refine j_aload_n C 0 0 dX12_soldIn_0 rfl rfl ?_
  refine j_iconst C 0 dX12_soldIn_1 (by decide) ?_
  refine j_putI C 11 qX12_soldIn_1 rfl rfl (by decide) rfl (by decide) rfl dX12_soldIn_2 ?_
  refine z_noI (show B.1 98 0 = 0 from hB.1 98 0 (by decide)) ?_
  refine j_aload_n C 0 0 dX12_soldIn_5 rfl rfl ?_
  refine j_iload_n C 1 1 dX12_soldIn_6 rfl rfl ?_
  refine z_i2l C p0.toInt64 rfl dX12_soldIn_7 ?_
  refine j_callVi C (d := 1) (As := [.long p0.toInt64]) (st := []) 98 (by decide) rfl (by decide) rfl (k35_X12_isKind hB p0) gX12_soldIn_X12_isKind rfl hdX12_isKind (by decide) (Nat.le_of_ble_eq_true rfl) dX12_soldIn_8 rfl (fun r M' hp => ?_)
  obtain ⟨rfl, rfl⟩ := hp
  refine j_if_eq_t C 21 dX12_soldIn_11 (by decide) (by decide) ?_
  refine j_ldc2 C (-2) dX12_soldIn_21 (by decide +kernel) ?_
  exact hret _ _ _ _ dX12_soldIn_24 (by first | rfl | (unfold fo_soldIn; rw [if_pos (by rw [nI_toInt (by omega)]; omega), nI_clamp (by omega)]; exact hrel) | (unfold fo_soldIn; (repeat' split) <;> first | rfl | (exfalso; omega) | (exfalso; simp_all; done)))
set_option maxHeartbeats 4000000 in
set_option maxRecDepth 100000 in
theorem k213_X12_within {l : Launch} {dC : Nat → ClassId} {dI : Nat → Nat → Nat} {ad : Nat → Nat} {cA : Nat → ClassId} {B : mm_M} (hB : MB B) (p0 : Int32) : Ci l 0 yX12_within wsX12_within dC dI ad cA [.long p0.toInt64, .long 1, .long 6] B (fun r M' => ((p0.toInt < 1) ∧ 0 = r ∧ B = M') ∨ ((¬ p0.toInt < 1 ∧ 6 < p0.toInt) ∧ 0 = r ∧ B = M') ∨ ((¬ p0.toInt < 1 ∧ ¬ 6 < p0.toInt) ∧ 1 = r ∧ B = M')) := by
  refine ci_of (cc := cX12_within) (maxL := 6) (ty := .boolean) (lv := [(0, .long p0.toInt64), (2, .long 1), (4, .long 6)]) (by decide) rfl (fun r M' hp => by rcases hp with ⟨-, rfl, rfl⟩ | ⟨-, rfl, rfl⟩ | ⟨-, rfl, rfl⟩ <;> rfl) (Nat.le_of_ble_eq_true rfl) rfl ?_
  intro p e s m args below meth c A Q C hret
  refine j_lload_n C 0 0 dX12_within_0 rfl rfl ?_
  refine j_lload_n C 1 2 dX12_within_1 rfl rfl ?_
  refine z_lcmp_lt C 17 p0.toInt 1 ((Int32.toInt_toInt64 p0).trans rfl) (by decide) dX12_within_2 dX12_within_3 (by decide) (fun h1 => ?_) (fun h1 => ?_)
  · refine j_iconst C 0 dX12_within_17 (by decide) ?_
    exact hret _ _ _ _ dX12_within_18 (Or.inl ⟨h1, rfl, rfl⟩)
  · refine j_lload_n C 0 0 dX12_within_6 rfl rfl ?_
    refine j_lload C 2 dX12_within_7 rfl ?_
    refine z_lcmp_gt C 17 p0.toInt 6 ((Int32.toInt_toInt64 p0).trans rfl) (by decide) dX12_within_9 dX12_within_10 (by decide) (fun h2 => ?_) (fun h2 => ?_)
    · refine j_iconst C 0 dX12_within_17 (by decide) ?_
      exact hret _ _ _ _ dX12_within_18 (Or.inr (Or.inl ⟨⟨h1, h2⟩, rfl, rfl⟩))
    · refine j_iconst C 1 dX12_within_13 (by decide) ?_
      refine j_goto C 18 dX12_within_14 (by decide) ?_
      exact hret _ _ _ _ dX12_within_18 (Or.inr (Or.inr ⟨⟨h1, h2⟩, rfl, rfl⟩))
set_option maxHeartbeats 4000000 in
set_option maxRecDepth 100000 in
theorem om_hides {l : Launch} {dC : Nat → ClassId} {dI : Nat → Nat → Nat} {ad : Nat → Nat} {cA : Nat → ClassId} {B : mm_M} (hB : MB B) (p0 : Int32) (p1 : Int32) (p2 : Int32) : Ci l 4 yX12_hides wsX12_hides dC dI ad cA [.ref (ad 98), .int p0, .int p1, .int p2] B (fun r _ => r = fo_hides p0 p1 p2) := by
  refine ci_of (cc := cX12_hides) (maxL := 11) (ty := .int) (lv := [(0, .ref (ad 98)), (1, .int p0), (2, .int p1), (3, .int p2)]) (by decide) rfl (fun r M' hp => rfl) (Nat.le_of_ble_eq_true rfl) rfl ?_
  intro p e s m args below meth c A Q C hret
  refine j_aload_n C 0 0 dX12_hides_0 rfl rfl ?_
  refine j_iconst C 0 dX12_hides_1 (by decide) ?_
  refine j_putI C 11 qX12_hides_1 rfl rfl (by decide) rfl (by decide) rfl dX12_hides_2 ?_
  refine z_noI (show B.1 98 0 = 0 from hB.1 98 0 (by decide)) ?_
  refine j_iload_n C 3 3 dX12_hides_5 rfl rfl ?_
  refine j_callSi C (d := 1) (As := [.int p2]) (st := []) (k187_X12_isPart hB p2) gX12_hides_X12_isPart rfl hdX12_isParts (by decide) (Nat.le_of_ble_eq_true rfl) dX12_hides_6 rfl (fun r M' hp => ?_)
  rcases hp with ⟨h1, rfl, rfl⟩ | ⟨⟨h2, h3⟩, rfl, rfl⟩ | ⟨⟨h4, h5⟩, rfl, rfl⟩
  · refine j_if_ne_f C 15 dX12_hides_9 (by decide) (by decide) ?_
    refine j_bipush C (-2) dX12_hides_12 (by decide) ?_
    exact hret _ _ _ _ dX12_hides_14 (by first | rfl | (unfold fo_hides; rw [if_pos (by rw [nI_toInt (by omega)]; omega), nI_clamp (by omega)]; exact hrel) | (unfold fo_hides; (repeat' split) <;> first | rfl | (exfalso; omega) | (exfalso; simp_all; done)))
  · refine j_if_ne_f C 15 dX12_hides_9 (by decide) (by decide) ?_
    refine j_bipush C (-2) dX12_hides_12 (by decide) ?_
    exact hret _ _ _ _ dX12_hides_14 (by first | rfl | (unfold fo_hides; rw [if_pos (by rw [nI_toInt (by omega)]; omega), nI_clamp (by omega)]; exact hrel) | (unfold fo_hides; (repeat' split) <;> first | rfl | (exfalso; omega) | (exfalso; simp_all; done)))
  · refine j_if_ne_t C 15 dX12_hides_9 (by decide) (by decide) ?_
    refine j_iload_n C 1 1 dX12_hides_15 rfl rfl ?_
    refine z_i2l C p0.toInt64 rfl dX12_hides_16 ?_
    refine j_lconst C 0 dX12_hides_17 (by decide) ?_
    refine j_ldc2 C 3 dX12_hides_18 (by decide +kernel) ?_
    refine j_callSi C (d := 0) (As := [.long p0.toInt64, .long 0, .long 3]) (st := []) (k100_X12_within hB p0) gX12_hides_X12_within rfl hdX12_withins (by decide) (Nat.le_of_ble_eq_true rfl) dX12_hides_21 rfl (fun r M' hp => ?_)
    rcases hp with ⟨h6, rfl, rfl⟩ | ⟨⟨h7, h8⟩, rfl, rfl⟩ | ⟨⟨h9, h10⟩, rfl, rfl⟩
    · refine j_if_eq_t C 39 dX12_hides_24 (by decide) (by decide) ?_
      refine j_bipush C (-3) dX12_hides_39 (by decide) ?_
      exact hret _ _ _ _ dX12_hides_41 (by first | rfl | (unfold fo_hides; rw [if_pos (by rw [nI_toInt (by omega)]; omega), nI_clamp (by omega)]; exact hrel) | (unfold fo_hides; (repeat' split) <;> first | rfl | (exfalso; omega) | (exfalso; simp_all; done)))
    · refine j_if_eq_t C 39 dX12_hides_24 (by decide) (by decide) ?_
      refine j_bipush C (-3) dX12_hides_39 (by decide) ?_
      exact hret _ _ _ _ dX12_hides_41 (by first | rfl | (unfold fo_hides; rw [if_pos (by rw [nI_toInt (by omega)]; omega), nI_clamp (by omega)]; exact hrel) | (unfold fo_hides; (repeat' split) <;> first | rfl | (exfalso; omega) | (exfalso; simp_all; done)))
    · refine j_if_eq_f C 39 dX12_hides_24 (by decide) (by decide) ?_
      refine j_iload_n C 2 2 dX12_hides_27 rfl rfl ?_
      refine z_i2l C p1.toInt64 rfl dX12_hides_28 ?_
      refine j_lconst C 1 dX12_hides_29 (by decide) ?_
      refine j_ldc2 C 6 dX12_hides_30 (by decide +kernel) ?_
      refine j_callSi C (d := 0) (As := [.long p1.toInt64, .long 1, .long 6]) (st := []) (k213_X12_within hB p1) gX12_hides_X12_within rfl hdX12_withins (by decide) (Nat.le_of_ble_eq_true rfl) dX12_hides_33 rfl (fun r M' hp => ?_)
      rcases hp with ⟨h11, rfl, rfl⟩ | ⟨⟨h12, h13⟩, rfl, rfl⟩ | ⟨⟨h14, h15⟩, rfl, rfl⟩
      · refine j_if_ne_f C 42 dX12_hides_36 (by decide) (by decide) ?_
        refine j_bipush C (-3) dX12_hides_39 (by decide) ?_
        exact hret _ _ _ _ dX12_hides_41 (by first | rfl | (unfold fo_hides; rw [if_pos (by rw [nI_toInt (by omega)]; omega), nI_clamp (by omega)]; exact hrel) | (unfold fo_hides; (repeat' split) <;> first | rfl | (exfalso; omega) | (exfalso; simp_all; done)))
      · refine j_if_ne_f C 42 dX12_hides_36 (by decide) (by decide) ?_
        refine j_bipush C (-3) dX12_hides_39 (by decide) ?_
        exact hret _ _ _ _ dX12_hides_41 (by first | rfl | (unfold fo_hides; rw [if_pos (by rw [nI_toInt (by omega)]; omega), nI_clamp (by omega)]; exact hrel) | (unfold fo_hides; (repeat' split) <;> first | rfl | (exfalso; omega) | (exfalso; simp_all; done)))
      · refine j_if_ne_t C 42 dX12_hides_36 (by decide) (by decide) ?_
        refine j_aload_n C 0 0 dX12_hides_42 rfl rfl ?_
        refine j_callVi C (d := 3) (As := []) (st := []) 98 (by decide) rfl (by decide) rfl (k74_X12_isShut hB) gX12_hides_X12_isShut rfl hdX12_isShut (by decide) (Nat.le_of_ble_eq_true rfl) dX12_hides_43 rfl (fun r M' hp => ?_)
        obtain ⟨rfl, rfl⟩ := hp
        refine j_if_eq_f C 52 dX12_hides_46 (by decide) (by decide) ?_
        refine j_bipush C (-5) dX12_hides_49 (by decide) ?_
        exact hret _ _ _ _ dX12_hides_51 (by first | rfl | (unfold fo_hides; rw [if_pos (by rw [nI_toInt (by omega)]; omega), nI_clamp (by omega)]; exact hrel) | (unfold fo_hides; (repeat' split) <;> first | rfl | (exfalso; omega) | (exfalso; simp_all; done)))
set_option maxHeartbeats 4000000 in
set_option maxRecDepth 100000 in
theorem om_rota {l : Launch} {dC : Nat → ClassId} {dI : Nat → Nat → Nat} {ad : Nat → Nat} {cA : Nat → ClassId} {B : mm_M} (hB : MB B) (p0 : Int32) : Ci l 4 yX12_rota wsX12_rota dC dI ad cA [.ref (ad 98), .int p0] B (fun r _ => r = fo_rota p0) := by
  refine ci_of (cc := cX12_rota) (maxL := 5) (ty := .int) (lv := [(0, .ref (ad 98)), (1, .int p0)]) (by decide) rfl (fun r M' hp => rfl) (Nat.le_of_ble_eq_true rfl) rfl ?_
  intro p e s m args below meth c A Q C hret
  refine j_aload_n C 0 0 dX12_rota_0 rfl rfl ?_
  refine j_iconst C 0 dX12_rota_1 (by decide) ?_
  refine j_putI C 11 qX12_rota_1 rfl rfl (by decide) rfl (by decide) rfl dX12_rota_2 ?_
  refine z_noI (show B.1 98 0 = 0 from hB.1 98 0 (by decide)) ?_
  refine j_iload_n C 1 1 dX12_rota_5 rfl rfl ?_
  refine j_callSi C (d := 1) (As := [.int p0]) (st := []) (k187_X12_isPart hB p0) gX12_rota_X12_isPart rfl hdX12_isParts (by decide) (Nat.le_of_ble_eq_true rfl) dX12_rota_6 rfl (fun r M' hp => ?_)
  rcases hp with ⟨h1, rfl, rfl⟩ | ⟨⟨h2, h3⟩, rfl, rfl⟩ | ⟨⟨h4, h5⟩, rfl, rfl⟩
  · refine j_if_ne_f C 15 dX12_rota_9 (by decide) (by decide) ?_
    refine j_bipush C (-2) dX12_rota_12 (by decide) ?_
    exact hret _ _ _ _ dX12_rota_14 (by first | rfl | (unfold fo_rota; rw [if_pos (by rw [nI_toInt (by omega)]; omega), nI_clamp (by omega)]; exact hrel) | (unfold fo_rota; (repeat' split) <;> first | rfl | (exfalso; omega) | (exfalso; simp_all; done)))
  · refine j_if_ne_f C 15 dX12_rota_9 (by decide) (by decide) ?_
    refine j_bipush C (-2) dX12_rota_12 (by decide) ?_
    exact hret _ _ _ _ dX12_rota_14 (by first | rfl | (unfold fo_rota; rw [if_pos (by rw [nI_toInt (by omega)]; omega), nI_clamp (by omega)]; exact hrel) | (unfold fo_rota; (repeat' split) <;> first | rfl | (exfalso; omega) | (exfalso; simp_all; done)))
  · refine j_if_ne_t C 15 dX12_rota_9 (by decide) (by decide) ?_
    refine j_aload_n C 0 0 dX12_rota_15 rfl rfl ?_
    refine j_callVi C (d := 3) (As := []) (st := []) 98 (by decide) rfl (by decide) rfl (k74_X12_isShut hB) gX12_rota_X12_isShut rfl hdX12_isShut (by decide) (Nat.le_of_ble_eq_true rfl) dX12_rota_16 rfl (fun r M' hp => ?_)
    obtain ⟨rfl, rfl⟩ := hp
    refine j_if_eq_f C 25 dX12_rota_19 (by decide) (by decide) ?_
    refine j_bipush C (-5) dX12_rota_22 (by decide) ?_
    exact hret _ _ _ _ dX12_rota_24 (by first | rfl | (unfold fo_rota; rw [if_pos (by rw [nI_toInt (by omega)]; omega), nI_clamp (by omega)]; exact hrel) | (unfold fo_rota; (repeat' split) <;> first | rfl | (exfalso; omega) | (exfalso; simp_all; done)))
set_option maxHeartbeats 4000000 in
set_option maxRecDepth 100000 in
theorem k219_X12_within {l : Launch} {dC : Nat → ClassId} {dI : Nat → Nat → Nat} {ad : Nat → Nat} {cA : Nat → ClassId} {B : mm_M} (hB : MB B) (p0 : Int32) : Ci l 0 yX12_within wsX12_within dC dI ad cA [.long p0.toInt64, .long 0, .long 8] B (fun r M' => ((p0.toInt < 0) ∧ 0 = r ∧ B = M') ∨ ((¬ p0.toInt < 0 ∧ 8 < p0.toInt) ∧ 0 = r ∧ B = M') ∨ ((¬ p0.toInt < 0 ∧ ¬ 8 < p0.toInt) ∧ 1 = r ∧ B = M')) := by
  refine ci_of (cc := cX12_within) (maxL := 6) (ty := .boolean) (lv := [(0, .long p0.toInt64), (2, .long 0), (4, .long 8)]) (by decide) rfl (fun r M' hp => by rcases hp with ⟨-, rfl, rfl⟩ | ⟨-, rfl, rfl⟩ | ⟨-, rfl, rfl⟩ <;> rfl) (Nat.le_of_ble_eq_true rfl) rfl ?_
  intro p e s m args below meth c A Q C hret
  refine j_lload_n C 0 0 dX12_within_0 rfl rfl ?_
  refine j_lload_n C 1 2 dX12_within_1 rfl rfl ?_
  refine z_lcmp_lt C 17 p0.toInt 0 ((Int32.toInt_toInt64 p0).trans rfl) (by decide) dX12_within_2 dX12_within_3 (by decide) (fun h1 => ?_) (fun h1 => ?_)
  · refine j_iconst C 0 dX12_within_17 (by decide) ?_
    exact hret _ _ _ _ dX12_within_18 (Or.inl ⟨h1, rfl, rfl⟩)
  · refine j_lload_n C 0 0 dX12_within_6 rfl rfl ?_
    refine j_lload C 2 dX12_within_7 rfl ?_
    refine z_lcmp_gt C 17 p0.toInt 8 ((Int32.toInt_toInt64 p0).trans rfl) (by decide) dX12_within_9 dX12_within_10 (by decide) (fun h2 => ?_) (fun h2 => ?_)
    · refine j_iconst C 0 dX12_within_17 (by decide) ?_
      exact hret _ _ _ _ dX12_within_18 (Or.inr (Or.inl ⟨⟨h1, h2⟩, rfl, rfl⟩))
    · refine j_iconst C 1 dX12_within_13 (by decide) ?_
      refine j_goto C 18 dX12_within_14 (by decide) ?_
      exact hret _ _ _ _ dX12_within_18 (Or.inr (Or.inr ⟨⟨h1, h2⟩, rfl, rfl⟩))
set_option maxHeartbeats 4000000 in
set_option maxRecDepth 100000 in
theorem om_earns {l : Launch} {dC : Nat → ClassId} {dI : Nat → Nat → Nat} {ad : Nat → Nat} {cA : Nat → ClassId} {B : mm_M} (hB : MB B) (p0 : Int32) (p1 : Int32) : Cj l 3 yX12_earns wsX12_earns dC dI ad cA [.ref (ad 98), .int p0, .int p1] B (fun r _ => r = fo_earns p0 p1) := by
  refine cj_of (cc := cX12_earns) (maxL := 3) (lv := [(0, .ref (ad 98)), (1, .int p0), (2, .int p1)]) (by decide) rfl (Nat.le_of_ble_eq_true rfl) rfl ?_
  intro p e s m args below meth c A Q C hret
  refine j_aload_n C 0 0 dX12_earns_0 rfl rfl ?_
  refine j_iconst C 0 dX12_earns_1 (by decide) ?_
  refine j_putI C 11 qX12_earns_1 rfl rfl (by decide) rfl (by decide) rfl dX12_earns_2 ?_
  refine z_noI (show B.1 98 0 = 0 from hB.1 98 0 (by decide)) ?_
  refine j_iload_n C 2 2 dX12_earns_5 rfl rfl ?_
  refine j_callSi C (d := 1) (As := [.int p1]) (st := []) (k187_X12_isPart hB p1) gX12_earns_X12_isPart rfl hdX12_isParts (by decide) (Nat.le_of_ble_eq_true rfl) dX12_earns_6 rfl (fun r M' hp => ?_)
  rcases hp with ⟨h1, rfl, rfl⟩ | ⟨⟨h2, h3⟩, rfl, rfl⟩ | ⟨⟨h4, h5⟩, rfl, rfl⟩
  · refine j_if_ne_f C 16 dX12_earns_9 (by decide) (by decide) ?_
    refine j_ldc2 C (-2) dX12_earns_12 (by decide +kernel) ?_
    exact hret _ _ _ _ dX12_earns_15 (by first | rfl | (unfold fo_earns; rw [if_pos (by rw [nI_toInt (by omega)]; omega), nI_clamp (by omega)]; exact hrel) | (unfold fo_earns; (repeat' split) <;> first | rfl | (exfalso; omega) | (exfalso; simp_all; done)))
  · refine j_if_ne_f C 16 dX12_earns_9 (by decide) (by decide) ?_
    refine j_ldc2 C (-2) dX12_earns_12 (by decide +kernel) ?_
    exact hret _ _ _ _ dX12_earns_15 (by first | rfl | (unfold fo_earns; rw [if_pos (by rw [nI_toInt (by omega)]; omega), nI_clamp (by omega)]; exact hrel) | (unfold fo_earns; (repeat' split) <;> first | rfl | (exfalso; omega) | (exfalso; simp_all; done)))
  · refine j_if_ne_t C 16 dX12_earns_9 (by decide) (by decide) ?_
    refine j_iload_n C 1 1 dX12_earns_16 rfl rfl ?_
    refine z_i2l C p0.toInt64 rfl dX12_earns_17 ?_
    refine j_lconst C 0 dX12_earns_18 (by decide) ?_
    refine j_ldc2 C 8 dX12_earns_19 (by decide +kernel) ?_
    refine j_callSi C (d := 0) (As := [.long p0.toInt64, .long 0, .long 8]) (st := []) (k219_X12_within hB p0) gX12_earns_X12_within rfl hdX12_withins (by decide) (Nat.le_of_ble_eq_true rfl) dX12_earns_22 rfl (fun r M' hp => ?_)
    rcases hp with ⟨h6, rfl, rfl⟩ | ⟨⟨h7, h8⟩, rfl, rfl⟩ | ⟨⟨h9, h10⟩, rfl, rfl⟩
    · refine j_if_ne_f C 32 dX12_earns_25 (by decide) (by decide) ?_
      refine j_ldc2 C (-3) dX12_earns_28 (by decide +kernel) ?_
      exact hret _ _ _ _ dX12_earns_31 (by first | rfl | (unfold fo_earns; rw [if_pos (by rw [nI_toInt (by omega)]; omega), nI_clamp (by omega)]; exact hrel) | (unfold fo_earns; (repeat' split) <;> first | rfl | (exfalso; omega) | (exfalso; simp_all; done)))
    · refine j_if_ne_f C 32 dX12_earns_25 (by decide) (by decide) ?_
      refine j_ldc2 C (-3) dX12_earns_28 (by decide +kernel) ?_
      exact hret _ _ _ _ dX12_earns_31 (by first | rfl | (unfold fo_earns; rw [if_pos (by rw [nI_toInt (by omega)]; omega), nI_clamp (by omega)]; exact hrel) | (unfold fo_earns; (repeat' split) <;> first | rfl | (exfalso; omega) | (exfalso; simp_all; done)))
    · refine j_if_ne_t C 32 dX12_earns_25 (by decide) (by decide) ?_
      refine j_aload_n C 0 0 dX12_earns_32 rfl rfl ?_
      refine j_callVv C (d := 1) (As := []) (st := []) 98 (by decide) rfl (by decide) rfl (k115_X12_laysBuys hB) gX12_earns_X12_laysBuys rfl hdX12_laysBuys (by decide) (Nat.le_of_ble_eq_true rfl) dX12_earns_33 rfl (fun M' hp => ?_)
      obtain rfl := hp
      refine j_aload_n C 0 0 dX12_earns_36 rfl rfl ?_
      refine j_iload_n C 1 1 dX12_earns_37 rfl rfl ?_
      refine j_callVv C (d := 1) (As := [.int p0]) (st := []) 98 (by decide) rfl (by decide) rfl (k191_X12_laysDays hB p0) gX12_earns_X12_laysDays rfl hdX12_laysDays (by decide) (Nat.le_of_ble_eq_true rfl) dX12_earns_38 rfl (fun M' hp => ?_)
      obtain rfl := hp
      refine j_aload_n C 0 0 dX12_earns_41 rfl rfl ?_
      refine j_getJ C 11 0 fX12_earns_379 (by decide) rfl (by decide) rfl (show B.2.1 98 26 = 0 from hB.2.1 98 26 (by decide)) dX12_earns_42 ?_
      refine j_aload_n C 0 0 dX12_earns_45 rfl rfl ?_
      refine j_iload_n C 1 1 dX12_earns_46 rfl rfl ?_
      refine j_callVj C (d := 1) (As := [.int p0]) (st := [.long 0]) 98 (by decide) rfl (by decide) rfl (k193_X12_wholeOf hB p0) gX12_earns_X12_wholeOf rfl hdX12_wholeOf (by decide) (Nat.le_of_ble_eq_true rfl) dX12_earns_47 rfl (fun r M' hp => ?_)
      obtain ⟨rfl, rfl⟩ := hp
      refine j_iload_n C 2 2 dX12_earns_50 rfl rfl ?_
      refine j_callSj C (d := 2) (As := [.long 0, .long 1, .int p1]) (st := []) (k196_X12_part hB p1) gX12_earns_X12_part rfl hdX12_parts (by decide) (Nat.le_of_ble_eq_true rfl) dX12_earns_51 rfl (fun r M' hp => ?_)
      rcases hp with ⟨h11, rfl, rfl⟩ | ⟨⟨h12, h13⟩, rfl, rfl⟩
      · obtain rfl : p1 = 1 := Int32.toInt_inj.mp (show p1.toInt = (1 : Int32).toInt by rw [show (1 : Int32).toInt = 1 from rfl]; omega)
        show jj _ _ _ _ _ _ _ _ _ _ _ _ _ _ _ _ _ _ _ (wJ B 110 0 1) 54 [(0, .ref (ad 98)), (1, .int p0), (2, .int 1)] [.long 1]
        exact hret _ _ _ _ dX12_earns_54 (by first | rfl | (unfold fo_earns; rw [if_pos (by rw [nI_toInt (by omega)]; omega), nI_clamp (by omega)]; exact hrel) | (unfold fo_earns; (repeat' split) <;> first | rfl | (exfalso; omega) | (exfalso; simp_all; done)))
      · obtain rfl : p1 = 0 := Int32.toInt_inj.mp (show p1.toInt = (0 : Int32).toInt by rw [show (0 : Int32).toInt = 0 from rfl]; omega)
        show jj _ _ _ _ _ _ _ _ _ _ _ _ _ _ _ _ _ _ _ (wJ B 110 0 1) 54 [(0, .ref (ad 98)), (1, .int p0), (2, .int 0)] [.long 0]
        exact hret _ _ _ _ dX12_earns_54 (by first | rfl | (unfold fo_earns; rw [if_pos (by rw [nI_toInt (by omega)]; omega), nI_clamp (by omega)]; exact hrel) | (unfold fo_earns; (repeat' split) <;> first | rfl | (exfalso; omega) | (exfalso; simp_all; done)))
set_option maxHeartbeats 4000000 in
set_option maxRecDepth 100000 in
theorem om_bestPrice {l : Launch} {dC : Nat → ClassId} {dI : Nat → Nat → Nat} {ad : Nat → Nat} {cA : Nat → ClassId} {B : mm_M} (hB : MB B) (p0 : Int32) (p1 : Int32) : Ci l 2 yX12_bestPrice wsX12_bestPrice dC dI ad cA [.ref (ad 98), .int p0, .int p1] B (fun r _ => r = fo_bestPrice p0 p1) := by
  refine ci_of (cc := cX12_bestPrice) (maxL := 8) (ty := .int) (lv := [(0, .ref (ad 98)), (1, .int p0), (2, .int p1)]) (by decide) rfl (fun r M' hp => rfl) (Nat.le_of_ble_eq_true rfl) rfl ?_
  intro p e s m args below meth c A Q C hret
  refine j_aload_n C 0 0 dX12_bestPrice_0 rfl rfl ?_
  refine j_iconst C 0 dX12_bestPrice_1 (by decide) ?_
  refine j_putI C 11 qX12_bestPrice_1 rfl rfl (by decide) rfl (by decide) rfl dX12_bestPrice_2 ?_
  refine z_noI (show B.1 98 0 = 0 from hB.1 98 0 (by decide)) ?_
  refine j_aload_n C 0 0 dX12_bestPrice_5 rfl rfl ?_
  refine j_iload_n C 1 1 dX12_bestPrice_6 rfl rfl ?_
  refine z_i2l C p0.toInt64 rfl dX12_bestPrice_7 ?_
  refine j_callVi C (d := 1) (As := [.long p0.toInt64]) (st := []) 98 (by decide) rfl (by decide) rfl (k35_X12_isKind hB p0) gX12_bestPrice_X12_isKind rfl hdX12_isKind (by decide) (Nat.le_of_ble_eq_true rfl) dX12_bestPrice_8 rfl (fun r M' hp => ?_)
  obtain ⟨rfl, rfl⟩ := hp
  refine j_if_ne_f C 17 dX12_bestPrice_11 (by decide) (by decide) ?_
  refine j_bipush C (-2) dX12_bestPrice_14 (by decide) ?_
  exact hret _ _ _ _ dX12_bestPrice_16 (by first | rfl | (unfold fo_bestPrice; rw [if_pos (by rw [nI_toInt (by omega)]; omega), nI_clamp (by omega)]; exact hrel) | (unfold fo_bestPrice; (repeat' split) <;> first | rfl | (exfalso; omega) | (exfalso; simp_all; done)))
set_option maxHeartbeats 4000000 in
set_option maxRecDepth 100000 in
theorem k225_X12_noSeen {l : Launch} {dC : Nat → ClassId} {dI : Nat → Nat → Nat} {ad : Nat → Nat} {cA : Nat → ClassId} {B : mm_M} (hB : MB B) (p0 : Int32) : Ci l 2 yX12_noSeen wsX12_noSeen dC dI ad cA [.ref (ad 98), .int p0] B (fun r M' => ((p0.toInt < 0) ∧ (-2) = r ∧ B = M') ∨ ((¬ p0.toInt < 0 ∧ 3 < p0.toInt) ∧ (-2) = r ∧ B = M') ∨ ((¬ p0.toInt < 0 ∧ ¬ 3 < p0.toInt ∧ p0 = 0) ∧ (-6) = r ∧ B = M') ∨ ((¬ p0.toInt < 0 ∧ ¬ 3 < p0.toInt ∧ p0 = 1) ∧ (-6) = r ∧ B = M') ∨ ((¬ p0.toInt < 0 ∧ ¬ 3 < p0.toInt ∧ p0 = 2) ∧ (-6) = r ∧ B = M') ∨ ((¬ p0.toInt < 0 ∧ ¬ 3 < p0.toInt ∧ p0 = 3) ∧ (-6) = r ∧ B = M')) := by
  refine ci_of (cc := cX12_noSeen) (maxL := 6) (ty := .int) (lv := [(0, .ref (ad 98)), (1, .int p0)]) (by decide) rfl (fun r M' hp => rfl) (Nat.le_of_ble_eq_true rfl) rfl ?_
  intro p e s m args below meth c A Q C hret
  refine j_aload_n C 0 0 dX12_noSeen_0 rfl rfl ?_
  refine j_iload_n C 1 1 dX12_noSeen_1 rfl rfl ?_
  refine j_callVi C (d := 1) (As := [.int p0]) (st := []) 98 (by decide) rfl (by decide) rfl (k101_X12_noTray hB p0) gX12_noSeen_X12_noTray rfl hdX12_noTray (by decide) (Nat.le_of_ble_eq_true rfl) dX12_noSeen_2 rfl (fun r M' hp => ?_)
  rcases hp with ⟨h1, rfl, rfl⟩ | ⟨⟨h2, h3⟩, rfl, rfl⟩ | ⟨⟨h4, h5, h6⟩, rfl, rfl⟩ | ⟨⟨h7, h8, h9⟩, rfl, rfl⟩ | ⟨⟨h10, h11, h12⟩, rfl, rfl⟩ | ⟨⟨h13, h14, h15⟩, rfl, rfl⟩
  · refine j_istore_n C 2 [(2, .int (-2)), (0, .ref (ad 98)), (1, .int p0)] dX12_noSeen_5 rfl (by decide) rfl ?_
    refine j_iload_n C 0 2 dX12_noSeen_6 rfl rfl ?_
    refine j_if_eq_f C 12 dX12_noSeen_7 (by decide) (by decide) ?_
    refine j_iload_n C 0 2 dX12_noSeen_10 rfl rfl ?_
    exact hret _ _ _ _ dX12_noSeen_11 (Or.inl ⟨h1, rfl, rfl⟩)
  · refine j_istore_n C 2 [(2, .int (-2)), (0, .ref (ad 98)), (1, .int p0)] dX12_noSeen_5 rfl (by decide) rfl ?_
    refine j_iload_n C 0 2 dX12_noSeen_6 rfl rfl ?_
    refine j_if_eq_f C 12 dX12_noSeen_7 (by decide) (by decide) ?_
    refine j_iload_n C 0 2 dX12_noSeen_10 rfl rfl ?_
    exact hret _ _ _ _ dX12_noSeen_11 (Or.inr (Or.inl ⟨⟨h2, h3⟩, rfl, rfl⟩))
  · refine j_istore_n C 2 [(2, .int (-6)), (0, .ref (ad 98)), (1, .int p0)] dX12_noSeen_5 rfl (by decide) rfl ?_
    refine j_iload_n C 0 2 dX12_noSeen_6 rfl rfl ?_
    refine j_if_eq_f C 12 dX12_noSeen_7 (by decide) (by decide) ?_
    refine j_iload_n C 0 2 dX12_noSeen_10 rfl rfl ?_
    exact hret _ _ _ _ dX12_noSeen_11 (Or.inr (Or.inr (Or.inl ⟨⟨h4, h5, h6⟩, rfl, rfl⟩)))
  · refine j_istore_n C 2 [(2, .int (-6)), (0, .ref (ad 98)), (1, .int p0)] dX12_noSeen_5 rfl (by decide) rfl ?_
    refine j_iload_n C 0 2 dX12_noSeen_6 rfl rfl ?_
    refine j_if_eq_f C 12 dX12_noSeen_7 (by decide) (by decide) ?_
    refine j_iload_n C 0 2 dX12_noSeen_10 rfl rfl ?_
    exact hret _ _ _ _ dX12_noSeen_11 (Or.inr (Or.inr (Or.inr (Or.inl ⟨⟨h7, h8, h9⟩, rfl, rfl⟩))))
  · refine j_istore_n C 2 [(2, .int (-6)), (0, .ref (ad 98)), (1, .int p0)] dX12_noSeen_5 rfl (by decide) rfl ?_
    refine j_iload_n C 0 2 dX12_noSeen_6 rfl rfl ?_
    refine j_if_eq_f C 12 dX12_noSeen_7 (by decide) (by decide) ?_
    refine j_iload_n C 0 2 dX12_noSeen_10 rfl rfl ?_
    exact hret _ _ _ _ dX12_noSeen_11 (Or.inr (Or.inr (Or.inr (Or.inr (Or.inl ⟨⟨h10, h11, h12⟩, rfl, rfl⟩)))))
  · refine j_istore_n C 2 [(2, .int (-6)), (0, .ref (ad 98)), (1, .int p0)] dX12_noSeen_5 rfl (by decide) rfl ?_
    refine j_iload_n C 0 2 dX12_noSeen_6 rfl rfl ?_
    refine j_if_eq_f C 12 dX12_noSeen_7 (by decide) (by decide) ?_
    refine j_iload_n C 0 2 dX12_noSeen_10 rfl rfl ?_
    exact hret _ _ _ _ dX12_noSeen_11 (Or.inr (Or.inr (Or.inr (Or.inr (Or.inr ⟨⟨h13, h14, h15⟩, rfl, rfl⟩)))))
set_option maxHeartbeats 4000000 in
set_option maxRecDepth 100000 in
theorem om_seen {l : Launch} {dC : Nat → ClassId} {dI : Nat → Nat → Nat} {ad : Nat → Nat} {cA : Nat → ClassId} {B : mm_M} (hB : MB B) (p0 : Int32) : Ci l 3 yX12_seen wsX12_seen dC dI ad cA [.ref (ad 98), .int p0] B (fun r _ => r = fo_seen p0) := by
  refine ci_of (cc := cX12_seen) (maxL := 3) (ty := .int) (lv := [(0, .ref (ad 98)), (1, .int p0)]) (by decide) rfl (fun r M' hp => rfl) (Nat.le_of_ble_eq_true rfl) rfl ?_
  intro p e s m args below meth c A Q C hret
  refine j_aload_n C 0 0 dX12_seen_0 rfl rfl ?_
  refine j_iconst C 0 dX12_seen_1 (by decide) ?_
  refine j_putI C 11 qX12_seen_1 rfl rfl (by decide) rfl (by decide) rfl dX12_seen_2 ?_
  refine z_noI (show B.1 98 0 = 0 from hB.1 98 0 (by decide)) ?_
  refine j_aload_n C 0 0 dX12_seen_5 rfl rfl ?_
  refine j_iload_n C 1 1 dX12_seen_6 rfl rfl ?_
  refine j_callVi C (d := 2) (As := [.int p0]) (st := []) 98 (by decide) rfl (by decide) rfl (k225_X12_noSeen hB p0) gX12_seen_X12_noSeen rfl hdX12_noSeen (by decide) (Nat.le_of_ble_eq_true rfl) dX12_seen_7 rfl (fun r M' hp => ?_)
  rcases hp with ⟨h1, rfl, rfl⟩ | ⟨⟨h2, h3⟩, rfl, rfl⟩ | ⟨⟨h4, h5, h6⟩, rfl, rfl⟩ | ⟨⟨h7, h8, h9⟩, rfl, rfl⟩ | ⟨⟨h10, h11, h12⟩, rfl, rfl⟩ | ⟨⟨h13, h14, h15⟩, rfl, rfl⟩
  · refine j_istore_n C 2 [(2, .int (-2)), (0, .ref (ad 98)), (1, .int p0)] dX12_seen_10 rfl (by decide) rfl ?_
    refine j_iload_n C 0 2 dX12_seen_11 rfl rfl ?_
    refine j_if_eq_f C 19 dX12_seen_12 (by decide) (by decide) ?_
    refine j_iload_n C 0 2 dX12_seen_15 rfl rfl ?_
    refine j_goto C 24 dX12_seen_16 (by decide) ?_
    exact hret _ _ _ _ dX12_seen_24 (by first | rfl | (unfold fo_seen; rw [if_pos (by rw [nI_toInt (by omega)]; omega), nI_clamp (by omega)]; exact hrel) | (unfold fo_seen; (repeat' split) <;> first | rfl | (exfalso; omega) | (exfalso; simp_all; done)))
  · refine j_istore_n C 2 [(2, .int (-2)), (0, .ref (ad 98)), (1, .int p0)] dX12_seen_10 rfl (by decide) rfl ?_
    refine j_iload_n C 0 2 dX12_seen_11 rfl rfl ?_
    refine j_if_eq_f C 19 dX12_seen_12 (by decide) (by decide) ?_
    refine j_iload_n C 0 2 dX12_seen_15 rfl rfl ?_
    refine j_goto C 24 dX12_seen_16 (by decide) ?_
    exact hret _ _ _ _ dX12_seen_24 (by first | rfl | (unfold fo_seen; rw [if_pos (by rw [nI_toInt (by omega)]; omega), nI_clamp (by omega)]; exact hrel) | (unfold fo_seen; (repeat' split) <;> first | rfl | (exfalso; omega) | (exfalso; simp_all; done)))
  · refine j_istore_n C 2 [(2, .int (-6)), (0, .ref (ad 98)), (1, .int p0)] dX12_seen_10 rfl (by decide) rfl ?_
    refine j_iload_n C 0 2 dX12_seen_11 rfl rfl ?_
    refine j_if_eq_f C 19 dX12_seen_12 (by decide) (by decide) ?_
    refine j_iload_n C 0 2 dX12_seen_15 rfl rfl ?_
    refine j_goto C 24 dX12_seen_16 (by decide) ?_
    exact hret _ _ _ _ dX12_seen_24 (by first | rfl | (unfold fo_seen; rw [if_pos (by rw [nI_toInt (by omega)]; omega), nI_clamp (by omega)]; exact hrel) | (unfold fo_seen; (repeat' split) <;> first | rfl | (exfalso; omega) | (exfalso; simp_all; done)))
  · refine j_istore_n C 2 [(2, .int (-6)), (0, .ref (ad 98)), (1, .int p0)] dX12_seen_10 rfl (by decide) rfl ?_
    refine j_iload_n C 0 2 dX12_seen_11 rfl rfl ?_
    refine j_if_eq_f C 19 dX12_seen_12 (by decide) (by decide) ?_
    refine j_iload_n C 0 2 dX12_seen_15 rfl rfl ?_
    refine j_goto C 24 dX12_seen_16 (by decide) ?_
    exact hret _ _ _ _ dX12_seen_24 (by first | rfl | (unfold fo_seen; rw [if_pos (by rw [nI_toInt (by omega)]; omega), nI_clamp (by omega)]; exact hrel) | (unfold fo_seen; (repeat' split) <;> first | rfl | (exfalso; omega) | (exfalso; simp_all; done)))
  · refine j_istore_n C 2 [(2, .int (-6)), (0, .ref (ad 98)), (1, .int p0)] dX12_seen_10 rfl (by decide) rfl ?_
    refine j_iload_n C 0 2 dX12_seen_11 rfl rfl ?_
    refine j_if_eq_f C 19 dX12_seen_12 (by decide) (by decide) ?_
    refine j_iload_n C 0 2 dX12_seen_15 rfl rfl ?_
    refine j_goto C 24 dX12_seen_16 (by decide) ?_
    exact hret _ _ _ _ dX12_seen_24 (by first | rfl | (unfold fo_seen; rw [if_pos (by rw [nI_toInt (by omega)]; omega), nI_clamp (by omega)]; exact hrel) | (unfold fo_seen; (repeat' split) <;> first | rfl | (exfalso; omega) | (exfalso; simp_all; done)))
  · refine j_istore_n C 2 [(2, .int (-6)), (0, .ref (ad 98)), (1, .int p0)] dX12_seen_10 rfl (by decide) rfl ?_
    refine j_iload_n C 0 2 dX12_seen_11 rfl rfl ?_
    refine j_if_eq_f C 19 dX12_seen_12 (by decide) (by decide) ?_
    refine j_iload_n C 0 2 dX12_seen_15 rfl rfl ?_
    refine j_goto C 24 dX12_seen_16 (by decide) ?_
    exact hret _ _ _ _ dX12_seen_24 (by first | rfl | (unfold fo_seen; rw [if_pos (by rw [nI_toInt (by omega)]; omega), nI_clamp (by omega)]; exact hrel) | (unfold fo_seen; (repeat' split) <;> first | rfl | (exfalso; omega) | (exfalso; simp_all; done)))
set_option maxHeartbeats 4000000 in
set_option maxRecDepth 100000 in
theorem om_sureGone {l : Launch} {dC : Nat → ClassId} {dI : Nat → Nat → Nat} {ad : Nat → Nat} {cA : Nat → ClassId} {B : mm_M} (hB : MB B) (p0 : Int32) : Ci l 3 yX12_sureGone wsX12_sureGone dC dI ad cA [.ref (ad 98), .int p0] B (fun r _ => r = fo_sureGone p0) := by
  refine ci_of (cc := cX12_sureGone) (maxL := 5) (ty := .int) (lv := [(0, .ref (ad 98)), (1, .int p0)]) (by decide) rfl (fun r M' hp => rfl) (Nat.le_of_ble_eq_true rfl) rfl ?_
  intro p e s m args below meth c A Q C hret
  refine j_aload_n C 0 0 dX12_sureGone_0 rfl rfl ?_
  refine j_iconst C 0 dX12_sureGone_1 (by decide) ?_
  refine j_putI C 11 qX12_sureGone_1 rfl rfl (by decide) rfl (by decide) rfl dX12_sureGone_2 ?_
  refine z_noI (show B.1 98 0 = 0 from hB.1 98 0 (by decide)) ?_
  refine j_aload_n C 0 0 dX12_sureGone_5 rfl rfl ?_
  refine j_iload_n C 1 1 dX12_sureGone_6 rfl rfl ?_
  refine j_callVi C (d := 2) (As := [.int p0]) (st := []) 98 (by decide) rfl (by decide) rfl (k225_X12_noSeen hB p0) gX12_sureGone_X12_noSeen rfl hdX12_noSeen (by decide) (Nat.le_of_ble_eq_true rfl) dX12_sureGone_7 rfl (fun r M' hp => ?_)
  rcases hp with ⟨h1, rfl, rfl⟩ | ⟨⟨h2, h3⟩, rfl, rfl⟩ | ⟨⟨h4, h5, h6⟩, rfl, rfl⟩ | ⟨⟨h7, h8, h9⟩, rfl, rfl⟩ | ⟨⟨h10, h11, h12⟩, rfl, rfl⟩ | ⟨⟨h13, h14, h15⟩, rfl, rfl⟩
  · refine j_istore_n C 2 [(2, .int (-2)), (0, .ref (ad 98)), (1, .int p0)] dX12_sureGone_10 rfl (by decide) rfl ?_
    refine j_iload_n C 0 2 dX12_sureGone_11 rfl rfl ?_
    refine j_if_eq_f C 17 dX12_sureGone_12 (by decide) (by decide) ?_
    refine j_iload_n C 0 2 dX12_sureGone_15 rfl rfl ?_
    exact hret _ _ _ _ dX12_sureGone_16 (by first | rfl | (unfold fo_sureGone; rw [if_pos (by rw [nI_toInt (by omega)]; omega), nI_clamp (by omega)]; exact hrel) | (unfold fo_sureGone; (repeat' split) <;> first | rfl | (exfalso; omega) | (exfalso; simp_all; done)))
  · refine j_istore_n C 2 [(2, .int (-2)), (0, .ref (ad 98)), (1, .int p0)] dX12_sureGone_10 rfl (by decide) rfl ?_
    refine j_iload_n C 0 2 dX12_sureGone_11 rfl rfl ?_
    refine j_if_eq_f C 17 dX12_sureGone_12 (by decide) (by decide) ?_
    refine j_iload_n C 0 2 dX12_sureGone_15 rfl rfl ?_
    exact hret _ _ _ _ dX12_sureGone_16 (by first | rfl | (unfold fo_sureGone; rw [if_pos (by rw [nI_toInt (by omega)]; omega), nI_clamp (by omega)]; exact hrel) | (unfold fo_sureGone; (repeat' split) <;> first | rfl | (exfalso; omega) | (exfalso; simp_all; done)))
  · refine j_istore_n C 2 [(2, .int (-6)), (0, .ref (ad 98)), (1, .int p0)] dX12_sureGone_10 rfl (by decide) rfl ?_
    refine j_iload_n C 0 2 dX12_sureGone_11 rfl rfl ?_
    refine j_if_eq_f C 17 dX12_sureGone_12 (by decide) (by decide) ?_
    refine j_iload_n C 0 2 dX12_sureGone_15 rfl rfl ?_
    exact hret _ _ _ _ dX12_sureGone_16 (by first | rfl | (unfold fo_sureGone; rw [if_pos (by rw [nI_toInt (by omega)]; omega), nI_clamp (by omega)]; exact hrel) | (unfold fo_sureGone; (repeat' split) <;> first | rfl | (exfalso; omega) | (exfalso; simp_all; done)))
  · refine j_istore_n C 2 [(2, .int (-6)), (0, .ref (ad 98)), (1, .int p0)] dX12_sureGone_10 rfl (by decide) rfl ?_
    refine j_iload_n C 0 2 dX12_sureGone_11 rfl rfl ?_
    refine j_if_eq_f C 17 dX12_sureGone_12 (by decide) (by decide) ?_
    refine j_iload_n C 0 2 dX12_sureGone_15 rfl rfl ?_
    exact hret _ _ _ _ dX12_sureGone_16 (by first | rfl | (unfold fo_sureGone; rw [if_pos (by rw [nI_toInt (by omega)]; omega), nI_clamp (by omega)]; exact hrel) | (unfold fo_sureGone; (repeat' split) <;> first | rfl | (exfalso; omega) | (exfalso; simp_all; done)))
  · refine j_istore_n C 2 [(2, .int (-6)), (0, .ref (ad 98)), (1, .int p0)] dX12_sureGone_10 rfl (by decide) rfl ?_
    refine j_iload_n C 0 2 dX12_sureGone_11 rfl rfl ?_
    refine j_if_eq_f C 17 dX12_sureGone_12 (by decide) (by decide) ?_
    refine j_iload_n C 0 2 dX12_sureGone_15 rfl rfl ?_
    exact hret _ _ _ _ dX12_sureGone_16 (by first | rfl | (unfold fo_sureGone; rw [if_pos (by rw [nI_toInt (by omega)]; omega), nI_clamp (by omega)]; exact hrel) | (unfold fo_sureGone; (repeat' split) <;> first | rfl | (exfalso; omega) | (exfalso; simp_all; done)))
  · refine j_istore_n C 2 [(2, .int (-6)), (0, .ref (ad 98)), (1, .int p0)] dX12_sureGone_10 rfl (by decide) rfl ?_
    refine j_iload_n C 0 2 dX12_sureGone_11 rfl rfl ?_
    refine j_if_eq_f C 17 dX12_sureGone_12 (by decide) (by decide) ?_
    refine j_iload_n C 0 2 dX12_sureGone_15 rfl rfl ?_
    exact hret _ _ _ _ dX12_sureGone_16 (by first | rfl | (unfold fo_sureGone; rw [if_pos (by rw [nI_toInt (by omega)]; omega), nI_clamp (by omega)]; exact hrel) | (unfold fo_sureGone; (repeat' split) <;> first | rfl | (exfalso; omega) | (exfalso; simp_all; done)))
set_option maxHeartbeats 4000000 in
set_option maxRecDepth 100000 in
theorem om_ask {l : Launch} {dC : Nat → ClassId} {dI : Nat → Nat → Nat} {ad : Nat → Nat} {cA : Nat → ClassId} {B : mm_M} (hB : MB B) (p0 : Int32) : Ci l 3 yX12_ask wsX12_ask dC dI ad cA [.ref (ad 98), .int p0] B (fun r _ => r = fo_ask p0) := by
  refine ci_of (cc := cX12_ask) (maxL := 8) (ty := .int) (lv := [(0, .ref (ad 98)), (1, .int p0)]) (by decide) rfl (fun r M' hp => rfl) (Nat.le_of_ble_eq_true rfl) rfl ?_
  intro p e s m args below meth c A Q C hret
  refine j_aload_n C 0 0 dX12_ask_0 rfl rfl ?_
  refine j_iconst C 0 dX12_ask_1 (by decide) ?_
  refine j_putI C 11 qX12_ask_1 rfl rfl (by decide) rfl (by decide) rfl dX12_ask_2 ?_
  refine z_noI (show B.1 98 0 = 0 from hB.1 98 0 (by decide)) ?_
  refine j_aload_n C 0 0 dX12_ask_5 rfl rfl ?_
  refine j_iload_n C 1 1 dX12_ask_6 rfl rfl ?_
  refine j_callVi C (d := 2) (As := [.int p0]) (st := []) 98 (by decide) rfl (by decide) rfl (k225_X12_noSeen hB p0) gX12_ask_X12_noSeen rfl hdX12_noSeen (by decide) (Nat.le_of_ble_eq_true rfl) dX12_ask_7 rfl (fun r M' hp => ?_)
  rcases hp with ⟨h1, rfl, rfl⟩ | ⟨⟨h2, h3⟩, rfl, rfl⟩ | ⟨⟨h4, h5, h6⟩, rfl, rfl⟩ | ⟨⟨h7, h8, h9⟩, rfl, rfl⟩ | ⟨⟨h10, h11, h12⟩, rfl, rfl⟩ | ⟨⟨h13, h14, h15⟩, rfl, rfl⟩
  · refine j_istore_n C 2 [(2, .int (-2)), (0, .ref (ad 98)), (1, .int p0)] dX12_ask_10 rfl (by decide) rfl ?_
    refine j_iload_n C 0 2 dX12_ask_11 rfl rfl ?_
    refine j_if_eq_f C 17 dX12_ask_12 (by decide) (by decide) ?_
    refine j_iload_n C 0 2 dX12_ask_15 rfl rfl ?_
    exact hret _ _ _ _ dX12_ask_16 (by first | rfl | (unfold fo_ask; rw [if_pos (by rw [nI_toInt (by omega)]; omega), nI_clamp (by omega)]; exact hrel) | (unfold fo_ask; (repeat' split) <;> first | rfl | (exfalso; omega) | (exfalso; simp_all; done)))
  · refine j_istore_n C 2 [(2, .int (-2)), (0, .ref (ad 98)), (1, .int p0)] dX12_ask_10 rfl (by decide) rfl ?_
    refine j_iload_n C 0 2 dX12_ask_11 rfl rfl ?_
    refine j_if_eq_f C 17 dX12_ask_12 (by decide) (by decide) ?_
    refine j_iload_n C 0 2 dX12_ask_15 rfl rfl ?_
    exact hret _ _ _ _ dX12_ask_16 (by first | rfl | (unfold fo_ask; rw [if_pos (by rw [nI_toInt (by omega)]; omega), nI_clamp (by omega)]; exact hrel) | (unfold fo_ask; (repeat' split) <;> first | rfl | (exfalso; omega) | (exfalso; simp_all; done)))
  · refine j_istore_n C 2 [(2, .int (-6)), (0, .ref (ad 98)), (1, .int p0)] dX12_ask_10 rfl (by decide) rfl ?_
    refine j_iload_n C 0 2 dX12_ask_11 rfl rfl ?_
    refine j_if_eq_f C 17 dX12_ask_12 (by decide) (by decide) ?_
    refine j_iload_n C 0 2 dX12_ask_15 rfl rfl ?_
    exact hret _ _ _ _ dX12_ask_16 (by first | rfl | (unfold fo_ask; rw [if_pos (by rw [nI_toInt (by omega)]; omega), nI_clamp (by omega)]; exact hrel) | (unfold fo_ask; (repeat' split) <;> first | rfl | (exfalso; omega) | (exfalso; simp_all; done)))
  · refine j_istore_n C 2 [(2, .int (-6)), (0, .ref (ad 98)), (1, .int p0)] dX12_ask_10 rfl (by decide) rfl ?_
    refine j_iload_n C 0 2 dX12_ask_11 rfl rfl ?_
    refine j_if_eq_f C 17 dX12_ask_12 (by decide) (by decide) ?_
    refine j_iload_n C 0 2 dX12_ask_15 rfl rfl ?_
    exact hret _ _ _ _ dX12_ask_16 (by first | rfl | (unfold fo_ask; rw [if_pos (by rw [nI_toInt (by omega)]; omega), nI_clamp (by omega)]; exact hrel) | (unfold fo_ask; (repeat' split) <;> first | rfl | (exfalso; omega) | (exfalso; simp_all; done)))
  · refine j_istore_n C 2 [(2, .int (-6)), (0, .ref (ad 98)), (1, .int p0)] dX12_ask_10 rfl (by decide) rfl ?_
    refine j_iload_n C 0 2 dX12_ask_11 rfl rfl ?_
    refine j_if_eq_f C 17 dX12_ask_12 (by decide) (by decide) ?_
    refine j_iload_n C 0 2 dX12_ask_15 rfl rfl ?_
    exact hret _ _ _ _ dX12_ask_16 (by first | rfl | (unfold fo_ask; rw [if_pos (by rw [nI_toInt (by omega)]; omega), nI_clamp (by omega)]; exact hrel) | (unfold fo_ask; (repeat' split) <;> first | rfl | (exfalso; omega) | (exfalso; simp_all; done)))
  · refine j_istore_n C 2 [(2, .int (-6)), (0, .ref (ad 98)), (1, .int p0)] dX12_ask_10 rfl (by decide) rfl ?_
    refine j_iload_n C 0 2 dX12_ask_11 rfl rfl ?_
    refine j_if_eq_f C 17 dX12_ask_12 (by decide) (by decide) ?_
    refine j_iload_n C 0 2 dX12_ask_15 rfl rfl ?_
    exact hret _ _ _ _ dX12_ask_16 (by first | rfl | (unfold fo_ask; rw [if_pos (by rw [nI_toInt (by omega)]; omega), nI_clamp (by omega)]; exact hrel) | (unfold fo_ask; (repeat' split) <;> first | rfl | (exfalso; omega) | (exfalso; simp_all; done)))
set_option maxHeartbeats 4000000 in
set_option maxRecDepth 100000 in
theorem k233_X12_noGone {l : Launch} {dC : Nat → ClassId} {dI : Nat → Nat → Nat} {ad : Nat → Nat} {cA : Nat → ClassId} {B : mm_M} (hB : MB B) (p0 : Int32) : Ci l 2 yX12_noGone wsX12_noGone dC dI ad cA [.ref (ad 98), .int p0] B (fun r M' => ((p0.toInt < 0) ∧ (-2) = r ∧ B = M') ∨ ((¬ p0.toInt < 0 ∧ 3 < p0.toInt) ∧ (-2) = r ∧ B = M') ∨ ((¬ p0.toInt < 0 ∧ ¬ 3 < p0.toInt ∧ p0 = 0) ∧ (-6) = r ∧ B = M') ∨ ((¬ p0.toInt < 0 ∧ ¬ 3 < p0.toInt ∧ p0 = 1) ∧ (-6) = r ∧ B = M') ∨ ((¬ p0.toInt < 0 ∧ ¬ 3 < p0.toInt ∧ p0 = 2) ∧ (-6) = r ∧ B = M') ∨ ((¬ p0.toInt < 0 ∧ ¬ 3 < p0.toInt ∧ p0 = 3) ∧ (-6) = r ∧ B = M')) := by
  refine ci_of (cc := cX12_noGone) (maxL := 4) (ty := .int) (lv := [(0, .ref (ad 98)), (1, .int p0)]) (by decide) rfl (fun r M' hp => rfl) (Nat.le_of_ble_eq_true rfl) rfl ?_
  intro p e s m args below meth c A Q C hret
  refine j_aload_n C 0 0 dX12_noGone_0 rfl rfl ?_
  refine j_iload_n C 1 1 dX12_noGone_1 rfl rfl ?_
  refine j_callVi C (d := 1) (As := [.int p0]) (st := []) 98 (by decide) rfl (by decide) rfl (k101_X12_noTray hB p0) gX12_noGone_X12_noTray rfl hdX12_noTray (by decide) (Nat.le_of_ble_eq_true rfl) dX12_noGone_2 rfl (fun r M' hp => ?_)
  rcases hp with ⟨h1, rfl, rfl⟩ | ⟨⟨h2, h3⟩, rfl, rfl⟩ | ⟨⟨h4, h5, h6⟩, rfl, rfl⟩ | ⟨⟨h7, h8, h9⟩, rfl, rfl⟩ | ⟨⟨h10, h11, h12⟩, rfl, rfl⟩ | ⟨⟨h13, h14, h15⟩, rfl, rfl⟩
  · refine j_istore_n C 2 [(2, .int (-2)), (0, .ref (ad 98)), (1, .int p0)] dX12_noGone_5 rfl (by decide) rfl ?_
    refine j_iload_n C 0 2 dX12_noGone_6 rfl rfl ?_
    refine j_if_eq_f C 12 dX12_noGone_7 (by decide) (by decide) ?_
    refine j_iload_n C 0 2 dX12_noGone_10 rfl rfl ?_
    exact hret _ _ _ _ dX12_noGone_11 (Or.inl ⟨h1, rfl, rfl⟩)
  · refine j_istore_n C 2 [(2, .int (-2)), (0, .ref (ad 98)), (1, .int p0)] dX12_noGone_5 rfl (by decide) rfl ?_
    refine j_iload_n C 0 2 dX12_noGone_6 rfl rfl ?_
    refine j_if_eq_f C 12 dX12_noGone_7 (by decide) (by decide) ?_
    refine j_iload_n C 0 2 dX12_noGone_10 rfl rfl ?_
    exact hret _ _ _ _ dX12_noGone_11 (Or.inr (Or.inl ⟨⟨h2, h3⟩, rfl, rfl⟩))
  · refine j_istore_n C 2 [(2, .int (-6)), (0, .ref (ad 98)), (1, .int p0)] dX12_noGone_5 rfl (by decide) rfl ?_
    refine j_iload_n C 0 2 dX12_noGone_6 rfl rfl ?_
    refine j_if_eq_f C 12 dX12_noGone_7 (by decide) (by decide) ?_
    refine j_iload_n C 0 2 dX12_noGone_10 rfl rfl ?_
    exact hret _ _ _ _ dX12_noGone_11 (Or.inr (Or.inr (Or.inl ⟨⟨h4, h5, h6⟩, rfl, rfl⟩)))
  · refine j_istore_n C 2 [(2, .int (-6)), (0, .ref (ad 98)), (1, .int p0)] dX12_noGone_5 rfl (by decide) rfl ?_
    refine j_iload_n C 0 2 dX12_noGone_6 rfl rfl ?_
    refine j_if_eq_f C 12 dX12_noGone_7 (by decide) (by decide) ?_
    refine j_iload_n C 0 2 dX12_noGone_10 rfl rfl ?_
    exact hret _ _ _ _ dX12_noGone_11 (Or.inr (Or.inr (Or.inr (Or.inl ⟨⟨h7, h8, h9⟩, rfl, rfl⟩))))
  · refine j_istore_n C 2 [(2, .int (-6)), (0, .ref (ad 98)), (1, .int p0)] dX12_noGone_5 rfl (by decide) rfl ?_
    refine j_iload_n C 0 2 dX12_noGone_6 rfl rfl ?_
    refine j_if_eq_f C 12 dX12_noGone_7 (by decide) (by decide) ?_
    refine j_iload_n C 0 2 dX12_noGone_10 rfl rfl ?_
    exact hret _ _ _ _ dX12_noGone_11 (Or.inr (Or.inr (Or.inr (Or.inr (Or.inl ⟨⟨h10, h11, h12⟩, rfl, rfl⟩)))))
  · refine j_istore_n C 2 [(2, .int (-6)), (0, .ref (ad 98)), (1, .int p0)] dX12_noGone_5 rfl (by decide) rfl ?_
    refine j_iload_n C 0 2 dX12_noGone_6 rfl rfl ?_
    refine j_if_eq_f C 12 dX12_noGone_7 (by decide) (by decide) ?_
    refine j_iload_n C 0 2 dX12_noGone_10 rfl rfl ?_
    exact hret _ _ _ _ dX12_noGone_11 (Or.inr (Or.inr (Or.inr (Or.inr (Or.inr ⟨⟨h13, h14, h15⟩, rfl, rfl⟩)))))
set_option maxHeartbeats 4000000 in
set_option maxRecDepth 100000 in
theorem om_came {l : Launch} {dC : Nat → ClassId} {dI : Nat → Nat → Nat} {ad : Nat → Nat} {cA : Nat → ClassId} {B : mm_M} (hB : MB B) (p0 : Int32) : Cj l 3 yX12_came wsX12_came dC dI ad cA [.ref (ad 98), .int p0] B (fun r _ => r = fo_came p0) := by
  refine cj_of (cc := cX12_came) (maxL := 3) (lv := [(0, .ref (ad 98)), (1, .int p0)]) (by decide) rfl (Nat.le_of_ble_eq_true rfl) rfl ?_
  intro p e s m args below meth c A Q C hret
  refine j_aload_n C 0 0 dX12_came_0 rfl rfl ?_
  refine j_iconst C 0 dX12_came_1 (by decide) ?_
  refine j_putI C 11 qX12_came_1 rfl rfl (by decide) rfl (by decide) rfl dX12_came_2 ?_
  refine z_noI (show B.1 98 0 = 0 from hB.1 98 0 (by decide)) ?_
  refine j_aload_n C 0 0 dX12_came_5 rfl rfl ?_
  refine j_iload_n C 1 1 dX12_came_6 rfl rfl ?_
  refine j_callVi C (d := 2) (As := [.int p0]) (st := []) 98 (by decide) rfl (by decide) rfl (k233_X12_noGone hB p0) gX12_came_X12_noGone rfl hdX12_noGone (by decide) (Nat.le_of_ble_eq_true rfl) dX12_came_7 rfl (fun r M' hp => ?_)
  rcases hp with ⟨h1, rfl, rfl⟩ | ⟨⟨h2, h3⟩, rfl, rfl⟩ | ⟨⟨h4, h5, h6⟩, rfl, rfl⟩ | ⟨⟨h7, h8, h9⟩, rfl, rfl⟩ | ⟨⟨h10, h11, h12⟩, rfl, rfl⟩ | ⟨⟨h13, h14, h15⟩, rfl, rfl⟩
  · refine j_istore_n C 2 [(2, .int (-2)), (0, .ref (ad 98)), (1, .int p0)] dX12_came_10 rfl (by decide) rfl ?_
    refine j_iload_n C 0 2 dX12_came_11 rfl rfl ?_
    refine j_if_eq_f C 20 dX12_came_12 (by decide) (by decide) ?_
    refine j_iload_n C 0 2 dX12_came_15 rfl rfl ?_
    refine z_i2l C (-2) (by decide) dX12_came_16 ?_
    refine j_goto C 27 dX12_came_17 (by decide) ?_
    exact hret _ _ _ _ dX12_came_27 (by first | rfl | (unfold fo_came; rw [if_pos (by rw [nI_toInt (by omega)]; omega), nI_clamp (by omega)]; exact hrel) | (unfold fo_came; (repeat' split) <;> first | rfl | (exfalso; omega) | (exfalso; simp_all; done)))
  · refine j_istore_n C 2 [(2, .int (-2)), (0, .ref (ad 98)), (1, .int p0)] dX12_came_10 rfl (by decide) rfl ?_
    refine j_iload_n C 0 2 dX12_came_11 rfl rfl ?_
    refine j_if_eq_f C 20 dX12_came_12 (by decide) (by decide) ?_
    refine j_iload_n C 0 2 dX12_came_15 rfl rfl ?_
    refine z_i2l C (-2) (by decide) dX12_came_16 ?_
    refine j_goto C 27 dX12_came_17 (by decide) ?_
    exact hret _ _ _ _ dX12_came_27 (by first | rfl | (unfold fo_came; rw [if_pos (by rw [nI_toInt (by omega)]; omega), nI_clamp (by omega)]; exact hrel) | (unfold fo_came; (repeat' split) <;> first | rfl | (exfalso; omega) | (exfalso; simp_all; done)))
  · refine j_istore_n C 2 [(2, .int (-6)), (0, .ref (ad 98)), (1, .int p0)] dX12_came_10 rfl (by decide) rfl ?_
    refine j_iload_n C 0 2 dX12_came_11 rfl rfl ?_
    refine j_if_eq_f C 20 dX12_came_12 (by decide) (by decide) ?_
    refine j_iload_n C 0 2 dX12_came_15 rfl rfl ?_
    refine z_i2l C (-6) (by decide) dX12_came_16 ?_
    refine j_goto C 27 dX12_came_17 (by decide) ?_
    exact hret _ _ _ _ dX12_came_27 (by first | rfl | (unfold fo_came; rw [if_pos (by rw [nI_toInt (by omega)]; omega), nI_clamp (by omega)]; exact hrel) | (unfold fo_came; (repeat' split) <;> first | rfl | (exfalso; omega) | (exfalso; simp_all; done)))
  · refine j_istore_n C 2 [(2, .int (-6)), (0, .ref (ad 98)), (1, .int p0)] dX12_came_10 rfl (by decide) rfl ?_
    refine j_iload_n C 0 2 dX12_came_11 rfl rfl ?_
    refine j_if_eq_f C 20 dX12_came_12 (by decide) (by decide) ?_
    refine j_iload_n C 0 2 dX12_came_15 rfl rfl ?_
    refine z_i2l C (-6) (by decide) dX12_came_16 ?_
    refine j_goto C 27 dX12_came_17 (by decide) ?_
    exact hret _ _ _ _ dX12_came_27 (by first | rfl | (unfold fo_came; rw [if_pos (by rw [nI_toInt (by omega)]; omega), nI_clamp (by omega)]; exact hrel) | (unfold fo_came; (repeat' split) <;> first | rfl | (exfalso; omega) | (exfalso; simp_all; done)))
  · refine j_istore_n C 2 [(2, .int (-6)), (0, .ref (ad 98)), (1, .int p0)] dX12_came_10 rfl (by decide) rfl ?_
    refine j_iload_n C 0 2 dX12_came_11 rfl rfl ?_
    refine j_if_eq_f C 20 dX12_came_12 (by decide) (by decide) ?_
    refine j_iload_n C 0 2 dX12_came_15 rfl rfl ?_
    refine z_i2l C (-6) (by decide) dX12_came_16 ?_
    refine j_goto C 27 dX12_came_17 (by decide) ?_
    exact hret _ _ _ _ dX12_came_27 (by first | rfl | (unfold fo_came; rw [if_pos (by rw [nI_toInt (by omega)]; omega), nI_clamp (by omega)]; exact hrel) | (unfold fo_came; (repeat' split) <;> first | rfl | (exfalso; omega) | (exfalso; simp_all; done)))
  · refine j_istore_n C 2 [(2, .int (-6)), (0, .ref (ad 98)), (1, .int p0)] dX12_came_10 rfl (by decide) rfl ?_
    refine j_iload_n C 0 2 dX12_came_11 rfl rfl ?_
    refine j_if_eq_f C 20 dX12_came_12 (by decide) (by decide) ?_
    refine j_iload_n C 0 2 dX12_came_15 rfl rfl ?_
    refine z_i2l C (-6) (by decide) dX12_came_16 ?_
    refine j_goto C 27 dX12_came_17 (by decide) ?_
    exact hret _ _ _ _ dX12_came_27 (by first | rfl | (unfold fo_came; rw [if_pos (by rw [nI_toInt (by omega)]; omega), nI_clamp (by omega)]; exact hrel) | (unfold fo_came; (repeat' split) <;> first | rfl | (exfalso; omega) | (exfalso; simp_all; done)))
