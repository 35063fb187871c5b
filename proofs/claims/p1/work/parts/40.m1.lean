set_option maxHeartbeats 4000000 in
set_option maxRecDepth 100000 in
theorem k68_X12_within {l : Launch} {dC : Nat → ClassId} {dI : Nat → Nat → Nat} {ad : Nat → Nat} {cA : Nat → ClassId} {B : mm_M} (hB : MB B) (p0 : Int32) : Ci l 0 yX12_within wsX12_within dC dI ad cA [.long p0.toInt64, .long 1, .long 99] B (fun r M' => ((p0.toInt < 1) ∧ 0 = r ∧ B = M') ∨ ((¬ p0.toInt < 1 ∧ 99 < p0.toInt) ∧ 0 = r ∧ B = M') ∨ ((¬ p0.toInt < 1 ∧ ¬ 99 < p0.toInt) ∧ 1 = r ∧ B = M')) := by
  refine ci_of (cc := cX12_within) (maxL := 6) (ty := .boolean) (lv := [(0, .long p0.toInt64), (2, .long 1), (4, .long 99)]) (by decide) rfl (fun r M' hp => by rcases hp with ⟨-, rfl, rfl⟩ | ⟨-, rfl, rfl⟩ | ⟨-, rfl, rfl⟩ <;> rfl) (Nat.le_of_ble_eq_true rfl) rfl ?_
  intro p e s m args below meth c A Q C hret
  refine j_lload_n C 0 0 dX12_within_0 rfl rfl ?_
  refine j_lload_n C 1 2 dX12_within_1 rfl rfl ?_
  refine z_lcmp_lt C 17 p0.toInt 1 ((Int32.toInt_toInt64 p0).trans rfl) (by decide) dX12_within_2 dX12_within_3 (by decide) (fun h1 => ?_) (fun h1 => ?_)
  · refine j_iconst C 0 dX12_within_17 (by decide) ?_
    exact hret _ _ _ _ dX12_within_18 (Or.inl ⟨h1, rfl, rfl⟩)
  · refine j_lload_n C 0 0 dX12_within_6 rfl rfl ?_
    refine j_lload C 2 dX12_within_7 rfl ?_
    refine z_lcmp_gt C 17 p0.toInt 99 ((Int32.toInt_toInt64 p0).trans rfl) (by decide) dX12_within_9 dX12_within_10 (by decide) (fun h2 => ?_) (fun h2 => ?_)
    · refine j_iconst C 0 dX12_within_17 (by decide) ?_
      exact hret _ _ _ _ dX12_within_18 (Or.inr (Or.inl ⟨⟨h1, h2⟩, rfl, rfl⟩))
    · refine j_iconst C 1 dX12_within_13 (by decide) ?_
      refine j_goto C 18 dX12_within_14 (by decide) ?_
      exact hret _ _ _ _ dX12_within_18 (Or.inr (Or.inr ⟨⟨h1, h2⟩, rfl, rfl⟩))
set_option maxHeartbeats 4000000 in
set_option maxRecDepth 100000 in
theorem k69_X12_isPrice {l : Launch} {dC : Nat → ClassId} {dI : Nat → Nat → Nat} {ad : Nat → Nat} {cA : Nat → ClassId} {B : mm_M} (hB : MB B) (p0 : Int32) : Ci l 1 yX12_isPrice wsX12_isPrice dC dI ad cA [.long p0.toInt64] B (fun r M' => ((p0.toInt < 1) ∧ 0 = r ∧ B = M') ∨ ((¬ p0.toInt < 1 ∧ 99 < p0.toInt) ∧ 0 = r ∧ B = M') ∨ ((¬ p0.toInt < 1 ∧ ¬ 99 < p0.toInt) ∧ 1 = r ∧ B = M')) := by
  refine ci_of (cc := cX12_isPrice) (maxL := 2) (ty := .boolean) (lv := [(0, .long p0.toInt64)]) (by decide) rfl (fun r M' hp => by rcases hp with ⟨-, rfl, rfl⟩ | ⟨-, rfl, rfl⟩ | ⟨-, rfl, rfl⟩ <;> rfl) (Nat.le_of_ble_eq_true rfl) rfl ?_
  intro p e s m args below meth c A Q C hret
  refine j_lload_n C 0 0 dX12_isPrice_0 rfl rfl ?_
  refine j_lconst C 1 dX12_isPrice_1 (by decide) ?_
  refine j_ldc2 C 99 dX12_isPrice_2 (by decide +kernel) ?_
  refine j_callSi C (d := 0) (As := [.long p0.toInt64, .long 1, .long 99]) (st := []) (k68_X12_within hB p0) gX12_isPrice_X12_within rfl hdX12_withins (by decide) (Nat.le_of_ble_eq_true rfl) dX12_isPrice_5 rfl (fun r M' hp => ?_)
  rcases hp with ⟨h1, rfl, rfl⟩ | ⟨⟨h2, h3⟩, rfl, rfl⟩ | ⟨⟨h4, h5⟩, rfl, rfl⟩
  · exact hret _ _ _ _ dX12_isPrice_8 (Or.inl ⟨h1, rfl, rfl⟩)
  · exact hret _ _ _ _ dX12_isPrice_8 (Or.inr (Or.inl ⟨⟨h2, h3⟩, rfl, rfl⟩))
  · exact hret _ _ _ _ dX12_isPrice_8 (Or.inr (Or.inr ⟨⟨h4, h5⟩, rfl, rfl⟩))
set_option maxHeartbeats 4000000 in
set_option maxRecDepth 100000 in
theorem k70_X12_within {l : Launch} {dC : Nat → ClassId} {dI : Nat → Nat → Nat} {ad : Nat → Nat} {cA : Nat → ClassId} {B : mm_M} (hB : MB B) (p0 : Int32) : Ci l 0 yX12_within wsX12_within dC dI ad cA [.long p0.toInt64, .long 0, .long 9] B (fun r M' => ((p0.toInt < 0) ∧ 0 = r ∧ B = M') ∨ ((¬ p0.toInt < 0 ∧ 9 < p0.toInt) ∧ 0 = r ∧ B = M') ∨ ((¬ p0.toInt < 0 ∧ ¬ 9 < p0.toInt) ∧ 1 = r ∧ B = M')) := by
  refine ci_of (cc := cX12_within) (maxL := 6) (ty := .boolean) (lv := [(0, .long p0.toInt64), (2, .long 0), (4, .long 9)]) (by decide) rfl (fun r M' hp => by rcases hp with ⟨-, rfl, rfl⟩ | ⟨-, rfl, rfl⟩ | ⟨-, rfl, rfl⟩ <;> rfl) (Nat.le_of_ble_eq_true rfl) rfl ?_
  intro p e s m args below meth c A Q C hret
  refine j_lload_n C 0 0 dX12_within_0 rfl rfl ?_
  refine j_lload_n C 1 2 dX12_within_1 rfl rfl ?_
  refine z_lcmp_lt C 17 p0.toInt 0 ((Int32.toInt_toInt64 p0).trans rfl) (by decide) dX12_within_2 dX12_within_3 (by decide) (fun h1 => ?_) (fun h1 => ?_)
  · refine j_iconst C 0 dX12_within_17 (by decide) ?_
    exact hret _ _ _ _ dX12_within_18 (Or.inl ⟨h1, rfl, rfl⟩)
  · refine j_lload_n C 0 0 dX12_within_6 rfl rfl ?_
    refine j_lload C 2 dX12_within_7 rfl ?_
    refine z_lcmp_gt C 17 p0.toInt 9 ((Int32.toInt_toInt64 p0).trans rfl) (by decide) dX12_within_9 dX12_within_10 (by decide) (fun h2 => ?_) (fun h2 => ?_)
    · refine j_iconst C 0 dX12_within_17 (by decide) ?_
      exact hret _ _ _ _ dX12_within_18 (Or.inr (Or.inl ⟨⟨h1, h2⟩, rfl, rfl⟩))
    · refine j_iconst C 1 dX12_within_13 (by decide) ?_
      refine j_goto C 18 dX12_within_14 (by decide) ?_
      exact hret _ _ _ _ dX12_within_18 (Or.inr (Or.inr ⟨⟨h1, h2⟩, rfl, rfl⟩))
set_option maxHeartbeats 4000000 in
set_option maxRecDepth 100000 in
theorem k71_X12_everyKind {l : Launch} {dC : Nat → ClassId} {dI : Nat → Nat → Nat} {ad : Nat → Nat} {cA : Nat → ClassId} {B : mm_M} (hB : MB B) : Ci l 0 yX12_everyKind wsX12_everyKind dC dI ad cA [.ref (ad 98)] B (fun r M' => 0 = r ∧ B = M') := by
  refine ci_of (cc := cX12_everyKind) (maxL := 1) (ty := .int) (lv := [(0, .ref (ad 98))]) (by decide) rfl (fun r M' hp => rfl) (Nat.le_of_ble_eq_true rfl) rfl ?_
  intro p e s m args below meth c A Q C hret
  refine j_iconst C 1 dX12_everyKind_0 (by decide) ?_
  refine j_aload_n C 0 0 dX12_everyKind_1 rfl rfl ?_
  refine j_getP C 11 99 fX12_everyKind_13 (by decide) rfl (by decide) rfl (show B.2.2 98 1 = 99 from hB.2.2 98 1 (by decide)) dX12_everyKind_2 ?_
  refine j_bipush C 26 dX12_everyKind_5 (by decide) ?_
  refine x_iald C 26 3543 0 (by decide) rfl rfl rfl (by decide) (by decide) (show B.1 99 26 = 0 from hB.1 99 26 (by decide)) dX12_everyKind_7 ?_
  refine z_ishl C 1 (by decide) dX12_everyKind_8 ?_
  refine j_iconst C 1 dX12_everyKind_9 (by decide) ?_
  refine z_isub C 0 (by decide) dX12_everyKind_10 ?_
  exact hret _ _ _ _ dX12_everyKind_11 ⟨rfl, rfl⟩
set_option maxHeartbeats 4000000 in
set_option maxRecDepth 100000 in
theorem k72_X12_shown {l : Launch} {dC : Nat → ClassId} {dI : Nat → Nat → Nat} {ad : Nat → Nat} {cA : Nat → ClassId} {B : mm_M} (hB : MB B) : Ci l 1 yX12_shown wsX12_shown dC dI ad cA [.ref (ad 98)] B (fun r M' => 0 = r ∧ B = M') := by
  refine ci_of (cc := cX12_shown) (maxL := 1) (ty := .int) (lv := [(0, .ref (ad 98))]) (by decide) rfl (fun r M' hp => rfl) (Nat.le_of_ble_eq_true rfl) rfl ?_
  intro p e s m args below meth c A Q C hret
  refine j_aload_n C 0 0 dX12_shown_0 rfl rfl ?_
  refine j_callVi C (d := 0) (As := []) (st := []) 98 (by decide) rfl (by decide) rfl (k71_X12_everyKind hB) gX12_shown_X12_everyKind rfl hdX12_everyKind (by decide) (Nat.le_of_ble_eq_true rfl) dX12_shown_1 rfl (fun r M' hp => ?_)
  obtain ⟨rfl, rfl⟩ := hp
  refine j_aload_n C 0 0 dX12_shown_4 rfl rfl ?_
  refine j_getP C 11 99 fX12_shown_13 (by decide) rfl (by decide) rfl (show B.2.2 98 1 = 99 from hB.2.2 98 1 (by decide)) dX12_shown_5 ?_
  refine j_bipush C 28 dX12_shown_8 (by decide) ?_
  refine x_iald C 28 3543 0 (by decide) rfl rfl rfl (by decide) (by decide) (show B.1 99 28 = 0 from hB.1 99 28 (by decide)) dX12_shown_10 ?_
  refine j_iconst C (-1) dX12_shown_11 (by decide) ?_
  refine z_ixor C (-1) (by decide) dX12_shown_12 ?_
  refine z_iand C 0 (by decide) dX12_shown_13 ?_
  exact hret _ _ _ _ dX12_shown_14 ⟨rfl, rfl⟩
set_option maxHeartbeats 4000000 in
set_option maxRecDepth 100000 in
theorem k73_X12_isShutBy {l : Launch} {dC : Nat → ClassId} {dI : Nat → Nat → Nat} {ad : Nat → Nat} {cA : Nat → ClassId} {B : mm_M} (hB : MB B) : Ci l 2 yX12_isShutBy wsX12_isShutBy dC dI ad cA [.ref (ad 98), .int 0] B (fun r M' => 1 = r ∧ B = M') := by
  refine ci_of (cc := cX12_isShutBy) (maxL := 2) (ty := .boolean) (lv := [(0, .ref (ad 98)), (1, .int 0)]) (by decide) rfl (fun r M' hp => by obtain ⟨rfl, rfl⟩ := hp; rfl) (Nat.le_of_ble_eq_true rfl) rfl ?_
  intro p e s m args below meth c A Q C hret
  refine j_aload_n C 0 0 dX12_isShutBy_0 rfl rfl ?_
  refine j_callVi C (d := 1) (As := []) (st := []) 98 (by decide) rfl (by decide) rfl (k72_X12_shown hB) gX12_isShutBy_X12_shown rfl hdX12_shown (by decide) (Nat.le_of_ble_eq_true rfl) dX12_isShutBy_1 rfl (fun r M' hp => ?_)
  obtain ⟨rfl, rfl⟩ := hp
  refine j_iload_n C 1 1 dX12_isShutBy_4 rfl rfl ?_
  refine j_iconst C (-1) dX12_isShutBy_5 (by decide) ?_
  refine z_ixor C (-1) (by decide) dX12_isShutBy_6 ?_
  refine z_iand C 0 (by decide) dX12_isShutBy_7 ?_
  refine j_if_ne_f C 15 dX12_isShutBy_8 (by decide) (by decide) ?_
  refine j_iconst C 1 dX12_isShutBy_11 (by decide) ?_
  refine j_goto C 16 dX12_isShutBy_12 (by decide) ?_
  exact hret _ _ _ _ dX12_isShutBy_16 ⟨rfl, rfl⟩
set_option maxHeartbeats 4000000 in
set_option maxRecDepth 100000 in
theorem k74_X12_isShut {l : Launch} {dC : Nat → ClassId} {dI : Nat → Nat → Nat} {ad : Nat → Nat} {cA : Nat → ClassId} {B : mm_M} (hB : MB B) : Ci l 3 yX12_isShut wsX12_isShut dC dI ad cA [.ref (ad 98)] B (fun r M' => 1 = r ∧ B = M') := by
  refine ci_of (cc := cX12_isShut) (maxL := 1) (ty := .boolean) (lv := [(0, .ref (ad 98))]) (by decide) rfl (fun r M' hp => by obtain ⟨rfl, rfl⟩ := hp; rfl) (Nat.le_of_ble_eq_true rfl) rfl ?_
  intro p e s m args below meth c A Q C hret
  refine j_aload_n C 0 0 dX12_isShut_0 rfl rfl ?_
  refine j_aload_n C 0 0 dX12_isShut_1 rfl rfl ?_
  refine j_getP C 11 99 fX12_isShut_13 (by decide) rfl (by decide) rfl (show B.2.2 98 1 = 99 from hB.2.2 98 1 (by decide)) dX12_isShut_2 ?_
  refine j_bipush C 27 dX12_isShut_5 (by decide) ?_
  refine x_iald C 27 3543 0 (by decide) rfl rfl rfl (by decide) (by decide) (show B.1 99 27 = 0 from hB.1 99 27 (by decide)) dX12_isShut_7 ?_
  refine j_callVi C (d := 2) (As := [.int 0]) (st := []) 98 (by decide) rfl (by decide) rfl (k73_X12_isShutBy hB) gX12_isShut_X12_isShutBy rfl hdX12_isShutBy (by decide) (Nat.le_of_ble_eq_true rfl) dX12_isShut_8 rfl (fun r M' hp => ?_)
  obtain ⟨rfl, rfl⟩ := hp
  exact hret _ _ _ _ dX12_isShut_11 ⟨rfl, rfl⟩
set_option maxHeartbeats 4000000 in
set_option maxRecDepth 100000 in
theorem om_add {l : Launch} {dC : Nat → ClassId} {dI : Nat → Nat → Nat} {ad : Nat → Nat} {cA : Nat → ClassId} {B : mm_M} (hB : MB B) (p0 : Int32) (p1 : Int32) : Ci l 4 yX12_add wsX12_add dC dI ad cA [.ref (ad 98), .int p0, .int p1] B (fun r _ => r = fo_add p0 p1) := by
  refine ci_of (cc := cX12_add) (maxL := 4) (ty := .int) (lv := [(0, .ref (ad 98)), (1, .int p0), (2, .int p1)]) (by decide) rfl (fun r M' hp => rfl) (Nat.le_of_ble_eq_true rfl) rfl ?_
  intro p e s m args below meth c A Q C hret
  refine j_aload_n C 0 0 dX12_add_0 rfl rfl ?_
  refine j_iconst C 0 dX12_add_1 (by decide) ?_
  refine j_putI C 11 qX12_add_1 rfl rfl (by decide) rfl (by decide) rfl dX12_add_2 ?_
  refine z_noI (show B.1 98 0 = 0 from hB.1 98 0 (by decide)) ?_
  refine j_iload_n C 1 1 dX12_add_5 rfl rfl ?_
  refine z_i2l C p0.toInt64 rfl dX12_add_6 ?_
  refine j_callSi C (d := 1) (As := [.long p0.toInt64]) (st := []) (k69_X12_isPrice hB p0) gX12_add_X12_isPrice rfl hdX12_isPrices (by decide) (Nat.le_of_ble_eq_true rfl) dX12_add_7 rfl (fun r M' hp => ?_)
  rcases hp with ⟨h1, rfl, rfl⟩ | ⟨⟨h2, h3⟩, rfl, rfl⟩ | ⟨⟨h4, h5⟩, rfl, rfl⟩
  · refine j_if_eq_t C 25 dX12_add_10 (by decide) (by decide) ?_
    refine j_bipush C (-11) dX12_add_25 (by decide) ?_
    exact hret _ _ _ _ dX12_add_27 (by first | rfl | (unfold fo_add; rw [if_pos (by rw [nI_toInt (by omega)]; omega), nI_clamp (by omega)]; exact hrel) | (unfold fo_add; (repeat' split) <;> first | rfl | (exfalso; omega) | (exfalso; simp_all; done)))
  · refine j_if_eq_t C 25 dX12_add_10 (by decide) (by decide) ?_
    refine j_bipush C (-11) dX12_add_25 (by decide) ?_
    exact hret _ _ _ _ dX12_add_27 (by first | rfl | (unfold fo_add; rw [if_pos (by rw [nI_toInt (by omega)]; omega), nI_clamp (by omega)]; exact hrel) | (unfold fo_add; (repeat' split) <;> first | rfl | (exfalso; omega) | (exfalso; simp_all; done)))
  · refine j_if_eq_f C 25 dX12_add_10 (by decide) (by decide) ?_
    refine j_iload_n C 2 2 dX12_add_13 rfl rfl ?_
    refine z_i2l C p1.toInt64 rfl dX12_add_14 ?_
    refine j_lconst C 0 dX12_add_15 (by decide) ?_
    refine j_ldc2 C 9 dX12_add_16 (by decide +kernel) ?_
    refine j_callSi C (d := 0) (As := [.long p1.toInt64, .long 0, .long 9]) (st := []) (k70_X12_within hB p1) gX12_add_X12_within rfl hdX12_withins (by decide) (Nat.le_of_ble_eq_true rfl) dX12_add_19 rfl (fun r M' hp => ?_)
    rcases hp with ⟨h6, rfl, rfl⟩ | ⟨⟨h7, h8⟩, rfl, rfl⟩ | ⟨⟨h9, h10⟩, rfl, rfl⟩
    · refine j_if_ne_f C 28 dX12_add_22 (by decide) (by decide) ?_
      refine j_bipush C (-11) dX12_add_25 (by decide) ?_
      exact hret _ _ _ _ dX12_add_27 (by first | rfl | (unfold fo_add; rw [if_pos (by rw [nI_toInt (by omega)]; omega), nI_clamp (by omega)]; exact hrel) | (unfold fo_add; (repeat' split) <;> first | rfl | (exfalso; omega) | (exfalso; simp_all; done)))
    · refine j_if_ne_f C 28 dX12_add_22 (by decide) (by decide) ?_
      refine j_bipush C (-11) dX12_add_25 (by decide) ?_
      exact hret _ _ _ _ dX12_add_27 (by first | rfl | (unfold fo_add; rw [if_pos (by rw [nI_toInt (by omega)]; omega), nI_clamp (by omega)]; exact hrel) | (unfold fo_add; (repeat' split) <;> first | rfl | (exfalso; omega) | (exfalso; simp_all; done)))
    · refine j_if_ne_t C 28 dX12_add_22 (by decide) (by decide) ?_
      refine j_aload_n C 0 0 dX12_add_28 rfl rfl ?_
      refine j_callVi C (d := 3) (As := []) (st := []) 98 (by decide) rfl (by decide) rfl (k74_X12_isShut hB) gX12_add_X12_isShut rfl hdX12_isShut (by decide) (Nat.le_of_ble_eq_true rfl) dX12_add_29 rfl (fun r M' hp => ?_)
      obtain ⟨rfl, rfl⟩ := hp
      refine j_if_eq_f C 38 dX12_add_32 (by decide) (by decide) ?_
      refine j_bipush C (-12) dX12_add_35 (by decide) ?_
      exact hret _ _ _ _ dX12_add_37 (by first | rfl | (unfold fo_add; rw [if_pos (by rw [nI_toInt (by omega)]; omega), nI_clamp (by omega)]; exact hrel) | (unfold fo_add; (repeat' split) <;> first | rfl | (exfalso; omega) | (exfalso; simp_all; done)))
set_option maxHeartbeats 4000000 in
set_option maxRecDepth 100000 in
theorem k78_X12_whyPrice {l : Launch} {dC : Nat → ClassId} {dI : Nat → Nat → Nat} {ad : Nat → Nat} {cA : Nat → ClassId} {B : mm_M} (hB : MB B) (p0 : Int32) (p1 : Int32) : Ci l 2 yX12_whyPrice wsX12_whyPrice dC dI ad cA [.ref (ad 98), .long p0.toInt64, .long p1.toInt64] B (fun r M' => 1 = r ∧ B = M') := by
  refine ci_of (cc := cX12_whyPrice) (maxL := 5) (ty := .int) (lv := [(0, .ref (ad 98)), (1, .long p0.toInt64), (3, .long p1.toInt64)]) (by decide) rfl (fun r M' hp => rfl) (Nat.le_of_ble_eq_true rfl) rfl ?_
  intro p e s m args below meth c A Q C hret
  refine j_aload_n C 0 0 dX12_whyPrice_0 rfl rfl ?_
  refine j_lload_n C 1 1 dX12_whyPrice_1 rfl rfl ?_
  refine j_callVi C (d := 1) (As := [.long p0.toInt64]) (st := []) 98 (by decide) rfl (by decide) rfl (k35_X12_isKind hB p0) gX12_whyPrice_X12_isKind rfl hdX12_isKind (by decide) (Nat.le_of_ble_eq_true rfl) dX12_whyPrice_2 rfl (fun r M' hp => ?_)
  obtain ⟨rfl, rfl⟩ := hp
  refine j_if_eq_t C 15 dX12_whyPrice_5 (by decide) (by decide) ?_
  refine j_iconst C 1 dX12_whyPrice_15 (by decide) ?_
  refine j_goto C 31 dX12_whyPrice_16 (by decide) ?_
  exact hret _ _ _ _ dX12_whyPrice_31 ⟨rfl, rfl⟩
set_option maxHeartbeats 4000000 in
set_option maxRecDepth 100000 in
theorem om_price {l : Launch} {dC : Nat → ClassId} {dI : Nat → Nat → Nat} {ad : Nat → Nat} {cA : Nat → ClassId} {B : mm_M} (hB : MB B) (p0 : Int32) (p1 : Int32) : Ci l 3 yX12_price wsX12_price dC dI ad cA [.ref (ad 98), .int p0, .int p1] B (fun r _ => r = fo_price p0 p1) := by
  refine ci_of (cc := cX12_price) (maxL := 4) (ty := .int) (lv := [(0, .ref (ad 98)), (1, .int p0), (2, .int p1)]) (by decide) rfl (fun r M' hp => rfl) (Nat.le_of_ble_eq_true rfl) rfl ?_
  intro p e s m args below meth c A Q C hret
  refine j_aload_n C 0 0 dX12_price_0 rfl rfl ?_
  refine j_iconst C 0 dX12_price_1 (by decide) ?_
  refine j_putI C 11 qX12_price_1 rfl rfl (by decide) rfl (by decide) rfl dX12_price_2 ?_
  refine z_noI (show B.1 98 0 = 0 from hB.1 98 0 (by decide)) ?_
  refine j_aload_n C 0 0 dX12_price_5 rfl rfl ?_
  refine j_iload_n C 1 1 dX12_price_6 rfl rfl ?_
  refine z_i2l C p0.toInt64 rfl dX12_price_7 ?_
  refine j_iload_n C 2 2 dX12_price_8 rfl rfl ?_
  refine z_i2l C p1.toInt64 rfl dX12_price_9 ?_
  refine j_callVi C (d := 2) (As := [.long p0.toInt64, .long p1.toInt64]) (st := []) 98 (by decide) rfl (by decide) rfl (k78_X12_whyPrice hB p0 p1) gX12_price_X12_whyPrice rfl hdX12_whyPrice (by decide) (Nat.le_of_ble_eq_true rfl) dX12_price_10 rfl (fun r M' hp => ?_)
  obtain ⟨rfl, rfl⟩ := hp
  refine j_istore_n C 3 [(3, .int 1), (0, .ref (ad 98)), (1, .int p0), (2, .int p1)] dX12_price_13 rfl (by decide) rfl ?_
  refine j_iload_n C 0 3 dX12_price_14 rfl rfl ?_
  refine j_if_eq_f C 23 dX12_price_15 (by decide) (by decide) ?_
  refine j_bipush C (-10) dX12_price_18 (by decide) ?_
  refine j_iload_n C 0 3 dX12_price_20 rfl rfl ?_
  refine z_isub C (-11) (by decide) dX12_price_21 ?_
  exact hret _ _ _ _ dX12_price_22 (by first | rfl | (unfold fo_price; rw [if_pos (by rw [nI_toInt (by omega)]; omega), nI_clamp (by omega)]; exact hrel) | (unfold fo_price; (repeat' split) <;> first | rfl | (exfalso; omega) | (exfalso; simp_all; done)))
set_option maxHeartbeats 4000000 in
set_option maxRecDepth 100000 in
theorem k87_X12_notes {l : Launch} {dC : Nat → ClassId} {dI : Nat → Nat → Nat} {ad : Nat → Nat} {cA : Nat → ClassId} {B : mm_M} (hB : MB B) (p0 : Int32) : Cv l 0 yX12_notes wsX12_notes dC dI ad cA [.ref (ad 98)] (wI B 99 31 p0) (fun M' => (wI (wI B 99 31 p0) 99 49 1) = M') := by
  refine cv_of (cc := cX12_notes) (maxL := 2) (lv := [(0, .ref (ad 98))]) (by decide) rfl (Nat.le_of_ble_eq_true rfl) rfl ?_
  intro p e s m args below meth c A Q C hret
  refine j_aload_n C 0 0 dX12_notes_0 rfl rfl ?_
  refine j_getP C 11 99 fX12_notes_13 (by decide) rfl (by decide) rfl (show B.2.2 98 1 = 99 from hB.2.2 98 1 (by decide)) dX12_notes_1 ?_
  refine j_bipush C 49 dX12_notes_4 (by decide) ?_
  refine x_iald C 49 3543 0 (by decide) rfl rfl rfl (by decide) (by decide) (show B.1 99 49 = 0 from hB.1 99 49 (by decide)) dX12_notes_6 ?_
  refine j_bipush C 10 dX12_notes_7 (by decide) ?_
  refine j_icmp_ne_t C 56 dX12_notes_9 (by decide) (by decide) ?_
  refine j_iconst C 0 dX12_notes_56 (by decide) ?_
  refine j_istore_n C 1 [(1, .int 0), (0, .ref (ad 98))] dX12_notes_57 rfl (by decide) rfl ?_
  refine j_lv [1, 0] rfl ?_
  have L : ∀ (n i : Nat), 0 ≤ i → i + n = 23 → jj p l e (cn_R 0) s m args below meth c 0 0 Q 2 dC dI ad cA A (wI B 99 31 p0) 58 [(0, .ref (ad 98)), (1, .int (nI i))] [] := by
    intro n
    induction n with
    | zero =>
      intro i h1 h2
      obtain rfl : i = 23 := by omega
      refine j_iload_n C 1 1 dX12_notes_58 rfl rfl ?_
      refine j_bipush C 23 dX12_notes_59 (by decide) ?_
      refine j_icmp_ge_t C 96 dX12_notes_61 (by decide) (by decide) ?_
      refine j_aload_n C 0 0 dX12_notes_96 rfl rfl ?_
      refine j_getP C 11 99 fX12_notes_13 (by decide) rfl (by decide) rfl (show B.2.2 98 1 = 99 from hB.2.2 98 1 (by decide)) dX12_notes_97 ?_
      refine j_bipush C 49 dX12_notes_100 (by decide) ?_
      refine j_dup2 C dX12_notes_102 rfl rfl ?_
      refine x_iald C 49 3543 0 (by decide) rfl rfl rfl (by decide) (by decide) (show B.1 99 49 = 0 from hB.1 99 49 (by decide)) dX12_notes_103 ?_
      refine j_iconst C 1 dX12_notes_104 (by decide) ?_
      refine z_iadd C 1 (by decide) dX12_notes_105 ?_
      refine x_iast C 49 3543 (by decide) rfl rfl rfl (by decide) (by decide) dX12_notes_106 ?_
      exact hret _ _ _ dX12_notes_107 rfl
    | succ n ih =>
      intro i h1 h2
      refine j_iload_n C 1 1 dX12_notes_58 rfl rfl ?_
      refine j_bipush C 23 dX12_notes_59 (by decide) ?_
      refine z_icmp_ge C 96 (i : Int) 23 (nI_toInt (n := i) (by omega)) (by decide) dX12_notes_61 (by decide) (fun h1 => ?_) (fun h1 => ?_)
      · exfalso; omega
      · refine j_aload_n C 0 0 dX12_notes_64 rfl rfl ?_
        refine j_getP C 11 99 fX12_notes_13 (by decide) rfl (by decide) rfl (show B.2.2 98 1 = 99 from hB.2.2 98 1 (by decide)) dX12_notes_65 ?_
        refine j_bipush C 50 dX12_notes_68 (by decide) ?_
        refine j_bipush C 23 dX12_notes_70 (by decide) ?_
        refine j_aload_n C 0 0 dX12_notes_72 rfl rfl ?_
        refine j_getP C 11 99 fX12_notes_13 (by decide) rfl (by decide) rfl (show B.2.2 98 1 = 99 from hB.2.2 98 1 (by decide)) dX12_notes_73 ?_
        refine j_bipush C 49 dX12_notes_76 (by decide) ?_
        refine x_iald C 49 3543 0 (by decide) rfl rfl rfl (by decide) (by decide) (show B.1 99 49 = 0 from hB.1 99 49 (by decide)) dX12_notes_78 ?_
        refine z_imul C 0 (by decide) dX12_notes_79 ?_
        refine z_iadd C 50 (by decide) dX12_notes_80 ?_
        refine j_iload_n C 1 1 dX12_notes_81 rfl rfl ?_
        refine z_iadd C (nI (i + 50)) ((nI_add 50 i).trans (congrArg nI (by omega))) dX12_notes_82 ?_
        refine j_aload_n C 0 0 dX12_notes_83 rfl rfl ?_
        refine j_getP C 11 105 fX12_notes_36 (by decide) rfl (by decide) rfl (show B.2.2 98 17 = 105 from hB.2.2 98 17 (by decide)) dX12_notes_84 ?_
        refine j_iload_n C 1 1 dX12_notes_87 rfl rfl ?_
        refine x_iald C i 23 0 (by decide) rfl rfl rfl (by omega) (by decide) (show B.1 105 i = 0 from hB.1 105 i (by decide)) dX12_notes_88 ?_
        refine x_iast C (i + 50) 3543 (by decide) rfl rfl rfl (by omega) (by decide) dX12_notes_89 ?_
        refine z_noI ((u2_b (i := 99) (k := 31) (a := 99) (b := (i + 50)) _ (p0 : Int32) (by omega)).trans (show B.1 99 (i + 50) = 0 from hB.1 99 (i + 50) (by decide))) ?_
        refine j_iinc C 1 (nI (i + 1)) [(1, .int (nI (i + 1))), (0, .ref (ad 98))] dX12_notes_90 rfl (nI_1 i) (by decide) rfl ?_
        refine j_goto C 58 dX12_notes_93 (by decide) ?_
        refine j_lv [1, 0] rfl ?_
        exact ih (i + 1) (by omega) (by omega)
  exact L (23 - 0) 0 (by omega) (by omega)
set_option maxHeartbeats 4000000 in
set_option maxRecDepth 100000 in
theorem k88_X12_oddsAll {l : Launch} {dC : Nat → ClassId} {dI : Nat → Nat → Nat} {ad : Nat → Nat} {cA : Nat → ClassId} {B : mm_M} (hB : MB B) (p0 : Int32) : Ci l 0 yX12_oddsAll wsX12_oddsAll dC dI ad cA [.ref (ad 98)] (wI B 99 31 (p0 + 1)) (fun r M' => 0 = r ∧ (wI B 99 31 (p0 + 1)) = M') := by
  refine ci_of (cc := cX12_oddsAll) (maxL := 3) (ty := .int) (lv := [(0, .ref (ad 98))]) (by decide) rfl (fun r M' hp => rfl) (Nat.le_of_ble_eq_true rfl) rfl ?_
  intro p e s m args below meth c A Q C hret
  refine j_iconst C 0 dX12_oddsAll_0 (by decide) ?_
  refine j_istore_n C 1 [(1, .int 0), (0, .ref (ad 98))] dX12_oddsAll_1 rfl (by decide) rfl ?_
  refine j_iconst C 0 dX12_oddsAll_2 (by decide) ?_
  refine j_istore_n C 2 [(2, .int 0), (1, .int 0), (0, .ref (ad 98))] dX12_oddsAll_3 rfl (by decide) rfl ?_
  refine j_iload_n C 0 2 dX12_oddsAll_4 rfl rfl ?_
  refine j_aload_n C 2 0 dX12_oddsAll_5 rfl rfl ?_
  refine j_getP C 11 99 fX12_oddsAll_13 (by decide) rfl (by decide) rfl (show B.2.2 98 1 = 99 from hB.2.2 98 1 (by decide)) dX12_oddsAll_6 ?_
  refine j_iconst C 1 dX12_oddsAll_9 (by decide) ?_
  refine x_iald C 1 3543 0 (by decide) rfl rfl rfl (by decide) (by decide) (show B.1 99 1 = 0 from hB.1 99 1 (by decide)) dX12_oddsAll_10 ?_
  refine j_icmp_ge_t C 32 dX12_oddsAll_11 (by decide) (by decide) ?_
  refine j_iload_n C 1 1 dX12_oddsAll_32 rfl rfl ?_
  exact hret _ _ _ _ dX12_oddsAll_33 ⟨rfl, rfl⟩
set_option maxHeartbeats 4000000 in
set_option maxRecDepth 100000 in
theorem k89_X12_goesDay {l : Launch} {dC : Nat → ClassId} {dI : Nat → Nat → Nat} {ad : Nat → Nat} {cA : Nat → ClassId} {B : mm_M} (hB : MB B) (p0 : Int32) : Ci l 1 yX12_goesDay wsX12_goesDay dC dI ad cA [.ref (ad 98)] (wI B 99 31 p0) (fun r M' => 0 = r ∧ (wI B 99 31 (p0 + 1)) = M') := by
  refine ci_of (cc := cX12_goesDay) (maxL := 4) (ty := .int) (lv := [(0, .ref (ad 98))]) (by decide) rfl (fun r M' hp => rfl) (Nat.le_of_ble_eq_true rfl) rfl ?_
  intro p e s m args below meth c A Q C hret
  refine j_aload_n C 0 0 dX12_goesDay_0 rfl rfl ?_
  refine j_getP C 11 99 fX12_goesDay_13 (by decide) rfl (by decide) rfl (show B.2.2 98 1 = 99 from hB.2.2 98 1 (by decide)) dX12_goesDay_1 ?_
  refine j_bipush C 31 dX12_goesDay_4 (by decide) ?_
  refine j_dup2 C dX12_goesDay_6 rfl rfl ?_
  refine x_iald C 31 3543 p0 (by decide) rfl rfl rfl (by decide) (by decide) rfl dX12_goesDay_7 ?_
  refine j_iconst C 1 dX12_goesDay_8 (by decide) ?_
  refine z_iadd C (p0 + 1) rfl dX12_goesDay_9 ?_
  refine x_iast C 31 3543 (by decide) rfl rfl rfl (by decide) (by decide) dX12_goesDay_10 ?_
  refine j_M (M' := (wI B 99 31 (p0 + 1))) (wI_w _ _ _ _ _) ?_
  refine j_aload_n C 0 0 dX12_goesDay_11 rfl rfl ?_
  refine j_callVi C (d := 0) (As := []) (st := []) 98 (by decide) rfl (by decide) rfl (k88_X12_oddsAll hB p0) gX12_goesDay_X12_oddsAll rfl hdX12_oddsAll (by decide) (Nat.le_of_ble_eq_true rfl) dX12_goesDay_12 rfl (fun r M' hp => ?_)
  obtain ⟨rfl, rfl⟩ := hp
  refine j_istore_n C 1 [(1, .int 0), (0, .ref (ad 98))] dX12_goesDay_15 rfl (by decide) rfl ?_
  refine j_iload_n C 0 1 dX12_goesDay_16 rfl rfl ?_
  refine j_if_ne_f C 22 dX12_goesDay_17 (by decide) (by decide) ?_
  refine j_iconst C 0 dX12_goesDay_20 (by decide) ?_
  exact hret _ _ _ _ dX12_goesDay_21 ⟨rfl, rfl⟩
set_option maxHeartbeats 4000000 in
set_option maxRecDepth 100000 in
theorem om_days {l : Launch} {dC : Nat → ClassId} {dI : Nat → Nat → Nat} {ad : Nat → Nat} {cA : Nat → ClassId} {B : mm_M} (hB : MB B) (p0 : Int32) : Ci l 2 yX12_days wsX12_days dC dI ad cA [.ref (ad 98), .int p0] B (fun r _ => r = fo_days p0) := by
  refine ci_of (cc := cX12_days) (maxL := 4) (ty := .int) (lv := [(0, .ref (ad 98)), (1, .int p0)]) (by decide) rfl (fun r M' hp => rfl) (Nat.le_of_ble_eq_true rfl) rfl ?_
  intro p e s m args below meth c A Q C hret
  refine j_aload_n C 0 0 dX12_days_0 rfl rfl ?_
  refine j_iconst C 0 dX12_days_1 (by decide) ?_
  refine j_putI C 11 qX12_days_1 rfl rfl (by decide) rfl (by decide) rfl dX12_days_2 ?_
  refine z_noI (show B.1 98 0 = 0 from hB.1 98 0 (by decide)) ?_
  refine j_iload_n C 1 1 dX12_days_5 rfl rfl ?_
  refine z_i2l C p0.toInt64 rfl dX12_days_6 ?_
  refine j_lconst C 1 dX12_days_7 (by decide) ?_
  refine j_ldc2 C 99 dX12_days_8 (by decide +kernel) ?_
  refine j_callSi C (d := 0) (As := [.long p0.toInt64, .long 1, .long 99]) (st := []) (k68_X12_within hB p0) gX12_days_X12_within rfl hdX12_withins (by decide) (Nat.le_of_ble_eq_true rfl) dX12_days_11 rfl (fun r M' hp => ?_)
  rcases hp with ⟨h1, rfl, rfl⟩ | ⟨⟨h2, h3⟩, rfl, rfl⟩ | ⟨⟨h4, h5⟩, rfl, rfl⟩
  · refine j_if_ne_f C 20 dX12_days_14 (by decide) (by decide) ?_
    refine j_bipush C (-3) dX12_days_17 (by decide) ?_
    exact hret _ _ _ _ dX12_days_19 (by first | rfl | (unfold fo_days; rw [if_pos (by rw [nI_toInt (by omega)]; omega), nI_clamp (by omega)]; exact hrel) | (unfold fo_days; (repeat' split) <;> first | rfl | (exfalso; omega) | (exfalso; simp_all; done)))
  · refine j_if_ne_f C 20 dX12_days_14 (by decide) (by decide) ?_
    refine j_bipush C (-3) dX12_days_17 (by decide) ?_
    exact hret _ _ _ _ dX12_days_19 (by first | rfl | (unfold fo_days; rw [if_pos (by rw [nI_toInt (by omega)]; omega), nI_clamp (by omega)]; exact hrel) | (unfold fo_days; (repeat' split) <;> first | rfl | (exfalso; omega) | (exfalso; simp_all; done)))
  · refine j_if_ne_t C 20 dX12_days_14 (by decide) (by decide) ?_
    refine j_aload_n C 0 0 dX12_days_20 rfl rfl ?_
    refine j_callVv C (d := 0) (As := []) (st := []) 98 (by decide) rfl (by decide) rfl (k46_X12_keeps hB) gX12_days_X12_keeps rfl hdX12_keeps (by decide) (Nat.le_of_ble_eq_true rfl) dX12_days_21 rfl (fun M' hp => ?_)
    obtain rfl := hp
    refine j_iconst C 0 dX12_days_24 (by decide) ?_
    refine j_istore_n C 2 [(2, .int 0), (0, .ref (ad 98)), (1, .int p0)] dX12_days_25 rfl (by decide) rfl ?_
    refine j_iconst C 0 dX12_days_26 (by decide) ?_
    refine j_istore_n C 3 [(3, .int 0), (2, .int 0), (0, .ref (ad 98)), (1, .int p0)] dX12_days_27 rfl (by decide) rfl ?_
    obtain ⟨j, hja, hjb, rfl⟩ := z_n31 (x := p0) (a := 1) (b := 99) (by omega) (by omega) (by decide)
    show jj _ _ _ _ _ _ _ _ _ _ _ _ _ _ _ _ _ _ _ B 28 [(3, .int 0), (2, .int 0), (0, .ref (ad 98)), (1, .int (nI j))] []
    refine j_lv [2, 3, 1, 0] rfl ?_
    refine j_M (M' := (wI B 99 31 0)) (by refine Prod.ext ?_ (Prod.ext ?_ ?_) <;> funext a b <;> simp only [u2] <;> (repeat' split) <;> first | rfl | omega | (subst_vars; first | rfl | exact hB.1 _ _ (by decide) | exact (hB.1 _ _ (by decide)).symm) | (subst_vars; contradiction)) ?_
    have L : ∀ (n i : Nat), 0 ≤ i → i + n = j → ∀ (g0 : Int32), jj p l e (cn_R 2) s m args below meth c 0 0 Q 4 dC dI ad cA A (wI B 99 31 g0) 28 [(0, .ref (ad 98)), (1, .int (nI j)), (2, .int 0), (3, .int (nI i))] [] := by
      intro n
      induction n with
      | zero =>
        intro i h1 h2 g0
        obtain rfl : j = i := by omega
        refine j_iload_n C 3 3 dX12_days_28 rfl rfl ?_
        refine j_iload_n C 1 1 dX12_days_29 rfl rfl ?_
        refine z_icmp_ge C 46 (j : Int) (j : Int) (nI_toInt (n := j) (by omega)) (nI_toInt (n := j) (by omega)) dX12_days_30 (by decide) (fun h6 => ?_) (fun h6 => ?_)
        · refine j_aload_n C 0 0 dX12_days_46 rfl rfl ?_
          refine j_callVv C (d := 0) (As := []) (st := []) 98 (by decide) rfl (by decide) rfl (k87_X12_notes hB g0) gX12_days_X12_notes rfl hdX12_notes (by decide) (Nat.le_of_ble_eq_true rfl) dX12_days_47 rfl (fun M' hp => ?_)
          obtain rfl := hp
          refine j_iload_n C 2 2 dX12_days_50 rfl rfl ?_
          exact hret _ _ _ _ dX12_days_51 (by first | rfl | (unfold fo_days; rw [if_pos (by rw [nI_toInt (by omega)]; omega), nI_clamp (by omega)]; exact hrel) | (unfold fo_days; (repeat' split) <;> first | rfl | (exfalso; omega) | (exfalso; simp_all; done)))
        · exfalso; omega
      | succ n ih =>
        intro i h1 h2 g0
        refine j_iload_n C 3 3 dX12_days_28 rfl rfl ?_
        refine j_iload_n C 1 1 dX12_days_29 rfl rfl ?_
        refine z_icmp_ge C 46 (i : Int) (j : Int) (nI_toInt (n := i) (by omega)) (nI_toInt (n := j) (by omega)) dX12_days_30 (by decide) (fun h7 => ?_) (fun h7 => ?_)
        · exfalso; omega
        · refine j_iload_n C 2 2 dX12_days_33 rfl rfl ?_
          refine j_aload_n C 0 0 dX12_days_34 rfl rfl ?_
          refine j_callVi C (d := 1) (As := []) (st := [.int 0]) 98 (by decide) rfl (by decide) rfl (k89_X12_goesDay hB g0) gX12_days_X12_goesDay rfl hdX12_goesDay (by decide) (Nat.le_of_ble_eq_true rfl) dX12_days_35 rfl (fun r M' hp => ?_)
          obtain ⟨rfl, rfl⟩ := hp
          refine z_iadd C 0 (by decide) dX12_days_38 ?_
          refine j_istore_n C 2 [(2, .int 0), (0, .ref (ad 98)), (1, .int (nI j)), (3, .int (nI i))] dX12_days_39 rfl (by decide) rfl ?_
          refine j_iinc C 3 (nI (i + 1)) [(3, .int (nI (i + 1))), (2, .int 0), (0, .ref (ad 98)), (1, .int (nI j))] dX12_days_40 rfl (nI_1 i) (by decide) rfl ?_
          refine j_goto C 28 dX12_days_43 (by decide) ?_
          refine j_lv [2, 3, 1, 0] rfl ?_
          exact ih (i + 1) (by omega) (by omega) (g0 + 1)
    exact L (j - 0) 0 (by omega) (by omega) 0
set_option maxHeartbeats 4000000 in
set_option maxRecDepth 100000 in
theorem k92_X12_within {l : Launch} {dC : Nat → ClassId} {dI : Nat → Nat → Nat} {ad : Nat → Nat} {cA : Nat → ClassId} {B : mm_M} (hB : MB B) (p0 : Int32) : Ci l 0 yX12_within wsX12_within dC dI ad cA [.long p0.toInt64, .long 1, .long 10] B (fun r M' => ((p0.toInt < 1) ∧ 0 = r ∧ B = M') ∨ ((¬ p0.toInt < 1 ∧ 10 < p0.toInt) ∧ 0 = r ∧ B = M') ∨ ((¬ p0.toInt < 1 ∧ ¬ 10 < p0.toInt) ∧ 1 = r ∧ B = M')) := by
  refine ci_of (cc := cX12_within) (maxL := 6) (ty := .boolean) (lv := [(0, .long p0.toInt64), (2, .long 1), (4, .long 10)]) (by decide) rfl (fun r M' hp => by rcases hp with ⟨-, rfl, rfl⟩ | ⟨-, rfl, rfl⟩ | ⟨-, rfl, rfl⟩ <;> rfl) (Nat.le_of_ble_eq_true rfl) rfl ?_
  intro p e s m args below meth c A Q C hret
  refine j_lload_n C 0 0 dX12_within_0 rfl rfl ?_
  refine j_lload_n C 1 2 dX12_within_1 rfl rfl ?_
  refine z_lcmp_lt C 17 p0.toInt 1 ((Int32.toInt_toInt64 p0).trans rfl) (by decide) dX12_within_2 dX12_within_3 (by decide) (fun h1 => ?_) (fun h1 => ?_)
  · refine j_iconst C 0 dX12_within_17 (by decide) ?_
    exact hret _ _ _ _ dX12_within_18 (Or.inl ⟨h1, rfl, rfl⟩)
  · refine j_lload_n C 0 0 dX12_within_6 rfl rfl ?_
    refine j_lload C 2 dX12_within_7 rfl ?_
    refine z_lcmp_gt C 17 p0.toInt 10 ((Int32.toInt_toInt64 p0).trans rfl) (by decide) dX12_within_9 dX12_within_10 (by decide) (fun h2 => ?_) (fun h2 => ?_)
    · refine j_iconst C 0 dX12_within_17 (by decide) ?_
      exact hret _ _ _ _ dX12_within_18 (Or.inr (Or.inl ⟨⟨h1, h2⟩, rfl, rfl⟩))
    · refine j_iconst C 1 dX12_within_13 (by decide) ?_
      refine j_goto C 18 dX12_within_14 (by decide) ?_
      exact hret _ _ _ _ dX12_within_18 (Or.inr (Or.inr ⟨⟨h1, h2⟩, rfl, rfl⟩))
set_option maxHeartbeats 4000000 in
set_option maxRecDepth 100000 in
theorem om_undo {l : Launch} {dC : Nat → ClassId} {dI : Nat → Nat → Nat} {ad : Nat → Nat} {cA : Nat → ClassId} {B : mm_M} (hB : MB B) (p0 : Int32) : Ci l 1 yX12_undo wsX12_undo dC dI ad cA [.ref (ad 98), .int p0] B (fun r _ => r = fo_undo p0) := by
  refine ci_of (cc := cX12_undo) (maxL := 3) (ty := .int) (lv := [(0, .ref (ad 98)), (1, .int p0)]) (by decide) rfl (fun r M' hp => rfl) (Nat.le_of_ble_eq_true rfl) rfl ?_
  intro p e s m args below meth c A Q C hret
  refine j_aload_n C 0 0 dX12_undo_0 rfl rfl ?_
  refine j_iconst C 0 dX12_undo_1 (by decide) ?_
  refine j_putI C 11 qX12_undo_1 rfl rfl (by decide) rfl (by decide) rfl dX12_undo_2 ?_
  refine z_noI (show B.1 98 0 = 0 from hB.1 98 0 (by decide)) ?_
  refine j_iload_n C 1 1 dX12_undo_5 rfl rfl ?_
  refine z_i2l C p0.toInt64 rfl dX12_undo_6 ?_
  refine j_lconst C 1 dX12_undo_7 (by decide) ?_
  refine j_ldc2 C 10 dX12_undo_8 (by decide +kernel) ?_
  refine j_callSi C (d := 0) (As := [.long p0.toInt64, .long 1, .long 10]) (st := []) (k92_X12_within hB p0) gX12_undo_X12_within rfl hdX12_withins (by decide) (Nat.le_of_ble_eq_true rfl) dX12_undo_11 rfl (fun r M' hp => ?_)
  rcases hp with ⟨h1, rfl, rfl⟩ | ⟨⟨h2, h3⟩, rfl, rfl⟩ | ⟨⟨h4, h5⟩, rfl, rfl⟩
  · refine j_if_eq_t C 28 dX12_undo_14 (by decide) (by decide) ?_
    refine j_bipush C (-3) dX12_undo_28 (by decide) ?_
    exact hret _ _ _ _ dX12_undo_30 (by first | rfl | (unfold fo_undo; rw [if_pos (by rw [nI_toInt (by omega)]; omega), nI_clamp (by omega)]; exact hrel) | (unfold fo_undo; (repeat' split) <;> first | rfl | (exfalso; omega) | (exfalso; simp_all; done)))
  · refine j_if_eq_t C 28 dX12_undo_14 (by decide) (by decide) ?_
    refine j_bipush C (-3) dX12_undo_28 (by decide) ?_
    exact hret _ _ _ _ dX12_undo_30 (by first | rfl | (unfold fo_undo; rw [if_pos (by rw [nI_toInt (by omega)]; omega), nI_clamp (by omega)]; exact hrel) | (unfold fo_undo; (repeat' split) <;> first | rfl | (exfalso; omega) | (exfalso; simp_all; done)))
  · refine j_if_eq_f C 28 dX12_undo_14 (by decide) (by decide) ?_
    refine j_iload_n C 1 1 dX12_undo_17 rfl rfl ?_
    refine j_aload_n C 0 0 dX12_undo_18 rfl rfl ?_
    refine j_getP C 11 99 fX12_undo_13 (by decide) rfl (by decide) rfl (show B.2.2 98 1 = 99 from hB.2.2 98 1 (by decide)) dX12_undo_19 ?_
    refine j_bipush C 49 dX12_undo_22 (by decide) ?_
    refine x_iald C 49 3543 0 (by decide) rfl rfl rfl (by decide) (by decide) (show B.1 99 49 = 0 from hB.1 99 49 (by decide)) dX12_undo_24 ?_
    refine z_icmp_le C 31 p0.toInt 0 rfl (by decide) dX12_undo_25 (by decide) (fun h6 => ?_) (fun h6 => ?_)
    · exfalso; omega
    · refine j_bipush C (-3) dX12_undo_28 (by decide) ?_
      exact hret _ _ _ _ dX12_undo_30 (by first | rfl | (unfold fo_undo; rw [if_pos (by rw [nI_toInt (by omega)]; omega), nI_clamp (by omega)]; exact hrel) | (unfold fo_undo; (repeat' split) <;> first | rfl | (exfalso; omega) | (exfalso; simp_all; done)))
set_option maxHeartbeats 4000000 in
set_option maxRecDepth 100000 in
theorem k100_X12_within {l : Launch} {dC : Nat → ClassId} {dI : Nat → Nat → Nat} {ad : Nat → Nat} {cA : Nat → ClassId} {B : mm_M} (hB : MB B) (p0 : Int32) : Ci l 0 yX12_within wsX12_within dC dI ad cA [.long p0.toInt64, .long 0, .long 3] B (fun r M' => ((p0.toInt < 0) ∧ 0 = r ∧ B = M') ∨ ((¬ p0.toInt < 0 ∧ 3 < p0.toInt) ∧ 0 = r ∧ B = M') ∨ ((¬ p0.toInt < 0 ∧ ¬ 3 < p0.toInt) ∧ 1 = r ∧ B = M')) := by
  refine ci_of (cc := cX12_within) (maxL := 6) (ty := .boolean) (lv := [(0, .long p0.toInt64), (2, .long 0), (4, .long 3)]) (by decide) rfl (fun r M' hp => by rcases hp with ⟨-, rfl, rfl⟩ | ⟨-, rfl, rfl⟩ | ⟨-, rfl, rfl⟩ <;> rfl) (Nat.le_of_ble_eq_true rfl) rfl ?_
  intro p e s m args below meth c A Q C hret
  refine j_lload_n C 0 0 dX12_within_0 rfl rfl ?_
  refine j_lload_n C 1 2 dX12_within_1 rfl rfl ?_
  refine z_lcmp_lt C 17 p0.toInt 0 ((Int32.toInt_toInt64 p0).trans rfl) (by decide) dX12_within_2 dX12_within_3 (by decide) (fun h1 => ?_) (fun h1 => ?_)
  · refine j_iconst C 0 dX12_within_17 (by decide) ?_
    exact hret _ _ _ _ dX12_within_18 (Or.inl ⟨h1, rfl, rfl⟩)
  · refine j_lload_n C 0 0 dX12_within_6 rfl rfl ?_
    refine j_lload C 2 dX12_within_7 rfl ?_
    refine z_lcmp_gt C 17 p0.toInt 3 ((Int32.toInt_toInt64 p0).trans rfl) (by decide) dX12_within_9 dX12_within_10 (by decide) (fun h2 => ?_) (fun h2 => ?_)
    · refine j_iconst C 0 dX12_within_17 (by decide) ?_
      exact hret _ _ _ _ dX12_within_18 (Or.inr (Or.inl ⟨⟨h1, h2⟩, rfl, rfl⟩))
    · refine j_iconst C 1 dX12_within_13 (by decide) ?_
      refine j_goto C 18 dX12_within_14 (by decide) ?_
      exact hret _ _ _ _ dX12_within_18 (Or.inr (Or.inr ⟨⟨h1, h2⟩, rfl, rfl⟩))
set_option maxHeartbeats 4000000 in
set_option maxRecDepth 100000 in
theorem k101_X12_noTray {l : Launch} {dC : Nat → ClassId} {dI : Nat → Nat → Nat} {ad : Nat → Nat} {cA : Nat → ClassId} {B : mm_M} (hB : MB B) (p0 : Int32) : Ci l 1 yX12_noTray wsX12_noTray dC dI ad cA [.ref (ad 98), .int p0] B (fun r M' => ((p0.toInt < 0) ∧ (-2) = r ∧ B = M') ∨ ((¬ p0.toInt < 0 ∧ 3 < p0.toInt) ∧ (-2) = r ∧ B = M') ∨ ((¬ p0.toInt < 0 ∧ ¬ 3 < p0.toInt ∧ p0 = 0) ∧ (-6) = r ∧ B = M') ∨ ((¬ p0.toInt < 0 ∧ ¬ 3 < p0.toInt ∧ p0 = 1) ∧ (-6) = r ∧ B = M') ∨ ((¬ p0.toInt < 0 ∧ ¬ 3 < p0.toInt ∧ p0 = 2) ∧ (-6) = r ∧ B = M') ∨ ((¬ p0.toInt < 0 ∧ ¬ 3 < p0.toInt ∧ p0 = 3) ∧ (-6) = r ∧ B = M')) := by
  refine ci_of (cc := cX12_noTray) (maxL := 2) (ty := .int) (lv := [(0, .ref (ad 98)), (1, .int p0)]) (by decide) rfl (fun r M' hp => rfl) (Nat.le_of_ble_eq_true rfl) rfl ?_
  intro p e s m args below meth c A Q C hret
  refine j_iload_n C 1 1 dX12_noTray_0 rfl rfl ?_
  refine z_i2l C p0.toInt64 rfl dX12_noTray_1 ?_
  refine j_lconst C 0 dX12_noTray_2 (by decide) ?_
  refine j_ldc2 C 3 dX12_noTray_3 (by decide +kernel) ?_
  refine j_callSi C (d := 0) (As := [.long p0.toInt64, .long 0, .long 3]) (st := []) (k100_X12_within hB p0) gX12_noTray_X12_within rfl hdX12_withins (by decide) (Nat.le_of_ble_eq_true rfl) dX12_noTray_6 rfl (fun r M' hp => ?_)
  rcases hp with ⟨h1, rfl, rfl⟩ | ⟨⟨h2, h3⟩, rfl, rfl⟩ | ⟨⟨h4, h5⟩, rfl, rfl⟩
  · refine j_if_ne_f C 17 dX12_noTray_9 (by decide) (by decide) ?_
    refine j_bipush C (-2) dX12_noTray_12 (by decide) ?_
    refine j_goto C 33 dX12_noTray_14 (by decide) ?_
    exact hret _ _ _ _ dX12_noTray_33 (Or.inl ⟨h1, rfl, rfl⟩)
  · refine j_if_ne_f C 17 dX12_noTray_9 (by decide) (by decide) ?_
    refine j_bipush C (-2) dX12_noTray_12 (by decide) ?_
    refine j_goto C 33 dX12_noTray_14 (by decide) ?_
    exact hret _ _ _ _ dX12_noTray_33 (Or.inr (Or.inl ⟨⟨h2, h3⟩, rfl, rfl⟩))
  · refine j_if_ne_t C 17 dX12_noTray_9 (by decide) (by decide) ?_
    refine j_aload_n C 0 0 dX12_noTray_17 rfl rfl ?_
    refine j_getP C 11 115 fX12_noTray_67 (by decide) rfl (by decide) rfl (show B.2.2 98 29 = 115 from hB.2.2 98 29 (by decide)) dX12_noTray_18 ?_
    refine j_iload_n C 1 1 dX12_noTray_21 rfl rfl ?_
    obtain ⟨j, hj, rfl⟩ := z_sp (x := p0) (b := 3) (by omega) (by omega)
    rcases (show j = 0 ∨ j = 1 ∨ j = 2 ∨ j = 3 by omega) with rfl | rfl | rfl | rfl
    · show jj _ _ _ _ _ _ _ _ _ _ _ _ _ _ _ _ _ _ _ B 22 [(0, .ref (ad 98)), (1, .int 0)] [.int 0, .ref (ad 115)]
      refine x_iald C 0 4 (-1) (by decide) rfl rfl rfl (by decide) (by decide) (show B.1 115 0 = (-1) from hB.1 115 0 (by decide)) dX12_noTray_22 ?_
      refine j_iconst C (-1) dX12_noTray_23 (by decide) ?_
      refine j_icmp_ne_f C 32 dX12_noTray_24 (by decide) (by decide) ?_
      refine j_bipush C (-6) dX12_noTray_27 (by decide) ?_
      refine j_goto C 33 dX12_noTray_29 (by decide) ?_
      exact hret _ _ _ _ dX12_noTray_33 (Or.inr (Or.inr (Or.inl ⟨⟨h4, h5, rfl⟩, rfl, rfl⟩)))
    · show jj _ _ _ _ _ _ _ _ _ _ _ _ _ _ _ _ _ _ _ B 22 [(0, .ref (ad 98)), (1, .int 1)] [.int 1, .ref (ad 115)]
      refine x_iald C 1 4 (-1) (by decide) rfl rfl rfl (by decide) (by decide) (show B.1 115 1 = (-1) from hB.1 115 1 (by decide)) dX12_noTray_22 ?_
      refine j_iconst C (-1) dX12_noTray_23 (by decide) ?_
      refine j_icmp_ne_f C 32 dX12_noTray_24 (by decide) (by decide) ?_
      refine j_bipush C (-6) dX12_noTray_27 (by decide) ?_
      refine j_goto C 33 dX12_noTray_29 (by decide) ?_
      exact hret _ _ _ _ dX12_noTray_33 (Or.inr (Or.inr (Or.inr (Or.inl ⟨⟨h4, h5, rfl⟩, rfl, rfl⟩))))
    · show jj _ _ _ _ _ _ _ _ _ _ _ _ _ _ _ _ _ _ _ B 22 [(0, .ref (ad 98)), (1, .int 2)] [.int 2, .ref (ad 115)]
      refine x_iald C 2 4 (-1) (by decide) rfl rfl rfl (by decide) (by decide) (show B.1 115 2 = (-1) from hB.1 115 2 (by decide)) dX12_noTray_22 ?_
      refine j_iconst C (-1) dX12_noTray_23 (by decide) ?_
      refine j_icmp_ne_f C 32 dX12_noTray_24 (by decide) (by decide) ?_
      refine j_bipush C (-6) dX12_noTray_27 (by decide) ?_
      refine j_goto C 33 dX12_noTray_29 (by decide) ?_
      exact hret _ _ _ _ dX12_noTray_33 (Or.inr (Or.inr (Or.inr (Or.inr (Or.inl ⟨⟨h4, h5, rfl⟩, rfl, rfl⟩)))))
    · show jj _ _ _ _ _ _ _ _ _ _ _ _ _ _ _ _ _ _ _ B 22 [(0, .ref (ad 98)), (1, .int 3)] [.int 3, .ref (ad 115)]
      refine x_iald C 3 4 (-1) (by decide) rfl rfl rfl (by decide) (by decide) (show B.1 115 3 = (-1) from hB.1 115 3 (by decide)) dX12_noTray_22 ?_
      refine j_iconst C (-1) dX12_noTray_23 (by decide) ?_
      refine j_icmp_ne_f C 32 dX12_noTray_24 (by decide) (by decide) ?_
      refine j_bipush C (-6) dX12_noTray_27 (by decide) ?_
      refine j_goto C 33 dX12_noTray_29 (by decide) ?_
      exact hret _ _ _ _ dX12_noTray_33 (Or.inr (Or.inr (Or.inr (Or.inr (Or.inr ⟨⟨h4, h5, rfl⟩, rfl, rfl⟩)))))
set_option maxHeartbeats 4000000 in
set_option maxRecDepth 100000 in
theorem om_judge {l : Launch} {dC : Nat → ClassId} {dI : Nat → Nat → Nat} {ad : Nat → Nat} {cA : Nat → ClassId} {B : mm_M} (hB : MB B) (p0 : Int32) (p1 : Int32) : Ci l 2 yX12_judge wsX12_judge dC dI ad cA [.ref (ad 98), .int p0, .int p1] B (fun r _ => r = fo_judge p0 p1) := by
  refine ci_of (cc := cX12_judge) (maxL := 7) (ty := .int) (lv := [(0, .ref (ad 98)), (1, .int p0), (2, .int p1)]) (by decide) rfl (fun r M' hp => rfl) (Nat.le_of_ble_eq_true rfl) rfl ?_
  intro p e s m args below meth c A Q C hret
  refine j_aload_n C 0 0 dX12_judge_0 rfl rfl ?_
  refine j_iconst C 0 dX12_judge_1 (by decide) ?_
  refine j_putI C 11 qX12_judge_1 rfl rfl (by decide) rfl (by decide) rfl dX12_judge_2 ?_
  refine z_noI (show B.1 98 0 = 0 from hB.1 98 0 (by decide)) ?_
  refine j_iload_n C 2 2 dX12_judge_5 rfl rfl ?_
  refine z_i2l C p1.toInt64 rfl dX12_judge_6 ?_
  refine j_lconst C 0 dX12_judge_7 (by decide) ?_
  refine j_ldc2 C 3 dX12_judge_8 (by decide +kernel) ?_
  refine j_callSi C (d := 0) (As := [.long p1.toInt64, .long 0, .long 3]) (st := []) (k100_X12_within hB p1) gX12_judge_X12_within rfl hdX12_withins (by decide) (Nat.le_of_ble_eq_true rfl) dX12_judge_11 rfl (fun r M' hp => ?_)
  rcases hp with ⟨h1, rfl, rfl⟩ | ⟨⟨h2, h3⟩, rfl, rfl⟩ | ⟨⟨h4, h5⟩, rfl, rfl⟩
  · refine j_if_ne_f C 20 dX12_judge_14 (by decide) (by decide) ?_
    refine j_bipush C (-2) dX12_judge_17 (by decide) ?_
    exact hret _ _ _ _ dX12_judge_19 (by first | rfl | (unfold fo_judge; rw [if_pos (by rw [nI_toInt (by omega)]; omega), nI_clamp (by omega)]; exact hrel) | (unfold fo_judge; (repeat' split) <;> first | rfl | (exfalso; omega) | (exfalso; simp_all; done)))
  · refine j_if_ne_f C 20 dX12_judge_14 (by decide) (by decide) ?_
    refine j_bipush C (-2) dX12_judge_17 (by decide) ?_
    exact hret _ _ _ _ dX12_judge_19 (by first | rfl | (unfold fo_judge; rw [if_pos (by rw [nI_toInt (by omega)]; omega), nI_clamp (by omega)]; exact hrel) | (unfold fo_judge; (repeat' split) <;> first | rfl | (exfalso; omega) | (exfalso; simp_all; done)))
  · refine j_if_ne_t C 20 dX12_judge_14 (by decide) (by decide) ?_
    refine j_aload_n C 0 0 dX12_judge_20 rfl rfl ?_
    refine j_iload_n C 1 1 dX12_judge_21 rfl rfl ?_
    refine j_callVi C (d := 1) (As := [.int p0]) (st := []) 98 (by decide) rfl (by decide) rfl (k101_X12_noTray hB p0) gX12_judge_X12_noTray rfl hdX12_noTray (by decide) (Nat.le_of_ble_eq_true rfl) dX12_judge_22 rfl (fun r M' hp => ?_)
    rcases hp with ⟨h6, rfl, rfl⟩ | ⟨⟨h7, h8⟩, rfl, rfl⟩ | ⟨⟨h9, h10, h11⟩, rfl, rfl⟩ | ⟨⟨h12, h13, h14⟩, rfl, rfl⟩ | ⟨⟨h15, h16, h17⟩, rfl, rfl⟩ | ⟨⟨h18, h19, h20⟩, rfl, rfl⟩
    · refine j_istore_n C 3 [(3, .int (-2)), (0, .ref (ad 98)), (1, .int p0), (2, .int p1)] dX12_judge_25 rfl (by decide) rfl ?_
      refine j_iload_n C 0 3 dX12_judge_26 rfl rfl ?_
      refine j_if_eq_f C 32 dX12_judge_27 (by decide) (by decide) ?_
      refine j_iload_n C 0 3 dX12_judge_30 rfl rfl ?_
      exact hret _ _ _ _ dX12_judge_31 (by first | rfl | (unfold fo_judge; rw [if_pos (by rw [nI_toInt (by omega)]; omega), nI_clamp (by omega)]; exact hrel) | (unfold fo_judge; (repeat' split) <;> first | rfl | (exfalso; omega) | (exfalso; simp_all; done)))
    · refine j_istore_n C 3 [(3, .int (-2)), (0, .ref (ad 98)), (1, .int p0), (2, .int p1)] dX12_judge_25 rfl (by decide) rfl ?_
      refine j_iload_n C 0 3 dX12_judge_26 rfl rfl ?_
      refine j_if_eq_f C 32 dX12_judge_27 (by decide) (by decide) ?_
      refine j_iload_n C 0 3 dX12_judge_30 rfl rfl ?_
      exact hret _ _ _ _ dX12_judge_31 (by first | rfl | (unfold fo_judge; rw [if_pos (by rw [nI_toInt (by omega)]; omega), nI_clamp (by omega)]; exact hrel) | (unfold fo_judge; (repeat' split) <;> first | rfl | (exfalso; omega) | (exfalso; simp_all; done)))
    · refine j_istore_n C 3 [(3, .int (-6)), (0, .ref (ad 98)), (1, .int p0), (2, .int p1)] dX12_judge_25 rfl (by decide) rfl ?_
      refine j_iload_n C 0 3 dX12_judge_26 rfl rfl ?_
      refine j_if_eq_f C 32 dX12_judge_27 (by decide) (by decide) ?_
      refine j_iload_n C 0 3 dX12_judge_30 rfl rfl ?_
      exact hret _ _ _ _ dX12_judge_31 (by first | rfl | (unfold fo_judge; rw [if_pos (by rw [nI_toInt (by omega)]; omega), nI_clamp (by omega)]; exact hrel) | (unfold fo_judge; (repeat' split) <;> first | rfl | (exfalso; omega) | (exfalso; simp_all; done)))
    · refine j_istore_n C 3 [(3, .int (-6)), (0, .ref (ad 98)), (1, .int p0), (2, .int p1)] dX12_judge_25 rfl (by decide) rfl ?_
      refine j_iload_n C 0 3 dX12_judge_26 rfl rfl ?_
      refine j_if_eq_f C 32 dX12_judge_27 (by decide) (by decide) ?_
      refine j_iload_n C 0 3 dX12_judge_30 rfl rfl ?_
      exact hret _ _ _ _ dX12_judge_31 (by first | rfl | (unfold fo_judge; rw [if_pos (by rw [nI_toInt (by omega)]; omega), nI_clamp (by omega)]; exact hrel) | (unfold fo_judge; (repeat' split) <;> first | rfl | (exfalso; omega) | (exfalso; simp_all; done)))
    · refine j_istore_n C 3 [(3, .int (-6)), (0, .ref (ad 98)), (1, .int p0), (2, .int p1)] dX12_judge_25 rfl (by decide) rfl ?_
      refine j_iload_n C 0 3 dX12_judge_26 rfl rfl ?_
      refine j_if_eq_f C 32 dX12_judge_27 (by decide) (by decide) ?_
      refine j_iload_n C 0 3 dX12_judge_30 rfl rfl ?_
      exact hret _ _ _ _ dX12_judge_31 (by first | rfl | (unfold fo_judge; rw [if_pos (by rw [nI_toInt (by omega)]; omega), nI_clamp (by omega)]; exact hrel) | (unfold fo_judge; (repeat' split) <;> first | rfl | (exfalso; omega) | (exfalso; simp_all; done)))
    · refine j_istore_n C 3 [(3, .int (-6)), (0, .ref (ad 98)), (1, .int p0), (2, .int p1)] dX12_judge_25 rfl (by decide) rfl ?_
      refine j_iload_n C 0 3 dX12_judge_26 rfl rfl ?_
      refine j_if_eq_f C 32 dX12_judge_27 (by decide) (by decide) ?_
      refine j_iload_n C 0 3 dX12_judge_30 rfl rfl ?_
      exact hret _ _ _ _ dX12_judge_31 (by first | rfl | (unfold fo_judge; rw [if_pos (by rw [nI_toInt (by omega)]; omega), nI_clamp (by omega)]; exact hrel) | (unfold fo_judge; (repeat' split) <;> first | rfl | (exfalso; omega) | (exfalso; simp_all; done)))
set_option maxHeartbeats 4000000 in
set_option maxRecDepth 100000 in
theorem om_perform {l : Launch} {dC : Nat → ClassId} {dI : Nat → Nat → Nat} {ad : Nat → Nat} {cA : Nat → ClassId} {B : mm_M} (hB : MB B) (p0 : Int32) : Ci l 2 yX12_perform wsX12_perform dC dI ad cA [.ref (ad 98), .int p0] B (fun r _ => r = fo_perform p0) := by
  refine ci_of (cc := cX12_perform) (maxL := 4) (ty := .int) (lv := [(0, .ref (ad 98)), (1, .int p0)]) (by decide) rfl (fun r M' hp => rfl) (Nat.le_of_ble_eq_true rfl) rfl ?_
  intro p e s m args below meth c A Q C hret
  refine j_aload_n C 0 0 dX12_perform_0 rfl rfl ?_
  refine j_iconst C 0 dX12_perform_1 (by decide) ?_
  refine j_putI C 11 qX12_perform_1 rfl rfl (by decide) rfl (by decide) rfl dX12_perform_2 ?_
  refine z_noI (show B.1 98 0 = 0 from hB.1 98 0 (by decide)) ?_
  refine j_aload_n C 0 0 dX12_perform_5 rfl rfl ?_
  refine j_iload_n C 1 1 dX12_perform_6 rfl rfl ?_
  refine j_callVi C (d := 1) (As := [.int p0]) (st := []) 98 (by decide) rfl (by decide) rfl (k101_X12_noTray hB p0) gX12_perform_X12_noTray rfl hdX12_noTray (by decide) (Nat.le_of_ble_eq_true rfl) dX12_perform_7 rfl (fun r M' hp => ?_)
  rcases hp with ⟨h1, rfl, rfl⟩ | ⟨⟨h2, h3⟩, rfl, rfl⟩ | ⟨⟨h4, h5, h6⟩, rfl, rfl⟩ | ⟨⟨h7, h8, h9⟩, rfl, rfl⟩ | ⟨⟨h10, h11, h12⟩, rfl, rfl⟩ | ⟨⟨h13, h14, h15⟩, rfl, rfl⟩
  · refine j_istore_n C 2 [(2, .int (-2)), (0, .ref (ad 98)), (1, .int p0)] dX12_perform_10 rfl (by decide) rfl ?_
    refine j_iload_n C 0 2 dX12_perform_11 rfl rfl ?_
    refine j_if_eq_f C 17 dX12_perform_12 (by decide) (by decide) ?_
    refine j_iload_n C 0 2 dX12_perform_15 rfl rfl ?_
    exact hret _ _ _ _ dX12_perform_16 (by first | rfl | (unfold fo_perform; rw [if_pos (by rw [nI_toInt (by omega)]; omega), nI_clamp (by omega)]; exact hrel) | (unfold fo_perform; (repeat' split) <;> first | rfl | (exfalso; omega) | (exfalso; simp_all; done)))
  · refine j_istore_n C 2 [(2, .int (-2)), (0, .ref (ad 98)), (1, .int p0)] dX12_perform_10 rfl (by decide) rfl ?_
    refine j_iload_n C 0 2 dX12_perform_11 rfl rfl ?_
    refine j_if_eq_f C 17 dX12_perform_12 (by decide) (by decide) ?_
    refine j_iload_n C 0 2 dX12_perform_15 rfl rfl ?_
    exact hret _ _ _ _ dX12_perform_16 (by first | rfl | (unfold fo_perform; rw [if_pos (by rw [nI_toInt (by omega)]; omega), nI_clamp (by omega)]; exact hrel) | (unfold fo_perform; (repeat' split) <;> first | rfl | (exfalso; omega) | (exfalso; simp_all; done)))
  · refine j_istore_n C 2 [(2, .int (-6)), (0, .ref (ad 98)), (1, .int p0)] dX12_perform_10 rfl (by decide) rfl ?_
    refine j_iload_n C 0 2 dX12_perform_11 rfl rfl ?_
    refine j_if_eq_f C 17 dX12_perform_12 (by decide) (by decide) ?_
    refine j_iload_n C 0 2 dX12_perform_15 rfl rfl ?_
    exact hret _ _ _ _ dX12_perform_16 (by first | rfl | (unfold fo_perform; rw [if_pos (by rw [nI_toInt (by omega)]; omega), nI_clamp (by omega)]; exact hrel) | (unfold fo_perform; (repeat' split) <;> first | rfl | (exfalso; omega) | (exfalso; simp_all; done)))
  · refine j_istore_n C 2 [(2, .int (-6)), (0, .ref (ad 98)), (1, .int p0)] dX12_perform_10 rfl (by decide) rfl ?_
    refine j_iload_n C 0 2 dX12_perform_11 rfl rfl ?_
    refine j_if_eq_f C 17 dX12_perform_12 (by decide) (by decide) ?_
    refine j_iload_n C 0 2 dX12_perform_15 rfl rfl ?_
    exact hret _ _ _ _ dX12_perform_16 (by first | rfl | (unfold fo_perform; rw [if_pos (by rw [nI_toInt (by omega)]; omega), nI_clamp (by omega)]; exact hrel) | (unfold fo_perform; (repeat' split) <;> first | rfl | (exfalso; omega) | (exfalso; simp_all; done)))
  · refine j_istore_n C 2 [(2, .int (-6)), (0, .ref (ad 98)), (1, .int p0)] dX12_perform_10 rfl (by decide) rfl ?_
    refine j_iload_n C 0 2 dX12_perform_11 rfl rfl ?_
    refine j_if_eq_f C 17 dX12_perform_12 (by decide) (by decide) ?_
    refine j_iload_n C 0 2 dX12_perform_15 rfl rfl ?_
    exact hret _ _ _ _ dX12_perform_16 (by first | rfl | (unfold fo_perform; rw [if_pos (by rw [nI_toInt (by omega)]; omega), nI_clamp (by omega)]; exact hrel) | (unfold fo_perform; (repeat' split) <;> first | rfl | (exfalso; omega) | (exfalso; simp_all; done)))
  · refine j_istore_n C 2 [(2, .int (-6)), (0, .ref (ad 98)), (1, .int p0)] dX12_perform_10 rfl (by decide) rfl ?_
    refine j_iload_n C 0 2 dX12_perform_11 rfl rfl ?_
    refine j_if_eq_f C 17 dX12_perform_12 (by decide) (by decide) ?_
    refine j_iload_n C 0 2 dX12_perform_15 rfl rfl ?_
    exact hret _ _ _ _ dX12_perform_16 (by first | rfl | (unfold fo_perform; rw [if_pos (by rw [nI_toInt (by omega)]; omega), nI_clamp (by omega)]; exact hrel) | (unfold fo_perform; (repeat' split) <;> first | rfl | (exfalso; omega) | (exfalso; simp_all; done)))
set_option maxHeartbeats 4000000 in
set_option maxRecDepth 100000 in
theorem k115_X12_laysBuys {l : Launch} {dC : Nat → ClassId} {dI : Nat → Nat → Nat} {ad : Nat → Nat} {cA : Nat → ClassId} {B : mm_M} (hB : MB B) : Cv l 1 yX12_laysBuys wsX12_laysBuys dC dI ad cA [.ref (ad 98)] B (fun M' => B = M') := by
  refine cv_of (cc := cX12_laysBuys) (maxL := 3) (lv := [(0, .ref (ad 98))]) (by decide) rfl (Nat.le_of_ble_eq_true rfl) rfl ?_
  intro p e s m args below meth c A Q C hret
  refine j_iconst C 0 dX12_laysBuys_0 (by decide) ?_
  refine j_istore_n C 1 [(1, .int 0), (0, .ref (ad 98))] dX12_laysBuys_1 rfl (by decide) rfl ?_
  refine j_iload_n C 0 1 dX12_laysBuys_2 rfl rfl ?_
  refine j_aload_n C 1 0 dX12_laysBuys_3 rfl rfl ?_
  refine j_callVi C (d := 0) (As := []) (st := [.int 0]) 98 (by decide) rfl (by decide) rfl (k71_X12_everyKind hB) gX12_laysBuys_X12_everyKind rfl hdX12_everyKind (by decide) (Nat.le_of_ble_eq_true rfl) dX12_laysBuys_4 rfl (fun r M' hp => ?_)
  obtain ⟨rfl, rfl⟩ := hp
  refine j_icmp_gt_f C 51 dX12_laysBuys_7 (by decide) (by decide) ?_
  refine j_iconst C 0 dX12_laysBuys_10 (by decide) ?_
  refine j_istore_n C 2 [(2, .int 0), (1, .int 0), (0, .ref (ad 98))] dX12_laysBuys_11 rfl (by decide) rfl ?_
  refine j_iload_n C 0 2 dX12_laysBuys_12 rfl rfl ?_
  refine j_aload_n C 2 0 dX12_laysBuys_13 rfl rfl ?_
  refine j_getP C 11 99 fX12_laysBuys_13 (by decide) rfl (by decide) rfl (show B.2.2 98 1 = 99 from hB.2.2 98 1 (by decide)) dX12_laysBuys_14 ?_
  refine j_iconst C 1 dX12_laysBuys_17 (by decide) ?_
  refine x_iald C 1 3543 0 (by decide) rfl rfl rfl (by decide) (by decide) (show B.1 99 1 = 0 from hB.1 99 1 (by decide)) dX12_laysBuys_18 ?_
  refine j_icmp_ge_t C 45 dX12_laysBuys_19 (by decide) (by decide) ?_
  refine j_iinc C 1 1 [(1, .int 1), (2, .int 0), (0, .ref (ad 98))] dX12_laysBuys_45 rfl (by decide) (by decide) rfl ?_
  refine j_goto C 2 dX12_laysBuys_48 (by decide) ?_
  refine j_iload_n C 0 1 dX12_laysBuys_2 rfl rfl ?_
  refine j_aload_n C 2 0 dX12_laysBuys_3 rfl rfl ?_
  refine j_callVi C (d := 0) (As := []) (st := [.int 1]) 98 (by decide) rfl (by decide) rfl (k71_X12_everyKind hB) gX12_laysBuys_X12_everyKind rfl hdX12_everyKind (by decide) (Nat.le_of_ble_eq_true rfl) dX12_laysBuys_4 rfl (fun r M' hp => ?_)
  obtain ⟨rfl, rfl⟩ := hp
  refine j_icmp_gt_t C 51 dX12_laysBuys_7 (by decide) (by decide) ?_
  exact hret _ _ _ dX12_laysBuys_51 rfl
set_option maxHeartbeats 4000000 in
set_option maxRecDepth 100000 in
theorem k116_X12_laysEnding {l : Launch} {dC : Nat → ClassId} {dI : Nat → Nat → Nat} {ad : Nat → Nat} {cA : Nat → ClassId} {B : mm_M} (hB : MB B) : Ci l 3 yX12_laysEnding wsX12_laysEnding dC dI ad cA [.ref (ad 98), .int (-1)] B (fun r M' => 0 = r ∧ B = M') := by
  refine ci_of (cc := cX12_laysEnding) (maxL := 7) (ty := .int) (lv := [(0, .ref (ad 98)), (1, .int (-1))]) (by decide) rfl (fun r M' hp => rfl) (Nat.le_of_ble_eq_true rfl) rfl ?_
  intro p e s m args below meth c A Q C hret
  refine j_aload_n C 0 0 dX12_laysEnding_0 rfl rfl ?_
  refine j_callVi C (d := 0) (As := []) (st := []) 98 (by decide) rfl (by decide) rfl (k71_X12_everyKind hB) gX12_laysEnding_X12_everyKind rfl hdX12_everyKind (by decide) (Nat.le_of_ble_eq_true rfl) dX12_laysEnding_1 rfl (fun r M' hp => ?_)
  obtain ⟨rfl, rfl⟩ := hp
  refine j_istore_n C 2 [(2, .int 0), (0, .ref (ad 98)), (1, .int (-1))] dX12_laysEnding_4 rfl (by decide) rfl ?_
  refine j_iload_n C 0 2 dX12_laysEnding_5 rfl rfl ?_
  refine j_if_lt_f C 124 dX12_laysEnding_6 (by decide) (by decide) ?_
  refine j_aload_n C 1 0 dX12_laysEnding_9 rfl rfl ?_
  refine j_iload_n C 0 2 dX12_laysEnding_10 rfl rfl ?_
  refine j_callVi C (d := 2) (As := [.int 0]) (st := []) 98 (by decide) rfl (by decide) rfl (k73_X12_isShutBy hB) gX12_laysEnding_X12_isShutBy rfl hdX12_isShutBy (by decide) (Nat.le_of_ble_eq_true rfl) dX12_laysEnding_11 rfl (fun r M' hp => ?_)
  obtain ⟨rfl, rfl⟩ := hp
  refine j_if_eq_f C 21 dX12_laysEnding_14 (by decide) (by decide) ?_
  refine j_iconst C 0 dX12_laysEnding_17 (by decide) ?_
  refine j_goto C 24 dX12_laysEnding_18 (by decide) ?_
  refine j_istore_n C 3 [(3, .int 0), (2, .int 0), (0, .ref (ad 98)), (1, .int (-1))] dX12_laysEnding_24 rfl (by decide) rfl ?_
  refine j_iconst C 0 dX12_laysEnding_25 (by decide) ?_
  refine j_istore C 4 [(4, .int 0), (3, .int 0), (2, .int 0), (0, .ref (ad 98)), (1, .int (-1))] dX12_laysEnding_26 (by decide) rfl ?_
  refine j_iload C 0 dX12_laysEnding_28 rfl ?_
  refine j_aload_n C 3 0 dX12_laysEnding_30 rfl rfl ?_
  refine j_getP C 11 99 fX12_laysEnding_13 (by decide) rfl (by decide) rfl (show B.2.2 98 1 = 99 from hB.2.2 98 1 (by decide)) dX12_laysEnding_31 ?_
  refine j_iconst C 1 dX12_laysEnding_34 (by decide) ?_
  refine x_iald C 1 3543 0 (by decide) rfl rfl rfl (by decide) (by decide) (show B.1 99 1 = 0 from hB.1 99 1 (by decide)) dX12_laysEnding_35 ?_
  refine j_icmp_ge_t C 111 dX12_laysEnding_36 (by decide) (by decide) ?_
  refine j_aload_n C 3 0 dX12_laysEnding_111 rfl rfl ?_
  refine j_getP C 11 107 fX12_laysEnding_42 (by decide) rfl (by decide) rfl (show B.2.2 98 20 = 107 from hB.2.2 98 20 (by decide)) dX12_laysEnding_112 ?_
  refine j_iload_n C 2 2 dX12_laysEnding_115 rfl rfl ?_
  refine j_iload_n C 1 3 dX12_laysEnding_116 rfl rfl ?_
  refine x_iast C 0 256 (by decide) rfl rfl rfl (by decide) (by decide) dX12_laysEnding_117 ?_
  refine z_noI (show B.1 107 0 = 0 from hB.1 107 0 (by decide)) ?_
  refine j_iinc C 2 (-1) [(2, .int (-1)), (4, .int 0), (3, .int 0), (0, .ref (ad 98)), (1, .int (-1))] dX12_laysEnding_118 rfl (by decide) (by decide) rfl ?_
  refine j_goto C 5 dX12_laysEnding_121 (by decide) ?_
  refine j_iload_n C 0 2 dX12_laysEnding_5 rfl rfl ?_
  refine j_if_lt_t C 124 dX12_laysEnding_6 (by decide) (by decide) ?_
  refine j_aload_n C 3 0 dX12_laysEnding_124 rfl rfl ?_
  refine j_getP C 11 107 fX12_laysEnding_42 (by decide) rfl (by decide) rfl (show B.2.2 98 20 = 107 from hB.2.2 98 20 (by decide)) dX12_laysEnding_125 ?_
  refine j_aload_n C 3 0 dX12_laysEnding_128 rfl rfl ?_
  refine j_getP C 11 99 fX12_laysEnding_13 (by decide) rfl (by decide) rfl (show B.2.2 98 1 = 99 from hB.2.2 98 1 (by decide)) dX12_laysEnding_129 ?_
  refine j_bipush C 27 dX12_laysEnding_132 (by decide) ?_
  refine x_iald C 27 3543 0 (by decide) rfl rfl rfl (by decide) (by decide) (show B.1 99 27 = 0 from hB.1 99 27 (by decide)) dX12_laysEnding_134 ?_
  refine x_iald C 0 256 0 (by decide) rfl rfl rfl (by decide) (by decide) (show B.1 107 0 = 0 from hB.1 107 0 (by decide)) dX12_laysEnding_135 ?_
  refine j_ldcw C 268435456 dX12_laysEnding_136 (by decide +kernel) ?_
  refine j_icmp_lt_t C 146 dX12_laysEnding_139 (by decide) (by decide) ?_
  refine j_aload_n C 3 0 dX12_laysEnding_146 rfl rfl ?_
  refine j_getP C 11 107 fX12_laysEnding_42 (by decide) rfl (by decide) rfl (show B.2.2 98 20 = 107 from hB.2.2 98 20 (by decide)) dX12_laysEnding_147 ?_
  refine j_aload_n C 3 0 dX12_laysEnding_150 rfl rfl ?_
  refine j_getP C 11 99 fX12_laysEnding_13 (by decide) rfl (by decide) rfl (show B.2.2 98 1 = 99 from hB.2.2 98 1 (by decide)) dX12_laysEnding_151 ?_
  refine j_bipush C 27 dX12_laysEnding_154 (by decide) ?_
  refine x_iald C 27 3543 0 (by decide) rfl rfl rfl (by decide) (by decide) (show B.1 99 27 = 0 from hB.1 99 27 (by decide)) dX12_laysEnding_156 ?_
  refine x_iald C 0 256 0 (by decide) rfl rfl rfl (by decide) (by decide) (show B.1 107 0 = 0 from hB.1 107 0 (by decide)) dX12_laysEnding_157 ?_
  exact hret _ _ _ _ dX12_laysEnding_158 ⟨rfl, rfl⟩
set_option maxHeartbeats 4000000 in
set_option maxRecDepth 100000 in
theorem k117_X12_endingNow {l : Launch} {dC : Nat → ClassId} {dI : Nat → Nat → Nat} {ad : Nat → Nat} {cA : Nat → ClassId} {B : mm_M} (hB : MB B) : Ci l 4 yX12_endingNow wsX12_endingNow dC dI ad cA [.ref (ad 98)] B (fun r M' => 0 = r ∧ B = M') := by
  refine ci_of (cc := cX12_endingNow) (maxL := 1) (ty := .int) (lv := [(0, .ref (ad 98))]) (by decide) rfl (fun r M' hp => rfl) (Nat.le_of_ble_eq_true rfl) rfl ?_
  intro p e s m args below meth c A Q C hret
  refine j_aload_n C 0 0 dX12_endingNow_0 rfl rfl ?_
  refine j_callVv C (d := 1) (As := []) (st := []) 98 (by decide) rfl (by decide) rfl (k115_X12_laysBuys hB) gX12_endingNow_X12_laysBuys rfl hdX12_laysBuys (by decide) (Nat.le_of_ble_eq_true rfl) dX12_endingNow_1 rfl (fun M' hp => ?_)
  obtain rfl := hp
  refine j_aload_n C 0 0 dX12_endingNow_4 rfl rfl ?_
  refine j_iconst C (-1) dX12_endingNow_5 (by decide) ?_
  refine j_callVi C (d := 3) (As := [.int (-1)]) (st := []) 98 (by decide) rfl (by decide) rfl (k116_X12_laysEnding hB) gX12_endingNow_X12_laysEnding rfl hdX12_laysEnding (by decide) (Nat.le_of_ble_eq_true rfl) dX12_endingNow_6 rfl (fun r M' hp => ?_)
  obtain ⟨rfl, rfl⟩ := hp
  exact hret _ _ _ _ dX12_endingNow_9 ⟨rfl, rfl⟩
set_option maxHeartbeats 4000000 in
set_option maxRecDepth 100000 in
theorem om_ending {l : Launch} {dC : Nat → ClassId} {dI : Nat → Nat → Nat} {ad : Nat → Nat} {cA : Nat → ClassId} {B : mm_M} (hB : MB B) : Ci l 5 yX12_ending wsX12_ending dC dI ad cA [.ref (ad 98)] B (fun r _ => r = fo_ending) := by
  refine ci_of (cc := cX12_ending) (maxL := 1) (ty := .int) (lv := [(0, .ref (ad 98))]) (by decide) rfl (fun r M' hp => rfl) (Nat.le_of_ble_eq_true rfl) rfl ?_
  intro p e s m args below meth c A Q C hret
  refine j_aload_n C 0 0 dX12_ending_0 rfl rfl ?_
  refine j_iconst C 0 dX12_ending_1 (by decide) ?_
  refine j_putI C 11 qX12_ending_1 rfl rfl (by decide) rfl (by decide) rfl dX12_ending_2 ?_
  refine z_noI (show B.1 98 0 = 0 from hB.1 98 0 (by decide)) ?_
  refine j_aload_n C 0 0 dX12_ending_5 rfl rfl ?_
  refine j_callVi C (d := 4) (As := []) (st := []) 98 (by decide) rfl (by decide) rfl (k117_X12_endingNow hB) gX12_ending_X12_endingNow rfl hdX12_endingNow (by decide) (Nat.le_of_ble_eq_true rfl) dX12_ending_6 rfl (fun r M' hp => ?_)
  obtain ⟨rfl, rfl⟩ := hp
  exact hret _ _ _ _ dX12_ending_9 (by first | rfl | (unfold fo_ending; rw [if_pos (by rw [nI_toInt (by omega)]; omega), nI_clamp (by omega)]; exact hrel) | (unfold fo_ending; (repeat' split) <;> first | rfl | (exfalso; omega) | (exfalso; simp_all; done)))
set_option maxHeartbeats 4000000 in
set_option maxRecDepth 100000 in
theorem k120_X12_laysEndingRow {l : Launch} {dC : Nat → ClassId} {dI : Nat → Nat → Nat} {ad : Nat → Nat} {cA : Nat → ClassId} {B : mm_M} (hB : MB B) : Ci l 5 yX12_laysEndingRow wsX12_laysEndingRow dC dI ad cA [.ref (ad 98)] B (fun r M' => 0 = r ∧ B = M') := by
  refine ci_of (cc := cX12_laysEndingRow) (maxL := 5) (ty := .int) (lv := [(0, .ref (ad 98))]) (by decide) rfl (fun r M' hp => rfl) (Nat.le_of_ble_eq_true rfl) rfl ?_
  intro p e s m args below meth c A Q C hret
  refine j_aload_n C 0 0 dX12_laysEndingRow_0 rfl rfl ?_
  refine j_callVi C (d := 4) (As := []) (st := []) 98 (by decide) rfl (by decide) rfl (k117_X12_endingNow hB) gX12_laysEndingRow_X12_endingNow rfl hdX12_endingNow (by decide) (Nat.le_of_ble_eq_true rfl) dX12_laysEndingRow_1 rfl (fun r M' hp => ?_)
  obtain ⟨rfl, rfl⟩ := hp
  refine j_istore_n C 1 [(1, .int 0), (0, .ref (ad 98))] dX12_laysEndingRow_4 rfl (by decide) rfl ?_
  refine j_aload_n C 1 0 dX12_laysEndingRow_5 rfl rfl ?_
  refine j_getP C 11 99 fX12_laysEndingRow_13 (by decide) rfl (by decide) rfl (show B.2.2 98 1 = 99 from hB.2.2 98 1 (by decide)) dX12_laysEndingRow_6 ?_
  refine j_bipush C 27 dX12_laysEndingRow_9 (by decide) ?_
  refine x_iald C 27 3543 0 (by decide) rfl rfl rfl (by decide) (by decide) (show B.1 99 27 = 0 from hB.1 99 27 (by decide)) dX12_laysEndingRow_11 ?_
  refine j_istore_n C 2 [(2, .int 0), (1, .int 0), (0, .ref (ad 98))] dX12_laysEndingRow_12 rfl (by decide) rfl ?_
  refine j_iconst C 0 dX12_laysEndingRow_13 (by decide) ?_
  refine j_istore_n C 3 [(3, .int 0), (2, .int 0), (1, .int 0), (0, .ref (ad 98))] dX12_laysEndingRow_14 rfl (by decide) rfl ?_
  refine j_iload_n C 0 3 dX12_laysEndingRow_15 rfl rfl ?_
  refine j_iload_n C 2 1 dX12_laysEndingRow_16 rfl rfl ?_
  refine j_icmp_ge_t C 105 dX12_laysEndingRow_17 (by decide) (by decide) ?_
  refine j_iload_n C 2 1 dX12_laysEndingRow_105 rfl rfl ?_
  exact hret _ _ _ _ dX12_laysEndingRow_106 ⟨rfl, rfl⟩
set_option maxHeartbeats 4000000 in
set_option maxRecDepth 100000 in
theorem om_endingBy {l : Launch} {dC : Nat → ClassId} {dI : Nat → Nat → Nat} {ad : Nat → Nat} {cA : Nat → ClassId} {B : mm_M} (hB : MB B) (p0 : Int32) : Ci l 6 yX12_endingBy wsX12_endingBy dC dI ad cA [.ref (ad 98), .int p0] B (fun r _ => r = fo_endingBy p0) := by
  refine ci_of (cc := cX12_endingBy) (maxL := 3) (ty := .int) (lv := [(0, .ref (ad 98)), (1, .int p0)]) (by decide) rfl (fun r M' hp => rfl) (Nat.le_of_ble_eq_true rfl) rfl ?_
  intro p e s m args below meth c A Q C hret
  refine j_aload_n C 0 0 dX12_endingBy_0 rfl rfl ?_
  refine j_iconst C 0 dX12_endingBy_1 (by decide) ?_
  refine j_putI C 11 qX12_endingBy_1 rfl rfl (by decide) rfl (by decide) rfl dX12_endingBy_2 ?_
  refine z_noI (show B.1 98 0 = 0 from hB.1 98 0 (by decide)) ?_
  refine j_iload_n C 1 1 dX12_endingBy_5 rfl rfl ?_
  refine z_if_ge C 12 p0.toInt rfl dX12_endingBy_6 (by decide) (fun h1 => ?_) (fun h1 => ?_)
  · refine j_aload_n C 0 0 dX12_endingBy_12 rfl rfl ?_
    refine j_callVi C (d := 5) (As := []) (st := []) 98 (by decide) rfl (by decide) rfl (k120_X12_laysEndingRow hB) gX12_endingBy_X12_laysEndingRow rfl hdX12_laysEndingRow (by decide) (Nat.le_of_ble_eq_true rfl) dX12_endingBy_13 rfl (fun r M' hp => ?_)
    obtain ⟨rfl, rfl⟩ := hp
    refine j_istore_n C 2 [(2, .int 0), (0, .ref (ad 98)), (1, .int p0)] dX12_endingBy_16 rfl (by decide) rfl ?_
    refine j_iload_n C 2 1 dX12_endingBy_17 rfl rfl ?_
    refine j_iload_n C 0 2 dX12_endingBy_18 rfl rfl ?_
    refine z_icmp_ge C 31 p0.toInt 0 rfl (by decide) dX12_endingBy_19 (by decide) (fun h2 => ?_) (fun h2 => ?_)
    · refine j_iconst C (-1) dX12_endingBy_31 (by decide) ?_
      exact hret _ _ _ _ dX12_endingBy_32 (by first | rfl | (unfold fo_endingBy; rw [if_pos (by rw [nI_toInt (by omega)]; omega), nI_clamp (by omega)]; exact hrel) | (unfold fo_endingBy; (repeat' split) <;> first | rfl | (exfalso; omega) | (exfalso; simp_all; done)))
    · exfalso; omega
  · refine j_bipush C (-3) dX12_endingBy_9 (by decide) ?_
    exact hret _ _ _ _ dX12_endingBy_11 (by first | rfl | (unfold fo_endingBy; rw [if_pos (by rw [nI_toInt (by omega)]; omega), nI_clamp (by omega)]; exact hrel) | (unfold fo_endingBy; (repeat' split) <;> first | rfl | (exfalso; omega) | (exfalso; simp_all; done)))
set_option maxHeartbeats 4000000 in
set_option maxRecDepth 100000 in
theorem k148_X12_within {l : Launch} {dC : Nat → ClassId} {dI : Nat → Nat → Nat} {ad : Nat → Nat} {cA : Nat → ClassId} {B : mm_M} (hB : MB B) (p0 : Int32) : Ci l 0 yX12_within wsX12_within dC dI ad cA [.long p0.toInt64, .long 0, .long 15] B (fun r M' => ((p0.toInt < 0) ∧ 0 = r ∧ B = M') ∨ ((¬ p0.toInt < 0 ∧ 15 < p0.toInt) ∧ 0 = r ∧ B = M') ∨ ((¬ p0.toInt < 0 ∧ ¬ 15 < p0.toInt) ∧ 1 = r ∧ B = M')) := by
  refine ci_of (cc := cX12_within) (maxL := 6) (ty := .boolean) (lv := [(0, .long p0.toInt64), (2, .long 0), (4, .long 15)]) (by decide) rfl (fun r M' hp => by rcases hp with ⟨-, rfl, rfl⟩ | ⟨-, rfl, rfl⟩ | ⟨-, rfl, rfl⟩ <;> rfl) (Nat.le_of_ble_eq_true rfl) rfl ?_
  intro p e s m args below meth c A Q C hret
  refine j_lload_n C 0 0 dX12_within_0 rfl rfl ?_
  refine j_lload_n C 1 2 dX12_within_1 rfl rfl ?_
  refine z_lcmp_lt C 17 p0.toInt 0 ((Int32.toInt_toInt64 p0).trans rfl) (by decide) dX12_within_2 dX12_within_3 (by decide) (fun h1 => ?_) (fun h1 => ?_)
  · refine j_iconst C 0 dX12_within_17 (by decide) ?_
    exact hret _ _ _ _ dX12_within_18 (Or.inl ⟨h1, rfl, rfl⟩)
  · refine j_lload_n C 0 0 dX12_within_6 rfl rfl ?_
    refine j_lload C 2 dX12_within_7 rfl ?_
    refine z_lcmp_gt C 17 p0.toInt 15 ((Int32.toInt_toInt64 p0).trans rfl) (by decide) dX12_within_9 dX12_within_10 (by decide) (fun h2 => ?_) (fun h2 => ?_)
    · refine j_iconst C 0 dX12_within_17 (by decide) ?_
      exact hret _ _ _ _ dX12_within_18 (Or.inr (Or.inl ⟨⟨h1, h2⟩, rfl, rfl⟩))
    · refine j_iconst C 1 dX12_within_13 (by decide) ?_
      refine j_goto C 18 dX12_within_14 (by decide) ?_
      exact hret _ _ _ _ dX12_within_18 (Or.inr (Or.inr ⟨⟨h1, h2⟩, rfl, rfl⟩))
set_option maxHeartbeats 4000000 in
set_option maxRecDepth 100000 in
theorem k149_X12_beginsRows {l : Launch} {dC : Nat → ClassId} {dI : Nat → Nat → Nat} {ad : Nat → Nat} {cA : Nat → ClassId} {B : mm_M} (hB : MB B) : Cv l 0 yX12_beginsRows wsX12_beginsRows dC dI ad cA [.ref (ad 98)] B (fun M' => (wJ B 110 0 1) = M') := by
  refine cv_of (cc := cX12_beginsRows) (maxL := 2) (lv := [(0, .ref (ad 98))]) (by decide) rfl (Nat.le_of_ble_eq_true rfl) rfl ?_
  intro p e s m args below meth c A Q C hret
  refine j_iconst C 0 dX12_beginsRows_0 (by decide) ?_
  refine j_istore_n C 1 [(1, .int 0), (0, .ref (ad 98))] dX12_beginsRows_1 rfl (by decide) rfl ?_
  refine j_iload_n C 0 1 dX12_beginsRows_2 rfl rfl ?_
  refine j_sipush C 256 dX12_beginsRows_3 (by decide) ?_
  refine j_icmp_ge_f C 37 dX12_beginsRows_6 (by decide) (by decide) ?_
  refine j_aload_n C 1 0 dX12_beginsRows_9 rfl rfl ?_
  refine j_getP C 11 110 fX12_beginsRows_51 (by decide) rfl (by decide) rfl (show B.2.2 98 23 = 110 from hB.2.2 98 23 (by decide)) dX12_beginsRows_10 ?_
  refine j_iload_n C 0 1 dX12_beginsRows_13 rfl rfl ?_
  refine j_iload_n C 0 1 dX12_beginsRows_14 rfl rfl ?_
  refine j_aload_n C 1 0 dX12_beginsRows_15 rfl rfl ?_
  refine j_getP C 11 99 fX12_beginsRows_13 (by decide) rfl (by decide) rfl (show B.2.2 98 1 = 99 from hB.2.2 98 1 (by decide)) dX12_beginsRows_16 ?_
  refine j_bipush C 27 dX12_beginsRows_19 (by decide) ?_
  refine x_iald C 27 3543 0 (by decide) rfl rfl rfl (by decide) (by decide) (show B.1 99 27 = 0 from hB.1 99 27 (by decide)) dX12_beginsRows_21 ?_
  refine j_icmp_ne_f C 29 dX12_beginsRows_22 (by decide) (by decide) ?_
  refine j_lconst C 1 dX12_beginsRows_25 (by decide) ?_
  refine j_goto C 30 dX12_beginsRows_26 (by decide) ?_
  refine x_last C 0 256 (by decide) rfl rfl rfl (by decide) (by decide) dX12_beginsRows_30 ?_
  refine j_iinc C 0 1 [(1, .int 1), (0, .ref (ad 98))] dX12_beginsRows_31 rfl (by decide) (by decide) rfl ?_
  refine j_goto C 2 dX12_beginsRows_34 (by decide) ?_
  refine j_lv [1, 0] rfl ?_
  have L : ∀ (n i : Nat), 1 ≤ i → i + n = 256 → jj p l e (cn_R 0) s m args below meth c 0 0 Q 2 dC dI ad cA A (wJ B 110 0 1) 2 [(0, .ref (ad 98)), (1, .int (nI i))] [] := by
    intro n
    induction n with
    | zero =>
      intro i h1 h2
      obtain rfl : i = 256 := by omega
      refine j_iload_n C 1 1 dX12_beginsRows_2 rfl rfl ?_
      refine j_sipush C 256 dX12_beginsRows_3 (by decide) ?_
      refine j_icmp_ge_t C 37 dX12_beginsRows_6 (by decide) (by decide) ?_
      exact hret _ _ _ dX12_beginsRows_37 rfl
    | succ n ih =>
      intro i h1 h2
      refine j_iload_n C 1 1 dX12_beginsRows_2 rfl rfl ?_
      refine j_sipush C 256 dX12_beginsRows_3 (by decide) ?_
      refine z_icmp_ge C 37 (i : Int) 256 (nI_toInt (n := i) (by omega)) (by decide) dX12_beginsRows_6 (by decide) (fun h1 => ?_) (fun h1 => ?_)
      · exfalso; omega
      · refine j_aload_n C 0 0 dX12_beginsRows_9 rfl rfl ?_
        refine j_getP C 11 110 fX12_beginsRows_51 (by decide) rfl (by decide) rfl (show B.2.2 98 23 = 110 from hB.2.2 98 23 (by decide)) dX12_beginsRows_10 ?_
        refine j_iload_n C 1 1 dX12_beginsRows_13 rfl rfl ?_
        refine j_iload_n C 1 1 dX12_beginsRows_14 rfl rfl ?_
        refine j_aload_n C 0 0 dX12_beginsRows_15 rfl rfl ?_
        refine j_getP C 11 99 fX12_beginsRows_13 (by decide) rfl (by decide) rfl (show B.2.2 98 1 = 99 from hB.2.2 98 1 (by decide)) dX12_beginsRows_16 ?_
        refine j_bipush C 27 dX12_beginsRows_19 (by decide) ?_
        refine x_iald C 27 3543 0 (by decide) rfl rfl rfl (by decide) (by decide) (show B.1 99 27 = 0 from hB.1 99 27 (by decide)) dX12_beginsRows_21 ?_
        refine z_icmp_ne C 29 (i : Int) 0 (nI_toInt (n := i) (by omega)) (by decide) dX12_beginsRows_22 (by decide) (fun h2 => ?_) (fun h2 => ?_)
        · refine j_lconst C 0 dX12_beginsRows_29 (by decide) ?_
          refine x_last C i 256 (by decide) rfl rfl rfl (by omega) (by decide) dX12_beginsRows_30 ?_
          refine z_noJ ((u2_b (i := 110) (k := 0) (a := 110) (b := i) _ (1 : Int64) (by omega)).trans (show B.2.1 110 i = 0 from hB.2.1 110 i (by decide))) ?_
          refine j_iinc C 1 (nI (i + 1)) [(1, .int (nI (i + 1))), (0, .ref (ad 98))] dX12_beginsRows_31 rfl (nI_1 i) (by decide) rfl ?_
          refine j_goto C 2 dX12_beginsRows_34 (by decide) ?_
          refine j_lv [1, 0] rfl ?_
          exact ih (i + 1) (by omega) (by omega)
        · exfalso; omega
  exact L (256 - 1) 1 (by omega) (by omega)
set_option maxHeartbeats 4000000 in
set_option maxRecDepth 100000 in
theorem k150_X12_everyKind {l : Launch} {dC : Nat → ClassId} {dI : Nat → Nat → Nat} {ad : Nat → Nat} {cA : Nat → ClassId} {B : mm_M} (hB : MB B) : Ci l 0 yX12_everyKind wsX12_everyKind dC dI ad cA [.ref (ad 98)] (wJ B 110 0 1) (fun r M' => 0 = r ∧ (wJ B 110 0 1) = M') := by
  refine ci_of (cc := cX12_everyKind) (maxL := 1) (ty := .int) (lv := [(0, .ref (ad 98))]) (by decide) rfl (fun r M' hp => rfl) (Nat.le_of_ble_eq_true rfl) rfl ?_
  intro p e s m args below meth c A Q C hret
  refine j_iconst C 1 dX12_everyKind_0 (by decide) ?_
  refine j_aload_n C 0 0 dX12_everyKind_1 rfl rfl ?_
  refine j_getP C 11 99 fX12_everyKind_13 (by decide) rfl (by decide) rfl (show B.2.2 98 1 = 99 from hB.2.2 98 1 (by decide)) dX12_everyKind_2 ?_
  refine j_bipush C 26 dX12_everyKind_5 (by decide) ?_
  refine x_iald C 26 3543 0 (by decide) rfl rfl rfl (by decide) (by decide) (show B.1 99 26 = 0 from hB.1 99 26 (by decide)) dX12_everyKind_7 ?_
  refine z_ishl C 1 (by decide) dX12_everyKind_8 ?_
  refine j_iconst C 1 dX12_everyKind_9 (by decide) ?_
  refine z_isub C 0 (by decide) dX12_everyKind_10 ?_
  exact hret _ _ _ _ dX12_everyKind_11 ⟨rfl, rfl⟩
set_option maxHeartbeats 4000000 in
set_option maxRecDepth 100000 in
theorem k151_X12_shown {l : Launch} {dC : Nat → ClassId} {dI : Nat → Nat → Nat} {ad : Nat → Nat} {cA : Nat → ClassId} {B : mm_M} (hB : MB B) : Ci l 1 yX12_shown wsX12_shown dC dI ad cA [.ref (ad 98)] (wJ B 110 0 1) (fun r M' => 0 = r ∧ (wJ B 110 0 1) = M') := by
  refine ci_of (cc := cX12_shown) (maxL := 1) (ty := .int) (lv := [(0, .ref (ad 98))]) (by decide) rfl (fun r M' hp => rfl) (Nat.le_of_ble_eq_true rfl) rfl ?_
  intro p e s m args below meth c A Q C hret
  refine j_aload_n C 0 0 dX12_shown_0 rfl rfl ?_
  refine j_callVi C (d := 0) (As := []) (st := []) 98 (by decide) rfl (by decide) rfl (k150_X12_everyKind hB) gX12_shown_X12_everyKind rfl hdX12_everyKind (by decide) (Nat.le_of_ble_eq_true rfl) dX12_shown_1 rfl (fun r M' hp => ?_)
  obtain ⟨rfl, rfl⟩ := hp
  refine j_aload_n C 0 0 dX12_shown_4 rfl rfl ?_
  refine j_getP C 11 99 fX12_shown_13 (by decide) rfl (by decide) rfl (show B.2.2 98 1 = 99 from hB.2.2 98 1 (by decide)) dX12_shown_5 ?_
  refine j_bipush C 28 dX12_shown_8 (by decide) ?_
  refine x_iald C 28 3543 0 (by decide) rfl rfl rfl (by decide) (by decide) (show B.1 99 28 = 0 from hB.1 99 28 (by decide)) dX12_shown_10 ?_
  refine j_iconst C (-1) dX12_shown_11 (by decide) ?_
  refine z_ixor C (-1) (by decide) dX12_shown_12 ?_
  refine z_iand C 0 (by decide) dX12_shown_13 ?_
  exact hret _ _ _ _ dX12_shown_14 ⟨rfl, rfl⟩
set_option maxHeartbeats 4000000 in
set_option maxRecDepth 100000 in
theorem k152_X12_isShutBy {l : Launch} {dC : Nat → ClassId} {dI : Nat → Nat → Nat} {ad : Nat → Nat} {cA : Nat → ClassId} {B : mm_M} (hB : MB B) : Ci l 2 yX12_isShutBy wsX12_isShutBy dC dI ad cA [.ref (ad 98), .int 0] (wJ B 110 0 1) (fun r M' => 1 = r ∧ (wJ B 110 0 1) = M') := by
  refine ci_of (cc := cX12_isShutBy) (maxL := 2) (ty := .boolean) (lv := [(0, .ref (ad 98)), (1, .int 0)]) (by decide) rfl (fun r M' hp => by obtain ⟨rfl, rfl⟩ := hp; rfl) (Nat.le_of_ble_eq_true rfl) rfl ?_
  intro p e s m args below meth c A Q C hret
  refine j_aload_n C 0 0 dX12_isShutBy_0 rfl rfl ?_
  refine j_callVi C (d := 1) (As := []) (st := []) 98 (by decide) rfl (by decide) rfl (k151_X12_shown hB) gX12_isShutBy_X12_shown rfl hdX12_shown (by decide) (Nat.le_of_ble_eq_true rfl) dX12_isShutBy_1 rfl (fun r M' hp => ?_)
  obtain ⟨rfl, rfl⟩ := hp
  refine j_iload_n C 1 1 dX12_isShutBy_4 rfl rfl ?_
  refine j_iconst C (-1) dX12_isShutBy_5 (by decide) ?_
  refine z_ixor C (-1) (by decide) dX12_isShutBy_6 ?_
  refine z_iand C 0 (by decide) dX12_isShutBy_7 ?_
  refine j_if_ne_f C 15 dX12_isShutBy_8 (by decide) (by decide) ?_
  refine j_iconst C 1 dX12_isShutBy_11 (by decide) ?_
  refine j_goto C 16 dX12_isShutBy_12 (by decide) ?_
  exact hret _ _ _ _ dX12_isShutBy_16 ⟨rfl, rfl⟩
set_option maxHeartbeats 4000000 in
set_option maxRecDepth 100000 in
theorem k153_X12_isShutBy {l : Launch} {dC : Nat → ClassId} {dI : Nat → Nat → Nat} {ad : Nat → Nat} {cA : Nat → ClassId} {B : mm_M} (hB : MB B) (p0 : Nat) (hbp0 : 1 ≤ p0 ∧ p0 ≤ 255) : Ci l 2 yX12_isShutBy wsX12_isShutBy dC dI ad cA [.ref (ad 98), .int (nI p0)] (wJ B 110 0 1) (fun r M' => 1 = r ∧ (wJ B 110 0 1) = M') := by
  refine ci_of (cc := cX12_isShutBy) (maxL := 2) (ty := .boolean) (lv := [(0, .ref (ad 98)), (1, .int (nI p0))]) (by decide) rfl (fun r M' hp => by obtain ⟨rfl, rfl⟩ := hp; rfl) (Nat.le_of_ble_eq_true rfl) rfl ?_
  intro p e s m args below meth c A Q C hret
  refine j_aload_n C 0 0 dX12_isShutBy_0 rfl rfl ?_
  refine j_callVi C (d := 1) (As := []) (st := []) 98 (by decide) rfl (by decide) rfl (k151_X12_shown hB) gX12_isShutBy_X12_shown rfl hdX12_shown (by decide) (Nat.le_of_ble_eq_true rfl) dX12_isShutBy_1 rfl (fun r M' hp => ?_)
  obtain ⟨rfl, rfl⟩ := hp
  refine j_iload_n C 1 1 dX12_isShutBy_4 rfl rfl ?_
  refine j_iconst C (-1) dX12_isShutBy_5 (by decide) ?_
  refine z_ixor C ((nI p0) ^^^ ((-1) : Int32)) rfl dX12_isShutBy_6 ?_
  refine z_iand C 0 (by simp) dX12_isShutBy_7 ?_
  refine j_if_ne_f C 15 dX12_isShutBy_8 (by decide) (by decide) ?_
  refine j_iconst C 1 dX12_isShutBy_11 (by decide) ?_
  refine j_goto C 16 dX12_isShutBy_12 (by decide) ?_
  exact hret _ _ _ _ dX12_isShutBy_16 ⟨rfl, rfl⟩
set_option maxHeartbeats 4000000 in
set_option maxRecDepth 100000 in
theorem k154_X12_shutRows {l : Launch} {dC : Nat → ClassId} {dI : Nat → Nat → Nat} {ad : Nat → Nat} {cA : Nat → ClassId} {B : mm_M} (hB : MB B) : Cj l 3 yX12_shutRows wsX12_shutRows dC dI ad cA [.ref (ad 98)] (wJ B 110 0 1) (fun r M' => 1 = r ∧ (wJ B 110 0 1) = M') := by
  refine cj_of (cc := cX12_shutRows) (maxL := 4) (lv := [(0, .ref (ad 98))]) (by decide) rfl (Nat.le_of_ble_eq_true rfl) rfl ?_
  intro p e s m args below meth c A Q C hret
  refine j_lconst C 0 dX12_shutRows_0 (by decide) ?_
  refine j_lstore_n C 1 [(1, .long 0), (0, .ref (ad 98))] dX12_shutRows_1 rfl (by decide) rfl ?_
  refine j_iconst C 0 dX12_shutRows_2 (by decide) ?_
  refine j_istore_n C 3 [(3, .int 0), (1, .long 0), (0, .ref (ad 98))] dX12_shutRows_3 rfl (by decide) rfl ?_
  refine j_iload_n C 0 3 dX12_shutRows_4 rfl rfl ?_
  refine j_sipush C 256 dX12_shutRows_5 (by decide) ?_
  refine j_icmp_ge_f C 38 dX12_shutRows_8 (by decide) (by decide) ?_
  refine j_lload_n C 1 1 dX12_shutRows_11 rfl rfl ?_
  refine j_aload_n C 2 0 dX12_shutRows_12 rfl rfl ?_
  refine j_iload_n C 0 3 dX12_shutRows_13 rfl rfl ?_
  refine j_callVi C (d := 2) (As := [.int 0]) (st := [.long 0]) 98 (by decide) rfl (by decide) rfl (k152_X12_isShutBy hB) gX12_shutRows_X12_isShutBy rfl hdX12_isShutBy (by decide) (Nat.le_of_ble_eq_true rfl) dX12_shutRows_14 rfl (fun r M' hp => ?_)
  obtain ⟨rfl, rfl⟩ := hp
  refine j_if_eq_f C 29 dX12_shutRows_17 (by decide) (by decide) ?_
  refine j_aload_n C 2 0 dX12_shutRows_20 rfl rfl ?_
  refine j_getP C 11 110 fX12_shutRows_51 (by decide) rfl (by decide) rfl (show B.2.2 98 23 = 110 from hB.2.2 98 23 (by decide)) dX12_shutRows_21 ?_
  refine j_iload_n C 0 3 dX12_shutRows_24 rfl rfl ?_
  refine x_lald C 0 256 1 (by decide) rfl rfl rfl (by decide) (by decide) rfl dX12_shutRows_25 ?_
  refine j_goto C 30 dX12_shutRows_26 (by decide) ?_
  refine z_ladd C 1 (by decide) dX12_shutRows_30 ?_
  refine j_lstore_n C 1 [(1, .long 1), (3, .int 0), (0, .ref (ad 98))] dX12_shutRows_31 rfl (by decide) rfl ?_
  refine j_iinc C 1 1 [(3, .int 1), (1, .long 1), (0, .ref (ad 98))] dX12_shutRows_32 rfl (by decide) (by decide) rfl ?_
  refine j_goto C 4 dX12_shutRows_35 (by decide) ?_
  refine j_lv [2, 1, 0] rfl ?_
  have L : ∀ (n i : Nat), 1 ≤ i → i + n = 256 → jj p l e (cn_R 3) s m args below meth c 0 0 Q 4 dC dI ad cA A (wJ B 110 0 1) 4 [(0, .ref (ad 98)), (1, .long 1), (3, .int (nI i))] [] := by
    intro n
    induction n with
    | zero =>
      intro i h1 h2
      obtain rfl : i = 256 := by omega
      refine j_iload_n C 2 3 dX12_shutRows_4 rfl rfl ?_
      refine j_sipush C 256 dX12_shutRows_5 (by decide) ?_
      refine j_icmp_ge_t C 38 dX12_shutRows_8 (by decide) (by decide) ?_
      refine j_lload_n C 1 1 dX12_shutRows_38 rfl rfl ?_
      exact hret _ _ _ _ dX12_shutRows_39 ⟨rfl, rfl⟩
    | succ n ih =>
      intro i h1 h2
      refine j_iload_n C 2 3 dX12_shutRows_4 rfl rfl ?_
      refine j_sipush C 256 dX12_shutRows_5 (by decide) ?_
      refine z_icmp_ge C 38 (i : Int) 256 (nI_toInt (n := i) (by omega)) (by decide) dX12_shutRows_8 (by decide) (fun h1 => ?_) (fun h1 => ?_)
      · exfalso; omega
      · refine j_lload_n C 1 1 dX12_shutRows_11 rfl rfl ?_
        refine j_aload_n C 0 0 dX12_shutRows_12 rfl rfl ?_
        refine j_iload_n C 2 3 dX12_shutRows_13 rfl rfl ?_
        refine j_callVi C (d := 2) (As := [.int (nI i)]) (st := [.long 1]) 98 (by decide) rfl (by decide) rfl (k153_X12_isShutBy hB i (by omega)) gX12_shutRows_X12_isShutBy rfl hdX12_isShutBy (by decide) (Nat.le_of_ble_eq_true rfl) dX12_shutRows_14 rfl (fun r M' hp => ?_)
        obtain ⟨rfl, rfl⟩ := hp
        refine j_if_eq_f C 29 dX12_shutRows_17 (by decide) (by decide) ?_
        refine j_aload_n C 0 0 dX12_shutRows_20 rfl rfl ?_
        refine j_getP C 11 110 fX12_shutRows_51 (by decide) rfl (by decide) rfl (show B.2.2 98 23 = 110 from hB.2.2 98 23 (by decide)) dX12_shutRows_21 ?_
        refine j_iload_n C 2 3 dX12_shutRows_24 rfl rfl ?_
        refine x_lald C i 256 0 (by decide) rfl rfl rfl (by omega) (by decide) ((u2_b (i := 110) (k := 0) (a := 110) (b := i) _ (1 : Int64) (by omega)).trans (show B.2.1 110 i = 0 from hB.2.1 110 i (by decide))) dX12_shutRows_25 ?_
        refine j_goto C 30 dX12_shutRows_26 (by decide) ?_
        refine z_ladd C 1 (by decide) dX12_shutRows_30 ?_
        refine j_lstore_n C 1 [(1, .long 1), (0, .ref (ad 98)), (3, .int (nI i))] dX12_shutRows_31 rfl (by decide) rfl ?_
        refine j_iinc C 2 (nI (i + 1)) [(3, .int (nI (i + 1))), (1, .long 1), (0, .ref (ad 98))] dX12_shutRows_32 rfl (nI_1 i) (by decide) rfl ?_
        refine j_goto C 4 dX12_shutRows_35 (by decide) ?_
        refine j_lv [2, 1, 0] rfl ?_
        exact ih (i + 1) (by omega) (by omega)
  exact L (256 - 1) 1 (by omega) (by omega)
set_option maxHeartbeats 4000000 in
set_option maxRecDepth 100000 in
theorem k155_X12_goesRows {l : Launch} {dC : Nat → ClassId} {dI : Nat → Nat → Nat} {ad : Nat → Nat} {cA : Nat → ClassId} {B : mm_M} (hB : MB B) : Cv l 1 yX12_goesRows wsX12_goesRows dC dI ad cA [.ref (ad 98), .int (-1), .int (-1)] (wJ B 110 0 1) (fun M' => (wJ B 110 0 0) = M') := by
  refine cv_of (cc := cX12_goesRows) (maxL := 6) (lv := [(0, .ref (ad 98)), (1, .int (-1)), (2, .int (-1))]) (by decide) rfl (Nat.le_of_ble_eq_true rfl) rfl ?_
  intro p e s m args below meth c A Q C hret
  refine j_iconst C 0 dX12_goesRows_0 (by decide) ?_
  refine j_istore_n C 3 [(3, .int 0), (0, .ref (ad 98)), (1, .int (-1)), (2, .int (-1))] dX12_goesRows_1 rfl (by decide) rfl ?_
  refine j_lv [1, 2, 3, 0] rfl ?_
  have L : ∀ (n i : Nat), 0 ≤ i → i + n = 256 → jj p l e (cn_R 1) s m args below meth c 0 0 Q 6 dC dI ad cA A (wJ B 110 0 1) 2 [(0, .ref (ad 98)), (1, .int (-1)), (2, .int (-1)), (3, .int (nI i))] [] := by
    intro n
    induction n with
    | zero =>
      intro i h1 h2
      obtain rfl : i = 256 := by omega
      refine j_iload_n C 3 3 dX12_goesRows_2 rfl rfl ?_
      refine j_sipush C 256 dX12_goesRows_3 (by decide) ?_
      refine j_icmp_ge_t C 22 dX12_goesRows_6 (by decide) (by decide) ?_
      refine j_iconst C 0 dX12_goesRows_22 (by decide) ?_
      refine j_istore_n C 3 [(3, .int 0), (0, .ref (ad 98)), (1, .int (-1)), (2, .int (-1))] dX12_goesRows_23 rfl (by decide) rfl ?_
      refine j_iload_n C 0 3 dX12_goesRows_24 rfl rfl ?_
      refine j_aload_n C 1 0 dX12_goesRows_25 rfl rfl ?_
      refine j_callVi C (d := 0) (As := []) (st := [.int 0]) 98 (by decide) rfl (by decide) rfl (k150_X12_everyKind hB) gX12_goesRows_X12_everyKind rfl hdX12_everyKind (by decide) (Nat.le_of_ble_eq_true rfl) dX12_goesRows_26 rfl (fun r M' hp => ?_)
      obtain ⟨rfl, rfl⟩ := hp
      refine j_icmp_gt_f C 126 dX12_goesRows_29 (by decide) (by decide) ?_
      refine j_iconst C 0 dX12_goesRows_32 (by decide) ?_
      refine j_istore C 4 [(4, .int 0), (3, .int 0), (0, .ref (ad 98)), (1, .int (-1)), (2, .int (-1))] dX12_goesRows_33 (by decide) rfl ?_
      refine j_iload C 0 dX12_goesRows_35 rfl ?_
      refine j_aload_n C 2 0 dX12_goesRows_37 rfl rfl ?_
      refine j_getP C 11 99 fX12_goesRows_13 (by decide) rfl (by decide) rfl (show B.2.2 98 1 = 99 from hB.2.2 98 1 (by decide)) dX12_goesRows_38 ?_
      refine j_iconst C 1 dX12_goesRows_41 (by decide) ?_
      refine x_iald C 1 3543 0 (by decide) rfl rfl rfl (by decide) (by decide) (show B.1 99 1 = 0 from hB.1 99 1 (by decide)) dX12_goesRows_42 ?_
      refine j_icmp_ge_t C 120 dX12_goesRows_43 (by decide) (by decide) ?_
      refine j_iinc C 1 1 [(3, .int 1), (4, .int 0), (0, .ref (ad 98)), (1, .int (-1)), (2, .int (-1))] dX12_goesRows_120 rfl (by decide) (by decide) rfl ?_
      refine j_goto C 24 dX12_goesRows_123 (by decide) ?_
      refine j_iload_n C 0 3 dX12_goesRows_24 rfl rfl ?_
      refine j_aload_n C 2 0 dX12_goesRows_25 rfl rfl ?_
      refine j_callVi C (d := 0) (As := []) (st := [.int 1]) 98 (by decide) rfl (by decide) rfl (k150_X12_everyKind hB) gX12_goesRows_X12_everyKind rfl hdX12_everyKind (by decide) (Nat.le_of_ble_eq_true rfl) dX12_goesRows_26 rfl (fun r M' hp => ?_)
      obtain ⟨rfl, rfl⟩ := hp
      refine j_icmp_gt_t C 126 dX12_goesRows_29 (by decide) (by decide) ?_
      refine j_iconst C 0 dX12_goesRows_126 (by decide) ?_
      refine j_istore_n C 3 [(3, .int 0), (4, .int 0), (0, .ref (ad 98)), (1, .int (-1)), (2, .int (-1))] dX12_goesRows_127 rfl (by decide) rfl ?_
      refine j_iload_n C 0 3 dX12_goesRows_128 rfl rfl ?_
      refine j_sipush C 256 dX12_goesRows_129 (by decide) ?_
      refine j_icmp_ge_f C 153 dX12_goesRows_132 (by decide) (by decide) ?_
      refine j_aload_n C 2 0 dX12_goesRows_135 rfl rfl ?_
      refine j_getP C 11 110 fX12_goesRows_51 (by decide) rfl (by decide) rfl (show B.2.2 98 23 = 110 from hB.2.2 98 23 (by decide)) dX12_goesRows_136 ?_
      refine j_iload_n C 0 3 dX12_goesRows_139 rfl rfl ?_
      refine j_aload_n C 2 0 dX12_goesRows_140 rfl rfl ?_
      refine j_getP C 11 111 fX12_goesRows_55 (by decide) rfl (by decide) rfl (show B.2.2 98 24 = 111 from hB.2.2 98 24 (by decide)) dX12_goesRows_141 ?_
      refine j_iload_n C 0 3 dX12_goesRows_144 rfl rfl ?_
      refine x_lald C 0 256 0 (by decide) rfl rfl rfl (by decide) (by decide) (show B.2.1 111 0 = 0 from hB.2.1 111 0 (by decide)) dX12_goesRows_145 ?_
      refine x_last C 0 256 (by decide) rfl rfl rfl (by decide) (by decide) dX12_goesRows_146 ?_
      refine j_M (M' := (wJ B 110 0 0)) (wJ_w _ _ _ _ _) ?_
      refine j_iinc C 0 1 [(3, .int 1), (4, .int 0), (0, .ref (ad 98)), (1, .int (-1)), (2, .int (-1))] dX12_goesRows_147 rfl (by decide) (by decide) rfl ?_
      refine j_goto C 128 dX12_goesRows_150 (by decide) ?_
      refine j_lv [2, 3, 4, 0, 1] rfl ?_
      have L : ∀ (n i : Nat), 1 ≤ i → i + n = 256 → jj p l e (cn_R 1) s m args below meth c 0 0 Q 6 dC dI ad cA A (wJ B 110 0 0) 128 [(0, .ref (ad 98)), (1, .int (-1)), (2, .int (-1)), (3, .int (nI i)), (4, .int 0)] [] := by
        intro n
        induction n with
        | zero =>
          intro i h1 h2
          obtain rfl : i = 256 := by omega
          refine j_iload_n C 3 3 dX12_goesRows_128 rfl rfl ?_
          refine j_sipush C 256 dX12_goesRows_129 (by decide) ?_
          refine j_icmp_ge_t C 153 dX12_goesRows_132 (by decide) (by decide) ?_
          exact hret _ _ _ dX12_goesRows_153 rfl
        | succ n ih =>
          intro i h1 h2
          refine j_iload_n C 3 3 dX12_goesRows_128 rfl rfl ?_
          refine j_sipush C 256 dX12_goesRows_129 (by decide) ?_
          refine z_icmp_ge C 153 (i : Int) 256 (nI_toInt (n := i) (by omega)) (by decide) dX12_goesRows_132 (by decide) (fun h1 => ?_) (fun h1 => ?_)
          · exfalso; omega
          · refine j_aload_n C 0 0 dX12_goesRows_135 rfl rfl ?_
            refine j_getP C 11 110 fX12_goesRows_51 (by decide) rfl (by decide) rfl (show B.2.2 98 23 = 110 from hB.2.2 98 23 (by decide)) dX12_goesRows_136 ?_
            refine j_iload_n C 3 3 dX12_goesRows_139 rfl rfl ?_
            refine j_aload_n C 0 0 dX12_goesRows_140 rfl rfl ?_
            refine j_getP C 11 111 fX12_goesRows_55 (by decide) rfl (by decide) rfl (show B.2.2 98 24 = 111 from hB.2.2 98 24 (by decide)) dX12_goesRows_141 ?_
            refine j_iload_n C 3 3 dX12_goesRows_144 rfl rfl ?_
            refine x_lald C i 256 0 (by decide) rfl rfl rfl (by omega) (by decide) (show B.2.1 111 i = 0 from hB.2.1 111 i (by decide)) dX12_goesRows_145 ?_
            refine x_last C i 256 (by decide) rfl rfl rfl (by omega) (by decide) dX12_goesRows_146 ?_
            refine z_noJ ((u2_b (i := 110) (k := 0) (a := 110) (b := i) _ (0 : Int64) (by omega)).trans (show B.2.1 110 i = 0 from hB.2.1 110 i (by decide))) ?_
            refine j_iinc C 3 (nI (i + 1)) [(3, .int (nI (i + 1))), (0, .ref (ad 98)), (1, .int (-1)), (2, .int (-1)), (4, .int 0)] dX12_goesRows_147 rfl (nI_1 i) (by decide) rfl ?_
            refine j_goto C 128 dX12_goesRows_150 (by decide) ?_
            refine j_lv [1, 2, 3, 0, 4] rfl ?_
            exact ih (i + 1) (by omega) (by omega)
      exact L (256 - 1) 1 (by omega) (by omega)
    | succ n ih =>
      intro i h1 h2
      refine j_iload_n C 3 3 dX12_goesRows_2 rfl rfl ?_
      refine j_sipush C 256 dX12_goesRows_3 (by decide) ?_
      refine z_icmp_ge C 22 (i : Int) 256 (nI_toInt (n := i) (by omega)) (by decide) dX12_goesRows_6 (by decide) (fun h2 => ?_) (fun h2 => ?_)
      · exfalso; omega
      · refine j_aload_n C 0 0 dX12_goesRows_9 rfl rfl ?_
        refine j_getP C 11 111 fX12_goesRows_55 (by decide) rfl (by decide) rfl (show B.2.2 98 24 = 111 from hB.2.2 98 24 (by decide)) dX12_goesRows_10 ?_
        refine j_iload_n C 3 3 dX12_goesRows_13 rfl rfl ?_
        refine j_lconst C 0 dX12_goesRows_14 (by decide) ?_
        refine x_last C i 256 (by decide) rfl rfl rfl (by omega) (by decide) dX12_goesRows_15 ?_
        refine z_noJ (show B.2.1 111 i = 0 from hB.2.1 111 i (by decide)) ?_
        refine j_iinc C 3 (nI (i + 1)) [(3, .int (nI (i + 1))), (0, .ref (ad 98)), (1, .int (-1)), (2, .int (-1))] dX12_goesRows_16 rfl (nI_1 i) (by decide) rfl ?_
        refine j_goto C 2 dX12_goesRows_19 (by decide) ?_
        refine j_lv [1, 2, 3, 0] rfl ?_
        exact ih (i + 1) (by omega) (by omega)
  exact L (256 - 0) 0 (by omega) (by omega)
set_option maxHeartbeats 4000000 in
set_option maxRecDepth 100000 in
theorem k156_X12_everyKind {l : Launch} {dC : Nat → ClassId} {dI : Nat → Nat → Nat} {ad : Nat → Nat} {cA : Nat → ClassId} {B : mm_M} (hB : MB B) : Ci l 0 yX12_everyKind wsX12_everyKind dC dI ad cA [.ref (ad 98)] (wJ B 110 0 0) (fun r M' => 0 = r ∧ (wJ B 110 0 0) = M') := by
  refine ci_of (cc := cX12_everyKind) (maxL := 1) (ty := .int) (lv := [(0, .ref (ad 98))]) (by decide) rfl (fun r M' hp => rfl) (Nat.le_of_ble_eq_true rfl) rfl ?_
  intro p e s m args below meth c A Q C hret
  refine j_iconst C 1 dX12_everyKind_0 (by decide) ?_
  refine j_aload_n C 0 0 dX12_everyKind_1 rfl rfl ?_
  refine j_getP C 11 99 fX12_everyKind_13 (by decide) rfl (by decide) rfl (show B.2.2 98 1 = 99 from hB.2.2 98 1 (by decide)) dX12_everyKind_2 ?_
  refine j_bipush C 26 dX12_everyKind_5 (by decide) ?_
  refine x_iald C 26 3543 0 (by decide) rfl rfl rfl (by decide) (by decide) (show B.1 99 26 = 0 from hB.1 99 26 (by decide)) dX12_everyKind_7 ?_
  refine z_ishl C 1 (by decide) dX12_everyKind_8 ?_
  refine j_iconst C 1 dX12_everyKind_9 (by decide) ?_
  refine z_isub C 0 (by decide) dX12_everyKind_10 ?_
  exact hret _ _ _ _ dX12_everyKind_11 ⟨rfl, rfl⟩
set_option maxHeartbeats 4000000 in
set_option maxRecDepth 100000 in
theorem k157_X12_shown {l : Launch} {dC : Nat → ClassId} {dI : Nat → Nat → Nat} {ad : Nat → Nat} {cA : Nat → ClassId} {B : mm_M} (hB : MB B) : Ci l 1 yX12_shown wsX12_shown dC dI ad cA [.ref (ad 98)] (wJ B 110 0 0) (fun r M' => 0 = r ∧ (wJ B 110 0 0) = M') := by
  refine ci_of (cc := cX12_shown) (maxL := 1) (ty := .int) (lv := [(0, .ref (ad 98))]) (by decide) rfl (fun r M' hp => rfl) (Nat.le_of_ble_eq_true rfl) rfl ?_
  intro p e s m args below meth c A Q C hret
  refine j_aload_n C 0 0 dX12_shown_0 rfl rfl ?_
  refine j_callVi C (d := 0) (As := []) (st := []) 98 (by decide) rfl (by decide) rfl (k156_X12_everyKind hB) gX12_shown_X12_everyKind rfl hdX12_everyKind (by decide) (Nat.le_of_ble_eq_true rfl) dX12_shown_1 rfl (fun r M' hp => ?_)
  obtain ⟨rfl, rfl⟩ := hp
  refine j_aload_n C 0 0 dX12_shown_4 rfl rfl ?_
  refine j_getP C 11 99 fX12_shown_13 (by decide) rfl (by decide) rfl (show B.2.2 98 1 = 99 from hB.2.2 98 1 (by decide)) dX12_shown_5 ?_
  refine j_bipush C 28 dX12_shown_8 (by decide) ?_
  refine x_iald C 28 3543 0 (by decide) rfl rfl rfl (by decide) (by decide) (show B.1 99 28 = 0 from hB.1 99 28 (by decide)) dX12_shown_10 ?_
  refine j_iconst C (-1) dX12_shown_11 (by decide) ?_
  refine z_ixor C (-1) (by decide) dX12_shown_12 ?_
  refine z_iand C 0 (by decide) dX12_shown_13 ?_
  exact hret _ _ _ _ dX12_shown_14 ⟨rfl, rfl⟩
set_option maxHeartbeats 4000000 in
set_option maxRecDepth 100000 in
theorem k158_X12_isShutBy {l : Launch} {dC : Nat → ClassId} {dI : Nat → Nat → Nat} {ad : Nat → Nat} {cA : Nat → ClassId} {B : mm_M} (hB : MB B) : Ci l 2 yX12_isShutBy wsX12_isShutBy dC dI ad cA [.ref (ad 98), .int 0] (wJ B 110 0 0) (fun r M' => 1 = r ∧ (wJ B 110 0 0) = M') := by
  refine ci_of (cc := cX12_isShutBy) (maxL := 2) (ty := .boolean) (lv := [(0, .ref (ad 98)), (1, .int 0)]) (by decide) rfl (fun r M' hp => by obtain ⟨rfl, rfl⟩ := hp; rfl) (Nat.le_of_ble_eq_true rfl) rfl ?_
  intro p e s m args below meth c A Q C hret
  refine j_aload_n C 0 0 dX12_isShutBy_0 rfl rfl ?_
  refine j_callVi C (d := 1) (As := []) (st := []) 98 (by decide) rfl (by decide) rfl (k157_X12_shown hB) gX12_isShutBy_X12_shown rfl hdX12_shown (by decide) (Nat.le_of_ble_eq_true rfl) dX12_isShutBy_1 rfl (fun r M' hp => ?_)
  obtain ⟨rfl, rfl⟩ := hp
  refine j_iload_n C 1 1 dX12_isShutBy_4 rfl rfl ?_
  refine j_iconst C (-1) dX12_isShutBy_5 (by decide) ?_
  refine z_ixor C (-1) (by decide) dX12_isShutBy_6 ?_
  refine z_iand C 0 (by decide) dX12_isShutBy_7 ?_
  refine j_if_ne_f C 15 dX12_isShutBy_8 (by decide) (by decide) ?_
  refine j_iconst C 1 dX12_isShutBy_11 (by decide) ?_
  refine j_goto C 16 dX12_isShutBy_12 (by decide) ?_
  exact hret _ _ _ _ dX12_isShutBy_16 ⟨rfl, rfl⟩
set_option maxHeartbeats 4000000 in
set_option maxRecDepth 100000 in
theorem k159_X12_isShutBy {l : Launch} {dC : Nat → ClassId} {dI : Nat → Nat → Nat} {ad : Nat → Nat} {cA : Nat → ClassId} {B : mm_M} (hB : MB B) (p0 : Nat) (hbp0 : 1 ≤ p0 ∧ p0 ≤ 255) : Ci l 2 yX12_isShutBy wsX12_isShutBy dC dI ad cA [.ref (ad 98), .int (nI p0)] (wJ B 110 0 0) (fun r M' => 1 = r ∧ (wJ B 110 0 0) = M') := by
  refine ci_of (cc := cX12_isShutBy) (maxL := 2) (ty := .boolean) (lv := [(0, .ref (ad 98)), (1, .int (nI p0))]) (by decide) rfl (fun r M' hp => by obtain ⟨rfl, rfl⟩ := hp; rfl) (Nat.le_of_ble_eq_true rfl) rfl ?_
  intro p e s m args below meth c A Q C hret
  refine j_aload_n C 0 0 dX12_isShutBy_0 rfl rfl ?_
  refine j_callVi C (d := 1) (As := []) (st := []) 98 (by decide) rfl (by decide) rfl (k157_X12_shown hB) gX12_isShutBy_X12_shown rfl hdX12_shown (by decide) (Nat.le_of_ble_eq_true rfl) dX12_isShutBy_1 rfl (fun r M' hp => ?_)
  obtain ⟨rfl, rfl⟩ := hp
  refine j_iload_n C 1 1 dX12_isShutBy_4 rfl rfl ?_
  refine j_iconst C (-1) dX12_isShutBy_5 (by decide) ?_
  refine z_ixor C ((nI p0) ^^^ ((-1) : Int32)) rfl dX12_isShutBy_6 ?_
  refine z_iand C 0 (by simp) dX12_isShutBy_7 ?_
  refine j_if_ne_f C 15 dX12_isShutBy_8 (by decide) (by decide) ?_
  refine j_iconst C 1 dX12_isShutBy_11 (by decide) ?_
  refine j_goto C 16 dX12_isShutBy_12 (by decide) ?_
  exact hret _ _ _ _ dX12_isShutBy_16 ⟨rfl, rfl⟩
set_option maxHeartbeats 4000000 in
set_option maxRecDepth 100000 in
theorem k160_X12_shutRows {l : Launch} {dC : Nat → ClassId} {dI : Nat → Nat → Nat} {ad : Nat → Nat} {cA : Nat → ClassId} {B : mm_M} (hB : MB B) : Cj l 3 yX12_shutRows wsX12_shutRows dC dI ad cA [.ref (ad 98)] (wJ B 110 0 0) (fun r M' => 0 = r ∧ (wJ B 110 0 0) = M') := by
  refine cj_of (cc := cX12_shutRows) (maxL := 4) (lv := [(0, .ref (ad 98))]) (by decide) rfl (Nat.le_of_ble_eq_true rfl) rfl ?_
  intro p e s m args below meth c A Q C hret
  refine j_lconst C 0 dX12_shutRows_0 (by decide) ?_
  refine j_lstore_n C 1 [(1, .long 0), (0, .ref (ad 98))] dX12_shutRows_1 rfl (by decide) rfl ?_
  refine j_iconst C 0 dX12_shutRows_2 (by decide) ?_
  refine j_istore_n C 3 [(3, .int 0), (1, .long 0), (0, .ref (ad 98))] dX12_shutRows_3 rfl (by decide) rfl ?_
  refine j_iload_n C 0 3 dX12_shutRows_4 rfl rfl ?_
  refine j_sipush C 256 dX12_shutRows_5 (by decide) ?_
  refine j_icmp_ge_f C 38 dX12_shutRows_8 (by decide) (by decide) ?_
  refine j_lload_n C 1 1 dX12_shutRows_11 rfl rfl ?_
  refine j_aload_n C 2 0 dX12_shutRows_12 rfl rfl ?_
  refine j_iload_n C 0 3 dX12_shutRows_13 rfl rfl ?_
  refine j_callVi C (d := 2) (As := [.int 0]) (st := [.long 0]) 98 (by decide) rfl (by decide) rfl (k158_X12_isShutBy hB) gX12_shutRows_X12_isShutBy rfl hdX12_isShutBy (by decide) (Nat.le_of_ble_eq_true rfl) dX12_shutRows_14 rfl (fun r M' hp => ?_)
  obtain ⟨rfl, rfl⟩ := hp
  refine j_if_eq_f C 29 dX12_shutRows_17 (by decide) (by decide) ?_
  refine j_aload_n C 2 0 dX12_shutRows_20 rfl rfl ?_
  refine j_getP C 11 110 fX12_shutRows_51 (by decide) rfl (by decide) rfl (show B.2.2 98 23 = 110 from hB.2.2 98 23 (by decide)) dX12_shutRows_21 ?_
  refine j_iload_n C 0 3 dX12_shutRows_24 rfl rfl ?_
  refine x_lald C 0 256 0 (by decide) rfl rfl rfl (by decide) (by decide) rfl dX12_shutRows_25 ?_
  refine j_goto C 30 dX12_shutRows_26 (by decide) ?_
  refine z_ladd C 0 (by decide) dX12_shutRows_30 ?_
  refine j_lstore_n C 1 [(1, .long 0), (3, .int 0), (0, .ref (ad 98))] dX12_shutRows_31 rfl (by decide) rfl ?_
  refine j_iinc C 1 1 [(3, .int 1), (1, .long 0), (0, .ref (ad 98))] dX12_shutRows_32 rfl (by decide) (by decide) rfl ?_
  refine j_goto C 4 dX12_shutRows_35 (by decide) ?_
  refine j_lv [2, 1, 0] rfl ?_
  have L : ∀ (n i : Nat), 1 ≤ i → i + n = 256 → jj p l e (cn_R 3) s m args below meth c 0 0 Q 4 dC dI ad cA A (wJ B 110 0 0) 4 [(0, .ref (ad 98)), (1, .long 0), (3, .int (nI i))] [] := by
    intro n
    induction n with
    | zero =>
      intro i h1 h2
      obtain rfl : i = 256 := by omega
      refine j_iload_n C 2 3 dX12_shutRows_4 rfl rfl ?_
      refine j_sipush C 256 dX12_shutRows_5 (by decide) ?_
      refine j_icmp_ge_t C 38 dX12_shutRows_8 (by decide) (by decide) ?_
      refine j_lload_n C 1 1 dX12_shutRows_38 rfl rfl ?_
      exact hret _ _ _ _ dX12_shutRows_39 ⟨rfl, rfl⟩
    | succ n ih =>
      intro i h1 h2
      refine j_iload_n C 2 3 dX12_shutRows_4 rfl rfl ?_
      refine j_sipush C 256 dX12_shutRows_5 (by decide) ?_
      refine z_icmp_ge C 38 (i : Int) 256 (nI_toInt (n := i) (by omega)) (by decide) dX12_shutRows_8 (by decide) (fun h1 => ?_) (fun h1 => ?_)
      · exfalso; omega
      · refine j_lload_n C 1 1 dX12_shutRows_11 rfl rfl ?_
        refine j_aload_n C 0 0 dX12_shutRows_12 rfl rfl ?_
        refine j_iload_n C 2 3 dX12_shutRows_13 rfl rfl ?_
        refine j_callVi C (d := 2) (As := [.int (nI i)]) (st := [.long 0]) 98 (by decide) rfl (by decide) rfl (k159_X12_isShutBy hB i (by omega)) gX12_shutRows_X12_isShutBy rfl hdX12_isShutBy (by decide) (Nat.le_of_ble_eq_true rfl) dX12_shutRows_14 rfl (fun r M' hp => ?_)
        obtain ⟨rfl, rfl⟩ := hp
        refine j_if_eq_f C 29 dX12_shutRows_17 (by decide) (by decide) ?_
        refine j_aload_n C 0 0 dX12_shutRows_20 rfl rfl ?_
        refine j_getP C 11 110 fX12_shutRows_51 (by decide) rfl (by decide) rfl (show B.2.2 98 23 = 110 from hB.2.2 98 23 (by decide)) dX12_shutRows_21 ?_
        refine j_iload_n C 2 3 dX12_shutRows_24 rfl rfl ?_
        refine x_lald C i 256 0 (by decide) rfl rfl rfl (by omega) (by decide) ((u2_b (i := 110) (k := 0) (a := 110) (b := i) _ (0 : Int64) (by omega)).trans (show B.2.1 110 i = 0 from hB.2.1 110 i (by decide))) dX12_shutRows_25 ?_
        refine j_goto C 30 dX12_shutRows_26 (by decide) ?_
        refine z_ladd C 0 (by decide) dX12_shutRows_30 ?_
        refine j_lstore_n C 1 [(1, .long 0), (0, .ref (ad 98)), (3, .int (nI i))] dX12_shutRows_31 rfl (by decide) rfl ?_
        refine j_iinc C 2 (nI (i + 1)) [(3, .int (nI (i + 1))), (1, .long 0), (0, .ref (ad 98))] dX12_shutRows_32 rfl (nI_1 i) (by decide) rfl ?_
        refine j_goto C 4 dX12_shutRows_35 (by decide) ?_
        refine j_lv [2, 1, 0] rfl ?_
        exact ih (i + 1) (by omega) (by omega)
  exact L (256 - 1) 1 (by omega) (by omega)
set_option maxHeartbeats 4000000 in
set_option maxRecDepth 100000 in
theorem k161_X12_goesRows {l : Launch} {dC : Nat → ClassId} {dI : Nat → Nat → Nat} {ad : Nat → Nat} {cA : Nat → ClassId} {B : mm_M} (hB : MB B) : Cv l 1 yX12_goesRows wsX12_goesRows dC dI ad cA [.ref (ad 98), .int (-1), .int (-1)] (wJ B 110 0 0) (fun M' => (wJ B 110 0 0) = M') := by
  refine cv_of (cc := cX12_goesRows) (maxL := 6) (lv := [(0, .ref (ad 98)), (1, .int (-1)), (2, .int (-1))]) (by decide) rfl (Nat.le_of_ble_eq_true rfl) rfl ?_
  intro p e s m args below meth c A Q C hret
  refine j_iconst C 0 dX12_goesRows_0 (by decide) ?_
  refine j_istore_n C 3 [(3, .int 0), (0, .ref (ad 98)), (1, .int (-1)), (2, .int (-1))] dX12_goesRows_1 rfl (by decide) rfl ?_
  refine j_lv [1, 2, 3, 0] rfl ?_
  have L : ∀ (n i : Nat), 0 ≤ i → i + n = 256 → jj p l e (cn_R 1) s m args below meth c 0 0 Q 6 dC dI ad cA A (wJ B 110 0 0) 2 [(0, .ref (ad 98)), (1, .int (-1)), (2, .int (-1)), (3, .int (nI i))] [] := by
    intro n
    induction n with
    | zero =>
      intro i h1 h2
      obtain rfl : i = 256 := by omega
      refine j_iload_n C 3 3 dX12_goesRows_2 rfl rfl ?_
      refine j_sipush C 256 dX12_goesRows_3 (by decide) ?_
      refine j_icmp_ge_t C 22 dX12_goesRows_6 (by decide) (by decide) ?_
      refine j_iconst C 0 dX12_goesRows_22 (by decide) ?_
      refine j_istore_n C 3 [(3, .int 0), (0, .ref (ad 98)), (1, .int (-1)), (2, .int (-1))] dX12_goesRows_23 rfl (by decide) rfl ?_
      refine j_iload_n C 0 3 dX12_goesRows_24 rfl rfl ?_
      refine j_aload_n C 1 0 dX12_goesRows_25 rfl rfl ?_
      refine j_callVi C (d := 0) (As := []) (st := [.int 0]) 98 (by decide) rfl (by decide) rfl (k156_X12_everyKind hB) gX12_goesRows_X12_everyKind rfl hdX12_everyKind (by decide) (Nat.le_of_ble_eq_true rfl) dX12_goesRows_26 rfl (fun r M' hp => ?_)
      obtain ⟨rfl, rfl⟩ := hp
      refine j_icmp_gt_f C 126 dX12_goesRows_29 (by decide) (by decide) ?_
      refine j_iconst C 0 dX12_goesRows_32 (by decide) ?_
      refine j_istore C 4 [(4, .int 0), (3, .int 0), (0, .ref (ad 98)), (1, .int (-1)), (2, .int (-1))] dX12_goesRows_33 (by decide) rfl ?_
      refine j_iload C 0 dX12_goesRows_35 rfl ?_
      refine j_aload_n C 2 0 dX12_goesRows_37 rfl rfl ?_
      refine j_getP C 11 99 fX12_goesRows_13 (by decide) rfl (by decide) rfl (show B.2.2 98 1 = 99 from hB.2.2 98 1 (by decide)) dX12_goesRows_38 ?_
      refine j_iconst C 1 dX12_goesRows_41 (by decide) ?_
      refine x_iald C 1 3543 0 (by decide) rfl rfl rfl (by decide) (by decide) (show B.1 99 1 = 0 from hB.1 99 1 (by decide)) dX12_goesRows_42 ?_
      refine j_icmp_ge_t C 120 dX12_goesRows_43 (by decide) (by decide) ?_
      refine j_iinc C 1 1 [(3, .int 1), (4, .int 0), (0, .ref (ad 98)), (1, .int (-1)), (2, .int (-1))] dX12_goesRows_120 rfl (by decide) (by decide) rfl ?_
      refine j_goto C 24 dX12_goesRows_123 (by decide) ?_
      refine j_iload_n C 0 3 dX12_goesRows_24 rfl rfl ?_
      refine j_aload_n C 2 0 dX12_goesRows_25 rfl rfl ?_
      refine j_callVi C (d := 0) (As := []) (st := [.int 1]) 98 (by decide) rfl (by decide) rfl (k156_X12_everyKind hB) gX12_goesRows_X12_everyKind rfl hdX12_everyKind (by decide) (Nat.le_of_ble_eq_true rfl) dX12_goesRows_26 rfl (fun r M' hp => ?_)
      obtain ⟨rfl, rfl⟩ := hp
      refine j_icmp_gt_t C 126 dX12_goesRows_29 (by decide) (by decide) ?_
      refine j_iconst C 0 dX12_goesRows_126 (by decide) ?_
      refine j_istore_n C 3 [(3, .int 0), (4, .int 0), (0, .ref (ad 98)), (1, .int (-1)), (2, .int (-1))] dX12_goesRows_127 rfl (by decide) rfl ?_
      refine j_iload_n C 0 3 dX12_goesRows_128 rfl rfl ?_
      refine j_sipush C 256 dX12_goesRows_129 (by decide) ?_
      refine j_icmp_ge_f C 153 dX12_goesRows_132 (by decide) (by decide) ?_
      refine j_aload_n C 2 0 dX12_goesRows_135 rfl rfl ?_
      refine j_getP C 11 110 fX12_goesRows_51 (by decide) rfl (by decide) rfl (show B.2.2 98 23 = 110 from hB.2.2 98 23 (by decide)) dX12_goesRows_136 ?_
      refine j_iload_n C 0 3 dX12_goesRows_139 rfl rfl ?_
      refine j_aload_n C 2 0 dX12_goesRows_140 rfl rfl ?_
      refine j_getP C 11 111 fX12_goesRows_55 (by decide) rfl (by decide) rfl (show B.2.2 98 24 = 111 from hB.2.2 98 24 (by decide)) dX12_goesRows_141 ?_
      refine j_iload_n C 0 3 dX12_goesRows_144 rfl rfl ?_
      refine x_lald C 0 256 0 (by decide) rfl rfl rfl (by decide) (by decide) (show B.2.1 111 0 = 0 from hB.2.1 111 0 (by decide)) dX12_goesRows_145 ?_
      refine x_last C 0 256 (by decide) rfl rfl rfl (by decide) (by decide) dX12_goesRows_146 ?_
      refine z_noJ rfl ?_
      refine j_iinc C 0 1 [(3, .int 1), (4, .int 0), (0, .ref (ad 98)), (1, .int (-1)), (2, .int (-1))] dX12_goesRows_147 rfl (by decide) (by decide) rfl ?_
      refine j_goto C 128 dX12_goesRows_150 (by decide) ?_
      refine j_lv [2, 3, 4, 0, 1] rfl ?_
      have L : ∀ (n i : Nat), 1 ≤ i → i + n = 256 → jj p l e (cn_R 1) s m args below meth c 0 0 Q 6 dC dI ad cA A (wJ B 110 0 0) 128 [(0, .ref (ad 98)), (1, .int (-1)), (2, .int (-1)), (3, .int (nI i)), (4, .int 0)] [] := by
        intro n
        induction n with
        | zero =>
          intro i h1 h2
          obtain rfl : i = 256 := by omega
          refine j_iload_n C 3 3 dX12_goesRows_128 rfl rfl ?_
          refine j_sipush C 256 dX12_goesRows_129 (by decide) ?_
          refine j_icmp_ge_t C 153 dX12_goesRows_132 (by decide) (by decide) ?_
          exact hret _ _ _ dX12_goesRows_153 rfl
        | succ n ih =>
          intro i h1 h2
          refine j_iload_n C 3 3 dX12_goesRows_128 rfl rfl ?_
          refine j_sipush C 256 dX12_goesRows_129 (by decide) ?_
          refine z_icmp_ge C 153 (i : Int) 256 (nI_toInt (n := i) (by omega)) (by decide) dX12_goesRows_132 (by decide) (fun h1 => ?_) (fun h1 => ?_)
          · exfalso; omega
          · refine j_aload_n C 0 0 dX12_goesRows_135 rfl rfl ?_
            refine j_getP C 11 110 fX12_goesRows_51 (by decide) rfl (by decide) rfl (show B.2.2 98 23 = 110 from hB.2.2 98 23 (by decide)) dX12_goesRows_136 ?_
            refine j_iload_n C 3 3 dX12_goesRows_139 rfl rfl ?_
            refine j_aload_n C 0 0 dX12_goesRows_140 rfl rfl ?_
            refine j_getP C 11 111 fX12_goesRows_55 (by decide) rfl (by decide) rfl (show B.2.2 98 24 = 111 from hB.2.2 98 24 (by decide)) dX12_goesRows_141 ?_
            refine j_iload_n C 3 3 dX12_goesRows_144 rfl rfl ?_
            refine x_lald C i 256 0 (by decide) rfl rfl rfl (by omega) (by decide) (show B.2.1 111 i = 0 from hB.2.1 111 i (by decide)) dX12_goesRows_145 ?_
            refine x_last C i 256 (by decide) rfl rfl rfl (by omega) (by decide) dX12_goesRows_146 ?_
            refine z_noJ ((u2_b (i := 110) (k := 0) (a := 110) (b := i) _ (0 : Int64) (by omega)).trans (show B.2.1 110 i = 0 from hB.2.1 110 i (by decide))) ?_
            refine j_iinc C 3 (nI (i + 1)) [(3, .int (nI (i + 1))), (0, .ref (ad 98)), (1, .int (-1)), (2, .int (-1)), (4, .int 0)] dX12_goesRows_147 rfl (nI_1 i) (by decide) rfl ?_
            refine j_goto C 128 dX12_goesRows_150 (by decide) ?_
            refine j_lv [1, 2, 3, 0, 4] rfl ?_
            exact ih (i + 1) (by omega) (by omega)
      exact L (256 - 1) 1 (by omega) (by omega)
    | succ n ih =>
      intro i h1 h2
      refine j_iload_n C 3 3 dX12_goesRows_2 rfl rfl ?_
      refine j_sipush C 256 dX12_goesRows_3 (by decide) ?_
      refine z_icmp_ge C 22 (i : Int) 256 (nI_toInt (n := i) (by omega)) (by decide) dX12_goesRows_6 (by decide) (fun h2 => ?_) (fun h2 => ?_)
      · exfalso; omega
      · refine j_aload_n C 0 0 dX12_goesRows_9 rfl rfl ?_
        refine j_getP C 11 111 fX12_goesRows_55 (by decide) rfl (by decide) rfl (show B.2.2 98 24 = 111 from hB.2.2 98 24 (by decide)) dX12_goesRows_10 ?_
        refine j_iload_n C 3 3 dX12_goesRows_13 rfl rfl ?_
        refine j_lconst C 0 dX12_goesRows_14 (by decide) ?_
        refine x_last C i 256 (by decide) rfl rfl rfl (by omega) (by decide) dX12_goesRows_15 ?_
        refine z_noJ (show B.2.1 111 i = 0 from hB.2.1 111 i (by decide)) ?_
        refine j_iinc C 3 (nI (i + 1)) [(3, .int (nI (i + 1))), (0, .ref (ad 98)), (1, .int (-1)), (2, .int (-1))] dX12_goesRows_16 rfl (nI_1 i) (by decide) rfl ?_
        refine j_goto C 2 dX12_goesRows_19 (by decide) ?_
        refine j_lv [1, 2, 3, 0] rfl ?_
        exact ih (i + 1) (by omega) (by omega)
  exact L (256 - 0) 0 (by omega) (by omega)
set_option maxHeartbeats 4000000 in
set_option maxRecDepth 100000 in
theorem om_endings {l : Launch} {dC : Nat → ClassId} {dI : Nat → Nat → Nat} {ad : Nat → Nat} {cA : Nat → ClassId} {B : mm_M} (hB : MB B) (p0 : Int32) : Cj l 4 yX12_endings wsX12_endings dC dI ad cA [.ref (ad 98), .int p0] B (fun r _ => r = fo_endings p0) := by
  refine cj_of (cc := cX12_endings) (maxL := 3) (lv := [(0, .ref (ad 98)), (1, .int p0)]) (by decide) rfl (Nat.le_of_ble_eq_true rfl) rfl ?_
  intro p e s m args below meth c A Q C hret
  refine j_aload_n C 0 0 dX12_endings_0 rfl rfl ?_
  refine j_iconst C 0 dX12_endings_1 (by decide) ?_
  refine j_putI C 11 qX12_endings_1 rfl rfl (by decide) rfl (by decide) rfl dX12_endings_2 ?_
  refine z_noI (show B.1 98 0 = 0 from hB.1 98 0 (by decide)) ?_
  refine j_iload_n C 1 1 dX12_endings_5 rfl rfl ?_
  refine z_i2l C p0.toInt64 rfl dX12_endings_6 ?_
  refine j_lconst C 0 dX12_endings_7 (by decide) ?_
  refine j_ldc2 C 15 dX12_endings_8 (by decide +kernel) ?_
  refine j_callSi C (d := 0) (As := [.long p0.toInt64, .long 0, .long 15]) (st := []) (k148_X12_within hB p0) gX12_endings_X12_within rfl hdX12_withins (by decide) (Nat.le_of_ble_eq_true rfl) dX12_endings_11 rfl (fun r M' hp => ?_)
  rcases hp with ⟨h1, rfl, rfl⟩ | ⟨⟨h2, h3⟩, rfl, rfl⟩ | ⟨⟨h4, h5⟩, rfl, rfl⟩
  · refine j_if_ne_f C 21 dX12_endings_14 (by decide) (by decide) ?_
    refine j_ldc2 C (-3) dX12_endings_17 (by decide +kernel) ?_
    exact hret _ _ _ _ dX12_endings_20 (by first | rfl | (unfold fo_endings; rw [if_pos (by rw [nI_toInt (by omega)]; omega), nI_clamp (by omega)]; exact hrel) | (unfold fo_endings; (repeat' split) <;> first | rfl | (exfalso; omega) | (exfalso; simp_all; done)))
  · refine j_if_ne_f C 21 dX12_endings_14 (by decide) (by decide) ?_
    refine j_ldc2 C (-3) dX12_endings_17 (by decide +kernel) ?_
    exact hret _ _ _ _ dX12_endings_20 (by first | rfl | (unfold fo_endings; rw [if_pos (by rw [nI_toInt (by omega)]; omega), nI_clamp (by omega)]; exact hrel) | (unfold fo_endings; (repeat' split) <;> first | rfl | (exfalso; omega) | (exfalso; simp_all; done)))
  · refine j_if_ne_t C 21 dX12_endings_14 (by decide) (by decide) ?_
    refine j_aload_n C 0 0 dX12_endings_21 rfl rfl ?_
    refine j_callVv C (d := 1) (As := []) (st := []) 98 (by decide) rfl (by decide) rfl (k115_X12_laysBuys hB) gX12_endings_X12_laysBuys rfl hdX12_laysBuys (by decide) (Nat.le_of_ble_eq_true rfl) dX12_endings_22 rfl (fun M' hp => ?_)
    obtain rfl := hp
    refine j_aload_n C 0 0 dX12_endings_25 rfl rfl ?_
    refine j_callVv C (d := 0) (As := []) (st := []) 98 (by decide) rfl (by decide) rfl (k149_X12_beginsRows hB) gX12_endings_X12_beginsRows rfl hdX12_beginsRows (by decide) (Nat.le_of_ble_eq_true rfl) dX12_endings_26 rfl (fun M' hp => ?_)
    obtain rfl := hp
    refine j_iconst C 0 dX12_endings_29 (by decide) ?_
    refine j_istore_n C 2 [(2, .int 0), (0, .ref (ad 98)), (1, .int p0)] dX12_endings_30 rfl (by decide) rfl ?_
    refine j_iload_n C 0 2 dX12_endings_31 rfl rfl ?_
    refine j_iload_n C 2 1 dX12_endings_32 rfl rfl ?_
    refine z_icmp_ge C 48 0 p0.toInt (by decide) rfl dX12_endings_33 (by decide) (fun h6 => ?_) (fun h6 => ?_)
    · obtain rfl : p0 = 0 := Int32.toInt_inj.mp (show p0.toInt = (0 : Int32).toInt by rw [show (0 : Int32).toInt = 0 from rfl]; omega)
      show jj _ _ _ _ _ _ _ _ _ _ _ _ _ _ _ _ _ _ _ (wJ B 110 0 1) 48 [(2, .int 0), (0, .ref (ad 98)), (1, .int 0)] []
      refine j_aload_n C 1 0 dX12_endings_48 rfl rfl ?_
      refine j_callVj C (d := 3) (As := []) (st := []) 98 (by decide) rfl (by decide) rfl (k154_X12_shutRows hB) gX12_endings_X12_shutRows rfl hdX12_shutRows (by decide) (Nat.le_of_ble_eq_true rfl) dX12_endings_49 rfl (fun r M' hp => ?_)
      obtain ⟨rfl, rfl⟩ := hp
      exact hret _ _ _ _ dX12_endings_52 (by first | rfl | (unfold fo_endings; rw [if_pos (by rw [nI_toInt (by omega)]; omega), nI_clamp (by omega)]; exact hrel) | (unfold fo_endings; (repeat' split) <;> first | rfl | (exfalso; omega) | (exfalso; simp_all; done)))
    · refine j_aload_n C 1 0 dX12_endings_36 rfl rfl ?_
      refine j_iconst C (-1) dX12_endings_37 (by decide) ?_
      refine j_iconst C (-1) dX12_endings_38 (by decide) ?_
      refine j_callVv C (d := 1) (As := [.int (-1), .int (-1)]) (st := []) 98 (by decide) rfl (by decide) rfl (k155_X12_goesRows hB) gX12_endings_X12_goesRows rfl hdX12_goesRows (by decide) (Nat.le_of_ble_eq_true rfl) dX12_endings_39 rfl (fun M' hp => ?_)
      obtain rfl := hp
      refine j_iinc C 0 1 [(2, .int 1), (0, .ref (ad 98)), (1, .int p0)] dX12_endings_42 rfl (by decide) (by decide) rfl ?_
      refine j_goto C 31 dX12_endings_45 (by decide) ?_
      refine j_iload_n C 0 2 dX12_endings_31 rfl rfl ?_
      refine j_iload_n C 2 1 dX12_endings_32 rfl rfl ?_
      refine z_icmp_ge C 48 1 p0.toInt (by decide) rfl dX12_endings_33 (by decide) (fun h7 => ?_) (fun h7 => ?_)
      · obtain rfl : p0 = 1 := Int32.toInt_inj.mp (show p0.toInt = (1 : Int32).toInt by rw [show (1 : Int32).toInt = 1 from rfl]; omega)
        show jj _ _ _ _ _ _ _ _ _ _ _ _ _ _ _ _ _ _ _ (wJ B 110 0 0) 48 [(2, .int 1), (0, .ref (ad 98)), (1, .int 1)] []
        refine j_aload_n C 1 0 dX12_endings_48 rfl rfl ?_
        refine j_callVj C (d := 3) (As := []) (st := []) 98 (by decide) rfl (by decide) rfl (k160_X12_shutRows hB) gX12_endings_X12_shutRows rfl hdX12_shutRows (by decide) (Nat.le_of_ble_eq_true rfl) dX12_endings_49 rfl (fun r M' hp => ?_)
        obtain ⟨rfl, rfl⟩ := hp
        exact hret _ _ _ _ dX12_endings_52 (by first | rfl | (unfold fo_endings; rw [if_pos (by rw [nI_toInt (by omega)]; omega), nI_clamp (by omega)]; exact hrel) | (unfold fo_endings; (repeat' split) <;> first | rfl | (exfalso; omega) | (exfalso; simp_all; done)))
      · refine j_aload_n C 1 0 dX12_endings_36 rfl rfl ?_
        refine j_iconst C (-1) dX12_endings_37 (by decide) ?_
        refine j_iconst C (-1) dX12_endings_38 (by decide) ?_
        refine j_callVv C (d := 1) (As := [.int (-1), .int (-1)]) (st := []) 98 (by decide) rfl (by decide) rfl (k161_X12_goesRows hB) gX12_endings_X12_goesRows rfl hdX12_goesRows (by decide) (Nat.le_of_ble_eq_true rfl) dX12_endings_39 rfl (fun M' hp => ?_)
        obtain rfl := hp
        refine j_iinc C 0 2 [(2, .int 2), (0, .ref (ad 98)), (1, .int p0)] dX12_endings_42 rfl (by decide) (by decide) rfl ?_
        refine j_goto C 31 dX12_endings_45 (by decide) ?_
        refine j_iload_n C 0 2 dX12_endings_31 rfl rfl ?_
        refine j_iload_n C 2 1 dX12_endings_32 rfl rfl ?_
        refine z_icmp_ge C 48 2 p0.toInt (by decide) rfl dX12_endings_33 (by decide) (fun h8 => ?_) (fun h8 => ?_)
        · obtain rfl : p0 = 2 := Int32.toInt_inj.mp (show p0.toInt = (2 : Int32).toInt by rw [show (2 : Int32).toInt = 2 from rfl]; omega)
          show jj _ _ _ _ _ _ _ _ _ _ _ _ _ _ _ _ _ _ _ (wJ B 110 0 0) 48 [(2, .int 2), (0, .ref (ad 98)), (1, .int 2)] []
          refine j_aload_n C 1 0 dX12_endings_48 rfl rfl ?_
          refine j_callVj C (d := 3) (As := []) (st := []) 98 (by decide) rfl (by decide) rfl (k160_X12_shutRows hB) gX12_endings_X12_shutRows rfl hdX12_shutRows (by decide) (Nat.le_of_ble_eq_true rfl) dX12_endings_49 rfl (fun r M' hp => ?_)
          obtain ⟨rfl, rfl⟩ := hp
          exact hret _ _ _ _ dX12_endings_52 (by first | rfl | (unfold fo_endings; rw [if_pos (by rw [nI_toInt (by omega)]; omega), nI_clamp (by omega)]; exact hrel) | (unfold fo_endings; (repeat' split) <;> first | rfl | (exfalso; omega) | (exfalso; simp_all; done)))
        · refine j_aload_n C 1 0 dX12_endings_36 rfl rfl ?_
          refine j_iconst C (-1) dX12_endings_37 (by decide) ?_
          refine j_iconst C (-1) dX12_endings_38 (by decide) ?_
          refine j_callVv C (d := 1) (As := [.int (-1), .int (-1)]) (st := []) 98 (by decide) rfl (by decide) rfl (k161_X12_goesRows hB) gX12_endings_X12_goesRows rfl hdX12_goesRows (by decide) (Nat.le_of_ble_eq_true rfl) dX12_endings_39 rfl (fun M' hp => ?_)
          obtain rfl := hp
          refine j_iinc C 0 3 [(2, .int 3), (0, .ref (ad 98)), (1, .int p0)] dX12_endings_42 rfl (by decide) (by decide) rfl ?_
          refine j_goto C 31 dX12_endings_45 (by decide) ?_
          refine j_iload_n C 0 2 dX12_endings_31 rfl rfl ?_
          refine j_iload_n C 2 1 dX12_endings_32 rfl rfl ?_
          refine z_icmp_ge C 48 3 p0.toInt (by decide) rfl dX12_endings_33 (by decide) (fun h9 => ?_) (fun h9 => ?_)
          · obtain rfl : p0 = 3 := Int32.toInt_inj.mp (show p0.toInt = (3 : Int32).toInt by rw [show (3 : Int32).toInt = 3 from rfl]; omega)
            show jj _ _ _ _ _ _ _ _ _ _ _ _ _ _ _ _ _ _ _ (wJ B 110 0 0) 48 [(2, .int 3), (0, .ref (ad 98)), (1, .int 3)] []
            refine j_aload_n C 1 0 dX12_endings_48 rfl rfl ?_
            refine j_callVj C (d := 3) (As := []) (st := []) 98 (by decide) rfl (by decide) rfl (k160_X12_shutRows hB) gX12_endings_X12_shutRows rfl hdX12_shutRows (by decide) (Nat.le_of_ble_eq_true rfl) dX12_endings_49 rfl (fun r M' hp => ?_)
            obtain ⟨rfl, rfl⟩ := hp
            exact hret _ _ _ _ dX12_endings_52 (by first | rfl | (unfold fo_endings; rw [if_pos (by rw [nI_toInt (by omega)]; omega), nI_clamp (by omega)]; exact hrel) | (unfold fo_endings; (repeat' split) <;> first | rfl | (exfalso; omega) | (exfalso; simp_all; done)))
          · refine j_aload_n C 1 0 dX12_endings_36 rfl rfl ?_
            refine j_iconst C (-1) dX12_endings_37 (by decide) ?_
            refine j_iconst C (-1) dX12_endings_38 (by decide) ?_
            refine j_callVv C (d := 1) (As := [.int (-1), .int (-1)]) (st := []) 98 (by decide) rfl (by decide) rfl (k161_X12_goesRows hB) gX12_endings_X12_goesRows rfl hdX12_goesRows (by decide) (Nat.le_of_ble_eq_true rfl) dX12_endings_39 rfl (fun M' hp => ?_)
            obtain rfl := hp
            refine j_iinc C 0 4 [(2, .int 4), (0, .ref (ad 98)), (1, .int p0)] dX12_endings_42 rfl (by decide) (by decide) rfl ?_
            refine j_goto C 31 dX12_endings_45 (by decide) ?_
            refine j_iload_n C 0 2 dX12_endings_31 rfl rfl ?_
            refine j_iload_n C 2 1 dX12_endings_32 rfl rfl ?_
            refine z_icmp_ge C 48 4 p0.toInt (by decide) rfl dX12_endings_33 (by decide) (fun h10 => ?_) (fun h10 => ?_)
            · obtain rfl : p0 = 4 := Int32.toInt_inj.mp (show p0.toInt = (4 : Int32).toInt by rw [show (4 : Int32).toInt = 4 from rfl]; omega)
              show jj _ _ _ _ _ _ _ _ _ _ _ _ _ _ _ _ _ _ _ (wJ B 110 0 0) 48 [(2, .int 4), (0, .ref (ad 98)), (1, .int 4)] []
              refine j_aload_n C 1 0 dX12_endings_48 rfl rfl ?_
              refine j_callVj C (d := 3) (As := []) (st := []) 98 (by decide) rfl (by decide) rfl (k160_X12_shutRows hB) gX12_endings_X12_shutRows rfl hdX12_shutRows (by decide) (Nat.le_of_ble_eq_true rfl) dX12_endings_49 rfl (fun r M' hp => ?_)
              obtain ⟨rfl, rfl⟩ := hp
              exact hret _ _ _ _ dX12_endings_52 (by first | rfl | (unfold fo_endings; rw [if_pos (by rw [nI_toInt (by omega)]; omega), nI_clamp (by omega)]; exact hrel) | (unfold fo_endings; (repeat' split) <;> first | rfl | (exfalso; omega) | (exfalso; simp_all; done)))
            · refine j_aload_n C 1 0 dX12_endings_36 rfl rfl ?_
              refine j_iconst C (-1) dX12_endings_37 (by decide) ?_
              refine j_iconst C (-1) dX12_endings_38 (by decide) ?_
              refine j_callVv C (d := 1) (As := [.int (-1), .int (-1)]) (st := []) 98 (by decide) rfl (by decide) rfl (k161_X12_goesRows hB) gX12_endings_X12_goesRows rfl hdX12_goesRows (by decide) (Nat.le_of_ble_eq_true rfl) dX12_endings_39 rfl (fun M' hp => ?_)
              obtain rfl := hp
              refine j_iinc C 0 5 [(2, .int 5), (0, .ref (ad 98)), (1, .int p0)] dX12_endings_42 rfl (by decide) (by decide) rfl ?_
              refine j_goto C 31 dX12_endings_45 (by decide) ?_
              refine j_iload_n C 0 2 dX12_endings_31 rfl rfl ?_
              refine j_iload_n C 2 1 dX12_endings_32 rfl rfl ?_
              refine z_icmp_ge C 48 5 p0.toInt (by decide) rfl dX12_endings_33 (by decide) (fun h11 => ?_) (fun h11 => ?_)
              · obtain rfl : p0 = 5 := Int32.toInt_inj.mp (show p0.toInt = (5 : Int32).toInt by rw [show (5 : Int32).toInt = 5 from rfl]; omega)
                show jj _ _ _ _ _ _ _ _ _ _ _ _ _ _ _ _ _ _ _ (wJ B 110 0 0) 48 [(2, .int 5), (0, .ref (ad 98)), (1, .int 5)] []
                refine j_aload_n C 1 0 dX12_endings_48 rfl rfl ?_
                refine j_callVj C (d := 3) (As := []) (st := []) 98 (by decide) rfl (by decide) rfl (k160_X12_shutRows hB) gX12_endings_X12_shutRows rfl hdX12_shutRows (by decide) (Nat.le_of_ble_eq_true rfl) dX12_endings_49 rfl (fun r M' hp => ?_)
                obtain ⟨rfl, rfl⟩ := hp
                exact hret _ _ _ _ dX12_endings_52 (by first | rfl | (unfold fo_endings; rw [if_pos (by rw [nI_toInt (by omega)]; omega), nI_clamp (by omega)]; exact hrel) | (unfold fo_endings; (repeat' split) <;> first | rfl | (exfalso; omega) | (exfalso; simp_all; done)))
              · refine j_aload_n C 1 0 dX12_endings_36 rfl rfl ?_
                refine j_iconst C (-1) dX12_endings_37 (by decide) ?_
                refine j_iconst C (-1) dX12_endings_38 (by decide) ?_
                refine j_callVv C (d := 1) (As := [.int (-1), .int (-1)]) (st := []) 98 (by decide) rfl (by decide) rfl (k161_X12_goesRows hB) gX12_endings_X12_goesRows rfl hdX12_goesRows (by decide) (Nat.le_of_ble_eq_true rfl) dX12_endings_39 rfl (fun M' hp => ?_)
                obtain rfl := hp
                refine j_iinc C 0 6 [(2, .int 6), (0, .ref (ad 98)), (1, .int p0)] dX12_endings_42 rfl (by decide) (by decide) rfl ?_
                refine j_goto C 31 dX12_endings_45 (by decide) ?_
                refine j_iload_n C 0 2 dX12_endings_31 rfl rfl ?_
                refine j_iload_n C 2 1 dX12_endings_32 rfl rfl ?_
                refine z_icmp_ge C 48 6 p0.toInt (by decide) rfl dX12_endings_33 (by decide) (fun h12 => ?_) (fun h12 => ?_)
                · obtain rfl : p0 = 6 := Int32.toInt_inj.mp (show p0.toInt = (6 : Int32).toInt by rw [show (6 : Int32).toInt = 6 from rfl]; omega)
                  show jj _ _ _ _ _ _ _ _ _ _ _ _ _ _ _ _ _ _ _ (wJ B 110 0 0) 48 [(2, .int 6), (0, .ref (ad 98)), (1, .int 6)] []
                  refine j_aload_n C 1 0 dX12_endings_48 rfl rfl ?_
                  refine j_callVj C (d := 3) (As := []) (st := []) 98 (by decide) rfl (by decide) rfl (k160_X12_shutRows hB) gX12_endings_X12_shutRows rfl hdX12_shutRows (by decide) (Nat.le_of_ble_eq_true rfl) dX12_endings_49 rfl (fun r M' hp => ?_)
                  obtain ⟨rfl, rfl⟩ := hp
                  exact hret _ _ _ _ dX12_endings_52 (by first | rfl | (unfold fo_endings; rw [if_pos (by rw [nI_toInt (by omega)]; omega), nI_clamp (by omega)]; exact hrel) | (unfold fo_endings; (repeat' split) <;> first | rfl | (exfalso; omega) | (exfalso; simp_all; done)))
                · refine j_aload_n C 1 0 dX12_endings_36 rfl rfl ?_
                  refine j_iconst C (-1) dX12_endings_37 (by decide) ?_
                  refine j_iconst C (-1) dX12_endings_38 (by decide) ?_
                  refine j_callVv C (d := 1) (As := [.int (-1), .int (-1)]) (st := []) 98 (by decide) rfl (by decide) rfl (k161_X12_goesRows hB) gX12_endings_X12_goesRows rfl hdX12_goesRows (by decide) (Nat.le_of_ble_eq_true rfl) dX12_endings_39 rfl (fun M' hp => ?_)
                  obtain rfl := hp
                  refine j_iinc C 0 7 [(2, .int 7), (0, .ref (ad 98)), (1, .int p0)] dX12_endings_42 rfl (by decide) (by decide) rfl ?_
                  refine j_goto C 31 dX12_endings_45 (by decide) ?_
                  refine j_iload_n C 0 2 dX12_endings_31 rfl rfl ?_
                  refine j_iload_n C 2 1 dX12_endings_32 rfl rfl ?_
                  refine z_icmp_ge C 48 7 p0.toInt (by decide) rfl dX12_endings_33 (by decide) (fun h13 => ?_) (fun h13 => ?_)
                  · obtain rfl : p0 = 7 := Int32.toInt_inj.mp (show p0.toInt = (7 : Int32).toInt by rw [show (7 : Int32).toInt = 7 from rfl]; omega)
                    show jj _ _ _ _ _ _ _ _ _ _ _ _ _ _ _ _ _ _ _ (wJ B 110 0 0) 48 [(2, .int 7), (0, .ref (ad 98)), (1, .int 7)] []
                    refine j_aload_n C 1 0 dX12_endings_48 rfl rfl ?_
                    refine j_callVj C (d := 3) (As := []) (st := []) 98 (by decide) rfl (by decide) rfl (k160_X12_shutRows hB) gX12_endings_X12_shutRows rfl hdX12_shutRows (by decide) (Nat.le_of_ble_eq_true rfl) dX12_endings_49 rfl (fun r M' hp => ?_)
                    obtain ⟨rfl, rfl⟩ := hp
                    exact hret _ _ _ _ dX12_endings_52 (by first | rfl | (unfold fo_endings; rw [if_pos (by rw [nI_toInt (by omega)]; omega), nI_clamp (by omega)]; exact hrel) | (unfold fo_endings; (repeat' split) <;> first | rfl | (exfalso; omega) | (exfalso; simp_all; done)))
                  · refine j_aload_n C 1 0 dX12_endings_36 rfl rfl ?_
                    refine j_iconst C (-1) dX12_endings_37 (by decide) ?_
                    refine j_iconst C (-1) dX12_endings_38 (by decide) ?_
                    refine j_callVv C (d := 1) (As := [.int (-1), .int (-1)]) (st := []) 98 (by decide) rfl (by decide) rfl (k161_X12_goesRows hB) gX12_endings_X12_goesRows rfl hdX12_goesRows (by decide) (Nat.le_of_ble_eq_true rfl) dX12_endings_39 rfl (fun M' hp => ?_)
                    obtain rfl := hp
                    refine j_iinc C 0 8 [(2, .int 8), (0, .ref (ad 98)), (1, .int p0)] dX12_endings_42 rfl (by decide) (by decide) rfl ?_
                    refine j_goto C 31 dX12_endings_45 (by decide) ?_
                    refine j_iload_n C 0 2 dX12_endings_31 rfl rfl ?_
                    refine j_iload_n C 2 1 dX12_endings_32 rfl rfl ?_
                    refine z_icmp_ge C 48 8 p0.toInt (by decide) rfl dX12_endings_33 (by decide) (fun h14 => ?_) (fun h14 => ?_)
                    · obtain rfl : p0 = 8 := Int32.toInt_inj.mp (show p0.toInt = (8 : Int32).toInt by rw [show (8 : Int32).toInt = 8 from rfl]; omega)
                      show jj _ _ _ _ _ _ _ _ _ _ _ _ _ _ _ _ _ _ _ (wJ B 110 0 0) 48 [(2, .int 8), (0, .ref (ad 98)), (1, .int 8)] []
                      refine j_aload_n C 1 0 dX12_endings_48 rfl rfl ?_
                      refine j_callVj C (d := 3) (As := []) (st := []) 98 (by decide) rfl (by decide) rfl (k160_X12_shutRows hB) gX12_endings_X12_shutRows rfl hdX12_shutRows (by decide) (Nat.le_of_ble_eq_true rfl) dX12_endings_49 rfl (fun r M' hp => ?_)
                      obtain ⟨rfl, rfl⟩ := hp
                      exact hret _ _ _ _ dX12_endings_52 (by first | rfl | (unfold fo_endings; rw [if_pos (by rw [nI_toInt (by omega)]; omega), nI_clamp (by omega)]; exact hrel) | (unfold fo_endings; (repeat' split) <;> first | rfl | (exfalso; omega) | (exfalso; simp_all; done)))
                    · refine j_aload_n C 1 0 dX12_endings_36 rfl rfl ?_
                      refine j_iconst C (-1) dX12_endings_37 (by decide) ?_
                      refine j_iconst C (-1) dX12_endings_38 (by decide) ?_
                      refine j_callVv C (d := 1) (As := [.int (-1), .int (-1)]) (st := []) 98 (by decide) rfl (by decide) rfl (k161_X12_goesRows hB) gX12_endings_X12_goesRows rfl hdX12_goesRows (by decide) (Nat.le_of_ble_eq_true rfl) dX12_endings_39 rfl (fun M' hp => ?_)
                      obtain rfl := hp
                      refine j_iinc C 0 9 [(2, .int 9), (0, .ref (ad 98)), (1, .int p0)] dX12_endings_42 rfl (by decide) (by decide) rfl ?_
                      refine j_goto C 31 dX12_endings_45 (by decide) ?_
                      refine j_iload_n C 0 2 dX12_endings_31 rfl rfl ?_
                      refine j_iload_n C 2 1 dX12_endings_32 rfl rfl ?_
                      refine z_icmp_ge C 48 9 p0.toInt (by decide) rfl dX12_endings_33 (by decide) (fun h15 => ?_) (fun h15 => ?_)
                      · obtain rfl : p0 = 9 := Int32.toInt_inj.mp (show p0.toInt = (9 : Int32).toInt by rw [show (9 : Int32).toInt = 9 from rfl]; omega)
                        show jj _ _ _ _ _ _ _ _ _ _ _ _ _ _ _ _ _ _ _ (wJ B 110 0 0) 48 [(2, .int 9), (0, .ref (ad 98)), (1, .int 9)] []
                        refine j_aload_n C 1 0 dX12_endings_48 rfl rfl ?_
                        refine j_callVj C (d := 3) (As := []) (st := []) 98 (by decide) rfl (by decide) rfl (k160_X12_shutRows hB) gX12_endings_X12_shutRows rfl hdX12_shutRows (by decide) (Nat.le_of_ble_eq_true rfl) dX12_endings_49 rfl (fun r M' hp => ?_)
                        obtain ⟨rfl, rfl⟩ := hp
                        exact hret _ _ _ _ dX12_endings_52 (by first | rfl | (unfold fo_endings; rw [if_pos (by rw [nI_toInt (by omega)]; omega), nI_clamp (by omega)]; exact hrel) | (unfold fo_endings; (repeat' split) <;> first | rfl | (exfalso; omega) | (exfalso; simp_all; done)))
                      · refine j_aload_n C 1 0 dX12_endings_36 rfl rfl ?_
                        refine j_iconst C (-1) dX12_endings_37 (by decide) ?_
                        refine j_iconst C (-1) dX12_endings_38 (by decide) ?_
                        refine j_callVv C (d := 1) (As := [.int (-1), .int (-1)]) (st := []) 98 (by decide) rfl (by decide) rfl (k161_X12_goesRows hB) gX12_endings_X12_goesRows rfl hdX12_goesRows (by decide) (Nat.le_of_ble_eq_true rfl) dX12_endings_39 rfl (fun M' hp => ?_)
                        obtain rfl := hp
                        refine j_iinc C 0 10 [(2, .int 10), (0, .ref (ad 98)), (1, .int p0)] dX12_endings_42 rfl (by decide) (by decide) rfl ?_
                        refine j_goto C 31 dX12_endings_45 (by decide) ?_
                        refine j_iload_n C 0 2 dX12_endings_31 rfl rfl ?_
                        refine j_iload_n C 2 1 dX12_endings_32 rfl rfl ?_
                        refine z_icmp_ge C 48 10 p0.toInt (by decide) rfl dX12_endings_33 (by decide) (fun h16 => ?_) (fun h16 => ?_)
                        · obtain rfl : p0 = 10 := Int32.toInt_inj.mp (show p0.toInt = (10 : Int32).toInt by rw [show (10 : Int32).toInt = 10 from rfl]; omega)
                          show jj _ _ _ _ _ _ _ _ _ _ _ _ _ _ _ _ _ _ _ (wJ B 110 0 0) 48 [(2, .int 10), (0, .ref (ad 98)), (1, .int 10)] []
                          refine j_aload_n C 1 0 dX12_endings_48 rfl rfl ?_
                          refine j_callVj C (d := 3) (As := []) (st := []) 98 (by decide) rfl (by decide) rfl (k160_X12_shutRows hB) gX12_endings_X12_shutRows rfl hdX12_shutRows (by decide) (Nat.le_of_ble_eq_true rfl) dX12_endings_49 rfl (fun r M' hp => ?_)
                          obtain ⟨rfl, rfl⟩ := hp
                          exact hret _ _ _ _ dX12_endings_52 (by first | rfl | (unfold fo_endings; rw [if_pos (by rw [nI_toInt (by omega)]; omega), nI_clamp (by omega)]; exact hrel) | (unfold fo_endings; (repeat' split) <;> first | rfl | (exfalso; omega) | (exfalso; simp_all; done)))
                        · refine j_aload_n C 1 0 dX12_endings_36 rfl rfl ?_
                          refine j_iconst C (-1) dX12_endings_37 (by decide) ?_
                          refine j_iconst C (-1) dX12_endings_38 (by decide) ?_
                          refine j_callVv C (d := 1) (As := [.int (-1), .int (-1)]) (st := []) 98 (by decide) rfl (by decide) rfl (k161_X12_goesRows hB) gX12_endings_X12_goesRows rfl hdX12_goesRows (by decide) (Nat.le_of_ble_eq_true rfl) dX12_endings_39 rfl (fun M' hp => ?_)
                          obtain rfl := hp
                          refine j_iinc C 0 11 [(2, .int 11), (0, .ref (ad 98)), (1, .int p0)] dX12_endings_42 rfl (by decide) (by decide) rfl ?_
                          refine j_goto C 31 dX12_endings_45 (by decide) ?_
                          refine j_iload_n C 0 2 dX12_endings_31 rfl rfl ?_
                          refine j_iload_n C 2 1 dX12_endings_32 rfl rfl ?_
                          refine z_icmp_ge C 48 11 p0.toInt (by decide) rfl dX12_endings_33 (by decide) (fun h17 => ?_) (fun h17 => ?_)
                          · obtain rfl : p0 = 11 := Int32.toInt_inj.mp (show p0.toInt = (11 : Int32).toInt by rw [show (11 : Int32).toInt = 11 from rfl]; omega)
                            show jj _ _ _ _ _ _ _ _ _ _ _ _ _ _ _ _ _ _ _ (wJ B 110 0 0) 48 [(2, .int 11), (0, .ref (ad 98)), (1, .int 11)] []
                            refine j_aload_n C 1 0 dX12_endings_48 rfl rfl ?_
                            refine j_callVj C (d := 3) (As := []) (st := []) 98 (by decide) rfl (by decide) rfl (k160_X12_shutRows hB) gX12_endings_X12_shutRows rfl hdX12_shutRows (by decide) (Nat.le_of_ble_eq_true rfl) dX12_endings_49 rfl (fun r M' hp => ?_)
                            obtain ⟨rfl, rfl⟩ := hp
                            exact hret _ _ _ _ dX12_endings_52 (by first | rfl | (unfold fo_endings; rw [if_pos (by rw [nI_toInt (by omega)]; omega), nI_clamp (by omega)]; exact hrel) | (unfold fo_endings; (repeat' split) <;> first | rfl | (exfalso; omega) | (exfalso; simp_all; done)))
                          · refine j_aload_n C 1 0 dX12_endings_36 rfl rfl ?_
                            refine j_iconst C (-1) dX12_endings_37 (by decide) ?_
                            refine j_iconst C (-1) dX12_endings_38 (by decide) ?_
                            refine j_callVv C (d := 1) (As := [.int (-1), .int (-1)]) (st := []) 98 (by decide) rfl (by decide) rfl (k161_X12_goesRows hB) gX12_endings_X12_goesRows rfl hdX12_goesRows (by decide) (Nat.le_of_ble_eq_true rfl) dX12_endings_39 rfl (fun M' hp => ?_)
                            obtain rfl := hp
                            refine j_iinc C 0 12 [(2, .int 12), (0, .ref (ad 98)), (1, .int p0)] dX12_endings_42 rfl (by decide) (by decide) rfl ?_
                            refine j_goto C 31 dX12_endings_45 (by decide) ?_
                            refine j_iload_n C 0 2 dX12_endings_31 rfl rfl ?_
                            refine j_iload_n C 2 1 dX12_endings_32 rfl rfl ?_
                            refine z_icmp_ge C 48 12 p0.toInt (by decide) rfl dX12_endings_33 (by decide) (fun h18 => ?_) (fun h18 => ?_)
                            · obtain rfl : p0 = 12 := Int32.toInt_inj.mp (show p0.toInt = (12 : Int32).toInt by rw [show (12 : Int32).toInt = 12 from rfl]; omega)
                              show jj _ _ _ _ _ _ _ _ _ _ _ _ _ _ _ _ _ _ _ (wJ B 110 0 0) 48 [(2, .int 12), (0, .ref (ad 98)), (1, .int 12)] []
                              refine j_aload_n C 1 0 dX12_endings_48 rfl rfl ?_
                              refine j_callVj C (d := 3) (As := []) (st := []) 98 (by decide) rfl (by decide) rfl (k160_X12_shutRows hB) gX12_endings_X12_shutRows rfl hdX12_shutRows (by decide) (Nat.le_of_ble_eq_true rfl) dX12_endings_49 rfl (fun r M' hp => ?_)
                              obtain ⟨rfl, rfl⟩ := hp
                              exact hret _ _ _ _ dX12_endings_52 (by first | rfl | (unfold fo_endings; rw [if_pos (by rw [nI_toInt (by omega)]; omega), nI_clamp (by omega)]; exact hrel) | (unfold fo_endings; (repeat' split) <;> first | rfl | (exfalso; omega) | (exfalso; simp_all; done)))
                            · refine j_aload_n C 1 0 dX12_endings_36 rfl rfl ?_
                              refine j_iconst C (-1) dX12_endings_37 (by decide) ?_
                              refine j_iconst C (-1) dX12_endings_38 (by decide) ?_
                              refine j_callVv C (d := 1) (As := [.int (-1), .int (-1)]) (st := []) 98 (by decide) rfl (by decide) rfl (k161_X12_goesRows hB) gX12_endings_X12_goesRows rfl hdX12_goesRows (by decide) (Nat.le_of_ble_eq_true rfl) dX12_endings_39 rfl (fun M' hp => ?_)
                              obtain rfl := hp
                              refine j_iinc C 0 13 [(2, .int 13), (0, .ref (ad 98)), (1, .int p0)] dX12_endings_42 rfl (by decide) (by decide) rfl ?_
                              refine j_goto C 31 dX12_endings_45 (by decide) ?_
                              refine j_iload_n C 0 2 dX12_endings_31 rfl rfl ?_
                              refine j_iload_n C 2 1 dX12_endings_32 rfl rfl ?_
                              refine z_icmp_ge C 48 13 p0.toInt (by decide) rfl dX12_endings_33 (by decide) (fun h19 => ?_) (fun h19 => ?_)
                              · obtain rfl : p0 = 13 := Int32.toInt_inj.mp (show p0.toInt = (13 : Int32).toInt by rw [show (13 : Int32).toInt = 13 from rfl]; omega)
                                show jj _ _ _ _ _ _ _ _ _ _ _ _ _ _ _ _ _ _ _ (wJ B 110 0 0) 48 [(2, .int 13), (0, .ref (ad 98)), (1, .int 13)] []
                                refine j_aload_n C 1 0 dX12_endings_48 rfl rfl ?_
                                refine j_callVj C (d := 3) (As := []) (st := []) 98 (by decide) rfl (by decide) rfl (k160_X12_shutRows hB) gX12_endings_X12_shutRows rfl hdX12_shutRows (by decide) (Nat.le_of_ble_eq_true rfl) dX12_endings_49 rfl (fun r M' hp => ?_)
                                obtain ⟨rfl, rfl⟩ := hp
                                exact hret _ _ _ _ dX12_endings_52 (by first | rfl | (unfold fo_endings; rw [if_pos (by rw [nI_toInt (by omega)]; omega), nI_clamp (by omega)]; exact hrel) | (unfold fo_endings; (repeat' split) <;> first | rfl | (exfalso; omega) | (exfalso; simp_all; done)))
                              · refine j_aload_n C 1 0 dX12_endings_36 rfl rfl ?_
                                refine j_iconst C (-1) dX12_endings_37 (by decide) ?_
                                refine j_iconst C (-1) dX12_endings_38 (by decide) ?_
                                refine j_callVv C (d := 1) (As := [.int (-1), .int (-1)]) (st := []) 98 (by decide) rfl (by decide) rfl (k161_X12_goesRows hB) gX12_endings_X12_goesRows rfl hdX12_goesRows (by decide) (Nat.le_of_ble_eq_true rfl) dX12_endings_39 rfl (fun M' hp => ?_)
                                obtain rfl := hp
                                refine j_iinc C 0 14 [(2, .int 14), (0, .ref (ad 98)), (1, .int p0)] dX12_endings_42 rfl (by decide) (by decide) rfl ?_
                                refine j_goto C 31 dX12_endings_45 (by decide) ?_
                                refine j_iload_n C 0 2 dX12_endings_31 rfl rfl ?_
                                refine j_iload_n C 2 1 dX12_endings_32 rfl rfl ?_
                                refine z_icmp_ge C 48 14 p0.toInt (by decide) rfl dX12_endings_33 (by decide) (fun h20 => ?_) (fun h20 => ?_)
                                · obtain rfl : p0 = 14 := Int32.toInt_inj.mp (show p0.toInt = (14 : Int32).toInt by rw [show (14 : Int32).toInt = 14 from rfl]; omega)
                                  show jj _ _ _ _ _ _ _ _ _ _ _ _ _ _ _ _ _ _ _ (wJ B 110 0 0) 48 [(2, .int 14), (0, .ref (ad 98)), (1, .int 14)] []
                                  refine j_aload_n C 1 0 dX12_endings_48 rfl rfl ?_
                                  refine j_callVj C (d := 3) (As := []) (st := []) 98 (by decide) rfl (by decide) rfl (k160_X12_shutRows hB) gX12_endings_X12_shutRows rfl hdX12_shutRows (by decide) (Nat.le_of_ble_eq_true rfl) dX12_endings_49 rfl (fun r M' hp => ?_)
                                  obtain ⟨rfl, rfl⟩ := hp
                                  exact hret _ _ _ _ dX12_endings_52 (by first | rfl | (unfold fo_endings; rw [if_pos (by rw [nI_toInt (by omega)]; omega), nI_clamp (by omega)]; exact hrel) | (unfold fo_endings; (repeat' split) <;> first | rfl | (exfalso; omega) | (exfalso; simp_all; done)))
                                · obtain rfl : p0 = 15 := Int32.toInt_inj.mp (show p0.toInt = (15 : Int32).toInt by rw [show (15 : Int32).toInt = 15 from rfl]; omega)
                                  show jj _ _ _ _ _ _ _ _ _ _ _ _ _ _ _ _ _ _ _ (wJ B 110 0 0) 36 [(2, .int 14), (0, .ref (ad 98)), (1, .int 15)] []
                                  refine j_aload_n C 1 0 dX12_endings_36 rfl rfl ?_
                                  refine j_iconst C (-1) dX12_endings_37 (by decide) ?_
                                  refine j_iconst C (-1) dX12_endings_38 (by decide) ?_
                                  refine j_callVv C (d := 1) (As := [.int (-1), .int (-1)]) (st := []) 98 (by decide) rfl (by decide) rfl (k161_X12_goesRows hB) gX12_endings_X12_goesRows rfl hdX12_goesRows (by decide) (Nat.le_of_ble_eq_true rfl) dX12_endings_39 rfl (fun M' hp => ?_)
                                  obtain rfl := hp
                                  refine j_iinc C 0 15 [(2, .int 15), (0, .ref (ad 98)), (1, .int 15)] dX12_endings_42 rfl (by decide) (by decide) rfl ?_
                                  refine j_goto C 31 dX12_endings_45 (by decide) ?_
                                  refine j_iload_n C 0 2 dX12_endings_31 rfl rfl ?_
                                  refine j_iload_n C 2 1 dX12_endings_32 rfl rfl ?_
                                  refine j_icmp_ge_t C 48 dX12_endings_33 (by decide) (by decide) ?_
                                  refine j_aload_n C 1 0 dX12_endings_48 rfl rfl ?_
                                  refine j_callVj C (d := 3) (As := []) (st := []) 98 (by decide) rfl (by decide) rfl (k160_X12_shutRows hB) gX12_endings_X12_shutRows rfl hdX12_shutRows (by decide) (Nat.le_of_ble_eq_true rfl) dX12_endings_49 rfl (fun r M' hp => ?_)
                                  obtain ⟨rfl, rfl⟩ := hp
                                  exact hret _ _ _ _ dX12_endings_52 (by first | rfl | (unfold fo_endings; rw [if_pos (by rw [nI_toInt (by omega)]; omega), nI_clamp (by omega)]; exact hrel) | (unfold fo_endings; (repeat' split) <;> first | rfl | (exfalso; omega) | (exfalso; simp_all; done)))
