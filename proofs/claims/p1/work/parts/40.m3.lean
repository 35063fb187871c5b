set_option maxHeartbeats 4000000 in
set_option maxRecDepth 100000 in
theorem om_who {l : Launch} {dC : Nat → ClassId} {dI : Nat → Nat → Nat} {ad : Nat → Nat} {cA : Nat → ClassId} {B : mm_M} (hB : MB B) (p0 : Int32) (p1 : Int32) : Ci l 3 yX12_who wsX12_who dC dI ad cA [.ref (ad 98), .int p0, .int p1] B (fun r _ => r = fo_who p0 p1) := by
  refine ci_of (cc := cX12_who) (maxL := 6) (ty := .int) (lv := [(0, .ref (ad 98)), (1, .int p0), (2, .int p1)]) (by decide) rfl (fun r M' hp => rfl) (Nat.le_of_ble_eq_true rfl) rfl ?_
  intro p e s m args below meth c A Q C hret
  refine j_aload_n C 0 0 dX12_who_0 rfl rfl ?_
  refine j_iconst C 0 dX12_who_1 (by decide) ?_
  refine j_putI C 11 qX12_who_1 rfl rfl (by decide) rfl (by decide) rfl dX12_who_2 ?_
  refine z_noI (show B.1 98 0 = 0 from hB.1 98 0 (by decide)) ?_
  refine j_aload_n C 0 0 dX12_who_5 rfl rfl ?_
  refine j_iload_n C 1 1 dX12_who_6 rfl rfl ?_
  refine j_callVi C (d := 2) (As := [.int p0]) (st := []) 98 (by decide) rfl (by decide) rfl (k233_X12_noGone hB p0) gX12_who_X12_noGone rfl hdX12_noGone (by decide) (Nat.le_of_ble_eq_true rfl) dX12_who_7 rfl (fun r M' hp => ?_)
  rcases hp with ⟨h1, rfl, rfl⟩ | ⟨⟨h2, h3⟩, rfl, rfl⟩ | ⟨⟨h4, h5, h6⟩, rfl, rfl⟩ | ⟨⟨h7, h8, h9⟩, rfl, rfl⟩ | ⟨⟨h10, h11, h12⟩, rfl, rfl⟩ | ⟨⟨h13, h14, h15⟩, rfl, rfl⟩
  · refine j_istore_n C 3 [(3, .int (-2)), (0, .ref (ad 98)), (1, .int p0), (2, .int p1)] dX12_who_10 rfl (by decide) rfl ?_
    refine j_iload_n C 0 3 dX12_who_11 rfl rfl ?_
    refine j_if_eq_f C 17 dX12_who_12 (by decide) (by decide) ?_
    refine j_iload_n C 0 3 dX12_who_15 rfl rfl ?_
    exact hret _ _ _ _ dX12_who_16 (by first | rfl | (unfold fo_who; rw [if_pos (by rw [nI_toInt (by omega)]; omega), nI_clamp (by omega)]; exact hrel) | (unfold fo_who; (repeat' split) <;> first | rfl | (exfalso; omega) | (exfalso; simp_all; done)))
  · refine j_istore_n C 3 [(3, .int (-2)), (0, .ref (ad 98)), (1, .int p0), (2, .int p1)] dX12_who_10 rfl (by decide) rfl ?_
    refine j_iload_n C 0 3 dX12_who_11 rfl rfl ?_
    refine j_if_eq_f C 17 dX12_who_12 (by decide) (by decide) ?_
    refine j_iload_n C 0 3 dX12_who_15 rfl rfl ?_
    exact hret _ _ _ _ dX12_who_16 (by first | rfl | (unfold fo_who; rw [if_pos (by rw [nI_toInt (by omega)]; omega), nI_clamp (by omega)]; exact hrel) | (unfold fo_who; (repeat' split) <;> first | rfl | (exfalso; omega) | (exfalso; simp_all; done)))
  · refine j_istore_n C 3 [(3, .int (-6)), (0, .ref (ad 98)), (1, .int p0), (2, .int p1)] dX12_who_10 rfl (by decide) rfl ?_
    refine j_iload_n C 0 3 dX12_who_11 rfl rfl ?_
    refine j_if_eq_f C 17 dX12_who_12 (by decide) (by decide) ?_
    refine j_iload_n C 0 3 dX12_who_15 rfl rfl ?_
    exact hret _ _ _ _ dX12_who_16 (by first | rfl | (unfold fo_who; rw [if_pos (by rw [nI_toInt (by omega)]; omega), nI_clamp (by omega)]; exact hrel) | (unfold fo_who; (repeat' split) <;> first | rfl | (exfalso; omega) | (exfalso; simp_all; done)))
  · refine j_istore_n C 3 [(3, .int (-6)), (0, .ref (ad 98)), (1, .int p0), (2, .int p1)] dX12_who_10 rfl (by decide) rfl ?_
    refine j_iload_n C 0 3 dX12_who_11 rfl rfl ?_
    refine j_if_eq_f C 17 dX12_who_12 (by decide) (by decide) ?_
    refine j_iload_n C 0 3 dX12_who_15 rfl rfl ?_
    exact hret _ _ _ _ dX12_who_16 (by first | rfl | (unfold fo_who; rw [if_pos (by rw [nI_toInt (by omega)]; omega), nI_clamp (by omega)]; exact hrel) | (unfold fo_who; (repeat' split) <;> first | rfl | (exfalso; omega) | (exfalso; simp_all; done)))
  · refine j_istore_n C 3 [(3, .int (-6)), (0, .ref (ad 98)), (1, .int p0), (2, .int p1)] dX12_who_10 rfl (by decide) rfl ?_
    refine j_iload_n C 0 3 dX12_who_11 rfl rfl ?_
    refine j_if_eq_f C 17 dX12_who_12 (by decide) (by decide) ?_
    refine j_iload_n C 0 3 dX12_who_15 rfl rfl ?_
    exact hret _ _ _ _ dX12_who_16 (by first | rfl | (unfold fo_who; rw [if_pos (by rw [nI_toInt (by omega)]; omega), nI_clamp (by omega)]; exact hrel) | (unfold fo_who; (repeat' split) <;> first | rfl | (exfalso; omega) | (exfalso; simp_all; done)))
  · refine j_istore_n C 3 [(3, .int (-6)), (0, .ref (ad 98)), (1, .int p0), (2, .int p1)] dX12_who_10 rfl (by decide) rfl ?_
    refine j_iload_n C 0 3 dX12_who_11 rfl rfl ?_
    refine j_if_eq_f C 17 dX12_who_12 (by decide) (by decide) ?_
    refine j_iload_n C 0 3 dX12_who_15 rfl rfl ?_
    exact hret _ _ _ _ dX12_who_16 (by first | rfl | (unfold fo_who; rw [if_pos (by rw [nI_toInt (by omega)]; omega), nI_clamp (by omega)]; exact hrel) | (unfold fo_who; (repeat' split) <;> first | rfl | (exfalso; omega) | (exfalso; simp_all; done)))
set_option maxHeartbeats 4000000 in
set_option maxRecDepth 100000 in
theorem k246_X12_within {l : Launch} {dC : Nat → ClassId} {dI : Nat → Nat → Nat} {ad : Nat → Nat} {cA : Nat → ClassId} {B : mm_M} (hB : MB B) (p0 : Int32) : Ci l 0 yX12_within wsX12_within dC dI ad cA [.long p0.toInt64, .long 0, .long 40] B (fun r M' => ((p0.toInt < 0) ∧ 0 = r ∧ B = M') ∨ ((¬ p0.toInt < 0 ∧ 40 < p0.toInt) ∧ 0 = r ∧ B = M') ∨ ((¬ p0.toInt < 0 ∧ ¬ 40 < p0.toInt) ∧ 1 = r ∧ B = M')) := by
  refine ci_of (cc := cX12_within) (maxL := 6) (ty := .boolean) (lv := [(0, .long p0.toInt64), (2, .long 0), (4, .long 40)]) (by decide) rfl (fun r M' hp => by rcases hp with ⟨-, rfl, rfl⟩ | ⟨-, rfl, rfl⟩ | ⟨-, rfl, rfl⟩ <;> rfl) (Nat.le_of_ble_eq_true rfl) rfl ?_
  intro p e s m args below meth c A Q C hret
  refine j_lload_n C 0 0 dX12_within_0 rfl rfl ?_
  refine j_lload_n C 1 2 dX12_within_1 rfl rfl ?_
  refine z_lcmp_lt C 17 p0.toInt 0 ((Int32.toInt_toInt64 p0).trans rfl) (by decide) dX12_within_2 dX12_within_3 (by decide) (fun h1 => ?_) (fun h1 => ?_)
  · refine j_iconst C 0 dX12_within_17 (by decide) ?_
    exact hret _ _ _ _ dX12_within_18 (Or.inl ⟨h1, rfl, rfl⟩)
  · refine j_lload_n C 0 0 dX12_within_6 rfl rfl ?_
    refine j_lload C 2 dX12_within_7 rfl ?_
    refine z_lcmp_gt C 17 p0.toInt 40 ((Int32.toInt_toInt64 p0).trans rfl) (by decide) dX12_within_9 dX12_within_10 (by decide) (fun h2 => ?_) (fun h2 => ?_)
    · refine j_iconst C 0 dX12_within_17 (by decide) ?_
      exact hret _ _ _ _ dX12_within_18 (Or.inr (Or.inl ⟨⟨h1, h2⟩, rfl, rfl⟩))
    · refine j_iconst C 1 dX12_within_13 (by decide) ?_
      refine j_goto C 18 dX12_within_14 (by decide) ?_
      exact hret _ _ _ _ dX12_within_18 (Or.inr (Or.inr ⟨⟨h1, h2⟩, rfl, rfl⟩))
set_option maxHeartbeats 4000000 in
set_option maxRecDepth 100000 in
theorem om_numbers {l : Launch} {dC : Nat → ClassId} {dI : Nat → Nat → Nat} {ad : Nat → Nat} {cA : Nat → ClassId} {B : mm_M} (hB : MB B) (p0 : Int32) (p1 : Int32) (p2 : Int32) : Ci l 1 yX12_numbers wsX12_numbers dC dI ad cA [.ref (ad 98), .int p0, .int p1, .int p2] B (fun r _ => r = fo_numbers p0 p1 p2) := by
  refine ci_of (cc := cX12_numbers) (maxL := 5) (ty := .int) (lv := [(0, .ref (ad 98)), (1, .int p0), (2, .int p1), (3, .int p2)]) (by decide) rfl (fun r M' hp => rfl) (Nat.le_of_ble_eq_true rfl) rfl ?_
  intro p e s m args below meth c A Q C hret
  refine j_aload_n C 0 0 dX12_numbers_0 rfl rfl ?_
  refine j_iconst C 0 dX12_numbers_1 (by decide) ?_
  refine j_putI C 11 qX12_numbers_1 rfl rfl (by decide) rfl (by decide) rfl dX12_numbers_2 ?_
  refine z_noI (show B.1 98 0 = 0 from hB.1 98 0 (by decide)) ?_
  refine j_iload_n C 1 1 dX12_numbers_5 rfl rfl ?_
  refine z_i2l C p0.toInt64 rfl dX12_numbers_6 ?_
  refine j_lconst C 0 dX12_numbers_7 (by decide) ?_
  refine j_ldc2 C 3 dX12_numbers_8 (by decide +kernel) ?_
  refine j_callSi C (d := 0) (As := [.long p0.toInt64, .long 0, .long 3]) (st := []) (k100_X12_within hB p0) gX12_numbers_X12_within rfl hdX12_withins (by decide) (Nat.le_of_ble_eq_true rfl) dX12_numbers_11 rfl (fun r M' hp => ?_)
  rcases hp with ⟨h1, rfl, rfl⟩ | ⟨⟨h2, h3⟩, rfl, rfl⟩ | ⟨⟨h4, h5⟩, rfl, rfl⟩
  · refine j_if_eq_t C 29 dX12_numbers_14 (by decide) (by decide) ?_
    refine j_bipush C (-2) dX12_numbers_29 (by decide) ?_
    exact hret _ _ _ _ dX12_numbers_31 (by first | rfl | (unfold fo_numbers; rw [if_pos (by rw [nI_toInt (by omega)]; omega), nI_clamp (by omega)]; exact hrel) | (unfold fo_numbers; (repeat' split) <;> first | rfl | (exfalso; omega) | (exfalso; simp_all; done)))
  · refine j_if_eq_t C 29 dX12_numbers_14 (by decide) (by decide) ?_
    refine j_bipush C (-2) dX12_numbers_29 (by decide) ?_
    exact hret _ _ _ _ dX12_numbers_31 (by first | rfl | (unfold fo_numbers; rw [if_pos (by rw [nI_toInt (by omega)]; omega), nI_clamp (by omega)]; exact hrel) | (unfold fo_numbers; (repeat' split) <;> first | rfl | (exfalso; omega) | (exfalso; simp_all; done)))
  · refine j_if_eq_f C 29 dX12_numbers_14 (by decide) (by decide) ?_
    refine j_iload_n C 2 2 dX12_numbers_17 rfl rfl ?_
    refine z_i2l C p1.toInt64 rfl dX12_numbers_18 ?_
    refine j_lconst C 0 dX12_numbers_19 (by decide) ?_
    refine j_ldc2 C 3 dX12_numbers_20 (by decide +kernel) ?_
    refine j_callSi C (d := 0) (As := [.long p1.toInt64, .long 0, .long 3]) (st := []) (k100_X12_within hB p1) gX12_numbers_X12_within rfl hdX12_withins (by decide) (Nat.le_of_ble_eq_true rfl) dX12_numbers_23 rfl (fun r M' hp => ?_)
    rcases hp with ⟨h6, rfl, rfl⟩ | ⟨⟨h7, h8⟩, rfl, rfl⟩ | ⟨⟨h9, h10⟩, rfl, rfl⟩
    · refine j_if_ne_f C 32 dX12_numbers_26 (by decide) (by decide) ?_
      refine j_bipush C (-2) dX12_numbers_29 (by decide) ?_
      exact hret _ _ _ _ dX12_numbers_31 (by first | rfl | (unfold fo_numbers; rw [if_pos (by rw [nI_toInt (by omega)]; omega), nI_clamp (by omega)]; exact hrel) | (unfold fo_numbers; (repeat' split) <;> first | rfl | (exfalso; omega) | (exfalso; simp_all; done)))
    · refine j_if_ne_f C 32 dX12_numbers_26 (by decide) (by decide) ?_
      refine j_bipush C (-2) dX12_numbers_29 (by decide) ?_
      exact hret _ _ _ _ dX12_numbers_31 (by first | rfl | (unfold fo_numbers; rw [if_pos (by rw [nI_toInt (by omega)]; omega), nI_clamp (by omega)]; exact hrel) | (unfold fo_numbers; (repeat' split) <;> first | rfl | (exfalso; omega) | (exfalso; simp_all; done)))
    · refine j_if_ne_t C 32 dX12_numbers_26 (by decide) (by decide) ?_
      refine j_iload_n C 3 3 dX12_numbers_32 rfl rfl ?_
      refine z_i2l C p2.toInt64 rfl dX12_numbers_33 ?_
      refine j_lconst C 0 dX12_numbers_34 (by decide) ?_
      refine j_ldc2 C 40 dX12_numbers_35 (by decide +kernel) ?_
      refine j_callSi C (d := 0) (As := [.long p2.toInt64, .long 0, .long 40]) (st := []) (k246_X12_within hB p2) gX12_numbers_X12_within rfl hdX12_withins (by decide) (Nat.le_of_ble_eq_true rfl) dX12_numbers_38 rfl (fun r M' hp => ?_)
      rcases hp with ⟨h11, rfl, rfl⟩ | ⟨⟨h12, h13⟩, rfl, rfl⟩ | ⟨⟨h14, h15⟩, rfl, rfl⟩
      · refine j_if_ne_f C 47 dX12_numbers_41 (by decide) (by decide) ?_
        refine j_bipush C (-3) dX12_numbers_44 (by decide) ?_
        exact hret _ _ _ _ dX12_numbers_46 (by first | rfl | (unfold fo_numbers; rw [if_pos (by rw [nI_toInt (by omega)]; omega), nI_clamp (by omega)]; exact hrel) | (unfold fo_numbers; (repeat' split) <;> first | rfl | (exfalso; omega) | (exfalso; simp_all; done)))
      · refine j_if_ne_f C 47 dX12_numbers_41 (by decide) (by decide) ?_
        refine j_bipush C (-3) dX12_numbers_44 (by decide) ?_
        exact hret _ _ _ _ dX12_numbers_46 (by first | rfl | (unfold fo_numbers; rw [if_pos (by rw [nI_toInt (by omega)]; omega), nI_clamp (by omega)]; exact hrel) | (unfold fo_numbers; (repeat' split) <;> first | rfl | (exfalso; omega) | (exfalso; simp_all; done)))
      · refine j_if_ne_t C 47 dX12_numbers_41 (by decide) (by decide) ?_
        refine j_aload_n C 0 0 dX12_numbers_47 rfl rfl ?_
        refine j_getP C 11 115 fX12_numbers_67 (by decide) rfl (by decide) rfl (show B.2.2 98 29 = 115 from hB.2.2 98 29 (by decide)) dX12_numbers_48 ?_
        refine j_iload_n C 1 1 dX12_numbers_51 rfl rfl ?_
        refine j_iload_n C 2 2 dX12_numbers_52 rfl rfl ?_
        obtain ⟨j, hj, rfl⟩ := z_sp (x := p0) (b := 3) (by omega) (by omega)
        rcases (show j = 0 ∨ j = 1 ∨ j = 2 ∨ j = 3 by omega) with rfl | rfl | rfl | rfl
        · show jj _ _ _ _ _ _ _ _ _ _ _ _ _ _ _ _ _ _ _ B 53 [(0, .ref (ad 98)), (1, .int 0), (2, .int p1), (3, .int p2)] [.int p1, .int 0, .ref (ad 115)]
          refine x_iast C 0 4 (by decide) rfl rfl rfl (by decide) (by decide) dX12_numbers_53 ?_
          refine j_aload_n C 0 0 dX12_numbers_54 rfl rfl ?_
          refine j_getP C 11 116 fX12_numbers_70 (by decide) rfl (by decide) rfl (show B.2.2 98 30 = 116 from hB.2.2 98 30 (by decide)) dX12_numbers_55 ?_
          refine j_iload_n C 1 1 dX12_numbers_58 rfl rfl ?_
          refine j_iload_n C 3 3 dX12_numbers_59 rfl rfl ?_
          refine x_iast C 0 4 (by decide) rfl rfl rfl (by decide) (by decide) dX12_numbers_60 ?_
          refine j_iconst C 0 dX12_numbers_61 (by decide) ?_
          refine j_istore C 4 [(4, .int 0), (0, .ref (ad 98)), (1, .int 0), (2, .int p1), (3, .int p2)] dX12_numbers_62 (by decide) rfl ?_
          obtain ⟨j, hja, hjb, rfl⟩ := z_n31 (x := p2) (a := 0) (b := 40) (by omega) (by omega) (by decide)
          show jj _ _ _ _ _ _ _ _ _ _ _ _ _ _ _ _ _ _ _ (wI (wI B 115 0 p1) 116 0 (nI j)) 64 [(4, .int 0), (0, .ref (ad 98)), (1, .int 0), (2, .int p1), (3, .int (nI j))] []
          refine j_lv [1, 2, 3, 4, 0] rfl ?_
          have L : ∀ (n i : Nat), 0 ≤ i → i + n = j → jj p l e (cn_R 1) s m args below meth c 0 0 Q 5 dC dI ad cA A (wI (wI B 115 0 p1) 116 0 (nI j)) 64 [(0, .ref (ad 98)), (1, .int 0), (2, .int p1), (3, .int (nI j)), (4, .int (nI i))] [] := by
            intro n
            induction n with
            | zero =>
              intro i h1 h2
              obtain rfl : j = i := by omega
              refine j_iload C 4 dX12_numbers_64 rfl ?_
              refine j_iload_n C 3 3 dX12_numbers_66 rfl rfl ?_
              refine z_icmp_ge C 89 (j : Int) (j : Int) (nI_toInt (n := j) (by omega)) (nI_toInt (n := j) (by omega)) dX12_numbers_67 (by decide) (fun h16 => ?_) (fun h16 => ?_)
              · refine j_iconst C 0 dX12_numbers_89 (by decide) ?_
                exact hret _ _ _ _ dX12_numbers_90 (by first | rfl | (unfold fo_numbers; rw [if_pos (by rw [nI_toInt (by omega)]; omega), nI_clamp (by omega)]; exact hrel) | (unfold fo_numbers; (repeat' split) <;> first | rfl | (exfalso; omega) | (exfalso; simp_all; done)))
              · exfalso; omega
            | succ n ih =>
              intro i h1 h2
              refine j_iload C 4 dX12_numbers_64 rfl ?_
              refine j_iload_n C 3 3 dX12_numbers_66 rfl rfl ?_
              refine z_icmp_ge C 89 (i : Int) (j : Int) (nI_toInt (n := i) (by omega)) (nI_toInt (n := j) (by omega)) dX12_numbers_67 (by decide) (fun h17 => ?_) (fun h17 => ?_)
              · exfalso; omega
              · refine j_aload_n C 0 0 dX12_numbers_70 rfl rfl ?_
                refine j_getP C 11 117 fX12_numbers_73 (by decide) rfl (by decide) rfl (show B.2.2 98 31 = 117 from hB.2.2 98 31 (by decide)) dX12_numbers_71 ?_
                refine j_bipush C 40 dX12_numbers_74 (by decide) ?_
                refine j_iload_n C 1 1 dX12_numbers_76 rfl rfl ?_
                refine z_imul C 0 (by decide) dX12_numbers_77 ?_
                refine j_iload C 4 dX12_numbers_78 rfl ?_
                refine z_iadd C (nI i) ((nI_add 0 i).trans (congrArg nI (by omega))) dX12_numbers_80 ?_
                refine j_lconst C 0 dX12_numbers_81 (by decide) ?_
                refine x_last C i 160 (by decide) rfl rfl rfl (by omega) (by decide) dX12_numbers_82 ?_
                refine z_noJ (show B.2.1 117 i = 0 from hB.2.1 117 i (by decide)) ?_
                refine j_iinc C 4 (nI (i + 1)) [(4, .int (nI (i + 1))), (0, .ref (ad 98)), (1, .int 0), (2, .int p1), (3, .int (nI j))] dX12_numbers_83 rfl (nI_1 i) (by decide) rfl ?_
                refine j_goto C 64 dX12_numbers_86 (by decide) ?_
                refine j_lv [1, 2, 3, 4, 0] rfl ?_
                exact ih (i + 1) (by omega) (by omega)
          exact L (j - 0) 0 (by omega) (by omega)
        · show jj _ _ _ _ _ _ _ _ _ _ _ _ _ _ _ _ _ _ _ B 53 [(0, .ref (ad 98)), (1, .int 1), (2, .int p1), (3, .int p2)] [.int p1, .int 1, .ref (ad 115)]
          refine x_iast C 1 4 (by decide) rfl rfl rfl (by decide) (by decide) dX12_numbers_53 ?_
          refine j_aload_n C 0 0 dX12_numbers_54 rfl rfl ?_
          refine j_getP C 11 116 fX12_numbers_70 (by decide) rfl (by decide) rfl (show B.2.2 98 30 = 116 from hB.2.2 98 30 (by decide)) dX12_numbers_55 ?_
          refine j_iload_n C 1 1 dX12_numbers_58 rfl rfl ?_
          refine j_iload_n C 3 3 dX12_numbers_59 rfl rfl ?_
          refine x_iast C 1 4 (by decide) rfl rfl rfl (by decide) (by decide) dX12_numbers_60 ?_
          refine j_iconst C 0 dX12_numbers_61 (by decide) ?_
          refine j_istore C 4 [(4, .int 0), (0, .ref (ad 98)), (1, .int 1), (2, .int p1), (3, .int p2)] dX12_numbers_62 (by decide) rfl ?_
          obtain ⟨j, hja, hjb, rfl⟩ := z_n31 (x := p2) (a := 0) (b := 40) (by omega) (by omega) (by decide)
          show jj _ _ _ _ _ _ _ _ _ _ _ _ _ _ _ _ _ _ _ (wI (wI B 115 1 p1) 116 1 (nI j)) 64 [(4, .int 0), (0, .ref (ad 98)), (1, .int 1), (2, .int p1), (3, .int (nI j))] []
          refine j_lv [1, 2, 3, 4, 0] rfl ?_
          have L : ∀ (n i : Nat), 0 ≤ i → i + n = j → jj p l e (cn_R 1) s m args below meth c 0 0 Q 5 dC dI ad cA A (wI (wI B 115 1 p1) 116 1 (nI j)) 64 [(0, .ref (ad 98)), (1, .int 1), (2, .int p1), (3, .int (nI j)), (4, .int (nI i))] [] := by
            intro n
            induction n with
            | zero =>
              intro i h1 h2
              obtain rfl : j = i := by omega
              refine j_iload C 4 dX12_numbers_64 rfl ?_
              refine j_iload_n C 3 3 dX12_numbers_66 rfl rfl ?_
              refine z_icmp_ge C 89 (j : Int) (j : Int) (nI_toInt (n := j) (by omega)) (nI_toInt (n := j) (by omega)) dX12_numbers_67 (by decide) (fun h18 => ?_) (fun h18 => ?_)
              · refine j_iconst C 0 dX12_numbers_89 (by decide) ?_
                exact hret _ _ _ _ dX12_numbers_90 (by first | rfl | (unfold fo_numbers; rw [if_pos (by rw [nI_toInt (by omega)]; omega), nI_clamp (by omega)]; exact hrel) | (unfold fo_numbers; (repeat' split) <;> first | rfl | (exfalso; omega) | (exfalso; simp_all; done)))
              · exfalso; omega
            | succ n ih =>
              intro i h1 h2
              refine j_iload C 4 dX12_numbers_64 rfl ?_
              refine j_iload_n C 3 3 dX12_numbers_66 rfl rfl ?_
              refine z_icmp_ge C 89 (i : Int) (j : Int) (nI_toInt (n := i) (by omega)) (nI_toInt (n := j) (by omega)) dX12_numbers_67 (by decide) (fun h19 => ?_) (fun h19 => ?_)
              · exfalso; omega
              · refine j_aload_n C 0 0 dX12_numbers_70 rfl rfl ?_
                refine j_getP C 11 117 fX12_numbers_73 (by decide) rfl (by decide) rfl (show B.2.2 98 31 = 117 from hB.2.2 98 31 (by decide)) dX12_numbers_71 ?_
                refine j_bipush C 40 dX12_numbers_74 (by decide) ?_
                refine j_iload_n C 1 1 dX12_numbers_76 rfl rfl ?_
                refine z_imul C 40 (by decide) dX12_numbers_77 ?_
                refine j_iload C 4 dX12_numbers_78 rfl ?_
                refine z_iadd C (nI (i + 40)) ((nI_add 40 i).trans (congrArg nI (by omega))) dX12_numbers_80 ?_
                refine j_lconst C 0 dX12_numbers_81 (by decide) ?_
                refine x_last C (i + 40) 160 (by decide) rfl rfl rfl (by omega) (by decide) dX12_numbers_82 ?_
                refine z_noJ (show B.2.1 117 (i + 40) = 0 from hB.2.1 117 (i + 40) (by decide)) ?_
                refine j_iinc C 4 (nI (i + 1)) [(4, .int (nI (i + 1))), (0, .ref (ad 98)), (1, .int 1), (2, .int p1), (3, .int (nI j))] dX12_numbers_83 rfl (nI_1 i) (by decide) rfl ?_
                refine j_goto C 64 dX12_numbers_86 (by decide) ?_
                refine j_lv [1, 2, 3, 4, 0] rfl ?_
                exact ih (i + 1) (by omega) (by omega)
          exact L (j - 0) 0 (by omega) (by omega)
        · show jj _ _ _ _ _ _ _ _ _ _ _ _ _ _ _ _ _ _ _ B 53 [(0, .ref (ad 98)), (1, .int 2), (2, .int p1), (3, .int p2)] [.int p1, .int 2, .ref (ad 115)]
          refine x_iast C 2 4 (by decide) rfl rfl rfl (by decide) (by decide) dX12_numbers_53 ?_
          refine j_aload_n C 0 0 dX12_numbers_54 rfl rfl ?_
          refine j_getP C 11 116 fX12_numbers_70 (by decide) rfl (by decide) rfl (show B.2.2 98 30 = 116 from hB.2.2 98 30 (by decide)) dX12_numbers_55 ?_
          refine j_iload_n C 1 1 dX12_numbers_58 rfl rfl ?_
          refine j_iload_n C 3 3 dX12_numbers_59 rfl rfl ?_
          refine x_iast C 2 4 (by decide) rfl rfl rfl (by decide) (by decide) dX12_numbers_60 ?_
          refine j_iconst C 0 dX12_numbers_61 (by decide) ?_
          refine j_istore C 4 [(4, .int 0), (0, .ref (ad 98)), (1, .int 2), (2, .int p1), (3, .int p2)] dX12_numbers_62 (by decide) rfl ?_
          obtain ⟨j, hja, hjb, rfl⟩ := z_n31 (x := p2) (a := 0) (b := 40) (by omega) (by omega) (by decide)
          show jj _ _ _ _ _ _ _ _ _ _ _ _ _ _ _ _ _ _ _ (wI (wI B 115 2 p1) 116 2 (nI j)) 64 [(4, .int 0), (0, .ref (ad 98)), (1, .int 2), (2, .int p1), (3, .int (nI j))] []
          refine j_lv [1, 2, 3, 4, 0] rfl ?_
          have L : ∀ (n i : Nat), 0 ≤ i → i + n = j → jj p l e (cn_R 1) s m args below meth c 0 0 Q 5 dC dI ad cA A (wI (wI B 115 2 p1) 116 2 (nI j)) 64 [(0, .ref (ad 98)), (1, .int 2), (2, .int p1), (3, .int (nI j)), (4, .int (nI i))] [] := by
            intro n
            induction n with
            | zero =>
              intro i h1 h2
              obtain rfl : j = i := by omega
              refine j_iload C 4 dX12_numbers_64 rfl ?_
              refine j_iload_n C 3 3 dX12_numbers_66 rfl rfl ?_
              refine z_icmp_ge C 89 (j : Int) (j : Int) (nI_toInt (n := j) (by omega)) (nI_toInt (n := j) (by omega)) dX12_numbers_67 (by decide) (fun h20 => ?_) (fun h20 => ?_)
              · refine j_iconst C 0 dX12_numbers_89 (by decide) ?_
                exact hret _ _ _ _ dX12_numbers_90 (by first | rfl | (unfold fo_numbers; rw [if_pos (by rw [nI_toInt (by omega)]; omega), nI_clamp (by omega)]; exact hrel) | (unfold fo_numbers; (repeat' split) <;> first | rfl | (exfalso; omega) | (exfalso; simp_all; done)))
              · exfalso; omega
            | succ n ih =>
              intro i h1 h2
              refine j_iload C 4 dX12_numbers_64 rfl ?_
              refine j_iload_n C 3 3 dX12_numbers_66 rfl rfl ?_
              refine z_icmp_ge C 89 (i : Int) (j : Int) (nI_toInt (n := i) (by omega)) (nI_toInt (n := j) (by omega)) dX12_numbers_67 (by decide) (fun h21 => ?_) (fun h21 => ?_)
              · exfalso; omega
              · refine j_aload_n C 0 0 dX12_numbers_70 rfl rfl ?_
                refine j_getP C 11 117 fX12_numbers_73 (by decide) rfl (by decide) rfl (show B.2.2 98 31 = 117 from hB.2.2 98 31 (by decide)) dX12_numbers_71 ?_
                refine j_bipush C 40 dX12_numbers_74 (by decide) ?_
                refine j_iload_n C 1 1 dX12_numbers_76 rfl rfl ?_
                refine z_imul C 80 (by decide) dX12_numbers_77 ?_
                refine j_iload C 4 dX12_numbers_78 rfl ?_
                refine z_iadd C (nI (i + 80)) ((nI_add 80 i).trans (congrArg nI (by omega))) dX12_numbers_80 ?_
                refine j_lconst C 0 dX12_numbers_81 (by decide) ?_
                refine x_last C (i + 80) 160 (by decide) rfl rfl rfl (by omega) (by decide) dX12_numbers_82 ?_
                refine z_noJ (show B.2.1 117 (i + 80) = 0 from hB.2.1 117 (i + 80) (by decide)) ?_
                refine j_iinc C 4 (nI (i + 1)) [(4, .int (nI (i + 1))), (0, .ref (ad 98)), (1, .int 2), (2, .int p1), (3, .int (nI j))] dX12_numbers_83 rfl (nI_1 i) (by decide) rfl ?_
                refine j_goto C 64 dX12_numbers_86 (by decide) ?_
                refine j_lv [1, 2, 3, 4, 0] rfl ?_
                exact ih (i + 1) (by omega) (by omega)
          exact L (j - 0) 0 (by omega) (by omega)
        · show jj _ _ _ _ _ _ _ _ _ _ _ _ _ _ _ _ _ _ _ B 53 [(0, .ref (ad 98)), (1, .int 3), (2, .int p1), (3, .int p2)] [.int p1, .int 3, .ref (ad 115)]
          refine x_iast C 3 4 (by decide) rfl rfl rfl (by decide) (by decide) dX12_numbers_53 ?_
          refine j_aload_n C 0 0 dX12_numbers_54 rfl rfl ?_
          refine j_getP C 11 116 fX12_numbers_70 (by decide) rfl (by decide) rfl (show B.2.2 98 30 = 116 from hB.2.2 98 30 (by decide)) dX12_numbers_55 ?_
          refine j_iload_n C 1 1 dX12_numbers_58 rfl rfl ?_
          refine j_iload_n C 3 3 dX12_numbers_59 rfl rfl ?_
          refine x_iast C 3 4 (by decide) rfl rfl rfl (by decide) (by decide) dX12_numbers_60 ?_
          refine j_iconst C 0 dX12_numbers_61 (by decide) ?_
          refine j_istore C 4 [(4, .int 0), (0, .ref (ad 98)), (1, .int 3), (2, .int p1), (3, .int p2)] dX12_numbers_62 (by decide) rfl ?_
          obtain ⟨j, hja, hjb, rfl⟩ := z_n31 (x := p2) (a := 0) (b := 40) (by omega) (by omega) (by decide)
          show jj _ _ _ _ _ _ _ _ _ _ _ _ _ _ _ _ _ _ _ (wI (wI B 115 3 p1) 116 3 (nI j)) 64 [(4, .int 0), (0, .ref (ad 98)), (1, .int 3), (2, .int p1), (3, .int (nI j))] []
          refine j_lv [1, 2, 3, 4, 0] rfl ?_
          have L : ∀ (n i : Nat), 0 ≤ i → i + n = j → jj p l e (cn_R 1) s m args below meth c 0 0 Q 5 dC dI ad cA A (wI (wI B 115 3 p1) 116 3 (nI j)) 64 [(0, .ref (ad 98)), (1, .int 3), (2, .int p1), (3, .int (nI j)), (4, .int (nI i))] [] := by
            intro n
            induction n with
            | zero =>
              intro i h1 h2
              obtain rfl : j = i := by omega
              refine j_iload C 4 dX12_numbers_64 rfl ?_
              refine j_iload_n C 3 3 dX12_numbers_66 rfl rfl ?_
              refine z_icmp_ge C 89 (j : Int) (j : Int) (nI_toInt (n := j) (by omega)) (nI_toInt (n := j) (by omega)) dX12_numbers_67 (by decide) (fun h22 => ?_) (fun h22 => ?_)
              · refine j_iconst C 0 dX12_numbers_89 (by decide) ?_
                exact hret _ _ _ _ dX12_numbers_90 (by first | rfl | (unfold fo_numbers; rw [if_pos (by rw [nI_toInt (by omega)]; omega), nI_clamp (by omega)]; exact hrel) | (unfold fo_numbers; (repeat' split) <;> first | rfl | (exfalso; omega) | (exfalso; simp_all; done)))
              · exfalso; omega
            | succ n ih =>
              intro i h1 h2
              refine j_iload C 4 dX12_numbers_64 rfl ?_
              refine j_iload_n C 3 3 dX12_numbers_66 rfl rfl ?_
              refine z_icmp_ge C 89 (i : Int) (j : Int) (nI_toInt (n := i) (by omega)) (nI_toInt (n := j) (by omega)) dX12_numbers_67 (by decide) (fun h23 => ?_) (fun h23 => ?_)
              · exfalso; omega
              · refine j_aload_n C 0 0 dX12_numbers_70 rfl rfl ?_
                refine j_getP C 11 117 fX12_numbers_73 (by decide) rfl (by decide) rfl (show B.2.2 98 31 = 117 from hB.2.2 98 31 (by decide)) dX12_numbers_71 ?_
                refine j_bipush C 40 dX12_numbers_74 (by decide) ?_
                refine j_iload_n C 1 1 dX12_numbers_76 rfl rfl ?_
                refine z_imul C 120 (by decide) dX12_numbers_77 ?_
                refine j_iload C 4 dX12_numbers_78 rfl ?_
                refine z_iadd C (nI (i + 120)) ((nI_add 120 i).trans (congrArg nI (by omega))) dX12_numbers_80 ?_
                refine j_lconst C 0 dX12_numbers_81 (by decide) ?_
                refine x_last C (i + 120) 160 (by decide) rfl rfl rfl (by omega) (by decide) dX12_numbers_82 ?_
                refine z_noJ (show B.2.1 117 (i + 120) = 0 from hB.2.1 117 (i + 120) (by decide)) ?_
                refine j_iinc C 4 (nI (i + 1)) [(4, .int (nI (i + 1))), (0, .ref (ad 98)), (1, .int 3), (2, .int p1), (3, .int (nI j))] dX12_numbers_83 rfl (nI_1 i) (by decide) rfl ?_
                refine j_goto C 64 dX12_numbers_86 (by decide) ?_
                refine j_lv [1, 2, 3, 4, 0] rfl ?_
                exact ih (i + 1) (by omega) (by omega)
          exact L (j - 0) 0 (by omega) (by omega)
set_option maxHeartbeats 4000000 in
set_option maxRecDepth 100000 in
theorem om_write {l : Launch} {dC : Nat → ClassId} {dI : Nat → Nat → Nat} {ad : Nat → Nat} {cA : Nat → ClassId} {B : mm_M} (hB : MB B) (p0 : Int32) (p1 : Int32) (p2 : Int64) : Cj l 2 yX12_write wsX12_write dC dI ad cA [.ref (ad 98), .int p0, .int p1, .long p2] B (fun r _ => r = fo_write p0 p1 p2) := by
  refine cj_of (cc := cX12_write) (maxL := 6) (lv := [(0, .ref (ad 98)), (1, .int p0), (2, .int p1), (3, .long p2)]) (by decide) rfl (Nat.le_of_ble_eq_true rfl) rfl ?_
  intro p e s m args below meth c A Q C hret
  refine j_aload_n C 0 0 dX12_write_0 rfl rfl ?_
  refine j_iconst C 0 dX12_write_1 (by decide) ?_
  refine j_putI C 11 qX12_write_1 rfl rfl (by decide) rfl (by decide) rfl dX12_write_2 ?_
  refine z_noI (show B.1 98 0 = 0 from hB.1 98 0 (by decide)) ?_
  refine j_aload_n C 0 0 dX12_write_5 rfl rfl ?_
  refine j_iload_n C 1 1 dX12_write_6 rfl rfl ?_
  refine j_callVi C (d := 1) (As := [.int p0]) (st := []) 98 (by decide) rfl (by decide) rfl (k101_X12_noTray hB p0) gX12_write_X12_noTray rfl hdX12_noTray (by decide) (Nat.le_of_ble_eq_true rfl) dX12_write_7 rfl (fun r M' hp => ?_)
  rcases hp with ⟨h1, rfl, rfl⟩ | ⟨⟨h2, h3⟩, rfl, rfl⟩ | ⟨⟨h4, h5, h6⟩, rfl, rfl⟩ | ⟨⟨h7, h8, h9⟩, rfl, rfl⟩ | ⟨⟨h10, h11, h12⟩, rfl, rfl⟩ | ⟨⟨h13, h14, h15⟩, rfl, rfl⟩
  · refine j_istore C 5 [(5, .int (-2)), (0, .ref (ad 98)), (1, .int p0), (2, .int p1), (3, .long p2)] dX12_write_10 (by decide) rfl ?_
    refine j_iload C 0 dX12_write_12 rfl ?_
    refine j_if_eq_f C 21 dX12_write_14 (by decide) (by decide) ?_
    refine j_iload C 0 dX12_write_17 rfl ?_
    refine z_i2l C (-2) (by decide) dX12_write_19 ?_
    exact hret _ _ _ _ dX12_write_20 (by first | rfl | (unfold fo_write; rw [if_pos (by rw [nI_toInt (by omega)]; omega), nI_clamp (by omega)]; exact hrel) | (unfold fo_write; (repeat' split) <;> first | rfl | (exfalso; omega) | (exfalso; simp_all; done)))
  · refine j_istore C 5 [(5, .int (-2)), (0, .ref (ad 98)), (1, .int p0), (2, .int p1), (3, .long p2)] dX12_write_10 (by decide) rfl ?_
    refine j_iload C 0 dX12_write_12 rfl ?_
    refine j_if_eq_f C 21 dX12_write_14 (by decide) (by decide) ?_
    refine j_iload C 0 dX12_write_17 rfl ?_
    refine z_i2l C (-2) (by decide) dX12_write_19 ?_
    exact hret _ _ _ _ dX12_write_20 (by first | rfl | (unfold fo_write; rw [if_pos (by rw [nI_toInt (by omega)]; omega), nI_clamp (by omega)]; exact hrel) | (unfold fo_write; (repeat' split) <;> first | rfl | (exfalso; omega) | (exfalso; simp_all; done)))
  · refine j_istore C 5 [(5, .int (-6)), (0, .ref (ad 98)), (1, .int p0), (2, .int p1), (3, .long p2)] dX12_write_10 (by decide) rfl ?_
    refine j_iload C 0 dX12_write_12 rfl ?_
    refine j_if_eq_f C 21 dX12_write_14 (by decide) (by decide) ?_
    refine j_iload C 0 dX12_write_17 rfl ?_
    refine z_i2l C (-6) (by decide) dX12_write_19 ?_
    exact hret _ _ _ _ dX12_write_20 (by first | rfl | (unfold fo_write; rw [if_pos (by rw [nI_toInt (by omega)]; omega), nI_clamp (by omega)]; exact hrel) | (unfold fo_write; (repeat' split) <;> first | rfl | (exfalso; omega) | (exfalso; simp_all; done)))
  · refine j_istore C 5 [(5, .int (-6)), (0, .ref (ad 98)), (1, .int p0), (2, .int p1), (3, .long p2)] dX12_write_10 (by decide) rfl ?_
    refine j_iload C 0 dX12_write_12 rfl ?_
    refine j_if_eq_f C 21 dX12_write_14 (by decide) (by decide) ?_
    refine j_iload C 0 dX12_write_17 rfl ?_
    refine z_i2l C (-6) (by decide) dX12_write_19 ?_
    exact hret _ _ _ _ dX12_write_20 (by first | rfl | (unfold fo_write; rw [if_pos (by rw [nI_toInt (by omega)]; omega), nI_clamp (by omega)]; exact hrel) | (unfold fo_write; (repeat' split) <;> first | rfl | (exfalso; omega) | (exfalso; simp_all; done)))
  · refine j_istore C 5 [(5, .int (-6)), (0, .ref (ad 98)), (1, .int p0), (2, .int p1), (3, .long p2)] dX12_write_10 (by decide) rfl ?_
    refine j_iload C 0 dX12_write_12 rfl ?_
    refine j_if_eq_f C 21 dX12_write_14 (by decide) (by decide) ?_
    refine j_iload C 0 dX12_write_17 rfl ?_
    refine z_i2l C (-6) (by decide) dX12_write_19 ?_
    exact hret _ _ _ _ dX12_write_20 (by first | rfl | (unfold fo_write; rw [if_pos (by rw [nI_toInt (by omega)]; omega), nI_clamp (by omega)]; exact hrel) | (unfold fo_write; (repeat' split) <;> first | rfl | (exfalso; omega) | (exfalso; simp_all; done)))
  · refine j_istore C 5 [(5, .int (-6)), (0, .ref (ad 98)), (1, .int p0), (2, .int p1), (3, .long p2)] dX12_write_10 (by decide) rfl ?_
    refine j_iload C 0 dX12_write_12 rfl ?_
    refine j_if_eq_f C 21 dX12_write_14 (by decide) (by decide) ?_
    refine j_iload C 0 dX12_write_17 rfl ?_
    refine z_i2l C (-6) (by decide) dX12_write_19 ?_
    exact hret _ _ _ _ dX12_write_20 (by first | rfl | (unfold fo_write; rw [if_pos (by rw [nI_toInt (by omega)]; omega), nI_clamp (by omega)]; exact hrel) | (unfold fo_write; (repeat' split) <;> first | rfl | (exfalso; omega) | (exfalso; simp_all; done)))
set_option maxHeartbeats 4000000 in
set_option maxRecDepth 100000 in
theorem om_lists {l : Launch} {dC : Nat → ClassId} {dI : Nat → Nat → Nat} {ad : Nat → Nat} {cA : Nat → ClassId} {B : mm_M} (hB : MB B) (p0 : Int32) : Ci l 2 yX12_lists wsX12_lists dC dI ad cA [.ref (ad 98), .int p0] B (fun r _ => r = fo_lists p0) := by
  refine ci_of (cc := cX12_lists) (maxL := 6) (ty := .int) (lv := [(0, .ref (ad 98)), (1, .int p0)]) (by decide) rfl (fun r M' hp => rfl) (Nat.le_of_ble_eq_true rfl) rfl ?_
  intro p e s m args below meth c A Q C hret
  refine j_aload_n C 0 0 dX12_lists_0 rfl rfl ?_
  refine j_iconst C 0 dX12_lists_1 (by decide) ?_
  refine j_putI C 11 qX12_lists_1 rfl rfl (by decide) rfl (by decide) rfl dX12_lists_2 ?_
  refine z_noI (show B.1 98 0 = 0 from hB.1 98 0 (by decide)) ?_
  refine j_aload_n C 0 0 dX12_lists_5 rfl rfl ?_
  refine j_iload_n C 1 1 dX12_lists_6 rfl rfl ?_
  refine j_callVi C (d := 1) (As := [.int p0]) (st := []) 98 (by decide) rfl (by decide) rfl (k101_X12_noTray hB p0) gX12_lists_X12_noTray rfl hdX12_noTray (by decide) (Nat.le_of_ble_eq_true rfl) dX12_lists_7 rfl (fun r M' hp => ?_)
  rcases hp with ⟨h1, rfl, rfl⟩ | ⟨⟨h2, h3⟩, rfl, rfl⟩ | ⟨⟨h4, h5, h6⟩, rfl, rfl⟩ | ⟨⟨h7, h8, h9⟩, rfl, rfl⟩ | ⟨⟨h10, h11, h12⟩, rfl, rfl⟩ | ⟨⟨h13, h14, h15⟩, rfl, rfl⟩
  · refine j_istore_n C 2 [(2, .int (-2)), (0, .ref (ad 98)), (1, .int p0)] dX12_lists_10 rfl (by decide) rfl ?_
    refine j_iload_n C 0 2 dX12_lists_11 rfl rfl ?_
    refine j_if_eq_f C 17 dX12_lists_12 (by decide) (by decide) ?_
    refine j_iload_n C 0 2 dX12_lists_15 rfl rfl ?_
    exact hret _ _ _ _ dX12_lists_16 (by first | rfl | (unfold fo_lists; rw [if_pos (by rw [nI_toInt (by omega)]; omega), nI_clamp (by omega)]; exact hrel) | (unfold fo_lists; (repeat' split) <;> first | rfl | (exfalso; omega) | (exfalso; simp_all; done)))
  · refine j_istore_n C 2 [(2, .int (-2)), (0, .ref (ad 98)), (1, .int p0)] dX12_lists_10 rfl (by decide) rfl ?_
    refine j_iload_n C 0 2 dX12_lists_11 rfl rfl ?_
    refine j_if_eq_f C 17 dX12_lists_12 (by decide) (by decide) ?_
    refine j_iload_n C 0 2 dX12_lists_15 rfl rfl ?_
    exact hret _ _ _ _ dX12_lists_16 (by first | rfl | (unfold fo_lists; rw [if_pos (by rw [nI_toInt (by omega)]; omega), nI_clamp (by omega)]; exact hrel) | (unfold fo_lists; (repeat' split) <;> first | rfl | (exfalso; omega) | (exfalso; simp_all; done)))
  · refine j_istore_n C 2 [(2, .int (-6)), (0, .ref (ad 98)), (1, .int p0)] dX12_lists_10 rfl (by decide) rfl ?_
    refine j_iload_n C 0 2 dX12_lists_11 rfl rfl ?_
    refine j_if_eq_f C 17 dX12_lists_12 (by decide) (by decide) ?_
    refine j_iload_n C 0 2 dX12_lists_15 rfl rfl ?_
    exact hret _ _ _ _ dX12_lists_16 (by first | rfl | (unfold fo_lists; rw [if_pos (by rw [nI_toInt (by omega)]; omega), nI_clamp (by omega)]; exact hrel) | (unfold fo_lists; (repeat' split) <;> first | rfl | (exfalso; omega) | (exfalso; simp_all; done)))
  · refine j_istore_n C 2 [(2, .int (-6)), (0, .ref (ad 98)), (1, .int p0)] dX12_lists_10 rfl (by decide) rfl ?_
    refine j_iload_n C 0 2 dX12_lists_11 rfl rfl ?_
    refine j_if_eq_f C 17 dX12_lists_12 (by decide) (by decide) ?_
    refine j_iload_n C 0 2 dX12_lists_15 rfl rfl ?_
    exact hret _ _ _ _ dX12_lists_16 (by first | rfl | (unfold fo_lists; rw [if_pos (by rw [nI_toInt (by omega)]; omega), nI_clamp (by omega)]; exact hrel) | (unfold fo_lists; (repeat' split) <;> first | rfl | (exfalso; omega) | (exfalso; simp_all; done)))
  · refine j_istore_n C 2 [(2, .int (-6)), (0, .ref (ad 98)), (1, .int p0)] dX12_lists_10 rfl (by decide) rfl ?_
    refine j_iload_n C 0 2 dX12_lists_11 rfl rfl ?_
    refine j_if_eq_f C 17 dX12_lists_12 (by decide) (by decide) ?_
    refine j_iload_n C 0 2 dX12_lists_15 rfl rfl ?_
    exact hret _ _ _ _ dX12_lists_16 (by first | rfl | (unfold fo_lists; rw [if_pos (by rw [nI_toInt (by omega)]; omega), nI_clamp (by omega)]; exact hrel) | (unfold fo_lists; (repeat' split) <;> first | rfl | (exfalso; omega) | (exfalso; simp_all; done)))
  · refine j_istore_n C 2 [(2, .int (-6)), (0, .ref (ad 98)), (1, .int p0)] dX12_lists_10 rfl (by decide) rfl ?_
    refine j_iload_n C 0 2 dX12_lists_11 rfl rfl ?_
    refine j_if_eq_f C 17 dX12_lists_12 (by decide) (by decide) ?_
    refine j_iload_n C 0 2 dX12_lists_15 rfl rfl ?_
    exact hret _ _ _ _ dX12_lists_16 (by first | rfl | (unfold fo_lists; rw [if_pos (by rw [nI_toInt (by omega)]; omega), nI_clamp (by omega)]; exact hrel) | (unfold fo_lists; (repeat' split) <;> first | rfl | (exfalso; omega) | (exfalso; simp_all; done)))
set_option maxHeartbeats 4000000 in
set_option maxRecDepth 100000 in
theorem om_image {l : Launch} {dC : Nat → ClassId} {dI : Nat → Nat → Nat} {ad : Nat → Nat} {cA : Nat → ClassId} {B : mm_M} (hB : MB B) (p0 : Int32) : Ci l 1 yX12_image wsX12_image dC dI ad cA [.ref (ad 98), .int p0] B (fun r _ => r = fo_image p0) := by
  refine ci_of (cc := cX12_image) (maxL := 3) (ty := .int) (lv := [(0, .ref (ad 98)), (1, .int p0)]) (by decide) rfl (fun r M' hp => rfl) (Nat.le_of_ble_eq_true rfl) rfl ?_
  intro p e s m args below meth c A Q C hret
  refine j_aload_n C 0 0 dX12_image_0 rfl rfl ?_
  refine j_iconst C 0 dX12_image_1 (by decide) ?_
  refine j_putI C 11 qX12_image_1 rfl rfl (by decide) rfl (by decide) rfl dX12_image_2 ?_
  refine z_noI (show B.1 98 0 = 0 from hB.1 98 0 (by decide)) ?_
  refine j_iload_n C 1 1 dX12_image_5 rfl rfl ?_
  refine z_i2l C p0.toInt64 rfl dX12_image_6 ?_
  refine j_lconst C 0 dX12_image_7 (by decide) ?_
  refine j_lconst C 1 dX12_image_8 (by decide) ?_
  refine j_callSi C (d := 0) (As := [.long p0.toInt64, .long 0, .long 1]) (st := []) (k186_X12_within hB p0) gX12_image_X12_within rfl hdX12_withins (by decide) (Nat.le_of_ble_eq_true rfl) dX12_image_9 rfl (fun r M' hp => ?_)
  rcases hp with ⟨h1, rfl, rfl⟩ | ⟨⟨h2, h3⟩, rfl, rfl⟩ | ⟨⟨h4, h5⟩, rfl, rfl⟩
  · refine j_if_ne_f C 18 dX12_image_12 (by decide) (by decide) ?_
    refine j_bipush C (-2) dX12_image_15 (by decide) ?_
    exact hret _ _ _ _ dX12_image_17 (by first | rfl | (unfold fo_image; rw [if_pos (by rw [nI_toInt (by omega)]; omega), nI_clamp (by omega)]; exact hrel) | (unfold fo_image; (repeat' split) <;> first | rfl | (exfalso; omega) | (exfalso; simp_all; done)))
  · refine j_if_ne_f C 18 dX12_image_12 (by decide) (by decide) ?_
    refine j_bipush C (-2) dX12_image_15 (by decide) ?_
    exact hret _ _ _ _ dX12_image_17 (by first | rfl | (unfold fo_image; rw [if_pos (by rw [nI_toInt (by omega)]; omega), nI_clamp (by omega)]; exact hrel) | (unfold fo_image; (repeat' split) <;> first | rfl | (exfalso; omega) | (exfalso; simp_all; done)))
  · refine j_if_ne_t C 18 dX12_image_12 (by decide) (by decide) ?_
    refine j_iconst C 0 dX12_image_18 (by decide) ?_
    refine j_istore_n C 2 [(2, .int 0), (0, .ref (ad 98)), (1, .int p0)] dX12_image_19 rfl (by decide) rfl ?_
    obtain ⟨j, hj, rfl⟩ := z_sp (x := p0) (b := 1) (by omega) (by omega)
    rcases (show j = 0 ∨ j = 1 by omega) with rfl | rfl
    · show jj _ _ _ _ _ _ _ _ _ _ _ _ _ _ _ _ _ _ _ B 20 [(2, .int 0), (0, .ref (ad 98)), (1, .int 0)] []
      refine j_lv [1, 2, 0] rfl ?_
      have L : ∀ (n i : Nat), 0 ≤ i → i + n = 1181 → jj p l e (cn_R 1) s m args below meth c 0 0 Q 3 dC dI ad cA A B 20 [(0, .ref (ad 98)), (1, .int 0), (2, .int (nI i))] [] := by
        intro n
        induction n with
        | zero =>
          intro i h1 h2
          obtain rfl : i = 1181 := by omega
          refine j_iload_n C 2 2 dX12_image_20 rfl rfl ?_
          refine j_sipush C 1181 dX12_image_21 (by decide) ?_
          refine j_icmp_ge_t C 53 dX12_image_24 (by decide) (by decide) ?_
          refine j_aload_n C 0 0 dX12_image_53 rfl rfl ?_
          refine j_getP C 11 100 fX12_image_17 (by decide) rfl (by decide) rfl (show B.2.2 98 2 = 100 from hB.2.2 98 2 (by decide)) dX12_image_54 ?_
          refine j_iload_n C 1 1 dX12_image_57 rfl rfl ?_
          refine j_iconst C 1 dX12_image_58 (by decide) ?_
          refine x_zast C 0 2 (by decide) rfl rfl rfl (by decide) (by decide) rfl dX12_image_59 ?_
          refine j_iconst C 0 dX12_image_60 (by decide) ?_
          exact hret _ _ _ _ dX12_image_61 (by first | rfl | (unfold fo_image; rw [if_pos (by rw [nI_toInt (by omega)]; omega), nI_clamp (by omega)]; exact hrel) | (unfold fo_image; (repeat' split) <;> first | rfl | (exfalso; omega) | (exfalso; simp_all; done)))
        | succ n ih =>
          intro i h1 h2
          refine j_iload_n C 2 2 dX12_image_20 rfl rfl ?_
          refine j_sipush C 1181 dX12_image_21 (by decide) ?_
          refine z_icmp_ge C 53 (i : Int) 1181 (nI_toInt (n := i) (by omega)) (by decide) dX12_image_24 (by decide) (fun h6 => ?_) (fun h6 => ?_)
          · exfalso; omega
          · refine j_aload_n C 0 0 dX12_image_27 rfl rfl ?_
            refine j_getP C 11 99 fX12_image_13 (by decide) rfl (by decide) rfl (show B.2.2 98 1 = 99 from hB.2.2 98 1 (by decide)) dX12_image_28 ?_
            refine j_sipush C 1181 dX12_image_31 (by decide) ?_
            refine j_iload_n C 1 1 dX12_image_34 rfl rfl ?_
            refine j_iconst C 1 dX12_image_35 (by decide) ?_
            refine z_iadd C 1 (by decide) dX12_image_36 ?_
            refine z_imul C 1181 (by decide) dX12_image_37 ?_
            refine j_iload_n C 2 2 dX12_image_38 rfl rfl ?_
            refine z_iadd C (nI (i + 1181)) ((nI_add 1181 i).trans (congrArg nI (by omega))) dX12_image_39 ?_
            refine j_aload_n C 0 0 dX12_image_40 rfl rfl ?_
            refine j_getP C 11 99 fX12_image_13 (by decide) rfl (by decide) rfl (show B.2.2 98 1 = 99 from hB.2.2 98 1 (by decide)) dX12_image_41 ?_
            refine j_iload_n C 2 2 dX12_image_44 rfl rfl ?_
            refine x_iald C i 3543 0 (by decide) rfl rfl rfl (by omega) (by decide) (show B.1 99 i = 0 from hB.1 99 i (by decide)) dX12_image_45 ?_
            refine x_iast C (i + 1181) 3543 (by decide) rfl rfl rfl (by omega) (by decide) dX12_image_46 ?_
            refine z_noI (show B.1 99 (i + 1181) = 0 from hB.1 99 (i + 1181) (by decide)) ?_
            refine j_iinc C 2 (nI (i + 1)) [(2, .int (nI (i + 1))), (0, .ref (ad 98)), (1, .int 0)] dX12_image_47 rfl (nI_1 i) (by decide) rfl ?_
            refine j_goto C 20 dX12_image_50 (by decide) ?_
            refine j_lv [1, 2, 0] rfl ?_
            exact ih (i + 1) (by omega) (by omega)
      exact L (1181 - 0) 0 (by omega) (by omega)
    · show jj _ _ _ _ _ _ _ _ _ _ _ _ _ _ _ _ _ _ _ B 20 [(2, .int 0), (0, .ref (ad 98)), (1, .int 1)] []
      refine j_lv [1, 2, 0] rfl ?_
      have L : ∀ (n i : Nat), 0 ≤ i → i + n = 1181 → jj p l e (cn_R 1) s m args below meth c 0 0 Q 3 dC dI ad cA A B 20 [(0, .ref (ad 98)), (1, .int 1), (2, .int (nI i))] [] := by
        intro n
        induction n with
        | zero =>
          intro i h1 h2
          obtain rfl : i = 1181 := by omega
          refine j_iload_n C 2 2 dX12_image_20 rfl rfl ?_
          refine j_sipush C 1181 dX12_image_21 (by decide) ?_
          refine j_icmp_ge_t C 53 dX12_image_24 (by decide) (by decide) ?_
          refine j_aload_n C 0 0 dX12_image_53 rfl rfl ?_
          refine j_getP C 11 100 fX12_image_17 (by decide) rfl (by decide) rfl (show B.2.2 98 2 = 100 from hB.2.2 98 2 (by decide)) dX12_image_54 ?_
          refine j_iload_n C 1 1 dX12_image_57 rfl rfl ?_
          refine j_iconst C 1 dX12_image_58 (by decide) ?_
          refine x_zast C 1 2 (by decide) rfl rfl rfl (by decide) (by decide) rfl dX12_image_59 ?_
          refine j_iconst C 0 dX12_image_60 (by decide) ?_
          exact hret _ _ _ _ dX12_image_61 (by first | rfl | (unfold fo_image; rw [if_pos (by rw [nI_toInt (by omega)]; omega), nI_clamp (by omega)]; exact hrel) | (unfold fo_image; (repeat' split) <;> first | rfl | (exfalso; omega) | (exfalso; simp_all; done)))
        | succ n ih =>
          intro i h1 h2
          refine j_iload_n C 2 2 dX12_image_20 rfl rfl ?_
          refine j_sipush C 1181 dX12_image_21 (by decide) ?_
          refine z_icmp_ge C 53 (i : Int) 1181 (nI_toInt (n := i) (by omega)) (by decide) dX12_image_24 (by decide) (fun h7 => ?_) (fun h7 => ?_)
          · exfalso; omega
          · refine j_aload_n C 0 0 dX12_image_27 rfl rfl ?_
            refine j_getP C 11 99 fX12_image_13 (by decide) rfl (by decide) rfl (show B.2.2 98 1 = 99 from hB.2.2 98 1 (by decide)) dX12_image_28 ?_
            refine j_sipush C 1181 dX12_image_31 (by decide) ?_
            refine j_iload_n C 1 1 dX12_image_34 rfl rfl ?_
            refine j_iconst C 1 dX12_image_35 (by decide) ?_
            refine z_iadd C 2 (by decide) dX12_image_36 ?_
            refine z_imul C 2362 (by decide) dX12_image_37 ?_
            refine j_iload_n C 2 2 dX12_image_38 rfl rfl ?_
            refine z_iadd C (nI (i + 2362)) ((nI_add 2362 i).trans (congrArg nI (by omega))) dX12_image_39 ?_
            refine j_aload_n C 0 0 dX12_image_40 rfl rfl ?_
            refine j_getP C 11 99 fX12_image_13 (by decide) rfl (by decide) rfl (show B.2.2 98 1 = 99 from hB.2.2 98 1 (by decide)) dX12_image_41 ?_
            refine j_iload_n C 2 2 dX12_image_44 rfl rfl ?_
            refine x_iald C i 3543 0 (by decide) rfl rfl rfl (by omega) (by decide) (show B.1 99 i = 0 from hB.1 99 i (by decide)) dX12_image_45 ?_
            refine x_iast C (i + 2362) 3543 (by decide) rfl rfl rfl (by omega) (by decide) dX12_image_46 ?_
            refine z_noI (show B.1 99 (i + 2362) = 0 from hB.1 99 (i + 2362) (by decide)) ?_
            refine j_iinc C 2 (nI (i + 1)) [(2, .int (nI (i + 1))), (0, .ref (ad 98)), (1, .int 1)] dX12_image_47 rfl (nI_1 i) (by decide) rfl ?_
            refine j_goto C 20 dX12_image_50 (by decide) ?_
            refine j_lv [1, 2, 0] rfl ?_
            exact ih (i + 1) (by omega) (by omega)
      exact L (1181 - 0) 0 (by omega) (by omega)
set_option maxHeartbeats 4000000 in
set_option maxRecDepth 100000 in
theorem om_restore {l : Launch} {dC : Nat → ClassId} {dI : Nat → Nat → Nat} {ad : Nat → Nat} {cA : Nat → ClassId} {B : mm_M} (hB : MB B) (p0 : Int32) : Ci l 1 yX12_restore wsX12_restore dC dI ad cA [.ref (ad 98), .int p0] B (fun r _ => r = fo_restore p0) := by
  refine ci_of (cc := cX12_restore) (maxL := 3) (ty := .int) (lv := [(0, .ref (ad 98)), (1, .int p0)]) (by decide) rfl (fun r M' hp => rfl) (Nat.le_of_ble_eq_true rfl) rfl ?_
  intro p e s m args below meth c A Q C hret
  refine j_aload_n C 0 0 dX12_restore_0 rfl rfl ?_
  refine j_iconst C 0 dX12_restore_1 (by decide) ?_
  refine j_putI C 11 qX12_restore_1 rfl rfl (by decide) rfl (by decide) rfl dX12_restore_2 ?_
  refine z_noI (show B.1 98 0 = 0 from hB.1 98 0 (by decide)) ?_
  refine j_iload_n C 1 1 dX12_restore_5 rfl rfl ?_
  refine z_i2l C p0.toInt64 rfl dX12_restore_6 ?_
  refine j_lconst C 0 dX12_restore_7 (by decide) ?_
  refine j_lconst C 1 dX12_restore_8 (by decide) ?_
  refine j_callSi C (d := 0) (As := [.long p0.toInt64, .long 0, .long 1]) (st := []) (k186_X12_within hB p0) gX12_restore_X12_within rfl hdX12_withins (by decide) (Nat.le_of_ble_eq_true rfl) dX12_restore_9 rfl (fun r M' hp => ?_)
  rcases hp with ⟨h1, rfl, rfl⟩ | ⟨⟨h2, h3⟩, rfl, rfl⟩ | ⟨⟨h4, h5⟩, rfl, rfl⟩
  · refine j_if_ne_f C 18 dX12_restore_12 (by decide) (by decide) ?_
    refine j_bipush C (-2) dX12_restore_15 (by decide) ?_
    exact hret _ _ _ _ dX12_restore_17 (by first | rfl | (unfold fo_restore; rw [if_pos (by rw [nI_toInt (by omega)]; omega), nI_clamp (by omega)]; exact hrel) | (unfold fo_restore; (repeat' split) <;> first | rfl | (exfalso; omega) | (exfalso; simp_all; done)))
  · refine j_if_ne_f C 18 dX12_restore_12 (by decide) (by decide) ?_
    refine j_bipush C (-2) dX12_restore_15 (by decide) ?_
    exact hret _ _ _ _ dX12_restore_17 (by first | rfl | (unfold fo_restore; rw [if_pos (by rw [nI_toInt (by omega)]; omega), nI_clamp (by omega)]; exact hrel) | (unfold fo_restore; (repeat' split) <;> first | rfl | (exfalso; omega) | (exfalso; simp_all; done)))
  · refine j_if_ne_t C 18 dX12_restore_12 (by decide) (by decide) ?_
    refine j_aload_n C 0 0 dX12_restore_18 rfl rfl ?_
    refine j_getP C 11 100 fX12_restore_17 (by decide) rfl (by decide) rfl (show B.2.2 98 2 = 100 from hB.2.2 98 2 (by decide)) dX12_restore_19 ?_
    refine j_iload_n C 1 1 dX12_restore_22 rfl rfl ?_
    obtain ⟨j, hj, rfl⟩ := z_sp (x := p0) (b := 1) (by omega) (by omega)
    rcases (show j = 0 ∨ j = 1 by omega) with rfl | rfl
    · show jj _ _ _ _ _ _ _ _ _ _ _ _ _ _ _ _ _ _ _ B 23 [(0, .ref (ad 98)), (1, .int 0)] [.int 0, .ref (ad 100)]
      refine x_zald C 0 2 0 (by decide) rfl rfl rfl (by decide) (by decide) (show B.1 100 0 = 0 from hB.1 100 0 (by decide)) dX12_restore_23 ?_
      refine j_if_ne_f C 30 dX12_restore_24 (by decide) (by decide) ?_
      refine j_bipush C (-5) dX12_restore_27 (by decide) ?_
      exact hret _ _ _ _ dX12_restore_29 (by first | rfl | (unfold fo_restore; rw [if_pos (by rw [nI_toInt (by omega)]; omega), nI_clamp (by omega)]; exact hrel) | (unfold fo_restore; (repeat' split) <;> first | rfl | (exfalso; omega) | (exfalso; simp_all; done)))
    · show jj _ _ _ _ _ _ _ _ _ _ _ _ _ _ _ _ _ _ _ B 23 [(0, .ref (ad 98)), (1, .int 1)] [.int 1, .ref (ad 100)]
      refine x_zald C 1 2 0 (by decide) rfl rfl rfl (by decide) (by decide) (show B.1 100 1 = 0 from hB.1 100 1 (by decide)) dX12_restore_23 ?_
      refine j_if_ne_f C 30 dX12_restore_24 (by decide) (by decide) ?_
      refine j_bipush C (-5) dX12_restore_27 (by decide) ?_
      exact hret _ _ _ _ dX12_restore_29 (by first | rfl | (unfold fo_restore; rw [if_pos (by rw [nI_toInt (by omega)]; omega), nI_clamp (by omega)]; exact hrel) | (unfold fo_restore; (repeat' split) <;> first | rfl | (exfalso; omega) | (exfalso; simp_all; done)))
set_option maxHeartbeats 4000000 in
set_option maxRecDepth 100000 in
theorem k262_X12_oddsAll {l : Launch} {dC : Nat → ClassId} {dI : Nat → Nat → Nat} {ad : Nat → Nat} {cA : Nat → ClassId} {B : mm_M} (hB : MB B) : Ci l 0 yX12_oddsAll wsX12_oddsAll dC dI ad cA [.ref (ad 98)] B (fun r M' => 0 = r ∧ B = M') := by
  refine ci_of (cc := cX12_oddsAll) (maxL := 3) (ty := .int) (lv := [(0, .ref (ad 98))]) (by decide) rfl (fun r M' hp => rfl) (Nat.le_of_ble_eq_true rfl) rfl ?_
  intro p e s m args below meth c A Q C hret
  refine j_iconst C 0 dX12_oddsAll_0 (by decide) ?_
  refine j_istore_n C 1 [(1, .int 0), (0, .ref (ad 98))] dX12_oddsAll_1 rfl (by decide) rfl ?_
  refine j_iconst C 0 dX12_oddsAll_2 (by decide) ?_
  refine j_istore_n C 2 [(2, .int 0), (1, .int 0), (0, .ref (ad 98))] dX12_oddsAll_3 rfl (by decide) rfl ?_
  refine j_iload_n C 0 2 dX12_oddsAll_4 rfl rfl ?_
  refine j_aload_n C 2 0 dX12_oddsAll_5 rfl rfl ?_
  refine j_getP C 11 99 fX12_oddsAll_13 (by decide) rfl (by decide) rfl (show B.2.2 98 1 = 99 from hB.2.2 98 1 (by decide)) dX12_oddsAll_6 ?_
  refine j_iconst C 1 dX12_oddsAll_9 (by decide) ?_
  refine x_iald C 1 3543 0 (by decide) rfl rfl rfl (by decide) (by decide) (show B.1 99 1 = 0 from hB.1 99 1 (by decide)) dX12_oddsAll_10 ?_
  refine j_icmp_ge_t C 32 dX12_oddsAll_11 (by decide) (by decide) ?_
  refine j_iload_n C 1 1 dX12_oddsAll_32 rfl rfl ?_
  exact hret _ _ _ _ dX12_oddsAll_33 ⟨rfl, rfl⟩
set_option maxHeartbeats 4000000 in
set_option maxRecDepth 100000 in
theorem om_count {l : Launch} {dC : Nat → ClassId} {dI : Nat → Nat → Nat} {ad : Nat → Nat} {cA : Nat → ClassId} {B : mm_M} (hB : MB B) (p0 : Int32) : Ci l 4 yX12_count wsX12_count dC dI ad cA [.ref (ad 98), .int p0] B (fun r _ => r = fo_count p0) := by
  refine ci_of (cc := cX12_count) (maxL := 2) (ty := .int) (lv := [(0, .ref (ad 98)), (1, .int p0)]) (by decide) rfl (fun r M' hp => rfl) (Nat.le_of_ble_eq_true rfl) rfl ?_
  intro p e s m args below meth c A Q C hret
  refine j_aload_n C 0 0 dX12_count_0 rfl rfl ?_
  refine j_iconst C 0 dX12_count_1 (by decide) ?_
  refine j_putI C 11 qX12_count_1 rfl rfl (by decide) rfl (by decide) rfl dX12_count_2 ?_
  refine z_noI (show B.1 98 0 = 0 from hB.1 98 0 (by decide)) ?_
  refine j_iload_n C 1 1 dX12_count_5 rfl rfl ?_
  rcases (show p0.toInt < 0 ∨ 11 < p0.toInt ∨ (0 ≤ p0.toInt ∧ p0.toInt ≤ 11) by omega) with h1 | h1 | ⟨h1a, h1b⟩
  · refine j_tableOut C 161 dX12_count_6 (Or.inl (by omega)) (by decide) ?_
    refine j_iconst C (-1) dX12_count_161 (by decide) ?_
    exact hret _ _ _ _ dX12_count_162 (by first | rfl | (unfold fo_count; rw [if_pos (by rw [nI_toInt (by omega)]; omega), nI_clamp (by omega)]; exact hrel) | (unfold fo_count; (repeat' split) <;> first | rfl | (exfalso; omega) | (exfalso; simp_all; done)))
  · refine j_tableOut C 161 dX12_count_6 (Or.inr (by omega)) (by decide) ?_
    refine j_iconst C (-1) dX12_count_161 (by decide) ?_
    exact hret _ _ _ _ dX12_count_162 (by first | rfl | (unfold fo_count; rw [if_pos (by rw [nI_toInt (by omega)]; omega), nI_clamp (by omega)]; exact hrel) | (unfold fo_count; (repeat' split) <;> first | rfl | (exfalso; omega) | (exfalso; simp_all; done)))
  · obtain ⟨j, hj, rfl⟩ := z_sp (x := p0) (b := 11) (by omega) (by omega)
    rcases (show j = 0 ∨ j = 1 ∨ j = 2 ∨ j = 3 ∨ j = 4 ∨ j = 5 ∨ j = 6 ∨ j = 7 ∨ j = 8 ∨ j = 9 ∨ j = 10 ∨ j = 11 by omega) with rfl | rfl | rfl | rfl | rfl | rfl | rfl | rfl | rfl | rfl | rfl | rfl
    · show jj _ _ _ _ _ _ _ _ _ _ _ _ _ _ _ _ _ _ _ B 6 [(0, .ref (ad 98)), (1, .int 0)] [.int 0]
      refine j_tableIn C (off := 62) 68 dX12_count_6 (by decide) (by decide) (by decide) (by decide) ?_
      refine j_aload_n C 0 0 dX12_count_68 rfl rfl ?_
      refine j_getP C 11 99 fX12_count_13 (by decide) rfl (by decide) rfl (show B.2.2 98 1 = 99 from hB.2.2 98 1 (by decide)) dX12_count_69 ?_
      refine j_bipush C 26 dX12_count_72 (by decide) ?_
      refine x_iald C 26 3543 0 (by decide) rfl rfl rfl (by decide) (by decide) (show B.1 99 26 = 0 from hB.1 99 26 (by decide)) dX12_count_74 ?_
      exact hret _ _ _ _ dX12_count_75 (by first | rfl | (unfold fo_count; rw [if_pos (by rw [nI_toInt (by omega)]; omega), nI_clamp (by omega)]; exact hrel) | (unfold fo_count; (repeat' split) <;> first | rfl | (exfalso; omega) | (exfalso; simp_all; done)))
    · show jj _ _ _ _ _ _ _ _ _ _ _ _ _ _ _ _ _ _ _ B 6 [(0, .ref (ad 98)), (1, .int 1)] [.int 1]
      refine j_tableIn C (off := 70) 76 dX12_count_6 (by decide) (by decide) (by decide) (by decide) ?_
      refine j_aload_n C 0 0 dX12_count_76 rfl rfl ?_
      refine j_getP C 11 99 fX12_count_13 (by decide) rfl (by decide) rfl (show B.2.2 98 1 = 99 from hB.2.2 98 1 (by decide)) dX12_count_77 ?_
      refine j_iconst C 1 dX12_count_80 (by decide) ?_
      refine x_iald C 1 3543 0 (by decide) rfl rfl rfl (by decide) (by decide) (show B.1 99 1 = 0 from hB.1 99 1 (by decide)) dX12_count_81 ?_
      exact hret _ _ _ _ dX12_count_82 (by first | rfl | (unfold fo_count; rw [if_pos (by rw [nI_toInt (by omega)]; omega), nI_clamp (by omega)]; exact hrel) | (unfold fo_count; (repeat' split) <;> first | rfl | (exfalso; omega) | (exfalso; simp_all; done)))
    · show jj _ _ _ _ _ _ _ _ _ _ _ _ _ _ _ _ _ _ _ B 6 [(0, .ref (ad 98)), (1, .int 2)] [.int 2]
      refine j_tableIn C (off := 77) 83 dX12_count_6 (by decide) (by decide) (by decide) (by decide) ?_
      refine j_aload_n C 0 0 dX12_count_83 rfl rfl ?_
      refine j_getP C 11 99 fX12_count_13 (by decide) rfl (by decide) rfl (show B.2.2 98 1 = 99 from hB.2.2 98 1 (by decide)) dX12_count_84 ?_
      refine j_bipush C 27 dX12_count_87 (by decide) ?_
      refine x_iald C 27 3543 0 (by decide) rfl rfl rfl (by decide) (by decide) (show B.1 99 27 = 0 from hB.1 99 27 (by decide)) dX12_count_89 ?_
      exact hret _ _ _ _ dX12_count_90 (by first | rfl | (unfold fo_count; rw [if_pos (by rw [nI_toInt (by omega)]; omega), nI_clamp (by omega)]; exact hrel) | (unfold fo_count; (repeat' split) <;> first | rfl | (exfalso; omega) | (exfalso; simp_all; done)))
    · show jj _ _ _ _ _ _ _ _ _ _ _ _ _ _ _ _ _ _ _ B 6 [(0, .ref (ad 98)), (1, .int 3)] [.int 3]
      refine j_tableIn C (off := 85) 91 dX12_count_6 (by decide) (by decide) (by decide) (by decide) ?_
      refine j_aload_n C 0 0 dX12_count_91 rfl rfl ?_
      refine j_getP C 11 99 fX12_count_13 (by decide) rfl (by decide) rfl (show B.2.2 98 1 = 99 from hB.2.2 98 1 (by decide)) dX12_count_92 ?_
      refine j_bipush C 28 dX12_count_95 (by decide) ?_
      refine x_iald C 28 3543 0 (by decide) rfl rfl rfl (by decide) (by decide) (show B.1 99 28 = 0 from hB.1 99 28 (by decide)) dX12_count_97 ?_
      exact hret _ _ _ _ dX12_count_98 (by first | rfl | (unfold fo_count; rw [if_pos (by rw [nI_toInt (by omega)]; omega), nI_clamp (by omega)]; exact hrel) | (unfold fo_count; (repeat' split) <;> first | rfl | (exfalso; omega) | (exfalso; simp_all; done)))
    · show jj _ _ _ _ _ _ _ _ _ _ _ _ _ _ _ _ _ _ _ B 6 [(0, .ref (ad 98)), (1, .int 4)] [.int 4]
      refine j_tableIn C (off := 93) 99 dX12_count_6 (by decide) (by decide) (by decide) (by decide) ?_
      refine j_aload_n C 0 0 dX12_count_99 rfl rfl ?_
      refine j_callVi C (d := 3) (As := []) (st := []) 98 (by decide) rfl (by decide) rfl (k74_X12_isShut hB) gX12_count_X12_isShut rfl hdX12_isShut (by decide) (Nat.le_of_ble_eq_true rfl) dX12_count_100 rfl (fun r M' hp => ?_)
      obtain ⟨rfl, rfl⟩ := hp
      refine j_if_eq_f C 110 dX12_count_103 (by decide) (by decide) ?_
      refine j_iconst C 1 dX12_count_106 (by decide) ?_
      refine j_goto C 111 dX12_count_107 (by decide) ?_
      exact hret _ _ _ _ dX12_count_111 (by first | rfl | (unfold fo_count; rw [if_pos (by rw [nI_toInt (by omega)]; omega), nI_clamp (by omega)]; exact hrel) | (unfold fo_count; (repeat' split) <;> first | rfl | (exfalso; omega) | (exfalso; simp_all; done)))
    · show jj _ _ _ _ _ _ _ _ _ _ _ _ _ _ _ _ _ _ _ B 6 [(0, .ref (ad 98)), (1, .int 5)] [.int 5]
      refine j_tableIn C (off := 106) 112 dX12_count_6 (by decide) (by decide) (by decide) (by decide) ?_
      refine j_aload_n C 0 0 dX12_count_112 rfl rfl ?_
      refine j_getP C 11 99 fX12_count_13 (by decide) rfl (by decide) rfl (show B.2.2 98 1 = 99 from hB.2.2 98 1 (by decide)) dX12_count_113 ?_
      refine j_bipush C 29 dX12_count_116 (by decide) ?_
      refine x_iald C 29 3543 0 (by decide) rfl rfl rfl (by decide) (by decide) (show B.1 99 29 = 0 from hB.1 99 29 (by decide)) dX12_count_118 ?_
      exact hret _ _ _ _ dX12_count_119 (by first | rfl | (unfold fo_count; rw [if_pos (by rw [nI_toInt (by omega)]; omega), nI_clamp (by omega)]; exact hrel) | (unfold fo_count; (repeat' split) <;> first | rfl | (exfalso; omega) | (exfalso; simp_all; done)))
    · show jj _ _ _ _ _ _ _ _ _ _ _ _ _ _ _ _ _ _ _ B 6 [(0, .ref (ad 98)), (1, .int 6)] [.int 6]
      refine j_tableIn C (off := 114) 120 dX12_count_6 (by decide) (by decide) (by decide) (by decide) ?_
      refine j_aload_n C 0 0 dX12_count_120 rfl rfl ?_
      refine j_getP C 11 99 fX12_count_13 (by decide) rfl (by decide) rfl (show B.2.2 98 1 = 99 from hB.2.2 98 1 (by decide)) dX12_count_121 ?_
      refine j_bipush C 30 dX12_count_124 (by decide) ?_
      refine x_iald C 30 3543 0 (by decide) rfl rfl rfl (by decide) (by decide) (show B.1 99 30 = 0 from hB.1 99 30 (by decide)) dX12_count_126 ?_
      exact hret _ _ _ _ dX12_count_127 (by first | rfl | (unfold fo_count; rw [if_pos (by rw [nI_toInt (by omega)]; omega), nI_clamp (by omega)]; exact hrel) | (unfold fo_count; (repeat' split) <;> first | rfl | (exfalso; omega) | (exfalso; simp_all; done)))
    · show jj _ _ _ _ _ _ _ _ _ _ _ _ _ _ _ _ _ _ _ B 6 [(0, .ref (ad 98)), (1, .int 7)] [.int 7]
      refine j_tableIn C (off := 122) 128 dX12_count_6 (by decide) (by decide) (by decide) (by decide) ?_
      refine j_aload_n C 0 0 dX12_count_128 rfl rfl ?_
      refine j_getP C 11 99 fX12_count_13 (by decide) rfl (by decide) rfl (show B.2.2 98 1 = 99 from hB.2.2 98 1 (by decide)) dX12_count_129 ?_
      refine j_bipush C 31 dX12_count_132 (by decide) ?_
      refine x_iald C 31 3543 0 (by decide) rfl rfl rfl (by decide) (by decide) (show B.1 99 31 = 0 from hB.1 99 31 (by decide)) dX12_count_134 ?_
      exact hret _ _ _ _ dX12_count_135 (by first | rfl | (unfold fo_count; rw [if_pos (by rw [nI_toInt (by omega)]; omega), nI_clamp (by omega)]; exact hrel) | (unfold fo_count; (repeat' split) <;> first | rfl | (exfalso; omega) | (exfalso; simp_all; done)))
    · show jj _ _ _ _ _ _ _ _ _ _ _ _ _ _ _ _ _ _ _ B 6 [(0, .ref (ad 98)), (1, .int 8)] [.int 8]
      refine j_tableIn C (off := 130) 136 dX12_count_6 (by decide) (by decide) (by decide) (by decide) ?_
      refine j_aload_n C 0 0 dX12_count_136 rfl rfl ?_
      refine j_callVi C (d := 0) (As := []) (st := []) 98 (by decide) rfl (by decide) rfl (k262_X12_oddsAll hB) gX12_count_X12_oddsAll rfl hdX12_oddsAll (by decide) (Nat.le_of_ble_eq_true rfl) dX12_count_137 rfl (fun r M' hp => ?_)
      obtain ⟨rfl, rfl⟩ := hp
      exact hret _ _ _ _ dX12_count_140 (by first | rfl | (unfold fo_count; rw [if_pos (by rw [nI_toInt (by omega)]; omega), nI_clamp (by omega)]; exact hrel) | (unfold fo_count; (repeat' split) <;> first | rfl | (exfalso; omega) | (exfalso; simp_all; done)))
    · show jj _ _ _ _ _ _ _ _ _ _ _ _ _ _ _ _ _ _ _ B 6 [(0, .ref (ad 98)), (1, .int 9)] [.int 9]
      refine j_tableIn C (off := 135) 141 dX12_count_6 (by decide) (by decide) (by decide) (by decide) ?_
      refine j_aload_n C 0 0 dX12_count_141 rfl rfl ?_
      refine j_getP C 11 99 fX12_count_13 (by decide) rfl (by decide) rfl (show B.2.2 98 1 = 99 from hB.2.2 98 1 (by decide)) dX12_count_142 ?_
      refine j_bipush C 49 dX12_count_145 (by decide) ?_
      refine x_iald C 49 3543 0 (by decide) rfl rfl rfl (by decide) (by decide) (show B.1 99 49 = 0 from hB.1 99 49 (by decide)) dX12_count_147 ?_
      exact hret _ _ _ _ dX12_count_148 (by first | rfl | (unfold fo_count; rw [if_pos (by rw [nI_toInt (by omega)]; omega), nI_clamp (by omega)]; exact hrel) | (unfold fo_count; (repeat' split) <;> first | rfl | (exfalso; omega) | (exfalso; simp_all; done)))
    · show jj _ _ _ _ _ _ _ _ _ _ _ _ _ _ _ _ _ _ _ B 6 [(0, .ref (ad 98)), (1, .int 10)] [.int 10]
      refine j_tableIn C (off := 143) 149 dX12_count_6 (by decide) (by decide) (by decide) (by decide) ?_
      refine j_aload_n C 0 0 dX12_count_149 rfl rfl ?_
      refine j_getI C 11 0 fX12_count_80 (by decide) rfl (by decide) rfl (show B.1 98 5 = 0 from hB.1 98 5 (by decide)) dX12_count_150 ?_
      exact hret _ _ _ _ dX12_count_153 (by first | rfl | (unfold fo_count; rw [if_pos (by rw [nI_toInt (by omega)]; omega), nI_clamp (by omega)]; exact hrel) | (unfold fo_count; (repeat' split) <;> first | rfl | (exfalso; omega) | (exfalso; simp_all; done)))
    · show jj _ _ _ _ _ _ _ _ _ _ _ _ _ _ _ _ _ _ _ B 6 [(0, .ref (ad 98)), (1, .int 11)] [.int 11]
      refine j_tableIn C (off := 148) 154 dX12_count_6 (by decide) (by decide) (by decide) (by decide) ?_
      refine j_aload_n C 0 0 dX12_count_154 rfl rfl ?_
      refine j_getP C 11 99 fX12_count_13 (by decide) rfl (by decide) rfl (show B.2.2 98 1 = 99 from hB.2.2 98 1 (by decide)) dX12_count_155 ?_
      refine j_iconst C 0 dX12_count_158 (by decide) ?_
      refine x_iald C 0 3543 0 (by decide) rfl rfl rfl (by decide) (by decide) (show B.1 99 0 = 0 from hB.1 99 0 (by decide)) dX12_count_159 ?_
      exact hret _ _ _ _ dX12_count_160 (by first | rfl | (unfold fo_count; rw [if_pos (by rw [nI_toInt (by omega)]; omega), nI_clamp (by omega)]; exact hrel) | (unfold fo_count; (repeat' split) <;> first | rfl | (exfalso; omega) | (exfalso; simp_all; done)))
set_option maxHeartbeats 4000000 in
set_option maxRecDepth 100000 in
theorem k266_X12_draw {l : Launch} {dC : Nat → ClassId} {dI : Nat → Nat → Nat} {ad : Nat → Nat} {cA : Nat → ClassId} {B : mm_M} (hB : MB B) (p0 : Int32) (p1 : Int32) : Ci l 0 yX12_draw wsX12_draw dC dI ad cA [.ref (ad 98), .int 5] (wI (wI B 99 31 p0) 99 32 p1) (fun r M' => (sr (sx p1) 5) = r ∧ (wI (wI B 99 31 p0) 99 32 (sx p1)) = M') := by
  refine ci_of (cc := cX12_draw) (maxL := 2) (ty := .int) (lv := [(0, .ref (ad 98)), (1, .int 5)]) (by decide) rfl (fun r M' hp => rfl) (Nat.le_of_ble_eq_true rfl) rfl ?_
  intro p e s m args below meth c A Q C hret
  refine j_aload_n C 0 0 dX12_draw_0 rfl rfl ?_
  refine j_getP C 11 99 fX12_draw_13 (by decide) rfl (by decide) rfl (show B.2.2 98 1 = 99 from hB.2.2 98 1 (by decide)) dX12_draw_1 ?_
  refine j_bipush C 32 dX12_draw_4 (by decide) ?_
  refine j_ldcw C 1103515245 dX12_draw_6 (by decide +kernel) ?_
  refine j_aload_n C 0 0 dX12_draw_9 rfl rfl ?_
  refine j_getP C 11 99 fX12_draw_13 (by decide) rfl (by decide) rfl (show B.2.2 98 1 = 99 from hB.2.2 98 1 (by decide)) dX12_draw_10 ?_
  refine j_bipush C 32 dX12_draw_13 (by decide) ?_
  refine x_iald C 32 3543 p1 (by decide) rfl rfl rfl (by decide) (by decide) rfl dX12_draw_15 ?_
  refine z_imul C ((1103515245 : Int32) * p1) rfl dX12_draw_16 ?_
  refine j_sipush C 12345 dX12_draw_17 (by decide) ?_
  refine z_iadd C (sx p1) rfl dX12_draw_20 ?_
  refine x_iast C 32 3543 (by decide) rfl rfl rfl (by decide) (by decide) dX12_draw_21 ?_
  refine j_M (M' := (wI (wI B 99 31 p0) 99 32 (sx p1))) (wI_w _ _ _ _ _) ?_
  refine j_aload_n C 0 0 dX12_draw_22 rfl rfl ?_
  refine j_getP C 11 99 fX12_draw_13 (by decide) rfl (by decide) rfl (show B.2.2 98 1 = 99 from hB.2.2 98 1 (by decide)) dX12_draw_23 ?_
  refine j_bipush C 32 dX12_draw_26 (by decide) ?_
  refine x_iald C 32 3543 (sx p1) (by decide) rfl rfl rfl (by decide) (by decide) rfl dX12_draw_28 ?_
  refine j_bipush C 16 dX12_draw_29 (by decide) ?_
  refine z_iushr C (su (sx p1)) rfl dX12_draw_31 ?_
  refine j_iload_n C 1 1 dX12_draw_32 rfl rfl ?_
  refine z_irem C (sr (sx p1) 5) rfl (by decide) dX12_draw_33 ?_
  exact hret _ _ _ _ dX12_draw_34 ⟨rfl, rfl⟩
set_option maxHeartbeats 4000000 in
set_option maxRecDepth 100000 in
theorem k267_X12_draw {l : Launch} {dC : Nat → ClassId} {dI : Nat → Nat → Nat} {ad : Nat → Nat} {cA : Nat → ClassId} {B : mm_M} (hB : MB B) (p0 : Int32) (p1 : Int32) : Ci l 0 yX12_draw wsX12_draw dC dI ad cA [.ref (ad 98), .int 6] (wI (wI B 99 31 p0) 99 32 (sx p1)) (fun r M' => (sr (sx (sx p1)) 6) = r ∧ (wI (wI B 99 31 p0) 99 32 (sx (sx p1))) = M') := by
  refine ci_of (cc := cX12_draw) (maxL := 2) (ty := .int) (lv := [(0, .ref (ad 98)), (1, .int 6)]) (by decide) rfl (fun r M' hp => rfl) (Nat.le_of_ble_eq_true rfl) rfl ?_
  intro p e s m args below meth c A Q C hret
  refine j_aload_n C 0 0 dX12_draw_0 rfl rfl ?_
  refine j_getP C 11 99 fX12_draw_13 (by decide) rfl (by decide) rfl (show B.2.2 98 1 = 99 from hB.2.2 98 1 (by decide)) dX12_draw_1 ?_
  refine j_bipush C 32 dX12_draw_4 (by decide) ?_
  refine j_ldcw C 1103515245 dX12_draw_6 (by decide +kernel) ?_
  refine j_aload_n C 0 0 dX12_draw_9 rfl rfl ?_
  refine j_getP C 11 99 fX12_draw_13 (by decide) rfl (by decide) rfl (show B.2.2 98 1 = 99 from hB.2.2 98 1 (by decide)) dX12_draw_10 ?_
  refine j_bipush C 32 dX12_draw_13 (by decide) ?_
  refine x_iald C 32 3543 (sx p1) (by decide) rfl rfl rfl (by decide) (by decide) rfl dX12_draw_15 ?_
  refine z_imul C ((1103515245 : Int32) * (sx p1)) rfl dX12_draw_16 ?_
  refine j_sipush C 12345 dX12_draw_17 (by decide) ?_
  refine z_iadd C (sx (sx p1)) rfl dX12_draw_20 ?_
  refine x_iast C 32 3543 (by decide) rfl rfl rfl (by decide) (by decide) dX12_draw_21 ?_
  refine j_M (M' := (wI (wI B 99 31 p0) 99 32 (sx (sx p1)))) (wI_w _ _ _ _ _) ?_
  refine j_aload_n C 0 0 dX12_draw_22 rfl rfl ?_
  refine j_getP C 11 99 fX12_draw_13 (by decide) rfl (by decide) rfl (show B.2.2 98 1 = 99 from hB.2.2 98 1 (by decide)) dX12_draw_23 ?_
  refine j_bipush C 32 dX12_draw_26 (by decide) ?_
  refine x_iald C 32 3543 (sx (sx p1)) (by decide) rfl rfl rfl (by decide) (by decide) rfl dX12_draw_28 ?_
  refine j_bipush C 16 dX12_draw_29 (by decide) ?_
  refine z_iushr C (su (sx (sx p1))) rfl dX12_draw_31 ?_
  refine j_iload_n C 1 1 dX12_draw_32 rfl rfl ?_
  refine z_irem C (sr (sx (sx p1)) 6) rfl (by decide) dX12_draw_33 ?_
  exact hret _ _ _ _ dX12_draw_34 ⟨rfl, rfl⟩
set_option maxHeartbeats 4000000 in
set_option maxRecDepth 100000 in
theorem k268_X12_draw {l : Launch} {dC : Nat → ClassId} {dI : Nat → Nat → Nat} {ad : Nat → Nat} {cA : Nat → ClassId} {B : mm_M} (hB : MB B) (p0 : Int32) (p1 : Int32) : Ci l 0 yX12_draw wsX12_draw dC dI ad cA [.ref (ad 98), .int 8] (wI (wI B 99 31 p0) 99 32 (sx p1)) (fun r M' => (sr (sx (sx p1)) 8) = r ∧ (wI (wI B 99 31 p0) 99 32 (sx (sx p1))) = M') := by
  refine ci_of (cc := cX12_draw) (maxL := 2) (ty := .int) (lv := [(0, .ref (ad 98)), (1, .int 8)]) (by decide) rfl (fun r M' hp => rfl) (Nat.le_of_ble_eq_true rfl) rfl ?_
  intro p e s m args below meth c A Q C hret
  refine j_aload_n C 0 0 dX12_draw_0 rfl rfl ?_
  refine j_getP C 11 99 fX12_draw_13 (by decide) rfl (by decide) rfl (show B.2.2 98 1 = 99 from hB.2.2 98 1 (by decide)) dX12_draw_1 ?_
  refine j_bipush C 32 dX12_draw_4 (by decide) ?_
  refine j_ldcw C 1103515245 dX12_draw_6 (by decide +kernel) ?_
  refine j_aload_n C 0 0 dX12_draw_9 rfl rfl ?_
  refine j_getP C 11 99 fX12_draw_13 (by decide) rfl (by decide) rfl (show B.2.2 98 1 = 99 from hB.2.2 98 1 (by decide)) dX12_draw_10 ?_
  refine j_bipush C 32 dX12_draw_13 (by decide) ?_
  refine x_iald C 32 3543 (sx p1) (by decide) rfl rfl rfl (by decide) (by decide) rfl dX12_draw_15 ?_
  refine z_imul C ((1103515245 : Int32) * (sx p1)) rfl dX12_draw_16 ?_
  refine j_sipush C 12345 dX12_draw_17 (by decide) ?_
  refine z_iadd C (sx (sx p1)) rfl dX12_draw_20 ?_
  refine x_iast C 32 3543 (by decide) rfl rfl rfl (by decide) (by decide) dX12_draw_21 ?_
  refine j_M (M' := (wI (wI B 99 31 p0) 99 32 (sx (sx p1)))) (wI_w _ _ _ _ _) ?_
  refine j_aload_n C 0 0 dX12_draw_22 rfl rfl ?_
  refine j_getP C 11 99 fX12_draw_13 (by decide) rfl (by decide) rfl (show B.2.2 98 1 = 99 from hB.2.2 98 1 (by decide)) dX12_draw_23 ?_
  refine j_bipush C 32 dX12_draw_26 (by decide) ?_
  refine x_iald C 32 3543 (sx (sx p1)) (by decide) rfl rfl rfl (by decide) (by decide) rfl dX12_draw_28 ?_
  refine j_bipush C 16 dX12_draw_29 (by decide) ?_
  refine z_iushr C (su (sx (sx p1))) rfl dX12_draw_31 ?_
  refine j_iload_n C 1 1 dX12_draw_32 rfl rfl ?_
  refine z_irem C (sr (sx (sx p1)) 8) rfl (by decide) dX12_draw_33 ?_
  exact hret _ _ _ _ dX12_draw_34 ⟨rfl, rfl⟩
