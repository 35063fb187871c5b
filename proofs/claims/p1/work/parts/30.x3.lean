set_option maxHeartbeats 4000000 in
set_option maxRecDepth 100000 in
theorem k231_X11_cameRefusal {l : Launch} {dC : Nat → ClassId} {dI : Nat → Nat → Nat} {ad : Nat → Nat} {cA : Nat → ClassId} (p0 : Int32) : Ci l 2 yX11_cameRefusal wsX11_cameRefusal dC dI ad cA [.ref (ad 0), .int p0] M0 (fun r M' => ((p0.toInt < 0) ∧ (-2) = r ∧ M0 = M') ∨ ((¬ p0.toInt < 0 ∧ 4 ≤ p0.toInt) ∧ (-2) = r ∧ M0 = M') ∨ ((¬ p0.toInt < 0 ∧ ¬ 4 ≤ p0.toInt ∧ p0 = 0) ∧ (-6) = r ∧ M0 = M') ∨ ((¬ p0.toInt < 0 ∧ ¬ 4 ≤ p0.toInt ∧ p0 = 1) ∧ (-6) = r ∧ M0 = M') ∨ ((¬ p0.toInt < 0 ∧ ¬ 4 ≤ p0.toInt ∧ p0 = 2) ∧ (-6) = r ∧ M0 = M') ∨ ((¬ p0.toInt < 0 ∧ ¬ 4 ≤ p0.toInt ∧ p0 = 3) ∧ (-6) = r ∧ M0 = M')) := by
  refine ci_of (cc := cX11_cameRefusal) (maxL := 5) (ty := .int) (lv := [(0, .ref (ad 0)), (1, .int p0)]) (by decide) rfl (fun r M' hp => rfl) (Nat.le_of_ble_eq_true rfl) rfl ?_
  intro p e s m args below meth c A Q C hret
  refine j_aload_n C 0 0 dX11_cameRefusal_0 rfl rfl ?_
  refine j_iload_n C 1 1 dX11_cameRefusal_1 rfl rfl ?_
  refine j_callVi C (d := 1) (As := [.int p0]) (st := []) 0 (by decide) rfl (by decide) rfl (k103_X11_trayRefusal p0) gX11_cameRefusal_X11_trayRefusal rfl hdX11_trayRefusal (by decide) (Nat.le_of_ble_eq_true rfl) dX11_cameRefusal_2 rfl (fun r M' hp => ?_)
  rcases hp with ⟨h1, rfl, rfl⟩ | ⟨⟨h2, h3⟩, rfl, rfl⟩ | ⟨⟨h4, h5, h6⟩, rfl, rfl⟩ | ⟨⟨h7, h8, h9⟩, rfl, rfl⟩ | ⟨⟨h10, h11, h12⟩, rfl, rfl⟩ | ⟨⟨h13, h14, h15⟩, rfl, rfl⟩
  · refine j_istore_n C 2 [(2, .int (-2)), (0, .ref (ad 0)), (1, .int p0)] dX11_cameRefusal_5 rfl (by decide) rfl ?_
    refine j_iload_n C 0 2 dX11_cameRefusal_6 rfl rfl ?_
    refine j_if_eq_f C 12 dX11_cameRefusal_7 (by decide) (by decide) ?_
    refine j_iload_n C 0 2 dX11_cameRefusal_10 rfl rfl ?_
    exact hret _ _ _ _ dX11_cameRefusal_11 (Or.inl ⟨h1, rfl, rfl⟩)
  · refine j_istore_n C 2 [(2, .int (-2)), (0, .ref (ad 0)), (1, .int p0)] dX11_cameRefusal_5 rfl (by decide) rfl ?_
    refine j_iload_n C 0 2 dX11_cameRefusal_6 rfl rfl ?_
    refine j_if_eq_f C 12 dX11_cameRefusal_7 (by decide) (by decide) ?_
    refine j_iload_n C 0 2 dX11_cameRefusal_10 rfl rfl ?_
    exact hret _ _ _ _ dX11_cameRefusal_11 (Or.inr (Or.inl ⟨⟨h2, h3⟩, rfl, rfl⟩))
  · refine j_istore_n C 2 [(2, .int (-6)), (0, .ref (ad 0)), (1, .int p0)] dX11_cameRefusal_5 rfl (by decide) rfl ?_
    refine j_iload_n C 0 2 dX11_cameRefusal_6 rfl rfl ?_
    refine j_if_eq_f C 12 dX11_cameRefusal_7 (by decide) (by decide) ?_
    refine j_iload_n C 0 2 dX11_cameRefusal_10 rfl rfl ?_
    exact hret _ _ _ _ dX11_cameRefusal_11 (Or.inr (Or.inr (Or.inl ⟨⟨h4, h5, h6⟩, rfl, rfl⟩)))
  · refine j_istore_n C 2 [(2, .int (-6)), (0, .ref (ad 0)), (1, .int p0)] dX11_cameRefusal_5 rfl (by decide) rfl ?_
    refine j_iload_n C 0 2 dX11_cameRefusal_6 rfl rfl ?_
    refine j_if_eq_f C 12 dX11_cameRefusal_7 (by decide) (by decide) ?_
    refine j_iload_n C 0 2 dX11_cameRefusal_10 rfl rfl ?_
    exact hret _ _ _ _ dX11_cameRefusal_11 (Or.inr (Or.inr (Or.inr (Or.inl ⟨⟨h7, h8, h9⟩, rfl, rfl⟩))))
  · refine j_istore_n C 2 [(2, .int (-6)), (0, .ref (ad 0)), (1, .int p0)] dX11_cameRefusal_5 rfl (by decide) rfl ?_
    refine j_iload_n C 0 2 dX11_cameRefusal_6 rfl rfl ?_
    refine j_if_eq_f C 12 dX11_cameRefusal_7 (by decide) (by decide) ?_
    refine j_iload_n C 0 2 dX11_cameRefusal_10 rfl rfl ?_
    exact hret _ _ _ _ dX11_cameRefusal_11 (Or.inr (Or.inr (Or.inr (Or.inr (Or.inl ⟨⟨h10, h11, h12⟩, rfl, rfl⟩)))))
  · refine j_istore_n C 2 [(2, .int (-6)), (0, .ref (ad 0)), (1, .int p0)] dX11_cameRefusal_5 rfl (by decide) rfl ?_
    refine j_iload_n C 0 2 dX11_cameRefusal_6 rfl rfl ?_
    refine j_if_eq_f C 12 dX11_cameRefusal_7 (by decide) (by decide) ?_
    refine j_iload_n C 0 2 dX11_cameRefusal_10 rfl rfl ?_
    exact hret _ _ _ _ dX11_cameRefusal_11 (Or.inr (Or.inr (Or.inr (Or.inr (Or.inr ⟨⟨h13, h14, h15⟩, rfl, rfl⟩)))))
set_option maxHeartbeats 4000000 in
set_option maxRecDepth 100000 in
theorem ox_came {l : Launch} {dC : Nat → ClassId} {dI : Nat → Nat → Nat} {ad : Nat → Nat} {cA : Nat → ClassId} (p0 : Int32) : Cj l 3 yX11_came wsX11_came dC dI ad cA [.ref (ad 0), .int p0] M0 (fun r M' => r = fo_came p0 ∧ MB M') := by
  refine cj_of (cc := cX11_came) (maxL := 3) (lv := [(0, .ref (ad 0)), (1, .int p0)]) (by decide) rfl (Nat.le_of_ble_eq_true rfl) rfl ?_
  intro p e s m args below meth c A Q C hret
  refine j_aload_n C 0 0 dX11_came_0 rfl rfl ?_
  refine j_iload_n C 1 1 dX11_came_1 rfl rfl ?_
  refine j_callVi C (d := 2) (As := [.int p0]) (st := []) 0 (by decide) rfl (by decide) rfl (k231_X11_cameRefusal p0) gX11_came_X11_cameRefusal rfl hdX11_cameRefusal (by decide) (Nat.le_of_ble_eq_true rfl) dX11_came_2 rfl (fun r M' hp => ?_)
  rcases hp with ⟨h1, rfl, rfl⟩ | ⟨⟨h2, h3⟩, rfl, rfl⟩ | ⟨⟨h4, h5, h6⟩, rfl, rfl⟩ | ⟨⟨h7, h8, h9⟩, rfl, rfl⟩ | ⟨⟨h10, h11, h12⟩, rfl, rfl⟩ | ⟨⟨h13, h14, h15⟩, rfl, rfl⟩
  · refine j_istore_n C 2 [(2, .int (-2)), (0, .ref (ad 0)), (1, .int p0)] dX11_came_5 rfl (by decide) rfl ?_
    refine j_iload_n C 0 2 dX11_came_6 rfl rfl ?_
    refine j_if_eq_f C 13 dX11_came_7 (by decide) (by decide) ?_
    refine j_iload_n C 0 2 dX11_came_10 rfl rfl ?_
    refine z_i2l C (-2) (by decide) dX11_came_11 ?_
    exact hret _ _ _ _ dX11_came_12 ⟨by first | rfl | (unfold fo_came; rw [if_pos (by rw [nI_toInt (by omega)]; omega), nI_clamp (by omega)]; exact hrel) | (unfold fo_came; (repeat' split) <;> first | rfl | (exfalso; omega) | (exfalso; simp_all; done)), MB_0⟩
  · refine j_istore_n C 2 [(2, .int (-2)), (0, .ref (ad 0)), (1, .int p0)] dX11_came_5 rfl (by decide) rfl ?_
    refine j_iload_n C 0 2 dX11_came_6 rfl rfl ?_
    refine j_if_eq_f C 13 dX11_came_7 (by decide) (by decide) ?_
    refine j_iload_n C 0 2 dX11_came_10 rfl rfl ?_
    refine z_i2l C (-2) (by decide) dX11_came_11 ?_
    exact hret _ _ _ _ dX11_came_12 ⟨by first | rfl | (unfold fo_came; rw [if_pos (by rw [nI_toInt (by omega)]; omega), nI_clamp (by omega)]; exact hrel) | (unfold fo_came; (repeat' split) <;> first | rfl | (exfalso; omega) | (exfalso; simp_all; done)), MB_0⟩
  · refine j_istore_n C 2 [(2, .int (-6)), (0, .ref (ad 0)), (1, .int p0)] dX11_came_5 rfl (by decide) rfl ?_
    refine j_iload_n C 0 2 dX11_came_6 rfl rfl ?_
    refine j_if_eq_f C 13 dX11_came_7 (by decide) (by decide) ?_
    refine j_iload_n C 0 2 dX11_came_10 rfl rfl ?_
    refine z_i2l C (-6) (by decide) dX11_came_11 ?_
    exact hret _ _ _ _ dX11_came_12 ⟨by first | rfl | (unfold fo_came; rw [if_pos (by rw [nI_toInt (by omega)]; omega), nI_clamp (by omega)]; exact hrel) | (unfold fo_came; (repeat' split) <;> first | rfl | (exfalso; omega) | (exfalso; simp_all; done)), MB_0⟩
  · refine j_istore_n C 2 [(2, .int (-6)), (0, .ref (ad 0)), (1, .int p0)] dX11_came_5 rfl (by decide) rfl ?_
    refine j_iload_n C 0 2 dX11_came_6 rfl rfl ?_
    refine j_if_eq_f C 13 dX11_came_7 (by decide) (by decide) ?_
    refine j_iload_n C 0 2 dX11_came_10 rfl rfl ?_
    refine z_i2l C (-6) (by decide) dX11_came_11 ?_
    exact hret _ _ _ _ dX11_came_12 ⟨by first | rfl | (unfold fo_came; rw [if_pos (by rw [nI_toInt (by omega)]; omega), nI_clamp (by omega)]; exact hrel) | (unfold fo_came; (repeat' split) <;> first | rfl | (exfalso; omega) | (exfalso; simp_all; done)), MB_0⟩
  · refine j_istore_n C 2 [(2, .int (-6)), (0, .ref (ad 0)), (1, .int p0)] dX11_came_5 rfl (by decide) rfl ?_
    refine j_iload_n C 0 2 dX11_came_6 rfl rfl ?_
    refine j_if_eq_f C 13 dX11_came_7 (by decide) (by decide) ?_
    refine j_iload_n C 0 2 dX11_came_10 rfl rfl ?_
    refine z_i2l C (-6) (by decide) dX11_came_11 ?_
    exact hret _ _ _ _ dX11_came_12 ⟨by first | rfl | (unfold fo_came; rw [if_pos (by rw [nI_toInt (by omega)]; omega), nI_clamp (by omega)]; exact hrel) | (unfold fo_came; (repeat' split) <;> first | rfl | (exfalso; omega) | (exfalso; simp_all; done)), MB_0⟩
  · refine j_istore_n C 2 [(2, .int (-6)), (0, .ref (ad 0)), (1, .int p0)] dX11_came_5 rfl (by decide) rfl ?_
    refine j_iload_n C 0 2 dX11_came_6 rfl rfl ?_
    refine j_if_eq_f C 13 dX11_came_7 (by decide) (by decide) ?_
    refine j_iload_n C 0 2 dX11_came_10 rfl rfl ?_
    refine z_i2l C (-6) (by decide) dX11_came_11 ?_
    exact hret _ _ _ _ dX11_came_12 ⟨by first | rfl | (unfold fo_came; rw [if_pos (by rw [nI_toInt (by omega)]; omega), nI_clamp (by omega)]; exact hrel) | (unfold fo_came; (repeat' split) <;> first | rfl | (exfalso; omega) | (exfalso; simp_all; done)), MB_0⟩
set_option maxHeartbeats 4000000 in
set_option maxRecDepth 100000 in
theorem ox_who {l : Launch} {dC : Nat → ClassId} {dI : Nat → Nat → Nat} {ad : Nat → Nat} {cA : Nat → ClassId} (p0 : Int32) (p1 : Int32) : Ci l 3 yX11_who wsX11_who dC dI ad cA [.ref (ad 0), .int p0, .int p1] M0 (fun r M' => r = fo_who p0 p1 ∧ MB M') := by
  refine ci_of (cc := cX11_who) (maxL := 4) (ty := .int) (lv := [(0, .ref (ad 0)), (1, .int p0), (2, .int p1)]) (by decide) rfl (fun r M' hp => rfl) (Nat.le_of_ble_eq_true rfl) rfl ?_
  intro p e s m args below meth c A Q C hret
  refine j_aload_n C 0 0 dX11_who_0 rfl rfl ?_
  refine j_iload_n C 1 1 dX11_who_1 rfl rfl ?_
  refine j_callVi C (d := 2) (As := [.int p0]) (st := []) 0 (by decide) rfl (by decide) rfl (k231_X11_cameRefusal p0) gX11_who_X11_cameRefusal rfl hdX11_cameRefusal (by decide) (Nat.le_of_ble_eq_true rfl) dX11_who_2 rfl (fun r M' hp => ?_)
  rcases hp with ⟨h1, rfl, rfl⟩ | ⟨⟨h2, h3⟩, rfl, rfl⟩ | ⟨⟨h4, h5, h6⟩, rfl, rfl⟩ | ⟨⟨h7, h8, h9⟩, rfl, rfl⟩ | ⟨⟨h10, h11, h12⟩, rfl, rfl⟩ | ⟨⟨h13, h14, h15⟩, rfl, rfl⟩
  · refine j_istore_n C 3 [(3, .int (-2)), (0, .ref (ad 0)), (1, .int p0), (2, .int p1)] dX11_who_5 rfl (by decide) rfl ?_
    refine j_iload_n C 0 3 dX11_who_6 rfl rfl ?_
    refine j_if_eq_f C 12 dX11_who_7 (by decide) (by decide) ?_
    refine j_iload_n C 0 3 dX11_who_10 rfl rfl ?_
    exact hret _ _ _ _ dX11_who_11 ⟨by first | rfl | (unfold fo_who; rw [if_pos (by rw [nI_toInt (by omega)]; omega), nI_clamp (by omega)]; exact hrel) | (unfold fo_who; (repeat' split) <;> first | rfl | (exfalso; omega) | (exfalso; simp_all; done)), MB_0⟩
  · refine j_istore_n C 3 [(3, .int (-2)), (0, .ref (ad 0)), (1, .int p0), (2, .int p1)] dX11_who_5 rfl (by decide) rfl ?_
    refine j_iload_n C 0 3 dX11_who_6 rfl rfl ?_
    refine j_if_eq_f C 12 dX11_who_7 (by decide) (by decide) ?_
    refine j_iload_n C 0 3 dX11_who_10 rfl rfl ?_
    exact hret _ _ _ _ dX11_who_11 ⟨by first | rfl | (unfold fo_who; rw [if_pos (by rw [nI_toInt (by omega)]; omega), nI_clamp (by omega)]; exact hrel) | (unfold fo_who; (repeat' split) <;> first | rfl | (exfalso; omega) | (exfalso; simp_all; done)), MB_0⟩
  · refine j_istore_n C 3 [(3, .int (-6)), (0, .ref (ad 0)), (1, .int p0), (2, .int p1)] dX11_who_5 rfl (by decide) rfl ?_
    refine j_iload_n C 0 3 dX11_who_6 rfl rfl ?_
    refine j_if_eq_f C 12 dX11_who_7 (by decide) (by decide) ?_
    refine j_iload_n C 0 3 dX11_who_10 rfl rfl ?_
    exact hret _ _ _ _ dX11_who_11 ⟨by first | rfl | (unfold fo_who; rw [if_pos (by rw [nI_toInt (by omega)]; omega), nI_clamp (by omega)]; exact hrel) | (unfold fo_who; (repeat' split) <;> first | rfl | (exfalso; omega) | (exfalso; simp_all; done)), MB_0⟩
  · refine j_istore_n C 3 [(3, .int (-6)), (0, .ref (ad 0)), (1, .int p0), (2, .int p1)] dX11_who_5 rfl (by decide) rfl ?_
    refine j_iload_n C 0 3 dX11_who_6 rfl rfl ?_
    refine j_if_eq_f C 12 dX11_who_7 (by decide) (by decide) ?_
    refine j_iload_n C 0 3 dX11_who_10 rfl rfl ?_
    exact hret _ _ _ _ dX11_who_11 ⟨by first | rfl | (unfold fo_who; rw [if_pos (by rw [nI_toInt (by omega)]; omega), nI_clamp (by omega)]; exact hrel) | (unfold fo_who; (repeat' split) <;> first | rfl | (exfalso; omega) | (exfalso; simp_all; done)), MB_0⟩
  · refine j_istore_n C 3 [(3, .int (-6)), (0, .ref (ad 0)), (1, .int p0), (2, .int p1)] dX11_who_5 rfl (by decide) rfl ?_
    refine j_iload_n C 0 3 dX11_who_6 rfl rfl ?_
    refine j_if_eq_f C 12 dX11_who_7 (by decide) (by decide) ?_
    refine j_iload_n C 0 3 dX11_who_10 rfl rfl ?_
    exact hret _ _ _ _ dX11_who_11 ⟨by first | rfl | (unfold fo_who; rw [if_pos (by rw [nI_toInt (by omega)]; omega), nI_clamp (by omega)]; exact hrel) | (unfold fo_who; (repeat' split) <;> first | rfl | (exfalso; omega) | (exfalso; simp_all; done)), MB_0⟩
  · refine j_istore_n C 3 [(3, .int (-6)), (0, .ref (ad 0)), (1, .int p0), (2, .int p1)] dX11_who_5 rfl (by decide) rfl ?_
    refine j_iload_n C 0 3 dX11_who_6 rfl rfl ?_
    refine j_if_eq_f C 12 dX11_who_7 (by decide) (by decide) ?_
    refine j_iload_n C 0 3 dX11_who_10 rfl rfl ?_
    exact hret _ _ _ _ dX11_who_11 ⟨by first | rfl | (unfold fo_who; rw [if_pos (by rw [nI_toInt (by omega)]; omega), nI_clamp (by omega)]; exact hrel) | (unfold fo_who; (repeat' split) <;> first | rfl | (exfalso; omega) | (exfalso; simp_all; done)), MB_0⟩
set_option maxHeartbeats 4000000 in
set_option maxRecDepth 100000 in
theorem k237_J7_fill_d0a16 {l : Launch} {dC : Nat → ClassId} {dI : Nat → Nat → Nat} {ad : Nat → Nat} {cA : Nat → ClassId} : Cv l 0 yJ7_fill_d0a16 wsJ7_fill_d0a16 dC dI ad cA [.ref (ad 52), .long 0] M0 (fun M' => M0 = M') := by
  refine cv_of (cc := cJ7_fill_d0a16) (maxL := 5) (lv := [(0, .ref (ad 52)), (1, .long 0)]) (by decide) rfl (Nat.le_of_ble_eq_true rfl) rfl ?_
  intro p e s m args below meth c A Q C hret
  refine j_iconst C 0 dJ7_fill_d0a16_0 (by decide) ?_
  refine j_istore_n C 3 [(3, .int 0), (0, .ref (ad 52)), (1, .long 0)] dJ7_fill_d0a16_1 rfl (by decide) rfl ?_
  refine j_aload_n C 1 0 dJ7_fill_d0a16_2 rfl rfl ?_
  refine j_alen C 40 (by decide) (by decide) (by decide) dJ7_fill_d0a16_3 ?_
  refine j_istore C 4 [(4, .int 40), (3, .int 0), (0, .ref (ad 52)), (1, .long 0)] dJ7_fill_d0a16_4 (by decide) rfl ?_
  refine j_lv [2, 3, 1, 0] rfl ?_
  have L : ∀ (n i : Nat), 0 ≤ i → i + n = 40 → jj p l e (cn_R 0) s m args below meth c 0 0 Q 5 dC dI ad cA A M0 6 [(0, .ref (ad 52)), (1, .long 0), (3, .int (nI i)), (4, .int 40)] [] := by
    intro n
    induction n with
    | zero =>
      intro i h1 h2
      obtain rfl : i = 40 := by omega
      refine j_iload_n C 2 3 dJ7_fill_d0a16_6 rfl rfl ?_
      refine j_iload C 3 dJ7_fill_d0a16_7 rfl ?_
      refine j_icmp_ge_t C 22 dJ7_fill_d0a16_9 (by decide) (by decide) ?_
      exact hret _ _ _ dJ7_fill_d0a16_22 rfl
    | succ n ih =>
      intro i h1 h2
      refine j_iload_n C 2 3 dJ7_fill_d0a16_6 rfl rfl ?_
      refine j_iload C 3 dJ7_fill_d0a16_7 rfl ?_
      refine z_icmp_ge C 22 (i : Int) 40 (nI_toInt (n := i) (by omega)) (by decide) dJ7_fill_d0a16_9 (by decide) (fun h1 => ?_) (fun h1 => ?_)
      · exfalso; omega
      · refine j_aload_n C 0 0 dJ7_fill_d0a16_12 rfl rfl ?_
        refine j_iload_n C 2 3 dJ7_fill_d0a16_13 rfl rfl ?_
        refine j_lload_n C 1 1 dJ7_fill_d0a16_14 rfl rfl ?_
        refine x_last C i 40 (by decide) rfl rfl rfl (by omega) (by decide) dJ7_fill_d0a16_15 ?_
        refine z_noJ rfl ?_
        refine j_iinc C 2 (nI (i + 1)) [(3, .int (nI (i + 1))), (0, .ref (ad 52)), (1, .long 0), (4, .int 40)] dJ7_fill_d0a16_16 rfl (nI_1 i) (by decide) rfl ?_
        refine j_goto C 6 dJ7_fill_d0a16_19 (by decide) ?_
        refine j_lv [1, 2, 0, 3] rfl ?_
        exact ih (i + 1) (by omega) (by omega)
  exact L (40 - 0) 0 (by omega) (by omega)
set_option maxHeartbeats 4000000 in
set_option maxRecDepth 100000 in
theorem k238_X10_layOut {l : Launch} {dC : Nat → ClassId} {dI : Nat → Nat → Nat} {ad : Nat → Nat} {cA : Nat → ClassId} (p0 : Int32) (p1 : Int32) : Cv l 1 yX10_layOut wsX10_layOut dC dI ad cA [.ref (ad 51), .int p0, .int p1] M0 (fun M' => (wI (wI M0 51 1 p0) 51 2 p1) = M') := by
  refine cv_of (cc := cX10_layOut) (maxL := 3) (lv := [(0, .ref (ad 51)), (1, .int p0), (2, .int p1)]) (by decide) rfl (Nat.le_of_ble_eq_true rfl) rfl ?_
  intro p e s m args below meth c A Q C hret
  refine j_aload_n C 0 0 dX10_layOut_0 rfl rfl ?_
  refine j_getP C 9 52 fX10_layOut_9 (by decide) rfl (by decide) rfl rfl dX10_layOut_1 ?_
  refine j_lconst C 0 dX10_layOut_4 (by decide) ?_
  refine j_callSv C (d := 0) (As := [.ref (ad 52), .long 0]) (st := []) (k237_J7_fill_d0a16) gX10_layOut_J7_fill_d0a16 rfl hdJ7_fill_d0a16s (by decide) (Nat.le_of_ble_eq_true rfl) dX10_layOut_5 rfl (fun M' hp => ?_)
  obtain rfl := hp
  refine j_aload_n C 0 0 dX10_layOut_8 rfl rfl ?_
  refine j_iload_n C 1 1 dX10_layOut_9 rfl rfl ?_
  refine j_putI C 9 qX10_layOut_15 rfl rfl (by decide) rfl (by decide) rfl dX10_layOut_10 ?_
  refine j_aload_n C 0 0 dX10_layOut_13 rfl rfl ?_
  refine j_iload_n C 2 2 dX10_layOut_14 rfl rfl ?_
  refine j_putI C 9 qX10_layOut_19 rfl rfl (by decide) rfl (by decide) rfl dX10_layOut_15 ?_
  exact hret _ _ _ dX10_layOut_18 rfl
set_option maxHeartbeats 4000000 in
set_option maxRecDepth 100000 in
theorem k239_J7_fill_d0a16 {l : Launch} {dC : Nat → ClassId} {dI : Nat → Nat → Nat} {ad : Nat → Nat} {cA : Nat → ClassId} : Cv l 0 yJ7_fill_d0a16 wsJ7_fill_d0a16 dC dI ad cA [.ref (ad 54), .long 0] M0 (fun M' => M0 = M') := by
  refine cv_of (cc := cJ7_fill_d0a16) (maxL := 5) (lv := [(0, .ref (ad 54)), (1, .long 0)]) (by decide) rfl (Nat.le_of_ble_eq_true rfl) rfl ?_
  intro p e s m args below meth c A Q C hret
  refine j_iconst C 0 dJ7_fill_d0a16_0 (by decide) ?_
  refine j_istore_n C 3 [(3, .int 0), (0, .ref (ad 54)), (1, .long 0)] dJ7_fill_d0a16_1 rfl (by decide) rfl ?_
  refine j_aload_n C 1 0 dJ7_fill_d0a16_2 rfl rfl ?_
  refine j_alen C 40 (by decide) (by decide) (by decide) dJ7_fill_d0a16_3 ?_
  refine j_istore C 4 [(4, .int 40), (3, .int 0), (0, .ref (ad 54)), (1, .long 0)] dJ7_fill_d0a16_4 (by decide) rfl ?_
  refine j_lv [2, 3, 1, 0] rfl ?_
  have L : ∀ (n i : Nat), 0 ≤ i → i + n = 40 → jj p l e (cn_R 0) s m args below meth c 0 0 Q 5 dC dI ad cA A M0 6 [(0, .ref (ad 54)), (1, .long 0), (3, .int (nI i)), (4, .int 40)] [] := by
    intro n
    induction n with
    | zero =>
      intro i h1 h2
      obtain rfl : i = 40 := by omega
      refine j_iload_n C 2 3 dJ7_fill_d0a16_6 rfl rfl ?_
      refine j_iload C 3 dJ7_fill_d0a16_7 rfl ?_
      refine j_icmp_ge_t C 22 dJ7_fill_d0a16_9 (by decide) (by decide) ?_
      exact hret _ _ _ dJ7_fill_d0a16_22 rfl
    | succ n ih =>
      intro i h1 h2
      refine j_iload_n C 2 3 dJ7_fill_d0a16_6 rfl rfl ?_
      refine j_iload C 3 dJ7_fill_d0a16_7 rfl ?_
      refine z_icmp_ge C 22 (i : Int) 40 (nI_toInt (n := i) (by omega)) (by decide) dJ7_fill_d0a16_9 (by decide) (fun h1 => ?_) (fun h1 => ?_)
      · exfalso; omega
      · refine j_aload_n C 0 0 dJ7_fill_d0a16_12 rfl rfl ?_
        refine j_iload_n C 2 3 dJ7_fill_d0a16_13 rfl rfl ?_
        refine j_lload_n C 1 1 dJ7_fill_d0a16_14 rfl rfl ?_
        refine x_last C i 40 (by decide) rfl rfl rfl (by omega) (by decide) dJ7_fill_d0a16_15 ?_
        refine z_noJ rfl ?_
        refine j_iinc C 2 (nI (i + 1)) [(3, .int (nI (i + 1))), (0, .ref (ad 54)), (1, .long 0), (4, .int 40)] dJ7_fill_d0a16_16 rfl (nI_1 i) (by decide) rfl ?_
        refine j_goto C 6 dJ7_fill_d0a16_19 (by decide) ?_
        refine j_lv [1, 2, 0, 3] rfl ?_
        exact ih (i + 1) (by omega) (by omega)
  exact L (40 - 0) 0 (by omega) (by omega)
set_option maxHeartbeats 4000000 in
set_option maxRecDepth 100000 in
theorem k240_X10_layOut {l : Launch} {dC : Nat → ClassId} {dI : Nat → Nat → Nat} {ad : Nat → Nat} {cA : Nat → ClassId} (p0 : Int32) (p1 : Int32) : Cv l 1 yX10_layOut wsX10_layOut dC dI ad cA [.ref (ad 53), .int p0, .int p1] M0 (fun M' => (wI (wI M0 53 1 p0) 53 2 p1) = M') := by
  refine cv_of (cc := cX10_layOut) (maxL := 3) (lv := [(0, .ref (ad 53)), (1, .int p0), (2, .int p1)]) (by decide) rfl (Nat.le_of_ble_eq_true rfl) rfl ?_
  intro p e s m args below meth c A Q C hret
  refine j_aload_n C 0 0 dX10_layOut_0 rfl rfl ?_
  refine j_getP C 9 54 fX10_layOut_9 (by decide) rfl (by decide) rfl rfl dX10_layOut_1 ?_
  refine j_lconst C 0 dX10_layOut_4 (by decide) ?_
  refine j_callSv C (d := 0) (As := [.ref (ad 54), .long 0]) (st := []) (k239_J7_fill_d0a16) gX10_layOut_J7_fill_d0a16 rfl hdJ7_fill_d0a16s (by decide) (Nat.le_of_ble_eq_true rfl) dX10_layOut_5 rfl (fun M' hp => ?_)
  obtain rfl := hp
  refine j_aload_n C 0 0 dX10_layOut_8 rfl rfl ?_
  refine j_iload_n C 1 1 dX10_layOut_9 rfl rfl ?_
  refine j_putI C 9 qX10_layOut_15 rfl rfl (by decide) rfl (by decide) rfl dX10_layOut_10 ?_
  refine j_aload_n C 0 0 dX10_layOut_13 rfl rfl ?_
  refine j_iload_n C 2 2 dX10_layOut_14 rfl rfl ?_
  refine j_putI C 9 qX10_layOut_19 rfl rfl (by decide) rfl (by decide) rfl dX10_layOut_15 ?_
  exact hret _ _ _ dX10_layOut_18 rfl
set_option maxHeartbeats 4000000 in
set_option maxRecDepth 100000 in
theorem k241_J7_fill_d0a16 {l : Launch} {dC : Nat → ClassId} {dI : Nat → Nat → Nat} {ad : Nat → Nat} {cA : Nat → ClassId} : Cv l 0 yJ7_fill_d0a16 wsJ7_fill_d0a16 dC dI ad cA [.ref (ad 56), .long 0] M0 (fun M' => M0 = M') := by
  refine cv_of (cc := cJ7_fill_d0a16) (maxL := 5) (lv := [(0, .ref (ad 56)), (1, .long 0)]) (by decide) rfl (Nat.le_of_ble_eq_true rfl) rfl ?_
  intro p e s m args below meth c A Q C hret
  refine j_iconst C 0 dJ7_fill_d0a16_0 (by decide) ?_
  refine j_istore_n C 3 [(3, .int 0), (0, .ref (ad 56)), (1, .long 0)] dJ7_fill_d0a16_1 rfl (by decide) rfl ?_
  refine j_aload_n C 1 0 dJ7_fill_d0a16_2 rfl rfl ?_
  refine j_alen C 40 (by decide) (by decide) (by decide) dJ7_fill_d0a16_3 ?_
  refine j_istore C 4 [(4, .int 40), (3, .int 0), (0, .ref (ad 56)), (1, .long 0)] dJ7_fill_d0a16_4 (by decide) rfl ?_
  refine j_lv [2, 3, 1, 0] rfl ?_
  have L : ∀ (n i : Nat), 0 ≤ i → i + n = 40 → jj p l e (cn_R 0) s m args below meth c 0 0 Q 5 dC dI ad cA A M0 6 [(0, .ref (ad 56)), (1, .long 0), (3, .int (nI i)), (4, .int 40)] [] := by
    intro n
    induction n with
    | zero =>
      intro i h1 h2
      obtain rfl : i = 40 := by omega
      refine j_iload_n C 2 3 dJ7_fill_d0a16_6 rfl rfl ?_
      refine j_iload C 3 dJ7_fill_d0a16_7 rfl ?_
      refine j_icmp_ge_t C 22 dJ7_fill_d0a16_9 (by decide) (by decide) ?_
      exact hret _ _ _ dJ7_fill_d0a16_22 rfl
    | succ n ih =>
      intro i h1 h2
      refine j_iload_n C 2 3 dJ7_fill_d0a16_6 rfl rfl ?_
      refine j_iload C 3 dJ7_fill_d0a16_7 rfl ?_
      refine z_icmp_ge C 22 (i : Int) 40 (nI_toInt (n := i) (by omega)) (by decide) dJ7_fill_d0a16_9 (by decide) (fun h1 => ?_) (fun h1 => ?_)
      · exfalso; omega
      · refine j_aload_n C 0 0 dJ7_fill_d0a16_12 rfl rfl ?_
        refine j_iload_n C 2 3 dJ7_fill_d0a16_13 rfl rfl ?_
        refine j_lload_n C 1 1 dJ7_fill_d0a16_14 rfl rfl ?_
        refine x_last C i 40 (by decide) rfl rfl rfl (by omega) (by decide) dJ7_fill_d0a16_15 ?_
        refine z_noJ rfl ?_
        refine j_iinc C 2 (nI (i + 1)) [(3, .int (nI (i + 1))), (0, .ref (ad 56)), (1, .long 0), (4, .int 40)] dJ7_fill_d0a16_16 rfl (nI_1 i) (by decide) rfl ?_
        refine j_goto C 6 dJ7_fill_d0a16_19 (by decide) ?_
        refine j_lv [1, 2, 0, 3] rfl ?_
        exact ih (i + 1) (by omega) (by omega)
  exact L (40 - 0) 0 (by omega) (by omega)
set_option maxHeartbeats 4000000 in
set_option maxRecDepth 100000 in
theorem k242_X10_layOut {l : Launch} {dC : Nat → ClassId} {dI : Nat → Nat → Nat} {ad : Nat → Nat} {cA : Nat → ClassId} (p0 : Int32) (p1 : Int32) : Cv l 1 yX10_layOut wsX10_layOut dC dI ad cA [.ref (ad 55), .int p0, .int p1] M0 (fun M' => (wI (wI M0 55 1 p0) 55 2 p1) = M') := by
  refine cv_of (cc := cX10_layOut) (maxL := 3) (lv := [(0, .ref (ad 55)), (1, .int p0), (2, .int p1)]) (by decide) rfl (Nat.le_of_ble_eq_true rfl) rfl ?_
  intro p e s m args below meth c A Q C hret
  refine j_aload_n C 0 0 dX10_layOut_0 rfl rfl ?_
  refine j_getP C 9 56 fX10_layOut_9 (by decide) rfl (by decide) rfl rfl dX10_layOut_1 ?_
  refine j_lconst C 0 dX10_layOut_4 (by decide) ?_
  refine j_callSv C (d := 0) (As := [.ref (ad 56), .long 0]) (st := []) (k241_J7_fill_d0a16) gX10_layOut_J7_fill_d0a16 rfl hdJ7_fill_d0a16s (by decide) (Nat.le_of_ble_eq_true rfl) dX10_layOut_5 rfl (fun M' hp => ?_)
  obtain rfl := hp
  refine j_aload_n C 0 0 dX10_layOut_8 rfl rfl ?_
  refine j_iload_n C 1 1 dX10_layOut_9 rfl rfl ?_
  refine j_putI C 9 qX10_layOut_15 rfl rfl (by decide) rfl (by decide) rfl dX10_layOut_10 ?_
  refine j_aload_n C 0 0 dX10_layOut_13 rfl rfl ?_
  refine j_iload_n C 2 2 dX10_layOut_14 rfl rfl ?_
  refine j_putI C 9 qX10_layOut_19 rfl rfl (by decide) rfl (by decide) rfl dX10_layOut_15 ?_
  exact hret _ _ _ dX10_layOut_18 rfl
set_option maxHeartbeats 4000000 in
set_option maxRecDepth 100000 in
theorem k243_J7_fill_d0a16 {l : Launch} {dC : Nat → ClassId} {dI : Nat → Nat → Nat} {ad : Nat → Nat} {cA : Nat → ClassId} : Cv l 0 yJ7_fill_d0a16 wsJ7_fill_d0a16 dC dI ad cA [.ref (ad 58), .long 0] M0 (fun M' => M0 = M') := by
  refine cv_of (cc := cJ7_fill_d0a16) (maxL := 5) (lv := [(0, .ref (ad 58)), (1, .long 0)]) (by decide) rfl (Nat.le_of_ble_eq_true rfl) rfl ?_
  intro p e s m args below meth c A Q C hret
  refine j_iconst C 0 dJ7_fill_d0a16_0 (by decide) ?_
  refine j_istore_n C 3 [(3, .int 0), (0, .ref (ad 58)), (1, .long 0)] dJ7_fill_d0a16_1 rfl (by decide) rfl ?_
  refine j_aload_n C 1 0 dJ7_fill_d0a16_2 rfl rfl ?_
  refine j_alen C 40 (by decide) (by decide) (by decide) dJ7_fill_d0a16_3 ?_
  refine j_istore C 4 [(4, .int 40), (3, .int 0), (0, .ref (ad 58)), (1, .long 0)] dJ7_fill_d0a16_4 (by decide) rfl ?_
  refine j_lv [2, 3, 1, 0] rfl ?_
  have L : ∀ (n i : Nat), 0 ≤ i → i + n = 40 → jj p l e (cn_R 0) s m args below meth c 0 0 Q 5 dC dI ad cA A M0 6 [(0, .ref (ad 58)), (1, .long 0), (3, .int (nI i)), (4, .int 40)] [] := by
    intro n
    induction n with
    | zero =>
      intro i h1 h2
      obtain rfl : i = 40 := by omega
      refine j_iload_n C 2 3 dJ7_fill_d0a16_6 rfl rfl ?_
      refine j_iload C 3 dJ7_fill_d0a16_7 rfl ?_
      refine j_icmp_ge_t C 22 dJ7_fill_d0a16_9 (by decide) (by decide) ?_
      exact hret _ _ _ dJ7_fill_d0a16_22 rfl
    | succ n ih =>
      intro i h1 h2
      refine j_iload_n C 2 3 dJ7_fill_d0a16_6 rfl rfl ?_
      refine j_iload C 3 dJ7_fill_d0a16_7 rfl ?_
      refine z_icmp_ge C 22 (i : Int) 40 (nI_toInt (n := i) (by omega)) (by decide) dJ7_fill_d0a16_9 (by decide) (fun h1 => ?_) (fun h1 => ?_)
      · exfalso; omega
      · refine j_aload_n C 0 0 dJ7_fill_d0a16_12 rfl rfl ?_
        refine j_iload_n C 2 3 dJ7_fill_d0a16_13 rfl rfl ?_
        refine j_lload_n C 1 1 dJ7_fill_d0a16_14 rfl rfl ?_
        refine x_last C i 40 (by decide) rfl rfl rfl (by omega) (by decide) dJ7_fill_d0a16_15 ?_
        refine z_noJ rfl ?_
        refine j_iinc C 2 (nI (i + 1)) [(3, .int (nI (i + 1))), (0, .ref (ad 58)), (1, .long 0), (4, .int 40)] dJ7_fill_d0a16_16 rfl (nI_1 i) (by decide) rfl ?_
        refine j_goto C 6 dJ7_fill_d0a16_19 (by decide) ?_
        refine j_lv [1, 2, 0, 3] rfl ?_
        exact ih (i + 1) (by omega) (by omega)
  exact L (40 - 0) 0 (by omega) (by omega)
set_option maxHeartbeats 4000000 in
set_option maxRecDepth 100000 in
theorem k244_X10_layOut {l : Launch} {dC : Nat → ClassId} {dI : Nat → Nat → Nat} {ad : Nat → Nat} {cA : Nat → ClassId} (p0 : Int32) (p1 : Int32) : Cv l 1 yX10_layOut wsX10_layOut dC dI ad cA [.ref (ad 57), .int p0, .int p1] M0 (fun M' => (wI (wI M0 57 1 p0) 57 2 p1) = M') := by
  refine cv_of (cc := cX10_layOut) (maxL := 3) (lv := [(0, .ref (ad 57)), (1, .int p0), (2, .int p1)]) (by decide) rfl (Nat.le_of_ble_eq_true rfl) rfl ?_
  intro p e s m args below meth c A Q C hret
  refine j_aload_n C 0 0 dX10_layOut_0 rfl rfl ?_
  refine j_getP C 9 58 fX10_layOut_9 (by decide) rfl (by decide) rfl rfl dX10_layOut_1 ?_
  refine j_lconst C 0 dX10_layOut_4 (by decide) ?_
  refine j_callSv C (d := 0) (As := [.ref (ad 58), .long 0]) (st := []) (k243_J7_fill_d0a16) gX10_layOut_J7_fill_d0a16 rfl hdJ7_fill_d0a16s (by decide) (Nat.le_of_ble_eq_true rfl) dX10_layOut_5 rfl (fun M' hp => ?_)
  obtain rfl := hp
  refine j_aload_n C 0 0 dX10_layOut_8 rfl rfl ?_
  refine j_iload_n C 1 1 dX10_layOut_9 rfl rfl ?_
  refine j_putI C 9 qX10_layOut_15 rfl rfl (by decide) rfl (by decide) rfl dX10_layOut_10 ?_
  refine j_aload_n C 0 0 dX10_layOut_13 rfl rfl ?_
  refine j_iload_n C 2 2 dX10_layOut_14 rfl rfl ?_
  refine j_putI C 9 qX10_layOut_19 rfl rfl (by decide) rfl (by decide) rfl dX10_layOut_15 ?_
  exact hret _ _ _ dX10_layOut_18 rfl
set_option maxHeartbeats 4000000 in
set_option maxRecDepth 100000 in
theorem ox_numbers {l : Launch} {dC : Nat → ClassId} {dI : Nat → Nat → Nat} {ad : Nat → Nat} {cA : Nat → ClassId} (p0 : Int32) (p1 : Int32) (p2 : Int32) : Ci l 2 yX11_numbers wsX11_numbers dC dI ad cA [.ref (ad 0), .int p0, .int p1, .int p2] M0 (fun r M' => r = fo_numbers p0 p1 p2 ∧ MB M') := by
  refine ci_of (cc := cX11_numbers) (maxL := 4) (ty := .int) (lv := [(0, .ref (ad 0)), (1, .int p0), (2, .int p1), (3, .int p2)]) (by decide) rfl (fun r M' hp => rfl) (Nat.le_of_ble_eq_true rfl) rfl ?_
  intro p e s m args below meth c A Q C hret
  refine j_iload_n C 1 1 dX11_numbers_0 rfl rfl ?_
  refine j_callSi C (d := 0) (As := [.int p0]) (st := []) (k94_X11_isTray p0) gX11_numbers_X11_isTray rfl hdX11_isTrays (by decide) (Nat.le_of_ble_eq_true rfl) dX11_numbers_1 rfl (fun r M' hp => ?_)
  rcases hp with ⟨h1, rfl, rfl⟩ | ⟨⟨h2, h3⟩, rfl, rfl⟩ | ⟨⟨h4, h5⟩, rfl, rfl⟩
  · refine j_if_eq_t C 16 dX11_numbers_4 (by decide) (by decide) ?_
    refine j_bipush C (-2) dX11_numbers_16 (by decide) ?_
    exact hret _ _ _ _ dX11_numbers_18 ⟨by first | rfl | (unfold fo_numbers; rw [if_pos (by rw [nI_toInt (by omega)]; omega), nI_clamp (by omega)]; exact hrel) | (unfold fo_numbers; (repeat' split) <;> first | rfl | (exfalso; omega) | (exfalso; simp_all; done)), MB_0⟩
  · refine j_if_eq_t C 16 dX11_numbers_4 (by decide) (by decide) ?_
    refine j_bipush C (-2) dX11_numbers_16 (by decide) ?_
    exact hret _ _ _ _ dX11_numbers_18 ⟨by first | rfl | (unfold fo_numbers; rw [if_pos (by rw [nI_toInt (by omega)]; omega), nI_clamp (by omega)]; exact hrel) | (unfold fo_numbers; (repeat' split) <;> first | rfl | (exfalso; omega) | (exfalso; simp_all; done)), MB_0⟩
  · refine j_if_eq_f C 16 dX11_numbers_4 (by decide) (by decide) ?_
    refine j_iload_n C 2 2 dX11_numbers_7 rfl rfl ?_
    refine z_if_lt C 16 p1.toInt rfl dX11_numbers_8 (by decide) (fun h6 => ?_) (fun h6 => ?_)
    · refine j_bipush C (-2) dX11_numbers_16 (by decide) ?_
      exact hret _ _ _ _ dX11_numbers_18 ⟨by first | rfl | (unfold fo_numbers; rw [if_pos (by rw [nI_toInt (by omega)]; omega), nI_clamp (by omega)]; exact hrel) | (unfold fo_numbers; (repeat' split) <;> first | rfl | (exfalso; omega) | (exfalso; simp_all; done)), MB_0⟩
    · refine j_iload_n C 2 2 dX11_numbers_11 rfl rfl ?_
      refine j_iconst C 3 dX11_numbers_12 (by decide) ?_
      refine z_icmp_le C 19 p1.toInt 3 rfl (by decide) dX11_numbers_13 (by decide) (fun h7 => ?_) (fun h7 => ?_)
      · refine j_iload_n C 3 3 dX11_numbers_19 rfl rfl ?_
        refine z_if_lt C 29 p2.toInt rfl dX11_numbers_20 (by decide) (fun h8 => ?_) (fun h8 => ?_)
        · refine j_bipush C (-3) dX11_numbers_29 (by decide) ?_
          exact hret _ _ _ _ dX11_numbers_31 ⟨by first | rfl | (unfold fo_numbers; rw [if_pos (by rw [nI_toInt (by omega)]; omega), nI_clamp (by omega)]; exact hrel) | (unfold fo_numbers; (repeat' split) <;> first | rfl | (exfalso; omega) | (exfalso; simp_all; done)), MB_0⟩
        · refine j_iload_n C 3 3 dX11_numbers_23 rfl rfl ?_
          refine j_bipush C 40 dX11_numbers_24 (by decide) ?_
          refine z_icmp_le C 32 p2.toInt 40 rfl (by decide) dX11_numbers_26 (by decide) (fun h9 => ?_) (fun h9 => ?_)
          · refine j_aload_n C 0 0 dX11_numbers_32 rfl rfl ?_
            refine j_getP C 10 50 fX11_numbers_52 (by decide) rfl (by decide) rfl rfl dX11_numbers_33 ?_
            refine j_iload_n C 1 1 dX11_numbers_36 rfl rfl ?_
            obtain ⟨j, hj, rfl⟩ := z_sp (x := p0) (b := 3) (by omega) (by omega)
            rcases (show j = 0 ∨ j = 1 ∨ j = 2 ∨ j = 3 by omega) with rfl | rfl | rfl | rfl
            · show jj _ _ _ _ _ _ _ _ _ _ _ _ _ _ _ _ _ _ _ M0 37 [(0, .ref (ad 0)), (1, .int 0), (2, .int p1), (3, .int p2)] [.int 0, .ref (ad 50)]
              refine x_aald C 0 4 51 (by decide) (by decide) rfl rfl (by decide) (by decide) rfl dX11_numbers_37 ?_
              refine j_iload_n C 2 2 dX11_numbers_38 rfl rfl ?_
              refine j_iload_n C 3 3 dX11_numbers_39 rfl rfl ?_
              refine j_callVv C (d := 1) (As := [.int p1, .int p2]) (st := []) 51 (by decide) rfl (by decide) rfl (k238_X10_layOut p1 p2) gX11_numbers_X10_layOut rfl hdX10_layOut (by decide) (Nat.le_of_ble_eq_true rfl) dX11_numbers_40 rfl (fun M' hp => ?_)
              obtain rfl := hp
              refine j_iconst C 0 dX11_numbers_43 (by decide) ?_
              exact hret _ _ _ _ dX11_numbers_44 ⟨by first | rfl | (unfold fo_numbers; rw [if_pos (by rw [nI_toInt (by omega)]; omega), nI_clamp (by omega)]; exact hrel) | (unfold fo_numbers; (repeat' split) <;> first | rfl | (exfalso; omega) | (exfalso; simp_all; done)), (MB_I (MB_I MB_0 (by decide)) (by decide))⟩
            · show jj _ _ _ _ _ _ _ _ _ _ _ _ _ _ _ _ _ _ _ M0 37 [(0, .ref (ad 0)), (1, .int 1), (2, .int p1), (3, .int p2)] [.int 1, .ref (ad 50)]
              refine x_aald C 1 4 53 (by decide) (by decide) rfl rfl (by decide) (by decide) rfl dX11_numbers_37 ?_
              refine j_iload_n C 2 2 dX11_numbers_38 rfl rfl ?_
              refine j_iload_n C 3 3 dX11_numbers_39 rfl rfl ?_
              refine j_callVv C (d := 1) (As := [.int p1, .int p2]) (st := []) 53 (by decide) rfl (by decide) rfl (k240_X10_layOut p1 p2) gX11_numbers_X10_layOut rfl hdX10_layOut (by decide) (Nat.le_of_ble_eq_true rfl) dX11_numbers_40 rfl (fun M' hp => ?_)
              obtain rfl := hp
              refine j_iconst C 0 dX11_numbers_43 (by decide) ?_
              exact hret _ _ _ _ dX11_numbers_44 ⟨by first | rfl | (unfold fo_numbers; rw [if_pos (by rw [nI_toInt (by omega)]; omega), nI_clamp (by omega)]; exact hrel) | (unfold fo_numbers; (repeat' split) <;> first | rfl | (exfalso; omega) | (exfalso; simp_all; done)), (MB_I (MB_I MB_0 (by decide)) (by decide))⟩
            · show jj _ _ _ _ _ _ _ _ _ _ _ _ _ _ _ _ _ _ _ M0 37 [(0, .ref (ad 0)), (1, .int 2), (2, .int p1), (3, .int p2)] [.int 2, .ref (ad 50)]
              refine x_aald C 2 4 55 (by decide) (by decide) rfl rfl (by decide) (by decide) rfl dX11_numbers_37 ?_
              refine j_iload_n C 2 2 dX11_numbers_38 rfl rfl ?_
              refine j_iload_n C 3 3 dX11_numbers_39 rfl rfl ?_
              refine j_callVv C (d := 1) (As := [.int p1, .int p2]) (st := []) 55 (by decide) rfl (by decide) rfl (k242_X10_layOut p1 p2) gX11_numbers_X10_layOut rfl hdX10_layOut (by decide) (Nat.le_of_ble_eq_true rfl) dX11_numbers_40 rfl (fun M' hp => ?_)
              obtain rfl := hp
              refine j_iconst C 0 dX11_numbers_43 (by decide) ?_
              exact hret _ _ _ _ dX11_numbers_44 ⟨by first | rfl | (unfold fo_numbers; rw [if_pos (by rw [nI_toInt (by omega)]; omega), nI_clamp (by omega)]; exact hrel) | (unfold fo_numbers; (repeat' split) <;> first | rfl | (exfalso; omega) | (exfalso; simp_all; done)), (MB_I (MB_I MB_0 (by decide)) (by decide))⟩
            · show jj _ _ _ _ _ _ _ _ _ _ _ _ _ _ _ _ _ _ _ M0 37 [(0, .ref (ad 0)), (1, .int 3), (2, .int p1), (3, .int p2)] [.int 3, .ref (ad 50)]
              refine x_aald C 3 4 57 (by decide) (by decide) rfl rfl (by decide) (by decide) rfl dX11_numbers_37 ?_
              refine j_iload_n C 2 2 dX11_numbers_38 rfl rfl ?_
              refine j_iload_n C 3 3 dX11_numbers_39 rfl rfl ?_
              refine j_callVv C (d := 1) (As := [.int p1, .int p2]) (st := []) 57 (by decide) rfl (by decide) rfl (k244_X10_layOut p1 p2) gX11_numbers_X10_layOut rfl hdX10_layOut (by decide) (Nat.le_of_ble_eq_true rfl) dX11_numbers_40 rfl (fun M' hp => ?_)
              obtain rfl := hp
              refine j_iconst C 0 dX11_numbers_43 (by decide) ?_
              exact hret _ _ _ _ dX11_numbers_44 ⟨by first | rfl | (unfold fo_numbers; rw [if_pos (by rw [nI_toInt (by omega)]; omega), nI_clamp (by omega)]; exact hrel) | (unfold fo_numbers; (repeat' split) <;> first | rfl | (exfalso; omega) | (exfalso; simp_all; done)), (MB_I (MB_I MB_0 (by decide)) (by decide))⟩
          · refine j_bipush C (-3) dX11_numbers_29 (by decide) ?_
            exact hret _ _ _ _ dX11_numbers_31 ⟨by first | rfl | (unfold fo_numbers; rw [if_pos (by rw [nI_toInt (by omega)]; omega), nI_clamp (by omega)]; exact hrel) | (unfold fo_numbers; (repeat' split) <;> first | rfl | (exfalso; omega) | (exfalso; simp_all; done)), MB_0⟩
      · refine j_bipush C (-2) dX11_numbers_16 (by decide) ?_
        exact hret _ _ _ _ dX11_numbers_18 ⟨by first | rfl | (unfold fo_numbers; rw [if_pos (by rw [nI_toInt (by omega)]; omega), nI_clamp (by omega)]; exact hrel) | (unfold fo_numbers; (repeat' split) <;> first | rfl | (exfalso; omega) | (exfalso; simp_all; done)), MB_0⟩
set_option maxHeartbeats 4000000 in
set_option maxRecDepth 100000 in
theorem ox_write {l : Launch} {dC : Nat → ClassId} {dI : Nat → Nat → Nat} {ad : Nat → Nat} {cA : Nat → ClassId} (p0 : Int32) (p1 : Int32) (p2 : Int64) : Cj l 2 yX11_write wsX11_write dC dI ad cA [.ref (ad 0), .int p0, .int p1, .long p2] M0 (fun r M' => r = fo_write p0 p1 p2 ∧ MB M') := by
  refine cj_of (cc := cX11_write) (maxL := 6) (lv := [(0, .ref (ad 0)), (1, .int p0), (2, .int p1), (3, .long p2)]) (by decide) rfl (Nat.le_of_ble_eq_true rfl) rfl ?_
  intro p e s m args below meth c A Q C hret
  refine j_aload_n C 0 0 dX11_write_0 rfl rfl ?_
  refine j_iload_n C 1 1 dX11_write_1 rfl rfl ?_
  refine j_callVi C (d := 1) (As := [.int p0]) (st := []) 0 (by decide) rfl (by decide) rfl (k103_X11_trayRefusal p0) gX11_write_X11_trayRefusal rfl hdX11_trayRefusal (by decide) (Nat.le_of_ble_eq_true rfl) dX11_write_2 rfl (fun r M' hp => ?_)
  rcases hp with ⟨h1, rfl, rfl⟩ | ⟨⟨h2, h3⟩, rfl, rfl⟩ | ⟨⟨h4, h5, h6⟩, rfl, rfl⟩ | ⟨⟨h7, h8, h9⟩, rfl, rfl⟩ | ⟨⟨h10, h11, h12⟩, rfl, rfl⟩ | ⟨⟨h13, h14, h15⟩, rfl, rfl⟩
  · refine j_istore C 5 [(5, .int (-2)), (0, .ref (ad 0)), (1, .int p0), (2, .int p1), (3, .long p2)] dX11_write_5 (by decide) rfl ?_
    refine j_iload C 0 dX11_write_7 rfl ?_
    refine j_if_eq_f C 16 dX11_write_9 (by decide) (by decide) ?_
    refine j_iload C 0 dX11_write_12 rfl ?_
    refine z_i2l C (-2) (by decide) dX11_write_14 ?_
    exact hret _ _ _ _ dX11_write_15 ⟨by first | rfl | (unfold fo_write; rw [if_pos (by rw [nI_toInt (by omega)]; omega), nI_clamp (by omega)]; exact hrel) | (unfold fo_write; (repeat' split) <;> first | rfl | (exfalso; omega) | (exfalso; simp_all; done)), MB_0⟩
  · refine j_istore C 5 [(5, .int (-2)), (0, .ref (ad 0)), (1, .int p0), (2, .int p1), (3, .long p2)] dX11_write_5 (by decide) rfl ?_
    refine j_iload C 0 dX11_write_7 rfl ?_
    refine j_if_eq_f C 16 dX11_write_9 (by decide) (by decide) ?_
    refine j_iload C 0 dX11_write_12 rfl ?_
    refine z_i2l C (-2) (by decide) dX11_write_14 ?_
    exact hret _ _ _ _ dX11_write_15 ⟨by first | rfl | (unfold fo_write; rw [if_pos (by rw [nI_toInt (by omega)]; omega), nI_clamp (by omega)]; exact hrel) | (unfold fo_write; (repeat' split) <;> first | rfl | (exfalso; omega) | (exfalso; simp_all; done)), MB_0⟩
  · refine j_istore C 5 [(5, .int (-6)), (0, .ref (ad 0)), (1, .int p0), (2, .int p1), (3, .long p2)] dX11_write_5 (by decide) rfl ?_
    refine j_iload C 0 dX11_write_7 rfl ?_
    refine j_if_eq_f C 16 dX11_write_9 (by decide) (by decide) ?_
    refine j_iload C 0 dX11_write_12 rfl ?_
    refine z_i2l C (-6) (by decide) dX11_write_14 ?_
    exact hret _ _ _ _ dX11_write_15 ⟨by first | rfl | (unfold fo_write; rw [if_pos (by rw [nI_toInt (by omega)]; omega), nI_clamp (by omega)]; exact hrel) | (unfold fo_write; (repeat' split) <;> first | rfl | (exfalso; omega) | (exfalso; simp_all; done)), MB_0⟩
  · refine j_istore C 5 [(5, .int (-6)), (0, .ref (ad 0)), (1, .int p0), (2, .int p1), (3, .long p2)] dX11_write_5 (by decide) rfl ?_
    refine j_iload C 0 dX11_write_7 rfl ?_
    refine j_if_eq_f C 16 dX11_write_9 (by decide) (by decide) ?_
    refine j_iload C 0 dX11_write_12 rfl ?_
    refine z_i2l C (-6) (by decide) dX11_write_14 ?_
    exact hret _ _ _ _ dX11_write_15 ⟨by first | rfl | (unfold fo_write; rw [if_pos (by rw [nI_toInt (by omega)]; omega), nI_clamp (by omega)]; exact hrel) | (unfold fo_write; (repeat' split) <;> first | rfl | (exfalso; omega) | (exfalso; simp_all; done)), MB_0⟩
  · refine j_istore C 5 [(5, .int (-6)), (0, .ref (ad 0)), (1, .int p0), (2, .int p1), (3, .long p2)] dX11_write_5 (by decide) rfl ?_
    refine j_iload C 0 dX11_write_7 rfl ?_
    refine j_if_eq_f C 16 dX11_write_9 (by decide) (by decide) ?_
    refine j_iload C 0 dX11_write_12 rfl ?_
    refine z_i2l C (-6) (by decide) dX11_write_14 ?_
    exact hret _ _ _ _ dX11_write_15 ⟨by first | rfl | (unfold fo_write; rw [if_pos (by rw [nI_toInt (by omega)]; omega), nI_clamp (by omega)]; exact hrel) | (unfold fo_write; (repeat' split) <;> first | rfl | (exfalso; omega) | (exfalso; simp_all; done)), MB_0⟩
  · refine j_istore C 5 [(5, .int (-6)), (0, .ref (ad 0)), (1, .int p0), (2, .int p1), (3, .long p2)] dX11_write_5 (by decide) rfl ?_
    refine j_iload C 0 dX11_write_7 rfl ?_
    refine j_if_eq_f C 16 dX11_write_9 (by decide) (by decide) ?_
    refine j_iload C 0 dX11_write_12 rfl ?_
    refine z_i2l C (-6) (by decide) dX11_write_14 ?_
    exact hret _ _ _ _ dX11_write_15 ⟨by first | rfl | (unfold fo_write; rw [if_pos (by rw [nI_toInt (by omega)]; omega), nI_clamp (by omega)]; exact hrel) | (unfold fo_write; (repeat' split) <;> first | rfl | (exfalso; omega) | (exfalso; simp_all; done)), MB_0⟩
set_option maxHeartbeats 4000000 in
set_option maxRecDepth 100000 in
theorem ox_lists {l : Launch} {dC : Nat → ClassId} {dI : Nat → Nat → Nat} {ad : Nat → Nat} {cA : Nat → ClassId} (p0 : Int32) : Ci l 2 yX11_lists wsX11_lists dC dI ad cA [.ref (ad 0), .int p0] M0 (fun r M' => r = fo_lists p0 ∧ MB M') := by
  refine ci_of (cc := cX11_lists) (maxL := 6) (ty := .int) (lv := [(0, .ref (ad 0)), (1, .int p0)]) (by decide) rfl (fun r M' hp => rfl) (Nat.le_of_ble_eq_true rfl) rfl ?_
  intro p e s m args below meth c A Q C hret
  refine j_aload_n C 0 0 dX11_lists_0 rfl rfl ?_
  refine j_iload_n C 1 1 dX11_lists_1 rfl rfl ?_
  refine j_callVi C (d := 1) (As := [.int p0]) (st := []) 0 (by decide) rfl (by decide) rfl (k103_X11_trayRefusal p0) gX11_lists_X11_trayRefusal rfl hdX11_trayRefusal (by decide) (Nat.le_of_ble_eq_true rfl) dX11_lists_2 rfl (fun r M' hp => ?_)
  rcases hp with ⟨h1, rfl, rfl⟩ | ⟨⟨h2, h3⟩, rfl, rfl⟩ | ⟨⟨h4, h5, h6⟩, rfl, rfl⟩ | ⟨⟨h7, h8, h9⟩, rfl, rfl⟩ | ⟨⟨h10, h11, h12⟩, rfl, rfl⟩ | ⟨⟨h13, h14, h15⟩, rfl, rfl⟩
  · refine j_istore_n C 2 [(2, .int (-2)), (0, .ref (ad 0)), (1, .int p0)] dX11_lists_5 rfl (by decide) rfl ?_
    refine j_iload_n C 0 2 dX11_lists_6 rfl rfl ?_
    refine j_if_eq_f C 12 dX11_lists_7 (by decide) (by decide) ?_
    refine j_iload_n C 0 2 dX11_lists_10 rfl rfl ?_
    exact hret _ _ _ _ dX11_lists_11 ⟨by first | rfl | (unfold fo_lists; rw [if_pos (by rw [nI_toInt (by omega)]; omega), nI_clamp (by omega)]; exact hrel) | (unfold fo_lists; (repeat' split) <;> first | rfl | (exfalso; omega) | (exfalso; simp_all; done)), MB_0⟩
  · refine j_istore_n C 2 [(2, .int (-2)), (0, .ref (ad 0)), (1, .int p0)] dX11_lists_5 rfl (by decide) rfl ?_
    refine j_iload_n C 0 2 dX11_lists_6 rfl rfl ?_
    refine j_if_eq_f C 12 dX11_lists_7 (by decide) (by decide) ?_
    refine j_iload_n C 0 2 dX11_lists_10 rfl rfl ?_
    exact hret _ _ _ _ dX11_lists_11 ⟨by first | rfl | (unfold fo_lists; rw [if_pos (by rw [nI_toInt (by omega)]; omega), nI_clamp (by omega)]; exact hrel) | (unfold fo_lists; (repeat' split) <;> first | rfl | (exfalso; omega) | (exfalso; simp_all; done)), MB_0⟩
  · refine j_istore_n C 2 [(2, .int (-6)), (0, .ref (ad 0)), (1, .int p0)] dX11_lists_5 rfl (by decide) rfl ?_
    refine j_iload_n C 0 2 dX11_lists_6 rfl rfl ?_
    refine j_if_eq_f C 12 dX11_lists_7 (by decide) (by decide) ?_
    refine j_iload_n C 0 2 dX11_lists_10 rfl rfl ?_
    exact hret _ _ _ _ dX11_lists_11 ⟨by first | rfl | (unfold fo_lists; rw [if_pos (by rw [nI_toInt (by omega)]; omega), nI_clamp (by omega)]; exact hrel) | (unfold fo_lists; (repeat' split) <;> first | rfl | (exfalso; omega) | (exfalso; simp_all; done)), MB_0⟩
  · refine j_istore_n C 2 [(2, .int (-6)), (0, .ref (ad 0)), (1, .int p0)] dX11_lists_5 rfl (by decide) rfl ?_
    refine j_iload_n C 0 2 dX11_lists_6 rfl rfl ?_
    refine j_if_eq_f C 12 dX11_lists_7 (by decide) (by decide) ?_
    refine j_iload_n C 0 2 dX11_lists_10 rfl rfl ?_
    exact hret _ _ _ _ dX11_lists_11 ⟨by first | rfl | (unfold fo_lists; rw [if_pos (by rw [nI_toInt (by omega)]; omega), nI_clamp (by omega)]; exact hrel) | (unfold fo_lists; (repeat' split) <;> first | rfl | (exfalso; omega) | (exfalso; simp_all; done)), MB_0⟩
  · refine j_istore_n C 2 [(2, .int (-6)), (0, .ref (ad 0)), (1, .int p0)] dX11_lists_5 rfl (by decide) rfl ?_
    refine j_iload_n C 0 2 dX11_lists_6 rfl rfl ?_
    refine j_if_eq_f C 12 dX11_lists_7 (by decide) (by decide) ?_
    refine j_iload_n C 0 2 dX11_lists_10 rfl rfl ?_
    exact hret _ _ _ _ dX11_lists_11 ⟨by first | rfl | (unfold fo_lists; rw [if_pos (by rw [nI_toInt (by omega)]; omega), nI_clamp (by omega)]; exact hrel) | (unfold fo_lists; (repeat' split) <;> first | rfl | (exfalso; omega) | (exfalso; simp_all; done)), MB_0⟩
  · refine j_istore_n C 2 [(2, .int (-6)), (0, .ref (ad 0)), (1, .int p0)] dX11_lists_5 rfl (by decide) rfl ?_
    refine j_iload_n C 0 2 dX11_lists_6 rfl rfl ?_
    refine j_if_eq_f C 12 dX11_lists_7 (by decide) (by decide) ?_
    refine j_iload_n C 0 2 dX11_lists_10 rfl rfl ?_
    exact hret _ _ _ _ dX11_lists_11 ⟨by first | rfl | (unfold fo_lists; rw [if_pos (by rw [nI_toInt (by omega)]; omega), nI_clamp (by omega)]; exact hrel) | (unfold fo_lists; (repeat' split) <;> first | rfl | (exfalso; omega) | (exfalso; simp_all; done)), MB_0⟩
set_option maxHeartbeats 4000000 in
set_option maxRecDepth 100000 in
theorem k252_X7_copyFrom {l : Launch} {dC : Nat → ClassId} {dI : Nat → Nat → Nat} {ad : Nat → Nat} {cA : Nat → ClassId} : Cv l 0 yX7_copyFrom wsX7_copyFrom dC dI ad cA [.ref (ad 61), .ref (ad 2)] (wI M0 60 0 1) (fun M' => (wI M0 60 0 1) = M') := by
  refine cv_of (cc := cX7_copyFrom) (maxL := 3) (lv := [(0, .ref (ad 61)), (1, .ref (ad 2))]) (by decide) rfl (Nat.le_of_ble_eq_true rfl) rfl ?_
  intro p e s m args below meth c A Q C hret
  refine j_aload_n C 0 0 dX7_copyFrom_0 rfl rfl ?_
  refine j_aload_n C 1 1 dX7_copyFrom_1 rfl rfl ?_
  refine j_getI C 6 0 fX7_copyFrom_9 (by decide) rfl (by decide) rfl rfl dX7_copyFrom_2 ?_
  refine j_putI C 6 qX7_copyFrom_9 rfl rfl (by decide) rfl (by decide) rfl dX7_copyFrom_5 ?_
  refine z_noI rfl ?_
  refine j_aload_n C 0 0 dX7_copyFrom_8 rfl rfl ?_
  refine j_aload_n C 1 1 dX7_copyFrom_9 rfl rfl ?_
  refine j_getI C 6 0 fX7_copyFrom_15 (by decide) rfl (by decide) rfl rfl dX7_copyFrom_10 ?_
  refine j_putI C 6 qX7_copyFrom_15 rfl rfl (by decide) rfl (by decide) rfl dX7_copyFrom_13 ?_
  refine z_noI rfl ?_
  refine j_aload_n C 0 0 dX7_copyFrom_16 rfl rfl ?_
  refine j_aload_n C 1 1 dX7_copyFrom_17 rfl rfl ?_
  refine j_getI C 6 0 fX7_copyFrom_31 (by decide) rfl (by decide) rfl rfl dX7_copyFrom_18 ?_
  refine j_putI C 6 qX7_copyFrom_31 rfl rfl (by decide) rfl (by decide) rfl dX7_copyFrom_21 ?_
  refine z_noI rfl ?_
  refine j_aload_n C 0 0 dX7_copyFrom_24 rfl rfl ?_
  refine j_aload_n C 1 1 dX7_copyFrom_25 rfl rfl ?_
  refine j_getI C 6 0 fX7_copyFrom_34 (by decide) rfl (by decide) rfl rfl dX7_copyFrom_26 ?_
  refine j_putI C 6 qX7_copyFrom_34 rfl rfl (by decide) rfl (by decide) rfl dX7_copyFrom_29 ?_
  refine z_noI rfl ?_
  refine j_aload_n C 0 0 dX7_copyFrom_32 rfl rfl ?_
  refine j_aload_n C 1 1 dX7_copyFrom_33 rfl rfl ?_
  refine j_getI C 6 0 fX7_copyFrom_37 (by decide) rfl (by decide) rfl rfl dX7_copyFrom_34 ?_
  refine j_putI C 6 qX7_copyFrom_37 rfl rfl (by decide) rfl (by decide) rfl dX7_copyFrom_37 ?_
  refine z_noI rfl ?_
  refine j_aload_n C 0 0 dX7_copyFrom_40 rfl rfl ?_
  refine j_aload_n C 1 1 dX7_copyFrom_41 rfl rfl ?_
  refine j_getI C 6 0 fX7_copyFrom_40 (by decide) rfl (by decide) rfl rfl dX7_copyFrom_42 ?_
  refine j_putI C 6 qX7_copyFrom_40 rfl rfl (by decide) rfl (by decide) rfl dX7_copyFrom_45 ?_
  refine z_noI rfl ?_
  refine j_aload_n C 0 0 dX7_copyFrom_48 rfl rfl ?_
  refine j_aload_n C 1 1 dX7_copyFrom_49 rfl rfl ?_
  refine j_getI C 6 0 fX7_copyFrom_43 (by decide) rfl (by decide) rfl rfl dX7_copyFrom_50 ?_
  refine j_putI C 6 qX7_copyFrom_43 rfl rfl (by decide) rfl (by decide) rfl dX7_copyFrom_53 ?_
  refine z_noI rfl ?_
  refine j_iconst C 0 dX7_copyFrom_56 (by decide) ?_
  refine j_istore_n C 2 [(2, .int 0), (0, .ref (ad 61)), (1, .ref (ad 2))] dX7_copyFrom_57 rfl (by decide) rfl ?_
  refine j_lv [1, 2, 0] rfl ?_
  have L : ∀ (n i : Nat), 0 ≤ i → i + n = 6 → jj p l e (cn_R 0) s m args below meth c 0 0 Q 3 dC dI ad cA A (wI M0 60 0 1) 58 [(0, .ref (ad 61)), (1, .ref (ad 2)), (2, .int (nI i))] [] := by
    intro n
    induction n with
    | zero =>
      intro i h1 h2
      obtain rfl : i = 6 := by omega
      refine j_iload_n C 2 2 dX7_copyFrom_58 rfl rfl ?_
      refine j_bipush C 6 dX7_copyFrom_59 (by decide) ?_
      refine j_icmp_ge_t C 106 dX7_copyFrom_61 (by decide) (by decide) ?_
      refine j_iconst C 0 dX7_copyFrom_106 (by decide) ?_
      refine j_istore_n C 2 [(2, .int 0), (0, .ref (ad 61)), (1, .ref (ad 2))] dX7_copyFrom_107 rfl (by decide) rfl ?_
      refine j_iload_n C 0 2 dX7_copyFrom_108 rfl rfl ?_
      refine j_aload_n C 1 0 dX7_copyFrom_109 rfl rfl ?_
      refine j_getI C 6 0 fX7_copyFrom_31 (by decide) rfl (by decide) rfl rfl dX7_copyFrom_110 ?_
      refine j_icmp_ge_t C 143 dX7_copyFrom_113 (by decide) (by decide) ?_
      exact hret _ _ _ dX7_copyFrom_143 rfl
    | succ n ih =>
      intro i h1 h2
      refine j_iload_n C 2 2 dX7_copyFrom_58 rfl rfl ?_
      refine j_bipush C 6 dX7_copyFrom_59 (by decide) ?_
      refine z_icmp_ge C 106 (i : Int) 6 (nI_toInt (n := i) (by omega)) (by decide) dX7_copyFrom_61 (by decide) (fun h1 => ?_) (fun h1 => ?_)
      · exfalso; omega
      · refine j_aload_n C 0 0 dX7_copyFrom_64 rfl rfl ?_
        refine j_getP C 6 62 fX7_copyFrom_18 (by decide) rfl (by decide) rfl rfl dX7_copyFrom_65 ?_
        refine j_iload_n C 2 2 dX7_copyFrom_68 rfl rfl ?_
        refine j_aload_n C 1 1 dX7_copyFrom_69 rfl rfl ?_
        refine j_getP C 6 3 fX7_copyFrom_18 (by decide) rfl (by decide) rfl rfl dX7_copyFrom_70 ?_
        refine j_iload_n C 2 2 dX7_copyFrom_73 rfl rfl ?_
        refine x_iald C i 6 0 (by decide) rfl rfl rfl (by omega) (by decide) rfl dX7_copyFrom_74 ?_
        refine x_iast C i 6 (by decide) rfl rfl rfl (by omega) (by decide) dX7_copyFrom_75 ?_
        refine z_noI rfl ?_
        refine j_aload_n C 0 0 dX7_copyFrom_76 rfl rfl ?_
        refine j_getP C 6 63 fX7_copyFrom_22 (by decide) rfl (by decide) rfl rfl dX7_copyFrom_77 ?_
        refine j_iload_n C 2 2 dX7_copyFrom_80 rfl rfl ?_
        refine j_aload_n C 1 1 dX7_copyFrom_81 rfl rfl ?_
        refine j_getP C 6 4 fX7_copyFrom_22 (by decide) rfl (by decide) rfl rfl dX7_copyFrom_82 ?_
        refine j_iload_n C 2 2 dX7_copyFrom_85 rfl rfl ?_
        refine x_iald C i 6 0 (by decide) rfl rfl rfl (by omega) (by decide) rfl dX7_copyFrom_86 ?_
        refine x_iast C i 6 (by decide) rfl rfl rfl (by omega) (by decide) dX7_copyFrom_87 ?_
        refine z_noI rfl ?_
        refine j_aload_n C 0 0 dX7_copyFrom_88 rfl rfl ?_
        refine j_getP C 6 64 fX7_copyFrom_25 (by decide) rfl (by decide) rfl rfl dX7_copyFrom_89 ?_
        refine j_iload_n C 2 2 dX7_copyFrom_92 rfl rfl ?_
        refine j_aload_n C 1 1 dX7_copyFrom_93 rfl rfl ?_
        refine j_getP C 6 5 fX7_copyFrom_25 (by decide) rfl (by decide) rfl rfl dX7_copyFrom_94 ?_
        refine j_iload_n C 2 2 dX7_copyFrom_97 rfl rfl ?_
        refine x_iald C i 6 0 (by decide) rfl rfl rfl (by omega) (by decide) rfl dX7_copyFrom_98 ?_
        refine x_iast C i 6 (by decide) rfl rfl rfl (by omega) (by decide) dX7_copyFrom_99 ?_
        refine z_noI rfl ?_
        refine j_iinc C 2 (nI (i + 1)) [(2, .int (nI (i + 1))), (0, .ref (ad 61)), (1, .ref (ad 2))] dX7_copyFrom_100 rfl (nI_1 i) (by decide) rfl ?_
        refine j_goto C 58 dX7_copyFrom_103 (by decide) ?_
        refine j_lv [1, 2, 0] rfl ?_
        exact ih (i + 1) (by omega) (by omega)
  exact L (6 - 0) 0 (by omega) (by omega)
set_option maxHeartbeats 4000000 in
set_option maxRecDepth 100000 in
theorem k253_X9_copyFrom {l : Launch} {dC : Nat → ClassId} {dI : Nat → Nat → Nat} {ad : Nat → Nat} {cA : Nat → ClassId} : Cv l 0 yX9_copyFrom wsX9_copyFrom dC dI ad cA [.ref (ad 66), .ref (ad 12)] (wI M0 60 0 1) (fun M' => (wI M0 60 0 1) = M') := by
  refine cv_of (cc := cX9_copyFrom) (maxL := 3) (lv := [(0, .ref (ad 66)), (1, .ref (ad 12))]) (by decide) rfl (Nat.le_of_ble_eq_true rfl) rfl ?_
  intro p e s m args below meth c A Q C hret
  refine j_aload_n C 0 0 dX9_copyFrom_0 rfl rfl ?_
  refine j_aload_n C 1 1 dX9_copyFrom_1 rfl rfl ?_
  refine j_getI C 8 0 fX9_copyFrom_9 (by decide) rfl (by decide) rfl rfl dX9_copyFrom_2 ?_
  refine j_putI C 8 qX9_copyFrom_9 rfl rfl (by decide) rfl (by decide) rfl dX9_copyFrom_5 ?_
  refine z_noI rfl ?_
  refine j_iconst C 0 dX9_copyFrom_8 (by decide) ?_
  refine j_istore_n C 2 [(2, .int 0), (0, .ref (ad 66)), (1, .ref (ad 12))] dX9_copyFrom_9 rfl (by decide) rfl ?_
  refine j_lv [1, 2, 0] rfl ?_
  have L : ∀ (n i : Nat), 0 ≤ i → i + n = 8 → jj p l e (cn_R 0) s m args below meth c 0 0 Q 3 dC dI ad cA A (wI M0 60 0 1) 10 [(0, .ref (ad 66)), (1, .ref (ad 12)), (2, .int (nI i))] [] := by
    intro n
    induction n with
    | zero =>
      intro i h1 h2
      obtain rfl : i = 8 := by omega
      refine j_iload_n C 2 2 dX9_copyFrom_10 rfl rfl ?_
      refine j_bipush C 8 dX9_copyFrom_11 (by decide) ?_
      refine j_icmp_ge_t C 46 dX9_copyFrom_13 (by decide) (by decide) ?_
      refine j_aload_n C 0 0 dX9_copyFrom_46 rfl rfl ?_
      refine j_aload_n C 1 1 dX9_copyFrom_47 rfl rfl ?_
      refine j_getI C 8 0 fX9_copyFrom_22 (by decide) rfl (by decide) rfl rfl dX9_copyFrom_48 ?_
      refine j_putI C 8 qX9_copyFrom_22 rfl rfl (by decide) rfl (by decide) rfl dX9_copyFrom_51 ?_
      refine z_noI rfl ?_
      refine j_aload_n C 0 0 dX9_copyFrom_54 rfl rfl ?_
      refine j_aload_n C 1 1 dX9_copyFrom_55 rfl rfl ?_
      refine j_getI C 8 0 fX9_copyFrom_25 (by decide) rfl (by decide) rfl rfl dX9_copyFrom_56 ?_
      refine j_putI C 8 qX9_copyFrom_25 rfl rfl (by decide) rfl (by decide) rfl dX9_copyFrom_59 ?_
      refine z_noI rfl ?_
      refine j_aload_n C 0 0 dX9_copyFrom_62 rfl rfl ?_
      refine j_aload_n C 1 1 dX9_copyFrom_63 rfl rfl ?_
      refine j_getI C 8 0 fX9_copyFrom_28 (by decide) rfl (by decide) rfl rfl dX9_copyFrom_64 ?_
      refine j_putI C 8 qX9_copyFrom_28 rfl rfl (by decide) rfl (by decide) rfl dX9_copyFrom_67 ?_
      refine z_noI rfl ?_
      refine j_aload_n C 0 0 dX9_copyFrom_70 rfl rfl ?_
      refine j_aload_n C 1 1 dX9_copyFrom_71 rfl rfl ?_
      refine j_getI C 8 0 fX9_copyFrom_31 (by decide) rfl (by decide) rfl rfl dX9_copyFrom_72 ?_
      refine j_putI C 8 qX9_copyFrom_31 rfl rfl (by decide) rfl (by decide) rfl dX9_copyFrom_75 ?_
      refine z_noI rfl ?_
      refine j_aload_n C 0 0 dX9_copyFrom_78 rfl rfl ?_
      refine j_aload_n C 1 1 dX9_copyFrom_79 rfl rfl ?_
      refine j_getI C 8 0 fX9_copyFrom_34 (by decide) rfl (by decide) rfl rfl dX9_copyFrom_80 ?_
      refine j_putI C 8 qX9_copyFrom_34 rfl rfl (by decide) rfl (by decide) rfl dX9_copyFrom_83 ?_
      refine z_noI rfl ?_
      refine j_aload_n C 0 0 dX9_copyFrom_86 rfl rfl ?_
      refine j_aload_n C 1 1 dX9_copyFrom_87 rfl rfl ?_
      refine j_getI C 8 0 fX9_copyFrom_37 (by decide) rfl (by decide) rfl rfl dX9_copyFrom_88 ?_
      refine j_putI C 8 qX9_copyFrom_37 rfl rfl (by decide) rfl (by decide) rfl dX9_copyFrom_91 ?_
      refine z_noI rfl ?_
      exact hret _ _ _ dX9_copyFrom_94 rfl
    | succ n ih =>
      intro i h1 h2
      refine j_iload_n C 2 2 dX9_copyFrom_10 rfl rfl ?_
      refine j_bipush C 8 dX9_copyFrom_11 (by decide) ?_
      refine z_icmp_ge C 46 (i : Int) 8 (nI_toInt (n := i) (by omega)) (by decide) dX9_copyFrom_13 (by decide) (fun h1 => ?_) (fun h1 => ?_)
      · exfalso; omega
      · refine j_aload_n C 0 0 dX9_copyFrom_16 rfl rfl ?_
        refine j_getP C 8 67 fX9_copyFrom_15 (by decide) rfl (by decide) rfl rfl dX9_copyFrom_17 ?_
        refine j_iload_n C 2 2 dX9_copyFrom_20 rfl rfl ?_
        refine j_aload_n C 1 1 dX9_copyFrom_21 rfl rfl ?_
        refine j_getP C 8 13 fX9_copyFrom_15 (by decide) rfl (by decide) rfl rfl dX9_copyFrom_22 ?_
        refine j_iload_n C 2 2 dX9_copyFrom_25 rfl rfl ?_
        refine x_iald C i 8 0 (by decide) rfl rfl rfl (by omega) (by decide) rfl dX9_copyFrom_26 ?_
        refine x_iast C i 8 (by decide) rfl rfl rfl (by omega) (by decide) dX9_copyFrom_27 ?_
        refine z_noI rfl ?_
        refine j_aload_n C 0 0 dX9_copyFrom_28 rfl rfl ?_
        refine j_getP C 8 68 fX9_copyFrom_19 (by decide) rfl (by decide) rfl rfl dX9_copyFrom_29 ?_
        refine j_iload_n C 2 2 dX9_copyFrom_32 rfl rfl ?_
        refine j_aload_n C 1 1 dX9_copyFrom_33 rfl rfl ?_
        refine j_getP C 8 14 fX9_copyFrom_19 (by decide) rfl (by decide) rfl rfl dX9_copyFrom_34 ?_
        refine j_iload_n C 2 2 dX9_copyFrom_37 rfl rfl ?_
        refine x_iald C i 8 0 (by decide) rfl rfl rfl (by omega) (by decide) rfl dX9_copyFrom_38 ?_
        refine x_iast C i 8 (by decide) rfl rfl rfl (by omega) (by decide) dX9_copyFrom_39 ?_
        refine z_noI rfl ?_
        refine j_iinc C 2 (nI (i + 1)) [(2, .int (nI (i + 1))), (0, .ref (ad 66)), (1, .ref (ad 12))] dX9_copyFrom_40 rfl (nI_1 i) (by decide) rfl ?_
        refine j_goto C 10 dX9_copyFrom_43 (by decide) ?_
        refine j_lv [1, 2, 0] rfl ?_
        exact ih (i + 1) (by omega) (by omega)
  exact L (8 - 0) 0 (by omega) (by omega)
set_option maxHeartbeats 4000000 in
set_option maxRecDepth 100000 in
theorem k254_X7_copyFrom {l : Launch} {dC : Nat → ClassId} {dI : Nat → Nat → Nat} {ad : Nat → Nat} {cA : Nat → ClassId} : Cv l 0 yX7_copyFrom wsX7_copyFrom dC dI ad cA [.ref (ad 70), .ref (ad 2)] (wI M0 69 0 1) (fun M' => (wI M0 69 0 1) = M') := by
  refine cv_of (cc := cX7_copyFrom) (maxL := 3) (lv := [(0, .ref (ad 70)), (1, .ref (ad 2))]) (by decide) rfl (Nat.le_of_ble_eq_true rfl) rfl ?_
  intro p e s m args below meth c A Q C hret
  refine j_aload_n C 0 0 dX7_copyFrom_0 rfl rfl ?_
  refine j_aload_n C 1 1 dX7_copyFrom_1 rfl rfl ?_
  refine j_getI C 6 0 fX7_copyFrom_9 (by decide) rfl (by decide) rfl rfl dX7_copyFrom_2 ?_
  refine j_putI C 6 qX7_copyFrom_9 rfl rfl (by decide) rfl (by decide) rfl dX7_copyFrom_5 ?_
  refine z_noI rfl ?_
  refine j_aload_n C 0 0 dX7_copyFrom_8 rfl rfl ?_
  refine j_aload_n C 1 1 dX7_copyFrom_9 rfl rfl ?_
  refine j_getI C 6 0 fX7_copyFrom_15 (by decide) rfl (by decide) rfl rfl dX7_copyFrom_10 ?_
  refine j_putI C 6 qX7_copyFrom_15 rfl rfl (by decide) rfl (by decide) rfl dX7_copyFrom_13 ?_
  refine z_noI rfl ?_
  refine j_aload_n C 0 0 dX7_copyFrom_16 rfl rfl ?_
  refine j_aload_n C 1 1 dX7_copyFrom_17 rfl rfl ?_
  refine j_getI C 6 0 fX7_copyFrom_31 (by decide) rfl (by decide) rfl rfl dX7_copyFrom_18 ?_
  refine j_putI C 6 qX7_copyFrom_31 rfl rfl (by decide) rfl (by decide) rfl dX7_copyFrom_21 ?_
  refine z_noI rfl ?_
  refine j_aload_n C 0 0 dX7_copyFrom_24 rfl rfl ?_
  refine j_aload_n C 1 1 dX7_copyFrom_25 rfl rfl ?_
  refine j_getI C 6 0 fX7_copyFrom_34 (by decide) rfl (by decide) rfl rfl dX7_copyFrom_26 ?_
  refine j_putI C 6 qX7_copyFrom_34 rfl rfl (by decide) rfl (by decide) rfl dX7_copyFrom_29 ?_
  refine z_noI rfl ?_
  refine j_aload_n C 0 0 dX7_copyFrom_32 rfl rfl ?_
  refine j_aload_n C 1 1 dX7_copyFrom_33 rfl rfl ?_
  refine j_getI C 6 0 fX7_copyFrom_37 (by decide) rfl (by decide) rfl rfl dX7_copyFrom_34 ?_
  refine j_putI C 6 qX7_copyFrom_37 rfl rfl (by decide) rfl (by decide) rfl dX7_copyFrom_37 ?_
  refine z_noI rfl ?_
  refine j_aload_n C 0 0 dX7_copyFrom_40 rfl rfl ?_
  refine j_aload_n C 1 1 dX7_copyFrom_41 rfl rfl ?_
  refine j_getI C 6 0 fX7_copyFrom_40 (by decide) rfl (by decide) rfl rfl dX7_copyFrom_42 ?_
  refine j_putI C 6 qX7_copyFrom_40 rfl rfl (by decide) rfl (by decide) rfl dX7_copyFrom_45 ?_
  refine z_noI rfl ?_
  refine j_aload_n C 0 0 dX7_copyFrom_48 rfl rfl ?_
  refine j_aload_n C 1 1 dX7_copyFrom_49 rfl rfl ?_
  refine j_getI C 6 0 fX7_copyFrom_43 (by decide) rfl (by decide) rfl rfl dX7_copyFrom_50 ?_
  refine j_putI C 6 qX7_copyFrom_43 rfl rfl (by decide) rfl (by decide) rfl dX7_copyFrom_53 ?_
  refine z_noI rfl ?_
  refine j_iconst C 0 dX7_copyFrom_56 (by decide) ?_
  refine j_istore_n C 2 [(2, .int 0), (0, .ref (ad 70)), (1, .ref (ad 2))] dX7_copyFrom_57 rfl (by decide) rfl ?_
  refine j_lv [1, 2, 0] rfl ?_
  have L : ∀ (n i : Nat), 0 ≤ i → i + n = 6 → jj p l e (cn_R 0) s m args below meth c 0 0 Q 3 dC dI ad cA A (wI M0 69 0 1) 58 [(0, .ref (ad 70)), (1, .ref (ad 2)), (2, .int (nI i))] [] := by
    intro n
    induction n with
    | zero =>
      intro i h1 h2
      obtain rfl : i = 6 := by omega
      refine j_iload_n C 2 2 dX7_copyFrom_58 rfl rfl ?_
      refine j_bipush C 6 dX7_copyFrom_59 (by decide) ?_
      refine j_icmp_ge_t C 106 dX7_copyFrom_61 (by decide) (by decide) ?_
      refine j_iconst C 0 dX7_copyFrom_106 (by decide) ?_
      refine j_istore_n C 2 [(2, .int 0), (0, .ref (ad 70)), (1, .ref (ad 2))] dX7_copyFrom_107 rfl (by decide) rfl ?_
      refine j_iload_n C 0 2 dX7_copyFrom_108 rfl rfl ?_
      refine j_aload_n C 1 0 dX7_copyFrom_109 rfl rfl ?_
      refine j_getI C 6 0 fX7_copyFrom_31 (by decide) rfl (by decide) rfl rfl dX7_copyFrom_110 ?_
      refine j_icmp_ge_t C 143 dX7_copyFrom_113 (by decide) (by decide) ?_
      exact hret _ _ _ dX7_copyFrom_143 rfl
    | succ n ih =>
      intro i h1 h2
      refine j_iload_n C 2 2 dX7_copyFrom_58 rfl rfl ?_
      refine j_bipush C 6 dX7_copyFrom_59 (by decide) ?_
      refine z_icmp_ge C 106 (i : Int) 6 (nI_toInt (n := i) (by omega)) (by decide) dX7_copyFrom_61 (by decide) (fun h1 => ?_) (fun h1 => ?_)
      · exfalso; omega
      · refine j_aload_n C 0 0 dX7_copyFrom_64 rfl rfl ?_
        refine j_getP C 6 71 fX7_copyFrom_18 (by decide) rfl (by decide) rfl rfl dX7_copyFrom_65 ?_
        refine j_iload_n C 2 2 dX7_copyFrom_68 rfl rfl ?_
        refine j_aload_n C 1 1 dX7_copyFrom_69 rfl rfl ?_
        refine j_getP C 6 3 fX7_copyFrom_18 (by decide) rfl (by decide) rfl rfl dX7_copyFrom_70 ?_
        refine j_iload_n C 2 2 dX7_copyFrom_73 rfl rfl ?_
        refine x_iald C i 6 0 (by decide) rfl rfl rfl (by omega) (by decide) rfl dX7_copyFrom_74 ?_
        refine x_iast C i 6 (by decide) rfl rfl rfl (by omega) (by decide) dX7_copyFrom_75 ?_
        refine z_noI rfl ?_
        refine j_aload_n C 0 0 dX7_copyFrom_76 rfl rfl ?_
        refine j_getP C 6 72 fX7_copyFrom_22 (by decide) rfl (by decide) rfl rfl dX7_copyFrom_77 ?_
        refine j_iload_n C 2 2 dX7_copyFrom_80 rfl rfl ?_
        refine j_aload_n C 1 1 dX7_copyFrom_81 rfl rfl ?_
        refine j_getP C 6 4 fX7_copyFrom_22 (by decide) rfl (by decide) rfl rfl dX7_copyFrom_82 ?_
        refine j_iload_n C 2 2 dX7_copyFrom_85 rfl rfl ?_
        refine x_iald C i 6 0 (by decide) rfl rfl rfl (by omega) (by decide) rfl dX7_copyFrom_86 ?_
        refine x_iast C i 6 (by decide) rfl rfl rfl (by omega) (by decide) dX7_copyFrom_87 ?_
        refine z_noI rfl ?_
        refine j_aload_n C 0 0 dX7_copyFrom_88 rfl rfl ?_
        refine j_getP C 6 73 fX7_copyFrom_25 (by decide) rfl (by decide) rfl rfl dX7_copyFrom_89 ?_
        refine j_iload_n C 2 2 dX7_copyFrom_92 rfl rfl ?_
        refine j_aload_n C 1 1 dX7_copyFrom_93 rfl rfl ?_
        refine j_getP C 6 5 fX7_copyFrom_25 (by decide) rfl (by decide) rfl rfl dX7_copyFrom_94 ?_
        refine j_iload_n C 2 2 dX7_copyFrom_97 rfl rfl ?_
        refine x_iald C i 6 0 (by decide) rfl rfl rfl (by omega) (by decide) rfl dX7_copyFrom_98 ?_
        refine x_iast C i 6 (by decide) rfl rfl rfl (by omega) (by decide) dX7_copyFrom_99 ?_
        refine z_noI rfl ?_
        refine j_iinc C 2 (nI (i + 1)) [(2, .int (nI (i + 1))), (0, .ref (ad 70)), (1, .ref (ad 2))] dX7_copyFrom_100 rfl (nI_1 i) (by decide) rfl ?_
        refine j_goto C 58 dX7_copyFrom_103 (by decide) ?_
        refine j_lv [1, 2, 0] rfl ?_
        exact ih (i + 1) (by omega) (by omega)
  exact L (6 - 0) 0 (by omega) (by omega)
set_option maxHeartbeats 4000000 in
set_option maxRecDepth 100000 in
theorem k255_X9_copyFrom {l : Launch} {dC : Nat → ClassId} {dI : Nat → Nat → Nat} {ad : Nat → Nat} {cA : Nat → ClassId} : Cv l 0 yX9_copyFrom wsX9_copyFrom dC dI ad cA [.ref (ad 75), .ref (ad 12)] (wI M0 69 0 1) (fun M' => (wI M0 69 0 1) = M') := by
  refine cv_of (cc := cX9_copyFrom) (maxL := 3) (lv := [(0, .ref (ad 75)), (1, .ref (ad 12))]) (by decide) rfl (Nat.le_of_ble_eq_true rfl) rfl ?_
  intro p e s m args below meth c A Q C hret
  refine j_aload_n C 0 0 dX9_copyFrom_0 rfl rfl ?_
  refine j_aload_n C 1 1 dX9_copyFrom_1 rfl rfl ?_
  refine j_getI C 8 0 fX9_copyFrom_9 (by decide) rfl (by decide) rfl rfl dX9_copyFrom_2 ?_
  refine j_putI C 8 qX9_copyFrom_9 rfl rfl (by decide) rfl (by decide) rfl dX9_copyFrom_5 ?_
  refine z_noI rfl ?_
  refine j_iconst C 0 dX9_copyFrom_8 (by decide) ?_
  refine j_istore_n C 2 [(2, .int 0), (0, .ref (ad 75)), (1, .ref (ad 12))] dX9_copyFrom_9 rfl (by decide) rfl ?_
  refine j_lv [1, 2, 0] rfl ?_
  have L : ∀ (n i : Nat), 0 ≤ i → i + n = 8 → jj p l e (cn_R 0) s m args below meth c 0 0 Q 3 dC dI ad cA A (wI M0 69 0 1) 10 [(0, .ref (ad 75)), (1, .ref (ad 12)), (2, .int (nI i))] [] := by
    intro n
    induction n with
    | zero =>
      intro i h1 h2
      obtain rfl : i = 8 := by omega
      refine j_iload_n C 2 2 dX9_copyFrom_10 rfl rfl ?_
      refine j_bipush C 8 dX9_copyFrom_11 (by decide) ?_
      refine j_icmp_ge_t C 46 dX9_copyFrom_13 (by decide) (by decide) ?_
      refine j_aload_n C 0 0 dX9_copyFrom_46 rfl rfl ?_
      refine j_aload_n C 1 1 dX9_copyFrom_47 rfl rfl ?_
      refine j_getI C 8 0 fX9_copyFrom_22 (by decide) rfl (by decide) rfl rfl dX9_copyFrom_48 ?_
      refine j_putI C 8 qX9_copyFrom_22 rfl rfl (by decide) rfl (by decide) rfl dX9_copyFrom_51 ?_
      refine z_noI rfl ?_
      refine j_aload_n C 0 0 dX9_copyFrom_54 rfl rfl ?_
      refine j_aload_n C 1 1 dX9_copyFrom_55 rfl rfl ?_
      refine j_getI C 8 0 fX9_copyFrom_25 (by decide) rfl (by decide) rfl rfl dX9_copyFrom_56 ?_
      refine j_putI C 8 qX9_copyFrom_25 rfl rfl (by decide) rfl (by decide) rfl dX9_copyFrom_59 ?_
      refine z_noI rfl ?_
      refine j_aload_n C 0 0 dX9_copyFrom_62 rfl rfl ?_
      refine j_aload_n C 1 1 dX9_copyFrom_63 rfl rfl ?_
      refine j_getI C 8 0 fX9_copyFrom_28 (by decide) rfl (by decide) rfl rfl dX9_copyFrom_64 ?_
      refine j_putI C 8 qX9_copyFrom_28 rfl rfl (by decide) rfl (by decide) rfl dX9_copyFrom_67 ?_
      refine z_noI rfl ?_
      refine j_aload_n C 0 0 dX9_copyFrom_70 rfl rfl ?_
      refine j_aload_n C 1 1 dX9_copyFrom_71 rfl rfl ?_
      refine j_getI C 8 0 fX9_copyFrom_31 (by decide) rfl (by decide) rfl rfl dX9_copyFrom_72 ?_
      refine j_putI C 8 qX9_copyFrom_31 rfl rfl (by decide) rfl (by decide) rfl dX9_copyFrom_75 ?_
      refine z_noI rfl ?_
      refine j_aload_n C 0 0 dX9_copyFrom_78 rfl rfl ?_
      refine j_aload_n C 1 1 dX9_copyFrom_79 rfl rfl ?_
      refine j_getI C 8 0 fX9_copyFrom_34 (by decide) rfl (by decide) rfl rfl dX9_copyFrom_80 ?_
      refine j_putI C 8 qX9_copyFrom_34 rfl rfl (by decide) rfl (by decide) rfl dX9_copyFrom_83 ?_
      refine z_noI rfl ?_
      refine j_aload_n C 0 0 dX9_copyFrom_86 rfl rfl ?_
      refine j_aload_n C 1 1 dX9_copyFrom_87 rfl rfl ?_
      refine j_getI C 8 0 fX9_copyFrom_37 (by decide) rfl (by decide) rfl rfl dX9_copyFrom_88 ?_
      refine j_putI C 8 qX9_copyFrom_37 rfl rfl (by decide) rfl (by decide) rfl dX9_copyFrom_91 ?_
      refine z_noI rfl ?_
      exact hret _ _ _ dX9_copyFrom_94 rfl
    | succ n ih =>
      intro i h1 h2
      refine j_iload_n C 2 2 dX9_copyFrom_10 rfl rfl ?_
      refine j_bipush C 8 dX9_copyFrom_11 (by decide) ?_
      refine z_icmp_ge C 46 (i : Int) 8 (nI_toInt (n := i) (by omega)) (by decide) dX9_copyFrom_13 (by decide) (fun h1 => ?_) (fun h1 => ?_)
      · exfalso; omega
      · refine j_aload_n C 0 0 dX9_copyFrom_16 rfl rfl ?_
        refine j_getP C 8 76 fX9_copyFrom_15 (by decide) rfl (by decide) rfl rfl dX9_copyFrom_17 ?_
        refine j_iload_n C 2 2 dX9_copyFrom_20 rfl rfl ?_
        refine j_aload_n C 1 1 dX9_copyFrom_21 rfl rfl ?_
        refine j_getP C 8 13 fX9_copyFrom_15 (by decide) rfl (by decide) rfl rfl dX9_copyFrom_22 ?_
        refine j_iload_n C 2 2 dX9_copyFrom_25 rfl rfl ?_
        refine x_iald C i 8 0 (by decide) rfl rfl rfl (by omega) (by decide) rfl dX9_copyFrom_26 ?_
        refine x_iast C i 8 (by decide) rfl rfl rfl (by omega) (by decide) dX9_copyFrom_27 ?_
        refine z_noI rfl ?_
        refine j_aload_n C 0 0 dX9_copyFrom_28 rfl rfl ?_
        refine j_getP C 8 77 fX9_copyFrom_19 (by decide) rfl (by decide) rfl rfl dX9_copyFrom_29 ?_
        refine j_iload_n C 2 2 dX9_copyFrom_32 rfl rfl ?_
        refine j_aload_n C 1 1 dX9_copyFrom_33 rfl rfl ?_
        refine j_getP C 8 14 fX9_copyFrom_19 (by decide) rfl (by decide) rfl rfl dX9_copyFrom_34 ?_
        refine j_iload_n C 2 2 dX9_copyFrom_37 rfl rfl ?_
        refine x_iald C i 8 0 (by decide) rfl rfl rfl (by omega) (by decide) rfl dX9_copyFrom_38 ?_
        refine x_iast C i 8 (by decide) rfl rfl rfl (by omega) (by decide) dX9_copyFrom_39 ?_
        refine z_noI rfl ?_
        refine j_iinc C 2 (nI (i + 1)) [(2, .int (nI (i + 1))), (0, .ref (ad 75)), (1, .ref (ad 12))] dX9_copyFrom_40 rfl (nI_1 i) (by decide) rfl ?_
        refine j_goto C 10 dX9_copyFrom_43 (by decide) ?_
        refine j_lv [1, 2, 0] rfl ?_
        exact ih (i + 1) (by omega) (by omega)
  exact L (8 - 0) 0 (by omega) (by omega)
set_option maxHeartbeats 4000000 in
set_option maxRecDepth 100000 in
theorem ox_image {l : Launch} {dC : Nat → ClassId} {dI : Nat → Nat → Nat} {ad : Nat → Nat} {cA : Nat → ClassId} (p0 : Int32) : Ci l 1 yX11_image wsX11_image dC dI ad cA [.ref (ad 0), .int p0] M0 (fun r M' => r = fo_image p0 ∧ MB M') := by
  refine ci_of (cc := cX11_image) (maxL := 2) (ty := .int) (lv := [(0, .ref (ad 0)), (1, .int p0)]) (by decide) rfl (fun r M' hp => rfl) (Nat.le_of_ble_eq_true rfl) rfl ?_
  intro p e s m args below meth c A Q C hret
  refine j_iload_n C 1 1 dX11_image_0 rfl rfl ?_
  refine z_if_lt C 13 p0.toInt rfl dX11_image_1 (by decide) (fun h1 => ?_) (fun h1 => ?_)
  · refine j_bipush C (-2) dX11_image_13 (by decide) ?_
    exact hret _ _ _ _ dX11_image_15 ⟨by first | rfl | (unfold fo_image; rw [if_pos (by rw [nI_toInt (by omega)]; omega), nI_clamp (by omega)]; exact hrel) | (unfold fo_image; (repeat' split) <;> first | rfl | (exfalso; omega) | (exfalso; simp_all; done)), MB_0⟩
  · refine j_iload_n C 1 1 dX11_image_4 rfl rfl ?_
    refine j_aload_n C 0 0 dX11_image_5 rfl rfl ?_
    refine j_getP C 10 59 fX11_image_58 (by decide) rfl (by decide) rfl rfl dX11_image_6 ?_
    refine j_alen C 2 (by decide) (by decide) (by decide) dX11_image_9 ?_
    refine z_icmp_lt C 16 p0.toInt 2 rfl (by decide) dX11_image_10 (by decide) (fun h2 => ?_) (fun h2 => ?_)
    · refine j_aload_n C 0 0 dX11_image_16 rfl rfl ?_
      refine j_getP C 10 59 fX11_image_58 (by decide) rfl (by decide) rfl rfl dX11_image_17 ?_
      refine j_iload_n C 1 1 dX11_image_20 rfl rfl ?_
      obtain ⟨j, hj, rfl⟩ := z_sp (x := p0) (b := 1) (by omega) (by omega)
      rcases (show j = 0 ∨ j = 1 by omega) with rfl | rfl
      · show jj _ _ _ _ _ _ _ _ _ _ _ _ _ _ _ _ _ _ _ M0 21 [(0, .ref (ad 0)), (1, .int 0)] [.int 0, .ref (ad 59)]
        refine x_aald C 0 2 60 (by decide) (by decide) rfl rfl (by decide) (by decide) rfl dX11_image_21 ?_
        refine j_iconst C 1 dX11_image_22 (by decide) ?_
        refine j_putI C 2 qX11_image_393 rfl rfl (by decide) rfl (by decide) rfl dX11_image_23 ?_
        refine j_aload_n C 0 0 dX11_image_26 rfl rfl ?_
        refine j_getP C 10 59 fX11_image_58 (by decide) rfl (by decide) rfl rfl dX11_image_27 ?_
        refine j_iload_n C 1 1 dX11_image_30 rfl rfl ?_
        refine x_aald C 0 2 60 (by decide) (by decide) rfl rfl (by decide) (by decide) rfl dX11_image_31 ?_
        refine j_getP C 2 61 fX11_image_397 (by decide) rfl (by decide) rfl rfl dX11_image_32 ?_
        refine j_aload_n C 0 0 dX11_image_35 rfl rfl ?_
        refine j_getP C 10 2 fX11_image_26 (by decide) rfl (by decide) rfl rfl dX11_image_36 ?_
        refine j_callVv C (d := 0) (As := [.ref (ad 2)]) (st := []) 61 (by decide) rfl (by decide) rfl (k252_X7_copyFrom) gX11_image_X7_copyFrom rfl hdX7_copyFrom (by decide) (Nat.le_of_ble_eq_true rfl) dX11_image_39 rfl (fun M' hp => ?_)
        obtain rfl := hp
        refine j_aload_n C 0 0 dX11_image_42 rfl rfl ?_
        refine j_getP C 10 59 fX11_image_58 (by decide) rfl (by decide) rfl rfl dX11_image_43 ?_
        refine j_iload_n C 1 1 dX11_image_46 rfl rfl ?_
        refine x_aald C 0 2 60 (by decide) (by decide) rfl rfl (by decide) (by decide) rfl dX11_image_47 ?_
        refine j_getP C 2 66 fX11_image_400 (by decide) rfl (by decide) rfl rfl dX11_image_48 ?_
        refine j_aload_n C 0 0 dX11_image_51 rfl rfl ?_
        refine j_getP C 10 12 fX11_image_36 (by decide) rfl (by decide) rfl rfl dX11_image_52 ?_
        refine j_callVv C (d := 0) (As := [.ref (ad 12)]) (st := []) 66 (by decide) rfl (by decide) rfl (k253_X9_copyFrom) gX11_image_X9_copyFrom rfl hdX9_copyFrom (by decide) (Nat.le_of_ble_eq_true rfl) dX11_image_55 rfl (fun M' hp => ?_)
        obtain rfl := hp
        refine j_iconst C 0 dX11_image_58 (by decide) ?_
        exact hret _ _ _ _ dX11_image_59 ⟨by first | rfl | (unfold fo_image; rw [if_pos (by rw [nI_toInt (by omega)]; omega), nI_clamp (by omega)]; exact hrel) | (unfold fo_image; (repeat' split) <;> first | rfl | (exfalso; omega) | (exfalso; simp_all; done)), (MB_I MB_0 (by decide))⟩
      · show jj _ _ _ _ _ _ _ _ _ _ _ _ _ _ _ _ _ _ _ M0 21 [(0, .ref (ad 0)), (1, .int 1)] [.int 1, .ref (ad 59)]
        refine x_aald C 1 2 69 (by decide) (by decide) rfl rfl (by decide) (by decide) rfl dX11_image_21 ?_
        refine j_iconst C 1 dX11_image_22 (by decide) ?_
        refine j_putI C 2 qX11_image_393 rfl rfl (by decide) rfl (by decide) rfl dX11_image_23 ?_
        refine j_aload_n C 0 0 dX11_image_26 rfl rfl ?_
        refine j_getP C 10 59 fX11_image_58 (by decide) rfl (by decide) rfl rfl dX11_image_27 ?_
        refine j_iload_n C 1 1 dX11_image_30 rfl rfl ?_
        refine x_aald C 1 2 69 (by decide) (by decide) rfl rfl (by decide) (by decide) rfl dX11_image_31 ?_
        refine j_getP C 2 70 fX11_image_397 (by decide) rfl (by decide) rfl rfl dX11_image_32 ?_
        refine j_aload_n C 0 0 dX11_image_35 rfl rfl ?_
        refine j_getP C 10 2 fX11_image_26 (by decide) rfl (by decide) rfl rfl dX11_image_36 ?_
        refine j_callVv C (d := 0) (As := [.ref (ad 2)]) (st := []) 70 (by decide) rfl (by decide) rfl (k254_X7_copyFrom) gX11_image_X7_copyFrom rfl hdX7_copyFrom (by decide) (Nat.le_of_ble_eq_true rfl) dX11_image_39 rfl (fun M' hp => ?_)
        obtain rfl := hp
        refine j_aload_n C 0 0 dX11_image_42 rfl rfl ?_
        refine j_getP C 10 59 fX11_image_58 (by decide) rfl (by decide) rfl rfl dX11_image_43 ?_
        refine j_iload_n C 1 1 dX11_image_46 rfl rfl ?_
        refine x_aald C 1 2 69 (by decide) (by decide) rfl rfl (by decide) (by decide) rfl dX11_image_47 ?_
        refine j_getP C 2 75 fX11_image_400 (by decide) rfl (by decide) rfl rfl dX11_image_48 ?_
        refine j_aload_n C 0 0 dX11_image_51 rfl rfl ?_
        refine j_getP C 10 12 fX11_image_36 (by decide) rfl (by decide) rfl rfl dX11_image_52 ?_
        refine j_callVv C (d := 0) (As := [.ref (ad 12)]) (st := []) 75 (by decide) rfl (by decide) rfl (k255_X9_copyFrom) gX11_image_X9_copyFrom rfl hdX9_copyFrom (by decide) (Nat.le_of_ble_eq_true rfl) dX11_image_55 rfl (fun M' hp => ?_)
        obtain rfl := hp
        refine j_iconst C 0 dX11_image_58 (by decide) ?_
        exact hret _ _ _ _ dX11_image_59 ⟨by first | rfl | (unfold fo_image; rw [if_pos (by rw [nI_toInt (by omega)]; omega), nI_clamp (by omega)]; exact hrel) | (unfold fo_image; (repeat' split) <;> first | rfl | (exfalso; omega) | (exfalso; simp_all; done)), (MB_I MB_0 (by decide))⟩
    · refine j_bipush C (-2) dX11_image_13 (by decide) ?_
      exact hret _ _ _ _ dX11_image_15 ⟨by first | rfl | (unfold fo_image; rw [if_pos (by rw [nI_toInt (by omega)]; omega), nI_clamp (by omega)]; exact hrel) | (unfold fo_image; (repeat' split) <;> first | rfl | (exfalso; omega) | (exfalso; simp_all; done)), MB_0⟩
set_option maxHeartbeats 4000000 in
set_option maxRecDepth 100000 in
theorem ox_restore {l : Launch} {dC : Nat → ClassId} {dI : Nat → Nat → Nat} {ad : Nat → Nat} {cA : Nat → ClassId} (p0 : Int32) : Ci l 0 yX11_restore wsX11_restore dC dI ad cA [.ref (ad 0), .int p0] M0 (fun r M' => r = fo_restore p0 ∧ MB M') := by
  refine ci_of (cc := cX11_restore) (maxL := 2) (ty := .int) (lv := [(0, .ref (ad 0)), (1, .int p0)]) (by decide) rfl (fun r M' hp => rfl) (Nat.le_of_ble_eq_true rfl) rfl ?_
  intro p e s m args below meth c A Q C hret
  refine j_iload_n C 1 1 dX11_restore_0 rfl rfl ?_
  refine z_if_lt C 13 p0.toInt rfl dX11_restore_1 (by decide) (fun h1 => ?_) (fun h1 => ?_)
  · refine j_bipush C (-2) dX11_restore_13 (by decide) ?_
    exact hret _ _ _ _ dX11_restore_15 ⟨by first | rfl | (unfold fo_restore; rw [if_pos (by rw [nI_toInt (by omega)]; omega), nI_clamp (by omega)]; exact hrel) | (unfold fo_restore; (repeat' split) <;> first | rfl | (exfalso; omega) | (exfalso; simp_all; done)), MB_0⟩
  · refine j_iload_n C 1 1 dX11_restore_4 rfl rfl ?_
    refine j_aload_n C 0 0 dX11_restore_5 rfl rfl ?_
    refine j_getP C 10 59 fX11_restore_58 (by decide) rfl (by decide) rfl rfl dX11_restore_6 ?_
    refine j_alen C 2 (by decide) (by decide) (by decide) dX11_restore_9 ?_
    refine z_icmp_lt C 16 p0.toInt 2 rfl (by decide) dX11_restore_10 (by decide) (fun h2 => ?_) (fun h2 => ?_)
    · refine j_aload_n C 0 0 dX11_restore_16 rfl rfl ?_
      refine j_getP C 10 59 fX11_restore_58 (by decide) rfl (by decide) rfl rfl dX11_restore_17 ?_
      refine j_iload_n C 1 1 dX11_restore_20 rfl rfl ?_
      obtain ⟨j, hj, rfl⟩ := z_sp (x := p0) (b := 1) (by omega) (by omega)
      rcases (show j = 0 ∨ j = 1 by omega) with rfl | rfl
      · show jj _ _ _ _ _ _ _ _ _ _ _ _ _ _ _ _ _ _ _ M0 21 [(0, .ref (ad 0)), (1, .int 0)] [.int 0, .ref (ad 59)]
        refine x_aald C 0 2 60 (by decide) (by decide) rfl rfl (by decide) (by decide) rfl dX11_restore_21 ?_
        refine j_getI C 2 0 fX11_restore_393 (by decide) rfl (by decide) rfl rfl dX11_restore_22 ?_
        refine j_if_ne_f C 31 dX11_restore_25 (by decide) (by decide) ?_
        refine j_bipush C (-5) dX11_restore_28 (by decide) ?_
        exact hret _ _ _ _ dX11_restore_30 ⟨by first | rfl | (unfold fo_restore; rw [if_pos (by rw [nI_toInt (by omega)]; omega), nI_clamp (by omega)]; exact hrel) | (unfold fo_restore; (repeat' split) <;> first | rfl | (exfalso; omega) | (exfalso; simp_all; done)), MB_0⟩
      · show jj _ _ _ _ _ _ _ _ _ _ _ _ _ _ _ _ _ _ _ M0 21 [(0, .ref (ad 0)), (1, .int 1)] [.int 1, .ref (ad 59)]
        refine x_aald C 1 2 69 (by decide) (by decide) rfl rfl (by decide) (by decide) rfl dX11_restore_21 ?_
        refine j_getI C 2 0 fX11_restore_393 (by decide) rfl (by decide) rfl rfl dX11_restore_22 ?_
        refine j_if_ne_f C 31 dX11_restore_25 (by decide) (by decide) ?_
        refine j_bipush C (-5) dX11_restore_28 (by decide) ?_
        exact hret _ _ _ _ dX11_restore_30 ⟨by first | rfl | (unfold fo_restore; rw [if_pos (by rw [nI_toInt (by omega)]; omega), nI_clamp (by omega)]; exact hrel) | (unfold fo_restore; (repeat' split) <;> first | rfl | (exfalso; omega) | (exfalso; simp_all; done)), MB_0⟩
    · refine j_bipush C (-2) dX11_restore_13 (by decide) ?_
      exact hret _ _ _ _ dX11_restore_15 ⟨by first | rfl | (unfold fo_restore; rw [if_pos (by rw [nI_toInt (by omega)]; omega), nI_clamp (by omega)]; exact hrel) | (unfold fo_restore; (repeat' split) <;> first | rfl | (exfalso; omega) | (exfalso; simp_all; done)), MB_0⟩
set_option maxHeartbeats 4000000 in
set_option maxRecDepth 100000 in
theorem k260_X7_together {l : Launch} {dC : Nat → ClassId} {dI : Nat → Nat → Nat} {ad : Nat → Nat} {cA : Nat → ClassId} : Ci l 0 yX7_together wsX7_together dC dI ad cA [.ref (ad 2)] M0 (fun r M' => 0 = r ∧ M0 = M') := by
  refine ci_of (cc := cX7_together) (maxL := 3) (ty := .int) (lv := [(0, .ref (ad 2))]) (by decide) rfl (fun r M' hp => rfl) (Nat.le_of_ble_eq_true rfl) rfl ?_
  intro p e s m args below meth c A Q C hret
  refine j_iconst C 0 dX7_together_0 (by decide) ?_
  refine j_istore_n C 1 [(1, .int 0), (0, .ref (ad 2))] dX7_together_1 rfl (by decide) rfl ?_
  refine j_iconst C 0 dX7_together_2 (by decide) ?_
  refine j_istore_n C 2 [(2, .int 0), (1, .int 0), (0, .ref (ad 2))] dX7_together_3 rfl (by decide) rfl ?_
  refine j_iload_n C 0 2 dX7_together_4 rfl rfl ?_
  refine j_aload_n C 2 0 dX7_together_5 rfl rfl ?_
  refine j_getI C 6 0 fX7_together_9 (by decide) rfl (by decide) rfl rfl dX7_together_6 ?_
  refine j_icmp_ge_t C 27 dX7_together_9 (by decide) (by decide) ?_
  refine j_iload_n C 1 1 dX7_together_27 rfl rfl ?_
  exact hret _ _ _ _ dX7_together_28 ⟨rfl, rfl⟩
set_option maxHeartbeats 4000000 in
set_option maxRecDepth 100000 in
theorem ox_count {l : Launch} {dC : Nat → ClassId} {dI : Nat → Nat → Nat} {ad : Nat → Nat} {cA : Nat → ClassId} (p0 : Int32) : Ci l 2 yX11_count wsX11_count dC dI ad cA [.ref (ad 0), .int p0] M0 (fun r M' => r = fo_count p0 ∧ MB M') := by
  refine ci_of (cc := cX11_count) (maxL := 2) (ty := .int) (lv := [(0, .ref (ad 0)), (1, .int p0)]) (by decide) rfl (fun r M' hp => rfl) (Nat.le_of_ble_eq_true rfl) rfl ?_
  intro p e s m args below meth c A Q C hret
  refine j_iload_n C 1 1 dX11_count_0 rfl rfl ?_
  rcases (show p0.toInt < 0 ∨ 11 < p0.toInt ∨ (0 ≤ p0.toInt ∧ p0.toInt ≤ 11) by omega) with h1 | h1 | ⟨h1a, h1b⟩
  · refine j_tableOut C 165 dX11_count_1 (Or.inl (by omega)) (by decide) ?_
    refine j_iconst C (-1) dX11_count_165 (by decide) ?_
    exact hret _ _ _ _ dX11_count_166 ⟨by first | rfl | (unfold fo_count; rw [if_pos (by rw [nI_toInt (by omega)]; omega), nI_clamp (by omega)]; exact hrel) | (unfold fo_count; (repeat' split) <;> first | rfl | (exfalso; omega) | (exfalso; simp_all; done)), MB_0⟩
  · refine j_tableOut C 165 dX11_count_1 (Or.inr (by omega)) (by decide) ?_
    refine j_iconst C (-1) dX11_count_165 (by decide) ?_
    exact hret _ _ _ _ dX11_count_166 ⟨by first | rfl | (unfold fo_count; rw [if_pos (by rw [nI_toInt (by omega)]; omega), nI_clamp (by omega)]; exact hrel) | (unfold fo_count; (repeat' split) <;> first | rfl | (exfalso; omega) | (exfalso; simp_all; done)), MB_0⟩
  · obtain ⟨j, hj, rfl⟩ := z_sp (x := p0) (b := 11) (by omega) (by omega)
    rcases (show j = 0 ∨ j = 1 ∨ j = 2 ∨ j = 3 ∨ j = 4 ∨ j = 5 ∨ j = 6 ∨ j = 7 ∨ j = 8 ∨ j = 9 ∨ j = 10 ∨ j = 11 by omega) with rfl | rfl | rfl | rfl | rfl | rfl | rfl | rfl | rfl | rfl | rfl | rfl
    · show jj _ _ _ _ _ _ _ _ _ _ _ _ _ _ _ _ _ _ _ M0 1 [(0, .ref (ad 0)), (1, .int 0)] [.int 0]
      refine j_tableIn C (off := 63) 64 dX11_count_1 (by decide) (by decide) (by decide) (by decide) ?_
      refine j_aload_n C 0 0 dX11_count_64 rfl rfl ?_
      refine j_getP C 10 12 fX11_count_36 (by decide) rfl (by decide) rfl rfl dX11_count_65 ?_
      refine j_getI C 8 0 fX11_count_160 (by decide) rfl (by decide) rfl rfl dX11_count_68 ?_
      exact hret _ _ _ _ dX11_count_71 ⟨by first | rfl | (unfold fo_count; rw [if_pos (by rw [nI_toInt (by omega)]; omega), nI_clamp (by omega)]; exact hrel) | (unfold fo_count; (repeat' split) <;> first | rfl | (exfalso; omega) | (exfalso; simp_all; done)), MB_0⟩
    · show jj _ _ _ _ _ _ _ _ _ _ _ _ _ _ _ _ _ _ _ M0 1 [(0, .ref (ad 0)), (1, .int 1)] [.int 1]
      refine j_tableIn C (off := 71) 72 dX11_count_1 (by decide) (by decide) (by decide) (by decide) ?_
      refine j_aload_n C 0 0 dX11_count_72 rfl rfl ?_
      refine j_getP C 10 2 fX11_count_26 (by decide) rfl (by decide) rfl rfl dX11_count_73 ?_
      refine j_getI C 6 0 fX11_count_163 (by decide) rfl (by decide) rfl rfl dX11_count_76 ?_
      exact hret _ _ _ _ dX11_count_79 ⟨by first | rfl | (unfold fo_count; rw [if_pos (by rw [nI_toInt (by omega)]; omega), nI_clamp (by omega)]; exact hrel) | (unfold fo_count; (repeat' split) <;> first | rfl | (exfalso; omega) | (exfalso; simp_all; done)), MB_0⟩
    · show jj _ _ _ _ _ _ _ _ _ _ _ _ _ _ _ _ _ _ _ M0 1 [(0, .ref (ad 0)), (1, .int 2)] [.int 2]
      refine j_tableIn C (off := 79) 80 dX11_count_1 (by decide) (by decide) (by decide) (by decide) ?_
      refine j_aload_n C 0 0 dX11_count_80 rfl rfl ?_
      refine j_getP C 10 12 fX11_count_36 (by decide) rfl (by decide) rfl rfl dX11_count_81 ?_
      refine j_getI C 8 0 fX11_count_150 (by decide) rfl (by decide) rfl rfl dX11_count_84 ?_
      exact hret _ _ _ _ dX11_count_87 ⟨by first | rfl | (unfold fo_count; rw [if_pos (by rw [nI_toInt (by omega)]; omega), nI_clamp (by omega)]; exact hrel) | (unfold fo_count; (repeat' split) <;> first | rfl | (exfalso; omega) | (exfalso; simp_all; done)), MB_0⟩
    · show jj _ _ _ _ _ _ _ _ _ _ _ _ _ _ _ _ _ _ _ M0 1 [(0, .ref (ad 0)), (1, .int 3)] [.int 3]
      refine j_tableIn C (off := 87) 88 dX11_count_1 (by decide) (by decide) (by decide) (by decide) ?_
      refine j_aload_n C 0 0 dX11_count_88 rfl rfl ?_
      refine j_getP C 10 12 fX11_count_36 (by decide) rfl (by decide) rfl rfl dX11_count_89 ?_
      refine j_getI C 8 0 fX11_count_153 (by decide) rfl (by decide) rfl rfl dX11_count_92 ?_
      exact hret _ _ _ _ dX11_count_95 ⟨by first | rfl | (unfold fo_count; rw [if_pos (by rw [nI_toInt (by omega)]; omega), nI_clamp (by omega)]; exact hrel) | (unfold fo_count; (repeat' split) <;> first | rfl | (exfalso; omega) | (exfalso; simp_all; done)), MB_0⟩
    · show jj _ _ _ _ _ _ _ _ _ _ _ _ _ _ _ _ _ _ _ M0 1 [(0, .ref (ad 0)), (1, .int 4)] [.int 4]
      refine j_tableIn C (off := 95) 96 dX11_count_1 (by decide) (by decide) (by decide) (by decide) ?_
      refine j_aload_n C 0 0 dX11_count_96 rfl rfl ?_
      refine j_getP C 10 12 fX11_count_36 (by decide) rfl (by decide) rfl rfl dX11_count_97 ?_
      refine j_callVi C (d := 1) (As := []) (st := []) 12 (by decide) rfl (by decide) rfl (k64_X9_isShut) gX11_count_X9_isShut rfl hdX9_isShut (by decide) (Nat.le_of_ble_eq_true rfl) dX11_count_100 rfl (fun r M' hp => ?_)
      obtain ⟨rfl, rfl⟩ := hp
      refine j_if_eq_f C 110 dX11_count_103 (by decide) (by decide) ?_
      refine j_iconst C 1 dX11_count_106 (by decide) ?_
      refine j_goto C 111 dX11_count_107 (by decide) ?_
      exact hret _ _ _ _ dX11_count_111 ⟨by first | rfl | (unfold fo_count; rw [if_pos (by rw [nI_toInt (by omega)]; omega), nI_clamp (by omega)]; exact hrel) | (unfold fo_count; (repeat' split) <;> first | rfl | (exfalso; omega) | (exfalso; simp_all; done)), MB_0⟩
    · show jj _ _ _ _ _ _ _ _ _ _ _ _ _ _ _ _ _ _ _ M0 1 [(0, .ref (ad 0)), (1, .int 5)] [.int 5]
      refine j_tableIn C (off := 111) 112 dX11_count_1 (by decide) (by decide) (by decide) (by decide) ?_
      refine j_aload_n C 0 0 dX11_count_112 rfl rfl ?_
      refine j_getP C 10 12 fX11_count_36 (by decide) rfl (by decide) rfl rfl dX11_count_113 ?_
      refine j_getI C 8 0 fX11_count_252 (by decide) rfl (by decide) rfl rfl dX11_count_116 ?_
      exact hret _ _ _ _ dX11_count_119 ⟨by first | rfl | (unfold fo_count; rw [if_pos (by rw [nI_toInt (by omega)]; omega), nI_clamp (by omega)]; exact hrel) | (unfold fo_count; (repeat' split) <;> first | rfl | (exfalso; omega) | (exfalso; simp_all; done)), MB_0⟩
    · show jj _ _ _ _ _ _ _ _ _ _ _ _ _ _ _ _ _ _ _ M0 1 [(0, .ref (ad 0)), (1, .int 6)] [.int 6]
      refine j_tableIn C (off := 119) 120 dX11_count_1 (by decide) (by decide) (by decide) (by decide) ?_
      refine j_aload_n C 0 0 dX11_count_120 rfl rfl ?_
      refine j_getP C 10 12 fX11_count_36 (by decide) rfl (by decide) rfl rfl dX11_count_121 ?_
      refine j_getI C 8 0 fX11_count_401 (by decide) rfl (by decide) rfl rfl dX11_count_124 ?_
      exact hret _ _ _ _ dX11_count_127 ⟨by first | rfl | (unfold fo_count; rw [if_pos (by rw [nI_toInt (by omega)]; omega), nI_clamp (by omega)]; exact hrel) | (unfold fo_count; (repeat' split) <;> first | rfl | (exfalso; omega) | (exfalso; simp_all; done)), MB_0⟩
    · show jj _ _ _ _ _ _ _ _ _ _ _ _ _ _ _ _ _ _ _ M0 1 [(0, .ref (ad 0)), (1, .int 7)] [.int 7]
      refine j_tableIn C (off := 127) 128 dX11_count_1 (by decide) (by decide) (by decide) (by decide) ?_
      refine j_aload_n C 0 0 dX11_count_128 rfl rfl ?_
      refine j_getP C 10 12 fX11_count_36 (by decide) rfl (by decide) rfl rfl dX11_count_129 ?_
      refine j_getI C 8 0 fX11_count_121 (by decide) rfl (by decide) rfl rfl dX11_count_132 ?_
      exact hret _ _ _ _ dX11_count_135 ⟨by first | rfl | (unfold fo_count; rw [if_pos (by rw [nI_toInt (by omega)]; omega), nI_clamp (by omega)]; exact hrel) | (unfold fo_count; (repeat' split) <;> first | rfl | (exfalso; omega) | (exfalso; simp_all; done)), MB_0⟩
    · show jj _ _ _ _ _ _ _ _ _ _ _ _ _ _ _ _ _ _ _ M0 1 [(0, .ref (ad 0)), (1, .int 8)] [.int 8]
      refine j_tableIn C (off := 135) 136 dX11_count_1 (by decide) (by decide) (by decide) (by decide) ?_
      refine j_aload_n C 0 0 dX11_count_136 rfl rfl ?_
      refine j_getP C 10 2 fX11_count_26 (by decide) rfl (by decide) rfl rfl dX11_count_137 ?_
      refine j_callVi C (d := 0) (As := []) (st := []) 2 (by decide) rfl (by decide) rfl (k260_X7_together) gX11_count_X7_together rfl hdX7_together (by decide) (Nat.le_of_ble_eq_true rfl) dX11_count_140 rfl (fun r M' hp => ?_)
      obtain ⟨rfl, rfl⟩ := hp
      exact hret _ _ _ _ dX11_count_143 ⟨by first | rfl | (unfold fo_count; rw [if_pos (by rw [nI_toInt (by omega)]; omega), nI_clamp (by omega)]; exact hrel) | (unfold fo_count; (repeat' split) <;> first | rfl | (exfalso; omega) | (exfalso; simp_all; done)), MB_0⟩
    · show jj _ _ _ _ _ _ _ _ _ _ _ _ _ _ _ _ _ _ _ M0 1 [(0, .ref (ad 0)), (1, .int 9)] [.int 9]
      refine j_tableIn C (off := 143) 144 dX11_count_1 (by decide) (by decide) (by decide) (by decide) ?_
      refine j_aload_n C 0 0 dX11_count_144 rfl rfl ?_
      refine j_getP C 10 18 fX11_count_46 (by decide) rfl (by decide) rfl rfl dX11_count_145 ?_
      refine j_getI C 5 0 fX11_count_225 (by decide) rfl (by decide) rfl rfl dX11_count_148 ?_
      exact hret _ _ _ _ dX11_count_151 ⟨by first | rfl | (unfold fo_count; rw [if_pos (by rw [nI_toInt (by omega)]; omega), nI_clamp (by omega)]; exact hrel) | (unfold fo_count; (repeat' split) <;> first | rfl | (exfalso; omega) | (exfalso; simp_all; done)), MB_0⟩
    · show jj _ _ _ _ _ _ _ _ _ _ _ _ _ _ _ _ _ _ _ M0 1 [(0, .ref (ad 0)), (1, .int 10)] [.int 10]
      refine j_tableIn C (off := 151) 152 dX11_count_1 (by decide) (by decide) (by decide) (by decide) ?_
      refine j_aload_n C 0 0 dX11_count_152 rfl rfl ?_
      refine j_getI C 10 0 fX11_count_13 (by decide) rfl (by decide) rfl rfl dX11_count_153 ?_
      exact hret _ _ _ _ dX11_count_156 ⟨by first | rfl | (unfold fo_count; rw [if_pos (by rw [nI_toInt (by omega)]; omega), nI_clamp (by omega)]; exact hrel) | (unfold fo_count; (repeat' split) <;> first | rfl | (exfalso; omega) | (exfalso; simp_all; done)), MB_0⟩
    · show jj _ _ _ _ _ _ _ _ _ _ _ _ _ _ _ _ _ _ _ M0 1 [(0, .ref (ad 0)), (1, .int 11)] [.int 11]
      refine j_tableIn C (off := 156) 157 dX11_count_1 (by decide) (by decide) (by decide) (by decide) ?_
      refine j_aload_n C 0 0 dX11_count_157 rfl rfl ?_
      refine j_getP C 10 2 fX11_count_26 (by decide) rfl (by decide) rfl rfl dX11_count_158 ?_
      refine j_getI C 6 0 fX11_count_131 (by decide) rfl (by decide) rfl rfl dX11_count_161 ?_
      exact hret _ _ _ _ dX11_count_164 ⟨by first | rfl | (unfold fo_count; rw [if_pos (by rw [nI_toInt (by omega)]; omega), nI_clamp (by omega)]; exact hrel) | (unfold fo_count; (repeat' split) <;> first | rfl | (exfalso; omega) | (exfalso; simp_all; done)), MB_0⟩
set_option maxHeartbeats 4000000 in
set_option maxRecDepth 100000 in
theorem k264_X9_draw {l : Launch} {dC : Nat → ClassId} {dI : Nat → Nat → Nat} {ad : Nat → Nat} {cA : Nat → ClassId} (p0 : Int32) (p1 : Int32) : Ci l 0 yX9_draw wsX9_draw dC dI ad cA [.ref (ad 12)] (wI (wI M0 12 7 p0) 12 8 p1) (fun r M' => (su (sx p1)) = r ∧ (wI (wI M0 12 7 p0) 12 8 (sx p1)) = M') := by
  refine ci_of (cc := cX9_draw) (maxL := 1) (ty := .int) (lv := [(0, .ref (ad 12))]) (by decide) rfl (fun r M' hp => rfl) (Nat.le_of_ble_eq_true rfl) rfl ?_
  intro p e s m args below meth c A Q C hret
  refine j_aload_n C 0 0 dX9_draw_0 rfl rfl ?_
  refine j_ldc C 1103515245 dX9_draw_1 (by decide +kernel) ?_
  refine j_aload_n C 0 0 dX9_draw_3 rfl rfl ?_
  refine j_getI C 8 p1 fX9_draw_37 (by decide) rfl (by decide) rfl rfl dX9_draw_4 ?_
  refine z_imul C ((1103515245 : Int32) * p1) rfl dX9_draw_7 ?_
  refine j_sipush C 12345 dX9_draw_8 (by decide) ?_
  refine z_iadd C (sx p1) rfl dX9_draw_11 ?_
  refine j_putI C 8 qX9_draw_37 rfl rfl (by decide) rfl (by decide) rfl dX9_draw_12 ?_
  refine j_M (M' := (wI (wI M0 12 7 p0) 12 8 (sx p1))) (wI_w _ _ _ _ _) ?_
  refine j_aload_n C 0 0 dX9_draw_15 rfl rfl ?_
  refine j_getI C 8 (sx p1) fX9_draw_37 (by decide) rfl (by decide) rfl rfl dX9_draw_16 ?_
  refine j_bipush C 16 dX9_draw_19 (by decide) ?_
  refine z_iushr C (su (sx p1)) rfl dX9_draw_21 ?_
  exact hret _ _ _ _ dX9_draw_22 ⟨rfl, rfl⟩
set_option maxHeartbeats 4000000 in
set_option maxRecDepth 100000 in
theorem k265_X9_draw {l : Launch} {dC : Nat → ClassId} {dI : Nat → Nat → Nat} {ad : Nat → Nat} {cA : Nat → ClassId} (p0 : Int32) (p1 : Int32) : Ci l 0 yX9_draw wsX9_draw dC dI ad cA [.ref (ad 12)] (wI (wI M0 12 7 p0) 12 8 (sx p1)) (fun r M' => (su (sx (sx p1))) = r ∧ (wI (wI M0 12 7 p0) 12 8 (sx (sx p1))) = M') := by
  refine ci_of (cc := cX9_draw) (maxL := 1) (ty := .int) (lv := [(0, .ref (ad 12))]) (by decide) rfl (fun r M' hp => rfl) (Nat.le_of_ble_eq_true rfl) rfl ?_
  intro p e s m args below meth c A Q C hret
  refine j_aload_n C 0 0 dX9_draw_0 rfl rfl ?_
  refine j_ldc C 1103515245 dX9_draw_1 (by decide +kernel) ?_
  refine j_aload_n C 0 0 dX9_draw_3 rfl rfl ?_
  refine j_getI C 8 (sx p1) fX9_draw_37 (by decide) rfl (by decide) rfl rfl dX9_draw_4 ?_
  refine z_imul C ((1103515245 : Int32) * (sx p1)) rfl dX9_draw_7 ?_
  refine j_sipush C 12345 dX9_draw_8 (by decide) ?_
  refine z_iadd C (sx (sx p1)) rfl dX9_draw_11 ?_
  refine j_putI C 8 qX9_draw_37 rfl rfl (by decide) rfl (by decide) rfl dX9_draw_12 ?_
  refine j_M (M' := (wI (wI M0 12 7 p0) 12 8 (sx (sx p1)))) (wI_w _ _ _ _ _) ?_
  refine j_aload_n C 0 0 dX9_draw_15 rfl rfl ?_
  refine j_getI C 8 (sx (sx p1)) fX9_draw_37 (by decide) rfl (by decide) rfl rfl dX9_draw_16 ?_
  refine j_bipush C 16 dX9_draw_19 (by decide) ?_
  refine z_iushr C (su (sx (sx p1))) rfl dX9_draw_21 ?_
  exact hret _ _ _ _ dX9_draw_22 ⟨rfl, rfl⟩
