set_option maxHeartbeats 4000000 in
theorem s1_X7_clear {l : Launch} {dC : Nat → ClassId} {dI : Nat → Nat → Nat} {ad : Nat → Nat} {cA : Nat → ClassId} {pr : Nat → Nat → Bool} {Kz : mm_M} {M0 : mm_M} (hM0 : INV pr Kz M0) (hpr : PX pr) (hq6_0 : ∀ i, s_c i = 6 → pr i 0 = false) (hq6_1 : ∀ i, s_c i = 6 → pr i 1 = false) {v0 : Nat} (cv0 : s_c v0 = 6) : Cv l 0 yX7_clear wsX7_clear dC dI ad cA [.ref (ad v0)] M0 (fun M' => INV pr Kz M' ∧ ((M'.1 v0 0).toInt = 0 ∧ (M'.1 v0 1).toInt = 0) ∧ (b01 (ONE M0 M' v0) = 1) ∧ ((M'.1 v0 0).toInt = 0) ∧ ((M'.1 v0 1).toInt = 0) ∧ ((M'.1 v0 6).toInt = 0) ∧ ((M'.1 v0 7).toInt = 0) ∧ ((M'.1 v0 8).toInt = 0) ∧ ((M'.1 v0 9).toInt = 0) ∧ ((M'.1 v0 10).toInt = 0)) := by
  refine cv_of (cc := cX7_clear) (maxL := 1) (lv := [(0, .ref (ad v0))]) (by decide) rfl (Nat.le_of_ble_eq_true rfl) rfl ?_
  intro p e s m args below meth c A Q C hret
  refine j_aload_n C 0 0 dX7_clear_0 rfl rfl ?_
  refine y_iconst C dX7_clear_1 ?_
  refine y_putI C 6 _ _ qX7_clear_9 cv0 rfl ft_6_0 sb_6_0 hM0 (hq6_0 _ cv0) dX7_clear_2 (by exact ⟨⟨(by decide), (by decide)⟩, ⟨(by decide), (by decide)⟩⟩) (fun M101 eM101 hM101 => ?_)
  refine j_aload_n C 0 0 dX7_clear_5 rfl rfl ?_
  refine y_iconst C dX7_clear_6 ?_
  refine y_putIF C 6 qX7_clear_15 cv0 rfl ft_6_1 sb_6_1 hM101 (hq6_1 _ cv0) dX7_clear_7 (fun M102 eM102 hM102 => ?_)
  refine j_aload_n C 0 0 dX7_clear_10 rfl rfl ?_
  refine y_iconst C dX7_clear_11 ?_
  refine y_putI C 6 _ _ qX7_clear_31 cv0 rfl ft_6_6 sb_6_6 hM102 (PX.w hpr cv0 rfl) dX7_clear_12 (by exact ⟨⟨(by decide), (by decide)⟩, ⟨(by decide), (by decide)⟩⟩) (fun M103 eM103 hM103 => ?_)
  refine j_aload_n C 0 0 dX7_clear_15 rfl rfl ?_
  refine y_iconst C dX7_clear_16 ?_
  refine y_putI C 6 _ _ qX7_clear_34 cv0 rfl ft_6_7 sb_6_7 hM103 (PX.w hpr cv0 rfl) dX7_clear_17 (by exact ⟨⟨(by decide), (by decide)⟩, ⟨(by decide), (by decide)⟩⟩) (fun M104 eM104 hM104 => ?_)
  refine j_aload_n C 0 0 dX7_clear_20 rfl rfl ?_
  refine y_iconst C dX7_clear_21 ?_
  refine y_putI C 6 _ _ qX7_clear_37 cv0 rfl ft_6_8 sb_6_8 hM104 (PX.w hpr cv0 rfl) dX7_clear_22 (by exact ⟨⟨(by decide), (by decide)⟩, ⟨(by decide), (by decide)⟩⟩) (fun M105 eM105 hM105 => ?_)
  refine j_aload_n C 0 0 dX7_clear_25 rfl rfl ?_
  refine y_iconst C dX7_clear_26 ?_
  refine y_putI C 6 _ _ qX7_clear_40 cv0 rfl ft_6_9 sb_6_9 hM105 (PX.w hpr cv0 rfl) dX7_clear_27 (by exact ⟨⟨(by decide), (by decide)⟩, ⟨(by decide), (by decide)⟩⟩) (fun M106 eM106 hM106 => ?_)
  refine j_aload_n C 0 0 dX7_clear_30 rfl rfl ?_
  refine y_iconst C dX7_clear_31 ?_
  refine y_putI C 6 _ _ qX7_clear_43 cv0 rfl ft_6_10 sb_6_10 hM106 (PX.w hpr cv0 rfl) dX7_clear_32 (by exact ⟨⟨(by decide), (by decide)⟩, ⟨(by decide), (by decide)⟩⟩) (fun M107 eM107 hM107 => ?_)
  have u108o : b01 (ONE M0 M107 v0) = 1 := b01_i (one_w (one_w (one_w (one_w (one_w (one_w (one_w (one_r M0 v0) eM101) eM102) eM103) eM104) eM105) eM106) eM107)
  have u108_0 : (M107.1 v0 0).toInt = 0 := (show (M107.1 v0 0).toInt = (M101.1 v0 0).toInt from s_fb eM102 (by decide) (s_fb eM103 (by decide) (s_fb eM104 (by decide) (s_fb eM105 (by decide) (s_fb eM106 (by decide) (s_fb eM107 (by decide) (rfl))))))).trans (s_wr eM101 (by exact ⟨(by decide), (by decide)⟩))
  have u108_1 : (M107.1 v0 1).toInt = 0 := (show (M107.1 v0 1).toInt = (M102.1 v0 1).toInt from s_fb eM103 (by decide) (s_fb eM104 (by decide) (s_fb eM105 (by decide) (s_fb eM106 (by decide) (s_fb eM107 (by decide) (rfl)))))).trans (s_wr eM102 (by exact ⟨(by decide), (by decide)⟩))
  have u108_6 : (M107.1 v0 6).toInt = 0 := (show (M107.1 v0 6).toInt = (M103.1 v0 6).toInt from s_fb eM104 (by decide) (s_fb eM105 (by decide) (s_fb eM106 (by decide) (s_fb eM107 (by decide) (rfl))))).trans (s_wr eM103 (by exact ⟨(by decide), (by decide)⟩))
  have u108_7 : (M107.1 v0 7).toInt = 0 := (show (M107.1 v0 7).toInt = (M104.1 v0 7).toInt from s_fb eM105 (by decide) (s_fb eM106 (by decide) (s_fb eM107 (by decide) (rfl)))).trans (s_wr eM104 (by exact ⟨(by decide), (by decide)⟩))
  have u108_8 : (M107.1 v0 8).toInt = 0 := (show (M107.1 v0 8).toInt = (M105.1 v0 8).toInt from s_fb eM106 (by decide) (s_fb eM107 (by decide) (rfl))).trans (s_wr eM105 (by exact ⟨(by decide), (by decide)⟩))
  have u108_9 : (M107.1 v0 9).toInt = 0 := (show (M107.1 v0 9).toInt = (M106.1 v0 9).toInt from s_fb eM107 (by decide) (rfl)).trans (s_wr eM106 (by exact ⟨(by decide), (by decide)⟩))
  have u108_10 : (M107.1 v0 10).toInt = 0 := (show (M107.1 v0 10).toInt = (M107.1 v0 10).toInt from rfl).trans (s_wr eM107 (by exact ⟨(by decide), (by decide)⟩))
  exact hret _ _ _ dX7_clear_35 ⟨hM107, by exact ⟨⟨u108_0, u108_1⟩, ⟨u108o, ⟨u108_0, ⟨u108_1, ⟨u108_6, ⟨u108_7, ⟨u108_8, ⟨u108_9, u108_10⟩⟩⟩⟩⟩⟩⟩⟩⟩
set_option maxHeartbeats 4000000 in
theorem s1_X9_clear {l : Launch} {dC : Nat → ClassId} {dI : Nat → Nat → Nat} {ad : Nat → Nat} {cA : Nat → ClassId} {pr : Nat → Nat → Bool} {Kz : mm_M} {M0 : mm_M} (hM0 : INV pr Kz M0) (hpr : PX pr) (hq8_0 : ∀ i, s_c i = 8 → pr i 0 = false) {v0 : Nat} (cv0 : s_c v0 = 8) : Cv l 0 yX9_clear wsX9_clear dC dI ad cA [.ref (ad v0)] M0 (fun M' => INV pr Kz M' ∧ ((M'.1 v0 0).toInt = 0) ∧ (b01 (ONE M0 M' v0) = 1) ∧ ((M'.1 v0 0).toInt = 0) ∧ ((M'.1 v0 3).toInt = 0) ∧ ((M'.1 v0 4).toInt = 0) ∧ ((M'.1 v0 5).toInt = 0) ∧ ((M'.1 v0 6).toInt = 0) ∧ ((M'.1 v0 7).toInt = 0) ∧ ((M'.1 v0 8).toInt = 0)) := by
  refine cv_of (cc := cX9_clear) (maxL := 1) (lv := [(0, .ref (ad v0))]) (by decide) rfl (Nat.le_of_ble_eq_true rfl) rfl ?_
  intro p e s m args below meth c A Q C hret
  refine j_aload_n C 0 0 dX9_clear_0 rfl rfl ?_
  refine y_iconst C dX9_clear_1 ?_
  refine y_putI C 8 _ _ qX9_clear_9 cv0 rfl ft_8_0 sb_8_0 hM0 (hq8_0 _ cv0) dX9_clear_2 (by exact ⟨⟨(by decide), (by decide)⟩, ⟨(by decide), (by decide)⟩⟩) (fun M101 eM101 hM101 => ?_)
  refine j_aload_n C 0 0 dX9_clear_5 rfl rfl ?_
  refine y_iconst C dX9_clear_6 ?_
  refine y_putI C 8 _ _ qX9_clear_22 cv0 rfl ft_8_3 sb_8_3 hM101 (PX.w hpr cv0 rfl) dX9_clear_7 (by exact ⟨⟨(by decide), (by decide)⟩, ⟨(by decide), (by decide)⟩⟩) (fun M102 eM102 hM102 => ?_)
  refine j_aload_n C 0 0 dX9_clear_10 rfl rfl ?_
  refine y_iconst C dX9_clear_11 ?_
  refine y_putI C 8 _ _ qX9_clear_25 cv0 rfl ft_8_4 sb_8_4 hM102 (PX.w hpr cv0 rfl) dX9_clear_12 (by exact ⟨⟨(by decide), (by decide)⟩, ⟨(by decide), (by decide)⟩⟩) (fun M103 eM103 hM103 => ?_)
  refine j_aload_n C 0 0 dX9_clear_15 rfl rfl ?_
  refine y_iconst C dX9_clear_16 ?_
  refine y_putIF C 8 qX9_clear_28 cv0 rfl ft_8_5 sb_8_5 hM103 (PX.w hpr cv0 rfl) dX9_clear_17 (fun M104 eM104 hM104 => ?_)
  refine j_aload_n C 0 0 dX9_clear_20 rfl rfl ?_
  refine y_iconst C dX9_clear_21 ?_
  refine y_putIF C 8 qX9_clear_31 cv0 rfl ft_8_6 sb_8_6 hM104 (PX.w hpr cv0 rfl) dX9_clear_22 (fun M105 eM105 hM105 => ?_)
  refine j_aload_n C 0 0 dX9_clear_25 rfl rfl ?_
  refine y_iconst C dX9_clear_26 ?_
  refine y_putIF C 8 qX9_clear_34 cv0 rfl ft_8_7 sb_8_7 hM105 (PX.w hpr cv0 rfl) dX9_clear_27 (fun M106 eM106 hM106 => ?_)
  refine j_aload_n C 0 0 dX9_clear_30 rfl rfl ?_
  refine y_iconst C dX9_clear_31 ?_
  refine y_putIF C 8 qX9_clear_37 cv0 rfl ft_8_8 sb_8_8 hM106 (PX.w hpr cv0 rfl) dX9_clear_32 (fun M107 eM107 hM107 => ?_)
  have u108o : b01 (ONE M0 M107 v0) = 1 := b01_i (one_w (one_w (one_w (one_w (one_w (one_w (one_w (one_r M0 v0) eM101) eM102) eM103) eM104) eM105) eM106) eM107)
  have u108_0 : (M107.1 v0 0).toInt = 0 := (show (M107.1 v0 0).toInt = (M101.1 v0 0).toInt from s_fb eM102 (by decide) (s_fb eM103 (by decide) (s_fb eM104 (by decide) (s_fb eM105 (by decide) (s_fb eM106 (by decide) (s_fb eM107 (by decide) (rfl))))))).trans (s_wr eM101 (by exact ⟨(by decide), (by decide)⟩))
  have u108_3 : (M107.1 v0 3).toInt = 0 := (show (M107.1 v0 3).toInt = (M102.1 v0 3).toInt from s_fb eM103 (by decide) (s_fb eM104 (by decide) (s_fb eM105 (by decide) (s_fb eM106 (by decide) (s_fb eM107 (by decide) (rfl)))))).trans (s_wr eM102 (by exact ⟨(by decide), (by decide)⟩))
  have u108_4 : (M107.1 v0 4).toInt = 0 := (show (M107.1 v0 4).toInt = (M103.1 v0 4).toInt from s_fb eM104 (by decide) (s_fb eM105 (by decide) (s_fb eM106 (by decide) (s_fb eM107 (by decide) (rfl))))).trans (s_wr eM103 (by exact ⟨(by decide), (by decide)⟩))
  have u108_5 : (M107.1 v0 5).toInt = 0 := (show (M107.1 v0 5).toInt = (M104.1 v0 5).toInt from s_fb eM105 (by decide) (s_fb eM106 (by decide) (s_fb eM107 (by decide) (rfl)))).trans (s_wr eM104 (by exact ⟨(by decide), (by decide)⟩))
  have u108_6 : (M107.1 v0 6).toInt = 0 := (show (M107.1 v0 6).toInt = (M105.1 v0 6).toInt from s_fb eM106 (by decide) (s_fb eM107 (by decide) (rfl))).trans (s_wr eM105 (by exact ⟨(by decide), (by decide)⟩))
  have u108_7 : (M107.1 v0 7).toInt = 0 := (show (M107.1 v0 7).toInt = (M106.1 v0 7).toInt from s_fb eM107 (by decide) (rfl)).trans (s_wr eM106 (by exact ⟨(by decide), (by decide)⟩))
  have u108_8 : (M107.1 v0 8).toInt = 0 := (show (M107.1 v0 8).toInt = (M107.1 v0 8).toInt from rfl).trans (s_wr eM107 (by exact ⟨(by decide), (by decide)⟩))
  exact hret _ _ _ dX9_clear_35 ⟨hM107, by exact ⟨u108_0, ⟨u108o, ⟨u108_0, ⟨u108_3, ⟨u108_4, ⟨u108_5, ⟨u108_6, ⟨u108_7, u108_8⟩⟩⟩⟩⟩⟩⟩⟩⟩
set_option maxHeartbeats 4000000 in
theorem s1_X3_isBlank {l : Launch} {dC : Nat → ClassId} {dI : Nat → Nat → Nat} {ad : Nat → Nat} {cA : Nat → ClassId} {pr : Nat → Nat → Bool} {Kz : mm_M} {M0 : mm_M} (hM0 : INV pr Kz M0) (a0 : Int) (ha0 : -2147483648 ≤ a0 ∧ a0 ≤ 2147483647) : Ci l 0 yX3_isBlank wsX3_isBlank dC dI ad cA [.int (sI a0)] M0 (fun r M' => ∃ a : Int, r = sI a ∧ M0 = M' ∧ 0 ≤ a ∧ a ≤ 1 ∧ ((a0 = 10 ∧ a = 1) ∨ (¬ a0 = 10 ∧ ¬ a0 = 32 ∧ a = 0) ∨ (¬ a0 = 10 ∧ a0 = 32 ∧ a = 1))) := by
  refine ci_of (cc := cX3_isBlank) (maxL := 1) (ty := .boolean) (lv := [(0, .int (sI a0))]) (by decide) rfl (fun r M' hp => by obtain ⟨a, rfl, -, h⟩ := hp; rcases (show a = 0 ∨ a = 1 by omega) with rfl | rfl <;> rfl) (Nat.le_of_ble_eq_true rfl) rfl ?_
  intro p e s m args below meth c A Q C hret
  refine j_iload_n C 0 0 dX3_isBlank_0 rfl rfl ?_
  refine y_bipush C dX3_isBlank_1 rfl ?_
  refine y_icmp_eq C 12 dX3_isBlank_3 (by decide) (by exact ⟨⟨ha0.1, ha0.2⟩, ⟨(by decide), (by decide)⟩⟩) (fun h101 => ?_) (fun h101 => ?_)
  · refine y_iconst C dX3_isBlank_12 ?_
    refine j_goto C 17 dX3_isBlank_13 (by decide) ?_
    exact hret _ _ _ _ dX3_isBlank_17 ⟨1, rfl, rfl, by exact ⟨(by decide), ⟨(by decide), (by (clear hret C ha0 hM0; omega))⟩⟩⟩
  · refine j_iload_n C 0 0 dX3_isBlank_6 rfl rfl ?_
    refine y_bipush C dX3_isBlank_7 rfl ?_
    refine y_icmp_ne C 16 dX3_isBlank_9 (by decide) (by exact ⟨⟨ha0.1, ha0.2⟩, ⟨(by decide), (by decide)⟩⟩) (fun h102 => ?_) (fun h102 => ?_)
    · refine y_iconst C dX3_isBlank_16 ?_
      exact hret _ _ _ _ dX3_isBlank_17 ⟨0, rfl, rfl, by exact ⟨(by decide), ⟨(by decide), (by omega)⟩⟩⟩
    · refine y_iconst C dX3_isBlank_12 ?_
      refine j_goto C 17 dX3_isBlank_13 (by decide) ?_
      exact hret _ _ _ _ dX3_isBlank_17 ⟨1, rfl, rfl, by exact ⟨(by decide), ⟨(by decide), (by omega)⟩⟩⟩
set_option maxHeartbeats 4000000 in
theorem s1_X3_isSmall {l : Launch} {dC : Nat → ClassId} {dI : Nat → Nat → Nat} {ad : Nat → Nat} {cA : Nat → ClassId} {pr : Nat → Nat → Bool} {Kz : mm_M} {M0 : mm_M} (hM0 : INV pr Kz M0) (a0 : Int) (ha0 : -2147483648 ≤ a0 ∧ a0 ≤ 2147483647) : Ci l 0 yX3_isSmall wsX3_isSmall dC dI ad cA [.int (sI a0)] M0 (fun r M' => ∃ a : Int, r = sI a ∧ M0 = M' ∧ 0 ≤ a ∧ a ≤ 1 ∧ ((a0 < 97 ∧ a = 0) ∨ (97 ≤ a0 ∧ 122 < a0 ∧ a = 0) ∨ (97 ≤ a0 ∧ a0 ≤ 122 ∧ a = 1))) := by
  refine ci_of (cc := cX3_isSmall) (maxL := 1) (ty := .boolean) (lv := [(0, .int (sI a0))]) (by decide) rfl (fun r M' hp => by obtain ⟨a, rfl, -, h⟩ := hp; rcases (show a = 0 ∨ a = 1 by omega) with rfl | rfl <;> rfl) (Nat.le_of_ble_eq_true rfl) rfl ?_
  intro p e s m args below meth c A Q C hret
  refine j_iload_n C 0 0 dX3_isSmall_0 rfl rfl ?_
  refine y_bipush C dX3_isSmall_1 rfl ?_
  refine y_icmp_lt C 16 dX3_isSmall_3 (by decide) (by exact ⟨⟨ha0.1, ha0.2⟩, ⟨(by decide), (by decide)⟩⟩) (fun h101 => ?_) (fun h101 => ?_)
  · refine y_iconst C dX3_isSmall_16 ?_
    exact hret _ _ _ _ dX3_isSmall_17 ⟨0, rfl, rfl, by exact ⟨(by decide), ⟨(by decide), (by omega)⟩⟩⟩
  · refine j_iload_n C 0 0 dX3_isSmall_6 rfl rfl ?_
    refine y_bipush C dX3_isSmall_7 rfl ?_
    refine y_icmp_gt C 16 dX3_isSmall_9 (by decide) (by exact ⟨⟨ha0.1, ha0.2⟩, ⟨(by decide), (by decide)⟩⟩) (fun h102 => ?_) (fun h102 => ?_)
    · refine y_iconst C dX3_isSmall_16 ?_
      exact hret _ _ _ _ dX3_isSmall_17 ⟨0, rfl, rfl, by exact ⟨(by decide), ⟨(by decide), (by omega)⟩⟩⟩
    · refine y_iconst C dX3_isSmall_12 ?_
      refine j_goto C 17 dX3_isSmall_13 (by decide) ?_
      exact hret _ _ _ _ dX3_isSmall_17 ⟨1, rfl, rfl, by exact ⟨(by decide), ⟨(by decide), (by omega)⟩⟩⟩
set_option maxHeartbeats 4000000 in
theorem s1_X3_isDigit {l : Launch} {dC : Nat → ClassId} {dI : Nat → Nat → Nat} {ad : Nat → Nat} {cA : Nat → ClassId} {pr : Nat → Nat → Bool} {Kz : mm_M} {M0 : mm_M} (hM0 : INV pr Kz M0) (a0 : Int) (ha0 : -2147483648 ≤ a0 ∧ a0 ≤ 2147483647) : Ci l 0 yX3_isDigit wsX3_isDigit dC dI ad cA [.int (sI a0)] M0 (fun r M' => ∃ a : Int, r = sI a ∧ M0 = M' ∧ 0 ≤ a ∧ a ≤ 1 ∧ ((a0 < 48 ∧ a = 0) ∨ (48 ≤ a0 ∧ 57 < a0 ∧ a = 0) ∨ (48 ≤ a0 ∧ a0 ≤ 57 ∧ a = 1))) := by
  refine ci_of (cc := cX3_isDigit) (maxL := 1) (ty := .boolean) (lv := [(0, .int (sI a0))]) (by decide) rfl (fun r M' hp => by obtain ⟨a, rfl, -, h⟩ := hp; rcases (show a = 0 ∨ a = 1 by omega) with rfl | rfl <;> rfl) (Nat.le_of_ble_eq_true rfl) rfl ?_
  intro p e s m args below meth c A Q C hret
  refine j_iload_n C 0 0 dX3_isDigit_0 rfl rfl ?_
  refine y_bipush C dX3_isDigit_1 rfl ?_
  refine y_icmp_lt C 16 dX3_isDigit_3 (by decide) (by exact ⟨⟨ha0.1, ha0.2⟩, ⟨(by decide), (by decide)⟩⟩) (fun h101 => ?_) (fun h101 => ?_)
  · refine y_iconst C dX3_isDigit_16 ?_
    exact hret _ _ _ _ dX3_isDigit_17 ⟨0, rfl, rfl, by exact ⟨(by decide), ⟨(by decide), (by omega)⟩⟩⟩
  · refine j_iload_n C 0 0 dX3_isDigit_6 rfl rfl ?_
    refine y_bipush C dX3_isDigit_7 rfl ?_
    refine y_icmp_gt C 16 dX3_isDigit_9 (by decide) (by exact ⟨⟨ha0.1, ha0.2⟩, ⟨(by decide), (by decide)⟩⟩) (fun h102 => ?_) (fun h102 => ?_)
    · refine y_iconst C dX3_isDigit_16 ?_
      exact hret _ _ _ _ dX3_isDigit_17 ⟨0, rfl, rfl, by exact ⟨(by decide), ⟨(by decide), (by omega)⟩⟩⟩
    · refine y_iconst C dX3_isDigit_12 ?_
      refine j_goto C 17 dX3_isDigit_13 (by decide) ?_
      exact hret _ _ _ _ dX3_isDigit_17 ⟨1, rfl, rfl, by exact ⟨(by decide), ⟨(by decide), (by omega)⟩⟩⟩
set_option maxHeartbeats 4000000 in
theorem s1_X3_endOf {l : Launch} {dC : Nat → ClassId} {dI : Nat → Nat → Nat} {ad : Nat → Nat} {cA : Nat → ClassId} {pr : Nat → Nat → Bool} {Kz : mm_M} {M0 : mm_M} (hM0 : INV pr Kz M0) (a1 : Int) (ha1 : -2147483648 ≤ a1 ∧ a1 ≤ 2147483647) (a2 : Int) (ha2 : -2147483648 ≤ a2 ∧ a2 ≤ 2147483647) (gf : Nat → Int) (hp0 : a1 < a2) (hp1 : b01 (TPX gf a2 M0) = 1) (hp2 : 0 ≤ a1 ∧ a1 ≤ 899) (hp3 : 0 ≤ a2 ∧ a2 ≤ 900) : Ci l 1 yX3_endOf wsX3_endOf dC dI ad cA [.ref (ad 1), .int (sI a1), .int (sI a2)] M0 (fun r M' => ∃ a : Int, r = sI a ∧ M0 = M' ∧ 1 ≤ a ∧ a ≤ 900 ∧ (a1 < a ∧ a ≤ a2) ∧ (a = teF gf a2 a1)) := by
  refine ci_of (cc := cX3_endOf) (maxL := 4) (ty := .int) (lv := [(0, .ref (ad 1)), (1, .int (sI a1)), (2, .int (sI a2))]) (by decide) rfl (fun r M' hp => rfl) (Nat.le_of_ble_eq_true rfl) rfl ?_
  intro p e s m args below meth c A Q C hret
  have u101t := teF_s gf a2 a1
  refine j_iload_n C 1 1 dX3_endOf_0 rfl rfl ?_
  refine y_iconst C dX3_endOf_1 ?_
  refine y_iadd C dX3_endOf_2 ?_
  refine j_istore_n C 3 [(3, .int (sI (a1 + 1))), (0, .ref (ad 1)), (1, .int (sI a1)), (2, .int (sI a2))] dX3_endOf_3 rfl (by decide) rfl ?_
  refine j_aload_n C 1 0 dX3_endOf_4 rfl rfl ?_
  refine j_iload_n C 2 1 dX3_endOf_5 rfl rfl ?_
  have u102p := tp_r (f := gf) (n := a2) (M := M0) (a := a1) (by exact hp1) (by exact ⟨hp2.1, hp0⟩)
  refine y_iald C 20 900 _ _ rfl rfl rfl ak_20 an_20 rfl (sb_20 _) hM0 dX3_endOf_6 (by exact ⟨hp2.1, (by omega)⟩) (fun a103 ea103 la103 ua103 => ?_)
  refine j_callSi C (d := 0) (As := [.int (sI a103)]) (st := []) (s1_X3_isSmall hM0 a103 (by omega)) gX3_endOf_X3_isSmall rfl hdX3_isSmalls (by decide) (Nat.le_of_ble_eq_true rfl) dX3_endOf_7 rfl (fun r104 M105 h106 => ?_)
  obtain ⟨a108, rfl, rfl, h107⟩ := h106
  refine y_if_eq C 33 dX3_endOf_10 (by decide) (by omega) (fun h109 => ?_) (fun h109 => ?_)
  · refine j_aload_n C 1 0 dX3_endOf_33 rfl rfl ?_
    refine j_iload_n C 2 1 dX3_endOf_34 rfl rfl ?_
    have u110p := tp_r (f := gf) (n := a2) (M := M0) (a := a1) (by exact hp1) (by exact ⟨hp2.1, hp0⟩)
    refine y_iald C 20 900 _ _ rfl rfl rfl ak_20 an_20 rfl (sb_20 _) hM0 dX3_endOf_35 (by exact ⟨hp2.1, (by omega)⟩) (fun a111 ea111 la111 ua111 => ?_)
    refine j_callSi C (d := 0) (As := [.int (sI a111)]) (st := []) (s1_X3_isDigit hM0 a111 (by (clear ua111 la111 u110p h109 h107 u102p u101t hret C hp3 hp2 hp1 hp0 ha2 ha1 hM0; omega))) gX3_endOf_X3_isDigit rfl hdX3_isDigits (by decide) (Nat.le_of_ble_eq_true rfl) dX3_endOf_36 rfl (fun r112 M113 h114 => ?_)
    obtain ⟨a116, rfl, rfl, h115⟩ := h114
    refine y_if_eq C 62 dX3_endOf_39 (by decide) (by omega) (fun h117 => ?_) (fun h117 => ?_)
    · refine j_iload_n C 0 3 dX3_endOf_62 rfl rfl ?_
      exact hret _ _ _ _ dX3_endOf_63 ⟨(a1 + 1), rfl, rfl, by (clear ua111 la111 u110p hret C hp3 hp1 ha2 hM0; omega)⟩
    · have L132 : ∀ (n130 : Nat), ∀ (a133 : Int), (1 ≤ a133 ∧ a133 ≤ 900 ∧ (a1 < a133) ∧ (a133 ≤ a2) ∧ (runE dgB gf a2 a133 = runE dgB gf a2 (a1 + 1)) ∧ (900 - a133) < (n130 : Int)) → jj p l e (cn_R 1) s m args below meth c 0 0 Q 4 dC dI ad cA A M0 42 [(0, .ref (ad 1)), (2, .int (sI a2)), (3, .int (sI a133))] [] := by
        intro n130
        induction n130 with
        | zero =>
          intro a133 h134
          exfalso; omega
        | succ n130 ih131 =>
          intro a133 h134
          have u135n := run_e dgB gf a2 a133
          refine j_iload_n C 2 3 dX3_endOf_42 rfl rfl ?_
          refine j_iload_n C 1 2 dX3_endOf_43 rfl rfl ?_
          refine y_icmp_ge C 62 dX3_endOf_44 (by decide) (by exact ⟨⟨(by (clear u135n ih131 h117 h115 ua111 la111 ea111 u110p h109 h107 ua103 la103 ea103 u102p u101t hret C hp2 hp1 hp0 ha1 hM0; omega)), (by (clear u135n ih131 h117 h115 ua111 la111 ea111 u110p h109 h107 ua103 la103 ea103 u102p u101t hret C hp2 hp1 hp0 ha1 hM0; omega))⟩, ⟨ha2.1, ha2.2⟩⟩) (fun h136 => ?_) (fun h136 => ?_)
          · refine j_iload_n C 2 3 dX3_endOf_62 rfl rfl ?_
            exact hret _ _ _ _ dX3_endOf_63 ⟨a133, rfl, rfl, by exact ⟨h134.1, ⟨h134.2.1, ⟨⟨h134.2.2.1, h134.2.2.2.1⟩, (by (clear ih131 ua111 la111 u110p h109 hret C hp3 hp2 hp1 ha2 ha1 hM0; omega))⟩⟩⟩⟩
          · have u137s := run_dg gf a2 a133 (by (clear u135n ih131 h117 h115 ua111 la111 ea111 u110p h109 h107 ua103 la103 ea103 u102p u101t hret C hp3 hp2 hp1 hp0 ha2 ha1 hM0; omega))
            refine j_aload_n C 0 0 dX3_endOf_47 rfl rfl ?_
            refine j_iload_n C 2 3 dX3_endOf_48 rfl rfl ?_
            have u138p := tp_r (f := gf) (n := a2) (M := M0) (a := a133) (by exact hp1) (by omega)
            refine y_iald C 20 900 _ _ rfl rfl rfl ak_20 an_20 rfl (sb_20 _) hM0 dX3_endOf_49 (by (clear u138p u137s u135n ih131 h117 h115 ua111 la111 ea111 u110p h109 h107 ua103 la103 ea103 u102p u101t hret C hp1 hM0; omega)) (fun a139 ea139 la139 ua139 => ?_)
            refine j_callSi C (d := 0) (As := [.int (sI a139)]) (st := []) (s1_X3_isDigit hM0 a139 (by (clear ea139 u138p u137s h136 u135n h134 ih131 h117 h115 ua111 la111 ea111 u110p h109 h107 ua103 la103 ea103 u102p u101t hret C hp3 hp2 hp1 hp0 ha2 ha1 hM0; omega))) gX3_endOf_X3_isDigit rfl hdX3_isDigits (by decide) (Nat.le_of_ble_eq_true rfl) dX3_endOf_50 rfl (fun r140 M141 h142 => ?_)
            obtain ⟨a144, rfl, rfl, h143⟩ := h142
            refine y_if_eq C 62 dX3_endOf_53 (by decide) (by (clear ua139 la139 ea139 u138p u137s h136 u135n h134 ih131 h117 h115 ua111 la111 ea111 u110p h109 h107 ua103 la103 ea103 u102p u101t hret C hp3 hp2 hp1 hp0 ha2 ha1 hM0; omega)) (fun h145 => ?_) (fun h145 => ?_)
            · refine j_iload_n C 2 3 dX3_endOf_62 rfl rfl ?_
              exact hret _ _ _ _ dX3_endOf_63 ⟨a133, rfl, rfl, by exact ⟨h134.1, ⟨h134.2.1, ⟨⟨h134.2.2.1, h134.2.2.2.1⟩, (by (clear ih131 ua111 la111 u110p h109 hret C hp3 hp2 hp1 hp0 ha2 ha1 hM0; omega))⟩⟩⟩⟩
            · refine y_iinc C 2 [(3, .int (sI (a133 + 1))), (0, .ref (ad 1)), (2, .int (sI a2))] dX3_endOf_56 rfl (by decide) rfl ?_
              refine j_goto C 42 dX3_endOf_59 (by decide) ?_
              refine j_lv [1, 2, 0] rfl ?_; exact ih131 (a133 + 1) (by (clear u135n ih131 h117 h115 ua111 la111 ea111 u110p h109 h107 ua103 la103 ea103 u102p u101t hret C hp1 hM0; omega))
      refine j_lv [1, 3, 0] rfl ?_; exact L132 2010 (a1 + 1) (by (clear L132 h117 h115 ua111 la111 ea111 u110p h109 h107 ua103 la103 ea103 u102p u101t hret C hp3 hp1 ha2 hM0; omega))
  · have L160 : ∀ (n158 : Nat), ∀ (a161 : Int), (1 ≤ a161 ∧ a161 ≤ 900 ∧ (a1 < a161) ∧ (a161 ≤ a2) ∧ (runE smB gf a2 a161 = runE smB gf a2 (a1 + 1)) ∧ (900 - a161) < (n158 : Int)) → jj p l e (cn_R 1) s m args below meth c 0 0 Q 4 dC dI ad cA A M0 13 [(0, .ref (ad 1)), (2, .int (sI a2)), (3, .int (sI a161))] [] := by
      intro n158
      induction n158 with
      | zero =>
        intro a161 h162
        exfalso; omega
      | succ n158 ih159 =>
        intro a161 h162
        have u163n := run_e smB gf a2 a161
        refine j_iload_n C 2 3 dX3_endOf_13 rfl rfl ?_
        refine j_iload_n C 1 2 dX3_endOf_14 rfl rfl ?_
        refine y_icmp_ge C 62 dX3_endOf_15 (by decide) (by exact ⟨⟨(by (clear u163n ih159 h109 h107 ua103 la103 ea103 u102p u101t hret C hp2 hp1 hp0 ha1 hM0; omega)), (by (clear u163n ih159 h109 h107 ua103 la103 ea103 u102p u101t hret C hp2 hp1 hp0 ha1 hM0; omega))⟩, ⟨ha2.1, ha2.2⟩⟩) (fun h164 => ?_) (fun h164 => ?_)
        · refine j_iload_n C 2 3 dX3_endOf_62 rfl rfl ?_
          exact hret _ _ _ _ dX3_endOf_63 ⟨a161, rfl, rfl, by exact ⟨h162.1, ⟨h162.2.1, ⟨⟨h162.2.2.1, h162.2.2.2.1⟩, (by (clear ih159 hret C hp3 hp2 hp1 ha2 ha1 hM0; omega))⟩⟩⟩⟩
        · have u165s := run_sm gf a2 a161 (by omega)
          refine j_aload_n C 0 0 dX3_endOf_18 rfl rfl ?_
          refine j_iload_n C 2 3 dX3_endOf_19 rfl rfl ?_
          have u166p := tp_r (f := gf) (n := a2) (M := M0) (a := a161) (by exact hp1) (by omega)
          refine y_iald C 20 900 _ _ rfl rfl rfl ak_20 an_20 rfl (sb_20 _) hM0 dX3_endOf_20 (by (clear u166p u165s u163n ih159 h109 h107 ua103 la103 ea103 u102p u101t hret C hp1 hM0; omega)) (fun a167 ea167 la167 ua167 => ?_)
          refine j_callSi C (d := 0) (As := [.int (sI a167)]) (st := []) (s1_X3_isSmall hM0 a167 (by (clear ea167 u166p u165s h164 u163n h162 ih159 h109 h107 ua103 la103 ea103 u102p u101t hret C hp3 hp2 hp1 hp0 ha2 ha1 hM0; omega))) gX3_endOf_X3_isSmall rfl hdX3_isSmalls (by decide) (Nat.le_of_ble_eq_true rfl) dX3_endOf_21 rfl (fun r168 M169 h170 => ?_)
          obtain ⟨a172, rfl, rfl, h171⟩ := h170
          refine y_if_eq C 62 dX3_endOf_24 (by decide) (by (clear ua167 la167 ea167 u166p u165s h164 u163n h162 ih159 h109 h107 ua103 la103 ea103 u102p u101t hret C hp3 hp2 hp1 hp0 ha2 ha1 hM0; omega)) (fun h173 => ?_) (fun h173 => ?_)
          · refine j_iload_n C 2 3 dX3_endOf_62 rfl rfl ?_
            exact hret _ _ _ _ dX3_endOf_63 ⟨a161, rfl, rfl, by exact ⟨h162.1, ⟨h162.2.1, ⟨⟨h162.2.2.1, h162.2.2.2.1⟩, (by (clear ih159 hret C hp3 hp2 hp1 hp0 ha2 ha1 hM0; omega))⟩⟩⟩⟩
          · refine y_iinc C 2 [(3, .int (sI (a161 + 1))), (0, .ref (ad 1)), (2, .int (sI a2))] dX3_endOf_27 rfl (by decide) rfl ?_
            refine j_goto C 13 dX3_endOf_30 (by decide) ?_
            refine j_lv [1, 2, 0] rfl ?_; exact ih159 (a161 + 1) (by (clear u163n ih159 h109 h107 ua103 la103 ea103 u102p u101t hret C hp1 hM0; omega))
    refine j_lv [1, 3, 0] rfl ?_; exact L160 2010 (a1 + 1) (by (clear L160 h109 h107 ua103 la103 ea103 u102p u101t hret C hp3 hp1 ha2 hM0; omega))
set_option maxHeartbeats 4000000 in
theorem s1_J0_isLatin1_aae02 {l : Launch} {dC : Nat → ClassId} {dI : Nat → Nat → Nat} {ad : Nat → Nat} {cA : Nat → ClassId} {pr : Nat → Nat → Bool} {Kz : mm_M} {M0 : mm_M} (hM0 : INV pr Kz M0)  : Ci l 0 yJ0_isLatin1_aae02 wsJ0_isLatin1_aae02 dC dI ad cA [.ref (dI 1000 0)] M0 (fun r M' => ∃ a : Int, r = sI a ∧ M0 = M' ∧ 1 ≤ a ∧ a ≤ 1 ∧ ((a = 1))) := by
  refine ci_of (cc := cJ0_isLatin1_aae02) (maxL := 1) (ty := .boolean) (lv := [(0, .ref (dI 1000 0))]) (by decide) rfl (fun r M' hp => by obtain ⟨a, rfl, -, h⟩ := hp; rcases (show a = 0 ∨ a = 1 by omega) with rfl | rfl <;> rfl) (Nat.le_of_ble_eq_true rfl) rfl ?_
  intro p e s m args below meth c A Q C hret
  refine j_getsC C fJ0_isLatin1_aae02_38 dJ0_isLatin1_aae02_0 ?_
  refine y_if_eq C 17 dJ0_isLatin1_aae02_3 (by decide) (by exact ⟨(by decide), (by decide)⟩) (fun h101 => ?_) (fun h101 => ?_)
  · exfalso; omega
  · refine j_aload_n C 0 0 dJ0_isLatin1_aae02_6 rfl rfl ?_
    refine j_strC C (by decide) fJ0_isLatin1_aae02_15 dJ0_isLatin1_aae02_7 ?_
    refine y_if_ne C 17 dJ0_isLatin1_aae02_10 (by decide) (by exact ⟨(by decide), (by decide)⟩) (fun h102 => ?_) (fun h102 => ?_)
    · exfalso; omega
    · refine y_iconst C dJ0_isLatin1_aae02_13 ?_
      refine j_goto C 18 dJ0_isLatin1_aae02_14 (by decide) ?_
      exact hret _ _ _ _ dJ0_isLatin1_aae02_18 ⟨1, rfl, rfl, by omega⟩
set_option maxHeartbeats 4000000 in
theorem s1_J0_coder_7d493 {l : Launch} {dC : Nat → ClassId} {dI : Nat → Nat → Nat} {ad : Nat → Nat} {cA : Nat → ClassId} {pr : Nat → Nat → Bool} {Kz : mm_M} {M0 : mm_M} (hM0 : INV pr Kz M0)  : Ci l 0 yJ0_coder_7d493 wsJ0_coder_7d493 dC dI ad cA [.ref (dI 1000 0)] M0 (fun r M' => ∃ a : Int, r = sI a ∧ M0 = M' ∧ 0 ≤ a ∧ a ≤ 0 ∧ ((a = 0))) := by
  refine ci_of (cc := cJ0_coder_7d493) (maxL := 1) (ty := .byte) (lv := [(0, .ref (dI 1000 0))]) (by decide) rfl (fun r M' hp => by obtain ⟨a, rfl, -, h⟩ := hp; exact nar_byte (by exact ⟨h.1, (by omega)⟩)) (Nat.le_of_ble_eq_true rfl) rfl ?_
  intro p e s m args below meth c A Q C hret
  refine j_getsC C fJ0_coder_7d493_38 dJ0_coder_7d493_0 ?_
  refine y_if_eq C 13 dJ0_coder_7d493_3 (by decide) (by exact ⟨(by decide), (by decide)⟩) (fun h101 => ?_) (fun h101 => ?_)
  · exfalso; omega
  · refine j_aload_n C 0 0 dJ0_coder_7d493_6 rfl rfl ?_
    refine j_strC C (by decide) fJ0_coder_7d493_15 dJ0_coder_7d493_7 ?_
    refine j_goto C 14 dJ0_coder_7d493_10 (by decide) ?_
    exact hret _ _ _ _ dJ0_coder_7d493_14 ⟨0, rfl, rfl, by omega⟩
set_option maxHeartbeats 4000000 in
theorem s1_J0_length_8abf5 {l : Launch} {dC : Nat → ClassId} {dI : Nat → Nat → Nat} {ad : Nat → Nat} {cA : Nat → ClassId} {pr : Nat → Nat → Bool} {Kz : mm_M} {M0 : mm_M} (hM0 : INV pr Kz M0)  : Ci l 1 yJ0_length_8abf5 wsJ0_length_8abf5 dC dI ad cA [.ref (dI 1000 0)] M0 (fun r M' => ∃ a : Int, r = sI a ∧ M0 = M' ∧ 0 ≤ a ∧ a ≤ 12 ∧ (a = 12)) := by
  refine ci_of (cc := cJ0_length_8abf5) (maxL := 1) (ty := .int) (lv := [(0, .ref (dI 1000 0))]) (by decide) rfl (fun r M' hp => rfl) (Nat.le_of_ble_eq_true rfl) rfl ?_
  intro p e s m args below meth c A Q C hret
  refine j_aload_n C 0 0 dJ0_length_8abf5_0 rfl rfl ?_
  refine j_strV C (by decide) fJ0_length_8abf5_9 dJ0_length_8abf5_1 ?_
  refine j_strL C 12 (by decide) rfl dJ0_length_8abf5_4 ?_
  refine j_aload_n C 0 0 dJ0_length_8abf5_5 rfl rfl ?_
  refine j_callSS C (d := 0) (As := []) (st := [.int (sI 12)]) 0 (by decide) (s1_J0_coder_7d493 hM0) gJ0_length_8abf5_J0_coder_7d493 rfl hdJ0_coder_7d493 (by decide) (Nat.le_of_ble_eq_true rfl) dJ0_length_8abf5_6 rfl (fun r101 M102 h103 => ?_)
  obtain ⟨a105, rfl, rfl, h104⟩ := h103
  refine e_ishrP C dJ0_length_8abf5_9 (by exact ⟨(by decide), (by decide)⟩) (fun lb106 ub106 => ?_)
  have u107k : (shrI 12 a105) = 12 := by rw [show a105 = 0 by exact h104.2.2]; decide
  exact hret _ _ _ _ dJ0_length_8abf5_10 ⟨(shrI 12 a105), rfl, rfl, by exact ⟨lb106, ⟨ub106, u107k⟩⟩⟩
set_option maxHeartbeats 4000000 in
theorem s1_J1_canEncode_9a6ad {l : Launch} {dC : Nat → ClassId} {dI : Nat → Nat → Nat} {ad : Nat → Nat} {cA : Nat → ClassId} {pr : Nat → Nat → Bool} {Kz : mm_M} {M0 : mm_M} (hM0 : INV pr Kz M0) (a0 : Int) (ha0 : -2147483648 ≤ a0 ∧ a0 ≤ 2147483647) : Ci l 0 yJ1_canEncode_9a6ad wsJ1_canEncode_9a6ad dC dI ad cA [.int (sI a0)] M0 (fun r M' => ∃ a : Int, r = sI a ∧ M0 = M' ∧ 0 ≤ a ∧ a ≤ 1 ∧ ((a0 < 0 ∧ a = 0) ∨ (0 ≤ a0 ∧ 255 < a0 ∧ a = 0) ∨ (0 ≤ a0 ∧ a0 ≤ 255 ∧ a = 1))) := by
  refine ci_of (cc := cJ1_canEncode_9a6ad) (maxL := 1) (ty := .boolean) (lv := [(0, .int (sI a0))]) (by decide) rfl (fun r M' hp => by obtain ⟨a, rfl, -, h⟩ := hp; rcases (show a = 0 ∨ a = 1 by omega) with rfl | rfl <;> rfl) (Nat.le_of_ble_eq_true rfl) rfl ?_
  intro p e s m args below meth c A Q C hret
  refine j_iload_n C 0 0 dJ1_canEncode_9a6ad_0 rfl rfl ?_
  refine y_if_lt C 15 dJ1_canEncode_9a6ad_1 (by decide) (by exact ⟨ha0.1, ha0.2⟩) (fun h101 => ?_) (fun h101 => ?_)
  · refine y_iconst C dJ1_canEncode_9a6ad_15 ?_
    exact hret _ _ _ _ dJ1_canEncode_9a6ad_16 ⟨0, rfl, rfl, by exact ⟨(by decide), ⟨(by decide), (by omega)⟩⟩⟩
  · refine j_iload_n C 0 0 dJ1_canEncode_9a6ad_4 rfl rfl ?_
    refine y_sipush C dJ1_canEncode_9a6ad_5 rfl ?_
    refine y_icmp_gt C 15 dJ1_canEncode_9a6ad_8 (by decide) (by exact ⟨⟨ha0.1, ha0.2⟩, ⟨(by decide), (by decide)⟩⟩) (fun h102 => ?_) (fun h102 => ?_)
    · refine y_iconst C dJ1_canEncode_9a6ad_15 ?_
      exact hret _ _ _ _ dJ1_canEncode_9a6ad_16 ⟨0, rfl, rfl, by exact ⟨(by decide), ⟨(by decide), (by omega)⟩⟩⟩
    · refine y_iconst C dJ1_canEncode_9a6ad_11 ?_
      refine j_goto C 16 dJ1_canEncode_9a6ad_12 (by decide) ?_
      exact hret _ _ _ _ dJ1_canEncode_9a6ad_16 ⟨1, rfl, rfl, by exact ⟨(by decide), ⟨(by decide), (by omega)⟩⟩⟩
set_option maxHeartbeats 4000000 in
theorem s1_J1_indexOfChar_4cfef {l : Launch} {dC : Nat → ClassId} {dI : Nat → Nat → Nat} {ad : Nat → Nat} {cA : Nat → ClassId} {pr : Nat → Nat → Bool} {Kz : mm_M} {M0 : mm_M} (hM0 : INV pr Kz M0) (a1 : Int) (ha1 : -2147483648 ≤ a1 ∧ a1 ≤ 2147483647) (a2 : Int) (ha2 : -2147483648 ≤ a2 ∧ a2 ≤ 2147483647) (a3 : Int) (ha3 : -2147483648 ≤ a3 ∧ a3 ≤ 2147483647) (hp0 : 0 ≤ a1 ∧ a1 ≤ 255) (hp1 : a2 = 0) (hp2 : a3 = 12) (hp3 : 0 ≤ a2 ∧ a2 ≤ 12) (hp4 : 0 ≤ a3 ∧ a3 ≤ 12) : Ci l 0 yJ1_indexOfChar_4cfef wsJ1_indexOfChar_4cfef dC dI ad cA [.ref (dI 1001 0), .int (sI a1), .int (sI a2), .int (sI a3)] M0 (fun r M' => ∃ a : Int, r = sI a ∧ M0 = M' ∧ (-1) ≤ a ∧ a ≤ 11 ∧ (a = -1 ∧ b01 (sgQ a1) = 0 ∨ 0 ≤ a ∧ b01 (sgQ a1) = 1)) := by
  refine ci_of (cc := cJ1_indexOfChar_4cfef) (maxL := 6) (ty := .int) (lv := [(0, .ref (dI 1001 0)), (1, .int (sI a1)), (2, .int (sI a2)), (3, .int (sI a3))]) (by decide) rfl (fun r M' hp => rfl) (Nat.le_of_ble_eq_true rfl) rfl ?_
  intro p e s m args below meth c A Q C hret
  refine j_iload_n C 1 1 dJ1_indexOfChar_4cfef_0 rfl rfl ?_
  refine e_i2b C dJ1_indexOfChar_4cfef_1 (fun lb101 ub101 => ?_)
  refine j_istore C 4 [(4, .int (sI (i8F a1))), (0, .ref (dI 1001 0)), (1, .int (sI a1)), (2, .int (sI a2)), (3, .int (sI a3))] dJ1_indexOfChar_4cfef_2 (by decide) rfl ?_
  refine j_iload_n C 3 2 dJ1_indexOfChar_4cfef_4 rfl rfl ?_
  refine j_istore C 5 [(5, .int (sI a2)), (4, .int (sI (i8F a1))), (0, .ref (dI 1001 0)), (1, .int (sI a1)), (2, .int (sI a2)), (3, .int (sI a3))] dJ1_indexOfChar_4cfef_5 (by decide) rfl ?_
  have u102z := ns_z (i8F a1) a2 (by exact hp1)
  have L113 : ∀ (n111 : Nat), ∀ (a114 : Int), (0 ≤ a114 ∧ a114 ≤ 12 ∧ (b01 (NOS (i8F a1) a114) = 1) ∧ (12 - a114) < (n111 : Int)) → jj p l e (cn_R 0) s m args below meth c 0 0 Q 6 dC dI ad cA A M0 7 [(0, .ref (dI 1001 0)), (3, .int (sI a3)), (4, .int (sI (i8F a1))), (5, .int (sI a114))] [] := by
    intro n111
    induction n111 with
    | zero =>
      intro a114 h115
      exfalso; omega
    | succ n111 ih112 =>
      intro a114 h115
      refine j_iload C 3 dJ1_indexOfChar_4cfef_7 rfl ?_
      refine j_iload_n C 1 3 dJ1_indexOfChar_4cfef_9 rfl rfl ?_
      refine y_icmp_ge C 31 dJ1_indexOfChar_4cfef_10 (by decide) (by exact ⟨⟨(by (clear ih112 u102z ub101 lb101 hret C hp4 hp3 hp1 hp0 ha3 ha2 ha1 hM0; omega)), (by (clear ih112 u102z ub101 lb101 hret C hp4 hp3 hp1 hp0 ha3 ha2 ha1 hM0; omega))⟩, ⟨ha3.1, ha3.2⟩⟩) (fun h116 => ?_) (fun h116 => ?_)
      · obtain rfl : a114 = 12 := by (clear ih112 u102z ub101 lb101 hret C hp4 hp3 hp1 hp0 ha3 ha2 ha1 hM0; omega)
        have u117n := sg_n (c := a1) (by exact ⟨hp0.1, hp0.2⟩) (by exact h115.2.2.1)
        refine y_iconst C dJ1_indexOfChar_4cfef_31 ?_
        exact hret _ _ _ _ dJ1_indexOfChar_4cfef_32 ⟨(-1), rfl, rfl, by exact ⟨(by decide), ⟨(by decide), (by (clear h116 h115 ih112 u102z ub101 lb101 hret C hp4 hp3 hp2 hp1 hp0 ha3 ha2 ha1 hM0; omega))⟩⟩⟩
      · refine j_aload_n C 0 0 dJ1_indexOfChar_4cfef_13 rfl rfl ?_
        refine j_iload C 3 dJ1_indexOfChar_4cfef_14 rfl ?_
        refine j_strE C 12 (by decide) rfl dJ1_indexOfChar_4cfef_16 (by exact ⟨h115.1, (by (clear ih112 u102z ub101 lb101 hret C hp4 hp3 hp1 hp0 ha3 ha2 ha1 hM0; omega))⟩) (fun a118 ea118 la118 ua118 => ?_)
        refine j_iload C 2 dJ1_indexOfChar_4cfef_17 rfl ?_
        refine y_icmp_ne C 25 dJ1_indexOfChar_4cfef_19 (by decide) (by (clear h116 h115 ih112 u102z hret C hp4 hp3 hp2 hp1 hp0 ha3 ha2 ha1 hM0; omega)) (fun h119 => ?_) (fun h119 => ?_)
        · have u120s := ns_s (c := i8F a1) (m := a114) (by exact h115.2.2.1) (by exact h115.1) (by (clear ua118 la118 h116 h115 ih112 u102z ub101 lb101 hret C hp4 hp3 hp2 hp1 hp0 ha3 ha2 ha1 hM0; omega))
          refine y_iinc C 3 [(5, .int (sI (a114 + 1))), (0, .ref (dI 1001 0)), (3, .int (sI a3)), (4, .int (sI (i8F a1)))] dJ1_indexOfChar_4cfef_25 rfl (by decide) rfl ?_
          refine j_goto C 7 dJ1_indexOfChar_4cfef_28 (by decide) ?_
          have u121z := ns_z (i8F a1) a2 (by exact hp1)
          refine j_lv [1, 2, 3, 0] rfl ?_; exact ih112 (a114 + 1) (by exact ⟨(by (clear u121z h119 ua118 la118 ea118 ih112 u102z ub101 lb101 hret C hp4 hp3 hp1 hp0 ha3 ha2 ha1 hM0; omega)), ⟨(by (clear u121z h119 ua118 la118 ea118 ih112 u102z ub101 lb101 hret C hp4 hp3 hp1 hp0 ha3 ha2 ha1 hM0; omega)), ⟨u120s, (by (clear u121z h119 ua118 la118 ea118 ih112 u102z ub101 lb101 hret C hp4 hp3 hp1 hp0 ha3 ha2 ha1 hM0; omega))⟩⟩⟩)
        · refine j_iload C 3 dJ1_indexOfChar_4cfef_22 rfl ?_
          have u122y := sg_y (c := a1) (x := a114) (by exact ⟨hp0.1, hp0.2⟩) (by exact ⟨h115.1, (by omega)⟩) (by (clear ua118 la118 h116 h115 ih112 u102z ub101 lb101 hret C hp4 hp3 hp2 hp1 hp0 ha3 ha2 ha1 hM0; omega))
          exact hret _ _ _ _ dJ1_indexOfChar_4cfef_24 ⟨a114, rfl, rfl, by (clear h119 ua118 la118 ea118 ih112 u102z ub101 lb101 hret C hp4 hp3 hp1 hp0 ha3 ha2 ha1 hM0; omega)⟩
  refine j_lv [2, 5, 1, 0] rfl ?_; exact L113 2010 a2 (by exact ⟨hp3.1, ⟨hp3.2, ⟨u102z, (by (clear L113 ub101 lb101 hret C hp4 hp3 hp2 hp0 ha3 ha2 ha1 hM0; omega))⟩⟩⟩)
set_option maxHeartbeats 4000000 in
theorem s1_J1_indexOf_4cfef {l : Launch} {dC : Nat → ClassId} {dI : Nat → Nat → Nat} {ad : Nat → Nat} {cA : Nat → ClassId} {pr : Nat → Nat → Bool} {Kz : mm_M} {M0 : mm_M} (hM0 : INV pr Kz M0) (a1 : Int) (ha1 : -2147483648 ≤ a1 ∧ a1 ≤ 2147483647) (a2 : Int) (ha2 : -2147483648 ≤ a2 ∧ a2 ≤ 2147483647) (a3 : Int) (ha3 : -2147483648 ≤ a3 ∧ a3 ≤ 2147483647) (hp0 : 0 ≤ a1 ∧ a1 ≤ 255) (hp1 : a2 = 0) (hp2 : a3 = 12) (hp3 : 0 ≤ a2 ∧ a2 ≤ 12) (hp4 : 0 ≤ a3 ∧ a3 ≤ 12) : Ci l 1 yJ1_indexOf_4cfef wsJ1_indexOf_4cfef dC dI ad cA [.ref (dI 1001 0), .int (sI a1), .int (sI a2), .int (sI a3)] M0 (fun r M' => ∃ a : Int, r = sI a ∧ M0 = M' ∧ (-1) ≤ a ∧ a ≤ 11 ∧ (a = -1 ∧ b01 (sgQ a1) = 0 ∨ 0 ≤ a ∧ b01 (sgQ a1) = 1)) := by
  refine ci_of (cc := cJ1_indexOf_4cfef) (maxL := 4) (ty := .int) (lv := [(0, .ref (dI 1001 0)), (1, .int (sI a1)), (2, .int (sI a2)), (3, .int (sI a3))]) (by decide) rfl (fun r M' hp => rfl) (Nat.le_of_ble_eq_true rfl) rfl ?_
  intro p e s m args below meth c A Q C hret
  refine j_iload_n C 1 1 dJ1_indexOf_4cfef_0 rfl rfl ?_
  refine j_callSi C (d := 0) (As := [.int (sI a1)]) (st := []) (s1_J1_canEncode_9a6ad hM0 a1 (by exact ⟨ha1.1, ha1.2⟩)) gJ1_indexOf_4cfef_J1_canEncode_9a6ad rfl hdJ1_canEncode_9a6ads (by decide) (Nat.le_of_ble_eq_true rfl) dJ1_indexOf_4cfef_1 rfl (fun r101 M102 h103 => ?_)
  obtain ⟨a105, rfl, rfl, h104⟩ := h103
  refine y_if_ne C 9 dJ1_indexOf_4cfef_4 (by decide) (by omega) (fun h106 => ?_) (fun h106 => ?_)
  · refine j_iload_n C 2 2 dJ1_indexOf_4cfef_9 rfl rfl ?_
    refine y_iconst C dJ1_indexOf_4cfef_10 ?_
    refine y_mmax C wJ1_indexOf_4cfef_92_0 wJ1_indexOf_4cfef_92_1 wJ1_indexOf_4cfef_92_2 wJ1_indexOf_4cfef_92_3 (by decide) (Nat.le_of_ble_eq_true rfl) dJ1_indexOf_4cfef_11 (by exact ⟨⟨ha2.1, ha2.2⟩, ⟨(by decide), (by decide)⟩⟩) (fun a107 ha107 => ?_)
    refine j_istore_n C 2 [(2, .int (sI a107)), (0, .ref (dI 1001 0)), (1, .int (sI a1)), (3, .int (sI a3))] dJ1_indexOf_4cfef_14 rfl (by decide) rfl ?_
    refine j_iload_n C 3 3 dJ1_indexOf_4cfef_15 rfl rfl ?_
    refine j_aload_n C 1 0 dJ1_indexOf_4cfef_16 rfl rfl ?_
    refine j_strL C 12 (by decide) rfl dJ1_indexOf_4cfef_17 ?_
    refine y_mmin C wJ1_indexOf_4cfef_38_0 wJ1_indexOf_4cfef_38_1 wJ1_indexOf_4cfef_38_2 wJ1_indexOf_4cfef_38_3 (by decide) (Nat.le_of_ble_eq_true rfl) dJ1_indexOf_4cfef_18 (by exact ⟨⟨ha3.1, ha3.2⟩, ⟨(by decide), (by decide)⟩⟩) (fun a108 ha108 => ?_)
    refine j_istore_n C 3 [(3, .int (sI a108)), (2, .int (sI a107)), (0, .ref (dI 1001 0)), (1, .int (sI a1))] dJ1_indexOf_4cfef_21 rfl (by decide) rfl ?_
    refine j_iload_n C 1 2 dJ1_indexOf_4cfef_22 rfl rfl ?_
    refine j_iload_n C 0 3 dJ1_indexOf_4cfef_23 rfl rfl ?_
    refine y_icmp_lt C 29 dJ1_indexOf_4cfef_24 (by decide) (by (clear h106 h104 hret C hp4 hp3 hp0 ha3 ha2 ha1 hM0; omega)) (fun h109 => ?_) (fun h109 => ?_)
    · refine j_aload_n C 2 0 dJ1_indexOf_4cfef_29 rfl rfl ?_
      refine j_iload_n C 3 1 dJ1_indexOf_4cfef_30 rfl rfl ?_
      refine j_iload_n C 1 2 dJ1_indexOf_4cfef_31 rfl rfl ?_
      refine j_iload_n C 0 3 dJ1_indexOf_4cfef_32 rfl rfl ?_
      refine j_callSi C (d := 0) (As := [.ref (dI 1001 0), .int (sI a1), .int (sI a107), .int (sI a108)]) (st := []) (s1_J1_indexOfChar_4cfef hM0 a1 (by exact ⟨ha1.1, ha1.2⟩) a107 (by (clear h106 h104 hret C hp4 hp3 hp0 ha3 ha2 ha1 hM0; omega)) a108 (by (clear h109 ha107 h106 h104 hret C hp4 hp3 hp1 hp0 ha3 ha2 ha1 hM0; omega)) (by exact ⟨hp0.1, hp0.2⟩) (by (clear h106 h104 hret C hp4 hp3 hp0 ha3 ha2 ha1 hM0; omega)) (by omega) (by (clear h106 h104 hret C hp4 hp3 hp0 ha3 ha2 ha1 hM0; omega)) (by omega)) gJ1_indexOf_4cfef_J1_indexOfChar_4cfef rfl hdJ1_indexOfChar_4cfefs (by decide) (Nat.le_of_ble_eq_true rfl) dJ1_indexOf_4cfef_33 rfl (fun r110 M111 h112 => ?_)
      obtain ⟨a114, rfl, rfl, h113⟩ := h112
      exact hret _ _ _ _ dJ1_indexOf_4cfef_36 ⟨a114, rfl, rfl, by exact ⟨h113.1, ⟨h113.2.1, h113.2.2⟩⟩⟩
    · refine y_iconst C dJ1_indexOf_4cfef_27 ?_
      exact hret _ _ _ _ dJ1_indexOf_4cfef_28 ⟨(-1), rfl, rfl, by exact ⟨(by decide), ⟨(by decide), (by (clear h106 h104 hret C hp4 hp3 hp0 ha3 ha2 ha1 hM0; omega))⟩⟩⟩
  · refine y_iconst C dJ1_indexOf_4cfef_7 ?_
    exact hret _ _ _ _ dJ1_indexOf_4cfef_8 ⟨(-1), rfl, rfl, by exact ⟨(by decide), ⟨(by decide), (by (clear hret C hp4 hp3 hp2 hp1 ha3 ha2 hM0; omega))⟩⟩⟩
set_option maxHeartbeats 4000000 in
theorem s1_J0_indexOf_7cf53 {l : Launch} {dC : Nat → ClassId} {dI : Nat → Nat → Nat} {ad : Nat → Nat} {cA : Nat → ClassId} {pr : Nat → Nat → Bool} {Kz : mm_M} {M0 : mm_M} (hM0 : INV pr Kz M0) (a1 : Int) (ha1 : -2147483648 ≤ a1 ∧ a1 ≤ 2147483647) (a2 : Int) (ha2 : -2147483648 ≤ a2 ∧ a2 ≤ 2147483647) (hp0 : 0 ≤ a1 ∧ a1 ≤ 255) (hp1 : 0 ≤ a2 ∧ a2 ≤ 0) : Ci l 2 yJ0_indexOf_7cf53 wsJ0_indexOf_7cf53 dC dI ad cA [.ref (dI 1000 0), .int (sI a1), .int (sI a2)] M0 (fun r M' => ∃ a : Int, r = sI a ∧ M0 = M' ∧ (-1) ≤ a ∧ a ≤ 11 ∧ (a = -1 ∧ b01 (sgQ a1) = 0 ∨ 0 ≤ a ∧ b01 (sgQ a1) = 1)) := by
  refine ci_of (cc := cJ0_indexOf_7cf53) (maxL := 3) (ty := .int) (lv := [(0, .ref (dI 1000 0)), (1, .int (sI a1)), (2, .int (sI a2))]) (by decide) rfl (fun r M' hp => rfl) (Nat.le_of_ble_eq_true rfl) rfl ?_
  intro p e s m args below meth c A Q C hret
  refine j_aload_n C 0 0 dJ0_indexOf_7cf53_0 rfl rfl ?_
  refine j_callSS C (d := 0) (As := []) (st := []) 0 (by decide) (s1_J0_isLatin1_aae02 hM0) gJ0_indexOf_7cf53_J0_isLatin1_aae02 rfl hdJ0_isLatin1_aae02 (by decide) (Nat.le_of_ble_eq_true rfl) dJ0_indexOf_7cf53_1 rfl (fun r101 M102 h103 => ?_)
  obtain ⟨a105, rfl, rfl, h104⟩ := h103
  refine y_if_eq C 23 dJ0_indexOf_7cf53_4 (by decide) (by omega) (fun h106 => ?_) (fun h106 => ?_)
  · exfalso; omega
  · refine j_aload_n C 0 0 dJ0_indexOf_7cf53_7 rfl rfl ?_
    refine j_strV C (by decide) fJ0_indexOf_7cf53_9 dJ0_indexOf_7cf53_8 ?_
    refine j_iload_n C 1 1 dJ0_indexOf_7cf53_11 rfl rfl ?_
    refine j_iload_n C 2 2 dJ0_indexOf_7cf53_12 rfl rfl ?_
    refine j_aload_n C 0 0 dJ0_indexOf_7cf53_13 rfl rfl ?_
    refine j_callSS C (d := 1) (As := []) (st := [.int (sI a2), .int (sI a1), .ref (dI 1001 0)]) 0 (by decide) (s1_J0_length_8abf5 hM0) gJ0_indexOf_7cf53_J0_length_8abf5 rfl hdJ0_length_8abf5 (by decide) (Nat.le_of_ble_eq_true rfl) dJ0_indexOf_7cf53_14 rfl (fun r107 M108 h109 => ?_)
    obtain ⟨a111, rfl, rfl, h110⟩ := h109
    refine j_callSi C (d := 1) (As := [.ref (dI 1001 0), .int (sI a1), .int (sI a2), .int (sI a111)]) (st := []) (s1_J1_indexOf_4cfef hM0 a1 (by exact ⟨ha1.1, ha1.2⟩) a2 (by exact ⟨ha2.1, ha2.2⟩) a111 (by omega) (by exact ⟨hp0.1, hp0.2⟩) (by omega) (by exact h110.2.2) (by exact ⟨hp1.1, (by omega)⟩) (by exact ⟨h110.1, h110.2.1⟩)) gJ0_indexOf_7cf53_J1_indexOf_4cfef rfl hdJ1_indexOf_4cfefs (by decide) (Nat.le_of_ble_eq_true rfl) dJ0_indexOf_7cf53_17 rfl (fun r112 M113 h114 => ?_)
    obtain ⟨a116, rfl, rfl, h115⟩ := h114
    refine j_goto C 36 dJ0_indexOf_7cf53_20 (by decide) ?_
    exact hret _ _ _ _ dJ0_indexOf_7cf53_36 ⟨a116, rfl, rfl, by exact ⟨h115.1, ⟨h115.2.1, h115.2.2⟩⟩⟩
set_option maxHeartbeats 4000000 in
theorem s1_J0_indexOf_0f7a4 {l : Launch} {dC : Nat → ClassId} {dI : Nat → Nat → Nat} {ad : Nat → Nat} {cA : Nat → ClassId} {pr : Nat → Nat → Bool} {Kz : mm_M} {M0 : mm_M} (hM0 : INV pr Kz M0) (a1 : Int) (ha1 : -2147483648 ≤ a1 ∧ a1 ≤ 2147483647) (hp0 : 0 ≤ a1 ∧ a1 ≤ 255) : Ci l 3 yJ0_indexOf_0f7a4 wsJ0_indexOf_0f7a4 dC dI ad cA [.ref (dI 1000 0), .int (sI a1)] M0 (fun r M' => ∃ a : Int, r = sI a ∧ M0 = M' ∧ (-1) ≤ a ∧ a ≤ 11 ∧ (a = -1 ∧ b01 (sgQ a1) = 0 ∨ 0 ≤ a ∧ b01 (sgQ a1) = 1)) := by
  refine ci_of (cc := cJ0_indexOf_0f7a4) (maxL := 2) (ty := .int) (lv := [(0, .ref (dI 1000 0)), (1, .int (sI a1))]) (by decide) rfl (fun r M' hp => rfl) (Nat.le_of_ble_eq_true rfl) rfl ?_
  intro p e s m args below meth c A Q C hret
  refine j_aload_n C 0 0 dJ0_indexOf_0f7a4_0 rfl rfl ?_
  refine j_iload_n C 1 1 dJ0_indexOf_0f7a4_1 rfl rfl ?_
  refine y_iconst C dJ0_indexOf_0f7a4_2 ?_
  refine j_callSS C (d := 2) (As := [.int (sI a1), .int (sI 0)]) (st := []) 0 (by decide) (s1_J0_indexOf_7cf53 hM0 a1 (by exact ⟨ha1.1, ha1.2⟩) 0 (by exact ⟨(by decide), (by decide)⟩) (by exact ⟨hp0.1, hp0.2⟩) (by exact ⟨(by decide), (by decide)⟩)) gJ0_indexOf_0f7a4_J0_indexOf_7cf53 rfl hdJ0_indexOf_7cf53 (by decide) (Nat.le_of_ble_eq_true rfl) dJ0_indexOf_0f7a4_3 rfl (fun r101 M102 h103 => ?_)
  obtain ⟨a105, rfl, rfl, h104⟩ := h103
  exact hret _ _ _ _ dJ0_indexOf_0f7a4_6 ⟨a105, rfl, rfl, by exact ⟨h104.1, ⟨h104.2.1, h104.2.2⟩⟩⟩
set_option maxHeartbeats 4000000 in
theorem s1_X3_numberOf {l : Launch} {dC : Nat → ClassId} {dI : Nat → Nat → Nat} {ad : Nat → Nat} {cA : Nat → ClassId} {pr : Nat → Nat → Bool} {Kz : mm_M} {M0 : mm_M} (hM0 : INV pr Kz M0) (a1 : Int) (ha1 : -2147483648 ≤ a1 ∧ a1 ≤ 2147483647) (a2 : Int) (ha2 : -2147483648 ≤ a2 ∧ a2 ≤ 2147483647) (gf : Nat → Int) (hp0 : a1 < a2) (hp1 : b01 (TPX gf a2 M0) = 1) (hp2 : b01 (DGX gf a1 a2) = 1) (hp3 : 0 ≤ a1 ∧ a1 ≤ 899) (hp4 : 0 ≤ a2 ∧ a2 ≤ 900) : Ci l 0 yX3_numberOf wsX3_numberOf dC dI ad cA [.ref (ad 1), .int (sI a1), .int (sI a2)] M0 (fun r M' => ∃ a : Int, r = sI a ∧ M0 = M' ∧ 0 ≤ a ∧ a ≤ 3000 ∧ (3 < a2 - a1 ∧ a = 3000 ∨ a2 - a1 ≤ 3 ∧ a = valF gf a1 (a2 - a1).toNat)) := by
  refine ci_of (cc := cX3_numberOf) (maxL := 5) (ty := .int) (lv := [(0, .ref (ad 1)), (1, .int (sI a1)), (2, .int (sI a2))]) (by decide) rfl (fun r M' hp => rfl) (Nat.le_of_ble_eq_true rfl) rfl ?_
  intro p e s m args below meth c A Q C hret
  refine j_iload_n C 2 2 dX3_numberOf_0 rfl rfl ?_
  refine j_iload_n C 1 1 dX3_numberOf_1 rfl rfl ?_
  refine y_isub C dX3_numberOf_2 ?_
  refine y_iconst C dX3_numberOf_3 ?_
  refine y_icmp_le C 11 dX3_numberOf_4 (by decide) (by exact ⟨⟨(by (clear hret C hp2 hp1 hM0; omega)), (by (clear hret C hp2 hp1 hM0; omega))⟩, ⟨(by decide), (by decide)⟩⟩) (fun h101 => ?_) (fun h101 => ?_)
  · refine y_iconst C dX3_numberOf_11 ?_
    refine j_istore_n C 3 [(3, .int (sI 0)), (0, .ref (ad 1)), (1, .int (sI a1)), (2, .int (sI a2))] dX3_numberOf_12 rfl (by decide) rfl ?_
    refine j_iload_n C 2 1 dX3_numberOf_13 rfl rfl ?_
    refine j_istore C 4 [(4, .int (sI a1)), (3, .int (sI 0)), (0, .ref (ad 1)), (1, .int (sI a1)), (2, .int (sI a2))] dX3_numberOf_14 (by decide) rfl ?_
    have u102z : valF gf a1 (a1 - a1).toNat = 0 := by rw [Int.sub_self]; rfl
    have L111 : ∀ (n109 : Nat), ∀ (a112 : Int) (a113 : Int), (0 ≤ a112 ∧ a112 ≤ 999 ∧ 0 ≤ a113 ∧ a113 ≤ 900 ∧ (a112 = valF gf a1 (a113 - a1).toNat) ∧ (a1 ≤ a113) ∧ (a113 ≤ a2) ∧ (a113 = a1 ∧ a112 = 0 ∨ a113 = a1 + 1 ∧ 0 ≤ a112 ∧ a112 ≤ 9 ∨ a113 = a1 + 2 ∧ 0 ≤ a112 ∧ a112 ≤ 99 ∨ a113 = a1 + 3 ∧ 0 ≤ a112 ∧ a112 ≤ 999) ∧ (900 - a113) < (n109 : Int)) → jj p l e (cn_R 0) s m args below meth c 0 0 Q 5 dC dI ad cA A M0 16 [(0, .ref (ad 1)), (2, .int (sI a2)), (3, .int (sI a112)), (4, .int (sI a113))] [] := by
      intro n109
      induction n109 with
      | zero =>
        intro a112 a113 h114
        exfalso; omega
      | succ n109 ih110 =>
        intro a112 a113 h114
        refine j_iload C 3 dX3_numberOf_16 rfl ?_
        refine j_iload_n C 1 2 dX3_numberOf_18 rfl rfl ?_
        refine y_icmp_ge C 41 dX3_numberOf_19 (by decide) (by exact ⟨⟨(by (clear ih110 u102z h101 hret C hp3 hp2 hp1 hp0 ha1 hM0; omega)), (by (clear ih110 u102z h101 hret C hp3 hp2 hp1 hp0 ha1 hM0; omega))⟩, ⟨ha2.1, ha2.2⟩⟩) (fun h115 => ?_) (fun h115 => ?_)
        · obtain rfl : a2 = a113 := by omega
          refine j_iload_n C 2 3 dX3_numberOf_41 rfl rfl ?_
          exact hret _ _ _ _ dX3_numberOf_42 ⟨a112, rfl, rfl, by exact ⟨h114.1, ⟨(by (clear h115 ih110 u102z hret C hp4 hp3 hp2 hp1 ha2 ha1 hM0; omega)), (by (clear h115 ih110 u102z hret C hp4 hp3 hp2 hp1 ha2 ha1 hM0; omega))⟩⟩⟩
        · refine j_iload_n C 2 3 dX3_numberOf_22 rfl rfl ?_
          refine y_bipush C dX3_numberOf_23 rfl ?_
          refine y_imul C dX3_numberOf_25 ?_
          refine j_aload_n C 0 0 dX3_numberOf_26 rfl rfl ?_
          refine j_iload C 3 dX3_numberOf_27 rfl ?_
          have u116p := tp_r (f := gf) (n := a2) (M := M0) (a := a113) (by exact hp1) (by exact ⟨h114.2.2.1, (by omega)⟩)
          have u116d := dg_r (f := gf) (a := a1) (b := a2) (j := a113) (by exact hp2) (by exact ⟨h114.2.2.2.2.2.1, (by omega)⟩)
          have u116v := val_s gf a1 a113 (by exact h114.2.2.2.2.2.1)
          refine y_iald C 20 900 _ _ rfl rfl rfl ak_20 an_20 rfl (sb_20 _) hM0 dX3_numberOf_29 (by exact ⟨h114.2.2.1, (by (clear u116v u116d u116p ih110 u102z hret C hp2 hp1 hM0; omega))⟩) (fun a117 ea117 la117 ua117 => ?_)
          refine y_iadd C dX3_numberOf_30 ?_
          refine y_bipush C dX3_numberOf_31 rfl ?_
          refine y_isub C dX3_numberOf_33 ?_
          refine j_istore_n C 3 [(3, .int (sI (((a112 * 10) + a117) - 48))), (0, .ref (ad 1)), (2, .int (sI a2)), (4, .int (sI a113))] dX3_numberOf_34 rfl (by decide) rfl ?_
          refine y_iinc C 3 [(4, .int (sI (a113 + 1))), (3, .int (sI (((a112 * 10) + a117) - 48))), (0, .ref (ad 1)), (2, .int (sI a2))] dX3_numberOf_35 rfl (by decide) rfl ?_
          refine j_goto C 16 dX3_numberOf_38 (by decide) ?_
          have u118z : valF gf a1 (a1 - a1).toNat = 0 := by rw [Int.sub_self]; rfl
          refine j_lv [2, 3, 1, 0] rfl ?_; exact ih110 (((a112 * 10) + a117) - 48) (a113 + 1) (by (clear u118z ua117 la117 ih110 u102z hret C hp2 hp1 hM0; omega))
    refine j_lv [2, 4, 1, 0] rfl ?_; exact L111 2010 0 a1 (by exact ⟨(by decide), ⟨(by decide), ⟨hp3.1, ⟨(by (clear L111 hret C hp4 hp2 hp1 ha2 hM0; omega)), ⟨u102z.symm, ⟨(by (clear L111 hret C hp4 hp2 hp1 ha2 hM0; omega)), ⟨(by (clear L111 hret C hp4 hp2 hp1 ha2 hM0; omega)), ⟨(by (clear L111 hret C hp4 hp2 hp1 ha2 hM0; omega)), (by (clear L111 hret C hp4 hp2 hp1 ha2 hM0; omega))⟩⟩⟩⟩⟩⟩⟩⟩)
  · refine y_sipush C dX3_numberOf_7 rfl ?_
    exact hret _ _ _ _ dX3_numberOf_10 ⟨3000, rfl, rfl, by exact ⟨(by decide), ⟨(by decide), (by (clear hret C hp4 hp3 hp2 hp1 hp0 ha2 ha1 hM0; omega))⟩⟩⟩
set_option maxHeartbeats 4000000 in
theorem s2_J0_isLatin1_aae02 {l : Launch} {dC : Nat → ClassId} {dI : Nat → Nat → Nat} {ad : Nat → Nat} {cA : Nat → ClassId} {pr : Nat → Nat → Bool} {Kz : mm_M} {M0 : mm_M} (hM0 : INV pr Kz M0)  : Ci l 0 yJ0_isLatin1_aae02 wsJ0_isLatin1_aae02 dC dI ad cA [.ref (dI 1000 1)] M0 (fun r M' => ∃ a : Int, r = sI a ∧ M0 = M' ∧ 1 ≤ a ∧ a ≤ 1 ∧ ((a = 1))) := by
  refine ci_of (cc := cJ0_isLatin1_aae02) (maxL := 1) (ty := .boolean) (lv := [(0, .ref (dI 1000 1))]) (by decide) rfl (fun r M' hp => by obtain ⟨a, rfl, -, h⟩ := hp; rcases (show a = 0 ∨ a = 1 by omega) with rfl | rfl <;> rfl) (Nat.le_of_ble_eq_true rfl) rfl ?_
  intro p e s m args below meth c A Q C hret
  refine j_getsC C fJ0_isLatin1_aae02_38 dJ0_isLatin1_aae02_0 ?_
  refine y_if_eq C 17 dJ0_isLatin1_aae02_3 (by decide) (by exact ⟨(by decide), (by decide)⟩) (fun h101 => ?_) (fun h101 => ?_)
  · exfalso; omega
  · refine j_aload_n C 0 0 dJ0_isLatin1_aae02_6 rfl rfl ?_
    refine j_strC C (by decide) fJ0_isLatin1_aae02_15 dJ0_isLatin1_aae02_7 ?_
    refine y_if_ne C 17 dJ0_isLatin1_aae02_10 (by decide) (by exact ⟨(by decide), (by decide)⟩) (fun h102 => ?_) (fun h102 => ?_)
    · exfalso; omega
    · refine y_iconst C dJ0_isLatin1_aae02_13 ?_
      refine j_goto C 18 dJ0_isLatin1_aae02_14 (by decide) ?_
      exact hret _ _ _ _ dJ0_isLatin1_aae02_18 ⟨1, rfl, rfl, by omega⟩
set_option maxHeartbeats 4000000 in
theorem s1_J3_checkIndex_8e157 {l : Launch} {dC : Nat → ClassId} {dI : Nat → Nat → Nat} {ad : Nat → Nat} {cA : Nat → ClassId} {pr : Nat → Nat → Bool} {Kz : mm_M} {M0 : mm_M} (hM0 : INV pr Kz M0) (a0 : Int) (ha0 : -2147483648 ≤ a0 ∧ a0 ≤ 2147483647) (a1 : Int) (ha1 : -2147483648 ≤ a1 ∧ a1 ≤ 2147483647) (hp0 : a0 < a1) (hp1 : 0 ≤ a0 ∧ a0 ≤ 2147483647) : Ci l 0 yJ3_checkIndex_8e157 wsJ3_checkIndex_8e157 dC dI ad cA [.int (sI a0), .int (sI a1), .null] M0 (fun r M' => ∃ a : Int, r = sI a ∧ M0 = M' ∧ 0 ≤ a ∧ a ≤ 2147483646 ∧ ((a0 < a1 ∧ 0 ≤ a0 ∧ a0 < a1 ∧ a = a0))) := by
  refine ci_of (cc := cJ3_checkIndex_8e157) (maxL := 3) (ty := .int) (lv := [(0, .int (sI a0)), (1, .int (sI a1)), (2, .null)]) (by decide) rfl (fun r M' hp => rfl) (Nat.le_of_ble_eq_true rfl) rfl ?_
  intro p e s m args below meth c A Q C hret
  refine j_iload_n C 0 0 dJ3_checkIndex_8e157_0 rfl rfl ?_
  refine y_if_lt C 9 dJ3_checkIndex_8e157_1 (by decide) (by exact ⟨ha0.1, ha0.2⟩) (fun h101 => ?_) (fun h101 => ?_)
  · exfalso; omega
  · refine j_iload_n C 0 0 dJ3_checkIndex_8e157_4 rfl rfl ?_
    refine j_iload_n C 1 1 dJ3_checkIndex_8e157_5 rfl rfl ?_
    refine y_icmp_lt C 16 dJ3_checkIndex_8e157_6 (by decide) (by exact ⟨⟨ha0.1, ha0.2⟩, ⟨ha1.1, ha1.2⟩⟩) (fun h102 => ?_) (fun h102 => ?_)
    · refine j_iload_n C 0 0 dJ3_checkIndex_8e157_16 rfl rfl ?_
      exact hret _ _ _ _ dJ3_checkIndex_8e157_17 ⟨a0, rfl, rfl, by (clear h102 h101 hret C hM0; omega)⟩
    · exfalso; omega
set_option maxHeartbeats 4000000 in
theorem s2_J3_checkIndex_8e157 {l : Launch} {dC : Nat → ClassId} {dI : Nat → Nat → Nat} {ad : Nat → Nat} {cA : Nat → ClassId} {pr : Nat → Nat → Bool} {Kz : mm_M} {M0 : mm_M} (hM0 : INV pr Kz M0) (a0 : Int) (ha0 : -2147483648 ≤ a0 ∧ a0 ≤ 2147483647) (a1 : Int) (ha1 : -2147483648 ≤ a1 ∧ a1 ≤ 2147483647) (t2 : Nat) (hp0 : a0 < a1) (hp1 : 0 ≤ a0 ∧ a0 ≤ 2147483647) : Ci l 0 yJ3_checkIndex_8e157 wsJ3_checkIndex_8e157 dC dI ad cA [.int (sI a0), .int (sI a1), .ref t2] M0 (fun r M' => ∃ a : Int, r = sI a ∧ M0 = M' ∧ 0 ≤ a ∧ a ≤ 2147483646 ∧ ((a0 < a1 ∧ 0 ≤ a0 ∧ a0 < a1 ∧ a = a0))) := by
  refine ci_of (cc := cJ3_checkIndex_8e157) (maxL := 3) (ty := .int) (lv := [(0, .int (sI a0)), (1, .int (sI a1)), (2, .ref t2)]) (by decide) rfl (fun r M' hp => rfl) (Nat.le_of_ble_eq_true rfl) rfl ?_
  intro p e s m args below meth c A Q C hret
  refine j_iload_n C 0 0 dJ3_checkIndex_8e157_0 rfl rfl ?_
  refine y_if_lt C 9 dJ3_checkIndex_8e157_1 (by decide) (by exact ⟨ha0.1, ha0.2⟩) (fun h101 => ?_) (fun h101 => ?_)
  · exfalso; omega
  · refine j_iload_n C 0 0 dJ3_checkIndex_8e157_4 rfl rfl ?_
    refine j_iload_n C 1 1 dJ3_checkIndex_8e157_5 rfl rfl ?_
    refine y_icmp_lt C 16 dJ3_checkIndex_8e157_6 (by decide) (by exact ⟨⟨ha0.1, ha0.2⟩, ⟨ha1.1, ha1.2⟩⟩) (fun h102 => ?_) (fun h102 => ?_)
    · refine j_iload_n C 0 0 dJ3_checkIndex_8e157_16 rfl rfl ?_
      exact hret _ _ _ _ dJ3_checkIndex_8e157_17 ⟨a0, rfl, rfl, by omega⟩
    · exfalso; omega
set_option maxHeartbeats 4000000 in
theorem s1_J0_checkIndex_df160 {l : Launch} {dC : Nat → ClassId} {dI : Nat → Nat → Nat} {ad : Nat → Nat} {cA : Nat → ClassId} {pr : Nat → Nat → Bool} {Kz : mm_M} {M0 : mm_M} (hM0 : INV pr Kz M0) (a0 : Int) (ha0 : -2147483648 ≤ a0 ∧ a0 ≤ 2147483647) (a1 : Int) (ha1 : -2147483648 ≤ a1 ∧ a1 ≤ 2147483647) (hp0 : a0 < a1) (hp1 : 0 ≤ a0 ∧ a0 ≤ 2147483647) : Cv l 1 yJ0_checkIndex_df160 wsJ0_checkIndex_df160 dC dI ad cA [.int (sI a0), .int (sI a1)] M0 (fun M' => M0 = M') := by
  refine cv_of (cc := cJ0_checkIndex_df160) (maxL := 2) (lv := [(0, .int (sI a0)), (1, .int (sI a1))]) (by decide) rfl (Nat.le_of_ble_eq_true rfl) rfl ?_
  intro p e s m args below meth c A Q C hret
  refine j_iload_n C 0 0 dJ0_checkIndex_df160_0 rfl rfl ?_
  refine j_iload_n C 1 1 dJ0_checkIndex_df160_1 rfl rfl ?_
  refine j_getsF C fJ0_checkIndex_df160_1053 dJ0_checkIndex_df160_2 ?_ (fun t101 => ?_)
  · refine j_callSi C (d := 0) (As := [.int (sI a0), .int (sI a1), .null]) (st := []) (s1_J3_checkIndex_8e157 hM0 a0 (by exact ⟨ha0.1, ha0.2⟩) a1 (by exact ⟨ha1.1, ha1.2⟩) (by exact hp0) (by exact ⟨hp1.1, hp1.2⟩)) gJ0_checkIndex_df160_J3_checkIndex_8e157 rfl hdJ3_checkIndex_8e157s (by decide) (Nat.le_of_ble_eq_true rfl) dJ0_checkIndex_df160_5 rfl (fun r102 M103 h104 => ?_)
    obtain ⟨a106, rfl, rfl, h105⟩ := h104
    refine j_pop C dJ0_checkIndex_df160_8 rfl ?_
    exact hret _ _ _ dJ0_checkIndex_df160_9 rfl
  · refine j_callSi C (d := 0) (As := [.int (sI a0), .int (sI a1), .ref t101]) (st := []) (s2_J3_checkIndex_8e157 hM0 a0 (by exact ⟨ha0.1, ha0.2⟩) a1 (by exact ⟨ha1.1, ha1.2⟩) t101 (by exact hp0) (by exact ⟨hp1.1, hp1.2⟩)) gJ0_checkIndex_df160_J3_checkIndex_8e157 rfl hdJ3_checkIndex_8e157s (by decide) (Nat.le_of_ble_eq_true rfl) dJ0_checkIndex_df160_5 rfl (fun r107 M108 h109 => ?_)
    obtain ⟨a111, rfl, rfl, h110⟩ := h109
    refine j_pop C dJ0_checkIndex_df160_8 rfl ?_
    exact hret _ _ _ dJ0_checkIndex_df160_9 rfl
set_option maxHeartbeats 4000000 in
theorem s1_J0_charAt_5068e {l : Launch} {dC : Nat → ClassId} {dI : Nat → Nat → Nat} {ad : Nat → Nat} {cA : Nat → ClassId} {pr : Nat → Nat → Bool} {Kz : mm_M} {M0 : mm_M} (hM0 : INV pr Kz M0) (a1 : Int) (ha1 : -2147483648 ≤ a1 ∧ a1 ≤ 2147483647) (hp0 : 0 ≤ a1 ∧ a1 ≤ 118) : Ci l 3 yJ0_charAt_5068e wsJ0_charAt_5068e dC dI ad cA [.ref (dI 1000 1), .int (sI a1)] M0 (fun r M' => ∃ a : Int, r = sI a ∧ M0 = M' ∧ 0 ≤ a ∧ a ≤ 127 ∧ (a = 32 ∨ a1 + 1 < 119) ∧ (a = ((js_byt 1).getD (a1).toNat 0).toInt)) := by
  refine ci_of (cc := cJ0_charAt_5068e) (maxL := 2) (ty := .char) (lv := [(0, .ref (dI 1000 1)), (1, .int (sI a1))]) (by decide) rfl (fun r M' hp => by obtain ⟨a, rfl, -, h⟩ := hp; exact nar_char (by exact ⟨h.1, h.2.1⟩)) (Nat.le_of_ble_eq_true rfl) rfl ?_
  intro p e s m args below meth c A Q C hret
  refine j_aload_n C 0 0 dJ0_charAt_5068e_0 rfl rfl ?_
  refine j_callSS C (d := 0) (As := []) (st := []) 1 (by decide) (s2_J0_isLatin1_aae02 hM0) gJ0_charAt_5068e_J0_isLatin1_aae02 rfl hdJ0_isLatin1_aae02 (by decide) (Nat.le_of_ble_eq_true rfl) dJ0_charAt_5068e_1 rfl (fun r101 M102 h103 => ?_)
  obtain ⟨a105, rfl, rfl, h104⟩ := h103
  refine y_if_eq C 16 dJ0_charAt_5068e_4 (by decide) (by omega) (fun h106 => ?_) (fun h106 => ?_)
  · exfalso; omega
  · refine j_aload_n C 0 0 dJ0_charAt_5068e_7 rfl rfl ?_
    refine j_strV C (by decide) fJ0_charAt_5068e_9 dJ0_charAt_5068e_8 ?_
    refine j_iload_n C 1 1 dJ0_charAt_5068e_11 rfl rfl ?_
    refine j_callSi C (d := 2) (As := [.ref (dI 1001 1), .int (sI a1)]) (st := []) (h_J1_charAt_1 (fun a b h => s1_J0_checkIndex_df160 hM0 a (by omega) b (by exact ⟨(by omega), h.2.2⟩) (by exact h.2.1) (by exact ⟨h.1, (by omega)⟩)) a1 (by exact ⟨hp0.1, (by omega)⟩)) gJ0_charAt_5068e_J1_charAt_3b067 rfl hdJ1_charAt_3b067s (by decide) (Nat.le_of_ble_eq_true rfl) dJ0_charAt_5068e_12 rfl (fun r107 M108 h109 => ?_)
    obtain ⟨a111, rfl, rfl, h110⟩ := h109
    exact hret _ _ _ _ dJ0_charAt_5068e_15 ⟨a111, rfl, rfl, by exact ⟨h110.1, ⟨h110.2.1, ⟨h110.2.2.2, h110.2.2.1⟩⟩⟩⟩
set_option maxHeartbeats 4000000 in
theorem s1_X3_wordOf {l : Launch} {dC : Nat → ClassId} {dI : Nat → Nat → Nat} {ad : Nat → Nat} {cA : Nat → ClassId} {pr : Nat → Nat → Bool} {Kz : mm_M} {M0 : mm_M} (hM0 : INV pr Kz M0) (a1 : Int) (ha1 : -2147483648 ≤ a1 ∧ a1 ≤ 2147483647) (a2 : Int) (ha2 : -2147483648 ≤ a2 ∧ a2 ≤ 2147483647) (gf : Nat → Int) (hp0 : a1 < a2) (hp1 : b01 (TPX gf a2 M0) = 1) (hp2 : b01 (SMX gf a1 a2) = 1) (hp3 : 0 ≤ a1 ∧ a1 ≤ 899) (hp4 : 0 ≤ a2 ∧ a2 ≤ 900) : Ci l 4 yX3_wordOf wsX3_wordOf dC dI ad cA [.ref (ad 1), .int (sI a1), .int (sI a2)] M0 (fun r M' => ∃ a : Int, r = sI a ∧ M0 = M' ∧ 1000 ≤ a ∧ a ≤ 1017 ∧ (a = twF gf a1 (a2 - a1))) := by
  refine ci_of (cc := cX3_wordOf) (maxL := 5) (ty := .int) (lv := [(0, .ref (ad 1)), (1, .int (sI a1)), (2, .int (sI a2))]) (by decide) rfl (fun r M' hp => rfl) (Nat.le_of_ble_eq_true rfl) rfl ?_
  intro p e s m args below meth c A Q C hret
  refine y_iconst C dX3_wordOf_0 ?_
  refine j_istore_n C 3 [(3, .int (sI 0)), (0, .ref (ad 1)), (1, .int (sI a1)), (2, .int (sI a2))] dX3_wordOf_1 rfl (by decide) rfl ?_
  have u101z := tw_0 gf a1 (a2 - a1)
  have L153 : ∀ (n151 : Nat), ∀ (a154 : Int), (0 ≤ a154 ∧ a154 ≤ 17 ∧ (wdG gf a1 (a2 - a1) (17 - a154).toNat (a154).toNat = twF gf a1 (a2 - a1)) ∧ (17 - a154) < (n151 : Int)) → jj p l e (cn_R 4) s m args below meth c 0 0 Q 5 dC dI ad cA A M0 2 [(0, .ref (ad 1)), (1, .int (sI a1)), (2, .int (sI a2)), (3, .int (sI a154))] [] := by
    intro n151
    induction n151 with
    | zero =>
      intro a154 h155
      exfalso; omega
    | succ n151 ih152 =>
      intro a154 h155
      refine j_iload_n C 3 3 dX3_wordOf_2 rfl rfl ?_
      refine y_bipush C dX3_wordOf_3 rfl ?_
      refine y_icmp_ge C 91 dX3_wordOf_5 (by decide) (by exact ⟨⟨(by omega), (by omega)⟩, ⟨(by decide), (by decide)⟩⟩) (fun h156 => ?_) (fun h156 => ?_)
      · have u157q := tw_3 gf a1 (a2 - a1) a154 (by exact ⟨h155.1, ⟨h155.2.1, (by (clear ih152 u101z hret C hp4 hp3 hp2 hp1 hp0 ha2 ha1 hM0; omega))⟩⟩)
        refine y_sipush C dX3_wordOf_91 rfl ?_
        exact hret _ _ _ _ dX3_wordOf_94 ⟨1017, rfl, rfl, by exact ⟨(by decide), ⟨(by decide), (by (clear h156 ih152 u101z hret C hp4 hp3 hp2 hp1 hp0 ha2 ha1 hM0; omega))⟩⟩⟩
      · refine j_iload_n C 2 2 dX3_wordOf_8 rfl rfl ?_
        refine j_iload_n C 1 1 dX3_wordOf_9 rfl rfl ?_
        refine y_isub C dX3_wordOf_10 ?_
        refine y_bipush C dX3_wordOf_11 rfl ?_
        refine y_icmp_ge C 91 dX3_wordOf_13 (by decide) (by exact ⟨⟨(by (clear h156 h155 ih152 u101z hret C hp2 hp1 hM0; omega)), (by (clear h156 h155 ih152 u101z hret C hp2 hp1 hM0; omega))⟩, ⟨(by decide), (by decide)⟩⟩) (fun h158 => ?_) (fun h158 => ?_)
        · have u159q := tw_3 gf a1 (a2 - a1) a154 (by exact ⟨h155.1, ⟨h155.2.1, (by (clear ih152 u101z hret C hp4 hp3 hp2 hp1 hp0 ha2 ha1 hM0; omega))⟩⟩)
          refine y_sipush C dX3_wordOf_91 rfl ?_
          exact hret _ _ _ _ dX3_wordOf_94 ⟨1017, rfl, rfl, by exact ⟨(by decide), ⟨(by decide), (by omega)⟩⟩⟩
        · refine y_iconst C dX3_wordOf_16 ?_
          refine j_istore C 4 [(4, .int (sI 0)), (0, .ref (ad 1)), (1, .int (sI a1)), (2, .int (sI a2)), (3, .int (sI a154))] dX3_wordOf_17 (by decide) rfl ?_
          have u160z := sw_0 gf a1 (a154).toNat
          have X190 : ∀ (a189 : Int), (0 ≤ a189 ∧ a189 ≤ 7 ∧ (b01 (SMW gf a1 (a154).toNat a189) = 1) ∧ (a189 ≤ a2 - a1) ∧ (a189 = a2 - a1 ∨ a189 < a2 - a1 ∧ ¬ gf (a1 + a189).toNat = ((js_byt 1).getD ((a154 * 7) + a189).toNat 0).toInt)) → jj p l e (cn_R 4) s m args below meth c 0 0 Q 5 dC dI ad cA A M0 54 [(0, .ref (ad 1)), (1, .int (sI a1)), (2, .int (sI a2)), (3, .int (sI a154)), (4, .int (sI a189))] [] := by
            intro a189 h191
            refine j_iload C 4 dX3_wordOf_54 rfl ?_
            refine j_iload_n C 2 2 dX3_wordOf_56 rfl rfl ?_
            refine j_iload_n C 1 1 dX3_wordOf_57 rfl rfl ?_
            refine y_isub C dX3_wordOf_58 ?_
            refine y_icmp_ne C 85 dX3_wordOf_59 (by decide) (by (clear u160z h156 h155 ih152 u101z hret C hp4 hp3 hp2 hp1 ha2 ha1 hM0; omega)) (fun h192 => ?_) (fun h192 => ?_)
            · have u193q := tw_2 (f := gf) (i := a1) (m := a2 - a1) (w := a154) (by exact ⟨h155.1, (by omega)⟩) (wq_n (c := a189) (by exact ⟨h155.1, ⟨(by (clear h192 u160z h158 ih152 u101z hret C hp4 hp3 hp2 hp1 hp0 ha2 ha1 hM0; omega)), h191.1⟩⟩) (by (clear u160z h158 h156 h155 ih152 u101z hret C hp4 hp3 hp2 hp1 hp0 ha2 ha1 hM0; omega)))
              refine y_iinc C 3 [(3, .int (sI (a154 + 1))), (0, .ref (ad 1)), (1, .int (sI a1)), (2, .int (sI a2)), (4, .int (sI a189))] dX3_wordOf_85 rfl (by decide) rfl ?_
              refine j_goto C 2 dX3_wordOf_88 (by decide) ?_
              have u194z := tw_0 gf a1 (a2 - a1)
              refine j_lv [1, 2, 3, 0] rfl ?_; exact ih152 (a154 + 1) (by (clear u194z h192 h191 u160z h158 ih152 u101z hret C hp4 hp3 hp2 hp1 hp0 ha2 ha1 hM0; omega))
            · refine j_ldcS C 1 (by decide) rfl rfl dX3_wordOf_62 ?_
              refine j_iload_n C 3 3 dX3_wordOf_64 rfl rfl ?_
              refine y_bipush C dX3_wordOf_65 rfl ?_
              refine y_imul C dX3_wordOf_67 ?_
              refine j_iload C 4 dX3_wordOf_68 rfl ?_
              refine y_iadd C dX3_wordOf_70 ?_
              refine j_callSS C (d := 3) (As := [.int (sI ((a154 * 7) + a189))]) (st := []) 1 (by decide) (s1_J0_charAt_5068e hM0 ((a154 * 7) + a189) (by (clear h191 u160z ih152 u101z hret C hp4 hp3 hp2 hp1 ha2 ha1 hM0; omega)) (by (clear h191 u160z ih152 u101z hret C hp4 hp3 hp2 hp1 ha2 ha1 hM0; omega))) gX3_wordOf_J0_charAt_5068e rfl hdJ0_charAt_5068e (by decide) (Nat.le_of_ble_eq_true rfl) dX3_wordOf_71 rfl (fun r195 M196 h197 => ?_)
              obtain ⟨a199, rfl, rfl, h198⟩ := h197
              refine y_bipush C dX3_wordOf_74 rfl ?_
              refine y_icmp_ne C 85 dX3_wordOf_76 (by decide) (by exact ⟨⟨(by (clear h192 h191 u160z h158 h156 h155 ih152 u101z hret C hp4 hp3 hp2 hp1 hp0 ha2 ha1 hM0; omega)), (by (clear h192 h191 u160z h158 h156 h155 ih152 u101z hret C hp4 hp3 hp2 hp1 hp0 ha2 ha1 hM0; omega))⟩, ⟨(by decide), (by decide)⟩⟩) (fun h200 => ?_) (fun h200 => ?_)
              · have u201q := tw_2 (f := gf) (i := a1) (m := a2 - a1) (w := a154) (by exact ⟨h155.1, (by omega)⟩) (wq_n (c := a189) (by exact ⟨h155.1, ⟨(by (clear h200 h198 h191 u160z ih152 u101z hret C hp4 hp3 hp2 hp1 ha2 ha1 hM0; omega)), h191.1⟩⟩) (by (clear h191 u160z h158 h156 h155 ih152 u101z hret C hp4 hp3 hp2 hp1 hp0 ha2 ha1 hM0; omega)))
                refine y_iinc C 3 [(3, .int (sI (a154 + 1))), (0, .ref (ad 1)), (1, .int (sI a1)), (2, .int (sI a2)), (4, .int (sI a189))] dX3_wordOf_85 rfl (by decide) rfl ?_
                refine j_goto C 2 dX3_wordOf_88 (by decide) ?_
                have u202z := tw_0 gf a1 (a2 - a1)
                refine j_lv [1, 2, 3, 0] rfl ?_; exact ih152 (a154 + 1) (by (clear u202z h200 h198 h192 h191 u160z h158 ih152 u101z hret C hp4 hp3 hp2 hp1 hp0 ha2 ha1 hM0; omega))
              · have u203q := tw_1 (f := gf) (i := a1) (m := a2 - a1) (w := a154) (by exact ⟨h155.1, (by omega)⟩) (by obtain rfl : a189 = a2 - a1 := (by exact h192); exact wq_y (by exact ⟨h155.1, ⟨(by (clear h198 h192 h191 h200 u160z ih152 u101z hret C hp4 hp3 hp2 hp1 ha2 ha1 hM0; omega)), ⟨h191.1, (by (clear h198 h192 h191 h200 u160z ih152 u101z hret C hp4 hp3 hp2 hp1 ha2 ha1 hM0; omega))⟩⟩⟩) (by rw [show a1 + (a2 - a1) = a2 by omega]; assumption) (by exact h191.2.2.1) (by (clear h192 h191 u160z h158 h156 h155 ih152 u101z hret C hp4 hp3 hp2 hp1 hp0 ha2 ha1 hM0; omega)))
                refine y_sipush C dX3_wordOf_79 rfl ?_
                refine j_iload_n C 3 3 dX3_wordOf_82 rfl rfl ?_
                refine y_iadd C dX3_wordOf_83 ?_
                exact hret _ _ _ _ dX3_wordOf_84 ⟨(1000 + a154), rfl, rfl, by (clear h200 h198 h192 h191 u160z h158 ih152 u101z hret C hp4 hp3 hp2 hp1 hp0 ha2 ha1 hM0; omega)⟩
          have L175 : ∀ (n173 : Nat), ∀ (a176 : Int), (0 ≤ a176 ∧ a176 ≤ 7 ∧ (b01 (SMW gf a1 (a154).toNat a176) = 1) ∧ (a176 ≤ a2 - a1) ∧ (7 - a176) < (n173 : Int)) → jj p l e (cn_R 4) s m args below meth c 0 0 Q 5 dC dI ad cA A M0 19 [(0, .ref (ad 1)), (1, .int (sI a1)), (2, .int (sI a2)), (3, .int (sI a154)), (4, .int (sI a176))] [] := by
            intro n173
            induction n173 with
            | zero =>
              intro a176 h177
              exfalso; omega
            | succ n173 ih174 =>
              intro a176 h177
              refine j_iload C 4 dX3_wordOf_19 rfl ?_
              refine j_iload_n C 2 2 dX3_wordOf_21 rfl rfl ?_
              refine j_iload_n C 1 1 dX3_wordOf_22 rfl rfl ?_
              refine y_isub C dX3_wordOf_23 ?_
              refine y_icmp_ge C 54 dX3_wordOf_24 (by decide) (by (clear ih174 X190 u160z h156 h155 ih152 u101z hret C hp4 hp3 hp2 hp1 ha2 ha1 hM0; omega)) (fun h178 => ?_) (fun h178 => ?_)
              · exact X190 a176 (by exact ⟨h177.1, ⟨h177.2.1, ⟨h177.2.2.1, ⟨h177.2.2.2.1, (by (clear ih174 X190 u160z h156 h155 ih152 u101z hret C hp4 hp3 hp2 hp1 ha2 ha1 hM0; omega))⟩⟩⟩⟩)
              · refine j_ldcS C 1 (by decide) rfl rfl dX3_wordOf_27 ?_
                refine j_iload_n C 3 3 dX3_wordOf_29 rfl rfl ?_
                refine y_bipush C dX3_wordOf_30 rfl ?_
                refine y_imul C dX3_wordOf_32 ?_
                refine j_iload C 4 dX3_wordOf_33 rfl ?_
                refine y_iadd C dX3_wordOf_35 ?_
                refine j_callSS C (d := 3) (As := [.int (sI ((a154 * 7) + a176))]) (st := []) 1 (by decide) (s1_J0_charAt_5068e hM0 ((a154 * 7) + a176) (by (clear h178 ih174 X190 u160z h158 ih152 u101z hret C hp4 hp3 hp2 hp1 hp0 ha2 ha1 hM0; omega)) (by (clear ih174 X190 u160z ih152 u101z hret C hp4 hp3 hp2 hp1 ha2 ha1 hM0; omega))) gX3_wordOf_J0_charAt_5068e rfl hdJ0_charAt_5068e (by decide) (Nat.le_of_ble_eq_true rfl) dX3_wordOf_36 rfl (fun r179 M180 h181 => ?_)
                obtain ⟨a183, rfl, rfl, h182⟩ := h181
                refine j_aload_n C 0 0 dX3_wordOf_39 rfl rfl ?_
                refine j_iload_n C 1 1 dX3_wordOf_40 rfl rfl ?_
                refine j_iload C 4 dX3_wordOf_41 rfl ?_
                refine y_iadd C dX3_wordOf_43 ?_
                have u184p := tp_r (f := gf) (n := a2) (M := M0) (a := (a1 + a176)) (by exact hp1) (by (clear h182 ih174 X190 u160z h158 h156 h155 ih152 u101z hret C hp4 hp2 hp1 hp0 ha2 hM0; omega))
                refine y_iald C 20 900 _ _ rfl rfl rfl ak_20 an_20 rfl (sb_20 _) hM0 dX3_wordOf_44 (by (clear u184p h182 ih174 X190 u160z h158 h156 h155 ih152 u101z hret C hp2 hp1 hp0 hM0; omega)) (fun a185 ea185 la185 ua185 => ?_)
                refine y_icmp_ne C 54 dX3_wordOf_45 (by decide) (by (clear ea185 u184p h178 h177 ih174 X190 u160z h158 h156 h155 ih152 u101z hret C hp4 hp3 hp2 hp1 hp0 ha2 ha1 hM0; omega)) (fun h186 => ?_) (fun h186 => ?_)
                · exact X190 a176 (by exact ⟨h177.1, ⟨h177.2.1, ⟨h177.2.2.1, ⟨h177.2.2.2.1, (by (clear ua185 la185 ih174 X190 u160z h158 h156 h155 ih152 u101z hret C hp4 hp3 hp2 hp1 hp0 ha2 ha1 hM0; omega))⟩⟩⟩⟩)
                · have u187w := sw_s (f := gf) (i := a1) (w := a154) (m := a176) (by exact ⟨h155.1, h177.1⟩) (by exact h177.2.2.1) (by (clear ua185 la185 h178 h177 ih174 X190 u160z h158 h156 h155 ih152 u101z hret C hp4 hp3 hp2 hp1 hp0 ha2 ha1 hM0; omega))
                  refine y_iinc C 4 [(4, .int (sI (a176 + 1))), (0, .ref (ad 1)), (1, .int (sI a1)), (2, .int (sI a2)), (3, .int (sI a154))] dX3_wordOf_48 rfl (by decide) rfl ?_
                  refine j_goto C 19 dX3_wordOf_51 (by decide) ?_
                  have u188z := sw_0 gf a1 (a154).toNat
                  refine j_lv [1, 2, 3, 4, 0] rfl ?_; exact ih174 (a176 + 1) (by exact ⟨(by (clear u188z h186 ua185 la185 ea185 u184p h182 ih174 X190 u160z h156 h155 ih152 u101z hret C hp4 hp3 hp2 hp1 ha2 ha1 hM0; omega)), ⟨(by (clear u188z h186 ua185 la185 ea185 u184p h182 ih174 X190 u160z h156 h155 ih152 u101z hret C hp4 hp3 hp2 hp1 ha2 ha1 hM0; omega)), ⟨u187w, ⟨(by (clear u188z h186 ua185 la185 ea185 u184p h182 ih174 X190 u160z h156 h155 ih152 u101z hret C hp4 hp3 hp2 hp1 ha2 ha1 hM0; omega)), (by (clear u188z h186 ua185 la185 ea185 u184p h182 ih174 X190 u160z h156 h155 ih152 u101z hret C hp4 hp3 hp2 hp1 ha2 ha1 hM0; omega))⟩⟩⟩⟩)
          refine j_lv [1, 2, 3, 4, 0] rfl ?_; exact L175 2010 0 (by exact ⟨(by decide), ⟨(by decide), ⟨u160z, ⟨(by (clear L175 X190 h156 h155 ih152 u101z hret C hp4 hp3 hp2 hp1 ha2 ha1 hM0; omega)), (by decide)⟩⟩⟩⟩)
  refine j_lv [1, 2, 3, 0] rfl ?_; exact L153 2010 0 (by exact ⟨(by decide), ⟨(by decide), ⟨u101z, (by decide)⟩⟩⟩)
set_option maxHeartbeats 4000000 in
theorem s1_X3_meaning {l : Launch} {dC : Nat → ClassId} {dI : Nat → Nat → Nat} {ad : Nat → Nat} {cA : Nat → ClassId} {pr : Nat → Nat → Bool} {Kz : mm_M} {M0 : mm_M} (hM0 : INV pr Kz M0) (a1 : Int) (ha1 : -2147483648 ≤ a1 ∧ a1 ≤ 2147483647) (a2 : Int) (ha2 : -2147483648 ≤ a2 ∧ a2 ≤ 2147483647) (gf : Nat → Int) (gn : Int) (hp0 : a1 < a2) (hp1 : a2 = teF gf gn a1) (hp2 : a1 < gn) (hp3 : gn ≤ 900) (hp4 : b01 (TPX gf gn M0) = 1) (hp5 : 0 ≤ a1 ∧ a1 ≤ 899) (hp6 : 0 ≤ a2 ∧ a2 ≤ 900) : Ci l 5 yX3_meaning wsX3_meaning dC dI ad cA [.ref (ad 1), .int (sI a1), .int (sI a2)] M0 (fun r M' => ∃ a : Int, r = sI a ∧ M0 = M' ∧ 0 ≤ a ∧ a ≤ 3000 ∧ (a = tmF gf gn a1)) := by
  refine ci_of (cc := cX3_meaning) (maxL := 3) (ty := .int) (lv := [(0, .ref (ad 1)), (1, .int (sI a1)), (2, .int (sI a2))]) (by decide) rfl (fun r M' hp => rfl) (Nat.le_of_ble_eq_true rfl) rfl ?_
  intro p e s m args below meth c A Q C hret
  have u101m := tmF_s gf gn a1
  have u101e := teF_le gf gn a1 (by exact ⟨hp5.1, hp2⟩)
  refine j_aload_n C 0 0 dX3_meaning_0 rfl rfl ?_
  refine j_iload_n C 1 1 dX3_meaning_1 rfl rfl ?_
  have u102p := tp_r (f := gf) (n := gn) (M := M0) (a := a1) (by exact hp4) (by exact ⟨hp5.1, hp2⟩)
  refine y_iald C 20 900 _ _ rfl rfl rfl ak_20 an_20 rfl (sb_20 _) hM0 dX3_meaning_2 (by exact ⟨hp5.1, (by omega)⟩) (fun a103 ea103 la103 ua103 => ?_)
  refine j_callSi C (d := 0) (As := [.int (sI a103)]) (st := []) (s1_X3_isSmall hM0 a103 (by omega)) gX3_meaning_X3_isSmall rfl hdX3_isSmalls (by decide) (Nat.le_of_ble_eq_true rfl) dX3_meaning_3 rfl (fun r104 M105 h106 => ?_)
  obtain ⟨a108, rfl, rfl, h107⟩ := h106
  refine y_if_eq C 16 dX3_meaning_6 (by decide) (by omega) (fun h109 => ?_) (fun h109 => ?_)
  · refine j_aload_n C 0 0 dX3_meaning_16 rfl rfl ?_
    refine j_iload_n C 1 1 dX3_meaning_17 rfl rfl ?_
    have u110p := tp_r (f := gf) (n := gn) (M := M0) (a := a1) (by exact hp4) (by exact ⟨hp5.1, hp2⟩)
    refine y_iald C 20 900 _ _ rfl rfl rfl ak_20 an_20 rfl (sb_20 _) hM0 dX3_meaning_18 (by exact ⟨hp5.1, (by omega)⟩) (fun a111 ea111 la111 ua111 => ?_)
    refine j_callSi C (d := 0) (As := [.int (sI a111)]) (st := []) (s1_X3_isDigit hM0 a111 (by (clear ua111 la111 u110p h109 h107 u102p u101e u101m hret C hp6 hp5 hp4 hp3 hp2 hp1 hp0 ha2 ha1 hM0; omega))) gX3_meaning_X3_isDigit rfl hdX3_isDigits (by decide) (Nat.le_of_ble_eq_true rfl) dX3_meaning_19 rfl (fun r112 M113 h114 => ?_)
    obtain ⟨a116, rfl, rfl, h115⟩ := h114
    refine y_if_eq C 32 dX3_meaning_22 (by decide) (by omega) (fun h117 => ?_) (fun h117 => ?_)
    · have u118g := tm_g gf gn a1
      refine j_ldcS C 0 (by decide) rfl rfl dX3_meaning_32 ?_
      refine j_aload_n C 0 0 dX3_meaning_34 rfl rfl ?_
      refine j_iload_n C 1 1 dX3_meaning_35 rfl rfl ?_
      have u119p := tp_r (f := gf) (n := gn) (M := M0) (a := a1) (by exact hp4) (by exact ⟨hp5.1, hp2⟩)
      refine y_iald C 20 900 _ _ rfl rfl rfl ak_20 an_20 rfl (sb_20 _) hM0 dX3_meaning_36 (by exact ⟨hp5.1, (by omega)⟩) (fun a120 ea120 la120 ua120 => ?_)
      refine e_i2c C dX3_meaning_37 (by exact ⟨la120, (by (clear ua120 la120 u119p u118g h117 h115 ua111 la111 u110p h109 h107 u102p u101e u101m hret C hp6 hp5 hp4 hp3 hp2 hp1 hp0 ha2 ha1 hM0; omega))⟩) ?_
      have u121c := sg_c a120 (gf (a1).toNat)
      refine j_callSS C (d := 3) (As := [.int (sI a120)]) (st := []) 0 (by decide) (s1_J0_indexOf_0f7a4 hM0 a120 (by (clear u121c ua120 la120 u119p u118g h117 h115 ua111 la111 u110p h109 h107 u102p u101e u101m hret C hp6 hp5 hp4 hp3 hp2 hp1 hp0 ha2 ha1 hM0; omega)) (by exact ⟨la120, ua120⟩)) gX3_meaning_J0_indexOf_0f7a4 rfl hdJ0_indexOf_0f7a4 (by decide) (Nat.le_of_ble_eq_true rfl) dX3_meaning_38 rfl (fun r122 M123 h124 => ?_)
      obtain ⟨a126, rfl, rfl, h125⟩ := h124
      refine y_if_lt C 54 dX3_meaning_41 (by decide) (by (clear u121c ua120 la120 ea120 u119p u118g h117 h115 ua111 la111 ea111 u110p h109 h107 ua103 la103 ea103 u102p u101e u101m hret C hp6 hp5 hp4 hp3 hp2 hp1 hp0 ha2 ha1 hM0; omega)) (fun h127 => ?_) (fun h127 => ?_)
      · refine y_sipush C dX3_meaning_54 rfl ?_
        exact hret _ _ _ _ dX3_meaning_57 ⟨3000, rfl, rfl, by exact ⟨(by decide), ⟨(by decide), (by (clear ua120 la120 u119p ua111 la111 u110p u101e u101m hret C hp6 hp5 hp4 hp3 hp2 hp1 hp0 ha2 ha1 hM0; omega))⟩⟩⟩
      · refine y_sipush C dX3_meaning_44 rfl ?_
        refine j_aload_n C 0 0 dX3_meaning_47 rfl rfl ?_
        refine j_iload_n C 1 1 dX3_meaning_48 rfl rfl ?_
        have u128p := tp_r (f := gf) (n := gn) (M := M0) (a := a1) (by exact hp4) (by exact ⟨hp5.1, hp2⟩)
        refine y_iald C 20 900 _ _ rfl rfl rfl ak_20 an_20 rfl (sb_20 _) hM0 dX3_meaning_49 (by exact ⟨hp5.1, (by omega)⟩) (fun a129 ea129 la129 ua129 => ?_)
        refine y_iadd C dX3_meaning_50 ?_
        refine j_goto C 57 dX3_meaning_51 (by decide) ?_
        exact hret _ _ _ _ dX3_meaning_57 ⟨(2000 + a129), rfl, rfl, by (clear ua129 la129 u128p ua120 la120 u119p ua111 la111 u110p u101e u101m hret C hp6 hp5 hp4 hp3 hp2 hp1 hp0 ha2 ha1 hM0; omega)⟩
    · refine j_aload_n C 0 0 dX3_meaning_25 rfl rfl ?_
      refine j_iload_n C 1 1 dX3_meaning_26 rfl rfl ?_
      refine j_iload_n C 2 2 dX3_meaning_27 rfl rfl ?_
      have u130c : valF gf a1 (a2 - a1).toNat = valF gf a1 (teF gf gn a1 - a1).toNat := by rw [show a2 = teF gf gn a1 by exact hp1]
      have u130m := tp_m (f := gf) (n := gn) (m := a2) (M := M0) (by omega) (by exact hp4)
      have u130x : b01 (DGX gf a1 a2) = 1 := by rw [show a2 = teF gf gn a1 by exact hp1]; exact dg_t (by exact ⟨hp5.1, hp2⟩) (by (clear u130m u130c ua111 la111 u110p h109 h107 u101e u101m hret C hp6 hp5 hp4 hp3 hp2 hp1 hp0 ha2 ha1 hM0; omega))
      refine j_callSi C (d := 0) (As := [.ref (ad 1), .int (sI a1), .int (sI a2)]) (st := []) (s1_X3_numberOf hM0 a1 (by exact ⟨ha1.1, ha1.2⟩) a2 (by exact ⟨ha2.1, ha2.2⟩) gf (by exact hp0) (by exact u130m) (by exact u130x) (by exact ⟨hp5.1, hp5.2⟩) (by exact ⟨hp6.1, hp6.2⟩)) gX3_meaning_X3_numberOf rfl hdX3_numberOfs (by decide) (Nat.le_of_ble_eq_true rfl) dX3_meaning_28 rfl (fun r131 M132 h133 => ?_)
      obtain ⟨a135, rfl, rfl, h134⟩ := h133
      exact hret _ _ _ _ dX3_meaning_31 ⟨a135, rfl, rfl, by exact ⟨h134.1, ⟨h134.2.1, (by (clear u130x u130m ua111 la111 u110p h109 u101e hret C hp6 hp5 hp4 hp3 hp2 ha2 ha1 hM0; omega))⟩⟩⟩
  · refine j_aload_n C 0 0 dX3_meaning_9 rfl rfl ?_
    refine j_iload_n C 1 1 dX3_meaning_10 rfl rfl ?_
    refine j_iload_n C 2 2 dX3_meaning_11 rfl rfl ?_
    have u136c : twF gf a1 (a2 - a1) = twF gf a1 (teF gf gn a1 - a1) := by rw [show a2 = teF gf gn a1 by exact hp1]
    have u136m := tp_m (f := gf) (n := gn) (m := a2) (M := M0) (by omega) (by exact hp4)
    have u136x : b01 (SMX gf a1 a2) = 1 := by rw [show a2 = teF gf gn a1 by exact hp1]; exact sm_t (by exact ⟨hp5.1, hp2⟩) (by (clear u136m u136c u101e u101m hret C hp6 hp5 hp4 hp3 hp2 hp1 hp0 ha2 ha1 hM0; omega))
    refine j_callSi C (d := 4) (As := [.ref (ad 1), .int (sI a1), .int (sI a2)]) (st := []) (s1_X3_wordOf hM0 a1 (by exact ⟨ha1.1, ha1.2⟩) a2 (by exact ⟨ha2.1, ha2.2⟩) gf (by exact hp0) (by exact u136m) (by exact u136x) (by exact ⟨hp5.1, hp5.2⟩) (by exact ⟨hp6.1, hp6.2⟩)) gX3_meaning_X3_wordOf rfl hdX3_wordOfs (by decide) (Nat.le_of_ble_eq_true rfl) dX3_meaning_12 rfl (fun r137 M138 h139 => ?_)
    obtain ⟨a141, rfl, rfl, h140⟩ := h139
    exact hret _ _ _ _ dX3_meaning_15 ⟨a141, rfl, rfl, by (clear u136x u136m u101e hret C hp6 hp5 hp4 hp3 hp2 hp1 hp0 ha2 ha1 hM0; omega)⟩
set_option maxHeartbeats 4000000 in
theorem s1_X8_split {l : Launch} {dC : Nat → ClassId} {dI : Nat → Nat → Nat} {ad : Nat → Nat} {cA : Nat → ClassId} {pr : Nat → Nat → Bool} {Kz : mm_M} {M0 : mm_M} (hM0 : INV pr Kz M0) (hpr : PX pr) (a2 : Int) (ha2 : -2147483648 ≤ a2 ∧ a2 ≤ 2147483647) (gf : Nat → Int) (gn : Int) (hp0 : gn = a2) (hp1 : b01 (TPX gf gn M0) = 1) (hp2 : 0 ≤ a2 ∧ a2 ≤ 900) : Cv l 6 yX8_split wsX8_split dC dI ad cA [.ref (ad 78), .ref (ad 1), .int (sI a2)] M0 (fun M' => INV pr Kz M' ∧ FR [79, 80] M0 M' ∧ (b01 (TKZ gf gn M') = 1)) := by
  refine cv_of (cc := cX8_split) (maxL := 7) (lv := [(0, .ref (ad 78)), (1, .ref (ad 1)), (2, .int (sI a2))]) (by decide) rfl (Nat.le_of_ble_eq_true rfl) rfl ?_
  intro p e s m args below meth c A Q C hret
  refine y_iconst C dX8_split_0 ?_
  refine j_istore_n C 3 [(3, .int (sI 0)), (0, .ref (ad 78)), (1, .ref (ad 1)), (2, .int (sI a2))] dX8_split_1 rfl (by decide) rfl ?_
  refine y_iconst C dX8_split_2 ?_
  refine j_istore C 4 [(4, .int (sI 0)), (3, .int (sI 0)), (0, .ref (ad 78)), (1, .ref (ad 1)), (2, .int (sI a2))] dX8_split_3 (by decide) rfl ?_
  refine y_iconst C dX8_split_5 ?_
  refine j_istore C 5 [(5, .int (sI 1)), (4, .int (sI 0)), (3, .int (sI 0)), (0, .ref (ad 78)), (1, .ref (ad 1)), (2, .int (sI a2))] dX8_split_6 (by decide) rfl ?_
  have u101z := sp_0 gf gn M0 (by (clear hret C hp1 hpr hM0; omega))
  have L151 : ∀ (n149 : Nat), ∀ (a152 : Int) (a153 : Int) (a154 : Int) (M155 : mm_M), (0 ≤ a152 ∧ a152 ≤ 900 ∧ 0 ≤ a153 ∧ a153 ≤ 900 ∧ 0 ≤ a154 ∧ a154 ≤ 1 ∧ (a152 ≤ a153) ∧ (a153 ≤ a2) ∧ (b01 (SPX gf gn M155 a152 a153 a154) = 1) ∧ (b01 (TPX gf gn M155) = 1) ∧ (900 - a153) < (n149 : Int)) → INV pr Kz M155 → FR [79, 80] M0 M155 → jj p l e (cn_R 6) s m args below meth c 0 0 Q 7 dC dI ad cA A M155 8 [(0, .ref (ad 78)), (1, .ref (ad 1)), (2, .int (sI a2)), (3, .int (sI a152)), (4, .int (sI a153)), (5, .int (sI a154))] [] := by
    intro n149
    induction n149 with
    | zero =>
      intro a152 a153 a154 M155 h156 hM155 fM155
      exfalso; omega
    | succ n149 ih150 =>
      intro a152 a153 a154 M155 h156 hM155 fM155
      refine j_iload C 4 dX8_split_8 rfl ?_
      refine j_iload_n C 2 2 dX8_split_10 rfl rfl ?_
      refine y_icmp_ge C 109 dX8_split_11 (by decide) (by exact ⟨⟨(by (clear fM155 hM155 ih150 u101z hret C hp1 hpr hM0; omega)), (by (clear fM155 hM155 ih150 u101z hret C hp1 hpr hM0; omega))⟩, ⟨ha2.1, ha2.2⟩⟩) (fun h157 => ?_) (fun h157 => ?_)
      · refine j_aload_n C 0 0 dX8_split_109 rfl rfl ?_
        refine y_getC C 7 80 fX8_split_15 rfl rfl ft_7_1 sm_7_1 rfl hM155 dX8_split_110 ?_
        refine j_iload_n C 3 3 dX8_split_113 rfl rfl ?_
        refine j_iload_n C 2 2 dX8_split_114 rfl rfl ?_
        refine y_iastF C 32 901 rfl rfl rfl ak_32 an_32 rfl (sb_32 _) hM155 (PX.w hpr rfl rfl) dX8_split_115 (by exact ⟨h156.1, (by omega)⟩) (fun M200 eM200 hM200 => ?_)
        refine j_aload_n C 0 0 dX8_split_116 rfl rfl ?_
        refine y_getC C 7 79 fX8_split_9 rfl rfl ft_7_0 sm_7_0 rfl hM200 dX8_split_117 ?_
        refine j_iload_n C 3 3 dX8_split_120 rfl rfl ?_
        refine y_sipush C dX8_split_121 rfl ?_
        refine y_iastF C 31 901 rfl rfl rfl ak_31 an_31 rfl (sb_31 _) hM200 (PX.w hpr rfl rfl) dX8_split_124 (by exact ⟨h156.1, (by omega)⟩) (fun M201 eM201 hM201 => ?_)
        have u202e := sp_e (f := gf) (n := gn) (M := M155) (M1 := M200) (s := a152) (i := a153) (g := a154) (by exact h156.2.2.2.2.2.2.2.2.1) (by omega) (by rw [show gn = a2 by exact hp0]; exact eM200) eM201
        exact hret _ _ _ dX8_split_125 ⟨hM201, (((FR.rf.tr fM155 (by decide)).wI eM200 (by decide)).wI eM201 (by decide)), by exact u202e⟩
      · refine j_iload C 4 dX8_split_14 rfl ?_
        refine j_aload_n C 1 1 dX8_split_16 rfl rfl ?_
        refine y_alen C 20 900 rfl rfl rfl an_20 rfl rfl dX8_split_17 ?_
        refine y_icmp_ge C 109 dX8_split_18 (by decide) (by exact ⟨⟨(by omega), (by omega)⟩, ⟨(by decide), (by decide)⟩⟩) (fun h158 => ?_) (fun h158 => ?_)
        · exfalso; (clear fM155 hM155 ih150 u101z hret C hp1 hpr hM0; omega)
        · refine j_iload C 5 dX8_split_21 rfl ?_
          refine y_if_eq C 109 dX8_split_23 (by decide) (by omega) (fun h159 => ?_) (fun h159 => ?_)
          · refine j_aload_n C 0 0 dX8_split_109 rfl rfl ?_
            refine y_getC C 7 80 fX8_split_15 rfl rfl ft_7_1 sm_7_1 rfl hM155 dX8_split_110 ?_
            refine j_iload_n C 3 3 dX8_split_113 rfl rfl ?_
            refine j_iload_n C 2 2 dX8_split_114 rfl rfl ?_
            refine y_iastF C 32 901 rfl rfl rfl ak_32 an_32 rfl (sb_32 _) hM155 (PX.w hpr rfl rfl) dX8_split_115 (by exact ⟨h156.1, (by omega)⟩) (fun M203 eM203 hM203 => ?_)
            refine j_aload_n C 0 0 dX8_split_116 rfl rfl ?_
            refine y_getC C 7 79 fX8_split_9 rfl rfl ft_7_0 sm_7_0 rfl hM203 dX8_split_117 ?_
            refine j_iload_n C 3 3 dX8_split_120 rfl rfl ?_
            refine y_sipush C dX8_split_121 rfl ?_
            refine y_iastF C 31 901 rfl rfl rfl ak_31 an_31 rfl (sb_31 _) hM203 (PX.w hpr rfl rfl) dX8_split_124 (by exact ⟨h156.1, (by omega)⟩) (fun M204 eM204 hM204 => ?_)
            have u205e := sp_e (f := gf) (n := gn) (M := M155) (M1 := M203) (s := a152) (i := a153) (g := a154) (by exact h156.2.2.2.2.2.2.2.2.1) (by omega) (by rw [show gn = a2 by exact hp0]; exact eM203) eM204
            exact hret _ _ _ dX8_split_125 ⟨hM204, (((FR.rf.tr fM155 (by decide)).wI eM203 (by decide)).wI eM204 (by decide)), by exact u205e⟩
          · have u160g := sp_g (f := gf) (n := gn) (M := M155) (s := a152) (i := a153) (g := a154) (by exact h156.2.2.2.2.2.2.2.2.1) (by exact h159)
            refine j_iload C 4 dX8_split_26 rfl ?_
            refine y_iconst C dX8_split_28 ?_
            refine y_iadd C dX8_split_29 ?_
            refine j_istore C 6 [(6, .int (sI (a153 + 1))), (0, .ref (ad 78)), (1, .ref (ad 1)), (2, .int (sI a2)), (3, .int (sI a152)), (4, .int (sI a153)), (5, .int (sI a154))] dX8_split_30 (by decide) rfl ?_
            refine j_aload_n C 2 1 dX8_split_32 rfl rfl ?_
            refine j_iload C 5 dX8_split_33 rfl ?_
            have u161p := tp_r (f := gf) (n := gn) (M := M155) (a := a153) (by exact h156.2.2.2.2.2.2.2.2.2.1) (by exact ⟨h156.2.2.1, (by (clear u160g h159 fM155 hM155 ih150 u101z hret C hp2 hp1 ha2 hpr hM0; omega))⟩)
            refine y_iald C 20 900 _ _ rfl rfl rfl ak_20 an_20 rfl (sb_20 _) hM155 dX8_split_35 (by exact ⟨h156.2.2.1, (by omega)⟩) (fun a162 ea162 la162 ua162 => ?_)
            have qa162 : a162 = (M0.1 1 (a153).toNat).toInt := s_fF fM155 (by decide) (ea162)
            refine j_callSi C (d := 0) (As := [.int (sI a162)]) (st := []) (s1_X3_isBlank hM155 a162 (by (clear ea162 u161p u160g h159 h158 h157 fM155 hM155 h156 ih150 u101z hret C hp2 hp1 hp0 ha2 hpr hM0; omega))) gX8_split_X3_isBlank rfl hdX3_isBlanks (by decide) (Nat.le_of_ble_eq_true rfl) dX8_split_36 rfl (fun r163 M164 h165 => ?_)
            obtain ⟨a167, rfl, rfl, h166⟩ := h165
            have J195 : ∀ (a191 : Int) (a192 : Int) (a193 : Int) (M194 : mm_M), (0 ≤ a191 ∧ a191 ≤ 901 ∧ 0 ≤ a192 ∧ a192 ≤ 1 ∧ 1 ≤ a193 ∧ a193 ≤ 900 ∧ (a153 < a193) ∧ (a193 ≤ a2) ∧ (a191 ≤ a153 + 1) ∧ (b01 (SPX gf gn M194 a191 a193 a192) = 1) ∧ (b01 (TPX gf gn M194) = 1)) → INV pr Kz M194 → FR [79, 80] M0 M194 → jj p l e (cn_R 6) s m args below meth c 0 0 Q 7 dC dI ad cA A M194 95 [(0, .ref (ad 78)), (1, .ref (ad 1)), (2, .int (sI a2)), (3, .int (sI a191)), (4, .int (sI a153)), (5, .int (sI a192)), (6, .int (sI a193))] [] := by
              intro a191 a192 a193 M194 h196 hM194 fM194
              refine j_iload C 4 dX8_split_95 rfl ?_
              refine y_iconst C dX8_split_97 ?_
              refine y_iadd C dX8_split_98 ?_
              refine j_iload C 6 dX8_split_99 rfl ?_
              refine y_mmax C wX8_split_75_0 wX8_split_75_1 wX8_split_75_2 wX8_split_75_3 (by decide) (Nat.le_of_ble_eq_true rfl) dX8_split_101 (by (clear fM194 hM194 h166 qa162 ua162 la162 ea162 u161p u160g h159 h157 fM155 hM155 ih150 u101z hret C hp2 hp1 hp0 ha2 hpr hM0; omega)) (fun a198 ha198 => ?_)
              refine j_istore C 4 [(4, .int (sI a198)), (0, .ref (ad 78)), (1, .ref (ad 1)), (2, .int (sI a2)), (3, .int (sI a191)), (5, .int (sI a192)), (6, .int (sI a193))] dX8_split_104 (by decide) rfl ?_
              refine j_goto C 8 dX8_split_106 (by decide) ?_
              have u199y : b01 (SPX gf gn M194 a191 a198 a192) = 1 := by rw [show a198 = a193 by (clear fM194 hM194 h166 qa162 ua162 la162 ea162 u161p u160g h159 h158 h157 fM155 hM155 h156 ih150 u101z hret C hp2 hp1 hp0 ha2 hpr hM0; omega)]; exact h196.2.2.2.2.2.2.2.2.2.1
              refine j_lv [1, 2, 3, 4, 0, 5] rfl ?_; exact ih150 a191 a198 a192 M194 (by exact ⟨h196.1, ⟨(by (clear fM194 hM194 h166 qa162 ua162 la162 ea162 u161p u160g h159 h157 fM155 hM155 ih150 u101z hret C hp2 hp1 ha2 hpr hM0; omega)), ⟨(by (clear fM194 hM194 h166 qa162 ua162 la162 ea162 u161p u160g h159 h157 fM155 hM155 ih150 u101z hret C hp2 hp1 ha2 hpr hM0; omega)), ⟨(by (clear fM194 hM194 h166 qa162 ua162 la162 ea162 u161p u160g h159 h157 fM155 hM155 ih150 u101z hret C hp2 hp1 ha2 hpr hM0; omega)), ⟨h196.2.2.1, ⟨h196.2.2.2.1, ⟨(by (clear fM194 hM194 h166 qa162 ua162 la162 ea162 u161p u160g h159 h157 fM155 hM155 ih150 u101z hret C hp2 hp1 ha2 hpr hM0; omega)), ⟨(by (clear fM194 hM194 h166 qa162 ua162 la162 ea162 u161p u160g h159 h157 fM155 hM155 ih150 u101z hret C hp2 hp1 ha2 hpr hM0; omega)), ⟨u199y, ⟨h196.2.2.2.2.2.2.2.2.2.2, (by (clear fM194 hM194 h166 qa162 ua162 la162 ea162 u161p u160g h159 h157 fM155 hM155 ih150 u101z hret C hp2 hp1 ha2 hpr hM0; omega))⟩⟩⟩⟩⟩⟩⟩⟩⟩⟩) hM194 (FR.rf.tr fM194 (by decide))
            refine y_if_ne C 95 dX8_split_39 (by decide) (by (clear J195 qa162 ua162 la162 ea162 u161p u160g h159 h158 h157 fM155 hM155 h156 ih150 u101z hret C hp2 hp1 hp0 ha2 hpr hM0; omega)) (fun h168 => ?_) (fun h168 => ?_)
            · have u169b := sp_b (f := gf) (n := gn) (M := M155) (s := a152) (i := a153) (g := a154) (by exact h156.2.2.2.2.2.2.2.2.1) (by exact ⟨h156.2.2.1, (by (clear h168 J195 h166 qa162 ua162 la162 ea162 u161p u160g h159 fM155 hM155 ih150 u101z hret C hp2 hp1 ha2 hpr hM0; omega))⟩) (by (clear J195 u160g h159 h158 h157 fM155 hM155 h156 ih150 u101z hret C hp2 hp1 hp0 ha2 hpr hM0; omega)) (by exact h159)
              refine j_lv [1, 2, 3, 4, 5, 6, 0] rfl ?_; exact J195 a152 a154 (a153 + 1) M155 (by exact ⟨h156.1, ⟨(by (clear h168 J195 h166 qa162 ua162 la162 ea162 u161p u160g h159 fM155 hM155 ih150 u101z hret C hp2 hp1 ha2 hpr hM0; omega)), ⟨h156.2.2.2.2.1, ⟨h156.2.2.2.2.2.1, ⟨(by (clear h168 J195 h166 qa162 ua162 la162 ea162 u161p u160g h159 fM155 hM155 ih150 u101z hret C hp2 hp1 ha2 hpr hM0; omega)), ⟨(by (clear h168 J195 h166 qa162 ua162 la162 ea162 u161p u160g h159 fM155 hM155 ih150 u101z hret C hp2 hp1 ha2 hpr hM0; omega)), ⟨(by (clear h168 J195 h166 qa162 ua162 la162 ea162 u161p u160g h159 fM155 hM155 ih150 u101z hret C hp2 hp1 ha2 hpr hM0; omega)), ⟨(by (clear h168 J195 h166 qa162 ua162 la162 ea162 u161p u160g h159 fM155 hM155 ih150 u101z hret C hp2 hp1 ha2 hpr hM0; omega)), ⟨(by (clear h168 J195 h166 qa162 ua162 la162 ea162 u161p u160g h159 fM155 hM155 ih150 u101z hret C hp2 hp1 ha2 hpr hM0; omega)), ⟨u169b, h156.2.2.2.2.2.2.2.2.2.1⟩⟩⟩⟩⟩⟩⟩⟩⟩⟩) hM155 (FR.rf.tr fM155 (by decide))
            · refine j_aload_n C 2 1 dX8_split_42 rfl rfl ?_
              refine j_iload C 5 dX8_split_43 rfl ?_
              refine j_iload_n C 3 2 dX8_split_45 rfl rfl ?_
              have u170m := tp_m (f := gf) (n := gn) (m := a2) (M := M155) (by omega) (by exact h156.2.2.2.2.2.2.2.2.2.1)
              have u170t : teF gf a2 a153 = teF gf gn a153 := by rw [show gn = a2 by exact hp0]
              refine j_callSi C (d := 1) (As := [.ref (ad 1), .int (sI a153), .int (sI a2)]) (st := []) (s1_X3_endOf hM155 a153 (by omega) a2 (by exact ⟨ha2.1, ha2.2⟩) gf (by omega) (by exact u170m) (by exact ⟨h156.2.2.1, (by omega)⟩) (by exact ⟨hp2.1, hp2.2⟩)) gX8_split_X3_endOf rfl hdX3_endOfs (by decide) (Nat.le_of_ble_eq_true rfl) dX8_split_46 rfl (fun r171 M172 h173 => ?_)
              obtain ⟨a175, rfl, rfl, h174⟩ := h173
              refine j_istore C 6 [(6, .int (sI a175)), (0, .ref (ad 78)), (1, .ref (ad 1)), (2, .int (sI a2)), (3, .int (sI a152)), (4, .int (sI a153)), (5, .int (sI a154))] dX8_split_49 (by decide) rfl ?_
              refine j_aload_n C 1 0 dX8_split_51 rfl rfl ?_
              refine y_getC C 7 80 fX8_split_15 rfl rfl ft_7_1 sm_7_1 rfl hM155 dX8_split_52 ?_
              refine j_iload_n C 4 3 dX8_split_55 rfl rfl ?_
              refine j_iload C 5 dX8_split_56 rfl ?_
              refine y_iastF C 32 901 rfl rfl rfl ak_32 an_32 rfl (sb_32 _) hM155 (PX.w hpr rfl rfl) dX8_split_58 (by exact ⟨h156.1, (by omega)⟩) (fun M176 eM176 hM176 => ?_)
              refine j_aload_n C 1 0 dX8_split_59 rfl rfl ?_
              refine y_getC C 7 79 fX8_split_9 rfl rfl ft_7_0 sm_7_0 rfl hM176 dX8_split_60 ?_
              refine j_iload_n C 4 3 dX8_split_63 rfl rfl ?_
              refine j_aload_n C 2 1 dX8_split_64 rfl rfl ?_
              refine j_iload C 5 dX8_split_65 rfl ?_
              refine j_iload C 0 dX8_split_67 rfl ?_
              have u177t := tp_c (f := gf) (n := gn) (M := M155) (M' := M176) (wc_x eM176 (by decide)) (by exact h156.2.2.2.2.2.2.2.2.2.1)
              refine j_callSi C (d := 5) (As := [.ref (ad 1), .int (sI a153), .int (sI a175)]) (st := [.int (sI a152), .ref (ad 79)]) (s1_X3_meaning hM176 a153 (by omega) a175 (by (clear u177t hM176 eM176 u170t u170m h168 J195 h166 qa162 ua162 la162 ea162 u161p u160g h159 h158 h157 fM155 hM155 h156 ih150 u101z hret C hp2 hp1 hp0 ha2 hpr hM0; omega)) gf gn (by exact h174.2.2.1.1) (by (clear u177t hM176 eM176 u170m h168 J195 h166 qa162 ua162 la162 ea162 u161p u160g h159 h158 h157 fM155 hM155 h156 ih150 u101z hret C hp2 hp1 hp0 ha2 hpr hM0; omega)) (by omega) (by omega) (by exact u177t) (by exact ⟨h156.2.2.1, (by omega)⟩) (by exact ⟨(by (clear u177t hM176 eM176 u170t u170m h168 J195 h166 qa162 ua162 la162 ea162 u161p u160g h159 h158 h157 fM155 hM155 h156 ih150 u101z hret C hp2 hp1 hp0 ha2 hpr hM0; omega)), h174.2.1⟩)) gX8_split_X3_meaning rfl hdX3_meanings (by decide) (Nat.le_of_ble_eq_true rfl) dX8_split_69 rfl (fun r178 M179 h180 => ?_)
              obtain ⟨a182, rfl, rfl, h181⟩ := h180
              refine y_iastF C 31 901 rfl rfl rfl ak_31 an_31 rfl (sb_31 _) hM176 (PX.w hpr rfl rfl) dX8_split_72 (by exact ⟨h156.1, (by omega)⟩) (fun M183 eM183 hM183 => ?_)
              refine j_aload_n C 1 0 dX8_split_73 rfl rfl ?_
              refine y_getC C 7 79 fX8_split_9 rfl rfl ft_7_0 sm_7_0 rfl hM183 dX8_split_74 ?_
              refine j_iload_n C 4 3 dX8_split_77 rfl rfl ?_
              refine y_iald C 31 901 _ _ rfl rfl rfl ak_31 an_31 rfl (sb_31 _) hM183 dX8_split_78 (by exact ⟨h156.1, (by omega)⟩) (fun a184 ea184 la184 ua184 => ?_)
              have u185v := s_wr eM183 (by (clear ua184 la184 ea184 hM183 eM183 u177t hM176 eM176 h174 u170t u170m h168 J195 h166 qa162 ua162 la162 ea162 u161p u160g h159 h158 h157 fM155 hM155 h156 ih150 u101z hret C hp2 hp1 hp0 ha2 hpr hM0; omega))
              refine y_sipush C dX8_split_79 rfl ?_
              refine y_icmp_eq C 89 dX8_split_82 (by decide) (by exact ⟨⟨la184, ua184⟩, ⟨(by decide), (by decide)⟩⟩) (fun h186 => ?_) (fun h186 => ?_)
              · refine y_iconst C dX8_split_89 ?_
                refine j_istore C 5 [(5, .int (sI 0)), (6, .int (sI a175)), (0, .ref (ad 78)), (1, .ref (ad 1)), (2, .int (sI a2)), (3, .int (sI a152)), (4, .int (sI a153))] dX8_split_90 (by decide) rfl ?_
                have u187s := sp_t (f := gf) (n := gn) (M := M155) (s := a152) (i := a153) (t := a182) (g := 0) (by exact u160g) (by exact ⟨h156.2.2.1, (by (clear h186 u185v ua184 la184 ea184 hM183 eM183 h181 u177t hM176 eM176 h174 u170t u170m h168 J195 h166 qa162 ua162 la162 ea162 u161p u160g h159 fM155 hM155 ih150 u101z hret C hp2 hp1 ha2 hpr hM0; omega))⟩) (by (clear h186 u185v ua184 la184 ea184 hM183 eM183 h181 u177t hM176 eM176 h174 u170t u170m J195 ua162 la162 u160g h159 h158 h157 fM155 hM155 h156 ih150 u101z hret C hp2 hp1 hp0 ha2 hpr hM0; omega)) eM176 eM183 (by exact h181.2.2) (by (clear ua184 la184 hM183 eM183 u177t hM176 eM176 h174 u170t u170m h168 J195 h166 qa162 ua162 la162 ea162 u161p u160g h159 h158 h157 fM155 hM155 h156 ih150 u101z hret C hp2 hp1 hp0 ha2 hpr hM0; omega)) (by (clear ua184 la184 hM183 eM183 u177t hM176 eM176 h174 u170t u170m h168 J195 h166 qa162 ua162 la162 ea162 u161p u160g h159 h158 h157 fM155 hM155 h156 ih150 u101z hret C hp2 hp1 hp0 ha2 hpr hM0; omega))
                have u187w : b01 (SPX gf gn M183 (a152 + 1) a175 0) = 1 := by rw [show a175 = teF gf gn a153 by (clear u187s h186 u185v ua184 la184 ea184 hM183 eM183 h181 u177t hM176 eM176 u170m h168 J195 h166 qa162 ua162 la162 ea162 u161p u160g h159 h158 h157 fM155 hM155 h156 ih150 u101z hret C hp2 hp1 hp0 ha2 hpr hM0; omega)]; exact u187s
                have u187t := tp_c (f := gf) (n := gn) (M := M155) (M' := M183) ((wc_x eM183 (by decide)).trans (wc_x eM176 (by decide))) (by exact h156.2.2.2.2.2.2.2.2.2.1)
                refine y_iinc C 5 [(3, .int (sI (a152 + 1))), (5, .int (sI 0)), (6, .int (sI a175)), (0, .ref (ad 78)), (1, .ref (ad 1)), (2, .int (sI a2)), (4, .int (sI a153))] dX8_split_92 rfl (by decide) rfl ?_
                refine j_lv [3, 4, 5, 0, 6, 1, 2] rfl ?_; exact J195 (a152 + 1) 0 a175 M183 (by exact ⟨(by (clear u187s h186 u185v ua184 la184 ea184 hM183 eM183 h181 u177t hM176 eM176 u170t u170m h168 J195 h166 qa162 ua162 la162 ea162 u161p u160g h159 h158 h157 fM155 hM155 ih150 u101z hret C hp2 hp1 ha2 hpr hM0; omega)), ⟨(by (clear u187s h186 u185v ua184 la184 ea184 hM183 eM183 h181 u177t hM176 eM176 u170t u170m h168 J195 h166 qa162 ua162 la162 ea162 u161p u160g h159 h158 h157 fM155 hM155 ih150 u101z hret C hp2 hp1 ha2 hpr hM0; omega)), ⟨(by decide), ⟨(by decide), ⟨h174.1, ⟨h174.2.1, ⟨h174.2.2.1.1, ⟨h174.2.2.1.2, ⟨(by (clear u187s h186 u185v ua184 la184 ea184 hM183 eM183 h181 u177t hM176 eM176 u170t u170m h168 J195 h166 qa162 ua162 la162 ea162 u161p u160g h159 h158 h157 fM155 hM155 ih150 u101z hret C hp2 hp1 ha2 hpr hM0; omega)), ⟨u187w, u187t⟩⟩⟩⟩⟩⟩⟩⟩⟩⟩) hM183 (((FR.rf.tr fM155 (by decide)).wI eM176 (by decide)).wI eM183 (by decide))
              · refine y_iconst C dX8_split_85 ?_
                refine j_goto C 90 dX8_split_86 (by decide) ?_
                refine j_istore C 5 [(5, .int (sI 1)), (6, .int (sI a175)), (0, .ref (ad 78)), (1, .ref (ad 1)), (2, .int (sI a2)), (3, .int (sI a152)), (4, .int (sI a153))] dX8_split_90 (by decide) rfl ?_
                have u189s := sp_t (f := gf) (n := gn) (M := M155) (s := a152) (i := a153) (t := a182) (g := 1) (by exact u160g) (by exact ⟨h156.2.2.1, (by omega)⟩) (by (clear ua184 la184 hM183 eM183 u177t hM176 eM176 h174 u170t u170m J195 ua162 la162 u160g h159 h158 h157 fM155 hM155 h156 ih150 u101z hret C hp2 hp1 hp0 ha2 hpr hM0; omega)) eM176 eM183 (by exact h181.2.2) (by (clear ua184 la184 hM183 eM183 u177t hM176 eM176 h174 u170t u170m h168 J195 h166 qa162 ua162 la162 ea162 u161p u160g h159 h158 h157 fM155 hM155 h156 ih150 u101z hret C hp2 hp1 hp0 ha2 hpr hM0; omega)) (by (clear h186 ua184 la184 ea184 hM183 eM183 u177t hM176 eM176 h174 u170t u170m h168 J195 h166 qa162 ua162 la162 ea162 u161p u160g h159 h158 h157 fM155 hM155 h156 ih150 u101z hret C hp2 hp1 hp0 ha2 hpr hM0; omega))
                have u189w : b01 (SPX gf gn M183 (a152 + 1) a175 1) = 1 := by rw [show a175 = teF gf gn a153 by omega]; exact u189s
                have u189t := tp_c (f := gf) (n := gn) (M := M155) (M' := M183) ((wc_x eM183 (by decide)).trans (wc_x eM176 (by decide))) (by exact h156.2.2.2.2.2.2.2.2.2.1)
                refine y_iinc C 5 [(3, .int (sI (a152 + 1))), (5, .int (sI 1)), (6, .int (sI a175)), (0, .ref (ad 78)), (1, .ref (ad 1)), (2, .int (sI a2)), (4, .int (sI a153))] dX8_split_92 rfl (by decide) rfl ?_
                refine j_lv [3, 4, 5, 0, 6, 1, 2] rfl ?_; exact J195 (a152 + 1) 1 a175 M183 (by exact ⟨(by (clear u189s h186 u185v ua184 la184 ea184 hM183 eM183 h181 u177t hM176 eM176 u170t u170m h168 J195 h166 qa162 ua162 la162 ea162 u161p u160g h159 h158 h157 fM155 hM155 ih150 u101z hret C hp2 hp1 ha2 hpr hM0; omega)), ⟨(by (clear u189s h186 u185v ua184 la184 ea184 hM183 eM183 h181 u177t hM176 eM176 u170t u170m h168 J195 h166 qa162 ua162 la162 ea162 u161p u160g h159 h158 h157 fM155 hM155 ih150 u101z hret C hp2 hp1 ha2 hpr hM0; omega)), ⟨(by decide), ⟨(by decide), ⟨h174.1, ⟨h174.2.1, ⟨h174.2.2.1.1, ⟨h174.2.2.1.2, ⟨(by (clear u189s h186 u185v ua184 la184 ea184 hM183 eM183 h181 u177t hM176 eM176 u170t u170m h168 J195 h166 qa162 ua162 la162 ea162 u161p u160g h159 h158 h157 fM155 hM155 ih150 u101z hret C hp2 hp1 ha2 hpr hM0; omega)), ⟨u189w, u189t⟩⟩⟩⟩⟩⟩⟩⟩⟩⟩) hM183 (((FR.rf.tr fM155 (by decide)).wI eM176 (by decide)).wI eM183 (by decide))
  refine j_lv [3, 4, 5, 2, 1, 0] rfl ?_; exact L151 2010 0 0 1 M0 (by exact ⟨(by decide), ⟨(by decide), ⟨(by decide), ⟨(by decide), ⟨(by decide), ⟨(by decide), ⟨(by decide), ⟨hp2.1, ⟨u101z, ⟨hp1, (by decide)⟩⟩⟩⟩⟩⟩⟩⟩⟩⟩) hM0 FR.rf
set_option maxHeartbeats 4000000 in
theorem s1_X8_token {l : Launch} {dC : Nat → ClassId} {dI : Nat → Nat → Nat} {ad : Nat → Nat} {cA : Nat → ClassId} {pr : Nat → Nat → Bool} {Kz : mm_M} {M0 : mm_M} (hM0 : INV pr Kz M0) (gf : Nat → Int) (gn : Int) (gi : Int) (hp0 : b01 (TKX gf gn M0) = 1) (hp1 : b01 (PO gn gi (M0.1 78 5).toInt (psX M0)) = 1) : Ci l 0 yX8_token wsX8_token dC dI ad cA [.ref (ad 78)] M0 (fun r M' => ∃ a : Int, r = sI a ∧ M0 = M' ∧ (-2147483648) ≤ a ∧ a ≤ 2147483647 ∧ (a = tkF gf gn (psX M0))) := by
  refine ci_of (cc := cX8_token) (maxL := 1) (ty := .int) (lv := [(0, .ref (ad 78))]) (by decide) rfl (fun r M' hp => rfl) (Nat.le_of_ble_eq_true rfl) rfl ?_
  intro p e s m args below meth c A Q C hret
  have u101b := tkx_b (f := gf) (n := gn) (M := M0) (by exact hp0)
  refine j_aload_n C 0 0 dX8_token_0 rfl rfl ?_
  refine y_getI C 7 _ _ fX8_token_18 rfl rfl ft_7_2 sb_7_2 hM0 dX8_token_1 (fun a102 ea102 la102 ua102 => ?_)
  refine j_aload_n C 0 0 dX8_token_4 rfl rfl ?_
  refine y_getC C 7 79 fX8_token_9 rfl rfl ft_7_0 sm_7_0 rfl hM0 dX8_token_5 ?_
  refine y_alen C 31 901 rfl rfl rfl an_31 rfl rfl dX8_token_8 ?_
  refine y_icmp_ge C 24 dX8_token_9 (by decide) (by exact ⟨⟨(by (clear ua102 la102 hret C hp1 hp0 hM0; omega)), (by (clear ua102 la102 hret C hp1 hp0 hM0; omega))⟩, ⟨(by decide), (by decide)⟩⟩) (fun h104 => ?_) (fun h104 => ?_)
  · refine y_sipush C dX8_token_24 rfl ?_
    exact hret _ _ _ _ dX8_token_27 ⟨3001, rfl, rfl, by exact ⟨(by decide), ⟨(by decide), (by omega)⟩⟩⟩
  · refine j_aload_n C 0 0 dX8_token_12 rfl rfl ?_
    refine y_getC C 7 79 fX8_token_9 rfl rfl ft_7_0 sm_7_0 rfl hM0 dX8_token_13 ?_
    refine j_aload_n C 0 0 dX8_token_16 rfl rfl ?_
    refine y_getI C 7 _ _ fX8_token_18 rfl rfl ft_7_2 sb_7_2 hM0 dX8_token_17 (fun a105 ea105 la105 ua105 => ?_)
    have u107t := tkx_t (f := gf) (n := gn) (M := M0) (a := a105) (by exact hp0) (by exact ea105)
    refine y_iald C 31 901 _ _ rfl rfl rfl ak_31 an_31 rfl (sb_31 _) hM0 dX8_token_20 (by exact ⟨la105, (by (clear u107t ua105 la105 h104 ua102 la102 hret C hp1 hp0 hM0; omega))⟩) (fun a108 ea108 la108 ua108 => ?_)
    refine j_goto C 27 dX8_token_21 (by decide) ?_
    exact hret _ _ _ _ dX8_token_27 ⟨a108, rfl, rfl, by exact ⟨la108, ⟨ua108, (by (clear ua105 la105 ea105 h104 ua102 la102 ea102 u101b hret C hp1 hp0 hM0; omega))⟩⟩⟩
set_option maxHeartbeats 4000000 in
theorem s1_X8_fail {l : Launch} {dC : Nat → ClassId} {dI : Nat → Nat → Nat} {ad : Nat → Nat} {cA : Nat → ClassId} {pr : Nat → Nat → Bool} {Kz : mm_M} {M0 : mm_M} (hM0 : INV pr Kz M0) (hpr : PX pr) (a1 : Int) (ha1 : -2147483648 ≤ a1 ∧ a1 ≤ 2147483647) (gf : Nat → Int) (gn : Int) (gi : Int) (hp0 : 1 ≤ a1 ∧ a1 ≤ 4) (hp1 : b01 (TKX gf gn M0) = 1) (hp2 : b01 (PO gn gi (M0.1 78 5).toInt (psX M0)) = 1) : Cv l 0 yX8_fail wsX8_fail dC dI ad cA [.ref (ad 78), .int (sI a1)] M0 (fun M' => INV pr Kz M' ∧ FR [78] M0 M' ∧ (1 ≤ (M'.1 78 5).toInt) ∧ (psX M' = psX M0) ∧ ((M'.1 78 2).toInt = (M0.1 78 2).toInt) ∧ (b01 (TKX gf gn M') = 1) ∧ b01 (RR ((faQ gf gn a1) gi) (M0.1 78 5).toInt (M0.1 78 6).toInt (M'.1 78 5).toInt (M'.1 78 6).toInt (psX M')) = 1 ∧ (b01 (RFX M0 M') = 1)) := by
  refine cv_of (cc := cX8_fail) (maxL := 2) (lv := [(0, .ref (ad 78)), (1, .int (sI a1))]) (by decide) rfl (Nat.le_of_ble_eq_true rfl) rfl ?_
  intro p e s m args below meth c A Q C hret
  have u101b := tkx_b (f := gf) (n := gn) (M := M0) (by exact hp1)
  have u101c := tk_c gf gn (psX M0) gi
  have u101f := flP_s gf gn gi a1
  have u101e := po_e (n := gn) (i := gi) (a := (M0.1 78 5).toInt) (p := psX M0) (by exact hp2)
  refine j_aload_n C 0 0 dX8_fail_0 rfl rfl ?_
  refine y_getI C 7 _ _ fX8_fail_22 rfl rfl ft_7_5 sb_7_5 hM0 dX8_fail_1 (fun a102 ea102 la102 ua102 => ?_)
  refine y_if_ne C 56 dX8_fail_4 (by decide) (by (clear u101e u101f u101c u101b hret C hp2 hp1 hp0 ha1 hpr hM0; omega)) (fun h104 => ?_) (fun h104 => ?_)
  · have u1051 : (faQ gf gn a1 gi).1 = flP gf gn gi a1 := rfl
    have u1052 : (faQ gf gn a1 gi).2.1 = gi := rfl
    have u105r : b01 (RR (faQ gf gn a1 gi) (M0.1 78 5).toInt (M0.1 78 6).toInt (M0.1 78 5).toInt (M0.1 78 6).toInt (psX M0)) = 1 := b01_i (by unfold RR; (clear u1052 u1051 u101e u101f u101c u101b hret C hp2 hp1 hp0 ha1 hpr hM0; omega))
    have zr := (rfx_r M0); exact hret _ _ _ dX8_fail_56 ⟨hM0, FR.rf, by (clear u1052 u1051 u101e u101f u101c u101b hret C hp2 hp0 ha1 hpr hM0; omega)⟩
  · refine j_aload_n C 0 0 dX8_fail_7 rfl rfl ?_
    refine y_getI C 7 _ _ fX8_fail_18 rfl rfl ft_7_2 sb_7_2 hM0 dX8_fail_8 (fun a106 ea106 la106 ua106 => ?_)
    refine j_aload_n C 0 0 dX8_fail_11 rfl rfl ?_
    refine y_getC C 7 79 fX8_fail_9 rfl rfl ft_7_0 sm_7_0 rfl hM0 dX8_fail_12 ?_
    refine y_alen C 31 901 rfl rfl rfl an_31 rfl rfl dX8_fail_15 ?_
    refine y_icmp_ge C 56 dX8_fail_16 (by decide) (by exact ⟨⟨(by (clear ua106 la106 h104 ua102 la102 ea102 u101e u101f u101c hret C hp2 hp1 hp0 ha1 hpr hM0; omega)), (by (clear ua106 la106 h104 ua102 la102 ea102 u101e u101f u101c hret C hp2 hp1 hp0 ha1 hpr hM0; omega))⟩, ⟨(by decide), (by decide)⟩⟩) (fun h108 => ?_) (fun h108 => ?_)
    · have u1091 : (faQ gf gn a1 gi).1 = flP gf gn gi a1 := rfl
      have u1092 : (faQ gf gn a1 gi).2.1 = gi := rfl
      have u109r : b01 (RR (faQ gf gn a1 gi) (M0.1 78 5).toInt (M0.1 78 6).toInt (M0.1 78 5).toInt (M0.1 78 6).toInt (psX M0)) = 1 := b01_i (by unfold RR; omega)
      have zr := (rfx_r M0); exact hret _ _ _ dX8_fail_56 ⟨hM0, FR.rf, by omega⟩
    · refine j_aload_n C 0 0 dX8_fail_19 rfl rfl ?_
      refine j_aload_n C 0 0 dX8_fail_20 rfl rfl ?_
      refine y_getC C 7 79 fX8_fail_9 rfl rfl ft_7_0 sm_7_0 rfl hM0 dX8_fail_21 ?_
      refine j_aload_n C 0 0 dX8_fail_24 rfl rfl ?_
      refine y_getI C 7 _ _ fX8_fail_18 rfl rfl ft_7_2 sb_7_2 hM0 dX8_fail_25 (fun a110 ea110 la110 ua110 => ?_)
      have u112t := tkx_t (f := gf) (n := gn) (M := M0) (a := a110) (by exact hp1) (by exact ea110)
      refine y_iald C 31 901 _ _ rfl rfl rfl ak_31 an_31 rfl (sb_31 _) hM0 dX8_fail_28 (by exact ⟨la110, (by (clear u112t ua110 la110 h108 ua106 la106 h104 ua102 la102 ea102 u101e u101f u101c hret C hp2 hp1 hp0 ha1 hpr hM0; omega))⟩) (fun a113 ea113 la113 ua113 => ?_)
      refine y_sipush C dX8_fail_29 rfl ?_
      refine y_icmp_ne C 39 dX8_fail_32 (by decide) (by exact ⟨⟨la113, ua113⟩, ⟨(by decide), (by decide)⟩⟩) (fun h114 => ?_) (fun h114 => ?_)
      · refine j_iload_n C 1 1 dX8_fail_39 rfl rfl ?_
        refine y_putI C 7 _ _ qX8_fail_22 rfl rfl ft_7_5 sb_7_5 hM0 (PX.w hpr rfl rfl) dX8_fail_40 (by exact ⟨⟨ha1.1, ha1.2⟩, ⟨(by (clear h114 ua113 la113 ea113 u112t ua110 la110 ea110 h108 ua106 la106 ea106 h104 ua102 la102 ea102 u101e u101f u101c u101b hret C hp2 hp1 hpr hM0; omega)), hp0.2⟩⟩) (fun M115 eM115 hM115 => ?_)
        have xM115 := tkx_f (f := gf) (n := gn) eM115 (by exact ⟨ha1.1, ha1.2⟩) (by exact hp1)
        have dM115 := cs_w hM0 (c := 7) rfl eM115 (by decide)
        have gM115 : (M115.1 78 2).toInt = (M0.1 78 2).toInt := s_fb eM115 (by decide) rfl
        refine j_aload_n C 0 0 dX8_fail_43 rfl rfl ?_
        refine j_aload_n C 0 0 dX8_fail_44 rfl rfl ?_
        refine y_getC C 7 80 fX8_fail_15 rfl rfl ft_7_1 sm_7_1 rfl hM115 dX8_fail_45 ?_
        refine j_aload_n C 0 0 dX8_fail_48 rfl rfl ?_
        refine y_getI C 7 _ _ fX8_fail_18 rfl rfl ft_7_2 sb_7_2 hM115 dX8_fail_49 (fun a116 ea116 la116 ua116 => ?_)
        have qa116 : a116 = a106 := (s_fb eM115 (by decide) (ea116)).trans ea106.symm
        have u118t := tkx_t (f := gf) (n := gn) (M := M115) (a := a116) (by exact xM115.1) (by exact ea116)
        refine y_iald C 32 901 _ _ rfl rfl rfl ak_32 an_32 rfl (sb_32 _) hM115 dX8_fail_52 (by exact ⟨la116, (by (clear u118t qa116 ua116 la116 dM115 xM115 hM115 eM115 h114 ua113 la113 ea113 u112t ua110 la110 h108 ua106 la106 h104 ua102 la102 ea102 u101e u101f u101c hret C hp2 hp1 hp0 ha1 hpr hM0; omega))⟩) (fun a119 ea119 la119 ua119 => ?_)
        refine y_putIF C 7 qX8_fail_25 rfl rfl ft_7_6 sb_7_6 hM115 (PX.w hpr rfl rfl) dX8_fail_53 (fun M120 eM120 hM120 => ?_)
        have xM120 := tkx_p (f := gf) (n := gn) eM120 (by exact ⟨la119, ua119⟩) (by exact xM115.1)
        have dM120 := cs_w hM115 (c := 7) rfl eM120 (by decide)
        have gM120 : (M120.1 78 2).toInt = (M115.1 78 2).toInt := s_fb eM120 (by decide) rfl
        have u1211 : (faQ gf gn a1 gi).1 = flP gf gn gi a1 := rfl
        have u1212 : (faQ gf gn a1 gi).2.1 = gi := rfl
        have u121r : b01 (RR (faQ gf gn a1 gi) (M0.1 78 5).toInt (M0.1 78 6).toInt (M120.1 78 5).toInt (M120.1 78 6).toInt (psX M120)) = 1 := b01_i (by unfold RR; (clear gM120 dM120 hM120 eM120 ua119 la119 qa116 ua116 la116 ea116 gM115 dM115 hM115 eM115 ua113 la113 ua110 la110 ea110 h108 ua106 la106 ea106 ua102 la102 u101b hret C hp2 hp1 ha1 hpr hM0; omega))
        have zz78_2 : (M120.1 78 2).toInt = (M0.1 78 2).toInt := s_fb eM115 (by decide) (s_fb eM120 (by decide) (rfl)); have zz78_5 := (Eq.trans (s_fb eM120 (by decide) (rfl) : (M120.1 78 5).toInt = (M115.1 78 5).toInt) (s_wr eM115 (by exact ⟨ha1.1, ha1.2⟩))); have zz78_6 := (Eq.trans (rfl : (M120.1 78 6).toInt = (M120.1 78 6).toInt) (s_wr eM120 (by exact ⟨la119, ua119⟩))); have zr := (rfx_i (rfx_i (rfx_r M0) eM115 (by decide)) eM120 (by decide)); exact hret _ _ _ dX8_fail_56 ⟨hM120, ((FR.rf.wI eM115 (by decide)).wI eM120 (by decide)), by exact ⟨(by (clear zz78_6 zz78_5 zz78_2 u1212 u1211 dM120 hM120 eM120 ua119 la119 qa116 ua116 la116 dM115 hM115 eM115 h114 ua113 la113 ea113 ua110 la110 h108 ua106 la106 h104 ua102 la102 ea102 u101e u101f u101c u101b hret C hp2 hp1 hpr hM0; omega)), ⟨(by (clear zz78_6 zz78_5 zz78_2 u1212 u1211 dM120 hM120 eM120 ua119 la119 qa116 ua116 la116 dM115 hM115 eM115 h114 ua113 la113 ea113 ua110 la110 h108 ua106 la106 h104 ua102 la102 ea102 u101e u101f u101c u101b hret C hp2 hp1 hpr hM0; omega)), ⟨zz78_2, ⟨xM120.1, ⟨u121r, zr⟩⟩⟩⟩⟩⟩
      · refine y_iconst C dX8_fail_35 ?_
        refine j_goto C 40 dX8_fail_36 (by decide) ?_
        refine y_putI C 7 _ _ qX8_fail_22 rfl rfl ft_7_5 sb_7_5 hM0 (PX.w hpr rfl rfl) dX8_fail_40 (by exact ⟨⟨(by decide), (by decide)⟩, ⟨(by decide), (by decide)⟩⟩) (fun M122 eM122 hM122 => ?_)
        have xM122 := tkx_f (f := gf) (n := gn) eM122 (by exact ⟨(by decide), (by decide)⟩) (by exact hp1)
        have dM122 := cs_w hM0 (c := 7) rfl eM122 (by decide)
        have gM122 : (M122.1 78 2).toInt = (M0.1 78 2).toInt := s_fb eM122 (by decide) rfl
        refine j_aload_n C 0 0 dX8_fail_43 rfl rfl ?_
        refine j_aload_n C 0 0 dX8_fail_44 rfl rfl ?_
        refine y_getC C 7 80 fX8_fail_15 rfl rfl ft_7_1 sm_7_1 rfl hM122 dX8_fail_45 ?_
        refine j_aload_n C 0 0 dX8_fail_48 rfl rfl ?_
        refine y_getI C 7 _ _ fX8_fail_18 rfl rfl ft_7_2 sb_7_2 hM122 dX8_fail_49 (fun a123 ea123 la123 ua123 => ?_)
        have qa123 : a123 = a106 := (s_fb eM122 (by decide) (ea123)).trans ea106.symm
        have u125t := tkx_t (f := gf) (n := gn) (M := M122) (a := a123) (by exact xM122.1) (by exact ea123)
        refine y_iald C 32 901 _ _ rfl rfl rfl ak_32 an_32 rfl (sb_32 _) hM122 dX8_fail_52 (by exact ⟨la123, (by omega)⟩) (fun a126 ea126 la126 ua126 => ?_)
        refine y_putIF C 7 qX8_fail_25 rfl rfl ft_7_6 sb_7_6 hM122 (PX.w hpr rfl rfl) dX8_fail_53 (fun M127 eM127 hM127 => ?_)
        have xM127 := tkx_p (f := gf) (n := gn) eM127 (by exact ⟨la126, ua126⟩) (by exact xM122.1)
        have dM127 := cs_w hM122 (c := 7) rfl eM127 (by decide)
        have gM127 : (M127.1 78 2).toInt = (M122.1 78 2).toInt := s_fb eM127 (by decide) rfl
        have u1281 : (faQ gf gn a1 gi).1 = flP gf gn gi a1 := rfl
        have u1282 : (faQ gf gn a1 gi).2.1 = gi := rfl
        have u128r : b01 (RR (faQ gf gn a1 gi) (M0.1 78 5).toInt (M0.1 78 6).toInt (M127.1 78 5).toInt (M127.1 78 6).toInt (psX M127)) = 1 := b01_i (by unfold RR; (clear gM127 dM127 hM127 eM127 ua126 la126 qa123 ua123 la123 ea123 gM122 dM122 hM122 eM122 ua113 la113 ua110 la110 ea110 h108 ua106 la106 ea106 ua102 la102 u101b hret C hp2 hp1 hpr hM0; omega))
        have zz78_2 : (M127.1 78 2).toInt = (M0.1 78 2).toInt := s_fb eM122 (by decide) (s_fb eM127 (by decide) (rfl)); have zz78_5 := (Eq.trans (s_fb eM127 (by decide) (rfl) : (M127.1 78 5).toInt = (M122.1 78 5).toInt) (s_wr eM122 (by exact ⟨(by decide), (by decide)⟩))); have zz78_6 := (Eq.trans (rfl : (M127.1 78 6).toInt = (M127.1 78 6).toInt) (s_wr eM127 (by exact ⟨la126, ua126⟩))); have zr := (rfx_i (rfx_i (rfx_r M0) eM122 (by decide)) eM127 (by decide)); exact hret _ _ _ dX8_fail_56 ⟨hM127, ((FR.rf.wI eM122 (by decide)).wI eM127 (by decide)), by exact ⟨(by (clear zz78_6 zz78_5 zz78_2 u1282 u1281 dM127 hM127 eM127 ua126 la126 qa123 ua123 la123 dM122 hM122 eM122 h114 ua113 la113 ea113 ua110 la110 h108 ua106 la106 h104 ua102 la102 ea102 u101e u101f u101c u101b hret C hp2 hp1 hp0 ha1 hpr hM0; omega)), ⟨(by (clear zz78_6 zz78_5 zz78_2 u1282 u1281 dM127 hM127 eM127 ua126 la126 qa123 ua123 la123 dM122 hM122 eM122 h114 ua113 la113 ea113 ua110 la110 h108 ua106 la106 h104 ua102 la102 ea102 u101e u101f u101c u101b hret C hp2 hp1 hp0 ha1 hpr hM0; omega)), ⟨zz78_2, ⟨xM127.1, ⟨u128r, zr⟩⟩⟩⟩⟩⟩
set_option maxHeartbeats 4000000 in
theorem s1_X8_expect {l : Launch} {dC : Nat → ClassId} {dI : Nat → Nat → Nat} {ad : Nat → Nat} {cA : Nat → ClassId} {pr : Nat → Nat → Bool} {Kz : mm_M} {M0 : mm_M} (hM0 : INV pr Kz M0) (hpr : PX pr) (a1 : Int) (ha1 : -2147483648 ≤ a1 ∧ a1 ≤ 2147483647) (gf : Nat → Int) (gn : Int) (gi : Int) (hp0 : ¬ a1 = 3001) (hp1 : ¬ a1 = 3000) (hp2 : b01 (TKX gf gn M0) = 1) (hp3 : b01 (PO gn gi (M0.1 78 5).toInt (psX M0)) = 1) : Cv l 1 yX8_expect wsX8_expect dC dI ad cA [.ref (ad 78), .int (sI a1)] M0 (fun M' => INV pr Kz M' ∧ FR [78] M0 M' ∧ ((M0.1 78 2).toInt ≤ (M'.1 78 2).toInt ∧ (M'.1 78 2).toInt ≤ (M0.1 78 2).toInt + 1) ∧ (b01 (TKX gf gn M') = 1) ∧ b01 (RR ((exP gf gn a1) gi) (M0.1 78 5).toInt (M0.1 78 6).toInt (M'.1 78 5).toInt (M'.1 78 6).toInt (psX M')) = 1 ∧ (b01 (RFX M0 M') = 1)) := by
  refine cv_of (cc := cX8_expect) (maxL := 2) (lv := [(0, .ref (ad 78)), (1, .int (sI a1))]) (by decide) rfl (Nat.le_of_ble_eq_true rfl) rfl ?_
  intro p e s m args below meth c A Q C hret
  have u101b := tkx_b (f := gf) (n := gn) (M := M0) (by exact hp2)
  refine j_aload_n C 0 0 dX8_expect_0 rfl rfl ?_
  refine y_getI C 7 _ _ fX8_expect_22 rfl rfl ft_7_5 sb_7_5 hM0 dX8_expect_1 (fun a102 ea102 la102 ua102 => ?_)
  refine y_if_eq C 8 dX8_expect_4 (by decide) (by omega) (fun h104 => ?_) (fun h104 => ?_)
  · refine j_aload_n C 0 0 dX8_expect_8 rfl rfl ?_
    refine j_callVi C (d := 0) (As := []) (st := []) 78 (s_lt rfl rfl) (s_kc (c := 7) rfl rfl) (by decide) rfl (s1_X8_token hM0 gf gn gi (by exact hp2) (by exact hp3)) gX8_expect_X8_token rfl hdX8_token (by decide) (Nat.le_of_ble_eq_true rfl) dX8_expect_9 rfl (fun r105 M106 h107 => ?_)
    obtain ⟨a109, rfl, rfl, h108⟩ := h107
    refine j_iload_n C 1 1 dX8_expect_12 rfl rfl ?_
    refine y_icmp_ne C 29 dX8_expect_13 (by decide) (by exact ⟨⟨h108.1, h108.2.1⟩, ⟨ha1.1, ha1.2⟩⟩) (fun h110 => ?_) (fun h110 => ?_)
    · refine j_aload_n C 0 0 dX8_expect_29 rfl rfl ?_
      refine y_iconst C dX8_expect_30 ?_
      refine j_callVv C (d := 0) (As := [.int (sI 2)]) (st := []) 78 (s_lt rfl rfl) (s_kc (c := 7) rfl rfl) (by decide) rfl (s1_X8_fail hM0 hpr 2 (by exact ⟨(by decide), (by decide)⟩) gf gn gi (by exact ⟨(by decide), (by decide)⟩) (by exact hp2) (by exact hp3)) gX8_expect_X8_fail rfl hdX8_fail (by decide) (Nat.le_of_ble_eq_true rfl) dX8_expect_31 rfl (fun M112 h113 => ?_)
      obtain ⟨hM112, fM112, h114⟩ := h113
      have bM112 := tkx_b (f := gf) (n := gn) (M := M112) (by exact h114.2.2.2.1)
      have qM112 := po_f gn ((faQ gf gn 2) gi).2.2 (M112.1 78 5).toInt (psX M112) (by omega)
      have dM112 := cs_f hM0 fM112
      have u115r := ex_2 gf gn a1 gi (M0.1 78 5).toInt (M0.1 78 6).toInt (psX M0) (M112.1 78 5).toInt (M112.1 78 6).toInt (psX M112) (by exact hp3) (by (clear dM112 qM112 bM112 h114 fM112 hM112 h104 ua102 la102 ea102 u101b hret C hp3 hp2 hp1 hp0 ha1 hpr hM0; omega)) (by exact h114.2.2.2.2.1)
      have zr := (rfx_F (rfx_r M0) fM112); exact hret _ _ _ dX8_expect_34 ⟨hM112, (FR.rf.tr fM112 (by decide)), by exact ⟨⟨(by (clear zr dM112 qM112 bM112 fM112 hM112 h110 h108 h104 ua102 la102 ea102 u101b hret C hp3 hp2 hp1 hp0 ha1 hpr hM0; omega)), (by (clear zr dM112 qM112 bM112 fM112 hM112 h110 h108 h104 ua102 la102 ea102 u101b hret C hp3 hp2 hp1 hp0 ha1 hpr hM0; omega))⟩, ⟨h114.2.2.2.1, ⟨u115r, h114.2.2.2.2.2⟩⟩⟩⟩
    · refine j_aload_n C 0 0 dX8_expect_16 rfl rfl ?_
      refine j_dup C dX8_expect_17 rfl ?_
      refine y_getI C 7 _ _ fX8_expect_18 rfl rfl ft_7_2 sb_7_2 hM0 dX8_expect_18 (fun a116 ea116 la116 ua116 => ?_)
      refine y_iconst C dX8_expect_21 ?_
      refine y_iadd C dX8_expect_22 ?_
      refine y_putI C 7 _ _ qX8_expect_18 rfl rfl ft_7_2 sb_7_2 hM0 (PX.w hpr rfl rfl) dX8_expect_23 (by (clear ua116 la116 h110 h108 h104 ua102 la102 ea102 hret C hp3 hp2 hp1 hp0 ha1 hpr hM0; omega)) (fun M118 eM118 hM118 => ?_)
      have xM118 := tkx_j (f := gf) (n := gn) (gi := gi) eM118 (by exact hp2) (by exact ea116) (by (clear hM118 eM118 ua116 la116 ea116 h104 ua102 la102 ea102 u101b hret C hp3 hp2 ha1 hpr hM0; omega)) (by exact hp3)
      have dM118 := cs_w hM0 (c := 7) rfl eM118 (by decide)
      have gM118 := s_wr eM118 (by (clear dM118 xM118 hM118 eM118 ua116 la116 h110 h108 h104 ua102 la102 ea102 hret C hp3 hp2 hp1 hp0 ha1 hpr hM0; omega))
      refine j_goto C 34 dX8_expect_26 (by decide) ?_
      have u119r := ex_1 gf gn a1 gi (M0.1 78 5).toInt (M0.1 78 6).toInt (psX M0) (M118.1 78 5).toInt (M118.1 78 6).toInt (psX M118) (by exact hp3) (by omega) (by (clear gM118 dM118 xM118 hM118 eM118 ua116 la116 ea116 h104 ua102 la102 ea102 u101b hret C hp3 hp2 hp1 hp0 ha1 hpr hM0; omega)) (by exact xM118.2.1) (by exact xM118.2.2.1) (by exact xM118.2.2.2)
      have zz78_2 := (Eq.trans (rfl : (M118.1 78 2).toInt = (M118.1 78 2).toInt) (s_wr eM118 (by (clear u119r dM118 xM118 hM118 eM118 ua116 la116 h110 h108 h104 ua102 la102 ea102 hret C hp3 hp2 hp1 hp0 ha1 hpr hM0; omega)))); have zz78_5 : (M118.1 78 5).toInt = (M0.1 78 5).toInt := s_fb eM118 (by decide) (rfl); have zz78_6 : (M118.1 78 6).toInt = (M0.1 78 6).toInt := s_fb eM118 (by decide) (rfl); have zr := (rfx_i (rfx_r M0) eM118 (by decide)); exact hret _ _ _ dX8_expect_34 ⟨hM118, (FR.rf.wI eM118 (by decide)), by exact ⟨⟨(by (clear zz78_6 zz78_5 zz78_2 dM118 hM118 eM118 ua116 la116 h110 h108 h104 ua102 la102 ea102 u101b hret C hp3 hp2 hp1 hp0 ha1 hpr hM0; omega)), (by (clear zz78_6 zz78_5 zz78_2 dM118 hM118 eM118 ua116 la116 h110 h108 h104 ua102 la102 ea102 u101b hret C hp3 hp2 hp1 hp0 ha1 hpr hM0; omega))⟩, ⟨xM118.1, ⟨u119r, zr⟩⟩⟩⟩
  · have u120r := rr_no (exP gf gn a1 gi) (M0.1 78 5).toInt (M0.1 78 6).toInt (M0.1 78 5).toInt (M0.1 78 6).toInt (psX M0) (by omega) rfl rfl
    have zr := (rfx_r M0); exact hret _ _ _ dX8_expect_7 ⟨hM0, FR.rf, by exact ⟨⟨(by (clear h104 ua102 la102 ea102 u101b hret C hp3 hp1 hp0 ha1 hpr hM0; omega)), (by (clear h104 ua102 la102 ea102 u101b hret C hp3 hp1 hp0 ha1 hpr hM0; omega))⟩, ⟨hp2, ⟨u120r, zr⟩⟩⟩⟩
set_option maxHeartbeats 4000000 in
theorem s1_X8_endLine {l : Launch} {dC : Nat → ClassId} {dI : Nat → Nat → Nat} {ad : Nat → Nat} {cA : Nat → ClassId} {pr : Nat → Nat → Bool} {Kz : mm_M} {M0 : mm_M} (hM0 : INV pr Kz M0) (hpr : PX pr) (hq6_1 : ∀ i, s_c i = 6 → pr i 1 = false) (gf : Nat → Int) (gn : Int) (gi : Int) (hp0 : 0 ≤ lnX M0 ∧ lnX M0 ≤ 2000) (hp1 : b01 (TKX gf gn M0) = 1) (hp2 : b01 (PO gn gi (M0.1 78 5).toInt (psX M0)) = 1) : Cv l 2 yX8_endLine wsX8_endLine dC dI ad cA [.ref (ad 78)] M0 (fun M' => INV pr Kz M' ∧ (kiX M' = kiX M0 ∧ byX M' = byX M0 ∧ lnX M' = lnX M0 + 1) ∧ (csX M' = csX M0) ∧ ((M0.1 78 2).toInt ≤ (M'.1 78 2).toInt) ∧ (b01 (CT AGY (M'.1 78 5).toInt M0 M' (fun T => uT T 0 (T 0 + 1))) = 1) ∧ (b01 (TKX gf gn M') = 1) ∧ b01 (RR ((exP gf gn 2059) gi) (M0.1 78 5).toInt (M0.1 78 6).toInt (M'.1 78 5).toInt (M'.1 78 6).toInt (psX M')) = 1 ∧ (b01 (RFX M0 M') = 1)) := by
  refine cv_of (cc := cX8_endLine) (maxL := 1) (lv := [(0, .ref (ad 78))]) (by decide) rfl (Nat.le_of_ble_eq_true rfl) rfl ?_
  intro p e s m args below meth c A Q C hret
  refine j_aload_n C 0 0 dX8_endLine_0 rfl rfl ?_
  refine y_sipush C dX8_endLine_1 rfl ?_
  refine j_callVv C (d := 1) (As := [.int (sI 2059)]) (st := []) 78 (s_lt rfl rfl) (s_kc (c := 7) rfl rfl) (by decide) rfl (s1_X8_expect hM0 hpr 2059 (by exact ⟨(by decide), (by decide)⟩) gf gn gi (by exact (by decide)) (by exact (by decide)) (by exact hp1) (by exact hp2)) gX8_endLine_X8_expect rfl hdX8_expect (by decide) (Nat.le_of_ble_eq_true rfl) dX8_endLine_4 rfl (fun M102 h103 => ?_)
  obtain ⟨hM102, fM102, h104⟩ := h103
  have bM102 := tkx_b (f := gf) (n := gn) (M := M102) (by exact h104.2.1)
  have qM102 := po_rr (exP gf gn 2059) gn gi (M0.1 78 5).toInt (M0.1 78 6).toInt (psX M0) (M102.1 78 5).toInt (M102.1 78 6).toInt (psX M102) (ex_g gf gn 2059 (by exact (by decide))) (by exact hp2) (by exact h104.2.2.1)
  have dM102 := cs_f hM0 fM102
  have cM102 := cn_f hM0 fM102
  refine j_aload_n C 0 0 dX8_endLine_7 rfl rfl ?_
  refine y_getM C 7 6 fX8_endLine_28 rfl rfl ft_7_3 sm_7_3 (by decide) hM102 dX8_endLine_8 (fun v105 ev105 cv105 => ?_)
  refine j_dup C dX8_endLine_11 rfl ?_
  refine y_getI C 6 _ _ fX8_endLine_84 cv105 rfl ft_6_1 sb_6_1 hM102 dX8_endLine_12 (fun a106 ea106 la106 ua106 => ?_)
  have qa106 : a106 = (M0.1 v105 1).toInt := s_fF fM102 (s_nin cv105 (by decide)) (ea106)
  have u108r := ln_r (ev105)
  have u109 : 0 ≤ a106 ∧ a106 ≤ 2000 := by (clear ua106 la106 cv105 ev105 dM102 qM102 bM102 h104 fM102 hM102 hret C hp2 hp1 hq6_1 hpr hM0; omega)
  refine y_iconst C dX8_endLine_15 ?_
  refine y_iadd C dX8_endLine_16 ?_
  refine y_putIF C 6 qX8_endLine_84 cv105 rfl ft_6_1 sb_6_1 hM102 (hq6_1 _ cv105) dX8_endLine_17 (fun M110 eM110 hM110 => ?_)
  have xM110 := tkx_w (f := gf) (n := gn) eM110 (s_ne (c := 31) (d := 6) rfl cv105 (by decide)) (s_ne (c := 32) (d := 6) rfl cv105 (by decide)) (s_ne (c := 7) (d := 6) rfl cv105 (by decide)) (by exact h104.2.1)
  have qM110 := po_eq gn ((exP gf gn 2059) gi).2.2 (M102.1 78 5).toInt (psX M102) (M110.1 78 5).toInt (psX M110) (by exact qM102) (by exact xM110.2.2.1) (by exact xM110.2.1)
  have dM110 := cs_w hM102 (c := 6) cv105 eM110 (by decide)
  have gM110 : (M110.1 78 2).toInt = (M102.1 78 2).toInt := by rw [wc_x eM110 (s_ne (c := 7) (d := 6) rfl cv105 (by decide))]
  have cM110 := cn_l hM102 (ev105) eM110 (by (clear gM110 dM110 qM110 xM110 hM110 eM110 u109 ua106 la106 cv105 ev105 dM102 qM102 bM102 h104 fM102 hM102 hret C hp2 hp1 hq6_1 hpr hM0; omega))
  have u111r := rr_eq (exP gf gn 2059 gi) (M0.1 78 5).toInt (M0.1 78 6).toInt (M102.1 78 5).toInt (M102.1 78 6).toInt (psX M102) (M110.1 78 5).toInt (M110.1 78 6).toInt (psX M110) (by exact h104.2.2.1) (by exact xM110.2.2.1) (by exact xM110.2.2.2) (by exact xM110.2.1)
  have u111t := ln_x (a := (M110.1 78 5).toInt) (x := (a106 + 1)) (p := v105) (M := M0) (M1 := M102) (N := M110) (fun q T h => (agc_F fM102 q T h)) (ev105) eM110 (by (clear u111r gM110 dM110 qM110 xM110 hM110 eM110 u109 ua106 la106 cv105 ev105 dM102 qM102 bM102 h104 fM102 hM102 hret C hp2 hp1 hq6_1 hpr hM0; omega))
  have zz78_2 : (M110.1 78 2).toInt = (M102.1 78 2).toInt := s_fb eM110 (by decide) (rfl); have zz78_5 : (M110.1 78 5).toInt = (M102.1 78 5).toInt := s_fb eM110 (by decide) (rfl); have zz78_6 : (M110.1 78 6).toInt = (M102.1 78 6).toInt := s_fb eM110 (by decide) (rfl); have zr := (rfx_p (c := v105) (rfx_F (rfx_r M0) fM102) eM110 (ev105) (by simp)); exact hret _ _ _ dX8_endLine_20 ⟨hM110, by exact ⟨⟨(by (clear zz78_6 zz78_5 zz78_2 qM110 hM110 eM110 u109 ua106 la106 cv105 ev105 qM102 bM102 fM102 hM102 hret C hp2 hp1 hp0 hq6_1 hpr hM0; omega)), ⟨(by (clear zz78_6 zz78_5 zz78_2 qM110 hM110 eM110 u109 ua106 la106 cv105 ev105 qM102 bM102 fM102 hM102 hret C hp2 hp1 hp0 hq6_1 hpr hM0; omega)), (by (clear zz78_6 zz78_5 zz78_2 qM110 hM110 eM110 u109 ua106 la106 cv105 ev105 qM102 bM102 fM102 hM102 hret C hp2 hp1 hp0 hq6_1 hpr hM0; omega))⟩⟩, ⟨(by (clear zz78_6 zz78_5 zz78_2 qM110 hM110 eM110 u109 ua106 la106 cv105 ev105 qM102 bM102 fM102 hM102 hret C hp2 hp1 hp0 hq6_1 hpr hM0; omega)), ⟨(by (clear zz78_6 zz78_5 zz78_2 qM110 hM110 eM110 u109 ua106 la106 cv105 ev105 qM102 bM102 fM102 hM102 hret C hp2 hp1 hp0 hq6_1 hpr hM0; omega)), ⟨u111t, ⟨xM110.1, ⟨u111r, zr⟩⟩⟩⟩⟩⟩⟩
set_option maxHeartbeats 4000000 in
theorem s1_X8_numberWithin {l : Launch} {dC : Nat → ClassId} {dI : Nat → Nat → Nat} {ad : Nat → Nat} {cA : Nat → ClassId} {pr : Nat → Nat → Bool} {Kz : mm_M} {M0 : mm_M} (hM0 : INV pr Kz M0) (hpr : PX pr) (a1 : Int) (ha1 : -2147483648 ≤ a1 ∧ a1 ≤ 2147483647) (a2 : Int) (ha2 : -2147483648 ≤ a2 ∧ a2 ≤ 2147483647) (gf : Nat → Int) (gn : Int) (gi : Int) (hp0 : 0 ≤ a1) (hp1 : a2 ≤ 999) (hp2 : b01 (TKX gf gn M0) = 1) (hp3 : b01 (PO gn gi (M0.1 78 5).toInt (psX M0)) = 1) : Ci l 1 yX8_numberWithin wsX8_numberWithin dC dI ad cA [.ref (ad 78), .int (sI a1), .int (sI a2)] M0 (fun r M' => ∃ a : Int, r = sI a ∧ INV pr Kz M' ∧ FR [78] M0 M' ∧ (-2147483648) ≤ a ∧ a ≤ 2147483647 ∧ ((M0.1 78 2).toInt ≤ (M'.1 78 2).toInt ∧ (M'.1 78 2).toInt ≤ (M0.1 78 2).toInt + 1) ∧ (¬ (M'.1 78 5).toInt = 0 ∨ a = tkF gf gn gi) ∧ (b01 (TKX gf gn M') = 1) ∧ b01 (RR ((nuP gf gn a1 a2) gi) (M0.1 78 5).toInt (M0.1 78 6).toInt (M'.1 78 5).toInt (M'.1 78 6).toInt (psX M')) = 1 ∧ (b01 (RFX M0 M') = 1)) := by
  refine ci_of (cc := cX8_numberWithin) (maxL := 4) (ty := .int) (lv := [(0, .ref (ad 78)), (1, .int (sI a1)), (2, .int (sI a2))]) (by decide) rfl (fun r M' hp => rfl) (Nat.le_of_ble_eq_true rfl) rfl ?_
  intro p e s m args below meth c A Q C hret
  have u101b := tkx_b (f := gf) (n := gn) (M := M0) (by exact hp2)
  have u101p := po_e (n := gn) (i := gi) (a := (M0.1 78 5).toInt) (p := psX M0) (by exact hp3)
  have u101c := tk_c gf gn (psX M0) gi
  refine j_aload_n C 0 0 dX8_numberWithin_0 rfl rfl ?_
  refine j_callVi C (d := 0) (As := []) (st := []) 78 (s_lt rfl rfl) (s_kc (c := 7) rfl rfl) (by decide) rfl (s1_X8_token hM0 gf gn gi (by exact hp2) (by exact hp3)) gX8_numberWithin_X8_token rfl hdX8_token (by decide) (Nat.le_of_ble_eq_true rfl) dX8_numberWithin_1 rfl (fun r102 M103 h104 => ?_)
  obtain ⟨a106, rfl, rfl, h105⟩ := h104
  refine j_istore_n C 3 [(3, .int (sI a106)), (0, .ref (ad 78)), (1, .int (sI a1)), (2, .int (sI a2))] dX8_numberWithin_4 rfl (by decide) rfl ?_
  refine j_aload_n C 1 0 dX8_numberWithin_5 rfl rfl ?_
  refine y_getI C 7 _ _ fX8_numberWithin_22 rfl rfl ft_7_5 sb_7_5 hM0 dX8_numberWithin_6 (fun a107 ea107 la107 ua107 => ?_)
  refine y_if_eq C 14 dX8_numberWithin_9 (by decide) (by (clear h105 u101c u101p u101b hret C hp3 hp2 hp1 hp0 ha2 ha1 hpr hM0; omega)) (fun h109 => ?_) (fun h109 => ?_)
  · refine j_iload_n C 0 3 dX8_numberWithin_14 rfl rfl ?_
    refine y_sipush C dX8_numberWithin_15 rfl ?_
    refine y_icmp_lt C 29 dX8_numberWithin_18 (by decide) (by exact ⟨⟨h105.1, h105.2.1⟩, ⟨(by decide), (by decide)⟩⟩) (fun h110 => ?_) (fun h110 => ?_)
    · refine j_iload_n C 0 3 dX8_numberWithin_29 rfl rfl ?_
      refine j_iload_n C 2 1 dX8_numberWithin_30 rfl rfl ?_
      refine y_icmp_lt C 39 dX8_numberWithin_31 (by decide) (by exact ⟨⟨h105.1, h105.2.1⟩, ⟨ha1.1, ha1.2⟩⟩) (fun h111 => ?_) (fun h111 => ?_)
      · refine j_aload_n C 1 0 dX8_numberWithin_39 rfl rfl ?_
        refine y_iconst C dX8_numberWithin_40 ?_
        refine j_callVv C (d := 0) (As := [.int (sI 3)]) (st := []) 78 (s_lt rfl rfl) (s_kc (c := 7) rfl rfl) (by decide) rfl (s1_X8_fail hM0 hpr 3 (by exact ⟨(by decide), (by decide)⟩) gf gn gi (by exact ⟨(by decide), (by decide)⟩) (by exact hp2) (by exact hp3)) gX8_numberWithin_X8_fail rfl hdX8_fail (by decide) (Nat.le_of_ble_eq_true rfl) dX8_numberWithin_41 rfl (fun M113 h114 => ?_)
        obtain ⟨hM113, fM113, h115⟩ := h114
        have bM113 := tkx_b (f := gf) (n := gn) (M := M113) (by exact h115.2.2.2.1)
        have qM113 := po_f gn ((faQ gf gn 3) gi).2.2 (M113.1 78 5).toInt (psX M113) (by omega)
        have dM113 := cs_f hM0 fM113
        refine j_goto C 57 dX8_numberWithin_44 (by decide) ?_
        refine j_iload_n C 0 3 dX8_numberWithin_57 rfl rfl ?_
        have u116r := nu_3 gf gn a1 a2 gi (M0.1 78 5).toInt (M0.1 78 6).toInt (psX M0) (M113.1 78 5).toInt (M113.1 78 6).toInt (psX M113) (by exact hp3) (by (clear dM113 qM113 bM113 h115 fM113 hM113 h109 ua107 la107 ea107 u101c u101p u101b hret C hp3 hp2 hp1 hp0 ha2 ha1 hpr hM0; omega)) (by exact h115.2.2.2.2.1)
        have zr := (rfx_F (rfx_r M0) fM113); exact hret _ _ _ _ dX8_numberWithin_58 ⟨a106, rfl, hM113, (FR.rf.tr fM113 (by decide)), by exact ⟨h105.1, ⟨h105.2.1, ⟨⟨(by (clear zr dM113 qM113 bM113 fM113 hM113 h111 h109 ua107 la107 ea107 u101c u101p u101b hret C hp3 hp2 hp1 hp0 ha2 ha1 hpr hM0; omega)), (by (clear zr dM113 qM113 bM113 fM113 hM113 h111 h109 ua107 la107 ea107 u101c u101p u101b hret C hp3 hp2 hp1 hp0 ha2 ha1 hpr hM0; omega))⟩, ⟨(by (clear zr dM113 qM113 bM113 fM113 hM113 h111 h109 ua107 la107 ea107 u101c u101p u101b hret C hp3 hp2 hp1 hp0 ha2 ha1 hpr hM0; omega)), ⟨h115.2.2.2.1, ⟨u116r, h115.2.2.2.2.2⟩⟩⟩⟩⟩⟩⟩
      · refine j_iload_n C 0 3 dX8_numberWithin_34 rfl rfl ?_
        refine j_iload_n C 3 2 dX8_numberWithin_35 rfl rfl ?_
        refine y_icmp_le C 47 dX8_numberWithin_36 (by decide) (by exact ⟨⟨h105.1, h105.2.1⟩, ⟨ha2.1, ha2.2⟩⟩) (fun h117 => ?_) (fun h117 => ?_)
        · refine j_aload_n C 1 0 dX8_numberWithin_47 rfl rfl ?_
          refine j_dup C dX8_numberWithin_48 rfl ?_
          refine y_getI C 7 _ _ fX8_numberWithin_18 rfl rfl ft_7_2 sb_7_2 hM0 dX8_numberWithin_49 (fun a118 ea118 la118 ua118 => ?_)
          refine y_iconst C dX8_numberWithin_52 ?_
          refine y_iadd C dX8_numberWithin_53 ?_
          refine y_putI C 7 _ _ qX8_numberWithin_18 rfl rfl ft_7_2 sb_7_2 hM0 (PX.w hpr rfl rfl) dX8_numberWithin_54 (by (clear ua118 la118 h117 h111 h110 h109 ua107 la107 ea107 h105 u101c u101p hret C hp3 hp2 hp1 hp0 ha2 ha1 hpr hM0; omega)) (fun M120 eM120 hM120 => ?_)
          have xM120 := tkx_j (f := gf) (n := gn) (gi := gi) eM120 (by exact hp2) (by exact ea118) (by (clear hM120 eM120 ua118 la118 ea118 h117 h111 h109 ua107 la107 ea107 u101c u101p u101b hret C hp3 hp2 hp1 hp0 ha2 ha1 hpr hM0; omega)) (by exact hp3)
          have dM120 := cs_w hM0 (c := 7) rfl eM120 (by decide)
          have gM120 := s_wr eM120 (by (clear dM120 xM120 hM120 eM120 ua118 la118 h117 h111 h110 h109 ua107 la107 ea107 h105 u101c u101p hret C hp3 hp2 hp1 hp0 ha2 ha1 hpr hM0; omega))
          refine j_iload_n C 0 3 dX8_numberWithin_57 rfl rfl ?_
          have u121r := nu_1 gf gn a1 a2 gi (M0.1 78 5).toInt (M0.1 78 6).toInt (psX M0) (M120.1 78 5).toInt (M120.1 78 6).toInt (psX M120) (by exact hp3) (by (clear gM120 dM120 xM120 hM120 eM120 ua118 la118 ea118 h117 h111 h110 ua107 la107 h105 u101c u101p u101b hret C hp3 hp2 hp1 hp0 ha2 ha1 hpr hM0; omega)) (by (clear gM120 dM120 xM120 hM120 eM120 ua118 la118 ea118 h109 ua107 la107 ea107 u101c u101p u101b hret C hp3 hp2 hp1 hp0 ha2 ha1 hpr hM0; omega)) (by exact xM120.2.1) (by exact xM120.2.2.1) (by exact xM120.2.2.2)
          have zz78_2 := (Eq.trans (rfl : (M120.1 78 2).toInt = (M120.1 78 2).toInt) (s_wr eM120 (by (clear u121r dM120 xM120 hM120 eM120 ua118 la118 h117 h111 h110 h109 ua107 la107 ea107 h105 u101c u101p hret C hp3 hp2 hp1 hp0 ha2 ha1 hpr hM0; omega)))); have zz78_5 : (M120.1 78 5).toInt = (M0.1 78 5).toInt := s_fb eM120 (by decide) (rfl); have zz78_6 : (M120.1 78 6).toInt = (M0.1 78 6).toInt := s_fb eM120 (by decide) (rfl); have zr := (rfx_i (rfx_r M0) eM120 (by decide)); exact hret _ _ _ _ dX8_numberWithin_58 ⟨a106, rfl, hM120, (FR.rf.wI eM120 (by decide)), by exact ⟨h105.1, ⟨h105.2.1, ⟨⟨(by (clear zz78_6 zz78_5 zz78_2 dM120 hM120 eM120 ua118 la118 h117 h111 ua107 la107 u101b hret C hp3 hp2 hp1 hp0 ha2 ha1 hpr hM0; omega)), (by (clear zz78_6 zz78_5 zz78_2 dM120 hM120 eM120 ua118 la118 h117 h111 ua107 la107 u101b hret C hp3 hp2 hp1 hp0 ha2 ha1 hpr hM0; omega))⟩, ⟨(by (clear zz78_6 zz78_5 zz78_2 dM120 hM120 eM120 ua118 la118 h117 h111 ua107 la107 u101b hret C hp3 hp2 hp1 hp0 ha2 ha1 hpr hM0; omega)), ⟨xM120.1, ⟨u121r, zr⟩⟩⟩⟩⟩⟩⟩
        · refine j_aload_n C 1 0 dX8_numberWithin_39 rfl rfl ?_
          refine y_iconst C dX8_numberWithin_40 ?_
          refine j_callVv C (d := 0) (As := [.int (sI 3)]) (st := []) 78 (s_lt rfl rfl) (s_kc (c := 7) rfl rfl) (by decide) rfl (s1_X8_fail hM0 hpr 3 (by exact ⟨(by decide), (by decide)⟩) gf gn gi (by exact ⟨(by decide), (by decide)⟩) (by exact hp2) (by exact hp3)) gX8_numberWithin_X8_fail rfl hdX8_fail (by decide) (Nat.le_of_ble_eq_true rfl) dX8_numberWithin_41 rfl (fun M123 h124 => ?_)
          obtain ⟨hM123, fM123, h125⟩ := h124
          have bM123 := tkx_b (f := gf) (n := gn) (M := M123) (by exact h125.2.2.2.1)
          have qM123 := po_f gn ((faQ gf gn 3) gi).2.2 (M123.1 78 5).toInt (psX M123) (by omega)
          have dM123 := cs_f hM0 fM123
          refine j_goto C 57 dX8_numberWithin_44 (by decide) ?_
          refine j_iload_n C 0 3 dX8_numberWithin_57 rfl rfl ?_
          have u126r := nu_3 gf gn a1 a2 gi (M0.1 78 5).toInt (M0.1 78 6).toInt (psX M0) (M123.1 78 5).toInt (M123.1 78 6).toInt (psX M123) (by exact hp3) (by (clear dM123 qM123 bM123 h125 fM123 hM123 h111 h109 ua107 la107 ea107 u101c u101p u101b hret C hp3 hp2 hp1 hp0 ha2 ha1 hpr hM0; omega)) (by exact h125.2.2.2.2.1)
          have zr := (rfx_F (rfx_r M0) fM123); exact hret _ _ _ _ dX8_numberWithin_58 ⟨a106, rfl, hM123, (FR.rf.tr fM123 (by decide)), by exact ⟨h105.1, ⟨h105.2.1, ⟨⟨(by (clear zr dM123 qM123 bM123 fM123 hM123 h117 h111 h109 ua107 la107 ea107 u101c u101p u101b hret C hp3 hp2 hp1 hp0 ha2 ha1 hpr hM0; omega)), (by (clear zr dM123 qM123 bM123 fM123 hM123 h117 h111 h109 ua107 la107 ea107 u101c u101p u101b hret C hp3 hp2 hp1 hp0 ha2 ha1 hpr hM0; omega))⟩, ⟨(by (clear zr dM123 qM123 bM123 fM123 hM123 h117 h111 h109 ua107 la107 ea107 u101c u101p u101b hret C hp3 hp2 hp1 hp0 ha2 ha1 hpr hM0; omega)), ⟨h125.2.2.2.1, ⟨u126r, h125.2.2.2.2.2⟩⟩⟩⟩⟩⟩⟩
    · refine j_aload_n C 1 0 dX8_numberWithin_21 rfl rfl ?_
      refine y_iconst C dX8_numberWithin_22 ?_
      refine j_callVv C (d := 0) (As := [.int (sI 2)]) (st := []) 78 (s_lt rfl rfl) (s_kc (c := 7) rfl rfl) (by decide) rfl (s1_X8_fail hM0 hpr 2 (by exact ⟨(by decide), (by decide)⟩) gf gn gi (by exact ⟨(by decide), (by decide)⟩) (by exact hp2) (by exact hp3)) gX8_numberWithin_X8_fail rfl hdX8_fail (by decide) (Nat.le_of_ble_eq_true rfl) dX8_numberWithin_23 rfl (fun M128 h129 => ?_)
      obtain ⟨hM128, fM128, h130⟩ := h129
      have bM128 := tkx_b (f := gf) (n := gn) (M := M128) (by exact h130.2.2.2.1)
      have qM128 := po_f gn ((faQ gf gn 2) gi).2.2 (M128.1 78 5).toInt (psX M128) (by omega)
      have dM128 := cs_f hM0 fM128
      refine j_goto C 57 dX8_numberWithin_26 (by decide) ?_
      refine j_iload_n C 0 3 dX8_numberWithin_57 rfl rfl ?_
      have u131r := nu_2 gf gn a1 a2 gi (M0.1 78 5).toInt (M0.1 78 6).toInt (psX M0) (M128.1 78 5).toInt (M128.1 78 6).toInt (psX M128) (by exact hp3) (by (clear dM128 qM128 bM128 h130 fM128 hM128 h109 ua107 la107 ea107 u101c u101p u101b hret C hp3 hp2 hp1 hp0 ha2 ha1 hpr hM0; omega)) (by exact h130.2.2.2.2.1)
      have zr := (rfx_F (rfx_r M0) fM128); exact hret _ _ _ _ dX8_numberWithin_58 ⟨a106, rfl, hM128, (FR.rf.tr fM128 (by decide)), by exact ⟨h105.1, ⟨h105.2.1, ⟨⟨(by (clear zr dM128 qM128 bM128 fM128 hM128 h109 ua107 la107 ea107 u101c u101p u101b hret C hp3 hp2 hp1 hp0 ha2 ha1 hpr hM0; omega)), (by (clear zr dM128 qM128 bM128 fM128 hM128 h109 ua107 la107 ea107 u101c u101p u101b hret C hp3 hp2 hp1 hp0 ha2 ha1 hpr hM0; omega))⟩, ⟨(by (clear zr dM128 qM128 bM128 fM128 hM128 h109 ua107 la107 ea107 u101c u101p u101b hret C hp3 hp2 hp1 hp0 ha2 ha1 hpr hM0; omega)), ⟨h130.2.2.2.1, ⟨u131r, h130.2.2.2.2.2⟩⟩⟩⟩⟩⟩⟩
  · refine j_iload_n C 2 1 dX8_numberWithin_12 rfl rfl ?_
    have u132r := rr_no (nuP gf gn a1 a2 gi) (M0.1 78 5).toInt (M0.1 78 6).toInt (M0.1 78 5).toInt (M0.1 78 6).toInt (psX M0) (by (clear ua107 la107 h105 u101c u101p u101b hret C hp3 hp2 hp1 hp0 ha2 ha1 hpr hM0; omega)) rfl rfl
    have zr := (rfx_r M0); exact hret _ _ _ _ dX8_numberWithin_13 ⟨a1, rfl, hM0, FR.rf, by exact ⟨ha1.1, ⟨ha1.2, ⟨⟨(by (clear ua107 la107 h105 u101c u101p u101b hret C hp3 hp1 ha2 hpr hM0; omega)), (by (clear ua107 la107 h105 u101c u101p u101b hret C hp3 hp1 ha2 hpr hM0; omega))⟩, ⟨(by (clear ua107 la107 h105 u101c u101p u101b hret C hp3 hp1 ha2 hpr hM0; omega)), ⟨hp2, ⟨u132r, zr⟩⟩⟩⟩⟩⟩⟩
set_option maxHeartbeats 4000000 in
theorem s1_X8_takeFlag {l : Launch} {dC : Nat → ClassId} {dI : Nat → Nat → Nat} {ad : Nat → Nat} {cA : Nat → ClassId} {pr : Nat → Nat → Bool} {Kz : mm_M} {M0 : mm_M} (hM0 : INV pr Kz M0) (hpr : PX pr) (a1 : Int) (ha1 : -2147483648 ≤ a1 ∧ a1 ≤ 2147483647) (gf : Nat → Int) (gn : Int) (gi : Int) (hp0 : (M0.1 78 5).toInt = 0) (hp1 : 0 ≤ a1 ∧ a1 ≤ 7) (hp2 : b01 (TKX gf gn M0) = 1) (hp3 : b01 (PO gn gi (M0.1 78 5).toInt (psX M0)) = 1) : Ci l 2 yX8_takeFlag wsX8_takeFlag dC dI ad cA [.ref (ad 78), .int (sI a1)] M0 (fun r M' => ∃ a : Int, r = sI a ∧ INV pr Kz M' ∧ 0 ≤ a ∧ a ≤ 1 ∧ (kiX M' = kiX M0 ∧ byX M' = byX M0 ∧ lnX M' = lnX M0) ∧ (a = b01 (fgQ gf gn gi)) ∧ (csX M' = csX M0) ∧ ((M0.1 78 2).toInt ≤ (M'.1 78 2).toInt) ∧ (b01 (CT AGC (M'.1 78 5).toInt M0 M' (fgC gf gn a1 gi)) = 1) ∧ (b01 (TKX gf gn M') = 1) ∧ b01 (RR ((tfP gf gn) gi) (M0.1 78 5).toInt (M0.1 78 6).toInt (M'.1 78 5).toInt (M'.1 78 6).toInt (psX M')) = 1 ∧ (b01 (RFX M0 M') = 1)) := by
  refine ci_of (cc := cX8_takeFlag) (maxL := 3) (ty := .boolean) (lv := [(0, .ref (ad 78)), (1, .int (sI a1))]) (by decide) rfl (fun r M' hp => by obtain ⟨a, rfl, -, h⟩ := hp; rcases (show a = 0 ∨ a = 1 by (clear hp3 hp2 hp1 hp0 ha1 hpr hM0; omega)) with rfl | rfl <;> rfl) (Nat.le_of_ble_eq_true rfl) rfl ?_
  intro p e s m args below meth c A Q C hret
  have u101b := tkx_b (f := gf) (n := gn) (M := M0) (by exact hp2)
  refine j_aload_n C 0 0 dX8_takeFlag_0 rfl rfl ?_
  refine j_callVi C (d := 0) (As := []) (st := []) 78 (s_lt rfl rfl) (s_kc (c := 7) rfl rfl) (by decide) rfl (s1_X8_token hM0 gf gn gi (by exact hp2) (by exact hp3)) gX8_takeFlag_X8_token rfl hdX8_token (by decide) (Nat.le_of_ble_eq_true rfl) dX8_takeFlag_1 rfl (fun r102 M103 h104 => ?_)
  obtain ⟨a106, rfl, rfl, h105⟩ := h104
  refine j_istore_n C 2 [(2, .int (sI a106)), (0, .ref (ad 78)), (1, .int (sI a1))] dX8_takeFlag_4 rfl (by decide) rfl ?_
  refine j_iload_n C 0 2 dX8_takeFlag_5 rfl rfl ?_
  refine y_sipush C dX8_takeFlag_6 rfl ?_
  refine y_icmp_eq C 28 dX8_takeFlag_9 (by decide) (by exact ⟨⟨h105.1, h105.2.1⟩, ⟨(by decide), (by decide)⟩⟩) (fun h107 => ?_) (fun h107 => ?_)
  · refine j_aload_n C 1 0 dX8_takeFlag_28 rfl rfl ?_
    refine j_dup C dX8_takeFlag_29 rfl ?_
    refine y_getI C 7 _ _ fX8_takeFlag_18 rfl rfl ft_7_2 sb_7_2 hM0 dX8_takeFlag_30 (fun a108 ea108 la108 ua108 => ?_)
    refine y_iconst C dX8_takeFlag_33 ?_
    refine y_iadd C dX8_takeFlag_34 ?_
    refine y_putI C 7 _ _ qX8_takeFlag_18 rfl rfl ft_7_2 sb_7_2 hM0 (PX.w hpr rfl rfl) dX8_takeFlag_35 (by (clear ua108 la108 h107 h105 hret C hp3 hp2 hp1 hp0 ha1 hpr hM0; omega)) (fun M110 eM110 hM110 => ?_)
    have xM110 := tkx_j (f := gf) (n := gn) (gi := gi) eM110 (by exact hp2) (by exact ea108) (by omega) (by exact hp3)
    have dM110 := cs_w hM0 (c := 7) rfl eM110 (by decide)
    have gM110 := s_wr eM110 (by (clear dM110 xM110 hM110 eM110 ua108 la108 h107 h105 hret C hp3 hp2 hp1 hp0 ha1 hpr hM0; omega))
    have cM110 := cn_w hM0 (c := 7) rfl eM110 (by decide)
    refine j_iload_n C 0 2 dX8_takeFlag_38 rfl rfl ?_
    refine y_sipush C dX8_takeFlag_39 rfl ?_
    refine y_icmp_ne C 64 dX8_takeFlag_42 (by decide) (by exact ⟨⟨h105.1, h105.2.1⟩, ⟨(by decide), (by decide)⟩⟩) (fun h111 => ?_) (fun h111 => ?_)
    · exfalso; (clear cM110 gM110 dM110 xM110 hM110 eM110 ua108 la108 ea108 u101b hret C hp3 hp2 hp1 hp0 ha1 hpr hM0; omega)
    · refine j_aload_n C 1 0 dX8_takeFlag_45 rfl rfl ?_
      refine y_getM C 7 8 fX8_takeFlag_32 rfl rfl ft_7_4 sm_7_4 (by decide) hM110 dX8_takeFlag_46 (fun v112 ev112 cv112 => ?_)
      refine y_getTE C 8 26 fX8_takeFlag_123 cv112 rfl ft_8_2 rfl sm_8_2 st_8_2 (by decide) hM110 dX8_takeFlag_49 (fun cv113 => ?_)
      refine j_iload_n C 2 1 dX8_takeFlag_52 rfl rfl ?_
      refine j_aload_n C 1 0 dX8_takeFlag_53 rfl rfl ?_
      refine y_iconst C dX8_takeFlag_54 ?_
      refine y_bipush C dX8_takeFlag_55 rfl ?_
      refine j_callVi C (d := 1) (As := [.int (sI 0), .int (sI 9)]) (st := [.int (sI a1), .ref (ad (s_p0 v112 2))]) 78 (s_lt rfl rfl) (s_kc (c := 7) rfl rfl) (by decide) rfl (s1_X8_numberWithin hM110 hpr 0 (by exact ⟨(by decide), (by decide)⟩) 9 (by exact ⟨(by decide), (by decide)⟩) gf gn (nxF gf gn gi) (by exact (by decide)) (by exact (by decide)) (by exact xM110.1) (by exact xM110.2.2.2)) gX8_takeFlag_X8_numberWithin rfl hdX8_numberWithin (by decide) (Nat.le_of_ble_eq_true rfl) dX8_takeFlag_57 rfl (fun r114 M115 h116 => ?_)
      obtain ⟨a118, rfl, hM115, fM115, h117⟩ := h116
      have bM115 := tkx_b (f := gf) (n := gn) (M := M115) (by exact h117.2.2.2.2.1)
      have qM115 := po_rr (nuP gf gn 0 9) gn (nxF gf gn gi) (M110.1 78 5).toInt (M110.1 78 6).toInt (psX M110) (M115.1 78 5).toInt (M115.1 78 6).toInt (psX M115) (nu_g gf gn 0 9) (by exact xM110.2.2.2) (by exact h117.2.2.2.2.2.1)
      have dM115 := cs_f hM110 fM115
      have cM115 := cn_f hM110 fM115
      refine y_iastF C 26 8 cv113 rfl rfl ak_26 an_26 rfl (sb_26 _) hM115 (PX.w hpr cv113 rfl) dX8_takeFlag_60 (by exact ⟨hp1.1, (by omega)⟩) (fun M119 eM119 hM119 => ?_)
      have xM119 := tkx_w (f := gf) (n := gn) eM119 (s_ne (c := 31) (d := 26) rfl cv113 (by decide)) (s_ne (c := 32) (d := 26) rfl cv113 (by decide)) (s_ne (c := 7) (d := 26) rfl cv113 (by decide)) (by exact h117.2.2.2.2.1)
      have qM119 := po_eq gn ((nuP gf gn 0 9) (nxF gf gn gi)).2.2 (M115.1 78 5).toInt (psX M115) (M119.1 78 5).toInt (psX M119) (by exact qM115) (by exact xM119.2.2.1) (by exact xM119.2.1)
      have dM119 := cs_w hM115 (c := 26) cv113 eM119 (fun z => absurd z.1 (by decide))
      have gM119 : (M119.1 78 2).toInt = (M115.1 78 2).toInt := by rw [wc_x eM119 (s_ne (c := 7) (d := 26) rfl cv113 (by decide))]
      have cM119 := cn_w hM115 (c := 26) cv113 eM119 ⟨fun z => absurd z.1 (by decide), fun z => absurd z.1 (by decide), fun z => absurd z.1 (by decide)⟩
      refine j_goto C 104 dX8_takeFlag_61 (by decide) ?_
      refine y_iconst C dX8_takeFlag_104 ?_
      have u120q := tf_r1 gf gn gi (M0.1 78 5).toInt (psX M0) (by exact hp3) (by exact hp0) (by (clear cM119 gM119 dM119 qM119 xM119 hM119 eM119 cM115 dM115 qM115 bM115 h117 fM115 hM115 cv113 cv112 ev112 h111 cM110 gM110 dM110 xM110 hM110 eM110 ua108 la108 ea108 u101b hret C hp3 hp2 hp1 hp0 ha1 hpr hM0; omega))
      have u120r := tf_1 gf gn gi (M0.1 78 5).toInt (M0.1 78 6).toInt (psX M0) (M110.1 78 5).toInt (M110.1 78 6).toInt (M115.1 78 5).toInt (M115.1 78 6).toInt (psX M115) (M119.1 78 5).toInt (M119.1 78 6).toInt (psX M119) (by exact hp3) (by (clear u120q cM119 gM119 dM119 qM119 xM119 hM119 eM119 cM115 dM115 qM115 bM115 h117 fM115 hM115 cv113 cv112 ev112 h111 cM110 gM110 dM110 xM110 hM110 eM110 ua108 la108 ea108 u101b hret C hp3 hp2 hp1 hp0 ha1 hpr hM0; omega)) (by exact xM110.2.1) (by exact xM110.2.2.1) (by exact h117.2.2.2.2.2.1) (by exact xM119.2.2.1) (by exact xM119.2.2.2) (by exact xM119.2.1)
      have u120t := fgc_1 gf gn (a := (M119.1 78 5).toInt) (i := gi) (k := a1) (x := a118) (M := M0) (M2 := M115) (N := M119) (fun q T h => (agc_F fM115 q T (agc_78 eM110 q T h))) (agc_gr (v := v112) (k := a1) (x := a118) (s_pF fM115 (ev112)) eM119 (by exact ⟨h117.1, h117.2.1⟩) (by exact ⟨hp1.1, (by (clear u120r u120q cM119 gM119 dM119 qM119 xM119 hM119 eM119 cM115 dM115 qM115 bM115 h117 fM115 hM115 cv113 cv112 ev112 h111 cM110 gM110 dM110 xM110 hM110 eM110 ua108 la108 ea108 h107 h105 u101b hret C hp3 hp2 hp0 hpr hM0; omega))⟩)) (show b01 (PO gn gi (M0.1 78 5).toInt (psX M0)) = 1 by exact hp3) (by exact hp0) (by omega) (by (clear u120r u120q cM119 gM119 dM119 qM119 hM119 eM119 cM115 dM115 qM115 bM115 fM115 hM115 cv113 cv112 ev112 h111 cM110 gM110 dM110 xM110 hM110 eM110 ua108 la108 ea108 h107 h105 u101b hret C hp3 hp2 hp1 hp0 ha1 hpr hM0; omega))
      have zz78_2 : (M119.1 78 2).toInt = (M115.1 78 2).toInt := s_fa eM119 (s_ne (c := 7) (d := 26) rfl cv113 (by decide)) (rfl); have zz78_5 : (M119.1 78 5).toInt = (M115.1 78 5).toInt := s_fa eM119 (s_ne (c := 7) (d := 26) rfl cv113 (by decide)) (rfl); have zz78_6 : (M119.1 78 6).toInt = (M115.1 78 6).toInt := s_fa eM119 (s_ne (c := 7) (d := 26) rfl cv113 (by decide)) (rfl); have zr := (rfx_v (c := (s_p0 v112 2)) (rfx_F (rfx_i (rfx_r M0) eM110 (by decide)) fM115) eM119 (s_pF fM115 (ev112)) (by simp)); exact hret _ _ _ _ dX8_takeFlag_105 ⟨1, rfl, hM119, by exact ⟨(by decide), ⟨(by decide), ⟨⟨(by (clear zz78_6 zz78_5 zz78_2 qM119 hM119 eM119 qM115 bM115 fM115 hM115 cv113 cv112 ev112 h111 xM110 hM110 eM110 ua108 la108 h107 h105 u101b hret C hp3 hp2 hp1 hp0 ha1 hpr hM0; omega)), ⟨(by (clear zz78_6 zz78_5 zz78_2 qM119 hM119 eM119 qM115 bM115 fM115 hM115 cv113 cv112 ev112 h111 xM110 hM110 eM110 ua108 la108 h107 h105 u101b hret C hp3 hp2 hp1 hp0 ha1 hpr hM0; omega)), (by (clear zz78_6 zz78_5 zz78_2 qM119 hM119 eM119 qM115 bM115 fM115 hM115 cv113 cv112 ev112 h111 xM110 hM110 eM110 ua108 la108 h107 h105 u101b hret C hp3 hp2 hp1 hp0 ha1 hpr hM0; omega))⟩⟩, ⟨u120q.symm, ⟨(by (clear zz78_6 zz78_5 zz78_2 qM119 hM119 eM119 qM115 bM115 fM115 hM115 cv113 cv112 ev112 h111 xM110 hM110 eM110 ua108 la108 h107 h105 u101b hret C hp3 hp2 hp1 hp0 ha1 hpr hM0; omega)), ⟨(by (clear zz78_6 zz78_5 zz78_2 qM119 hM119 eM119 qM115 bM115 fM115 hM115 cv113 cv112 ev112 h111 xM110 hM110 eM110 ua108 la108 h107 h105 u101b hret C hp3 hp2 hp1 hp0 ha1 hpr hM0; omega)), ⟨u120t, ⟨xM119.1, ⟨u120r, zr⟩⟩⟩⟩⟩⟩⟩⟩⟩⟩
  · refine j_iload_n C 0 2 dX8_takeFlag_12 rfl rfl ?_
    refine y_sipush C dX8_takeFlag_13 rfl ?_
    refine y_icmp_eq C 28 dX8_takeFlag_16 (by decide) (by exact ⟨⟨h105.1, h105.2.1⟩, ⟨(by decide), (by decide)⟩⟩) (fun h121 => ?_) (fun h121 => ?_)
    · refine j_aload_n C 1 0 dX8_takeFlag_28 rfl rfl ?_
      refine j_dup C dX8_takeFlag_29 rfl ?_
      refine y_getI C 7 _ _ fX8_takeFlag_18 rfl rfl ft_7_2 sb_7_2 hM0 dX8_takeFlag_30 (fun a122 ea122 la122 ua122 => ?_)
      refine y_iconst C dX8_takeFlag_33 ?_
      refine y_iadd C dX8_takeFlag_34 ?_
      refine y_putI C 7 _ _ qX8_takeFlag_18 rfl rfl ft_7_2 sb_7_2 hM0 (PX.w hpr rfl rfl) dX8_takeFlag_35 (by omega) (fun M124 eM124 hM124 => ?_)
      have xM124 := tkx_j (f := gf) (n := gn) (gi := gi) eM124 (by exact hp2) (by exact ea122) (by omega) (by exact hp3)
      have dM124 := cs_w hM0 (c := 7) rfl eM124 (by decide)
      have gM124 := s_wr eM124 (by omega)
      have cM124 := cn_w hM0 (c := 7) rfl eM124 (by decide)
      refine j_iload_n C 0 2 dX8_takeFlag_38 rfl rfl ?_
      refine y_sipush C dX8_takeFlag_39 rfl ?_
      refine y_icmp_ne C 64 dX8_takeFlag_42 (by decide) (by exact ⟨⟨h105.1, h105.2.1⟩, ⟨(by decide), (by decide)⟩⟩) (fun h125 => ?_) (fun h125 => ?_)
      · refine j_iload_n C 0 2 dX8_takeFlag_64 rfl rfl ?_
        refine y_sipush C dX8_takeFlag_65 rfl ?_
        refine y_icmp_ne C 89 dX8_takeFlag_68 (by decide) (by exact ⟨⟨h105.1, h105.2.1⟩, ⟨(by decide), (by decide)⟩⟩) (fun h126 => ?_) (fun h126 => ?_)
        · exfalso; (clear h125 cM124 gM124 dM124 xM124 hM124 eM124 ua122 la122 ea122 h107 u101b hret C hp3 hp2 hp1 hp0 ha1 hpr hM0; omega)
        · refine j_aload_n C 1 0 dX8_takeFlag_71 rfl rfl ?_
          refine y_getM C 7 8 fX8_takeFlag_32 rfl rfl ft_7_4 sm_7_4 (by decide) hM124 dX8_takeFlag_72 (fun v127 ev127 cv127 => ?_)
          refine j_dup C dX8_takeFlag_75 rfl ?_
          refine y_getI C 8 _ _ fX8_takeFlag_129 cv127 rfl ft_8_3 sb_8_3 hM124 dX8_takeFlag_76 (fun a128 ea128 la128 ua128 => ?_)
          have qa128 : a128 = (M0.1 v127 3).toInt := s_fb eM124 (by decide) (ea128)
          refine y_iconst C dX8_takeFlag_79 ?_
          refine j_iload_n C 2 1 dX8_takeFlag_80 rfl rfl ?_
          refine e_shl1 C 7 128 dX8_takeFlag_81 rfl (by decide) (by exact ⟨hp1.1, (by omega)⟩) (fun lb130 ub130 => ?_)
          refine e_iorN C 8 255 dX8_takeFlag_82 rfl (by decide) (by exact ⟨la128, ⟨ua128, ⟨(by (clear cv127 ev127 h126 h125 cM124 gM124 dM124 xM124 hM124 eM124 ua122 la122 ea122 h121 h107 h105 u101b hret C hp3 hp2 hp1 hp0 ha1 hpr hM0; omega)), (by (clear cv127 ev127 h126 h125 cM124 gM124 dM124 xM124 hM124 eM124 ua122 la122 ea122 h121 h107 h105 u101b hret C hp3 hp2 hp1 hp0 ha1 hpr hM0; omega))⟩⟩⟩) (fun lb131 ub131 ob131 => ?_)
          refine y_putI C 8 _ _ qX8_takeFlag_129 cv127 rfl ft_8_3 sb_8_3 hM124 (PX.w hpr cv127 rfl) dX8_takeFlag_83 (by exact ⟨⟨(by (clear ob131 ub130 lb130 qa128 ua128 la128 ea128 cv127 ev127 h126 h125 cM124 gM124 dM124 xM124 hM124 eM124 ua122 la122 ea122 h121 h107 h105 u101b hret C hp3 hp2 hp1 hp0 ha1 hpr hM0; omega)), (by (clear ob131 ub130 lb130 qa128 ua128 la128 ea128 cv127 ev127 h126 h125 cM124 gM124 dM124 xM124 hM124 eM124 ua122 la122 ea122 h121 h107 h105 u101b hret C hp3 hp2 hp1 hp0 ha1 hpr hM0; omega))⟩, ⟨lb131, ub131⟩⟩) (fun M132 eM132 hM132 => ?_)
          have xM132 := tkx_w (f := gf) (n := gn) eM132 (s_ne (c := 31) (d := 8) rfl cv127 (by decide)) (s_ne (c := 32) (d := 8) rfl cv127 (by decide)) (s_ne (c := 7) (d := 8) rfl cv127 (by decide)) (by exact xM124.1)
          have qM132 := po_eq gn (nxF gf gn gi) (M124.1 78 5).toInt (psX M124) (M132.1 78 5).toInt (psX M132) (by exact xM124.2.2.2) (by exact xM132.2.2.1) (by exact xM132.2.1)
          have dM132 := cs_w hM124 (c := 8) cv127 eM132 (by decide)
          have gM132 : (M132.1 78 2).toInt = (M124.1 78 2).toInt := by rw [wc_x eM132 (s_ne (c := 7) (d := 8) rfl cv127 (by decide))]
          have cM132 := cn_w hM124 (c := 8) cv127 eM132 (by decide)
          refine j_goto C 104 dX8_takeFlag_86 (by decide) ?_
          refine y_iconst C dX8_takeFlag_104 ?_
          have u133q := tf_r1 gf gn gi (M0.1 78 5).toInt (psX M0) (by exact hp3) (by exact hp0) (by (clear cM132 gM132 dM132 qM132 xM132 hM132 eM132 ob131 ub131 lb131 ub130 lb130 qa128 ua128 la128 ea128 cv127 ev127 h126 h125 cM124 gM124 dM124 xM124 hM124 eM124 ua122 la122 ea122 h107 u101b hret C hp3 hp2 hp1 hp0 ha1 hpr hM0; omega))
          have u133r := tf_2 gf gn gi (M0.1 78 5).toInt (M0.1 78 6).toInt (psX M0) (M124.1 78 5).toInt (M124.1 78 6).toInt (psX M124) (M132.1 78 5).toInt (M132.1 78 6).toInt (psX M132) (by exact hp3) (by exact hp0) (by (clear u133q cM132 gM132 dM132 qM132 xM132 hM132 eM132 ob131 ub131 lb131 ub130 lb130 qa128 ua128 la128 ea128 cv127 ev127 h126 h125 cM124 gM124 dM124 xM124 hM124 eM124 ua122 la122 ea122 h107 u101b hret C hp3 hp2 hp1 hp0 ha1 hpr hM0; omega)) (by exact xM124.2.1) (by exact xM124.2.2.1) (by exact xM124.2.2.2) (by exact xM132.2.2.1) (by exact xM132.2.2.2) (by exact xM132.2.1)
          have u133t := fgc_2 gf gn (i := gi) (k := a1) (y := a128) (v := v127) (M := M0) (M2 := M124) (N := M132) (M132.1 78 5).toInt (fun q T h => (agc_78 eM124 q T h)) (agc_v3 (v := v127) (ev127) eM132 (by (clear u133r u133q cM132 gM132 dM132 qM132 xM132 hM132 eM132 ob131 ub130 lb130 qa128 ua128 la128 ea128 cv127 ev127 h126 h125 cM124 gM124 dM124 xM124 hM124 eM124 ua122 la122 ea122 h121 h107 h105 u101b hret C hp3 hp2 hp1 hp0 ha1 hpr hM0; omega))) (ev127) (by exact ea128) (show b01 (PO gn gi (M0.1 78 5).toInt (psX M0)) = 1 by exact hp3) (by exact hp0) (by (clear u133r u133q cM132 gM132 dM132 qM132 xM132 hM132 eM132 ob131 ub131 lb131 ub130 lb130 qa128 ua128 la128 ea128 cv127 ev127 h126 h125 cM124 gM124 dM124 xM124 hM124 eM124 ua122 la122 ea122 h107 u101b hret C hp3 hp2 hp1 hp0 ha1 hpr hM0; omega))
          have zz78_2 := (Eq.trans (s_fb eM132 (by decide) (rfl) : (M132.1 78 2).toInt = (M124.1 78 2).toInt) (s_wr eM124 (by (clear u133t u133r u133q cM132 dM132 qM132 xM132 hM132 eM132 ob131 ub131 lb131 ub130 lb130 qa128 ua128 la128 ea128 cv127 ev127 h126 h125 cM124 dM124 xM124 hM124 eM124 ua122 la122 h121 h107 h105 hret C hp3 hp2 hp1 hp0 ha1 hpr hM0; omega)))); have zz78_5 : (M132.1 78 5).toInt = (M0.1 78 5).toInt := s_fb eM124 (by decide) (s_fb eM132 (by decide) (rfl)); have zz78_6 : (M132.1 78 6).toInt = (M0.1 78 6).toInt := s_fb eM124 (by decide) (s_fb eM132 (by decide) (rfl)); have zr := (rfx_v (c := v127) (rfx_i (rfx_r M0) eM124 (by decide)) eM132 (ev127) (by simp)); exact hret _ _ _ _ dX8_takeFlag_105 ⟨1, rfl, hM132, by exact ⟨(by decide), ⟨(by decide), ⟨⟨(by (clear zz78_6 zz78_5 zz78_2 qM132 hM132 eM132 ob131 ub131 lb131 ub130 lb130 qa128 ua128 la128 ea128 cv127 ev127 h126 h125 xM124 hM124 eM124 ua122 la122 h121 h107 h105 u101b hret C hp3 hp2 hp1 hp0 ha1 hpr hM0; omega)), ⟨(by (clear zz78_6 zz78_5 zz78_2 qM132 hM132 eM132 ob131 ub131 lb131 ub130 lb130 qa128 ua128 la128 ea128 cv127 ev127 h126 h125 xM124 hM124 eM124 ua122 la122 h121 h107 h105 u101b hret C hp3 hp2 hp1 hp0 ha1 hpr hM0; omega)), (by (clear zz78_6 zz78_5 zz78_2 qM132 hM132 eM132 ob131 ub131 lb131 ub130 lb130 qa128 ua128 la128 ea128 cv127 ev127 h126 h125 xM124 hM124 eM124 ua122 la122 h121 h107 h105 u101b hret C hp3 hp2 hp1 hp0 ha1 hpr hM0; omega))⟩⟩, ⟨u133q.symm, ⟨(by (clear zz78_6 zz78_5 zz78_2 qM132 hM132 eM132 ob131 ub131 lb131 ub130 lb130 qa128 ua128 la128 ea128 cv127 ev127 h126 h125 xM124 hM124 eM124 ua122 la122 h121 h107 h105 u101b hret C hp3 hp2 hp1 hp0 ha1 hpr hM0; omega)), ⟨(by (clear zz78_6 zz78_5 zz78_2 qM132 hM132 eM132 ob131 ub131 lb131 ub130 lb130 qa128 ua128 la128 ea128 cv127 ev127 h126 h125 xM124 hM124 eM124 ua122 la122 h121 h107 h105 u101b hret C hp3 hp2 hp1 hp0 ha1 hpr hM0; omega)), ⟨u133t, ⟨xM132.1, ⟨u133r, zr⟩⟩⟩⟩⟩⟩⟩⟩⟩⟩
      · exfalso; omega
    · refine j_iload_n C 0 2 dX8_takeFlag_19 rfl rfl ?_
      refine y_sipush C dX8_takeFlag_20 rfl ?_
      refine y_icmp_eq C 28 dX8_takeFlag_23 (by decide) (by exact ⟨⟨h105.1, h105.2.1⟩, ⟨(by decide), (by decide)⟩⟩) (fun h134 => ?_) (fun h134 => ?_)
      · refine j_aload_n C 1 0 dX8_takeFlag_28 rfl rfl ?_
        refine j_dup C dX8_takeFlag_29 rfl ?_
        refine y_getI C 7 _ _ fX8_takeFlag_18 rfl rfl ft_7_2 sb_7_2 hM0 dX8_takeFlag_30 (fun a135 ea135 la135 ua135 => ?_)
        refine y_iconst C dX8_takeFlag_33 ?_
        refine y_iadd C dX8_takeFlag_34 ?_
        refine y_putI C 7 _ _ qX8_takeFlag_18 rfl rfl ft_7_2 sb_7_2 hM0 (PX.w hpr rfl rfl) dX8_takeFlag_35 (by omega) (fun M137 eM137 hM137 => ?_)
        have xM137 := tkx_j (f := gf) (n := gn) (gi := gi) eM137 (by exact hp2) (by exact ea135) (by omega) (by exact hp3)
        have dM137 := cs_w hM0 (c := 7) rfl eM137 (by decide)
        have gM137 := s_wr eM137 (by omega)
        have cM137 := cn_w hM0 (c := 7) rfl eM137 (by decide)
        refine j_iload_n C 0 2 dX8_takeFlag_38 rfl rfl ?_
        refine y_sipush C dX8_takeFlag_39 rfl ?_
        refine y_icmp_ne C 64 dX8_takeFlag_42 (by decide) (by exact ⟨⟨h105.1, h105.2.1⟩, ⟨(by decide), (by decide)⟩⟩) (fun h138 => ?_) (fun h138 => ?_)
        · refine j_iload_n C 0 2 dX8_takeFlag_64 rfl rfl ?_
          refine y_sipush C dX8_takeFlag_65 rfl ?_
          refine y_icmp_ne C 89 dX8_takeFlag_68 (by decide) (by exact ⟨⟨h105.1, h105.2.1⟩, ⟨(by decide), (by decide)⟩⟩) (fun h139 => ?_) (fun h139 => ?_)
          · refine j_aload_n C 1 0 dX8_takeFlag_89 rfl rfl ?_
            refine y_getM C 7 8 fX8_takeFlag_32 rfl rfl ft_7_4 sm_7_4 (by decide) hM137 dX8_takeFlag_90 (fun v140 ev140 cv140 => ?_)
            refine j_dup C dX8_takeFlag_93 rfl ?_
            refine y_getI C 8 _ _ fX8_takeFlag_132 cv140 rfl ft_8_4 sb_8_4 hM137 dX8_takeFlag_94 (fun a141 ea141 la141 ua141 => ?_)
            have qa141 : a141 = (M0.1 v140 4).toInt := s_fb eM137 (by decide) (ea141)
            refine y_iconst C dX8_takeFlag_97 ?_
            refine j_iload_n C 2 1 dX8_takeFlag_98 rfl rfl ?_
            refine e_shl1 C 7 128 dX8_takeFlag_99 rfl (by decide) (by exact ⟨hp1.1, (by omega)⟩) (fun lb143 ub143 => ?_)
            refine e_iorN C 8 255 dX8_takeFlag_100 rfl (by decide) (by exact ⟨la141, ⟨ua141, ⟨(by (clear cv140 ev140 h139 h138 cM137 gM137 dM137 xM137 hM137 eM137 ua135 la135 ea135 h134 h121 h107 h105 u101b hret C hp3 hp2 hp1 hp0 ha1 hpr hM0; omega)), (by (clear cv140 ev140 h139 h138 cM137 gM137 dM137 xM137 hM137 eM137 ua135 la135 ea135 h134 h121 h107 h105 u101b hret C hp3 hp2 hp1 hp0 ha1 hpr hM0; omega))⟩⟩⟩) (fun lb144 ub144 ob144 => ?_)
            refine y_putI C 8 _ _ qX8_takeFlag_132 cv140 rfl ft_8_4 sb_8_4 hM137 (PX.w hpr cv140 rfl) dX8_takeFlag_101 (by exact ⟨⟨(by omega), (by omega)⟩, ⟨lb144, ub144⟩⟩) (fun M145 eM145 hM145 => ?_)
            have xM145 := tkx_w (f := gf) (n := gn) eM145 (s_ne (c := 31) (d := 8) rfl cv140 (by decide)) (s_ne (c := 32) (d := 8) rfl cv140 (by decide)) (s_ne (c := 7) (d := 8) rfl cv140 (by decide)) (by exact xM137.1)
            have qM145 := po_eq gn (nxF gf gn gi) (M137.1 78 5).toInt (psX M137) (M145.1 78 5).toInt (psX M145) (by exact xM137.2.2.2) (by exact xM145.2.2.1) (by exact xM145.2.1)
            have dM145 := cs_w hM137 (c := 8) cv140 eM145 (by decide)
            have gM145 : (M145.1 78 2).toInt = (M137.1 78 2).toInt := by rw [wc_x eM145 (s_ne (c := 7) (d := 8) rfl cv140 (by decide))]
            have cM145 := cn_w hM137 (c := 8) cv140 eM145 (by decide)
            refine y_iconst C dX8_takeFlag_104 ?_
            have u146q := tf_r1 gf gn gi (M0.1 78 5).toInt (psX M0) (by exact hp3) (by exact hp0) (by (clear cM145 gM145 dM145 qM145 xM145 hM145 eM145 ob144 ub144 lb144 ub143 lb143 qa141 ua141 la141 ea141 cv140 ev140 h139 h138 cM137 gM137 dM137 xM137 hM137 eM137 ua135 la135 ea135 h121 h107 u101b hret C hp3 hp2 hp1 hp0 ha1 hpr hM0; omega))
            have u146r := tf_2 gf gn gi (M0.1 78 5).toInt (M0.1 78 6).toInt (psX M0) (M137.1 78 5).toInt (M137.1 78 6).toInt (psX M137) (M145.1 78 5).toInt (M145.1 78 6).toInt (psX M145) (by exact hp3) (by exact hp0) (by (clear u146q cM145 gM145 dM145 qM145 xM145 hM145 eM145 ob144 ub144 lb144 ub143 lb143 qa141 ua141 la141 ea141 cv140 ev140 h139 h138 cM137 gM137 dM137 xM137 hM137 eM137 ua135 la135 ea135 h121 h107 u101b hret C hp3 hp2 hp1 hp0 ha1 hpr hM0; omega)) (by exact xM137.2.1) (by exact xM137.2.2.1) (by exact xM137.2.2.2) (by exact xM145.2.2.1) (by exact xM145.2.2.2) (by exact xM145.2.1)
            have u146t := fgc_3 gf gn (i := gi) (k := a1) (y := a141) (v := v140) (M := M0) (M2 := M137) (N := M145) (M145.1 78 5).toInt (fun q T h => (agc_78 eM137 q T h)) (agc_v4 (v := v140) (ev140) eM145 (by omega)) (ev140) (by exact ea141) (show b01 (PO gn gi (M0.1 78 5).toInt (psX M0)) = 1 by exact hp3) (by exact hp0) (by (clear u146r u146q cM145 gM145 dM145 qM145 xM145 hM145 eM145 ob144 ub144 lb144 ub143 lb143 qa141 ua141 la141 ea141 cv140 ev140 h139 h138 cM137 gM137 dM137 xM137 hM137 eM137 ua135 la135 ea135 h121 h107 u101b hret C hp3 hp2 hp1 hp0 ha1 hpr hM0; omega))
            have zz78_2 := (Eq.trans (s_fb eM145 (by decide) (rfl) : (M145.1 78 2).toInt = (M137.1 78 2).toInt) (s_wr eM137 (by omega))); have zz78_5 : (M145.1 78 5).toInt = (M0.1 78 5).toInt := s_fb eM137 (by decide) (s_fb eM145 (by decide) (rfl)); have zz78_6 : (M145.1 78 6).toInt = (M0.1 78 6).toInt := s_fb eM137 (by decide) (s_fb eM145 (by decide) (rfl)); have zr := (rfx_v (c := v140) (rfx_i (rfx_r M0) eM137 (by decide)) eM145 (ev140) (by simp)); exact hret _ _ _ _ dX8_takeFlag_105 ⟨1, rfl, hM145, by exact ⟨(by decide), ⟨(by decide), ⟨⟨(by (clear zz78_6 zz78_5 zz78_2 qM145 hM145 eM145 ob144 ub144 lb144 ub143 lb143 qa141 ua141 la141 ea141 cv140 ev140 h139 h138 xM137 hM137 eM137 ua135 la135 h134 h121 h107 h105 u101b hret C hp3 hp2 hp1 hp0 ha1 hpr hM0; omega)), ⟨(by (clear zz78_6 zz78_5 zz78_2 qM145 hM145 eM145 ob144 ub144 lb144 ub143 lb143 qa141 ua141 la141 ea141 cv140 ev140 h139 h138 xM137 hM137 eM137 ua135 la135 h134 h121 h107 h105 u101b hret C hp3 hp2 hp1 hp0 ha1 hpr hM0; omega)), (by (clear zz78_6 zz78_5 zz78_2 qM145 hM145 eM145 ob144 ub144 lb144 ub143 lb143 qa141 ua141 la141 ea141 cv140 ev140 h139 h138 xM137 hM137 eM137 ua135 la135 h134 h121 h107 h105 u101b hret C hp3 hp2 hp1 hp0 ha1 hpr hM0; omega))⟩⟩, ⟨u146q.symm, ⟨(by (clear zz78_6 zz78_5 zz78_2 qM145 hM145 eM145 ob144 ub144 lb144 ub143 lb143 qa141 ua141 la141 ea141 cv140 ev140 h139 h138 xM137 hM137 eM137 ua135 la135 h134 h121 h107 h105 u101b hret C hp3 hp2 hp1 hp0 ha1 hpr hM0; omega)), ⟨(by (clear zz78_6 zz78_5 zz78_2 qM145 hM145 eM145 ob144 ub144 lb144 ub143 lb143 qa141 ua141 la141 ea141 cv140 ev140 h139 h138 xM137 hM137 eM137 ua135 la135 h134 h121 h107 h105 u101b hret C hp3 hp2 hp1 hp0 ha1 hpr hM0; omega)), ⟨u146t, ⟨xM145.1, ⟨u146r, zr⟩⟩⟩⟩⟩⟩⟩⟩⟩⟩
          · exfalso; omega
        · exfalso; omega
      · refine y_iconst C dX8_takeFlag_26 ?_
        have u147q := tf_r0 gf gn gi (M0.1 78 5).toInt (psX M0) (by exact hp3) (by exact hp0) (by (clear u101b hret C hp3 hp2 hp1 hp0 ha1 hpr hM0; omega))
        have u147r := tf_0 gf gn gi (M0.1 78 5).toInt (M0.1 78 6).toInt (psX M0) (M0.1 78 5).toInt (M0.1 78 6).toInt (psX M0) (by exact hp3) (by exact hp0) (by omega) rfl rfl rfl
        have u147t := fgc_0 gf gn (A := AGC) (i := gi) (k := a1) (M := M0) (N := M0) (M0.1 78 5).toInt (fun _ _ h => h) (show b01 (PO gn gi (M0.1 78 5).toInt (psX M0)) = 1 by exact hp3) (by exact hp0) (by omega)
        have zr := (rfx_r M0); exact hret _ _ _ _ dX8_takeFlag_27 ⟨0, rfl, hM0, by (clear h134 h121 h107 h105 u101b hret C hp3 hp1 hp0 ha1 hpr hM0; omega)⟩
