set_option maxHeartbeats 4000000 in
theorem s1_X5_measure {l : Launch} {dC : Nat → ClassId} {dI : Nat → Nat → Nat} {ad : Nat → Nat} {cA : Nat → ClassId} {pr : Nat → Nat → Bool} {Kz : mm_M} {M0 : mm_M} (hM0 : INV pr Kz M0) (hpr : PX pr) (a1 : Int) (ha1 : -2147483648 ≤ a1 ∧ a1 ≤ 2147483647) : Ci l 2 yX5_measure wsX5_measure dC dI ad cA [.ref (ad 88), .int (sI a1)] M0 (fun r M' => ∃ a : Int, r = sI a ∧ INV pr Kz M' ∧ (-2147483648) ≤ a ∧ a ≤ 2147483647) := by
  refine ci_of (cc := cX5_measure) (maxL := 3) (ty := .int) (lv := [(0, .ref (ad 88)), (1, .int (sI a1))]) (by decide) rfl (fun r M' hp => rfl) (Nat.le_of_ble_eq_true rfl) rfl ?_
  intro p e s m args below meth c A Q C hret
  refine j_aload_n C 0 0 dX5_measure_0 rfl rfl ?_
  refine y_getI C 4 _ _ fX5_measure_38 rfl rfl ft_4_11 sb_4_11 hM0 dX5_measure_1 (fun a101 ea101 la101 ua101 => ?_)
  refine j_istore_n C 2 [(2, .int (sI a101)), (0, .ref (ad 88)), (1, .int (sI a1))] dX5_measure_4 rfl (by decide) rfl ?_
  have L145 : ∀ (n143 : Nat), ∀ (a146 : Int) (M147 : mm_M), ((-1) ≤ a146 ∧ a146 ≤ 255 ∧ (a146 - (-1)) < (n143 : Int)) → INV pr Kz M147 → jj p l e (cn_R 2) s m args below meth c 0 0 Q 3 dC dI ad cA A M147 5 [(0, .ref (ad 88)), (1, .int (sI a1)), (2, .int (sI a146))] [] := by
    intro n143
    induction n143 with
    | zero =>
      intro a146 M147 h148 hM147
      exfalso; omega
    | succ n143 ih144 =>
      intro a146 M147 h148 hM147
      refine j_iload_n C 2 2 dX5_measure_5 rfl rfl ?_
      refine j_aload_n C 0 0 dX5_measure_6 rfl rfl ?_
      refine y_getI C 4 _ _ fX5_measure_45 rfl rfl ft_4_13 sb_4_13 hM147 dX5_measure_7 (fun a149 ea149 la149 ua149 => ?_)
      refine y_icmp_lt C 53 dX5_measure_10 (by decide) (by omega) (fun h151 => ?_) (fun h151 => ?_)
      · refine j_aload_n C 0 0 dX5_measure_53 rfl rfl ?_
        refine y_getC C 4 91 fX5_measure_18 rfl rfl ft_4_3 sm_4_3 rfl hM147 dX5_measure_54 ?_
        refine j_aload_n C 0 0 dX5_measure_57 rfl rfl ?_
        refine y_getI C 4 _ _ fX5_measure_45 rfl rfl ft_4_13 sb_4_13 hM147 dX5_measure_58 (fun a167 ea167 la167 ua167 => ?_)
        refine y_iald C 40 256 _ _ rfl rfl rfl ak_40 an_40 rfl (sb_40 _) hM147 dX5_measure_61 (by omega) (fun a169 ea169 la169 ua169 => ?_)
        exact hret _ _ _ _ dX5_measure_62 ⟨a169, rfl, hM147, by omega⟩
      · refine j_aload_n C 0 0 dX5_measure_13 rfl rfl ?_
        refine y_getC C 4 90 fX5_measure_15 rfl rfl ft_4_2 sm_4_2 rfl hM147 dX5_measure_14 ?_
        refine j_iload_n C 2 2 dX5_measure_17 rfl rfl ?_
        refine y_iald C 39 256 _ _ rfl rfl rfl ak_39 an_39 rfl (sb_39 _) hM147 dX5_measure_18 (by omega) (fun a152 ea152 la152 ua152 => ?_)
        refine y_iconst C dX5_measure_19 ?_
        refine y_icmp_ne C 47 dX5_measure_20 (by decide) (by omega) (fun h153 => ?_) (fun h153 => ?_)
        · refine y_iinc C 2 [(2, .int (sI (a146 + (-1)))), (0, .ref (ad 88)), (1, .int (sI a1))] dX5_measure_47 rfl (by decide) rfl ?_
          refine j_goto C 5 dX5_measure_50 (by decide) ?_
          refine j_lv [1, 2, 0] rfl ?_; exact ih144 (a146 + (-1)) M147 (by omega) hM147
        · refine j_aload_n C 0 0 dX5_measure_23 rfl rfl ?_
          refine y_getC C 4 91 fX5_measure_18 rfl rfl ft_4_3 sm_4_3 rfl hM147 dX5_measure_24 ?_
          refine j_iload_n C 2 2 dX5_measure_27 rfl rfl ?_
          refine j_aload_n C 0 0 dX5_measure_28 rfl rfl ?_
          refine j_iload_n C 2 2 dX5_measure_29 rfl rfl ?_
          refine j_callVi C (d := 0) (As := [.int (sI a146)]) (st := [.int (sI a146), .ref (ad 91)]) 88 (s_lt rfl rfl) (s_kc (c := 4) rfl rfl) (by decide) rfl (s1_X5_isShutAt hM147 a146 (by omega)) gX5_measure_X5_isShutAt rfl hdX5_isShutAt (by decide) (Nat.le_of_ble_eq_true rfl) dX5_measure_30 rfl (fun r154 M155 h156 => ?_)
          obtain ⟨a158, rfl, rfl, h157⟩ := h156
          refine y_if_eq C 40 dX5_measure_33 (by decide) (by omega) (fun h159 => ?_) (fun h159 => ?_)
          · refine j_aload_n C 0 0 dX5_measure_40 rfl rfl ?_
            refine j_iload_n C 2 2 dX5_measure_41 rfl rfl ?_
            refine j_iload_n C 1 1 dX5_measure_42 rfl rfl ?_
            refine j_callVi C (d := 1) (As := [.int (sI a146), .int (sI a1)]) (st := [.int (sI a146), .ref (ad 91)]) 88 (s_lt rfl rfl) (s_kc (c := 4) rfl rfl) (by decide) rfl (s1_X5_stepsFrom hM147 a146 (by omega) a1 (by omega) (by omega)) gX5_measure_X5_stepsFrom rfl hdX5_stepsFrom (by decide) (Nat.le_of_ble_eq_true rfl) dX5_measure_43 rfl (fun r160 M161 h162 => ?_)
            obtain ⟨a164, rfl, rfl, h163⟩ := h162
            refine y_iastF C 40 256 rfl rfl rfl ak_40 an_40 rfl (sb_40 _) hM147 (PX.w hpr rfl rfl) dX5_measure_46 (by omega) (fun M165 eM165 hM165 => ?_)
            refine y_iinc C 2 [(2, .int (sI (a146 + (-1)))), (0, .ref (ad 88)), (1, .int (sI a1))] dX5_measure_47 rfl (by decide) rfl ?_
            refine j_goto C 5 dX5_measure_50 (by decide) ?_
            refine j_lv [1, 2, 0] rfl ?_; exact ih144 (a146 + (-1)) M165 (by omega) hM165
          · refine y_iconst C dX5_measure_36 ?_
            refine j_goto C 46 dX5_measure_37 (by decide) ?_
            refine y_iastF C 40 256 rfl rfl rfl ak_40 an_40 rfl (sb_40 _) hM147 (PX.w hpr rfl rfl) dX5_measure_46 (by omega) (fun M166 eM166 hM166 => ?_)
            refine y_iinc C 2 [(2, .int (sI (a146 + (-1)))), (0, .ref (ad 88)), (1, .int (sI a1))] dX5_measure_47 rfl (by decide) rfl ?_
            refine j_goto C 5 dX5_measure_50 (by decide) ?_
            refine j_lv [1, 2, 0] rfl ?_; exact ih144 (a146 + (-1)) M166 (by omega) hM166
  refine j_lv [1, 2, 0] rfl ?_; exact L145 2010 a101 M0 (by omega) hM0
set_option maxHeartbeats 4000000 in
theorem s1_X5_shortest {l : Launch} {dC : Nat → ClassId} {dI : Nat → Nat → Nat} {ad : Nat → Nat} {cA : Nat → ClassId} {pr : Nat → Nat → Bool} {Kz : mm_M} {M0 : mm_M} (hM0 : INV pr Kz M0) (hpr : PX pr)  : Ci l 3 yX5_shortest wsX5_shortest dC dI ad cA [.ref (ad 88)] M0 (fun r M' => ∃ a : Int, r = sI a ∧ INV pr Kz M' ∧ (-2147483648) ≤ a ∧ a ≤ 2147483647) := by
  refine ci_of (cc := cX5_shortest) (maxL := 1) (ty := .int) (lv := [(0, .ref (ad 88))]) (by decide) rfl (fun r M' hp => rfl) (Nat.le_of_ble_eq_true rfl) rfl ?_
  intro p e s m args below meth c A Q C hret
  refine j_aload_n C 0 0 dX5_shortest_0 rfl rfl ?_
  refine y_iconst C dX5_shortest_1 ?_
  refine j_aload_n C 0 0 dX5_shortest_2 rfl rfl ?_
  refine y_getM C 4 6 fX5_shortest_52 rfl rfl ft_4_9 sm_4_9 (by decide) hM0 dX5_shortest_3 (fun v101 ev101 cv101 => ?_)
  refine y_getI C 6 _ _ fX5_shortest_92 cv101 rfl ft_6_0 sb_6_0 hM0 dX5_shortest_6 (fun a102 ea102 la102 ua102 => ?_)
  refine y_shl1 C 6 64 dX5_shortest_9 rfl (by decide) (by omega) (fun a104 la104 ua104 => ?_)
  refine y_iconst C dX5_shortest_10 ?_
  refine y_isub C dX5_shortest_11 ?_
  refine j_callVi C (d := 2) (As := [.int (sI (a104 - 1))]) (st := []) 88 (s_lt rfl rfl) (s_kc (c := 4) rfl rfl) (by decide) rfl (s1_X5_measure hM0 hpr (a104 - 1) (by omega)) gX5_shortest_X5_measure rfl hdX5_measure (by decide) (Nat.le_of_ble_eq_true rfl) dX5_shortest_12 rfl (fun r105 M106 h107 => ?_)
  obtain ⟨a109, rfl, hM106, h108⟩ := h107
  exact hret _ _ _ _ dX5_shortest_15 ⟨a109, rfl, hM106, by omega⟩
set_option maxHeartbeats 4000000 in
theorem s1_X11_ending {l : Launch} {dC : Nat → ClassId} {dI : Nat → Nat → Nat} {ad : Nat → Nat} {cA : Nat → ClassId} {pr : Nat → Nat → Bool} {Kz : mm_M} {M0 : mm_M} (hM0 : INV pr Kz M0) (hpr : PX pr)  : Ci l 6 yX11_ending wsX11_ending dC dI ad cA [.ref (ad 0)] M0 (fun r M' => ∃ a : Int, r = sI a ∧ INV pr Kz M' ∧ (-2147483648) ≤ a ∧ a ≤ 2147483647) := by
  refine ci_of (cc := cX11_ending) (maxL := 1) (ty := .int) (lv := [(0, .ref (ad 0))]) (by decide) rfl (fun r M' hp => rfl) (Nat.le_of_ble_eq_true rfl) rfl ?_
  intro p e s m args below meth c A Q C hret
  refine j_aload_n C 0 0 dX11_ending_0 rfl rfl ?_
  refine y_getC C 10 88 fX11_ending_94 rfl rfl ft_10_14 sm_10_14 rfl hM0 dX11_ending_1 ?_
  refine j_aload_n C 0 0 dX11_ending_4 rfl rfl ?_
  refine y_getM C 10 6 fX11_ending_26 rfl rfl ft_10_4 sm_10_4 (by decide) hM0 dX11_ending_5 (fun v101 ev101 cv101 => ?_)
  refine j_aload_n C 0 0 dX11_ending_8 rfl rfl ?_
  refine y_getC C 10 12 fX11_ending_36 rfl rfl ft_10_6 sm_10_6 rfl hM0 dX11_ending_9 ?_
  refine j_aload_n C 0 0 dX11_ending_12 rfl rfl ?_
  refine y_getC C 10 12 fX11_ending_36 rfl rfl ft_10_6 sm_10_6 rfl hM0 dX11_ending_13 ?_
  refine y_getI C 8 _ _ fX11_ending_153 rfl rfl ft_8_4 sb_8_4 hM0 dX11_ending_16 (fun a102 ea102 la102 ua102 => ?_)
  refine j_callVv C (d := 5) (As := [.ref (ad v101), .ref (ad 12), .int (sI a102)]) (st := []) 88 (s_lt rfl rfl) (s_kc (c := 4) rfl rfl) (by decide) rfl (s1_X5_look hM0 hpr cv101 rfl a102 (by omega)) gX11_ending_X5_look rfl hdX5_look (by decide) (Nat.le_of_ble_eq_true rfl) dX11_ending_19 rfl (fun M105 h106 => ?_)
  have hM105 := h106
  refine j_aload_n C 0 0 dX11_ending_22 rfl rfl ?_
  refine y_getC C 10 88 fX11_ending_94 rfl rfl ft_10_14 sm_10_14 rfl hM105 dX11_ending_23 ?_
  refine j_callVi C (d := 3) (As := []) (st := []) 88 (s_lt rfl rfl) (s_kc (c := 4) rfl rfl) (by decide) rfl (s1_X5_shortest hM105 hpr) gX11_ending_X5_shortest rfl hdX5_shortest (by decide) (Nat.le_of_ble_eq_true rfl) dX11_ending_26 rfl (fun r108 M109 h110 => ?_)
  obtain ⟨a112, rfl, hM109, h111⟩ := h110
  exact hret _ _ _ _ dX11_ending_29 ⟨a112, rfl, hM109, by omega⟩
set_option maxHeartbeats 4000000 in
theorem s2_X5_pick {l : Launch} {dC : Nat → ClassId} {dI : Nat → Nat → Nat} {ad : Nat → Nat} {cA : Nat → ClassId} {pr : Nat → Nat → Bool} {Kz : mm_M} {M0 : mm_M} (hM0 : INV pr Kz M0) (a1 : Int) (ha1 : -2147483648 ≤ a1 ∧ a1 ≤ 2147483647) (a2 : Int) (ha2 : -2147483648 ≤ a2 ∧ a2 ≤ 2147483647) (hp0 : 0 ≤ a1 ∧ a1 ≤ 255) (hp1 : 0 ≤ a2 ∧ a2 ≤ 5) : Ci l 0 yX5_pick wsX5_pick dC dI ad cA [.ref (ad 88), .int (sI a1), .int (sI a2)] M0 (fun r M' => ∃ a : Int, r = sI a ∧ M0 = M' ∧ (-1) ≤ a ∧ a ≤ 7 ∧ ((0 ≤ ((a1 * 6) + a2) ∧ ((a1 * 6) + a2) < 1536 ∧ a = (M0.1 89 (((a1 * 6) + a2)).toNat).toInt))) := by
  refine ci_of (cc := cX5_pick) (maxL := 4) (ty := .int) (lv := [(0, .ref (ad 88)), (1, .int (sI a1)), (2, .int (sI a2))]) (by decide) rfl (fun r M' hp => rfl) (Nat.le_of_ble_eq_true rfl) rfl ?_
  intro p e s m args below meth c A Q C hret
  refine j_iload_n C 1 1 dX5_pick_0 rfl rfl ?_
  refine y_bipush C dX5_pick_1 rfl ?_
  refine y_imul C dX5_pick_3 ?_
  refine j_iload_n C 2 2 dX5_pick_4 rfl rfl ?_
  refine y_iadd C dX5_pick_5 ?_
  refine j_istore_n C 3 [(3, .int (sI ((a1 * 6) + a2))), (0, .ref (ad 88)), (1, .int (sI a1)), (2, .int (sI a2))] dX5_pick_6 rfl (by decide) rfl ?_
  refine j_iload_n C 0 3 dX5_pick_7 rfl rfl ?_
  refine y_if_lt C 29 dX5_pick_8 (by decide) (by omega) (fun h101 => ?_) (fun h101 => ?_)
  · exfalso; omega
  · refine j_iload_n C 0 3 dX5_pick_11 rfl rfl ?_
    refine j_aload_n C 1 0 dX5_pick_12 rfl rfl ?_
    refine y_getC C 4 89 fX5_pick_9 rfl rfl ft_4_1 sm_4_1 rfl hM0 dX5_pick_13 ?_
    refine y_alen C 38 1536 rfl rfl rfl an_38 rfl rfl dX5_pick_16 ?_
    refine y_icmp_ge C 29 dX5_pick_17 (by decide) (by omega) (fun h102 => ?_) (fun h102 => ?_)
    · exfalso; omega
    · refine j_aload_n C 1 0 dX5_pick_20 rfl rfl ?_
      refine y_getC C 4 89 fX5_pick_9 rfl rfl ft_4_1 sm_4_1 rfl hM0 dX5_pick_21 ?_
      refine j_iload_n C 0 3 dX5_pick_24 rfl rfl ?_
      refine y_iald C 38 1536 _ _ rfl rfl rfl ak_38 an_38 rfl (sb_38 _) hM0 dX5_pick_25 (by omega) (fun a103 ea103 la103 ua103 => ?_)
      refine j_goto C 30 dX5_pick_26 (by decide) ?_
      exact hret _ _ _ _ dX5_pick_30 ⟨a103, rfl, rfl, by omega⟩
set_option maxHeartbeats 4000000 in
theorem s1_X5_nearestComer {l : Launch} {dC : Nat → ClassId} {dI : Nat → Nat → Nat} {ad : Nat → Nat} {cA : Nat → ClassId} {pr : Nat → Nat → Bool} {Kz : mm_M} {M0 : mm_M} (hM0 : INV pr Kz M0) (a1 : Int) (ha1 : -2147483648 ≤ a1 ∧ a1 ≤ 2147483647) (hp0 : 0 ≤ a1 ∧ a1 ≤ 255) : Ci l 1 yX5_nearestComer wsX5_nearestComer dC dI ad cA [.ref (ad 88), .int (sI a1)] M0 (fun r M' => ∃ a : Int, r = sI a ∧ M0 = M' ∧ (-1) ≤ a ∧ a ≤ 5 ∧ (a = -1 ∨ 0 ≤ a ∧ a < 6 ∧ 0 ≤ (M0.1 89 ((a1 * 6) + a).toNat).toInt)) := by
  refine ci_of (cc := cX5_nearestComer) (maxL := 4) (ty := .int) (lv := [(0, .ref (ad 88)), (1, .int (sI a1))]) (by decide) rfl (fun r M' hp => rfl) (Nat.le_of_ble_eq_true rfl) rfl ?_
  intro p e s m args below meth c A Q C hret
  refine y_iconst C dX5_nearestComer_0 ?_
  refine j_istore_n C 2 [(2, .int (sI 0)), (0, .ref (ad 88)), (1, .int (sI a1))] dX5_nearestComer_1 rfl (by decide) rfl ?_
  have L264 : ∀ (n262 : Nat), ∀ (a265 : Int), (0 ≤ a265 ∧ a265 ≤ 6 ∧ (6 - a265) < (n262 : Int)) → jj p l e (cn_R 1) s m args below meth c 0 0 Q 4 dC dI ad cA A M0 2 [(0, .ref (ad 88)), (1, .int (sI a1)), (2, .int (sI a265))] [] := by
    intro n262
    induction n262 with
    | zero =>
      intro a265 h266
      exfalso; omega
    | succ n262 ih263 =>
      intro a265 h266
      refine j_iload_n C 2 2 dX5_nearestComer_2 rfl rfl ?_
      refine j_aload_n C 0 0 dX5_nearestComer_3 rfl rfl ?_
      refine y_getM C 4 6 fX5_nearestComer_52 rfl rfl ft_4_9 sm_4_9 (by decide) hM0 dX5_nearestComer_4 (fun v267 ev267 cv267 => ?_)
      refine y_getI C 6 _ _ fX5_nearestComer_92 cv267 rfl ft_6_0 sb_6_0 hM0 dX5_nearestComer_7 (fun a268 ea268 la268 ua268 => ?_)
      refine y_icmp_ge C 72 dX5_nearestComer_10 (by decide) (by omega) (fun h270 => ?_) (fun h270 => ?_)
      · refine y_iconst C dX5_nearestComer_72 ?_
        exact hret _ _ _ _ dX5_nearestComer_73 ⟨(-1), rfl, rfl, by omega⟩
      · refine j_aload_n C 0 0 dX5_nearestComer_13 rfl rfl ?_
        refine j_iload_n C 1 1 dX5_nearestComer_14 rfl rfl ?_
        refine j_iload_n C 2 2 dX5_nearestComer_15 rfl rfl ?_
        refine j_callVi C (d := 0) (As := [.int (sI a1), .int (sI a265)]) (st := []) 88 (s_lt rfl rfl) (s_kc (c := 4) rfl rfl) (by decide) rfl (s2_X5_pick hM0 a1 (by omega) a265 (by omega) (by omega) (by omega)) gX5_nearestComer_X5_pick rfl hdX5_pick (by decide) (Nat.le_of_ble_eq_true rfl) dX5_nearestComer_16 rfl (fun r271 M272 h273 => ?_)
        obtain ⟨a275, rfl, rfl, h274⟩ := h273
        refine j_istore_n C 3 [(3, .int (sI a275)), (0, .ref (ad 88)), (1, .int (sI a1)), (2, .int (sI a265))] dX5_nearestComer_19 rfl (by decide) rfl ?_
        refine j_iload_n C 0 3 dX5_nearestComer_20 rfl rfl ?_
        refine y_if_lt C 66 dX5_nearestComer_21 (by decide) (by omega) (fun h276 => ?_) (fun h276 => ?_)
        · refine y_iinc C 3 [(2, .int (sI (a265 + 1))), (3, .int (sI a275)), (0, .ref (ad 88)), (1, .int (sI a1))] dX5_nearestComer_66 rfl (by decide) rfl ?_
          refine j_goto C 2 dX5_nearestComer_69 (by decide) ?_
          refine j_lv [2, 3, 0] rfl ?_; exact ih263 (a265 + 1) (by omega)
        · refine j_iload_n C 2 1 dX5_nearestComer_24 rfl rfl ?_
          refine j_iload_n C 0 3 dX5_nearestComer_25 rfl rfl ?_
          refine y_ishrP C dX5_nearestComer_26 (by omega) (fun a277 la277 ua277 => ?_)
          refine y_iconst C dX5_nearestComer_27 ?_
          refine y_iandR C dX5_nearestComer_28 (by omega) (fun a278 la278 ua278 => ?_)
          refine y_if_ne C 66 dX5_nearestComer_29 (by decide) (by omega) (fun h279 => ?_) (fun h279 => ?_)
          · refine y_iinc C 3 [(2, .int (sI (a265 + 1))), (3, .int (sI a275)), (0, .ref (ad 88)), (1, .int (sI a1))] dX5_nearestComer_66 rfl (by decide) rfl ?_
            refine j_goto C 2 dX5_nearestComer_69 (by decide) ?_
            refine j_lv [2, 3, 0] rfl ?_; exact ih263 (a265 + 1) (by omega)
          · refine j_aload_n C 1 0 dX5_nearestComer_32 rfl rfl ?_
            refine y_getC C 4 91 fX5_nearestComer_18 rfl rfl ft_4_3 sm_4_3 rfl hM0 dX5_nearestComer_33 ?_
            refine j_iload_n C 2 1 dX5_nearestComer_36 rfl rfl ?_
            refine y_iconst C dX5_nearestComer_37 ?_
            refine j_iload_n C 0 3 dX5_nearestComer_38 rfl rfl ?_
            refine y_shl1 C 7 128 dX5_nearestComer_39 rfl (by decide) (by omega) (fun a280 la280 ua280 => ?_)
            refine y_iorN C 8 255 dX5_nearestComer_40 rfl (by decide) (by omega) (fun a281 la281 ua281 => ?_)
            refine y_iald C 40 256 _ _ rfl rfl rfl ak_40 an_40 rfl (sb_40 _) hM0 dX5_nearestComer_41 (by omega) (fun a282 ea282 la282 ua282 => ?_)
            refine y_if_lt C 66 dX5_nearestComer_42 (by decide) (by omega) (fun h283 => ?_) (fun h283 => ?_)
            · refine y_iinc C 3 [(2, .int (sI (a265 + 1))), (3, .int (sI a275)), (0, .ref (ad 88)), (1, .int (sI a1))] dX5_nearestComer_66 rfl (by decide) rfl ?_
              refine j_goto C 2 dX5_nearestComer_69 (by decide) ?_
              refine j_lv [2, 3, 0] rfl ?_; exact ih263 (a265 + 1) (by omega)
            · refine j_aload_n C 1 0 dX5_nearestComer_45 rfl rfl ?_
              refine y_getC C 4 91 fX5_nearestComer_18 rfl rfl ft_4_3 sm_4_3 rfl hM0 dX5_nearestComer_46 ?_
              refine j_iload_n C 2 1 dX5_nearestComer_49 rfl rfl ?_
              refine y_iconst C dX5_nearestComer_50 ?_
              refine j_iload_n C 0 3 dX5_nearestComer_51 rfl rfl ?_
              refine y_shl1 C 7 128 dX5_nearestComer_52 rfl (by decide) (by omega) (fun a284 la284 ua284 => ?_)
              refine y_iorN C 8 255 dX5_nearestComer_53 rfl (by decide) (by omega) (fun a285 la285 ua285 => ?_)
              refine y_iald C 40 256 _ _ rfl rfl rfl ak_40 an_40 rfl (sb_40 _) hM0 dX5_nearestComer_54 (by omega) (fun a286 ea286 la286 ua286 => ?_)
              refine j_aload_n C 1 0 dX5_nearestComer_55 rfl rfl ?_
              refine y_getC C 4 91 fX5_nearestComer_18 rfl rfl ft_4_3 sm_4_3 rfl hM0 dX5_nearestComer_56 ?_
              refine j_iload_n C 2 1 dX5_nearestComer_59 rfl rfl ?_
              refine y_iald C 40 256 _ _ rfl rfl rfl ak_40 an_40 rfl (sb_40 _) hM0 dX5_nearestComer_60 (by omega) (fun a287 ea287 la287 ua287 => ?_)
              refine y_icmp_ge C 66 dX5_nearestComer_61 (by decide) (by omega) (fun h288 => ?_) (fun h288 => ?_)
              · refine y_iinc C 3 [(2, .int (sI (a265 + 1))), (3, .int (sI a275)), (0, .ref (ad 88)), (1, .int (sI a1))] dX5_nearestComer_66 rfl (by decide) rfl ?_
                refine j_goto C 2 dX5_nearestComer_69 (by decide) ?_
                refine j_lv [2, 3, 0] rfl ?_; exact ih263 (a265 + 1) (by omega)
              · refine j_iload_n C 3 2 dX5_nearestComer_64 rfl rfl ?_
                exact hret _ _ _ _ dX5_nearestComer_65 ⟨a265, rfl, rfl, by omega⟩
  refine j_lv [1, 2, 0] rfl ?_; exact L264 2010 0 (by omega)
set_option maxHeartbeats 4000000 in
theorem s1_X5_comerAt {l : Launch} {dC : Nat → ClassId} {dI : Nat → Nat → Nat} {ad : Nat → Nat} {cA : Nat → ClassId} {pr : Nat → Nat → Bool} {Kz : mm_M} {M0 : mm_M} (hM0 : INV pr Kz M0) (a1 : Int) (ha1 : -2147483648 ≤ a1 ∧ a1 ≤ 2147483647) : Ci l 2 yX5_comerAt wsX5_comerAt dC dI ad cA [.ref (ad 88), .int (sI a1)] M0 (fun r M' => ∃ a : Int, r = sI a ∧ M0 = M' ∧ (-1) ≤ a ∧ a ≤ 5) := by
  refine ci_of (cc := cX5_comerAt) (maxL := 5) (ty := .int) (lv := [(0, .ref (ad 88)), (1, .int (sI a1))]) (by decide) rfl (fun r M' hp => rfl) (Nat.le_of_ble_eq_true rfl) rfl ?_
  intro p e s m args below meth c A Q C hret
  refine j_aload_n C 0 0 dX5_comerAt_0 rfl rfl ?_
  refine y_getI C 4 _ _ fX5_comerAt_45 rfl rfl ft_4_13 sb_4_13 hM0 dX5_comerAt_1 (fun a101 ea101 la101 ua101 => ?_)
  refine j_istore_n C 2 [(2, .int (sI a101)), (0, .ref (ad 88)), (1, .int (sI a1))] dX5_comerAt_4 rfl (by decide) rfl ?_
  refine y_iconst C dX5_comerAt_5 ?_
  refine j_istore_n C 3 [(3, .int (sI (-1))), (2, .int (sI a101)), (0, .ref (ad 88)), (1, .int (sI a1))] dX5_comerAt_6 rfl (by decide) rfl ?_
  refine y_iconst C dX5_comerAt_7 ?_
  refine j_istore C 4 [(4, .int (sI 0)), (3, .int (sI (-1))), (2, .int (sI a101)), (0, .ref (ad 88)), (1, .int (sI a1))] dX5_comerAt_8 (by decide) rfl ?_
  have L285 : ∀ (n283 : Nat), ∀ (a286 : Int) (a287 : Int) (a288 : Int), (0 ≤ a286 ∧ a286 ≤ 255 ∧ (-1) ≤ a287 ∧ a287 ≤ 5 ∧ 0 ≤ a288 ∧ a288 ≤ 9 ∧ (9 - a288) < (n283 : Int)) → jj p l e (cn_R 2) s m args below meth c 0 0 Q 5 dC dI ad cA A M0 10 [(0, .ref (ad 88)), (1, .int (sI a1)), (2, .int (sI a286)), (3, .int (sI a287)), (4, .int (sI a288))] [] := by
    intro n283
    induction n283 with
    | zero =>
      intro a286 a287 a288 h289
      exfalso; omega
    | succ n283 ih284 =>
      intro a286 a287 a288 h289
      refine j_iload C 4 dX5_comerAt_10 rfl ?_
      refine j_iload_n C 1 1 dX5_comerAt_12 rfl rfl ?_
      refine y_icmp_gt C 53 dX5_comerAt_13 (by decide) (by omega) (fun h290 => ?_) (fun h290 => ?_)
      · refine j_iload_n C 3 3 dX5_comerAt_53 rfl rfl ?_
        exact hret _ _ _ _ dX5_comerAt_54 ⟨a287, rfl, rfl, by omega⟩
      · refine j_iload C 4 dX5_comerAt_16 rfl ?_
        refine y_bipush C dX5_comerAt_18 rfl ?_
        refine y_icmp_gt C 53 dX5_comerAt_20 (by decide) (by omega) (fun h291 => ?_) (fun h291 => ?_)
        · refine j_iload_n C 3 3 dX5_comerAt_53 rfl rfl ?_
          exact hret _ _ _ _ dX5_comerAt_54 ⟨a287, rfl, rfl, by omega⟩
        · refine j_aload_n C 0 0 dX5_comerAt_23 rfl rfl ?_
          refine j_iload_n C 2 2 dX5_comerAt_24 rfl rfl ?_
          refine j_callVi C (d := 1) (As := [.int (sI a286)]) (st := []) 88 (s_lt rfl rfl) (s_kc (c := 4) rfl rfl) (by decide) rfl (s1_X5_nearestComer hM0 a286 (by omega) (by omega)) gX5_comerAt_X5_nearestComer rfl hdX5_nearestComer (by decide) (Nat.le_of_ble_eq_true rfl) dX5_comerAt_25 rfl (fun r292 M293 h294 => ?_)
          obtain ⟨a296, rfl, rfl, h295⟩ := h294
          refine j_istore_n C 3 [(3, .int (sI a296)), (0, .ref (ad 88)), (1, .int (sI a1)), (2, .int (sI a286)), (4, .int (sI a288))] dX5_comerAt_28 rfl (by decide) rfl ?_
          refine j_iload_n C 0 3 dX5_comerAt_29 rfl rfl ?_
          refine y_iconst C dX5_comerAt_30 ?_
          refine y_icmp_ne C 36 dX5_comerAt_31 (by decide) (by omega) (fun h297 => ?_) (fun h297 => ?_)
          · refine j_iload_n C 3 2 dX5_comerAt_36 rfl rfl ?_
            refine y_iconst C dX5_comerAt_37 ?_
            refine j_aload_n C 1 0 dX5_comerAt_38 rfl rfl ?_
            refine j_iload_n C 3 2 dX5_comerAt_39 rfl rfl ?_
            refine j_iload_n C 0 3 dX5_comerAt_40 rfl rfl ?_
            refine j_callVi C (d := 0) (As := [.int (sI a286), .int (sI a296)]) (st := [.int (sI 1), .int (sI a286)]) 88 (s_lt rfl rfl) (s_kc (c := 4) rfl rfl) (by decide) rfl (s2_X5_pick hM0 a286 (by omega) a296 (by omega) (by omega) (by omega)) gX5_comerAt_X5_pick rfl hdX5_pick (by decide) (Nat.le_of_ble_eq_true rfl) dX5_comerAt_41 rfl (fun r298 M299 h300 => ?_)
            obtain ⟨a302, rfl, rfl, h301⟩ := h300
            have na302 : 0 ≤ a302 ∧ a302 ≤ 7 := by omega
            refine y_shl1 C 7 128 dX5_comerAt_44 rfl (by decide) (by omega) (fun a303 la303 ua303 => ?_)
            refine y_iorN C 8 255 dX5_comerAt_45 rfl (by decide) (by omega) (fun a304 la304 ua304 => ?_)
            refine j_istore_n C 2 [(2, .int (sI a304)), (3, .int (sI a296)), (0, .ref (ad 88)), (1, .int (sI a1)), (4, .int (sI a288))] dX5_comerAt_46 rfl (by decide) rfl ?_
            refine y_iinc C 4 [(4, .int (sI (a288 + 1))), (2, .int (sI a304)), (3, .int (sI a296)), (0, .ref (ad 88)), (1, .int (sI a1))] dX5_comerAt_47 rfl (by decide) rfl ?_
            refine j_goto C 10 dX5_comerAt_50 (by decide) ?_
            refine j_lv [3, 4, 1, 2, 0] rfl ?_; exact ih284 a304 a296 (a288 + 1) (by omega)
          · refine y_iconst C dX5_comerAt_34 ?_
            exact hret _ _ _ _ dX5_comerAt_35 ⟨(-1), rfl, rfl, by omega⟩
  refine j_lv [3, 4, 2, 1, 0] rfl ?_; exact L285 2010 a101 (-1) 0 (by omega)
set_option maxHeartbeats 4000000 in
theorem s1_X11_endingBy {l : Launch} {dC : Nat → ClassId} {dI : Nat → Nat → Nat} {ad : Nat → Nat} {cA : Nat → ClassId} {pr : Nat → Nat → Bool} {Kz : mm_M} {M0 : mm_M} (hM0 : INV pr Kz M0) (hpr : PX pr) (a1 : Int) (ha1 : -2147483648 ≤ a1 ∧ a1 ≤ 2147483647) : Ci l 6 yX11_endingBy wsX11_endingBy dC dI ad cA [.ref (ad 0), .int (sI a1)] M0 (fun r M' => ∃ a : Int, r = sI a ∧ INV pr Kz M' ∧ (-3) ≤ a ∧ a ≤ 5) := by
  refine ci_of (cc := cX11_endingBy) (maxL := 2) (ty := .int) (lv := [(0, .ref (ad 0)), (1, .int (sI a1))]) (by decide) rfl (fun r M' hp => rfl) (Nat.le_of_ble_eq_true rfl) rfl ?_
  intro p e s m args below meth c A Q C hret
  refine j_iload_n C 1 1 dX11_endingBy_0 rfl rfl ?_
  refine y_if_ge C 7 dX11_endingBy_1 (by decide) (by omega) (fun h101 => ?_) (fun h101 => ?_)
  · refine j_aload_n C 0 0 dX11_endingBy_7 rfl rfl ?_
    refine y_getC C 10 88 fX11_endingBy_94 rfl rfl ft_10_14 sm_10_14 rfl hM0 dX11_endingBy_8 ?_
    refine j_aload_n C 0 0 dX11_endingBy_11 rfl rfl ?_
    refine y_getM C 10 6 fX11_endingBy_26 rfl rfl ft_10_4 sm_10_4 (by decide) hM0 dX11_endingBy_12 (fun v102 ev102 cv102 => ?_)
    refine j_aload_n C 0 0 dX11_endingBy_15 rfl rfl ?_
    refine y_getC C 10 12 fX11_endingBy_36 rfl rfl ft_10_6 sm_10_6 rfl hM0 dX11_endingBy_16 ?_
    refine j_aload_n C 0 0 dX11_endingBy_19 rfl rfl ?_
    refine y_getC C 10 12 fX11_endingBy_36 rfl rfl ft_10_6 sm_10_6 rfl hM0 dX11_endingBy_20 ?_
    refine y_getI C 8 _ _ fX11_endingBy_153 rfl rfl ft_8_4 sb_8_4 hM0 dX11_endingBy_23 (fun a103 ea103 la103 ua103 => ?_)
    refine j_callVv C (d := 5) (As := [.ref (ad v102), .ref (ad 12), .int (sI a103)]) (st := []) 88 (s_lt rfl rfl) (s_kc (c := 4) rfl rfl) (by decide) rfl (s1_X5_look hM0 hpr cv102 rfl a103 (by omega)) gX11_endingBy_X5_look rfl hdX5_look (by decide) (Nat.le_of_ble_eq_true rfl) dX11_endingBy_26 rfl (fun M106 h107 => ?_)
    have hM106 := h107
    refine j_iload_n C 1 1 dX11_endingBy_29 rfl rfl ?_
    refine j_aload_n C 0 0 dX11_endingBy_30 rfl rfl ?_
    refine y_getC C 10 88 fX11_endingBy_94 rfl rfl ft_10_14 sm_10_14 rfl hM106 dX11_endingBy_31 ?_
    refine j_callVi C (d := 3) (As := []) (st := [.int (sI a1)]) 88 (s_lt rfl rfl) (s_kc (c := 4) rfl rfl) (by decide) rfl (s1_X5_shortest hM106 hpr) gX11_endingBy_X5_shortest rfl hdX5_shortest (by decide) (Nat.le_of_ble_eq_true rfl) dX11_endingBy_34 rfl (fun r109 M110 h111 => ?_)
    obtain ⟨a113, rfl, hM110, h112⟩ := h111
    refine y_icmp_ge C 51 dX11_endingBy_37 (by decide) (by omega) (fun h114 => ?_) (fun h114 => ?_)
    · refine y_iconst C dX11_endingBy_51 ?_
      exact hret _ _ _ _ dX11_endingBy_52 ⟨(-1), rfl, hM110, by omega⟩
    · refine j_aload_n C 0 0 dX11_endingBy_40 rfl rfl ?_
      refine y_getC C 10 88 fX11_endingBy_94 rfl rfl ft_10_14 sm_10_14 rfl hM110 dX11_endingBy_41 ?_
      refine j_iload_n C 1 1 dX11_endingBy_44 rfl rfl ?_
      refine j_callVi C (d := 2) (As := [.int (sI a1)]) (st := []) 88 (s_lt rfl rfl) (s_kc (c := 4) rfl rfl) (by decide) rfl (s1_X5_comerAt hM110 a1 (by omega)) gX11_endingBy_X5_comerAt rfl hdX5_comerAt (by decide) (Nat.le_of_ble_eq_true rfl) dX11_endingBy_45 rfl (fun r115 M116 h117 => ?_)
      obtain ⟨a119, rfl, rfl, h118⟩ := h117
      refine j_goto C 52 dX11_endingBy_48 (by decide) ?_
      exact hret _ _ _ _ dX11_endingBy_52 ⟨a119, rfl, hM110, by omega⟩
  · refine y_bipush C dX11_endingBy_4 rfl ?_
    exact hret _ _ _ _ dX11_endingBy_6 ⟨(-3), rfl, hM0, by omega⟩
set_option maxHeartbeats 4000000 in
theorem s1_J7_fill_d0a16 {l : Launch} {dC : Nat → ClassId} {dI : Nat → Nat → Nat} {ad : Nat → Nat} {cA : Nat → ClassId} {pr : Nat → Nat → Bool} {Kz : mm_M} {M0 : mm_M} (hM0 : INV pr Kz M0) (hpr : PX pr) {v0 : Nat} (cv0 : s_c v0 = 41) (a1 : Int) (ha1 : -9223372036854775808 ≤ a1 ∧ a1 ≤ 9223372036854775807) : Cv l 0 yJ7_fill_d0a16 wsJ7_fill_d0a16 dC dI ad cA [.ref (ad v0), .long (sJ a1)] M0 (fun M' => INV pr Kz M') := by
  refine cv_of (cc := cJ7_fill_d0a16) (maxL := 5) (lv := [(0, .ref (ad v0)), (1, .long (sJ a1))]) (by decide) rfl (Nat.le_of_ble_eq_true rfl) rfl ?_
  intro p e s m args below meth c A Q C hret
  refine y_iconst C dJ7_fill_d0a16_0 ?_
  refine j_istore_n C 3 [(3, .int (sI 0)), (0, .ref (ad v0)), (1, .long (sJ a1))] dJ7_fill_d0a16_1 rfl (by decide) rfl ?_
  refine j_aload_n C 1 0 dJ7_fill_d0a16_2 rfl rfl ?_
  refine y_alen C 41 256 cv0 rfl rfl an_41 rfl rfl dJ7_fill_d0a16_3 ?_
  refine j_istore C 4 [(4, .int (sI 256)), (3, .int (sI 0)), (0, .ref (ad v0)), (1, .long (sJ a1))] dJ7_fill_d0a16_4 (by decide) rfl ?_
  have L211 : ∀ (n209 : Nat), ∀ (a212 : Int) (M213 : mm_M), (0 ≤ a212 ∧ a212 ≤ 256 ∧ (256 - a212) < (n209 : Int)) → INV pr Kz M213 → jj p l e (cn_R 0) s m args below meth c 0 0 Q 5 dC dI ad cA A M213 6 [(0, .ref (ad v0)), (1, .long (sJ a1)), (3, .int (sI a212)), (4, .int (sI 256))] [] := by
    intro n209
    induction n209 with
    | zero =>
      intro a212 M213 h214 hM213
      exfalso; omega
    | succ n209 ih210 =>
      intro a212 M213 h214 hM213
      refine j_iload_n C 2 3 dJ7_fill_d0a16_6 rfl rfl ?_
      refine j_iload C 3 dJ7_fill_d0a16_7 rfl ?_
      refine y_icmp_ge C 22 dJ7_fill_d0a16_9 (by decide) (by omega) (fun h215 => ?_) (fun h215 => ?_)
      · exact hret _ _ _ dJ7_fill_d0a16_22 hM213
      · refine j_aload_n C 0 0 dJ7_fill_d0a16_12 rfl rfl ?_
        refine j_iload_n C 2 3 dJ7_fill_d0a16_13 rfl rfl ?_
        refine j_lload_n C 1 1 dJ7_fill_d0a16_14 rfl rfl ?_
        refine y_last C 41 256 cv0 rfl rfl ak_41 an_41 rfl hM213 (PX.w hpr cv0 rfl) dJ7_fill_d0a16_15 (by omega) (fun M216 eM216 hM216 => ?_)
        refine y_iinc C 2 [(3, .int (sI (a212 + 1))), (0, .ref (ad v0)), (1, .long (sJ a1)), (4, .int (sI 256))] dJ7_fill_d0a16_16 rfl (by decide) rfl ?_
        refine j_goto C 6 dJ7_fill_d0a16_19 (by decide) ?_
        refine j_lv [1, 2, 0, 3] rfl ?_; exact ih210 (a212 + 1) M216 (by omega) hM216
  refine j_lv [2, 3, 1, 0] rfl ?_; exact L211 2010 0 M0 (by omega) hM0
set_option maxHeartbeats 4000000 in
theorem s1_X5_beginRows {l : Launch} {dC : Nat → ClassId} {dI : Nat → Nat → Nat} {ad : Nat → Nat} {cA : Nat → ClassId} {pr : Nat → Nat → Bool} {Kz : mm_M} {M0 : mm_M} (hM0 : INV pr Kz M0) (hpr : PX pr)  : Cv l 1 yX5_beginRows wsX5_beginRows dC dI ad cA [.ref (ad 88)] M0 (fun M' => INV pr Kz M') := by
  refine cv_of (cc := cX5_beginRows) (maxL := 1) (lv := [(0, .ref (ad 88))]) (by decide) rfl (Nat.le_of_ble_eq_true rfl) rfl ?_
  intro p e s m args below meth c A Q C hret
  refine j_aload_n C 0 0 dX5_beginRows_0 rfl rfl ?_
  refine y_getM C 4 41 fX5_beginRows_21 rfl rfl ft_4_4 sm_4_4 (by decide) hM0 dX5_beginRows_1 (fun v101 ev101 cv101 => ?_)
  refine y_lconst C 0 dX5_beginRows_4 rfl ?_
  refine j_callSv C (d := 0) (As := [.ref (ad v101), .long (sJ 0)]) (st := []) (s1_J7_fill_d0a16 hM0 hpr cv101 0 (by omega)) gX5_beginRows_J7_fill_d0a16 rfl hdJ7_fill_d0a16s (by decide) (Nat.le_of_ble_eq_true rfl) dX5_beginRows_5 rfl (fun M103 h104 => ?_)
  have hM103 := h104
  refine j_aload_n C 0 0 dX5_beginRows_8 rfl rfl ?_
  refine y_getM C 4 41 fX5_beginRows_21 rfl rfl ft_4_4 sm_4_4 (by decide) hM103 dX5_beginRows_9 (fun v106 ev106 cv106 => ?_)
  refine j_aload_n C 0 0 dX5_beginRows_12 rfl rfl ?_
  refine y_getI C 4 _ _ fX5_beginRows_45 rfl rfl ft_4_13 sb_4_13 hM103 dX5_beginRows_13 (fun a107 ea107 la107 ua107 => ?_)
  refine y_lconst C 1 dX5_beginRows_16 rfl ?_
  refine y_last C 41 256 cv106 rfl rfl ak_41 an_41 rfl hM103 (PX.w hpr cv106 rfl) dX5_beginRows_17 (by omega) (fun M109 eM109 hM109 => ?_)
  exact hret _ _ _ dX5_beginRows_18 hM109
set_option maxHeartbeats 4000000 in
theorem s1_X5_swapWays {l : Launch} {dC : Nat → ClassId} {dI : Nat → Nat → Nat} {ad : Nat → Nat} {cA : Nat → ClassId} {pr : Nat → Nat → Bool} {Kz : mm_M} {M0 : mm_M} (hM0 : INV pr Kz M0) (hpr : PX pr)  : Cv l 0 yX5_swapWays wsX5_swapWays dC dI ad cA [.ref (ad 88)] M0 (fun M' => INV pr Kz M') := by
  refine cv_of (cc := cX5_swapWays) (maxL := 2) (lv := [(0, .ref (ad 88))]) (by decide) rfl (Nat.le_of_ble_eq_true rfl) rfl ?_
  intro p e s m args below meth c A Q C hret
  refine j_aload_n C 0 0 dX5_swapWays_0 rfl rfl ?_
  refine y_getM C 4 41 fX5_swapWays_21 rfl rfl ft_4_4 sm_4_4 (by decide) hM0 dX5_swapWays_1 (fun v101 ev101 cv101 => ?_)
  refine j_astore_n C 1 [(1, .ref (ad v101)), (0, .ref (ad 88))] dX5_swapWays_4 rfl (by decide) rfl ?_
  refine j_aload_n C 1 0 dX5_swapWays_5 rfl rfl ?_
  refine j_aload_n C 1 0 dX5_swapWays_6 rfl rfl ?_
  refine y_getM C 4 41 fX5_swapWays_25 rfl rfl ft_4_5 sm_4_5 (by decide) hM0 dX5_swapWays_7 (fun v102 ev102 cv102 => ?_)
  refine y_putP C 4 41 qX5_swapWays_21 rfl rfl rfl rfl ft_4_4 sm_4_4 (by decide) hM0 (PX.w hpr rfl rfl) cv102 dX5_swapWays_10 (fun M103 eM103 hM103 => ?_)
  refine j_aload_n C 1 0 dX5_swapWays_13 rfl rfl ?_
  refine j_aload_n C 0 1 dX5_swapWays_14 rfl rfl ?_
  refine y_putP C 4 41 qX5_swapWays_25 rfl rfl rfl rfl ft_4_5 sm_4_5 (by decide) hM103 (PX.w hpr rfl rfl) cv101 dX5_swapWays_15 (fun M104 eM104 hM104 => ?_)
  exact hret _ _ _ dX5_swapWays_18 hM104
set_option maxHeartbeats 4000000 in
theorem s1_X5_lengthenRows {l : Launch} {dC : Nat → ClassId} {dI : Nat → Nat → Nat} {ad : Nat → Nat} {cA : Nat → ClassId} {pr : Nat → Nat → Bool} {Kz : mm_M} {M0 : mm_M} (hM0 : INV pr Kz M0) (hpr : PX pr) (a1 : Int) (ha1 : -2147483648 ≤ a1 ∧ a1 ≤ 2147483647) : Cv l 1 yX5_lengthenRows wsX5_lengthenRows dC dI ad cA [.ref (ad 88), .int (sI a1)] M0 (fun M' => INV pr Kz M') := by
  refine cv_of (cc := cX5_lengthenRows) (maxL := 5) (lv := [(0, .ref (ad 88)), (1, .int (sI a1))]) (by decide) rfl (Nat.le_of_ble_eq_true rfl) rfl ?_
  intro p e s m args below meth c A Q C hret
  refine j_aload_n C 0 0 dX5_lengthenRows_0 rfl rfl ?_
  refine y_getM C 4 41 fX5_lengthenRows_25 rfl rfl ft_4_5 sm_4_5 (by decide) hM0 dX5_lengthenRows_1 (fun v101 ev101 cv101 => ?_)
  refine y_lconst C 0 dX5_lengthenRows_4 rfl ?_
  refine j_callSv C (d := 0) (As := [.ref (ad v101), .long (sJ 0)]) (st := []) (s1_J7_fill_d0a16 hM0 hpr cv101 0 (by omega)) gX5_lengthenRows_J7_fill_d0a16 rfl hdJ7_fill_d0a16s (by decide) (Nat.le_of_ble_eq_true rfl) dX5_lengthenRows_5 rfl (fun M103 h104 => ?_)
  have hM103 := h104
  refine j_aload_n C 0 0 dX5_lengthenRows_8 rfl rfl ?_
  refine y_getI C 4 _ _ fX5_lengthenRows_45 rfl rfl ft_4_13 sb_4_13 hM103 dX5_lengthenRows_9 (fun a106 ea106 la106 ua106 => ?_)
  refine j_istore_n C 2 [(2, .int (sI a106)), (0, .ref (ad 88)), (1, .int (sI a1))] dX5_lengthenRows_12 rfl (by decide) rfl ?_
  have L624 : ∀ (n622 : Nat), ∀ (a625 : Int) (M626 : mm_M), (0 ≤ a625 ∧ a625 ≤ 256 ∧ (256 - a625) < (n622 : Int)) → INV pr Kz M626 → jj p l e (cn_R 1) s m args below meth c 0 0 Q 5 dC dI ad cA A M626 13 [(0, .ref (ad 88)), (1, .int (sI a1)), (2, .int (sI a625))] [] := by
    intro n622
    induction n622 with
    | zero =>
      intro a625 M626 h627 hM626
      exfalso; omega
    | succ n622 ih623 =>
      intro a625 M626 h627 hM626
      refine j_iload_n C 2 2 dX5_lengthenRows_13 rfl rfl ?_
      refine j_aload_n C 0 0 dX5_lengthenRows_14 rfl rfl ?_
      refine y_getI C 4 _ _ fX5_lengthenRows_38 rfl rfl ft_4_11 sb_4_11 hM626 dX5_lengthenRows_15 (fun a628 ea628 la628 ua628 => ?_)
      refine y_icmp_gt C 101 dX5_lengthenRows_18 (by decide) (by omega) (fun h630 => ?_) (fun h630 => ?_)
      · refine j_aload_n C 0 0 dX5_lengthenRows_101 rfl rfl ?_
        refine j_callVv C (d := 0) (As := []) (st := []) 88 (s_lt rfl rfl) (s_kc (c := 4) rfl rfl) (by decide) rfl (s1_X5_swapWays hM626 hpr) gX5_lengthenRows_X5_swapWays rfl hdX5_swapWays (by decide) (Nat.le_of_ble_eq_true rfl) dX5_lengthenRows_102 rfl (fun M884 h885 => ?_)
        have hM884 := h885
        exact hret _ _ _ dX5_lengthenRows_105 hM884
      · refine y_iconst C dX5_lengthenRows_21 ?_
        refine j_istore_n C 3 [(3, .int (sI 0)), (0, .ref (ad 88)), (1, .int (sI a1)), (2, .int (sI a625))] dX5_lengthenRows_22 rfl (by decide) rfl ?_
        have L850 : ∀ (n848 : Nat), ∀ (a851 : Int) (M852 : mm_M), (0 ≤ a851 ∧ a851 ≤ 6 ∧ (6 - a851) < (n848 : Int)) → INV pr Kz M852 → jj p l e (cn_R 1) s m args below meth c 0 0 Q 5 dC dI ad cA A M852 23 [(0, .ref (ad 88)), (1, .int (sI a1)), (2, .int (sI a625)), (3, .int (sI a851))] [] := by
          intro n848
          induction n848 with
          | zero =>
            intro a851 M852 h853 hM852
            exfalso; omega
          | succ n848 ih849 =>
            intro a851 M852 h853 hM852
            refine j_iload_n C 3 3 dX5_lengthenRows_23 rfl rfl ?_
            refine j_aload_n C 0 0 dX5_lengthenRows_24 rfl rfl ?_
            refine y_getM C 4 6 fX5_lengthenRows_52 rfl rfl ft_4_9 sm_4_9 (by decide) hM852 dX5_lengthenRows_25 (fun v854 ev854 cv854 => ?_)
            refine y_getI C 6 _ _ fX5_lengthenRows_92 cv854 rfl ft_6_0 sb_6_0 hM852 dX5_lengthenRows_28 (fun a855 ea855 la855 ua855 => ?_)
            refine y_icmp_ge C 95 dX5_lengthenRows_31 (by decide) (by omega) (fun h857 => ?_) (fun h857 => ?_)
            · refine y_iinc C 2 [(2, .int (sI (a625 + 1))), (0, .ref (ad 88)), (1, .int (sI a1)), (3, .int (sI a851))] dX5_lengthenRows_95 rfl (by decide) rfl ?_
              refine j_goto C 13 dX5_lengthenRows_98 (by decide) ?_
              refine j_lv [1, 2, 0] rfl ?_; exact ih623 (a625 + 1) M852 (by omega) hM852
            · refine j_aload_n C 0 0 dX5_lengthenRows_34 rfl rfl ?_
              refine y_getM C 4 41 fX5_lengthenRows_21 rfl rfl ft_4_4 sm_4_4 (by decide) hM852 dX5_lengthenRows_35 (fun v858 ev858 cv858 => ?_)
              refine j_iload_n C 2 2 dX5_lengthenRows_38 rfl rfl ?_
              refine y_lald C 41 256 cv858 rfl rfl ak_41 an_41 rfl dX5_lengthenRows_39 (by omega) (fun a859 ea859 la859 ua859 => ?_)
              refine y_lconst C 0 dX5_lengthenRows_40 rfl ?_
              refine y_lcmp_eq C 95 dX5_lengthenRows_41 dX5_lengthenRows_42 (by decide) (by omega) (fun h860 => ?_) (fun h860 => ?_)
              · refine y_iinc C 2 [(2, .int (sI (a625 + 1))), (0, .ref (ad 88)), (1, .int (sI a1)), (3, .int (sI a851))] dX5_lengthenRows_95 rfl (by decide) rfl ?_
                refine j_goto C 13 dX5_lengthenRows_98 (by decide) ?_
                refine j_lv [1, 2, 0] rfl ?_; exact ih623 (a625 + 1) M852 (by omega) hM852
              · refine j_aload_n C 0 0 dX5_lengthenRows_45 rfl rfl ?_
                refine j_iload_n C 2 2 dX5_lengthenRows_46 rfl rfl ?_
                refine j_iload_n C 3 3 dX5_lengthenRows_47 rfl rfl ?_
                refine j_callVi C (d := 0) (As := [.int (sI a625), .int (sI a851)]) (st := []) 88 (s_lt rfl rfl) (s_kc (c := 4) rfl rfl) (by decide) rfl (s1_X5_pick hM852 a625 (by omega) a851 (by omega)) gX5_lengthenRows_X5_pick rfl hdX5_pick (by decide) (Nat.le_of_ble_eq_true rfl) dX5_lengthenRows_48 rfl (fun r861 M862 h863 => ?_)
                obtain ⟨a865, rfl, rfl, h864⟩ := h863
                refine j_istore C 4 [(4, .int (sI a865)), (0, .ref (ad 88)), (1, .int (sI a1)), (2, .int (sI a625)), (3, .int (sI a851))] dX5_lengthenRows_51 (by decide) rfl ?_
                refine j_iload C 0 dX5_lengthenRows_53 rfl ?_
                refine y_if_lt C 89 dX5_lengthenRows_55 (by decide) (by omega) (fun h866 => ?_) (fun h866 => ?_)
                · refine y_iinc C 4 [(3, .int (sI (a851 + 1))), (4, .int (sI a865)), (0, .ref (ad 88)), (1, .int (sI a1)), (2, .int (sI a625))] dX5_lengthenRows_89 rfl (by decide) rfl ?_
                  refine j_goto C 23 dX5_lengthenRows_92 (by decide) ?_
                  refine j_lv [2, 3, 4, 0] rfl ?_; exact ih849 (a851 + 1) M852 (by omega) hM852
                · refine j_iload_n C 2 1 dX5_lengthenRows_58 rfl rfl ?_
                  refine y_iconst C dX5_lengthenRows_59 ?_
                  refine y_icmp_eq C 69 dX5_lengthenRows_60 (by decide) (by omega) (fun h867 => ?_) (fun h867 => ?_)
                  · refine j_aload_n C 1 0 dX5_lengthenRows_69 rfl rfl ?_
                    refine y_getM C 4 41 fX5_lengthenRows_25 rfl rfl ft_4_5 sm_4_5 (by decide) hM852 dX5_lengthenRows_70 (fun v868 ev868 cv868 => ?_)
                    refine j_iload_n C 3 2 dX5_lengthenRows_73 rfl rfl ?_
                    refine y_iconst C dX5_lengthenRows_74 ?_
                    refine j_iload C 0 dX5_lengthenRows_75 rfl ?_
                    refine y_shl1 C 7 128 dX5_lengthenRows_77 rfl (by decide) (by omega) (fun a869 la869 ua869 => ?_)
                    refine y_iorN C 8 255 dX5_lengthenRows_78 rfl (by decide) (by omega) (fun a870 la870 ua870 => ?_)
                    refine j_dup2 C dX5_lengthenRows_79 rfl rfl ?_
                    refine y_lald C 41 256 cv868 rfl rfl ak_41 an_41 rfl dX5_lengthenRows_80 (by omega) (fun a871 ea871 la871 ua871 => ?_)
                    refine j_aload_n C 1 0 dX5_lengthenRows_81 rfl rfl ?_
                    refine y_getV C 4 v858 fX5_lengthenRows_21 rfl rfl ft_4_4 (ev858) dX5_lengthenRows_82 ?_
                    refine j_iload_n C 3 2 dX5_lengthenRows_85 rfl rfl ?_
                    refine y_lald C 41 256 cv858 rfl rfl ak_41 an_41 rfl dX5_lengthenRows_86 (by omega) (fun a872 ea872 la872 ua872 => ?_)
                    refine y_ladd0 C dX5_lengthenRows_87 (fun a873 la873 ua873 => ?_)
                    refine y_last C 41 256 cv868 rfl rfl ak_41 an_41 rfl hM852 (PX.w hpr cv868 rfl) dX5_lengthenRows_88 (by omega) (fun M874 eM874 hM874 => ?_)
                    refine y_iinc C 4 [(3, .int (sI (a851 + 1))), (4, .int (sI a865)), (0, .ref (ad 88)), (1, .int (sI a1)), (2, .int (sI a625))] dX5_lengthenRows_89 rfl (by decide) rfl ?_
                    refine j_goto C 23 dX5_lengthenRows_92 (by decide) ?_
                    refine j_lv [2, 3, 4, 0] rfl ?_; exact ih849 (a851 + 1) M874 (by omega) hM874
                  · refine j_iload_n C 2 1 dX5_lengthenRows_63 rfl rfl ?_
                    refine j_iload C 0 dX5_lengthenRows_64 rfl ?_
                    refine y_icmp_ne C 89 dX5_lengthenRows_66 (by decide) (by omega) (fun h875 => ?_) (fun h875 => ?_)
                    · refine y_iinc C 4 [(3, .int (sI (a851 + 1))), (4, .int (sI a865)), (0, .ref (ad 88)), (1, .int (sI a1)), (2, .int (sI a625))] dX5_lengthenRows_89 rfl (by decide) rfl ?_
                      refine j_goto C 23 dX5_lengthenRows_92 (by decide) ?_
                      refine j_lv [2, 3, 4, 0] rfl ?_; exact ih849 (a851 + 1) M852 (by omega) hM852
                    · refine j_aload_n C 1 0 dX5_lengthenRows_69 rfl rfl ?_
                      refine y_getM C 4 41 fX5_lengthenRows_25 rfl rfl ft_4_5 sm_4_5 (by decide) hM852 dX5_lengthenRows_70 (fun v876 ev876 cv876 => ?_)
                      refine j_iload_n C 3 2 dX5_lengthenRows_73 rfl rfl ?_
                      refine y_iconst C dX5_lengthenRows_74 ?_
                      refine j_iload C 0 dX5_lengthenRows_75 rfl ?_
                      refine y_shl1 C 7 128 dX5_lengthenRows_77 rfl (by decide) (by omega) (fun a877 la877 ua877 => ?_)
                      refine y_iorN C 8 255 dX5_lengthenRows_78 rfl (by decide) (by omega) (fun a878 la878 ua878 => ?_)
                      refine j_dup2 C dX5_lengthenRows_79 rfl rfl ?_
                      refine y_lald C 41 256 cv876 rfl rfl ak_41 an_41 rfl dX5_lengthenRows_80 (by omega) (fun a879 ea879 la879 ua879 => ?_)
                      refine j_aload_n C 1 0 dX5_lengthenRows_81 rfl rfl ?_
                      refine y_getV C 4 v858 fX5_lengthenRows_21 rfl rfl ft_4_4 (ev858) dX5_lengthenRows_82 ?_
                      refine j_iload_n C 3 2 dX5_lengthenRows_85 rfl rfl ?_
                      refine y_lald C 41 256 cv858 rfl rfl ak_41 an_41 rfl dX5_lengthenRows_86 (by omega) (fun a880 ea880 la880 ua880 => ?_)
                      refine y_ladd0 C dX5_lengthenRows_87 (fun a881 la881 ua881 => ?_)
                      refine y_last C 41 256 cv876 rfl rfl ak_41 an_41 rfl hM852 (PX.w hpr cv876 rfl) dX5_lengthenRows_88 (by omega) (fun M882 eM882 hM882 => ?_)
                      refine y_iinc C 4 [(3, .int (sI (a851 + 1))), (4, .int (sI a865)), (0, .ref (ad 88)), (1, .int (sI a1)), (2, .int (sI a625))] dX5_lengthenRows_89 rfl (by decide) rfl ?_
                      refine j_goto C 23 dX5_lengthenRows_92 (by decide) ?_
                      refine j_lv [2, 3, 4, 0] rfl ?_; exact ih849 (a851 + 1) M882 (by omega) hM882
        refine j_lv [1, 2, 3, 0] rfl ?_; exact L850 2010 0 M626 (by omega) hM626
  refine j_lv [1, 2, 0] rfl ?_; exact L624 2010 a106 M103 (by omega) hM103
set_option maxHeartbeats 4000000 in
theorem s1_X5_allWays {l : Launch} {dC : Nat → ClassId} {dI : Nat → Nat → Nat} {ad : Nat → Nat} {cA : Nat → ClassId} {pr : Nat → Nat → Bool} {Kz : mm_M} {M0 : mm_M} (hM0 : INV pr Kz M0)  : Cj l 0 yX5_allWays wsX5_allWays dC dI ad cA [.ref (ad 88)] M0 (fun r M' => ∃ a : Int, r = sJ a ∧ M0 = M' ∧ (-9223372036854775808) ≤ a ∧ a ≤ 9223372036854775807) := by
  refine cj_of (cc := cX5_allWays) (maxL := 4) (lv := [(0, .ref (ad 88))]) (by decide) rfl (Nat.le_of_ble_eq_true rfl) rfl ?_
  intro p e s m args below meth c A Q C hret
  refine y_lconst C 0 dX5_allWays_0 rfl ?_
  refine j_lstore_n C 1 [(1, .long (sJ 0)), (0, .ref (ad 88))] dX5_allWays_1 rfl (by decide) rfl ?_
  refine j_aload_n C 1 0 dX5_allWays_2 rfl rfl ?_
  refine y_getI C 4 _ _ fX5_allWays_45 rfl rfl ft_4_13 sb_4_13 hM0 dX5_allWays_3 (fun a101 ea101 la101 ua101 => ?_)
  refine j_istore_n C 3 [(3, .int (sI a101)), (1, .long (sJ 0)), (0, .ref (ad 88))] dX5_allWays_6 rfl (by decide) rfl ?_
  have L120 : ∀ (n118 : Nat), ∀ (a121 : Int) (a122 : Int), ((-9223372036854775808) ≤ a121 ∧ a121 ≤ 9223372036854775807 ∧ 0 ≤ a122 ∧ a122 ≤ 256 ∧ (256 - a122) < (n118 : Int)) → jj p l e (cn_R 0) s m args below meth c 0 0 Q 4 dC dI ad cA A M0 7 [(0, .ref (ad 88)), (1, .long (sJ a121)), (3, .int (sI a122))] [] := by
    intro n118
    induction n118 with
    | zero =>
      intro a121 a122 h123
      exfalso; omega
    | succ n118 ih119 =>
      intro a121 a122 h123
      refine j_iload_n C 2 3 dX5_allWays_7 rfl rfl ?_
      refine j_aload_n C 0 0 dX5_allWays_8 rfl rfl ?_
      refine y_getI C 4 _ _ fX5_allWays_38 rfl rfl ft_4_11 sb_4_11 hM0 dX5_allWays_9 (fun a124 ea124 la124 ua124 => ?_)
      refine y_icmp_gt C 30 dX5_allWays_12 (by decide) (by omega) (fun h126 => ?_) (fun h126 => ?_)
      · refine j_lload_n C 1 1 dX5_allWays_30 rfl rfl ?_
        exact hret _ _ _ _ dX5_allWays_31 ⟨a121, rfl, rfl, by omega⟩
      · refine j_lload_n C 1 1 dX5_allWays_15 rfl rfl ?_
        refine j_aload_n C 0 0 dX5_allWays_16 rfl rfl ?_
        refine y_getM C 4 41 fX5_allWays_21 rfl rfl ft_4_4 sm_4_4 (by decide) hM0 dX5_allWays_17 (fun v127 ev127 cv127 => ?_)
        refine j_iload_n C 2 3 dX5_allWays_20 rfl rfl ?_
        refine y_lald C 41 256 cv127 rfl rfl ak_41 an_41 rfl dX5_allWays_21 (by omega) (fun a128 ea128 la128 ua128 => ?_)
        refine y_ladd0 C dX5_allWays_22 (fun a129 la129 ua129 => ?_)
        refine j_lstore_n C 1 [(1, .long (sJ a129)), (0, .ref (ad 88)), (3, .int (sI a122))] dX5_allWays_23 rfl (by decide) rfl ?_
        refine y_iinc C 2 [(3, .int (sI (a122 + 1))), (1, .long (sJ a129)), (0, .ref (ad 88))] dX5_allWays_24 rfl (by decide) rfl ?_
        refine j_goto C 7 dX5_allWays_27 (by decide) ?_
        refine j_lv [2, 1, 0] rfl ?_; exact ih119 a129 (a122 + 1) (by omega)
  refine j_lv [2, 1, 0] rfl ?_; exact L120 2010 0 a101 (by omega)
set_option maxHeartbeats 4000000 in
theorem s1_X5_openWays {l : Launch} {dC : Nat → ClassId} {dI : Nat → Nat → Nat} {ad : Nat → Nat} {cA : Nat → ClassId} {pr : Nat → Nat → Bool} {Kz : mm_M} {M0 : mm_M} (hM0 : INV pr Kz M0)  : Cj l 1 yX5_openWays wsX5_openWays dC dI ad cA [.ref (ad 88)] M0 (fun r M' => ∃ a : Int, r = sJ a ∧ M0 = M' ∧ (-9223372036854775808) ≤ a ∧ a ≤ 9223372036854775807) := by
  refine cj_of (cc := cX5_openWays) (maxL := 4) (lv := [(0, .ref (ad 88))]) (by decide) rfl (Nat.le_of_ble_eq_true rfl) rfl ?_
  intro p e s m args below meth c A Q C hret
  refine y_lconst C 0 dX5_openWays_0 rfl ?_
  refine j_lstore_n C 1 [(1, .long (sJ 0)), (0, .ref (ad 88))] dX5_openWays_1 rfl (by decide) rfl ?_
  refine j_aload_n C 1 0 dX5_openWays_2 rfl rfl ?_
  refine y_getI C 4 _ _ fX5_openWays_45 rfl rfl ft_4_13 sb_4_13 hM0 dX5_openWays_3 (fun a101 ea101 la101 ua101 => ?_)
  refine j_istore_n C 3 [(3, .int (sI a101)), (1, .long (sJ 0)), (0, .ref (ad 88))] dX5_openWays_6 rfl (by decide) rfl ?_
  have L132 : ∀ (n130 : Nat), ∀ (a133 : Int) (a134 : Int), ((-9223372036854775808) ≤ a133 ∧ a133 ≤ 9223372036854775807 ∧ 0 ≤ a134 ∧ a134 ≤ 256 ∧ (256 - a134) < (n130 : Int)) → jj p l e (cn_R 1) s m args below meth c 0 0 Q 4 dC dI ad cA A M0 7 [(0, .ref (ad 88)), (1, .long (sJ a133)), (3, .int (sI a134))] [] := by
    intro n130
    induction n130 with
    | zero =>
      intro a133 a134 h135
      exfalso; omega
    | succ n130 ih131 =>
      intro a133 a134 h135
      refine j_iload_n C 2 3 dX5_openWays_7 rfl rfl ?_
      refine j_aload_n C 0 0 dX5_openWays_8 rfl rfl ?_
      refine y_getI C 4 _ _ fX5_openWays_38 rfl rfl ft_4_11 sb_4_11 hM0 dX5_openWays_9 (fun a136 ea136 la136 ua136 => ?_)
      refine y_icmp_gt C 42 dX5_openWays_12 (by decide) (by omega) (fun h138 => ?_) (fun h138 => ?_)
      · refine j_lload_n C 1 1 dX5_openWays_42 rfl rfl ?_
        exact hret _ _ _ _ dX5_openWays_43 ⟨a133, rfl, rfl, by omega⟩
      · refine j_lload_n C 1 1 dX5_openWays_15 rfl rfl ?_
        refine j_aload_n C 0 0 dX5_openWays_16 rfl rfl ?_
        refine j_iload_n C 2 3 dX5_openWays_17 rfl rfl ?_
        refine j_callVi C (d := 0) (As := [.int (sI a134)]) (st := [.long (sJ a133)]) 88 (s_lt rfl rfl) (s_kc (c := 4) rfl rfl) (by decide) rfl (s1_X5_isShutAt hM0 a134 (by omega)) gX5_openWays_X5_isShutAt rfl hdX5_isShutAt (by decide) (Nat.le_of_ble_eq_true rfl) dX5_openWays_18 rfl (fun r139 M140 h141 => ?_)
        obtain ⟨a143, rfl, rfl, h142⟩ := h141
        refine y_if_eq C 28 dX5_openWays_21 (by decide) (by omega) (fun h144 => ?_) (fun h144 => ?_)
        · refine j_aload_n C 0 0 dX5_openWays_28 rfl rfl ?_
          refine y_getM C 4 41 fX5_openWays_21 rfl rfl ft_4_4 sm_4_4 (by decide) hM0 dX5_openWays_29 (fun v145 ev145 cv145 => ?_)
          refine j_iload_n C 2 3 dX5_openWays_32 rfl rfl ?_
          refine y_lald C 41 256 cv145 rfl rfl ak_41 an_41 rfl dX5_openWays_33 (by omega) (fun a146 ea146 la146 ua146 => ?_)
          refine y_ladd0 C dX5_openWays_34 (fun a147 la147 ua147 => ?_)
          refine j_lstore_n C 1 [(1, .long (sJ a147)), (0, .ref (ad 88)), (3, .int (sI a134))] dX5_openWays_35 rfl (by decide) rfl ?_
          refine y_iinc C 2 [(3, .int (sI (a134 + 1))), (1, .long (sJ a147)), (0, .ref (ad 88))] dX5_openWays_36 rfl (by decide) rfl ?_
          refine j_goto C 7 dX5_openWays_39 (by decide) ?_
          refine j_lv [2, 1, 0] rfl ?_; exact ih131 a147 (a134 + 1) (by omega)
        · refine y_lconst C 0 dX5_openWays_24 rfl ?_
          refine j_goto C 34 dX5_openWays_25 (by decide) ?_
          refine y_ladd C dX5_openWays_34 ?_
          refine j_lstore_n C 1 [(1, .long (sJ (a133 + 0))), (0, .ref (ad 88)), (3, .int (sI a134))] dX5_openWays_35 rfl (by decide) rfl ?_
          refine y_iinc C 2 [(3, .int (sI (a134 + 1))), (1, .long (sJ (a133 + 0))), (0, .ref (ad 88))] dX5_openWays_36 rfl (by decide) rfl ?_
          refine j_goto C 7 dX5_openWays_39 (by decide) ?_
          refine j_lv [2, 1, 0] rfl ?_; exact ih131 (a133 + 0) (a134 + 1) (by omega)
  refine j_lv [2, 1, 0] rfl ?_; exact L132 2010 0 a101 (by omega)
set_option maxHeartbeats 4000000 in
theorem s1_X5_rowsToShut {l : Launch} {dC : Nat → ClassId} {dI : Nat → Nat → Nat} {ad : Nat → Nat} {cA : Nat → ClassId} {pr : Nat → Nat → Bool} {Kz : mm_M} {M0 : mm_M} (hM0 : INV pr Kz M0) (hpr : PX pr) (a1 : Int) (ha1 : -2147483648 ≤ a1 ∧ a1 ≤ 2147483647) : Cj l 2 yX5_rowsToShut wsX5_rowsToShut dC dI ad cA [.ref (ad 88), .int (sI a1)] M0 (fun r M' => ∃ a : Int, r = sJ a ∧ INV pr Kz M' ∧ (-9223372036854775808) ≤ a ∧ a ≤ 9223372036854775807) := by
  refine cj_of (cc := cX5_rowsToShut) (maxL := 3) (lv := [(0, .ref (ad 88)), (1, .int (sI a1))]) (by decide) rfl (Nat.le_of_ble_eq_true rfl) rfl ?_
  intro p e s m args below meth c A Q C hret
  refine j_aload_n C 0 0 dX5_rowsToShut_0 rfl rfl ?_
  refine j_callVv C (d := 1) (As := []) (st := []) 88 (s_lt rfl rfl) (s_kc (c := 4) rfl rfl) (by decide) rfl (s1_X5_beginRows hM0 hpr) gX5_rowsToShut_X5_beginRows rfl hdX5_beginRows (by decide) (Nat.le_of_ble_eq_true rfl) dX5_rowsToShut_1 rfl (fun M102 h103 => ?_)
  have hM102 := h103
  refine y_iconst C dX5_rowsToShut_4 ?_
  refine j_istore_n C 2 [(2, .int (sI 0)), (0, .ref (ad 88)), (1, .int (sI a1))] dX5_rowsToShut_5 rfl (by decide) rfl ?_
  have L345 : ∀ (n343 : Nat), ∀ (a346 : Int) (M347 : mm_M), (0 ≤ a346 ∧ a346 ≤ 2147483647 ∧ (2147483647 - a346) < (n343 : Int)) → INV pr Kz M347 → jj p l e (cn_R 2) s m args below meth c 0 0 Q 3 dC dI ad cA A M347 6 [(0, .ref (ad 88)), (1, .int (sI a1)), (2, .int (sI a346))] [] := by
    intro n343
    induction n343 with
    | zero =>
      intro a346 M347 h348 hM347
      exfalso; omega
    | succ n343 ih344 =>
      intro a346 M347 h348 hM347
      refine j_iload_n C 2 2 dX5_rowsToShut_6 rfl rfl ?_
      refine j_iload_n C 1 1 dX5_rowsToShut_7 rfl rfl ?_
      refine y_icmp_ge C 22 dX5_rowsToShut_8 (by decide) (by omega) (fun h349 => ?_) (fun h349 => ?_)
      · refine j_aload_n C 0 0 dX5_rowsToShut_22 rfl rfl ?_
        refine j_callVj C (d := 0) (As := []) (st := []) 88 (s_lt rfl rfl) (s_kc (c := 4) rfl rfl) (by decide) rfl (s1_X5_allWays hM347) gX5_rowsToShut_X5_allWays rfl hdX5_allWays (by decide) (Nat.le_of_ble_eq_true rfl) dX5_rowsToShut_23 rfl (fun r354 M355 h356 => ?_)
        obtain ⟨a358, rfl, rfl, h357⟩ := h356
        refine j_aload_n C 0 0 dX5_rowsToShut_26 rfl rfl ?_
        refine j_callVj C (d := 1) (As := []) (st := [.long (sJ a358)]) 88 (s_lt rfl rfl) (s_kc (c := 4) rfl rfl) (by decide) rfl (s1_X5_openWays hM347) gX5_rowsToShut_X5_openWays rfl hdX5_openWays (by decide) (Nat.le_of_ble_eq_true rfl) dX5_rowsToShut_27 rfl (fun r359 M360 h361 => ?_)
        obtain ⟨a363, rfl, rfl, h362⟩ := h361
        refine y_lsub0 C dX5_rowsToShut_30 (fun a364 la364 ua364 => ?_)
        exact hret _ _ _ _ dX5_rowsToShut_31 ⟨a364, rfl, hM347, by omega⟩
      · refine j_aload_n C 0 0 dX5_rowsToShut_11 rfl rfl ?_
        refine y_iconst C dX5_rowsToShut_12 ?_
        refine j_callVv C (d := 1) (As := [.int (sI (-1))]) (st := []) 88 (s_lt rfl rfl) (s_kc (c := 4) rfl rfl) (by decide) rfl (s1_X5_lengthenRows hM347 hpr (-1) (by omega)) gX5_rowsToShut_X5_lengthenRows rfl hdX5_lengthenRows (by decide) (Nat.le_of_ble_eq_true rfl) dX5_rowsToShut_13 rfl (fun M351 h352 => ?_)
        have hM351 := h352
        refine y_iinc C 2 [(2, .int (sI (a346 + 1))), (0, .ref (ad 88)), (1, .int (sI a1))] dX5_rowsToShut_16 rfl (by decide) rfl ?_
        refine j_goto C 6 dX5_rowsToShut_19 (by decide) ?_
        refine j_lv [1, 2, 0] rfl ?_; exact ih344 (a346 + 1) M351 (by omega) hM351
  refine j_lv [1, 2, 0] rfl ?_; exact L345 4294967304 0 M102 (by omega) hM102
set_option maxHeartbeats 4000000 in
theorem s1_X11_endings {l : Launch} {dC : Nat → ClassId} {dI : Nat → Nat → Nat} {ad : Nat → Nat} {cA : Nat → ClassId} {pr : Nat → Nat → Bool} {Kz : mm_M} {M0 : mm_M} (hM0 : INV pr Kz M0) (hpr : PX pr) (a1 : Int) (ha1 : -2147483648 ≤ a1 ∧ a1 ≤ 2147483647) : Cj l 6 yX11_endings wsX11_endings dC dI ad cA [.ref (ad 0), .int (sI a1)] M0 (fun r M' => ∃ a : Int, r = sJ a ∧ INV pr Kz M' ∧ (-9223372036854775808) ≤ a ∧ a ≤ 9223372036854775807) := by
  refine cj_of (cc := cX11_endings) (maxL := 2) (lv := [(0, .ref (ad 0)), (1, .int (sI a1))]) (by decide) rfl (Nat.le_of_ble_eq_true rfl) rfl ?_
  intro p e s m args below meth c A Q C hret
  refine j_iload_n C 1 1 dX11_endings_0 rfl rfl ?_
  refine y_if_lt C 10 dX11_endings_1 (by decide) (by omega) (fun h101 => ?_) (fun h101 => ?_)
  · refine y_ldc2 C (-3) dX11_endings_10 kX11_endings_272 rfl ?_
    exact hret _ _ _ _ dX11_endings_13 ⟨(-3), rfl, hM0, by omega⟩
  · refine j_iload_n C 1 1 dX11_endings_4 rfl rfl ?_
    refine y_bipush C dX11_endings_5 rfl ?_
    refine y_icmp_le C 14 dX11_endings_7 (by decide) (by omega) (fun h102 => ?_) (fun h102 => ?_)
    · refine j_aload_n C 0 0 dX11_endings_14 rfl rfl ?_
      refine y_getC C 10 88 fX11_endings_94 rfl rfl ft_10_14 sm_10_14 rfl hM0 dX11_endings_15 ?_
      refine j_aload_n C 0 0 dX11_endings_18 rfl rfl ?_
      refine y_getM C 10 6 fX11_endings_26 rfl rfl ft_10_4 sm_10_4 (by decide) hM0 dX11_endings_19 (fun v103 ev103 cv103 => ?_)
      refine j_aload_n C 0 0 dX11_endings_22 rfl rfl ?_
      refine y_getC C 10 12 fX11_endings_36 rfl rfl ft_10_6 sm_10_6 rfl hM0 dX11_endings_23 ?_
      refine j_aload_n C 0 0 dX11_endings_26 rfl rfl ?_
      refine y_getC C 10 12 fX11_endings_36 rfl rfl ft_10_6 sm_10_6 rfl hM0 dX11_endings_27 ?_
      refine y_getI C 8 _ _ fX11_endings_153 rfl rfl ft_8_4 sb_8_4 hM0 dX11_endings_30 (fun a104 ea104 la104 ua104 => ?_)
      refine j_callVv C (d := 5) (As := [.ref (ad v103), .ref (ad 12), .int (sI a104)]) (st := []) 88 (s_lt rfl rfl) (s_kc (c := 4) rfl rfl) (by decide) rfl (s1_X5_look hM0 hpr cv103 rfl a104 (by omega)) gX11_endings_X5_look rfl hdX5_look (by decide) (Nat.le_of_ble_eq_true rfl) dX11_endings_33 rfl (fun M107 h108 => ?_)
      have hM107 := h108
      refine j_aload_n C 0 0 dX11_endings_36 rfl rfl ?_
      refine y_getC C 10 88 fX11_endings_94 rfl rfl ft_10_14 sm_10_14 rfl hM107 dX11_endings_37 ?_
      refine j_iload_n C 1 1 dX11_endings_40 rfl rfl ?_
      refine j_callVj C (d := 2) (As := [.int (sI a1)]) (st := []) 88 (s_lt rfl rfl) (s_kc (c := 4) rfl rfl) (by decide) rfl (s1_X5_rowsToShut hM107 hpr a1 (by omega)) gX11_endings_X5_rowsToShut rfl hdX5_rowsToShut (by decide) (Nat.le_of_ble_eq_true rfl) dX11_endings_41 rfl (fun r110 M111 h112 => ?_)
      obtain ⟨a114, rfl, hM111, h113⟩ := h112
      exact hret _ _ _ _ dX11_endings_44 ⟨a114, rfl, hM111, by omega⟩
    · refine y_ldc2 C (-3) dX11_endings_10 kX11_endings_272 rfl ?_
      exact hret _ _ _ _ dX11_endings_13 ⟨(-3), rfl, hM0, by omega⟩
set_option maxHeartbeats 4000000 in
theorem s1_X5_neededBuyers {l : Launch} {dC : Nat → ClassId} {dI : Nat → Nat → Nat} {ad : Nat → Nat} {cA : Nat → ClassId} {pr : Nat → Nat → Bool} {Kz : mm_M} {M0 : mm_M} (hM0 : INV pr Kz M0) (hpr : PX pr)  : Ci l 3 yX5_neededBuyers wsX5_neededBuyers dC dI ad cA [.ref (ad 88)] M0 (fun r M' => ∃ a : Int, r = sI a ∧ INV pr Kz M' ∧ 0 ≤ a ∧ a ≤ 63) := by
  refine ci_of (cc := cX5_neededBuyers) (maxL := 4) (ty := .int) (lv := [(0, .ref (ad 88))]) (by decide) rfl (fun r M' hp => rfl) (Nat.le_of_ble_eq_true rfl) rfl ?_
  intro p e s m args below meth c A Q C hret
  refine y_iconst C dX5_neededBuyers_0 ?_
  refine j_istore_n C 1 [(1, .int (sI 0)), (0, .ref (ad 88))] dX5_neededBuyers_1 rfl (by decide) rfl ?_
  refine y_iconst C dX5_neededBuyers_2 ?_
  refine j_aload_n C 1 0 dX5_neededBuyers_3 rfl rfl ?_
  refine y_getM C 4 6 fX5_neededBuyers_52 rfl rfl ft_4_9 sm_4_9 (by decide) hM0 dX5_neededBuyers_4 (fun v101 ev101 cv101 => ?_)
  refine y_getI C 6 _ _ fX5_neededBuyers_92 cv101 rfl ft_6_0 sb_6_0 hM0 dX5_neededBuyers_7 (fun a102 ea102 la102 ua102 => ?_)
  refine y_shl1 C 6 64 dX5_neededBuyers_10 rfl (by decide) (by omega) (fun a104 la104 ua104 => ?_)
  refine y_iconst C dX5_neededBuyers_11 ?_
  refine y_isub C dX5_neededBuyers_12 ?_
  refine j_istore_n C 2 [(2, .int (sI (a104 - 1))), (1, .int (sI 0)), (0, .ref (ad 88))] dX5_neededBuyers_13 rfl (by decide) rfl ?_
  refine j_aload_n C 2 0 dX5_neededBuyers_14 rfl rfl ?_
  refine j_iload_n C 0 2 dX5_neededBuyers_15 rfl rfl ?_
  refine j_callVi C (d := 2) (As := [.int (sI (a104 - 1))]) (st := []) 88 (s_lt rfl rfl) (s_kc (c := 4) rfl rfl) (by decide) rfl (s1_X5_measure hM0 hpr (a104 - 1) (by omega)) gX5_neededBuyers_X5_measure rfl hdX5_measure (by decide) (Nat.le_of_ble_eq_true rfl) dX5_neededBuyers_16 rfl (fun r105 M106 h107 => ?_)
  obtain ⟨a109, rfl, hM106, h108⟩ := h107
  refine y_iconst C dX5_neededBuyers_19 ?_
  refine y_icmp_ne C 25 dX5_neededBuyers_20 (by decide) (by omega) (fun h110 => ?_) (fun h110 => ?_)
  · refine y_iconst C dX5_neededBuyers_25 ?_
    refine j_istore_n C 3 [(3, .int (sI 0)), (2, .int (sI (a104 - 1))), (1, .int (sI 0)), (0, .ref (ad 88))] dX5_neededBuyers_26 rfl (by decide) rfl ?_
    have L232 : ∀ (n230 : Nat), ∀ (a233 : Int) (a234 : Int) (M235 : mm_M), (0 ≤ a233 ∧ a233 ≤ 63 ∧ 0 ≤ a234 ∧ a234 ≤ 6 ∧ (6 - a234) < (n230 : Int)) → INV pr Kz M235 → jj p l e (cn_R 3) s m args below meth c 0 0 Q 4 dC dI ad cA A M235 27 [(0, .ref (ad 88)), (1, .int (sI a233)), (2, .int (sI (a104 - 1))), (3, .int (sI a234))] [] := by
      intro n230
      induction n230 with
      | zero =>
        intro a233 a234 M235 h236 hM235
        exfalso; omega
      | succ n230 ih231 =>
        intro a233 a234 M235 h236 hM235
        refine j_iload_n C 3 3 dX5_neededBuyers_27 rfl rfl ?_
        refine j_aload_n C 0 0 dX5_neededBuyers_28 rfl rfl ?_
        refine y_getM C 4 6 fX5_neededBuyers_52 rfl rfl ft_4_9 sm_4_9 (by decide) hM235 dX5_neededBuyers_29 (fun v237 ev237 cv237 => ?_)
        refine y_getI C 6 _ _ fX5_neededBuyers_92 cv237 rfl ft_6_0 sb_6_0 hM235 dX5_neededBuyers_32 (fun a238 ea238 la238 ua238 => ?_)
        refine y_icmp_ge C 65 dX5_neededBuyers_35 (by decide) (by omega) (fun h240 => ?_) (fun h240 => ?_)
        · refine j_iload_n C 1 1 dX5_neededBuyers_65 rfl rfl ?_
          exact hret _ _ _ _ dX5_neededBuyers_66 ⟨a233, rfl, hM235, by omega⟩
        · refine j_aload_n C 0 0 dX5_neededBuyers_38 rfl rfl ?_
          refine j_iload_n C 2 2 dX5_neededBuyers_39 rfl rfl ?_
          refine y_iconst C dX5_neededBuyers_40 ?_
          refine j_iload_n C 3 3 dX5_neededBuyers_41 rfl rfl ?_
          refine y_shl1 C 5 32 dX5_neededBuyers_42 rfl (by decide) (by omega) (fun a241 la241 ua241 => ?_)
          refine y_iconst C dX5_neededBuyers_43 ?_
          refine y_not C dX5_neededBuyers_44 ?_
          refine y_iandL C dX5_neededBuyers_45 (by omega) (fun a242 la242 ua242 => ?_)
          refine j_callVi C (d := 2) (As := [.int (sI a242)]) (st := []) 88 (s_lt rfl rfl) (s_kc (c := 4) rfl rfl) (by decide) rfl (s1_X5_measure hM235 hpr a242 (by omega)) gX5_neededBuyers_X5_measure rfl hdX5_measure (by decide) (Nat.le_of_ble_eq_true rfl) dX5_neededBuyers_46 rfl (fun r243 M244 h245 => ?_)
          obtain ⟨a247, rfl, hM244, h246⟩ := h245
          refine y_iconst C dX5_neededBuyers_49 ?_
          refine y_icmp_ne C 59 dX5_neededBuyers_50 (by decide) (by omega) (fun h248 => ?_) (fun h248 => ?_)
          · refine y_iinc C 3 [(3, .int (sI (a234 + 1))), (0, .ref (ad 88)), (1, .int (sI a233)), (2, .int (sI (a104 - 1)))] dX5_neededBuyers_59 rfl (by decide) rfl ?_
            refine j_goto C 27 dX5_neededBuyers_62 (by decide) ?_
            refine j_lv [1, 2, 3, 0] rfl ?_; exact ih231 a233 (a234 + 1) M244 (by omega) hM244
          · refine j_iload_n C 1 1 dX5_neededBuyers_53 rfl rfl ?_
            refine y_iconst C dX5_neededBuyers_54 ?_
            refine j_iload_n C 3 3 dX5_neededBuyers_55 rfl rfl ?_
            refine y_shl1 C 5 32 dX5_neededBuyers_56 rfl (by decide) (by omega) (fun a249 la249 ua249 => ?_)
            refine y_iorN C 6 63 dX5_neededBuyers_57 rfl (by decide) (by omega) (fun a250 la250 ua250 => ?_)
            refine j_istore_n C 1 [(1, .int (sI a250)), (0, .ref (ad 88)), (2, .int (sI (a104 - 1))), (3, .int (sI a234))] dX5_neededBuyers_58 rfl (by decide) rfl ?_
            refine y_iinc C 3 [(3, .int (sI (a234 + 1))), (1, .int (sI a250)), (0, .ref (ad 88)), (2, .int (sI (a104 - 1)))] dX5_neededBuyers_59 rfl (by decide) rfl ?_
            refine j_goto C 27 dX5_neededBuyers_62 (by decide) ?_
            refine j_lv [2, 1, 3, 0] rfl ?_; exact ih231 a250 (a234 + 1) M244 (by omega) hM244
    refine j_lv [3, 2, 1, 0] rfl ?_; exact L232 2010 0 0 M106 (by omega) hM106
  · refine j_iload_n C 1 1 dX5_neededBuyers_23 rfl rfl ?_
    exact hret _ _ _ _ dX5_neededBuyers_24 ⟨0, rfl, hM106, by omega⟩
set_option maxHeartbeats 4000000 in
theorem s1_X11_needed {l : Launch} {dC : Nat → ClassId} {dI : Nat → Nat → Nat} {ad : Nat → Nat} {cA : Nat → ClassId} {pr : Nat → Nat → Bool} {Kz : mm_M} {M0 : mm_M} (hM0 : INV pr Kz M0) (hpr : PX pr)  : Ci l 6 yX11_needed wsX11_needed dC dI ad cA [.ref (ad 0)] M0 (fun r M' => ∃ a : Int, r = sI a ∧ INV pr Kz M' ∧ 0 ≤ a ∧ a ≤ 63) := by
  refine ci_of (cc := cX11_needed) (maxL := 1) (ty := .int) (lv := [(0, .ref (ad 0))]) (by decide) rfl (fun r M' hp => rfl) (Nat.le_of_ble_eq_true rfl) rfl ?_
  intro p e s m args below meth c A Q C hret
  refine j_aload_n C 0 0 dX11_needed_0 rfl rfl ?_
  refine y_getC C 10 88 fX11_needed_94 rfl rfl ft_10_14 sm_10_14 rfl hM0 dX11_needed_1 ?_
  refine j_aload_n C 0 0 dX11_needed_4 rfl rfl ?_
  refine y_getM C 10 6 fX11_needed_26 rfl rfl ft_10_4 sm_10_4 (by decide) hM0 dX11_needed_5 (fun v101 ev101 cv101 => ?_)
  refine j_aload_n C 0 0 dX11_needed_8 rfl rfl ?_
  refine y_getC C 10 12 fX11_needed_36 rfl rfl ft_10_6 sm_10_6 rfl hM0 dX11_needed_9 ?_
  refine j_aload_n C 0 0 dX11_needed_12 rfl rfl ?_
  refine y_getC C 10 12 fX11_needed_36 rfl rfl ft_10_6 sm_10_6 rfl hM0 dX11_needed_13 ?_
  refine y_getI C 8 _ _ fX11_needed_153 rfl rfl ft_8_4 sb_8_4 hM0 dX11_needed_16 (fun a102 ea102 la102 ua102 => ?_)
  refine j_callVv C (d := 5) (As := [.ref (ad v101), .ref (ad 12), .int (sI a102)]) (st := []) 88 (s_lt rfl rfl) (s_kc (c := 4) rfl rfl) (by decide) rfl (s1_X5_look hM0 hpr cv101 rfl a102 (by omega)) gX11_needed_X5_look rfl hdX5_look (by decide) (Nat.le_of_ble_eq_true rfl) dX11_needed_19 rfl (fun M105 h106 => ?_)
  have hM105 := h106
  refine j_aload_n C 0 0 dX11_needed_22 rfl rfl ?_
  refine y_getC C 10 88 fX11_needed_94 rfl rfl ft_10_14 sm_10_14 rfl hM105 dX11_needed_23 ?_
  refine j_callVi C (d := 3) (As := []) (st := []) 88 (s_lt rfl rfl) (s_kc (c := 4) rfl rfl) (by decide) rfl (s1_X5_neededBuyers hM105 hpr) gX11_needed_X5_neededBuyers rfl hdX5_neededBuyers (by decide) (Nat.le_of_ble_eq_true rfl) dX11_needed_26 rfl (fun r108 M109 h110 => ?_)
  obtain ⟨a112, rfl, hM109, h111⟩ := h110
  exact hret _ _ _ _ dX11_needed_29 ⟨a112, rfl, hM109, by omega⟩
set_option maxHeartbeats 4000000 in
theorem s1_X5_everSold {l : Launch} {dC : Nat → ClassId} {dI : Nat → Nat → Nat} {ad : Nat → Nat} {cA : Nat → ClassId} {pr : Nat → Nat → Bool} {Kz : mm_M} {M0 : mm_M} (hM0 : INV pr Kz M0)  : Ci l 0 yX5_everSold wsX5_everSold dC dI ad cA [.ref (ad 88)] M0 (fun r M' => ∃ a : Int, r = sI a ∧ M0 = M' ∧ 0 ≤ a ∧ a ≤ 255) := by
  refine ci_of (cc := cX5_everSold) (maxL := 3) (ty := .int) (lv := [(0, .ref (ad 88))]) (by decide) rfl (fun r M' hp => rfl) (Nat.le_of_ble_eq_true rfl) rfl ?_
  intro p e s m args below meth c A Q C hret
  refine j_aload_n C 0 0 dX5_everSold_0 rfl rfl ?_
  refine y_getI C 4 _ _ fX5_everSold_45 rfl rfl ft_4_13 sb_4_13 hM0 dX5_everSold_1 (fun a101 ea101 la101 ua101 => ?_)
  refine j_istore_n C 1 [(1, .int (sI a101)), (0, .ref (ad 88))] dX5_everSold_4 rfl (by decide) rfl ?_
  refine j_aload_n C 1 0 dX5_everSold_5 rfl rfl ?_
  refine y_getI C 4 _ _ fX5_everSold_45 rfl rfl ft_4_13 sb_4_13 hM0 dX5_everSold_6 (fun a103 ea103 la103 ua103 => ?_)
  refine j_istore_n C 2 [(2, .int (sI a103)), (1, .int (sI a101)), (0, .ref (ad 88))] dX5_everSold_9 rfl (by decide) rfl ?_
  have L125 : ∀ (n123 : Nat), ∀ (a126 : Int) (a127 : Int), (0 ≤ a126 ∧ a126 ≤ 255 ∧ 0 ≤ a127 ∧ a127 ≤ 256 ∧ (256 - a127) < (n123 : Int)) → jj p l e (cn_R 0) s m args below meth c 0 0 Q 3 dC dI ad cA A M0 10 [(0, .ref (ad 88)), (1, .int (sI a126)), (2, .int (sI a127))] [] := by
    intro n123
    induction n123 with
    | zero =>
      intro a126 a127 h128
      exfalso; omega
    | succ n123 ih124 =>
      intro a126 a127 h128
      refine j_iload_n C 2 2 dX5_everSold_10 rfl rfl ?_
      refine j_aload_n C 0 0 dX5_everSold_11 rfl rfl ?_
      refine y_getI C 4 _ _ fX5_everSold_38 rfl rfl ft_4_11 sb_4_11 hM0 dX5_everSold_12 (fun a129 ea129 la129 ua129 => ?_)
      refine y_icmp_gt C 42 dX5_everSold_15 (by decide) (by omega) (fun h131 => ?_) (fun h131 => ?_)
      · refine j_iload_n C 1 1 dX5_everSold_42 rfl rfl ?_
        exact hret _ _ _ _ dX5_everSold_43 ⟨a126, rfl, rfl, by omega⟩
      · refine j_iload_n C 1 1 dX5_everSold_18 rfl rfl ?_
        refine j_aload_n C 0 0 dX5_everSold_19 rfl rfl ?_
        refine y_getC C 4 90 fX5_everSold_15 rfl rfl ft_4_2 sm_4_2 rfl hM0 dX5_everSold_20 ?_
        refine j_iload_n C 2 2 dX5_everSold_23 rfl rfl ?_
        refine y_iald C 39 256 _ _ rfl rfl rfl ak_39 an_39 rfl (sb_39 _) hM0 dX5_everSold_24 (by omega) (fun a132 ea132 la132 ua132 => ?_)
        refine y_iconst C dX5_everSold_25 ?_
        refine y_icmp_ne C 33 dX5_everSold_26 (by decide) (by omega) (fun h133 => ?_) (fun h133 => ?_)
        · refine y_iconst C dX5_everSold_33 ?_
          refine y_iorN C 8 255 dX5_everSold_34 rfl (by decide) (by omega) (fun a134 la134 ua134 => ?_)
          refine j_istore_n C 1 [(1, .int (sI a134)), (0, .ref (ad 88)), (2, .int (sI a127))] dX5_everSold_35 rfl (by decide) rfl ?_
          refine y_iinc C 2 [(2, .int (sI (a127 + 1))), (1, .int (sI a134)), (0, .ref (ad 88))] dX5_everSold_36 rfl (by decide) rfl ?_
          refine j_goto C 10 dX5_everSold_39 (by decide) ?_
          refine j_lv [2, 1, 0] rfl ?_; exact ih124 a134 (a127 + 1) (by omega)
        · refine j_iload_n C 2 2 dX5_everSold_29 rfl rfl ?_
          refine j_goto C 34 dX5_everSold_30 (by decide) ?_
          refine y_iorN C 8 255 dX5_everSold_34 rfl (by decide) (by omega) (fun a135 la135 ua135 => ?_)
          refine j_istore_n C 1 [(1, .int (sI a135)), (0, .ref (ad 88)), (2, .int (sI a127))] dX5_everSold_35 rfl (by decide) rfl ?_
          refine y_iinc C 2 [(2, .int (sI (a127 + 1))), (1, .int (sI a135)), (0, .ref (ad 88))] dX5_everSold_36 rfl (by decide) rfl ?_
          refine j_goto C 10 dX5_everSold_39 (by decide) ?_
          refine j_lv [2, 1, 0] rfl ?_; exact ih124 a135 (a127 + 1) (by omega)
  refine j_lv [2, 1, 0] rfl ?_; exact L125 2010 a101 a103 (by omega)
set_option maxHeartbeats 4000000 in
theorem s1_X11_sellable {l : Launch} {dC : Nat → ClassId} {dI : Nat → Nat → Nat} {ad : Nat → Nat} {cA : Nat → ClassId} {pr : Nat → Nat → Bool} {Kz : mm_M} {M0 : mm_M} (hM0 : INV pr Kz M0) (hpr : PX pr)  : Ci l 6 yX11_sellable wsX11_sellable dC dI ad cA [.ref (ad 0)] M0 (fun r M' => ∃ a : Int, r = sI a ∧ INV pr Kz M' ∧ 0 ≤ a ∧ a ≤ 255) := by
  refine ci_of (cc := cX11_sellable) (maxL := 1) (ty := .int) (lv := [(0, .ref (ad 0))]) (by decide) rfl (fun r M' hp => rfl) (Nat.le_of_ble_eq_true rfl) rfl ?_
  intro p e s m args below meth c A Q C hret
  refine j_aload_n C 0 0 dX11_sellable_0 rfl rfl ?_
  refine y_getC C 10 88 fX11_sellable_94 rfl rfl ft_10_14 sm_10_14 rfl hM0 dX11_sellable_1 ?_
  refine j_aload_n C 0 0 dX11_sellable_4 rfl rfl ?_
  refine y_getM C 10 6 fX11_sellable_26 rfl rfl ft_10_4 sm_10_4 (by decide) hM0 dX11_sellable_5 (fun v101 ev101 cv101 => ?_)
  refine j_aload_n C 0 0 dX11_sellable_8 rfl rfl ?_
  refine y_getC C 10 12 fX11_sellable_36 rfl rfl ft_10_6 sm_10_6 rfl hM0 dX11_sellable_9 ?_
  refine j_aload_n C 0 0 dX11_sellable_12 rfl rfl ?_
  refine y_getC C 10 12 fX11_sellable_36 rfl rfl ft_10_6 sm_10_6 rfl hM0 dX11_sellable_13 ?_
  refine y_getI C 8 _ _ fX11_sellable_153 rfl rfl ft_8_4 sb_8_4 hM0 dX11_sellable_16 (fun a102 ea102 la102 ua102 => ?_)
  refine j_callVv C (d := 5) (As := [.ref (ad v101), .ref (ad 12), .int (sI a102)]) (st := []) 88 (s_lt rfl rfl) (s_kc (c := 4) rfl rfl) (by decide) rfl (s1_X5_look hM0 hpr cv101 rfl a102 (by omega)) gX11_sellable_X5_look rfl hdX5_look (by decide) (Nat.le_of_ble_eq_true rfl) dX11_sellable_19 rfl (fun M105 h106 => ?_)
  have hM105 := h106
  refine j_aload_n C 0 0 dX11_sellable_22 rfl rfl ?_
  refine y_getC C 10 88 fX11_sellable_94 rfl rfl ft_10_14 sm_10_14 rfl hM105 dX11_sellable_23 ?_
  refine j_callVi C (d := 0) (As := []) (st := []) 88 (s_lt rfl rfl) (s_kc (c := 4) rfl rfl) (by decide) rfl (s1_X5_everSold hM105) gX11_sellable_X5_everSold rfl hdX5_everSold (by decide) (Nat.le_of_ble_eq_true rfl) dX11_sellable_26 rfl (fun r108 M109 h110 => ?_)
  obtain ⟨a112, rfl, rfl, h111⟩ := h110
  exact hret _ _ _ _ dX11_sellable_29 ⟨a112, rfl, hM105, by omega⟩
set_option maxHeartbeats 4000000 in
theorem s1_X11_guards {l : Launch} {dC : Nat → ClassId} {dI : Nat → Nat → Nat} {ad : Nat → Nat} {cA : Nat → ClassId} {pr : Nat → Nat → Bool} {Kz : mm_M} {M0 : mm_M} (hM0 : INV pr Kz M0) (hpr : PX pr)  : Ci l 6 yX11_guards wsX11_guards dC dI ad cA [.ref (ad 0)] M0 (fun r M' => ∃ a : Int, r = sI a ∧ INV pr Kz M' ∧ 0 ≤ a ∧ a ≤ 255) := by
  refine ci_of (cc := cX11_guards) (maxL := 3) (ty := .int) (lv := [(0, .ref (ad 0))]) (by decide) rfl (fun r M' hp => rfl) (Nat.le_of_ble_eq_true rfl) rfl ?_
  intro p e s m args below meth c A Q C hret
  refine y_iconst C dX11_guards_0 ?_
  refine j_istore_n C 1 [(1, .int (sI 0)), (0, .ref (ad 0))] dX11_guards_1 rfl (by decide) rfl ?_
  refine j_aload_n C 1 0 dX11_guards_2 rfl rfl ?_
  refine y_getC C 10 88 fX11_guards_94 rfl rfl ft_10_14 sm_10_14 rfl hM0 dX11_guards_3 ?_
  refine j_aload_n C 1 0 dX11_guards_6 rfl rfl ?_
  refine y_getM C 10 6 fX11_guards_26 rfl rfl ft_10_4 sm_10_4 (by decide) hM0 dX11_guards_7 (fun v101 ev101 cv101 => ?_)
  refine j_aload_n C 1 0 dX11_guards_10 rfl rfl ?_
  refine y_getC C 10 12 fX11_guards_36 rfl rfl ft_10_6 sm_10_6 rfl hM0 dX11_guards_11 ?_
  refine j_aload_n C 1 0 dX11_guards_14 rfl rfl ?_
  refine y_getC C 10 12 fX11_guards_36 rfl rfl ft_10_6 sm_10_6 rfl hM0 dX11_guards_15 ?_
  refine y_getI C 8 _ _ fX11_guards_153 rfl rfl ft_8_4 sb_8_4 hM0 dX11_guards_18 (fun a102 ea102 la102 ua102 => ?_)
  refine j_callVv C (d := 5) (As := [.ref (ad v101), .ref (ad 12), .int (sI a102)]) (st := []) 88 (s_lt rfl rfl) (s_kc (c := 4) rfl rfl) (by decide) rfl (s1_X5_look hM0 hpr cv101 rfl a102 (by omega)) gX11_guards_X5_look rfl hdX5_look (by decide) (Nat.le_of_ble_eq_true rfl) dX11_guards_21 rfl (fun M105 h106 => ?_)
  have hM105 := h106
  refine j_aload_n C 1 0 dX11_guards_24 rfl rfl ?_
  refine y_getC C 10 88 fX11_guards_94 rfl rfl ft_10_14 sm_10_14 rfl hM105 dX11_guards_25 ?_
  refine j_callVi C (d := 3) (As := []) (st := []) 88 (s_lt rfl rfl) (s_kc (c := 4) rfl rfl) (by decide) rfl (s1_X5_shortest hM105 hpr) gX11_guards_X5_shortest rfl hdX5_shortest (by decide) (Nat.le_of_ble_eq_true rfl) dX11_guards_28 rfl (fun r108 M109 h110 => ?_)
  obtain ⟨a112, rfl, hM109, h111⟩ := h110
  refine y_iconst C dX11_guards_31 ?_
  refine y_icmp_ne C 37 dX11_guards_32 (by decide) (by omega) (fun h113 => ?_) (fun h113 => ?_)
  · refine y_iconst C dX11_guards_37 ?_
    refine j_istore_n C 2 [(2, .int (sI 0)), (1, .int (sI 0)), (0, .ref (ad 0))] dX11_guards_38 rfl (by decide) rfl ?_
    have L377 : ∀ (n375 : Nat), ∀ (a378 : Int) (a379 : Int) (M380 : mm_M), (0 ≤ a378 ∧ a378 ≤ 255 ∧ 0 ≤ a379 ∧ a379 ≤ 8 ∧ (8 - a379) < (n375 : Int)) → INV pr Kz M380 → jj p l e (cn_R 6) s m args below meth c 0 0 Q 3 dC dI ad cA A M380 39 [(0, .ref (ad 0)), (1, .int (sI a378)), (2, .int (sI a379))] [] := by
      intro n375
      induction n375 with
      | zero =>
        intro a378 a379 M380 h381 hM380
        exfalso; omega
      | succ n375 ih376 =>
        intro a378 a379 M380 h381 hM380
        refine j_iload_n C 2 2 dX11_guards_39 rfl rfl ?_
        refine j_aload_n C 0 0 dX11_guards_40 rfl rfl ?_
        refine y_getC C 10 12 fX11_guards_36 rfl rfl ft_10_6 sm_10_6 rfl hM380 dX11_guards_41 ?_
        refine y_getI C 8 _ _ fX11_guards_160 rfl rfl ft_8_0 sb_8_0 hM380 dX11_guards_44 (fun a382 ea382 la382 ua382 => ?_)
        refine y_icmp_ge C 117 dX11_guards_47 (by decide) (by omega) (fun h384 => ?_) (fun h384 => ?_)
        · refine j_iload_n C 1 1 dX11_guards_117 rfl rfl ?_
          exact hret _ _ _ _ dX11_guards_118 ⟨a378, rfl, hM380, by omega⟩
        · refine j_aload_n C 0 0 dX11_guards_50 rfl rfl ?_
          refine y_getC C 10 12 fX11_guards_36 rfl rfl ft_10_6 sm_10_6 rfl hM380 dX11_guards_51 ?_
          refine y_getI C 8 _ _ fX11_guards_153 rfl rfl ft_8_4 sb_8_4 hM380 dX11_guards_54 (fun a385 ea385 la385 ua385 => ?_)
          refine j_iload_n C 2 2 dX11_guards_57 rfl rfl ?_
          refine y_ishrP C dX11_guards_58 (by omega) (fun a387 la387 ua387 => ?_)
          refine y_iconst C dX11_guards_59 ?_
          refine y_iandR C dX11_guards_60 (by omega) (fun a388 la388 ua388 => ?_)
          refine y_if_ne C 111 dX11_guards_61 (by decide) (by omega) (fun h389 => ?_) (fun h389 => ?_)
          · refine y_iinc C 2 [(2, .int (sI (a379 + 1))), (0, .ref (ad 0)), (1, .int (sI a378))] dX11_guards_111 rfl (by decide) rfl ?_
            refine j_goto C 39 dX11_guards_114 (by decide) ?_
            refine j_lv [1, 2, 0] rfl ?_; exact ih376 a378 (a379 + 1) M380 (by omega) hM380
          · refine j_aload_n C 0 0 dX11_guards_64 rfl rfl ?_
            refine y_getC C 10 88 fX11_guards_94 rfl rfl ft_10_14 sm_10_14 rfl hM380 dX11_guards_65 ?_
            refine j_aload_n C 0 0 dX11_guards_68 rfl rfl ?_
            refine y_getM C 10 6 fX11_guards_26 rfl rfl ft_10_4 sm_10_4 (by decide) hM380 dX11_guards_69 (fun v390 ev390 cv390 => ?_)
            refine j_aload_n C 0 0 dX11_guards_72 rfl rfl ?_
            refine y_getC C 10 12 fX11_guards_36 rfl rfl ft_10_6 sm_10_6 rfl hM380 dX11_guards_73 ?_
            refine j_aload_n C 0 0 dX11_guards_76 rfl rfl ?_
            refine y_getC C 10 12 fX11_guards_36 rfl rfl ft_10_6 sm_10_6 rfl hM380 dX11_guards_77 ?_
            refine y_getI C 8 _ _ fX11_guards_153 rfl rfl ft_8_4 sb_8_4 hM380 dX11_guards_80 (fun a391 ea391 la391 ua391 => ?_)
            refine y_iconst C dX11_guards_83 ?_
            refine j_iload_n C 2 2 dX11_guards_84 rfl rfl ?_
            refine y_shl1 C 7 128 dX11_guards_85 rfl (by decide) (by omega) (fun a393 la393 ua393 => ?_)
            refine y_iorN C 8 255 dX11_guards_86 rfl (by decide) (by omega) (fun a394 la394 ua394 => ?_)
            refine j_callVv C (d := 5) (As := [.ref (ad v390), .ref (ad 12), .int (sI a394)]) (st := []) 88 (s_lt rfl rfl) (s_kc (c := 4) rfl rfl) (by decide) rfl (s1_X5_look hM380 hpr cv390 rfl a394 (by omega)) gX11_guards_X5_look rfl hdX5_look (by decide) (Nat.le_of_ble_eq_true rfl) dX11_guards_87 rfl (fun M396 h397 => ?_)
            have hM396 := h397
            refine j_iload_n C 1 1 dX11_guards_90 rfl rfl ?_
            refine j_aload_n C 0 0 dX11_guards_91 rfl rfl ?_
            refine y_getC C 10 88 fX11_guards_94 rfl rfl ft_10_14 sm_10_14 rfl hM396 dX11_guards_92 ?_
            refine j_callVi C (d := 3) (As := []) (st := [.int (sI a378)]) 88 (s_lt rfl rfl) (s_kc (c := 4) rfl rfl) (by decide) rfl (s1_X5_shortest hM396 hpr) gX11_guards_X5_shortest rfl hdX5_shortest (by decide) (Nat.le_of_ble_eq_true rfl) dX11_guards_95 rfl (fun r399 M400 h401 => ?_)
            obtain ⟨a403, rfl, hM400, h402⟩ := h401
            refine y_iconst C dX11_guards_98 ?_
            refine y_icmp_ne C 108 dX11_guards_99 (by decide) (by omega) (fun h404 => ?_) (fun h404 => ?_)
            · refine y_iconst C dX11_guards_108 ?_
              refine y_iorN C 8 255 dX11_guards_109 rfl (by decide) (by omega) (fun a405 la405 ua405 => ?_)
              refine j_istore_n C 1 [(1, .int (sI a405)), (0, .ref (ad 0)), (2, .int (sI a379))] dX11_guards_110 rfl (by decide) rfl ?_
              refine y_iinc C 2 [(2, .int (sI (a379 + 1))), (1, .int (sI a405)), (0, .ref (ad 0))] dX11_guards_111 rfl (by decide) rfl ?_
              refine j_goto C 39 dX11_guards_114 (by decide) ?_
              refine j_lv [2, 1, 0] rfl ?_; exact ih376 a405 (a379 + 1) M400 (by omega) hM400
            · refine y_iconst C dX11_guards_102 ?_
              refine j_iload_n C 2 2 dX11_guards_103 rfl rfl ?_
              refine y_shl1 C 7 128 dX11_guards_104 rfl (by decide) (by omega) (fun a406 la406 ua406 => ?_)
              refine j_goto C 109 dX11_guards_105 (by decide) ?_
              refine y_iorN C 8 255 dX11_guards_109 rfl (by decide) (by omega) (fun a407 la407 ua407 => ?_)
              refine j_istore_n C 1 [(1, .int (sI a407)), (0, .ref (ad 0)), (2, .int (sI a379))] dX11_guards_110 rfl (by decide) rfl ?_
              refine y_iinc C 2 [(2, .int (sI (a379 + 1))), (1, .int (sI a407)), (0, .ref (ad 0))] dX11_guards_111 rfl (by decide) rfl ?_
              refine j_goto C 39 dX11_guards_114 (by decide) ?_
              refine j_lv [2, 1, 0] rfl ?_; exact ih376 a407 (a379 + 1) M400 (by omega) hM400
    refine j_lv [2, 1, 0] rfl ?_; exact L377 2010 0 0 M109 (by omega) hM109
  · refine j_iload_n C 0 1 dX11_guards_35 rfl rfl ?_
    exact hret _ _ _ _ dX11_guards_36 ⟨0, rfl, hM109, by omega⟩
set_option maxHeartbeats 4000000 in
theorem s1_X5_lastLeft {l : Launch} {dC : Nat → ClassId} {dI : Nat → Nat → Nat} {ad : Nat → Nat} {cA : Nat → ClassId} {pr : Nat → Nat → Bool} {Kz : mm_M} {M0 : mm_M} (hM0 : INV pr Kz M0)  : Ci l 1 yX5_lastLeft wsX5_lastLeft dC dI ad cA [.ref (ad 88)] M0 (fun r M' => ∃ a : Int, r = sI a ∧ M0 = M' ∧ 0 ≤ a ∧ a ≤ 255) := by
  refine ci_of (cc := cX5_lastLeft) (maxL := 4) (ty := .int) (lv := [(0, .ref (ad 88))]) (by decide) rfl (fun r M' hp => rfl) (Nat.le_of_ble_eq_true rfl) rfl ?_
  intro p e s m args below meth c A Q C hret
  refine y_iconst C dX5_lastLeft_0 ?_
  refine j_istore_n C 1 [(1, .int (sI 0)), (0, .ref (ad 88))] dX5_lastLeft_1 rfl (by decide) rfl ?_
  refine j_aload_n C 1 0 dX5_lastLeft_2 rfl rfl ?_
  refine y_getI C 4 _ _ fX5_lastLeft_45 rfl rfl ft_4_13 sb_4_13 hM0 dX5_lastLeft_3 (fun a101 ea101 la101 ua101 => ?_)
  refine j_istore_n C 2 [(2, .int (sI a101)), (1, .int (sI 0)), (0, .ref (ad 88))] dX5_lastLeft_6 rfl (by decide) rfl ?_
  have L139 : ∀ (n137 : Nat), ∀ (a140 : Int) (a141 : Int), (0 ≤ a140 ∧ a140 ≤ 255 ∧ 0 ≤ a141 ∧ a141 ≤ 256 ∧ (256 - a141) < (n137 : Int)) → jj p l e (cn_R 1) s m args below meth c 0 0 Q 4 dC dI ad cA A M0 7 [(0, .ref (ad 88)), (1, .int (sI a140)), (2, .int (sI a141))] [] := by
    intro n137
    induction n137 with
    | zero =>
      intro a140 a141 h142
      exfalso; omega
    | succ n137 ih138 =>
      intro a140 a141 h142
      refine j_iload_n C 2 2 dX5_lastLeft_7 rfl rfl ?_
      refine j_aload_n C 0 0 dX5_lastLeft_8 rfl rfl ?_
      refine y_getI C 4 _ _ fX5_lastLeft_38 rfl rfl ft_4_11 sb_4_11 hM0 dX5_lastLeft_9 (fun a143 ea143 la143 ua143 => ?_)
      refine y_icmp_gt C 52 dX5_lastLeft_12 (by decide) (by omega) (fun h145 => ?_) (fun h145 => ?_)
      · refine j_iload_n C 1 1 dX5_lastLeft_52 rfl rfl ?_
        exact hret _ _ _ _ dX5_lastLeft_53 ⟨a140, rfl, rfl, by omega⟩
      · refine j_aload_n C 0 0 dX5_lastLeft_15 rfl rfl ?_
        refine y_getI C 4 _ _ fX5_lastLeft_42 rfl rfl ft_4_12 sb_4_12 hM0 dX5_lastLeft_16 (fun a146 ea146 la146 ua146 => ?_)
        refine j_iload_n C 2 2 dX5_lastLeft_19 rfl rfl ?_
        refine y_iconst C dX5_lastLeft_20 ?_
        refine y_not C dX5_lastLeft_21 ?_
        refine y_iandL C dX5_lastLeft_22 (by omega) (fun a148 la148 ua148 => ?_)
        refine j_istore_n C 3 [(3, .int (sI a148)), (0, .ref (ad 88)), (1, .int (sI a140)), (2, .int (sI a141))] dX5_lastLeft_23 rfl (by decide) rfl ?_
        refine j_aload_n C 1 0 dX5_lastLeft_24 rfl rfl ?_
        refine y_getC C 4 90 fX5_lastLeft_15 rfl rfl ft_4_2 sm_4_2 rfl hM0 dX5_lastLeft_25 ?_
        refine j_iload_n C 3 2 dX5_lastLeft_28 rfl rfl ?_
        refine y_iald C 39 256 _ _ rfl rfl rfl ak_39 an_39 rfl (sb_39 _) hM0 dX5_lastLeft_29 (by omega) (fun a149 ea149 la149 ua149 => ?_)
        refine y_iconst C dX5_lastLeft_30 ?_
        refine y_icmp_ne C 46 dX5_lastLeft_31 (by decide) (by omega) (fun h150 => ?_) (fun h150 => ?_)
        · refine y_iinc C 3 [(2, .int (sI (a141 + 1))), (3, .int (sI a148)), (0, .ref (ad 88)), (1, .int (sI a140))] dX5_lastLeft_46 rfl (by decide) rfl ?_
          refine j_goto C 7 dX5_lastLeft_49 (by decide) ?_
          refine j_lv [2, 3, 0] rfl ?_; exact ih138 a140 (a141 + 1) (by omega)
        · refine j_iload_n C 0 3 dX5_lastLeft_34 rfl rfl ?_
          refine j_callSi C (d := 0) (As := [.int (sI a148)]) (st := []) (s1_J6_bitCount_0f7a4 hM0 a148 (by omega)) gX5_lastLeft_J6_bitCount_0f7a4 rfl hdJ6_bitCount_0f7a4s (by decide) (Nat.le_of_ble_eq_true rfl) dX5_lastLeft_35 rfl (fun r151 M152 h153 => ?_)
          obtain ⟨a155, rfl, rfl, h154⟩ := h153
          refine y_iconst C dX5_lastLeft_38 ?_
          refine y_icmp_ne C 46 dX5_lastLeft_39 (by decide) (by omega) (fun h156 => ?_) (fun h156 => ?_)
          · refine y_iinc C 3 [(2, .int (sI (a141 + 1))), (3, .int (sI a148)), (0, .ref (ad 88)), (1, .int (sI a140))] dX5_lastLeft_46 rfl (by decide) rfl ?_
            refine j_goto C 7 dX5_lastLeft_49 (by decide) ?_
            refine j_lv [2, 3, 0] rfl ?_; exact ih138 a140 (a141 + 1) (by omega)
          · refine j_iload_n C 2 1 dX5_lastLeft_42 rfl rfl ?_
            refine j_iload_n C 0 3 dX5_lastLeft_43 rfl rfl ?_
            refine y_iorN C 8 255 dX5_lastLeft_44 rfl (by decide) (by omega) (fun a157 la157 ua157 => ?_)
            refine j_istore_n C 1 [(1, .int (sI a157)), (3, .int (sI a148)), (0, .ref (ad 88)), (2, .int (sI a141))] dX5_lastLeft_45 rfl (by decide) rfl ?_
            refine y_iinc C 3 [(2, .int (sI (a141 + 1))), (1, .int (sI a157)), (3, .int (sI a148)), (0, .ref (ad 88))] dX5_lastLeft_46 rfl (by decide) rfl ?_
            refine j_goto C 7 dX5_lastLeft_49 (by decide) ?_
            refine j_lv [3, 1, 0] rfl ?_; exact ih138 a157 (a141 + 1) (by omega)
  refine j_lv [2, 1, 0] rfl ?_; exact L139 2010 0 a101 (by omega)
set_option maxHeartbeats 4000000 in
theorem s1_X11_last {l : Launch} {dC : Nat → ClassId} {dI : Nat → Nat → Nat} {ad : Nat → Nat} {cA : Nat → ClassId} {pr : Nat → Nat → Bool} {Kz : mm_M} {M0 : mm_M} (hM0 : INV pr Kz M0) (hpr : PX pr)  : Ci l 6 yX11_last wsX11_last dC dI ad cA [.ref (ad 0)] M0 (fun r M' => ∃ a : Int, r = sI a ∧ INV pr Kz M' ∧ 0 ≤ a ∧ a ≤ 255) := by
  refine ci_of (cc := cX11_last) (maxL := 1) (ty := .int) (lv := [(0, .ref (ad 0))]) (by decide) rfl (fun r M' hp => rfl) (Nat.le_of_ble_eq_true rfl) rfl ?_
  intro p e s m args below meth c A Q C hret
  refine j_aload_n C 0 0 dX11_last_0 rfl rfl ?_
  refine y_getC C 10 88 fX11_last_94 rfl rfl ft_10_14 sm_10_14 rfl hM0 dX11_last_1 ?_
  refine j_aload_n C 0 0 dX11_last_4 rfl rfl ?_
  refine y_getM C 10 6 fX11_last_26 rfl rfl ft_10_4 sm_10_4 (by decide) hM0 dX11_last_5 (fun v101 ev101 cv101 => ?_)
  refine j_aload_n C 0 0 dX11_last_8 rfl rfl ?_
  refine y_getC C 10 12 fX11_last_36 rfl rfl ft_10_6 sm_10_6 rfl hM0 dX11_last_9 ?_
  refine j_aload_n C 0 0 dX11_last_12 rfl rfl ?_
  refine y_getC C 10 12 fX11_last_36 rfl rfl ft_10_6 sm_10_6 rfl hM0 dX11_last_13 ?_
  refine y_getI C 8 _ _ fX11_last_153 rfl rfl ft_8_4 sb_8_4 hM0 dX11_last_16 (fun a102 ea102 la102 ua102 => ?_)
  refine j_callVv C (d := 5) (As := [.ref (ad v101), .ref (ad 12), .int (sI a102)]) (st := []) 88 (s_lt rfl rfl) (s_kc (c := 4) rfl rfl) (by decide) rfl (s1_X5_look hM0 hpr cv101 rfl a102 (by omega)) gX11_last_X5_look rfl hdX5_look (by decide) (Nat.le_of_ble_eq_true rfl) dX11_last_19 rfl (fun M105 h106 => ?_)
  have hM105 := h106
  refine j_aload_n C 0 0 dX11_last_22 rfl rfl ?_
  refine y_getC C 10 88 fX11_last_94 rfl rfl ft_10_14 sm_10_14 rfl hM105 dX11_last_23 ?_
  refine j_callVi C (d := 1) (As := []) (st := []) 88 (s_lt rfl rfl) (s_kc (c := 4) rfl rfl) (by decide) rfl (s1_X5_lastLeft hM105) gX11_last_X5_lastLeft rfl hdX5_lastLeft (by decide) (Nat.le_of_ble_eq_true rfl) dX11_last_26 rfl (fun r108 M109 h110 => ?_)
  obtain ⟨a112, rfl, rfl, h111⟩ := h110
  exact hret _ _ _ _ dX11_last_29 ⟨a112, rfl, hM105, by omega⟩
set_option maxHeartbeats 4000000 in
theorem s1_X11_chanceRefusal {l : Launch} {dC : Nat → ClassId} {dI : Nat → Nat → Nat} {ad : Nat → Nat} {cA : Nat → ClassId} {pr : Nat → Nat → Bool} {Kz : mm_M} {M0 : mm_M} (hM0 : INV pr Kz M0) (a0 : Int) (ha0 : -2147483648 ≤ a0 ∧ a0 ≤ 2147483647) (a1 : Int) (ha1 : -2147483648 ≤ a1 ∧ a1 ≤ 2147483647) (a2 : Int) (ha2 : -2147483648 ≤ a2 ∧ a2 ≤ 2147483647) : Ci l 0 yX11_chanceRefusal wsX11_chanceRefusal dC dI ad cA [.int (sI a0), .int (sI a1), .int (sI a2)] M0 (fun r M' => ∃ a : Int, r = sI a ∧ M0 = M' ∧ (-3) ≤ a ∧ a ≤ 0 ∧ ((a0 < 0 ∧ a = (-2)) ∨ (0 ≤ a0 ∧ a0 ≤ 1 ∧ a1 < 0 ∧ a = (-3)) ∨ (0 ≤ a0 ∧ a0 ≤ 1 ∧ 0 ≤ a1 ∧ a1 ≤ a2 ∧ a = 0) ∨ (0 ≤ a0 ∧ a0 ≤ 1 ∧ 0 ≤ a1 ∧ a2 < a1 ∧ a = (-3)) ∨ (0 ≤ a0 ∧ 1 < a0 ∧ a = (-2)))) := by
  refine ci_of (cc := cX11_chanceRefusal) (maxL := 3) (ty := .int) (lv := [(0, .int (sI a0)), (1, .int (sI a1)), (2, .int (sI a2))]) (by decide) rfl (fun r M' hp => rfl) (Nat.le_of_ble_eq_true rfl) rfl ?_
  intro p e s m args below meth c A Q C hret
  refine j_iload_n C 0 0 dX11_chanceRefusal_0 rfl rfl ?_
  refine y_if_lt C 9 dX11_chanceRefusal_1 (by decide) (by omega) (fun h101 => ?_) (fun h101 => ?_)
  · refine y_bipush C dX11_chanceRefusal_9 rfl ?_
    exact hret _ _ _ _ dX11_chanceRefusal_11 ⟨(-2), rfl, rfl, by omega⟩
  · refine j_iload_n C 0 0 dX11_chanceRefusal_4 rfl rfl ?_
    refine y_iconst C dX11_chanceRefusal_5 ?_
    refine y_icmp_le C 12 dX11_chanceRefusal_6 (by decide) (by omega) (fun h102 => ?_) (fun h102 => ?_)
    · refine j_iload_n C 1 1 dX11_chanceRefusal_12 rfl rfl ?_
      refine y_if_lt C 21 dX11_chanceRefusal_13 (by decide) (by omega) (fun h103 => ?_) (fun h103 => ?_)
      · refine y_bipush C dX11_chanceRefusal_21 rfl ?_
        refine j_goto C 27 dX11_chanceRefusal_23 (by decide) ?_
        exact hret _ _ _ _ dX11_chanceRefusal_27 ⟨(-3), rfl, rfl, by omega⟩
      · refine j_iload_n C 1 1 dX11_chanceRefusal_16 rfl rfl ?_
        refine j_iload_n C 2 2 dX11_chanceRefusal_17 rfl rfl ?_
        refine y_icmp_le C 26 dX11_chanceRefusal_18 (by decide) (by omega) (fun h104 => ?_) (fun h104 => ?_)
        · refine y_iconst C dX11_chanceRefusal_26 ?_
          exact hret _ _ _ _ dX11_chanceRefusal_27 ⟨0, rfl, rfl, by omega⟩
        · refine y_bipush C dX11_chanceRefusal_21 rfl ?_
          refine j_goto C 27 dX11_chanceRefusal_23 (by decide) ?_
          exact hret _ _ _ _ dX11_chanceRefusal_27 ⟨(-3), rfl, rfl, by omega⟩
    · refine y_bipush C dX11_chanceRefusal_9 rfl ?_
      exact hret _ _ _ _ dX11_chanceRefusal_11 ⟨(-2), rfl, rfl, by omega⟩
set_option maxHeartbeats 4000000 in
theorem s2_J7_fill_d0a16 {l : Launch} {dC : Nat → ClassId} {dI : Nat → Nat → Nat} {ad : Nat → Nat} {cA : Nat → ClassId} {pr : Nat → Nat → Bool} {Kz : mm_M} {M0 : mm_M} (hM0 : INV pr Kz M0) (hpr : PX pr) (a1 : Int) (ha1 : -9223372036854775808 ≤ a1 ∧ a1 ≤ 9223372036854775807) : Cv l 0 yJ7_fill_d0a16 wsJ7_fill_d0a16 dC dI ad cA [.ref (ad 94), .long (sJ a1)] M0 (fun M' => INV pr Kz M') := by
  refine cv_of (cc := cJ7_fill_d0a16) (maxL := 5) (lv := [(0, .ref (ad 94)), (1, .long (sJ a1))]) (by decide) rfl (Nat.le_of_ble_eq_true rfl) rfl ?_
  intro p e s m args below meth c A Q C hret
  refine y_iconst C dJ7_fill_d0a16_0 ?_
  refine j_istore_n C 3 [(3, .int (sI 0)), (0, .ref (ad 94)), (1, .long (sJ a1))] dJ7_fill_d0a16_1 rfl (by decide) rfl ?_
  refine j_aload_n C 1 0 dJ7_fill_d0a16_2 rfl rfl ?_
  refine y_alen C 42 6 rfl rfl rfl an_42 rfl rfl dJ7_fill_d0a16_3 ?_
  refine j_istore C 4 [(4, .int (sI 6)), (3, .int (sI 0)), (0, .ref (ad 94)), (1, .long (sJ a1))] dJ7_fill_d0a16_4 (by decide) rfl ?_
  have L131 : ∀ (n129 : Nat), ∀ (a132 : Int) (M133 : mm_M), (0 ≤ a132 ∧ a132 ≤ 6 ∧ (6 - a132) < (n129 : Int)) → INV pr Kz M133 → jj p l e (cn_R 0) s m args below meth c 0 0 Q 5 dC dI ad cA A M133 6 [(0, .ref (ad 94)), (1, .long (sJ a1)), (3, .int (sI a132)), (4, .int (sI 6))] [] := by
    intro n129
    induction n129 with
    | zero =>
      intro a132 M133 h134 hM133
      exfalso; omega
    | succ n129 ih130 =>
      intro a132 M133 h134 hM133
      refine j_iload_n C 2 3 dJ7_fill_d0a16_6 rfl rfl ?_
      refine j_iload C 3 dJ7_fill_d0a16_7 rfl ?_
      refine y_icmp_ge C 22 dJ7_fill_d0a16_9 (by decide) (by omega) (fun h135 => ?_) (fun h135 => ?_)
      · exact hret _ _ _ dJ7_fill_d0a16_22 hM133
      · refine j_aload_n C 0 0 dJ7_fill_d0a16_12 rfl rfl ?_
        refine j_iload_n C 2 3 dJ7_fill_d0a16_13 rfl rfl ?_
        refine j_lload_n C 1 1 dJ7_fill_d0a16_14 rfl rfl ?_
        refine y_last C 42 6 rfl rfl rfl ak_42 an_42 rfl hM133 (PX.w hpr rfl rfl) dJ7_fill_d0a16_15 (by omega) (fun M136 eM136 hM136 => ?_)
        refine y_iinc C 2 [(3, .int (sI (a132 + 1))), (0, .ref (ad 94)), (1, .long (sJ a1)), (4, .int (sI 6))] dJ7_fill_d0a16_16 rfl (by decide) rfl ?_
        refine j_goto C 6 dJ7_fill_d0a16_19 (by decide) ?_
        refine j_lv [1, 2, 0, 3] rfl ?_; exact ih130 (a132 + 1) M136 (by omega) hM136
  refine j_lv [2, 3, 1, 0] rfl ?_; exact L131 2010 0 M0 (by omega) hM0
set_option maxHeartbeats 4000000 in
theorem s1_X5_spread {l : Launch} {dC : Nat → ClassId} {dI : Nat → Nat → Nat} {ad : Nat → Nat} {cA : Nat → ClassId} {pr : Nat → Nat → Bool} {Kz : mm_M} {M0 : mm_M} (hM0 : INV pr Kz M0) (hpr : PX pr) (a1 : Int) (ha1 : -2147483648 ≤ a1 ∧ a1 ≤ 2147483647) (hp0 : 0 ≤ a1 ∧ a1 ≤ 255) : Cv l 1 yX5_spread wsX5_spread dC dI ad cA [.ref (ad 88), .int (sI a1)] M0 (fun M' => INV pr Kz M') := by
  refine cv_of (cc := cX5_spread) (maxL := 7) (lv := [(0, .ref (ad 88)), (1, .int (sI a1))]) (by decide) rfl (Nat.le_of_ble_eq_true rfl) rfl ?_
  intro p e s m args below meth c A Q C hret
  refine y_iconst C dX5_spread_0 ?_
  refine j_istore_n C 2 [(2, .int (sI 0)), (0, .ref (ad 88)), (1, .int (sI a1))] dX5_spread_1 rfl (by decide) rfl ?_
  have L411 : ∀ (n409 : Nat), ∀ (a412 : Int) (M413 : mm_M), (0 ≤ a412 ∧ a412 ≤ 6 ∧ (6 - a412) < (n409 : Int)) → INV pr Kz M413 → jj p l e (cn_R 1) s m args below meth c 0 0 Q 7 dC dI ad cA A M413 2 [(0, .ref (ad 88)), (1, .int (sI a1)), (2, .int (sI a412))] [] := by
    intro n409
    induction n409 with
    | zero =>
      intro a412 M413 h414 hM413
      exfalso; omega
    | succ n409 ih410 =>
      intro a412 M413 h414 hM413
      refine j_iload_n C 2 2 dX5_spread_2 rfl rfl ?_
      refine j_aload_n C 0 0 dX5_spread_3 rfl rfl ?_
      refine y_getM C 4 6 fX5_spread_52 rfl rfl ft_4_9 sm_4_9 (by decide) hM413 dX5_spread_4 (fun v415 ev415 cv415 => ?_)
      refine y_getI C 6 _ _ fX5_spread_92 cv415 rfl ft_6_0 sb_6_0 hM413 dX5_spread_7 (fun a416 ea416 la416 ua416 => ?_)
      refine y_icmp_ge C 127 dX5_spread_10 (by decide) (by omega) (fun h418 => ?_) (fun h418 => ?_)
      · exact hret _ _ _ dX5_spread_127 hM413
      · refine j_aload_n C 0 0 dX5_spread_13 rfl rfl ?_
        refine y_getM C 4 41 fX5_spread_21 rfl rfl ft_4_4 sm_4_4 (by decide) hM413 dX5_spread_14 (fun v419 ev419 cv419 => ?_)
        refine j_iload_n C 1 1 dX5_spread_17 rfl rfl ?_
        refine y_lald C 41 256 cv419 rfl rfl ak_41 an_41 rfl dX5_spread_18 (by omega) (fun a420 ea420 la420 ua420 => ?_)
        refine j_aload_n C 0 0 dX5_spread_19 rfl rfl ?_
        refine y_getV C 4 v415 fX5_spread_52 rfl rfl ft_4_9 (ev415) dX5_spread_20 ?_
        refine y_getT C 6 23 fX5_spread_153 cv415 rfl ft_6_4 rfl sm_6_4 st_6_4 (by decide) hM413 dX5_spread_23 (fun v421 cv421 => ?_)
        refine j_iload_n C 2 2 dX5_spread_26 rfl rfl ?_
        refine y_iald C 23 6 _ _ cv421 rfl rfl ak_23 an_23 rfl (sb_23 _) hM413 dX5_spread_27 (by omega) (fun a422 ea422 la422 ua422 => ?_)
        refine y_i2l C dX5_spread_28 (by omega) ?_
        refine y_lmul0 C dX5_spread_29 (fun a423 la423 ua423 => ?_)
        refine j_lstore_n C 3 [(3, .long (sJ a423)), (0, .ref (ad 88)), (1, .int (sI a1)), (2, .int (sI a412))] dX5_spread_30 rfl (by decide) rfl ?_
        refine j_aload_n C 1 0 dX5_spread_31 rfl rfl ?_
        refine j_iload_n C 2 1 dX5_spread_32 rfl rfl ?_
        refine j_iload_n C 3 2 dX5_spread_33 rfl rfl ?_
        refine j_callVi C (d := 0) (As := [.int (sI a1), .int (sI a412)]) (st := []) 88 (s_lt rfl rfl) (s_kc (c := 4) rfl rfl) (by decide) rfl (s1_X5_pick hM413 a1 (by omega) a412 (by omega)) gX5_spread_X5_pick rfl hdX5_pick (by decide) (Nat.le_of_ble_eq_true rfl) dX5_spread_34 rfl (fun r424 M425 h426 => ?_)
        obtain ⟨a428, rfl, rfl, h427⟩ := h426
        refine j_istore C 5 [(5, .int (sI a428)), (3, .long (sJ a423)), (0, .ref (ad 88)), (1, .int (sI a1)), (2, .int (sI a412))] dX5_spread_37 (by decide) rfl ?_
        refine j_iload C 0 dX5_spread_39 rfl ?_
        refine y_if_ge C 57 dX5_spread_41 (by decide) (by omega) (fun h429 => ?_) (fun h429 => ?_)
        · refine j_iload_n C 3 1 dX5_spread_57 rfl rfl ?_
          refine y_iconst C dX5_spread_58 ?_
          refine j_iload C 0 dX5_spread_59 rfl ?_
          refine y_shl1 C 7 128 dX5_spread_61 rfl (by decide) (by omega) (fun a430 la430 ua430 => ?_)
          refine y_iorN C 8 255 dX5_spread_62 rfl (by decide) (by omega) (fun a431 la431 ua431 => ?_)
          refine j_istore C 6 [(6, .int (sI a431)), (5, .int (sI a428)), (3, .long (sJ a423)), (0, .ref (ad 88)), (1, .int (sI a1)), (2, .int (sI a412))] dX5_spread_63 (by decide) rfl ?_
          refine j_aload_n C 3 0 dX5_spread_65 rfl rfl ?_
          refine y_getM C 4 41 fX5_spread_25 rfl rfl ft_4_5 sm_4_5 (by decide) hM413 dX5_spread_66 (fun v432 ev432 cv432 => ?_)
          refine j_iload C 0 dX5_spread_69 rfl ?_
          refine j_dup2 C dX5_spread_71 rfl rfl ?_
          refine y_lald C 41 256 cv432 rfl rfl ak_41 an_41 rfl dX5_spread_72 (by omega) (fun a433 ea433 la433 ua433 => ?_)
          refine j_lload_n C 2 3 dX5_spread_73 rfl rfl ?_
          refine y_ladd0 C dX5_spread_74 (fun a434 la434 ua434 => ?_)
          refine y_last C 41 256 cv432 rfl rfl ak_41 an_41 rfl hM413 (PX.w hpr cv432 rfl) dX5_spread_75 (by omega) (fun M435 eM435 hM435 => ?_)
          refine j_aload_n C 3 0 dX5_spread_76 rfl rfl ?_
          refine j_dup C dX5_spread_77 rfl ?_
          refine y_getJ C 4 fX5_spread_35 rfl rfl ft_4_8 dX5_spread_78 (fun a436 ea436 la436 ua436 => ?_)
          refine j_lload_n C 2 3 dX5_spread_81 rfl rfl ?_
          refine j_aload_n C 3 0 dX5_spread_82 rfl rfl ?_
          refine y_getM C 4 8 fX5_spread_56 rfl rfl ft_4_10 sm_4_10 (by decide) hM435 dX5_spread_83 (fun v437 ev437 cv437 => ?_)
          refine y_getT C 8 25 fX5_spread_156 cv437 rfl ft_8_1 rfl sm_8_1 st_8_1 (by decide) hM435 dX5_spread_86 (fun v438 cv438 => ?_)
          refine j_iload C 1 dX5_spread_89 rfl ?_
          refine y_iald C 25 8 _ _ cv438 rfl rfl ak_25 an_25 rfl (sb_25 _) hM435 dX5_spread_91 (by omega) (fun a439 ea439 la439 ua439 => ?_)
          refine y_i2l C dX5_spread_92 (by omega) ?_
          refine y_lmul0 C dX5_spread_93 (fun a440 la440 ua440 => ?_)
          refine y_ladd0 C dX5_spread_94 (fun a441 la441 ua441 => ?_)
          refine y_putJ C 4 qX5_spread_35 rfl rfl ft_4_8 hM435 (PX.w hpr rfl rfl) dX5_spread_95 (fun M442 eM442 hM442 => ?_)
          refine j_aload_n C 3 0 dX5_spread_98 rfl rfl ?_
          refine y_getC C 4 94 fX5_spread_28 rfl rfl ft_4_6 sm_4_6 rfl hM442 dX5_spread_99 ?_
          refine j_iload_n C 5 2 dX5_spread_102 rfl rfl ?_
          refine j_dup2 C dX5_spread_103 rfl rfl ?_
          refine y_lald C 42 6 rfl rfl rfl ak_42 an_42 rfl dX5_spread_104 (by omega) (fun a443 ea443 la443 ua443 => ?_)
          refine j_aload_n C 3 0 dX5_spread_105 rfl rfl ?_
          refine j_iload C 0 dX5_spread_106 rfl ?_
          refine j_callVi C (d := 0) (As := [.int (sI a431)]) (st := [.long (sJ a443), .int (sI a412), .ref (ad 94)]) 88 (s_lt rfl rfl) (s_kc (c := 4) rfl rfl) (by decide) rfl (s1_X5_isShutAt hM442 a431 (by omega)) gX5_spread_X5_isShutAt rfl hdX5_isShutAt (by decide) (Nat.le_of_ble_eq_true rfl) dX5_spread_108 rfl (fun r444 M445 h446 => ?_)
          obtain ⟨a448, rfl, rfl, h447⟩ := h446
          refine y_if_eq C 118 dX5_spread_111 (by decide) (by omega) (fun h449 => ?_) (fun h449 => ?_)
          · refine y_lconst C 0 dX5_spread_118 rfl ?_
            refine y_ladd C dX5_spread_119 ?_
            refine y_last C 42 6 rfl rfl rfl ak_42 an_42 rfl hM442 (PX.w hpr rfl rfl) dX5_spread_120 (by omega) (fun M450 eM450 hM450 => ?_)
            refine y_iinc C 5 [(2, .int (sI (a412 + 1))), (6, .int (sI a431)), (5, .int (sI a428)), (3, .long (sJ a423)), (0, .ref (ad 88)), (1, .int (sI a1))] dX5_spread_121 rfl (by decide) rfl ?_
            refine j_goto C 2 dX5_spread_124 (by decide) ?_
            refine j_lv [4, 5, 0] rfl ?_; exact ih410 (a412 + 1) M450 (by omega) hM450
          · refine j_lload_n C 2 3 dX5_spread_114 rfl rfl ?_
            refine j_goto C 119 dX5_spread_115 (by decide) ?_
            refine y_ladd0 C dX5_spread_119 (fun a451 la451 ua451 => ?_)
            refine y_last C 42 6 rfl rfl rfl ak_42 an_42 rfl hM442 (PX.w hpr rfl rfl) dX5_spread_120 (by omega) (fun M452 eM452 hM452 => ?_)
            refine y_iinc C 5 [(2, .int (sI (a412 + 1))), (6, .int (sI a431)), (5, .int (sI a428)), (3, .long (sJ a423)), (0, .ref (ad 88)), (1, .int (sI a1))] dX5_spread_121 rfl (by decide) rfl ?_
            refine j_goto C 2 dX5_spread_124 (by decide) ?_
            refine j_lv [4, 5, 0] rfl ?_; exact ih410 (a412 + 1) M452 (by omega) hM452
        · refine j_aload_n C 2 0 dX5_spread_44 rfl rfl ?_
          refine y_getM C 4 41 fX5_spread_25 rfl rfl ft_4_5 sm_4_5 (by decide) hM413 dX5_spread_45 (fun v453 ev453 cv453 => ?_)
          refine j_iload_n C 3 1 dX5_spread_48 rfl rfl ?_
          refine j_dup2 C dX5_spread_49 rfl rfl ?_
          refine y_lald C 41 256 cv453 rfl rfl ak_41 an_41 rfl dX5_spread_50 (by omega) (fun a454 ea454 la454 ua454 => ?_)
          refine j_lload_n C 1 3 dX5_spread_51 rfl rfl ?_
          refine y_ladd0 C dX5_spread_52 (fun a455 la455 ua455 => ?_)
          refine y_last C 41 256 cv453 rfl rfl ak_41 an_41 rfl hM413 (PX.w hpr cv453 rfl) dX5_spread_53 (by omega) (fun M456 eM456 hM456 => ?_)
          refine j_goto C 121 dX5_spread_54 (by decide) ?_
          refine y_iinc C 4 [(2, .int (sI (a412 + 1))), (5, .int (sI a428)), (3, .long (sJ a423)), (0, .ref (ad 88)), (1, .int (sI a1))] dX5_spread_121 rfl (by decide) rfl ?_
          refine j_goto C 2 dX5_spread_124 (by decide) ?_
          refine j_lv [3, 4, 0] rfl ?_; exact ih410 (a412 + 1) M456 (by omega) hM456
  refine j_lv [1, 2, 0] rfl ?_; exact L411 2010 0 M0 (by omega) hM0
set_option maxHeartbeats 4000000 in
theorem s1_X5_passDay {l : Launch} {dC : Nat → ClassId} {dI : Nat → Nat → Nat} {ad : Nat → Nat} {cA : Nat → ClassId} {pr : Nat → Nat → Bool} {Kz : mm_M} {M0 : mm_M} (hM0 : INV pr Kz M0) (hpr : PX pr) (a1 : Int) (ha1 : -2147483648 ≤ a1 ∧ a1 ≤ 2147483647) : Cv l 2 yX5_passDay wsX5_passDay dC dI ad cA [.ref (ad 88), .int (sI a1)] M0 (fun M' => INV pr Kz M') := by
  refine cv_of (cc := cX5_passDay) (maxL := 3) (lv := [(0, .ref (ad 88)), (1, .int (sI a1))]) (by decide) rfl (Nat.le_of_ble_eq_true rfl) rfl ?_
  intro p e s m args below meth c A Q C hret
  refine j_aload_n C 0 0 dX5_passDay_0 rfl rfl ?_
  refine y_getM C 4 41 fX5_passDay_25 rfl rfl ft_4_5 sm_4_5 (by decide) hM0 dX5_passDay_1 (fun v101 ev101 cv101 => ?_)
  refine y_lconst C 0 dX5_passDay_4 rfl ?_
  refine j_callSv C (d := 0) (As := [.ref (ad v101), .long (sJ 0)]) (st := []) (s1_J7_fill_d0a16 hM0 hpr cv101 0 (by omega)) gX5_passDay_J7_fill_d0a16 rfl hdJ7_fill_d0a16s (by decide) (Nat.le_of_ble_eq_true rfl) dX5_passDay_5 rfl (fun M103 h104 => ?_)
  have hM103 := h104
  refine j_aload_n C 0 0 dX5_passDay_8 rfl rfl ?_
  refine j_dup C dX5_passDay_9 rfl ?_
  refine y_getJ C 4 fX5_passDay_31 rfl rfl ft_4_7 dX5_passDay_10 (fun a106 ea106 la106 ua106 => ?_)
  refine j_iload_n C 1 1 dX5_passDay_13 rfl rfl ?_
  refine y_i2l C dX5_passDay_14 (by omega) ?_
  refine y_lmul0 C dX5_passDay_15 (fun a107 la107 ua107 => ?_)
  refine y_putJ C 4 qX5_passDay_31 rfl rfl ft_4_7 hM103 (PX.w hpr rfl rfl) dX5_passDay_16 (fun M108 eM108 hM108 => ?_)
  refine j_aload_n C 0 0 dX5_passDay_19 rfl rfl ?_
  refine j_dup C dX5_passDay_20 rfl ?_
  refine y_getJ C 4 fX5_passDay_35 rfl rfl ft_4_8 dX5_passDay_21 (fun a109 ea109 la109 ua109 => ?_)
  refine j_iload_n C 1 1 dX5_passDay_24 rfl rfl ?_
  refine y_i2l C dX5_passDay_25 (by omega) ?_
  refine y_lmul0 C dX5_passDay_26 (fun a110 la110 ua110 => ?_)
  refine y_putJ C 4 qX5_passDay_35 rfl rfl ft_4_8 hM108 (PX.w hpr rfl rfl) dX5_passDay_27 (fun M111 eM111 hM111 => ?_)
  refine y_iconst C dX5_passDay_30 ?_
  refine j_istore_n C 2 [(2, .int (sI 0)), (0, .ref (ad 88)), (1, .int (sI a1))] dX5_passDay_31 rfl (by decide) rfl ?_
  have L177 : ∀ (n175 : Nat), ∀ (a178 : Int) (M179 : mm_M), (0 ≤ a178 ∧ a178 ≤ 6 ∧ (6 - a178) < (n175 : Int)) → INV pr Kz M179 → jj p l e (cn_R 2) s m args below meth c 0 0 Q 3 dC dI ad cA A M179 32 [(0, .ref (ad 88)), (1, .int (sI a1)), (2, .int (sI a178))] [] := by
    intro n175
    induction n175 with
    | zero =>
      intro a178 M179 h180 hM179
      exfalso; omega
    | succ n175 ih176 =>
      intro a178 M179 h180 hM179
      refine j_iload_n C 2 2 dX5_passDay_32 rfl rfl ?_
      refine j_aload_n C 0 0 dX5_passDay_33 rfl rfl ?_
      refine y_getM C 4 6 fX5_passDay_52 rfl rfl ft_4_9 sm_4_9 (by decide) hM179 dX5_passDay_34 (fun v181 ev181 cv181 => ?_)
      refine y_getI C 6 _ _ fX5_passDay_92 cv181 rfl ft_6_0 sb_6_0 hM179 dX5_passDay_37 (fun a182 ea182 la182 ua182 => ?_)
      refine y_icmp_ge C 60 dX5_passDay_40 (by decide) (by omega) (fun h184 => ?_) (fun h184 => ?_)
      · refine j_aload_n C 0 0 dX5_passDay_60 rfl rfl ?_
        refine y_getI C 4 _ _ fX5_passDay_45 rfl rfl ft_4_13 sb_4_13 hM179 dX5_passDay_61 (fun a188 ea188 la188 ua188 => ?_)
        refine j_istore_n C 2 [(2, .int (sI a188)), (0, .ref (ad 88)), (1, .int (sI a1))] dX5_passDay_64 rfl (by decide) rfl ?_
        have L216 : ∀ (n214 : Nat), ∀ (a217 : Int) (M218 : mm_M), (0 ≤ a217 ∧ a217 ≤ 256 ∧ (256 - a217) < (n214 : Int)) → INV pr Kz M218 → jj p l e (cn_R 2) s m args below meth c 0 0 Q 3 dC dI ad cA A M218 65 [(0, .ref (ad 88)), (2, .int (sI a217))] [] := by
          intro n214
          induction n214 with
          | zero =>
            intro a217 M218 h219 hM218
            exfalso; omega
          | succ n214 ih215 =>
            intro a217 M218 h219 hM218
            refine j_iload_n C 1 2 dX5_passDay_65 rfl rfl ?_
            refine j_aload_n C 0 0 dX5_passDay_66 rfl rfl ?_
            refine y_getI C 4 _ _ fX5_passDay_38 rfl rfl ft_4_11 sb_4_11 hM218 dX5_passDay_67 (fun a220 ea220 la220 ua220 => ?_)
            refine y_icmp_gt C 95 dX5_passDay_70 (by decide) (by omega) (fun h222 => ?_) (fun h222 => ?_)
            · refine j_aload_n C 0 0 dX5_passDay_95 rfl rfl ?_
              refine j_callVv C (d := 0) (As := []) (st := []) 88 (s_lt rfl rfl) (s_kc (c := 4) rfl rfl) (by decide) rfl (s1_X5_swapWays hM218 hpr) gX5_passDay_X5_swapWays rfl hdX5_swapWays (by decide) (Nat.le_of_ble_eq_true rfl) dX5_passDay_96 rfl (fun M231 h232 => ?_)
              have hM231 := h232
              exact hret _ _ _ dX5_passDay_99 hM231
            · refine j_aload_n C 0 0 dX5_passDay_73 rfl rfl ?_
              refine y_getM C 4 41 fX5_passDay_21 rfl rfl ft_4_4 sm_4_4 (by decide) hM218 dX5_passDay_74 (fun v223 ev223 cv223 => ?_)
              refine j_iload_n C 1 2 dX5_passDay_77 rfl rfl ?_
              refine y_lald C 41 256 cv223 rfl rfl ak_41 an_41 rfl dX5_passDay_78 (by omega) (fun a224 ea224 la224 ua224 => ?_)
              refine y_lconst C 0 dX5_passDay_79 rfl ?_
              refine y_lcmp_eq C 89 dX5_passDay_80 dX5_passDay_81 (by decide) (by omega) (fun h225 => ?_) (fun h225 => ?_)
              · refine y_iinc C 1 [(2, .int (sI (a217 + 1))), (0, .ref (ad 88))] dX5_passDay_89 rfl (by decide) rfl ?_
                refine j_goto C 65 dX5_passDay_92 (by decide) ?_
                refine j_lv [1, 0] rfl ?_; exact ih215 (a217 + 1) M218 (by omega) hM218
              · refine j_aload_n C 0 0 dX5_passDay_84 rfl rfl ?_
                refine j_iload_n C 1 2 dX5_passDay_85 rfl rfl ?_
                refine j_callVv C (d := 1) (As := [.int (sI a217)]) (st := []) 88 (s_lt rfl rfl) (s_kc (c := 4) rfl rfl) (by decide) rfl (s1_X5_spread hM218 hpr a217 (by omega) (by omega)) gX5_passDay_X5_spread rfl hdX5_spread (by decide) (Nat.le_of_ble_eq_true rfl) dX5_passDay_86 rfl (fun M227 h228 => ?_)
                have hM227 := h228
                refine y_iinc C 1 [(2, .int (sI (a217 + 1))), (0, .ref (ad 88))] dX5_passDay_89 rfl (by decide) rfl ?_
                refine j_goto C 65 dX5_passDay_92 (by decide) ?_
                refine j_lv [1, 0] rfl ?_; exact ih215 (a217 + 1) M227 (by omega) hM227
        refine j_lv [1, 0] rfl ?_; exact L216 2010 a188 M179 (by omega) hM179
      · refine j_aload_n C 0 0 dX5_passDay_43 rfl rfl ?_
        refine y_getC C 4 94 fX5_passDay_28 rfl rfl ft_4_6 sm_4_6 rfl hM179 dX5_passDay_44 ?_
        refine j_iload_n C 2 2 dX5_passDay_47 rfl rfl ?_
        refine j_dup2 C dX5_passDay_48 rfl rfl ?_
        refine y_lald C 42 6 rfl rfl rfl ak_42 an_42 rfl dX5_passDay_49 (by omega) (fun a185 ea185 la185 ua185 => ?_)
        refine j_iload_n C 1 1 dX5_passDay_50 rfl rfl ?_
        refine y_i2l C dX5_passDay_51 (by omega) ?_
        refine y_lmul0 C dX5_passDay_52 (fun a186 la186 ua186 => ?_)
        refine y_last C 42 6 rfl rfl rfl ak_42 an_42 rfl hM179 (PX.w hpr rfl rfl) dX5_passDay_53 (by omega) (fun M187 eM187 hM187 => ?_)
        refine y_iinc C 2 [(2, .int (sI (a178 + 1))), (0, .ref (ad 88)), (1, .int (sI a1))] dX5_passDay_54 rfl (by decide) rfl ?_
        refine j_goto C 32 dX5_passDay_57 (by decide) ?_
        refine j_lv [1, 2, 0] rfl ?_; exact ih176 (a178 + 1) M187 (by omega) hM187
  refine j_lv [1, 2, 0] rfl ?_; exact L177 2010 0 M111 (by omega) hM111
set_option maxHeartbeats 4000000 in
theorem s1_X5_passDays {l : Launch} {dC : Nat → ClassId} {dI : Nat → Nat → Nat} {ad : Nat → Nat} {cA : Nat → ClassId} {pr : Nat → Nat → Bool} {Kz : mm_M} {M0 : mm_M} (hM0 : INV pr Kz M0) (hpr : PX pr) (a1 : Int) (ha1 : -2147483648 ≤ a1 ∧ a1 ≤ 2147483647) : Cv l 3 yX5_passDays wsX5_passDays dC dI ad cA [.ref (ad 88), .int (sI a1)] M0 (fun M' => INV pr Kz M') := by
  refine cv_of (cc := cX5_passDays) (maxL := 4) (lv := [(0, .ref (ad 88)), (1, .int (sI a1))]) (by decide) rfl (Nat.le_of_ble_eq_true rfl) rfl ?_
  intro p e s m args below meth c A Q C hret
  refine j_aload_n C 0 0 dX5_passDays_0 rfl rfl ?_
  refine j_callVv C (d := 1) (As := []) (st := []) 88 (s_lt rfl rfl) (s_kc (c := 4) rfl rfl) (by decide) rfl (s1_X5_beginRows hM0 hpr) gX5_passDays_X5_beginRows rfl hdX5_beginRows (by decide) (Nat.le_of_ble_eq_true rfl) dX5_passDays_1 rfl (fun M102 h103 => ?_)
  have hM102 := h103
  refine j_aload_n C 0 0 dX5_passDays_4 rfl rfl ?_
  refine y_getC C 4 94 fX5_passDays_28 rfl rfl ft_4_6 sm_4_6 rfl hM102 dX5_passDays_5 ?_
  refine y_lconst C 0 dX5_passDays_8 rfl ?_
  refine j_callSv C (d := 0) (As := [.ref (ad 94), .long (sJ 0)]) (st := []) (s2_J7_fill_d0a16 hM102 hpr 0 (by omega)) gX5_passDays_J7_fill_d0a16 rfl hdJ7_fill_d0a16s (by decide) (Nat.le_of_ble_eq_true rfl) dX5_passDays_9 rfl (fun M106 h107 => ?_)
  have hM106 := h107
  refine j_aload_n C 0 0 dX5_passDays_12 rfl rfl ?_
  refine y_lconst C 1 dX5_passDays_13 rfl ?_
  refine y_putJ C 4 qX5_passDays_31 rfl rfl ft_4_7 hM106 (PX.w hpr rfl rfl) dX5_passDays_14 (fun M109 eM109 hM109 => ?_)
  refine j_aload_n C 0 0 dX5_passDays_17 rfl rfl ?_
  refine y_lconst C 0 dX5_passDays_18 rfl ?_
  refine y_putJ C 4 qX5_passDays_35 rfl rfl ft_4_8 hM109 (PX.w hpr rfl rfl) dX5_passDays_19 (fun M110 eM110 hM110 => ?_)
  refine j_aload_n C 0 0 dX5_passDays_22 rfl rfl ?_
  refine y_getM C 4 6 fX5_passDays_52 rfl rfl ft_4_9 sm_4_9 (by decide) hM110 dX5_passDays_23 (fun v111 ev111 cv111 => ?_)
  refine j_callVi C (d := 0) (As := []) (st := []) v111 (s_lt cv111 rfl) (s_kc (c := 6) cv111 rfl) (by decide) rfl (s1_X7_together hM110 cv111) gX5_passDays_X7_together rfl hdX7_together (by decide) (Nat.le_of_ble_eq_true rfl) dX5_passDays_26 rfl (fun r112 M113 h114 => ?_)
  obtain ⟨a116, rfl, rfl, h115⟩ := h114
  refine j_istore_n C 2 [(2, .int (sI a116)), (0, .ref (ad 88)), (1, .int (sI a1))] dX5_passDays_29 rfl (by decide) rfl ?_
  refine y_iconst C dX5_passDays_30 ?_
  refine j_istore_n C 3 [(3, .int (sI 0)), (2, .int (sI a116)), (0, .ref (ad 88)), (1, .int (sI a1))] dX5_passDays_31 rfl (by decide) rfl ?_
  have L391 : ∀ (n389 : Nat), ∀ (a392 : Int) (M393 : mm_M), (0 ≤ a392 ∧ a392 ≤ 2147483647 ∧ (2147483647 - a392) < (n389 : Int)) → INV pr Kz M393 → jj p l e (cn_R 3) s m args below meth c 0 0 Q 4 dC dI ad cA A M393 32 [(0, .ref (ad 88)), (1, .int (sI a1)), (2, .int (sI a116)), (3, .int (sI a392))] [] := by
    intro n389
    induction n389 with
    | zero =>
      intro a392 M393 h394 hM393
      exfalso; omega
    | succ n389 ih390 =>
      intro a392 M393 h394 hM393
      refine j_iload_n C 3 3 dX5_passDays_32 rfl rfl ?_
      refine j_iload_n C 1 1 dX5_passDays_33 rfl rfl ?_
      refine y_icmp_ge C 52 dX5_passDays_34 (by decide) (by omega) (fun h395 => ?_) (fun h395 => ?_)
      · exact hret _ _ _ dX5_passDays_52 hM393
      · refine j_iload_n C 2 2 dX5_passDays_37 rfl rfl ?_
        refine y_if_le C 52 dX5_passDays_38 (by decide) (by omega) (fun h396 => ?_) (fun h396 => ?_)
        · exact hret _ _ _ dX5_passDays_52 hM393
        · refine j_aload_n C 0 0 dX5_passDays_41 rfl rfl ?_
          refine j_iload_n C 2 2 dX5_passDays_42 rfl rfl ?_
          refine j_callVv C (d := 2) (As := [.int (sI a116)]) (st := []) 88 (s_lt rfl rfl) (s_kc (c := 4) rfl rfl) (by decide) rfl (s1_X5_passDay hM393 hpr a116 (by omega)) gX5_passDays_X5_passDay rfl hdX5_passDay (by decide) (Nat.le_of_ble_eq_true rfl) dX5_passDays_43 rfl (fun M398 h399 => ?_)
          have hM398 := h399
          refine y_iinc C 3 [(3, .int (sI (a392 + 1))), (0, .ref (ad 88)), (1, .int (sI a1)), (2, .int (sI a116))] dX5_passDays_46 rfl (by decide) rfl ?_
          refine j_goto C 32 dX5_passDays_49 (by decide) ?_
          refine j_lv [1, 2, 3, 0] rfl ?_; exact ih390 (a392 + 1) M398 (by omega) hM398
  refine j_lv [2, 3, 1, 0] rfl ?_; exact L391 4294967304 0 M110 (by omega) hM110
set_option maxHeartbeats 4000000 in
theorem s1_X11_commonDivisor {l : Launch} {dC : Nat → ClassId} {dI : Nat → Nat → Nat} {ad : Nat → Nat} {cA : Nat → ClassId} {pr : Nat → Nat → Bool} {Kz : mm_M} {M0 : mm_M} (hM0 : INV pr Kz M0) (a0 : Int) (ha0 : -9223372036854775808 ≤ a0 ∧ a0 ≤ 9223372036854775807) (a2 : Int) (ha2 : -9223372036854775808 ≤ a2 ∧ a2 ≤ 9223372036854775807) : Cj l 0 yX11_commonDivisor wsX11_commonDivisor dC dI ad cA [.long (sJ a0), .long (sJ a2)] M0 (fun r M' => ∃ a : Int, r = sJ a ∧ M0 = M' ∧ (-9223372036854775808) ≤ a ∧ a ≤ 9223372036854775807) := by
  refine cj_of (cc := cX11_commonDivisor) (maxL := 11) (lv := [(0, .long (sJ a0)), (2, .long (sJ a2))]) (by decide) rfl (Nat.le_of_ble_eq_true rfl) rfl ?_
  intro p e s m args below meth c A Q C hret
  refine j_lload_n C 0 0 dX11_commonDivisor_0 rfl rfl ?_
  refine j_lstore C 4 [(4, .long (sJ a0)), (0, .long (sJ a0)), (2, .long (sJ a2))] dX11_commonDivisor_1 (by decide) rfl ?_
  refine j_lload_n C 2 2 dX11_commonDivisor_3 rfl rfl ?_
  refine j_lstore C 6 [(6, .long (sJ a2)), (4, .long (sJ a0)), (0, .long (sJ a0)), (2, .long (sJ a2))] dX11_commonDivisor_4 (by decide) rfl ?_
  refine y_iconst C dX11_commonDivisor_6 ?_
  refine j_istore C 8 [(8, .int (sI 0)), (6, .long (sJ a2)), (4, .long (sJ a0)), (0, .long (sJ a0)), (2, .long (sJ a2))] dX11_commonDivisor_7 (by decide) rfl ?_
  have L253 : ∀ (n251 : Nat), ∀ (a254 : Int) (a255 : Int) (a256 : Int), ((-9223372036854775808) ≤ a254 ∧ a254 ≤ 9223372036854775807 ∧ (-9223372036854775808) ≤ a255 ∧ a255 ≤ 9223372036854775807 ∧ 0 ≤ a256 ∧ a256 ≤ 200 ∧ (200 - a256) < (n251 : Int)) → jj p l e (cn_R 0) s m args below meth c 0 0 Q 11 dC dI ad cA A M0 9 [(4, .long (sJ a254)), (6, .long (sJ a255)), (8, .int (sI a256))] [] := by
    intro n251
    induction n251 with
    | zero =>
      intro a254 a255 a256 h257
      exfalso; omega
    | succ n251 ih252 =>
      intro a254 a255 a256 h257
      refine j_iload C 2 dX11_commonDivisor_9 rfl ?_
      refine y_sipush C dX11_commonDivisor_11 rfl ?_
      refine y_icmp_ge C 45 dX11_commonDivisor_14 (by decide) (by omega) (fun h258 => ?_) (fun h258 => ?_)
      · refine j_lload C 0 dX11_commonDivisor_45 rfl ?_
        exact hret _ _ _ _ dX11_commonDivisor_47 ⟨a254, rfl, rfl, by omega⟩
      · refine j_lload C 1 dX11_commonDivisor_17 rfl ?_
        refine y_lconst C 0 dX11_commonDivisor_19 rfl ?_
        refine y_lcmp_eq C 45 dX11_commonDivisor_20 dX11_commonDivisor_21 (by decide) (by omega) (fun h259 => ?_) (fun h259 => ?_)
        · refine j_lload C 0 dX11_commonDivisor_45 rfl ?_
          exact hret _ _ _ _ dX11_commonDivisor_47 ⟨a254, rfl, rfl, by omega⟩
        · refine j_lload C 0 dX11_commonDivisor_24 rfl ?_
          refine j_lload C 1 dX11_commonDivisor_26 rfl ?_
          refine y_lrem0 C dX11_commonDivisor_28 (by omega) (fun a260 la260 ua260 => ?_)
          refine j_lstore C 9 [(9, .long (sJ a260)), (4, .long (sJ a254)), (6, .long (sJ a255)), (8, .int (sI a256))] dX11_commonDivisor_29 (by decide) rfl ?_
          refine j_lload C 2 dX11_commonDivisor_31 rfl ?_
          refine j_lstore C 4 [(4, .long (sJ a255)), (9, .long (sJ a260)), (6, .long (sJ a255)), (8, .int (sI a256))] dX11_commonDivisor_33 (by decide) rfl ?_
          refine j_lload C 1 dX11_commonDivisor_35 rfl ?_
          refine j_lstore C 6 [(6, .long (sJ a260)), (4, .long (sJ a255)), (9, .long (sJ a260)), (8, .int (sI a256))] dX11_commonDivisor_37 (by decide) rfl ?_
          refine y_iinc C 3 [(8, .int (sI (a256 + 1))), (6, .long (sJ a260)), (4, .long (sJ a255)), (9, .long (sJ a260))] dX11_commonDivisor_39 rfl (by decide) rfl ?_
          refine j_goto C 9 dX11_commonDivisor_42 (by decide) ?_
          refine j_lv [2, 1, 0] rfl ?_; exact ih252 a255 a260 (a256 + 1) (by omega)
  refine j_lv [2, 1, 0] rfl ?_; exact L253 2010 a0 a2 0 (by omega)
set_option maxHeartbeats 4000000 in
theorem s1_X11_inLowestTerms {l : Launch} {dC : Nat → ClassId} {dI : Nat → Nat → Nat} {ad : Nat → Nat} {cA : Nat → ClassId} {pr : Nat → Nat → Bool} {Kz : mm_M} {M0 : mm_M} (hM0 : INV pr Kz M0) (a0 : Int) (ha0 : -9223372036854775808 ≤ a0 ∧ a0 ≤ 9223372036854775807) (a2 : Int) (ha2 : -9223372036854775808 ≤ a2 ∧ a2 ≤ 9223372036854775807) (a4 : Int) (ha4 : -2147483648 ≤ a4 ∧ a4 ≤ 2147483647) : Cj l 1 yX11_inLowestTerms wsX11_inLowestTerms dC dI ad cA [.long (sJ a0), .long (sJ a2), .int (sI a4)] M0 (fun r M' => ∃ a : Int, r = sJ a ∧ M0 = M' ∧ (-9223372036854775808) ≤ a ∧ a ≤ 9223372036854775807) := by
  refine cj_of (cc := cX11_inLowestTerms) (maxL := 9) (lv := [(0, .long (sJ a0)), (2, .long (sJ a2)), (4, .int (sI a4))]) (by decide) rfl (Nat.le_of_ble_eq_true rfl) rfl ?_
  intro p e s m args below meth c A Q C hret
  refine j_lload_n C 0 0 dX11_inLowestTerms_0 rfl rfl ?_
  refine j_lload_n C 1 2 dX11_inLowestTerms_1 rfl rfl ?_
  refine j_callSj C (d := 0) (As := [.long (sJ a0), .long (sJ a2)]) (st := []) (s1_X11_commonDivisor hM0 a0 (by omega) a2 (by omega)) gX11_inLowestTerms_X11_commonDivisor rfl hdX11_commonDivisors (by decide) (Nat.le_of_ble_eq_true rfl) dX11_inLowestTerms_2 rfl (fun r101 M102 h103 => ?_)
  obtain ⟨a105, rfl, rfl, h104⟩ := h103
  refine j_lstore C 5 [(5, .long (sJ a105)), (0, .long (sJ a0)), (2, .long (sJ a2)), (4, .int (sI a4))] dX11_inLowestTerms_5 (by decide) rfl ?_
  refine j_iload C 3 dX11_inLowestTerms_7 rfl ?_
  have J108 : ∀ (a107 : Int), ((-9223372036854775808) ≤ a107 ∧ a107 ≤ 9223372036854775807) → jj p l e (cn_R 1) s m args below meth c 0 0 Q 9 dC dI ad cA A M0 17 [(5, .long (sJ a105))] [.long (sJ a107)] := by
    intro a107 h109
    refine j_lstore C 7 [(7, .long (sJ a107)), (5, .long (sJ a105))] dX11_inLowestTerms_17 (by decide) rfl ?_
    refine j_lload C 1 dX11_inLowestTerms_19 rfl ?_
    refine y_lconst C 0 dX11_inLowestTerms_21 rfl ?_
    refine y_lcmp_le C 34 dX11_inLowestTerms_22 dX11_inLowestTerms_23 (by decide) (by omega) (fun h110 => ?_) (fun h110 => ?_)
    · refine j_lload C 0 dX11_inLowestTerms_34 rfl ?_
      exact hret _ _ _ _ dX11_inLowestTerms_36 ⟨a107, rfl, rfl, by omega⟩
    · refine j_lload C 0 dX11_inLowestTerms_26 rfl ?_
      refine j_lload C 1 dX11_inLowestTerms_28 rfl ?_
      refine y_ldiv0 C dX11_inLowestTerms_30 (by omega) (fun a111 la111 ua111 => ?_)
      refine j_goto C 36 dX11_inLowestTerms_31 (by decide) ?_
      exact hret _ _ _ _ dX11_inLowestTerms_36 ⟨a111, rfl, rfl, by omega⟩
  refine y_if_ne C 16 dX11_inLowestTerms_9 (by decide) (by omega) (fun h106 => ?_) (fun h106 => ?_)
  · refine j_lload_n C 2 2 dX11_inLowestTerms_16 rfl rfl ?_
    refine j_lv [0] rfl ?_; exact J108 a2 (by omega)
  · refine j_lload_n C 1 0 dX11_inLowestTerms_12 rfl rfl ?_
    refine j_goto C 17 dX11_inLowestTerms_13 (by decide) ?_
    refine j_lv [0] rfl ?_; exact J108 a0 (by omega)
set_option maxHeartbeats 4000000 in
theorem s1_X11_open {l : Launch} {dC : Nat → ClassId} {dI : Nat → Nat → Nat} {ad : Nat → Nat} {cA : Nat → ClassId} {pr : Nat → Nat → Bool} {Kz : mm_M} {M0 : mm_M} (hM0 : INV pr Kz M0) (hpr : PX pr) (a1 : Int) (ha1 : -2147483648 ≤ a1 ∧ a1 ≤ 2147483647) (a2 : Int) (ha2 : -2147483648 ≤ a2 ∧ a2 ≤ 2147483647) : Cj l 6 yX11_open wsX11_open dC dI ad cA [.ref (ad 0), .int (sI a1), .int (sI a2)] M0 (fun r M' => ∃ a : Int, r = sJ a ∧ INV pr Kz M' ∧ (-9223372036854775808) ≤ a ∧ a ≤ 9223372036854775807) := by
  refine cj_of (cc := cX11_open) (maxL := 4) (lv := [(0, .ref (ad 0)), (1, .int (sI a1)), (2, .int (sI a2))]) (by decide) rfl (Nat.le_of_ble_eq_true rfl) rfl ?_
  intro p e s m args below meth c A Q C hret
  refine j_iload_n C 2 2 dX11_open_0 rfl rfl ?_
  refine j_iload_n C 1 1 dX11_open_1 rfl rfl ?_
  refine y_bipush C dX11_open_2 rfl ?_
  refine j_callSi C (d := 0) (As := [.int (sI a2), .int (sI a1), .int (sI 10)]) (st := []) (s1_X11_chanceRefusal hM0 a2 (by omega) a1 (by omega) 10 (by omega)) gX11_open_X11_chanceRefusal rfl hdX11_chanceRefusals (by decide) (Nat.le_of_ble_eq_true rfl) dX11_open_4 rfl (fun r101 M102 h103 => ?_)
  obtain ⟨a105, rfl, rfl, h104⟩ := h103
  refine j_istore_n C 3 [(3, .int (sI a105)), (0, .ref (ad 0)), (1, .int (sI a1)), (2, .int (sI a2))] dX11_open_7 rfl (by decide) rfl ?_
  refine j_iload_n C 0 3 dX11_open_8 rfl rfl ?_
  refine y_if_eq C 15 dX11_open_9 (by decide) (by omega) (fun h106 => ?_) (fun h106 => ?_)
  · refine j_aload_n C 1 0 dX11_open_15 rfl rfl ?_
    refine y_getC C 10 88 fX11_open_94 rfl rfl ft_10_14 sm_10_14 rfl hM0 dX11_open_16 ?_
    refine j_aload_n C 1 0 dX11_open_19 rfl rfl ?_
    refine y_getM C 10 6 fX11_open_26 rfl rfl ft_10_4 sm_10_4 (by decide) hM0 dX11_open_20 (fun v107 ev107 cv107 => ?_)
    refine j_aload_n C 1 0 dX11_open_23 rfl rfl ?_
    refine y_getC C 10 12 fX11_open_36 rfl rfl ft_10_6 sm_10_6 rfl hM0 dX11_open_24 ?_
    refine j_aload_n C 1 0 dX11_open_27 rfl rfl ?_
    refine y_getC C 10 12 fX11_open_36 rfl rfl ft_10_6 sm_10_6 rfl hM0 dX11_open_28 ?_
    refine y_getI C 8 _ _ fX11_open_153 rfl rfl ft_8_4 sb_8_4 hM0 dX11_open_31 (fun a108 ea108 la108 ua108 => ?_)
    refine j_callVv C (d := 5) (As := [.ref (ad v107), .ref (ad 12), .int (sI a108)]) (st := []) 88 (s_lt rfl rfl) (s_kc (c := 4) rfl rfl) (by decide) rfl (s1_X5_look hM0 hpr cv107 rfl a108 (by omega)) gX11_open_X5_look rfl hdX5_look (by decide) (Nat.le_of_ble_eq_true rfl) dX11_open_34 rfl (fun M111 h112 => ?_)
    have hM111 := h112
    refine j_aload_n C 1 0 dX11_open_37 rfl rfl ?_
    refine y_getC C 10 88 fX11_open_94 rfl rfl ft_10_14 sm_10_14 rfl hM111 dX11_open_38 ?_
    refine j_iload_n C 2 1 dX11_open_41 rfl rfl ?_
    refine j_callVv C (d := 3) (As := [.int (sI a1)]) (st := []) 88 (s_lt rfl rfl) (s_kc (c := 4) rfl rfl) (by decide) rfl (s1_X5_passDays hM111 hpr a1 (by omega)) gX11_open_X5_passDays rfl hdX5_passDays (by decide) (Nat.le_of_ble_eq_true rfl) dX11_open_42 rfl (fun M115 h116 => ?_)
    have hM115 := h116
    refine j_aload_n C 1 0 dX11_open_45 rfl rfl ?_
    refine y_getC C 10 88 fX11_open_94 rfl rfl ft_10_14 sm_10_14 rfl hM115 dX11_open_46 ?_
    refine j_callVj C (d := 1) (As := []) (st := []) 88 (s_lt rfl rfl) (s_kc (c := 4) rfl rfl) (by decide) rfl (s1_X5_openWays hM115) gX11_open_X5_openWays rfl hdX5_openWays (by decide) (Nat.le_of_ble_eq_true rfl) dX11_open_49 rfl (fun r118 M119 h120 => ?_)
    obtain ⟨a122, rfl, rfl, h121⟩ := h120
    refine j_aload_n C 1 0 dX11_open_52 rfl rfl ?_
    refine y_getC C 10 88 fX11_open_94 rfl rfl ft_10_14 sm_10_14 rfl hM115 dX11_open_53 ?_
    refine y_getJ C 4 fX11_open_296 rfl rfl ft_4_7 dX11_open_56 (fun a123 ea123 la123 ua123 => ?_)
    refine j_iload_n C 3 2 dX11_open_59 rfl rfl ?_
    refine j_callSj C (d := 1) (As := [.long (sJ a122), .long (sJ a123), .int (sI a2)]) (st := []) (s1_X11_inLowestTerms hM115 a122 (by omega) a123 (by omega) a2 (by omega)) gX11_open_X11_inLowestTerms rfl hdX11_inLowestTermss (by decide) (Nat.le_of_ble_eq_true rfl) dX11_open_60 rfl (fun r124 M125 h126 => ?_)
    obtain ⟨a128, rfl, rfl, h127⟩ := h126
    exact hret _ _ _ _ dX11_open_63 ⟨a128, rfl, hM115, by omega⟩
  · refine j_iload_n C 0 3 dX11_open_12 rfl rfl ?_
    refine y_i2l C dX11_open_13 (by omega) ?_
    exact hret _ _ _ _ dX11_open_14 ⟨a105, rfl, hM0, by omega⟩
