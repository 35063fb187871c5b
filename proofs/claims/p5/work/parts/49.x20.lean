set_option maxHeartbeats 4000000 in
theorem s8_J7_fill_d0a16 {l : Launch} {dC : Nat → ClassId} {dI : Nat → Nat → Nat} {ad : Nat → Nat} {cA : Nat → ClassId} {pr : Nat → Nat → Bool} {Kz : mm_M} {M0 : mm_M} (hM0 : INV pr Kz M0) (hpr : PX pr) {v0 : Nat} (cv0 : s_c v0 = 41) (a1 : Int) (ha1 : -9223372036854775808 ≤ a1 ∧ a1 ≤ 9223372036854775807) : Cv l 0 yJ7_fill_d0a16 wsJ7_fill_d0a16 dC dI ad cA [.ref (ad v0), .long (sJ a1)] M0 (fun M' => INV pr Kz M' ∧ FX [92, 93] M0 M' ∧ (b01 (FIJ M' v0 a1 256) = 1)) := by
  refine cv_of (cc := cJ7_fill_d0a16) (maxL := 5) (lv := [(0, .ref (ad v0)), (1, .long (sJ a1))]) (by decide) rfl (Nat.le_of_ble_eq_true rfl) rfl ?_
  intro p e s m args below meth c A Q C hret
  refine y_iconst C dJ7_fill_d0a16_0 ?_
  refine j_istore_n C 3 [(3, .int (sI 0)), (0, .ref (ad v0)), (1, .long (sJ a1))] dJ7_fill_d0a16_1 rfl (by decide) rfl ?_
  refine j_aload_n C 1 0 dJ7_fill_d0a16_2 rfl rfl ?_
  refine y_alen C 41 256 cv0 rfl rfl an_41 rfl rfl dJ7_fill_d0a16_3 ?_
  refine j_istore C 4 [(4, .int (sI 256)), (3, .int (sI 0)), (0, .ref (ad v0)), (1, .long (sJ a1))] dJ7_fill_d0a16_4 (by decide) rfl ?_
  have u101z := fij_0 M0 v0 a1
  have L266 : ∀ (n264 : Nat), ∀ (a267 : Int) (M268 : mm_M), (0 ≤ a267 ∧ a267 ≤ 256 ∧ (b01 (FIJ M268 v0 a1 a267) = 1) ∧ (256 - a267) < (n264 : Int)) → INV pr Kz M268 → FX [92, 93] M0 M268 → jj p l e (cn_R 0) s m args below meth c 0 0 Q 5 dC dI ad cA A M268 6 [(0, .ref (ad v0)), (1, .long (sJ a1)), (3, .int (sI a267)), (4, .int (sI 256))] [] := by
    intro n264
    induction n264 with
    | zero =>
      intro a267 M268 h269 hM268 fM268
      exfalso; omega
    | succ n264 ih265 =>
      intro a267 M268 h269 hM268 fM268
      refine j_iload_n C 2 3 dJ7_fill_d0a16_6 rfl rfl ?_
      refine j_iload C 3 dJ7_fill_d0a16_7 rfl ?_
      refine y_icmp_ge C 22 dJ7_fill_d0a16_9 (by decide) (by omega) (fun h271 => ?_) (fun h271 => ?_)
      · have u274x : b01 (FIJ M268 v0 a1 256) = 1 := b01_i (fun k hk => b01_e (P := FIJ M268 v0 a1 a267) (by omega) k (by omega))
        exact hret _ _ _ dJ7_fill_d0a16_22 ⟨hM268, (FX.rf.tr fM268 (by decide)), by omega⟩
      · refine j_aload_n C 0 0 dJ7_fill_d0a16_12 rfl rfl ?_
        refine j_iload_n C 2 3 dJ7_fill_d0a16_13 rfl rfl ?_
        refine j_lload_n C 1 1 dJ7_fill_d0a16_14 rfl rfl ?_
        refine y_last C 41 256 cv0 rfl rfl ak_41 an_41 rfl hM268 (PX.w hpr cv0 rfl) dJ7_fill_d0a16_15 (by omega) (fun M272 eM272 hM272 => ?_)
        refine y_iinc C 2 [(3, .int (sI (a267 + 1))), (0, .ref (ad v0)), (1, .long (sJ a1)), (4, .int (sI 256))] dJ7_fill_d0a16_16 rfl (by decide) rfl ?_
        refine j_goto C 6 dJ7_fill_d0a16_19 (by decide) ?_
        have u273z := fij_s (M := M268) (N := M272) (c := v0) (v := a1) (n := a267) (n' := (a267 + 1)) (by omega) eM272 (by omega)
        refine j_lv [1, 2, 0, 3] rfl ?_; exact ih265 (a267 + 1) M272 (by omega) hM272 (fx_wJc (FX.rf.tr fM268 (by decide)) eM272 cv0 cw_41 (by decide))
  refine j_lv [2, 3, 1, 0] rfl ?_; exact L266 2010 0 M0 (by omega) hM0 FX.rf
set_option maxHeartbeats 4000000 in
theorem s2_X5_beginRows {l : Launch} {dC : Nat → ClassId} {dI : Nat → Nat → Nat} {ad : Nat → Nat} {cA : Nat → ClassId} {pr : Nat → Nat → Bool} {Kz : mm_M} {M0 : mm_M} (hM0 : INV pr Kz M0) (hpr : PX pr)  : Cv l 1 yX5_beginRows wsX5_beginRows dC dI ad cA [.ref (ad 88)] M0 (fun M' => INV pr Kz M' ∧ FX [92, 93] M0 M') := by
  refine cv_of (cc := cX5_beginRows) (maxL := 1) (lv := [(0, .ref (ad 88))]) (by decide) rfl (Nat.le_of_ble_eq_true rfl) rfl ?_
  intro p e s m args below meth c A Q C hret
  refine j_aload_n C 0 0 dX5_beginRows_0 rfl rfl ?_
  refine y_getM C 4 41 fX5_beginRows_21 rfl rfl ft_4_4 sm_4_4 (by decide) hM0 dX5_beginRows_1 (fun v101 ev101 cv101 => ?_)
  refine y_lconst C 0 dX5_beginRows_4 rfl ?_
  refine j_callSv C (d := 0) (As := [.ref (ad v101), .long (sJ 0)]) (st := []) (s8_J7_fill_d0a16 hM0 hpr cv101 0 (by omega)) gX5_beginRows_J7_fill_d0a16 rfl hdJ7_fill_d0a16s (by decide) (Nat.le_of_ble_eq_true rfl) dX5_beginRows_5 rfl (fun M103 h104 => ?_)
  obtain ⟨hM103, fM103, h105⟩ := h104
  refine j_aload_n C 0 0 dX5_beginRows_8 rfl rfl ?_
  refine y_getV C 4 v101 fX5_beginRows_21 rfl rfl ft_4_4 (s_pX fM103 (ev101)) dX5_beginRows_9 ?_
  refine j_aload_n C 0 0 dX5_beginRows_12 rfl rfl ?_
  refine y_getI C 4 _ _ fX5_beginRows_45 rfl rfl ft_4_13 sb_4_13 hM103 dX5_beginRows_13 (fun a106 ea106 la106 ua106 => ?_)
  refine y_lconst C 1 dX5_beginRows_16 rfl ?_
  refine y_last C 41 256 cv101 rfl rfl ak_41 an_41 rfl hM103 (PX.w hpr cv101 rfl) dX5_beginRows_17 (by omega) (fun M108 eM108 hM108 => ?_)
  exact hret _ _ _ dX5_beginRows_18 ⟨hM108, (fx_wJc (FX.rf.tr fM103 (by decide)) eM108 cv101 cw_41 (by decide))⟩
set_option maxHeartbeats 4000000 in
theorem s2_X5_swapWays {l : Launch} {dC : Nat → ClassId} {dI : Nat → Nat → Nat} {ad : Nat → Nat} {cA : Nat → ClassId} {pr : Nat → Nat → Bool} {Kz : mm_M} {M0 : mm_M} (hM0 : INV pr Kz M0) (hpr : PX pr)  : Cv l 0 yX5_swapWays wsX5_swapWays dC dI ad cA [.ref (ad 88)] M0 (fun M' => INV pr Kz M' ∧ FX [88] M0 M') := by
  refine cv_of (cc := cX5_swapWays) (maxL := 2) (lv := [(0, .ref (ad 88))]) (by decide) rfl (Nat.le_of_ble_eq_true rfl) rfl ?_
  intro p e s m args below meth c A Q C hret
  refine j_aload_n C 0 0 dX5_swapWays_0 rfl rfl ?_
  refine y_getM C 4 41 fX5_swapWays_21 rfl rfl ft_4_4 sm_4_4 (by decide) hM0 dX5_swapWays_1 (fun v101 ev101 cv101 => ?_)
  refine j_astore_n C 1 [(1, .ref (ad v101)), (0, .ref (ad 88))] dX5_swapWays_4 rfl (by decide) rfl ?_
  refine j_aload_n C 1 0 dX5_swapWays_5 rfl rfl ?_
  refine j_aload_n C 1 0 dX5_swapWays_6 rfl rfl ?_
  refine y_getM C 4 41 fX5_swapWays_25 rfl rfl ft_4_5 sm_4_5 (by decide) hM0 dX5_swapWays_7 (fun v102 ev102 cv102 => ?_)
  refine y_putP C 4 41 qX5_swapWays_21 rfl rfl rfl rfl ft_4_4 sm_4_4 (by decide) hM0 (PX.w hpr rfl rfl) cv102 dX5_swapWays_10 (fun M103 eM103 hM103 => ?_)
  refine j_aload_n C 1 0 dX5_swapWays_13 rfl rfl ?_
  refine j_aload_n C 0 1 dX5_swapWays_14 rfl rfl ?_
  refine y_putP C 4 41 qX5_swapWays_25 rfl rfl rfl rfl ft_4_5 sm_4_5 (by decide) hM103 (PX.w hpr rfl rfl) cv101 dX5_swapWays_15 (fun M104 eM104 hM104 => ?_)
  exact hret _ _ _ dX5_swapWays_18 ⟨hM104, ((FX.rf.wP eM103 (by decide)).wP eM104 (by decide))⟩
set_option maxHeartbeats 4000000 in
theorem s2_X5_lengthenRows {l : Launch} {dC : Nat → ClassId} {dI : Nat → Nat → Nat} {ad : Nat → Nat} {cA : Nat → ClassId} {pr : Nat → Nat → Bool} {Kz : mm_M} {M0 : mm_M} (hM0 : INV pr Kz M0) (hpr : PX pr) (a1 : Int) (ha1 : -2147483648 ≤ a1 ∧ a1 ≤ 2147483647) : Cv l 1 yX5_lengthenRows wsX5_lengthenRows dC dI ad cA [.ref (ad 88), .int (sI a1)] M0 (fun M' => INV pr Kz M' ∧ FX [88, 92, 93] M0 M') := by
  refine cv_of (cc := cX5_lengthenRows) (maxL := 5) (lv := [(0, .ref (ad 88)), (1, .int (sI a1))]) (by decide) rfl (Nat.le_of_ble_eq_true rfl) rfl ?_
  intro p e s m args below meth c A Q C hret
  refine j_aload_n C 0 0 dX5_lengthenRows_0 rfl rfl ?_
  refine y_getM C 4 41 fX5_lengthenRows_25 rfl rfl ft_4_5 sm_4_5 (by decide) hM0 dX5_lengthenRows_1 (fun v101 ev101 cv101 => ?_)
  refine y_lconst C 0 dX5_lengthenRows_4 rfl ?_
  refine j_callSv C (d := 0) (As := [.ref (ad v101), .long (sJ 0)]) (st := []) (s8_J7_fill_d0a16 hM0 hpr cv101 0 (by omega)) gX5_lengthenRows_J7_fill_d0a16 rfl hdJ7_fill_d0a16s (by decide) (Nat.le_of_ble_eq_true rfl) dX5_lengthenRows_5 rfl (fun M103 h104 => ?_)
  obtain ⟨hM103, fM103, h105⟩ := h104
  refine j_aload_n C 0 0 dX5_lengthenRows_8 rfl rfl ?_
  refine y_getI C 4 _ _ fX5_lengthenRows_45 rfl rfl ft_4_13 sb_4_13 hM103 dX5_lengthenRows_9 (fun a106 ea106 la106 ua106 => ?_)
  refine j_istore_n C 2 [(2, .int (sI a106)), (0, .ref (ad 88)), (1, .int (sI a1))] dX5_lengthenRows_12 rfl (by decide) rfl ?_
  have L624 : ∀ (n622 : Nat), ∀ (a625 : Int) (M626 : mm_M), (0 ≤ a625 ∧ a625 ≤ 256 ∧ (256 - a625) < (n622 : Int)) → INV pr Kz M626 → FX [88, 92, 93] M0 M626 → jj p l e (cn_R 1) s m args below meth c 0 0 Q 5 dC dI ad cA A M626 13 [(0, .ref (ad 88)), (1, .int (sI a1)), (2, .int (sI a625))] [] := by
    intro n622
    induction n622 with
    | zero =>
      intro a625 M626 h627 hM626 fM626
      exfalso; omega
    | succ n622 ih623 =>
      intro a625 M626 h627 hM626 fM626
      refine j_iload_n C 2 2 dX5_lengthenRows_13 rfl rfl ?_
      refine j_aload_n C 0 0 dX5_lengthenRows_14 rfl rfl ?_
      refine y_getI C 4 _ _ fX5_lengthenRows_38 rfl rfl ft_4_11 sb_4_11 hM626 dX5_lengthenRows_15 (fun a628 ea628 la628 ua628 => ?_)
      refine y_icmp_gt C 101 dX5_lengthenRows_18 (by decide) (by omega) (fun h630 => ?_) (fun h630 => ?_)
      · refine j_aload_n C 0 0 dX5_lengthenRows_101 rfl rfl ?_
        refine j_callVv C (d := 0) (As := []) (st := []) 88 (s_lt rfl rfl) (s_kc (c := 4) rfl rfl) (by decide) rfl (s2_X5_swapWays hM626 hpr) gX5_lengthenRows_X5_swapWays rfl hdX5_swapWays (by decide) (Nat.le_of_ble_eq_true rfl) dX5_lengthenRows_102 rfl (fun M884 h885 => ?_)
        obtain ⟨hM884, fM884⟩ := h885
        exact hret _ _ _ dX5_lengthenRows_105 ⟨hM884, ((FX.rf.tr fM626 (by decide)).tr fM884 (by decide))⟩
      · refine y_iconst C dX5_lengthenRows_21 ?_
        refine j_istore_n C 3 [(3, .int (sI 0)), (0, .ref (ad 88)), (1, .int (sI a1)), (2, .int (sI a625))] dX5_lengthenRows_22 rfl (by decide) rfl ?_
        have L850 : ∀ (n848 : Nat), ∀ (a851 : Int) (M852 : mm_M), (0 ≤ a851 ∧ a851 ≤ 6 ∧ (6 - a851) < (n848 : Int)) → INV pr Kz M852 → FX [88, 92, 93] M0 M852 → jj p l e (cn_R 1) s m args below meth c 0 0 Q 5 dC dI ad cA A M852 23 [(0, .ref (ad 88)), (1, .int (sI a1)), (2, .int (sI a625)), (3, .int (sI a851))] [] := by
          intro n848
          induction n848 with
          | zero =>
            intro a851 M852 h853 hM852 fM852
            exfalso; omega
          | succ n848 ih849 =>
            intro a851 M852 h853 hM852 fM852
            refine j_iload_n C 3 3 dX5_lengthenRows_23 rfl rfl ?_
            refine j_aload_n C 0 0 dX5_lengthenRows_24 rfl rfl ?_
            refine y_getM C 4 6 fX5_lengthenRows_52 rfl rfl ft_4_9 sm_4_9 (by decide) hM852 dX5_lengthenRows_25 (fun v854 ev854 cv854 => ?_)
            refine y_getI C 6 _ _ fX5_lengthenRows_92 cv854 rfl ft_6_0 sb_6_0 hM852 dX5_lengthenRows_28 (fun a855 ea855 la855 ua855 => ?_)
            refine y_icmp_ge C 95 dX5_lengthenRows_31 (by decide) (by omega) (fun h857 => ?_) (fun h857 => ?_)
            · refine y_iinc C 2 [(2, .int (sI (a625 + 1))), (0, .ref (ad 88)), (1, .int (sI a1)), (3, .int (sI a851))] dX5_lengthenRows_95 rfl (by decide) rfl ?_
              refine j_goto C 13 dX5_lengthenRows_98 (by decide) ?_
              refine j_lv [1, 2, 0] rfl ?_; exact ih623 (a625 + 1) M852 (by omega) hM852 (FX.rf.tr fM852 (by decide))
            · refine j_aload_n C 0 0 dX5_lengthenRows_34 rfl rfl ?_
              refine y_getM C 4 41 fX5_lengthenRows_21 rfl rfl ft_4_4 sm_4_4 (by decide) hM852 dX5_lengthenRows_35 (fun v858 ev858 cv858 => ?_)
              refine j_iload_n C 2 2 dX5_lengthenRows_38 rfl rfl ?_
              refine y_lald C 41 256 cv858 rfl rfl ak_41 an_41 rfl dX5_lengthenRows_39 (by omega) (fun a859 ea859 la859 ua859 => ?_)
              refine y_lconst C 0 dX5_lengthenRows_40 rfl ?_
              refine y_lcmp_eq C 95 dX5_lengthenRows_41 dX5_lengthenRows_42 (by decide) (by omega) (fun h860 => ?_) (fun h860 => ?_)
              · refine y_iinc C 2 [(2, .int (sI (a625 + 1))), (0, .ref (ad 88)), (1, .int (sI a1)), (3, .int (sI a851))] dX5_lengthenRows_95 rfl (by decide) rfl ?_
                refine j_goto C 13 dX5_lengthenRows_98 (by decide) ?_
                refine j_lv [1, 2, 0] rfl ?_; exact ih623 (a625 + 1) M852 (by omega) hM852 (FX.rf.tr fM852 (by decide))
              · refine j_aload_n C 0 0 dX5_lengthenRows_45 rfl rfl ?_
                refine j_iload_n C 2 2 dX5_lengthenRows_46 rfl rfl ?_
                refine j_iload_n C 3 3 dX5_lengthenRows_47 rfl rfl ?_
                refine j_callVi C (d := 0) (As := [.int (sI a625), .int (sI a851)]) (st := []) 88 (s_lt rfl rfl) (s_kc (c := 4) rfl rfl) (by decide) rfl (s1_X5_pick hM852 a625 (by omega) a851 (by omega)) gX5_lengthenRows_X5_pick rfl hdX5_pick (by decide) (Nat.le_of_ble_eq_true rfl) dX5_lengthenRows_48 rfl (fun r861 M862 h863 => ?_)
                obtain ⟨a865, rfl, rfl, h864⟩ := h863
                refine j_istore C 4 [(4, .int (sI a865)), (0, .ref (ad 88)), (1, .int (sI a1)), (2, .int (sI a625)), (3, .int (sI a851))] dX5_lengthenRows_51 (by decide) rfl ?_
                refine j_iload C 0 dX5_lengthenRows_53 rfl ?_
                refine y_if_lt C 89 dX5_lengthenRows_55 (by decide) (by omega) (fun h866 => ?_) (fun h866 => ?_)
                · refine y_iinc C 4 [(3, .int (sI (a851 + 1))), (4, .int (sI a865)), (0, .ref (ad 88)), (1, .int (sI a1)), (2, .int (sI a625))] dX5_lengthenRows_89 rfl (by decide) rfl ?_
                  refine j_goto C 23 dX5_lengthenRows_92 (by decide) ?_
                  refine j_lv [2, 3, 4, 0] rfl ?_; exact ih849 (a851 + 1) M852 (by omega) hM852 (FX.rf.tr fM852 (by decide))
                · refine j_iload_n C 2 1 dX5_lengthenRows_58 rfl rfl ?_
                  refine y_iconst C dX5_lengthenRows_59 ?_
                  refine y_icmp_eq C 69 dX5_lengthenRows_60 (by decide) (by omega) (fun h867 => ?_) (fun h867 => ?_)
                  · refine j_aload_n C 1 0 dX5_lengthenRows_69 rfl rfl ?_
                    refine y_getM C 4 41 fX5_lengthenRows_25 rfl rfl ft_4_5 sm_4_5 (by decide) hM852 dX5_lengthenRows_70 (fun v868 ev868 cv868 => ?_)
                    refine j_iload_n C 3 2 dX5_lengthenRows_73 rfl rfl ?_
                    refine y_iconst C dX5_lengthenRows_74 ?_
                    refine j_iload C 0 dX5_lengthenRows_75 rfl ?_
                    refine y_shl1 C 7 128 dX5_lengthenRows_77 rfl (by decide) (by omega) (fun a869 la869 ua869 => ?_)
                    refine y_iorN C 8 255 dX5_lengthenRows_78 rfl (by decide) (by omega) (fun a870 la870 ua870 => ?_)
                    refine j_dup2 C dX5_lengthenRows_79 rfl rfl ?_
                    refine y_lald C 41 256 cv868 rfl rfl ak_41 an_41 rfl dX5_lengthenRows_80 (by omega) (fun a871 ea871 la871 ua871 => ?_)
                    refine j_aload_n C 1 0 dX5_lengthenRows_81 rfl rfl ?_
                    refine y_getV C 4 v858 fX5_lengthenRows_21 rfl rfl ft_4_4 (ev858) dX5_lengthenRows_82 ?_
                    refine j_iload_n C 3 2 dX5_lengthenRows_85 rfl rfl ?_
                    refine y_lald C 41 256 cv858 rfl rfl ak_41 an_41 rfl dX5_lengthenRows_86 (by omega) (fun a872 ea872 la872 ua872 => ?_)
                    refine y_ladd0 C dX5_lengthenRows_87 (fun a873 la873 ua873 => ?_)
                    refine y_last C 41 256 cv868 rfl rfl ak_41 an_41 rfl hM852 (PX.w hpr cv868 rfl) dX5_lengthenRows_88 (by omega) (fun M874 eM874 hM874 => ?_)
                    refine y_iinc C 4 [(3, .int (sI (a851 + 1))), (4, .int (sI a865)), (0, .ref (ad 88)), (1, .int (sI a1)), (2, .int (sI a625))] dX5_lengthenRows_89 rfl (by decide) rfl ?_
                    refine j_goto C 23 dX5_lengthenRows_92 (by decide) ?_
                    refine j_lv [2, 3, 4, 0] rfl ?_; exact ih849 (a851 + 1) M874 (by omega) hM874 (fx_wJc (FX.rf.tr fM852 (by decide)) eM874 cv868 cw_41 (by decide))
                  · refine j_iload_n C 2 1 dX5_lengthenRows_63 rfl rfl ?_
                    refine j_iload C 0 dX5_lengthenRows_64 rfl ?_
                    refine y_icmp_ne C 89 dX5_lengthenRows_66 (by decide) (by omega) (fun h875 => ?_) (fun h875 => ?_)
                    · refine y_iinc C 4 [(3, .int (sI (a851 + 1))), (4, .int (sI a865)), (0, .ref (ad 88)), (1, .int (sI a1)), (2, .int (sI a625))] dX5_lengthenRows_89 rfl (by decide) rfl ?_
                      refine j_goto C 23 dX5_lengthenRows_92 (by decide) ?_
                      refine j_lv [2, 3, 4, 0] rfl ?_; exact ih849 (a851 + 1) M852 (by omega) hM852 (FX.rf.tr fM852 (by decide))
                    · refine j_aload_n C 1 0 dX5_lengthenRows_69 rfl rfl ?_
                      refine y_getM C 4 41 fX5_lengthenRows_25 rfl rfl ft_4_5 sm_4_5 (by decide) hM852 dX5_lengthenRows_70 (fun v876 ev876 cv876 => ?_)
                      refine j_iload_n C 3 2 dX5_lengthenRows_73 rfl rfl ?_
                      refine y_iconst C dX5_lengthenRows_74 ?_
                      refine j_iload C 0 dX5_lengthenRows_75 rfl ?_
                      refine y_shl1 C 7 128 dX5_lengthenRows_77 rfl (by decide) (by omega) (fun a877 la877 ua877 => ?_)
                      refine y_iorN C 8 255 dX5_lengthenRows_78 rfl (by decide) (by omega) (fun a878 la878 ua878 => ?_)
                      refine j_dup2 C dX5_lengthenRows_79 rfl rfl ?_
                      refine y_lald C 41 256 cv876 rfl rfl ak_41 an_41 rfl dX5_lengthenRows_80 (by omega) (fun a879 ea879 la879 ua879 => ?_)
                      refine j_aload_n C 1 0 dX5_lengthenRows_81 rfl rfl ?_
                      refine y_getV C 4 v858 fX5_lengthenRows_21 rfl rfl ft_4_4 (ev858) dX5_lengthenRows_82 ?_
                      refine j_iload_n C 3 2 dX5_lengthenRows_85 rfl rfl ?_
                      refine y_lald C 41 256 cv858 rfl rfl ak_41 an_41 rfl dX5_lengthenRows_86 (by omega) (fun a880 ea880 la880 ua880 => ?_)
                      refine y_ladd0 C dX5_lengthenRows_87 (fun a881 la881 ua881 => ?_)
                      refine y_last C 41 256 cv876 rfl rfl ak_41 an_41 rfl hM852 (PX.w hpr cv876 rfl) dX5_lengthenRows_88 (by omega) (fun M882 eM882 hM882 => ?_)
                      refine y_iinc C 4 [(3, .int (sI (a851 + 1))), (4, .int (sI a865)), (0, .ref (ad 88)), (1, .int (sI a1)), (2, .int (sI a625))] dX5_lengthenRows_89 rfl (by decide) rfl ?_
                      refine j_goto C 23 dX5_lengthenRows_92 (by decide) ?_
                      refine j_lv [2, 3, 4, 0] rfl ?_; exact ih849 (a851 + 1) M882 (by omega) hM882 (fx_wJc (FX.rf.tr fM852 (by decide)) eM882 cv876 cw_41 (by decide))
        refine j_lv [1, 2, 3, 0] rfl ?_; exact L850 2010 0 M626 (by omega) hM626 (FX.rf.tr fM626 (by decide))
  refine j_lv [1, 2, 0] rfl ?_; exact L624 2010 a106 M103 (by omega) hM103 (FX.rf.tr fM103 (by decide))
set_option maxHeartbeats 4000000 in
theorem s2_X5_rowsToShut {l : Launch} {dC : Nat → ClassId} {dI : Nat → Nat → Nat} {ad : Nat → Nat} {cA : Nat → ClassId} {pr : Nat → Nat → Bool} {Kz : mm_M} {M0 : mm_M} (hM0 : INV pr Kz M0) (hpr : PX pr) (a1 : Int) (ha1 : -2147483648 ≤ a1 ∧ a1 ≤ 2147483647) : Cj l 2 yX5_rowsToShut wsX5_rowsToShut dC dI ad cA [.ref (ad 88), .int (sI a1)] M0 (fun r M' => ∃ a : Int, r = sJ a ∧ INV pr Kz M' ∧ FX [88, 92, 93] M0 M' ∧ (-9223372036854775808) ≤ a ∧ a ≤ 9223372036854775807) := by
  refine cj_of (cc := cX5_rowsToShut) (maxL := 3) (lv := [(0, .ref (ad 88)), (1, .int (sI a1))]) (by decide) rfl (Nat.le_of_ble_eq_true rfl) rfl ?_
  intro p e s m args below meth c A Q C hret
  refine j_aload_n C 0 0 dX5_rowsToShut_0 rfl rfl ?_
  refine j_callVv C (d := 1) (As := []) (st := []) 88 (s_lt rfl rfl) (s_kc (c := 4) rfl rfl) (by decide) rfl (s2_X5_beginRows hM0 hpr) gX5_rowsToShut_X5_beginRows rfl hdX5_beginRows (by decide) (Nat.le_of_ble_eq_true rfl) dX5_rowsToShut_1 rfl (fun M102 h103 => ?_)
  obtain ⟨hM102, fM102⟩ := h103
  refine y_iconst C dX5_rowsToShut_4 ?_
  refine j_istore_n C 2 [(2, .int (sI 0)), (0, .ref (ad 88)), (1, .int (sI a1))] dX5_rowsToShut_5 rfl (by decide) rfl ?_
  have L345 : ∀ (n343 : Nat), ∀ (a346 : Int) (M347 : mm_M), (0 ≤ a346 ∧ a346 ≤ 2147483647 ∧ (2147483647 - a346) < (n343 : Int)) → INV pr Kz M347 → FX [88, 92, 93] M0 M347 → jj p l e (cn_R 2) s m args below meth c 0 0 Q 3 dC dI ad cA A M347 6 [(0, .ref (ad 88)), (1, .int (sI a1)), (2, .int (sI a346))] [] := by
    intro n343
    induction n343 with
    | zero =>
      intro a346 M347 h348 hM347 fM347
      exfalso; omega
    | succ n343 ih344 =>
      intro a346 M347 h348 hM347 fM347
      refine j_iload_n C 2 2 dX5_rowsToShut_6 rfl rfl ?_
      refine j_iload_n C 1 1 dX5_rowsToShut_7 rfl rfl ?_
      refine y_icmp_ge C 22 dX5_rowsToShut_8 (by decide) (by omega) (fun h349 => ?_) (fun h349 => ?_)
      · refine j_aload_n C 0 0 dX5_rowsToShut_22 rfl rfl ?_
        refine j_callVj C (d := 0) (As := []) (st := []) 88 (s_lt rfl rfl) (s_kc (c := 4) rfl rfl) (by decide) rfl (s1_X5_allWays hM347) gX5_rowsToShut_X5_allWays rfl hdX5_allWays (by decide) (Nat.le_of_ble_eq_true rfl) dX5_rowsToShut_23 rfl (fun r354 M355 h356 => ?_)
        obtain ⟨a358, rfl, rfl, h357⟩ := h356
        refine j_aload_n C 0 0 dX5_rowsToShut_26 rfl rfl ?_
        refine j_callVj C (d := 1) (As := []) (st := [.long (sJ a358)]) 88 (s_lt rfl rfl) (s_kc (c := 4) rfl rfl) (by decide) rfl (s1_X5_openWays hM347) gX5_rowsToShut_X5_openWays rfl hdX5_openWays (by decide) (Nat.le_of_ble_eq_true rfl) dX5_rowsToShut_27 rfl (fun r359 M360 h361 => ?_)
        obtain ⟨a363, rfl, rfl, h362⟩ := h361
        refine y_lsub0 C dX5_rowsToShut_30 (fun a364 la364 ua364 => ?_)
        exact hret _ _ _ _ dX5_rowsToShut_31 ⟨a364, rfl, hM347, (FX.rf.tr fM347 (by decide)), by omega⟩
      · refine j_aload_n C 0 0 dX5_rowsToShut_11 rfl rfl ?_
        refine y_iconst C dX5_rowsToShut_12 ?_
        refine j_callVv C (d := 1) (As := [.int (sI (-1))]) (st := []) 88 (s_lt rfl rfl) (s_kc (c := 4) rfl rfl) (by decide) rfl (s2_X5_lengthenRows hM347 hpr (-1) (by omega)) gX5_rowsToShut_X5_lengthenRows rfl hdX5_lengthenRows (by decide) (Nat.le_of_ble_eq_true rfl) dX5_rowsToShut_13 rfl (fun M351 h352 => ?_)
        obtain ⟨hM351, fM351⟩ := h352
        refine y_iinc C 2 [(2, .int (sI (a346 + 1))), (0, .ref (ad 88)), (1, .int (sI a1))] dX5_rowsToShut_16 rfl (by decide) rfl ?_
        refine j_goto C 6 dX5_rowsToShut_19 (by decide) ?_
        refine j_lv [1, 2, 0] rfl ?_; exact ih344 (a346 + 1) M351 (by omega) hM351 ((FX.rf.tr fM347 (by decide)).tr fM351 (by decide))
  refine j_lv [1, 2, 0] rfl ?_; exact L345 4294967304 0 M102 (by omega) hM102 (FX.rf.tr fM102 (by decide))
set_option maxHeartbeats 4000000 in
theorem s2_X11_endings {l : Launch} {dC : Nat → ClassId} {dI : Nat → Nat → Nat} {ad : Nat → Nat} {cA : Nat → ClassId} {pr : Nat → Nat → Bool} {Kz : mm_M} {M0 : mm_M} (hM0 : INV pr Kz M0) (hpr : PX pr) (a1 : Int) (ha1 : -2147483648 ≤ a1 ∧ a1 ≤ 2147483647) (gp : Nat) (cgp : s_c gp = 6) (egp : gp = M0.2.2 0 4) (hp0 : b01 (APX M0 gp) = 1) (hp1 : b01 (LAW M0 gp) = 1) (hp2 : b01 (PRR (rwX M0 gp 12)) = 1) (hp3 : (M0.1 12 3).toInt < pw2 (M0.1 12 0).toInt) : Cj l 6 yX11_endings wsX11_endings dC dI ad cA [.ref (ad 0), .int (sI a1)] M0 (fun r M' => ∃ a : Int, r = sJ a ∧ INV pr Kz M' ∧ FX [81, 82, 83, 84, 85, 86, 88, 89, 90, 92, 93] M0 M' ∧ (-9223372036854775808) ≤ a ∧ a ≤ 9223372036854775807 ∧ (b01 (APX M' gp) = 1)) := by
  refine cj_of (cc := cX11_endings) (maxL := 2) (lv := [(0, .ref (ad 0)), (1, .int (sI a1))]) (by decide) rfl (Nat.le_of_ble_eq_true rfl) rfl ?_
  intro p e s m args below meth c A Q C hret
  refine j_iload_n C 1 1 dX11_endings_0 rfl rfl ?_
  refine y_if_lt C 10 dX11_endings_1 (by decide) (by omega) (fun h102 => ?_) (fun h102 => ?_)
  · refine y_ldc2 C (-3) dX11_endings_10 kX11_endings_272 rfl ?_
    exact hret _ _ _ _ dX11_endings_13 ⟨(-3), rfl, hM0, FX.rf, by omega⟩
  · refine j_iload_n C 1 1 dX11_endings_4 rfl rfl ?_
    refine y_bipush C dX11_endings_5 rfl ?_
    refine y_icmp_le C 14 dX11_endings_7 (by decide) (by omega) (fun h104 => ?_) (fun h104 => ?_)
    · refine j_aload_n C 0 0 dX11_endings_14 rfl rfl ?_
      refine y_getC C 10 88 fX11_endings_94 rfl rfl ft_10_14 sm_10_14 rfl hM0 dX11_endings_15 ?_
      refine j_aload_n C 0 0 dX11_endings_18 rfl rfl ?_
      refine y_getV C 10 gp fX11_endings_26 rfl rfl ft_10_4 (egp) dX11_endings_19 ?_
      refine j_aload_n C 0 0 dX11_endings_22 rfl rfl ?_
      refine y_getC C 10 12 fX11_endings_36 rfl rfl ft_10_6 sm_10_6 rfl hM0 dX11_endings_23 ?_
      refine j_aload_n C 0 0 dX11_endings_26 rfl rfl ?_
      refine y_getC C 10 12 fX11_endings_36 rfl rfl ft_10_6 sm_10_6 rfl hM0 dX11_endings_27 ?_
      refine y_getI C 8 _ _ fX11_endings_153 rfl rfl ft_8_4 sb_8_4 hM0 dX11_endings_30 (fun a105 ea105 la105 ua105 => ?_)
      refine j_callVv C (d := 5) (As := [.ref (ad gp), .ref (ad 12), .int (sI a105)]) (st := []) 88 (s_lt rfl rfl) (s_kc (c := 4) rfl rfl) (by decide) rfl (s2_X5_look hM0 hpr cgp a105 (by omega) (by omega) (by omega) (by omega) (by omega) (by omega)) gX11_endings_X5_look rfl hdX5_look (by decide) (Nat.le_of_ble_eq_true rfl) dX11_endings_33 rfl (fun M109 h110 => ?_)
      obtain ⟨hM109, fM109, h111⟩ := h110
      have u112a := tn_a (M := M109) (p := gp) (f := rwX M0 gp 12) (by omega)
      refine j_aload_n C 0 0 dX11_endings_36 rfl rfl ?_
      refine y_getC C 10 88 fX11_endings_94 rfl rfl ft_10_14 sm_10_14 rfl hM109 dX11_endings_37 ?_
      refine j_iload_n C 1 1 dX11_endings_40 rfl rfl ?_
      refine j_callVj C (d := 2) (As := [.int (sI a1)]) (st := []) 88 (s_lt rfl rfl) (s_kc (c := 4) rfl rfl) (by decide) rfl (s2_X5_rowsToShut hM109 hpr a1 (by omega)) gX11_endings_X5_rowsToShut rfl hdX5_rowsToShut (by decide) (Nat.le_of_ble_eq_true rfl) dX11_endings_41 rfl (fun r113 M114 h115 => ?_)
      obtain ⟨a117, rfl, hM114, fM114, h116⟩ := h115
      have u118A7 := hM109.rd (i := gp) (c := 6) (k := 7) cgp (show s_b 6 7 = (0, 900) from rfl)
      have u118A9 := hM109.rd (i := gp) (c := 6) (k := 9) cgp (show s_b 6 9 = (0, 900) from rfl)
      have u118A := apx_o (M := M109) (N := M114) (p := gp) (ple_f (p := gp) ((FX.rf.tr fM114 (by decide)) : FX [88, 92, 93] M109 M114) cgp (by decide)) (((FX.rf.tr fM114 (by decide)) : FX [88, 92, 93] M109 M114).cell (by decide)) (((FX.rf.tr fM114 (by decide)) : FX [88, 92, 93] M109 M114).cell (by decide)) (((FX.rf.tr fM114 (by decide)) : FX [88, 92, 93] M109 M114).cell (by decide)) u118A7.1 u118A9.1 (by omega)
      exact hret _ _ _ _ dX11_endings_44 ⟨a117, rfl, hM114, ((FX.rf.tr fM109 (by decide)).tr fM114 (by decide)), by omega⟩
    · refine y_ldc2 C (-3) dX11_endings_10 kX11_endings_272 rfl ?_
      exact hret _ _ _ _ dX11_endings_13 ⟨(-3), rfl, hM0, FX.rf, by omega⟩
set_option maxHeartbeats 4000000 in
theorem s3_X5_measure {l : Launch} {dC : Nat → ClassId} {dI : Nat → Nat → Nat} {ad : Nat → Nat} {cA : Nat → ClassId} {pr : Nat → Nat → Bool} {Kz : mm_M} {M0 : mm_M} (hM0 : INV pr Kz M0) (hpr : PX pr) (a1 : Int) (ha1 : -2147483648 ≤ a1 ∧ a1 ≤ 2147483647) : Ci l 2 yX5_measure wsX5_measure dC dI ad cA [.ref (ad 88), .int (sI a1)] M0 (fun r M' => ∃ a : Int, r = sI a ∧ INV pr Kz M' ∧ FX [91] M0 M' ∧ (-2147483648) ≤ a ∧ a ≤ 2147483647) := by
  refine ci_of (cc := cX5_measure) (maxL := 3) (ty := .int) (lv := [(0, .ref (ad 88)), (1, .int (sI a1))]) (by decide) rfl (fun r M' hp => rfl) (Nat.le_of_ble_eq_true rfl) rfl ?_
  intro p e s m args below meth c A Q C hret
  refine j_aload_n C 0 0 dX5_measure_0 rfl rfl ?_
  refine y_getI C 4 _ _ fX5_measure_38 rfl rfl ft_4_11 sb_4_11 hM0 dX5_measure_1 (fun a101 ea101 la101 ua101 => ?_)
  refine j_istore_n C 2 [(2, .int (sI a101)), (0, .ref (ad 88)), (1, .int (sI a1))] dX5_measure_4 rfl (by decide) rfl ?_
  have L145 : ∀ (n143 : Nat), ∀ (a146 : Int) (M147 : mm_M), ((-1) ≤ a146 ∧ a146 ≤ 255 ∧ (a146 - (-1)) < (n143 : Int)) → INV pr Kz M147 → FX [91] M0 M147 → jj p l e (cn_R 2) s m args below meth c 0 0 Q 3 dC dI ad cA A M147 5 [(0, .ref (ad 88)), (1, .int (sI a1)), (2, .int (sI a146))] [] := by
    intro n143
    induction n143 with
    | zero =>
      intro a146 M147 h148 hM147 fM147
      exfalso; omega
    | succ n143 ih144 =>
      intro a146 M147 h148 hM147 fM147
      refine j_iload_n C 2 2 dX5_measure_5 rfl rfl ?_
      refine j_aload_n C 0 0 dX5_measure_6 rfl rfl ?_
      refine y_getI C 4 _ _ fX5_measure_45 rfl rfl ft_4_13 sb_4_13 hM147 dX5_measure_7 (fun a149 ea149 la149 ua149 => ?_)
      refine y_icmp_lt C 53 dX5_measure_10 (by decide) (by omega) (fun h151 => ?_) (fun h151 => ?_)
      · refine j_aload_n C 0 0 dX5_measure_53 rfl rfl ?_
        refine y_getC C 4 91 fX5_measure_18 rfl rfl ft_4_3 sm_4_3 rfl hM147 dX5_measure_54 ?_
        refine j_aload_n C 0 0 dX5_measure_57 rfl rfl ?_
        refine y_getI C 4 _ _ fX5_measure_45 rfl rfl ft_4_13 sb_4_13 hM147 dX5_measure_58 (fun a167 ea167 la167 ua167 => ?_)
        refine y_iald C 40 256 _ _ rfl rfl rfl ak_40 an_40 rfl (sb_40 _) hM147 dX5_measure_61 (by omega) (fun a169 ea169 la169 ua169 => ?_)
        exact hret _ _ _ _ dX5_measure_62 ⟨a169, rfl, hM147, (FX.rf.tr fM147 (by decide)), by omega⟩
      · refine j_aload_n C 0 0 dX5_measure_13 rfl rfl ?_
        refine y_getC C 4 90 fX5_measure_15 rfl rfl ft_4_2 sm_4_2 rfl hM147 dX5_measure_14 ?_
        refine j_iload_n C 2 2 dX5_measure_17 rfl rfl ?_
        refine y_iald C 39 256 _ _ rfl rfl rfl ak_39 an_39 rfl (sb_39 _) hM147 dX5_measure_18 (by omega) (fun a152 ea152 la152 ua152 => ?_)
        refine y_iconst C dX5_measure_19 ?_
        refine y_icmp_ne C 47 dX5_measure_20 (by decide) (by omega) (fun h153 => ?_) (fun h153 => ?_)
        · refine y_iinc C 2 [(2, .int (sI (a146 + (-1)))), (0, .ref (ad 88)), (1, .int (sI a1))] dX5_measure_47 rfl (by decide) rfl ?_
          refine j_goto C 5 dX5_measure_50 (by decide) ?_
          refine j_lv [1, 2, 0] rfl ?_; exact ih144 (a146 + (-1)) M147 (by omega) hM147 (FX.rf.tr fM147 (by decide))
        · refine j_aload_n C 0 0 dX5_measure_23 rfl rfl ?_
          refine y_getC C 4 91 fX5_measure_18 rfl rfl ft_4_3 sm_4_3 rfl hM147 dX5_measure_24 ?_
          refine j_iload_n C 2 2 dX5_measure_27 rfl rfl ?_
          refine j_aload_n C 0 0 dX5_measure_28 rfl rfl ?_
          refine j_iload_n C 2 2 dX5_measure_29 rfl rfl ?_
          refine j_callVi C (d := 0) (As := [.int (sI a146)]) (st := [.int (sI a146), .ref (ad 91)]) 88 (s_lt rfl rfl) (s_kc (c := 4) rfl rfl) (by decide) rfl (s1_X5_isShutAt hM147 a146 (by omega)) gX5_measure_X5_isShutAt rfl hdX5_isShutAt (by decide) (Nat.le_of_ble_eq_true rfl) dX5_measure_30 rfl (fun r154 M155 h156 => ?_)
          obtain ⟨a158, rfl, rfl, h157⟩ := h156
          refine y_if_eq C 40 dX5_measure_33 (by decide) (by omega) (fun h159 => ?_) (fun h159 => ?_)
          · refine j_aload_n C 0 0 dX5_measure_40 rfl rfl ?_
            refine j_iload_n C 2 2 dX5_measure_41 rfl rfl ?_
            refine j_iload_n C 1 1 dX5_measure_42 rfl rfl ?_
            refine j_callVi C (d := 1) (As := [.int (sI a146), .int (sI a1)]) (st := [.int (sI a146), .ref (ad 91)]) 88 (s_lt rfl rfl) (s_kc (c := 4) rfl rfl) (by decide) rfl (s1_X5_stepsFrom hM147 a146 (by omega) a1 (by omega) (by omega)) gX5_measure_X5_stepsFrom rfl hdX5_stepsFrom (by decide) (Nat.le_of_ble_eq_true rfl) dX5_measure_43 rfl (fun r160 M161 h162 => ?_)
            obtain ⟨a164, rfl, rfl, h163⟩ := h162
            refine y_iastF C 40 256 rfl rfl rfl ak_40 an_40 rfl (sb_40 _) hM147 (PX.w hpr rfl rfl) dX5_measure_46 (by omega) (fun M165 eM165 hM165 => ?_)
            refine y_iinc C 2 [(2, .int (sI (a146 + (-1)))), (0, .ref (ad 88)), (1, .int (sI a1))] dX5_measure_47 rfl (by decide) rfl ?_
            refine j_goto C 5 dX5_measure_50 (by decide) ?_
            refine j_lv [1, 2, 0] rfl ?_; exact ih144 (a146 + (-1)) M165 (by omega) hM165 ((FX.rf.tr fM147 (by decide)).wI eM165 (by decide))
          · refine y_iconst C dX5_measure_36 ?_
            refine j_goto C 46 dX5_measure_37 (by decide) ?_
            refine y_iastF C 40 256 rfl rfl rfl ak_40 an_40 rfl (sb_40 _) hM147 (PX.w hpr rfl rfl) dX5_measure_46 (by omega) (fun M166 eM166 hM166 => ?_)
            refine y_iinc C 2 [(2, .int (sI (a146 + (-1)))), (0, .ref (ad 88)), (1, .int (sI a1))] dX5_measure_47 rfl (by decide) rfl ?_
            refine j_goto C 5 dX5_measure_50 (by decide) ?_
            refine j_lv [1, 2, 0] rfl ?_; exact ih144 (a146 + (-1)) M166 (by omega) hM166 ((FX.rf.tr fM147 (by decide)).wI eM166 (by decide))
  refine j_lv [1, 2, 0] rfl ?_; exact L145 2010 a101 M0 (by omega) hM0 FX.rf
set_option maxHeartbeats 4000000 in
theorem s2_X5_neededBuyers {l : Launch} {dC : Nat → ClassId} {dI : Nat → Nat → Nat} {ad : Nat → Nat} {cA : Nat → ClassId} {pr : Nat → Nat → Bool} {Kz : mm_M} {M0 : mm_M} (hM0 : INV pr Kz M0) (hpr : PX pr)  : Ci l 3 yX5_neededBuyers wsX5_neededBuyers dC dI ad cA [.ref (ad 88)] M0 (fun r M' => ∃ a : Int, r = sI a ∧ INV pr Kz M' ∧ FX [91] M0 M' ∧ 0 ≤ a ∧ a ≤ 63) := by
  refine ci_of (cc := cX5_neededBuyers) (maxL := 4) (ty := .int) (lv := [(0, .ref (ad 88))]) (by decide) rfl (fun r M' hp => rfl) (Nat.le_of_ble_eq_true rfl) rfl ?_
  intro p e s m args below meth c A Q C hret
  refine y_iconst C dX5_neededBuyers_0 ?_
  refine j_istore_n C 1 [(1, .int (sI 0)), (0, .ref (ad 88))] dX5_neededBuyers_1 rfl (by decide) rfl ?_
  refine y_iconst C dX5_neededBuyers_2 ?_
  refine j_aload_n C 1 0 dX5_neededBuyers_3 rfl rfl ?_
  refine y_getM C 4 6 fX5_neededBuyers_52 rfl rfl ft_4_9 sm_4_9 (by decide) hM0 dX5_neededBuyers_4 (fun v101 ev101 cv101 => ?_)
  refine y_getI C 6 _ _ fX5_neededBuyers_92 cv101 rfl ft_6_0 sb_6_0 hM0 dX5_neededBuyers_7 (fun a102 ea102 la102 ua102 => ?_)
  refine y_shl1 C 6 64 dX5_neededBuyers_10 rfl (by decide) (by omega) (fun a104 la104 ua104 => ?_)
  refine y_iconst C dX5_neededBuyers_11 ?_
  refine y_isub C dX5_neededBuyers_12 ?_
  refine j_istore_n C 2 [(2, .int (sI (a104 - 1))), (1, .int (sI 0)), (0, .ref (ad 88))] dX5_neededBuyers_13 rfl (by decide) rfl ?_
  refine j_aload_n C 2 0 dX5_neededBuyers_14 rfl rfl ?_
  refine j_iload_n C 0 2 dX5_neededBuyers_15 rfl rfl ?_
  refine j_callVi C (d := 2) (As := [.int (sI (a104 - 1))]) (st := []) 88 (s_lt rfl rfl) (s_kc (c := 4) rfl rfl) (by decide) rfl (s3_X5_measure hM0 hpr (a104 - 1) (by omega)) gX5_neededBuyers_X5_measure rfl hdX5_measure (by decide) (Nat.le_of_ble_eq_true rfl) dX5_neededBuyers_16 rfl (fun r105 M106 h107 => ?_)
  obtain ⟨a109, rfl, hM106, fM106, h108⟩ := h107
  refine y_iconst C dX5_neededBuyers_19 ?_
  refine y_icmp_ne C 25 dX5_neededBuyers_20 (by decide) (by omega) (fun h110 => ?_) (fun h110 => ?_)
  · refine y_iconst C dX5_neededBuyers_25 ?_
    refine j_istore_n C 3 [(3, .int (sI 0)), (2, .int (sI (a104 - 1))), (1, .int (sI 0)), (0, .ref (ad 88))] dX5_neededBuyers_26 rfl (by decide) rfl ?_
    have L225 : ∀ (n223 : Nat), ∀ (a226 : Int) (a227 : Int) (M228 : mm_M), (0 ≤ a226 ∧ a226 ≤ 63 ∧ 0 ≤ a227 ∧ a227 ≤ 6 ∧ (6 - a227) < (n223 : Int)) → INV pr Kz M228 → FX [91] M0 M228 → jj p l e (cn_R 3) s m args below meth c 0 0 Q 4 dC dI ad cA A M228 27 [(0, .ref (ad 88)), (1, .int (sI a226)), (2, .int (sI (a104 - 1))), (3, .int (sI a227))] [] := by
      intro n223
      induction n223 with
      | zero =>
        intro a226 a227 M228 h229 hM228 fM228
        exfalso; omega
      | succ n223 ih224 =>
        intro a226 a227 M228 h229 hM228 fM228
        refine j_iload_n C 3 3 dX5_neededBuyers_27 rfl rfl ?_
        refine j_aload_n C 0 0 dX5_neededBuyers_28 rfl rfl ?_
        refine y_getV C 4 v101 fX5_neededBuyers_52 rfl rfl ft_4_9 (s_pX fM228 (ev101)) dX5_neededBuyers_29 ?_
        refine y_getI C 6 _ _ fX5_neededBuyers_92 cv101 rfl ft_6_0 sb_6_0 hM228 dX5_neededBuyers_32 (fun a230 ea230 la230 ua230 => ?_)
        have qa230 : a230 = a102 := (s_fX fM228 (s_nin cv101 (by decide)) (ea230)).trans ea102.symm
        refine y_icmp_ge C 65 dX5_neededBuyers_35 (by decide) (by omega) (fun h232 => ?_) (fun h232 => ?_)
        · refine j_iload_n C 1 1 dX5_neededBuyers_65 rfl rfl ?_
          exact hret _ _ _ _ dX5_neededBuyers_66 ⟨a226, rfl, hM228, (FX.rf.tr fM228 (by decide)), by omega⟩
        · refine j_aload_n C 0 0 dX5_neededBuyers_38 rfl rfl ?_
          refine j_iload_n C 2 2 dX5_neededBuyers_39 rfl rfl ?_
          refine y_iconst C dX5_neededBuyers_40 ?_
          refine j_iload_n C 3 3 dX5_neededBuyers_41 rfl rfl ?_
          refine y_shl1 C 5 32 dX5_neededBuyers_42 rfl (by decide) (by omega) (fun a233 la233 ua233 => ?_)
          refine y_iconst C dX5_neededBuyers_43 ?_
          refine y_not C dX5_neededBuyers_44 ?_
          refine y_iandL C dX5_neededBuyers_45 (by omega) (fun a234 la234 ua234 => ?_)
          refine j_callVi C (d := 2) (As := [.int (sI a234)]) (st := []) 88 (s_lt rfl rfl) (s_kc (c := 4) rfl rfl) (by decide) rfl (s3_X5_measure hM228 hpr a234 (by omega)) gX5_neededBuyers_X5_measure rfl hdX5_measure (by decide) (Nat.le_of_ble_eq_true rfl) dX5_neededBuyers_46 rfl (fun r235 M236 h237 => ?_)
          obtain ⟨a239, rfl, hM236, fM236, h238⟩ := h237
          refine y_iconst C dX5_neededBuyers_49 ?_
          refine y_icmp_ne C 59 dX5_neededBuyers_50 (by decide) (by omega) (fun h240 => ?_) (fun h240 => ?_)
          · refine y_iinc C 3 [(3, .int (sI (a227 + 1))), (0, .ref (ad 88)), (1, .int (sI a226)), (2, .int (sI (a104 - 1)))] dX5_neededBuyers_59 rfl (by decide) rfl ?_
            refine j_goto C 27 dX5_neededBuyers_62 (by decide) ?_
            refine j_lv [1, 2, 3, 0] rfl ?_; exact ih224 a226 (a227 + 1) M236 (by omega) hM236 ((FX.rf.tr fM228 (by decide)).tr fM236 (by decide))
          · refine j_iload_n C 1 1 dX5_neededBuyers_53 rfl rfl ?_
            refine y_iconst C dX5_neededBuyers_54 ?_
            refine j_iload_n C 3 3 dX5_neededBuyers_55 rfl rfl ?_
            refine y_shl1 C 5 32 dX5_neededBuyers_56 rfl (by decide) (by omega) (fun a241 la241 ua241 => ?_)
            refine y_iorN C 6 63 dX5_neededBuyers_57 rfl (by decide) (by omega) (fun a242 la242 ua242 => ?_)
            refine j_istore_n C 1 [(1, .int (sI a242)), (0, .ref (ad 88)), (2, .int (sI (a104 - 1))), (3, .int (sI a227))] dX5_neededBuyers_58 rfl (by decide) rfl ?_
            refine y_iinc C 3 [(3, .int (sI (a227 + 1))), (1, .int (sI a242)), (0, .ref (ad 88)), (2, .int (sI (a104 - 1)))] dX5_neededBuyers_59 rfl (by decide) rfl ?_
            refine j_goto C 27 dX5_neededBuyers_62 (by decide) ?_
            refine j_lv [2, 1, 3, 0] rfl ?_; exact ih224 a242 (a227 + 1) M236 (by omega) hM236 ((FX.rf.tr fM228 (by decide)).tr fM236 (by decide))
    refine j_lv [3, 2, 1, 0] rfl ?_; exact L225 2010 0 0 M106 (by omega) hM106 (FX.rf.tr fM106 (by decide))
  · refine j_iload_n C 1 1 dX5_neededBuyers_23 rfl rfl ?_
    exact hret _ _ _ _ dX5_neededBuyers_24 ⟨0, rfl, hM106, (FX.rf.tr fM106 (by decide)), by omega⟩
set_option maxHeartbeats 4000000 in
theorem s2_X11_needed {l : Launch} {dC : Nat → ClassId} {dI : Nat → Nat → Nat} {ad : Nat → Nat} {cA : Nat → ClassId} {pr : Nat → Nat → Bool} {Kz : mm_M} {M0 : mm_M} (hM0 : INV pr Kz M0) (hpr : PX pr) (gp : Nat) (cgp : s_c gp = 6) (egp : gp = M0.2.2 0 4) (hp0 : b01 (APX M0 gp) = 1) (hp1 : b01 (LAW M0 gp) = 1) (hp2 : b01 (PRR (rwX M0 gp 12)) = 1) (hp3 : (M0.1 12 3).toInt < pw2 (M0.1 12 0).toInt) : Ci l 6 yX11_needed wsX11_needed dC dI ad cA [.ref (ad 0)] M0 (fun r M' => ∃ a : Int, r = sI a ∧ INV pr Kz M' ∧ FX [81, 82, 83, 84, 85, 86, 88, 89, 90, 91] M0 M' ∧ 0 ≤ a ∧ a ≤ 63 ∧ (b01 (APX M' gp) = 1)) := by
  refine ci_of (cc := cX11_needed) (maxL := 1) (ty := .int) (lv := [(0, .ref (ad 0))]) (by decide) rfl (fun r M' hp => rfl) (Nat.le_of_ble_eq_true rfl) rfl ?_
  intro p e s m args below meth c A Q C hret
  refine j_aload_n C 0 0 dX11_needed_0 rfl rfl ?_
  refine y_getC C 10 88 fX11_needed_94 rfl rfl ft_10_14 sm_10_14 rfl hM0 dX11_needed_1 ?_
  refine j_aload_n C 0 0 dX11_needed_4 rfl rfl ?_
  refine y_getV C 10 gp fX11_needed_26 rfl rfl ft_10_4 (egp) dX11_needed_5 ?_
  refine j_aload_n C 0 0 dX11_needed_8 rfl rfl ?_
  refine y_getC C 10 12 fX11_needed_36 rfl rfl ft_10_6 sm_10_6 rfl hM0 dX11_needed_9 ?_
  refine j_aload_n C 0 0 dX11_needed_12 rfl rfl ?_
  refine y_getC C 10 12 fX11_needed_36 rfl rfl ft_10_6 sm_10_6 rfl hM0 dX11_needed_13 ?_
  refine y_getI C 8 _ _ fX11_needed_153 rfl rfl ft_8_4 sb_8_4 hM0 dX11_needed_16 (fun a102 ea102 la102 ua102 => ?_)
  refine j_callVv C (d := 5) (As := [.ref (ad gp), .ref (ad 12), .int (sI a102)]) (st := []) 88 (s_lt rfl rfl) (s_kc (c := 4) rfl rfl) (by decide) rfl (s2_X5_look hM0 hpr cgp a102 (by omega) (by omega) (by omega) (by omega) (by omega) (by omega)) gX11_needed_X5_look rfl hdX5_look (by decide) (Nat.le_of_ble_eq_true rfl) dX11_needed_19 rfl (fun M106 h107 => ?_)
  obtain ⟨hM106, fM106, h108⟩ := h107
  have u109a := tn_a (M := M106) (p := gp) (f := rwX M0 gp 12) (by omega)
  refine j_aload_n C 0 0 dX11_needed_22 rfl rfl ?_
  refine y_getC C 10 88 fX11_needed_94 rfl rfl ft_10_14 sm_10_14 rfl hM106 dX11_needed_23 ?_
  refine j_callVi C (d := 3) (As := []) (st := []) 88 (s_lt rfl rfl) (s_kc (c := 4) rfl rfl) (by decide) rfl (s2_X5_neededBuyers hM106 hpr) gX11_needed_X5_neededBuyers rfl hdX5_neededBuyers (by decide) (Nat.le_of_ble_eq_true rfl) dX11_needed_26 rfl (fun r110 M111 h112 => ?_)
  obtain ⟨a114, rfl, hM111, fM111, h113⟩ := h112
  have u115A7 := hM106.rd (i := gp) (c := 6) (k := 7) cgp (show s_b 6 7 = (0, 900) from rfl)
  have u115A9 := hM106.rd (i := gp) (c := 6) (k := 9) cgp (show s_b 6 9 = (0, 900) from rfl)
  have u115A := apx_o (M := M106) (N := M111) (p := gp) (ple_f (p := gp) ((FX.rf.tr fM111 (by decide)) : FX [91] M106 M111) cgp (by decide)) (((FX.rf.tr fM111 (by decide)) : FX [91] M106 M111).cell (by decide)) (((FX.rf.tr fM111 (by decide)) : FX [91] M106 M111).cell (by decide)) (((FX.rf.tr fM111 (by decide)) : FX [91] M106 M111).cell (by decide)) u115A7.1 u115A9.1 (by omega)
  exact hret _ _ _ _ dX11_needed_29 ⟨a114, rfl, hM111, ((FX.rf.tr fM106 (by decide)).tr fM111 (by decide)), by omega⟩
set_option maxHeartbeats 4000000 in
theorem s2_X11_sellable {l : Launch} {dC : Nat → ClassId} {dI : Nat → Nat → Nat} {ad : Nat → Nat} {cA : Nat → ClassId} {pr : Nat → Nat → Bool} {Kz : mm_M} {M0 : mm_M} (hM0 : INV pr Kz M0) (hpr : PX pr) (gp : Nat) (cgp : s_c gp = 6) (egp : gp = M0.2.2 0 4) (hp0 : b01 (APX M0 gp) = 1) (hp1 : b01 (LAW M0 gp) = 1) (hp2 : b01 (PRR (rwX M0 gp 12)) = 1) (hp3 : (M0.1 12 3).toInt < pw2 (M0.1 12 0).toInt) : Ci l 6 yX11_sellable wsX11_sellable dC dI ad cA [.ref (ad 0)] M0 (fun r M' => ∃ a : Int, r = sI a ∧ INV pr Kz M' ∧ FX [81, 82, 83, 84, 85, 86, 88, 89, 90] M0 M' ∧ 0 ≤ a ∧ a ≤ 255 ∧ (b01 (APX M' gp) = 1)) := by
  refine ci_of (cc := cX11_sellable) (maxL := 1) (ty := .int) (lv := [(0, .ref (ad 0))]) (by decide) rfl (fun r M' hp => rfl) (Nat.le_of_ble_eq_true rfl) rfl ?_
  intro p e s m args below meth c A Q C hret
  refine j_aload_n C 0 0 dX11_sellable_0 rfl rfl ?_
  refine y_getC C 10 88 fX11_sellable_94 rfl rfl ft_10_14 sm_10_14 rfl hM0 dX11_sellable_1 ?_
  refine j_aload_n C 0 0 dX11_sellable_4 rfl rfl ?_
  refine y_getV C 10 gp fX11_sellable_26 rfl rfl ft_10_4 (egp) dX11_sellable_5 ?_
  refine j_aload_n C 0 0 dX11_sellable_8 rfl rfl ?_
  refine y_getC C 10 12 fX11_sellable_36 rfl rfl ft_10_6 sm_10_6 rfl hM0 dX11_sellable_9 ?_
  refine j_aload_n C 0 0 dX11_sellable_12 rfl rfl ?_
  refine y_getC C 10 12 fX11_sellable_36 rfl rfl ft_10_6 sm_10_6 rfl hM0 dX11_sellable_13 ?_
  refine y_getI C 8 _ _ fX11_sellable_153 rfl rfl ft_8_4 sb_8_4 hM0 dX11_sellable_16 (fun a102 ea102 la102 ua102 => ?_)
  refine j_callVv C (d := 5) (As := [.ref (ad gp), .ref (ad 12), .int (sI a102)]) (st := []) 88 (s_lt rfl rfl) (s_kc (c := 4) rfl rfl) (by decide) rfl (s2_X5_look hM0 hpr cgp a102 (by omega) (by omega) (by omega) (by omega) (by omega) (by omega)) gX11_sellable_X5_look rfl hdX5_look (by decide) (Nat.le_of_ble_eq_true rfl) dX11_sellable_19 rfl (fun M106 h107 => ?_)
  obtain ⟨hM106, fM106, h108⟩ := h107
  have u109a := tn_a (M := M106) (p := gp) (f := rwX M0 gp 12) (by omega)
  refine j_aload_n C 0 0 dX11_sellable_22 rfl rfl ?_
  refine y_getC C 10 88 fX11_sellable_94 rfl rfl ft_10_14 sm_10_14 rfl hM106 dX11_sellable_23 ?_
  refine j_callVi C (d := 0) (As := []) (st := []) 88 (s_lt rfl rfl) (s_kc (c := 4) rfl rfl) (by decide) rfl (s1_X5_everSold hM106) gX11_sellable_X5_everSold rfl hdX5_everSold (by decide) (Nat.le_of_ble_eq_true rfl) dX11_sellable_26 rfl (fun r110 M111 h112 => ?_)
  obtain ⟨a114, rfl, rfl, h113⟩ := h112
  exact hret _ _ _ _ dX11_sellable_29 ⟨a114, rfl, hM106, (FX.rf.tr fM106 (by decide)), by omega⟩
set_option maxHeartbeats 4000000 in
theorem s3_X5_shortest {l : Launch} {dC : Nat → ClassId} {dI : Nat → Nat → Nat} {ad : Nat → Nat} {cA : Nat → ClassId} {pr : Nat → Nat → Bool} {Kz : mm_M} {M0 : mm_M} (hM0 : INV pr Kz M0) (hpr : PX pr)  : Ci l 3 yX5_shortest wsX5_shortest dC dI ad cA [.ref (ad 88)] M0 (fun r M' => ∃ a : Int, r = sI a ∧ INV pr Kz M' ∧ FX [91] M0 M' ∧ (-2147483648) ≤ a ∧ a ≤ 2147483647) := by
  refine ci_of (cc := cX5_shortest) (maxL := 1) (ty := .int) (lv := [(0, .ref (ad 88))]) (by decide) rfl (fun r M' hp => rfl) (Nat.le_of_ble_eq_true rfl) rfl ?_
  intro p e s m args below meth c A Q C hret
  refine j_aload_n C 0 0 dX5_shortest_0 rfl rfl ?_
  refine y_iconst C dX5_shortest_1 ?_
  refine j_aload_n C 0 0 dX5_shortest_2 rfl rfl ?_
  refine y_getM C 4 6 fX5_shortest_52 rfl rfl ft_4_9 sm_4_9 (by decide) hM0 dX5_shortest_3 (fun v101 ev101 cv101 => ?_)
  refine y_getI C 6 _ _ fX5_shortest_92 cv101 rfl ft_6_0 sb_6_0 hM0 dX5_shortest_6 (fun a102 ea102 la102 ua102 => ?_)
  refine y_shl1 C 6 64 dX5_shortest_9 rfl (by decide) (by omega) (fun a104 la104 ua104 => ?_)
  refine y_iconst C dX5_shortest_10 ?_
  refine y_isub C dX5_shortest_11 ?_
  refine j_callVi C (d := 2) (As := [.int (sI (a104 - 1))]) (st := []) 88 (s_lt rfl rfl) (s_kc (c := 4) rfl rfl) (by decide) rfl (s3_X5_measure hM0 hpr (a104 - 1) (by omega)) gX5_shortest_X5_measure rfl hdX5_measure (by decide) (Nat.le_of_ble_eq_true rfl) dX5_shortest_12 rfl (fun r105 M106 h107 => ?_)
  obtain ⟨a109, rfl, hM106, fM106, h108⟩ := h107
  exact hret _ _ _ _ dX5_shortest_15 ⟨a109, rfl, hM106, (FX.rf.tr fM106 (by decide)), by omega⟩
set_option maxHeartbeats 4000000 in
theorem s2_X11_guards {l : Launch} {dC : Nat → ClassId} {dI : Nat → Nat → Nat} {ad : Nat → Nat} {cA : Nat → ClassId} {pr : Nat → Nat → Bool} {Kz : mm_M} {M0 : mm_M} (hM0 : INV pr Kz M0) (hpr : PX pr) (gp : Nat) (cgp : s_c gp = 6) (egp : gp = M0.2.2 0 4) (hp0 : b01 (APX M0 gp) = 1) (hp1 : b01 (LAW M0 gp) = 1) (hp2 : b01 (PRR (rwX M0 gp 12)) = 1) (hp3 : (M0.1 12 3).toInt < pw2 (M0.1 12 0).toInt) : Ci l 6 yX11_guards wsX11_guards dC dI ad cA [.ref (ad 0)] M0 (fun r M' => ∃ a : Int, r = sI a ∧ INV pr Kz M' ∧ FX [81, 82, 83, 84, 85, 86, 88, 89, 90, 91] M0 M' ∧ 0 ≤ a ∧ a ≤ 255 ∧ (b01 (APX M' gp) = 1)) := by
  refine ci_of (cc := cX11_guards) (maxL := 3) (ty := .int) (lv := [(0, .ref (ad 0))]) (by decide) rfl (fun r M' hp => rfl) (Nat.le_of_ble_eq_true rfl) rfl ?_
  intro p e s m args below meth c A Q C hret
  refine y_iconst C dX11_guards_0 ?_
  refine j_istore_n C 1 [(1, .int (sI 0)), (0, .ref (ad 0))] dX11_guards_1 rfl (by decide) rfl ?_
  refine j_aload_n C 1 0 dX11_guards_2 rfl rfl ?_
  refine y_getC C 10 88 fX11_guards_94 rfl rfl ft_10_14 sm_10_14 rfl hM0 dX11_guards_3 ?_
  refine j_aload_n C 1 0 dX11_guards_6 rfl rfl ?_
  refine y_getV C 10 gp fX11_guards_26 rfl rfl ft_10_4 (egp) dX11_guards_7 ?_
  refine j_aload_n C 1 0 dX11_guards_10 rfl rfl ?_
  refine y_getC C 10 12 fX11_guards_36 rfl rfl ft_10_6 sm_10_6 rfl hM0 dX11_guards_11 ?_
  refine j_aload_n C 1 0 dX11_guards_14 rfl rfl ?_
  refine y_getC C 10 12 fX11_guards_36 rfl rfl ft_10_6 sm_10_6 rfl hM0 dX11_guards_15 ?_
  refine y_getI C 8 _ _ fX11_guards_153 rfl rfl ft_8_4 sb_8_4 hM0 dX11_guards_18 (fun a102 ea102 la102 ua102 => ?_)
  refine j_callVv C (d := 5) (As := [.ref (ad gp), .ref (ad 12), .int (sI a102)]) (st := []) 88 (s_lt rfl rfl) (s_kc (c := 4) rfl rfl) (by decide) rfl (s2_X5_look hM0 hpr cgp a102 (by omega) (by omega) (by omega) (by omega) (by omega) (by omega)) gX11_guards_X5_look rfl hdX5_look (by decide) (Nat.le_of_ble_eq_true rfl) dX11_guards_21 rfl (fun M106 h107 => ?_)
  obtain ⟨hM106, fM106, h108⟩ := h107
  have u109a := tn_a (M := M106) (p := gp) (f := rwX M0 gp 12) (by omega)
  refine j_aload_n C 1 0 dX11_guards_24 rfl rfl ?_
  refine y_getC C 10 88 fX11_guards_94 rfl rfl ft_10_14 sm_10_14 rfl hM106 dX11_guards_25 ?_
  refine j_callVi C (d := 3) (As := []) (st := []) 88 (s_lt rfl rfl) (s_kc (c := 4) rfl rfl) (by decide) rfl (s3_X5_shortest hM106 hpr) gX11_guards_X5_shortest rfl hdX5_shortest (by decide) (Nat.le_of_ble_eq_true rfl) dX11_guards_28 rfl (fun r110 M111 h112 => ?_)
  obtain ⟨a114, rfl, hM111, fM111, h113⟩ := h112
  refine y_iconst C dX11_guards_31 ?_
  refine y_icmp_ne C 37 dX11_guards_32 (by decide) (by omega) (fun h115 => ?_) (fun h115 => ?_)
  · refine y_iconst C dX11_guards_37 ?_
    refine j_istore_n C 2 [(2, .int (sI 0)), (1, .int (sI 0)), (0, .ref (ad 0))] dX11_guards_38 rfl (by decide) rfl ?_
    have u116A7 := hM106.rd (i := gp) (c := 6) (k := 7) cgp (show s_b 6 7 = (0, 900) from rfl)
    have u116A9 := hM106.rd (i := gp) (c := 6) (k := 9) cgp (show s_b 6 9 = (0, 900) from rfl)
    have u116A := apx_o (M := M106) (N := M111) (p := gp) (ple_f (p := gp) ((FX.rf.tr fM111 (by decide)) : FX [91] M106 M111) cgp (by decide)) (((FX.rf.tr fM111 (by decide)) : FX [91] M106 M111).cell (by decide)) (((FX.rf.tr fM111 (by decide)) : FX [91] M106 M111).cell (by decide)) (((FX.rf.tr fM111 (by decide)) : FX [91] M106 M111).cell (by decide)) u116A7.1 u116A9.1 (by omega)
    have L425 : ∀ (n423 : Nat), ∀ (a426 : Int) (a427 : Int) (M428 : mm_M), (0 ≤ a426 ∧ a426 ≤ 255 ∧ 0 ≤ a427 ∧ a427 ≤ 8 ∧ (b01 (APX M428 gp) = 1) ∧ (8 - a427) < (n423 : Int)) → INV pr Kz M428 → FX [81, 82, 83, 84, 85, 86, 88, 89, 90, 91] M0 M428 → jj p l e (cn_R 6) s m args below meth c 0 0 Q 3 dC dI ad cA A M428 39 [(0, .ref (ad 0)), (1, .int (sI a426)), (2, .int (sI a427))] [] := by
      intro n423
      induction n423 with
      | zero =>
        intro a426 a427 M428 h429 hM428 fM428
        exfalso; omega
      | succ n423 ih424 =>
        intro a426 a427 M428 h429 hM428 fM428
        refine j_iload_n C 2 2 dX11_guards_39 rfl rfl ?_
        refine j_aload_n C 0 0 dX11_guards_40 rfl rfl ?_
        refine y_getC C 10 12 fX11_guards_36 rfl rfl ft_10_6 sm_10_6 rfl hM428 dX11_guards_41 ?_
        refine y_getI C 8 _ _ fX11_guards_160 rfl rfl ft_8_0 sb_8_0 hM428 dX11_guards_44 (fun a431 ea431 la431 ua431 => ?_)
        have qa431 : a431 = (M0.1 12 0).toInt := s_fX fM428 (by decide) (ea431)
        refine y_icmp_ge C 117 dX11_guards_47 (by decide) (by omega) (fun h433 => ?_) (fun h433 => ?_)
        · refine j_iload_n C 1 1 dX11_guards_117 rfl rfl ?_
          exact hret _ _ _ _ dX11_guards_118 ⟨a426, rfl, hM428, (FX.rf.tr fM428 (by decide)), by omega⟩
        · refine j_aload_n C 0 0 dX11_guards_50 rfl rfl ?_
          refine y_getC C 10 12 fX11_guards_36 rfl rfl ft_10_6 sm_10_6 rfl hM428 dX11_guards_51 ?_
          refine y_getI C 8 _ _ fX11_guards_153 rfl rfl ft_8_4 sb_8_4 hM428 dX11_guards_54 (fun a434 ea434 la434 ua434 => ?_)
          have qa434 : a434 = a102 := (s_fX fM428 (by decide) (ea434)).trans ea102.symm
          refine j_iload_n C 2 2 dX11_guards_57 rfl rfl ?_
          refine y_ishrP C dX11_guards_58 (by omega) (fun a436 la436 ua436 => ?_)
          refine y_iconst C dX11_guards_59 ?_
          refine y_iandR C dX11_guards_60 (by omega) (fun a437 la437 ua437 => ?_)
          refine y_if_ne C 111 dX11_guards_61 (by decide) (by omega) (fun h438 => ?_) (fun h438 => ?_)
          · refine y_iinc C 2 [(2, .int (sI (a427 + 1))), (0, .ref (ad 0)), (1, .int (sI a426))] dX11_guards_111 rfl (by decide) rfl ?_
            refine j_goto C 39 dX11_guards_114 (by decide) ?_
            refine j_lv [1, 2, 0] rfl ?_; exact ih424 a426 (a427 + 1) M428 (by omega) hM428 (FX.rf.tr fM428 (by decide))
          · refine j_aload_n C 0 0 dX11_guards_64 rfl rfl ?_
            refine y_getC C 10 88 fX11_guards_94 rfl rfl ft_10_14 sm_10_14 rfl hM428 dX11_guards_65 ?_
            refine j_aload_n C 0 0 dX11_guards_68 rfl rfl ?_
            refine y_getV C 10 gp fX11_guards_26 rfl rfl ft_10_4 (s_pX fM428 (egp)) dX11_guards_69 ?_
            refine j_aload_n C 0 0 dX11_guards_72 rfl rfl ?_
            refine y_getC C 10 12 fX11_guards_36 rfl rfl ft_10_6 sm_10_6 rfl hM428 dX11_guards_73 ?_
            refine j_aload_n C 0 0 dX11_guards_76 rfl rfl ?_
            refine y_getC C 10 12 fX11_guards_36 rfl rfl ft_10_6 sm_10_6 rfl hM428 dX11_guards_77 ?_
            refine y_getI C 8 _ _ fX11_guards_153 rfl rfl ft_8_4 sb_8_4 hM428 dX11_guards_80 (fun a440 ea440 la440 ua440 => ?_)
            refine y_iconst C dX11_guards_83 ?_
            refine j_iload_n C 2 2 dX11_guards_84 rfl rfl ?_
            refine y_shl1 C 7 128 dX11_guards_85 rfl (by decide) (by omega) (fun a442 la442 ua442 => ?_)
            refine y_iorN C 8 255 dX11_guards_86 rfl (by decide) (by omega) (fun a443 la443 ua443 => ?_)
            have u444L7 := hM0.rd (i := gp) (c := 6) (k := 7) cgp (show s_b 6 7 = (0, 900) from rfl)
            have u444L9 := hM0.rd (i := gp) (c := 6) (k := 9) cgp (show s_b 6 9 = (0, 900) from rfl)
            have u444L := law_p (M := M0) (N := M428) (p := gp) (ple_f (p := gp) ((FX.rf.tr fM428 (by decide)) : FX [81, 82, 83, 84, 85, 86, 88, 89, 90, 91] M0 M428) cgp (by decide)) u444L7.1 u444L9.1 (by omega)
            have u444e : rwX M428 gp 12 = rwX M0 gp 12 := (rx_f (p := gp) (v := 12) (ple_f (p := gp) ((FX.rf.tr fM428 (by decide)) : FX [81, 82, 83, 84, 85, 86, 88, 89, 90, 91] M0 M428) cgp (by decide)) (ske_n ((FX.rf.tr fM428 (by decide)) : FX [81, 82, 83, 84, 85, 86, 88, 89, 90, 91] M0 M428) ⟨by decide, by decide, by decide⟩))
            have u444R : b01 (PRR (rwX M428 gp 12)) = 1 := by rw [u444e]; omega
            have u444S : (M428.1 12 3).toInt < pw2 (M428.1 12 0).toInt := by rw [((FX.rf.tr fM428 (by decide)) : FX [81, 82, 83, 84, 85, 86, 88, 89, 90, 91] M0 M428).cell (i := 12) (by decide)]; omega
            refine j_callVv C (d := 5) (As := [.ref (ad gp), .ref (ad 12), .int (sI a443)]) (st := []) 88 (s_lt rfl rfl) (s_kc (c := 4) rfl rfl) (by decide) rfl (s2_X5_look hM428 hpr cgp a443 (by omega) (by omega) (by omega) (by omega) (by omega) (by omega)) gX11_guards_X5_look rfl hdX5_look (by decide) (Nat.le_of_ble_eq_true rfl) dX11_guards_87 rfl (fun M446 h447 => ?_)
            obtain ⟨hM446, fM446, h448⟩ := h447
            have u449a := tn_a (M := M446) (p := gp) (f := rwX M428 gp 12) (by omega)
            refine j_iload_n C 1 1 dX11_guards_90 rfl rfl ?_
            refine j_aload_n C 0 0 dX11_guards_91 rfl rfl ?_
            refine y_getC C 10 88 fX11_guards_94 rfl rfl ft_10_14 sm_10_14 rfl hM446 dX11_guards_92 ?_
            refine j_callVi C (d := 3) (As := []) (st := [.int (sI a426)]) 88 (s_lt rfl rfl) (s_kc (c := 4) rfl rfl) (by decide) rfl (s3_X5_shortest hM446 hpr) gX11_guards_X5_shortest rfl hdX5_shortest (by decide) (Nat.le_of_ble_eq_true rfl) dX11_guards_95 rfl (fun r450 M451 h452 => ?_)
            obtain ⟨a454, rfl, hM451, fM451, h453⟩ := h452
            refine y_iconst C dX11_guards_98 ?_
            refine y_icmp_ne C 108 dX11_guards_99 (by decide) (by omega) (fun h455 => ?_) (fun h455 => ?_)
            · refine y_iconst C dX11_guards_108 ?_
              refine y_iorN C 8 255 dX11_guards_109 rfl (by decide) (by omega) (fun a456 la456 ua456 => ?_)
              refine j_istore_n C 1 [(1, .int (sI a456)), (0, .ref (ad 0)), (2, .int (sI a427))] dX11_guards_110 rfl (by decide) rfl ?_
              refine y_iinc C 2 [(2, .int (sI (a427 + 1))), (1, .int (sI a456)), (0, .ref (ad 0))] dX11_guards_111 rfl (by decide) rfl ?_
              refine j_goto C 39 dX11_guards_114 (by decide) ?_
              have u457A7 := hM446.rd (i := gp) (c := 6) (k := 7) cgp (show s_b 6 7 = (0, 900) from rfl)
              have u457A9 := hM446.rd (i := gp) (c := 6) (k := 9) cgp (show s_b 6 9 = (0, 900) from rfl)
              have u457A := apx_o (M := M446) (N := M451) (p := gp) (ple_f (p := gp) ((FX.rf.tr fM451 (by decide)) : FX [91] M446 M451) cgp (by decide)) (((FX.rf.tr fM451 (by decide)) : FX [91] M446 M451).cell (by decide)) (((FX.rf.tr fM451 (by decide)) : FX [91] M446 M451).cell (by decide)) (((FX.rf.tr fM451 (by decide)) : FX [91] M446 M451).cell (by decide)) u457A7.1 u457A9.1 (by omega)
              refine j_lv [2, 1, 0] rfl ?_; exact ih424 a456 (a427 + 1) M451 (by omega) hM451 (((FX.rf.tr fM428 (by decide)).tr fM446 (by decide)).tr fM451 (by decide))
            · refine y_iconst C dX11_guards_102 ?_
              refine j_iload_n C 2 2 dX11_guards_103 rfl rfl ?_
              refine y_shl1 C 7 128 dX11_guards_104 rfl (by decide) (by omega) (fun a458 la458 ua458 => ?_)
              refine j_goto C 109 dX11_guards_105 (by decide) ?_
              refine y_iorN C 8 255 dX11_guards_109 rfl (by decide) (by omega) (fun a459 la459 ua459 => ?_)
              refine j_istore_n C 1 [(1, .int (sI a459)), (0, .ref (ad 0)), (2, .int (sI a427))] dX11_guards_110 rfl (by decide) rfl ?_
              refine y_iinc C 2 [(2, .int (sI (a427 + 1))), (1, .int (sI a459)), (0, .ref (ad 0))] dX11_guards_111 rfl (by decide) rfl ?_
              refine j_goto C 39 dX11_guards_114 (by decide) ?_
              have u460A7 := hM446.rd (i := gp) (c := 6) (k := 7) cgp (show s_b 6 7 = (0, 900) from rfl)
              have u460A9 := hM446.rd (i := gp) (c := 6) (k := 9) cgp (show s_b 6 9 = (0, 900) from rfl)
              have u460A := apx_o (M := M446) (N := M451) (p := gp) (ple_f (p := gp) ((FX.rf.tr fM451 (by decide)) : FX [91] M446 M451) cgp (by decide)) (((FX.rf.tr fM451 (by decide)) : FX [91] M446 M451).cell (by decide)) (((FX.rf.tr fM451 (by decide)) : FX [91] M446 M451).cell (by decide)) (((FX.rf.tr fM451 (by decide)) : FX [91] M446 M451).cell (by decide)) u460A7.1 u460A9.1 (by omega)
              refine j_lv [2, 1, 0] rfl ?_; exact ih424 a459 (a427 + 1) M451 (by omega) hM451 (((FX.rf.tr fM428 (by decide)).tr fM446 (by decide)).tr fM451 (by decide))
    refine j_lv [2, 1, 0] rfl ?_; exact L425 2010 0 0 M111 (by omega) hM111 ((FX.rf.tr fM106 (by decide)).tr fM111 (by decide))
  · refine j_iload_n C 0 1 dX11_guards_35 rfl rfl ?_
    have u462A7 := hM106.rd (i := gp) (c := 6) (k := 7) cgp (show s_b 6 7 = (0, 900) from rfl)
    have u462A9 := hM106.rd (i := gp) (c := 6) (k := 9) cgp (show s_b 6 9 = (0, 900) from rfl)
    have u462A := apx_o (M := M106) (N := M111) (p := gp) (ple_f (p := gp) ((FX.rf.tr fM111 (by decide)) : FX [91] M106 M111) cgp (by decide)) (((FX.rf.tr fM111 (by decide)) : FX [91] M106 M111).cell (by decide)) (((FX.rf.tr fM111 (by decide)) : FX [91] M106 M111).cell (by decide)) (((FX.rf.tr fM111 (by decide)) : FX [91] M106 M111).cell (by decide)) u462A7.1 u462A9.1 (by omega)
    exact hret _ _ _ _ dX11_guards_36 ⟨0, rfl, hM111, ((FX.rf.tr fM106 (by decide)).tr fM111 (by decide)), by omega⟩
set_option maxHeartbeats 4000000 in
theorem s2_X11_last {l : Launch} {dC : Nat → ClassId} {dI : Nat → Nat → Nat} {ad : Nat → Nat} {cA : Nat → ClassId} {pr : Nat → Nat → Bool} {Kz : mm_M} {M0 : mm_M} (hM0 : INV pr Kz M0) (hpr : PX pr) (gp : Nat) (cgp : s_c gp = 6) (egp : gp = M0.2.2 0 4) (hp0 : b01 (APX M0 gp) = 1) (hp1 : b01 (LAW M0 gp) = 1) (hp2 : b01 (PRR (rwX M0 gp 12)) = 1) (hp3 : (M0.1 12 3).toInt < pw2 (M0.1 12 0).toInt) : Ci l 6 yX11_last wsX11_last dC dI ad cA [.ref (ad 0)] M0 (fun r M' => ∃ a : Int, r = sI a ∧ INV pr Kz M' ∧ FX [81, 82, 83, 84, 85, 86, 88, 89, 90] M0 M' ∧ 0 ≤ a ∧ a ≤ 255 ∧ (b01 (APX M' gp) = 1)) := by
  refine ci_of (cc := cX11_last) (maxL := 1) (ty := .int) (lv := [(0, .ref (ad 0))]) (by decide) rfl (fun r M' hp => rfl) (Nat.le_of_ble_eq_true rfl) rfl ?_
  intro p e s m args below meth c A Q C hret
  refine j_aload_n C 0 0 dX11_last_0 rfl rfl ?_
  refine y_getC C 10 88 fX11_last_94 rfl rfl ft_10_14 sm_10_14 rfl hM0 dX11_last_1 ?_
  refine j_aload_n C 0 0 dX11_last_4 rfl rfl ?_
  refine y_getV C 10 gp fX11_last_26 rfl rfl ft_10_4 (egp) dX11_last_5 ?_
  refine j_aload_n C 0 0 dX11_last_8 rfl rfl ?_
  refine y_getC C 10 12 fX11_last_36 rfl rfl ft_10_6 sm_10_6 rfl hM0 dX11_last_9 ?_
  refine j_aload_n C 0 0 dX11_last_12 rfl rfl ?_
  refine y_getC C 10 12 fX11_last_36 rfl rfl ft_10_6 sm_10_6 rfl hM0 dX11_last_13 ?_
  refine y_getI C 8 _ _ fX11_last_153 rfl rfl ft_8_4 sb_8_4 hM0 dX11_last_16 (fun a102 ea102 la102 ua102 => ?_)
  refine j_callVv C (d := 5) (As := [.ref (ad gp), .ref (ad 12), .int (sI a102)]) (st := []) 88 (s_lt rfl rfl) (s_kc (c := 4) rfl rfl) (by decide) rfl (s2_X5_look hM0 hpr cgp a102 (by omega) (by omega) (by omega) (by omega) (by omega) (by omega)) gX11_last_X5_look rfl hdX5_look (by decide) (Nat.le_of_ble_eq_true rfl) dX11_last_19 rfl (fun M106 h107 => ?_)
  obtain ⟨hM106, fM106, h108⟩ := h107
  have u109a := tn_a (M := M106) (p := gp) (f := rwX M0 gp 12) (by omega)
  refine j_aload_n C 0 0 dX11_last_22 rfl rfl ?_
  refine y_getC C 10 88 fX11_last_94 rfl rfl ft_10_14 sm_10_14 rfl hM106 dX11_last_23 ?_
  refine j_callVi C (d := 1) (As := []) (st := []) 88 (s_lt rfl rfl) (s_kc (c := 4) rfl rfl) (by decide) rfl (s1_X5_lastLeft hM106) gX11_last_X5_lastLeft rfl hdX5_lastLeft (by decide) (Nat.le_of_ble_eq_true rfl) dX11_last_26 rfl (fun r110 M111 h112 => ?_)
  obtain ⟨a114, rfl, rfl, h113⟩ := h112
  exact hret _ _ _ _ dX11_last_29 ⟨a114, rfl, hM106, (FX.rf.tr fM106 (by decide)), by omega⟩
