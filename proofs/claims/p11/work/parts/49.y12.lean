section
set_option maxHeartbeats 4000000 in
theorem s7_J7_fill_53178 {l : Launch} {dC : Nat → ClassId} {dI : Nat → Nat → Nat} {ad : Nat → Nat} {cA : Nat → ClassId} {pr : Nat → Nat → Bool} {Kz : mm_M} {M0 : mm_M} (hM0 : INV pr Kz M0) (hpr : PX pr) (a1 : Int) (ha1 : -2147483648 ≤ a1 ∧ a1 ≤ 2147483647) : Cv l 0 yJ7_fill_53178 wsJ7_fill_53178 dC dI ad cA [.ref (ad 97), .int (sI a1)] M0 (fun M' => INV pr Kz M' ∧ FX [97] M0 M' ∧ (b01 (FIL M' 97 a1 10) = 1)) := by
  refine cv_of (cc := cJ7_fill_53178) (maxL := 4) (lv := [(0, .ref (ad 97)), (1, .int (sI a1))]) (by decide) rfl (Nat.le_of_ble_eq_true rfl) rfl ?_
  intro p e s m args below meth c A Q C hret
  refine y_iconst C dJ7_fill_53178_0 ?_
  refine j_istore_n C 2 [(2, .int (sI 0)), (0, .ref (ad 97)), (1, .int (sI a1))] dJ7_fill_53178_1 rfl (by decide) rfl ?_
  refine j_aload_n C 1 0 dJ7_fill_53178_2 rfl rfl ?_
  refine y_alen C 44 10 rfl rfl rfl an_44 rfl rfl dJ7_fill_53178_3 ?_
  refine j_istore_n C 3 [(3, .int (sI 10)), (2, .int (sI 0)), (0, .ref (ad 97)), (1, .int (sI a1))] dJ7_fill_53178_4 rfl (by decide) rfl ?_
  have u101z := fil_0 M0 97 a1
  have L170 : ∀ (n168 : Nat), ∀ (a171 : Int) (M172 : mm_M), (0 ≤ a171 ∧ a171 ≤ 10 ∧ (b01 (FIL M172 97 a1 a171) = 1) ∧ (10 - a171) < (n168 : Int)) → INV pr Kz M172 → FX [97] M0 M172 → jj p l e (cn_R 0) s m args below meth c 0 0 Q 4 dC dI ad cA A M172 5 [(0, .ref (ad 97)), (1, .int (sI a1)), (2, .int (sI a171)), (3, .int (sI 10))] [] := by
    intro n168
    induction n168 with
    | zero =>
      intro a171 M172 h173 hM172 fM172
      exfalso; omega
    | succ n168 ih169 =>
      intro a171 M172 h173 hM172 fM172
      refine j_iload_n C 2 2 dJ7_fill_53178_5 rfl rfl ?_
      refine j_iload_n C 3 3 dJ7_fill_53178_6 rfl rfl ?_
      refine y_icmp_ge C 20 dJ7_fill_53178_7 (by decide) (by exact ⟨⟨(by omega), (by omega)⟩, ⟨(by decide), (by decide)⟩⟩) (fun h175 => ?_) (fun h175 => ?_)
      · have u178x : b01 (FIL M172 97 a1 10) = 1 := b01_i (fun k hk => b01_e (P := FIL M172 97 a1 a171) (by exact h173.2.2.1) k (by omega))
        exact hret _ _ _ dJ7_fill_53178_20 ⟨hM172, (FX.rf.tr fM172 (by decide)), by exact u178x⟩
      · refine j_aload_n C 0 0 dJ7_fill_53178_10 rfl rfl ?_
        refine j_iload_n C 2 2 dJ7_fill_53178_11 rfl rfl ?_
        refine j_iload_n C 1 1 dJ7_fill_53178_12 rfl rfl ?_
        refine y_iastF C 44 10 rfl rfl rfl ak_44 an_44 rfl (sb_44 _) hM172 (PX.w hpr rfl rfl) dJ7_fill_53178_13 (by exact ⟨h173.1, (by omega)⟩) (fun M176 eM176 hM176 => ?_)
        refine y_iinc C 2 [(2, .int (sI (a171 + 1))), (0, .ref (ad 97)), (1, .int (sI a1)), (3, .int (sI 10))] dJ7_fill_53178_14 rfl (by decide) rfl ?_
        refine j_goto C 5 dJ7_fill_53178_17 (by decide) ?_
        have u177z := fil_s (M := M172) (N := M176) (c := 97) (v := a1) (n := a171) (n' := (a171 + 1)) (by exact h173.2.2.1) eM176 (by (clear hM176 eM176 fM172 hM172 ih169 u101z hret C hpr hM0; omega))
        refine j_lv [1, 2, 0, 3] rfl ?_; exact ih169 (a171 + 1) M176 (by exact ⟨(by (clear hM176 eM176 fM172 hM172 ih169 u101z hret C ha1 hpr hM0; omega)), ⟨(by (clear hM176 eM176 fM172 hM172 ih169 u101z hret C ha1 hpr hM0; omega)), ⟨u177z, (by (clear hM176 eM176 fM172 hM172 ih169 u101z hret C ha1 hpr hM0; omega))⟩⟩⟩) hM176 ((FX.rf.tr fM172 (by decide)).wI eM176 (by decide))
  refine j_lv [2, 3, 1, 0] rfl ?_; exact L170 2010 0 M0 (by exact ⟨(by decide), ⟨(by decide), ⟨u101z, (by decide)⟩⟩⟩) hM0 FX.rf
set_option maxHeartbeats 4000000 in
theorem s2_X0_mostAlike {l : Launch} {dC : Nat → ClassId} {dI : Nat → Nat → Nat} {ad : Nat → Nat} {cA : Nat → ClassId} {pr : Nat → Nat → Bool} {Kz : mm_M} {M0 : mm_M} (hM0 : INV pr Kz M0) (hpr : PX pr) (a1 : Int) (ha1 : -2147483648 ≤ a1 ∧ a1 ≤ 2147483647) : Ci l 1 yX0_mostAlike wsX0_mostAlike dC dI ad cA [.ref (ad 95), .int (sI a1)] M0 (fun r M' => ∃ a : Int, r = sI a ∧ INV pr Kz M' ∧ FX [97] M0 M' ∧ 0 ≤ a ∧ a ≤ 2147483647) := by
  refine ci_of (cc := cX0_mostAlike) (maxL := 6) (ty := .int) (lv := [(0, .ref (ad 95)), (1, .int (sI a1))]) (by decide) rfl (fun r M' hp => rfl) (Nat.le_of_ble_eq_true rfl) rfl ?_
  intro p e s m args below meth c A Q C hret
  refine j_aload_n C 0 0 dX0_mostAlike_0 rfl rfl ?_
  refine y_getC C 0 97 fX0_mostAlike_15 rfl rfl ft_0_2 sm_0_2 rfl hM0 dX0_mostAlike_1 ?_
  refine y_iconst C dX0_mostAlike_4 ?_
  refine j_callSv C (d := 0) (As := [.ref (ad 97), .int (sI 0)]) (st := []) (s7_J7_fill_53178 hM0 hpr 0 (by exact ⟨(by decide), (by decide)⟩)) gX0_mostAlike_J7_fill_53178 rfl hdJ7_fill_53178s (by decide) (Nat.le_of_ble_eq_true rfl) dX0_mostAlike_5 rfl (fun M102 h103 => ?_)
  obtain ⟨hM102, fM102, h104⟩ := h103
  refine y_iconst C dX0_mostAlike_8 ?_
  refine j_istore_n C 2 [(2, .int (sI 0)), (0, .ref (ad 95)), (1, .int (sI a1))] dX0_mostAlike_9 rfl (by decide) rfl ?_
  refine y_iconst C dX0_mostAlike_10 ?_
  refine j_istore_n C 3 [(3, .int (sI 0)), (2, .int (sI 0)), (0, .ref (ad 95)), (1, .int (sI a1))] dX0_mostAlike_11 rfl (by decide) rfl ?_
  have L809 : ∀ (n807 : Nat), ∀ (a810 : Int) (a811 : Int) (M812 : mm_M), (0 ≤ a810 ∧ a810 ≤ 2147483647 ∧ 0 ≤ a811 ∧ a811 ≤ 256 ∧ (256 - a811) < (n807 : Int)) → INV pr Kz M812 → FX [97] M0 M812 → jj p l e (cn_R 1) s m args below meth c 0 0 Q 6 dC dI ad cA A M812 12 [(0, .ref (ad 95)), (1, .int (sI a1)), (2, .int (sI a810)), (3, .int (sI a811))] [] := by
    intro n807
    induction n807 with
    | zero =>
      intro a810 a811 M812 h813 hM812 fM812
      exfalso; omega
    | succ n807 ih808 =>
      intro a810 a811 M812 h813 hM812 fM812
      refine j_iload_n C 3 3 dX0_mostAlike_12 rfl rfl ?_
      refine j_aload_n C 0 0 dX0_mostAlike_13 rfl rfl ?_
      refine y_getC C 0 88 fX0_mostAlike_25 rfl rfl ft_0_0 sm_0_0 rfl hM812 dX0_mostAlike_14 ?_
      refine j_callVi C (d := 0) (As := []) (st := [.int (sI a811)]) 88 (s_lt rfl rfl) (s_kc (c := 4) rfl rfl) (by decide) rfl (s1_X5_everyKind hM812) gX0_mostAlike_X5_everyKind rfl hdX5_everyKind (by decide) (Nat.le_of_ble_eq_true rfl) dX0_mostAlike_17 rfl (fun r814 M815 h816 => ?_)
      obtain ⟨a818, rfl, rfl, h817⟩ := h816
      refine y_icmp_gt C 92 dX0_mostAlike_20 (by decide) (by (clear fM812 hM812 ih808 h104 fM102 hM102 hret C ha1 hpr hM0; omega)) (fun h819 => ?_) (fun h819 => ?_)
      · refine j_iload_n C 2 2 dX0_mostAlike_92 rfl rfl ?_
        exact hret _ _ _ _ dX0_mostAlike_93 ⟨a810, rfl, hM812, (FX.rf.tr fM812 (by decide)), by exact ⟨h813.1, h813.2.1⟩⟩
      · refine j_aload_n C 0 0 dX0_mostAlike_23 rfl rfl ?_
        refine y_getC C 0 96 fX0_mostAlike_9 rfl rfl ft_0_1 sm_0_1 rfl hM812 dX0_mostAlike_24 ?_
        refine j_iload_n C 3 3 dX0_mostAlike_27 rfl rfl ?_
        refine y_iald C 43 256 _ _ rfl rfl rfl ak_43 an_43 rfl (sb_43 _) hM812 dX0_mostAlike_28 (by exact ⟨h813.2.2.1, (by (clear fM812 hM812 ih808 h104 fM102 hM102 hret C ha1 hpr hM0; omega))⟩) (fun a820 ea820 la820 ua820 => ?_)
        refine y_iconst C dX0_mostAlike_29 ?_
        refine y_icmp_eq C 86 dX0_mostAlike_30 (by decide) (by exact ⟨⟨la820, ua820⟩, ⟨(by decide), (by decide)⟩⟩) (fun h821 => ?_) (fun h821 => ?_)
        · refine y_iinc C 3 [(3, .int (sI (a811 + 1))), (0, .ref (ad 95)), (1, .int (sI a1)), (2, .int (sI a810))] dX0_mostAlike_86 rfl (by decide) rfl ?_
          refine j_goto C 12 dX0_mostAlike_89 (by decide) ?_
          refine j_lv [1, 2, 3, 0] rfl ?_; exact ih808 a810 (a811 + 1) M812 (by exact ⟨h813.1, ⟨h813.2.1, ⟨(by (clear h821 ua820 la820 ea820 fM812 hM812 ih808 h104 fM102 hM102 hret C ha1 hpr hM0; omega)), ⟨(by (clear h821 ua820 la820 ea820 fM812 hM812 ih808 h104 fM102 hM102 hret C ha1 hpr hM0; omega)), (by (clear h821 ua820 la820 ea820 fM812 hM812 ih808 h104 fM102 hM102 hret C ha1 hpr hM0; omega))⟩⟩⟩⟩) hM812 (FX.rf.tr fM812 (by decide))
        · refine j_aload_n C 0 0 dX0_mostAlike_33 rfl rfl ?_
          refine y_getC C 0 88 fX0_mostAlike_25 rfl rfl ft_0_0 sm_0_0 rfl hM812 dX0_mostAlike_34 ?_
          refine j_aload_n C 0 0 dX0_mostAlike_37 rfl rfl ?_
          refine y_getC C 0 96 fX0_mostAlike_9 rfl rfl ft_0_1 sm_0_1 rfl hM812 dX0_mostAlike_38 ?_
          refine j_iload_n C 3 3 dX0_mostAlike_41 rfl rfl ?_
          refine y_iald C 43 256 _ _ rfl rfl rfl ak_43 an_43 rfl (sb_43 _) hM812 dX0_mostAlike_42 (by exact ⟨h813.2.2.1, (by (clear h821 ua820 la820 ea820 fM812 hM812 ih808 h104 fM102 hM102 hret C ha1 hpr hM0; omega))⟩) (fun a822 ea822 la822 ua822 => ?_)
          refine j_iload_n C 1 1 dX0_mostAlike_43 rfl rfl ?_
          refine j_callVi C (d := 0) (As := [.int (sI a822), .int (sI a1)]) (st := []) 88 (s_lt rfl rfl) (s_kc (c := 4) rfl rfl) (by decide) rfl (s1_X5_pick hM812 a822 (by exact ⟨la822, ua822⟩) a1 (by exact ⟨ha1.1, ha1.2⟩)) gX0_mostAlike_X5_pick rfl hdX5_pick (by decide) (Nat.le_of_ble_eq_true rfl) dX0_mostAlike_44 rfl (fun r823 M824 h825 => ?_)
          obtain ⟨a827, rfl, rfl, h826⟩ := h825
          refine j_istore C 4 [(4, .int (sI a827)), (0, .ref (ad 95)), (1, .int (sI a1)), (2, .int (sI a810)), (3, .int (sI a811))] dX0_mostAlike_47 (by decide) rfl ?_
          refine j_iload C 0 dX0_mostAlike_49 rfl ?_
          have J830 : ∀ (a829 : Int), (0 ≤ a829 ∧ a829 ≤ 9) → jj p l e (cn_R 1) s m args below meth c 0 0 Q 6 dC dI ad cA A M812 61 [(0, .ref (ad 95)), (1, .int (sI a1)), (2, .int (sI a810)), (3, .int (sI a811))] [.int (sI a829)] := by
            intro a829 h831
            refine j_istore C 5 [(5, .int (sI a829)), (0, .ref (ad 95)), (1, .int (sI a1)), (2, .int (sI a810)), (3, .int (sI a811))] dX0_mostAlike_61 (by decide) rfl ?_
            refine j_aload_n C 1 0 dX0_mostAlike_63 rfl rfl ?_
            refine y_getC C 0 97 fX0_mostAlike_15 rfl rfl ft_0_2 sm_0_2 rfl hM812 dX0_mostAlike_64 ?_
            refine j_iload C 0 dX0_mostAlike_67 rfl ?_
            refine j_dup2 C dX0_mostAlike_69 rfl rfl ?_
            refine y_iald C 44 10 _ _ rfl rfl rfl ak_44 an_44 rfl (sb_44 _) hM812 dX0_mostAlike_70 (by exact ⟨h831.1, (by (clear h826 ua822 la822 ea822 h821 ua820 la820 ea820 h819 h817 fM812 hM812 h813 ih808 h104 fM102 hM102 hret C ha1 hpr hM0; omega))⟩) (fun a832 ea832 la832 ua832 => ?_)
            refine y_iconst C dX0_mostAlike_71 ?_
            refine y_iadd0 C dX0_mostAlike_72 (fun a833 la833 ua833 => ?_)
            refine y_iastF C 44 10 rfl rfl rfl ak_44 an_44 rfl (sb_44 _) hM812 (PX.w hpr rfl rfl) dX0_mostAlike_73 (by exact ⟨h831.1, (by omega)⟩) (fun M834 eM834 hM834 => ?_)
            refine j_iload_n C 3 2 dX0_mostAlike_74 rfl rfl ?_
            refine j_aload_n C 1 0 dX0_mostAlike_75 rfl rfl ?_
            refine y_getC C 0 97 fX0_mostAlike_15 rfl rfl ft_0_2 sm_0_2 rfl hM834 dX0_mostAlike_76 ?_
            refine j_iload C 0 dX0_mostAlike_79 rfl ?_
            refine y_iald C 44 10 _ _ rfl rfl rfl ak_44 an_44 rfl (sb_44 _) hM834 dX0_mostAlike_81 (by exact ⟨h831.1, (by omega)⟩) (fun a835 ea835 la835 ua835 => ?_)
            refine y_mmax C wX0_mostAlike_65_0 wX0_mostAlike_65_1 wX0_mostAlike_65_2 wX0_mostAlike_65_3 (by decide) (Nat.le_of_ble_eq_true rfl) dX0_mostAlike_82 (by exact ⟨⟨(by (clear hM834 eM834 ua833 la833 ua832 la832 ea832 h831 h826 ua822 la822 ea822 h821 ua820 la820 ea820 h819 h817 fM812 hM812 ih808 h104 fM102 hM102 hret C ha1 hpr hM0; omega)), h813.2.1⟩, ⟨la835, ua835⟩⟩) (fun a836 ha836 => ?_)
            refine j_istore_n C 2 [(2, .int (sI a836)), (5, .int (sI a829)), (0, .ref (ad 95)), (1, .int (sI a1)), (3, .int (sI a811))] dX0_mostAlike_85 rfl (by decide) rfl ?_
            refine y_iinc C 4 [(3, .int (sI (a811 + 1))), (2, .int (sI a836)), (5, .int (sI a829)), (0, .ref (ad 95)), (1, .int (sI a1))] dX0_mostAlike_86 rfl (by decide) rfl ?_
            refine j_goto C 12 dX0_mostAlike_89 (by decide) ?_
            refine j_lv [3, 4, 1, 0] rfl ?_; exact ih808 a836 (a811 + 1) M834 (by (clear hM834 eM834 ua833 la833 ua832 la832 ea832 h831 h826 ua822 la822 ea822 h821 ua820 la820 ea820 fM812 hM812 ih808 h104 fM102 hM102 hret C ha1 hpr hM0; omega)) hM834 ((FX.rf.tr fM812 (by decide)).wI eM834 (by decide))
          refine y_if_lt C 59 dX0_mostAlike_51 (by decide) (by omega) (fun h828 => ?_) (fun h828 => ?_)
          · refine y_bipush C dX0_mostAlike_59 rfl ?_
            refine j_lv [1, 2, 3, 4] rfl ?_; exact J830 9 (by exact ⟨(by decide), (by decide)⟩)
          · refine j_iload C 0 dX0_mostAlike_54 rfl ?_
            refine j_goto C 61 dX0_mostAlike_56 (by decide) ?_
            refine j_lv [1, 2, 3, 4] rfl ?_; exact J830 a827 (by (clear J830 ua822 la822 ea822 h821 ua820 la820 ea820 h819 h817 fM812 hM812 h813 ih808 h104 fM102 hM102 hret C ha1 hpr hM0; omega))
  refine j_lv [2, 3, 1, 0] rfl ?_; exact L809 4294967304 0 0 M102 (by exact ⟨(by decide), ⟨(by decide), ⟨(by decide), ⟨(by decide), (by decide)⟩⟩⟩⟩) hM102 (FX.rf.tr fM102 (by decide))
set_option maxHeartbeats 4000000 in
theorem s2_X0_mostTelling {l : Launch} {dC : Nat → ClassId} {dI : Nat → Nat → Nat} {ad : Nat → Nat} {cA : Nat → ClassId} {pr : Nat → Nat → Bool} {Kz : mm_M} {M0 : mm_M} (hM0 : INV pr Kz M0) (hpr : PX pr)  : Ci l 2 yX0_mostTelling wsX0_mostTelling dC dI ad cA [.ref (ad 95)] M0 (fun r M' => ∃ a : Int, r = sI a ∧ INV pr Kz M' ∧ FX [97] M0 M' ∧ (-1) ≤ a ∧ a ≤ 5) := by
  refine ci_of (cc := cX0_mostTelling) (maxL := 5) (ty := .int) (lv := [(0, .ref (ad 95))]) (by decide) rfl (fun r M' hp => rfl) (Nat.le_of_ble_eq_true rfl) rfl ?_
  intro p e s m args below meth c A Q C hret
  refine y_iconst C dX0_mostTelling_0 ?_
  refine j_istore_n C 1 [(1, .int (sI (-1))), (0, .ref (ad 95))] dX0_mostTelling_1 rfl (by decide) rfl ?_
  refine y_sipush C dX0_mostTelling_2 rfl ?_
  refine j_istore_n C 2 [(2, .int (sI 257)), (1, .int (sI (-1))), (0, .ref (ad 95))] dX0_mostTelling_5 rfl (by decide) rfl ?_
  refine y_iconst C dX0_mostTelling_6 ?_
  refine j_istore_n C 3 [(3, .int (sI 0)), (2, .int (sI 257)), (1, .int (sI (-1))), (0, .ref (ad 95))] dX0_mostTelling_7 rfl (by decide) rfl ?_
  have L215 : ∀ (n213 : Nat), ∀ (a216 : Int) (a217 : Int) (a218 : Int) (M219 : mm_M), ((-1) ≤ a216 ∧ a216 ≤ 5 ∧ 0 ≤ a217 ∧ a217 ≤ 257 ∧ 0 ≤ a218 ∧ a218 ≤ 6 ∧ (6 - a218) < (n213 : Int)) → INV pr Kz M219 → FX [97] M0 M219 → jj p l e (cn_R 2) s m args below meth c 0 0 Q 5 dC dI ad cA A M219 8 [(0, .ref (ad 95)), (1, .int (sI a216)), (2, .int (sI a217)), (3, .int (sI a218))] [] := by
    intro n213
    induction n213 with
    | zero =>
      intro a216 a217 a218 M219 h220 hM219 fM219
      exfalso; omega
    | succ n213 ih214 =>
      intro a216 a217 a218 M219 h220 hM219 fM219
      refine j_iload_n C 3 3 dX0_mostTelling_8 rfl rfl ?_
      refine j_aload_n C 0 0 dX0_mostTelling_9 rfl rfl ?_
      refine y_getC C 0 88 fX0_mostTelling_25 rfl rfl ft_0_0 sm_0_0 rfl hM219 dX0_mostTelling_10 ?_
      refine j_callVi C (d := 0) (As := []) (st := [.int (sI a218)]) 88 (s_lt rfl rfl) (s_kc (c := 4) rfl rfl) (by decide) rfl (s1_X5_buyers hM219) gX0_mostTelling_X5_buyers rfl hdX5_buyers (by decide) (Nat.le_of_ble_eq_true rfl) dX0_mostTelling_13 rfl (fun r221 M222 h223 => ?_)
      obtain ⟨a225, rfl, rfl, h224⟩ := h223
      refine y_icmp_ge C 43 dX0_mostTelling_16 (by decide) (by omega) (fun h226 => ?_) (fun h226 => ?_)
      · refine j_iload_n C 1 1 dX0_mostTelling_43 rfl rfl ?_
        exact hret _ _ _ _ dX0_mostTelling_44 ⟨a216, rfl, hM219, (FX.rf.tr fM219 (by decide)), by exact ⟨h220.1, h220.2.1⟩⟩
      · refine j_aload_n C 0 0 dX0_mostTelling_19 rfl rfl ?_
        refine j_iload_n C 3 3 dX0_mostTelling_20 rfl rfl ?_
        refine j_callVi C (d := 1) (As := [.int (sI a218)]) (st := []) 95 (s_lt rfl rfl) (s_kc (c := 0) rfl rfl) (by decide) rfl (s2_X0_mostAlike hM219 hpr a218 (by omega)) gX0_mostTelling_X0_mostAlike rfl hdX0_mostAlike (by decide) (Nat.le_of_ble_eq_true rfl) dX0_mostTelling_21 rfl (fun r227 M228 h229 => ?_)
        obtain ⟨a231, rfl, hM228, fM228, h230⟩ := h229
        refine j_istore C 4 [(4, .int (sI a231)), (0, .ref (ad 95)), (1, .int (sI a216)), (2, .int (sI a217)), (3, .int (sI a218))] dX0_mostTelling_24 (by decide) rfl ?_
        refine j_iload C 0 dX0_mostTelling_26 rfl ?_
        refine j_iload_n C 3 2 dX0_mostTelling_28 rfl rfl ?_
        refine y_icmp_ge C 37 dX0_mostTelling_29 (by decide) (by exact ⟨⟨(by (clear fM228 hM228 h226 h224 fM219 hM219 ih214 hret C hpr hM0; omega)), h230.2⟩, ⟨(by (clear fM228 hM228 h226 h224 fM219 hM219 ih214 hret C hpr hM0; omega)), (by (clear fM228 hM228 h226 h224 fM219 hM219 ih214 hret C hpr hM0; omega))⟩⟩) (fun h232 => ?_) (fun h232 => ?_)
        · refine y_iinc C 4 [(3, .int (sI (a218 + 1))), (4, .int (sI a231)), (0, .ref (ad 95)), (1, .int (sI a216)), (2, .int (sI a217))] dX0_mostTelling_37 rfl (by decide) rfl ?_
          refine j_goto C 8 dX0_mostTelling_40 (by decide) ?_
          refine j_lv [2, 3, 4, 0] rfl ?_; exact ih214 a216 a217 (a218 + 1) M228 (by exact ⟨h220.1, ⟨h220.2.1, ⟨h220.2.2.1, ⟨h220.2.2.2.1, ⟨(by (clear h232 h230 fM228 hM228 fM219 hM219 ih214 hret C hpr hM0; omega)), ⟨(by (clear h232 h230 fM228 hM228 fM219 hM219 ih214 hret C hpr hM0; omega)), (by (clear h232 h230 fM228 hM228 fM219 hM219 ih214 hret C hpr hM0; omega))⟩⟩⟩⟩⟩⟩) hM228 ((FX.rf.tr fM219 (by decide)).tr fM228 (by decide))
        · refine j_iload C 0 dX0_mostTelling_32 rfl ?_
          refine j_istore_n C 2 [(2, .int (sI a231)), (4, .int (sI a231)), (0, .ref (ad 95)), (1, .int (sI a216)), (3, .int (sI a218))] dX0_mostTelling_34 rfl (by decide) rfl ?_
          refine j_iload_n C 4 3 dX0_mostTelling_35 rfl rfl ?_
          refine j_istore_n C 1 [(1, .int (sI a218)), (2, .int (sI a231)), (4, .int (sI a231)), (0, .ref (ad 95)), (3, .int (sI a218))] dX0_mostTelling_36 rfl (by decide) rfl ?_
          refine y_iinc C 4 [(3, .int (sI (a218 + 1))), (1, .int (sI a218)), (2, .int (sI a231)), (4, .int (sI a231)), (0, .ref (ad 95))] dX0_mostTelling_37 rfl (by decide) rfl ?_
          refine j_goto C 8 dX0_mostTelling_40 (by decide) ?_
          refine j_lv [4, 1, 2, 0] rfl ?_; exact ih214 a218 a231 (a218 + 1) M228 (by exact ⟨(by (clear fM228 hM228 fM219 hM219 ih214 hret C hpr hM0; omega)), ⟨(by (clear fM228 hM228 fM219 hM219 ih214 hret C hpr hM0; omega)), ⟨h230.1, ⟨(by (clear fM228 hM228 fM219 hM219 ih214 hret C hpr hM0; omega)), ⟨(by (clear fM228 hM228 fM219 hM219 ih214 hret C hpr hM0; omega)), ⟨(by (clear fM228 hM228 fM219 hM219 ih214 hret C hpr hM0; omega)), (by (clear fM228 hM228 fM219 hM219 ih214 hret C hpr hM0; omega))⟩⟩⟩⟩⟩⟩) hM228 ((FX.rf.tr fM219 (by decide)).tr fM228 (by decide))
  refine j_lv [3, 2, 1, 0] rfl ?_; exact L215 2010 (-1) 257 0 M0 (by exact ⟨(by decide), ⟨(by decide), ⟨(by decide), ⟨(by decide), ⟨(by decide), ⟨(by decide), (by decide)⟩⟩⟩⟩⟩⟩) hM0 FX.rf
set_option maxHeartbeats 4000000 in
theorem s2_X11_ask {l : Launch} {dC : Nat → ClassId} {dI : Nat → Nat → Nat} {ad : Nat → Nat} {cA : Nat → ClassId} {pr : Nat → Nat → Bool} {Kz : mm_M} {M0 : mm_M} (hM0 : INV pr Kz M0) (hpr : PX pr) (a1 : Int) (ha1 : -2147483648 ≤ a1 ∧ a1 ≤ 2147483647) (gp : Nat) (cgp : s_c gp = 6) (egp : gp = M0.2.2 0 4) (hp0 : b01 (APX M0 gp) = 1) (hp1 : b01 (LAW M0 gp) = 1) (hp2 : b01 (PRR (rwX M0 gp 12)) = 1) (hp3 : (M0.1 12 3).toInt < pw2 (M0.1 12 0).toInt) : Ci l 6 yX11_ask wsX11_ask dC dI ad cA [.ref (ad 0), .int (sI a1)] M0 (fun r M' => ∃ a : Int, r = sI a ∧ INV pr Kz M' ∧ FX [81, 82, 83, 84, 85, 86, 88, 89, 90, 95, 96, 97] M0 M' ∧ (-6) ≤ a ∧ a ≤ 5 ∧ (b01 (APX M' gp) = 1)) := by
  refine ci_of (cc := cX11_ask) (maxL := 3) (ty := .int) (lv := [(0, .ref (ad 0)), (1, .int (sI a1))]) (by decide) rfl (fun r M' hp => rfl) (Nat.le_of_ble_eq_true rfl) rfl ?_
  intro p e s m args below meth c A Q C hret
  refine j_aload_n C 0 0 dX11_ask_0 rfl rfl ?_
  refine j_iload_n C 1 1 dX11_ask_1 rfl rfl ?_
  refine j_callVi C (d := 2) (As := [.int (sI a1)]) (st := []) 0 (s_lt rfl rfl) (s_kc (c := 10) rfl rfl) (by decide) rfl (s1_X11_seenRefusal hM0 a1 (by exact ⟨ha1.1, ha1.2⟩)) gX11_ask_X11_seenRefusal rfl hdX11_seenRefusal (by decide) (Nat.le_of_ble_eq_true rfl) dX11_ask_2 rfl (fun r102 M103 h104 => ?_)
  obtain ⟨a106, rfl, rfl, h105⟩ := h104
  refine j_istore_n C 2 [(2, .int (sI a106)), (0, .ref (ad 0)), (1, .int (sI a1))] dX11_ask_5 rfl (by decide) rfl ?_
  refine j_iload_n C 0 2 dX11_ask_6 rfl rfl ?_
  refine y_if_eq C 12 dX11_ask_7 (by decide) (by omega) (fun h107 => ?_) (fun h107 => ?_)
  · refine j_aload_n C 1 0 dX11_ask_12 rfl rfl ?_
    refine y_getC C 10 88 fX11_ask_94 rfl rfl ft_10_14 sm_10_14 rfl hM0 dX11_ask_13 ?_
    refine j_aload_n C 1 0 dX11_ask_16 rfl rfl ?_
    refine y_getV C 10 gp fX11_ask_26 rfl rfl ft_10_4 (egp) dX11_ask_17 ?_
    refine j_aload_n C 1 0 dX11_ask_20 rfl rfl ?_
    refine y_getC C 10 12 fX11_ask_36 rfl rfl ft_10_6 sm_10_6 rfl hM0 dX11_ask_21 ?_
    refine j_callVv C (d := 5) (As := [.ref (ad gp), .ref (ad 12)]) (st := []) 88 (s_lt rfl rfl) (s_kc (c := 4) rfl rfl) (by decide) rfl (s2_X5_lookEverywhere hM0 hpr cgp (by exact hp0) (by exact hp1) (by exact hp2) (by exact hp3)) gX11_ask_X5_lookEverywhere rfl hdX5_lookEverywhere (by decide) (Nat.le_of_ble_eq_true rfl) dX11_ask_24 rfl (fun M110 h111 => ?_)
    obtain ⟨hM110, fM110, h112⟩ := h111
    have u113a := tn_a (M := M110) (p := gp) (f := rwX M0 gp 12) (by exact h112)
    refine j_aload_n C 1 0 dX11_ask_27 rfl rfl ?_
    refine y_getC C 10 95 fX11_ask_103 rfl rfl ft_10_15 sm_10_15 rfl hM110 dX11_ask_28 ?_
    refine j_aload_n C 1 0 dX11_ask_31 rfl rfl ?_
    refine y_getC C 10 50 fX11_ask_52 rfl rfl ft_10_9 sm_10_9 rfl hM110 dX11_ask_32 ?_
    refine j_iload_n C 2 1 dX11_ask_35 rfl rfl ?_
    refine y_aald C 28 4 9 rfl rfl rfl rfl an_28 rfl sma_28 sta_28 (by decide) hM110 dX11_ask_36 (by (clear u113a h112 fM110 hM110 hret C hp3 hp2 hp1 hp0 egp cgp hpr hM0; omega)) (fun v114 cv114 => ?_)
    refine j_callVv C (d := 3) (As := [.ref (ad v114)]) (st := []) 95 (s_lt rfl rfl) (s_kc (c := 0) rfl rfl) (by decide) rfl (s2_X0_gather hM110 hpr cv114) gX11_ask_X0_gather rfl hdX0_gather (by decide) (Nat.le_of_ble_eq_true rfl) dX11_ask_37 rfl (fun M116 h117 => ?_)
    obtain ⟨hM116, fM116⟩ := h117
    refine j_aload_n C 1 0 dX11_ask_40 rfl rfl ?_
    refine y_getC C 10 95 fX11_ask_103 rfl rfl ft_10_15 sm_10_15 rfl hM116 dX11_ask_41 ?_
    refine y_getI C 0 _ _ fX11_ask_354 rfl rfl ft_0_3 sb_0_3 hM116 dX11_ask_44 (fun a119 ea119 la119 ua119 => ?_)
    refine y_if_ne C 54 dX11_ask_47 (by decide) (by exact ⟨la119, ua119⟩) (fun h121 => ?_) (fun h121 => ?_)
    · refine j_aload_n C 1 0 dX11_ask_54 rfl rfl ?_
      refine y_getC C 10 95 fX11_ask_103 rfl rfl ft_10_15 sm_10_15 rfl hM116 dX11_ask_55 ?_
      refine j_callVi C (d := 2) (As := []) (st := []) 95 (s_lt rfl rfl) (s_kc (c := 0) rfl rfl) (by decide) rfl (s2_X0_mostTelling hM116 hpr) gX11_ask_X0_mostTelling rfl hdX0_mostTelling (by decide) (Nat.le_of_ble_eq_true rfl) dX11_ask_58 rfl (fun r122 M123 h124 => ?_)
      obtain ⟨a126, rfl, hM123, fM123, h125⟩ := h124
      have u127A7 := hM110.rd (i := gp) (c := 6) (k := 7) cgp (show s_b 6 7 = (0, 900) from rfl)
      have u127A9 := hM110.rd (i := gp) (c := 6) (k := 9) cgp (show s_b 6 9 = (0, 900) from rfl)
      have u127A := apx_o (M := M110) (N := M123) (p := gp) (ple_f (p := gp) (((FX.rf.tr fM116 (by decide)).tr fM123 (by decide)) : FX [95, 96, 97] M110 M123) cgp (by decide)) ((((FX.rf.tr fM116 (by decide)).tr fM123 (by decide)) : FX [95, 96, 97] M110 M123).cell (by decide)) ((((FX.rf.tr fM116 (by decide)).tr fM123 (by decide)) : FX [95, 96, 97] M110 M123).cell (by decide)) ((((FX.rf.tr fM116 (by decide)).tr fM123 (by decide)) : FX [95, 96, 97] M110 M123).cell (by decide)) u127A7.1 u127A9.1 (by exact u113a)
      exact hret _ _ _ _ dX11_ask_61 ⟨a126, rfl, hM123, (((FX.rf.tr fM110 (by decide)).tr fM116 (by decide)).tr fM123 (by decide)), by exact ⟨(by (clear u127A9 u127A7 fM123 hM123 h121 ua119 la119 ea119 fM116 hM116 cv114 u113a h112 fM110 hM110 h107 h105 hret C hp3 hp2 hp1 hp0 egp cgp ha1 hpr hM0; omega)), ⟨h125.2, u127A⟩⟩⟩
    · refine y_iconst C dX11_ask_50 ?_
      refine j_goto C 61 dX11_ask_51 (by decide) ?_
      have u128A7 := hM110.rd (i := gp) (c := 6) (k := 7) cgp (show s_b 6 7 = (0, 900) from rfl)
      have u128A9 := hM110.rd (i := gp) (c := 6) (k := 9) cgp (show s_b 6 9 = (0, 900) from rfl)
      have u128A := apx_o (M := M110) (N := M116) (p := gp) (ple_f (p := gp) ((FX.rf.tr fM116 (by decide)) : FX [95, 96] M110 M116) cgp (by decide)) (((FX.rf.tr fM116 (by decide)) : FX [95, 96] M110 M116).cell (by decide)) (((FX.rf.tr fM116 (by decide)) : FX [95, 96] M110 M116).cell (by decide)) (((FX.rf.tr fM116 (by decide)) : FX [95, 96] M110 M116).cell (by decide)) u128A7.1 u128A9.1 (by exact u113a)
      exact hret _ _ _ _ dX11_ask_61 ⟨(-1), rfl, hM116, ((FX.rf.tr fM110 (by decide)).tr fM116 (by decide)), by exact ⟨(by decide), ⟨(by decide), u128A⟩⟩⟩
  · refine j_iload_n C 0 2 dX11_ask_10 rfl rfl ?_
    exact hret _ _ _ _ dX11_ask_11 ⟨a106, rfl, hM0, FX.rf, by exact ⟨h105.1, ⟨(by (clear h107 hret C hp3 hp2 hp1 egp cgp ha1 hpr hM0; omega)), hp0⟩⟩⟩
set_option maxHeartbeats 4000000 in
theorem s2_X0_rows {l : Launch} {dC : Nat → ClassId} {dI : Nat → Nat → Nat} {ad : Nat → Nat} {cA : Nat → ClassId} {pr : Nat → Nat → Bool} {Kz : mm_M} {M0 : mm_M} (hM0 : INV pr Kz M0) (hpr : PX pr) {v1 : Nat} (cv1 : s_c v1 = 9) : Cj l 2 yX0_rows wsX0_rows dC dI ad cA [.ref (ad 95), .ref (ad v1)] M0 (fun r M' => ∃ a : Int, r = sJ a ∧ INV pr Kz M' ∧ FX [88, 92, 93] M0 M' ∧ (-9223372036854775808) ≤ a ∧ a ≤ 9223372036854775807) := by
  refine cj_of (cc := cX0_rows) (maxL := 3) (lv := [(0, .ref (ad 95)), (1, .ref (ad v1))]) (by decide) rfl (Nat.le_of_ble_eq_true rfl) rfl ?_
  intro p e s m args below meth c A Q C hret
  refine j_aload_n C 0 0 dX0_rows_0 rfl rfl ?_
  refine y_getC C 0 88 fX0_rows_25 rfl rfl ft_0_0 sm_0_0 rfl hM0 dX0_rows_1 ?_
  refine j_callVv C (d := 1) (As := []) (st := []) 88 (s_lt rfl rfl) (s_kc (c := 4) rfl rfl) (by decide) rfl (s2_X5_beginRows hM0 hpr) gX0_rows_X5_beginRows rfl hdX5_beginRows (by decide) (Nat.le_of_ble_eq_true rfl) dX0_rows_4 rfl (fun M102 h103 => ?_)
  obtain ⟨hM102, fM102⟩ := h103
  refine y_iconst C dX0_rows_7 ?_
  refine j_istore_n C 2 [(2, .int (sI 0)), (0, .ref (ad 95)), (1, .ref (ad v1))] dX0_rows_8 rfl (by decide) rfl ?_
  have L413 : ∀ (n411 : Nat), ∀ (a414 : Int) (M415 : mm_M), (0 ≤ a414 ∧ a414 ≤ 40 ∧ (40 - a414) < (n411 : Int)) → INV pr Kz M415 → FX [88, 92, 93] M0 M415 → jj p l e (cn_R 2) s m args below meth c 0 0 Q 3 dC dI ad cA A M415 9 [(0, .ref (ad 95)), (1, .ref (ad v1)), (2, .int (sI a414))] [] := by
    intro n411
    induction n411 with
    | zero =>
      intro a414 M415 h416 hM415 fM415
      exfalso; omega
    | succ n411 ih412 =>
      intro a414 M415 h416 hM415 fM415
      refine j_iload_n C 2 2 dX0_rows_9 rfl rfl ?_
      refine j_aload_n C 1 1 dX0_rows_10 rfl rfl ?_
      refine j_callVi C (d := 1) (As := []) (st := [.int (sI a414)]) v1 (s_lt cv1 rfl) (s_kc (c := 9) cv1 rfl) (by decide) rfl (s1_X10_size hM415 cv1) gX0_rows_X10_size rfl hdX10_size (by decide) (Nat.le_of_ble_eq_true rfl) dX0_rows_11 rfl (fun r417 M418 h419 => ?_)
      obtain ⟨a421, rfl, rfl, h420⟩ := h419
      refine y_icmp_ge C 36 dX0_rows_14 (by decide) (by omega) (fun h422 => ?_) (fun h422 => ?_)
      · refine j_aload_n C 0 0 dX0_rows_36 rfl rfl ?_
        refine y_getC C 0 88 fX0_rows_25 rfl rfl ft_0_0 sm_0_0 rfl hM415 dX0_rows_37 ?_
        refine j_callVj C (d := 0) (As := []) (st := []) 88 (s_lt rfl rfl) (s_kc (c := 4) rfl rfl) (by decide) rfl (s1_X5_allWays hM415) gX0_rows_X5_allWays rfl hdX5_allWays (by decide) (Nat.le_of_ble_eq_true rfl) dX0_rows_40 rfl (fun r433 M434 h435 => ?_)
        obtain ⟨a437, rfl, rfl, h436⟩ := h435
        exact hret _ _ _ _ dX0_rows_43 ⟨a437, rfl, hM415, (FX.rf.tr fM415 (by decide)), by exact ⟨h436.1, h436.2⟩⟩
      · refine j_aload_n C 0 0 dX0_rows_17 rfl rfl ?_
        refine y_getC C 0 88 fX0_rows_25 rfl rfl ft_0_0 sm_0_0 rfl hM415 dX0_rows_18 ?_
        refine j_aload_n C 1 1 dX0_rows_21 rfl rfl ?_
        refine j_iload_n C 2 2 dX0_rows_22 rfl rfl ?_
        refine j_callVj C (d := 1) (As := [.int (sI a414)]) (st := [.ref (ad 88)]) v1 (s_lt cv1 rfl) (s_kc (c := 9) cv1 rfl) (by decide) rfl (s1_X10_numberAt hM415 cv1 a414 (by omega)) gX0_rows_X10_numberAt rfl hdX10_numberAt (by decide) (Nat.le_of_ble_eq_true rfl) dX0_rows_23 rfl (fun r423 M424 h425 => ?_)
        obtain ⟨a427, rfl, rfl, h426⟩ := h425
        refine y_l2i C dX0_rows_26 ?_
        refine y_topI (fun a428 la428 ua428 => ?_)
        refine j_callVv C (d := 1) (As := [.int (sI a428)]) (st := []) 88 (s_lt rfl rfl) (s_kc (c := 4) rfl rfl) (by decide) rfl (s2_X5_lengthenRows hM415 hpr a428 (by exact ⟨la428, ua428⟩)) gX0_rows_X5_lengthenRows rfl hdX5_lengthenRows (by decide) (Nat.le_of_ble_eq_true rfl) dX0_rows_27 rfl (fun M430 h431 => ?_)
        obtain ⟨hM430, fM430⟩ := h431
        refine y_iinc C 2 [(2, .int (sI (a414 + 1))), (0, .ref (ad 95)), (1, .ref (ad v1))] dX0_rows_30 rfl (by decide) rfl ?_
        refine j_goto C 9 dX0_rows_33 (by decide) ?_
        refine j_lv [1, 2, 0] rfl ?_; exact ih412 (a414 + 1) M430 (by (clear fM430 hM430 ua428 la428 h426 fM415 hM415 ih412 fM102 hM102 hret C cv1 hpr hM0; omega)) hM430 ((FX.rf.tr fM415 (by decide)).tr fM430 (by decide))
  refine j_lv [1, 2, 0] rfl ?_; exact L413 2010 0 M102 (by exact ⟨(by decide), ⟨(by decide), (by decide)⟩⟩) hM102 (FX.rf.tr fM102 (by decide))
set_option maxHeartbeats 4000000 in
theorem s2_X11_came {l : Launch} {dC : Nat → ClassId} {dI : Nat → Nat → Nat} {ad : Nat → Nat} {cA : Nat → ClassId} {pr : Nat → Nat → Bool} {Kz : mm_M} {M0 : mm_M} (hM0 : INV pr Kz M0) (hpr : PX pr) (a1 : Int) (ha1 : -2147483648 ≤ a1 ∧ a1 ≤ 2147483647) (gp : Nat) (cgp : s_c gp = 6) (egp : gp = M0.2.2 0 4) (hp0 : b01 (APX M0 gp) = 1) (hp1 : b01 (LAW M0 gp) = 1) (hp2 : b01 (PRR (rwX M0 gp 12)) = 1) (hp3 : (M0.1 12 3).toInt < pw2 (M0.1 12 0).toInt) : Cj l 6 yX11_came wsX11_came dC dI ad cA [.ref (ad 0), .int (sI a1)] M0 (fun r M' => ∃ a : Int, r = sJ a ∧ INV pr Kz M' ∧ FX [81, 82, 83, 84, 85, 86, 88, 89, 90, 92, 93] M0 M' ∧ (-9223372036854775808) ≤ a ∧ a ≤ 9223372036854775807 ∧ (b01 (APX M' gp) = 1)) := by
  refine cj_of (cc := cX11_came) (maxL := 3) (lv := [(0, .ref (ad 0)), (1, .int (sI a1))]) (by decide) rfl (Nat.le_of_ble_eq_true rfl) rfl ?_
  intro p e s m args below meth c A Q C hret
  refine j_aload_n C 0 0 dX11_came_0 rfl rfl ?_
  refine j_iload_n C 1 1 dX11_came_1 rfl rfl ?_
  refine j_callVi C (d := 2) (As := [.int (sI a1)]) (st := []) 0 (s_lt rfl rfl) (s_kc (c := 10) rfl rfl) (by decide) rfl (s1_X11_cameRefusal hM0 a1 (by exact ⟨ha1.1, ha1.2⟩)) gX11_came_X11_cameRefusal rfl hdX11_cameRefusal (by decide) (Nat.le_of_ble_eq_true rfl) dX11_came_2 rfl (fun r102 M103 h104 => ?_)
  obtain ⟨a106, rfl, rfl, h105⟩ := h104
  refine j_istore_n C 2 [(2, .int (sI a106)), (0, .ref (ad 0)), (1, .int (sI a1))] dX11_came_5 rfl (by decide) rfl ?_
  refine j_iload_n C 0 2 dX11_came_6 rfl rfl ?_
  refine y_if_eq C 13 dX11_came_7 (by decide) (by omega) (fun h107 => ?_) (fun h107 => ?_)
  · refine j_aload_n C 1 0 dX11_came_13 rfl rfl ?_
    refine y_getC C 10 88 fX11_came_94 rfl rfl ft_10_14 sm_10_14 rfl hM0 dX11_came_14 ?_
    refine j_aload_n C 1 0 dX11_came_17 rfl rfl ?_
    refine y_getV C 10 gp fX11_came_26 rfl rfl ft_10_4 (egp) dX11_came_18 ?_
    refine j_aload_n C 1 0 dX11_came_21 rfl rfl ?_
    refine y_getC C 10 12 fX11_came_36 rfl rfl ft_10_6 sm_10_6 rfl hM0 dX11_came_22 ?_
    refine j_aload_n C 1 0 dX11_came_25 rfl rfl ?_
    refine y_getC C 10 12 fX11_came_36 rfl rfl ft_10_6 sm_10_6 rfl hM0 dX11_came_26 ?_
    refine y_getI C 8 _ _ fX11_came_153 rfl rfl ft_8_4 sb_8_4 hM0 dX11_came_29 (fun a108 ea108 la108 ua108 => ?_)
    refine j_callVv C (d := 5) (As := [.ref (ad gp), .ref (ad 12), .int (sI a108)]) (st := []) 88 (s_lt rfl rfl) (s_kc (c := 4) rfl rfl) (by decide) rfl (s2_X5_look hM0 hpr cgp a108 (by (clear h107 h105 hret C hp3 hp2 hp1 hp0 egp cgp ha1 hpr hM0; omega)) (by exact hp0) (by exact hp1) (by exact hp2) (by exact hp3) (by exact ⟨la108, ua108⟩)) gX11_came_X5_look rfl hdX5_look (by decide) (Nat.le_of_ble_eq_true rfl) dX11_came_32 rfl (fun M112 h113 => ?_)
    obtain ⟨hM112, fM112, h114⟩ := h113
    have u115a := tn_a (M := M112) (p := gp) (f := rwX M0 gp 12) (by exact h114.2.1)
    refine j_aload_n C 1 0 dX11_came_35 rfl rfl ?_
    refine y_getC C 10 95 fX11_came_103 rfl rfl ft_10_15 sm_10_15 rfl hM112 dX11_came_36 ?_
    refine j_aload_n C 1 0 dX11_came_39 rfl rfl ?_
    refine y_getC C 10 50 fX11_came_52 rfl rfl ft_10_9 sm_10_9 rfl hM112 dX11_came_40 ?_
    refine j_iload_n C 2 1 dX11_came_43 rfl rfl ?_
    refine y_aald C 28 4 9 rfl rfl rfl rfl an_28 rfl sma_28 sta_28 (by decide) hM112 dX11_came_44 (by (clear u115a h114 fM112 hM112 ua108 la108 ea108 hret C hp3 hp2 hp1 hp0 egp cgp hpr hM0; omega)) (fun v116 cv116 => ?_)
    refine j_callVj C (d := 2) (As := [.ref (ad v116)]) (st := []) 95 (s_lt rfl rfl) (s_kc (c := 0) rfl rfl) (by decide) rfl (s2_X0_rows hM112 hpr cv116) gX11_came_X0_rows rfl hdX0_rows (by decide) (Nat.le_of_ble_eq_true rfl) dX11_came_45 rfl (fun r117 M118 h119 => ?_)
    obtain ⟨a121, rfl, hM118, fM118, h120⟩ := h119
    have u122A7 := hM112.rd (i := gp) (c := 6) (k := 7) cgp (show s_b 6 7 = (0, 900) from rfl)
    have u122A9 := hM112.rd (i := gp) (c := 6) (k := 9) cgp (show s_b 6 9 = (0, 900) from rfl)
    have u122A := apx_o (M := M112) (N := M118) (p := gp) (ple_f (p := gp) ((FX.rf.tr fM118 (by decide)) : FX [88, 92, 93] M112 M118) cgp (by decide)) (((FX.rf.tr fM118 (by decide)) : FX [88, 92, 93] M112 M118).cell (by decide)) (((FX.rf.tr fM118 (by decide)) : FX [88, 92, 93] M112 M118).cell (by decide)) (((FX.rf.tr fM118 (by decide)) : FX [88, 92, 93] M112 M118).cell (by decide)) u122A7.1 u122A9.1 (by exact u115a)
    exact hret _ _ _ _ dX11_came_48 ⟨a121, rfl, hM118, ((FX.rf.tr fM112 (by decide)).tr fM118 (by decide)), by exact ⟨h120.1, ⟨h120.2, u122A⟩⟩⟩
  · refine j_iload_n C 0 2 dX11_came_10 rfl rfl ?_
    refine y_i2l C dX11_came_11 (by omega) ?_
    exact hret _ _ _ _ dX11_came_12 ⟨a106, rfl, hM0, FX.rf, by exact ⟨(by (clear h107 hret C hp3 hp2 hp1 egp cgp ha1 hpr hM0; omega)), ⟨(by (clear h107 hret C hp3 hp2 hp1 egp cgp ha1 hpr hM0; omega)), hp0⟩⟩⟩
set_option maxHeartbeats 4000000 in
theorem s8_J7_fill_53178 {l : Launch} {dC : Nat → ClassId} {dI : Nat → Nat → Nat} {ad : Nat → Nat} {cA : Nat → ClassId} {pr : Nat → Nat → Bool} {Kz : mm_M} {M0 : mm_M} (hM0 : INV pr Kz M0) (hpr : PX pr) (a1 : Int) (ha1 : -2147483648 ≤ a1 ∧ a1 ≤ 2147483647) : Cv l 0 yJ7_fill_53178 wsJ7_fill_53178 dC dI ad cA [.ref (ad 96), .int (sI a1)] M0 (fun M' => INV pr Kz M' ∧ FX [96] M0 M' ∧ (b01 (FIL M' 96 a1 256) = 1)) := by
  refine cv_of (cc := cJ7_fill_53178) (maxL := 4) (lv := [(0, .ref (ad 96)), (1, .int (sI a1))]) (by decide) rfl (Nat.le_of_ble_eq_true rfl) rfl ?_
  intro p e s m args below meth c A Q C hret
  refine y_iconst C dJ7_fill_53178_0 ?_
  refine j_istore_n C 2 [(2, .int (sI 0)), (0, .ref (ad 96)), (1, .int (sI a1))] dJ7_fill_53178_1 rfl (by decide) rfl ?_
  refine j_aload_n C 1 0 dJ7_fill_53178_2 rfl rfl ?_
  refine y_alen C 43 256 rfl rfl rfl an_43 rfl rfl dJ7_fill_53178_3 ?_
  refine j_istore_n C 3 [(3, .int (sI 256)), (2, .int (sI 0)), (0, .ref (ad 96)), (1, .int (sI a1))] dJ7_fill_53178_4 rfl (by decide) rfl ?_
  have u101z := fil_0 M0 96 a1
  have L266 : ∀ (n264 : Nat), ∀ (a267 : Int) (M268 : mm_M), (0 ≤ a267 ∧ a267 ≤ 256 ∧ (b01 (FIL M268 96 a1 a267) = 1) ∧ (256 - a267) < (n264 : Int)) → INV pr Kz M268 → FX [96] M0 M268 → jj p l e (cn_R 0) s m args below meth c 0 0 Q 4 dC dI ad cA A M268 5 [(0, .ref (ad 96)), (1, .int (sI a1)), (2, .int (sI a267)), (3, .int (sI 256))] [] := by
    intro n264
    induction n264 with
    | zero =>
      intro a267 M268 h269 hM268 fM268
      exfalso; omega
    | succ n264 ih265 =>
      intro a267 M268 h269 hM268 fM268
      refine j_iload_n C 2 2 dJ7_fill_53178_5 rfl rfl ?_
      refine j_iload_n C 3 3 dJ7_fill_53178_6 rfl rfl ?_
      refine y_icmp_ge C 20 dJ7_fill_53178_7 (by decide) (by exact ⟨⟨(by omega), (by omega)⟩, ⟨(by decide), (by decide)⟩⟩) (fun h271 => ?_) (fun h271 => ?_)
      · have u274x : b01 (FIL M268 96 a1 256) = 1 := b01_i (fun k hk => b01_e (P := FIL M268 96 a1 a267) (by exact h269.2.2.1) k (by omega))
        exact hret _ _ _ dJ7_fill_53178_20 ⟨hM268, (FX.rf.tr fM268 (by decide)), by exact u274x⟩
      · refine j_aload_n C 0 0 dJ7_fill_53178_10 rfl rfl ?_
        refine j_iload_n C 2 2 dJ7_fill_53178_11 rfl rfl ?_
        refine j_iload_n C 1 1 dJ7_fill_53178_12 rfl rfl ?_
        refine y_iastF C 43 256 rfl rfl rfl ak_43 an_43 rfl (sb_43 _) hM268 (PX.w hpr rfl rfl) dJ7_fill_53178_13 (by exact ⟨h269.1, (by omega)⟩) (fun M272 eM272 hM272 => ?_)
        refine y_iinc C 2 [(2, .int (sI (a267 + 1))), (0, .ref (ad 96)), (1, .int (sI a1)), (3, .int (sI 256))] dJ7_fill_53178_14 rfl (by decide) rfl ?_
        refine j_goto C 5 dJ7_fill_53178_17 (by decide) ?_
        have u273z := fil_s (M := M268) (N := M272) (c := 96) (v := a1) (n := a267) (n' := (a267 + 1)) (by exact h269.2.2.1) eM272 (by (clear hM272 eM272 fM268 hM268 ih265 u101z hret C hpr hM0; omega))
        refine j_lv [1, 2, 0, 3] rfl ?_; exact ih265 (a267 + 1) M272 (by exact ⟨(by (clear hM272 eM272 fM268 hM268 ih265 u101z hret C ha1 hpr hM0; omega)), ⟨(by (clear hM272 eM272 fM268 hM268 ih265 u101z hret C ha1 hpr hM0; omega)), ⟨u273z, (by (clear hM272 eM272 fM268 hM268 ih265 u101z hret C ha1 hpr hM0; omega))⟩⟩⟩) hM272 ((FX.rf.tr fM268 (by decide)).wI eM272 (by decide))
  refine j_lv [2, 3, 1, 0] rfl ?_; exact L266 2010 0 M0 (by exact ⟨(by decide), ⟨(by decide), ⟨u101z, (by decide)⟩⟩⟩) hM0 FX.rf
set_option maxHeartbeats 4000000 in
theorem s2_X0_stepBack {l : Launch} {dC : Nat → ClassId} {dI : Nat → Nat → Nat} {ad : Nat → Nat} {cA : Nat → ClassId} {pr : Nat → Nat → Bool} {Kz : mm_M} {M0 : mm_M} (hM0 : INV pr Kz M0) (hpr : PX pr) (a1 : Int) (ha1 : -2147483648 ≤ a1 ∧ a1 ≤ 2147483647) : Cv l 2 yX0_stepBack wsX0_stepBack dC dI ad cA [.ref (ad 95), .int (sI a1)] M0 (fun M' => INV pr Kz M' ∧ FX [96] M0 M') := by
  refine cv_of (cc := cX0_stepBack) (maxL := 3) (lv := [(0, .ref (ad 95)), (1, .int (sI a1))]) (by decide) rfl (Nat.le_of_ble_eq_true rfl) rfl ?_
  intro p e s m args below meth c A Q C hret
  refine y_iconst C dX0_stepBack_0 ?_
  refine j_istore_n C 2 [(2, .int (sI 0)), (0, .ref (ad 95)), (1, .int (sI a1))] dX0_stepBack_1 rfl (by decide) rfl ?_
  have L724 : ∀ (n722 : Nat), ∀ (a725 : Int) (M726 : mm_M), (0 ≤ a725 ∧ a725 ≤ 256 ∧ (256 - a725) < (n722 : Int)) → INV pr Kz M726 → FX [96] M0 M726 → jj p l e (cn_R 2) s m args below meth c 0 0 Q 3 dC dI ad cA A M726 2 [(0, .ref (ad 95)), (1, .int (sI a1)), (2, .int (sI a725))] [] := by
    intro n722
    induction n722 with
    | zero =>
      intro a725 M726 h727 hM726 fM726
      exfalso; omega
    | succ n722 ih723 =>
      intro a725 M726 h727 hM726 fM726
      refine j_iload_n C 2 2 dX0_stepBack_2 rfl rfl ?_
      refine j_aload_n C 0 0 dX0_stepBack_3 rfl rfl ?_
      refine y_getC C 0 88 fX0_stepBack_25 rfl rfl ft_0_0 sm_0_0 rfl hM726 dX0_stepBack_4 ?_
      refine j_callVi C (d := 0) (As := []) (st := [.int (sI a725)]) 88 (s_lt rfl rfl) (s_kc (c := 4) rfl rfl) (by decide) rfl (s1_X5_everyKind hM726) gX0_stepBack_X5_everyKind rfl hdX5_everyKind (by decide) (Nat.le_of_ble_eq_true rfl) dX0_stepBack_7 rfl (fun r728 M729 h730 => ?_)
      obtain ⟨a732, rfl, rfl, h731⟩ := h730
      refine y_icmp_gt C 50 dX0_stepBack_10 (by decide) (by (clear fM726 hM726 ih723 hret C ha1 hpr hM0; omega)) (fun h733 => ?_) (fun h733 => ?_)
      · exact hret _ _ _ dX0_stepBack_50 ⟨hM726, (FX.rf.tr fM726 (by decide))⟩
      · refine j_aload_n C 0 0 dX0_stepBack_13 rfl rfl ?_
        refine y_getC C 0 96 fX0_stepBack_9 rfl rfl ft_0_1 sm_0_1 rfl hM726 dX0_stepBack_14 ?_
        refine j_iload_n C 2 2 dX0_stepBack_17 rfl rfl ?_
        refine j_aload_n C 0 0 dX0_stepBack_18 rfl rfl ?_
        refine y_getC C 0 88 fX0_stepBack_25 rfl rfl ft_0_0 sm_0_0 rfl hM726 dX0_stepBack_19 ?_
        refine j_iload_n C 2 2 dX0_stepBack_22 rfl rfl ?_
        refine j_callVi C (d := 0) (As := [.int (sI a725)]) (st := [.int (sI a725), .ref (ad 96)]) 88 (s_lt rfl rfl) (s_kc (c := 4) rfl rfl) (by decide) rfl (s1_X5_isMet hM726 a725 (by omega) (by exact ⟨h727.1, (by (clear fM726 hM726 ih723 hret C ha1 hpr hM0; omega))⟩)) gX0_stepBack_X5_isMet rfl hdX5_isMet (by decide) (Nat.le_of_ble_eq_true rfl) dX0_stepBack_23 rfl (fun r734 M735 h736 => ?_)
        obtain ⟨a738, rfl, rfl, h737⟩ := h736
        refine y_if_eq C 42 dX0_stepBack_26 (by decide) (by omega) (fun h739 => ?_) (fun h739 => ?_)
        · refine y_iconst C dX0_stepBack_42 ?_
          refine y_iastF C 43 256 rfl rfl rfl ak_43 an_43 rfl (sb_43 _) hM726 (PX.w hpr rfl rfl) dX0_stepBack_43 (by exact ⟨h727.1, (by (clear h739 h737 fM726 hM726 ih723 hret C ha1 hpr hM0; omega))⟩) (fun M740 eM740 hM740 => ?_)
          refine y_iinc C 2 [(2, .int (sI (a725 + 1))), (0, .ref (ad 95)), (1, .int (sI a1))] dX0_stepBack_44 rfl (by decide) rfl ?_
          refine j_goto C 2 dX0_stepBack_47 (by decide) ?_
          refine j_lv [1, 2, 0] rfl ?_; exact ih723 (a725 + 1) M740 (by (clear hM740 eM740 h739 h737 fM726 hM726 ih723 hret C ha1 hpr hM0; omega)) hM740 ((FX.rf.tr fM726 (by decide)).wI eM740 (by decide))
        · refine j_aload_n C 0 0 dX0_stepBack_29 rfl rfl ?_
          refine j_iload_n C 2 2 dX0_stepBack_30 rfl rfl ?_
          refine j_iload_n C 1 1 dX0_stepBack_31 rfl rfl ?_
          refine j_callVi C (d := 1) (As := [.int (sI a725), .int (sI a1)]) (st := [.int (sI a725), .ref (ad 96)]) 95 (s_lt rfl rfl) (s_kc (c := 0) rfl rfl) (by decide) rfl (s1_X0_fitting hM726 a725 (by omega) a1 (by exact ⟨ha1.1, ha1.2⟩) (by exact ⟨h727.1, (by (clear h739 h737 fM726 hM726 ih723 hret C ha1 hpr hM0; omega))⟩)) gX0_stepBack_X0_fitting rfl hdX0_fitting (by decide) (Nat.le_of_ble_eq_true rfl) dX0_stepBack_32 rfl (fun r741 M742 h743 => ?_)
          obtain ⟨a745, rfl, rfl, h744⟩ := h743
          refine y_if_eq C 42 dX0_stepBack_35 (by decide) (by omega) (fun h746 => ?_) (fun h746 => ?_)
          · refine y_iconst C dX0_stepBack_42 ?_
            refine y_iastF C 43 256 rfl rfl rfl ak_43 an_43 rfl (sb_43 _) hM726 (PX.w hpr rfl rfl) dX0_stepBack_43 (by exact ⟨h727.1, (by (clear h746 h744 h739 h737 fM726 hM726 ih723 hret C ha1 hpr hM0; omega))⟩) (fun M747 eM747 hM747 => ?_)
            refine y_iinc C 2 [(2, .int (sI (a725 + 1))), (0, .ref (ad 95)), (1, .int (sI a1))] dX0_stepBack_44 rfl (by decide) rfl ?_
            refine j_goto C 2 dX0_stepBack_47 (by decide) ?_
            refine j_lv [1, 2, 0] rfl ?_; exact ih723 (a725 + 1) M747 (by (clear hM747 eM747 h746 h744 h739 h737 fM726 hM726 ih723 hret C ha1 hpr hM0; omega)) hM747 ((FX.rf.tr fM726 (by decide)).wI eM747 (by decide))
          · refine y_iconst C dX0_stepBack_38 ?_
            refine j_goto C 43 dX0_stepBack_39 (by decide) ?_
            refine y_iastF C 43 256 rfl rfl rfl ak_43 an_43 rfl (sb_43 _) hM726 (PX.w hpr rfl rfl) dX0_stepBack_43 (by exact ⟨h727.1, (by omega)⟩) (fun M748 eM748 hM748 => ?_)
            refine y_iinc C 2 [(2, .int (sI (a725 + 1))), (0, .ref (ad 95)), (1, .int (sI a1))] dX0_stepBack_44 rfl (by decide) rfl ?_
            refine j_goto C 2 dX0_stepBack_47 (by decide) ?_
            refine j_lv [1, 2, 0] rfl ?_; exact ih723 (a725 + 1) M748 (by omega) hM748 ((FX.rf.tr fM726 (by decide)).wI eM748 (by decide))
  refine j_lv [1, 2, 0] rfl ?_; exact L724 2010 0 M0 (by exact ⟨(by decide), ⟨(by decide), (by decide)⟩⟩) hM0 FX.rf
set_option maxHeartbeats 4000000 in
theorem s2_X0_comers {l : Launch} {dC : Nat → ClassId} {dI : Nat → Nat → Nat} {ad : Nat → Nat} {cA : Nat → ClassId} {pr : Nat → Nat → Bool} {Kz : mm_M} {M0 : mm_M} (hM0 : INV pr Kz M0) (hpr : PX pr) {v1 : Nat} (cv1 : s_c v1 = 9) (a2 : Int) (ha2 : -2147483648 ≤ a2 ∧ a2 ≤ 2147483647) : Ci l 3 yX0_comers wsX0_comers dC dI ad cA [.ref (ad 95), .ref (ad v1), .int (sI a2)] M0 (fun r M' => ∃ a : Int, r = sI a ∧ INV pr Kz M' ∧ FX [88, 92, 93, 96] M0 M' ∧ 0 ≤ a ∧ a ≤ 63) := by
  refine ci_of (cc := cX0_comers) (maxL := 5) (ty := .int) (lv := [(0, .ref (ad 95)), (1, .ref (ad v1)), (2, .int (sI a2))]) (by decide) rfl (fun r M' hp => rfl) (Nat.le_of_ble_eq_true rfl) rfl ?_
  intro p e s m args below meth c A Q C hret
  refine j_aload_n C 0 0 dX0_comers_0 rfl rfl ?_
  refine y_getC C 0 96 fX0_comers_9 rfl rfl ft_0_1 sm_0_1 rfl hM0 dX0_comers_1 ?_
  refine y_iconst C dX0_comers_4 ?_
  refine j_callSv C (d := 0) (As := [.ref (ad 96), .int (sI 1)]) (st := []) (s8_J7_fill_53178 hM0 hpr 1 (by exact ⟨(by decide), (by decide)⟩)) gX0_comers_J7_fill_53178 rfl hdJ7_fill_53178s (by decide) (Nat.le_of_ble_eq_true rfl) dX0_comers_5 rfl (fun M102 h103 => ?_)
  obtain ⟨hM102, fM102, h104⟩ := h103
  refine j_aload_n C 1 1 dX0_comers_8 rfl rfl ?_
  refine j_callVi C (d := 1) (As := []) (st := []) v1 (s_lt cv1 rfl) (s_kc (c := 9) cv1 rfl) (by decide) rfl (s1_X10_size hM102 cv1) gX0_comers_X10_size rfl hdX10_size (by decide) (Nat.le_of_ble_eq_true rfl) dX0_comers_9 rfl (fun r105 M106 h107 => ?_)
  obtain ⟨a109, rfl, rfl, h108⟩ := h107
  refine y_iconst C dX0_comers_12 ?_
  refine y_isub C dX0_comers_13 ?_
  refine j_istore_n C 3 [(3, .int (sI (a109 - 1))), (0, .ref (ad 95)), (1, .ref (ad v1)), (2, .int (sI a2))] dX0_comers_14 rfl (by decide) rfl ?_
  have L164 : ∀ (n162 : Nat), ∀ (a165 : Int) (M166 : mm_M), ((-2147483648) ≤ a165 ∧ a165 ≤ 39 ∧ (a165 - (-2147483648)) < (n162 : Int)) → INV pr Kz M166 → FX [88, 92, 93, 96] M0 M166 → jj p l e (cn_R 3) s m args below meth c 0 0 Q 5 dC dI ad cA A M166 15 [(0, .ref (ad 95)), (1, .ref (ad v1)), (2, .int (sI a2)), (3, .int (sI a165))] [] := by
    intro n162
    induction n162 with
    | zero =>
      intro a165 M166 h167 hM166 fM166
      exfalso; omega
    | succ n162 ih163 =>
      intro a165 M166 h167 hM166 fM166
      refine j_iload_n C 3 3 dX0_comers_15 rfl rfl ?_
      refine j_iload_n C 2 2 dX0_comers_16 rfl rfl ?_
      refine y_icmp_le C 36 dX0_comers_17 (by decide) (by exact ⟨⟨h167.1, (by (clear fM166 hM166 ih163 h108 h104 fM102 hM102 hret C cv1 hpr hM0; omega))⟩, ⟨ha2.1, ha2.2⟩⟩) (fun h168 => ?_) (fun h168 => ?_)
      · refine j_aload_n C 0 0 dX0_comers_36 rfl rfl ?_
        refine y_getC C 0 88 fX0_comers_25 rfl rfl ft_0_0 sm_0_0 rfl hM166 dX0_comers_37 ?_
        refine j_callVv C (d := 1) (As := []) (st := []) 88 (s_lt rfl rfl) (s_kc (c := 4) rfl rfl) (by decide) rfl (s2_X5_beginRows hM166 hpr) gX0_comers_X5_beginRows rfl hdX5_beginRows (by decide) (Nat.le_of_ble_eq_true rfl) dX0_comers_40 rfl (fun M180 h181 => ?_)
        obtain ⟨hM180, fM180⟩ := h181
        refine y_iconst C dX0_comers_43 ?_
        refine j_istore_n C 3 [(3, .int (sI 0)), (0, .ref (ad 95)), (1, .ref (ad v1)), (2, .int (sI a2))] dX0_comers_44 rfl (by decide) rfl ?_
        have L627 : ∀ (n625 : Nat), ∀ (a628 : Int) (M629 : mm_M), (0 ≤ a628 ∧ a628 ≤ 2147483647 ∧ (2147483647 - a628) < (n625 : Int)) → INV pr Kz M629 → FX [88, 92, 93, 96] M0 M629 → jj p l e (cn_R 3) s m args below meth c 0 0 Q 5 dC dI ad cA A M629 45 [(0, .ref (ad 95)), (1, .ref (ad v1)), (2, .int (sI a2)), (3, .int (sI a628))] [] := by
          intro n625
          induction n625 with
          | zero =>
            intro a628 M629 h630 hM629 fM629
            exfalso; omega
          | succ n625 ih626 =>
            intro a628 M629 h630 hM629 fM629
            refine j_iload_n C 3 3 dX0_comers_45 rfl rfl ?_
            refine j_iload_n C 2 2 dX0_comers_46 rfl rfl ?_
            refine y_icmp_ge C 69 dX0_comers_47 (by decide) (by exact ⟨⟨(by (clear fM629 hM629 ih626 fM180 hM180 h168 fM166 hM166 h167 ih163 h108 h104 fM102 hM102 hret C cv1 hpr hM0; omega)), h630.2.1⟩, ⟨ha2.1, ha2.2⟩⟩) (fun h631 => ?_) (fun h631 => ?_)
            · refine y_iconst C dX0_comers_69 ?_
              refine j_istore_n C 3 [(3, .int (sI 0)), (0, .ref (ad 95)), (1, .ref (ad v1)), (2, .int (sI a2))] dX0_comers_70 rfl (by decide) rfl ?_
              refine y_iconst C dX0_comers_71 ?_
              refine j_istore C 4 [(4, .int (sI 0)), (3, .int (sI 0)), (0, .ref (ad 95)), (1, .ref (ad v1)), (2, .int (sI a2))] dX0_comers_72 (by decide) rfl ?_
              have L1346 : ∀ (n1344 : Nat), ∀ (a1347 : Int) (a1348 : Int), (0 ≤ a1347 ∧ a1347 ≤ 63 ∧ 0 ≤ a1348 ∧ a1348 ≤ 256 ∧ (256 - a1348) < (n1344 : Int)) → jj p l e (cn_R 3) s m args below meth c 0 0 Q 5 dC dI ad cA A M629 74 [(0, .ref (ad 95)), (1, .ref (ad v1)), (2, .int (sI a2)), (3, .int (sI a1347)), (4, .int (sI a1348))] [] := by
                intro n1344
                induction n1344 with
                | zero =>
                  intro a1347 a1348 h1349
                  exfalso; omega
                | succ n1344 ih1345 =>
                  intro a1347 a1348 h1349
                  refine j_iload C 4 dX0_comers_74 rfl ?_
                  refine j_aload_n C 0 0 dX0_comers_76 rfl rfl ?_
                  refine y_getC C 0 88 fX0_comers_25 rfl rfl ft_0_0 sm_0_0 rfl hM629 dX0_comers_77 ?_
                  refine j_callVi C (d := 0) (As := []) (st := [.int (sI a1348)]) 88 (s_lt rfl rfl) (s_kc (c := 4) rfl rfl) (by decide) rfl (s1_X5_everyKind hM629) gX0_comers_X5_everyKind rfl hdX5_everyKind (by decide) (Nat.le_of_ble_eq_true rfl) dX0_comers_80 rfl (fun r1350 M1351 h1352 => ?_)
                  obtain ⟨a1354, rfl, rfl, h1353⟩ := h1352
                  refine y_icmp_gt C 119 dX0_comers_83 (by decide) (by (clear ih1345 h631 fM629 hM629 h630 ih626 fM180 hM180 h168 fM166 hM166 h167 ih163 h108 h104 fM102 hM102 hret C ha2 cv1 hpr hM0; omega)) (fun h1355 => ?_) (fun h1355 => ?_)
                  · refine j_iload_n C 3 3 dX0_comers_119 rfl rfl ?_
                    exact hret _ _ _ _ dX0_comers_120 ⟨a1347, rfl, hM629, (FX.rf.tr fM629 (by decide)), by exact ⟨h1349.1, h1349.2.1⟩⟩
                  · refine j_aload_n C 0 0 dX0_comers_86 rfl rfl ?_
                    refine y_getC C 0 88 fX0_comers_25 rfl rfl ft_0_0 sm_0_0 rfl hM629 dX0_comers_87 ?_
                    refine j_iload C 4 dX0_comers_90 rfl ?_
                    refine j_callVi C (d := 0) (As := [.int (sI a1348)]) (st := []) 88 (s_lt rfl rfl) (s_kc (c := 4) rfl rfl) (by decide) rfl (s1_X5_isOnRow hM629 a1348 (by omega) (by exact ⟨h1349.2.2.1, (by (clear ih1345 h631 fM629 hM629 h630 ih626 fM180 hM180 h168 fM166 hM166 h167 ih163 h108 h104 fM102 hM102 hret C ha2 cv1 hpr hM0; omega))⟩)) gX0_comers_X5_isOnRow rfl hdX5_isOnRow (by decide) (Nat.le_of_ble_eq_true rfl) dX0_comers_92 rfl (fun r1356 M1357 h1358 => ?_)
                    obtain ⟨a1360, rfl, rfl, h1359⟩ := h1358
                    refine y_if_eq C 113 dX0_comers_95 (by decide) (by omega) (fun h1361 => ?_) (fun h1361 => ?_)
                    · refine y_iinc C 4 [(4, .int (sI (a1348 + 1))), (0, .ref (ad 95)), (1, .ref (ad v1)), (2, .int (sI a2)), (3, .int (sI a1347))] dX0_comers_113 rfl (by decide) rfl ?_
                      refine j_goto C 74 dX0_comers_116 (by decide) ?_
                      refine j_lv [1, 2, 3, 4, 0] rfl ?_; exact ih1345 a1347 (a1348 + 1) (by exact ⟨h1349.1, ⟨h1349.2.1, ⟨(by (clear h1361 h1359 ih1345 h631 fM629 hM629 h630 ih626 fM180 hM180 h168 fM166 hM166 h167 ih163 h108 h104 fM102 hM102 hret C ha2 cv1 hpr hM0; omega)), ⟨(by (clear h1361 h1359 ih1345 h631 fM629 hM629 h630 ih626 fM180 hM180 h168 fM166 hM166 h167 ih163 h108 h104 fM102 hM102 hret C ha2 cv1 hpr hM0; omega)), (by (clear h1361 h1359 ih1345 h631 fM629 hM629 h630 ih626 fM180 hM180 h168 fM166 hM166 h167 ih163 h108 h104 fM102 hM102 hret C ha2 cv1 hpr hM0; omega))⟩⟩⟩⟩)
                    · refine j_iload_n C 3 3 dX0_comers_98 rfl rfl ?_
                      refine j_aload_n C 0 0 dX0_comers_99 rfl rfl ?_
                      refine j_iload C 4 dX0_comers_100 rfl ?_
                      refine j_aload_n C 1 1 dX0_comers_102 rfl rfl ?_
                      refine j_iload_n C 2 2 dX0_comers_103 rfl rfl ?_
                      refine j_callVj C (d := 1) (As := [.int (sI a2)]) (st := [.int (sI a1348), .ref (ad 95), .int (sI a1347)]) v1 (s_lt cv1 rfl) (s_kc (c := 9) cv1 rfl) (by decide) rfl (s1_X10_numberAt hM629 cv1 a2 (by exact ⟨ha2.1, ha2.2⟩)) gX0_comers_X10_numberAt rfl hdX10_numberAt (by decide) (Nat.le_of_ble_eq_true rfl) dX0_comers_104 rfl (fun r1362 M1363 h1364 => ?_)
                      obtain ⟨a1366, rfl, rfl, h1365⟩ := h1364
                      refine y_l2i C dX0_comers_107 ?_
                      refine y_topI (fun a1367 la1367 ua1367 => ?_)
                      refine j_callVi C (d := 1) (As := [.int (sI a1348), .int (sI a1367)]) (st := [.int (sI a1347)]) 95 (s_lt rfl rfl) (s_kc (c := 0) rfl rfl) (by decide) rfl (s1_X0_fitting hM629 a1348 (by omega) a1367 (by exact ⟨la1367, ua1367⟩) (by exact ⟨h1349.2.2.1, (by (clear ua1367 la1367 h1365 h1361 h1359 ih1345 h631 fM629 hM629 h630 ih626 fM180 hM180 h168 fM166 hM166 h167 ih163 h108 h104 fM102 hM102 hret C ha2 cv1 hpr hM0; omega))⟩)) gX0_comers_X0_fitting rfl hdX0_fitting (by decide) (Nat.le_of_ble_eq_true rfl) dX0_comers_108 rfl (fun r1368 M1369 h1370 => ?_)
                      obtain ⟨a1372, rfl, rfl, h1371⟩ := h1370
                      refine y_iorN C 6 63 dX0_comers_111 rfl (by decide) (by exact ⟨h1349.1, ⟨h1349.2.1, ⟨h1371.1, h1371.2⟩⟩⟩) (fun a1373 la1373 ua1373 => ?_)
                      refine j_istore_n C 3 [(3, .int (sI a1373)), (0, .ref (ad 95)), (1, .ref (ad v1)), (2, .int (sI a2)), (4, .int (sI a1348))] dX0_comers_112 rfl (by decide) rfl ?_
                      refine y_iinc C 4 [(4, .int (sI (a1348 + 1))), (3, .int (sI a1373)), (0, .ref (ad 95)), (1, .ref (ad v1)), (2, .int (sI a2))] dX0_comers_113 rfl (by decide) rfl ?_
                      refine j_goto C 74 dX0_comers_116 (by decide) ?_
                      refine j_lv [2, 3, 4, 1, 0] rfl ?_; exact ih1345 a1373 (a1348 + 1) (by exact ⟨la1373, ⟨ua1373, ⟨(by (clear h1371 ua1367 la1367 h1365 h1361 h1359 ih1345 h631 fM629 hM629 h630 ih626 fM180 hM180 h168 fM166 hM166 h167 ih163 h108 h104 fM102 hM102 hret C ha2 cv1 hpr hM0; omega)), ⟨(by (clear h1371 ua1367 la1367 h1365 h1361 h1359 ih1345 h631 fM629 hM629 h630 ih626 fM180 hM180 h168 fM166 hM166 h167 ih163 h108 h104 fM102 hM102 hret C ha2 cv1 hpr hM0; omega)), (by (clear h1371 ua1367 la1367 h1365 h1361 h1359 ih1345 h631 fM629 hM629 h630 ih626 fM180 hM180 h168 fM166 hM166 h167 ih163 h108 h104 fM102 hM102 hret C ha2 cv1 hpr hM0; omega))⟩⟩⟩⟩)
              refine j_lv [2, 3, 4, 1, 0] rfl ?_; exact L1346 2010 0 0 (by exact ⟨(by decide), ⟨(by decide), ⟨(by decide), ⟨(by decide), (by decide)⟩⟩⟩⟩)
            · refine j_aload_n C 0 0 dX0_comers_50 rfl rfl ?_
              refine y_getC C 0 88 fX0_comers_25 rfl rfl ft_0_0 sm_0_0 rfl hM629 dX0_comers_51 ?_
              refine j_aload_n C 1 1 dX0_comers_54 rfl rfl ?_
              refine j_iload_n C 3 3 dX0_comers_55 rfl rfl ?_
              refine j_callVj C (d := 1) (As := [.int (sI a628)]) (st := [.ref (ad 88)]) v1 (s_lt cv1 rfl) (s_kc (c := 9) cv1 rfl) (by decide) rfl (s1_X10_numberAt hM629 cv1 a628 (by exact ⟨(by omega), h630.2.1⟩)) gX0_comers_X10_numberAt rfl hdX10_numberAt (by decide) (Nat.le_of_ble_eq_true rfl) dX0_comers_56 rfl (fun r632 M633 h634 => ?_)
              obtain ⟨a636, rfl, rfl, h635⟩ := h634
              refine y_l2i C dX0_comers_59 ?_
              refine y_topI (fun a637 la637 ua637 => ?_)
              refine j_callVv C (d := 1) (As := [.int (sI a637)]) (st := []) 88 (s_lt rfl rfl) (s_kc (c := 4) rfl rfl) (by decide) rfl (s2_X5_lengthenRows hM629 hpr a637 (by exact ⟨la637, ua637⟩)) gX0_comers_X5_lengthenRows rfl hdX5_lengthenRows (by decide) (Nat.le_of_ble_eq_true rfl) dX0_comers_60 rfl (fun M639 h640 => ?_)
              obtain ⟨hM639, fM639⟩ := h640
              refine y_iinc C 3 [(3, .int (sI (a628 + 1))), (0, .ref (ad 95)), (1, .ref (ad v1)), (2, .int (sI a2))] dX0_comers_63 rfl (by decide) rfl ?_
              refine j_goto C 45 dX0_comers_66 (by decide) ?_
              refine j_lv [1, 2, 3, 0] rfl ?_; exact ih626 (a628 + 1) M639 (by (clear fM639 hM639 ua637 la637 h635 fM629 hM629 ih626 fM180 hM180 h168 fM166 hM166 h167 ih163 h108 h104 fM102 hM102 hret C cv1 hpr hM0; omega)) hM639 ((FX.rf.tr fM629 (by decide)).tr fM639 (by decide))
        refine j_lv [1, 2, 3, 0] rfl ?_; exact L627 4294967304 0 M180 (by exact ⟨(by decide), ⟨(by decide), (by decide)⟩⟩) hM180 ((FX.rf.tr fM166 (by decide)).tr fM180 (by decide))
      · refine j_aload_n C 0 0 dX0_comers_20 rfl rfl ?_
        refine j_aload_n C 1 1 dX0_comers_21 rfl rfl ?_
        refine j_iload_n C 3 3 dX0_comers_22 rfl rfl ?_
        refine j_callVj C (d := 1) (As := [.int (sI a165)]) (st := [.ref (ad 95)]) v1 (s_lt cv1 rfl) (s_kc (c := 9) cv1 rfl) (by decide) rfl (s1_X10_numberAt hM166 cv1 a165 (by exact ⟨h167.1, (by omega)⟩)) gX0_comers_X10_numberAt rfl hdX10_numberAt (by decide) (Nat.le_of_ble_eq_true rfl) dX0_comers_23 rfl (fun r169 M170 h171 => ?_)
        obtain ⟨a173, rfl, rfl, h172⟩ := h171
        refine y_l2i C dX0_comers_26 ?_
        refine y_topI (fun a174 la174 ua174 => ?_)
        refine j_callVv C (d := 2) (As := [.int (sI a174)]) (st := []) 95 (s_lt rfl rfl) (s_kc (c := 0) rfl rfl) (by decide) rfl (s2_X0_stepBack hM166 hpr a174 (by exact ⟨la174, ua174⟩)) gX0_comers_X0_stepBack rfl hdX0_stepBack (by decide) (Nat.le_of_ble_eq_true rfl) dX0_comers_27 rfl (fun M176 h177 => ?_)
        obtain ⟨hM176, fM176⟩ := h177
        refine y_iinc C 3 [(3, .int (sI (a165 + (-1)))), (0, .ref (ad 95)), (1, .ref (ad v1)), (2, .int (sI a2))] dX0_comers_30 rfl (by decide) rfl ?_
        refine j_goto C 15 dX0_comers_33 (by decide) ?_
        refine j_lv [1, 2, 3, 0] rfl ?_; exact ih163 (a165 + (-1)) M176 (by (clear fM176 hM176 ua174 la174 h172 fM166 hM166 ih163 h108 h104 fM102 hM102 hret C cv1 hpr hM0; omega)) hM176 ((FX.rf.tr fM166 (by decide)).tr fM176 (by decide))
  refine j_lv [1, 2, 3, 0] rfl ?_; exact L164 4294967306 (a109 - 1) M102 (by (clear L164 h104 fM102 hM102 hret C ha2 cv1 hpr hM0; omega)) hM102 (FX.rf.tr fM102 (by decide))
set_option maxHeartbeats 4000000 in
theorem s2_X11_who {l : Launch} {dC : Nat → ClassId} {dI : Nat → Nat → Nat} {ad : Nat → Nat} {cA : Nat → ClassId} {pr : Nat → Nat → Bool} {Kz : mm_M} {M0 : mm_M} (hM0 : INV pr Kz M0) (hpr : PX pr) (a1 : Int) (ha1 : -2147483648 ≤ a1 ∧ a1 ≤ 2147483647) (a2 : Int) (ha2 : -2147483648 ≤ a2 ∧ a2 ≤ 2147483647) (gp : Nat) (cgp : s_c gp = 6) (egp : gp = M0.2.2 0 4) (hp0 : b01 (APX M0 gp) = 1) (hp1 : b01 (LAW M0 gp) = 1) (hp2 : b01 (PRR (rwX M0 gp 12)) = 1) (hp3 : (M0.1 12 3).toInt < pw2 (M0.1 12 0).toInt) : Ci l 6 yX11_who wsX11_who dC dI ad cA [.ref (ad 0), .int (sI a1), .int (sI a2)] M0 (fun r M' => ∃ a : Int, r = sI a ∧ INV pr Kz M' ∧ FX [81, 82, 83, 84, 85, 86, 88, 89, 90, 92, 93, 96] M0 M' ∧ (-7) ≤ a ∧ a ≤ 63 ∧ (b01 (APX M' gp) = 1)) := by
  refine ci_of (cc := cX11_who) (maxL := 4) (ty := .int) (lv := [(0, .ref (ad 0)), (1, .int (sI a1)), (2, .int (sI a2))]) (by decide) rfl (fun r M' hp => rfl) (Nat.le_of_ble_eq_true rfl) rfl ?_
  intro p e s m args below meth c A Q C hret
  refine j_aload_n C 0 0 dX11_who_0 rfl rfl ?_
  refine j_iload_n C 1 1 dX11_who_1 rfl rfl ?_
  refine j_callVi C (d := 2) (As := [.int (sI a1)]) (st := []) 0 (s_lt rfl rfl) (s_kc (c := 10) rfl rfl) (by decide) rfl (s1_X11_cameRefusal hM0 a1 (by exact ⟨ha1.1, ha1.2⟩)) gX11_who_X11_cameRefusal rfl hdX11_cameRefusal (by decide) (Nat.le_of_ble_eq_true rfl) dX11_who_2 rfl (fun r102 M103 h104 => ?_)
  obtain ⟨a106, rfl, rfl, h105⟩ := h104
  refine j_istore_n C 3 [(3, .int (sI a106)), (0, .ref (ad 0)), (1, .int (sI a1)), (2, .int (sI a2))] dX11_who_5 rfl (by decide) rfl ?_
  refine j_iload_n C 0 3 dX11_who_6 rfl rfl ?_
  refine y_if_eq C 12 dX11_who_7 (by decide) (by omega) (fun h107 => ?_) (fun h107 => ?_)
  · refine j_aload_n C 1 0 dX11_who_12 rfl rfl ?_
    refine y_getC C 10 50 fX11_who_52 rfl rfl ft_10_9 sm_10_9 rfl hM0 dX11_who_13 ?_
    refine j_iload_n C 2 1 dX11_who_16 rfl rfl ?_
    refine y_aald C 28 4 9 rfl rfl rfl rfl an_28 rfl sma_28 sta_28 (by decide) hM0 dX11_who_17 (by (clear hret C hp3 hp2 hp1 hp0 egp cgp ha2 hpr hM0; omega)) (fun v108 cv108 => ?_)
    refine j_iload_n C 3 2 dX11_who_18 rfl rfl ?_
    refine j_callVi C (d := 0) (As := [.int (sI a2)]) (st := []) v108 (s_lt cv108 rfl) (s_kc (c := 9) cv108 rfl) (by decide) rfl (s1_X10_has hM0 cv108 a2 (by exact ⟨ha2.1, ha2.2⟩)) gX11_who_X10_has rfl hdX10_has (by decide) (Nat.le_of_ble_eq_true rfl) dX11_who_19 rfl (fun r109 M110 h111 => ?_)
    obtain ⟨a113, rfl, rfl, h112⟩ := h111
    refine y_if_ne C 28 dX11_who_22 (by decide) (by (clear cv108 h107 h105 hret C hp3 hp2 hp1 hp0 egp cgp ha2 ha1 hpr hM0; omega)) (fun h114 => ?_) (fun h114 => ?_)
    · refine j_aload_n C 1 0 dX11_who_28 rfl rfl ?_
      refine y_getC C 10 88 fX11_who_94 rfl rfl ft_10_14 sm_10_14 rfl hM0 dX11_who_29 ?_
      refine j_aload_n C 1 0 dX11_who_32 rfl rfl ?_
      refine y_getV C 10 gp fX11_who_26 rfl rfl ft_10_4 (egp) dX11_who_33 ?_
      refine j_aload_n C 1 0 dX11_who_36 rfl rfl ?_
      refine y_getC C 10 12 fX11_who_36 rfl rfl ft_10_6 sm_10_6 rfl hM0 dX11_who_37 ?_
      refine j_aload_n C 1 0 dX11_who_40 rfl rfl ?_
      refine y_getC C 10 12 fX11_who_36 rfl rfl ft_10_6 sm_10_6 rfl hM0 dX11_who_41 ?_
      refine y_getI C 8 _ _ fX11_who_153 rfl rfl ft_8_4 sb_8_4 hM0 dX11_who_44 (fun a115 ea115 la115 ua115 => ?_)
      refine j_callVv C (d := 5) (As := [.ref (ad gp), .ref (ad 12), .int (sI a115)]) (st := []) 88 (s_lt rfl rfl) (s_kc (c := 4) rfl rfl) (by decide) rfl (s2_X5_look hM0 hpr cgp a115 (by (clear h114 h112 cv108 h107 h105 hret C hp3 hp2 hp1 hp0 egp cgp ha2 ha1 hpr hM0; omega)) (by exact hp0) (by exact hp1) (by exact hp2) (by exact hp3) (by exact ⟨la115, ua115⟩)) gX11_who_X5_look rfl hdX5_look (by decide) (Nat.le_of_ble_eq_true rfl) dX11_who_47 rfl (fun M119 h120 => ?_)
      obtain ⟨hM119, fM119, h121⟩ := h120
      have u122a := tn_a (M := M119) (p := gp) (f := rwX M0 gp 12) (by exact h121.2.1)
      refine j_aload_n C 1 0 dX11_who_50 rfl rfl ?_
      refine y_getC C 10 95 fX11_who_103 rfl rfl ft_10_15 sm_10_15 rfl hM119 dX11_who_51 ?_
      refine j_aload_n C 1 0 dX11_who_54 rfl rfl ?_
      refine y_getC C 10 50 fX11_who_52 rfl rfl ft_10_9 sm_10_9 rfl hM119 dX11_who_55 ?_
      refine j_iload_n C 2 1 dX11_who_58 rfl rfl ?_
      refine y_aald C 28 4 9 rfl rfl rfl rfl an_28 rfl sma_28 sta_28 (by decide) hM119 dX11_who_59 (by (clear u122a h121 fM119 hM119 ua115 la115 ea115 cv108 hret C hp3 hp2 hp1 hp0 egp cgp ha2 hpr hM0; omega)) (fun v123 cv123 => ?_)
      refine j_iload_n C 3 2 dX11_who_60 rfl rfl ?_
      refine j_callVi C (d := 3) (As := [.ref (ad v123), .int (sI a2)]) (st := []) 95 (s_lt rfl rfl) (s_kc (c := 0) rfl rfl) (by decide) rfl (s2_X0_comers hM119 hpr cv123 a2 (by exact ⟨ha2.1, ha2.2⟩)) gX11_who_X0_comers rfl hdX0_comers (by decide) (Nat.le_of_ble_eq_true rfl) dX11_who_61 rfl (fun r124 M125 h126 => ?_)
      obtain ⟨a128, rfl, hM125, fM125, h127⟩ := h126
      have u129A7 := hM119.rd (i := gp) (c := 6) (k := 7) cgp (show s_b 6 7 = (0, 900) from rfl)
      have u129A9 := hM119.rd (i := gp) (c := 6) (k := 9) cgp (show s_b 6 9 = (0, 900) from rfl)
      have u129A := apx_o (M := M119) (N := M125) (p := gp) (ple_f (p := gp) ((FX.rf.tr fM125 (by decide)) : FX [88, 92, 93, 96] M119 M125) cgp (by decide)) (((FX.rf.tr fM125 (by decide)) : FX [88, 92, 93, 96] M119 M125).cell (by decide)) (((FX.rf.tr fM125 (by decide)) : FX [88, 92, 93, 96] M119 M125).cell (by decide)) (((FX.rf.tr fM125 (by decide)) : FX [88, 92, 93, 96] M119 M125).cell (by decide)) u129A7.1 u129A9.1 (by exact u122a)
      exact hret _ _ _ _ dX11_who_64 ⟨a128, rfl, hM125, ((FX.rf.tr fM119 (by decide)).tr fM125 (by decide)), by exact ⟨(by (clear u129A9 u129A7 fM125 hM125 cv123 u122a h121 fM119 hM119 ua115 la115 ea115 h114 h112 cv108 h107 h105 hret C hp3 hp2 hp1 hp0 egp cgp ha2 ha1 hpr hM0; omega)), ⟨h127.2, u129A⟩⟩⟩
    · refine y_bipush C dX11_who_25 rfl ?_
      exact hret _ _ _ _ dX11_who_27 ⟨(-7), rfl, hM0, FX.rf, by exact ⟨(by decide), ⟨(by decide), hp0⟩⟩⟩
  · refine j_iload_n C 0 3 dX11_who_10 rfl rfl ?_
    exact hret _ _ _ _ dX11_who_11 ⟨a106, rfl, hM0, FX.rf, by exact ⟨(by (clear h107 hret C hp3 hp2 hp1 egp cgp ha2 ha1 hpr hM0; omega)), ⟨(by (clear h107 hret C hp3 hp2 hp1 egp cgp ha2 ha1 hpr hM0; omega)), hp0⟩⟩⟩
set_option maxHeartbeats 4000000 in
theorem s2_X5_neededBuyers {l : Launch} {dC : Nat → ClassId} {dI : Nat → Nat → Nat} {ad : Nat → Nat} {cA : Nat → ClassId} {pr : Nat → Nat → Bool} {Kz : mm_M} {M0 : mm_M} (hM0 : INV pr Kz M0) (hpr : PX pr) (gp : Nat) (cgp : s_c gp = 6) (egp : gp = M0.2.2 88 9) (f : Nat → Int32) (hp0 : b01 (LKP M0 gp f) = 1) : Ci l 3 yX5_neededBuyers wsX5_neededBuyers dC dI ad cA [.ref (ad 88)] M0 (fun r M' => ∃ a : Int, r = sI a ∧ INV pr Kz M' ∧ FX [91] M0 M' ∧ 0 ≤ a ∧ a ≤ 63 ∧ (a = (ndA f))) := by
  refine ci_of (cc := cX5_neededBuyers) (maxL := 4) (ty := .int) (lv := [(0, .ref (ad 88))]) (by decide) rfl (fun r M' hp => rfl) (Nat.le_of_ble_eq_true rfl) rfl ?_
  intro p e s m args below meth c A Q C hret
  have u101e := lkp_e (M := M0) (p := gp) (f := f) (by exact hp0)
  have u101z : ndF f (0 : Int).toNat = 0 := rfl
  have u101s := ndA_s f
  refine y_iconst C dX5_neededBuyers_0 ?_
  refine j_istore_n C 1 [(1, .int (sI 0)), (0, .ref (ad 88))] dX5_neededBuyers_1 rfl (by decide) rfl ?_
  refine y_iconst C dX5_neededBuyers_2 ?_
  refine j_aload_n C 1 0 dX5_neededBuyers_3 rfl rfl ?_
  refine y_getV C 4 gp fX5_neededBuyers_52 rfl rfl ft_4_9 (egp) dX5_neededBuyers_4 ?_
  refine y_getI C 6 _ _ fX5_neededBuyers_92 cgp rfl ft_6_0 sb_6_0 hM0 dX5_neededBuyers_7 (fun a102 ea102 la102 ua102 => ?_)
  obtain rfl : a102 = (M0.1 gp 0).toInt := ea102
  refine e_shl1 C 6 64 dX5_neededBuyers_10 rfl (by decide) (by exact ⟨la102, (by (clear ua102 la102 u101s u101z hret C hp0 egp cgp hpr hM0; omega))⟩) (fun lb104 ub104 => ?_)
  refine y_iconst C dX5_neededBuyers_11 ?_
  refine y_isub C dX5_neededBuyers_12 ?_
  refine j_istore_n C 2 [(2, .int (sI ((pw2 (M0.1 gp 0).toInt) - 1))), (1, .int (sI 0)), (0, .ref (ad 88))] dX5_neededBuyers_13 rfl (by decide) rfl ?_
  refine j_aload_n C 2 0 dX5_neededBuyers_14 rfl rfl ?_
  refine j_iload_n C 0 2 dX5_neededBuyers_15 rfl rfl ?_
  have u105d : b01 (CMB ((pw2 (M0.1 gp 0).toInt) - 1) (-1) (f 1).toInt) = 1 := cmb_all (by exact ⟨u101e.2.1.2.2.1.1, u101e.2.1.2.2.1.2⟩) (by rw [show (M0.1 gp 0).toInt = (f 1).toInt by exact u101e.1.2.2.2.2])
  have u105p : pw2 (M0.1 gp 0).toInt = pw2 (f 1).toInt := by rw [show (M0.1 gp 0).toInt = (f 1).toInt by exact u101e.1.2.2.2.2]
  refine j_callVi C (d := 2) (As := [.int (sI ((pw2 (M0.1 gp 0).toInt) - 1))]) (st := []) 88 (s_lt rfl rfl) (s_kc (c := 4) rfl rfl) (by decide) rfl (s2_X5_measure hM0 hpr ((pw2 (M0.1 gp 0).toInt) - 1) (by (clear u105d ua102 la102 u101s u101z u101e hret C hp0 egp cgp hpr hM0; omega)) gp cgp (egp) f (-1) (by exact hp0) (by exact u105d)) gX5_neededBuyers_X5_measure rfl hdX5_measure (by decide) (Nat.le_of_ble_eq_true rfl) dX5_neededBuyers_16 rfl (fun r106 M107 h108 => ?_)
  obtain ⟨a110, rfl, hM107, fM107, h109⟩ := h108
  refine y_iconst C dX5_neededBuyers_19 ?_
  refine y_icmp_ne C 25 dX5_neededBuyers_20 (by decide) (by exact ⟨⟨(by (clear fM107 hM107 u105p u105d ub104 lb104 ua102 la102 u101s u101z u101e hret C hp0 egp cgp hpr hM0; omega)), (by (clear fM107 hM107 u105p u105d ub104 lb104 ua102 la102 u101s u101z u101e hret C hp0 egp cgp hpr hM0; omega))⟩, ⟨(by decide), (by decide)⟩⟩) (fun h111 => ?_) (fun h111 => ?_)
  · refine y_iconst C dX5_neededBuyers_25 ?_
    refine j_istore_n C 3 [(3, .int (sI 0)), (2, .int (sI ((pw2 (M0.1 gp 0).toInt) - 1))), (1, .int (sI 0)), (0, .ref (ad 88))] dX5_neededBuyers_26 rfl (by decide) rfl ?_
    have u112l := lkp_c (M := M0) (N := M107) (p := gp) (f := f) (by exact hp0) ((FX.rf.tr fM107 (by decide)) : FX [91] M0 M107) cgp (by decide)
    have L136 : ∀ (n134 : Nat), ∀ (a137 : Int) (a138 : Int) (M139 : mm_M), (0 ≤ a137 ∧ a137 ≤ 63 ∧ 0 ≤ a138 ∧ a138 ≤ 6 ∧ (b01 (LKP M139 gp f) = 1) ∧ (a137 = ndF f (a138).toNat) ∧ (a138 ≤ (f 1).toInt) ∧ (((pw2 (M0.1 gp 0).toInt) - 1) = pw2 (f 1).toInt - 1) ∧ (¬ enF f (-1) = -1) ∧ (6 - a138) < (n134 : Int)) → INV pr Kz M139 → FX [91] M0 M139 → jj p l e (cn_R 3) s m args below meth c 0 0 Q 4 dC dI ad cA A M139 27 [(0, .ref (ad 88)), (1, .int (sI a137)), (2, .int (sI ((pw2 (M0.1 gp 0).toInt) - 1))), (3, .int (sI a138))] [] := by
      intro n134
      induction n134 with
      | zero =>
        intro a137 a138 M139 h140 hM139 fM139
        exfalso; omega
      | succ n134 ih135 =>
        intro a137 a138 M139 h140 hM139 fM139
        have u141e := lkp_e (M := M139) (p := gp) (f := f) (by exact h140.2.2.2.2.1)
        have e88M139 : gp = M139.2.2 88 9 := u141e.1.1.symm
        refine j_iload_n C 3 3 dX5_neededBuyers_27 rfl rfl ?_
        refine j_aload_n C 0 0 dX5_neededBuyers_28 rfl rfl ?_
        refine y_getV C 4 gp fX5_neededBuyers_52 rfl rfl ft_4_9 (e88M139) dX5_neededBuyers_29 ?_
        refine y_getI C 6 _ _ fX5_neededBuyers_92 cgp rfl ft_6_0 sb_6_0 hM139 dX5_neededBuyers_32 (fun a142 ea142 la142 ua142 => ?_)
        obtain rfl : a142 = (M0.1 gp 0).toInt := s_fX fM139 (s_nin cgp (by decide)) (ea142)
        refine y_icmp_ge C 65 dX5_neededBuyers_35 (by decide) (by (clear ua142 la142 ea142 e88M139 fM139 hM139 ih135 u112l h111 h109 fM107 hM107 u105p u105d ub104 lb104 ua102 la102 u101s u101z hret C hp0 egp cgp hpr hM0; omega)) (fun h144 => ?_) (fun h144 => ?_)
        · have u159x : a138 = (f 1).toInt := by (clear ua142 la142 ea142 e88M139 fM139 hM139 ih135 u112l h111 h109 fM107 hM107 u105p u105d ub104 lb104 ua102 la102 u101s u101z hret C hp0 egp cgp hpr hM0; omega)
          have u159y : ndF f (a138).toNat = ndF f (f 1).toInt.toNat := by rw [u159x]
          have u159s := ndA_s f
          refine j_iload_n C 1 1 dX5_neededBuyers_65 rfl rfl ?_
          exact hret _ _ _ _ dX5_neededBuyers_66 ⟨a137, rfl, hM139, (FX.rf.tr fM139 (by decide)), by exact ⟨h140.1, ⟨h140.2.1, (by (clear u159x h144 ua142 la142 ea142 e88M139 u141e fM139 hM139 ih135 u112l h111 h109 fM107 hM107 u105p u105d ub104 lb104 ua102 la102 u101s u101z u101e hret C hp0 egp cgp hpr hM0; omega))⟩⟩⟩
        · refine j_aload_n C 0 0 dX5_neededBuyers_38 rfl rfl ?_
          refine j_iload_n C 2 2 dX5_neededBuyers_39 rfl rfl ?_
          refine y_iconst C dX5_neededBuyers_40 ?_
          refine j_iload_n C 3 3 dX5_neededBuyers_41 rfl rfl ?_
          refine e_shl1 C 5 32 dX5_neededBuyers_42 rfl (by decide) (by exact ⟨h140.2.2.1, (by (clear ua142 la142 ea142 e88M139 fM139 hM139 ih135 u112l h111 h109 fM107 hM107 u105p u105d ub104 lb104 ua102 la102 u101s u101z hret C hp0 egp cgp hpr hM0; omega))⟩) (fun lb145 ub145 => ?_)
          refine y_iconst C dX5_neededBuyers_43 ?_
          refine y_not C dX5_neededBuyers_44 ?_
          refine e_iandL C dX5_neededBuyers_45 (by (clear ub145 lb145 h144 ua142 la142 ea142 e88M139 u141e fM139 hM139 h140 ih135 u112l h111 h109 fM107 hM107 u105d ua102 la102 u101s u101z u101e hret C hp0 egp cgp hpr hM0; omega)) (fun lb146 ub146 => ?_)
          have u147d : b01 (CMB (andI ((pw2 (M0.1 gp 0).toInt) - 1) ((-1) - (pw2 a138))) a138 (f 1).toInt) = 1 := cmb_but (by exact ⟨u101e.2.1.2.2.1.1, u101e.2.1.2.2.1.2⟩) (by exact ⟨h140.2.2.1, (by (clear ub146 lb146 ub145 lb145 ua142 la142 ea142 e88M139 fM139 hM139 ih135 u112l h111 h109 fM107 hM107 u105p u105d ub104 lb104 ua102 la102 u101s u101z hret C hp0 egp cgp hpr hM0; omega))⟩) (by rw [show ((pw2 (M0.1 gp 0).toInt) - 1) = pw2 (f 1).toInt - 1 by exact h140.2.2.2.2.2.2.2.1])
          refine j_callVi C (d := 2) (As := [.int (sI (andI ((pw2 (M0.1 gp 0).toInt) - 1) ((-1) - (pw2 a138))))]) (st := []) 88 (s_lt rfl rfl) (s_kc (c := 4) rfl rfl) (by decide) rfl (s2_X5_measure hM139 hpr (andI ((pw2 (M0.1 gp 0).toInt) - 1) ((-1) - (pw2 a138))) (by (clear u147d ub145 lb145 h144 ua142 la142 ea142 e88M139 u141e fM139 hM139 h140 ih135 u112l h111 h109 fM107 hM107 u105d ua102 la102 u101s u101z u101e hret C hp0 egp cgp hpr hM0; omega)) gp cgp (e88M139) f a138 (by exact h140.2.2.2.2.1) (by exact u147d)) gX5_neededBuyers_X5_measure rfl hdX5_measure (by decide) (Nat.le_of_ble_eq_true rfl) dX5_neededBuyers_46 rfl (fun r148 M149 h150 => ?_)
          obtain ⟨a152, rfl, hM149, fM149, h151⟩ := h150
          have u153s := nd_s f (x := a138) (x' := a138 + 1) (a := a137) (by exact h140.2.2.1) rfl (by exact h140.2.2.2.2.2.1)
          have u153o := or_0 a137 (by (clear u153s h151 fM149 hM149 u147d ub146 lb146 ub145 lb145 h144 ua142 la142 ea142 e88M139 u141e fM139 hM139 ih135 u112l h111 h109 fM107 hM107 u105p u105d ub104 lb104 ua102 la102 u101s u101z u101e hret C hp0 egp cgp hpr hM0; omega))
          refine y_iconst C dX5_neededBuyers_49 ?_
          refine y_icmp_ne C 59 dX5_neededBuyers_50 (by decide) (by exact ⟨⟨(by (clear u153o u153s fM149 hM149 u147d ub146 lb146 ub145 lb145 h144 ua142 la142 ea142 e88M139 u141e fM139 hM139 h140 ih135 u112l h111 h109 fM107 hM107 u105p u105d ub104 lb104 ua102 la102 u101s u101z u101e hret C hp0 egp cgp hpr hM0; omega)), (by (clear u153o u153s fM149 hM149 u147d ub146 lb146 ub145 lb145 h144 ua142 la142 ea142 e88M139 u141e fM139 hM139 h140 ih135 u112l h111 h109 fM107 hM107 u105p u105d ub104 lb104 ua102 la102 u101s u101z u101e hret C hp0 egp cgp hpr hM0; omega))⟩, ⟨(by decide), (by decide)⟩⟩) (fun h154 => ?_) (fun h154 => ?_)
          · refine y_iinc C 3 [(3, .int (sI (a138 + 1))), (0, .ref (ad 88)), (1, .int (sI a137)), (2, .int (sI ((pw2 (M0.1 gp 0).toInt) - 1)))] dX5_neededBuyers_59 rfl (by decide) rfl ?_
            refine j_goto C 27 dX5_neededBuyers_62 (by decide) ?_
            have u155l := lkp_c (M := M139) (N := M149) (p := gp) (f := f) (by exact h140.2.2.2.2.1) ((FX.rf.tr fM149 (by decide)) : FX [91] M139 M149) cgp (by decide)
            refine j_lv [1, 2, 3, 0] rfl ?_; exact ih135 a137 (a138 + 1) M149 (by exact ⟨h140.1, ⟨h140.2.1, ⟨(by (clear fM149 hM149 u147d ub146 lb146 ub145 lb145 ua142 la142 ea142 e88M139 fM139 hM139 ih135 u112l h111 h109 fM107 hM107 u105d ub104 lb104 ua102 la102 u101s u101z hret C hp0 egp cgp hpr hM0; omega)), ⟨(by (clear fM149 hM149 u147d ub146 lb146 ub145 lb145 ua142 la142 ea142 e88M139 fM139 hM139 ih135 u112l h111 h109 fM107 hM107 u105d ub104 lb104 ua102 la102 u101s u101z hret C hp0 egp cgp hpr hM0; omega)), ⟨u155l, ⟨(by (clear fM149 hM149 u147d ub146 lb146 ub145 lb145 ua142 la142 ea142 e88M139 fM139 hM139 ih135 u112l h111 h109 fM107 hM107 u105d ub104 lb104 ua102 la102 u101s u101z hret C hp0 egp cgp hpr hM0; omega)), ⟨(by (clear fM149 hM149 u147d ub146 lb146 ub145 lb145 ua142 la142 ea142 e88M139 fM139 hM139 ih135 u112l h111 h109 fM107 hM107 u105d ub104 lb104 ua102 la102 u101s u101z hret C hp0 egp cgp hpr hM0; omega)), ⟨h140.2.2.2.2.2.2.2.1, ⟨h140.2.2.2.2.2.2.2.2.1, (by (clear fM149 hM149 u147d ub146 lb146 ub145 lb145 ua142 la142 ea142 e88M139 fM139 hM139 ih135 u112l h111 h109 fM107 hM107 u105d ub104 lb104 ua102 la102 u101s u101z hret C hp0 egp cgp hpr hM0; omega))⟩⟩⟩⟩⟩⟩⟩⟩⟩) hM149 ((FX.rf.tr fM139 (by decide)).tr fM149 (by decide))
          · refine j_iload_n C 1 1 dX5_neededBuyers_53 rfl rfl ?_
            refine y_iconst C dX5_neededBuyers_54 ?_
            refine j_iload_n C 3 3 dX5_neededBuyers_55 rfl rfl ?_
            refine e_shl1 C 5 32 dX5_neededBuyers_56 rfl (by decide) (by exact ⟨h140.2.2.1, (by (clear h154 u153o u153s h151 fM149 hM149 u147d ub146 lb146 ub145 lb145 ua142 la142 ea142 e88M139 fM139 hM139 ih135 u112l h111 h109 fM107 hM107 u105p u105d ub104 lb104 ua102 la102 u101s u101z hret C hp0 egp cgp hpr hM0; omega))⟩) (fun lb156 ub156 => ?_)
            refine e_iorN C 6 63 dX5_neededBuyers_57 rfl (by decide) (by exact ⟨h140.1, ⟨h140.2.1, ⟨(by (clear ub156 lb156 h154 u153s h151 fM149 hM149 u147d ub146 lb146 h144 ua142 la142 ea142 e88M139 u141e fM139 hM139 ih135 u112l h111 h109 fM107 hM107 u105p u105d ub104 lb104 ua102 la102 u101s u101z u101e hret C hp0 egp cgp hpr hM0; omega)), (by (clear ub156 lb156 h154 u153s h151 fM149 hM149 u147d ub146 lb146 h144 ua142 la142 ea142 e88M139 u141e fM139 hM139 ih135 u112l h111 h109 fM107 hM107 u105p u105d ub104 lb104 ua102 la102 u101s u101z u101e hret C hp0 egp cgp hpr hM0; omega))⟩⟩⟩) (fun lb157 ub157 ob157 => ?_)
            refine j_istore_n C 1 [(1, .int (sI (orI a137 (pw2 a138)))), (0, .ref (ad 88)), (2, .int (sI ((pw2 (M0.1 gp 0).toInt) - 1))), (3, .int (sI a138))] dX5_neededBuyers_58 rfl (by decide) rfl ?_
            refine y_iinc C 3 [(3, .int (sI (a138 + 1))), (1, .int (sI (orI a137 (pw2 a138)))), (0, .ref (ad 88)), (2, .int (sI ((pw2 (M0.1 gp 0).toInt) - 1)))] dX5_neededBuyers_59 rfl (by decide) rfl ?_
            refine j_goto C 27 dX5_neededBuyers_62 (by decide) ?_
            have u158l := lkp_c (M := M139) (N := M149) (p := gp) (f := f) (by exact h140.2.2.2.2.1) ((FX.rf.tr fM149 (by decide)) : FX [91] M139 M149) cgp (by decide)
            refine j_lv [2, 1, 3, 0] rfl ?_; exact ih135 (orI a137 (pw2 a138)) (a138 + 1) M149 (by exact ⟨lb157, ⟨ub157, ⟨(by (clear ub156 lb156 fM149 hM149 u147d ub146 lb146 ub145 lb145 ua142 la142 ea142 e88M139 fM139 hM139 ih135 u112l h111 h109 fM107 hM107 u105d ub104 lb104 ua102 la102 u101s u101z hret C hp0 egp cgp hpr hM0; omega)), ⟨(by (clear ub156 lb156 fM149 hM149 u147d ub146 lb146 ub145 lb145 ua142 la142 ea142 e88M139 fM139 hM139 ih135 u112l h111 h109 fM107 hM107 u105d ub104 lb104 ua102 la102 u101s u101z hret C hp0 egp cgp hpr hM0; omega)), ⟨u158l, ⟨(by (clear ub156 lb156 fM149 hM149 u147d ub146 lb146 ub145 lb145 ua142 la142 ea142 e88M139 fM139 hM139 ih135 u112l h111 h109 fM107 hM107 u105d ub104 lb104 ua102 la102 u101s u101z hret C hp0 egp cgp hpr hM0; omega)), ⟨(by (clear ub156 lb156 fM149 hM149 u147d ub146 lb146 ub145 lb145 ua142 la142 ea142 e88M139 fM139 hM139 ih135 u112l h111 h109 fM107 hM107 u105d ub104 lb104 ua102 la102 u101s u101z hret C hp0 egp cgp hpr hM0; omega)), ⟨h140.2.2.2.2.2.2.2.1, ⟨h140.2.2.2.2.2.2.2.2.1, (by (clear ub156 lb156 fM149 hM149 u147d ub146 lb146 ub145 lb145 ua142 la142 ea142 e88M139 fM139 hM139 ih135 u112l h111 h109 fM107 hM107 u105d ub104 lb104 ua102 la102 u101s u101z hret C hp0 egp cgp hpr hM0; omega))⟩⟩⟩⟩⟩⟩⟩⟩⟩) hM149 ((FX.rf.tr fM139 (by decide)).tr fM149 (by decide))
    refine j_lv [3, 2, 1, 0] rfl ?_; exact L136 2010 0 0 M107 (by exact ⟨(by decide), ⟨(by decide), ⟨(by decide), ⟨(by decide), ⟨u112l, ⟨u101z.symm, ⟨u101e.2.1.2.2.1.1, ⟨(by (clear L136 fM107 hM107 u105d ub104 lb104 ua102 la102 u101s hret C hp0 egp cgp hpr hM0; omega)), ⟨(by (clear L136 fM107 hM107 u105d ub104 lb104 ua102 la102 u101s hret C hp0 egp cgp hpr hM0; omega)), (by decide)⟩⟩⟩⟩⟩⟩⟩⟩⟩) hM107 (FX.rf.tr fM107 (by decide))
  · refine j_iload_n C 1 1 dX5_neededBuyers_23 rfl rfl ?_
    exact hret _ _ _ _ dX5_neededBuyers_24 ⟨0, rfl, hM107, (FX.rf.tr fM107 (by decide)), by exact ⟨(by decide), ⟨(by decide), (by (clear fM107 hM107 u105p u105d ub104 lb104 ua102 la102 u101z u101e hret C hp0 egp cgp hpr hM0; omega))⟩⟩⟩
end
section
set_option maxHeartbeats 4000000 in
theorem s2_X11_needed {l : Launch} {dC : Nat → ClassId} {dI : Nat → Nat → Nat} {ad : Nat → Nat} {cA : Nat → ClassId} {pr : Nat → Nat → Bool} {Kz : mm_M} {M0 : mm_M} (hM0 : INV pr Kz M0) (hpr : PX pr) (gp : Nat) (cgp : s_c gp = 6) (egp : gp = M0.2.2 0 4) (hp0 : b01 (APX M0 gp) = 1) (hp1 : b01 (LAW M0 gp) = 1) (hp2 : b01 (PRR (rwX M0 gp 12)) = 1) (hp3 : (M0.1 12 3).toInt < pw2 (M0.1 12 0).toInt) : Ci l 6 yX11_needed wsX11_needed dC dI ad cA [.ref (ad 0)] M0 (fun r M' => ∃ a : Int, r = sI a ∧ INV pr Kz M' ∧ FX [81, 82, 83, 84, 85, 86, 88, 89, 90, 91] M0 M' ∧ 0 ≤ a ∧ a ≤ 63 ∧ (a = ndA (rwX M0 gp 12)) ∧ (b01 (APX M' gp) = 1)) := by
  refine ci_of (cc := cX11_needed) (maxL := 1) (ty := .int) (lv := [(0, .ref (ad 0))]) (by decide) rfl (fun r M' hp => rfl) (Nat.le_of_ble_eq_true rfl) rfl ?_
  intro p e s m args below meth c A Q C hret
  refine j_aload_n C 0 0 dX11_needed_0 rfl rfl ?_
  refine y_getC C 10 88 fX11_needed_94 rfl rfl ft_10_14 sm_10_14 rfl hM0 dX11_needed_1 ?_
  refine j_aload_n C 0 0 dX11_needed_4 rfl rfl ?_
  refine y_getV C 10 gp fX11_needed_26 rfl rfl ft_10_4 (egp) dX11_needed_5 ?_
  refine j_aload_n C 0 0 dX11_needed_8 rfl rfl ?_
  refine y_getC C 10 12 fX11_needed_36 rfl rfl ft_10_6 sm_10_6 rfl hM0 dX11_needed_9 ?_
  refine j_aload_n C 0 0 dX11_needed_12 rfl rfl ?_
  refine y_getC C 10 12 fX11_needed_36 rfl rfl ft_10_6 sm_10_6 rfl hM0 dX11_needed_13 ?_
  refine y_getI C 8 _ _ fX11_needed_153 rfl rfl ft_8_4 sb_8_4 hM0 dX11_needed_16 (fun a101 ea101 la101 ua101 => ?_)
  obtain rfl : a101 = (M0.1 12 4).toInt := ea101
  refine j_callVv C (d := 5) (As := [.ref (ad gp), .ref (ad 12), .int (sI (M0.1 12 4).toInt)]) (st := []) 88 (s_lt rfl rfl) (s_kc (c := 4) rfl rfl) (by decide) rfl (s2_X5_look hM0 hpr cgp (M0.1 12 4).toInt (by omega) (by exact hp0) (by exact hp1) (by exact hp2) (by exact hp3) (by exact ⟨la101, ua101⟩)) gX11_needed_X5_look rfl hdX5_look (by decide) (Nat.le_of_ble_eq_true rfl) dX11_needed_19 rfl (fun M104 h105 => ?_)
  obtain ⟨hM104, fM104, h106⟩ := h105
  have e88M104 : gp = M104.2.2 88 9 := by exact h106.2.2.symm
  have u107l : b01 (LKP M104 gp (rwX M0 gp 12)) = 1 := by rw [← se_id M0 gp 12]; exact h106.1
  have u107e := lkp_e (M := M104) (p := gp) (f := (rwX M0 gp 12)) u107l
  have u107n := en_8 (f := (rwX M0 gp 12)) (-1) (by exact ⟨u107e.2.1.1.1, u107e.2.1.1.2⟩) (by exact ⟨u107e.2.1.2.1.1, (by (clear u107l e88M104 h106 fM104 hM104 ua101 la101 hret C hp3 hp2 hp1 hp0 egp cgp hpr hM0; omega))⟩)
  have u107a := tn_a (M := M104) (p := gp) (f := (rwX M0 gp 12)) (by exact h106.2.1)
  refine j_aload_n C 0 0 dX11_needed_22 rfl rfl ?_
  refine y_getC C 10 88 fX11_needed_94 rfl rfl ft_10_14 sm_10_14 rfl hM104 dX11_needed_23 ?_
  refine j_callVi C (d := 3) (As := []) (st := []) 88 (s_lt rfl rfl) (s_kc (c := 4) rfl rfl) (by decide) rfl (s2_X5_neededBuyers hM104 hpr gp cgp (e88M104) (rwX M0 gp 12) (by exact u107l)) gX11_needed_X5_neededBuyers rfl hdX5_neededBuyers (by decide) (Nat.le_of_ble_eq_true rfl) dX11_needed_26 rfl (fun r108 M109 h110 => ?_)
  obtain ⟨a112, rfl, hM109, fM109, h111⟩ := h110
  obtain rfl : a112 = (ndA (rwX M0 gp 12)) := by exact h111.2.2
  have u113A7 := hM104.rd (i := gp) (c := 6) (k := 7) cgp (show s_b 6 7 = (0, 900) from rfl)
  have u113A9 := hM104.rd (i := gp) (c := 6) (k := 9) cgp (show s_b 6 9 = (0, 900) from rfl)
  have u113A := apx_o (M := M104) (N := M109) (p := gp) (ple_f (p := gp) ((FX.rf.tr fM109 (by decide)) : FX [91] M104 M109) cgp (by decide)) (((FX.rf.tr fM109 (by decide)) : FX [91] M104 M109).cell (by decide)) (((FX.rf.tr fM109 (by decide)) : FX [91] M104 M109).cell (by decide)) (((FX.rf.tr fM109 (by decide)) : FX [91] M104 M109).cell (by decide)) u113A7.1 u113A9.1 (by exact u107a)
  exact hret _ _ _ _ dX11_needed_29 ⟨(ndA (rwX M0 gp 12)), rfl, hM109, ((FX.rf.tr fM104 (by decide)).tr fM109 (by decide)), by exact ⟨h111.1, ⟨h111.2.1, ⟨h111.2.2, u113A⟩⟩⟩⟩
set_option maxHeartbeats 4000000 in
theorem s2_X11_guards {l : Launch} {dC : Nat → ClassId} {dI : Nat → Nat → Nat} {ad : Nat → Nat} {cA : Nat → ClassId} {pr : Nat → Nat → Bool} {Kz : mm_M} {M0 : mm_M} (hM0 : INV pr Kz M0) (hpr : PX pr) (gp : Nat) (cgp : s_c gp = 6) (egp : gp = M0.2.2 0 4) (hp0 : b01 (APX M0 gp) = 1) (hp1 : b01 (LAW M0 gp) = 1) (hp2 : b01 (PRR (rwX M0 gp 12)) = 1) (hp3 : (M0.1 12 3).toInt < pw2 (M0.1 12 0).toInt) : Ci l 6 yX11_guards wsX11_guards dC dI ad cA [.ref (ad 0)] M0 (fun r M' => ∃ a : Int, r = sI a ∧ INV pr Kz M' ∧ FX [81, 82, 83, 84, 85, 86, 88, 89, 90, 91] M0 M' ∧ 0 ≤ a ∧ a ≤ 255 ∧ (a = guA (rwX M0 gp 12)) ∧ (b01 (APX M' gp) = 1)) := by
  refine ci_of (cc := cX11_guards) (maxL := 3) (ty := .int) (lv := [(0, .ref (ad 0))]) (by decide) rfl (fun r M' hp => rfl) (Nat.le_of_ble_eq_true rfl) rfl ?_
  intro p e s m args below meth c A Q C hret
  refine y_iconst C dX11_guards_0 ?_
  refine j_istore_n C 1 [(1, .int (sI 0)), (0, .ref (ad 0))] dX11_guards_1 rfl (by decide) rfl ?_
  refine j_aload_n C 1 0 dX11_guards_2 rfl rfl ?_
  refine y_getC C 10 88 fX11_guards_94 rfl rfl ft_10_14 sm_10_14 rfl hM0 dX11_guards_3 ?_
  refine j_aload_n C 1 0 dX11_guards_6 rfl rfl ?_
  refine y_getV C 10 gp fX11_guards_26 rfl rfl ft_10_4 (egp) dX11_guards_7 ?_
  refine j_aload_n C 1 0 dX11_guards_10 rfl rfl ?_
  refine y_getC C 10 12 fX11_guards_36 rfl rfl ft_10_6 sm_10_6 rfl hM0 dX11_guards_11 ?_
  refine j_aload_n C 1 0 dX11_guards_14 rfl rfl ?_
  refine y_getC C 10 12 fX11_guards_36 rfl rfl ft_10_6 sm_10_6 rfl hM0 dX11_guards_15 ?_
  refine y_getI C 8 _ _ fX11_guards_153 rfl rfl ft_8_4 sb_8_4 hM0 dX11_guards_18 (fun a102 ea102 la102 ua102 => ?_)
  obtain rfl : a102 = (M0.1 12 4).toInt := ea102
  refine j_callVv C (d := 5) (As := [.ref (ad gp), .ref (ad 12), .int (sI (M0.1 12 4).toInt)]) (st := []) 88 (s_lt rfl rfl) (s_kc (c := 4) rfl rfl) (by decide) rfl (s2_X5_look hM0 hpr cgp (M0.1 12 4).toInt (by omega) (by exact hp0) (by exact hp1) (by exact hp2) (by exact hp3) (by exact ⟨la102, ua102⟩)) gX11_guards_X5_look rfl hdX5_look (by decide) (Nat.le_of_ble_eq_true rfl) dX11_guards_21 rfl (fun M106 h107 => ?_)
  obtain ⟨hM106, fM106, h108⟩ := h107
  have e88M106 : gp = M106.2.2 88 9 := by exact h108.2.2.symm
  have u109l : b01 (LKP M106 gp (rwX M0 gp 12)) = 1 := by rw [← se_id M0 gp 12]; exact h108.1
  have u109e := lkp_e (M := M106) (p := gp) (f := (rwX M0 gp 12)) u109l
  have u109n := en_8 (f := (rwX M0 gp 12)) (-1) (by exact ⟨u109e.2.1.1.1, u109e.2.1.1.2⟩) (by exact ⟨u109e.2.1.2.1.1, (by omega)⟩)
  have u109a := tn_a (M := M106) (p := gp) (f := (rwX M0 gp 12)) (by exact h108.2.1)
  have u109z : guF (rwX M0 gp 12) (0 : Int).toNat = 0 := rfl
  have u109s := guA_s (rwX M0 gp 12)
  have u109k : ((rwX M0 gp 12) 26).toInt = (M0.1 12 0).toInt := rfl
  refine j_aload_n C 1 0 dX11_guards_24 rfl rfl ?_
  refine y_getC C 10 88 fX11_guards_94 rfl rfl ft_10_14 sm_10_14 rfl hM106 dX11_guards_25 ?_
  refine j_callVi C (d := 3) (As := []) (st := []) 88 (s_lt rfl rfl) (s_kc (c := 4) rfl rfl) (by decide) rfl (s2_X5_shortest hM106 hpr gp cgp (e88M106) (rwX M0 gp 12) (by exact u109l)) gX11_guards_X5_shortest rfl hdX5_shortest (by decide) (Nat.le_of_ble_eq_true rfl) dX11_guards_28 rfl (fun r110 M111 h112 => ?_)
  obtain ⟨a114, rfl, hM111, fM111, h113⟩ := h112
  refine y_iconst C dX11_guards_31 ?_
  refine y_icmp_ne C 37 dX11_guards_32 (by decide) (by exact ⟨⟨(by (clear fM111 hM111 u109k u109s u109z u109a u109e u109l e88M106 h108 fM106 hM106 ua102 la102 hret C hp3 hp2 hp1 hp0 egp cgp hpr hM0; omega)), (by (clear fM111 hM111 u109k u109s u109z u109a u109e u109l e88M106 h108 fM106 hM106 ua102 la102 hret C hp3 hp2 hp1 hp0 egp cgp hpr hM0; omega))⟩, ⟨(by decide), (by decide)⟩⟩) (fun h115 => ?_) (fun h115 => ?_)
  · refine y_iconst C dX11_guards_37 ?_
    refine j_istore_n C 2 [(2, .int (sI 0)), (1, .int (sI 0)), (0, .ref (ad 0))] dX11_guards_38 rfl (by decide) rfl ?_
    have u116A7 := hM106.rd (i := gp) (c := 6) (k := 7) cgp (show s_b 6 7 = (0, 900) from rfl)
    have u116A9 := hM106.rd (i := gp) (c := 6) (k := 9) cgp (show s_b 6 9 = (0, 900) from rfl)
    have u116A := apx_o (M := M106) (N := M111) (p := gp) (ple_f (p := gp) ((FX.rf.tr fM111 (by decide)) : FX [91] M106 M111) cgp (by decide)) (((FX.rf.tr fM111 (by decide)) : FX [91] M106 M111).cell (by decide)) (((FX.rf.tr fM111 (by decide)) : FX [91] M106 M111).cell (by decide)) (((FX.rf.tr fM111 (by decide)) : FX [91] M106 M111).cell (by decide)) u116A7.1 u116A9.1 (by exact u109a)
    have L154 : ∀ (n152 : Nat), ∀ (a155 : Int) (a156 : Int) (M157 : mm_M), (0 ≤ a155 ∧ a155 ≤ 255 ∧ 0 ≤ a156 ∧ a156 ≤ 8 ∧ (b01 (APX M157 gp) = 1) ∧ (a155 = guF (rwX M0 gp 12) (a156).toNat) ∧ (a156 ≤ (M0.1 12 0).toInt) ∧ (¬ enF (rwX M0 gp 12) (-1) = -1) ∧ (8 - a156) < (n152 : Int)) → INV pr Kz M157 → FX [81, 82, 83, 84, 85, 86, 88, 89, 90, 91] M0 M157 → jj p l e (cn_R 6) s m args below meth c 0 0 Q 3 dC dI ad cA A M157 39 [(0, .ref (ad 0)), (1, .int (sI a155)), (2, .int (sI a156))] [] := by
      intro n152
      induction n152 with
      | zero =>
        intro a155 a156 M157 h158 hM157 fM157
        exfalso; (clear fM157 hM157 u116A u116A9 u116A7 h115 h113 fM111 hM111 u109k u109s u109z u109a u109n u109e u109l e88M106 h108 fM106 hM106 ua102 la102 hret C hp3 hp2 hp1 hp0 egp cgp hpr hM0; omega)
      | succ n152 ih153 =>
        intro a155 a156 M157 h158 hM157 fM157
        have u159K := hM0.rd (i := 12) (c := 8) (k := 0) rfl (show s_b 8 0 = (0, 8) from rfl)
        have u159H := hM0.rd (i := 12) (c := 8) (k := 4) rfl (show s_b 8 4 = (0, 255) from rfl)
        refine j_iload_n C 2 2 dX11_guards_39 rfl rfl ?_
        refine j_aload_n C 0 0 dX11_guards_40 rfl rfl ?_
        refine y_getC C 10 12 fX11_guards_36 rfl rfl ft_10_6 sm_10_6 rfl hM157 dX11_guards_41 ?_
        refine y_getI C 8 _ _ fX11_guards_160 rfl rfl ft_8_0 sb_8_0 hM157 dX11_guards_44 (fun a160 ea160 la160 ua160 => ?_)
        obtain rfl : a160 = (M0.1 12 0).toInt := s_fX fM157 (by decide) (ea160)
        refine y_icmp_ge C 117 dX11_guards_47 (by decide) (by (clear ua160 la160 u159H u159K fM157 hM157 ih153 u116A u116A9 u116A7 h115 h113 fM111 hM111 u109s u109z u109a u109n u109l e88M106 h108 fM106 hM106 ua102 la102 hret C hp3 hp2 hp1 hp0 egp cgp hpr hM0; omega)) (fun h162 => ?_) (fun h162 => ?_)
        · have u191x : a156 = (M0.1 12 0).toInt := by (clear ua160 la160 u159H u159K fM157 hM157 ih153 u116A u116A9 u116A7 h115 h113 fM111 hM111 u109k u109s u109z u109a u109n u109e u109l e88M106 h108 fM106 hM106 ua102 la102 hret C hp3 hp2 hp1 hp0 egp cgp hpr hM0; omega)
          have u191y : guF (rwX M0 gp 12) (a156).toNat = guF (rwX M0 gp 12) (M0.1 12 0).toInt.toNat := by rw [u191x]
          have u191s : guA (rwX M0 gp 12) = guF (rwX M0 gp 12) (M0.1 12 0).toInt.toNat := (guA_s (rwX M0 gp 12)).elim (fun z => absurd z.1 (by exact h158.2.2.2.2.2.2.2.1)) (fun z => z.2)
          refine j_iload_n C 1 1 dX11_guards_117 rfl rfl ?_
          exact hret _ _ _ _ dX11_guards_118 ⟨a155, rfl, hM157, (FX.rf.tr fM157 (by decide)), by exact ⟨h158.1, ⟨h158.2.1, ⟨(by (clear u191x h162 ua160 la160 ea160 u159H u159K fM157 hM157 ih153 u116A u116A9 u116A7 h115 h113 fM111 hM111 u109k u109s u109z u109a u109n u109e u109l e88M106 h108 fM106 hM106 ua102 la102 hret C hp3 hp2 hp1 hp0 egp cgp hpr hM0; omega)), h158.2.2.2.2.1⟩⟩⟩⟩
        · refine j_aload_n C 0 0 dX11_guards_50 rfl rfl ?_
          refine y_getC C 10 12 fX11_guards_36 rfl rfl ft_10_6 sm_10_6 rfl hM157 dX11_guards_51 ?_
          refine y_getI C 8 _ _ fX11_guards_153 rfl rfl ft_8_4 sb_8_4 hM157 dX11_guards_54 (fun a163 ea163 la163 ua163 => ?_)
          obtain rfl : a163 = (M0.1 12 4).toInt := s_fX fM157 (by decide) (ea163)
          refine j_iload_n C 2 2 dX11_guards_57 rfl rfl ?_
          refine e_ishrP C dX11_guards_58 (by exact ⟨la102, (by (clear ua163 la163 h162 ua160 la160 ea160 u159H u159K fM157 hM157 h158 ih153 u116A u116A9 u116A7 h115 h113 fM111 hM111 u109k u109s u109z u109a u109n u109e u109l e88M106 h108 fM106 hM106 hret C hp3 hp2 hp1 hp0 egp cgp hpr hM0; omega))⟩) (fun lb165 ub165 => ?_)
          refine y_iconst C dX11_guards_59 ?_
          refine e_iandR C dX11_guards_60 (by exact ⟨(by decide), (by decide)⟩) (fun lb166 ub166 => ?_)
          have u167s := gu_s (rwX M0 gp 12) (x := a156) (x' := a156 + 1) (a := a155) (by exact h158.2.2.1) rfl (by exact h158.2.2.2.2.2.1)
          have u167i := ii_e (a := (M0.1 12 4).toInt) (k := a156) (by exact ⟨u159H.1, u159H.2⟩) (by exact ⟨h158.2.2.1, (by (clear u167s ub166 lb166 ub165 lb165 ua163 la163 ea163 ua160 la160 u159H u159K fM157 hM157 ih153 u116A u116A9 u116A7 h115 h113 fM111 hM111 u109s u109z u109a u109n u109l e88M106 h108 fM106 hM106 ua102 la102 hret C hp3 hp2 hp1 hp0 egp cgp hpr hM0; omega))⟩)
          have u167f : iiF ((rwX M0 gp 12) 28).toInt a156 = iiF (M0.1 12 4).toInt a156 := rfl
          have u167o := or_0 a155 (by (clear u167f u167i u167s ub166 lb166 ub165 lb165 ua163 la163 ea163 h162 ua160 la160 ea160 u159H u159K fM157 hM157 ih153 u116A u116A9 u116A7 h115 h113 fM111 hM111 u109k u109s u109z u109a u109n u109e u109l e88M106 h108 fM106 hM106 ua102 la102 hret C hp3 hp2 hp1 hp0 egp cgp hpr hM0; omega))
          refine y_if_ne C 111 dX11_guards_61 (by decide) (by (clear u167o u167f u167i u167s ub165 lb165 ua163 la163 ea163 h162 ua160 la160 ea160 u159H u159K fM157 hM157 h158 ih153 u116A u116A9 u116A7 h115 h113 fM111 hM111 u109k u109s u109z u109a u109n u109e u109l e88M106 h108 fM106 hM106 ua102 la102 hret C hp3 hp2 hp1 hp0 egp cgp hpr hM0; omega)) (fun h168 => ?_) (fun h168 => ?_)
          · refine y_iinc C 2 [(2, .int (sI (a156 + 1))), (0, .ref (ad 0)), (1, .int (sI a155))] dX11_guards_111 rfl (by decide) rfl ?_
            refine j_goto C 39 dX11_guards_114 (by decide) ?_
            refine j_lv [1, 2, 0] rfl ?_; exact ih153 a155 (a156 + 1) M157 (by exact ⟨h158.1, ⟨h158.2.1, ⟨(by (clear ub165 lb165 ua163 la163 ea163 ua160 la160 u159H u159K fM157 hM157 ih153 u116A u116A9 u116A7 h115 fM111 hM111 u109s u109z u109a u109n u109l e88M106 h108 fM106 hM106 ua102 la102 hret C hp3 hp2 hp1 hp0 egp cgp hpr hM0; omega)), ⟨(by (clear ub165 lb165 ua163 la163 ea163 ua160 la160 u159H u159K fM157 hM157 ih153 u116A u116A9 u116A7 h115 fM111 hM111 u109s u109z u109a u109n u109l e88M106 h108 fM106 hM106 ua102 la102 hret C hp3 hp2 hp1 hp0 egp cgp hpr hM0; omega)), ⟨h158.2.2.2.2.1, ⟨(by (clear ub165 lb165 ua163 la163 ea163 ua160 la160 u159H u159K fM157 hM157 ih153 u116A u116A9 u116A7 h115 fM111 hM111 u109s u109z u109a u109n u109l e88M106 h108 fM106 hM106 ua102 la102 hret C hp3 hp2 hp1 hp0 egp cgp hpr hM0; omega)), ⟨(by (clear ub165 lb165 ua163 la163 ea163 ua160 la160 u159H u159K fM157 hM157 ih153 u116A u116A9 u116A7 h115 fM111 hM111 u109s u109z u109a u109n u109l e88M106 h108 fM106 hM106 ua102 la102 hret C hp3 hp2 hp1 hp0 egp cgp hpr hM0; omega)), ⟨h158.2.2.2.2.2.2.2.1, (by (clear ub165 lb165 ua163 la163 ea163 ua160 la160 u159H u159K fM157 hM157 ih153 u116A u116A9 u116A7 h115 fM111 hM111 u109s u109z u109a u109n u109l e88M106 h108 fM106 hM106 ua102 la102 hret C hp3 hp2 hp1 hp0 egp cgp hpr hM0; omega))⟩⟩⟩⟩⟩⟩⟩⟩) hM157 (FX.rf.tr fM157 (by decide))
          · refine j_aload_n C 0 0 dX11_guards_64 rfl rfl ?_
            refine y_getC C 10 88 fX11_guards_94 rfl rfl ft_10_14 sm_10_14 rfl hM157 dX11_guards_65 ?_
            refine j_aload_n C 0 0 dX11_guards_68 rfl rfl ?_
            refine y_getV C 10 gp fX11_guards_26 rfl rfl ft_10_4 (s_pX fM157 (egp)) dX11_guards_69 ?_
            refine j_aload_n C 0 0 dX11_guards_72 rfl rfl ?_
            refine y_getC C 10 12 fX11_guards_36 rfl rfl ft_10_6 sm_10_6 rfl hM157 dX11_guards_73 ?_
            refine j_aload_n C 0 0 dX11_guards_76 rfl rfl ?_
            refine y_getC C 10 12 fX11_guards_36 rfl rfl ft_10_6 sm_10_6 rfl hM157 dX11_guards_77 ?_
            refine y_getI C 8 _ _ fX11_guards_153 rfl rfl ft_8_4 sb_8_4 hM157 dX11_guards_80 (fun a170 ea170 la170 ua170 => ?_)
            obtain rfl : a170 = (M0.1 12 4).toInt := s_fX fM157 (by decide) (ea170)
            refine y_iconst C dX11_guards_83 ?_
            refine j_iload_n C 2 2 dX11_guards_84 rfl rfl ?_
            refine e_shl1 C 7 128 dX11_guards_85 rfl (by decide) (by exact ⟨h158.2.2.1, (by (clear ua170 la170 ea170 h168 u167o u167f u167i u167s ub166 lb166 ub165 lb165 ua163 la163 ea163 ua160 la160 u159H u159K fM157 hM157 ih153 u116A u116A9 u116A7 h115 h113 fM111 hM111 u109s u109z u109a u109n u109l e88M106 h108 fM106 hM106 ua102 la102 hret C hp3 hp2 hp1 hp0 egp cgp hpr hM0; omega))⟩) (fun lb172 ub172 => ?_)
            refine e_iorN C 8 255 dX11_guards_86 rfl (by decide) (by exact ⟨la102, ⟨ua102, ⟨(by (clear ua170 la170 ea170 h168 u167o u167f u167i u167s ub166 lb166 ub165 lb165 ua163 la163 h162 ua160 la160 ea160 u159H u159K fM157 hM157 h158 ih153 u116A u116A9 u116A7 h115 h113 fM111 hM111 u109k u109s u109z u109a u109n u109e u109l e88M106 h108 fM106 hM106 hret C hp3 hp2 hp1 hp0 egp cgp hpr hM0; omega)), (by (clear ua170 la170 ea170 h168 u167o u167f u167i u167s ub166 lb166 ub165 lb165 ua163 la163 h162 ua160 la160 ea160 u159H u159K fM157 hM157 h158 ih153 u116A u116A9 u116A7 h115 h113 fM111 hM111 u109k u109s u109z u109a u109n u109e u109l e88M106 h108 fM106 hM106 hret C hp3 hp2 hp1 hp0 egp cgp hpr hM0; omega))⟩⟩⟩) (fun lb173 ub173 ob173 => ?_)
            have u174L7 := hM0.rd (i := gp) (c := 6) (k := 7) cgp (show s_b 6 7 = (0, 900) from rfl)
            have u174L9 := hM0.rd (i := gp) (c := 6) (k := 9) cgp (show s_b 6 9 = (0, 900) from rfl)
            have u174L := law_p (M := M0) (N := M157) (p := gp) (ple_f (p := gp) ((FX.rf.tr fM157 (by decide)) : FX [81, 82, 83, 84, 85, 86, 88, 89, 90, 91] M0 M157) cgp (by decide)) u174L7.1 u174L9.1 (by exact hp1)
            have u174e : rwX M157 gp 12 = rwX M0 gp 12 := (rx_f (p := gp) (v := 12) (ple_f (p := gp) ((FX.rf.tr fM157 (by decide)) : FX [81, 82, 83, 84, 85, 86, 88, 89, 90, 91] M0 M157) cgp (by decide)) (ske_n ((FX.rf.tr fM157 (by decide)) : FX [81, 82, 83, 84, 85, 86, 88, 89, 90, 91] M0 M157) ⟨by decide, by decide, by decide⟩))
            have u174R : b01 (PRR (rwX M157 gp 12)) = 1 := by rw [u174e]; exact hp2
            have u174S : (M157.1 12 3).toInt < pw2 (M157.1 12 0).toInt := by rw [((FX.rf.tr fM157 (by decide)) : FX [81, 82, 83, 84, 85, 86, 88, 89, 90, 91] M0 M157).cell (i := 12) (by decide)]; exact hp3
            refine j_callVv C (d := 5) (As := [.ref (ad gp), .ref (ad 12), .int (sI (orI (M0.1 12 4).toInt (pw2 a156)))]) (st := []) 88 (s_lt rfl rfl) (s_kc (c := 4) rfl rfl) (by decide) rfl (s2_X5_look hM157 hpr cgp (orI (M0.1 12 4).toInt (pw2 a156)) (by (clear u174S u174R u174e u174L u174L9 u174L7 ob173 ub172 lb172 ua170 la170 ea170 h168 u167o u167f u167i u167s ub166 lb166 ub165 lb165 ua163 la163 ea163 h162 ua160 la160 ea160 u159H u159K fM157 hM157 h158 ih153 u116A u116A9 u116A7 h115 h113 fM111 hM111 u109k u109s u109z u109a u109n u109e u109l e88M106 h108 fM106 hM106 ua102 la102 hret C hp3 hp2 hp1 hp0 egp cgp hpr hM0; omega)) (by exact h158.2.2.2.2.1) (by exact u174L) (by exact u174R) (by exact u174S) (by exact ⟨lb173, ub173⟩)) gX11_guards_X5_look rfl hdX5_look (by decide) (Nat.le_of_ble_eq_true rfl) dX11_guards_87 rfl (fun M176 h177 => ?_)
            obtain ⟨hM176, fM176, h178⟩ := h177
            have e88M176 : gp = M176.2.2 88 9 := by exact h178.2.2.symm
            have u179e : rwX M157 gp 12 = (rwX M0 gp 12) := (rx_f (p := gp) (v := 12) (ple_f (p := gp) ((FX.rf.tr fM157 (by decide)) : FX [81, 82, 83, 84, 85, 86, 88, 89, 90, 91] M0 M157) cgp (by decide)) (ske_n ((FX.rf.tr fM157 (by decide)) : FX [81, 82, 83, 84, 85, 86, 88, 89, 90, 91] M0 M157) ⟨by decide, by decide, by decide⟩))
            have u179l : b01 (LKP M176 gp (hdS (rwX M0 gp 12) a156)) = 1 := by
              have z : b01 (LKP M176 gp (seH (rwX M157 gp 12) (sI (orI (M0.1 12 4).toInt (pw2 a156))))) = 1 := by exact h178.1
              rw [u179e, hdS_e (f := (rwX M0 gp 12)) (k := a156) (x := (orI (M0.1 12 4).toInt (pw2 a156))) (show (orI (M0.1 12 4).toInt (pw2 a156)) = orI (M0.1 12 4).toInt (pw2 a156) by (clear z u179e e88M176 h178 fM176 hM176 u174S u174R u174e u174L u174L9 u174L7 ob173 ub173 lb173 ub172 lb172 ua170 la170 ea170 h168 u167o u167f u167i u167s ub166 lb166 ub165 lb165 ua163 la163 ea163 h162 ua160 la160 ea160 u159H u159K fM157 hM157 h158 ih153 u116A u116A9 u116A7 h115 h113 fM111 hM111 u109k u109s u109z u109a u109n u109e u109l e88M106 h108 fM106 hM106 ua102 la102 hret C hp3 hp2 hp1 hp0 egp cgp hpr hM0; omega))] at z
              exact z
            have u179a := tn_a (M := M176) (p := gp) (f := rwX M157 gp 12) (by exact h178.2.1)
            refine j_iload_n C 1 1 dX11_guards_90 rfl rfl ?_
            refine j_aload_n C 0 0 dX11_guards_91 rfl rfl ?_
            refine y_getC C 10 88 fX11_guards_94 rfl rfl ft_10_14 sm_10_14 rfl hM176 dX11_guards_92 ?_
            refine j_callVi C (d := 3) (As := []) (st := [.int (sI a155)]) 88 (s_lt rfl rfl) (s_kc (c := 4) rfl rfl) (by decide) rfl (s2_X5_shortest hM176 hpr gp cgp (e88M176) (hdS (rwX M0 gp 12) a156) (by exact u179l)) gX11_guards_X5_shortest rfl hdX5_shortest (by decide) (Nat.le_of_ble_eq_true rfl) dX11_guards_95 rfl (fun r180 M181 h182 => ?_)
            obtain ⟨a184, rfl, hM181, fM181, h183⟩ := h182
            refine y_iconst C dX11_guards_98 ?_
            refine y_icmp_ne C 108 dX11_guards_99 (by decide) (by exact ⟨⟨(by (clear fM181 hM181 u179a u179l u179e e88M176 h178 fM176 hM176 u174S u174R u174e u174L u174L9 u174L7 ob173 ub173 lb173 ub172 lb172 ua170 la170 ea170 h168 u167o u167f u167i u167s ub166 lb166 ub165 lb165 ua163 la163 ea163 h162 ua160 la160 ea160 u159H u159K fM157 hM157 h158 ih153 u116A u116A9 u116A7 h115 h113 fM111 hM111 u109k u109s u109z u109a u109n u109e u109l e88M106 h108 fM106 hM106 ua102 la102 hret C hp3 hp2 hp1 hp0 egp cgp hpr hM0; omega)), (by (clear fM181 hM181 u179a u179l u179e e88M176 h178 fM176 hM176 u174S u174R u174e u174L u174L9 u174L7 ob173 ub173 lb173 ub172 lb172 ua170 la170 ea170 h168 u167o u167f u167i u167s ub166 lb166 ub165 lb165 ua163 la163 ea163 h162 ua160 la160 ea160 u159H u159K fM157 hM157 h158 ih153 u116A u116A9 u116A7 h115 h113 fM111 hM111 u109k u109s u109z u109a u109n u109e u109l e88M106 h108 fM106 hM106 ua102 la102 hret C hp3 hp2 hp1 hp0 egp cgp hpr hM0; omega))⟩, ⟨(by decide), (by decide)⟩⟩) (fun h185 => ?_) (fun h185 => ?_)
            · refine y_iconst C dX11_guards_108 ?_
              refine e_iorN C 8 255 dX11_guards_109 rfl (by decide) (by exact ⟨h158.1, ⟨h158.2.1, ⟨(by decide), (by decide)⟩⟩⟩) (fun lb186 ub186 ob186 => ?_)
              refine j_istore_n C 1 [(1, .int (sI (orI a155 0))), (0, .ref (ad 0)), (2, .int (sI a156))] dX11_guards_110 rfl (by decide) rfl ?_
              refine y_iinc C 2 [(2, .int (sI (a156 + 1))), (1, .int (sI (orI a155 0))), (0, .ref (ad 0))] dX11_guards_111 rfl (by decide) rfl ?_
              refine j_goto C 39 dX11_guards_114 (by decide) ?_
              have u187A7 := hM176.rd (i := gp) (c := 6) (k := 7) cgp (show s_b 6 7 = (0, 900) from rfl)
              have u187A9 := hM176.rd (i := gp) (c := 6) (k := 9) cgp (show s_b 6 9 = (0, 900) from rfl)
              have u187A := apx_o (M := M176) (N := M181) (p := gp) (ple_f (p := gp) ((FX.rf.tr fM181 (by decide)) : FX [91] M176 M181) cgp (by decide)) (((FX.rf.tr fM181 (by decide)) : FX [91] M176 M181).cell (by decide)) (((FX.rf.tr fM181 (by decide)) : FX [91] M176 M181).cell (by decide)) (((FX.rf.tr fM181 (by decide)) : FX [91] M176 M181).cell (by decide)) u187A7.1 u187A9.1 (by exact u179a)
              refine j_lv [2, 1, 0] rfl ?_; exact ih153 (orI a155 0) (a156 + 1) M181 (by exact ⟨lb186, ⟨ub186, ⟨(by (clear u187A9 u187A7 ob186 ub186 lb186 fM181 hM181 u179a u179l u179e e88M176 h178 fM176 hM176 u174S u174R u174e u174L u174L9 u174L7 ob173 ub173 lb173 ub172 lb172 ua170 la170 ea170 ub166 lb166 ub165 lb165 ua163 la163 ea163 ua160 la160 u159H u159K fM157 hM157 ih153 u116A u116A9 u116A7 h115 fM111 hM111 u109s u109z u109a u109n u109l e88M106 h108 fM106 hM106 ua102 la102 hret C hp3 hp2 hp1 hp0 egp cgp hpr hM0; omega)), ⟨(by (clear u187A9 u187A7 ob186 ub186 lb186 fM181 hM181 u179a u179l u179e e88M176 h178 fM176 hM176 u174S u174R u174e u174L u174L9 u174L7 ob173 ub173 lb173 ub172 lb172 ua170 la170 ea170 ub166 lb166 ub165 lb165 ua163 la163 ea163 ua160 la160 u159H u159K fM157 hM157 ih153 u116A u116A9 u116A7 h115 fM111 hM111 u109s u109z u109a u109n u109l e88M106 h108 fM106 hM106 ua102 la102 hret C hp3 hp2 hp1 hp0 egp cgp hpr hM0; omega)), ⟨u187A, ⟨(by (clear u187A9 u187A7 ob186 ub186 lb186 fM181 hM181 u179a u179l u179e e88M176 h178 fM176 hM176 u174S u174R u174e u174L u174L9 u174L7 ob173 ub173 lb173 ub172 lb172 ua170 la170 ea170 ub166 lb166 ub165 lb165 ua163 la163 ea163 ua160 la160 u159H u159K fM157 hM157 ih153 u116A u116A9 u116A7 h115 fM111 hM111 u109s u109z u109a u109n u109l e88M106 h108 fM106 hM106 ua102 la102 hret C hp3 hp2 hp1 hp0 egp cgp hpr hM0; omega)), ⟨(by (clear u187A9 u187A7 ob186 ub186 lb186 fM181 hM181 u179a u179l u179e e88M176 h178 fM176 hM176 u174S u174R u174e u174L u174L9 u174L7 ob173 ub173 lb173 ub172 lb172 ua170 la170 ea170 ub166 lb166 ub165 lb165 ua163 la163 ea163 ua160 la160 u159H u159K fM157 hM157 ih153 u116A u116A9 u116A7 h115 fM111 hM111 u109s u109z u109a u109n u109l e88M106 h108 fM106 hM106 ua102 la102 hret C hp3 hp2 hp1 hp0 egp cgp hpr hM0; omega)), ⟨h158.2.2.2.2.2.2.2.1, (by (clear u187A9 u187A7 ob186 ub186 lb186 fM181 hM181 u179a u179l u179e e88M176 h178 fM176 hM176 u174S u174R u174e u174L u174L9 u174L7 ob173 ub173 lb173 ub172 lb172 ua170 la170 ea170 ub166 lb166 ub165 lb165 ua163 la163 ea163 ua160 la160 u159H u159K fM157 hM157 ih153 u116A u116A9 u116A7 h115 fM111 hM111 u109s u109z u109a u109n u109l e88M106 h108 fM106 hM106 ua102 la102 hret C hp3 hp2 hp1 hp0 egp cgp hpr hM0; omega))⟩⟩⟩⟩⟩⟩⟩⟩) hM181 (((FX.rf.tr fM157 (by decide)).tr fM176 (by decide)).tr fM181 (by decide))
            · refine y_iconst C dX11_guards_102 ?_
              refine j_iload_n C 2 2 dX11_guards_103 rfl rfl ?_
              refine e_shl1 C 7 128 dX11_guards_104 rfl (by decide) (by exact ⟨h158.2.2.1, (by (clear h185 h183 fM181 hM181 u179a u179l u179e e88M176 h178 fM176 hM176 u174S u174R u174e u174L u174L9 u174L7 ob173 ub173 lb173 ub172 lb172 ua170 la170 ea170 h168 u167o u167f u167i u167s ub166 lb166 ub165 lb165 ua163 la163 ea163 ua160 la160 u159H u159K fM157 hM157 ih153 u116A u116A9 u116A7 h115 h113 fM111 hM111 u109s u109z u109a u109n u109l e88M106 h108 fM106 hM106 ua102 la102 hret C hp3 hp2 hp1 hp0 egp cgp hpr hM0; omega))⟩) (fun lb188 ub188 => ?_)
              refine j_goto C 109 dX11_guards_105 (by decide) ?_
              refine e_iorN C 8 255 dX11_guards_109 rfl (by decide) (by exact ⟨h158.1, ⟨h158.2.1, ⟨(by (clear ub188 lb188 h185 h183 fM181 hM181 u179a u179l u179e e88M176 h178 fM176 hM176 u174S u174R u174e u174L u174L9 u174L7 ob173 ub173 lb173 ua170 la170 ea170 h168 u167f u167i u167s ub166 lb166 ub165 lb165 ua163 la163 ea163 h162 ua160 la160 ea160 u159H u159K fM157 hM157 ih153 u116A u116A9 u116A7 h115 h113 fM111 hM111 u109k u109s u109z u109a u109n u109e u109l e88M106 h108 fM106 hM106 ua102 la102 hret C hp3 hp2 hp1 hp0 egp cgp hpr hM0; omega)), (by (clear ub188 lb188 h185 h183 fM181 hM181 u179a u179l u179e e88M176 h178 fM176 hM176 u174S u174R u174e u174L u174L9 u174L7 ob173 ub173 lb173 ua170 la170 ea170 h168 u167f u167i u167s ub166 lb166 ub165 lb165 ua163 la163 ea163 h162 ua160 la160 ea160 u159H u159K fM157 hM157 ih153 u116A u116A9 u116A7 h115 h113 fM111 hM111 u109k u109s u109z u109a u109n u109e u109l e88M106 h108 fM106 hM106 ua102 la102 hret C hp3 hp2 hp1 hp0 egp cgp hpr hM0; omega))⟩⟩⟩) (fun lb189 ub189 ob189 => ?_)
              refine j_istore_n C 1 [(1, .int (sI (orI a155 (pw2 a156)))), (0, .ref (ad 0)), (2, .int (sI a156))] dX11_guards_110 rfl (by decide) rfl ?_
              refine y_iinc C 2 [(2, .int (sI (a156 + 1))), (1, .int (sI (orI a155 (pw2 a156)))), (0, .ref (ad 0))] dX11_guards_111 rfl (by decide) rfl ?_
              refine j_goto C 39 dX11_guards_114 (by decide) ?_
              have u190A7 := hM176.rd (i := gp) (c := 6) (k := 7) cgp (show s_b 6 7 = (0, 900) from rfl)
              have u190A9 := hM176.rd (i := gp) (c := 6) (k := 9) cgp (show s_b 6 9 = (0, 900) from rfl)
              have u190A := apx_o (M := M176) (N := M181) (p := gp) (ple_f (p := gp) ((FX.rf.tr fM181 (by decide)) : FX [91] M176 M181) cgp (by decide)) (((FX.rf.tr fM181 (by decide)) : FX [91] M176 M181).cell (by decide)) (((FX.rf.tr fM181 (by decide)) : FX [91] M176 M181).cell (by decide)) (((FX.rf.tr fM181 (by decide)) : FX [91] M176 M181).cell (by decide)) u190A7.1 u190A9.1 (by exact u179a)
              refine j_lv [2, 1, 0] rfl ?_; exact ih153 (orI a155 (pw2 a156)) (a156 + 1) M181 (by exact ⟨lb189, ⟨ub189, ⟨(by (clear u190A9 u190A7 ub188 lb188 fM181 hM181 u179a u179l u179e e88M176 h178 fM176 hM176 u174S u174R u174e u174L u174L9 u174L7 ob173 ub173 lb173 ub172 lb172 ua170 la170 ea170 ub166 lb166 ub165 lb165 ua163 la163 ea163 ua160 la160 u159H u159K fM157 hM157 ih153 u116A u116A9 u116A7 h115 fM111 hM111 u109s u109z u109a u109n u109l e88M106 h108 fM106 hM106 ua102 la102 hret C hp3 hp2 hp1 hp0 egp cgp hpr hM0; omega)), ⟨(by (clear u190A9 u190A7 ub188 lb188 fM181 hM181 u179a u179l u179e e88M176 h178 fM176 hM176 u174S u174R u174e u174L u174L9 u174L7 ob173 ub173 lb173 ub172 lb172 ua170 la170 ea170 ub166 lb166 ub165 lb165 ua163 la163 ea163 ua160 la160 u159H u159K fM157 hM157 ih153 u116A u116A9 u116A7 h115 fM111 hM111 u109s u109z u109a u109n u109l e88M106 h108 fM106 hM106 ua102 la102 hret C hp3 hp2 hp1 hp0 egp cgp hpr hM0; omega)), ⟨u190A, ⟨(by (clear u190A9 u190A7 ub188 lb188 fM181 hM181 u179a u179l u179e e88M176 h178 fM176 hM176 u174S u174R u174e u174L u174L9 u174L7 ob173 ub173 lb173 ub172 lb172 ua170 la170 ea170 ub166 lb166 ub165 lb165 ua163 la163 ea163 ua160 la160 u159H u159K fM157 hM157 ih153 u116A u116A9 u116A7 h115 fM111 hM111 u109s u109z u109a u109n u109l e88M106 h108 fM106 hM106 ua102 la102 hret C hp3 hp2 hp1 hp0 egp cgp hpr hM0; omega)), ⟨(by (clear u190A9 u190A7 ub188 lb188 fM181 hM181 u179a u179l u179e e88M176 h178 fM176 hM176 u174S u174R u174e u174L u174L9 u174L7 ob173 ub173 lb173 ub172 lb172 ua170 la170 ea170 ub166 lb166 ub165 lb165 ua163 la163 ea163 ua160 la160 u159H u159K fM157 hM157 ih153 u116A u116A9 u116A7 h115 fM111 hM111 u109s u109z u109a u109n u109l e88M106 h108 fM106 hM106 ua102 la102 hret C hp3 hp2 hp1 hp0 egp cgp hpr hM0; omega)), ⟨h158.2.2.2.2.2.2.2.1, (by (clear u190A9 u190A7 ub188 lb188 fM181 hM181 u179a u179l u179e e88M176 h178 fM176 hM176 u174S u174R u174e u174L u174L9 u174L7 ob173 ub173 lb173 ub172 lb172 ua170 la170 ea170 ub166 lb166 ub165 lb165 ua163 la163 ea163 ua160 la160 u159H u159K fM157 hM157 ih153 u116A u116A9 u116A7 h115 fM111 hM111 u109s u109z u109a u109n u109l e88M106 h108 fM106 hM106 ua102 la102 hret C hp3 hp2 hp1 hp0 egp cgp hpr hM0; omega))⟩⟩⟩⟩⟩⟩⟩⟩) hM181 (((FX.rf.tr fM157 (by decide)).tr fM176 (by decide)).tr fM181 (by decide))
    refine j_lv [2, 1, 0] rfl ?_; exact L154 2010 0 0 M111 (by exact ⟨(by decide), ⟨(by decide), ⟨(by decide), ⟨(by decide), ⟨u116A, ⟨u109z.symm, ⟨(by (clear L154 u116A9 u116A7 fM111 hM111 u109s u109a u109n u109l e88M106 h108 fM106 hM106 ua102 la102 hret C hp3 hp2 hp1 hp0 egp cgp hpr hM0; omega)), ⟨(by (clear L154 u116A9 u116A7 fM111 hM111 u109s u109a u109n u109l e88M106 h108 fM106 hM106 ua102 la102 hret C hp3 hp2 hp1 hp0 egp cgp hpr hM0; omega)), (by decide)⟩⟩⟩⟩⟩⟩⟩⟩) hM111 ((FX.rf.tr fM106 (by decide)).tr fM111 (by decide))
  · refine j_iload_n C 0 1 dX11_guards_35 rfl rfl ?_
    have u193A7 := hM106.rd (i := gp) (c := 6) (k := 7) cgp (show s_b 6 7 = (0, 900) from rfl)
    have u193A9 := hM106.rd (i := gp) (c := 6) (k := 9) cgp (show s_b 6 9 = (0, 900) from rfl)
    have u193A := apx_o (M := M106) (N := M111) (p := gp) (ple_f (p := gp) ((FX.rf.tr fM111 (by decide)) : FX [91] M106 M111) cgp (by decide)) (((FX.rf.tr fM111 (by decide)) : FX [91] M106 M111).cell (by decide)) (((FX.rf.tr fM111 (by decide)) : FX [91] M106 M111).cell (by decide)) (((FX.rf.tr fM111 (by decide)) : FX [91] M106 M111).cell (by decide)) u193A7.1 u193A9.1 (by exact u109a)
    exact hret _ _ _ _ dX11_guards_36 ⟨0, rfl, hM111, ((FX.rf.tr fM106 (by decide)).tr fM111 (by decide)), by exact ⟨(by decide), ⟨(by decide), ⟨(by (clear u193A9 u193A7 fM111 hM111 u109k u109z u109a u109n u109e u109l e88M106 h108 fM106 hM106 ua102 la102 hret C hp3 hp2 hp1 hp0 egp cgp hpr hM0; omega)), u193A⟩⟩⟩⟩
set_option maxHeartbeats 4000000 in
theorem s2_X5_everSold {l : Launch} {dC : Nat → ClassId} {dI : Nat → Nat → Nat} {ad : Nat → Nat} {cA : Nat → ClassId} {pr : Nat → Nat → Bool} {Kz : mm_M} {M0 : mm_M} (hM0 : INV pr Kz M0) (gp : Nat) (cgp : s_c gp = 6) (egp : gp = M0.2.2 88 9) (f : Nat → Int32) (hp0 : b01 (LKP M0 gp f) = 1) : Ci l 0 yX5_everSold wsX5_everSold dC dI ad cA [.ref (ad 88)] M0 (fun r M' => ∃ a : Int, r = sI a ∧ M0 = M' ∧ 0 ≤ a ∧ a ≤ 255 ∧ (a = (svA f))) := by
  refine ci_of (cc := cX5_everSold) (maxL := 3) (ty := .int) (lv := [(0, .ref (ad 88))]) (by decide) rfl (fun r M' hp => rfl) (Nat.le_of_ble_eq_true rfl) rfl ?_
  intro p e s m args below meth c A Q C hret
  have u101e := lkp_e (M := M0) (p := gp) (f := f) (by exact hp0)
  have rns : RNS f := lkp_n (M := M0) (p := gp) (f := f) (by exact hp0)
  refine j_aload_n C 0 0 dX5_everSold_0 rfl rfl ?_
  refine y_getI C 4 _ _ fX5_everSold_45 rfl rfl ft_4_13 sb_4_13 hM0 dX5_everSold_1 (fun a102 ea102 la102 ua102 => ?_)
  obtain rfl : a102 = (M0.1 88 13).toInt := ea102
  refine j_istore_n C 1 [(1, .int (sI (M0.1 88 13).toInt)), (0, .ref (ad 88))] dX5_everSold_4 rfl (by decide) rfl ?_
  refine j_aload_n C 1 0 dX5_everSold_5 rfl rfl ?_
  refine y_getI C 4 _ _ fX5_everSold_45 rfl rfl ft_4_13 sb_4_13 hM0 dX5_everSold_6 (fun a104 ea104 la104 ua104 => ?_)
  obtain rfl : a104 = (M0.1 88 13).toInt := ea104
  refine j_istore_n C 2 [(2, .int (sI (M0.1 88 13).toInt)), (1, .int (sI (M0.1 88 13).toInt)), (0, .ref (ad 88))] dX5_everSold_9 rfl (by decide) rfl ?_
  have L120 : ∀ (n118 : Nat), ∀ (a121 : Int) (a122 : Int), (0 ≤ a121 ∧ a121 ≤ 255 ∧ 0 ≤ a122 ∧ a122 ≤ 256 ∧ ((a122 = (f 27).toInt ∧ a121 = (f 27).toInt) ∨ ((f 27).toInt < a122 ∧ a121 = scF f (a122).toNat)) ∧ ((f 27).toInt ≤ a122) ∧ (a122 ≤ evF f + 1) ∧ (256 - a122) < (n118 : Int)) → jj p l e (cn_R 0) s m args below meth c 0 0 Q 3 dC dI ad cA A M0 10 [(0, .ref (ad 88)), (1, .int (sI a121)), (2, .int (sI a122))] [] := by
    intro n118
    induction n118 with
    | zero =>
      intro a121 a122 h123
      exfalso; omega
    | succ n118 ih119 =>
      intro a121 a122 h123
      refine j_iload_n C 2 2 dX5_everSold_10 rfl rfl ?_
      refine j_aload_n C 0 0 dX5_everSold_11 rfl rfl ?_
      refine y_getI C 4 _ _ fX5_everSold_38 rfl rfl ft_4_11 sb_4_11 hM0 dX5_everSold_12 (fun a124 ea124 la124 ua124 => ?_)
      obtain rfl : a124 = (M0.1 88 11).toInt := ea124
      refine y_icmp_gt C 42 dX5_everSold_15 (by decide) (by (clear ua124 la124 ih119 ua104 la104 ua102 la102 rns hret C hp0 egp cgp hM0; omega)) (fun h126 => ?_) (fun h126 => ?_)
      · have u134s := sv_e rns (x := a122) (by exact ⟨(by (clear ua124 la124 ih119 ua104 la104 ua102 la102 rns hret C hp0 egp cgp hM0; omega)), h123.2.2.2.1⟩)
        refine j_iload_n C 1 1 dX5_everSold_42 rfl rfl ?_
        exact hret _ _ _ _ dX5_everSold_43 ⟨a121, rfl, rfl, by exact ⟨h123.1, ⟨h123.2.1, (by (clear ua124 la124 ih119 ua104 la104 ua102 la102 rns hret C hp0 egp cgp hM0; omega))⟩⟩⟩
      · refine j_iload_n C 1 1 dX5_everSold_18 rfl rfl ?_
        refine j_aload_n C 0 0 dX5_everSold_19 rfl rfl ?_
        refine y_getC C 4 90 fX5_everSold_15 rfl rfl ft_4_2 sm_4_2 rfl hM0 dX5_everSold_20 ?_
        refine j_iload_n C 2 2 dX5_everSold_23 rfl rfl ?_
        refine y_iald C 39 256 _ _ rfl rfl rfl ak_39 an_39 rfl (sb_39 _) hM0 dX5_everSold_24 (by exact ⟨h123.2.2.1, (by (clear ua124 la124 ih119 ua104 la104 ua102 la102 rns hret C hp0 egp cgp hM0; omega))⟩) (fun a127 ea127 la127 ua127 => ?_)
        obtain rfl : a127 = (M0.1 90 (a122).toNat).toInt := ea127
        have u128r := lkp_rx (M := M0) (p := gp) (f := f) (by exact hp0) (s := a122) (by exact ⟨h123.2.2.1, (by (clear ua127 la127 ua124 la124 ih119 ua104 la104 ua102 la102 rns hret C hp0 egp cgp hM0; omega))⟩)
        refine y_iconst C dX5_everSold_25 ?_
        refine y_icmp_ne C 33 dX5_everSold_26 (by decide) (by exact ⟨⟨la127, ua127⟩, ⟨(by decide), (by decide)⟩⟩) (fun h129 => ?_) (fun h129 => ?_)
        · refine y_iconst C dX5_everSold_33 ?_
          have u130s := ev_s rns (l := a121) (x := a122) (x' := a122 + 1) (y := 0) (by exact h123.2.2.2.2.1) (by (clear h129 u128r ua127 la127 h126 ua124 la124 ih119 ua104 la104 ua102 la102 rns u101e hret C hp0 egp cgp hM0; omega)) (by (clear h126 ua124 la124 ih119 ua104 la104 ua102 la102 rns u101e hret C hp0 egp cgp hM0; omega))
          refine e_iorN C 8 255 dX5_everSold_34 rfl (by decide) (by exact ⟨h123.1, ⟨h123.2.1, ⟨(by decide), (by decide)⟩⟩⟩) (fun lb131 ub131 ob131 => ?_)
          refine j_istore_n C 1 [(1, .int (sI (orI a121 0))), (0, .ref (ad 88)), (2, .int (sI a122))] dX5_everSold_35 rfl (by decide) rfl ?_
          refine y_iinc C 2 [(2, .int (sI (a122 + 1))), (1, .int (sI (orI a121 0))), (0, .ref (ad 88))] dX5_everSold_36 rfl (by decide) rfl ?_
          refine j_goto C 10 dX5_everSold_39 (by decide) ?_
          refine j_lv [2, 1, 0] rfl ?_; exact ih119 (orI a121 0) (a122 + 1) (by exact ⟨lb131, ⟨ub131, ⟨(by (clear ob131 h129 u128r ua127 la127 ua124 la124 ih119 ua104 la104 ua102 la102 rns hret C hp0 egp cgp hM0; omega)), ⟨(by (clear ob131 h129 u128r ua127 la127 ua124 la124 ih119 ua104 la104 ua102 la102 rns hret C hp0 egp cgp hM0; omega)), ⟨(by (clear ob131 h129 u128r ua127 la127 ua124 la124 ih119 ua104 la104 ua102 la102 rns hret C hp0 egp cgp hM0; omega)), ⟨(by (clear ob131 h129 u128r ua127 la127 ua124 la124 ih119 ua104 la104 ua102 la102 rns hret C hp0 egp cgp hM0; omega)), ⟨(by (clear ob131 h129 u128r ua127 la127 ua124 la124 ih119 ua104 la104 ua102 la102 rns hret C hp0 egp cgp hM0; omega)), (by (clear ob131 h129 u128r ua127 la127 ua124 la124 ih119 ua104 la104 ua102 la102 rns hret C hp0 egp cgp hM0; omega))⟩⟩⟩⟩⟩⟩⟩)
        · refine j_iload_n C 2 2 dX5_everSold_29 rfl rfl ?_
          refine j_goto C 34 dX5_everSold_30 (by decide) ?_
          have u132s := ev_s rns (l := a121) (x := a122) (x' := a122 + 1) (y := a122) (by exact h123.2.2.2.2.1) (by omega) (by (clear ua127 la127 h126 ua124 la124 ih119 ua104 la104 ua102 la102 rns u101e hret C hp0 egp cgp hM0; omega))
          refine e_iorN C 8 255 dX5_everSold_34 rfl (by decide) (by exact ⟨h123.1, ⟨h123.2.1, ⟨h123.2.2.1, (by (clear u132s h129 u128r ua127 la127 ua124 la124 ih119 ua104 la104 ua102 la102 rns hret C hp0 egp cgp hM0; omega))⟩⟩⟩) (fun lb133 ub133 ob133 => ?_)
          refine j_istore_n C 1 [(1, .int (sI (orI a121 a122))), (0, .ref (ad 88)), (2, .int (sI a122))] dX5_everSold_35 rfl (by decide) rfl ?_
          refine y_iinc C 2 [(2, .int (sI (a122 + 1))), (1, .int (sI (orI a121 a122))), (0, .ref (ad 88))] dX5_everSold_36 rfl (by decide) rfl ?_
          refine j_goto C 10 dX5_everSold_39 (by decide) ?_
          refine j_lv [2, 1, 0] rfl ?_; exact ih119 (orI a121 a122) (a122 + 1) (by exact ⟨lb133, ⟨ub133, ⟨(by (clear h129 u128r ua127 la127 ua124 la124 ih119 ua104 la104 ua102 la102 rns hret C hp0 egp cgp hM0; omega)), ⟨(by (clear h129 u128r ua127 la127 ua124 la124 ih119 ua104 la104 ua102 la102 rns hret C hp0 egp cgp hM0; omega)), ⟨(by (clear h129 u128r ua127 la127 ua124 la124 ih119 ua104 la104 ua102 la102 rns hret C hp0 egp cgp hM0; omega)), ⟨(by (clear h129 u128r ua127 la127 ua124 la124 ih119 ua104 la104 ua102 la102 rns hret C hp0 egp cgp hM0; omega)), ⟨(by (clear h129 u128r ua127 la127 ua124 la124 ih119 ua104 la104 ua102 la102 rns hret C hp0 egp cgp hM0; omega)), (by (clear h129 u128r ua127 la127 ua124 la124 ih119 ua104 la104 ua102 la102 rns hret C hp0 egp cgp hM0; omega))⟩⟩⟩⟩⟩⟩⟩)
  refine j_lv [2, 1, 0] rfl ?_; exact L120 2010 (M0.1 88 13).toInt (M0.1 88 13).toInt (by exact ⟨la102, ⟨ua102, ⟨la102, ⟨(by (clear L120 ua104 la104 la102 rns hret C hp0 egp cgp hM0; omega)), ⟨(by (clear L120 ua104 la104 la102 rns hret C hp0 egp cgp hM0; omega)), ⟨(by (clear L120 ua104 la104 la102 rns hret C hp0 egp cgp hM0; omega)), ⟨(by (clear L120 ua104 la104 la102 rns hret C hp0 egp cgp hM0; omega)), (by (clear L120 ua104 la104 la102 rns hret C hp0 egp cgp hM0; omega))⟩⟩⟩⟩⟩⟩⟩)
set_option maxHeartbeats 4000000 in
theorem s2_X11_sellable {l : Launch} {dC : Nat → ClassId} {dI : Nat → Nat → Nat} {ad : Nat → Nat} {cA : Nat → ClassId} {pr : Nat → Nat → Bool} {Kz : mm_M} {M0 : mm_M} (hM0 : INV pr Kz M0) (hpr : PX pr) (gp : Nat) (cgp : s_c gp = 6) (egp : gp = M0.2.2 0 4) (hp0 : b01 (APX M0 gp) = 1) (hp1 : b01 (LAW M0 gp) = 1) (hp2 : b01 (PRR (rwX M0 gp 12)) = 1) (hp3 : (M0.1 12 3).toInt < pw2 (M0.1 12 0).toInt) : Ci l 6 yX11_sellable wsX11_sellable dC dI ad cA [.ref (ad 0)] M0 (fun r M' => ∃ a : Int, r = sI a ∧ INV pr Kz M' ∧ FX [81, 82, 83, 84, 85, 86, 88, 89, 90] M0 M' ∧ 0 ≤ a ∧ a ≤ 255 ∧ (a = svA (rwX M0 gp 12)) ∧ (b01 (APX M' gp) = 1)) := by
  refine ci_of (cc := cX11_sellable) (maxL := 1) (ty := .int) (lv := [(0, .ref (ad 0))]) (by decide) rfl (fun r M' hp => rfl) (Nat.le_of_ble_eq_true rfl) rfl ?_
  intro p e s m args below meth c A Q C hret
  refine j_aload_n C 0 0 dX11_sellable_0 rfl rfl ?_
  refine y_getC C 10 88 fX11_sellable_94 rfl rfl ft_10_14 sm_10_14 rfl hM0 dX11_sellable_1 ?_
  refine j_aload_n C 0 0 dX11_sellable_4 rfl rfl ?_
  refine y_getV C 10 gp fX11_sellable_26 rfl rfl ft_10_4 (egp) dX11_sellable_5 ?_
  refine j_aload_n C 0 0 dX11_sellable_8 rfl rfl ?_
  refine y_getC C 10 12 fX11_sellable_36 rfl rfl ft_10_6 sm_10_6 rfl hM0 dX11_sellable_9 ?_
  refine j_aload_n C 0 0 dX11_sellable_12 rfl rfl ?_
  refine y_getC C 10 12 fX11_sellable_36 rfl rfl ft_10_6 sm_10_6 rfl hM0 dX11_sellable_13 ?_
  refine y_getI C 8 _ _ fX11_sellable_153 rfl rfl ft_8_4 sb_8_4 hM0 dX11_sellable_16 (fun a101 ea101 la101 ua101 => ?_)
  obtain rfl : a101 = (M0.1 12 4).toInt := ea101
  refine j_callVv C (d := 5) (As := [.ref (ad gp), .ref (ad 12), .int (sI (M0.1 12 4).toInt)]) (st := []) 88 (s_lt rfl rfl) (s_kc (c := 4) rfl rfl) (by decide) rfl (s2_X5_look hM0 hpr cgp (M0.1 12 4).toInt (by omega) (by exact hp0) (by exact hp1) (by exact hp2) (by exact hp3) (by exact ⟨la101, ua101⟩)) gX11_sellable_X5_look rfl hdX5_look (by decide) (Nat.le_of_ble_eq_true rfl) dX11_sellable_19 rfl (fun M104 h105 => ?_)
  obtain ⟨hM104, fM104, h106⟩ := h105
  have e88M104 : gp = M104.2.2 88 9 := by exact h106.2.2.symm
  have u107l : b01 (LKP M104 gp (rwX M0 gp 12)) = 1 := by rw [← se_id M0 gp 12]; exact h106.1
  have u107e := lkp_e (M := M104) (p := gp) (f := (rwX M0 gp 12)) u107l
  have u107n := en_8 (f := (rwX M0 gp 12)) (-1) (by exact ⟨u107e.2.1.1.1, u107e.2.1.1.2⟩) (by exact ⟨u107e.2.1.2.1.1, (by omega)⟩)
  have u107a := tn_a (M := M104) (p := gp) (f := (rwX M0 gp 12)) (by exact h106.2.1)
  refine j_aload_n C 0 0 dX11_sellable_22 rfl rfl ?_
  refine y_getC C 10 88 fX11_sellable_94 rfl rfl ft_10_14 sm_10_14 rfl hM104 dX11_sellable_23 ?_
  refine j_callVi C (d := 0) (As := []) (st := []) 88 (s_lt rfl rfl) (s_kc (c := 4) rfl rfl) (by decide) rfl (s2_X5_everSold hM104 gp cgp (e88M104) (rwX M0 gp 12) (by exact u107l)) gX11_sellable_X5_everSold rfl hdX5_everSold (by decide) (Nat.le_of_ble_eq_true rfl) dX11_sellable_26 rfl (fun r108 M109 h110 => ?_)
  obtain ⟨a112, rfl, rfl, h111⟩ := h110
  obtain rfl : a112 = (svA (rwX M0 gp 12)) := by exact h111.2.2
  exact hret _ _ _ _ dX11_sellable_29 ⟨(svA (rwX M0 gp 12)), rfl, hM104, (FX.rf.tr fM104 (by decide)), by exact ⟨h111.1, ⟨h111.2.1, ⟨h111.2.2, u107a⟩⟩⟩⟩
set_option maxHeartbeats 4000000 in
theorem s2_X5_lastLeft {l : Launch} {dC : Nat → ClassId} {dI : Nat → Nat → Nat} {ad : Nat → Nat} {cA : Nat → ClassId} {pr : Nat → Nat → Bool} {Kz : mm_M} {M0 : mm_M} (hM0 : INV pr Kz M0) (gp : Nat) (cgp : s_c gp = 6) (egp : gp = M0.2.2 88 9) (f : Nat → Int32) (hp0 : b01 (LKP M0 gp f) = 1) : Ci l 1 yX5_lastLeft wsX5_lastLeft dC dI ad cA [.ref (ad 88)] M0 (fun r M' => ∃ a : Int, r = sI a ∧ M0 = M' ∧ 0 ≤ a ∧ a ≤ 255 ∧ (a = (laA f))) := by
  refine ci_of (cc := cX5_lastLeft) (maxL := 4) (ty := .int) (lv := [(0, .ref (ad 88))]) (by decide) rfl (fun r M' hp => rfl) (Nat.le_of_ble_eq_true rfl) rfl ?_
  intro p e s m args below meth c A Q C hret
  have u101e := lkp_e (M := M0) (p := gp) (f := f) (by exact hp0)
  have rns : RNS f := lkp_n (M := M0) (p := gp) (f := f) (by exact hp0)
  have u101z := la_lo rns (f 27).toInt.toNat (by (clear rns hret C hp0 egp cgp hM0; omega))
  have u101y : laF f (M0.1 88 13).toInt.toNat = laF f (f 27).toInt.toNat := by rw [show (M0.1 88 13).toInt = (f 27).toInt by exact u101e.1.2.2.2.1]
  refine y_iconst C dX5_lastLeft_0 ?_
  refine j_istore_n C 1 [(1, .int (sI 0)), (0, .ref (ad 88))] dX5_lastLeft_1 rfl (by decide) rfl ?_
  refine j_aload_n C 1 0 dX5_lastLeft_2 rfl rfl ?_
  refine y_getI C 4 _ _ fX5_lastLeft_45 rfl rfl ft_4_13 sb_4_13 hM0 dX5_lastLeft_3 (fun a102 ea102 la102 ua102 => ?_)
  obtain rfl : a102 = (M0.1 88 13).toInt := ea102
  refine j_istore_n C 2 [(2, .int (sI (M0.1 88 13).toInt)), (1, .int (sI 0)), (0, .ref (ad 88))] dX5_lastLeft_6 rfl (by decide) rfl ?_
  have L124 : ∀ (n122 : Nat), ∀ (a125 : Int) (a126 : Int), (0 ≤ a125 ∧ a125 ≤ 255 ∧ 0 ≤ a126 ∧ a126 ≤ 256 ∧ (a125 = laF f (a126).toNat) ∧ ((f 27).toInt ≤ a126) ∧ (a126 ≤ evF f + 1) ∧ (256 - a126) < (n122 : Int)) → jj p l e (cn_R 1) s m args below meth c 0 0 Q 4 dC dI ad cA A M0 7 [(0, .ref (ad 88)), (1, .int (sI a125)), (2, .int (sI a126))] [] := by
    intro n122
    induction n122 with
    | zero =>
      intro a125 a126 h127
      exfalso; omega
    | succ n122 ih123 =>
      intro a125 a126 h127
      refine j_iload_n C 2 2 dX5_lastLeft_7 rfl rfl ?_
      refine j_aload_n C 0 0 dX5_lastLeft_8 rfl rfl ?_
      refine y_getI C 4 _ _ fX5_lastLeft_38 rfl rfl ft_4_11 sb_4_11 hM0 dX5_lastLeft_9 (fun a128 ea128 la128 ua128 => ?_)
      obtain rfl : a128 = (M0.1 88 11).toInt := ea128
      refine y_icmp_gt C 52 dX5_lastLeft_12 (by decide) (by (clear ua128 la128 ih123 ua102 la102 u101y u101z rns hret C hp0 egp cgp hM0; omega)) (fun h130 => ?_) (fun h130 => ?_)
      · have u144x : a126 = evF f + 1 := by (clear ua128 la128 ih123 ua102 la102 u101y u101z rns hret C hp0 egp cgp hM0; omega)
        have u144y : laF f (a126).toNat = laA f := by rw [u144x]; rfl
        refine j_iload_n C 1 1 dX5_lastLeft_52 rfl rfl ?_
        exact hret _ _ _ _ dX5_lastLeft_53 ⟨a125, rfl, rfl, by exact ⟨h127.1, ⟨h127.2.1, (by (clear u144x h130 ua128 la128 ih123 ua102 la102 u101y u101z rns u101e hret C hp0 egp cgp hM0; omega))⟩⟩⟩
      · refine j_aload_n C 0 0 dX5_lastLeft_15 rfl rfl ?_
        refine y_getI C 4 _ _ fX5_lastLeft_42 rfl rfl ft_4_12 sb_4_12 hM0 dX5_lastLeft_16 (fun a131 ea131 la131 ua131 => ?_)
        obtain rfl : a131 = (M0.1 88 12).toInt := ea131
        refine j_iload_n C 2 2 dX5_lastLeft_19 rfl rfl ?_
        refine y_iconst C dX5_lastLeft_20 ?_
        refine y_not C dX5_lastLeft_21 ?_
        refine e_iandL C dX5_lastLeft_22 (by exact ⟨la131, (by (clear h130 ua128 la128 h127 ih123 ua102 la102 u101y u101z rns hret C hp0 egp cgp hM0; omega))⟩) (fun lb133 ub133 => ?_)
        refine j_istore_n C 3 [(3, .int (sI (andI (M0.1 88 12).toInt ((-1) - a126)))), (0, .ref (ad 88)), (1, .int (sI a125)), (2, .int (sI a126))] dX5_lastLeft_23 rfl (by decide) rfl ?_
        refine j_aload_n C 1 0 dX5_lastLeft_24 rfl rfl ?_
        refine y_getC C 4 90 fX5_lastLeft_15 rfl rfl ft_4_2 sm_4_2 rfl hM0 dX5_lastLeft_25 ?_
        refine j_iload_n C 3 2 dX5_lastLeft_28 rfl rfl ?_
        refine y_iald C 39 256 _ _ rfl rfl rfl ak_39 an_39 rfl (sb_39 _) hM0 dX5_lastLeft_29 (by exact ⟨h127.2.2.1, (by (clear ub133 lb133 ua131 la131 ua128 la128 ih123 ua102 la102 u101y u101z rns hret C hp0 egp cgp hM0; omega))⟩) (fun a134 ea134 la134 ua134 => ?_)
        obtain rfl : a134 = (M0.1 90 (a126).toNat).toInt := ea134
        have u135r := lkp_rx (M := M0) (p := gp) (f := f) (by exact hp0) (s := a126) (by exact ⟨h127.2.2.1, (by (clear ua134 la134 ub133 lb133 ua131 la131 ua128 la128 ih123 ua102 la102 u101y u101z rns hret C hp0 egp cgp hM0; omega))⟩)
        have u135s := la_s f (x := a126) (x' := a126 + 1) (a := a125) (by exact h127.2.2.1) rfl (by exact h127.2.2.2.2.1)
        have u135q : (andI (M0.1 88 12).toInt ((-1) - a126)) = andI (snF f) (-1 - a126) := by rw [show snF f = (M0.1 88 12).toInt by exact u101e.1.2.2.1.symm]
        have u135b : bsF (andI (M0.1 88 12).toInt ((-1) - a126)) (8 : Int).toNat = bsF (andI (snF f) (-1 - a126)) (8 : Int).toNat := by rw [u135q]
        have u135o : orI a125 (andI (M0.1 88 12).toInt ((-1) - a126)) = orI a125 (andI (snF f) (-1 - a126)) := by rw [u135q]
        refine y_iconst C dX5_lastLeft_30 ?_
        refine y_icmp_ne C 46 dX5_lastLeft_31 (by decide) (by exact ⟨⟨la134, ua134⟩, ⟨(by decide), (by decide)⟩⟩) (fun h136 => ?_) (fun h136 => ?_)
        · refine y_iinc C 3 [(2, .int (sI (a126 + 1))), (3, .int (sI (andI (M0.1 88 12).toInt ((-1) - a126)))), (0, .ref (ad 88)), (1, .int (sI a125))] dX5_lastLeft_46 rfl (by decide) rfl ?_
          refine j_goto C 7 dX5_lastLeft_49 (by decide) ?_
          refine j_lv [2, 3, 0] rfl ?_; exact ih123 a125 (a126 + 1) (by exact ⟨h127.1, ⟨h127.2.1, ⟨(by (clear u135o u135b u135q ub133 lb133 ua131 la131 ua128 la128 ih123 ua102 la102 u101y u101z rns hret C hp0 egp cgp hM0; omega)), ⟨(by (clear u135o u135b u135q ub133 lb133 ua131 la131 ua128 la128 ih123 ua102 la102 u101y u101z rns hret C hp0 egp cgp hM0; omega)), ⟨(by (clear u135o u135b u135q ub133 lb133 ua131 la131 ua128 la128 ih123 ua102 la102 u101y u101z rns hret C hp0 egp cgp hM0; omega)), ⟨(by (clear u135o u135b u135q ub133 lb133 ua131 la131 ua128 la128 ih123 ua102 la102 u101y u101z rns hret C hp0 egp cgp hM0; omega)), ⟨(by (clear u135o u135b u135q ub133 lb133 ua131 la131 ua128 la128 ih123 ua102 la102 u101y u101z rns hret C hp0 egp cgp hM0; omega)), (by (clear u135o u135b u135q ub133 lb133 ua131 la131 ua128 la128 ih123 ua102 la102 u101y u101z rns hret C hp0 egp cgp hM0; omega))⟩⟩⟩⟩⟩⟩⟩)
        · refine j_iload_n C 0 3 dX5_lastLeft_34 rfl rfl ?_
          refine j_callSi C (d := 0) (As := [.int (sI (andI (M0.1 88 12).toInt ((-1) - a126)))]) (st := []) (hx_J6_bitCount_0f7a4 hM0 (andI (M0.1 88 12).toInt ((-1) - a126)) (by (clear h136 u135o u135b u135s u135r ua134 la134 h130 ua128 la128 h127 ih123 ua102 la102 u101y u101z rns hret C hp0 egp cgp hM0; omega)) (by exact ⟨lb133, (by (clear h136 u135o u135b u135s u135r ua134 la134 h130 ua128 la128 h127 ih123 ua102 la102 u101y u101z rns hret C hp0 egp cgp hM0; omega))⟩)) gX5_lastLeft_J6_bitCount_0f7a4 rfl hdJ6_bitCount_0f7a4s (by decide) (Nat.le_of_ble_eq_true rfl) dX5_lastLeft_35 rfl (fun r137 M138 h139 => ?_)
          obtain ⟨a141, rfl, rfl, h140⟩ := h139
          obtain rfl : a141 = (bsF (andI (M0.1 88 12).toInt ((-1) - a126)) (8 : Int).toNat) := by exact h140.2.2
          refine y_iconst C dX5_lastLeft_38 ?_
          refine y_icmp_ne C 46 dX5_lastLeft_39 (by decide) (by exact ⟨⟨(by (clear h136 u135o u135q u135s u135r ua134 la134 ub133 lb133 ua131 la131 h130 ua128 la128 h127 ih123 ua102 la102 u101y u101z rns u101e hret C hp0 egp cgp hM0; omega)), (by (clear h136 u135o u135q u135s u135r ua134 la134 ub133 lb133 ua131 la131 h130 ua128 la128 h127 ih123 ua102 la102 u101y u101z rns u101e hret C hp0 egp cgp hM0; omega))⟩, ⟨(by decide), (by decide)⟩⟩) (fun h142 => ?_) (fun h142 => ?_)
          · refine y_iinc C 3 [(2, .int (sI (a126 + 1))), (3, .int (sI (andI (M0.1 88 12).toInt ((-1) - a126)))), (0, .ref (ad 88)), (1, .int (sI a125))] dX5_lastLeft_46 rfl (by decide) rfl ?_
            refine j_goto C 7 dX5_lastLeft_49 (by decide) ?_
            refine j_lv [2, 3, 0] rfl ?_; exact ih123 a125 (a126 + 1) (by exact ⟨h127.1, ⟨h127.2.1, ⟨(by (clear h136 u135o u135q u135r ua134 la134 ub133 lb133 ua131 la131 ua128 la128 ih123 ua102 la102 u101y u101z rns hret C hp0 egp cgp hM0; omega)), ⟨(by (clear h136 u135o u135q u135r ua134 la134 ub133 lb133 ua131 la131 ua128 la128 ih123 ua102 la102 u101y u101z rns hret C hp0 egp cgp hM0; omega)), ⟨(by (clear h136 u135o u135q u135r ua134 la134 ub133 lb133 ua131 la131 ua128 la128 ih123 ua102 la102 u101y u101z rns hret C hp0 egp cgp hM0; omega)), ⟨(by (clear h136 u135o u135q u135r ua134 la134 ub133 lb133 ua131 la131 ua128 la128 ih123 ua102 la102 u101y u101z rns hret C hp0 egp cgp hM0; omega)), ⟨(by (clear h136 u135o u135q u135r ua134 la134 ub133 lb133 ua131 la131 ua128 la128 ih123 ua102 la102 u101y u101z rns hret C hp0 egp cgp hM0; omega)), (by (clear h136 u135o u135q u135r ua134 la134 ub133 lb133 ua131 la131 ua128 la128 ih123 ua102 la102 u101y u101z rns hret C hp0 egp cgp hM0; omega))⟩⟩⟩⟩⟩⟩⟩)
          · refine j_iload_n C 2 1 dX5_lastLeft_42 rfl rfl ?_
            refine j_iload_n C 0 3 dX5_lastLeft_43 rfl rfl ?_
            refine e_iorN C 8 255 dX5_lastLeft_44 rfl (by decide) (by exact ⟨h127.1, ⟨h127.2.1, ⟨lb133, (by (clear h142 h140 h136 u135o u135b u135s u135r ua134 la134 h130 ua128 la128 ih123 ua102 la102 u101y u101z rns hret C hp0 egp cgp hM0; omega))⟩⟩⟩) (fun lb143 ub143 ob143 => ?_)
            refine j_istore_n C 1 [(1, .int (sI (orI a125 (andI (M0.1 88 12).toInt ((-1) - a126))))), (3, .int (sI (andI (M0.1 88 12).toInt ((-1) - a126)))), (0, .ref (ad 88)), (2, .int (sI a126))] dX5_lastLeft_45 rfl (by decide) rfl ?_
            refine y_iinc C 3 [(2, .int (sI (a126 + 1))), (1, .int (sI (orI a125 (andI (M0.1 88 12).toInt ((-1) - a126))))), (3, .int (sI (andI (M0.1 88 12).toInt ((-1) - a126)))), (0, .ref (ad 88))] dX5_lastLeft_46 rfl (by decide) rfl ?_
            refine j_goto C 7 dX5_lastLeft_49 (by decide) ?_
            refine j_lv [3, 1, 0] rfl ?_; exact ih123 (orI a125 (andI (M0.1 88 12).toInt ((-1) - a126))) (a126 + 1) (by exact ⟨lb143, ⟨ub143, ⟨(by (clear h140 u135q ua134 la134 ub133 lb133 ua131 la131 ua128 la128 ih123 ua102 la102 u101y u101z rns hret C hp0 egp cgp hM0; omega)), ⟨(by (clear h140 u135q ua134 la134 ub133 lb133 ua131 la131 ua128 la128 ih123 ua102 la102 u101y u101z rns hret C hp0 egp cgp hM0; omega)), ⟨(by (clear h140 u135q ua134 la134 ub133 lb133 ua131 la131 ua128 la128 ih123 ua102 la102 u101y u101z rns hret C hp0 egp cgp hM0; omega)), ⟨(by (clear h140 u135q ua134 la134 ub133 lb133 ua131 la131 ua128 la128 ih123 ua102 la102 u101y u101z rns hret C hp0 egp cgp hM0; omega)), ⟨(by (clear h140 u135q ua134 la134 ub133 lb133 ua131 la131 ua128 la128 ih123 ua102 la102 u101y u101z rns hret C hp0 egp cgp hM0; omega)), (by (clear h140 u135q ua134 la134 ub133 lb133 ua131 la131 ua128 la128 ih123 ua102 la102 u101y u101z rns hret C hp0 egp cgp hM0; omega))⟩⟩⟩⟩⟩⟩⟩)
  refine j_lv [2, 1, 0] rfl ?_; exact L124 2010 0 (M0.1 88 13).toInt (by exact ⟨(by decide), ⟨(by decide), ⟨la102, ⟨(by (clear L124 la102 rns hret C hp0 egp cgp hM0; omega)), ⟨(by (clear L124 la102 rns hret C hp0 egp cgp hM0; omega)), ⟨(by (clear L124 la102 rns hret C hp0 egp cgp hM0; omega)), ⟨(by (clear L124 la102 rns hret C hp0 egp cgp hM0; omega)), (by (clear L124 la102 rns hret C hp0 egp cgp hM0; omega))⟩⟩⟩⟩⟩⟩⟩)
set_option maxHeartbeats 4000000 in
theorem s2_X11_last {l : Launch} {dC : Nat → ClassId} {dI : Nat → Nat → Nat} {ad : Nat → Nat} {cA : Nat → ClassId} {pr : Nat → Nat → Bool} {Kz : mm_M} {M0 : mm_M} (hM0 : INV pr Kz M0) (hpr : PX pr) (gp : Nat) (cgp : s_c gp = 6) (egp : gp = M0.2.2 0 4) (hp0 : b01 (APX M0 gp) = 1) (hp1 : b01 (LAW M0 gp) = 1) (hp2 : b01 (PRR (rwX M0 gp 12)) = 1) (hp3 : (M0.1 12 3).toInt < pw2 (M0.1 12 0).toInt) : Ci l 6 yX11_last wsX11_last dC dI ad cA [.ref (ad 0)] M0 (fun r M' => ∃ a : Int, r = sI a ∧ INV pr Kz M' ∧ FX [81, 82, 83, 84, 85, 86, 88, 89, 90] M0 M' ∧ 0 ≤ a ∧ a ≤ 255 ∧ (a = laA (rwX M0 gp 12)) ∧ (b01 (APX M' gp) = 1)) := by
  refine ci_of (cc := cX11_last) (maxL := 1) (ty := .int) (lv := [(0, .ref (ad 0))]) (by decide) rfl (fun r M' hp => rfl) (Nat.le_of_ble_eq_true rfl) rfl ?_
  intro p e s m args below meth c A Q C hret
  refine j_aload_n C 0 0 dX11_last_0 rfl rfl ?_
  refine y_getC C 10 88 fX11_last_94 rfl rfl ft_10_14 sm_10_14 rfl hM0 dX11_last_1 ?_
  refine j_aload_n C 0 0 dX11_last_4 rfl rfl ?_
  refine y_getV C 10 gp fX11_last_26 rfl rfl ft_10_4 (egp) dX11_last_5 ?_
  refine j_aload_n C 0 0 dX11_last_8 rfl rfl ?_
  refine y_getC C 10 12 fX11_last_36 rfl rfl ft_10_6 sm_10_6 rfl hM0 dX11_last_9 ?_
  refine j_aload_n C 0 0 dX11_last_12 rfl rfl ?_
  refine y_getC C 10 12 fX11_last_36 rfl rfl ft_10_6 sm_10_6 rfl hM0 dX11_last_13 ?_
  refine y_getI C 8 _ _ fX11_last_153 rfl rfl ft_8_4 sb_8_4 hM0 dX11_last_16 (fun a101 ea101 la101 ua101 => ?_)
  obtain rfl : a101 = (M0.1 12 4).toInt := ea101
  refine j_callVv C (d := 5) (As := [.ref (ad gp), .ref (ad 12), .int (sI (M0.1 12 4).toInt)]) (st := []) 88 (s_lt rfl rfl) (s_kc (c := 4) rfl rfl) (by decide) rfl (s2_X5_look hM0 hpr cgp (M0.1 12 4).toInt (by omega) (by exact hp0) (by exact hp1) (by exact hp2) (by exact hp3) (by exact ⟨la101, ua101⟩)) gX11_last_X5_look rfl hdX5_look (by decide) (Nat.le_of_ble_eq_true rfl) dX11_last_19 rfl (fun M104 h105 => ?_)
  obtain ⟨hM104, fM104, h106⟩ := h105
  have e88M104 : gp = M104.2.2 88 9 := by exact h106.2.2.symm
  have u107l : b01 (LKP M104 gp (rwX M0 gp 12)) = 1 := by rw [← se_id M0 gp 12]; exact h106.1
  have u107e := lkp_e (M := M104) (p := gp) (f := (rwX M0 gp 12)) u107l
  have u107n := en_8 (f := (rwX M0 gp 12)) (-1) (by exact ⟨u107e.2.1.1.1, u107e.2.1.1.2⟩) (by exact ⟨u107e.2.1.2.1.1, (by omega)⟩)
  have u107a := tn_a (M := M104) (p := gp) (f := (rwX M0 gp 12)) (by exact h106.2.1)
  refine j_aload_n C 0 0 dX11_last_22 rfl rfl ?_
  refine y_getC C 10 88 fX11_last_94 rfl rfl ft_10_14 sm_10_14 rfl hM104 dX11_last_23 ?_
  refine j_callVi C (d := 1) (As := []) (st := []) 88 (s_lt rfl rfl) (s_kc (c := 4) rfl rfl) (by decide) rfl (s2_X5_lastLeft hM104 gp cgp (e88M104) (rwX M0 gp 12) (by exact u107l)) gX11_last_X5_lastLeft rfl hdX5_lastLeft (by decide) (Nat.le_of_ble_eq_true rfl) dX11_last_26 rfl (fun r108 M109 h110 => ?_)
  obtain ⟨a112, rfl, rfl, h111⟩ := h110
  obtain rfl : a112 = (laA (rwX M0 gp 12)) := by exact h111.2.2
  exact hret _ _ _ _ dX11_last_29 ⟨(laA (rwX M0 gp 12)), rfl, hM104, (FX.rf.tr fM104 (by decide)), by exact ⟨h111.1, ⟨h111.2.1, ⟨h111.2.2, u107a⟩⟩⟩⟩
set_option maxHeartbeats 4000000 in
theorem s2_X11_putBytes {l : Launch} {dC : Nat → ClassId} {dI : Nat → Nat → Nat} {ad : Nat → Nat} {cA : Nat → ClassId} {pr : Nat → Nat → Bool} {Kz : mm_M} {M0 : mm_M} (hM0 : INV pr Kz M0) (hpr : PX pr) (hq20 : ∀ i k, s_c i = 20 → pr i k = false) (hq10_1 : ∀ i, s_c i = 10 → pr i 1 = false) (a1 : Int) (ha1 : -2147483648 ≤ a1 ∧ a1 ≤ 2147483647) (hp0 : (M0.1 0 1).toInt ≤ 896) : Cv l 0 yX11_putBytes wsX11_putBytes dC dI ad cA [.ref (ad 0), .int (sI a1)] M0 (fun M' => INV pr Kz M' ∧ FX [0, 1] M0 M' ∧ ((M'.1 0 1).toInt = (M0.1 0 1).toInt + 4 ∨ 896 < (M0.1 0 1).toInt) ∧ (b01 (PBX M0 M' a1) = 1)) := by
  refine cv_of (cc := cX11_putBytes) (maxL := 3) (lv := [(0, .ref (ad 0)), (1, .int (sI a1))]) (by decide) rfl (Nat.le_of_ble_eq_true rfl) rfl ?_
  intro p e s m args below meth c A Q C hret
  refine y_bipush C dX11_putBytes_0 rfl ?_
  refine j_istore_n C 2 [(2, .int (sI 24)), (0, .ref (ad 0)), (1, .int (sI a1))] dX11_putBytes_2 rfl (by decide) rfl ?_
  have u101z := pbx0 M0 a1
  have L119 : ∀ (n117 : Nat), ∀ (a120 : Int) (M121 : mm_M), ((-8) ≤ a120 ∧ a120 ≤ 24 ∧ (8 * (M121.1 0 1).toInt + a120 = 8 * (M0.1 0 1).toInt + 24 ∨ 896 < (M0.1 0 1).toInt) ∧ (b01 (PBX M0 M121 a1) = 1) ∧ ((M0.1 0 1).toInt ≤ (M121.1 0 1).toInt) ∧ (a120 - (-8)) < (n117 : Int)) → INV pr Kz M121 → FX [0, 1] M0 M121 → jj p l e (cn_R 0) s m args below meth c 0 0 Q 3 dC dI ad cA A M121 3 [(0, .ref (ad 0)), (1, .int (sI a1)), (2, .int (sI a120))] [] := by
    intro n117
    induction n117 with
    | zero =>
      intro a120 M121 h122 hM121 fM121
      exfalso; omega
    | succ n117 ih118 =>
      intro a120 M121 h122 hM121 fM121
      refine j_iload_n C 2 2 dX11_putBytes_3 rfl rfl ?_
      refine y_if_lt C 51 dX11_putBytes_4 (by decide) (by omega) (fun h123 => ?_) (fun h123 => ?_)
      · exact hret _ _ _ dX11_putBytes_51 ⟨hM121, (FX.rf.tr fM121 (by decide)), by exact ⟨(by (clear fM121 hM121 ih118 u101z hret C ha1 hq10_1 hq20 hpr hM0; omega)), h122.2.2.2.1⟩⟩
      · refine j_aload_n C 0 0 dX11_putBytes_7 rfl rfl ?_
        refine y_getI C 10 _ _ fX11_putBytes_13 rfl rfl ft_10_1 sb_10_1 hM121 dX11_putBytes_8 (fun a124 ea124 la124 ua124 => ?_)
        refine j_aload_n C 0 0 dX11_putBytes_11 rfl rfl ?_
        refine y_getC C 10 1 fX11_putBytes_9 rfl rfl ft_10_0 sm_10_0 rfl hM121 dX11_putBytes_12 ?_
        refine y_alen C 20 900 rfl rfl rfl an_20 rfl rfl dX11_putBytes_15 ?_
        refine y_icmp_ge C 51 dX11_putBytes_16 (by decide) (by exact ⟨⟨(by omega), (by omega)⟩, ⟨(by decide), (by decide)⟩⟩) (fun h126 => ?_) (fun h126 => ?_)
        · exact hret _ _ _ dX11_putBytes_51 ⟨hM121, (FX.rf.tr fM121 (by decide)), by exact ⟨(by (clear fM121 hM121 ih118 u101z hret C ha1 hq10_1 hq20 hpr hM0; omega)), h122.2.2.2.1⟩⟩
        · refine j_aload_n C 0 0 dX11_putBytes_19 rfl rfl ?_
          refine y_getC C 10 1 fX11_putBytes_9 rfl rfl ft_10_0 sm_10_0 rfl hM121 dX11_putBytes_20 ?_
          refine j_aload_n C 0 0 dX11_putBytes_23 rfl rfl ?_
          refine y_getI C 10 _ _ fX11_putBytes_13 rfl rfl ft_10_1 sb_10_1 hM121 dX11_putBytes_24 (fun a127 ea127 la127 ua127 => ?_)
          refine j_iload_n C 1 1 dX11_putBytes_27 rfl rfl ?_
          refine j_iload_n C 2 2 dX11_putBytes_28 rfl rfl ?_
          refine e_iushr C dX11_putBytes_29 (fun lb129 ub129 => ?_)
          refine y_sipush C dX11_putBytes_30 rfl ?_
          refine e_iandR C dX11_putBytes_33 (by exact ⟨(by decide), (by decide)⟩) (fun lb130 ub130 => ?_)
          refine y_iast C 20 900 _ _ rfl rfl rfl ak_20 an_20 rfl (sb_20 _) hM121 (hq20 _ _ rfl) dX11_putBytes_34 (by exact ⟨la127, (by (clear ub130 lb130 ub129 lb129 ua127 la127 h123 fM121 hM121 h122 ih118 u101z hret C hp0 ha1 hq10_1 hq20 hpr hM0; omega))⟩) (by exact ⟨⟨(by (clear ub129 lb129 ua127 la127 ea127 h126 ua124 la124 ea124 h123 fM121 hM121 h122 ih118 u101z hret C hp0 ha1 hq10_1 hq20 hpr hM0; omega)), (by (clear ub129 lb129 ua127 la127 ea127 h126 ua124 la124 ea124 h123 fM121 hM121 h122 ih118 u101z hret C hp0 ha1 hq10_1 hq20 hpr hM0; omega))⟩, ⟨lb130, ub130⟩⟩) (fun M131 eM131 hM131 => ?_)
          refine j_aload_n C 0 0 dX11_putBytes_35 rfl rfl ?_
          refine j_dup C dX11_putBytes_36 rfl ?_
          refine y_getI C 10 _ _ fX11_putBytes_13 rfl rfl ft_10_1 sb_10_1 hM131 dX11_putBytes_37 (fun a132 ea132 la132 ua132 => ?_)
          have qa132 : a132 = a124 := (s_fa eM131 (by decide) (ea132)).trans ea124.symm
          refine y_iconst C dX11_putBytes_40 ?_
          refine y_iadd C dX11_putBytes_41 ?_
          refine y_putI C 10 _ _ qX11_putBytes_13 rfl rfl ft_10_1 sb_10_1 hM131 (hq10_1 _ rfl) dX11_putBytes_42 (by (clear ua132 la132 hM131 eM131 ub130 lb130 ub129 lb129 ua127 la127 h123 fM121 hM121 h122 ih118 u101z hret C hp0 ha1 hq10_1 hq20 hpr hM0; omega)) (fun M134 eM134 hM134 => ?_)
          refine y_iinc C 2 [(2, .int (sI (a120 + (-8)))), (0, .ref (ad 0)), (1, .int (sI a1))] dX11_putBytes_45 rfl (by decide) rfl ?_
          refine j_goto C 3 dX11_putBytes_48 (by decide) ?_
          have u135s := pbxt (M0 := M0) (M := M121) (x := a1) (by exact h122.2.2.2.1) eM131 eM134 (by (clear hM134 eM134 ua132 la132 hM131 eM131 ub130 lb130 ub129 lb129 ua127 la127 h126 ua124 la124 h123 fM121 hM121 h122 ih118 u101z hret C hp0 ha1 hq10_1 hq20 hpr hM0; omega)) (by exact ⟨ea127, ⟨(by (clear hM134 eM134 ua132 la132 hM131 eM131 ub130 lb130 ub129 lb129 ua127 la127 h123 fM121 hM121 ih118 u101z hret C hp0 ha1 hq10_1 hq20 hpr hM0; omega)), ⟨la127, ua127⟩⟩⟩) ⟨rfl, by omega, by omega⟩ (by (clear hM134 eM134 ua132 la132 hM131 eM131 ub130 lb130 ub129 lb129 ua127 la127 h126 ua124 la124 h123 fM121 hM121 ih118 u101z hret C ha1 hq10_1 hq20 hpr hM0; omega))
          have zz0_1 := (Eq.trans (rfl : (M134.1 0 1).toInt = (M134.1 0 1).toInt) (s_wr eM134 (by (clear u135s hM134 eM134 ua132 la132 hM131 eM131 ub130 lb130 ub129 lb129 ua127 la127 h123 fM121 hM121 h122 ih118 u101z hret C hp0 ha1 hq10_1 hq20 hpr hM0; omega)))); refine j_lv [1, 2, 0] rfl ?_; exact ih118 (a120 + (-8)) M134 (by exact ⟨(by (clear hM134 eM134 ua132 la132 hM131 eM131 ub130 lb130 ub129 lb129 ua127 la127 h126 ua124 la124 fM121 hM121 ih118 u101z hret C ha1 hq10_1 hq20 hpr hM0; omega)), ⟨(by (clear hM134 eM134 ua132 la132 hM131 eM131 ub130 lb130 ub129 lb129 ua127 la127 h126 ua124 la124 fM121 hM121 ih118 u101z hret C ha1 hq10_1 hq20 hpr hM0; omega)), ⟨(by (clear hM134 eM134 ua132 la132 hM131 eM131 ub130 lb130 ub129 lb129 ua127 la127 h126 ua124 la124 fM121 hM121 ih118 u101z hret C ha1 hq10_1 hq20 hpr hM0; omega)), ⟨u135s, ⟨(by (clear hM134 eM134 ua132 la132 hM131 eM131 ub130 lb130 ub129 lb129 ua127 la127 h126 ua124 la124 fM121 hM121 ih118 u101z hret C ha1 hq10_1 hq20 hpr hM0; omega)), (by (clear hM134 eM134 ua132 la132 hM131 eM131 ub130 lb130 ub129 lb129 ua127 la127 h126 ua124 la124 fM121 hM121 ih118 u101z hret C ha1 hq10_1 hq20 hpr hM0; omega))⟩⟩⟩⟩⟩) hM134 (((FX.rf.tr fM121 (by decide)).wI eM131 (by decide)).wI eM134 (by decide))
  refine j_lv [1, 2, 0] rfl ?_; exact L119 2010 24 M0 (by exact ⟨(by decide), ⟨(by decide), ⟨(by (clear L119 hret C hp0 ha1 hq10_1 hq20 hpr hM0; omega)), ⟨u101z, ⟨(by (clear L119 hret C hp0 ha1 hq10_1 hq20 hpr hM0; omega)), (by decide)⟩⟩⟩⟩⟩) hM0 FX.rf
set_option maxHeartbeats 4000000 in
theorem s2_X11_feed {l : Launch} {dC : Nat → ClassId} {dI : Nat → Nat → Nat} {ad : Nat → Nat} {cA : Nat → ClassId} {pr : Nat → Nat → Bool} {Kz : mm_M} {M0 : mm_M} (hM0 : INV pr Kz M0) (hpr : PX pr) (hq20 : ∀ i k, s_c i = 20 → pr i k = false) (hq10_1 : ∀ i, s_c i = 10 → pr i 1 = false) (a1 : Int) (ha1 : -2147483648 ≤ a1 ∧ a1 ≤ 2147483647) (a2 : Int) (ha2 : -2147483648 ≤ a2 ∧ a2 ≤ 2147483647) (a3 : Int) (ha3 : -2147483648 ≤ a3 ∧ a3 ≤ 2147483647) (a4 : Int) (ha4 : -2147483648 ≤ a4 ∧ a4 ≤ 2147483647) (a5 : Int) (ha5 : -2147483648 ≤ a5 ∧ a5 ≤ 2147483647) : Ci l 1 yX11_feed wsX11_feed dC dI ad cA [.ref (ad 0), .int (sI a1), .int (sI a2), .int (sI a3), .int (sI a4), .int (sI a5)] M0 (fun r M' => ∃ a : Int, r = sI a ∧ INV pr Kz M' ∧ FX [0, 1] M0 M' ∧ (-5) ≤ a ∧ a ≤ 900 ∧ ((M0.1 0 1).toInt ≤ 880 ∧ a = (M0.1 0 1).toInt + 20 ∧ (M'.1 0 1).toInt = a ∨ 880 < (M0.1 0 1).toInt ∧ a = -5 ∧ (M'.1 0 1).toInt = (M0.1 0 1).toInt) ∧ (b01 (FDX M0 M' a1 a2 a3 a4 a5) = 1)) := by
  refine ci_of (cc := cX11_feed) (maxL := 6) (ty := .int) (lv := [(0, .ref (ad 0)), (1, .int (sI a1)), (2, .int (sI a2)), (3, .int (sI a3)), (4, .int (sI a4)), (5, .int (sI a5))]) (by decide) rfl (fun r M' hp => rfl) (Nat.le_of_ble_eq_true rfl) rfl ?_
  intro p e s m args below meth c A Q C hret
  refine j_aload_n C 0 0 dX11_feed_0 rfl rfl ?_
  refine y_getI C 10 _ _ fX11_feed_13 rfl rfl ft_10_1 sb_10_1 hM0 dX11_feed_1 (fun a101 ea101 la101 ua101 => ?_)
  refine y_bipush C dX11_feed_4 rfl ?_
  refine y_iadd C dX11_feed_6 ?_
  refine y_sipush C dX11_feed_7 rfl ?_
  refine y_icmp_le C 16 dX11_feed_10 (by decide) (by exact ⟨⟨(by (clear hret C ha5 ha4 ha3 ha2 ha1 hq10_1 hq20 hpr hM0; omega)), (by (clear hret C ha5 ha4 ha3 ha2 ha1 hq10_1 hq20 hpr hM0; omega))⟩, ⟨(by decide), (by decide)⟩⟩) (fun h103 => ?_) (fun h103 => ?_)
  · refine j_aload_n C 0 0 dX11_feed_16 rfl rfl ?_
    refine j_iload_n C 1 1 dX11_feed_17 rfl rfl ?_
    refine j_callVv C (d := 0) (As := [.int (sI a1)]) (st := []) 0 (s_lt rfl rfl) (s_kc (c := 10) rfl rfl) (by decide) rfl (s2_X11_putBytes hM0 hpr hq20 hq10_1 a1 (by exact ⟨ha1.1, ha1.2⟩) (by (clear hret C ha5 ha4 ha3 ha2 ha1 hq10_1 hq20 hpr hM0; omega))) gX11_feed_X11_putBytes rfl hdX11_putBytes (by decide) (Nat.le_of_ble_eq_true rfl) dX11_feed_18 rfl (fun M105 h106 => ?_)
    obtain ⟨hM105, fM105, h107⟩ := h106
    refine j_aload_n C 0 0 dX11_feed_21 rfl rfl ?_
    refine j_iload_n C 2 2 dX11_feed_22 rfl rfl ?_
    refine j_callVv C (d := 0) (As := [.int (sI a2)]) (st := []) 0 (s_lt rfl rfl) (s_kc (c := 10) rfl rfl) (by decide) rfl (s2_X11_putBytes hM105 hpr hq20 hq10_1 a2 (by exact ⟨ha2.1, ha2.2⟩) (by (clear fM105 hM105 hret C ha5 ha4 ha3 ha2 ha1 hq10_1 hq20 hpr hM0; omega))) gX11_feed_X11_putBytes rfl hdX11_putBytes (by decide) (Nat.le_of_ble_eq_true rfl) dX11_feed_23 rfl (fun M109 h110 => ?_)
    obtain ⟨hM109, fM109, h111⟩ := h110
    refine j_aload_n C 0 0 dX11_feed_26 rfl rfl ?_
    refine j_iload_n C 3 3 dX11_feed_27 rfl rfl ?_
    refine j_callVv C (d := 0) (As := [.int (sI a3)]) (st := []) 0 (s_lt rfl rfl) (s_kc (c := 10) rfl rfl) (by decide) rfl (s2_X11_putBytes hM109 hpr hq20 hq10_1 a3 (by exact ⟨ha3.1, ha3.2⟩) (by (clear fM109 hM109 fM105 hM105 hret C ha5 ha4 ha3 ha2 ha1 hq10_1 hq20 hpr hM0; omega))) gX11_feed_X11_putBytes rfl hdX11_putBytes (by decide) (Nat.le_of_ble_eq_true rfl) dX11_feed_28 rfl (fun M113 h114 => ?_)
    obtain ⟨hM113, fM113, h115⟩ := h114
    refine j_aload_n C 0 0 dX11_feed_31 rfl rfl ?_
    refine j_iload C 4 dX11_feed_32 rfl ?_
    refine j_callVv C (d := 0) (As := [.int (sI a4)]) (st := []) 0 (s_lt rfl rfl) (s_kc (c := 10) rfl rfl) (by decide) rfl (s2_X11_putBytes hM113 hpr hq20 hq10_1 a4 (by exact ⟨ha4.1, ha4.2⟩) (by (clear fM113 hM113 fM109 hM109 fM105 hM105 hret C ha5 ha4 ha3 ha2 ha1 hq10_1 hq20 hpr hM0; omega))) gX11_feed_X11_putBytes rfl hdX11_putBytes (by decide) (Nat.le_of_ble_eq_true rfl) dX11_feed_34 rfl (fun M117 h118 => ?_)
    obtain ⟨hM117, fM117, h119⟩ := h118
    refine j_aload_n C 0 0 dX11_feed_37 rfl rfl ?_
    refine j_iload C 5 dX11_feed_38 rfl ?_
    refine j_callVv C (d := 0) (As := [.int (sI a5)]) (st := []) 0 (s_lt rfl rfl) (s_kc (c := 10) rfl rfl) (by decide) rfl (s2_X11_putBytes hM117 hpr hq20 hq10_1 a5 (by exact ⟨ha5.1, ha5.2⟩) (by (clear fM117 hM117 fM113 hM113 fM109 hM109 fM105 hM105 hret C ha5 ha4 ha3 ha2 ha1 hq10_1 hq20 hpr hM0; omega))) gX11_feed_X11_putBytes rfl hdX11_putBytes (by decide) (Nat.le_of_ble_eq_true rfl) dX11_feed_40 rfl (fun M121 h122 => ?_)
    obtain ⟨hM121, fM121, h123⟩ := h122
    refine j_aload_n C 0 0 dX11_feed_43 rfl rfl ?_
    refine y_getI C 10 _ _ fX11_feed_13 rfl rfl ft_10_1 sb_10_1 hM121 dX11_feed_44 (fun a124 ea124 la124 ua124 => ?_)
    have u126f := fdx5 (a := a1) (b := a2) (c := a3) (d := a4) (e := a5) (M := M0) (M1 := M105) (M2 := M109) (M3 := M113) (M4 := M117) (M5 := M121) (by exact h107.2) (by exact h111.2) (by exact h115.2) (by exact h119.2) (by exact h123.2) (by (clear fM121 hM121 fM117 hM117 fM113 hM113 fM109 hM109 fM105 hM105 hret C ha5 ha4 ha3 ha2 ha1 hq10_1 hq20 hpr hM0; omega))
    exact hret _ _ _ _ dX11_feed_47 ⟨a124, rfl, hM121, (((((FX.rf.tr fM105 (by decide)).tr fM109 (by decide)).tr fM113 (by decide)).tr fM117 (by decide)).tr fM121 (by decide)), by exact ⟨(by (clear fM121 hM121 fM117 hM117 fM113 hM113 fM109 hM109 fM105 hM105 hret C ha5 ha4 ha3 ha2 ha1 hq10_1 hq20 hpr hM0; omega)), ⟨ua124, ⟨(by (clear fM121 hM121 fM117 hM117 fM113 hM113 fM109 hM109 fM105 hM105 hret C ha5 ha4 ha3 ha2 ha1 hq10_1 hq20 hpr hM0; omega)), u126f⟩⟩⟩⟩
  · refine y_bipush C dX11_feed_13 rfl ?_
    have u127z := fdx0 M0 a1 a2 a3 a4 a5
    exact hret _ _ _ _ dX11_feed_15 ⟨(-5), rfl, hM0, FX.rf, by exact ⟨(by decide), ⟨(by decide), ⟨(by (clear hret C ha5 ha4 ha3 ha2 ha1 hq10_1 hq20 hpr hM0; omega)), u127z⟩⟩⟩⟩
end
