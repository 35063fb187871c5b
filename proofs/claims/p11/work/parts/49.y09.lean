section
set_option maxHeartbeats 4000000 in
theorem s2_X5_isShutAt {l : Launch} {dC : Nat → ClassId} {dI : Nat → Nat → Nat} {ad : Nat → Nat} {cA : Nat → ClassId} {pr : Nat → Nat → Bool} {Kz : mm_M} {M0 : mm_M} (hM0 : INV pr Kz M0) (a1 : Int) (ha1 : -2147483648 ≤ a1 ∧ a1 ≤ 2147483647) : Ci l 0 yX5_isShutAt wsX5_isShutAt dC dI ad cA [.ref (ad 88), .int (sI a1)] M0 (fun r M' => ∃ a : Int, r = sI a ∧ M0 = M' ∧ 0 ≤ a ∧ a ≤ 1 ∧ (a = 1 ∧ andI (M0.1 88 12).toInt (-1 - a1) = 0 ∨ a = 0 ∧ ¬ andI (M0.1 88 12).toInt (-1 - a1) = 0)) := by
  refine ci_of (cc := cX5_isShutAt) (maxL := 2) (ty := .boolean) (lv := [(0, .ref (ad 88)), (1, .int (sI a1))]) (by decide) rfl (fun r M' hp => by obtain ⟨a, rfl, -, h⟩ := hp; rcases (show a = 0 ∨ a = 1 by omega) with rfl | rfl <;> rfl) (Nat.le_of_ble_eq_true rfl) rfl ?_
  intro p e s m args below meth c A Q C hret
  refine j_aload_n C 0 0 dX5_isShutAt_0 rfl rfl ?_
  refine y_getI C 4 _ _ fX5_isShutAt_42 rfl rfl ft_4_12 sb_4_12 hM0 dX5_isShutAt_1 (fun a101 ea101 la101 ua101 => ?_)
  obtain rfl : a101 = (M0.1 88 12).toInt := ea101
  refine j_iload_n C 1 1 dX5_isShutAt_4 rfl rfl ?_
  refine y_iconst C dX5_isShutAt_5 ?_
  refine y_not C dX5_isShutAt_6 ?_
  refine e_iandL C dX5_isShutAt_7 (by exact ⟨la101, (by omega)⟩) (fun lb103 ub103 => ?_)
  refine y_if_ne C 15 dX5_isShutAt_8 (by decide) (by omega) (fun h104 => ?_) (fun h104 => ?_)
  · refine y_iconst C dX5_isShutAt_15 ?_
    exact hret _ _ _ _ dX5_isShutAt_16 ⟨0, rfl, rfl, by exact ⟨(by decide), ⟨(by decide), (by omega)⟩⟩⟩
  · refine y_iconst C dX5_isShutAt_11 ?_
    refine j_goto C 16 dX5_isShutAt_12 (by decide) ?_
    exact hret _ _ _ _ dX5_isShutAt_16 ⟨1, rfl, rfl, by exact ⟨(by decide), ⟨(by decide), (by omega)⟩⟩⟩
set_option maxHeartbeats 4000000 in
theorem s3_X5_pick {l : Launch} {dC : Nat → ClassId} {dI : Nat → Nat → Nat} {ad : Nat → Nat} {cA : Nat → ClassId} {pr : Nat → Nat → Bool} {Kz : mm_M} {M0 : mm_M} (hM0 : INV pr Kz M0) (a1 : Int) (ha1 : -2147483648 ≤ a1 ∧ a1 ≤ 2147483647) (a2 : Int) (ha2 : -2147483648 ≤ a2 ∧ a2 ≤ 2147483647) (hp0 : 0 ≤ a1 ∧ a1 ≤ 255) (hp1 : 0 ≤ a2 ∧ a2 ≤ 5) : Ci l 0 yX5_pick wsX5_pick dC dI ad cA [.ref (ad 88), .int (sI a1), .int (sI a2)] M0 (fun r M' => ∃ a : Int, r = sI a ∧ M0 = M' ∧ (-1) ≤ a ∧ a ≤ 7 ∧ (a = ((M0.1 89 (6 * a1 + a2).toNat).toInt))) := by
  refine ci_of (cc := cX5_pick) (maxL := 4) (ty := .int) (lv := [(0, .ref (ad 88)), (1, .int (sI a1)), (2, .int (sI a2))]) (by decide) rfl (fun r M' hp => rfl) (Nat.le_of_ble_eq_true rfl) rfl ?_
  intro p e s m args below meth c A Q C hret
  refine j_iload_n C 1 1 dX5_pick_0 rfl rfl ?_
  refine y_bipush C dX5_pick_1 rfl ?_
  refine y_imul C dX5_pick_3 ?_
  refine j_iload_n C 2 2 dX5_pick_4 rfl rfl ?_
  refine y_iadd C dX5_pick_5 ?_
  refine j_istore_n C 3 [(3, .int (sI ((a1 * 6) + a2))), (0, .ref (ad 88)), (1, .int (sI a1)), (2, .int (sI a2))] dX5_pick_6 rfl (by decide) rfl ?_
  refine j_iload_n C 0 3 dX5_pick_7 rfl rfl ?_
  refine y_if_lt C 29 dX5_pick_8 (by decide) (by omega) (fun h101 => ?_) (fun h101 => ?_)
  · exfalso; omega
  · refine j_iload_n C 0 3 dX5_pick_11 rfl rfl ?_
    refine j_aload_n C 1 0 dX5_pick_12 rfl rfl ?_
    refine y_getC C 4 89 fX5_pick_9 rfl rfl ft_4_1 sm_4_1 rfl hM0 dX5_pick_13 ?_
    refine y_alen C 38 1536 rfl rfl rfl an_38 rfl rfl dX5_pick_16 ?_
    refine y_icmp_ge C 29 dX5_pick_17 (by decide) (by exact ⟨⟨(by omega), (by omega)⟩, ⟨(by decide), (by decide)⟩⟩) (fun h102 => ?_) (fun h102 => ?_)
    · exfalso; (clear h101 hret C hM0; omega)
    · refine j_aload_n C 1 0 dX5_pick_20 rfl rfl ?_
      refine y_getC C 4 89 fX5_pick_9 rfl rfl ft_4_1 sm_4_1 rfl hM0 dX5_pick_21 ?_
      refine j_iload_n C 0 3 dX5_pick_24 rfl rfl ?_
      refine y_iald C 38 1536 _ _ rfl rfl rfl ak_38 an_38 rfl (sb_38 _) hM0 dX5_pick_25 (by (clear hret C hp1 hp0 ha2 ha1 hM0; omega)) (fun a103 ea103 la103 ua103 => ?_)
      obtain rfl : a103 = (M0.1 89 (((a1 * 6) + a2)).toNat).toInt := ea103
      refine j_goto C 30 dX5_pick_26 (by decide) ?_
      have u104e : (M0.1 89 ((a1 * 6) + a2).toNat).toInt = (M0.1 89 (6 * a1 + a2).toNat).toInt := by rw [show ((a1 * 6) + a2).toNat = (6 * a1 + a2).toNat by (clear ua103 la103 hret C hp1 hp0 ha2 ha1 hM0; omega)]
      exact hret _ _ _ _ dX5_pick_30 ⟨(M0.1 89 (((a1 * 6) + a2)).toNat).toInt, rfl, rfl, by exact ⟨la103, ⟨ua103, u104e⟩⟩⟩
set_option maxHeartbeats 4000000 in
theorem s2_X5_stepsFrom {l : Launch} {dC : Nat → ClassId} {dI : Nat → Nat → Nat} {ad : Nat → Nat} {cA : Nat → ClassId} {pr : Nat → Nat → Bool} {Kz : mm_M} {M0 : mm_M} (hM0 : INV pr Kz M0) (a1 : Int) (ha1 : -2147483648 ≤ a1 ∧ a1 ≤ 2147483647) (a2 : Int) (ha2 : -2147483648 ≤ a2 ∧ a2 ≤ 2147483647) (gp : Nat) (cgp : s_c gp = 6) (egp : gp = M0.2.2 88 9) (f : Nat → Int32) (ga : Int) (hp0 : b01 (LKP M0 gp f) = 1) (hp1 : b01 (FRQ M0 f ga a1) = 1) (hp2 : b01 (CMB a2 ga (f 1).toInt) = 1) (hp3 : (M0.1 90 (a1).toNat).toInt = 1) (hp4 : ¬ shF f a1 = 1) (hp5 : (f 27).toInt ≤ a1 ∧ a1 ≤ evF f) (hp6 : 0 ≤ a1 ∧ a1 ≤ 255) : Ci l 1 yX5_stepsFrom wsX5_stepsFrom dC dI ad cA [.ref (ad 88), .int (sI a1), .int (sI a2)] M0 (fun r M' => ∃ a : Int, r = sI a ∧ M0 = M' ∧ (-1) ≤ a ∧ a ≤ 255 ∧ (a = (fxV (edF f ga a1)))) := by
  refine ci_of (cc := cX5_stepsFrom) (maxL := 7) (ty := .int) (lv := [(0, .ref (ad 88)), (1, .int (sI a1)), (2, .int (sI a2))]) (by decide) rfl (fun r M' hp => rfl) (Nat.le_of_ble_eq_true rfl) rfl ?_
  intro p e s m args below meth c A Q C hret
  have u101e := lkp_e (M := M0) (p := gp) (f := f) (by exact hp0)
  have u101z := edE_0 (edF f ga) f ga a1
  have u101y := fxV_s (edE (edF f ga) f ga a1 (0 : Int).toNat)
  refine y_iconst C dX5_stepsFrom_0 ?_
  refine j_istore_n C 3 [(3, .int (sI (-1))), (0, .ref (ad 88)), (1, .int (sI a1)), (2, .int (sI a2))] dX5_stepsFrom_1 rfl (by decide) rfl ?_
  refine y_iconst C dX5_stepsFrom_2 ?_
  refine j_istore C 4 [(4, .int (sI 0)), (3, .int (sI (-1))), (0, .ref (ad 88)), (1, .int (sI a1)), (2, .int (sI a2))] dX5_stepsFrom_3 (by decide) rfl ?_
  have L139 : ∀ (n137 : Nat), ∀ (a140 : Int) (a141 : Int), ((-1) ≤ a140 ∧ a140 ≤ 255 ∧ 0 ≤ a141 ∧ a141 ≤ 6 ∧ (a140 = fxV (edE (edF f ga) f ga a1 (a141).toNat)) ∧ (a141 ≤ (f 1).toInt) ∧ (6 - a141) < (n137 : Int)) → jj p l e (cn_R 1) s m args below meth c 0 0 Q 7 dC dI ad cA A M0 5 [(0, .ref (ad 88)), (1, .int (sI a1)), (2, .int (sI a2)), (3, .int (sI a140)), (4, .int (sI a141))] [] := by
    intro n137
    induction n137 with
    | zero =>
      intro a140 a141 h142
      exfalso; (clear u101y u101z u101e hret C hp6 hp5 hp4 hp3 hp2 hp1 hp0 egp cgp ha2 ha1 hM0; omega)
    | succ n137 ih138 =>
      intro a140 a141 h142
      refine j_iload C 4 dX5_stepsFrom_5 rfl ?_
      refine j_aload_n C 0 0 dX5_stepsFrom_7 rfl rfl ?_
      refine y_getV C 4 gp fX5_stepsFrom_52 rfl rfl ft_4_9 (egp) dX5_stepsFrom_8 ?_
      refine y_getI C 6 _ _ fX5_stepsFrom_92 cgp rfl ft_6_0 sb_6_0 hM0 dX5_stepsFrom_11 (fun a143 ea143 la143 ua143 => ?_)
      obtain rfl : a143 = (M0.1 gp 0).toInt := ea143
      refine y_icmp_ge C 92 dX5_stepsFrom_14 (by decide) (by (clear ua143 la143 ih138 u101y u101z hret C hp6 hp5 hp4 hp3 hp2 hp1 hp0 egp cgp ha2 ha1 hM0; omega)) (fun h145 => ?_) (fun h145 => ?_)
      · have u176x : a141 = (f 1).toInt := by (clear ua143 la143 ih138 u101y u101z hret C hp6 hp5 hp4 hp3 hp2 hp1 hp0 egp cgp ha2 ha1 hM0; omega)
        have u176y : fxV (edE (edF f ga) f ga a1 (a141).toNat) = fxV (edE (edF f ga) f ga a1 (f 1).toInt.toNat) := by rw [u176x]
        have u176z : fxV (edF f ga a1) = fxV (edE (edF f ga) f ga a1 (f 1).toInt.toNat) := by rw [edF_e (by exact ⟨u101e.2.1.1.1, u101e.2.1.1.2⟩) (by exact ⟨hp6.1, hp6.2⟩)]
        refine j_iload_n C 3 3 dX5_stepsFrom_92 rfl rfl ?_
        exact hret _ _ _ _ dX5_stepsFrom_93 ⟨a140, rfl, rfl, by exact ⟨h142.1, ⟨h142.2.1, (by (clear u176x h145 ua143 la143 ih138 u101y u101z u101e hret C hp6 hp5 hp4 hp3 hp2 hp1 hp0 egp cgp ha2 ha1 hM0; omega))⟩⟩⟩
      · have u146g := lkp_g (M := M0) (p := gp) (f := f) (by exact hp0) (s := a1) (b := a141) (by exact ⟨hp5.1, ⟨hp5.2, ⟨h142.2.2.1, (by (clear ua143 la143 ih138 u101y u101z hret C hp6 hp4 hp3 hp2 hp1 hp0 egp cgp ha2 ha1 hM0; omega))⟩⟩⟩) (by exact hp3)
        have u146g1 := u146g.1
        have u146g2 := u146g.2
        have u146q := edE_s (f := f) (a := ga) (s := a1) (b := a141) (b' := a141 + 1) (v := (edE (edF f ga) f ga a1 (a141).toNat)) (edF f ga) (by (clear u146g2 u146g1 u146g h145 ua143 la143 ih138 u101y u101z u101e hret C hp6 hp5 hp4 hp3 hp2 hp1 hp0 egp cgp ha2 ha1 hM0; omega)) rfl
        have u146v := bo_ev (f := f) (b := a141) (s := a1) (by exact ⟨u101e.2.1.1.1, u101e.2.1.1.2⟩) (by exact ⟨hp6.1, hp5.2⟩)
        have u146c := cmb_g (c := a2) (a := ga) (B := (f 1).toInt) (by exact hp2) a141 (by exact ⟨h142.2.2.1, (by (clear u146v u146q u146g2 u146g1 u146g ua143 la143 ih138 u101y u101z hret C hp6 hp5 hp4 hp3 hp2 hp1 hp0 egp cgp ha2 ha1 hM0; omega))⟩)
        have u146x := fxV_s (edE (edF f ga) f ga a1 (a141).toNat)
        have u146y := edE_b (f := f) (a := ga) (s := a1) (by exact ⟨u101e.2.1.1.1, u101e.2.1.1.2⟩) (by exact ⟨hp6.1, hp6.2⟩) (a141).toNat
        have u146w := fxV_s (edE (edF f ga) f ga a1 (a141 + 1).toNat)
        have u146o : orI a1 (pw2 (M0.1 89 (6 * a1 + a141).toNat).toInt) = (orI a1 (pw2 (boF f a141 a1))) := by rw [u146g1]
        have u146p : andI (shrI a1 (M0.1 89 (6 * a1 + a141).toNat).toInt) 1 = andI (shrI a1 (boF f a141 a1)) 1 := by rw [u146g1]
        have u146r : (boF f a141 a1) = -1 ∨ (iiF a1 (boF f a141 a1) = 0 ∧ andI (shrI a1 (boF f a141 a1)) 1 = 0) ∨ (iiF a1 (boF f a141 a1) = 1 ∧ andI (shrI a1 (boF f a141 a1)) 1 = 1) := by
          by_cases c : (boF f a141 a1) = -1
          · exact Or.inl c
          · exact Or.inr (ii_e (by exact ⟨hp6.1, hp6.2⟩) (by (clear u146p u146o u146w u146y u146x u146c u146q u146g2 u146g1 u146g h145 ua143 la143 h142 ih138 u101y u101z hret C hp6 hp5 hp4 hp3 hp2 hp1 hp0 egp cgp ha2 ha1 hM0; omega)))
        have u146d : (boF f a141 a1) = -1 ∨ ¬ iiF a1 (boF f a141 a1) = 0 ∨ (M0.1 91 (orI a1 (pw2 (boF f a141 a1))).toNat).toInt = fxV (edF f ga (orI a1 (pw2 (boF f a141 a1)))) := by
          by_cases c : (boF f a141 a1) = -1 ∨ ¬ iiF a1 (boF f a141 a1) = 0
          · (clear u146r u146p u146o u146w u146y u146x u146c u146q u146g2 u146g1 u146g h145 ua143 la143 h142 ih138 u101y u101z u101e hret C hp6 hp5 hp4 hp3 hp2 hp1 hp0 egp cgp ha2 ha1 hM0; omega)
          · exact Or.inr (Or.inr (fr_g (M := M0) (f := f) (a := ga) (s := a1) (by exact hp1) _ (by (clear u146p u146o u146g1 u146g h145 ua143 la143 ih138 u101y u101z hret C hp6 hp4 hp3 hp2 hp1 hp0 egp cgp ha2 ha1 hM0; omega))))
        have u146f := fxV_s (edF f ga (orI a1 (pw2 (boF f a141 a1))))
        have u146h : (boF f a141 a1) = -1 ∨ edF f ga (orI a1 (pw2 (boF f a141 a1))) = 268435456 ∨ (0 ≤ edF f ga (orI a1 (pw2 (boF f a141 a1))) ∧ edF f ga (orI a1 (pw2 (boF f a141 a1))) ≤ 255 - (orI a1 (pw2 (boF f a141 a1)))) := by
          by_cases c : (boF f a141 a1) = -1
          · exact Or.inl c
          · exact Or.inr (edF_b (by exact ⟨u101e.2.1.1.1, u101e.2.1.1.2⟩) (by (clear u146p u146o u146q u146g2 u146g1 u146g h145 ua143 la143 h142 ih138 u101y u101z hret C hp6 hp4 hp3 hp2 hp1 hp0 egp cgp ha2 ha1 hM0; omega)))
        have u146n : (M0.1 91 (orI a1 (pw2 (M0.1 89 (6 * a1 + a141).toNat).toInt)).toNat).toInt = (M0.1 91 (orI a1 (pw2 (boF f a141 a1))).toNat).toInt := by rw [u146o]
        have u146a := adI_x ((M0.1 91 (orI a1 (pw2 (M0.1 89 (6 * a1 + a141).toNat).toInt)).toNat).toInt) 1
        refine j_aload_n C 0 0 dX5_stepsFrom_17 rfl rfl ?_
        refine j_iload_n C 1 1 dX5_stepsFrom_18 rfl rfl ?_
        refine j_iload C 4 dX5_stepsFrom_19 rfl ?_
        refine j_callVi C (d := 0) (As := [.int (sI a1), .int (sI a141)]) (st := []) 88 (s_lt rfl rfl) (s_kc (c := 4) rfl rfl) (by decide) rfl (s3_X5_pick hM0 a1 (by exact ⟨ha1.1, ha1.2⟩) a141 (by (clear u146a u146n u146h u146f u146d u146r u146p u146o u146w u146y u146x u146c u146v u146q u146g2 u146g1 u146g h145 ua143 la143 ih138 u101y u101z u101e hret C hp6 hp5 hp4 hp3 hp2 hp1 hp0 egp cgp ha2 ha1 hM0; omega)) (by exact ⟨hp6.1, hp6.2⟩) (by exact ⟨h142.2.2.1, (by (clear u146a u146n u146h u146f u146d u146r u146p u146o u146w u146y u146x u146c u146v u146q u146g2 u146g1 u146g ua143 la143 ih138 u101y u101z hret C hp6 hp5 hp4 hp3 hp2 hp1 hp0 egp cgp ha2 ha1 hM0; omega))⟩)) gX5_stepsFrom_X5_pick rfl hdX5_pick (by decide) (Nat.le_of_ble_eq_true rfl) dX5_stepsFrom_21 rfl (fun r147 M148 h149 => ?_)
        obtain ⟨a151, rfl, rfl, h150⟩ := h149
        obtain rfl : a151 = ((M0.1 89 (6 * a1 + a141).toNat).toInt) := by exact h150.2.2
        refine j_istore C 5 [(5, .int (sI ((M0.1 89 (6 * a1 + a141).toNat).toInt))), (0, .ref (ad 88)), (1, .int (sI a1)), (2, .int (sI a2)), (3, .int (sI a140)), (4, .int (sI a141))] dX5_stepsFrom_24 (by decide) rfl ?_
        refine j_iload_n C 3 2 dX5_stepsFrom_26 rfl rfl ?_
        refine j_iload C 5 dX5_stepsFrom_27 rfl ?_
        refine e_ishr C dX5_stepsFrom_29 (fun lb152 ub152 => ?_)
        refine y_iconst C dX5_stepsFrom_30 ?_
        refine e_iandR C dX5_stepsFrom_31 (by exact ⟨(by decide), (by decide)⟩) (fun lb153 ub153 => ?_)
        refine y_iconst C dX5_stepsFrom_32 ?_
        refine y_icmp_ne C 86 dX5_stepsFrom_33 (by decide) (by exact ⟨⟨(by (clear ub152 lb152 h150 u146a u146n u146h u146f u146d u146r u146p u146o u146w u146y u146x u146c u146v u146q u146g2 u146g1 u146g h145 ua143 la143 h142 ih138 u101y u101z u101e hret C hp6 hp5 hp4 hp3 hp2 hp1 hp0 egp cgp ha2 ha1 hM0; omega)), (by (clear ub152 lb152 h150 u146a u146n u146h u146f u146d u146r u146p u146o u146w u146y u146x u146c u146v u146q u146g2 u146g1 u146g h145 ua143 la143 h142 ih138 u101y u101z u101e hret C hp6 hp5 hp4 hp3 hp2 hp1 hp0 egp cgp ha2 ha1 hM0; omega))⟩, ⟨(by decide), (by decide)⟩⟩) (fun h154 => ?_) (fun h154 => ?_)
        · have u155e : a141 = ga ∨ (boF f a141 a1) = -1 ∨ ¬ iiF a1 (boF f a141 a1) = 0 := by
            clear u146q u146d u146h u146f u146n u146a u146x u146y u146w
            (clear ub152 lb152 u146p u146o u146g2 u146g1 h145 ua143 la143 h142 ih138 u101y u101z u101e hret C hp6 hp5 hp4 hp3 hp2 hp1 hp0 egp cgp ha2 ha1 hM0; omega)
          have u155g : edE (edF f ga) f ga a1 (a141 + 1).toNat = edE (edF f ga) f ga a1 (a141).toNat := by
            rcases u146q with z | z
            · exact z.2
            · exact absurd u155e (fun e => e.elim z.1.1 (fun e => e.elim z.1.2.1 (fun e => e z.1.2.2)))
          clear u146q u146c u146r u146d u146h u146f u146n u146a u146o u146p
          refine y_iinc C 5 [(4, .int (sI (a141 + 1))), (5, .int (sI ((M0.1 89 (6 * a1 + a141).toNat).toInt))), (0, .ref (ad 88)), (1, .int (sI a1)), (2, .int (sI a2)), (3, .int (sI a140))] dX5_stepsFrom_86 rfl (by decide) rfl ?_
          refine j_goto C 5 dX5_stepsFrom_89 (by decide) ?_
          refine j_lv [2, 3, 4, 5, 0] rfl ?_; exact ih138 a140 (a141 + 1) (by exact ⟨h142.1, ⟨h142.2.1, ⟨(by (clear ub152 lb152 h150 u146v u146g2 u146g1 u146g ua143 la143 ih138 u101y u101z hret C hp6 hp4 hp3 hp2 hp1 hp0 egp cgp ha2 ha1 hM0; omega)), ⟨(by (clear ub152 lb152 h150 u146v u146g2 u146g1 u146g ua143 la143 ih138 u101y u101z hret C hp6 hp4 hp3 hp2 hp1 hp0 egp cgp ha2 ha1 hM0; omega)), ⟨(by (clear ub152 lb152 h150 u146v u146g2 u146g1 u146g ua143 la143 ih138 u101y u101z hret C hp6 hp4 hp3 hp2 hp1 hp0 egp cgp ha2 ha1 hM0; omega)), ⟨(by (clear ub152 lb152 h150 u146v u146g2 u146g1 u146g ua143 la143 ih138 u101y u101z hret C hp6 hp4 hp3 hp2 hp1 hp0 egp cgp ha2 ha1 hM0; omega)), (by (clear ub152 lb152 h150 u146v u146g2 u146g1 u146g ua143 la143 ih138 u101y u101z hret C hp6 hp4 hp3 hp2 hp1 hp0 egp cgp ha2 ha1 hM0; omega))⟩⟩⟩⟩⟩⟩)
        · refine j_iload C 0 dX5_stepsFrom_36 rfl ?_
          refine y_if_lt C 86 dX5_stepsFrom_38 (by decide) (by (clear h154 ub153 lb153 ub152 lb152 u146a u146n u146h u146f u146d u146r u146p u146o u146w u146y u146x u146c u146q u146g2 u146g1 h145 ua143 la143 h142 ih138 u101y u101z u101e hret C hp6 hp5 hp4 hp3 hp2 hp1 hp0 egp cgp ha2 ha1 hM0; omega)) (fun h156 => ?_) (fun h156 => ?_)
          · have u157e : a141 = ga ∨ (boF f a141 a1) = -1 ∨ ¬ iiF a1 (boF f a141 a1) = 0 := by
              clear u146q u146d u146h u146f u146n u146a u146x u146y u146w
              (clear h154 ub153 lb153 ub152 lb152 u146r u146p u146o u146c u146g2 u146g1 h145 ua143 la143 h142 ih138 u101y u101z u101e hret C hp6 hp5 hp4 hp3 hp2 hp1 hp0 egp cgp ha2 ha1 hM0; omega)
            have u157g : edE (edF f ga) f ga a1 (a141 + 1).toNat = edE (edF f ga) f ga a1 (a141).toNat := by
              rcases u146q with z | z
              · exact z.2
              · exact absurd u157e (fun e => e.elim z.1.1 (fun e => e.elim z.1.2.1 (fun e => e z.1.2.2)))
            clear u146q u146c u146r u146d u146h u146f u146n u146a u146o u146p
            refine y_iinc C 5 [(4, .int (sI (a141 + 1))), (5, .int (sI ((M0.1 89 (6 * a1 + a141).toNat).toInt))), (0, .ref (ad 88)), (1, .int (sI a1)), (2, .int (sI a2)), (3, .int (sI a140))] dX5_stepsFrom_86 rfl (by decide) rfl ?_
            refine j_goto C 5 dX5_stepsFrom_89 (by decide) ?_
            refine j_lv [2, 3, 4, 5, 0] rfl ?_; exact ih138 a140 (a141 + 1) (by exact ⟨h142.1, ⟨h142.2.1, ⟨(by (clear h156 h154 ub153 lb153 ub152 lb152 h150 u146v u146g2 u146g1 u146g ua143 la143 ih138 u101y u101z hret C hp6 hp4 hp3 hp2 hp1 hp0 egp cgp ha2 ha1 hM0; omega)), ⟨(by (clear h156 h154 ub153 lb153 ub152 lb152 h150 u146v u146g2 u146g1 u146g ua143 la143 ih138 u101y u101z hret C hp6 hp4 hp3 hp2 hp1 hp0 egp cgp ha2 ha1 hM0; omega)), ⟨(by (clear h156 h154 ub153 lb153 ub152 lb152 h150 u146v u146g2 u146g1 u146g ua143 la143 ih138 u101y u101z hret C hp6 hp4 hp3 hp2 hp1 hp0 egp cgp ha2 ha1 hM0; omega)), ⟨(by (clear h156 h154 ub153 lb153 ub152 lb152 h150 u146v u146g2 u146g1 u146g ua143 la143 ih138 u101y u101z hret C hp6 hp4 hp3 hp2 hp1 hp0 egp cgp ha2 ha1 hM0; omega)), (by (clear h156 h154 ub153 lb153 ub152 lb152 h150 u146v u146g2 u146g1 u146g ua143 la143 ih138 u101y u101z hret C hp6 hp4 hp3 hp2 hp1 hp0 egp cgp ha2 ha1 hM0; omega))⟩⟩⟩⟩⟩⟩)
          · refine j_iload_n C 2 1 dX5_stepsFrom_41 rfl rfl ?_
            refine j_iload C 0 dX5_stepsFrom_42 rfl ?_
            refine e_ishrP C dX5_stepsFrom_44 (by exact ⟨hp6.1, ha1.2⟩) (fun lb158 ub158 => ?_)
            refine y_iconst C dX5_stepsFrom_45 ?_
            refine e_iandR C dX5_stepsFrom_46 (by exact ⟨(by decide), (by decide)⟩) (fun lb159 ub159 => ?_)
            refine y_if_ne C 86 dX5_stepsFrom_47 (by decide) (by (clear ub158 lb158 h156 h154 ub153 lb153 ub152 lb152 h150 u146a u146n u146h u146f u146d u146r u146o u146w u146y u146x u146c u146v u146q u146g2 u146g1 u146g h145 ua143 la143 h142 ih138 u101y u101z u101e hret C hp6 hp5 hp4 hp3 hp2 hp1 hp0 egp cgp ha2 ha1 hM0; omega)) (fun h160 => ?_) (fun h160 => ?_)
            · have u161e : a141 = ga ∨ (boF f a141 a1) = -1 ∨ ¬ iiF a1 (boF f a141 a1) = 0 := by
                clear u146q u146d u146h u146f u146n u146a u146x u146y u146w
                (clear ub158 lb158 h154 ub153 lb153 ub152 lb152 u146o u146c u146g2 u146g1 h145 ua143 la143 h142 ih138 u101y u101z u101e hret C hp6 hp5 hp4 hp3 hp2 hp1 hp0 egp cgp ha2 ha1 hM0; omega)
              have u161g : edE (edF f ga) f ga a1 (a141 + 1).toNat = edE (edF f ga) f ga a1 (a141).toNat := by
                rcases u146q with z | z
                · exact z.2
                · exact absurd u161e (fun e => e.elim z.1.1 (fun e => e.elim z.1.2.1 (fun e => e z.1.2.2)))
              clear u146q u146c u146r u146d u146h u146f u146n u146a u146o u146p
              refine y_iinc C 5 [(4, .int (sI (a141 + 1))), (5, .int (sI ((M0.1 89 (6 * a1 + a141).toNat).toInt))), (0, .ref (ad 88)), (1, .int (sI a1)), (2, .int (sI a2)), (3, .int (sI a140))] dX5_stepsFrom_86 rfl (by decide) rfl ?_
              refine j_goto C 5 dX5_stepsFrom_89 (by decide) ?_
              refine j_lv [2, 3, 4, 5, 0] rfl ?_; exact ih138 a140 (a141 + 1) (by exact ⟨h142.1, ⟨h142.2.1, ⟨(by (clear h154 ub153 lb153 ub152 lb152 u146g2 u146g1 ua143 la143 ih138 u101y u101z hret C hp6 hp5 hp4 hp3 hp2 hp1 hp0 egp cgp ha2 ha1 hM0; omega)), ⟨(by (clear h154 ub153 lb153 ub152 lb152 u146g2 u146g1 ua143 la143 ih138 u101y u101z hret C hp6 hp5 hp4 hp3 hp2 hp1 hp0 egp cgp ha2 ha1 hM0; omega)), ⟨(by (clear h154 ub153 lb153 ub152 lb152 u146g2 u146g1 ua143 la143 ih138 u101y u101z hret C hp6 hp5 hp4 hp3 hp2 hp1 hp0 egp cgp ha2 ha1 hM0; omega)), ⟨(by (clear h154 ub153 lb153 ub152 lb152 u146g2 u146g1 ua143 la143 ih138 u101y u101z hret C hp6 hp5 hp4 hp3 hp2 hp1 hp0 egp cgp ha2 ha1 hM0; omega)), (by (clear h154 ub153 lb153 ub152 lb152 u146g2 u146g1 ua143 la143 ih138 u101y u101z hret C hp6 hp5 hp4 hp3 hp2 hp1 hp0 egp cgp ha2 ha1 hM0; omega))⟩⟩⟩⟩⟩⟩)
            · have u162b : ¬ a141 = ga := by (clear ub159 lb159 ub153 lb153 ub152 lb152 u146o u146q u146g2 u146g1 h145 ua143 la143 h142 ih138 u101y u101z u101e hret C hp6 hp5 hp4 hp3 hp2 hp1 hp0 egp cgp ha2 ha1 hM0; omega)
              have u162k : ¬ (boF f a141 a1) = -1 := by (clear u162b h160 ub159 lb159 ub158 lb158 h154 ub153 lb153 ub152 lb152 u146a u146n u146h u146f u146d u146r u146p u146o u146w u146y u146x u146c u146q u146g2 u146g1 h145 ua143 la143 h142 ih138 u101y u101z u101e hret C hp6 hp5 hp4 hp3 hp2 hp1 hp0 egp cgp ha2 ha1 hM0; omega)
              have u162i : iiF a1 (boF f a141 a1) = 0 := by (clear ub159 lb159 ub158 lb158 h154 ub153 lb153 ub152 lb152 u146o u146w u146y u146x u146c u146q u146g2 u146g1 h145 ua143 la143 h142 ih138 u101y u101z u101e hret C hp6 hp5 hp4 hp3 hp2 hp1 hp0 egp cgp ha2 ha1 hM0; omega)
              have u162q := (u146q.resolve_left (fun z => z.1.elim u162b (fun z => z.elim u162k (fun z => z u162i)))).2
              have u162d := (u146d.resolve_left u162k).resolve_left (fun z => z u162i)
              have u162h := u146h.resolve_left u162k
              clear u146q u146d u146h u146c u146r
              refine j_aload_n C 1 0 dX5_stepsFrom_50 rfl rfl ?_
              refine y_getC C 4 91 fX5_stepsFrom_18 rfl rfl ft_4_3 sm_4_3 rfl hM0 dX5_stepsFrom_51 ?_
              refine j_iload_n C 2 1 dX5_stepsFrom_54 rfl rfl ?_
              refine y_iconst C dX5_stepsFrom_55 ?_
              refine j_iload C 0 dX5_stepsFrom_56 rfl ?_
              refine e_shl1 C 7 128 dX5_stepsFrom_58 rfl (by decide) (by (clear u162h u162d u162q u162i u162k u162b h160 ub159 lb159 ub158 lb158 h154 ub153 lb153 ub152 lb152 u146a u146n u146f u146p u146o u146w u146y u146x u146g2 u146g1 h145 ua143 la143 h142 ih138 u101y u101z u101e hret C hp6 hp5 hp4 hp3 hp2 hp1 hp0 egp cgp ha2 ha1 hM0; omega)) (fun lb163 ub163 => ?_)
              refine e_iorN C 8 255 dX5_stepsFrom_59 rfl (by decide) (by exact ⟨hp6.1, ⟨hp6.2, ⟨(by (clear u162h u162d u162q u162i u162k u162b h160 ub159 lb159 ub158 lb158 h156 h154 ub153 lb153 ub152 lb152 h150 u146a u146n u146f u146p u146o u146w u146y u146x u146v u146g2 u146g1 u146g h145 ua143 la143 h142 ih138 u101y u101z u101e hret C hp5 hp4 hp3 hp2 hp1 hp0 egp cgp ha2 hM0; omega)), (by (clear u162h u162d u162q u162i u162k u162b h160 ub159 lb159 ub158 lb158 h156 h154 ub153 lb153 ub152 lb152 h150 u146a u146n u146f u146p u146o u146w u146y u146x u146v u146g2 u146g1 u146g h145 ua143 la143 h142 ih138 u101y u101z u101e hret C hp5 hp4 hp3 hp2 hp1 hp0 egp cgp ha2 hM0; omega))⟩⟩⟩) (fun lb164 ub164 ob164 => ?_)
              refine y_iald C 40 256 _ _ rfl rfl rfl ak_40 an_40 rfl (sb_40 _) hM0 dX5_stepsFrom_60 (by exact ⟨lb164, (by (clear ob164 ub163 lb163 u162h u162d u162q u162i u162k u162b h160 ub159 lb159 ub158 lb158 h156 h154 ub153 lb153 ub152 lb152 h150 u146a u146n u146f u146p u146w u146y u146x u146v u146g2 u146g1 u146g h145 ua143 la143 h142 ih138 u101y u101z u101e hret C hp6 hp5 hp4 hp3 hp2 hp1 hp0 egp cgp ha2 ha1 hM0; omega))⟩) (fun a165 ea165 la165 ua165 => ?_)
              obtain rfl : a165 = (M0.1 91 ((orI a1 (pw2 ((M0.1 89 (6 * a1 + a141).toNat).toInt)))).toNat).toInt := ea165
              refine j_istore C 6 [(6, .int (sI (M0.1 91 ((orI a1 (pw2 ((M0.1 89 (6 * a1 + a141).toNat).toInt)))).toNat).toInt)), (5, .int (sI ((M0.1 89 (6 * a1 + a141).toNat).toInt))), (0, .ref (ad 88)), (1, .int (sI a1)), (2, .int (sI a2)), (3, .int (sI a140)), (4, .int (sI a141))] dX5_stepsFrom_61 (by decide) rfl ?_
              refine j_iload C 0 dX5_stepsFrom_63 rfl ?_
              refine y_if_lt C 86 dX5_stepsFrom_65 (by decide) (by exact ⟨la165, ua165⟩) (fun h166 => ?_) (fun h166 => ?_)
              · refine y_iinc C 6 [(4, .int (sI (a141 + 1))), (6, .int (sI (M0.1 91 ((orI a1 (pw2 ((M0.1 89 (6 * a1 + a141).toNat).toInt)))).toNat).toInt)), (5, .int (sI ((M0.1 89 (6 * a1 + a141).toNat).toInt))), (0, .ref (ad 88)), (1, .int (sI a1)), (2, .int (sI a2)), (3, .int (sI a140))] dX5_stepsFrom_86 rfl (by decide) rfl ?_
                refine j_goto C 5 dX5_stepsFrom_89 (by decide) ?_
                refine j_lv [3, 4, 5, 6, 0] rfl ?_; exact ih138 a140 (a141 + 1) (by exact ⟨h142.1, ⟨h142.2.1, ⟨(by (clear ob164 ub163 lb163 u162i h160 ub159 lb159 h154 ub153 lb153 ub152 lb152 u146p u146g2 u146g1 ua143 la143 ih138 u101y u101z hret C hp6 hp5 hp4 hp3 hp2 hp1 hp0 egp cgp ha2 ha1 hM0; omega)), ⟨(by (clear ob164 ub163 lb163 u162i h160 ub159 lb159 h154 ub153 lb153 ub152 lb152 u146p u146g2 u146g1 ua143 la143 ih138 u101y u101z hret C hp6 hp5 hp4 hp3 hp2 hp1 hp0 egp cgp ha2 ha1 hM0; omega)), ⟨(by (clear ob164 ub163 lb163 u162i h160 ub159 lb159 h154 ub153 lb153 ub152 lb152 u146p u146g2 u146g1 ua143 la143 ih138 u101y u101z hret C hp6 hp5 hp4 hp3 hp2 hp1 hp0 egp cgp ha2 ha1 hM0; omega)), ⟨(by (clear ob164 ub163 lb163 u162i h160 ub159 lb159 h154 ub153 lb153 ub152 lb152 u146p u146g2 u146g1 ua143 la143 ih138 u101y u101z hret C hp6 hp5 hp4 hp3 hp2 hp1 hp0 egp cgp ha2 ha1 hM0; omega)), (by (clear ob164 ub163 lb163 u162i h160 ub159 lb159 h154 ub153 lb153 ub152 lb152 u146p u146g2 u146g1 ua143 la143 ih138 u101y u101z hret C hp6 hp5 hp4 hp3 hp2 hp1 hp0 egp cgp ha2 ha1 hM0; omega))⟩⟩⟩⟩⟩⟩)
              · refine j_iload_n C 5 3 dX5_stepsFrom_68 rfl rfl ?_
                refine y_iconst C dX5_stepsFrom_69 ?_
                refine y_icmp_eq C 81 dX5_stepsFrom_70 (by decide) (by exact ⟨⟨(by (clear h166 ua165 la165 ob164 ub164 lb164 ub163 lb163 u162h u162d u162q u162i u162k u162b h160 ub159 lb159 ub158 lb158 h156 h154 ub153 lb153 ub152 lb152 h150 u146a u146n u146f u146p u146o u146w u146y u146x u146v u146g2 u146g1 u146g h145 ua143 la143 ih138 u101y u101z u101e hret C hp6 hp5 hp4 hp3 hp2 hp1 hp0 egp cgp ha2 ha1 hM0; omega)), (by (clear h166 ua165 la165 ob164 ub164 lb164 ub163 lb163 u162h u162d u162q u162i u162k u162b h160 ub159 lb159 ub158 lb158 h156 h154 ub153 lb153 ub152 lb152 h150 u146a u146n u146f u146p u146o u146w u146y u146x u146v u146g2 u146g1 u146g h145 ua143 la143 ih138 u101y u101z u101e hret C hp6 hp5 hp4 hp3 hp2 hp1 hp0 egp cgp ha2 ha1 hM0; omega))⟩, ⟨(by decide), (by decide)⟩⟩) (fun h168 => ?_) (fun h168 => ?_)
                · refine j_iload C 0 dX5_stepsFrom_81 rfl ?_
                  refine y_iconst C dX5_stepsFrom_83 ?_
                  refine e_iadd C dX5_stepsFrom_84 (fun lb169 ub169 => ?_)
                  refine j_istore_n C 3 [(3, .int (sI (addI (M0.1 91 ((orI a1 (pw2 ((M0.1 89 (6 * a1 + a141).toNat).toInt)))).toNat).toInt 1))), (6, .int (sI (M0.1 91 ((orI a1 (pw2 ((M0.1 89 (6 * a1 + a141).toNat).toInt)))).toNat).toInt)), (5, .int (sI ((M0.1 89 (6 * a1 + a141).toNat).toInt))), (0, .ref (ad 88)), (1, .int (sI a1)), (2, .int (sI a2)), (4, .int (sI a141))] dX5_stepsFrom_85 rfl (by decide) rfl ?_
                  refine y_iinc C 6 [(4, .int (sI (a141 + 1))), (3, .int (sI (addI (M0.1 91 ((orI a1 (pw2 ((M0.1 89 (6 * a1 + a141).toNat).toInt)))).toNat).toInt 1))), (6, .int (sI (M0.1 91 ((orI a1 (pw2 ((M0.1 89 (6 * a1 + a141).toNat).toInt)))).toNat).toInt)), (5, .int (sI ((M0.1 89 (6 * a1 + a141).toNat).toInt))), (0, .ref (ad 88)), (1, .int (sI a1)), (2, .int (sI a2))] dX5_stepsFrom_86 rfl (by decide) rfl ?_
                  refine j_goto C 5 dX5_stepsFrom_89 (by decide) ?_
                  refine j_lv [4, 5, 6, 1, 0] rfl ?_; exact ih138 (addI (M0.1 91 ((orI a1 (pw2 ((M0.1 89 (6 * a1 + a141).toNat).toInt)))).toNat).toInt 1) (a141 + 1) (by (clear u162i h160 ub159 lb159 ub158 lb158 h154 ub153 lb153 ub152 lb152 u146p u146g2 u146g1 ua143 la143 ih138 u101y u101z hret C hp6 hp5 hp4 hp3 hp2 hp1 hp0 egp cgp ha2 ha1 hM0; omega))
                · refine j_iload C 0 dX5_stepsFrom_73 rfl ?_
                  refine y_iconst C dX5_stepsFrom_75 ?_
                  refine e_iadd C dX5_stepsFrom_76 (fun lb171 ub171 => ?_)
                  refine j_iload_n C 5 3 dX5_stepsFrom_77 rfl rfl ?_
                  refine y_icmp_ge C 86 dX5_stepsFrom_78 (by decide) (by exact ⟨⟨lb171, ub171⟩, ⟨(by (clear h168 h166 ua165 la165 ob164 ub164 lb164 ub163 lb163 u162h u162d u162q u162i u162k u162b h160 ub159 lb159 ub158 lb158 h156 h154 ub153 lb153 ub152 lb152 h150 u146a u146n u146f u146p u146o u146w u146y u146x u146v u146g2 u146g1 u146g h145 ua143 la143 ih138 u101y u101z u101e hret C hp6 hp5 hp4 hp3 hp2 hp1 hp0 egp cgp ha2 ha1 hM0; omega)), (by (clear h168 h166 ua165 la165 ob164 ub164 lb164 ub163 lb163 u162h u162d u162q u162i u162k u162b h160 ub159 lb159 ub158 lb158 h156 h154 ub153 lb153 ub152 lb152 h150 u146a u146n u146f u146p u146o u146w u146y u146x u146v u146g2 u146g1 u146g h145 ua143 la143 ih138 u101y u101z u101e hret C hp6 hp5 hp4 hp3 hp2 hp1 hp0 egp cgp ha2 ha1 hM0; omega))⟩⟩) (fun h172 => ?_) (fun h172 => ?_)
                  · refine y_iinc C 6 [(4, .int (sI (a141 + 1))), (6, .int (sI (M0.1 91 ((orI a1 (pw2 ((M0.1 89 (6 * a1 + a141).toNat).toInt)))).toNat).toInt)), (5, .int (sI ((M0.1 89 (6 * a1 + a141).toNat).toInt))), (0, .ref (ad 88)), (1, .int (sI a1)), (2, .int (sI a2)), (3, .int (sI a140))] dX5_stepsFrom_86 rfl (by decide) rfl ?_
                    refine j_goto C 5 dX5_stepsFrom_89 (by decide) ?_
                    refine j_lv [3, 4, 5, 6, 0] rfl ?_; exact ih138 a140 (a141 + 1) (by exact ⟨h142.1, ⟨h142.2.1, ⟨(by (clear ob164 ub163 lb163 u162i h160 ub159 lb159 ub158 lb158 h154 ub153 lb153 ub152 lb152 u146p u146g2 u146g1 ua143 la143 ih138 u101y u101z hret C hp6 hp5 hp4 hp3 hp2 hp1 hp0 egp cgp ha2 ha1 hM0; omega)), ⟨(by (clear ob164 ub163 lb163 u162i h160 ub159 lb159 ub158 lb158 h154 ub153 lb153 ub152 lb152 u146p u146g2 u146g1 ua143 la143 ih138 u101y u101z hret C hp6 hp5 hp4 hp3 hp2 hp1 hp0 egp cgp ha2 ha1 hM0; omega)), ⟨(by (clear ob164 ub163 lb163 u162i h160 ub159 lb159 ub158 lb158 h154 ub153 lb153 ub152 lb152 u146p u146g2 u146g1 ua143 la143 ih138 u101y u101z hret C hp6 hp5 hp4 hp3 hp2 hp1 hp0 egp cgp ha2 ha1 hM0; omega)), ⟨(by (clear ob164 ub163 lb163 u162i h160 ub159 lb159 ub158 lb158 h154 ub153 lb153 ub152 lb152 u146p u146g2 u146g1 ua143 la143 ih138 u101y u101z hret C hp6 hp5 hp4 hp3 hp2 hp1 hp0 egp cgp ha2 ha1 hM0; omega)), (by (clear ob164 ub163 lb163 u162i h160 ub159 lb159 ub158 lb158 h154 ub153 lb153 ub152 lb152 u146p u146g2 u146g1 ua143 la143 ih138 u101y u101z hret C hp6 hp5 hp4 hp3 hp2 hp1 hp0 egp cgp ha2 ha1 hM0; omega))⟩⟩⟩⟩⟩⟩)
                  · refine j_iload C 0 dX5_stepsFrom_81 rfl ?_
                    refine y_iconst C dX5_stepsFrom_83 ?_
                    refine e_iadd C dX5_stepsFrom_84 (fun lb174 ub174 => ?_)
                    refine j_istore_n C 3 [(3, .int (sI (addI (M0.1 91 ((orI a1 (pw2 ((M0.1 89 (6 * a1 + a141).toNat).toInt)))).toNat).toInt 1))), (6, .int (sI (M0.1 91 ((orI a1 (pw2 ((M0.1 89 (6 * a1 + a141).toNat).toInt)))).toNat).toInt)), (5, .int (sI ((M0.1 89 (6 * a1 + a141).toNat).toInt))), (0, .ref (ad 88)), (1, .int (sI a1)), (2, .int (sI a2)), (4, .int (sI a141))] dX5_stepsFrom_85 rfl (by decide) rfl ?_
                    refine y_iinc C 6 [(4, .int (sI (a141 + 1))), (3, .int (sI (addI (M0.1 91 ((orI a1 (pw2 ((M0.1 89 (6 * a1 + a141).toNat).toInt)))).toNat).toInt 1))), (6, .int (sI (M0.1 91 ((orI a1 (pw2 ((M0.1 89 (6 * a1 + a141).toNat).toInt)))).toNat).toInt)), (5, .int (sI ((M0.1 89 (6 * a1 + a141).toNat).toInt))), (0, .ref (ad 88)), (1, .int (sI a1)), (2, .int (sI a2))] dX5_stepsFrom_86 rfl (by decide) rfl ?_
                    refine j_goto C 5 dX5_stepsFrom_89 (by decide) ?_
                    refine j_lv [4, 5, 6, 1, 0] rfl ?_; exact ih138 (addI (M0.1 91 ((orI a1 (pw2 ((M0.1 89 (6 * a1 + a141).toNat).toInt)))).toNat).toInt 1) (a141 + 1) (by (clear ub174 lb174 ob164 ub164 lb164 ub163 lb163 u162i h160 ub159 lb159 ub158 lb158 h154 ub153 lb153 ub152 lb152 u146p u146o u146g2 u146g1 ua143 la143 ih138 u101y u101z hret C hp6 hp5 hp4 hp3 hp2 hp1 hp0 egp cgp ha2 ha1 hM0; omega))
  refine j_lv [2, 3, 4, 1, 0] rfl ?_; exact L139 2010 (-1) 0 (by exact ⟨(by decide), ⟨(by decide), ⟨(by decide), ⟨(by decide), ⟨(by (clear L139 hret C hp6 hp5 hp3 hp2 hp1 hp0 egp cgp ha2 ha1 hM0; omega)), ⟨u101e.2.1.2.2.1.1, (by decide)⟩⟩⟩⟩⟩⟩)
set_option maxHeartbeats 4000000 in
theorem s2_X5_measure {l : Launch} {dC : Nat → ClassId} {dI : Nat → Nat → Nat} {ad : Nat → Nat} {cA : Nat → ClassId} {pr : Nat → Nat → Bool} {Kz : mm_M} {M0 : mm_M} (hM0 : INV pr Kz M0) (hpr : PX pr) (a1 : Int) (ha1 : -2147483648 ≤ a1 ∧ a1 ≤ 2147483647) (gp : Nat) (cgp : s_c gp = 6) (egp : gp = M0.2.2 88 9) (f : Nat → Int32) (ga : Int) (hp0 : b01 (LKP M0 gp f) = 1) (hp1 : b01 (CMB a1 ga (f 1).toInt) = 1) : Ci l 2 yX5_measure wsX5_measure dC dI ad cA [.ref (ad 88), .int (sI a1)] M0 (fun r M' => ∃ a : Int, r = sI a ∧ INV pr Kz M' ∧ FX [91] M0 M' ∧ (-1) ≤ a ∧ a ≤ 255 ∧ (a = enF f ga) ∧ (b01 (FRQ M' f ga ((f 27).toInt + (-1))) = 1)) := by
  refine ci_of (cc := cX5_measure) (maxL := 3) (ty := .int) (lv := [(0, .ref (ad 88)), (1, .int (sI a1))]) (by decide) rfl (fun r M' hp => rfl) (Nat.le_of_ble_eq_true rfl) rfl ?_
  intro p e s m args below meth c A Q C hret
  have u101e := lkp_e (M := M0) (p := gp) (f := f) (by exact hp0)
  refine j_aload_n C 0 0 dX5_measure_0 rfl rfl ?_
  refine y_getI C 4 _ _ fX5_measure_38 rfl rfl ft_4_11 sb_4_11 hM0 dX5_measure_1 (fun a102 ea102 la102 ua102 => ?_)
  obtain rfl : a102 = (M0.1 88 11).toInt := ea102
  refine j_istore_n C 2 [(2, .int (sI (M0.1 88 11).toInt)), (0, .ref (ad 88)), (1, .int (sI a1))] dX5_measure_4 rfl (by decide) rfl ?_
  have u104z := fr_0 M0 f ga (M0.1 88 11).toInt (by omega)
  have L133 : ∀ (n131 : Nat), ∀ (a134 : Int) (M135 : mm_M), ((-1) ≤ a134 ∧ a134 ≤ 255 ∧ (b01 (FRQ M135 f ga a134) = 1) ∧ ((f 27).toInt + (-1) ≤ a134) ∧ (a134 ≤ evF f) ∧ (a134 - (-1)) < (n131 : Int)) → INV pr Kz M135 → FX [91] M0 M135 → jj p l e (cn_R 2) s m args below meth c 0 0 Q 3 dC dI ad cA A M135 5 [(0, .ref (ad 88)), (1, .int (sI a1)), (2, .int (sI a134))] [] := by
    intro n131
    induction n131 with
    | zero =>
      intro a134 M135 h136 hM135 fM135
      exfalso; (clear fM135 hM135 u104z ua102 la102 u101e hret C hp1 hp0 egp cgp ha1 hpr hM0; omega)
    | succ n131 ih132 =>
      intro a134 M135 h136 hM135 fM135
      have u137l := lkp_c (M := M0) (N := M135) (p := gp) (f := f) (by exact hp0) ((FX.rf.tr fM135 (by decide)) : FX [91] M0 M135) cgp (by decide)
      have u137e := lkp_e (M := M135) (p := gp) (f := f) u137l
      refine j_iload_n C 2 2 dX5_measure_5 rfl rfl ?_
      refine j_aload_n C 0 0 dX5_measure_6 rfl rfl ?_
      refine y_getI C 4 _ _ fX5_measure_45 rfl rfl ft_4_13 sb_4_13 hM135 dX5_measure_7 (fun a138 ea138 la138 ua138 => ?_)
      obtain rfl : a138 = (M0.1 88 13).toInt := s_fX fM135 (by decide) (ea138)
      refine y_icmp_lt C 53 dX5_measure_10 (by decide) (by (clear la138 ea138 u137l fM135 hM135 ih132 u104z ua102 la102 hret C hp1 hp0 egp cgp ha1 hpr hM0; omega)) (fun h140 => ?_) (fun h140 => ?_)
      · have u161g := fr_g (M := M135) (f := f) (a := ga) (s := a134) (by exact h136.2.2.1) (f 27).toInt (by exact ⟨(by (clear ua138 la138 ea138 u137l fM135 hM135 ih132 u104z ua102 la102 hret C hp1 hp0 egp cgp ha1 hpr hM0; omega)), ⟨(by (clear ua138 la138 ea138 u137l fM135 hM135 ih132 u104z ua102 la102 hret C hp1 hp0 egp cgp ha1 hpr hM0; omega)), ⟨u101e.2.1.2.1.2, u137e.2.2⟩⟩⟩)
        have u161n := enF_x f ga
        have u161m := fxV_s (edF f ga (f 27).toInt)
        have u161b := edF_b (f := f) (a := ga) (s := (f 27).toInt) (by exact ⟨u101e.2.1.1.1, u101e.2.1.1.2⟩) (by exact ⟨u101e.2.1.2.1.1, (by (clear u161m u161n u161g h140 la138 ea138 u137l fM135 hM135 h136 ih132 u104z ua102 la102 hret C hp1 hp0 egp cgp ha1 hpr hM0; omega))⟩)
        have u161x : b01 (FRQ M135 f ga ((f 27).toInt + (-1))) = 1 := by rw [show (f 27).toInt + (-1) = a134 by (clear u161b u161m u161n u161g ua138 la138 ea138 u137l fM135 hM135 ih132 u104z ua102 la102 hret C hp1 hp0 egp cgp ha1 hpr hM0; omega)]; exact h136.2.2.1
        refine j_aload_n C 0 0 dX5_measure_53 rfl rfl ?_
        refine y_getC C 4 91 fX5_measure_18 rfl rfl ft_4_3 sm_4_3 rfl hM135 dX5_measure_54 ?_
        refine j_aload_n C 0 0 dX5_measure_57 rfl rfl ?_
        refine y_getI C 4 _ _ fX5_measure_45 rfl rfl ft_4_13 sb_4_13 hM135 dX5_measure_58 (fun a162 ea162 la162 ua162 => ?_)
        obtain rfl : a162 = (M0.1 88 13).toInt := s_fX fM135 (by decide) (ea162)
        have u164t : (M135.1 91 (M135.1 88 13).toInt.toNat).toInt = (M135.1 91 (f 27).toInt.toNat).toInt ∧ (M135.1 91 (M0.1 88 13).toInt.toNat).toInt = (M135.1 91 (f 27).toInt.toNat).toInt := ⟨by rw [show (M135.1 88 13).toInt = (f 27).toInt by exact u137e.1.2.2.2.1], by rw [show (M0.1 88 13).toInt = (f 27).toInt by exact u101e.1.2.2.2.1]⟩
        refine y_iald C 40 256 _ _ rfl rfl rfl ak_40 an_40 rfl (sb_40 _) hM135 dX5_measure_61 (by exact ⟨la138, (by (clear u164t ua162 la162 ea162 u161x u161b u161m u161n u161g h140 la138 ea138 u137l fM135 hM135 h136 ih132 u104z ua102 la102 hret C hp1 hp0 egp cgp ha1 hpr hM0; omega))⟩) (fun a165 ea165 la165 ua165 => ?_)
        obtain rfl : a165 = (M135.1 91 ((M0.1 88 13).toInt).toNat).toInt := ea165
        exact hret _ _ _ _ dX5_measure_62 ⟨(M135.1 91 ((M0.1 88 13).toInt).toNat).toInt, rfl, hM135, (FX.rf.tr fM135 (by decide)), by exact ⟨(by (clear ua162 la162 ea162 h140 la138 ea138 u137l fM135 hM135 h136 ih132 u104z ua102 la102 hret C hp1 hp0 egp cgp ha1 hpr hM0; omega)), ⟨(by (clear ua162 la162 ea162 h140 la138 ea138 u137l fM135 hM135 h136 ih132 u104z ua102 la102 hret C hp1 hp0 egp cgp ha1 hpr hM0; omega)), ⟨(by (clear ua162 la162 ea162 h140 la138 ea138 u137l fM135 hM135 h136 ih132 u104z ua102 la102 hret C hp1 hp0 egp cgp ha1 hpr hM0; omega)), u161x⟩⟩⟩⟩
      · refine j_aload_n C 0 0 dX5_measure_13 rfl rfl ?_
        refine y_getC C 4 90 fX5_measure_15 rfl rfl ft_4_2 sm_4_2 rfl hM135 dX5_measure_14 ?_
        refine j_iload_n C 2 2 dX5_measure_17 rfl rfl ?_
        refine y_iald C 39 256 _ _ rfl rfl rfl ak_39 an_39 rfl (sb_39 _) hM135 dX5_measure_18 (by (clear la138 ea138 u137l fM135 hM135 ih132 u104z ua102 la102 hret C hp1 hp0 egp cgp ha1 hpr hM0; omega)) (fun a141 ea141 la141 ua141 => ?_)
        obtain rfl : a141 = (M0.1 90 (a134).toNat).toInt := s_fX fM135 (by decide) (ea141)
        refine y_iconst C dX5_measure_19 ?_
        refine y_icmp_ne C 47 dX5_measure_20 (by decide) (by exact ⟨⟨la141, ua141⟩, ⟨(by decide), (by decide)⟩⟩) (fun h142 => ?_) (fun h142 => ?_)
        · refine y_iinc C 2 [(2, .int (sI (a134 + (-1)))), (0, .ref (ad 88)), (1, .int (sI a1))] dX5_measure_47 rfl (by decide) rfl ?_
          refine j_goto C 5 dX5_measure_50 (by decide) ?_
          have u143z := fr_n (M := M135) (f := f) (a := ga) (s := a134) (by exact h136.2.2.1) (by (clear ua141 la141 h140 ua138 la138 ea138 u137e u137l fM135 hM135 h136 ih132 u104z ua102 la102 u101e hret C hp1 hp0 egp cgp ha1 hpr hM0; omega))
          refine j_lv [1, 2, 0] rfl ?_; exact ih132 (a134 + (-1)) M135 (by exact ⟨(by (clear h142 ua141 la141 ea141 la138 ea138 u137l fM135 hM135 ih132 u104z ua102 la102 hret C hp1 hp0 egp cgp ha1 hpr hM0; omega)), ⟨(by (clear h142 ua141 la141 ea141 la138 ea138 u137l fM135 hM135 ih132 u104z ua102 la102 hret C hp1 hp0 egp cgp ha1 hpr hM0; omega)), ⟨u143z, ⟨(by (clear h142 ua141 la141 ea141 la138 ea138 u137l fM135 hM135 ih132 u104z ua102 la102 hret C hp1 hp0 egp cgp ha1 hpr hM0; omega)), ⟨(by (clear h142 ua141 la141 ea141 la138 ea138 u137l fM135 hM135 ih132 u104z ua102 la102 hret C hp1 hp0 egp cgp ha1 hpr hM0; omega)), (by (clear h142 ua141 la141 ea141 la138 ea138 u137l fM135 hM135 ih132 u104z ua102 la102 hret C hp1 hp0 egp cgp ha1 hpr hM0; omega))⟩⟩⟩⟩⟩) hM135 (FX.rf.tr fM135 (by decide))
        · have u144h := shF_s f a134
          have u144q : andI (M135.1 88 12).toInt (-1 - a134) = andI (snF f) (-1 - a134) := by rw [(lkp_e (M := M135) (p := gp) (f := f) (by exact u137l)).1.2.2.1]
          have u144x := fxV_s (edF f ga a134)
          refine j_aload_n C 0 0 dX5_measure_23 rfl rfl ?_
          refine y_getC C 4 91 fX5_measure_18 rfl rfl ft_4_3 sm_4_3 rfl hM135 dX5_measure_24 ?_
          refine j_iload_n C 2 2 dX5_measure_27 rfl rfl ?_
          refine j_aload_n C 0 0 dX5_measure_28 rfl rfl ?_
          refine j_iload_n C 2 2 dX5_measure_29 rfl rfl ?_
          refine j_callVi C (d := 0) (As := [.int (sI a134)]) (st := [.int (sI a134), .ref (ad 91)]) 88 (s_lt rfl rfl) (s_kc (c := 4) rfl rfl) (by decide) rfl (s2_X5_isShutAt hM135 a134 (by (clear u144x u144q u144h h142 ua141 la141 ea141 h140 ua138 la138 ea138 u137e u137l fM135 hM135 ih132 u104z ua102 la102 u101e hret C hp1 hp0 egp cgp ha1 hpr hM0; omega))) gX5_measure_X5_isShutAt rfl hdX5_isShutAt (by decide) (Nat.le_of_ble_eq_true rfl) dX5_measure_30 rfl (fun r145 M146 h147 => ?_)
          obtain ⟨a149, rfl, rfl, h148⟩ := h147
          refine y_if_eq C 40 dX5_measure_33 (by decide) (by (clear u144x u144q u144h h142 ua141 la141 ea141 h140 ua138 la138 ea138 u137e u137l fM135 hM135 h136 ih132 u104z ua102 la102 u101e hret C hp1 hp0 egp cgp ha1 hpr hM0; omega)) (fun h150 => ?_) (fun h150 => ?_)
          · refine j_aload_n C 0 0 dX5_measure_40 rfl rfl ?_
            refine j_iload_n C 2 2 dX5_measure_41 rfl rfl ?_
            refine j_iload_n C 1 1 dX5_measure_42 rfl rfl ?_
            refine j_callVi C (d := 1) (As := [.int (sI a134), .int (sI a1)]) (st := [.int (sI a134), .ref (ad 91)]) 88 (s_lt rfl rfl) (s_kc (c := 4) rfl rfl) (by decide) rfl (s2_X5_stepsFrom hM135 a134 (by (clear h150 h148 u144x u144q u144h h142 ua141 la141 ea141 h140 ua138 la138 ea138 u137e u137l fM135 hM135 ih132 u104z ua102 la102 u101e hret C hp1 hp0 egp cgp ha1 hpr hM0; omega)) a1 (by exact ⟨ha1.1, ha1.2⟩) gp cgp (s_pX fM135 (egp)) f ga (by exact u137l) (by exact h136.2.2.1) (by exact hp1) (by (clear h150 h148 u144x u144q u144h ua141 la141 h140 ua138 la138 ea138 u137e u137l fM135 hM135 h136 ih132 u104z ua102 la102 u101e hret C hp1 hp0 egp cgp ha1 hpr hM0; omega)) (by (clear h142 ua141 la141 ea141 h140 ua138 la138 ea138 u137e u137l fM135 hM135 h136 ih132 u104z ua102 la102 u101e hret C hp1 hp0 egp cgp ha1 hpr hM0; omega)) (by exact ⟨(by (clear h150 h148 u144x u144q u144h h142 ua141 la141 ea141 ua138 la138 ea138 u137l fM135 hM135 ih132 u104z ua102 la102 hret C hp1 hp0 egp cgp ha1 hpr hM0; omega)), h136.2.2.2.2.1⟩) (by exact ⟨(by (clear h150 h148 u144x u144q u144h h142 ua141 la141 ea141 la138 ea138 u137l fM135 hM135 ih132 u104z ua102 la102 hret C hp1 hp0 egp cgp ha1 hpr hM0; omega)), h136.2.1⟩)) gX5_measure_X5_stepsFrom rfl hdX5_stepsFrom (by decide) (Nat.le_of_ble_eq_true rfl) dX5_measure_43 rfl (fun r151 M152 h153 => ?_)
            obtain ⟨a155, rfl, rfl, h154⟩ := h153
            obtain rfl : a155 = (fxV (edF f ga a134)) := by exact h154.2.2
            refine y_iastF C 40 256 rfl rfl rfl ak_40 an_40 rfl (sb_40 _) hM135 (PX.w hpr rfl rfl) dX5_measure_46 (by (clear h154 h150 h148 u144x u144q u144h h142 ua141 la141 ea141 la138 ea138 u137l fM135 hM135 ih132 u104z ua102 la102 hret C hp1 hp0 egp cgp ha1 hpr hM0; omega)) (fun M156 eM156 hM156 => ?_)
            refine y_iinc C 2 [(2, .int (sI (a134 + (-1)))), (0, .ref (ad 88)), (1, .int (sI a1))] dX5_measure_47 rfl (by decide) rfl ?_
            refine j_goto C 5 dX5_measure_50 (by decide) ?_
            have u157z := fr_s (f := f) (a := ga) (s := a134) (v := (fxV (edF f ga a134))) eM156 (by exact h136.2.2.1) (by exact ⟨⟨(by (clear hM156 eM156 h150 h148 u144x u144q u144h h142 ua141 la141 ea141 la138 ea138 u137l fM135 hM135 ih132 u104z ua102 la102 hret C hp1 hp0 egp cgp ha1 hpr hM0; omega)), (by (clear hM156 eM156 h150 h148 u144x u144q u144h h142 ua141 la141 ea141 la138 ea138 u137l fM135 hM135 ih132 u104z ua102 la102 hret C hp1 hp0 egp cgp ha1 hpr hM0; omega))⟩, ⟨h154.2.2, ⟨(by (clear hM156 eM156 h150 h148 u144x u144q u144h h142 ua141 la141 ea141 la138 ea138 u137l fM135 hM135 ih132 u104z ua102 la102 hret C hp1 hp0 egp cgp ha1 hpr hM0; omega)), u101e.2.1.2.1.1⟩⟩⟩)
            refine j_lv [1, 2, 0] rfl ?_; exact ih132 (a134 + (-1)) M156 (by exact ⟨(by (clear hM156 eM156 h154 h150 h148 u144x u144q u144h h142 ua141 la141 ea141 la138 ea138 u137l fM135 hM135 ih132 u104z ua102 la102 hret C hp1 hp0 egp cgp ha1 hpr hM0; omega)), ⟨(by (clear hM156 eM156 h154 h150 h148 u144x u144q u144h h142 ua141 la141 ea141 la138 ea138 u137l fM135 hM135 ih132 u104z ua102 la102 hret C hp1 hp0 egp cgp ha1 hpr hM0; omega)), ⟨u157z, ⟨(by (clear hM156 eM156 h154 h150 h148 u144x u144q u144h h142 ua141 la141 ea141 la138 ea138 u137l fM135 hM135 ih132 u104z ua102 la102 hret C hp1 hp0 egp cgp ha1 hpr hM0; omega)), ⟨(by (clear hM156 eM156 h154 h150 h148 u144x u144q u144h h142 ua141 la141 ea141 la138 ea138 u137l fM135 hM135 ih132 u104z ua102 la102 hret C hp1 hp0 egp cgp ha1 hpr hM0; omega)), (by (clear hM156 eM156 h154 h150 h148 u144x u144q u144h h142 ua141 la141 ea141 la138 ea138 u137l fM135 hM135 ih132 u104z ua102 la102 hret C hp1 hp0 egp cgp ha1 hpr hM0; omega))⟩⟩⟩⟩⟩) hM156 ((FX.rf.tr fM135 (by decide)).wI eM156 (by decide))
          · have u158z := edF_sh (f := f) (a := ga) (s := a134) (by exact ⟨u101e.2.1.1.1, u101e.2.1.1.2⟩) (by exact ⟨(by omega), h136.2.1⟩) (by (clear h142 ua141 la141 ea141 h140 ua138 la138 ea138 u137e u137l fM135 hM135 h136 ih132 u104z ua102 la102 u101e hret C hp1 hp0 egp cgp ha1 hpr hM0; omega))
            refine y_iconst C dX5_measure_36 ?_
            refine j_goto C 46 dX5_measure_37 (by decide) ?_
            refine y_iastF C 40 256 rfl rfl rfl ak_40 an_40 rfl (sb_40 _) hM135 (PX.w hpr rfl rfl) dX5_measure_46 (by omega) (fun M159 eM159 hM159 => ?_)
            refine y_iinc C 2 [(2, .int (sI (a134 + (-1)))), (0, .ref (ad 88)), (1, .int (sI a1))] dX5_measure_47 rfl (by decide) rfl ?_
            refine j_goto C 5 dX5_measure_50 (by decide) ?_
            have u160z := fr_s (f := f) (a := ga) (s := a134) (v := 0) eM159 (by exact h136.2.2.1) (by exact ⟨⟨(by decide), (by decide)⟩, ⟨(by (clear hM159 eM159 u144q u144h h142 ua141 la141 ea141 la138 ea138 u137l fM135 hM135 ih132 u104z ua102 la102 hret C hp1 hp0 egp cgp ha1 hpr hM0; omega)), ⟨(by (clear hM159 eM159 u144q u144h h142 ua141 la141 ea141 la138 ea138 u137l fM135 hM135 ih132 u104z ua102 la102 hret C hp1 hp0 egp cgp ha1 hpr hM0; omega)), u101e.2.1.2.1.1⟩⟩⟩)
            refine j_lv [1, 2, 0] rfl ?_; exact ih132 (a134 + (-1)) M159 (by exact ⟨(by (clear hM159 eM159 u158z h150 h148 u144x u144q u144h h142 ua141 la141 ea141 la138 ea138 u137l fM135 hM135 ih132 u104z ua102 la102 hret C hp1 hp0 egp cgp ha1 hpr hM0; omega)), ⟨(by (clear hM159 eM159 u158z h150 h148 u144x u144q u144h h142 ua141 la141 ea141 la138 ea138 u137l fM135 hM135 ih132 u104z ua102 la102 hret C hp1 hp0 egp cgp ha1 hpr hM0; omega)), ⟨u160z, ⟨(by (clear hM159 eM159 u158z h150 h148 u144x u144q u144h h142 ua141 la141 ea141 la138 ea138 u137l fM135 hM135 ih132 u104z ua102 la102 hret C hp1 hp0 egp cgp ha1 hpr hM0; omega)), ⟨(by (clear hM159 eM159 u158z h150 h148 u144x u144q u144h h142 ua141 la141 ea141 la138 ea138 u137l fM135 hM135 ih132 u104z ua102 la102 hret C hp1 hp0 egp cgp ha1 hpr hM0; omega)), (by (clear hM159 eM159 u158z h150 h148 u144x u144q u144h h142 ua141 la141 ea141 la138 ea138 u137l fM135 hM135 ih132 u104z ua102 la102 hret C hp1 hp0 egp cgp ha1 hpr hM0; omega))⟩⟩⟩⟩⟩) hM159 ((FX.rf.tr fM135 (by decide)).wI eM159 (by decide))
  refine j_lv [1, 2, 0] rfl ?_; exact L133 2010 (M0.1 88 11).toInt M0 (by exact ⟨(by (clear L133 ua102 la102 hret C hp1 hp0 egp cgp ha1 hpr hM0; omega)), ⟨ua102, ⟨u104z, ⟨(by (clear L133 ua102 la102 hret C hp1 hp0 egp cgp ha1 hpr hM0; omega)), ⟨(by (clear L133 ua102 la102 hret C hp1 hp0 egp cgp ha1 hpr hM0; omega)), (by (clear L133 ua102 la102 hret C hp1 hp0 egp cgp ha1 hpr hM0; omega))⟩⟩⟩⟩⟩) hM0 FX.rf
set_option maxHeartbeats 4000000 in
theorem s2_X5_shortest {l : Launch} {dC : Nat → ClassId} {dI : Nat → Nat → Nat} {ad : Nat → Nat} {cA : Nat → ClassId} {pr : Nat → Nat → Bool} {Kz : mm_M} {M0 : mm_M} (hM0 : INV pr Kz M0) (hpr : PX pr) (gp : Nat) (cgp : s_c gp = 6) (egp : gp = M0.2.2 88 9) (f : Nat → Int32) (hp0 : b01 (LKP M0 gp f) = 1) : Ci l 3 yX5_shortest wsX5_shortest dC dI ad cA [.ref (ad 88)] M0 (fun r M' => ∃ a : Int, r = sI a ∧ INV pr Kz M' ∧ FX [91] M0 M' ∧ (-1) ≤ a ∧ a ≤ 255 ∧ (a = enF f (-1)) ∧ (b01 (FRQ M' f (-1) ((f 27).toInt + (-1))) = 1)) := by
  refine ci_of (cc := cX5_shortest) (maxL := 1) (ty := .int) (lv := [(0, .ref (ad 88))]) (by decide) rfl (fun r M' hp => rfl) (Nat.le_of_ble_eq_true rfl) rfl ?_
  intro p e s m args below meth c A Q C hret
  have u101e := lkp_e (M := M0) (p := gp) (f := f) (by exact hp0)
  have u101c := cmb_all (c := pw2 (f 1).toInt - 1) (B := (f 1).toInt) (by exact ⟨u101e.2.1.2.2.1.1, u101e.2.1.2.2.1.2⟩) rfl
  refine j_aload_n C 0 0 dX5_shortest_0 rfl rfl ?_
  refine y_iconst C dX5_shortest_1 ?_
  refine j_aload_n C 0 0 dX5_shortest_2 rfl rfl ?_
  refine y_getV C 4 gp fX5_shortest_52 rfl rfl ft_4_9 (egp) dX5_shortest_3 ?_
  refine y_getI C 6 _ _ fX5_shortest_92 cgp rfl ft_6_0 sb_6_0 hM0 dX5_shortest_6 (fun a102 ea102 la102 ua102 => ?_)
  obtain rfl : a102 = (M0.1 gp 0).toInt := ea102
  refine e_shl1 C 6 64 dX5_shortest_9 rfl (by decide) (by exact ⟨la102, (by (clear ua102 la102 u101c hret C hp0 egp cgp hpr hM0; omega))⟩) (fun lb104 ub104 => ?_)
  refine y_iconst C dX5_shortest_10 ?_
  refine y_isub C dX5_shortest_11 ?_
  have u105d : b01 (CMB ((pw2 (M0.1 gp 0).toInt) - 1) (-1) (f 1).toInt) = 1 := cmb_all (by exact ⟨u101e.2.1.2.2.1.1, u101e.2.1.2.2.1.2⟩) (by rw [show (M0.1 gp 0).toInt = (f 1).toInt by exact u101e.1.2.2.2.2])
  refine j_callVi C (d := 2) (As := [.int (sI ((pw2 (M0.1 gp 0).toInt) - 1))]) (st := []) 88 (s_lt rfl rfl) (s_kc (c := 4) rfl rfl) (by decide) rfl (s2_X5_measure hM0 hpr ((pw2 (M0.1 gp 0).toInt) - 1) (by (clear u105d ua102 la102 u101c u101e hret C hp0 egp cgp hpr hM0; omega)) gp cgp (egp) f (-1) (by exact hp0) (by exact u105d)) gX5_shortest_X5_measure rfl hdX5_measure (by decide) (Nat.le_of_ble_eq_true rfl) dX5_shortest_12 rfl (fun r106 M107 h108 => ?_)
  obtain ⟨a110, rfl, hM107, fM107, h109⟩ := h108
  exact hret _ _ _ _ dX5_shortest_15 ⟨a110, rfl, hM107, (FX.rf.tr fM107 (by decide)), by exact ⟨h109.1, ⟨h109.2.1, ⟨h109.2.2.1, h109.2.2.2⟩⟩⟩⟩
set_option maxHeartbeats 4000000 in
theorem s2_X5_nearestComer {l : Launch} {dC : Nat → ClassId} {dI : Nat → Nat → Nat} {ad : Nat → Nat} {cA : Nat → ClassId} {pr : Nat → Nat → Bool} {Kz : mm_M} {M0 : mm_M} (hM0 : INV pr Kz M0) (a1 : Int) (ha1 : -2147483648 ≤ a1 ∧ a1 ≤ 2147483647) (gp : Nat) (cgp : s_c gp = 6) (egp : gp = M0.2.2 88 9) (f : Nat → Int32) (hp0 : b01 (LKP M0 gp f) = 1) (hp1 : b01 (FRQ M0 f (-1) ((f 27).toInt + (-1))) = 1) (hp2 : (M0.1 90 (a1).toNat).toInt = 1) (hp3 : 1 ≤ edF f (-1) a1 ∧ edF f (-1) a1 < 268435456) (hp4 : (f 27).toInt ≤ a1 ∧ a1 ≤ evF f) (hp5 : 0 ≤ a1 ∧ a1 ≤ 255) : Ci l 1 yX5_nearestComer wsX5_nearestComer dC dI ad cA [.ref (ad 88), .int (sI a1)] M0 (fun r M' => ∃ a : Int, r = sI a ∧ M0 = M' ∧ 0 ≤ a ∧ a ≤ 5 ∧ (a = nbS f a1 (edF f (-1) a1 - 1) 6 0) ∧ (a < (f 1).toInt) ∧ (¬ boF f a a1 = -1 ∧ edF f (-1) (orI a1 (pw2 (boF f a a1))) = edF f (-1) a1 - 1)) := by
  refine ci_of (cc := cX5_nearestComer) (maxL := 4) (ty := .int) (lv := [(0, .ref (ad 88)), (1, .int (sI a1))]) (by decide) rfl (fun r M' hp => rfl) (Nat.le_of_ble_eq_true rfl) rfl ?_
  intro p e s m args below meth c A Q C hret
  have u101e := lkp_e (M := M0) (p := gp) (f := f) (by exact hp0)
  have u101n := nxb_0 (f := f) (s := a1) (by exact ⟨u101e.2.1.1.1, u101e.2.1.1.2⟩) (by exact ⟨hp5.1, hp5.2⟩) (by exact ⟨hp3.1, hp3.2⟩) (by exact u101e.2.1.2.2.1.1)
  have u101z : nbS f a1 (edF f (-1) a1 - 1) (6 - 0 : Int).toNat 0 = nbS f a1 (edF f (-1) a1 - 1) 6 0 := rfl
  have u101g := fr_g (M := M0) (f := f) (a := -1) (s := (f 27).toInt + (-1)) (by exact hp1) a1 (by exact ⟨(by (clear u101z u101n hret C hp5 hp3 hp1 hp0 egp cgp ha1 hM0; omega)), ⟨hp4.1, ⟨hp4.2, hp2⟩⟩⟩)
  have u101x := fxV_s (edF f (-1) a1)
  refine y_iconst C dX5_nearestComer_0 ?_
  refine j_istore_n C 2 [(2, .int (sI 0)), (0, .ref (ad 88)), (1, .int (sI a1))] dX5_nearestComer_1 rfl (by decide) rfl ?_
  have L133 : ∀ (n131 : Nat), ∀ (a134 : Int), (0 ≤ a134 ∧ a134 ≤ 6 ∧ (nbS f a1 (edF f (-1) a1 - 1) (6 - a134).toNat a134 = nbS f a1 (edF f (-1) a1 - 1) 6 0) ∧ (b01 (NXB f a1 a134) = 1) ∧ (a134 ≤ (f 1).toInt) ∧ (6 - a134) < (n131 : Int)) → jj p l e (cn_R 1) s m args below meth c 0 0 Q 4 dC dI ad cA A M0 2 [(0, .ref (ad 88)), (1, .int (sI a1)), (2, .int (sI a134))] [] := by
    intro n131
    induction n131 with
    | zero =>
      intro a134 h135
      exfalso; (clear u101x u101g u101z u101n u101e hret C hp5 hp4 hp3 hp2 hp1 hp0 egp cgp ha1 hM0; omega)
    | succ n131 ih132 =>
      intro a134 h135
      have u136b := nxb_b (f := f) (s := a1) (b := a134) (by exact h135.2.2.2.1)
      refine j_iload_n C 2 2 dX5_nearestComer_2 rfl rfl ?_
      refine j_aload_n C 0 0 dX5_nearestComer_3 rfl rfl ?_
      refine y_getV C 4 gp fX5_nearestComer_52 rfl rfl ft_4_9 (egp) dX5_nearestComer_4 ?_
      refine y_getI C 6 _ _ fX5_nearestComer_92 cgp rfl ft_6_0 sb_6_0 hM0 dX5_nearestComer_7 (fun a137 ea137 la137 ua137 => ?_)
      obtain rfl : a137 = (M0.1 gp 0).toInt := ea137
      refine y_icmp_ge C 72 dX5_nearestComer_10 (by decide) (by (clear ua137 la137 u136b ih132 u101x u101g u101z u101n hret C hp5 hp4 hp3 hp2 hp1 hp0 egp cgp ha1 hM0; omega)) (fun h139 => ?_) (fun h139 => ?_)
      · refine y_iconst C dX5_nearestComer_72 ?_
        exact hret _ _ _ _ dX5_nearestComer_73 ⟨(-1), rfl, rfl, by exact ⟨(by (clear ua137 la137 h135 ih132 u101x u101g u101z u101n hret C hp5 hp4 hp3 hp2 hp1 hp0 egp cgp ha1 hM0; omega)), ⟨(by decide), ⟨(by (clear ua137 la137 h135 ih132 u101x u101g u101z u101n hret C hp5 hp4 hp3 hp2 hp1 hp0 egp cgp ha1 hM0; omega)), ⟨(by (clear ua137 la137 h135 ih132 u101x u101g u101z u101n hret C hp5 hp4 hp3 hp2 hp1 hp0 egp cgp ha1 hM0; omega)), ⟨(by (clear ua137 la137 h135 ih132 u101x u101g u101z u101n hret C hp5 hp4 hp3 hp2 hp1 hp0 egp cgp ha1 hM0; omega)), (by (clear ua137 la137 h135 ih132 u101x u101g u101z u101n hret C hp5 hp4 hp3 hp2 hp1 hp0 egp cgp ha1 hM0; omega))⟩⟩⟩⟩⟩⟩
      · have u140g := lkp_g (M := M0) (p := gp) (f := f) (by exact hp0) (s := a1) (b := a134) (by exact ⟨hp4.1, ⟨hp4.2, ⟨h135.1, u136b⟩⟩⟩) (by exact hp2)
        have u140g1 := u140g.1
        have u140g2 := u140g.2
        have u140q := nbS_t (f := f) (s := a1) (v := (edF f (-1) a1 - 1)) (b := a134) (b' := a134 + 1) (by (clear u140g2 u140g1 u140g h139 ua137 la137 ih132 u101x u101g u101z u101n hret C hp5 hp4 hp3 hp2 hp1 hp0 egp cgp ha1 hM0; omega))
        have u140v := bo_ev (f := f) (b := a134) (s := a1) (by exact ⟨u101e.2.1.1.1, u101e.2.1.1.2⟩) (by exact ⟨hp5.1, hp4.2⟩)
        have u140l := ed_le (f := f) (s := a1) (b := a134) (by exact ⟨u101e.2.1.1.1, u101e.2.1.1.2⟩) (by exact ⟨hp5.1, hp5.2⟩) (by exact ⟨h135.1, u136b⟩)
        have u140o : orI a1 (pw2 (M0.1 89 (6 * a1 + a134).toNat).toInt) = (orI a1 (pw2 (boF f a134 a1))) := by rw [u140g1]
        have u140p : andI (shrI a1 (M0.1 89 (6 * a1 + a134).toNat).toInt) 1 = andI (shrI a1 (boF f a134 a1)) 1 := by rw [u140g1]
        have u140r : (boF f a134 a1) = -1 ∨ (iiF a1 (boF f a134 a1) = 0 ∧ andI (shrI a1 (boF f a134 a1)) 1 = 0) ∨ (iiF a1 (boF f a134 a1) = 1 ∧ andI (shrI a1 (boF f a134 a1)) 1 = 1) := by
          by_cases c : (boF f a134 a1) = -1
          · exact Or.inl c
          · exact Or.inr (ii_e (by exact ⟨hp5.1, hp5.2⟩) (by (clear u140p u140o u140l u140q u140g2 u140g1 u140g h139 ua137 la137 u136b h135 ih132 u101x u101g u101z u101n hret C hp5 hp4 hp3 hp2 hp1 hp0 egp cgp ha1 hM0; omega)))
        have u140d : (boF f a134 a1) = -1 ∨ ¬ iiF a1 (boF f a134 a1) = 0 ∨ (M0.1 91 (orI a1 (pw2 (boF f a134 a1))).toNat).toInt = fxV (edF f (-1) (orI a1 (pw2 (boF f a134 a1)))) := by
          by_cases c : (boF f a134 a1) = -1 ∨ ¬ iiF a1 (boF f a134 a1) = 0
          · (clear u140r u140p u140o u140l u140q u140g2 u140g1 u140g h139 ua137 la137 u136b h135 ih132 u101x u101g u101z u101n u101e hret C hp5 hp4 hp3 hp2 hp1 hp0 egp cgp ha1 hM0; omega)
          · exact Or.inr (Or.inr (fr_g (M := M0) (f := f) (a := -1) (s := (f 27).toInt + (-1)) (by exact hp1) _ (by (clear u140p u140o u140g1 u140g h139 ua137 la137 u136b h135 ih132 u101x u101g u101z u101n hret C hp5 hp3 hp2 hp1 hp0 egp cgp ha1 hM0; omega))))
        have u140f := fxV_s (edF f (-1) (orI a1 (pw2 (boF f a134 a1))))
        have u140n : (M0.1 91 (orI a1 (pw2 (M0.1 89 (6 * a1 + a134).toNat).toInt)).toNat).toInt = (M0.1 91 (orI a1 (pw2 (boF f a134 a1))).toNat).toInt := by rw [u140o]
        have u140x := fxV_s (edF f (-1) a1)
        refine j_aload_n C 0 0 dX5_nearestComer_13 rfl rfl ?_
        refine j_iload_n C 1 1 dX5_nearestComer_14 rfl rfl ?_
        refine j_iload_n C 2 2 dX5_nearestComer_15 rfl rfl ?_
        refine j_callVi C (d := 0) (As := [.int (sI a1), .int (sI a134)]) (st := []) 88 (s_lt rfl rfl) (s_kc (c := 4) rfl rfl) (by decide) rfl (s3_X5_pick hM0 a1 (by exact ⟨ha1.1, ha1.2⟩) a134 (by (clear u140x u140n u140f u140d u140r u140p u140o u140l u140v u140q u140g2 u140g1 u140g h139 ua137 la137 u136b ih132 u101x u101g u101z u101n u101e hret C hp5 hp4 hp3 hp2 hp1 hp0 egp cgp ha1 hM0; omega)) (by exact ⟨hp5.1, hp5.2⟩) (by exact ⟨h135.1, (by (clear u140x u140n u140f u140d u140r u140p u140o u140l u140v u140q u140g2 u140g1 u140g h139 ua137 la137 ih132 u101x u101g u101z u101n hret C hp5 hp4 hp3 hp2 hp1 hp0 egp cgp ha1 hM0; omega))⟩)) gX5_nearestComer_X5_pick rfl hdX5_pick (by decide) (Nat.le_of_ble_eq_true rfl) dX5_nearestComer_16 rfl (fun r141 M142 h143 => ?_)
        obtain ⟨a145, rfl, rfl, h144⟩ := h143
        obtain rfl : a145 = ((M0.1 89 (6 * a1 + a134).toNat).toInt) := by exact h144.2.2
        refine j_istore_n C 3 [(3, .int (sI ((M0.1 89 (6 * a1 + a134).toNat).toInt))), (0, .ref (ad 88)), (1, .int (sI a1)), (2, .int (sI a134))] dX5_nearestComer_19 rfl (by decide) rfl ?_
        refine j_iload_n C 0 3 dX5_nearestComer_20 rfl rfl ?_
        refine y_if_lt C 66 dX5_nearestComer_21 (by decide) (by (clear u140x u140n u140f u140d u140r u140p u140o u140l u140q u140g2 u140g1 h139 ua137 la137 u136b h135 ih132 u101x u101g u101z u101n u101e hret C hp5 hp4 hp3 hp2 hp1 hp0 egp cgp ha1 hM0; omega)) (fun h146 => ?_) (fun h146 => ?_)
        · refine y_iinc C 3 [(2, .int (sI (a134 + 1))), (3, .int (sI ((M0.1 89 (6 * a1 + a134).toNat).toInt))), (0, .ref (ad 88)), (1, .int (sI a1))] dX5_nearestComer_66 rfl (by decide) rfl ?_
          refine j_goto C 2 dX5_nearestComer_69 (by decide) ?_
          have u147s := nxb_s (f := f) (s := a1) (b := a134) (b' := a134 + 1) (by exact h135.2.2.2.1) rfl (by (clear u140x u140n u140f u140d u140r u140p u140o u140l u140q u140g2 u140g1 h139 ua137 la137 u136b h135 ih132 u101x u101g u101z u101n u101e hret C hp5 hp4 hp3 hp2 hp1 hp0 egp cgp ha1 hM0; omega))
          refine j_lv [2, 3, 0] rfl ?_; exact ih132 (a134 + 1) (by (clear u140x u140n u140f u140d u140r u140p u140o u140l u140v u140g2 u140g1 h139 ua137 la137 ih132 u101x u101g u101z u101n hret C hp5 hp4 hp2 hp1 hp0 egp cgp ha1 hM0; exact ⟨(by omega), ⟨(by omega), ⟨(by omega), ⟨u147s, ⟨(by omega), (by omega)⟩⟩⟩⟩⟩))
        · refine j_iload_n C 2 1 dX5_nearestComer_24 rfl rfl ?_
          refine j_iload_n C 0 3 dX5_nearestComer_25 rfl rfl ?_
          refine e_ishrP C dX5_nearestComer_26 (by exact ⟨hp5.1, ha1.2⟩) (fun lb148 ub148 => ?_)
          refine y_iconst C dX5_nearestComer_27 ?_
          refine e_iandR C dX5_nearestComer_28 (by exact ⟨(by decide), (by decide)⟩) (fun lb149 ub149 => ?_)
          refine y_if_ne C 66 dX5_nearestComer_29 (by decide) (by (clear ub148 lb148 h146 h144 u140x u140n u140f u140d u140r u140o u140l u140v u140q u140g2 u140g1 u140g h139 ua137 la137 u136b h135 ih132 u101x u101g u101z u101n u101e hret C hp5 hp4 hp3 hp2 hp1 hp0 egp cgp ha1 hM0; omega)) (fun h150 => ?_) (fun h150 => ?_)
          · refine y_iinc C 3 [(2, .int (sI (a134 + 1))), (3, .int (sI ((M0.1 89 (6 * a1 + a134).toNat).toInt))), (0, .ref (ad 88)), (1, .int (sI a1))] dX5_nearestComer_66 rfl (by decide) rfl ?_
            refine j_goto C 2 dX5_nearestComer_69 (by decide) ?_
            have u151s := nxb_s (f := f) (s := a1) (b := a134) (b' := a134 + 1) (by exact h135.2.2.2.1) rfl (by (clear ub148 lb148 u140n u140o u140l u140q u140g2 u140g1 h139 ua137 la137 u136b h135 ih132 u101x u101g u101z u101n u101e hret C hp5 hp4 hp2 hp1 hp0 egp cgp ha1 hM0; omega))
            refine j_lv [2, 3, 0] rfl ?_; exact ih132 (a134 + 1) (by (clear ub149 lb149 ub148 lb148 h146 h144 u140x u140n u140f u140d u140o u140l u140v u140g2 u140g1 h139 ua137 la137 ih132 u101x u101g u101z u101n hret C hp5 hp4 hp3 hp2 hp1 hp0 egp cgp ha1 hM0; exact ⟨(by omega), ⟨(by omega), ⟨(by omega), ⟨u151s, ⟨(by omega), (by omega)⟩⟩⟩⟩⟩))
          · refine j_aload_n C 1 0 dX5_nearestComer_32 rfl rfl ?_
            refine y_getC C 4 91 fX5_nearestComer_18 rfl rfl ft_4_3 sm_4_3 rfl hM0 dX5_nearestComer_33 ?_
            refine j_iload_n C 2 1 dX5_nearestComer_36 rfl rfl ?_
            refine y_iconst C dX5_nearestComer_37 ?_
            refine j_iload_n C 0 3 dX5_nearestComer_38 rfl rfl ?_
            refine e_shl1 C 7 128 dX5_nearestComer_39 rfl (by decide) (by (clear h150 ub149 lb149 ub148 lb148 u140x u140n u140f u140d u140r u140p u140o u140l u140q u140g2 u140g1 h139 ua137 la137 u136b h135 ih132 u101x u101g u101z u101n u101e hret C hp5 hp4 hp3 hp2 hp1 hp0 egp cgp ha1 hM0; omega)) (fun lb152 ub152 => ?_)
            refine e_iorN C 8 255 dX5_nearestComer_40 rfl (by decide) (by exact ⟨hp5.1, ⟨hp5.2, ⟨(by (clear h150 ub149 lb149 ub148 lb148 h146 h144 u140x u140n u140f u140d u140r u140p u140o u140l u140v u140q u140g2 u140g1 u140g h139 ua137 la137 u136b h135 ih132 u101x u101g u101z u101n u101e hret C hp4 hp3 hp2 hp1 hp0 egp cgp hM0; omega)), (by (clear h150 ub149 lb149 ub148 lb148 h146 h144 u140x u140n u140f u140d u140r u140p u140o u140l u140v u140q u140g2 u140g1 u140g h139 ua137 la137 u136b h135 ih132 u101x u101g u101z u101n u101e hret C hp4 hp3 hp2 hp1 hp0 egp cgp hM0; omega))⟩⟩⟩) (fun lb153 ub153 ob153 => ?_)
            refine y_iald C 40 256 _ _ rfl rfl rfl ak_40 an_40 rfl (sb_40 _) hM0 dX5_nearestComer_41 (by exact ⟨lb153, (by (clear ob153 ub152 lb152 h150 ub149 lb149 ub148 lb148 h146 h144 u140x u140n u140f u140d u140r u140p u140l u140v u140q u140g2 u140g1 u140g h139 ua137 la137 u136b h135 ih132 u101x u101g u101z u101n u101e hret C hp5 hp4 hp3 hp2 hp1 hp0 egp cgp ha1 hM0; omega))⟩) (fun a154 ea154 la154 ua154 => ?_)
            obtain rfl : a154 = (M0.1 91 ((orI a1 (pw2 ((M0.1 89 (6 * a1 + a134).toNat).toInt)))).toNat).toInt := ea154
            refine y_if_lt C 66 dX5_nearestComer_42 (by decide) (by exact ⟨la154, ua154⟩) (fun h155 => ?_) (fun h155 => ?_)
            · refine y_iinc C 3 [(2, .int (sI (a134 + 1))), (3, .int (sI ((M0.1 89 (6 * a1 + a134).toNat).toInt))), (0, .ref (ad 88)), (1, .int (sI a1))] dX5_nearestComer_66 rfl (by decide) rfl ?_
              refine j_goto C 2 dX5_nearestComer_69 (by decide) ?_
              have u156s := nxb_s (f := f) (s := a1) (b := a134) (b' := a134 + 1) (by exact h135.2.2.2.1) rfl (by (clear ob153 ub153 lb153 ub152 lb152 h150 ub149 lb149 ub148 lb148 u140r u140p u140o u140l u140q u140g2 u140g1 h139 ua137 la137 u136b h135 ih132 u101x u101g u101z u101n u101e hret C hp5 hp4 hp2 hp1 hp0 egp cgp ha1 hM0; omega))
              refine j_lv [2, 3, 0] rfl ?_; exact ih132 (a134 + 1) (by exact ⟨(by (clear ob153 ub153 lb153 ub152 lb152 ub149 lb149 ub148 lb148 u140o u140g2 u140g1 h139 ua137 la137 ih132 u101x u101g u101z u101n hret C hp5 hp4 hp2 hp1 hp0 egp cgp ha1 hM0; omega)), ⟨(by (clear ob153 ub153 lb153 ub152 lb152 ub149 lb149 ub148 lb148 u140o u140g2 u140g1 h139 ua137 la137 ih132 u101x u101g u101z u101n hret C hp5 hp4 hp2 hp1 hp0 egp cgp ha1 hM0; omega)), ⟨(by (clear ob153 ub153 lb153 ub152 lb152 ub149 lb149 ub148 lb148 u140o u140g2 u140g1 h139 ua137 la137 ih132 u101x u101g u101z u101n hret C hp5 hp4 hp2 hp1 hp0 egp cgp ha1 hM0; omega)), ⟨u156s, ⟨(by (clear ob153 ub153 lb153 ub152 lb152 ub149 lb149 ub148 lb148 u140o u140g2 u140g1 h139 ua137 la137 ih132 u101x u101g u101z u101n hret C hp5 hp4 hp2 hp1 hp0 egp cgp ha1 hM0; omega)), (by (clear ob153 ub153 lb153 ub152 lb152 ub149 lb149 ub148 lb148 u140o u140g2 u140g1 h139 ua137 la137 ih132 u101x u101g u101z u101n hret C hp5 hp4 hp2 hp1 hp0 egp cgp ha1 hM0; omega))⟩⟩⟩⟩⟩)
            · refine j_aload_n C 1 0 dX5_nearestComer_45 rfl rfl ?_
              refine y_getC C 4 91 fX5_nearestComer_18 rfl rfl ft_4_3 sm_4_3 rfl hM0 dX5_nearestComer_46 ?_
              refine j_iload_n C 2 1 dX5_nearestComer_49 rfl rfl ?_
              refine y_iconst C dX5_nearestComer_50 ?_
              refine j_iload_n C 0 3 dX5_nearestComer_51 rfl rfl ?_
              refine e_shl1 C 7 128 dX5_nearestComer_52 rfl (by decide) (by omega) (fun lb157 ub157 => ?_)
              refine e_iorN C 8 255 dX5_nearestComer_53 rfl (by decide) (by exact ⟨hp5.1, ⟨hp5.2, ⟨(by (clear ub157 lb157 h155 ua154 la154 ob153 ub153 lb153 h150 ub149 lb149 ub148 lb148 h146 h144 u140x u140n u140f u140d u140r u140p u140o u140l u140v u140q u140g2 u140g1 u140g h139 ua137 la137 u136b h135 ih132 u101x u101g u101z u101n u101e hret C hp4 hp3 hp2 hp1 hp0 egp cgp hM0; omega)), (by (clear ub157 lb157 h155 ua154 la154 ob153 ub153 lb153 h150 ub149 lb149 ub148 lb148 h146 h144 u140x u140n u140f u140d u140r u140p u140o u140l u140v u140q u140g2 u140g1 u140g h139 ua137 la137 u136b h135 ih132 u101x u101g u101z u101n u101e hret C hp4 hp3 hp2 hp1 hp0 egp cgp hM0; omega))⟩⟩⟩) (fun lb158 ub158 ob158 => ?_)
              refine y_iald C 40 256 _ _ rfl rfl rfl ak_40 an_40 rfl (sb_40 _) hM0 dX5_nearestComer_54 (by exact ⟨lb153, (by omega)⟩) (fun a159 ea159 la159 ua159 => ?_)
              obtain rfl : a159 = (M0.1 91 ((orI a1 (pw2 ((M0.1 89 (6 * a1 + a134).toNat).toInt)))).toNat).toInt := ea159
              refine j_aload_n C 1 0 dX5_nearestComer_55 rfl rfl ?_
              refine y_getC C 4 91 fX5_nearestComer_18 rfl rfl ft_4_3 sm_4_3 rfl hM0 dX5_nearestComer_56 ?_
              refine j_iload_n C 2 1 dX5_nearestComer_59 rfl rfl ?_
              refine y_iald C 40 256 _ _ rfl rfl rfl ak_40 an_40 rfl (sb_40 _) hM0 dX5_nearestComer_60 (by exact ⟨hp5.1, (by (clear ua159 la159 ob158 ub158 lb158 ub157 lb157 h155 ua154 la154 ob153 ub153 lb153 ub152 lb152 h150 ub149 lb149 ub148 lb148 h146 h144 u140x u140n u140f u140d u140r u140p u140o u140l u140v u140q u140g2 u140g1 u140g h139 ua137 la137 u136b h135 ih132 u101x u101g u101z u101n u101e hret C hp4 hp3 hp2 hp1 hp0 egp cgp hM0; omega))⟩) (fun a160 ea160 la160 ua160 => ?_)
              obtain rfl : a160 = (M0.1 91 (a1).toNat).toInt := ea160
              refine y_icmp_ge C 66 dX5_nearestComer_61 (by decide) (by exact ⟨⟨la154, ua154⟩, ⟨la160, ua160⟩⟩) (fun h161 => ?_) (fun h161 => ?_)
              · refine y_iinc C 3 [(2, .int (sI (a134 + 1))), (3, .int (sI ((M0.1 89 (6 * a1 + a134).toNat).toInt))), (0, .ref (ad 88)), (1, .int (sI a1))] dX5_nearestComer_66 rfl (by decide) rfl ?_
                refine j_goto C 2 dX5_nearestComer_69 (by decide) ?_
                have u162s := nxb_s (f := f) (s := a1) (b := a134) (b' := a134 + 1) (by exact h135.2.2.2.1) rfl (by (clear ua160 la160 ua159 la159 ob158 ub158 lb158 ub157 lb157 h155 ua154 la154 ob153 ub153 lb153 ub152 lb152 h150 ub149 lb149 ub148 lb148 u140r u140p u140o u140l u140q u140g2 u140g1 h139 ua137 la137 u136b h135 ih132 u101x u101z u101n u101e hret C hp5 hp4 hp2 hp1 hp0 egp cgp ha1 hM0; omega))
                refine j_lv [2, 3, 0] rfl ?_; exact ih132 (a134 + 1) (by exact ⟨(by (clear ua160 la160 ua159 la159 ob158 ub158 lb158 ub157 lb157 ob153 ub153 lb153 ub152 lb152 ub149 lb149 ub148 lb148 u140o u140g2 u140g1 h139 ua137 la137 ih132 u101x u101z u101n hret C hp5 hp4 hp2 hp1 hp0 egp cgp ha1 hM0; omega)), ⟨(by (clear ua160 la160 ua159 la159 ob158 ub158 lb158 ub157 lb157 ob153 ub153 lb153 ub152 lb152 ub149 lb149 ub148 lb148 u140o u140g2 u140g1 h139 ua137 la137 ih132 u101x u101z u101n hret C hp5 hp4 hp2 hp1 hp0 egp cgp ha1 hM0; omega)), ⟨(by (clear ua160 la160 ua159 la159 ob158 ub158 lb158 ub157 lb157 ob153 ub153 lb153 ub152 lb152 ub149 lb149 ub148 lb148 u140o u140g2 u140g1 h139 ua137 la137 ih132 u101x u101z u101n hret C hp5 hp4 hp2 hp1 hp0 egp cgp ha1 hM0; omega)), ⟨u162s, ⟨(by (clear ua160 la160 ua159 la159 ob158 ub158 lb158 ub157 lb157 ob153 ub153 lb153 ub152 lb152 ub149 lb149 ub148 lb148 u140o u140g2 u140g1 h139 ua137 la137 ih132 u101x u101z u101n hret C hp5 hp4 hp2 hp1 hp0 egp cgp ha1 hM0; omega)), (by (clear ua160 la160 ua159 la159 ob158 ub158 lb158 ub157 lb157 ob153 ub153 lb153 ub152 lb152 ub149 lb149 ub148 lb148 u140o u140g2 u140g1 h139 ua137 la137 ih132 u101x u101z u101n hret C hp5 hp4 hp2 hp1 hp0 egp cgp ha1 hM0; omega))⟩⟩⟩⟩⟩)
              · refine j_iload_n C 3 2 dX5_nearestComer_64 rfl rfl ?_
                exact hret _ _ _ _ dX5_nearestComer_65 ⟨a134, rfl, rfl, by exact ⟨h135.1, ⟨(by (clear ua160 la160 ua159 la159 ob158 ub158 lb158 ub157 lb157 ob153 ub153 lb153 ub152 lb152 ub149 lb149 ub148 lb148 u140o u140g2 u140g1 h139 ua137 la137 ih132 u101x u101z u101n hret C hp5 hp4 hp2 hp1 hp0 egp cgp ha1 hM0; omega)), ⟨(by (clear ua160 la160 ua159 la159 ob158 ub158 lb158 ub157 lb157 ob153 ub153 lb153 ub152 lb152 ub149 lb149 ub148 lb148 u140o u140g2 u140g1 h139 ua137 la137 ih132 u101x u101z u101n hret C hp5 hp4 hp2 hp1 hp0 egp cgp ha1 hM0; omega)), ⟨u136b, ⟨(by (clear ua160 la160 ua159 la159 ob158 ub158 lb158 ub157 lb157 ob153 ub153 lb153 ub152 lb152 ub149 lb149 ub148 lb148 u140o u140g2 u140g1 h139 ua137 la137 ih132 u101x u101z u101n hret C hp5 hp4 hp2 hp1 hp0 egp cgp ha1 hM0; omega)), (by (clear ua160 la160 ua159 la159 ob158 ub158 lb158 ub157 lb157 ob153 ub153 lb153 ub152 lb152 ub149 lb149 ub148 lb148 u140o u140g2 u140g1 h139 ua137 la137 ih132 u101x u101z u101n hret C hp5 hp4 hp2 hp1 hp0 egp cgp ha1 hM0; omega))⟩⟩⟩⟩⟩⟩
  refine j_lv [1, 2, 0] rfl ?_; exact L133 2010 0 (by exact ⟨(by decide), ⟨(by decide), ⟨u101z, ⟨u101n, ⟨u101e.2.1.2.2.1.1, (by decide)⟩⟩⟩⟩⟩)
set_option maxHeartbeats 4000000 in
theorem s2_X5_comerAt {l : Launch} {dC : Nat → ClassId} {dI : Nat → Nat → Nat} {ad : Nat → Nat} {cA : Nat → ClassId} {pr : Nat → Nat → Bool} {Kz : mm_M} {M0 : mm_M} (hM0 : INV pr Kz M0) (a1 : Int) (ha1 : -2147483648 ≤ a1 ∧ a1 ≤ 2147483647) (gp : Nat) (cgp : s_c gp = 6) (egp : gp = M0.2.2 88 9) (f : Nat → Int32) (hp0 : b01 (LKP M0 gp f) = 1) (hp1 : b01 (FRQ M0 f (-1) ((f 27).toInt + (-1))) = 1) (hp2 : a1 < enF f (-1)) (hp3 : enF f (-1) ≤ 8) (hp4 : 0 ≤ a1 ∧ a1 ≤ 255) : Ci l 2 yX5_comerAt wsX5_comerAt dC dI ad cA [.ref (ad 88), .int (sI a1)] M0 (fun r M' => ∃ a : Int, r = sI a ∧ M0 = M' ∧ 0 ≤ a ∧ a ≤ 5 ∧ (a = (roB f (enF f (-1)) (a1).toNat))) := by
  refine ci_of (cc := cX5_comerAt) (maxL := 5) (ty := .int) (lv := [(0, .ref (ad 88)), (1, .int (sI a1))]) (by decide) rfl (fun r M' hp => rfl) (Nat.le_of_ble_eq_true rfl) rfl ?_
  intro p e s m args below meth c A Q C hret
  have u101e := lkp_e (M := M0) (p := gp) (f := f) (by exact hp0)
  have u101n := enF_s f (-1)
  have u101z : (f 27).toInt = roS f (enF f (-1)) (0 : Int).toNat := rfl
  have u101y : (M0.1 90 (M0.1 88 13).toInt.toNat).toInt = 1 := by rw [show (M0.1 88 13).toInt = (f 27).toInt by exact u101e.1.2.2.2.1]; exact u101e.2.2
  have u101x : edF f (-1) (M0.1 88 13).toInt = edF f (-1) (f 27).toInt := by rw [show (M0.1 88 13).toInt = (f 27).toInt by exact u101e.1.2.2.2.1]
  refine j_aload_n C 0 0 dX5_comerAt_0 rfl rfl ?_
  refine y_getI C 4 _ _ fX5_comerAt_45 rfl rfl ft_4_13 sb_4_13 hM0 dX5_comerAt_1 (fun a102 ea102 la102 ua102 => ?_)
  obtain rfl : a102 = (M0.1 88 13).toInt := ea102
  refine j_istore_n C 2 [(2, .int (sI (M0.1 88 13).toInt)), (0, .ref (ad 88)), (1, .int (sI a1))] dX5_comerAt_4 rfl (by decide) rfl ?_
  refine y_iconst C dX5_comerAt_5 ?_
  refine j_istore_n C 3 [(3, .int (sI (-1))), (2, .int (sI (M0.1 88 13).toInt)), (0, .ref (ad 88)), (1, .int (sI a1))] dX5_comerAt_6 rfl (by decide) rfl ?_
  refine y_iconst C dX5_comerAt_7 ?_
  refine j_istore C 4 [(4, .int (sI 0)), (3, .int (sI (-1))), (2, .int (sI (M0.1 88 13).toInt)), (0, .ref (ad 88)), (1, .int (sI a1))] dX5_comerAt_8 (by decide) rfl ?_
  have L130 : ∀ (n128 : Nat), ∀ (a131 : Int) (a132 : Int) (a133 : Int), (0 ≤ a131 ∧ a131 ≤ 255 ∧ (-1) ≤ a132 ∧ a132 ≤ 5 ∧ 0 ≤ a133 ∧ a133 ≤ 9 ∧ (a131 = roS f (enF f (-1)) (a133).toNat) ∧ ((M0.1 90 (a131).toNat).toInt = 1) ∧ (edF f (-1) a131 = (enF f (-1)) - a133) ∧ ((f 27).toInt ≤ a131 ∧ a131 ≤ evF f) ∧ (a133 ≤ a1 + 1) ∧ (a133 = 0 ∨ (a132 = roB f (enF f (-1)) (a133 - 1).toNat ∧ 0 ≤ a132)) ∧ (9 - a133) < (n128 : Int)) → jj p l e (cn_R 2) s m args below meth c 0 0 Q 5 dC dI ad cA A M0 10 [(0, .ref (ad 88)), (1, .int (sI a1)), (2, .int (sI a131)), (3, .int (sI a132)), (4, .int (sI a133))] [] := by
    intro n128
    induction n128 with
    | zero =>
      intro a131 a132 a133 h134
      exfalso; (clear ua102 la102 u101x u101y u101z u101n u101e hret C hp4 hp3 hp2 hp1 hp0 egp cgp ha1 hM0; omega)
    | succ n128 ih129 =>
      intro a131 a132 a133 h134
      refine j_iload C 4 dX5_comerAt_10 rfl ?_
      refine j_iload_n C 1 1 dX5_comerAt_12 rfl rfl ?_
      refine y_icmp_gt C 53 dX5_comerAt_13 (by decide) (by exact ⟨⟨(by (clear ih129 ua102 la102 u101x u101y u101z u101n u101e hret C hp3 hp2 hp1 hp0 egp cgp hM0; omega)), (by (clear ih129 ua102 la102 u101x u101y u101z u101n u101e hret C hp3 hp2 hp1 hp0 egp cgp hM0; omega))⟩, ⟨ha1.1, ha1.2⟩⟩) (fun h136 => ?_) (fun h136 => ?_)
      · have u137x : roB f (enF f (-1)) (a133 - 1).toNat = roB f (enF f (-1)) (a1).toNat := by rw [show a133 - 1 = a1 by (clear ih129 ua102 la102 u101x u101y u101z u101n u101e hret C hp4 hp3 hp2 hp1 hp0 egp cgp ha1 hM0; omega)]
        refine j_iload_n C 3 3 dX5_comerAt_53 rfl rfl ?_
        exact hret _ _ _ _ dX5_comerAt_54 ⟨a132, rfl, rfl, by exact ⟨(by (clear ih129 ua102 la102 u101x u101y u101z u101n u101e hret C hp3 hp2 hp1 hp0 egp cgp hM0; omega)), ⟨h134.2.2.2.1, (by (clear ih129 ua102 la102 u101x u101y u101z u101n u101e hret C hp3 hp2 hp1 hp0 egp cgp hM0; omega))⟩⟩⟩
      · refine j_iload C 4 dX5_comerAt_16 rfl ?_
        refine y_bipush C dX5_comerAt_18 rfl ?_
        refine y_icmp_gt C 53 dX5_comerAt_20 (by decide) (by exact ⟨⟨(by (clear h136 ih129 ua102 la102 u101x u101y u101z u101n u101e hret C hp4 hp3 hp2 hp1 hp0 egp cgp ha1 hM0; omega)), (by (clear h136 ih129 ua102 la102 u101x u101y u101z u101n u101e hret C hp4 hp3 hp2 hp1 hp0 egp cgp ha1 hM0; omega))⟩, ⟨(by decide), (by decide)⟩⟩) (fun h138 => ?_) (fun h138 => ?_)
        · have u139x : roB f (enF f (-1)) (a133 - 1).toNat = roB f (enF f (-1)) (a1).toNat := by rw [show a133 - 1 = a1 by (clear ih129 ua102 la102 u101x u101y u101z u101n u101e hret C hp4 hp1 hp0 egp cgp ha1 hM0; omega)]
          refine j_iload_n C 3 3 dX5_comerAt_53 rfl rfl ?_
          exact hret _ _ _ _ dX5_comerAt_54 ⟨a132, rfl, rfl, by exact ⟨(by omega), ⟨h134.2.2.2.1, (by omega)⟩⟩⟩
        · refine j_aload_n C 0 0 dX5_comerAt_23 rfl rfl ?_
          refine j_iload_n C 2 2 dX5_comerAt_24 rfl rfl ?_
          refine j_callVi C (d := 1) (As := [.int (sI a131)]) (st := []) 88 (s_lt rfl rfl) (s_kc (c := 4) rfl rfl) (by decide) rfl (s2_X5_nearestComer hM0 a131 (by (clear h138 h136 ih129 ua102 la102 u101x u101y u101z u101n u101e hret C hp4 hp3 hp2 hp1 hp0 egp cgp ha1 hM0; omega)) gp cgp (egp) f (by exact hp0) (by exact hp1) (by exact h134.2.2.2.2.2.2.2.1) (by (clear ih129 ua102 la102 u101x u101y u101z u101n u101e hret C hp4 hp1 hp0 egp cgp ha1 hM0; omega)) (by exact ⟨h134.2.2.2.2.2.2.2.2.2.1.1, h134.2.2.2.2.2.2.2.2.2.1.2⟩) (by exact ⟨h134.1, h134.2.1⟩)) gX5_comerAt_X5_nearestComer rfl hdX5_nearestComer (by decide) (Nat.le_of_ble_eq_true rfl) dX5_comerAt_25 rfl (fun r140 M141 h142 => ?_)
          obtain ⟨a144, rfl, rfl, h143⟩ := h142
          have u145p : nbS f a131 (edF f (-1) a131 - 1) 6 0 = nbS f a131 ((enF f (-1)) - a133 - 1) 6 0 := by rw [show edF f (-1) a131 - 1 = (enF f (-1)) - a133 - 1 by (clear h143 h138 h136 ih129 ua102 la102 u101x u101y u101z u101n u101e hret C hp4 hp3 hp2 hp1 hp0 egp cgp ha1 hM0; omega)]
          have u145r := ro_s (f := f) (m := (enF f (-1))) (i := a133) (i' := a133 + 1) (s := a131) (b := a144) (by (clear u145p h143 h136 ih129 ua102 la102 u101x u101y u101z u101n u101e hret C hp4 hp3 hp2 hp1 hp0 egp cgp ha1 hM0; omega)) (by exact h134.2.2.2.2.2.2.1) (by (clear h138 h136 h134 ih129 ua102 la102 u101x u101y u101z u101n u101e hret C hp4 hp3 hp2 hp1 hp0 egp cgp ha1 hM0; omega))
          have u145r1 := u145r.1
          have u145r2 := u145r.2
          have u145g := lkp_g (M := M0) (p := gp) (f := f) (by exact hp0) (s := a131) (b := a144) (by exact ⟨h134.2.2.2.2.2.2.2.2.2.1.1, ⟨h134.2.2.2.2.2.2.2.2.2.1.2, ⟨h143.1, h143.2.2.2.1⟩⟩⟩) (by exact h134.2.2.2.2.2.2.2.1)
          have u145g1 := u145g.1
          have u145g2 := u145g.2
          have u145v := bo_ev (f := f) (b := a144) (s := a131) (by exact ⟨u101e.2.1.1.1, u101e.2.1.1.2⟩) (by exact ⟨h134.1, h134.2.2.2.2.2.2.2.2.2.1.2⟩)
          have u145o : orI a131 (pw2 (M0.1 89 (6 * a131 + a144).toNat).toInt) = orI a131 (pw2 (boF f a144 a131)) := by rw [u145g1]
          have u145q : roB f (enF f (-1)) (a133 + 1 - 1).toNat = roB f (enF f (-1)) (a133).toNat := by rw [show a133 + 1 - 1 = a133 by (clear u145o u145v u145g2 u145g1 u145g u145r2 u145r1 u145r u145p h143 h138 h136 h134 ih129 ua102 la102 u101x u101y u101z u101n u101e hret C hp4 hp3 hp2 hp1 hp0 egp cgp ha1 hM0; omega)]
          have u145w := pw2_p (boF f a144 a131)
          have u145k : pw2 (boF f a144 a131) ≤ 256 := pw2_m (b := 8) (by (clear u145w u145q u145o u145g2 u145g1 u145g u145r2 u145r1 u145r u145p h143 h138 h136 h134 ih129 ua102 la102 u101x u101y u101z u101n hret C hp4 hp3 hp2 hp1 hp0 egp cgp ha1 hM0; omega))
          have u145t := sb_orl (x := sI a131) (y := sI (pw2 (boF f a144 a131))) (by rw [sI_t (by (clear u145k u145w u145q u145o u145v u145g2 u145g1 u145g u145r2 u145r1 u145r u145p h143 h138 h136 ih129 ua102 la102 u101x u101y u101z u101n u101e hret C hp4 hp3 hp2 hp1 hp0 egp cgp ha1 hM0; omega))]; exact h134.1) (by rw [sI_t (by (clear u145q u145o u145v u145g2 u145g1 u145g u145r2 u145r1 u145r u145p h143 h138 h136 h134 ih129 ua102 la102 u101x u101y u101z u101n u101e hret C hp4 hp3 hp2 hp1 hp0 egp cgp ha1 hM0; omega))]; (clear u145q u145o u145v u145g2 u145g1 u145g u145r2 u145r1 u145r u145p h143 h138 h136 h134 ih129 ua102 la102 u101x u101y u101z u101n u101e hret C hp4 hp3 hp2 hp1 hp0 egp cgp ha1 hM0; omega))
          refine j_istore_n C 3 [(3, .int (sI a144)), (0, .ref (ad 88)), (1, .int (sI a1)), (2, .int (sI a131)), (4, .int (sI a133))] dX5_comerAt_28 rfl (by decide) rfl ?_
          refine j_iload_n C 0 3 dX5_comerAt_29 rfl rfl ?_
          refine y_iconst C dX5_comerAt_30 ?_
          refine y_icmp_ne C 36 dX5_comerAt_31 (by decide) (by exact ⟨⟨(by (clear u145t u145k u145w u145o u145v u145g2 u145g1 u145g u145r2 u145r1 h138 h136 h134 ih129 ua102 la102 u101x u101y u101z u101n u101e hret C hp4 hp3 hp2 hp1 hp0 egp cgp ha1 hM0; omega)), (by (clear u145t u145k u145w u145o u145v u145g2 u145g1 u145g u145r2 u145r1 h138 h136 h134 ih129 ua102 la102 u101x u101y u101z u101n u101e hret C hp4 hp3 hp2 hp1 hp0 egp cgp ha1 hM0; omega))⟩, ⟨(by decide), (by decide)⟩⟩) (fun h146 => ?_) (fun h146 => ?_)
          · refine j_iload_n C 3 2 dX5_comerAt_36 rfl rfl ?_
            refine y_iconst C dX5_comerAt_37 ?_
            refine j_aload_n C 1 0 dX5_comerAt_38 rfl rfl ?_
            refine j_iload_n C 3 2 dX5_comerAt_39 rfl rfl ?_
            refine j_iload_n C 0 3 dX5_comerAt_40 rfl rfl ?_
            refine j_callVi C (d := 0) (As := [.int (sI a131), .int (sI a144)]) (st := [.int (sI 1), .int (sI a131)]) 88 (s_lt rfl rfl) (s_kc (c := 4) rfl rfl) (by decide) rfl (s3_X5_pick hM0 a131 (by omega) a144 (by (clear h146 u145t u145k u145w u145o u145v u145g2 u145g1 u145g u145r2 u145r1 h138 h136 h134 ih129 ua102 la102 u101x u101y u101z u101n u101e hret C hp4 hp3 hp2 hp1 hp0 egp cgp ha1 hM0; omega)) (by exact ⟨h134.1, h134.2.1⟩) (by exact ⟨h143.1, h143.2.1⟩)) gX5_comerAt_X5_pick rfl hdX5_pick (by decide) (Nat.le_of_ble_eq_true rfl) dX5_comerAt_41 rfl (fun r147 M148 h149 => ?_)
            obtain ⟨a151, rfl, rfl, h150⟩ := h149
            obtain rfl : a151 = ((M0.1 89 (6 * a131 + a144).toNat).toInt) := by exact h150.2.2
            have u152 : 0 ≤ ((M0.1 89 (6 * a131 + a144).toNat).toInt) ∧ ((M0.1 89 (6 * a131 + a144).toNat).toInt) ≤ 7 := by exact ⟨(by (clear u145t u145k u145w u145o u145g1 u145r2 u145r1 h138 h136 h134 ih129 ua102 la102 u101x u101y u101z u101n u101e hret C hp4 hp3 hp2 hp1 hp0 egp cgp ha1 hM0; omega)), h150.2.1⟩
            refine e_shl1 C 7 128 dX5_comerAt_44 rfl (by decide) (by exact ⟨u152.1, (by omega)⟩) (fun lb153 ub153 => ?_)
            refine e_iorN C 8 255 dX5_comerAt_45 rfl (by decide) (by exact ⟨h134.1, ⟨h134.2.1, ⟨(by (clear u152 h150 h146 u145t u145k u145w u145q u145o u145v u145g2 u145g1 u145g u145r2 u145r1 u145r u145p h143 h138 h136 ih129 ua102 la102 u101x u101y u101z u101n u101e hret C hp4 hp3 hp2 hp1 hp0 egp cgp ha1 hM0; omega)), (by (clear u152 h150 h146 u145t u145k u145w u145q u145o u145v u145g2 u145g1 u145g u145r2 u145r1 u145r u145p h143 h138 h136 ih129 ua102 la102 u101x u101y u101z u101n u101e hret C hp4 hp3 hp2 hp1 hp0 egp cgp ha1 hM0; omega))⟩⟩⟩) (fun lb154 ub154 ob154 => ?_)
            refine j_istore_n C 2 [(2, .int (sI (orI a131 (pw2 ((M0.1 89 (6 * a131 + a144).toNat).toInt))))), (3, .int (sI a144)), (0, .ref (ad 88)), (1, .int (sI a1)), (4, .int (sI a133))] dX5_comerAt_46 rfl (by decide) rfl ?_
            have u155m : (M0.1 90 ((orI a131 (pw2 ((M0.1 89 (6 * a131 + a144).toNat).toInt)))).toNat).toInt = 1 := by rw [show (orI a131 (pw2 ((M0.1 89 (6 * a131 + a144).toNat).toInt))) = orI a131 (pw2 (boF f a144 a131)) by exact u145o]; (clear ob154 ub154 lb154 ub153 lb153 u145t u145k u145w u145o u145g1 u145r2 u145r1 h138 h136 h134 ih129 ua102 la102 u101x u101y u101z u101n u101e hret C hp4 hp3 hp2 hp1 hp0 egp cgp ha1 hM0; omega)
            have u155d : edF f (-1) (orI a131 (pw2 ((M0.1 89 (6 * a131 + a144).toNat).toInt))) = edF f (-1) (orI a131 (pw2 (boF f a144 a131))) := by rw [show (orI a131 (pw2 ((M0.1 89 (6 * a131 + a144).toNat).toInt))) = orI a131 (pw2 (boF f a144 a131)) by exact u145o]
            refine y_iinc C 4 [(4, .int (sI (a133 + 1))), (2, .int (sI (orI a131 (pw2 ((M0.1 89 (6 * a131 + a144).toNat).toInt))))), (3, .int (sI a144)), (0, .ref (ad 88)), (1, .int (sI a1))] dX5_comerAt_47 rfl (by decide) rfl ?_
            refine j_goto C 10 dX5_comerAt_50 (by decide) ?_
            refine j_lv [3, 4, 1, 2, 0] rfl ?_; exact ih129 (orI a131 (pw2 ((M0.1 89 (6 * a131 + a144).toNat).toInt))) a144 (a133 + 1) (by (clear ub153 lb153 u145t u145k u145w u145g2 u145g1 u145r2 u145r1 ih129 ua102 la102 u101x u101y u101n u101e hret C hp4 hp3 hp2 hp1 hp0 egp cgp ha1 hM0; omega))
          · exfalso; (clear u145t u145k u145w u145o u145v u145g2 u145g1 u145g u145r2 u145r1 h138 h136 h134 ih129 ua102 la102 u101x u101y u101z u101n u101e hret C hp4 hp3 hp2 hp1 hp0 egp cgp ha1 hM0; omega)
  refine j_lv [3, 4, 2, 1, 0] rfl ?_; exact L130 2010 (M0.1 88 13).toInt (-1) 0 (by exact ⟨la102, ⟨ua102, ⟨(by decide), ⟨(by decide), ⟨(by decide), ⟨(by decide), ⟨(by (clear L130 la102 hret C hp3 hp1 hp0 egp cgp hM0; omega)), ⟨u101y, ⟨(by (clear L130 la102 hret C hp3 hp1 hp0 egp cgp hM0; omega)), ⟨⟨(by (clear L130 la102 hret C hp3 hp1 hp0 egp cgp hM0; omega)), (by (clear L130 la102 hret C hp3 hp1 hp0 egp cgp hM0; omega))⟩, ⟨(by (clear L130 la102 hret C hp3 hp1 hp0 egp cgp hM0; omega)), ⟨(by (clear L130 la102 hret C hp3 hp1 hp0 egp cgp hM0; omega)), (by decide)⟩⟩⟩⟩⟩⟩⟩⟩⟩⟩⟩⟩)
end
