section
set_option maxHeartbeats 4000000 in
theorem s2_X4_joined {l : Launch} {dC : Nat → ClassId} {dI : Nat → Nat → Nat} {ad : Nat → Nat} {cA : Nat → ClassId} {pr : Nat → Nat → Bool} {Kz : mm_M} {M0 : mm_M} (hM0 : INV pr Kz M0) (a0 : Int) (ha0 : -9223372036854775808 ≤ a0 ∧ a0 ≤ 9223372036854775807) (a2 : Int) (ha2 : -2147483648 ≤ a2 ∧ a2 ≤ 2147483647) (a3 : Int) (ha3 : -9223372036854775808 ≤ a3 ∧ a3 ≤ 9223372036854775807) (hp0 : 1008 ≤ a2) (hp1 : ¬ a2 = 1016) (hp2 : (-2147483648) ≤ a0 ∧ a0 ≤ 2147483647) (hp3 : (-2147483648) ≤ a3 ∧ a3 ≤ 2147483647) : Ci l 0 yX4_joined wsX4_joined dC dI ad cA [.long (sJ a0), .int (sI a2), .long (sJ a3)] M0 (fun r M' => ∃ a : Int, r = sI a ∧ M0 = M' ∧ (-2147483648) ≤ a ∧ a ≤ 2147483647 ∧ (a = (btF (cmF a2) a0 a3))) := by
  refine ci_of (cc := cX4_joined) (maxL := 7) (ty := .int) (lv := [(0, .long (sJ a0)), (2, .int (sI a2)), (3, .long (sJ a3))]) (by decide) rfl (fun r M' hp => rfl) (Nat.le_of_ble_eq_true rfl) rfl ?_
  intro p e s m args below meth c A Q C hret
  have u101c := cmF_s a2
  have u101b := btF_s (cmF a2) a0 a3
  refine j_iload_n C 1 2 dX4_joined_0 rfl rfl ?_
  rcases (show a2 = 1015 ∨ a2 = 2042 ∨ a2 = 2043 ∨ a2 = 2045 ∨ a2 = 2060 ∨ a2 = 2061 ∨ a2 = 2062 ∨ (¬ a2 = 1015 ∧ ¬ a2 = 2042 ∧ ¬ a2 = 2043 ∧ ¬ a2 = 2045 ∧ ¬ a2 = 2060 ∧ ¬ a2 = 2061 ∧ ¬ a2 = 2062) by (clear u101b u101c hret C hp3 hp2 hp1 hp0 ha3 ha2 ha0 hM0; omega)) with h102 | h102 | h102 | h102 | h102 | h102 | h102 | h102
  · refine y_lk C (off := 127) 128 dX4_joined_1 (by decide) (by decide) (by exact ⟨ha2.1, ha2.2⟩) (by rw [h102]; rfl) ?_
    refine j_lload_n C 0 0 dX4_joined_128 rfl rfl ?_
    refine j_lload_n C 2 3 dX4_joined_129 rfl rfl ?_
    refine e_land C dX4_joined_130 (fun lb103 ub103 => ?_)
    refine e_l2i C dX4_joined_131 (fun lb104 ub104 => ?_)
    have u105a := jw_and (a := a0) (b := a3) (by exact ⟨hp2.1, hp2.2⟩) (by exact ⟨hp3.1, hp3.2⟩)
    exact hret _ _ _ _ dX4_joined_132 ⟨(w32 (andJ a0 a3)), rfl, rfl, by exact ⟨lb104, ⟨ub104, (by (clear ub103 lb103 hret C hp3 hp2 hp1 hp0 ha3 ha2 ha0 hM0; omega))⟩⟩⟩
  · refine y_lk C (off := 83) 84 dX4_joined_1 (by decide) (by decide) (by exact ⟨ha2.1, ha2.2⟩) (by rw [h102]; rfl) ?_
    refine j_lload_n C 0 0 dX4_joined_84 rfl rfl ?_
    refine j_lload_n C 2 3 dX4_joined_85 rfl rfl ?_
    refine e_lmul C dX4_joined_86 (fun lb106 ub106 => ?_)
    refine j_lstore C 5 [(5, .long (sJ (mulJ a0 a3))), (0, .long (sJ a0)), (2, .int (sI a2)), (3, .long (sJ a3))] dX4_joined_87 (by decide) rfl ?_
    refine j_goto C 138 dX4_joined_89 (by decide) ?_
    have u107f := clF_s (mulJ a0 a3)
    refine j_lload C 0 dX4_joined_138 rfl ?_
    refine y_ldc2 C 1000000 dX4_joined_140 kX4_joined_102 rfl ?_
    refine y_lcmp_le C 150 dX4_joined_143 dX4_joined_144 (by decide) (by exact ⟨⟨lb106, ub106⟩, ⟨(by decide), (by decide)⟩⟩) (fun h108 => ?_) (fun h108 => ?_)
    · refine j_lload C 0 dX4_joined_150 rfl ?_
      refine y_ldc2 C (-1000000) dX4_joined_152 kX4_joined_105 rfl ?_
      refine y_lcmp_ge C 164 dX4_joined_155 dX4_joined_156 (by decide) (by exact ⟨⟨lb106, ub106⟩, ⟨(by decide), (by decide)⟩⟩) (fun h109 => ?_) (fun h109 => ?_)
      · refine j_lload C 0 dX4_joined_164 rfl ?_
        refine y_l2i C dX4_joined_166 ?_
        exact hret _ _ _ _ dX4_joined_167 ⟨(mulJ a0 a3), rfl, rfl, by (clear hret C hp3 hp2 hp1 hp0 ha3 ha2 ha0 hM0; omega)⟩
      · refine y_ldc C (-1000000) dX4_joined_159 kX4_joined_107 rfl ?_
        refine j_goto C 167 dX4_joined_161 (by decide) ?_
        exact hret _ _ _ _ dX4_joined_167 ⟨(-1000000), rfl, rfl, by exact ⟨(by decide), ⟨(by decide), (by (clear hret C hp3 hp2 hp1 hp0 ha3 ha2 ha0 hM0; omega))⟩⟩⟩
    · refine y_ldc C 1000000 dX4_joined_147 kX4_joined_104 rfl ?_
      exact hret _ _ _ _ dX4_joined_149 ⟨1000000, rfl, rfl, by exact ⟨(by decide), ⟨(by decide), (by (clear hret C hp3 hp2 hp1 hp0 ha3 ha2 ha0 hM0; omega))⟩⟩⟩
  · refine y_lk C (off := 67) 68 dX4_joined_1 (by decide) (by decide) (by exact ⟨ha2.1, ha2.2⟩) (by rw [h102]; rfl) ?_
    refine j_lload_n C 0 0 dX4_joined_68 rfl rfl ?_
    refine j_lload_n C 2 3 dX4_joined_69 rfl rfl ?_
    refine y_ladd C dX4_joined_70 ?_
    refine j_lstore C 5 [(5, .long (sJ (a0 + a3))), (0, .long (sJ a0)), (2, .int (sI a2)), (3, .long (sJ a3))] dX4_joined_71 (by decide) rfl ?_
    refine j_goto C 138 dX4_joined_73 (by decide) ?_
    have u112f := clF_s (a0 + a3)
    refine j_lload C 0 dX4_joined_138 rfl ?_
    refine y_ldc2 C 1000000 dX4_joined_140 kX4_joined_102 rfl ?_
    refine y_lcmp_le C 150 dX4_joined_143 dX4_joined_144 (by decide) (by exact ⟨⟨(by (clear u112f h102 u101b u101c hret C hp1 hp0 ha2 hM0; omega)), (by (clear u112f h102 u101b u101c hret C hp1 hp0 ha2 hM0; omega))⟩, ⟨(by decide), (by decide)⟩⟩) (fun h113 => ?_) (fun h113 => ?_)
    · refine j_lload C 0 dX4_joined_150 rfl ?_
      refine y_ldc2 C (-1000000) dX4_joined_152 kX4_joined_105 rfl ?_
      refine y_lcmp_ge C 164 dX4_joined_155 dX4_joined_156 (by decide) (by exact ⟨⟨(by (clear u112f h102 u101b u101c hret C hp1 hp0 ha2 hM0; omega)), (by (clear u112f h102 u101b u101c hret C hp1 hp0 ha2 hM0; omega))⟩, ⟨(by decide), (by decide)⟩⟩) (fun h114 => ?_) (fun h114 => ?_)
      · refine j_lload C 0 dX4_joined_164 rfl ?_
        refine e_l2i C dX4_joined_166 (fun lb115 ub115 => ?_)
        have u116w := w32_x (a := (a0 + a3)) (by omega)
        exact hret _ _ _ _ dX4_joined_167 ⟨(w32 (a0 + a3)), rfl, rfl, by exact ⟨lb115, ⟨ub115, (by (clear ub115 lb115 hret C hp3 hp2 hp1 hp0 ha3 ha2 ha0 hM0; omega))⟩⟩⟩
      · refine y_ldc C (-1000000) dX4_joined_159 kX4_joined_107 rfl ?_
        refine j_goto C 167 dX4_joined_161 (by decide) ?_
        exact hret _ _ _ _ dX4_joined_167 ⟨(-1000000), rfl, rfl, by exact ⟨(by decide), ⟨(by decide), (by (clear h113 hret C hp3 hp2 hp1 hp0 ha3 ha2 ha0 hM0; omega))⟩⟩⟩
    · refine y_ldc C 1000000 dX4_joined_147 kX4_joined_104 rfl ?_
      exact hret _ _ _ _ dX4_joined_149 ⟨1000000, rfl, rfl, by exact ⟨(by decide), ⟨(by decide), (by (clear hret C hp3 hp2 hp1 hp0 ha3 ha2 ha0 hM0; omega))⟩⟩⟩
  · refine y_lk C (off := 75) 76 dX4_joined_1 (by decide) (by decide) (by exact ⟨ha2.1, ha2.2⟩) (by rw [h102]; rfl) ?_
    refine j_lload_n C 0 0 dX4_joined_76 rfl rfl ?_
    refine j_lload_n C 2 3 dX4_joined_77 rfl rfl ?_
    refine y_lsub C dX4_joined_78 ?_
    refine j_lstore C 5 [(5, .long (sJ (a0 - a3))), (0, .long (sJ a0)), (2, .int (sI a2)), (3, .long (sJ a3))] dX4_joined_79 (by decide) rfl ?_
    refine j_goto C 138 dX4_joined_81 (by decide) ?_
    have u118f := clF_s (a0 - a3)
    refine j_lload C 0 dX4_joined_138 rfl ?_
    refine y_ldc2 C 1000000 dX4_joined_140 kX4_joined_102 rfl ?_
    refine y_lcmp_le C 150 dX4_joined_143 dX4_joined_144 (by decide) (by exact ⟨⟨(by (clear u118f h102 u101b u101c hret C hp1 hp0 ha2 hM0; omega)), (by (clear u118f h102 u101b u101c hret C hp1 hp0 ha2 hM0; omega))⟩, ⟨(by decide), (by decide)⟩⟩) (fun h119 => ?_) (fun h119 => ?_)
    · refine j_lload C 0 dX4_joined_150 rfl ?_
      refine y_ldc2 C (-1000000) dX4_joined_152 kX4_joined_105 rfl ?_
      refine y_lcmp_ge C 164 dX4_joined_155 dX4_joined_156 (by decide) (by exact ⟨⟨(by (clear u118f h102 u101b u101c hret C hp1 hp0 ha2 hM0; omega)), (by (clear u118f h102 u101b u101c hret C hp1 hp0 ha2 hM0; omega))⟩, ⟨(by decide), (by decide)⟩⟩) (fun h120 => ?_) (fun h120 => ?_)
      · refine j_lload C 0 dX4_joined_164 rfl ?_
        refine e_l2i C dX4_joined_166 (fun lb121 ub121 => ?_)
        have u122w := w32_x (a := (a0 - a3)) (by omega)
        exact hret _ _ _ _ dX4_joined_167 ⟨(w32 (a0 - a3)), rfl, rfl, by exact ⟨lb121, ⟨ub121, (by (clear ub121 lb121 hret C hp3 hp2 hp1 hp0 ha3 ha2 ha0 hM0; omega))⟩⟩⟩
      · refine y_ldc C (-1000000) dX4_joined_159 kX4_joined_107 rfl ?_
        refine j_goto C 167 dX4_joined_161 (by decide) ?_
        exact hret _ _ _ _ dX4_joined_167 ⟨(-1000000), rfl, rfl, by exact ⟨(by decide), ⟨(by decide), (by (clear h119 hret C hp3 hp2 hp1 hp0 ha3 ha2 ha0 hM0; omega))⟩⟩⟩
    · refine y_ldc C 1000000 dX4_joined_147 kX4_joined_104 rfl ?_
      exact hret _ _ _ _ dX4_joined_149 ⟨1000000, rfl, rfl, by exact ⟨(by decide), ⟨(by decide), (by (clear hret C hp3 hp2 hp1 hp0 ha3 ha2 ha0 hM0; omega))⟩⟩⟩
  · refine y_lk C (off := 103) 104 dX4_joined_1 (by decide) (by decide) (by exact ⟨ha2.1, ha2.2⟩) (by rw [h102]; rfl) ?_
    refine j_lload_n C 0 0 dX4_joined_104 rfl rfl ?_
    refine j_lload_n C 2 3 dX4_joined_105 rfl rfl ?_
    refine y_lcmp_ge C 114 dX4_joined_106 dX4_joined_107 (by decide) (by exact ⟨⟨ha0.1, ha0.2⟩, ⟨ha3.1, ha3.2⟩⟩) (fun h124 => ?_) (fun h124 => ?_)
    · refine y_iconst C dX4_joined_114 ?_
      exact hret _ _ _ _ dX4_joined_115 ⟨0, rfl, rfl, by exact ⟨(by decide), ⟨(by decide), (by (clear hret C hp3 hp2 hp1 hp0 ha3 ha2 ha0 hM0; omega))⟩⟩⟩
    · refine y_iconst C dX4_joined_110 ?_
      refine j_goto C 115 dX4_joined_111 (by decide) ?_
      exact hret _ _ _ _ dX4_joined_115 ⟨1, rfl, rfl, by exact ⟨(by decide), ⟨(by decide), (by (clear hret C hp3 hp2 hp1 hp0 ha3 ha2 ha0 hM0; omega))⟩⟩⟩
  · refine y_lk C (off := 91) 92 dX4_joined_1 (by decide) (by decide) (by exact ⟨ha2.1, ha2.2⟩) (by rw [h102]; rfl) ?_
    refine j_lload_n C 0 0 dX4_joined_92 rfl rfl ?_
    refine j_lload_n C 2 3 dX4_joined_93 rfl rfl ?_
    refine y_lcmp_ne C 102 dX4_joined_94 dX4_joined_95 (by decide) (by exact ⟨⟨ha0.1, ha0.2⟩, ⟨ha3.1, ha3.2⟩⟩) (fun h125 => ?_) (fun h125 => ?_)
    · refine y_iconst C dX4_joined_102 ?_
      exact hret _ _ _ _ dX4_joined_103 ⟨0, rfl, rfl, by exact ⟨(by decide), ⟨(by decide), (by (clear hret C hp3 hp2 hp1 hp0 ha3 ha2 ha0 hM0; omega))⟩⟩⟩
    · refine y_iconst C dX4_joined_98 ?_
      refine j_goto C 103 dX4_joined_99 (by decide) ?_
      exact hret _ _ _ _ dX4_joined_103 ⟨1, rfl, rfl, by exact ⟨(by decide), ⟨(by decide), (by (clear hret C hp3 hp2 hp1 hp0 ha3 ha2 ha0 hM0; omega))⟩⟩⟩
  · refine y_lk C (off := 115) 116 dX4_joined_1 (by decide) (by decide) (by exact ⟨ha2.1, ha2.2⟩) (by rw [h102]; rfl) ?_
    refine j_lload_n C 0 0 dX4_joined_116 rfl rfl ?_
    refine j_lload_n C 2 3 dX4_joined_117 rfl rfl ?_
    refine y_lcmp_le C 126 dX4_joined_118 dX4_joined_119 (by decide) (by exact ⟨⟨ha0.1, ha0.2⟩, ⟨ha3.1, ha3.2⟩⟩) (fun h126 => ?_) (fun h126 => ?_)
    · refine y_iconst C dX4_joined_126 ?_
      exact hret _ _ _ _ dX4_joined_127 ⟨0, rfl, rfl, by exact ⟨(by decide), ⟨(by decide), (by (clear hret C hp3 hp2 hp1 hp0 ha3 ha2 ha0 hM0; omega))⟩⟩⟩
    · refine y_iconst C dX4_joined_122 ?_
      refine j_goto C 127 dX4_joined_123 (by decide) ?_
      exact hret _ _ _ _ dX4_joined_127 ⟨1, rfl, rfl, by exact ⟨(by decide), ⟨(by decide), (by (clear hret C hp3 hp2 hp1 hp0 ha3 ha2 ha0 hM0; omega))⟩⟩⟩
  · refine y_lk C (off := 132) 133 dX4_joined_1 (by decide) (by decide) (by exact ⟨ha2.1, ha2.2⟩) (by show Op.lookupswitch.offset [(1015, 127), (2042, 83), (2043, 67), (2045, 75), (2060, 103), (2061, 91), (2062, 115)] 132 a2 = 132; simp only [Op.lookupswitch.offset]; (repeat' split) <;> first | rfl | omega) ?_
    refine j_lload_n C 0 0 dX4_joined_133 rfl rfl ?_
    refine j_lload_n C 2 3 dX4_joined_134 rfl rfl ?_
    refine e_lor C dX4_joined_135 (fun lb127 ub127 => ?_)
    refine e_l2i C dX4_joined_136 (fun lb128 ub128 => ?_)
    have u129a := jw_or (a := a0) (b := a3) (by exact ⟨hp2.1, hp2.2⟩) (by exact ⟨hp3.1, hp3.2⟩)
    exact hret _ _ _ _ dX4_joined_137 ⟨(w32 (orJ a0 a3)), rfl, rfl, by (clear ub127 lb127 hret C hp3 hp2 ha3 ha0 hM0; exact ⟨lb128, ⟨ub128, (by omega)⟩⟩)⟩
set_option maxHeartbeats 4000000 in
theorem s2_X4_reckon {l : Launch} {dC : Nat → ClassId} {dI : Nat → Nat → Nat} {ad : Nat → Nat} {cA : Nat → ClassId} {pr : Nat → Nat → Bool} {Kz : mm_M} {M0 : mm_M} (hM0 : INV pr Kz M0) (hpr : PX pr) (a1 : Int) (ha1 : -2147483648 ≤ a1 ∧ a1 ≤ 2147483647) (a2 : Int) (ha2 : -2147483648 ≤ a2 ∧ a2 ≤ 2147483647) (gp : Nat) (cgp : s_c gp = 6) (egp : gp = M0.2.2 81 5) (hp0 : b01 (CWX (mdX M0 gp 0) (281 + a1) (a2 - a1)) = 1) (hp1 : a1 ≤ a2) (hp2 : 0 ≤ a1 ∧ a1 ≤ 900) (hp3 : 0 ≤ a2 ∧ a2 ≤ 900) : Ci l 1 yX4_reckon wsX4_reckon dC dI ad cA [.ref (ad 81), .int (sI a1), .int (sI a2)] M0 (fun r M' => ∃ a : Int, r = sI a ∧ INV pr Kz M' ∧ FX [86] M0 M' ∧ (-2147483648) ≤ a ∧ a ≤ 2147483647 ∧ (a = ((rkS (mdX M0 gp 0) (fcX M0) (281 + a1) (a2 - a1).toNat).2 0))) := by
  refine ci_of (cc := cX4_reckon) (maxL := 6) (ty := .int) (lv := [(0, .ref (ad 81)), (1, .int (sI a1)), (2, .int (sI a2))]) (by decide) rfl (fun r M' hp => rfl) (Nat.le_of_ble_eq_true rfl) rfl ?_
  intro p e s m args below meth c A Q C hret
  refine y_iconst C dX4_reckon_0 ?_
  refine j_istore_n C 3 [(3, .int (sI 0)), (0, .ref (ad 81)), (1, .int (sI a1)), (2, .int (sI a2))] dX4_reckon_1 rfl (by decide) rfl ?_
  refine j_iload_n C 2 1 dX4_reckon_2 rfl rfl ?_
  refine j_istore C 4 [(4, .int (sI a1)), (3, .int (sI 0)), (0, .ref (ad 81)), (1, .int (sI a1)), (2, .int (sI a2))] dX4_reckon_3 (by decide) rfl ?_
  have u101z := sx_0 M0 (mdX M0 gp 0) (fcX M0) (281 + a1) (a1 - a1) (by omega)
  have L151 : ∀ (n149 : Nat), ∀ (a152 : Int) (a153 : Int) (M154 : mm_M), (0 ≤ a152 ∧ a152 ≤ 64 ∧ 0 ≤ a153 ∧ a153 ≤ 900 ∧ (a1 ≤ a153) ∧ (a153 ≤ a2) ∧ (a152 = (rkS (mdX M0 gp 0) (fcX M0) (281 + a1) (a153 - a1).toNat).1) ∧ (b01 (stX M154 (rkS (mdX M0 gp 0) (fcX M0) (281 + a1) (a153 - a1).toNat)) = 1) ∧ (900 - a153) < (n149 : Int)) → INV pr Kz M154 → FX [86] M0 M154 → jj p l e (cn_R 1) s m args below meth c 0 0 Q 6 dC dI ad cA A M154 5 [(0, .ref (ad 81)), (2, .int (sI a2)), (3, .int (sI a152)), (4, .int (sI a153))] [] := by
    intro n149
    induction n149 with
    | zero =>
      intro a152 a153 M154 h155 hM154 fM154
      exfalso; (clear fM154 hM154 u101z hret C hp3 hp2 hp1 hp0 egp cgp ha2 ha1 hpr hM0; omega)
    | succ n149 ih150 =>
      intro a152 a153 M154 h155 hM154 fM154
      refine j_iload C 3 dX4_reckon_5 rfl ?_
      refine j_iload_n C 1 2 dX4_reckon_7 rfl rfl ?_
      refine y_icmp_ge C 166 dX4_reckon_8 (by decide) (by exact ⟨⟨(by (clear fM154 hM154 ih150 u101z hret C hp2 hp1 hp0 egp cgp ha1 hpr hM0; omega)), (by (clear fM154 hM154 ih150 u101z hret C hp2 hp1 hp0 egp cgp ha1 hpr hM0; omega))⟩, ⟨ha2.1, ha2.2⟩⟩) (fun h156 => ?_) (fun h156 => ?_)
      · have u200E := sx_end (M := M154) (f := (mdX M0 gp 0)) (W := fcX M0) (o := 281 + a1) (i := a153 - a1) (n := a2 - a1) (t := a152) (by exact hp0) (by exact h155.2.2.2.2.2.2.2.1) (by (clear fM154 hM154 ih150 u101z hret C hp3 hp2 hp1 hp0 egp cgp ha2 ha1 hpr hM0; omega)) (by exact h155.2.2.2.2.2.2.1)
        refine j_iload_n C 2 3 dX4_reckon_166 rfl rfl ?_
        refine y_if_le C 181 dX4_reckon_167 (by decide) (by (clear h156 fM154 hM154 ih150 u101z hret C hp3 hp2 hp1 hp0 egp cgp ha2 ha1 hpr hM0; omega)) (fun h201 => ?_) (fun h201 => ?_)
        · refine y_iconst C dX4_reckon_181 ?_
          exact hret _ _ _ _ dX4_reckon_182 ⟨0, rfl, hM154, (FX.rf.tr fM154 (by decide)), by exact ⟨(by decide), ⟨(by decide), (by (clear h156 fM154 hM154 ih150 u101z hret C hp3 hp2 hp1 hp0 egp cgp ha2 ha1 hpr hM0; omega))⟩⟩⟩
        · refine j_aload_n C 0 0 dX4_reckon_170 rfl rfl ?_
          refine y_getC C 3 86 fX4_reckon_26 rfl rfl ft_3_4 sm_3_4 rfl hM154 dX4_reckon_171 ?_
          refine j_iload_n C 2 3 dX4_reckon_174 rfl rfl ?_
          refine y_iconst C dX4_reckon_175 ?_
          refine y_isub C dX4_reckon_176 ?_
          refine y_iald C 37 64 _ _ rfl rfl rfl ak_37 an_37 rfl (sb_37 _) hM154 dX4_reckon_177 (by (clear h201 h156 fM154 hM154 ih150 u101z hret C hp3 hp2 hp1 hp0 egp cgp ha2 ha1 hpr hM0; omega)) (fun a202 ea202 la202 ua202 => ?_)
          obtain rfl : a202 = (M154.1 86 ((a152 - 1)).toNat).toInt := ea202
          refine j_goto C 182 dX4_reckon_178 (by decide) ?_
          exact hret _ _ _ _ dX4_reckon_182 ⟨(M154.1 86 ((a152 - 1)).toNat).toInt, rfl, hM154, (FX.rf.tr fM154 (by decide)), by exact ⟨la202, ⟨ua202, u200E.2⟩⟩⟩
      · have u157a := cwx_at (f := (mdX M0 gp 0)) (o := 281 + a1) (n := a2 - a1) (i := a153 - a1) (i' := (a153 + 1) - a1) (x := 281 + a153) (fcX M0) (by exact hp0) (by (clear fM154 hM154 ih150 u101z hret C hp3 hp2 hp1 hp0 egp cgp ha2 ha1 hpr hM0; omega)) (by (clear h156 fM154 hM154 h155 ih150 u101z hret C hp3 hp2 hp1 hp0 egp cgp ha2 ha1 hpr hM0; omega)) (by (clear h156 fM154 hM154 h155 ih150 u101z hret C hp3 hp2 hp1 hp0 egp cgp ha2 ha1 hpr hM0; omega))
        refine j_iload C 3 dX4_reckon_11 rfl ?_
        refine j_aload_n C 0 0 dX4_reckon_13 rfl rfl ?_
        refine y_getV C 3 gp fX4_reckon_33 rfl rfl ft_3_5 (s_pX fM154 (egp)) dX4_reckon_14 ?_
        refine y_getTE C 6 24 fX4_reckon_95 cgp rfl ft_6_5 rfl sm_6_5 st_6_5 (by decide) hM154 dX4_reckon_17 (fun cv158 => ?_)
        refine y_alen C 24 900 cv158 rfl rfl an_24 rfl rfl dX4_reckon_20 ?_
        refine y_icmp_ge C 166 dX4_reckon_21 (by decide) (by exact ⟨⟨(by (clear cv158 u157a h156 fM154 hM154 ih150 u101z hret C hp3 hp2 hp1 hp0 egp cgp ha2 ha1 hpr hM0; omega)), (by (clear cv158 u157a h156 fM154 hM154 ih150 u101z hret C hp3 hp2 hp1 hp0 egp cgp ha2 ha1 hpr hM0; omega))⟩, ⟨(by decide), (by decide)⟩⟩) (fun h159 => ?_) (fun h159 => ?_)
        · exfalso; (clear cv158 u157a fM154 hM154 ih150 u101z hret C hp2 hp1 hp0 egp cgp ha1 hpr hM0; omega)
        · refine j_aload_n C 0 0 dX4_reckon_24 rfl rfl ?_
          refine y_getV C 3 gp fX4_reckon_33 rfl rfl ft_3_5 (s_pX fM154 (egp)) dX4_reckon_25 ?_
          refine y_getTE C 6 24 fX4_reckon_95 cgp rfl ft_6_5 rfl sm_6_5 st_6_5 (by decide) hM154 dX4_reckon_28 (fun cv160 => ?_)
          refine j_iload C 3 dX4_reckon_31 rfl ?_
          refine y_iald C 24 900 _ _ cv160 rfl rfl ak_24 an_24 rfl (sb_24 _) hM154 dX4_reckon_33 (by exact ⟨h155.2.2.1, (by (clear cv160 cv158 u157a h156 fM154 hM154 ih150 u101z hret C hp3 hp2 hp1 hp0 egp cgp ha2 ha1 hpr hM0; omega))⟩) (fun a161 ea161 la161 ua161 => ?_)
          obtain rfl : a161 = (M0.1 (s_p0 gp 5) (a153).toNat).toInt := s_fX fM154 (s_nin cv160 (by decide)) (ea161)
          refine j_istore C 5 [(5, .int (sI (M0.1 (s_p0 gp 5) (a153).toNat).toInt)), (0, .ref (ad 81)), (2, .int (sI a2)), (3, .int (sI a152)), (4, .int (sI a153))] dX4_reckon_34 (by decide) rfl ?_
          have u162m := md_c M0 gp 0 (x := a153) (by exact h155.2.2.1)
          have u162s := cmF_s (M0.1 (s_p0 gp 5) (a153).toNat).toInt
          refine j_iload C 0 dX4_reckon_36 rfl ?_
          refine y_sipush C dX4_reckon_38 rfl ?_
          refine y_icmp_ge C 89 dX4_reckon_41 (by decide) (by exact ⟨⟨la161, ua161⟩, ⟨(by decide), (by decide)⟩⟩) (fun h163 => ?_) (fun h163 => ?_)
          · refine j_iload C 0 dX4_reckon_89 rfl ?_
            refine y_sipush C dX4_reckon_91 rfl ?_
            refine y_icmp_ne C 123 dX4_reckon_94 (by decide) (by exact ⟨⟨la161, ua161⟩, ⟨(by decide), (by decide)⟩⟩) (fun h164 => ?_) (fun h164 => ?_)
            · refine j_iload_n C 3 3 dX4_reckon_123 rfl rfl ?_
              refine y_iconst C dX4_reckon_124 ?_
              refine y_icmp_lt C 160 dX4_reckon_125 (by decide) (by exact ⟨⟨(by (clear h164 h163 u162s u162m ua161 la161 ea161 cv160 h159 cv158 u157a h156 fM154 hM154 ih150 u101z hret C hp3 hp2 hp1 hp0 egp cgp ha2 ha1 hpr hM0; omega)), (by (clear h164 h163 u162s u162m ua161 la161 ea161 cv160 h159 cv158 u157a h156 fM154 hM154 ih150 u101z hret C hp3 hp2 hp1 hp0 egp cgp ha2 ha1 hpr hM0; omega))⟩, ⟨(by decide), (by decide)⟩⟩) (fun h165 => ?_) (fun h165 => ?_)
              · refine y_iinc C 4 [(4, .int (sI (a153 + 1))), (5, .int (sI (M0.1 (s_p0 gp 5) (a153).toNat).toInt)), (0, .ref (ad 81)), (2, .int (sI a2)), (3, .int (sI a152))] dX4_reckon_160 rfl (by decide) rfl ?_
                refine j_goto C 5 dX4_reckon_163 (by decide) ?_
                refine j_lv [2, 3, 4, 0] rfl ?_; exact ih150 a152 (a153 + 1) M154 (by exact ⟨h155.1, ⟨h155.2.1, ⟨(by (clear cv160 cv158 fM154 hM154 ih150 u101z hret C hp3 hp2 hp1 hp0 egp cgp ha2 ha1 hpr hM0; omega)), ⟨(by (clear cv160 cv158 fM154 hM154 ih150 u101z hret C hp3 hp2 hp1 hp0 egp cgp ha2 ha1 hpr hM0; omega)), ⟨(by (clear cv160 cv158 fM154 hM154 ih150 u101z hret C hp3 hp2 hp1 hp0 egp cgp ha2 ha1 hpr hM0; omega)), ⟨(by (clear cv160 cv158 fM154 hM154 ih150 u101z hret C hp3 hp2 hp1 hp0 egp cgp ha2 ha1 hpr hM0; omega)), ⟨(by (clear cv160 cv158 fM154 hM154 ih150 u101z hret C hp3 hp2 hp1 hp0 egp cgp ha2 ha1 hpr hM0; omega)), ⟨(by (clear cv160 cv158 fM154 hM154 ih150 u101z hret C hp3 hp2 hp1 hp0 egp cgp ha2 ha1 hpr hM0; omega)), (by (clear cv160 cv158 fM154 hM154 ih150 u101z hret C hp3 hp2 hp1 hp0 egp cgp ha2 ha1 hpr hM0; omega))⟩⟩⟩⟩⟩⟩⟩⟩) hM154 (FX.rf.tr fM154 (by decide))
              · refine y_iinc C 3 [(3, .int (sI (a152 + (-1)))), (5, .int (sI (M0.1 (s_p0 gp 5) (a153).toNat).toInt)), (0, .ref (ad 81)), (2, .int (sI a2)), (4, .int (sI a153))] dX4_reckon_128 rfl (by decide) rfl ?_
                refine j_aload_n C 2 0 dX4_reckon_131 rfl rfl ?_
                refine y_getC C 3 86 fX4_reckon_26 rfl rfl ft_3_4 sm_3_4 rfl hM154 dX4_reckon_132 ?_
                refine j_iload_n C 0 3 dX4_reckon_135 rfl rfl ?_
                refine y_iconst C dX4_reckon_136 ?_
                refine y_isub C dX4_reckon_137 ?_
                refine j_aload_n C 2 0 dX4_reckon_138 rfl rfl ?_
                refine y_getC C 3 86 fX4_reckon_26 rfl rfl ft_3_4 sm_3_4 rfl hM154 dX4_reckon_139 ?_
                refine j_iload_n C 0 3 dX4_reckon_142 rfl rfl ?_
                refine y_iconst C dX4_reckon_143 ?_
                refine y_isub C dX4_reckon_144 ?_
                refine y_iald C 37 64 _ _ rfl rfl rfl ak_37 an_37 rfl (sb_37 _) hM154 dX4_reckon_145 (by (clear h164 h163 u162s u162m ua161 la161 ea161 cv160 h159 cv158 u157a h156 fM154 hM154 ih150 u101z hret C hp3 hp2 hp1 hp0 egp cgp ha2 ha1 hpr hM0; omega)) (fun a168 ea168 la168 ua168 => ?_)
                obtain rfl : a168 = (M154.1 86 (((a152 + (-1)) - 1)).toNat).toInt := ea168
                refine y_i2l C dX4_reckon_146 (by exact ⟨la168, ua168⟩) ?_
                refine j_iload C 1 dX4_reckon_147 rfl ?_
                refine j_aload_n C 2 0 dX4_reckon_149 rfl rfl ?_
                refine y_getC C 3 86 fX4_reckon_26 rfl rfl ft_3_4 sm_3_4 rfl hM154 dX4_reckon_150 ?_
                refine j_iload_n C 0 3 dX4_reckon_153 rfl rfl ?_
                refine y_iald C 37 64 _ _ rfl rfl rfl ak_37 an_37 rfl (sb_37 _) hM154 dX4_reckon_154 (by (clear ua168 la168 h164 h163 u162s u162m ua161 la161 ea161 cv160 h159 cv158 u157a h156 fM154 hM154 ih150 u101z hret C hp3 hp2 hp1 hp0 egp cgp ha2 ha1 hpr hM0; omega)) (fun a169 ea169 la169 ua169 => ?_)
                obtain rfl : a169 = (M154.1 86 ((a152 + (-1))).toNat).toInt := ea169
                refine y_i2l C dX4_reckon_155 (by exact ⟨la169, ua169⟩) ?_
                refine j_callSi C (d := 0) (As := [.long (sJ (M154.1 86 (((a152 + (-1)) - 1)).toNat).toInt), .int (sI (M0.1 (s_p0 gp 5) (a153).toNat).toInt), .long (sJ (M154.1 86 ((a152 + (-1))).toNat).toInt)]) (st := [.int (sI ((a152 + (-1)) - 1)), .ref (ad 86)]) (s2_X4_joined hM154 (M154.1 86 (((a152 + (-1)) - 1)).toNat).toInt (by (clear ua169 la169 h165 h164 h163 u162s u162m ua161 la161 ea161 cv160 h159 cv158 u157a h156 fM154 hM154 h155 ih150 u101z hret C hp3 hp2 hp1 hp0 egp cgp ha2 ha1 hpr hM0; omega)) (M0.1 (s_p0 gp 5) (a153).toNat).toInt (by exact ⟨la161, ua161⟩) (M154.1 86 ((a152 + (-1))).toNat).toInt (by (clear ua168 la168 h165 h164 h163 u162s u162m ua161 la161 ea161 cv160 h159 cv158 u157a h156 fM154 hM154 h155 ih150 u101z hret C hp3 hp2 hp1 hp0 egp cgp ha2 ha1 hpr hM0; omega)) (by exact h163) (by exact h164) (by exact ⟨la168, ua168⟩) (by exact ⟨la169, ua169⟩)) gX4_reckon_X4_joined rfl hdX4_joineds (by decide) (Nat.le_of_ble_eq_true rfl) dX4_reckon_156 rfl (fun r170 M171 h172 => ?_)
                obtain ⟨a174, rfl, rfl, h173⟩ := h172
                obtain rfl : a174 = (btF (cmF (M0.1 (s_p0 gp 5) (a153).toNat).toInt) (M154.1 86 (((a152 + (-1)) - 1)).toNat).toInt (M154.1 86 ((a152 + (-1))).toNat).toInt) := by exact h173.2.2
                refine y_iastF C 37 64 rfl rfl rfl ak_37 an_37 rfl (sb_37 _) hM154 (PX.w hpr rfl rfl) dX4_reckon_159 (by omega) (fun M175 eM175 hM175 => ?_)
                have u176p := sx_bin (f := (mdX M0 gp 0)) (W := fcX M0) (o := 281 + a1) (i := a153 - a1) (i' := (a153 + 1) - a1) (x := 281 + a153) (n := (a152 + (-1))) (c := cmF (M0.1 (s_p0 gp 5) (a153).toNat).toInt) eM175 (by exact h155.2.2.2.2.2.2.2.1) (by (clear hM175 eM175 h173 ua169 la169 ua168 la168 h165 h164 h163 u162s u162m ua161 la161 ea161 cv160 h159 cv158 u157a h156 fM154 hM154 ih150 u101z hret C hp3 hp2 hp1 hp0 egp cgp ha2 ha1 hpr hM0; omega)) (by exact u162m) (by exact ⟨⟨h173.1, h173.2.1⟩, ⟨(by (clear hM175 eM175 ua169 la169 ua168 la168 u162m cv160 h159 cv158 u157a h156 fM154 hM154 ih150 u101z hret C hp3 hp2 hp1 hp0 egp cgp ha2 ha1 hpr hM0; omega)), ⟨(by (clear hM175 eM175 ua169 la169 ua168 la168 u162m cv160 h159 cv158 u157a h156 fM154 hM154 ih150 u101z hret C hp3 hp2 hp1 hp0 egp cgp ha2 ha1 hpr hM0; omega)), ⟨(by (clear hM175 eM175 ua169 la169 ua168 la168 u162m cv160 h159 cv158 u157a h156 fM154 hM154 ih150 u101z hret C hp3 hp2 hp1 hp0 egp cgp ha2 ha1 hpr hM0; omega)), (by (clear hM175 eM175 ua169 la169 ua168 la168 u162m cv160 h159 cv158 u157a h156 fM154 hM154 ih150 u101z hret C hp3 hp2 hp1 hp0 egp cgp ha2 ha1 hpr hM0; omega))⟩⟩⟩⟩) rfl
                refine y_iinc C 4 [(4, .int (sI (a153 + 1))), (3, .int (sI (a152 + (-1)))), (5, .int (sI (M0.1 (s_p0 gp 5) (a153).toNat).toInt)), (0, .ref (ad 81)), (2, .int (sI a2))] dX4_reckon_160 rfl (by decide) rfl ?_
                refine j_goto C 5 dX4_reckon_163 (by decide) ?_
                refine j_lv [3, 4, 1, 0] rfl ?_; exact ih150 (a152 + (-1)) (a153 + 1) M175 (by (clear hM175 eM175 h173 ua169 la169 ua168 la168 h165 ua161 la161 ea161 cv160 cv158 fM154 hM154 ih150 u101z hret C hp3 hp2 hp1 hp0 egp cgp ha2 ha1 hpr hM0; omega)) hM175 ((FX.rf.tr fM154 (by decide)).wI eM175 (by decide))
            · refine j_iload_n C 3 3 dX4_reckon_97 rfl rfl ?_
              refine y_iconst C dX4_reckon_98 ?_
              refine y_icmp_lt C 160 dX4_reckon_99 (by decide) (by exact ⟨⟨(by (clear h164 h163 u162s u162m ua161 la161 ea161 cv160 h159 cv158 u157a h156 fM154 hM154 ih150 u101z hret C hp3 hp2 hp1 hp0 egp cgp ha2 ha1 hpr hM0; omega)), (by (clear h164 h163 u162s u162m ua161 la161 ea161 cv160 h159 cv158 u157a h156 fM154 hM154 ih150 u101z hret C hp3 hp2 hp1 hp0 egp cgp ha2 ha1 hpr hM0; omega))⟩, ⟨(by decide), (by decide)⟩⟩) (fun h178 => ?_) (fun h178 => ?_)
              · refine y_iinc C 4 [(4, .int (sI (a153 + 1))), (5, .int (sI (M0.1 (s_p0 gp 5) (a153).toNat).toInt)), (0, .ref (ad 81)), (2, .int (sI a2)), (3, .int (sI a152))] dX4_reckon_160 rfl (by decide) rfl ?_
                refine j_goto C 5 dX4_reckon_163 (by decide) ?_
                refine j_lv [2, 3, 4, 0] rfl ?_; exact ih150 a152 (a153 + 1) M154 (by (clear h163 ua161 la161 cv160 cv158 fM154 hM154 ih150 u101z hret C hp3 hp2 hp1 hp0 egp cgp ha2 ha1 hpr hM0; omega)) hM154 (FX.rf.tr fM154 (by decide))
              · refine j_aload_n C 1 0 dX4_reckon_102 rfl rfl ?_
                refine y_getC C 3 86 fX4_reckon_26 rfl rfl ft_3_4 sm_3_4 rfl hM154 dX4_reckon_103 ?_
                refine j_iload_n C 3 3 dX4_reckon_106 rfl rfl ?_
                refine y_iconst C dX4_reckon_107 ?_
                refine y_isub C dX4_reckon_108 ?_
                refine y_iconst C dX4_reckon_109 ?_
                refine j_aload_n C 1 0 dX4_reckon_110 rfl rfl ?_
                refine y_getC C 3 86 fX4_reckon_26 rfl rfl ft_3_4 sm_3_4 rfl hM154 dX4_reckon_111 ?_
                refine j_iload_n C 3 3 dX4_reckon_114 rfl rfl ?_
                refine y_iconst C dX4_reckon_115 ?_
                refine y_isub C dX4_reckon_116 ?_
                refine y_iald C 37 64 _ _ rfl rfl rfl ak_37 an_37 rfl (sb_37 _) hM154 dX4_reckon_117 (by (clear h164 h163 u162s u162m ua161 la161 ea161 cv160 h159 cv158 u157a h156 fM154 hM154 ih150 u101z hret C hp3 hp2 hp1 hp0 egp cgp ha2 ha1 hpr hM0; omega)) (fun a181 ea181 la181 ua181 => ?_)
                obtain rfl : a181 = (M154.1 86 ((a152 - 1)).toNat).toInt := ea181
                refine e_isub C dX4_reckon_118 (fun lb182 ub182 => ?_)
                refine y_iastF C 37 64 rfl rfl rfl ak_37 an_37 rfl (sb_37 _) hM154 (PX.w hpr rfl rfl) dX4_reckon_119 (by omega) (fun M183 eM183 hM183 => ?_)
                have u184p := sx_not (f := (mdX M0 gp 0)) (W := fcX M0) (o := 281 + a1) (i := a153 - a1) (i' := (a153 + 1) - a1) (x := 281 + a153) (n := a152) eM183 (by exact h155.2.2.2.2.2.2.2.1) (by omega) (by exact ⟨(by (clear hM183 eM183 ub182 lb182 ua181 la181 h163 ua161 la161 cv160 h159 cv158 u157a h156 fM154 hM154 ih150 u101z hret C hp3 hp2 hp1 hp0 egp cgp ha2 ha1 hpr hM0; omega)), ⟨h155.2.2.2.2.2.2.1, (by (clear hM183 eM183 ub182 lb182 ua181 la181 h163 ua161 la161 cv160 h159 cv158 u157a h156 fM154 hM154 ih150 u101z hret C hp3 hp2 hp1 hp0 egp cgp ha2 ha1 hpr hM0; omega))⟩⟩) rfl
                refine j_goto C 160 dX4_reckon_120 (by decide) ?_
                refine y_iinc C 4 [(4, .int (sI (a153 + 1))), (5, .int (sI (M0.1 (s_p0 gp 5) (a153).toNat).toInt)), (0, .ref (ad 81)), (2, .int (sI a2)), (3, .int (sI a152))] dX4_reckon_160 rfl (by decide) rfl ?_
                refine j_goto C 5 dX4_reckon_163 (by decide) ?_
                refine j_lv [2, 3, 4, 0] rfl ?_; exact ih150 a152 (a153 + 1) M183 (by exact ⟨h155.1, ⟨h155.2.1, ⟨(by (clear hM183 eM183 ub182 lb182 ua181 la181 h163 ua161 la161 cv160 cv158 fM154 hM154 ih150 u101z hret C hp3 hp2 hp1 hp0 egp cgp ha2 ha1 hpr hM0; omega)), ⟨(by (clear hM183 eM183 ub182 lb182 ua181 la181 h163 ua161 la161 cv160 cv158 fM154 hM154 ih150 u101z hret C hp3 hp2 hp1 hp0 egp cgp ha2 ha1 hpr hM0; omega)), ⟨(by (clear hM183 eM183 ub182 lb182 ua181 la181 h163 ua161 la161 cv160 cv158 fM154 hM154 ih150 u101z hret C hp3 hp2 hp1 hp0 egp cgp ha2 ha1 hpr hM0; omega)), ⟨(by (clear hM183 eM183 ub182 lb182 ua181 la181 h163 ua161 la161 cv160 cv158 fM154 hM154 ih150 u101z hret C hp3 hp2 hp1 hp0 egp cgp ha2 ha1 hpr hM0; omega)), ⟨(by (clear hM183 eM183 ub182 lb182 ua181 la181 h163 ua161 la161 cv160 cv158 fM154 hM154 ih150 u101z hret C hp3 hp2 hp1 hp0 egp cgp ha2 ha1 hpr hM0; omega)), ⟨u184p, (by (clear hM183 eM183 ub182 lb182 ua181 la181 h163 ua161 la161 cv160 cv158 fM154 hM154 ih150 u101z hret C hp3 hp2 hp1 hp0 egp cgp ha2 ha1 hpr hM0; omega))⟩⟩⟩⟩⟩⟩⟩⟩) hM183 ((FX.rf.tr fM154 (by decide)).wI eM183 (by decide))
          · refine j_iload_n C 3 3 dX4_reckon_44 rfl rfl ?_
            refine j_aload_n C 1 0 dX4_reckon_45 rfl rfl ?_
            refine y_getC C 3 86 fX4_reckon_26 rfl rfl ft_3_4 sm_3_4 rfl hM154 dX4_reckon_46 ?_
            refine y_alen C 37 64 rfl rfl rfl an_37 rfl rfl dX4_reckon_49 ?_
            refine y_icmp_ge C 160 dX4_reckon_50 (by decide) (by exact ⟨⟨(by (clear h163 u162s u162m ua161 la161 ea161 cv160 h159 cv158 u157a h156 fM154 hM154 ih150 u101z hret C hp3 hp2 hp1 hp0 egp cgp ha2 ha1 hpr hM0; omega)), (by (clear h163 u162s u162m ua161 la161 ea161 cv160 h159 cv158 u157a h156 fM154 hM154 ih150 u101z hret C hp3 hp2 hp1 hp0 egp cgp ha2 ha1 hpr hM0; omega))⟩, ⟨(by decide), (by decide)⟩⟩) (fun h187 => ?_) (fun h187 => ?_)
            · refine y_iinc C 4 [(4, .int (sI (a153 + 1))), (5, .int (sI (M0.1 (s_p0 gp 5) (a153).toNat).toInt)), (0, .ref (ad 81)), (2, .int (sI a2)), (3, .int (sI a152))] dX4_reckon_160 rfl (by decide) rfl ?_
              refine j_goto C 5 dX4_reckon_163 (by decide) ?_
              refine j_lv [2, 3, 4, 0] rfl ?_; exact ih150 a152 (a153 + 1) M154 (by (clear cv160 cv158 fM154 hM154 ih150 u101z hret C hp3 hp2 hp1 hp0 egp cgp ha2 ha1 hpr hM0; omega)) hM154 (FX.rf.tr fM154 (by decide))
            · refine j_aload_n C 1 0 dX4_reckon_53 rfl rfl ?_
              refine y_getC C 3 86 fX4_reckon_26 rfl rfl ft_3_4 sm_3_4 rfl hM154 dX4_reckon_54 ?_
              refine j_iload_n C 3 3 dX4_reckon_57 rfl rfl ?_
              refine j_iload C 0 dX4_reckon_58 rfl ?_
              refine y_sipush C dX4_reckon_60 rfl ?_
              refine y_icmp_ge C 71 dX4_reckon_63 (by decide) (by exact ⟨⟨la161, ua161⟩, ⟨(by decide), (by decide)⟩⟩) (fun h190 => ?_) (fun h190 => ?_)
              · refine j_aload_n C 1 0 dX4_reckon_71 rfl rfl ?_
                refine y_getC C 3 85 fX4_reckon_23 rfl rfl ft_3_3 sm_3_3 rfl hM154 dX4_reckon_72 ?_
                refine j_iload C 0 dX4_reckon_75 rfl ?_
                refine y_sipush C dX4_reckon_77 rfl ?_
                refine y_isub C dX4_reckon_80 ?_
                refine y_iald C 36 8 _ _ rfl rfl rfl ak_36 an_36 rfl (sb_36 _) hM154 dX4_reckon_81 (by (clear h187 u162s u162m cv160 h159 cv158 u157a h156 fM154 hM154 h155 ih150 u101z hret C hp3 hp2 hp1 hp0 egp cgp ha2 ha1 hpr hM0; omega)) (fun a191 ea191 la191 ua191 => ?_)
                obtain rfl : a191 = (M0.1 85 (((M0.1 (s_p0 gp 5) (a153).toNat).toInt - 1000)).toNat).toInt := s_fX fM154 (by decide) (ea191)
                refine y_iastF C 37 64 rfl rfl rfl ak_37 an_37 rfl (sb_37 _) hM154 (PX.w hpr rfl rfl) dX4_reckon_82 (by exact ⟨h155.1, (by (clear ua191 la191 ea191 h190 h163 u162s u162m ua161 la161 ea161 cv160 h159 cv158 u157a h156 fM154 hM154 ih150 u101z hret C hp3 hp2 hp1 hp0 egp cgp ha2 ha1 hpr hM0; omega))⟩) (fun M192 eM192 hM192 => ?_)
                have u193p := sx_push (f := (mdX M0 gp 0)) (W := fcX M0) (o := 281 + a1) (i := a153 - a1) (i' := (a153 + 1) - a1) (x := 281 + a153) (n := a152) (c := (M0.1 (s_p0 gp 5) (a153).toNat).toInt) eM192 (by exact h155.2.2.2.2.2.2.2.1) (by omega) (by (clear hM192 eM192 ua191 la191 ea191 h187 cv160 h159 cv158 u157a h156 fM154 hM154 h155 ih150 u101z hret C hp3 hp2 hp1 hp0 egp cgp ha2 ha1 hpr hM0; omega)) (by exact ⟨⟨la191, ua191⟩, ⟨h155.1, ⟨h155.2.2.2.2.2.2.1, (by (clear hM192 eM192 u162s u162m cv160 h159 cv158 u157a h156 fM154 hM154 ih150 u101z hret C hp3 hp2 hp1 hp0 egp cgp ha2 ha1 hpr hM0; omega))⟩⟩⟩) (Or.inr ⟨by (clear hM192 eM192 ua191 la191 ea191 h187 u162s u162m cv160 h159 cv158 u157a h156 fM154 hM154 h155 ih150 u101z hret C hp3 hp2 hp1 hp0 egp cgp ha2 ha1 hpr hM0; omega), rfl⟩)
                refine y_iinc C 3 [(3, .int (sI (a152 + 1))), (5, .int (sI (M0.1 (s_p0 gp 5) (a153).toNat).toInt)), (0, .ref (ad 81)), (2, .int (sI a2)), (4, .int (sI a153))] dX4_reckon_83 rfl (by decide) rfl ?_
                refine j_goto C 160 dX4_reckon_86 (by decide) ?_
                refine y_iinc C 4 [(4, .int (sI (a153 + 1))), (3, .int (sI (a152 + 1))), (5, .int (sI (M0.1 (s_p0 gp 5) (a153).toNat).toInt)), (0, .ref (ad 81)), (2, .int (sI a2))] dX4_reckon_160 rfl (by decide) rfl ?_
                refine j_goto C 5 dX4_reckon_163 (by decide) ?_
                refine j_lv [3, 4, 1, 0] rfl ?_; exact ih150 (a152 + 1) (a153 + 1) M192 (by (clear hM192 eM192 ua191 la191 ea191 cv160 cv158 fM154 hM154 ih150 u101z hret C hp3 hp2 hp1 hp0 egp cgp ha2 ha1 hpr hM0; omega)) hM192 ((FX.rf.tr fM154 (by decide)).wI eM192 (by decide))
              · refine j_iload C 0 dX4_reckon_66 rfl ?_
                refine j_goto C 82 dX4_reckon_68 (by decide) ?_
                refine y_iastF C 37 64 rfl rfl rfl ak_37 an_37 rfl (sb_37 _) hM154 (PX.w hpr rfl rfl) dX4_reckon_82 (by exact ⟨h155.1, (by omega)⟩) (fun M196 eM196 hM196 => ?_)
                have u197p := sx_push (f := (mdX M0 gp 0)) (W := fcX M0) (o := 281 + a1) (i := a153 - a1) (i' := (a153 + 1) - a1) (x := 281 + a153) (n := a152) (c := (M0.1 (s_p0 gp 5) (a153).toNat).toInt) eM196 (by exact h155.2.2.2.2.2.2.2.1) (by omega) (by (clear hM196 eM196 h187 cv160 h159 cv158 u157a h156 fM154 hM154 h155 ih150 u101z hret C hp3 hp2 hp1 hp0 egp cgp ha2 ha1 hpr hM0; omega)) (by exact ⟨⟨la161, ua161⟩, ⟨h155.1, ⟨h155.2.2.2.2.2.2.1, (by (clear hM196 eM196 u162s u162m cv160 h159 cv158 u157a h156 fM154 hM154 ih150 u101z hret C hp3 hp2 hp1 hp0 egp cgp ha2 ha1 hpr hM0; omega))⟩⟩⟩) (Or.inl ⟨by (clear hM196 eM196 h187 u162s u162m cv160 h159 cv158 u157a h156 fM154 hM154 h155 ih150 u101z hret C hp3 hp2 hp1 hp0 egp cgp ha2 ha1 hpr hM0; omega), rfl⟩)
                refine y_iinc C 3 [(3, .int (sI (a152 + 1))), (5, .int (sI (M0.1 (s_p0 gp 5) (a153).toNat).toInt)), (0, .ref (ad 81)), (2, .int (sI a2)), (4, .int (sI a153))] dX4_reckon_83 rfl (by decide) rfl ?_
                refine j_goto C 160 dX4_reckon_86 (by decide) ?_
                refine y_iinc C 4 [(4, .int (sI (a153 + 1))), (3, .int (sI (a152 + 1))), (5, .int (sI (M0.1 (s_p0 gp 5) (a153).toNat).toInt)), (0, .ref (ad 81)), (2, .int (sI a2))] dX4_reckon_160 rfl (by decide) rfl ?_
                refine j_goto C 5 dX4_reckon_163 (by decide) ?_
                refine j_lv [3, 4, 1, 0] rfl ?_; exact ih150 (a152 + 1) (a153 + 1) M196 (by (clear hM196 eM196 cv160 cv158 fM154 hM154 ih150 u101z hret C hp3 hp2 hp1 hp0 egp cgp ha2 ha1 hpr hM0; omega)) hM196 ((FX.rf.tr fM154 (by decide)).wI eM196 (by decide))
  refine j_lv [2, 4, 1, 0] rfl ?_; exact L151 2010 0 a1 M0 (by exact ⟨(by decide), ⟨(by decide), ⟨hp2.1, ⟨hp2.2, ⟨(by (clear L151 hret C hp3 hp0 egp cgp ha2 hpr hM0; omega)), ⟨hp1, ⟨u101z.2.symm, ⟨u101z.1, (by (clear L151 hret C hp3 hp0 egp cgp ha2 hpr hM0; omega))⟩⟩⟩⟩⟩⟩⟩⟩) hM0 FX.rf
set_option maxHeartbeats 4000000 in
theorem hx_J6_bitCount_0f7a4 {l : Launch} {dC : Nat → ClassId} {dI : Nat → Nat → Nat} {ad : Nat → Nat} {cA : Nat → ClassId} {pr : Nat → Nat → Bool} {Kz : mm_M} {M0 : mm_M} (hM0 : INV pr Kz M0) (a0 : Int) (ha0 : -2147483648 ≤ a0 ∧ a0 ≤ 2147483647) (hp0 : 0 ≤ a0 ∧ a0 ≤ 255) : Ci l 0 yJ6_bitCount_0f7a4 wsJ6_bitCount_0f7a4 dC dI ad cA [.int (sI a0)] M0 (fun r M' => ∃ a : Int, r = sI a ∧ M0 = M' ∧ 0 ≤ a ∧ a ≤ 8 ∧ (a = bsF a0 (8 : Int).toNat)) := by
  refine ci_of (cc := cJ6_bitCount_0f7a4) (maxL := 1) (ty := .int) (lv := [(0, .int (sI a0))]) (by decide) rfl (fun r M' hp => rfl) (Nat.le_of_ble_eq_true rfl) rfl ?_
  intro p e s m args below meth c A Q C hret
  refine j_iload_n C 0 0 dJ6_bitCount_0f7a4_0 rfl rfl ?_
  refine j_iload_n C 0 0 dJ6_bitCount_0f7a4_1 rfl rfl ?_
  refine y_iconst C dJ6_bitCount_0f7a4_2 ?_
  refine z_iushr C _ rfl dJ6_bitCount_0f7a4_3 ?_
  refine y_ldcw C 1431655765 dJ6_bitCount_0f7a4_4 kJ6_bitCount_0f7a4_265 rfl ?_
  refine z_iand C _ rfl dJ6_bitCount_0f7a4_7 ?_
  refine z_isub C _ rfl dJ6_bitCount_0f7a4_8 ?_
  refine j_istore_n C 0 _ dJ6_bitCount_0f7a4_9 rfl (by decide) rfl ?_
  refine j_iload_n C 0 0 dJ6_bitCount_0f7a4_10 rfl rfl ?_
  refine y_ldcw C 858993459 dJ6_bitCount_0f7a4_11 kJ6_bitCount_0f7a4_266 rfl ?_
  refine z_iand C _ rfl dJ6_bitCount_0f7a4_14 ?_
  refine j_iload_n C 0 0 dJ6_bitCount_0f7a4_15 rfl rfl ?_
  refine y_iconst C dJ6_bitCount_0f7a4_16 ?_
  refine z_iushr C _ rfl dJ6_bitCount_0f7a4_17 ?_
  refine y_ldcw C 858993459 dJ6_bitCount_0f7a4_18 kJ6_bitCount_0f7a4_266 rfl ?_
  refine z_iand C _ rfl dJ6_bitCount_0f7a4_21 ?_
  refine z_iadd C _ rfl dJ6_bitCount_0f7a4_22 ?_
  refine j_istore_n C 0 _ dJ6_bitCount_0f7a4_23 rfl (by decide) rfl ?_
  refine j_iload_n C 0 0 dJ6_bitCount_0f7a4_24 rfl rfl ?_
  refine j_iload_n C 0 0 dJ6_bitCount_0f7a4_25 rfl rfl ?_
  refine y_iconst C dJ6_bitCount_0f7a4_26 ?_
  refine z_iushr C _ rfl dJ6_bitCount_0f7a4_27 ?_
  refine z_iadd C _ rfl dJ6_bitCount_0f7a4_28 ?_
  refine y_ldcw C 252645135 dJ6_bitCount_0f7a4_29 kJ6_bitCount_0f7a4_267 rfl ?_
  refine z_iand C _ rfl dJ6_bitCount_0f7a4_32 ?_
  refine j_istore_n C 0 _ dJ6_bitCount_0f7a4_33 rfl (by decide) rfl ?_
  refine j_iload_n C 0 0 dJ6_bitCount_0f7a4_34 rfl rfl ?_
  refine j_iload_n C 0 0 dJ6_bitCount_0f7a4_35 rfl rfl ?_
  refine y_bipush C dJ6_bitCount_0f7a4_36 rfl ?_
  refine z_iushr C _ rfl dJ6_bitCount_0f7a4_38 ?_
  refine z_iadd C _ rfl dJ6_bitCount_0f7a4_39 ?_
  refine j_istore_n C 0 _ dJ6_bitCount_0f7a4_40 rfl (by decide) rfl ?_
  refine j_iload_n C 0 0 dJ6_bitCount_0f7a4_41 rfl rfl ?_
  refine j_iload_n C 0 0 dJ6_bitCount_0f7a4_42 rfl rfl ?_
  refine y_bipush C dJ6_bitCount_0f7a4_43 rfl ?_
  refine z_iushr C _ rfl dJ6_bitCount_0f7a4_45 ?_
  refine z_iadd C _ rfl dJ6_bitCount_0f7a4_46 ?_
  refine j_istore_n C 0 _ dJ6_bitCount_0f7a4_47 rfl (by decide) rfl ?_
  refine j_iload_n C 0 0 dJ6_bitCount_0f7a4_48 rfl rfl ?_
  refine y_bipush C dJ6_bitCount_0f7a4_49 rfl ?_
  refine z_iand C _ rfl dJ6_bitCount_0f7a4_51 ?_
  exact hret _ _ _ _ dJ6_bitCount_0f7a4_52 ⟨bsF a0 (8 : Int).toNat, bc_e a0 hp0, rfl, (bs_b a0 hp0).1, (bs_b a0 hp0).2, rfl⟩
set_option maxHeartbeats 4000000 in
theorem s2_X4_learn {l : Launch} {dC : Nat → ClassId} {dI : Nat → Nat → Nat} {ad : Nat → Nat} {cA : Nat → ClassId} {pr : Nat → Nat → Bool} {Kz : mm_M} {M0 : mm_M} (hM0 : INV pr Kz M0) (hpr : PX pr) (a1 : Int) (ha1 : -2147483648 ≤ a1 ∧ a1 ≤ 2147483647) (a2 : Int) (ha2 : -2147483648 ≤ a2 ∧ a2 ≤ 2147483647) (a3 : Int) (ha3 : -2147483648 ≤ a3 ∧ a3 ≤ 2147483647) (gp : Nat) (cgp : s_c gp = 6) (egp : gp = M0.2.2 81 5) (hp0 : 0 ≤ a1 ∧ a1 ≤ 5) (hp1 : 0 ≤ a2 ∧ a2 ≤ 7) (hp2 : 0 ≤ a3 ∧ a3 ≤ 255) : Cv l 1 yX4_learn wsX4_learn dC dI ad cA [.ref (ad 81), .int (sI a1), .int (sI a2), .int (sI a3)] M0 (fun M' => INV pr Kz M' ∧ FX [85] M0 M' ∧ (b01 (WDX M' (wdO (mdX M0 gp 0) a1 a2 (bsF a3 (8 : Int).toNat) (andI (shrI a3 a2) 1))) = 1)) := by
  refine cv_of (cc := cX4_learn) (maxL := 4) (lv := [(0, .ref (ad 81)), (1, .int (sI a1)), (2, .int (sI a2)), (3, .int (sI a3))]) (by decide) rfl (Nat.le_of_ble_eq_true rfl) rfl ?_
  intro p e s m args below meth c A Q C hret
  refine j_aload_n C 0 0 dX4_learn_0 rfl rfl ?_
  refine y_getC C 3 85 fX4_learn_23 rfl rfl ft_3_3 sm_3_3 rfl hM0 dX4_learn_1 ?_
  refine y_iconst C dX4_learn_4 ?_
  refine j_iload_n C 1 1 dX4_learn_5 rfl rfl ?_
  refine y_iastF C 36 8 rfl rfl rfl ak_36 an_36 rfl (sb_36 _) hM0 (PX.w hpr rfl rfl) dX4_learn_6 (by exact ⟨(by decide), (by decide)⟩) (fun M101 eM101 hM101 => ?_)
  refine j_aload_n C 0 0 dX4_learn_7 rfl rfl ?_
  refine y_getC C 3 85 fX4_learn_23 rfl rfl ft_3_3 sm_3_3 rfl hM101 dX4_learn_8 ?_
  refine y_iconst C dX4_learn_11 ?_
  refine j_aload_n C 0 0 dX4_learn_12 rfl rfl ?_
  refine y_getV C 3 gp fX4_learn_33 rfl rfl ft_3_5 (s_pI eM101 (egp)) dX4_learn_13 ?_
  refine y_getTE C 6 21 fX4_learn_68 cgp rfl ft_6_2 rfl sm_6_2 st_6_2 (by decide) hM101 dX4_learn_16 (fun cv102 => ?_)
  refine j_iload_n C 1 1 dX4_learn_19 rfl rfl ?_
  refine y_iald C 21 6 _ _ cv102 rfl rfl ak_21 an_21 rfl (sb_21 _) hM101 dX4_learn_20 (by exact ⟨hp0.1, (by omega)⟩) (fun a103 ea103 la103 ua103 => ?_)
  obtain rfl : a103 = (M0.1 (s_p0 gp 2) (a1).toNat).toInt := s_fa eM101 (s_ne (c := 21) (d := 36) cv102 rfl (by decide)) (ea103)
  refine y_iastF C 36 8 rfl rfl rfl ak_36 an_36 rfl (sb_36 _) hM101 (PX.w hpr rfl rfl) dX4_learn_21 (by exact ⟨(by decide), (by decide)⟩) (fun M104 eM104 hM104 => ?_)
  refine j_aload_n C 0 0 dX4_learn_22 rfl rfl ?_
  refine y_getC C 3 85 fX4_learn_23 rfl rfl ft_3_3 sm_3_3 rfl hM104 dX4_learn_23 ?_
  refine y_iconst C dX4_learn_26 ?_
  refine j_aload_n C 0 0 dX4_learn_27 rfl rfl ?_
  refine y_getV C 3 gp fX4_learn_33 rfl rfl ft_3_5 (s_pI eM104 (s_pI eM101 (egp))) dX4_learn_28 ?_
  refine y_getTE C 6 22 fX4_learn_92 cgp rfl ft_6_3 rfl sm_6_3 st_6_3 (by decide) hM104 dX4_learn_31 (fun cv105 => ?_)
  refine j_iload_n C 1 1 dX4_learn_34 rfl rfl ?_
  refine y_iald C 22 6 _ _ cv105 rfl rfl ak_22 an_22 rfl (sb_22 _) hM104 dX4_learn_35 (by exact ⟨hp0.1, (by (clear cv105 hM104 eM104 ua103 la103 ea103 cv102 hM101 eM101 hret C hp2 hp1 egp cgp ha3 ha2 hpr hM0; omega))⟩) (fun a106 ea106 la106 ua106 => ?_)
  obtain rfl : a106 = (M0.1 (s_p0 gp 3) (a1).toNat).toInt := s_fa eM101 (s_ne (c := 22) (d := 36) cv105 rfl (by decide)) (s_fa eM104 (s_ne (c := 22) (d := 36) cv105 rfl (by decide)) (ea106))
  refine y_iastF C 36 8 rfl rfl rfl ak_36 an_36 rfl (sb_36 _) hM104 (PX.w hpr rfl rfl) dX4_learn_36 (by exact ⟨(by decide), (by decide)⟩) (fun M107 eM107 hM107 => ?_)
  refine j_aload_n C 0 0 dX4_learn_37 rfl rfl ?_
  refine y_getC C 3 85 fX4_learn_23 rfl rfl ft_3_3 sm_3_3 rfl hM107 dX4_learn_38 ?_
  refine y_iconst C dX4_learn_41 ?_
  refine j_iload_n C 2 2 dX4_learn_42 rfl rfl ?_
  refine y_iastF C 36 8 rfl rfl rfl ak_36 an_36 rfl (sb_36 _) hM107 (PX.w hpr rfl rfl) dX4_learn_43 (by exact ⟨(by decide), (by decide)⟩) (fun M108 eM108 hM108 => ?_)
  refine j_aload_n C 0 0 dX4_learn_44 rfl rfl ?_
  refine y_getC C 3 85 fX4_learn_23 rfl rfl ft_3_3 sm_3_3 rfl hM108 dX4_learn_45 ?_
  refine y_iconst C dX4_learn_48 ?_
  refine j_aload_n C 0 0 dX4_learn_49 rfl rfl ?_
  refine y_getC C 3 83 fX4_learn_15 rfl rfl ft_3_1 sm_3_1 rfl hM108 dX4_learn_50 ?_
  refine j_iload_n C 2 2 dX4_learn_53 rfl rfl ?_
  refine y_iald C 34 8 _ _ rfl rfl rfl ak_34 an_34 rfl (sb_34 _) hM108 dX4_learn_54 (by exact ⟨hp1.1, (by (clear hM108 eM108 hM107 eM107 ua106 la106 ea106 cv105 hM104 eM104 ua103 la103 ea103 cv102 hM101 eM101 hret C hp2 hp0 egp cgp ha3 ha1 hpr hM0; omega))⟩) (fun a109 ea109 la109 ua109 => ?_)
  obtain rfl : a109 = (M0.1 83 (a2).toNat).toInt := s_fa eM101 (by decide) (s_fa eM104 (by decide) (s_fa eM107 (by decide) (s_fa eM108 (by decide) (ea109))))
  refine y_iastF C 36 8 rfl rfl rfl ak_36 an_36 rfl (sb_36 _) hM108 (PX.w hpr rfl rfl) dX4_learn_55 (by exact ⟨(by decide), (by decide)⟩) (fun M110 eM110 hM110 => ?_)
  refine j_aload_n C 0 0 dX4_learn_56 rfl rfl ?_
  refine y_getC C 3 85 fX4_learn_23 rfl rfl ft_3_3 sm_3_3 rfl hM110 dX4_learn_57 ?_
  refine y_iconst C dX4_learn_60 ?_
  refine j_aload_n C 0 0 dX4_learn_61 rfl rfl ?_
  refine y_getC C 3 84 fX4_learn_18 rfl rfl ft_3_2 sm_3_2 rfl hM110 dX4_learn_62 ?_
  refine j_iload_n C 2 2 dX4_learn_65 rfl rfl ?_
  refine y_iald C 35 8 _ _ rfl rfl rfl ak_35 an_35 rfl (sb_35 _) hM110 dX4_learn_66 (by exact ⟨hp1.1, (by omega)⟩) (fun a111 ea111 la111 ua111 => ?_)
  obtain rfl : a111 = (M0.1 84 (a2).toNat).toInt := s_fa eM101 (by decide) (s_fa eM104 (by decide) (s_fa eM107 (by decide) (s_fa eM108 (by decide) (s_fa eM110 (by decide) (ea111)))))
  refine y_iastF C 36 8 rfl rfl rfl ak_36 an_36 rfl (sb_36 _) hM110 (PX.w hpr rfl rfl) dX4_learn_67 (by exact ⟨(by decide), (by decide)⟩) (fun M112 eM112 hM112 => ?_)
  refine j_aload_n C 0 0 dX4_learn_68 rfl rfl ?_
  refine y_getC C 3 85 fX4_learn_23 rfl rfl ft_3_3 sm_3_3 rfl hM112 dX4_learn_69 ?_
  refine y_bipush C dX4_learn_72 rfl ?_
  refine j_iload_n C 3 3 dX4_learn_74 rfl rfl ?_
  refine j_callSi C (d := 0) (As := [.int (sI a3)]) (st := [.int (sI 6), .ref (ad 85)]) (hx_J6_bitCount_0f7a4 hM112 a3 (by exact ⟨ha3.1, ha3.2⟩) (by exact ⟨hp2.1, hp2.2⟩)) gX4_learn_J6_bitCount_0f7a4 rfl hdJ6_bitCount_0f7a4s (by decide) (Nat.le_of_ble_eq_true rfl) dX4_learn_75 rfl (fun r113 M114 h115 => ?_)
  obtain ⟨a117, rfl, rfl, h116⟩ := h115
  obtain rfl : a117 = (bsF a3 (8 : Int).toNat) := by exact h116.2.2
  refine y_iastF C 36 8 rfl rfl rfl ak_36 an_36 rfl (sb_36 _) hM112 (PX.w hpr rfl rfl) dX4_learn_78 (by exact ⟨(by decide), (by decide)⟩) (fun M118 eM118 hM118 => ?_)
  refine j_aload_n C 0 0 dX4_learn_79 rfl rfl ?_
  refine y_getC C 3 85 fX4_learn_23 rfl rfl ft_3_3 sm_3_3 rfl hM118 dX4_learn_80 ?_
  refine y_bipush C dX4_learn_83 rfl ?_
  refine j_iload_n C 3 3 dX4_learn_85 rfl rfl ?_
  refine j_iload_n C 2 2 dX4_learn_86 rfl rfl ?_
  refine e_ishrP C dX4_learn_87 (by exact ⟨hp2.1, ha3.2⟩) (fun lb119 ub119 => ?_)
  refine y_iconst C dX4_learn_88 ?_
  refine e_iandR C dX4_learn_89 (by exact ⟨(by decide), (by decide)⟩) (fun lb120 ub120 => ?_)
  refine y_iastF C 36 8 rfl rfl rfl ak_36 an_36 rfl (sb_36 _) hM118 (PX.w hpr rfl rfl) dX4_learn_90 (by exact ⟨(by decide), (by decide)⟩) (fun M121 eM121 hM121 => ?_)
  have u122w := wdx_of (W := (wdO (mdX M0 gp 0) a1 a2 (bsF a3 (8 : Int).toNat) (andI (shrI a3 a2) 1))) eM101 eM104 eM107 eM108 eM110 eM112 eM118 eM121 rfl (congrArg Int32.toInt (md_8 M0 gp 0 (by exact ⟨hp0.1, (by (clear hM121 eM121 ub120 lb120 ub119 lb119 hM118 eM118 h116 hM112 eM112 ua111 la111 ea111 hM110 eM110 ua109 la109 ea109 hM108 eM108 hM107 eM107 ua106 la106 ea106 cv105 hM104 eM104 ua103 la103 ea103 cv102 hM101 eM101 hret C hp2 hp1 egp cgp ha3 ha2 hpr hM0; omega))⟩)).symm) (congrArg Int32.toInt (md_14 M0 gp 0 (by exact ⟨hp0.1, (by omega)⟩)).symm) rfl (congrArg Int32.toInt (md_33 M0 gp 0 (by exact ⟨hp1.1, (by (clear hM121 eM121 ub120 lb120 ub119 lb119 hM118 eM118 h116 hM112 eM112 ua111 la111 ea111 hM110 eM110 ua109 la109 ea109 hM108 eM108 hM107 eM107 ua106 la106 ea106 cv105 hM104 eM104 ua103 la103 ea103 cv102 hM101 eM101 hret C hp2 hp0 egp cgp ha3 ha1 hpr hM0; omega))⟩)).symm) (congrArg Int32.toInt (md_41 M0 gp 0 (by exact ⟨hp1.1, (by omega)⟩)).symm) rfl rfl (by and_intros <;> omega)
  exact hret _ _ _ dX4_learn_91 ⟨hM121, ((((((((FX.rf.wI eM101 (by decide)).wI eM104 (by decide)).wI eM107 (by decide)).wI eM108 (by decide)).wI eM110 (by decide)).wI eM112 (by decide)).wI eM118 (by decide)).wI eM121 (by decide)), by exact u122w⟩
set_option maxHeartbeats 4000000 in
theorem s2_X4_lets {l : Launch} {dC : Nat → ClassId} {dI : Nat → Nat → Nat} {ad : Nat → Nat} {cA : Nat → ClassId} {pr : Nat → Nat → Bool} {Kz : mm_M} {M0 : mm_M} (hM0 : INV pr Kz M0) (hpr : PX pr) (a1 : Int) (ha1 : -2147483648 ≤ a1 ∧ a1 ≤ 2147483647) (a2 : Int) (ha2 : -2147483648 ≤ a2 ∧ a2 ≤ 2147483647) (a3 : Int) (ha3 : -2147483648 ≤ a3 ∧ a3 ≤ 2147483647) (gp : Nat) (cgp : s_c gp = 6) (egp : gp = M0.2.2 81 5) (hp0 : b01 (LWX M0 gp 9 10) = 1) (hp1 : 0 ≤ a1 ∧ a1 ≤ 5) (hp2 : 0 ≤ a2 ∧ a2 ≤ 7) (hp3 : 0 ≤ a3 ∧ a3 ≤ 255) : Ci l 2 yX4_lets wsX4_lets dC dI ad cA [.ref (ad 81), .int (sI a1), .int (sI a2), .int (sI a3)] M0 (fun r M' => ∃ a : Int, r = sI a ∧ INV pr Kz M' ∧ FX [85, 86] M0 M' ∧ 0 ≤ a ∧ a ≤ 1 ∧ (a = (ltO (mdX M0 gp 0) a1 a2 (bsF a3 (8 : Int).toNat) (andI (shrI a3 a2) 1)))) := by
  refine ci_of (cc := cX4_lets) (maxL := 4) (ty := .boolean) (lv := [(0, .ref (ad 81)), (1, .int (sI a1)), (2, .int (sI a2)), (3, .int (sI a3))]) (by decide) rfl (fun r M' hp => by obtain ⟨a, rfl, -, h⟩ := hp; rcases (show a = 0 ∨ a = 1 by (clear hp3 hp2 hp1 hp0 egp cgp ha3 ha2 ha1 hpr hM0; omega)) with rfl | rfl <;> rfl) (Nat.le_of_ble_eq_true rfl) rfl ?_
  intro p e s m args below meth c A Q C hret
  have u101s := ltX_s M0 gp (bsF a3 (8 : Int).toNat) (andI (shrI a3 a2) 1) (b := a1) (k := a2) (by exact ⟨hp1.1, (by omega)⟩) (by exact ⟨hp2.1, (by omega)⟩)
  refine j_aload_n C 0 0 dX4_lets_0 rfl rfl ?_
  refine y_getC C 3 83 fX4_lets_15 rfl rfl ft_3_1 sm_3_1 rfl hM0 dX4_lets_1 ?_
  refine j_iload_n C 2 2 dX4_lets_4 rfl rfl ?_
  refine y_iald C 34 8 _ _ rfl rfl rfl ak_34 an_34 rfl (sb_34 _) hM0 dX4_lets_5 (by exact ⟨hp2.1, (by (clear u101s hret C hp3 hp1 hp0 egp cgp ha3 ha1 hpr hM0; omega))⟩) (fun a102 ea102 la102 ua102 => ?_)
  obtain rfl : a102 = (M0.1 83 (a2).toNat).toInt := ea102
  refine j_aload_n C 0 0 dX4_lets_6 rfl rfl ?_
  refine y_getV C 3 gp fX4_lets_33 rfl rfl ft_3_5 (egp) dX4_lets_7 ?_
  refine y_getTE C 6 21 fX4_lets_68 cgp rfl ft_6_2 rfl sm_6_2 st_6_2 (by decide) hM0 dX4_lets_10 (fun cv103 => ?_)
  refine j_iload_n C 1 1 dX4_lets_13 rfl rfl ?_
  refine y_iald C 21 6 _ _ cv103 rfl rfl ak_21 an_21 rfl (sb_21 _) hM0 dX4_lets_14 (by exact ⟨hp1.1, (by omega)⟩) (fun a104 ea104 la104 ua104 => ?_)
  obtain rfl : a104 = (M0.1 (s_p0 gp 2) (a1).toNat).toInt := ea104
  refine y_icmp_le C 20 dX4_lets_15 (by decide) (by exact ⟨⟨la102, ua102⟩, ⟨la104, ua104⟩⟩) (fun h105 => ?_) (fun h105 => ?_)
  · refine j_aload_n C 0 0 dX4_lets_20 rfl rfl ?_
    refine y_getV C 3 gp fX4_lets_33 rfl rfl ft_3_5 (egp) dX4_lets_21 ?_
    refine y_getI C 6 _ _ fX4_lets_73 cgp rfl ft_6_9 sb_6_9 hM0 dX4_lets_24 (fun a106 ea106 la106 ua106 => ?_)
    obtain rfl : a106 = (M0.1 gp 9).toInt := ea106
    refine j_aload_n C 0 0 dX4_lets_27 rfl rfl ?_
    refine y_getV C 3 gp fX4_lets_33 rfl rfl ft_3_5 (egp) dX4_lets_28 ?_
    refine y_getI C 6 _ _ fX4_lets_76 cgp rfl ft_6_10 sb_6_10 hM0 dX4_lets_31 (fun a108 ea108 la108 ua108 => ?_)
    obtain rfl : a108 = (M0.1 gp 10).toInt := ea108
    refine y_icmp_ne C 39 dX4_lets_34 (by decide) (by (clear h105 ua104 la104 cv103 ua102 la102 u101s hret C hp3 hp2 hp1 hp0 egp cgp ha3 ha2 ha1 hpr hM0; omega)) (fun h110 => ?_) (fun h110 => ?_)
    · refine j_aload_n C 0 0 dX4_lets_39 rfl rfl ?_
      refine j_iload_n C 1 1 dX4_lets_40 rfl rfl ?_
      refine j_iload_n C 2 2 dX4_lets_41 rfl rfl ?_
      refine j_iload_n C 3 3 dX4_lets_42 rfl rfl ?_
      refine j_callVv C (d := 1) (As := [.int (sI a1), .int (sI a2), .int (sI a3)]) (st := []) 81 (s_lt rfl rfl) (s_kc (c := 3) rfl rfl) (by decide) rfl (s2_X4_learn hM0 hpr a1 (by exact ⟨ha1.1, ha1.2⟩) a2 (by exact ⟨ha2.1, ha2.2⟩) a3 (by exact ⟨ha3.1, ha3.2⟩) gp cgp (egp) (by exact ⟨hp1.1, hp1.2⟩) (by exact ⟨hp2.1, hp2.2⟩) (by exact ⟨hp3.1, hp3.2⟩)) gX4_lets_X4_learn rfl hdX4_learn (by decide) (Nat.le_of_ble_eq_true rfl) dX4_lets_43 rfl (fun M112 h113 => ?_)
      obtain ⟨hM112, fM112, h114⟩ := h113
      refine j_aload_n C 0 0 dX4_lets_46 rfl rfl ?_
      refine j_aload_n C 0 0 dX4_lets_47 rfl rfl ?_
      refine y_getV C 3 gp fX4_lets_33 rfl rfl ft_3_5 (s_pX fM112 (egp)) dX4_lets_48 ?_
      refine y_getI C 6 _ _ fX4_lets_73 cgp rfl ft_6_9 sb_6_9 hM112 dX4_lets_51 (fun a115 ea115 la115 ua115 => ?_)
      obtain rfl : a115 = (M0.1 gp 9).toInt := s_fX fM112 (s_nin cgp (by decide)) (ea115)
      refine j_aload_n C 0 0 dX4_lets_54 rfl rfl ?_
      refine y_getV C 3 gp fX4_lets_33 rfl rfl ft_3_5 (s_pX fM112 (egp)) dX4_lets_55 ?_
      refine y_getI C 6 _ _ fX4_lets_76 cgp rfl ft_6_10 sb_6_10 hM112 dX4_lets_58 (fun a117 ea117 la117 ua117 => ?_)
      obtain rfl : a117 = (M0.1 gp 10).toInt := s_fX fM112 (s_nin cgp (by decide)) (ea117)
      have u119c := cw_fr fM112 (by decide) cgp (lw_ne (M := M0) (p := gp) (i := 9) (j := 10) (by exact hp0) (by exact h110)).2
      have u119l := (lw_ne (M := M0) (p := gp) (i := 9) (j := 10) (by exact hp0) (by exact h110)).1
      refine j_callVi C (d := 1) (As := [.int (sI (M0.1 gp 9).toInt), .int (sI (M0.1 gp 10).toInt)]) (st := []) 81 (s_lt rfl rfl) (s_kc (c := 3) rfl rfl) (by decide) rfl (s2_X4_reckon hM112 hpr (M0.1 gp 9).toInt (by (clear u119l u119c ua117 la117 ea117 ua115 la115 h114 fM112 hM112 h110 ua108 la108 h105 ua104 la104 cv103 ua102 la102 u101s hret C hp3 hp2 hp1 hp0 egp cgp ha3 ha2 ha1 hpr hM0; omega)) (M0.1 gp 10).toInt (by (clear u119l u119c ua117 la117 ua115 la115 ea115 h114 fM112 hM112 h110 ua106 la106 h105 ua104 la104 cv103 ua102 la102 u101s hret C hp3 hp2 hp1 hp0 egp cgp ha3 ha2 ha1 hpr hM0; omega)) gp cgp (s_pX fM112 (egp)) (by exact u119c) (by exact u119l) (by exact ⟨la106, ua106⟩) (by exact ⟨la108, ua108⟩)) gX4_lets_X4_reckon rfl hdX4_reckon (by decide) (Nat.le_of_ble_eq_true rfl) dX4_lets_61 rfl (fun r120 M121 h122 => ?_)
      obtain ⟨a124, rfl, hM121, fM121, h123⟩ := h122
      obtain rfl : a124 = ((rkS (mdX M112 gp 0) (fcX M112) (281 + (M0.1 gp 9).toInt) ((M0.1 gp 10).toInt - (M0.1 gp 9).toInt).toNat).2 0) := by exact h123.2.2
      have u125r := rk_X (M := M0) (N := M112) (p := gp) (l := 1) (i := 9) (j := 10) (b := a1) (k := a2) (o := bsF a3 (8 : Int).toNat) (w := andI (shrI a3 a2) 1) ⟨rfl, rfl⟩ fM112 (by decide) cgp (by exact h114) (by exact hp0) (by exact h110) (by exact la115)
      refine y_if_eq C 71 dX4_lets_64 (by decide) (by exact ⟨h123.1, h123.2.1⟩) (fun h126 => ?_) (fun h126 => ?_)
      · refine y_iconst C dX4_lets_71 ?_
        exact hret _ _ _ _ dX4_lets_72 ⟨0, rfl, hM121, ((FX.rf.tr fM112 (by decide)).tr fM121 (by decide)), by exact ⟨(by decide), ⟨(by decide), (by (clear h123 fM121 hM121 u119c ua117 la117 ua115 la115 h114 fM112 hM112 ua108 la108 ua106 la106 ua104 la104 cv103 ua102 la102 hret C hp3 hp2 hp1 hp0 egp cgp ha3 ha2 ha1 hpr hM0; omega))⟩⟩⟩
      · refine y_iconst C dX4_lets_67 ?_
        refine j_goto C 72 dX4_lets_68 (by decide) ?_
        exact hret _ _ _ _ dX4_lets_72 ⟨1, rfl, hM121, ((FX.rf.tr fM112 (by decide)).tr fM121 (by decide)), by exact ⟨(by decide), ⟨(by decide), (by (clear fM121 hM121 u119c ua117 la117 ua115 la115 h114 fM112 hM112 ua108 la108 ua106 la106 ua104 la104 cv103 ua102 la102 hret C hp3 hp2 hp1 hp0 egp cgp ha3 ha2 ha1 hpr hM0; omega))⟩⟩⟩
    · refine y_iconst C dX4_lets_37 ?_
      exact hret _ _ _ _ dX4_lets_38 ⟨1, rfl, hM0, FX.rf, by exact ⟨(by decide), ⟨(by decide), (by (clear ua108 la108 ua106 la106 ua104 la104 cv103 ua102 la102 hret C hp3 hp2 hp1 hp0 egp cgp ha3 ha2 ha1 hpr hM0; omega))⟩⟩⟩
  · refine y_iconst C dX4_lets_18 ?_
    exact hret _ _ _ _ dX4_lets_19 ⟨0, rfl, hM0, FX.rf, by exact ⟨(by decide), ⟨(by decide), (by (clear ua104 la104 cv103 ua102 la102 hret C hp3 hp2 hp1 hp0 egp cgp ha3 ha2 ha1 hpr hM0; omega))⟩⟩⟩
set_option maxHeartbeats 4000000 in
theorem s2_X4_wish {l : Launch} {dC : Nat → ClassId} {dI : Nat → Nat → Nat} {ad : Nat → Nat} {cA : Nat → ClassId} {pr : Nat → Nat → Bool} {Kz : mm_M} {M0 : mm_M} (hM0 : INV pr Kz M0) (hpr : PX pr) (a1 : Int) (ha1 : -2147483648 ≤ a1 ∧ a1 ≤ 2147483647) (a2 : Int) (ha2 : -2147483648 ≤ a2 ∧ a2 ≤ 2147483647) (a3 : Int) (ha3 : -2147483648 ≤ a3 ∧ a3 ≤ 2147483647) (gp : Nat) (cgp : s_c gp = 6) (egp : gp = M0.2.2 81 5) (hp0 : b01 (LWX M0 gp 7 8) = 1) (hp1 : 0 ≤ a1 ∧ a1 ≤ 5) (hp2 : 0 ≤ a2 ∧ a2 ≤ 7) (hp3 : 0 ≤ a3 ∧ a3 ≤ 255) : Ci l 2 yX4_wish wsX4_wish dC dI ad cA [.ref (ad 81), .int (sI a1), .int (sI a2), .int (sI a3)] M0 (fun r M' => ∃ a : Int, r = sI a ∧ INV pr Kz M' ∧ FX [85, 86] M0 M' ∧ (-2147483648) ≤ a ∧ a ≤ 2147483647 ∧ (a = (wtO (mdX M0 gp 0) a1 a2 (bsF a3 (8 : Int).toNat) (andI (shrI a3 a2) 1)))) := by
  refine ci_of (cc := cX4_wish) (maxL := 4) (ty := .int) (lv := [(0, .ref (ad 81)), (1, .int (sI a1)), (2, .int (sI a2)), (3, .int (sI a3))]) (by decide) rfl (fun r M' hp => rfl) (Nat.le_of_ble_eq_true rfl) rfl ?_
  intro p e s m args below meth c A Q C hret
  have u101s := wtX_s M0 gp (bsF a3 (8 : Int).toNat) (andI (shrI a3 a2) 1) (b := a1) (k := a2) (by exact ⟨hp1.1, (by omega)⟩) (by exact ⟨hp2.1, (by omega)⟩)
  refine j_aload_n C 0 0 dX4_wish_0 rfl rfl ?_
  refine y_getV C 3 gp fX4_wish_33 rfl rfl ft_3_5 (egp) dX4_wish_1 ?_
  refine y_getI C 6 _ _ fX4_wish_86 cgp rfl ft_6_7 sb_6_7 hM0 dX4_wish_4 (fun a102 ea102 la102 ua102 => ?_)
  obtain rfl : a102 = (M0.1 gp 7).toInt := ea102
  refine j_aload_n C 0 0 dX4_wish_7 rfl rfl ?_
  refine y_getV C 3 gp fX4_wish_33 rfl rfl ft_3_5 (egp) dX4_wish_8 ?_
  refine y_getI C 6 _ _ fX4_wish_89 cgp rfl ft_6_8 sb_6_8 hM0 dX4_wish_11 (fun a104 ea104 la104 ua104 => ?_)
  obtain rfl : a104 = (M0.1 gp 8).toInt := ea104
  refine y_icmp_ne C 34 dX4_wish_14 (by decide) (by (clear u101s hret C hp3 hp2 hp1 hp0 egp cgp ha3 ha2 ha1 hpr hM0; omega)) (fun h106 => ?_) (fun h106 => ?_)
  · refine j_aload_n C 0 0 dX4_wish_34 rfl rfl ?_
    refine j_iload_n C 1 1 dX4_wish_35 rfl rfl ?_
    refine j_iload_n C 2 2 dX4_wish_36 rfl rfl ?_
    refine j_iload_n C 3 3 dX4_wish_37 rfl rfl ?_
    refine j_callVv C (d := 1) (As := [.int (sI a1), .int (sI a2), .int (sI a3)]) (st := []) 81 (s_lt rfl rfl) (s_kc (c := 3) rfl rfl) (by decide) rfl (s2_X4_learn hM0 hpr a1 (by exact ⟨ha1.1, ha1.2⟩) a2 (by exact ⟨ha2.1, ha2.2⟩) a3 (by exact ⟨ha3.1, ha3.2⟩) gp cgp (egp) (by exact ⟨hp1.1, hp1.2⟩) (by exact ⟨hp2.1, hp2.2⟩) (by exact ⟨hp3.1, hp3.2⟩)) gX4_wish_X4_learn rfl hdX4_learn (by decide) (Nat.le_of_ble_eq_true rfl) dX4_wish_38 rfl (fun M108 h109 => ?_)
    obtain ⟨hM108, fM108, h110⟩ := h109
    refine j_aload_n C 0 0 dX4_wish_41 rfl rfl ?_
    refine j_aload_n C 0 0 dX4_wish_42 rfl rfl ?_
    refine y_getV C 3 gp fX4_wish_33 rfl rfl ft_3_5 (s_pX fM108 (egp)) dX4_wish_43 ?_
    refine y_getI C 6 _ _ fX4_wish_86 cgp rfl ft_6_7 sb_6_7 hM108 dX4_wish_46 (fun a111 ea111 la111 ua111 => ?_)
    obtain rfl : a111 = (M0.1 gp 7).toInt := s_fX fM108 (s_nin cgp (by decide)) (ea111)
    refine j_aload_n C 0 0 dX4_wish_49 rfl rfl ?_
    refine y_getV C 3 gp fX4_wish_33 rfl rfl ft_3_5 (s_pX fM108 (egp)) dX4_wish_50 ?_
    refine y_getI C 6 _ _ fX4_wish_89 cgp rfl ft_6_8 sb_6_8 hM108 dX4_wish_53 (fun a113 ea113 la113 ua113 => ?_)
    obtain rfl : a113 = (M0.1 gp 8).toInt := s_fX fM108 (s_nin cgp (by decide)) (ea113)
    have u115c := cw_fr fM108 (by decide) cgp (lw_ne (M := M0) (p := gp) (i := 7) (j := 8) (by exact hp0) (by exact h106)).2
    have u115l := (lw_ne (M := M0) (p := gp) (i := 7) (j := 8) (by exact hp0) (by exact h106)).1
    refine j_callVi C (d := 1) (As := [.int (sI (M0.1 gp 7).toInt), .int (sI (M0.1 gp 8).toInt)]) (st := []) 81 (s_lt rfl rfl) (s_kc (c := 3) rfl rfl) (by decide) rfl (s2_X4_reckon hM108 hpr (M0.1 gp 7).toInt (by (clear u115l u115c ua113 la113 ea113 ua111 la111 h110 fM108 hM108 h106 ua104 la104 u101s hret C hp3 hp2 hp1 hp0 egp cgp ha3 ha2 ha1 hpr hM0; omega)) (M0.1 gp 8).toInt (by (clear u115l u115c ua113 la113 ua111 la111 ea111 h110 fM108 hM108 h106 ua102 la102 u101s hret C hp3 hp2 hp1 hp0 egp cgp ha3 ha2 ha1 hpr hM0; omega)) gp cgp (s_pX fM108 (egp)) (by exact u115c) (by exact u115l) (by exact ⟨la102, ua102⟩) (by exact ⟨la104, ua104⟩)) gX4_wish_X4_reckon rfl hdX4_reckon (by decide) (Nat.le_of_ble_eq_true rfl) dX4_wish_56 rfl (fun r116 M117 h118 => ?_)
    obtain ⟨a120, rfl, hM117, fM117, h119⟩ := h118
    obtain rfl : a120 = ((rkS (mdX M108 gp 0) (fcX M108) (281 + (M0.1 gp 7).toInt) ((M0.1 gp 8).toInt - (M0.1 gp 7).toInt).toNat).2 0) := by exact h119.2.2
    have u121r := rk_X (M := M0) (N := M108) (p := gp) (l := 0) (i := 7) (j := 8) (b := a1) (k := a2) (o := bsF a3 (8 : Int).toNat) (w := andI (shrI a3 a2) 1) ⟨rfl, rfl⟩ fM108 (by decide) cgp (by exact h110) (by exact hp0) (by exact h106) (by exact la111)
    exact hret _ _ _ _ dX4_wish_59 ⟨((rkS (mdX M108 gp 0) (fcX M108) (281 + (M0.1 gp 7).toInt) ((M0.1 gp 8).toInt - (M0.1 gp 7).toInt).toNat).2 0), rfl, hM117, ((FX.rf.tr fM108 (by decide)).tr fM117 (by decide)), by exact ⟨h119.1, ⟨h119.2.1, (by (clear fM117 hM117 u115c ua113 la113 ua111 la111 h110 fM108 hM108 ua104 la104 ua102 la102 hret C hp3 hp2 hp1 hp0 egp cgp ha3 ha2 ha1 hpr hM0; omega))⟩⟩⟩
  · refine j_aload_n C 0 0 dX4_wish_17 rfl rfl ?_
    refine y_getV C 3 gp fX4_wish_33 rfl rfl ft_3_5 (egp) dX4_wish_18 ?_
    refine y_getTE C 6 21 fX4_wish_68 cgp rfl ft_6_2 rfl sm_6_2 st_6_2 (by decide) hM0 dX4_wish_21 (fun cv122 => ?_)
    refine j_iload_n C 1 1 dX4_wish_24 rfl rfl ?_
    refine y_iald C 21 6 _ _ cv122 rfl rfl ak_21 an_21 rfl (sb_21 _) hM0 dX4_wish_25 (by exact ⟨hp1.1, (by omega)⟩) (fun a123 ea123 la123 ua123 => ?_)
    obtain rfl : a123 = (M0.1 (s_p0 gp 2) (a1).toNat).toInt := ea123
    refine j_aload_n C 0 0 dX4_wish_26 rfl rfl ?_
    refine y_getC C 3 83 fX4_wish_15 rfl rfl ft_3_1 sm_3_1 rfl hM0 dX4_wish_27 ?_
    refine j_iload_n C 2 2 dX4_wish_30 rfl rfl ?_
    refine y_iald C 34 8 _ _ rfl rfl rfl ak_34 an_34 rfl (sb_34 _) hM0 dX4_wish_31 (by exact ⟨hp2.1, (by omega)⟩) (fun a124 ea124 la124 ua124 => ?_)
    obtain rfl : a124 = (M0.1 83 (a2).toNat).toInt := ea124
    refine e_isub C dX4_wish_32 (fun lb125 ub125 => ?_)
    exact hret _ _ _ _ dX4_wish_33 ⟨(subI (M0.1 (s_p0 gp 2) (a1).toNat).toInt (M0.1 83 (a2).toNat).toInt), rfl, hM0, FX.rf, by exact ⟨lb125, ⟨ub125, (by (clear ua124 la124 ua123 la123 cv122 ua104 la104 ua102 la102 hret C hp3 hp2 hp1 hp0 egp cgp ha3 ha2 ha1 hpr hM0; omega))⟩⟩⟩
set_option maxHeartbeats 4000000 in
theorem s2_X4_choice {l : Launch} {dC : Nat → ClassId} {dI : Nat → Nat → Nat} {ad : Nat → Nat} {cA : Nat → ClassId} {pr : Nat → Nat → Bool} {Kz : mm_M} {M0 : mm_M} (hM0 : INV pr Kz M0) (hpr : PX pr) (a1 : Int) (ha1 : -2147483648 ≤ a1 ∧ a1 ≤ 2147483647) (a2 : Int) (ha2 : -2147483648 ≤ a2 ∧ a2 ≤ 2147483647) (a3 : Int) (ha3 : -2147483648 ≤ a3 ∧ a3 ≤ 2147483647) (gp : Nat) (cgp : s_c gp = 6) (egp : gp = M0.2.2 81 5) (hp0 : b01 (LWX M0 gp 9 10) = 1) (hp1 : b01 (LWX M0 gp 7 8) = 1) (hp2 : b01 (APX M0 gp) = 1) (hp3 : b01 (BTX M0 gp) = 1) (hp4 : b01 (PRX M0) = 1) (hp5 : 0 ≤ a1 ∧ a1 ≤ 5) (hp6 : 0 ≤ a2 ∧ a2 ≤ 255) (hp7 : 0 ≤ a3 ∧ a3 ≤ 255) : Ci l 3 yX4_choice wsX4_choice dC dI ad cA [.ref (ad 81), .int (sI a1), .int (sI a2), .int (sI a3)] M0 (fun r M' => ∃ a : Int, r = sI a ∧ INV pr Kz M' ∧ FX [82, 85, 86] M0 M' ∧ (-1) ≤ a ∧ a ≤ 7 ∧ (a = (boF (mdX M0 gp (sI a3)) a1 a2)) ∧ (b01 (APX M' gp) = 1)) := by
  refine ci_of (cc := cX4_choice) (maxL := 10) (ty := .int) (lv := [(0, .ref (ad 81)), (1, .int (sI a1)), (2, .int (sI a2)), (3, .int (sI a3))]) (by decide) rfl (fun r M' hp => rfl) (Nat.le_of_ble_eq_true rfl) rfl ?_
  intro p e s m args below meth c A Q C hret
  have u101s := shX M0 gp (h := a3) (s := a2) (by exact ⟨hp7.1, hp7.2⟩)
  have u1014 := hM0.rd (i := gp) (c := 6) (k := 7) cgp sb_6_7
  have u1015 := hM0.rd (i := gp) (c := 6) (k := 9) cgp sb_6_9
  refine y_iconst C dX4_choice_0 ?_
  refine j_istore C 4 [(4, .int (sI (-1))), (0, .ref (ad 81)), (1, .int (sI a1)), (2, .int (sI a2)), (3, .int (sI a3))] dX4_choice_1 (by decide) rfl ?_
  refine y_iconst C dX4_choice_3 ?_
  refine j_istore C 5 [(5, .int (sI 0)), (4, .int (sI (-1))), (0, .ref (ad 81)), (1, .int (sI a1)), (2, .int (sI a2)), (3, .int (sI a3))] dX4_choice_4 (by decide) rfl ?_
  refine y_iconst C dX4_choice_6 ?_
  refine j_aload_n C 2 0 dX4_choice_7 rfl rfl ?_
  refine y_getI C 3 _ _ fX4_choice_29 rfl rfl ft_3_6 sb_3_6 hM0 dX4_choice_8 (fun a102 ea102 la102 ua102 => ?_)
  obtain rfl : a102 = (M0.1 81 6).toInt := ea102
  refine e_shl1 C 8 256 dX4_choice_11 rfl (by decide) (by exact ⟨la102, (by (clear u1015 u1014 u101s hret C hp7 hp6 hp5 hp4 hp3 hp2 hp1 hp0 egp cgp ha3 ha2 ha1 hpr hM0; omega))⟩) (fun lb104 ub104 => ?_)
  refine y_iconst C dX4_choice_12 ?_
  refine y_isub C dX4_choice_13 ?_
  refine j_iload_n C 5 3 dX4_choice_14 rfl rfl ?_
  refine y_iconst C dX4_choice_15 ?_
  refine y_not C dX4_choice_16 ?_
  refine e_iandL C dX4_choice_17 (by (clear ua102 la102 u1015 u1014 u101s hret C hp7 hp6 hp5 hp4 hp3 hp2 hp1 hp0 egp cgp ha3 ha2 ha1 hpr hM0; omega)) (fun lb105 ub105 => ?_)
  refine j_iload_n C 4 2 dX4_choice_18 rfl rfl ?_
  refine y_iconst C dX4_choice_19 ?_
  refine y_not C dX4_choice_20 ?_
  refine e_iandL C dX4_choice_21 (by exact ⟨lb105, (by (clear ua102 la102 u1015 u1014 u101s hret C hp7 hp6 hp5 hp4 hp3 hp2 hp1 hp0 egp cgp ha3 ha2 ha1 hpr hM0; omega))⟩) (fun lb106 ub106 => ?_)
  refine y_if_ne C 28 dX4_choice_22 (by decide) (by (clear ua102 la102 u1015 u1014 u101s hret C hp7 hp6 hp5 hp4 hp3 hp2 hp1 hp0 egp cgp ha3 ha2 ha1 hpr hM0; omega)) (fun h107 => ?_) (fun h107 => ?_)
  · refine j_iload_n C 4 2 dX4_choice_28 rfl rfl ?_
    refine j_callSi C (d := 0) (As := [.int (sI a2)]) (st := []) (hx_J6_bitCount_0f7a4 hM0 a2 (by exact ⟨ha2.1, ha2.2⟩) (by exact ⟨hp6.1, hp6.2⟩)) gX4_choice_J6_bitCount_0f7a4 rfl hdJ6_bitCount_0f7a4s (by decide) (Nat.le_of_ble_eq_true rfl) dX4_choice_29 rfl (fun r108 M109 h110 => ?_)
    obtain ⟨a112, rfl, rfl, h111⟩ := h110
    obtain rfl : a112 = (bsF a2 (8 : Int).toNat) := by exact h111.2.2
    refine j_istore C 6 [(6, .int (sI (bsF a2 (8 : Int).toNat))), (5, .int (sI 0)), (4, .int (sI (-1))), (0, .ref (ad 81)), (1, .int (sI a1)), (2, .int (sI a2)), (3, .int (sI a3))] dX4_choice_32 (by decide) rfl ?_
    refine y_iconst C dX4_choice_34 ?_
    refine j_istore C 7 [(7, .int (sI 0)), (6, .int (sI (bsF a2 (8 : Int).toNat))), (5, .int (sI 0)), (4, .int (sI (-1))), (0, .ref (ad 81)), (1, .int (sI a1)), (2, .int (sI a2)), (3, .int (sI a3))] dX4_choice_35 (by decide) rfl ?_
    have u113z := bo_0 (mdX M0 gp (sI a3)) a1 a2
    have L167 : ∀ (n165 : Nat), ∀ (a168 : Int) (a169 : Int) (a170 : Int) (M171 : mm_M), ((-1) ≤ a168 ∧ a168 ≤ 7 ∧ 0 ≤ a169 ∧ a169 ≤ 2147483647 ∧ 0 ≤ a170 ∧ a170 ≤ 8 ∧ (a168 = (boS (mdX M0 gp (sI a3)) a1 a2 (a170).toNat).1) ∧ (a169 = (boS (mdX M0 gp (sI a3)) a1 a2 (a170).toNat).2) ∧ (b01 (APX M171 gp) = 1) ∧ (a170 ≤ (M0.1 81 6).toInt) ∧ (8 - a170) < (n165 : Int)) → INV pr Kz M171 → FX [82, 85, 86] M0 M171 → jj p l e (cn_R 3) s m args below meth c 0 0 Q 10 dC dI ad cA A M171 37 [(0, .ref (ad 81)), (1, .int (sI a1)), (2, .int (sI a2)), (3, .int (sI a3)), (4, .int (sI a168)), (5, .int (sI a169)), (6, .int (sI (bsF a2 (8 : Int).toNat))), (7, .int (sI a170))] [] := by
      intro n165
      induction n165 with
      | zero =>
        intro a168 a169 a170 M171 h172 hM171 fM171
        exfalso; (clear fM171 hM171 u113z h111 h107 ub106 lb106 ub105 lb105 ub104 lb104 ua102 la102 u1015 u1014 u101s hret C hp7 hp6 hp5 hp4 hp3 hp2 hp1 hp0 egp cgp ha3 ha2 ha1 hpr hM0; omega)
      | succ n165 ih166 =>
        intro a168 a169 a170 M171 h172 hM171 fM171
        refine j_iload C 7 dX4_choice_37 rfl ?_
        refine j_aload_n C 0 0 dX4_choice_39 rfl rfl ?_
        refine y_getI C 3 _ _ fX4_choice_29 rfl rfl ft_3_6 sb_3_6 hM171 dX4_choice_40 (fun a173 ea173 la173 ua173 => ?_)
        obtain rfl : a173 = (M0.1 81 6).toInt := s_fX fM171 (by decide) (ea173)
        refine y_icmp_ge C 172 dX4_choice_43 (by decide) (by (clear ua173 la173 fM171 hM171 ih166 u113z h111 h107 ub106 lb106 ub105 lb105 ub104 lb104 u1015 u1014 u101s hret C hp7 hp6 hp5 hp4 hp3 hp2 hp1 hp0 egp cgp ha3 ha2 ha1 hpr hM0; omega)) (fun h175 => ?_) (fun h175 => ?_)
        · have u220e := boX_end M0 gp (sI a3) a1 a2 (k := a170) (by exact ⟨h172.2.2.2.2.1, (by (clear ua173 la173 fM171 hM171 ih166 u113z h111 h107 ub106 lb106 ub105 lb105 ub104 lb104 u1015 u1014 u101s hret C hp7 hp6 hp5 hp4 hp3 hp2 hp1 hp0 egp cgp ha3 ha2 ha1 hpr hM0; omega))⟩)
          refine j_iload C 4 dX4_choice_172 rfl ?_
          exact hret _ _ _ _ dX4_choice_174 ⟨a168, rfl, hM171, (FX.rf.tr fM171 (by decide)), by exact ⟨h172.1, ⟨h172.2.1, ⟨(by (clear h175 ua173 la173 ea173 fM171 hM171 ih166 u113z h111 h107 ub106 lb106 ub105 lb105 ub104 lb104 ua102 la102 u1015 u1014 u101s hret C hp7 hp6 hp5 hp4 hp3 hp2 hp1 hp0 egp cgp ha3 ha2 ha1 hpr hM0; omega)), h172.2.2.2.2.2.2.2.2.1⟩⟩⟩⟩
        · have u176b := boX_st M0 gp (b := a1) (k := a170) (s := a2) (h := a3) (by exact ⟨hp5.1, (by (clear h175 ua173 la173 ea173 fM171 hM171 h172 ih166 u113z h111 h107 ub106 lb106 ub105 lb105 ub104 lb104 ua102 la102 u1015 u1014 u101s hret C hp7 hp6 hp4 hp3 hp2 hp1 hp0 egp cgp ha3 ha2 hpr hM0; omega))⟩) (by exact ⟨h172.2.2.2.2.1, (by (clear ua173 la173 fM171 hM171 ih166 u113z h111 h107 ub106 lb106 ub105 lb105 ub104 lb104 u1015 u1014 u101s hret C hp7 hp6 hp5 hp4 hp3 hp2 hp1 hp0 egp cgp ha3 ha2 ha1 hpr hM0; omega))⟩) (by exact ⟨hp7.1, hp7.2⟩) (by exact hp3) (by exact u1014.1) (by exact u1015.1) (by (clear h175 ua173 la173 ea173 fM171 hM171 ih166 u113z h111 h107 ub106 lb106 ub105 lb105 ub104 lb104 ua102 la102 u1015 u1014 u101s hret C hp7 hp6 hp5 hp4 hp3 hp2 hp1 hp0 egp cgp ha3 ha2 ha1 hpr hM0; omega)) (by (clear h175 ua173 la173 ea173 fM171 hM171 h172 ih166 u113z h111 ub106 ub105 lb105 ub104 lb104 ua102 la102 u1015 u1014 hret C hp7 hp6 hp5 hp4 hp3 hp2 hp1 hp0 egp cgp ha3 ha2 ha1 hpr hM0; omega))
          have u176p := pr_at (M := M0) (by exact hp4) a170
          refine j_iload_n C 3 3 dX4_choice_46 rfl rfl ?_
          refine j_iload C 7 dX4_choice_47 rfl ?_
          refine e_ishrP C dX4_choice_49 (by exact ⟨hp7.1, ha3.2⟩) (fun lb177 ub177 => ?_)
          refine y_iconst C dX4_choice_50 ?_
          refine e_iandR C dX4_choice_51 (by exact ⟨(by decide), (by decide)⟩) (fun lb178 ub178 => ?_)
          refine y_if_ne C 166 dX4_choice_52 (by decide) (by (clear ub177 lb177 u176p u176b h175 ua173 la173 ea173 fM171 hM171 h172 ih166 u113z h111 h107 ub106 lb106 ub105 lb105 ub104 lb104 ua102 la102 u1015 u1014 u101s hret C hp7 hp6 hp5 hp4 hp3 hp2 hp1 hp0 egp cgp ha3 ha2 ha1 hpr hM0; omega)) (fun h179 => ?_) (fun h179 => ?_)
          · refine y_iinc C 7 [(7, .int (sI (a170 + 1))), (0, .ref (ad 81)), (1, .int (sI a1)), (2, .int (sI a2)), (3, .int (sI a3)), (4, .int (sI a168)), (5, .int (sI a169)), (6, .int (sI (bsF a2 (8 : Int).toNat)))] dX4_choice_166 rfl (by decide) rfl ?_
            refine j_goto C 37 dX4_choice_169 (by decide) ?_
            refine j_lv [1, 2, 3, 4, 5, 6, 7, 0] rfl ?_; exact ih166 a168 a169 (a170 + 1) M171 (by exact ⟨h172.1, ⟨h172.2.1, ⟨h172.2.2.1, ⟨h172.2.2.2.1, ⟨(by (clear ub177 lb177 ua173 la173 fM171 hM171 ih166 u113z h111 h107 ub106 lb106 ub105 lb105 ub104 lb104 u1015 u1014 u101s hret C hp7 hp6 hp5 hp4 hp3 hp2 hp1 hp0 egp cgp ha3 ha2 ha1 hpr hM0; omega)), ⟨(by (clear ub177 lb177 ua173 la173 fM171 hM171 ih166 u113z h111 h107 ub106 lb106 ub105 lb105 ub104 lb104 u1015 u1014 u101s hret C hp7 hp6 hp5 hp4 hp3 hp2 hp1 hp0 egp cgp ha3 ha2 ha1 hpr hM0; omega)), ⟨(by (clear ub177 lb177 ua173 la173 fM171 hM171 ih166 u113z h111 h107 ub106 lb106 ub105 lb105 ub104 lb104 u1015 u1014 u101s hret C hp7 hp6 hp5 hp4 hp3 hp2 hp1 hp0 egp cgp ha3 ha2 ha1 hpr hM0; omega)), ⟨(by (clear ub177 lb177 ua173 la173 fM171 hM171 ih166 u113z h111 h107 ub106 lb106 ub105 lb105 ub104 lb104 u1015 u1014 u101s hret C hp7 hp6 hp5 hp4 hp3 hp2 hp1 hp0 egp cgp ha3 ha2 ha1 hpr hM0; omega)), ⟨h172.2.2.2.2.2.2.2.2.1, ⟨(by (clear ub177 lb177 ua173 la173 fM171 hM171 ih166 u113z h111 h107 ub106 lb106 ub105 lb105 ub104 lb104 u1015 u1014 u101s hret C hp7 hp6 hp5 hp4 hp3 hp2 hp1 hp0 egp cgp ha3 ha2 ha1 hpr hM0; omega)), (by (clear ub177 lb177 ua173 la173 fM171 hM171 ih166 u113z h111 h107 ub106 lb106 ub105 lb105 ub104 lb104 u1015 u1014 u101s hret C hp7 hp6 hp5 hp4 hp3 hp2 hp1 hp0 egp cgp ha3 ha2 ha1 hpr hM0; omega))⟩⟩⟩⟩⟩⟩⟩⟩⟩⟩) hM171 (FX.rf.tr fM171 (by decide))
          · refine j_iload C 7 dX4_choice_55 rfl ?_
            refine y_bipush C dX4_choice_57 rfl ?_
            refine y_imul C dX4_choice_59 ?_
            refine j_iload_n C 1 1 dX4_choice_60 rfl rfl ?_
            refine y_bipush C dX4_choice_61 rfl ?_
            refine y_imul C dX4_choice_63 ?_
            refine j_iload C 6 dX4_choice_64 rfl ?_
            refine y_iadd C dX4_choice_66 ?_
            refine y_iconst C dX4_choice_67 ?_
            refine y_imul C dX4_choice_68 ?_
            refine y_iadd C dX4_choice_69 ?_
            refine j_iload_n C 2 2 dX4_choice_70 rfl rfl ?_
            refine j_iload C 7 dX4_choice_71 rfl ?_
            refine e_ishrP C dX4_choice_73 (by exact ⟨hp6.1, ha2.2⟩) (fun lb181 ub181 => ?_)
            refine y_iconst C dX4_choice_74 ?_
            refine e_iandR C dX4_choice_75 (by exact ⟨(by decide), (by decide)⟩) (fun lb182 ub182 => ?_)
            refine y_iadd C dX4_choice_76 ?_
            refine j_istore C 8 [(8, .int (sI (((a170 * 108) + (((a1 * 9) + (bsF a2 (8 : Int).toNat)) * 2)) + (andI (shrI a2 a170) 1)))), (0, .ref (ad 81)), (1, .int (sI a1)), (2, .int (sI a2)), (3, .int (sI a3)), (4, .int (sI a168)), (5, .int (sI a169)), (6, .int (sI (bsF a2 (8 : Int).toNat))), (7, .int (sI a170))] dX4_choice_77 (by decide) rfl ?_
            refine j_iload C 0 dX4_choice_79 rfl ?_
            refine y_if_lt C 104 dX4_choice_81 (by decide) (by (clear ub181 lb181 h179 ub178 lb178 ub177 lb177 u176p u176b h175 ua173 la173 ea173 fM171 hM171 ih166 u113z h107 ub106 lb106 ub105 lb105 ub104 lb104 ua102 la102 u1015 u1014 u101s hret C hp7 hp6 hp4 hp3 hp2 hp1 hp0 egp cgp ha3 ha2 hpr hM0; omega)) (fun h183 => ?_) (fun h183 => ?_)
            · exfalso; (clear ub181 lb181 h179 ub178 lb178 ub177 lb177 u176p u176b h175 ua173 la173 ea173 fM171 hM171 ih166 u113z h107 ub106 lb106 ub105 lb105 ub104 lb104 ua102 la102 u1015 u1014 u101s hret C hp7 hp6 hp4 hp3 hp2 hp1 hp0 egp cgp ha3 ha2 hpr hM0; omega)
            · refine j_iload C 0 dX4_choice_84 rfl ?_
              refine j_aload_n C 1 0 dX4_choice_86 rfl rfl ?_
              refine y_getC C 3 82 fX4_choice_11 rfl rfl ft_3_0 sm_3_0 rfl hM171 dX4_choice_87 ?_
              refine y_alen C 33 864 rfl rfl rfl an_33 rfl rfl dX4_choice_90 ?_
              refine y_icmp_ge C 104 dX4_choice_91 (by decide) (by exact ⟨⟨(by (clear ub181 lb181 h179 ub178 lb178 ub177 lb177 u176p u176b h175 ua173 la173 ea173 fM171 hM171 ih166 u113z h107 ub106 lb106 ub105 lb105 ub104 lb104 ua102 la102 u1015 u1014 u101s hret C hp7 hp6 hp4 hp3 hp2 hp1 hp0 egp cgp ha3 ha2 hpr hM0; omega)), (by (clear ub181 lb181 h179 ub178 lb178 ub177 lb177 u176p u176b h175 ua173 la173 ea173 fM171 hM171 ih166 u113z h107 ub106 lb106 ub105 lb105 ub104 lb104 ua102 la102 u1015 u1014 u101s hret C hp7 hp6 hp4 hp3 hp2 hp1 hp0 egp cgp ha3 ha2 hpr hM0; omega))⟩, ⟨(by decide), (by decide)⟩⟩) (fun h184 => ?_) (fun h184 => ?_)
              · exfalso; (clear h183 ub181 lb181 h179 ub178 lb178 ub177 lb177 u176p u176b ua173 la173 fM171 hM171 h172 ih166 u113z h107 ub106 lb106 ub105 lb105 ub104 lb104 u1015 u1014 u101s hret C hp7 hp6 hp4 hp3 hp2 hp1 hp0 egp cgp ha3 ha2 hpr hM0; omega)
              · refine j_aload_n C 1 0 dX4_choice_94 rfl rfl ?_
                refine y_getC C 3 82 fX4_choice_11 rfl rfl ft_3_0 sm_3_0 rfl hM171 dX4_choice_95 ?_
                refine j_iload C 0 dX4_choice_98 rfl ?_
                refine y_iald C 33 864 _ _ rfl rfl rfl ak_33 an_33 rfl (sb_33 _) hM171 dX4_choice_100 (by (clear ub182 lb182 ub181 lb181 h179 ub178 lb178 ub177 lb177 u176p u176b h175 ua173 la173 ea173 fM171 hM171 h172 ih166 u113z h111 h107 ub106 lb106 ub105 lb105 ub104 lb104 ua102 la102 u1015 u1014 u101s hret C hp7 hp6 hp5 hp4 hp3 hp2 hp1 hp0 egp cgp ha3 ha2 ha1 hpr hM0; omega)) (fun a185 ea185 la185 ua185 => ?_)
                obtain rfl : a185 = (M171.1 82 ((((a170 * 108) + (((a1 * 9) + (bsF a2 (8 : Int).toNat)) * 2)) + (andI (shrI a2 a170) 1))).toNat).toInt := ea185
                refine j_goto C 105 dX4_choice_101 (by decide) ?_
                refine j_istore C 9 [(9, .int (sI (M171.1 82 ((((a170 * 108) + (((a1 * 9) + (bsF a2 (8 : Int).toNat)) * 2)) + (andI (shrI a2 a170) 1))).toNat).toInt)), (8, .int (sI (((a170 * 108) + (((a1 * 9) + (bsF a2 (8 : Int).toNat)) * 2)) + (andI (shrI a2 a170) 1)))), (0, .ref (ad 81)), (1, .int (sI a1)), (2, .int (sI a2)), (3, .int (sI a3)), (4, .int (sI a168)), (5, .int (sI a169)), (6, .int (sI (bsF a2 (8 : Int).toNat))), (7, .int (sI a170))] dX4_choice_105 (by decide) rfl ?_
                have u186g := ap_get (M := M171) (p := gp) (k := a170) (b := a1) (o := bsF a2 (8 : Int).toNat) (w := andI (shrI a2 a170) 1) (x := (((a170 * 108) + (((a1 * 9) + (bsF a2 (8 : Int).toNat)) * 2)) + (andI (shrI a2 a170) 1))) (by exact h172.2.2.2.2.2.2.2.2.1) (by exact ⟨⟨h172.2.2.2.2.1, (by (clear ua185 la185 h184 h183 ub181 lb181 h179 ub178 lb178 ub177 lb177 u176p u176b ua173 la173 fM171 hM171 ih166 u113z h107 ub106 lb106 ub105 lb105 ub104 lb104 u1015 u1014 u101s hret C hp7 hp6 hp4 hp3 hp2 hp1 hp0 egp cgp ha3 ha2 hpr hM0; omega))⟩, ⟨⟨hp5.1, (by (clear ua185 la185 h184 h183 ub181 lb181 h179 ub178 lb178 ub177 lb177 u176p u176b ua173 la173 fM171 hM171 ih166 u113z h107 ub106 lb106 ub105 lb105 ub104 lb104 u1015 u1014 u101s hret C hp7 hp6 hp4 hp3 hp2 hp1 hp0 egp cgp ha3 ha2 hpr hM0; omega))⟩, ⟨⟨h111.1, h111.2.1⟩, ⟨lb182, ub182⟩⟩⟩⟩) (by (clear ua185 la185 h184 h183 ub182 lb182 ub181 lb181 h179 ub178 lb178 ub177 lb177 u176p u176b h175 ua173 la173 ea173 fM171 hM171 h172 ih166 u113z h111 h107 ub106 lb106 ub105 lb105 ub104 lb104 ua102 la102 u1015 u1014 u101s hret C hp7 hp6 hp5 hp4 hp3 hp2 hp1 hp0 egp cgp ha3 ha2 ha1 hpr hM0; omega))
                have u186f := ltO_f ((FX.rf.tr fM171 (by decide)) : FX [82, 85, 86] M0 M171) (by decide) cgp a1 a170 (bsF a2 (8 : Int).toNat) (andI (shrI a2 a170) 1)
                have u186q : (M171.1 83 (a170).toNat).toInt = (M0.1 83 (a170).toNat).toInt := by rw [FX.cell fM171 (by decide)]
                have u186s := apO_s (mdX M0 gp 0) a1 a170 (bsF a2 (8 : Int).toNat) (andI (shrI a2 a170) 1)
                refine j_iload C 0 dX4_choice_107 rfl ?_
                refine y_iconst C dX4_choice_109 ?_
                have J214 : ∀ (a212 : Int) (M213 : mm_M), ((-2147483648) ≤ a212 ∧ a212 ≤ 2147483647 ∧ (a212 = apO (mdX M0 gp 0) a1 a170 (bsF a2 (8 : Int).toNat) (andI (shrI a2 a170) 1)) ∧ (b01 (APX M213 gp) = 1)) → INV pr Kz M213 → FX [82, 85, 86] M0 M213 → jj p l e (cn_R 3) s m args below meth c 0 0 Q 10 dC dI ad cA A M213 151 [(0, .ref (ad 81)), (1, .int (sI a1)), (2, .int (sI a2)), (3, .int (sI a3)), (4, .int (sI a168)), (5, .int (sI a169)), (6, .int (sI (bsF a2 (8 : Int).toNat))), (7, .int (sI a170)), (9, .int (sI a212))] [] := by
                  intro a212 M213 h215 hM213 fM213
                  refine j_iload C 8 dX4_choice_151 rfl ?_
                  refine j_iload C 5 dX4_choice_153 rfl ?_
                  refine y_icmp_le C 166 dX4_choice_155 (by decide) (by exact ⟨⟨h215.1, h215.2.1⟩, ⟨(by (clear fM213 hM213 u186s u186q u186f u186g ua185 la185 h184 h183 ub182 lb182 ub181 lb181 h179 ub178 lb178 ub177 lb177 u176p u176b h175 ua173 la173 ea173 fM171 hM171 ih166 u113z h111 h107 ub106 lb106 ub105 lb105 ub104 lb104 ua102 la102 u1015 u1014 u101s hret C hp7 hp6 hp5 hp4 hp3 hp2 hp1 hp0 egp cgp ha3 ha2 ha1 hpr hM0; omega)), h172.2.2.2.1⟩⟩) (fun h217 => ?_) (fun h217 => ?_)
                  · refine y_iinc C 7 [(7, .int (sI (a170 + 1))), (0, .ref (ad 81)), (1, .int (sI a1)), (2, .int (sI a2)), (3, .int (sI a3)), (4, .int (sI a168)), (5, .int (sI a169)), (6, .int (sI (bsF a2 (8 : Int).toNat))), (9, .int (sI a212))] dX4_choice_166 rfl (by decide) rfl ?_
                    refine j_goto C 37 dX4_choice_169 (by decide) ?_
                    refine j_lv [1, 2, 3, 4, 5, 6, 7, 0] rfl ?_; exact ih166 a168 a169 (a170 + 1) M213 (by (clear fM213 hM213 u186s u186q u186f u186g ua185 la185 h184 h183 ub182 lb182 ub181 lb181 h179 ub178 lb178 ub177 lb177 u176p ua173 la173 ea173 fM171 hM171 ih166 u113z h111 h107 ub106 lb106 ub105 lb105 ub104 lb104 la102 u1015 u1014 u101s hret C hp7 hp6 hp5 hp4 hp3 hp2 hp1 hp0 egp cgp ha3 ha2 ha1 hpr hM0; exact ⟨h172.1, ⟨h172.2.1, ⟨h172.2.2.1, ⟨h172.2.2.2.1, ⟨(by omega), ⟨(by omega), ⟨(by omega), ⟨(by omega), ⟨h215.2.2.2, ⟨(by omega), (by omega)⟩⟩⟩⟩⟩⟩⟩⟩⟩⟩)) hM213 (FX.rf.tr fM213 (by decide))
                  · refine j_iload C 8 dX4_choice_158 rfl ?_
                    refine j_istore C 5 [(5, .int (sI a212)), (0, .ref (ad 81)), (1, .int (sI a1)), (2, .int (sI a2)), (3, .int (sI a3)), (4, .int (sI a168)), (6, .int (sI (bsF a2 (8 : Int).toNat))), (7, .int (sI a170)), (9, .int (sI a212))] dX4_choice_160 (by decide) rfl ?_
                    refine j_iload C 7 dX4_choice_162 rfl ?_
                    refine j_istore C 4 [(4, .int (sI a170)), (5, .int (sI a212)), (0, .ref (ad 81)), (1, .int (sI a1)), (2, .int (sI a2)), (3, .int (sI a3)), (6, .int (sI (bsF a2 (8 : Int).toNat))), (7, .int (sI a170)), (9, .int (sI a212))] dX4_choice_164 (by decide) rfl ?_
                    refine y_iinc C 7 [(7, .int (sI (a170 + 1))), (4, .int (sI a170)), (5, .int (sI a212)), (0, .ref (ad 81)), (1, .int (sI a1)), (2, .int (sI a2)), (3, .int (sI a3)), (6, .int (sI (bsF a2 (8 : Int).toNat))), (9, .int (sI a212))] dX4_choice_166 rfl (by decide) rfl ?_
                    refine j_goto C 37 dX4_choice_169 (by decide) ?_
                    refine j_lv [3, 4, 5, 6, 1, 2, 7, 0] rfl ?_; exact ih166 a170 a212 (a170 + 1) M213 (by (clear fM213 hM213 u186s u186q u186f u186g ua185 la185 h184 h183 ub182 lb182 ub181 lb181 ub178 lb178 ub177 lb177 u176p ua173 la173 ea173 fM171 hM171 ih166 u113z h111 h107 ub106 lb106 ub105 lb105 ub104 lb104 la102 u1015 u1014 u101s hret C hp7 hp6 hp5 hp4 hp3 hp2 hp1 hp0 egp cgp ha3 ha2 ha1 hpr hM0; omega)) hM213 (FX.rf.tr fM213 (by decide))
                refine y_icmp_ne C 151 dX4_choice_110 (by decide) (by exact ⟨⟨la185, ua185⟩, ⟨(by decide), (by decide)⟩⟩) (fun h187 => ?_) (fun h187 => ?_)
                · refine j_lv [2, 3, 4, 5, 6, 7, 8, 9, 0] rfl ?_; exact J214 (M171.1 82 ((((a170 * 108) + (((a1 * 9) + (bsF a2 (8 : Int).toNat)) * 2)) + (andI (shrI a2 a170) 1))).toNat).toInt M171 (by exact ⟨la185, ⟨ua185, ⟨(by (clear J214 h184 h183 ub182 lb182 ub181 lb181 h179 ub178 lb178 ub177 lb177 u176b ua173 la173 fM171 hM171 ih166 u113z h111 h107 ub106 lb106 ub105 lb105 ub104 lb104 ua102 la102 u1015 u1014 u101s hret C hp7 hp6 hp5 hp4 hp3 hp2 hp1 hp0 egp cgp ha3 ha2 ha1 hpr hM0; omega)), h172.2.2.2.2.2.2.2.2.1⟩⟩⟩) hM171 (FX.rf.tr fM171 (by decide))
                · refine j_aload_n C 2 0 dX4_choice_113 rfl rfl ?_
                  refine j_iload_n C 3 1 dX4_choice_114 rfl rfl ?_
                  refine j_iload C 9 dX4_choice_115 rfl ?_
                  refine j_iload_n C 4 2 dX4_choice_117 rfl rfl ?_
                  have u189l := lwx_fr (i := 9) (j := 10) ((FX.rf.tr fM171 (by decide)) : FX [82, 85, 86] M0 M171) (by decide) cgp (by exact hp0)
                  refine j_callVi C (d := 2) (As := [.int (sI a1), .int (sI a170), .int (sI a2)]) (st := []) 81 (s_lt rfl rfl) (s_kc (c := 3) rfl rfl) (by decide) rfl (s2_X4_lets hM171 hpr a1 (by exact ⟨ha1.1, ha1.2⟩) a170 (by (clear u189l h187 J214 u186s u186q u186f u186g ua185 la185 h184 h183 ub182 lb182 ub181 lb181 h179 ub178 lb178 ub177 lb177 u176p u176b h175 ua173 la173 ea173 fM171 hM171 ih166 u113z h111 h107 ub106 lb106 ub105 lb105 ub104 lb104 ua102 la102 u1015 u1014 u101s hret C hp7 hp6 hp5 hp4 hp3 hp2 hp1 hp0 egp cgp ha3 ha2 ha1 hpr hM0; omega)) a2 (by exact ⟨ha2.1, ha2.2⟩) gp cgp (s_pX fM171 (egp)) (by exact u189l) (by exact ⟨hp5.1, hp5.2⟩) (by exact ⟨h172.2.2.2.2.1, (by (clear u189l h187 J214 u186s u186q u186f u186g ua185 la185 h184 h183 ub182 lb182 ub181 lb181 h179 ub178 lb178 ub177 lb177 u176p u176b ua173 la173 fM171 hM171 ih166 u113z h111 h107 ub106 lb106 ub105 lb105 ub104 lb104 u1015 u1014 u101s hret C hp7 hp6 hp5 hp4 hp3 hp2 hp1 hp0 egp cgp ha3 ha2 ha1 hpr hM0; omega))⟩) (by exact ⟨hp6.1, hp6.2⟩)) gX4_choice_X4_lets rfl hdX4_lets (by decide) (Nat.le_of_ble_eq_true rfl) dX4_choice_118 rfl (fun r190 M191 h192 => ?_)
                  obtain ⟨a194, rfl, hM191, fM191, h193⟩ := h192
                  obtain rfl : a194 = (ltO (mdX M171 gp 0) a1 a170 (bsF a2 (8 : Int).toNat) (andI (shrI a2 a170) 1)) := by exact h193.2.2
                  have J207 : ∀ (a205 : Int) (M206 : mm_M), (0 ≤ a205 ∧ a205 ≤ 2147483647 ∧ (a205 = apO (mdX M0 gp 0) a1 a170 (bsF a2 (8 : Int).toNat) (andI (shrI a2 a170) 1)) ∧ (b01 (APX M206 gp) = 1)) → INV pr Kz M206 → FX [82, 85, 86] M0 M206 → jj p l e (cn_R 3) s m args below meth c 0 0 Q 10 dC dI ad cA A M206 140 [(0, .ref (ad 81)), (1, .int (sI a1)), (2, .int (sI a2)), (3, .int (sI a3)), (4, .int (sI a168)), (5, .int (sI a169)), (6, .int (sI (bsF a2 (8 : Int).toNat))), (7, .int (sI a170)), (8, .int (sI (((a170 * 108) + (((a1 * 9) + (bsF a2 (8 : Int).toNat)) * 2)) + (andI (shrI a2 a170) 1))))] [.int (sI a205)] := by
                    intro a205 M206 h208 hM206 fM206
                    refine j_istore C 9 [(9, .int (sI a205)), (0, .ref (ad 81)), (1, .int (sI a1)), (2, .int (sI a2)), (3, .int (sI a3)), (4, .int (sI a168)), (5, .int (sI a169)), (6, .int (sI (bsF a2 (8 : Int).toNat))), (7, .int (sI a170)), (8, .int (sI (((a170 * 108) + (((a1 * 9) + (bsF a2 (8 : Int).toNat)) * 2)) + (andI (shrI a2 a170) 1))))] dX4_choice_140 (by decide) rfl ?_
                    refine j_aload_n C 1 0 dX4_choice_142 rfl rfl ?_
                    refine y_getC C 3 82 fX4_choice_11 rfl rfl ft_3_0 sm_3_0 rfl hM206 dX4_choice_143 ?_
                    refine j_iload C 9 dX4_choice_146 rfl ?_
                    refine j_iload C 0 dX4_choice_148 rfl ?_
                    refine y_iastF C 33 864 rfl rfl rfl ak_33 an_33 rfl (sb_33 _) hM206 (PX.w hpr rfl rfl) dX4_choice_150 (by (clear fM206 hM206 h208 h193 fM191 hM191 u189l h187 J214 u186s u186q u186f u186g ua185 la185 ub182 lb182 ub181 lb181 h179 ub178 lb178 ub177 lb177 u176p u176b h175 ua173 la173 ea173 fM171 hM171 h172 ih166 u113z h111 h107 ub106 lb106 ub105 lb105 ub104 lb104 ua102 la102 u1015 u1014 u101s hret C hp7 hp6 hp5 hp4 hp3 hp2 hp1 hp0 egp cgp ha3 ha2 ha1 hpr hM0; omega)) (fun M210 eM210 hM210 => ?_)
                    have u211f := ltO_f ((FX.rf.tr fM206 (by decide)) : FX [82, 85, 86] M0 M206) (by decide) cgp a1 a170 (bsF a2 (8 : Int).toNat) (andI (shrI a2 a170) 1)
                    have u211w := ap_set (p := gp) (k := a170) (b := a1) (o := bsF a2 (8 : Int).toNat) (w := andI (shrI a2 a170) 1) (x := (((a170 * 108) + (((a1 * 9) + (bsF a2 (8 : Int).toNat)) * 2)) + (andI (shrI a2 a170) 1))) (v := a205) eM210 cgp (by exact h208.2.2.2) (by exact ⟨⟨h172.2.2.2.2.1, (by (clear u211f hM210 eM210 fM206 hM206 h208 h193 fM191 hM191 u189l h187 J214 u186s u186q u186f u186g ua185 la185 h184 h183 ub181 lb181 h179 ub178 lb178 ub177 lb177 u176p u176b ua173 la173 fM171 hM171 ih166 u113z h107 ub106 lb106 ub105 lb105 ub104 lb104 u1015 u1014 u101s hret C hp7 hp6 hp4 hp3 hp2 hp1 hp0 egp cgp ha3 ha2 hpr hM0; omega))⟩, ⟨⟨hp5.1, (by (clear u211f hM210 eM210 fM206 hM206 h208 h193 fM191 hM191 u189l h187 J214 u186s u186q u186f u186g ua185 la185 h184 h183 ub181 lb181 h179 ub178 lb178 ub177 lb177 u176p u176b ua173 la173 fM171 hM171 ih166 u113z h107 ub106 lb106 ub105 lb105 ub104 lb104 u1015 u1014 u101s hret C hp7 hp6 hp4 hp3 hp2 hp1 hp0 egp cgp ha3 ha2 hpr hM0; omega))⟩, ⟨⟨h111.1, h111.2.1⟩, ⟨lb182, ub182⟩⟩⟩⟩) (by (clear u211f hM210 eM210 fM206 hM206 h208 h193 fM191 hM191 u189l h187 J214 u186s u186q u186f u186g ua185 la185 h184 h183 ub182 lb182 ub181 lb181 h179 ub178 lb178 ub177 lb177 u176p u176b h175 ua173 la173 ea173 fM171 hM171 h172 ih166 u113z h111 h107 ub106 lb106 ub105 lb105 ub104 lb104 ua102 la102 u1015 u1014 u101s hret C hp7 hp6 hp5 hp4 hp3 hp2 hp1 hp0 egp cgp ha3 ha2 ha1 hpr hM0; omega)) (by exact ⟨⟨(by (clear hM210 eM210 fM206 hM206 h193 fM191 hM191 u189l h187 J214 u186s u186q u186f u186g ua185 la185 h184 h183 ub182 lb182 ub181 lb181 h179 ub178 lb178 ub177 lb177 u176p u176b h175 ua173 la173 ea173 fM171 hM171 h172 ih166 u113z h111 h107 ub106 lb106 ub105 lb105 ub104 lb104 ua102 la102 u1015 u1014 u101s hret C hp7 hp6 hp5 hp4 hp3 hp2 hp1 hp0 egp cgp ha3 ha2 ha1 hpr hM0; omega)), h208.2.1⟩, (by (clear hM210 eM210 fM206 hM206 h193 fM191 hM191 u189l h187 J214 u186s u186q u186f u186g ua185 la185 h184 h183 ub182 lb182 ub181 lb181 h179 ub178 lb178 ub177 lb177 u176p u176b h175 ua173 la173 ea173 fM171 hM171 h172 ih166 u113z h111 h107 ub106 lb106 ub105 lb105 ub104 lb104 ua102 la102 u1015 u1014 u101s hret C hp7 hp6 hp5 hp4 hp3 hp2 hp1 hp0 egp cgp ha3 ha2 ha1 hpr hM0; omega))⟩)
                    refine j_lv [1, 2, 3, 4, 5, 6, 7, 8, 0] rfl ?_; exact J214 a205 M210 (by exact ⟨(by (clear hM210 eM210 fM206 hM206 h193 fM191 hM191 u189l h187 J214 u186s u186q u186f u186g ua185 la185 h184 h183 ub182 lb182 ub181 lb181 h179 ub178 lb178 ub177 lb177 u176p u176b h175 ua173 la173 ea173 fM171 hM171 h172 ih166 u113z h111 h107 ub106 lb106 ub105 lb105 ub104 lb104 ua102 la102 u1015 u1014 u101s hret C hp7 hp6 hp5 hp4 hp3 hp2 hp1 hp0 egp cgp ha3 ha2 ha1 hpr hM0; omega)), ⟨h208.2.1, ⟨h208.2.2.1, u211w⟩⟩⟩) hM210 ((FX.rf.tr fM206 (by decide)).wI eM210 (by decide))
                  refine y_if_eq C 139 dX4_choice_121 (by decide) (by (clear J207 fM191 hM191 u189l h187 J214 u186s u186q u186g ua185 la185 h184 h183 ub182 lb182 ub181 lb181 h179 ub178 lb178 ub177 lb177 u176p u176b h175 ua173 la173 ea173 fM171 hM171 h172 ih166 u113z h111 h107 ub106 lb106 ub105 lb105 ub104 lb104 ua102 la102 u1015 u1014 u101s hret C hp7 hp6 hp5 hp4 hp3 hp2 hp1 hp0 egp cgp ha3 ha2 ha1 hpr hM0; omega)) (fun h195 => ?_) (fun h195 => ?_)
                  · refine y_iconst C dX4_choice_139 ?_
                    have u196a := ap_fr (M := M171) ((FX.rf.tr fM191 (by decide)) : FX [85, 86] M171 M191) (by decide) cgp (by exact h172.2.2.2.2.2.2.2.2.1)
                    refine j_lv [2, 3, 4, 5, 6, 7, 8, 9, 1] rfl ?_; exact J207 0 M191 (by exact ⟨(by decide), ⟨(by decide), ⟨(by (clear J207 h193 fM191 hM191 u189l h187 J214 u186q u186g ua185 la185 h184 h183 ub182 lb182 ub181 lb181 h179 ub178 lb178 ub177 lb177 u176p u176b h175 ua173 la173 ea173 fM171 hM171 h172 ih166 u113z h111 h107 ub106 lb106 ub105 lb105 ub104 lb104 ua102 la102 u1015 u1014 u101s hret C hp7 hp6 hp5 hp4 hp3 hp2 hp1 hp0 egp cgp ha3 ha2 ha1 hpr hM0; omega)), u196a⟩⟩⟩) hM191 ((FX.rf.tr fM171 (by decide)).tr fM191 (by decide))
                  · refine y_iconst C dX4_choice_124 ?_
                    refine j_aload_n C 2 0 dX4_choice_125 rfl rfl ?_
                    refine j_iload_n C 3 1 dX4_choice_126 rfl rfl ?_
                    refine j_iload C 9 dX4_choice_127 rfl ?_
                    refine j_iload_n C 4 2 dX4_choice_129 rfl rfl ?_
                    have u197l := lwx_fr (i := 7) (j := 8) (((FX.rf.tr fM171 (by decide)).tr fM191 (by decide)) : FX [82, 85, 86] M0 M191) (by decide) cgp (by exact hp1)
                    have u197f := ltO_f (((FX.rf.tr fM171 (by decide)).tr fM191 (by decide)) : FX [82, 85, 86] M0 M191) (by decide) cgp a1 a170 (bsF a2 (8 : Int).toNat) (andI (shrI a2 a170) 1)
                    refine j_callVi C (d := 2) (As := [.int (sI a1), .int (sI a170), .int (sI a2)]) (st := [.int (sI 0)]) 81 (s_lt rfl rfl) (s_kc (c := 3) rfl rfl) (by decide) rfl (s2_X4_wish hM191 hpr a1 (by exact ⟨ha1.1, ha1.2⟩) a170 (by (clear u197f u197l h195 J207 h193 fM191 hM191 u189l h187 J214 u186s u186q u186f u186g ua185 la185 h184 h183 ub182 lb182 ub181 lb181 h179 ub178 lb178 ub177 lb177 u176p u176b h175 ua173 la173 ea173 fM171 hM171 ih166 u113z h111 h107 ub106 lb106 ub105 lb105 ub104 lb104 ua102 la102 u1015 u1014 u101s hret C hp7 hp6 hp5 hp4 hp3 hp2 hp1 hp0 egp cgp ha3 ha2 ha1 hpr hM0; omega)) a2 (by exact ⟨ha2.1, ha2.2⟩) gp cgp (s_pX fM191 (s_pX fM171 (egp))) (by exact u197l) (by exact ⟨hp5.1, hp5.2⟩) (by exact ⟨h172.2.2.2.2.1, (by (clear u197f u197l h195 J207 h193 fM191 hM191 u189l h187 J214 u186s u186q u186f u186g ua185 la185 h184 h183 ub182 lb182 ub181 lb181 h179 ub178 lb178 ub177 lb177 u176p u176b ua173 la173 fM171 hM171 ih166 u113z h111 h107 ub106 lb106 ub105 lb105 ub104 lb104 u1015 u1014 u101s hret C hp7 hp6 hp5 hp4 hp3 hp2 hp1 hp0 egp cgp ha3 ha2 ha1 hpr hM0; omega))⟩) (by exact ⟨hp6.1, hp6.2⟩)) gX4_choice_X4_wish rfl hdX4_wish (by decide) (Nat.le_of_ble_eq_true rfl) dX4_choice_130 rfl (fun r198 M199 h200 => ?_)
                    obtain ⟨a202, rfl, hM199, fM199, h201⟩ := h200
                    obtain rfl : a202 = (wtO (mdX M191 gp 0) a1 a170 (bsF a2 (8 : Int).toNat) (andI (shrI a2 a170) 1)) := by exact h201.2.2
                    refine y_mmax C wX4_choice_62_0 wX4_choice_62_1 wX4_choice_62_2 wX4_choice_62_3 (by decide) (Nat.le_of_ble_eq_true rfl) dX4_choice_133 (by exact ⟨⟨(by decide), (by decide)⟩, ⟨h201.1, h201.2.1⟩⟩) (fun a203 ha203 => ?_)
                    refine j_goto C 140 dX4_choice_136 (by decide) ?_
                    have u204a := ap_fr (M := M171) (((FX.rf.tr fM191 (by decide)).tr fM199 (by decide)) : FX [85, 86] M171 M199) (by decide) cgp (by exact h172.2.2.2.2.2.2.2.2.1)
                    refine j_lv [2, 3, 4, 5, 6, 7, 8, 9, 1] rfl ?_; exact J207 a203 M199 (by exact ⟨(by (clear fM199 hM199 u197l J207 fM191 hM191 u189l h187 J214 u186q u186g ua185 la185 h184 h183 ub182 lb182 ub181 lb181 h179 ub178 lb178 ub177 lb177 u176p u176b h175 ua173 la173 ea173 fM171 hM171 h172 ih166 u113z h111 h107 ub106 lb106 ub105 lb105 ub104 lb104 ua102 la102 u1015 u1014 u101s hret C hp7 hp6 hp5 hp4 hp3 hp2 hp1 hp0 egp cgp ha3 ha2 ha1 hpr hM0; omega)), ⟨(by (clear fM199 hM199 u197l J207 fM191 hM191 u189l h187 J214 u186q u186g ua185 la185 h184 h183 ub182 lb182 ub181 lb181 h179 ub178 lb178 ub177 lb177 u176p u176b h175 ua173 la173 ea173 fM171 hM171 h172 ih166 u113z h111 h107 ub106 lb106 ub105 lb105 ub104 lb104 ua102 la102 u1015 u1014 u101s hret C hp7 hp6 hp5 hp4 hp3 hp2 hp1 hp0 egp cgp ha3 ha2 ha1 hpr hM0; omega)), ⟨(by (clear fM199 hM199 u197l J207 fM191 hM191 u189l h187 J214 u186q u186g ua185 la185 h184 h183 ub182 lb182 ub181 lb181 h179 ub178 lb178 ub177 lb177 u176p u176b h175 ua173 la173 ea173 fM171 hM171 h172 ih166 u113z h111 h107 ub106 lb106 ub105 lb105 ub104 lb104 ua102 la102 u1015 u1014 u101s hret C hp7 hp6 hp5 hp4 hp3 hp2 hp1 hp0 egp cgp ha3 ha2 ha1 hpr hM0; omega)), u204a⟩⟩⟩) hM199 (((FX.rf.tr fM171 (by decide)).tr fM191 (by decide)).tr fM199 (by decide))
    refine j_lv [4, 5, 6, 7, 3, 2, 1, 0] rfl ?_; exact L167 4294967304 (-1) 0 0 M0 (by exact ⟨(by decide), ⟨(by decide), ⟨(by decide), ⟨(by decide), ⟨(by decide), ⟨(by decide), ⟨u113z.1.symm, ⟨u113z.2.symm, ⟨hp2, ⟨la102, (by decide)⟩⟩⟩⟩⟩⟩⟩⟩⟩⟩) hM0 FX.rf
  · refine j_iload C 1 dX4_choice_25 rfl ?_
    have u221b := bo_sh (f := (mdX M0 gp (sI a3))) (b := a1) (s := a2) (by (clear ub106 lb106 ub105 lb105 ub104 lb104 ua102 la102 u1015 u1014 hret C hp7 hp6 hp5 hp4 hp3 hp2 hp1 hp0 egp cgp ha3 ha2 ha1 hpr hM0; omega))
    exact hret _ _ _ _ dX4_choice_27 ⟨(-1), rfl, hM0, FX.rf, by exact ⟨(by decide), ⟨(by decide), ⟨u221b.symm, hp2⟩⟩⟩⟩
set_option maxHeartbeats 4000000 in
theorem s2_X4_tune {l : Launch} {dC : Nat → ClassId} {dI : Nat → Nat → Nat} {ad : Nat → Nat} {cA : Nat → ClassId} {pr : Nat → Nat → Bool} {Kz : mm_M} {M0 : mm_M} (hM0 : INV pr Kz M0) (hpr : PX pr) {v1 : Nat} (cv1 : s_c v1 = 6) {v2 : Nat} (cv2 : s_c v2 = 8) (hp0 : b01 (APX M0 v1) = 1) : Cv l 0 yX4_tune wsX4_tune dC dI ad cA [.ref (ad 81), .ref (ad v1), .ref (ad v2)] M0 (fun M' => INV pr Kz M' ∧ FX [81, 82, 83, 84] M0 M' ∧ (M'.2.2 81 5 = v1) ∧ ((M'.1 81 6).toInt = (M0.1 v2 0).toInt) ∧ (b01 (APX M' v1) = 1) ∧ (b01 (TUP M' M0 v2 (M0.1 v2 0).toInt) = 1)) := by
  refine cv_of (cc := cX4_tune) (maxL := 5) (lv := [(0, .ref (ad 81)), (1, .ref (ad v1)), (2, .ref (ad v2))]) (by decide) rfl (Nat.le_of_ble_eq_true rfl) rfl ?_
  intro p e s m args below meth c A Q C hret
  refine j_aload_n C 0 0 dX4_tune_0 rfl rfl ?_
  refine j_aload_n C 1 1 dX4_tune_1 rfl rfl ?_
  refine y_putP C 3 6 qX4_tune_33 rfl rfl rfl rfl ft_3_5 sm_3_5 (by decide) hM0 (PX.w hpr rfl rfl) cv1 dX4_tune_2 (fun M101 eM101 hM101 => ?_)
  refine j_aload_n C 0 0 dX4_tune_5 rfl rfl ?_
  refine j_aload_n C 2 2 dX4_tune_6 rfl rfl ?_
  refine y_getI C 8 _ _ fX4_tune_43 cv2 rfl ft_8_0 sb_8_0 hM101 dX4_tune_7 (fun a102 ea102 la102 ua102 => ?_)
  obtain rfl : a102 = (M0.1 v2 0).toInt := s_fP eM101 (ea102)
  refine y_putI C 3 _ _ qX4_tune_29 rfl rfl ft_3_6 sb_3_6 hM101 (PX.w hpr rfl rfl) dX4_tune_10 (by exact ⟨⟨(by (clear hM101 eM101 hret C hp0 cv2 cv1 hpr hM0; omega)), (by (clear hM101 eM101 hret C hp0 cv2 cv1 hpr hM0; omega))⟩, ⟨la102, ua102⟩⟩) (fun M104 eM104 hM104 => ?_)
  refine y_iconst C dX4_tune_13 ?_
  refine j_istore_n C 3 [(3, .int (sI 0)), (0, .ref (ad 81)), (1, .ref (ad v1)), (2, .ref (ad v2))] dX4_tune_14 rfl (by decide) rfl ?_
  have u105r := s_pI eM104 (s_pW eM101)
  have u105a := apx_P eM101 (p := v1) (by exact hp0)
  have u105b := apx_k eM104 cv1 (hM101.rd (i := v1) (c := 6) (k := 7) cv1 sb_6_7).1 (hM101.rd (i := v1) (c := 6) (k := 9) cv1 sb_6_9).1 (by exact u105a)
  have u105t := tup_0 M104 M0 v2
  have L175 : ∀ (n173 : Nat), ∀ (a176 : Int) (M177 : mm_M), (0 ≤ a176 ∧ a176 ≤ 8 ∧ (M177.2.2 81 5 = v1) ∧ ((M177.1 81 6).toInt = (M0.1 v2 0).toInt) ∧ (b01 (TUP M177 M0 v2 a176) = 1) ∧ (b01 (APX M177 v1) = 1) ∧ (a176 ≤ (M0.1 v2 0).toInt) ∧ (8 - a176) < (n173 : Int)) → INV pr Kz M177 → FX [81, 82, 83, 84] M0 M177 → jj p l e (cn_R 0) s m args below meth c 0 0 Q 5 dC dI ad cA A M177 15 [(0, .ref (ad 81)), (2, .ref (ad v2)), (3, .int (sI a176))] [] := by
    intro n173
    induction n173 with
    | zero =>
      intro a176 M177 h178 hM177 fM177
      exfalso; omega
    | succ n173 ih174 =>
      intro a176 M177 h178 hM177 fM177
      refine j_iload_n C 2 3 dX4_tune_15 rfl rfl ?_
      refine j_aload_n C 0 0 dX4_tune_16 rfl rfl ?_
      refine y_getI C 3 _ _ fX4_tune_29 rfl rfl ft_3_6 sb_3_6 hM177 dX4_tune_17 (fun a180 ea180 la180 ua180 => ?_)
      obtain rfl : a180 = (M177.1 81 6).toInt := ea180
      refine y_icmp_ge C 124 dX4_tune_20 (by decide) (by (clear ua180 la180 fM177 hM177 ih174 u105t u105b u105a u105r hM104 eM104 hM101 eM101 hret C hp0 cv2 cv1 hpr hM0; omega)) (fun h182 => ?_) (fun h182 => ?_)
      · have u244t := tup_q (M := M177) (B := M0) (v := v2) (n := a176) (n' := (M0.1 v2 0).toInt) (by exact h178.2.2.2.2.1) (by (clear ua180 la180 fM177 hM177 ih174 u105t u105b u105a u105r hM104 eM104 ua102 la102 hM101 eM101 hret C hp0 cv2 cv1 hpr hM0; omega))
        exact hret _ _ _ dX4_tune_124 ⟨hM177, (FX.rf.tr fM177 (by decide)), by exact ⟨h178.2.2.1, ⟨h178.2.2.2.1, ⟨h178.2.2.2.2.2.1, u244t⟩⟩⟩⟩
      · refine j_aload_n C 0 0 dX4_tune_23 rfl rfl ?_
        refine y_getC C 3 83 fX4_tune_15 rfl rfl ft_3_1 sm_3_1 rfl hM177 dX4_tune_24 ?_
        refine j_iload_n C 2 3 dX4_tune_27 rfl rfl ?_
        refine y_iald C 34 8 _ _ rfl rfl rfl ak_34 an_34 rfl (sb_34 _) hM177 dX4_tune_28 (by exact ⟨h178.1, (by (clear ua180 la180 fM177 hM177 ih174 u105t u105b u105a u105r hM104 eM104 hM101 eM101 hret C hp0 cv2 cv1 hpr hM0; omega))⟩) (fun a183 ea183 la183 ua183 => ?_)
        obtain rfl : a183 = (M177.1 83 (a176).toNat).toInt := ea183
        refine j_aload_n C 1 2 dX4_tune_29 rfl rfl ?_
        refine y_getTE C 8 25 fX4_tune_46 cv2 rfl ft_8_1 rfl sm_8_1 st_8_1 (by decide) hM177 dX4_tune_30 (fun cv184 => ?_)
        refine j_iload_n C 2 3 dX4_tune_33 rfl rfl ?_
        refine y_iald C 25 8 _ _ cv184 rfl rfl ak_25 an_25 rfl (sb_25 _) hM177 dX4_tune_34 (by exact ⟨h178.1, (by omega)⟩) (fun a185 ea185 la185 ua185 => ?_)
        obtain rfl : a185 = (M0.1 (s_p0 v2 1) (a176).toNat).toInt := s_fX fM177 (s_nin cv184 (by decide)) (ea185)
        refine y_icmp_ne C 53 dX4_tune_35 (by decide) (by exact ⟨⟨la183, ua183⟩, ⟨la185, ua185⟩⟩) (fun h186 => ?_) (fun h186 => ?_)
        · refine j_aload_n C 0 0 dX4_tune_53 rfl rfl ?_
          refine y_getC C 3 83 fX4_tune_15 rfl rfl ft_3_1 sm_3_1 rfl hM177 dX4_tune_54 ?_
          refine j_iload_n C 2 3 dX4_tune_57 rfl rfl ?_
          refine j_aload_n C 1 2 dX4_tune_58 rfl rfl ?_
          refine y_getTE C 8 25 fX4_tune_46 cv2 rfl ft_8_1 rfl sm_8_1 st_8_1 (by decide) hM177 dX4_tune_59 (fun cv187 => ?_)
          refine j_iload_n C 2 3 dX4_tune_62 rfl rfl ?_
          refine y_iald C 25 8 _ _ cv187 rfl rfl ak_25 an_25 rfl (sb_25 _) hM177 dX4_tune_63 (by exact ⟨h178.1, (by omega)⟩) (fun a188 ea188 la188 ua188 => ?_)
          obtain rfl : a188 = (M0.1 (s_p0 v2 1) (a176).toNat).toInt := s_fX fM177 (s_nin cv187 (by decide)) (ea188)
          refine y_iastF C 34 8 rfl rfl rfl ak_34 an_34 rfl (sb_34 _) hM177 (PX.w hpr rfl rfl) dX4_tune_64 (by exact ⟨h178.1, (by omega)⟩) (fun M189 eM189 hM189 => ?_)
          refine j_aload_n C 0 0 dX4_tune_65 rfl rfl ?_
          refine y_getC C 3 84 fX4_tune_18 rfl rfl ft_3_2 sm_3_2 rfl hM189 dX4_tune_66 ?_
          refine j_iload_n C 2 3 dX4_tune_69 rfl rfl ?_
          refine j_aload_n C 1 2 dX4_tune_70 rfl rfl ?_
          refine y_getTE C 8 26 fX4_tune_47 cv2 rfl ft_8_2 rfl sm_8_2 st_8_2 (by decide) hM189 dX4_tune_71 (fun cv190 => ?_)
          refine j_iload_n C 2 3 dX4_tune_74 rfl rfl ?_
          refine y_iald C 26 8 _ _ cv190 rfl rfl ak_26 an_26 rfl (sb_26 _) hM189 dX4_tune_75 (by exact ⟨h178.1, (by omega)⟩) (fun a191 ea191 la191 ua191 => ?_)
          obtain rfl : a191 = (M0.1 (s_p0 v2 2) (a176).toNat).toInt := s_fX fM177 (s_nin cv190 (by decide)) (s_fa eM189 (s_ne (c := 26) (d := 34) cv190 rfl (by decide)) (ea191))
          refine y_iastF C 35 8 rfl rfl rfl ak_35 an_35 rfl (sb_35 _) hM189 (PX.w hpr rfl rfl) dX4_tune_76 (by exact ⟨h178.1, (by (clear ua191 la191 ea191 cv190 hM189 eM189 ua188 la188 ea188 cv187 h186 ua185 la185 ea185 cv184 ua183 la183 ua180 la180 fM177 hM177 ih174 u105t u105b u105a u105r hM104 eM104 hM101 eM101 hret C hp0 cv2 cv1 hpr hM0; omega))⟩) (fun M192 eM192 hM192 => ?_)
          refine j_iload_n C 2 3 dX4_tune_77 rfl rfl ?_
          refine y_bipush C dX4_tune_78 rfl ?_
          refine y_imul C dX4_tune_80 ?_
          refine j_istore C 4 [(4, .int (sI (a176 * 108))), (0, .ref (ad 81)), (2, .ref (ad v2)), (3, .int (sI a176))] dX4_tune_81 (by decide) rfl ?_
          have u193r := s_pI eM192 (s_pI eM189 ((show v1 = M177.2.2 81 5 by exact h178.2.2.1.symm)))
          have u193z := apz_0 (M := M177) (M1 := M189) (M2 := M192) (p := v1) (k := a176) (x := (a176 * 108)) (by exact h178.2.2.2.2.2.1) cv1 eM189 eM192 (by exact ⟨h178.1, (by (clear u193r hM192 eM192 ua191 la191 ea191 cv190 hM189 eM189 ua188 la188 ea188 cv187 h186 ua185 la185 ea185 cv184 ua183 la183 ua180 la180 fM177 hM177 ih174 u105t u105b u105a u105r hM104 eM104 hM101 eM101 hret C hp0 cv2 cv1 hpr hM0; omega))⟩) (by (clear u193r hM192 eM192 ua191 la191 ea191 cv190 hM189 eM189 ua188 la188 ea188 cv187 h186 ua185 la185 ea185 cv184 ua183 la183 h182 ua180 la180 fM177 hM177 h178 ih174 u105t u105b u105a u105r hM104 eM104 ua102 la102 ea102 hM101 eM101 hret C hp0 cv2 cv1 hpr hM0; omega)) (hM177.rd (i := v1) (c := 6) (k := 7) cv1 sb_6_7).1 (hM177.rd (i := v1) (c := 6) (k := 9) cv1 sb_6_9).1
          have u193a := tup_w (x := a176) (n := a176) (B := M0) (v := v2) (by exact h178.2.2.2.2.1) eM189 (Or.inr (by exact ⟨h178.1, (by omega)⟩))
          have u193b := tup_w (x := a176) (n := a176) (B := M0) (v := v2) (by exact u193a) eM192 (Or.inr (by exact ⟨h178.1, (by omega)⟩))
          have u193p := (s_fa eM192 (by decide) rfl : (M192.1 83 (a176).toNat).toInt = (M189.1 83 (a176).toNat).toInt)
          have u193q := s_wr eM189 (by exact ⟨la185, ua185⟩)
          have u193g := s_wr eM192 (by exact ⟨la191, ua191⟩)
          have L203 : ∀ (n201 : Nat), ∀ (a204 : Int) (M205 : mm_M), (0 ≤ a204 ∧ a204 ≤ 864 ∧ (M205.2.2 81 5 = v1) ∧ ((M205.1 81 6).toInt = (M0.1 v2 0).toInt) ∧ (b01 (TUP M205 M0 v2 a176) = 1) ∧ (b01 (APZ M205 v1 a176 a204) = 1) ∧ ((M205.1 83 (a176).toNat).toInt = (M0.1 (s_p0 v2 1) (a176).toNat).toInt) ∧ ((M205.1 84 (a176).toNat).toInt = (M0.1 (s_p0 v2 2) (a176).toNat).toInt) ∧ (a176 * 108 ≤ a204) ∧ (a204 ≤ (a176 + 1) * 108) ∧ (864 - a204) < (n201 : Int)) → INV pr Kz M205 → FX [81, 82, 83, 84] M0 M205 → jj p l e (cn_R 0) s m args below meth c 0 0 Q 5 dC dI ad cA A M205 83 [(0, .ref (ad 81)), (2, .ref (ad v2)), (3, .int (sI a176)), (4, .int (sI a204))] [] := by
            intro n201
            induction n201 with
            | zero =>
              intro a204 M205 h206 hM205 fM205
              exfalso; (clear fM205 hM205 u193g u193q u193p u193b u193a u193z u193r hM192 eM192 ua191 la191 ea191 cv190 hM189 eM189 ua188 la188 ea188 cv187 h186 ua185 la185 ea185 cv184 ua183 la183 h182 ua180 la180 fM177 hM177 h178 ih174 u105t u105b u105a u105r hM104 eM104 ua102 la102 ea102 hM101 eM101 hret C hp0 cv2 cv1 hpr hM0; omega)
            | succ n201 ih202 =>
              intro a204 M205 h206 hM205 fM205
              refine j_iload C 3 dX4_tune_83 rfl ?_
              refine j_iload_n C 2 3 dX4_tune_85 rfl rfl ?_
              refine y_iconst C dX4_tune_86 ?_
              refine y_iadd C dX4_tune_87 ?_
              refine y_bipush C dX4_tune_88 rfl ?_
              refine y_imul C dX4_tune_90 ?_
              refine y_icmp_ge C 118 dX4_tune_91 (by decide) (by (clear fM205 hM205 ih202 u193g u193q u193p u193b u193a u193z u193r hM192 eM192 ua191 la191 ea191 cv190 hM189 eM189 ua188 la188 ea188 cv187 h186 ua185 la185 ea185 cv184 ua183 la183 h182 ua180 la180 fM177 hM177 ih174 u105t u105b u105a u105r hM104 eM104 ua102 la102 ea102 hM101 eM101 hret C hp0 cv2 cv1 hpr hM0; omega)) (fun h208 => ?_) (fun h208 => ?_)
              · refine y_iinc C 2 [(3, .int (sI (a176 + 1))), (0, .ref (ad 81)), (2, .ref (ad v2)), (4, .int (sI a204))] dX4_tune_118 rfl (by decide) rfl ?_
                refine j_goto C 15 dX4_tune_121 (by decide) ?_
                have u212r := (show v1 = M205.2.2 81 5 by exact h206.2.2.1.symm)
                have u212e := apz_e (M := M205) (p := v1) (k := a176) (x := a204) (by exact h206.2.2.2.2.2.1) (by exact ⟨⟨h178.1, (by (clear u212r fM205 hM205 ih202 u193g u193q u193p u193b u193a u193z u193r hM192 eM192 ua191 la191 ea191 cv190 hM189 eM189 ua188 la188 ea188 cv187 h186 ua185 la185 ea185 cv184 ua183 la183 h182 ua180 la180 fM177 hM177 ih174 u105t u105b u105a u105r hM104 eM104 ua102 la102 ea102 hM101 eM101 hret C hp0 cv2 cv1 hpr hM0; omega))⟩, h208⟩)
                have u212t := tup_s (M := M205) (B := M0) (v := v2) (n := a176) (n' := (a176 + 1)) (by exact h206.2.2.2.2.1) (by exact h206.2.2.2.2.2.2.1) (by exact h206.2.2.2.2.2.2.2.1) (by (clear u212e u212r h208 fM205 hM205 h206 ih202 u193g u193q u193p u193b u193a u193z u193r hM192 eM192 ua191 la191 ea191 cv190 hM189 eM189 ua188 la188 ea188 cv187 h186 ua185 la185 ea185 cv184 ua183 la183 h182 ua180 la180 fM177 hM177 h178 ih174 u105t u105b u105a u105r hM104 eM104 ua102 la102 ea102 hM101 eM101 hret C hp0 cv2 cv1 hpr hM0; omega))
                refine j_lv [1, 2, 0] rfl ?_; exact ih174 (a176 + 1) M205 (by exact ⟨(by (clear u212r fM205 hM205 ih202 u193g u193q u193p u193b u193a u193z hM192 eM192 ua191 la191 ea191 cv190 hM189 eM189 ua188 la188 ea188 cv187 h186 ua185 la185 ea185 cv184 ua183 la183 ua180 la180 fM177 hM177 ih174 u105t u105b u105a hM104 eM104 ua102 la102 hM101 eM101 hret C hp0 cv2 cv1 hpr hM0; omega)), ⟨(by (clear u212r fM205 hM205 ih202 u193g u193q u193p u193b u193a u193z hM192 eM192 ua191 la191 ea191 cv190 hM189 eM189 ua188 la188 ea188 cv187 h186 ua185 la185 ea185 cv184 ua183 la183 ua180 la180 fM177 hM177 ih174 u105t u105b u105a hM104 eM104 ua102 la102 hM101 eM101 hret C hp0 cv2 cv1 hpr hM0; omega)), ⟨h206.2.2.1, ⟨h206.2.2.2.1, ⟨u212t, ⟨u212e, ⟨(by (clear u212r fM205 hM205 ih202 u193g u193q u193p u193b u193a u193z hM192 eM192 ua191 la191 ea191 cv190 hM189 eM189 ua188 la188 ea188 cv187 h186 ua185 la185 ea185 cv184 ua183 la183 ua180 la180 fM177 hM177 ih174 u105t u105b u105a hM104 eM104 ua102 la102 hM101 eM101 hret C hp0 cv2 cv1 hpr hM0; omega)), (by (clear u212r fM205 hM205 ih202 u193g u193q u193p u193b u193a u193z hM192 eM192 ua191 la191 ea191 cv190 hM189 eM189 ua188 la188 ea188 cv187 h186 ua185 la185 ea185 cv184 ua183 la183 ua180 la180 fM177 hM177 ih174 u105t u105b u105a hM104 eM104 ua102 la102 hM101 eM101 hret C hp0 cv2 cv1 hpr hM0; omega))⟩⟩⟩⟩⟩⟩⟩) hM205 (FX.rf.tr fM205 (by decide))
              · refine j_iload C 3 dX4_tune_94 rfl ?_
                refine j_aload_n C 0 0 dX4_tune_96 rfl rfl ?_
                refine y_getC C 3 82 fX4_tune_11 rfl rfl ft_3_0 sm_3_0 rfl hM205 dX4_tune_97 ?_
                refine y_alen C 33 864 rfl rfl rfl an_33 rfl rfl dX4_tune_100 ?_
                refine y_icmp_ge C 118 dX4_tune_101 (by decide) (by exact ⟨⟨(by (clear h208 fM205 hM205 ih202 u193g u193q u193p u193b u193a u193z u193r hM192 eM192 ua191 la191 ea191 cv190 hM189 eM189 ua188 la188 ea188 cv187 h186 ua185 la185 ea185 cv184 ua183 la183 h182 ua180 la180 fM177 hM177 h178 ih174 u105t u105b u105a u105r hM104 eM104 ua102 la102 ea102 hM101 eM101 hret C hp0 cv2 cv1 hpr hM0; omega)), (by (clear h208 fM205 hM205 ih202 u193g u193q u193p u193b u193a u193z u193r hM192 eM192 ua191 la191 ea191 cv190 hM189 eM189 ua188 la188 ea188 cv187 h186 ua185 la185 ea185 cv184 ua183 la183 h182 ua180 la180 fM177 hM177 h178 ih174 u105t u105b u105a u105r hM104 eM104 ua102 la102 ea102 hM101 eM101 hret C hp0 cv2 cv1 hpr hM0; omega))⟩, ⟨(by decide), (by decide)⟩⟩) (fun h209 => ?_) (fun h209 => ?_)
                · exfalso; (clear fM205 hM205 ih202 u193g u193q u193p u193b u193a u193z u193r hM192 eM192 ua191 la191 ea191 cv190 hM189 eM189 ua188 la188 ea188 cv187 h186 ua185 la185 ea185 cv184 ua183 la183 ua180 la180 fM177 hM177 ih174 u105t u105b u105a u105r hM104 eM104 hM101 eM101 hret C hp0 cv2 cv1 hpr hM0; omega)
                · refine j_aload_n C 0 0 dX4_tune_104 rfl rfl ?_
                  refine y_getC C 3 82 fX4_tune_11 rfl rfl ft_3_0 sm_3_0 rfl hM205 dX4_tune_105 ?_
                  refine j_iload C 3 dX4_tune_108 rfl ?_
                  refine y_iconst C dX4_tune_110 ?_
                  refine y_iastF C 33 864 rfl rfl rfl ak_33 an_33 rfl (sb_33 _) hM205 (PX.w hpr rfl rfl) dX4_tune_111 (by exact ⟨h206.1, (by (clear h208 fM205 hM205 ih202 u193g u193q u193p u193b u193a u193z u193r hM192 eM192 ua191 la191 ea191 cv190 hM189 eM189 ua188 la188 ea188 cv187 h186 ua185 la185 ea185 cv184 ua183 la183 h182 ua180 la180 fM177 hM177 h178 ih174 u105t u105b u105a u105r hM104 eM104 ua102 la102 ea102 hM101 eM101 hret C hp0 cv2 cv1 hpr hM0; omega))⟩) (fun M210 eM210 hM210 => ?_)
                  refine y_iinc C 3 [(4, .int (sI (a204 + 1))), (0, .ref (ad 81)), (2, .ref (ad v2)), (3, .int (sI a176))] dX4_tune_112 rfl (by decide) rfl ?_
                  refine j_goto C 83 dX4_tune_115 (by decide) ?_
                  have u211r := s_pI eM210 ((show v1 = M205.2.2 81 5 by exact h206.2.2.1.symm))
                  have u211z := apz_s (p := v1) (k := a176) (x := a204) (x' := (a204 + 1)) (by exact h206.2.2.2.2.2.1) cv1 eM210 (by exact ⟨⟨h178.1, (by (clear u211r hM210 eM210 h209 fM205 hM205 ih202 u193g u193q u193p u193b u193a u193z u193r hM192 eM192 ua191 la191 ea191 cv190 hM189 eM189 ua188 la188 ea188 cv187 h186 ua185 la185 ea185 cv184 ua183 la183 ua180 la180 fM177 hM177 ih174 u105t u105b u105a u105r hM104 eM104 hM101 eM101 hret C hp0 cv2 cv1 hpr hM0; omega))⟩, ⟨h206.2.2.2.2.2.2.2.2.1, (by (clear u211r hM210 eM210 h209 fM205 hM205 ih202 u193g u193q u193p u193b u193a u193z u193r hM192 eM192 ua191 la191 ea191 cv190 hM189 eM189 ua188 la188 ea188 cv187 h186 ua185 la185 ea185 cv184 ua183 la183 ua180 la180 fM177 hM177 ih174 u105t u105b u105a u105r hM104 eM104 hM101 eM101 hret C hp0 cv2 cv1 hpr hM0; omega))⟩⟩) (by (clear u211r hM210 eM210 h209 h208 fM205 hM205 h206 ih202 u193g u193q u193p u193b u193a u193z u193r hM192 eM192 ua191 la191 ea191 cv190 hM189 eM189 ua188 la188 ea188 cv187 h186 ua185 la185 ea185 cv184 ua183 la183 h182 ua180 la180 fM177 hM177 h178 ih174 u105t u105b u105a u105r hM104 eM104 ua102 la102 ea102 hM101 eM101 hret C hp0 cv2 cv1 hpr hM0; omega)) (hM205.rd (i := v1) (c := 6) (k := 7) cv1 sb_6_7).1 (hM205.rd (i := v1) (c := 6) (k := 9) cv1 sb_6_9).1
                  have u211a := tup_w (x := a204) (n := a176) (B := M0) (v := v2) (by exact h206.2.2.2.2.1) eM210 (Or.inl rfl)
                  have u211p := (s_fa eM210 (by decide) rfl : (M210.1 83 (a176).toNat).toInt = (M205.1 83 (a176).toNat).toInt)
                  have u211g := (s_fa eM210 (by decide) rfl : (M210.1 84 (a176).toNat).toInt = (M205.1 84 (a176).toNat).toInt)
                  have zz81_6 : (M210.1 81 6).toInt = (M205.1 81 6).toInt := s_fa eM210 (by decide) (rfl); refine j_lv [1, 2, 3, 0] rfl ?_; exact ih202 (a204 + 1) M210 (by (clear hM210 eM210 fM205 hM205 ih202 u193p u193b u193a u193z hM192 eM192 ua191 la191 cv190 hM189 eM189 ua188 la188 ea188 cv187 h186 ua185 la185 cv184 ua183 la183 h182 ua180 la180 fM177 hM177 ih174 u105t u105b u105a hM104 eM104 ua102 la102 hM101 eM101 hret C hp0 cv2 cv1 hpr hM0; omega)) hM210 ((FX.rf.tr fM205 (by decide)).wI eM210 (by decide))
          have zz81_6 : (M192.1 81 6).toInt = (M177.1 81 6).toInt := s_fa eM189 (by decide) (s_fa eM192 (by decide) (rfl)); refine j_lv [1, 2, 3, 0] rfl ?_; exact L203 2010 (a176 * 108) M192 (by (clear L203 u193a hM192 eM192 ua191 la191 cv190 hM189 eM189 ua188 la188 ea188 cv187 h186 ua185 la185 cv184 ua183 la183 h182 ua180 la180 fM177 hM177 ih174 u105t u105b u105a hM104 eM104 ua102 la102 hM101 eM101 hret C hp0 cv2 cv1 hpr hM0; omega)) hM192 (((FX.rf.tr fM177 (by decide)).wI eM189 (by decide)).wI eM192 (by decide))
        · refine j_aload_n C 0 0 dX4_tune_38 rfl rfl ?_
          refine y_getC C 3 84 fX4_tune_18 rfl rfl ft_3_2 sm_3_2 rfl hM177 dX4_tune_39 ?_
          refine j_iload_n C 2 3 dX4_tune_42 rfl rfl ?_
          refine y_iald C 35 8 _ _ rfl rfl rfl ak_35 an_35 rfl (sb_35 _) hM177 dX4_tune_43 (by exact ⟨h178.1, (by omega)⟩) (fun a213 ea213 la213 ua213 => ?_)
          obtain rfl : a213 = (M177.1 84 (a176).toNat).toInt := ea213
          refine j_aload_n C 1 2 dX4_tune_44 rfl rfl ?_
          refine y_getTE C 8 26 fX4_tune_47 cv2 rfl ft_8_2 rfl sm_8_2 st_8_2 (by decide) hM177 dX4_tune_45 (fun cv214 => ?_)
          refine j_iload_n C 2 3 dX4_tune_48 rfl rfl ?_
          refine y_iald C 26 8 _ _ cv214 rfl rfl ak_26 an_26 rfl (sb_26 _) hM177 dX4_tune_49 (by exact ⟨h178.1, (by omega)⟩) (fun a215 ea215 la215 ua215 => ?_)
          obtain rfl : a215 = (M0.1 (s_p0 v2 2) (a176).toNat).toInt := s_fX fM177 (s_nin cv214 (by decide)) (ea215)
          refine y_icmp_eq C 118 dX4_tune_50 (by decide) (by exact ⟨⟨la213, ua213⟩, ⟨la215, ua215⟩⟩) (fun h216 => ?_) (fun h216 => ?_)
          · refine y_iinc C 2 [(3, .int (sI (a176 + 1))), (0, .ref (ad 81)), (2, .ref (ad v2))] dX4_tune_118 rfl (by decide) rfl ?_
            refine j_goto C 15 dX4_tune_121 (by decide) ?_
            have u217r := (show v1 = M177.2.2 81 5 by exact h178.2.2.1.symm)
            have u217t := tup_s (M := M177) (B := M0) (v := v2) (n := a176) (n' := (a176 + 1)) (by exact h178.2.2.2.2.1) (by exact h186) (by exact h216) (by omega)
            refine j_lv [1, 2, 0] rfl ?_; exact ih174 (a176 + 1) M177 (by exact ⟨(by (clear u217r h216 ua215 la215 ea215 cv214 ua213 la213 h186 ua185 la185 ea185 cv184 ua183 la183 ua180 la180 fM177 hM177 ih174 u105t u105b u105a hM104 eM104 hM101 eM101 hret C hp0 cv2 cv1 hpr hM0; omega)), ⟨(by (clear u217r h216 ua215 la215 ea215 cv214 ua213 la213 h186 ua185 la185 ea185 cv184 ua183 la183 ua180 la180 fM177 hM177 ih174 u105t u105b u105a hM104 eM104 hM101 eM101 hret C hp0 cv2 cv1 hpr hM0; omega)), ⟨h178.2.2.1, ⟨h178.2.2.2.1, ⟨u217t, ⟨h178.2.2.2.2.2.1, ⟨(by (clear u217r h216 ua215 la215 ea215 cv214 ua213 la213 h186 ua185 la185 ea185 cv184 ua183 la183 ua180 la180 fM177 hM177 ih174 u105t u105b u105a hM104 eM104 hM101 eM101 hret C hp0 cv2 cv1 hpr hM0; omega)), (by (clear u217r h216 ua215 la215 ea215 cv214 ua213 la213 h186 ua185 la185 ea185 cv184 ua183 la183 ua180 la180 fM177 hM177 ih174 u105t u105b u105a hM104 eM104 hM101 eM101 hret C hp0 cv2 cv1 hpr hM0; omega))⟩⟩⟩⟩⟩⟩⟩) hM177 (FX.rf.tr fM177 (by decide))
          · refine j_aload_n C 0 0 dX4_tune_53 rfl rfl ?_
            refine y_getC C 3 83 fX4_tune_15 rfl rfl ft_3_1 sm_3_1 rfl hM177 dX4_tune_54 ?_
            refine j_iload_n C 2 3 dX4_tune_57 rfl rfl ?_
            refine j_aload_n C 1 2 dX4_tune_58 rfl rfl ?_
            refine y_getTE C 8 25 fX4_tune_46 cv2 rfl ft_8_1 rfl sm_8_1 st_8_1 (by decide) hM177 dX4_tune_59 (fun cv218 => ?_)
            refine j_iload_n C 2 3 dX4_tune_62 rfl rfl ?_
            refine y_iald C 25 8 _ _ cv218 rfl rfl ak_25 an_25 rfl (sb_25 _) hM177 dX4_tune_63 (by exact ⟨h178.1, (by omega)⟩) (fun a219 ea219 la219 ua219 => ?_)
            obtain rfl : a219 = (M0.1 (s_p0 v2 1) (a176).toNat).toInt := s_fX fM177 (s_nin cv218 (by decide)) (ea219)
            refine y_iastF C 34 8 rfl rfl rfl ak_34 an_34 rfl (sb_34 _) hM177 (PX.w hpr rfl rfl) dX4_tune_64 (by exact ⟨h178.1, (by omega)⟩) (fun M220 eM220 hM220 => ?_)
            refine j_aload_n C 0 0 dX4_tune_65 rfl rfl ?_
            refine y_getC C 3 84 fX4_tune_18 rfl rfl ft_3_2 sm_3_2 rfl hM220 dX4_tune_66 ?_
            refine j_iload_n C 2 3 dX4_tune_69 rfl rfl ?_
            refine j_aload_n C 1 2 dX4_tune_70 rfl rfl ?_
            refine y_getTE C 8 26 fX4_tune_47 cv2 rfl ft_8_2 rfl sm_8_2 st_8_2 (by decide) hM220 dX4_tune_71 (fun cv221 => ?_)
            refine j_iload_n C 2 3 dX4_tune_74 rfl rfl ?_
            refine y_iald C 26 8 _ _ cv221 rfl rfl ak_26 an_26 rfl (sb_26 _) hM220 dX4_tune_75 (by exact ⟨h178.1, (by omega)⟩) (fun a222 ea222 la222 ua222 => ?_)
            obtain rfl : a222 = (M0.1 (s_p0 v2 2) (a176).toNat).toInt := s_fX fM177 (s_nin cv221 (by decide)) (s_fa eM220 (s_ne (c := 26) (d := 34) cv221 rfl (by decide)) (ea222))
            refine y_iastF C 35 8 rfl rfl rfl ak_35 an_35 rfl (sb_35 _) hM220 (PX.w hpr rfl rfl) dX4_tune_76 (by exact ⟨h178.1, (by omega)⟩) (fun M223 eM223 hM223 => ?_)
            refine j_iload_n C 2 3 dX4_tune_77 rfl rfl ?_
            refine y_bipush C dX4_tune_78 rfl ?_
            refine y_imul C dX4_tune_80 ?_
            refine j_istore C 4 [(4, .int (sI (a176 * 108))), (0, .ref (ad 81)), (2, .ref (ad v2)), (3, .int (sI a176))] dX4_tune_81 (by decide) rfl ?_
            have u224r := s_pI eM223 (s_pI eM220 ((show v1 = M177.2.2 81 5 by exact h178.2.2.1.symm)))
            have u224z := apz_0 (M := M177) (M1 := M220) (M2 := M223) (p := v1) (k := a176) (x := (a176 * 108)) (by exact h178.2.2.2.2.2.1) cv1 eM220 eM223 (by exact ⟨h178.1, (by omega)⟩) (by omega) (hM177.rd (i := v1) (c := 6) (k := 7) cv1 sb_6_7).1 (hM177.rd (i := v1) (c := 6) (k := 9) cv1 sb_6_9).1
            have u224a := tup_w (x := a176) (n := a176) (B := M0) (v := v2) (by exact h178.2.2.2.2.1) eM220 (Or.inr (by exact ⟨h178.1, (by omega)⟩))
            have u224b := tup_w (x := a176) (n := a176) (B := M0) (v := v2) (by exact u224a) eM223 (Or.inr (by exact ⟨h178.1, (by omega)⟩))
            have u224p := (s_fa eM223 (by decide) rfl : (M223.1 83 (a176).toNat).toInt = (M220.1 83 (a176).toNat).toInt)
            have u224q := s_wr eM220 (by exact ⟨la185, ua185⟩)
            have u224g := s_wr eM223 (by exact ⟨la215, ua215⟩)
            have L234 : ∀ (n232 : Nat), ∀ (a235 : Int) (M236 : mm_M), (0 ≤ a235 ∧ a235 ≤ 864 ∧ (M236.2.2 81 5 = v1) ∧ ((M236.1 81 6).toInt = (M0.1 v2 0).toInt) ∧ (b01 (TUP M236 M0 v2 a176) = 1) ∧ (b01 (APZ M236 v1 a176 a235) = 1) ∧ ((M236.1 83 (a176).toNat).toInt = (M0.1 (s_p0 v2 1) (a176).toNat).toInt) ∧ ((M236.1 84 (a176).toNat).toInt = (M0.1 (s_p0 v2 2) (a176).toNat).toInt) ∧ (a176 * 108 ≤ a235) ∧ (a235 ≤ (a176 + 1) * 108) ∧ (864 - a235) < (n232 : Int)) → INV pr Kz M236 → FX [81, 82, 83, 84] M0 M236 → jj p l e (cn_R 0) s m args below meth c 0 0 Q 5 dC dI ad cA A M236 83 [(0, .ref (ad 81)), (2, .ref (ad v2)), (3, .int (sI a176)), (4, .int (sI a235))] [] := by
              intro n232
              induction n232 with
              | zero =>
                intro a235 M236 h237 hM236 fM236
                exfalso; omega
              | succ n232 ih233 =>
                intro a235 M236 h237 hM236 fM236
                refine j_iload C 3 dX4_tune_83 rfl ?_
                refine j_iload_n C 2 3 dX4_tune_85 rfl rfl ?_
                refine y_iconst C dX4_tune_86 ?_
                refine y_iadd C dX4_tune_87 ?_
                refine y_bipush C dX4_tune_88 rfl ?_
                refine y_imul C dX4_tune_90 ?_
                refine y_icmp_ge C 118 dX4_tune_91 (by decide) (by omega) (fun h239 => ?_) (fun h239 => ?_)
                · refine y_iinc C 2 [(3, .int (sI (a176 + 1))), (0, .ref (ad 81)), (2, .ref (ad v2)), (4, .int (sI a235))] dX4_tune_118 rfl (by decide) rfl ?_
                  refine j_goto C 15 dX4_tune_121 (by decide) ?_
                  have u243r := (show v1 = M236.2.2 81 5 by exact h237.2.2.1.symm)
                  have u243e := apz_e (M := M236) (p := v1) (k := a176) (x := a235) (by exact h237.2.2.2.2.2.1) (by exact ⟨⟨h178.1, (by (clear u243r fM236 hM236 ih233 u224g u224q u224p u224b u224a u224z u224r hM223 eM223 ua222 la222 ea222 cv221 hM220 eM220 ua219 la219 ea219 cv218 h216 ua215 la215 ea215 cv214 ua213 la213 h186 ua185 la185 ea185 cv184 ua183 la183 h182 ua180 la180 fM177 hM177 ih174 u105t u105b u105a u105r hM104 eM104 ua102 la102 ea102 hM101 eM101 hret C hp0 cv2 cv1 hpr hM0; omega))⟩, h239⟩)
                  have u243t := tup_s (M := M236) (B := M0) (v := v2) (n := a176) (n' := (a176 + 1)) (by exact h237.2.2.2.2.1) (by exact h237.2.2.2.2.2.2.1) (by exact h237.2.2.2.2.2.2.2.1) (by omega)
                  refine j_lv [1, 2, 0] rfl ?_; exact ih174 (a176 + 1) M236 (by exact ⟨(by (clear u243r fM236 hM236 ih233 u224g u224q u224p u224b u224a u224z hM223 eM223 ua222 la222 ea222 cv221 hM220 eM220 ua219 la219 ea219 cv218 h216 ua215 la215 ea215 cv214 ua213 la213 h186 ua185 la185 ea185 cv184 ua183 la183 ua180 la180 fM177 hM177 ih174 u105t u105b u105a hM104 eM104 ua102 la102 hM101 eM101 hret C hp0 cv2 cv1 hpr hM0; omega)), ⟨(by (clear u243r fM236 hM236 ih233 u224g u224q u224p u224b u224a u224z hM223 eM223 ua222 la222 ea222 cv221 hM220 eM220 ua219 la219 ea219 cv218 h216 ua215 la215 ea215 cv214 ua213 la213 h186 ua185 la185 ea185 cv184 ua183 la183 ua180 la180 fM177 hM177 ih174 u105t u105b u105a hM104 eM104 ua102 la102 hM101 eM101 hret C hp0 cv2 cv1 hpr hM0; omega)), ⟨h237.2.2.1, ⟨h237.2.2.2.1, ⟨u243t, ⟨u243e, ⟨(by (clear u243r fM236 hM236 ih233 u224g u224q u224p u224b u224a u224z hM223 eM223 ua222 la222 ea222 cv221 hM220 eM220 ua219 la219 ea219 cv218 h216 ua215 la215 ea215 cv214 ua213 la213 h186 ua185 la185 ea185 cv184 ua183 la183 ua180 la180 fM177 hM177 ih174 u105t u105b u105a hM104 eM104 ua102 la102 hM101 eM101 hret C hp0 cv2 cv1 hpr hM0; omega)), (by (clear u243r fM236 hM236 ih233 u224g u224q u224p u224b u224a u224z hM223 eM223 ua222 la222 ea222 cv221 hM220 eM220 ua219 la219 ea219 cv218 h216 ua215 la215 ea215 cv214 ua213 la213 h186 ua185 la185 ea185 cv184 ua183 la183 ua180 la180 fM177 hM177 ih174 u105t u105b u105a hM104 eM104 ua102 la102 hM101 eM101 hret C hp0 cv2 cv1 hpr hM0; omega))⟩⟩⟩⟩⟩⟩⟩) hM236 (FX.rf.tr fM236 (by decide))
                · refine j_iload C 3 dX4_tune_94 rfl ?_
                  refine j_aload_n C 0 0 dX4_tune_96 rfl rfl ?_
                  refine y_getC C 3 82 fX4_tune_11 rfl rfl ft_3_0 sm_3_0 rfl hM236 dX4_tune_97 ?_
                  refine y_alen C 33 864 rfl rfl rfl an_33 rfl rfl dX4_tune_100 ?_
                  refine y_icmp_ge C 118 dX4_tune_101 (by decide) (by exact ⟨⟨(by omega), (by omega)⟩, ⟨(by decide), (by decide)⟩⟩) (fun h240 => ?_) (fun h240 => ?_)
                  · exfalso; omega
                  · refine j_aload_n C 0 0 dX4_tune_104 rfl rfl ?_
                    refine y_getC C 3 82 fX4_tune_11 rfl rfl ft_3_0 sm_3_0 rfl hM236 dX4_tune_105 ?_
                    refine j_iload C 3 dX4_tune_108 rfl ?_
                    refine y_iconst C dX4_tune_110 ?_
                    refine y_iastF C 33 864 rfl rfl rfl ak_33 an_33 rfl (sb_33 _) hM236 (PX.w hpr rfl rfl) dX4_tune_111 (by exact ⟨h237.1, (by omega)⟩) (fun M241 eM241 hM241 => ?_)
                    refine y_iinc C 3 [(4, .int (sI (a235 + 1))), (0, .ref (ad 81)), (2, .ref (ad v2)), (3, .int (sI a176))] dX4_tune_112 rfl (by decide) rfl ?_
                    refine j_goto C 83 dX4_tune_115 (by decide) ?_
                    have u242r := s_pI eM241 ((show v1 = M236.2.2 81 5 by exact h237.2.2.1.symm))
                    have u242z := apz_s (p := v1) (k := a176) (x := a235) (x' := (a235 + 1)) (by exact h237.2.2.2.2.2.1) cv1 eM241 (by exact ⟨⟨h178.1, (by (clear u242r hM241 eM241 h240 fM236 hM236 ih233 u224g u224q u224p u224b u224a u224z u224r hM223 eM223 ua222 la222 ea222 cv221 hM220 eM220 ua219 la219 ea219 cv218 h216 ua215 la215 ea215 cv214 ua213 la213 h186 ua185 la185 ea185 cv184 ua183 la183 ua180 la180 fM177 hM177 ih174 u105t u105b u105a u105r hM104 eM104 hM101 eM101 hret C hp0 cv2 cv1 hpr hM0; omega))⟩, ⟨h237.2.2.2.2.2.2.2.2.1, (by (clear u242r hM241 eM241 h240 fM236 hM236 ih233 u224g u224q u224p u224b u224a u224z u224r hM223 eM223 ua222 la222 ea222 cv221 hM220 eM220 ua219 la219 ea219 cv218 h216 ua215 la215 ea215 cv214 ua213 la213 h186 ua185 la185 ea185 cv184 ua183 la183 ua180 la180 fM177 hM177 ih174 u105t u105b u105a u105r hM104 eM104 hM101 eM101 hret C hp0 cv2 cv1 hpr hM0; omega))⟩⟩) (by omega) (hM236.rd (i := v1) (c := 6) (k := 7) cv1 sb_6_7).1 (hM236.rd (i := v1) (c := 6) (k := 9) cv1 sb_6_9).1
                    have u242a := tup_w (x := a235) (n := a176) (B := M0) (v := v2) (by exact h237.2.2.2.2.1) eM241 (Or.inl rfl)
                    have u242p := (s_fa eM241 (by decide) rfl : (M241.1 83 (a176).toNat).toInt = (M236.1 83 (a176).toNat).toInt)
                    have u242g := (s_fa eM241 (by decide) rfl : (M241.1 84 (a176).toNat).toInt = (M236.1 84 (a176).toNat).toInt)
                    have zz81_6 : (M241.1 81 6).toInt = (M236.1 81 6).toInt := s_fa eM241 (by decide) (rfl); refine j_lv [1, 2, 3, 0] rfl ?_; exact ih233 (a235 + 1) M241 (by (clear hM241 eM241 fM236 hM236 ih233 u224p u224b u224a u224z hM223 eM223 ua222 la222 cv221 hM220 eM220 ua219 la219 ea219 cv218 h216 ua215 la215 cv214 ua213 la213 h186 ua185 la185 cv184 ua183 la183 h182 ua180 la180 fM177 hM177 ih174 u105t u105b u105a hM104 eM104 ua102 la102 hM101 eM101 hret C hp0 cv2 cv1 hpr hM0; omega)) hM241 ((FX.rf.tr fM236 (by decide)).wI eM241 (by decide))
            have zz81_6 : (M223.1 81 6).toInt = (M177.1 81 6).toInt := s_fa eM220 (by decide) (s_fa eM223 (by decide) (rfl)); refine j_lv [1, 2, 3, 0] rfl ?_; exact L234 2010 (a176 * 108) M223 (by (clear L234 u224a hM223 eM223 ua222 la222 cv221 hM220 eM220 ua219 la219 ea219 cv218 h216 ua215 la215 cv214 ua213 la213 h186 ua185 la185 cv184 ua183 la183 h182 ua180 la180 fM177 hM177 ih174 u105t u105b u105a hM104 eM104 ua102 la102 hM101 eM101 hret C hp0 cv2 cv1 hpr hM0; omega)) hM223 (((FX.rf.tr fM177 (by decide)).wI eM220 (by decide)).wI eM223 (by decide))
  have zz81_6 := (Eq.trans (rfl : (M104.1 81 6).toInt = (M104.1 81 6).toInt) (s_wr eM104 (by (clear L175 u105t u105b u105a u105r hM104 eM104 hM101 eM101 hret C hp0 cv2 cv1 hpr hM0; omega)))); refine j_lv [1, 3, 0] rfl ?_; exact L175 2010 0 M104 (by exact ⟨(by decide), ⟨(by decide), ⟨u105r.symm, ⟨zz81_6, ⟨u105t, ⟨u105b, ⟨la102, (by decide)⟩⟩⟩⟩⟩⟩⟩) hM104 ((FX.rf.wP eM101 (by decide)).wI eM104 (by decide))
end
section
set_option maxHeartbeats 4000000 in
theorem s2_X9_holds {l : Launch} {dC : Nat → ClassId} {dI : Nat → Nat → Nat} {ad : Nat → Nat} {cA : Nat → ClassId} {pr : Nat → Nat → Bool} {Kz : mm_M} {M0 : mm_M} (hM0 : INV pr Kz M0) (a1 : Int) (ha1 : -2147483648 ≤ a1 ∧ a1 ≤ 2147483647) : Ci l 0 yX9_holds wsX9_holds dC dI ad cA [.ref (ad 12), .int (sI a1)] M0 (fun r M' => ∃ a : Int, r = sI a ∧ M0 = M' ∧ 0 ≤ a ∧ a ≤ 1 ∧ ((a1 < 0 ∧ a = 0) ∨ (0 ≤ (M0.1 12 0).toInt ∧ (M0.1 12 0).toInt ≤ 8 ∧ 0 ≤ a1 ∧ (M0.1 12 0).toInt ≤ a1 ∧ a = 0) ∨ (1 ≤ (M0.1 12 0).toInt ∧ (M0.1 12 0).toInt ≤ 8 ∧ 0 ≤ a1 ∧ a1 < (M0.1 12 0).toInt ∧ a = 1))) := by
  refine ci_of (cc := cX9_holds) (maxL := 2) (ty := .boolean) (lv := [(0, .ref (ad 12)), (1, .int (sI a1))]) (by decide) rfl (fun r M' hp => by obtain ⟨a, rfl, -, h⟩ := hp; rcases (show a = 0 ∨ a = 1 by omega) with rfl | rfl <;> rfl) (Nat.le_of_ble_eq_true rfl) rfl ?_
  intro p e s m args below meth c A Q C hret
  refine j_iload_n C 1 1 dX9_holds_0 rfl rfl ?_
  refine y_if_lt C 16 dX9_holds_1 (by decide) (by exact ⟨ha1.1, ha1.2⟩) (fun h101 => ?_) (fun h101 => ?_)
  · refine y_iconst C dX9_holds_16 ?_
    exact hret _ _ _ _ dX9_holds_17 ⟨0, rfl, rfl, by exact ⟨(by decide), ⟨(by decide), (by omega)⟩⟩⟩
  · refine j_iload_n C 1 1 dX9_holds_4 rfl rfl ?_
    refine j_aload_n C 0 0 dX9_holds_5 rfl rfl ?_
    refine y_getI C 8 _ _ fX9_holds_9 rfl rfl ft_8_0 sb_8_0 hM0 dX9_holds_6 (fun a102 ea102 la102 ua102 => ?_)
    obtain rfl : a102 = (M0.1 12 0).toInt := ea102
    refine y_icmp_ge C 16 dX9_holds_9 (by decide) (by exact ⟨⟨ha1.1, ha1.2⟩, ⟨(by omega), (by omega)⟩⟩) (fun h104 => ?_) (fun h104 => ?_)
    · refine y_iconst C dX9_holds_16 ?_
      exact hret _ _ _ _ dX9_holds_17 ⟨0, rfl, rfl, by exact ⟨(by decide), ⟨(by decide), (by omega)⟩⟩⟩
    · refine y_iconst C dX9_holds_12 ?_
      refine j_goto C 17 dX9_holds_13 (by decide) ?_
      exact hret _ _ _ _ dX9_holds_17 ⟨1, rfl, rfl, by exact ⟨(by decide), ⟨(by decide), (by omega)⟩⟩⟩
set_option maxHeartbeats 4000000 in
theorem s2_X9_everyKind {l : Launch} {dC : Nat → ClassId} {dI : Nat → Nat → Nat} {ad : Nat → Nat} {cA : Nat → ClassId} {pr : Nat → Nat → Bool} {Kz : mm_M} {M0 : mm_M} (hM0 : INV pr Kz M0)  : Ci l 0 yX9_everyKind wsX9_everyKind dC dI ad cA [.ref (ad 12)] M0 (fun r M' => ∃ a : Int, r = sI a ∧ M0 = M' ∧ 0 ≤ a ∧ a ≤ 255 ∧ (a = (pw2 (M0.1 12 0).toInt - 1))) := by
  refine ci_of (cc := cX9_everyKind) (maxL := 1) (ty := .int) (lv := [(0, .ref (ad 12))]) (by decide) rfl (fun r M' hp => rfl) (Nat.le_of_ble_eq_true rfl) rfl ?_
  intro p e s m args below meth c A Q C hret
  refine y_iconst C dX9_everyKind_0 ?_
  refine j_aload_n C 0 0 dX9_everyKind_1 rfl rfl ?_
  refine y_getI C 8 _ _ fX9_everyKind_9 rfl rfl ft_8_0 sb_8_0 hM0 dX9_everyKind_2 (fun a101 ea101 la101 ua101 => ?_)
  obtain rfl : a101 = (M0.1 12 0).toInt := ea101
  refine e_shl1 C 8 256 dX9_everyKind_5 rfl (by decide) (by exact ⟨la101, (by omega)⟩) (fun lb103 ub103 => ?_)
  refine y_iconst C dX9_everyKind_6 ?_
  refine y_isub C dX9_everyKind_7 ?_
  exact hret _ _ _ _ dX9_everyKind_8 ⟨((pw2 (M0.1 12 0).toInt) - 1), rfl, rfl, by omega⟩
set_option maxHeartbeats 4000000 in
theorem s2_X9_isShut {l : Launch} {dC : Nat → ClassId} {dI : Nat → Nat → Nat} {ad : Nat → Nat} {cA : Nat → ClassId} {pr : Nat → Nat → Bool} {Kz : mm_M} {M0 : mm_M} (hM0 : INV pr Kz M0)  : Ci l 1 yX9_isShut wsX9_isShut dC dI ad cA [.ref (ad 12)] M0 (fun r M' => ∃ a : Int, r = sI a ∧ M0 = M' ∧ 0 ≤ a ∧ a ≤ 1 ∧ (a = 1 ∧ andI (andI (pw2 (M0.1 12 0).toInt - 1) (-1 - (M0.1 12 4).toInt)) (-1 - (M0.1 12 3).toInt) = 0 ∨ a = 0 ∧ ¬ andI (andI (pw2 (M0.1 12 0).toInt - 1) (-1 - (M0.1 12 4).toInt)) (-1 - (M0.1 12 3).toInt) = 0)) := by
  refine ci_of (cc := cX9_isShut) (maxL := 1) (ty := .boolean) (lv := [(0, .ref (ad 12))]) (by decide) rfl (fun r M' hp => by obtain ⟨a, rfl, -, h⟩ := hp; rcases (show a = 0 ∨ a = 1 by omega) with rfl | rfl <;> rfl) (Nat.le_of_ble_eq_true rfl) rfl ?_
  intro p e s m args below meth c A Q C hret
  refine j_aload_n C 0 0 dX9_isShut_0 rfl rfl ?_
  refine j_callVi C (d := 0) (As := []) (st := []) 12 (s_lt rfl rfl) (s_kc (c := 8) rfl rfl) (by decide) rfl (s2_X9_everyKind hM0) gX9_isShut_X9_everyKind rfl hdX9_everyKind (by decide) (Nat.le_of_ble_eq_true rfl) dX9_isShut_1 rfl (fun r101 M102 h103 => ?_)
  obtain ⟨a105, rfl, rfl, h104⟩ := h103
  obtain rfl : a105 = (pw2 (M0.1 12 0).toInt - 1) := by exact h104.2.2
  refine j_aload_n C 0 0 dX9_isShut_4 rfl rfl ?_
  refine y_getI C 8 _ _ fX9_isShut_25 rfl rfl ft_8_4 sb_8_4 hM0 dX9_isShut_5 (fun a106 ea106 la106 ua106 => ?_)
  obtain rfl : a106 = (M0.1 12 4).toInt := ea106
  refine y_iconst C dX9_isShut_8 ?_
  refine y_not C dX9_isShut_9 ?_
  refine e_iandL C dX9_isShut_10 (by exact ⟨h104.1, (by omega)⟩) (fun lb108 ub108 => ?_)
  refine j_aload_n C 0 0 dX9_isShut_11 rfl rfl ?_
  refine y_getI C 8 _ _ fX9_isShut_22 rfl rfl ft_8_3 sb_8_3 hM0 dX9_isShut_12 (fun a109 ea109 la109 ua109 => ?_)
  obtain rfl : a109 = (M0.1 12 3).toInt := ea109
  refine y_iconst C dX9_isShut_15 ?_
  refine y_not C dX9_isShut_16 ?_
  refine e_iandL C dX9_isShut_17 (by exact ⟨lb108, (by (clear ua109 la109 ua106 la106 hret C hM0; omega))⟩) (fun lb111 ub111 => ?_)
  refine y_if_ne C 25 dX9_isShut_18 (by decide) (by (clear ua109 la109 ua106 la106 hret C hM0; omega)) (fun h112 => ?_) (fun h112 => ?_)
  · refine y_iconst C dX9_isShut_25 ?_
    exact hret _ _ _ _ dX9_isShut_26 ⟨0, rfl, rfl, by exact ⟨(by decide), ⟨(by decide), (by (clear ub111 lb111 ua109 la109 ub108 lb108 ua106 la106 h104 hret C hM0; omega))⟩⟩⟩
  · refine y_iconst C dX9_isShut_21 ?_
    refine j_goto C 26 dX9_isShut_22 (by decide) ?_
    exact hret _ _ _ _ dX9_isShut_26 ⟨1, rfl, rfl, by exact ⟨(by decide), ⟨(by decide), (by (clear ub111 lb111 ua109 la109 ub108 lb108 ua106 la106 h104 hret C hM0; omega))⟩⟩⟩
set_option maxHeartbeats 4000000 in
theorem s2_X1_giveAway {l : Launch} {dC : Nat → ClassId} {dI : Nat → Nat → Nat} {ad : Nat → Nat} {cA : Nat → ClassId} {pr : Nat → Nat → Bool} {Kz : mm_M} {M0 : mm_M} (hM0 : INV pr Kz M0) (hpr : PX pr) (a2 : Int) (ha2 : -2147483648 ≤ a2 ∧ a2 ≤ 2147483647) (gp : Nat) (cgp : s_c gp = 6) : Ci l 2 yX1_giveAway wsX1_giveAway dC dI ad cA [.ref (ad 87), .ref (ad 12), .int (sI a2)] M0 (fun r M' => ∃ a : Int, r = sI a ∧ INV pr Kz M' ∧ FX [12] M0 M' ∧ (-2147483648) ≤ a ∧ a ≤ 2147483647 ∧ (a = aI (wkF (rwX M0 gp 12) a2) (addI ((rwX M0 gp 12) 30).toInt 1)) ∧ (b01 (rwX M' gp 12 = dvS (wkF (rwX M0 gp 12) a2) (rwX M0 gp 12) (gsS (rwX M0 gp 12))) = 1)) := by
  refine ci_of (cc := cX1_giveAway) (maxL := 3) (ty := .int) (lv := [(0, .ref (ad 87)), (1, .ref (ad 12)), (2, .int (sI a2))]) (by decide) rfl (fun r M' hp => rfl) (Nat.le_of_ble_eq_true rfl) rfl ?_
  intro p e s m args below meth c A Q C hret
  refine j_aload_n C 1 1 dX1_giveAway_0 rfl rfl ?_
  refine j_iload_n C 2 2 dX1_giveAway_1 rfl rfl ?_
  refine j_callVi C (d := 0) (As := [.int (sI a2)]) (st := []) 12 (s_lt rfl rfl) (s_kc (c := 8) rfl rfl) (by decide) rfl (s2_X9_holds hM0 a2 (by exact ⟨ha2.1, ha2.2⟩)) gX1_giveAway_X9_holds rfl hdX9_holds (by decide) (Nat.le_of_ble_eq_true rfl) dX1_giveAway_2 rfl (fun r101 M102 h103 => ?_)
  obtain ⟨a105, rfl, rfl, h104⟩ := h103
  refine y_if_ne C 11 dX1_giveAway_5 (by decide) (by omega) (fun h106 => ?_) (fun h106 => ?_)
  · refine j_aload_n C 1 1 dX1_giveAway_11 rfl rfl ?_
    refine j_callVi C (d := 1) (As := []) (st := []) 12 (s_lt rfl rfl) (s_kc (c := 8) rfl rfl) (by decide) rfl (s2_X9_isShut hM0) gX1_giveAway_X9_isShut rfl hdX9_isShut (by decide) (Nat.le_of_ble_eq_true rfl) dX1_giveAway_12 rfl (fun r107 M108 h109 => ?_)
    obtain ⟨a111, rfl, rfl, h110⟩ := h109
    refine y_if_eq C 21 dX1_giveAway_15 (by decide) (by omega) (fun h112 => ?_) (fun h112 => ?_)
    · refine j_aload_n C 1 1 dX1_giveAway_21 rfl rfl ?_
      refine j_dup C dX1_giveAway_22 rfl ?_
      refine y_getI C 8 _ _ fX1_giveAway_54 rfl rfl ft_8_6 sb_8_6 hM0 dX1_giveAway_23 (fun a113 ea113 la113 ua113 => ?_)
      obtain rfl : a113 = (M0.1 12 6).toInt := ea113
      refine y_iconst C dX1_giveAway_26 ?_
      refine e_iadd C dX1_giveAway_27 (fun lb115 ub115 => ?_)
      refine y_putIF C 8 qX1_giveAway_54 rfl rfl ft_8_6 sb_8_6 hM0 (PX.w hpr rfl rfl) dX1_giveAway_28 (fun M116 eM116 hM116 => ?_)
      refine j_aload_n C 1 1 dX1_giveAway_31 rfl rfl ?_
      refine y_getI C 8 _ _ fX1_giveAway_54 rfl rfl ft_8_6 sb_8_6 hM116 dX1_giveAway_32 (fun a117 ea117 la117 ua117 => ?_)
      obtain rfl : a117 = (addI (M0.1 12 6).toInt 1) := (ea117).trans (s_wr eM116 (by exact ⟨lb115, ub115⟩))
      have u119s := shY M0 gp 12
      have u119K : (rwX M0 gp 12 26).toInt = (M0.1 12 0).toInt := rfl
      have u119b := hM0.rd (i := 12) (c := 8) (k := 0) rfl (show s_b 8 0 = (0, 8) from rfl)
      have u119w := wkF_s (rwX M0 gp 12) a2
      have u119r : rwX M116 gp 12 = gsS (rwX M0 gp 12) := rx_30 cgp rfl eM116
      have u119k := dv_y (w := wkF (rwX M0 gp 12) a2) (a := addI ((rwX M0 gp 12) 30).toInt 1) (f := (rwX M0 gp 12)) (g := gsS (rwX M0 gp 12)) (N := rwX M116 gp 12) (by (clear u119r u119b ua117 la117 ea117 hM116 eM116 ub115 lb115 ua113 la113 hret C cgp hpr hM0; omega)) u119r
      have u119a : aI (wkF (rwX M0 gp 12) a2) (addI ((rwX M0 gp 12) 30).toInt 1) = (addI (M0.1 12 6).toInt 1) := u119k.2.trans rfl
      exact hret _ _ _ _ dX1_giveAway_35 ⟨(addI (M0.1 12 6).toInt 1), rfl, hM116, (FX.rf.wI eM116 (by decide)), by exact ⟨lb115, ⟨ub115, ⟨u119a.symm, u119k.1⟩⟩⟩⟩
    · refine y_bipush C dX1_giveAway_18 rfl ?_
      have u120s := shY M0 gp 12
      have u120K : (rwX M0 gp 12 26).toInt = (M0.1 12 0).toInt := rfl
      have u120b := hM0.rd (i := 12) (c := 8) (k := 0) rfl (show s_b 8 0 = (0, 8) from rfl)
      have u120w := wkF_s (rwX M0 gp 12) a2
      have u120k := dv_n (w := wkF (rwX M0 gp 12) a2) (f := (rwX M0 gp 12)) (N := (rwX M0 gp 12)) (by (clear u120b u120K h106 h104 hret C cgp ha2 hpr hM0; omega)) rfl (gsS (rwX M0 gp 12)) (addI ((rwX M0 gp 12) 30).toInt 1)
      exact hret _ _ _ _ dX1_giveAway_20 ⟨(-12), rfl, hM0, FX.rf, by exact ⟨(by decide), ⟨(by decide), ⟨(by (clear u120b hret C cgp hpr hM0; omega)), u120k.1⟩⟩⟩⟩
  · refine y_bipush C dX1_giveAway_8 rfl ?_
    have u121s := shY M0 gp 12
    have u121K : (rwX M0 gp 12 26).toInt = (M0.1 12 0).toInt := rfl
    have u121b := hM0.rd (i := 12) (c := 8) (k := 0) rfl (show s_b 8 0 = (0, 8) from rfl)
    have u121w := wkF_s (rwX M0 gp 12) a2
    have u121k := dv_n (w := wkF (rwX M0 gp 12) a2) (f := (rwX M0 gp 12)) (N := (rwX M0 gp 12)) (by (clear u121b hret C cgp hpr hM0; omega)) rfl (gsS (rwX M0 gp 12)) (addI ((rwX M0 gp 12) 30).toInt 1)
    exact hret _ _ _ _ dX1_giveAway_10 ⟨(-11), rfl, hM0, FX.rf, by exact ⟨(by decide), ⟨(by decide), ⟨(by (clear u121b hret C cgp hpr hM0; omega)), u121k.1⟩⟩⟩⟩
set_option maxHeartbeats 4000000 in
theorem s2_X1_turn {l : Launch} {dC : Nat → ClassId} {dI : Nat → Nat → Nat} {ad : Nat → Nat} {cA : Nat → ClassId} {pr : Nat → Nat → Bool} {Kz : mm_M} {M0 : mm_M} (hM0 : INV pr Kz M0) (hpr : PX pr) (a2 : Int) (ha2 : -2147483648 ≤ a2 ∧ a2 ≤ 2147483647) (gp : Nat) (cgp : s_c gp = 6) : Ci l 2 yX1_turn wsX1_turn dC dI ad cA [.ref (ad 87), .ref (ad 12), .int (sI a2)] M0 (fun r M' => ∃ a : Int, r = sI a ∧ INV pr Kz M' ∧ FX [12] M0 M' ∧ (-12) ≤ a ∧ a ≤ 1 ∧ (a = aI (wkF (rwX M0 gp 12) a2) (andI (shrI (xorI ((rwX M0 gp 12) 28).toInt (pw2 a2)) a2) 1)) ∧ (b01 (rwX M' gp 12 = dvS (wkF (rwX M0 gp 12) a2) (rwX M0 gp 12) (hsS (rwX M0 gp 12) a2)) = 1)) := by
  refine ci_of (cc := cX1_turn) (maxL := 3) (ty := .int) (lv := [(0, .ref (ad 87)), (1, .ref (ad 12)), (2, .int (sI a2))]) (by decide) rfl (fun r M' hp => rfl) (Nat.le_of_ble_eq_true rfl) rfl ?_
  intro p e s m args below meth c A Q C hret
  refine j_aload_n C 1 1 dX1_turn_0 rfl rfl ?_
  refine j_iload_n C 2 2 dX1_turn_1 rfl rfl ?_
  refine j_callVi C (d := 0) (As := [.int (sI a2)]) (st := []) 12 (s_lt rfl rfl) (s_kc (c := 8) rfl rfl) (by decide) rfl (s2_X9_holds hM0 a2 (by exact ⟨ha2.1, ha2.2⟩)) gX1_turn_X9_holds rfl hdX9_holds (by decide) (Nat.le_of_ble_eq_true rfl) dX1_turn_2 rfl (fun r101 M102 h103 => ?_)
  obtain ⟨a105, rfl, rfl, h104⟩ := h103
  refine y_if_ne C 11 dX1_turn_5 (by decide) (by omega) (fun h106 => ?_) (fun h106 => ?_)
  · refine j_aload_n C 1 1 dX1_turn_11 rfl rfl ?_
    refine j_callVi C (d := 1) (As := []) (st := []) 12 (s_lt rfl rfl) (s_kc (c := 8) rfl rfl) (by decide) rfl (s2_X9_isShut hM0) gX1_turn_X9_isShut rfl hdX9_isShut (by decide) (Nat.le_of_ble_eq_true rfl) dX1_turn_12 rfl (fun r107 M108 h109 => ?_)
    obtain ⟨a111, rfl, rfl, h110⟩ := h109
    refine y_if_eq C 21 dX1_turn_15 (by decide) (by omega) (fun h112 => ?_) (fun h112 => ?_)
    · refine j_aload_n C 1 1 dX1_turn_21 rfl rfl ?_
      refine j_dup C dX1_turn_22 rfl ?_
      refine y_getI C 8 _ _ fX1_turn_36 rfl rfl ft_8_4 sb_8_4 hM0 dX1_turn_23 (fun a113 ea113 la113 ua113 => ?_)
      obtain rfl : a113 = (M0.1 12 4).toInt := ea113
      refine y_iconst C dX1_turn_26 ?_
      refine j_iload_n C 2 2 dX1_turn_27 rfl rfl ?_
      refine e_shl1 C 7 128 dX1_turn_28 rfl (by decide) (by (clear ua113 la113 hret C cgp hpr hM0; omega)) (fun lb115 ub115 => ?_)
      refine e_ixorN C 8 255 dX1_turn_29 rfl (by decide) (by exact ⟨la113, ⟨ua113, ⟨(by (clear h112 h110 h106 h104 hret C cgp ha2 hpr hM0; omega)), (by (clear h112 h110 h106 h104 hret C cgp ha2 hpr hM0; omega))⟩⟩⟩) (fun lb116 ub116 => ?_)
      refine y_putI C 8 _ _ qX1_turn_36 rfl rfl ft_8_4 sb_8_4 hM0 (PX.w hpr rfl rfl) dX1_turn_30 (by exact ⟨⟨(by (clear ub115 lb115 ua113 la113 h112 h110 h106 h104 hret C cgp ha2 hpr hM0; omega)), (by (clear ub115 lb115 ua113 la113 h112 h110 h106 h104 hret C cgp ha2 hpr hM0; omega))⟩, ⟨lb116, ub116⟩⟩) (fun M117 eM117 hM117 => ?_)
      refine j_aload_n C 1 1 dX1_turn_33 rfl rfl ?_
      refine y_getI C 8 _ _ fX1_turn_36 rfl rfl ft_8_4 sb_8_4 hM117 dX1_turn_34 (fun a118 ea118 la118 ua118 => ?_)
      obtain rfl : a118 = (xorI (M0.1 12 4).toInt (pw2 a2)) := (ea118).trans (s_wr eM117 (by omega))
      refine j_iload_n C 2 2 dX1_turn_37 rfl rfl ?_
      refine e_ishrP C dX1_turn_38 (by exact ⟨lb116, (by (clear ua118 la118 hM117 eM117 ub115 lb115 ua113 la113 h112 h110 h106 h104 hret C cgp ha2 hpr hM0; omega))⟩) (fun lb120 ub120 => ?_)
      refine y_iconst C dX1_turn_39 ?_
      refine e_iandR C dX1_turn_40 (by exact ⟨(by decide), (by decide)⟩) (fun lb121 ub121 => ?_)
      have u122s := shY M0 gp 12
      have u122K : (rwX M0 gp 12 26).toInt = (M0.1 12 0).toInt := rfl
      have u122b := hM0.rd (i := 12) (c := 8) (k := 0) rfl (show s_b 8 0 = (0, 8) from rfl)
      have u122w := wkF_s (rwX M0 gp 12) a2
      have u122r : rwX M117 gp 12 = hsS (rwX M0 gp 12) a2 := rx_28 cgp rfl eM117
      have u122k := dv_y (w := wkF (rwX M0 gp 12) a2) (a := andI (shrI (xorI ((rwX M0 gp 12) 28).toInt (pw2 a2)) a2) 1) (f := (rwX M0 gp 12)) (g := hsS (rwX M0 gp 12) a2) (N := rwX M117 gp 12) (by (clear u122r u122b ub121 lb121 ub120 lb120 ua118 la118 ea118 hM117 eM117 ub116 lb116 ub115 lb115 ua113 la113 hret C cgp hpr hM0; omega)) u122r
      have u122a : aI (wkF (rwX M0 gp 12) a2) (andI (shrI (xorI ((rwX M0 gp 12) 28).toInt (pw2 a2)) a2) 1) = (andI (shrI (xorI (M0.1 12 4).toInt (pw2 a2)) a2) 1) := u122k.2.trans rfl
      exact hret _ _ _ _ dX1_turn_41 ⟨(andI (shrI (xorI (M0.1 12 4).toInt (pw2 a2)) a2) 1), rfl, hM117, (FX.rf.wI eM117 (by decide)), by exact ⟨(by (clear u122r u122w u122b u122K u122s ub120 lb120 ua118 la118 ea118 hM117 eM117 ub116 lb116 ub115 lb115 ua113 la113 h112 h110 h106 h104 hret C cgp ha2 hpr hM0; omega)), ⟨ub121, ⟨u122a.symm, u122k.1⟩⟩⟩⟩
    · refine y_bipush C dX1_turn_18 rfl ?_
      have u123s := shY M0 gp 12
      have u123K : (rwX M0 gp 12 26).toInt = (M0.1 12 0).toInt := rfl
      have u123b := hM0.rd (i := 12) (c := 8) (k := 0) rfl (show s_b 8 0 = (0, 8) from rfl)
      have u123w := wkF_s (rwX M0 gp 12) a2
      have u123k := dv_n (w := wkF (rwX M0 gp 12) a2) (f := (rwX M0 gp 12)) (N := (rwX M0 gp 12)) (by omega) rfl (hsS (rwX M0 gp 12) a2) (andI (shrI (xorI ((rwX M0 gp 12) 28).toInt (pw2 a2)) a2) 1)
      exact hret _ _ _ _ dX1_turn_20 ⟨(-12), rfl, hM0, FX.rf, by exact ⟨(by decide), ⟨(by decide), ⟨(by (clear u123b hret C cgp hpr hM0; omega)), u123k.1⟩⟩⟩⟩
  · refine y_bipush C dX1_turn_8 rfl ?_
    have u124s := shY M0 gp 12
    have u124K : (rwX M0 gp 12 26).toInt = (M0.1 12 0).toInt := rfl
    have u124b := hM0.rd (i := 12) (c := 8) (k := 0) rfl (show s_b 8 0 = (0, 8) from rfl)
    have u124w := wkF_s (rwX M0 gp 12) a2
    have u124k := dv_n (w := wkF (rwX M0 gp 12) a2) (f := (rwX M0 gp 12)) (N := (rwX M0 gp 12)) (by omega) rfl (hsS (rwX M0 gp 12) a2) (andI (shrI (xorI ((rwX M0 gp 12) 28).toInt (pw2 a2)) a2) 1)
    exact hret _ _ _ _ dX1_turn_10 ⟨(-11), rfl, hM0, FX.rf, by exact ⟨(by decide), ⟨(by decide), ⟨(by (clear u124b hret C cgp hpr hM0; omega)), u124k.1⟩⟩⟩⟩
set_option maxHeartbeats 4000000 in
theorem s2_X1_bringIn {l : Launch} {dC : Nat → ClassId} {dI : Nat → Nat → Nat} {ad : Nat → Nat} {cA : Nat → ClassId} {pr : Nat → Nat → Bool} {Kz : mm_M} {M0 : mm_M} (hM0 : INV pr Kz M0) (hpr : PX pr) (hq8_0 : ∀ i, s_c i = 8 → pr i 0 = false) (a2 : Int) (ha2 : -2147483648 ≤ a2 ∧ a2 ≤ 2147483647) (a3 : Int) (ha3 : -2147483648 ≤ a3 ∧ a3 ≤ 2147483647) (gp : Nat) (cgp : s_c gp = 6) : Ci l 2 yX1_bringIn wsX1_bringIn dC dI ad cA [.ref (ad 87), .ref (ad 12), .int (sI a2), .int (sI a3)] M0 (fun r M' => ∃ a : Int, r = sI a ∧ INV pr Kz M' ∧ FX [12, 13, 14] M0 M' ∧ (-13) ≤ a ∧ a ≤ 7 ∧ (a = aI (waF (rwX M0 gp 12) a2 a3) (((rwX M0 gp 12) 26).toInt)) ∧ (b01 (rwX M' gp 12 = dvS (waF (rwX M0 gp 12) a2 a3) (rwX M0 gp 12) (asS (rwX M0 gp 12) a2 a3)) = 1)) := by
  refine ci_of (cc := cX1_bringIn) (maxL := 4) (ty := .int) (lv := [(0, .ref (ad 87)), (1, .ref (ad 12)), (2, .int (sI a2)), (3, .int (sI a3))]) (by decide) rfl (fun r M' hp => rfl) (Nat.le_of_ble_eq_true rfl) rfl ?_
  intro p e s m args below meth c A Q C hret
  refine j_iload_n C 2 2 dX1_bringIn_0 rfl rfl ?_
  refine y_iconst C dX1_bringIn_1 ?_
  refine y_icmp_lt C 21 dX1_bringIn_2 (by decide) (by exact ⟨⟨ha2.1, ha2.2⟩, ⟨(by decide), (by decide)⟩⟩) (fun h101 => ?_) (fun h101 => ?_)
  · refine y_bipush C dX1_bringIn_21 rfl ?_
    have u102s := shY M0 gp 12
    have u102K : (rwX M0 gp 12 26).toInt = (M0.1 12 0).toInt := rfl
    have u102b := hM0.rd (i := 12) (c := 8) (k := 0) rfl (show s_b 8 0 = (0, 8) from rfl)
    have u102w := waF_s (rwX M0 gp 12) a2 a3
    have u102k := dv_n (w := waF (rwX M0 gp 12) a2 a3) (f := (rwX M0 gp 12)) (N := (rwX M0 gp 12)) (by omega) rfl (asS (rwX M0 gp 12) a2 a3) (((rwX M0 gp 12) 26).toInt)
    exact hret _ _ _ _ dX1_bringIn_23 ⟨(-11), rfl, hM0, FX.rf, by exact ⟨(by decide), ⟨(by decide), ⟨(by (clear u102b u102K u102s hret C cgp ha3 hq8_0 hpr hM0; omega)), u102k.1⟩⟩⟩⟩
  · refine j_iload_n C 2 2 dX1_bringIn_5 rfl rfl ?_
    refine y_bipush C dX1_bringIn_6 rfl ?_
    refine y_icmp_gt C 21 dX1_bringIn_8 (by decide) (by exact ⟨⟨ha2.1, ha2.2⟩, ⟨(by decide), (by decide)⟩⟩) (fun h103 => ?_) (fun h103 => ?_)
    · refine y_bipush C dX1_bringIn_21 rfl ?_
      have u104s := shY M0 gp 12
      have u104K : (rwX M0 gp 12 26).toInt = (M0.1 12 0).toInt := rfl
      have u104b := hM0.rd (i := 12) (c := 8) (k := 0) rfl (show s_b 8 0 = (0, 8) from rfl)
      have u104w := waF_s (rwX M0 gp 12) a2 a3
      have u104k := dv_n (w := waF (rwX M0 gp 12) a2 a3) (f := (rwX M0 gp 12)) (N := (rwX M0 gp 12)) (by omega) rfl (asS (rwX M0 gp 12) a2 a3) (((rwX M0 gp 12) 26).toInt)
      exact hret _ _ _ _ dX1_bringIn_23 ⟨(-11), rfl, hM0, FX.rf, by exact ⟨(by decide), ⟨(by decide), ⟨(by (clear u104b u104K u104s hret C cgp ha3 hq8_0 hpr hM0; omega)), u104k.1⟩⟩⟩⟩
    · refine j_iload_n C 3 3 dX1_bringIn_11 rfl rfl ?_
      refine y_if_lt C 21 dX1_bringIn_12 (by decide) (by exact ⟨ha3.1, ha3.2⟩) (fun h105 => ?_) (fun h105 => ?_)
      · refine y_bipush C dX1_bringIn_21 rfl ?_
        have u106s := shY M0 gp 12
        have u106K : (rwX M0 gp 12 26).toInt = (M0.1 12 0).toInt := rfl
        have u106b := hM0.rd (i := 12) (c := 8) (k := 0) rfl (show s_b 8 0 = (0, 8) from rfl)
        have u106w := waF_s (rwX M0 gp 12) a2 a3
        have u106k := dv_n (w := waF (rwX M0 gp 12) a2 a3) (f := (rwX M0 gp 12)) (N := (rwX M0 gp 12)) (by omega) rfl (asS (rwX M0 gp 12) a2 a3) (((rwX M0 gp 12) 26).toInt)
        exact hret _ _ _ _ dX1_bringIn_23 ⟨(-11), rfl, hM0, FX.rf, by exact ⟨(by decide), ⟨(by decide), ⟨(by (clear u106b u106K u106s h103 h101 hret C cgp ha2 hq8_0 hpr hM0; omega)), u106k.1⟩⟩⟩⟩
      · refine j_iload_n C 3 3 dX1_bringIn_15 rfl rfl ?_
        refine y_bipush C dX1_bringIn_16 rfl ?_
        refine y_icmp_le C 24 dX1_bringIn_18 (by decide) (by exact ⟨⟨ha3.1, ha3.2⟩, ⟨(by decide), (by decide)⟩⟩) (fun h107 => ?_) (fun h107 => ?_)
        · refine j_aload_n C 1 1 dX1_bringIn_24 rfl rfl ?_
          refine j_callVi C (d := 1) (As := []) (st := []) 12 (s_lt rfl rfl) (s_kc (c := 8) rfl rfl) (by decide) rfl (s2_X9_isShut hM0) gX1_bringIn_X9_isShut rfl hdX9_isShut (by decide) (Nat.le_of_ble_eq_true rfl) dX1_bringIn_25 rfl (fun r108 M109 h110 => ?_)
          obtain ⟨a112, rfl, rfl, h111⟩ := h110
          refine y_if_eq C 34 dX1_bringIn_28 (by decide) (by omega) (fun h113 => ?_) (fun h113 => ?_)
          · refine j_aload_n C 1 1 dX1_bringIn_34 rfl rfl ?_
            refine y_getI C 8 _ _ fX1_bringIn_57 rfl rfl ft_8_0 sb_8_0 hM0 dX1_bringIn_35 (fun a114 ea114 la114 ua114 => ?_)
            obtain rfl : a114 = (M0.1 12 0).toInt := ea114
            refine y_bipush C dX1_bringIn_38 rfl ?_
            refine y_icmp_lt C 46 dX1_bringIn_40 (by decide) (by exact ⟨⟨(by (clear h113 h111 h107 h105 h103 h101 hret C cgp ha3 ha2 hq8_0 hpr hM0; omega)), (by (clear h113 h111 h107 h105 h103 h101 hret C cgp ha3 ha2 hq8_0 hpr hM0; omega))⟩, ⟨(by decide), (by decide)⟩⟩) (fun h116 => ?_) (fun h116 => ?_)
            · refine j_aload_n C 1 1 dX1_bringIn_46 rfl rfl ?_
              refine y_getC C 8 13 fX1_bringIn_46 rfl rfl ft_8_1 sm_8_1 rfl hM0 dX1_bringIn_47 ?_
              refine j_aload_n C 1 1 dX1_bringIn_50 rfl rfl ?_
              refine y_getI C 8 _ _ fX1_bringIn_57 rfl rfl ft_8_0 sb_8_0 hM0 dX1_bringIn_51 (fun a117 ea117 la117 ua117 => ?_)
              obtain rfl : a117 = (M0.1 12 0).toInt := ea117
              refine j_iload_n C 2 2 dX1_bringIn_54 rfl rfl ?_
              refine y_iastF C 25 8 rfl rfl rfl ak_25 an_25 rfl (sb_25 _) hM0 (PX.w hpr rfl rfl) dX1_bringIn_55 (by exact ⟨la114, (by omega)⟩) (fun M119 eM119 hM119 => ?_)
              refine j_aload_n C 1 1 dX1_bringIn_56 rfl rfl ?_
              refine y_getC C 8 14 fX1_bringIn_60 rfl rfl ft_8_2 sm_8_2 rfl hM119 dX1_bringIn_57 ?_
              refine j_aload_n C 1 1 dX1_bringIn_60 rfl rfl ?_
              refine y_getI C 8 _ _ fX1_bringIn_57 rfl rfl ft_8_0 sb_8_0 hM119 dX1_bringIn_61 (fun a120 ea120 la120 ua120 => ?_)
              obtain rfl : a120 = (M0.1 12 0).toInt := s_fa eM119 (by decide) (ea120)
              refine j_iload_n C 3 3 dX1_bringIn_64 rfl rfl ?_
              refine y_iastF C 26 8 rfl rfl rfl ak_26 an_26 rfl (sb_26 _) hM119 (PX.w hpr rfl rfl) dX1_bringIn_65 (by exact ⟨la114, (by (clear ua120 la120 hM119 eM119 ua117 la117 h113 h111 h107 h105 h103 h101 hret C cgp ha3 ha2 hq8_0 hpr hM0; omega))⟩) (fun M122 eM122 hM122 => ?_)
              refine j_aload_n C 1 1 dX1_bringIn_66 rfl rfl ?_
              refine j_dup C dX1_bringIn_67 rfl ?_
              refine y_getI C 8 _ _ fX1_bringIn_57 rfl rfl ft_8_0 sb_8_0 hM122 dX1_bringIn_68 (fun a123 ea123 la123 ua123 => ?_)
              obtain rfl : a123 = (M0.1 12 0).toInt := s_fa eM119 (by decide) (s_fa eM122 (by decide) (ea123))
              refine y_iconst C dX1_bringIn_71 ?_
              refine y_iadd C dX1_bringIn_72 ?_
              refine y_putI C 8 _ _ qX1_bringIn_57 rfl rfl ft_8_0 sb_8_0 hM122 (hq8_0 _ rfl) dX1_bringIn_73 (by (clear ua123 la123 hM122 eM122 ua120 la120 hM119 eM119 ua117 la117 h113 h111 h107 h105 h103 h101 hret C cgp ha3 ha2 hq8_0 hpr hM0; omega)) (fun M125 eM125 hM125 => ?_)
              refine j_aload_n C 1 1 dX1_bringIn_76 rfl rfl ?_
              refine y_getI C 8 _ _ fX1_bringIn_57 rfl rfl ft_8_0 sb_8_0 hM125 dX1_bringIn_77 (fun a126 ea126 la126 ua126 => ?_)
              obtain rfl : a126 = ((M0.1 12 0).toInt + 1) := (ea126).trans (s_wr eM125 (by (clear ua126 la126 ea126 hM125 eM125 ua123 la123 hM122 eM122 ua120 la120 hM119 eM119 ua117 la117 h113 h111 h107 h105 h103 h101 hret C cgp ha3 ha2 hq8_0 hpr hM0; omega)))
              refine y_iconst C dX1_bringIn_80 ?_
              refine y_isub C dX1_bringIn_81 ?_
              have u128s := shY M0 gp 12
              have u128K : (rwX M0 gp 12 26).toInt = (M0.1 12 0).toInt := rfl
              have u128b := hM0.rd (i := 12) (c := 8) (k := 0) rfl (show s_b 8 0 = (0, 8) from rfl)
              have u128w := waF_s (rwX M0 gp 12) a2 a3
              have u128r : rwX M125 gp 12 = asS (rwX M0 gp 12) a2 a3 := ((rx_26 cgp rfl eM125).trans (congrArg (fun q => uR q 26 ((M0.1 12 0).toInt + 1)) ((rx_g (v := 12) cgp rfl eM122 (by exact ⟨la114, h116⟩)).trans (congrArg (fun q => uR q (41 + (M0.1 12 0).toInt).toNat a3) (rx_p (v := 12) cgp rfl eM119 (by exact ⟨la114, h116⟩)))))).trans (as_x (rwX M0 gp 12) a2 a3 (by (clear u128w u128b u128s ua126 la126 hM125 eM125 ua123 la123 hM122 eM122 ua120 la120 hM119 eM119 ua117 la117 h113 h111 h107 h105 h103 h101 hret C cgp ha3 ha2 hq8_0 hpr hM0; omega)))
              have u128k := dv_y (w := waF (rwX M0 gp 12) a2 a3) (a := ((rwX M0 gp 12) 26).toInt) (f := (rwX M0 gp 12)) (g := asS (rwX M0 gp 12) a2 a3) (N := rwX M125 gp 12) (by (clear u128r u128b ua126 la126 hM125 eM125 ua123 la123 hM122 eM122 ua120 la120 hM119 eM119 ua117 la117 hret C cgp hq8_0 hpr hM0; omega)) u128r
              exact hret _ _ _ _ dX1_bringIn_82 ⟨(((M0.1 12 0).toInt + 1) - 1), rfl, hM125, (((FX.rf.wI eM119 (by decide)).wI eM122 (by decide)).wI eM125 (by decide)), by exact ⟨(by (clear u128r u128w u128b u128s ua126 la126 hM125 eM125 ua123 la123 hM122 eM122 ua120 la120 hM119 eM119 ua117 la117 h113 h111 h107 h105 h103 h101 hret C cgp ha3 ha2 hq8_0 hpr hM0; omega)), ⟨(by (clear u128r u128w u128b u128s ua126 la126 hM125 eM125 ua123 la123 hM122 eM122 ua120 la120 hM119 eM119 ua117 la117 h113 h111 h107 h105 h103 h101 hret C cgp ha3 ha2 hq8_0 hpr hM0; omega)), ⟨(by (clear u128r u128w u128b u128s ua126 la126 hM125 eM125 ua123 la123 hM122 eM122 ua120 la120 hM119 eM119 ua117 la117 h113 h111 h107 h105 h103 h101 hret C cgp ha3 ha2 hq8_0 hpr hM0; omega)), u128k.1⟩⟩⟩⟩
            · refine y_bipush C dX1_bringIn_43 rfl ?_
              have u129s := shY M0 gp 12
              have u129K : (rwX M0 gp 12 26).toInt = (M0.1 12 0).toInt := rfl
              have u129b := hM0.rd (i := 12) (c := 8) (k := 0) rfl (show s_b 8 0 = (0, 8) from rfl)
              have u129w := waF_s (rwX M0 gp 12) a2 a3
              have u129k := dv_n (w := waF (rwX M0 gp 12) a2 a3) (f := (rwX M0 gp 12)) (N := (rwX M0 gp 12)) (by (clear u129b u129s h113 h111 h107 h105 h103 h101 hret C cgp ha3 ha2 hq8_0 hpr hM0; omega)) rfl (asS (rwX M0 gp 12) a2 a3) (((rwX M0 gp 12) 26).toInt)
              exact hret _ _ _ _ dX1_bringIn_45 ⟨(-13), rfl, hM0, FX.rf, by exact ⟨(by decide), ⟨(by decide), ⟨(by (clear u129b hret C cgp hq8_0 hpr hM0; omega)), u129k.1⟩⟩⟩⟩
          · refine y_bipush C dX1_bringIn_31 rfl ?_
            have u130s := shY M0 gp 12
            have u130K : (rwX M0 gp 12 26).toInt = (M0.1 12 0).toInt := rfl
            have u130b := hM0.rd (i := 12) (c := 8) (k := 0) rfl (show s_b 8 0 = (0, 8) from rfl)
            have u130w := waF_s (rwX M0 gp 12) a2 a3
            have u130k := dv_n (w := waF (rwX M0 gp 12) a2 a3) (f := (rwX M0 gp 12)) (N := (rwX M0 gp 12)) (by (clear h107 h105 h103 h101 hret C cgp ha3 ha2 hq8_0 hpr hM0; omega)) rfl (asS (rwX M0 gp 12) a2 a3) (((rwX M0 gp 12) 26).toInt)
            exact hret _ _ _ _ dX1_bringIn_33 ⟨(-12), rfl, hM0, FX.rf, by exact ⟨(by decide), ⟨(by decide), ⟨(by (clear hret C cgp hq8_0 hpr hM0; omega)), u130k.1⟩⟩⟩⟩
        · refine y_bipush C dX1_bringIn_21 rfl ?_
          have u131s := shY M0 gp 12
          have u131K : (rwX M0 gp 12 26).toInt = (M0.1 12 0).toInt := rfl
          have u131b := hM0.rd (i := 12) (c := 8) (k := 0) rfl (show s_b 8 0 = (0, 8) from rfl)
          have u131w := waF_s (rwX M0 gp 12) a2 a3
          have u131k := dv_n (w := waF (rwX M0 gp 12) a2 a3) (f := (rwX M0 gp 12)) (N := (rwX M0 gp 12)) (by omega) rfl (asS (rwX M0 gp 12) a2 a3) (((rwX M0 gp 12) 26).toInt)
          exact hret _ _ _ _ dX1_bringIn_23 ⟨(-11), rfl, hM0, FX.rf, by exact ⟨(by decide), ⟨(by decide), ⟨(by (clear u131b u131K u131s h103 h101 hret C cgp ha2 hq8_0 hpr hM0; omega)), u131k.1⟩⟩⟩⟩
set_option maxHeartbeats 4000000 in
theorem s2_X1_reprice {l : Launch} {dC : Nat → ClassId} {dI : Nat → Nat → Nat} {ad : Nat → Nat} {cA : Nat → ClassId} {pr : Nat → Nat → Bool} {Kz : mm_M} {M0 : mm_M} (hM0 : INV pr Kz M0) (hpr : PX pr) (a2 : Int) (ha2 : -2147483648 ≤ a2 ∧ a2 ≤ 2147483647) (a3 : Int) (ha3 : -2147483648 ≤ a3 ∧ a3 ≤ 2147483647) (gp : Nat) (cgp : s_c gp = 6) : Ci l 2 yX1_reprice wsX1_reprice dC dI ad cA [.ref (ad 87), .ref (ad 12), .int (sI a2), .int (sI a3)] M0 (fun r M' => ∃ a : Int, r = sI a ∧ INV pr Kz M' ∧ FX [13] M0 M' ∧ (-2147483648) ≤ a ∧ a ≤ 2147483647 ∧ (a = aI (wpF (rwX M0 gp 12) a2 a3) (((rwX M0 gp 12) (33 + a2).toNat).toInt)) ∧ (b01 (rwX M' gp 12 = dvS (wpF (rwX M0 gp 12) a2 a3) (rwX M0 gp 12) (psS (rwX M0 gp 12) a2 a3)) = 1)) := by
  refine ci_of (cc := cX1_reprice) (maxL := 5) (ty := .int) (lv := [(0, .ref (ad 87)), (1, .ref (ad 12)), (2, .int (sI a2)), (3, .int (sI a3))]) (by decide) rfl (fun r M' hp => rfl) (Nat.le_of_ble_eq_true rfl) rfl ?_
  intro p e s m args below meth c A Q C hret
  refine j_aload_n C 1 1 dX1_reprice_0 rfl rfl ?_
  refine j_iload_n C 2 2 dX1_reprice_1 rfl rfl ?_
  refine j_callVi C (d := 0) (As := [.int (sI a2)]) (st := []) 12 (s_lt rfl rfl) (s_kc (c := 8) rfl rfl) (by decide) rfl (s2_X9_holds hM0 a2 (by exact ⟨ha2.1, ha2.2⟩)) gX1_reprice_X9_holds rfl hdX9_holds (by decide) (Nat.le_of_ble_eq_true rfl) dX1_reprice_2 rfl (fun r101 M102 h103 => ?_)
  obtain ⟨a105, rfl, rfl, h104⟩ := h103
  refine y_if_eq C 19 dX1_reprice_5 (by decide) (by omega) (fun h106 => ?_) (fun h106 => ?_)
  · refine y_bipush C dX1_reprice_19 rfl ?_
    have u107s := shY M0 gp 12
    have u107K : (rwX M0 gp 12 26).toInt = (M0.1 12 0).toInt := rfl
    have u107b := hM0.rd (i := 12) (c := 8) (k := 0) rfl (show s_b 8 0 = (0, 8) from rfl)
    have u107w := wpF_s (rwX M0 gp 12) a2 a3
    have u107k := dv_n (w := wpF (rwX M0 gp 12) a2 a3) (f := (rwX M0 gp 12)) (N := (rwX M0 gp 12)) (by (clear u107b hret C cgp ha3 hpr hM0; omega)) rfl (psS (rwX M0 gp 12) a2 a3) (((rwX M0 gp 12) (33 + a2).toNat).toInt)
    exact hret _ _ _ _ dX1_reprice_21 ⟨(-11), rfl, hM0, FX.rf, by exact ⟨(by decide), ⟨(by decide), ⟨(by (clear u107b hret C cgp ha3 hpr hM0; omega)), u107k.1⟩⟩⟩⟩
  · refine j_iload_n C 3 3 dX1_reprice_8 rfl rfl ?_
    refine y_iconst C dX1_reprice_9 ?_
    refine y_icmp_lt C 19 dX1_reprice_10 (by decide) (by exact ⟨⟨ha3.1, ha3.2⟩, ⟨(by decide), (by decide)⟩⟩) (fun h108 => ?_) (fun h108 => ?_)
    · refine y_bipush C dX1_reprice_19 rfl ?_
      have u109s := shY M0 gp 12
      have u109K : (rwX M0 gp 12 26).toInt = (M0.1 12 0).toInt := rfl
      have u109b := hM0.rd (i := 12) (c := 8) (k := 0) rfl (show s_b 8 0 = (0, 8) from rfl)
      have u109w := wpF_s (rwX M0 gp 12) a2 a3
      have u109k := dv_n (w := wpF (rwX M0 gp 12) a2 a3) (f := (rwX M0 gp 12)) (N := (rwX M0 gp 12)) (by omega) rfl (psS (rwX M0 gp 12) a2 a3) (((rwX M0 gp 12) (33 + a2).toNat).toInt)
      exact hret _ _ _ _ dX1_reprice_21 ⟨(-11), rfl, hM0, FX.rf, by exact ⟨(by decide), ⟨(by decide), ⟨(by (clear u109b u109K u109s h106 h104 hret C cgp ha2 hpr hM0; omega)), u109k.1⟩⟩⟩⟩
    · refine j_iload_n C 3 3 dX1_reprice_13 rfl rfl ?_
      refine y_bipush C dX1_reprice_14 rfl ?_
      refine y_icmp_le C 22 dX1_reprice_16 (by decide) (by exact ⟨⟨ha3.1, ha3.2⟩, ⟨(by decide), (by decide)⟩⟩) (fun h110 => ?_) (fun h110 => ?_)
      · refine j_aload_n C 1 1 dX1_reprice_22 rfl rfl ?_
        refine j_callVi C (d := 1) (As := []) (st := []) 12 (s_lt rfl rfl) (s_kc (c := 8) rfl rfl) (by decide) rfl (s2_X9_isShut hM0) gX1_reprice_X9_isShut rfl hdX9_isShut (by decide) (Nat.le_of_ble_eq_true rfl) dX1_reprice_23 rfl (fun r111 M112 h113 => ?_)
        obtain ⟨a115, rfl, rfl, h114⟩ := h113
        refine y_if_eq C 32 dX1_reprice_26 (by decide) (by omega) (fun h116 => ?_) (fun h116 => ?_)
        · refine j_aload_n C 1 1 dX1_reprice_32 rfl rfl ?_
          refine y_getC C 8 13 fX1_reprice_46 rfl rfl ft_8_1 sm_8_1 rfl hM0 dX1_reprice_33 ?_
          refine j_iload_n C 2 2 dX1_reprice_36 rfl rfl ?_
          refine y_iald C 25 8 _ _ rfl rfl rfl ak_25 an_25 rfl (sb_25 _) hM0 dX1_reprice_37 (by (clear h110 h108 hret C cgp ha3 hpr hM0; omega)) (fun a117 ea117 la117 ua117 => ?_)
          obtain rfl : a117 = (M0.1 13 (a2).toNat).toInt := ea117
          refine j_istore C 4 [(4, .int (sI (M0.1 13 (a2).toNat).toInt)), (0, .ref (ad 87)), (1, .ref (ad 12)), (2, .int (sI a2)), (3, .int (sI a3))] dX1_reprice_38 (by decide) rfl ?_
          refine j_aload_n C 2 1 dX1_reprice_40 rfl rfl ?_
          refine y_getC C 8 13 fX1_reprice_46 rfl rfl ft_8_1 sm_8_1 rfl hM0 dX1_reprice_41 ?_
          refine j_iload_n C 3 2 dX1_reprice_44 rfl rfl ?_
          refine j_iload_n C 4 3 dX1_reprice_45 rfl rfl ?_
          refine y_iastF C 25 8 rfl rfl rfl ak_25 an_25 rfl (sb_25 _) hM0 (PX.w hpr rfl rfl) dX1_reprice_46 (by (clear ua117 la117 h110 h108 hret C cgp ha3 hpr hM0; omega)) (fun M118 eM118 hM118 => ?_)
          refine j_iload C 0 dX1_reprice_47 rfl ?_
          have u119s := shY M0 gp 12
          have u119K : (rwX M0 gp 12 26).toInt = (M0.1 12 0).toInt := rfl
          have u119b := hM0.rd (i := 12) (c := 8) (k := 0) rfl (show s_b 8 0 = (0, 8) from rfl)
          have u119w := wpF_s (rwX M0 gp 12) a2 a3
          have u119q : ((rwX M0 gp 12) (33 + a2).toNat).toInt = (M0.1 13 (a2).toNat).toInt := congrArg Int32.toInt (rx_k M0 gp 12 (k := a2) (by (clear hM118 eM118 ua117 la117 hret C cgp hpr hM0; omega))).1
          have u119r : rwX M118 gp 12 = psS (rwX M0 gp 12) a2 a3 := rx_p (v := 12) cgp rfl eM118 (by (clear u119q hM118 eM118 ua117 la117 hret C cgp hpr hM0; omega))
          have u119k := dv_y (w := wpF (rwX M0 gp 12) a2 a3) (a := ((rwX M0 gp 12) (33 + a2).toNat).toInt) (f := (rwX M0 gp 12)) (g := psS (rwX M0 gp 12) a2 a3) (N := rwX M118 gp 12) (by (clear u119r u119q u119b hM118 eM118 ua117 la117 hret C cgp hpr hM0; omega)) u119r
          exact hret _ _ _ _ dX1_reprice_49 ⟨(M0.1 13 (a2).toNat).toInt, rfl, hM118, (FX.rf.wI eM118 (by decide)), by exact ⟨la117, ⟨ua117, ⟨(by (clear u119r u119w u119b u119K u119s hM118 eM118 h116 h114 h110 h108 h106 h104 hret C cgp ha3 ha2 hpr hM0; omega)), u119k.1⟩⟩⟩⟩
        · refine y_bipush C dX1_reprice_29 rfl ?_
          have u120s := shY M0 gp 12
          have u120K : (rwX M0 gp 12 26).toInt = (M0.1 12 0).toInt := rfl
          have u120b := hM0.rd (i := 12) (c := 8) (k := 0) rfl (show s_b 8 0 = (0, 8) from rfl)
          have u120w := wpF_s (rwX M0 gp 12) a2 a3
          have u120k := dv_n (w := wpF (rwX M0 gp 12) a2 a3) (f := (rwX M0 gp 12)) (N := (rwX M0 gp 12)) (by (clear u120b u120K h110 h108 h106 h104 hret C cgp ha3 ha2 hpr hM0; omega)) rfl (psS (rwX M0 gp 12) a2 a3) (((rwX M0 gp 12) (33 + a2).toNat).toInt)
          exact hret _ _ _ _ dX1_reprice_31 ⟨(-12), rfl, hM0, FX.rf, by exact ⟨(by decide), ⟨(by decide), ⟨(by (clear u120b hret C cgp hpr hM0; omega)), u120k.1⟩⟩⟩⟩
      · refine y_bipush C dX1_reprice_19 rfl ?_
        have u121s := shY M0 gp 12
        have u121K : (rwX M0 gp 12 26).toInt = (M0.1 12 0).toInt := rfl
        have u121b := hM0.rd (i := 12) (c := 8) (k := 0) rfl (show s_b 8 0 = (0, 8) from rfl)
        have u121w := wpF_s (rwX M0 gp 12) a2 a3
        have u121k := dv_n (w := wpF (rwX M0 gp 12) a2 a3) (f := (rwX M0 gp 12)) (N := (rwX M0 gp 12)) (by (clear u121b u121K u121s h106 h104 hret C cgp ha2 hpr hM0; omega)) rfl (psS (rwX M0 gp 12) a2 a3) (((rwX M0 gp 12) (33 + a2).toNat).toInt)
        exact hret _ _ _ _ dX1_reprice_21 ⟨(-11), rfl, hM0, FX.rf, by exact ⟨(by decide), ⟨(by decide), ⟨(by (clear u121b u121K u121s h106 h104 hret C cgp ha2 hpr hM0; omega)), u121k.1⟩⟩⟩⟩
set_option maxHeartbeats 4000000 in
theorem s2_X7_together {l : Launch} {dC : Nat → ClassId} {dI : Nat → Nat → Nat} {ad : Nat → Nat} {cA : Nat → ClassId} {pr : Nat → Nat → Bool} {Kz : mm_M} {M0 : mm_M} (hM0 : INV pr Kz M0) {v0 : Nat} (cv0 : s_c v0 = 6) (hp0 : b01 (ODB M0 v0) = 1) : Ci l 0 yX7_together wsX7_together dC dI ad cA [.ref (ad v0)] M0 (fun r M' => ∃ a : Int, r = sI a ∧ M0 = M' ∧ 0 ≤ a ∧ a ≤ 54 ∧ (a = (psF (rwX M0 v0 12) (M0.1 v0 0).toInt.toNat))) := by
  refine ci_of (cc := cX7_together) (maxL := 3) (ty := .int) (lv := [(0, .ref (ad v0))]) (by decide) rfl (fun r M' hp => rfl) (Nat.le_of_ble_eq_true rfl) rfl ?_
  intro p e s m args below meth c A Q C hret
  have u101b := hM0.rd (i := v0) (c := 6) (k := 0) cv0 (show s_b 6 0 = (0, 6) from rfl)
  refine y_iconst C dX7_together_0 ?_
  refine j_istore_n C 1 [(1, .int (sI 0)), (0, .ref (ad v0))] dX7_together_1 rfl (by decide) rfl ?_
  refine y_iconst C dX7_together_2 ?_
  refine j_istore_n C 2 [(2, .int (sI 0)), (1, .int (sI 0)), (0, .ref (ad v0))] dX7_together_3 rfl (by decide) rfl ?_
  have u102z : psF (rwX M0 v0 12) (0 : Int).toNat = 0 := rfl
  have L115 : ∀ (n113 : Nat), ∀ (a116 : Int) (a117 : Int), (0 ≤ a116 ∧ a116 ≤ 54 ∧ 0 ≤ a117 ∧ a117 ≤ 6 ∧ (a116 = psF (rwX M0 v0 12) (a117).toNat) ∧ (a116 ≤ 9 * a117) ∧ (a117 ≤ (M0.1 v0 0).toInt) ∧ (6 - a117) < (n113 : Int)) → jj p l e (cn_R 0) s m args below meth c 0 0 Q 3 dC dI ad cA A M0 4 [(0, .ref (ad v0)), (1, .int (sI a116)), (2, .int (sI a117))] [] := by
    intro n113
    induction n113 with
    | zero =>
      intro a116 a117 h118
      exfalso; omega
    | succ n113 ih114 =>
      intro a116 a117 h118
      refine j_iload_n C 2 2 dX7_together_4 rfl rfl ?_
      refine j_aload_n C 0 0 dX7_together_5 rfl rfl ?_
      refine y_getI C 6 _ _ fX7_together_9 cv0 rfl ft_6_0 sb_6_0 hM0 dX7_together_6 (fun a119 ea119 la119 ua119 => ?_)
      obtain rfl : a119 = (M0.1 v0 0).toInt := ea119
      refine y_icmp_ge C 27 dX7_together_9 (by decide) (by omega) (fun h121 => ?_) (fun h121 => ?_)
      · have u127x : a117 = (M0.1 v0 0).toInt := by omega
        have u127y : psF (rwX M0 v0 12) (a117).toNat = psF (rwX M0 v0 12) (M0.1 v0 0).toInt.toNat := by rw [u127x]
        refine j_iload_n C 1 1 dX7_together_27 rfl rfl ?_
        exact hret _ _ _ _ dX7_together_28 ⟨a116, rfl, rfl, by exact ⟨h118.1, ⟨h118.2.1, (by (clear u127x h121 ua119 la119 ih114 u102z u101b hret C hp0 cv0 hM0; omega))⟩⟩⟩
      · have u122o := od_at (M := M0) (p := v0) (by exact hp0) a117
        have u122s := psF_s (rwX M0 v0 12) a117 (by exact h118.2.2.1)
        have u122r := congrArg Int32.toInt (rx_b M0 v0 12 (b := a117) (by exact ⟨h118.2.2.1, (by (clear u122s u122o ua119 la119 ih114 u102z hret C hp0 cv0 hM0; omega))⟩)).2.2
        refine j_iload_n C 1 1 dX7_together_12 rfl rfl ?_
        refine j_aload_n C 0 0 dX7_together_13 rfl rfl ?_
        refine y_getTE C 6 23 fX7_together_25 cv0 rfl ft_6_4 rfl sm_6_4 st_6_4 (by decide) hM0 dX7_together_14 (fun cv123 => ?_)
        refine j_iload_n C 2 2 dX7_together_17 rfl rfl ?_
        refine y_iald C 23 6 _ _ cv123 rfl rfl ak_23 an_23 rfl (sb_23 _) hM0 dX7_together_18 (by exact ⟨h118.2.2.1, (by (clear cv123 u122r u122s u122o ua119 la119 ih114 u102z hret C hp0 cv0 hM0; omega))⟩) (fun a124 ea124 la124 ua124 => ?_)
        obtain rfl : a124 = (M0.1 (s_p0 v0 4) (a117).toNat).toInt := ea124
        have u125 : 0 ≤ (M0.1 (s_p0 v0 4) (a117).toNat).toInt ∧ (M0.1 (s_p0 v0 4) (a117).toNat).toInt ≤ 9 := by (clear cv123 u122r u122s ua119 la119 ih114 u102z u101b hret C hp0 cv0 hM0; omega)
        refine y_iadd C dX7_together_19 ?_
        refine j_istore_n C 1 [(1, .int (sI (a116 + (M0.1 (s_p0 v0 4) (a117).toNat).toInt))), (0, .ref (ad v0)), (2, .int (sI a117))] dX7_together_20 rfl (by decide) rfl ?_
        refine y_iinc C 2 [(2, .int (sI (a117 + 1))), (1, .int (sI (a116 + (M0.1 (s_p0 v0 4) (a117).toNat).toInt))), (0, .ref (ad v0))] dX7_together_21 rfl (by decide) rfl ?_
        refine j_goto C 4 dX7_together_24 (by decide) ?_
        have u126z : psF (rwX M0 v0 12) (0 : Int).toNat = 0 := rfl
        refine j_lv [2, 1, 0] rfl ?_; exact ih114 (a116 + (M0.1 (s_p0 v0 4) (a117).toNat).toInt) (a117 + 1) (by (clear u126z cv123 u122o ua119 la119 ih114 u102z hret C hp0 cv0 hM0; omega))
  refine j_lv [2, 1, 0] rfl ?_; exact L115 2010 0 0 (by exact ⟨(by decide), ⟨(by decide), ⟨(by decide), ⟨(by decide), ⟨u102z.symm, ⟨(by decide), ⟨u101b.1, (by decide)⟩⟩⟩⟩⟩⟩⟩)
set_option maxHeartbeats 4000000 in
theorem s2_X9_draw {l : Launch} {dC : Nat → ClassId} {dI : Nat → Nat → Nat} {ad : Nat → Nat} {cA : Nat → ClassId} {pr : Nat → Nat → Bool} {Kz : mm_M} {M0 : mm_M} (hM0 : INV pr Kz M0) (hpr : PX pr)  : Ci l 0 yX9_draw wsX9_draw dC dI ad cA [.ref (ad 12)] M0 (fun r M' => ∃ a : Int, r = sI a ∧ INV pr Kz M' ∧ FX [12] M0 M' ∧ 0 ≤ a ∧ a ≤ 65535 ∧ (b01 (M'.1 12 = uR (M0.1 12) 8 (dxF (M0.1 12 8).toInt)) = 1) ∧ (a = dwF (M0.1 12 8).toInt)) := by
  refine ci_of (cc := cX9_draw) (maxL := 1) (ty := .int) (lv := [(0, .ref (ad 12))]) (by decide) rfl (fun r M' hp => rfl) (Nat.le_of_ble_eq_true rfl) rfl ?_
  intro p e s m args below meth c A Q C hret
  refine j_aload_n C 0 0 dX9_draw_0 rfl rfl ?_
  refine y_ldc C 1103515245 dX9_draw_1 kX9_draw_44 rfl ?_
  refine j_aload_n C 0 0 dX9_draw_3 rfl rfl ?_
  refine y_getI C 8 _ _ fX9_draw_37 rfl rfl ft_8_8 sb_8_8 hM0 dX9_draw_4 (fun a101 ea101 la101 ua101 => ?_)
  obtain rfl : a101 = (M0.1 12 8).toInt := ea101
  refine y_imulN C dX9_draw_7 (fun a103 la103 ua103 ha103 => ?_)
  refine y_sipush C dX9_draw_8 rfl ?_
  refine e_iadd C dX9_draw_11 (fun lb104 ub104 => ?_)
  refine y_putIF C 8 qX9_draw_37 rfl rfl ft_8_8 sb_8_8 hM0 (PX.w hpr rfl rfl) dX9_draw_12 (fun M105 eM105 hM105 => ?_)
  refine j_aload_n C 0 0 dX9_draw_15 rfl rfl ?_
  refine y_getI C 8 _ _ fX9_draw_37 rfl rfl ft_8_8 sb_8_8 hM105 dX9_draw_16 (fun a106 ea106 la106 ua106 => ?_)
  obtain rfl : a106 = (M105.1 12 8).toInt := ea106
  refine y_bipush C dX9_draw_19 rfl ?_
  refine e_iushr16 C dX9_draw_21 (fun lb108 ub108 => ?_)
  have u109d := dx_w (M := M0) (N := M105) (v := 12) eM105 ha103 rfl
  have u109e := u109d.2
  exact hret _ _ _ _ dX9_draw_22 ⟨(ushrI (M105.1 12 8).toInt 16), rfl, hM105, (FX.rf.wI eM105 (by decide)), by exact ⟨lb108, ⟨ub108, ⟨u109d.1, u109d.2⟩⟩⟩⟩
set_option maxHeartbeats 4000000 in
theorem s2_X7_comerFor {l : Launch} {dC : Nat → ClassId} {dI : Nat → Nat → Nat} {ad : Nat → Nat} {cA : Nat → ClassId} {pr : Nat → Nat → Bool} {Kz : mm_M} {M0 : mm_M} (hM0 : INV pr Kz M0) {v0 : Nat} (cv0 : s_c v0 = 6) (a1 : Int) (ha1 : -2147483648 ≤ a1 ∧ a1 ≤ 2147483647) (hp0 : b01 (ODB M0 v0) = 1) (hp1 : a1 < psF (rwX M0 v0 12) (M0.1 v0 0).toInt.toNat) (hp2 : 0 ≤ a1 ∧ a1 ≤ 53) : Ci l 0 yX7_comerFor wsX7_comerFor dC dI ad cA [.ref (ad v0), .int (sI a1)] M0 (fun r M' => ∃ a : Int, r = sI a ∧ M0 = M' ∧ 0 ≤ a ∧ a ≤ 5 ∧ (a = (coR (rwX M0 v0 12) (6 - 0 : Int).toNat 0 a1))) := by
  refine ci_of (cc := cX7_comerFor) (maxL := 4) (ty := .int) (lv := [(0, .ref (ad v0)), (1, .int (sI a1))]) (by decide) rfl (fun r M' hp => rfl) (Nat.le_of_ble_eq_true rfl) rfl ?_
  intro p e s m args below meth c A Q C hret
  have u101b := hM0.rd (i := v0) (c := 6) (k := 0) cv0 (show s_b 6 0 = (0, 6) from rfl)
  refine y_iconst C dX7_comerFor_0 ?_
  refine j_istore_n C 2 [(2, .int (sI 0)), (0, .ref (ad v0)), (1, .int (sI a1))] dX7_comerFor_1 rfl (by decide) rfl ?_
  refine y_iconst C dX7_comerFor_2 ?_
  refine j_istore_n C 3 [(3, .int (sI 0)), (2, .int (sI 0)), (0, .ref (ad v0)), (1, .int (sI a1))] dX7_comerFor_3 rfl (by decide) rfl ?_
  have u102z : psF (rwX M0 v0 12) (0 : Int).toNat = 0 := rfl
  have u102y : coR (rwX M0 v0 12) (6 - 0 : Int).toNat 0 (a1 - 0) = coR (rwX M0 v0 12) (6 - 0 : Int).toNat 0 a1 := congrArg _ (Int.sub_zero a1)
  have L118 : ∀ (n116 : Nat), ∀ (a119 : Int) (a120 : Int), (0 ≤ a119 ∧ a119 ≤ 54 ∧ 0 ≤ a120 ∧ a120 ≤ 6 ∧ (a119 = psF (rwX M0 v0 12) (a120).toNat) ∧ (a119 ≤ a1) ∧ (a120 ≤ (M0.1 v0 0).toInt) ∧ (coR (rwX M0 v0 12) (6 - a120).toNat a120 (a1 - a119) = coR (rwX M0 v0 12) (6 - 0 : Int).toNat 0 a1) ∧ (6 - a120) < (n116 : Int)) → jj p l e (cn_R 0) s m args below meth c 0 0 Q 4 dC dI ad cA A M0 4 [(0, .ref (ad v0)), (1, .int (sI a1)), (2, .int (sI a119)), (3, .int (sI a120))] [] := by
    intro n116
    induction n116 with
    | zero =>
      intro a119 a120 h121
      exfalso; omega
    | succ n116 ih117 =>
      intro a119 a120 h121
      refine j_iload_n C 3 3 dX7_comerFor_4 rfl rfl ?_
      refine j_aload_n C 0 0 dX7_comerFor_5 rfl rfl ?_
      refine y_getI C 6 _ _ fX7_comerFor_9 cv0 rfl ft_6_0 sb_6_0 hM0 dX7_comerFor_6 (fun a122 ea122 la122 ua122 => ?_)
      obtain rfl : a122 = (M0.1 v0 0).toInt := ea122
      refine y_icmp_ge C 34 dX7_comerFor_9 (by decide) (by (clear ua122 la122 ih117 u102y u102z hret C hp2 hp1 hp0 ha1 cv0 hM0; omega)) (fun h124 => ?_) (fun h124 => ?_)
      · have u125x : a120 = (M0.1 v0 0).toInt := by (clear ua122 la122 ih117 u102y u102z u101b hret C hp2 hp1 hp0 ha1 cv0 hM0; omega)
        have u125y : psF (rwX M0 v0 12) (a120).toNat = psF (rwX M0 v0 12) (M0.1 v0 0).toInt.toNat := by rw [u125x]
        refine y_iconst C dX7_comerFor_34 ?_
        exact hret _ _ _ _ dX7_comerFor_35 ⟨(-1), rfl, rfl, by exact ⟨(by (clear u125x h124 ua122 la122 ih117 u102y u102z u101b hret C hp2 hp0 ha1 cv0 hM0; omega)), ⟨(by decide), (by (clear u125x h124 ua122 la122 ih117 u102y u102z u101b hret C hp2 hp0 ha1 cv0 hM0; omega))⟩⟩⟩
      · have u126o := od_at (M := M0) (p := v0) (by exact hp0) a120
        have u126s := psF_s (rwX M0 v0 12) a120 (by exact h121.2.2.1)
        have u126r := congrArg Int32.toInt (rx_b M0 v0 12 (b := a120) (by exact ⟨h121.2.2.1, (by (clear u126s u126o ua122 la122 ih117 u102y u102z hret C hp2 hp1 hp0 ha1 cv0 hM0; omega))⟩)).2.2
        have u126c := coR_s (rwX M0 v0 12) (b := a120) (l := a1 - a119) (by (clear u126r u126s u126o ua122 la122 ih117 u102y u102z hret C hp2 hp1 hp0 ha1 cv0 hM0; omega))
        have u126e : coR (rwX M0 v0 12) (6 - (a120 + 1)).toNat (a120 + 1) (a1 - a119 - ((rwX M0 v0 12) (20 + a120).toNat).toInt) = coR (rwX M0 v0 12) (6 - (a120 + 1)).toNat (a120 + 1) (a1 - (a119 + ((rwX M0 v0 12) (20 + a120).toNat).toInt)) := by rw [show a1 - a119 - ((rwX M0 v0 12) (20 + a120).toNat).toInt = a1 - (a119 + ((rwX M0 v0 12) (20 + a120).toNat).toInt) by omega]
        refine j_iload_n C 2 2 dX7_comerFor_12 rfl rfl ?_
        refine j_aload_n C 0 0 dX7_comerFor_13 rfl rfl ?_
        refine y_getTE C 6 23 fX7_comerFor_25 cv0 rfl ft_6_4 rfl sm_6_4 st_6_4 (by decide) hM0 dX7_comerFor_14 (fun cv127 => ?_)
        refine j_iload_n C 3 3 dX7_comerFor_17 rfl rfl ?_
        refine y_iald C 23 6 _ _ cv127 rfl rfl ak_23 an_23 rfl (sb_23 _) hM0 dX7_comerFor_18 (by exact ⟨h121.2.2.1, (by (clear cv127 u126e u126c u126r u126s u126o ua122 la122 ih117 u102y u102z hret C hp2 hp1 hp0 ha1 cv0 hM0; omega))⟩) (fun a128 ea128 la128 ua128 => ?_)
        obtain rfl : a128 = (M0.1 (s_p0 v0 4) (a120).toNat).toInt := ea128
        have u129 : 0 ≤ (M0.1 (s_p0 v0 4) (a120).toNat).toInt ∧ (M0.1 (s_p0 v0 4) (a120).toNat).toInt ≤ 9 := by (clear cv127 u126e ua122 la122 ih117 u102y u102z u101b hret C hp2 hp1 hp0 ha1 cv0 hM0; omega)
        refine y_iadd C dX7_comerFor_19 ?_
        refine j_istore_n C 2 [(2, .int (sI (a119 + (M0.1 (s_p0 v0 4) (a120).toNat).toInt))), (0, .ref (ad v0)), (1, .int (sI a1)), (3, .int (sI a120))] dX7_comerFor_20 rfl (by decide) rfl ?_
        refine j_iload_n C 0 2 dX7_comerFor_21 rfl rfl ?_
        refine j_iload_n C 2 1 dX7_comerFor_22 rfl rfl ?_
        refine y_icmp_le C 28 dX7_comerFor_23 (by decide) (by exact ⟨⟨(by (clear cv127 u126e u126c u126o h124 ua122 la122 ih117 u102y u102z u101b hret C hp1 hp0 cv0 hM0; omega)), (by (clear cv127 u126e u126c u126o h124 ua122 la122 ih117 u102y u102z u101b hret C hp1 hp0 cv0 hM0; omega))⟩, ⟨ha1.1, ha1.2⟩⟩) (fun h130 => ?_) (fun h130 => ?_)
        · have u131q : coR (rwX M0 v0 12) (6 - (a120 + 1)).toNat (a120 + 1) (a1 - (a119 + (M0.1 (s_p0 v0 4) (a120).toNat).toInt)) = coR (rwX M0 v0 12) (6 - (a120 + 1)).toNat (a120 + 1) (a1 - (a119 + ((rwX M0 v0 12) (20 + a120).toNat).toInt)) := by rw [show (a119 + (M0.1 (s_p0 v0 4) (a120).toNat).toInt) = a119 + ((rwX M0 v0 12) (20 + a120).toNat).toInt by (clear h130 u129 ua128 la128 cv127 u126e u126c u126s u126o h124 ua122 la122 h121 ih117 u102y u102z u101b hret C hp2 hp1 hp0 ha1 cv0 hM0; omega)]
          refine y_iinc C 3 [(3, .int (sI (a120 + 1))), (2, .int (sI (a119 + (M0.1 (s_p0 v0 4) (a120).toNat).toInt))), (0, .ref (ad v0)), (1, .int (sI a1))] dX7_comerFor_28 rfl (by decide) rfl ?_
          refine j_goto C 4 dX7_comerFor_31 (by decide) ?_
          have u132z : psF (rwX M0 v0 12) (0 : Int).toNat = 0 := rfl
          have u132y : coR (rwX M0 v0 12) (6 - 0 : Int).toNat 0 (a1 - 0) = coR (rwX M0 v0 12) (6 - 0 : Int).toNat 0 a1 := congrArg _ (Int.sub_zero a1)
          refine j_lv [2, 3, 1, 0] rfl ?_; exact ih117 (a119 + (M0.1 (s_p0 v0 4) (a120).toNat).toInt) (a120 + 1) (by (clear u132y u132z cv127 u126o ua122 la122 ih117 u102y u102z hret C hp1 hp0 cv0 hM0; omega))
        · refine j_iload_n C 3 3 dX7_comerFor_26 rfl rfl ?_
          exact hret _ _ _ _ dX7_comerFor_27 ⟨a120, rfl, rfl, by exact ⟨h121.2.2.1, ⟨(by (clear u129 ua128 la128 cv127 u126e u126o ua122 la122 ih117 u102y u102z hret C hp2 hp1 hp0 ha1 cv0 hM0; omega)), (by (clear u129 ua128 la128 cv127 u126e u126o ua122 la122 ih117 u102y u102z hret C hp2 hp1 hp0 ha1 cv0 hM0; omega))⟩⟩⟩
  refine j_lv [2, 3, 1, 0] rfl ?_; exact L118 2010 0 0 (by exact ⟨(by decide), ⟨(by decide), ⟨(by decide), ⟨(by decide), ⟨u102z.symm, ⟨hp2.1, ⟨u101b.1, ⟨u102y, (by decide)⟩⟩⟩⟩⟩⟩⟩⟩)
set_option maxHeartbeats 4000000 in
theorem s2_X1_passDay {l : Launch} {dC : Nat → ClassId} {dI : Nat → Nat → Nat} {ad : Nat → Nat} {cA : Nat → ClassId} {pr : Nat → Nat → Bool} {Kz : mm_M} {M0 : mm_M} (hM0 : INV pr Kz M0) (hpr : PX pr) {v1 : Nat} (cv1 : s_c v1 = 6) (hp0 : b01 (ODB M0 v1) = 1) : Ci l 1 yX1_passDay wsX1_passDay dC dI ad cA [.ref (ad 87), .ref (ad v1), .ref (ad 12)] M0 (fun r M' => ∃ a : Int, r = sI a ∧ INV pr Kz M' ∧ FX [12] M0 M' ∧ (-1) ≤ a ∧ a ≤ 5 ∧ (a = pdA (rwX M0 v1 12)) ∧ (b01 (rwX M' v1 12 = pdS (rwX M0 v1 12)) = 1)) := by
  refine ci_of (cc := cX1_passDay) (maxL := 4) (ty := .int) (lv := [(0, .ref (ad 87)), (1, .ref (ad v1)), (2, .ref (ad 12))]) (by decide) rfl (fun r M' hp => rfl) (Nat.le_of_ble_eq_true rfl) rfl ?_
  intro p e s m args below meth c A Q C hret
  refine j_aload_n C 2 2 dX1_passDay_0 rfl rfl ?_
  refine j_dup C dX1_passDay_1 rfl ?_
  refine y_getI C 8 _ _ fX1_passDay_63 rfl rfl ft_8_7 sb_8_7 hM0 dX1_passDay_2 (fun a101 ea101 la101 ua101 => ?_)
  obtain rfl : a101 = (M0.1 12 7).toInt := ea101
  refine y_iconst C dX1_passDay_5 ?_
  refine e_iadd C dX1_passDay_6 (fun lb103 ub103 => ?_)
  refine y_putIF C 8 qX1_passDay_63 rfl rfl ft_8_7 sb_8_7 hM0 (PX.w hpr rfl rfl) dX1_passDay_7 (fun M104 eM104 hM104 => ?_)
  have u105g : rwX M104 v1 12 = dgS (rwX M0 v1 12) := rx_31 cv1 rfl eM104
  have u105o : b01 (ODB M104 v1) = 1 := b01_i (by have z := b01_e (P := ODB M0 v1) (by exact hp0); have y := (ple_f (p := v1) ((FX.rf.wI eM104 (by decide)) : FX [12] M0 M104) cv1 (by decide)); unfold ODB; rw [y.1, y.2.2.2.1]; exact z)
  have u105b := hM104.rd (i := v1) (c := 6) (k := 0) cv1 (show s_b 6 0 = (0, 6) from rfl)
  have u105t : psF (rwX M104 v1 12) (M104.1 v1 0).toInt.toNat = ogF (dgS (rwX M0 v1 12)) := (ps_v M104 v1 12 12 (by omega)).trans (by rw [show psF (rwX M104 v1 12) (M104.1 v1 0).toInt.toNat = ogF (rwX M104 v1 12) from rfl, u105g])
  refine j_aload_n C 1 1 dX1_passDay_10 rfl rfl ?_
  refine j_callVi C (d := 0) (As := []) (st := []) v1 (s_lt cv1 rfl) (s_kc (c := 6) cv1 rfl) (by decide) rfl (s2_X7_together hM104 cv1 (by exact u105o)) gX1_passDay_X7_together rfl hdX7_together (by decide) (Nat.le_of_ble_eq_true rfl) dX1_passDay_11 rfl (fun r106 M107 h108 => ?_)
  obtain ⟨a110, rfl, rfl, h109⟩ := h108
  obtain rfl : a110 = (psF (rwX M104 v1 12) (M104.1 v1 0).toInt.toNat) := by exact h109.2.2
  refine j_istore_n C 3 [(3, .int (sI (psF (rwX M104 v1 12) (M104.1 v1 0).toInt.toNat))), (0, .ref (ad 87)), (1, .ref (ad v1)), (2, .ref (ad 12))] dX1_passDay_14 rfl (by decide) rfl ?_
  refine j_iload_n C 0 3 dX1_passDay_15 rfl rfl ?_
  refine y_if_le C 32 dX1_passDay_16 (by decide) (by (clear u105b u105o u105g hM104 eM104 ub103 lb103 ua101 la101 hret C hp0 cv1 hpr hM0; omega)) (fun h111 => ?_) (fun h111 => ?_)
  · refine y_iconst C dX1_passDay_32 ?_
    have u112k := pd_0 (f := (rwX M0 v1 12)) u105g (by (clear u105b u105o u105g hM104 eM104 ub103 lb103 ua101 la101 hret C hp0 cv1 hpr hM0; omega))
    exact hret _ _ _ _ dX1_passDay_33 ⟨(-1), rfl, hM104, (FX.rf.wI eM104 (by decide)), by exact ⟨(by decide), ⟨(by decide), ⟨u112k.1.symm, u112k.2⟩⟩⟩⟩
  · refine j_aload_n C 2 1 dX1_passDay_19 rfl rfl ?_
    refine j_aload_n C 3 2 dX1_passDay_20 rfl rfl ?_
    refine j_callVi C (d := 0) (As := []) (st := [.ref (ad v1)]) 12 (s_lt rfl rfl) (s_kc (c := 8) rfl rfl) (by decide) rfl (s2_X9_draw hM104 hpr) gX1_passDay_X9_draw rfl hdX9_draw (by decide) (Nat.le_of_ble_eq_true rfl) dX1_passDay_21 rfl (fun r113 M114 h115 => ?_)
    obtain ⟨a117, rfl, hM114, fM114, h116⟩ := h115
    refine j_iload_n C 0 3 dX1_passDay_24 rfl rfl ?_
    refine e_irem C dX1_passDay_25 (by (clear fM114 hM114 u105t u105b u105o u105g hM104 eM104 ub103 lb103 ua101 la101 hret C hp0 cv1 hpr hM0; exact ⟨h116.1, ⟨(by omega), ⟨(by omega), (by omega)⟩⟩⟩)) (fun lb118 ub118 => ?_)
    have u119h : rwX M114 v1 12 = deS (rwX M0 v1 12) := (rx_d cv1 rfl fM114 (by exact h116.2.2.1)).trans (congrArg drS u105g)
    have u119o : b01 (ODB M114 v1) = 1 := b01_i (by have z := b01_e (P := ODB M0 v1) (by exact hp0); have y := (ple_f (p := v1) (((FX.rf.wI eM104 (by decide)).tr fM114 (by decide)) : FX [12] M0 M114) cv1 (by decide)); unfold ODB; rw [y.1, y.2.2.2.1]; exact z)
    have u119p := (ple_f (p := v1) ((FX.rf.tr fM114 (by decide)) : FX [12] M104 M114) cv1 (by decide))
    have u119e : psF (rwX M114 v1 12) (M114.1 v1 0).toInt.toNat = psF (rwX M104 v1 12) (M104.1 v1 0).toInt.toNat := by rw [u119p.1]; exact psF_c _ (by (clear u119p u119o u119h ub118 lb118 h116 fM114 hM114 h111 h109 u105t u105o u105g hM104 eM104 ub103 lb103 ua101 la101 hret C hp0 cv1 hpr hM0; omega)) (fun k h0 h1 => by unfold rwX; rw [cl_20 M114 v1 12 _ (by exact ⟨h0, (by (clear u119p u119o u119h ub118 lb118 h116 fM114 hM114 h111 h109 u105t u105b u105o u105g hM104 eM104 ub103 lb103 ua101 la101 hret C hp0 cv1 hpr hM0; omega))⟩), cl_20 M104 v1 12 _ (by exact ⟨h0, (by omega)⟩), u119p.2.2.2.1])
    refine j_callVi C (d := 0) (As := [.int (sI (rmI a117 (psF (rwX M104 v1 12) (M104.1 v1 0).toInt.toNat)))]) (st := []) v1 (s_lt cv1 rfl) (s_kc (c := 6) cv1 rfl) (by decide) rfl (s2_X7_comerFor hM114 cv1 (rmI a117 (psF (rwX M104 v1 12) (M104.1 v1 0).toInt.toNat)) (by (clear u119p u119o u119h h116 fM114 hM114 u105b u105o u105g hM104 eM104 ub103 lb103 ua101 la101 hret C hp0 cv1 hpr hM0; omega)) (by exact u119o) (by (clear u119p u119o u119h lb118 h116 fM114 hM114 h111 h109 u105b u105o u105g hM104 eM104 ub103 lb103 ua101 la101 hret C hp0 cv1 hpr hM0; omega)) (by exact ⟨lb118, (by (clear u119p u119o u119h h116 fM114 hM114 u105b u105o u105g hM104 eM104 ub103 lb103 ua101 la101 hret C hp0 cv1 hpr hM0; omega))⟩)) gX1_passDay_X7_comerFor rfl hdX7_comerFor (by decide) (Nat.le_of_ble_eq_true rfl) dX1_passDay_26 rfl (fun r120 M121 h122 => ?_)
    obtain ⟨a124, rfl, rfl, h123⟩ := h122
    obtain rfl : a124 = (coR (rwX M114 v1 12) (6 - 0 : Int).toNat 0 (rmI a117 (psF (rwX M104 v1 12) (M104.1 v1 0).toInt.toNat))) := by exact h123.2.2
    refine j_goto C 33 dX1_passDay_29 (by decide) ?_
    have u125x : (dgS (rwX M0 v1 12) 32).toInt = (M104.1 12 8).toInt := by rw [← u105g]; rfl
    have u125a : a117 = dwF (M104.1 12 8).toInt := by (clear u125x h123 u119e u119p u119o u119h ub118 lb118 fM114 hM114 h111 h109 u105t u105b u105o u105g hM104 eM104 ub103 lb103 ua101 la101 hret C hp0 cv1 hpr hM0; exact h116.2.2.2)
    have u125y : rmI a117 (psF (rwX M104 v1 12) (M104.1 v1 0).toInt.toNat) = drF (dgS (rwX M0 v1 12)) (ogF (dgS (rwX M0 v1 12))) := by unfold drF; rw [u125x, u125a, u105t]
    have u125c : (coR (rwX M114 v1 12) (6 - 0 : Int).toNat 0 (rmI a117 (psF (rwX M104 v1 12) (M104.1 v1 0).toInt.toNat))) = dcF (rwX M0 v1 12) := (co_v M114 v1 12 12 _ _ _ (by decide) (by decide)).trans (by rw [u119h, u125y]; rfl)
    have u125k := pd_1 (f := (rwX M0 v1 12)) (r := (coR (rwX M114 v1 12) (6 - 0 : Int).toNat 0 (rmI a117 (psF (rwX M104 v1 12) (M104.1 v1 0).toInt.toNat)))) u119h (by (clear u125c u125y u125a u125x h123 u119p u119o u119h ub118 lb118 h116 fM114 hM114 u105b u105o u105g hM104 eM104 ub103 lb103 ua101 la101 hret C hp0 cv1 hpr hM0; omega)) u125c
    exact hret _ _ _ _ dX1_passDay_33 ⟨(coR (rwX M114 v1 12) (6 - 0 : Int).toNat 0 (rmI a117 (psF (rwX M104 v1 12) (M104.1 v1 0).toInt.toNat))), rfl, hM114, ((FX.rf.wI eM104 (by decide)).tr fM114 (by decide)), by exact ⟨(by (clear u125y u125a u125x u119e u119p u119o u119h ub118 lb118 h116 fM114 hM114 h111 h109 u105t u105b u105o u105g hM104 eM104 ub103 lb103 ua101 la101 hret C hp0 cv1 hpr hM0; omega)), ⟨h123.2.1, ⟨u125k.1, u125k.2⟩⟩⟩⟩
set_option maxHeartbeats 4000000 in
theorem s2_X1_visitBy {l : Launch} {dC : Nat → ClassId} {dI : Nat → Nat → Nat} {ad : Nat → Nat} {cA : Nat → ClassId} {pr : Nat → Nat → Bool} {Kz : mm_M} {M0 : mm_M} (hM0 : INV pr Kz M0) (hpr : PX pr) {v1 : Nat} (cv1 : s_c v1 = 6) (a3 : Int) (ha3 : -2147483648 ≤ a3 ∧ a3 ≤ 2147483647) (hp0 : b01 (APX M0 v1) = 1) (hp1 : b01 (LAW M0 v1) = 1) (hp2 : b01 (PRR (rwX M0 v1 12)) = 1) : Ci l 4 yX1_visitBy wsX1_visitBy dC dI ad cA [.ref (ad 87), .ref (ad v1), .ref (ad 12), .int (sI a3)] M0 (fun r M' => ∃ a : Int, r = sI a ∧ INV pr Kz M' ∧ FX [12, 81, 82, 83, 84, 85, 86] M0 M' ∧ (-13) ≤ a ∧ a ≤ 7 ∧ (b01 (APX M' v1) = 1) ∧ (a = aI (wvF (rwX M0 v1 12) a3) (bnF (rwX M0 v1 12) a3)) ∧ (b01 (rwX M' v1 12 = dvS (wvF (rwX M0 v1 12) a3) (rwX M0 v1 12) (vsS (rwX M0 v1 12) a3)) = 1)) := by
  refine ci_of (cc := cX1_visitBy) (maxL := 5) (ty := .int) (lv := [(0, .ref (ad 87)), (1, .ref (ad v1)), (2, .ref (ad 12)), (3, .int (sI a3))]) (by decide) rfl (fun r M' hp => rfl) (Nat.le_of_ble_eq_true rfl) rfl ?_
  intro p e s m args below meth c A Q C hret
  have u101s := shY M0 v1 12
  have u101w := wvF_s (rwX M0 v1 12) a3
  have u101B : ((rwX M0 v1 12) 1).toInt = (M0.1 v1 0).toInt := rfl
  have u101K := hM0.rd (i := 12) (c := 8) (k := 0) rfl (show s_b 8 0 = (0, 8) from rfl)
  have u1017 := hM0.rd (i := v1) (c := 6) (k := 7) cv1 (show s_b 6 7 = (0, 900) from rfl)
  have u1019 := hM0.rd (i := v1) (c := 6) (k := 9) cv1 (show s_b 6 9 = (0, 900) from rfl)
  refine j_iload_n C 3 3 dX1_visitBy_0 rfl rfl ?_
  refine y_if_lt C 12 dX1_visitBy_1 (by decide) (by exact ⟨ha3.1, ha3.2⟩) (fun h102 => ?_) (fun h102 => ?_)
  · refine y_bipush C dX1_visitBy_12 rfl ?_
    have u103k := dv_n (w := wvF (rwX M0 v1 12) a3) (f := (rwX M0 v1 12)) (N := rwX M0 v1 12) (by (clear u1019 u1017 u101K u101B u101s hret C hp2 hp1 hp0 cv1 hpr hM0; omega)) rfl (vsS (rwX M0 v1 12) a3) (bnF (rwX M0 v1 12) a3)
    exact hret _ _ _ _ dX1_visitBy_14 ⟨(-11), rfl, hM0, FX.rf, by exact ⟨(by decide), ⟨(by decide), ⟨hp0, ⟨(by (clear u1019 u1017 u101K u101B u101s hret C hp2 hp1 cv1 hpr hM0; omega)), u103k.1⟩⟩⟩⟩⟩
  · refine j_iload_n C 3 3 dX1_visitBy_4 rfl rfl ?_
    refine j_aload_n C 1 1 dX1_visitBy_5 rfl rfl ?_
    refine y_getI C 6 _ _ fX1_visitBy_15 cv1 rfl ft_6_0 sb_6_0 hM0 dX1_visitBy_6 (fun a104 ea104 la104 ua104 => ?_)
    obtain rfl : a104 = (M0.1 v1 0).toInt := ea104
    refine y_icmp_lt C 15 dX1_visitBy_9 (by decide) (by exact ⟨⟨ha3.1, ha3.2⟩, ⟨(by (clear u1019 u1017 u101K u101B u101w u101s hret C hp2 hp1 hp0 cv1 hpr hM0; omega)), (by (clear u1019 u1017 u101K u101B u101w u101s hret C hp2 hp1 hp0 cv1 hpr hM0; omega))⟩⟩) (fun h106 => ?_) (fun h106 => ?_)
    · refine j_aload_n C 2 2 dX1_visitBy_15 rfl rfl ?_
      refine j_callVi C (d := 1) (As := []) (st := []) 12 (s_lt rfl rfl) (s_kc (c := 8) rfl rfl) (by decide) rfl (s2_X9_isShut hM0) gX1_visitBy_X9_isShut rfl hdX9_isShut (by decide) (Nat.le_of_ble_eq_true rfl) dX1_visitBy_16 rfl (fun r107 M108 h109 => ?_)
      obtain ⟨a111, rfl, rfl, h110⟩ := h109
      refine y_if_eq C 25 dX1_visitBy_19 (by decide) (by omega) (fun h112 => ?_) (fun h112 => ?_)
      · refine j_aload_n C 0 0 dX1_visitBy_25 rfl rfl ?_
        refine y_getC C 1 81 fX1_visitBy_9 rfl rfl ft_1_0 sm_1_0 rfl hM0 dX1_visitBy_26 ?_
        refine j_aload_n C 1 1 dX1_visitBy_29 rfl rfl ?_
        refine j_aload_n C 2 2 dX1_visitBy_30 rfl rfl ?_
        refine j_callVv C (d := 0) (As := [.ref (ad v1), .ref (ad 12)]) (st := []) 81 (s_lt rfl rfl) (s_kc (c := 3) rfl rfl) (by decide) rfl (s2_X4_tune hM0 hpr cv1 rfl (by exact hp0)) gX1_visitBy_X4_tune rfl hdX4_tune (by decide) (Nat.le_of_ble_eq_true rfl) dX1_visitBy_31 rfl (fun M114 h115 => ?_)
        obtain ⟨hM114, fM114, h116⟩ := h115
        have ev181 : v1 = M114.2.2 81 5 := by exact h116.1.symm
        refine j_aload_n C 0 0 dX1_visitBy_34 rfl rfl ?_
        refine y_getC C 1 81 fX1_visitBy_9 rfl rfl ft_1_0 sm_1_0 rfl hM114 dX1_visitBy_35 ?_
        refine j_iload_n C 3 3 dX1_visitBy_38 rfl rfl ?_
        refine j_aload_n C 2 2 dX1_visitBy_39 rfl rfl ?_
        refine y_getI C 8 _ _ fX1_visitBy_33 rfl rfl ft_8_3 sb_8_3 hM114 dX1_visitBy_40 (fun a117 ea117 la117 ua117 => ?_)
        obtain rfl : a117 = (M0.1 12 3).toInt := s_fX fM114 (by decide) (ea117)
        refine j_aload_n C 2 2 dX1_visitBy_43 rfl rfl ?_
        refine y_getI C 8 _ _ fX1_visitBy_36 rfl rfl ft_8_4 sb_8_4 hM114 dX1_visitBy_44 (fun a119 ea119 la119 ua119 => ?_)
        obtain rfl : a119 = (M0.1 12 4).toInt := s_fX fM114 (by decide) (ea119)
        have u1217 := hM0.rd (i := v1) (c := 6) (k := 7) cv1 (show s_b 6 7 = (0, 900) from rfl)
        have u1219 := hM0.rd (i := v1) (c := 6) (k := 9) cv1 (show s_b 6 9 = (0, 900) from rfl)
        have u121p := (ple_f (p := v1) ((FX.rf.tr fM114 (by decide)) : FX [81, 82, 83, 84] M0 M114) cv1 (by decide))
        have u121L := law_p (M := M0) (N := M114) (p := v1) u121p u1217.1 u1219.1 (by exact hp1)
        have u121E := law_e u121L
        have u121E1 := u121E.1
        have u121E2 := u121E.2.1
        have u1219b := hM114.rd (i := v1) (c := 6) (k := 9) cv1 (show s_b 6 9 = (0, 900) from rfl)
        have u121x := btx_w (M := M114) (p := v1) u1219b.1 u121E2 u121E.2.2.1
        have u121r := prr_s (M := M0) (p := v1) (v := 12) (by exact hp2)
        have u121q := prx_t (M := M0) (N := M114) (v := 12) (c := s_p0 12 1) (n := (M0.1 12 0).toInt) rfl (by exact h116.2.1) (by exact h116.2.2.2) u121r
        have u121k := hM0.rd (i := 12) (c := 8) (k := 0) rfl (show s_b 8 0 = (0, 8) from rfl)
        have u121o := bo_tu (M := M0) (N := M114) (p := v1) (v := 12) (b := a3) (s := (M0.1 12 3).toInt) (h := sI (M0.1 12 4).toInt) u121p (by exact ⟨h116.2.1, ⟨u101K.1, u101K.2⟩⟩) (by exact h116.2.2.2) (by (clear u121k u121q u121r u121x u1219b u121E2 u121E1 u121E u121L u121p u1219 u1217 ua119 la119 ea119 ua117 la117 ea117 ev181 h116 fM114 hM114 h112 h110 u1019 u1017 u101K u101B u101w u101s hret C hp2 hp1 hp0 cv1 hpr hM0; omega)) (by exact u1017.1) (by exact u1019.1)
        rw [show clX M0 v1 12 (sI (M0.1 12 4).toInt) = rwX M0 v1 12 by rw [sI_o]; rfl] at u121o
        have u121b : boF (mdX M114 v1 (sI (M0.1 12 4).toInt)) a3 (M0.1 12 3).toInt = bnF (rwX M0 v1 12) a3 := u121o
        refine j_callVi C (d := 3) (As := [.int (sI a3), .int (sI (M0.1 12 3).toInt), .int (sI (M0.1 12 4).toInt)]) (st := []) 81 (s_lt rfl rfl) (s_kc (c := 3) rfl rfl) (by decide) rfl (s2_X4_choice hM114 hpr a3 (by exact ⟨ha3.1, ha3.2⟩) (M0.1 12 3).toInt (by (clear u121b u121o u121k u121q u121r u121x u1219b u121E2 u121E1 u121E u121L u121p u1219 u1217 ua119 la119 ea119 ev181 h116 fM114 hM114 h112 h110 h106 ua104 la104 h102 u1019 u1017 u101K u101B u101w u101s hret C hp2 hp1 hp0 ha3 cv1 hpr hM0; omega)) (M0.1 12 4).toInt (by (clear u121b u121o u121k u121q u121r u121x u1219b u121E2 u121E1 u121E u121L u121p u1219 u1217 ua117 la117 ea117 ev181 h116 fM114 hM114 h112 h110 h106 ua104 la104 h102 u1019 u1017 u101K u101B u101w u101s hret C hp2 hp1 hp0 ha3 cv1 hpr hM0; omega)) v1 cv1 (ev181) (by exact u121E2) (by exact u121E1) (by exact h116.2.2.1) (by exact u121x) (by exact u121q) (by (clear u121b u121o u121k u121q u121r u121x u1219b u121E2 u121E1 u121E u121L u121p u1219 u1217 ua119 la119 ea119 ua117 la117 ea117 ev181 h116 fM114 hM114 h112 h110 u1019 u1017 u101K u101B u101w u101s hret C hp2 hp1 hp0 cv1 hpr hM0; omega)) (by exact ⟨la117, ua117⟩) (by exact ⟨la119, ua119⟩)) gX1_visitBy_X4_choice rfl hdX4_choice (by decide) (Nat.le_of_ble_eq_true rfl) dX1_visitBy_47 rfl (fun r122 M123 h124 => ?_)
        obtain ⟨a126, rfl, hM123, fM123, h125⟩ := h124
        obtain rfl : a126 = (boF (mdX M114 v1 (sI (M0.1 12 4).toInt)) a3 (M0.1 12 3).toInt) := by exact h125.2.2.1
        refine j_istore C 4 [(4, .int (sI (boF (mdX M114 v1 (sI (M0.1 12 4).toInt)) a3 (M0.1 12 3).toInt))), (0, .ref (ad 87)), (1, .ref (ad v1)), (2, .ref (ad 12)), (3, .int (sI a3))] dX1_visitBy_50 (by decide) rfl ?_
        refine j_iload C 0 dX1_visitBy_52 rfl ?_
        refine y_if_ge C 60 dX1_visitBy_54 (by decide) (by (clear fM123 hM123 u121k u121q u121r u121x u1219b u121E2 u121E1 u121E u121L u121p u1219 u1217 ua119 la119 ea119 ua117 la117 ea117 ev181 h116 fM114 hM114 h112 h110 h106 ua104 la104 h102 u1019 u1017 u101K u101B u101w u101s hret C hp2 hp1 hp0 ha3 cv1 hpr hM0; omega)) (fun h127 => ?_) (fun h127 => ?_)
        · refine j_aload_n C 3 2 dX1_visitBy_60 rfl rfl ?_
          refine j_dup C dX1_visitBy_61 rfl ?_
          refine y_getI C 8 _ _ fX1_visitBy_33 rfl rfl ft_8_3 sb_8_3 hM123 dX1_visitBy_62 (fun a128 ea128 la128 ua128 => ?_)
          obtain rfl : a128 = (M0.1 12 3).toInt := s_fX fM114 (by decide) (s_fX fM123 (by decide) (ea128))
          refine y_iconst C dX1_visitBy_65 ?_
          refine j_iload C 0 dX1_visitBy_66 rfl ?_
          refine e_shl1 C 7 128 dX1_visitBy_68 rfl (by decide) (by exact ⟨h127, (by (clear ua128 la128 ea128 fM123 hM123 u121k u121q u121r u121x u1219b u121E2 u121E1 u121E u121L u121p u1219 u1217 ua119 la119 ea119 ua117 la117 ea117 ev181 h116 fM114 hM114 h112 h110 h106 ua104 la104 h102 u1019 u1017 u101K u101B u101w u101s hret C hp2 hp1 hp0 ha3 cv1 hpr hM0; omega))⟩) (fun lb130 ub130 => ?_)
          refine e_iorN C 8 255 dX1_visitBy_69 rfl (by decide) (by exact ⟨la117, ⟨ua117, ⟨(by (clear ua128 la128 h127 h125 fM123 hM123 u121b u121o u121k u121q u121r u121x u1219b u121E2 u121E1 u121E u121L u121p u1219 u1217 ua119 la119 ea119 ev181 h116 fM114 hM114 h112 h110 h106 ua104 la104 h102 u1019 u1017 u101K u101B u101w u101s hret C hp2 hp1 hp0 ha3 cv1 hpr hM0; omega)), (by (clear ua128 la128 h127 h125 fM123 hM123 u121b u121o u121k u121q u121r u121x u1219b u121E2 u121E1 u121E u121L u121p u1219 u1217 ua119 la119 ea119 ev181 h116 fM114 hM114 h112 h110 h106 ua104 la104 h102 u1019 u1017 u101K u101B u101w u101s hret C hp2 hp1 hp0 ha3 cv1 hpr hM0; omega))⟩⟩⟩) (fun lb131 ub131 ob131 => ?_)
          refine y_putI C 8 _ _ qX1_visitBy_33 rfl rfl ft_8_3 sb_8_3 hM123 (PX.w hpr rfl rfl) dX1_visitBy_70 (by exact ⟨⟨(by (clear ob131 ub130 lb130 ua128 la128 ea128 h127 h125 fM123 hM123 u121b u121o u121k u121q u121r u121x u1219b u121E2 u121E1 u121E u121L u121p u1219 u1217 ua119 la119 ea119 ua117 la117 ea117 ev181 h116 fM114 hM114 h112 h110 h106 ua104 la104 h102 u1019 u1017 u101K u101B u101w u101s hret C hp2 hp1 hp0 ha3 cv1 hpr hM0; omega)), (by (clear ob131 ub130 lb130 ua128 la128 ea128 h127 h125 fM123 hM123 u121b u121o u121k u121q u121r u121x u1219b u121E2 u121E1 u121E u121L u121p u1219 u1217 ua119 la119 ea119 ua117 la117 ea117 ev181 h116 fM114 hM114 h112 h110 h106 ua104 la104 h102 u1019 u1017 u101K u101B u101w u101s hret C hp2 hp1 hp0 ha3 cv1 hpr hM0; omega))⟩, ⟨lb131, ub131⟩⟩) (fun M132 eM132 hM132 => ?_)
          refine j_aload_n C 3 2 dX1_visitBy_73 rfl rfl ?_
          refine j_dup C dX1_visitBy_74 rfl ?_
          refine y_getI C 8 _ _ fX1_visitBy_43 rfl rfl ft_8_5 sb_8_5 hM132 dX1_visitBy_75 (fun a133 ea133 la133 ua133 => ?_)
          obtain rfl : a133 = (M0.1 12 5).toInt := s_fX fM114 (by decide) (s_fX fM123 (by decide) (s_fb eM132 (by decide) (ea133)))
          refine j_aload_n C 3 2 dX1_visitBy_78 rfl rfl ?_
          refine y_getC C 8 13 fX1_visitBy_46 rfl rfl ft_8_1 sm_8_1 rfl hM132 dX1_visitBy_79 ?_
          refine j_iload C 0 dX1_visitBy_82 rfl ?_
          refine y_iald C 25 8 _ _ rfl rfl rfl ak_25 an_25 rfl (sb_25 _) hM132 dX1_visitBy_84 (by exact ⟨h127, (by (clear ua133 la133 ea133 hM132 eM132 ob131 ub131 lb131 ub130 lb130 ua128 la128 ea128 fM123 hM123 u121k u121q u121r u121x u1219b u121E2 u121E1 u121E u121L u121p u1219 u1217 ua119 la119 ea119 ua117 la117 ea117 ev181 h116 fM114 hM114 h112 h110 h106 ua104 la104 h102 u1019 u1017 u101K u101B u101w u101s hret C hp2 hp1 hp0 ha3 cv1 hpr hM0; omega))⟩) (fun a135 ea135 la135 ua135 => ?_)
          obtain rfl : a135 = (M0.1 13 ((boF (mdX M114 v1 (sI (M0.1 12 4).toInt)) a3 (M0.1 12 3).toInt)).toNat).toInt := s_fX fM114 (by decide) (s_fX fM123 (by decide) (s_fa eM132 (by decide) (ea135)))
          refine e_iadd C dX1_visitBy_85 (fun lb136 ub136 => ?_)
          refine y_putIF C 8 qX1_visitBy_43 rfl rfl ft_8_5 sb_8_5 hM132 (PX.w hpr rfl rfl) dX1_visitBy_86 (fun M137 eM137 hM137 => ?_)
          refine j_iload C 0 dX1_visitBy_89 rfl ?_
          have u138x : (M0.1 13 ((boF (mdX M114 v1 (sI (M0.1 12 4).toInt)) a3 (M0.1 12 3).toInt)).toNat).toInt = ((rwX M0 v1 12) (33 + (boF (mdX M114 v1 (sI (M0.1 12 4).toInt)) a3 (M0.1 12 3).toInt)).toNat).toInt := (congrArg Int32.toInt (rx_k M0 v1 12 (k := (boF (mdX M114 v1 (sI (M0.1 12 4).toInt)) a3 (M0.1 12 3).toInt)) (by exact ⟨h127, (by (clear hM137 eM137 ub136 lb136 ua135 la135 ea135 ua133 la133 ea133 hM132 eM132 ob131 ub131 lb131 ub130 lb130 ua128 la128 ea128 fM123 hM123 u121k u121q u121r u121x u1219b u121E2 u121E1 u121E u121L u121p u1219 u1217 ua119 la119 ea119 ua117 la117 ea117 ev181 h116 fM114 hM114 h112 h110 h106 ua104 la104 h102 u1019 u1017 u101K u101B u101w u101s hret C hp2 hp1 hp0 ha3 cv1 hpr hM0; omega))⟩)).1).symm
          have u138r : rwX M137 v1 12 = vsS (rwX M0 v1 12) a3 := vs_x (M := M123) (f := (rwX M0 v1 12)) cv1 rfl (rx_f (p := v1) (v := 12) (ple_f (p := v1) (((FX.rf.tr fM114 (by decide)).tr fM123 (by decide)) : FX [81, 82, 83, 84, 85, 86] M0 M123) cv1 (by decide)) (ske_n (((FX.rf.tr fM114 (by decide)).tr fM123 (by decide)) : FX [81, 82, 83, 84, 85, 86] M0 M123) ⟨by decide, by decide, by decide⟩)) eM132 eM137 u121b u138x
          have u138k := dv_y (w := wvF (rwX M0 v1 12) a3) (a := bnF (rwX M0 v1 12) a3) (f := (rwX M0 v1 12)) (g := vsS (rwX M0 v1 12) a3) (N := rwX M137 v1 12) (by (clear u138r u138x hM137 eM137 ub136 lb136 ua135 la135 ea135 ua133 la133 ea133 hM132 eM132 ob131 ub131 lb131 ub130 lb130 ua128 la128 ea128 fM123 hM123 u121k u121q u121r u121x u1219b u121E2 u121E1 u121E u121L u121p u1219 u1217 ua119 la119 ea119 ua117 la117 ea117 ev181 h116 fM114 hM114 ua104 la104 u1019 u1017 u101K hret C hp2 hp1 hp0 cv1 hpr hM0; omega)) u138r
          have u1387 := hM123.rd (i := v1) (c := 6) (k := 7) cv1 (show s_b 6 7 = (0, 900) from rfl)
          have u1389 := hM123.rd (i := v1) (c := 6) (k := 9) cv1 (show s_b 6 9 = (0, 900) from rfl)
          have u138a := apx_o (M := M123) (N := M137) (p := v1) (ple_f (((FX.rf.wI eM132 (by decide)).wI eM137 (by decide)) : FX [12] M123 M137) cv1 (by decide)) ((((FX.rf.wI eM132 (by decide)).wI eM137 (by decide)) : FX [12] M123 M137).cell (by decide)) ((((FX.rf.wI eM132 (by decide)).wI eM137 (by decide)) : FX [12] M123 M137).cell (by decide)) ((((FX.rf.wI eM132 (by decide)).wI eM137 (by decide)) : FX [12] M123 M137).cell (by decide)) u1387.1 u1389.1 (by exact h125.2.2.2)
          exact hret _ _ _ _ dX1_visitBy_91 ⟨(boF (mdX M114 v1 (sI (M0.1 12 4).toInt)) a3 (M0.1 12 3).toInt), rfl, hM137, ((((FX.rf.tr fM114 (by decide)).tr fM123 (by decide)).wI eM132 (by decide)).wI eM137 (by decide)), by exact ⟨(by (clear u1389 u1387 u138r u138x hM137 eM137 ub136 lb136 ua135 la135 ea135 ua133 la133 ea133 hM132 eM132 ob131 ub131 lb131 ub130 lb130 ua128 la128 ea128 fM123 hM123 u121k u121q u121r u121x u1219b u121E2 u121E1 u121E u121L u121p u1219 u1217 ua119 la119 ea119 ua117 la117 ea117 ev181 h116 fM114 hM114 h112 h110 h106 ua104 la104 h102 u1019 u1017 u101K u101B u101w u101s hret C hp2 hp1 hp0 ha3 cv1 hpr hM0; omega)), ⟨h125.2.1, ⟨u138a, ⟨(by (clear u1389 u1387 u138r u138x hM137 eM137 ub136 lb136 ua135 la135 ea135 ua133 la133 ea133 hM132 eM132 ob131 ub131 lb131 ub130 lb130 ua128 la128 ea128 fM123 hM123 u121k u121q u121r u121x u1219b u121E2 u121E1 u121E u121L u121p u1219 u1217 ua119 la119 ea119 ua117 la117 ea117 ev181 h116 fM114 hM114 h112 h110 h106 ua104 la104 h102 u1019 u1017 u101K u101B u101w u101s hret C hp2 hp1 hp0 ha3 cv1 hpr hM0; omega)), u138k.1⟩⟩⟩⟩⟩
        · refine y_bipush C dX1_visitBy_57 rfl ?_
          have u139k := dv_n (w := wvF (rwX M0 v1 12) a3) (f := (rwX M0 v1 12)) (N := rwX M123 v1 12) (by (clear fM123 hM123 u121k u121q u121r u121x u1219b u121E2 u121E1 u121E u121L u121p u1219 u1217 ua119 la119 ea119 ua117 la117 ea117 ev181 h116 fM114 hM114 h106 ua104 la104 h102 u1019 u1017 u101K u101B u101s hret C hp2 hp1 hp0 ha3 cv1 hpr hM0; omega)) (rx_f (p := v1) (v := 12) (ple_f (p := v1) (((FX.rf.tr fM114 (by decide)).tr fM123 (by decide)) : FX [81, 82, 83, 84, 85, 86] M0 M123) cv1 (by decide)) (ske_n (((FX.rf.tr fM114 (by decide)).tr fM123 (by decide)) : FX [81, 82, 83, 84, 85, 86] M0 M123) ⟨by decide, by decide, by decide⟩)) (vsS (rwX M0 v1 12) a3) (bnF (rwX M0 v1 12) a3)
          have u139P : b01 (APX M123 v1) = 1 := by exact h125.2.2.2
          exact hret _ _ _ _ dX1_visitBy_59 ⟨(-13), rfl, hM123, ((FX.rf.tr fM114 (by decide)).tr fM123 (by decide)), by exact ⟨(by decide), ⟨(by decide), ⟨h125.2.2.2, ⟨(by (clear u139P fM123 hM123 u121k u121q u121r u121x u1219b u121E2 u121E1 u121E u121L u121p u1219 u1217 ua119 la119 ea119 ua117 la117 ea117 ev181 h116 fM114 hM114 ua104 la104 u1019 u1017 u101K hret C hp2 hp1 hp0 cv1 hpr hM0; omega)), u139k.1⟩⟩⟩⟩⟩
      · refine y_bipush C dX1_visitBy_22 rfl ?_
        have u140k := dv_n (w := wvF (rwX M0 v1 12) a3) (f := (rwX M0 v1 12)) (N := rwX M0 v1 12) (by (clear h106 ua104 la104 h102 u1019 u1017 u101K u101B hret C hp2 hp1 hp0 ha3 cv1 hpr hM0; omega)) rfl (vsS (rwX M0 v1 12) a3) (bnF (rwX M0 v1 12) a3)
        exact hret _ _ _ _ dX1_visitBy_24 ⟨(-12), rfl, hM0, FX.rf, by exact ⟨(by decide), ⟨(by decide), ⟨hp0, ⟨(by (clear ua104 la104 u1019 u1017 u101K hret C hp2 hp1 cv1 hpr hM0; omega)), u140k.1⟩⟩⟩⟩⟩
    · refine y_bipush C dX1_visitBy_12 rfl ?_
      have u141k := dv_n (w := wvF (rwX M0 v1 12) a3) (f := (rwX M0 v1 12)) (N := rwX M0 v1 12) (by (clear ua104 la104 h102 u1019 u1017 u101K u101s hret C hp2 hp1 hp0 ha3 cv1 hpr hM0; omega)) rfl (vsS (rwX M0 v1 12) a3) (bnF (rwX M0 v1 12) a3)
      exact hret _ _ _ _ dX1_visitBy_14 ⟨(-11), rfl, hM0, FX.rf, by exact ⟨(by decide), ⟨(by decide), ⟨hp0, ⟨(by (clear ua104 la104 h102 u1019 u1017 u101K u101s hret C hp2 hp1 ha3 cv1 hpr hM0; omega)), u141k.1⟩⟩⟩⟩⟩
set_option maxHeartbeats 4000000 in
theorem s2_X1_carryOut {l : Launch} {dC : Nat → ClassId} {dI : Nat → Nat → Nat} {ad : Nat → Nat} {cA : Nat → ClassId} {pr : Nat → Nat → Bool} {Kz : mm_M} {M0 : mm_M} (hM0 : INV pr Kz M0) (hpr : PX pr) {v1 : Nat} (cv1 : s_c v1 = 6) (a3 : Int) (ha3 : -9223372036854775808 ≤ a3 ∧ a3 ≤ 9223372036854775807) (hp0 : b01 (APX M0 v1) = 1) (hp1 : b01 (LAW M0 v1) = 1) (hp2 : b01 (PRR (rwX M0 v1 12)) = 1) (hp3 : 0 ≤ (M0.1 12 6).toInt ∧ (M0.1 12 6).toInt ≤ 2000000000) : Ci l 5 yX1_carryOut wsX1_carryOut dC dI ad cA [.ref (ad 87), .ref (ad v1), .ref (ad 12), .long (sJ a3)] M0 (fun r M' => ∃ a : Int, r = sI a ∧ INV pr Kz M' ∧ FX [12, 13, 81, 82, 83, 84, 85, 86] M0 M' ∧ (-2147483648) ≤ a ∧ a ≤ 2147483647 ∧ (b01 (APX M' v1) = 1) ∧ ((wnF (rwX M0 v1 12) a3 = 0 ∧ 0 ≤ a) ∨ (¬ wnF (rwX M0 v1 12) a3 = 0 ∧ a = -10 - wnF (rwX M0 v1 12) a3)) ∧ (¬ a3 = -1 ∨ a = dyA (rwX M0 v1 12)) ∧ (b01 (rwX M' v1 12 = dvS (wnF (rwX M0 v1 12) a3) (rwX M0 v1 12) (doS (rwX M0 v1 12) a3)) = 1)) := by
  refine ci_of (cc := cX1_carryOut) (maxL := 7) (ty := .int) (lv := [(0, .ref (ad 87)), (1, .ref (ad v1)), (2, .ref (ad 12)), (3, .long (sJ a3))]) (by decide) rfl (fun r M' hp => rfl) (Nat.le_of_ble_eq_true rfl) rfl ?_
  intro p e s m args below meth c A Q C hret
  have u101s := wnF_s (rwX M0 v1 12) a3
  have u1017 := hM0.rd (i := v1) (c := 6) (k := 7) cv1 (show s_b 6 7 = (0, 900) from rfl)
  have u1019 := hM0.rd (i := v1) (c := 6) (k := 9) cv1 (show s_b 6 9 = (0, 900) from rfl)
  have u101g : ((rwX M0 v1 12) 30).toInt = (M0.1 12 6).toInt := rfl
  refine j_lload_n C 3 3 dX1_carryOut_0 rfl rfl ?_
  refine y_ldc2 C (-1) dX1_carryOut_1 kX1_carryOut_77 rfl ?_
  refine y_lcmp_lt C 16 dX1_carryOut_4 dX1_carryOut_5 (by decide) (by exact ⟨⟨ha3.1, ha3.2⟩, ⟨(by decide), (by decide)⟩⟩) (fun h102 => ?_) (fun h102 => ?_)
  · refine y_bipush C dX1_carryOut_16 rfl ?_
    have u103k := co_n (f := (rwX M0 v1 12)) (N := rwX M0 v1 12) (v := a3) (a := -11) (by (clear u101g u1019 u1017 hret C hp3 hp2 hp1 hp0 cv1 hpr hM0; omega)) rfl rfl
    exact hret _ _ _ _ dX1_carryOut_18 ⟨(-11), rfl, hM0, FX.rf, by exact ⟨(by decide), ⟨(by decide), ⟨hp0, ⟨(by (clear u101g u1019 u1017 u101s hret C hp3 hp2 hp1 cv1 hpr hM0; omega)), ⟨(by (clear u101g u1019 u1017 u101s hret C hp3 hp2 hp1 cv1 hpr hM0; omega)), u103k.2⟩⟩⟩⟩⟩⟩
  · refine j_lload_n C 3 3 dX1_carryOut_8 rfl rfl ?_
    refine y_ldc2 C 1999 dX1_carryOut_9 kX1_carryOut_79 rfl ?_
    refine y_lcmp_le C 19 dX1_carryOut_12 dX1_carryOut_13 (by decide) (by exact ⟨⟨ha3.1, ha3.2⟩, ⟨(by decide), (by decide)⟩⟩) (fun h104 => ?_) (fun h104 => ?_)
    · refine j_lload_n C 3 3 dX1_carryOut_19 rfl rfl ?_
      refine y_l2i C dX1_carryOut_20 ?_
      refine j_istore C 5 [(5, .int (sI a3)), (0, .ref (ad 87)), (1, .ref (ad v1)), (2, .ref (ad 12)), (3, .long (sJ a3))] dX1_carryOut_21 (by decide) rfl ?_
      refine j_iload C 0 dX1_carryOut_23 rfl ?_
      refine y_iconst C dX1_carryOut_25 ?_
      refine y_icmp_ne C 54 dX1_carryOut_26 (by decide) (by exact ⟨⟨(by (clear u101g u1019 u1017 u101s hret C hp3 hp2 hp1 hp0 cv1 hpr hM0; omega)), (by (clear u101g u1019 u1017 u101s hret C hp3 hp2 hp1 hp0 cv1 hpr hM0; omega))⟩, ⟨(by decide), (by decide)⟩⟩) (fun h105 => ?_) (fun h105 => ?_)
      · refine j_iload C 0 dX1_carryOut_54 rfl ?_
        refine y_bipush C dX1_carryOut_56 rfl ?_
        refine y_icmp_gt C 70 dX1_carryOut_58 (by decide) (by exact ⟨⟨(by (clear h105 u101g u1019 u1017 u101s hret C hp3 hp2 hp1 hp0 cv1 hpr hM0; omega)), (by (clear h105 u101g u1019 u1017 u101s hret C hp3 hp2 hp1 hp0 cv1 hpr hM0; omega))⟩, ⟨(by decide), (by decide)⟩⟩) (fun h106 => ?_) (fun h106 => ?_)
        · refine j_iload C 0 dX1_carryOut_70 rfl ?_
          refine y_bipush C dX1_carryOut_72 rfl ?_
          refine y_icmp_lt C 95 dX1_carryOut_74 (by decide) (by exact ⟨⟨(by (clear h105 u101g u1019 u1017 u101s hret C hp3 hp2 hp1 hp0 cv1 hpr hM0; omega)), (by (clear h105 u101g u1019 u1017 u101s hret C hp3 hp2 hp1 hp0 cv1 hpr hM0; omega))⟩, ⟨(by decide), (by decide)⟩⟩) (fun h107 => ?_) (fun h107 => ?_)
          · refine j_iload C 0 dX1_carryOut_95 rfl ?_
            refine y_sipush C dX1_carryOut_97 rfl ?_
            refine y_icmp_lt C 123 dX1_carryOut_100 (by decide) (by exact ⟨⟨(by (clear h105 u101g u1019 u1017 u101s hret C hp3 hp2 hp1 hp0 cv1 hpr hM0; omega)), (by (clear h105 u101g u1019 u1017 u101s hret C hp3 hp2 hp1 hp0 cv1 hpr hM0; omega))⟩, ⟨(by decide), (by decide)⟩⟩) (fun h108 => ?_) (fun h108 => ?_)
            · refine j_iload C 0 dX1_carryOut_123 rfl ?_
              refine y_sipush C dX1_carryOut_125 rfl ?_
              refine y_icmp_lt C 151 dX1_carryOut_128 (by decide) (by exact ⟨⟨(by (clear h108 h105 u101g u1019 u1017 u101s hret C hp3 hp2 hp1 hp0 cv1 hpr hM0; omega)), (by (clear h108 h105 u101g u1019 u1017 u101s hret C hp3 hp2 hp1 hp0 cv1 hpr hM0; omega))⟩, ⟨(by decide), (by decide)⟩⟩) (fun h109 => ?_) (fun h109 => ?_)
              · refine y_bipush C dX1_carryOut_151 rfl ?_
                have u110k := co_n (f := (rwX M0 v1 12)) (N := rwX M0 v1 12) (v := a3) (a := -11) (by (clear h109 h108 u101g u1019 u1017 hret C hp3 hp2 hp1 hp0 cv1 hpr hM0; omega)) rfl rfl
                exact hret _ _ _ _ dX1_carryOut_153 ⟨(-11), rfl, hM0, FX.rf, by exact ⟨(by decide), ⟨(by decide), ⟨hp0, ⟨(by (clear h109 h108 h105 u101g u1019 u1017 u101s hret C hp3 hp2 hp1 cv1 hpr hM0; omega)), ⟨(by (clear h109 h108 h105 u101g u1019 u1017 u101s hret C hp3 hp2 hp1 cv1 hpr hM0; omega)), u110k.2⟩⟩⟩⟩⟩⟩
              · exfalso; omega
            · exfalso; omega
          · refine j_iload C 0 dX1_carryOut_77 rfl ?_
            refine y_bipush C dX1_carryOut_79 rfl ?_
            refine y_icmp_gt C 95 dX1_carryOut_81 (by decide) (by exact ⟨⟨(by (clear h105 u101g u1019 u1017 u101s hret C hp3 hp2 hp1 hp0 cv1 hpr hM0; omega)), (by (clear h105 u101g u1019 u1017 u101s hret C hp3 hp2 hp1 hp0 cv1 hpr hM0; omega))⟩, ⟨(by decide), (by decide)⟩⟩) (fun h111 => ?_) (fun h111 => ?_)
            · refine j_iload C 0 dX1_carryOut_95 rfl ?_
              refine y_sipush C dX1_carryOut_97 rfl ?_
              refine y_icmp_lt C 123 dX1_carryOut_100 (by decide) (by exact ⟨⟨(by (clear h105 u101g u1019 u1017 u101s hret C hp3 hp2 hp1 hp0 cv1 hpr hM0; omega)), (by (clear h105 u101g u1019 u1017 u101s hret C hp3 hp2 hp1 hp0 cv1 hpr hM0; omega))⟩, ⟨(by decide), (by decide)⟩⟩) (fun h112 => ?_) (fun h112 => ?_)
              · refine j_iload C 0 dX1_carryOut_123 rfl ?_
                refine y_sipush C dX1_carryOut_125 rfl ?_
                refine y_icmp_lt C 151 dX1_carryOut_128 (by decide) (by exact ⟨⟨(by (clear h105 u101g u1019 u1017 u101s hret C hp3 hp2 hp1 hp0 cv1 hpr hM0; omega)), (by (clear h105 u101g u1019 u1017 u101s hret C hp3 hp2 hp1 hp0 cv1 hpr hM0; omega))⟩, ⟨(by decide), (by decide)⟩⟩) (fun h113 => ?_) (fun h113 => ?_)
                · refine y_bipush C dX1_carryOut_151 rfl ?_
                  have u114k := co_n (f := (rwX M0 v1 12)) (N := rwX M0 v1 12) (v := a3) (a := -11) (by (clear h113 u101g u1019 u1017 hret C hp3 hp2 hp1 hp0 cv1 hpr hM0; omega)) rfl rfl
                  exact hret _ _ _ _ dX1_carryOut_153 ⟨(-11), rfl, hM0, FX.rf, by exact ⟨(by decide), ⟨(by decide), ⟨hp0, ⟨(by (clear h113 h105 u101g u1019 u1017 u101s hret C hp3 hp2 hp1 cv1 hpr hM0; omega)), ⟨(by (clear h113 h105 u101g u1019 u1017 u101s hret C hp3 hp2 hp1 cv1 hpr hM0; omega)), u114k.2⟩⟩⟩⟩⟩⟩
                · exfalso; omega
              · refine j_iload C 0 dX1_carryOut_103 rfl ?_
                refine y_sipush C dX1_carryOut_105 rfl ?_
                refine y_icmp_gt C 123 dX1_carryOut_108 (by decide) (by exact ⟨⟨(by (clear h105 u101g u1019 u1017 u101s hret C hp3 hp2 hp1 hp0 cv1 hpr hM0; omega)), (by (clear h105 u101g u1019 u1017 u101s hret C hp3 hp2 hp1 hp0 cv1 hpr hM0; omega))⟩, ⟨(by decide), (by decide)⟩⟩) (fun h115 => ?_) (fun h115 => ?_)
                · refine j_iload C 0 dX1_carryOut_123 rfl ?_
                  refine y_sipush C dX1_carryOut_125 rfl ?_
                  refine y_icmp_lt C 151 dX1_carryOut_128 (by decide) (by exact ⟨⟨(by (clear h105 u101g u1019 u1017 u101s hret C hp3 hp2 hp1 hp0 cv1 hpr hM0; omega)), (by (clear h105 u101g u1019 u1017 u101s hret C hp3 hp2 hp1 hp0 cv1 hpr hM0; omega))⟩, ⟨(by decide), (by decide)⟩⟩) (fun h116 => ?_) (fun h116 => ?_)
                  · refine y_bipush C dX1_carryOut_151 rfl ?_
                    have u117k := co_n (f := (rwX M0 v1 12)) (N := rwX M0 v1 12) (v := a3) (a := -11) (by (clear u101g u1019 u1017 hret C hp3 hp2 hp1 hp0 cv1 hpr hM0; omega)) rfl rfl
                    exact hret _ _ _ _ dX1_carryOut_153 ⟨(-11), rfl, hM0, FX.rf, by exact ⟨(by decide), ⟨(by decide), ⟨hp0, ⟨(by (clear h105 u101g u1019 u1017 u101s hret C hp3 hp2 hp1 cv1 hpr hM0; omega)), ⟨(by (clear h105 u101g u1019 u1017 u101s hret C hp3 hp2 hp1 cv1 hpr hM0; omega)), u117k.2⟩⟩⟩⟩⟩⟩
                  · refine j_aload_n C 1 0 dX1_carryOut_131 rfl rfl ?_
                    refine j_aload_n C 3 2 dX1_carryOut_132 rfl rfl ?_
                    refine j_iload C 0 dX1_carryOut_133 rfl ?_
                    refine y_sipush C dX1_carryOut_135 rfl ?_
                    refine y_isub C dX1_carryOut_138 ?_
                    refine y_bipush C dX1_carryOut_139 rfl ?_
                    refine y_idiv C dX1_carryOut_141 (by exact ⟨(by (clear h105 u101g u1019 u1017 u101s hret C hp3 hp2 hp1 hp0 cv1 hpr hM0; omega)), ⟨(by (clear h105 u101g u1019 u1017 u101s hret C hp3 hp2 hp1 hp0 cv1 hpr hM0; omega)), ⟨(by decide), (by decide)⟩⟩⟩) ?_
                    refine j_iload C 0 dX1_carryOut_142 rfl ?_
                    refine y_bipush C dX1_carryOut_144 rfl ?_
                    refine y_irem C dX1_carryOut_146 (by exact ⟨(by (clear h105 u101g u1019 u1017 u101s hret C hp3 hp2 hp1 hp0 cv1 hpr hM0; omega)), ⟨(by (clear h105 u101g u1019 u1017 u101s hret C hp3 hp2 hp1 hp0 cv1 hpr hM0; omega)), ⟨(by decide), (by decide)⟩⟩⟩) ?_
                    refine j_callVi C (d := 2) (As := [.ref (ad 12), .int (sI ((a3 - 1000) / 100)), .int (sI (a3 % 100))]) (st := []) 87 (s_lt rfl rfl) (s_kc (c := 1) rfl rfl) (by decide) rfl (s2_X1_reprice hM0 hpr ((a3 - 1000) / 100) (by (clear h105 u101g u1019 u1017 u101s hret C hp3 hp2 hp1 hp0 cv1 hpr hM0; omega)) (a3 % 100) (by (clear h116 h115 h112 h111 h107 h106 h105 h104 h102 u101g u1019 u1017 u101s hret C hp3 hp2 hp1 hp0 ha3 cv1 hpr hM0; omega)) v1 cv1) gX1_carryOut_X1_reprice rfl hdX1_reprice (by decide) (Nat.le_of_ble_eq_true rfl) dX1_carryOut_147 rfl (fun r118 M119 h120 => ?_)
                    obtain ⟨a122, rfl, hM119, fM119, h121⟩ := h120
                    have u123w := wpF_s (rwX M0 v1 12) ((a3 - 1000) / 100) (a3 % 100)
                    have u123b := prr_k (f := (rwX M0 v1 12)) (by exact hp2) ((a3 - 1000) / 100)
                    have u123k := co_y (f := (rwX M0 v1 12)) (N := rwX M119 v1 12) (G := psS (rwX M0 v1 12) ((a3 - 1000) / 100) (a3 % 100)) (v := a3) (W := wpF (rwX M0 v1 12) ((a3 - 1000) / 100) (a3 % 100)) (a := a122) (A := ((rwX M0 v1 12) (33 + (a3 - 1000) / 100).toNat).toInt) (by (clear u123b u123w h121 fM119 hM119 h115 h112 h111 h107 h106 h105 h102 u101g u1019 u1017 hret C hp3 hp2 hp1 hp0 ha3 cv1 hpr hM0; omega)) (do_p (rwX M0 v1 12) (by (clear u123b u123w h121 fM119 hM119 h105 u101g u1019 u1017 u101s hret C hp3 hp2 hp1 hp0 cv1 hpr hM0; omega))) (by exact h121.2.2.1) (by exact h121.2.2.2) (fun q => by (clear h121 fM119 hM119 h105 u101g u1019 u1017 u101s hret C hp3 hp2 hp1 hp0 cv1 hpr hM0; omega)) (by (clear h121 fM119 hM119 h105 u101g u1019 u1017 u101s hret C hp3 hp2 hp1 hp0 cv1 hpr hM0; omega))
                    have u123A := apx_o (M := M0) (N := M119) (p := v1) (ple_f ((FX.rf.tr fM119 (by decide)) : FX [13] M0 M119) cv1 (by decide)) (((FX.rf.tr fM119 (by decide)) : FX [13] M0 M119).cell (by decide)) (((FX.rf.tr fM119 (by decide)) : FX [13] M0 M119).cell (by decide)) (((FX.rf.tr fM119 (by decide)) : FX [13] M0 M119).cell (by decide)) (by exact u1017.1) (by exact u1019.1) (by exact hp0)
                    exact hret _ _ _ _ dX1_carryOut_150 ⟨a122, rfl, hM119, (FX.rf.tr fM119 (by decide)), by exact ⟨h121.1, ⟨h121.2.1, ⟨u123A, ⟨u123k.1, ⟨(by (clear u123b u123w fM119 hM119 h105 u101g u1019 u1017 u101s hret C hp3 hp2 hp1 hp0 cv1 hpr hM0; omega)), u123k.2⟩⟩⟩⟩⟩⟩
                · refine j_aload_n C 1 0 dX1_carryOut_111 rfl rfl ?_
                  refine j_aload_n C 3 2 dX1_carryOut_112 rfl rfl ?_
                  refine j_iload C 0 dX1_carryOut_113 rfl ?_
                  refine y_sipush C dX1_carryOut_115 rfl ?_
                  refine y_isub C dX1_carryOut_118 ?_
                  refine j_callVi C (d := 2) (As := [.ref (ad 12), .int (sI (a3 - 200))]) (st := []) 87 (s_lt rfl rfl) (s_kc (c := 1) rfl rfl) (by decide) rfl (s2_X1_turn hM0 hpr (a3 - 200) (by (clear h105 u101g u1019 u1017 u101s hret C hp3 hp2 hp1 hp0 cv1 hpr hM0; omega)) v1 cv1) gX1_carryOut_X1_turn rfl hdX1_turn (by decide) (Nat.le_of_ble_eq_true rfl) dX1_carryOut_119 rfl (fun r124 M125 h126 => ?_)
                  obtain ⟨a128, rfl, hM125, fM125, h127⟩ := h126
                  have u129b := bit_0 (xorI ((rwX M0 v1 12) 28).toInt (pw2 (a3 - 200))) (a3 - 200)
                  have u129c := wkF_b (rwX M0 v1 12) (a3 - 200)
                  have u129k := co_y (f := (rwX M0 v1 12)) (N := rwX M125 v1 12) (G := hsS (rwX M0 v1 12) (a3 - 200)) (v := a3) (W := wkF (rwX M0 v1 12) (a3 - 200)) (a := a128) (A := andI (shrI (xorI ((rwX M0 v1 12) 28).toInt (pw2 (a3 - 200))) (a3 - 200)) 1) (by (clear u129c u129b h127 fM125 hM125 u101g u1019 u1017 hret C hp3 hp2 hp1 hp0 cv1 hpr hM0; omega)) (do_h (rwX M0 v1 12) (by (clear u129c u129b h127 fM125 hM125 h105 u101g u1019 u1017 u101s hret C hp3 hp2 hp1 hp0 cv1 hpr hM0; omega))) (by exact h127.2.2.1) (by exact h127.2.2.2) (fun q => by exact u129b) (by exact u129c)
                  have u129A := apx_o (M := M0) (N := M125) (p := v1) (ple_f ((FX.rf.tr fM125 (by decide)) : FX [12] M0 M125) cv1 (by decide)) (((FX.rf.tr fM125 (by decide)) : FX [12] M0 M125).cell (by decide)) (((FX.rf.tr fM125 (by decide)) : FX [12] M0 M125).cell (by decide)) (((FX.rf.tr fM125 (by decide)) : FX [12] M0 M125).cell (by decide)) (by exact u1017.1) (by exact u1019.1) (by exact hp0)
                  exact hret _ _ _ _ dX1_carryOut_122 ⟨a128, rfl, hM125, (FX.rf.tr fM125 (by decide)), by exact ⟨(by (clear u129c u129b fM125 hM125 h105 u101g u1019 u1017 u101s hret C hp3 hp2 hp1 hp0 cv1 hpr hM0; omega)), ⟨(by (clear u129c u129b fM125 hM125 h105 u101g u1019 u1017 u101s hret C hp3 hp2 hp1 hp0 cv1 hpr hM0; omega)), ⟨u129A, ⟨u129k.1, ⟨(by (clear u129c u129b fM125 hM125 h105 u101g u1019 u1017 u101s hret C hp3 hp2 hp1 hp0 cv1 hpr hM0; omega)), u129k.2⟩⟩⟩⟩⟩⟩
            · refine j_aload_n C 1 0 dX1_carryOut_84 rfl rfl ?_
              refine j_aload_n C 3 2 dX1_carryOut_85 rfl rfl ?_
              refine j_iload C 0 dX1_carryOut_86 rfl ?_
              refine y_bipush C dX1_carryOut_88 rfl ?_
              refine y_isub C dX1_carryOut_90 ?_
              refine j_callVi C (d := 2) (As := [.ref (ad 12), .int (sI (a3 - 100))]) (st := []) 87 (s_lt rfl rfl) (s_kc (c := 1) rfl rfl) (by decide) rfl (s2_X1_giveAway hM0 hpr (a3 - 100) (by (clear h105 u101g u1019 u1017 u101s hret C hp3 hp2 hp1 hp0 cv1 hpr hM0; omega)) v1 cv1) gX1_carryOut_X1_giveAway rfl hdX1_giveAway (by decide) (Nat.le_of_ble_eq_true rfl) dX1_carryOut_91 rfl (fun r130 M131 h132 => ?_)
              obtain ⟨a134, rfl, hM131, fM131, h133⟩ := h132
              have u135b := gf_p (rwX M0 v1 12) (by (clear h133 fM131 hM131 h111 h107 h106 h105 h104 h102 u1019 u1017 u101s hret C hp2 hp1 hp0 ha3 cv1 hpr hM0; omega))
              have u135c := wkF_b (rwX M0 v1 12) (a3 - 100)
              have u135k := co_y (f := (rwX M0 v1 12)) (N := rwX M131 v1 12) (G := gsS (rwX M0 v1 12)) (v := a3) (W := wkF (rwX M0 v1 12) (a3 - 100)) (a := a134) (A := addI ((rwX M0 v1 12) 30).toInt 1) (by (clear u135c u135b h133 fM131 hM131 u101g u1019 u1017 hret C hp3 hp2 hp1 hp0 cv1 hpr hM0; omega)) (do_g (rwX M0 v1 12) (by (clear u135c u135b h133 fM131 hM131 h105 u101g u1019 u1017 u101s hret C hp3 hp2 hp1 hp0 cv1 hpr hM0; omega))) (by exact h133.2.2.1) (by exact h133.2.2.2) (fun q => by exact u135b) (by exact u135c)
              have u135A := apx_o (M := M0) (N := M131) (p := v1) (ple_f ((FX.rf.tr fM131 (by decide)) : FX [12] M0 M131) cv1 (by decide)) (((FX.rf.tr fM131 (by decide)) : FX [12] M0 M131).cell (by decide)) (((FX.rf.tr fM131 (by decide)) : FX [12] M0 M131).cell (by decide)) (((FX.rf.tr fM131 (by decide)) : FX [12] M0 M131).cell (by decide)) (by exact u1017.1) (by exact u1019.1) (by exact hp0)
              exact hret _ _ _ _ dX1_carryOut_94 ⟨a134, rfl, hM131, (FX.rf.tr fM131 (by decide)), by exact ⟨h133.1, ⟨h133.2.1, ⟨u135A, ⟨u135k.1, ⟨(by (clear u135c u135b fM131 hM131 h105 u101g u1019 u1017 u101s hret C hp3 hp2 hp1 hp0 cv1 hpr hM0; omega)), u135k.2⟩⟩⟩⟩⟩⟩
        · refine j_aload_n C 1 0 dX1_carryOut_61 rfl rfl ?_
          refine j_aload_n C 2 1 dX1_carryOut_62 rfl rfl ?_
          refine j_aload_n C 3 2 dX1_carryOut_63 rfl rfl ?_
          refine j_iload C 0 dX1_carryOut_64 rfl ?_
          refine j_callVi C (d := 4) (As := [.ref (ad v1), .ref (ad 12), .int (sI a3)]) (st := []) 87 (s_lt rfl rfl) (s_kc (c := 1) rfl rfl) (by decide) rfl (s2_X1_visitBy hM0 hpr cv1 a3 (by (clear h105 u101g u1019 u1017 u101s hret C hp3 hp2 hp1 hp0 cv1 hpr hM0; omega)) (by exact hp0) (by exact hp1) (by exact hp2)) gX1_carryOut_X1_visitBy rfl hdX1_visitBy (by decide) (Nat.le_of_ble_eq_true rfl) dX1_carryOut_66 rfl (fun r136 M137 h138 => ?_)
          obtain ⟨a140, rfl, hM137, fM137, h139⟩ := h138
          have u141w := wvF_s (rwX M0 v1 12) a3
          have u141b := bn_m1 (rwX M0 v1 12) a3
          have u141k := co_y (f := (rwX M0 v1 12)) (N := rwX M137 v1 12) (G := vsS (rwX M0 v1 12) a3) (v := a3) (W := wvF (rwX M0 v1 12) a3) (a := a140) (A := bnF (rwX M0 v1 12) a3) (by (clear h139 fM137 hM137 u101g u1019 u1017 hret C hp3 hp2 hp1 hp0 cv1 hpr hM0; omega)) (do_v (rwX M0 v1 12) (by (clear u141b h139 fM137 hM137 u101g u1019 u1017 u101s hret C hp3 hp2 hp1 hp0 cv1 hpr hM0; omega))) (by exact h139.2.2.2.1) (by exact h139.2.2.2.2) (fun q => by (clear h139 fM137 hM137 h106 h105 h104 h102 u101g u1019 u1017 u101s hret C hp3 hp2 hp1 hp0 ha3 cv1 hpr hM0; omega)) (by (clear u141b h139 fM137 hM137 h106 h105 h104 h102 u101g u1019 u1017 u101s hret C hp3 hp2 hp1 hp0 ha3 cv1 hpr hM0; omega))
          exact hret _ _ _ _ dX1_carryOut_69 ⟨a140, rfl, hM137, (FX.rf.tr fM137 (by decide)), by exact ⟨(by (clear u141b fM137 hM137 h106 h104 h102 u101g u1019 u1017 u101s hret C hp3 hp2 hp1 hp0 ha3 cv1 hpr hM0; omega)), ⟨(by (clear u141b fM137 hM137 h106 h104 h102 u101g u1019 u1017 u101s hret C hp3 hp2 hp1 hp0 ha3 cv1 hpr hM0; omega)), ⟨h139.2.2.1, ⟨u141k.1, ⟨(by (clear u141b fM137 hM137 h106 h104 h102 u101g u1019 u1017 u101s hret C hp3 hp2 hp1 hp0 ha3 cv1 hpr hM0; omega)), u141k.2⟩⟩⟩⟩⟩⟩
      · refine j_aload_n C 1 0 dX1_carryOut_29 rfl rfl ?_
        refine j_aload_n C 2 1 dX1_carryOut_30 rfl rfl ?_
        refine j_aload_n C 3 2 dX1_carryOut_31 rfl rfl ?_
        have u142o := (law_e (M := M0) (p := v1) (by exact hp1)).2.2.2
        refine j_callVi C (d := 1) (As := [.ref (ad v1), .ref (ad 12)]) (st := []) 87 (s_lt rfl rfl) (s_kc (c := 1) rfl rfl) (by decide) rfl (s2_X1_passDay hM0 hpr cv1 (by exact u142o)) gX1_carryOut_X1_passDay rfl hdX1_passDay (by decide) (Nat.le_of_ble_eq_true rfl) dX1_carryOut_32 rfl (fun r143 M144 h145 => ?_)
        obtain ⟨a147, rfl, hM144, fM144, h146⟩ := h145
        refine j_istore C 6 [(6, .int (sI a147)), (5, .int (sI a3)), (0, .ref (ad 87)), (1, .ref (ad v1)), (2, .ref (ad 12)), (3, .long (sJ a3))] dX1_carryOut_35 (by decide) rfl ?_
        refine j_aload_n C 2 0 dX1_carryOut_37 rfl rfl ?_
        refine j_aload_n C 3 1 dX1_carryOut_38 rfl rfl ?_
        refine j_aload_n C 4 2 dX1_carryOut_39 rfl rfl ?_
        refine j_iload C 0 dX1_carryOut_40 rfl ?_
        have u148A := apx_o (M := M0) (N := M144) (p := v1) (ple_f ((FX.rf.tr fM144 (by decide)) : FX [12] M0 M144) cv1 (by decide)) (((FX.rf.tr fM144 (by decide)) : FX [12] M0 M144).cell (by decide)) (((FX.rf.tr fM144 (by decide)) : FX [12] M0 M144).cell (by decide)) (((FX.rf.tr fM144 (by decide)) : FX [12] M0 M144).cell (by decide)) (by exact u1017.1) (by exact u1019.1) (by exact hp0)
        have u148L := law_p (M := M0) (N := M144) (p := v1) (ple_f (p := v1) ((FX.rf.tr fM144 (by decide)) : FX [12] M0 M144) cv1 (by decide)) (by exact u1017.1) (by exact u1019.1) (by exact hp1)
        have u148e : rwX M144 v1 12 = pdS (rwX M0 v1 12) := b01_e (by exact h146.2.2.2)
        have u148R : b01 (PRR (rwX M144 v1 12)) = 1 := by rw [u148e]; exact b01_i (prr_pd (b01_e (P := PRR (rwX M0 v1 12)) (by exact hp2)))
        refine j_callVi C (d := 4) (As := [.ref (ad v1), .ref (ad 12), .int (sI a147)]) (st := []) 87 (s_lt rfl rfl) (s_kc (c := 1) rfl rfl) (by decide) rfl (s2_X1_visitBy hM144 hpr cv1 a147 (by (clear u148R u148e u148L u148A fM144 hM144 u142o h105 h104 h102 u101g u1019 u1017 u101s hret C hp3 hp2 hp1 hp0 ha3 cv1 hpr hM0; omega)) (by exact u148A) (by exact u148L) (by exact u148R)) gX1_carryOut_X1_visitBy rfl hdX1_visitBy (by decide) (Nat.le_of_ble_eq_true rfl) dX1_carryOut_42 rfl (fun r149 M150 h151 => ?_)
        obtain ⟨a153, rfl, hM150, fM150, h152⟩ := h151
        have u154e : rwX M144 v1 12 = pdS (rwX M0 v1 12) := b01_e (by exact h146.2.2.2)
        have u154d := pd_v (f := (rwX M0 v1 12)) (N := rwX M150 v1 12) (a := a153) (fun b => bn_m1 _ b) (by rw [← u154e, show pdA (rwX M0 v1 12) = a147 by exact h146.2.2.1.symm]; exact h152.2.2.2.1) (by rw [← u154e, show pdA (rwX M0 v1 12) = a147 by exact h146.2.2.1.symm]; exact h152.2.2.2.2)
        have u154k := co_d (f := (rwX M0 v1 12)) (N := rwX M150 v1 12) (v := a3) (a := a153) (by exact h105) u154d
        have u154d1 := u154d.1
        refine y_if_lt C 52 dX1_carryOut_45 (by decide) (by (clear u154d1 u154k u154d u154e fM150 hM150 u148R u148e u148L u148A h146 fM144 hM144 u142o h105 h104 h102 u101g u1019 u1017 u101s hret C hp3 hp2 hp1 hp0 ha3 cv1 hpr hM0; omega)) (fun h155 => ?_) (fun h155 => ?_)
        · refine y_iconst C dX1_carryOut_52 ?_
          exact hret _ _ _ _ dX1_carryOut_53 ⟨0, rfl, hM150, ((FX.rf.tr fM144 (by decide)).tr fM150 (by decide)), by exact ⟨(by decide), ⟨(by decide), ⟨h152.2.2.1, ⟨(by (clear u154d u154e fM150 hM150 u148R u148e u148L u148A h146 fM144 hM144 u142o h105 h104 h102 u101g u1019 u1017 u101s hret C hp3 hp2 hp1 hp0 ha3 cv1 hpr hM0; omega)), ⟨(by (clear u154d u154e fM150 hM150 u148R u148e u148L u148A h146 fM144 hM144 u142o h105 h104 h102 u101g u1019 u1017 u101s hret C hp3 hp2 hp1 hp0 ha3 cv1 hpr hM0; omega)), u154k.2⟩⟩⟩⟩⟩⟩
        · refine y_iconst C dX1_carryOut_48 ?_
          refine j_goto C 53 dX1_carryOut_49 (by decide) ?_
          exact hret _ _ _ _ dX1_carryOut_53 ⟨1, rfl, hM150, ((FX.rf.tr fM144 (by decide)).tr fM150 (by decide)), by exact ⟨(by decide), ⟨(by decide), ⟨h152.2.2.1, ⟨(by (clear u154d u154e fM150 hM150 u148R u148e u148L u148A h146 fM144 hM144 u142o h105 h104 h102 u101g u1019 u1017 u101s hret C hp3 hp2 hp1 hp0 ha3 cv1 hpr hM0; omega)), ⟨(by (clear u154d u154e fM150 hM150 u148R u148e u148L u148A h146 fM144 hM144 u142o h105 h104 h102 u101g u1019 u1017 u101s hret C hp3 hp2 hp1 hp0 ha3 cv1 hpr hM0; omega)), u154k.2⟩⟩⟩⟩⟩⟩
    · refine y_bipush C dX1_carryOut_16 rfl ?_
      have u158k := co_n (f := (rwX M0 v1 12)) (N := rwX M0 v1 12) (v := a3) (a := -11) (by (clear u101g u1019 u1017 hret C hp3 hp2 hp1 hp0 cv1 hpr hM0; omega)) rfl rfl
      exact hret _ _ _ _ dX1_carryOut_18 ⟨(-11), rfl, hM0, FX.rf, by exact ⟨(by decide), ⟨(by decide), ⟨hp0, ⟨(by (clear u101g u1019 u1017 u101s hret C hp3 hp2 hp1 cv1 hpr hM0; omega)), ⟨(by (clear u101g u1019 u1017 u101s hret C hp3 hp2 hp1 cv1 hpr hM0; omega)), u158k.2⟩⟩⟩⟩⟩⟩
end
