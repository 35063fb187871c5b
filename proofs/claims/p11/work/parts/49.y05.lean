section
set_option maxHeartbeats 4000000 in
theorem s2_X11_takersOf {l : Launch} {dC : Nat → ClassId} {dI : Nat → Nat → Nat} {ad : Nat → Nat} {cA : Nat → ClassId} {pr : Nat → Nat → Bool} {Kz : mm_M} {M0 : mm_M} (hM0 : INV pr Kz M0) (hpr : PX pr) (a1 : Int) (ha1 : -2147483648 ≤ a1 ∧ a1 ≤ 2147483647) (gp : Nat) (cgp : s_c gp = 6) (egp : gp = M0.2.2 0 4) (hp0 : b01 (APX M0 gp) = 1) (hp1 : b01 (LAW M0 gp) = 1) (hp2 : b01 (PRR (rwX M0 gp 12)) = 1) : Ci l 4 yX11_takersOf wsX11_takersOf dC dI ad cA [.ref (ad 0), .int (sI a1)] M0 (fun r M' => ∃ a : Int, r = sI a ∧ INV pr Kz M' ∧ FX [81, 82, 83, 84, 85, 86] M0 M' ∧ 0 ≤ a ∧ a ≤ 63 ∧ (a = (wbF (rwX M0 gp 12) a1 (M0.1 gp 0).toInt.toNat)) ∧ (b01 (APX M' gp) = 1)) := by
  refine ci_of (cc := cX11_takersOf) (maxL := 4) (ty := .int) (lv := [(0, .ref (ad 0)), (1, .int (sI a1))]) (by decide) rfl (fun r M' hp => rfl) (Nat.le_of_ble_eq_true rfl) rfl ?_
  intro p e s m args below meth c A Q C hret
  refine j_aload_n C 0 0 dX11_takersOf_0 rfl rfl ?_
  refine y_getC C 10 81 fX11_takersOf_76 rfl rfl ft_10_12 sm_10_12 rfl hM0 dX11_takersOf_1 ?_
  refine j_aload_n C 0 0 dX11_takersOf_4 rfl rfl ?_
  refine y_getV C 10 gp fX11_takersOf_26 rfl rfl ft_10_4 (egp) dX11_takersOf_5 ?_
  refine j_aload_n C 0 0 dX11_takersOf_8 rfl rfl ?_
  refine y_getC C 10 12 fX11_takersOf_36 rfl rfl ft_10_6 sm_10_6 rfl hM0 dX11_takersOf_9 ?_
  refine j_callVv C (d := 0) (As := [.ref (ad gp), .ref (ad 12)]) (st := []) 81 (s_lt rfl rfl) (s_kc (c := 3) rfl rfl) (by decide) rfl (s2_X4_tune hM0 hpr cgp rfl (by exact hp0)) gX11_takersOf_X4_tune rfl hdX4_tune (by decide) (Nat.le_of_ble_eq_true rfl) dX11_takersOf_12 rfl (fun M102 h103 => ?_)
  obtain ⟨hM102, fM102, h104⟩ := h103
  have egp81 : gp = M102.2.2 81 5 := by exact h104.1.symm
  have u1057 := hM0.rd (i := gp) (c := 6) (k := 7) cgp (show s_b 6 7 = (0, 900) from rfl)
  have u1059 := hM0.rd (i := gp) (c := 6) (k := 9) cgp (show s_b 6 9 = (0, 900) from rfl)
  have u105T := tn_0 (M := M0) (N := M102) (p := gp) (v := 12) (ple_f (p := gp) ((FX.rf.tr fM102 (by decide)) : FX [81, 82, 83, 84] M0 M102) cgp (by decide)) (by exact h104.1) (by exact h104.2.2.1) (by exact hp1) (by exact hp2) (by exact h104.2.1) (by exact h104.2.2.2) u1057.1 u1059.1
  have u105E := tn_e (M := M102) (p := gp) (f := (rwX M0 gp 12)) u105T
  have u105B := hM0.rd (i := gp) (c := 6) (k := 0) cgp (show s_b 6 0 = (0, 6) from rfl)
  have u105K : ((rwX M0 gp 12) 26).toInt = (M0.1 12 0).toInt := rfl
  refine y_iconst C dX11_takersOf_15 ?_
  refine j_istore_n C 2 [(2, .int (sI 0)), (0, .ref (ad 0)), (1, .int (sI a1))] dX11_takersOf_16 rfl (by decide) rfl ?_
  refine y_iconst C dX11_takersOf_17 ?_
  refine j_istore_n C 3 [(3, .int (sI 0)), (2, .int (sI 0)), (0, .ref (ad 0)), (1, .int (sI a1))] dX11_takersOf_18 rfl (by decide) rfl ?_
  have u106z : wbF (rwX M0 gp 12) a1 (0 : Int).toNat = 0 := rfl
  have L131 : ∀ (n129 : Nat), ∀ (a132 : Int) (a133 : Int) (M134 : mm_M), (0 ≤ a132 ∧ a132 ≤ 63 ∧ 0 ≤ a133 ∧ a133 ≤ 6 ∧ (b01 (TN M134 gp (rwX M0 gp 12)) = 1) ∧ (a132 = wbF (rwX M0 gp 12) a1 (a133).toNat) ∧ (a133 ≤ (M0.1 gp 0).toInt) ∧ (6 - a133) < (n129 : Int)) → INV pr Kz M134 → FX [81, 82, 83, 84, 85, 86] M0 M134 → jj p l e (cn_R 4) s m args below meth c 0 0 Q 4 dC dI ad cA A M134 19 [(0, .ref (ad 0)), (1, .int (sI a1)), (2, .int (sI a132)), (3, .int (sI a133))] [] := by
    intro n129
    induction n129 with
    | zero =>
      intro a132 a133 M134 h135 hM134 fM134
      exfalso; (clear fM134 hM134 u106z u105K u105B u105E u105T u1059 u1057 egp81 h104 fM102 hM102 hret C hp2 hp1 hp0 egp cgp ha1 hpr hM0; omega)
    | succ n129 ih130 =>
      intro a132 a133 M134 h135 hM134 fM134
      have e81M134 : gp = M134.2.2 81 5 := (b01_e (P := TN M134 gp (rwX M0 gp 12)) (by exact h135.2.2.2.2.1)).1.1.symm
      have u136E := tn_e (M := M134) (p := gp) (f := (rwX M0 gp 12)) (by exact h135.2.2.2.2.1)
      have u136B := hM0.rd (i := gp) (c := 6) (k := 0) cgp (show s_b 6 0 = (0, 6) from rfl)
      refine j_iload_n C 3 3 dX11_takersOf_19 rfl rfl ?_
      refine j_aload_n C 0 0 dX11_takersOf_20 rfl rfl ?_
      refine y_getV C 10 gp fX11_takersOf_26 rfl rfl ft_10_4 (s_pX fM134 (egp)) dX11_takersOf_21 ?_
      refine y_getI C 6 _ _ fX11_takersOf_163 cgp rfl ft_6_0 sb_6_0 hM134 dX11_takersOf_24 (fun a137 ea137 la137 ua137 => ?_)
      obtain rfl : a137 = (M0.1 gp 0).toInt := s_fX fM134 (s_nin cgp (by decide)) (ea137)
      refine y_icmp_ge C 68 dX11_takersOf_27 (by decide) (by (clear ua137 la137 u136B u136E e81M134 fM134 hM134 ih130 u106z u105K u105E u105T u1059 u1057 egp81 h104 fM102 hM102 hret C hp2 hp1 hp0 egp cgp ha1 hpr hM0; omega)) (fun h139 => ?_) (fun h139 => ?_)
      · have u155x : a133 = (M0.1 gp 0).toInt := by (clear ua137 la137 u136B u136E e81M134 fM134 hM134 ih130 u106z u105K u105B u105E u105T u1059 u1057 egp81 h104 fM102 hM102 hret C hp2 hp1 hp0 egp cgp ha1 hpr hM0; omega)
        have u155y : wbF (rwX M0 gp 12) a1 (a133).toNat = wbF (rwX M0 gp 12) a1 (M0.1 gp 0).toInt.toNat := by rw [u155x]
        refine j_iload_n C 2 2 dX11_takersOf_68 rfl rfl ?_
        have u156E := tn_e (M := M134) (p := gp) (f := (rwX M0 gp 12)) (by exact h135.2.2.2.2.1)
        exact hret _ _ _ _ dX11_takersOf_69 ⟨a132, rfl, hM134, (FX.rf.tr fM134 (by decide)), by exact ⟨h135.1, ⟨h135.2.1, ⟨(by (clear u156E u155x h139 ua137 la137 ea137 u136B e81M134 fM134 hM134 ih130 u106z u105K u105B u105E u105T u1059 u1057 egp81 h104 fM102 hM102 hret C hp2 hp1 hp0 egp cgp ha1 hpr hM0; omega)), u136E.1.2.2.2.2⟩⟩⟩⟩
      · refine j_aload_n C 0 0 dX11_takersOf_30 rfl rfl ?_
        refine y_getC C 10 81 fX11_takersOf_76 rfl rfl ft_10_12 sm_10_12 rfl hM134 dX11_takersOf_31 ?_
        refine j_iload_n C 3 3 dX11_takersOf_34 rfl rfl ?_
        refine j_aload_n C 0 0 dX11_takersOf_35 rfl rfl ?_
        refine y_getC C 10 12 fX11_takersOf_36 rfl rfl ft_10_6 sm_10_6 rfl hM134 dX11_takersOf_36 ?_
        refine y_getI C 8 _ _ fX11_takersOf_150 rfl rfl ft_8_3 sb_8_3 hM134 dX11_takersOf_39 (fun a140 ea140 la140 ua140 => ?_)
        obtain rfl : a140 = (M0.1 12 3).toInt := s_fX fM134 (by decide) (ea140)
        refine j_aload_n C 0 0 dX11_takersOf_42 rfl rfl ?_
        refine y_getC C 10 12 fX11_takersOf_36 rfl rfl ft_10_6 sm_10_6 rfl hM134 dX11_takersOf_43 ?_
        refine y_getI C 8 _ _ fX11_takersOf_153 rfl rfl ft_8_4 sb_8_4 hM134 dX11_takersOf_46 (fun a142 ea142 la142 ua142 => ?_)
        obtain rfl : a142 = (M0.1 12 4).toInt := s_fX fM134 (by decide) (ea142)
        refine j_callVi C (d := 3) (As := [.int (sI a133), .int (sI (M0.1 12 3).toInt), .int (sI (M0.1 12 4).toInt)]) (st := []) 81 (s_lt rfl rfl) (s_kc (c := 3) rfl rfl) (by decide) rfl (s2_X4_choice hM134 hpr a133 (by (clear ua142 la142 ea142 ua140 la140 ea140 h139 ua137 la137 ea137 u136B u136E e81M134 fM134 hM134 ih130 u106z u105K u105B u105E u105T u1059 u1057 egp81 h104 fM102 hM102 hret C hp2 hp1 hp0 egp cgp ha1 hpr hM0; omega)) (M0.1 12 3).toInt (by (clear ua142 la142 ea142 h139 ua137 la137 ea137 u136B u136E e81M134 fM134 hM134 h135 ih130 u106z u105K u105B u105E u105T u1059 u1057 egp81 h104 fM102 hM102 hret C hp2 hp1 hp0 egp cgp ha1 hpr hM0; omega)) (M0.1 12 4).toInt (by (clear ua140 la140 ea140 h139 ua137 la137 ea137 u136B u136E e81M134 fM134 hM134 h135 ih130 u106z u105K u105B u105E u105T u1059 u1057 egp81 h104 fM102 hM102 hret C hp2 hp1 hp0 egp cgp ha1 hpr hM0; omega)) gp cgp (e81M134) (by exact u136E.1.2.1) (by exact u136E.1.1) (by exact u136E.1.2.2.2.2) (by exact u136E.1.2.2.1) (by exact u136E.1.2.2.2.1) (by exact ⟨h135.2.2.1, (by (clear ua142 la142 ea142 ua140 la140 ea140 ua137 la137 u136B u136E e81M134 fM134 hM134 ih130 u106z u105K u105E u105T u1059 u1057 egp81 h104 fM102 hM102 hret C hp2 hp1 hp0 egp cgp ha1 hpr hM0; omega))⟩) (by exact ⟨la140, ua140⟩) (by exact ⟨la142, ua142⟩)) gX11_takersOf_X4_choice rfl hdX4_choice (by decide) (Nat.le_of_ble_eq_true rfl) dX11_takersOf_49 rfl (fun r144 M145 h146 => ?_)
        obtain ⟨a148, rfl, hM145, fM145, h147⟩ := h146
        obtain rfl : a148 = (boF (mdX M134 gp (sI (M0.1 12 4).toInt)) a133 (M0.1 12 3).toInt) := by exact h147.2.2.1
        have u149b := tn_b (M := M134) (p := gp) (f := (rwX M0 gp 12)) (b := a133) (s := (M0.1 12 3).toInt) (hx := (M0.1 12 4).toInt) (by exact h135.2.2.2.2.1) (by exact ⟨h135.2.2.1, (by (clear h147 fM145 hM145 ua142 la142 ea142 ua140 la140 ea140 ua137 la137 u136B u136E e81M134 fM134 hM134 ih130 u106z u105K u105E u105T u1059 u1057 egp81 h104 fM102 hM102 hret C hp2 hp1 hp0 egp cgp ha1 hpr hM0; omega))⟩) rfl rfl
        have u149T := tn_f (M := M134) (N := M145) (p := gp) (f := (rwX M0 gp 12)) (by exact h135.2.2.2.2.1) fM145 (by decide) cgp (by exact h147.2.2.2)
        have u149w := wb_x (rwX M0 gp 12) a1 (x := a133) (x' := a133 + 1) (a := a132) (by exact ⟨h135.2.2.1, (by omega)⟩) rfl (by exact h135.2.2.2.2.2.1)
        refine j_iload_n C 1 1 dX11_takersOf_52 rfl rfl ?_
        refine y_icmp_ne C 62 dX11_takersOf_53 (by decide) (by exact ⟨⟨(by (clear u149w u149T fM145 hM145 ua142 la142 ea142 ua140 la140 ea140 h139 ua137 la137 ea137 u136B u136E e81M134 fM134 hM134 h135 ih130 u106z u105K u105B u105E u105T u1059 u1057 egp81 h104 fM102 hM102 hret C hp2 hp1 hp0 egp cgp hpr hM0; omega)), (by (clear u149w u149T fM145 hM145 ua142 la142 ea142 ua140 la140 ea140 h139 ua137 la137 ea137 u136B u136E e81M134 fM134 hM134 h135 ih130 u106z u105K u105B u105E u105T u1059 u1057 egp81 h104 fM102 hM102 hret C hp2 hp1 hp0 egp cgp hpr hM0; omega))⟩, ⟨ha1.1, ha1.2⟩⟩) (fun h150 => ?_) (fun h150 => ?_)
        · refine y_iinc C 3 [(3, .int (sI (a133 + 1))), (0, .ref (ad 0)), (1, .int (sI a1)), (2, .int (sI a132))] dX11_takersOf_62 rfl (by decide) rfl ?_
          refine j_goto C 19 dX11_takersOf_65 (by decide) ?_
          refine j_lv [1, 2, 3, 0] rfl ?_; exact ih130 a132 (a133 + 1) M145 (by exact ⟨h135.1, ⟨h135.2.1, ⟨(by (clear h147 fM145 hM145 ua142 la142 ea142 ua140 la140 ea140 ua137 la137 u136B u136E e81M134 fM134 hM134 ih130 u106z u105K u105E u105T u1059 u1057 egp81 h104 fM102 hM102 hret C hp2 hp1 hp0 egp cgp ha1 hpr hM0; omega)), ⟨(by (clear h147 fM145 hM145 ua142 la142 ea142 ua140 la140 ea140 ua137 la137 u136B u136E e81M134 fM134 hM134 ih130 u106z u105K u105E u105T u1059 u1057 egp81 h104 fM102 hM102 hret C hp2 hp1 hp0 egp cgp ha1 hpr hM0; omega)), ⟨u149T, ⟨(by (clear h147 fM145 hM145 ua142 la142 ea142 ua140 la140 ea140 ua137 la137 u136B u136E e81M134 fM134 hM134 ih130 u106z u105K u105E u105T u1059 u1057 egp81 h104 fM102 hM102 hret C hp2 hp1 hp0 egp cgp ha1 hpr hM0; omega)), ⟨(by (clear h147 fM145 hM145 ua142 la142 ea142 ua140 la140 ea140 ua137 la137 u136B u136E e81M134 fM134 hM134 ih130 u106z u105K u105E u105T u1059 u1057 egp81 h104 fM102 hM102 hret C hp2 hp1 hp0 egp cgp ha1 hpr hM0; omega)), (by (clear h147 fM145 hM145 ua142 la142 ea142 ua140 la140 ea140 ua137 la137 u136B u136E e81M134 fM134 hM134 ih130 u106z u105K u105E u105T u1059 u1057 egp81 h104 fM102 hM102 hret C hp2 hp1 hp0 egp cgp ha1 hpr hM0; omega))⟩⟩⟩⟩⟩⟩⟩) hM145 ((FX.rf.tr fM134 (by decide)).tr fM145 (by decide))
        · refine j_iload_n C 2 2 dX11_takersOf_56 rfl rfl ?_
          refine y_iconst C dX11_takersOf_57 ?_
          refine j_iload_n C 3 3 dX11_takersOf_58 rfl rfl ?_
          refine e_shl1 C 5 32 dX11_takersOf_59 rfl (by decide) (by exact ⟨h135.2.2.1, (by (clear h150 u149w u149T u149b h147 fM145 hM145 ua142 la142 ea142 ua140 la140 ea140 ua137 la137 u136B u136E e81M134 fM134 hM134 ih130 u106z u105K u105E u105T u1059 u1057 egp81 h104 fM102 hM102 hret C hp2 hp1 hp0 egp cgp ha1 hpr hM0; omega))⟩) (fun lb152 ub152 => ?_)
          refine e_iorN C 6 63 dX11_takersOf_60 rfl (by decide) (by exact ⟨h135.1, ⟨h135.2.1, ⟨(by (clear h150 u149w u149T u149b h147 fM145 hM145 ua142 la142 ea142 ua140 la140 ea140 h139 ua137 la137 ea137 u136B u136E e81M134 fM134 hM134 ih130 u106z u105K u105B u105E u105T u1059 u1057 egp81 h104 fM102 hM102 hret C hp2 hp1 hp0 egp cgp ha1 hpr hM0; omega)), (by (clear h150 u149w u149T u149b h147 fM145 hM145 ua142 la142 ea142 ua140 la140 ea140 h139 ua137 la137 ea137 u136B u136E e81M134 fM134 hM134 ih130 u106z u105K u105B u105E u105T u1059 u1057 egp81 h104 fM102 hM102 hret C hp2 hp1 hp0 egp cgp ha1 hpr hM0; omega))⟩⟩⟩) (fun lb153 ub153 ob153 => ?_)
          refine j_istore_n C 2 [(2, .int (sI (orI a132 (pw2 a133)))), (0, .ref (ad 0)), (1, .int (sI a1)), (3, .int (sI a133))] dX11_takersOf_61 rfl (by decide) rfl ?_
          refine y_iinc C 3 [(3, .int (sI (a133 + 1))), (2, .int (sI (orI a132 (pw2 a133)))), (0, .ref (ad 0)), (1, .int (sI a1))] dX11_takersOf_62 rfl (by decide) rfl ?_
          refine j_goto C 19 dX11_takersOf_65 (by decide) ?_
          refine j_lv [2, 3, 1, 0] rfl ?_; exact ih130 (orI a132 (pw2 a133)) (a133 + 1) M145 (by exact ⟨lb153, ⟨ub153, ⟨(by (clear ub152 lb152 h147 fM145 hM145 ua142 la142 ea142 ua140 la140 ea140 ua137 la137 u136B u136E e81M134 fM134 hM134 ih130 u106z u105K u105E u105T u1059 u1057 egp81 h104 fM102 hM102 hret C hp2 hp1 hp0 egp cgp ha1 hpr hM0; omega)), ⟨(by (clear ub152 lb152 h147 fM145 hM145 ua142 la142 ea142 ua140 la140 ea140 ua137 la137 u136B u136E e81M134 fM134 hM134 ih130 u106z u105K u105E u105T u1059 u1057 egp81 h104 fM102 hM102 hret C hp2 hp1 hp0 egp cgp ha1 hpr hM0; omega)), ⟨u149T, ⟨(by (clear ub152 lb152 h147 fM145 hM145 ua142 la142 ea142 ua140 la140 ea140 ua137 la137 u136B u136E e81M134 fM134 hM134 ih130 u106z u105K u105E u105T u1059 u1057 egp81 h104 fM102 hM102 hret C hp2 hp1 hp0 egp cgp ha1 hpr hM0; omega)), ⟨(by (clear ub152 lb152 h147 fM145 hM145 ua142 la142 ea142 ua140 la140 ea140 ua137 la137 u136B u136E e81M134 fM134 hM134 ih130 u106z u105K u105E u105T u1059 u1057 egp81 h104 fM102 hM102 hret C hp2 hp1 hp0 egp cgp ha1 hpr hM0; omega)), (by (clear ub152 lb152 h147 fM145 hM145 ua142 la142 ea142 ua140 la140 ea140 ua137 la137 u136B u136E e81M134 fM134 hM134 ih130 u106z u105K u105E u105T u1059 u1057 egp81 h104 fM102 hM102 hret C hp2 hp1 hp0 egp cgp ha1 hpr hM0; omega))⟩⟩⟩⟩⟩⟩⟩) hM145 ((FX.rf.tr fM134 (by decide)).tr fM145 (by decide))
  refine j_lv [2, 3, 1, 0] rfl ?_; exact L131 2010 0 0 M102 (by exact ⟨(by decide), ⟨(by decide), ⟨(by decide), ⟨(by decide), ⟨u105T, ⟨u106z.symm, ⟨u105B.1, (by decide)⟩⟩⟩⟩⟩⟩⟩) hM102 (FX.rf.tr fM102 (by decide))
set_option maxHeartbeats 4000000 in
theorem s2_X11_kind {l : Launch} {dC : Nat → ClassId} {dI : Nat → Nat → Nat} {ad : Nat → Nat} {cA : Nat → ClassId} {pr : Nat → Nat → Bool} {Kz : mm_M} {M0 : mm_M} (hM0 : INV pr Kz M0) (hpr : PX pr) (a1 : Int) (ha1 : -2147483648 ≤ a1 ∧ a1 ≤ 2147483647) (a2 : Int) (ha2 : -2147483648 ≤ a2 ∧ a2 ≤ 2147483647) (gp : Nat) (cgp : s_c gp = 6) (egp : gp = M0.2.2 0 4) (hp0 : b01 (APX M0 gp) = 1) (hp1 : b01 (LAW M0 gp) = 1) (hp2 : b01 (PRR (rwX M0 gp 12)) = 1) : Ci l 5 yX11_kind wsX11_kind dC dI ad cA [.ref (ad 0), .int (sI a1), .int (sI a2)] M0 (fun r M' => ∃ a : Int, r = sI a ∧ INV pr Kz M' ∧ FX [81, 82, 83, 84, 85, 86] M0 M' ∧ (-2147483648) ≤ a ∧ a ≤ 2147483647 ∧ (a = (knF (rwX M0 gp 12) a1 a2)) ∧ (b01 (APX M' gp) = 1)) := by
  refine ci_of (cc := cX11_kind) (maxL := 3) (ty := .int) (lv := [(0, .ref (ad 0)), (1, .int (sI a1)), (2, .int (sI a2))]) (by decide) rfl (fun r M' hp => rfl) (Nat.le_of_ble_eq_true rfl) rfl ?_
  intro p e s m args below meth c A Q C hret
  refine j_aload_n C 0 0 dX11_kind_0 rfl rfl ?_
  refine j_iload_n C 1 1 dX11_kind_1 rfl rfl ?_
  refine j_callVi C (d := 0) (As := [.int (sI a1)]) (st := []) 0 (s_lt rfl rfl) (s_kc (c := 10) rfl rfl) (by decide) rfl (s1_X11_isKind hM0 a1 (by exact ⟨ha1.1, ha1.2⟩)) gX11_kind_X11_isKind rfl hdX11_isKind (by decide) (Nat.le_of_ble_eq_true rfl) dX11_kind_2 rfl (fun r101 M102 h103 => ?_)
  obtain ⟨a105, rfl, rfl, h104⟩ := h103
  refine y_if_ne C 11 dX11_kind_5 (by decide) (by omega) (fun h106 => ?_) (fun h106 => ?_)
  · refine j_iload_n C 2 2 dX11_kind_11 rfl rfl ?_
    rcases (show (a2 < 0 ∨ 4 < a2) ∨ a2 = 0 ∨ a2 = 1 ∨ a2 = 2 ∨ a2 = 3 ∨ a2 = 4 by (clear h106 h104 hret C hp2 hp1 hp0 egp cgp ha1 hpr hM0; omega)) with h107 | h107 | h107 | h107 | h107 | h107
    · refine y_tabO C 98 dX11_kind_12 (by decide) (by exact ⟨⟨ha2.1, ha2.2⟩, h107⟩) ?_
      refine y_bipush C dX11_kind_98 rfl ?_
      have u108s := knF_s (rwX M0 gp 12) a1 a2
      have u108K : ((rwX M0 gp 12) 26).toInt = (M0.1 12 0).toInt := rfl
      have u108B := hM0.rd (i := 12) (c := 8) (k := 0) rfl (show s_b 8 0 = (0, 8) from rfl)
      have u1082 : andI (shrI ((rwX M0 gp 12) 27).toInt a1) 1 = andI (shrI (M0.1 12 3).toInt a1) 1 := rfl
      have u1083 : andI (shrI ((rwX M0 gp 12) 28).toInt a1) 1 = andI (shrI (M0.1 12 4).toInt a1) 1 := rfl
      have u1084 : wbF (rwX M0 gp 12) a1 ((rwX M0 gp 12) 1).toInt.toNat = wbF (rwX M0 gp 12) a1 (M0.1 gp 0).toInt.toNat := rfl
      exact hret _ _ _ _ dX11_kind_100 ⟨(-2), rfl, hM0, FX.rf, by exact ⟨(by decide), ⟨(by decide), ⟨(by (clear u1084 u1083 u1082 u108B u108K h106 h104 hret C hp2 hp1 egp cgp ha2 ha1 hpr hM0; omega)), hp0⟩⟩⟩⟩
    · refine y_tabI C (off := 36) 48 0 dX11_kind_12 (by decide) rfl (by decide) h107 ?_
      refine j_aload_n C 0 0 dX11_kind_48 rfl rfl ?_
      refine y_getC C 10 12 fX11_kind_36 rfl rfl ft_10_6 sm_10_6 rfl hM0 dX11_kind_49 ?_
      refine y_getC C 8 13 fX11_kind_144 rfl rfl ft_8_1 sm_8_1 rfl hM0 dX11_kind_52 ?_
      refine j_iload_n C 1 1 dX11_kind_55 rfl rfl ?_
      refine y_iald C 25 8 _ _ rfl rfl rfl ak_25 an_25 rfl (sb_25 _) hM0 dX11_kind_56 (by (clear h107 hret C hp2 hp1 hp0 egp cgp ha2 hpr hM0; omega)) (fun a109 ea109 la109 ua109 => ?_)
      obtain rfl : a109 = (M0.1 13 (a1).toNat).toInt := ea109
      have u110s := knF_s (rwX M0 gp 12) a1 a2
      have u110K : ((rwX M0 gp 12) 26).toInt = (M0.1 12 0).toInt := rfl
      have u110B := hM0.rd (i := 12) (c := 8) (k := 0) rfl (show s_b 8 0 = (0, 8) from rfl)
      have u1102 : andI (shrI ((rwX M0 gp 12) 27).toInt a1) 1 = andI (shrI (M0.1 12 3).toInt a1) 1 := rfl
      have u1103 : andI (shrI ((rwX M0 gp 12) 28).toInt a1) 1 = andI (shrI (M0.1 12 4).toInt a1) 1 := rfl
      have u1104 : wbF (rwX M0 gp 12) a1 ((rwX M0 gp 12) 1).toInt.toNat = wbF (rwX M0 gp 12) a1 (M0.1 gp 0).toInt.toNat := rfl
      have u110p : ((rwX M0 gp 12) (33 + a1).toNat).toInt = (M0.1 13 (a1).toNat).toInt := congrArg Int32.toInt (rx_k M0 gp 12 (k := a1) (by (clear u1104 u1103 u1102 ua109 la109 h107 hret C hp2 hp1 hp0 egp cgp ha2 hpr hM0; omega))).1
      exact hret _ _ _ _ dX11_kind_57 ⟨(M0.1 13 (a1).toNat).toInt, rfl, hM0, FX.rf, by exact ⟨la109, ⟨ua109, ⟨(by (clear u1104 u1103 u1102 u110B hret C hp2 hp1 egp cgp ha2 hpr hM0; omega)), hp0⟩⟩⟩⟩
    · refine y_tabI C (off := 46) 58 1 dX11_kind_12 (by decide) rfl (by decide) h107 ?_
      refine j_aload_n C 0 0 dX11_kind_58 rfl rfl ?_
      refine y_getC C 10 12 fX11_kind_36 rfl rfl ft_10_6 sm_10_6 rfl hM0 dX11_kind_59 ?_
      refine y_getC C 8 14 fX11_kind_147 rfl rfl ft_8_2 sm_8_2 rfl hM0 dX11_kind_62 ?_
      refine j_iload_n C 1 1 dX11_kind_65 rfl rfl ?_
      refine y_iald C 26 8 _ _ rfl rfl rfl ak_26 an_26 rfl (sb_26 _) hM0 dX11_kind_66 (by omega) (fun a111 ea111 la111 ua111 => ?_)
      obtain rfl : a111 = (M0.1 14 (a1).toNat).toInt := ea111
      have u112s := knF_s (rwX M0 gp 12) a1 a2
      have u112K : ((rwX M0 gp 12) 26).toInt = (M0.1 12 0).toInt := rfl
      have u112B := hM0.rd (i := 12) (c := 8) (k := 0) rfl (show s_b 8 0 = (0, 8) from rfl)
      have u1122 : andI (shrI ((rwX M0 gp 12) 27).toInt a1) 1 = andI (shrI (M0.1 12 3).toInt a1) 1 := rfl
      have u1123 : andI (shrI ((rwX M0 gp 12) 28).toInt a1) 1 = andI (shrI (M0.1 12 4).toInt a1) 1 := rfl
      have u1124 : wbF (rwX M0 gp 12) a1 ((rwX M0 gp 12) 1).toInt.toNat = wbF (rwX M0 gp 12) a1 (M0.1 gp 0).toInt.toNat := rfl
      have u112p : ((rwX M0 gp 12) (41 + a1).toNat).toInt = (M0.1 14 (a1).toNat).toInt := congrArg Int32.toInt (rx_k M0 gp 12 (k := a1) (by (clear u1124 u1123 u1122 ua111 la111 h107 hret C hp2 hp1 hp0 egp cgp ha2 hpr hM0; omega))).2
      exact hret _ _ _ _ dX11_kind_67 ⟨(M0.1 14 (a1).toNat).toInt, rfl, hM0, FX.rf, by exact ⟨la111, ⟨ua111, ⟨(by (clear u1124 u1123 u1122 u112B hret C hp2 hp1 egp cgp ha2 hpr hM0; omega)), hp0⟩⟩⟩⟩
    · refine y_tabI C (off := 56) 68 2 dX11_kind_12 (by decide) rfl (by decide) h107 ?_
      refine j_aload_n C 0 0 dX11_kind_68 rfl rfl ?_
      refine y_getC C 10 12 fX11_kind_36 rfl rfl ft_10_6 sm_10_6 rfl hM0 dX11_kind_69 ?_
      refine y_getI C 8 _ _ fX11_kind_150 rfl rfl ft_8_3 sb_8_3 hM0 dX11_kind_72 (fun a113 ea113 la113 ua113 => ?_)
      obtain rfl : a113 = (M0.1 12 3).toInt := ea113
      refine j_iload_n C 1 1 dX11_kind_75 rfl rfl ?_
      refine e_ishrP C dX11_kind_76 (by exact ⟨la113, (by omega)⟩) (fun lb115 ub115 => ?_)
      refine y_iconst C dX11_kind_77 ?_
      refine e_iandR C dX11_kind_78 (by exact ⟨(by decide), (by decide)⟩) (fun lb116 ub116 => ?_)
      have u117s := knF_s (rwX M0 gp 12) a1 a2
      have u117K : ((rwX M0 gp 12) 26).toInt = (M0.1 12 0).toInt := rfl
      have u117B := hM0.rd (i := 12) (c := 8) (k := 0) rfl (show s_b 8 0 = (0, 8) from rfl)
      have u1172 : andI (shrI ((rwX M0 gp 12) 27).toInt a1) 1 = andI (shrI (M0.1 12 3).toInt a1) 1 := rfl
      have u1173 : andI (shrI ((rwX M0 gp 12) 28).toInt a1) 1 = andI (shrI (M0.1 12 4).toInt a1) 1 := rfl
      have u1174 : wbF (rwX M0 gp 12) a1 ((rwX M0 gp 12) 1).toInt.toNat = wbF (rwX M0 gp 12) a1 (M0.1 gp 0).toInt.toNat := rfl
      exact hret _ _ _ _ dX11_kind_79 ⟨(andI (shrI (M0.1 12 3).toInt a1) 1), rfl, hM0, FX.rf, by exact ⟨(by (clear u1174 u1173 u117B ub115 lb115 ua113 la113 hret C hp2 hp1 egp cgp ha2 hpr hM0; omega)), ⟨(by (clear u1174 u1173 u117B ub115 lb115 ua113 la113 hret C hp2 hp1 egp cgp ha2 hpr hM0; omega)), ⟨(by (clear u1174 u1173 u117B ub115 lb115 ua113 la113 hret C hp2 hp1 egp cgp ha2 hpr hM0; omega)), hp0⟩⟩⟩⟩
    · refine y_tabI C (off := 68) 80 3 dX11_kind_12 (by decide) rfl (by decide) h107 ?_
      refine j_aload_n C 0 0 dX11_kind_80 rfl rfl ?_
      refine y_getC C 10 12 fX11_kind_36 rfl rfl ft_10_6 sm_10_6 rfl hM0 dX11_kind_81 ?_
      refine y_getI C 8 _ _ fX11_kind_153 rfl rfl ft_8_4 sb_8_4 hM0 dX11_kind_84 (fun a118 ea118 la118 ua118 => ?_)
      obtain rfl : a118 = (M0.1 12 4).toInt := ea118
      refine j_iload_n C 1 1 dX11_kind_87 rfl rfl ?_
      refine e_ishrP C dX11_kind_88 (by exact ⟨la118, (by omega)⟩) (fun lb120 ub120 => ?_)
      refine y_iconst C dX11_kind_89 ?_
      refine e_iandR C dX11_kind_90 (by exact ⟨(by decide), (by decide)⟩) (fun lb121 ub121 => ?_)
      have u122s := knF_s (rwX M0 gp 12) a1 a2
      have u122K : ((rwX M0 gp 12) 26).toInt = (M0.1 12 0).toInt := rfl
      have u122B := hM0.rd (i := 12) (c := 8) (k := 0) rfl (show s_b 8 0 = (0, 8) from rfl)
      have u1222 : andI (shrI ((rwX M0 gp 12) 27).toInt a1) 1 = andI (shrI (M0.1 12 3).toInt a1) 1 := rfl
      have u1223 : andI (shrI ((rwX M0 gp 12) 28).toInt a1) 1 = andI (shrI (M0.1 12 4).toInt a1) 1 := rfl
      have u1224 : wbF (rwX M0 gp 12) a1 ((rwX M0 gp 12) 1).toInt.toNat = wbF (rwX M0 gp 12) a1 (M0.1 gp 0).toInt.toNat := rfl
      exact hret _ _ _ _ dX11_kind_91 ⟨(andI (shrI (M0.1 12 4).toInt a1) 1), rfl, hM0, FX.rf, by exact ⟨(by (clear u1224 u1222 u122B ub120 lb120 ua118 la118 hret C hp2 hp1 egp cgp ha2 hpr hM0; omega)), ⟨(by (clear u1224 u1222 u122B ub120 lb120 ua118 la118 hret C hp2 hp1 egp cgp ha2 hpr hM0; omega)), ⟨(by (clear u1224 u1222 u122B ub120 lb120 ua118 la118 hret C hp2 hp1 egp cgp ha2 hpr hM0; omega)), hp0⟩⟩⟩⟩
    · refine y_tabI C (off := 80) 92 4 dX11_kind_12 (by decide) rfl (by decide) h107 ?_
      refine j_aload_n C 0 0 dX11_kind_92 rfl rfl ?_
      refine j_iload_n C 1 1 dX11_kind_93 rfl rfl ?_
      refine j_callVi C (d := 4) (As := [.int (sI a1)]) (st := []) 0 (s_lt rfl rfl) (s_kc (c := 10) rfl rfl) (by decide) rfl (s2_X11_takersOf hM0 hpr a1 (by exact ⟨ha1.1, ha1.2⟩) gp cgp (egp) (by exact hp0) (by exact hp1) (by exact hp2)) gX11_kind_X11_takersOf rfl hdX11_takersOf (by decide) (Nat.le_of_ble_eq_true rfl) dX11_kind_94 rfl (fun r123 M124 h125 => ?_)
      obtain ⟨a127, rfl, hM124, fM124, h126⟩ := h125
      obtain rfl : a127 = (wbF (rwX M0 gp 12) a1 (M0.1 gp 0).toInt.toNat) := by exact h126.2.2.1
      have u128s := knF_s (rwX M0 gp 12) a1 a2
      have u128K : ((rwX M0 gp 12) 26).toInt = (M0.1 12 0).toInt := rfl
      have u128B := hM0.rd (i := 12) (c := 8) (k := 0) rfl (show s_b 8 0 = (0, 8) from rfl)
      have u1282 : andI (shrI ((rwX M0 gp 12) 27).toInt a1) 1 = andI (shrI (M0.1 12 3).toInt a1) 1 := rfl
      have u1283 : andI (shrI ((rwX M0 gp 12) 28).toInt a1) 1 = andI (shrI (M0.1 12 4).toInt a1) 1 := rfl
      have u1284 : wbF (rwX M0 gp 12) a1 ((rwX M0 gp 12) 1).toInt.toNat = wbF (rwX M0 gp 12) a1 (M0.1 gp 0).toInt.toNat := rfl
      exact hret _ _ _ _ dX11_kind_97 ⟨(wbF (rwX M0 gp 12) a1 (M0.1 gp 0).toInt.toNat), rfl, hM124, (FX.rf.tr fM124 (by decide)), by exact ⟨(by (clear u1283 u1282 u128B fM124 hM124 hret C hp2 hp1 hp0 egp cgp ha2 hpr hM0; omega)), ⟨(by (clear u1283 u1282 u128B fM124 hM124 hret C hp2 hp1 hp0 egp cgp ha2 hpr hM0; omega)), ⟨(by (clear u1283 u1282 u128B fM124 hM124 hret C hp2 hp1 hp0 egp cgp ha2 hpr hM0; omega)), h126.2.2.2⟩⟩⟩⟩
  · refine y_bipush C dX11_kind_8 rfl ?_
    have u129s := knF_s (rwX M0 gp 12) a1 a2
    have u129K : ((rwX M0 gp 12) 26).toInt = (M0.1 12 0).toInt := rfl
    have u129B := hM0.rd (i := 12) (c := 8) (k := 0) rfl (show s_b 8 0 = (0, 8) from rfl)
    have u1292 : andI (shrI ((rwX M0 gp 12) 27).toInt a1) 1 = andI (shrI (M0.1 12 3).toInt a1) 1 := rfl
    have u1293 : andI (shrI ((rwX M0 gp 12) 28).toInt a1) 1 = andI (shrI (M0.1 12 4).toInt a1) 1 := rfl
    have u1294 : wbF (rwX M0 gp 12) a1 ((rwX M0 gp 12) 1).toInt.toNat = wbF (rwX M0 gp 12) a1 (M0.1 gp 0).toInt.toNat := rfl
    exact hret _ _ _ _ dX11_kind_10 ⟨(-2), rfl, hM0, FX.rf, by exact ⟨(by decide), ⟨(by decide), ⟨(by (clear u1294 u1293 u1292 u129B hret C hp2 hp1 egp cgp ha2 hpr hM0; omega)), hp0⟩⟩⟩⟩
set_option maxHeartbeats 4000000 in
theorem s2_X11_isBuyer {l : Launch} {dC : Nat → ClassId} {dI : Nat → Nat → Nat} {ad : Nat → Nat} {cA : Nat → ClassId} {pr : Nat → Nat → Bool} {Kz : mm_M} {M0 : mm_M} (hM0 : INV pr Kz M0) (a1 : Int) (ha1 : -2147483648 ≤ a1 ∧ a1 ≤ 2147483647) (gp : Nat) (cgp : s_c gp = 6) (egp : gp = M0.2.2 0 4) : Ci l 0 yX11_isBuyer wsX11_isBuyer dC dI ad cA [.ref (ad 0), .int (sI a1)] M0 (fun r M' => ∃ a : Int, r = sI a ∧ M0 = M' ∧ 0 ≤ a ∧ a ≤ 1 ∧ ((0 ≤ a1 ∧ a1 < (M0.1 gp 0).toInt) ∧ a = 1 ∨ (a1 < 0 ∨ (M0.1 gp 0).toInt ≤ a1) ∧ a = 0) ∧ ((M0.1 gp 0).toInt ≤ 6)) := by
  refine ci_of (cc := cX11_isBuyer) (maxL := 2) (ty := .boolean) (lv := [(0, .ref (ad 0)), (1, .int (sI a1))]) (by decide) rfl (fun r M' hp => by obtain ⟨a, rfl, -, h⟩ := hp; rcases (show a = 0 ∨ a = 1 by (clear egp cgp ha1 hM0; omega)) with rfl | rfl <;> rfl) (Nat.le_of_ble_eq_true rfl) rfl ?_
  intro p e s m args below meth c A Q C hret
  have u101B := hM0.rd (i := gp) (c := 6) (k := 0) cgp (show s_b 6 0 = (0, 6) from rfl)
  refine j_iload_n C 1 1 dX11_isBuyer_0 rfl rfl ?_
  refine y_if_lt C 19 dX11_isBuyer_1 (by decide) (by exact ⟨ha1.1, ha1.2⟩) (fun h102 => ?_) (fun h102 => ?_)
  · refine y_iconst C dX11_isBuyer_19 ?_
    exact hret _ _ _ _ dX11_isBuyer_20 ⟨0, rfl, rfl, by exact ⟨(by decide), ⟨(by decide), ⟨(by (clear hret C egp cgp hM0; omega)), u101B.2⟩⟩⟩⟩
  · refine j_iload_n C 1 1 dX11_isBuyer_4 rfl rfl ?_
    refine j_aload_n C 0 0 dX11_isBuyer_5 rfl rfl ?_
    refine y_getV C 10 gp fX11_isBuyer_26 rfl rfl ft_10_4 (egp) dX11_isBuyer_6 ?_
    refine y_getI C 6 _ _ fX11_isBuyer_163 cgp rfl ft_6_0 sb_6_0 hM0 dX11_isBuyer_9 (fun a103 ea103 la103 ua103 => ?_)
    obtain rfl : a103 = (M0.1 gp 0).toInt := ea103
    refine y_icmp_ge C 19 dX11_isBuyer_12 (by decide) (by exact ⟨⟨ha1.1, ha1.2⟩, ⟨(by (clear ua103 la103 hret C egp cgp hM0; omega)), (by (clear ua103 la103 hret C egp cgp hM0; omega))⟩⟩) (fun h105 => ?_) (fun h105 => ?_)
    · refine y_iconst C dX11_isBuyer_19 ?_
      exact hret _ _ _ _ dX11_isBuyer_20 ⟨0, rfl, rfl, by exact ⟨(by decide), ⟨(by decide), ⟨(by (clear ua103 la103 h102 hret C egp cgp ha1 hM0; omega)), u101B.2⟩⟩⟩⟩
    · refine y_iconst C dX11_isBuyer_15 ?_
      refine j_goto C 20 dX11_isBuyer_16 (by decide) ?_
      exact hret _ _ _ _ dX11_isBuyer_20 ⟨1, rfl, rfl, by exact ⟨(by decide), ⟨(by decide), ⟨(by (clear ua103 la103 hret C egp cgp hM0; omega)), u101B.2⟩⟩⟩⟩
set_option maxHeartbeats 4000000 in
theorem s2_X4_allowed {l : Launch} {dC : Nat → ClassId} {dI : Nat → Nat → Nat} {ad : Nat → Nat} {cA : Nat → ClassId} {pr : Nat → Nat → Bool} {Kz : mm_M} {M0 : mm_M} (hM0 : INV pr Kz M0) (hpr : PX pr) (a1 : Int) (ha1 : -2147483648 ≤ a1 ∧ a1 ≤ 2147483647) (a2 : Int) (ha2 : -2147483648 ≤ a2 ∧ a2 ≤ 2147483647) (a3 : Int) (ha3 : -2147483648 ≤ a3 ∧ a3 ≤ 2147483647) (gp : Nat) (cgp : s_c gp = 6) (egp : gp = M0.2.2 81 5) (hp0 : b01 (LWX M0 gp 9 10) = 1) (hp1 : b01 (BTX M0 gp) = 1) (hp2 : 0 ≤ a1 ∧ a1 ≤ 5) (hp3 : 0 ≤ a2 ∧ a2 ≤ 255) (hp4 : 0 ≤ a3 ∧ a3 ≤ 255) : Ci l 3 yX4_allowed wsX4_allowed dC dI ad cA [.ref (ad 81), .int (sI a1), .int (sI a2), .int (sI a3)] M0 (fun r M' => ∃ a : Int, r = sI a ∧ INV pr Kz M' ∧ FX [85, 86] M0 M' ∧ 0 ≤ a ∧ a ≤ 255 ∧ (a = (mwG (mdX M0 gp (sI a3)) a1 a2 (M0.1 81 6).toInt.toNat))) := by
  refine ci_of (cc := cX4_allowed) (maxL := 6) (ty := .int) (lv := [(0, .ref (ad 81)), (1, .int (sI a1)), (2, .int (sI a2)), (3, .int (sI a3))]) (by decide) rfl (fun r M' hp => rfl) (Nat.le_of_ble_eq_true rfl) rfl ?_
  intro p e s m args below meth c A Q C hret
  refine y_iconst C dX4_allowed_0 ?_
  refine j_istore C 4 [(4, .int (sI 0)), (0, .ref (ad 81)), (1, .int (sI a1)), (2, .int (sI a2)), (3, .int (sI a3))] dX4_allowed_1 (by decide) rfl ?_
  refine y_iconst C dX4_allowed_3 ?_
  refine j_istore C 5 [(5, .int (sI 0)), (4, .int (sI 0)), (0, .ref (ad 81)), (1, .int (sI a1)), (2, .int (sI a2)), (3, .int (sI a3))] dX4_allowed_4 (by decide) rfl ?_
  have u101z : mwG (mdX M0 gp (sI a3)) a1 a2 (0 : Int).toNat = 0 := rfl
  have u101k := hM0.rd (i := 81) (c := 3) (k := 6) rfl (show s_b 3 6 = (0, 8) from rfl)
  have L126 : ∀ (n124 : Nat), ∀ (a127 : Int) (a128 : Int) (M129 : mm_M), (0 ≤ a127 ∧ a127 ≤ 255 ∧ 0 ≤ a128 ∧ a128 ≤ 8 ∧ (a127 = mwG (mdX M0 gp (sI a3)) a1 a2 (a128).toNat) ∧ (a128 ≤ (M0.1 81 6).toInt) ∧ (8 - a128) < (n124 : Int)) → INV pr Kz M129 → FX [85, 86] M0 M129 → jj p l e (cn_R 3) s m args below meth c 0 0 Q 6 dC dI ad cA A M129 6 [(0, .ref (ad 81)), (1, .int (sI a1)), (2, .int (sI a2)), (3, .int (sI a3)), (4, .int (sI a127)), (5, .int (sI a128))] [] := by
    intro n124
    induction n124 with
    | zero =>
      intro a127 a128 M129 h130 hM129 fM129
      exfalso; omega
    | succ n124 ih125 =>
      intro a127 a128 M129 h130 hM129 fM129
      refine j_iload C 5 dX4_allowed_6 rfl ?_
      refine j_aload_n C 0 0 dX4_allowed_8 rfl rfl ?_
      refine y_getI C 3 _ _ fX4_allowed_29 rfl rfl ft_3_6 sb_3_6 hM129 dX4_allowed_9 (fun a131 ea131 la131 ua131 => ?_)
      obtain rfl : a131 = (M0.1 81 6).toInt := s_fX fM129 (by decide) (ea131)
      refine y_icmp_ge C 50 dX4_allowed_12 (by decide) (by (clear ua131 la131 fM129 hM129 ih125 u101z hret C hp4 hp3 hp2 hp1 hp0 egp cgp ha3 ha2 ha1 hpr hM0; omega)) (fun h133 => ?_) (fun h133 => ?_)
      · have u150x : a128 = (M0.1 81 6).toInt := by (clear ua131 la131 fM129 hM129 ih125 u101k u101z hret C hp4 hp3 hp2 hp1 hp0 egp cgp ha3 ha2 ha1 hpr hM0; omega)
        have u150y : mwG (mdX M0 gp (sI a3)) a1 a2 (a128).toNat = mwG (mdX M0 gp (sI a3)) a1 a2 (M0.1 81 6).toInt.toNat := by rw [u150x]
        refine j_iload C 4 dX4_allowed_50 rfl ?_
        exact hret _ _ _ _ dX4_allowed_52 ⟨a127, rfl, hM129, (FX.rf.tr fM129 (by decide)), by exact ⟨h130.1, ⟨h130.2.1, (by (clear u150x h133 ua131 la131 ea131 fM129 hM129 ih125 u101k u101z hret C hp4 hp3 hp2 hp1 hp0 egp cgp ha3 ha2 ha1 hpr hM0; omega))⟩⟩⟩
      · have u1349 := hM0.rd (i := gp) (c := 6) (k := 9) cgp (show s_b 6 9 = (0, 900) from rfl)
        have u134m := mb_X M0 gp (b := a1) (k := a128) (s := a2) (h := a3) (by exact ⟨hp2.1, (by omega)⟩) (by exact ⟨h130.2.2.1, (by (clear u1349 ua131 la131 fM129 hM129 ih125 u101z hret C hp4 hp3 hp2 hp1 hp0 egp cgp ha3 ha2 ha1 hpr hM0; omega))⟩) (by exact ⟨hp4.1, hp4.2⟩) (by exact hp1) u1349.1
        have u134w := mwG_s (mdX M0 gp (sI a3)) a1 a2 (x := a128) (x' := a128 + 1) (a := a127) (by exact ⟨h130.2.2.1, (by omega)⟩) rfl (by exact h130.2.2.2.2.1)
        have u134l := lwx_fr (i := 9) (j := 10) ((FX.rf.tr fM129 (by decide)) : FX [85, 86] M0 M129) (by decide) cgp (by exact hp0)
        refine j_iload_n C 3 3 dX4_allowed_15 rfl rfl ?_
        refine j_iload C 5 dX4_allowed_16 rfl ?_
        refine e_ishrP C dX4_allowed_18 (by exact ⟨hp4.1, ha3.2⟩) (fun lb135 ub135 => ?_)
        refine y_iconst C dX4_allowed_19 ?_
        refine e_iandR C dX4_allowed_20 (by exact ⟨(by decide), (by decide)⟩) (fun lb136 ub136 => ?_)
        refine y_if_ne C 44 dX4_allowed_21 (by decide) (by (clear ub135 lb135 u134l u134w u134m u1349 h133 ua131 la131 ea131 fM129 hM129 h130 ih125 u101k u101z hret C hp4 hp3 hp2 hp1 hp0 egp cgp ha3 ha2 ha1 hpr hM0; omega)) (fun h137 => ?_) (fun h137 => ?_)
        · refine y_iinc C 5 [(5, .int (sI (a128 + 1))), (0, .ref (ad 81)), (1, .int (sI a1)), (2, .int (sI a2)), (3, .int (sI a3)), (4, .int (sI a127))] dX4_allowed_44 rfl (by decide) rfl ?_
          refine j_goto C 6 dX4_allowed_47 (by decide) ?_
          refine j_lv [1, 2, 3, 4, 5, 0] rfl ?_; exact ih125 a127 (a128 + 1) M129 (by exact ⟨h130.1, ⟨h130.2.1, ⟨(by (clear ub135 lb135 u134l u1349 ua131 la131 fM129 hM129 ih125 u101z hret C hp4 hp3 hp2 hp1 hp0 egp cgp ha3 ha2 ha1 hpr hM0; omega)), ⟨(by (clear ub135 lb135 u134l u1349 ua131 la131 fM129 hM129 ih125 u101z hret C hp4 hp3 hp2 hp1 hp0 egp cgp ha3 ha2 ha1 hpr hM0; omega)), ⟨(by (clear ub135 lb135 u134l u1349 ua131 la131 fM129 hM129 ih125 u101z hret C hp4 hp3 hp2 hp1 hp0 egp cgp ha3 ha2 ha1 hpr hM0; omega)), ⟨(by (clear ub135 lb135 u134l u1349 ua131 la131 fM129 hM129 ih125 u101z hret C hp4 hp3 hp2 hp1 hp0 egp cgp ha3 ha2 ha1 hpr hM0; omega)), (by (clear ub135 lb135 u134l u1349 ua131 la131 fM129 hM129 ih125 u101z hret C hp4 hp3 hp2 hp1 hp0 egp cgp ha3 ha2 ha1 hpr hM0; omega))⟩⟩⟩⟩⟩⟩) hM129 (FX.rf.tr fM129 (by decide))
        · refine j_aload_n C 0 0 dX4_allowed_24 rfl rfl ?_
          refine j_iload_n C 1 1 dX4_allowed_25 rfl rfl ?_
          refine j_iload C 5 dX4_allowed_26 rfl ?_
          refine j_iload_n C 2 2 dX4_allowed_28 rfl rfl ?_
          refine j_callVi C (d := 2) (As := [.int (sI a1), .int (sI a128), .int (sI a2)]) (st := []) 81 (s_lt rfl rfl) (s_kc (c := 3) rfl rfl) (by decide) rfl (s2_X4_lets hM129 hpr a1 (by exact ⟨ha1.1, ha1.2⟩) a128 (by (clear h137 ub136 lb136 ub135 lb135 u134l u134w u134m u1349 h133 ua131 la131 ea131 fM129 hM129 ih125 u101k u101z hret C hp4 hp3 hp2 hp1 hp0 egp cgp ha3 ha2 ha1 hpr hM0; omega)) a2 (by exact ⟨ha2.1, ha2.2⟩) gp cgp (s_pX fM129 (egp)) (by exact u134l) (by exact ⟨hp2.1, hp2.2⟩) (by exact ⟨h130.2.2.1, (by (clear h137 ub136 lb136 ub135 lb135 u134l u134w u134m u1349 ua131 la131 fM129 hM129 ih125 u101z hret C hp4 hp3 hp2 hp1 hp0 egp cgp ha3 ha2 ha1 hpr hM0; omega))⟩) (by exact ⟨hp3.1, hp3.2⟩)) gX4_allowed_X4_lets rfl hdX4_lets (by decide) (Nat.le_of_ble_eq_true rfl) dX4_allowed_29 rfl (fun r139 M140 h141 => ?_)
          obtain ⟨a143, rfl, hM140, fM140, h142⟩ := h141
          obtain rfl : a143 = (ltO (mdX M129 gp 0) a1 a128 (bsF a2 (8 : Int).toNat) (andI (shrI a2 a128) 1)) := by exact h142.2.2
          have u144f := (ltO_f ((FX.rf.tr fM129 (by decide)) : FX [85, 86] M0 M129) (by decide) cgp a1 a128 (bsF a2 (8 : Int).toNat) (andI (shrI a2 a128) 1)).1
          refine y_if_eq C 44 dX4_allowed_32 (by decide) (by (clear fM140 hM140 h137 ub136 lb136 ub135 lb135 u134l u134w u134m u1349 h133 ua131 la131 ea131 fM129 hM129 h130 ih125 u101k u101z hret C hp4 hp3 hp2 hp1 hp0 egp cgp ha3 ha2 ha1 hpr hM0; omega)) (fun h145 => ?_) (fun h145 => ?_)
          · refine y_iinc C 5 [(5, .int (sI (a128 + 1))), (0, .ref (ad 81)), (1, .int (sI a1)), (2, .int (sI a2)), (3, .int (sI a3)), (4, .int (sI a127))] dX4_allowed_44 rfl (by decide) rfl ?_
            refine j_goto C 6 dX4_allowed_47 (by decide) ?_
            refine j_lv [1, 2, 3, 4, 5, 0] rfl ?_; exact ih125 a127 (a128 + 1) M140 (by exact ⟨h130.1, ⟨h130.2.1, ⟨(by (clear h142 fM140 hM140 h137 ub136 lb136 ub135 lb135 u134l u1349 ua131 la131 fM129 hM129 ih125 u101z hret C hp4 hp3 hp2 hp1 hp0 egp cgp ha3 ha2 ha1 hpr hM0; omega)), ⟨(by (clear h142 fM140 hM140 h137 ub136 lb136 ub135 lb135 u134l u1349 ua131 la131 fM129 hM129 ih125 u101z hret C hp4 hp3 hp2 hp1 hp0 egp cgp ha3 ha2 ha1 hpr hM0; omega)), ⟨(by (clear h142 fM140 hM140 h137 ub136 lb136 ub135 lb135 u134l u1349 ua131 la131 fM129 hM129 ih125 u101z hret C hp4 hp3 hp2 hp1 hp0 egp cgp ha3 ha2 ha1 hpr hM0; omega)), ⟨(by (clear h142 fM140 hM140 h137 ub136 lb136 ub135 lb135 u134l u1349 ua131 la131 fM129 hM129 ih125 u101z hret C hp4 hp3 hp2 hp1 hp0 egp cgp ha3 ha2 ha1 hpr hM0; omega)), (by (clear h142 fM140 hM140 h137 ub136 lb136 ub135 lb135 u134l u1349 ua131 la131 fM129 hM129 ih125 u101z hret C hp4 hp3 hp2 hp1 hp0 egp cgp ha3 ha2 ha1 hpr hM0; omega))⟩⟩⟩⟩⟩⟩) hM140 ((FX.rf.tr fM129 (by decide)).tr fM140 (by decide))
          · refine j_iload C 4 dX4_allowed_35 rfl ?_
            refine y_iconst C dX4_allowed_37 ?_
            refine j_iload C 5 dX4_allowed_38 rfl ?_
            refine e_shl1 C 7 128 dX4_allowed_40 rfl (by decide) (by exact ⟨h130.2.2.1, (by (clear h145 u144f h142 fM140 hM140 h137 ub136 lb136 ub135 lb135 u134l u134w u134m u1349 ua131 la131 fM129 hM129 ih125 u101z hret C hp4 hp3 hp2 hp1 hp0 egp cgp ha3 ha2 ha1 hpr hM0; omega))⟩) (fun lb147 ub147 => ?_)
            refine e_iorN C 8 255 dX4_allowed_41 rfl (by decide) (by exact ⟨h130.1, ⟨h130.2.1, ⟨(by (clear h145 u144f h142 fM140 hM140 h137 ub136 lb136 ub135 lb135 u134l u134w u134m u1349 h133 ua131 la131 ea131 fM129 hM129 ih125 u101k u101z hret C hp4 hp3 hp2 hp1 hp0 egp cgp ha3 ha2 ha1 hpr hM0; omega)), (by (clear h145 u144f h142 fM140 hM140 h137 ub136 lb136 ub135 lb135 u134l u134w u134m u1349 h133 ua131 la131 ea131 fM129 hM129 ih125 u101k u101z hret C hp4 hp3 hp2 hp1 hp0 egp cgp ha3 ha2 ha1 hpr hM0; omega))⟩⟩⟩) (fun lb148 ub148 ob148 => ?_)
            refine j_istore C 4 [(4, .int (sI (orI a127 (pw2 a128)))), (0, .ref (ad 81)), (1, .int (sI a1)), (2, .int (sI a2)), (3, .int (sI a3)), (5, .int (sI a128))] dX4_allowed_42 (by decide) rfl ?_
            refine y_iinc C 5 [(5, .int (sI (a128 + 1))), (4, .int (sI (orI a127 (pw2 a128)))), (0, .ref (ad 81)), (1, .int (sI a1)), (2, .int (sI a2)), (3, .int (sI a3))] dX4_allowed_44 rfl (by decide) rfl ?_
            refine j_goto C 6 dX4_allowed_47 (by decide) ?_
            refine j_lv [2, 3, 4, 5, 1, 0] rfl ?_; exact ih125 (orI a127 (pw2 a128)) (a128 + 1) M140 (by exact ⟨lb148, ⟨ub148, ⟨(by (clear ub147 lb147 fM140 hM140 ub136 lb136 ub135 lb135 u134l u1349 ua131 la131 fM129 hM129 ih125 u101z hret C hp4 hp3 hp2 hp1 hp0 egp cgp ha3 ha2 ha1 hpr hM0; omega)), ⟨(by (clear ub147 lb147 fM140 hM140 ub136 lb136 ub135 lb135 u134l u1349 ua131 la131 fM129 hM129 ih125 u101z hret C hp4 hp3 hp2 hp1 hp0 egp cgp ha3 ha2 ha1 hpr hM0; omega)), ⟨(by (clear ub147 lb147 fM140 hM140 ub136 lb136 ub135 lb135 u134l u1349 ua131 la131 fM129 hM129 ih125 u101z hret C hp4 hp3 hp2 hp1 hp0 egp cgp ha3 ha2 ha1 hpr hM0; omega)), ⟨(by (clear ub147 lb147 fM140 hM140 ub136 lb136 ub135 lb135 u134l u1349 ua131 la131 fM129 hM129 ih125 u101z hret C hp4 hp3 hp2 hp1 hp0 egp cgp ha3 ha2 ha1 hpr hM0; omega)), (by (clear ub147 lb147 fM140 hM140 ub136 lb136 ub135 lb135 u134l u1349 ua131 la131 fM129 hM129 ih125 u101z hret C hp4 hp3 hp2 hp1 hp0 egp cgp ha3 ha2 ha1 hpr hM0; omega))⟩⟩⟩⟩⟩⟩) hM140 ((FX.rf.tr fM129 (by decide)).tr fM140 (by decide))
  refine j_lv [2, 3, 4, 5, 1, 0] rfl ?_; exact L126 2010 0 0 M0 (by exact ⟨(by decide), ⟨(by decide), ⟨(by decide), ⟨(by decide), ⟨u101z.symm, ⟨u101k.1, (by decide)⟩⟩⟩⟩⟩⟩) hM0 FX.rf
set_option maxHeartbeats 4000000 in
theorem s2_X11_buyer {l : Launch} {dC : Nat → ClassId} {dI : Nat → Nat → Nat} {ad : Nat → Nat} {cA : Nat → ClassId} {pr : Nat → Nat → Bool} {Kz : mm_M} {M0 : mm_M} (hM0 : INV pr Kz M0) (hpr : PX pr) (a1 : Int) (ha1 : -2147483648 ≤ a1 ∧ a1 ≤ 2147483647) (a2 : Int) (ha2 : -2147483648 ≤ a2 ∧ a2 ≤ 2147483647) (gp : Nat) (cgp : s_c gp = 6) (egp : gp = M0.2.2 0 4) (hp0 : b01 (APX M0 gp) = 1) (hp1 : b01 (LAW M0 gp) = 1) (hp2 : b01 (PRR (rwX M0 gp 12)) = 1) : Ci l 4 yX11_buyer wsX11_buyer dC dI ad cA [.ref (ad 0), .int (sI a1), .int (sI a2)] M0 (fun r M' => ∃ a : Int, r = sI a ∧ INV pr Kz M' ∧ FX [81, 82, 83, 84, 85, 86] M0 M' ∧ (-2147483648) ≤ a ∧ a ≤ 2147483647 ∧ (a = (byF (rwX M0 gp 12) a1 a2)) ∧ (b01 (APX M' gp) = 1)) := by
  refine ci_of (cc := cX11_buyer) (maxL := 3) (ty := .int) (lv := [(0, .ref (ad 0)), (1, .int (sI a1)), (2, .int (sI a2))]) (by decide) rfl (fun r M' hp => rfl) (Nat.le_of_ble_eq_true rfl) rfl ?_
  intro p e s m args below meth c A Q C hret
  refine j_aload_n C 0 0 dX11_buyer_0 rfl rfl ?_
  refine j_iload_n C 1 1 dX11_buyer_1 rfl rfl ?_
  refine j_callVi C (d := 0) (As := [.int (sI a1)]) (st := []) 0 (s_lt rfl rfl) (s_kc (c := 10) rfl rfl) (by decide) rfl (s2_X11_isBuyer hM0 a1 (by exact ⟨ha1.1, ha1.2⟩) gp cgp (egp)) gX11_buyer_X11_isBuyer rfl hdX11_isBuyer (by decide) (Nat.le_of_ble_eq_true rfl) dX11_buyer_2 rfl (fun r101 M102 h103 => ?_)
  obtain ⟨a105, rfl, rfl, h104⟩ := h103
  refine y_if_ne C 11 dX11_buyer_5 (by decide) (by omega) (fun h106 => ?_) (fun h106 => ?_)
  · refine j_aload_n C 0 0 dX11_buyer_11 rfl rfl ?_
    refine y_getC C 10 81 fX11_buyer_76 rfl rfl ft_10_12 sm_10_12 rfl hM0 dX11_buyer_12 ?_
    refine j_aload_n C 0 0 dX11_buyer_15 rfl rfl ?_
    refine y_getV C 10 gp fX11_buyer_26 rfl rfl ft_10_4 (egp) dX11_buyer_16 ?_
    refine j_aload_n C 0 0 dX11_buyer_19 rfl rfl ?_
    refine y_getC C 10 12 fX11_buyer_36 rfl rfl ft_10_6 sm_10_6 rfl hM0 dX11_buyer_20 ?_
    refine j_callVv C (d := 0) (As := [.ref (ad gp), .ref (ad 12)]) (st := []) 81 (s_lt rfl rfl) (s_kc (c := 3) rfl rfl) (by decide) rfl (s2_X4_tune hM0 hpr cgp rfl (by exact hp0)) gX11_buyer_X4_tune rfl hdX4_tune (by decide) (Nat.le_of_ble_eq_true rfl) dX11_buyer_23 rfl (fun M108 h109 => ?_)
    obtain ⟨hM108, fM108, h110⟩ := h109
    have egp81 : gp = M108.2.2 81 5 := by exact h110.1.symm
    have u1117 := hM0.rd (i := gp) (c := 6) (k := 7) cgp (show s_b 6 7 = (0, 900) from rfl)
    have u1119 := hM0.rd (i := gp) (c := 6) (k := 9) cgp (show s_b 6 9 = (0, 900) from rfl)
    have u111T := tn_0 (M := M0) (N := M108) (p := gp) (v := 12) (ple_f (p := gp) ((FX.rf.tr fM108 (by decide)) : FX [81, 82, 83, 84] M0 M108) cgp (by decide)) (by exact h110.1) (by exact h110.2.2.1) (by exact hp1) (by exact hp2) (by exact h110.2.1) (by exact h110.2.2.2) u1117.1 u1119.1
    have u111E := tn_e (M := M108) (p := gp) (f := (rwX M0 gp 12)) u111T
    have u111B := hM0.rd (i := gp) (c := 6) (k := 0) cgp (show s_b 6 0 = (0, 6) from rfl)
    have u111K : ((rwX M0 gp 12) 26).toInt = (M0.1 12 0).toInt := rfl
    refine j_iload_n C 2 2 dX11_buyer_26 rfl rfl ?_
    rcases (show (a2 < 0 ∨ 4 < a2) ∨ a2 = 0 ∨ a2 = 1 ∨ a2 = 2 ∨ a2 = 3 ∨ a2 = 4 by (clear u111K u111B u111E u111T u1119 u1117 egp81 h110 fM108 hM108 h106 h104 hret C hp2 hp1 hp0 egp cgp ha1 hpr hM0; omega)) with h112 | h112 | h112 | h112 | h112 | h112
    · refine y_tabO C 136 dX11_buyer_27 (by decide) (by exact ⟨⟨ha2.1, ha2.2⟩, h112⟩) ?_
      refine y_bipush C dX11_buyer_136 rfl ?_
      have u113s := byF_s (rwX M0 gp 12) a1 a2
      have u113B : ((rwX M0 gp 12) 1).toInt = (M0.1 gp 0).toInt := rfl
      exact hret _ _ _ _ dX11_buyer_138 ⟨(-2), rfl, hM108, (FX.rf.tr fM108 (by decide)), by exact ⟨(by decide), ⟨(by decide), ⟨(by (clear u113B u111K u111B u111E u111T u1119 u1117 egp81 fM108 hM108 h106 h104 hret C hp2 hp1 hp0 egp cgp ha2 ha1 hpr hM0; omega)), h110.2.2.1⟩⟩⟩⟩
    · refine y_tabI C (off := 33) 60 0 dX11_buyer_27 (by decide) rfl (by decide) h112 ?_
      refine j_aload_n C 0 0 dX11_buyer_60 rfl rfl ?_
      refine y_getV C 10 gp fX11_buyer_26 rfl rfl ft_10_4 (s_pX fM108 (egp)) dX11_buyer_61 ?_
      refine y_getTE C 6 21 fX11_buyer_176 cgp rfl ft_6_2 rfl sm_6_2 st_6_2 (by decide) hM108 dX11_buyer_64 (fun cv114 => ?_)
      refine j_iload_n C 1 1 dX11_buyer_67 rfl rfl ?_
      refine y_iald C 21 6 _ _ cv114 rfl rfl ak_21 an_21 rfl (sb_21 _) hM108 dX11_buyer_68 (by (clear cv114 h112 u111K u111E u111T u1119 u1117 egp81 h110 fM108 hM108 hret C hp2 hp1 hp0 egp cgp ha2 hpr hM0; omega)) (fun a115 ea115 la115 ua115 => ?_)
      obtain rfl : a115 = (M0.1 (s_p0 gp 2) (a1).toNat).toInt := s_fX fM108 (s_nin cv114 (by decide)) (ea115)
      have u116s := byF_s (rwX M0 gp 12) a1 a2
      have u116B : ((rwX M0 gp 12) 1).toInt = (M0.1 gp 0).toInt := rfl
      have u116p : ((rwX M0 gp 12) (8 + a1).toNat).toInt = (M0.1 (s_p0 gp 2) (a1).toNat).toInt := congrArg Int32.toInt (rx_b M0 gp 12 (b := a1) (by (clear ua115 la115 ea115 cv114 h112 u111K u111E u111T u1119 u1117 egp81 h110 fM108 hM108 hret C hp2 hp1 hp0 egp cgp ha2 hpr hM0; omega))).1
      exact hret _ _ _ _ dX11_buyer_69 ⟨(M0.1 (s_p0 gp 2) (a1).toNat).toInt, rfl, hM108, (FX.rf.tr fM108 (by decide)), by exact ⟨la115, ⟨ua115, ⟨(by (clear cv114 u111K u111B u111E u111T u1119 u1117 egp81 fM108 hM108 hret C hp2 hp1 hp0 egp cgp ha2 hpr hM0; omega)), h110.2.2.1⟩⟩⟩⟩
    · refine y_tabI C (off := 43) 70 1 dX11_buyer_27 (by decide) rfl (by decide) h112 ?_
      refine j_aload_n C 0 0 dX11_buyer_70 rfl rfl ?_
      refine y_getV C 10 gp fX11_buyer_26 rfl rfl ft_10_4 (s_pX fM108 (egp)) dX11_buyer_71 ?_
      refine y_getTE C 6 22 fX11_buyer_179 cgp rfl ft_6_3 rfl sm_6_3 st_6_3 (by decide) hM108 dX11_buyer_74 (fun cv117 => ?_)
      refine j_iload_n C 1 1 dX11_buyer_77 rfl rfl ?_
      refine y_iald C 22 6 _ _ cv117 rfl rfl ak_22 an_22 rfl (sb_22 _) hM108 dX11_buyer_78 (by omega) (fun a118 ea118 la118 ua118 => ?_)
      obtain rfl : a118 = (M0.1 (s_p0 gp 3) (a1).toNat).toInt := s_fX fM108 (s_nin cv117 (by decide)) (ea118)
      have u119s := byF_s (rwX M0 gp 12) a1 a2
      have u119B : ((rwX M0 gp 12) 1).toInt = (M0.1 gp 0).toInt := rfl
      have u119p : ((rwX M0 gp 12) (14 + a1).toNat).toInt = (M0.1 (s_p0 gp 3) (a1).toNat).toInt := congrArg Int32.toInt (rx_b M0 gp 12 (b := a1) (by (clear ua118 la118 ea118 cv117 h112 u111K u111E u111T u1119 u1117 egp81 h110 fM108 hM108 hret C hp2 hp1 hp0 egp cgp ha2 hpr hM0; omega))).2.1
      exact hret _ _ _ _ dX11_buyer_79 ⟨(M0.1 (s_p0 gp 3) (a1).toNat).toInt, rfl, hM108, (FX.rf.tr fM108 (by decide)), by exact ⟨la118, ⟨ua118, ⟨(by (clear cv117 u111K u111B u111E u111T u1119 u1117 egp81 fM108 hM108 hret C hp2 hp1 hp0 egp cgp ha2 hpr hM0; omega)), h110.2.2.1⟩⟩⟩⟩
    · refine y_tabI C (off := 53) 80 2 dX11_buyer_27 (by decide) rfl (by decide) h112 ?_
      refine j_aload_n C 0 0 dX11_buyer_80 rfl rfl ?_
      refine y_getV C 10 gp fX11_buyer_26 rfl rfl ft_10_4 (s_pX fM108 (egp)) dX11_buyer_81 ?_
      refine y_getTE C 6 23 fX11_buyer_182 cgp rfl ft_6_4 rfl sm_6_4 st_6_4 (by decide) hM108 dX11_buyer_84 (fun cv120 => ?_)
      refine j_iload_n C 1 1 dX11_buyer_87 rfl rfl ?_
      refine y_iald C 23 6 _ _ cv120 rfl rfl ak_23 an_23 rfl (sb_23 _) hM108 dX11_buyer_88 (by omega) (fun a121 ea121 la121 ua121 => ?_)
      obtain rfl : a121 = (M0.1 (s_p0 gp 4) (a1).toNat).toInt := s_fX fM108 (s_nin cv120 (by decide)) (ea121)
      have u122s := byF_s (rwX M0 gp 12) a1 a2
      have u122B : ((rwX M0 gp 12) 1).toInt = (M0.1 gp 0).toInt := rfl
      have u122p : ((rwX M0 gp 12) (20 + a1).toNat).toInt = (M0.1 (s_p0 gp 4) (a1).toNat).toInt := congrArg Int32.toInt (rx_b M0 gp 12 (b := a1) (by (clear ua121 la121 ea121 cv120 h112 u111K u111E u111T u1119 u1117 egp81 h110 fM108 hM108 hret C hp2 hp1 hp0 egp cgp ha2 hpr hM0; omega))).2.2
      exact hret _ _ _ _ dX11_buyer_89 ⟨(M0.1 (s_p0 gp 4) (a1).toNat).toInt, rfl, hM108, (FX.rf.tr fM108 (by decide)), by exact ⟨la121, ⟨ua121, ⟨(by (clear cv120 u111K u111B u111E u111T u1119 u1117 egp81 fM108 hM108 hret C hp2 hp1 hp0 egp cgp ha2 hpr hM0; omega)), h110.2.2.1⟩⟩⟩⟩
    · refine y_tabI C (off := 63) 90 3 dX11_buyer_27 (by decide) rfl (by decide) h112 ?_
      refine j_aload_n C 0 0 dX11_buyer_90 rfl rfl ?_
      refine y_getC C 10 81 fX11_buyer_76 rfl rfl ft_10_12 sm_10_12 rfl hM108 dX11_buyer_91 ?_
      refine j_iload_n C 1 1 dX11_buyer_94 rfl rfl ?_
      refine j_aload_n C 0 0 dX11_buyer_95 rfl rfl ?_
      refine y_getC C 10 12 fX11_buyer_36 rfl rfl ft_10_6 sm_10_6 rfl hM108 dX11_buyer_96 ?_
      refine y_getI C 8 _ _ fX11_buyer_150 rfl rfl ft_8_3 sb_8_3 hM108 dX11_buyer_99 (fun a123 ea123 la123 ua123 => ?_)
      obtain rfl : a123 = (M0.1 12 3).toInt := s_fX fM108 (by decide) (ea123)
      refine j_aload_n C 0 0 dX11_buyer_102 rfl rfl ?_
      refine y_getC C 10 12 fX11_buyer_36 rfl rfl ft_10_6 sm_10_6 rfl hM108 dX11_buyer_103 ?_
      refine y_getI C 8 _ _ fX11_buyer_153 rfl rfl ft_8_4 sb_8_4 hM108 dX11_buyer_106 (fun a125 ea125 la125 ua125 => ?_)
      obtain rfl : a125 = (M0.1 12 4).toInt := s_fX fM108 (by decide) (ea125)
      refine j_callVi C (d := 3) (As := [.int (sI a1), .int (sI (M0.1 12 3).toInt), .int (sI (M0.1 12 4).toInt)]) (st := []) 81 (s_lt rfl rfl) (s_kc (c := 3) rfl rfl) (by decide) rfl (s2_X4_allowed hM108 hpr a1 (by exact ⟨ha1.1, ha1.2⟩) (M0.1 12 3).toInt (by (clear ua125 la125 ea125 h112 u111K u111B u111E u111T u1119 u1117 egp81 h110 fM108 hM108 h106 h104 hret C hp2 hp1 hp0 egp cgp ha2 ha1 hpr hM0; omega)) (M0.1 12 4).toInt (by (clear ua123 la123 ea123 h112 u111K u111B u111E u111T u1119 u1117 egp81 h110 fM108 hM108 h106 h104 hret C hp2 hp1 hp0 egp cgp ha2 ha1 hpr hM0; omega)) gp cgp (egp81) (by exact u111E.1.2.1) (by exact u111E.1.2.2.1) (by (clear ua125 la125 ea125 ua123 la123 ea123 h112 u111K u111E u111T u1119 u1117 egp81 h110 fM108 hM108 hret C hp2 hp1 hp0 egp cgp ha2 hpr hM0; omega)) (by exact ⟨la123, ua123⟩) (by exact ⟨la125, ua125⟩)) gX11_buyer_X4_allowed rfl hdX4_allowed (by decide) (Nat.le_of_ble_eq_true rfl) dX11_buyer_109 rfl (fun r127 M128 h129 => ?_)
      obtain ⟨a131, rfl, hM128, fM128, h130⟩ := h129
      obtain rfl : a131 = (mwG (mdX M108 gp (sI (M0.1 12 4).toInt)) a1 (M0.1 12 3).toInt (M108.1 81 6).toInt.toNat) := by exact h130.2.2
      have u132s := byF_s (rwX M0 gp 12) a1 a2
      have u132B : ((rwX M0 gp 12) 1).toInt = (M0.1 gp 0).toInt := rfl
      have u132b := tn_m (M := M108) (p := gp) (f := (rwX M0 gp 12)) (b := a1) (s := (M0.1 12 3).toInt) (hx := (M0.1 12 4).toInt) (by exact u111T) (by (clear h130 fM128 hM128 ua125 la125 ea125 ua123 la123 ea123 h112 u111K u111E u111T u1119 u1117 egp81 h110 fM108 hM108 hret C hp2 hp1 hp0 egp cgp ha2 hpr hM0; omega)) rfl rfl
      have u132A7 := hM108.rd (i := gp) (c := 6) (k := 7) cgp (show s_b 6 7 = (0, 900) from rfl)
      have u132A9 := hM108.rd (i := gp) (c := 6) (k := 9) cgp (show s_b 6 9 = (0, 900) from rfl)
      have u132A := apx_o (M := M108) (N := M128) (p := gp) (ple_f (p := gp) ((FX.rf.tr fM128 (by decide)) : FX [85, 86] M108 M128) cgp (by decide)) (((FX.rf.tr fM128 (by decide)) : FX [85, 86] M108 M128).cell (by decide)) (((FX.rf.tr fM128 (by decide)) : FX [85, 86] M108 M128).cell (by decide)) (((FX.rf.tr fM128 (by decide)) : FX [85, 86] M108 M128).cell (by decide)) u132A7.1 u132A9.1 (by exact h110.2.2.1)
      exact hret _ _ _ _ dX11_buyer_112 ⟨(mwG (mdX M108 gp (sI (M0.1 12 4).toInt)) a1 (M0.1 12 3).toInt (M108.1 81 6).toInt.toNat), rfl, hM128, ((FX.rf.tr fM108 (by decide)).tr fM128 (by decide)), by exact ⟨(by (clear u132A9 u132A7 fM128 hM128 ua125 la125 ea125 ua123 la123 ea123 u111K u111B u111E u111T u1119 u1117 egp81 h110 fM108 hM108 hret C hp2 hp1 hp0 egp cgp ha2 hpr hM0; omega)), ⟨(by (clear u132A9 u132A7 fM128 hM128 ua125 la125 ea125 ua123 la123 ea123 u111K u111B u111E u111T u1119 u1117 egp81 h110 fM108 hM108 hret C hp2 hp1 hp0 egp cgp ha2 hpr hM0; omega)), ⟨(by (clear u132A9 u132A7 fM128 hM128 ua125 la125 ea125 ua123 la123 ea123 u111K u111B u111E u111T u1119 u1117 egp81 h110 fM108 hM108 hret C hp2 hp1 hp0 egp cgp ha2 hpr hM0; omega)), u132A⟩⟩⟩⟩
    · refine y_tabI C (off := 86) 113 4 dX11_buyer_27 (by decide) rfl (by decide) h112 ?_
      refine j_aload_n C 0 0 dX11_buyer_113 rfl rfl ?_
      refine y_getC C 10 81 fX11_buyer_76 rfl rfl ft_10_12 sm_10_12 rfl hM108 dX11_buyer_114 ?_
      refine j_iload_n C 1 1 dX11_buyer_117 rfl rfl ?_
      refine j_aload_n C 0 0 dX11_buyer_118 rfl rfl ?_
      refine y_getC C 10 12 fX11_buyer_36 rfl rfl ft_10_6 sm_10_6 rfl hM108 dX11_buyer_119 ?_
      refine y_getI C 8 _ _ fX11_buyer_150 rfl rfl ft_8_3 sb_8_3 hM108 dX11_buyer_122 (fun a133 ea133 la133 ua133 => ?_)
      obtain rfl : a133 = (M0.1 12 3).toInt := s_fX fM108 (by decide) (ea133)
      refine j_aload_n C 0 0 dX11_buyer_125 rfl rfl ?_
      refine y_getC C 10 12 fX11_buyer_36 rfl rfl ft_10_6 sm_10_6 rfl hM108 dX11_buyer_126 ?_
      refine y_getI C 8 _ _ fX11_buyer_153 rfl rfl ft_8_4 sb_8_4 hM108 dX11_buyer_129 (fun a135 ea135 la135 ua135 => ?_)
      obtain rfl : a135 = (M0.1 12 4).toInt := s_fX fM108 (by decide) (ea135)
      refine j_callVi C (d := 3) (As := [.int (sI a1), .int (sI (M0.1 12 3).toInt), .int (sI (M0.1 12 4).toInt)]) (st := []) 81 (s_lt rfl rfl) (s_kc (c := 3) rfl rfl) (by decide) rfl (s2_X4_choice hM108 hpr a1 (by exact ⟨ha1.1, ha1.2⟩) (M0.1 12 3).toInt (by omega) (M0.1 12 4).toInt (by omega) gp cgp (egp81) (by exact u111E.1.2.1) (by exact u111E.1.1) (by exact h110.2.2.1) (by exact u111E.1.2.2.1) (by exact u111E.1.2.2.2.1) (by omega) (by exact ⟨la133, ua133⟩) (by exact ⟨la135, ua135⟩)) gX11_buyer_X4_choice rfl hdX4_choice (by decide) (Nat.le_of_ble_eq_true rfl) dX11_buyer_132 rfl (fun r137 M138 h139 => ?_)
      obtain ⟨a141, rfl, hM138, fM138, h140⟩ := h139
      obtain rfl : a141 = (boF (mdX M108 gp (sI (M0.1 12 4).toInt)) a1 (M0.1 12 3).toInt) := by exact h140.2.2.1
      have u142s := byF_s (rwX M0 gp 12) a1 a2
      have u142B : ((rwX M0 gp 12) 1).toInt = (M0.1 gp 0).toInt := rfl
      have u142b := tn_b (M := M108) (p := gp) (f := (rwX M0 gp 12)) (b := a1) (s := (M0.1 12 3).toInt) (hx := (M0.1 12 4).toInt) (by exact u111T) (by (clear h140 fM138 hM138 ua135 la135 ea135 ua133 la133 ea133 h112 u111K u111E u111T u1119 u1117 egp81 h110 fM108 hM108 hret C hp2 hp1 hp0 egp cgp ha2 hpr hM0; omega)) rfl rfl
      exact hret _ _ _ _ dX11_buyer_135 ⟨(boF (mdX M108 gp (sI (M0.1 12 4).toInt)) a1 (M0.1 12 3).toInt), rfl, hM138, ((FX.rf.tr fM108 (by decide)).tr fM138 (by decide)), by exact ⟨(by (clear fM138 hM138 ua135 la135 ea135 ua133 la133 ea133 u111K u111B u111E u111T u1119 u1117 egp81 h110 fM108 hM108 hret C hp2 hp1 hp0 egp cgp ha2 hpr hM0; omega)), ⟨(by (clear fM138 hM138 ua135 la135 ea135 ua133 la133 ea133 u111K u111B u111E u111T u1119 u1117 egp81 h110 fM108 hM108 hret C hp2 hp1 hp0 egp cgp ha2 hpr hM0; omega)), ⟨(by (clear fM138 hM138 ua135 la135 ea135 ua133 la133 ea133 u111K u111B u111E u111T u1119 u1117 egp81 h110 fM108 hM108 hret C hp2 hp1 hp0 egp cgp ha2 hpr hM0; omega)), h140.2.2.2⟩⟩⟩⟩
  · refine y_bipush C dX11_buyer_8 rfl ?_
    have u143s := byF_s (rwX M0 gp 12) a1 a2
    have u143B : ((rwX M0 gp 12) 1).toInt = (M0.1 gp 0).toInt := rfl
    exact hret _ _ _ _ dX11_buyer_10 ⟨(-2), rfl, hM0, FX.rf, by exact ⟨(by decide), ⟨(by decide), ⟨(by (clear hret C hp2 hp1 egp cgp ha2 hpr hM0; omega)), hp0⟩⟩⟩⟩
set_option maxHeartbeats 4000000 in
theorem s2_X11_wants {l : Launch} {dC : Nat → ClassId} {dI : Nat → Nat → Nat} {ad : Nat → Nat} {cA : Nat → ClassId} {pr : Nat → Nat → Bool} {Kz : mm_M} {M0 : mm_M} (hM0 : INV pr Kz M0) (hpr : PX pr) (a1 : Int) (ha1 : -2147483648 ≤ a1 ∧ a1 ≤ 2147483647) (a2 : Int) (ha2 : -2147483648 ≤ a2 ∧ a2 ≤ 2147483647) (gp : Nat) (cgp : s_c gp = 6) (egp : gp = M0.2.2 0 4) (hp0 : b01 (APX M0 gp) = 1) (hp1 : b01 (LAW M0 gp) = 1) (hp2 : b01 (PRR (rwX M0 gp 12)) = 1) : Ci l 3 yX11_wants wsX11_wants dC dI ad cA [.ref (ad 0), .int (sI a1), .int (sI a2)] M0 (fun r M' => ∃ a : Int, r = sI a ∧ INV pr Kz M' ∧ FX [81, 82, 83, 84, 85, 86] M0 M' ∧ (-2147483648) ≤ a ∧ a ≤ 2147483647 ∧ (a = (wsF (rwX M0 gp 12) a1 a2)) ∧ (b01 (APX M' gp) = 1)) := by
  refine ci_of (cc := cX11_wants) (maxL := 3) (ty := .int) (lv := [(0, .ref (ad 0)), (1, .int (sI a1)), (2, .int (sI a2))]) (by decide) rfl (fun r M' hp => rfl) (Nat.le_of_ble_eq_true rfl) rfl ?_
  intro p e s m args below meth c A Q C hret
  refine j_aload_n C 0 0 dX11_wants_0 rfl rfl ?_
  refine j_iload_n C 1 1 dX11_wants_1 rfl rfl ?_
  refine j_callVi C (d := 0) (As := [.int (sI a1)]) (st := []) 0 (s_lt rfl rfl) (s_kc (c := 10) rfl rfl) (by decide) rfl (s2_X11_isBuyer hM0 a1 (by exact ⟨ha1.1, ha1.2⟩) gp cgp (egp)) gX11_wants_X11_isBuyer rfl hdX11_isBuyer (by decide) (Nat.le_of_ble_eq_true rfl) dX11_wants_2 rfl (fun r101 M102 h103 => ?_)
  obtain ⟨a105, rfl, rfl, h104⟩ := h103
  refine y_if_eq C 16 dX11_wants_5 (by decide) (by omega) (fun h106 => ?_) (fun h106 => ?_)
  · refine y_ldc C (-99000002) dX11_wants_16 kX11_wants_188 rfl ?_
    have u107s := wsF_s (rwX M0 gp 12) a1 a2
    have u107B : ((rwX M0 gp 12) 1).toInt = (M0.1 gp 0).toInt := rfl
    have u107K : ((rwX M0 gp 12) 26).toInt = (M0.1 12 0).toInt := rfl
    exact hret _ _ _ _ dX11_wants_18 ⟨(-99000002), rfl, hM0, FX.rf, by exact ⟨(by decide), ⟨(by decide), ⟨(by (clear u107K hret C hp2 hp1 egp cgp ha2 hpr hM0; omega)), hp0⟩⟩⟩⟩
  · refine j_aload_n C 0 0 dX11_wants_8 rfl rfl ?_
    refine j_iload_n C 2 2 dX11_wants_9 rfl rfl ?_
    refine j_callVi C (d := 0) (As := [.int (sI a2)]) (st := []) 0 (s_lt rfl rfl) (s_kc (c := 10) rfl rfl) (by decide) rfl (s1_X11_isKind hM0 a2 (by exact ⟨ha2.1, ha2.2⟩)) gX11_wants_X11_isKind rfl hdX11_isKind (by decide) (Nat.le_of_ble_eq_true rfl) dX11_wants_10 rfl (fun r108 M109 h110 => ?_)
    obtain ⟨a112, rfl, rfl, h111⟩ := h110
    refine y_if_ne C 19 dX11_wants_13 (by decide) (by (clear h106 h104 hret C hp2 hp1 hp0 egp cgp ha2 ha1 hpr hM0; omega)) (fun h113 => ?_) (fun h113 => ?_)
    · refine j_aload_n C 0 0 dX11_wants_19 rfl rfl ?_
      refine y_getC C 10 81 fX11_wants_76 rfl rfl ft_10_12 sm_10_12 rfl hM0 dX11_wants_20 ?_
      refine j_aload_n C 0 0 dX11_wants_23 rfl rfl ?_
      refine y_getV C 10 gp fX11_wants_26 rfl rfl ft_10_4 (egp) dX11_wants_24 ?_
      refine j_aload_n C 0 0 dX11_wants_27 rfl rfl ?_
      refine y_getC C 10 12 fX11_wants_36 rfl rfl ft_10_6 sm_10_6 rfl hM0 dX11_wants_28 ?_
      refine j_callVv C (d := 0) (As := [.ref (ad gp), .ref (ad 12)]) (st := []) 81 (s_lt rfl rfl) (s_kc (c := 3) rfl rfl) (by decide) rfl (s2_X4_tune hM0 hpr cgp rfl (by exact hp0)) gX11_wants_X4_tune rfl hdX4_tune (by decide) (Nat.le_of_ble_eq_true rfl) dX11_wants_31 rfl (fun M115 h116 => ?_)
      obtain ⟨hM115, fM115, h117⟩ := h116
      have egp81 : gp = M115.2.2 81 5 := by exact h117.1.symm
      have u1187 := hM0.rd (i := gp) (c := 6) (k := 7) cgp (show s_b 6 7 = (0, 900) from rfl)
      have u1189 := hM0.rd (i := gp) (c := 6) (k := 9) cgp (show s_b 6 9 = (0, 900) from rfl)
      have u118T := tn_0 (M := M0) (N := M115) (p := gp) (v := 12) (ple_f (p := gp) ((FX.rf.tr fM115 (by decide)) : FX [81, 82, 83, 84] M0 M115) cgp (by decide)) (by exact h117.1) (by exact h117.2.2.1) (by exact hp1) (by exact hp2) (by exact h117.2.1) (by exact h117.2.2.2) u1187.1 u1189.1
      have u118E := tn_e (M := M115) (p := gp) (f := (rwX M0 gp 12)) u118T
      have u118B := hM0.rd (i := gp) (c := 6) (k := 0) cgp (show s_b 6 0 = (0, 6) from rfl)
      have u118K : ((rwX M0 gp 12) 26).toInt = (M0.1 12 0).toInt := rfl
      refine j_aload_n C 0 0 dX11_wants_34 rfl rfl ?_
      refine y_getC C 10 81 fX11_wants_76 rfl rfl ft_10_12 sm_10_12 rfl hM115 dX11_wants_35 ?_
      refine j_iload_n C 1 1 dX11_wants_38 rfl rfl ?_
      refine j_iload_n C 2 2 dX11_wants_39 rfl rfl ?_
      refine j_aload_n C 0 0 dX11_wants_40 rfl rfl ?_
      refine y_getC C 10 12 fX11_wants_36 rfl rfl ft_10_6 sm_10_6 rfl hM115 dX11_wants_41 ?_
      refine y_getI C 8 _ _ fX11_wants_150 rfl rfl ft_8_3 sb_8_3 hM115 dX11_wants_44 (fun a119 ea119 la119 ua119 => ?_)
      obtain rfl : a119 = (M0.1 12 3).toInt := s_fX fM115 (by decide) (ea119)
      refine j_callVi C (d := 2) (As := [.int (sI a1), .int (sI a2), .int (sI (M0.1 12 3).toInt)]) (st := []) 81 (s_lt rfl rfl) (s_kc (c := 3) rfl rfl) (by decide) rfl (s2_X4_wish hM115 hpr a1 (by exact ⟨ha1.1, ha1.2⟩) a2 (by exact ⟨ha2.1, ha2.2⟩) (M0.1 12 3).toInt (by (clear u118K u118B u118E u118T u1189 u1187 egp81 h117 fM115 hM115 h113 h111 h106 h104 hret C hp2 hp1 hp0 egp cgp ha2 ha1 hpr hM0; omega)) gp cgp (egp81) (by exact u118E.1.1) (by (clear ua119 la119 ea119 u118K u118E u118T u1189 u1187 egp81 h117 fM115 hM115 hret C hp2 hp1 hp0 egp cgp ha2 hpr hM0; omega)) (by (clear ua119 la119 ea119 u118K u118B u118T u1189 u1187 egp81 fM115 hM115 h106 h104 hret C hp2 hp1 hp0 egp cgp ha1 hpr hM0; omega)) (by exact ⟨la119, ua119⟩)) gX11_wants_X4_wish rfl hdX4_wish (by decide) (Nat.le_of_ble_eq_true rfl) dX11_wants_47 rfl (fun r121 M122 h123 => ?_)
      obtain ⟨a125, rfl, hM122, fM122, h124⟩ := h123
      obtain rfl : a125 = (wtO (mdX M115 gp 0) a1 a2 (bsF (M0.1 12 3).toInt (8 : Int).toNat) (andI (shrI (M0.1 12 3).toInt a2) 1)) := by exact h124.2.2
      have u126s := wsF_s (rwX M0 gp 12) a1 a2
      have u126B : ((rwX M0 gp 12) 1).toInt = (M0.1 gp 0).toInt := rfl
      have u126K : ((rwX M0 gp 12) 26).toInt = (M0.1 12 0).toInt := rfl
      have u126w := tn_w (M := M115) (p := gp) (f := (rwX M0 gp 12)) (b := a1) (k := a2) (s := (M0.1 12 3).toInt) (by exact u118T) (by (clear u126K h124 fM122 hM122 ua119 la119 ea119 u118K u118T u1189 u1187 egp81 fM115 hM115 hret C hp2 hp1 hp0 egp cgp hpr hM0; omega)) (by (clear u126K u126B h124 fM122 hM122 ua119 la119 ea119 u118K u118B u118T u1189 u1187 egp81 fM115 hM115 h106 h104 hret C hp2 hp1 hp0 egp cgp ha1 hpr hM0; omega)) rfl
      have u126A7 := hM115.rd (i := gp) (c := 6) (k := 7) cgp (show s_b 6 7 = (0, 900) from rfl)
      have u126A9 := hM115.rd (i := gp) (c := 6) (k := 9) cgp (show s_b 6 9 = (0, 900) from rfl)
      have u126A := apx_o (M := M115) (N := M122) (p := gp) (ple_f (p := gp) ((FX.rf.tr fM122 (by decide)) : FX [85, 86] M115 M122) cgp (by decide)) (((FX.rf.tr fM122 (by decide)) : FX [85, 86] M115 M122).cell (by decide)) (((FX.rf.tr fM122 (by decide)) : FX [85, 86] M115 M122).cell (by decide)) (((FX.rf.tr fM122 (by decide)) : FX [85, 86] M115 M122).cell (by decide)) u126A7.1 u126A9.1 (by exact h117.2.2.1)
      exact hret _ _ _ _ dX11_wants_50 ⟨(wtO (mdX M115 gp 0) a1 a2 (bsF (M0.1 12 3).toInt (8 : Int).toNat) (andI (shrI (M0.1 12 3).toInt a2) 1)), rfl, hM122, ((FX.rf.tr fM115 (by decide)).tr fM122 (by decide)), by exact ⟨h124.1, ⟨h124.2.1, ⟨(by (clear u126A9 u126A7 u126K fM122 hM122 ua119 la119 ea119 u118K u118B u118T u1189 u1187 egp81 fM115 hM115 hret C hp2 hp1 hp0 egp cgp hpr hM0; omega)), u126A⟩⟩⟩⟩
    · refine y_ldc C (-99000002) dX11_wants_16 kX11_wants_188 rfl ?_
      have u127s := wsF_s (rwX M0 gp 12) a1 a2
      have u127B : ((rwX M0 gp 12) 1).toInt = (M0.1 gp 0).toInt := rfl
      have u127K : ((rwX M0 gp 12) 26).toInt = (M0.1 12 0).toInt := rfl
      exact hret _ _ _ _ dX11_wants_18 ⟨(-99000002), rfl, hM0, FX.rf, by exact ⟨(by decide), ⟨(by decide), ⟨(by (clear u127B h106 h104 hret C hp2 hp1 egp cgp ha1 hpr hM0; omega)), hp0⟩⟩⟩⟩
end
section
set_option maxHeartbeats 4000000 in
theorem s3_X11_trayRefusal {l : Launch} {dC : Nat → ClassId} {dI : Nat → Nat → Nat} {ad : Nat → Nat} {cA : Nat → ClassId} {pr : Nat → Nat → Bool} {Kz : mm_M} {M0 : mm_M} (hM0 : INV pr Kz M0) (a1 : Int) (ha1 : -2147483648 ≤ a1 ∧ a1 ≤ 2147483647) : Ci l 1 yX11_trayRefusal wsX11_trayRefusal dC dI ad cA [.ref (ad 0), .int (sI a1)] M0 (fun r M' => ∃ a : Int, r = sI a ∧ M0 = M' ∧ (-6) ≤ a ∧ a ≤ 0 ∧ (a = ntX M0 a1) ∧ (a = 0 ∧ 0 ≤ a1 ∧ a1 ≤ 3 ∨ a < 0)) := by
  refine ci_of (cc := cX11_trayRefusal) (maxL := 2) (ty := .int) (lv := [(0, .ref (ad 0)), (1, .int (sI a1))]) (by decide) rfl (fun r M' hp => rfl) (Nat.le_of_ble_eq_true rfl) rfl ?_
  intro p e s m args below meth c A Q C hret
  refine j_iload_n C 1 1 dX11_trayRefusal_0 rfl rfl ?_
  refine j_callSi C (d := 0) (As := [.int (sI a1)]) (st := []) (s1_X11_isTray hM0 a1 (by exact ⟨ha1.1, ha1.2⟩)) gX11_trayRefusal_X11_isTray rfl hdX11_isTrays (by decide) (Nat.le_of_ble_eq_true rfl) dX11_trayRefusal_1 rfl (fun r101 M102 h103 => ?_)
  obtain ⟨a105, rfl, rfl, h104⟩ := h103
  refine y_if_ne C 10 dX11_trayRefusal_4 (by decide) (by omega) (fun h106 => ?_) (fun h106 => ?_)
  · refine j_aload_n C 0 0 dX11_trayRefusal_10 rfl rfl ?_
    refine y_getC C 10 50 fX11_trayRefusal_52 rfl rfl ft_10_9 sm_10_9 rfl hM0 dX11_trayRefusal_11 ?_
    refine j_iload_n C 1 1 dX11_trayRefusal_14 rfl rfl ?_
    refine y_aaldE C 28 4 9 rfl rfl rfl rfl an_28 rfl sma_28 sta_28 (by decide) hM0 dX11_trayRefusal_15 (by omega) (fun cv107 => ?_)
    refine j_callVi C (d := 0) (As := []) (st := []) (s_p0 50 (a1).toNat) (s_lt cv107 rfl) (s_kc (c := 9) cv107 rfl) (by decide) rfl (s1_X10_isMissing hM0 cv107) gX11_trayRefusal_X10_isMissing rfl hdX10_isMissing (by decide) (Nat.le_of_ble_eq_true rfl) dX11_trayRefusal_16 rfl (fun r108 M109 h110 => ?_)
    obtain ⟨a112, rfl, rfl, h111⟩ := h110
    refine y_if_eq C 27 dX11_trayRefusal_19 (by decide) (by omega) (fun h113 => ?_) (fun h113 => ?_)
    · refine y_iconst C dX11_trayRefusal_27 ?_
      have u114s := ntX_s M0 a1
      have u114t : tsX M0 a1 = (M0.1 (s_p0 50 (a1).toNat) 2).toInt := rfl
      exact hret _ _ _ _ dX11_trayRefusal_28 ⟨0, rfl, rfl, by exact ⟨(by decide), ⟨(by decide), ⟨(by (clear cv107 hret C hM0; omega)), (by (clear cv107 hret C hM0; omega))⟩⟩⟩⟩
    · refine y_bipush C dX11_trayRefusal_22 rfl ?_
      refine j_goto C 28 dX11_trayRefusal_24 (by decide) ?_
      have u115s := ntX_s M0 a1
      have u115t : tsX M0 a1 = (M0.1 (s_p0 50 (a1).toNat) 2).toInt := rfl
      exact hret _ _ _ _ dX11_trayRefusal_28 ⟨(-6), rfl, rfl, by exact ⟨(by decide), ⟨(by decide), ⟨(by (clear cv107 hret C hM0; omega)), (by (clear cv107 hret C hM0; omega))⟩⟩⟩⟩
  · refine y_bipush C dX11_trayRefusal_7 rfl ?_
    have u116s := ntX_s M0 a1
    have u116t : tsX M0 a1 = (M0.1 (s_p0 50 (a1).toNat) 2).toInt := rfl
    exact hret _ _ _ _ dX11_trayRefusal_9 ⟨(-2), rfl, rfl, by exact ⟨(by decide), ⟨(by decide), ⟨(by (clear u116t hret C hM0; omega)), (by (clear u116t hret C hM0; omega))⟩⟩⟩⟩
set_option maxHeartbeats 4000000 in
theorem s2_X10_size {l : Launch} {dC : Nat → ClassId} {dI : Nat → Nat → Nat} {ad : Nat → Nat} {cA : Nat → ClassId} {pr : Nat → Nat → Bool} {Kz : mm_M} {M0 : mm_M} (hM0 : INV pr Kz M0) {v0 : Nat} (cv0 : s_c v0 = 9) : Ci l 1 yX10_size wsX10_size dC dI ad cA [.ref (ad v0)] M0 (fun r M' => ∃ a : Int, r = sI a ∧ M0 = M' ∧ 0 ≤ a ∧ a ≤ 40 ∧ (0 ≤ (M0.1 v0 2).toInt ∧ a = (M0.1 v0 2).toInt ∨ (M0.1 v0 2).toInt < 0 ∧ a = 0)) := by
  refine ci_of (cc := cX10_size) (maxL := 1) (ty := .int) (lv := [(0, .ref (ad v0))]) (by decide) rfl (fun r M' hp => rfl) (Nat.le_of_ble_eq_true rfl) rfl ?_
  intro p e s m args below meth c A Q C hret
  refine j_aload_n C 0 0 dX10_size_0 rfl rfl ?_
  refine y_getI C 9 _ _ fX10_size_19 cv0 rfl ft_9_2 sb_9_2 hM0 dX10_size_1 (fun a101 ea101 la101 ua101 => ?_)
  obtain rfl : a101 = (M0.1 v0 2).toInt := ea101
  refine y_iconst C dX10_size_4 ?_
  refine y_mmax C wX10_size_22_0 wX10_size_22_1 wX10_size_22_2 wX10_size_22_3 (by decide) (Nat.le_of_ble_eq_true rfl) dX10_size_5 (by exact ⟨⟨(by omega), (by omega)⟩, ⟨(by decide), (by decide)⟩⟩) (fun a103 ha103 => ?_)
  exact hret _ _ _ _ dX10_size_8 ⟨a103, rfl, rfl, by (clear hret C cv0 hM0; omega)⟩
set_option maxHeartbeats 4000000 in
theorem s2_X10_has {l : Launch} {dC : Nat → ClassId} {dI : Nat → Nat → Nat} {ad : Nat → Nat} {cA : Nat → ClassId} {pr : Nat → Nat → Bool} {Kz : mm_M} {M0 : mm_M} (hM0 : INV pr Kz M0) {v0 : Nat} (cv0 : s_c v0 = 9) (a1 : Int) (ha1 : -2147483648 ≤ a1 ∧ a1 ≤ 2147483647) : Ci l 0 yX10_has wsX10_has dC dI ad cA [.ref (ad v0), .int (sI a1)] M0 (fun r M' => ∃ a : Int, r = sI a ∧ M0 = M' ∧ 0 ≤ a ∧ a ≤ 1 ∧ ((a1 < 0 ∧ a = 0) ∨ ((-1) ≤ (M0.1 v0 2).toInt ∧ (M0.1 v0 2).toInt ≤ 40 ∧ 0 ≤ a1 ∧ (M0.1 v0 2).toInt ≤ a1 ∧ a = 0) ∨ (1 ≤ (M0.1 v0 2).toInt ∧ (M0.1 v0 2).toInt ≤ 40 ∧ 0 ≤ a1 ∧ a1 < (M0.1 v0 2).toInt ∧ a = 1))) := by
  refine ci_of (cc := cX10_has) (maxL := 2) (ty := .boolean) (lv := [(0, .ref (ad v0)), (1, .int (sI a1))]) (by decide) rfl (fun r M' hp => by obtain ⟨a, rfl, -, h⟩ := hp; rcases (show a = 0 ∨ a = 1 by omega) with rfl | rfl <;> rfl) (Nat.le_of_ble_eq_true rfl) rfl ?_
  intro p e s m args below meth c A Q C hret
  refine j_iload_n C 1 1 dX10_has_0 rfl rfl ?_
  refine y_if_lt C 16 dX10_has_1 (by decide) (by exact ⟨ha1.1, ha1.2⟩) (fun h101 => ?_) (fun h101 => ?_)
  · refine y_iconst C dX10_has_16 ?_
    exact hret _ _ _ _ dX10_has_17 ⟨0, rfl, rfl, by exact ⟨(by decide), ⟨(by decide), (by (clear hret C cv0 hM0; omega))⟩⟩⟩
  · refine j_iload_n C 1 1 dX10_has_4 rfl rfl ?_
    refine j_aload_n C 0 0 dX10_has_5 rfl rfl ?_
    refine y_getI C 9 _ _ fX10_has_19 cv0 rfl ft_9_2 sb_9_2 hM0 dX10_has_6 (fun a102 ea102 la102 ua102 => ?_)
    obtain rfl : a102 = (M0.1 v0 2).toInt := ea102
    refine y_icmp_ge C 16 dX10_has_9 (by decide) (by exact ⟨⟨ha1.1, ha1.2⟩, ⟨(by (clear hret C cv0 hM0; omega)), (by (clear hret C cv0 hM0; omega))⟩⟩) (fun h104 => ?_) (fun h104 => ?_)
    · refine y_iconst C dX10_has_16 ?_
      exact hret _ _ _ _ dX10_has_17 ⟨0, rfl, rfl, by exact ⟨(by decide), ⟨(by decide), (by (clear hret C cv0 hM0; omega))⟩⟩⟩
    · refine y_iconst C dX10_has_12 ?_
      refine j_goto C 17 dX10_has_13 (by decide) ?_
      exact hret _ _ _ _ dX10_has_17 ⟨1, rfl, rfl, by exact ⟨(by decide), ⟨(by decide), (by (clear hret C cv0 hM0; omega))⟩⟩⟩
set_option maxHeartbeats 4000000 in
theorem s3_X10_numberAt {l : Launch} {dC : Nat → ClassId} {dI : Nat → Nat → Nat} {ad : Nat → Nat} {cA : Nat → ClassId} {pr : Nat → Nat → Bool} {Kz : mm_M} {M0 : mm_M} (hM0 : INV pr Kz M0) {v0 : Nat} (cv0 : s_c v0 = 9) (a1 : Int) (ha1 : -2147483648 ≤ a1 ∧ a1 ≤ 2147483647) : Cj l 1 yX10_numberAt wsX10_numberAt dC dI ad cA [.ref (ad v0), .int (sI a1)] M0 (fun r M' => ∃ a : Int, r = sJ a ∧ M0 = M' ∧ (-9223372036854775808) ≤ a ∧ a ≤ 9223372036854775807 ∧ (0 ≤ a1 ∧ a1 < (M0.1 v0 2).toInt ∧ a = (M0.2.1 (s_p0 v0 0) (a1).toNat).toInt ∨ (a1 < 0 ∨ (M0.1 v0 2).toInt ≤ a1) ∧ a = 0)) := by
  refine cj_of (cc := cX10_numberAt) (maxL := 2) (lv := [(0, .ref (ad v0)), (1, .int (sI a1))]) (by decide) rfl (Nat.le_of_ble_eq_true rfl) rfl ?_
  intro p e s m args below meth c A Q C hret
  refine j_aload_n C 0 0 dX10_numberAt_0 rfl rfl ?_
  refine j_iload_n C 1 1 dX10_numberAt_1 rfl rfl ?_
  refine j_callVi C (d := 0) (As := [.int (sI a1)]) (st := []) v0 (s_lt cv0 rfl) (s_kc (c := 9) cv0 rfl) (by decide) rfl (s2_X10_has hM0 cv0 a1 (by exact ⟨ha1.1, ha1.2⟩)) gX10_numberAt_X10_has rfl hdX10_has (by decide) (Nat.le_of_ble_eq_true rfl) dX10_numberAt_2 rfl (fun r101 M102 h103 => ?_)
  obtain ⟨a105, rfl, rfl, h104⟩ := h103
  refine y_if_eq C 17 dX10_numberAt_5 (by decide) (by (clear hret C ha1 cv0 hM0; omega)) (fun h106 => ?_) (fun h106 => ?_)
  · refine y_lconst C 0 dX10_numberAt_17 rfl ?_
    exact hret _ _ _ _ dX10_numberAt_18 ⟨0, rfl, rfl, by exact ⟨(by decide), ⟨(by decide), (by (clear hret C cv0 hM0; omega))⟩⟩⟩
  · refine j_aload_n C 0 0 dX10_numberAt_8 rfl rfl ?_
    refine y_getTE C 9 29 fX10_numberAt_9 cv0 rfl ft_9_0 rfl sm_9_0 st_9_0 (by decide) hM0 dX10_numberAt_9 (fun cv107 => ?_)
    refine j_iload_n C 1 1 dX10_numberAt_12 rfl rfl ?_
    refine y_lald C 29 40 cv107 rfl rfl ak_29 an_29 rfl dX10_numberAt_13 (by (clear cv107 hret C cv0 hM0; omega)) (fun a108 ea108 la108 ua108 => ?_)
    obtain rfl : a108 = (M0.2.1 (s_p0 v0 0) (a1).toNat).toInt := ea108
    refine j_goto C 18 dX10_numberAt_14 (by decide) ?_
    exact hret _ _ _ _ dX10_numberAt_18 ⟨(M0.2.1 (s_p0 v0 0) (a1).toNat).toInt, rfl, rfl, by exact ⟨la108, ⟨ua108, (by (clear cv107 hret C cv0 hM0; omega))⟩⟩⟩
set_option maxHeartbeats 4000000 in
theorem s2_X11_perform {l : Launch} {dC : Nat → ClassId} {dI : Nat → Nat → Nat} {ad : Nat → Nat} {cA : Nat → ClassId} {pr : Nat → Nat → Bool} {Kz : mm_M} {M0 : mm_M} (hM0 : INV pr Kz M0) (hpr : PX pr) (hq8_0 : ∀ i, s_c i = 8 → pr i 0 = false) (a1 : Int) (ha1 : -2147483648 ≤ a1 ∧ a1 ≤ 2147483647) (gp : Nat) (cgp : s_c gp = 6) (egp : gp = M0.2.2 0 4) (hp0 : b01 (APX M0 gp) = 1) (hp1 : b01 (LAW M0 gp) = 1) (hp2 : b01 (PRR (rwX M0 gp 12)) = 1) (hp3 : 0 ≤ (M0.1 12 6).toInt ∧ (M0.1 12 6).toInt ≤ 1000000) : Ci l 6 yX11_perform wsX11_perform dC dI ad cA [.ref (ad 0), .int (sI a1)] M0 (fun r M' => ∃ a : Int, r = sI a ∧ INV pr Kz M' ∧ FX [12, 13, 15, 16, 17, 18, 20, 21, 22, 23, 24, 25, 26, 27, 28, 29, 30, 31, 32, 33, 34, 35, 36, 37, 38, 39, 40, 41, 42, 43, 44, 45, 46, 47, 48, 49, 81, 82, 83, 84, 85, 86] M0 M' ∧ (-6) ≤ a ∧ a ≤ 40 ∧ (a = peX M0 (rwX M0 gp 12) a1) ∧ (b01 (rwX M' gp 12 = peR M0 (rwX M0 gp 12) a1) = 1) ∧ (b01 (APX M' gp) = 1) ∧ (b01 (RGP a M0 M' (skX M0 12)) = 1)) := by
  refine ci_of (cc := cX11_perform) (maxL := 6) (ty := .int) (lv := [(0, .ref (ad 0)), (1, .int (sI a1))]) (by decide) rfl (fun r M' hp => rfl) (Nat.le_of_ble_eq_true rfl) rfl ?_
  intro p e s m args below meth c A Q C hret
  refine j_aload_n C 0 0 dX11_perform_0 rfl rfl ?_
  refine j_iload_n C 1 1 dX11_perform_1 rfl rfl ?_
  refine j_callVi C (d := 1) (As := [.int (sI a1)]) (st := []) 0 (s_lt rfl rfl) (s_kc (c := 10) rfl rfl) (by decide) rfl (s3_X11_trayRefusal hM0 a1 (by exact ⟨ha1.1, ha1.2⟩)) gX11_perform_X11_trayRefusal rfl hdX11_trayRefusal (by decide) (Nat.le_of_ble_eq_true rfl) dX11_perform_2 rfl (fun r101 M102 h103 => ?_)
  obtain ⟨a105, rfl, rfl, h104⟩ := h103
  refine j_istore_n C 2 [(2, .int (sI a105)), (0, .ref (ad 0)), (1, .int (sI a1))] dX11_perform_5 rfl (by decide) rfl ?_
  refine j_iload_n C 0 2 dX11_perform_6 rfl rfl ?_
  refine y_if_eq C 12 dX11_perform_7 (by decide) (by (clear hret C hp3 hp2 hp1 hp0 egp cgp ha1 hq8_0 hpr hM0; omega)) (fun h106 => ?_) (fun h106 => ?_)
  · refine j_aload_n C 1 0 dX11_perform_12 rfl rfl ?_
    refine y_getC C 10 50 fX11_perform_52 rfl rfl ft_10_9 sm_10_9 rfl hM0 dX11_perform_13 ?_
    refine j_iload_n C 2 1 dX11_perform_16 rfl rfl ?_
    refine y_aaldE C 28 4 9 rfl rfl rfl rfl an_28 rfl sma_28 sta_28 (by decide) hM0 dX11_perform_17 (by (clear hret C hp3 hp2 hp1 hp0 egp cgp hq8_0 hpr hM0; omega)) (fun cv107 => ?_)
    refine j_astore_n C 3 [(3, .ref (ad (s_p0 50 (a1).toNat))), (2, .int (sI a105)), (0, .ref (ad 0)), (1, .int (sI a1))] dX11_perform_18 rfl (by decide) rfl ?_
    refine j_aload_n C 2 0 dX11_perform_19 rfl rfl ?_
    refine y_getC C 10 15 fX11_perform_40 rfl rfl ft_10_7 sm_10_7 rfl hM0 dX11_perform_20 ?_
    refine j_aload_n C 2 0 dX11_perform_23 rfl rfl ?_
    refine y_getC C 10 12 fX11_perform_36 rfl rfl ft_10_6 sm_10_6 rfl hM0 dX11_perform_24 ?_
    refine j_callVv C (d := 0) (As := [.ref (ad 12)]) (st := []) 15 (s_lt rfl rfl) (s_kc (c := 8) rfl rfl) (by decide) rfl (s2_X9_copyFrom hM0 hpr hq8_0) gX11_perform_X9_copyFrom rfl hdX9_copyFrom (by decide) (Nat.le_of_ble_eq_true rfl) dX11_perform_27 rfl (fun M109 h110 => ?_)
    obtain ⟨hM109, fM109, h111⟩ := h110
    refine y_iconst C dX11_perform_30 ?_
    refine j_istore C 4 [(4, .int (sI 0)), (3, .ref (ad (s_p0 50 (a1).toNat))), (2, .int (sI a105)), (0, .ref (ad 0)), (1, .int (sI a1))] dX11_perform_31 (by decide) rfl ?_
    refine y_iconst C dX11_perform_33 ?_
    refine j_istore C 5 [(5, .int (sI 0)), (4, .int (sI 0)), (3, .ref (ad (s_p0 50 (a1).toNat))), (2, .int (sI a105)), (0, .ref (ad 0)), (1, .int (sI a1))] dX11_perform_34 (by decide) rfl ?_
    have u112b := hM0.rd (i := s_p0 50 (a1).toNat) (c := 9) (k := 2) (try_c (a1).toNat (by (clear h111 fM109 hM109 cv107 hret C hp3 hp2 hp1 hp0 egp cgp hq8_0 hpr hM0; omega))).1 (show s_b 9 2 = (-1, 40) from rfl)
    have u112t : tsX M0 a1 = (M0.1 (s_p0 50 (a1).toNat) 2).toInt := rfl
    have u112n := ntX_s M0 a1
    have u112z := tl_0 (rwX M0 gp 12) (tyX M0 a1)
    have u112e : b01 (rwX M109 gp 12 = (tlF (rwX M0 gp 12) (tyX M0 a1) (0 : Int).toNat).1) = 1 := b01_i (((rx_f (p := gp) (v := 12) (ple_f (p := gp) ((FX.rf.tr fM109 (by decide)) : FX [15, 16, 17] M0 M109) cgp (by decide)) (ske_n ((FX.rf.tr fM109 (by decide)) : FX [15, 16, 17] M0 M109) ⟨by decide, by decide, by decide⟩))).trans (b01_e u112z.1))
    have u112A7 := hM0.rd (i := gp) (c := 6) (k := 7) cgp (show s_b 6 7 = (0, 900) from rfl)
    have u112A9 := hM0.rd (i := gp) (c := 6) (k := 9) cgp (show s_b 6 9 = (0, 900) from rfl)
    have u112A := apx_o (M := M0) (N := M109) (p := gp) (ple_f (p := gp) ((FX.rf.tr fM109 (by decide)) : FX [15, 16, 17] M0 M109) cgp (by decide)) (((FX.rf.tr fM109 (by decide)) : FX [15, 16, 17] M0 M109).cell (by decide)) (((FX.rf.tr fM109 (by decide)) : FX [15, 16, 17] M0 M109).cell (by decide)) (((FX.rf.tr fM109 (by decide)) : FX [15, 16, 17] M0 M109).cell (by decide)) u112A7.1 u112A9.1 (by exact hp0)
    have u112g := rg_0 (M := M0) (N := M109) ((FX.rf.tr fM109 (by decide)) : FX [15, 16, 17] M0 M109) (by decide) (by decide)
    have X179 : ∀ (a177 : Int) (M178 : mm_M), (0 ≤ a177 ∧ a177 ≤ 40 ∧ (b01 (rwX M178 gp 12 = (tqX M0 (rwX M0 gp 12) a1).1) = 1) ∧ (a177 = (tqX M0 (rwX M0 gp 12) a1).2.2) ∧ (0 ≤ a177) ∧ (a177 ≤ 40) ∧ (b01 (APX M178 gp) = 1) ∧ (b01 (RG0 M0 M178) = 1) ∧ (b01 (skX M178 15 = skX M0 12) = 1) ∧ (ntX M0 a1 = 0)) → INV pr Kz M178 → FX [12, 13, 15, 16, 17, 18, 20, 21, 22, 23, 24, 25, 26, 27, 28, 29, 30, 31, 32, 33, 34, 35, 36, 37, 38, 39, 40, 41, 42, 43, 44, 45, 46, 47, 48, 49, 81, 82, 83, 84, 85, 86] M0 M178 → jj p l e (cn_R 6) s m args below meth c 0 0 Q 6 dC dI ad cA A M178 85 [(0, .ref (ad 0)), (4, .int (sI a177))] [] := by
      intro a177 M178 h180 hM178 fM178
      refine j_iload C 1 dX11_perform_85 rfl ?_
      refine y_if_le C 101 dX11_perform_87 (by decide) (by (clear fM178 hM178 u112g u112A u112A9 u112A7 u112e u112z u112n u112t u112b h111 fM109 hM109 cv107 h106 h104 hret C hp3 hp2 hp1 hp0 egp cgp ha1 hq8_0 hpr hM0; omega)) (fun h182 => ?_) (fun h182 => ?_)
      · refine j_iload C 1 dX11_perform_101 rfl ?_
        have u183k := pex_y (M := M0) (f := (rwX M0 gp 12)) (N := rwX M178 gp 12) (t := a1) (a := a177) (by exact h180.2.2.2.2.2.2.2.2.2) (by exact h180.2.2.2.1) (by exact h180.2.2.1)
        have u183g := rgp_n (a := a177) (M := M0) (N := M178) (r := skX M0 12) (by exact h182) (by exact h180.2.2.2.2.2.2.2.1)
        exact hret _ _ _ _ dX11_perform_103 ⟨a177, rfl, hM178, (FX.rf.tr fM178 (by decide)), by exact ⟨(by (clear fM178 hM178 u112g u112A u112A9 u112A7 u112e u112z u112n u112t u112b h111 fM109 hM109 cv107 h106 h104 hret C hp3 hp2 hp1 hp0 egp cgp ha1 hq8_0 hpr hM0; omega)), ⟨h180.2.1, ⟨u183k.1, ⟨u183k.2, ⟨h180.2.2.2.2.2.2.1, u183g⟩⟩⟩⟩⟩⟩
      · refine j_aload_n C 0 0 dX11_perform_90 rfl rfl ?_
        refine y_getC C 10 18 fX11_perform_46 rfl rfl ft_10_8 sm_10_8 rfl hM178 dX11_perform_91 ?_
        refine j_aload_n C 0 0 dX11_perform_94 rfl rfl ?_
        refine y_getC C 10 15 fX11_perform_40 rfl rfl ft_10_7 sm_10_7 rfl hM178 dX11_perform_95 ?_
        refine j_callVv C (d := 1) (As := [.ref (ad 15)]) (st := []) 18 (s_lt rfl rfl) (s_kc (c := 5) rfl rfl) (by decide) rfl (s2_X6_keep hM178 hpr hq8_0) gX11_perform_X6_keep rfl hdX6_keep (by decide) (Nat.le_of_ble_eq_true rfl) dX11_perform_98 rfl (fun M185 h186 => ?_)
        obtain ⟨hM185, fM185, h187⟩ := h186
        refine j_iload C 1 dX11_perform_101 rfl ?_
        have u188r : b01 (rwX M185 gp 12 = (tqX M0 (rwX M0 gp 12) a1).1) = 1 := by rw [(rx_f (p := gp) (v := 12) (ple_f (p := gp) ((FX.rf.tr fM185 (by decide)) : FX [18, 20, 21, 22, 23, 24, 25, 26, 27, 28, 29, 30, 31, 32, 33, 34, 35, 36, 37, 38, 39, 40, 41, 42, 43, 44, 45, 46, 47, 48, 49] M178 M185) cgp (by decide)) (ske_n ((FX.rf.tr fM185 (by decide)) : FX [18, 20, 21, 22, 23, 24, 25, 26, 27, 28, 29, 30, 31, 32, 33, 34, 35, 36, 37, 38, 39, 40, 41, 42, 43, 44, 45, 46, 47, 48, 49] M178 M185) ⟨by decide, by decide, by decide⟩))]; exact h180.2.2.1
        have u188k := pex_y (M := M0) (f := (rwX M0 gp 12)) (N := rwX M185 gp 12) (t := a1) (a := a177) (by exact h180.2.2.2.2.2.2.2.2.2) (by exact h180.2.2.2.1) u188r
        have u188A7 := hM178.rd (i := gp) (c := 6) (k := 7) cgp (show s_b 6 7 = (0, 900) from rfl)
        have u188A9 := hM178.rd (i := gp) (c := 6) (k := 9) cgp (show s_b 6 9 = (0, 900) from rfl)
        have u188A := apx_o (M := M178) (N := M185) (p := gp) (ple_f (p := gp) ((FX.rf.tr fM185 (by decide)) : FX [18, 20, 21, 22, 23, 24, 25, 26, 27, 28, 29, 30, 31, 32, 33, 34, 35, 36, 37, 38, 39, 40, 41, 42, 43, 44, 45, 46, 47, 48, 49] M178 M185) cgp (by decide)) (((FX.rf.tr fM185 (by decide)) : FX [18, 20, 21, 22, 23, 24, 25, 26, 27, 28, 29, 30, 31, 32, 33, 34, 35, 36, 37, 38, 39, 40, 41, 42, 43, 44, 45, 46, 47, 48, 49] M178 M185).cell (by decide)) (((FX.rf.tr fM185 (by decide)) : FX [18, 20, 21, 22, 23, 24, 25, 26, 27, 28, 29, 30, 31, 32, 33, 34, 35, 36, 37, 38, 39, 40, 41, 42, 43, 44, 45, 46, 47, 48, 49] M178 M185).cell (by decide)) (((FX.rf.tr fM185 (by decide)) : FX [18, 20, 21, 22, 23, 24, 25, 26, 27, 28, 29, 30, 31, 32, 33, 34, 35, 36, 37, 38, 39, 40, 41, 42, 43, 44, 45, 46, 47, 48, 49] M178 M185).cell (by decide)) u188A7.1 u188A9.1 (by exact h180.2.2.2.2.2.2.1)
        have u188z := rg_z (M := M0) (B := M178) (N := M185) (r := skX M178 15) (r' := skX M0 12) (by exact h180.2.2.2.2.2.2.2.1) (b01_e (by exact h180.2.2.2.2.2.2.2.2.1)) (by exact h187)
        have u188g := rgp_y (a := a177) (r := skX M0 12) (by (clear u188z u188A u188A9 u188A7 u188r h187 fM185 hM185 fM178 hM178 u112g u112A u112A9 u112A7 u112e u112z u112n u112t u112b h111 fM109 hM109 cv107 h106 h104 hret C hp3 hp2 hp1 hp0 egp cgp ha1 hq8_0 hpr hM0; omega)) u188z
        exact hret _ _ _ _ dX11_perform_103 ⟨a177, rfl, hM185, ((FX.rf.tr fM178 (by decide)).tr fM185 (by decide)), by exact ⟨(by (clear u188z u188A9 u188A7 u188r h187 fM185 hM185 fM178 hM178 u112g u112A u112A9 u112A7 u112e u112z u112n u112t u112b h111 fM109 hM109 cv107 h106 h104 hret C hp3 hp2 hp1 hp0 egp cgp ha1 hq8_0 hpr hM0; omega)), ⟨h180.2.1, ⟨u188k.1, ⟨u188k.2, ⟨u188A, u188g⟩⟩⟩⟩⟩⟩
    have L145 : ∀ (n143 : Nat), ∀ (a146 : Int) (a147 : Int) (M148 : mm_M), (0 ≤ a146 ∧ a146 ≤ 40 ∧ 0 ≤ a147 ∧ a147 ≤ 40 ∧ (b01 (rwX M148 gp 12 = (tlF (rwX M0 gp 12) (tyX M0 a1) (a147).toNat).1) = 1) ∧ ((a146 = a147 ∧ (tlF (rwX M0 gp 12) (tyX M0 a1) (a147).toNat).2.1 = 0 ∧ (tlF (rwX M0 gp 12) (tyX M0 a1) (a147).toNat).2.2 = a146) ∨ (a146 + 1 = a147 ∧ ¬ (tlF (rwX M0 gp 12) (tyX M0 a1) (a147).toNat).2.1 = 0 ∧ (tlF (rwX M0 gp 12) (tyX M0 a1) (a147).toNat).2.2 = a146)) ∧ (b01 (APX M148 gp) = 1) ∧ (b01 (RG0 M0 M148) = 1) ∧ (b01 (skX M148 15 = skX M0 12) = 1) ∧ (a147 ≤ tsX M0 a1) ∧ (0 ≤ tsX M0 a1 ∧ tsX M0 a1 ≤ 40) ∧ (40 - a147) < (n143 : Int)) → INV pr Kz M148 → FX [12, 13, 15, 16, 17, 18, 20, 21, 22, 23, 24, 25, 26, 27, 28, 29, 30, 31, 32, 33, 34, 35, 36, 37, 38, 39, 40, 41, 42, 43, 44, 45, 46, 47, 48, 49, 81, 82, 83, 84, 85, 86] M0 M148 → jj p l e (cn_R 6) s m args below meth c 0 0 Q 6 dC dI ad cA A M148 36 [(0, .ref (ad 0)), (3, .ref (ad (s_p0 50 (a1).toNat))), (4, .int (sI a146)), (5, .int (sI a147))] [] := by
      intro n143
      induction n143 with
      | zero =>
        intro a146 a147 M148 h149 hM148 fM148
        exfalso; (clear fM148 hM148 X179 u112g u112A u112A9 u112A7 u112e u112z u112n u112t u112b h111 fM109 hM109 cv107 h106 h104 hret C hp3 hp2 hp1 hp0 egp cgp ha1 hq8_0 hpr hM0; omega)
      | succ n143 ih144 =>
        intro a146 a147 M148 h149 hM148 fM148
        have u150y := tyX_f (M := M0) (N := M148) ((FX.rf.tr fM148 (by decide)) : FX [12, 13, 15, 16, 17, 18, 20, 21, 22, 23, 24, 25, 26, 27, 28, 29, 30, 31, 32, 33, 34, 35, 36, 37, 38, 39, 40, 41, 42, 43, 44, 45, 46, 47, 48, 49, 81, 82, 83, 84, 85, 86] M0 M148) (by decide) (t := a1) (by (clear fM148 hM148 ih144 X179 u112g u112A u112A9 u112A7 u112e u112z u112t u112b h111 fM109 hM109 cv107 hret C hp3 hp2 hp1 hp0 egp cgp hq8_0 hpr hM0; omega))
        have u150y1 := u150y.1
        refine j_iload C 3 dX11_perform_36 rfl ?_
        refine j_aload_n C 1 3 dX11_perform_38 rfl rfl ?_
        refine j_callVi C (d := 1) (As := []) (st := [.int (sI a147)]) (s_p0 50 (a1).toNat) (s_lt cv107 rfl) (s_kc (c := 9) cv107 rfl) (by decide) rfl (s2_X10_size hM148 cv107) gX11_perform_X10_size rfl hdX10_size (by decide) (Nat.le_of_ble_eq_true rfl) dX11_perform_39 rfl (fun r151 M152 h153 => ?_)
        obtain ⟨a155, rfl, rfl, h154⟩ := h153
        have u156a : tsX M148 a1 = (M148.1 (s_p0 50 (a1).toNat) 2).toInt := rfl
        refine y_icmp_ge C 85 dX11_perform_42 (by decide) (by (clear u156a u150y1 u150y fM148 hM148 ih144 X179 u112g u112A u112A9 u112A7 u112e u112z u112n u112t u112b h111 fM109 hM109 cv107 h106 h104 hret C hp3 hp2 hp1 hp0 egp cgp ha1 hq8_0 hpr hM0; omega)) (fun h157 => ?_) (fun h157 => ?_)
        · have u158b := hM0.rd (i := s_p0 50 (a1).toNat) (c := 9) (k := 2) (try_c (a1).toNat (by (clear h157 u150y1 fM148 hM148 ih144 X179 u112g u112A u112A9 u112A7 u112e u112z h111 fM109 hM109 cv107 hret C hp3 hp2 hp1 hp0 egp cgp hq8_0 hpr hM0; omega))).1 (show s_b 9 2 = (-1, 40) from rfl)
          have u158t : tsX M0 a1 = (M0.1 (s_p0 50 (a1).toNat) 2).toInt := rfl
          have u158n := ntX_s M0 a1
          have u158q := tq_e (M := M0) (f := (rwX M0 gp 12)) (g := rwX M148 gp 12) (t := a1) (x := a147) (by exact h149.2.2.2.2.1) (by exact ⟨h149.2.2.1, h149.2.2.2.2.2.2.2.2.2.1⟩) (by (clear u158t u158b u150y1 fM148 hM148 ih144 X179 u112g u112A u112A9 u112A7 u112e u112z u112n h111 fM109 hM109 cv107 hret C hp3 hp2 hp1 hp0 egp cgp ha1 hq8_0 hpr hM0; omega))
          refine j_lv [0, 2] rfl ?_; exact X179 a146 M148 (by exact ⟨h149.1, ⟨h149.2.1, ⟨u158q.1, ⟨(by (clear u158t u158b u150y1 fM148 hM148 ih144 X179 u112g u112A u112A9 u112A7 u112e u112z u112n h111 fM109 hM109 cv107 hret C hp3 hp2 hp1 hp0 egp cgp ha1 hq8_0 hpr hM0; omega)), ⟨h149.1, ⟨h149.2.1, ⟨h149.2.2.2.2.2.2.1, ⟨h149.2.2.2.2.2.2.2.1, ⟨h149.2.2.2.2.2.2.2.2.1, (by (clear u158t u158b u150y1 fM148 hM148 ih144 X179 u112g u112A u112A9 u112A7 u112e u112z u112n h111 fM109 hM109 cv107 hret C hp3 hp2 hp1 hp0 egp cgp ha1 hq8_0 hpr hM0; omega))⟩⟩⟩⟩⟩⟩⟩⟩⟩) hM148 (FX.rf.tr fM148 (by decide))
        · refine j_iload C 2 dX11_perform_45 rfl ?_
          refine j_iload C 3 dX11_perform_47 rfl ?_
          refine y_icmp_ne C 85 dX11_perform_49 (by decide) (by (clear h157 u156a h154 u150y1 u150y fM148 hM148 ih144 X179 u112g u112A u112A9 u112A7 u112e u112z u112n u112t u112b h111 fM109 hM109 cv107 h106 h104 hret C hp3 hp2 hp1 hp0 egp cgp ha1 hq8_0 hpr hM0; omega)) (fun h159 => ?_) (fun h159 => ?_)
          · have u160b := hM0.rd (i := s_p0 50 (a1).toNat) (c := 9) (k := 2) (try_c (a1).toNat (by (clear h157 u150y1 fM148 hM148 ih144 X179 u112g u112A u112A9 u112A7 u112e u112z h111 fM109 hM109 cv107 hret C hp3 hp2 hp1 hp0 egp cgp hq8_0 hpr hM0; omega))).1 (show s_b 9 2 = (-1, 40) from rfl)
            have u160t : tsX M0 a1 = (M0.1 (s_p0 50 (a1).toNat) 2).toInt := rfl
            have u160n := ntX_s M0 a1
            have u160q := tq_e (M := M0) (f := (rwX M0 gp 12)) (g := rwX M148 gp 12) (t := a1) (x := a147) (by exact h149.2.2.2.2.1) (by exact ⟨h149.2.2.1, h149.2.2.2.2.2.2.2.2.2.1⟩) (by (clear u160t u160b h157 u150y1 fM148 hM148 ih144 X179 u112g u112A u112A9 u112A7 u112e u112z u112n h111 fM109 hM109 cv107 hret C hp3 hp2 hp1 hp0 egp cgp ha1 hq8_0 hpr hM0; omega))
            refine j_lv [0, 2] rfl ?_; exact X179 a146 M148 (by exact ⟨h149.1, ⟨h149.2.1, ⟨u160q.1, ⟨(by (clear u160t u160b h157 u150y1 fM148 hM148 ih144 X179 u112g u112A u112A9 u112A7 u112e u112z u112n h111 fM109 hM109 cv107 hret C hp3 hp2 hp1 hp0 egp cgp ha1 hq8_0 hpr hM0; omega)), ⟨h149.1, ⟨h149.2.1, ⟨h149.2.2.2.2.2.2.1, ⟨h149.2.2.2.2.2.2.2.1, ⟨h149.2.2.2.2.2.2.2.2.1, (by (clear u160t u160b h157 u150y1 fM148 hM148 ih144 X179 u112g u112A u112A9 u112A7 u112e u112z u112n h111 fM109 hM109 cv107 hret C hp3 hp2 hp1 hp0 egp cgp ha1 hq8_0 hpr hM0; omega))⟩⟩⟩⟩⟩⟩⟩⟩⟩) hM148 (FX.rf.tr fM148 (by decide))
          · have u161e : rwX M148 gp 12 = (tlF (rwX M0 gp 12) (tyX M0 a1) (a147).toNat).1 := b01_e (by exact h149.2.2.2.2.1)
            have u161q : (M148.1 12 6).toInt = ((tlF (rwX M0 gp 12) (tyX M0 a1) (a147).toNat).1 30).toInt := by rw [← u161e]; rfl
            have u161h := tl_gf (f := (rwX M0 gp 12)) (T := (tyX M0 a1)) (show 0 ≤ (M0.1 12 6).toInt by exact hp3.1) (show (M0.1 12 6).toInt ≤ 1000000 by exact hp3.2) (a147).toNat (by (clear u161q u161e h159 h157 u156a h154 u150y1 u150y fM148 hM148 ih144 X179 u112g u112A u112A9 u112A7 u112e u112z u112n u112t u112b h111 fM109 hM109 cv107 h106 h104 hret C hp3 hp2 hp1 hp0 egp cgp ha1 hq8_0 hpr hM0; omega))
            have u161i : ((rwX M0 gp 12) 30).toInt = (M0.1 12 6).toInt := rfl
            have u161P : b01 (PRR (rwX M148 gp 12)) = 1 := by rw [u161e]; exact b01_i (prr_tl (b01_e (P := PRR (rwX M0 gp 12)) (by exact hp2)) _)
            have u161L7 := hM0.rd (i := gp) (c := 6) (k := 7) cgp (show s_b 6 7 = (0, 900) from rfl)
            have u161L9 := hM0.rd (i := gp) (c := 6) (k := 9) cgp (show s_b 6 9 = (0, 900) from rfl)
            have u161L := law_p (M := M0) (N := M148) (p := gp) (ple_f (p := gp) ((FX.rf.tr fM148 (by decide)) : FX [12, 13, 15, 16, 17, 18, 20, 21, 22, 23, 24, 25, 26, 27, 28, 29, 30, 31, 32, 33, 34, 35, 36, 37, 38, 39, 40, 41, 42, 43, 44, 45, 46, 47, 48, 49, 81, 82, 83, 84, 85, 86] M0 M148) cgp (by decide)) u161L7.1 u161L9.1 (by exact hp1)
            refine j_aload_n C 0 0 dX11_perform_52 rfl rfl ?_
            refine y_getC C 10 87 fX11_perform_85 rfl rfl ft_10_13 sm_10_13 rfl hM148 dX11_perform_53 ?_
            refine j_aload_n C 0 0 dX11_perform_56 rfl rfl ?_
            refine y_getV C 10 gp fX11_perform_26 rfl rfl ft_10_4 (s_pX fM148 (egp)) dX11_perform_57 ?_
            refine j_aload_n C 0 0 dX11_perform_60 rfl rfl ?_
            refine y_getC C 10 12 fX11_perform_36 rfl rfl ft_10_6 sm_10_6 rfl hM148 dX11_perform_61 ?_
            refine j_aload_n C 1 3 dX11_perform_64 rfl rfl ?_
            refine j_iload C 3 dX11_perform_65 rfl ?_
            refine j_callVj C (d := 1) (As := [.int (sI a147)]) (st := [.ref (ad 12), .ref (ad gp), .ref (ad 87)]) (s_p0 50 (a1).toNat) (s_lt cv107 rfl) (s_kc (c := 9) cv107 rfl) (by decide) rfl (s3_X10_numberAt hM148 cv107 a147 (by (clear u161L u161L9 u161L7 u161P u161i u161h u161q u161e h159 h157 u156a h154 u150y1 u150y fM148 hM148 ih144 X179 u112g u112A u112A9 u112A7 u112e u112z u112n u112t u112b h111 fM109 hM109 cv107 h106 h104 hret C hp3 hp2 hp1 hp0 egp cgp ha1 hq8_0 hpr hM0; omega))) gX11_perform_X10_numberAt rfl hdX10_numberAt (by decide) (Nat.le_of_ble_eq_true rfl) dX11_perform_67 rfl (fun r162 M163 h164 => ?_)
            obtain ⟨a166, rfl, rfl, h165⟩ := h164
            have u167y := tyX_f (M := M0) (N := M148) ((FX.rf.tr fM148 (by decide)) : FX [12, 13, 15, 16, 17, 18, 20, 21, 22, 23, 24, 25, 26, 27, 28, 29, 30, 31, 32, 33, 34, 35, 36, 37, 38, 39, 40, 41, 42, 43, 44, 45, 46, 47, 48, 49, 81, 82, 83, 84, 85, 86] M0 M148) (by decide) (t := a1) (by (clear u161L u161L9 u161L7 u161P u161i u161h u161q u161e u150y1 fM148 hM148 ih144 X179 u112g u112A u112A9 u112A7 u112e u112z h111 fM109 hM109 cv107 hret C hp3 hp2 hp1 hp0 egp cgp hq8_0 hpr hM0; omega))
            have u167y1 := u167y.1
            have u167a : tsX M148 a1 = (M148.1 (s_p0 50 (a1).toNat) 2).toInt := rfl
            have u167c : tyX M148 a1 (a147).toNat = (M148.2.1 (s_p0 (s_p0 50 (a1).toNat) 0) (a147).toNat).toInt := rfl
            have u167d := u167y.2 (a147).toNat
            have u167v : a166 = tyX M0 a1 (a147).toNat := by (clear u167a u167y1 u167y u161L u161L9 u161L7 u161P u161i u161h u161q u161e h159 u150y1 fM148 hM148 ih144 X179 u112g u112A u112A9 u112A7 u112e u112z u112n u112t u112b h111 fM109 hM109 cv107 h106 h104 hret C hp3 hp2 hp1 hp0 egp cgp ha1 hq8_0 hpr hM0; omega)
            refine j_callVi C (d := 5) (As := [.ref (ad gp), .ref (ad 12), .long (sJ a166)]) (st := []) 87 (s_lt rfl rfl) (s_kc (c := 1) rfl rfl) (by decide) rfl (s2_X1_carryOut hM148 hpr cgp a166 (by exact ⟨h165.1, h165.2.1⟩) (by exact h149.2.2.2.2.2.2.1) (by exact u161L) (by exact u161P) (by (clear u167v u167d u167c u167a u167y1 u167y u161L u161L9 u161L7 u161P u161e h159 u150y1 fM148 hM148 ih144 X179 u112g u112A u112A9 u112A7 u112e u112z u112n u112t u112b h111 fM109 hM109 cv107 h106 h104 hret C hp2 hp1 hp0 egp cgp ha1 hq8_0 hpr hM0; omega))) gX11_perform_X1_carryOut rfl hdX1_carryOut (by decide) (Nat.le_of_ble_eq_true rfl) dX11_perform_70 rfl (fun r168 M169 h170 => ?_)
            obtain ⟨a172, rfl, hM169, fM169, h171⟩ := h170
            refine y_if_lt C 79 dX11_perform_73 (by decide) (by exact ⟨h171.1, h171.2.1⟩) (fun h174 => ?_) (fun h174 => ?_)
            · refine y_iinc C 3 [(5, .int (sI (a147 + 1))), (0, .ref (ad 0)), (3, .ref (ad (s_p0 50 (a1).toNat))), (4, .int (sI a146))] dX11_perform_79 rfl (by decide) rfl ?_
              refine j_goto C 36 dX11_perform_82 (by decide) ?_
              have u175w := tl_xy (f := (rwX M0 gp 12)) (g := rwX M148 gp 12) (N := rwX M169 gp 12) (T := (tyX M0 a1)) (x := a147) (x' := a147 + 1) (v := a166) (a := a172) (by exact h149.2.2.2.2.1) (by (clear h174 h171 fM169 hM169 u167v u167d u167c u167a u167y1 u167y h165 u161L u161L9 u161L7 u161P u161i u161h u161q u161e h157 u156a h154 u150y1 u150y fM148 hM148 ih144 X179 u112g u112A u112A9 u112A7 u112e u112z u112n u112t u112b h111 fM109 hM109 cv107 h106 h104 hret C hp3 hp2 hp1 hp0 egp cgp ha1 hq8_0 hpr hM0; omega)) u167v (by exact h171.2.2.2.1) (by exact h171.2.2.2.2.2) (by (clear h174 h171 fM169 hM169 u167v u167d u167c u167a u167y1 u167y h165 u161L u161L9 u161L7 u161P u161i u161h u161q u161e h159 h157 u156a h154 u150y1 u150y fM148 hM148 ih144 X179 u112g u112A u112A9 u112A7 u112e u112z u112n u112t u112b h111 fM109 hM109 cv107 h106 h104 hret C hp3 hp2 hp1 hp0 egp cgp ha1 hq8_0 hpr hM0; omega))
              have u175w1 := u175w.1
              have u175w2 := u175w.2
              have u175g := rg_c (M := M0) (B := M148) (N := M169) (by exact h149.2.2.2.2.2.2.2.1) ((FX.rf.tr fM169 (by decide)) : FX [12, 13, 81, 82, 83, 84, 85, 86] M148 M169) (by decide) (by decide)
              have u175s := sk_b (B := M148) (N := M169) (v := 15) (r := skX M0 12) (ske_n ((FX.rf.tr fM169 (by decide)) : FX [12, 13, 81, 82, 83, 84, 85, 86] M148 M169) ⟨by decide, by decide, by decide⟩) (by exact h149.2.2.2.2.2.2.2.2.1)
              refine j_lv [1, 2, 3, 0] rfl ?_; exact ih144 a146 (a147 + 1) M169 (by (clear u175w2 u175w1 fM169 hM169 u167v u167d u167c u167a u167y1 u167y h165 u161L u161L9 u161L7 u161P u161i u161h u161q u161e u150y1 fM148 hM148 ih144 X179 u112g u112A u112A9 u112A7 u112e u112z u112n u112t u112b h111 fM109 hM109 cv107 h106 h104 hret C hp3 hp2 hp1 hp0 egp cgp ha1 hq8_0 hpr hM0; exact ⟨h149.1, ⟨h149.2.1, ⟨(by omega), ⟨(by omega), ⟨u175w.1, ⟨(by omega), ⟨h171.2.2.1, ⟨u175g, ⟨u175s, ⟨(by omega), ⟨⟨h149.2.2.2.2.2.2.2.2.2.2.1.1, h149.2.2.2.2.2.2.2.2.2.2.1.2⟩, (by omega)⟩⟩⟩⟩⟩⟩⟩⟩⟩⟩⟩)) hM169 ((FX.rf.tr fM148 (by decide)).tr fM169 (by decide))
            · refine y_iinc C 2 [(4, .int (sI (a146 + 1))), (0, .ref (ad 0)), (3, .ref (ad (s_p0 50 (a1).toNat))), (5, .int (sI a147))] dX11_perform_76 rfl (by decide) rfl ?_
              refine y_iinc C 3 [(5, .int (sI (a147 + 1))), (4, .int (sI (a146 + 1))), (0, .ref (ad 0)), (3, .ref (ad (s_p0 50 (a1).toNat)))] dX11_perform_79 rfl (by decide) rfl ?_
              refine j_goto C 36 dX11_perform_82 (by decide) ?_
              have u176w := tl_xy (f := (rwX M0 gp 12)) (g := rwX M148 gp 12) (N := rwX M169 gp 12) (T := (tyX M0 a1)) (x := a147) (x' := a147 + 1) (v := a166) (a := a172) (by exact h149.2.2.2.2.1) (by (clear h174 h171 fM169 hM169 u167v u167d u167c u167a u167y1 u167y h165 u161L u161L9 u161L7 u161P u161i u161h u161q u161e h157 u156a h154 u150y1 u150y fM148 hM148 ih144 X179 u112g u112A u112A9 u112A7 u112e u112z u112n u112t u112b h111 fM109 hM109 cv107 h106 h104 hret C hp3 hp2 hp1 hp0 egp cgp ha1 hq8_0 hpr hM0; omega)) u167v (by exact h171.2.2.2.1) (by exact h171.2.2.2.2.2) (by omega)
              have u176w1 := u176w.1
              have u176w2 := u176w.2
              have u176g := rg_c (M := M0) (B := M148) (N := M169) (by exact h149.2.2.2.2.2.2.2.1) ((FX.rf.tr fM169 (by decide)) : FX [12, 13, 81, 82, 83, 84, 85, 86] M148 M169) (by decide) (by decide)
              have u176s := sk_b (B := M148) (N := M169) (v := 15) (r := skX M0 12) (ske_n ((FX.rf.tr fM169 (by decide)) : FX [12, 13, 81, 82, 83, 84, 85, 86] M148 M169) ⟨by decide, by decide, by decide⟩) (by exact h149.2.2.2.2.2.2.2.2.1)
              refine j_lv [2, 3, 1, 0] rfl ?_; exact ih144 (a146 + 1) (a147 + 1) M169 (by (clear u176w2 u176w1 fM169 hM169 u167v u167d u167c u167a u167y1 u167y h165 u161L u161L9 u161L7 u161P u161i u161h u161q u161e u150y1 fM148 hM148 ih144 X179 u112g u112A u112A9 u112A7 u112e u112z u112n u112t u112b h111 fM109 hM109 cv107 h106 h104 hret C hp3 hp2 hp1 hp0 egp cgp ha1 hq8_0 hpr hM0; omega)) hM169 ((FX.rf.tr fM148 (by decide)).tr fM169 (by decide))
    refine j_lv [4, 2, 1, 0] rfl ?_; exact L145 2010 0 0 M109 (by exact ⟨(by decide), ⟨(by decide), ⟨(by decide), ⟨(by decide), ⟨u112e, ⟨(by (clear L145 X179 u112A9 u112A7 fM109 hM109 cv107 hret C hp3 hp2 hp1 hp0 egp cgp ha1 hq8_0 hpr hM0; omega)), ⟨u112A, ⟨u112g, ⟨h111, ⟨(by (clear L145 X179 u112A9 u112A7 fM109 hM109 cv107 hret C hp3 hp2 hp1 hp0 egp cgp ha1 hq8_0 hpr hM0; omega)), ⟨⟨(by (clear L145 X179 u112A9 u112A7 fM109 hM109 cv107 hret C hp3 hp2 hp1 hp0 egp cgp ha1 hq8_0 hpr hM0; omega)), (by (clear L145 X179 u112A9 u112A7 fM109 hM109 cv107 hret C hp3 hp2 hp1 hp0 egp cgp ha1 hq8_0 hpr hM0; omega))⟩, (by decide)⟩⟩⟩⟩⟩⟩⟩⟩⟩⟩⟩) hM109 (FX.rf.tr fM109 (by decide))
  · refine j_iload_n C 0 2 dX11_perform_10 rfl rfl ?_
    have u189k := pex_n (M := M0) (f := (rwX M0 gp 12)) (N := rwX M0 gp 12) (t := a1) (a := a105) (by omega) (by exact h104.2.2.1) rfl
    have u189g := rgp_n (a := a105) (r := skX M0 12) (by exact h104.2.1) (rg_s M0)
    exact hret _ _ _ _ dX11_perform_11 ⟨a105, rfl, hM0, FX.rf, by exact ⟨h104.1, ⟨(by (clear h106 hret C hp3 hp2 hp1 egp cgp ha1 hq8_0 hpr hM0; omega)), ⟨u189k.1, ⟨u189k.2, ⟨hp0, u189g⟩⟩⟩⟩⟩⟩
set_option maxHeartbeats 4000000 in
theorem s2_X11_judge {l : Launch} {dC : Nat → ClassId} {dI : Nat → Nat → Nat} {ad : Nat → Nat} {cA : Nat → ClassId} {pr : Nat → Nat → Bool} {Kz : mm_M} {M0 : mm_M} (hM0 : INV pr Kz M0) (hpr : PX pr) (hq8_0 : ∀ i, s_c i = 8 → pr i 0 = false) (a1 : Int) (ha1 : -2147483648 ≤ a1 ∧ a1 ≤ 2147483647) (a2 : Int) (ha2 : -2147483648 ≤ a2 ∧ a2 ≤ 2147483647) (gp : Nat) (cgp : s_c gp = 6) (egp : gp = M0.2.2 0 4) (hp0 : b01 (APX M0 gp) = 1) (hp1 : b01 (LAW M0 gp) = 1) (hp2 : b01 (PRR (rwX M0 gp 12)) = 1) (hp3 : 0 ≤ (M0.1 12 6).toInt ∧ (M0.1 12 6).toInt ≤ 1000000) : Ci l 6 yX11_judge wsX11_judge dC dI ad cA [.ref (ad 0), .int (sI a1), .int (sI a2)] M0 (fun r M' => ∃ a : Int, r = sI a ∧ INV pr Kz M' ∧ FX [15, 16, 17, 81, 82, 83, 84, 85, 86] M0 M' ∧ (-2147483648) ≤ a ∧ a ≤ 2147483647 ∧ (a = jgX M0 (rwX M0 gp 12) a1 a2) ∧ (b01 (rwX M' gp 12 = (rwX M0 gp 12)) = 1) ∧ (b01 (APX M' gp) = 1) ∧ (b01 (RG0 M0 M') = 1)) := by
  refine ci_of (cc := cX11_judge) (maxL := 7) (ty := .int) (lv := [(0, .ref (ad 0)), (1, .int (sI a1)), (2, .int (sI a2))]) (by decide) rfl (fun r M' hp => rfl) (Nat.le_of_ble_eq_true rfl) rfl ?_
  intro p e s m args below meth c A Q C hret
  refine j_iload_n C 1 1 dX11_judge_0 rfl rfl ?_
  refine j_callSi C (d := 0) (As := [.int (sI a1)]) (st := []) (s1_X11_isTray hM0 a1 (by exact ⟨ha1.1, ha1.2⟩)) gX11_judge_X11_isTray rfl hdX11_isTrays (by decide) (Nat.le_of_ble_eq_true rfl) dX11_judge_1 rfl (fun r101 M102 h103 => ?_)
  obtain ⟨a105, rfl, rfl, h104⟩ := h103
  refine y_if_eq C 16 dX11_judge_4 (by decide) (by omega) (fun h106 => ?_) (fun h106 => ?_)
  · refine y_bipush C dX11_judge_16 rfl ?_
    have u107s := jgX_s M0 (rwX M0 gp 12) a1 a2
    have u107n := ntX_s M0 a1
    have u107f : b01 (rwX M0 gp 12 = rwX M0 gp 12) = 1 := b01_i rfl
    have u107g := rg_s M0
    exact hret _ _ _ _ dX11_judge_18 ⟨(-2), rfl, hM0, FX.rf, by exact ⟨(by decide), ⟨(by decide), ⟨(by (clear hret C hp3 hp2 hp1 egp cgp ha2 hq8_0 hpr hM0; omega)), ⟨u107f, ⟨hp0, u107g⟩⟩⟩⟩⟩⟩
  · refine j_iload_n C 2 2 dX11_judge_7 rfl rfl ?_
    refine y_if_lt C 16 dX11_judge_8 (by decide) (by exact ⟨ha2.1, ha2.2⟩) (fun h108 => ?_) (fun h108 => ?_)
    · refine y_bipush C dX11_judge_16 rfl ?_
      have u109s := jgX_s M0 (rwX M0 gp 12) a1 a2
      have u109n := ntX_s M0 a1
      have u109f : b01 (rwX M0 gp 12 = rwX M0 gp 12) = 1 := b01_i rfl
      have u109g := rg_s M0
      exact hret _ _ _ _ dX11_judge_18 ⟨(-2), rfl, hM0, FX.rf, by exact ⟨(by decide), ⟨(by decide), ⟨(by (clear h106 h104 hret C hp3 hp2 hp1 egp cgp ha1 hq8_0 hpr hM0; omega)), ⟨u109f, ⟨hp0, u109g⟩⟩⟩⟩⟩⟩
    · refine j_iload_n C 2 2 dX11_judge_11 rfl rfl ?_
      refine y_iconst C dX11_judge_12 ?_
      refine y_icmp_le C 19 dX11_judge_13 (by decide) (by exact ⟨⟨ha2.1, ha2.2⟩, ⟨(by decide), (by decide)⟩⟩) (fun h110 => ?_) (fun h110 => ?_)
      · refine j_aload_n C 0 0 dX11_judge_19 rfl rfl ?_
        refine y_getC C 10 50 fX11_judge_52 rfl rfl ft_10_9 sm_10_9 rfl hM0 dX11_judge_20 ?_
        refine j_iload_n C 1 1 dX11_judge_23 rfl rfl ?_
        refine y_aaldE C 28 4 9 rfl rfl rfl rfl an_28 rfl sma_28 sta_28 (by decide) hM0 dX11_judge_24 (by (clear h110 h108 hret C hp3 hp2 hp1 hp0 egp cgp ha2 hq8_0 hpr hM0; omega)) (fun cv111 => ?_)
        refine j_astore_n C 3 [(3, .ref (ad (s_p0 50 (a1).toNat))), (0, .ref (ad 0)), (1, .int (sI a1)), (2, .int (sI a2))] dX11_judge_25 rfl (by decide) rfl ?_
        refine j_aload_n C 0 3 dX11_judge_26 rfl rfl ?_
        refine j_callVi C (d := 0) (As := []) (st := []) (s_p0 50 (a1).toNat) (s_lt cv111 rfl) (s_kc (c := 9) cv111 rfl) (by decide) rfl (s1_X10_isMissing hM0 cv111) gX11_judge_X10_isMissing rfl hdX10_isMissing (by decide) (Nat.le_of_ble_eq_true rfl) dX11_judge_27 rfl (fun r112 M113 h114 => ?_)
        obtain ⟨a116, rfl, rfl, h115⟩ := h114
        refine y_if_eq C 36 dX11_judge_30 (by decide) (by (clear cv111 h110 h108 h106 h104 hret C hp3 hp2 hp1 hp0 egp cgp ha2 ha1 hq8_0 hpr hM0; omega)) (fun h117 => ?_) (fun h117 => ?_)
        · refine j_aload_n C 1 0 dX11_judge_36 rfl rfl ?_
          refine y_getC C 10 15 fX11_judge_40 rfl rfl ft_10_7 sm_10_7 rfl hM0 dX11_judge_37 ?_
          refine j_aload_n C 1 0 dX11_judge_40 rfl rfl ?_
          refine y_getC C 10 12 fX11_judge_36 rfl rfl ft_10_6 sm_10_6 rfl hM0 dX11_judge_41 ?_
          refine j_callVv C (d := 0) (As := [.ref (ad 12)]) (st := []) 15 (s_lt rfl rfl) (s_kc (c := 8) rfl rfl) (by decide) rfl (s2_X9_copyFrom hM0 hpr hq8_0) gX11_judge_X9_copyFrom rfl hdX9_copyFrom (by decide) (Nat.le_of_ble_eq_true rfl) dX11_judge_44 rfl (fun M119 h120 => ?_)
          obtain ⟨hM119, fM119, h121⟩ := h120
          refine y_iconst C dX11_judge_47 ?_
          refine j_istore C 4 [(4, .int (sI 0)), (3, .ref (ad (s_p0 50 (a1).toNat))), (0, .ref (ad 0)), (1, .int (sI a1)), (2, .int (sI a2))] dX11_judge_48 (by decide) rfl ?_
          refine y_iconst C dX11_judge_50 ?_
          refine j_istore C 5 [(5, .int (sI 0)), (4, .int (sI 0)), (3, .ref (ad (s_p0 50 (a1).toNat))), (0, .ref (ad 0)), (1, .int (sI a1)), (2, .int (sI a2))] dX11_judge_51 (by decide) rfl ?_
          refine y_iconst C dX11_judge_53 ?_
          refine j_istore C 6 [(6, .int (sI 0)), (5, .int (sI 0)), (4, .int (sI 0)), (3, .ref (ad (s_p0 50 (a1).toNat))), (0, .ref (ad 0)), (1, .int (sI a1)), (2, .int (sI a2))] dX11_judge_54 (by decide) rfl ?_
          have u122b := hM0.rd (i := s_p0 50 (a1).toNat) (c := 9) (k := 2) (try_c (a1).toNat (by (clear h121 fM119 hM119 cv111 h110 h108 hret C hp3 hp2 hp1 hp0 egp cgp ha2 hq8_0 hpr hM0; omega))).1 (show s_b 9 2 = (-1, 40) from rfl)
          have u122t : tsX M0 a1 = (M0.1 (s_p0 50 (a1).toNat) 2).toInt := rfl
          have u122n := ntX_s M0 a1
          have u122z := tl_0 (rwX M0 gp 12) (tyX M0 a1)
          have u122e : b01 (rwX M119 gp 15 = (tlF (rwX M0 gp 12) (tyX M0 a1) (0 : Int).toNat).1) = 1 := b01_i (((rx_eq (M := M0) (N := M119) (p := gp) (v := 15) (w := 12) (ple_f (p := gp) ((FX.rf.tr fM119 (by decide)) : FX [15, 16, 17] M0 M119) cgp (by decide)) (b01_e (by exact h121)))).trans (b01_e u122z.1))
          have u122f : b01 (rwX M119 gp 12 = (rwX M0 gp 12)) = 1 := b01_i (rx_f (p := gp) (v := 12) (ple_f (p := gp) ((FX.rf.tr fM119 (by decide)) : FX [15, 16, 17] M0 M119) cgp (by decide)) (ske_n ((FX.rf.tr fM119 (by decide)) : FX [15, 16, 17] M0 M119) ⟨by decide, by decide, by decide⟩))
          have u122A7 := hM0.rd (i := gp) (c := 6) (k := 7) cgp (show s_b 6 7 = (0, 900) from rfl)
          have u122A9 := hM0.rd (i := gp) (c := 6) (k := 9) cgp (show s_b 6 9 = (0, 900) from rfl)
          have u122A := apx_o (M := M0) (N := M119) (p := gp) (ple_f (p := gp) ((FX.rf.tr fM119 (by decide)) : FX [15, 16, 17] M0 M119) cgp (by decide)) (((FX.rf.tr fM119 (by decide)) : FX [15, 16, 17] M0 M119).cell (by decide)) (((FX.rf.tr fM119 (by decide)) : FX [15, 16, 17] M0 M119).cell (by decide)) (((FX.rf.tr fM119 (by decide)) : FX [15, 16, 17] M0 M119).cell (by decide)) u122A7.1 u122A9.1 (by exact hp0)
          have u122g := rg_0 (M := M0) (N := M119) ((FX.rf.tr fM119 (by decide)) : FX [15, 16, 17] M0 M119) (by decide) (by decide)
          have X190 : ∀ (a187 : Int) (a188 : Int) (M189 : mm_M), ((-2147483648) ≤ a187 ∧ a187 ≤ 0 ∧ 0 ≤ a188 ∧ a188 ≤ 40 ∧ (b01 (rwX M189 gp 15 = (tqX M0 (rwX M0 gp 12) a1).1) = 1) ∧ ((a187 = 0 ∧ (tqX M0 (rwX M0 gp 12) a1).2.1 = 0) ∨ (a187 < 0 ∧ (tqX M0 (rwX M0 gp 12) a1).2.1 = -10 - a187 ∧ ¬ (tqX M0 (rwX M0 gp 12) a1).2.1 = 0 ∧ (tqX M0 (rwX M0 gp 12) a1).2.2 = a188)) ∧ (b01 (APX M189 gp) = 1) ∧ (b01 (RG0 M0 M189) = 1) ∧ (b01 (rwX M189 gp 12 = (rwX M0 gp 12)) = 1) ∧ (ntX M0 a1 = 0)) → INV pr Kz M189 → FX [15, 16, 17, 81, 82, 83, 84, 85, 86] M0 M189 → jj p l e (cn_R 6) s m args below meth c 0 0 Q 7 dC dI ad cA A M189 107 [(0, .ref (ad 0)), (2, .int (sI a2)), (4, .int (sI a187)), (5, .int (sI a188))] [] := by
            intro a187 a188 M189 h191 hM189 fM189
            refine j_iload_n C 1 2 dX11_judge_107 rfl rfl ?_
            refine y_if_ne C 123 dX11_judge_108 (by decide) (by exact ⟨ha2.1, ha2.2⟩) (fun h193 => ?_) (fun h193 => ?_)
            · refine j_iload_n C 1 2 dX11_judge_123 rfl rfl ?_
              refine y_iconst C dX11_judge_124 ?_
              refine y_icmp_ne C 143 dX11_judge_125 (by decide) (by exact ⟨⟨ha2.1, ha2.2⟩, ⟨(by decide), (by decide)⟩⟩) (fun h194 => ?_) (fun h194 => ?_)
              · refine j_iload_n C 1 2 dX11_judge_143 rfl rfl ?_
                refine y_iconst C dX11_judge_144 ?_
                refine y_icmp_ne C 158 dX11_judge_145 (by decide) (by exact ⟨⟨ha2.1, ha2.2⟩, ⟨(by decide), (by decide)⟩⟩) (fun h195 => ?_) (fun h195 => ?_)
                · refine j_aload_n C 0 0 dX11_judge_158 rfl rfl ?_
                  refine y_getC C 10 15 fX11_judge_40 rfl rfl ft_10_7 sm_10_7 rfl hM189 dX11_judge_159 ?_
                  refine y_getI C 8 _ _ fX11_judge_252 rfl rfl ft_8_5 sb_8_5 hM189 dX11_judge_162 (fun a196 ea196 la196 ua196 => ?_)
                  obtain rfl : a196 = (M189.1 15 5).toInt := ea196
                  have u198s := jgX_s M0 (rwX M0 gp 12) a1 a2
                  have u198j := juA_s (tqX M0 (rwX M0 gp 12) a1) a2
                  have u198e : rwX M189 gp 15 = (tqX M0 (rwX M0 gp 12) a1).1 := b01_e (by exact h191.2.2.2.2.1)
                  have u198v : (M189.1 15 3).toInt = ((tqX M0 (rwX M0 gp 12) a1).1 27).toInt ∧ (M189.1 15 5).toInt = ((tqX M0 (rwX M0 gp 12) a1).1 29).toInt := by rw [← u198e]; exact ⟨rfl, rfl⟩
                  exact hret _ _ _ _ dX11_judge_165 ⟨(M189.1 15 5).toInt, rfl, hM189, (FX.rf.tr fM189 (by decide)), by exact ⟨la196, ⟨ua196, ⟨(by (clear u198e fM189 hM189 u122g u122A u122A9 u122A7 u122f u122e u122z u122n u122t u122b h121 fM119 hM119 h117 h115 cv111 h106 h104 hret C hp3 hp2 hp1 hp0 egp cgp ha1 hq8_0 hpr hM0; omega)), ⟨h191.2.2.2.2.2.2.2.2.1, ⟨h191.2.2.2.2.2.2.1, h191.2.2.2.2.2.2.2.1⟩⟩⟩⟩⟩⟩
                · refine j_aload_n C 0 0 dX11_judge_148 rfl rfl ?_
                  refine y_getC C 10 15 fX11_judge_40 rfl rfl ft_10_7 sm_10_7 rfl hM189 dX11_judge_149 ?_
                  refine y_getI C 8 _ _ fX11_judge_150 rfl rfl ft_8_3 sb_8_3 hM189 dX11_judge_152 (fun a199 ea199 la199 ua199 => ?_)
                  obtain rfl : a199 = (M189.1 15 3).toInt := ea199
                  refine j_goto C 165 dX11_judge_155 (by decide) ?_
                  have u201s := jgX_s M0 (rwX M0 gp 12) a1 a2
                  have u201j := juA_s (tqX M0 (rwX M0 gp 12) a1) a2
                  have u201e : rwX M189 gp 15 = (tqX M0 (rwX M0 gp 12) a1).1 := b01_e (by exact h191.2.2.2.2.1)
                  have u201v : (M189.1 15 3).toInt = ((tqX M0 (rwX M0 gp 12) a1).1 27).toInt ∧ (M189.1 15 5).toInt = ((tqX M0 (rwX M0 gp 12) a1).1 29).toInt := by rw [← u201e]; exact ⟨rfl, rfl⟩
                  exact hret _ _ _ _ dX11_judge_165 ⟨(M189.1 15 3).toInt, rfl, hM189, (FX.rf.tr fM189 (by decide)), by exact ⟨(by (clear u201e h194 h193 fM189 hM189 u122g u122A u122A9 u122A7 u122f u122e u122z u122n u122t u122b h121 fM119 hM119 h117 h115 cv111 h110 h108 h106 h104 hret C hp3 hp2 hp1 hp0 egp cgp ha2 ha1 hq8_0 hpr hM0; omega)), ⟨(by (clear u201e h194 h193 fM189 hM189 u122g u122A u122A9 u122A7 u122f u122e u122z u122n u122t u122b h121 fM119 hM119 h117 h115 cv111 h110 h108 h106 h104 hret C hp3 hp2 hp1 hp0 egp cgp ha2 ha1 hq8_0 hpr hM0; omega)), ⟨(by (clear u201e h194 h193 fM189 hM189 u122g u122A u122A9 u122A7 u122f u122e u122z u122n u122t u122b h121 fM119 hM119 h117 h115 cv111 h110 h108 h106 h104 hret C hp3 hp2 hp1 hp0 egp cgp ha2 ha1 hq8_0 hpr hM0; omega)), ⟨h191.2.2.2.2.2.2.2.2.1, ⟨h191.2.2.2.2.2.2.1, h191.2.2.2.2.2.2.2.1⟩⟩⟩⟩⟩⟩
              · refine j_iload C 2 dX11_judge_128 rfl ?_
                refine y_if_ne C 137 dX11_judge_130 (by decide) (by exact ⟨h191.1, (by (clear h194 h193 fM189 hM189 u122g u122A u122A9 u122A7 u122f u122e u122z u122n u122t u122b h121 fM119 hM119 h117 h115 cv111 h110 h108 h106 h104 hret C hp3 hp2 hp1 hp0 egp cgp ha2 ha1 hq8_0 hpr hM0; omega))⟩) (fun h202 => ?_) (fun h202 => ?_)
                · refine y_bipush C dX11_judge_137 rfl ?_
                  refine j_iload C 2 dX11_judge_139 rfl ?_
                  refine y_isub C dX11_judge_141 ?_
                  have u203s := jgX_s M0 (rwX M0 gp 12) a1 a2
                  have u203j := juA_s (tqX M0 (rwX M0 gp 12) a1) a2
                  have u203e : rwX M189 gp 15 = (tqX M0 (rwX M0 gp 12) a1).1 := b01_e (by exact h191.2.2.2.2.1)
                  have u203v : (M189.1 15 3).toInt = ((tqX M0 (rwX M0 gp 12) a1).1 27).toInt ∧ (M189.1 15 5).toInt = ((tqX M0 (rwX M0 gp 12) a1).1 29).toInt := by rw [← u203e]; exact ⟨rfl, rfl⟩
                  exact hret _ _ _ _ dX11_judge_142 ⟨((-10) - a187), rfl, hM189, (FX.rf.tr fM189 (by decide)), by exact ⟨(by (clear u203v u203e fM189 hM189 u122g u122A u122A9 u122A7 u122f u122e u122z u122n u122t u122b h121 fM119 hM119 h117 h115 cv111 h110 h108 h106 h104 hret C hp3 hp2 hp1 hp0 egp cgp ha2 ha1 hq8_0 hpr hM0; omega)), ⟨(by (clear u203v u203e fM189 hM189 u122g u122A u122A9 u122A7 u122f u122e u122z u122n u122t u122b h121 fM119 hM119 h117 h115 cv111 h110 h108 h106 h104 hret C hp3 hp2 hp1 hp0 egp cgp ha2 ha1 hq8_0 hpr hM0; omega)), ⟨(by (clear u203v u203e fM189 hM189 u122g u122A u122A9 u122A7 u122f u122e u122z u122n u122t u122b h121 fM119 hM119 h117 h115 cv111 h110 h108 h106 h104 hret C hp3 hp2 hp1 hp0 egp cgp ha2 ha1 hq8_0 hpr hM0; omega)), ⟨h191.2.2.2.2.2.2.2.2.1, ⟨h191.2.2.2.2.2.2.1, h191.2.2.2.2.2.2.2.1⟩⟩⟩⟩⟩⟩
                · refine y_iconst C dX11_judge_133 ?_
                  refine j_goto C 142 dX11_judge_134 (by decide) ?_
                  have u204s := jgX_s M0 (rwX M0 gp 12) a1 a2
                  have u204j := juA_s (tqX M0 (rwX M0 gp 12) a1) a2
                  have u204e : rwX M189 gp 15 = (tqX M0 (rwX M0 gp 12) a1).1 := b01_e (by exact h191.2.2.2.2.1)
                  have u204v : (M189.1 15 3).toInt = ((tqX M0 (rwX M0 gp 12) a1).1 27).toInt ∧ (M189.1 15 5).toInt = ((tqX M0 (rwX M0 gp 12) a1).1 29).toInt := by rw [← u204e]; exact ⟨rfl, rfl⟩
                  exact hret _ _ _ _ dX11_judge_142 ⟨0, rfl, hM189, (FX.rf.tr fM189 (by decide)), by exact ⟨(by decide), ⟨(by decide), ⟨(by (clear u204v u204e fM189 hM189 u122g u122A u122A9 u122A7 u122f u122e u122z u122n u122t u122b h121 fM119 hM119 h117 h115 cv111 h110 h108 h106 h104 hret C hp3 hp2 hp1 hp0 egp cgp ha2 ha1 hq8_0 hpr hM0; omega)), ⟨h191.2.2.2.2.2.2.2.2.1, ⟨h191.2.2.2.2.2.2.1, h191.2.2.2.2.2.2.2.1⟩⟩⟩⟩⟩⟩
            · refine j_iload C 2 dX11_judge_111 rfl ?_
              refine y_if_ne C 120 dX11_judge_113 (by decide) (by exact ⟨h191.1, (by omega)⟩) (fun h205 => ?_) (fun h205 => ?_)
              · refine j_iload C 3 dX11_judge_120 rfl ?_
                have u206s := jgX_s M0 (rwX M0 gp 12) a1 a2
                have u206j := juA_s (tqX M0 (rwX M0 gp 12) a1) a2
                have u206e : rwX M189 gp 15 = (tqX M0 (rwX M0 gp 12) a1).1 := b01_e (by exact h191.2.2.2.2.1)
                have u206v : (M189.1 15 3).toInt = ((tqX M0 (rwX M0 gp 12) a1).1 27).toInt ∧ (M189.1 15 5).toInt = ((tqX M0 (rwX M0 gp 12) a1).1 29).toInt := by rw [← u206e]; exact ⟨rfl, rfl⟩
                exact hret _ _ _ _ dX11_judge_122 ⟨a188, rfl, hM189, (FX.rf.tr fM189 (by decide)), by exact ⟨(by (clear u206v u206e fM189 hM189 u122g u122A u122A9 u122A7 u122f u122e u122z u122n u122t u122b h121 fM119 hM119 h117 h115 cv111 h110 h108 h106 h104 hret C hp3 hp2 hp1 hp0 egp cgp ha2 ha1 hq8_0 hpr hM0; omega)), ⟨(by (clear u206v u206e fM189 hM189 u122g u122A u122A9 u122A7 u122f u122e u122z u122n u122t u122b h121 fM119 hM119 h117 h115 cv111 h110 h108 h106 h104 hret C hp3 hp2 hp1 hp0 egp cgp ha2 ha1 hq8_0 hpr hM0; omega)), ⟨(by (clear u206v u206e fM189 hM189 u122g u122A u122A9 u122A7 u122f u122e u122z u122n u122t u122b h121 fM119 hM119 h117 h115 cv111 h110 h108 h106 h104 hret C hp3 hp2 hp1 hp0 egp cgp ha2 ha1 hq8_0 hpr hM0; omega)), ⟨h191.2.2.2.2.2.2.2.2.1, ⟨h191.2.2.2.2.2.2.1, h191.2.2.2.2.2.2.2.1⟩⟩⟩⟩⟩⟩
              · refine y_iconst C dX11_judge_116 ?_
                refine j_goto C 122 dX11_judge_117 (by decide) ?_
                have u207s := jgX_s M0 (rwX M0 gp 12) a1 a2
                have u207j := juA_s (tqX M0 (rwX M0 gp 12) a1) a2
                have u207e : rwX M189 gp 15 = (tqX M0 (rwX M0 gp 12) a1).1 := b01_e (by exact h191.2.2.2.2.1)
                have u207v : (M189.1 15 3).toInt = ((tqX M0 (rwX M0 gp 12) a1).1 27).toInt ∧ (M189.1 15 5).toInt = ((tqX M0 (rwX M0 gp 12) a1).1 29).toInt := by rw [← u207e]; exact ⟨rfl, rfl⟩
                exact hret _ _ _ _ dX11_judge_122 ⟨(-1), rfl, hM189, (FX.rf.tr fM189 (by decide)), by exact ⟨(by decide), ⟨(by decide), ⟨(by (clear u207v u207e fM189 hM189 u122g u122A u122A9 u122A7 u122f u122e u122z u122n u122t u122b h121 fM119 hM119 h117 h115 cv111 h110 h108 h106 h104 hret C hp3 hp2 hp1 hp0 egp cgp ha2 ha1 hq8_0 hpr hM0; omega)), ⟨h191.2.2.2.2.2.2.2.2.1, ⟨h191.2.2.2.2.2.2.1, h191.2.2.2.2.2.2.2.1⟩⟩⟩⟩⟩⟩
          have L155 : ∀ (n153 : Nat), ∀ (a156 : Int) (a157 : Int) (a158 : Int) (M159 : mm_M), ((-2147483648) ≤ a156 ∧ a156 ≤ 0 ∧ 0 ≤ a157 ∧ a157 ≤ 40 ∧ 0 ≤ a158 ∧ a158 ≤ 40 ∧ (b01 (rwX M159 gp 15 = (tlF (rwX M0 gp 12) (tyX M0 a1) (a158).toNat).1) = 1) ∧ ((a156 = 0 ∧ (tlF (rwX M0 gp 12) (tyX M0 a1) (a158).toNat).2.1 = 0 ∧ (tlF (rwX M0 gp 12) (tyX M0 a1) (a158).toNat).2.2 = a158) ∨ (a156 < 0 ∧ (tlF (rwX M0 gp 12) (tyX M0 a1) (a158).toNat).2.1 = -10 - a156 ∧ ¬ (tlF (rwX M0 gp 12) (tyX M0 a1) (a158).toNat).2.1 = 0 ∧ (tlF (rwX M0 gp 12) (tyX M0 a1) (a158).toNat).2.2 = a157)) ∧ (b01 (APX M159 gp) = 1) ∧ (b01 (RG0 M0 M159) = 1) ∧ (b01 (rwX M159 gp 12 = (rwX M0 gp 12)) = 1) ∧ (a158 ≤ tsX M0 a1) ∧ (0 ≤ tsX M0 a1 ∧ tsX M0 a1 ≤ 40) ∧ (40 - a158) < (n153 : Int)) → INV pr Kz M159 → FX [15, 16, 17, 81, 82, 83, 84, 85, 86] M0 M159 → jj p l e (cn_R 6) s m args below meth c 0 0 Q 7 dC dI ad cA A M159 56 [(0, .ref (ad 0)), (2, .int (sI a2)), (3, .ref (ad (s_p0 50 (a1).toNat))), (4, .int (sI a156)), (5, .int (sI a157)), (6, .int (sI a158))] [] := by
            intro n153
            induction n153 with
            | zero =>
              intro a156 a157 a158 M159 h160 hM159 fM159
              exfalso; (clear fM159 hM159 X190 u122g u122A u122A9 u122A7 u122f u122e u122z u122n u122t u122b h121 fM119 hM119 h117 h115 cv111 h110 h108 h106 h104 hret C hp3 hp2 hp1 hp0 egp cgp ha2 ha1 hq8_0 hpr hM0; omega)
            | succ n153 ih154 =>
              intro a156 a157 a158 M159 h160 hM159 fM159
              have u161y := tyX_f (M := M0) (N := M159) ((FX.rf.tr fM159 (by decide)) : FX [15, 16, 17, 81, 82, 83, 84, 85, 86] M0 M159) (by decide) (t := a1) (by (clear fM159 hM159 ih154 X190 u122g u122A u122A9 u122A7 u122f u122e u122z h121 fM119 hM119 h117 cv111 h110 h108 hret C hp3 hp2 hp1 hp0 egp cgp ha2 hq8_0 hpr hM0; omega))
              have u161y1 := u161y.1
              refine j_iload C 5 dX11_judge_56 rfl ?_
              refine j_aload_n C 2 3 dX11_judge_58 rfl rfl ?_
              refine j_callVi C (d := 1) (As := []) (st := [.int (sI a158)]) (s_p0 50 (a1).toNat) (s_lt cv111 rfl) (s_kc (c := 9) cv111 rfl) (by decide) rfl (s2_X10_size hM159 cv111) gX11_judge_X10_size rfl hdX10_size (by decide) (Nat.le_of_ble_eq_true rfl) dX11_judge_59 rfl (fun r162 M163 h164 => ?_)
              obtain ⟨a166, rfl, rfl, h165⟩ := h164
              have u167a : tsX M159 a1 = (M159.1 (s_p0 50 (a1).toNat) 2).toInt := rfl
              refine y_icmp_ge C 107 dX11_judge_62 (by decide) (by (clear u167a u161y1 u161y fM159 hM159 ih154 X190 u122g u122A u122A9 u122A7 u122f u122e u122z u122n u122t u122b h121 fM119 hM119 h117 h115 cv111 h110 h108 h106 h104 hret C hp3 hp2 hp1 hp0 egp cgp ha2 ha1 hq8_0 hpr hM0; omega)) (fun h168 => ?_) (fun h168 => ?_)
              · have u169b := hM0.rd (i := s_p0 50 (a1).toNat) (c := 9) (k := 2) (try_c (a1).toNat (by (clear u161y1 fM159 hM159 ih154 X190 u122g u122A u122A9 u122A7 u122f u122e u122z h121 fM119 hM119 h117 cv111 h110 h108 hret C hp3 hp2 hp1 hp0 egp cgp ha2 hq8_0 hpr hM0; omega))).1 (show s_b 9 2 = (-1, 40) from rfl)
                have u169t : tsX M0 a1 = (M0.1 (s_p0 50 (a1).toNat) 2).toInt := rfl
                have u169n := ntX_s M0 a1
                have u169q := tq_e (M := M0) (f := (rwX M0 gp 12)) (g := rwX M159 gp 15) (t := a1) (x := a158) (by exact h160.2.2.2.2.2.2.1) (by exact ⟨h160.2.2.2.2.1, h160.2.2.2.2.2.2.2.2.2.2.2.1⟩) (by (clear u169t u169b u161y1 fM159 hM159 ih154 X190 u122g u122A u122A9 u122A7 u122f u122e u122z u122n h121 fM119 hM119 h117 h115 cv111 h110 h108 h106 h104 hret C hp3 hp2 hp1 hp0 egp cgp ha2 ha1 hq8_0 hpr hM0; omega))
                refine j_lv [0, 1, 3, 4] rfl ?_; exact X190 a156 a157 M159 (by (clear u169t u169b h168 u167a h165 u161y1 u161y fM159 hM159 ih154 X190 u122g u122A u122A9 u122A7 u122f u122e u122z u122n u122t u122b h121 fM119 hM119 h117 h115 cv111 h110 h108 hret C hp3 hp2 hp1 hp0 egp cgp ha2 ha1 hq8_0 hpr hM0; exact ⟨h160.1, ⟨h160.2.1, ⟨h160.2.2.1, ⟨h160.2.2.2.1, ⟨u169q.1, ⟨(by omega), ⟨h160.2.2.2.2.2.2.2.2.1, ⟨h160.2.2.2.2.2.2.2.2.2.1, ⟨h160.2.2.2.2.2.2.2.2.2.2.1, (by omega)⟩⟩⟩⟩⟩⟩⟩⟩⟩)) hM159 (FX.rf.tr fM159 (by decide))
              · refine j_iload C 3 dX11_judge_65 rfl ?_
                refine y_if_ne C 107 dX11_judge_67 (by decide) (by exact ⟨h160.1, (by (clear h168 u167a h165 u161y1 u161y fM159 hM159 ih154 X190 u122g u122A u122A9 u122A7 u122f u122e u122z u122n u122t u122b h121 fM119 hM119 h117 h115 cv111 h110 h108 h106 h104 hret C hp3 hp2 hp1 hp0 egp cgp ha2 ha1 hq8_0 hpr hM0; omega))⟩) (fun h170 => ?_) (fun h170 => ?_)
                · have u171b := hM0.rd (i := s_p0 50 (a1).toNat) (c := 9) (k := 2) (try_c (a1).toNat (by (clear h168 u161y1 fM159 hM159 ih154 X190 u122g u122A u122A9 u122A7 u122f u122e u122z h121 fM119 hM119 h117 cv111 h110 h108 hret C hp3 hp2 hp1 hp0 egp cgp ha2 hq8_0 hpr hM0; omega))).1 (show s_b 9 2 = (-1, 40) from rfl)
                  have u171t : tsX M0 a1 = (M0.1 (s_p0 50 (a1).toNat) 2).toInt := rfl
                  have u171n := ntX_s M0 a1
                  have u171q := tq_e (M := M0) (f := (rwX M0 gp 12)) (g := rwX M159 gp 15) (t := a1) (x := a158) (by exact h160.2.2.2.2.2.2.1) (by exact ⟨h160.2.2.2.2.1, h160.2.2.2.2.2.2.2.2.2.2.2.1⟩) (by (clear u171t u171b h168 u161y1 fM159 hM159 ih154 X190 u122g u122A u122A9 u122A7 u122f u122e u122z u122n h121 fM119 hM119 h117 h115 cv111 h110 h108 h106 h104 hret C hp3 hp2 hp1 hp0 egp cgp ha2 ha1 hq8_0 hpr hM0; omega))
                  refine j_lv [0, 1, 3, 4] rfl ?_; exact X190 a156 a157 M159 (by (clear u171t u171b h170 h168 u167a h165 u161y1 u161y fM159 hM159 ih154 X190 u122g u122A u122A9 u122A7 u122f u122e u122z u122n u122t u122b h121 fM119 hM119 h117 h115 cv111 h110 h108 hret C hp3 hp2 hp1 hp0 egp cgp ha2 ha1 hq8_0 hpr hM0; exact ⟨h160.1, ⟨h160.2.1, ⟨h160.2.2.1, ⟨h160.2.2.2.1, ⟨u171q.1, ⟨(by omega), ⟨h160.2.2.2.2.2.2.2.2.1, ⟨h160.2.2.2.2.2.2.2.2.2.1, ⟨h160.2.2.2.2.2.2.2.2.2.2.1, (by omega)⟩⟩⟩⟩⟩⟩⟩⟩⟩)) hM159 (FX.rf.tr fM159 (by decide))
                · have u172e : rwX M159 gp 15 = (tlF (rwX M0 gp 12) (tyX M0 a1) (a158).toNat).1 := b01_e (by exact h160.2.2.2.2.2.2.1)
                  have u172q : (M159.1 15 6).toInt = ((tlF (rwX M0 gp 12) (tyX M0 a1) (a158).toNat).1 30).toInt := by rw [← u172e]; rfl
                  have u172h := tl_gf (f := (rwX M0 gp 12)) (T := (tyX M0 a1)) (show 0 ≤ (M0.1 12 6).toInt by exact hp3.1) (show (M0.1 12 6).toInt ≤ 1000000 by exact hp3.2) (a158).toNat (by (clear u172q u172e h170 h168 u167a h165 u161y1 u161y fM159 hM159 ih154 X190 u122g u122A u122A9 u122A7 u122f u122e u122z u122n u122t u122b h121 fM119 hM119 h117 h115 cv111 h110 h108 h106 h104 hret C hp3 hp2 hp1 hp0 egp cgp ha2 ha1 hq8_0 hpr hM0; omega))
                  have u172i : ((rwX M0 gp 12) 30).toInt = (M0.1 12 6).toInt := rfl
                  have u172P : b01 (PRR (rwX M159 gp 15)) = 1 := by rw [u172e]; exact b01_i (prr_tl (b01_e (P := PRR (rwX M0 gp 12)) (by exact hp2)) _)
                  have u172L7 := hM0.rd (i := gp) (c := 6) (k := 7) cgp (show s_b 6 7 = (0, 900) from rfl)
                  have u172L9 := hM0.rd (i := gp) (c := 6) (k := 9) cgp (show s_b 6 9 = (0, 900) from rfl)
                  have u172L := law_p (M := M0) (N := M159) (p := gp) (ple_f (p := gp) ((FX.rf.tr fM159 (by decide)) : FX [15, 16, 17, 81, 82, 83, 84, 85, 86] M0 M159) cgp (by decide)) u172L7.1 u172L9.1 (by exact hp1)
                  refine y_iconst C dX11_judge_70 ?_
                  refine j_aload_n C 0 0 dX11_judge_71 rfl rfl ?_
                  refine y_getC C 10 87 fX11_judge_85 rfl rfl ft_10_13 sm_10_13 rfl hM159 dX11_judge_72 ?_
                  refine j_aload_n C 0 0 dX11_judge_75 rfl rfl ?_
                  refine y_getV C 10 gp fX11_judge_26 rfl rfl ft_10_4 (s_pX fM159 (egp)) dX11_judge_76 ?_
                  refine j_aload_n C 0 0 dX11_judge_79 rfl rfl ?_
                  refine y_getC C 10 15 fX11_judge_40 rfl rfl ft_10_7 sm_10_7 rfl hM159 dX11_judge_80 ?_
                  refine j_aload_n C 2 3 dX11_judge_83 rfl rfl ?_
                  refine j_iload C 5 dX11_judge_84 rfl ?_
                  refine j_callVj C (d := 1) (As := [.int (sI a158)]) (st := [.ref (ad 15), .ref (ad gp), .ref (ad 87), .int (sI 0)]) (s_p0 50 (a1).toNat) (s_lt cv111 rfl) (s_kc (c := 9) cv111 rfl) (by decide) rfl (s3_X10_numberAt hM159 cv111 a158 (by (clear u172L u172L9 u172L7 u172P u172i u172h u172q u172e h170 h168 u167a h165 u161y1 u161y fM159 hM159 ih154 X190 u122g u122A u122A9 u122A7 u122f u122e u122z u122n u122t u122b h121 fM119 hM119 h117 h115 cv111 h110 h108 h106 h104 hret C hp3 hp2 hp1 hp0 egp cgp ha2 ha1 hq8_0 hpr hM0; omega))) gX11_judge_X10_numberAt rfl hdX10_numberAt (by decide) (Nat.le_of_ble_eq_true rfl) dX11_judge_86 rfl (fun r173 M174 h175 => ?_)
                  obtain ⟨a177, rfl, rfl, h176⟩ := h175
                  have u178y := tyX_f (M := M0) (N := M159) ((FX.rf.tr fM159 (by decide)) : FX [15, 16, 17, 81, 82, 83, 84, 85, 86] M0 M159) (by decide) (t := a1) (by (clear u172L u172L9 u172L7 u172P u172i u172h u172q u172e u161y1 fM159 hM159 ih154 X190 u122g u122A u122A9 u122A7 u122f u122e u122z h121 fM119 hM119 h117 cv111 h110 h108 hret C hp3 hp2 hp1 hp0 egp cgp ha2 hq8_0 hpr hM0; omega))
                  have u178y1 := u178y.1
                  have u178a : tsX M159 a1 = (M159.1 (s_p0 50 (a1).toNat) 2).toInt := rfl
                  have u178c : tyX M159 a1 (a158).toNat = (M159.2.1 (s_p0 (s_p0 50 (a1).toNat) 0) (a158).toNat).toInt := rfl
                  have u178d := u178y.2 (a158).toNat
                  have u178v : a177 = tyX M0 a1 (a158).toNat := by (clear u178a u178y1 u178y u172L u172L9 u172L7 u172P u172i u172h u172q u172e h170 u161y1 fM159 hM159 ih154 X190 u122g u122A u122A9 u122A7 u122f u122e u122z u122n h121 fM119 hM119 h117 h115 cv111 h110 h108 h106 h104 hret C hp3 hp2 hp1 hp0 egp cgp ha2 ha1 hq8_0 hpr hM0; omega)
                  refine j_callVi C (d := 5) (As := [.ref (ad gp), .ref (ad 15), .long (sJ a177)]) (st := [.int (sI 0)]) 87 (s_lt rfl rfl) (s_kc (c := 1) rfl rfl) (by decide) rfl (s3_X1_carryOut hM159 hpr cgp a177 (by exact ⟨h176.1, h176.2.1⟩) (by exact h160.2.2.2.2.2.2.2.2.1) (by exact u172L) (by exact u172P) (by (clear u178v u178d u178c u178a u178y1 u178y u172L u172L9 u172L7 u172P u172e h170 u161y1 fM159 hM159 ih154 X190 u122g u122A u122A9 u122A7 u122f u122e u122z u122n h121 fM119 hM119 h117 h115 cv111 h110 h108 h106 h104 hret C hp2 hp1 hp0 egp cgp ha2 ha1 hq8_0 hpr hM0; omega))) gX11_judge_X1_carryOut rfl hdX1_carryOut (by decide) (Nat.le_of_ble_eq_true rfl) dX11_judge_89 rfl (fun r179 M180 h181 => ?_)
                  obtain ⟨a183, rfl, hM180, fM180, h182⟩ := h181
                  refine y_mmin C wX11_judge_246_0 wX11_judge_246_1 wX11_judge_246_2 wX11_judge_246_3 (by decide) (Nat.le_of_ble_eq_true rfl) dX11_judge_92 (by exact ⟨⟨(by decide), (by decide)⟩, ⟨h182.1, h182.2.1⟩⟩) (fun a185 ha185 => ?_)
                  refine j_istore C 4 [(4, .int (sI a185)), (0, .ref (ad 0)), (2, .int (sI a2)), (3, .ref (ad (s_p0 50 (a1).toNat))), (5, .int (sI a157)), (6, .int (sI a158))] dX11_judge_95 (by decide) rfl ?_
                  refine j_iload C 5 dX11_judge_97 rfl ?_
                  refine j_istore C 5 [(5, .int (sI a158)), (4, .int (sI a185)), (0, .ref (ad 0)), (2, .int (sI a2)), (3, .ref (ad (s_p0 50 (a1).toNat))), (6, .int (sI a158))] dX11_judge_99 (by decide) rfl ?_
                  refine y_iinc C 5 [(6, .int (sI (a158 + 1))), (5, .int (sI a158)), (4, .int (sI a185)), (0, .ref (ad 0)), (2, .int (sI a2)), (3, .ref (ad (s_p0 50 (a1).toNat)))] dX11_judge_101 rfl (by decide) rfl ?_
                  refine j_goto C 56 dX11_judge_104 (by decide) ?_
                  have u186w := tl_xy (f := (rwX M0 gp 12)) (g := rwX M159 gp 15) (N := rwX M180 gp 15) (T := (tyX M0 a1)) (x := a158) (x' := a158 + 1) (v := a177) (a := a183) (by exact h160.2.2.2.2.2.2.1) (by (clear ha185 h182 fM180 hM180 u178v u178d u178c u178a u178y1 u178y h176 u172L u172L9 u172L7 u172P u172i u172h u172q u172e h168 u167a h165 u161y1 u161y fM159 hM159 ih154 X190 u122g u122A u122A9 u122A7 u122f u122e u122z u122n u122t u122b h121 fM119 hM119 h117 h115 cv111 h110 h108 h106 h104 hret C hp3 hp2 hp1 hp0 egp cgp ha2 ha1 hq8_0 hpr hM0; omega)) u178v (by exact h182.2.2.2.1) (by exact h182.2.2.2.2.2) (by (clear ha185 h182 fM180 hM180 u178v u178d u178c u178a u178y1 u178y h176 u172L u172L9 u172L7 u172P u172i u172h u172q u172e h170 h168 u167a h165 u161y1 u161y fM159 hM159 ih154 X190 u122g u122A u122A9 u122A7 u122f u122e u122z u122n u122t u122b h121 fM119 hM119 h117 h115 cv111 h110 h108 h106 h104 hret C hp3 hp2 hp1 hp0 egp cgp ha2 ha1 hq8_0 hpr hM0; omega))
                  have u186w1 := u186w.1
                  have u186w2 := u186w.2
                  have u186g := rg_c (M := M0) (B := M159) (N := M180) (by exact h160.2.2.2.2.2.2.2.2.2.1) ((FX.rf.tr fM180 (by decide)) : FX [15, 16, 81, 82, 83, 84, 85, 86] M159 M180) (by decide) (by decide)
                  have u186f : b01 (rwX M180 gp 12 = (rwX M0 gp 12)) = 1 := by rw [(rx_f (p := gp) (v := 12) (ple_f (p := gp) ((FX.rf.tr fM180 (by decide)) : FX [15, 16, 81, 82, 83, 84, 85, 86] M159 M180) cgp (by decide)) (ske_n ((FX.rf.tr fM180 (by decide)) : FX [15, 16, 81, 82, 83, 84, 85, 86] M159 M180) ⟨by decide, by decide, by decide⟩))]; exact h160.2.2.2.2.2.2.2.2.2.2.1
                  refine j_lv [3, 4, 5, 2, 1, 0] rfl ?_; exact ih154 a185 a158 (a158 + 1) M180 (by (clear u186w2 u186w1 fM180 hM180 u178v u178d u178c u178a u178y1 u178y h176 u172L u172L9 u172L7 u172P u172i u172h u172q u172e h170 u161y1 fM159 hM159 ih154 X190 u122g u122A u122A9 u122A7 u122f u122e u122z u122n u122t u122b h121 fM119 hM119 h117 h115 cv111 h110 h108 h106 h104 hret C hp3 hp2 hp1 hp0 egp cgp ha2 ha1 hq8_0 hpr hM0; exact ⟨(by omega), ⟨(by omega), ⟨h160.2.2.2.2.1, ⟨h160.2.2.2.2.2.1, ⟨(by omega), ⟨(by omega), ⟨u186w.1, ⟨(by omega), ⟨h182.2.2.1, ⟨u186g, ⟨u186f, ⟨(by omega), ⟨⟨h160.2.2.2.2.2.2.2.2.2.2.2.2.1.1, h160.2.2.2.2.2.2.2.2.2.2.2.2.1.2⟩, (by omega)⟩⟩⟩⟩⟩⟩⟩⟩⟩⟩⟩⟩⟩)) hM180 ((FX.rf.tr fM159 (by decide)).tr fM180 (by decide))
          refine j_lv [4, 6, 3, 2, 1, 0] rfl ?_; exact L155 4294967306 0 0 0 M119 (by exact ⟨(by decide), ⟨(by decide), ⟨(by decide), ⟨(by decide), ⟨(by decide), ⟨(by decide), ⟨u122e, ⟨(by (clear L155 X190 u122A9 u122A7 h121 fM119 hM119 cv111 h110 h108 h106 h104 hret C hp3 hp2 hp1 hp0 egp cgp ha2 ha1 hq8_0 hpr hM0; omega)), ⟨u122A, ⟨u122g, ⟨u122f, ⟨(by (clear L155 X190 u122A9 u122A7 h121 fM119 hM119 cv111 h110 h108 h106 h104 hret C hp3 hp2 hp1 hp0 egp cgp ha2 ha1 hq8_0 hpr hM0; omega)), ⟨⟨(by (clear L155 X190 u122A9 u122A7 h121 fM119 hM119 cv111 h110 h108 h106 h104 hret C hp3 hp2 hp1 hp0 egp cgp ha2 ha1 hq8_0 hpr hM0; omega)), (by (clear L155 X190 u122A9 u122A7 h121 fM119 hM119 cv111 h110 h108 h106 h104 hret C hp3 hp2 hp1 hp0 egp cgp ha2 ha1 hq8_0 hpr hM0; omega))⟩, (by decide)⟩⟩⟩⟩⟩⟩⟩⟩⟩⟩⟩⟩⟩) hM119 (FX.rf.tr fM119 (by decide))
        · refine y_bipush C dX11_judge_33 rfl ?_
          have u208s := jgX_s M0 (rwX M0 gp 12) a1 a2
          have u208n := ntX_s M0 a1
          have u208f : b01 (rwX M0 gp 12 = rwX M0 gp 12) = 1 := b01_i rfl
          have u208g := rg_s M0
          have u208t : tsX M0 a1 = (M0.1 (s_p0 50 (a1).toNat) 2).toInt := rfl
          exact hret _ _ _ _ dX11_judge_35 ⟨(-6), rfl, hM0, FX.rf, by exact ⟨(by decide), ⟨(by decide), ⟨(by (clear cv111 hret C hp3 hp2 hp1 egp cgp hq8_0 hpr hM0; omega)), ⟨u208f, ⟨hp0, u208g⟩⟩⟩⟩⟩⟩
      · refine y_bipush C dX11_judge_16 rfl ?_
        have u209s := jgX_s M0 (rwX M0 gp 12) a1 a2
        have u209n := ntX_s M0 a1
        have u209f : b01 (rwX M0 gp 12 = rwX M0 gp 12) = 1 := b01_i rfl
        have u209g := rg_s M0
        exact hret _ _ _ _ dX11_judge_18 ⟨(-2), rfl, hM0, FX.rf, by exact ⟨(by decide), ⟨(by decide), ⟨(by (clear h106 h104 hret C hp3 hp2 hp1 egp cgp ha1 hq8_0 hpr hM0; omega)), ⟨u209f, ⟨hp0, u209g⟩⟩⟩⟩⟩⟩
set_option maxHeartbeats 4000000 in
theorem s33_X9_copyFrom {l : Launch} {dC : Nat → ClassId} {dI : Nat → Nat → Nat} {ad : Nat → Nat} {cA : Nat → ClassId} {pr : Nat → Nat → Bool} {Kz : mm_M} {M0 : mm_M} (hM0 : INV pr Kz M0) (hpr : PX pr) (hq8_0 : ∀ i, s_c i = 8 → pr i 0 = false)  : Cv l 0 yX9_copyFrom wsX9_copyFrom dC dI ad cA [.ref (ad 12), .ref (ad 15)] M0 (fun M' => INV pr Kz M' ∧ FX [12, 13, 14] M0 M' ∧ (b01 (skX M' 12 = skX M0 15) = 1)) := by
  refine cv_of (cc := cX9_copyFrom) (maxL := 3) (lv := [(0, .ref (ad 12)), (1, .ref (ad 15))]) (by decide) rfl (Nat.le_of_ble_eq_true rfl) rfl ?_
  intro p e s m args below meth c A Q C hret
  refine j_aload_n C 0 0 dX9_copyFrom_0 rfl rfl ?_
  refine j_aload_n C 1 1 dX9_copyFrom_1 rfl rfl ?_
  refine y_getI C 8 _ _ fX9_copyFrom_9 rfl rfl ft_8_0 sb_8_0 hM0 dX9_copyFrom_2 (fun a101 ea101 la101 ua101 => ?_)
  obtain rfl : a101 = (M0.1 15 0).toInt := ea101
  refine y_putI C 8 _ _ qX9_copyFrom_9 rfl rfl ft_8_0 sb_8_0 hM0 (hq8_0 _ rfl) dX9_copyFrom_5 (by exact ⟨⟨(by (clear hret C hq8_0 hpr hM0; omega)), (by (clear hret C hq8_0 hpr hM0; omega))⟩, ⟨la101, ua101⟩⟩) (fun M103 eM103 hM103 => ?_)
  refine y_iconst C dX9_copyFrom_8 ?_
  refine j_istore_n C 2 [(2, .int (sI 0)), (0, .ref (ad 12)), (1, .ref (ad 15))] dX9_copyFrom_9 rfl (by decide) rfl ?_
  have u104z := cpa_0 M103 M0 13 16 14 17
  have L188 : ∀ (n186 : Nat), ∀ (a189 : Int) (M190 : mm_M), (0 ≤ a189 ∧ a189 ≤ 8 ∧ ((M190.1 12 0).toInt = (M0.1 15 0).toInt) ∧ (b01 (CPA M190 M0 13 16 14 17 a189) = 1) ∧ (8 - a189) < (n186 : Int)) → INV pr Kz M190 → FX [12, 13, 14] M0 M190 → jj p l e (cn_R 0) s m args below meth c 0 0 Q 3 dC dI ad cA A M190 10 [(0, .ref (ad 12)), (1, .ref (ad 15)), (2, .int (sI a189))] [] := by
    intro n186
    induction n186 with
    | zero =>
      intro a189 M190 h191 hM190 fM190
      exfalso; omega
    | succ n186 ih187 =>
      intro a189 M190 h191 hM190 fM190
      refine j_iload_n C 2 2 dX9_copyFrom_10 rfl rfl ?_
      refine y_bipush C dX9_copyFrom_11 rfl ?_
      refine y_icmp_ge C 46 dX9_copyFrom_13 (by decide) (by exact ⟨⟨(by (clear fM190 hM190 ih187 u104z hM103 eM103 ua101 la101 hret C hq8_0 hpr hM0; omega)), (by (clear fM190 hM190 ih187 u104z hM103 eM103 ua101 la101 hret C hq8_0 hpr hM0; omega))⟩, ⟨(by decide), (by decide)⟩⟩) (fun h193 => ?_) (fun h193 => ?_)
      · refine j_aload_n C 0 0 dX9_copyFrom_46 rfl rfl ?_
        refine j_aload_n C 1 1 dX9_copyFrom_47 rfl rfl ?_
        refine y_getI C 8 _ _ fX9_copyFrom_22 rfl rfl ft_8_3 sb_8_3 hM190 dX9_copyFrom_48 (fun a199 ea199 la199 ua199 => ?_)
        obtain rfl : a199 = (M0.1 15 3).toInt := s_fX fM190 (by decide) (ea199)
        refine y_putI C 8 _ _ qX9_copyFrom_22 rfl rfl ft_8_3 sb_8_3 hM190 (PX.w hpr rfl rfl) dX9_copyFrom_51 (by exact ⟨⟨(by (clear h193 fM190 hM190 h191 ih187 u104z hM103 eM103 ua101 la101 hret C hq8_0 hpr hM0; omega)), (by (clear h193 fM190 hM190 h191 ih187 u104z hM103 eM103 ua101 la101 hret C hq8_0 hpr hM0; omega))⟩, ⟨la199, ua199⟩⟩) (fun M201 eM201 hM201 => ?_)
        refine j_aload_n C 0 0 dX9_copyFrom_54 rfl rfl ?_
        refine j_aload_n C 1 1 dX9_copyFrom_55 rfl rfl ?_
        refine y_getI C 8 _ _ fX9_copyFrom_25 rfl rfl ft_8_4 sb_8_4 hM201 dX9_copyFrom_56 (fun a202 ea202 la202 ua202 => ?_)
        obtain rfl : a202 = (M0.1 15 4).toInt := s_fX fM190 (by decide) (s_fa eM201 (by decide) (ea202))
        refine y_putI C 8 _ _ qX9_copyFrom_25 rfl rfl ft_8_4 sb_8_4 hM201 (PX.w hpr rfl rfl) dX9_copyFrom_59 (by exact ⟨⟨(by (clear hM201 eM201 ua199 la199 ea199 h193 fM190 hM190 h191 ih187 u104z hM103 eM103 ua101 la101 hret C hq8_0 hpr hM0; omega)), (by (clear hM201 eM201 ua199 la199 ea199 h193 fM190 hM190 h191 ih187 u104z hM103 eM103 ua101 la101 hret C hq8_0 hpr hM0; omega))⟩, ⟨la202, ua202⟩⟩) (fun M204 eM204 hM204 => ?_)
        refine j_aload_n C 0 0 dX9_copyFrom_62 rfl rfl ?_
        refine j_aload_n C 1 1 dX9_copyFrom_63 rfl rfl ?_
        refine y_getI C 8 _ _ fX9_copyFrom_28 rfl rfl ft_8_5 sb_8_5 hM204 dX9_copyFrom_64 (fun a205 ea205 la205 ua205 => ?_)
        obtain rfl : a205 = (M0.1 15 5).toInt := s_fX fM190 (by decide) (s_fa eM201 (by decide) (s_fa eM204 (by decide) (ea205)))
        refine y_putIF C 8 qX9_copyFrom_28 rfl rfl ft_8_5 sb_8_5 hM204 (PX.w hpr rfl rfl) dX9_copyFrom_67 (fun M207 eM207 hM207 => ?_)
        refine j_aload_n C 0 0 dX9_copyFrom_70 rfl rfl ?_
        refine j_aload_n C 1 1 dX9_copyFrom_71 rfl rfl ?_
        refine y_getI C 8 _ _ fX9_copyFrom_31 rfl rfl ft_8_6 sb_8_6 hM207 dX9_copyFrom_72 (fun a208 ea208 la208 ua208 => ?_)
        obtain rfl : a208 = (M0.1 15 6).toInt := s_fX fM190 (by decide) (s_fa eM201 (by decide) (s_fa eM204 (by decide) (s_fa eM207 (by decide) (ea208))))
        refine y_putIF C 8 qX9_copyFrom_31 rfl rfl ft_8_6 sb_8_6 hM207 (PX.w hpr rfl rfl) dX9_copyFrom_75 (fun M210 eM210 hM210 => ?_)
        refine j_aload_n C 0 0 dX9_copyFrom_78 rfl rfl ?_
        refine j_aload_n C 1 1 dX9_copyFrom_79 rfl rfl ?_
        refine y_getI C 8 _ _ fX9_copyFrom_34 rfl rfl ft_8_7 sb_8_7 hM210 dX9_copyFrom_80 (fun a211 ea211 la211 ua211 => ?_)
        obtain rfl : a211 = (M0.1 15 7).toInt := s_fX fM190 (by decide) (s_fa eM201 (by decide) (s_fa eM204 (by decide) (s_fa eM207 (by decide) (s_fa eM210 (by decide) (ea211)))))
        refine y_putIF C 8 qX9_copyFrom_34 rfl rfl ft_8_7 sb_8_7 hM210 (PX.w hpr rfl rfl) dX9_copyFrom_83 (fun M213 eM213 hM213 => ?_)
        refine j_aload_n C 0 0 dX9_copyFrom_86 rfl rfl ?_
        refine j_aload_n C 1 1 dX9_copyFrom_87 rfl rfl ?_
        refine y_getI C 8 _ _ fX9_copyFrom_37 rfl rfl ft_8_8 sb_8_8 hM213 dX9_copyFrom_88 (fun a214 ea214 la214 ua214 => ?_)
        obtain rfl : a214 = (M0.1 15 8).toInt := s_fX fM190 (by decide) (s_fa eM201 (by decide) (s_fa eM204 (by decide) (s_fa eM207 (by decide) (s_fa eM210 (by decide) (s_fa eM213 (by decide) (ea214))))))
        refine y_putIF C 8 qX9_copyFrom_37 rfl rfl ft_8_8 sb_8_8 hM213 (PX.w hpr rfl rfl) dX9_copyFrom_91 (fun M216 eM216 hM216 => ?_)
        have u217c := cpa_c (M := M190) (M' := M216) (B := M0) (p0 := 13) (p1 := 16) (g0 := 14) (g1 := 17) (n := a189) (n' := 8) (by exact h191.2.2.2.1) ((((((wI_cell eM216 (by decide)).trans (wI_cell eM213 (by decide))).trans (wI_cell eM210 (by decide))).trans (wI_cell eM207 (by decide))).trans (wI_cell eM204 (by decide))).trans (wI_cell eM201 (by decide))) ((((((wI_cell eM216 (by decide)).trans (wI_cell eM213 (by decide))).trans (wI_cell eM210 (by decide))).trans (wI_cell eM207 (by decide))).trans (wI_cell eM204 (by decide))).trans (wI_cell eM201 (by decide))) (by (clear hM216 eM216 ua214 la214 ea214 hM213 eM213 ua211 la211 ea211 hM210 eM210 ua208 la208 ea208 hM207 eM207 ua205 la205 ea205 hM204 eM204 ua202 la202 ea202 hM201 eM201 ua199 la199 ea199 fM190 hM190 ih187 u104z hM103 eM103 ua101 la101 hret C hq8_0 hpr hM0; omega))
        have zz12_0 : (M216.1 12 0).toInt = (M190.1 12 0).toInt := s_fb eM201 (by decide) (s_fb eM204 (by decide) (s_fb eM207 (by decide) (s_fb eM210 (by decide) (s_fb eM213 (by decide) (s_fb eM216 (by decide) (rfl))))))
        have zz12_3 := (Eq.trans (s_fb eM204 (by decide) (s_fb eM207 (by decide) (s_fb eM210 (by decide) (s_fb eM213 (by decide) (s_fb eM216 (by decide) (rfl))))) : (M216.1 12 3).toInt = (M201.1 12 3).toInt) (s_wr eM201 (by (clear zz12_0 u217c hM216 eM216 ua214 la214 ea214 hM213 eM213 ua211 la211 ea211 hM210 eM210 ua208 la208 ea208 hM207 eM207 ua205 la205 ea205 hM204 eM204 ua202 la202 ea202 hM201 eM201 h193 fM190 hM190 h191 ih187 u104z hM103 eM103 ua101 la101 hret C hq8_0 hpr hM0; omega))))
        have zz12_4 := (Eq.trans (s_fb eM207 (by decide) (s_fb eM210 (by decide) (s_fb eM213 (by decide) (s_fb eM216 (by decide) (rfl)))) : (M216.1 12 4).toInt = (M204.1 12 4).toInt) (s_wr eM204 (by (clear zz12_3 zz12_0 u217c hM216 eM216 ua214 la214 ea214 hM213 eM213 ua211 la211 ea211 hM210 eM210 ua208 la208 ea208 hM207 eM207 ua205 la205 ea205 hM204 eM204 hM201 eM201 ua199 la199 ea199 h193 fM190 hM190 h191 ih187 u104z hM103 eM103 ua101 la101 hret C hq8_0 hpr hM0; omega))))
        have zz12_5 := (Eq.trans (s_fb eM210 (by decide) (s_fb eM213 (by decide) (s_fb eM216 (by decide) (rfl))) : (M216.1 12 5).toInt = (M207.1 12 5).toInt) (s_wr eM207 (by exact ⟨la205, ua205⟩)))
        have zz12_6 := (Eq.trans (s_fb eM213 (by decide) (s_fb eM216 (by decide) (rfl)) : (M216.1 12 6).toInt = (M210.1 12 6).toInt) (s_wr eM210 (by exact ⟨la208, ua208⟩)))
        have zz12_7 := (Eq.trans (s_fb eM216 (by decide) (rfl) : (M216.1 12 7).toInt = (M213.1 12 7).toInt) (s_wr eM213 (by exact ⟨la211, ua211⟩)))
        have zz12_8 := (Eq.trans (rfl : (M216.1 12 8).toInt = (M216.1 12 8).toInt) (s_wr eM216 (by exact ⟨la214, ua214⟩)))
        have u217k := copy_k (M := M0) (N := M216) (d := 12) (s := 15) (p := 0) (by (clear zz12_8 zz12_7 zz12_6 zz12_5 zz12_4 zz12_3 u217c hM216 eM216 ua214 la214 ea214 hM213 eM213 ua211 la211 ea211 hM210 eM210 ua208 la208 ea208 hM207 eM207 ua205 la205 ea205 hM204 eM204 ua202 la202 ea202 hM201 eM201 ua199 la199 ea199 h193 fM190 hM190 ih187 u104z hM103 eM103 ua101 la101 hret C hq8_0 hpr hM0; omega)) (by exact zz12_3) (by exact zz12_4) (by exact zz12_5) (by exact zz12_6) (by exact zz12_7) (by exact zz12_8) (show b01 (CPA M216 M0 13 16 14 17 8) = 1 from by exact u217c)
        exact hret _ _ _ dX9_copyFrom_94 ⟨hM216, (((((((FX.rf.tr fM190 (by decide)).wI eM201 (by decide)).wI eM204 (by decide)).wI eM207 (by decide)).wI eM210 (by decide)).wI eM213 (by decide)).wI eM216 (by decide)), by exact u217k⟩
      · refine j_aload_n C 0 0 dX9_copyFrom_16 rfl rfl ?_
        refine y_getC C 8 13 fX9_copyFrom_15 rfl rfl ft_8_1 sm_8_1 rfl hM190 dX9_copyFrom_17 ?_
        refine j_iload_n C 2 2 dX9_copyFrom_20 rfl rfl ?_
        refine j_aload_n C 1 1 dX9_copyFrom_21 rfl rfl ?_
        refine y_getC C 8 16 fX9_copyFrom_15 rfl rfl ft_8_1 sm_8_1 rfl hM190 dX9_copyFrom_22 ?_
        refine j_iload_n C 2 2 dX9_copyFrom_25 rfl rfl ?_
        refine y_iald C 25 8 _ _ rfl rfl rfl ak_25 an_25 rfl (sb_25 _) hM190 dX9_copyFrom_26 (by exact ⟨h191.1, (by omega)⟩) (fun a194 ea194 la194 ua194 => ?_)
        obtain rfl : a194 = (M0.1 16 (a189).toNat).toInt := s_fX fM190 (by decide) (ea194)
        refine y_iastF C 25 8 rfl rfl rfl ak_25 an_25 rfl (sb_25 _) hM190 (PX.w hpr rfl rfl) dX9_copyFrom_27 (by exact ⟨h191.1, (by omega)⟩) (fun M195 eM195 hM195 => ?_)
        refine j_aload_n C 0 0 dX9_copyFrom_28 rfl rfl ?_
        refine y_getC C 8 14 fX9_copyFrom_19 rfl rfl ft_8_2 sm_8_2 rfl hM195 dX9_copyFrom_29 ?_
        refine j_iload_n C 2 2 dX9_copyFrom_32 rfl rfl ?_
        refine j_aload_n C 1 1 dX9_copyFrom_33 rfl rfl ?_
        refine y_getC C 8 17 fX9_copyFrom_19 rfl rfl ft_8_2 sm_8_2 rfl hM195 dX9_copyFrom_34 ?_
        refine j_iload_n C 2 2 dX9_copyFrom_37 rfl rfl ?_
        refine y_iald C 26 8 _ _ rfl rfl rfl ak_26 an_26 rfl (sb_26 _) hM195 dX9_copyFrom_38 (by exact ⟨h191.1, (by omega)⟩) (fun a196 ea196 la196 ua196 => ?_)
        obtain rfl : a196 = (M0.1 17 (a189).toNat).toInt := s_fX fM190 (by decide) (s_fa eM195 (by decide) (ea196))
        refine y_iastF C 26 8 rfl rfl rfl ak_26 an_26 rfl (sb_26 _) hM195 (PX.w hpr rfl rfl) dX9_copyFrom_39 (by exact ⟨h191.1, (by omega)⟩) (fun M197 eM197 hM197 => ?_)
        refine y_iinc C 2 [(2, .int (sI (a189 + 1))), (0, .ref (ad 12)), (1, .ref (ad 15))] dX9_copyFrom_40 rfl (by decide) rfl ?_
        refine j_goto C 10 dX9_copyFrom_43 (by decide) ?_
        have u198s := cpa_s (B := M0) (p1 := 16) (g1 := 17) (n := a189) (n' := (a189 + 1)) (by exact h191.2.2.2.1) (by omega) eM195 eM197 (by decide)
        have zz12_0 : (M197.1 12 0).toInt = (M190.1 12 0).toInt := s_fa eM195 (by decide) (s_fa eM197 (by decide) (rfl)); refine j_lv [1, 2, 0] rfl ?_; exact ih187 (a189 + 1) M197 (by exact ⟨(by (clear hM197 eM197 ua196 la196 ea196 hM195 eM195 ua194 la194 ea194 fM190 hM190 ih187 u104z hM103 eM103 ua101 la101 hret C hq8_0 hpr hM0; omega)), ⟨(by (clear hM197 eM197 ua196 la196 ea196 hM195 eM195 ua194 la194 ea194 fM190 hM190 ih187 u104z hM103 eM103 ua101 la101 hret C hq8_0 hpr hM0; omega)), ⟨(by (clear hM197 eM197 ua196 la196 ea196 hM195 eM195 ua194 la194 ea194 fM190 hM190 ih187 u104z hM103 eM103 ua101 la101 hret C hq8_0 hpr hM0; omega)), ⟨u198s, (by (clear hM197 eM197 ua196 la196 ea196 hM195 eM195 ua194 la194 ea194 fM190 hM190 ih187 u104z hM103 eM103 ua101 la101 hret C hq8_0 hpr hM0; omega))⟩⟩⟩⟩) hM197 (((FX.rf.tr fM190 (by decide)).wI eM195 (by decide)).wI eM197 (by decide))
  have zz12_0 := (Eq.trans (rfl : (M103.1 12 0).toInt = (M103.1 12 0).toInt) (s_wr eM103 (by omega))); refine j_lv [1, 2, 0] rfl ?_; exact L188 2010 0 M103 (by exact ⟨(by decide), ⟨(by decide), ⟨zz12_0, ⟨u104z, (by decide)⟩⟩⟩⟩) hM103 (FX.rf.wI eM103 (by decide))
set_option maxHeartbeats 4000000 in
theorem s2_X11_season {l : Launch} {dC : Nat → ClassId} {dI : Nat → Nat → Nat} {ad : Nat → Nat} {cA : Nat → ClassId} {pr : Nat → Nat → Bool} {Kz : mm_M} {M0 : mm_M} (hM0 : INV pr Kz M0) (hpr : PX pr) (hq8_0 : ∀ i, s_c i = 8 → pr i 0 = false) (a1 : Int) (ha1 : -2147483648 ≤ a1 ∧ a1 ≤ 2147483647) (a2 : Int) (ha2 : -2147483648 ≤ a2 ∧ a2 ≤ 2147483647) (gp : Nat) (cgp : s_c gp = 6) (egp : gp = M0.2.2 0 4) (hp0 : b01 (APX M0 gp) = 1) (hp1 : b01 (LAW M0 gp) = 1) (hp2 : b01 (PRR (rwX M0 gp 12)) = 1) (hp3 : 0 ≤ (M0.1 12 6).toInt ∧ (M0.1 12 6).toInt ≤ 1000000) : Ci l 6 yX11_season wsX11_season dC dI ad cA [.ref (ad 0), .int (sI a1), .int (sI a2)] M0 (fun r M' => ∃ a : Int, r = sI a ∧ INV pr Kz M' ∧ FX [12, 13, 14, 15, 16, 17, 18, 20, 21, 22, 23, 24, 25, 26, 27, 28, 29, 30, 31, 32, 33, 34, 35, 36, 37, 38, 39, 40, 41, 42, 43, 44, 45, 46, 47, 48, 49, 81, 82, 83, 84, 85, 86] M0 M' ∧ (-3) ≤ a ∧ a ≤ 40 ∧ (a = sqX (rwX M0 gp 12) a1 a2) ∧ (b01 (rwX M' gp 12 = sqR (rwX M0 gp 12) a1 a2) = 1) ∧ (b01 (APX M' gp) = 1) ∧ (b01 (RGP a M0 M' (skX M0 12)) = 1)) := by
  refine ci_of (cc := cX11_season) (maxL := 5) (ty := .int) (lv := [(0, .ref (ad 0)), (1, .int (sI a1)), (2, .int (sI a2))]) (by decide) rfl (fun r M' hp => rfl) (Nat.le_of_ble_eq_true rfl) rfl ?_
  intro p e s m args below meth c A Q C hret
  refine j_iload_n C 2 2 dX11_season_0 rfl rfl ?_
  refine y_iconst C dX11_season_1 ?_
  refine y_icmp_lt C 11 dX11_season_2 (by decide) (by exact ⟨⟨ha2.1, ha2.2⟩, ⟨(by decide), (by decide)⟩⟩) (fun h101 => ?_) (fun h101 => ?_)
  · refine y_bipush C dX11_season_11 rfl ?_
    have u102k := sqx_n (f := (rwX M0 gp 12)) (N := rwX M0 gp 12) (s := a1) (n := a2) (by omega) rfl
    have u102g := rgp_n (a := -3) (M := M0) (N := M0) (r := skX M0 12) (by exact (by decide)) (rg_s M0)
    exact hret _ _ _ _ dX11_season_13 ⟨(-3), rfl, hM0, FX.rf, by exact ⟨(by decide), ⟨(by decide), ⟨u102k.1.symm, ⟨u102k.2, ⟨hp0, u102g⟩⟩⟩⟩⟩⟩
  · refine j_iload_n C 2 2 dX11_season_5 rfl rfl ?_
    refine y_bipush C dX11_season_6 rfl ?_
    refine y_icmp_le C 14 dX11_season_8 (by decide) (by exact ⟨⟨ha2.1, ha2.2⟩, ⟨(by decide), (by decide)⟩⟩) (fun h103 => ?_) (fun h103 => ?_)
    · refine j_aload_n C 0 0 dX11_season_14 rfl rfl ?_
      refine y_getC C 10 15 fX11_season_40 rfl rfl ft_10_7 sm_10_7 rfl hM0 dX11_season_15 ?_
      refine j_aload_n C 0 0 dX11_season_18 rfl rfl ?_
      refine y_getC C 10 12 fX11_season_36 rfl rfl ft_10_6 sm_10_6 rfl hM0 dX11_season_19 ?_
      refine j_callVv C (d := 0) (As := [.ref (ad 12)]) (st := []) 15 (s_lt rfl rfl) (s_kc (c := 8) rfl rfl) (by decide) rfl (s2_X9_copyFrom hM0 hpr hq8_0) gX11_season_X9_copyFrom rfl hdX9_copyFrom (by decide) (Nat.le_of_ble_eq_true rfl) dX11_season_22 rfl (fun M105 h106 => ?_)
      obtain ⟨hM105, fM105, h107⟩ := h106
      refine j_aload_n C 0 0 dX11_season_25 rfl rfl ?_
      refine y_getC C 10 12 fX11_season_36 rfl rfl ft_10_6 sm_10_6 rfl hM105 dX11_season_26 ?_
      refine j_iload_n C 1 1 dX11_season_29 rfl rfl ?_
      refine y_putIF C 8 qX11_season_195 rfl rfl ft_8_8 sb_8_8 hM105 (PX.w hpr rfl rfl) dX11_season_30 (fun M108 eM108 hM108 => ?_)
      refine y_iconst C dX11_season_33 ?_
      refine j_istore_n C 3 [(3, .int (sI 0)), (0, .ref (ad 0)), (1, .int (sI a1)), (2, .int (sI a2))] dX11_season_34 rfl (by decide) rfl ?_
      refine y_iconst C dX11_season_35 ?_
      refine j_istore C 4 [(4, .int (sI 0)), (3, .int (sI 0)), (0, .ref (ad 0)), (1, .int (sI a1)), (2, .int (sI a2))] dX11_season_36 (by decide) rfl ?_
      have u109z := se_0 (uR (rwX M0 gp 12) 32 a1)
      have u109e : b01 (rwX M108 gp 12 = (seF (uR (rwX M0 gp 12) 32 a1) (0 : Int).toNat).1) = 1 := b01_i (((rx_32 cgp rfl eM108).trans (congrArg (fun q => uR q 32 a1) (rx_f (p := gp) (v := 12) (ple_f (p := gp) ((FX.rf.tr fM105 (by decide)) : FX [15, 16, 17] M0 M105) cgp (by decide)) (ske_n ((FX.rf.tr fM105 (by decide)) : FX [15, 16, 17] M0 M105) ⟨by decide, by decide, by decide⟩)))).trans (b01_e u109z.1))
      have u109A7 := hM0.rd (i := gp) (c := 6) (k := 7) cgp (show s_b 6 7 = (0, 900) from rfl)
      have u109A9 := hM0.rd (i := gp) (c := 6) (k := 9) cgp (show s_b 6 9 = (0, 900) from rfl)
      have u109A := apx_o (M := M0) (N := M108) (p := gp) (ple_f (p := gp) (((FX.rf.tr fM105 (by decide)).wI eM108 (by decide)) : FX [12, 15, 16, 17] M0 M108) cgp (by decide)) ((((FX.rf.tr fM105 (by decide)).wI eM108 (by decide)) : FX [12, 15, 16, 17] M0 M108).cell (by decide)) ((((FX.rf.tr fM105 (by decide)).wI eM108 (by decide)) : FX [12, 15, 16, 17] M0 M108).cell (by decide)) ((((FX.rf.tr fM105 (by decide)).wI eM108 (by decide)) : FX [12, 15, 16, 17] M0 M108).cell (by decide)) u109A7.1 u109A9.1 (by exact hp0)
      have u109g := rg_0 (M := M0) (N := M108) (((FX.rf.tr fM105 (by decide)).wI eM108 (by decide)) : FX [12, 15, 16, 17] M0 M108) (by decide) (by decide)
      have u109s := sk_b (B := M105) (N := M108) (v := 15) (r := skX M0 12) (ske_n ((FX.rf.wI eM108 (by decide)) : FX [12] M105 M108) ⟨by decide, by decide, by decide⟩) (by exact h107)
      have L132 : ∀ (n130 : Nat), ∀ (a133 : Int) (a134 : Int) (M135 : mm_M), (0 ≤ a133 ∧ a133 ≤ 40 ∧ 0 ≤ a134 ∧ a134 ≤ 40 ∧ (b01 (rwX M135 gp 12 = (seF (uR (rwX M0 gp 12) 32 a1) (a134).toNat).1) = 1) ∧ (a133 = (seF (uR (rwX M0 gp 12) 32 a1) (a134).toNat).2) ∧ (a133 ≤ a134) ∧ (a134 ≤ a2) ∧ (b01 (APX M135 gp) = 1) ∧ (b01 (RG0 M0 M135) = 1) ∧ (b01 (skX M135 15 = skX M0 12) = 1) ∧ (40 - a134) < (n130 : Int)) → INV pr Kz M135 → FX [12, 13, 14, 15, 16, 17, 18, 20, 21, 22, 23, 24, 25, 26, 27, 28, 29, 30, 31, 32, 33, 34, 35, 36, 37, 38, 39, 40, 41, 42, 43, 44, 45, 46, 47, 48, 49, 81, 82, 83, 84, 85, 86] M0 M135 → jj p l e (cn_R 6) s m args below meth c 0 0 Q 5 dC dI ad cA A M135 38 [(0, .ref (ad 0)), (2, .int (sI a2)), (3, .int (sI a133)), (4, .int (sI a134))] [] := by
        intro n130
        induction n130 with
        | zero =>
          intro a133 a134 M135 h136 hM135 fM135
          exfalso; (clear fM135 hM135 u109s u109g u109A u109A9 u109A7 u109e u109z hM108 eM108 h107 fM105 hM105 h103 h101 hret C hp3 hp2 hp1 hp0 egp cgp ha2 ha1 hq8_0 hpr hM0; omega)
        | succ n130 ih131 =>
          intro a133 a134 M135 h136 hM135 fM135
          refine j_iload C 3 dX11_season_38 rfl ?_
          refine j_iload_n C 1 2 dX11_season_40 rfl rfl ?_
          refine y_icmp_ge C 83 dX11_season_41 (by decide) (by exact ⟨⟨(by (clear fM135 hM135 ih131 u109s u109g u109A u109A9 u109A7 u109e u109z hM108 eM108 h107 fM105 hM105 hret C hp3 hp2 hp1 hp0 egp cgp ha1 hq8_0 hpr hM0; omega)), (by (clear fM135 hM135 ih131 u109s u109g u109A u109A9 u109A7 u109e u109z hM108 eM108 h107 fM105 hM105 hret C hp3 hp2 hp1 hp0 egp cgp ha1 hq8_0 hpr hM0; omega))⟩, ⟨ha2.1, ha2.2⟩⟩) (fun h138 => ?_) (fun h138 => ?_)
          · have u154x : a134 = a2 := by (clear fM135 hM135 ih131 u109s u109g u109A u109A9 u109A7 u109e u109z hM108 eM108 h107 fM105 hM105 h103 h101 hret C hp3 hp2 hp1 hp0 egp cgp ha2 ha1 hq8_0 hpr hM0; omega)
            have u154y : (seF (uR (rwX M0 gp 12) 32 a1) (a134).toNat).2 = (seF (uR (rwX M0 gp 12) 32 a1) (a2).toNat).2 := by rw [u154x]
            have u154z : b01 (rwX M135 gp 12 = (seF (uR (rwX M0 gp 12) 32 a1) (a2).toNat).1) = 1 := by rw [← u154x]; exact h136.2.2.2.2.1
            refine j_iload_n C 2 3 dX11_season_83 rfl rfl ?_
            refine y_if_ne C 101 dX11_season_84 (by decide) (by (clear u154z u154x h138 fM135 hM135 ih131 u109s u109g u109A u109A9 u109A7 u109e u109z hM108 eM108 h107 fM105 hM105 h103 h101 hret C hp3 hp2 hp1 hp0 egp cgp ha2 ha1 hq8_0 hpr hM0; omega)) (fun h155 => ?_) (fun h155 => ?_)
            · refine j_aload_n C 0 0 dX11_season_101 rfl rfl ?_
              refine y_getC C 10 18 fX11_season_46 rfl rfl ft_10_8 sm_10_8 rfl hM135 dX11_season_102 ?_
              refine j_aload_n C 0 0 dX11_season_105 rfl rfl ?_
              refine y_getC C 10 15 fX11_season_40 rfl rfl ft_10_7 sm_10_7 rfl hM135 dX11_season_106 ?_
              refine j_callVv C (d := 1) (As := [.ref (ad 15)]) (st := []) 18 (s_lt rfl rfl) (s_kc (c := 5) rfl rfl) (by decide) rfl (s2_X6_keep hM135 hpr hq8_0) gX11_season_X6_keep rfl hdX6_keep (by decide) (Nat.le_of_ble_eq_true rfl) dX11_season_109 rfl (fun M157 h158 => ?_)
              obtain ⟨hM157, fM157, h159⟩ := h158
              refine j_iload_n C 2 3 dX11_season_112 rfl rfl ?_
              have u160r : b01 (rwX M157 gp 12 = (seF (uR (rwX M0 gp 12) 32 a1) (a2).toNat).1) = 1 := by rw [(rx_f (p := gp) (v := 12) (ple_f (p := gp) ((FX.rf.tr fM157 (by decide)) : FX [18, 20, 21, 22, 23, 24, 25, 26, 27, 28, 29, 30, 31, 32, 33, 34, 35, 36, 37, 38, 39, 40, 41, 42, 43, 44, 45, 46, 47, 48, 49] M135 M157) cgp (by decide)) (ske_n ((FX.rf.tr fM157 (by decide)) : FX [18, 20, 21, 22, 23, 24, 25, 26, 27, 28, 29, 30, 31, 32, 33, 34, 35, 36, 37, 38, 39, 40, 41, 42, 43, 44, 45, 46, 47, 48, 49] M135 M157) ⟨by decide, by decide, by decide⟩))]; exact u154z
              have u160k := sqx_y (f := (rwX M0 gp 12)) (N := rwX M157 gp 12) (s := a1) (n := a2) (a := a133) (by exact ⟨(by (clear u160r h159 fM157 hM157 h155 u154z u154y u154x fM135 hM135 ih131 u109s u109g u109A u109A9 u109A7 u109e u109z hM108 eM108 h107 fM105 hM105 hret C hp3 hp2 hp1 hp0 egp cgp ha1 hq8_0 hpr hM0; omega)), h103⟩) (by (clear u160r h159 fM157 hM157 h155 u154z u154x h138 fM135 hM135 ih131 u109s u109g u109A u109A9 u109A7 u109e u109z hM108 eM108 h107 fM105 hM105 h103 h101 hret C hp3 hp2 hp1 hp0 egp cgp ha2 ha1 hq8_0 hpr hM0; omega)) (by (clear u160r h159 fM157 hM157 u154z u154x h138 fM135 hM135 ih131 u109s u109g u109A u109A9 u109A7 u109e u109z hM108 eM108 h107 fM105 hM105 h103 h101 hret C hp3 hp2 hp1 hp0 egp cgp ha2 ha1 hq8_0 hpr hM0; omega)) u160r
              have u160A7 := hM135.rd (i := gp) (c := 6) (k := 7) cgp (show s_b 6 7 = (0, 900) from rfl)
              have u160A9 := hM135.rd (i := gp) (c := 6) (k := 9) cgp (show s_b 6 9 = (0, 900) from rfl)
              have u160A := apx_o (M := M135) (N := M157) (p := gp) (ple_f (p := gp) ((FX.rf.tr fM157 (by decide)) : FX [18, 20, 21, 22, 23, 24, 25, 26, 27, 28, 29, 30, 31, 32, 33, 34, 35, 36, 37, 38, 39, 40, 41, 42, 43, 44, 45, 46, 47, 48, 49] M135 M157) cgp (by decide)) (((FX.rf.tr fM157 (by decide)) : FX [18, 20, 21, 22, 23, 24, 25, 26, 27, 28, 29, 30, 31, 32, 33, 34, 35, 36, 37, 38, 39, 40, 41, 42, 43, 44, 45, 46, 47, 48, 49] M135 M157).cell (by decide)) (((FX.rf.tr fM157 (by decide)) : FX [18, 20, 21, 22, 23, 24, 25, 26, 27, 28, 29, 30, 31, 32, 33, 34, 35, 36, 37, 38, 39, 40, 41, 42, 43, 44, 45, 46, 47, 48, 49] M135 M157).cell (by decide)) (((FX.rf.tr fM157 (by decide)) : FX [18, 20, 21, 22, 23, 24, 25, 26, 27, 28, 29, 30, 31, 32, 33, 34, 35, 36, 37, 38, 39, 40, 41, 42, 43, 44, 45, 46, 47, 48, 49] M135 M157).cell (by decide)) u160A7.1 u160A9.1 (by exact h136.2.2.2.2.2.2.2.2.1)
              have u160z := rg_z (M := M0) (B := M135) (N := M157) (r := skX M135 15) (r' := skX M0 12) (by exact h136.2.2.2.2.2.2.2.2.2.1) (b01_e (by exact h136.2.2.2.2.2.2.2.2.2.2.1)) (by exact h159)
              have u160g := rgp_y (a := a133) (r := skX M0 12) (by (clear u160z u160A u160A9 u160A7 u160r h159 fM157 hM157 u154z u154x h138 fM135 hM135 ih131 u109s u109g u109A u109A9 u109A7 u109e u109z hM108 eM108 h107 fM105 hM105 h103 h101 hret C hp3 hp2 hp1 hp0 egp cgp ha2 ha1 hq8_0 hpr hM0; omega)) u160z
              exact hret _ _ _ _ dX11_season_113 ⟨a133, rfl, hM157, ((FX.rf.tr fM135 (by decide)).tr fM157 (by decide)), by exact ⟨(by (clear u160z u160A9 u160A7 u160r h159 fM157 hM157 h155 u154z u154x h138 fM135 hM135 ih131 u109s u109g u109A u109A9 u109A7 u109e u109z hM108 eM108 h107 fM105 hM105 h103 h101 hret C hp3 hp2 hp1 hp0 egp cgp ha2 ha1 hq8_0 hpr hM0; omega)), ⟨h136.2.1, ⟨u160k.1, ⟨u160k.2, ⟨u160A, u160g⟩⟩⟩⟩⟩⟩
            · refine j_aload_n C 0 0 dX11_season_87 rfl rfl ?_
              refine y_getC C 10 12 fX11_season_36 rfl rfl ft_10_6 sm_10_6 rfl hM135 dX11_season_88 ?_
              refine j_aload_n C 0 0 dX11_season_91 rfl rfl ?_
              refine y_getC C 10 15 fX11_season_40 rfl rfl ft_10_7 sm_10_7 rfl hM135 dX11_season_92 ?_
              refine j_callVv C (d := 0) (As := [.ref (ad 15)]) (st := []) 12 (s_lt rfl rfl) (s_kc (c := 8) rfl rfl) (by decide) rfl (s33_X9_copyFrom hM135 hpr hq8_0) gX11_season_X9_copyFrom rfl hdX9_copyFrom (by decide) (Nat.le_of_ble_eq_true rfl) dX11_season_95 rfl (fun M162 h163 => ?_)
              obtain ⟨hM162, fM162, h164⟩ := h163
              refine j_goto C 112 dX11_season_98 (by decide) ?_
              refine j_iload_n C 2 3 dX11_season_112 rfl rfl ?_
              have u165r : rwX M162 gp 12 = (rwX M0 gp 12) := rx_eq (M := M0) (N := M162) (p := gp) (v := 12) (w := 12) (ple_f (p := gp) (((FX.rf.tr fM135 (by decide)).tr fM162 (by decide)) : FX [12, 13, 14, 15, 16, 17, 18, 20, 21, 22, 23, 24, 25, 26, 27, 28, 29, 30, 31, 32, 33, 34, 35, 36, 37, 38, 39, 40, 41, 42, 43, 44, 45, 46, 47, 48, 49, 81, 82, 83, 84, 85, 86] M0 M162) cgp (by decide)) ((b01_e (P := skX M162 12 = skX M135 15) (by exact h164)).trans (b01_e (by exact h136.2.2.2.2.2.2.2.2.2.2.1)))
              have u165k := sqx_z (f := (rwX M0 gp 12)) (N := rwX M162 gp 12) (s := a1) (n := a2) (a := a133) (by exact ⟨(by omega), h103⟩) (by omega) (by (clear u165r h164 fM162 hM162 u154z u154x h138 fM135 hM135 ih131 u109s u109g u109A u109A9 u109A7 u109e u109z hM108 eM108 h107 fM105 hM105 h103 h101 hret C hp3 hp2 hp1 hp0 egp cgp ha2 ha1 hq8_0 hpr hM0; omega)) u165r
              have u165A7 := hM135.rd (i := gp) (c := 6) (k := 7) cgp (show s_b 6 7 = (0, 900) from rfl)
              have u165A9 := hM135.rd (i := gp) (c := 6) (k := 9) cgp (show s_b 6 9 = (0, 900) from rfl)
              have u165A := apx_o (M := M135) (N := M162) (p := gp) (ple_f (p := gp) ((FX.rf.tr fM162 (by decide)) : FX [12, 13, 14] M135 M162) cgp (by decide)) (((FX.rf.tr fM162 (by decide)) : FX [12, 13, 14] M135 M162).cell (by decide)) (((FX.rf.tr fM162 (by decide)) : FX [12, 13, 14] M135 M162).cell (by decide)) (((FX.rf.tr fM162 (by decide)) : FX [12, 13, 14] M135 M162).cell (by decide)) u165A7.1 u165A9.1 (by exact h136.2.2.2.2.2.2.2.2.1)
              have u165g := rgp_n (a := a133) (M := M0) (N := M162) (r := skX M0 12) (by (clear u165A u165A9 u165A7 u165k u165r h164 fM162 hM162 u154z u154x h138 fM135 hM135 ih131 u109s u109g u109A u109A9 u109A7 u109e u109z hM108 eM108 h107 fM105 hM105 h103 h101 hret C hp3 hp2 hp1 hp0 egp cgp ha2 ha1 hq8_0 hpr hM0; omega)) (rg_c (M := M0) (B := M135) (N := M162) (by exact h136.2.2.2.2.2.2.2.2.2.1) ((FX.rf.tr fM162 (by decide)) : FX [12, 13, 14] M135 M162) (by decide) (by decide))
              exact hret _ _ _ _ dX11_season_113 ⟨a133, rfl, hM162, ((FX.rf.tr fM135 (by decide)).tr fM162 (by decide)), by exact ⟨(by (clear u165A9 u165A7 u165r h164 fM162 hM162 u154z u154x h138 fM135 hM135 ih131 u109s u109g u109A u109A9 u109A7 u109e u109z hM108 eM108 h107 fM105 hM105 h103 h101 hret C hp3 hp2 hp1 hp0 egp cgp ha2 ha1 hq8_0 hpr hM0; omega)), ⟨h136.2.1, ⟨u165k.1, ⟨u165k.2, ⟨u165A, u165g⟩⟩⟩⟩⟩⟩
          · refine j_aload_n C 0 0 dX11_season_44 rfl rfl ?_
            refine y_getC C 10 87 fX11_season_85 rfl rfl ft_10_13 sm_10_13 rfl hM135 dX11_season_45 ?_
            refine j_aload_n C 0 0 dX11_season_48 rfl rfl ?_
            refine y_getV C 10 gp fX11_season_26 rfl rfl ft_10_4 (s_pX fM135 (egp)) dX11_season_49 ?_
            refine j_aload_n C 0 0 dX11_season_52 rfl rfl ?_
            refine y_getC C 10 12 fX11_season_36 rfl rfl ft_10_6 sm_10_6 rfl hM135 dX11_season_53 ?_
            refine j_aload_n C 0 0 dX11_season_56 rfl rfl ?_
            refine y_getC C 10 87 fX11_season_85 rfl rfl ft_10_13 sm_10_13 rfl hM135 dX11_season_57 ?_
            refine j_aload_n C 0 0 dX11_season_60 rfl rfl ?_
            refine y_getC C 10 12 fX11_season_36 rfl rfl ft_10_6 sm_10_6 rfl hM135 dX11_season_61 ?_
            refine j_callVi C (d := 1) (As := [.ref (ad 12)]) (st := [.ref (ad 12), .ref (ad gp), .ref (ad 87)]) 87 (s_lt rfl rfl) (s_kc (c := 1) rfl rfl) (by decide) rfl (s2_X1_drawDeed hM135 hpr gp cgp) gX11_season_X1_drawDeed rfl hdX1_drawDeed (by decide) (Nat.le_of_ble_eq_true rfl) dX11_season_64 rfl (fun r139 M140 h141 => ?_)
            obtain ⟨a143, rfl, hM140, fM140, h142⟩ := h141
            have u144e : rwX M135 gp 12 = (seF (uR (rwX M0 gp 12) 32 a1) (a134).toNat).1 := b01_e (by exact h136.2.2.2.2.1)
            have u144d : rwX M140 gp 12 = dnS (seF (uR (rwX M0 gp 12) 32 a1) (a134).toNat).1 := (b01_e (P := rwX M140 gp 12 = dnS (rwX M135 gp 12)) (by exact h142.2.2.2)).trans (congrArg dnS u144e)
            have u144q : (M140.1 12 6).toInt = ((seF (uR (rwX M0 gp 12) 32 a1) (a134).toNat).1 30).toInt := by rw [show M140.1 12 6 = rwX M140 gp 12 30 from rfl, u144d, dn_lo (by decide)]
            have u144i : ((uR (rwX M0 gp 12) 32 a1) 30).toInt = (M0.1 12 6).toInt := rfl
            have u144h := se_gf (f := (uR (rwX M0 gp 12) 32 a1)) (by (clear u144q u144d u144e h142 fM140 hM140 h138 fM135 hM135 h136 ih131 u109s u109g u109A u109A9 u109A7 u109e u109z hM108 eM108 h107 fM105 hM105 h103 h101 hret C hp2 hp1 hp0 egp cgp ha2 ha1 hq8_0 hpr hM0; omega)) (by (clear u144q u144d u144e h142 fM140 hM140 h138 fM135 hM135 h136 ih131 u109s u109g u109A u109A9 u109A7 u109e u109z hM108 eM108 h107 fM105 hM105 h103 h101 hret C hp2 hp1 hp0 egp cgp ha2 ha1 hq8_0 hpr hM0; omega)) (a134).toNat (by (clear u144i u144q u144d u144e h142 fM140 hM140 h138 fM135 hM135 ih131 u109s u109g u109A u109A9 u109A7 u109e u109z hM108 eM108 h107 fM105 hM105 h103 h101 hret C hp3 hp2 hp1 hp0 egp cgp ha2 ha1 hq8_0 hpr hM0; omega))
            have u144P : b01 (PRR (rwX M140 gp 12)) = 1 := by rw [u144d]; exact b01_i (prr_dn (prr_se (prr_u (b01_e (P := PRR (rwX M0 gp 12)) (by exact hp2)) (by decide)) _))
            have u144L7 := hM0.rd (i := gp) (c := 6) (k := 7) cgp (show s_b 6 7 = (0, 900) from rfl)
            have u144L9 := hM0.rd (i := gp) (c := 6) (k := 9) cgp (show s_b 6 9 = (0, 900) from rfl)
            have u144L := law_p (M := M0) (N := M140) (p := gp) (ple_f (p := gp) (((FX.rf.tr fM135 (by decide)).tr fM140 (by decide)) : FX [12, 13, 14, 15, 16, 17, 18, 20, 21, 22, 23, 24, 25, 26, 27, 28, 29, 30, 31, 32, 33, 34, 35, 36, 37, 38, 39, 40, 41, 42, 43, 44, 45, 46, 47, 48, 49, 81, 82, 83, 84, 85, 86] M0 M140) cgp (by decide)) u144L7.1 u144L9.1 (by exact hp1)
            have u144A7 := hM135.rd (i := gp) (c := 6) (k := 7) cgp (show s_b 6 7 = (0, 900) from rfl)
            have u144A9 := hM135.rd (i := gp) (c := 6) (k := 9) cgp (show s_b 6 9 = (0, 900) from rfl)
            have u144A := apx_o (M := M135) (N := M140) (p := gp) (ple_f (p := gp) ((FX.rf.tr fM140 (by decide)) : FX [12] M135 M140) cgp (by decide)) (((FX.rf.tr fM140 (by decide)) : FX [12] M135 M140).cell (by decide)) (((FX.rf.tr fM140 (by decide)) : FX [12] M135 M140).cell (by decide)) (((FX.rf.tr fM140 (by decide)) : FX [12] M135 M140).cell (by decide)) u144A7.1 u144A9.1 (by exact h136.2.2.2.2.2.2.2.2.1)
            refine y_i2l C dX11_season_67 (by (clear u144A u144A9 u144A7 u144L u144L9 u144L7 u144P u144h u144i u144q u144d u144e fM140 hM140 h138 fM135 hM135 h136 ih131 u109s u109g u109A u109A9 u109A7 u109e u109z hM108 eM108 h107 fM105 hM105 h103 h101 hret C hp3 hp2 hp1 hp0 egp cgp ha2 ha1 hq8_0 hpr hM0; omega)) ?_
            refine j_callVi C (d := 5) (As := [.ref (ad gp), .ref (ad 12), .long (sJ a143)]) (st := []) 87 (s_lt rfl rfl) (s_kc (c := 1) rfl rfl) (by decide) rfl (s2_X1_carryOut hM140 hpr cgp a143 (by (clear u144A u144A9 u144A7 u144L u144L9 u144L7 u144P u144h u144i u144q u144d u144e fM140 hM140 h138 fM135 hM135 h136 ih131 u109s u109g u109A u109A9 u109A7 u109e u109z hM108 eM108 h107 fM105 hM105 h103 h101 hret C hp3 hp2 hp1 hp0 egp cgp ha2 ha1 hq8_0 hpr hM0; omega)) (by exact u144A) (by exact u144L) (by exact u144P) (by (clear u144A u144A9 u144A7 u144L u144L9 u144L7 u144P u144d u144e h142 fM140 hM140 fM135 hM135 ih131 u109s u109g u109A u109A9 u109A7 u109e u109z hM108 eM108 h107 fM105 hM105 hret C hp2 hp1 hp0 egp cgp ha1 hq8_0 hpr hM0; omega))) gX11_season_X1_carryOut rfl hdX1_carryOut (by decide) (Nat.le_of_ble_eq_true rfl) dX11_season_68 rfl (fun r145 M146 h147 => ?_)
            obtain ⟨a149, rfl, hM146, fM146, h148⟩ := h147
            refine y_if_lt C 77 dX11_season_71 (by decide) (by exact ⟨h148.1, h148.2.1⟩) (fun h151 => ?_) (fun h151 => ?_)
            · refine y_iinc C 3 [(4, .int (sI (a134 + 1))), (0, .ref (ad 0)), (2, .int (sI a2)), (3, .int (sI a133))] dX11_season_77 rfl (by decide) rfl ?_
              refine j_goto C 38 dX11_season_80 (by decide) ?_
              have u152w := seq_x (f := (uR (rwX M0 gp 12) 32 a1)) (g := rwX M135 gp 12) (h := rwX M140 gp 12) (N := rwX M146 gp 12) (x := a134) (x' := a134 + 1) (v := a143) (a := a149) (c := a133) (by exact h136.2.2.2.2.1) (by exact h142.2.2.2) (by exact h142.2.2.1) (by exact h148.2.2.2.1) (by exact h148.2.2.2.2.2) (by exact h136.2.2.2.2.2.1) (by (clear h151 h148 fM146 hM146 u144A u144A9 u144A7 u144L u144L9 u144L7 u144P u144h u144i u144q u144d u144e h142 fM140 hM140 h138 fM135 hM135 ih131 u109s u109g u109A u109A9 u109A7 u109e u109z hM108 eM108 h107 fM105 hM105 h103 h101 hret C hp3 hp2 hp1 hp0 egp cgp ha2 ha1 hq8_0 hpr hM0; omega))
              have u152w1 := u152w.1
              have u152w2 := u152w.2
              have u152g := rg_c (M := M0) (B := M135) (N := M146) (by exact h136.2.2.2.2.2.2.2.2.2.1) (((FX.rf.tr fM140 (by decide)).tr fM146 (by decide)) : FX [12, 13, 81, 82, 83, 84, 85, 86] M135 M146) (by decide) (by decide)
              have u152s := sk_b (B := M135) (N := M146) (v := 15) (r := skX M0 12) (ske_n (((FX.rf.tr fM140 (by decide)).tr fM146 (by decide)) : FX [12, 13, 81, 82, 83, 84, 85, 86] M135 M146) ⟨by decide, by decide, by decide⟩) (by exact h136.2.2.2.2.2.2.2.2.2.2.1)
              refine j_lv [1, 2, 3, 0] rfl ?_; exact ih131 a133 (a134 + 1) M146 (by exact ⟨h136.1, ⟨h136.2.1, ⟨(by (clear u152w1 fM146 hM146 u144A u144A9 u144A7 u144L u144L9 u144L7 u144P u144h u144i u144q u144d u144e h142 fM140 hM140 fM135 hM135 ih131 u109s u109g u109A u109A9 u109A7 u109e u109z hM108 eM108 h107 fM105 hM105 hret C hp3 hp2 hp1 hp0 egp cgp ha1 hq8_0 hpr hM0; omega)), ⟨(by (clear u152w1 fM146 hM146 u144A u144A9 u144A7 u144L u144L9 u144L7 u144P u144h u144i u144q u144d u144e h142 fM140 hM140 fM135 hM135 ih131 u109s u109g u109A u109A9 u109A7 u109e u109z hM108 eM108 h107 fM105 hM105 hret C hp3 hp2 hp1 hp0 egp cgp ha1 hq8_0 hpr hM0; omega)), ⟨u152w.1, ⟨(by (clear u152w1 fM146 hM146 u144A u144A9 u144A7 u144L u144L9 u144L7 u144P u144h u144i u144q u144d u144e h142 fM140 hM140 fM135 hM135 ih131 u109s u109g u109A u109A9 u109A7 u109e u109z hM108 eM108 h107 fM105 hM105 hret C hp3 hp2 hp1 hp0 egp cgp ha1 hq8_0 hpr hM0; omega)), ⟨(by (clear u152w1 fM146 hM146 u144A u144A9 u144A7 u144L u144L9 u144L7 u144P u144h u144i u144q u144d u144e h142 fM140 hM140 fM135 hM135 ih131 u109s u109g u109A u109A9 u109A7 u109e u109z hM108 eM108 h107 fM105 hM105 hret C hp3 hp2 hp1 hp0 egp cgp ha1 hq8_0 hpr hM0; omega)), ⟨(by (clear u152w1 fM146 hM146 u144A u144A9 u144A7 u144L u144L9 u144L7 u144P u144h u144i u144q u144d u144e h142 fM140 hM140 fM135 hM135 ih131 u109s u109g u109A u109A9 u109A7 u109e u109z hM108 eM108 h107 fM105 hM105 hret C hp3 hp2 hp1 hp0 egp cgp ha1 hq8_0 hpr hM0; omega)), ⟨h148.2.2.1, ⟨u152g, ⟨u152s, (by (clear u152w1 fM146 hM146 u144A u144A9 u144A7 u144L u144L9 u144L7 u144P u144h u144i u144q u144d u144e h142 fM140 hM140 fM135 hM135 ih131 u109s u109g u109A u109A9 u109A7 u109e u109z hM108 eM108 h107 fM105 hM105 hret C hp3 hp2 hp1 hp0 egp cgp ha1 hq8_0 hpr hM0; omega))⟩⟩⟩⟩⟩⟩⟩⟩⟩⟩⟩) hM146 (((FX.rf.tr fM135 (by decide)).tr fM140 (by decide)).tr fM146 (by decide))
            · refine y_iinc C 2 [(3, .int (sI (a133 + 1))), (0, .ref (ad 0)), (2, .int (sI a2)), (4, .int (sI a134))] dX11_season_74 rfl (by decide) rfl ?_
              refine y_iinc C 3 [(4, .int (sI (a134 + 1))), (3, .int (sI (a133 + 1))), (0, .ref (ad 0)), (2, .int (sI a2))] dX11_season_77 rfl (by decide) rfl ?_
              refine j_goto C 38 dX11_season_80 (by decide) ?_
              have u153w := seq_x (f := (uR (rwX M0 gp 12) 32 a1)) (g := rwX M135 gp 12) (h := rwX M140 gp 12) (N := rwX M146 gp 12) (x := a134) (x' := a134 + 1) (v := a143) (a := a149) (c := a133) (by exact h136.2.2.2.2.1) (by exact h142.2.2.2) (by exact h142.2.2.1) (by exact h148.2.2.2.1) (by exact h148.2.2.2.2.2) (by exact h136.2.2.2.2.2.1) (by omega)
              have u153w1 := u153w.1
              have u153w2 := u153w.2
              have u153g := rg_c (M := M0) (B := M135) (N := M146) (by exact h136.2.2.2.2.2.2.2.2.2.1) (((FX.rf.tr fM140 (by decide)).tr fM146 (by decide)) : FX [12, 13, 81, 82, 83, 84, 85, 86] M135 M146) (by decide) (by decide)
              have u153s := sk_b (B := M135) (N := M146) (v := 15) (r := skX M0 12) (ske_n (((FX.rf.tr fM140 (by decide)).tr fM146 (by decide)) : FX [12, 13, 81, 82, 83, 84, 85, 86] M135 M146) ⟨by decide, by decide, by decide⟩) (by exact h136.2.2.2.2.2.2.2.2.2.2.1)
              refine j_lv [2, 3, 1, 0] rfl ?_; exact ih131 (a133 + 1) (a134 + 1) M146 (by (clear u153w1 fM146 hM146 u144A u144A9 u144A7 u144L u144L9 u144L7 u144P u144h u144i u144q u144d u144e h142 fM140 hM140 fM135 hM135 ih131 u109s u109g u109A u109A9 u109A7 u109e u109z hM108 eM108 h107 fM105 hM105 hret C hp3 hp2 hp1 hp0 egp cgp ha1 hq8_0 hpr hM0; omega)) hM146 (((FX.rf.tr fM135 (by decide)).tr fM140 (by decide)).tr fM146 (by decide))
      refine j_lv [2, 4, 1, 0] rfl ?_; exact L132 2010 0 0 M108 (by exact ⟨(by decide), ⟨(by decide), ⟨(by decide), ⟨(by decide), ⟨u109e, ⟨u109z.2.symm, ⟨(by decide), ⟨(by (clear L132 u109A9 u109A7 hM108 eM108 h107 fM105 hM105 hret C hp3 hp2 hp1 hp0 egp cgp ha1 hq8_0 hpr hM0; omega)), ⟨u109A, ⟨u109g, ⟨u109s, (by decide)⟩⟩⟩⟩⟩⟩⟩⟩⟩⟩⟩) hM108 ((FX.rf.tr fM105 (by decide)).wI eM108 (by decide))
    · refine y_bipush C dX11_season_11 rfl ?_
      have u166k := sqx_n (f := (rwX M0 gp 12)) (N := rwX M0 gp 12) (s := a1) (n := a2) (by omega) rfl
      have u166g := rgp_n (a := -3) (M := M0) (N := M0) (r := skX M0 12) (by exact (by decide)) (rg_s M0)
      exact hret _ _ _ _ dX11_season_13 ⟨(-3), rfl, hM0, FX.rf, by exact ⟨(by decide), ⟨(by decide), ⟨u166k.1.symm, ⟨u166k.2, ⟨hp0, u166g⟩⟩⟩⟩⟩⟩
end
