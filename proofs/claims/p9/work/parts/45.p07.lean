set_option maxHeartbeats 4000000 in
theorem s1_X12_readFlag {l : Launch} {dC : Nat → ClassId} {dI : Nat → Nat → Nat} {ad : Nat → Nat} {cA : Nat → ClassId} {pr : Nat → Nat → Bool} {Kz : mm_M} {M0 : mm_M} (hM0 : INV pr Kz M0) (hpr : PM pr) (a1 : Int) (ha1 : -2147483648 ≤ a1 ∧ a1 ≤ 2147483647) (gf : Nat → Int) (gn : Int) (gi : Int) (hp0 : b01 (RIP M0) = 1) (hp1 : b01 (KV M0 a1) = 1) (hp2 : (M0.1 98 11).toInt = 0) (hp3 : 0 ≤ a1 ∧ a1 ≤ 7) (hp4 : b01 (TKM gf gn M0) = 1) (hp5 : b01 (PO gn gi (M0.1 98 11).toInt (M0.1 98 6).toInt) = 1) (hp6 : b01 (PI M0) = 1) : Ci l 7 yX12_readFlag wsX12_readFlag dC dI ad cA [.ref (ad 98), .int (sI a1)] M0 (fun r M' => ∃ a : Int, r = sI a ∧ INV pr Kz M' ∧ FR [98, 102] M0 M' ∧ 0 ≤ a ∧ a ≤ 1 ∧ (b01 (RIP M') = 1) ∧ ((M'.1 98 8).toInt = (M0.1 98 8).toInt) ∧ ((M0.1 98 6).toInt ≤ (M'.1 98 6).toInt) ∧ (b01 (KV M' a1) = 1) ∧ (a = 0 ∨ a = 1 ∧ (M'.1 98 11).toInt = 0 ∧ (M0.1 98 6).toInt + 1 ≤ (M'.1 98 6).toInt) ∧ ((M'.1 102 26).toInt = (M0.1 102 26).toInt ∧ (M'.1 102 1).toInt = (M0.1 102 1).toInt ∧ (M'.1 102 0).toInt = (M0.1 102 0).toInt) ∧ (a = 1 ∧ (M'.1 98 11).toInt = 0 ∧ b01 (fgQ gf gn gi) = 1 ∨ a = 0 ∧ (¬ (M'.1 98 11).toInt = 0 ∨ b01 (fgQ gf gn gi) = 0)) ∧ (b01 (CT AGR (M'.1 98 11).toInt M0 M' (fgC gf gn a1 gi)) = 1) ∧ (b01 (PI M') = 1) ∧ (b01 (TKM gf gn M') = 1) ∧ b01 (RR ((tfP gf gn) gi) (M0.1 98 11).toInt (M0.1 98 12).toInt (M'.1 98 11).toInt (M'.1 98 12).toInt (M'.1 98 6).toInt) = 1) := by
  refine ci_of (cc := cX12_readFlag) (maxL := 2) (ty := .boolean) (lv := [(0, .ref (ad 98)), (1, .int (sI a1))]) (by decide) rfl (fun r M' hp => by obtain ⟨a, rfl, -, h⟩ := hp; rcases (show a = 0 ∨ a = 1 by omega) with rfl | rfl <;> rfl) (Nat.le_of_ble_eq_true rfl) rfl ?_
  intro p e s m args below meth c A Q C hret
  have u101l := ri_l (M := M0) (by omega)
  refine j_aload_n C 0 0 dX12_readFlag_0 rfl rfl ?_
  refine y_iconst C dX12_readFlag_1 ?_
  have k102 := tkm_K (f := gf) (n := gn) (M := M0) (by omega)
  have k103 := kd_2 (kdk_3 gf gn (M0.1 98 6).toInt) (by omega)
  refine j_callVi C (d := 6) (As := [.int (sI 3)]) (st := []) 98 (s_lt rfl rfl) (s_kc (c := 11) rfl rfl) (by decide) rfl (s1_X12_eats hM0 hpr 3 (by omega) gf gn gi (by omega) (by omega) (by omega) (by omega) (by omega)) gX12_readFlag_X12_eats rfl hdX12_eats (by decide) (Nat.le_of_ble_eq_true rfl) dX12_readFlag_2 rfl (fun r104 M105 h106 => ?_)
  obtain ⟨a108, rfl, hM105, fM105, h107⟩ := h106
  have k109 := tk_c gf gn (M105.1 98 6).toInt (M0.1 98 6).toInt
  have bM105 := tkm_b (f := gf) (n := gn) (M := M105) (by omega)
  have u110v := kv_c (M := M0) (N := M105) (k := a1) (FR.cell fM105 (by decide)) (by omega) (by omega)
  have u110l := ri_l (M := M105) (by omega)
  refine y_if_eq C 27 dX12_readFlag_5 (by decide) (by omega) (fun h111 => ?_) (fun h111 => ?_)
  · refine j_aload_n C 0 0 dX12_readFlag_27 rfl rfl ?_
    refine y_iconst C dX12_readFlag_28 ?_
    have p112 := po_eq gn gi (M0.1 98 11).toInt (M0.1 98 6).toInt (M105.1 98 11).toInt (M105.1 98 6).toInt (by omega) (by omega) (by omega)
    have k113 := tkm_K (f := gf) (n := gn) (M := M105) (by omega)
    have k114 := kd_2 (kdk_4 gf gn (M105.1 98 6).toInt) (by omega)
    refine j_callVi C (d := 6) (As := [.int (sI 4)]) (st := []) 98 (s_lt rfl rfl) (s_kc (c := 11) rfl rfl) (by decide) rfl (s1_X12_eats hM105 hpr 4 (by omega) gf gn gi (by omega) (by omega) (by omega) (by omega) (by omega)) gX12_readFlag_X12_eats rfl hdX12_eats (by decide) (Nat.le_of_ble_eq_true rfl) dX12_readFlag_29 rfl (fun r115 M116 h117 => ?_)
    obtain ⟨a119, rfl, hM116, fM116, h118⟩ := h117
    have k120 := tk_c gf gn (M116.1 98 6).toInt (M105.1 98 6).toInt
    have bM116 := tkm_b (f := gf) (n := gn) (M := M116) (by omega)
    have u121v := kv_c (M := M105) (N := M116) (k := a1) (FR.cell fM116 (by decide)) (by omega) (by omega)
    have u121l := ri_l (M := M116) (by omega)
    refine y_if_eq C 51 dX12_readFlag_32 (by decide) (by omega) (fun h122 => ?_) (fun h122 => ?_)
    · refine j_aload_n C 0 0 dX12_readFlag_51 rfl rfl ?_
      refine y_iconst C dX12_readFlag_52 ?_
      have p123 := po_eq gn gi (M105.1 98 11).toInt (M105.1 98 6).toInt (M116.1 98 11).toInt (M116.1 98 6).toInt (by omega) (by omega) (by omega)
      have k124 := tkm_K (f := gf) (n := gn) (M := M116) (by omega)
      have k125 := kd_2 (kdk_5 gf gn (M116.1 98 6).toInt) (by omega)
      refine j_callVi C (d := 6) (As := [.int (sI 5)]) (st := []) 98 (s_lt rfl rfl) (s_kc (c := 11) rfl rfl) (by decide) rfl (s1_X12_eats hM116 hpr 5 (by omega) gf gn gi (by omega) (by omega) (by omega) (by omega) (by omega)) gX12_readFlag_X12_eats rfl hdX12_eats (by decide) (Nat.le_of_ble_eq_true rfl) dX12_readFlag_53 rfl (fun r126 M127 h128 => ?_)
      obtain ⟨a130, rfl, hM127, fM127, h129⟩ := h128
      have k131 := tk_c gf gn (M127.1 98 6).toInt (M116.1 98 6).toInt
      have bM127 := tkm_b (f := gf) (n := gn) (M := M127) (by omega)
      have u132v := kv_c (M := M116) (N := M127) (k := a1) (FR.cell fM127 (by decide)) (by omega) (by omega)
      have u132l := ri_l (M := M127) (by omega)
      refine y_if_eq C 75 dX12_readFlag_56 (by decide) (by omega) (fun h133 => ?_) (fun h133 => ?_)
      · refine y_iconst C dX12_readFlag_75 ?_
        have u134q := tf_r0 gf gn gi (M0.1 98 11).toInt (M0.1 98 6).toInt (by omega) (by omega) (by (clear u132l u132v bM127 fM127 hM127 k124 p123 u121l u121v bM116 fM116 hM116 k113 p112 u110l u110v bM105 fM105 hM105 k102 u101l hret C hp6 hp5 hp4 hp3 hp1 hp0 ha1 hpr hM0; omega))
        have u134r := tf_0 gf gn gi (M0.1 98 11).toInt (M0.1 98 12).toInt (M0.1 98 6).toInt (M127.1 98 11).toInt (M127.1 98 12).toInt (M127.1 98 6).toInt (by omega) (by omega) (by (clear u134q u132l u132v bM127 fM127 hM127 k124 p123 u121l u121v bM116 fM116 hM116 k113 p112 u110l u110v bM105 fM105 hM105 k102 u101l hret C hp6 hp5 hp4 hp3 hp1 hp0 ha1 hpr hM0; omega)) (by (clear u134q h133 u132l u132v bM127 k131 fM127 hM127 k125 k124 p123 h122 u121l u121v bM116 k120 fM116 hM116 k114 k113 p112 h111 u110l u110v bM105 k109 fM105 hM105 k103 k102 u101l hret C hp6 hp5 hp4 hp3 hp2 hp1 hp0 ha1 hpr hM0; omega)) (by (clear u134q h133 u132l u132v bM127 k131 fM127 hM127 k125 k124 p123 h122 u121l u121v bM116 k120 fM116 hM116 k114 k113 p112 h111 u110l u110v bM105 k109 fM105 hM105 k103 k102 u101l hret C hp6 hp5 hp4 hp3 hp2 hp1 hp0 ha1 hpr hM0; omega)) (by (clear u134q u132l u132v bM127 k131 fM127 hM127 k125 k124 p123 u121l u121v bM116 k120 fM116 hM116 k114 k113 p112 u110l u110v bM105 k109 fM105 hM105 k103 k102 u101l hret C hp6 hp5 hp4 hp3 hp2 hp1 hp0 ha1 hpr hM0; omega))
        have u134t := fgc_0 gf gn (A := AGR) (i := gi) (k := a1) (M := M0) (N := M127) (M127.1 98 11).toInt (agr_c (((FR.cell fM127 (by decide)).trans (FR.cell fM116 (by decide))).trans (FR.cell fM105 (by decide)))) (show b01 (PO gn gi (M0.1 98 11).toInt (M0.1 98 6).toInt) = 1 by omega) (by omega) (by (clear u134r u134q u132l u132v bM127 fM127 hM127 k124 p123 u121l u121v bM116 fM116 hM116 k113 p112 u110l u110v bM105 fM105 hM105 k102 u101l hret C hp6 hp5 hp4 hp3 hp1 hp0 ha1 hpr hM0; omega))
        have zz102_0 : (M127.1 102 0).toInt = (M0.1 102 0).toInt := s_fF fM105 (by decide) (s_fF fM116 (by decide) (s_fF fM127 (by decide) (rfl))); have zz102_1 : (M127.1 102 1).toInt = (M0.1 102 1).toInt := s_fF fM105 (by decide) (s_fF fM116 (by decide) (s_fF fM127 (by decide) (rfl))); have zz102_26 : (M127.1 102 26).toInt = (M0.1 102 26).toInt := s_fF fM105 (by decide) (s_fF fM116 (by decide) (s_fF fM127 (by decide) (rfl))); exact hret _ _ _ _ dX12_readFlag_76 ⟨0, rfl, hM127, (((FR.rf.tr fM105 (by decide)).tr fM116 (by decide)).tr fM127 (by decide)), by (clear h133 u132l bM127 k131 fM127 hM127 k125 k124 p123 h122 u121l u121v bM116 k120 fM116 hM116 k114 k113 p112 h111 u110l u110v bM105 k109 fM105 hM105 k103 k102 u101l hret C hp6 hp5 hp4 hp3 hp2 hp1 hp0 ha1 hpr hM0; omega)⟩
      · refine j_aload_n C 0 0 dX12_readFlag_59 rfl rfl ?_
        refine y_getC C 11 102 fX12_readFlag_24 rfl rfl ft_11_4 sm_11_4 rfl hM127 dX12_readFlag_60 ?_
        refine y_bipush C dX12_readFlag_63 rfl ?_
        refine j_dup2 C dX12_readFlag_65 rfl rfl ?_
        refine y_ialdH C 48 1181 rfl rfl rfl ak_48 an_48 rfl _ _ hM127 (hr_48_28_28 _ (by omega) (by omega)) dX12_readFlag_66 (by omega) (fun a135 ea135 la135 ua135 => ?_)
        obtain rfl : a135 = (M0.1 102 28).toInt := s_fF fM105 (by decide) (s_fF fM116 (by decide) (s_fF fM127 (by decide) (ea135)))
        refine y_iconst C dX12_readFlag_67 ?_
        refine j_iload_n C 1 1 dX12_readFlag_68 rfl rfl ?_
        refine e_shl1 C 7 128 dX12_readFlag_69 rfl (by decide) (by omega) (fun lb136 ub136 => ?_)
        refine e_iorN C 8 255 dX12_readFlag_70 rfl (by decide) (by omega) (fun lb137 ub137 ob137 => ?_)
        refine y_iastH C 48 1181 rfl rfl rfl ak_48 an_48 rfl _ _ hM127 (PM.w hpr rfl rfl) (hs_48_28_28 _ (by omega) (by omega)) dX12_readFlag_71 (by omega) (by omega) (fun M138 eM138 hM138 => ?_)
        have xM138 := tkm_w (f := gf) (n := gn) eM138 (by decide) (by decide) (by omega)
        have qM138 := po_eq gn (nxF gf gn gi) (M127.1 98 11).toInt (M127.1 98 6).toInt (M138.1 98 11).toInt (M138.1 98 6).toInt (by omega) (s_fa eM138 (by decide) rfl) (s_fa eM138 (by decide) rfl)
        have pM138 := pi_o eM138 (by decide) (by decide) (by omega)
        have u139v := kv_w (k := a1) eM138 (h4b hM127) (by decide) (by omega)
        have u139i := ri_c (M := M127) (N := M138) (wI_cell eM138 (by decide)) (by omega)
        have u139q6 : (M138.1 98 6).toInt = (M127.1 98 6).toInt := by rw [show M138.1 98 = M127.1 98 from wI_cell eM138 (by decide)]
        have u139q8 : (M138.1 98 8).toInt = (M127.1 98 8).toInt := by rw [show M138.1 98 = M127.1 98 from wI_cell eM138 (by decide)]
        have u139q11 : (M138.1 98 11).toInt = (M127.1 98 11).toInt := by rw [show M138.1 98 = M127.1 98 from wI_cell eM138 (by decide)]
        refine j_goto C 77 dX12_readFlag_72 (by decide) ?_
        refine j_aload_n C 0 0 dX12_readFlag_77 rfl rfl ?_
        refine y_getI C 11 _ _ fX12_readFlag_126 rfl rfl ft_11_11 sb_11_11 hM138 dX12_readFlag_78 (fun a140 ea140 la140 ua140 => ?_)
        obtain rfl : a140 = (M127.1 98 11).toInt := s_fa eM138 (by decide) (ea140)
        refine y_if_ne C 88 dX12_readFlag_81 (by decide) (by omega) (fun h142 => ?_) (fun h142 => ?_)
        · refine y_iconst C dX12_readFlag_88 ?_
          have u143w12 : (M138.1 98 12).toInt = (M127.1 98 12).toInt := by rw [show M138.1 98 = M127.1 98 from wI_cell eM138 (by decide)]
          have u143q := tf_r1 gf gn gi (M0.1 98 11).toInt (M0.1 98 6).toInt (by omega) (by omega) (by (clear u143w12 ua140 la140 ea140 u139q11 u139q8 u139q6 u139i u139v pM138 qM138 xM138 hM138 eM138 ob137 ub137 lb137 ub136 lb136 ua135 la135 ea135 u132l u132v bM127 k131 fM127 hM127 k125 k124 p123 h122 u121l u121v bM116 k120 h118 fM116 hM116 k114 k113 p112 h111 u110l u110v bM105 k109 h107 fM105 hM105 k103 k102 u101l hret C hp6 hp5 hp4 hp3 hp2 hp1 hp0 ha1 hpr hM0; omega))
          have u143r := tf_2 gf gn gi (M0.1 98 11).toInt (M0.1 98 12).toInt (M0.1 98 6).toInt (M127.1 98 11).toInt (M127.1 98 12).toInt (M127.1 98 6).toInt (M138.1 98 11).toInt (M138.1 98 12).toInt (M138.1 98 6).toInt (by omega) (by omega) (by omega) (by omega) (by omega) (by omega) (by omega) (by omega) (by omega)
          have u143t := fgm_3 gf gn (i := gi) (k := a1) (y := (M0.1 102 28).toInt) (M := M0) (M2 := M127) (N := M138) (M138.1 98 11).toInt (agr_c (((FR.cell fM127 (by decide)).trans (FR.cell fM116 (by decide))).trans (FR.cell fM105 (by decide)))) (fun q T h => agr_w eM138 (by omega) q T h) (by first | omega | rw [show M127.1 102 = M0.1 102 from (((FR.cell fM127 (by decide)).trans (FR.cell fM116 (by decide))).trans (FR.cell fM105 (by decide)))]) (show b01 (PO gn gi (M0.1 98 11).toInt (M0.1 98 6).toInt) = 1 by omega) (by omega) (by omega)
          have zz102_0 : (M138.1 102 0).toInt = (M0.1 102 0).toInt := s_fF fM105 (by decide) (s_fF fM116 (by decide) (s_fF fM127 (by decide) (s_fb eM138 (by decide) (rfl)))); have zz102_1 : (M138.1 102 1).toInt = (M0.1 102 1).toInt := s_fF fM105 (by decide) (s_fF fM116 (by decide) (s_fF fM127 (by decide) (s_fb eM138 (by decide) (rfl)))); have zz102_26 : (M138.1 102 26).toInt = (M0.1 102 26).toInt := s_fF fM105 (by decide) (s_fF fM116 (by decide) (s_fF fM127 (by decide) (s_fb eM138 (by decide) (rfl)))); have zz98_11 : (M138.1 98 11).toInt = (M127.1 98 11).toInt := s_fa eM138 (by decide) (rfl); have zz98_12 : (M138.1 98 12).toInt = (M127.1 98 12).toInt := s_fa eM138 (by decide) (rfl); have zz98_6 : (M138.1 98 6).toInt = (M127.1 98 6).toInt := s_fa eM138 (by decide) (rfl); have zz98_8 : (M138.1 98 8).toInt = (M127.1 98 8).toInt := s_fa eM138 (by decide) (rfl); exact hret _ _ _ _ dX12_readFlag_89 ⟨0, rfl, hM138, ((((FR.rf.tr fM105 (by decide)).tr fM116 (by decide)).tr fM127 (by decide)).wI eM138 (by decide)), by omega⟩
        · refine y_iconst C dX12_readFlag_84 ?_
          refine j_goto C 89 dX12_readFlag_85 (by decide) ?_
          have u144w12 : (M138.1 98 12).toInt = (M127.1 98 12).toInt := by rw [show M138.1 98 = M127.1 98 from wI_cell eM138 (by decide)]
          have u144q := tf_r1 gf gn gi (M0.1 98 11).toInt (M0.1 98 6).toInt (by omega) (by omega) (by (clear u144w12 h142 ua140 la140 ea140 u139q11 u139q8 u139q6 u139i u139v pM138 qM138 xM138 hM138 eM138 ob137 ub137 lb137 ub136 lb136 ua135 la135 ea135 u132l u132v bM127 k131 fM127 hM127 k124 p123 u121l u121v bM116 fM116 hM116 k114 k113 p112 u110l u110v bM105 fM105 hM105 k103 k102 u101l hret C hp6 hp5 hp4 hp3 hp2 hp1 hp0 ha1 hpr hM0; omega))
          have u144r := tf_2 gf gn gi (M0.1 98 11).toInt (M0.1 98 12).toInt (M0.1 98 6).toInt (M127.1 98 11).toInt (M127.1 98 12).toInt (M127.1 98 6).toInt (M138.1 98 11).toInt (M138.1 98 12).toInt (M138.1 98 6).toInt (by omega) (by omega) (by (clear u144q u144w12 h142 ua140 la140 ea140 u139q11 u139q8 u139q6 u139i u139v pM138 qM138 xM138 hM138 eM138 ob137 ub137 lb137 ub136 lb136 ua135 la135 ea135 u132l u132v bM127 k131 fM127 hM127 k124 p123 u121l u121v bM116 fM116 hM116 k114 k113 p112 u110l u110v bM105 fM105 hM105 k103 k102 u101l hret C hp6 hp5 hp4 hp3 hp2 hp1 hp0 ha1 hpr hM0; omega)) (by omega) (by (clear u144q u144w12 h142 ua140 la140 ea140 u139q11 u139q8 u139q6 u139i u139v pM138 qM138 xM138 hM138 eM138 ob137 ub137 lb137 ub136 lb136 ua135 la135 ea135 h133 u132l u132v bM127 k131 fM127 hM127 k125 k124 p123 h122 u121l u121v bM116 k120 fM116 hM116 k114 k113 p112 h111 u110l u110v bM105 k109 fM105 hM105 k103 k102 u101l hret C hp6 hp5 hp4 hp3 hp2 hp1 hp0 ha1 hpr hM0; omega)) (by omega) (by omega) (by omega) (by omega)
          have u144t := fgm_3 gf gn (i := gi) (k := a1) (y := (M0.1 102 28).toInt) (M := M0) (M2 := M127) (N := M138) (M138.1 98 11).toInt (agr_c (((FR.cell fM127 (by decide)).trans (FR.cell fM116 (by decide))).trans (FR.cell fM105 (by decide)))) (fun q T h => agr_w eM138 (by omega) q T h) (by first | omega | rw [show M127.1 102 = M0.1 102 from (((FR.cell fM127 (by decide)).trans (FR.cell fM116 (by decide))).trans (FR.cell fM105 (by decide)))]) (show b01 (PO gn gi (M0.1 98 11).toInt (M0.1 98 6).toInt) = 1 by omega) (by omega) (by (clear u144r u144q u144w12 h142 ua140 la140 ea140 u139q11 u139q8 u139q6 u139i u139v pM138 qM138 xM138 hM138 eM138 ob137 ub137 lb137 ub136 lb136 ua135 la135 ea135 u132l u132v bM127 k131 fM127 hM127 k124 p123 u121l u121v bM116 fM116 hM116 k114 k113 p112 u110l u110v bM105 fM105 hM105 k103 k102 u101l hret C hp6 hp5 hp4 hp3 hp2 hp1 hp0 ha1 hpr hM0; omega))
          have zz102_0 : (M138.1 102 0).toInt = (M0.1 102 0).toInt := s_fF fM105 (by decide) (s_fF fM116 (by decide) (s_fF fM127 (by decide) (s_fb eM138 (by decide) (rfl)))); have zz102_1 : (M138.1 102 1).toInt = (M0.1 102 1).toInt := s_fF fM105 (by decide) (s_fF fM116 (by decide) (s_fF fM127 (by decide) (s_fb eM138 (by decide) (rfl)))); have zz102_26 : (M138.1 102 26).toInt = (M0.1 102 26).toInt := s_fF fM105 (by decide) (s_fF fM116 (by decide) (s_fF fM127 (by decide) (s_fb eM138 (by decide) (rfl)))); have zz98_11 : (M138.1 98 11).toInt = (M127.1 98 11).toInt := s_fa eM138 (by decide) (rfl); have zz98_12 : (M138.1 98 12).toInt = (M127.1 98 12).toInt := s_fa eM138 (by decide) (rfl); have zz98_6 : (M138.1 98 6).toInt = (M127.1 98 6).toInt := s_fa eM138 (by decide) (rfl); have zz98_8 : (M138.1 98 8).toInt = (M127.1 98 8).toInt := s_fa eM138 (by decide) (rfl); exact hret _ _ _ _ dX12_readFlag_89 ⟨1, rfl, hM138, ((((FR.rf.tr fM105 (by decide)).tr fM116 (by decide)).tr fM127 (by decide)).wI eM138 (by decide)), by (clear zz98_8 zz98_6 zz98_12 zz98_11 u144w12 h142 ua140 la140 ea140 qM138 hM138 eM138 ob137 ub137 lb137 ub136 lb136 ua135 la135 ea135 u132l u132v bM127 k131 fM127 hM127 k125 k124 p123 h122 u121l u121v bM116 k120 fM116 hM116 k114 k113 p112 h111 u110l u110v bM105 k109 fM105 hM105 k103 k102 u101l hret C hp6 hp5 hp4 hp3 hp2 hp1 hp0 ha1 hpr hM0; omega)⟩
    · refine j_aload_n C 0 0 dX12_readFlag_35 rfl rfl ?_
      refine y_getC C 11 102 fX12_readFlag_24 rfl rfl ft_11_4 sm_11_4 rfl hM116 dX12_readFlag_36 ?_
      refine y_bipush C dX12_readFlag_39 rfl ?_
      refine j_dup2 C dX12_readFlag_41 rfl rfl ?_
      refine y_ialdH C 48 1181 rfl rfl rfl ak_48 an_48 rfl _ _ hM116 (hr_48_27_27 _ (by omega) (by omega)) dX12_readFlag_42 (by omega) (fun a145 ea145 la145 ua145 => ?_)
      obtain rfl : a145 = (M0.1 102 27).toInt := s_fF fM105 (by decide) (s_fF fM116 (by decide) (ea145))
      refine y_iconst C dX12_readFlag_43 ?_
      refine j_iload_n C 1 1 dX12_readFlag_44 rfl rfl ?_
      refine e_shl1 C 7 128 dX12_readFlag_45 rfl (by decide) (by omega) (fun lb146 ub146 => ?_)
      refine e_iorN C 8 255 dX12_readFlag_46 rfl (by decide) (by omega) (fun lb147 ub147 ob147 => ?_)
      have u148e : (M0.1 102 27).toInt = (M116.1 102 27).toInt := by rw [(show M116.1 102 = M0.1 102 from ((FR.cell fM116 (by decide)).trans (FR.cell fM105 (by decide))))]
      refine y_iastH C 48 1181 rfl rfl rfl ak_48 an_48 rfl _ _ hM116 (PM.w hpr rfl rfl) (hs_48_27_27 _ (by omega) (by omega)) dX12_readFlag_47 (by omega) (by omega) (fun M149 eM149 hM149 => ?_)
      have xM149 := tkm_w (f := gf) (n := gn) eM149 (by decide) (by decide) (by omega)
      have qM149 := po_eq gn (nxF gf gn gi) (M116.1 98 11).toInt (M116.1 98 6).toInt (M149.1 98 11).toInt (M149.1 98 6).toInt (by omega) (s_fa eM149 (by decide) rfl) (s_fa eM149 (by decide) rfl)
      have pM149 := pi_o eM149 (by decide) (by decide) (by omega)
      have u150v := kv_s (k := a1) eM149 (by omega) (h4b hM116) (by omega) (by omega)
      have u150i := ri_c (M := M116) (N := M149) (wI_cell eM149 (by decide)) (by omega)
      have u150q6 : (M149.1 98 6).toInt = (M116.1 98 6).toInt := by rw [show M149.1 98 = M116.1 98 from wI_cell eM149 (by decide)]
      have u150q8 : (M149.1 98 8).toInt = (M116.1 98 8).toInt := by rw [show M149.1 98 = M116.1 98 from wI_cell eM149 (by decide)]
      have u150q11 : (M149.1 98 11).toInt = (M116.1 98 11).toInt := by rw [show M149.1 98 = M116.1 98 from wI_cell eM149 (by decide)]
      refine j_goto C 77 dX12_readFlag_48 (by decide) ?_
      refine j_aload_n C 0 0 dX12_readFlag_77 rfl rfl ?_
      refine y_getI C 11 _ _ fX12_readFlag_126 rfl rfl ft_11_11 sb_11_11 hM149 dX12_readFlag_78 (fun a151 ea151 la151 ua151 => ?_)
      obtain rfl : a151 = (M116.1 98 11).toInt := s_fa eM149 (by decide) (ea151)
      refine y_if_ne C 88 dX12_readFlag_81 (by decide) (by omega) (fun h153 => ?_) (fun h153 => ?_)
      · refine y_iconst C dX12_readFlag_88 ?_
        have u154w12 : (M149.1 98 12).toInt = (M116.1 98 12).toInt := by rw [show M149.1 98 = M116.1 98 from wI_cell eM149 (by decide)]
        have u154q := tf_r1 gf gn gi (M0.1 98 11).toInt (M0.1 98 6).toInt (by omega) (by omega) (by omega)
        have u154r := tf_2 gf gn gi (M0.1 98 11).toInt (M0.1 98 12).toInt (M0.1 98 6).toInt (M116.1 98 11).toInt (M116.1 98 12).toInt (M116.1 98 6).toInt (M149.1 98 11).toInt (M149.1 98 12).toInt (M149.1 98 6).toInt (by omega) (by omega) (by omega) (by omega) (by omega) (by omega) (by omega) (by omega) (by omega)
        have u154t := fgm_2 gf gn (i := gi) (k := a1) (y := (M0.1 102 27).toInt) (M := M0) (M2 := M116) (N := M149) (M149.1 98 11).toInt (agr_c ((FR.cell fM116 (by decide)).trans (FR.cell fM105 (by decide)))) (fun q T h => agr_w eM149 (by omega) q T h) (by first | omega | rw [show M116.1 102 = M0.1 102 from ((FR.cell fM116 (by decide)).trans (FR.cell fM105 (by decide)))]) (show b01 (PO gn gi (M0.1 98 11).toInt (M0.1 98 6).toInt) = 1 by omega) (by omega) (by omega)
        have zz102_0 : (M149.1 102 0).toInt = (M0.1 102 0).toInt := s_fF fM105 (by decide) (s_fF fM116 (by decide) (s_fb eM149 (by decide) (rfl))); have zz102_1 : (M149.1 102 1).toInt = (M0.1 102 1).toInt := s_fF fM105 (by decide) (s_fF fM116 (by decide) (s_fb eM149 (by decide) (rfl))); have zz102_26 : (M149.1 102 26).toInt = (M0.1 102 26).toInt := s_fF fM105 (by decide) (s_fF fM116 (by decide) (s_fb eM149 (by decide) (rfl))); have zz98_11 : (M149.1 98 11).toInt = (M116.1 98 11).toInt := s_fa eM149 (by decide) (rfl); have zz98_12 : (M149.1 98 12).toInt = (M116.1 98 12).toInt := s_fa eM149 (by decide) (rfl); have zz98_6 : (M149.1 98 6).toInt = (M116.1 98 6).toInt := s_fa eM149 (by decide) (rfl); have zz98_8 : (M149.1 98 8).toInt = (M116.1 98 8).toInt := s_fa eM149 (by decide) (rfl); exact hret _ _ _ _ dX12_readFlag_89 ⟨0, rfl, hM149, (((FR.rf.tr fM105 (by decide)).tr fM116 (by decide)).wI eM149 (by decide)), by omega⟩
      · refine y_iconst C dX12_readFlag_84 ?_
        refine j_goto C 89 dX12_readFlag_85 (by decide) ?_
        have u155w12 : (M149.1 98 12).toInt = (M116.1 98 12).toInt := by rw [show M149.1 98 = M116.1 98 from wI_cell eM149 (by decide)]
        have u155q := tf_r1 gf gn gi (M0.1 98 11).toInt (M0.1 98 6).toInt (by omega) (by omega) (by (clear u155w12 h153 ua151 la151 ea151 u150q11 u150q8 u150q6 u150i u150v pM149 qM149 xM149 hM149 eM149 u148e ob147 ub147 lb147 ub146 lb146 ua145 la145 ea145 u121l u121v bM116 k120 fM116 hM116 k113 p112 u110l u110v bM105 fM105 hM105 k103 k102 u101l hret C hp6 hp5 hp4 hp3 hp2 hp1 hp0 ha1 hpr hM0; omega))
        have u155r := tf_2 gf gn gi (M0.1 98 11).toInt (M0.1 98 12).toInt (M0.1 98 6).toInt (M116.1 98 11).toInt (M116.1 98 12).toInt (M116.1 98 6).toInt (M149.1 98 11).toInt (M149.1 98 12).toInt (M149.1 98 6).toInt (by omega) (by omega) (by omega) (by omega) (by omega) (by omega) (by omega) (by omega) (by omega)
        have u155t := fgm_2 gf gn (i := gi) (k := a1) (y := (M0.1 102 27).toInt) (M := M0) (M2 := M116) (N := M149) (M149.1 98 11).toInt (agr_c ((FR.cell fM116 (by decide)).trans (FR.cell fM105 (by decide)))) (fun q T h => agr_w eM149 (by omega) q T h) (by first | omega | rw [show M116.1 102 = M0.1 102 from ((FR.cell fM116 (by decide)).trans (FR.cell fM105 (by decide)))]) (show b01 (PO gn gi (M0.1 98 11).toInt (M0.1 98 6).toInt) = 1 by omega) (by omega) (by omega)
        have zz102_0 : (M149.1 102 0).toInt = (M0.1 102 0).toInt := s_fF fM105 (by decide) (s_fF fM116 (by decide) (s_fb eM149 (by decide) (rfl))); have zz102_1 : (M149.1 102 1).toInt = (M0.1 102 1).toInt := s_fF fM105 (by decide) (s_fF fM116 (by decide) (s_fb eM149 (by decide) (rfl))); have zz102_26 : (M149.1 102 26).toInt = (M0.1 102 26).toInt := s_fF fM105 (by decide) (s_fF fM116 (by decide) (s_fb eM149 (by decide) (rfl))); have zz98_11 : (M149.1 98 11).toInt = (M116.1 98 11).toInt := s_fa eM149 (by decide) (rfl); have zz98_12 : (M149.1 98 12).toInt = (M116.1 98 12).toInt := s_fa eM149 (by decide) (rfl); have zz98_6 : (M149.1 98 6).toInt = (M116.1 98 6).toInt := s_fa eM149 (by decide) (rfl); have zz98_8 : (M149.1 98 8).toInt = (M116.1 98 8).toInt := s_fa eM149 (by decide) (rfl); exact hret _ _ _ _ dX12_readFlag_89 ⟨1, rfl, hM149, (((FR.rf.tr fM105 (by decide)).tr fM116 (by decide)).wI eM149 (by decide)), by (clear zz98_8 zz98_6 zz98_12 zz98_11 u155w12 h153 ua151 la151 ea151 qM149 hM149 eM149 u148e ob147 ub147 lb147 ub146 lb146 ua145 la145 ea145 u121l u121v bM116 k120 fM116 hM116 k114 k113 p112 h111 u110l u110v bM105 k109 fM105 hM105 k103 k102 u101l hret C hp6 hp5 hp4 hp3 hp2 hp1 hp0 ha1 hpr hM0; omega)⟩
  · refine j_aload_n C 0 0 dX12_readFlag_8 rfl rfl ?_
    refine y_getC C 11 102 fX12_readFlag_24 rfl rfl ft_11_4 sm_11_4 rfl hM105 dX12_readFlag_9 ?_
    refine y_bipush C dX12_readFlag_12 rfl ?_
    refine j_iload_n C 1 1 dX12_readFlag_14 rfl rfl ?_
    refine y_iadd C dX12_readFlag_15 ?_
    refine j_aload_n C 0 0 dX12_readFlag_16 rfl rfl ?_
    refine y_iconst C dX12_readFlag_17 ?_
    refine y_bipush C dX12_readFlag_18 rfl ?_
    refine j_callVi C (d := 6) (As := [.int (sI 0), .int (sI 9)]) (st := [.int (sI (41 + a1)), .ref (ad 102)]) 98 (s_lt rfl rfl) (s_kc (c := 11) rfl rfl) (by decide) rfl (s1_X12_takes hM105 hpr 0 (by omega) 9 (by omega) gf gn (nxF gf gn gi) (by omega) (by omega) (by omega) (by omega) (by omega) (by omega)) gX12_readFlag_X12_takes rfl hdX12_takes (by decide) (Nat.le_of_ble_eq_true rfl) dX12_readFlag_20 rfl (fun r156 M157 h158 => ?_)
    obtain ⟨a160, rfl, hM157, fM157, h159⟩ := h158
    have bM157 := tkm_b (f := gf) (n := gn) (M := M157) (by omega)
    have qM157 := po_rr (nuP gf gn 0 9) gn (nxF gf gn gi) (M105.1 98 11).toInt (M105.1 98 12).toInt (M105.1 98 6).toInt (M157.1 98 11).toInt (M157.1 98 12).toInt (M157.1 98 6).toInt (nu_g gf gn 0 9) (by omega) (by omega)
    have u161v := kv_c (M := M105) (N := M157) (k := a1) (FR.cell fM157 (by decide)) (by omega) (by omega)
    have u161l := ri_l (M := M157) (by omega)
    refine y_iastH C 48 1181 rfl rfl rfl ak_48 an_48 rfl _ _ hM157 (PM.w hpr rfl rfl) (hs_48_41_48 _ (by omega) (by omega)) dX12_readFlag_23 (by omega) (by omega) (fun M162 eM162 hM162 => ?_)
    have xM162 := tkm_w (f := gf) (n := gn) eM162 (by decide) (by decide) (by omega)
    have qM162 := po_eq gn ((nuP gf gn 0 9) (nxF gf gn gi)).2.2 (M157.1 98 11).toInt (M157.1 98 6).toInt (M162.1 98 11).toInt (M162.1 98 6).toInt (by omega) (s_fa eM162 (by decide) rfl) (s_fa eM162 (by decide) rfl)
    have pM162 := pi_o eM162 (by decide) (by decide) (by omega)
    have u163v := kv_w (k := a1) eM162 (h4b hM157) (by omega) (by omega)
    have u163i := ri_c (M := M157) (N := M162) (wI_cell eM162 (by decide)) (by omega)
    have u163q6 : (M162.1 98 6).toInt = (M157.1 98 6).toInt := by rw [show M162.1 98 = M157.1 98 from wI_cell eM162 (by decide)]
    have u163q8 : (M162.1 98 8).toInt = (M157.1 98 8).toInt := by rw [show M162.1 98 = M157.1 98 from wI_cell eM162 (by decide)]
    have u163q11 : (M162.1 98 11).toInt = (M157.1 98 11).toInt := by rw [show M162.1 98 = M157.1 98 from wI_cell eM162 (by decide)]
    refine j_goto C 77 dX12_readFlag_24 (by decide) ?_
    refine j_aload_n C 0 0 dX12_readFlag_77 rfl rfl ?_
    refine y_getI C 11 _ _ fX12_readFlag_126 rfl rfl ft_11_11 sb_11_11 hM162 dX12_readFlag_78 (fun a164 ea164 la164 ua164 => ?_)
    obtain rfl : a164 = (M157.1 98 11).toInt := s_fa eM162 (by decide) (ea164)
    refine y_if_ne C 88 dX12_readFlag_81 (by decide) (by omega) (fun h166 => ?_) (fun h166 => ?_)
    · refine y_iconst C dX12_readFlag_88 ?_
      have u167w12 : (M162.1 98 12).toInt = (M157.1 98 12).toInt := by rw [show M162.1 98 = M157.1 98 from wI_cell eM162 (by decide)]
      have u167q := tf_r1 gf gn gi (M0.1 98 11).toInt (M0.1 98 6).toInt (by omega) (by omega) (by (clear u167w12 h166 ua164 la164 ea164 u163q11 u163q8 u163q6 u163i u163v pM162 qM162 xM162 hM162 eM162 u161l u161v qM157 bM157 h159 fM157 hM157 u110l u110v bM105 k109 fM105 hM105 k102 u101l hret C hp6 hp5 hp4 hp3 hp2 hp1 hp0 ha1 hpr hM0; omega))
      have u167r := tf_1 gf gn gi (M0.1 98 11).toInt (M0.1 98 12).toInt (M0.1 98 6).toInt (M105.1 98 11).toInt (M105.1 98 12).toInt (M157.1 98 11).toInt (M157.1 98 12).toInt (M157.1 98 6).toInt (M162.1 98 11).toInt (M162.1 98 12).toInt (M162.1 98 6).toInt (by omega) (by (clear u167q u167w12 h166 ua164 la164 ea164 u163q11 u163q8 u163q6 u163i u163v pM162 qM162 xM162 hM162 eM162 u161l u161v qM157 bM157 h159 fM157 hM157 u110l u110v bM105 k109 fM105 hM105 k102 u101l hret C hp6 hp5 hp4 hp3 hp2 hp1 hp0 ha1 hpr hM0; omega)) (by omega) (by (clear u167q u167w12 h166 ua164 la164 ea164 u163q11 u163q8 u163q6 u163i u163v pM162 qM162 xM162 hM162 eM162 u161l u161v qM157 bM157 h159 fM157 hM157 h111 u110l u110v bM105 k109 fM105 hM105 k103 k102 u101l hret C hp6 hp5 hp4 hp3 hp2 hp1 hp0 ha1 hpr hM0; omega)) (by omega) (by omega) (by omega) (by omega)
      have u167t := fgm_1 gf gn (a := (M162.1 98 11).toInt) (i := gi) (k := a1) (x := a160) (M := M0) (M2 := M157) (N := M162) (agr_c ((FR.cell fM157 (by decide)).trans (FR.cell fM105 (by decide)))) (fun q T h => agr_w (x := a160) eM162 (by omega) q T h) (show b01 (PO gn gi (M0.1 98 11).toInt (M0.1 98 6).toInt) = 1 by omega) (by omega) (by (clear u167r u167q u167w12 h166 ua164 la164 ea164 u163q11 u163q8 u163q6 u163i u163v pM162 qM162 xM162 hM162 eM162 u161l u161v qM157 bM157 h159 fM157 hM157 u110l u110v bM105 k109 fM105 hM105 k102 u101l hret C hp6 hp5 hp4 hp3 hp2 hp1 hp0 ha1 hpr hM0; omega)) (by omega)
      have zz102_0 : (M162.1 102 0).toInt = (M0.1 102 0).toInt := s_fF fM105 (by decide) (s_fF fM157 (by decide) (s_fb eM162 (by omega) (rfl))); have zz102_1 : (M162.1 102 1).toInt = (M0.1 102 1).toInt := s_fF fM105 (by decide) (s_fF fM157 (by decide) (s_fb eM162 (by omega) (rfl))); have zz102_26 : (M162.1 102 26).toInt = (M0.1 102 26).toInt := s_fF fM105 (by decide) (s_fF fM157 (by decide) (s_fb eM162 (by omega) (rfl))); have zz98_11 : (M162.1 98 11).toInt = (M157.1 98 11).toInt := s_fa eM162 (by decide) (rfl); have zz98_12 : (M162.1 98 12).toInt = (M157.1 98 12).toInt := s_fa eM162 (by decide) (rfl); have zz98_6 : (M162.1 98 6).toInt = (M157.1 98 6).toInt := s_fa eM162 (by decide) (rfl); have zz98_8 : (M162.1 98 8).toInt = (M157.1 98 8).toInt := s_fa eM162 (by decide) (rfl); exact hret _ _ _ _ dX12_readFlag_89 ⟨0, rfl, hM162, (((FR.rf.tr fM105 (by decide)).tr fM157 (by decide)).wI eM162 (by decide)), by (clear zz98_8 zz98_6 zz98_12 zz98_11 u167q u167w12 ua164 la164 ea164 qM162 hM162 eM162 u161l u161v qM157 bM157 fM157 hM157 h111 u110l u110v bM105 k109 fM105 hM105 k103 k102 u101l hret C hp6 hp5 hp4 hp3 hp2 hp1 hp0 ha1 hpr hM0; omega)⟩
    · refine y_iconst C dX12_readFlag_84 ?_
      refine j_goto C 89 dX12_readFlag_85 (by decide) ?_
      have u168w12 : (M162.1 98 12).toInt = (M157.1 98 12).toInt := by rw [show M162.1 98 = M157.1 98 from wI_cell eM162 (by decide)]
      have u168q := tf_r1 gf gn gi (M0.1 98 11).toInt (M0.1 98 6).toInt (by omega) (by omega) (by omega)
      have u168r := tf_1 gf gn gi (M0.1 98 11).toInt (M0.1 98 12).toInt (M0.1 98 6).toInt (M105.1 98 11).toInt (M105.1 98 12).toInt (M157.1 98 11).toInt (M157.1 98 12).toInt (M157.1 98 6).toInt (M162.1 98 11).toInt (M162.1 98 12).toInt (M162.1 98 6).toInt (by omega) (by omega) (by omega) (by omega) (by omega) (by omega) (by omega) (by omega)
      have u168t := fgm_1 gf gn (a := (M162.1 98 11).toInt) (i := gi) (k := a1) (x := a160) (M := M0) (M2 := M157) (N := M162) (agr_c ((FR.cell fM157 (by decide)).trans (FR.cell fM105 (by decide)))) (fun q T h => agr_w (x := a160) eM162 (by omega) q T h) (show b01 (PO gn gi (M0.1 98 11).toInt (M0.1 98 6).toInt) = 1 by omega) (by omega) (by omega) (by omega)
      have zz102_0 : (M162.1 102 0).toInt = (M0.1 102 0).toInt := s_fF fM105 (by decide) (s_fF fM157 (by decide) (s_fb eM162 (by omega) (rfl))); have zz102_1 : (M162.1 102 1).toInt = (M0.1 102 1).toInt := s_fF fM105 (by decide) (s_fF fM157 (by decide) (s_fb eM162 (by omega) (rfl))); have zz102_26 : (M162.1 102 26).toInt = (M0.1 102 26).toInt := s_fF fM105 (by decide) (s_fF fM157 (by decide) (s_fb eM162 (by omega) (rfl))); have zz98_11 : (M162.1 98 11).toInt = (M157.1 98 11).toInt := s_fa eM162 (by decide) (rfl); have zz98_12 : (M162.1 98 12).toInt = (M157.1 98 12).toInt := s_fa eM162 (by decide) (rfl); have zz98_6 : (M162.1 98 6).toInt = (M157.1 98 6).toInt := s_fa eM162 (by decide) (rfl); have zz98_8 : (M162.1 98 8).toInt = (M157.1 98 8).toInt := s_fa eM162 (by decide) (rfl); exact hret _ _ _ _ dX12_readFlag_89 ⟨1, rfl, hM162, (((FR.rf.tr fM105 (by decide)).tr fM157 (by decide)).wI eM162 (by decide)), by (clear zz98_8 zz98_6 zz98_12 zz98_11 u168w12 ua164 la164 ea164 qM162 hM162 eM162 u161l u161v qM157 bM157 fM157 hM157 h111 u110l u110v bM105 k109 fM105 hM105 k103 k102 u101l hret C hp6 hp5 hp4 hp3 hp2 hp1 hp0 ha1 hpr hM0; omega)⟩
set_option maxHeartbeats 4000000 in
theorem s1_X12_readKind {l : Launch} {dC : Nat → ClassId} {dI : Nat → Nat → Nat} {ad : Nat → Nat} {cA : Nat → ClassId} {pr : Nat → Nat → Bool} {Kz : mm_M} {M0 : mm_M} (hM0 : INV pr Kz M0) (hpr : PM pr) (gf : Nat → Int) (gn : Int) (gi : Int) (hp0 : b01 (RIP M0) = 1) (hp1 : b01 (LV M0) = 1) (hp2 : (M0.1 98 11).toInt = 0) (hp3 : tkF gf gn (M0.1 98 6).toInt = 1003) (hp4 : b01 (TKM gf gn M0) = 1) (hp5 : b01 (PO gn gi (M0.1 98 11).toInt (M0.1 98 6).toInt) = 1) (hp6 : b01 (PI M0) = 1) : Cv l 8 yX12_readKind wsX12_readKind dC dI ad cA [.ref (ad 98)] M0 (fun M' => INV pr Kz M' ∧ FR [98, 102] M0 M' ∧ (b01 (RIP M') = 1) ∧ ((M'.1 98 8).toInt = (M0.1 98 8).toInt) ∧ ((M0.1 98 6).toInt ≤ (M'.1 98 6).toInt) ∧ (b01 (LV M') = 1) ∧ (b01 (CK (M'.1 98 11).toInt (M'.1 102 26).toInt (M'.1 102 1).toInt (M'.1 102 0).toInt ((M0.1 102 26).toInt + 1) (M0.1 102 1).toInt (M0.1 102 0).toInt) = 1) ∧ (b01 (CT AGM (M'.1 98 11).toInt M0 M' (kiC gf gn (M0.1 102 26).toInt gi)) = 1) ∧ (b01 (PI M') = 1) ∧ (b01 (TKM gf gn M') = 1) ∧ b01 (RR ((kiP gf gn (M0.1 102 26).toInt) gi) (M0.1 98 11).toInt (M0.1 98 12).toInt (M'.1 98 11).toInt (M'.1 98 12).toInt (M'.1 98 6).toInt) = 1) := by
  refine cv_of (cc := cX12_readKind) (maxL := 2) (lv := [(0, .ref (ad 98))]) (by decide) rfl (Nat.le_of_ble_eq_true rfl) rfl ?_
  intro p e s m args below meth c A Q C hret
  have u101l := ri_l (M := M0) (by omega)
  have k102 := tkm_K (f := gf) (n := gn) (M := M0) (by omega)
  refine j_aload_n C 0 0 dX12_readKind_0 rfl rfl ?_
  refine y_getC C 11 102 fX12_readKind_24 rfl rfl ft_11_4 sm_11_4 rfl hM0 dX12_readKind_1 ?_
  refine y_bipush C dX12_readKind_4 rfl ?_
  refine y_ialdH C 48 1181 rfl rfl rfl ak_48 an_48 rfl _ _ hM0 (hr_48_26_26 _ (by omega) (by omega)) dX12_readKind_6 (by omega) (fun a103 ea103 la103 ua103 => ?_)
  obtain rfl : a103 = (M0.1 102 26).toInt := ea103
  refine j_istore_n C 1 [(1, .int (sI (M0.1 102 26).toInt)), (0, .ref (ad 98))] dX12_readKind_7 rfl (by decide) rfl ?_
  have u104k := kv_0 (M := M0) (k := (M0.1 102 26).toInt) rfl (by omega)
  refine j_iload_n C 0 1 dX12_readKind_8 rfl rfl ?_
  refine y_bipush C dX12_readKind_9 rfl ?_
  refine y_icmp_ne C 19 dX12_readKind_11 (by decide) (by omega) (fun h105 => ?_) (fun h105 => ?_)
  · refine j_aload_n C 1 0 dX12_readKind_19 rfl rfl ?_
    refine y_getI C 11 _ _ fX12_readKind_126 rfl rfl ft_11_11 sb_11_11 hM0 dX12_readKind_20 (fun a107 ea107 la107 ua107 => ?_)
    obtain rfl : a107 = (M0.1 98 11).toInt := ea107
    refine y_if_eq C 27 dX12_readKind_23 (by decide) (by omega) (fun h109 => ?_) (fun h109 => ?_)
    · have u110 : 0 ≤ (M0.1 102 26).toInt ∧ (M0.1 102 26).toInt ≤ 7 := by omega
      refine j_aload_n C 1 0 dX12_readKind_27 rfl rfl ?_
      have k111 := tkm_p (f := gf) (n := gn) (M := M0) (by omega)
      have k112 := tkm_K (f := gf) (n := gn) (M := M0) (by omega)
      refine j_callVv C (d := 5) (As := []) (st := []) 98 (s_lt rfl rfl) (s_kc (c := 11) rfl rfl) (by decide) rfl (s1_X12_next hM0 hpr gf gn (by omega) (by omega) (by omega) (by omega)) gX12_readKind_X12_next rfl hdX12_next (by decide) (Nat.le_of_ble_eq_true rfl) dX12_readKind_28 rfl (fun M114 h115 => ?_)
      obtain ⟨hM114, fM114, h116⟩ := h115
      have bM114 := tkm_b (f := gf) (n := gn) (M := M114) (by omega)
      have qM114 := nx_po (f := gf) (n := gn) (i := gi) (M := M0) (M' := M114) (by omega) (by omega) (by omega) (by omega) (by omega)
      have u117v := kv_c (M := M0) (N := M114) (k := (M0.1 102 26).toInt) (FR.cell fM114 (by decide)) (by omega) (by omega)
      have u117l := ri_l (M := M114) (by omega)
      refine j_aload_n C 1 0 dX12_readKind_31 rfl rfl ?_
      refine y_iconst C dX12_readKind_32 ?_
      have k118 := tkm_K (f := gf) (n := gn) (M := M114) (by omega)
      have k119 := kd_2 (kdk_2 gf gn (M114.1 98 6).toInt) (by omega)
      refine j_callVi C (d := 6) (As := [.int (sI 2)]) (st := []) 98 (s_lt rfl rfl) (s_kc (c := 11) rfl rfl) (by decide) rfl (s1_X12_eats hM114 hpr 2 (by omega) gf gn (nxF gf gn gi) (by omega) (by omega) (by omega) (by omega) (by omega)) gX12_readKind_X12_eats rfl hdX12_eats (by decide) (Nat.le_of_ble_eq_true rfl) dX12_readKind_33 rfl (fun r120 M121 h122 => ?_)
      obtain ⟨a124, rfl, hM121, fM121, h123⟩ := h122
      have k125 := tk_c gf gn (M121.1 98 6).toInt (M114.1 98 6).toInt
      have bM121 := tkm_b (f := gf) (n := gn) (M := M121) (by omega)
      have u126v := kv_c (M := M114) (N := M121) (k := (M0.1 102 26).toInt) (FR.cell fM121 (by decide)) (by omega) (by omega)
      have u126l := ri_l (M := M121) (by omega)
      have J136 : ∀ (M135 : mm_M), ((b01 (RIP M135) = 1) ∧ ((M135.1 98 8).toInt = (M0.1 98 8).toInt) ∧ ((M0.1 98 6).toInt ≤ (M135.1 98 6).toInt) ∧ (b01 (KV M135 (M0.1 102 26).toInt) = 1) ∧ (b01 (RR (exP gf gn 1004 (nxF gf gn gi)) (M0.1 98 11).toInt (M0.1 98 12).toInt (M135.1 98 11).toInt (M135.1 98 12).toInt (M135.1 98 6).toInt) = 1) ∧ ((M135.1 102 26).toInt = (M0.1 102 26).toInt ∧ (M135.1 102 1).toInt = (M0.1 102 1).toInt ∧ (M135.1 102 0).toInt = (M0.1 102 0).toInt) ∧ (b01 (CT AGR 0 M0 M135 (fun T => T)) = 1) ∧ (b01 (TKM gf gn M135) = 1) ∧ (b01 (PO gn (exP gf gn 1004 (nxF gf gn gi)).2.2 (M135.1 98 11).toInt (M135.1 98 6).toInt) = 1) ∧ (b01 (PI M135) = 1)) → INV pr Kz M135 → FR [98, 102] M0 M135 → jj p l e (cn_R 8) s m args below meth c 0 0 Q 2 dC dI ad cA A M135 44 [(0, .ref (ad 98)), (1, .int (sI (M0.1 102 26).toInt))] [] := by
        intro M135 h137 hM135 fM135
        have u139l := ri_l (M := M135) (by omega)
        refine j_aload_n C 0 0 dX12_readKind_44 rfl rfl ?_
        refine y_getC C 11 102 fX12_readKind_24 rfl rfl ft_11_4 sm_11_4 rfl hM135 dX12_readKind_45 ?_
        refine y_bipush C dX12_readKind_48 rfl ?_
        refine j_iload_n C 1 1 dX12_readKind_50 rfl rfl ?_
        refine y_iadd C dX12_readKind_51 ?_
        refine j_aload_n C 0 0 dX12_readKind_52 rfl rfl ?_
        refine y_iconst C dX12_readKind_53 ?_
        refine y_bipush C dX12_readKind_54 rfl ?_
        refine j_callVi C (d := 6) (As := [.int (sI 1), .int (sI 99)]) (st := [.int (sI (33 + (M0.1 102 26).toInt)), .ref (ad 102)]) 98 (s_lt rfl rfl) (s_kc (c := 11) rfl rfl) (by decide) rfl (s1_X12_takes hM135 hpr 1 (by omega) 99 (by omega) gf gn (exP gf gn 1004 (nxF gf gn gi)).2.2 (by omega) (by omega) (by omega) (by omega) (by omega) (by omega)) gX12_readKind_X12_takes rfl hdX12_takes (by decide) (Nat.le_of_ble_eq_true rfl) dX12_readKind_56 rfl (fun r140 M141 h142 => ?_)
        obtain ⟨a144, rfl, hM141, fM141, h143⟩ := h142
        have bM141 := tkm_b (f := gf) (n := gn) (M := M141) (by omega)
        have qM141 := po_rr (nuP gf gn 1 99) gn (exP gf gn 1004 (nxF gf gn gi)).2.2 (M135.1 98 11).toInt (M135.1 98 12).toInt (M135.1 98 6).toInt (M141.1 98 11).toInt (M141.1 98 12).toInt (M141.1 98 6).toInt (nu_g gf gn 1 99) (by omega) (by omega)
        have u145v := kv_c (M := M135) (N := M141) (k := (M0.1 102 26).toInt) (FR.cell fM141 (by decide)) (by omega) (by omega)
        have u145l := ri_l (M := M141) (by omega)
        refine y_iastH C 48 1181 rfl rfl rfl ak_48 an_48 rfl _ _ hM141 (PM.w hpr rfl rfl) (hs_48_33_40 _ (by omega) (by omega)) dX12_readKind_59 (by omega) (by omega) (fun M146 eM146 hM146 => ?_)
        have xM146 := tkm_w (f := gf) (n := gn) eM146 (by decide) (by decide) (by omega)
        have qM146 := po_eq gn ((nuP gf gn 1 99) (exP gf gn 1004 (nxF gf gn gi)).2.2).2.2 (M141.1 98 11).toInt (M141.1 98 6).toInt (M146.1 98 11).toInt (M146.1 98 6).toInt (by omega) (s_fa eM146 (by decide) rfl) (s_fa eM146 (by decide) rfl)
        have pM146 := pi_o eM146 (by decide) (by decide) (by omega)
        have u147v := kv_w (k := (M0.1 102 26).toInt) eM146 (h4b hM141) (by omega) (by omega)
        have u147i := ri_c (M := M141) (N := M146) (wI_cell eM146 (by decide)) (by omega)
        have u147q6 : (M146.1 98 6).toInt = (M141.1 98 6).toInt := by rw [show M146.1 98 = M141.1 98 from wI_cell eM146 (by decide)]
        have u147q8 : (M146.1 98 8).toInt = (M141.1 98 8).toInt := by rw [show M146.1 98 = M141.1 98 from wI_cell eM146 (by decide)]
        have u147q11 : (M146.1 98 11).toInt = (M141.1 98 11).toInt := by rw [show M146.1 98 = M141.1 98 from wI_cell eM146 (by decide)]
        have u147l := ri_l (M := M146) (by omega)
        have u147w12M146 : (M146.1 98 12).toInt = (M141.1 98 12).toInt := by rw [show M146.1 98 = M141.1 98 from wI_cell eM146 (by decide)]
        have u147L := lk_0 (fgP gf gn) gn ((nuP gf gn 1 99) (exP gf gn 1004 (nxF gf gn gi)).2.2).2.2 (M146.1 98 11).toInt (M146.1 98 12).toInt (M146.1 98 6).toInt (by omega)
        have u147t := ltc_0 (A := AGR) (M146.1 98 11).toInt (fgT gf gn (M0.1 102 26).toInt) ((nuP gf gn 1 99) (exP gf gn 1004 (nxF gf gn gi)).2.2).2.2 M146
        have L163 : ∀ (n161 : Nat), ∀ (M164 : mm_M) (gq165 : Int), ((b01 (RIP M164) = 1) ∧ ((M164.1 98 8).toInt = (M0.1 98 8).toInt) ∧ ((M0.1 98 6).toInt ≤ (M164.1 98 6).toInt) ∧ (b01 (KV M164 (M0.1 102 26).toInt) = 1) ∧ ((M164.1 98 6).toInt ≤ 900) ∧ (b01 (LK (fgP gf gn) gn ((nuP gf gn 1 99) (exP gf gn 1004 (nxF gf gn gi)).2.2).2.2 gq165 0 1 (M146.1 98 11).toInt (M146.1 98 12).toInt (M164.1 98 11).toInt (M164.1 98 12).toInt (M164.1 98 6).toInt) = 1) ∧ ((M164.1 102 26).toInt = (M0.1 102 26).toInt ∧ (M164.1 102 1).toInt = (M0.1 102 1).toInt ∧ (M164.1 102 0).toInt = (M0.1 102 0).toInt) ∧ (b01 (LTW AGR (M164.1 98 11).toInt (fgT gf gn (M0.1 102 26).toInt) ((nuP gf gn 1 99) (exP gf gn 1004 (nxF gf gn gi)).2.2).2.2 gq165 1 M146 M164) = 1) ∧ (b01 (TKM gf gn M164) = 1) ∧ (b01 (PO gn gq165 (M164.1 98 11).toInt (M164.1 98 6).toInt) = 1) ∧ (b01 (PI M164) = 1) ∧ (900 - (M164.1 98 6).toInt) < (n161 : Int)) → INV pr Kz M164 → FR [98, 102] M0 M164 → jj p l e (cn_R 8) s m args below meth c 0 0 Q 2 dC dI ad cA A M164 60 [(0, .ref (ad 98)), (1, .int (sI (M0.1 102 26).toInt))] [] := by
          intro n161
          induction n161 with
          | zero =>
            intro M164 gq165 h166 hM164 fM164
            exfalso; omega
          | succ n161 ih162 =>
            intro M164 gq165 h166 hM164 fM164
            have u167B := tkm_b (f := gf) (n := gn) (M := M164) (by omega)
            refine j_aload_n C 0 0 dX12_readKind_60 rfl rfl ?_
            refine y_getI C 11 _ _ fX12_readKind_126 rfl rfl ft_11_11 sb_11_11 hM164 dX12_readKind_61 (fun a168 ea168 la168 ua168 => ?_)
            obtain rfl : a168 = (M164.1 98 11).toInt := ea168
            refine y_if_ne C 78 dX12_readKind_64 (by decide) (by omega) (fun h170 => ?_) (fun h170 => ?_)
            · refine j_aload_n C 0 0 dX12_readKind_78 rfl rfl ?_
              refine y_getI C 11 _ _ fX12_readKind_126 rfl rfl ft_11_11 sb_11_11 hM164 dX12_readKind_79 (fun a178 ea178 la178 ua178 => ?_)
              obtain rfl : a178 = (M164.1 98 11).toInt := ea178
              refine y_if_ne C 96 dX12_readKind_82 (by decide) (by omega) (fun h180 => ?_) (fun h180 => ?_)
              · have u181w := lv_w0 (M := M164) (by omega)
                have u182E := lk_e gn (fgP gf gn) (tfP gf gn) (fgQ gf gn) (fg_q gf gn) ((nuP gf gn 1 99) (exP gf gn 1004 (nxF gf gn gi)).2.2).2.2 gq165 0 1 (M146.1 98 11).toInt (M146.1 98 12).toInt (M164.1 98 11).toInt (M164.1 98 12).toInt (M164.1 98 6).toInt (by omega) (by omega)
                have u182R := ki_2 gf gn (M0.1 102 26).toInt gi (M0.1 98 11).toInt (M0.1 98 12).toInt (M0.1 98 11).toInt (M0.1 98 12).toInt (M135.1 98 11).toInt (M135.1 98 12).toInt (M135.1 98 6).toInt (M135.1 98 11).toInt (M135.1 98 12).toInt (M141.1 98 11).toInt (M141.1 98 12).toInt (M141.1 98 6).toInt (M146.1 98 11).toInt (M146.1 98 12).toInt (M164.1 98 11).toInt (M164.1 98 12).toInt (M164.1 98 6).toInt (by omega) rfl rfl (by omega) rfl rfl (by omega) (by omega) (by omega) (by omega)
                have u182c := ck_i (M164.1 98 11).toInt (M164.1 102 26).toInt (M164.1 102 1).toInt (M164.1 102 0).toInt ((M0.1 102 26).toInt + 1) (M0.1 102 1).toInt (M0.1 102 0).toInt (by omega)
                have u182t := ct_n (A := AGM) (M := M0) (N := M164) (kiC gf gn (M0.1 102 26).toInt gi) (a := (M164.1 98 11).toInt) (by omega)
                exact hret _ _ _ dX12_readKind_96 ⟨hM164, (FR.rf.tr fM164 (by decide)), by omega⟩
              · exfalso; omega
            · refine j_aload_n C 0 0 dX12_readKind_67 rfl rfl ?_
              refine j_iload_n C 1 1 dX12_readKind_68 rfl rfl ?_
              refine j_callVi C (d := 7) (As := [.int (sI (M0.1 102 26).toInt)]) (st := []) 98 (s_lt rfl rfl) (s_kc (c := 11) rfl rfl) (by decide) rfl (s1_X12_readFlag hM164 hpr (M0.1 102 26).toInt (by omega) gf gn gq165 (by omega) (by omega) (by omega) (by omega) (by omega) (by omega) (by omega)) gX12_readKind_X12_readFlag rfl hdX12_readFlag (by decide) (Nat.le_of_ble_eq_true rfl) dX12_readKind_69 rfl (fun r171 M172 h173 => ?_)
              obtain ⟨a175, rfl, hM172, fM172, h174⟩ := h173
              have bM172 := tkm_b (f := gf) (n := gn) (M := M172) (by omega)
              have qM172 := po_rh (tfP gf gn) gn gq165 (M164.1 98 11).toInt (M164.1 98 12).toInt (M164.1 98 6).toInt (M172.1 98 11).toInt (M172.1 98 12).toInt (M172.1 98 6).toInt (tf_h gf gn) (by omega) (by omega)
              refine y_if_eq C 78 dX12_readKind_72 (by decide) (by omega) (fun h176 => ?_) (fun h176 => ?_)
              · refine j_aload_n C 0 0 dX12_readKind_78 rfl rfl ?_
                refine y_getI C 11 _ _ fX12_readKind_126 rfl rfl ft_11_11 sb_11_11 hM172 dX12_readKind_79 (fun a183 ea183 la183 ua183 => ?_)
                obtain rfl : a183 = (M172.1 98 11).toInt := ea183
                refine y_if_ne C 96 dX12_readKind_82 (by decide) (by omega) (fun h185 => ?_) (fun h185 => ?_)
                · have u186w := lv_w0 (M := M172) (by omega)
                  have u187K := lk_s gn (fgP gf gn) (tfP gf gn) (fgQ gf gn) (fg_q gf gn) ((nuP gf gn 1 99) (exP gf gn 1004 (nxF gf gn gi)).2.2).2.2 gq165 0 1 (M146.1 98 11).toInt (M146.1 98 12).toInt (M164.1 98 11).toInt (M164.1 98 12).toInt (M164.1 98 6).toInt (M172.1 98 11).toInt (M172.1 98 12).toInt (M172.1 98 6).toInt (M172.1 98 11).toInt (M172.1 98 12).toInt (M172.1 98 6).toInt (b01 ((fgQ gf gn) gq165)) (by omega) (by omega) (by decide) (by omega) rfl rfl rfl rfl
                  have u187E := lk_e gn (fgP gf gn) (tfP gf gn) (fgQ gf gn) (fg_q gf gn) ((nuP gf gn 1 99) (exP gf gn 1004 (nxF gf gn gi)).2.2).2.2 ((tfP gf gn) gq165).2.2 (0 + 1) (b01 ((fgQ gf gn) gq165)) (M146.1 98 11).toInt (M146.1 98 12).toInt (M172.1 98 11).toInt (M172.1 98 12).toInt (M172.1 98 6).toInt (by omega) (by omega)
                  have u187R := ki_2 gf gn (M0.1 102 26).toInt gi (M0.1 98 11).toInt (M0.1 98 12).toInt (M0.1 98 11).toInt (M0.1 98 12).toInt (M135.1 98 11).toInt (M135.1 98 12).toInt (M135.1 98 6).toInt (M135.1 98 11).toInt (M135.1 98 12).toInt (M141.1 98 11).toInt (M141.1 98 12).toInt (M141.1 98 6).toInt (M146.1 98 11).toInt (M146.1 98 12).toInt (M172.1 98 11).toInt (M172.1 98 12).toInt (M172.1 98 6).toInt (by omega) rfl rfl (by omega) rfl rfl (by omega) (by omega) (by omega) (by omega)
                  have u187c := ck_i (M172.1 98 11).toInt (M172.1 102 26).toInt (M172.1 102 1).toInt (M172.1 102 0).toInt ((M0.1 102 26).toInt + 1) (M0.1 102 1).toInt (M0.1 102 0).toInt (by omega)
                  have u187t := ct_n (A := AGM) (M := M0) (N := M172) (kiC gf gn (M0.1 102 26).toInt gi) (a := (M172.1 98 11).toInt) (by omega)
                  exact hret _ _ _ dX12_readKind_96 ⟨hM172, ((FR.rf.tr fM164 (by decide)).tr fM172 (by decide)), by (clear u187E u187K h185 ua183 la183 h176 qM172 bM172 fM172 hM172 h170 ua168 la168 u167B fM164 hM164 ih162 u147t u147L u147w12M146 u147l u147q11 u147q8 u147q6 u147i u147v pM146 qM146 xM146 hM146 eM146 u145l u145v qM141 bM141 h143 fM141 hM141 u139l fM135 hM135 h137 u126l u126v bM121 k125 h123 fM121 hM121 k119 k118 u117l u117v qM114 bM114 h116 fM114 hM114 k112 k111 u110 h109 ua107 la107 h105 u104k ua103 la103 k102 u101l hret C hp6 hp5 hp4 hp3 hp2 hp1 hp0 hpr hM0; omega)⟩
                · have u188k := kv_k (M := M172) (k := (M0.1 102 26).toInt) (by omega) (by omega)
                  refine j_aload_n C 0 0 dX12_readKind_85 rfl rfl ?_
                  refine y_getC C 11 102 fX12_readKind_24 rfl rfl ft_11_4 sm_11_4 rfl hM172 dX12_readKind_86 ?_
                  refine y_bipush C dX12_readKind_89 rfl ?_
                  refine j_dup2 C dX12_readKind_91 rfl rfl ?_
                  refine y_ialdH C 48 1181 rfl rfl rfl ak_48 an_48 rfl _ _ hM172 (hr_48_26_26 _ (by omega) (by omega)) dX12_readKind_92 (by omega) (fun a189 ea189 la189 ua189 => ?_)
                  obtain rfl : a189 = (M172.1 102 26).toInt := ea189
                  refine y_iconst C dX12_readKind_93 ?_
                  refine y_iadd C dX12_readKind_94 ?_
                  refine y_iastH C 48 1181 rfl rfl rfl ak_48 an_48 rfl _ _ hM172 (PM.w hpr rfl rfl) (hs_48_26_26 _ (by omega) (by omega)) dX12_readKind_95 (by omega) (by omega) (fun M190 eM190 hM190 => ?_)
                  have xM190 := tkm_w (f := gf) (n := gn) eM190 (by decide) (by decide) (by omega)
                  have qM190 := po_eq gn ((tfP gf gn) gq165).2.2 (M172.1 98 11).toInt (M172.1 98 6).toInt (M190.1 98 11).toInt (M190.1 98 6).toInt (by omega) (s_fa eM190 (by decide) rfl) (s_fa eM190 (by decide) rfl)
                  have pM190 := pi_o eM190 (by decide) (by decide) (by omega)
                  have u191v : b01 (LV M190) = 1 := kv_e (k := (M0.1 102 26).toInt) eM190 (by omega) (h4b hM172) (by omega) (by omega)
                  have u191i := ri_c (M := M172) (N := M190) (wI_cell eM190 (by decide)) (by omega)
                  have u191q6 : (M190.1 98 6).toInt = (M172.1 98 6).toInt := by rw [show M190.1 98 = M172.1 98 from wI_cell eM190 (by decide)]
                  have u191q8 : (M190.1 98 8).toInt = (M172.1 98 8).toInt := by rw [show M190.1 98 = M172.1 98 from wI_cell eM190 (by decide)]
                  have u191q11 : (M190.1 98 11).toInt = (M172.1 98 11).toInt := by rw [show M190.1 98 = M172.1 98 from wI_cell eM190 (by decide)]
                  have u192w12 : (M190.1 98 12).toInt = (M172.1 98 12).toInt := by rw [show M190.1 98 = M172.1 98 from wI_cell eM190 (by decide)]
                  have zz102_26 : (M190.1 102 26).toInt = ((M172.1 102 26).toInt + 1) := (Eq.trans (rfl : (M190.1 102 26).toInt = (M190.1 102 26).toInt) (s_wr eM190 (by omega)))
                  have zz102_1 : (M190.1 102 1).toInt = (M172.1 102 1).toInt := s_fb eM190 (by decide) (rfl)
                  have zz102_0 : (M190.1 102 0).toInt = (M172.1 102 0).toInt := s_fb eM190 (by decide) (rfl)
                  have u192K := lk_s gn (fgP gf gn) (tfP gf gn) (fgQ gf gn) (fg_q gf gn) ((nuP gf gn 1 99) (exP gf gn 1004 (nxF gf gn gi)).2.2).2.2 gq165 0 1 (M146.1 98 11).toInt (M146.1 98 12).toInt (M164.1 98 11).toInt (M164.1 98 12).toInt (M164.1 98 6).toInt (M172.1 98 11).toInt (M172.1 98 12).toInt (M172.1 98 6).toInt (M172.1 98 11).toInt (M172.1 98 12).toInt (M172.1 98 6).toInt (b01 ((fgQ gf gn) gq165)) (by omega) (by omega) (by decide) (by omega) rfl rfl rfl rfl
                  have u192E := lk_e gn (fgP gf gn) (tfP gf gn) (fgQ gf gn) (fg_q gf gn) ((nuP gf gn 1 99) (exP gf gn 1004 (nxF gf gn gi)).2.2).2.2 ((tfP gf gn) gq165).2.2 (0 + 1) (b01 ((fgQ gf gn) gq165)) (M146.1 98 11).toInt (M146.1 98 12).toInt (M172.1 98 11).toInt (M172.1 98 12).toInt (M172.1 98 6).toInt (by omega) (by omega)
                  have u192R := ki_2 gf gn (M0.1 102 26).toInt gi (M0.1 98 11).toInt (M0.1 98 12).toInt (M0.1 98 11).toInt (M0.1 98 12).toInt (M135.1 98 11).toInt (M135.1 98 12).toInt (M135.1 98 6).toInt (M135.1 98 11).toInt (M135.1 98 12).toInt (M141.1 98 11).toInt (M141.1 98 12).toInt (M141.1 98 6).toInt (M146.1 98 11).toInt (M146.1 98 12).toInt (M172.1 98 11).toInt (M172.1 98 12).toInt (M172.1 98 6).toInt (by omega) rfl rfl (by omega) rfl rfl (by omega) (by omega) (by omega) (by omega)
                  have u192r := rr_eq (kiP gf gn (M0.1 102 26).toInt gi) (M0.1 98 11).toInt (M0.1 98 12).toInt (M172.1 98 11).toInt (M172.1 98 12).toInt (M172.1 98 6).toInt (M190.1 98 11).toInt (M190.1 98 12).toInt (M190.1 98 6).toInt (by omega) (by omega) (by omega) (by omega)
                  have u192c := ck_i (M190.1 98 11).toInt (M190.1 102 26).toInt (M190.1 102 1).toInt (M190.1 102 0).toInt ((M0.1 102 26).toInt + 1) (M0.1 102 1).toInt (M0.1 102 0).toInt (by omega)
                  have u192E := ltc_f gn (fg_t gf gn (M0.1 102 26).toInt) (show b01 (LTW AGR (M164.1 98 11).toInt (fgT gf gn (M0.1 102 26).toInt) ((nuP gf gn 1 99) (exP gf gn 1004 (nxF gf gn gi)).2.2).2.2 gq165 1 M146 M164) = 1 by omega) (show b01 (PO gn gq165 (M164.1 98 11).toInt (M164.1 98 6).toInt) = 1 by omega) (show b01 (RR ((tfP gf gn) gq165) (M164.1 98 11).toInt (M164.1 98 12).toInt (M172.1 98 11).toInt (M172.1 98 12).toInt (M172.1 98 6).toInt) = 1 by omega) (by omega) (show b01 (CT AGR (M172.1 98 11).toInt M164 M172 (fgC gf gn (M0.1 102 26).toInt gq165)) = 1 by omega)
                  have u192F : b01 (CT AGR (M190.1 98 11).toInt M146 M172 (fgT gf gn (M0.1 102 26).toInt ((nuP gf gn 1 99) (exP gf gn 1004 (nxF gf gn gi)).2.2).2.2)) = 1 := by rw [show (M190.1 98 11).toInt = (M172.1 98 11).toInt by omega]; exact u192E
                  have u192K : b01 (CT AGM (M190.1 98 11).toInt M0 M190 (kiC gf gn (M0.1 102 26).toInt gi)) = 1 := kim_x gf gn (x := a144) (M := M0) (M3 := M141) (N := M190) (agr_t (ct_i (show b01 (CT AGR 0 M0 M135 (fun T => T)) = 1 by omega)) (agr_c (FR.cell fM141 (by decide)))) eM146 u192F (by rw [show (M0.1 102 26).toInt + 1 = ((M172.1 102 26).toInt + 1) by omega]; exact eM190) (by omega) (by have y := lk_z (show b01 (LK (fgP gf gn) gn ((nuP gf gn 1 99) (exP gf gn 1004 (nxF gf gn gi)).2.2).2.2 gq165 0 1 (M146.1 98 11).toInt (M146.1 98 12).toInt (M164.1 98 11).toInt (M164.1 98 12).toInt (M164.1 98 6).toInt) = 1 by omega) (by omega); omega) rfl rfl
                  have u192t : b01 (CT AGM (M190.1 98 11).toInt M0 M190 (kiC gf gn (M0.1 102 26).toInt gi)) = 1 := ct_e u192K (fun z T => by rw [show (M0.1 102 26).toInt = (M0.1 102 26).toInt by omega])
                  have zz102_0 : (M190.1 102 0).toInt = (M172.1 102 0).toInt := s_fb eM190 (by decide) (rfl); have zz102_1 : (M190.1 102 1).toInt = (M172.1 102 1).toInt := s_fb eM190 (by decide) (rfl); have zz102_26 : (M190.1 102 26).toInt = ((M172.1 102 26).toInt + 1) := (Eq.trans (rfl : (M190.1 102 26).toInt = (M190.1 102 26).toInt) (s_wr eM190 (by omega))); have zz98_11 : (M190.1 98 11).toInt = (M172.1 98 11).toInt := s_fa eM190 (by decide) (rfl); have zz98_12 : (M190.1 98 12).toInt = (M172.1 98 12).toInt := s_fa eM190 (by decide) (rfl); have zz98_6 : (M190.1 98 6).toInt = (M172.1 98 6).toInt := s_fa eM190 (by decide) (rfl); have zz98_8 : (M190.1 98 8).toInt = (M172.1 98 8).toInt := s_fa eM190 (by decide) (rfl); exact hret _ _ _ dX12_readKind_96 ⟨hM190, (((FR.rf.tr fM164 (by decide)).tr fM172 (by decide)).wI eM190 (by decide)), by (clear zz98_8 zz98_6 zz98_12 zz98_11 zz102_26 zz102_1 zz102_0 u192t u192F u192E u192R u192w12 u191q11 qM190 hM190 eM190 ua189 la189 u188k h185 ua183 la183 h176 qM172 bM172 fM172 hM172 h170 ua168 la168 u167B fM164 hM164 ih162 u147t u147L u147w12M146 u147l u147q11 u147q8 u147q6 u147i u147v pM146 qM146 xM146 hM146 eM146 u145l u145v qM141 bM141 h143 fM141 hM141 u139l fM135 hM135 h137 u126l u126v bM121 k125 h123 fM121 hM121 k119 k118 u117l u117v qM114 bM114 h116 fM114 hM114 k112 k111 u110 h109 ua107 la107 h105 u104k ua103 la103 k102 u101l hret C hp6 hp5 hp4 hp3 hp2 hp1 hp0 hpr hM0; omega)⟩
              · refine j_goto C 60 dX12_readKind_75 (by decide) ?_
                have u177l := ri_l (M := M172) (by omega)
                have u177L := lk_w (fgP gf gn) gn ((nuP gf gn 1 99) (exP gf gn 1004 (nxF gf gn gi)).2.2).2.2 ((tfP gf gn) gq165).2.2 (0 + 1) 0 (b01 ((fgQ gf gn) gq165)) 1 (M146.1 98 11).toInt (M146.1 98 12).toInt (M172.1 98 11).toInt (M172.1 98 12).toInt (M172.1 98 6).toInt (by decide) (by omega) (lk_s gn (fgP gf gn) (tfP gf gn) (fgQ gf gn) (fg_q gf gn) ((nuP gf gn 1 99) (exP gf gn 1004 (nxF gf gn gi)).2.2).2.2 gq165 0 1 (M146.1 98 11).toInt (M146.1 98 12).toInt (M164.1 98 11).toInt (M164.1 98 12).toInt (M164.1 98 6).toInt (M172.1 98 11).toInt (M172.1 98 12).toInt (M172.1 98 6).toInt (M172.1 98 11).toInt (M172.1 98 12).toInt (M172.1 98 6).toInt (b01 ((fgQ gf gn) gq165)) (by omega) (by omega) (by decide) (by omega) rfl rfl rfl rfl)
                have u177t := ltc_s (A := AGR) gn (m' := 1) (fg_t gf gn (M0.1 102 26).toInt) (show b01 (LTW AGR (M164.1 98 11).toInt (fgT gf gn (M0.1 102 26).toInt) ((nuP gf gn 1 99) (exP gf gn 1004 (nxF gf gn gi)).2.2).2.2 gq165 1 M146 M164) = 1 by omega) (show b01 (PO gn gq165 (M164.1 98 11).toInt (M164.1 98 6).toInt) = 1 by omega) (by decide) (show b01 (RR ((tfP gf gn) gq165) (M164.1 98 11).toInt (M164.1 98 12).toInt (M172.1 98 11).toInt (M172.1 98 12).toInt (M172.1 98 6).toInt) = 1 by omega) (show 1 = b01 (fgQ gf gn gq165) by omega) (show b01 (CT AGR (M172.1 98 11).toInt M164 M172 (fgC gf gn (M0.1 102 26).toInt gq165)) = 1 by omega)
                exact ih162 M172 ((tfP gf gn) gq165).2.2 (by (clear u177l fM172 hM172 h170 ua168 la168 u167B fM164 hM164 ih162 u147t u147L u147w12M146 u147l u147q11 u147q8 u147q6 u147i u147v pM146 qM146 xM146 hM146 eM146 u145l u145v qM141 bM141 h143 fM141 hM141 u139l fM135 hM135 h137 u126l u126v bM121 k125 h123 fM121 hM121 k119 k118 u117l u117v qM114 bM114 h116 fM114 hM114 k112 k111 u110 h109 ua107 la107 h105 u104k ua103 la103 k102 u101l hret C hp6 hp5 hp4 hp3 hp2 hp1 hp0 hpr hM0; omega)) hM172 ((FR.rf.tr fM164 (by decide)).tr fM172 (by decide))
        have zz98_8 : (M146.1 98 8).toInt = (M141.1 98 8).toInt := s_fa eM146 (by decide) (rfl); have zz98_6 : (M146.1 98 6).toInt = (M141.1 98 6).toInt := s_fa eM146 (by decide) (rfl); have zz98_12 : (M146.1 98 12).toInt = (M141.1 98 12).toInt := s_fa eM146 (by decide) (rfl); have zz98_11 : (M146.1 98 11).toInt = (M141.1 98 11).toInt := s_fa eM146 (by decide) (rfl); have zz102_26 : (M146.1 102 26).toInt = (M135.1 102 26).toInt := s_fF fM141 (by decide) (s_fb eM146 (by omega) (rfl)); have zz102_1 : (M146.1 102 1).toInt = (M135.1 102 1).toInt := s_fF fM141 (by decide) (s_fb eM146 (by omega) (rfl)); have zz102_0 : (M146.1 102 0).toInt = (M135.1 102 0).toInt := s_fF fM141 (by decide) (s_fb eM146 (by omega) (rfl)); exact L163 2010 M146 ((nuP gf gn 1 99) (exP gf gn 1004 (nxF gf gn gi)).2.2).2.2 (by (clear zz98_11 zz98_12 zz98_6 zz98_8 L163 u147w12M146 u147l u147q11 hM146 eM146 u145l u145v qM141 fM141 hM141 u139l fM135 hM135 u126l u126v bM121 k125 h123 fM121 hM121 k119 k118 u117l u117v qM114 bM114 h116 fM114 hM114 k112 k111 u110 h109 ua107 la107 h105 u104k ua103 la103 k102 u101l hret C hp6 hp5 hp4 hp3 hp2 hp1 hp0 hpr hM0; omega)) hM146 (((FR.rf.tr fM135 (by decide)).tr fM141 (by decide)).wI eM146 (by decide))
      refine y_if_ne C 44 dX12_readKind_36 (by decide) (by omega) (fun h127 => ?_) (fun h127 => ?_)
      · have u128x := ex_1 gf gn 1004 (nxF gf gn gi) (M114.1 98 11).toInt (M114.1 98 12).toInt (M114.1 98 6).toInt (M121.1 98 11).toInt (M121.1 98 12).toInt (M121.1 98 6).toInt (by omega) (by omega) (by omega) (by omega) (by omega) (by omega)
        have u128y := rr_fr (exP gf gn 1004 (nxF gf gn gi)) (M0.1 98 11).toInt (M0.1 98 12).toInt (M114.1 98 11).toInt (M114.1 98 12).toInt (M121.1 98 11).toInt (M121.1 98 12).toInt (M121.1 98 6).toInt (by omega) (by omega) (by omega)
        have u128p := po_rr (exP gf gn 1004) gn (nxF gf gn gi) (M114.1 98 11).toInt (M114.1 98 12).toInt (M114.1 98 6).toInt (M121.1 98 11).toInt (M121.1 98 12).toInt (M121.1 98 6).toInt (ex_g gf gn 1004 (by decide)) (by omega) (by omega)
        have u128I := ct_r (A := AGR) 0 (agr_c ((FR.cell fM121 (by decide)).trans (FR.cell fM114 (by decide))))
        have zz102_26 : (M121.1 102 26).toInt = (M0.1 102 26).toInt := s_fF fM114 (by decide) (s_fF fM121 (by decide) (rfl)); have zz102_1 : (M121.1 102 1).toInt = (M0.1 102 1).toInt := s_fF fM114 (by decide) (s_fF fM121 (by decide) (rfl)); have zz102_0 : (M121.1 102 0).toInt = (M0.1 102 0).toInt := s_fF fM114 (by decide) (s_fF fM121 (by decide) (rfl)); refine j_lv [1, 0] rfl ?_; exact J136 M121 (by omega) hM121 ((FR.rf.tr fM114 (by decide)).tr fM121 (by decide))
      · refine j_aload_n C 1 0 dX12_readKind_39 rfl rfl ?_
        refine y_iconst C dX12_readKind_40 ?_
        have p129 := po_eq gn (nxF gf gn gi) (M114.1 98 11).toInt (M114.1 98 6).toInt (M121.1 98 11).toInt (M121.1 98 6).toInt (by omega) (by omega) (by omega)
        refine j_callVv C (d := 0) (As := [.int (sI 2)]) (st := []) 98 (s_lt rfl rfl) (s_kc (c := 11) rfl rfl) (by decide) rfl (s1_X12_fails hM121 hpr 2 (by omega) gf gn (nxF gf gn gi) (by omega) (by omega) (by omega) (by omega) (by omega)) gX12_readKind_X12_fails rfl hdX12_fails (by decide) (Nat.le_of_ble_eq_true rfl) dX12_readKind_41 rfl (fun M131 h132 => ?_)
        obtain ⟨hM131, fM131, h133⟩ := h132
        have bM131 := tkm_b (f := gf) (n := gn) (M := M131) (by omega)
        have qM131 := po_f gn ((faQ gf gn 2) (nxF gf gn gi)).2.2 (M131.1 98 11).toInt (M131.1 98 6).toInt (by omega)
        have u134v := kv_c (M := M121) (N := M131) (k := (M0.1 102 26).toInt) (FR.cell fM131 (by decide)) (by omega) (by omega)
        have u134l := ri_l (M := M131) (by omega)
        have u134x := ex_2z gf gn 1004 (nxF gf gn gi) (M114.1 98 11).toInt (M114.1 98 12).toInt (M114.1 98 6).toInt (M131.1 98 11).toInt (M131.1 98 12).toInt (M131.1 98 6).toInt (by omega) (by omega) (rr_fr (faQ gf gn 2 (nxF gf gn gi)) (M114.1 98 11).toInt (M114.1 98 12).toInt (M121.1 98 11).toInt (M121.1 98 12).toInt (M131.1 98 11).toInt (M131.1 98 12).toInt (M131.1 98 6).toInt (by omega) (by omega) (by omega))
        have u134y := rr_fr (exP gf gn 1004 (nxF gf gn gi)) (M0.1 98 11).toInt (M0.1 98 12).toInt (M114.1 98 11).toInt (M114.1 98 12).toInt (M131.1 98 11).toInt (M131.1 98 12).toInt (M131.1 98 6).toInt (by omega) (by omega) (by omega)
        have u134p := po_rr (exP gf gn 1004) gn (nxF gf gn gi) (M114.1 98 11).toInt (M114.1 98 12).toInt (M114.1 98 6).toInt (M131.1 98 11).toInt (M131.1 98 12).toInt (M131.1 98 6).toInt (ex_g gf gn 1004 (by decide)) (by omega) (by omega)
        have u134I := ct_r (A := AGR) 0 (agr_c (((FR.cell fM131 (by decide)).trans (FR.cell fM121 (by decide))).trans (FR.cell fM114 (by decide))))
        have zz102_26 : (M131.1 102 26).toInt = (M0.1 102 26).toInt := s_fF fM114 (by decide) (s_fF fM121 (by decide) (s_fF fM131 (by decide) (rfl))); have zz102_1 : (M131.1 102 1).toInt = (M0.1 102 1).toInt := s_fF fM114 (by decide) (s_fF fM121 (by decide) (s_fF fM131 (by decide) (rfl))); have zz102_0 : (M131.1 102 0).toInt = (M0.1 102 0).toInt := s_fF fM114 (by decide) (s_fF fM121 (by decide) (s_fF fM131 (by decide) (rfl))); refine j_lv [1, 0] rfl ?_; exact J136 M131 (by omega) hM131 (((FR.rf.tr fM114 (by decide)).tr fM121 (by decide)).tr fM131 (by decide))
    · have u193r := ki_1 gf gn (M0.1 102 26).toInt gi (M0.1 98 11).toInt (M0.1 98 12).toInt (M0.1 98 11).toInt (M0.1 98 12).toInt (M0.1 98 6).toInt (by omega) (by omega)
      have u193c := ck_i (M0.1 98 11).toInt (M0.1 102 26).toInt (M0.1 102 1).toInt (M0.1 102 0).toInt ((M0.1 102 26).toInt + 1) (M0.1 102 1).toInt (M0.1 102 0).toInt (by omega)
      have u193t := ct_n (A := AGM) (M := M0) (N := M0) (kiC gf gn (M0.1 102 26).toInt gi) (a := (M0.1 98 11).toInt) (by omega)
      exact hret _ _ _ dX12_readKind_26 ⟨hM0, FR.rf, by omega⟩
  · refine j_aload_n C 1 0 dX12_readKind_14 rfl rfl ?_
    refine y_iconst C dX12_readKind_15 ?_
    refine j_callVv C (d := 0) (As := [.int (sI 4)]) (st := []) 98 (s_lt rfl rfl) (s_kc (c := 11) rfl rfl) (by decide) rfl (s1_X12_fails hM0 hpr 4 (by omega) gf gn gi (by omega) (by omega) (by omega) (by omega) (by omega)) gX12_readKind_X12_fails rfl hdX12_fails (by decide) (Nat.le_of_ble_eq_true rfl) dX12_readKind_16 rfl (fun M195 h196 => ?_)
    obtain ⟨hM195, fM195, h197⟩ := h196
    have bM195 := tkm_b (f := gf) (n := gn) (M := M195) (by omega)
    have qM195 := po_f gn ((faQ gf gn 4) gi).2.2 (M195.1 98 11).toInt (M195.1 98 6).toInt (by omega)
    have u198v := kv_c (M := M0) (N := M195) (k := (M0.1 102 26).toInt) (FR.cell fM195 (by decide)) (by omega) (by omega)
    have u198w := lv_w0 (M := M195) (by omega)
    have u198l := ri_l (M := M195) (by omega)
    refine j_aload_n C 1 0 dX12_readKind_19 rfl rfl ?_
    refine y_getI C 11 _ _ fX12_readKind_126 rfl rfl ft_11_11 sb_11_11 hM195 dX12_readKind_20 (fun a199 ea199 la199 ua199 => ?_)
    obtain rfl : a199 = (M195.1 98 11).toInt := ea199
    refine y_if_eq C 27 dX12_readKind_23 (by decide) (by omega) (fun h201 => ?_) (fun h201 => ?_)
    · have u202 : 0 ≤ (M0.1 102 26).toInt ∧ (M0.1 102 26).toInt ≤ 7 := by omega
      refine j_aload_n C 1 0 dX12_readKind_27 rfl rfl ?_
      have k203 := tkm_p (f := gf) (n := gn) (M := M195) (by omega)
      have k204 := tkm_K (f := gf) (n := gn) (M := M195) (by omega)
      refine j_callVv C (d := 5) (As := []) (st := []) 98 (s_lt rfl rfl) (s_kc (c := 11) rfl rfl) (by decide) rfl (s1_X12_next hM195 hpr gf gn (by omega) (by omega) (by omega) (by omega)) gX12_readKind_X12_next rfl hdX12_next (by decide) (Nat.le_of_ble_eq_true rfl) dX12_readKind_28 rfl (fun M206 h207 => ?_)
      obtain ⟨hM206, fM206, h208⟩ := h207
      have bM206 := tkm_b (f := gf) (n := gn) (M := M206) (by omega)
      have qM206 := nx_po (f := gf) (n := gn) (i := ((faQ gf gn 4) gi).2.2) (M := M195) (M' := M206) (by omega) (by omega) (by omega) (by omega) (by omega)
      have u209v := kv_c (M := M195) (N := M206) (k := (M0.1 102 26).toInt) (FR.cell fM206 (by decide)) (by omega) (by omega)
      have u209l := ri_l (M := M206) (by omega)
      refine j_aload_n C 1 0 dX12_readKind_31 rfl rfl ?_
      refine y_iconst C dX12_readKind_32 ?_
      have k210 := tkm_K (f := gf) (n := gn) (M := M206) (by omega)
      have k211 := kd_2 (kdk_2 gf gn (M206.1 98 6).toInt) (by omega)
      refine j_callVi C (d := 6) (As := [.int (sI 2)]) (st := []) 98 (s_lt rfl rfl) (s_kc (c := 11) rfl rfl) (by decide) rfl (s1_X12_eats hM206 hpr 2 (by omega) gf gn (nxF gf gn ((faQ gf gn 4) gi).2.2) (by omega) (by omega) (by omega) (by omega) (by omega)) gX12_readKind_X12_eats rfl hdX12_eats (by decide) (Nat.le_of_ble_eq_true rfl) dX12_readKind_33 rfl (fun r212 M213 h214 => ?_)
      obtain ⟨a216, rfl, hM213, fM213, h215⟩ := h214
      have k217 := tk_c gf gn (M213.1 98 6).toInt (M206.1 98 6).toInt
      have bM213 := tkm_b (f := gf) (n := gn) (M := M213) (by omega)
      have u218v := kv_c (M := M206) (N := M213) (k := (M0.1 102 26).toInt) (FR.cell fM213 (by decide)) (by omega) (by omega)
      have u218l := ri_l (M := M213) (by omega)
      have J228 : ∀ (M227 : mm_M), ((b01 (RIP M227) = 1) ∧ ((M227.1 98 8).toInt = (M0.1 98 8).toInt) ∧ ((M0.1 98 6).toInt ≤ (M227.1 98 6).toInt) ∧ (b01 (KV M227 (M0.1 102 26).toInt) = 1) ∧ (b01 (RR (exP gf gn 1004 (nxF gf gn gi)) (M0.1 98 11).toInt (M0.1 98 12).toInt (M227.1 98 11).toInt (M227.1 98 12).toInt (M227.1 98 6).toInt) = 1) ∧ ((M227.1 102 26).toInt = (M0.1 102 26).toInt ∧ (M227.1 102 1).toInt = (M0.1 102 1).toInt ∧ (M227.1 102 0).toInt = (M0.1 102 0).toInt) ∧ (b01 (CT AGR 0 M0 M227 (fun T => T)) = 1) ∧ (b01 (TKM gf gn M227) = 1) ∧ (b01 (PO gn (exP gf gn 1004 (nxF gf gn gi)).2.2 (M227.1 98 11).toInt (M227.1 98 6).toInt) = 1) ∧ (b01 (PI M227) = 1)) → INV pr Kz M227 → FR [98, 102] M0 M227 → jj p l e (cn_R 8) s m args below meth c 0 0 Q 2 dC dI ad cA A M227 44 [(0, .ref (ad 98)), (1, .int (sI (M0.1 102 26).toInt))] [] := by
        intro M227 h229 hM227 fM227
        have u231l := ri_l (M := M227) (by omega)
        refine j_aload_n C 0 0 dX12_readKind_44 rfl rfl ?_
        refine y_getC C 11 102 fX12_readKind_24 rfl rfl ft_11_4 sm_11_4 rfl hM227 dX12_readKind_45 ?_
        refine y_bipush C dX12_readKind_48 rfl ?_
        refine j_iload_n C 1 1 dX12_readKind_50 rfl rfl ?_
        refine y_iadd C dX12_readKind_51 ?_
        refine j_aload_n C 0 0 dX12_readKind_52 rfl rfl ?_
        refine y_iconst C dX12_readKind_53 ?_
        refine y_bipush C dX12_readKind_54 rfl ?_
        refine j_callVi C (d := 6) (As := [.int (sI 1), .int (sI 99)]) (st := [.int (sI (33 + (M0.1 102 26).toInt)), .ref (ad 102)]) 98 (s_lt rfl rfl) (s_kc (c := 11) rfl rfl) (by decide) rfl (s1_X12_takes hM227 hpr 1 (by omega) 99 (by omega) gf gn (exP gf gn 1004 (nxF gf gn gi)).2.2 (by omega) (by omega) (by omega) (by omega) (by omega) (by omega)) gX12_readKind_X12_takes rfl hdX12_takes (by decide) (Nat.le_of_ble_eq_true rfl) dX12_readKind_56 rfl (fun r232 M233 h234 => ?_)
        obtain ⟨a236, rfl, hM233, fM233, h235⟩ := h234
        have bM233 := tkm_b (f := gf) (n := gn) (M := M233) (by omega)
        have qM233 := po_rr (nuP gf gn 1 99) gn (exP gf gn 1004 (nxF gf gn gi)).2.2 (M227.1 98 11).toInt (M227.1 98 12).toInt (M227.1 98 6).toInt (M233.1 98 11).toInt (M233.1 98 12).toInt (M233.1 98 6).toInt (nu_g gf gn 1 99) (by omega) (by omega)
        have u237v := kv_c (M := M227) (N := M233) (k := (M0.1 102 26).toInt) (FR.cell fM233 (by decide)) (by omega) (by omega)
        have u237l := ri_l (M := M233) (by omega)
        refine y_iastH C 48 1181 rfl rfl rfl ak_48 an_48 rfl _ _ hM233 (PM.w hpr rfl rfl) (hs_48_33_40 _ (by omega) (by omega)) dX12_readKind_59 (by omega) (by omega) (fun M238 eM238 hM238 => ?_)
        have xM238 := tkm_w (f := gf) (n := gn) eM238 (by decide) (by decide) (by omega)
        have qM238 := po_eq gn ((nuP gf gn 1 99) (exP gf gn 1004 (nxF gf gn gi)).2.2).2.2 (M233.1 98 11).toInt (M233.1 98 6).toInt (M238.1 98 11).toInt (M238.1 98 6).toInt (by omega) (s_fa eM238 (by decide) rfl) (s_fa eM238 (by decide) rfl)
        have pM238 := pi_o eM238 (by decide) (by decide) (by omega)
        have u239v := kv_w (k := (M0.1 102 26).toInt) eM238 (h4b hM233) (by omega) (by omega)
        have u239i := ri_c (M := M233) (N := M238) (wI_cell eM238 (by decide)) (by omega)
        have u239q6 : (M238.1 98 6).toInt = (M233.1 98 6).toInt := by rw [show M238.1 98 = M233.1 98 from wI_cell eM238 (by decide)]
        have u239q8 : (M238.1 98 8).toInt = (M233.1 98 8).toInt := by rw [show M238.1 98 = M233.1 98 from wI_cell eM238 (by decide)]
        have u239q11 : (M238.1 98 11).toInt = (M233.1 98 11).toInt := by rw [show M238.1 98 = M233.1 98 from wI_cell eM238 (by decide)]
        have u239l := ri_l (M := M238) (by omega)
        have u239w12M238 : (M238.1 98 12).toInt = (M233.1 98 12).toInt := by rw [show M238.1 98 = M233.1 98 from wI_cell eM238 (by decide)]
        have u239L := lk_0 (fgP gf gn) gn ((nuP gf gn 1 99) (exP gf gn 1004 (nxF gf gn gi)).2.2).2.2 (M238.1 98 11).toInt (M238.1 98 12).toInt (M238.1 98 6).toInt (by omega)
        have u239t := ltc_0 (A := AGR) (M238.1 98 11).toInt (fgT gf gn (M0.1 102 26).toInt) ((nuP gf gn 1 99) (exP gf gn 1004 (nxF gf gn gi)).2.2).2.2 M238
        have L255 : ∀ (n253 : Nat), ∀ (M256 : mm_M) (gq257 : Int), ((b01 (RIP M256) = 1) ∧ ((M256.1 98 8).toInt = (M0.1 98 8).toInt) ∧ ((M0.1 98 6).toInt ≤ (M256.1 98 6).toInt) ∧ (b01 (KV M256 (M0.1 102 26).toInt) = 1) ∧ ((M256.1 98 6).toInt ≤ 900) ∧ (b01 (LK (fgP gf gn) gn ((nuP gf gn 1 99) (exP gf gn 1004 (nxF gf gn gi)).2.2).2.2 gq257 0 1 (M238.1 98 11).toInt (M238.1 98 12).toInt (M256.1 98 11).toInt (M256.1 98 12).toInt (M256.1 98 6).toInt) = 1) ∧ ((M256.1 102 26).toInt = (M0.1 102 26).toInt ∧ (M256.1 102 1).toInt = (M0.1 102 1).toInt ∧ (M256.1 102 0).toInt = (M0.1 102 0).toInt) ∧ (b01 (LTW AGR (M256.1 98 11).toInt (fgT gf gn (M0.1 102 26).toInt) ((nuP gf gn 1 99) (exP gf gn 1004 (nxF gf gn gi)).2.2).2.2 gq257 1 M238 M256) = 1) ∧ (b01 (TKM gf gn M256) = 1) ∧ (b01 (PO gn gq257 (M256.1 98 11).toInt (M256.1 98 6).toInt) = 1) ∧ (b01 (PI M256) = 1) ∧ (900 - (M256.1 98 6).toInt) < (n253 : Int)) → INV pr Kz M256 → FR [98, 102] M0 M256 → jj p l e (cn_R 8) s m args below meth c 0 0 Q 2 dC dI ad cA A M256 60 [(0, .ref (ad 98)), (1, .int (sI (M0.1 102 26).toInt))] [] := by
          intro n253
          induction n253 with
          | zero =>
            intro M256 gq257 h258 hM256 fM256
            exfalso; omega
          | succ n253 ih254 =>
            intro M256 gq257 h258 hM256 fM256
            have u259B := tkm_b (f := gf) (n := gn) (M := M256) (by omega)
            refine j_aload_n C 0 0 dX12_readKind_60 rfl rfl ?_
            refine y_getI C 11 _ _ fX12_readKind_126 rfl rfl ft_11_11 sb_11_11 hM256 dX12_readKind_61 (fun a260 ea260 la260 ua260 => ?_)
            obtain rfl : a260 = (M256.1 98 11).toInt := ea260
            refine y_if_ne C 78 dX12_readKind_64 (by decide) (by omega) (fun h262 => ?_) (fun h262 => ?_)
            · refine j_aload_n C 0 0 dX12_readKind_78 rfl rfl ?_
              refine y_getI C 11 _ _ fX12_readKind_126 rfl rfl ft_11_11 sb_11_11 hM256 dX12_readKind_79 (fun a270 ea270 la270 ua270 => ?_)
              obtain rfl : a270 = (M256.1 98 11).toInt := ea270
              refine y_if_ne C 96 dX12_readKind_82 (by decide) (by omega) (fun h272 => ?_) (fun h272 => ?_)
              · have u273w := lv_w0 (M := M256) (by omega)
                have u274E := lk_e gn (fgP gf gn) (tfP gf gn) (fgQ gf gn) (fg_q gf gn) ((nuP gf gn 1 99) (exP gf gn 1004 (nxF gf gn gi)).2.2).2.2 gq257 0 1 (M238.1 98 11).toInt (M238.1 98 12).toInt (M256.1 98 11).toInt (M256.1 98 12).toInt (M256.1 98 6).toInt (by omega) (by omega)
                have u274R := ki_2 gf gn (M0.1 102 26).toInt gi (M0.1 98 11).toInt (M0.1 98 12).toInt (M0.1 98 11).toInt (M0.1 98 12).toInt (M227.1 98 11).toInt (M227.1 98 12).toInt (M227.1 98 6).toInt (M227.1 98 11).toInt (M227.1 98 12).toInt (M233.1 98 11).toInt (M233.1 98 12).toInt (M233.1 98 6).toInt (M238.1 98 11).toInt (M238.1 98 12).toInt (M256.1 98 11).toInt (M256.1 98 12).toInt (M256.1 98 6).toInt (by omega) rfl rfl (by omega) rfl rfl (by omega) (by omega) (by omega) (by omega)
                have u274c := ck_i (M256.1 98 11).toInt (M256.1 102 26).toInt (M256.1 102 1).toInt (M256.1 102 0).toInt ((M0.1 102 26).toInt + 1) (M0.1 102 1).toInt (M0.1 102 0).toInt (by omega)
                have u274t := ct_n (A := AGM) (M := M0) (N := M256) (kiC gf gn (M0.1 102 26).toInt gi) (a := (M256.1 98 11).toInt) (by omega)
                exact hret _ _ _ dX12_readKind_96 ⟨hM256, (FR.rf.tr fM256 (by decide)), by omega⟩
              · exfalso; omega
            · refine j_aload_n C 0 0 dX12_readKind_67 rfl rfl ?_
              refine j_iload_n C 1 1 dX12_readKind_68 rfl rfl ?_
              refine j_callVi C (d := 7) (As := [.int (sI (M0.1 102 26).toInt)]) (st := []) 98 (s_lt rfl rfl) (s_kc (c := 11) rfl rfl) (by decide) rfl (s1_X12_readFlag hM256 hpr (M0.1 102 26).toInt (by omega) gf gn gq257 (by omega) (by omega) (by omega) (by omega) (by omega) (by omega) (by omega)) gX12_readKind_X12_readFlag rfl hdX12_readFlag (by decide) (Nat.le_of_ble_eq_true rfl) dX12_readKind_69 rfl (fun r263 M264 h265 => ?_)
              obtain ⟨a267, rfl, hM264, fM264, h266⟩ := h265
              have bM264 := tkm_b (f := gf) (n := gn) (M := M264) (by omega)
              have qM264 := po_rh (tfP gf gn) gn gq257 (M256.1 98 11).toInt (M256.1 98 12).toInt (M256.1 98 6).toInt (M264.1 98 11).toInt (M264.1 98 12).toInt (M264.1 98 6).toInt (tf_h gf gn) (by omega) (by omega)
              refine y_if_eq C 78 dX12_readKind_72 (by decide) (by omega) (fun h268 => ?_) (fun h268 => ?_)
              · refine j_aload_n C 0 0 dX12_readKind_78 rfl rfl ?_
                refine y_getI C 11 _ _ fX12_readKind_126 rfl rfl ft_11_11 sb_11_11 hM264 dX12_readKind_79 (fun a275 ea275 la275 ua275 => ?_)
                obtain rfl : a275 = (M264.1 98 11).toInt := ea275
                refine y_if_ne C 96 dX12_readKind_82 (by decide) (by omega) (fun h277 => ?_) (fun h277 => ?_)
                · have u278w := lv_w0 (M := M264) (by omega)
                  have u279K := lk_s gn (fgP gf gn) (tfP gf gn) (fgQ gf gn) (fg_q gf gn) ((nuP gf gn 1 99) (exP gf gn 1004 (nxF gf gn gi)).2.2).2.2 gq257 0 1 (M238.1 98 11).toInt (M238.1 98 12).toInt (M256.1 98 11).toInt (M256.1 98 12).toInt (M256.1 98 6).toInt (M264.1 98 11).toInt (M264.1 98 12).toInt (M264.1 98 6).toInt (M264.1 98 11).toInt (M264.1 98 12).toInt (M264.1 98 6).toInt (b01 ((fgQ gf gn) gq257)) (by omega) (by omega) (by decide) (by omega) rfl rfl rfl rfl
                  have u279E := lk_e gn (fgP gf gn) (tfP gf gn) (fgQ gf gn) (fg_q gf gn) ((nuP gf gn 1 99) (exP gf gn 1004 (nxF gf gn gi)).2.2).2.2 ((tfP gf gn) gq257).2.2 (0 + 1) (b01 ((fgQ gf gn) gq257)) (M238.1 98 11).toInt (M238.1 98 12).toInt (M264.1 98 11).toInt (M264.1 98 12).toInt (M264.1 98 6).toInt (by omega) (by omega)
                  have u279R := ki_2 gf gn (M0.1 102 26).toInt gi (M0.1 98 11).toInt (M0.1 98 12).toInt (M0.1 98 11).toInt (M0.1 98 12).toInt (M227.1 98 11).toInt (M227.1 98 12).toInt (M227.1 98 6).toInt (M227.1 98 11).toInt (M227.1 98 12).toInt (M233.1 98 11).toInt (M233.1 98 12).toInt (M233.1 98 6).toInt (M238.1 98 11).toInt (M238.1 98 12).toInt (M264.1 98 11).toInt (M264.1 98 12).toInt (M264.1 98 6).toInt (by omega) rfl rfl (by omega) rfl rfl (by omega) (by omega) (by omega) (by omega)
                  have u279c := ck_i (M264.1 98 11).toInt (M264.1 102 26).toInt (M264.1 102 1).toInt (M264.1 102 0).toInt ((M0.1 102 26).toInt + 1) (M0.1 102 1).toInt (M0.1 102 0).toInt (by omega)
                  have u279t := ct_n (A := AGM) (M := M0) (N := M264) (kiC gf gn (M0.1 102 26).toInt gi) (a := (M264.1 98 11).toInt) (by omega)
                  exact hret _ _ _ dX12_readKind_96 ⟨hM264, ((FR.rf.tr fM256 (by decide)).tr fM264 (by decide)), by omega⟩
                · have u280k := kv_k (M := M264) (k := (M0.1 102 26).toInt) (by omega) (by omega)
                  refine j_aload_n C 0 0 dX12_readKind_85 rfl rfl ?_
                  refine y_getC C 11 102 fX12_readKind_24 rfl rfl ft_11_4 sm_11_4 rfl hM264 dX12_readKind_86 ?_
                  refine y_bipush C dX12_readKind_89 rfl ?_
                  refine j_dup2 C dX12_readKind_91 rfl rfl ?_
                  refine y_ialdH C 48 1181 rfl rfl rfl ak_48 an_48 rfl _ _ hM264 (hr_48_26_26 _ (by omega) (by omega)) dX12_readKind_92 (by omega) (fun a281 ea281 la281 ua281 => ?_)
                  obtain rfl : a281 = (M264.1 102 26).toInt := ea281
                  refine y_iconst C dX12_readKind_93 ?_
                  refine y_iadd C dX12_readKind_94 ?_
                  refine y_iastH C 48 1181 rfl rfl rfl ak_48 an_48 rfl _ _ hM264 (PM.w hpr rfl rfl) (hs_48_26_26 _ (by omega) (by omega)) dX12_readKind_95 (by omega) (by omega) (fun M282 eM282 hM282 => ?_)
                  have xM282 := tkm_w (f := gf) (n := gn) eM282 (by decide) (by decide) (by omega)
                  have qM282 := po_eq gn ((tfP gf gn) gq257).2.2 (M264.1 98 11).toInt (M264.1 98 6).toInt (M282.1 98 11).toInt (M282.1 98 6).toInt (by omega) (s_fa eM282 (by decide) rfl) (s_fa eM282 (by decide) rfl)
                  have pM282 := pi_o eM282 (by decide) (by decide) (by omega)
                  have u283v : b01 (LV M282) = 1 := kv_e (k := (M0.1 102 26).toInt) eM282 (by omega) (h4b hM264) (by omega) (by omega)
                  have u283i := ri_c (M := M264) (N := M282) (wI_cell eM282 (by decide)) (by omega)
                  have u283q6 : (M282.1 98 6).toInt = (M264.1 98 6).toInt := by rw [show M282.1 98 = M264.1 98 from wI_cell eM282 (by decide)]
                  have u283q8 : (M282.1 98 8).toInt = (M264.1 98 8).toInt := by rw [show M282.1 98 = M264.1 98 from wI_cell eM282 (by decide)]
                  have u283q11 : (M282.1 98 11).toInt = (M264.1 98 11).toInt := by rw [show M282.1 98 = M264.1 98 from wI_cell eM282 (by decide)]
                  have u284w12 : (M282.1 98 12).toInt = (M264.1 98 12).toInt := by rw [show M282.1 98 = M264.1 98 from wI_cell eM282 (by decide)]
                  have zz102_26 : (M282.1 102 26).toInt = ((M264.1 102 26).toInt + 1) := (Eq.trans (rfl : (M282.1 102 26).toInt = (M282.1 102 26).toInt) (s_wr eM282 (by omega)))
                  have zz102_1 : (M282.1 102 1).toInt = (M264.1 102 1).toInt := s_fb eM282 (by decide) (rfl)
                  have zz102_0 : (M282.1 102 0).toInt = (M264.1 102 0).toInt := s_fb eM282 (by decide) (rfl)
                  have u284K := lk_s gn (fgP gf gn) (tfP gf gn) (fgQ gf gn) (fg_q gf gn) ((nuP gf gn 1 99) (exP gf gn 1004 (nxF gf gn gi)).2.2).2.2 gq257 0 1 (M238.1 98 11).toInt (M238.1 98 12).toInt (M256.1 98 11).toInt (M256.1 98 12).toInt (M256.1 98 6).toInt (M264.1 98 11).toInt (M264.1 98 12).toInt (M264.1 98 6).toInt (M264.1 98 11).toInt (M264.1 98 12).toInt (M264.1 98 6).toInt (b01 ((fgQ gf gn) gq257)) (by omega) (by omega) (by decide) (by omega) rfl rfl rfl rfl
                  have u284E := lk_e gn (fgP gf gn) (tfP gf gn) (fgQ gf gn) (fg_q gf gn) ((nuP gf gn 1 99) (exP gf gn 1004 (nxF gf gn gi)).2.2).2.2 ((tfP gf gn) gq257).2.2 (0 + 1) (b01 ((fgQ gf gn) gq257)) (M238.1 98 11).toInt (M238.1 98 12).toInt (M264.1 98 11).toInt (M264.1 98 12).toInt (M264.1 98 6).toInt (by omega) (by omega)
                  have u284R := ki_2 gf gn (M0.1 102 26).toInt gi (M0.1 98 11).toInt (M0.1 98 12).toInt (M0.1 98 11).toInt (M0.1 98 12).toInt (M227.1 98 11).toInt (M227.1 98 12).toInt (M227.1 98 6).toInt (M227.1 98 11).toInt (M227.1 98 12).toInt (M233.1 98 11).toInt (M233.1 98 12).toInt (M233.1 98 6).toInt (M238.1 98 11).toInt (M238.1 98 12).toInt (M264.1 98 11).toInt (M264.1 98 12).toInt (M264.1 98 6).toInt (by omega) rfl rfl (by omega) rfl rfl (by omega) (by omega) (by omega) (by omega)
                  have u284r := rr_eq (kiP gf gn (M0.1 102 26).toInt gi) (M0.1 98 11).toInt (M0.1 98 12).toInt (M264.1 98 11).toInt (M264.1 98 12).toInt (M264.1 98 6).toInt (M282.1 98 11).toInt (M282.1 98 12).toInt (M282.1 98 6).toInt (by omega) (by omega) (by omega) (by omega)
                  have u284c := ck_i (M282.1 98 11).toInt (M282.1 102 26).toInt (M282.1 102 1).toInt (M282.1 102 0).toInt ((M0.1 102 26).toInt + 1) (M0.1 102 1).toInt (M0.1 102 0).toInt (by omega)
                  have u284E := ltc_f gn (fg_t gf gn (M0.1 102 26).toInt) (show b01 (LTW AGR (M256.1 98 11).toInt (fgT gf gn (M0.1 102 26).toInt) ((nuP gf gn 1 99) (exP gf gn 1004 (nxF gf gn gi)).2.2).2.2 gq257 1 M238 M256) = 1 by omega) (show b01 (PO gn gq257 (M256.1 98 11).toInt (M256.1 98 6).toInt) = 1 by omega) (show b01 (RR ((tfP gf gn) gq257) (M256.1 98 11).toInt (M256.1 98 12).toInt (M264.1 98 11).toInt (M264.1 98 12).toInt (M264.1 98 6).toInt) = 1 by omega) (by omega) (show b01 (CT AGR (M264.1 98 11).toInt M256 M264 (fgC gf gn (M0.1 102 26).toInt gq257)) = 1 by omega)
                  have u284F : b01 (CT AGR (M282.1 98 11).toInt M238 M264 (fgT gf gn (M0.1 102 26).toInt ((nuP gf gn 1 99) (exP gf gn 1004 (nxF gf gn gi)).2.2).2.2)) = 1 := by rw [show (M282.1 98 11).toInt = (M264.1 98 11).toInt by omega]; exact u284E
                  have u284K : b01 (CT AGM (M282.1 98 11).toInt M0 M282 (kiC gf gn (M0.1 102 26).toInt gi)) = 1 := kim_x gf gn (x := a236) (M := M0) (M3 := M233) (N := M282) (agr_t (ct_i (show b01 (CT AGR 0 M0 M227 (fun T => T)) = 1 by omega)) (agr_c (FR.cell fM233 (by decide)))) eM238 u284F (by rw [show (M0.1 102 26).toInt + 1 = ((M264.1 102 26).toInt + 1) by omega]; exact eM282) (by omega) (by have y := lk_z (show b01 (LK (fgP gf gn) gn ((nuP gf gn 1 99) (exP gf gn 1004 (nxF gf gn gi)).2.2).2.2 gq257 0 1 (M238.1 98 11).toInt (M238.1 98 12).toInt (M256.1 98 11).toInt (M256.1 98 12).toInt (M256.1 98 6).toInt) = 1 by omega) (by omega); omega) rfl rfl
                  have u284t : b01 (CT AGM (M282.1 98 11).toInt M0 M282 (kiC gf gn (M0.1 102 26).toInt gi)) = 1 := ct_e u284K (fun z T => by rw [show (M0.1 102 26).toInt = (M0.1 102 26).toInt by omega])
                  have zz102_0 : (M282.1 102 0).toInt = (M264.1 102 0).toInt := s_fb eM282 (by decide) (rfl); have zz102_1 : (M282.1 102 1).toInt = (M264.1 102 1).toInt := s_fb eM282 (by decide) (rfl); have zz102_26 : (M282.1 102 26).toInt = ((M264.1 102 26).toInt + 1) := (Eq.trans (rfl : (M282.1 102 26).toInt = (M282.1 102 26).toInt) (s_wr eM282 (by omega))); have zz98_11 : (M282.1 98 11).toInt = (M264.1 98 11).toInt := s_fa eM282 (by decide) (rfl); have zz98_12 : (M282.1 98 12).toInt = (M264.1 98 12).toInt := s_fa eM282 (by decide) (rfl); have zz98_6 : (M282.1 98 6).toInt = (M264.1 98 6).toInt := s_fa eM282 (by decide) (rfl); have zz98_8 : (M282.1 98 8).toInt = (M264.1 98 8).toInt := s_fa eM282 (by decide) (rfl); exact hret _ _ _ dX12_readKind_96 ⟨hM282, (((FR.rf.tr fM256 (by decide)).tr fM264 (by decide)).wI eM282 (by decide)), by omega⟩
              · refine j_goto C 60 dX12_readKind_75 (by decide) ?_
                have u269l := ri_l (M := M264) (by omega)
                have u269L := lk_w (fgP gf gn) gn ((nuP gf gn 1 99) (exP gf gn 1004 (nxF gf gn gi)).2.2).2.2 ((tfP gf gn) gq257).2.2 (0 + 1) 0 (b01 ((fgQ gf gn) gq257)) 1 (M238.1 98 11).toInt (M238.1 98 12).toInt (M264.1 98 11).toInt (M264.1 98 12).toInt (M264.1 98 6).toInt (by decide) (by omega) (lk_s gn (fgP gf gn) (tfP gf gn) (fgQ gf gn) (fg_q gf gn) ((nuP gf gn 1 99) (exP gf gn 1004 (nxF gf gn gi)).2.2).2.2 gq257 0 1 (M238.1 98 11).toInt (M238.1 98 12).toInt (M256.1 98 11).toInt (M256.1 98 12).toInt (M256.1 98 6).toInt (M264.1 98 11).toInt (M264.1 98 12).toInt (M264.1 98 6).toInt (M264.1 98 11).toInt (M264.1 98 12).toInt (M264.1 98 6).toInt (b01 ((fgQ gf gn) gq257)) (by omega) (by omega) (by decide) (by omega) rfl rfl rfl rfl)
                have u269t := ltc_s (A := AGR) gn (m' := 1) (fg_t gf gn (M0.1 102 26).toInt) (show b01 (LTW AGR (M256.1 98 11).toInt (fgT gf gn (M0.1 102 26).toInt) ((nuP gf gn 1 99) (exP gf gn 1004 (nxF gf gn gi)).2.2).2.2 gq257 1 M238 M256) = 1 by omega) (show b01 (PO gn gq257 (M256.1 98 11).toInt (M256.1 98 6).toInt) = 1 by omega) (by decide) (show b01 (RR ((tfP gf gn) gq257) (M256.1 98 11).toInt (M256.1 98 12).toInt (M264.1 98 11).toInt (M264.1 98 12).toInt (M264.1 98 6).toInt) = 1 by omega) (show 1 = b01 (fgQ gf gn gq257) by omega) (show b01 (CT AGR (M264.1 98 11).toInt M256 M264 (fgC gf gn (M0.1 102 26).toInt gq257)) = 1 by omega)
                exact ih254 M264 ((tfP gf gn) gq257).2.2 (by omega) hM264 ((FR.rf.tr fM256 (by decide)).tr fM264 (by decide))
        have zz98_8 : (M238.1 98 8).toInt = (M233.1 98 8).toInt := s_fa eM238 (by decide) (rfl); have zz98_6 : (M238.1 98 6).toInt = (M233.1 98 6).toInt := s_fa eM238 (by decide) (rfl); have zz98_12 : (M238.1 98 12).toInt = (M233.1 98 12).toInt := s_fa eM238 (by decide) (rfl); have zz98_11 : (M238.1 98 11).toInt = (M233.1 98 11).toInt := s_fa eM238 (by decide) (rfl); have zz102_26 : (M238.1 102 26).toInt = (M227.1 102 26).toInt := s_fF fM233 (by decide) (s_fb eM238 (by omega) (rfl)); have zz102_1 : (M238.1 102 1).toInt = (M227.1 102 1).toInt := s_fF fM233 (by decide) (s_fb eM238 (by omega) (rfl)); have zz102_0 : (M238.1 102 0).toInt = (M227.1 102 0).toInt := s_fF fM233 (by decide) (s_fb eM238 (by omega) (rfl)); exact L255 2010 M238 ((nuP gf gn 1 99) (exP gf gn 1004 (nxF gf gn gi)).2.2).2.2 (by omega) hM238 (((FR.rf.tr fM227 (by decide)).tr fM233 (by decide)).wI eM238 (by decide))
      refine y_if_ne C 44 dX12_readKind_36 (by decide) (by omega) (fun h219 => ?_) (fun h219 => ?_)
      · have u220x := ex_1 gf gn 1004 (nxF gf gn ((faQ gf gn 4) gi).2.2) (M206.1 98 11).toInt (M206.1 98 12).toInt (M206.1 98 6).toInt (M213.1 98 11).toInt (M213.1 98 12).toInt (M213.1 98 6).toInt (by omega) (by omega) (by omega) (by omega) (by omega) (by omega)
        have u220y := rr_fr (exP gf gn 1004 (nxF gf gn gi)) (M0.1 98 11).toInt (M0.1 98 12).toInt (M206.1 98 11).toInt (M206.1 98 12).toInt (M213.1 98 11).toInt (M213.1 98 12).toInt (M213.1 98 6).toInt (by omega) (by omega) (by omega)
        have u220p := po_rr (exP gf gn 1004) gn (nxF gf gn gi) (M206.1 98 11).toInt (M206.1 98 12).toInt (M206.1 98 6).toInt (M213.1 98 11).toInt (M213.1 98 12).toInt (M213.1 98 6).toInt (ex_g gf gn 1004 (by decide)) (by omega) (by omega)
        have u220I := ct_r (A := AGR) 0 (agr_c (((FR.cell fM213 (by decide)).trans (FR.cell fM206 (by decide))).trans (FR.cell fM195 (by decide))))
        have zz102_26 : (M213.1 102 26).toInt = (M0.1 102 26).toInt := s_fF fM195 (by decide) (s_fF fM206 (by decide) (s_fF fM213 (by decide) (rfl))); have zz102_1 : (M213.1 102 1).toInt = (M0.1 102 1).toInt := s_fF fM195 (by decide) (s_fF fM206 (by decide) (s_fF fM213 (by decide) (rfl))); have zz102_0 : (M213.1 102 0).toInt = (M0.1 102 0).toInt := s_fF fM195 (by decide) (s_fF fM206 (by decide) (s_fF fM213 (by decide) (rfl))); refine j_lv [1, 0] rfl ?_; exact J228 M213 (by omega) hM213 (((FR.rf.tr fM195 (by decide)).tr fM206 (by decide)).tr fM213 (by decide))
      · refine j_aload_n C 1 0 dX12_readKind_39 rfl rfl ?_
        refine y_iconst C dX12_readKind_40 ?_
        have p221 := po_eq gn (nxF gf gn ((faQ gf gn 4) gi).2.2) (M206.1 98 11).toInt (M206.1 98 6).toInt (M213.1 98 11).toInt (M213.1 98 6).toInt (by omega) (by omega) (by omega)
        refine j_callVv C (d := 0) (As := [.int (sI 2)]) (st := []) 98 (s_lt rfl rfl) (s_kc (c := 11) rfl rfl) (by decide) rfl (s1_X12_fails hM213 hpr 2 (by omega) gf gn (nxF gf gn ((faQ gf gn 4) gi).2.2) (by omega) (by omega) (by omega) (by omega) (by omega)) gX12_readKind_X12_fails rfl hdX12_fails (by decide) (Nat.le_of_ble_eq_true rfl) dX12_readKind_41 rfl (fun M223 h224 => ?_)
        obtain ⟨hM223, fM223, h225⟩ := h224
        have bM223 := tkm_b (f := gf) (n := gn) (M := M223) (by omega)
        have qM223 := po_f gn ((faQ gf gn 2) (nxF gf gn ((faQ gf gn 4) gi).2.2)).2.2 (M223.1 98 11).toInt (M223.1 98 6).toInt (by omega)
        have u226v := kv_c (M := M213) (N := M223) (k := (M0.1 102 26).toInt) (FR.cell fM223 (by decide)) (by omega) (by omega)
        have u226l := ri_l (M := M223) (by omega)
        have u226x := ex_2z gf gn 1004 (nxF gf gn ((faQ gf gn 4) gi).2.2) (M206.1 98 11).toInt (M206.1 98 12).toInt (M206.1 98 6).toInt (M223.1 98 11).toInt (M223.1 98 12).toInt (M223.1 98 6).toInt (by omega) (by omega) (rr_fr (faQ gf gn 2 (nxF gf gn ((faQ gf gn 4) gi).2.2)) (M206.1 98 11).toInt (M206.1 98 12).toInt (M213.1 98 11).toInt (M213.1 98 12).toInt (M223.1 98 11).toInt (M223.1 98 12).toInt (M223.1 98 6).toInt (by omega) (by omega) (by omega))
        have u226y := rr_fr (exP gf gn 1004 (nxF gf gn gi)) (M0.1 98 11).toInt (M0.1 98 12).toInt (M206.1 98 11).toInt (M206.1 98 12).toInt (M223.1 98 11).toInt (M223.1 98 12).toInt (M223.1 98 6).toInt (by omega) (by omega) (by omega)
        have u226p := po_rr (exP gf gn 1004) gn (nxF gf gn gi) (M206.1 98 11).toInt (M206.1 98 12).toInt (M206.1 98 6).toInt (M223.1 98 11).toInt (M223.1 98 12).toInt (M223.1 98 6).toInt (ex_g gf gn 1004 (by decide)) (by omega) (by omega)
        have u226I := ct_r (A := AGR) 0 (agr_c ((((FR.cell fM223 (by decide)).trans (FR.cell fM213 (by decide))).trans (FR.cell fM206 (by decide))).trans (FR.cell fM195 (by decide))))
        have zz102_26 : (M223.1 102 26).toInt = (M0.1 102 26).toInt := s_fF fM195 (by decide) (s_fF fM206 (by decide) (s_fF fM213 (by decide) (s_fF fM223 (by decide) (rfl)))); have zz102_1 : (M223.1 102 1).toInt = (M0.1 102 1).toInt := s_fF fM195 (by decide) (s_fF fM206 (by decide) (s_fF fM213 (by decide) (s_fF fM223 (by decide) (rfl)))); have zz102_0 : (M223.1 102 0).toInt = (M0.1 102 0).toInt := s_fF fM195 (by decide) (s_fF fM206 (by decide) (s_fF fM213 (by decide) (s_fF fM223 (by decide) (rfl)))); refine j_lv [1, 0] rfl ?_; exact J228 M223 (by omega) hM223 ((((FR.rf.tr fM195 (by decide)).tr fM206 (by decide)).tr fM213 (by decide)).tr fM223 (by decide))
    · have u285r := ki_1 gf gn (M0.1 102 26).toInt gi (M0.1 98 11).toInt (M0.1 98 12).toInt (M195.1 98 11).toInt (M195.1 98 12).toInt (M195.1 98 6).toInt (by omega) (by omega)
      have u285c := ck_i (M195.1 98 11).toInt (M195.1 102 26).toInt (M195.1 102 1).toInt (M195.1 102 0).toInt ((M0.1 102 26).toInt + 1) (M0.1 102 1).toInt (M0.1 102 0).toInt (by omega)
      have u285t := ct_n (A := AGM) (M := M0) (N := M195) (kiC gf gn (M0.1 102 26).toInt gi) (a := (M195.1 98 11).toInt) (by omega)
      have zz102_0 : (M195.1 102 0).toInt = (M0.1 102 0).toInt := s_fF fM195 (by decide) (rfl); have zz102_1 : (M195.1 102 1).toInt = (M0.1 102 1).toInt := s_fF fM195 (by decide) (rfl); have zz102_26 : (M195.1 102 26).toInt = (M0.1 102 26).toInt := s_fF fM195 (by decide) (rfl); exact hret _ _ _ dX12_readKind_26 ⟨hM195, (FR.rf.tr fM195 (by decide)), by omega⟩
set_option maxHeartbeats 4000000 in
theorem s1_X12_readLine {l : Launch} {dC : Nat → ClassId} {dI : Nat → Nat → Nat} {ad : Nat → Nat} {cA : Nat → ClassId} {pr : Nat → Nat → Bool} {Kz : mm_M} {M0 : mm_M} (hM0 : INV pr Kz M0) (hpr : PM pr) (gf : Nat → Int) (gn : Int) (gi : Int) (hp0 : b01 (RIP M0) = 1) (hp1 : b01 (LV M0) = 1) (hp2 : b01 (TKM gf gn M0) = 1) (hp3 : b01 (PO gn gi (M0.1 98 11).toInt (M0.1 98 6).toInt) = 1) (hp4 : b01 (PI M0) = 1) : Cv l 32 yX12_readLine wsX12_readLine dC dI ad cA [.ref (ad 98)] M0 (fun M' => INV pr Kz M' ∧ FR [98, 102] M0 M' ∧ (b01 (RIP M') = 1) ∧ ((M'.1 98 8).toInt = (M0.1 98 8).toInt) ∧ ((M0.1 98 6).toInt ≤ (M'.1 98 6).toInt) ∧ (b01 (LV M') = 1) ∧ (b01 (CK (M'.1 98 11).toInt (M'.1 102 26).toInt (M'.1 102 1).toInt (M'.1 102 0).toInt (inc (tkF gf gn gi) 1003 (M0.1 102 26).toInt) (inc (tkF gf gn gi) 1009 (M0.1 102 1).toInt) (M0.1 102 0).toInt) = 1) ∧ (b01 (CT AGM (M'.1 98 11).toInt M0 M' (liC gf gn (M0.1 102 26).toInt (M0.1 102 1).toInt gi)) = 1) ∧ (b01 (PI M') = 1) ∧ (b01 (TKM gf gn M') = 1) ∧ b01 (RR ((liP gf gn (M0.1 102 26).toInt (M0.1 102 1).toInt) gi) (M0.1 98 11).toInt (M0.1 98 12).toInt (M'.1 98 11).toInt (M'.1 98 12).toInt (M'.1 98 6).toInt) = 1) := by
  refine cv_of (cc := cX12_readLine) (maxL := 1) (lv := [(0, .ref (ad 98))]) (by decide) rfl (Nat.le_of_ble_eq_true rfl) rfl ?_
  intro p e s m args below meth c A Q C hret
  have u101l := ri_l (M := M0) (by omega)
  have u101i := inc_s (tkF gf gn (M0.1 98 6).toInt) 1003 (M0.1 102 26).toInt
  have u101j := inc_s (tkF gf gn (M0.1 98 6).toInt) 1009 (M0.1 102 1).toInt
  have k102 := tkm_K (f := gf) (n := gn) (M := M0) (by omega)
  refine j_aload_n C 0 0 dX12_readLine_0 rfl rfl ?_
  refine y_getI C 11 _ _ fX12_readLine_126 rfl rfl ft_11_11 sb_11_11 hM0 dX12_readLine_1 (fun a103 ea103 la103 ua103 => ?_)
  obtain rfl : a103 = (M0.1 98 11).toInt := ea103
  refine y_if_eq C 8 dX12_readLine_4 (by decide) (by omega) (fun h105 => ?_) (fun h105 => ?_)
  · refine j_aload_n C 0 0 dX12_readLine_8 rfl rfl ?_
    refine y_iconst C dX12_readLine_9 ?_
    have k106 := tkm_K (f := gf) (n := gn) (M := M0) (by omega)
    have k107 := kd_2 (kdk_1 gf gn (M0.1 98 6).toInt) (by omega)
    refine j_callVi C (d := 0) (As := [.int (sI 1)]) (st := []) 98 (s_lt rfl rfl) (s_kc (c := 11) rfl rfl) (by decide) rfl (s1_X12_is hM0 1 (by omega)) gX12_readLine_X12_is rfl hdX12_is (by decide) (Nat.le_of_ble_eq_true rfl) dX12_readLine_10 rfl (fun r108 M109 h110 => ?_)
    obtain ⟨a112, rfl, rfl, h111⟩ := h110
    refine y_if_eq C 23 dX12_readLine_13 (by decide) (by omega) (fun h113 => ?_) (fun h113 => ?_)
    · refine j_aload_n C 0 0 dX12_readLine_23 rfl rfl ?_
      refine y_bipush C dX12_readLine_24 rfl ?_
      have k114 := tkm_K (f := gf) (n := gn) (M := M0) (by omega)
      have k115 := kd_2 (kdk_6 gf gn (M0.1 98 6).toInt) (by omega)
      refine j_callVi C (d := 0) (As := [.int (sI 6)]) (st := []) 98 (s_lt rfl rfl) (s_kc (c := 11) rfl rfl) (by decide) rfl (s1_X12_is hM0 6 (by omega)) gX12_readLine_X12_is rfl hdX12_is (by decide) (Nat.le_of_ble_eq_true rfl) dX12_readLine_26 rfl (fun r116 M117 h118 => ?_)
      obtain ⟨a120, rfl, rfl, h119⟩ := h118
      refine y_if_eq C 39 dX12_readLine_29 (by decide) (by omega) (fun h121 => ?_) (fun h121 => ?_)
      · refine j_aload_n C 0 0 dX12_readLine_39 rfl rfl ?_
        refine y_bipush C dX12_readLine_40 rfl ?_
        have k122 := tkm_K (f := gf) (n := gn) (M := M0) (by omega)
        have k123 := kd_2 (kdk_10 gf gn (M0.1 98 6).toInt) (by omega)
        refine j_callVi C (d := 0) (As := [.int (sI 10)]) (st := []) 98 (s_lt rfl rfl) (s_kc (c := 11) rfl rfl) (by decide) rfl (s1_X12_is hM0 10 (by omega)) gX12_readLine_X12_is rfl hdX12_is (by decide) (Nat.le_of_ble_eq_true rfl) dX12_readLine_42 rfl (fun r124 M125 h126 => ?_)
        obtain ⟨a128, rfl, rfl, h127⟩ := h126
        refine y_if_ne C 57 dX12_readLine_45 (by decide) (by omega) (fun h129 => ?_) (fun h129 => ?_)
        · refine j_aload_n C 0 0 dX12_readLine_57 rfl rfl ?_
          refine j_aload_n C 0 0 dX12_readLine_58 rfl rfl ?_
          refine y_getI C 11 _ _ fX12_readLine_108 rfl rfl ft_11_9 sb_11_9 hM0 dX12_readLine_59 (fun a130 ea130 la130 ua130 => ?_)
          obtain rfl : a130 = (M0.1 98 9).toInt := ea130
          have u132 : 10 ≤ (M0.1 98 9).toInt ∧ (M0.1 98 9).toInt ≤ 11 := by omega
          refine y_bipush C dX12_readLine_62 rfl ?_
          refine y_isub C dX12_readLine_64 ?_
          refine j_callVv C (d := 31) (As := [.int (sI ((M0.1 98 9).toInt - 10))]) (st := []) 98 (s_lt rfl rfl) (s_kc (c := 11) rfl rfl) (by decide) rfl (s1_X12_readLaw hM0 hpr ((M0.1 98 9).toInt - 10) (by omega) gf gn gi (by omega) (by omega) (by omega) (by omega) (by omega) (by omega) (by omega) (by omega)) gX12_readLine_X12_readLaw rfl hdX12_readLaw (by decide) (Nat.le_of_ble_eq_true rfl) dX12_readLine_65 rfl (fun M135 h136 => ?_)
          obtain ⟨hM135, fM135, h137⟩ := h136
          have bM135 := tkm_b (f := gf) (n := gn) (M := M135) (by omega)
          refine j_goto C 76 dX12_readLine_68 (by decide) ?_
          have u138r := li_l gf gn (M0.1 102 26).toInt (M0.1 102 1).toInt ((M0.1 98 9).toInt - 10) gi (M0.1 98 11).toInt (M0.1 98 12).toInt (M0.1 98 6).toInt (M135.1 98 11).toInt (M135.1 98 12).toInt (M135.1 98 6).toInt (by omega) (by omega) (by omega)
          have u138c := ck_li gf gn gi (M0.1 98 11).toInt (M0.1 98 6).toInt (M135.1 98 11).toInt (M135.1 102 26).toInt (M135.1 102 1).toInt (M135.1 102 0).toInt (M0.1 102 26).toInt (M0.1 102 1).toInt (M0.1 102 0).toInt (M0.1 102 26).toInt (M0.1 102 1).toInt (by omega) (by omega) (by omega) (by (clear u138r bM135 h137 fM135 hM135 u132 ua130 la130 k122 h121 h119 k115 k114 h113 h111 k107 k106 h105 ua103 la103 u101j u101l hret C hp4 hp3 hp2 hp1 hp0 hpr hM0; omega)) (by (clear u138r bM135 h137 fM135 hM135 u132 ua130 la130 k122 h121 h119 k115 k114 h113 h111 k107 k106 h105 ua103 la103 u101i u101l hret C hp4 hp3 hp2 hp1 hp0 hpr hM0; omega))
          have u138t : b01 (CT AGM (M135.1 98 11).toInt M0 M135 (liC gf gn (M0.1 102 26).toInt (M0.1 102 1).toInt gi)) = 1 := if z : ((M0.1 98 9).toInt - 10) = 0 then li_c1 gf gn (k := (M0.1 102 26).toInt) (b := (M0.1 102 1).toInt) (N := M135) (show b01 (CT AGM (M135.1 98 11).toInt M0 M135 (waC gf gn gi)) = 1 by omega) (show b01 (PO gn gi (M0.1 98 11).toInt (M0.1 98 6).toInt) = 1 by omega) (by omega) (Or.inr (Or.inr (Or.inl ⟨by omega, rfl⟩))) else li_c1 gf gn (k := (M0.1 102 26).toInt) (b := (M0.1 102 1).toInt) (N := M135) (show b01 (CT AGM (M135.1 98 11).toInt M0 M135 (leC gf gn gi)) = 1 by omega) (show b01 (PO gn gi (M0.1 98 11).toInt (M0.1 98 6).toInt) = 1 by omega) (by omega) (Or.inr (Or.inr (Or.inr ⟨by omega, rfl⟩)))
          exact hret _ _ _ dX12_readLine_76 ⟨hM135, (FR.rf.tr fM135 (by decide)), by omega⟩
        · refine j_aload_n C 0 0 dX12_readLine_48 rfl rfl ?_
          refine y_bipush C dX12_readLine_49 rfl ?_
          have k139 := tkm_K (f := gf) (n := gn) (M := M0) (by omega)
          have k140 := kd_2 (kdk_11 gf gn (M0.1 98 6).toInt) (by omega)
          refine j_callVi C (d := 0) (As := [.int (sI 11)]) (st := []) 98 (s_lt rfl rfl) (s_kc (c := 11) rfl rfl) (by decide) rfl (s1_X12_is hM0 11 (by omega)) gX12_readLine_X12_is rfl hdX12_is (by decide) (Nat.le_of_ble_eq_true rfl) dX12_readLine_51 rfl (fun r141 M142 h143 => ?_)
          obtain ⟨a145, rfl, rfl, h144⟩ := h143
          refine y_if_eq C 71 dX12_readLine_54 (by decide) (by omega) (fun h146 => ?_) (fun h146 => ?_)
          · refine j_aload_n C 0 0 dX12_readLine_71 rfl rfl ?_
            refine y_iconst C dX12_readLine_72 ?_
            refine j_callVv C (d := 0) (As := [.int (sI 2)]) (st := []) 98 (s_lt rfl rfl) (s_kc (c := 11) rfl rfl) (by decide) rfl (s1_X12_fails hM0 hpr 2 (by omega) gf gn gi (by omega) (by omega) (by omega) (by omega) (by omega)) gX12_readLine_X12_fails rfl hdX12_fails (by decide) (Nat.le_of_ble_eq_true rfl) dX12_readLine_73 rfl (fun M148 h149 => ?_)
            obtain ⟨hM148, fM148, h150⟩ := h149
            have bM148 := tkm_b (f := gf) (n := gn) (M := M148) (by omega)
            have qM148 := po_f gn ((faQ gf gn 2) gi).2.2 (M148.1 98 11).toInt (M148.1 98 6).toInt (by omega)
            have u151v := lv_c (M := M0) (N := M148) (FR.cell fM148 (by decide)) (by omega) (by omega)
            have u151r := li_5 gf gn (M0.1 102 26).toInt (M0.1 102 1).toInt gi (M0.1 98 11).toInt (M0.1 98 12).toInt (M0.1 98 6).toInt (M148.1 98 11).toInt (M148.1 98 12).toInt (M148.1 98 6).toInt (by omega) (by (clear u151v qM148 bM148 h150 fM148 hM148 k139 k122 k114 k106 ua103 la103 u101j u101i u101l hret C hp4 hp3 hp2 hp1 hp0 hpr hM0; omega)) (by omega)
            have u151d := ck_i (M148.1 98 11).toInt (M148.1 102 26).toInt (M148.1 102 1).toInt (M148.1 102 0).toInt (M0.1 102 26).toInt (M0.1 102 1).toInt (M0.1 102 0).toInt (by omega)
            have u151c := ck_li gf gn gi (M0.1 98 11).toInt (M0.1 98 6).toInt (M148.1 98 11).toInt (M148.1 102 26).toInt (M148.1 102 1).toInt (M148.1 102 0).toInt (M0.1 102 26).toInt (M0.1 102 1).toInt (M0.1 102 0).toInt (M0.1 102 26).toInt (M0.1 102 1).toInt (by omega) (by omega) (by omega) (by (clear u151d u151r u151v qM148 bM148 h150 fM148 hM148 h146 h144 k140 k139 h129 h127 k123 k122 h121 h119 k115 k114 k106 ua103 la103 u101j u101l hret C hp4 hp3 hp2 hp1 hp0 hpr hM0; omega)) (by (clear u151d u151r u151v qM148 bM148 h150 fM148 hM148 h146 h144 k140 k139 h129 h127 k123 k122 k114 h113 h111 k107 k106 ua103 la103 u101i u101l hret C hp4 hp3 hp2 hp1 hp0 hpr hM0; omega))
            have u151t := ct_n (A := AGM) (M := M0) (N := M148) (liC gf gn (M0.1 102 26).toInt (M0.1 102 1).toInt gi) (a := (M148.1 98 11).toInt) (by omega)
            have zz102_0 : (M148.1 102 0).toInt = (M0.1 102 0).toInt := s_fF fM148 (by decide) (rfl); have zz102_1 : (M148.1 102 1).toInt = (M0.1 102 1).toInt := s_fF fM148 (by decide) (rfl); have zz102_26 : (M148.1 102 26).toInt = (M0.1 102 26).toInt := s_fF fM148 (by decide) (rfl); exact hret _ _ _ dX12_readLine_76 ⟨hM148, (FR.rf.tr fM148 (by decide)), by omega⟩
          · refine j_aload_n C 0 0 dX12_readLine_57 rfl rfl ?_
            refine j_aload_n C 0 0 dX12_readLine_58 rfl rfl ?_
            refine y_getI C 11 _ _ fX12_readLine_108 rfl rfl ft_11_9 sb_11_9 hM0 dX12_readLine_59 (fun a152 ea152 la152 ua152 => ?_)
            obtain rfl : a152 = (M0.1 98 9).toInt := ea152
            have u154 : 10 ≤ (M0.1 98 9).toInt ∧ (M0.1 98 9).toInt ≤ 11 := by omega
            refine y_bipush C dX12_readLine_62 rfl ?_
            refine y_isub C dX12_readLine_64 ?_
            refine j_callVv C (d := 31) (As := [.int (sI ((M0.1 98 9).toInt - 10))]) (st := []) 98 (s_lt rfl rfl) (s_kc (c := 11) rfl rfl) (by decide) rfl (s1_X12_readLaw hM0 hpr ((M0.1 98 9).toInt - 10) (by omega) gf gn gi (by omega) (by omega) (by omega) (by omega) (by omega) (by omega) (by omega) (by omega)) gX12_readLine_X12_readLaw rfl hdX12_readLaw (by decide) (Nat.le_of_ble_eq_true rfl) dX12_readLine_65 rfl (fun M157 h158 => ?_)
            obtain ⟨hM157, fM157, h159⟩ := h158
            have bM157 := tkm_b (f := gf) (n := gn) (M := M157) (by omega)
            refine j_goto C 76 dX12_readLine_68 (by decide) ?_
            have u160r := li_l gf gn (M0.1 102 26).toInt (M0.1 102 1).toInt ((M0.1 98 9).toInt - 10) gi (M0.1 98 11).toInt (M0.1 98 12).toInt (M0.1 98 6).toInt (M157.1 98 11).toInt (M157.1 98 12).toInt (M157.1 98 6).toInt (by omega) (by omega) (by omega)
            have u160c := ck_li gf gn gi (M0.1 98 11).toInt (M0.1 98 6).toInt (M157.1 98 11).toInt (M157.1 102 26).toInt (M157.1 102 1).toInt (M157.1 102 0).toInt (M0.1 102 26).toInt (M0.1 102 1).toInt (M0.1 102 0).toInt (M0.1 102 26).toInt (M0.1 102 1).toInt (by omega) (by omega) (by omega) (by (clear u160r bM157 h159 fM157 hM157 u154 ua152 la152 k139 h129 h127 k123 k122 h121 h119 k115 k114 h113 h111 k107 k106 h105 ua103 la103 u101j u101l hret C hp4 hp3 hp2 hp1 hp0 hpr hM0; omega)) (by (clear u160r bM157 h159 fM157 hM157 u154 ua152 la152 k139 h129 h127 k123 k122 h121 h119 k115 k114 h113 h111 k107 k106 h105 ua103 la103 u101i u101l hret C hp4 hp3 hp2 hp1 hp0 hpr hM0; omega))
            have u160t : b01 (CT AGM (M157.1 98 11).toInt M0 M157 (liC gf gn (M0.1 102 26).toInt (M0.1 102 1).toInt gi)) = 1 := if z : ((M0.1 98 9).toInt - 10) = 0 then li_c1 gf gn (k := (M0.1 102 26).toInt) (b := (M0.1 102 1).toInt) (N := M157) (show b01 (CT AGM (M157.1 98 11).toInt M0 M157 (waC gf gn gi)) = 1 by omega) (show b01 (PO gn gi (M0.1 98 11).toInt (M0.1 98 6).toInt) = 1 by omega) (by omega) (Or.inr (Or.inr (Or.inl ⟨by omega, rfl⟩))) else li_c1 gf gn (k := (M0.1 102 26).toInt) (b := (M0.1 102 1).toInt) (N := M157) (show b01 (CT AGM (M157.1 98 11).toInt M0 M157 (leC gf gn gi)) = 1 by omega) (show b01 (PO gn gi (M0.1 98 11).toInt (M0.1 98 6).toInt) = 1 by omega) (by omega) (Or.inr (Or.inr (Or.inr ⟨by omega, rfl⟩)))
            exact hret _ _ _ dX12_readLine_76 ⟨hM157, (FR.rf.tr fM157 (by decide)), by omega⟩
      · refine j_aload_n C 0 0 dX12_readLine_32 rfl rfl ?_
        refine j_callVv C (d := 8) (As := []) (st := []) 98 (s_lt rfl rfl) (s_kc (c := 11) rfl rfl) (by decide) rfl (s1_X12_readBuyer hM0 hpr gf gn gi (by omega) (by omega) (by omega) (by omega) (by omega) (by omega) (by omega)) gX12_readLine_X12_readBuyer rfl hdX12_readBuyer (by decide) (Nat.le_of_ble_eq_true rfl) dX12_readLine_33 rfl (fun M162 h163 => ?_)
        obtain ⟨hM162, fM162, h164⟩ := h163
        have bM162 := tkm_b (f := gf) (n := gn) (M := M162) (by omega)
        refine j_goto C 76 dX12_readLine_36 (by decide) ?_
        have u165r := li_2 gf gn (M0.1 102 26).toInt (M0.1 102 1).toInt gi (M0.1 98 11).toInt (M0.1 98 12).toInt (M0.1 98 6).toInt (M162.1 98 11).toInt (M162.1 98 12).toInt (M162.1 98 6).toInt (by omega) (by omega) (by omega)
        have u165c := ck_li gf gn gi (M0.1 98 11).toInt (M0.1 98 6).toInt (M162.1 98 11).toInt (M162.1 102 26).toInt (M162.1 102 1).toInt (M162.1 102 0).toInt (M0.1 102 26).toInt (M0.1 102 1).toInt (M0.1 102 0).toInt (M0.1 102 26).toInt ((M0.1 102 1).toInt + 1) (by omega) (by omega) (by omega) (by omega) (by omega)
        have u165t : b01 (CT AGM (M162.1 98 11).toInt M0 M162 (liC gf gn (M0.1 102 26).toInt (M0.1 102 1).toInt gi)) = 1 := li_c1 gf gn (k := (M0.1 102 26).toInt) (b := (M0.1 102 1).toInt) (N := M162) (show b01 (CT AGM (M162.1 98 11).toInt M0 M162 (buC gf gn (M0.1 102 1).toInt gi)) = 1 by omega) (show b01 (PO gn gi (M0.1 98 11).toInt (M0.1 98 6).toInt) = 1 by omega) (by omega) (Or.inr (Or.inl ⟨by omega, rfl⟩))
        exact hret _ _ _ dX12_readLine_76 ⟨hM162, (FR.rf.tr fM162 (by decide)), by omega⟩
    · refine j_aload_n C 0 0 dX12_readLine_16 rfl rfl ?_
      refine j_callVv C (d := 8) (As := []) (st := []) 98 (s_lt rfl rfl) (s_kc (c := 11) rfl rfl) (by decide) rfl (s1_X12_readKind hM0 hpr gf gn gi (by omega) (by omega) (by omega) (by omega) (by omega) (by omega) (by omega)) gX12_readLine_X12_readKind rfl hdX12_readKind (by decide) (Nat.le_of_ble_eq_true rfl) dX12_readLine_17 rfl (fun M167 h168 => ?_)
      obtain ⟨hM167, fM167, h169⟩ := h168
      have bM167 := tkm_b (f := gf) (n := gn) (M := M167) (by omega)
      refine j_goto C 76 dX12_readLine_20 (by decide) ?_
      have u170r := li_1 gf gn (M0.1 102 26).toInt (M0.1 102 1).toInt gi (M0.1 98 11).toInt (M0.1 98 12).toInt (M0.1 98 6).toInt (M167.1 98 11).toInt (M167.1 98 12).toInt (M167.1 98 6).toInt (by omega) (by omega) (by omega)
      have u170c := ck_li gf gn gi (M0.1 98 11).toInt (M0.1 98 6).toInt (M167.1 98 11).toInt (M167.1 102 26).toInt (M167.1 102 1).toInt (M167.1 102 0).toInt (M0.1 102 26).toInt (M0.1 102 1).toInt (M0.1 102 0).toInt ((M0.1 102 26).toInt + 1) (M0.1 102 1).toInt (by omega) (by omega) (by omega) (by omega) (by omega)
      have u170t : b01 (CT AGM (M167.1 98 11).toInt M0 M167 (liC gf gn (M0.1 102 26).toInt (M0.1 102 1).toInt gi)) = 1 := li_c1 gf gn (k := (M0.1 102 26).toInt) (b := (M0.1 102 1).toInt) (N := M167) (show b01 (CT AGM (M167.1 98 11).toInt M0 M167 (kiC gf gn (M0.1 102 26).toInt gi)) = 1 by omega) (show b01 (PO gn gi (M0.1 98 11).toInt (M0.1 98 6).toInt) = 1 by omega) (by omega) (Or.inl ⟨by omega, rfl⟩)
      exact hret _ _ _ dX12_readLine_76 ⟨hM167, (FR.rf.tr fM167 (by decide)), by omega⟩
  · have u171r := rr_no (liP gf gn (M0.1 102 26).toInt (M0.1 102 1).toInt gi) (M0.1 98 11).toInt (M0.1 98 12).toInt (M0.1 98 11).toInt (M0.1 98 12).toInt (M0.1 98 6).toInt (by omega) rfl rfl
    have u171c := ck_i (M0.1 98 11).toInt (M0.1 102 26).toInt (M0.1 102 1).toInt (M0.1 102 0).toInt (inc (tkF gf gn gi) 1003 (M0.1 102 26).toInt) (inc (tkF gf gn gi) 1009 (M0.1 102 1).toInt) (M0.1 102 0).toInt (by omega)
    have u171t := ct_n (A := AGM) (M := M0) (N := M0) (liC gf gn (M0.1 102 26).toInt (M0.1 102 1).toInt gi) (a := (M0.1 98 11).toInt) (by omega)
    exact hret _ _ _ dX12_readLine_7 ⟨hM0, FR.rf, by omega⟩
