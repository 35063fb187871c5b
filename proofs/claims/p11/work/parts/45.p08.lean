set_option maxHeartbeats 4000000 in
theorem s1_X12_shop {l : Launch} {dC : Nat → ClassId} {dI : Nat → Nat → Nat} {ad : Nat → Nat} {cA : Nat → ClassId} {pr : Nat → Nat → Bool} {Kz : mm_M} {M0 : mm_M} (hM0 : INV pr Kz M0) (hpr : PM pr) (hq11_5 : ∀ i, s_c i = 11 → pr i 5 = false) (hq11_13 : ∀ i, s_c i = 11 → pr i 13 = false) (hq11_14 : ∀ i, s_c i = 11 → pr i 14 = false) (hq45 : ∀ i k, s_c i = 45 → pr i k = false) (a1 : Int) (ha1 : -2147483648 ≤ a1 ∧ a1 ≤ 2147483647) (hp0 : b01 (CWA M0) = 1) (hp1 : b01 (PI M0) = 1) : Ci l 33 yX12_shop wsX12_shop dC dI ad cA [.ref (ad 98), .int (sI a1)] M0 (fun r M' => ∃ a : Int, r = sI a ∧ INV pr Kz M' ∧ FR [98, 99, 102] M0 M' ∧ (-2147483648) ≤ a ∧ a ≤ 2147483647 ∧ (b01 (CWA M') = 1) ∧ (0 ≤ a1 ∧ a1 ≤ (M0.1 98 5).toInt ∧ (M'.1 98 5).toInt = 0 ∧ (M'.1 98 13).toInt = (rdP (mskT (M0.1 101) a1) a1).1 ∧ ((rdP (mskT (M0.1 101) a1) a1).1 = 0 ∧ (M'.1 98 14).toInt = -1 ∧ a = (rdP (mskT (M0.1 101) a1) a1).2.2 ∨ ¬ (rdP (mskT (M0.1 101) a1) a1).1 = 0 ∧ (M'.1 98 14).toInt = (rdP (mskT (M0.1 101) a1) a1).2.1 ∧ a = sbN (rdP (mskT (M0.1 101) a1) a1).1) ∨ (a1 < 0 ∨ (M0.1 98 5).toInt < a1) ∧ a = -3 ∧ (M'.1 98 5).toInt = (M0.1 98 5).toInt ∧ (M'.1 98 13).toInt = (M0.1 98 13).toInt ∧ (M'.1 98 14).toInt = (M0.1 98 14).toInt) ∧ ((a1 < 0 ∨ (M0.1 98 5).toInt < a1) ∨ ¬ (rdP (mskT (M0.1 101) a1) a1).1 = 0 ∨ b01 (RWS (mskT (M0.1 101) a1) a1 M') = 1 ∧ b01 (RWH M0 M') = 1) ∧ ((0 ≤ a1 ∧ a1 ≤ (M0.1 98 5).toInt ∧ (rdP (mskT (M0.1 101) a1) a1).1 = 0) ∨ b01 (S99 M0 M') = 1) ∧ (b01 (PI M') = 1)) := by
  refine ci_of (cc := cX12_shop) (maxL := 3) (ty := .int) (lv := [(0, .ref (ad 98)), (1, .int (sI a1))]) (by decide) rfl (fun r M' hp => rfl) (Nat.le_of_ble_eq_true rfl) rfl ?_
  intro p e s m args below meth c A Q C hret
  refine j_aload_n C 0 0 dX12_shop_0 rfl rfl ?_
  refine y_iconst C dX12_shop_1 ?_
  refine y_putIF C 11 qX12_shop_1 rfl rfl ft_11_0 sb_11_0 hM0 (PM.w hpr rfl rfl) dX12_shop_2 (fun M101 eM101 hM101 => ?_)
  have pM101 := pi_o eM101 (by decide) (by decide) (by exact hp1)
  refine j_iload_n C 1 1 dX12_shop_5 rfl rfl ?_
  refine y_i2l C dX12_shop_6 (by exact ⟨ha1.1, ha1.2⟩) ?_
  refine y_lconst C 0 dX12_shop_7 rfl ?_
  refine j_aload_n C 0 0 dX12_shop_8 rfl rfl ?_
  refine y_getI C 11 _ _ fX12_shop_80 rfl rfl ft_11_5 sb_11_5 hM101 dX12_shop_9 (fun a102 ea102 la102 ua102 => ?_)
  obtain rfl : a102 = (M0.1 98 5).toInt := s_fb eM101 (by decide) (ea102)
  refine y_i2l C dX12_shop_12 (by (clear pM101 hM101 eM101 hret C hp1 hp0 ha1 hq45 hq11_14 hq11_13 hq11_5 hpr hM0; omega)) ?_
  refine j_callSi C (d := 0) (As := [.long (sJ a1), .long (sJ 0), .long (sJ (M0.1 98 5).toInt)]) (st := []) (s1_X12_within hM101 a1 (by omega) 0 (by exact ⟨(by decide), (by decide)⟩) (M0.1 98 5).toInt (by (clear pM101 hM101 eM101 hret C hp1 hp0 ha1 hq45 hq11_14 hq11_13 hq11_5 hpr hM0; omega))) gX12_shop_X12_within rfl hdX12_withins (by decide) (Nat.le_of_ble_eq_true rfl) dX12_shop_13 rfl (fun r104 M105 h106 => ?_)
  obtain ⟨a108, rfl, rfl, h107⟩ := h106
  refine y_if_ne C 22 dX12_shop_16 (by decide) (by omega) (fun h109 => ?_) (fun h109 => ?_)
  · refine j_aload_n C 0 0 dX12_shop_22 rfl rfl ?_
    have hbd : 0 ≤ a1 ∧ a1 ≤ (M0.1 98 5).toInt := by (clear ua102 la102 pM101 hM101 eM101 hret C hp1 hp0 hq45 hq11_14 hq11_13 hq11_5 hpr hM0; omega)
    clear h107
    refine j_iload_n C 1 1 dX12_shop_23 rfl rfl ?_
    refine y_putI C 11 _ _ qX12_shop_83 rfl rfl ft_11_8 sb_11_8 hM101 (PM.w hpr rfl rfl) dX12_shop_24 (by exact ⟨⟨ha1.1, ha1.2⟩, ⟨hbd.1, (by (clear h109 pM101 hM101 eM101 hret C hp1 hp0 hq45 hq11_14 hq11_13 hq11_5 hpr hM0; omega))⟩⟩) (fun M110 eM110 hM110 => ?_)
    have pM110 := pi_o eM110 (by decide) (by decide) (by exact pM101)
    refine j_aload_n C 0 0 dX12_shop_27 rfl rfl ?_
    refine y_iconst C dX12_shop_28 ?_
    refine y_putI C 11 _ _ qX12_shop_80 rfl rfl ft_11_5 sb_11_5 hM110 (hq11_5 _ rfl) dX12_shop_29 (by exact ⟨⟨(by decide), (by decide)⟩, ⟨(by decide), (by decide)⟩⟩) (fun M111 eM111 hM111 => ?_)
    have pM111 := pi_o eM111 (by decide) (by decide) (by exact pM110)
    have hz0 : (M111.1 98 5).toInt = 0 := s_wr eM111 (by exact ⟨(by decide), (by decide)⟩)
    obtain ⟨pr, Kz, hpr, hM111, hne, hbk⟩ := fzMp 98 5 rfl hpr hM111
    have hq45 : ∀ i k, s_c i = 45 → pr i k = false := fun i k h => hne i k (fun z => by rw [z.1] at h; exact absurd h (by decide)) (hq45 i k h)
    have hq11_13 : ∀ i, s_c i = 11 → pr i 13 = false := fun i h => hne i 13 (fun z => absurd z.2 (by decide)) (hq11_13 i h)
    have hq11_14 : ∀ i, s_c i = 11 → pr i 14 = false := fun i h => hne i 14 (fun z => absurd z.2 (by decide)) (hq11_14 i h)
    obtain ⟨gf, hgf⟩ : ∃ g : Nat → Int, g = mskT (M0.1 101) a1 := ⟨_, rfl⟩
    obtain ⟨gn, hgn⟩ : ∃ n : Int, n = a1 := ⟨_, rfl⟩
    have hgf : gf = mskT (M0.1 101) gn := by rw [hgn]; exact hgf
    have u112l := runE_le blB gf gn 0 (by omega)
    refine j_aload_n C 0 0 dX12_shop_32 rfl rfl ?_
    refine y_iconst C dX12_shop_33 ?_
    refine y_putI C 11 _ _ qX12_shop_101 rfl rfl ft_11_7 sb_11_7 hM111 (PM.w hpr rfl rfl) dX12_shop_34 (by exact ⟨⟨(by decide), (by decide)⟩, ⟨(by decide), (by decide)⟩⟩) (fun M113 eM113 hM113 => ?_)
    have pM113 := pi_o eM113 (by decide) (by decide) (by exact pM111)
    refine j_aload_n C 0 0 dX12_shop_37 rfl rfl ?_
    refine y_iconst C dX12_shop_38 ?_
    refine y_putIF C 11 qX12_shop_126 rfl rfl ft_11_11 sb_11_11 hM113 (PM.w hpr rfl rfl) dX12_shop_39 (fun M114 eM114 hM114 => ?_)
    have pM114 := pi_o eM114 (by decide) (by decide) (by exact pM113)
    refine j_aload_n C 0 0 dX12_shop_42 rfl rfl ?_
    refine y_getC C 11 102 fX12_shop_24 rfl rfl ft_11_4 sm_11_4 rfl hM114 dX12_shop_43 ?_
    refine j_callSv C (d := 0) (As := [.ref (ad 102)]) (st := []) (s1_X12_plain hM114 hpr (by exact pM114)) gX12_shop_X12_plain rfl hdX12_plains (by decide) (Nat.le_of_ble_eq_true rfl) dX12_shop_46 rfl (fun M116 h117 => ?_)
    obtain ⟨hM116, fM116, h118⟩ := h117
    have zz98_7 := (Eq.trans (s_fb eM114 (by decide) (s_fF fM116 (by decide) (rfl)) : (M116.1 98 7).toInt = (M113.1 98 7).toInt) (s_wr eM113 (by exact ⟨(by decide), (by decide)⟩)))
    have zz98_8 := (Eq.trans (s_fb eM111 (by decide) (s_fb eM113 (by decide) (s_fb eM114 (by decide) (s_fF fM116 (by decide) (rfl)))) : (M116.1 98 8).toInt = (M110.1 98 8).toInt) (s_wr eM110 (by exact ⟨ha1.1, ha1.2⟩)))
    have zz98_11 := (Eq.trans (s_fF fM116 (by decide) (rfl) : (M116.1 98 11).toInt = (M114.1 98 11).toInt) (s_wr eM114 (by exact ⟨(by decide), (by decide)⟩)))
    have u119T := tpm_0 (n := gn) (M := M0) (M' := M116) hgf (show M116.1 101 = M0.1 101 from ((((((FR.cell fM116 (by decide)).trans (wI_cell eM114 (by decide))).trans (wI_cell eM113 (by decide))).trans (wI_cell eM111 (by decide))).trans (wI_cell eM110 (by decide))).trans (wI_cell eM101 (by decide)))) (by omega)
    have u119c := run_c blB gf gn (M116.1 98 7).toInt 0
    have u119p := zr_p (M := M116) (by exact h118.1)
    refine j_aload_n C 0 0 dX12_shop_49 rfl rfl ?_
    have zz98_7 := (Eq.trans (s_fb eM114 (by decide) (s_fF fM116 (by decide) (rfl)) : (M116.1 98 7).toInt = (M113.1 98 7).toInt) (s_wr eM113 (by exact ⟨(by decide), (by decide)⟩)))
    have zz98_8 := (Eq.trans (s_fb eM111 (by decide) (s_fb eM113 (by decide) (s_fb eM114 (by decide) (s_fF fM116 (by decide) (rfl)))) : (M116.1 98 8).toInt = (M110.1 98 8).toInt) (s_wr eM110 (by exact ⟨ha1.1, ha1.2⟩)))
    refine j_callVv C (d := 5) (As := []) (st := []) 98 (s_lt rfl rfl) (s_kc (c := 11) rfl rfl) (by decide) rfl (s1_X12_next hM116 hpr gf gn (by omega) (by omega) (by exact u119T) (by exact h118.2)) gX12_shop_X12_next rfl hdX12_next (by decide) (Nat.le_of_ble_eq_true rfl) dX12_shop_50 rfl (fun M121 h122 => ?_)
    obtain ⟨hM121, fM121, h123⟩ := h122
    have u124C := cwa_c (M := M0) (N := M121) (show M121.1 99 = M0.1 99 from (((((((FR.cell fM121 (by decide)).trans (FR.cell fM116 (by decide))).trans (wI_cell eM114 (by decide))).trans (wI_cell eM113 (by decide))).trans (wI_cell eM111 (by decide))).trans (wI_cell eM110 (by decide))).trans (wI_cell eM101 (by decide)))) (by exact hp0)
    have u124z := zr_c (M := M116) (N := M121) (k := 1181) (FR.cell fM121 (by decide)) (by exact h118.1)
    have u124l := ri_l (M := M121) (by exact h123.1)
    have u124v := lv_z (M := M121) (by exact u124z) (by exact u124l.1)
    have u124p := zr_p (M := M121) (by exact u124z)
    have k125 := tkm_K (f := gf) (n := gn) (M := M121) (by exact h123.2.2.2.2.1)
    have u124q := po_mk gn (runE blB gf gn 0) (M121.1 98 11).toInt (M121.1 98 6).toInt (by omega) (by exact ⟨k125.2.1, k125.2.2⟩)
    refine j_aload_n C 0 0 dX12_shop_53 rfl rfl ?_
    refine y_iconst C dX12_shop_54 ?_
    have k126 := tkm_K (f := gf) (n := gn) (M := M121) (by exact h123.2.2.2.2.1)
    have k127 := kd_2 (kdk_0 gf gn (M121.1 98 6).toInt) (by exact u124l.1)
    refine j_callVi C (d := 6) (As := [.int (sI 0)]) (st := []) 98 (s_lt rfl rfl) (s_kc (c := 11) rfl rfl) (by decide) rfl (s1_X12_eats hM121 hpr 0 (by exact ⟨(by decide), (by decide)⟩) gf gn (runE blB gf gn 0) (by exact h123.1) (by exact (by decide)) (by exact h123.2.2.2.2.1) (by exact u124q) (by exact h123.2.2.2.2.2.2.2)) gX12_shop_X12_eats rfl hdX12_eats (by decide) (Nat.le_of_ble_eq_true rfl) dX12_shop_55 rfl (fun r128 M129 h130 => ?_)
    obtain ⟨a132, rfl, hM129, fM129, h131⟩ := h130
    have k133 := tk_c gf gn (M129.1 98 6).toInt (M121.1 98 6).toInt
    have bM129 := tkm_b (f := gf) (n := gn) (M := M129) (by exact h131.2.2.2.2.2.2.2)
    have u134v := lv_c (M := M121) (N := M129) (FR.cell fM129 (by decide)) (by omega) (by exact u124v)
    have u134l := ri_l (M := M129) (by exact h131.2.2.1)
    have u134C := cwa_c (M := M121) (N := M129) (FR.cell fM129 (by decide)) (by exact u124C)
    have J144 : ∀ (M143 : mm_M), ((b01 (RIP M143) = 1) ∧ (b01 (LV M143) = 1) ∧ (b01 (CWA M143) = 1) ∧ (b01 (RR (exP gf gn 1008 (runE blB gf gn 0)) (M121.1 98 11).toInt (M121.1 98 12).toInt (M143.1 98 11).toInt (M143.1 98 12).toInt (M143.1 98 6).toInt) = 1) ∧ ((M143.1 102 26).toInt = 0 ∧ (M143.1 102 1).toInt = 0 ∧ (M143.1 102 0).toInt = 0) ∧ (b01 (CT AGR 0 M121 M143 (fun T => T)) = 1) ∧ (b01 (S99 M0 M143) = 1) ∧ (b01 (TKM gf gn M143) = 1) ∧ (b01 (PO gn (exP gf gn 1008 (runE blB gf gn 0)).2.2 (M143.1 98 11).toInt (M143.1 98 6).toInt) = 1) ∧ (b01 (PI M143) = 1)) → INV pr Kz M143 → FR [98, 99, 102] M0 M143 → jj p l e (cn_R 33) s m args below meth c 0 0 Q 3 dC dI ad cA A M143 66 [(0, .ref (ad 98))] [] := by
      intro M143 h145 hM143 fM143
      clear u119c k127 h131 k133
      have u147l := ri_l (M := M143) (by exact h145.1)
      refine j_aload_n C 0 0 dX12_shop_66 rfl rfl ?_
      refine j_callVv C (d := 7) (As := []) (st := []) 98 (s_lt rfl rfl) (s_kc (c := 11) rfl rfl) (by decide) rfl (s1_X12_ends hM143 hpr gf gn (exP gf gn 1008 (runE blB gf gn 0)).2.2 (by exact h145.1) (by exact h145.2.1) (by omega) (by exact h145.2.2.2.2.2.2.2.1) (by exact h145.2.2.2.2.2.2.2.2.1) (by exact h145.2.2.2.2.2.2.2.2.2)) gX12_shop_X12_ends rfl hdX12_ends (by decide) (Nat.le_of_ble_eq_true rfl) dX12_shop_67 rfl (fun M149 h150 => ?_)
      obtain ⟨hM149, fM149, h151⟩ := h150
      have bM149 := tkm_b (f := gf) (n := gn) (M := M149) (by exact h151.2.2.2.2.2.2.2.2.1)
      have qM149 := po_rr (exP gf gn 2059) gn (exP gf gn 1008 (runE blB gf gn 0)).2.2 (M143.1 98 11).toInt (M143.1 98 12).toInt (M143.1 98 6).toInt (M149.1 98 11).toInt (M149.1 98 12).toInt (M149.1 98 6).toInt (ex_g gf gn 2059 (by decide)) (by exact h145.2.2.2.2.2.2.2.2.1) (by exact h151.2.2.2.2.2.2.2.2.2)
      have u152l := ri_l (M := M149) (by exact h151.1)
      have u152w := w01_s M149
      have u152C := cwa_c (M := M143) (N := M149) (FR.cell fM149 (by decide)) (by exact h145.2.2.1)
      have u152Z := ck_z (M149.1 98 11).toInt (M149.1 102 26).toInt (M149.1 102 1).toInt (M149.1 102 0).toInt (M143.1 102 26).toInt (M143.1 102 1).toInt (M143.1 102 0).toInt (by exact h151.2.2.2.2.2.1) (by exact h145.2.2.2.2.1.1) (by exact h145.2.2.2.2.1.2.1) (by exact h145.2.2.2.2.1.2.2)
      have u152L := lm_1z gf gn ((exP gf gn 2059) (exP gf gn 1008 (runE blB gf gn 0)).2.2).2.2 (M149.1 102 26).toInt (M149.1 102 1).toInt (M149.1 102 0).toInt (M149.1 98 11).toInt (M149.1 98 12).toInt (M149.1 98 6).toInt (by exact u152Z) (by exact qM149)
      have u152e := ck_e (a' := (M149.1 98 11).toInt) (k := (M149.1 102 26).toInt) (m := (M149.1 102 1).toInt) (l := (M149.1 102 0).toInt) (k0 := 0) (m0 := 0) (l0 := 1) (by exact u152Z)
      have u152x := lx_i gf gn (A := AGM) (M149.1 98 11).toInt ((exP gf gn 2059) (exP gf gn 1008 (runE blB gf gn 0)).2.2).2.2 (M149.1 102 26).toInt (M149.1 102 1).toInt M149 (by omega)
      have u152s : b01 (S99 M0 M149) = 1 := b01_i (((FR.cell fM149 (by decide))).trans (b01_e (show b01 (S99 M0 M143) = 1 by exact h145.2.2.2.2.2.2.1)))
      have L178 : ∀ (n176 : Nat), ∀ (M179 : mm_M) (gq180 : Int), ((b01 (RIP M179) = 1) ∧ (b01 (LV M179) = 1) ∧ (b01 (CWA M179) = 1) ∧ (0 ≤ (M179.1 98 6).toInt ∧ (M179.1 98 6).toInt ≤ 900) ∧ (0 ≤ w01 M179 ∧ w01 M179 ≤ 1) ∧ (¬ (M179.1 98 11).toInt = 0 ∨ 0 ≤ (M179.1 102 0).toInt ∧ (M179.1 102 0).toInt ≤ (M179.1 98 6).toInt + 1) ∧ (b01 (LM gf gn ((exP gf gn 2059) (exP gf gn 1008 (runE blB gf gn 0)).2.2).2.2 0 0 1 gq180 0 (M179.1 102 26).toInt (M179.1 102 1).toInt (M179.1 102 0).toInt (M149.1 98 11).toInt (M149.1 98 12).toInt (M179.1 98 11).toInt (M179.1 98 12).toInt (M179.1 98 6).toInt) = 1) ∧ (b01 (LX AGM gf gn (M179.1 98 11).toInt ((exP gf gn 2059) (exP gf gn 1008 (runE blB gf gn 0)).2.2).2.2 gq180 (M179.1 102 26).toInt (M179.1 102 1).toInt M149 M179) = 1) ∧ (b01 (S99 M0 M179) = 1) ∧ (b01 (TKM gf gn M179) = 1) ∧ (b01 (PO gn gq180 (M179.1 98 11).toInt (M179.1 98 6).toInt) = 1) ∧ (b01 (PI M179) = 1) ∧ (2 * (900 - (M179.1 98 6).toInt) + w01 M179) < (n176 : Int)) → INV pr Kz M179 → FR [98, 99, 102] M0 M179 → jj p l e (cn_R 33) s m args below meth c 0 0 Q 3 dC dI ad cA A M179 70 [(0, .ref (ad 98))] [] := by
        intro n176
        induction n176 with
        | zero =>
          intro M179 gq180 h181 hM179 fM179
          exfalso; omega
        | succ n176 ih177 =>
          intro M179 gq180 h181 hM179 fM179
          clear u147l u152l u152w u152e
          have u182w := w01_s M179
          have u182B := tkm_b (f := gf) (n := gn) (M := M179) (by exact h181.2.2.2.2.2.2.2.2.2.1)
          have k183 := tkm_K (f := gf) (n := gn) (M := M179) (by exact h181.2.2.2.2.2.2.2.2.2.1)
          have k184 := kd_2 (kdk_24 gf gn (M179.1 98 6).toInt) (by exact h181.2.2.2.1.1)
          refine j_aload_n C 0 0 dX12_shop_70 rfl rfl ?_
          refine y_getI C 11 _ _ fX12_shop_126 rfl rfl ft_11_11 sb_11_11 hM179 dX12_shop_71 (fun a185 ea185 la185 ua185 => ?_)
          obtain rfl : a185 = (M179.1 98 11).toInt := ea185
          refine y_if_ne C 97 dX12_shop_74 (by decide) (by exact ⟨la185, ua185⟩) (fun h187 => ?_) (fun h187 => ?_)
          · have u203y : b01 (CT AGM (M179.1 98 11).toInt M149 M179 (mqC gf gn ((exP gf gn 2059) (exP gf gn 1008 (runE blB gf gn 0)).2.2).2.2 0 0)) = 1 := lx_y (f := gf) (n := gn) (show b01 (LX AGM gf gn (M179.1 98 11).toInt ((exP gf gn 2059) (exP gf gn 1008 (runE blB gf gn 0)).2.2).2.2 gq180 (M179.1 102 26).toInt (M179.1 102 1).toInt M149 M179) = 1 by exact h181.2.2.2.2.2.2.2.1) (show b01 (LM gf gn ((exP gf gn 2059) (exP gf gn 1008 (runE blB gf gn 0)).2.2).2.2 0 0 1 gq180 0 (M179.1 102 26).toInt (M179.1 102 1).toInt (M179.1 102 0).toInt (M149.1 98 11).toInt (M149.1 98 12).toInt (M179.1 98 11).toInt (M179.1 98 12).toInt (M179.1 98 6).toInt) = 1 by exact h181.2.2.2.2.2.2.1) (by omega)
            have u203w : ¬ (M179.1 98 11).toInt = 0 ∨ AGM M149 (0, 0, 0, 0) T0 := by
              by_cases z : (M179.1 98 11).toInt = 0
              · right
                have z1 : (M149.1 98 11).toInt = 0 := lm_z (show b01 (LM gf gn ((exP gf gn 2059) (exP gf gn 1008 (runE blB gf gn 0)).2.2).2.2 0 0 1 gq180 0 (M179.1 102 26).toInt (M179.1 102 1).toInt (M179.1 102 0).toInt (M149.1 98 11).toInt (M149.1 98 12).toInt (M179.1 98 11).toInt (M179.1 98 12).toInt (M179.1 98 6).toInt) = 1 by exact h181.2.2.2.2.2.2.1) z
                have k := (b01_e (show b01 (CT AGM (M149.1 98 11).toInt M143 M149 (fun T => uT T 0 (T 0 + 1))) = 1 by exact h151.2.2.2.2.2.2.1)).resolve_left (fun w => w z1) (0, 0, 0, 0) _ (agm_c (ct_i (show b01 (CT AGR 0 M121 M143 (fun T => T)) = 1 by exact h145.2.2.2.2.2.1)) _ _ (agm_0 (show b01 (ZR M121 1181) = 1 by exact u124z) (0, 0, 0, 0)))
                have e : T0 = uT (fun _ => 0) 0 ((fun _ => (0 : Int)) 0 + 1) := rfl
                rw [e]; exact k
              · exact Or.inl z
            have u203d := rdx_i gf gn (A := AGM) (MB := M149) (M := M179) (ct_e u203y (fun z T => by
              have z1 : (M149.1 98 11).toInt = 0 := lm_z (show b01 (LM gf gn ((exP gf gn 2059) (exP gf gn 1008 (runE blB gf gn 0)).2.2).2.2 0 0 1 gq180 0 (M179.1 102 26).toInt (M179.1 102 1).toInt (M179.1 102 0).toInt (M149.1 98 11).toInt (M149.1 98 12).toInt (M179.1 98 11).toInt (M179.1 98 12).toInt (M179.1 98 6).toInt) = 1 by exact h181.2.2.2.2.2.2.1) z
              have z2 := rr_z (show b01 (RR (exP gf gn 2059 (exP gf gn 1008 (runE blB gf gn 0)).2.2) (M143.1 98 11).toInt (M143.1 98 12).toInt (M149.1 98 11).toInt (M149.1 98 12).toInt (M149.1 98 6).toInt) = 1 by exact h151.2.2.2.2.2.2.2.2.2) z1
              rw [hd_e gf gn (rr_v (show b01 (RR (exP gf gn 1008 (runE blB gf gn 0)) (M121.1 98 11).toInt (M121.1 98 12).toInt (M143.1 98 11).toInt (M143.1 98 12).toInt (M143.1 98 6).toInt) = 1 by exact h145.2.2.2.1) z2).1])) (0, 0, 0, 0) u203w
            have u203E := rd_e gf gn gq180 0 (M179.1 102 26).toInt (M179.1 102 1).toInt (M179.1 102 0).toInt (M121.1 98 11).toInt (M121.1 98 12).toInt (M143.1 98 11).toInt (M143.1 98 12).toInt (M143.1 98 6).toInt (M149.1 98 11).toInt (M149.1 98 12).toInt (M149.1 98 6).toInt (M179.1 98 11).toInt (M179.1 98 12).toInt (M179.1 98 6).toInt 1 (by omega) (by exact h145.2.2.2.1) (by exact h151.2.2.2.2.2.2.2.2.2) rfl (by exact h181.2.2.2.2.2.2.1) (by omega)
            clear u182w k184
            refine j_aload_n C 0 0 dX12_shop_97 rfl rfl ?_
            refine j_aload_n C 0 0 dX12_shop_98 rfl rfl ?_
            refine y_getI C 11 _ _ fX12_shop_126 rfl rfl ft_11_11 sb_11_11 hM179 dX12_shop_99 (fun a204 ea204 la204 ua204 => ?_)
            obtain rfl : a204 = (M179.1 98 11).toInt := ea204
            refine y_putIF C 11 qX12_shop_201 rfl rfl ft_11_13 sb_11_13 hM179 (hq11_13 _ rfl) dX12_shop_102 (fun M206 eM206 hM206 => ?_)
            have xM206 := tkm_f (f := gf) (n := gn) eM206 (by decide) (by exact h181.2.2.2.2.2.2.2.2.2.1)
            have qM206 := po_eq gn gq180 (M179.1 98 11).toInt (M179.1 98 6).toInt (M206.1 98 11).toInt (M206.1 98 6).toInt (by exact h181.2.2.2.2.2.2.2.2.2.2.1) (s_fb eM206 (by decide) rfl) (s_fb eM206 (by decide) rfl)
            have pM206 := pi_o eM206 (by decide) (by decide) (by exact h181.2.2.2.2.2.2.2.2.2.2.2.1)
            refine j_aload_n C 0 0 dX12_shop_105 rfl rfl ?_
            refine j_aload_n C 0 0 dX12_shop_106 rfl rfl ?_
            refine y_getI C 11 _ _ fX12_shop_126 rfl rfl ft_11_11 sb_11_11 hM206 dX12_shop_107 (fun a207 ea207 la207 ua207 => ?_)
            obtain rfl : a207 = (M179.1 98 11).toInt := s_fb eM206 (by decide) (ea207)
            refine y_if_ne C 117 dX12_shop_110 (by decide) (by exact ⟨la185, ua185⟩) (fun h209 => ?_) (fun h209 => ?_)
            · refine j_aload_n C 0 0 dX12_shop_117 rfl rfl ?_
              refine y_getI C 11 _ _ fX12_shop_129 rfl rfl ft_11_12 sb_11_12 hM206 dX12_shop_118 (fun a210 ea210 la210 ua210 => ?_)
              obtain rfl : a210 = (M179.1 98 12).toInt := s_fb eM206 (by decide) (ea210)
              refine y_putIF C 11 qX12_shop_27 rfl rfl ft_11_14 sb_11_14 hM206 (hq11_14 _ rfl) dX12_shop_121 (fun M212 eM212 hM212 => ?_)
              have xM212 := tkm_f (f := gf) (n := gn) eM212 (by decide) (by exact xM206)
              have qM212 := po_eq gn gq180 (M206.1 98 11).toInt (M206.1 98 6).toInt (M212.1 98 11).toInt (M212.1 98 6).toInt (by exact qM206) (s_fb eM212 (by decide) rfl) (s_fb eM212 (by decide) rfl)
              have pM212 := pi_o eM212 (by decide) (by decide) (by exact pM206)
              refine j_aload_n C 0 0 dX12_shop_124 rfl rfl ?_
              refine y_getI C 11 _ _ fX12_shop_126 rfl rfl ft_11_11 sb_11_11 hM212 dX12_shop_125 (fun a213 ea213 la213 ua213 => ?_)
              obtain rfl : a213 = (M179.1 98 11).toInt := s_fb eM206 (by decide) (s_fb eM212 (by decide) (ea213))
              refine y_if_eq C 139 dX12_shop_128 (by decide) (by exact ⟨la185, ua185⟩) (fun h215 => ?_) (fun h215 => ?_)
              · exfalso; omega
              · refine y_bipush C dX12_shop_131 rfl ?_
                refine j_aload_n C 0 0 dX12_shop_133 rfl rfl ?_
                refine y_getI C 11 _ _ fX12_shop_126 rfl rfl ft_11_11 sb_11_11 hM212 dX12_shop_134 (fun a216 ea216 la216 ua216 => ?_)
                obtain rfl : a216 = (M179.1 98 11).toInt := s_fb eM206 (by decide) (s_fb eM212 (by decide) (ea216))
                have u218s := congrArg sbN (show (M179.1 98 11).toInt = (rdP gf gn).1 by exact u203E.1)
                refine y_isubN C dX12_shop_137 (fun a219 la219 ua219 ha219 => ?_)
                have u220C := cwa_c (M := M179) (N := M212) ((wI_cell eM212 (by decide)).trans (wI_cell eM206 (by decide))) (by exact h181.2.2.1)
                have u220t : (M212.1 98 5).toInt = 0 := by rw [(hbk _ hM212).2]; exact hz0
                have hM212 := (hbk _ hM212).1
                subst hgf
                subst hgn
                have u221s : b01 (S99 M0 M212) = 1 := b01_i ((((wI_cell eM212 (by decide)).trans (wI_cell eM206 (by decide)))).trans (b01_e (show b01 (S99 M0 M179) = 1 by exact h181.2.2.2.2.2.2.2.2.1)))
                have zz98_13 := (Eq.trans (s_fb eM212 (by decide) (rfl) : (M212.1 98 13).toInt = (M206.1 98 13).toInt) (s_wr eM206 (by exact ⟨la185, ua185⟩))); have zz98_14 := (Eq.trans (rfl : (M212.1 98 14).toInt = (M212.1 98 14).toInt) (s_wr eM212 (by exact ⟨la210, ua210⟩))); have zz98_5 : (M212.1 98 5).toInt = (M179.1 98 5).toInt := s_fb eM206 (by decide) (s_fb eM212 (by decide) (rfl)); exact hret _ _ _ _ dX12_shop_138 ⟨a219, rfl, hM212, (((FR.rf.tr fM179 (by decide)).wI eM206 (by decide)).wI eM212 (by decide)), by (clear zz98_5 hgf zz98_8 eM110 hret ha1 xM212 xM206 u203d u203y k183 ih177 u152x u152L qM149 h145 k126 u124q k125 h123 u119T u112l hM212 ua216 la216 ea216 ua213 la213 qM212 eM212 ua210 la210 h209 ua207 la207 pM206 qM206 hM206 eM206 ua204 la204 u203w h187 fM179 hM179 u152s u152Z u152C fM149 hM149 fM143 hM143 u134C u134l u134v fM129 hM129 u124p u124v u124l u124z u124C fM121 hM121 zz98_7 u119p zz98_11 h118 fM116 hM116 pM114 hM114 eM114 pM113 hM113 eM113 hq11_14 hq11_13 hq45 hbk hne hM111 hpr hz0 pM111 eM111 pM110 hM110 h109 ua102 la102 pM101 hM101 eM101 C hp1 hp0 hq11_5 hM0; exact ⟨la219, ⟨ua219, ⟨u220C, ⟨(by (clear hM212 zz98_7 hM111 hq45 hq11_14 hq11_13 hpr; omega)), ⟨(by (clear hM212 zz98_7 hM111 hq45 hq11_14 hq11_13 hpr; omega)), ⟨(by (clear hM212 zz98_7 hM111 hq45 hq11_14 hq11_13 hpr; omega)), pM212⟩⟩⟩⟩⟩⟩)⟩
            · exfalso; omega
          · refine j_aload_n C 0 0 dX12_shop_77 rfl rfl ?_
            refine y_getI C 11 _ _ fX12_shop_108 rfl rfl ft_11_9 sb_11_9 hM179 dX12_shop_78 (fun a188 ea188 la188 ua188 => ?_)
            obtain rfl : a188 = (M179.1 98 9).toInt := ea188
            refine y_bipush C dX12_shop_81 rfl ?_
            refine y_icmp_eq C 97 dX12_shop_83 (by decide) (by exact ⟨⟨la188, ua188⟩, ⟨(by decide), (by decide)⟩⟩) (fun h190 => ?_) (fun h190 => ?_)
            · have u222y : b01 (CT AGM (M179.1 98 11).toInt M149 M179 (mqC gf gn ((exP gf gn 2059) (exP gf gn 1008 (runE blB gf gn 0)).2.2).2.2 0 0)) = 1 := lx_y (f := gf) (n := gn) (show b01 (LX AGM gf gn (M179.1 98 11).toInt ((exP gf gn 2059) (exP gf gn 1008 (runE blB gf gn 0)).2.2).2.2 gq180 (M179.1 102 26).toInt (M179.1 102 1).toInt M149 M179) = 1 by exact h181.2.2.2.2.2.2.2.1) (show b01 (LM gf gn ((exP gf gn 2059) (exP gf gn 1008 (runE blB gf gn 0)).2.2).2.2 0 0 1 gq180 0 (M179.1 102 26).toInt (M179.1 102 1).toInt (M179.1 102 0).toInt (M149.1 98 11).toInt (M149.1 98 12).toInt (M179.1 98 11).toInt (M179.1 98 12).toInt (M179.1 98 6).toInt) = 1 by exact h181.2.2.2.2.2.2.1) (by omega)
              have u222w : ¬ (M179.1 98 11).toInt = 0 ∨ AGM M149 (0, 0, 0, 0) T0 := by
                by_cases z : (M179.1 98 11).toInt = 0
                · right
                  have z1 : (M149.1 98 11).toInt = 0 := lm_z (show b01 (LM gf gn ((exP gf gn 2059) (exP gf gn 1008 (runE blB gf gn 0)).2.2).2.2 0 0 1 gq180 0 (M179.1 102 26).toInt (M179.1 102 1).toInt (M179.1 102 0).toInt (M149.1 98 11).toInt (M149.1 98 12).toInt (M179.1 98 11).toInt (M179.1 98 12).toInt (M179.1 98 6).toInt) = 1 by exact h181.2.2.2.2.2.2.1) z
                  have k := (b01_e (show b01 (CT AGM (M149.1 98 11).toInt M143 M149 (fun T => uT T 0 (T 0 + 1))) = 1 by exact h151.2.2.2.2.2.2.1)).resolve_left (fun w => w z1) (0, 0, 0, 0) _ (agm_c (ct_i (show b01 (CT AGR 0 M121 M143 (fun T => T)) = 1 by exact h145.2.2.2.2.2.1)) _ _ (agm_0 (show b01 (ZR M121 1181) = 1 by exact u124z) (0, 0, 0, 0)))
                  have e : T0 = uT (fun _ => 0) 0 ((fun _ => (0 : Int)) 0 + 1) := rfl
                  rw [e]; exact k
                · exact Or.inl z
              have u222d := rdx_i gf gn (A := AGM) (MB := M149) (M := M179) (ct_e u222y (fun z T => by
                have z1 : (M149.1 98 11).toInt = 0 := lm_z (show b01 (LM gf gn ((exP gf gn 2059) (exP gf gn 1008 (runE blB gf gn 0)).2.2).2.2 0 0 1 gq180 0 (M179.1 102 26).toInt (M179.1 102 1).toInt (M179.1 102 0).toInt (M149.1 98 11).toInt (M149.1 98 12).toInt (M179.1 98 11).toInt (M179.1 98 12).toInt (M179.1 98 6).toInt) = 1 by exact h181.2.2.2.2.2.2.1) z
                have z2 := rr_z (show b01 (RR (exP gf gn 2059 (exP gf gn 1008 (runE blB gf gn 0)).2.2) (M143.1 98 11).toInt (M143.1 98 12).toInt (M149.1 98 11).toInt (M149.1 98 12).toInt (M149.1 98 6).toInt) = 1 by exact h151.2.2.2.2.2.2.2.2.2) z1
                rw [hd_e gf gn (rr_v (show b01 (RR (exP gf gn 1008 (runE blB gf gn 0)) (M121.1 98 11).toInt (M121.1 98 12).toInt (M143.1 98 11).toInt (M143.1 98 12).toInt (M143.1 98 6).toInt) = 1 by exact h145.2.2.2.1) z2).1])) (0, 0, 0, 0) u222w
              have u222E := rd_e gf gn gq180 0 (M179.1 102 26).toInt (M179.1 102 1).toInt (M179.1 102 0).toInt (M121.1 98 11).toInt (M121.1 98 12).toInt (M143.1 98 11).toInt (M143.1 98 12).toInt (M143.1 98 6).toInt (M149.1 98 11).toInt (M149.1 98 12).toInt (M149.1 98 6).toInt (M179.1 98 11).toInt (M179.1 98 12).toInt (M179.1 98 6).toInt 1 (by omega) (by exact h145.2.2.2.1) (by exact h151.2.2.2.2.2.2.2.2.2) rfl (by exact h181.2.2.2.2.2.2.1) (by omega)
              clear u182w k184
              refine j_aload_n C 0 0 dX12_shop_97 rfl rfl ?_
              refine j_aload_n C 0 0 dX12_shop_98 rfl rfl ?_
              refine y_getI C 11 _ _ fX12_shop_126 rfl rfl ft_11_11 sb_11_11 hM179 dX12_shop_99 (fun a223 ea223 la223 ua223 => ?_)
              obtain rfl : a223 = (M179.1 98 11).toInt := ea223
              refine y_putIF C 11 qX12_shop_201 rfl rfl ft_11_13 sb_11_13 hM179 (hq11_13 _ rfl) dX12_shop_102 (fun M225 eM225 hM225 => ?_)
              have xM225 := tkm_f (f := gf) (n := gn) eM225 (by decide) (by exact h181.2.2.2.2.2.2.2.2.2.1)
              have qM225 := po_eq gn gq180 (M179.1 98 11).toInt (M179.1 98 6).toInt (M225.1 98 11).toInt (M225.1 98 6).toInt (by exact h181.2.2.2.2.2.2.2.2.2.2.1) (s_fb eM225 (by decide) rfl) (s_fb eM225 (by decide) rfl)
              have pM225 := pi_o eM225 (by decide) (by decide) (by exact h181.2.2.2.2.2.2.2.2.2.2.2.1)
              refine j_aload_n C 0 0 dX12_shop_105 rfl rfl ?_
              refine j_aload_n C 0 0 dX12_shop_106 rfl rfl ?_
              refine y_getI C 11 _ _ fX12_shop_126 rfl rfl ft_11_11 sb_11_11 hM225 dX12_shop_107 (fun a226 ea226 la226 ua226 => ?_)
              obtain rfl : a226 = (M179.1 98 11).toInt := s_fb eM225 (by decide) (ea226)
              refine y_if_ne C 117 dX12_shop_110 (by decide) (by exact ⟨la185, ua185⟩) (fun h228 => ?_) (fun h228 => ?_)
              · exfalso; omega
              · refine y_iconst C dX12_shop_113 ?_
                refine j_goto C 121 dX12_shop_114 (by decide) ?_
                refine y_putIF C 11 qX12_shop_27 rfl rfl ft_11_14 sb_11_14 hM225 (hq11_14 _ rfl) dX12_shop_121 (fun M229 eM229 hM229 => ?_)
                have xM229 := tkm_f (f := gf) (n := gn) eM229 (by decide) (by exact xM225)
                have qM229 := po_eq gn gq180 (M225.1 98 11).toInt (M225.1 98 6).toInt (M229.1 98 11).toInt (M229.1 98 6).toInt (by exact qM225) (s_fb eM229 (by decide) rfl) (s_fb eM229 (by decide) rfl)
                have pM229 := pi_o eM229 (by decide) (by decide) (by exact pM225)
                refine j_aload_n C 0 0 dX12_shop_124 rfl rfl ?_
                refine y_getI C 11 _ _ fX12_shop_126 rfl rfl ft_11_11 sb_11_11 hM229 dX12_shop_125 (fun a230 ea230 la230 ua230 => ?_)
                obtain rfl : a230 = (M179.1 98 11).toInt := s_fb eM225 (by decide) (s_fb eM229 (by decide) (ea230))
                refine y_if_eq C 139 dX12_shop_128 (by decide) (by exact ⟨la185, ua185⟩) (fun h232 => ?_) (fun h232 => ?_)
                · have zz98_6 : (M229.1 98 6).toInt = (M179.1 98 6).toInt := s_fb eM225 (by decide) (s_fb eM229 (by decide) (rfl))
                  have zz98_11 : (M229.1 98 11).toInt = (M179.1 98 11).toInt := s_fb eM225 (by decide) (s_fb eM229 (by decide) (rfl))
                  have zz98_11 : (M229.1 98 11).toInt = (M179.1 98 11).toInt := s_fb eM225 (by decide) (s_fb eM229 (by decide) (rfl))
                  have u233v := lv_c (M := M179) (N := M229) ((wI_cell eM229 (by decide)).trans (wI_cell eM225 (by decide))) (by omega) (by exact h181.2.1)
                  have u233C := cwa_c (M := M179) (N := M229) ((wI_cell eM229 (by decide)).trans (wI_cell eM225 (by decide))) (by exact h181.2.2.1)
                  have zz102_0 : (M229.1 102 0).toInt = (M179.1 102 0).toInt := s_fa eM225 (by decide) (s_fa eM229 (by decide) (rfl))
                  have zz98_13 := (Eq.trans (s_fb eM229 (by decide) (rfl) : (M229.1 98 13).toInt = (M225.1 98 13).toInt) (s_wr eM225 (by exact ⟨la185, ua185⟩)))
                  have zz98_14 := (Eq.trans (rfl : (M229.1 98 14).toInt = (M229.1 98 14).toInt) (s_wr eM229 (by exact ⟨(by decide), (by decide)⟩)))
                  refine y_iconst C dX12_shop_139 ?_
                  refine j_istore_n C 2 [(2, .int (sI 0)), (0, .ref (ad 98))] dX12_shop_140 rfl (by decide) rfl ?_
                  have u234 := cx_0 M229 0 102 0
                  have L245 : ∀ (n243 : Nat), ∀ (a246 : Int) (M247 : mm_M) (gq248 : Int), (0 ≤ a246 ∧ a246 ≤ 1181 ∧ (b01 (CPX M247 M229 0 102 0 a246) = 1) ∧ ((M247.1 98 13).toInt = (M229.1 98 13).toInt) ∧ ((M247.1 98 14).toInt = (M229.1 98 14).toInt) ∧ (b01 (TKM gf gn M247) = 1) ∧ (b01 (PO gn gq248 (M247.1 98 11).toInt (M247.1 98 6).toInt) = 1) ∧ (1181 - a246) < (n243 : Int)) → INV pr Kz M247 → FR [98, 99, 102] M0 M247 → jj p l e (cn_R 33) s m args below meth c 0 0 Q 3 dC dI ad cA A M247 141 [(0, .ref (ad 98)), (2, .int (sI a246))] [] := by
                    intro n243
                    induction n243 with
                    | zero =>
                      intro a246 M247 gq248 h249 hM247 fM247
                      exfalso; omega
                    | succ n243 ih244 =>
                      intro a246 M247 gq248 h249 hM247 fM247
                      refine j_iload_n C 1 2 dX12_shop_141 rfl rfl ?_
                      refine y_sipush C dX12_shop_142 rfl ?_
                      refine y_icmp_ge C 166 dX12_shop_145 (by decide) (by omega) (fun h250 => ?_) (fun h250 => ?_)
                      · obtain rfl : a246 = 1181 := by omega
                        have u255X := cx_102 (B := M229) (M := M247) hM229 (by exact h249.2.2.1) (by exact pM229) (by exact u233C) (by exact u233v) (by omega)
                        have p256 : b01 (PI M247) = 1 := by exact u255X.1
                        refine j_aload_n C 0 0 dX12_shop_166 rfl rfl ?_
                        refine y_getC C 11 99 fX12_shop_13 rfl rfl ft_11_1 sm_11_1 rfl hM247 dX12_shop_167 ?_
                        refine y_iconst C dX12_shop_170 ?_
                        refine y_ialdF C 45 3543 rfl rfl rfl ak_45 an_45 rfl dX12_shop_171 (by exact ⟨(by decide), (by decide)⟩) (fun a257 ea257 la257 ua257 => ?_)
                        obtain rfl : a257 = (M247.1 99 0).toInt := ea257
                        have u258g := rws_i (B := M179) (C := M229) (N := M247) (show b01 (RDX AGM (M179.1 98 11).toInt gf gn M179) = 1 by exact u222d) (by exact h232) ((wI_cell eM229 (by decide)).trans (wI_cell eM225 (by decide))) (show b01 (CPX M247 M229 0 102 0 1181) = 1 by exact h249.2.2.1)
                        have u258h : b01 (RWH M0 M247) = 1 := rwh_i (B := M179) (C := M229) (show b01 (S99 M0 M179) = 1 by exact h181.2.2.2.2.2.2.2.2.1) ((wI_cell eM229 (by decide)).trans (wI_cell eM225 (by decide))) (show b01 (CPX M247 M229 0 102 0 1181) = 1 by exact h249.2.2.1)
                        have u258L := congrArg Int32.toInt (cx_l (M := M247) (B := M229) (by exact h249.2.2.1))
                        have u258t : (M247.1 98 5).toInt = 0 := by rw [(hbk _ hM247).2]; exact hz0
                        have hM247 := (hbk _ hM247).1
                        subst hgf
                        subst hgn
                        exact hret _ _ _ _ dX12_shop_172 ⟨(M247.1 99 0).toInt, rfl, hM247, (FR.rf.tr fM247 (by decide)), by (clear hgf zz98_8 eM110 hret ha1 ih244 xM229 xM225 u222d u222y k183 h181 ih177 u152x u152L qM149 h151 h145 k126 u124q k125 h123 u119T u112l hM247 p256 h250 fM247 u234 u233C u233v zz98_11 zz98_6 h232 ua230 la230 ea230 pM229 qM229 hM229 eM229 h228 ua226 la226 ea226 pM225 qM225 hM225 eM225 ua223 la223 u222w h190 ua188 la188 ua185 la185 u182B fM179 hM179 u152s u152Z u152C bM149 fM149 hM149 fM143 hM143 u134C u134l u134v bM129 fM129 hM129 u124p u124v u124l u124z u124C fM121 hM121 zz98_7 u119p h118 fM116 hM116 pM114 hM114 eM114 pM113 hM113 eM113 hq11_14 hq11_13 hq45 hbk hne hM111 hpr hz0 pM111 eM111 pM110 hM110 h109 ua102 la102 ea102 pM101 hM101 eM101 C hp1 hp0 hq11_5 hM0; omega)⟩
                      · refine j_aload_n C 0 0 dX12_shop_148 rfl rfl ?_
                        refine y_getC C 11 99 fX12_shop_13 rfl rfl ft_11_1 sm_11_1 rfl hM247 dX12_shop_149 ?_
                        refine j_iload_n C 1 2 dX12_shop_152 rfl rfl ?_
                        refine j_aload_n C 0 0 dX12_shop_153 rfl rfl ?_
                        refine y_getC C 11 102 fX12_shop_24 rfl rfl ft_11_4 sm_11_4 rfl hM247 dX12_shop_154 ?_
                        refine j_iload_n C 1 2 dX12_shop_157 rfl rfl ?_
                        refine y_ialdR C 48 1181 rfl rfl rfl ak_48 an_48 rfl hM247 dX12_shop_158 (by omega) (fun a251 ea251 la251 ua251 ba251 => ?_)
                        obtain rfl : a251 = (M247.1 102 (a246).toNat).toInt := ea251
                        refine y_iastR C 45 3543 rfl rfl rfl ak_45 an_45 rfl hM247 (hq45 _ _ rfl) dX12_shop_159 (by omega) (by exact ⟨la251, ua251⟩) (q_f (by omega) (by assumption) (fun z1 z2 => by rw [cx_f (M := M247) (B := M229) (d := 0) (c2 := 102) (s := 0) (k := a246) (by exact h249.2.2.1)]; exact lv_od (by exact u233v) (by omega) _ z1 z2)) (fun M252 eM252 hM252 => ?_)
                        have xM252 := tkm_w (f := gf) (n := gn) eM252 (by decide) (by decide) (by exact h249.2.2.2.2.2.1)
                        have qM252 := po_eq gn gq248 (M247.1 98 11).toInt (M247.1 98 6).toInt (M252.1 98 11).toInt (M252.1 98 6).toInt (by exact h249.2.2.2.2.2.2.1) (s_fa eM252 (by decide) rfl) (s_fa eM252 (by decide) rfl)
                        have u253 := cx_s (B := M229) (d := 0) (c2 := 102) (s := 0) (k := a246) eM252 (by exact h249.1) (by omega) (by rw [sI_o, Nat.zero_add]; exact congrFun (cx_f (M := M247) (B := M229) (d := 0) (c2 := 102) (s := 0) (k := a246) (by exact h249.2.2.1)) _) (by exact h249.2.2.1)
                        refine y_iinc C 1 [(2, .int (sI (a246 + 1))), (0, .ref (ad 98))] dX12_shop_160 rfl (by decide) rfl ?_
                        refine j_goto C 141 dX12_shop_163 (by decide) ?_
                        have zz98_6 : (M252.1 98 6).toInt = (M247.1 98 6).toInt := s_fa eM252 (by decide) (rfl); have zz98_14 : (M252.1 98 14).toInt = (M247.1 98 14).toInt := s_fa eM252 (by decide) (rfl); have zz98_13 : (M252.1 98 13).toInt = (M247.1 98 13).toInt := s_fa eM252 (by decide) (rfl); have zz98_11 : (M252.1 98 11).toInt = (M247.1 98 11).toInt := s_fa eM252 (by decide) (rfl); refine j_lv [1, 0] rfl ?_; exact ih244 (a246 + 1) M252 gq248 (by omega) hM252 ((FR.rf.tr fM247 (by decide)).wI eM252 (by decide))
                  have zz98_6 : (M229.1 98 6).toInt = (M179.1 98 6).toInt := s_fb eM225 (by decide) (s_fb eM229 (by decide) (rfl)); have zz98_14 := (Eq.trans (rfl : (M229.1 98 14).toInt = (M229.1 98 14).toInt) (s_wr eM229 (by exact ⟨(by decide), (by decide)⟩))); have zz98_13 := (Eq.trans (s_fb eM229 (by decide) (rfl) : (M229.1 98 13).toInt = (M225.1 98 13).toInt) (s_wr eM225 (by exact ⟨la185, ua185⟩))); have zz98_11 : (M229.1 98 11).toInt = (M179.1 98 11).toInt := s_fb eM225 (by decide) (s_fb eM229 (by decide) (rfl)); refine j_lv [1, 0] rfl ?_; exact L245 2372 0 M229 gq180 (by omega) hM229 (((FR.rf.tr fM179 (by decide)).wI eM225 (by decide)).wI eM229 (by decide))
                · exfalso; omega
            · have u191l := ri_l (M := M179) (by exact h181.1)
              refine j_aload_n C 0 0 dX12_shop_86 rfl rfl ?_
              refine j_callVv C (d := 32) (As := []) (st := []) 98 (s_lt rfl rfl) (s_kc (c := 11) rfl rfl) (by decide) rfl (s1_X12_readLine hM179 hpr gf gn gq180 (by exact h181.1) (by exact h181.2.1) (by exact h181.2.2.2.2.2.2.2.2.2.1) (by exact h181.2.2.2.2.2.2.2.2.2.2.1) (by exact h181.2.2.2.2.2.2.2.2.2.2.2.1)) gX12_shop_X12_readLine rfl hdX12_readLine (by decide) (Nat.le_of_ble_eq_true rfl) dX12_shop_87 rfl (fun M193 h194 => ?_)
              obtain ⟨hM193, fM193, h195⟩ := h194
              have bM193 := tkm_b (f := gf) (n := gn) (M := M193) (by exact h195.2.2.2.2.2.2.2.1)
              have qM193 := po_rr (liP gf gn (M179.1 102 26).toInt (M179.1 102 1).toInt) gn gq180 (M179.1 98 11).toInt (M179.1 98 12).toInt (M179.1 98 6).toInt (M193.1 98 11).toInt (M193.1 98 12).toInt (M193.1 98 6).toInt (li_g gf gn (M179.1 102 26).toInt (M179.1 102 1).toInt) (by exact h181.2.2.2.2.2.2.2.2.2.2.1) (by exact h195.2.2.2.2.2.2.2.2)
              have u196l := ri_l (M := M193) (by exact h195.1)
              have u196C := cwa_c (M := M179) (N := M193) (FR.cell fM193 (by decide)) (by exact h181.2.2.1)
              refine j_aload_n C 0 0 dX12_shop_90 rfl rfl ?_
              have u197e := ck_e (a' := (M193.1 98 11).toInt) (k := (M193.1 102 26).toInt) (m := (M193.1 102 1).toInt) (l := (M193.1 102 0).toInt) (k0 := inc (tkF gf gn gq180) 1003 (M179.1 102 26).toInt) (m0 := inc (tkF gf gn gq180) 1009 (M179.1 102 1).toInt) (l0 := (M179.1 102 0).toInt) (by exact h195.2.2.2.2.1)
              refine j_callVv C (d := 7) (As := []) (st := []) 98 (s_lt rfl rfl) (s_kc (c := 11) rfl rfl) (by decide) rfl (s1_X12_ends hM193 hpr gf gn ((liP gf gn (M179.1 102 26).toInt (M179.1 102 1).toInt) gq180).2.2 (by exact h195.1) (by exact h195.2.2.2.1) (by omega) (by exact h195.2.2.2.2.2.2.2.1) (by exact qM193) (by exact h195.2.2.2.2.2.2.1)) gX12_shop_X12_ends rfl hdX12_ends (by decide) (Nat.le_of_ble_eq_true rfl) dX12_shop_91 rfl (fun M199 h200 => ?_)
              obtain ⟨hM199, fM199, h201⟩ := h200
              have bM199 := tkm_b (f := gf) (n := gn) (M := M199) (by exact h201.2.2.2.2.2.2.2.2.1)
              have qM199 := po_rr (exP gf gn 2059) gn ((liP gf gn (M179.1 102 26).toInt (M179.1 102 1).toInt) gq180).2.2 (M193.1 98 11).toInt (M193.1 98 12).toInt (M193.1 98 6).toInt (M199.1 98 11).toInt (M199.1 98 12).toInt (M199.1 98 6).toInt (ex_g gf gn 2059 (by decide)) (by exact qM193) (by exact h201.2.2.2.2.2.2.2.2.2)
              refine j_goto C 70 dX12_shop_94 (by decide) ?_
              have u202l := ri_l (M := M199) (by exact h201.1)
              have u202w := w01_s M199
              have u202C := cwa_c (M := M193) (N := M199) (FR.cell fM199 (by decide)) (by exact u196C)
              have u202k := rr_c (exP gf gn 2059 ((liP gf gn (M179.1 102 26).toInt (M179.1 102 1).toInt) gq180).2.2) (M193.1 98 11).toInt (M193.1 98 12).toInt (M199.1 98 11).toInt (M199.1 98 12).toInt (M199.1 98 6).toInt (by exact h201.2.2.2.2.2.2.2.2.2)
              have u202K := ck_t (M193.1 98 11).toInt (M193.1 102 26).toInt (M193.1 102 1).toInt (M193.1 102 0).toInt (inc (tkF gf gn gq180) 1003 (M179.1 102 26).toInt) (inc (tkF gf gn gq180) 1009 (M179.1 102 1).toInt) (M179.1 102 0).toInt (M199.1 98 11).toInt (M199.1 102 26).toInt (M199.1 102 1).toInt (M199.1 102 0).toInt (by exact h195.2.2.2.2.1) (by exact h201.2.2.2.2.2.1) (by exact u202k)
              have u202e := ck_e (a' := (M199.1 98 11).toInt) (k := (M199.1 102 26).toInt) (m := (M199.1 102 1).toInt) (l := (M199.1 102 0).toInt) (k0 := inc (tkF gf gn gq180) 1003 (M179.1 102 26).toInt) (m0 := inc (tkF gf gn gq180) 1009 (M179.1 102 1).toInt) (l0 := (M179.1 102 0).toInt + 1) (by exact u202K)
              have u202L := lm_w gf gn ((exP gf gn 2059) (exP gf gn 1008 (runE blB gf gn 0)).2.2).2.2 0 0 1 ((exP gf gn 2059) ((liP gf gn (M179.1 102 26).toInt (M179.1 102 1).toInt) gq180).2.2).2.2 (0 + 1) 0 (M199.1 102 26).toInt (M199.1 102 1).toInt (M199.1 102 0).toInt (M149.1 98 11).toInt (M149.1 98 12).toInt (M199.1 98 11).toInt (M199.1 98 12).toInt (M199.1 98 6).toInt (by decide) (lm_sz gf gn ((exP gf gn 2059) (exP gf gn 1008 (runE blB gf gn 0)).2.2).2.2 0 0 1 gq180 0 (M179.1 102 26).toInt (M179.1 102 1).toInt (M179.1 102 0).toInt (M149.1 98 11).toInt (M149.1 98 12).toInt (M179.1 98 11).toInt (M179.1 98 12).toInt (M179.1 98 6).toInt (M193.1 98 11).toInt (M193.1 98 12).toInt (M193.1 98 6).toInt (M199.1 98 11).toInt (M199.1 98 12).toInt (M199.1 98 6).toInt (M199.1 102 26).toInt (M199.1 102 1).toInt (M199.1 102 0).toInt (by exact h181.2.2.2.2.2.2.1) (by exact h187) (by (clear u202e u202K u202k u202C u202w u202l qM199 bM199 h201 fM199 hM199 u197e u196C u196l qM193 bM193 h195 fM193 hM193 u191l ua188 la188 h187 ua185 la185 u182B u182w fM179 hM179 h181 ih177 u152s u152x u152L u152Z u152C qM149 bM149 h151 fM149 hM149 fM143 hM143 h145 u134C u134l u134v bM129 fM129 hM129 k126 u124q k125 u124p u124v u124l u124z u124C h123 fM121 hM121 zz98_8 zz98_7 u119p u119T zz98_11 h118 fM116 hM116 pM114 hM114 eM114 pM113 hM113 eM113 u112l hgf hgn hq11_14 hq11_13 hq45 hbk hne hM111 hpr hz0 pM111 eM111 pM110 hM110 eM110 hbd h109 ua102 la102 ea102 pM101 hM101 eM101 hret C hp1 hp0 ha1 hq11_5 hM0; (clear zz98_8 zz98_7 hgf hM111 hq45 hq11_14 hq11_13 hpr; omega))) (by exact h195.2.2.2.2.2.2.2.2) (by exact u202K) (by exact h201.2.2.2.2.2.2.2.2.2))
              have u202x := lx_q gf gn (show b01 (LX AGM gf gn (M179.1 98 11).toInt ((exP gf gn 2059) (exP gf gn 1008 (runE blB gf gn 0)).2.2).2.2 gq180 (M179.1 102 26).toInt (M179.1 102 1).toInt M149 M179) = 1 by exact h181.2.2.2.2.2.2.2.1) (show b01 (PO gn gq180 (M179.1 98 11).toInt (M179.1 98 6).toInt) = 1 by exact h181.2.2.2.2.2.2.2.2.2.2.1) (by (clear u202L u202e u202K u202k u202C u202w u202l qM199 bM199 h201 fM199 hM199 u197e u196C u196l qM193 bM193 h195 fM193 hM193 u191l ua188 la188 h187 ua185 la185 u182B u182w fM179 hM179 h181 ih177 u152s u152x u152L u152Z u152C qM149 bM149 h151 fM149 hM149 fM143 hM143 h145 u134C u134l u134v bM129 fM129 hM129 k126 u124q k125 u124p u124v u124l u124z u124C h123 fM121 hM121 zz98_8 zz98_7 u119p u119T zz98_11 h118 fM116 hM116 pM114 hM114 eM114 pM113 hM113 eM113 u112l hgf hgn hq11_14 hq11_13 hq45 hbk hne hM111 hpr hz0 pM111 eM111 pM110 hM110 eM110 hbd h109 ua102 la102 ea102 pM101 hM101 eM101 hret C hp1 hp0 ha1 hq11_5 hM0; omega)) (show b01 (RR (liP gf gn (M179.1 102 26).toInt (M179.1 102 1).toInt gq180) (M179.1 98 11).toInt (M179.1 98 12).toInt (M193.1 98 11).toInt (M193.1 98 12).toInt (M193.1 98 6).toInt) = 1 by exact h195.2.2.2.2.2.2.2.2) (show b01 (CT AGM (M193.1 98 11).toInt M179 M193 (liC gf gn (M179.1 102 26).toInt (M179.1 102 1).toInt gq180)) = 1 by exact h195.2.2.2.2.2.1) (show b01 (RR (exP gf gn 2059 (liP gf gn (M179.1 102 26).toInt (M179.1 102 1).toInt gq180).2.2) (M193.1 98 11).toInt (M193.1 98 12).toInt (M199.1 98 11).toInt (M199.1 98 12).toInt (M199.1 98 6).toInt) = 1 by exact h201.2.2.2.2.2.2.2.2.2) (show b01 (CT AGM (M199.1 98 11).toInt M193 M199 (fun T => uT T 0 (T 0 + 1))) = 1 by exact h201.2.2.2.2.2.2.1) (show b01 (CK (M199.1 98 11).toInt (M199.1 102 26).toInt (M199.1 102 1).toInt (M199.1 102 0).toInt (inc (tkF gf gn gq180) 1003 (M179.1 102 26).toInt) (inc (tkF gf gn gq180) 1009 (M179.1 102 1).toInt) ((M179.1 102 0).toInt + 1)) = 1 by exact u202K)
              have u202s : b01 (S99 M0 M199) = 1 := b01_i ((((FR.cell fM199 (by decide)).trans (FR.cell fM193 (by decide)))).trans (b01_e (show b01 (S99 M0 M179) = 1 by exact h181.2.2.2.2.2.2.2.2.1)))
              exact ih177 M199 ((exP gf gn 2059) ((liP gf gn (M179.1 102 26).toInt (M179.1 102 1).toInt) gq180).2.2).2.2 (by (clear u202K fM199 hM199 u196C u196l qM193 bM193 fM193 hM193 u191l ua185 la185 fM179 hM179 ih177 u152s u152x u152L u152Z u152C qM149 fM149 hM149 fM143 hM143 h145 u134C u134l u134v fM129 hM129 k126 u124q k125 u124p u124v u124z u124C fM121 hM121 zz98_8 zz98_7 u119p u119T zz98_11 h118 fM116 hM116 pM114 hM114 eM114 pM113 hM113 eM113 u112l hgf hq11_14 hq11_13 hq45 hbk hne hM111 hpr hz0 pM111 eM111 pM110 hM110 eM110 h109 ua102 la102 ea102 pM101 hM101 eM101 hret C hp1 hp0 hq11_5 hM0; exact ⟨h201.1, ⟨h201.2.2.2.1, ⟨u202C, ⟨⟨bM199.2.2.1, (by (clear u202l zz98_7 hgf hM111 hq45 hq11_14 hq11_13 hpr; omega))⟩, ⟨⟨(by (clear u202l zz98_7 hgf hM111 hq45 hq11_14 hq11_13 hpr; omega)), (by (clear u202l zz98_7 hgf hM111 hq45 hq11_14 hq11_13 hpr; omega))⟩, ⟨(by (clear u202l zz98_7 hgf hM111 hq45 hq11_14 hq11_13 hpr; omega)), ⟨u202L, ⟨u202x, ⟨u202s, ⟨h201.2.2.2.2.2.2.2.2.1, ⟨qM199, ⟨h201.2.2.2.2.2.2.2.1, (by (clear u202l zz98_7 hgf hM111 hq45 hq11_14 hq11_13 hpr; omega))⟩⟩⟩⟩⟩⟩⟩⟩⟩⟩⟩⟩)) hM199 (((FR.rf.tr fM179 (by decide)).tr fM193 (by decide)).tr fM199 (by decide))
      exact L178 2010 M149 ((exP gf gn 2059) (exP gf gn 1008 (runE blB gf gn 0)).2.2).2.2 (by omega) hM149 ((FR.rf.tr fM143 (by decide)).tr fM149 (by decide))
    refine y_if_ne C 66 dX12_shop_58 (by decide) (by omega) (fun h135 => ?_) (fun h135 => ?_)
    · have u136x := ex_1 gf gn 1008 (runE blB gf gn 0) (M121.1 98 11).toInt (M121.1 98 12).toInt (M121.1 98 6).toInt (M129.1 98 11).toInt (M129.1 98 12).toInt (M129.1 98 6).toInt (by exact u124q) (by omega) (by omega) (by omega) (by omega) (by omega)
      have u136p := po_rr (exP gf gn 1008) gn (runE blB gf gn 0) (M121.1 98 11).toInt (M121.1 98 12).toInt (M121.1 98 6).toInt (M129.1 98 11).toInt (M129.1 98 12).toInt (M129.1 98 6).toInt (ex_g gf gn 1008 (by decide)) (by exact u124q) (by exact u136x)
      have u136I := ct_r (A := AGR) 0 (agr_c (FR.cell fM129 (by decide)))
      have u136s : b01 (S99 M0 M129) = 1 := b01_i ((((((((FR.cell fM129 (by decide)).trans (FR.cell fM121 (by decide))).trans (FR.cell fM116 (by decide))).trans (wI_cell eM114 (by decide))).trans (wI_cell eM113 (by decide))).trans (wI_cell eM111 (by decide))).trans (wI_cell eM110 (by decide))).trans (wI_cell eM101 (by decide)))
      have zz102_26 : (M129.1 102 26).toInt = (M116.1 102 26).toInt := s_fF fM121 (by decide) (s_fF fM129 (by decide) (rfl)); have zz102_1 : (M129.1 102 1).toInt = (M116.1 102 1).toInt := s_fF fM121 (by decide) (s_fF fM129 (by decide) (rfl)); have zz102_0 : (M129.1 102 0).toInt = (M116.1 102 0).toInt := s_fF fM121 (by decide) (s_fF fM129 (by decide) (rfl)); refine j_lv [0] rfl ?_; exact J144 M129 (by omega) hM129 ((((((((FR.rf.wI eM101 (by decide)).wI eM110 (by decide)).wI eM111 (by decide)).wI eM113 (by decide)).wI eM114 (by decide)).tr fM116 (by decide)).tr fM121 (by decide)).tr fM129 (by decide))
    · refine j_aload_n C 0 0 dX12_shop_61 rfl rfl ?_
      refine y_iconst C dX12_shop_62 ?_
      have p137 := po_eq gn (runE blB gf gn 0) (M121.1 98 11).toInt (M121.1 98 6).toInt (M129.1 98 11).toInt (M129.1 98 6).toInt (by exact u124q) (by omega) (by omega)
      refine j_callVv C (d := 0) (As := [.int (sI 2)]) (st := []) 98 (s_lt rfl rfl) (s_kc (c := 11) rfl rfl) (by decide) rfl (s1_X12_fails hM129 hpr 2 (by exact ⟨(by decide), (by decide)⟩) gf gn (runE blB gf gn 0) (by exact h131.2.2.1) (by exact ⟨(by decide), (by decide)⟩) (by exact h131.2.2.2.2.2.2.2) (by exact p137) (by exact h131.2.2.2.2.2.2.1)) gX12_shop_X12_fails rfl hdX12_fails (by decide) (Nat.le_of_ble_eq_true rfl) dX12_shop_63 rfl (fun M139 h140 => ?_)
      obtain ⟨hM139, fM139, h141⟩ := h140
      have bM139 := tkm_b (f := gf) (n := gn) (M := M139) (by exact h141.2.2.2.2.1)
      have qM139 := po_f gn ((faQ gf gn 2) (runE blB gf gn 0)).2.2 (M139.1 98 11).toInt (M139.1 98 6).toInt (by exact h141.1)
      have u142v := lv_c (M := M129) (N := M139) (FR.cell fM139 (by decide)) (by omega) (by exact u134v)
      have u142l := ri_l (M := M139) (by exact h141.2.2.1)
      have u142C := cwa_c (M := M129) (N := M139) (FR.cell fM139 (by decide)) (by exact u134C)
      have u142x := ex_2z gf gn 1008 (runE blB gf gn 0) (M121.1 98 11).toInt (M121.1 98 12).toInt (M121.1 98 6).toInt (M139.1 98 11).toInt (M139.1 98 12).toInt (M139.1 98 6).toInt (by exact u124q) (by omega) (rr_fr (faQ gf gn 2 (runE blB gf gn 0)) (M121.1 98 11).toInt (M121.1 98 12).toInt (M129.1 98 11).toInt (M129.1 98 12).toInt (M139.1 98 11).toInt (M139.1 98 12).toInt (M139.1 98 6).toInt (by exact h141.2.2.2.2.2) (by omega) (by omega))
      have u142p := po_rr (exP gf gn 1008) gn (runE blB gf gn 0) (M121.1 98 11).toInt (M121.1 98 12).toInt (M121.1 98 6).toInt (M139.1 98 11).toInt (M139.1 98 12).toInt (M139.1 98 6).toInt (ex_g gf gn 1008 (by decide)) (by exact u124q) (by exact u142x)
      have u142I := ct_r (A := AGR) 0 (agr_c ((FR.cell fM139 (by decide)).trans (FR.cell fM129 (by decide))))
      have u142s : b01 (S99 M0 M139) = 1 := b01_i (((((((((FR.cell fM139 (by decide)).trans (FR.cell fM129 (by decide))).trans (FR.cell fM121 (by decide))).trans (FR.cell fM116 (by decide))).trans (wI_cell eM114 (by decide))).trans (wI_cell eM113 (by decide))).trans (wI_cell eM111 (by decide))).trans (wI_cell eM110 (by decide))).trans (wI_cell eM101 (by decide)))
      have zz102_26 : (M139.1 102 26).toInt = (M116.1 102 26).toInt := s_fF fM121 (by decide) (s_fF fM129 (by decide) (s_fF fM139 (by decide) (rfl))); have zz102_1 : (M139.1 102 1).toInt = (M116.1 102 1).toInt := s_fF fM121 (by decide) (s_fF fM129 (by decide) (s_fF fM139 (by decide) (rfl))); have zz102_0 : (M139.1 102 0).toInt = (M116.1 102 0).toInt := s_fF fM121 (by decide) (s_fF fM129 (by decide) (s_fF fM139 (by decide) (rfl))); refine j_lv [0] rfl ?_; exact J144 M139 (by omega) hM139 (((((((((FR.rf.wI eM101 (by decide)).wI eM110 (by decide)).wI eM111 (by decide)).wI eM113 (by decide)).wI eM114 (by decide)).tr fM116 (by decide)).tr fM121 (by decide)).tr fM129 (by decide)).tr fM139 (by decide))
  · refine y_bipush C dX12_shop_19 rfl ?_
    have u260C := cwa_c (M := M0) (N := M101) (show M101.1 99 = M0.1 99 from (wI_cell eM101 (by decide))) (by exact hp0)
    have u261s : b01 (S99 M0 M101) = 1 := b01_i (wI_cell eM101 (by decide))
    have zz98_13 : (M101.1 98 13).toInt = (M0.1 98 13).toInt := s_fb eM101 (by decide) (rfl); have zz98_14 : (M101.1 98 14).toInt = (M0.1 98 14).toInt := s_fb eM101 (by decide) (rfl); have zz98_5 : (M101.1 98 5).toInt = (M0.1 98 5).toInt := s_fb eM101 (by decide) (rfl); exact hret _ _ _ _ dX12_shop_21 ⟨(-3), rfl, hM101, (FR.rf.wI eM101 (by decide)), by exact ⟨(by decide), ⟨(by decide), ⟨u260C, ⟨(by (clear zz98_5 hM101 eM101 hret C hp1 hp0 hq45 hq11_14 hq11_13 hq11_5 hpr hM0; omega)), ⟨(by (clear zz98_5 hM101 eM101 hret C hp1 hp0 hq45 hq11_14 hq11_13 hq11_5 hpr hM0; omega)), ⟨(by (clear zz98_5 hM101 eM101 hret C hp1 hp0 hq45 hq11_14 hq11_13 hq11_5 hpr hM0; omega)), pM101⟩⟩⟩⟩⟩⟩⟩
set_option maxHeartbeats 4000000 in
theorem s1_X12_image {l : Launch} {dC : Nat → ClassId} {dI : Nat → Nat → Nat} {ad : Nat → Nat} {cA : Nat → ClassId} {pr : Nat → Nat → Bool} {Kz : mm_M} {M0 : mm_M} (hM0 : INV pr Kz M0) (hpr : PM pr) (hq45 : ∀ i k, s_c i = 45 → pr i k = false) (hq46 : ∀ i k, s_c i = 46 → pr i k = false) (a1 : Int) (ha1 : -2147483648 ≤ a1 ∧ a1 ≤ 2147483647) (hp0 : b01 (CWA M0) = 1) (hp1 : b01 (PI M0) = 1) : Ci l 1 yX12_image wsX12_image dC dI ad cA [.ref (ad 98), .int (sI a1)] M0 (fun r M' => ∃ a : Int, r = sI a ∧ INV pr Kz M' ∧ FR [98, 99, 100] M0 M' ∧ (-2) ≤ a ∧ a ≤ 0 ∧ (b01 (CWA M') = 1) ∧ (a1 = 0 ∧ a = 0 ∧ (M'.1 100 (0)).toInt = 1 ∧ (M'.1 100 (1)).toInt = (M0.1 100 (1)).toInt ∨ a1 = 1 ∧ a = 0 ∧ (M'.1 100 (0)).toInt = (M0.1 100 (0)).toInt ∧ (M'.1 100 (1)).toInt = 1 ∨ (a1 < 0 ∨ 1 < a1) ∧ a = -2 ∧ (M'.1 100 (0)).toInt = (M0.1 100 (0)).toInt ∧ (M'.1 100 (1)).toInt = (M0.1 100 (1)).toInt) ∧ (b01 (M'.1 99 = imS (M0.1 99) a1) = 1 ∧ a = 0 ∨ b01 (M'.1 99 = (M0.1 99)) = 1 ∧ a < 0) ∧ (b01 (PI M') = 1)) := by
  refine ci_of (cc := cX12_image) (maxL := 3) (ty := .int) (lv := [(0, .ref (ad 98)), (1, .int (sI a1))]) (by decide) rfl (fun r M' hp => rfl) (Nat.le_of_ble_eq_true rfl) rfl ?_
  intro p e s m args below meth c A Q C hret
  refine j_aload_n C 0 0 dX12_image_0 rfl rfl ?_
  refine y_iconst C dX12_image_1 ?_
  refine y_putIF C 11 qX12_image_1 rfl rfl ft_11_0 sb_11_0 hM0 (PM.w hpr rfl rfl) dX12_image_2 (fun M101 eM101 hM101 => ?_)
  have pM101 := pi_o eM101 (by decide) (by decide) (by exact hp1)
  refine j_iload_n C 1 1 dX12_image_5 rfl rfl ?_
  refine y_i2l C dX12_image_6 (by exact ⟨ha1.1, ha1.2⟩) ?_
  refine y_lconst C 0 dX12_image_7 rfl ?_
  refine y_lconst C 1 dX12_image_8 rfl ?_
  refine j_callSi C (d := 0) (As := [.long (sJ a1), .long (sJ 0), .long (sJ 1)]) (st := []) (s1_X12_within hM101 a1 (by omega) 0 (by exact ⟨(by decide), (by decide)⟩) 1 (by exact ⟨(by decide), (by decide)⟩)) gX12_image_X12_within rfl hdX12_withins (by decide) (Nat.le_of_ble_eq_true rfl) dX12_image_9 rfl (fun r102 M103 h104 => ?_)
  obtain ⟨a106, rfl, rfl, h105⟩ := h104
  refine y_if_ne C 18 dX12_image_12 (by decide) (by omega) (fun h107 => ?_) (fun h107 => ?_)
  · have hy0 : (M101.1 100 0).toInt = (M0.1 100 0).toInt := s_fa eM101 (by decide) rfl
    have hy1 : (M101.1 100 1).toInt = (M0.1 100 1).toInt := s_fa eM101 (by decide) rfl
    obtain ⟨pr, Kz, hpr, hM101, hne, hbk⟩ := fzM [46] hpr hM101
    have hq45 : ∀ i k, s_c i = 45 → pr i k = false := fun i k h => hne i k (by rw [h]; rfl) (hq45 i k h)
    refine y_iconst C dX12_image_18 ?_
    refine j_istore_n C 2 [(2, .int (sI 0)), (0, .ref (ad 98)), (1, .int (sI a1))] dX12_image_19 rfl (by decide) rfl ?_
    have u109 := cx_0 M101 (1181 * (a1 + 1)).toNat 99 0
    have L119 : ∀ (n117 : Nat), ∀ (a120 : Int) (M121 : mm_M), (0 ≤ a120 ∧ a120 ≤ 1181 ∧ (b01 (CPX M121 M101 (1181 * (a1 + 1)).toNat 99 0 a120) = 1) ∧ (1181 - a120) < (n117 : Int)) → INV pr Kz M121 → FR [98, 99, 100] M0 M121 → jj p l e (cn_R 1) s m args below meth c 0 0 Q 3 dC dI ad cA A M121 20 [(0, .ref (ad 98)), (1, .int (sI a1)), (2, .int (sI a120))] [] := by
      intro n117
      induction n117 with
      | zero =>
        intro a120 M121 h122 hM121 fM121
        exfalso; omega
      | succ n117 ih118 =>
        intro a120 M121 h122 hM121 fM121
        refine j_iload_n C 2 2 dX12_image_20 rfl rfl ?_
        refine y_sipush C dX12_image_21 rfl ?_
        refine y_icmp_ge C 53 dX12_image_24 (by decide) (by omega) (fun h123 => ?_) (fun h123 => ?_)
        · obtain rfl : a120 = 1181 := by omega
          have u128X := cx_99 (B := M101) (M := M121) hM101 (a := (a1 + 1).toNat) (b := 0) (by omega) (by decide) (d := (1181 * (a1 + 1)).toNat) (s := 0) (by omega) rfl (by exact h122.2.2.1) (by exact pM101) (cwa_c (M := M0) (wI_cell eM101 (by decide)) (by exact hp0))
          have hz0 := congrArg Int32.toInt ((hbk _ hM121).2 100 0 rfl rfl)
          have hz1 := congrArg Int32.toInt ((hbk _ hM121).2 100 1 rfl rfl)
          have hM121 := (hbk _ hM121).1
          have p129 : b01 (PI M121) = 1 := by exact u128X.1
          refine j_aload_n C 0 0 dX12_image_53 rfl rfl ?_
          refine y_getC C 11 100 fX12_image_17 rfl rfl ft_11_2 sm_11_2 rfl hM121 dX12_image_54 ?_
          refine j_iload_n C 1 1 dX12_image_57 rfl rfl ?_
          refine y_iconst C dX12_image_58 ?_
          refine y_zast C 46 2 rfl rfl rfl ak_46 an_46 rfl (sb_46 _) hM121 (hq46 _ _ rfl) dX12_image_59 (by omega) (by exact ⟨(by decide), (by decide)⟩) (fun M130 eM130 hM130 => ?_)
          have pM130 := pi_o eM130 (by decide) (by decide) (by exact p129)
          refine y_iconst C dX12_image_60 ?_
          have u131h := w_or eM130 (by exact ⟨(by decide), (by decide)⟩) 100 0
          have u131i := w_or eM130 (by exact ⟨(by decide), (by decide)⟩) 100 1
          have u132C := cwa_c (M := M121) (N := M130) (wI_cell eM130 (by decide)) (by exact u128X.2)
          have u132r := im_x (M := M121) (B := M101) (N := M130) (f := M0.1 99) (i := a1) (by exact h122.2.2.1) ((wI_cell eM101 (by decide))) ((wI_cell eM130 (by decide)))
          exact hret _ _ _ _ dX12_image_61 ⟨0, rfl, hM130, ((FR.rf.tr fM121 (by decide)).wI eM130 (by decide)), by omega⟩
        · refine j_aload_n C 0 0 dX12_image_27 rfl rfl ?_
          refine y_getC C 11 99 fX12_image_13 rfl rfl ft_11_1 sm_11_1 rfl hM121 dX12_image_28 ?_
          refine y_sipush C dX12_image_31 rfl ?_
          refine j_iload_n C 1 1 dX12_image_34 rfl rfl ?_
          refine y_iconst C dX12_image_35 ?_
          refine y_iadd C dX12_image_36 ?_
          refine y_imul C dX12_image_37 ?_
          refine j_iload_n C 2 2 dX12_image_38 rfl rfl ?_
          refine y_iadd C dX12_image_39 ?_
          refine j_aload_n C 0 0 dX12_image_40 rfl rfl ?_
          refine y_getC C 11 99 fX12_image_13 rfl rfl ft_11_1 sm_11_1 rfl hM121 dX12_image_41 ?_
          refine j_iload_n C 2 2 dX12_image_44 rfl rfl ?_
          refine y_ialdR C 45 3543 rfl rfl rfl ak_45 an_45 rfl hM121 dX12_image_45 (by omega) (fun a124 ea124 la124 ua124 ba124 => ?_)
          obtain rfl : a124 = (M121.1 99 (a120).toNat).toInt := ea124
          refine y_iastR C 45 3543 rfl rfl rfl ak_45 an_45 rfl hM121 (hq45 _ _ rfl) dX12_image_46 (by omega) (by exact ⟨la124, ua124⟩) (by rw [q_i a120 (a1 + 1) (by omega)]; assumption) (fun M125 eM125 hM125 => ?_)
          have u126 := cx_s (B := M101) (d := (1181 * (a1 + 1)).toNat) (c2 := 99) (s := 0) (k := a120) eM125 (by exact h122.1) (by omega) (by rw [sI_o, Nat.zero_add]; exact cx_r (M := M121) (B := M101) (d := (1181 * (a1 + 1)).toNat) (c2 := 99) (s := 0) (k := a120) (by exact h122.2.2.1) _ (by omega)) (by exact h122.2.2.1)
          refine y_iinc C 2 [(2, .int (sI (a120 + 1))), (0, .ref (ad 98)), (1, .int (sI a1))] dX12_image_47 rfl (by decide) rfl ?_
          refine j_goto C 20 dX12_image_50 (by decide) ?_
          refine j_lv [1, 2, 0] rfl ?_; exact ih118 (a120 + 1) M125 (by omega) hM125 ((FR.rf.tr fM121 (by decide)).wI eM125 (by decide))
    refine j_lv [1, 2, 0] rfl ?_; exact L119 2372 0 M101 (by exact ⟨(by decide), ⟨(by decide), ⟨u109, (by decide)⟩⟩⟩) hM101 (FR.rf.wI eM101 (by decide))
  · refine y_bipush C dX12_image_15 rfl ?_
    have u133C := cwa_c (M := M0) (N := M101) (show M101.1 99 = M0.1 99 from (wI_cell eM101 (by decide))) (by exact hp0)
    have u133h : (M101.1 100 0).toInt = (M0.1 100 0).toInt := s_fa eM101 (by decide) rfl
    have u133i : (M101.1 100 1).toInt = (M0.1 100 1).toInt := s_fa eM101 (by decide) rfl
    have u134r : b01 (M101.1 99 = M0.1 99) = 1 := b01_i ((wI_cell eM101 (by decide)))
    exact hret _ _ _ _ dX12_image_17 ⟨(-2), rfl, hM101, (FR.rf.wI eM101 (by decide)), by exact ⟨(by decide), ⟨(by decide), ⟨u133C, ⟨(by (clear hM101 eM101 hret C hp1 hp0 hq46 hq45 hpr hM0; omega)), ⟨(by (clear hM101 eM101 hret C hp1 hp0 hq46 hq45 hpr hM0; omega)), pM101⟩⟩⟩⟩⟩⟩
set_option maxHeartbeats 4000000 in
theorem s1_X12_restore {l : Launch} {dC : Nat → ClassId} {dI : Nat → Nat → Nat} {ad : Nat → Nat} {cA : Nat → ClassId} {pr : Nat → Nat → Bool} {Kz : mm_M} {M0 : mm_M} (hM0 : INV pr Kz M0) (hpr : PM pr) (hq45 : ∀ i k, s_c i = 45 → pr i k = false) (a1 : Int) (ha1 : -2147483648 ≤ a1 ∧ a1 ≤ 2147483647) (hp0 : b01 (CWA M0) = 1) (hp1 : b01 (PI M0) = 1) : Ci l 1 yX12_restore wsX12_restore dC dI ad cA [.ref (ad 98), .int (sI a1)] M0 (fun r M' => ∃ a : Int, r = sI a ∧ INV pr Kz M' ∧ FR [98, 99] M0 M' ∧ (-5) ≤ a ∧ a ≤ 0 ∧ (b01 (CWA M') = 1) ∧ ((a1 < 0 ∨ 1 < a1) ∧ a = -2 ∨ 0 ≤ a1 ∧ a1 ≤ 1 ∧ (M0.1 100 (a1).toNat).toInt = 0 ∧ a = -5 ∨ 0 ≤ a1 ∧ a1 ≤ 1 ∧ ¬ (M0.1 100 (a1).toNat).toInt = 0 ∧ a = 0) ∧ (b01 (M'.1 99 = reS (M0.1 99) a1) = 1 ∧ a = 0 ∨ b01 (M'.1 99 = (M0.1 99)) = 1 ∧ a < 0) ∧ (b01 (PI M') = 1)) := by
  refine ci_of (cc := cX12_restore) (maxL := 3) (ty := .int) (lv := [(0, .ref (ad 98)), (1, .int (sI a1))]) (by decide) rfl (fun r M' hp => rfl) (Nat.le_of_ble_eq_true rfl) rfl ?_
  intro p e s m args below meth c A Q C hret
  refine j_aload_n C 0 0 dX12_restore_0 rfl rfl ?_
  refine y_iconst C dX12_restore_1 ?_
  refine y_putIF C 11 qX12_restore_1 rfl rfl ft_11_0 sb_11_0 hM0 (PM.w hpr rfl rfl) dX12_restore_2 (fun M101 eM101 hM101 => ?_)
  have pM101 := pi_o eM101 (by decide) (by decide) (by exact hp1)
  refine j_iload_n C 1 1 dX12_restore_5 rfl rfl ?_
  refine y_i2l C dX12_restore_6 (by exact ⟨ha1.1, ha1.2⟩) ?_
  refine y_lconst C 0 dX12_restore_7 rfl ?_
  refine y_lconst C 1 dX12_restore_8 rfl ?_
  refine j_callSi C (d := 0) (As := [.long (sJ a1), .long (sJ 0), .long (sJ 1)]) (st := []) (s1_X12_within hM101 a1 (by omega) 0 (by exact ⟨(by decide), (by decide)⟩) 1 (by exact ⟨(by decide), (by decide)⟩)) gX12_restore_X12_within rfl hdX12_withins (by decide) (Nat.le_of_ble_eq_true rfl) dX12_restore_9 rfl (fun r102 M103 h104 => ?_)
  obtain ⟨a106, rfl, rfl, h105⟩ := h104
  refine y_if_ne C 18 dX12_restore_12 (by decide) (by omega) (fun h107 => ?_) (fun h107 => ?_)
  · refine j_aload_n C 0 0 dX12_restore_18 rfl rfl ?_
    refine y_getC C 11 100 fX12_restore_17 rfl rfl ft_11_2 sm_11_2 rfl hM101 dX12_restore_19 ?_
    refine j_iload_n C 1 1 dX12_restore_22 rfl rfl ?_
    refine y_zald C 46 2 _ _ rfl rfl rfl ak_46 an_46 rfl (sb_46 _) hM101 dX12_restore_23 (by (clear pM101 hM101 eM101 hret C hp1 hp0 hq45 hpr hM0; omega)) (fun a108 ea108 la108 ua108 => ?_)
    obtain rfl : a108 = (M0.1 100 (a1).toNat).toInt := s_fa eM101 (by decide) (ea108)
    refine y_if_ne C 30 dX12_restore_24 (by decide) (by (clear h107 h105 pM101 hM101 eM101 hret C hp1 hp0 ha1 hq45 hpr hM0; omega)) (fun h109 => ?_) (fun h109 => ?_)
    · refine y_iconst C dX12_restore_30 ?_
      refine j_istore_n C 2 [(2, .int (sI 0)), (0, .ref (ad 98)), (1, .int (sI a1))] dX12_restore_31 rfl (by decide) rfl ?_
      have u110 := cx_0 M101 0 99 (1181 * (a1 + 1)).toNat
      have L120 : ∀ (n118 : Nat), ∀ (a121 : Int) (M122 : mm_M), (0 ≤ a121 ∧ a121 ≤ 1181 ∧ (b01 (CPX M122 M101 0 99 (1181 * (a1 + 1)).toNat a121) = 1) ∧ (1181 - a121) < (n118 : Int)) → INV pr Kz M122 → FR [98, 99] M0 M122 → jj p l e (cn_R 1) s m args below meth c 0 0 Q 3 dC dI ad cA A M122 32 [(0, .ref (ad 98)), (1, .int (sI a1)), (2, .int (sI a121))] [] := by
        intro n118
        induction n118 with
        | zero =>
          intro a121 M122 h123 hM122 fM122
          exfalso; omega
        | succ n118 ih119 =>
          intro a121 M122 h123 hM122 fM122
          refine j_iload_n C 2 2 dX12_restore_32 rfl rfl ?_
          refine y_sipush C dX12_restore_33 rfl ?_
          refine y_icmp_ge C 65 dX12_restore_36 (by decide) (by exact ⟨⟨(by (clear fM122 hM122 ih119 u110 h109 ua108 la108 ea108 h107 h105 pM101 hM101 eM101 hret C hp1 hp0 ha1 hq45 hpr hM0; omega)), (by (clear fM122 hM122 ih119 u110 h109 ua108 la108 ea108 h107 h105 pM101 hM101 eM101 hret C hp1 hp0 ha1 hq45 hpr hM0; omega))⟩, ⟨(by decide), (by decide)⟩⟩) (fun h124 => ?_) (fun h124 => ?_)
          · obtain rfl : a121 = 1181 := by (clear fM122 hM122 ih119 u110 h109 ua108 la108 ea108 h107 h105 pM101 hM101 eM101 hret C hp1 hp0 ha1 hq45 hpr hM0; omega)
            have u129X := cx_99 (B := M101) (M := M122) hM101 (a := 0) (b := (a1 + 1).toNat) (by decide) (by (clear h124 h123 fM122 hM122 ih119 u110 pM101 hM101 eM101 hret C hp1 hp0 hq45 hpr hM0; omega)) (d := 0) (s := (1181 * (a1 + 1)).toNat) rfl (by (clear h124 h123 fM122 hM122 ih119 u110 h109 ua108 la108 ea108 h107 h105 pM101 hM101 eM101 hret C hp1 hp0 hq45 hpr hM0; omega)) (by exact h123.2.2.1) (by exact pM101) (cwa_c (M := M0) (wI_cell eM101 (by decide)) (by exact hp0))
            have p130 : b01 (PI M122) = 1 := by exact u129X.1
            refine j_aload_n C 0 0 dX12_restore_65 rfl rfl ?_
            refine y_getC C 11 99 fX12_restore_13 rfl rfl ft_11_1 sm_11_1 rfl hM122 dX12_restore_66 ?_
            refine y_bipush C dX12_restore_69 rfl ?_
            refine y_iconst C dX12_restore_71 ?_
            refine y_iastH C 45 3543 rfl rfl rfl ak_45 an_45 rfl _ _ hM122 (PM.w hpr rfl (hm_49_49 _ (by exact (by decide)) (by exact (by decide)))) (hs_45_49_49 _ (by exact (by decide)) (by exact (by decide))) dX12_restore_72 (by exact ⟨(by decide), (by decide)⟩) (by exact ⟨⟨(by decide), (by decide)⟩, ⟨(by decide), (by decide)⟩⟩) (fun M131 eM131 hM131 => ?_)
            have pM131 := pi_n eM131 (hn_49_49 _ (by exact (by decide)) (by exact (by decide))) (by exact p130)
            have u132C := cwa_w hM122 eM131 (by exact u129X.2)
            refine y_iconst C dX12_restore_73 ?_
            have u133r := re_x (M := M122) (B := M101) (N := M131) (f := M0.1 99) (i := a1) (by exact h123.2.2.1) ((wI_cell eM101 (by decide))) eM131
            exact hret _ _ _ _ dX12_restore_74 ⟨0, rfl, hM131, ((FR.rf.tr fM122 (by decide)).wI eM131 (by decide)), by exact ⟨(by decide), ⟨(by decide), ⟨u132C, ⟨(by (clear hM131 eM131 p130 u129X h124 h123 fM122 hM122 ih119 u110 pM101 hM101 eM101 hret C hp1 hp0 hq45 hpr hM0; omega)), ⟨(by (clear hM131 eM131 p130 u129X h124 h123 fM122 hM122 ih119 u110 pM101 hM101 eM101 hret C hp1 hp0 hq45 hpr hM0; omega)), pM131⟩⟩⟩⟩⟩⟩
          · refine j_aload_n C 0 0 dX12_restore_39 rfl rfl ?_
            refine y_getC C 11 99 fX12_restore_13 rfl rfl ft_11_1 sm_11_1 rfl hM122 dX12_restore_40 ?_
            refine j_iload_n C 2 2 dX12_restore_43 rfl rfl ?_
            refine j_aload_n C 0 0 dX12_restore_44 rfl rfl ?_
            refine y_getC C 11 99 fX12_restore_13 rfl rfl ft_11_1 sm_11_1 rfl hM122 dX12_restore_45 ?_
            refine y_sipush C dX12_restore_48 rfl ?_
            refine j_iload_n C 1 1 dX12_restore_51 rfl rfl ?_
            refine y_iconst C dX12_restore_52 ?_
            refine y_iadd C dX12_restore_53 ?_
            refine y_imul C dX12_restore_54 ?_
            refine j_iload_n C 2 2 dX12_restore_55 rfl rfl ?_
            refine y_iadd C dX12_restore_56 ?_
            refine y_ialdR C 45 3543 rfl rfl rfl ak_45 an_45 rfl hM122 dX12_restore_57 (by (clear fM122 hM122 ih119 u110 pM101 hM101 eM101 hret C hp1 hp0 hq45 hpr hM0; omega)) (fun a125 ea125 la125 ua125 ba125 => ?_)
            obtain rfl : a125 = (M122.1 99 (((1181 * (a1 + 1)) + a121)).toNat).toInt := ea125
            refine y_iastR C 45 3543 rfl rfl rfl ak_45 an_45 rfl hM122 (hq45 _ _ rfl) dX12_restore_58 (by exact ⟨h123.1, (by (clear ba125 ua125 la125 fM122 hM122 ih119 u110 h109 ua108 la108 ea108 h107 h105 pM101 hM101 eM101 hret C hp1 hp0 ha1 hq45 hpr hM0; omega))⟩) (by exact ⟨la125, ua125⟩) (by rw [← q_i a121 (a1 + 1) (by exact ⟨h123.1, ⟨(by (clear ba125 ua125 la125 fM122 hM122 ih119 u110 pM101 hM101 eM101 hret C hp1 hp0 hq45 hpr hM0; omega)), ⟨(by (clear ba125 ua125 la125 fM122 hM122 ih119 u110 pM101 hM101 eM101 hret C hp1 hp0 hq45 hpr hM0; omega)), (by (clear ba125 ua125 la125 fM122 hM122 ih119 u110 pM101 hM101 eM101 hret C hp1 hp0 hq45 hpr hM0; omega))⟩⟩⟩)]; assumption) (fun M126 eM126 hM126 => ?_)
            have u127 := cx_s (B := M101) (d := 0) (c2 := 99) (s := (1181 * (a1 + 1)).toNat) (k := a121) eM126 (by exact h123.1) (by omega) (by rw [sI_o, show (1181 * (a1 + 1)).toNat + (a121).toNat = (1181 * (a1 + 1) + a121).toNat by (clear hM126 eM126 ba125 ua125 la125 fM122 hM122 ih119 u110 pM101 hM101 eM101 hret C hp1 hp0 hq45 hpr hM0; omega)]; exact cx_r (M := M122) (B := M101) (d := 0) (c2 := 99) (s := (1181 * (a1 + 1)).toNat) (k := a121) (by exact h123.2.2.1) _ (by (clear hM126 eM126 ba125 ua125 la125 fM122 hM122 ih119 u110 pM101 hM101 eM101 hret C hp1 hp0 hq45 hpr hM0; omega))) (by exact h123.2.2.1)
            refine y_iinc C 2 [(2, .int (sI (a121 + 1))), (0, .ref (ad 98)), (1, .int (sI a1))] dX12_restore_59 rfl (by decide) rfl ?_
            refine j_goto C 32 dX12_restore_62 (by decide) ?_
            refine j_lv [1, 2, 0] rfl ?_; exact ih119 (a121 + 1) M126 (by exact ⟨(by (clear hM126 eM126 ba125 ua125 la125 fM122 hM122 ih119 u110 h109 ua108 la108 ea108 h107 h105 pM101 hM101 eM101 hret C hp1 hp0 ha1 hq45 hpr hM0; omega)), ⟨(by (clear hM126 eM126 ba125 ua125 la125 fM122 hM122 ih119 u110 h109 ua108 la108 ea108 h107 h105 pM101 hM101 eM101 hret C hp1 hp0 ha1 hq45 hpr hM0; omega)), ⟨u127, (by (clear hM126 eM126 ba125 ua125 la125 fM122 hM122 ih119 u110 h109 ua108 la108 ea108 h107 h105 pM101 hM101 eM101 hret C hp1 hp0 ha1 hq45 hpr hM0; omega))⟩⟩⟩) hM126 ((FR.rf.tr fM122 (by decide)).wI eM126 (by decide))
      refine j_lv [1, 2, 0] rfl ?_; exact L120 2372 0 M101 (by exact ⟨(by decide), ⟨(by decide), ⟨u110, (by decide)⟩⟩⟩) hM101 (FR.rf.wI eM101 (by decide))
    · refine y_bipush C dX12_restore_27 rfl ?_
      have u134C := cwa_c (M := M0) (N := M101) (show M101.1 99 = M0.1 99 from (wI_cell eM101 (by decide))) (by exact hp0)
      have u135r : b01 (M101.1 99 = M0.1 99) = 1 := b01_i ((wI_cell eM101 (by decide)))
      exact hret _ _ _ _ dX12_restore_29 ⟨(-5), rfl, hM101, (FR.rf.wI eM101 (by decide)), by exact ⟨(by decide), ⟨(by decide), ⟨u134C, ⟨(by (clear ua108 la108 hM101 eM101 hret C hp1 hp0 hq45 hpr hM0; omega)), ⟨(by (clear ua108 la108 hM101 eM101 hret C hp1 hp0 hq45 hpr hM0; omega)), pM101⟩⟩⟩⟩⟩⟩
  · refine y_bipush C dX12_restore_15 rfl ?_
    have u136C := cwa_c (M := M0) (N := M101) (show M101.1 99 = M0.1 99 from (wI_cell eM101 (by decide))) (by exact hp0)
    have u137r : b01 (M101.1 99 = M0.1 99) = 1 := b01_i ((wI_cell eM101 (by decide)))
    exact hret _ _ _ _ dX12_restore_17 ⟨(-2), rfl, hM101, (FR.rf.wI eM101 (by decide)), by exact ⟨(by decide), ⟨(by decide), ⟨u136C, ⟨(by (clear hM101 eM101 hret C hp1 hp0 hq45 hpr hM0; omega)), ⟨(by (clear hM101 eM101 hret C hp1 hp0 hq45 hpr hM0; omega)), pM101⟩⟩⟩⟩⟩⟩
