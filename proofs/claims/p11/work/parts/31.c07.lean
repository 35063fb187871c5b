set_option maxHeartbeats 4000000 in
theorem s8_X8_unit {l : Launch} {dC : Nat → ClassId} {dI : Nat → Nat → Nat} {ad : Nat → Nat} {cA : Nat → ClassId} {pr : Nat → Nat → Bool} {Kz : mm_M} {M0 : mm_M} (hM0 : INV pr Kz M0) (hpr : PX pr) (gf : Nat → Int) (gn : Int) (gi : Int) (hp0 : csX M0 ≤ (M0.1 78 2).toInt) (hp1 : b01 (TKX gf gn M0) = 1) (hp2 : b01 (PO gn gi (M0.1 78 5).toInt (psX M0)) = 1) : Cv l 24 yX8_unit wsX8_unit dC dI ad cA [.ref (ad 78), .int (sI 0)] M0 (fun M' => INV pr Kz M' ∧ (csX M' - csX M0 ≤ (M'.1 78 2).toInt - (M0.1 78 2).toInt) ∧ (b01 (CL AGC (M'.1 78 5).toInt M0 M' ((uLR gf gn 6) gi)) = 1) ∧ (b01 (TKX gf gn M') = 1) ∧ b01 (RR ((unR gf gn 6) gi) (M0.1 78 5).toInt (M0.1 78 6).toInt (M'.1 78 5).toInt (M'.1 78 6).toInt (psX M')) = 1 ∧ (b01 (RFX M0 M') = 1)) := by
  refine cv_of (cc := cX8_unit) (maxL := 4) (lv := [(0, .ref (ad 78)), (1, .int (sI 0))]) (by decide) rfl (Nat.le_of_ble_eq_true rfl) rfl ?_
  intro p e s m args below meth c A Q C hret
  refine j_aload_n C 0 0 dX8_unit_0 rfl rfl ?_
  refine y_getI C 7 _ _ fX8_unit_22 rfl rfl ft_7_5 sb_7_5 hM0 dX8_unit_1 (fun a101 ea101 la101 ua101 => ?_)
  refine y_if_eq C 8 dX8_unit_4 (by decide) (by (clear hret C hp2 hp1 hp0 hpr hM0; omega)) (fun h103 => ?_) (fun h103 => ?_)
  · refine j_aload_n C 0 0 dX8_unit_8 rfl rfl ?_
    refine j_callVi C (d := 0) (As := []) (st := []) 78 (s_lt rfl rfl) (s_kc (c := 7) rfl rfl) (by decide) rfl (s1_X8_token hM0 gf gn gi (by exact hp1) (by exact hp2)) gX8_unit_X8_token rfl hdX8_token (by decide) (Nat.le_of_ble_eq_true rfl) dX8_unit_9 rfl (fun r104 M105 h106 => ?_)
    obtain ⟨a108, rfl, rfl, h107⟩ := h106
    refine j_istore_n C 2 [(2, .int (sI a108)), (0, .ref (ad 78)), (1, .int (sI 0))] dX8_unit_12 rfl (by decide) rfl ?_
    refine j_iload_n C 0 2 dX8_unit_13 rfl rfl ?_
    refine y_sipush C dX8_unit_14 rfl ?_
    refine y_icmp_ne C 42 dX8_unit_17 (by decide) (by exact ⟨⟨h107.1, h107.2.1⟩, ⟨(by decide), (by decide)⟩⟩) (fun h109 => ?_) (fun h109 => ?_)
    · refine j_iload_n C 0 2 dX8_unit_42 rfl rfl ?_
      refine y_sipush C dX8_unit_43 rfl ?_
      refine y_icmp_ne C 71 dX8_unit_46 (by decide) (by exact ⟨⟨h107.1, h107.2.1⟩, ⟨(by decide), (by decide)⟩⟩) (fun h110 => ?_) (fun h110 => ?_)
      · refine j_aload_n C 1 0 dX8_unit_71 rfl rfl ?_
        refine j_iload_n C 2 1 dX8_unit_72 rfl rfl ?_
        refine j_callVv C (d := 23) (As := [.int (sI 0)]) (st := []) 78 (s_lt rfl rfl) (s_kc (c := 7) rfl rfl) (by decide) rfl (s8_X8_sum hM0 hpr gf gn gi (by exact hp0) (by exact hp1) (by exact hp2)) gX8_unit_X8_sum rfl hdX8_sum (by decide) (Nat.le_of_ble_eq_true rfl) dX8_unit_73 rfl (fun M112 h113 => ?_)
        obtain ⟨hM112, h114⟩ := h113
        have bM112 := tkx_b (f := gf) (n := gn) (M := M112) (by exact h114.2.2.1)
        have qM112 := po_rr (suR gf gn 6) gn gi (M0.1 78 5).toInt (M0.1 78 6).toInt (psX M0) (M112.1 78 5).toInt (M112.1 78 6).toInt (psX M112) (suR_g gf gn 6) (by exact hp2) (by exact h114.2.2.2.1)
        refine j_aload_n C 1 0 dX8_unit_76 rfl rfl ?_
        refine j_callVi C (d := 0) (As := []) (st := []) 78 (s_lt rfl rfl) (s_kc (c := 7) rfl rfl) (by decide) rfl (s1_X8_token hM112 gf gn ((suR gf gn 6) gi).2.2 (by exact h114.2.2.1) (by exact qM112)) gX8_unit_X8_token rfl hdX8_token (by decide) (Nat.le_of_ble_eq_true rfl) dX8_unit_77 rfl (fun r115 M116 h117 => ?_)
        obtain ⟨a119, rfl, rfl, h118⟩ := h117
        refine j_istore_n C 3 [(3, .int (sI a119)), (2, .int (sI a108)), (0, .ref (ad 78)), (1, .int (sI 0))] dX8_unit_80 rfl (by decide) rfl ?_
        refine j_iload_n C 0 3 dX8_unit_81 rfl rfl ?_
        refine y_sipush C dX8_unit_82 rfl ?_
        refine y_icmp_eq C 102 dX8_unit_85 (by decide) (by exact ⟨⟨h118.1, h118.2.1⟩, ⟨(by decide), (by decide)⟩⟩) (fun h120 => ?_) (fun h120 => ?_)
        · refine j_aload_n C 2 0 dX8_unit_102 rfl rfl ?_
          refine j_dup C dX8_unit_103 rfl ?_
          refine y_getI C 7 _ _ fX8_unit_18 rfl rfl ft_7_2 sb_7_2 hM112 dX8_unit_104 (fun a121 ea121 la121 ua121 => ?_)
          refine y_iconst C dX8_unit_107 ?_
          refine y_iadd C dX8_unit_108 ?_
          refine y_putI C 7 _ _ qX8_unit_18 rfl rfl ft_7_2 sb_7_2 hM112 (PX.w hpr rfl rfl) dX8_unit_109 (by (clear ua121 la121 h120 h118 qM112 h114 hM112 h110 h109 h107 h103 ua101 la101 ea101 hret C hp2 hp1 hp0 hpr hM0; omega)) (fun M123 eM123 hM123 => ?_)
          have xM123 := tkx_j (f := gf) (n := gn) (gi := ((suR gf gn 6) gi).2.2) eM123 (by exact h114.2.2.1) (by exact ea121) (by (clear hM123 eM123 ua121 la121 ea121 qM112 bM112 h114 hM112 h110 h109 h107 h103 ua101 la101 ea101 hret C hp2 hp1 hp0 hpr hM0; omega)) (by exact qM112)
          have dM123 := cs_w hM112 (c := 7) rfl eM123 (by decide)
          have gM123 := s_wr eM123 (by (clear dM123 xM123 hM123 eM123 ua121 la121 h120 h118 qM112 h114 hM112 h110 h109 h107 h103 ua101 la101 ea101 hret C hp2 hp1 hp0 hpr hM0; omega))
          refine j_aload_n C 2 0 dX8_unit_112 rfl rfl ?_
          refine j_iload_n C 3 1 dX8_unit_113 rfl rfl ?_
          refine j_callVv C (d := 23) (As := [.int (sI 0)]) (st := []) 78 (s_lt rfl rfl) (s_kc (c := 7) rfl rfl) (by decide) rfl (s8_X8_sum hM123 hpr gf gn (nxF gf gn ((suR gf gn 6) gi).2.2) (by (clear xM123 hM123 eM123 ua121 la121 h120 h118 qM112 bM112 hM112 h110 h109 h107 h103 ua101 la101 ea101 hret C hp2 hp1 hpr hM0; omega)) (by exact xM123.1) (by exact xM123.2.2.2)) gX8_unit_X8_sum rfl hdX8_sum (by decide) (Nat.le_of_ble_eq_true rfl) dX8_unit_114 rfl (fun M125 h126 => ?_)
          obtain ⟨hM125, h127⟩ := h126
          have bM125 := tkx_b (f := gf) (n := gn) (M := M125) (by exact h127.2.2.1)
          have qM125 := po_rr (suR gf gn 6) gn (nxF gf gn ((suR gf gn 6) gi).2.2) (M123.1 78 5).toInt (M123.1 78 6).toInt (psX M123) (M125.1 78 5).toInt (M125.1 78 6).toInt (psX M125) (suR_g gf gn 6) (by exact xM123.2.2.2) (by exact h127.2.2.2.1)
          refine j_aload_n C 2 0 dX8_unit_117 rfl rfl ?_
          refine j_iload_n C 0 3 dX8_unit_118 rfl rfl ?_
          have u128b := tkx_b (f := gf) (n := gn) (M := M125) (by exact h127.2.2.1)
          refine j_callVv C (d := 0) (As := [.int (sI a119)]) (st := []) 78 (s_lt rfl rfl) (s_kc (c := 7) rfl rfl) (by decide) rfl (s1_X8_emit hM125 hpr a119 (by exact ⟨h118.1, h118.2.1⟩) gf gn ((suR gf gn 6) (nxF gf gn ((suR gf gn 6) gi).2.2)).2.2 (by (clear u128b qM125 hM125 xM123 hM123 eM123 ua121 la121 h120 h118 qM112 bM112 hM112 h110 h109 h107 h103 ua101 la101 ea101 hret C hp2 hp1 hpr hM0; omega)) (by exact h127.2.2.1) (by exact qM125)) gX8_unit_X8_emit rfl hdX8_emit (by decide) (Nat.le_of_ble_eq_true rfl) dX8_unit_119 rfl (fun M130 h131 => ?_)
          obtain ⟨hM130, h132⟩ := h131
          have bM130 := tkx_b (f := gf) (n := gn) (M := M130) (by exact h132.2.2.2.2.2.2.1)
          have qM130 := po_eq gn ((suR gf gn 6) (nxF gf gn ((suR gf gn 6) gi).2.2)).2.2 (M125.1 78 5).toInt (psX M125) (M130.1 78 5).toInt (psX M130) (by exact qM125) (by exact h132.2.1.1) (by exact h132.1)
          refine j_goto C 130 dX8_unit_122 (by decide) ?_
          have u133r := un_4 gf gn 6 gi (M0.1 78 5).toInt (M0.1 78 6).toInt (psX M0) (M112.1 78 5).toInt (M112.1 78 6).toInt (psX M112) (M123.1 78 5).toInt (M123.1 78 6).toInt (M125.1 78 5).toInt (M125.1 78 6).toInt (psX M125) (M130.1 78 5).toInt (M130.1 78 6).toInt (psX M130) (by exact hp2) (by (clear qM130 bM130 hM130 u128b qM125 bM125 h127 hM125 gM123 dM123 xM123 hM123 eM123 ua121 la121 ea121 h120 h118 qM112 bM112 h114 hM112 h103 ua101 la101 ea101 hret C hp2 hp1 hp0 hpr hM0; omega)) (by exact h114.2.2.2.1) (by exact qM112) (by (clear qM130 bM130 h132 hM130 u128b qM125 bM125 h127 hM125 gM123 dM123 xM123 hM123 eM123 ua121 la121 ea121 qM112 bM112 h114 hM112 h110 h109 h107 h103 ua101 la101 ea101 hret C hp2 hp1 hp0 hpr hM0; omega)) (by exact xM123.2.1) (by exact xM123.2.2.1) (by exact h127.2.2.2.1) (by exact h132.2.1.1) (by exact h132.2.1.2) (by exact h132.1)
          have u133l : b01 (CL AGC (M130.1 78 5).toInt M0 M130 ((uLR gf gn 6) gi)) = 1 := cl_e (cl_t (cl_t (cl_t (show b01 (CL AGC (M112.1 78 5).toInt M0 M112 ((sLR gf gn 6) gi)) = 1 by exact h114.2.1) (cl_r (A := AGC) (M := M112) (N := M123) (M123.1 78 5).toInt (agc_78 eM123)) (fun z => by (clear u133r qM130 bM130 h132 hM130 u128b qM125 bM125 h127 hM125 gM123 dM123 hM123 eM123 ua121 la121 ea121 h120 h118 qM112 bM112 h114 hM112 h110 h109 h107 h103 ua101 la101 ea101 hret C hp2 hp1 hp0 hpr hM0; omega))) (show b01 (CL AGC (M125.1 78 5).toInt M123 M125 ((sLR gf gn 6) (nxF gf gn ((suR gf gn 6) gi).2.2))) = 1 by exact h127.2.1) (fun z => rr_z (show b01 (RR ((suR gf gn 6) (nxF gf gn ((suR gf gn 6) gi).2.2)) (M123.1 78 5).toInt (M123.1 78 6).toInt (M125.1 78 5).toInt (M125.1 78 6).toInt (psX M125)) = 1 by exact h127.2.2.2.1) z)) (show b01 (CL AGC (M130.1 78 5).toInt M125 M130 [cmF a119]) = 1 by exact h132.2.2.2.2.2.1) (fun z => by (clear u133r qM130 bM130 hM130 u128b qM125 bM125 h127 hM125 gM123 dM123 xM123 hM123 eM123 ua121 la121 ea121 h120 h118 qM112 bM112 h114 hM112 h110 h109 h107 h103 ua101 la101 ea101 hret C hp2 hp1 hp0 hpr hM0; omega))) (fun z => by rw [un_l4 gf gn 6 (show b01 (PO gn gi (M0.1 78 5).toInt (psX M0)) = 1 by exact hp2) (by omega) (by (clear z u133r qM130 bM130 hM130 u128b qM125 bM125 h127 hM125 gM123 dM123 xM123 hM123 eM123 ua121 la121 ea121 h120 h118 qM112 bM112 h114 hM112 h103 ua101 la101 ea101 hret C hp2 hp1 hp0 hpr hM0; omega)) (show b01 (PO gn ((suR gf gn 6) gi).2.2 (M112.1 78 5).toInt (psX M112)) = 1 by exact qM112) (by have y := (fun z => rr_z (show b01 (RR ((suR gf gn 6) (nxF gf gn ((suR gf gn 6) gi).2.2)) (M123.1 78 5).toInt (M123.1 78 6).toInt (M125.1 78 5).toInt (M125.1 78 6).toInt (psX M125)) = 1 by exact h127.2.2.2.1) z) (show (M125.1 78 5).toInt = 0 by omega); (clear z u133r qM130 bM130 h132 hM130 u128b qM125 bM125 h127 hM125 gM123 dM123 hM123 eM123 ua121 la121 ea121 h120 h118 qM112 bM112 h114 hM112 h110 h109 h107 h103 ua101 la101 ea101 hret C hp2 hp1 hp0 hpr hM0; omega)), show tkF gf gn (psX M112) = a119 by exact h118.2.2.symm]; simp)
          have zr := (rfx_t (rfx_t (rfx_i (rfx_t (rfx_r M0) (show b01 (RFX M0 M112) = 1 by exact h114.2.2.2.2)) eM123 (by decide)) (show b01 (RFX M123 M125) = 1 by exact h127.2.2.2.2)) (show b01 (RFX M125 M130) = 1 by exact h132.2.2.2.2.2.2.2)); exact hret _ _ _ dX8_unit_130 ⟨hM130, by exact ⟨(by (clear qM130 bM130 hM130 u128b qM125 bM125 hM125 xM123 hM123 eM123 ua121 la121 h120 h118 qM112 bM112 hM112 h110 h109 h107 h103 ua101 la101 ea101 hret C hp2 hp1 hp0 hpr hM0; omega)), ⟨u133l, ⟨h132.2.2.2.2.2.2.1, ⟨u133r, zr⟩⟩⟩⟩⟩
        · refine j_iload_n C 0 3 dX8_unit_88 rfl rfl ?_
          refine y_sipush C dX8_unit_89 rfl ?_
          refine y_icmp_eq C 102 dX8_unit_92 (by decide) (by exact ⟨⟨h118.1, h118.2.1⟩, ⟨(by decide), (by decide)⟩⟩) (fun h134 => ?_) (fun h134 => ?_)
          · refine j_aload_n C 2 0 dX8_unit_102 rfl rfl ?_
            refine j_dup C dX8_unit_103 rfl ?_
            refine y_getI C 7 _ _ fX8_unit_18 rfl rfl ft_7_2 sb_7_2 hM112 dX8_unit_104 (fun a135 ea135 la135 ua135 => ?_)
            refine y_iconst C dX8_unit_107 ?_
            refine y_iadd C dX8_unit_108 ?_
            refine y_putI C 7 _ _ qX8_unit_18 rfl rfl ft_7_2 sb_7_2 hM112 (PX.w hpr rfl rfl) dX8_unit_109 (by omega) (fun M137 eM137 hM137 => ?_)
            have xM137 := tkx_j (f := gf) (n := gn) (gi := ((suR gf gn 6) gi).2.2) eM137 (by exact h114.2.2.1) (by exact ea135) (by (clear hM137 eM137 ua135 la135 ea135 h120 qM112 bM112 h114 hM112 h110 h109 h107 h103 ua101 la101 ea101 hret C hp2 hp1 hp0 hpr hM0; omega)) (by exact qM112)
            have dM137 := cs_w hM112 (c := 7) rfl eM137 (by decide)
            have gM137 := s_wr eM137 (by omega)
            refine j_aload_n C 2 0 dX8_unit_112 rfl rfl ?_
            refine j_iload_n C 3 1 dX8_unit_113 rfl rfl ?_
            refine j_callVv C (d := 23) (As := [.int (sI 0)]) (st := []) 78 (s_lt rfl rfl) (s_kc (c := 7) rfl rfl) (by decide) rfl (s8_X8_sum hM137 hpr gf gn (nxF gf gn ((suR gf gn 6) gi).2.2) (by omega) (by exact xM137.1) (by exact xM137.2.2.2)) gX8_unit_X8_sum rfl hdX8_sum (by decide) (Nat.le_of_ble_eq_true rfl) dX8_unit_114 rfl (fun M139 h140 => ?_)
            obtain ⟨hM139, h141⟩ := h140
            have bM139 := tkx_b (f := gf) (n := gn) (M := M139) (by exact h141.2.2.1)
            have qM139 := po_rr (suR gf gn 6) gn (nxF gf gn ((suR gf gn 6) gi).2.2) (M137.1 78 5).toInt (M137.1 78 6).toInt (psX M137) (M139.1 78 5).toInt (M139.1 78 6).toInt (psX M139) (suR_g gf gn 6) (by exact xM137.2.2.2) (by exact h141.2.2.2.1)
            refine j_aload_n C 2 0 dX8_unit_117 rfl rfl ?_
            refine j_iload_n C 0 3 dX8_unit_118 rfl rfl ?_
            have u142b := tkx_b (f := gf) (n := gn) (M := M139) (by exact h141.2.2.1)
            refine j_callVv C (d := 0) (As := [.int (sI a119)]) (st := []) 78 (s_lt rfl rfl) (s_kc (c := 7) rfl rfl) (by decide) rfl (s1_X8_emit hM139 hpr a119 (by exact ⟨h118.1, h118.2.1⟩) gf gn ((suR gf gn 6) (nxF gf gn ((suR gf gn 6) gi).2.2)).2.2 (by omega) (by exact h141.2.2.1) (by exact qM139)) gX8_unit_X8_emit rfl hdX8_emit (by decide) (Nat.le_of_ble_eq_true rfl) dX8_unit_119 rfl (fun M144 h145 => ?_)
            obtain ⟨hM144, h146⟩ := h145
            have bM144 := tkx_b (f := gf) (n := gn) (M := M144) (by exact h146.2.2.2.2.2.2.1)
            have qM144 := po_eq gn ((suR gf gn 6) (nxF gf gn ((suR gf gn 6) gi).2.2)).2.2 (M139.1 78 5).toInt (psX M139) (M144.1 78 5).toInt (psX M144) (by exact qM139) (by exact h146.2.1.1) (by exact h146.1)
            refine j_goto C 130 dX8_unit_122 (by decide) ?_
            have u147r := un_4 gf gn 6 gi (M0.1 78 5).toInt (M0.1 78 6).toInt (psX M0) (M112.1 78 5).toInt (M112.1 78 6).toInt (psX M112) (M137.1 78 5).toInt (M137.1 78 6).toInt (M139.1 78 5).toInt (M139.1 78 6).toInt (psX M139) (M144.1 78 5).toInt (M144.1 78 6).toInt (psX M144) (by exact hp2) (by (clear qM144 bM144 hM144 u142b qM139 bM139 h141 hM139 gM137 dM137 xM137 hM137 eM137 ua135 la135 ea135 qM112 bM112 h114 hM112 h103 ua101 la101 ea101 hret C hp2 hp1 hp0 hpr hM0; omega)) (by exact h114.2.2.2.1) (by exact qM112) (by (clear qM144 bM144 h146 hM144 u142b qM139 bM139 h141 hM139 gM137 dM137 xM137 hM137 eM137 ua135 la135 ea135 h120 qM112 bM112 h114 hM112 h110 h109 h107 h103 ua101 la101 ea101 hret C hp2 hp1 hp0 hpr hM0; omega)) (by exact xM137.2.1) (by exact xM137.2.2.1) (by exact h141.2.2.2.1) (by exact h146.2.1.1) (by exact h146.2.1.2) (by exact h146.1)
            have u147l : b01 (CL AGC (M144.1 78 5).toInt M0 M144 ((uLR gf gn 6) gi)) = 1 := cl_e (cl_t (cl_t (cl_t (show b01 (CL AGC (M112.1 78 5).toInt M0 M112 ((sLR gf gn 6) gi)) = 1 by exact h114.2.1) (cl_r (A := AGC) (M := M112) (N := M137) (M137.1 78 5).toInt (agc_78 eM137)) (fun z => by omega)) (show b01 (CL AGC (M139.1 78 5).toInt M137 M139 ((sLR gf gn 6) (nxF gf gn ((suR gf gn 6) gi).2.2))) = 1 by exact h141.2.1) (fun z => rr_z (show b01 (RR ((suR gf gn 6) (nxF gf gn ((suR gf gn 6) gi).2.2)) (M137.1 78 5).toInt (M137.1 78 6).toInt (M139.1 78 5).toInt (M139.1 78 6).toInt (psX M139)) = 1 by exact h141.2.2.2.1) z)) (show b01 (CL AGC (M144.1 78 5).toInt M139 M144 [cmF a119]) = 1 by exact h146.2.2.2.2.2.1) (fun z => by omega)) (fun z => by rw [un_l4 gf gn 6 (show b01 (PO gn gi (M0.1 78 5).toInt (psX M0)) = 1 by exact hp2) (by omega) (by (clear z u147r qM144 bM144 hM144 u142b qM139 bM139 h141 hM139 gM137 dM137 xM137 hM137 eM137 ua135 la135 ea135 qM112 bM112 h114 hM112 h103 ua101 la101 ea101 hret C hp2 hp1 hp0 hpr hM0; omega)) (show b01 (PO gn ((suR gf gn 6) gi).2.2 (M112.1 78 5).toInt (psX M112)) = 1 by exact qM112) (by have y := (fun z => rr_z (show b01 (RR ((suR gf gn 6) (nxF gf gn ((suR gf gn 6) gi).2.2)) (M137.1 78 5).toInt (M137.1 78 6).toInt (M139.1 78 5).toInt (M139.1 78 6).toInt (psX M139)) = 1 by exact h141.2.2.2.1) z) (show (M139.1 78 5).toInt = 0 by omega); omega), show tkF gf gn (psX M112) = a119 by exact h118.2.2.symm]; simp)
            have zr := (rfx_t (rfx_t (rfx_i (rfx_t (rfx_r M0) (show b01 (RFX M0 M112) = 1 by exact h114.2.2.2.2)) eM137 (by decide)) (show b01 (RFX M137 M139) = 1 by exact h141.2.2.2.2)) (show b01 (RFX M139 M144) = 1 by exact h146.2.2.2.2.2.2.2)); exact hret _ _ _ dX8_unit_130 ⟨hM144, by exact ⟨(by (clear qM144 bM144 hM144 u142b qM139 bM139 hM139 xM137 hM137 eM137 ua135 la135 h134 h120 h118 qM112 bM112 hM112 h110 h109 h107 h103 ua101 la101 ea101 hret C hp2 hp1 hp0 hpr hM0; omega)), ⟨u147l, ⟨h146.2.2.2.2.2.2.1, ⟨u147r, zr⟩⟩⟩⟩⟩
          · refine j_iload_n C 0 3 dX8_unit_95 rfl rfl ?_
            refine y_sipush C dX8_unit_96 rfl ?_
            refine y_icmp_ne C 125 dX8_unit_99 (by decide) (by exact ⟨⟨h118.1, h118.2.1⟩, ⟨(by decide), (by decide)⟩⟩) (fun h148 => ?_) (fun h148 => ?_)
            · refine j_aload_n C 2 0 dX8_unit_125 rfl rfl ?_
              refine y_iconst C dX8_unit_126 ?_
              refine j_callVv C (d := 0) (As := [.int (sI 2)]) (st := []) 78 (s_lt rfl rfl) (s_kc (c := 7) rfl rfl) (by decide) rfl (s1_X8_fail hM112 hpr 2 (by exact ⟨(by decide), (by decide)⟩) gf gn ((suR gf gn 6) gi).2.2 (by exact ⟨(by decide), (by decide)⟩) (by exact h114.2.2.1) (by exact qM112)) gX8_unit_X8_fail rfl hdX8_fail (by decide) (Nat.le_of_ble_eq_true rfl) dX8_unit_127 rfl (fun M150 h151 => ?_)
              obtain ⟨hM150, fM150, h152⟩ := h151
              have bM150 := tkx_b (f := gf) (n := gn) (M := M150) (by exact h152.2.2.2.1)
              have qM150 := po_f gn ((faQ gf gn 2) ((suR gf gn 6) gi).2.2).2.2 (M150.1 78 5).toInt (psX M150) (by omega)
              have dM150 := cs_f hM112 fM150
              have u153r := un_5 gf gn 6 gi (M0.1 78 5).toInt (M0.1 78 6).toInt (psX M0) (M112.1 78 5).toInt (M112.1 78 6).toInt (psX M112) (M150.1 78 5).toInt (M150.1 78 6).toInt (psX M150) (by exact hp2) (by (clear dM150 qM150 bM150 h152 fM150 hM150 qM112 bM112 h114 hM112 h103 ua101 la101 ea101 hret C hp2 hp1 hp0 hpr hM0; omega)) (by exact h114.2.2.2.1) (by exact qM112) (fun _ => by omega) (by exact h152.2.2.2.2.1)
              have u153l := cl_n (A := AGC) (M := M0) (N := M150) ((uLR gf gn 6) gi) (a := (M150.1 78 5).toInt) (by omega)
              have zr := (rfx_F (rfx_t (rfx_r M0) (show b01 (RFX M0 M112) = 1 by exact h114.2.2.2.2)) fM150); exact hret _ _ _ dX8_unit_130 ⟨hM150, by exact ⟨(by (clear qM150 bM150 fM150 hM150 h148 h134 h120 h118 qM112 bM112 hM112 h110 h109 h107 h103 ua101 la101 ea101 hret C hp2 hp1 hp0 hpr hM0; omega)), ⟨u153l, ⟨h152.2.2.2.1, ⟨u153r, zr⟩⟩⟩⟩⟩
            · refine j_aload_n C 2 0 dX8_unit_102 rfl rfl ?_
              refine j_dup C dX8_unit_103 rfl ?_
              refine y_getI C 7 _ _ fX8_unit_18 rfl rfl ft_7_2 sb_7_2 hM112 dX8_unit_104 (fun a154 ea154 la154 ua154 => ?_)
              refine y_iconst C dX8_unit_107 ?_
              refine y_iadd C dX8_unit_108 ?_
              refine y_putI C 7 _ _ qX8_unit_18 rfl rfl ft_7_2 sb_7_2 hM112 (PX.w hpr rfl rfl) dX8_unit_109 (by omega) (fun M156 eM156 hM156 => ?_)
              have xM156 := tkx_j (f := gf) (n := gn) (gi := ((suR gf gn 6) gi).2.2) eM156 (by exact h114.2.2.1) (by exact ea154) (by (clear hM156 eM156 ua154 la154 ea154 h134 h120 qM112 bM112 h114 hM112 h110 h109 h107 h103 ua101 la101 ea101 hret C hp2 hp1 hp0 hpr hM0; omega)) (by exact qM112)
              have dM156 := cs_w hM112 (c := 7) rfl eM156 (by decide)
              have gM156 := s_wr eM156 (by omega)
              refine j_aload_n C 2 0 dX8_unit_112 rfl rfl ?_
              refine j_iload_n C 3 1 dX8_unit_113 rfl rfl ?_
              refine j_callVv C (d := 23) (As := [.int (sI 0)]) (st := []) 78 (s_lt rfl rfl) (s_kc (c := 7) rfl rfl) (by decide) rfl (s8_X8_sum hM156 hpr gf gn (nxF gf gn ((suR gf gn 6) gi).2.2) (by omega) (by exact xM156.1) (by exact xM156.2.2.2)) gX8_unit_X8_sum rfl hdX8_sum (by decide) (Nat.le_of_ble_eq_true rfl) dX8_unit_114 rfl (fun M158 h159 => ?_)
              obtain ⟨hM158, h160⟩ := h159
              have bM158 := tkx_b (f := gf) (n := gn) (M := M158) (by exact h160.2.2.1)
              have qM158 := po_rr (suR gf gn 6) gn (nxF gf gn ((suR gf gn 6) gi).2.2) (M156.1 78 5).toInt (M156.1 78 6).toInt (psX M156) (M158.1 78 5).toInt (M158.1 78 6).toInt (psX M158) (suR_g gf gn 6) (by exact xM156.2.2.2) (by exact h160.2.2.2.1)
              refine j_aload_n C 2 0 dX8_unit_117 rfl rfl ?_
              refine j_iload_n C 0 3 dX8_unit_118 rfl rfl ?_
              have u161b := tkx_b (f := gf) (n := gn) (M := M158) (by exact h160.2.2.1)
              refine j_callVv C (d := 0) (As := [.int (sI a119)]) (st := []) 78 (s_lt rfl rfl) (s_kc (c := 7) rfl rfl) (by decide) rfl (s1_X8_emit hM158 hpr a119 (by exact ⟨h118.1, h118.2.1⟩) gf gn ((suR gf gn 6) (nxF gf gn ((suR gf gn 6) gi).2.2)).2.2 (by omega) (by exact h160.2.2.1) (by exact qM158)) gX8_unit_X8_emit rfl hdX8_emit (by decide) (Nat.le_of_ble_eq_true rfl) dX8_unit_119 rfl (fun M163 h164 => ?_)
              obtain ⟨hM163, h165⟩ := h164
              have bM163 := tkx_b (f := gf) (n := gn) (M := M163) (by exact h165.2.2.2.2.2.2.1)
              have qM163 := po_eq gn ((suR gf gn 6) (nxF gf gn ((suR gf gn 6) gi).2.2)).2.2 (M158.1 78 5).toInt (psX M158) (M163.1 78 5).toInt (psX M163) (by exact qM158) (by exact h165.2.1.1) (by exact h165.1)
              refine j_goto C 130 dX8_unit_122 (by decide) ?_
              have u166r := un_4 gf gn 6 gi (M0.1 78 5).toInt (M0.1 78 6).toInt (psX M0) (M112.1 78 5).toInt (M112.1 78 6).toInt (psX M112) (M156.1 78 5).toInt (M156.1 78 6).toInt (M158.1 78 5).toInt (M158.1 78 6).toInt (psX M158) (M163.1 78 5).toInt (M163.1 78 6).toInt (psX M163) (by exact hp2) (by (clear qM163 bM163 hM163 u161b qM158 bM158 h160 hM158 gM156 dM156 xM156 hM156 eM156 ua154 la154 ea154 qM112 bM112 h114 hM112 h103 ua101 la101 ea101 hret C hp2 hp1 hp0 hpr hM0; omega)) (by exact h114.2.2.2.1) (by exact qM112) (by (clear qM163 bM163 h165 hM163 u161b qM158 bM158 h160 hM158 gM156 dM156 xM156 hM156 eM156 ua154 la154 ea154 h134 h120 qM112 bM112 h114 hM112 h110 h109 h107 h103 ua101 la101 ea101 hret C hp2 hp1 hp0 hpr hM0; omega)) (by exact xM156.2.1) (by exact xM156.2.2.1) (by exact h160.2.2.2.1) (by exact h165.2.1.1) (by exact h165.2.1.2) (by exact h165.1)
              have u166l : b01 (CL AGC (M163.1 78 5).toInt M0 M163 ((uLR gf gn 6) gi)) = 1 := cl_e (cl_t (cl_t (cl_t (show b01 (CL AGC (M112.1 78 5).toInt M0 M112 ((sLR gf gn 6) gi)) = 1 by exact h114.2.1) (cl_r (A := AGC) (M := M112) (N := M156) (M156.1 78 5).toInt (agc_78 eM156)) (fun z => by omega)) (show b01 (CL AGC (M158.1 78 5).toInt M156 M158 ((sLR gf gn 6) (nxF gf gn ((suR gf gn 6) gi).2.2))) = 1 by exact h160.2.1) (fun z => rr_z (show b01 (RR ((suR gf gn 6) (nxF gf gn ((suR gf gn 6) gi).2.2)) (M156.1 78 5).toInt (M156.1 78 6).toInt (M158.1 78 5).toInt (M158.1 78 6).toInt (psX M158)) = 1 by exact h160.2.2.2.1) z)) (show b01 (CL AGC (M163.1 78 5).toInt M158 M163 [cmF a119]) = 1 by exact h165.2.2.2.2.2.1) (fun z => by omega)) (fun z => by rw [un_l4 gf gn 6 (show b01 (PO gn gi (M0.1 78 5).toInt (psX M0)) = 1 by exact hp2) (by omega) (by (clear z u166r qM163 bM163 hM163 u161b qM158 bM158 h160 hM158 gM156 dM156 xM156 hM156 eM156 ua154 la154 ea154 qM112 bM112 h114 hM112 h103 ua101 la101 ea101 hret C hp2 hp1 hp0 hpr hM0; omega)) (show b01 (PO gn ((suR gf gn 6) gi).2.2 (M112.1 78 5).toInt (psX M112)) = 1 by exact qM112) (by have y := (fun z => rr_z (show b01 (RR ((suR gf gn 6) (nxF gf gn ((suR gf gn 6) gi).2.2)) (M156.1 78 5).toInt (M156.1 78 6).toInt (M158.1 78 5).toInt (M158.1 78 6).toInt (psX M158)) = 1 by exact h160.2.2.2.1) z) (show (M158.1 78 5).toInt = 0 by omega); omega), show tkF gf gn (psX M112) = a119 by exact h118.2.2.symm]; simp)
              have zr := (rfx_t (rfx_t (rfx_i (rfx_t (rfx_r M0) (show b01 (RFX M0 M112) = 1 by exact h114.2.2.2.2)) eM156 (by decide)) (show b01 (RFX M156 M158) = 1 by exact h160.2.2.2.2)) (show b01 (RFX M158 M163) = 1 by exact h165.2.2.2.2.2.2.2)); exact hret _ _ _ dX8_unit_130 ⟨hM163, by exact ⟨(by (clear qM163 bM163 hM163 u161b qM158 bM158 hM158 xM156 hM156 eM156 ua154 la154 h148 h134 h120 h118 qM112 bM112 hM112 h110 h109 h107 h103 ua101 la101 ea101 hret C hp2 hp1 hp0 hpr hM0; omega)), ⟨u166l, ⟨h165.2.2.2.2.2.2.1, ⟨u166r, zr⟩⟩⟩⟩⟩
      · refine j_aload_n C 1 0 dX8_unit_49 rfl rfl ?_
        refine j_iload_n C 2 1 dX8_unit_50 rfl rfl ?_
        refine j_callVv C (d := 0) (As := [.int (sI 0)]) (st := []) 78 (s_lt rfl rfl) (s_kc (c := 7) rfl rfl) (by decide) rfl (s1_X8_goDeeper hM0 hpr gf gn gi (by omega) (by omega) (by omega) (by exact hp1) (by exact hp2)) gX8_unit_X8_goDeeper rfl hdX8_goDeeper (by decide) (Nat.le_of_ble_eq_true rfl) dX8_unit_51 rfl (fun M168 h169 => ?_)
        obtain ⟨hM168, fM168, h170⟩ := h169
        have bM168 := tkx_b (f := gf) (n := gn) (M := M168) (by exact h170.2.2.2.1)
        have dM168 := cs_f hM0 fM168
        refine j_aload_n C 1 0 dX8_unit_54 rfl rfl ?_
        refine j_iload_n C 2 1 dX8_unit_55 rfl rfl ?_
        refine y_iconst C dX8_unit_56 ?_
        refine y_iadd C dX8_unit_57 ?_
        refine j_callVv C (d := 23) (As := [.int (sI (0 + 1))]) (st := []) 78 (s_lt rfl rfl) (s_kc (c := 7) rfl rfl) (by decide) rfl (s7_X8_truth hM168 hpr gf gn (nxF gf gn gi) (by (clear bM168 fM168 hM168 h110 h109 h107 h103 ua101 la101 ea101 hret C hp2 hp1 hpr hM0; omega)) (by exact h170.2.2.2.1) (by exact h170.2.1)) gX8_unit_X8_truth rfl hdX8_truth (by decide) (Nat.le_of_ble_eq_true rfl) dX8_unit_58 rfl (fun M172 h173 => ?_)
        obtain ⟨hM172, h174⟩ := h173
        have bM172 := tkx_b (f := gf) (n := gn) (M := M172) (by exact h174.2.2.1)
        have qM172 := po_rr (trP gf gn (unR gf gn 5)) gn (nxF gf gn gi) (M168.1 78 5).toInt (M168.1 78 6).toInt (psX M168) (M172.1 78 5).toInt (M172.1 78 6).toInt (psX M172) (tr_g gf gn (unR_g gf gn 5)) (by exact h170.2.1) (by exact h174.2.2.2.1)
        refine j_aload_n C 1 0 dX8_unit_61 rfl rfl ?_
        refine y_sipush C dX8_unit_62 rfl ?_
        refine j_callVv C (d := 1) (As := [.int (sI 2093)]) (st := []) 78 (s_lt rfl rfl) (s_kc (c := 7) rfl rfl) (by decide) rfl (s1_X8_expect hM172 hpr 2093 (by exact ⟨(by decide), (by decide)⟩) gf gn ((trP gf gn (unR gf gn 5)) (nxF gf gn gi)).2.2 (by exact (by decide)) (by exact (by decide)) (by exact h174.2.2.1) (by exact qM172)) gX8_unit_X8_expect rfl hdX8_expect (by decide) (Nat.le_of_ble_eq_true rfl) dX8_unit_65 rfl (fun M176 h177 => ?_)
        obtain ⟨hM176, fM176, h178⟩ := h177
        have bM176 := tkx_b (f := gf) (n := gn) (M := M176) (by exact h178.2.1)
        have qM176 := po_rr (exP gf gn 2093) gn ((trP gf gn (unR gf gn 5)) (nxF gf gn gi)).2.2 (M172.1 78 5).toInt (M172.1 78 6).toInt (psX M172) (M176.1 78 5).toInt (M176.1 78 6).toInt (psX M176) (ex_g gf gn 2093 (by exact (by decide))) (by exact qM172) (by exact h178.2.2.1)
        have dM176 := cs_f hM172 fM176
        refine j_goto C 130 dX8_unit_68 (by decide) ?_
        have u179r := un_2 gf gn 5 6 rfl gi (M0.1 78 5).toInt (M0.1 78 6).toInt (psX M0) (M168.1 78 5).toInt (M168.1 78 6).toInt (M172.1 78 5).toInt (M172.1 78 6).toInt (psX M172) (M176.1 78 5).toInt (M176.1 78 6).toInt (psX M176) (by exact hp2) (by (clear dM176 qM176 bM176 h178 fM176 hM176 qM172 bM172 h174 hM172 dM168 bM168 h170 fM168 hM168 h109 h103 ua101 la101 ea101 hret C hp2 hp1 hp0 hpr hM0; omega)) (by exact h170.1.1) (by exact h170.1.2) (by exact h174.2.2.2.1) (by exact h178.2.2.1)
        have u179l : b01 (CL AGC (M176.1 78 5).toInt M0 M176 ((uLR gf gn 6) gi)) = 1 := cl_e (cl_t (cl_t (cl_r (A := AGC) (M := M0) (N := M168) (M168.1 78 5).toInt (agc_F fM168)) (show b01 (CL AGC (M172.1 78 5).toInt M168 M172 ((trL gf gn (unR gf gn 5) (uLR gf gn 5)) (nxF gf gn gi))) = 1 by exact h174.2.1) (fun z => rr_z (show b01 (RR ((trP gf gn (unR gf gn 5)) (nxF gf gn gi)) (M168.1 78 5).toInt (M168.1 78 6).toInt (M172.1 78 5).toInt (M172.1 78 6).toInt (psX M172)) = 1 by exact h174.2.2.2.1) z)) (cl_r (A := AGC) (M := M172) (N := M176) (M176.1 78 5).toInt (agc_F fM176)) (fun z => rr_z (show b01 (RR ((exP gf gn 2093) ((trP gf gn (unR gf gn 5)) (nxF gf gn gi)).2.2) (M172.1 78 5).toInt (M172.1 78 6).toInt (M176.1 78 5).toInt (M176.1 78 6).toInt (psX M176)) = 1 by exact h178.2.2.1) z)) (fun z => by rw [un_l2 gf gn 5 6 rfl (show b01 (PO gn gi (M0.1 78 5).toInt (psX M0)) = 1 by exact hp2) (by omega) (by omega), List.nil_append, List.append_nil])
        have zr := (rfx_F (rfx_t (rfx_F (rfx_r M0) fM168) (show b01 (RFX M168 M172) = 1 by exact h174.2.2.2.2)) fM176); exact hret _ _ _ dX8_unit_130 ⟨hM176, by exact ⟨(by (clear qM176 bM176 fM176 hM176 qM172 bM172 hM172 bM168 fM168 hM168 h110 h109 h107 h103 ua101 la101 ea101 hret C hp2 hp1 hp0 hpr hM0; omega)), ⟨u179l, ⟨h178.2.1, ⟨u179r, zr⟩⟩⟩⟩⟩
    · refine j_aload_n C 1 0 dX8_unit_20 rfl rfl ?_
      refine j_iload_n C 2 1 dX8_unit_21 rfl rfl ?_
      refine j_callVv C (d := 0) (As := [.int (sI 0)]) (st := []) 78 (s_lt rfl rfl) (s_kc (c := 7) rfl rfl) (by decide) rfl (s1_X8_goDeeper hM0 hpr gf gn gi (by omega) (by omega) (by omega) (by exact hp1) (by exact hp2)) gX8_unit_X8_goDeeper rfl hdX8_goDeeper (by decide) (Nat.le_of_ble_eq_true rfl) dX8_unit_22 rfl (fun M181 h182 => ?_)
      obtain ⟨hM181, fM181, h183⟩ := h182
      have bM181 := tkx_b (f := gf) (n := gn) (M := M181) (by exact h183.2.2.2.1)
      have dM181 := cs_f hM0 fM181
      refine j_aload_n C 1 0 dX8_unit_25 rfl rfl ?_
      refine j_iload_n C 2 1 dX8_unit_26 rfl rfl ?_
      refine y_iconst C dX8_unit_27 ?_
      refine y_iadd C dX8_unit_28 ?_
      refine j_callVv C (d := 21) (As := [.int (sI (0 + 1))]) (st := []) 78 (s_lt rfl rfl) (s_kc (c := 7) rfl rfl) (by decide) rfl (s7_X8_unit hM181 hpr gf gn (nxF gf gn gi) (by omega) (by exact h183.2.2.2.1) (by exact h183.2.1)) gX8_unit_X8_unit rfl hdX8_unit (by decide) (Nat.le_of_ble_eq_true rfl) dX8_unit_29 rfl (fun M185 h186 => ?_)
      obtain ⟨hM185, h187⟩ := h186
      have bM185 := tkx_b (f := gf) (n := gn) (M := M185) (by exact h187.2.2.1)
      have qM185 := po_rr (unR gf gn 5) gn (nxF gf gn gi) (M181.1 78 5).toInt (M181.1 78 6).toInt (psX M181) (M185.1 78 5).toInt (M185.1 78 6).toInt (psX M185) (unR_g gf gn 5) (by exact h183.2.1) (by exact h187.2.2.2.1)
      refine j_aload_n C 1 0 dX8_unit_32 rfl rfl ?_
      refine y_sipush C dX8_unit_33 rfl ?_
      have u188b := tkx_b (f := gf) (n := gn) (M := M185) (by exact h187.2.2.1)
      refine j_callVv C (d := 0) (As := [.int (sI 1016)]) (st := []) 78 (s_lt rfl rfl) (s_kc (c := 7) rfl rfl) (by decide) rfl (s1_X8_emit hM185 hpr 1016 (by exact ⟨(by decide), (by decide)⟩) gf gn ((unR gf gn 5) (nxF gf gn gi)).2.2 (by (clear u188b qM185 hM185 bM181 fM181 hM181 h109 h107 h103 ua101 la101 ea101 hret C hp2 hp1 hpr hM0; omega)) (by exact h187.2.2.1) (by exact qM185)) gX8_unit_X8_emit rfl hdX8_emit (by decide) (Nat.le_of_ble_eq_true rfl) dX8_unit_36 rfl (fun M190 h191 => ?_)
      obtain ⟨hM190, h192⟩ := h191
      have bM190 := tkx_b (f := gf) (n := gn) (M := M190) (by exact h192.2.2.2.2.2.2.1)
      have qM190 := po_eq gn ((unR gf gn 5) (nxF gf gn gi)).2.2 (M185.1 78 5).toInt (psX M185) (M190.1 78 5).toInt (psX M190) (by exact qM185) (by exact h192.2.1.1) (by exact h192.1)
      refine j_goto C 130 dX8_unit_39 (by decide) ?_
      have u193r := un_1 gf gn 5 6 rfl gi (M0.1 78 5).toInt (M0.1 78 6).toInt (psX M0) (M181.1 78 5).toInt (M181.1 78 6).toInt (M185.1 78 5).toInt (M185.1 78 6).toInt (psX M185) (M190.1 78 5).toInt (M190.1 78 6).toInt (psX M190) (by exact hp2) (by (clear qM190 bM190 h192 hM190 u188b qM185 bM185 h187 hM185 dM181 bM181 h183 fM181 hM181 h103 ua101 la101 ea101 hret C hp2 hp1 hp0 hpr hM0; omega)) (by exact h183.1.1) (by exact h183.1.2) (by exact h187.2.2.2.1) (by exact h192.2.1.1) (by exact h192.2.1.2) (by exact h192.1)
      have u193l : b01 (CL AGC (M190.1 78 5).toInt M0 M190 ((uLR gf gn 6) gi)) = 1 := cl_e (cl_t (cl_t (cl_r (A := AGC) (M := M0) (N := M181) (M181.1 78 5).toInt (agc_F fM181)) (show b01 (CL AGC (M185.1 78 5).toInt M181 M185 ((uLR gf gn 5) (nxF gf gn gi))) = 1 by exact h187.2.1) (fun z => rr_z (show b01 (RR ((unR gf gn 5) (nxF gf gn gi)) (M181.1 78 5).toInt (M181.1 78 6).toInt (M185.1 78 5).toInt (M185.1 78 6).toInt (psX M185)) = 1 by exact h187.2.2.2.1) z)) (show b01 (CL AGC (M190.1 78 5).toInt M185 M190 [cmF 1016]) = 1 by exact h192.2.2.2.2.2.1) (fun z => by (clear u193r qM190 bM190 hM190 u188b qM185 bM185 h187 hM185 dM181 bM181 h183 fM181 hM181 h109 h107 h103 ua101 la101 ea101 hret C hp2 hp1 hp0 hpr hM0; omega))) (fun z => by rw [un_l1 gf gn 5 6 rfl (show b01 (PO gn gi (M0.1 78 5).toInt (psX M0)) = 1 by exact hp2) (by omega) (by omega), List.nil_append])
      have zr := (rfx_t (rfx_t (rfx_F (rfx_r M0) fM181) (show b01 (RFX M181 M185) = 1 by exact h187.2.2.2.2)) (show b01 (RFX M185 M190) = 1 by exact h192.2.2.2.2.2.2.2)); exact hret _ _ _ dX8_unit_130 ⟨hM190, by exact ⟨(by (clear qM190 bM190 hM190 u188b qM185 bM185 hM185 bM181 fM181 hM181 h109 h107 h103 ua101 la101 ea101 hret C hp2 hp1 hp0 hpr hM0; omega)), ⟨u193l, ⟨h192.2.2.2.2.2.2.1, ⟨u193r, zr⟩⟩⟩⟩⟩
  · have u194r := rr_no ((unR gf gn 6) gi) (M0.1 78 5).toInt (M0.1 78 6).toInt (M0.1 78 5).toInt (M0.1 78 6).toInt (psX M0) (by omega) rfl rfl
    have u194l := cl_n (A := AGC) (M := M0) (N := M0) ((uLR gf gn 6) gi) (a := (M0.1 78 5).toInt) (by omega)
    have zr := (rfx_r M0); exact hret _ _ _ dX8_unit_7 ⟨hM0, by exact ⟨(by (clear h103 ua101 la101 ea101 hret C hp2 hp0 hpr hM0; omega)), ⟨u194l, ⟨hp1, ⟨u194r, zr⟩⟩⟩⟩⟩
set_option maxHeartbeats 4000000 in
theorem s8_X8_both {l : Launch} {dC : Nat → ClassId} {dI : Nat → Nat → Nat} {ad : Nat → Nat} {cA : Nat → ClassId} {pr : Nat → Nat → Bool} {Kz : mm_M} {M0 : mm_M} (hM0 : INV pr Kz M0) (hpr : PX pr) (gf : Nat → Int) (gn : Int) (gi : Int) (hp0 : csX M0 ≤ (M0.1 78 2).toInt) (hp1 : b01 (TKX gf gn M0) = 1) (hp2 : b01 (PO gn gi (M0.1 78 5).toInt (psX M0)) = 1) : Cv l 25 yX8_both wsX8_both dC dI ad cA [.ref (ad 78), .int (sI 0)] M0 (fun M' => INV pr Kz M' ∧ (csX M' - csX M0 ≤ (M'.1 78 2).toInt - (M0.1 78 2).toInt) ∧ (b01 (CL AGC (M'.1 78 5).toInt M0 M' ((boL gf gn (unR gf gn 6) (uLR gf gn 6)) gi)) = 1) ∧ (b01 (TKX gf gn M') = 1) ∧ b01 (RR ((boP gf gn (unR gf gn 6)) gi) (M0.1 78 5).toInt (M0.1 78 6).toInt (M'.1 78 5).toInt (M'.1 78 6).toInt (psX M')) = 1 ∧ (b01 (RFX M0 M') = 1)) := by
  refine cv_of (cc := cX8_both) (maxL := 3) (lv := [(0, .ref (ad 78)), (1, .int (sI 0))]) (by decide) rfl (Nat.le_of_ble_eq_true rfl) rfl ?_
  intro p e s m args below meth c A Q C hret
  refine j_aload_n C 0 0 dX8_both_0 rfl rfl ?_
  refine j_iload_n C 1 1 dX8_both_1 rfl rfl ?_
  refine j_callVv C (d := 24) (As := [.int (sI 0)]) (st := []) 78 (s_lt rfl rfl) (s_kc (c := 7) rfl rfl) (by decide) rfl (s8_X8_unit hM0 hpr gf gn gi (by exact hp0) (by exact hp1) (by exact hp2)) gX8_both_X8_unit rfl hdX8_unit (by decide) (Nat.le_of_ble_eq_true rfl) dX8_both_2 rfl (fun M102 h103 => ?_)
  obtain ⟨hM102, h104⟩ := h103
  have bM102 := tkx_b (f := gf) (n := gn) (M := M102) (by exact h104.2.2.1)
  have qM102 := po_rr (unR gf gn 6) gn gi (M0.1 78 5).toInt (M0.1 78 6).toInt (psX M0) (M102.1 78 5).toInt (M102.1 78 6).toInt (psX M102) (unR_g gf gn 6) (by exact hp2) (by exact h104.2.2.2.1)
  refine y_iconst C dX8_both_5 ?_
  have u105l := ll_0 (luP gf gn 1015 1015 (unR gf gn 6)) gn ((unR gf gn 6) gi).2.2 (M102.1 78 5).toInt (M102.1 78 6).toInt (psX M102) (by exact qM102)
  have u105c := lc_0 (A := AGC) (M102.1 78 5).toInt (luL gf gn 1015 1015 (unR gf gn 6) (uLR gf gn 6)) ((unR gf gn 6) gi).2.2 M102
  refine j_istore_n C 2 [(2, .int (sI 0)), (0, .ref (ad 78)), (1, .int (sI 0))] dX8_both_6 rfl (by decide) rfl ?_
  have L135 : ∀ (n133 : Nat), ∀ (a136 : Int) (M137 : mm_M) (gq138 : Int), (0 ≤ a136 ∧ a136 ≤ 900 ∧ (b01 (LL (luP gf gn 1015 1015 (unR gf gn 6)) gn ((unR gf gn 6) gi).2.2 gq138 a136 (M102.1 78 5).toInt (M102.1 78 6).toInt (M137.1 78 5).toInt (M137.1 78 6).toInt (psX M137)) = 1) ∧ (b01 (LC AGC (M137.1 78 5).toInt (luL gf gn 1015 1015 (unR gf gn 6) (uLR gf gn 6)) ((unR gf gn 6) gi).2.2 gq138 M102 M137) = 1) ∧ (csX M137 - csX M102 ≤ (M137.1 78 2).toInt - (M102.1 78 2).toInt) ∧ (b01 (TKX gf gn M137) = 1) ∧ (b01 (PO gn gq138 (M137.1 78 5).toInt (psX M137)) = 1) ∧ (b01 (RFX M0 M137) = 1) ∧ (900 - a136) < (n133 : Int)) → INV pr Kz M137 → jj p l e (cn_R 25) s m args below meth c 0 0 Q 3 dC dI ad cA A M137 7 [(0, .ref (ad 78)), (1, .int (sI 0)), (2, .int (sI a136))] [] := by
    intro n133
    induction n133 with
    | zero =>
      intro a136 M137 gq138 h139 hM137
      exfalso; (clear hM137 u105c u105l qM102 bM102 h104 hM102 hret C hp2 hp1 hp0 hpr hM0; omega)
    | succ n133 ih134 =>
      intro a136 M137 gq138 h139 hM137
      have u140b := tkx_b (f := gf) (n := gn) (M := M137) (by exact h139.2.2.2.2.2.1)
      refine j_iload_n C 2 2 dX8_both_7 rfl rfl ?_
      refine y_sipush C dX8_both_8 rfl ?_
      refine y_icmp_ge C 59 dX8_both_11 (by decide) (by exact ⟨⟨(by (clear u140b hM137 ih134 u105c u105l qM102 bM102 h104 hM102 hret C hp2 hp1 hp0 hpr hM0; omega)), (by (clear u140b hM137 ih134 u105c u105l qM102 bM102 h104 hM102 hret C hp2 hp1 hp0 hpr hM0; omega))⟩, ⟨(by decide), (by decide)⟩⟩) (fun h141 => ?_) (fun h141 => ?_)
      · have u164e := ll_e gf gn 1015 1015 (unR gf gn 6) ((unR gf gn 6) gi).2.2 gq138 a136 (M102.1 78 5).toInt (M102.1 78 6).toInt (M137.1 78 5).toInt (M137.1 78 6).toInt (psX M137) (by decide) (unR_g gf gn 6) (by exact h139.2.2.1) (by (clear u140b hM137 ih134 u105c u105l qM102 h104 hM102 hret C hp2 hp1 hp0 hpr hM0; omega))
        have u164r : b01 (RR ((boP gf gn (unR gf gn 6)) gi) (M0.1 78 5).toInt (M0.1 78 6).toInt (M137.1 78 5).toInt (M137.1 78 6).toInt (psX M137)) = 1 := rr_sq ((unR gf gn 6) gi) (luP gf gn 1015 1015 (unR gf gn 6)) (M0.1 78 5).toInt (M0.1 78 6).toInt (M102.1 78 5).toInt (M102.1 78 6).toInt (psX M102) (M137.1 78 5).toInt (M137.1 78 6).toInt (psX M137) (by exact h104.2.2.2.1) (by exact u164e)
        have u164x := lc_e gf gn 1015 1015 (unR gf gn 6) ((uLR gf gn 6)) (by decide) (show b01 (LC AGC (M137.1 78 5).toInt (luL gf gn 1015 1015 (unR gf gn 6) (uLR gf gn 6)) ((unR gf gn 6) gi).2.2 gq138 M102 M137) = 1 by exact h139.2.2.2.1) (show b01 (LL (luP gf gn 1015 1015 (unR gf gn 6)) gn ((unR gf gn 6) gi).2.2 gq138 a136 (M102.1 78 5).toInt (M102.1 78 6).toInt (M137.1 78 5).toInt (M137.1 78 6).toInt (psX M137)) = 1 by exact h139.2.2.1) (by omega)
        have u164l : b01 (CL AGC (M137.1 78 5).toInt M0 M137 ((boL gf gn (unR gf gn 6) (uLR gf gn 6)) gi)) = 1 := cl_e (cl_t (show b01 (CL AGC (M102.1 78 5).toInt M0 M102 ((uLR gf gn 6) gi)) = 1 by exact h104.2.1) u164x (fun z => rr_z (show b01 (RR ((luP gf gn 1015 1015 (unR gf gn 6)) ((unR gf gn 6) gi).2.2) (M102.1 78 5).toInt (M102.1 78 6).toInt (M137.1 78 5).toInt (M137.1 78 6).toInt (psX M137)) = 1 by exact u164e) z)) (fun z => rfl)
        have zr := (show b01 (RFX M0 M137) = 1 by exact h139.2.2.2.2.2.2.2.1); exact hret _ _ _ dX8_both_59 ⟨hM137, by exact ⟨(by (clear zr u164x u164e h141 u140b hM137 ih134 u105c u105l qM102 bM102 hM102 hret C hp2 hp1 hp0 hpr hM0; omega)), ⟨u164l, ⟨h139.2.2.2.2.2.1, ⟨u164r, h139.2.2.2.2.2.2.2.1⟩⟩⟩⟩⟩
      · refine j_aload_n C 0 0 dX8_both_14 rfl rfl ?_
        refine y_getI C 7 _ _ fX8_both_22 rfl rfl ft_7_5 sb_7_5 hM137 dX8_both_15 (fun a142 ea142 la142 ua142 => ?_)
        refine y_if_ne C 59 dX8_both_18 (by decide) (by (clear h141 u140b hM137 h139 ih134 u105c u105l qM102 bM102 h104 hM102 hret C hp2 hp1 hp0 hpr hM0; omega)) (fun h144 => ?_) (fun h144 => ?_)
        · have u165e := ll_e gf gn 1015 1015 (unR gf gn 6) ((unR gf gn 6) gi).2.2 gq138 a136 (M102.1 78 5).toInt (M102.1 78 6).toInt (M137.1 78 5).toInt (M137.1 78 6).toInt (psX M137) (by decide) (unR_g gf gn 6) (by exact h139.2.2.1) (by (clear ua142 la142 h141 u140b hM137 h139 ih134 u105c u105l qM102 bM102 h104 hM102 hret C hp2 hp1 hp0 hpr hM0; omega))
          have u165r : b01 (RR ((boP gf gn (unR gf gn 6)) gi) (M0.1 78 5).toInt (M0.1 78 6).toInt (M137.1 78 5).toInt (M137.1 78 6).toInt (psX M137)) = 1 := rr_sq ((unR gf gn 6) gi) (luP gf gn 1015 1015 (unR gf gn 6)) (M0.1 78 5).toInt (M0.1 78 6).toInt (M102.1 78 5).toInt (M102.1 78 6).toInt (psX M102) (M137.1 78 5).toInt (M137.1 78 6).toInt (psX M137) (by exact h104.2.2.2.1) (by exact u165e)
          have u165x := lc_e gf gn 1015 1015 (unR gf gn 6) ((uLR gf gn 6)) (by decide) (show b01 (LC AGC (M137.1 78 5).toInt (luL gf gn 1015 1015 (unR gf gn 6) (uLR gf gn 6)) ((unR gf gn 6) gi).2.2 gq138 M102 M137) = 1 by exact h139.2.2.2.1) (show b01 (LL (luP gf gn 1015 1015 (unR gf gn 6)) gn ((unR gf gn 6) gi).2.2 gq138 a136 (M102.1 78 5).toInt (M102.1 78 6).toInt (M137.1 78 5).toInt (M137.1 78 6).toInt (psX M137)) = 1 by exact h139.2.2.1) (by omega)
          have u165l : b01 (CL AGC (M137.1 78 5).toInt M0 M137 ((boL gf gn (unR gf gn 6) (uLR gf gn 6)) gi)) = 1 := cl_e (cl_t (show b01 (CL AGC (M102.1 78 5).toInt M0 M102 ((uLR gf gn 6) gi)) = 1 by exact h104.2.1) u165x (fun z => rr_z (show b01 (RR ((luP gf gn 1015 1015 (unR gf gn 6)) ((unR gf gn 6) gi).2.2) (M102.1 78 5).toInt (M102.1 78 6).toInt (M137.1 78 5).toInt (M137.1 78 6).toInt (psX M137)) = 1 by exact u165e) z)) (fun z => rfl)
          have zr := (show b01 (RFX M0 M137) = 1 by exact h139.2.2.2.2.2.2.2.1); exact hret _ _ _ dX8_both_59 ⟨hM137, by exact ⟨(by (clear zr u165x u165e h144 ua142 la142 ea142 h141 u140b hM137 ih134 u105c u105l qM102 bM102 hM102 hret C hp2 hp1 hp0 hpr hM0; omega)), ⟨u165l, ⟨h139.2.2.2.2.2.1, ⟨u165r, h139.2.2.2.2.2.2.2.1⟩⟩⟩⟩⟩
        · refine j_aload_n C 0 0 dX8_both_21 rfl rfl ?_
          refine j_callVi C (d := 0) (As := []) (st := []) 78 (s_lt rfl rfl) (s_kc (c := 7) rfl rfl) (by decide) rfl (s1_X8_token hM137 gf gn gq138 (by exact h139.2.2.2.2.2.1) (by exact h139.2.2.2.2.2.2.1)) gX8_both_X8_token rfl hdX8_token (by decide) (Nat.le_of_ble_eq_true rfl) dX8_both_22 rfl (fun r145 M146 h147 => ?_)
          obtain ⟨a149, rfl, rfl, h148⟩ := h147
          refine y_sipush C dX8_both_25 rfl ?_
          refine y_icmp_ne C 59 dX8_both_28 (by decide) (by exact ⟨⟨h148.1, h148.2.1⟩, ⟨(by decide), (by decide)⟩⟩) (fun h150 => ?_) (fun h150 => ?_)
          · have u166e := ll_e gf gn 1015 1015 (unR gf gn 6) ((unR gf gn 6) gi).2.2 gq138 a136 (M102.1 78 5).toInt (M102.1 78 6).toInt (M137.1 78 5).toInt (M137.1 78 6).toInt (psX M137) (by decide) (unR_g gf gn 6) (by exact h139.2.2.1) (by (clear h144 ua142 la142 ea142 h141 u140b hM137 h139 ih134 u105c u105l qM102 bM102 h104 hM102 hret C hp2 hp1 hp0 hpr hM0; omega))
            have u166r : b01 (RR ((boP gf gn (unR gf gn 6)) gi) (M0.1 78 5).toInt (M0.1 78 6).toInt (M137.1 78 5).toInt (M137.1 78 6).toInt (psX M137)) = 1 := rr_sq ((unR gf gn 6) gi) (luP gf gn 1015 1015 (unR gf gn 6)) (M0.1 78 5).toInt (M0.1 78 6).toInt (M102.1 78 5).toInt (M102.1 78 6).toInt (psX M102) (M137.1 78 5).toInt (M137.1 78 6).toInt (psX M137) (by exact h104.2.2.2.1) (by exact u166e)
            have u166x := lc_e gf gn 1015 1015 (unR gf gn 6) ((uLR gf gn 6)) (by decide) (show b01 (LC AGC (M137.1 78 5).toInt (luL gf gn 1015 1015 (unR gf gn 6) (uLR gf gn 6)) ((unR gf gn 6) gi).2.2 gq138 M102 M137) = 1 by exact h139.2.2.2.1) (show b01 (LL (luP gf gn 1015 1015 (unR gf gn 6)) gn ((unR gf gn 6) gi).2.2 gq138 a136 (M102.1 78 5).toInt (M102.1 78 6).toInt (M137.1 78 5).toInt (M137.1 78 6).toInt (psX M137)) = 1 by exact h139.2.2.1) (by omega)
            have u166l : b01 (CL AGC (M137.1 78 5).toInt M0 M137 ((boL gf gn (unR gf gn 6) (uLR gf gn 6)) gi)) = 1 := cl_e (cl_t (show b01 (CL AGC (M102.1 78 5).toInt M0 M102 ((uLR gf gn 6) gi)) = 1 by exact h104.2.1) u166x (fun z => rr_z (show b01 (RR ((luP gf gn 1015 1015 (unR gf gn 6)) ((unR gf gn 6) gi).2.2) (M102.1 78 5).toInt (M102.1 78 6).toInt (M137.1 78 5).toInt (M137.1 78 6).toInt (psX M137)) = 1 by exact u166e) z)) (fun z => rfl)
            have zr := (show b01 (RFX M0 M137) = 1 by exact h139.2.2.2.2.2.2.2.1); exact hret _ _ _ dX8_both_59 ⟨hM137, by exact ⟨(by (clear zr u166x u166e h150 h148 h144 ua142 la142 ea142 h141 u140b hM137 ih134 u105c u105l qM102 bM102 hM102 hret C hp2 hp1 hp0 hpr hM0; omega)), ⟨u166l, ⟨h139.2.2.2.2.2.1, ⟨u166r, h139.2.2.2.2.2.2.2.1⟩⟩⟩⟩⟩
          · refine j_aload_n C 0 0 dX8_both_31 rfl rfl ?_
            refine j_dup C dX8_both_32 rfl ?_
            refine y_getI C 7 _ _ fX8_both_18 rfl rfl ft_7_2 sb_7_2 hM137 dX8_both_33 (fun a151 ea151 la151 ua151 => ?_)
            refine y_iconst C dX8_both_36 ?_
            refine y_iadd C dX8_both_37 ?_
            refine y_putI C 7 _ _ qX8_both_18 rfl rfl ft_7_2 sb_7_2 hM137 (PX.w hpr rfl rfl) dX8_both_38 (by (clear ua151 la151 h150 h148 h144 ua142 la142 ea142 h141 hM137 h139 ih134 u105c u105l qM102 bM102 h104 hM102 hret C hp2 hp1 hp0 hpr hM0; omega)) (fun M153 eM153 hM153 => ?_)
            have xM153 := tkx_j (f := gf) (n := gn) (gi := gq138) eM153 (by exact h139.2.2.2.2.2.1) (by exact ea151) (by (clear hM153 eM153 ua151 la151 ea151 h144 ua142 la142 ea142 h141 u140b hM137 h139 ih134 u105c u105l qM102 bM102 h104 hM102 hret C hp2 hp1 hp0 hpr hM0; omega)) (by exact h139.2.2.2.2.2.2.1)
            have dM153 := cs_w hM137 (c := 7) rfl eM153 (by decide)
            have gM153 := s_wr eM153 (by (clear dM153 xM153 hM153 eM153 ua151 la151 h150 h148 h144 ua142 la142 ea142 h141 hM137 h139 ih134 u105c u105l qM102 bM102 h104 hM102 hret C hp2 hp1 hp0 hpr hM0; omega))
            refine j_aload_n C 0 0 dX8_both_41 rfl rfl ?_
            refine j_iload_n C 1 1 dX8_both_42 rfl rfl ?_
            refine j_callVv C (d := 24) (As := [.int (sI 0)]) (st := []) 78 (s_lt rfl rfl) (s_kc (c := 7) rfl rfl) (by decide) rfl (s8_X8_unit hM153 hpr gf gn (nxF gf gn gq138) (by (clear xM153 hM153 eM153 ua151 la151 h150 h148 h144 ua142 la142 ea142 h141 u140b hM137 ih134 u105c u105l qM102 bM102 hM102 hret C hp2 hp1 hpr hM0; omega)) (by exact xM153.1) (by exact xM153.2.2.2)) gX8_both_X8_unit rfl hdX8_unit (by decide) (Nat.le_of_ble_eq_true rfl) dX8_both_43 rfl (fun M155 h156 => ?_)
            obtain ⟨hM155, h157⟩ := h156
            have bM155 := tkx_b (f := gf) (n := gn) (M := M155) (by exact h157.2.2.1)
            have qM155 := po_rr (unR gf gn 6) gn (nxF gf gn gq138) (M153.1 78 5).toInt (M153.1 78 6).toInt (psX M153) (M155.1 78 5).toInt (M155.1 78 6).toInt (psX M155) (unR_g gf gn 6) (by exact xM153.2.2.2) (by exact h157.2.2.2.1)
            refine j_aload_n C 0 0 dX8_both_46 rfl rfl ?_
            refine y_sipush C dX8_both_47 rfl ?_
            have u158b := tkx_b (f := gf) (n := gn) (M := M155) (by exact h157.2.2.1)
            refine j_callVv C (d := 0) (As := [.int (sI 1015)]) (st := []) 78 (s_lt rfl rfl) (s_kc (c := 7) rfl rfl) (by decide) rfl (s1_X8_emit hM155 hpr 1015 (by exact ⟨(by decide), (by decide)⟩) gf gn ((unR gf gn 6) (nxF gf gn gq138)).2.2 (by (clear u158b qM155 hM155 xM153 hM153 eM153 ua151 la151 h150 h148 h144 ua142 la142 ea142 h141 u140b hM137 ih134 u105c u105l qM102 bM102 hM102 hret C hp2 hp1 hpr hM0; omega)) (by exact h157.2.2.1) (by exact qM155)) gX8_both_X8_emit rfl hdX8_emit (by decide) (Nat.le_of_ble_eq_true rfl) dX8_both_50 rfl (fun M160 h161 => ?_)
            obtain ⟨hM160, h162⟩ := h161
            have bM160 := tkx_b (f := gf) (n := gn) (M := M160) (by exact h162.2.2.2.2.2.2.1)
            have qM160 := po_eq gn ((unR gf gn 6) (nxF gf gn gq138)).2.2 (M155.1 78 5).toInt (psX M155) (M160.1 78 5).toInt (psX M160) (by exact qM155) (by exact h162.2.1.1) (by exact h162.1)
            refine y_iinc C 2 [(2, .int (sI (a136 + 1))), (0, .ref (ad 78)), (1, .int (sI 0))] dX8_both_53 rfl (by decide) rfl ?_
            have u163s := ll_s gf gn 1015 1015 (unR gf gn 6) ((unR gf gn 6) gi).2.2 gq138 a136 (M102.1 78 5).toInt (M102.1 78 6).toInt (M137.1 78 5).toInt (M137.1 78 6).toInt (psX M137) (M153.1 78 5).toInt (M153.1 78 6).toInt (M155.1 78 5).toInt (M155.1 78 6).toInt (psX M155) (M160.1 78 5).toInt (M160.1 78 6).toInt (psX M160) (by decide) (unR_g gf gn 6) (by exact h139.2.2.1) (by (clear qM160 bM160 h162 hM160 u158b qM155 bM155 h157 hM155 gM153 dM153 xM153 hM153 eM153 ua151 la151 ea151 h150 h148 ua142 la142 h141 u140b hM137 h139 ih134 u105c u105l qM102 bM102 h104 hM102 hret C hp2 hp1 hp0 hpr hM0; omega)) (by (clear qM160 bM160 h162 hM160 u158b qM155 bM155 h157 hM155 gM153 dM153 xM153 hM153 eM153 ua151 la151 ea151 h144 ua142 la142 ea142 h141 u140b hM137 h139 ih134 u105c u105l qM102 bM102 h104 hM102 hret C hp2 hp1 hp0 hpr hM0; omega)) (by exact xM153.2.1) (by exact xM153.2.2.1) (by exact h157.2.2.2.1) (by exact h162.2.1.1) (by exact h162.2.1.2) (by exact h162.1)
            have u163c := lc_s gf gn 1015 1015 (unR gf gn 6) (uLR gf gn 6) (by decide) (unR_g gf gn 6) (show b01 (LC AGC (M137.1 78 5).toInt (luL gf gn 1015 1015 (unR gf gn 6) (uLR gf gn 6)) ((unR gf gn 6) gi).2.2 gq138 M102 M137) = 1 by exact h139.2.2.2.1) (show b01 (PO gn gq138 (M137.1 78 5).toInt (psX M137)) = 1 by exact h139.2.2.2.2.2.2.1) (by omega) (show b01 (RR ((unR gf gn 6) (nxF gf gn gq138)) (M153.1 78 5).toInt (M153.1 78 6).toInt (M155.1 78 5).toInt (M155.1 78 6).toInt (psX M155)) = 1 by exact h157.2.2.2.1) (fun z => by omega) (cl_e (L := ([] ++ ((uLR gf gn 6) (nxF gf gn gq138))) ++ [cmF 1015]) (cl_t (cl_t (cl_r (A := AGC) (M := M137) (N := M153) (M153.1 78 5).toInt (agc_78 eM153)) (show b01 (CL AGC (M155.1 78 5).toInt M153 M155 ((uLR gf gn 6) (nxF gf gn gq138))) = 1 by exact h157.2.1) (fun z => rr_z (show b01 (RR ((unR gf gn 6) (nxF gf gn gq138)) (M153.1 78 5).toInt (M153.1 78 6).toInt (M155.1 78 5).toInt (M155.1 78 6).toInt (psX M155)) = 1 by exact h157.2.2.2.1) z)) (show b01 (CL AGC (M160.1 78 5).toInt M155 M160 [cmF 1015]) = 1 by exact h162.2.2.2.2.2.1) (fun z => by (clear u163s qM160 bM160 hM160 u158b qM155 bM155 h157 hM155 gM153 dM153 xM153 hM153 eM153 ua151 la151 ea151 h150 h148 h144 ua142 la142 ea142 h141 u140b hM137 h139 ih134 u105c u105l qM102 bM102 h104 hM102 hret C hp2 hp1 hp0 hpr hM0; omega))) (fun z => by rw [show tkF gf gn (psX M137) = 1015 by (clear z u163s qM160 bM160 h162 hM160 u158b qM155 bM155 h157 hM155 gM153 dM153 xM153 hM153 eM153 ua151 la151 ea151 h144 ua142 la142 ea142 h141 u140b hM137 h139 ih134 u105c u105l qM102 bM102 h104 hM102 hret C hp2 hp1 hp0 hpr hM0; omega), List.nil_append]) : b01 (CL AGC (M160.1 78 5).toInt M137 M160 (((uLR gf gn 6) (nxF gf gn gq138)) ++ [cmF (tkF gf gn (psX M137))])) = 1) (fun z => by omega)
            refine j_goto C 7 dX8_both_56 (by decide) ?_
            have zr := (rfx_t (rfx_t (rfx_i (show b01 (RFX M0 M137) = 1 by exact h139.2.2.2.2.2.2.2.1) eM153 (by decide)) (show b01 (RFX M153 M155) = 1 by exact h157.2.2.2.2)) (show b01 (RFX M155 M160) = 1 by exact h162.2.2.2.2.2.2.2)); refine j_lv [1, 2, 0] rfl ?_; exact ih134 (a136 + 1) M160 ((unR gf gn 6) (nxF gf gn gq138)).2.2 (by exact ⟨(by (clear bM160 hM160 u158b qM155 bM155 hM155 xM153 hM153 eM153 ua151 la151 h150 h148 h144 ua142 la142 ea142 u140b hM137 ih134 u105c u105l qM102 bM102 h104 hM102 hret C hp2 hp1 hp0 hpr hM0; omega)), ⟨(by (clear bM160 hM160 u158b qM155 bM155 hM155 xM153 hM153 eM153 ua151 la151 h150 h148 h144 ua142 la142 ea142 u140b hM137 ih134 u105c u105l qM102 bM102 h104 hM102 hret C hp2 hp1 hp0 hpr hM0; omega)), ⟨u163s, ⟨u163c, ⟨(by (clear bM160 hM160 u158b qM155 bM155 hM155 xM153 hM153 eM153 ua151 la151 h150 h148 h144 ua142 la142 ea142 u140b hM137 ih134 u105c u105l qM102 bM102 h104 hM102 hret C hp2 hp1 hp0 hpr hM0; omega)), ⟨h162.2.2.2.2.2.2.1, ⟨qM160, ⟨zr, (by (clear bM160 hM160 u158b qM155 bM155 hM155 xM153 hM153 eM153 ua151 la151 h150 h148 h144 ua142 la142 ea142 u140b hM137 ih134 u105c u105l qM102 bM102 h104 hM102 hret C hp2 hp1 hp0 hpr hM0; omega))⟩⟩⟩⟩⟩⟩⟩⟩) hM160
  have zr := (rfx_t (rfx_r M0) (show b01 (RFX M0 M102) = 1 by exact h104.2.2.2.2)); refine j_lv [1, 2, 0] rfl ?_; exact L135 2010 0 M102 ((unR gf gn 6) gi).2.2 (by exact ⟨(by decide), ⟨(by decide), ⟨u105l, ⟨u105c, ⟨(by (clear zr L135 bM102 hM102 hret C hp2 hp1 hp0 hpr hM0; omega)), ⟨h104.2.2.1, ⟨qM102, ⟨h104.2.2.2.2, (by decide)⟩⟩⟩⟩⟩⟩⟩⟩) hM102
set_option maxHeartbeats 4000000 in
theorem s8_X8_truth {l : Launch} {dC : Nat → ClassId} {dI : Nat → Nat → Nat} {ad : Nat → Nat} {cA : Nat → ClassId} {pr : Nat → Nat → Bool} {Kz : mm_M} {M0 : mm_M} (hM0 : INV pr Kz M0) (hpr : PX pr) (gf : Nat → Int) (gn : Int) (gi : Int) (hp0 : csX M0 ≤ (M0.1 78 2).toInt) (hp1 : b01 (TKX gf gn M0) = 1) (hp2 : b01 (PO gn gi (M0.1 78 5).toInt (psX M0)) = 1) : Cv l 26 yX8_truth wsX8_truth dC dI ad cA [.ref (ad 78), .int (sI 0)] M0 (fun M' => INV pr Kz M' ∧ (csX M' - csX M0 ≤ (M'.1 78 2).toInt - (M0.1 78 2).toInt) ∧ (b01 (CL AGC (M'.1 78 5).toInt M0 M' ((trL gf gn (unR gf gn 6) (uLR gf gn 6)) gi)) = 1) ∧ (b01 (TKX gf gn M') = 1) ∧ b01 (RR ((trP gf gn (unR gf gn 6)) gi) (M0.1 78 5).toInt (M0.1 78 6).toInt (M'.1 78 5).toInt (M'.1 78 6).toInt (psX M')) = 1 ∧ (b01 (RFX M0 M') = 1)) := by
  refine cv_of (cc := cX8_truth) (maxL := 3) (lv := [(0, .ref (ad 78)), (1, .int (sI 0))]) (by decide) rfl (Nat.le_of_ble_eq_true rfl) rfl ?_
  intro p e s m args below meth c A Q C hret
  refine j_aload_n C 0 0 dX8_truth_0 rfl rfl ?_
  refine j_iload_n C 1 1 dX8_truth_1 rfl rfl ?_
  refine j_callVv C (d := 25) (As := [.int (sI 0)]) (st := []) 78 (s_lt rfl rfl) (s_kc (c := 7) rfl rfl) (by decide) rfl (s8_X8_both hM0 hpr gf gn gi (by exact hp0) (by exact hp1) (by exact hp2)) gX8_truth_X8_both rfl hdX8_both (by decide) (Nat.le_of_ble_eq_true rfl) dX8_truth_2 rfl (fun M102 h103 => ?_)
  obtain ⟨hM102, h104⟩ := h103
  have bM102 := tkx_b (f := gf) (n := gn) (M := M102) (by exact h104.2.2.1)
  have qM102 := po_rr (boP gf gn (unR gf gn 6)) gn gi (M0.1 78 5).toInt (M0.1 78 6).toInt (psX M0) (M102.1 78 5).toInt (M102.1 78 6).toInt (psX M102) (bo_g gf gn (unR_g gf gn 6)) (by exact hp2) (by exact h104.2.2.2.1)
  refine y_iconst C dX8_truth_5 ?_
  have u105l := ll_0 (luP gf gn 1014 1014 (boP gf gn (unR gf gn 6))) gn ((boP gf gn (unR gf gn 6)) gi).2.2 (M102.1 78 5).toInt (M102.1 78 6).toInt (psX M102) (by exact qM102)
  have u105c := lc_0 (A := AGC) (M102.1 78 5).toInt (luL gf gn 1014 1014 (boP gf gn (unR gf gn 6)) (boL gf gn (unR gf gn 6) (uLR gf gn 6))) ((boP gf gn (unR gf gn 6)) gi).2.2 M102
  refine j_istore_n C 2 [(2, .int (sI 0)), (0, .ref (ad 78)), (1, .int (sI 0))] dX8_truth_6 rfl (by decide) rfl ?_
  have L135 : ∀ (n133 : Nat), ∀ (a136 : Int) (M137 : mm_M) (gq138 : Int), (0 ≤ a136 ∧ a136 ≤ 900 ∧ (b01 (LL (luP gf gn 1014 1014 (boP gf gn (unR gf gn 6))) gn ((boP gf gn (unR gf gn 6)) gi).2.2 gq138 a136 (M102.1 78 5).toInt (M102.1 78 6).toInt (M137.1 78 5).toInt (M137.1 78 6).toInt (psX M137)) = 1) ∧ (b01 (LC AGC (M137.1 78 5).toInt (luL gf gn 1014 1014 (boP gf gn (unR gf gn 6)) (boL gf gn (unR gf gn 6) (uLR gf gn 6))) ((boP gf gn (unR gf gn 6)) gi).2.2 gq138 M102 M137) = 1) ∧ (csX M137 - csX M102 ≤ (M137.1 78 2).toInt - (M102.1 78 2).toInt) ∧ (b01 (TKX gf gn M137) = 1) ∧ (b01 (PO gn gq138 (M137.1 78 5).toInt (psX M137)) = 1) ∧ (b01 (RFX M0 M137) = 1) ∧ (900 - a136) < (n133 : Int)) → INV pr Kz M137 → jj p l e (cn_R 26) s m args below meth c 0 0 Q 3 dC dI ad cA A M137 7 [(0, .ref (ad 78)), (1, .int (sI 0)), (2, .int (sI a136))] [] := by
    intro n133
    induction n133 with
    | zero =>
      intro a136 M137 gq138 h139 hM137
      exfalso; (clear hM137 u105c u105l qM102 bM102 h104 hM102 hret C hp2 hp1 hp0 hpr hM0; omega)
    | succ n133 ih134 =>
      intro a136 M137 gq138 h139 hM137
      have u140b := tkx_b (f := gf) (n := gn) (M := M137) (by exact h139.2.2.2.2.2.1)
      refine j_iload_n C 2 2 dX8_truth_7 rfl rfl ?_
      refine y_sipush C dX8_truth_8 rfl ?_
      refine y_icmp_ge C 59 dX8_truth_11 (by decide) (by exact ⟨⟨(by (clear u140b hM137 ih134 u105c u105l qM102 bM102 h104 hM102 hret C hp2 hp1 hp0 hpr hM0; omega)), (by (clear u140b hM137 ih134 u105c u105l qM102 bM102 h104 hM102 hret C hp2 hp1 hp0 hpr hM0; omega))⟩, ⟨(by decide), (by decide)⟩⟩) (fun h141 => ?_) (fun h141 => ?_)
      · have u164e := ll_e gf gn 1014 1014 (boP gf gn (unR gf gn 6)) ((boP gf gn (unR gf gn 6)) gi).2.2 gq138 a136 (M102.1 78 5).toInt (M102.1 78 6).toInt (M137.1 78 5).toInt (M137.1 78 6).toInt (psX M137) (by decide) (bo_g gf gn (unR_g gf gn 6)) (by exact h139.2.2.1) (by (clear u140b hM137 ih134 u105c u105l qM102 h104 hM102 hret C hp2 hp1 hp0 hpr hM0; omega))
        have u164r : b01 (RR ((trP gf gn (unR gf gn 6)) gi) (M0.1 78 5).toInt (M0.1 78 6).toInt (M137.1 78 5).toInt (M137.1 78 6).toInt (psX M137)) = 1 := rr_sq ((boP gf gn (unR gf gn 6)) gi) (luP gf gn 1014 1014 (boP gf gn (unR gf gn 6))) (M0.1 78 5).toInt (M0.1 78 6).toInt (M102.1 78 5).toInt (M102.1 78 6).toInt (psX M102) (M137.1 78 5).toInt (M137.1 78 6).toInt (psX M137) (by exact h104.2.2.2.1) (by exact u164e)
        have u164x := lc_e gf gn 1014 1014 (boP gf gn (unR gf gn 6)) ((boL gf gn (unR gf gn 6) (uLR gf gn 6))) (by decide) (show b01 (LC AGC (M137.1 78 5).toInt (luL gf gn 1014 1014 (boP gf gn (unR gf gn 6)) (boL gf gn (unR gf gn 6) (uLR gf gn 6))) ((boP gf gn (unR gf gn 6)) gi).2.2 gq138 M102 M137) = 1 by exact h139.2.2.2.1) (show b01 (LL (luP gf gn 1014 1014 (boP gf gn (unR gf gn 6))) gn ((boP gf gn (unR gf gn 6)) gi).2.2 gq138 a136 (M102.1 78 5).toInt (M102.1 78 6).toInt (M137.1 78 5).toInt (M137.1 78 6).toInt (psX M137)) = 1 by exact h139.2.2.1) (by omega)
        have u164l : b01 (CL AGC (M137.1 78 5).toInt M0 M137 ((trL gf gn (unR gf gn 6) (uLR gf gn 6)) gi)) = 1 := cl_e (cl_t (show b01 (CL AGC (M102.1 78 5).toInt M0 M102 ((boL gf gn (unR gf gn 6) (uLR gf gn 6)) gi)) = 1 by exact h104.2.1) u164x (fun z => rr_z (show b01 (RR ((luP gf gn 1014 1014 (boP gf gn (unR gf gn 6))) ((boP gf gn (unR gf gn 6)) gi).2.2) (M102.1 78 5).toInt (M102.1 78 6).toInt (M137.1 78 5).toInt (M137.1 78 6).toInt (psX M137)) = 1 by exact u164e) z)) (fun z => rfl)
        have zr := (show b01 (RFX M0 M137) = 1 by exact h139.2.2.2.2.2.2.2.1); exact hret _ _ _ dX8_truth_59 ⟨hM137, by exact ⟨(by (clear zr u164x u164e h141 u140b hM137 ih134 u105c u105l qM102 bM102 hM102 hret C hp2 hp1 hp0 hpr hM0; omega)), ⟨u164l, ⟨h139.2.2.2.2.2.1, ⟨u164r, h139.2.2.2.2.2.2.2.1⟩⟩⟩⟩⟩
      · refine j_aload_n C 0 0 dX8_truth_14 rfl rfl ?_
        refine y_getI C 7 _ _ fX8_truth_22 rfl rfl ft_7_5 sb_7_5 hM137 dX8_truth_15 (fun a142 ea142 la142 ua142 => ?_)
        refine y_if_ne C 59 dX8_truth_18 (by decide) (by omega) (fun h144 => ?_) (fun h144 => ?_)
        · have u165e := ll_e gf gn 1014 1014 (boP gf gn (unR gf gn 6)) ((boP gf gn (unR gf gn 6)) gi).2.2 gq138 a136 (M102.1 78 5).toInt (M102.1 78 6).toInt (M137.1 78 5).toInt (M137.1 78 6).toInt (psX M137) (by decide) (bo_g gf gn (unR_g gf gn 6)) (by exact h139.2.2.1) (by (clear ua142 la142 h141 u140b hM137 h139 ih134 u105c u105l qM102 bM102 h104 hM102 hret C hp2 hp1 hp0 hpr hM0; omega))
          have u165r : b01 (RR ((trP gf gn (unR gf gn 6)) gi) (M0.1 78 5).toInt (M0.1 78 6).toInt (M137.1 78 5).toInt (M137.1 78 6).toInt (psX M137)) = 1 := rr_sq ((boP gf gn (unR gf gn 6)) gi) (luP gf gn 1014 1014 (boP gf gn (unR gf gn 6))) (M0.1 78 5).toInt (M0.1 78 6).toInt (M102.1 78 5).toInt (M102.1 78 6).toInt (psX M102) (M137.1 78 5).toInt (M137.1 78 6).toInt (psX M137) (by exact h104.2.2.2.1) (by exact u165e)
          have u165x := lc_e gf gn 1014 1014 (boP gf gn (unR gf gn 6)) ((boL gf gn (unR gf gn 6) (uLR gf gn 6))) (by decide) (show b01 (LC AGC (M137.1 78 5).toInt (luL gf gn 1014 1014 (boP gf gn (unR gf gn 6)) (boL gf gn (unR gf gn 6) (uLR gf gn 6))) ((boP gf gn (unR gf gn 6)) gi).2.2 gq138 M102 M137) = 1 by exact h139.2.2.2.1) (show b01 (LL (luP gf gn 1014 1014 (boP gf gn (unR gf gn 6))) gn ((boP gf gn (unR gf gn 6)) gi).2.2 gq138 a136 (M102.1 78 5).toInt (M102.1 78 6).toInt (M137.1 78 5).toInt (M137.1 78 6).toInt (psX M137)) = 1 by exact h139.2.2.1) (by omega)
          have u165l : b01 (CL AGC (M137.1 78 5).toInt M0 M137 ((trL gf gn (unR gf gn 6) (uLR gf gn 6)) gi)) = 1 := cl_e (cl_t (show b01 (CL AGC (M102.1 78 5).toInt M0 M102 ((boL gf gn (unR gf gn 6) (uLR gf gn 6)) gi)) = 1 by exact h104.2.1) u165x (fun z => rr_z (show b01 (RR ((luP gf gn 1014 1014 (boP gf gn (unR gf gn 6))) ((boP gf gn (unR gf gn 6)) gi).2.2) (M102.1 78 5).toInt (M102.1 78 6).toInt (M137.1 78 5).toInt (M137.1 78 6).toInt (psX M137)) = 1 by exact u165e) z)) (fun z => rfl)
          have zr := (show b01 (RFX M0 M137) = 1 by exact h139.2.2.2.2.2.2.2.1); exact hret _ _ _ dX8_truth_59 ⟨hM137, by exact ⟨(by (clear zr u165x u165e h144 ua142 la142 ea142 h141 u140b hM137 ih134 u105c u105l qM102 bM102 hM102 hret C hp2 hp1 hp0 hpr hM0; omega)), ⟨u165l, ⟨h139.2.2.2.2.2.1, ⟨u165r, h139.2.2.2.2.2.2.2.1⟩⟩⟩⟩⟩
        · refine j_aload_n C 0 0 dX8_truth_21 rfl rfl ?_
          refine j_callVi C (d := 0) (As := []) (st := []) 78 (s_lt rfl rfl) (s_kc (c := 7) rfl rfl) (by decide) rfl (s1_X8_token hM137 gf gn gq138 (by exact h139.2.2.2.2.2.1) (by exact h139.2.2.2.2.2.2.1)) gX8_truth_X8_token rfl hdX8_token (by decide) (Nat.le_of_ble_eq_true rfl) dX8_truth_22 rfl (fun r145 M146 h147 => ?_)
          obtain ⟨a149, rfl, rfl, h148⟩ := h147
          refine y_sipush C dX8_truth_25 rfl ?_
          refine y_icmp_ne C 59 dX8_truth_28 (by decide) (by exact ⟨⟨h148.1, h148.2.1⟩, ⟨(by decide), (by decide)⟩⟩) (fun h150 => ?_) (fun h150 => ?_)
          · have u166e := ll_e gf gn 1014 1014 (boP gf gn (unR gf gn 6)) ((boP gf gn (unR gf gn 6)) gi).2.2 gq138 a136 (M102.1 78 5).toInt (M102.1 78 6).toInt (M137.1 78 5).toInt (M137.1 78 6).toInt (psX M137) (by decide) (bo_g gf gn (unR_g gf gn 6)) (by exact h139.2.2.1) (by (clear h144 ua142 la142 ea142 h141 u140b hM137 h139 ih134 u105c u105l qM102 bM102 h104 hM102 hret C hp2 hp1 hp0 hpr hM0; omega))
            have u166r : b01 (RR ((trP gf gn (unR gf gn 6)) gi) (M0.1 78 5).toInt (M0.1 78 6).toInt (M137.1 78 5).toInt (M137.1 78 6).toInt (psX M137)) = 1 := rr_sq ((boP gf gn (unR gf gn 6)) gi) (luP gf gn 1014 1014 (boP gf gn (unR gf gn 6))) (M0.1 78 5).toInt (M0.1 78 6).toInt (M102.1 78 5).toInt (M102.1 78 6).toInt (psX M102) (M137.1 78 5).toInt (M137.1 78 6).toInt (psX M137) (by exact h104.2.2.2.1) (by exact u166e)
            have u166x := lc_e gf gn 1014 1014 (boP gf gn (unR gf gn 6)) ((boL gf gn (unR gf gn 6) (uLR gf gn 6))) (by decide) (show b01 (LC AGC (M137.1 78 5).toInt (luL gf gn 1014 1014 (boP gf gn (unR gf gn 6)) (boL gf gn (unR gf gn 6) (uLR gf gn 6))) ((boP gf gn (unR gf gn 6)) gi).2.2 gq138 M102 M137) = 1 by exact h139.2.2.2.1) (show b01 (LL (luP gf gn 1014 1014 (boP gf gn (unR gf gn 6))) gn ((boP gf gn (unR gf gn 6)) gi).2.2 gq138 a136 (M102.1 78 5).toInt (M102.1 78 6).toInt (M137.1 78 5).toInt (M137.1 78 6).toInt (psX M137)) = 1 by exact h139.2.2.1) (by omega)
            have u166l : b01 (CL AGC (M137.1 78 5).toInt M0 M137 ((trL gf gn (unR gf gn 6) (uLR gf gn 6)) gi)) = 1 := cl_e (cl_t (show b01 (CL AGC (M102.1 78 5).toInt M0 M102 ((boL gf gn (unR gf gn 6) (uLR gf gn 6)) gi)) = 1 by exact h104.2.1) u166x (fun z => rr_z (show b01 (RR ((luP gf gn 1014 1014 (boP gf gn (unR gf gn 6))) ((boP gf gn (unR gf gn 6)) gi).2.2) (M102.1 78 5).toInt (M102.1 78 6).toInt (M137.1 78 5).toInt (M137.1 78 6).toInt (psX M137)) = 1 by exact u166e) z)) (fun z => rfl)
            have zr := (show b01 (RFX M0 M137) = 1 by exact h139.2.2.2.2.2.2.2.1); exact hret _ _ _ dX8_truth_59 ⟨hM137, by exact ⟨(by (clear zr u166x u166e h150 h148 h144 ua142 la142 ea142 h141 u140b hM137 ih134 u105c u105l qM102 bM102 hM102 hret C hp2 hp1 hp0 hpr hM0; omega)), ⟨u166l, ⟨h139.2.2.2.2.2.1, ⟨u166r, h139.2.2.2.2.2.2.2.1⟩⟩⟩⟩⟩
          · refine j_aload_n C 0 0 dX8_truth_31 rfl rfl ?_
            refine j_dup C dX8_truth_32 rfl ?_
            refine y_getI C 7 _ _ fX8_truth_18 rfl rfl ft_7_2 sb_7_2 hM137 dX8_truth_33 (fun a151 ea151 la151 ua151 => ?_)
            refine y_iconst C dX8_truth_36 ?_
            refine y_iadd C dX8_truth_37 ?_
            refine y_putI C 7 _ _ qX8_truth_18 rfl rfl ft_7_2 sb_7_2 hM137 (PX.w hpr rfl rfl) dX8_truth_38 (by omega) (fun M153 eM153 hM153 => ?_)
            have xM153 := tkx_j (f := gf) (n := gn) (gi := gq138) eM153 (by exact h139.2.2.2.2.2.1) (by exact ea151) (by (clear hM153 eM153 ua151 la151 ea151 h144 ua142 la142 ea142 h141 u140b hM137 h139 ih134 u105c u105l qM102 bM102 h104 hM102 hret C hp2 hp1 hp0 hpr hM0; omega)) (by exact h139.2.2.2.2.2.2.1)
            have dM153 := cs_w hM137 (c := 7) rfl eM153 (by decide)
            have gM153 := s_wr eM153 (by omega)
            refine j_aload_n C 0 0 dX8_truth_41 rfl rfl ?_
            refine j_iload_n C 1 1 dX8_truth_42 rfl rfl ?_
            refine j_callVv C (d := 25) (As := [.int (sI 0)]) (st := []) 78 (s_lt rfl rfl) (s_kc (c := 7) rfl rfl) (by decide) rfl (s8_X8_both hM153 hpr gf gn (nxF gf gn gq138) (by (clear xM153 hM153 eM153 ua151 la151 h150 h148 h144 ua142 la142 ea142 h141 u140b hM137 ih134 u105c u105l qM102 bM102 hM102 hret C hp2 hp1 hpr hM0; omega)) (by exact xM153.1) (by exact xM153.2.2.2)) gX8_truth_X8_both rfl hdX8_both (by decide) (Nat.le_of_ble_eq_true rfl) dX8_truth_43 rfl (fun M155 h156 => ?_)
            obtain ⟨hM155, h157⟩ := h156
            have bM155 := tkx_b (f := gf) (n := gn) (M := M155) (by exact h157.2.2.1)
            have qM155 := po_rr (boP gf gn (unR gf gn 6)) gn (nxF gf gn gq138) (M153.1 78 5).toInt (M153.1 78 6).toInt (psX M153) (M155.1 78 5).toInt (M155.1 78 6).toInt (psX M155) (bo_g gf gn (unR_g gf gn 6)) (by exact xM153.2.2.2) (by exact h157.2.2.2.1)
            refine j_aload_n C 0 0 dX8_truth_46 rfl rfl ?_
            refine y_sipush C dX8_truth_47 rfl ?_
            have u158b := tkx_b (f := gf) (n := gn) (M := M155) (by exact h157.2.2.1)
            refine j_callVv C (d := 0) (As := [.int (sI 1014)]) (st := []) 78 (s_lt rfl rfl) (s_kc (c := 7) rfl rfl) (by decide) rfl (s1_X8_emit hM155 hpr 1014 (by exact ⟨(by decide), (by decide)⟩) gf gn ((boP gf gn (unR gf gn 6)) (nxF gf gn gq138)).2.2 (by (clear u158b qM155 hM155 xM153 hM153 eM153 ua151 la151 h150 h148 h144 ua142 la142 ea142 h141 u140b hM137 ih134 u105c u105l qM102 bM102 hM102 hret C hp2 hp1 hpr hM0; omega)) (by exact h157.2.2.1) (by exact qM155)) gX8_truth_X8_emit rfl hdX8_emit (by decide) (Nat.le_of_ble_eq_true rfl) dX8_truth_50 rfl (fun M160 h161 => ?_)
            obtain ⟨hM160, h162⟩ := h161
            have bM160 := tkx_b (f := gf) (n := gn) (M := M160) (by exact h162.2.2.2.2.2.2.1)
            have qM160 := po_eq gn ((boP gf gn (unR gf gn 6)) (nxF gf gn gq138)).2.2 (M155.1 78 5).toInt (psX M155) (M160.1 78 5).toInt (psX M160) (by exact qM155) (by exact h162.2.1.1) (by exact h162.1)
            refine y_iinc C 2 [(2, .int (sI (a136 + 1))), (0, .ref (ad 78)), (1, .int (sI 0))] dX8_truth_53 rfl (by decide) rfl ?_
            have u163s := ll_s gf gn 1014 1014 (boP gf gn (unR gf gn 6)) ((boP gf gn (unR gf gn 6)) gi).2.2 gq138 a136 (M102.1 78 5).toInt (M102.1 78 6).toInt (M137.1 78 5).toInt (M137.1 78 6).toInt (psX M137) (M153.1 78 5).toInt (M153.1 78 6).toInt (M155.1 78 5).toInt (M155.1 78 6).toInt (psX M155) (M160.1 78 5).toInt (M160.1 78 6).toInt (psX M160) (by decide) (bo_g gf gn (unR_g gf gn 6)) (by exact h139.2.2.1) (by omega) (by (clear qM160 bM160 h162 hM160 u158b qM155 bM155 h157 hM155 gM153 dM153 xM153 hM153 eM153 ua151 la151 ea151 h144 ua142 la142 ea142 h141 u140b hM137 h139 ih134 u105c u105l qM102 bM102 h104 hM102 hret C hp2 hp1 hp0 hpr hM0; omega)) (by exact xM153.2.1) (by exact xM153.2.2.1) (by exact h157.2.2.2.1) (by exact h162.2.1.1) (by exact h162.2.1.2) (by exact h162.1)
            have u163c := lc_s gf gn 1014 1014 (boP gf gn (unR gf gn 6)) (boL gf gn (unR gf gn 6) (uLR gf gn 6)) (by decide) (bo_g gf gn (unR_g gf gn 6)) (show b01 (LC AGC (M137.1 78 5).toInt (luL gf gn 1014 1014 (boP gf gn (unR gf gn 6)) (boL gf gn (unR gf gn 6) (uLR gf gn 6))) ((boP gf gn (unR gf gn 6)) gi).2.2 gq138 M102 M137) = 1 by exact h139.2.2.2.1) (show b01 (PO gn gq138 (M137.1 78 5).toInt (psX M137)) = 1 by exact h139.2.2.2.2.2.2.1) (by omega) (show b01 (RR ((boP gf gn (unR gf gn 6)) (nxF gf gn gq138)) (M153.1 78 5).toInt (M153.1 78 6).toInt (M155.1 78 5).toInt (M155.1 78 6).toInt (psX M155)) = 1 by exact h157.2.2.2.1) (fun z => by omega) (cl_e (L := ([] ++ ((boL gf gn (unR gf gn 6) (uLR gf gn 6)) (nxF gf gn gq138))) ++ [cmF 1014]) (cl_t (cl_t (cl_r (A := AGC) (M := M137) (N := M153) (M153.1 78 5).toInt (agc_78 eM153)) (show b01 (CL AGC (M155.1 78 5).toInt M153 M155 ((boL gf gn (unR gf gn 6) (uLR gf gn 6)) (nxF gf gn gq138))) = 1 by exact h157.2.1) (fun z => rr_z (show b01 (RR ((boP gf gn (unR gf gn 6)) (nxF gf gn gq138)) (M153.1 78 5).toInt (M153.1 78 6).toInt (M155.1 78 5).toInt (M155.1 78 6).toInt (psX M155)) = 1 by exact h157.2.2.2.1) z)) (show b01 (CL AGC (M160.1 78 5).toInt M155 M160 [cmF 1014]) = 1 by exact h162.2.2.2.2.2.1) (fun z => by (clear u163s qM160 bM160 hM160 u158b qM155 bM155 h157 hM155 gM153 dM153 xM153 hM153 eM153 ua151 la151 ea151 h150 h148 h144 ua142 la142 ea142 h141 u140b hM137 h139 ih134 u105c u105l qM102 bM102 h104 hM102 hret C hp2 hp1 hp0 hpr hM0; omega))) (fun z => by rw [show tkF gf gn (psX M137) = 1014 by (clear z u163s qM160 bM160 h162 hM160 u158b qM155 bM155 h157 hM155 gM153 dM153 xM153 hM153 eM153 ua151 la151 ea151 h144 ua142 la142 ea142 h141 u140b hM137 h139 ih134 u105c u105l qM102 bM102 h104 hM102 hret C hp2 hp1 hp0 hpr hM0; omega), List.nil_append]) : b01 (CL AGC (M160.1 78 5).toInt M137 M160 (((boL gf gn (unR gf gn 6) (uLR gf gn 6)) (nxF gf gn gq138)) ++ [cmF (tkF gf gn (psX M137))])) = 1) (fun z => by omega)
            refine j_goto C 7 dX8_truth_56 (by decide) ?_
            have zr := (rfx_t (rfx_t (rfx_i (show b01 (RFX M0 M137) = 1 by exact h139.2.2.2.2.2.2.2.1) eM153 (by decide)) (show b01 (RFX M153 M155) = 1 by exact h157.2.2.2.2)) (show b01 (RFX M155 M160) = 1 by exact h162.2.2.2.2.2.2.2)); refine j_lv [1, 2, 0] rfl ?_; exact ih134 (a136 + 1) M160 ((boP gf gn (unR gf gn 6)) (nxF gf gn gq138)).2.2 (by exact ⟨(by (clear bM160 hM160 u158b qM155 bM155 hM155 xM153 hM153 eM153 ua151 la151 h150 h148 h144 ua142 la142 ea142 u140b hM137 ih134 u105c u105l qM102 bM102 h104 hM102 hret C hp2 hp1 hp0 hpr hM0; omega)), ⟨(by (clear bM160 hM160 u158b qM155 bM155 hM155 xM153 hM153 eM153 ua151 la151 h150 h148 h144 ua142 la142 ea142 u140b hM137 ih134 u105c u105l qM102 bM102 h104 hM102 hret C hp2 hp1 hp0 hpr hM0; omega)), ⟨u163s, ⟨u163c, ⟨(by (clear bM160 hM160 u158b qM155 bM155 hM155 xM153 hM153 eM153 ua151 la151 h150 h148 h144 ua142 la142 ea142 u140b hM137 ih134 u105c u105l qM102 bM102 h104 hM102 hret C hp2 hp1 hp0 hpr hM0; omega)), ⟨h162.2.2.2.2.2.2.1, ⟨qM160, ⟨zr, (by (clear bM160 hM160 u158b qM155 bM155 hM155 xM153 hM153 eM153 ua151 la151 h150 h148 h144 ua142 la142 ea142 u140b hM137 ih134 u105c u105l qM102 bM102 h104 hM102 hret C hp2 hp1 hp0 hpr hM0; omega))⟩⟩⟩⟩⟩⟩⟩⟩) hM160
  have zr := (rfx_t (rfx_r M0) (show b01 (RFX M0 M102) = 1 by exact h104.2.2.2.2)); refine j_lv [1, 2, 0] rfl ?_; exact L135 2010 0 M102 ((boP gf gn (unR gf gn 6)) gi).2.2 (by exact ⟨(by decide), ⟨(by decide), ⟨u105l, ⟨u105c, ⟨(by (clear zr L135 bM102 hM102 hret C hp2 hp1 hp0 hpr hM0; omega)), ⟨h104.2.2.1, ⟨qM102, ⟨h104.2.2.2.2, (by decide)⟩⟩⟩⟩⟩⟩⟩⟩) hM102
set_option maxHeartbeats 4000000 in
theorem s1_X8_line {l : Launch} {dC : Nat → ClassId} {dI : Nat → Nat → Nat} {ad : Nat → Nat} {cA : Nat → ClassId} {pr : Nat → Nat → Bool} {Kz : mm_M} {M0 : mm_M} (hM0 : INV pr Kz M0) (hpr : PX pr) (hq8_0 : ∀ i, s_c i = 8 → pr i 0 = false) (hq6_0 : ∀ i, s_c i = 6 → pr i 0 = false) (gf : Nat → Int) (gn : Int) (gi : Int) (hp0 : (M0.1 78 5).toInt = 0) (hp1 : csX M0 ≤ (M0.1 78 2).toInt) (hp2 : b01 (TKX gf gn M0) = 1) (hp3 : b01 (PO gn gi (M0.1 78 5).toInt (psX M0)) = 1) : Cv l 27 yX8_line wsX8_line dC dI ad cA [.ref (ad 78)] M0 (fun M' => INV pr Kz M' ∧ (b01 (CK (M'.1 78 5).toInt (kiX M') (byX M') (lnX M') (inc (tkF gf gn gi) 1003 (kiX M0)) (inc (tkF gf gn gi) 1009 (byX M0)) (lnX M0)) = 1) ∧ (lnX M' = lnX M0) ∧ (csX M' - csX M0 ≤ (M'.1 78 2).toInt - (M0.1 78 2).toInt) ∧ (b01 (CT AGY (M'.1 78 5).toInt M0 M' (liC gf gn (kiX M0) (byX M0) gi)) = 1) ∧ (b01 (TKX gf gn M') = 1) ∧ b01 (RR ((liP gf gn (kiX M0) (byX M0)) gi) (M0.1 78 5).toInt (M0.1 78 6).toInt (M'.1 78 5).toInt (M'.1 78 6).toInt (psX M')) = 1 ∧ (b01 (RFX M0 M') = 1)) := by
  refine cv_of (cc := cX8_line) (maxL := 1) (lv := [(0, .ref (ad 78))]) (by decide) rfl (Nat.le_of_ble_eq_true rfl) rfl ?_
  intro p e s m args below meth c A Q C hret
  have u101b := tkx_b (f := gf) (n := gn) (M := M0) (by exact hp2)
  have u101i := inc_s (tkF gf gn (psX M0)) 1003 (kiX M0)
  have u101j := inc_s (tkF gf gn (psX M0)) 1009 (byX M0)
  have u101x := kx_b hM0
  refine j_aload_n C 0 0 dX8_line_0 rfl rfl ?_
  refine j_callVi C (d := 0) (As := []) (st := []) 78 (s_lt rfl rfl) (s_kc (c := 7) rfl rfl) (by decide) rfl (s1_X8_token hM0 gf gn gi (by exact hp2) (by exact hp3)) gX8_line_X8_token rfl hdX8_token (by decide) (Nat.le_of_ble_eq_true rfl) dX8_line_1 rfl (fun r102 M103 h104 => ?_)
  obtain ⟨a106, rfl, rfl, h105⟩ := h104
  rcases (show (a106 < 1003 ∨ 1011 < a106) ∨ a106 = 1003 ∨ a106 = 1004 ∨ a106 = 1005 ∨ a106 = 1006 ∨ a106 = 1007 ∨ a106 = 1008 ∨ a106 = 1009 ∨ a106 = 1010 ∨ a106 = 1011 by (clear u101x u101j u101i u101b hret C hp3 hp2 hp1 hp0 hq6_0 hq8_0 hpr hM0; omega)) with h107 | h107 | h107 | h107 | h107 | h107 | h107 | h107 | h107 | h107
  · refine y_tabO C 176 dX8_line_4 (by decide) (by exact ⟨⟨h105.1, h105.2.1⟩, h107⟩) ?_
    refine j_aload_n C 0 0 dX8_line_176 rfl rfl ?_
    refine y_iconst C dX8_line_177 ?_
    refine j_callVv C (d := 0) (As := [.int (sI 2)]) (st := []) 78 (s_lt rfl rfl) (s_kc (c := 7) rfl rfl) (by decide) rfl (s1_X8_fail hM0 hpr 2 (by exact ⟨(by decide), (by decide)⟩) gf gn gi (by exact ⟨(by decide), (by decide)⟩) (by exact hp2) (by exact hp3)) gX8_line_X8_fail rfl hdX8_fail (by decide) (Nat.le_of_ble_eq_true rfl) dX8_line_178 rfl (fun M109 h110 => ?_)
    obtain ⟨hM109, fM109, h111⟩ := h110
    have bM109 := tkx_b (f := gf) (n := gn) (M := M109) (by exact h111.2.2.2.1)
    have qM109 := po_f gn ((faQ gf gn 2) gi).2.2 (M109.1 78 5).toInt (psX M109) (by omega)
    have dM109 := cs_f hM0 fM109
    have cM109 := cn_f hM0 fM109
    have u112r := li_5 gf gn (kiX M0) (byX M0) gi (M0.1 78 5).toInt (M0.1 78 6).toInt (psX M0) (M109.1 78 5).toInt (M109.1 78 6).toInt (psX M109) (by exact hp3) (by (clear cM109 dM109 qM109 bM109 h111 fM109 hM109 u101x u101j u101i u101b hret C hp3 hp2 hp1 hp0 hq6_0 hq8_0 hpr hM0; omega)) (by exact h111.2.2.2.2.1)
    have u112d := ck_i (M109.1 78 5).toInt (kiX M109) (byX M109) (lnX M109) (kiX M0) (byX M0) (lnX M0) (by omega)
    have u112c := ck_li gf gn gi (M0.1 78 5).toInt (psX M0) (M109.1 78 5).toInt (kiX M109) (byX M109) (lnX M109) (kiX M0) (byX M0) (lnX M0) (kiX M0) (byX M0) (by exact hp3) (by exact hp0) (by exact u112d) (by (clear u112d u112r dM109 qM109 bM109 h111 fM109 hM109 u101x u101b hret C hp3 hp2 hp1 hp0 hq6_0 hq8_0 hpr hM0; omega)) (by (clear u112d u112r dM109 qM109 bM109 h111 fM109 hM109 u101x u101i u101b hret C hp3 hp2 hp1 hp0 hq6_0 hq8_0 hpr hM0; omega))
    have u112t := ct_n (A := AGY) (M := M0) (N := M109) (liC gf gn (kiX M0) (byX M0) gi) (a := (M109.1 78 5).toInt) (by omega)
    have zr := (rfx_F (rfx_r M0) fM109); exact hret _ _ _ dX8_line_181 ⟨hM109, by exact ⟨u112c, ⟨cM109.2.2, ⟨(by (clear zr u112d qM109 bM109 fM109 hM109 h107 h105 u101x u101j u101i u101b hret C hp3 hp2 hp1 hp0 hq6_0 hq8_0 hpr hM0; omega)), ⟨u112t, ⟨h111.2.2.2.1, ⟨u112r, h111.2.2.2.2.2⟩⟩⟩⟩⟩⟩⟩
  · refine y_tabI C (off := 52) 56 1003 dX8_line_4 (by decide) rfl (by decide) h107 ?_
    refine j_aload_n C 0 0 dX8_line_56 rfl rfl ?_
    refine j_callVv C (d := 3) (As := []) (st := []) 78 (s_lt rfl rfl) (s_kc (c := 7) rfl rfl) (by decide) rfl (s1_X8_kindLine hM0 hpr hq8_0 gf gn gi (by exact hp0) (by (clear u101x u101j u101i u101b hret C hp3 hp2 hp1 hp0 hq6_0 hq8_0 hpr hM0; omega)) (by exact hp2) (by exact hp3)) gX8_line_X8_kindLine rfl hdX8_kindLine (by decide) (Nat.le_of_ble_eq_true rfl) dX8_line_57 rfl (fun M114 h115 => ?_)
    obtain ⟨hM114, h116⟩ := h115
    have bM114 := tkx_b (f := gf) (n := gn) (M := M114) (by exact h116.2.2.2.2.2.1)
    refine j_goto C 181 dX8_line_60 (by decide) ?_
    have u117r := li_1 gf gn (kiX M0) (byX M0) gi (M0.1 78 5).toInt (M0.1 78 6).toInt (psX M0) (M114.1 78 5).toInt (M114.1 78 6).toInt (psX M114) (by exact hp3) (by (clear bM114 h116 hM114 u101x u101j u101i u101b hret C hp3 hp2 hp1 hp0 hq6_0 hq8_0 hpr hM0; omega)) (by exact h116.2.2.2.2.2.2.1)
    have u117c := ck_li gf gn gi (M0.1 78 5).toInt (psX M0) (M114.1 78 5).toInt (kiX M114) (byX M114) (lnX M114) (kiX M0) (byX M0) (lnX M0) (kiX M0 + 1) (byX M0) (by exact hp3) (by exact hp0) (by exact h116.1) (by (clear u117r bM114 h116 hM114 u101x u101b hret C hp3 hp2 hp1 hp0 hq6_0 hq8_0 hpr hM0; omega)) (by (clear u117r bM114 h116 hM114 u101x u101i u101b hret C hp3 hp2 hp1 hp0 hq6_0 hq8_0 hpr hM0; omega))
    have u117t : b01 (CT AGY (M114.1 78 5).toInt M0 M114 (liC gf gn (kiX M0) (byX M0) gi)) = 1 := li_c1 gf gn (ct_x (show b01 (CT AGC (M114.1 78 5).toInt M0 M114 (kiC gf gn (kiX M0) gi)) = 1 by exact h116.2.2.2.2.1) (kiC_k gf gn (by exact u101x.1.1) gi)) (show b01 (PO gn gi (M0.1 78 5).toInt (psX M0)) = 1 by exact hp3) (by exact hp0) (Or.inl ⟨by omega, rfl⟩)
    have zr := (rfx_t (rfx_r M0) (show b01 (RFX M0 M114) = 1 by exact h116.2.2.2.2.2.2.2)); exact hret _ _ _ dX8_line_181 ⟨hM114, by exact ⟨u117c, ⟨h116.2.1, ⟨(by (clear zr bM114 hM114 h107 h105 u101x u101j u101i u101b hret C hp3 hp2 hp1 hp0 hq6_0 hq8_0 hpr hM0; omega)), ⟨u117t, ⟨h116.2.2.2.2.2.1, ⟨u117r, h116.2.2.2.2.2.2.2⟩⟩⟩⟩⟩⟩⟩
  · refine y_tabI C (off := 172) 176 1004 dX8_line_4 (by decide) rfl (by decide) h107 ?_
    refine j_aload_n C 0 0 dX8_line_176 rfl rfl ?_
    refine y_iconst C dX8_line_177 ?_
    refine j_callVv C (d := 0) (As := [.int (sI 2)]) (st := []) 78 (s_lt rfl rfl) (s_kc (c := 7) rfl rfl) (by decide) rfl (s1_X8_fail hM0 hpr 2 (by exact ⟨(by decide), (by decide)⟩) gf gn gi (by exact ⟨(by decide), (by decide)⟩) (by exact hp2) (by exact hp3)) gX8_line_X8_fail rfl hdX8_fail (by decide) (Nat.le_of_ble_eq_true rfl) dX8_line_178 rfl (fun M119 h120 => ?_)
    obtain ⟨hM119, fM119, h121⟩ := h120
    have bM119 := tkx_b (f := gf) (n := gn) (M := M119) (by exact h121.2.2.2.1)
    have qM119 := po_f gn ((faQ gf gn 2) gi).2.2 (M119.1 78 5).toInt (psX M119) (by omega)
    have dM119 := cs_f hM0 fM119
    have cM119 := cn_f hM0 fM119
    have u122r := li_5 gf gn (kiX M0) (byX M0) gi (M0.1 78 5).toInt (M0.1 78 6).toInt (psX M0) (M119.1 78 5).toInt (M119.1 78 6).toInt (psX M119) (by exact hp3) (by (clear cM119 dM119 qM119 bM119 h121 fM119 hM119 u101x u101j u101i u101b hret C hp3 hp2 hp1 hp0 hq6_0 hq8_0 hpr hM0; omega)) (by exact h121.2.2.2.2.1)
    have u122d := ck_i (M119.1 78 5).toInt (kiX M119) (byX M119) (lnX M119) (kiX M0) (byX M0) (lnX M0) (by omega)
    have u122c := ck_li gf gn gi (M0.1 78 5).toInt (psX M0) (M119.1 78 5).toInt (kiX M119) (byX M119) (lnX M119) (kiX M0) (byX M0) (lnX M0) (kiX M0) (byX M0) (by exact hp3) (by exact hp0) (by exact u122d) (by (clear u122d u122r dM119 qM119 bM119 h121 fM119 hM119 u101x u101b hret C hp3 hp2 hp1 hp0 hq6_0 hq8_0 hpr hM0; omega)) (by (clear u122d u122r dM119 qM119 bM119 h121 fM119 hM119 u101x u101i u101b hret C hp3 hp2 hp1 hp0 hq6_0 hq8_0 hpr hM0; omega))
    have u122t := ct_n (A := AGY) (M := M0) (N := M119) (liC gf gn (kiX M0) (byX M0) gi) (a := (M119.1 78 5).toInt) (by omega)
    have zr := (rfx_F (rfx_r M0) fM119); exact hret _ _ _ dX8_line_181 ⟨hM119, by exact ⟨u122c, ⟨cM119.2.2, ⟨(by (clear zr u122d qM119 bM119 fM119 hM119 h107 h105 u101x u101j u101i u101b hret C hp3 hp2 hp1 hp0 hq6_0 hq8_0 hpr hM0; omega)), ⟨u122t, ⟨h121.2.2.2.1, ⟨u122r, h121.2.2.2.2.2⟩⟩⟩⟩⟩⟩⟩
  · refine y_tabI C (off := 172) 176 1005 dX8_line_4 (by decide) rfl (by decide) h107 ?_
    refine j_aload_n C 0 0 dX8_line_176 rfl rfl ?_
    refine y_iconst C dX8_line_177 ?_
    refine j_callVv C (d := 0) (As := [.int (sI 2)]) (st := []) 78 (s_lt rfl rfl) (s_kc (c := 7) rfl rfl) (by decide) rfl (s1_X8_fail hM0 hpr 2 (by exact ⟨(by decide), (by decide)⟩) gf gn gi (by exact ⟨(by decide), (by decide)⟩) (by exact hp2) (by exact hp3)) gX8_line_X8_fail rfl hdX8_fail (by decide) (Nat.le_of_ble_eq_true rfl) dX8_line_178 rfl (fun M124 h125 => ?_)
    obtain ⟨hM124, fM124, h126⟩ := h125
    have bM124 := tkx_b (f := gf) (n := gn) (M := M124) (by exact h126.2.2.2.1)
    have qM124 := po_f gn ((faQ gf gn 2) gi).2.2 (M124.1 78 5).toInt (psX M124) (by omega)
    have dM124 := cs_f hM0 fM124
    have cM124 := cn_f hM0 fM124
    have u127r := li_5 gf gn (kiX M0) (byX M0) gi (M0.1 78 5).toInt (M0.1 78 6).toInt (psX M0) (M124.1 78 5).toInt (M124.1 78 6).toInt (psX M124) (by exact hp3) (by (clear cM124 dM124 qM124 bM124 h126 fM124 hM124 u101x u101j u101i u101b hret C hp3 hp2 hp1 hp0 hq6_0 hq8_0 hpr hM0; omega)) (by exact h126.2.2.2.2.1)
    have u127d := ck_i (M124.1 78 5).toInt (kiX M124) (byX M124) (lnX M124) (kiX M0) (byX M0) (lnX M0) (by omega)
    have u127c := ck_li gf gn gi (M0.1 78 5).toInt (psX M0) (M124.1 78 5).toInt (kiX M124) (byX M124) (lnX M124) (kiX M0) (byX M0) (lnX M0) (kiX M0) (byX M0) (by exact hp3) (by exact hp0) (by exact u127d) (by (clear u127d u127r dM124 qM124 bM124 h126 fM124 hM124 u101x u101b hret C hp3 hp2 hp1 hp0 hq6_0 hq8_0 hpr hM0; omega)) (by (clear u127d u127r dM124 qM124 bM124 h126 fM124 hM124 u101x u101i u101b hret C hp3 hp2 hp1 hp0 hq6_0 hq8_0 hpr hM0; omega))
    have u127t := ct_n (A := AGY) (M := M0) (N := M124) (liC gf gn (kiX M0) (byX M0) gi) (a := (M124.1 78 5).toInt) (by omega)
    have zr := (rfx_F (rfx_r M0) fM124); exact hret _ _ _ dX8_line_181 ⟨hM124, by exact ⟨u127c, ⟨cM124.2.2, ⟨(by (clear zr u127d qM124 bM124 fM124 hM124 h107 h105 u101x u101j u101i u101b hret C hp3 hp2 hp1 hp0 hq6_0 hq8_0 hpr hM0; omega)), ⟨u127t, ⟨h126.2.2.2.1, ⟨u127r, h126.2.2.2.2.2⟩⟩⟩⟩⟩⟩⟩
  · refine y_tabI C (off := 172) 176 1006 dX8_line_4 (by decide) rfl (by decide) h107 ?_
    refine j_aload_n C 0 0 dX8_line_176 rfl rfl ?_
    refine y_iconst C dX8_line_177 ?_
    refine j_callVv C (d := 0) (As := [.int (sI 2)]) (st := []) 78 (s_lt rfl rfl) (s_kc (c := 7) rfl rfl) (by decide) rfl (s1_X8_fail hM0 hpr 2 (by exact ⟨(by decide), (by decide)⟩) gf gn gi (by exact ⟨(by decide), (by decide)⟩) (by exact hp2) (by exact hp3)) gX8_line_X8_fail rfl hdX8_fail (by decide) (Nat.le_of_ble_eq_true rfl) dX8_line_178 rfl (fun M129 h130 => ?_)
    obtain ⟨hM129, fM129, h131⟩ := h130
    have bM129 := tkx_b (f := gf) (n := gn) (M := M129) (by exact h131.2.2.2.1)
    have qM129 := po_f gn ((faQ gf gn 2) gi).2.2 (M129.1 78 5).toInt (psX M129) (by omega)
    have dM129 := cs_f hM0 fM129
    have cM129 := cn_f hM0 fM129
    have u132r := li_5 gf gn (kiX M0) (byX M0) gi (M0.1 78 5).toInt (M0.1 78 6).toInt (psX M0) (M129.1 78 5).toInt (M129.1 78 6).toInt (psX M129) (by exact hp3) (by (clear cM129 dM129 qM129 bM129 h131 fM129 hM129 u101x u101j u101i u101b hret C hp3 hp2 hp1 hp0 hq6_0 hq8_0 hpr hM0; omega)) (by exact h131.2.2.2.2.1)
    have u132d := ck_i (M129.1 78 5).toInt (kiX M129) (byX M129) (lnX M129) (kiX M0) (byX M0) (lnX M0) (by omega)
    have u132c := ck_li gf gn gi (M0.1 78 5).toInt (psX M0) (M129.1 78 5).toInt (kiX M129) (byX M129) (lnX M129) (kiX M0) (byX M0) (lnX M0) (kiX M0) (byX M0) (by exact hp3) (by exact hp0) (by exact u132d) (by (clear u132d u132r dM129 qM129 bM129 h131 fM129 hM129 u101x u101b hret C hp3 hp2 hp1 hp0 hq6_0 hq8_0 hpr hM0; omega)) (by (clear u132d u132r dM129 qM129 bM129 h131 fM129 hM129 u101x u101i u101b hret C hp3 hp2 hp1 hp0 hq6_0 hq8_0 hpr hM0; omega))
    have u132t := ct_n (A := AGY) (M := M0) (N := M129) (liC gf gn (kiX M0) (byX M0) gi) (a := (M129.1 78 5).toInt) (by omega)
    have zr := (rfx_F (rfx_r M0) fM129); exact hret _ _ _ dX8_line_181 ⟨hM129, by exact ⟨u132c, ⟨cM129.2.2, ⟨(by (clear zr u132d qM129 bM129 fM129 hM129 h107 h105 u101x u101j u101i u101b hret C hp3 hp2 hp1 hp0 hq6_0 hq8_0 hpr hM0; omega)), ⟨u132t, ⟨h131.2.2.2.1, ⟨u132r, h131.2.2.2.2.2⟩⟩⟩⟩⟩⟩⟩
  · refine y_tabI C (off := 172) 176 1007 dX8_line_4 (by decide) rfl (by decide) h107 ?_
    refine j_aload_n C 0 0 dX8_line_176 rfl rfl ?_
    refine y_iconst C dX8_line_177 ?_
    refine j_callVv C (d := 0) (As := [.int (sI 2)]) (st := []) 78 (s_lt rfl rfl) (s_kc (c := 7) rfl rfl) (by decide) rfl (s1_X8_fail hM0 hpr 2 (by exact ⟨(by decide), (by decide)⟩) gf gn gi (by exact ⟨(by decide), (by decide)⟩) (by exact hp2) (by exact hp3)) gX8_line_X8_fail rfl hdX8_fail (by decide) (Nat.le_of_ble_eq_true rfl) dX8_line_178 rfl (fun M134 h135 => ?_)
    obtain ⟨hM134, fM134, h136⟩ := h135
    have bM134 := tkx_b (f := gf) (n := gn) (M := M134) (by exact h136.2.2.2.1)
    have qM134 := po_f gn ((faQ gf gn 2) gi).2.2 (M134.1 78 5).toInt (psX M134) (by omega)
    have dM134 := cs_f hM0 fM134
    have cM134 := cn_f hM0 fM134
    have u137r := li_5 gf gn (kiX M0) (byX M0) gi (M0.1 78 5).toInt (M0.1 78 6).toInt (psX M0) (M134.1 78 5).toInt (M134.1 78 6).toInt (psX M134) (by exact hp3) (by (clear cM134 dM134 qM134 bM134 h136 fM134 hM134 u101x u101j u101i u101b hret C hp3 hp2 hp1 hp0 hq6_0 hq8_0 hpr hM0; omega)) (by exact h136.2.2.2.2.1)
    have u137d := ck_i (M134.1 78 5).toInt (kiX M134) (byX M134) (lnX M134) (kiX M0) (byX M0) (lnX M0) (by omega)
    have u137c := ck_li gf gn gi (M0.1 78 5).toInt (psX M0) (M134.1 78 5).toInt (kiX M134) (byX M134) (lnX M134) (kiX M0) (byX M0) (lnX M0) (kiX M0) (byX M0) (by exact hp3) (by exact hp0) (by exact u137d) (by (clear u137d u137r dM134 qM134 bM134 h136 fM134 hM134 u101x u101b hret C hp3 hp2 hp1 hp0 hq6_0 hq8_0 hpr hM0; omega)) (by (clear u137d u137r dM134 qM134 bM134 h136 fM134 hM134 u101x u101i u101b hret C hp3 hp2 hp1 hp0 hq6_0 hq8_0 hpr hM0; omega))
    have u137t := ct_n (A := AGY) (M := M0) (N := M134) (liC gf gn (kiX M0) (byX M0) gi) (a := (M134.1 78 5).toInt) (by omega)
    have zr := (rfx_F (rfx_r M0) fM134); exact hret _ _ _ dX8_line_181 ⟨hM134, by exact ⟨u137c, ⟨cM134.2.2, ⟨(by (clear zr u137d qM134 bM134 fM134 hM134 h107 h105 u101x u101j u101i u101b hret C hp3 hp2 hp1 hp0 hq6_0 hq8_0 hpr hM0; omega)), ⟨u137t, ⟨h136.2.2.2.1, ⟨u137r, h136.2.2.2.2.2⟩⟩⟩⟩⟩⟩⟩
  · refine y_tabI C (off := 172) 176 1008 dX8_line_4 (by decide) rfl (by decide) h107 ?_
    refine j_aload_n C 0 0 dX8_line_176 rfl rfl ?_
    refine y_iconst C dX8_line_177 ?_
    refine j_callVv C (d := 0) (As := [.int (sI 2)]) (st := []) 78 (s_lt rfl rfl) (s_kc (c := 7) rfl rfl) (by decide) rfl (s1_X8_fail hM0 hpr 2 (by exact ⟨(by decide), (by decide)⟩) gf gn gi (by exact ⟨(by decide), (by decide)⟩) (by exact hp2) (by exact hp3)) gX8_line_X8_fail rfl hdX8_fail (by decide) (Nat.le_of_ble_eq_true rfl) dX8_line_178 rfl (fun M139 h140 => ?_)
    obtain ⟨hM139, fM139, h141⟩ := h140
    have bM139 := tkx_b (f := gf) (n := gn) (M := M139) (by exact h141.2.2.2.1)
    have qM139 := po_f gn ((faQ gf gn 2) gi).2.2 (M139.1 78 5).toInt (psX M139) (by omega)
    have dM139 := cs_f hM0 fM139
    have cM139 := cn_f hM0 fM139
    have u142r := li_5 gf gn (kiX M0) (byX M0) gi (M0.1 78 5).toInt (M0.1 78 6).toInt (psX M0) (M139.1 78 5).toInt (M139.1 78 6).toInt (psX M139) (by exact hp3) (by (clear cM139 dM139 qM139 bM139 h141 fM139 hM139 u101x u101j u101i u101b hret C hp3 hp2 hp1 hp0 hq6_0 hq8_0 hpr hM0; omega)) (by exact h141.2.2.2.2.1)
    have u142d := ck_i (M139.1 78 5).toInt (kiX M139) (byX M139) (lnX M139) (kiX M0) (byX M0) (lnX M0) (by omega)
    have u142c := ck_li gf gn gi (M0.1 78 5).toInt (psX M0) (M139.1 78 5).toInt (kiX M139) (byX M139) (lnX M139) (kiX M0) (byX M0) (lnX M0) (kiX M0) (byX M0) (by exact hp3) (by exact hp0) (by exact u142d) (by (clear u142d u142r dM139 qM139 bM139 h141 fM139 hM139 u101x u101b hret C hp3 hp2 hp1 hp0 hq6_0 hq8_0 hpr hM0; omega)) (by (clear u142d u142r dM139 qM139 bM139 h141 fM139 hM139 u101x u101i u101b hret C hp3 hp2 hp1 hp0 hq6_0 hq8_0 hpr hM0; omega))
    have u142t := ct_n (A := AGY) (M := M0) (N := M139) (liC gf gn (kiX M0) (byX M0) gi) (a := (M139.1 78 5).toInt) (by omega)
    have zr := (rfx_F (rfx_r M0) fM139); exact hret _ _ _ dX8_line_181 ⟨hM139, by exact ⟨u142c, ⟨cM139.2.2, ⟨(by (clear zr u142d qM139 bM139 fM139 hM139 h107 h105 u101x u101j u101i u101b hret C hp3 hp2 hp1 hp0 hq6_0 hq8_0 hpr hM0; omega)), ⟨u142t, ⟨h141.2.2.2.1, ⟨u142r, h141.2.2.2.2.2⟩⟩⟩⟩⟩⟩⟩
  · refine y_tabI C (off := 59) 63 1009 dX8_line_4 (by decide) rfl (by decide) h107 ?_
    refine j_aload_n C 0 0 dX8_line_63 rfl rfl ?_
    refine j_callVv C (d := 3) (As := []) (st := []) 78 (s_lt rfl rfl) (s_kc (c := 7) rfl rfl) (by decide) rfl (s1_X8_buyerLine hM0 hpr hq6_0 gf gn gi (by exact hp0) (by (clear u101x u101j u101i u101b hret C hp3 hp2 hp1 hp0 hq6_0 hq8_0 hpr hM0; omega)) (by exact hp2) (by exact hp3)) gX8_line_X8_buyerLine rfl hdX8_buyerLine (by decide) (Nat.le_of_ble_eq_true rfl) dX8_line_64 rfl (fun M144 h145 => ?_)
    obtain ⟨hM144, h146⟩ := h145
    have bM144 := tkx_b (f := gf) (n := gn) (M := M144) (by exact h146.2.2.2.2.2.2.1)
    refine j_goto C 181 dX8_line_67 (by decide) ?_
    have u147r := li_2 gf gn (kiX M0) (byX M0) gi (M0.1 78 5).toInt (M0.1 78 6).toInt (psX M0) (M144.1 78 5).toInt (M144.1 78 6).toInt (psX M144) (by exact hp3) (by (clear bM144 h146 hM144 u101x u101j u101i u101b hret C hp3 hp2 hp1 hp0 hq6_0 hq8_0 hpr hM0; omega)) (by exact h146.2.2.2.2.2.2.2.1)
    have u147c := ck_li gf gn gi (M0.1 78 5).toInt (psX M0) (M144.1 78 5).toInt (kiX M144) (byX M144) (lnX M144) (kiX M0) (byX M0) (lnX M0) (kiX M0) (byX M0 + 1) (by exact hp3) (by exact hp0) (by exact h146.1) (by (clear u147r bM144 hM144 u101x u101b hret C hp3 hp2 hp1 hp0 hq6_0 hq8_0 hpr hM0; omega)) (by (clear u147r bM144 hM144 u101x u101i u101b hret C hp3 hp2 hp1 hp0 hq6_0 hq8_0 hpr hM0; omega))
    have u147y : ¬ (M144.1 78 5).toInt = 0 ∨ byX M0 < 6 := by exact h146.2.2.2.2.2.1
    have u147t : b01 (CT AGY (M144.1 78 5).toInt M0 M144 (liC gf gn (kiX M0) (byX M0) gi)) = 1 := li_c1 gf gn (if z : (M144.1 78 5).toInt = 0 then ct_x (show b01 (CT AGC (M144.1 78 5).toInt M0 M144 (buC gf gn (byX M0) gi)) = 1 by exact h146.2.2.2.2.1) (buC_k gf gn (by exact ⟨u101x.2.1, (by (clear u147c u147r bM144 h146 hM144 h107 h105 u101j u101i u101b hret C hp3 hp2 hp1 hp0 hq6_0 hq8_0 hpr hM0; omega))⟩) gi) else ct_n _ z) (show b01 (PO gn gi (M0.1 78 5).toInt (psX M0)) = 1 by exact hp3) (by exact hp0) (Or.inr (Or.inl ⟨by omega, rfl⟩))
    have zr := (rfx_t (rfx_r M0) (show b01 (RFX M0 M144) = 1 by exact h146.2.2.2.2.2.2.2.2)); exact hret _ _ _ dX8_line_181 ⟨hM144, by exact ⟨u147c, ⟨h146.2.1, ⟨(by (clear zr u147y bM144 hM144 h107 h105 u101x u101j u101i u101b hret C hp3 hp2 hp1 hp0 hq6_0 hq8_0 hpr hM0; omega)), ⟨u147t, ⟨h146.2.2.2.2.2.2.1, ⟨u147r, h146.2.2.2.2.2.2.2.2⟩⟩⟩⟩⟩⟩⟩
  · refine y_tabI C (off := 66) 70 1010 dX8_line_4 (by decide) rfl (by decide) h107 ?_
    refine j_aload_n C 0 0 dX8_line_70 rfl rfl ?_
    refine j_dup C dX8_line_71 rfl ?_
    refine y_getI C 7 _ _ fX8_line_18 rfl rfl ft_7_2 sb_7_2 hM0 dX8_line_72 (fun a148 ea148 la148 ua148 => ?_)
    refine y_iconst C dX8_line_75 ?_
    refine y_iadd C dX8_line_76 ?_
    refine y_putI C 7 _ _ qX8_line_18 rfl rfl ft_7_2 sb_7_2 hM0 (PX.w hpr rfl rfl) dX8_line_77 (by (clear ua148 la148 h107 h105 u101x u101j u101i hret C hp3 hp2 hp1 hp0 hq6_0 hq8_0 hpr hM0; omega)) (fun M150 eM150 hM150 => ?_)
    have xM150 := tkx_j (f := gf) (n := gn) (gi := gi) eM150 (by exact hp2) (by exact ea148) (by (clear hM150 eM150 ua148 la148 ea148 u101x u101j u101i u101b hret C hp3 hp2 hp1 hp0 hq6_0 hq8_0 hpr hM0; omega)) (by exact hp3)
    have dM150 := cs_w hM0 (c := 7) rfl eM150 (by decide)
    have gM150 := s_wr eM150 (by (clear dM150 xM150 hM150 eM150 ua148 la148 h107 h105 u101x u101j u101i hret C hp3 hp2 hp1 hp0 hq6_0 hq8_0 hpr hM0; omega))
    have cM150 := cn_w hM0 (c := 7) rfl eM150 (by decide)
    refine j_aload_n C 0 0 dX8_line_80 rfl rfl ?_
    refine y_sipush C dX8_line_81 rfl ?_
    refine j_callVv C (d := 1) (As := [.int (sI 2058)]) (st := []) 78 (s_lt rfl rfl) (s_kc (c := 7) rfl rfl) (by decide) rfl (s1_X8_expect hM150 hpr 2058 (by exact ⟨(by decide), (by decide)⟩) gf gn (nxF gf gn gi) (by exact (by decide)) (by exact (by decide)) (by exact xM150.1) (by exact xM150.2.2.2)) gX8_line_X8_expect rfl hdX8_expect (by decide) (Nat.le_of_ble_eq_true rfl) dX8_line_84 rfl (fun M152 h153 => ?_)
    obtain ⟨hM152, fM152, h154⟩ := h153
    have bM152 := tkx_b (f := gf) (n := gn) (M := M152) (by exact h154.2.1)
    have qM152 := po_rr (exP gf gn 2058) gn (nxF gf gn gi) (M150.1 78 5).toInt (M150.1 78 6).toInt (psX M150) (M152.1 78 5).toInt (M152.1 78 6).toInt (psX M152) (ex_g gf gn 2058 (by exact (by decide))) (by exact xM150.2.2.2) (by exact h154.2.2.1)
    have dM152 := cs_f hM150 fM152
    have cM152 := cn_f hM150 fM152
    refine j_aload_n C 0 0 dX8_line_87 rfl rfl ?_
    refine y_getM C 7 6 fX8_line_28 rfl rfl ft_7_3 sm_7_3 (by decide) hM152 dX8_line_88 (fun v155 ev155 cv155 => ?_)
    refine j_aload_n C 0 0 dX8_line_91 rfl rfl ?_
    refine y_getV C 7 v155 fX8_line_28 rfl rfl ft_7_3 (ev155) dX8_line_92 ?_
    refine y_getI C 6 _ _ fX8_line_93 cv155 rfl ft_6_6 sb_6_6 hM152 dX8_line_95 (fun a156 ea156 la156 ua156 => ?_)
    have qa156 : a156 = (M0.1 v155 6).toInt := s_fb eM150 (by decide) (s_fF fM152 (s_nin cv155 (by decide)) (ea156))
    have u158c := cs_r (ev155)
    refine y_putI C 6 _ _ qX8_line_96 cv155 rfl ft_6_7 sb_6_7 hM152 (PX.w hpr cv155 rfl) dX8_line_98 (by exact ⟨⟨(by (clear u158c cv155 ev155 cM152 dM152 qM152 bM152 h154 fM152 hM152 cM150 gM150 dM150 xM150 hM150 eM150 ua148 la148 ea148 h107 h105 u101x u101j u101i u101b hret C hp3 hp2 hp1 hp0 hq6_0 hq8_0 hpr hM0; omega)), (by (clear u158c cv155 ev155 cM152 dM152 qM152 bM152 h154 fM152 hM152 cM150 gM150 dM150 xM150 hM150 eM150 ua148 la148 ea148 h107 h105 u101x u101j u101i u101b hret C hp3 hp2 hp1 hp0 hq6_0 hq8_0 hpr hM0; omega))⟩, ⟨la156, ua156⟩⟩) (fun M159 eM159 hM159 => ?_)
    have xM159 := tkx_w (f := gf) (n := gn) eM159 (s_ne (c := 31) (d := 6) rfl cv155 (by decide)) (s_ne (c := 32) (d := 6) rfl cv155 (by decide)) (s_ne (c := 7) (d := 6) rfl cv155 (by decide)) (by exact h154.2.1)
    have qM159 := po_eq gn ((exP gf gn 2058) (nxF gf gn gi)).2.2 (M152.1 78 5).toInt (psX M152) (M159.1 78 5).toInt (psX M159) (by exact qM152) (by exact xM159.2.2.1) (by exact xM159.2.1)
    have dM159 := cs_w hM152 (c := 6) cv155 eM159 (by decide)
    have gM159 : (M159.1 78 2).toInt = (M152.1 78 2).toInt := by rw [wc_x eM159 (s_ne (c := 7) (d := 6) rfl cv155 (by decide))]
    have cM159 := cn_w hM152 (c := 6) cv155 eM159 (by decide)
    refine j_aload_n C 0 0 dX8_line_101 rfl rfl ?_
    refine y_iconst C dX8_line_102 ?_
    obtain ⟨prz160, Kzz160, hprz160, hz160, hnez160, hbkz160⟩ := fzXs [6, 7, 8] hpr hM159
    refine j_callVv C (d := 23) (As := [.int (sI 0)]) (st := []) 78 (s_lt rfl rfl) (s_kc (c := 7) rfl rfl) (by decide) rfl (s8_X8_sum hz160 hprz160 gf gn ((exP gf gn 2058) (nxF gf gn gi)).2.2 (by (clear hbkz160 hnez160 hz160 hprz160 cM159 qM159 xM159 hM159 eM159 ua156 la156 cv155 ev155 cM152 qM152 bM152 fM152 hM152 cM150 xM150 hM150 eM150 ua148 la148 h107 h105 u101x u101j u101i u101b hret C hp3 hp2 hp0 hq6_0 hq8_0 hpr hM0; omega)) (by exact xM159.1) (by exact qM159)) gX8_line_X8_sum rfl hdX8_sum (by decide) (Nat.le_of_ble_eq_true rfl) dX8_line_103 rfl (fun M162 h163 => ?_)
    obtain ⟨hM162, h164⟩ := h163
    have zbM162 := (hbkz160 _ hM162).2
    have hM162 := (hbkz160 _ hM162).1
    have bM162 := tkx_b (f := gf) (n := gn) (M := M162) (by exact h164.2.2.1)
    have qM162 := po_rr (suR gf gn 6) gn ((exP gf gn 2058) (nxF gf gn gi)).2.2 (M159.1 78 5).toInt (M159.1 78 6).toInt (psX M159) (M162.1 78 5).toInt (M162.1 78 6).toInt (psX M162) (suR_g gf gn 6) (by exact qM159) (by exact h164.2.2.2.1)
    have cM162 := cn_z (cs := [6, 7, 8]) rfl rfl rfl hM159 zbM162
    refine j_aload_n C 0 0 dX8_line_106 rfl rfl ?_
    refine y_getM C 7 6 fX8_line_28 rfl rfl ft_7_3 sm_7_3 (by decide) hM162 dX8_line_107 (fun v165 ev165 cv165 => ?_)
    refine j_aload_n C 0 0 dX8_line_110 rfl rfl ?_
    refine y_getV C 7 v165 fX8_line_28 rfl rfl ft_7_3 (ev165) dX8_line_111 ?_
    refine y_getI C 6 _ _ fX8_line_93 cv165 rfl ft_6_6 sb_6_6 hM162 dX8_line_114 (fun a166 ea166 la166 ua166 => ?_)
    have u168c := cs_r (ev165)
    refine y_putI C 6 _ _ qX8_line_102 cv165 rfl ft_6_8 sb_6_8 hM162 (PX.w hpr cv165 rfl) dX8_line_117 (by omega) (fun M169 eM169 hM169 => ?_)
    have xM169 := tkx_w (f := gf) (n := gn) eM169 (s_ne (c := 31) (d := 6) rfl cv165 (by decide)) (s_ne (c := 32) (d := 6) rfl cv165 (by decide)) (s_ne (c := 7) (d := 6) rfl cv165 (by decide)) (by exact h164.2.2.1)
    have qM169 := po_eq gn ((suR gf gn 6) ((exP gf gn 2058) (nxF gf gn gi)).2.2).2.2 (M162.1 78 5).toInt (psX M162) (M169.1 78 5).toInt (psX M169) (by exact qM162) (by exact xM169.2.2.1) (by exact xM169.2.1)
    have dM169 := cs_w hM162 (c := 6) cv165 eM169 (by decide)
    have gM169 : (M169.1 78 2).toInt = (M162.1 78 2).toInt := by rw [wc_x eM169 (s_ne (c := 7) (d := 6) rfl cv165 (by decide))]
    have cM169 := cn_w hM162 (c := 6) cv165 eM169 (by decide)
    refine j_goto C 181 dX8_line_120 (by decide) ?_
    have u170w := wa_1 gf gn gi (M0.1 78 5).toInt (M0.1 78 6).toInt (M150.1 78 5).toInt (M150.1 78 6).toInt (M152.1 78 5).toInt (M152.1 78 6).toInt (psX M152) (M159.1 78 5).toInt (M159.1 78 6).toInt (M162.1 78 5).toInt (M162.1 78 6).toInt (psX M162) (M169.1 78 5).toInt (M169.1 78 6).toInt (psX M169) (by exact xM150.2.1) (by exact xM150.2.2.1) (by exact h154.2.2.1) (by exact xM159.2.2.1) (by exact xM159.2.2.2) (by exact h164.2.2.2.1) (by exact xM169.2.2.1) (by exact xM169.2.2.2) (by exact xM169.2.1)
    have u170r := li_3 gf gn (kiX M0) (byX M0) gi (M0.1 78 5).toInt (M0.1 78 6).toInt (psX M0) (M169.1 78 5).toInt (M169.1 78 6).toInt (psX M169) (by exact hp3) (by omega) (by exact u170w)
    have u170d := ck_i (M169.1 78 5).toInt (kiX M169) (byX M169) (lnX M169) (kiX M0) (byX M0) (lnX M0) (by omega)
    have u170c := ck_li gf gn gi (M0.1 78 5).toInt (psX M0) (M169.1 78 5).toInt (kiX M169) (byX M169) (lnX M169) (kiX M0) (byX M0) (lnX M0) (kiX M0) (byX M0) (by exact hp3) (by exact hp0) (by exact u170d) (by omega) (by omega)
    have u170t : b01 (CT AGY (M169.1 78 5).toInt M0 M169 (liC gf gn (kiX M0) (byX M0) gi)) = 1 := li_c1 gf gn (law_x (a := (M169.1 78 5).toInt) (x := a156) (y := a166) (p := v155) (p' := v165) (M := M0) (M2 := M152) (M3 := M159) (M4 := M162) (N := M169) (L := (sLR gf gn 6 ((exP gf gn 2058 (nxF gf gn gi)).2.2))) 0 (by exact (by decide)) (fun q T h => (agc_F fM152 q T (agc_78 eM150 q T h))) (ev155) eM159 (by omega) (show b01 (CL AGC (M169.1 78 5).toInt M159 M162 (sLR gf gn 6 ((exP gf gn 2058 (nxF gf gn gi)).2.2))) = 1 from by rw [show (M169.1 78 5).toInt = (M162.1 78 5).toInt by exact xM169.2.2.1]; exact h164.2.1) (ev165) eM169 (by omega)) (show b01 (PO gn gi (M0.1 78 5).toInt (psX M0)) = 1 by exact hp3) (by exact hp0) (Or.inr (Or.inr (Or.inl ⟨by omega, rfl⟩)))
    have zz78_2 : (M169.1 78 2).toInt = (M162.1 78 2).toInt := s_fb eM169 (by decide) (rfl); have zz78_5 : (M169.1 78 5).toInt = (M162.1 78 5).toInt := s_fb eM169 (by decide) (rfl); have zz78_6 : (M169.1 78 6).toInt = (M162.1 78 6).toInt := s_fb eM169 (by decide) (rfl); have zr := (rfx_p (c := v165) (rfx_t (rfx_p (c := v155) (rfx_F (rfx_i (rfx_r M0) eM150 (by decide)) fM152) eM159 (ev155) (by simp)) (show b01 (RFX M159 M162) = 1 by exact h164.2.2.2.2)) eM169 (ev165) (by simp)); exact hret _ _ _ dX8_line_181 ⟨hM169, by omega⟩
  · refine y_tabI C (off := 119) 123 1011 dX8_line_4 (by decide) rfl (by decide) h107 ?_
    refine j_aload_n C 0 0 dX8_line_123 rfl rfl ?_
    refine j_dup C dX8_line_124 rfl ?_
    refine y_getI C 7 _ _ fX8_line_18 rfl rfl ft_7_2 sb_7_2 hM0 dX8_line_125 (fun a171 ea171 la171 ua171 => ?_)
    refine y_iconst C dX8_line_128 ?_
    refine y_iadd C dX8_line_129 ?_
    refine y_putI C 7 _ _ qX8_line_18 rfl rfl ft_7_2 sb_7_2 hM0 (PX.w hpr rfl rfl) dX8_line_130 (by omega) (fun M173 eM173 hM173 => ?_)
    have xM173 := tkx_j (f := gf) (n := gn) (gi := gi) eM173 (by exact hp2) (by exact ea171) (by omega) (by exact hp3)
    have dM173 := cs_w hM0 (c := 7) rfl eM173 (by decide)
    have gM173 := s_wr eM173 (by omega)
    have cM173 := cn_w hM0 (c := 7) rfl eM173 (by decide)
    refine j_aload_n C 0 0 dX8_line_133 rfl rfl ?_
    refine y_sipush C dX8_line_134 rfl ?_
    refine j_callVv C (d := 1) (As := [.int (sI 2058)]) (st := []) 78 (s_lt rfl rfl) (s_kc (c := 7) rfl rfl) (by decide) rfl (s1_X8_expect hM173 hpr 2058 (by exact ⟨(by decide), (by decide)⟩) gf gn (nxF gf gn gi) (by exact (by decide)) (by exact (by decide)) (by exact xM173.1) (by exact xM173.2.2.2)) gX8_line_X8_expect rfl hdX8_expect (by decide) (Nat.le_of_ble_eq_true rfl) dX8_line_137 rfl (fun M175 h176 => ?_)
    obtain ⟨hM175, fM175, h177⟩ := h176
    have bM175 := tkx_b (f := gf) (n := gn) (M := M175) (by exact h177.2.1)
    have qM175 := po_rr (exP gf gn 2058) gn (nxF gf gn gi) (M173.1 78 5).toInt (M173.1 78 6).toInt (psX M173) (M175.1 78 5).toInt (M175.1 78 6).toInt (psX M175) (ex_g gf gn 2058 (by exact (by decide))) (by exact xM173.2.2.2) (by exact h177.2.2.1)
    have dM175 := cs_f hM173 fM175
    have cM175 := cn_f hM173 fM175
    refine j_aload_n C 0 0 dX8_line_140 rfl rfl ?_
    refine y_getM C 7 6 fX8_line_28 rfl rfl ft_7_3 sm_7_3 (by decide) hM175 dX8_line_141 (fun v178 ev178 cv178 => ?_)
    refine j_aload_n C 0 0 dX8_line_144 rfl rfl ?_
    refine y_getV C 7 v178 fX8_line_28 rfl rfl ft_7_3 (ev178) dX8_line_145 ?_
    refine y_getI C 6 _ _ fX8_line_93 cv178 rfl ft_6_6 sb_6_6 hM175 dX8_line_148 (fun a179 ea179 la179 ua179 => ?_)
    have qa179 : a179 = (M0.1 v178 6).toInt := s_fb eM173 (by decide) (s_fF fM175 (s_nin cv178 (by decide)) (ea179))
    have u181c := cs_r (ev178)
    refine y_putI C 6 _ _ qX8_line_105 cv178 rfl ft_6_9 sb_6_9 hM175 (PX.w hpr cv178 rfl) dX8_line_151 (by exact ⟨⟨(by (clear u181c cv178 ev178 cM175 dM175 qM175 bM175 h177 fM175 hM175 cM173 gM173 dM173 xM173 hM173 eM173 ua171 la171 ea171 h107 h105 u101x u101j u101i u101b hret C hp3 hp2 hp1 hp0 hq6_0 hq8_0 hpr hM0; omega)), (by (clear u181c cv178 ev178 cM175 dM175 qM175 bM175 h177 fM175 hM175 cM173 gM173 dM173 xM173 hM173 eM173 ua171 la171 ea171 h107 h105 u101x u101j u101i u101b hret C hp3 hp2 hp1 hp0 hq6_0 hq8_0 hpr hM0; omega))⟩, ⟨la179, ua179⟩⟩) (fun M182 eM182 hM182 => ?_)
    have xM182 := tkx_w (f := gf) (n := gn) eM182 (s_ne (c := 31) (d := 6) rfl cv178 (by decide)) (s_ne (c := 32) (d := 6) rfl cv178 (by decide)) (s_ne (c := 7) (d := 6) rfl cv178 (by decide)) (by exact h177.2.1)
    have qM182 := po_eq gn ((exP gf gn 2058) (nxF gf gn gi)).2.2 (M175.1 78 5).toInt (psX M175) (M182.1 78 5).toInt (psX M182) (by exact qM175) (by exact xM182.2.2.1) (by exact xM182.2.1)
    have dM182 := cs_w hM175 (c := 6) cv178 eM182 (by decide)
    have gM182 : (M182.1 78 2).toInt = (M175.1 78 2).toInt := by rw [wc_x eM182 (s_ne (c := 7) (d := 6) rfl cv178 (by decide))]
    have cM182 := cn_w hM175 (c := 6) cv178 eM182 (by decide)
    refine j_aload_n C 0 0 dX8_line_154 rfl rfl ?_
    refine y_iconst C dX8_line_155 ?_
    obtain ⟨prz183, Kzz183, hprz183, hz183, hnez183, hbkz183⟩ := fzXs [6, 7, 8] hpr hM182
    refine j_callVv C (d := 26) (As := [.int (sI 0)]) (st := []) 78 (s_lt rfl rfl) (s_kc (c := 7) rfl rfl) (by decide) rfl (s8_X8_truth hz183 hprz183 gf gn ((exP gf gn 2058) (nxF gf gn gi)).2.2 (by omega) (by exact xM182.1) (by exact qM182)) gX8_line_X8_truth rfl hdX8_truth (by decide) (Nat.le_of_ble_eq_true rfl) dX8_line_156 rfl (fun M185 h186 => ?_)
    obtain ⟨hM185, h187⟩ := h186
    have zbM185 := (hbkz183 _ hM185).2
    have hM185 := (hbkz183 _ hM185).1
    have bM185 := tkx_b (f := gf) (n := gn) (M := M185) (by exact h187.2.2.1)
    have qM185 := po_rr (trP gf gn (unR gf gn 6)) gn ((exP gf gn 2058) (nxF gf gn gi)).2.2 (M182.1 78 5).toInt (M182.1 78 6).toInt (psX M182) (M185.1 78 5).toInt (M185.1 78 6).toInt (psX M185) (tr_g gf gn (unR_g gf gn 6)) (by exact qM182) (by exact h187.2.2.2.1)
    have cM185 := cn_z (cs := [6, 7, 8]) rfl rfl rfl hM182 zbM185
    refine j_aload_n C 0 0 dX8_line_159 rfl rfl ?_
    refine y_getM C 7 6 fX8_line_28 rfl rfl ft_7_3 sm_7_3 (by decide) hM185 dX8_line_160 (fun v188 ev188 cv188 => ?_)
    refine j_aload_n C 0 0 dX8_line_163 rfl rfl ?_
    refine y_getV C 7 v188 fX8_line_28 rfl rfl ft_7_3 (ev188) dX8_line_164 ?_
    refine y_getI C 6 _ _ fX8_line_93 cv188 rfl ft_6_6 sb_6_6 hM185 dX8_line_167 (fun a189 ea189 la189 ua189 => ?_)
    have u191c := cs_r (ev188)
    refine y_putI C 6 _ _ qX8_line_111 cv188 rfl ft_6_10 sb_6_10 hM185 (PX.w hpr cv188 rfl) dX8_line_170 (by omega) (fun M192 eM192 hM192 => ?_)
    have xM192 := tkx_w (f := gf) (n := gn) eM192 (s_ne (c := 31) (d := 6) rfl cv188 (by decide)) (s_ne (c := 32) (d := 6) rfl cv188 (by decide)) (s_ne (c := 7) (d := 6) rfl cv188 (by decide)) (by exact h187.2.2.1)
    have qM192 := po_eq gn ((trP gf gn (unR gf gn 6)) ((exP gf gn 2058) (nxF gf gn gi)).2.2).2.2 (M185.1 78 5).toInt (psX M185) (M192.1 78 5).toInt (psX M192) (by exact qM185) (by exact xM192.2.2.1) (by exact xM192.2.1)
    have dM192 := cs_w hM185 (c := 6) cv188 eM192 (by decide)
    have gM192 : (M192.1 78 2).toInt = (M185.1 78 2).toInt := by rw [wc_x eM192 (s_ne (c := 7) (d := 6) rfl cv188 (by decide))]
    have cM192 := cn_w hM185 (c := 6) cv188 eM192 (by decide)
    refine j_goto C 181 dX8_line_173 (by decide) ?_
    have u193w := le_1 gf gn gi (M0.1 78 5).toInt (M0.1 78 6).toInt (M173.1 78 5).toInt (M173.1 78 6).toInt (M175.1 78 5).toInt (M175.1 78 6).toInt (psX M175) (M182.1 78 5).toInt (M182.1 78 6).toInt (M185.1 78 5).toInt (M185.1 78 6).toInt (psX M185) (M192.1 78 5).toInt (M192.1 78 6).toInt (psX M192) (by exact xM173.2.1) (by exact xM173.2.2.1) (by exact h177.2.2.1) (by exact xM182.2.2.1) (by exact xM182.2.2.2) (by exact h187.2.2.2.1) (by exact xM192.2.2.1) (by exact xM192.2.2.2) (by exact xM192.2.1)
    have u193r := li_4 gf gn (kiX M0) (byX M0) gi (M0.1 78 5).toInt (M0.1 78 6).toInt (psX M0) (M192.1 78 5).toInt (M192.1 78 6).toInt (psX M192) (by exact hp3) (by omega) (by exact u193w)
    have u193d := ck_i (M192.1 78 5).toInt (kiX M192) (byX M192) (lnX M192) (kiX M0) (byX M0) (lnX M0) (by omega)
    have u193c := ck_li gf gn gi (M0.1 78 5).toInt (psX M0) (M192.1 78 5).toInt (kiX M192) (byX M192) (lnX M192) (kiX M0) (byX M0) (lnX M0) (kiX M0) (byX M0) (by exact hp3) (by exact hp0) (by exact u193d) (by omega) (by omega)
    have u193t : b01 (CT AGY (M192.1 78 5).toInt M0 M192 (liC gf gn (kiX M0) (byX M0) gi)) = 1 := li_c1 gf gn (law_x (a := (M192.1 78 5).toInt) (x := a179) (y := a189) (p := v178) (p' := v188) (M := M0) (M2 := M175) (M3 := M182) (M4 := M185) (N := M192) (L := (trL gf gn (unR gf gn 6) (uLR gf gn 6) ((exP gf gn 2058 (nxF gf gn gi)).2.2))) 1 (by exact (by decide)) (fun q T h => (agc_F fM175 q T (agc_78 eM173 q T h))) (ev178) eM182 (by omega) (show b01 (CL AGC (M192.1 78 5).toInt M182 M185 (trL gf gn (unR gf gn 6) (uLR gf gn 6) ((exP gf gn 2058 (nxF gf gn gi)).2.2))) = 1 from by rw [show (M192.1 78 5).toInt = (M185.1 78 5).toInt by exact xM192.2.2.1]; exact h187.2.1) (ev188) eM192 (by omega)) (show b01 (PO gn gi (M0.1 78 5).toInt (psX M0)) = 1 by exact hp3) (by exact hp0) (Or.inr (Or.inr (Or.inr ⟨by omega, rfl⟩)))
    have zz78_2 : (M192.1 78 2).toInt = (M185.1 78 2).toInt := s_fb eM192 (by decide) (rfl); have zz78_5 : (M192.1 78 5).toInt = (M185.1 78 5).toInt := s_fb eM192 (by decide) (rfl); have zz78_6 : (M192.1 78 6).toInt = (M185.1 78 6).toInt := s_fb eM192 (by decide) (rfl); have zr := (rfx_p (c := v188) (rfx_t (rfx_p (c := v178) (rfx_F (rfx_i (rfx_r M0) eM173 (by decide)) fM175) eM182 (ev178) (by simp)) (show b01 (RFX M182 M185) = 1 by exact h187.2.2.2.2)) eM192 (ev188) (by simp)); exact hret _ _ _ dX8_line_181 ⟨hM192, by omega⟩
set_option maxHeartbeats 4000000 in
theorem s1_X8_read {l : Launch} {dC : Nat → ClassId} {dI : Nat → Nat → Nat} {ad : Nat → Nat} {cA : Nat → ClassId} {pr : Nat → Nat → Bool} {Kz : mm_M} {M0 : mm_M} (hM0 : INV pr Kz M0) (hpr : PX pr) (hq7_3 : ∀ i, s_c i = 7 → pr i 3 = false) (hq7_4 : ∀ i, s_c i = 7 → pr i 4 = false) (hq6_0 : ∀ i, s_c i = 6 → pr i 0 = false) (hq6_1 : ∀ i, s_c i = 6 → pr i 1 = false) (hq8_0 : ∀ i, s_c i = 8 → pr i 0 = false) (a2 : Int) (ha2 : -2147483648 ≤ a2 ∧ a2 ≤ 2147483647) {v3 : Nat} (cv3 : s_c v3 = 6) {v4 : Nat} (cv4 : s_c v4 = 8) (gf : Nat → Int) (gn : Int) (hp0 : gn = a2) (hp1 : b01 (TPX gf gn M0) = 1) (hp2 : 0 ≤ a2 ∧ a2 ≤ 900) : Cv l 28 yX8_read wsX8_read dC dI ad cA [.ref (ad 78), .ref (ad 1), .int (sI a2), .ref (ad v3), .ref (ad v4)] M0 (fun M' => INV pr Kz M' ∧ ((M'.1 78 5).toInt = (rdP gf gn).1 ∧ ((M'.1 78 5).toInt = 0 ∧ (M'.1 78 6).toInt = -1 ∧ (M'.1 v3 1).toInt = (rdP gf gn).2.2 ∨ ¬ (M'.1 78 5).toInt = 0 ∧ (M'.1 78 6).toInt = (rdP gf gn).2.1)) ∧ (b01 (RDX AGY (M'.1 78 5).toInt gf gn M') = 1) ∧ (b01 (RDF M0 M' v3 v4) = 1)) := by
  refine cv_of (cc := cX8_read) (maxL := 6) (lv := [(0, .ref (ad 78)), (1, .ref (ad 1)), (2, .int (sI a2)), (3, .ref (ad v3)), (4, .ref (ad v4))]) (by decide) rfl (Nat.le_of_ble_eq_true rfl) rfl ?_
  intro p e s m args below meth c A Q C hret
  refine j_aload_n C 0 0 dX8_read_0 rfl rfl ?_
  refine j_aload_n C 3 3 dX8_read_1 rfl rfl ?_
  refine y_putP C 7 6 qX8_read_28 rfl rfl rfl rfl ft_7_3 sm_7_3 (by decide) hM0 (hq7_3 _ rfl) cv3 dX8_read_2 (fun M101 eM101 hM101 => ?_)
  refine j_aload_n C 0 0 dX8_read_5 rfl rfl ?_
  refine j_aload C 4 dX8_read_6 rfl ?_
  refine y_putP C 7 8 qX8_read_32 rfl rfl rfl rfl ft_7_4 sm_7_4 (by decide) hM101 (hq7_4 _ rfl) cv4 dX8_read_8 (fun M102 eM102 hM102 => ?_)
  have u1033 := s_pP eM102 (by decide) (s_pW eM101)
  have u1034 := s_pW eM102
  have u103t := tp_c (f := gf) (n := gn) (M := M0) (M' := M102) (by rw [eM102, eM101]) (by exact hp1)
  refine j_aload_n C 0 0 dX8_read_11 rfl rfl ?_
  refine y_getV C 7 v3 fX8_read_28 rfl rfl ft_7_3 (s_pP eM102 (by decide) (s_pW eM101)) dX8_read_12 ?_
  obtain ⟨prz104, Kzz104, hprz104, hz104, hnez104, hbkz104⟩ := fzXs [7, 8, 20] hpr hM102
  refine j_callVv C (d := 0) (As := []) (st := []) v3 (s_lt cv3 rfl) (s_kc (c := 6) cv3 rfl) (by decide) rfl (s1_X7_clear hz104 hprz104 (fun i h => hnez104 i 0 (by rw [h]; rfl) (hq6_0 i h)) (fun i h => hnez104 i 1 (by rw [h]; rfl) (hq6_1 i h)) cv3) gX8_read_X7_clear rfl hdX7_clear (by decide) (Nat.le_of_ble_eq_true rfl) dX8_read_15 rfl (fun M106 h107 => ?_)
  obtain ⟨hM106, h108⟩ := h107
  have zbM106 := (hbkz104 _ hM106).2
  have hM106 := (hbkz104 _ hM106).1
  have u109r := (zbM106 78 3 rfl rfl).2
  have u109s := (zbM106 78 4 rfl rfl).2
  have u109t := tp_c (f := gf) (n := gn) (M := M102) (M' := M106) (funext fun k => (zbM106 1 k rfl (by show px 20 k = false; rfl)).1) (by exact u103t)
  have u109b := by_r (M := M106) (v := v3) (by omega)
  have u109l := ln_r (M := M106) (v := v3) (by omega)
  refine j_aload_n C 0 0 dX8_read_18 rfl rfl ?_
  refine y_getM C 7 8 fX8_read_32 rfl rfl ft_7_4 sm_7_4 (by decide) hM106 dX8_read_19 (fun v110 ev110 cv110 => ?_)
  obtain ⟨prz111, Kzz111, hprz111, hz111, hnez111, hbkz111⟩ := fzXs [6, 7, 20] hpr hM106
  refine j_callVv C (d := 0) (As := []) (st := []) v110 (s_lt cv110 rfl) (s_kc (c := 8) cv110 rfl) (by decide) rfl (s1_X9_clear hz111 hprz111 (fun i h => hnez111 i 0 (by rw [h]; rfl) (hq8_0 i h)) cv110) gX8_read_X9_clear rfl hdX9_clear (by decide) (Nat.le_of_ble_eq_true rfl) dX8_read_22 rfl (fun M113 h114 => ?_)
  obtain ⟨hM113, h115⟩ := h114
  have zbM113 := (hbkz111 _ hM113).2
  have hM113 := (hbkz111 _ hM113).1
  have u116r := (zbM113 78 3 rfl rfl).2
  have u116s := (zbM113 78 4 rfl rfl).2
  have u116t := tp_c (f := gf) (n := gn) (M := M106) (M' := M113) (funext fun k => (zbM113 1 k rfl (by show px 20 k = false; rfl)).1) (by exact u109t)
  have u116k := ki_r (M := M113) (v := v110) (by omega)
  have u116b := by_r (M := M113) (v := v3) (by omega)
  have u116l := ln_r (M := M113) (v := v3) (by omega)
  have u1160 := congrArg Int32.toInt (zbM113 v3 0 (by rw [cv3]; rfl) (by rw [cv3]; rfl)).1
  have u1161 := congrArg Int32.toInt (zbM113 v3 1 (by rw [cv3]; rfl) (by rw [cv3]; rfl)).1
  refine j_aload_n C 0 0 dX8_read_25 rfl rfl ?_
  refine j_aload_n C 1 1 dX8_read_26 rfl rfl ?_
  refine j_iload_n C 2 2 dX8_read_27 rfl rfl ?_
  obtain ⟨prz117, Kzz117, hprz117, hz117, hnez117, hbkz117⟩ := fzXs [6, 7, 8] hpr hM113
  refine j_callVv C (d := 6) (As := [.ref (ad 1), .int (sI a2)]) (st := []) 78 (s_lt rfl rfl) (s_kc (c := 7) rfl rfl) (by decide) rfl (s1_X8_split hz117 hprz117 a2 (by exact ⟨ha2.1, ha2.2⟩) gf gn (by exact hp0) (by exact u116t) (by exact ⟨hp2.1, hp2.2⟩)) gX8_read_X8_split rfl hdX8_split (by decide) (Nat.le_of_ble_eq_true rfl) dX8_read_28 rfl (fun M119 h120 => ?_)
  obtain ⟨hM119, fM119, h121⟩ := h120
  have zbM119 := (hbkz117 _ hM119).2
  have hM119 := (hbkz117 _ hM119).1
  have u122r := (zbM119 78 3 rfl rfl).2
  have u122c := cn_z (cs := [6, 7, 8]) rfl rfl rfl hM113 zbM119
  refine j_aload_n C 0 0 dX8_read_31 rfl rfl ?_
  refine y_iconst C dX8_read_32 ?_
  refine y_putI C 7 _ _ qX8_read_18 rfl rfl ft_7_2 sb_7_2 hM119 (PX.w hpr rfl rfl) dX8_read_33 (by exact ⟨⟨(by decide), (by decide)⟩, ⟨(by decide), (by decide)⟩⟩) (fun M123 eM123 hM123 => ?_)
  refine j_aload_n C 0 0 dX8_read_36 rfl rfl ?_
  refine y_iconst C dX8_read_37 ?_
  refine y_putI C 7 _ _ qX8_read_22 rfl rfl ft_7_5 sb_7_5 hM123 (PX.w hpr rfl rfl) dX8_read_38 (by exact ⟨⟨(by decide), (by decide)⟩, ⟨(by decide), (by decide)⟩⟩) (fun M124 eM124 hM124 => ?_)
  refine j_aload_n C 0 0 dX8_read_41 rfl rfl ?_
  refine y_iconst C dX8_read_42 ?_
  refine y_putIF C 7 qX8_read_25 rfl rfl ft_7_6 sb_7_6 hM124 (PX.w hpr rfl rfl) dX8_read_43 (fun M125 eM125 hM125 => ?_)
  have u126x := tz_x (f := gf) (n := gn) (by exact h121) eM123 eM124 eM125
  have u126a := cn_w hM124 (c := 7) rfl eM125 (by decide)
  have u126b := cn_w hM123 (c := 7) rfl eM124 (by decide)
  have u126c := cn_w hM119 (c := 7) rfl eM123 (by decide)
  have u126r : M125.2.2 78 3 = M119.2.2 78 3 := by rw [eM125, eM124, eM123]
  have u126y := tkx_b (f := gf) (n := gn) (M := M125) (by exact u126x.1)
  have u126q := po_mk gn (runE blB gf gn 0) (M125.1 78 5).toInt (psX M125) (by exact u126x.2.1) (by exact ⟨u126y.2.2.1, u126y.2.2.2⟩)
  have u1269 : v110 = v4 := by omega
  have u1260 := rd_0 (M := M0) (Ma := M101) (Mb := M102) (Mc := M106) (Md := M113) (Me := M119) (Mf := M123) (Mg := M124) (Mh := M125) (p := v3) (v := v4) eM101 eM102 (by exact h108.2.1) (by rw [← u1269]; exact h115.2.1) fM119 eM123 eM124 eM125 cv3 cv4 (by exact ⟨h108.1.1, ⟨h108.1.2, ⟨h108.2.2.2.2.1, ⟨h108.2.2.2.2.2.1, ⟨h108.2.2.2.2.2.2.1, ⟨h108.2.2.2.2.2.2.2.1, h108.2.2.2.2.2.2.2.2⟩⟩⟩⟩⟩⟩) (by rw [← u1269]; exact ⟨h115.1, ⟨h115.2.2.2.1, ⟨h115.2.2.2.2.1, ⟨h115.2.2.2.2.2.1, ⟨h115.2.2.2.2.2.2.1, h115.2.2.2.2.2.2.2.2⟩⟩⟩⟩⟩)
  have u126c : csX M125 = 0 := by
    obtain ⟨q, z1, z2⟩ := u1260.1
    exact z1.1.1.2.2.1
  have u126g := tkx_b (f := gf) (n := gn) (M := M125) (by exact u126x.1)
  refine j_aload_n C 0 0 dX8_read_46 rfl rfl ?_
  refine y_sipush C dX8_read_47 rfl ?_
  refine j_callVv C (d := 1) (As := [.int (sI 1008)]) (st := []) 78 (s_lt rfl rfl) (s_kc (c := 7) rfl rfl) (by decide) rfl (s1_X8_expect hM125 hpr 1008 (by exact ⟨(by decide), (by decide)⟩) gf gn (runE blB gf gn 0) (by exact (by decide)) (by exact (by decide)) (by exact u126x.1) (by exact u126q)) gX8_read_X8_expect rfl hdX8_expect (by decide) (Nat.le_of_ble_eq_true rfl) dX8_read_50 rfl (fun M128 h129 => ?_)
  obtain ⟨hM128, fM128, h130⟩ := h129
  have bM128 := tkx_b (f := gf) (n := gn) (M := M128) (by exact h130.2.1)
  have qM128 := po_rr (exP gf gn 1008) gn (runE blB gf gn 0) (M125.1 78 5).toInt (M125.1 78 6).toInt (psX M125) (M128.1 78 5).toInt (M128.1 78 6).toInt (psX M128) (ex_g gf gn 1008 (by exact (by decide))) (by exact u126q) (by exact h130.2.2.1)
  have dM128 := cs_f hM125 fM128
  have cM128 := cn_f hM125 fM128
  have u131r : M128.2.2 78 3 = M125.2.2 78 3 := by rw [fM128.2.1]
  refine j_aload_n C 0 0 dX8_read_53 rfl rfl ?_
  obtain ⟨prz132, Kzz132, hprz132, hz132, hnez132, hbkz132⟩ := fzXs [7, 8] hpr hM128
  refine j_callVv C (d := 2) (As := []) (st := []) 78 (s_lt rfl rfl) (s_kc (c := 7) rfl rfl) (by decide) rfl (s1_X8_endLine hz132 hprz132 (fun i h => hnez132 i 1 (by rw [h]; rfl) (hq6_1 i h)) gf gn ((exP gf gn 1008) (runE blB gf gn 0)).2.2 (by omega) (by exact h130.2.1) (by exact qM128)) gX8_read_X8_endLine rfl hdX8_endLine (by decide) (Nat.le_of_ble_eq_true rfl) dX8_read_54 rfl (fun M134 h135 => ?_)
  obtain ⟨hM134, h136⟩ := h135
  have zbM134 := (hbkz132 _ hM134).2
  have hM134 := (hbkz132 _ hM134).1
  have bM134 := tkx_b (f := gf) (n := gn) (M := M134) (by exact h136.2.2.2.2.1)
  have qM134 := po_rr (exP gf gn 2059) gn ((exP gf gn 1008) (runE blB gf gn 0)).2.2 (M128.1 78 5).toInt (M128.1 78 6).toInt (psX M128) (M134.1 78 5).toInt (M134.1 78 6).toInt (psX M134) (ex_g gf gn 2059 (by decide)) (by exact qM128) (by exact h136.2.2.2.2.2.1)
  have u137r := (zbM134 78 3 rfl rfl).2
  refine y_iconst C dX8_read_57 ?_
  have u138l := lm_1 gf gn ((exP gf gn 2059) ((exP gf gn 1008) (runE blB gf gn 0)).2.2).2.2 (kiX M134) (byX M134) (lnX M134) (M134.1 78 5).toInt (M134.1 78 6).toInt (psX M134) (by omega) (by omega) (by omega) (by exact qM134)
  have u138x := lx_i gf gn (A := AGY) (M134.1 78 5).toInt ((exP gf gn 2059) ((exP gf gn 1008) (runE blB gf gn 0)).2.2).2.2 (kiX M134) (byX M134) M134 (by omega)
  have u138r := rfx_r M134
  refine j_istore C 5 [(5, .int (sI 0)), (0, .ref (ad 78)), (1, .ref (ad 1)), (2, .int (sI a2)), (3, .ref (ad v3)), (4, .ref (ad v4))] dX8_read_58 (by decide) rfl ?_
  have L168 : ∀ (n166 : Nat), ∀ (a169 : Int) (M170 : mm_M) (gq171 : Int), (0 ≤ a169 ∧ a169 ≤ 900 ∧ (M170.2.2 78 3 = v3) ∧ (0 ≤ lnX M170 ∧ lnX M170 ≤ a169 + 1) ∧ (b01 (LM gf gn ((exP gf gn 2059) ((exP gf gn 1008) (runE blB gf gn 0)).2.2).2.2 0 0 1 gq171 a169 (kiX M170) (byX M170) (lnX M170) (M134.1 78 5).toInt (M134.1 78 6).toInt (M170.1 78 5).toInt (M170.1 78 6).toInt (psX M170)) = 1) ∧ (b01 (LX AGY gf gn (M170.1 78 5).toInt ((exP gf gn 2059) ((exP gf gn 1008) (runE blB gf gn 0)).2.2).2.2 gq171 (kiX M170) (byX M170) M134 M170) = 1) ∧ (csX M170 ≤ (M170.1 78 2).toInt) ∧ (b01 (RFX M134 M170) = 1) ∧ (b01 (TKX gf gn M170) = 1) ∧ (b01 (PO gn gq171 (M170.1 78 5).toInt (psX M170)) = 1) ∧ (900 - a169) < (n166 : Int)) → INV pr Kz M170 → jj p l e (cn_R 28) s m args below meth c 0 0 Q 6 dC dI ad cA A M170 60 [(0, .ref (ad 78)), (5, .int (sI a169))] [] := by
    intro n166
    induction n166 with
    | zero =>
      intro a169 M170 gq171 h172 hM170
      exfalso; omega
    | succ n166 ih167 =>
      intro a169 M170 gq171 h172 hM170
      have u173b := tkx_b (f := gf) (n := gn) (M := M170) (by exact h172.2.2.2.2.2.2.2.2.1)
      have u173l := ln_r (M := M170) (v := v3) (by exact h172.2.2.1.symm)
      refine j_iload C 1 dX8_read_60 rfl ?_
      refine y_sipush C dX8_read_62 rfl ?_
      refine y_icmp_ge C 99 dX8_read_65 (by decide) (by omega) (fun h174 => ?_) (fun h174 => ?_)
      · have u197e := rd_e gf gn gq171 a169 (kiX M170) (byX M170) (lnX M170) (M125.1 78 5).toInt (M125.1 78 6).toInt (M128.1 78 5).toInt (M128.1 78 6).toInt (psX M128) (M134.1 78 5).toInt (M134.1 78 6).toInt (psX M134) (M170.1 78 5).toInt (M170.1 78 6).toInt (psX M170) 1 (by exact u126x.2.2.1) (by exact h130.2.2.1) (by exact h136.2.2.2.2.2.1) rfl (by exact h172.2.2.2.2.1) (by omega)
        have u197y : b01 (CT AGY (M170.1 78 5).toInt M134 M170 (mqC gf gn ((exP gf gn 2059) ((exP gf gn 1008) (runE blB gf gn 0)).2.2).2.2 0 0)) = 1 := lx_y (f := gf) (n := gn) (show b01 (LX AGY gf gn (M170.1 78 5).toInt ((exP gf gn 2059) ((exP gf gn 1008) (runE blB gf gn 0)).2.2).2.2 gq171 (kiX M170) (byX M170) M134 M170) = 1 by exact h172.2.2.2.2.2.1) (show b01 (LM gf gn ((exP gf gn 2059) ((exP gf gn 1008) (runE blB gf gn 0)).2.2).2.2 0 0 1 gq171 a169 (kiX M170) (byX M170) (lnX M170) (M134.1 78 5).toInt (M134.1 78 6).toInt (M170.1 78 5).toInt (M170.1 78 6).toInt (psX M170)) = 1 by exact h172.2.2.2.2.1) (by omega)
        have u197w : ¬ (M170.1 78 5).toInt = 0 ∨ AGY M134 (0, 0, 0, 0) T0 := by
          by_cases z : (M170.1 78 5).toInt = 0
          · right
            have z1 : (M134.1 78 5).toInt = 0 := lm_z (show b01 (LM gf gn ((exP gf gn 2059) ((exP gf gn 1008) (runE blB gf gn 0)).2.2).2.2 0 0 1 gq171 a169 (kiX M170) (byX M170) (lnX M170) (M134.1 78 5).toInt (M134.1 78 6).toInt (M170.1 78 5).toInt (M170.1 78 6).toInt (psX M170)) = 1 by exact h172.2.2.2.2.1) z
            have k := (b01_e (show b01 (CT AGY (M134.1 78 5).toInt M128 M134 (fun T => uT T 0 (T 0 + 1))) = 1 by exact h136.2.2.2.1)).resolve_left (fun w => w z1) (0, 0, 0, 0) (fun _ => 0) (agy_78 (agc_F fM128) _ _ u1260.1)
            have e : T0 = uT (fun _ => 0) 0 ((fun _ => (0 : Int)) 0 + 1) := rfl
            rw [e]; exact k
          · exact Or.inl z
        have u197d := rdx_i gf gn (A := AGY) (MB := M134) (M := M170) (ct_e u197y (fun z T => by
          have z1 : (M134.1 78 5).toInt = 0 := lm_z (show b01 (LM gf gn ((exP gf gn 2059) ((exP gf gn 1008) (runE blB gf gn 0)).2.2).2.2 0 0 1 gq171 a169 (kiX M170) (byX M170) (lnX M170) (M134.1 78 5).toInt (M134.1 78 6).toInt (M170.1 78 5).toInt (M170.1 78 6).toInt (psX M170)) = 1 by exact h172.2.2.2.2.1) z
          have z2 := rr_z (show b01 (RR (exP gf gn 2059 (exP gf gn 1008 (runE blB gf gn 0)).2.2) (M128.1 78 5).toInt (M128.1 78 6).toInt (M134.1 78 5).toInt (M134.1 78 6).toInt (psX M134)) = 1 by exact h136.2.2.2.2.2.1) z1
          rw [hd_e gf gn (rr_v (show b01 (RR (exP gf gn 1008 (runE blB gf gn 0)) (M125.1 78 5).toInt (M125.1 78 6).toInt (M128.1 78 5).toInt (M128.1 78 6).toInt (psX M128)) = 1 by exact h130.2.2.1) z2).1])) (0, 0, 0, 0) u197w
        have u197f := rdf_t u1260.2 (rfx_t (rfx_t (rfx_F (rfx_r M125) fM128) (show b01 (RFX M128 M134) = 1 by exact h136.2.2.2.2.2.2)) (show b01 (RFX M134 M170) = 1 by exact h172.2.2.2.2.2.2.2.1))
        exact hret _ _ _ dX8_read_99 ⟨hM170, by (clear u197w u197y h174 u173b hM170 h172 ih167 u138r u138x u138l u137r qM134 bM134 hM134 zbM134 h136 hbkz132 hnez132 hz132 hprz132 u131r cM128 dM128 qM128 bM128 h130 fM128 hM128 u126g u126c u1260 u1269 u126q u126y u126r u126b u126a hM125 eM125 hM124 eM124 hM123 eM123 u122c u122r hM119 zbM119 h121 fM119 hbkz117 hnez117 hz117 hprz117 u1161 u1160 u116l u116b u116k u116t u116s u116r hM113 zbM113 h115 hbkz111 hnez111 hz111 hprz111 cv110 ev110 u109l u109b u109t u109s u109r hM106 zbM106 h108 hbkz104 hnez104 hz104 hprz104 u103t u1034 u1033 hM102 eM102 hM101 eM101 hret C hp2 hp1 hp0 cv4 cv3 ha2 hq8_0 hq6_1 hq6_0 hq7_4 hq7_3 hpr hM0; exact ⟨⟨u197e.1, (by (clear hM134 u126c hM119 hM113 hM106; omega))⟩, ⟨u197d, u197f⟩⟩)⟩
      · refine j_aload_n C 0 0 dX8_read_68 rfl rfl ?_
        refine y_getI C 7 _ _ fX8_read_22 rfl rfl ft_7_5 sb_7_5 hM170 dX8_read_69 (fun a175 ea175 la175 ua175 => ?_)
        refine y_if_ne C 99 dX8_read_72 (by decide) (by omega) (fun h177 => ?_) (fun h177 => ?_)
        · have u198e := rd_e gf gn gq171 a169 (kiX M170) (byX M170) (lnX M170) (M125.1 78 5).toInt (M125.1 78 6).toInt (M128.1 78 5).toInt (M128.1 78 6).toInt (psX M128) (M134.1 78 5).toInt (M134.1 78 6).toInt (psX M134) (M170.1 78 5).toInt (M170.1 78 6).toInt (psX M170) 1 (by exact u126x.2.2.1) (by exact h130.2.2.1) (by exact h136.2.2.2.2.2.1) rfl (by exact h172.2.2.2.2.1) (by omega)
          have u198y : b01 (CT AGY (M170.1 78 5).toInt M134 M170 (mqC gf gn ((exP gf gn 2059) ((exP gf gn 1008) (runE blB gf gn 0)).2.2).2.2 0 0)) = 1 := lx_y (f := gf) (n := gn) (show b01 (LX AGY gf gn (M170.1 78 5).toInt ((exP gf gn 2059) ((exP gf gn 1008) (runE blB gf gn 0)).2.2).2.2 gq171 (kiX M170) (byX M170) M134 M170) = 1 by exact h172.2.2.2.2.2.1) (show b01 (LM gf gn ((exP gf gn 2059) ((exP gf gn 1008) (runE blB gf gn 0)).2.2).2.2 0 0 1 gq171 a169 (kiX M170) (byX M170) (lnX M170) (M134.1 78 5).toInt (M134.1 78 6).toInt (M170.1 78 5).toInt (M170.1 78 6).toInt (psX M170)) = 1 by exact h172.2.2.2.2.1) (by omega)
          have u198w : ¬ (M170.1 78 5).toInt = 0 ∨ AGY M134 (0, 0, 0, 0) T0 := by
            by_cases z : (M170.1 78 5).toInt = 0
            · right
              have z1 : (M134.1 78 5).toInt = 0 := lm_z (show b01 (LM gf gn ((exP gf gn 2059) ((exP gf gn 1008) (runE blB gf gn 0)).2.2).2.2 0 0 1 gq171 a169 (kiX M170) (byX M170) (lnX M170) (M134.1 78 5).toInt (M134.1 78 6).toInt (M170.1 78 5).toInt (M170.1 78 6).toInt (psX M170)) = 1 by exact h172.2.2.2.2.1) z
              have k := (b01_e (show b01 (CT AGY (M134.1 78 5).toInt M128 M134 (fun T => uT T 0 (T 0 + 1))) = 1 by exact h136.2.2.2.1)).resolve_left (fun w => w z1) (0, 0, 0, 0) (fun _ => 0) (agy_78 (agc_F fM128) _ _ u1260.1)
              have e : T0 = uT (fun _ => 0) 0 ((fun _ => (0 : Int)) 0 + 1) := rfl
              rw [e]; exact k
            · exact Or.inl z
          have u198d := rdx_i gf gn (A := AGY) (MB := M134) (M := M170) (ct_e u198y (fun z T => by
            have z1 : (M134.1 78 5).toInt = 0 := lm_z (show b01 (LM gf gn ((exP gf gn 2059) ((exP gf gn 1008) (runE blB gf gn 0)).2.2).2.2 0 0 1 gq171 a169 (kiX M170) (byX M170) (lnX M170) (M134.1 78 5).toInt (M134.1 78 6).toInt (M170.1 78 5).toInt (M170.1 78 6).toInt (psX M170)) = 1 by exact h172.2.2.2.2.1) z
            have z2 := rr_z (show b01 (RR (exP gf gn 2059 (exP gf gn 1008 (runE blB gf gn 0)).2.2) (M128.1 78 5).toInt (M128.1 78 6).toInt (M134.1 78 5).toInt (M134.1 78 6).toInt (psX M134)) = 1 by exact h136.2.2.2.2.2.1) z1
            rw [hd_e gf gn (rr_v (show b01 (RR (exP gf gn 1008 (runE blB gf gn 0)) (M125.1 78 5).toInt (M125.1 78 6).toInt (M128.1 78 5).toInt (M128.1 78 6).toInt (psX M128)) = 1 by exact h130.2.2.1) z2).1])) (0, 0, 0, 0) u198w
          have u198f := rdf_t u1260.2 (rfx_t (rfx_t (rfx_F (rfx_r M125) fM128) (show b01 (RFX M128 M134) = 1 by exact h136.2.2.2.2.2.2)) (show b01 (RFX M134 M170) = 1 by exact h172.2.2.2.2.2.2.2.1))
          exact hret _ _ _ dX8_read_99 ⟨hM170, by (clear u198w u198y h177 ua175 la175 ea175 h174 u173b hM170 h172 ih167 u138r u138x u138l u137r qM134 bM134 hM134 zbM134 h136 hbkz132 hnez132 hz132 hprz132 u131r cM128 dM128 qM128 bM128 h130 fM128 hM128 u126g u126c u1260 u1269 u126q u126y u126r u126b u126a hM125 eM125 hM124 eM124 hM123 eM123 u122c u122r hM119 zbM119 h121 fM119 hbkz117 hnez117 hz117 hprz117 u1161 u1160 u116l u116b u116k u116t u116s u116r hM113 zbM113 h115 hbkz111 hnez111 hz111 hprz111 cv110 ev110 u109l u109b u109t u109s u109r hM106 zbM106 h108 hbkz104 hnez104 hz104 hprz104 u103t u1034 u1033 hM102 eM102 hM101 eM101 hret C hp2 hp1 hp0 cv4 cv3 ha2 hq8_0 hq6_1 hq6_0 hq7_4 hq7_3 hpr hM0; exact ⟨⟨u198e.1, (by (clear hM134 u126c hM119 hM113 hM106; omega))⟩, ⟨u198d, u198f⟩⟩)⟩
        · refine j_aload_n C 0 0 dX8_read_75 rfl rfl ?_
          refine j_callVi C (d := 0) (As := []) (st := []) 78 (s_lt rfl rfl) (s_kc (c := 7) rfl rfl) (by decide) rfl (s1_X8_token hM170 gf gn gq171 (by exact h172.2.2.2.2.2.2.2.2.1) (by exact h172.2.2.2.2.2.2.2.2.2.1)) gX8_read_X8_token rfl hdX8_token (by decide) (Nat.le_of_ble_eq_true rfl) dX8_read_76 rfl (fun r178 M179 h180 => ?_)
          obtain ⟨a182, rfl, rfl, h181⟩ := h180
          refine y_sipush C dX8_read_79 rfl ?_
          refine y_icmp_eq C 99 dX8_read_82 (by decide) (by exact ⟨⟨h181.1, h181.2.1⟩, ⟨(by decide), (by decide)⟩⟩) (fun h183 => ?_) (fun h183 => ?_)
          · have u199e := rd_e gf gn gq171 a169 (kiX M170) (byX M170) (lnX M170) (M125.1 78 5).toInt (M125.1 78 6).toInt (M128.1 78 5).toInt (M128.1 78 6).toInt (psX M128) (M134.1 78 5).toInt (M134.1 78 6).toInt (psX M134) (M170.1 78 5).toInt (M170.1 78 6).toInt (psX M170) 1 (by exact u126x.2.2.1) (by exact h130.2.2.1) (by exact h136.2.2.2.2.2.1) rfl (by exact h172.2.2.2.2.1) (by omega)
            have u199y : b01 (CT AGY (M170.1 78 5).toInt M134 M170 (mqC gf gn ((exP gf gn 2059) ((exP gf gn 1008) (runE blB gf gn 0)).2.2).2.2 0 0)) = 1 := lx_y (f := gf) (n := gn) (show b01 (LX AGY gf gn (M170.1 78 5).toInt ((exP gf gn 2059) ((exP gf gn 1008) (runE blB gf gn 0)).2.2).2.2 gq171 (kiX M170) (byX M170) M134 M170) = 1 by exact h172.2.2.2.2.2.1) (show b01 (LM gf gn ((exP gf gn 2059) ((exP gf gn 1008) (runE blB gf gn 0)).2.2).2.2 0 0 1 gq171 a169 (kiX M170) (byX M170) (lnX M170) (M134.1 78 5).toInt (M134.1 78 6).toInt (M170.1 78 5).toInt (M170.1 78 6).toInt (psX M170)) = 1 by exact h172.2.2.2.2.1) (by omega)
            have u199w : ¬ (M170.1 78 5).toInt = 0 ∨ AGY M134 (0, 0, 0, 0) T0 := by
              by_cases z : (M170.1 78 5).toInt = 0
              · right
                have z1 : (M134.1 78 5).toInt = 0 := lm_z (show b01 (LM gf gn ((exP gf gn 2059) ((exP gf gn 1008) (runE blB gf gn 0)).2.2).2.2 0 0 1 gq171 a169 (kiX M170) (byX M170) (lnX M170) (M134.1 78 5).toInt (M134.1 78 6).toInt (M170.1 78 5).toInt (M170.1 78 6).toInt (psX M170)) = 1 by exact h172.2.2.2.2.1) z
                have k := (b01_e (show b01 (CT AGY (M134.1 78 5).toInt M128 M134 (fun T => uT T 0 (T 0 + 1))) = 1 by exact h136.2.2.2.1)).resolve_left (fun w => w z1) (0, 0, 0, 0) (fun _ => 0) (agy_78 (agc_F fM128) _ _ u1260.1)
                have e : T0 = uT (fun _ => 0) 0 ((fun _ => (0 : Int)) 0 + 1) := rfl
                rw [e]; exact k
              · exact Or.inl z
            have u199d := rdx_i gf gn (A := AGY) (MB := M134) (M := M170) (ct_e u199y (fun z T => by
              have z1 : (M134.1 78 5).toInt = 0 := lm_z (show b01 (LM gf gn ((exP gf gn 2059) ((exP gf gn 1008) (runE blB gf gn 0)).2.2).2.2 0 0 1 gq171 a169 (kiX M170) (byX M170) (lnX M170) (M134.1 78 5).toInt (M134.1 78 6).toInt (M170.1 78 5).toInt (M170.1 78 6).toInt (psX M170)) = 1 by exact h172.2.2.2.2.1) z
              have z2 := rr_z (show b01 (RR (exP gf gn 2059 (exP gf gn 1008 (runE blB gf gn 0)).2.2) (M128.1 78 5).toInt (M128.1 78 6).toInt (M134.1 78 5).toInt (M134.1 78 6).toInt (psX M134)) = 1 by exact h136.2.2.2.2.2.1) z1
              rw [hd_e gf gn (rr_v (show b01 (RR (exP gf gn 1008 (runE blB gf gn 0)) (M125.1 78 5).toInt (M125.1 78 6).toInt (M128.1 78 5).toInt (M128.1 78 6).toInt (psX M128)) = 1 by exact h130.2.2.1) z2).1])) (0, 0, 0, 0) u199w
            have u199f := rdf_t u1260.2 (rfx_t (rfx_t (rfx_F (rfx_r M125) fM128) (show b01 (RFX M128 M134) = 1 by exact h136.2.2.2.2.2.2)) (show b01 (RFX M134 M170) = 1 by exact h172.2.2.2.2.2.2.2.1))
            exact hret _ _ _ dX8_read_99 ⟨hM170, by (clear u199w u199y h183 h181 h177 ua175 la175 ea175 h174 u173b hM170 h172 ih167 u138r u138x u138l u137r qM134 bM134 hM134 zbM134 h136 hbkz132 hnez132 hz132 hprz132 u131r cM128 dM128 qM128 bM128 h130 fM128 hM128 u126g u126c u1260 u1269 u126q u126y u126r u126b u126a hM125 eM125 hM124 eM124 hM123 eM123 u122c u122r hM119 zbM119 h121 fM119 hbkz117 hnez117 hz117 hprz117 u1161 u1160 u116l u116b u116k u116t u116s u116r hM113 zbM113 h115 hbkz111 hnez111 hz111 hprz111 cv110 ev110 u109l u109b u109t u109s u109r hM106 zbM106 h108 hbkz104 hnez104 hz104 hprz104 u103t u1034 u1033 hM102 eM102 hM101 eM101 hret C hp2 hp1 hp0 cv4 cv3 ha2 hq8_0 hq6_1 hq6_0 hq7_4 hq7_3 hpr hM0; exact ⟨⟨u199e.1, (by (clear hM134 u126c hM119 hM113 hM106; omega))⟩, ⟨u199d, u199f⟩⟩)⟩
          · refine j_aload_n C 0 0 dX8_read_85 rfl rfl ?_
            obtain ⟨prz184, Kzz184, hprz184, hz184, hnez184, hbkz184⟩ := fzXs [7] hpr hM170
            refine j_callVv C (d := 27) (As := []) (st := []) 78 (s_lt rfl rfl) (s_kc (c := 7) rfl rfl) (by decide) rfl (s1_X8_line hz184 hprz184 (fun i h => hnez184 i 0 (by rw [h]; rfl) (hq8_0 i h)) (fun i h => hnez184 i 0 (by rw [h]; rfl) (hq6_0 i h)) gf gn gq171 (by omega) (by exact h172.2.2.2.2.2.2.1) (by exact h172.2.2.2.2.2.2.2.2.1) (by exact h172.2.2.2.2.2.2.2.2.2.1)) gX8_read_X8_line rfl hdX8_line (by decide) (Nat.le_of_ble_eq_true rfl) dX8_read_86 rfl (fun M186 h187 => ?_)
            obtain ⟨hM186, h188⟩ := h187
            have zbM186 := (hbkz184 _ hM186).2
            have hM186 := (hbkz184 _ hM186).1
            have bM186 := tkx_b (f := gf) (n := gn) (M := M186) (by exact h188.2.2.2.2.1)
            have qM186 := po_rr (liP gf gn (kiX M170) (byX M170)) gn gq171 (M170.1 78 5).toInt (M170.1 78 6).toInt (psX M170) (M186.1 78 5).toInt (M186.1 78 6).toInt (psX M186) (li_g gf gn (kiX M170) (byX M170)) (by exact h172.2.2.2.2.2.2.2.2.2.1) (by exact h188.2.2.2.2.2.1)
            have u189r := (zbM186 78 3 rfl rfl).2
            refine j_aload_n C 0 0 dX8_read_89 rfl rfl ?_
            obtain ⟨prz190, Kzz190, hprz190, hz190, hnez190, hbkz190⟩ := fzXs [7, 8] hpr hM186
            refine j_callVv C (d := 2) (As := []) (st := []) 78 (s_lt rfl rfl) (s_kc (c := 7) rfl rfl) (by decide) rfl (s1_X8_endLine hz190 hprz190 (fun i h => hnez190 i 1 (by rw [h]; rfl) (hq6_1 i h)) gf gn ((liP gf gn (kiX M170) (byX M170)) gq171).2.2 (by omega) (by exact h188.2.2.2.2.1) (by exact qM186)) gX8_read_X8_endLine rfl hdX8_endLine (by decide) (Nat.le_of_ble_eq_true rfl) dX8_read_90 rfl (fun M192 h193 => ?_)
            obtain ⟨hM192, h194⟩ := h193
            have zbM192 := (hbkz190 _ hM192).2
            have hM192 := (hbkz190 _ hM192).1
            have bM192 := tkx_b (f := gf) (n := gn) (M := M192) (by exact h194.2.2.2.2.1)
            have qM192 := po_rr (exP gf gn 2059) gn ((liP gf gn (kiX M170) (byX M170)) gq171).2.2 (M186.1 78 5).toInt (M186.1 78 6).toInt (psX M186) (M192.1 78 5).toInt (M192.1 78 6).toInt (psX M192) (ex_g gf gn 2059 (by decide)) (by exact qM186) (by exact h194.2.2.2.2.2.1)
            have u195r := (zbM192 78 3 rfl rfl).2
            refine y_iinc C 1 [(5, .int (sI (a169 + 1))), (0, .ref (ad 78))] dX8_read_93 rfl (by decide) rfl ?_
            have u196k := ck_c (M186.1 78 5).toInt (kiX M186) (byX M186) (lnX M186) (inc (tkF gf gn gq171) 1003 (kiX M170)) (inc (tkF gf gn gq171) 1009 (byX M170)) (lnX M170) (kiX M192) (byX M192) (by exact h188.1) (by exact h194.1.1) (by exact h194.1.2.1)
            have u196s := lm_s gf gn ((exP gf gn 2059) ((exP gf gn 1008) (runE blB gf gn 0)).2.2).2.2 0 0 1 gq171 a169 (kiX M170) (byX M170) (lnX M170) (M134.1 78 5).toInt (M134.1 78 6).toInt (M170.1 78 5).toInt (M170.1 78 6).toInt (psX M170) (M186.1 78 5).toInt (M186.1 78 6).toInt (psX M186) (M192.1 78 5).toInt (M192.1 78 6).toInt (psX M192) (kiX M192) (byX M192) (lnX M192) (lnX M186) (by exact h172.2.2.2.2.1) (by omega) (by omega) (by exact h188.2.2.2.2.2.1) (by exact u196k) (by exact h194.2.2.2.2.2.1) (by exact h194.1.2.2)
            have u196x : b01 (LX AGY gf gn (M192.1 78 5).toInt ((exP gf gn 2059) ((exP gf gn 1008) (runE blB gf gn 0)).2.2).2.2 (exP gf gn 2059 (liP gf gn (kiX M170) (byX M170) gq171).2.2).2.2 (kiX M192) (byX M192) M134 M192) = 1 := by
              rw [show kiX M192 = kiX M186 by exact h194.1.1, show byX M192 = byX M186 by exact h194.1.2.1]
              exact lx_p gf gn (show b01 (LX AGY gf gn (M170.1 78 5).toInt ((exP gf gn 2059) ((exP gf gn 1008) (runE blB gf gn 0)).2.2).2.2 gq171 (kiX M170) (byX M170) M134 M170) = 1 by exact h172.2.2.2.2.2.1) (show b01 (PO gn gq171 (M170.1 78 5).toInt (psX M170)) = 1 by exact h172.2.2.2.2.2.2.2.2.2.1) (by omega) (show b01 (RR (liP gf gn (kiX M170) (byX M170) gq171) (M170.1 78 5).toInt (M170.1 78 6).toInt (M186.1 78 5).toInt (M186.1 78 6).toInt (psX M186)) = 1 by exact h188.2.2.2.2.2.1) (show b01 (CT AGY (M186.1 78 5).toInt M170 M186 (liC gf gn (kiX M170) (byX M170) gq171)) = 1 by exact h188.2.2.2.1) (show b01 (RR (exP gf gn 2059 (liP gf gn (kiX M170) (byX M170) gq171).2.2) (M186.1 78 5).toInt (M186.1 78 6).toInt (M192.1 78 5).toInt (M192.1 78 6).toInt (psX M192)) = 1 by exact h194.2.2.2.2.2.1) (show b01 (CT AGY (M192.1 78 5).toInt M186 M192 (fun T => uT T 0 (T 0 + 1))) = 1 by exact h194.2.2.2.1) (show b01 (CK (M186.1 78 5).toInt (kiX M186) (byX M186) (lnX M186) (inc (tkF gf gn gq171) 1003 (kiX M170)) (inc (tkF gf gn gq171) 1009 (byX M170)) (lnX M170)) = 1 by exact h188.1)
            have u196f := rfx_t (rfx_t (show b01 (RFX M134 M170) = 1 by exact h172.2.2.2.2.2.2.2.1) (show b01 (RFX M170 M186) = 1 by exact h188.2.2.2.2.2.2)) (show b01 (RFX M186 M192) = 1 by exact h194.2.2.2.2.2.2)
            refine j_goto C 60 dX8_read_96 (by decide) ?_
            refine j_lv [1, 0] rfl ?_; exact ih167 (a169 + 1) M192 ((exP gf gn 2059) ((liP gf gn (kiX M170) (byX M170)) gq171).2.2).2.2 (by (clear u196k bM192 hM192 zbM192 hbkz190 hnez190 hz190 hprz190 qM186 bM186 hM186 zbM186 hbkz184 hnez184 hz184 hprz184 h183 h181 h177 ua175 la175 ea175 u173l u173b hM170 ih167 u138r u138x u138l u137r qM134 bM134 hM134 zbM134 h136 hbkz132 hnez132 hz132 hprz132 u131r cM128 dM128 qM128 bM128 h130 fM128 hM128 u126g u126c u1260 u1269 u126q u126y u126r u126b u126a u126x hM125 eM125 hM124 eM124 hM123 eM123 u122c u122r hM119 zbM119 h121 fM119 hbkz117 hnez117 hz117 hprz117 u1161 u1160 u116l u116b u116k u116t u116s u116r hM113 zbM113 h115 hbkz111 hnez111 hz111 hprz111 cv110 ev110 u109l u109b u109t u109s u109r hM106 zbM106 h108 hbkz104 hnez104 hz104 hprz104 u103t u1034 u1033 hM102 eM102 hM101 eM101 hret C hp2 hp1 hp0 cv4 cv3 ha2 hq8_0 hq6_1 hq6_0 hq7_4 hq7_3 hpr hM0; (clear hM192 hM186 hM134 u126c hM119 hM113 hM106; omega))) hM192
  refine j_lv [1, 0] rfl ?_; exact L168 2010 0 M134 ((exP gf gn 2059) ((exP gf gn 1008) (runE blB gf gn 0)).2.2).2.2 (by omega) hM134
