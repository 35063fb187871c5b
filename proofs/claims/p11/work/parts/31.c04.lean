set_option maxHeartbeats 4000000 in
theorem s8_X8_atom {l : Launch} {dC : Nat → ClassId} {dI : Nat → Nat → Nat} {ad : Nat → Nat} {cA : Nat → ClassId} {pr : Nat → Nat → Bool} {Kz : mm_M} {M0 : mm_M} (hM0 : INV pr Kz M0) (hpr : PX pr) (gf : Nat → Int) (gn : Int) (gi : Int) (hp0 : csX M0 ≤ (M0.1 78 2).toInt) (hp1 : b01 (TKX gf gn M0) = 1) (hp2 : b01 (PO gn gi (M0.1 78 5).toInt (psX M0)) = 1) : Cv l 21 yX8_atom wsX8_atom dC dI ad cA [.ref (ad 78), .int (sI 0)] M0 (fun M' => INV pr Kz M' ∧ (csX M' - csX M0 ≤ (M'.1 78 2).toInt - (M0.1 78 2).toInt) ∧ (b01 (CL AGC (M'.1 78 5).toInt M0 M' ((atL gf gn false (sLR gf gn 5)) gi)) = 1) ∧ (b01 (TKX gf gn M') = 1) ∧ b01 (RR ((atP gf gn false (suR gf gn 5)) gi) (M0.1 78 5).toInt (M0.1 78 6).toInt (M'.1 78 5).toInt (M'.1 78 6).toInt (psX M')) = 1 ∧ (b01 (RFX M0 M') = 1)) := by
  refine cv_of (cc := cX8_atom) (maxL := 3) (lv := [(0, .ref (ad 78)), (1, .int (sI 0))]) (by decide) rfl (Nat.le_of_ble_eq_true rfl) rfl ?_
  intro p e s m args below meth c A Q C hret
  have u101b := tkx_b (f := gf) (n := gn) (M := M0) (by exact hp1)
  refine j_aload_n C 0 0 dX8_atom_0 rfl rfl ?_
  refine y_getI C 7 _ _ fX8_atom_22 rfl rfl ft_7_5 sb_7_5 hM0 dX8_atom_1 (fun a102 ea102 la102 ua102 => ?_)
  refine y_if_eq C 8 dX8_atom_4 (by decide) (by (clear u101b hret C hp2 hp1 hp0 hpr hM0; omega)) (fun h104 => ?_) (fun h104 => ?_)
  · refine j_aload_n C 0 0 dX8_atom_8 rfl rfl ?_
    refine j_callVi C (d := 0) (As := []) (st := []) 78 (s_lt rfl rfl) (s_kc (c := 7) rfl rfl) (by decide) rfl (s1_X8_token hM0 gf gn gi (by exact hp1) (by exact hp2)) gX8_atom_X8_token rfl hdX8_token (by decide) (Nat.le_of_ble_eq_true rfl) dX8_atom_9 rfl (fun r105 M106 h107 => ?_)
    obtain ⟨a109, rfl, rfl, h108⟩ := h107
    refine j_istore_n C 2 [(2, .int (sI a109)), (0, .ref (ad 78)), (1, .int (sI 0))] dX8_atom_12 rfl (by decide) rfl ?_
    refine j_iload_n C 0 2 dX8_atom_13 rfl rfl ?_
    refine y_sipush C dX8_atom_14 rfl ?_
    refine y_icmp_ge C 38 dX8_atom_17 (by decide) (by exact ⟨⟨h108.1, h108.2.1⟩, ⟨(by decide), (by decide)⟩⟩) (fun h110 => ?_) (fun h110 => ?_)
    · refine j_iload_n C 0 2 dX8_atom_38 rfl rfl ?_
      refine y_sipush C dX8_atom_39 rfl ?_
      refine y_icmp_ne C 67 dX8_atom_42 (by decide) (by exact ⟨⟨h108.1, h108.2.1⟩, ⟨(by decide), (by decide)⟩⟩) (fun h111 => ?_) (fun h111 => ?_)
      · refine j_aload_n C 1 0 dX8_atom_67 rfl rfl ?_
        refine y_iconst C dX8_atom_68 ?_
        refine j_callVv C (d := 0) (As := [.int (sI 2)]) (st := []) 78 (s_lt rfl rfl) (s_kc (c := 7) rfl rfl) (by decide) rfl (s1_X8_fail hM0 hpr 2 (by exact ⟨(by decide), (by decide)⟩) gf gn gi (by exact ⟨(by decide), (by decide)⟩) (by exact hp1) (by exact hp2)) gX8_atom_X8_fail rfl hdX8_fail (by decide) (Nat.le_of_ble_eq_true rfl) dX8_atom_69 rfl (fun M113 h114 => ?_)
        obtain ⟨hM113, fM113, h115⟩ := h114
        have bM113 := tkx_b (f := gf) (n := gn) (M := M113) (by exact h115.2.2.2.1)
        have qM113 := po_f gn ((faQ gf gn 2) gi).2.2 (M113.1 78 5).toInt (psX M113) (by omega)
        have dM113 := cs_f hM0 fM113
        have u116r := at_4 gf gn false (suR gf gn 5) gi (M0.1 78 5).toInt (M0.1 78 6).toInt (psX M0) (M113.1 78 5).toInt (M113.1 78 6).toInt (psX M113) (by exact hp2) (by (clear dM113 qM113 bM113 h115 fM113 hM113 h104 ua102 la102 ea102 u101b hret C hp2 hp1 hp0 hpr hM0; omega)) (by exact h115.2.2.2.2.1)
        have u116l := cl_n (A := AGC) (M := M0) (N := M113) ((atL gf gn false (sLR gf gn 5)) gi) (a := (M113.1 78 5).toInt) (by omega)
        have zr := (rfx_F (rfx_r M0) fM113); exact hret _ _ _ dX8_atom_72 ⟨hM113, by exact ⟨(by (clear zr qM113 bM113 fM113 hM113 h111 h110 h108 h104 ua102 la102 ea102 u101b hret C hp2 hp1 hp0 hpr hM0; omega)), ⟨u116l, ⟨h115.2.2.2.1, ⟨u116r, h115.2.2.2.2.2⟩⟩⟩⟩⟩
      · refine j_aload_n C 1 0 dX8_atom_45 rfl rfl ?_
        refine j_iload_n C 2 1 dX8_atom_46 rfl rfl ?_
        refine j_callVv C (d := 0) (As := [.int (sI 0)]) (st := []) 78 (s_lt rfl rfl) (s_kc (c := 7) rfl rfl) (by decide) rfl (s1_X8_goDeeper hM0 hpr gf gn gi (by omega) (by omega) (by omega) (by exact hp1) (by exact hp2)) gX8_atom_X8_goDeeper rfl hdX8_goDeeper (by decide) (Nat.le_of_ble_eq_true rfl) dX8_atom_47 rfl (fun M118 h119 => ?_)
        obtain ⟨hM118, fM118, h120⟩ := h119
        have bM118 := tkx_b (f := gf) (n := gn) (M := M118) (by exact h120.2.2.2.1)
        have dM118 := cs_f hM0 fM118
        refine j_aload_n C 1 0 dX8_atom_50 rfl rfl ?_
        refine j_iload_n C 2 1 dX8_atom_51 rfl rfl ?_
        refine y_iconst C dX8_atom_52 ?_
        refine y_iadd C dX8_atom_53 ?_
        refine j_callVv C (d := 20) (As := [.int (sI (0 + 1))]) (st := []) 78 (s_lt rfl rfl) (s_kc (c := 7) rfl rfl) (by decide) rfl (s7_X8_sum hM118 hpr gf gn (nxF gf gn gi) (by (clear bM118 fM118 hM118 h111 h110 h108 h104 ua102 la102 ea102 u101b hret C hp2 hp1 hpr hM0; omega)) (by exact h120.2.2.2.1) (by exact h120.2.1)) gX8_atom_X8_sum rfl hdX8_sum (by decide) (Nat.le_of_ble_eq_true rfl) dX8_atom_54 rfl (fun M122 h123 => ?_)
        obtain ⟨hM122, h124⟩ := h123
        have bM122 := tkx_b (f := gf) (n := gn) (M := M122) (by exact h124.2.2.1)
        have qM122 := po_rr (suR gf gn 5) gn (nxF gf gn gi) (M118.1 78 5).toInt (M118.1 78 6).toInt (psX M118) (M122.1 78 5).toInt (M122.1 78 6).toInt (psX M122) (suR_g gf gn 5) (by exact h120.2.1) (by exact h124.2.2.2.1)
        refine j_aload_n C 1 0 dX8_atom_57 rfl rfl ?_
        refine y_sipush C dX8_atom_58 rfl ?_
        refine j_callVv C (d := 1) (As := [.int (sI 2041)]) (st := []) 78 (s_lt rfl rfl) (s_kc (c := 7) rfl rfl) (by decide) rfl (s1_X8_expect hM122 hpr 2041 (by exact ⟨(by decide), (by decide)⟩) gf gn ((suR gf gn 5) (nxF gf gn gi)).2.2 (by exact (by decide)) (by exact (by decide)) (by exact h124.2.2.1) (by exact qM122)) gX8_atom_X8_expect rfl hdX8_expect (by decide) (Nat.le_of_ble_eq_true rfl) dX8_atom_61 rfl (fun M126 h127 => ?_)
        obtain ⟨hM126, fM126, h128⟩ := h127
        have bM126 := tkx_b (f := gf) (n := gn) (M := M126) (by exact h128.2.1)
        have qM126 := po_rr (exP gf gn 2041) gn ((suR gf gn 5) (nxF gf gn gi)).2.2 (M122.1 78 5).toInt (M122.1 78 6).toInt (psX M122) (M126.1 78 5).toInt (M126.1 78 6).toInt (psX M126) (ex_g gf gn 2041 (by exact (by decide))) (by exact qM122) (by exact h128.2.2.1)
        have dM126 := cs_f hM122 fM126
        refine j_goto C 72 dX8_atom_64 (by decide) ?_
        have u129r := at_2 gf gn (suR gf gn 5) gi (M0.1 78 5).toInt (M0.1 78 6).toInt (psX M0) (M118.1 78 5).toInt (M118.1 78 6).toInt (M122.1 78 5).toInt (M122.1 78 6).toInt (psX M122) (M126.1 78 5).toInt (M126.1 78 6).toInt (psX M126) (by exact hp2) (by (clear dM126 qM126 bM126 h128 fM126 hM126 qM122 bM122 h124 hM122 dM118 bM118 h120 fM118 hM118 h110 h104 ua102 la102 ea102 u101b hret C hp2 hp1 hp0 hpr hM0; omega)) (by exact h120.1.1) (by exact h120.1.2) (by exact h124.2.2.2.1) (by exact h128.2.2.1)
        have u129l : b01 (CL AGC (M126.1 78 5).toInt M0 M126 ((atL gf gn false (sLR gf gn 5)) gi)) = 1 := cl_e (cl_t (cl_t (cl_r (A := AGC) (M := M0) (N := M118) (M118.1 78 5).toInt (agc_F fM118)) (show b01 (CL AGC (M122.1 78 5).toInt M118 M122 ((sLR gf gn 5) (nxF gf gn gi))) = 1 by exact h124.2.1) (fun z => rr_z (show b01 (RR ((suR gf gn 5) (nxF gf gn gi)) (M118.1 78 5).toInt (M118.1 78 6).toInt (M122.1 78 5).toInt (M122.1 78 6).toInt (psX M122)) = 1 by exact h124.2.2.2.1) z)) (cl_r (A := AGC) (M := M122) (N := M126) (M126.1 78 5).toInt (agc_F fM126)) (fun z => rr_z (show b01 (RR ((exP gf gn 2041) ((suR gf gn 5) (nxF gf gn gi)).2.2) (M122.1 78 5).toInt (M122.1 78 6).toInt (M126.1 78 5).toInt (M126.1 78 6).toInt (psX M126)) = 1 by exact h128.2.2.1) z)) (fun z => by rw [at_l2 gf gn (sLR gf gn 5) (show b01 (PO gn gi (M0.1 78 5).toInt (psX M0)) = 1 by exact hp2) (by omega) (by omega), List.nil_append, List.append_nil])
        have zr := (rfx_F (rfx_t (rfx_F (rfx_r M0) fM118) (show b01 (RFX M118 M122) = 1 by exact h124.2.2.2.2)) fM126); exact hret _ _ _ dX8_atom_72 ⟨hM126, by exact ⟨(by (clear qM126 bM126 fM126 hM126 qM122 bM122 hM122 bM118 fM118 hM118 h111 h110 h108 h104 ua102 la102 ea102 u101b hret C hp2 hp1 hp0 hpr hM0; omega)), ⟨u129l, ⟨h128.2.1, ⟨u129r, zr⟩⟩⟩⟩⟩
    · refine j_aload_n C 1 0 dX8_atom_20 rfl rfl ?_
      refine j_dup C dX8_atom_21 rfl ?_
      refine y_getI C 7 _ _ fX8_atom_18 rfl rfl ft_7_2 sb_7_2 hM0 dX8_atom_22 (fun a130 ea130 la130 ua130 => ?_)
      refine y_iconst C dX8_atom_25 ?_
      refine y_iadd C dX8_atom_26 ?_
      refine y_putI C 7 _ _ qX8_atom_18 rfl rfl ft_7_2 sb_7_2 hM0 (PX.w hpr rfl rfl) dX8_atom_27 (by (clear ua130 la130 h110 h108 h104 ua102 la102 ea102 hret C hp2 hp1 hp0 hpr hM0; omega)) (fun M132 eM132 hM132 => ?_)
      have xM132 := tkx_j (f := gf) (n := gn) (gi := gi) eM132 (by exact hp1) (by exact ea130) (by (clear hM132 eM132 ua130 la130 ea130 h104 ua102 la102 ea102 u101b hret C hp2 hp1 hp0 hpr hM0; omega)) (by exact hp2)
      have dM132 := cs_w hM0 (c := 7) rfl eM132 (by decide)
      have gM132 := s_wr eM132 (by (clear dM132 xM132 hM132 eM132 ua130 la130 h110 h108 h104 ua102 la102 ea102 hret C hp2 hp1 hp0 hpr hM0; omega))
      refine j_aload_n C 1 0 dX8_atom_30 rfl rfl ?_
      refine j_iload_n C 0 2 dX8_atom_31 rfl rfl ?_
      have u133b := tkx_b (f := gf) (n := gn) (M := M132) (by exact xM132.1)
      refine j_callVv C (d := 0) (As := [.int (sI a109)]) (st := []) 78 (s_lt rfl rfl) (s_kc (c := 7) rfl rfl) (by decide) rfl (s1_X8_emit hM132 hpr a109 (by exact ⟨h108.1, h108.2.1⟩) gf gn (nxF gf gn gi) (by (clear xM132 hM132 eM132 ua130 la130 h110 h108 h104 ua102 la102 ea102 hret C hp2 hp1 hpr hM0; omega)) (by exact xM132.1) (by exact xM132.2.2.2)) gX8_atom_X8_emit rfl hdX8_emit (by decide) (Nat.le_of_ble_eq_true rfl) dX8_atom_32 rfl (fun M135 h136 => ?_)
      obtain ⟨hM135, h137⟩ := h136
      have bM135 := tkx_b (f := gf) (n := gn) (M := M135) (by exact h137.2.2.2.2.2.2.1)
      have qM135 := po_eq gn (nxF gf gn gi) (M132.1 78 5).toInt (psX M132) (M135.1 78 5).toInt (psX M135) (by exact xM132.2.2.2) (by exact h137.2.1.1) (by exact h137.1)
      refine j_goto C 72 dX8_atom_35 (by decide) ?_
      have u138r := rr_eq ((atP gf gn false (suR gf gn 5)) gi) (M0.1 78 5).toInt (M0.1 78 6).toInt (M132.1 78 5).toInt (M132.1 78 6).toInt (psX M132) (M135.1 78 5).toInt (M135.1 78 6).toInt (psX M135) (at_1 gf gn false (suR gf gn 5) gi (M0.1 78 5).toInt (M0.1 78 6).toInt (psX M0) (M132.1 78 5).toInt (M132.1 78 6).toInt (psX M132) (by exact hp2) (by omega) (by (clear qM135 bM135 h137 hM135 u133b gM132 dM132 xM132 hM132 eM132 ua130 la130 ea130 h104 ua102 la102 ea102 u101b hret C hp2 hp1 hp0 hpr hM0; omega)) (by exact xM132.2.1) (by exact xM132.2.2.1) (by exact xM132.2.2.2)) (by exact h137.2.1.1) (by exact h137.2.1.2) (by exact h137.1)
      have u138l : b01 (CL AGC (M135.1 78 5).toInt M0 M135 ((atL gf gn false (sLR gf gn 5)) gi)) = 1 := cl_e (cl_t (cl_r (A := AGC) (M := M0) (N := M132) (M132.1 78 5).toInt (agc_78 eM132)) (show b01 (CL AGC (M135.1 78 5).toInt M132 M135 [cmF a109]) = 1 by exact h137.2.2.2.2.2.1) (fun z => by (clear z u138r qM135 bM135 h137 hM135 u133b gM132 dM132 hM132 eM132 ua130 la130 ea130 h110 h108 ua102 la102 u101b hret C hp2 hp1 hp0 hpr hM0; omega))) (fun z => by rw [at_l1 gf gn false (sLR gf gn 5) (show b01 (PO gn gi (M0.1 78 5).toInt (psX M0)) = 1 by exact hp2) (by omega) (by omega), show tkF gf gn (psX M0) = a109 by exact h108.2.2.symm]; rfl)
      have zr := (rfx_t (rfx_i (rfx_r M0) eM132 (by decide)) (show b01 (RFX M132 M135) = 1 by exact h137.2.2.2.2.2.2.2)); exact hret _ _ _ dX8_atom_72 ⟨hM135, by exact ⟨(by (clear qM135 bM135 hM135 u133b xM132 hM132 eM132 ua130 la130 h110 h108 h104 ua102 la102 ea102 u101b hret C hp2 hp1 hp0 hpr hM0; omega)), ⟨u138l, ⟨h137.2.2.2.2.2.2.1, ⟨u138r, zr⟩⟩⟩⟩⟩
  · have u139r := rr_no ((atP gf gn false (suR gf gn 5)) gi) (M0.1 78 5).toInt (M0.1 78 6).toInt (M0.1 78 5).toInt (M0.1 78 6).toInt (psX M0) (by omega) rfl rfl
    have u139l := cl_n (A := AGC) (M := M0) (N := M0) ((atL gf gn false (sLR gf gn 5)) gi) (a := (M0.1 78 5).toInt) (by omega)
    have zr := (rfx_r M0); exact hret _ _ _ dX8_atom_7 ⟨hM0, by exact ⟨(by (clear h104 ua102 la102 ea102 u101b hret C hp2 hp0 hpr hM0; omega)), ⟨u139l, ⟨hp1, ⟨u139r, zr⟩⟩⟩⟩⟩
set_option maxHeartbeats 4000000 in
theorem s8_X8_term {l : Launch} {dC : Nat → ClassId} {dI : Nat → Nat → Nat} {ad : Nat → Nat} {cA : Nat → ClassId} {pr : Nat → Nat → Bool} {Kz : mm_M} {M0 : mm_M} (hM0 : INV pr Kz M0) (hpr : PX pr) (gf : Nat → Int) (gn : Int) (gi : Int) (hp0 : csX M0 ≤ (M0.1 78 2).toInt) (hp1 : b01 (TKX gf gn M0) = 1) (hp2 : b01 (PO gn gi (M0.1 78 5).toInt (psX M0)) = 1) : Cv l 22 yX8_term wsX8_term dC dI ad cA [.ref (ad 78), .int (sI 0)] M0 (fun M' => INV pr Kz M' ∧ (csX M' - csX M0 ≤ (M'.1 78 2).toInt - (M0.1 78 2).toInt) ∧ (b01 (CL AGC (M'.1 78 5).toInt M0 M' ((teL gf gn false (suR gf gn 5) (sLR gf gn 5)) gi)) = 1) ∧ (b01 (TKX gf gn M') = 1) ∧ b01 (RR ((teP gf gn false (suR gf gn 5)) gi) (M0.1 78 5).toInt (M0.1 78 6).toInt (M'.1 78 5).toInt (M'.1 78 6).toInt (psX M')) = 1 ∧ (b01 (RFX M0 M') = 1)) := by
  refine cv_of (cc := cX8_term) (maxL := 3) (lv := [(0, .ref (ad 78)), (1, .int (sI 0))]) (by decide) rfl (Nat.le_of_ble_eq_true rfl) rfl ?_
  intro p e s m args below meth c A Q C hret
  refine j_aload_n C 0 0 dX8_term_0 rfl rfl ?_
  refine j_iload_n C 1 1 dX8_term_1 rfl rfl ?_
  refine j_callVv C (d := 21) (As := [.int (sI 0)]) (st := []) 78 (s_lt rfl rfl) (s_kc (c := 7) rfl rfl) (by decide) rfl (s8_X8_atom hM0 hpr gf gn gi (by exact hp0) (by exact hp1) (by exact hp2)) gX8_term_X8_atom rfl hdX8_atom (by decide) (Nat.le_of_ble_eq_true rfl) dX8_term_2 rfl (fun M102 h103 => ?_)
  obtain ⟨hM102, h104⟩ := h103
  have bM102 := tkx_b (f := gf) (n := gn) (M := M102) (by exact h104.2.2.1)
  have qM102 := po_rr (atP gf gn false (suR gf gn 5)) gn gi (M0.1 78 5).toInt (M0.1 78 6).toInt (psX M0) (M102.1 78 5).toInt (M102.1 78 6).toInt (psX M102) (at_g gf gn (fun _ => suR_g gf gn 5)) (by exact hp2) (by exact h104.2.2.2.1)
  refine y_iconst C dX8_term_5 ?_
  have u105l := ll_0 (luP gf gn 2042 2042 (atP gf gn false (suR gf gn 5))) gn ((atP gf gn false (suR gf gn 5)) gi).2.2 (M102.1 78 5).toInt (M102.1 78 6).toInt (psX M102) (by exact qM102)
  have u105c := lc_0 (A := AGC) (M102.1 78 5).toInt (luL gf gn 2042 2042 (atP gf gn false (suR gf gn 5)) (atL gf gn false (sLR gf gn 5))) ((atP gf gn false (suR gf gn 5)) gi).2.2 M102
  refine j_istore_n C 2 [(2, .int (sI 0)), (0, .ref (ad 78)), (1, .int (sI 0))] dX8_term_6 rfl (by decide) rfl ?_
  have L135 : ∀ (n133 : Nat), ∀ (a136 : Int) (M137 : mm_M) (gq138 : Int), (0 ≤ a136 ∧ a136 ≤ 900 ∧ (b01 (LL (luP gf gn 2042 2042 (atP gf gn false (suR gf gn 5))) gn ((atP gf gn false (suR gf gn 5)) gi).2.2 gq138 a136 (M102.1 78 5).toInt (M102.1 78 6).toInt (M137.1 78 5).toInt (M137.1 78 6).toInt (psX M137)) = 1) ∧ (b01 (LC AGC (M137.1 78 5).toInt (luL gf gn 2042 2042 (atP gf gn false (suR gf gn 5)) (atL gf gn false (sLR gf gn 5))) ((atP gf gn false (suR gf gn 5)) gi).2.2 gq138 M102 M137) = 1) ∧ (csX M137 - csX M102 ≤ (M137.1 78 2).toInt - (M102.1 78 2).toInt) ∧ (b01 (TKX gf gn M137) = 1) ∧ (b01 (PO gn gq138 (M137.1 78 5).toInt (psX M137)) = 1) ∧ (b01 (RFX M0 M137) = 1) ∧ (900 - a136) < (n133 : Int)) → INV pr Kz M137 → jj p l e (cn_R 22) s m args below meth c 0 0 Q 3 dC dI ad cA A M137 7 [(0, .ref (ad 78)), (1, .int (sI 0)), (2, .int (sI a136))] [] := by
    intro n133
    induction n133 with
    | zero =>
      intro a136 M137 gq138 h139 hM137
      exfalso; omega
    | succ n133 ih134 =>
      intro a136 M137 gq138 h139 hM137
      have u140b := tkx_b (f := gf) (n := gn) (M := M137) (by exact h139.2.2.2.2.2.1)
      refine j_iload_n C 2 2 dX8_term_7 rfl rfl ?_
      refine y_sipush C dX8_term_8 rfl ?_
      refine y_icmp_ge C 59 dX8_term_11 (by decide) (by exact ⟨⟨(by (clear u140b hM137 ih134 u105c u105l qM102 bM102 h104 hM102 hret C hp2 hp1 hp0 hpr hM0; omega)), (by (clear u140b hM137 ih134 u105c u105l qM102 bM102 h104 hM102 hret C hp2 hp1 hp0 hpr hM0; omega))⟩, ⟨(by decide), (by decide)⟩⟩) (fun h141 => ?_) (fun h141 => ?_)
      · have u164e := ll_e gf gn 2042 2042 (atP gf gn false (suR gf gn 5)) ((atP gf gn false (suR gf gn 5)) gi).2.2 gq138 a136 (M102.1 78 5).toInt (M102.1 78 6).toInt (M137.1 78 5).toInt (M137.1 78 6).toInt (psX M137) (by decide) (at_g gf gn (fun _ => suR_g gf gn 5)) (by exact h139.2.2.1) (by (clear u140b hM137 ih134 u105c u105l qM102 h104 hM102 hret C hp2 hp1 hp0 hpr hM0; omega))
        have u164r : b01 (RR ((teP gf gn false (suR gf gn 5)) gi) (M0.1 78 5).toInt (M0.1 78 6).toInt (M137.1 78 5).toInt (M137.1 78 6).toInt (psX M137)) = 1 := rr_sq ((atP gf gn false (suR gf gn 5)) gi) (luP gf gn 2042 2042 (atP gf gn false (suR gf gn 5))) (M0.1 78 5).toInt (M0.1 78 6).toInt (M102.1 78 5).toInt (M102.1 78 6).toInt (psX M102) (M137.1 78 5).toInt (M137.1 78 6).toInt (psX M137) (by exact h104.2.2.2.1) (by exact u164e)
        have u164x := lc_e gf gn 2042 2042 (atP gf gn false (suR gf gn 5)) ((atL gf gn false (sLR gf gn 5))) (by decide) (show b01 (LC AGC (M137.1 78 5).toInt (luL gf gn 2042 2042 (atP gf gn false (suR gf gn 5)) (atL gf gn false (sLR gf gn 5))) ((atP gf gn false (suR gf gn 5)) gi).2.2 gq138 M102 M137) = 1 by exact h139.2.2.2.1) (show b01 (LL (luP gf gn 2042 2042 (atP gf gn false (suR gf gn 5))) gn ((atP gf gn false (suR gf gn 5)) gi).2.2 gq138 a136 (M102.1 78 5).toInt (M102.1 78 6).toInt (M137.1 78 5).toInt (M137.1 78 6).toInt (psX M137)) = 1 by exact h139.2.2.1) (by omega)
        have u164l : b01 (CL AGC (M137.1 78 5).toInt M0 M137 ((teL gf gn false (suR gf gn 5) (sLR gf gn 5)) gi)) = 1 := cl_e (cl_t (show b01 (CL AGC (M102.1 78 5).toInt M0 M102 ((atL gf gn false (sLR gf gn 5)) gi)) = 1 by exact h104.2.1) u164x (fun z => rr_z (show b01 (RR ((luP gf gn 2042 2042 (atP gf gn false (suR gf gn 5))) ((atP gf gn false (suR gf gn 5)) gi).2.2) (M102.1 78 5).toInt (M102.1 78 6).toInt (M137.1 78 5).toInt (M137.1 78 6).toInt (psX M137)) = 1 by exact u164e) z)) (fun z => rfl)
        have zr := (show b01 (RFX M0 M137) = 1 by exact h139.2.2.2.2.2.2.2.1); exact hret _ _ _ dX8_term_59 ⟨hM137, by exact ⟨(by (clear zr u164x u164e h141 u140b hM137 ih134 u105c u105l qM102 bM102 hM102 hret C hp2 hp1 hp0 hpr hM0; omega)), ⟨u164l, ⟨h139.2.2.2.2.2.1, ⟨u164r, h139.2.2.2.2.2.2.2.1⟩⟩⟩⟩⟩
      · refine j_aload_n C 0 0 dX8_term_14 rfl rfl ?_
        refine y_getI C 7 _ _ fX8_term_22 rfl rfl ft_7_5 sb_7_5 hM137 dX8_term_15 (fun a142 ea142 la142 ua142 => ?_)
        refine y_if_ne C 59 dX8_term_18 (by decide) (by (clear h141 u140b hM137 h139 ih134 u105c u105l qM102 bM102 h104 hM102 hret C hp2 hp1 hp0 hpr hM0; omega)) (fun h144 => ?_) (fun h144 => ?_)
        · have u165e := ll_e gf gn 2042 2042 (atP gf gn false (suR gf gn 5)) ((atP gf gn false (suR gf gn 5)) gi).2.2 gq138 a136 (M102.1 78 5).toInt (M102.1 78 6).toInt (M137.1 78 5).toInt (M137.1 78 6).toInt (psX M137) (by decide) (at_g gf gn (fun _ => suR_g gf gn 5)) (by exact h139.2.2.1) (by (clear ua142 la142 h141 u140b hM137 h139 ih134 u105c u105l qM102 bM102 h104 hM102 hret C hp2 hp1 hp0 hpr hM0; omega))
          have u165r : b01 (RR ((teP gf gn false (suR gf gn 5)) gi) (M0.1 78 5).toInt (M0.1 78 6).toInt (M137.1 78 5).toInt (M137.1 78 6).toInt (psX M137)) = 1 := rr_sq ((atP gf gn false (suR gf gn 5)) gi) (luP gf gn 2042 2042 (atP gf gn false (suR gf gn 5))) (M0.1 78 5).toInt (M0.1 78 6).toInt (M102.1 78 5).toInt (M102.1 78 6).toInt (psX M102) (M137.1 78 5).toInt (M137.1 78 6).toInt (psX M137) (by exact h104.2.2.2.1) (by exact u165e)
          have u165x := lc_e gf gn 2042 2042 (atP gf gn false (suR gf gn 5)) ((atL gf gn false (sLR gf gn 5))) (by decide) (show b01 (LC AGC (M137.1 78 5).toInt (luL gf gn 2042 2042 (atP gf gn false (suR gf gn 5)) (atL gf gn false (sLR gf gn 5))) ((atP gf gn false (suR gf gn 5)) gi).2.2 gq138 M102 M137) = 1 by exact h139.2.2.2.1) (show b01 (LL (luP gf gn 2042 2042 (atP gf gn false (suR gf gn 5))) gn ((atP gf gn false (suR gf gn 5)) gi).2.2 gq138 a136 (M102.1 78 5).toInt (M102.1 78 6).toInt (M137.1 78 5).toInt (M137.1 78 6).toInt (psX M137)) = 1 by exact h139.2.2.1) (by omega)
          have u165l : b01 (CL AGC (M137.1 78 5).toInt M0 M137 ((teL gf gn false (suR gf gn 5) (sLR gf gn 5)) gi)) = 1 := cl_e (cl_t (show b01 (CL AGC (M102.1 78 5).toInt M0 M102 ((atL gf gn false (sLR gf gn 5)) gi)) = 1 by exact h104.2.1) u165x (fun z => rr_z (show b01 (RR ((luP gf gn 2042 2042 (atP gf gn false (suR gf gn 5))) ((atP gf gn false (suR gf gn 5)) gi).2.2) (M102.1 78 5).toInt (M102.1 78 6).toInt (M137.1 78 5).toInt (M137.1 78 6).toInt (psX M137)) = 1 by exact u165e) z)) (fun z => rfl)
          have zr := (show b01 (RFX M0 M137) = 1 by exact h139.2.2.2.2.2.2.2.1); exact hret _ _ _ dX8_term_59 ⟨hM137, by exact ⟨(by (clear zr u165x u165e h144 ua142 la142 ea142 h141 u140b hM137 ih134 u105c u105l qM102 bM102 hM102 hret C hp2 hp1 hp0 hpr hM0; omega)), ⟨u165l, ⟨h139.2.2.2.2.2.1, ⟨u165r, h139.2.2.2.2.2.2.2.1⟩⟩⟩⟩⟩
        · refine j_aload_n C 0 0 dX8_term_21 rfl rfl ?_
          refine j_callVi C (d := 0) (As := []) (st := []) 78 (s_lt rfl rfl) (s_kc (c := 7) rfl rfl) (by decide) rfl (s1_X8_token hM137 gf gn gq138 (by exact h139.2.2.2.2.2.1) (by exact h139.2.2.2.2.2.2.1)) gX8_term_X8_token rfl hdX8_token (by decide) (Nat.le_of_ble_eq_true rfl) dX8_term_22 rfl (fun r145 M146 h147 => ?_)
          obtain ⟨a149, rfl, rfl, h148⟩ := h147
          refine y_sipush C dX8_term_25 rfl ?_
          refine y_icmp_ne C 59 dX8_term_28 (by decide) (by exact ⟨⟨h148.1, h148.2.1⟩, ⟨(by decide), (by decide)⟩⟩) (fun h150 => ?_) (fun h150 => ?_)
          · have u166e := ll_e gf gn 2042 2042 (atP gf gn false (suR gf gn 5)) ((atP gf gn false (suR gf gn 5)) gi).2.2 gq138 a136 (M102.1 78 5).toInt (M102.1 78 6).toInt (M137.1 78 5).toInt (M137.1 78 6).toInt (psX M137) (by decide) (at_g gf gn (fun _ => suR_g gf gn 5)) (by exact h139.2.2.1) (by (clear h144 ua142 la142 ea142 h141 u140b hM137 h139 ih134 u105c u105l qM102 bM102 h104 hM102 hret C hp2 hp1 hp0 hpr hM0; omega))
            have u166r : b01 (RR ((teP gf gn false (suR gf gn 5)) gi) (M0.1 78 5).toInt (M0.1 78 6).toInt (M137.1 78 5).toInt (M137.1 78 6).toInt (psX M137)) = 1 := rr_sq ((atP gf gn false (suR gf gn 5)) gi) (luP gf gn 2042 2042 (atP gf gn false (suR gf gn 5))) (M0.1 78 5).toInt (M0.1 78 6).toInt (M102.1 78 5).toInt (M102.1 78 6).toInt (psX M102) (M137.1 78 5).toInt (M137.1 78 6).toInt (psX M137) (by exact h104.2.2.2.1) (by exact u166e)
            have u166x := lc_e gf gn 2042 2042 (atP gf gn false (suR gf gn 5)) ((atL gf gn false (sLR gf gn 5))) (by decide) (show b01 (LC AGC (M137.1 78 5).toInt (luL gf gn 2042 2042 (atP gf gn false (suR gf gn 5)) (atL gf gn false (sLR gf gn 5))) ((atP gf gn false (suR gf gn 5)) gi).2.2 gq138 M102 M137) = 1 by exact h139.2.2.2.1) (show b01 (LL (luP gf gn 2042 2042 (atP gf gn false (suR gf gn 5))) gn ((atP gf gn false (suR gf gn 5)) gi).2.2 gq138 a136 (M102.1 78 5).toInt (M102.1 78 6).toInt (M137.1 78 5).toInt (M137.1 78 6).toInt (psX M137)) = 1 by exact h139.2.2.1) (by omega)
            have u166l : b01 (CL AGC (M137.1 78 5).toInt M0 M137 ((teL gf gn false (suR gf gn 5) (sLR gf gn 5)) gi)) = 1 := cl_e (cl_t (show b01 (CL AGC (M102.1 78 5).toInt M0 M102 ((atL gf gn false (sLR gf gn 5)) gi)) = 1 by exact h104.2.1) u166x (fun z => rr_z (show b01 (RR ((luP gf gn 2042 2042 (atP gf gn false (suR gf gn 5))) ((atP gf gn false (suR gf gn 5)) gi).2.2) (M102.1 78 5).toInt (M102.1 78 6).toInt (M137.1 78 5).toInt (M137.1 78 6).toInt (psX M137)) = 1 by exact u166e) z)) (fun z => rfl)
            have zr := (show b01 (RFX M0 M137) = 1 by exact h139.2.2.2.2.2.2.2.1); exact hret _ _ _ dX8_term_59 ⟨hM137, by exact ⟨(by (clear zr u166x u166e h150 h148 h144 ua142 la142 ea142 h141 u140b hM137 ih134 u105c u105l qM102 bM102 hM102 hret C hp2 hp1 hp0 hpr hM0; omega)), ⟨u166l, ⟨h139.2.2.2.2.2.1, ⟨u166r, h139.2.2.2.2.2.2.2.1⟩⟩⟩⟩⟩
          · refine j_aload_n C 0 0 dX8_term_31 rfl rfl ?_
            refine j_dup C dX8_term_32 rfl ?_
            refine y_getI C 7 _ _ fX8_term_18 rfl rfl ft_7_2 sb_7_2 hM137 dX8_term_33 (fun a151 ea151 la151 ua151 => ?_)
            refine y_iconst C dX8_term_36 ?_
            refine y_iadd C dX8_term_37 ?_
            refine y_putI C 7 _ _ qX8_term_18 rfl rfl ft_7_2 sb_7_2 hM137 (PX.w hpr rfl rfl) dX8_term_38 (by (clear ua151 la151 h150 h148 h144 ua142 la142 ea142 h141 hM137 h139 ih134 u105c u105l qM102 bM102 h104 hM102 hret C hp2 hp1 hp0 hpr hM0; omega)) (fun M153 eM153 hM153 => ?_)
            have xM153 := tkx_j (f := gf) (n := gn) (gi := gq138) eM153 (by exact h139.2.2.2.2.2.1) (by exact ea151) (by (clear hM153 eM153 ua151 la151 ea151 h144 ua142 la142 ea142 h141 u140b hM137 h139 ih134 u105c u105l qM102 bM102 h104 hM102 hret C hp2 hp1 hp0 hpr hM0; omega)) (by exact h139.2.2.2.2.2.2.1)
            have dM153 := cs_w hM137 (c := 7) rfl eM153 (by decide)
            have gM153 := s_wr eM153 (by (clear dM153 xM153 hM153 eM153 ua151 la151 h150 h148 h144 ua142 la142 ea142 h141 hM137 h139 ih134 u105c u105l qM102 bM102 h104 hM102 hret C hp2 hp1 hp0 hpr hM0; omega))
            refine j_aload_n C 0 0 dX8_term_41 rfl rfl ?_
            refine j_iload_n C 1 1 dX8_term_42 rfl rfl ?_
            refine j_callVv C (d := 21) (As := [.int (sI 0)]) (st := []) 78 (s_lt rfl rfl) (s_kc (c := 7) rfl rfl) (by decide) rfl (s8_X8_atom hM153 hpr gf gn (nxF gf gn gq138) (by (clear xM153 hM153 eM153 ua151 la151 h150 h148 h144 ua142 la142 ea142 h141 u140b hM137 ih134 u105c u105l qM102 bM102 hM102 hret C hp2 hp1 hpr hM0; omega)) (by exact xM153.1) (by exact xM153.2.2.2)) gX8_term_X8_atom rfl hdX8_atom (by decide) (Nat.le_of_ble_eq_true rfl) dX8_term_43 rfl (fun M155 h156 => ?_)
            obtain ⟨hM155, h157⟩ := h156
            have bM155 := tkx_b (f := gf) (n := gn) (M := M155) (by exact h157.2.2.1)
            have qM155 := po_rr (atP gf gn false (suR gf gn 5)) gn (nxF gf gn gq138) (M153.1 78 5).toInt (M153.1 78 6).toInt (psX M153) (M155.1 78 5).toInt (M155.1 78 6).toInt (psX M155) (at_g gf gn (fun _ => suR_g gf gn 5)) (by exact xM153.2.2.2) (by exact h157.2.2.2.1)
            refine j_aload_n C 0 0 dX8_term_46 rfl rfl ?_
            refine y_sipush C dX8_term_47 rfl ?_
            have u158b := tkx_b (f := gf) (n := gn) (M := M155) (by exact h157.2.2.1)
            refine j_callVv C (d := 0) (As := [.int (sI 2042)]) (st := []) 78 (s_lt rfl rfl) (s_kc (c := 7) rfl rfl) (by decide) rfl (s1_X8_emit hM155 hpr 2042 (by exact ⟨(by decide), (by decide)⟩) gf gn ((atP gf gn false (suR gf gn 5)) (nxF gf gn gq138)).2.2 (by (clear u158b qM155 hM155 xM153 hM153 eM153 ua151 la151 h150 h148 h144 ua142 la142 ea142 h141 u140b hM137 ih134 u105c u105l qM102 bM102 hM102 hret C hp2 hp1 hpr hM0; omega)) (by exact h157.2.2.1) (by exact qM155)) gX8_term_X8_emit rfl hdX8_emit (by decide) (Nat.le_of_ble_eq_true rfl) dX8_term_50 rfl (fun M160 h161 => ?_)
            obtain ⟨hM160, h162⟩ := h161
            have bM160 := tkx_b (f := gf) (n := gn) (M := M160) (by exact h162.2.2.2.2.2.2.1)
            have qM160 := po_eq gn ((atP gf gn false (suR gf gn 5)) (nxF gf gn gq138)).2.2 (M155.1 78 5).toInt (psX M155) (M160.1 78 5).toInt (psX M160) (by exact qM155) (by exact h162.2.1.1) (by exact h162.1)
            refine y_iinc C 2 [(2, .int (sI (a136 + 1))), (0, .ref (ad 78)), (1, .int (sI 0))] dX8_term_53 rfl (by decide) rfl ?_
            have u163s := ll_s gf gn 2042 2042 (atP gf gn false (suR gf gn 5)) ((atP gf gn false (suR gf gn 5)) gi).2.2 gq138 a136 (M102.1 78 5).toInt (M102.1 78 6).toInt (M137.1 78 5).toInt (M137.1 78 6).toInt (psX M137) (M153.1 78 5).toInt (M153.1 78 6).toInt (M155.1 78 5).toInt (M155.1 78 6).toInt (psX M155) (M160.1 78 5).toInt (M160.1 78 6).toInt (psX M160) (by decide) (at_g gf gn (fun _ => suR_g gf gn 5)) (by exact h139.2.2.1) (by (clear qM160 bM160 h162 hM160 u158b qM155 bM155 h157 hM155 gM153 dM153 xM153 hM153 eM153 ua151 la151 ea151 h150 h148 ua142 la142 h141 u140b hM137 h139 ih134 u105c u105l qM102 bM102 h104 hM102 hret C hp2 hp1 hp0 hpr hM0; omega)) (by (clear qM160 bM160 h162 hM160 u158b qM155 bM155 h157 hM155 gM153 dM153 xM153 hM153 eM153 ua151 la151 ea151 h144 ua142 la142 ea142 h141 u140b hM137 h139 ih134 u105c u105l qM102 bM102 h104 hM102 hret C hp2 hp1 hp0 hpr hM0; omega)) (by exact xM153.2.1) (by exact xM153.2.2.1) (by exact h157.2.2.2.1) (by exact h162.2.1.1) (by exact h162.2.1.2) (by exact h162.1)
            have u163c := lc_s gf gn 2042 2042 (atP gf gn false (suR gf gn 5)) (atL gf gn false (sLR gf gn 5)) (by decide) (at_g gf gn (fun _ => suR_g gf gn 5)) (show b01 (LC AGC (M137.1 78 5).toInt (luL gf gn 2042 2042 (atP gf gn false (suR gf gn 5)) (atL gf gn false (sLR gf gn 5))) ((atP gf gn false (suR gf gn 5)) gi).2.2 gq138 M102 M137) = 1 by exact h139.2.2.2.1) (show b01 (PO gn gq138 (M137.1 78 5).toInt (psX M137)) = 1 by exact h139.2.2.2.2.2.2.1) (by omega) (show b01 (RR ((atP gf gn false (suR gf gn 5)) (nxF gf gn gq138)) (M153.1 78 5).toInt (M153.1 78 6).toInt (M155.1 78 5).toInt (M155.1 78 6).toInt (psX M155)) = 1 by exact h157.2.2.2.1) (fun z => by omega) (cl_e (L := ([] ++ ((atL gf gn false (sLR gf gn 5)) (nxF gf gn gq138))) ++ [cmF 2042]) (cl_t (cl_t (cl_r (A := AGC) (M := M137) (N := M153) (M153.1 78 5).toInt (agc_78 eM153)) (show b01 (CL AGC (M155.1 78 5).toInt M153 M155 ((atL gf gn false (sLR gf gn 5)) (nxF gf gn gq138))) = 1 by exact h157.2.1) (fun z => rr_z (show b01 (RR ((atP gf gn false (suR gf gn 5)) (nxF gf gn gq138)) (M153.1 78 5).toInt (M153.1 78 6).toInt (M155.1 78 5).toInt (M155.1 78 6).toInt (psX M155)) = 1 by exact h157.2.2.2.1) z)) (show b01 (CL AGC (M160.1 78 5).toInt M155 M160 [cmF 2042]) = 1 by exact h162.2.2.2.2.2.1) (fun z => by (clear u163s qM160 bM160 hM160 u158b qM155 bM155 h157 hM155 gM153 dM153 xM153 hM153 eM153 ua151 la151 ea151 h150 h148 h144 ua142 la142 ea142 h141 u140b hM137 h139 ih134 u105c u105l qM102 bM102 h104 hM102 hret C hp2 hp1 hp0 hpr hM0; omega))) (fun z => by rw [show tkF gf gn (psX M137) = 2042 by (clear z u163s qM160 bM160 h162 hM160 u158b qM155 bM155 h157 hM155 gM153 dM153 xM153 hM153 eM153 ua151 la151 ea151 h144 ua142 la142 ea142 h141 u140b hM137 h139 ih134 u105c u105l qM102 bM102 h104 hM102 hret C hp2 hp1 hp0 hpr hM0; omega), List.nil_append]) : b01 (CL AGC (M160.1 78 5).toInt M137 M160 (((atL gf gn false (sLR gf gn 5)) (nxF gf gn gq138)) ++ [cmF (tkF gf gn (psX M137))])) = 1) (fun z => by omega)
            refine j_goto C 7 dX8_term_56 (by decide) ?_
            have zr := (rfx_t (rfx_t (rfx_i (show b01 (RFX M0 M137) = 1 by exact h139.2.2.2.2.2.2.2.1) eM153 (by decide)) (show b01 (RFX M153 M155) = 1 by exact h157.2.2.2.2)) (show b01 (RFX M155 M160) = 1 by exact h162.2.2.2.2.2.2.2)); refine j_lv [1, 2, 0] rfl ?_; exact ih134 (a136 + 1) M160 ((atP gf gn false (suR gf gn 5)) (nxF gf gn gq138)).2.2 (by exact ⟨(by (clear bM160 hM160 u158b qM155 bM155 hM155 xM153 hM153 eM153 ua151 la151 h150 h148 h144 ua142 la142 ea142 u140b hM137 ih134 u105c u105l qM102 bM102 h104 hM102 hret C hp2 hp1 hp0 hpr hM0; omega)), ⟨(by (clear bM160 hM160 u158b qM155 bM155 hM155 xM153 hM153 eM153 ua151 la151 h150 h148 h144 ua142 la142 ea142 u140b hM137 ih134 u105c u105l qM102 bM102 h104 hM102 hret C hp2 hp1 hp0 hpr hM0; omega)), ⟨u163s, ⟨u163c, ⟨(by (clear bM160 hM160 u158b qM155 bM155 hM155 xM153 hM153 eM153 ua151 la151 h150 h148 h144 ua142 la142 ea142 u140b hM137 ih134 u105c u105l qM102 bM102 h104 hM102 hret C hp2 hp1 hp0 hpr hM0; omega)), ⟨h162.2.2.2.2.2.2.1, ⟨qM160, ⟨zr, (by (clear bM160 hM160 u158b qM155 bM155 hM155 xM153 hM153 eM153 ua151 la151 h150 h148 h144 ua142 la142 ea142 u140b hM137 ih134 u105c u105l qM102 bM102 h104 hM102 hret C hp2 hp1 hp0 hpr hM0; omega))⟩⟩⟩⟩⟩⟩⟩⟩) hM160
  have zr := (rfx_t (rfx_r M0) (show b01 (RFX M0 M102) = 1 by exact h104.2.2.2.2)); refine j_lv [1, 2, 0] rfl ?_; exact L135 2010 0 M102 ((atP gf gn false (suR gf gn 5)) gi).2.2 (by exact ⟨(by decide), ⟨(by decide), ⟨u105l, ⟨u105c, ⟨(by (clear zr L135 bM102 hM102 hret C hp2 hp1 hp0 hpr hM0; omega)), ⟨h104.2.2.1, ⟨qM102, ⟨h104.2.2.2.2, (by decide)⟩⟩⟩⟩⟩⟩⟩⟩) hM102
set_option maxHeartbeats 4000000 in
theorem s8_X8_sum {l : Launch} {dC : Nat → ClassId} {dI : Nat → Nat → Nat} {ad : Nat → Nat} {cA : Nat → ClassId} {pr : Nat → Nat → Bool} {Kz : mm_M} {M0 : mm_M} (hM0 : INV pr Kz M0) (hpr : PX pr) (gf : Nat → Int) (gn : Int) (gi : Int) (hp0 : csX M0 ≤ (M0.1 78 2).toInt) (hp1 : b01 (TKX gf gn M0) = 1) (hp2 : b01 (PO gn gi (M0.1 78 5).toInt (psX M0)) = 1) : Cv l 23 yX8_sum wsX8_sum dC dI ad cA [.ref (ad 78), .int (sI 0)] M0 (fun M' => INV pr Kz M' ∧ (csX M' - csX M0 ≤ (M'.1 78 2).toInt - (M0.1 78 2).toInt) ∧ (b01 (CL AGC (M'.1 78 5).toInt M0 M' ((sLR gf gn 6) gi)) = 1) ∧ (b01 (TKX gf gn M') = 1) ∧ b01 (RR ((suR gf gn 6) gi) (M0.1 78 5).toInt (M0.1 78 6).toInt (M'.1 78 5).toInt (M'.1 78 6).toInt (psX M')) = 1 ∧ (b01 (RFX M0 M') = 1)) := by
  refine cv_of (cc := cX8_sum) (maxL := 4) (lv := [(0, .ref (ad 78)), (1, .int (sI 0))]) (by decide) rfl (Nat.le_of_ble_eq_true rfl) rfl ?_
  intro p e s m args below meth c A Q C hret
  refine j_aload_n C 0 0 dX8_sum_0 rfl rfl ?_
  refine j_iload_n C 1 1 dX8_sum_1 rfl rfl ?_
  refine j_callVv C (d := 22) (As := [.int (sI 0)]) (st := []) 78 (s_lt rfl rfl) (s_kc (c := 7) rfl rfl) (by decide) rfl (s8_X8_term hM0 hpr gf gn gi (by exact hp0) (by exact hp1) (by exact hp2)) gX8_sum_X8_term rfl hdX8_term (by decide) (Nat.le_of_ble_eq_true rfl) dX8_sum_2 rfl (fun M102 h103 => ?_)
  obtain ⟨hM102, h104⟩ := h103
  have bM102 := tkx_b (f := gf) (n := gn) (M := M102) (by exact h104.2.2.1)
  have qM102 := po_rr (teP gf gn false (suR gf gn 5)) gn gi (M0.1 78 5).toInt (M0.1 78 6).toInt (psX M0) (M102.1 78 5).toInt (M102.1 78 6).toInt (psX M102) (te_g gf gn (fun _ => suR_g gf gn 5)) (by exact hp2) (by exact h104.2.2.2.1)
  refine j_aload_n C 0 0 dX8_sum_5 rfl rfl ?_
  refine j_callVi C (d := 0) (As := []) (st := []) 78 (s_lt rfl rfl) (s_kc (c := 7) rfl rfl) (by decide) rfl (s1_X8_token hM102 gf gn ((teP gf gn false (suR gf gn 5)) gi).2.2 (by exact h104.2.2.1) (by exact qM102)) gX8_sum_X8_token rfl hdX8_token (by decide) (Nat.le_of_ble_eq_true rfl) dX8_sum_6 rfl (fun r105 M106 h107 => ?_)
  obtain ⟨a109, rfl, rfl, h108⟩ := h107
  refine j_istore_n C 2 [(2, .int (sI a109)), (0, .ref (ad 78)), (1, .int (sI 0))] dX8_sum_9 rfl (by decide) rfl ?_
  refine y_iconst C dX8_sum_10 ?_
  have u110l := ll_0 (luP gf gn 2043 2045 (teP gf gn false (suR gf gn 5))) gn ((teP gf gn false (suR gf gn 5)) gi).2.2 (M102.1 78 5).toInt (M102.1 78 6).toInt (psX M102) (by exact qM102)
  have u110c := lc_0 (A := AGC) (M102.1 78 5).toInt (luL gf gn 2043 2045 (teP gf gn false (suR gf gn 5)) (teL gf gn false (suR gf gn 5) (sLR gf gn 5))) ((teP gf gn false (suR gf gn 5)) gi).2.2 M102
  refine j_istore_n C 3 [(3, .int (sI 0)), (2, .int (sI a109)), (0, .ref (ad 78)), (1, .int (sI 0))] dX8_sum_11 rfl (by decide) rfl ?_
  have L160 : ∀ (n158 : Nat), ∀ (a161 : Int) (a162 : Int) (M163 : mm_M) (gq164 : Int), ((-2147483648) ≤ a161 ∧ a161 ≤ 2147483647 ∧ 0 ≤ a162 ∧ a162 ≤ 900 ∧ (b01 (LL (luP gf gn 2043 2045 (teP gf gn false (suR gf gn 5))) gn ((teP gf gn false (suR gf gn 5)) gi).2.2 gq164 a162 (M102.1 78 5).toInt (M102.1 78 6).toInt (M163.1 78 5).toInt (M163.1 78 6).toInt (psX M163)) = 1) ∧ (a161 = tkF gf gn (psX M163)) ∧ (b01 (LC AGC (M163.1 78 5).toInt (luL gf gn 2043 2045 (teP gf gn false (suR gf gn 5)) (teL gf gn false (suR gf gn 5) (sLR gf gn 5))) ((teP gf gn false (suR gf gn 5)) gi).2.2 gq164 M102 M163) = 1) ∧ (csX M163 - csX M102 ≤ (M163.1 78 2).toInt - (M102.1 78 2).toInt) ∧ (b01 (TKX gf gn M163) = 1) ∧ (b01 (PO gn gq164 (M163.1 78 5).toInt (psX M163)) = 1) ∧ (b01 (RFX M0 M163) = 1) ∧ (900 - a162) < (n158 : Int)) → INV pr Kz M163 → jj p l e (cn_R 23) s m args below meth c 0 0 Q 4 dC dI ad cA A M163 12 [(0, .ref (ad 78)), (1, .int (sI 0)), (2, .int (sI a161)), (3, .int (sI a162))] [] := by
    intro n158
    induction n158 with
    | zero =>
      intro a161 a162 M163 gq164 h165 hM163
      exfalso; (clear hM163 u110c u110l h108 qM102 bM102 h104 hM102 hret C hp2 hp1 hp0 hpr hM0; omega)
    | succ n158 ih159 =>
      intro a161 a162 M163 gq164 h165 hM163
      have u166b := tkx_b (f := gf) (n := gn) (M := M163) (by exact h165.2.2.2.2.2.2.2.2.1)
      refine j_iload_n C 3 3 dX8_sum_12 rfl rfl ?_
      refine y_sipush C dX8_sum_13 rfl ?_
      refine y_icmp_ge C 71 dX8_sum_16 (by decide) (by exact ⟨⟨(by (clear u166b hM163 ih159 u110c u110l h108 qM102 bM102 h104 hM102 hret C hp2 hp1 hp0 hpr hM0; omega)), (by (clear u166b hM163 ih159 u110c u110l h108 qM102 bM102 h104 hM102 hret C hp2 hp1 hp0 hpr hM0; omega))⟩, ⟨(by decide), (by decide)⟩⟩) (fun h167 => ?_) (fun h167 => ?_)
      · have u209e := ll_e gf gn 2043 2045 (teP gf gn false (suR gf gn 5)) ((teP gf gn false (suR gf gn 5)) gi).2.2 gq164 a162 (M102.1 78 5).toInt (M102.1 78 6).toInt (M163.1 78 5).toInt (M163.1 78 6).toInt (psX M163) (by decide) (te_g gf gn (fun _ => suR_g gf gn 5)) (by exact h165.2.2.2.2.1) (by (clear u166b hM163 ih159 u110c u110l h108 qM102 h104 hM102 hret C hp2 hp1 hp0 hpr hM0; omega))
        have u209r : b01 (RR ((suR gf gn 6) gi) (M0.1 78 5).toInt (M0.1 78 6).toInt (M163.1 78 5).toInt (M163.1 78 6).toInt (psX M163)) = 1 := by rw [su_q gf gn 5 6 rfl]; exact rr_sq ((teP gf gn false (suR gf gn 5)) gi) (luP gf gn 2043 2045 (teP gf gn false (suR gf gn 5))) (M0.1 78 5).toInt (M0.1 78 6).toInt (M102.1 78 5).toInt (M102.1 78 6).toInt (psX M102) (M163.1 78 5).toInt (M163.1 78 6).toInt (psX M163) (by exact h104.2.2.2.1) (by exact u209e)
        have u209x := lc_e gf gn 2043 2045 (teP gf gn false (suR gf gn 5)) ((teL gf gn false (suR gf gn 5) (sLR gf gn 5))) (by decide) (show b01 (LC AGC (M163.1 78 5).toInt (luL gf gn 2043 2045 (teP gf gn false (suR gf gn 5)) (teL gf gn false (suR gf gn 5) (sLR gf gn 5))) ((teP gf gn false (suR gf gn 5)) gi).2.2 gq164 M102 M163) = 1 by exact h165.2.2.2.2.2.2.1) (show b01 (LL (luP gf gn 2043 2045 (teP gf gn false (suR gf gn 5))) gn ((teP gf gn false (suR gf gn 5)) gi).2.2 gq164 a162 (M102.1 78 5).toInt (M102.1 78 6).toInt (M163.1 78 5).toInt (M163.1 78 6).toInt (psX M163)) = 1 by exact h165.2.2.2.2.1) (by omega)
        have u209l : b01 (CL AGC (M163.1 78 5).toInt M0 M163 ((sLR gf gn 6) gi)) = 1 := cl_e (cl_t (show b01 (CL AGC (M102.1 78 5).toInt M0 M102 ((teL gf gn false (suR gf gn 5) (sLR gf gn 5)) gi)) = 1 by exact h104.2.1) u209x (fun z => rr_z (show b01 (RR ((luP gf gn 2043 2045 (teP gf gn false (suR gf gn 5))) ((teP gf gn false (suR gf gn 5)) gi).2.2) (M102.1 78 5).toInt (M102.1 78 6).toInt (M163.1 78 5).toInt (M163.1 78 6).toInt (psX M163)) = 1 by exact u209e) z)) (fun z => su_l gf gn 5 6 rfl gi)
        have zr := (show b01 (RFX M0 M163) = 1 by exact h165.2.2.2.2.2.2.2.2.2.2.1); exact hret _ _ _ dX8_sum_71 ⟨hM163, by exact ⟨(by (clear zr u209x u209e h167 u166b hM163 ih159 u110c u110l h108 qM102 bM102 hM102 hret C hp2 hp1 hp0 hpr hM0; omega)), ⟨u209l, ⟨h165.2.2.2.2.2.2.2.2.1, ⟨u209r, h165.2.2.2.2.2.2.2.2.2.2.1⟩⟩⟩⟩⟩
      · refine j_aload_n C 0 0 dX8_sum_19 rfl rfl ?_
        refine y_getI C 7 _ _ fX8_sum_22 rfl rfl ft_7_5 sb_7_5 hM163 dX8_sum_20 (fun a168 ea168 la168 ua168 => ?_)
        refine y_if_ne C 71 dX8_sum_23 (by decide) (by (clear h167 u166b hM163 h165 ih159 u110c u110l h108 qM102 bM102 h104 hM102 hret C hp2 hp1 hp0 hpr hM0; omega)) (fun h170 => ?_) (fun h170 => ?_)
        · have u210e := ll_e gf gn 2043 2045 (teP gf gn false (suR gf gn 5)) ((teP gf gn false (suR gf gn 5)) gi).2.2 gq164 a162 (M102.1 78 5).toInt (M102.1 78 6).toInt (M163.1 78 5).toInt (M163.1 78 6).toInt (psX M163) (by decide) (te_g gf gn (fun _ => suR_g gf gn 5)) (by exact h165.2.2.2.2.1) (by (clear ua168 la168 h167 u166b hM163 h165 ih159 u110c u110l h108 qM102 bM102 h104 hM102 hret C hp2 hp1 hp0 hpr hM0; omega))
          have u210r : b01 (RR ((suR gf gn 6) gi) (M0.1 78 5).toInt (M0.1 78 6).toInt (M163.1 78 5).toInt (M163.1 78 6).toInt (psX M163)) = 1 := by rw [su_q gf gn 5 6 rfl]; exact rr_sq ((teP gf gn false (suR gf gn 5)) gi) (luP gf gn 2043 2045 (teP gf gn false (suR gf gn 5))) (M0.1 78 5).toInt (M0.1 78 6).toInt (M102.1 78 5).toInt (M102.1 78 6).toInt (psX M102) (M163.1 78 5).toInt (M163.1 78 6).toInt (psX M163) (by exact h104.2.2.2.1) (by exact u210e)
          have u210x := lc_e gf gn 2043 2045 (teP gf gn false (suR gf gn 5)) ((teL gf gn false (suR gf gn 5) (sLR gf gn 5))) (by decide) (show b01 (LC AGC (M163.1 78 5).toInt (luL gf gn 2043 2045 (teP gf gn false (suR gf gn 5)) (teL gf gn false (suR gf gn 5) (sLR gf gn 5))) ((teP gf gn false (suR gf gn 5)) gi).2.2 gq164 M102 M163) = 1 by exact h165.2.2.2.2.2.2.1) (show b01 (LL (luP gf gn 2043 2045 (teP gf gn false (suR gf gn 5))) gn ((teP gf gn false (suR gf gn 5)) gi).2.2 gq164 a162 (M102.1 78 5).toInt (M102.1 78 6).toInt (M163.1 78 5).toInt (M163.1 78 6).toInt (psX M163)) = 1 by exact h165.2.2.2.2.1) (by omega)
          have u210l : b01 (CL AGC (M163.1 78 5).toInt M0 M163 ((sLR gf gn 6) gi)) = 1 := cl_e (cl_t (show b01 (CL AGC (M102.1 78 5).toInt M0 M102 ((teL gf gn false (suR gf gn 5) (sLR gf gn 5)) gi)) = 1 by exact h104.2.1) u210x (fun z => rr_z (show b01 (RR ((luP gf gn 2043 2045 (teP gf gn false (suR gf gn 5))) ((teP gf gn false (suR gf gn 5)) gi).2.2) (M102.1 78 5).toInt (M102.1 78 6).toInt (M163.1 78 5).toInt (M163.1 78 6).toInt (psX M163)) = 1 by exact u210e) z)) (fun z => su_l gf gn 5 6 rfl gi)
          have zr := (show b01 (RFX M0 M163) = 1 by exact h165.2.2.2.2.2.2.2.2.2.2.1); exact hret _ _ _ dX8_sum_71 ⟨hM163, by exact ⟨(by (clear zr u210x u210e h170 ua168 la168 ea168 h167 u166b hM163 ih159 u110c u110l h108 qM102 bM102 hM102 hret C hp2 hp1 hp0 hpr hM0; omega)), ⟨u210l, ⟨h165.2.2.2.2.2.2.2.2.1, ⟨u210r, h165.2.2.2.2.2.2.2.2.2.2.1⟩⟩⟩⟩⟩
        · refine j_iload_n C 2 2 dX8_sum_26 rfl rfl ?_
          refine y_sipush C dX8_sum_27 rfl ?_
          refine y_icmp_eq C 40 dX8_sum_30 (by decide) (by exact ⟨⟨h165.1, h165.2.1⟩, ⟨(by decide), (by decide)⟩⟩) (fun h171 => ?_) (fun h171 => ?_)
          · refine j_aload_n C 0 0 dX8_sum_40 rfl rfl ?_
            refine j_dup C dX8_sum_41 rfl ?_
            refine y_getI C 7 _ _ fX8_sum_18 rfl rfl ft_7_2 sb_7_2 hM163 dX8_sum_42 (fun a172 ea172 la172 ua172 => ?_)
            refine y_iconst C dX8_sum_45 ?_
            refine y_iadd C dX8_sum_46 ?_
            refine y_putI C 7 _ _ qX8_sum_18 rfl rfl ft_7_2 sb_7_2 hM163 (PX.w hpr rfl rfl) dX8_sum_47 (by (clear ua172 la172 h171 h170 ua168 la168 ea168 h167 hM163 h165 ih159 u110c u110l h108 qM102 bM102 h104 hM102 hret C hp2 hp1 hp0 hpr hM0; omega)) (fun M174 eM174 hM174 => ?_)
            have xM174 := tkx_j (f := gf) (n := gn) (gi := gq164) eM174 (by exact h165.2.2.2.2.2.2.2.2.1) (by exact ea172) (by (clear hM174 eM174 ua172 la172 ea172 h170 ua168 la168 ea168 h167 u166b hM163 ih159 u110c u110l h108 qM102 bM102 h104 hM102 hret C hp2 hp1 hp0 hpr hM0; omega)) (by exact h165.2.2.2.2.2.2.2.2.2.1)
            have dM174 := cs_w hM163 (c := 7) rfl eM174 (by decide)
            have gM174 := s_wr eM174 (by (clear dM174 xM174 hM174 eM174 ua172 la172 h171 h170 ua168 la168 ea168 h167 hM163 h165 ih159 u110c u110l h108 qM102 bM102 h104 hM102 hret C hp2 hp1 hp0 hpr hM0; omega))
            refine j_aload_n C 0 0 dX8_sum_50 rfl rfl ?_
            refine j_iload_n C 1 1 dX8_sum_51 rfl rfl ?_
            refine j_callVv C (d := 22) (As := [.int (sI 0)]) (st := []) 78 (s_lt rfl rfl) (s_kc (c := 7) rfl rfl) (by decide) rfl (s8_X8_term hM174 hpr gf gn (nxF gf gn gq164) (by (clear xM174 hM174 eM174 ua172 la172 h171 h170 ua168 la168 ea168 h167 u166b hM163 ih159 u110c u110l h108 qM102 bM102 hM102 hret C hp2 hp1 hpr hM0; omega)) (by exact xM174.1) (by exact xM174.2.2.2)) gX8_sum_X8_term rfl hdX8_term (by decide) (Nat.le_of_ble_eq_true rfl) dX8_sum_52 rfl (fun M176 h177 => ?_)
            obtain ⟨hM176, h178⟩ := h177
            have bM176 := tkx_b (f := gf) (n := gn) (M := M176) (by exact h178.2.2.1)
            have qM176 := po_rr (teP gf gn false (suR gf gn 5)) gn (nxF gf gn gq164) (M174.1 78 5).toInt (M174.1 78 6).toInt (psX M174) (M176.1 78 5).toInt (M176.1 78 6).toInt (psX M176) (te_g gf gn (fun _ => suR_g gf gn 5)) (by exact xM174.2.2.2) (by exact h178.2.2.2.1)
            refine j_aload_n C 0 0 dX8_sum_55 rfl rfl ?_
            refine j_iload_n C 2 2 dX8_sum_56 rfl rfl ?_
            have u179b := tkx_b (f := gf) (n := gn) (M := M176) (by exact h178.2.2.1)
            refine j_callVv C (d := 0) (As := [.int (sI a161)]) (st := []) 78 (s_lt rfl rfl) (s_kc (c := 7) rfl rfl) (by decide) rfl (s1_X8_emit hM176 hpr a161 (by exact ⟨h165.1, h165.2.1⟩) gf gn ((teP gf gn false (suR gf gn 5)) (nxF gf gn gq164)).2.2 (by (clear u179b qM176 hM176 xM174 hM174 eM174 ua172 la172 h171 h170 ua168 la168 ea168 h167 u166b hM163 ih159 u110c u110l h108 qM102 bM102 hM102 hret C hp2 hp1 hpr hM0; omega)) (by exact h178.2.2.1) (by exact qM176)) gX8_sum_X8_emit rfl hdX8_emit (by decide) (Nat.le_of_ble_eq_true rfl) dX8_sum_57 rfl (fun M181 h182 => ?_)
            obtain ⟨hM181, h183⟩ := h182
            have bM181 := tkx_b (f := gf) (n := gn) (M := M181) (by exact h183.2.2.2.2.2.2.1)
            have qM181 := po_eq gn ((teP gf gn false (suR gf gn 5)) (nxF gf gn gq164)).2.2 (M176.1 78 5).toInt (psX M176) (M181.1 78 5).toInt (psX M181) (by exact qM176) (by exact h183.2.1.1) (by exact h183.1)
            refine j_aload_n C 0 0 dX8_sum_60 rfl rfl ?_
            refine j_callVi C (d := 0) (As := []) (st := []) 78 (s_lt rfl rfl) (s_kc (c := 7) rfl rfl) (by decide) rfl (s1_X8_token hM181 gf gn ((teP gf gn false (suR gf gn 5)) (nxF gf gn gq164)).2.2 (by exact h183.2.2.2.2.2.2.1) (by exact qM181)) gX8_sum_X8_token rfl hdX8_token (by decide) (Nat.le_of_ble_eq_true rfl) dX8_sum_61 rfl (fun r184 M185 h186 => ?_)
            obtain ⟨a188, rfl, rfl, h187⟩ := h186
            refine j_istore_n C 2 [(2, .int (sI a188)), (0, .ref (ad 78)), (1, .int (sI 0)), (3, .int (sI a162))] dX8_sum_64 rfl (by decide) rfl ?_
            refine y_iinc C 3 [(3, .int (sI (a162 + 1))), (2, .int (sI a188)), (0, .ref (ad 78)), (1, .int (sI 0))] dX8_sum_65 rfl (by decide) rfl ?_
            have u189s := ll_s gf gn 2043 2045 (teP gf gn false (suR gf gn 5)) ((teP gf gn false (suR gf gn 5)) gi).2.2 gq164 a162 (M102.1 78 5).toInt (M102.1 78 6).toInt (M163.1 78 5).toInt (M163.1 78 6).toInt (psX M163) (M174.1 78 5).toInt (M174.1 78 6).toInt (M176.1 78 5).toInt (M176.1 78 6).toInt (psX M176) (M181.1 78 5).toInt (M181.1 78 6).toInt (psX M181) (by decide) (te_g gf gn (fun _ => suR_g gf gn 5)) (by exact h165.2.2.2.2.1) (by (clear h187 qM181 bM181 h183 hM181 u179b qM176 bM176 h178 hM176 gM174 dM174 xM174 hM174 eM174 ua172 la172 ea172 h171 ua168 la168 h167 u166b hM163 h165 ih159 u110c u110l h108 qM102 bM102 h104 hM102 hret C hp2 hp1 hp0 hpr hM0; omega)) (by (clear h187 qM181 bM181 h183 hM181 u179b qM176 bM176 h178 hM176 gM174 dM174 xM174 hM174 eM174 ua172 la172 ea172 h170 ua168 la168 ea168 h167 u166b hM163 ih159 u110c u110l h108 qM102 bM102 h104 hM102 hret C hp2 hp1 hp0 hpr hM0; omega)) (by exact xM174.2.1) (by exact xM174.2.2.1) (by exact h178.2.2.2.1) (by exact h183.2.1.1) (by exact h183.2.1.2) (by exact h183.1)
            have u189c := lc_s gf gn 2043 2045 (teP gf gn false (suR gf gn 5)) (teL gf gn false (suR gf gn 5) (sLR gf gn 5)) (by decide) (te_g gf gn (fun _ => suR_g gf gn 5)) (show b01 (LC AGC (M163.1 78 5).toInt (luL gf gn 2043 2045 (teP gf gn false (suR gf gn 5)) (teL gf gn false (suR gf gn 5) (sLR gf gn 5))) ((teP gf gn false (suR gf gn 5)) gi).2.2 gq164 M102 M163) = 1 by exact h165.2.2.2.2.2.2.1) (show b01 (PO gn gq164 (M163.1 78 5).toInt (psX M163)) = 1 by exact h165.2.2.2.2.2.2.2.2.2.1) (by omega) (show b01 (RR ((teP gf gn false (suR gf gn 5)) (nxF gf gn gq164)) (M174.1 78 5).toInt (M174.1 78 6).toInt (M176.1 78 5).toInt (M176.1 78 6).toInt (psX M176)) = 1 by exact h178.2.2.2.1) (fun z => by omega) (cl_e (L := ([] ++ ((teL gf gn false (suR gf gn 5) (sLR gf gn 5)) (nxF gf gn gq164))) ++ [cmF a161]) (cl_t (cl_t (cl_r (A := AGC) (M := M163) (N := M174) (M174.1 78 5).toInt (agc_78 eM174)) (show b01 (CL AGC (M176.1 78 5).toInt M174 M176 ((teL gf gn false (suR gf gn 5) (sLR gf gn 5)) (nxF gf gn gq164))) = 1 by exact h178.2.1) (fun z => rr_z (show b01 (RR ((teP gf gn false (suR gf gn 5)) (nxF gf gn gq164)) (M174.1 78 5).toInt (M174.1 78 6).toInt (M176.1 78 5).toInt (M176.1 78 6).toInt (psX M176)) = 1 by exact h178.2.2.2.1) z)) (show b01 (CL AGC (M181.1 78 5).toInt M176 M181 [cmF a161]) = 1 by exact h183.2.2.2.2.2.1) (fun z => by (clear u189s h187 qM181 bM181 hM181 u179b qM176 bM176 h178 hM176 gM174 dM174 xM174 hM174 eM174 ua172 la172 ea172 h171 h170 ua168 la168 ea168 h167 u166b hM163 h165 ih159 u110c u110l h108 qM102 bM102 h104 hM102 hret C hp2 hp1 hp0 hpr hM0; omega))) (fun z => by rw [show tkF gf gn (psX M163) = a161 by exact h165.2.2.2.2.2.1.symm, List.nil_append]) : b01 (CL AGC (M181.1 78 5).toInt M163 M181 (((teL gf gn false (suR gf gn 5) (sLR gf gn 5)) (nxF gf gn gq164)) ++ [cmF (tkF gf gn (psX M163))])) = 1) (fun z => by omega)
            refine j_goto C 12 dX8_sum_68 (by decide) ?_
            have zr := (rfx_t (rfx_t (rfx_i (show b01 (RFX M0 M163) = 1 by exact h165.2.2.2.2.2.2.2.2.2.2.1) eM174 (by decide)) (show b01 (RFX M174 M176) = 1 by exact h178.2.2.2.2)) (show b01 (RFX M176 M181) = 1 by exact h183.2.2.2.2.2.2.2)); refine j_lv [2, 3, 1, 0] rfl ?_; exact ih159 a188 (a162 + 1) M181 ((teP gf gn false (suR gf gn 5)) (nxF gf gn gq164)).2.2 (by exact ⟨h187.1, ⟨h187.2.1, ⟨(by (clear bM181 hM181 u179b qM176 bM176 hM176 xM174 hM174 eM174 ua172 la172 h171 h170 ua168 la168 ea168 u166b hM163 ih159 u110c u110l h108 qM102 bM102 h104 hM102 hret C hp2 hp1 hp0 hpr hM0; omega)), ⟨(by (clear bM181 hM181 u179b qM176 bM176 hM176 xM174 hM174 eM174 ua172 la172 h171 h170 ua168 la168 ea168 u166b hM163 ih159 u110c u110l h108 qM102 bM102 h104 hM102 hret C hp2 hp1 hp0 hpr hM0; omega)), ⟨u189s, ⟨h187.2.2, ⟨u189c, ⟨(by (clear bM181 hM181 u179b qM176 bM176 hM176 xM174 hM174 eM174 ua172 la172 h171 h170 ua168 la168 ea168 u166b hM163 ih159 u110c u110l h108 qM102 bM102 h104 hM102 hret C hp2 hp1 hp0 hpr hM0; omega)), ⟨h183.2.2.2.2.2.2.1, ⟨qM181, ⟨zr, (by (clear bM181 hM181 u179b qM176 bM176 hM176 xM174 hM174 eM174 ua172 la172 h171 h170 ua168 la168 ea168 u166b hM163 ih159 u110c u110l h108 qM102 bM102 h104 hM102 hret C hp2 hp1 hp0 hpr hM0; omega))⟩⟩⟩⟩⟩⟩⟩⟩⟩⟩⟩) hM181
          · refine j_iload_n C 2 2 dX8_sum_33 rfl rfl ?_
            refine y_sipush C dX8_sum_34 rfl ?_
            refine y_icmp_ne C 71 dX8_sum_37 (by decide) (by exact ⟨⟨h165.1, h165.2.1⟩, ⟨(by decide), (by decide)⟩⟩) (fun h190 => ?_) (fun h190 => ?_)
            · have u211e := ll_e gf gn 2043 2045 (teP gf gn false (suR gf gn 5)) ((teP gf gn false (suR gf gn 5)) gi).2.2 gq164 a162 (M102.1 78 5).toInt (M102.1 78 6).toInt (M163.1 78 5).toInt (M163.1 78 6).toInt (psX M163) (by decide) (te_g gf gn (fun _ => suR_g gf gn 5)) (by exact h165.2.2.2.2.1) (by (clear h170 ua168 la168 ea168 h167 u166b hM163 ih159 u110c u110l h108 qM102 bM102 h104 hM102 hret C hp2 hp1 hp0 hpr hM0; omega))
              have u211r : b01 (RR ((suR gf gn 6) gi) (M0.1 78 5).toInt (M0.1 78 6).toInt (M163.1 78 5).toInt (M163.1 78 6).toInt (psX M163)) = 1 := by rw [su_q gf gn 5 6 rfl]; exact rr_sq ((teP gf gn false (suR gf gn 5)) gi) (luP gf gn 2043 2045 (teP gf gn false (suR gf gn 5))) (M0.1 78 5).toInt (M0.1 78 6).toInt (M102.1 78 5).toInt (M102.1 78 6).toInt (psX M102) (M163.1 78 5).toInt (M163.1 78 6).toInt (psX M163) (by exact h104.2.2.2.1) (by exact u211e)
              have u211x := lc_e gf gn 2043 2045 (teP gf gn false (suR gf gn 5)) ((teL gf gn false (suR gf gn 5) (sLR gf gn 5))) (by decide) (show b01 (LC AGC (M163.1 78 5).toInt (luL gf gn 2043 2045 (teP gf gn false (suR gf gn 5)) (teL gf gn false (suR gf gn 5) (sLR gf gn 5))) ((teP gf gn false (suR gf gn 5)) gi).2.2 gq164 M102 M163) = 1 by exact h165.2.2.2.2.2.2.1) (show b01 (LL (luP gf gn 2043 2045 (teP gf gn false (suR gf gn 5))) gn ((teP gf gn false (suR gf gn 5)) gi).2.2 gq164 a162 (M102.1 78 5).toInt (M102.1 78 6).toInt (M163.1 78 5).toInt (M163.1 78 6).toInt (psX M163)) = 1 by exact h165.2.2.2.2.1) (by omega)
              have u211l : b01 (CL AGC (M163.1 78 5).toInt M0 M163 ((sLR gf gn 6) gi)) = 1 := cl_e (cl_t (show b01 (CL AGC (M102.1 78 5).toInt M0 M102 ((teL gf gn false (suR gf gn 5) (sLR gf gn 5)) gi)) = 1 by exact h104.2.1) u211x (fun z => rr_z (show b01 (RR ((luP gf gn 2043 2045 (teP gf gn false (suR gf gn 5))) ((teP gf gn false (suR gf gn 5)) gi).2.2) (M102.1 78 5).toInt (M102.1 78 6).toInt (M163.1 78 5).toInt (M163.1 78 6).toInt (psX M163)) = 1 by exact u211e) z)) (fun z => su_l gf gn 5 6 rfl gi)
              have zr := (show b01 (RFX M0 M163) = 1 by exact h165.2.2.2.2.2.2.2.2.2.2.1); exact hret _ _ _ dX8_sum_71 ⟨hM163, by exact ⟨(by (clear zr u211x u211e h190 h171 h170 ua168 la168 ea168 h167 u166b hM163 ih159 u110c u110l h108 qM102 bM102 hM102 hret C hp2 hp1 hp0 hpr hM0; omega)), ⟨u211l, ⟨h165.2.2.2.2.2.2.2.2.1, ⟨u211r, h165.2.2.2.2.2.2.2.2.2.2.1⟩⟩⟩⟩⟩
            · refine j_aload_n C 0 0 dX8_sum_40 rfl rfl ?_
              refine j_dup C dX8_sum_41 rfl ?_
              refine y_getI C 7 _ _ fX8_sum_18 rfl rfl ft_7_2 sb_7_2 hM163 dX8_sum_42 (fun a191 ea191 la191 ua191 => ?_)
              refine y_iconst C dX8_sum_45 ?_
              refine y_iadd C dX8_sum_46 ?_
              refine y_putI C 7 _ _ qX8_sum_18 rfl rfl ft_7_2 sb_7_2 hM163 (PX.w hpr rfl rfl) dX8_sum_47 (by omega) (fun M193 eM193 hM193 => ?_)
              have xM193 := tkx_j (f := gf) (n := gn) (gi := gq164) eM193 (by exact h165.2.2.2.2.2.2.2.2.1) (by exact ea191) (by (clear hM193 eM193 ua191 la191 ea191 h171 h170 ua168 la168 ea168 h167 u166b hM163 ih159 u110c u110l h108 qM102 bM102 h104 hM102 hret C hp2 hp1 hp0 hpr hM0; omega)) (by exact h165.2.2.2.2.2.2.2.2.2.1)
              have dM193 := cs_w hM163 (c := 7) rfl eM193 (by decide)
              have gM193 := s_wr eM193 (by omega)
              refine j_aload_n C 0 0 dX8_sum_50 rfl rfl ?_
              refine j_iload_n C 1 1 dX8_sum_51 rfl rfl ?_
              refine j_callVv C (d := 22) (As := [.int (sI 0)]) (st := []) 78 (s_lt rfl rfl) (s_kc (c := 7) rfl rfl) (by decide) rfl (s8_X8_term hM193 hpr gf gn (nxF gf gn gq164) (by omega) (by exact xM193.1) (by exact xM193.2.2.2)) gX8_sum_X8_term rfl hdX8_term (by decide) (Nat.le_of_ble_eq_true rfl) dX8_sum_52 rfl (fun M195 h196 => ?_)
              obtain ⟨hM195, h197⟩ := h196
              have bM195 := tkx_b (f := gf) (n := gn) (M := M195) (by exact h197.2.2.1)
              have qM195 := po_rr (teP gf gn false (suR gf gn 5)) gn (nxF gf gn gq164) (M193.1 78 5).toInt (M193.1 78 6).toInt (psX M193) (M195.1 78 5).toInt (M195.1 78 6).toInt (psX M195) (te_g gf gn (fun _ => suR_g gf gn 5)) (by exact xM193.2.2.2) (by exact h197.2.2.2.1)
              refine j_aload_n C 0 0 dX8_sum_55 rfl rfl ?_
              refine j_iload_n C 2 2 dX8_sum_56 rfl rfl ?_
              have u198b := tkx_b (f := gf) (n := gn) (M := M195) (by exact h197.2.2.1)
              refine j_callVv C (d := 0) (As := [.int (sI a161)]) (st := []) 78 (s_lt rfl rfl) (s_kc (c := 7) rfl rfl) (by decide) rfl (s1_X8_emit hM195 hpr a161 (by exact ⟨h165.1, h165.2.1⟩) gf gn ((teP gf gn false (suR gf gn 5)) (nxF gf gn gq164)).2.2 (by omega) (by exact h197.2.2.1) (by exact qM195)) gX8_sum_X8_emit rfl hdX8_emit (by decide) (Nat.le_of_ble_eq_true rfl) dX8_sum_57 rfl (fun M200 h201 => ?_)
              obtain ⟨hM200, h202⟩ := h201
              have bM200 := tkx_b (f := gf) (n := gn) (M := M200) (by exact h202.2.2.2.2.2.2.1)
              have qM200 := po_eq gn ((teP gf gn false (suR gf gn 5)) (nxF gf gn gq164)).2.2 (M195.1 78 5).toInt (psX M195) (M200.1 78 5).toInt (psX M200) (by exact qM195) (by exact h202.2.1.1) (by exact h202.1)
              refine j_aload_n C 0 0 dX8_sum_60 rfl rfl ?_
              refine j_callVi C (d := 0) (As := []) (st := []) 78 (s_lt rfl rfl) (s_kc (c := 7) rfl rfl) (by decide) rfl (s1_X8_token hM200 gf gn ((teP gf gn false (suR gf gn 5)) (nxF gf gn gq164)).2.2 (by exact h202.2.2.2.2.2.2.1) (by exact qM200)) gX8_sum_X8_token rfl hdX8_token (by decide) (Nat.le_of_ble_eq_true rfl) dX8_sum_61 rfl (fun r203 M204 h205 => ?_)
              obtain ⟨a207, rfl, rfl, h206⟩ := h205
              refine j_istore_n C 2 [(2, .int (sI a207)), (0, .ref (ad 78)), (1, .int (sI 0)), (3, .int (sI a162))] dX8_sum_64 rfl (by decide) rfl ?_
              refine y_iinc C 3 [(3, .int (sI (a162 + 1))), (2, .int (sI a207)), (0, .ref (ad 78)), (1, .int (sI 0))] dX8_sum_65 rfl (by decide) rfl ?_
              have u208s := ll_s gf gn 2043 2045 (teP gf gn false (suR gf gn 5)) ((teP gf gn false (suR gf gn 5)) gi).2.2 gq164 a162 (M102.1 78 5).toInt (M102.1 78 6).toInt (M163.1 78 5).toInt (M163.1 78 6).toInt (psX M163) (M193.1 78 5).toInt (M193.1 78 6).toInt (M195.1 78 5).toInt (M195.1 78 6).toInt (psX M195) (M200.1 78 5).toInt (M200.1 78 6).toInt (psX M200) (by decide) (te_g gf gn (fun _ => suR_g gf gn 5)) (by exact h165.2.2.2.2.1) (by omega) (by (clear h206 qM200 bM200 h202 hM200 u198b qM195 bM195 h197 hM195 gM193 dM193 xM193 hM193 eM193 ua191 la191 ea191 h171 h170 ua168 la168 ea168 h167 u166b hM163 ih159 u110c u110l h108 qM102 bM102 h104 hM102 hret C hp2 hp1 hp0 hpr hM0; omega)) (by exact xM193.2.1) (by exact xM193.2.2.1) (by exact h197.2.2.2.1) (by exact h202.2.1.1) (by exact h202.2.1.2) (by exact h202.1)
              have u208c := lc_s gf gn 2043 2045 (teP gf gn false (suR gf gn 5)) (teL gf gn false (suR gf gn 5) (sLR gf gn 5)) (by decide) (te_g gf gn (fun _ => suR_g gf gn 5)) (show b01 (LC AGC (M163.1 78 5).toInt (luL gf gn 2043 2045 (teP gf gn false (suR gf gn 5)) (teL gf gn false (suR gf gn 5) (sLR gf gn 5))) ((teP gf gn false (suR gf gn 5)) gi).2.2 gq164 M102 M163) = 1 by exact h165.2.2.2.2.2.2.1) (show b01 (PO gn gq164 (M163.1 78 5).toInt (psX M163)) = 1 by exact h165.2.2.2.2.2.2.2.2.2.1) (by omega) (show b01 (RR ((teP gf gn false (suR gf gn 5)) (nxF gf gn gq164)) (M193.1 78 5).toInt (M193.1 78 6).toInt (M195.1 78 5).toInt (M195.1 78 6).toInt (psX M195)) = 1 by exact h197.2.2.2.1) (fun z => by omega) (cl_e (L := ([] ++ ((teL gf gn false (suR gf gn 5) (sLR gf gn 5)) (nxF gf gn gq164))) ++ [cmF a161]) (cl_t (cl_t (cl_r (A := AGC) (M := M163) (N := M193) (M193.1 78 5).toInt (agc_78 eM193)) (show b01 (CL AGC (M195.1 78 5).toInt M193 M195 ((teL gf gn false (suR gf gn 5) (sLR gf gn 5)) (nxF gf gn gq164))) = 1 by exact h197.2.1) (fun z => rr_z (show b01 (RR ((teP gf gn false (suR gf gn 5)) (nxF gf gn gq164)) (M193.1 78 5).toInt (M193.1 78 6).toInt (M195.1 78 5).toInt (M195.1 78 6).toInt (psX M195)) = 1 by exact h197.2.2.2.1) z)) (show b01 (CL AGC (M200.1 78 5).toInt M195 M200 [cmF a161]) = 1 by exact h202.2.2.2.2.2.1) (fun z => by omega)) (fun z => by rw [show tkF gf gn (psX M163) = a161 by exact h165.2.2.2.2.2.1.symm, List.nil_append]) : b01 (CL AGC (M200.1 78 5).toInt M163 M200 (((teL gf gn false (suR gf gn 5) (sLR gf gn 5)) (nxF gf gn gq164)) ++ [cmF (tkF gf gn (psX M163))])) = 1) (fun z => by omega)
              refine j_goto C 12 dX8_sum_68 (by decide) ?_
              have zr := (rfx_t (rfx_t (rfx_i (show b01 (RFX M0 M163) = 1 by exact h165.2.2.2.2.2.2.2.2.2.2.1) eM193 (by decide)) (show b01 (RFX M193 M195) = 1 by exact h197.2.2.2.2)) (show b01 (RFX M195 M200) = 1 by exact h202.2.2.2.2.2.2.2)); refine j_lv [2, 3, 1, 0] rfl ?_; exact ih159 a207 (a162 + 1) M200 ((teP gf gn false (suR gf gn 5)) (nxF gf gn gq164)).2.2 (by exact ⟨h206.1, ⟨h206.2.1, ⟨(by (clear bM200 hM200 u198b qM195 bM195 hM195 xM193 hM193 eM193 ua191 la191 h190 h171 h170 ua168 la168 ea168 u166b hM163 ih159 u110c u110l h108 qM102 bM102 h104 hM102 hret C hp2 hp1 hp0 hpr hM0; omega)), ⟨(by (clear bM200 hM200 u198b qM195 bM195 hM195 xM193 hM193 eM193 ua191 la191 h190 h171 h170 ua168 la168 ea168 u166b hM163 ih159 u110c u110l h108 qM102 bM102 h104 hM102 hret C hp2 hp1 hp0 hpr hM0; omega)), ⟨u208s, ⟨h206.2.2, ⟨u208c, ⟨(by (clear bM200 hM200 u198b qM195 bM195 hM195 xM193 hM193 eM193 ua191 la191 h190 h171 h170 ua168 la168 ea168 u166b hM163 ih159 u110c u110l h108 qM102 bM102 h104 hM102 hret C hp2 hp1 hp0 hpr hM0; omega)), ⟨h202.2.2.2.2.2.2.1, ⟨qM200, ⟨zr, (by (clear bM200 hM200 u198b qM195 bM195 hM195 xM193 hM193 eM193 ua191 la191 h190 h171 h170 ua168 la168 ea168 u166b hM163 ih159 u110c u110l h108 qM102 bM102 h104 hM102 hret C hp2 hp1 hp0 hpr hM0; omega))⟩⟩⟩⟩⟩⟩⟩⟩⟩⟩⟩) hM200
  have zr := (rfx_t (rfx_r M0) (show b01 (RFX M0 M102) = 1 by exact h104.2.2.2.2)); refine j_lv [2, 3, 1, 0] rfl ?_; exact L160 4294967306 a109 0 M102 ((teP gf gn false (suR gf gn 5)) gi).2.2 (by exact ⟨h108.1, ⟨h108.2.1, ⟨(by decide), ⟨(by decide), ⟨u110l, ⟨h108.2.2, ⟨u110c, ⟨(by (clear zr L160 bM102 hM102 hret C hp2 hp1 hp0 hpr hM0; omega)), ⟨h104.2.2.1, ⟨qM102, ⟨h104.2.2.2.2, (by decide)⟩⟩⟩⟩⟩⟩⟩⟩⟩⟩⟩) hM102
set_option maxHeartbeats 4000000 in
theorem s1_X8_unit {l : Launch} {dC : Nat → ClassId} {dI : Nat → Nat → Nat} {ad : Nat → Nat} {cA : Nat → ClassId} {pr : Nat → Nat → Bool} {Kz : mm_M} {M0 : mm_M} (hM0 : INV pr Kz M0) (hpr : PX pr) (gf : Nat → Int) (gn : Int) (gi : Int) (hp0 : csX M0 ≤ (M0.1 78 2).toInt) (hp1 : 1 ≤ (M0.1 78 5).toInt ∧ (M0.1 78 5).toInt ≤ 4) (hp2 : b01 (TKX gf gn M0) = 1) (hp3 : b01 (PO gn gi (M0.1 78 5).toInt (psX M0)) = 1) : Cv l 0 yX8_unit wsX8_unit dC dI ad cA [.ref (ad 78), .int (sI 7)] M0 (fun M' => INV pr Kz M' ∧ ((M'.1 78 5).toInt = (M0.1 78 5).toInt ∧ (M'.1 78 6).toInt = (M0.1 78 6).toInt) ∧ (csX M' - csX M0 ≤ (M'.1 78 2).toInt - (M0.1 78 2).toInt) ∧ (1 ≤ (M'.1 78 5).toInt ∧ (M'.1 78 5).toInt ≤ 4) ∧ (b01 (TKX gf gn M') = 1) ∧ (b01 (RFX M0 M') = 1)) := by
  refine cv_of (cc := cX8_unit) (maxL := 4) (lv := [(0, .ref (ad 78)), (1, .int (sI 7))]) (by decide) rfl (Nat.le_of_ble_eq_true rfl) rfl ?_
  intro p e s m args below meth c A Q C hret
  refine j_aload_n C 0 0 dX8_unit_0 rfl rfl ?_
  refine y_getI C 7 _ _ fX8_unit_22 rfl rfl ft_7_5 sb_7_5 hM0 dX8_unit_1 (fun a101 ea101 la101 ua101 => ?_)
  refine y_if_eq C 8 dX8_unit_4 (by decide) (by (clear ua101 la101 hret C hp3 hp2 hp0 hpr hM0; omega)) (fun h103 => ?_) (fun h103 => ?_)
  · exfalso; omega
  · have zr := (rfx_r M0); exact hret _ _ _ dX8_unit_7 ⟨hM0, by (clear h103 ua101 la101 hret C hp3 hp0 hpr hM0; omega)⟩
set_option maxHeartbeats 4000000 in
theorem s1_X8_both {l : Launch} {dC : Nat → ClassId} {dI : Nat → Nat → Nat} {ad : Nat → Nat} {cA : Nat → ClassId} {pr : Nat → Nat → Bool} {Kz : mm_M} {M0 : mm_M} (hM0 : INV pr Kz M0) (hpr : PX pr) (gf : Nat → Int) (gn : Int) (gi : Int) (hp0 : csX M0 ≤ (M0.1 78 2).toInt) (hp1 : 1 ≤ (M0.1 78 5).toInt ∧ (M0.1 78 5).toInt ≤ 4) (hp2 : b01 (TKX gf gn M0) = 1) (hp3 : b01 (PO gn gi (M0.1 78 5).toInt (psX M0)) = 1) : Cv l 1 yX8_both wsX8_both dC dI ad cA [.ref (ad 78), .int (sI 7)] M0 (fun M' => INV pr Kz M' ∧ ((M'.1 78 5).toInt = (M0.1 78 5).toInt ∧ (M'.1 78 6).toInt = (M0.1 78 6).toInt) ∧ (csX M' - csX M0 ≤ (M'.1 78 2).toInt - (M0.1 78 2).toInt) ∧ (1 ≤ (M'.1 78 5).toInt ∧ (M'.1 78 5).toInt ≤ 4) ∧ (b01 (TKX gf gn M') = 1) ∧ (b01 (RFX M0 M') = 1)) := by
  refine cv_of (cc := cX8_both) (maxL := 3) (lv := [(0, .ref (ad 78)), (1, .int (sI 7))]) (by decide) rfl (Nat.le_of_ble_eq_true rfl) rfl ?_
  intro p e s m args below meth c A Q C hret
  refine j_aload_n C 0 0 dX8_both_0 rfl rfl ?_
  refine j_iload_n C 1 1 dX8_both_1 rfl rfl ?_
  have z101 := (hM0).rd (i := 78) (c := 7) (k := 5) rfl sb_7_5
  refine j_callVv C (d := 0) (As := [.int (sI 7)]) (st := []) 78 (s_lt rfl rfl) (s_kc (c := 7) rfl rfl) (by decide) rfl (s1_X8_unit hM0 hpr gf gn gi (by exact hp0) (by exact ⟨hp1.1, hp1.2⟩) (by exact hp2) (by exact hp3)) gX8_both_X8_unit rfl hdX8_unit (by decide) (Nat.le_of_ble_eq_true rfl) dX8_both_2 rfl (fun M103 h104 => ?_)
  obtain ⟨hM103, h105⟩ := h104
  have bM103 := tkx_b (f := gf) (n := gn) (M := M103) (by exact h105.2.2.2.1)
  have qM103 := po_f gn gi (M103.1 78 5).toInt (psX M103) (by omega)
  refine y_iconst C dX8_both_5 ?_
  refine j_istore_n C 2 [(2, .int (sI 0)), (0, .ref (ad 78)), (1, .int (sI 7))] dX8_both_6 rfl (by decide) rfl ?_
  have L888 : ∀ (n886 : Nat), ∀ (a889 : Int) (M890 : mm_M) (gq891 : Int), (0 ≤ a889 ∧ a889 ≤ 900 ∧ ((M890.1 78 5).toInt = (M103.1 78 5).toInt ∧ (M890.1 78 6).toInt = (M103.1 78 6).toInt) ∧ (csX M890 - csX M103 ≤ (M890.1 78 2).toInt - (M103.1 78 2).toInt) ∧ (b01 (TKX gf gn M890) = 1) ∧ (b01 (PO gn gq891 (M890.1 78 5).toInt (psX M890)) = 1) ∧ (b01 (RFX M0 M890) = 1) ∧ (900 - a889) < (n886 : Int)) → INV pr Kz M890 → jj p l e (cn_R 1) s m args below meth c 0 0 Q 3 dC dI ad cA A M890 7 [(0, .ref (ad 78)), (1, .int (sI 7)), (2, .int (sI a889))] [] := by
    intro n886
    induction n886 with
    | zero =>
      intro a889 M890 gq891 h892 hM890
      exfalso; omega
    | succ n886 ih887 =>
      intro a889 M890 gq891 h892 hM890
      refine j_iload_n C 2 2 dX8_both_7 rfl rfl ?_
      refine y_sipush C dX8_both_8 rfl ?_
      refine y_icmp_ge C 59 dX8_both_11 (by decide) (by exact ⟨⟨(by (clear hM890 ih887 qM103 bM103 h105 hM103 z101 hret C hp3 hp2 hp1 hp0 hpr hM0; omega)), (by (clear hM890 ih887 qM103 bM103 h105 hM103 z101 hret C hp3 hp2 hp1 hp0 hpr hM0; omega))⟩, ⟨(by decide), (by decide)⟩⟩) (fun h893 => ?_) (fun h893 => ?_)
      · have zr := (show b01 (RFX M0 M890) = 1 by exact h892.2.2.2.2.2.2.1); exact hret _ _ _ dX8_both_59 ⟨hM890, by exact ⟨⟨(by (clear zr h893 hM890 ih887 qM103 bM103 hM103 z101 hret C hp3 hp2 hp0 hpr hM0; omega)), (by (clear zr h893 hM890 ih887 qM103 bM103 hM103 z101 hret C hp3 hp2 hp0 hpr hM0; omega))⟩, ⟨(by (clear zr h893 hM890 ih887 qM103 bM103 hM103 z101 hret C hp3 hp2 hp0 hpr hM0; omega)), ⟨⟨(by (clear zr h893 hM890 ih887 qM103 bM103 hM103 z101 hret C hp3 hp2 hp0 hpr hM0; omega)), (by (clear zr h893 hM890 ih887 qM103 bM103 hM103 z101 hret C hp3 hp2 hp0 hpr hM0; omega))⟩, ⟨h892.2.2.2.2.1, h892.2.2.2.2.2.2.1⟩⟩⟩⟩⟩
      · refine j_aload_n C 0 0 dX8_both_14 rfl rfl ?_
        refine y_getI C 7 _ _ fX8_both_22 rfl rfl ft_7_5 sb_7_5 hM890 dX8_both_15 (fun a894 ea894 la894 ua894 => ?_)
        refine y_if_ne C 59 dX8_both_18 (by decide) (by (clear ua894 la894 h893 hM890 ih887 qM103 bM103 hM103 z101 hret C hp3 hp2 hp0 hpr hM0; omega)) (fun h896 => ?_) (fun h896 => ?_)
        · have zr := (show b01 (RFX M0 M890) = 1 by exact h892.2.2.2.2.2.2.1); exact hret _ _ _ dX8_both_59 ⟨hM890, by exact ⟨⟨(by (clear zr h896 ua894 la894 h893 hM890 ih887 qM103 bM103 hM103 z101 hret C hp3 hp2 hp0 hpr hM0; omega)), (by (clear zr h896 ua894 la894 h893 hM890 ih887 qM103 bM103 hM103 z101 hret C hp3 hp2 hp0 hpr hM0; omega))⟩, ⟨(by (clear zr h896 ua894 la894 h893 hM890 ih887 qM103 bM103 hM103 z101 hret C hp3 hp2 hp0 hpr hM0; omega)), ⟨⟨(by (clear zr h896 ua894 la894 h893 hM890 ih887 qM103 bM103 hM103 z101 hret C hp3 hp2 hp0 hpr hM0; omega)), (by (clear zr h896 ua894 la894 h893 hM890 ih887 qM103 bM103 hM103 z101 hret C hp3 hp2 hp0 hpr hM0; omega))⟩, ⟨h892.2.2.2.2.1, h892.2.2.2.2.2.2.1⟩⟩⟩⟩⟩
        · refine j_aload_n C 0 0 dX8_both_21 rfl rfl ?_
          refine j_callVi C (d := 0) (As := []) (st := []) 78 (s_lt rfl rfl) (s_kc (c := 7) rfl rfl) (by decide) rfl (s1_X8_token hM890 gf gn gq891 (by exact h892.2.2.2.2.1) (by exact h892.2.2.2.2.2.1)) gX8_both_X8_token rfl hdX8_token (by decide) (Nat.le_of_ble_eq_true rfl) dX8_both_22 rfl (fun r897 M898 h899 => ?_)
          obtain ⟨a901, rfl, rfl, h900⟩ := h899
          refine y_sipush C dX8_both_25 rfl ?_
          refine y_icmp_ne C 59 dX8_both_28 (by decide) (by exact ⟨⟨h900.1, h900.2.1⟩, ⟨(by decide), (by decide)⟩⟩) (fun h902 => ?_) (fun h902 => ?_)
          · have zr := (show b01 (RFX M0 M890) = 1 by exact h892.2.2.2.2.2.2.1); exact hret _ _ _ dX8_both_59 ⟨hM890, by exact ⟨⟨(by omega), (by omega)⟩, ⟨(by omega), ⟨⟨(by omega), (by omega)⟩, ⟨h892.2.2.2.2.1, h892.2.2.2.2.2.2.1⟩⟩⟩⟩⟩
          · refine j_aload_n C 0 0 dX8_both_31 rfl rfl ?_
            refine j_dup C dX8_both_32 rfl ?_
            refine y_getI C 7 _ _ fX8_both_18 rfl rfl ft_7_2 sb_7_2 hM890 dX8_both_33 (fun a903 ea903 la903 ua903 => ?_)
            refine y_iconst C dX8_both_36 ?_
            refine y_iadd C dX8_both_37 ?_
            refine y_putI C 7 _ _ qX8_both_18 rfl rfl ft_7_2 sb_7_2 hM890 (PX.w hpr rfl rfl) dX8_both_38 (by omega) (fun M905 eM905 hM905 => ?_)
            have xM905 := tkx_j (f := gf) (n := gn) (gi := gq891) eM905 (by exact h892.2.2.2.2.1) (by exact ea903) (by omega) (by exact h892.2.2.2.2.2.1)
            have dM905 := cs_w hM890 (c := 7) rfl eM905 (by decide)
            have gM905 := s_wr eM905 (by omega)
            refine j_aload_n C 0 0 dX8_both_41 rfl rfl ?_
            refine j_iload_n C 1 1 dX8_both_42 rfl rfl ?_
            have z906 := (hM905).rd (i := 78) (c := 7) (k := 5) rfl sb_7_5
            refine j_callVv C (d := 0) (As := [.int (sI 7)]) (st := []) 78 (s_lt rfl rfl) (s_kc (c := 7) rfl rfl) (by decide) rfl (s1_X8_unit hM905 hpr gf gn (nxF gf gn gq891) (by omega) (by exact ⟨(by omega), z906.2⟩) (by exact xM905.1) (by exact xM905.2.2.2)) gX8_both_X8_unit rfl hdX8_unit (by decide) (Nat.le_of_ble_eq_true rfl) dX8_both_43 rfl (fun M908 h909 => ?_)
            obtain ⟨hM908, h910⟩ := h909
            have bM908 := tkx_b (f := gf) (n := gn) (M := M908) (by exact h910.2.2.2.1)
            have qM908 := po_f gn (nxF gf gn gq891) (M908.1 78 5).toInt (psX M908) (by omega)
            refine j_aload_n C 0 0 dX8_both_46 rfl rfl ?_
            refine y_sipush C dX8_both_47 rfl ?_
            have u911b := tkx_b (f := gf) (n := gn) (M := M908) (by exact h910.2.2.2.1)
            refine j_callVv C (d := 0) (As := [.int (sI 1015)]) (st := []) 78 (s_lt rfl rfl) (s_kc (c := 7) rfl rfl) (by decide) rfl (s1_X8_emit hM908 hpr 1015 (by exact ⟨(by decide), (by decide)⟩) gf gn (nxF gf gn gq891) (by omega) (by exact h910.2.2.2.1) (by exact qM908)) gX8_both_X8_emit rfl hdX8_emit (by decide) (Nat.le_of_ble_eq_true rfl) dX8_both_50 rfl (fun M913 h914 => ?_)
            obtain ⟨hM913, h915⟩ := h914
            have bM913 := tkx_b (f := gf) (n := gn) (M := M913) (by exact h915.2.2.2.2.2.2.1)
            have qM913 := po_eq gn (nxF gf gn gq891) (M908.1 78 5).toInt (psX M908) (M913.1 78 5).toInt (psX M913) (by exact qM908) (by exact h915.2.1.1) (by exact h915.1)
            refine y_iinc C 2 [(2, .int (sI (a889 + 1))), (0, .ref (ad 78)), (1, .int (sI 7))] dX8_both_53 rfl (by decide) rfl ?_
            refine j_goto C 7 dX8_both_56 (by decide) ?_
            have zr := (rfx_t (rfx_t (rfx_i (show b01 (RFX M0 M890) = 1 by exact h892.2.2.2.2.2.2.1) eM905 (by decide)) (show b01 (RFX M905 M908) = 1 by exact h910.2.2.2.2)) (show b01 (RFX M908 M913) = 1 by exact h915.2.2.2.2.2.2.2)); refine j_lv [1, 2, 0] rfl ?_; exact ih887 (a889 + 1) M913 (nxF gf gn gq891) (by exact ⟨(by omega), ⟨(by omega), ⟨⟨(by omega), (by omega)⟩, ⟨(by omega), ⟨h915.2.2.2.2.2.2.1, ⟨qM913, ⟨zr, (by omega)⟩⟩⟩⟩⟩⟩⟩) hM913
  have zr := (rfx_t (rfx_r M0) (show b01 (RFX M0 M103) = 1 by exact h105.2.2.2.2)); refine j_lv [1, 2, 0] rfl ?_; exact L888 2010 0 M103 gi (by (clear zr L888 bM103 hM103 z101 hret C hp3 hp2 hp1 hp0 hpr hM0; omega)) hM103
set_option maxHeartbeats 4000000 in
theorem s1_X8_truth {l : Launch} {dC : Nat → ClassId} {dI : Nat → Nat → Nat} {ad : Nat → Nat} {cA : Nat → ClassId} {pr : Nat → Nat → Bool} {Kz : mm_M} {M0 : mm_M} (hM0 : INV pr Kz M0) (hpr : PX pr) (gf : Nat → Int) (gn : Int) (gi : Int) (hp0 : csX M0 ≤ (M0.1 78 2).toInt) (hp1 : 1 ≤ (M0.1 78 5).toInt ∧ (M0.1 78 5).toInt ≤ 4) (hp2 : b01 (TKX gf gn M0) = 1) (hp3 : b01 (PO gn gi (M0.1 78 5).toInt (psX M0)) = 1) : Cv l 2 yX8_truth wsX8_truth dC dI ad cA [.ref (ad 78), .int (sI 7)] M0 (fun M' => INV pr Kz M' ∧ ((M'.1 78 5).toInt = (M0.1 78 5).toInt ∧ (M'.1 78 6).toInt = (M0.1 78 6).toInt) ∧ (csX M' - csX M0 ≤ (M'.1 78 2).toInt - (M0.1 78 2).toInt) ∧ (1 ≤ (M'.1 78 5).toInt ∧ (M'.1 78 5).toInt ≤ 4) ∧ (b01 (TKX gf gn M') = 1) ∧ (b01 (RFX M0 M') = 1)) := by
  refine cv_of (cc := cX8_truth) (maxL := 3) (lv := [(0, .ref (ad 78)), (1, .int (sI 7))]) (by decide) rfl (Nat.le_of_ble_eq_true rfl) rfl ?_
  intro p e s m args below meth c A Q C hret
  refine j_aload_n C 0 0 dX8_truth_0 rfl rfl ?_
  refine j_iload_n C 1 1 dX8_truth_1 rfl rfl ?_
  have z101 := (hM0).rd (i := 78) (c := 7) (k := 5) rfl sb_7_5
  refine j_callVv C (d := 1) (As := [.int (sI 7)]) (st := []) 78 (s_lt rfl rfl) (s_kc (c := 7) rfl rfl) (by decide) rfl (s1_X8_both hM0 hpr gf gn gi (by exact hp0) (by exact ⟨hp1.1, hp1.2⟩) (by exact hp2) (by exact hp3)) gX8_truth_X8_both rfl hdX8_both (by decide) (Nat.le_of_ble_eq_true rfl) dX8_truth_2 rfl (fun M103 h104 => ?_)
  obtain ⟨hM103, h105⟩ := h104
  have bM103 := tkx_b (f := gf) (n := gn) (M := M103) (by exact h105.2.2.2.1)
  have qM103 := po_f gn gi (M103.1 78 5).toInt (psX M103) (by omega)
  refine y_iconst C dX8_truth_5 ?_
  refine j_istore_n C 2 [(2, .int (sI 0)), (0, .ref (ad 78)), (1, .int (sI 7))] dX8_truth_6 rfl (by decide) rfl ?_
  have L888 : ∀ (n886 : Nat), ∀ (a889 : Int) (M890 : mm_M) (gq891 : Int), (0 ≤ a889 ∧ a889 ≤ 900 ∧ ((M890.1 78 5).toInt = (M103.1 78 5).toInt ∧ (M890.1 78 6).toInt = (M103.1 78 6).toInt) ∧ (csX M890 - csX M103 ≤ (M890.1 78 2).toInt - (M103.1 78 2).toInt) ∧ (b01 (TKX gf gn M890) = 1) ∧ (b01 (PO gn gq891 (M890.1 78 5).toInt (psX M890)) = 1) ∧ (b01 (RFX M0 M890) = 1) ∧ (900 - a889) < (n886 : Int)) → INV pr Kz M890 → jj p l e (cn_R 2) s m args below meth c 0 0 Q 3 dC dI ad cA A M890 7 [(0, .ref (ad 78)), (1, .int (sI 7)), (2, .int (sI a889))] [] := by
    intro n886
    induction n886 with
    | zero =>
      intro a889 M890 gq891 h892 hM890
      exfalso; omega
    | succ n886 ih887 =>
      intro a889 M890 gq891 h892 hM890
      refine j_iload_n C 2 2 dX8_truth_7 rfl rfl ?_
      refine y_sipush C dX8_truth_8 rfl ?_
      refine y_icmp_ge C 59 dX8_truth_11 (by decide) (by exact ⟨⟨(by omega), (by omega)⟩, ⟨(by decide), (by decide)⟩⟩) (fun h893 => ?_) (fun h893 => ?_)
      · have zr := (show b01 (RFX M0 M890) = 1 by exact h892.2.2.2.2.2.2.1); exact hret _ _ _ dX8_truth_59 ⟨hM890, by exact ⟨⟨(by (clear zr h893 hM890 ih887 qM103 bM103 hM103 z101 hret C hp3 hp2 hp0 hpr hM0; omega)), (by (clear zr h893 hM890 ih887 qM103 bM103 hM103 z101 hret C hp3 hp2 hp0 hpr hM0; omega))⟩, ⟨(by (clear zr h893 hM890 ih887 qM103 bM103 hM103 z101 hret C hp3 hp2 hp0 hpr hM0; omega)), ⟨⟨(by (clear zr h893 hM890 ih887 qM103 bM103 hM103 z101 hret C hp3 hp2 hp0 hpr hM0; omega)), (by (clear zr h893 hM890 ih887 qM103 bM103 hM103 z101 hret C hp3 hp2 hp0 hpr hM0; omega))⟩, ⟨h892.2.2.2.2.1, h892.2.2.2.2.2.2.1⟩⟩⟩⟩⟩
      · refine j_aload_n C 0 0 dX8_truth_14 rfl rfl ?_
        refine y_getI C 7 _ _ fX8_truth_22 rfl rfl ft_7_5 sb_7_5 hM890 dX8_truth_15 (fun a894 ea894 la894 ua894 => ?_)
        refine y_if_ne C 59 dX8_truth_18 (by decide) (by omega) (fun h896 => ?_) (fun h896 => ?_)
        · have zr := (show b01 (RFX M0 M890) = 1 by exact h892.2.2.2.2.2.2.1); exact hret _ _ _ dX8_truth_59 ⟨hM890, by exact ⟨⟨(by (clear zr h896 ua894 la894 h893 hM890 ih887 qM103 bM103 hM103 z101 hret C hp3 hp2 hp0 hpr hM0; omega)), (by (clear zr h896 ua894 la894 h893 hM890 ih887 qM103 bM103 hM103 z101 hret C hp3 hp2 hp0 hpr hM0; omega))⟩, ⟨(by (clear zr h896 ua894 la894 h893 hM890 ih887 qM103 bM103 hM103 z101 hret C hp3 hp2 hp0 hpr hM0; omega)), ⟨⟨(by (clear zr h896 ua894 la894 h893 hM890 ih887 qM103 bM103 hM103 z101 hret C hp3 hp2 hp0 hpr hM0; omega)), (by (clear zr h896 ua894 la894 h893 hM890 ih887 qM103 bM103 hM103 z101 hret C hp3 hp2 hp0 hpr hM0; omega))⟩, ⟨h892.2.2.2.2.1, h892.2.2.2.2.2.2.1⟩⟩⟩⟩⟩
        · refine j_aload_n C 0 0 dX8_truth_21 rfl rfl ?_
          refine j_callVi C (d := 0) (As := []) (st := []) 78 (s_lt rfl rfl) (s_kc (c := 7) rfl rfl) (by decide) rfl (s1_X8_token hM890 gf gn gq891 (by exact h892.2.2.2.2.1) (by exact h892.2.2.2.2.2.1)) gX8_truth_X8_token rfl hdX8_token (by decide) (Nat.le_of_ble_eq_true rfl) dX8_truth_22 rfl (fun r897 M898 h899 => ?_)
          obtain ⟨a901, rfl, rfl, h900⟩ := h899
          refine y_sipush C dX8_truth_25 rfl ?_
          refine y_icmp_ne C 59 dX8_truth_28 (by decide) (by exact ⟨⟨h900.1, h900.2.1⟩, ⟨(by decide), (by decide)⟩⟩) (fun h902 => ?_) (fun h902 => ?_)
          · have zr := (show b01 (RFX M0 M890) = 1 by exact h892.2.2.2.2.2.2.1); exact hret _ _ _ dX8_truth_59 ⟨hM890, by exact ⟨⟨(by omega), (by omega)⟩, ⟨(by omega), ⟨⟨(by omega), (by omega)⟩, ⟨h892.2.2.2.2.1, h892.2.2.2.2.2.2.1⟩⟩⟩⟩⟩
          · refine j_aload_n C 0 0 dX8_truth_31 rfl rfl ?_
            refine j_dup C dX8_truth_32 rfl ?_
            refine y_getI C 7 _ _ fX8_truth_18 rfl rfl ft_7_2 sb_7_2 hM890 dX8_truth_33 (fun a903 ea903 la903 ua903 => ?_)
            refine y_iconst C dX8_truth_36 ?_
            refine y_iadd C dX8_truth_37 ?_
            refine y_putI C 7 _ _ qX8_truth_18 rfl rfl ft_7_2 sb_7_2 hM890 (PX.w hpr rfl rfl) dX8_truth_38 (by omega) (fun M905 eM905 hM905 => ?_)
            have xM905 := tkx_j (f := gf) (n := gn) (gi := gq891) eM905 (by exact h892.2.2.2.2.1) (by exact ea903) (by omega) (by exact h892.2.2.2.2.2.1)
            have dM905 := cs_w hM890 (c := 7) rfl eM905 (by decide)
            have gM905 := s_wr eM905 (by omega)
            refine j_aload_n C 0 0 dX8_truth_41 rfl rfl ?_
            refine j_iload_n C 1 1 dX8_truth_42 rfl rfl ?_
            have z906 := (hM905).rd (i := 78) (c := 7) (k := 5) rfl sb_7_5
            refine j_callVv C (d := 1) (As := [.int (sI 7)]) (st := []) 78 (s_lt rfl rfl) (s_kc (c := 7) rfl rfl) (by decide) rfl (s1_X8_both hM905 hpr gf gn (nxF gf gn gq891) (by omega) (by exact ⟨(by omega), z906.2⟩) (by exact xM905.1) (by exact xM905.2.2.2)) gX8_truth_X8_both rfl hdX8_both (by decide) (Nat.le_of_ble_eq_true rfl) dX8_truth_43 rfl (fun M908 h909 => ?_)
            obtain ⟨hM908, h910⟩ := h909
            have bM908 := tkx_b (f := gf) (n := gn) (M := M908) (by exact h910.2.2.2.1)
            have qM908 := po_f gn (nxF gf gn gq891) (M908.1 78 5).toInt (psX M908) (by omega)
            refine j_aload_n C 0 0 dX8_truth_46 rfl rfl ?_
            refine y_sipush C dX8_truth_47 rfl ?_
            have u911b := tkx_b (f := gf) (n := gn) (M := M908) (by exact h910.2.2.2.1)
            refine j_callVv C (d := 0) (As := [.int (sI 1014)]) (st := []) 78 (s_lt rfl rfl) (s_kc (c := 7) rfl rfl) (by decide) rfl (s1_X8_emit hM908 hpr 1014 (by exact ⟨(by decide), (by decide)⟩) gf gn (nxF gf gn gq891) (by omega) (by exact h910.2.2.2.1) (by exact qM908)) gX8_truth_X8_emit rfl hdX8_emit (by decide) (Nat.le_of_ble_eq_true rfl) dX8_truth_50 rfl (fun M913 h914 => ?_)
            obtain ⟨hM913, h915⟩ := h914
            have bM913 := tkx_b (f := gf) (n := gn) (M := M913) (by exact h915.2.2.2.2.2.2.1)
            have qM913 := po_eq gn (nxF gf gn gq891) (M908.1 78 5).toInt (psX M908) (M913.1 78 5).toInt (psX M913) (by exact qM908) (by exact h915.2.1.1) (by exact h915.1)
            refine y_iinc C 2 [(2, .int (sI (a889 + 1))), (0, .ref (ad 78)), (1, .int (sI 7))] dX8_truth_53 rfl (by decide) rfl ?_
            refine j_goto C 7 dX8_truth_56 (by decide) ?_
            have zr := (rfx_t (rfx_t (rfx_i (show b01 (RFX M0 M890) = 1 by exact h892.2.2.2.2.2.2.1) eM905 (by decide)) (show b01 (RFX M905 M908) = 1 by exact h910.2.2.2.2)) (show b01 (RFX M908 M913) = 1 by exact h915.2.2.2.2.2.2.2)); refine j_lv [1, 2, 0] rfl ?_; exact ih887 (a889 + 1) M913 (nxF gf gn gq891) (by exact ⟨(by omega), ⟨(by omega), ⟨⟨(by omega), (by omega)⟩, ⟨(by omega), ⟨h915.2.2.2.2.2.2.1, ⟨qM913, ⟨zr, (by omega)⟩⟩⟩⟩⟩⟩⟩) hM913
  have zr := (rfx_t (rfx_r M0) (show b01 (RFX M0 M103) = 1 by exact h105.2.2.2.2)); refine j_lv [1, 2, 0] rfl ?_; exact L888 2010 0 M103 gi (by omega) hM103
set_option maxHeartbeats 4000000 in
theorem s2_X8_unit {l : Launch} {dC : Nat → ClassId} {dI : Nat → Nat → Nat} {ad : Nat → Nat} {cA : Nat → ClassId} {pr : Nat → Nat → Bool} {Kz : mm_M} {M0 : mm_M} (hM0 : INV pr Kz M0) (hpr : PX pr) (gf : Nat → Int) (gn : Int) (gi : Int) (hp0 : csX M0 ≤ (M0.1 78 2).toInt) (hp1 : b01 (TKX gf gn M0) = 1) (hp2 : b01 (PO gn gi (M0.1 78 5).toInt (psX M0)) = 1) : Cv l 6 yX8_unit wsX8_unit dC dI ad cA [.ref (ad 78), .int (sI 6)] M0 (fun M' => INV pr Kz M' ∧ (csX M' - csX M0 ≤ (M'.1 78 2).toInt - (M0.1 78 2).toInt) ∧ (b01 (CL AGC (M'.1 78 5).toInt M0 M' ((uLR gf gn 0) gi)) = 1) ∧ (b01 (TKX gf gn M') = 1) ∧ b01 (RR ((unR gf gn 0) gi) (M0.1 78 5).toInt (M0.1 78 6).toInt (M'.1 78 5).toInt (M'.1 78 6).toInt (psX M')) = 1 ∧ (b01 (RFX M0 M') = 1)) := by
  refine cv_of (cc := cX8_unit) (maxL := 4) (lv := [(0, .ref (ad 78)), (1, .int (sI 6))]) (by decide) rfl (Nat.le_of_ble_eq_true rfl) rfl ?_
  intro p e s m args below meth c A Q C hret
  refine j_aload_n C 0 0 dX8_unit_0 rfl rfl ?_
  refine y_getI C 7 _ _ fX8_unit_22 rfl rfl ft_7_5 sb_7_5 hM0 dX8_unit_1 (fun a101 ea101 la101 ua101 => ?_)
  refine y_if_eq C 8 dX8_unit_4 (by decide) (by omega) (fun h103 => ?_) (fun h103 => ?_)
  · refine j_aload_n C 0 0 dX8_unit_8 rfl rfl ?_
    refine j_callVi C (d := 0) (As := []) (st := []) 78 (s_lt rfl rfl) (s_kc (c := 7) rfl rfl) (by decide) rfl (s1_X8_token hM0 gf gn gi (by exact hp1) (by exact hp2)) gX8_unit_X8_token rfl hdX8_token (by decide) (Nat.le_of_ble_eq_true rfl) dX8_unit_9 rfl (fun r104 M105 h106 => ?_)
    obtain ⟨a108, rfl, rfl, h107⟩ := h106
    refine j_istore_n C 2 [(2, .int (sI a108)), (0, .ref (ad 78)), (1, .int (sI 6))] dX8_unit_12 rfl (by decide) rfl ?_
    refine j_iload_n C 0 2 dX8_unit_13 rfl rfl ?_
    refine y_sipush C dX8_unit_14 rfl ?_
    refine y_icmp_ne C 42 dX8_unit_17 (by decide) (by exact ⟨⟨h107.1, h107.2.1⟩, ⟨(by decide), (by decide)⟩⟩) (fun h109 => ?_) (fun h109 => ?_)
    · refine j_iload_n C 0 2 dX8_unit_42 rfl rfl ?_
      refine y_sipush C dX8_unit_43 rfl ?_
      refine y_icmp_ne C 71 dX8_unit_46 (by decide) (by exact ⟨⟨h107.1, h107.2.1⟩, ⟨(by decide), (by decide)⟩⟩) (fun h110 => ?_) (fun h110 => ?_)
      · refine j_aload_n C 1 0 dX8_unit_71 rfl rfl ?_
        refine j_iload_n C 2 1 dX8_unit_72 rfl rfl ?_
        refine j_callVv C (d := 5) (As := [.int (sI 6)]) (st := []) 78 (s_lt rfl rfl) (s_kc (c := 7) rfl rfl) (by decide) rfl (s2_X8_sum hM0 hpr gf gn gi (by exact hp0) (by exact hp1) (by exact hp2)) gX8_unit_X8_sum rfl hdX8_sum (by decide) (Nat.le_of_ble_eq_true rfl) dX8_unit_73 rfl (fun M112 h113 => ?_)
        obtain ⟨hM112, h114⟩ := h113
        have bM112 := tkx_b (f := gf) (n := gn) (M := M112) (by exact h114.2.2.1)
        have qM112 := po_rr (suR gf gn 0) gn gi (M0.1 78 5).toInt (M0.1 78 6).toInt (psX M0) (M112.1 78 5).toInt (M112.1 78 6).toInt (psX M112) (suR_g gf gn 0) (by exact hp2) (by exact h114.2.2.2.1)
        refine j_aload_n C 1 0 dX8_unit_76 rfl rfl ?_
        refine j_callVi C (d := 0) (As := []) (st := []) 78 (s_lt rfl rfl) (s_kc (c := 7) rfl rfl) (by decide) rfl (s1_X8_token hM112 gf gn ((suR gf gn 0) gi).2.2 (by exact h114.2.2.1) (by exact qM112)) gX8_unit_X8_token rfl hdX8_token (by decide) (Nat.le_of_ble_eq_true rfl) dX8_unit_77 rfl (fun r115 M116 h117 => ?_)
        obtain ⟨a119, rfl, rfl, h118⟩ := h117
        refine j_istore_n C 3 [(3, .int (sI a119)), (2, .int (sI a108)), (0, .ref (ad 78)), (1, .int (sI 6))] dX8_unit_80 rfl (by decide) rfl ?_
        refine j_iload_n C 0 3 dX8_unit_81 rfl rfl ?_
        refine y_sipush C dX8_unit_82 rfl ?_
        refine y_icmp_eq C 102 dX8_unit_85 (by decide) (by exact ⟨⟨h118.1, h118.2.1⟩, ⟨(by decide), (by decide)⟩⟩) (fun h120 => ?_) (fun h120 => ?_)
        · refine j_aload_n C 2 0 dX8_unit_102 rfl rfl ?_
          refine j_dup C dX8_unit_103 rfl ?_
          refine y_getI C 7 _ _ fX8_unit_18 rfl rfl ft_7_2 sb_7_2 hM112 dX8_unit_104 (fun a121 ea121 la121 ua121 => ?_)
          refine y_iconst C dX8_unit_107 ?_
          refine y_iadd C dX8_unit_108 ?_
          refine y_putI C 7 _ _ qX8_unit_18 rfl rfl ft_7_2 sb_7_2 hM112 (PX.w hpr rfl rfl) dX8_unit_109 (by (clear ua121 la121 h120 h118 qM112 h114 hM112 h110 h109 h107 h103 ua101 la101 ea101 hret C hp2 hp1 hp0 hpr hM0; omega)) (fun M123 eM123 hM123 => ?_)
          have xM123 := tkx_j (f := gf) (n := gn) (gi := ((suR gf gn 0) gi).2.2) eM123 (by exact h114.2.2.1) (by exact ea121) (by (clear hM123 eM123 ua121 la121 ea121 qM112 bM112 h114 hM112 h110 h109 h107 h103 ua101 la101 ea101 hret C hp2 hp1 hp0 hpr hM0; omega)) (by exact qM112)
          have dM123 := cs_w hM112 (c := 7) rfl eM123 (by decide)
          have gM123 := s_wr eM123 (by (clear dM123 xM123 hM123 eM123 ua121 la121 h120 h118 qM112 h114 hM112 h110 h109 h107 h103 ua101 la101 ea101 hret C hp2 hp1 hp0 hpr hM0; omega))
          refine j_aload_n C 2 0 dX8_unit_112 rfl rfl ?_
          refine j_iload_n C 3 1 dX8_unit_113 rfl rfl ?_
          refine j_callVv C (d := 5) (As := [.int (sI 6)]) (st := []) 78 (s_lt rfl rfl) (s_kc (c := 7) rfl rfl) (by decide) rfl (s2_X8_sum hM123 hpr gf gn (nxF gf gn ((suR gf gn 0) gi).2.2) (by (clear xM123 hM123 eM123 ua121 la121 h120 h118 qM112 bM112 hM112 h110 h109 h107 h103 ua101 la101 ea101 hret C hp2 hp1 hpr hM0; omega)) (by exact xM123.1) (by exact xM123.2.2.2)) gX8_unit_X8_sum rfl hdX8_sum (by decide) (Nat.le_of_ble_eq_true rfl) dX8_unit_114 rfl (fun M125 h126 => ?_)
          obtain ⟨hM125, h127⟩ := h126
          have bM125 := tkx_b (f := gf) (n := gn) (M := M125) (by exact h127.2.2.1)
          have qM125 := po_rr (suR gf gn 0) gn (nxF gf gn ((suR gf gn 0) gi).2.2) (M123.1 78 5).toInt (M123.1 78 6).toInt (psX M123) (M125.1 78 5).toInt (M125.1 78 6).toInt (psX M125) (suR_g gf gn 0) (by exact xM123.2.2.2) (by exact h127.2.2.2.1)
          refine j_aload_n C 2 0 dX8_unit_117 rfl rfl ?_
          refine j_iload_n C 0 3 dX8_unit_118 rfl rfl ?_
          have u128b := tkx_b (f := gf) (n := gn) (M := M125) (by exact h127.2.2.1)
          refine j_callVv C (d := 0) (As := [.int (sI a119)]) (st := []) 78 (s_lt rfl rfl) (s_kc (c := 7) rfl rfl) (by decide) rfl (s1_X8_emit hM125 hpr a119 (by exact ⟨h118.1, h118.2.1⟩) gf gn ((suR gf gn 0) (nxF gf gn ((suR gf gn 0) gi).2.2)).2.2 (by (clear u128b qM125 hM125 xM123 hM123 eM123 ua121 la121 h120 h118 qM112 bM112 hM112 h110 h109 h107 h103 ua101 la101 ea101 hret C hp2 hp1 hpr hM0; omega)) (by exact h127.2.2.1) (by exact qM125)) gX8_unit_X8_emit rfl hdX8_emit (by decide) (Nat.le_of_ble_eq_true rfl) dX8_unit_119 rfl (fun M130 h131 => ?_)
          obtain ⟨hM130, h132⟩ := h131
          have bM130 := tkx_b (f := gf) (n := gn) (M := M130) (by exact h132.2.2.2.2.2.2.1)
          have qM130 := po_eq gn ((suR gf gn 0) (nxF gf gn ((suR gf gn 0) gi).2.2)).2.2 (M125.1 78 5).toInt (psX M125) (M130.1 78 5).toInt (psX M130) (by exact qM125) (by exact h132.2.1.1) (by exact h132.1)
          refine j_goto C 130 dX8_unit_122 (by decide) ?_
          have u133r := un_4 gf gn 0 gi (M0.1 78 5).toInt (M0.1 78 6).toInt (psX M0) (M112.1 78 5).toInt (M112.1 78 6).toInt (psX M112) (M123.1 78 5).toInt (M123.1 78 6).toInt (M125.1 78 5).toInt (M125.1 78 6).toInt (psX M125) (M130.1 78 5).toInt (M130.1 78 6).toInt (psX M130) (by exact hp2) (by (clear qM130 bM130 hM130 u128b qM125 bM125 h127 hM125 gM123 dM123 xM123 hM123 eM123 ua121 la121 ea121 h120 h118 qM112 bM112 h114 hM112 h103 ua101 la101 ea101 hret C hp2 hp1 hp0 hpr hM0; omega)) (by exact h114.2.2.2.1) (by exact qM112) (by (clear qM130 bM130 h132 hM130 u128b qM125 bM125 h127 hM125 gM123 dM123 xM123 hM123 eM123 ua121 la121 ea121 qM112 bM112 h114 hM112 h110 h109 h107 h103 ua101 la101 ea101 hret C hp2 hp1 hp0 hpr hM0; omega)) (by exact xM123.2.1) (by exact xM123.2.2.1) (by exact h127.2.2.2.1) (by exact h132.2.1.1) (by exact h132.2.1.2) (by exact h132.1)
          have u133l : b01 (CL AGC (M130.1 78 5).toInt M0 M130 ((uLR gf gn 0) gi)) = 1 := cl_e (cl_t (cl_t (cl_t (show b01 (CL AGC (M112.1 78 5).toInt M0 M112 ((sLR gf gn 0) gi)) = 1 by exact h114.2.1) (cl_r (A := AGC) (M := M112) (N := M123) (M123.1 78 5).toInt (agc_78 eM123)) (fun z => by (clear u133r qM130 bM130 h132 hM130 u128b qM125 bM125 h127 hM125 gM123 dM123 hM123 eM123 ua121 la121 ea121 h120 h118 qM112 bM112 h114 hM112 h110 h109 h107 h103 ua101 la101 ea101 hret C hp2 hp1 hp0 hpr hM0; omega))) (show b01 (CL AGC (M125.1 78 5).toInt M123 M125 ((sLR gf gn 0) (nxF gf gn ((suR gf gn 0) gi).2.2))) = 1 by exact h127.2.1) (fun z => rr_z (show b01 (RR ((suR gf gn 0) (nxF gf gn ((suR gf gn 0) gi).2.2)) (M123.1 78 5).toInt (M123.1 78 6).toInt (M125.1 78 5).toInt (M125.1 78 6).toInt (psX M125)) = 1 by exact h127.2.2.2.1) z)) (show b01 (CL AGC (M130.1 78 5).toInt M125 M130 [cmF a119]) = 1 by exact h132.2.2.2.2.2.1) (fun z => by (clear u133r qM130 bM130 hM130 u128b qM125 bM125 h127 hM125 gM123 dM123 xM123 hM123 eM123 ua121 la121 ea121 h120 h118 qM112 bM112 h114 hM112 h110 h109 h107 h103 ua101 la101 ea101 hret C hp2 hp1 hp0 hpr hM0; omega))) (fun z => by rw [un_l4 gf gn 0 (show b01 (PO gn gi (M0.1 78 5).toInt (psX M0)) = 1 by exact hp2) (by (clear z u133r qM130 bM130 h132 hM130 u128b qM125 bM125 h127 hM125 gM123 dM123 xM123 hM123 eM123 ua121 la121 ea121 h120 h118 qM112 bM112 h114 hM112 h110 h109 h107 ua101 la101 hret C hp2 hp1 hp0 hpr hM0; omega)) (by (clear z u133r qM130 bM130 hM130 u128b qM125 bM125 h127 hM125 gM123 dM123 xM123 hM123 eM123 ua121 la121 ea121 h120 h118 qM112 bM112 h114 hM112 h103 ua101 la101 ea101 hret C hp2 hp1 hp0 hpr hM0; omega)) (show b01 (PO gn ((suR gf gn 0) gi).2.2 (M112.1 78 5).toInt (psX M112)) = 1 by exact qM112) (by have y := (fun z => rr_z (show b01 (RR ((suR gf gn 0) (nxF gf gn ((suR gf gn 0) gi).2.2)) (M123.1 78 5).toInt (M123.1 78 6).toInt (M125.1 78 5).toInt (M125.1 78 6).toInt (psX M125)) = 1 by exact h127.2.2.2.1) z) (show (M125.1 78 5).toInt = 0 by omega); (clear z u133r qM130 bM130 h132 hM130 u128b qM125 bM125 h127 hM125 gM123 dM123 hM123 eM123 ua121 la121 ea121 h120 h118 qM112 bM112 h114 hM112 h110 h109 h107 h103 ua101 la101 ea101 hret C hp2 hp1 hp0 hpr hM0; omega)), show tkF gf gn (psX M112) = a119 by exact h118.2.2.symm]; simp)
          have zr := (rfx_t (rfx_t (rfx_i (rfx_t (rfx_r M0) (show b01 (RFX M0 M112) = 1 by exact h114.2.2.2.2)) eM123 (by decide)) (show b01 (RFX M123 M125) = 1 by exact h127.2.2.2.2)) (show b01 (RFX M125 M130) = 1 by exact h132.2.2.2.2.2.2.2)); exact hret _ _ _ dX8_unit_130 ⟨hM130, by exact ⟨(by (clear qM130 bM130 hM130 u128b qM125 bM125 hM125 xM123 hM123 eM123 ua121 la121 h120 h118 qM112 bM112 hM112 h110 h109 h107 h103 ua101 la101 ea101 hret C hp2 hp1 hp0 hpr hM0; omega)), ⟨u133l, ⟨h132.2.2.2.2.2.2.1, ⟨u133r, zr⟩⟩⟩⟩⟩
        · refine j_iload_n C 0 3 dX8_unit_88 rfl rfl ?_
          refine y_sipush C dX8_unit_89 rfl ?_
          refine y_icmp_eq C 102 dX8_unit_92 (by decide) (by exact ⟨⟨h118.1, h118.2.1⟩, ⟨(by decide), (by decide)⟩⟩) (fun h134 => ?_) (fun h134 => ?_)
          · refine j_aload_n C 2 0 dX8_unit_102 rfl rfl ?_
            refine j_dup C dX8_unit_103 rfl ?_
            refine y_getI C 7 _ _ fX8_unit_18 rfl rfl ft_7_2 sb_7_2 hM112 dX8_unit_104 (fun a135 ea135 la135 ua135 => ?_)
            refine y_iconst C dX8_unit_107 ?_
            refine y_iadd C dX8_unit_108 ?_
            refine y_putI C 7 _ _ qX8_unit_18 rfl rfl ft_7_2 sb_7_2 hM112 (PX.w hpr rfl rfl) dX8_unit_109 (by omega) (fun M137 eM137 hM137 => ?_)
            have xM137 := tkx_j (f := gf) (n := gn) (gi := ((suR gf gn 0) gi).2.2) eM137 (by exact h114.2.2.1) (by exact ea135) (by (clear hM137 eM137 ua135 la135 ea135 h120 qM112 bM112 h114 hM112 h110 h109 h107 h103 ua101 la101 ea101 hret C hp2 hp1 hp0 hpr hM0; omega)) (by exact qM112)
            have dM137 := cs_w hM112 (c := 7) rfl eM137 (by decide)
            have gM137 := s_wr eM137 (by omega)
            refine j_aload_n C 2 0 dX8_unit_112 rfl rfl ?_
            refine j_iload_n C 3 1 dX8_unit_113 rfl rfl ?_
            refine j_callVv C (d := 5) (As := [.int (sI 6)]) (st := []) 78 (s_lt rfl rfl) (s_kc (c := 7) rfl rfl) (by decide) rfl (s2_X8_sum hM137 hpr gf gn (nxF gf gn ((suR gf gn 0) gi).2.2) (by omega) (by exact xM137.1) (by exact xM137.2.2.2)) gX8_unit_X8_sum rfl hdX8_sum (by decide) (Nat.le_of_ble_eq_true rfl) dX8_unit_114 rfl (fun M139 h140 => ?_)
            obtain ⟨hM139, h141⟩ := h140
            have bM139 := tkx_b (f := gf) (n := gn) (M := M139) (by exact h141.2.2.1)
            have qM139 := po_rr (suR gf gn 0) gn (nxF gf gn ((suR gf gn 0) gi).2.2) (M137.1 78 5).toInt (M137.1 78 6).toInt (psX M137) (M139.1 78 5).toInt (M139.1 78 6).toInt (psX M139) (suR_g gf gn 0) (by exact xM137.2.2.2) (by exact h141.2.2.2.1)
            refine j_aload_n C 2 0 dX8_unit_117 rfl rfl ?_
            refine j_iload_n C 0 3 dX8_unit_118 rfl rfl ?_
            have u142b := tkx_b (f := gf) (n := gn) (M := M139) (by exact h141.2.2.1)
            refine j_callVv C (d := 0) (As := [.int (sI a119)]) (st := []) 78 (s_lt rfl rfl) (s_kc (c := 7) rfl rfl) (by decide) rfl (s1_X8_emit hM139 hpr a119 (by exact ⟨h118.1, h118.2.1⟩) gf gn ((suR gf gn 0) (nxF gf gn ((suR gf gn 0) gi).2.2)).2.2 (by omega) (by exact h141.2.2.1) (by exact qM139)) gX8_unit_X8_emit rfl hdX8_emit (by decide) (Nat.le_of_ble_eq_true rfl) dX8_unit_119 rfl (fun M144 h145 => ?_)
            obtain ⟨hM144, h146⟩ := h145
            have bM144 := tkx_b (f := gf) (n := gn) (M := M144) (by exact h146.2.2.2.2.2.2.1)
            have qM144 := po_eq gn ((suR gf gn 0) (nxF gf gn ((suR gf gn 0) gi).2.2)).2.2 (M139.1 78 5).toInt (psX M139) (M144.1 78 5).toInt (psX M144) (by exact qM139) (by exact h146.2.1.1) (by exact h146.1)
            refine j_goto C 130 dX8_unit_122 (by decide) ?_
            have u147r := un_4 gf gn 0 gi (M0.1 78 5).toInt (M0.1 78 6).toInt (psX M0) (M112.1 78 5).toInt (M112.1 78 6).toInt (psX M112) (M137.1 78 5).toInt (M137.1 78 6).toInt (M139.1 78 5).toInt (M139.1 78 6).toInt (psX M139) (M144.1 78 5).toInt (M144.1 78 6).toInt (psX M144) (by exact hp2) (by (clear qM144 bM144 hM144 u142b qM139 bM139 h141 hM139 gM137 dM137 xM137 hM137 eM137 ua135 la135 ea135 qM112 bM112 h114 hM112 h103 ua101 la101 ea101 hret C hp2 hp1 hp0 hpr hM0; omega)) (by exact h114.2.2.2.1) (by exact qM112) (by (clear qM144 bM144 h146 hM144 u142b qM139 bM139 h141 hM139 gM137 dM137 xM137 hM137 eM137 ua135 la135 ea135 h120 qM112 bM112 h114 hM112 h110 h109 h107 h103 ua101 la101 ea101 hret C hp2 hp1 hp0 hpr hM0; omega)) (by exact xM137.2.1) (by exact xM137.2.2.1) (by exact h141.2.2.2.1) (by exact h146.2.1.1) (by exact h146.2.1.2) (by exact h146.1)
            have u147l : b01 (CL AGC (M144.1 78 5).toInt M0 M144 ((uLR gf gn 0) gi)) = 1 := cl_e (cl_t (cl_t (cl_t (show b01 (CL AGC (M112.1 78 5).toInt M0 M112 ((sLR gf gn 0) gi)) = 1 by exact h114.2.1) (cl_r (A := AGC) (M := M112) (N := M137) (M137.1 78 5).toInt (agc_78 eM137)) (fun z => by omega)) (show b01 (CL AGC (M139.1 78 5).toInt M137 M139 ((sLR gf gn 0) (nxF gf gn ((suR gf gn 0) gi).2.2))) = 1 by exact h141.2.1) (fun z => rr_z (show b01 (RR ((suR gf gn 0) (nxF gf gn ((suR gf gn 0) gi).2.2)) (M137.1 78 5).toInt (M137.1 78 6).toInt (M139.1 78 5).toInt (M139.1 78 6).toInt (psX M139)) = 1 by exact h141.2.2.2.1) z)) (show b01 (CL AGC (M144.1 78 5).toInt M139 M144 [cmF a119]) = 1 by exact h146.2.2.2.2.2.1) (fun z => by omega)) (fun z => by rw [un_l4 gf gn 0 (show b01 (PO gn gi (M0.1 78 5).toInt (psX M0)) = 1 by exact hp2) (by omega) (by (clear z u147r qM144 bM144 hM144 u142b qM139 bM139 h141 hM139 gM137 dM137 xM137 hM137 eM137 ua135 la135 ea135 qM112 bM112 h114 hM112 h103 ua101 la101 ea101 hret C hp2 hp1 hp0 hpr hM0; omega)) (show b01 (PO gn ((suR gf gn 0) gi).2.2 (M112.1 78 5).toInt (psX M112)) = 1 by exact qM112) (by have y := (fun z => rr_z (show b01 (RR ((suR gf gn 0) (nxF gf gn ((suR gf gn 0) gi).2.2)) (M137.1 78 5).toInt (M137.1 78 6).toInt (M139.1 78 5).toInt (M139.1 78 6).toInt (psX M139)) = 1 by exact h141.2.2.2.1) z) (show (M139.1 78 5).toInt = 0 by omega); omega), show tkF gf gn (psX M112) = a119 by exact h118.2.2.symm]; simp)
            have zr := (rfx_t (rfx_t (rfx_i (rfx_t (rfx_r M0) (show b01 (RFX M0 M112) = 1 by exact h114.2.2.2.2)) eM137 (by decide)) (show b01 (RFX M137 M139) = 1 by exact h141.2.2.2.2)) (show b01 (RFX M139 M144) = 1 by exact h146.2.2.2.2.2.2.2)); exact hret _ _ _ dX8_unit_130 ⟨hM144, by exact ⟨(by (clear qM144 bM144 hM144 u142b qM139 bM139 hM139 xM137 hM137 eM137 ua135 la135 h134 h120 h118 qM112 bM112 hM112 h110 h109 h107 h103 ua101 la101 ea101 hret C hp2 hp1 hp0 hpr hM0; omega)), ⟨u147l, ⟨h146.2.2.2.2.2.2.1, ⟨u147r, zr⟩⟩⟩⟩⟩
          · refine j_iload_n C 0 3 dX8_unit_95 rfl rfl ?_
            refine y_sipush C dX8_unit_96 rfl ?_
            refine y_icmp_ne C 125 dX8_unit_99 (by decide) (by exact ⟨⟨h118.1, h118.2.1⟩, ⟨(by decide), (by decide)⟩⟩) (fun h148 => ?_) (fun h148 => ?_)
            · refine j_aload_n C 2 0 dX8_unit_125 rfl rfl ?_
              refine y_iconst C dX8_unit_126 ?_
              refine j_callVv C (d := 0) (As := [.int (sI 2)]) (st := []) 78 (s_lt rfl rfl) (s_kc (c := 7) rfl rfl) (by decide) rfl (s1_X8_fail hM112 hpr 2 (by exact ⟨(by decide), (by decide)⟩) gf gn ((suR gf gn 0) gi).2.2 (by exact ⟨(by decide), (by decide)⟩) (by exact h114.2.2.1) (by exact qM112)) gX8_unit_X8_fail rfl hdX8_fail (by decide) (Nat.le_of_ble_eq_true rfl) dX8_unit_127 rfl (fun M150 h151 => ?_)
              obtain ⟨hM150, fM150, h152⟩ := h151
              have bM150 := tkx_b (f := gf) (n := gn) (M := M150) (by exact h152.2.2.2.1)
              have qM150 := po_f gn ((faQ gf gn 2) ((suR gf gn 0) gi).2.2).2.2 (M150.1 78 5).toInt (psX M150) (by omega)
              have dM150 := cs_f hM112 fM150
              have u153r := un_5 gf gn 0 gi (M0.1 78 5).toInt (M0.1 78 6).toInt (psX M0) (M112.1 78 5).toInt (M112.1 78 6).toInt (psX M112) (M150.1 78 5).toInt (M150.1 78 6).toInt (psX M150) (by exact hp2) (by (clear dM150 qM150 bM150 h152 fM150 hM150 qM112 bM112 h114 hM112 h103 ua101 la101 ea101 hret C hp2 hp1 hp0 hpr hM0; omega)) (by exact h114.2.2.2.1) (by exact qM112) (fun _ => by omega) (by exact h152.2.2.2.2.1)
              have u153l := cl_n (A := AGC) (M := M0) (N := M150) ((uLR gf gn 0) gi) (a := (M150.1 78 5).toInt) (by omega)
              have zr := (rfx_F (rfx_t (rfx_r M0) (show b01 (RFX M0 M112) = 1 by exact h114.2.2.2.2)) fM150); exact hret _ _ _ dX8_unit_130 ⟨hM150, by exact ⟨(by (clear qM150 bM150 fM150 hM150 h148 h134 h120 h118 qM112 bM112 hM112 h110 h109 h107 h103 ua101 la101 ea101 hret C hp2 hp1 hp0 hpr hM0; omega)), ⟨u153l, ⟨h152.2.2.2.1, ⟨u153r, zr⟩⟩⟩⟩⟩
            · refine j_aload_n C 2 0 dX8_unit_102 rfl rfl ?_
              refine j_dup C dX8_unit_103 rfl ?_
              refine y_getI C 7 _ _ fX8_unit_18 rfl rfl ft_7_2 sb_7_2 hM112 dX8_unit_104 (fun a154 ea154 la154 ua154 => ?_)
              refine y_iconst C dX8_unit_107 ?_
              refine y_iadd C dX8_unit_108 ?_
              refine y_putI C 7 _ _ qX8_unit_18 rfl rfl ft_7_2 sb_7_2 hM112 (PX.w hpr rfl rfl) dX8_unit_109 (by omega) (fun M156 eM156 hM156 => ?_)
              have xM156 := tkx_j (f := gf) (n := gn) (gi := ((suR gf gn 0) gi).2.2) eM156 (by exact h114.2.2.1) (by exact ea154) (by (clear hM156 eM156 ua154 la154 ea154 h134 h120 qM112 bM112 h114 hM112 h110 h109 h107 h103 ua101 la101 ea101 hret C hp2 hp1 hp0 hpr hM0; omega)) (by exact qM112)
              have dM156 := cs_w hM112 (c := 7) rfl eM156 (by decide)
              have gM156 := s_wr eM156 (by omega)
              refine j_aload_n C 2 0 dX8_unit_112 rfl rfl ?_
              refine j_iload_n C 3 1 dX8_unit_113 rfl rfl ?_
              refine j_callVv C (d := 5) (As := [.int (sI 6)]) (st := []) 78 (s_lt rfl rfl) (s_kc (c := 7) rfl rfl) (by decide) rfl (s2_X8_sum hM156 hpr gf gn (nxF gf gn ((suR gf gn 0) gi).2.2) (by omega) (by exact xM156.1) (by exact xM156.2.2.2)) gX8_unit_X8_sum rfl hdX8_sum (by decide) (Nat.le_of_ble_eq_true rfl) dX8_unit_114 rfl (fun M158 h159 => ?_)
              obtain ⟨hM158, h160⟩ := h159
              have bM158 := tkx_b (f := gf) (n := gn) (M := M158) (by exact h160.2.2.1)
              have qM158 := po_rr (suR gf gn 0) gn (nxF gf gn ((suR gf gn 0) gi).2.2) (M156.1 78 5).toInt (M156.1 78 6).toInt (psX M156) (M158.1 78 5).toInt (M158.1 78 6).toInt (psX M158) (suR_g gf gn 0) (by exact xM156.2.2.2) (by exact h160.2.2.2.1)
              refine j_aload_n C 2 0 dX8_unit_117 rfl rfl ?_
              refine j_iload_n C 0 3 dX8_unit_118 rfl rfl ?_
              have u161b := tkx_b (f := gf) (n := gn) (M := M158) (by exact h160.2.2.1)
              refine j_callVv C (d := 0) (As := [.int (sI a119)]) (st := []) 78 (s_lt rfl rfl) (s_kc (c := 7) rfl rfl) (by decide) rfl (s1_X8_emit hM158 hpr a119 (by exact ⟨h118.1, h118.2.1⟩) gf gn ((suR gf gn 0) (nxF gf gn ((suR gf gn 0) gi).2.2)).2.2 (by omega) (by exact h160.2.2.1) (by exact qM158)) gX8_unit_X8_emit rfl hdX8_emit (by decide) (Nat.le_of_ble_eq_true rfl) dX8_unit_119 rfl (fun M163 h164 => ?_)
              obtain ⟨hM163, h165⟩ := h164
              have bM163 := tkx_b (f := gf) (n := gn) (M := M163) (by exact h165.2.2.2.2.2.2.1)
              have qM163 := po_eq gn ((suR gf gn 0) (nxF gf gn ((suR gf gn 0) gi).2.2)).2.2 (M158.1 78 5).toInt (psX M158) (M163.1 78 5).toInt (psX M163) (by exact qM158) (by exact h165.2.1.1) (by exact h165.1)
              refine j_goto C 130 dX8_unit_122 (by decide) ?_
              have u166r := un_4 gf gn 0 gi (M0.1 78 5).toInt (M0.1 78 6).toInt (psX M0) (M112.1 78 5).toInt (M112.1 78 6).toInt (psX M112) (M156.1 78 5).toInt (M156.1 78 6).toInt (M158.1 78 5).toInt (M158.1 78 6).toInt (psX M158) (M163.1 78 5).toInt (M163.1 78 6).toInt (psX M163) (by exact hp2) (by (clear qM163 bM163 hM163 u161b qM158 bM158 h160 hM158 gM156 dM156 xM156 hM156 eM156 ua154 la154 ea154 qM112 bM112 h114 hM112 h103 ua101 la101 ea101 hret C hp2 hp1 hp0 hpr hM0; omega)) (by exact h114.2.2.2.1) (by exact qM112) (by (clear qM163 bM163 h165 hM163 u161b qM158 bM158 h160 hM158 gM156 dM156 xM156 hM156 eM156 ua154 la154 ea154 h134 h120 qM112 bM112 h114 hM112 h110 h109 h107 h103 ua101 la101 ea101 hret C hp2 hp1 hp0 hpr hM0; omega)) (by exact xM156.2.1) (by exact xM156.2.2.1) (by exact h160.2.2.2.1) (by exact h165.2.1.1) (by exact h165.2.1.2) (by exact h165.1)
              have u166l : b01 (CL AGC (M163.1 78 5).toInt M0 M163 ((uLR gf gn 0) gi)) = 1 := cl_e (cl_t (cl_t (cl_t (show b01 (CL AGC (M112.1 78 5).toInt M0 M112 ((sLR gf gn 0) gi)) = 1 by exact h114.2.1) (cl_r (A := AGC) (M := M112) (N := M156) (M156.1 78 5).toInt (agc_78 eM156)) (fun z => by omega)) (show b01 (CL AGC (M158.1 78 5).toInt M156 M158 ((sLR gf gn 0) (nxF gf gn ((suR gf gn 0) gi).2.2))) = 1 by exact h160.2.1) (fun z => rr_z (show b01 (RR ((suR gf gn 0) (nxF gf gn ((suR gf gn 0) gi).2.2)) (M156.1 78 5).toInt (M156.1 78 6).toInt (M158.1 78 5).toInt (M158.1 78 6).toInt (psX M158)) = 1 by exact h160.2.2.2.1) z)) (show b01 (CL AGC (M163.1 78 5).toInt M158 M163 [cmF a119]) = 1 by exact h165.2.2.2.2.2.1) (fun z => by omega)) (fun z => by rw [un_l4 gf gn 0 (show b01 (PO gn gi (M0.1 78 5).toInt (psX M0)) = 1 by exact hp2) (by omega) (by (clear z u166r qM163 bM163 hM163 u161b qM158 bM158 h160 hM158 gM156 dM156 xM156 hM156 eM156 ua154 la154 ea154 qM112 bM112 h114 hM112 h103 ua101 la101 ea101 hret C hp2 hp1 hp0 hpr hM0; omega)) (show b01 (PO gn ((suR gf gn 0) gi).2.2 (M112.1 78 5).toInt (psX M112)) = 1 by exact qM112) (by have y := (fun z => rr_z (show b01 (RR ((suR gf gn 0) (nxF gf gn ((suR gf gn 0) gi).2.2)) (M156.1 78 5).toInt (M156.1 78 6).toInt (M158.1 78 5).toInt (M158.1 78 6).toInt (psX M158)) = 1 by exact h160.2.2.2.1) z) (show (M158.1 78 5).toInt = 0 by omega); omega), show tkF gf gn (psX M112) = a119 by exact h118.2.2.symm]; simp)
              have zr := (rfx_t (rfx_t (rfx_i (rfx_t (rfx_r M0) (show b01 (RFX M0 M112) = 1 by exact h114.2.2.2.2)) eM156 (by decide)) (show b01 (RFX M156 M158) = 1 by exact h160.2.2.2.2)) (show b01 (RFX M158 M163) = 1 by exact h165.2.2.2.2.2.2.2)); exact hret _ _ _ dX8_unit_130 ⟨hM163, by exact ⟨(by (clear qM163 bM163 hM163 u161b qM158 bM158 hM158 xM156 hM156 eM156 ua154 la154 h148 h134 h120 h118 qM112 bM112 hM112 h110 h109 h107 h103 ua101 la101 ea101 hret C hp2 hp1 hp0 hpr hM0; omega)), ⟨u166l, ⟨h165.2.2.2.2.2.2.1, ⟨u166r, zr⟩⟩⟩⟩⟩
      · refine j_aload_n C 1 0 dX8_unit_49 rfl rfl ?_
        refine j_iload_n C 2 1 dX8_unit_50 rfl rfl ?_
        refine j_callVv C (d := 1) (As := [.int (sI 6)]) (st := []) 78 (s_lt rfl rfl) (s_kc (c := 7) rfl rfl) (by decide) rfl (s7_X8_goDeeper hM0 hpr gf gn gi (by omega) (by omega) (by omega) (by exact hp1) (by exact hp2)) gX8_unit_X8_goDeeper rfl hdX8_goDeeper (by decide) (Nat.le_of_ble_eq_true rfl) dX8_unit_51 rfl (fun M168 h169 => ?_)
        obtain ⟨hM168, fM168, h170⟩ := h169
        have bM168 := tkx_b (f := gf) (n := gn) (M := M168) (by exact h170.2.2.2.1)
        have qM168 := po_f gn gi (M168.1 78 5).toInt (psX M168) (by omega)
        have dM168 := cs_f hM0 fM168
        refine j_aload_n C 1 0 dX8_unit_54 rfl rfl ?_
        refine j_iload_n C 2 1 dX8_unit_55 rfl rfl ?_
        refine y_iconst C dX8_unit_56 ?_
        refine y_iadd C dX8_unit_57 ?_
        have z171 := (hM168).rd (i := 78) (c := 7) (k := 5) rfl sb_7_5
        refine j_callVv C (d := 2) (As := [.int (sI (6 + 1))]) (st := []) 78 (s_lt rfl rfl) (s_kc (c := 7) rfl rfl) (by decide) rfl (s1_X8_truth hM168 hpr gf gn gi (by (clear z171 qM168 bM168 fM168 hM168 h110 h109 h107 h103 ua101 la101 ea101 hret C hp2 hp1 hpr hM0; omega)) (by exact ⟨h170.2.2.1.1, h170.2.2.1.2⟩) (by exact h170.2.2.2.1) (by exact qM168)) gX8_unit_X8_truth rfl hdX8_truth (by decide) (Nat.le_of_ble_eq_true rfl) dX8_unit_58 rfl (fun M173 h174 => ?_)
        obtain ⟨hM173, h175⟩ := h174
        have bM173 := tkx_b (f := gf) (n := gn) (M := M173) (by exact h175.2.2.2.1)
        have qM173 := po_f gn gi (M173.1 78 5).toInt (psX M173) (by omega)
        refine j_aload_n C 1 0 dX8_unit_61 rfl rfl ?_
        refine y_sipush C dX8_unit_62 rfl ?_
        refine j_callVv C (d := 1) (As := [.int (sI 2093)]) (st := []) 78 (s_lt rfl rfl) (s_kc (c := 7) rfl rfl) (by decide) rfl (s1_X8_expect hM173 hpr 2093 (by exact ⟨(by decide), (by decide)⟩) gf gn gi (by exact (by decide)) (by exact (by decide)) (by exact h175.2.2.2.1) (by exact qM173)) gX8_unit_X8_expect rfl hdX8_expect (by decide) (Nat.le_of_ble_eq_true rfl) dX8_unit_65 rfl (fun M177 h178 => ?_)
        obtain ⟨hM177, fM177, h179⟩ := h178
        have bM177 := tkx_b (f := gf) (n := gn) (M := M177) (by exact h179.2.1)
        have qM177 := po_rr (exP gf gn 2093) gn gi (M173.1 78 5).toInt (M173.1 78 6).toInt (psX M173) (M177.1 78 5).toInt (M177.1 78 6).toInt (psX M177) (ex_g gf gn 2093 (by exact (by decide))) (by exact qM173) (by exact h179.2.2.1)
        have dM177 := cs_f hM173 fM177
        refine j_goto C 130 dX8_unit_68 (by decide) ?_
        have u180k := rr_k (exP gf gn 2093 gi) (M173.1 78 5).toInt (M173.1 78 6).toInt (M177.1 78 5).toInt (M177.1 78 6).toInt (psX M177) (by exact h179.2.2.1) (by (clear dM177 qM177 bM177 h179 fM177 hM177 qM173 bM173 hM173 z171 dM168 qM168 bM168 fM168 hM168 h110 h109 h107 h103 ua101 la101 ea101 hret C hp2 hp1 hp0 hpr hM0; omega))
        have u180r := un_3 gf gn gi (M0.1 78 5).toInt (M0.1 78 6).toInt (psX M0) (M177.1 78 5).toInt (M177.1 78 6).toInt (psX M177) (by exact hp2) (by omega) (by (clear u180k dM177 qM177 bM177 h179 fM177 hM177 qM173 bM173 h175 hM173 z171 dM168 qM168 bM168 h170 fM168 hM168 h109 h103 ua101 la101 ea101 hret C hp2 hp1 hp0 hpr hM0; omega)) (by (clear dM177 qM177 bM177 h179 fM177 hM177 qM173 bM173 hM173 z171 dM168 qM168 bM168 fM168 hM168 h110 h109 h107 h103 ua101 la101 ea101 hret C hp2 hp1 hp0 hpr hM0; omega)) (by (clear dM177 qM177 bM177 h179 fM177 hM177 qM173 bM173 hM173 z171 dM168 qM168 bM168 fM168 hM168 h110 h109 h107 h103 ua101 la101 ea101 hret C hp2 hp1 hp0 hpr hM0; omega))
        have u180l := cl_n (A := AGC) (M := M0) (N := M177) ((uLR gf gn 0) gi) (a := (M177.1 78 5).toInt) (by (clear u180r dM177 qM177 bM177 h179 fM177 hM177 qM173 bM173 hM173 z171 dM168 qM168 bM168 fM168 hM168 h110 h109 h107 h103 ua101 la101 ea101 hret C hp2 hp1 hp0 hpr hM0; omega))
        have zr := (rfx_F (rfx_t (rfx_F (rfx_r M0) fM168) (show b01 (RFX M168 M173) = 1 by exact h175.2.2.2.2)) fM177); exact hret _ _ _ dX8_unit_130 ⟨hM177, by exact ⟨(by (clear u180k qM177 bM177 fM177 hM177 qM173 bM173 hM173 z171 qM168 bM168 fM168 hM168 h110 h109 h107 h103 ua101 la101 ea101 hret C hp2 hp1 hp0 hpr hM0; omega)), ⟨u180l, ⟨h179.2.1, ⟨u180r, zr⟩⟩⟩⟩⟩
    · refine j_aload_n C 1 0 dX8_unit_20 rfl rfl ?_
      refine j_iload_n C 2 1 dX8_unit_21 rfl rfl ?_
      refine j_callVv C (d := 1) (As := [.int (sI 6)]) (st := []) 78 (s_lt rfl rfl) (s_kc (c := 7) rfl rfl) (by decide) rfl (s7_X8_goDeeper hM0 hpr gf gn gi (by omega) (by omega) (by omega) (by exact hp1) (by exact hp2)) gX8_unit_X8_goDeeper rfl hdX8_goDeeper (by decide) (Nat.le_of_ble_eq_true rfl) dX8_unit_22 rfl (fun M182 h183 => ?_)
      obtain ⟨hM182, fM182, h184⟩ := h183
      have bM182 := tkx_b (f := gf) (n := gn) (M := M182) (by exact h184.2.2.2.1)
      have qM182 := po_f gn gi (M182.1 78 5).toInt (psX M182) (by omega)
      have dM182 := cs_f hM0 fM182
      refine j_aload_n C 1 0 dX8_unit_25 rfl rfl ?_
      refine j_iload_n C 2 1 dX8_unit_26 rfl rfl ?_
      refine y_iconst C dX8_unit_27 ?_
      refine y_iadd C dX8_unit_28 ?_
      have z185 := (hM182).rd (i := 78) (c := 7) (k := 5) rfl sb_7_5
      refine j_callVv C (d := 0) (As := [.int (sI (6 + 1))]) (st := []) 78 (s_lt rfl rfl) (s_kc (c := 7) rfl rfl) (by decide) rfl (s1_X8_unit hM182 hpr gf gn gi (by omega) (by exact ⟨h184.2.2.1.1, h184.2.2.1.2⟩) (by exact h184.2.2.2.1) (by exact qM182)) gX8_unit_X8_unit rfl hdX8_unit (by decide) (Nat.le_of_ble_eq_true rfl) dX8_unit_29 rfl (fun M187 h188 => ?_)
      obtain ⟨hM187, h189⟩ := h188
      have bM187 := tkx_b (f := gf) (n := gn) (M := M187) (by exact h189.2.2.2.1)
      have qM187 := po_f gn gi (M187.1 78 5).toInt (psX M187) (by omega)
      refine j_aload_n C 1 0 dX8_unit_32 rfl rfl ?_
      refine y_sipush C dX8_unit_33 rfl ?_
      have u190b := tkx_b (f := gf) (n := gn) (M := M187) (by exact h189.2.2.2.1)
      refine j_callVv C (d := 0) (As := [.int (sI 1016)]) (st := []) 78 (s_lt rfl rfl) (s_kc (c := 7) rfl rfl) (by decide) rfl (s1_X8_emit hM187 hpr 1016 (by exact ⟨(by decide), (by decide)⟩) gf gn gi (by omega) (by exact h189.2.2.2.1) (by exact qM187)) gX8_unit_X8_emit rfl hdX8_emit (by decide) (Nat.le_of_ble_eq_true rfl) dX8_unit_36 rfl (fun M192 h193 => ?_)
      obtain ⟨hM192, h194⟩ := h193
      have bM192 := tkx_b (f := gf) (n := gn) (M := M192) (by exact h194.2.2.2.2.2.2.1)
      have qM192 := po_eq gn gi (M187.1 78 5).toInt (psX M187) (M192.1 78 5).toInt (psX M192) (by exact qM187) (by exact h194.2.1.1) (by exact h194.1)
      refine j_goto C 130 dX8_unit_39 (by decide) ?_
      have u195r := un_3 gf gn gi (M0.1 78 5).toInt (M0.1 78 6).toInt (psX M0) (M192.1 78 5).toInt (M192.1 78 6).toInt (psX M192) (by exact hp2) (by omega) (by (clear qM192 bM192 h194 hM192 u190b qM187 bM187 h189 hM187 z185 dM182 qM182 bM182 h184 fM182 hM182 h103 ua101 la101 ea101 hret C hp2 hp1 hp0 hpr hM0; omega)) (by (clear qM192 bM192 hM192 u190b qM187 bM187 hM187 z185 dM182 qM182 bM182 fM182 hM182 h109 h107 h103 ua101 la101 ea101 hret C hp2 hp1 hp0 hpr hM0; omega)) (by (clear qM192 bM192 hM192 u190b qM187 bM187 hM187 z185 dM182 qM182 bM182 fM182 hM182 h109 h107 h103 ua101 la101 ea101 hret C hp2 hp1 hp0 hpr hM0; omega))
      have u195l := cl_n (A := AGC) (M := M0) (N := M192) ((uLR gf gn 0) gi) (a := (M192.1 78 5).toInt) (by (clear u195r qM192 bM192 hM192 u190b qM187 bM187 hM187 z185 dM182 qM182 bM182 fM182 hM182 h109 h107 h103 ua101 la101 ea101 hret C hp2 hp1 hp0 hpr hM0; omega))
      have zr := (rfx_t (rfx_t (rfx_F (rfx_r M0) fM182) (show b01 (RFX M182 M187) = 1 by exact h189.2.2.2.2)) (show b01 (RFX M187 M192) = 1 by exact h194.2.2.2.2.2.2.2)); exact hret _ _ _ dX8_unit_130 ⟨hM192, by exact ⟨(by (clear qM192 bM192 hM192 u190b qM187 bM187 hM187 z185 qM182 bM182 fM182 hM182 h109 h107 h103 ua101 la101 ea101 hret C hp2 hp1 hp0 hpr hM0; omega)), ⟨u195l, ⟨h194.2.2.2.2.2.2.1, ⟨u195r, zr⟩⟩⟩⟩⟩
  · have u196r := rr_no ((unR gf gn 0) gi) (M0.1 78 5).toInt (M0.1 78 6).toInt (M0.1 78 5).toInt (M0.1 78 6).toInt (psX M0) (by omega) rfl rfl
    have u196l := cl_n (A := AGC) (M := M0) (N := M0) ((uLR gf gn 0) gi) (a := (M0.1 78 5).toInt) (by omega)
    have zr := (rfx_r M0); exact hret _ _ _ dX8_unit_7 ⟨hM0, by exact ⟨(by (clear h103 ua101 la101 ea101 hret C hp2 hp0 hpr hM0; omega)), ⟨u196l, ⟨hp1, ⟨u196r, zr⟩⟩⟩⟩⟩
set_option maxHeartbeats 4000000 in
theorem s2_X8_both {l : Launch} {dC : Nat → ClassId} {dI : Nat → Nat → Nat} {ad : Nat → Nat} {cA : Nat → ClassId} {pr : Nat → Nat → Bool} {Kz : mm_M} {M0 : mm_M} (hM0 : INV pr Kz M0) (hpr : PX pr) (gf : Nat → Int) (gn : Int) (gi : Int) (hp0 : csX M0 ≤ (M0.1 78 2).toInt) (hp1 : b01 (TKX gf gn M0) = 1) (hp2 : b01 (PO gn gi (M0.1 78 5).toInt (psX M0)) = 1) : Cv l 7 yX8_both wsX8_both dC dI ad cA [.ref (ad 78), .int (sI 6)] M0 (fun M' => INV pr Kz M' ∧ (csX M' - csX M0 ≤ (M'.1 78 2).toInt - (M0.1 78 2).toInt) ∧ (b01 (CL AGC (M'.1 78 5).toInt M0 M' ((boL gf gn (unR gf gn 0) (uLR gf gn 0)) gi)) = 1) ∧ (b01 (TKX gf gn M') = 1) ∧ b01 (RR ((boP gf gn (unR gf gn 0)) gi) (M0.1 78 5).toInt (M0.1 78 6).toInt (M'.1 78 5).toInt (M'.1 78 6).toInt (psX M')) = 1 ∧ (b01 (RFX M0 M') = 1)) := by
  refine cv_of (cc := cX8_both) (maxL := 3) (lv := [(0, .ref (ad 78)), (1, .int (sI 6))]) (by decide) rfl (Nat.le_of_ble_eq_true rfl) rfl ?_
  intro p e s m args below meth c A Q C hret
  refine j_aload_n C 0 0 dX8_both_0 rfl rfl ?_
  refine j_iload_n C 1 1 dX8_both_1 rfl rfl ?_
  refine j_callVv C (d := 6) (As := [.int (sI 6)]) (st := []) 78 (s_lt rfl rfl) (s_kc (c := 7) rfl rfl) (by decide) rfl (s2_X8_unit hM0 hpr gf gn gi (by exact hp0) (by exact hp1) (by exact hp2)) gX8_both_X8_unit rfl hdX8_unit (by decide) (Nat.le_of_ble_eq_true rfl) dX8_both_2 rfl (fun M102 h103 => ?_)
  obtain ⟨hM102, h104⟩ := h103
  have bM102 := tkx_b (f := gf) (n := gn) (M := M102) (by exact h104.2.2.1)
  have qM102 := po_rr (unR gf gn 0) gn gi (M0.1 78 5).toInt (M0.1 78 6).toInt (psX M0) (M102.1 78 5).toInt (M102.1 78 6).toInt (psX M102) (unR_g gf gn 0) (by exact hp2) (by exact h104.2.2.2.1)
  refine y_iconst C dX8_both_5 ?_
  have u105l := ll_0 (luP gf gn 1015 1015 (unR gf gn 0)) gn ((unR gf gn 0) gi).2.2 (M102.1 78 5).toInt (M102.1 78 6).toInt (psX M102) (by exact qM102)
  have u105c := lc_0 (A := AGC) (M102.1 78 5).toInt (luL gf gn 1015 1015 (unR gf gn 0) (uLR gf gn 0)) ((unR gf gn 0) gi).2.2 M102
  refine j_istore_n C 2 [(2, .int (sI 0)), (0, .ref (ad 78)), (1, .int (sI 6))] dX8_both_6 rfl (by decide) rfl ?_
  have L135 : ∀ (n133 : Nat), ∀ (a136 : Int) (M137 : mm_M) (gq138 : Int), (0 ≤ a136 ∧ a136 ≤ 900 ∧ (b01 (LL (luP gf gn 1015 1015 (unR gf gn 0)) gn ((unR gf gn 0) gi).2.2 gq138 a136 (M102.1 78 5).toInt (M102.1 78 6).toInt (M137.1 78 5).toInt (M137.1 78 6).toInt (psX M137)) = 1) ∧ (b01 (LC AGC (M137.1 78 5).toInt (luL gf gn 1015 1015 (unR gf gn 0) (uLR gf gn 0)) ((unR gf gn 0) gi).2.2 gq138 M102 M137) = 1) ∧ (csX M137 - csX M102 ≤ (M137.1 78 2).toInt - (M102.1 78 2).toInt) ∧ (b01 (TKX gf gn M137) = 1) ∧ (b01 (PO gn gq138 (M137.1 78 5).toInt (psX M137)) = 1) ∧ (b01 (RFX M0 M137) = 1) ∧ (900 - a136) < (n133 : Int)) → INV pr Kz M137 → jj p l e (cn_R 7) s m args below meth c 0 0 Q 3 dC dI ad cA A M137 7 [(0, .ref (ad 78)), (1, .int (sI 6)), (2, .int (sI a136))] [] := by
    intro n133
    induction n133 with
    | zero =>
      intro a136 M137 gq138 h139 hM137
      exfalso; (clear hM137 u105c u105l qM102 bM102 h104 hM102 hret C hp2 hp1 hp0 hpr hM0; omega)
    | succ n133 ih134 =>
      intro a136 M137 gq138 h139 hM137
      have u140b := tkx_b (f := gf) (n := gn) (M := M137) (by exact h139.2.2.2.2.2.1)
      refine j_iload_n C 2 2 dX8_both_7 rfl rfl ?_
      refine y_sipush C dX8_both_8 rfl ?_
      refine y_icmp_ge C 59 dX8_both_11 (by decide) (by exact ⟨⟨(by (clear u140b hM137 ih134 u105c u105l qM102 bM102 h104 hM102 hret C hp2 hp1 hp0 hpr hM0; omega)), (by (clear u140b hM137 ih134 u105c u105l qM102 bM102 h104 hM102 hret C hp2 hp1 hp0 hpr hM0; omega))⟩, ⟨(by decide), (by decide)⟩⟩) (fun h141 => ?_) (fun h141 => ?_)
      · have u164e := ll_e gf gn 1015 1015 (unR gf gn 0) ((unR gf gn 0) gi).2.2 gq138 a136 (M102.1 78 5).toInt (M102.1 78 6).toInt (M137.1 78 5).toInt (M137.1 78 6).toInt (psX M137) (by decide) (unR_g gf gn 0) (by exact h139.2.2.1) (by (clear u140b hM137 ih134 u105c u105l qM102 h104 hM102 hret C hp2 hp1 hp0 hpr hM0; omega))
        have u164r : b01 (RR ((boP gf gn (unR gf gn 0)) gi) (M0.1 78 5).toInt (M0.1 78 6).toInt (M137.1 78 5).toInt (M137.1 78 6).toInt (psX M137)) = 1 := rr_sq ((unR gf gn 0) gi) (luP gf gn 1015 1015 (unR gf gn 0)) (M0.1 78 5).toInt (M0.1 78 6).toInt (M102.1 78 5).toInt (M102.1 78 6).toInt (psX M102) (M137.1 78 5).toInt (M137.1 78 6).toInt (psX M137) (by exact h104.2.2.2.1) (by exact u164e)
        have u164x := lc_e gf gn 1015 1015 (unR gf gn 0) ((uLR gf gn 0)) (by decide) (show b01 (LC AGC (M137.1 78 5).toInt (luL gf gn 1015 1015 (unR gf gn 0) (uLR gf gn 0)) ((unR gf gn 0) gi).2.2 gq138 M102 M137) = 1 by exact h139.2.2.2.1) (show b01 (LL (luP gf gn 1015 1015 (unR gf gn 0)) gn ((unR gf gn 0) gi).2.2 gq138 a136 (M102.1 78 5).toInt (M102.1 78 6).toInt (M137.1 78 5).toInt (M137.1 78 6).toInt (psX M137)) = 1 by exact h139.2.2.1) (by omega)
        have u164l : b01 (CL AGC (M137.1 78 5).toInt M0 M137 ((boL gf gn (unR gf gn 0) (uLR gf gn 0)) gi)) = 1 := cl_e (cl_t (show b01 (CL AGC (M102.1 78 5).toInt M0 M102 ((uLR gf gn 0) gi)) = 1 by exact h104.2.1) u164x (fun z => rr_z (show b01 (RR ((luP gf gn 1015 1015 (unR gf gn 0)) ((unR gf gn 0) gi).2.2) (M102.1 78 5).toInt (M102.1 78 6).toInt (M137.1 78 5).toInt (M137.1 78 6).toInt (psX M137)) = 1 by exact u164e) z)) (fun z => rfl)
        have zr := (show b01 (RFX M0 M137) = 1 by exact h139.2.2.2.2.2.2.2.1); exact hret _ _ _ dX8_both_59 ⟨hM137, by exact ⟨(by (clear zr u164x u164e h141 u140b hM137 ih134 u105c u105l qM102 bM102 hM102 hret C hp2 hp1 hp0 hpr hM0; omega)), ⟨u164l, ⟨h139.2.2.2.2.2.1, ⟨u164r, h139.2.2.2.2.2.2.2.1⟩⟩⟩⟩⟩
      · refine j_aload_n C 0 0 dX8_both_14 rfl rfl ?_
        refine y_getI C 7 _ _ fX8_both_22 rfl rfl ft_7_5 sb_7_5 hM137 dX8_both_15 (fun a142 ea142 la142 ua142 => ?_)
        refine y_if_ne C 59 dX8_both_18 (by decide) (by omega) (fun h144 => ?_) (fun h144 => ?_)
        · have u165e := ll_e gf gn 1015 1015 (unR gf gn 0) ((unR gf gn 0) gi).2.2 gq138 a136 (M102.1 78 5).toInt (M102.1 78 6).toInt (M137.1 78 5).toInt (M137.1 78 6).toInt (psX M137) (by decide) (unR_g gf gn 0) (by exact h139.2.2.1) (by (clear ua142 la142 h141 u140b hM137 h139 ih134 u105c u105l qM102 bM102 h104 hM102 hret C hp2 hp1 hp0 hpr hM0; omega))
          have u165r : b01 (RR ((boP gf gn (unR gf gn 0)) gi) (M0.1 78 5).toInt (M0.1 78 6).toInt (M137.1 78 5).toInt (M137.1 78 6).toInt (psX M137)) = 1 := rr_sq ((unR gf gn 0) gi) (luP gf gn 1015 1015 (unR gf gn 0)) (M0.1 78 5).toInt (M0.1 78 6).toInt (M102.1 78 5).toInt (M102.1 78 6).toInt (psX M102) (M137.1 78 5).toInt (M137.1 78 6).toInt (psX M137) (by exact h104.2.2.2.1) (by exact u165e)
          have u165x := lc_e gf gn 1015 1015 (unR gf gn 0) ((uLR gf gn 0)) (by decide) (show b01 (LC AGC (M137.1 78 5).toInt (luL gf gn 1015 1015 (unR gf gn 0) (uLR gf gn 0)) ((unR gf gn 0) gi).2.2 gq138 M102 M137) = 1 by exact h139.2.2.2.1) (show b01 (LL (luP gf gn 1015 1015 (unR gf gn 0)) gn ((unR gf gn 0) gi).2.2 gq138 a136 (M102.1 78 5).toInt (M102.1 78 6).toInt (M137.1 78 5).toInt (M137.1 78 6).toInt (psX M137)) = 1 by exact h139.2.2.1) (by omega)
          have u165l : b01 (CL AGC (M137.1 78 5).toInt M0 M137 ((boL gf gn (unR gf gn 0) (uLR gf gn 0)) gi)) = 1 := cl_e (cl_t (show b01 (CL AGC (M102.1 78 5).toInt M0 M102 ((uLR gf gn 0) gi)) = 1 by exact h104.2.1) u165x (fun z => rr_z (show b01 (RR ((luP gf gn 1015 1015 (unR gf gn 0)) ((unR gf gn 0) gi).2.2) (M102.1 78 5).toInt (M102.1 78 6).toInt (M137.1 78 5).toInt (M137.1 78 6).toInt (psX M137)) = 1 by exact u165e) z)) (fun z => rfl)
          have zr := (show b01 (RFX M0 M137) = 1 by exact h139.2.2.2.2.2.2.2.1); exact hret _ _ _ dX8_both_59 ⟨hM137, by exact ⟨(by (clear zr u165x u165e h144 ua142 la142 ea142 h141 u140b hM137 ih134 u105c u105l qM102 bM102 hM102 hret C hp2 hp1 hp0 hpr hM0; omega)), ⟨u165l, ⟨h139.2.2.2.2.2.1, ⟨u165r, h139.2.2.2.2.2.2.2.1⟩⟩⟩⟩⟩
        · refine j_aload_n C 0 0 dX8_both_21 rfl rfl ?_
          refine j_callVi C (d := 0) (As := []) (st := []) 78 (s_lt rfl rfl) (s_kc (c := 7) rfl rfl) (by decide) rfl (s1_X8_token hM137 gf gn gq138 (by exact h139.2.2.2.2.2.1) (by exact h139.2.2.2.2.2.2.1)) gX8_both_X8_token rfl hdX8_token (by decide) (Nat.le_of_ble_eq_true rfl) dX8_both_22 rfl (fun r145 M146 h147 => ?_)
          obtain ⟨a149, rfl, rfl, h148⟩ := h147
          refine y_sipush C dX8_both_25 rfl ?_
          refine y_icmp_ne C 59 dX8_both_28 (by decide) (by exact ⟨⟨h148.1, h148.2.1⟩, ⟨(by decide), (by decide)⟩⟩) (fun h150 => ?_) (fun h150 => ?_)
          · have u166e := ll_e gf gn 1015 1015 (unR gf gn 0) ((unR gf gn 0) gi).2.2 gq138 a136 (M102.1 78 5).toInt (M102.1 78 6).toInt (M137.1 78 5).toInt (M137.1 78 6).toInt (psX M137) (by decide) (unR_g gf gn 0) (by exact h139.2.2.1) (by (clear h144 ua142 la142 ea142 h141 u140b hM137 h139 ih134 u105c u105l qM102 bM102 h104 hM102 hret C hp2 hp1 hp0 hpr hM0; omega))
            have u166r : b01 (RR ((boP gf gn (unR gf gn 0)) gi) (M0.1 78 5).toInt (M0.1 78 6).toInt (M137.1 78 5).toInt (M137.1 78 6).toInt (psX M137)) = 1 := rr_sq ((unR gf gn 0) gi) (luP gf gn 1015 1015 (unR gf gn 0)) (M0.1 78 5).toInt (M0.1 78 6).toInt (M102.1 78 5).toInt (M102.1 78 6).toInt (psX M102) (M137.1 78 5).toInt (M137.1 78 6).toInt (psX M137) (by exact h104.2.2.2.1) (by exact u166e)
            have u166x := lc_e gf gn 1015 1015 (unR gf gn 0) ((uLR gf gn 0)) (by decide) (show b01 (LC AGC (M137.1 78 5).toInt (luL gf gn 1015 1015 (unR gf gn 0) (uLR gf gn 0)) ((unR gf gn 0) gi).2.2 gq138 M102 M137) = 1 by exact h139.2.2.2.1) (show b01 (LL (luP gf gn 1015 1015 (unR gf gn 0)) gn ((unR gf gn 0) gi).2.2 gq138 a136 (M102.1 78 5).toInt (M102.1 78 6).toInt (M137.1 78 5).toInt (M137.1 78 6).toInt (psX M137)) = 1 by exact h139.2.2.1) (by omega)
            have u166l : b01 (CL AGC (M137.1 78 5).toInt M0 M137 ((boL gf gn (unR gf gn 0) (uLR gf gn 0)) gi)) = 1 := cl_e (cl_t (show b01 (CL AGC (M102.1 78 5).toInt M0 M102 ((uLR gf gn 0) gi)) = 1 by exact h104.2.1) u166x (fun z => rr_z (show b01 (RR ((luP gf gn 1015 1015 (unR gf gn 0)) ((unR gf gn 0) gi).2.2) (M102.1 78 5).toInt (M102.1 78 6).toInt (M137.1 78 5).toInt (M137.1 78 6).toInt (psX M137)) = 1 by exact u166e) z)) (fun z => rfl)
            have zr := (show b01 (RFX M0 M137) = 1 by exact h139.2.2.2.2.2.2.2.1); exact hret _ _ _ dX8_both_59 ⟨hM137, by exact ⟨(by (clear zr u166x u166e h150 h148 h144 ua142 la142 ea142 h141 u140b hM137 ih134 u105c u105l qM102 bM102 hM102 hret C hp2 hp1 hp0 hpr hM0; omega)), ⟨u166l, ⟨h139.2.2.2.2.2.1, ⟨u166r, h139.2.2.2.2.2.2.2.1⟩⟩⟩⟩⟩
          · refine j_aload_n C 0 0 dX8_both_31 rfl rfl ?_
            refine j_dup C dX8_both_32 rfl ?_
            refine y_getI C 7 _ _ fX8_both_18 rfl rfl ft_7_2 sb_7_2 hM137 dX8_both_33 (fun a151 ea151 la151 ua151 => ?_)
            refine y_iconst C dX8_both_36 ?_
            refine y_iadd C dX8_both_37 ?_
            refine y_putI C 7 _ _ qX8_both_18 rfl rfl ft_7_2 sb_7_2 hM137 (PX.w hpr rfl rfl) dX8_both_38 (by omega) (fun M153 eM153 hM153 => ?_)
            have xM153 := tkx_j (f := gf) (n := gn) (gi := gq138) eM153 (by exact h139.2.2.2.2.2.1) (by exact ea151) (by (clear hM153 eM153 ua151 la151 ea151 h144 ua142 la142 ea142 h141 u140b hM137 h139 ih134 u105c u105l qM102 bM102 h104 hM102 hret C hp2 hp1 hp0 hpr hM0; omega)) (by exact h139.2.2.2.2.2.2.1)
            have dM153 := cs_w hM137 (c := 7) rfl eM153 (by decide)
            have gM153 := s_wr eM153 (by omega)
            refine j_aload_n C 0 0 dX8_both_41 rfl rfl ?_
            refine j_iload_n C 1 1 dX8_both_42 rfl rfl ?_
            refine j_callVv C (d := 6) (As := [.int (sI 6)]) (st := []) 78 (s_lt rfl rfl) (s_kc (c := 7) rfl rfl) (by decide) rfl (s2_X8_unit hM153 hpr gf gn (nxF gf gn gq138) (by (clear xM153 hM153 eM153 ua151 la151 h150 h148 h144 ua142 la142 ea142 h141 u140b hM137 ih134 u105c u105l qM102 bM102 hM102 hret C hp2 hp1 hpr hM0; omega)) (by exact xM153.1) (by exact xM153.2.2.2)) gX8_both_X8_unit rfl hdX8_unit (by decide) (Nat.le_of_ble_eq_true rfl) dX8_both_43 rfl (fun M155 h156 => ?_)
            obtain ⟨hM155, h157⟩ := h156
            have bM155 := tkx_b (f := gf) (n := gn) (M := M155) (by exact h157.2.2.1)
            have qM155 := po_rr (unR gf gn 0) gn (nxF gf gn gq138) (M153.1 78 5).toInt (M153.1 78 6).toInt (psX M153) (M155.1 78 5).toInt (M155.1 78 6).toInt (psX M155) (unR_g gf gn 0) (by exact xM153.2.2.2) (by exact h157.2.2.2.1)
            refine j_aload_n C 0 0 dX8_both_46 rfl rfl ?_
            refine y_sipush C dX8_both_47 rfl ?_
            have u158b := tkx_b (f := gf) (n := gn) (M := M155) (by exact h157.2.2.1)
            refine j_callVv C (d := 0) (As := [.int (sI 1015)]) (st := []) 78 (s_lt rfl rfl) (s_kc (c := 7) rfl rfl) (by decide) rfl (s1_X8_emit hM155 hpr 1015 (by exact ⟨(by decide), (by decide)⟩) gf gn ((unR gf gn 0) (nxF gf gn gq138)).2.2 (by (clear u158b qM155 hM155 xM153 hM153 eM153 ua151 la151 h150 h148 h144 ua142 la142 ea142 h141 u140b hM137 ih134 u105c u105l qM102 bM102 hM102 hret C hp2 hp1 hpr hM0; omega)) (by exact h157.2.2.1) (by exact qM155)) gX8_both_X8_emit rfl hdX8_emit (by decide) (Nat.le_of_ble_eq_true rfl) dX8_both_50 rfl (fun M160 h161 => ?_)
            obtain ⟨hM160, h162⟩ := h161
            have bM160 := tkx_b (f := gf) (n := gn) (M := M160) (by exact h162.2.2.2.2.2.2.1)
            have qM160 := po_eq gn ((unR gf gn 0) (nxF gf gn gq138)).2.2 (M155.1 78 5).toInt (psX M155) (M160.1 78 5).toInt (psX M160) (by exact qM155) (by exact h162.2.1.1) (by exact h162.1)
            refine y_iinc C 2 [(2, .int (sI (a136 + 1))), (0, .ref (ad 78)), (1, .int (sI 6))] dX8_both_53 rfl (by decide) rfl ?_
            have u163s := ll_s gf gn 1015 1015 (unR gf gn 0) ((unR gf gn 0) gi).2.2 gq138 a136 (M102.1 78 5).toInt (M102.1 78 6).toInt (M137.1 78 5).toInt (M137.1 78 6).toInt (psX M137) (M153.1 78 5).toInt (M153.1 78 6).toInt (M155.1 78 5).toInt (M155.1 78 6).toInt (psX M155) (M160.1 78 5).toInt (M160.1 78 6).toInt (psX M160) (by decide) (unR_g gf gn 0) (by exact h139.2.2.1) (by omega) (by (clear qM160 bM160 h162 hM160 u158b qM155 bM155 h157 hM155 gM153 dM153 xM153 hM153 eM153 ua151 la151 ea151 h144 ua142 la142 ea142 h141 u140b hM137 h139 ih134 u105c u105l qM102 bM102 h104 hM102 hret C hp2 hp1 hp0 hpr hM0; omega)) (by exact xM153.2.1) (by exact xM153.2.2.1) (by exact h157.2.2.2.1) (by exact h162.2.1.1) (by exact h162.2.1.2) (by exact h162.1)
            have u163c := lc_s gf gn 1015 1015 (unR gf gn 0) (uLR gf gn 0) (by decide) (unR_g gf gn 0) (show b01 (LC AGC (M137.1 78 5).toInt (luL gf gn 1015 1015 (unR gf gn 0) (uLR gf gn 0)) ((unR gf gn 0) gi).2.2 gq138 M102 M137) = 1 by exact h139.2.2.2.1) (show b01 (PO gn gq138 (M137.1 78 5).toInt (psX M137)) = 1 by exact h139.2.2.2.2.2.2.1) (by omega) (show b01 (RR ((unR gf gn 0) (nxF gf gn gq138)) (M153.1 78 5).toInt (M153.1 78 6).toInt (M155.1 78 5).toInt (M155.1 78 6).toInt (psX M155)) = 1 by exact h157.2.2.2.1) (fun z => by omega) (cl_e (L := ([] ++ ((uLR gf gn 0) (nxF gf gn gq138))) ++ [cmF 1015]) (cl_t (cl_t (cl_r (A := AGC) (M := M137) (N := M153) (M153.1 78 5).toInt (agc_78 eM153)) (show b01 (CL AGC (M155.1 78 5).toInt M153 M155 ((uLR gf gn 0) (nxF gf gn gq138))) = 1 by exact h157.2.1) (fun z => rr_z (show b01 (RR ((unR gf gn 0) (nxF gf gn gq138)) (M153.1 78 5).toInt (M153.1 78 6).toInt (M155.1 78 5).toInt (M155.1 78 6).toInt (psX M155)) = 1 by exact h157.2.2.2.1) z)) (show b01 (CL AGC (M160.1 78 5).toInt M155 M160 [cmF 1015]) = 1 by exact h162.2.2.2.2.2.1) (fun z => by (clear u163s qM160 bM160 hM160 u158b qM155 bM155 h157 hM155 gM153 dM153 xM153 hM153 eM153 ua151 la151 ea151 h150 h148 h144 ua142 la142 ea142 h141 u140b hM137 h139 ih134 u105c u105l qM102 bM102 h104 hM102 hret C hp2 hp1 hp0 hpr hM0; omega))) (fun z => by rw [show tkF gf gn (psX M137) = 1015 by (clear z u163s qM160 bM160 h162 hM160 u158b qM155 bM155 h157 hM155 gM153 dM153 xM153 hM153 eM153 ua151 la151 ea151 h144 ua142 la142 ea142 h141 u140b hM137 h139 ih134 u105c u105l qM102 bM102 h104 hM102 hret C hp2 hp1 hp0 hpr hM0; omega), List.nil_append]) : b01 (CL AGC (M160.1 78 5).toInt M137 M160 (((uLR gf gn 0) (nxF gf gn gq138)) ++ [cmF (tkF gf gn (psX M137))])) = 1) (fun z => by omega)
            refine j_goto C 7 dX8_both_56 (by decide) ?_
            have zr := (rfx_t (rfx_t (rfx_i (show b01 (RFX M0 M137) = 1 by exact h139.2.2.2.2.2.2.2.1) eM153 (by decide)) (show b01 (RFX M153 M155) = 1 by exact h157.2.2.2.2)) (show b01 (RFX M155 M160) = 1 by exact h162.2.2.2.2.2.2.2)); refine j_lv [1, 2, 0] rfl ?_; exact ih134 (a136 + 1) M160 ((unR gf gn 0) (nxF gf gn gq138)).2.2 (by exact ⟨(by (clear bM160 hM160 u158b qM155 bM155 hM155 xM153 hM153 eM153 ua151 la151 h150 h148 h144 ua142 la142 ea142 u140b hM137 ih134 u105c u105l qM102 bM102 h104 hM102 hret C hp2 hp1 hp0 hpr hM0; omega)), ⟨(by (clear bM160 hM160 u158b qM155 bM155 hM155 xM153 hM153 eM153 ua151 la151 h150 h148 h144 ua142 la142 ea142 u140b hM137 ih134 u105c u105l qM102 bM102 h104 hM102 hret C hp2 hp1 hp0 hpr hM0; omega)), ⟨u163s, ⟨u163c, ⟨(by (clear bM160 hM160 u158b qM155 bM155 hM155 xM153 hM153 eM153 ua151 la151 h150 h148 h144 ua142 la142 ea142 u140b hM137 ih134 u105c u105l qM102 bM102 h104 hM102 hret C hp2 hp1 hp0 hpr hM0; omega)), ⟨h162.2.2.2.2.2.2.1, ⟨qM160, ⟨zr, (by (clear bM160 hM160 u158b qM155 bM155 hM155 xM153 hM153 eM153 ua151 la151 h150 h148 h144 ua142 la142 ea142 u140b hM137 ih134 u105c u105l qM102 bM102 h104 hM102 hret C hp2 hp1 hp0 hpr hM0; omega))⟩⟩⟩⟩⟩⟩⟩⟩) hM160
  have zr := (rfx_t (rfx_r M0) (show b01 (RFX M0 M102) = 1 by exact h104.2.2.2.2)); refine j_lv [1, 2, 0] rfl ?_; exact L135 2010 0 M102 ((unR gf gn 0) gi).2.2 (by exact ⟨(by decide), ⟨(by decide), ⟨u105l, ⟨u105c, ⟨(by (clear zr L135 bM102 hM102 hret C hp2 hp1 hp0 hpr hM0; omega)), ⟨h104.2.2.1, ⟨qM102, ⟨h104.2.2.2.2, (by decide)⟩⟩⟩⟩⟩⟩⟩⟩) hM102
set_option maxHeartbeats 4000000 in
theorem s2_X8_truth {l : Launch} {dC : Nat → ClassId} {dI : Nat → Nat → Nat} {ad : Nat → Nat} {cA : Nat → ClassId} {pr : Nat → Nat → Bool} {Kz : mm_M} {M0 : mm_M} (hM0 : INV pr Kz M0) (hpr : PX pr) (gf : Nat → Int) (gn : Int) (gi : Int) (hp0 : csX M0 ≤ (M0.1 78 2).toInt) (hp1 : b01 (TKX gf gn M0) = 1) (hp2 : b01 (PO gn gi (M0.1 78 5).toInt (psX M0)) = 1) : Cv l 8 yX8_truth wsX8_truth dC dI ad cA [.ref (ad 78), .int (sI 6)] M0 (fun M' => INV pr Kz M' ∧ (csX M' - csX M0 ≤ (M'.1 78 2).toInt - (M0.1 78 2).toInt) ∧ (b01 (CL AGC (M'.1 78 5).toInt M0 M' ((trL gf gn (unR gf gn 0) (uLR gf gn 0)) gi)) = 1) ∧ (b01 (TKX gf gn M') = 1) ∧ b01 (RR ((trP gf gn (unR gf gn 0)) gi) (M0.1 78 5).toInt (M0.1 78 6).toInt (M'.1 78 5).toInt (M'.1 78 6).toInt (psX M')) = 1 ∧ (b01 (RFX M0 M') = 1)) := by
  refine cv_of (cc := cX8_truth) (maxL := 3) (lv := [(0, .ref (ad 78)), (1, .int (sI 6))]) (by decide) rfl (Nat.le_of_ble_eq_true rfl) rfl ?_
  intro p e s m args below meth c A Q C hret
  refine j_aload_n C 0 0 dX8_truth_0 rfl rfl ?_
  refine j_iload_n C 1 1 dX8_truth_1 rfl rfl ?_
  refine j_callVv C (d := 7) (As := [.int (sI 6)]) (st := []) 78 (s_lt rfl rfl) (s_kc (c := 7) rfl rfl) (by decide) rfl (s2_X8_both hM0 hpr gf gn gi (by exact hp0) (by exact hp1) (by exact hp2)) gX8_truth_X8_both rfl hdX8_both (by decide) (Nat.le_of_ble_eq_true rfl) dX8_truth_2 rfl (fun M102 h103 => ?_)
  obtain ⟨hM102, h104⟩ := h103
  have bM102 := tkx_b (f := gf) (n := gn) (M := M102) (by exact h104.2.2.1)
  have qM102 := po_rr (boP gf gn (unR gf gn 0)) gn gi (M0.1 78 5).toInt (M0.1 78 6).toInt (psX M0) (M102.1 78 5).toInt (M102.1 78 6).toInt (psX M102) (bo_g gf gn (unR_g gf gn 0)) (by exact hp2) (by exact h104.2.2.2.1)
  refine y_iconst C dX8_truth_5 ?_
  have u105l := ll_0 (luP gf gn 1014 1014 (boP gf gn (unR gf gn 0))) gn ((boP gf gn (unR gf gn 0)) gi).2.2 (M102.1 78 5).toInt (M102.1 78 6).toInt (psX M102) (by exact qM102)
  have u105c := lc_0 (A := AGC) (M102.1 78 5).toInt (luL gf gn 1014 1014 (boP gf gn (unR gf gn 0)) (boL gf gn (unR gf gn 0) (uLR gf gn 0))) ((boP gf gn (unR gf gn 0)) gi).2.2 M102
  refine j_istore_n C 2 [(2, .int (sI 0)), (0, .ref (ad 78)), (1, .int (sI 6))] dX8_truth_6 rfl (by decide) rfl ?_
  have L135 : ∀ (n133 : Nat), ∀ (a136 : Int) (M137 : mm_M) (gq138 : Int), (0 ≤ a136 ∧ a136 ≤ 900 ∧ (b01 (LL (luP gf gn 1014 1014 (boP gf gn (unR gf gn 0))) gn ((boP gf gn (unR gf gn 0)) gi).2.2 gq138 a136 (M102.1 78 5).toInt (M102.1 78 6).toInt (M137.1 78 5).toInt (M137.1 78 6).toInt (psX M137)) = 1) ∧ (b01 (LC AGC (M137.1 78 5).toInt (luL gf gn 1014 1014 (boP gf gn (unR gf gn 0)) (boL gf gn (unR gf gn 0) (uLR gf gn 0))) ((boP gf gn (unR gf gn 0)) gi).2.2 gq138 M102 M137) = 1) ∧ (csX M137 - csX M102 ≤ (M137.1 78 2).toInt - (M102.1 78 2).toInt) ∧ (b01 (TKX gf gn M137) = 1) ∧ (b01 (PO gn gq138 (M137.1 78 5).toInt (psX M137)) = 1) ∧ (b01 (RFX M0 M137) = 1) ∧ (900 - a136) < (n133 : Int)) → INV pr Kz M137 → jj p l e (cn_R 8) s m args below meth c 0 0 Q 3 dC dI ad cA A M137 7 [(0, .ref (ad 78)), (1, .int (sI 6)), (2, .int (sI a136))] [] := by
    intro n133
    induction n133 with
    | zero =>
      intro a136 M137 gq138 h139 hM137
      exfalso; (clear hM137 u105c u105l qM102 bM102 h104 hM102 hret C hp2 hp1 hp0 hpr hM0; omega)
    | succ n133 ih134 =>
      intro a136 M137 gq138 h139 hM137
      have u140b := tkx_b (f := gf) (n := gn) (M := M137) (by exact h139.2.2.2.2.2.1)
      refine j_iload_n C 2 2 dX8_truth_7 rfl rfl ?_
      refine y_sipush C dX8_truth_8 rfl ?_
      refine y_icmp_ge C 59 dX8_truth_11 (by decide) (by exact ⟨⟨(by (clear u140b hM137 ih134 u105c u105l qM102 bM102 h104 hM102 hret C hp2 hp1 hp0 hpr hM0; omega)), (by (clear u140b hM137 ih134 u105c u105l qM102 bM102 h104 hM102 hret C hp2 hp1 hp0 hpr hM0; omega))⟩, ⟨(by decide), (by decide)⟩⟩) (fun h141 => ?_) (fun h141 => ?_)
      · have u164e := ll_e gf gn 1014 1014 (boP gf gn (unR gf gn 0)) ((boP gf gn (unR gf gn 0)) gi).2.2 gq138 a136 (M102.1 78 5).toInt (M102.1 78 6).toInt (M137.1 78 5).toInt (M137.1 78 6).toInt (psX M137) (by decide) (bo_g gf gn (unR_g gf gn 0)) (by exact h139.2.2.1) (by (clear u140b hM137 ih134 u105c u105l qM102 h104 hM102 hret C hp2 hp1 hp0 hpr hM0; omega))
        have u164r : b01 (RR ((trP gf gn (unR gf gn 0)) gi) (M0.1 78 5).toInt (M0.1 78 6).toInt (M137.1 78 5).toInt (M137.1 78 6).toInt (psX M137)) = 1 := rr_sq ((boP gf gn (unR gf gn 0)) gi) (luP gf gn 1014 1014 (boP gf gn (unR gf gn 0))) (M0.1 78 5).toInt (M0.1 78 6).toInt (M102.1 78 5).toInt (M102.1 78 6).toInt (psX M102) (M137.1 78 5).toInt (M137.1 78 6).toInt (psX M137) (by exact h104.2.2.2.1) (by exact u164e)
        have u164x := lc_e gf gn 1014 1014 (boP gf gn (unR gf gn 0)) ((boL gf gn (unR gf gn 0) (uLR gf gn 0))) (by decide) (show b01 (LC AGC (M137.1 78 5).toInt (luL gf gn 1014 1014 (boP gf gn (unR gf gn 0)) (boL gf gn (unR gf gn 0) (uLR gf gn 0))) ((boP gf gn (unR gf gn 0)) gi).2.2 gq138 M102 M137) = 1 by exact h139.2.2.2.1) (show b01 (LL (luP gf gn 1014 1014 (boP gf gn (unR gf gn 0))) gn ((boP gf gn (unR gf gn 0)) gi).2.2 gq138 a136 (M102.1 78 5).toInt (M102.1 78 6).toInt (M137.1 78 5).toInt (M137.1 78 6).toInt (psX M137)) = 1 by exact h139.2.2.1) (by omega)
        have u164l : b01 (CL AGC (M137.1 78 5).toInt M0 M137 ((trL gf gn (unR gf gn 0) (uLR gf gn 0)) gi)) = 1 := cl_e (cl_t (show b01 (CL AGC (M102.1 78 5).toInt M0 M102 ((boL gf gn (unR gf gn 0) (uLR gf gn 0)) gi)) = 1 by exact h104.2.1) u164x (fun z => rr_z (show b01 (RR ((luP gf gn 1014 1014 (boP gf gn (unR gf gn 0))) ((boP gf gn (unR gf gn 0)) gi).2.2) (M102.1 78 5).toInt (M102.1 78 6).toInt (M137.1 78 5).toInt (M137.1 78 6).toInt (psX M137)) = 1 by exact u164e) z)) (fun z => rfl)
        have zr := (show b01 (RFX M0 M137) = 1 by exact h139.2.2.2.2.2.2.2.1); exact hret _ _ _ dX8_truth_59 ⟨hM137, by exact ⟨(by (clear zr u164x u164e h141 u140b hM137 ih134 u105c u105l qM102 bM102 hM102 hret C hp2 hp1 hp0 hpr hM0; omega)), ⟨u164l, ⟨h139.2.2.2.2.2.1, ⟨u164r, h139.2.2.2.2.2.2.2.1⟩⟩⟩⟩⟩
      · refine j_aload_n C 0 0 dX8_truth_14 rfl rfl ?_
        refine y_getI C 7 _ _ fX8_truth_22 rfl rfl ft_7_5 sb_7_5 hM137 dX8_truth_15 (fun a142 ea142 la142 ua142 => ?_)
        refine y_if_ne C 59 dX8_truth_18 (by decide) (by omega) (fun h144 => ?_) (fun h144 => ?_)
        · have u165e := ll_e gf gn 1014 1014 (boP gf gn (unR gf gn 0)) ((boP gf gn (unR gf gn 0)) gi).2.2 gq138 a136 (M102.1 78 5).toInt (M102.1 78 6).toInt (M137.1 78 5).toInt (M137.1 78 6).toInt (psX M137) (by decide) (bo_g gf gn (unR_g gf gn 0)) (by exact h139.2.2.1) (by (clear ua142 la142 h141 u140b hM137 h139 ih134 u105c u105l qM102 bM102 h104 hM102 hret C hp2 hp1 hp0 hpr hM0; omega))
          have u165r : b01 (RR ((trP gf gn (unR gf gn 0)) gi) (M0.1 78 5).toInt (M0.1 78 6).toInt (M137.1 78 5).toInt (M137.1 78 6).toInt (psX M137)) = 1 := rr_sq ((boP gf gn (unR gf gn 0)) gi) (luP gf gn 1014 1014 (boP gf gn (unR gf gn 0))) (M0.1 78 5).toInt (M0.1 78 6).toInt (M102.1 78 5).toInt (M102.1 78 6).toInt (psX M102) (M137.1 78 5).toInt (M137.1 78 6).toInt (psX M137) (by exact h104.2.2.2.1) (by exact u165e)
          have u165x := lc_e gf gn 1014 1014 (boP gf gn (unR gf gn 0)) ((boL gf gn (unR gf gn 0) (uLR gf gn 0))) (by decide) (show b01 (LC AGC (M137.1 78 5).toInt (luL gf gn 1014 1014 (boP gf gn (unR gf gn 0)) (boL gf gn (unR gf gn 0) (uLR gf gn 0))) ((boP gf gn (unR gf gn 0)) gi).2.2 gq138 M102 M137) = 1 by exact h139.2.2.2.1) (show b01 (LL (luP gf gn 1014 1014 (boP gf gn (unR gf gn 0))) gn ((boP gf gn (unR gf gn 0)) gi).2.2 gq138 a136 (M102.1 78 5).toInt (M102.1 78 6).toInt (M137.1 78 5).toInt (M137.1 78 6).toInt (psX M137)) = 1 by exact h139.2.2.1) (by omega)
          have u165l : b01 (CL AGC (M137.1 78 5).toInt M0 M137 ((trL gf gn (unR gf gn 0) (uLR gf gn 0)) gi)) = 1 := cl_e (cl_t (show b01 (CL AGC (M102.1 78 5).toInt M0 M102 ((boL gf gn (unR gf gn 0) (uLR gf gn 0)) gi)) = 1 by exact h104.2.1) u165x (fun z => rr_z (show b01 (RR ((luP gf gn 1014 1014 (boP gf gn (unR gf gn 0))) ((boP gf gn (unR gf gn 0)) gi).2.2) (M102.1 78 5).toInt (M102.1 78 6).toInt (M137.1 78 5).toInt (M137.1 78 6).toInt (psX M137)) = 1 by exact u165e) z)) (fun z => rfl)
          have zr := (show b01 (RFX M0 M137) = 1 by exact h139.2.2.2.2.2.2.2.1); exact hret _ _ _ dX8_truth_59 ⟨hM137, by exact ⟨(by (clear zr u165x u165e h144 ua142 la142 ea142 h141 u140b hM137 ih134 u105c u105l qM102 bM102 hM102 hret C hp2 hp1 hp0 hpr hM0; omega)), ⟨u165l, ⟨h139.2.2.2.2.2.1, ⟨u165r, h139.2.2.2.2.2.2.2.1⟩⟩⟩⟩⟩
        · refine j_aload_n C 0 0 dX8_truth_21 rfl rfl ?_
          refine j_callVi C (d := 0) (As := []) (st := []) 78 (s_lt rfl rfl) (s_kc (c := 7) rfl rfl) (by decide) rfl (s1_X8_token hM137 gf gn gq138 (by exact h139.2.2.2.2.2.1) (by exact h139.2.2.2.2.2.2.1)) gX8_truth_X8_token rfl hdX8_token (by decide) (Nat.le_of_ble_eq_true rfl) dX8_truth_22 rfl (fun r145 M146 h147 => ?_)
          obtain ⟨a149, rfl, rfl, h148⟩ := h147
          refine y_sipush C dX8_truth_25 rfl ?_
          refine y_icmp_ne C 59 dX8_truth_28 (by decide) (by exact ⟨⟨h148.1, h148.2.1⟩, ⟨(by decide), (by decide)⟩⟩) (fun h150 => ?_) (fun h150 => ?_)
          · have u166e := ll_e gf gn 1014 1014 (boP gf gn (unR gf gn 0)) ((boP gf gn (unR gf gn 0)) gi).2.2 gq138 a136 (M102.1 78 5).toInt (M102.1 78 6).toInt (M137.1 78 5).toInt (M137.1 78 6).toInt (psX M137) (by decide) (bo_g gf gn (unR_g gf gn 0)) (by exact h139.2.2.1) (by (clear h144 ua142 la142 ea142 h141 u140b hM137 h139 ih134 u105c u105l qM102 bM102 h104 hM102 hret C hp2 hp1 hp0 hpr hM0; omega))
            have u166r : b01 (RR ((trP gf gn (unR gf gn 0)) gi) (M0.1 78 5).toInt (M0.1 78 6).toInt (M137.1 78 5).toInt (M137.1 78 6).toInt (psX M137)) = 1 := rr_sq ((boP gf gn (unR gf gn 0)) gi) (luP gf gn 1014 1014 (boP gf gn (unR gf gn 0))) (M0.1 78 5).toInt (M0.1 78 6).toInt (M102.1 78 5).toInt (M102.1 78 6).toInt (psX M102) (M137.1 78 5).toInt (M137.1 78 6).toInt (psX M137) (by exact h104.2.2.2.1) (by exact u166e)
            have u166x := lc_e gf gn 1014 1014 (boP gf gn (unR gf gn 0)) ((boL gf gn (unR gf gn 0) (uLR gf gn 0))) (by decide) (show b01 (LC AGC (M137.1 78 5).toInt (luL gf gn 1014 1014 (boP gf gn (unR gf gn 0)) (boL gf gn (unR gf gn 0) (uLR gf gn 0))) ((boP gf gn (unR gf gn 0)) gi).2.2 gq138 M102 M137) = 1 by exact h139.2.2.2.1) (show b01 (LL (luP gf gn 1014 1014 (boP gf gn (unR gf gn 0))) gn ((boP gf gn (unR gf gn 0)) gi).2.2 gq138 a136 (M102.1 78 5).toInt (M102.1 78 6).toInt (M137.1 78 5).toInt (M137.1 78 6).toInt (psX M137)) = 1 by exact h139.2.2.1) (by omega)
            have u166l : b01 (CL AGC (M137.1 78 5).toInt M0 M137 ((trL gf gn (unR gf gn 0) (uLR gf gn 0)) gi)) = 1 := cl_e (cl_t (show b01 (CL AGC (M102.1 78 5).toInt M0 M102 ((boL gf gn (unR gf gn 0) (uLR gf gn 0)) gi)) = 1 by exact h104.2.1) u166x (fun z => rr_z (show b01 (RR ((luP gf gn 1014 1014 (boP gf gn (unR gf gn 0))) ((boP gf gn (unR gf gn 0)) gi).2.2) (M102.1 78 5).toInt (M102.1 78 6).toInt (M137.1 78 5).toInt (M137.1 78 6).toInt (psX M137)) = 1 by exact u166e) z)) (fun z => rfl)
            have zr := (show b01 (RFX M0 M137) = 1 by exact h139.2.2.2.2.2.2.2.1); exact hret _ _ _ dX8_truth_59 ⟨hM137, by exact ⟨(by (clear zr u166x u166e h150 h148 h144 ua142 la142 ea142 h141 u140b hM137 ih134 u105c u105l qM102 bM102 hM102 hret C hp2 hp1 hp0 hpr hM0; omega)), ⟨u166l, ⟨h139.2.2.2.2.2.1, ⟨u166r, h139.2.2.2.2.2.2.2.1⟩⟩⟩⟩⟩
          · refine j_aload_n C 0 0 dX8_truth_31 rfl rfl ?_
            refine j_dup C dX8_truth_32 rfl ?_
            refine y_getI C 7 _ _ fX8_truth_18 rfl rfl ft_7_2 sb_7_2 hM137 dX8_truth_33 (fun a151 ea151 la151 ua151 => ?_)
            refine y_iconst C dX8_truth_36 ?_
            refine y_iadd C dX8_truth_37 ?_
            refine y_putI C 7 _ _ qX8_truth_18 rfl rfl ft_7_2 sb_7_2 hM137 (PX.w hpr rfl rfl) dX8_truth_38 (by omega) (fun M153 eM153 hM153 => ?_)
            have xM153 := tkx_j (f := gf) (n := gn) (gi := gq138) eM153 (by exact h139.2.2.2.2.2.1) (by exact ea151) (by (clear hM153 eM153 ua151 la151 ea151 h144 ua142 la142 ea142 h141 u140b hM137 h139 ih134 u105c u105l qM102 bM102 h104 hM102 hret C hp2 hp1 hp0 hpr hM0; omega)) (by exact h139.2.2.2.2.2.2.1)
            have dM153 := cs_w hM137 (c := 7) rfl eM153 (by decide)
            have gM153 := s_wr eM153 (by omega)
            refine j_aload_n C 0 0 dX8_truth_41 rfl rfl ?_
            refine j_iload_n C 1 1 dX8_truth_42 rfl rfl ?_
            refine j_callVv C (d := 7) (As := [.int (sI 6)]) (st := []) 78 (s_lt rfl rfl) (s_kc (c := 7) rfl rfl) (by decide) rfl (s2_X8_both hM153 hpr gf gn (nxF gf gn gq138) (by (clear xM153 hM153 eM153 ua151 la151 h150 h148 h144 ua142 la142 ea142 h141 u140b hM137 ih134 u105c u105l qM102 bM102 hM102 hret C hp2 hp1 hpr hM0; omega)) (by exact xM153.1) (by exact xM153.2.2.2)) gX8_truth_X8_both rfl hdX8_both (by decide) (Nat.le_of_ble_eq_true rfl) dX8_truth_43 rfl (fun M155 h156 => ?_)
            obtain ⟨hM155, h157⟩ := h156
            have bM155 := tkx_b (f := gf) (n := gn) (M := M155) (by exact h157.2.2.1)
            have qM155 := po_rr (boP gf gn (unR gf gn 0)) gn (nxF gf gn gq138) (M153.1 78 5).toInt (M153.1 78 6).toInt (psX M153) (M155.1 78 5).toInt (M155.1 78 6).toInt (psX M155) (bo_g gf gn (unR_g gf gn 0)) (by exact xM153.2.2.2) (by exact h157.2.2.2.1)
            refine j_aload_n C 0 0 dX8_truth_46 rfl rfl ?_
            refine y_sipush C dX8_truth_47 rfl ?_
            have u158b := tkx_b (f := gf) (n := gn) (M := M155) (by exact h157.2.2.1)
            refine j_callVv C (d := 0) (As := [.int (sI 1014)]) (st := []) 78 (s_lt rfl rfl) (s_kc (c := 7) rfl rfl) (by decide) rfl (s1_X8_emit hM155 hpr 1014 (by exact ⟨(by decide), (by decide)⟩) gf gn ((boP gf gn (unR gf gn 0)) (nxF gf gn gq138)).2.2 (by (clear u158b qM155 hM155 xM153 hM153 eM153 ua151 la151 h150 h148 h144 ua142 la142 ea142 h141 u140b hM137 ih134 u105c u105l qM102 bM102 hM102 hret C hp2 hp1 hpr hM0; omega)) (by exact h157.2.2.1) (by exact qM155)) gX8_truth_X8_emit rfl hdX8_emit (by decide) (Nat.le_of_ble_eq_true rfl) dX8_truth_50 rfl (fun M160 h161 => ?_)
            obtain ⟨hM160, h162⟩ := h161
            have bM160 := tkx_b (f := gf) (n := gn) (M := M160) (by exact h162.2.2.2.2.2.2.1)
            have qM160 := po_eq gn ((boP gf gn (unR gf gn 0)) (nxF gf gn gq138)).2.2 (M155.1 78 5).toInt (psX M155) (M160.1 78 5).toInt (psX M160) (by exact qM155) (by exact h162.2.1.1) (by exact h162.1)
            refine y_iinc C 2 [(2, .int (sI (a136 + 1))), (0, .ref (ad 78)), (1, .int (sI 6))] dX8_truth_53 rfl (by decide) rfl ?_
            have u163s := ll_s gf gn 1014 1014 (boP gf gn (unR gf gn 0)) ((boP gf gn (unR gf gn 0)) gi).2.2 gq138 a136 (M102.1 78 5).toInt (M102.1 78 6).toInt (M137.1 78 5).toInt (M137.1 78 6).toInt (psX M137) (M153.1 78 5).toInt (M153.1 78 6).toInt (M155.1 78 5).toInt (M155.1 78 6).toInt (psX M155) (M160.1 78 5).toInt (M160.1 78 6).toInt (psX M160) (by decide) (bo_g gf gn (unR_g gf gn 0)) (by exact h139.2.2.1) (by omega) (by (clear qM160 bM160 h162 hM160 u158b qM155 bM155 h157 hM155 gM153 dM153 xM153 hM153 eM153 ua151 la151 ea151 h144 ua142 la142 ea142 h141 u140b hM137 h139 ih134 u105c u105l qM102 bM102 h104 hM102 hret C hp2 hp1 hp0 hpr hM0; omega)) (by exact xM153.2.1) (by exact xM153.2.2.1) (by exact h157.2.2.2.1) (by exact h162.2.1.1) (by exact h162.2.1.2) (by exact h162.1)
            have u163c := lc_s gf gn 1014 1014 (boP gf gn (unR gf gn 0)) (boL gf gn (unR gf gn 0) (uLR gf gn 0)) (by decide) (bo_g gf gn (unR_g gf gn 0)) (show b01 (LC AGC (M137.1 78 5).toInt (luL gf gn 1014 1014 (boP gf gn (unR gf gn 0)) (boL gf gn (unR gf gn 0) (uLR gf gn 0))) ((boP gf gn (unR gf gn 0)) gi).2.2 gq138 M102 M137) = 1 by exact h139.2.2.2.1) (show b01 (PO gn gq138 (M137.1 78 5).toInt (psX M137)) = 1 by exact h139.2.2.2.2.2.2.1) (by omega) (show b01 (RR ((boP gf gn (unR gf gn 0)) (nxF gf gn gq138)) (M153.1 78 5).toInt (M153.1 78 6).toInt (M155.1 78 5).toInt (M155.1 78 6).toInt (psX M155)) = 1 by exact h157.2.2.2.1) (fun z => by omega) (cl_e (L := ([] ++ ((boL gf gn (unR gf gn 0) (uLR gf gn 0)) (nxF gf gn gq138))) ++ [cmF 1014]) (cl_t (cl_t (cl_r (A := AGC) (M := M137) (N := M153) (M153.1 78 5).toInt (agc_78 eM153)) (show b01 (CL AGC (M155.1 78 5).toInt M153 M155 ((boL gf gn (unR gf gn 0) (uLR gf gn 0)) (nxF gf gn gq138))) = 1 by exact h157.2.1) (fun z => rr_z (show b01 (RR ((boP gf gn (unR gf gn 0)) (nxF gf gn gq138)) (M153.1 78 5).toInt (M153.1 78 6).toInt (M155.1 78 5).toInt (M155.1 78 6).toInt (psX M155)) = 1 by exact h157.2.2.2.1) z)) (show b01 (CL AGC (M160.1 78 5).toInt M155 M160 [cmF 1014]) = 1 by exact h162.2.2.2.2.2.1) (fun z => by (clear u163s qM160 bM160 hM160 u158b qM155 bM155 h157 hM155 gM153 dM153 xM153 hM153 eM153 ua151 la151 ea151 h150 h148 h144 ua142 la142 ea142 h141 u140b hM137 h139 ih134 u105c u105l qM102 bM102 h104 hM102 hret C hp2 hp1 hp0 hpr hM0; omega))) (fun z => by rw [show tkF gf gn (psX M137) = 1014 by (clear z u163s qM160 bM160 h162 hM160 u158b qM155 bM155 h157 hM155 gM153 dM153 xM153 hM153 eM153 ua151 la151 ea151 h144 ua142 la142 ea142 h141 u140b hM137 h139 ih134 u105c u105l qM102 bM102 h104 hM102 hret C hp2 hp1 hp0 hpr hM0; omega), List.nil_append]) : b01 (CL AGC (M160.1 78 5).toInt M137 M160 (((boL gf gn (unR gf gn 0) (uLR gf gn 0)) (nxF gf gn gq138)) ++ [cmF (tkF gf gn (psX M137))])) = 1) (fun z => by omega)
            refine j_goto C 7 dX8_truth_56 (by decide) ?_
            have zr := (rfx_t (rfx_t (rfx_i (show b01 (RFX M0 M137) = 1 by exact h139.2.2.2.2.2.2.2.1) eM153 (by decide)) (show b01 (RFX M153 M155) = 1 by exact h157.2.2.2.2)) (show b01 (RFX M155 M160) = 1 by exact h162.2.2.2.2.2.2.2)); refine j_lv [1, 2, 0] rfl ?_; exact ih134 (a136 + 1) M160 ((boP gf gn (unR gf gn 0)) (nxF gf gn gq138)).2.2 (by exact ⟨(by (clear bM160 hM160 u158b qM155 bM155 hM155 xM153 hM153 eM153 ua151 la151 h150 h148 h144 ua142 la142 ea142 u140b hM137 ih134 u105c u105l qM102 bM102 h104 hM102 hret C hp2 hp1 hp0 hpr hM0; omega)), ⟨(by (clear bM160 hM160 u158b qM155 bM155 hM155 xM153 hM153 eM153 ua151 la151 h150 h148 h144 ua142 la142 ea142 u140b hM137 ih134 u105c u105l qM102 bM102 h104 hM102 hret C hp2 hp1 hp0 hpr hM0; omega)), ⟨u163s, ⟨u163c, ⟨(by (clear bM160 hM160 u158b qM155 bM155 hM155 xM153 hM153 eM153 ua151 la151 h150 h148 h144 ua142 la142 ea142 u140b hM137 ih134 u105c u105l qM102 bM102 h104 hM102 hret C hp2 hp1 hp0 hpr hM0; omega)), ⟨h162.2.2.2.2.2.2.1, ⟨qM160, ⟨zr, (by (clear bM160 hM160 u158b qM155 bM155 hM155 xM153 hM153 eM153 ua151 la151 h150 h148 h144 ua142 la142 ea142 u140b hM137 ih134 u105c u105l qM102 bM102 h104 hM102 hret C hp2 hp1 hp0 hpr hM0; omega))⟩⟩⟩⟩⟩⟩⟩⟩) hM160
  have zr := (rfx_t (rfx_r M0) (show b01 (RFX M0 M102) = 1 by exact h104.2.2.2.2)); refine j_lv [1, 2, 0] rfl ?_; exact L135 2010 0 M102 ((boP gf gn (unR gf gn 0)) gi).2.2 (by exact ⟨(by decide), ⟨(by decide), ⟨u105l, ⟨u105c, ⟨(by (clear zr L135 bM102 hM102 hret C hp2 hp1 hp0 hpr hM0; omega)), ⟨h104.2.2.1, ⟨qM102, ⟨h104.2.2.2.2, (by decide)⟩⟩⟩⟩⟩⟩⟩⟩) hM102
set_option maxHeartbeats 4000000 in
theorem s3_X8_unit {l : Launch} {dC : Nat → ClassId} {dI : Nat → Nat → Nat} {ad : Nat → Nat} {cA : Nat → ClassId} {pr : Nat → Nat → Bool} {Kz : mm_M} {M0 : mm_M} (hM0 : INV pr Kz M0) (hpr : PX pr) (gf : Nat → Int) (gn : Int) (gi : Int) (hp0 : csX M0 ≤ (M0.1 78 2).toInt) (hp1 : b01 (TKX gf gn M0) = 1) (hp2 : b01 (PO gn gi (M0.1 78 5).toInt (psX M0)) = 1) : Cv l 9 yX8_unit wsX8_unit dC dI ad cA [.ref (ad 78), .int (sI 5)] M0 (fun M' => INV pr Kz M' ∧ (csX M' - csX M0 ≤ (M'.1 78 2).toInt - (M0.1 78 2).toInt) ∧ (b01 (CL AGC (M'.1 78 5).toInt M0 M' ((uLR gf gn 1) gi)) = 1) ∧ (b01 (TKX gf gn M') = 1) ∧ b01 (RR ((unR gf gn 1) gi) (M0.1 78 5).toInt (M0.1 78 6).toInt (M'.1 78 5).toInt (M'.1 78 6).toInt (psX M')) = 1 ∧ (b01 (RFX M0 M') = 1)) := by
  refine cv_of (cc := cX8_unit) (maxL := 4) (lv := [(0, .ref (ad 78)), (1, .int (sI 5))]) (by decide) rfl (Nat.le_of_ble_eq_true rfl) rfl ?_
  intro p e s m args below meth c A Q C hret
  refine j_aload_n C 0 0 dX8_unit_0 rfl rfl ?_
  refine y_getI C 7 _ _ fX8_unit_22 rfl rfl ft_7_5 sb_7_5 hM0 dX8_unit_1 (fun a101 ea101 la101 ua101 => ?_)
  refine y_if_eq C 8 dX8_unit_4 (by decide) (by omega) (fun h103 => ?_) (fun h103 => ?_)
  · refine j_aload_n C 0 0 dX8_unit_8 rfl rfl ?_
    refine j_callVi C (d := 0) (As := []) (st := []) 78 (s_lt rfl rfl) (s_kc (c := 7) rfl rfl) (by decide) rfl (s1_X8_token hM0 gf gn gi (by exact hp1) (by exact hp2)) gX8_unit_X8_token rfl hdX8_token (by decide) (Nat.le_of_ble_eq_true rfl) dX8_unit_9 rfl (fun r104 M105 h106 => ?_)
    obtain ⟨a108, rfl, rfl, h107⟩ := h106
    refine j_istore_n C 2 [(2, .int (sI a108)), (0, .ref (ad 78)), (1, .int (sI 5))] dX8_unit_12 rfl (by decide) rfl ?_
    refine j_iload_n C 0 2 dX8_unit_13 rfl rfl ?_
    refine y_sipush C dX8_unit_14 rfl ?_
    refine y_icmp_ne C 42 dX8_unit_17 (by decide) (by exact ⟨⟨h107.1, h107.2.1⟩, ⟨(by decide), (by decide)⟩⟩) (fun h109 => ?_) (fun h109 => ?_)
    · refine j_iload_n C 0 2 dX8_unit_42 rfl rfl ?_
      refine y_sipush C dX8_unit_43 rfl ?_
      refine y_icmp_ne C 71 dX8_unit_46 (by decide) (by exact ⟨⟨h107.1, h107.2.1⟩, ⟨(by decide), (by decide)⟩⟩) (fun h110 => ?_) (fun h110 => ?_)
      · refine j_aload_n C 1 0 dX8_unit_71 rfl rfl ?_
        refine j_iload_n C 2 1 dX8_unit_72 rfl rfl ?_
        refine j_callVv C (d := 8) (As := [.int (sI 5)]) (st := []) 78 (s_lt rfl rfl) (s_kc (c := 7) rfl rfl) (by decide) rfl (s3_X8_sum hM0 hpr gf gn gi (by exact hp0) (by exact hp1) (by exact hp2)) gX8_unit_X8_sum rfl hdX8_sum (by decide) (Nat.le_of_ble_eq_true rfl) dX8_unit_73 rfl (fun M112 h113 => ?_)
        obtain ⟨hM112, h114⟩ := h113
        have bM112 := tkx_b (f := gf) (n := gn) (M := M112) (by exact h114.2.2.1)
        have qM112 := po_rr (suR gf gn 1) gn gi (M0.1 78 5).toInt (M0.1 78 6).toInt (psX M0) (M112.1 78 5).toInt (M112.1 78 6).toInt (psX M112) (suR_g gf gn 1) (by exact hp2) (by exact h114.2.2.2.1)
        refine j_aload_n C 1 0 dX8_unit_76 rfl rfl ?_
        refine j_callVi C (d := 0) (As := []) (st := []) 78 (s_lt rfl rfl) (s_kc (c := 7) rfl rfl) (by decide) rfl (s1_X8_token hM112 gf gn ((suR gf gn 1) gi).2.2 (by exact h114.2.2.1) (by exact qM112)) gX8_unit_X8_token rfl hdX8_token (by decide) (Nat.le_of_ble_eq_true rfl) dX8_unit_77 rfl (fun r115 M116 h117 => ?_)
        obtain ⟨a119, rfl, rfl, h118⟩ := h117
        refine j_istore_n C 3 [(3, .int (sI a119)), (2, .int (sI a108)), (0, .ref (ad 78)), (1, .int (sI 5))] dX8_unit_80 rfl (by decide) rfl ?_
        refine j_iload_n C 0 3 dX8_unit_81 rfl rfl ?_
        refine y_sipush C dX8_unit_82 rfl ?_
        refine y_icmp_eq C 102 dX8_unit_85 (by decide) (by exact ⟨⟨h118.1, h118.2.1⟩, ⟨(by decide), (by decide)⟩⟩) (fun h120 => ?_) (fun h120 => ?_)
        · refine j_aload_n C 2 0 dX8_unit_102 rfl rfl ?_
          refine j_dup C dX8_unit_103 rfl ?_
          refine y_getI C 7 _ _ fX8_unit_18 rfl rfl ft_7_2 sb_7_2 hM112 dX8_unit_104 (fun a121 ea121 la121 ua121 => ?_)
          refine y_iconst C dX8_unit_107 ?_
          refine y_iadd C dX8_unit_108 ?_
          refine y_putI C 7 _ _ qX8_unit_18 rfl rfl ft_7_2 sb_7_2 hM112 (PX.w hpr rfl rfl) dX8_unit_109 (by omega) (fun M123 eM123 hM123 => ?_)
          have xM123 := tkx_j (f := gf) (n := gn) (gi := ((suR gf gn 1) gi).2.2) eM123 (by exact h114.2.2.1) (by exact ea121) (by omega) (by exact qM112)
          have dM123 := cs_w hM112 (c := 7) rfl eM123 (by decide)
          have gM123 := s_wr eM123 (by omega)
          refine j_aload_n C 2 0 dX8_unit_112 rfl rfl ?_
          refine j_iload_n C 3 1 dX8_unit_113 rfl rfl ?_
          refine j_callVv C (d := 8) (As := [.int (sI 5)]) (st := []) 78 (s_lt rfl rfl) (s_kc (c := 7) rfl rfl) (by decide) rfl (s3_X8_sum hM123 hpr gf gn (nxF gf gn ((suR gf gn 1) gi).2.2) (by (clear xM123 hM123 eM123 ua121 la121 h120 h118 qM112 bM112 hM112 h110 h109 h107 h103 ua101 la101 ea101 hret C hp2 hp1 hpr hM0; omega)) (by exact xM123.1) (by exact xM123.2.2.2)) gX8_unit_X8_sum rfl hdX8_sum (by decide) (Nat.le_of_ble_eq_true rfl) dX8_unit_114 rfl (fun M125 h126 => ?_)
          obtain ⟨hM125, h127⟩ := h126
          have bM125 := tkx_b (f := gf) (n := gn) (M := M125) (by exact h127.2.2.1)
          have qM125 := po_rr (suR gf gn 1) gn (nxF gf gn ((suR gf gn 1) gi).2.2) (M123.1 78 5).toInt (M123.1 78 6).toInt (psX M123) (M125.1 78 5).toInt (M125.1 78 6).toInt (psX M125) (suR_g gf gn 1) (by exact xM123.2.2.2) (by exact h127.2.2.2.1)
          refine j_aload_n C 2 0 dX8_unit_117 rfl rfl ?_
          refine j_iload_n C 0 3 dX8_unit_118 rfl rfl ?_
          have u128b := tkx_b (f := gf) (n := gn) (M := M125) (by exact h127.2.2.1)
          refine j_callVv C (d := 0) (As := [.int (sI a119)]) (st := []) 78 (s_lt rfl rfl) (s_kc (c := 7) rfl rfl) (by decide) rfl (s1_X8_emit hM125 hpr a119 (by exact ⟨h118.1, h118.2.1⟩) gf gn ((suR gf gn 1) (nxF gf gn ((suR gf gn 1) gi).2.2)).2.2 (by (clear u128b qM125 hM125 xM123 hM123 eM123 ua121 la121 h120 h118 qM112 bM112 hM112 h110 h109 h107 h103 ua101 la101 ea101 hret C hp2 hp1 hpr hM0; omega)) (by exact h127.2.2.1) (by exact qM125)) gX8_unit_X8_emit rfl hdX8_emit (by decide) (Nat.le_of_ble_eq_true rfl) dX8_unit_119 rfl (fun M130 h131 => ?_)
          obtain ⟨hM130, h132⟩ := h131
          have bM130 := tkx_b (f := gf) (n := gn) (M := M130) (by exact h132.2.2.2.2.2.2.1)
          have qM130 := po_eq gn ((suR gf gn 1) (nxF gf gn ((suR gf gn 1) gi).2.2)).2.2 (M125.1 78 5).toInt (psX M125) (M130.1 78 5).toInt (psX M130) (by exact qM125) (by exact h132.2.1.1) (by exact h132.1)
          refine j_goto C 130 dX8_unit_122 (by decide) ?_
          have u133r := un_4 gf gn 1 gi (M0.1 78 5).toInt (M0.1 78 6).toInt (psX M0) (M112.1 78 5).toInt (M112.1 78 6).toInt (psX M112) (M123.1 78 5).toInt (M123.1 78 6).toInt (M125.1 78 5).toInt (M125.1 78 6).toInt (psX M125) (M130.1 78 5).toInt (M130.1 78 6).toInt (psX M130) (by exact hp2) (by (clear qM130 bM130 hM130 u128b qM125 bM125 h127 hM125 gM123 dM123 xM123 hM123 eM123 ua121 la121 ea121 h120 h118 qM112 bM112 h114 hM112 h103 ua101 la101 ea101 hret C hp2 hp1 hp0 hpr hM0; omega)) (by exact h114.2.2.2.1) (by exact qM112) (by omega) (by exact xM123.2.1) (by exact xM123.2.2.1) (by exact h127.2.2.2.1) (by exact h132.2.1.1) (by exact h132.2.1.2) (by exact h132.1)
          have u133l : b01 (CL AGC (M130.1 78 5).toInt M0 M130 ((uLR gf gn 1) gi)) = 1 := cl_e (cl_t (cl_t (cl_t (show b01 (CL AGC (M112.1 78 5).toInt M0 M112 ((sLR gf gn 1) gi)) = 1 by exact h114.2.1) (cl_r (A := AGC) (M := M112) (N := M123) (M123.1 78 5).toInt (agc_78 eM123)) (fun z => by (clear u133r qM130 bM130 h132 hM130 u128b qM125 bM125 h127 hM125 gM123 dM123 hM123 eM123 ua121 la121 ea121 h120 h118 qM112 bM112 h114 hM112 h110 h109 h107 h103 ua101 la101 ea101 hret C hp2 hp1 hp0 hpr hM0; omega))) (show b01 (CL AGC (M125.1 78 5).toInt M123 M125 ((sLR gf gn 1) (nxF gf gn ((suR gf gn 1) gi).2.2))) = 1 by exact h127.2.1) (fun z => rr_z (show b01 (RR ((suR gf gn 1) (nxF gf gn ((suR gf gn 1) gi).2.2)) (M123.1 78 5).toInt (M123.1 78 6).toInt (M125.1 78 5).toInt (M125.1 78 6).toInt (psX M125)) = 1 by exact h127.2.2.2.1) z)) (show b01 (CL AGC (M130.1 78 5).toInt M125 M130 [cmF a119]) = 1 by exact h132.2.2.2.2.2.1) (fun z => by omega)) (fun z => by rw [un_l4 gf gn 1 (show b01 (PO gn gi (M0.1 78 5).toInt (psX M0)) = 1 by exact hp2) (by omega) (by (clear z u133r qM130 bM130 hM130 u128b qM125 bM125 h127 hM125 gM123 dM123 xM123 hM123 eM123 ua121 la121 ea121 h120 h118 qM112 bM112 h114 hM112 h103 ua101 la101 ea101 hret C hp2 hp1 hp0 hpr hM0; omega)) (show b01 (PO gn ((suR gf gn 1) gi).2.2 (M112.1 78 5).toInt (psX M112)) = 1 by exact qM112) (by have y := (fun z => rr_z (show b01 (RR ((suR gf gn 1) (nxF gf gn ((suR gf gn 1) gi).2.2)) (M123.1 78 5).toInt (M123.1 78 6).toInt (M125.1 78 5).toInt (M125.1 78 6).toInt (psX M125)) = 1 by exact h127.2.2.2.1) z) (show (M125.1 78 5).toInt = 0 by omega); (clear z u133r qM130 bM130 h132 hM130 u128b qM125 bM125 h127 hM125 gM123 dM123 hM123 eM123 ua121 la121 ea121 h120 h118 qM112 bM112 h114 hM112 h110 h109 h107 h103 ua101 la101 ea101 hret C hp2 hp1 hp0 hpr hM0; omega)), show tkF gf gn (psX M112) = a119 by exact h118.2.2.symm]; simp)
          have zr := (rfx_t (rfx_t (rfx_i (rfx_t (rfx_r M0) (show b01 (RFX M0 M112) = 1 by exact h114.2.2.2.2)) eM123 (by decide)) (show b01 (RFX M123 M125) = 1 by exact h127.2.2.2.2)) (show b01 (RFX M125 M130) = 1 by exact h132.2.2.2.2.2.2.2)); exact hret _ _ _ dX8_unit_130 ⟨hM130, by exact ⟨(by (clear qM130 bM130 hM130 u128b qM125 bM125 hM125 xM123 hM123 eM123 ua121 la121 h120 h118 qM112 bM112 hM112 h110 h109 h107 h103 ua101 la101 ea101 hret C hp2 hp1 hp0 hpr hM0; omega)), ⟨u133l, ⟨h132.2.2.2.2.2.2.1, ⟨u133r, zr⟩⟩⟩⟩⟩
        · refine j_iload_n C 0 3 dX8_unit_88 rfl rfl ?_
          refine y_sipush C dX8_unit_89 rfl ?_
          refine y_icmp_eq C 102 dX8_unit_92 (by decide) (by exact ⟨⟨h118.1, h118.2.1⟩, ⟨(by decide), (by decide)⟩⟩) (fun h134 => ?_) (fun h134 => ?_)
          · refine j_aload_n C 2 0 dX8_unit_102 rfl rfl ?_
            refine j_dup C dX8_unit_103 rfl ?_
            refine y_getI C 7 _ _ fX8_unit_18 rfl rfl ft_7_2 sb_7_2 hM112 dX8_unit_104 (fun a135 ea135 la135 ua135 => ?_)
            refine y_iconst C dX8_unit_107 ?_
            refine y_iadd C dX8_unit_108 ?_
            refine y_putI C 7 _ _ qX8_unit_18 rfl rfl ft_7_2 sb_7_2 hM112 (PX.w hpr rfl rfl) dX8_unit_109 (by omega) (fun M137 eM137 hM137 => ?_)
            have xM137 := tkx_j (f := gf) (n := gn) (gi := ((suR gf gn 1) gi).2.2) eM137 (by exact h114.2.2.1) (by exact ea135) (by omega) (by exact qM112)
            have dM137 := cs_w hM112 (c := 7) rfl eM137 (by decide)
            have gM137 := s_wr eM137 (by omega)
            refine j_aload_n C 2 0 dX8_unit_112 rfl rfl ?_
            refine j_iload_n C 3 1 dX8_unit_113 rfl rfl ?_
            refine j_callVv C (d := 8) (As := [.int (sI 5)]) (st := []) 78 (s_lt rfl rfl) (s_kc (c := 7) rfl rfl) (by decide) rfl (s3_X8_sum hM137 hpr gf gn (nxF gf gn ((suR gf gn 1) gi).2.2) (by omega) (by exact xM137.1) (by exact xM137.2.2.2)) gX8_unit_X8_sum rfl hdX8_sum (by decide) (Nat.le_of_ble_eq_true rfl) dX8_unit_114 rfl (fun M139 h140 => ?_)
            obtain ⟨hM139, h141⟩ := h140
            have bM139 := tkx_b (f := gf) (n := gn) (M := M139) (by exact h141.2.2.1)
            have qM139 := po_rr (suR gf gn 1) gn (nxF gf gn ((suR gf gn 1) gi).2.2) (M137.1 78 5).toInt (M137.1 78 6).toInt (psX M137) (M139.1 78 5).toInt (M139.1 78 6).toInt (psX M139) (suR_g gf gn 1) (by exact xM137.2.2.2) (by exact h141.2.2.2.1)
            refine j_aload_n C 2 0 dX8_unit_117 rfl rfl ?_
            refine j_iload_n C 0 3 dX8_unit_118 rfl rfl ?_
            have u142b := tkx_b (f := gf) (n := gn) (M := M139) (by exact h141.2.2.1)
            refine j_callVv C (d := 0) (As := [.int (sI a119)]) (st := []) 78 (s_lt rfl rfl) (s_kc (c := 7) rfl rfl) (by decide) rfl (s1_X8_emit hM139 hpr a119 (by exact ⟨h118.1, h118.2.1⟩) gf gn ((suR gf gn 1) (nxF gf gn ((suR gf gn 1) gi).2.2)).2.2 (by omega) (by exact h141.2.2.1) (by exact qM139)) gX8_unit_X8_emit rfl hdX8_emit (by decide) (Nat.le_of_ble_eq_true rfl) dX8_unit_119 rfl (fun M144 h145 => ?_)
            obtain ⟨hM144, h146⟩ := h145
            have bM144 := tkx_b (f := gf) (n := gn) (M := M144) (by exact h146.2.2.2.2.2.2.1)
            have qM144 := po_eq gn ((suR gf gn 1) (nxF gf gn ((suR gf gn 1) gi).2.2)).2.2 (M139.1 78 5).toInt (psX M139) (M144.1 78 5).toInt (psX M144) (by exact qM139) (by exact h146.2.1.1) (by exact h146.1)
            refine j_goto C 130 dX8_unit_122 (by decide) ?_
            have u147r := un_4 gf gn 1 gi (M0.1 78 5).toInt (M0.1 78 6).toInt (psX M0) (M112.1 78 5).toInt (M112.1 78 6).toInt (psX M112) (M137.1 78 5).toInt (M137.1 78 6).toInt (M139.1 78 5).toInt (M139.1 78 6).toInt (psX M139) (M144.1 78 5).toInt (M144.1 78 6).toInt (psX M144) (by exact hp2) (by (clear qM144 bM144 hM144 u142b qM139 bM139 h141 hM139 gM137 dM137 xM137 hM137 eM137 ua135 la135 ea135 qM112 bM112 h114 hM112 h103 ua101 la101 ea101 hret C hp2 hp1 hp0 hpr hM0; omega)) (by exact h114.2.2.2.1) (by exact qM112) (by omega) (by exact xM137.2.1) (by exact xM137.2.2.1) (by exact h141.2.2.2.1) (by exact h146.2.1.1) (by exact h146.2.1.2) (by exact h146.1)
            have u147l : b01 (CL AGC (M144.1 78 5).toInt M0 M144 ((uLR gf gn 1) gi)) = 1 := cl_e (cl_t (cl_t (cl_t (show b01 (CL AGC (M112.1 78 5).toInt M0 M112 ((sLR gf gn 1) gi)) = 1 by exact h114.2.1) (cl_r (A := AGC) (M := M112) (N := M137) (M137.1 78 5).toInt (agc_78 eM137)) (fun z => by omega)) (show b01 (CL AGC (M139.1 78 5).toInt M137 M139 ((sLR gf gn 1) (nxF gf gn ((suR gf gn 1) gi).2.2))) = 1 by exact h141.2.1) (fun z => rr_z (show b01 (RR ((suR gf gn 1) (nxF gf gn ((suR gf gn 1) gi).2.2)) (M137.1 78 5).toInt (M137.1 78 6).toInt (M139.1 78 5).toInt (M139.1 78 6).toInt (psX M139)) = 1 by exact h141.2.2.2.1) z)) (show b01 (CL AGC (M144.1 78 5).toInt M139 M144 [cmF a119]) = 1 by exact h146.2.2.2.2.2.1) (fun z => by omega)) (fun z => by rw [un_l4 gf gn 1 (show b01 (PO gn gi (M0.1 78 5).toInt (psX M0)) = 1 by exact hp2) (by omega) (by (clear z u147r qM144 bM144 hM144 u142b qM139 bM139 h141 hM139 gM137 dM137 xM137 hM137 eM137 ua135 la135 ea135 qM112 bM112 h114 hM112 h103 ua101 la101 ea101 hret C hp2 hp1 hp0 hpr hM0; omega)) (show b01 (PO gn ((suR gf gn 1) gi).2.2 (M112.1 78 5).toInt (psX M112)) = 1 by exact qM112) (by have y := (fun z => rr_z (show b01 (RR ((suR gf gn 1) (nxF gf gn ((suR gf gn 1) gi).2.2)) (M137.1 78 5).toInt (M137.1 78 6).toInt (M139.1 78 5).toInt (M139.1 78 6).toInt (psX M139)) = 1 by exact h141.2.2.2.1) z) (show (M139.1 78 5).toInt = 0 by omega); omega), show tkF gf gn (psX M112) = a119 by exact h118.2.2.symm]; simp)
            have zr := (rfx_t (rfx_t (rfx_i (rfx_t (rfx_r M0) (show b01 (RFX M0 M112) = 1 by exact h114.2.2.2.2)) eM137 (by decide)) (show b01 (RFX M137 M139) = 1 by exact h141.2.2.2.2)) (show b01 (RFX M139 M144) = 1 by exact h146.2.2.2.2.2.2.2)); exact hret _ _ _ dX8_unit_130 ⟨hM144, by exact ⟨(by (clear qM144 bM144 hM144 u142b qM139 bM139 hM139 xM137 hM137 eM137 ua135 la135 h134 h120 h118 qM112 bM112 hM112 h110 h109 h107 h103 ua101 la101 ea101 hret C hp2 hp1 hp0 hpr hM0; omega)), ⟨u147l, ⟨h146.2.2.2.2.2.2.1, ⟨u147r, zr⟩⟩⟩⟩⟩
          · refine j_iload_n C 0 3 dX8_unit_95 rfl rfl ?_
            refine y_sipush C dX8_unit_96 rfl ?_
            refine y_icmp_ne C 125 dX8_unit_99 (by decide) (by exact ⟨⟨h118.1, h118.2.1⟩, ⟨(by decide), (by decide)⟩⟩) (fun h148 => ?_) (fun h148 => ?_)
            · refine j_aload_n C 2 0 dX8_unit_125 rfl rfl ?_
              refine y_iconst C dX8_unit_126 ?_
              refine j_callVv C (d := 0) (As := [.int (sI 2)]) (st := []) 78 (s_lt rfl rfl) (s_kc (c := 7) rfl rfl) (by decide) rfl (s1_X8_fail hM112 hpr 2 (by exact ⟨(by decide), (by decide)⟩) gf gn ((suR gf gn 1) gi).2.2 (by exact ⟨(by decide), (by decide)⟩) (by exact h114.2.2.1) (by exact qM112)) gX8_unit_X8_fail rfl hdX8_fail (by decide) (Nat.le_of_ble_eq_true rfl) dX8_unit_127 rfl (fun M150 h151 => ?_)
              obtain ⟨hM150, fM150, h152⟩ := h151
              have bM150 := tkx_b (f := gf) (n := gn) (M := M150) (by exact h152.2.2.2.1)
              have qM150 := po_f gn ((faQ gf gn 2) ((suR gf gn 1) gi).2.2).2.2 (M150.1 78 5).toInt (psX M150) (by omega)
              have dM150 := cs_f hM112 fM150
              have u153r := un_5 gf gn 1 gi (M0.1 78 5).toInt (M0.1 78 6).toInt (psX M0) (M112.1 78 5).toInt (M112.1 78 6).toInt (psX M112) (M150.1 78 5).toInt (M150.1 78 6).toInt (psX M150) (by exact hp2) (by (clear dM150 qM150 bM150 h152 fM150 hM150 qM112 bM112 h114 hM112 h103 ua101 la101 ea101 hret C hp2 hp1 hp0 hpr hM0; omega)) (by exact h114.2.2.2.1) (by exact qM112) (fun _ => by omega) (by exact h152.2.2.2.2.1)
              have u153l := cl_n (A := AGC) (M := M0) (N := M150) ((uLR gf gn 1) gi) (a := (M150.1 78 5).toInt) (by omega)
              have zr := (rfx_F (rfx_t (rfx_r M0) (show b01 (RFX M0 M112) = 1 by exact h114.2.2.2.2)) fM150); exact hret _ _ _ dX8_unit_130 ⟨hM150, by exact ⟨(by (clear qM150 bM150 fM150 hM150 h148 h134 h120 h118 qM112 bM112 hM112 h110 h109 h107 h103 ua101 la101 ea101 hret C hp2 hp1 hp0 hpr hM0; omega)), ⟨u153l, ⟨h152.2.2.2.1, ⟨u153r, zr⟩⟩⟩⟩⟩
            · refine j_aload_n C 2 0 dX8_unit_102 rfl rfl ?_
              refine j_dup C dX8_unit_103 rfl ?_
              refine y_getI C 7 _ _ fX8_unit_18 rfl rfl ft_7_2 sb_7_2 hM112 dX8_unit_104 (fun a154 ea154 la154 ua154 => ?_)
              refine y_iconst C dX8_unit_107 ?_
              refine y_iadd C dX8_unit_108 ?_
              refine y_putI C 7 _ _ qX8_unit_18 rfl rfl ft_7_2 sb_7_2 hM112 (PX.w hpr rfl rfl) dX8_unit_109 (by omega) (fun M156 eM156 hM156 => ?_)
              have xM156 := tkx_j (f := gf) (n := gn) (gi := ((suR gf gn 1) gi).2.2) eM156 (by exact h114.2.2.1) (by exact ea154) (by omega) (by exact qM112)
              have dM156 := cs_w hM112 (c := 7) rfl eM156 (by decide)
              have gM156 := s_wr eM156 (by omega)
              refine j_aload_n C 2 0 dX8_unit_112 rfl rfl ?_
              refine j_iload_n C 3 1 dX8_unit_113 rfl rfl ?_
              refine j_callVv C (d := 8) (As := [.int (sI 5)]) (st := []) 78 (s_lt rfl rfl) (s_kc (c := 7) rfl rfl) (by decide) rfl (s3_X8_sum hM156 hpr gf gn (nxF gf gn ((suR gf gn 1) gi).2.2) (by omega) (by exact xM156.1) (by exact xM156.2.2.2)) gX8_unit_X8_sum rfl hdX8_sum (by decide) (Nat.le_of_ble_eq_true rfl) dX8_unit_114 rfl (fun M158 h159 => ?_)
              obtain ⟨hM158, h160⟩ := h159
              have bM158 := tkx_b (f := gf) (n := gn) (M := M158) (by exact h160.2.2.1)
              have qM158 := po_rr (suR gf gn 1) gn (nxF gf gn ((suR gf gn 1) gi).2.2) (M156.1 78 5).toInt (M156.1 78 6).toInt (psX M156) (M158.1 78 5).toInt (M158.1 78 6).toInt (psX M158) (suR_g gf gn 1) (by exact xM156.2.2.2) (by exact h160.2.2.2.1)
              refine j_aload_n C 2 0 dX8_unit_117 rfl rfl ?_
              refine j_iload_n C 0 3 dX8_unit_118 rfl rfl ?_
              have u161b := tkx_b (f := gf) (n := gn) (M := M158) (by exact h160.2.2.1)
              refine j_callVv C (d := 0) (As := [.int (sI a119)]) (st := []) 78 (s_lt rfl rfl) (s_kc (c := 7) rfl rfl) (by decide) rfl (s1_X8_emit hM158 hpr a119 (by exact ⟨h118.1, h118.2.1⟩) gf gn ((suR gf gn 1) (nxF gf gn ((suR gf gn 1) gi).2.2)).2.2 (by omega) (by exact h160.2.2.1) (by exact qM158)) gX8_unit_X8_emit rfl hdX8_emit (by decide) (Nat.le_of_ble_eq_true rfl) dX8_unit_119 rfl (fun M163 h164 => ?_)
              obtain ⟨hM163, h165⟩ := h164
              have bM163 := tkx_b (f := gf) (n := gn) (M := M163) (by exact h165.2.2.2.2.2.2.1)
              have qM163 := po_eq gn ((suR gf gn 1) (nxF gf gn ((suR gf gn 1) gi).2.2)).2.2 (M158.1 78 5).toInt (psX M158) (M163.1 78 5).toInt (psX M163) (by exact qM158) (by exact h165.2.1.1) (by exact h165.1)
              refine j_goto C 130 dX8_unit_122 (by decide) ?_
              have u166r := un_4 gf gn 1 gi (M0.1 78 5).toInt (M0.1 78 6).toInt (psX M0) (M112.1 78 5).toInt (M112.1 78 6).toInt (psX M112) (M156.1 78 5).toInt (M156.1 78 6).toInt (M158.1 78 5).toInt (M158.1 78 6).toInt (psX M158) (M163.1 78 5).toInt (M163.1 78 6).toInt (psX M163) (by exact hp2) (by (clear qM163 bM163 hM163 u161b qM158 bM158 h160 hM158 gM156 dM156 xM156 hM156 eM156 ua154 la154 ea154 qM112 bM112 h114 hM112 h103 ua101 la101 ea101 hret C hp2 hp1 hp0 hpr hM0; omega)) (by exact h114.2.2.2.1) (by exact qM112) (by omega) (by exact xM156.2.1) (by exact xM156.2.2.1) (by exact h160.2.2.2.1) (by exact h165.2.1.1) (by exact h165.2.1.2) (by exact h165.1)
              have u166l : b01 (CL AGC (M163.1 78 5).toInt M0 M163 ((uLR gf gn 1) gi)) = 1 := cl_e (cl_t (cl_t (cl_t (show b01 (CL AGC (M112.1 78 5).toInt M0 M112 ((sLR gf gn 1) gi)) = 1 by exact h114.2.1) (cl_r (A := AGC) (M := M112) (N := M156) (M156.1 78 5).toInt (agc_78 eM156)) (fun z => by omega)) (show b01 (CL AGC (M158.1 78 5).toInt M156 M158 ((sLR gf gn 1) (nxF gf gn ((suR gf gn 1) gi).2.2))) = 1 by exact h160.2.1) (fun z => rr_z (show b01 (RR ((suR gf gn 1) (nxF gf gn ((suR gf gn 1) gi).2.2)) (M156.1 78 5).toInt (M156.1 78 6).toInt (M158.1 78 5).toInt (M158.1 78 6).toInt (psX M158)) = 1 by exact h160.2.2.2.1) z)) (show b01 (CL AGC (M163.1 78 5).toInt M158 M163 [cmF a119]) = 1 by exact h165.2.2.2.2.2.1) (fun z => by omega)) (fun z => by rw [un_l4 gf gn 1 (show b01 (PO gn gi (M0.1 78 5).toInt (psX M0)) = 1 by exact hp2) (by omega) (by (clear z u166r qM163 bM163 hM163 u161b qM158 bM158 h160 hM158 gM156 dM156 xM156 hM156 eM156 ua154 la154 ea154 qM112 bM112 h114 hM112 h103 ua101 la101 ea101 hret C hp2 hp1 hp0 hpr hM0; omega)) (show b01 (PO gn ((suR gf gn 1) gi).2.2 (M112.1 78 5).toInt (psX M112)) = 1 by exact qM112) (by have y := (fun z => rr_z (show b01 (RR ((suR gf gn 1) (nxF gf gn ((suR gf gn 1) gi).2.2)) (M156.1 78 5).toInt (M156.1 78 6).toInt (M158.1 78 5).toInt (M158.1 78 6).toInt (psX M158)) = 1 by exact h160.2.2.2.1) z) (show (M158.1 78 5).toInt = 0 by omega); omega), show tkF gf gn (psX M112) = a119 by exact h118.2.2.symm]; simp)
              have zr := (rfx_t (rfx_t (rfx_i (rfx_t (rfx_r M0) (show b01 (RFX M0 M112) = 1 by exact h114.2.2.2.2)) eM156 (by decide)) (show b01 (RFX M156 M158) = 1 by exact h160.2.2.2.2)) (show b01 (RFX M158 M163) = 1 by exact h165.2.2.2.2.2.2.2)); exact hret _ _ _ dX8_unit_130 ⟨hM163, by exact ⟨(by (clear qM163 bM163 hM163 u161b qM158 bM158 hM158 xM156 hM156 eM156 ua154 la154 h148 h134 h120 h118 qM112 bM112 hM112 h110 h109 h107 h103 ua101 la101 ea101 hret C hp2 hp1 hp0 hpr hM0; omega)), ⟨u166l, ⟨h165.2.2.2.2.2.2.1, ⟨u166r, zr⟩⟩⟩⟩⟩
      · refine j_aload_n C 1 0 dX8_unit_49 rfl rfl ?_
        refine j_iload_n C 2 1 dX8_unit_50 rfl rfl ?_
        refine j_callVv C (d := 0) (As := [.int (sI 5)]) (st := []) 78 (s_lt rfl rfl) (s_kc (c := 7) rfl rfl) (by decide) rfl (s6_X8_goDeeper hM0 hpr gf gn gi (by omega) (by omega) (by omega) (by exact hp1) (by exact hp2)) gX8_unit_X8_goDeeper rfl hdX8_goDeeper (by decide) (Nat.le_of_ble_eq_true rfl) dX8_unit_51 rfl (fun M168 h169 => ?_)
        obtain ⟨hM168, fM168, h170⟩ := h169
        have bM168 := tkx_b (f := gf) (n := gn) (M := M168) (by exact h170.2.2.2.1)
        have dM168 := cs_f hM0 fM168
        refine j_aload_n C 1 0 dX8_unit_54 rfl rfl ?_
        refine j_iload_n C 2 1 dX8_unit_55 rfl rfl ?_
        refine y_iconst C dX8_unit_56 ?_
        refine y_iadd C dX8_unit_57 ?_
        refine j_callVv C (d := 8) (As := [.int (sI (5 + 1))]) (st := []) 78 (s_lt rfl rfl) (s_kc (c := 7) rfl rfl) (by decide) rfl (s2_X8_truth hM168 hpr gf gn (nxF gf gn gi) (by omega) (by exact h170.2.2.2.1) (by exact h170.2.1)) gX8_unit_X8_truth rfl hdX8_truth (by decide) (Nat.le_of_ble_eq_true rfl) dX8_unit_58 rfl (fun M172 h173 => ?_)
        obtain ⟨hM172, h174⟩ := h173
        have bM172 := tkx_b (f := gf) (n := gn) (M := M172) (by exact h174.2.2.1)
        have qM172 := po_rr (trP gf gn (unR gf gn 0)) gn (nxF gf gn gi) (M168.1 78 5).toInt (M168.1 78 6).toInt (psX M168) (M172.1 78 5).toInt (M172.1 78 6).toInt (psX M172) (tr_g gf gn (unR_g gf gn 0)) (by exact h170.2.1) (by exact h174.2.2.2.1)
        refine j_aload_n C 1 0 dX8_unit_61 rfl rfl ?_
        refine y_sipush C dX8_unit_62 rfl ?_
        refine j_callVv C (d := 1) (As := [.int (sI 2093)]) (st := []) 78 (s_lt rfl rfl) (s_kc (c := 7) rfl rfl) (by decide) rfl (s1_X8_expect hM172 hpr 2093 (by exact ⟨(by decide), (by decide)⟩) gf gn ((trP gf gn (unR gf gn 0)) (nxF gf gn gi)).2.2 (by exact (by decide)) (by exact (by decide)) (by exact h174.2.2.1) (by exact qM172)) gX8_unit_X8_expect rfl hdX8_expect (by decide) (Nat.le_of_ble_eq_true rfl) dX8_unit_65 rfl (fun M176 h177 => ?_)
        obtain ⟨hM176, fM176, h178⟩ := h177
        have bM176 := tkx_b (f := gf) (n := gn) (M := M176) (by exact h178.2.1)
        have qM176 := po_rr (exP gf gn 2093) gn ((trP gf gn (unR gf gn 0)) (nxF gf gn gi)).2.2 (M172.1 78 5).toInt (M172.1 78 6).toInt (psX M172) (M176.1 78 5).toInt (M176.1 78 6).toInt (psX M176) (ex_g gf gn 2093 (by exact (by decide))) (by exact qM172) (by exact h178.2.2.1)
        have dM176 := cs_f hM172 fM176
        refine j_goto C 130 dX8_unit_68 (by decide) ?_
        have u179r := un_2 gf gn 0 1 rfl gi (M0.1 78 5).toInt (M0.1 78 6).toInt (psX M0) (M168.1 78 5).toInt (M168.1 78 6).toInt (M172.1 78 5).toInt (M172.1 78 6).toInt (psX M172) (M176.1 78 5).toInt (M176.1 78 6).toInt (psX M176) (by exact hp2) (by (clear dM176 qM176 bM176 h178 fM176 hM176 qM172 bM172 h174 hM172 dM168 bM168 h170 fM168 hM168 h109 h103 ua101 la101 ea101 hret C hp2 hp1 hp0 hpr hM0; omega)) (by exact h170.1.1) (by exact h170.1.2) (by exact h174.2.2.2.1) (by exact h178.2.2.1)
        have u179l : b01 (CL AGC (M176.1 78 5).toInt M0 M176 ((uLR gf gn 1) gi)) = 1 := cl_e (cl_t (cl_t (cl_r (A := AGC) (M := M0) (N := M168) (M168.1 78 5).toInt (agc_F fM168)) (show b01 (CL AGC (M172.1 78 5).toInt M168 M172 ((trL gf gn (unR gf gn 0) (uLR gf gn 0)) (nxF gf gn gi))) = 1 by exact h174.2.1) (fun z => rr_z (show b01 (RR ((trP gf gn (unR gf gn 0)) (nxF gf gn gi)) (M168.1 78 5).toInt (M168.1 78 6).toInt (M172.1 78 5).toInt (M172.1 78 6).toInt (psX M172)) = 1 by exact h174.2.2.2.1) z)) (cl_r (A := AGC) (M := M172) (N := M176) (M176.1 78 5).toInt (agc_F fM176)) (fun z => rr_z (show b01 (RR ((exP gf gn 2093) ((trP gf gn (unR gf gn 0)) (nxF gf gn gi)).2.2) (M172.1 78 5).toInt (M172.1 78 6).toInt (M176.1 78 5).toInt (M176.1 78 6).toInt (psX M176)) = 1 by exact h178.2.2.1) z)) (fun z => by rw [un_l2 gf gn 0 1 rfl (show b01 (PO gn gi (M0.1 78 5).toInt (psX M0)) = 1 by exact hp2) (by omega) (by omega), List.nil_append, List.append_nil])
        have zr := (rfx_F (rfx_t (rfx_F (rfx_r M0) fM168) (show b01 (RFX M168 M172) = 1 by exact h174.2.2.2.2)) fM176); exact hret _ _ _ dX8_unit_130 ⟨hM176, by exact ⟨(by (clear qM176 bM176 fM176 hM176 qM172 bM172 hM172 bM168 fM168 hM168 h110 h109 h107 h103 ua101 la101 ea101 hret C hp2 hp1 hp0 hpr hM0; omega)), ⟨u179l, ⟨h178.2.1, ⟨u179r, zr⟩⟩⟩⟩⟩
    · refine j_aload_n C 1 0 dX8_unit_20 rfl rfl ?_
      refine j_iload_n C 2 1 dX8_unit_21 rfl rfl ?_
      refine j_callVv C (d := 0) (As := [.int (sI 5)]) (st := []) 78 (s_lt rfl rfl) (s_kc (c := 7) rfl rfl) (by decide) rfl (s6_X8_goDeeper hM0 hpr gf gn gi (by omega) (by omega) (by omega) (by exact hp1) (by exact hp2)) gX8_unit_X8_goDeeper rfl hdX8_goDeeper (by decide) (Nat.le_of_ble_eq_true rfl) dX8_unit_22 rfl (fun M181 h182 => ?_)
      obtain ⟨hM181, fM181, h183⟩ := h182
      have bM181 := tkx_b (f := gf) (n := gn) (M := M181) (by exact h183.2.2.2.1)
      have dM181 := cs_f hM0 fM181
      refine j_aload_n C 1 0 dX8_unit_25 rfl rfl ?_
      refine j_iload_n C 2 1 dX8_unit_26 rfl rfl ?_
      refine y_iconst C dX8_unit_27 ?_
      refine y_iadd C dX8_unit_28 ?_
      refine j_callVv C (d := 6) (As := [.int (sI (5 + 1))]) (st := []) 78 (s_lt rfl rfl) (s_kc (c := 7) rfl rfl) (by decide) rfl (s2_X8_unit hM181 hpr gf gn (nxF gf gn gi) (by omega) (by exact h183.2.2.2.1) (by exact h183.2.1)) gX8_unit_X8_unit rfl hdX8_unit (by decide) (Nat.le_of_ble_eq_true rfl) dX8_unit_29 rfl (fun M185 h186 => ?_)
      obtain ⟨hM185, h187⟩ := h186
      have bM185 := tkx_b (f := gf) (n := gn) (M := M185) (by exact h187.2.2.1)
      have qM185 := po_rr (unR gf gn 0) gn (nxF gf gn gi) (M181.1 78 5).toInt (M181.1 78 6).toInt (psX M181) (M185.1 78 5).toInt (M185.1 78 6).toInt (psX M185) (unR_g gf gn 0) (by exact h183.2.1) (by exact h187.2.2.2.1)
      refine j_aload_n C 1 0 dX8_unit_32 rfl rfl ?_
      refine y_sipush C dX8_unit_33 rfl ?_
      have u188b := tkx_b (f := gf) (n := gn) (M := M185) (by exact h187.2.2.1)
      refine j_callVv C (d := 0) (As := [.int (sI 1016)]) (st := []) 78 (s_lt rfl rfl) (s_kc (c := 7) rfl rfl) (by decide) rfl (s1_X8_emit hM185 hpr 1016 (by exact ⟨(by decide), (by decide)⟩) gf gn ((unR gf gn 0) (nxF gf gn gi)).2.2 (by (clear u188b qM185 hM185 bM181 fM181 hM181 h109 h107 h103 ua101 la101 ea101 hret C hp2 hp1 hpr hM0; omega)) (by exact h187.2.2.1) (by exact qM185)) gX8_unit_X8_emit rfl hdX8_emit (by decide) (Nat.le_of_ble_eq_true rfl) dX8_unit_36 rfl (fun M190 h191 => ?_)
      obtain ⟨hM190, h192⟩ := h191
      have bM190 := tkx_b (f := gf) (n := gn) (M := M190) (by exact h192.2.2.2.2.2.2.1)
      have qM190 := po_eq gn ((unR gf gn 0) (nxF gf gn gi)).2.2 (M185.1 78 5).toInt (psX M185) (M190.1 78 5).toInt (psX M190) (by exact qM185) (by exact h192.2.1.1) (by exact h192.1)
      refine j_goto C 130 dX8_unit_39 (by decide) ?_
      have u193r := un_1 gf gn 0 1 rfl gi (M0.1 78 5).toInt (M0.1 78 6).toInt (psX M0) (M181.1 78 5).toInt (M181.1 78 6).toInt (M185.1 78 5).toInt (M185.1 78 6).toInt (psX M185) (M190.1 78 5).toInt (M190.1 78 6).toInt (psX M190) (by exact hp2) (by (clear qM190 bM190 h192 hM190 u188b qM185 bM185 h187 hM185 dM181 bM181 h183 fM181 hM181 h103 ua101 la101 ea101 hret C hp2 hp1 hp0 hpr hM0; omega)) (by exact h183.1.1) (by exact h183.1.2) (by exact h187.2.2.2.1) (by exact h192.2.1.1) (by exact h192.2.1.2) (by exact h192.1)
      have u193l : b01 (CL AGC (M190.1 78 5).toInt M0 M190 ((uLR gf gn 1) gi)) = 1 := cl_e (cl_t (cl_t (cl_r (A := AGC) (M := M0) (N := M181) (M181.1 78 5).toInt (agc_F fM181)) (show b01 (CL AGC (M185.1 78 5).toInt M181 M185 ((uLR gf gn 0) (nxF gf gn gi))) = 1 by exact h187.2.1) (fun z => rr_z (show b01 (RR ((unR gf gn 0) (nxF gf gn gi)) (M181.1 78 5).toInt (M181.1 78 6).toInt (M185.1 78 5).toInt (M185.1 78 6).toInt (psX M185)) = 1 by exact h187.2.2.2.1) z)) (show b01 (CL AGC (M190.1 78 5).toInt M185 M190 [cmF 1016]) = 1 by exact h192.2.2.2.2.2.1) (fun z => by (clear u193r qM190 bM190 hM190 u188b qM185 bM185 h187 hM185 dM181 bM181 h183 fM181 hM181 h109 h107 h103 ua101 la101 ea101 hret C hp2 hp1 hp0 hpr hM0; omega))) (fun z => by rw [un_l1 gf gn 0 1 rfl (show b01 (PO gn gi (M0.1 78 5).toInt (psX M0)) = 1 by exact hp2) (by omega) (by omega), List.nil_append])
      have zr := (rfx_t (rfx_t (rfx_F (rfx_r M0) fM181) (show b01 (RFX M181 M185) = 1 by exact h187.2.2.2.2)) (show b01 (RFX M185 M190) = 1 by exact h192.2.2.2.2.2.2.2)); exact hret _ _ _ dX8_unit_130 ⟨hM190, by exact ⟨(by (clear qM190 bM190 hM190 u188b qM185 bM185 hM185 bM181 fM181 hM181 h109 h107 h103 ua101 la101 ea101 hret C hp2 hp1 hp0 hpr hM0; omega)), ⟨u193l, ⟨h192.2.2.2.2.2.2.1, ⟨u193r, zr⟩⟩⟩⟩⟩
  · have u194r := rr_no ((unR gf gn 1) gi) (M0.1 78 5).toInt (M0.1 78 6).toInt (M0.1 78 5).toInt (M0.1 78 6).toInt (psX M0) (by omega) rfl rfl
    have u194l := cl_n (A := AGC) (M := M0) (N := M0) ((uLR gf gn 1) gi) (a := (M0.1 78 5).toInt) (by omega)
    have zr := (rfx_r M0); exact hret _ _ _ dX8_unit_7 ⟨hM0, by exact ⟨(by (clear h103 ua101 la101 ea101 hret C hp2 hp0 hpr hM0; omega)), ⟨u194l, ⟨hp1, ⟨u194r, zr⟩⟩⟩⟩⟩
