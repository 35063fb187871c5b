set_option maxHeartbeats 4000000 in
theorem s1_X12_readUnit {l : Launch} {dC : Nat → ClassId} {dI : Nat → Nat → Nat} {ad : Nat → Nat} {cA : Nat → ClassId} {pr : Nat → Nat → Bool} {Kz : mm_M} {M0 : mm_M} (hM0 : INV pr Kz M0) (hpr : PM pr) (gf : Nat → Int) (gn : Int) (gi : Int) (hp0 : b01 (RIP M0) = 1) (hp1 : b01 (CA M0) = 1) (hp2 : b01 (TKM gf gn M0) = 1) (hp3 : b01 (PO gn gi (M0.1 98 11).toInt (M0.1 98 6).toInt) = 1) (hp4 : b01 (PI M0) = 1) : Cv l 10 yX12_readUnit wsX12_readUnit dC dI ad cA [.ref (ad 98), .int (sI 6)] M0 (fun M' => INV pr Kz M' ∧ FR [98, 102] M0 M' ∧ (b01 (RIP M') = 1) ∧ ((M'.1 98 8).toInt = (M0.1 98 8).toInt) ∧ ((M0.1 98 6).toInt ≤ (M'.1 98 6).toInt) ∧ (b01 (XW M0 M' 0 1 0) = 1) ∧ (b01 (CA M') = 1) ∧ (b01 (CL AGR (M'.1 98 11).toInt M0 M' ((uLR gf gn 0) gi)) = 1) ∧ (b01 (PI M') = 1) ∧ (b01 (TKM gf gn M') = 1) ∧ b01 (RR ((unR gf gn 0) gi) (M0.1 98 11).toInt (M0.1 98 12).toInt (M'.1 98 11).toInt (M'.1 98 12).toInt (M'.1 98 6).toInt) = 1) := by
  refine cv_of (cc := cX12_readUnit) (maxL := 3) (lv := [(0, .ref (ad 98)), (1, .int (sI 6))]) (by decide) rfl (Nat.le_of_ble_eq_true rfl) rfl ?_
  intro p e s m args below meth c A Q C hret
  have u101z := xw_0 M0
  have u101l := ri_l (M := M0) (by omega)
  refine j_aload_n C 0 0 dX12_readUnit_0 rfl rfl ?_
  refine y_bipush C dX12_readUnit_1 rfl ?_
  have k102 := tkm_K (f := gf) (n := gn) (M := M0) (by omega)
  have k103 := kd_2 (kdk_16 gf gn (M0.1 98 6).toInt) (by omega)
  refine j_callVi C (d := 0) (As := [.int (sI 16)]) (st := []) 98 (s_lt rfl rfl) (s_kc (c := 11) rfl rfl) (by decide) rfl (s1_X12_is hM0 16 (by omega)) gX12_readUnit_X12_is rfl hdX12_is (by decide) (Nat.le_of_ble_eq_true rfl) dX12_readUnit_3 rfl (fun r104 M105 h106 => ?_)
  obtain ⟨a108, rfl, rfl, h107⟩ := h106
  refine y_if_eq C 33 dX12_readUnit_6 (by decide) (by omega) (fun h109 => ?_) (fun h109 => ?_)
  · refine j_aload_n C 0 0 dX12_readUnit_33 rfl rfl ?_
    refine y_bipush C dX12_readUnit_34 rfl ?_
    have k110 := tkm_K (f := gf) (n := gn) (M := M0) (by omega)
    have k111 := kd_2 (kdk_37 gf gn (M0.1 98 6).toInt) (by omega)
    refine j_callVi C (d := 0) (As := [.int (sI 37)]) (st := []) 98 (s_lt rfl rfl) (s_kc (c := 11) rfl rfl) (by decide) rfl (s1_X12_is hM0 37 (by omega)) gX12_readUnit_X12_is rfl hdX12_is (by decide) (Nat.le_of_ble_eq_true rfl) dX12_readUnit_36 rfl (fun r112 M113 h114 => ?_)
    obtain ⟨a116, rfl, rfl, h115⟩ := h114
    refine y_if_eq C 73 dX12_readUnit_39 (by decide) (by omega) (fun h117 => ?_) (fun h117 => ?_)
    · refine j_aload_n C 0 0 dX12_readUnit_73 rfl rfl ?_
      refine j_iload_n C 1 1 dX12_readUnit_74 rfl rfl ?_
      refine j_callVv C (d := 9) (As := [.int (sI 6)]) (st := []) 98 (s_lt rfl rfl) (s_kc (c := 11) rfl rfl) (by decide) rfl (s1_X12_readSum hM0 hpr gf gn gi (by omega) (by omega) (by omega) (by omega) (by omega)) gX12_readUnit_X12_readSum rfl hdX12_readSum (by decide) (Nat.le_of_ble_eq_true rfl) dX12_readUnit_75 rfl (fun M119 h120 => ?_)
      obtain ⟨hM119, fM119, h121⟩ := h120
      have bM119 := tkm_b (f := gf) (n := gn) (M := M119) (by omega)
      have qM119 := po_rr (suR gf gn 0) gn gi (M0.1 98 11).toInt (M0.1 98 12).toInt (M0.1 98 6).toInt (M119.1 98 11).toInt (M119.1 98 12).toInt (M119.1 98 6).toInt (suR_g gf gn 0) (by omega) (by omega)
      have u122l := ri_l (M := M119) (by omega)
      refine j_aload_n C 0 0 dX12_readUnit_78 rfl rfl ?_
      refine y_bipush C dX12_readUnit_79 rfl ?_
      have k123 := tkm_K (f := gf) (n := gn) (M := M119) (by omega)
      have k124 := kd_2 (kdk_39 gf gn (M119.1 98 6).toInt) (by omega)
      refine j_callVi C (d := 0) (As := [.int (sI 39)]) (st := []) 98 (s_lt rfl rfl) (s_kc (c := 11) rfl rfl) (by decide) rfl (s1_X12_is hM119 39 (by omega)) gX12_readUnit_X12_is rfl hdX12_is (by decide) (Nat.le_of_ble_eq_true rfl) dX12_readUnit_81 rfl (fun r125 M126 h127 => ?_)
      obtain ⟨a129, rfl, rfl, h128⟩ := h127
      have J140 : ∀ (a139 : Int), (3003 ≤ a139 ∧ a139 ≤ 3005 ∧ (¬ (M119.1 98 11).toInt = 0 ∨ (tkF gf gn (M119.1 98 6).toInt = 2061 ∧ a139 = 3003) ∨ (tkF gf gn (M119.1 98 6).toInt = 2060 ∧ a139 = 3004) ∨ (¬ tkF gf gn (M119.1 98 6).toInt = 2061 ∧ ¬ tkF gf gn (M119.1 98 6).toInt = 2060 ∧ a139 = 3005))) → jj p l e (cn_R 10) s m args below meth c 0 0 Q 3 dC dI ad cA A M119 111 [(0, .ref (ad 98)), (1, .int (sI 6))] [.int (sI a139)] := by
        intro a139 h141
        refine j_istore_n C 2 [(2, .int (sI a139)), (0, .ref (ad 98)), (1, .int (sI 6))] dX12_readUnit_111 rfl (by decide) rfl ?_
        refine j_aload_n C 1 0 dX12_readUnit_112 rfl rfl ?_
        refine y_bipush C dX12_readUnit_113 rfl ?_
        have k142 := tkm_K (f := gf) (n := gn) (M := M119) (by omega)
        have k143 := kd_2 (kdk_39 gf gn (M119.1 98 6).toInt) (by omega)
        refine j_callVi C (d := 0) (As := [.int (sI 39)]) (st := []) 98 (s_lt rfl rfl) (s_kc (c := 11) rfl rfl) (by decide) rfl (s1_X12_is hM119 39 (by omega)) gX12_readUnit_X12_is rfl hdX12_is (by decide) (Nat.le_of_ble_eq_true rfl) dX12_readUnit_115 rfl (fun r144 M145 h146 => ?_)
        obtain ⟨a148, rfl, rfl, h147⟩ := h146
        have J196 : ∀ (M195 : mm_M), ((b01 (RIP M195) = 1) ∧ ((M195.1 98 8).toInt = (M0.1 98 8).toInt) ∧ ((M0.1 98 6).toInt ≤ (M195.1 98 6).toInt) ∧ (b01 (XW M0 M195 0 1 1) = 1) ∧ (b01 (RR ((sjP gf gn 0) gi) (M0.1 98 11).toInt (M0.1 98 12).toInt (M195.1 98 11).toInt (M195.1 98 12).toInt (M195.1 98 6).toInt) = 1) ∧ (b01 (CL AGR (M195.1 98 11).toInt M0 M195 ((sLR gf gn 0) gi)) = 1) ∧ (b01 (UJW gf gn 0 gi (M195.1 98 11).toInt a139) = 1) ∧ (b01 (TKM gf gn M195) = 1) ∧ (b01 (PO gn ((sjP gf gn 0) gi).2.2 (M195.1 98 11).toInt (M195.1 98 6).toInt) = 1) ∧ (b01 (PI M195) = 1)) → INV pr Kz M195 → FR [98, 102] M0 M195 → jj p l e (cn_R 10) s m args below meth c 0 0 Q 3 dC dI ad cA A M195 151 [(0, .ref (ad 98)), (1, .int (sI 6)), (2, .int (sI a139))] [] := by
          intro M195 h197 hM195 fM195
          have u199a := ca_x (M := M0) (N := M195) (r := 0) (e := 1) (s := 1) (by decide) (by omega) (by omega)
          have u199l := ri_l (M := M195) (by omega)
          refine j_aload_n C 0 0 dX12_readUnit_151 rfl rfl ?_
          refine j_iload_n C 1 1 dX12_readUnit_152 rfl rfl ?_
          refine j_callVv C (d := 9) (As := [.int (sI 6)]) (st := []) 98 (s_lt rfl rfl) (s_kc (c := 11) rfl rfl) (by decide) rfl (s1_X12_readSum hM195 hpr gf gn ((sjP gf gn 0) gi).2.2 (by omega) (by omega) (by omega) (by omega) (by omega)) gX12_readUnit_X12_readSum rfl hdX12_readSum (by decide) (Nat.le_of_ble_eq_true rfl) dX12_readUnit_153 rfl (fun M201 h202 => ?_)
          obtain ⟨hM201, fM201, h203⟩ := h202
          have bM201 := tkm_b (f := gf) (n := gn) (M := M201) (by omega)
          have qM201 := po_rr (suR gf gn 0) gn ((sjP gf gn 0) gi).2.2 (M195.1 98 11).toInt (M195.1 98 12).toInt (M195.1 98 6).toInt (M201.1 98 11).toInt (M201.1 98 12).toInt (M201.1 98 6).toInt (suR_g gf gn 0) (by omega) (by omega)
          have u204t := xw_t (M := M0) (N := M195) (P := M201) (r1 := 0) (e1 := 1) (s1 := 1) (r2 := 0) (e2 := 1) (s2 := 0) 0 2 1 (by decide) (by omega) (by omega)
          have u204l := ri_l (M := M201) (by omega)
          have u204b := cb_x (M := M0) (N := M201) (r := 0) (e := 2) (s := 1) (by decide) (by omega) (by omega) (by omega)
          refine j_aload_n C 0 0 dX12_readUnit_156 rfl rfl ?_
          refine j_iload_n C 2 2 dX12_readUnit_157 rfl rfl ?_
          refine j_callVv C (d := 0) (As := [.int (sI a139)]) (st := []) 98 (s_lt rfl rfl) (s_kc (c := 11) rfl rfl) (by decide) rfl (s1_X12_codes hM201 hpr a139 (by omega) gf gn ((suR gf gn 0) ((sjP gf gn 0) gi).2.2).2.2 (by omega) (by omega) (by omega) (by omega)) gX12_readUnit_X12_codes rfl hdX12_codes (by decide) (Nat.le_of_ble_eq_true rfl) dX12_readUnit_158 rfl (fun M206 h207 => ?_)
          obtain ⟨hM206, fM206, h208⟩ := h207
          have k209 := tk_c gf gn (M206.1 98 6).toInt (M201.1 98 6).toInt
          have bM206 := tkm_b (f := gf) (n := gn) (M := M206) (by omega)
          have qM206 := po_eq gn ((suR gf gn 0) ((sjP gf gn 0) gi).2.2).2.2 (M201.1 98 11).toInt (M201.1 98 6).toInt (M206.1 98 11).toInt (M206.1 98 6).toInt (by omega) (by omega) (by omega)
          have u210x := xw_a (M := M201) (N := M206) (c := a139) (r := 2) (e := (-1)) (FR.cell fM206 (by decide)) (ap_bin ⟨(INV.rd hM201 (i := 102) (c := 48) (k := 280) rfl rfl).1, by omega, by omega⟩) (by omega)
          have u210t := xw_t (M := M0) (N := M201) (P := M206) (r1 := 0) (e1 := 2) (s1 := 1) (r2 := 2) (e2 := (-1)) (s2 := (-1)) 0 1 0 (by decide) (by omega) (by omega)
          have u210i := ri_c (M := M201) (N := M206) (FR.cell fM206 (by decide)) (by omega)
          have u210l := ri_l (M := M206) (by omega)
          have u210a := ca_x (M := M0) (N := M206) (r := 0) (e := 1) (s := 0) (by decide) (by omega) (by omega)
          have u211r := un_6 gf gn 0 gi (M0.1 98 11).toInt (M0.1 98 12).toInt (M0.1 98 6).toInt (M195.1 98 11).toInt (M195.1 98 12).toInt (M195.1 98 6).toInt (M201.1 98 11).toInt (M201.1 98 12).toInt (M201.1 98 6).toInt (M206.1 98 11).toInt (M206.1 98 12).toInt (M206.1 98 6).toInt (by omega) (by (clear u210a u210l u210i u210t u210x qM206 bM206 k209 h208 fM206 hM206 u204b u204l u204t qM201 bM201 h203 fM201 hM201 u199l u199a fM195 hM195 h197 h147 k143 k142 h141 h128 k124 u122l qM119 bM119 h121 fM119 hM119 k110 u101l u101z hret C hp4 hp3 hp2 hp1 hp0 hpr hM0; omega)) (by omega) (by omega) (by omega) (by omega) (by omega)
          have u211l : b01 (CL AGR (M206.1 98 11).toInt M0 M206 ((uLR gf gn 0) gi)) = 1 := cl_e (cl_t (cl_t (show b01 (CL AGR (M195.1 98 11).toInt M0 M195 ((sLR gf gn 0) gi)) = 1 by omega) (show b01 (CL AGR (M201.1 98 11).toInt M195 M201 ((sLR gf gn 0) ((sjP gf gn 0) gi).2.2)) = 1 by omega) (fun z => rr_z (show b01 (RR ((suR gf gn 0) ((sjP gf gn 0) gi).2.2) (M195.1 98 11).toInt (M195.1 98 12).toInt (M201.1 98 11).toInt (M201.1 98 12).toInt (M201.1 98 6).toInt) = 1 by omega) z)) (show b01 (CL AGR (M206.1 98 11).toInt M201 M206 [a139]) = 1 by omega) (fun z => by omega)) (fun z => by have y := (fun z => rr_z (show b01 (RR ((suR gf gn 0) ((sjP gf gn 0) gi).2.2) (M195.1 98 11).toInt (M195.1 98 12).toInt (M201.1 98 11).toInt (M201.1 98 12).toInt (M201.1 98 6).toInt) = 1 by omega) z) (show (M201.1 98 11).toInt = 0 by omega); rw [(b01_e (show b01 (UJW gf gn 0 gi (M195.1 98 11).toInt a139) = 1 by omega)).resolve_left (fun w => w y), List.append_assoc])
          have zz98_11 : (M206.1 98 11).toInt = (M201.1 98 11).toInt := s_fF fM206 (by decide) (rfl); have zz98_12 : (M206.1 98 12).toInt = (M201.1 98 12).toInt := s_fF fM206 (by decide) (rfl); have zz98_6 : (M206.1 98 6).toInt = (M201.1 98 6).toInt := s_fF fM206 (by decide) (rfl); have zz98_8 : (M206.1 98 8).toInt = (M201.1 98 8).toInt := s_fF fM206 (by decide) (rfl); exact hret _ _ _ dX12_readUnit_161 ⟨hM206, (((FR.rf.tr fM195 (by decide)).tr fM201 (by decide)).tr fM206 (by decide)), by (clear zz98_8 zz98_6 zz98_12 zz98_11 u210l u210x qM206 k209 fM206 hM206 u204b u204l u204t qM201 bM201 fM201 hM201 u199l u199a fM195 hM195 h147 k143 k142 h141 h128 k124 k123 u122l qM119 fM119 hM119 h117 h115 k111 k110 h109 h107 k103 k102 u101l u101z hret C hp4 hp3 hp2 hp1 hp0 hpr hM0; omega)⟩
        refine y_if_ne C 139 dX12_readUnit_118 (by decide) (by omega) (fun h149 => ?_) (fun h149 => ?_)
        · have u150k := ri_k (M := M119) (by omega) (by omega)
          refine j_aload_n C 1 0 dX12_readUnit_139 rfl rfl ?_
          have k151 := tkm_p (f := gf) (n := gn) (M := M119) (by omega)
          have k152 := tkm_K (f := gf) (n := gn) (M := M119) (by omega)
          refine j_callVv C (d := 5) (As := []) (st := []) 98 (s_lt rfl rfl) (s_kc (c := 11) rfl rfl) (by decide) rfl (s1_X12_next hM119 hpr gf gn (by omega) (by omega) (by omega) (by omega)) gX12_readUnit_X12_next rfl hdX12_next (by decide) (Nat.le_of_ble_eq_true rfl) dX12_readUnit_140 rfl (fun M154 h155 => ?_)
          obtain ⟨hM154, fM154, h156⟩ := h155
          have bM154 := tkm_b (f := gf) (n := gn) (M := M154) (by omega)
          have qM154 := nx_po (f := gf) (n := gn) (i := ((suR gf gn 0) gi).2.2) (M := M119) (M' := M154) (by omega) (by omega) (by omega) (by omega) (by omega)
          refine j_goto C 151 dX12_readUnit_143 (by decide) ?_
          have u157c := xw_c (N := M119) (P := M154) 1 (FR.cell fM154 (by decide)) (by omega)
          have u157t := xw_t (M := M0) (N := M119) (P := M154) (r1 := 0) (e1 := 1) (s1 := 0) (r2 := 0) (e2 := 0) (s2 := 1) 0 1 1 (by decide) (by omega) (by omega)
          have u157l := ri_l (M := M154) (by omega)
          have u157J := cj_1 gf gn 0 gi (M0.1 98 11).toInt (M0.1 98 12).toInt (M119.1 98 11).toInt (M119.1 98 12).toInt (M119.1 98 6).toInt (M154.1 98 11).toInt (M154.1 98 12).toInt (M154.1 98 6).toInt (by omega) (by omega) (by omega) (by omega) (by omega) (by omega) (by omega)
          have u157P := po_rr (sjP gf gn 0) gn gi (M0.1 98 11).toInt (M0.1 98 12).toInt (M0.1 98 6).toInt (M154.1 98 11).toInt (M154.1 98 12).toInt (M154.1 98 6).toInt (sj_g gf gn 0) (by omega) (by omega)
          have u157c : b01 (CL AGR (M154.1 98 11).toInt M0 M154 ((sLR gf gn 0) gi)) = 1 := cl_e (cl_t (show b01 (CL AGR (M119.1 98 11).toInt M0 M119 ((sLR gf gn 0) gi)) = 1 by omega) (cl_r (A := AGR) (M := M119) (N := M154) (M154.1 98 11).toInt (agr_c (FR.cell fM154 (by decide)))) (fun z => by omega)) (fun z => (List.append_nil _).symm)
          have u157j := uj_1 gf gn 0 (i := gi) (a := (M154.1 98 11).toInt) (c := a139) (show b01 (PO gn gi (M0.1 98 11).toInt (M0.1 98 6).toInt) = 1 by omega) (by omega) (show b01 (RR ((suR gf gn 0) gi) (M0.1 98 11).toInt (M0.1 98 12).toInt (M119.1 98 11).toInt (M119.1 98 12).toInt (M119.1 98 6).toInt) = 1 by omega) (show b01 (PO gn ((suR gf gn 0) gi).2.2 (M119.1 98 11).toInt (M119.1 98 6).toInt) = 1 by omega) (by omega) (by (clear u157c u157P u157J u157l u157t qM154 bM154 h156 fM154 hM154 k152 k151 u150k J196 k142 h128 k124 u122l qM119 bM119 h121 fM119 hM119 h117 h115 k111 k110 h109 h107 k103 k102 u101l u101z hret C hp4 hp3 hp2 hp1 hp0 hpr hM0; omega))
          refine j_lv [1, 2, 0] rfl ?_; exact J196 M154 (by omega) hM154 ((FR.rf.tr fM119 (by decide)).tr fM154 (by decide))
        · refine j_aload_n C 1 0 dX12_readUnit_121 rfl rfl ?_
          refine y_bipush C dX12_readUnit_122 rfl ?_
          have k158 := tkm_K (f := gf) (n := gn) (M := M119) (by omega)
          have k159 := kd_2 (kdk_40 gf gn (M119.1 98 6).toInt) (by omega)
          refine j_callVi C (d := 0) (As := [.int (sI 40)]) (st := []) 98 (s_lt rfl rfl) (s_kc (c := 11) rfl rfl) (by decide) rfl (s1_X12_is hM119 40 (by omega)) gX12_readUnit_X12_is rfl hdX12_is (by decide) (Nat.le_of_ble_eq_true rfl) dX12_readUnit_124 rfl (fun r160 M161 h162 => ?_)
          obtain ⟨a164, rfl, rfl, h163⟩ := h162
          refine y_if_ne C 139 dX12_readUnit_127 (by decide) (by omega) (fun h165 => ?_) (fun h165 => ?_)
          · have u166k := ri_k (M := M119) (by omega) (by omega)
            refine j_aload_n C 1 0 dX12_readUnit_139 rfl rfl ?_
            have k167 := tkm_p (f := gf) (n := gn) (M := M119) (by omega)
            have k168 := tkm_K (f := gf) (n := gn) (M := M119) (by omega)
            refine j_callVv C (d := 5) (As := []) (st := []) 98 (s_lt rfl rfl) (s_kc (c := 11) rfl rfl) (by decide) rfl (s1_X12_next hM119 hpr gf gn (by omega) (by omega) (by omega) (by omega)) gX12_readUnit_X12_next rfl hdX12_next (by decide) (Nat.le_of_ble_eq_true rfl) dX12_readUnit_140 rfl (fun M170 h171 => ?_)
            obtain ⟨hM170, fM170, h172⟩ := h171
            have bM170 := tkm_b (f := gf) (n := gn) (M := M170) (by omega)
            have qM170 := nx_po (f := gf) (n := gn) (i := ((suR gf gn 0) gi).2.2) (M := M119) (M' := M170) (by omega) (by omega) (by omega) (by omega) (by omega)
            refine j_goto C 151 dX12_readUnit_143 (by decide) ?_
            have u173c := xw_c (N := M119) (P := M170) 1 (FR.cell fM170 (by decide)) (by omega)
            have u173t := xw_t (M := M0) (N := M119) (P := M170) (r1 := 0) (e1 := 1) (s1 := 0) (r2 := 0) (e2 := 0) (s2 := 1) 0 1 1 (by decide) (by omega) (by omega)
            have u173l := ri_l (M := M170) (by omega)
            have u173J := cj_1 gf gn 0 gi (M0.1 98 11).toInt (M0.1 98 12).toInt (M119.1 98 11).toInt (M119.1 98 12).toInt (M119.1 98 6).toInt (M170.1 98 11).toInt (M170.1 98 12).toInt (M170.1 98 6).toInt (by omega) (by omega) (by omega) (by omega) (by omega) (by omega) (by omega)
            have u173P := po_rr (sjP gf gn 0) gn gi (M0.1 98 11).toInt (M0.1 98 12).toInt (M0.1 98 6).toInt (M170.1 98 11).toInt (M170.1 98 12).toInt (M170.1 98 6).toInt (sj_g gf gn 0) (by omega) (by omega)
            have u173c : b01 (CL AGR (M170.1 98 11).toInt M0 M170 ((sLR gf gn 0) gi)) = 1 := cl_e (cl_t (show b01 (CL AGR (M119.1 98 11).toInt M0 M119 ((sLR gf gn 0) gi)) = 1 by omega) (cl_r (A := AGR) (M := M119) (N := M170) (M170.1 98 11).toInt (agr_c (FR.cell fM170 (by decide)))) (fun z => by omega)) (fun z => (List.append_nil _).symm)
            have u173j := uj_1 gf gn 0 (i := gi) (a := (M170.1 98 11).toInt) (c := a139) (show b01 (PO gn gi (M0.1 98 11).toInt (M0.1 98 6).toInt) = 1 by omega) (by (clear u173c u173P u173J u173l u173t qM170 bM170 h172 fM170 hM170 k168 k167 u166k h165 h163 k159 k158 h149 J196 h147 k143 k142 h141 h128 k124 k123 u122l qM119 bM119 h121 fM119 hM119 k110 u101l u101z hret C hp4 hp3 hp2 hp1 hp0 hpr hM0; omega)) (show b01 (RR ((suR gf gn 0) gi) (M0.1 98 11).toInt (M0.1 98 12).toInt (M119.1 98 11).toInt (M119.1 98 12).toInt (M119.1 98 6).toInt) = 1 by omega) (show b01 (PO gn ((suR gf gn 0) gi).2.2 (M119.1 98 11).toInt (M119.1 98 6).toInt) = 1 by omega) (by omega) (by (clear u173c u173P u173J u173l u173t qM170 bM170 h172 fM170 hM170 k168 k167 u166k k158 h149 J196 h147 k143 k142 h128 k124 u122l qM119 bM119 h121 fM119 hM119 h117 h115 k111 k110 h109 h107 k103 k102 u101l u101z hret C hp4 hp3 hp2 hp1 hp0 hpr hM0; omega))
            refine j_lv [1, 2, 0] rfl ?_; exact J196 M170 (by omega) hM170 ((FR.rf.tr fM119 (by decide)).tr fM170 (by decide))
          · refine j_aload_n C 1 0 dX12_readUnit_130 rfl rfl ?_
            refine y_bipush C dX12_readUnit_131 rfl ?_
            have k174 := tkm_K (f := gf) (n := gn) (M := M119) (by omega)
            have k175 := kd_2 (kdk_41 gf gn (M119.1 98 6).toInt) (by omega)
            refine j_callVi C (d := 0) (As := [.int (sI 41)]) (st := []) 98 (s_lt rfl rfl) (s_kc (c := 11) rfl rfl) (by decide) rfl (s1_X12_is hM119 41 (by omega)) gX12_readUnit_X12_is rfl hdX12_is (by decide) (Nat.le_of_ble_eq_true rfl) dX12_readUnit_133 rfl (fun r176 M177 h178 => ?_)
            obtain ⟨a180, rfl, rfl, h179⟩ := h178
            refine y_if_eq C 146 dX12_readUnit_136 (by decide) (by omega) (fun h181 => ?_) (fun h181 => ?_)
            · refine j_aload_n C 1 0 dX12_readUnit_146 rfl rfl ?_
              refine y_iconst C dX12_readUnit_147 ?_
              refine j_callVv C (d := 0) (As := [.int (sI 2)]) (st := []) 98 (s_lt rfl rfl) (s_kc (c := 11) rfl rfl) (by decide) rfl (s1_X12_fails hM119 hpr 2 (by omega) gf gn ((suR gf gn 0) gi).2.2 (by omega) (by omega) (by omega) (by omega) (by omega)) gX12_readUnit_X12_fails rfl hdX12_fails (by decide) (Nat.le_of_ble_eq_true rfl) dX12_readUnit_148 rfl (fun M183 h184 => ?_)
              obtain ⟨hM183, fM183, h185⟩ := h184
              have bM183 := tkm_b (f := gf) (n := gn) (M := M183) (by omega)
              have qM183 := po_f gn ((faQ gf gn 2) ((suR gf gn 0) gi).2.2).2.2 (M183.1 98 11).toInt (M183.1 98 6).toInt (by omega)
              have u186f : b01 (XW M0 M183 0 1 1) = 1 := b01_i (Or.inl (by omega))
              have u186l := ri_l (M := M183) (by omega)
              have u186J := cj_2 gf gn 0 gi (M0.1 98 11).toInt (M0.1 98 12).toInt (M119.1 98 11).toInt (M119.1 98 12).toInt (M119.1 98 6).toInt (M183.1 98 11).toInt (M183.1 98 12).toInt (M183.1 98 6).toInt (by omega) (by omega) (by omega) (by omega)
              have u186P := po_rr (sjP gf gn 0) gn gi (M0.1 98 11).toInt (M0.1 98 12).toInt (M0.1 98 6).toInt (M183.1 98 11).toInt (M183.1 98 12).toInt (M183.1 98 6).toInt (sj_g gf gn 0) (by omega) (by omega)
              have u186c := cl_n (A := AGR) (M := M0) (N := M183) ((sLR gf gn 0) gi) (a := (M183.1 98 11).toInt) (by omega)
              have u186j : b01 (UJW gf gn 0 gi (M183.1 98 11).toInt a139) = 1 := b01_i (Or.inl (by omega))
              refine j_lv [1, 2, 0] rfl ?_; exact J196 M183 (by omega) hM183 ((FR.rf.tr fM119 (by decide)).tr fM183 (by decide))
            · have u187k := ri_k (M := M119) (by omega) (by omega)
              refine j_aload_n C 1 0 dX12_readUnit_139 rfl rfl ?_
              have k188 := tkm_p (f := gf) (n := gn) (M := M119) (by omega)
              have k189 := tkm_K (f := gf) (n := gn) (M := M119) (by omega)
              refine j_callVv C (d := 5) (As := []) (st := []) 98 (s_lt rfl rfl) (s_kc (c := 11) rfl rfl) (by decide) rfl (s1_X12_next hM119 hpr gf gn (by omega) (by omega) (by omega) (by omega)) gX12_readUnit_X12_next rfl hdX12_next (by decide) (Nat.le_of_ble_eq_true rfl) dX12_readUnit_140 rfl (fun M191 h192 => ?_)
              obtain ⟨hM191, fM191, h193⟩ := h192
              have bM191 := tkm_b (f := gf) (n := gn) (M := M191) (by omega)
              have qM191 := nx_po (f := gf) (n := gn) (i := ((suR gf gn 0) gi).2.2) (M := M119) (M' := M191) (by omega) (by omega) (by omega) (by omega) (by omega)
              refine j_goto C 151 dX12_readUnit_143 (by decide) ?_
              have u194c := xw_c (N := M119) (P := M191) 1 (FR.cell fM191 (by decide)) (by omega)
              have u194t := xw_t (M := M0) (N := M119) (P := M191) (r1 := 0) (e1 := 1) (s1 := 0) (r2 := 0) (e2 := 0) (s2 := 1) 0 1 1 (by decide) (by omega) (by omega)
              have u194l := ri_l (M := M191) (by omega)
              have u194J := cj_1 gf gn 0 gi (M0.1 98 11).toInt (M0.1 98 12).toInt (M119.1 98 11).toInt (M119.1 98 12).toInt (M119.1 98 6).toInt (M191.1 98 11).toInt (M191.1 98 12).toInt (M191.1 98 6).toInt (by omega) (by omega) (by omega) (by omega) (by omega) (by omega) (by omega)
              have u194P := po_rr (sjP gf gn 0) gn gi (M0.1 98 11).toInt (M0.1 98 12).toInt (M0.1 98 6).toInt (M191.1 98 11).toInt (M191.1 98 12).toInt (M191.1 98 6).toInt (sj_g gf gn 0) (by omega) (by omega)
              have u194c : b01 (CL AGR (M191.1 98 11).toInt M0 M191 ((sLR gf gn 0) gi)) = 1 := cl_e (cl_t (show b01 (CL AGR (M119.1 98 11).toInt M0 M119 ((sLR gf gn 0) gi)) = 1 by omega) (cl_r (A := AGR) (M := M119) (N := M191) (M191.1 98 11).toInt (agr_c (FR.cell fM191 (by decide)))) (fun z => by omega)) (fun z => (List.append_nil _).symm)
              have u194j := uj_1 gf gn 0 (i := gi) (a := (M191.1 98 11).toInt) (c := a139) (show b01 (PO gn gi (M0.1 98 11).toInt (M0.1 98 6).toInt) = 1 by omega) (by (clear u194c u194P u194J u194l u194t qM191 bM191 h193 fM191 hM191 k189 k188 u187k h181 h179 k175 k174 h165 h163 k159 k158 h149 J196 h147 k143 k142 h141 h128 k124 k123 u122l qM119 bM119 h121 fM119 hM119 k110 u101l u101z hret C hp4 hp3 hp2 hp1 hp0 hpr hM0; omega)) (show b01 (RR ((suR gf gn 0) gi) (M0.1 98 11).toInt (M0.1 98 12).toInt (M119.1 98 11).toInt (M119.1 98 12).toInt (M119.1 98 6).toInt) = 1 by omega) (show b01 (PO gn ((suR gf gn 0) gi).2.2 (M119.1 98 11).toInt (M119.1 98 6).toInt) = 1 by omega) (by omega) (by (clear u194c u194P u194J u194l u194t qM191 bM191 h193 fM191 hM191 k189 k188 u187k k174 h165 h163 k159 k158 h149 J196 h147 k143 k142 h128 k124 u122l qM119 bM119 h121 fM119 hM119 h117 h115 k111 k110 h109 h107 k103 k102 u101l u101z hret C hp4 hp3 hp2 hp1 hp0 hpr hM0; omega))
              refine j_lv [1, 2, 0] rfl ?_; exact J196 M191 (by omega) hM191 ((FR.rf.tr fM119 (by decide)).tr fM191 (by decide))
      refine y_if_eq C 93 dX12_readUnit_84 (by decide) (by omega) (fun h130 => ?_) (fun h130 => ?_)
      · refine j_aload_n C 0 0 dX12_readUnit_93 rfl rfl ?_
        refine y_bipush C dX12_readUnit_94 rfl ?_
        have k131 := tkm_K (f := gf) (n := gn) (M := M119) (by omega)
        have k132 := kd_2 (kdk_40 gf gn (M119.1 98 6).toInt) (by omega)
        refine j_callVi C (d := 0) (As := [.int (sI 40)]) (st := []) 98 (s_lt rfl rfl) (s_kc (c := 11) rfl rfl) (by decide) rfl (s1_X12_is hM119 40 (by omega)) gX12_readUnit_X12_is rfl hdX12_is (by decide) (Nat.le_of_ble_eq_true rfl) dX12_readUnit_96 rfl (fun r133 M134 h135 => ?_)
        obtain ⟨a137, rfl, rfl, h136⟩ := h135
        refine y_if_eq C 108 dX12_readUnit_99 (by decide) (by omega) (fun h138 => ?_) (fun h138 => ?_)
        · refine y_sipush C dX12_readUnit_108 rfl ?_
          exact J140 3005 (by omega)
        · refine y_sipush C dX12_readUnit_102 rfl ?_
          refine j_goto C 111 dX12_readUnit_105 (by decide) ?_
          exact J140 3004 (by omega)
      · refine y_sipush C dX12_readUnit_87 rfl ?_
        refine j_goto C 111 dX12_readUnit_90 (by decide) ?_
        exact J140 3003 (by omega)
    · have u212k := ri_k (M := M0) (by omega) (by omega)
      refine j_aload_n C 0 0 dX12_readUnit_42 rfl rfl ?_
      refine j_iload_n C 1 1 dX12_readUnit_43 rfl rfl ?_
      refine j_callVi C (d := 6) (As := [.int (sI 6)]) (st := []) 98 (s_lt rfl rfl) (s_kc (c := 11) rfl rfl) (by decide) rfl (s7_X12_goesIn hM0 hpr gf gn gi (by omega) (by omega) (by omega) (by omega) (by omega) (by omega) (by omega)) gX12_readUnit_X12_goesIn rfl hdX12_goesIn (by decide) (Nat.le_of_ble_eq_true rfl) dX12_readUnit_44 rfl (fun r213 M214 h215 => ?_)
      obtain ⟨a217, rfl, hM214, fM214, h216⟩ := h215
      have bM214 := tkm_b (f := gf) (n := gn) (M := M214) (by omega)
      refine y_if_ne C 51 dX12_readUnit_47 (by decide) (by omega) (fun h218 => ?_) (fun h218 => ?_)
      · exfalso; omega
      · have u219f : b01 (XW M0 M214 0 1 0) = 1 := b01_i (Or.inl (by omega))
        have u219a := ca_x (M := M0) (N := M214) (r := 0) (e := 1) (s := 0) (by decide) (by omega) (by omega)
        have u220r := un_3 gf gn gi (M0.1 98 11).toInt (M0.1 98 12).toInt (M0.1 98 6).toInt (M214.1 98 11).toInt (M214.1 98 12).toInt (M214.1 98 6).toInt (by omega) (by omega) (by omega) (by omega) (by omega)
        have u220l := cl_n (A := AGR) (M := M0) (N := M214) ((uLR gf gn 0) gi) (a := (M214.1 98 11).toInt) (by omega)
        exact hret _ _ _ dX12_readUnit_50 ⟨hM214, (FR.rf.tr fM214 (by decide)), by omega⟩
  · have u221k := ri_k (M := M0) (by omega) (by omega)
    refine j_aload_n C 0 0 dX12_readUnit_9 rfl rfl ?_
    refine j_iload_n C 1 1 dX12_readUnit_10 rfl rfl ?_
    refine j_callVi C (d := 6) (As := [.int (sI 6)]) (st := []) 98 (s_lt rfl rfl) (s_kc (c := 11) rfl rfl) (by decide) rfl (s7_X12_goesIn hM0 hpr gf gn gi (by omega) (by omega) (by omega) (by omega) (by omega) (by omega) (by omega)) gX12_readUnit_X12_goesIn rfl hdX12_goesIn (by decide) (Nat.le_of_ble_eq_true rfl) dX12_readUnit_11 rfl (fun r222 M223 h224 => ?_)
    obtain ⟨a226, rfl, hM223, fM223, h225⟩ := h224
    have bM223 := tkm_b (f := gf) (n := gn) (M := M223) (by omega)
    refine y_if_ne C 18 dX12_readUnit_14 (by decide) (by omega) (fun h227 => ?_) (fun h227 => ?_)
    · exfalso; omega
    · have u228f : b01 (XW M0 M223 0 1 0) = 1 := b01_i (Or.inl (by omega))
      have u228a := ca_x (M := M0) (N := M223) (r := 0) (e := 1) (s := 0) (by decide) (by omega) (by omega)
      have u229r := un_3 gf gn gi (M0.1 98 11).toInt (M0.1 98 12).toInt (M0.1 98 6).toInt (M223.1 98 11).toInt (M223.1 98 12).toInt (M223.1 98 6).toInt (by omega) (by omega) (by omega) (by omega) (by omega)
      have u229l := cl_n (A := AGR) (M := M0) (N := M223) ((uLR gf gn 0) gi) (a := (M223.1 98 11).toInt) (by omega)
      exact hret _ _ _ dX12_readUnit_17 ⟨hM223, (FR.rf.tr fM223 (by decide)), by omega⟩
set_option maxHeartbeats 4000000 in
theorem s1_X12_readBoth {l : Launch} {dC : Nat → ClassId} {dI : Nat → Nat → Nat} {ad : Nat → Nat} {cA : Nat → ClassId} {pr : Nat → Nat → Bool} {Kz : mm_M} {M0 : mm_M} (hM0 : INV pr Kz M0) (hpr : PM pr) (gf : Nat → Int) (gn : Int) (gi : Int) (hp0 : b01 (RIP M0) = 1) (hp1 : b01 (CA M0) = 1) (hp2 : b01 (TKM gf gn M0) = 1) (hp3 : b01 (PO gn gi (M0.1 98 11).toInt (M0.1 98 6).toInt) = 1) (hp4 : b01 (PI M0) = 1) : Cv l 11 yX12_readBoth wsX12_readBoth dC dI ad cA [.ref (ad 98), .int (sI 6)] M0 (fun M' => INV pr Kz M' ∧ FR [98, 102] M0 M' ∧ (b01 (RIP M') = 1) ∧ ((M'.1 98 8).toInt = (M0.1 98 8).toInt) ∧ ((M0.1 98 6).toInt ≤ (M'.1 98 6).toInt) ∧ (b01 (XW M0 M' 0 1 0) = 1) ∧ (b01 (CA M') = 1) ∧ (b01 (CL AGR (M'.1 98 11).toInt M0 M' ((boL gf gn (unR gf gn 0) (uLR gf gn 0)) gi)) = 1) ∧ (b01 (PI M') = 1) ∧ (b01 (TKM gf gn M') = 1) ∧ b01 (RR ((boP gf gn (unR gf gn 0)) gi) (M0.1 98 11).toInt (M0.1 98 12).toInt (M'.1 98 11).toInt (M'.1 98 12).toInt (M'.1 98 6).toInt) = 1) := by
  refine cv_of (cc := cX12_readBoth) (maxL := 2) (lv := [(0, .ref (ad 98)), (1, .int (sI 6))]) (by decide) rfl (Nat.le_of_ble_eq_true rfl) rfl ?_
  intro p e s m args below meth c A Q C hret
  have u101z := xw_0 M0
  have u101l := ri_l (M := M0) (by omega)
  refine j_aload_n C 0 0 dX12_readBoth_0 rfl rfl ?_
  refine j_iload_n C 1 1 dX12_readBoth_1 rfl rfl ?_
  refine j_callVv C (d := 10) (As := [.int (sI 6)]) (st := []) 98 (s_lt rfl rfl) (s_kc (c := 11) rfl rfl) (by decide) rfl (s1_X12_readUnit hM0 hpr gf gn gi (by omega) (by omega) (by omega) (by omega) (by omega)) gX12_readBoth_X12_readUnit rfl hdX12_readUnit (by decide) (Nat.le_of_ble_eq_true rfl) dX12_readBoth_2 rfl (fun M103 h104 => ?_)
  obtain ⟨hM103, fM103, h105⟩ := h104
  have bM103 := tkm_b (f := gf) (n := gn) (M := M103) (by omega)
  have qM103 := po_rr (unR gf gn 0) gn gi (M0.1 98 11).toInt (M0.1 98 12).toInt (M0.1 98 6).toInt (M103.1 98 11).toInt (M103.1 98 12).toInt (M103.1 98 6).toInt (unR_g gf gn 0) (by omega) (by omega)
  have u106l := ri_l (M := M103) (by omega)
  have u106L := ll_0 (luP gf gn 1015 1015 (unR gf gn 0)) gn ((unR gf gn 0) gi).2.2 (M103.1 98 11).toInt (M103.1 98 12).toInt (M103.1 98 6).toInt (by omega)
  have u106c := lc_0 (A := AGR) (M103.1 98 11).toInt (luL gf gn 1015 1015 (unR gf gn 0) (uLR gf gn 0)) ((unR gf gn 0) gi).2.2 M103
  have L133 : ∀ (n131 : Nat), ∀ (M134 : mm_M) (gq135 : Int), ((b01 (RIP M134) = 1) ∧ ((M134.1 98 8).toInt = (M0.1 98 8).toInt) ∧ ((M0.1 98 6).toInt ≤ (M134.1 98 6).toInt) ∧ (b01 (XW M0 M134 0 1 0) = 1) ∧ ((M134.1 98 6).toInt ≤ 900) ∧ (b01 (LL (luP gf gn 1015 1015 (unR gf gn 0)) gn ((unR gf gn 0) gi).2.2 gq135 0 (M103.1 98 11).toInt (M103.1 98 12).toInt (M134.1 98 11).toInt (M134.1 98 12).toInt (M134.1 98 6).toInt) = 1) ∧ (b01 (LC AGR (M134.1 98 11).toInt (luL gf gn 1015 1015 (unR gf gn 0) (uLR gf gn 0)) ((unR gf gn 0) gi).2.2 gq135 M103 M134) = 1) ∧ (b01 (TKM gf gn M134) = 1) ∧ (b01 (PO gn gq135 (M134.1 98 11).toInt (M134.1 98 6).toInt) = 1) ∧ (b01 (PI M134) = 1) ∧ (900 - (M134.1 98 6).toInt) < (n131 : Int)) → INV pr Kz M134 → FR [98, 102] M0 M134 → jj p l e (cn_R 11) s m args below meth c 0 0 Q 2 dC dI ad cA A M134 5 [(0, .ref (ad 98)), (1, .int (sI 6))] [] := by
    intro n131
    induction n131 with
    | zero =>
      intro M134 gq135 h136 hM134 fM134
      exfalso; omega
    | succ n131 ih132 =>
      intro M134 gq135 h136 hM134 fM134
      have u137l := ri_l (M := M134) (by omega)
      have u137B := tkm_b (f := gf) (n := gn) (M := M134) (by omega)
      refine j_aload_n C 0 0 dX12_readBoth_5 rfl rfl ?_
      refine y_bipush C dX12_readBoth_6 rfl ?_
      have k138 := tkm_K (f := gf) (n := gn) (M := M134) (by omega)
      have k139 := kd_2 (kdk_14 gf gn (M134.1 98 6).toInt) (by omega)
      refine j_callVi C (d := 6) (As := [.int (sI 14)]) (st := []) 98 (s_lt rfl rfl) (s_kc (c := 11) rfl rfl) (by decide) rfl (s1_X12_eats hM134 hpr 14 (by omega) gf gn gq135 (by omega) (by omega) (by omega) (by omega) (by omega)) gX12_readBoth_X12_eats rfl hdX12_eats (by decide) (Nat.le_of_ble_eq_true rfl) dX12_readBoth_8 rfl (fun r140 M141 h142 => ?_)
      obtain ⟨a144, rfl, hM141, fM141, h143⟩ := h142
      have k145 := tk_c gf gn (M141.1 98 6).toInt (M134.1 98 6).toInt
      have bM141 := tkm_b (f := gf) (n := gn) (M := M141) (by omega)
      refine y_if_eq C 29 dX12_readBoth_11 (by decide) (by omega) (fun h146 => ?_) (fun h146 => ?_)
      · have u159c := xw_c (N := M134) (P := M141) 0 (FR.cell fM141 (by decide)) (by omega)
        have u159t := xw_t (M := M0) (N := M134) (P := M141) (r1 := 0) (e1 := 1) (s1 := 0) (r2 := 0) (e2 := 0) (s2 := 0) 0 1 0 (by decide) (by omega) (by omega)
        have u159a := ca_x (M := M0) (N := M141) (r := 0) (e := 1) (s := 0) (by decide) (by omega) (by omega)
        have u159E := ll_e gf gn 1015 1015 (unR gf gn 0) ((unR gf gn 0) gi).2.2 gq135 0 (M103.1 98 11).toInt (M103.1 98 12).toInt (M134.1 98 11).toInt (M134.1 98 12).toInt (M134.1 98 6).toInt (by decide) (unR_g gf gn 0) (by omega) (by omega)
        have u159S : b01 (RR ((boP gf gn (unR gf gn 0)) gi) (M0.1 98 11).toInt (M0.1 98 12).toInt (M134.1 98 11).toInt (M134.1 98 12).toInt (M134.1 98 6).toInt) = 1 := rr_sq ((unR gf gn 0) gi) (luP gf gn 1015 1015 (unR gf gn 0)) (M0.1 98 11).toInt (M0.1 98 12).toInt (M103.1 98 11).toInt (M103.1 98 12).toInt (M103.1 98 6).toInt (M134.1 98 11).toInt (M134.1 98 12).toInt (M134.1 98 6).toInt (by omega) (by omega)
        have u159R := rr_eq ((boP gf gn (unR gf gn 0)) gi) (M0.1 98 11).toInt (M0.1 98 12).toInt (M134.1 98 11).toInt (M134.1 98 12).toInt (M134.1 98 6).toInt (M141.1 98 11).toInt (M141.1 98 12).toInt (M141.1 98 6).toInt (by omega) (by omega) (by omega) (by omega)
        have u159x := lc_e gf gn 1015 1015 (unR gf gn 0) ((uLR gf gn 0)) (by decide) (show b01 (LC AGR (M134.1 98 11).toInt (luL gf gn 1015 1015 (unR gf gn 0) (uLR gf gn 0)) ((unR gf gn 0) gi).2.2 gq135 M103 M134) = 1 by omega) (show b01 (LL (luP gf gn 1015 1015 (unR gf gn 0)) gn ((unR gf gn 0) gi).2.2 gq135 0 (M103.1 98 11).toInt (M103.1 98 12).toInt (M134.1 98 11).toInt (M134.1 98 12).toInt (M134.1 98 6).toInt) = 1 by omega) (by omega)
        have u159y : b01 (CL AGR (M134.1 98 11).toInt M0 M134 ((boL gf gn (unR gf gn 0) (uLR gf gn 0)) gi)) = 1 := cl_e (cl_t (show b01 (CL AGR (M103.1 98 11).toInt M0 M103 ((uLR gf gn 0) gi)) = 1 by omega) u159x (fun z => rr_z (show b01 (RR ((luP gf gn 1015 1015 (unR gf gn 0)) ((unR gf gn 0) gi).2.2) (M103.1 98 11).toInt (M103.1 98 12).toInt (M134.1 98 11).toInt (M134.1 98 12).toInt (M134.1 98 6).toInt) = 1 by omega) z)) (fun z => rfl)
        have u159l : b01 (CL AGR (M141.1 98 11).toInt M0 M141 ((boL gf gn (unR gf gn 0) (uLR gf gn 0)) gi)) = 1 := cl_e (cl_t u159y (cl_r (A := AGR) (M := M134) (N := M141) (M141.1 98 11).toInt (agr_c (FR.cell fM141 (by decide)))) (fun z => by omega)) (fun z => (List.append_nil _).symm)
        exact hret _ _ _ dX12_readBoth_29 ⟨hM141, ((FR.rf.tr fM134 (by decide)).tr fM141 (by decide)), by omega⟩
      · have u147c := xw_c (N := M134) (P := M141) 1 (FR.cell fM141 (by decide)) (by omega)
        have u147t := xw_t (M := M0) (N := M134) (P := M141) (r1 := 0) (e1 := 1) (s1 := 0) (r2 := 0) (e2 := 0) (s2 := 1) 0 1 1 (by decide) (by omega) (by omega)
        have u147a := ca_x (M := M0) (N := M141) (r := 0) (e := 1) (s := 1) (by decide) (by omega) (by omega)
        have u147l := ri_l (M := M141) (by omega)
        refine j_aload_n C 0 0 dX12_readBoth_14 rfl rfl ?_
        refine j_iload_n C 1 1 dX12_readBoth_15 rfl rfl ?_
        refine j_callVv C (d := 10) (As := [.int (sI 6)]) (st := []) 98 (s_lt rfl rfl) (s_kc (c := 11) rfl rfl) (by decide) rfl (s1_X12_readUnit hM141 hpr gf gn (nxF gf gn gq135) (by omega) (by omega) (by omega) (by omega) (by omega)) gX12_readBoth_X12_readUnit rfl hdX12_readUnit (by decide) (Nat.le_of_ble_eq_true rfl) dX12_readBoth_16 rfl (fun M149 h150 => ?_)
        obtain ⟨hM149, fM149, h151⟩ := h150
        have bM149 := tkm_b (f := gf) (n := gn) (M := M149) (by omega)
        have qM149 := po_rr (unR gf gn 0) gn (nxF gf gn gq135) (M141.1 98 11).toInt (M141.1 98 12).toInt (M141.1 98 6).toInt (M149.1 98 11).toInt (M149.1 98 12).toInt (M149.1 98 6).toInt (unR_g gf gn 0) (by omega) (by omega)
        have u152t := xw_t (M := M0) (N := M141) (P := M149) (r1 := 0) (e1 := 1) (s1 := 1) (r2 := 0) (e2 := 1) (s2 := 0) 0 2 1 (by decide) (by omega) (by omega)
        have u152l := ri_l (M := M149) (by omega)
        have u152b := cb_x (M := M0) (N := M149) (r := 0) (e := 2) (s := 1) (by decide) (by omega) (by omega) (by omega)
        refine j_aload_n C 0 0 dX12_readBoth_19 rfl rfl ?_
        refine y_sipush C dX12_readBoth_20 rfl ?_
        refine j_callVv C (d := 0) (As := [.int (sI 3007)]) (st := []) 98 (s_lt rfl rfl) (s_kc (c := 11) rfl rfl) (by decide) rfl (s1_X12_codes hM149 hpr 3007 (by omega) gf gn ((unR gf gn 0) (nxF gf gn gq135)).2.2 (by omega) (by omega) (by omega) (by omega)) gX12_readBoth_X12_codes rfl hdX12_codes (by decide) (Nat.le_of_ble_eq_true rfl) dX12_readBoth_23 rfl (fun M154 h155 => ?_)
        obtain ⟨hM154, fM154, h156⟩ := h155
        have k157 := tk_c gf gn (M154.1 98 6).toInt (M149.1 98 6).toInt
        have bM154 := tkm_b (f := gf) (n := gn) (M := M154) (by omega)
        have qM154 := po_eq gn ((unR gf gn 0) (nxF gf gn gq135)).2.2 (M149.1 98 11).toInt (M149.1 98 6).toInt (M154.1 98 11).toInt (M154.1 98 6).toInt (by omega) (by omega) (by omega)
        refine j_goto C 5 dX12_readBoth_26 (by decide) ?_
        have u158x := xw_a (M := M149) (N := M154) (c := 3007) (r := 2) (e := (-1)) (FR.cell fM154 (by decide)) (ap_bin ⟨(INV.rd hM149 (i := 102) (c := 48) (k := 280) rfl rfl).1, by omega, by omega⟩) (by omega)
        have u158t := xw_t (M := M0) (N := M149) (P := M154) (r1 := 0) (e1 := 2) (s1 := 1) (r2 := 2) (e2 := (-1)) (s2 := (-1)) 0 1 0 (by decide) (by omega) (by omega)
        have u158i := ri_c (M := M149) (N := M154) (FR.cell fM154 (by decide)) (by omega)
        have u158l := ri_l (M := M154) (by omega)
        have u158L := ll_w (luP gf gn 1015 1015 (unR gf gn 0)) gn ((unR gf gn 0) gi).2.2 ((unR gf gn 0) (nxF gf gn gq135)).2.2 (0 + 1) 0 (M103.1 98 11).toInt (M103.1 98 12).toInt (M154.1 98 11).toInt (M154.1 98 12).toInt (M154.1 98 6).toInt (by decide) (ll_s gf gn 1015 1015 (unR gf gn 0) ((unR gf gn 0) gi).2.2 gq135 0 (M103.1 98 11).toInt (M103.1 98 12).toInt (M134.1 98 11).toInt (M134.1 98 12).toInt (M134.1 98 6).toInt (M141.1 98 11).toInt (M141.1 98 12).toInt (M149.1 98 11).toInt (M149.1 98 12).toInt (M149.1 98 6).toInt (M154.1 98 11).toInt (M154.1 98 12).toInt (M154.1 98 6).toInt (by decide) (unR_g gf gn 0) (by omega) (by omega) (by omega) (by omega) (by omega) (by omega) (by omega) (by omega) (by omega))
        have u158c := lc_s gf gn 1015 1015 (unR gf gn 0) (uLR gf gn 0) (by decide) (unR_g gf gn 0) (show b01 (LC AGR (M134.1 98 11).toInt (luL gf gn 1015 1015 (unR gf gn 0) (uLR gf gn 0)) ((unR gf gn 0) gi).2.2 gq135 M103 M134) = 1 by omega) (show b01 (PO gn gq135 (M134.1 98 11).toInt (M134.1 98 6).toInt) = 1 by omega) (by omega) (show b01 (RR ((unR gf gn 0) (nxF gf gn gq135)) (M141.1 98 11).toInt (M141.1 98 12).toInt (M149.1 98 11).toInt (M149.1 98 12).toInt (M149.1 98 6).toInt) = 1 by omega) (fun z => by omega) (cl_e (L := ([] ++ ((uLR gf gn 0) (nxF gf gn gq135))) ++ [3007]) (cl_t (cl_t (cl_r (A := AGR) (M := M134) (N := M141) (M141.1 98 11).toInt (agr_c (FR.cell fM141 (by decide)))) (show b01 (CL AGR (M149.1 98 11).toInt M141 M149 ((uLR gf gn 0) (nxF gf gn gq135))) = 1 by omega) (fun z => rr_z (show b01 (RR ((unR gf gn 0) (nxF gf gn gq135)) (M141.1 98 11).toInt (M141.1 98 12).toInt (M149.1 98 11).toInt (M149.1 98 12).toInt (M149.1 98 6).toInt) = 1 by omega) z)) (show b01 (CL AGR (M154.1 98 11).toInt M149 M154 [3007]) = 1 by omega) (fun z => by omega)) (fun z => by rw [show tkF gf gn (M134.1 98 6).toInt = 1015 by omega, cm_tab.2.2.2.2.2.2.2.1, List.nil_append]) : b01 (CL AGR (M154.1 98 11).toInt M134 M154 (((uLR gf gn 0) (nxF gf gn gq135)) ++ [cmF (tkF gf gn (M134.1 98 6).toInt)])) = 1) (fun z => by omega)
        have zz98_8 : (M154.1 98 8).toInt = (M149.1 98 8).toInt := s_fF fM154 (by decide) (rfl); have zz98_6 : (M154.1 98 6).toInt = (M149.1 98 6).toInt := s_fF fM154 (by decide) (rfl); have zz98_12 : (M154.1 98 12).toInt = (M149.1 98 12).toInt := s_fF fM154 (by decide) (rfl); have zz98_11 : (M154.1 98 11).toInt = (M149.1 98 11).toInt := s_fF fM154 (by decide) (rfl); exact ih132 M154 ((unR gf gn 0) (nxF gf gn gq135)).2.2 (by (clear zz98_11 zz98_12 zz98_6 zz98_8 u158l u158x k157 fM154 hM154 u152b u152l u152t qM149 fM149 hM149 u147l u147a u147t u147c bM141 k145 fM141 hM141 k139 k138 u137B u137l fM134 hM134 ih132 u106c u106L u106l qM103 bM103 h105 fM103 hM103 u101l u101z hret C hp4 hp3 hp2 hp1 hp0 hpr hM0; omega)) hM154 ((((FR.rf.tr fM134 (by decide)).tr fM141 (by decide)).tr fM149 (by decide)).tr fM154 (by decide))
  exact L133 2010 M103 ((unR gf gn 0) gi).2.2 (by omega) hM103 (FR.rf.tr fM103 (by decide))
set_option maxHeartbeats 4000000 in
theorem s1_X12_readTruth {l : Launch} {dC : Nat → ClassId} {dI : Nat → Nat → Nat} {ad : Nat → Nat} {cA : Nat → ClassId} {pr : Nat → Nat → Bool} {Kz : mm_M} {M0 : mm_M} (hM0 : INV pr Kz M0) (hpr : PM pr) (gf : Nat → Int) (gn : Int) (gi : Int) (hp0 : b01 (RIP M0) = 1) (hp1 : b01 (CA M0) = 1) (hp2 : b01 (TKM gf gn M0) = 1) (hp3 : b01 (PO gn gi (M0.1 98 11).toInt (M0.1 98 6).toInt) = 1) (hp4 : b01 (PI M0) = 1) : Cv l 12 yX12_readTruth wsX12_readTruth dC dI ad cA [.ref (ad 98), .int (sI 6)] M0 (fun M' => INV pr Kz M' ∧ FR [98, 102] M0 M' ∧ (b01 (RIP M') = 1) ∧ ((M'.1 98 8).toInt = (M0.1 98 8).toInt) ∧ ((M0.1 98 6).toInt ≤ (M'.1 98 6).toInt) ∧ (b01 (XW M0 M' 0 1 0) = 1) ∧ (b01 (CA M') = 1) ∧ (b01 (CL AGR (M'.1 98 11).toInt M0 M' ((trL gf gn (unR gf gn 0) (uLR gf gn 0)) gi)) = 1) ∧ (b01 (PI M') = 1) ∧ (b01 (TKM gf gn M') = 1) ∧ b01 (RR ((trP gf gn (unR gf gn 0)) gi) (M0.1 98 11).toInt (M0.1 98 12).toInt (M'.1 98 11).toInt (M'.1 98 12).toInt (M'.1 98 6).toInt) = 1) := by
  refine cv_of (cc := cX12_readTruth) (maxL := 2) (lv := [(0, .ref (ad 98)), (1, .int (sI 6))]) (by decide) rfl (Nat.le_of_ble_eq_true rfl) rfl ?_
  intro p e s m args below meth c A Q C hret
  have u101z := xw_0 M0
  have u101l := ri_l (M := M0) (by omega)
  refine j_aload_n C 0 0 dX12_readTruth_0 rfl rfl ?_
  refine j_iload_n C 1 1 dX12_readTruth_1 rfl rfl ?_
  refine j_callVv C (d := 11) (As := [.int (sI 6)]) (st := []) 98 (s_lt rfl rfl) (s_kc (c := 11) rfl rfl) (by decide) rfl (s1_X12_readBoth hM0 hpr gf gn gi (by omega) (by omega) (by omega) (by omega) (by omega)) gX12_readTruth_X12_readBoth rfl hdX12_readBoth (by decide) (Nat.le_of_ble_eq_true rfl) dX12_readTruth_2 rfl (fun M103 h104 => ?_)
  obtain ⟨hM103, fM103, h105⟩ := h104
  have bM103 := tkm_b (f := gf) (n := gn) (M := M103) (by omega)
  have qM103 := po_rr (boP gf gn (unR gf gn 0)) gn gi (M0.1 98 11).toInt (M0.1 98 12).toInt (M0.1 98 6).toInt (M103.1 98 11).toInt (M103.1 98 12).toInt (M103.1 98 6).toInt (bo_g gf gn (unR_g gf gn 0)) (by omega) (by omega)
  have u106l := ri_l (M := M103) (by omega)
  have u106L := ll_0 (luP gf gn 1014 1014 (boP gf gn (unR gf gn 0))) gn ((boP gf gn (unR gf gn 0)) gi).2.2 (M103.1 98 11).toInt (M103.1 98 12).toInt (M103.1 98 6).toInt (by omega)
  have u106c := lc_0 (A := AGR) (M103.1 98 11).toInt (luL gf gn 1014 1014 (boP gf gn (unR gf gn 0)) (boL gf gn (unR gf gn 0) (uLR gf gn 0))) ((boP gf gn (unR gf gn 0)) gi).2.2 M103
  have L133 : ∀ (n131 : Nat), ∀ (M134 : mm_M) (gq135 : Int), ((b01 (RIP M134) = 1) ∧ ((M134.1 98 8).toInt = (M0.1 98 8).toInt) ∧ ((M0.1 98 6).toInt ≤ (M134.1 98 6).toInt) ∧ (b01 (XW M0 M134 0 1 0) = 1) ∧ ((M134.1 98 6).toInt ≤ 900) ∧ (b01 (LL (luP gf gn 1014 1014 (boP gf gn (unR gf gn 0))) gn ((boP gf gn (unR gf gn 0)) gi).2.2 gq135 0 (M103.1 98 11).toInt (M103.1 98 12).toInt (M134.1 98 11).toInt (M134.1 98 12).toInt (M134.1 98 6).toInt) = 1) ∧ (b01 (LC AGR (M134.1 98 11).toInt (luL gf gn 1014 1014 (boP gf gn (unR gf gn 0)) (boL gf gn (unR gf gn 0) (uLR gf gn 0))) ((boP gf gn (unR gf gn 0)) gi).2.2 gq135 M103 M134) = 1) ∧ (b01 (TKM gf gn M134) = 1) ∧ (b01 (PO gn gq135 (M134.1 98 11).toInt (M134.1 98 6).toInt) = 1) ∧ (b01 (PI M134) = 1) ∧ (900 - (M134.1 98 6).toInt) < (n131 : Int)) → INV pr Kz M134 → FR [98, 102] M0 M134 → jj p l e (cn_R 12) s m args below meth c 0 0 Q 2 dC dI ad cA A M134 5 [(0, .ref (ad 98)), (1, .int (sI 6))] [] := by
    intro n131
    induction n131 with
    | zero =>
      intro M134 gq135 h136 hM134 fM134
      exfalso; omega
    | succ n131 ih132 =>
      intro M134 gq135 h136 hM134 fM134
      have u137l := ri_l (M := M134) (by omega)
      have u137B := tkm_b (f := gf) (n := gn) (M := M134) (by omega)
      refine j_aload_n C 0 0 dX12_readTruth_5 rfl rfl ?_
      refine y_bipush C dX12_readTruth_6 rfl ?_
      have k138 := tkm_K (f := gf) (n := gn) (M := M134) (by omega)
      have k139 := kd_2 (kdk_15 gf gn (M134.1 98 6).toInt) (by omega)
      refine j_callVi C (d := 6) (As := [.int (sI 15)]) (st := []) 98 (s_lt rfl rfl) (s_kc (c := 11) rfl rfl) (by decide) rfl (s1_X12_eats hM134 hpr 15 (by omega) gf gn gq135 (by omega) (by omega) (by omega) (by omega) (by omega)) gX12_readTruth_X12_eats rfl hdX12_eats (by decide) (Nat.le_of_ble_eq_true rfl) dX12_readTruth_8 rfl (fun r140 M141 h142 => ?_)
      obtain ⟨a144, rfl, hM141, fM141, h143⟩ := h142
      have k145 := tk_c gf gn (M141.1 98 6).toInt (M134.1 98 6).toInt
      have bM141 := tkm_b (f := gf) (n := gn) (M := M141) (by omega)
      refine y_if_eq C 29 dX12_readTruth_11 (by decide) (by omega) (fun h146 => ?_) (fun h146 => ?_)
      · have u159c := xw_c (N := M134) (P := M141) 0 (FR.cell fM141 (by decide)) (by omega)
        have u159t := xw_t (M := M0) (N := M134) (P := M141) (r1 := 0) (e1 := 1) (s1 := 0) (r2 := 0) (e2 := 0) (s2 := 0) 0 1 0 (by decide) (by omega) (by omega)
        have u159a := ca_x (M := M0) (N := M141) (r := 0) (e := 1) (s := 0) (by decide) (by omega) (by omega)
        have u159E := ll_e gf gn 1014 1014 (boP gf gn (unR gf gn 0)) ((boP gf gn (unR gf gn 0)) gi).2.2 gq135 0 (M103.1 98 11).toInt (M103.1 98 12).toInt (M134.1 98 11).toInt (M134.1 98 12).toInt (M134.1 98 6).toInt (by decide) (bo_g gf gn (unR_g gf gn 0)) (by omega) (by omega)
        have u159S : b01 (RR ((trP gf gn (unR gf gn 0)) gi) (M0.1 98 11).toInt (M0.1 98 12).toInt (M134.1 98 11).toInt (M134.1 98 12).toInt (M134.1 98 6).toInt) = 1 := rr_sq ((boP gf gn (unR gf gn 0)) gi) (luP gf gn 1014 1014 (boP gf gn (unR gf gn 0))) (M0.1 98 11).toInt (M0.1 98 12).toInt (M103.1 98 11).toInt (M103.1 98 12).toInt (M103.1 98 6).toInt (M134.1 98 11).toInt (M134.1 98 12).toInt (M134.1 98 6).toInt (by omega) (by omega)
        have u159R := rr_eq ((trP gf gn (unR gf gn 0)) gi) (M0.1 98 11).toInt (M0.1 98 12).toInt (M134.1 98 11).toInt (M134.1 98 12).toInt (M134.1 98 6).toInt (M141.1 98 11).toInt (M141.1 98 12).toInt (M141.1 98 6).toInt (by omega) (by omega) (by omega) (by omega)
        have u159x := lc_e gf gn 1014 1014 (boP gf gn (unR gf gn 0)) ((boL gf gn (unR gf gn 0) (uLR gf gn 0))) (by decide) (show b01 (LC AGR (M134.1 98 11).toInt (luL gf gn 1014 1014 (boP gf gn (unR gf gn 0)) (boL gf gn (unR gf gn 0) (uLR gf gn 0))) ((boP gf gn (unR gf gn 0)) gi).2.2 gq135 M103 M134) = 1 by omega) (show b01 (LL (luP gf gn 1014 1014 (boP gf gn (unR gf gn 0))) gn ((boP gf gn (unR gf gn 0)) gi).2.2 gq135 0 (M103.1 98 11).toInt (M103.1 98 12).toInt (M134.1 98 11).toInt (M134.1 98 12).toInt (M134.1 98 6).toInt) = 1 by omega) (by omega)
        have u159y : b01 (CL AGR (M134.1 98 11).toInt M0 M134 ((trL gf gn (unR gf gn 0) (uLR gf gn 0)) gi)) = 1 := cl_e (cl_t (show b01 (CL AGR (M103.1 98 11).toInt M0 M103 ((boL gf gn (unR gf gn 0) (uLR gf gn 0)) gi)) = 1 by omega) u159x (fun z => rr_z (show b01 (RR ((luP gf gn 1014 1014 (boP gf gn (unR gf gn 0))) ((boP gf gn (unR gf gn 0)) gi).2.2) (M103.1 98 11).toInt (M103.1 98 12).toInt (M134.1 98 11).toInt (M134.1 98 12).toInt (M134.1 98 6).toInt) = 1 by omega) z)) (fun z => rfl)
        have u159l : b01 (CL AGR (M141.1 98 11).toInt M0 M141 ((trL gf gn (unR gf gn 0) (uLR gf gn 0)) gi)) = 1 := cl_e (cl_t u159y (cl_r (A := AGR) (M := M134) (N := M141) (M141.1 98 11).toInt (agr_c (FR.cell fM141 (by decide)))) (fun z => by omega)) (fun z => (List.append_nil _).symm)
        exact hret _ _ _ dX12_readTruth_29 ⟨hM141, ((FR.rf.tr fM134 (by decide)).tr fM141 (by decide)), by omega⟩
      · have u147c := xw_c (N := M134) (P := M141) 1 (FR.cell fM141 (by decide)) (by omega)
        have u147t := xw_t (M := M0) (N := M134) (P := M141) (r1 := 0) (e1 := 1) (s1 := 0) (r2 := 0) (e2 := 0) (s2 := 1) 0 1 1 (by decide) (by omega) (by omega)
        have u147a := ca_x (M := M0) (N := M141) (r := 0) (e := 1) (s := 1) (by decide) (by omega) (by omega)
        have u147l := ri_l (M := M141) (by omega)
        refine j_aload_n C 0 0 dX12_readTruth_14 rfl rfl ?_
        refine j_iload_n C 1 1 dX12_readTruth_15 rfl rfl ?_
        refine j_callVv C (d := 11) (As := [.int (sI 6)]) (st := []) 98 (s_lt rfl rfl) (s_kc (c := 11) rfl rfl) (by decide) rfl (s1_X12_readBoth hM141 hpr gf gn (nxF gf gn gq135) (by omega) (by omega) (by omega) (by omega) (by omega)) gX12_readTruth_X12_readBoth rfl hdX12_readBoth (by decide) (Nat.le_of_ble_eq_true rfl) dX12_readTruth_16 rfl (fun M149 h150 => ?_)
        obtain ⟨hM149, fM149, h151⟩ := h150
        have bM149 := tkm_b (f := gf) (n := gn) (M := M149) (by omega)
        have qM149 := po_rr (boP gf gn (unR gf gn 0)) gn (nxF gf gn gq135) (M141.1 98 11).toInt (M141.1 98 12).toInt (M141.1 98 6).toInt (M149.1 98 11).toInt (M149.1 98 12).toInt (M149.1 98 6).toInt (bo_g gf gn (unR_g gf gn 0)) (by omega) (by omega)
        have u152t := xw_t (M := M0) (N := M141) (P := M149) (r1 := 0) (e1 := 1) (s1 := 1) (r2 := 0) (e2 := 1) (s2 := 0) 0 2 1 (by decide) (by omega) (by omega)
        have u152l := ri_l (M := M149) (by omega)
        have u152b := cb_x (M := M0) (N := M149) (r := 0) (e := 2) (s := 1) (by decide) (by omega) (by omega) (by omega)
        refine j_aload_n C 0 0 dX12_readTruth_19 rfl rfl ?_
        refine y_sipush C dX12_readTruth_20 rfl ?_
        refine j_callVv C (d := 0) (As := [.int (sI 3008)]) (st := []) 98 (s_lt rfl rfl) (s_kc (c := 11) rfl rfl) (by decide) rfl (s1_X12_codes hM149 hpr 3008 (by omega) gf gn ((boP gf gn (unR gf gn 0)) (nxF gf gn gq135)).2.2 (by omega) (by omega) (by omega) (by omega)) gX12_readTruth_X12_codes rfl hdX12_codes (by decide) (Nat.le_of_ble_eq_true rfl) dX12_readTruth_23 rfl (fun M154 h155 => ?_)
        obtain ⟨hM154, fM154, h156⟩ := h155
        have k157 := tk_c gf gn (M154.1 98 6).toInt (M149.1 98 6).toInt
        have bM154 := tkm_b (f := gf) (n := gn) (M := M154) (by omega)
        have qM154 := po_eq gn ((boP gf gn (unR gf gn 0)) (nxF gf gn gq135)).2.2 (M149.1 98 11).toInt (M149.1 98 6).toInt (M154.1 98 11).toInt (M154.1 98 6).toInt (by omega) (by omega) (by omega)
        refine j_goto C 5 dX12_readTruth_26 (by decide) ?_
        have u158x := xw_a (M := M149) (N := M154) (c := 3008) (r := 2) (e := (-1)) (FR.cell fM154 (by decide)) (ap_bin ⟨(INV.rd hM149 (i := 102) (c := 48) (k := 280) rfl rfl).1, by omega, by omega⟩) (by omega)
        have u158t := xw_t (M := M0) (N := M149) (P := M154) (r1 := 0) (e1 := 2) (s1 := 1) (r2 := 2) (e2 := (-1)) (s2 := (-1)) 0 1 0 (by decide) (by omega) (by omega)
        have u158i := ri_c (M := M149) (N := M154) (FR.cell fM154 (by decide)) (by omega)
        have u158l := ri_l (M := M154) (by omega)
        have u158L := ll_w (luP gf gn 1014 1014 (boP gf gn (unR gf gn 0))) gn ((boP gf gn (unR gf gn 0)) gi).2.2 ((boP gf gn (unR gf gn 0)) (nxF gf gn gq135)).2.2 (0 + 1) 0 (M103.1 98 11).toInt (M103.1 98 12).toInt (M154.1 98 11).toInt (M154.1 98 12).toInt (M154.1 98 6).toInt (by decide) (ll_s gf gn 1014 1014 (boP gf gn (unR gf gn 0)) ((boP gf gn (unR gf gn 0)) gi).2.2 gq135 0 (M103.1 98 11).toInt (M103.1 98 12).toInt (M134.1 98 11).toInt (M134.1 98 12).toInt (M134.1 98 6).toInt (M141.1 98 11).toInt (M141.1 98 12).toInt (M149.1 98 11).toInt (M149.1 98 12).toInt (M149.1 98 6).toInt (M154.1 98 11).toInt (M154.1 98 12).toInt (M154.1 98 6).toInt (by decide) (bo_g gf gn (unR_g gf gn 0)) (by omega) (by omega) (by omega) (by omega) (by omega) (by omega) (by omega) (by omega) (by omega))
        have u158c := lc_s gf gn 1014 1014 (boP gf gn (unR gf gn 0)) (boL gf gn (unR gf gn 0) (uLR gf gn 0)) (by decide) (bo_g gf gn (unR_g gf gn 0)) (show b01 (LC AGR (M134.1 98 11).toInt (luL gf gn 1014 1014 (boP gf gn (unR gf gn 0)) (boL gf gn (unR gf gn 0) (uLR gf gn 0))) ((boP gf gn (unR gf gn 0)) gi).2.2 gq135 M103 M134) = 1 by omega) (show b01 (PO gn gq135 (M134.1 98 11).toInt (M134.1 98 6).toInt) = 1 by omega) (by omega) (show b01 (RR ((boP gf gn (unR gf gn 0)) (nxF gf gn gq135)) (M141.1 98 11).toInt (M141.1 98 12).toInt (M149.1 98 11).toInt (M149.1 98 12).toInt (M149.1 98 6).toInt) = 1 by omega) (fun z => by omega) (cl_e (L := ([] ++ ((boL gf gn (unR gf gn 0) (uLR gf gn 0)) (nxF gf gn gq135))) ++ [3008]) (cl_t (cl_t (cl_r (A := AGR) (M := M134) (N := M141) (M141.1 98 11).toInt (agr_c (FR.cell fM141 (by decide)))) (show b01 (CL AGR (M149.1 98 11).toInt M141 M149 ((boL gf gn (unR gf gn 0) (uLR gf gn 0)) (nxF gf gn gq135))) = 1 by omega) (fun z => rr_z (show b01 (RR ((boP gf gn (unR gf gn 0)) (nxF gf gn gq135)) (M141.1 98 11).toInt (M141.1 98 12).toInt (M149.1 98 11).toInt (M149.1 98 12).toInt (M149.1 98 6).toInt) = 1 by omega) z)) (show b01 (CL AGR (M154.1 98 11).toInt M149 M154 [3008]) = 1 by omega) (fun z => by omega)) (fun z => by rw [show tkF gf gn (M134.1 98 6).toInt = 1014 by omega, cm_tab.2.2.2.2.2.2.2.2, List.nil_append]) : b01 (CL AGR (M154.1 98 11).toInt M134 M154 (((boL gf gn (unR gf gn 0) (uLR gf gn 0)) (nxF gf gn gq135)) ++ [cmF (tkF gf gn (M134.1 98 6).toInt)])) = 1) (fun z => by omega)
        have zz98_8 : (M154.1 98 8).toInt = (M149.1 98 8).toInt := s_fF fM154 (by decide) (rfl); have zz98_6 : (M154.1 98 6).toInt = (M149.1 98 6).toInt := s_fF fM154 (by decide) (rfl); have zz98_12 : (M154.1 98 12).toInt = (M149.1 98 12).toInt := s_fF fM154 (by decide) (rfl); have zz98_11 : (M154.1 98 11).toInt = (M149.1 98 11).toInt := s_fF fM154 (by decide) (rfl); exact ih132 M154 ((boP gf gn (unR gf gn 0)) (nxF gf gn gq135)).2.2 (by (clear zz98_11 zz98_12 zz98_6 zz98_8 u158l u158x k157 fM154 hM154 u152b u152l u152t qM149 fM149 hM149 u147l u147a u147t u147c bM141 k145 fM141 hM141 k139 k138 u137B u137l fM134 hM134 ih132 u106c u106L u106l qM103 bM103 h105 fM103 hM103 u101l u101z hret C hp4 hp3 hp2 hp1 hp0 hpr hM0; omega)) hM154 ((((FR.rf.tr fM134 (by decide)).tr fM141 (by decide)).tr fM149 (by decide)).tr fM154 (by decide))
  exact L133 2010 M103 ((boP gf gn (unR gf gn 0)) gi).2.2 (by omega) hM103 (FR.rf.tr fM103 (by decide))
set_option maxHeartbeats 4000000 in
theorem s2_X12_readUnit {l : Launch} {dC : Nat → ClassId} {dI : Nat → Nat → Nat} {ad : Nat → Nat} {cA : Nat → ClassId} {pr : Nat → Nat → Bool} {Kz : mm_M} {M0 : mm_M} (hM0 : INV pr Kz M0) (hpr : PM pr) (gf : Nat → Int) (gn : Int) (gi : Int) (hp0 : b01 (RIP M0) = 1) (hp1 : b01 (CA M0) = 1) (hp2 : b01 (TKM gf gn M0) = 1) (hp3 : b01 (PO gn gi (M0.1 98 11).toInt (M0.1 98 6).toInt) = 1) (hp4 : b01 (PI M0) = 1) : Cv l 13 yX12_readUnit wsX12_readUnit dC dI ad cA [.ref (ad 98), .int (sI 5)] M0 (fun M' => INV pr Kz M' ∧ FR [98, 102] M0 M' ∧ (b01 (RIP M') = 1) ∧ ((M'.1 98 8).toInt = (M0.1 98 8).toInt) ∧ ((M0.1 98 6).toInt ≤ (M'.1 98 6).toInt) ∧ (b01 (XW M0 M' 0 1 0) = 1) ∧ (b01 (CA M') = 1) ∧ (b01 (CL AGR (M'.1 98 11).toInt M0 M' ((uLR gf gn 1) gi)) = 1) ∧ (b01 (PI M') = 1) ∧ (b01 (TKM gf gn M') = 1) ∧ b01 (RR ((unR gf gn 1) gi) (M0.1 98 11).toInt (M0.1 98 12).toInt (M'.1 98 11).toInt (M'.1 98 12).toInt (M'.1 98 6).toInt) = 1) := by
  refine cv_of (cc := cX12_readUnit) (maxL := 3) (lv := [(0, .ref (ad 98)), (1, .int (sI 5))]) (by decide) rfl (Nat.le_of_ble_eq_true rfl) rfl ?_
  intro p e s m args below meth c A Q C hret
  have u101z := xw_0 M0
  have u101l := ri_l (M := M0) (by omega)
  refine j_aload_n C 0 0 dX12_readUnit_0 rfl rfl ?_
  refine y_bipush C dX12_readUnit_1 rfl ?_
  have k102 := tkm_K (f := gf) (n := gn) (M := M0) (by omega)
  have k103 := kd_2 (kdk_16 gf gn (M0.1 98 6).toInt) (by omega)
  refine j_callVi C (d := 0) (As := [.int (sI 16)]) (st := []) 98 (s_lt rfl rfl) (s_kc (c := 11) rfl rfl) (by decide) rfl (s1_X12_is hM0 16 (by omega)) gX12_readUnit_X12_is rfl hdX12_is (by decide) (Nat.le_of_ble_eq_true rfl) dX12_readUnit_3 rfl (fun r104 M105 h106 => ?_)
  obtain ⟨a108, rfl, rfl, h107⟩ := h106
  refine y_if_eq C 33 dX12_readUnit_6 (by decide) (by omega) (fun h109 => ?_) (fun h109 => ?_)
  · refine j_aload_n C 0 0 dX12_readUnit_33 rfl rfl ?_
    refine y_bipush C dX12_readUnit_34 rfl ?_
    have k110 := tkm_K (f := gf) (n := gn) (M := M0) (by omega)
    have k111 := kd_2 (kdk_37 gf gn (M0.1 98 6).toInt) (by omega)
    refine j_callVi C (d := 0) (As := [.int (sI 37)]) (st := []) 98 (s_lt rfl rfl) (s_kc (c := 11) rfl rfl) (by decide) rfl (s1_X12_is hM0 37 (by omega)) gX12_readUnit_X12_is rfl hdX12_is (by decide) (Nat.le_of_ble_eq_true rfl) dX12_readUnit_36 rfl (fun r112 M113 h114 => ?_)
    obtain ⟨a116, rfl, rfl, h115⟩ := h114
    refine y_if_eq C 73 dX12_readUnit_39 (by decide) (by omega) (fun h117 => ?_) (fun h117 => ?_)
    · refine j_aload_n C 0 0 dX12_readUnit_73 rfl rfl ?_
      refine j_iload_n C 1 1 dX12_readUnit_74 rfl rfl ?_
      refine j_callVv C (d := 12) (As := [.int (sI 5)]) (st := []) 98 (s_lt rfl rfl) (s_kc (c := 11) rfl rfl) (by decide) rfl (s2_X12_readSum hM0 hpr gf gn gi (by omega) (by omega) (by omega) (by omega) (by omega)) gX12_readUnit_X12_readSum rfl hdX12_readSum (by decide) (Nat.le_of_ble_eq_true rfl) dX12_readUnit_75 rfl (fun M119 h120 => ?_)
      obtain ⟨hM119, fM119, h121⟩ := h120
      have bM119 := tkm_b (f := gf) (n := gn) (M := M119) (by omega)
      have qM119 := po_rr (suR gf gn 1) gn gi (M0.1 98 11).toInt (M0.1 98 12).toInt (M0.1 98 6).toInt (M119.1 98 11).toInt (M119.1 98 12).toInt (M119.1 98 6).toInt (suR_g gf gn 1) (by omega) (by omega)
      have u122l := ri_l (M := M119) (by omega)
      refine j_aload_n C 0 0 dX12_readUnit_78 rfl rfl ?_
      refine y_bipush C dX12_readUnit_79 rfl ?_
      have k123 := tkm_K (f := gf) (n := gn) (M := M119) (by omega)
      have k124 := kd_2 (kdk_39 gf gn (M119.1 98 6).toInt) (by omega)
      refine j_callVi C (d := 0) (As := [.int (sI 39)]) (st := []) 98 (s_lt rfl rfl) (s_kc (c := 11) rfl rfl) (by decide) rfl (s1_X12_is hM119 39 (by omega)) gX12_readUnit_X12_is rfl hdX12_is (by decide) (Nat.le_of_ble_eq_true rfl) dX12_readUnit_81 rfl (fun r125 M126 h127 => ?_)
      obtain ⟨a129, rfl, rfl, h128⟩ := h127
      have J140 : ∀ (a139 : Int), (3003 ≤ a139 ∧ a139 ≤ 3005 ∧ (¬ (M119.1 98 11).toInt = 0 ∨ (tkF gf gn (M119.1 98 6).toInt = 2061 ∧ a139 = 3003) ∨ (tkF gf gn (M119.1 98 6).toInt = 2060 ∧ a139 = 3004) ∨ (¬ tkF gf gn (M119.1 98 6).toInt = 2061 ∧ ¬ tkF gf gn (M119.1 98 6).toInt = 2060 ∧ a139 = 3005))) → jj p l e (cn_R 13) s m args below meth c 0 0 Q 3 dC dI ad cA A M119 111 [(0, .ref (ad 98)), (1, .int (sI 5))] [.int (sI a139)] := by
        intro a139 h141
        refine j_istore_n C 2 [(2, .int (sI a139)), (0, .ref (ad 98)), (1, .int (sI 5))] dX12_readUnit_111 rfl (by decide) rfl ?_
        refine j_aload_n C 1 0 dX12_readUnit_112 rfl rfl ?_
        refine y_bipush C dX12_readUnit_113 rfl ?_
        have k142 := tkm_K (f := gf) (n := gn) (M := M119) (by omega)
        have k143 := kd_2 (kdk_39 gf gn (M119.1 98 6).toInt) (by omega)
        refine j_callVi C (d := 0) (As := [.int (sI 39)]) (st := []) 98 (s_lt rfl rfl) (s_kc (c := 11) rfl rfl) (by decide) rfl (s1_X12_is hM119 39 (by omega)) gX12_readUnit_X12_is rfl hdX12_is (by decide) (Nat.le_of_ble_eq_true rfl) dX12_readUnit_115 rfl (fun r144 M145 h146 => ?_)
        obtain ⟨a148, rfl, rfl, h147⟩ := h146
        have J196 : ∀ (M195 : mm_M), ((b01 (RIP M195) = 1) ∧ ((M195.1 98 8).toInt = (M0.1 98 8).toInt) ∧ ((M0.1 98 6).toInt ≤ (M195.1 98 6).toInt) ∧ (b01 (XW M0 M195 0 1 1) = 1) ∧ (b01 (RR ((sjP gf gn 1) gi) (M0.1 98 11).toInt (M0.1 98 12).toInt (M195.1 98 11).toInt (M195.1 98 12).toInt (M195.1 98 6).toInt) = 1) ∧ (b01 (CL AGR (M195.1 98 11).toInt M0 M195 ((sLR gf gn 1) gi)) = 1) ∧ (b01 (UJW gf gn 1 gi (M195.1 98 11).toInt a139) = 1) ∧ (b01 (TKM gf gn M195) = 1) ∧ (b01 (PO gn ((sjP gf gn 1) gi).2.2 (M195.1 98 11).toInt (M195.1 98 6).toInt) = 1) ∧ (b01 (PI M195) = 1)) → INV pr Kz M195 → FR [98, 102] M0 M195 → jj p l e (cn_R 13) s m args below meth c 0 0 Q 3 dC dI ad cA A M195 151 [(0, .ref (ad 98)), (1, .int (sI 5)), (2, .int (sI a139))] [] := by
          intro M195 h197 hM195 fM195
          have u199a := ca_x (M := M0) (N := M195) (r := 0) (e := 1) (s := 1) (by decide) (by omega) (by omega)
          have u199l := ri_l (M := M195) (by omega)
          refine j_aload_n C 0 0 dX12_readUnit_151 rfl rfl ?_
          refine j_iload_n C 1 1 dX12_readUnit_152 rfl rfl ?_
          refine j_callVv C (d := 12) (As := [.int (sI 5)]) (st := []) 98 (s_lt rfl rfl) (s_kc (c := 11) rfl rfl) (by decide) rfl (s2_X12_readSum hM195 hpr gf gn ((sjP gf gn 1) gi).2.2 (by omega) (by omega) (by omega) (by omega) (by omega)) gX12_readUnit_X12_readSum rfl hdX12_readSum (by decide) (Nat.le_of_ble_eq_true rfl) dX12_readUnit_153 rfl (fun M201 h202 => ?_)
          obtain ⟨hM201, fM201, h203⟩ := h202
          have bM201 := tkm_b (f := gf) (n := gn) (M := M201) (by omega)
          have qM201 := po_rr (suR gf gn 1) gn ((sjP gf gn 1) gi).2.2 (M195.1 98 11).toInt (M195.1 98 12).toInt (M195.1 98 6).toInt (M201.1 98 11).toInt (M201.1 98 12).toInt (M201.1 98 6).toInt (suR_g gf gn 1) (by omega) (by omega)
          have u204t := xw_t (M := M0) (N := M195) (P := M201) (r1 := 0) (e1 := 1) (s1 := 1) (r2 := 0) (e2 := 1) (s2 := 0) 0 2 1 (by decide) (by omega) (by omega)
          have u204l := ri_l (M := M201) (by omega)
          have u204b := cb_x (M := M0) (N := M201) (r := 0) (e := 2) (s := 1) (by decide) (by omega) (by omega) (by omega)
          refine j_aload_n C 0 0 dX12_readUnit_156 rfl rfl ?_
          refine j_iload_n C 2 2 dX12_readUnit_157 rfl rfl ?_
          refine j_callVv C (d := 0) (As := [.int (sI a139)]) (st := []) 98 (s_lt rfl rfl) (s_kc (c := 11) rfl rfl) (by decide) rfl (s1_X12_codes hM201 hpr a139 (by omega) gf gn ((suR gf gn 1) ((sjP gf gn 1) gi).2.2).2.2 (by omega) (by omega) (by omega) (by omega)) gX12_readUnit_X12_codes rfl hdX12_codes (by decide) (Nat.le_of_ble_eq_true rfl) dX12_readUnit_158 rfl (fun M206 h207 => ?_)
          obtain ⟨hM206, fM206, h208⟩ := h207
          have k209 := tk_c gf gn (M206.1 98 6).toInt (M201.1 98 6).toInt
          have bM206 := tkm_b (f := gf) (n := gn) (M := M206) (by omega)
          have qM206 := po_eq gn ((suR gf gn 1) ((sjP gf gn 1) gi).2.2).2.2 (M201.1 98 11).toInt (M201.1 98 6).toInt (M206.1 98 11).toInt (M206.1 98 6).toInt (by omega) (by omega) (by omega)
          have u210x := xw_a (M := M201) (N := M206) (c := a139) (r := 2) (e := (-1)) (FR.cell fM206 (by decide)) (ap_bin ⟨(INV.rd hM201 (i := 102) (c := 48) (k := 280) rfl rfl).1, by omega, by omega⟩) (by omega)
          have u210t := xw_t (M := M0) (N := M201) (P := M206) (r1 := 0) (e1 := 2) (s1 := 1) (r2 := 2) (e2 := (-1)) (s2 := (-1)) 0 1 0 (by decide) (by omega) (by omega)
          have u210i := ri_c (M := M201) (N := M206) (FR.cell fM206 (by decide)) (by omega)
          have u210l := ri_l (M := M206) (by omega)
          have u210a := ca_x (M := M0) (N := M206) (r := 0) (e := 1) (s := 0) (by decide) (by omega) (by omega)
          have u211r := un_6 gf gn 1 gi (M0.1 98 11).toInt (M0.1 98 12).toInt (M0.1 98 6).toInt (M195.1 98 11).toInt (M195.1 98 12).toInt (M195.1 98 6).toInt (M201.1 98 11).toInt (M201.1 98 12).toInt (M201.1 98 6).toInt (M206.1 98 11).toInt (M206.1 98 12).toInt (M206.1 98 6).toInt (by omega) (by (clear u210a u210l u210i u210t u210x qM206 bM206 k209 h208 fM206 hM206 u204b u204l u204t qM201 bM201 h203 fM201 hM201 u199l u199a fM195 hM195 h197 h147 k143 k142 h141 h128 k124 u122l qM119 bM119 h121 fM119 hM119 k110 u101l u101z hret C hp4 hp3 hp2 hp1 hp0 hpr hM0; omega)) (by omega) (by omega) (by omega) (by omega) (by omega)
          have u211l : b01 (CL AGR (M206.1 98 11).toInt M0 M206 ((uLR gf gn 1) gi)) = 1 := cl_e (cl_t (cl_t (show b01 (CL AGR (M195.1 98 11).toInt M0 M195 ((sLR gf gn 1) gi)) = 1 by omega) (show b01 (CL AGR (M201.1 98 11).toInt M195 M201 ((sLR gf gn 1) ((sjP gf gn 1) gi).2.2)) = 1 by omega) (fun z => rr_z (show b01 (RR ((suR gf gn 1) ((sjP gf gn 1) gi).2.2) (M195.1 98 11).toInt (M195.1 98 12).toInt (M201.1 98 11).toInt (M201.1 98 12).toInt (M201.1 98 6).toInt) = 1 by omega) z)) (show b01 (CL AGR (M206.1 98 11).toInt M201 M206 [a139]) = 1 by omega) (fun z => by omega)) (fun z => by have y := (fun z => rr_z (show b01 (RR ((suR gf gn 1) ((sjP gf gn 1) gi).2.2) (M195.1 98 11).toInt (M195.1 98 12).toInt (M201.1 98 11).toInt (M201.1 98 12).toInt (M201.1 98 6).toInt) = 1 by omega) z) (show (M201.1 98 11).toInt = 0 by omega); rw [(b01_e (show b01 (UJW gf gn 1 gi (M195.1 98 11).toInt a139) = 1 by omega)).resolve_left (fun w => w y), List.append_assoc])
          have zz98_11 : (M206.1 98 11).toInt = (M201.1 98 11).toInt := s_fF fM206 (by decide) (rfl); have zz98_12 : (M206.1 98 12).toInt = (M201.1 98 12).toInt := s_fF fM206 (by decide) (rfl); have zz98_6 : (M206.1 98 6).toInt = (M201.1 98 6).toInt := s_fF fM206 (by decide) (rfl); have zz98_8 : (M206.1 98 8).toInt = (M201.1 98 8).toInt := s_fF fM206 (by decide) (rfl); exact hret _ _ _ dX12_readUnit_161 ⟨hM206, (((FR.rf.tr fM195 (by decide)).tr fM201 (by decide)).tr fM206 (by decide)), by omega⟩
        refine y_if_ne C 139 dX12_readUnit_118 (by decide) (by omega) (fun h149 => ?_) (fun h149 => ?_)
        · have u150k := ri_k (M := M119) (by omega) (by omega)
          refine j_aload_n C 1 0 dX12_readUnit_139 rfl rfl ?_
          have k151 := tkm_p (f := gf) (n := gn) (M := M119) (by omega)
          have k152 := tkm_K (f := gf) (n := gn) (M := M119) (by omega)
          refine j_callVv C (d := 5) (As := []) (st := []) 98 (s_lt rfl rfl) (s_kc (c := 11) rfl rfl) (by decide) rfl (s1_X12_next hM119 hpr gf gn (by omega) (by omega) (by omega) (by omega)) gX12_readUnit_X12_next rfl hdX12_next (by decide) (Nat.le_of_ble_eq_true rfl) dX12_readUnit_140 rfl (fun M154 h155 => ?_)
          obtain ⟨hM154, fM154, h156⟩ := h155
          have bM154 := tkm_b (f := gf) (n := gn) (M := M154) (by omega)
          have qM154 := nx_po (f := gf) (n := gn) (i := ((suR gf gn 1) gi).2.2) (M := M119) (M' := M154) (by omega) (by omega) (by omega) (by omega) (by omega)
          refine j_goto C 151 dX12_readUnit_143 (by decide) ?_
          have u157c := xw_c (N := M119) (P := M154) 1 (FR.cell fM154 (by decide)) (by omega)
          have u157t := xw_t (M := M0) (N := M119) (P := M154) (r1 := 0) (e1 := 1) (s1 := 0) (r2 := 0) (e2 := 0) (s2 := 1) 0 1 1 (by decide) (by omega) (by omega)
          have u157l := ri_l (M := M154) (by omega)
          have u157J := cj_1 gf gn 1 gi (M0.1 98 11).toInt (M0.1 98 12).toInt (M119.1 98 11).toInt (M119.1 98 12).toInt (M119.1 98 6).toInt (M154.1 98 11).toInt (M154.1 98 12).toInt (M154.1 98 6).toInt (by omega) (by omega) (by omega) (by omega) (by omega) (by omega) (by omega)
          have u157P := po_rr (sjP gf gn 1) gn gi (M0.1 98 11).toInt (M0.1 98 12).toInt (M0.1 98 6).toInt (M154.1 98 11).toInt (M154.1 98 12).toInt (M154.1 98 6).toInt (sj_g gf gn 1) (by omega) (by omega)
          have u157c : b01 (CL AGR (M154.1 98 11).toInt M0 M154 ((sLR gf gn 1) gi)) = 1 := cl_e (cl_t (show b01 (CL AGR (M119.1 98 11).toInt M0 M119 ((sLR gf gn 1) gi)) = 1 by omega) (cl_r (A := AGR) (M := M119) (N := M154) (M154.1 98 11).toInt (agr_c (FR.cell fM154 (by decide)))) (fun z => by omega)) (fun z => (List.append_nil _).symm)
          have u157j := uj_1 gf gn 1 (i := gi) (a := (M154.1 98 11).toInt) (c := a139) (show b01 (PO gn gi (M0.1 98 11).toInt (M0.1 98 6).toInt) = 1 by omega) (by omega) (show b01 (RR ((suR gf gn 1) gi) (M0.1 98 11).toInt (M0.1 98 12).toInt (M119.1 98 11).toInt (M119.1 98 12).toInt (M119.1 98 6).toInt) = 1 by omega) (show b01 (PO gn ((suR gf gn 1) gi).2.2 (M119.1 98 11).toInt (M119.1 98 6).toInt) = 1 by omega) (by omega) (by (clear u157c u157P u157J u157l u157t qM154 bM154 h156 fM154 hM154 k152 k151 u150k J196 k142 h128 k124 u122l qM119 bM119 h121 fM119 hM119 h117 h115 k111 k110 h109 h107 k103 k102 u101l u101z hret C hp4 hp3 hp2 hp1 hp0 hpr hM0; omega))
          refine j_lv [1, 2, 0] rfl ?_; exact J196 M154 (by omega) hM154 ((FR.rf.tr fM119 (by decide)).tr fM154 (by decide))
        · refine j_aload_n C 1 0 dX12_readUnit_121 rfl rfl ?_
          refine y_bipush C dX12_readUnit_122 rfl ?_
          have k158 := tkm_K (f := gf) (n := gn) (M := M119) (by omega)
          have k159 := kd_2 (kdk_40 gf gn (M119.1 98 6).toInt) (by omega)
          refine j_callVi C (d := 0) (As := [.int (sI 40)]) (st := []) 98 (s_lt rfl rfl) (s_kc (c := 11) rfl rfl) (by decide) rfl (s1_X12_is hM119 40 (by omega)) gX12_readUnit_X12_is rfl hdX12_is (by decide) (Nat.le_of_ble_eq_true rfl) dX12_readUnit_124 rfl (fun r160 M161 h162 => ?_)
          obtain ⟨a164, rfl, rfl, h163⟩ := h162
          refine y_if_ne C 139 dX12_readUnit_127 (by decide) (by omega) (fun h165 => ?_) (fun h165 => ?_)
          · have u166k := ri_k (M := M119) (by omega) (by omega)
            refine j_aload_n C 1 0 dX12_readUnit_139 rfl rfl ?_
            have k167 := tkm_p (f := gf) (n := gn) (M := M119) (by omega)
            have k168 := tkm_K (f := gf) (n := gn) (M := M119) (by omega)
            refine j_callVv C (d := 5) (As := []) (st := []) 98 (s_lt rfl rfl) (s_kc (c := 11) rfl rfl) (by decide) rfl (s1_X12_next hM119 hpr gf gn (by omega) (by omega) (by omega) (by omega)) gX12_readUnit_X12_next rfl hdX12_next (by decide) (Nat.le_of_ble_eq_true rfl) dX12_readUnit_140 rfl (fun M170 h171 => ?_)
            obtain ⟨hM170, fM170, h172⟩ := h171
            have bM170 := tkm_b (f := gf) (n := gn) (M := M170) (by omega)
            have qM170 := nx_po (f := gf) (n := gn) (i := ((suR gf gn 1) gi).2.2) (M := M119) (M' := M170) (by omega) (by omega) (by omega) (by omega) (by omega)
            refine j_goto C 151 dX12_readUnit_143 (by decide) ?_
            have u173c := xw_c (N := M119) (P := M170) 1 (FR.cell fM170 (by decide)) (by omega)
            have u173t := xw_t (M := M0) (N := M119) (P := M170) (r1 := 0) (e1 := 1) (s1 := 0) (r2 := 0) (e2 := 0) (s2 := 1) 0 1 1 (by decide) (by omega) (by omega)
            have u173l := ri_l (M := M170) (by omega)
            have u173J := cj_1 gf gn 1 gi (M0.1 98 11).toInt (M0.1 98 12).toInt (M119.1 98 11).toInt (M119.1 98 12).toInt (M119.1 98 6).toInt (M170.1 98 11).toInt (M170.1 98 12).toInt (M170.1 98 6).toInt (by omega) (by omega) (by omega) (by omega) (by omega) (by omega) (by omega)
            have u173P := po_rr (sjP gf gn 1) gn gi (M0.1 98 11).toInt (M0.1 98 12).toInt (M0.1 98 6).toInt (M170.1 98 11).toInt (M170.1 98 12).toInt (M170.1 98 6).toInt (sj_g gf gn 1) (by omega) (by omega)
            have u173c : b01 (CL AGR (M170.1 98 11).toInt M0 M170 ((sLR gf gn 1) gi)) = 1 := cl_e (cl_t (show b01 (CL AGR (M119.1 98 11).toInt M0 M119 ((sLR gf gn 1) gi)) = 1 by omega) (cl_r (A := AGR) (M := M119) (N := M170) (M170.1 98 11).toInt (agr_c (FR.cell fM170 (by decide)))) (fun z => by omega)) (fun z => (List.append_nil _).symm)
            have u173j := uj_1 gf gn 1 (i := gi) (a := (M170.1 98 11).toInt) (c := a139) (show b01 (PO gn gi (M0.1 98 11).toInt (M0.1 98 6).toInt) = 1 by omega) (by omega) (show b01 (RR ((suR gf gn 1) gi) (M0.1 98 11).toInt (M0.1 98 12).toInt (M119.1 98 11).toInt (M119.1 98 12).toInt (M119.1 98 6).toInt) = 1 by omega) (show b01 (PO gn ((suR gf gn 1) gi).2.2 (M119.1 98 11).toInt (M119.1 98 6).toInt) = 1 by omega) (by omega) (by (clear u173c u173P u173J u173l u173t qM170 bM170 h172 fM170 hM170 k168 k167 u166k k158 h149 J196 h147 k143 k142 h128 k124 u122l qM119 bM119 h121 fM119 hM119 h117 h115 k111 k110 h109 h107 k103 k102 u101l u101z hret C hp4 hp3 hp2 hp1 hp0 hpr hM0; omega))
            refine j_lv [1, 2, 0] rfl ?_; exact J196 M170 (by omega) hM170 ((FR.rf.tr fM119 (by decide)).tr fM170 (by decide))
          · refine j_aload_n C 1 0 dX12_readUnit_130 rfl rfl ?_
            refine y_bipush C dX12_readUnit_131 rfl ?_
            have k174 := tkm_K (f := gf) (n := gn) (M := M119) (by omega)
            have k175 := kd_2 (kdk_41 gf gn (M119.1 98 6).toInt) (by omega)
            refine j_callVi C (d := 0) (As := [.int (sI 41)]) (st := []) 98 (s_lt rfl rfl) (s_kc (c := 11) rfl rfl) (by decide) rfl (s1_X12_is hM119 41 (by omega)) gX12_readUnit_X12_is rfl hdX12_is (by decide) (Nat.le_of_ble_eq_true rfl) dX12_readUnit_133 rfl (fun r176 M177 h178 => ?_)
            obtain ⟨a180, rfl, rfl, h179⟩ := h178
            refine y_if_eq C 146 dX12_readUnit_136 (by decide) (by omega) (fun h181 => ?_) (fun h181 => ?_)
            · refine j_aload_n C 1 0 dX12_readUnit_146 rfl rfl ?_
              refine y_iconst C dX12_readUnit_147 ?_
              refine j_callVv C (d := 0) (As := [.int (sI 2)]) (st := []) 98 (s_lt rfl rfl) (s_kc (c := 11) rfl rfl) (by decide) rfl (s1_X12_fails hM119 hpr 2 (by omega) gf gn ((suR gf gn 1) gi).2.2 (by omega) (by omega) (by omega) (by omega) (by omega)) gX12_readUnit_X12_fails rfl hdX12_fails (by decide) (Nat.le_of_ble_eq_true rfl) dX12_readUnit_148 rfl (fun M183 h184 => ?_)
              obtain ⟨hM183, fM183, h185⟩ := h184
              have bM183 := tkm_b (f := gf) (n := gn) (M := M183) (by omega)
              have qM183 := po_f gn ((faQ gf gn 2) ((suR gf gn 1) gi).2.2).2.2 (M183.1 98 11).toInt (M183.1 98 6).toInt (by omega)
              have u186f : b01 (XW M0 M183 0 1 1) = 1 := b01_i (Or.inl (by omega))
              have u186l := ri_l (M := M183) (by omega)
              have u186J := cj_2 gf gn 1 gi (M0.1 98 11).toInt (M0.1 98 12).toInt (M119.1 98 11).toInt (M119.1 98 12).toInt (M119.1 98 6).toInt (M183.1 98 11).toInt (M183.1 98 12).toInt (M183.1 98 6).toInt (by omega) (by omega) (by omega) (by omega)
              have u186P := po_rr (sjP gf gn 1) gn gi (M0.1 98 11).toInt (M0.1 98 12).toInt (M0.1 98 6).toInt (M183.1 98 11).toInt (M183.1 98 12).toInt (M183.1 98 6).toInt (sj_g gf gn 1) (by omega) (by omega)
              have u186c := cl_n (A := AGR) (M := M0) (N := M183) ((sLR gf gn 1) gi) (a := (M183.1 98 11).toInt) (by omega)
              have u186j : b01 (UJW gf gn 1 gi (M183.1 98 11).toInt a139) = 1 := b01_i (Or.inl (by omega))
              refine j_lv [1, 2, 0] rfl ?_; exact J196 M183 (by omega) hM183 ((FR.rf.tr fM119 (by decide)).tr fM183 (by decide))
            · have u187k := ri_k (M := M119) (by omega) (by omega)
              refine j_aload_n C 1 0 dX12_readUnit_139 rfl rfl ?_
              have k188 := tkm_p (f := gf) (n := gn) (M := M119) (by omega)
              have k189 := tkm_K (f := gf) (n := gn) (M := M119) (by omega)
              refine j_callVv C (d := 5) (As := []) (st := []) 98 (s_lt rfl rfl) (s_kc (c := 11) rfl rfl) (by decide) rfl (s1_X12_next hM119 hpr gf gn (by omega) (by omega) (by omega) (by omega)) gX12_readUnit_X12_next rfl hdX12_next (by decide) (Nat.le_of_ble_eq_true rfl) dX12_readUnit_140 rfl (fun M191 h192 => ?_)
              obtain ⟨hM191, fM191, h193⟩ := h192
              have bM191 := tkm_b (f := gf) (n := gn) (M := M191) (by omega)
              have qM191 := nx_po (f := gf) (n := gn) (i := ((suR gf gn 1) gi).2.2) (M := M119) (M' := M191) (by omega) (by omega) (by omega) (by omega) (by omega)
              refine j_goto C 151 dX12_readUnit_143 (by decide) ?_
              have u194c := xw_c (N := M119) (P := M191) 1 (FR.cell fM191 (by decide)) (by omega)
              have u194t := xw_t (M := M0) (N := M119) (P := M191) (r1 := 0) (e1 := 1) (s1 := 0) (r2 := 0) (e2 := 0) (s2 := 1) 0 1 1 (by decide) (by omega) (by omega)
              have u194l := ri_l (M := M191) (by omega)
              have u194J := cj_1 gf gn 1 gi (M0.1 98 11).toInt (M0.1 98 12).toInt (M119.1 98 11).toInt (M119.1 98 12).toInt (M119.1 98 6).toInt (M191.1 98 11).toInt (M191.1 98 12).toInt (M191.1 98 6).toInt (by omega) (by omega) (by omega) (by omega) (by omega) (by omega) (by omega)
              have u194P := po_rr (sjP gf gn 1) gn gi (M0.1 98 11).toInt (M0.1 98 12).toInt (M0.1 98 6).toInt (M191.1 98 11).toInt (M191.1 98 12).toInt (M191.1 98 6).toInt (sj_g gf gn 1) (by omega) (by omega)
              have u194c : b01 (CL AGR (M191.1 98 11).toInt M0 M191 ((sLR gf gn 1) gi)) = 1 := cl_e (cl_t (show b01 (CL AGR (M119.1 98 11).toInt M0 M119 ((sLR gf gn 1) gi)) = 1 by omega) (cl_r (A := AGR) (M := M119) (N := M191) (M191.1 98 11).toInt (agr_c (FR.cell fM191 (by decide)))) (fun z => by omega)) (fun z => (List.append_nil _).symm)
              have u194j := uj_1 gf gn 1 (i := gi) (a := (M191.1 98 11).toInt) (c := a139) (show b01 (PO gn gi (M0.1 98 11).toInt (M0.1 98 6).toInt) = 1 by omega) (by omega) (show b01 (RR ((suR gf gn 1) gi) (M0.1 98 11).toInt (M0.1 98 12).toInt (M119.1 98 11).toInt (M119.1 98 12).toInt (M119.1 98 6).toInt) = 1 by omega) (show b01 (PO gn ((suR gf gn 1) gi).2.2 (M119.1 98 11).toInt (M119.1 98 6).toInt) = 1 by omega) (by omega) (by (clear u194c u194P u194J u194l u194t qM191 bM191 h193 fM191 hM191 k189 k188 u187k k174 h165 h163 k159 k158 h149 J196 h147 k143 k142 h128 k124 u122l qM119 bM119 h121 fM119 hM119 h117 h115 k111 k110 h109 h107 k103 k102 u101l u101z hret C hp4 hp3 hp2 hp1 hp0 hpr hM0; omega))
              refine j_lv [1, 2, 0] rfl ?_; exact J196 M191 (by omega) hM191 ((FR.rf.tr fM119 (by decide)).tr fM191 (by decide))
      refine y_if_eq C 93 dX12_readUnit_84 (by decide) (by omega) (fun h130 => ?_) (fun h130 => ?_)
      · refine j_aload_n C 0 0 dX12_readUnit_93 rfl rfl ?_
        refine y_bipush C dX12_readUnit_94 rfl ?_
        have k131 := tkm_K (f := gf) (n := gn) (M := M119) (by omega)
        have k132 := kd_2 (kdk_40 gf gn (M119.1 98 6).toInt) (by omega)
        refine j_callVi C (d := 0) (As := [.int (sI 40)]) (st := []) 98 (s_lt rfl rfl) (s_kc (c := 11) rfl rfl) (by decide) rfl (s1_X12_is hM119 40 (by omega)) gX12_readUnit_X12_is rfl hdX12_is (by decide) (Nat.le_of_ble_eq_true rfl) dX12_readUnit_96 rfl (fun r133 M134 h135 => ?_)
        obtain ⟨a137, rfl, rfl, h136⟩ := h135
        refine y_if_eq C 108 dX12_readUnit_99 (by decide) (by omega) (fun h138 => ?_) (fun h138 => ?_)
        · refine y_sipush C dX12_readUnit_108 rfl ?_
          exact J140 3005 (by omega)
        · refine y_sipush C dX12_readUnit_102 rfl ?_
          refine j_goto C 111 dX12_readUnit_105 (by decide) ?_
          exact J140 3004 (by omega)
      · refine y_sipush C dX12_readUnit_87 rfl ?_
        refine j_goto C 111 dX12_readUnit_90 (by decide) ?_
        exact J140 3003 (by omega)
    · have u212k := ri_k (M := M0) (by omega) (by omega)
      refine j_aload_n C 0 0 dX12_readUnit_42 rfl rfl ?_
      refine j_iload_n C 1 1 dX12_readUnit_43 rfl rfl ?_
      refine j_callVi C (d := 6) (As := [.int (sI 5)]) (st := []) 98 (s_lt rfl rfl) (s_kc (c := 11) rfl rfl) (by decide) rfl (s6_X12_goesIn hM0 hpr gf gn gi (by omega) (by omega) (by omega) (by omega) (by omega) (by omega) (by omega)) gX12_readUnit_X12_goesIn rfl hdX12_goesIn (by decide) (Nat.le_of_ble_eq_true rfl) dX12_readUnit_44 rfl (fun r213 M214 h215 => ?_)
      obtain ⟨a217, rfl, hM214, fM214, h216⟩ := h215
      have bM214 := tkm_b (f := gf) (n := gn) (M := M214) (by omega)
      refine y_if_ne C 51 dX12_readUnit_47 (by decide) (by omega) (fun h218 => ?_) (fun h218 => ?_)
      · have u219c := xw_c (N := M0) (P := M214) 1 (FR.cell fM214 (by decide)) (by omega)
        have u219t := xw_t (M := M0) (N := M0) (P := M214) (r1 := 0) (e1 := 0) (s1 := 0) (r2 := 0) (e2 := 0) (s2 := 1) 0 0 1 (by decide) (by omega) (by omega)
        have u219a := ca_x (M := M0) (N := M214) (r := 0) (e := 0) (s := 1) (by decide) (by omega) (by omega)
        have u219l := ri_l (M := M214) (by omega)
        refine j_aload_n C 0 0 dX12_readUnit_51 rfl rfl ?_
        refine j_iload_n C 1 1 dX12_readUnit_52 rfl rfl ?_
        refine y_iconst C dX12_readUnit_53 ?_
        refine y_iadd C dX12_readUnit_54 ?_
        refine j_callVv C (d := 12) (As := [.int (sI (5 + 1))]) (st := []) 98 (s_lt rfl rfl) (s_kc (c := 11) rfl rfl) (by decide) rfl (s1_X12_readTruth hM214 hpr gf gn (nxF gf gn gi) (by omega) (by omega) (by omega) (by omega) (by omega)) gX12_readUnit_X12_readTruth rfl hdX12_readTruth (by decide) (Nat.le_of_ble_eq_true rfl) dX12_readUnit_55 rfl (fun M221 h222 => ?_)
        obtain ⟨hM221, fM221, h223⟩ := h222
        have bM221 := tkm_b (f := gf) (n := gn) (M := M221) (by omega)
        have qM221 := po_rr (trP gf gn (unR gf gn 0)) gn (nxF gf gn gi) (M214.1 98 11).toInt (M214.1 98 12).toInt (M214.1 98 6).toInt (M221.1 98 11).toInt (M221.1 98 12).toInt (M221.1 98 6).toInt (tr_g gf gn (unR_g gf gn 0)) (by omega) (by omega)
        have u224t := xw_t (M := M0) (N := M214) (P := M221) (r1 := 0) (e1 := 0) (s1 := 1) (r2 := 0) (e2 := 1) (s2 := 0) 0 1 1 (by decide) (by omega) (by omega)
        have u224l := ri_l (M := M221) (by omega)
        refine j_aload_n C 0 0 dX12_readUnit_58 rfl rfl ?_
        refine y_bipush C dX12_readUnit_59 rfl ?_
        have k225 := tkm_K (f := gf) (n := gn) (M := M221) (by omega)
        have k226 := kd_2 (kdk_38 gf gn (M221.1 98 6).toInt) (by omega)
        refine j_callVi C (d := 6) (As := [.int (sI 38)]) (st := []) 98 (s_lt rfl rfl) (s_kc (c := 11) rfl rfl) (by decide) rfl (s1_X12_eats hM221 hpr 38 (by omega) gf gn ((trP gf gn (unR gf gn 0)) (nxF gf gn gi)).2.2 (by omega) (by omega) (by omega) (by omega) (by omega)) gX12_readUnit_X12_eats rfl hdX12_eats (by decide) (Nat.le_of_ble_eq_true rfl) dX12_readUnit_61 rfl (fun r227 M228 h229 => ?_)
        obtain ⟨a231, rfl, hM228, fM228, h230⟩ := h229
        have k232 := tk_c gf gn (M228.1 98 6).toInt (M221.1 98 6).toInt
        have bM228 := tkm_b (f := gf) (n := gn) (M := M228) (by omega)
        have u233c := xw_c (N := M221) (P := M228) 0 (FR.cell fM228 (by decide)) (by omega)
        have u233t := xw_t (M := M0) (N := M221) (P := M228) (r1 := 0) (e1 := 1) (s1 := 1) (r2 := 0) (e2 := 0) (s2 := 0) 0 1 0 (by decide) (by omega) (by omega)
        have u233l := ri_l (M := M228) (by omega)
        refine y_if_ne C 72 dX12_readUnit_64 (by decide) (by omega) (fun h234 => ?_) (fun h234 => ?_)
        · have u235a := ca_x (M := M0) (N := M228) (r := 0) (e := 1) (s := 0) (by decide) (by omega) (by omega)
          have u236x := ex_1 gf gn 2093 ((trP gf gn (unR gf gn 0)) (nxF gf gn gi)).2.2 (M221.1 98 11).toInt (M221.1 98 12).toInt (M221.1 98 6).toInt (M228.1 98 11).toInt (M228.1 98 12).toInt (M228.1 98 6).toInt (by omega) (by omega) (by omega) (by omega) (by omega) (by omega)
          have u236r := un_2 gf gn 0 1 rfl gi (M0.1 98 11).toInt (M0.1 98 12).toInt (M0.1 98 6).toInt (M214.1 98 11).toInt (M214.1 98 12).toInt (M221.1 98 11).toInt (M221.1 98 12).toInt (M221.1 98 6).toInt (M228.1 98 11).toInt (M228.1 98 12).toInt (M228.1 98 6).toInt (by omega) (by omega) (by omega) (by omega) (by omega) (by omega)
          have u236l : b01 (CL AGR (M228.1 98 11).toInt M0 M228 ((uLR gf gn 1) gi)) = 1 := cl_e (cl_t (cl_t (cl_r (A := AGR) (M := M0) (N := M214) (M214.1 98 11).toInt (agr_c (FR.cell fM214 (by decide)))) (show b01 (CL AGR (M221.1 98 11).toInt M214 M221 ((trL gf gn (unR gf gn 0) (uLR gf gn 0)) (nxF gf gn gi))) = 1 by omega) (fun z => rr_z (show b01 (RR ((trP gf gn (unR gf gn 0)) (nxF gf gn gi)) (M214.1 98 11).toInt (M214.1 98 12).toInt (M221.1 98 11).toInt (M221.1 98 12).toInt (M221.1 98 6).toInt) = 1 by omega) z)) (cl_r (A := AGR) (M := M221) (N := M228) (M228.1 98 11).toInt (agr_c (FR.cell fM228 (by decide)))) (fun z => by omega)) (fun z => by rw [un_l2 gf gn 0 1 rfl (show b01 (PO gn gi (M0.1 98 11).toInt (M0.1 98 6).toInt) = 1 by omega) (by omega) (by omega), List.nil_append, List.append_nil])
          exact hret _ _ _ dX12_readUnit_72 ⟨hM228, (((FR.rf.tr fM214 (by decide)).tr fM221 (by decide)).tr fM228 (by decide)), by omega⟩
        · refine j_aload_n C 0 0 dX12_readUnit_67 rfl rfl ?_
          refine y_iconst C dX12_readUnit_68 ?_
          have p237 := po_eq gn ((trP gf gn (unR gf gn 0)) (nxF gf gn gi)).2.2 (M221.1 98 11).toInt (M221.1 98 6).toInt (M228.1 98 11).toInt (M228.1 98 6).toInt (by omega) (by omega) (by omega)
          refine j_callVv C (d := 0) (As := [.int (sI 2)]) (st := []) 98 (s_lt rfl rfl) (s_kc (c := 11) rfl rfl) (by decide) rfl (s1_X12_fails hM228 hpr 2 (by omega) gf gn ((trP gf gn (unR gf gn 0)) (nxF gf gn gi)).2.2 (by omega) (by omega) (by omega) (by omega) (by omega)) gX12_readUnit_X12_fails rfl hdX12_fails (by decide) (Nat.le_of_ble_eq_true rfl) dX12_readUnit_69 rfl (fun M239 h240 => ?_)
          obtain ⟨hM239, fM239, h241⟩ := h240
          have bM239 := tkm_b (f := gf) (n := gn) (M := M239) (by omega)
          have qM239 := po_f gn ((faQ gf gn 2) ((trP gf gn (unR gf gn 0)) (nxF gf gn gi)).2.2).2.2 (M239.1 98 11).toInt (M239.1 98 6).toInt (by omega)
          have u242f : b01 (XW M0 M239 0 1 0) = 1 := b01_i (Or.inl (by omega))
          have u242a := ca_x (M := M0) (N := M239) (r := 0) (e := 1) (s := 0) (by decide) (by omega) (by omega)
          have u243x := ex_2z gf gn 2093 ((trP gf gn (unR gf gn 0)) (nxF gf gn gi)).2.2 (M221.1 98 11).toInt (M221.1 98 12).toInt (M221.1 98 6).toInt (M239.1 98 11).toInt (M239.1 98 12).toInt (M239.1 98 6).toInt (by omega) (by omega) (rr_fr (faQ gf gn 2 ((trP gf gn (unR gf gn 0)) (nxF gf gn gi)).2.2) (M221.1 98 11).toInt (M221.1 98 12).toInt (M228.1 98 11).toInt (M228.1 98 12).toInt (M239.1 98 11).toInt (M239.1 98 12).toInt (M239.1 98 6).toInt (by omega) (by omega) (by omega))
          have u243r := un_2 gf gn 0 1 rfl gi (M0.1 98 11).toInt (M0.1 98 12).toInt (M0.1 98 6).toInt (M214.1 98 11).toInt (M214.1 98 12).toInt (M221.1 98 11).toInt (M221.1 98 12).toInt (M221.1 98 6).toInt (M239.1 98 11).toInt (M239.1 98 12).toInt (M239.1 98 6).toInt (by omega) (by (clear u243x u242a u242f qM239 bM239 h241 fM239 hM239 p237 h234 u233l u233t u233c bM228 k232 h230 fM228 hM228 k226 k225 u224l u224t qM221 bM221 h223 fM221 hM221 u219l u219a u219t u219c h218 bM214 h216 fM214 hM214 u212k k110 h109 h107 k103 u101l u101z hret C hp4 hp3 hp2 hp1 hp0 hpr hM0; omega)) (by (clear u243x u242a u242f qM239 bM239 h241 fM239 hM239 p237 h234 u233l u233t u233c bM228 k232 h230 fM228 hM228 k226 k225 u224l u224t qM221 bM221 h223 fM221 hM221 u219l u219a u219t u219c h218 bM214 fM214 hM214 u212k h117 h115 k111 k110 h109 h107 k103 k102 u101l u101z hret C hp4 hp3 hp2 hp1 hp0 hpr hM0; omega)) (by omega) (by omega) (by omega)
          have u243l := cl_n (A := AGR) (M := M0) (N := M239) ((uLR gf gn 1) gi) (a := (M239.1 98 11).toInt) (by omega)
          exact hret _ _ _ dX12_readUnit_72 ⟨hM239, ((((FR.rf.tr fM214 (by decide)).tr fM221 (by decide)).tr fM228 (by decide)).tr fM239 (by decide)), by omega⟩
      · exfalso; omega
  · have u244k := ri_k (M := M0) (by omega) (by omega)
    refine j_aload_n C 0 0 dX12_readUnit_9 rfl rfl ?_
    refine j_iload_n C 1 1 dX12_readUnit_10 rfl rfl ?_
    refine j_callVi C (d := 6) (As := [.int (sI 5)]) (st := []) 98 (s_lt rfl rfl) (s_kc (c := 11) rfl rfl) (by decide) rfl (s6_X12_goesIn hM0 hpr gf gn gi (by omega) (by omega) (by omega) (by omega) (by omega) (by omega) (by omega)) gX12_readUnit_X12_goesIn rfl hdX12_goesIn (by decide) (Nat.le_of_ble_eq_true rfl) dX12_readUnit_11 rfl (fun r245 M246 h247 => ?_)
    obtain ⟨a249, rfl, hM246, fM246, h248⟩ := h247
    have bM246 := tkm_b (f := gf) (n := gn) (M := M246) (by omega)
    refine y_if_ne C 18 dX12_readUnit_14 (by decide) (by omega) (fun h250 => ?_) (fun h250 => ?_)
    · have u251c := xw_c (N := M0) (P := M246) 1 (FR.cell fM246 (by decide)) (by omega)
      have u251t := xw_t (M := M0) (N := M0) (P := M246) (r1 := 0) (e1 := 0) (s1 := 0) (r2 := 0) (e2 := 0) (s2 := 1) 0 0 1 (by decide) (by omega) (by omega)
      have u251a := ca_x (M := M0) (N := M246) (r := 0) (e := 0) (s := 1) (by decide) (by omega) (by omega)
      have u251l := ri_l (M := M246) (by omega)
      refine j_aload_n C 0 0 dX12_readUnit_18 rfl rfl ?_
      refine j_iload_n C 1 1 dX12_readUnit_19 rfl rfl ?_
      refine y_iconst C dX12_readUnit_20 ?_
      refine y_iadd C dX12_readUnit_21 ?_
      refine j_callVv C (d := 10) (As := [.int (sI (5 + 1))]) (st := []) 98 (s_lt rfl rfl) (s_kc (c := 11) rfl rfl) (by decide) rfl (s1_X12_readUnit hM246 hpr gf gn (nxF gf gn gi) (by omega) (by omega) (by omega) (by omega) (by omega)) gX12_readUnit_X12_readUnit rfl hdX12_readUnit (by decide) (Nat.le_of_ble_eq_true rfl) dX12_readUnit_22 rfl (fun M253 h254 => ?_)
      obtain ⟨hM253, fM253, h255⟩ := h254
      have bM253 := tkm_b (f := gf) (n := gn) (M := M253) (by omega)
      have qM253 := po_rr (unR gf gn 0) gn (nxF gf gn gi) (M246.1 98 11).toInt (M246.1 98 12).toInt (M246.1 98 6).toInt (M253.1 98 11).toInt (M253.1 98 12).toInt (M253.1 98 6).toInt (unR_g gf gn 0) (by omega) (by omega)
      have u256t := xw_t (M := M0) (N := M246) (P := M253) (r1 := 0) (e1 := 0) (s1 := 1) (r2 := 0) (e2 := 1) (s2 := 0) 0 1 1 (by decide) (by omega) (by omega)
      have u256l := ri_l (M := M253) (by omega)
      have u256b := cb_x (M := M0) (N := M253) (r := 0) (e := 1) (s := 1) (by decide) (by omega) (by omega) (by omega)
      refine j_aload_n C 0 0 dX12_readUnit_25 rfl rfl ?_
      refine y_sipush C dX12_readUnit_26 rfl ?_
      refine j_callVv C (d := 0) (As := [.int (sI 3006)]) (st := []) 98 (s_lt rfl rfl) (s_kc (c := 11) rfl rfl) (by decide) rfl (s1_X12_codes hM253 hpr 3006 (by omega) gf gn ((unR gf gn 0) (nxF gf gn gi)).2.2 (by omega) (by omega) (by omega) (by omega)) gX12_readUnit_X12_codes rfl hdX12_codes (by decide) (Nat.le_of_ble_eq_true rfl) dX12_readUnit_29 rfl (fun M258 h259 => ?_)
      obtain ⟨hM258, fM258, h260⟩ := h259
      have k261 := tk_c gf gn (M258.1 98 6).toInt (M253.1 98 6).toInt
      have bM258 := tkm_b (f := gf) (n := gn) (M := M258) (by omega)
      have qM258 := po_eq gn ((unR gf gn 0) (nxF gf gn gi)).2.2 (M253.1 98 11).toInt (M253.1 98 6).toInt (M258.1 98 11).toInt (M258.1 98 6).toInt (by omega) (by omega) (by omega)
      have u262x := xw_a (M := M253) (N := M258) (c := 3006) (r := 1) (e := 0) (FR.cell fM258 (by decide)) (ap_not (INV.rd hM253 (i := 102) (c := 48) (k := 280) rfl rfl).1) (by omega)
      have u262t := xw_t (M := M0) (N := M253) (P := M258) (r1 := 0) (e1 := 1) (s1 := 1) (r2 := 1) (e2 := 0) (s2 := (-1)) 0 1 0 (by decide) (by omega) (by omega)
      have u262i := ri_c (M := M253) (N := M258) (FR.cell fM258 (by decide)) (by omega)
      have u262l := ri_l (M := M258) (by omega)
      have u262a := ca_x (M := M0) (N := M258) (r := 0) (e := 1) (s := 0) (by decide) (by omega) (by omega)
      have u263r := un_1 gf gn 0 1 rfl gi (M0.1 98 11).toInt (M0.1 98 12).toInt (M0.1 98 6).toInt (M246.1 98 11).toInt (M246.1 98 12).toInt (M253.1 98 11).toInt (M253.1 98 12).toInt (M253.1 98 6).toInt (M258.1 98 11).toInt (M258.1 98 12).toInt (M258.1 98 6).toInt (by omega) (by omega) (by omega) (by omega) (by omega) (by omega) (by omega) (by omega)
      have u263l : b01 (CL AGR (M258.1 98 11).toInt M0 M258 ((uLR gf gn 1) gi)) = 1 := cl_e (cl_t (cl_t (cl_r (A := AGR) (M := M0) (N := M246) (M246.1 98 11).toInt (agr_c (FR.cell fM246 (by decide)))) (show b01 (CL AGR (M253.1 98 11).toInt M246 M253 ((uLR gf gn 0) (nxF gf gn gi))) = 1 by omega) (fun z => rr_z (show b01 (RR ((unR gf gn 0) (nxF gf gn gi)) (M246.1 98 11).toInt (M246.1 98 12).toInt (M253.1 98 11).toInt (M253.1 98 12).toInt (M253.1 98 6).toInt) = 1 by omega) z)) (show b01 (CL AGR (M258.1 98 11).toInt M253 M258 [3006]) = 1 by omega) (fun z => by omega)) (fun z => by rw [un_l1 gf gn 0 1 rfl (show b01 (PO gn gi (M0.1 98 11).toInt (M0.1 98 6).toInt) = 1 by omega) (by omega) (by omega), cm_tab.2.2.2.2.2.2.1, List.nil_append])
      have zz98_11 : (M258.1 98 11).toInt = (M253.1 98 11).toInt := s_fF fM258 (by decide) (rfl); have zz98_12 : (M258.1 98 12).toInt = (M253.1 98 12).toInt := s_fF fM258 (by decide) (rfl); have zz98_6 : (M258.1 98 6).toInt = (M253.1 98 6).toInt := s_fF fM258 (by decide) (rfl); have zz98_8 : (M258.1 98 8).toInt = (M253.1 98 8).toInt := s_fF fM258 (by decide) (rfl); exact hret _ _ _ dX12_readUnit_32 ⟨hM258, (((FR.rf.tr fM246 (by decide)).tr fM253 (by decide)).tr fM258 (by decide)), by omega⟩
    · exfalso; omega
set_option maxHeartbeats 4000000 in
theorem s2_X12_readBoth {l : Launch} {dC : Nat → ClassId} {dI : Nat → Nat → Nat} {ad : Nat → Nat} {cA : Nat → ClassId} {pr : Nat → Nat → Bool} {Kz : mm_M} {M0 : mm_M} (hM0 : INV pr Kz M0) (hpr : PM pr) (gf : Nat → Int) (gn : Int) (gi : Int) (hp0 : b01 (RIP M0) = 1) (hp1 : b01 (CA M0) = 1) (hp2 : b01 (TKM gf gn M0) = 1) (hp3 : b01 (PO gn gi (M0.1 98 11).toInt (M0.1 98 6).toInt) = 1) (hp4 : b01 (PI M0) = 1) : Cv l 14 yX12_readBoth wsX12_readBoth dC dI ad cA [.ref (ad 98), .int (sI 5)] M0 (fun M' => INV pr Kz M' ∧ FR [98, 102] M0 M' ∧ (b01 (RIP M') = 1) ∧ ((M'.1 98 8).toInt = (M0.1 98 8).toInt) ∧ ((M0.1 98 6).toInt ≤ (M'.1 98 6).toInt) ∧ (b01 (XW M0 M' 0 1 0) = 1) ∧ (b01 (CA M') = 1) ∧ (b01 (CL AGR (M'.1 98 11).toInt M0 M' ((boL gf gn (unR gf gn 1) (uLR gf gn 1)) gi)) = 1) ∧ (b01 (PI M') = 1) ∧ (b01 (TKM gf gn M') = 1) ∧ b01 (RR ((boP gf gn (unR gf gn 1)) gi) (M0.1 98 11).toInt (M0.1 98 12).toInt (M'.1 98 11).toInt (M'.1 98 12).toInt (M'.1 98 6).toInt) = 1) := by
  refine cv_of (cc := cX12_readBoth) (maxL := 2) (lv := [(0, .ref (ad 98)), (1, .int (sI 5))]) (by decide) rfl (Nat.le_of_ble_eq_true rfl) rfl ?_
  intro p e s m args below meth c A Q C hret
  have u101z := xw_0 M0
  have u101l := ri_l (M := M0) (by omega)
  refine j_aload_n C 0 0 dX12_readBoth_0 rfl rfl ?_
  refine j_iload_n C 1 1 dX12_readBoth_1 rfl rfl ?_
  refine j_callVv C (d := 13) (As := [.int (sI 5)]) (st := []) 98 (s_lt rfl rfl) (s_kc (c := 11) rfl rfl) (by decide) rfl (s2_X12_readUnit hM0 hpr gf gn gi (by omega) (by omega) (by omega) (by omega) (by omega)) gX12_readBoth_X12_readUnit rfl hdX12_readUnit (by decide) (Nat.le_of_ble_eq_true rfl) dX12_readBoth_2 rfl (fun M103 h104 => ?_)
  obtain ⟨hM103, fM103, h105⟩ := h104
  have bM103 := tkm_b (f := gf) (n := gn) (M := M103) (by omega)
  have qM103 := po_rr (unR gf gn 1) gn gi (M0.1 98 11).toInt (M0.1 98 12).toInt (M0.1 98 6).toInt (M103.1 98 11).toInt (M103.1 98 12).toInt (M103.1 98 6).toInt (unR_g gf gn 1) (by omega) (by omega)
  have u106l := ri_l (M := M103) (by omega)
  have u106L := ll_0 (luP gf gn 1015 1015 (unR gf gn 1)) gn ((unR gf gn 1) gi).2.2 (M103.1 98 11).toInt (M103.1 98 12).toInt (M103.1 98 6).toInt (by omega)
  have u106c := lc_0 (A := AGR) (M103.1 98 11).toInt (luL gf gn 1015 1015 (unR gf gn 1) (uLR gf gn 1)) ((unR gf gn 1) gi).2.2 M103
  have L133 : ∀ (n131 : Nat), ∀ (M134 : mm_M) (gq135 : Int), ((b01 (RIP M134) = 1) ∧ ((M134.1 98 8).toInt = (M0.1 98 8).toInt) ∧ ((M0.1 98 6).toInt ≤ (M134.1 98 6).toInt) ∧ (b01 (XW M0 M134 0 1 0) = 1) ∧ ((M134.1 98 6).toInt ≤ 900) ∧ (b01 (LL (luP gf gn 1015 1015 (unR gf gn 1)) gn ((unR gf gn 1) gi).2.2 gq135 0 (M103.1 98 11).toInt (M103.1 98 12).toInt (M134.1 98 11).toInt (M134.1 98 12).toInt (M134.1 98 6).toInt) = 1) ∧ (b01 (LC AGR (M134.1 98 11).toInt (luL gf gn 1015 1015 (unR gf gn 1) (uLR gf gn 1)) ((unR gf gn 1) gi).2.2 gq135 M103 M134) = 1) ∧ (b01 (TKM gf gn M134) = 1) ∧ (b01 (PO gn gq135 (M134.1 98 11).toInt (M134.1 98 6).toInt) = 1) ∧ (b01 (PI M134) = 1) ∧ (900 - (M134.1 98 6).toInt) < (n131 : Int)) → INV pr Kz M134 → FR [98, 102] M0 M134 → jj p l e (cn_R 14) s m args below meth c 0 0 Q 2 dC dI ad cA A M134 5 [(0, .ref (ad 98)), (1, .int (sI 5))] [] := by
    intro n131
    induction n131 with
    | zero =>
      intro M134 gq135 h136 hM134 fM134
      exfalso; omega
    | succ n131 ih132 =>
      intro M134 gq135 h136 hM134 fM134
      have u137l := ri_l (M := M134) (by omega)
      have u137B := tkm_b (f := gf) (n := gn) (M := M134) (by omega)
      refine j_aload_n C 0 0 dX12_readBoth_5 rfl rfl ?_
      refine y_bipush C dX12_readBoth_6 rfl ?_
      have k138 := tkm_K (f := gf) (n := gn) (M := M134) (by omega)
      have k139 := kd_2 (kdk_14 gf gn (M134.1 98 6).toInt) (by omega)
      refine j_callVi C (d := 6) (As := [.int (sI 14)]) (st := []) 98 (s_lt rfl rfl) (s_kc (c := 11) rfl rfl) (by decide) rfl (s1_X12_eats hM134 hpr 14 (by omega) gf gn gq135 (by omega) (by omega) (by omega) (by omega) (by omega)) gX12_readBoth_X12_eats rfl hdX12_eats (by decide) (Nat.le_of_ble_eq_true rfl) dX12_readBoth_8 rfl (fun r140 M141 h142 => ?_)
      obtain ⟨a144, rfl, hM141, fM141, h143⟩ := h142
      have k145 := tk_c gf gn (M141.1 98 6).toInt (M134.1 98 6).toInt
      have bM141 := tkm_b (f := gf) (n := gn) (M := M141) (by omega)
      refine y_if_eq C 29 dX12_readBoth_11 (by decide) (by omega) (fun h146 => ?_) (fun h146 => ?_)
      · have u159c := xw_c (N := M134) (P := M141) 0 (FR.cell fM141 (by decide)) (by omega)
        have u159t := xw_t (M := M0) (N := M134) (P := M141) (r1 := 0) (e1 := 1) (s1 := 0) (r2 := 0) (e2 := 0) (s2 := 0) 0 1 0 (by decide) (by omega) (by omega)
        have u159a := ca_x (M := M0) (N := M141) (r := 0) (e := 1) (s := 0) (by decide) (by omega) (by omega)
        have u159E := ll_e gf gn 1015 1015 (unR gf gn 1) ((unR gf gn 1) gi).2.2 gq135 0 (M103.1 98 11).toInt (M103.1 98 12).toInt (M134.1 98 11).toInt (M134.1 98 12).toInt (M134.1 98 6).toInt (by decide) (unR_g gf gn 1) (by omega) (by omega)
        have u159S : b01 (RR ((boP gf gn (unR gf gn 1)) gi) (M0.1 98 11).toInt (M0.1 98 12).toInt (M134.1 98 11).toInt (M134.1 98 12).toInt (M134.1 98 6).toInt) = 1 := rr_sq ((unR gf gn 1) gi) (luP gf gn 1015 1015 (unR gf gn 1)) (M0.1 98 11).toInt (M0.1 98 12).toInt (M103.1 98 11).toInt (M103.1 98 12).toInt (M103.1 98 6).toInt (M134.1 98 11).toInt (M134.1 98 12).toInt (M134.1 98 6).toInt (by omega) (by omega)
        have u159R := rr_eq ((boP gf gn (unR gf gn 1)) gi) (M0.1 98 11).toInt (M0.1 98 12).toInt (M134.1 98 11).toInt (M134.1 98 12).toInt (M134.1 98 6).toInt (M141.1 98 11).toInt (M141.1 98 12).toInt (M141.1 98 6).toInt (by omega) (by omega) (by omega) (by omega)
        have u159x := lc_e gf gn 1015 1015 (unR gf gn 1) ((uLR gf gn 1)) (by decide) (show b01 (LC AGR (M134.1 98 11).toInt (luL gf gn 1015 1015 (unR gf gn 1) (uLR gf gn 1)) ((unR gf gn 1) gi).2.2 gq135 M103 M134) = 1 by omega) (show b01 (LL (luP gf gn 1015 1015 (unR gf gn 1)) gn ((unR gf gn 1) gi).2.2 gq135 0 (M103.1 98 11).toInt (M103.1 98 12).toInt (M134.1 98 11).toInt (M134.1 98 12).toInt (M134.1 98 6).toInt) = 1 by omega) (by omega)
        have u159y : b01 (CL AGR (M134.1 98 11).toInt M0 M134 ((boL gf gn (unR gf gn 1) (uLR gf gn 1)) gi)) = 1 := cl_e (cl_t (show b01 (CL AGR (M103.1 98 11).toInt M0 M103 ((uLR gf gn 1) gi)) = 1 by omega) u159x (fun z => rr_z (show b01 (RR ((luP gf gn 1015 1015 (unR gf gn 1)) ((unR gf gn 1) gi).2.2) (M103.1 98 11).toInt (M103.1 98 12).toInt (M134.1 98 11).toInt (M134.1 98 12).toInt (M134.1 98 6).toInt) = 1 by omega) z)) (fun z => rfl)
        have u159l : b01 (CL AGR (M141.1 98 11).toInt M0 M141 ((boL gf gn (unR gf gn 1) (uLR gf gn 1)) gi)) = 1 := cl_e (cl_t u159y (cl_r (A := AGR) (M := M134) (N := M141) (M141.1 98 11).toInt (agr_c (FR.cell fM141 (by decide)))) (fun z => by omega)) (fun z => (List.append_nil _).symm)
        exact hret _ _ _ dX12_readBoth_29 ⟨hM141, ((FR.rf.tr fM134 (by decide)).tr fM141 (by decide)), by omega⟩
      · have u147c := xw_c (N := M134) (P := M141) 1 (FR.cell fM141 (by decide)) (by omega)
        have u147t := xw_t (M := M0) (N := M134) (P := M141) (r1 := 0) (e1 := 1) (s1 := 0) (r2 := 0) (e2 := 0) (s2 := 1) 0 1 1 (by decide) (by omega) (by omega)
        have u147a := ca_x (M := M0) (N := M141) (r := 0) (e := 1) (s := 1) (by decide) (by omega) (by omega)
        have u147l := ri_l (M := M141) (by omega)
        refine j_aload_n C 0 0 dX12_readBoth_14 rfl rfl ?_
        refine j_iload_n C 1 1 dX12_readBoth_15 rfl rfl ?_
        refine j_callVv C (d := 13) (As := [.int (sI 5)]) (st := []) 98 (s_lt rfl rfl) (s_kc (c := 11) rfl rfl) (by decide) rfl (s2_X12_readUnit hM141 hpr gf gn (nxF gf gn gq135) (by omega) (by omega) (by omega) (by omega) (by omega)) gX12_readBoth_X12_readUnit rfl hdX12_readUnit (by decide) (Nat.le_of_ble_eq_true rfl) dX12_readBoth_16 rfl (fun M149 h150 => ?_)
        obtain ⟨hM149, fM149, h151⟩ := h150
        have bM149 := tkm_b (f := gf) (n := gn) (M := M149) (by omega)
        have qM149 := po_rr (unR gf gn 1) gn (nxF gf gn gq135) (M141.1 98 11).toInt (M141.1 98 12).toInt (M141.1 98 6).toInt (M149.1 98 11).toInt (M149.1 98 12).toInt (M149.1 98 6).toInt (unR_g gf gn 1) (by omega) (by omega)
        have u152t := xw_t (M := M0) (N := M141) (P := M149) (r1 := 0) (e1 := 1) (s1 := 1) (r2 := 0) (e2 := 1) (s2 := 0) 0 2 1 (by decide) (by omega) (by omega)
        have u152l := ri_l (M := M149) (by omega)
        have u152b := cb_x (M := M0) (N := M149) (r := 0) (e := 2) (s := 1) (by decide) (by omega) (by omega) (by omega)
        refine j_aload_n C 0 0 dX12_readBoth_19 rfl rfl ?_
        refine y_sipush C dX12_readBoth_20 rfl ?_
        refine j_callVv C (d := 0) (As := [.int (sI 3007)]) (st := []) 98 (s_lt rfl rfl) (s_kc (c := 11) rfl rfl) (by decide) rfl (s1_X12_codes hM149 hpr 3007 (by omega) gf gn ((unR gf gn 1) (nxF gf gn gq135)).2.2 (by omega) (by omega) (by omega) (by omega)) gX12_readBoth_X12_codes rfl hdX12_codes (by decide) (Nat.le_of_ble_eq_true rfl) dX12_readBoth_23 rfl (fun M154 h155 => ?_)
        obtain ⟨hM154, fM154, h156⟩ := h155
        have k157 := tk_c gf gn (M154.1 98 6).toInt (M149.1 98 6).toInt
        have bM154 := tkm_b (f := gf) (n := gn) (M := M154) (by omega)
        have qM154 := po_eq gn ((unR gf gn 1) (nxF gf gn gq135)).2.2 (M149.1 98 11).toInt (M149.1 98 6).toInt (M154.1 98 11).toInt (M154.1 98 6).toInt (by omega) (by omega) (by omega)
        refine j_goto C 5 dX12_readBoth_26 (by decide) ?_
        have u158x := xw_a (M := M149) (N := M154) (c := 3007) (r := 2) (e := (-1)) (FR.cell fM154 (by decide)) (ap_bin ⟨(INV.rd hM149 (i := 102) (c := 48) (k := 280) rfl rfl).1, by omega, by omega⟩) (by omega)
        have u158t := xw_t (M := M0) (N := M149) (P := M154) (r1 := 0) (e1 := 2) (s1 := 1) (r2 := 2) (e2 := (-1)) (s2 := (-1)) 0 1 0 (by decide) (by omega) (by omega)
        have u158i := ri_c (M := M149) (N := M154) (FR.cell fM154 (by decide)) (by omega)
        have u158l := ri_l (M := M154) (by omega)
        have u158L := ll_w (luP gf gn 1015 1015 (unR gf gn 1)) gn ((unR gf gn 1) gi).2.2 ((unR gf gn 1) (nxF gf gn gq135)).2.2 (0 + 1) 0 (M103.1 98 11).toInt (M103.1 98 12).toInt (M154.1 98 11).toInt (M154.1 98 12).toInt (M154.1 98 6).toInt (by decide) (ll_s gf gn 1015 1015 (unR gf gn 1) ((unR gf gn 1) gi).2.2 gq135 0 (M103.1 98 11).toInt (M103.1 98 12).toInt (M134.1 98 11).toInt (M134.1 98 12).toInt (M134.1 98 6).toInt (M141.1 98 11).toInt (M141.1 98 12).toInt (M149.1 98 11).toInt (M149.1 98 12).toInt (M149.1 98 6).toInt (M154.1 98 11).toInt (M154.1 98 12).toInt (M154.1 98 6).toInt (by decide) (unR_g gf gn 1) (by omega) (by omega) (by omega) (by omega) (by omega) (by omega) (by omega) (by omega) (by omega))
        have u158c := lc_s gf gn 1015 1015 (unR gf gn 1) (uLR gf gn 1) (by decide) (unR_g gf gn 1) (show b01 (LC AGR (M134.1 98 11).toInt (luL gf gn 1015 1015 (unR gf gn 1) (uLR gf gn 1)) ((unR gf gn 1) gi).2.2 gq135 M103 M134) = 1 by omega) (show b01 (PO gn gq135 (M134.1 98 11).toInt (M134.1 98 6).toInt) = 1 by omega) (by omega) (show b01 (RR ((unR gf gn 1) (nxF gf gn gq135)) (M141.1 98 11).toInt (M141.1 98 12).toInt (M149.1 98 11).toInt (M149.1 98 12).toInt (M149.1 98 6).toInt) = 1 by omega) (fun z => by omega) (cl_e (L := ([] ++ ((uLR gf gn 1) (nxF gf gn gq135))) ++ [3007]) (cl_t (cl_t (cl_r (A := AGR) (M := M134) (N := M141) (M141.1 98 11).toInt (agr_c (FR.cell fM141 (by decide)))) (show b01 (CL AGR (M149.1 98 11).toInt M141 M149 ((uLR gf gn 1) (nxF gf gn gq135))) = 1 by omega) (fun z => rr_z (show b01 (RR ((unR gf gn 1) (nxF gf gn gq135)) (M141.1 98 11).toInt (M141.1 98 12).toInt (M149.1 98 11).toInt (M149.1 98 12).toInt (M149.1 98 6).toInt) = 1 by omega) z)) (show b01 (CL AGR (M154.1 98 11).toInt M149 M154 [3007]) = 1 by omega) (fun z => by omega)) (fun z => by rw [show tkF gf gn (M134.1 98 6).toInt = 1015 by omega, cm_tab.2.2.2.2.2.2.2.1, List.nil_append]) : b01 (CL AGR (M154.1 98 11).toInt M134 M154 (((uLR gf gn 1) (nxF gf gn gq135)) ++ [cmF (tkF gf gn (M134.1 98 6).toInt)])) = 1) (fun z => by omega)
        have zz98_8 : (M154.1 98 8).toInt = (M149.1 98 8).toInt := s_fF fM154 (by decide) (rfl); have zz98_6 : (M154.1 98 6).toInt = (M149.1 98 6).toInt := s_fF fM154 (by decide) (rfl); have zz98_12 : (M154.1 98 12).toInt = (M149.1 98 12).toInt := s_fF fM154 (by decide) (rfl); have zz98_11 : (M154.1 98 11).toInt = (M149.1 98 11).toInt := s_fF fM154 (by decide) (rfl); exact ih132 M154 ((unR gf gn 1) (nxF gf gn gq135)).2.2 (by (clear zz98_11 zz98_12 zz98_6 zz98_8 u158l u158x k157 fM154 hM154 u152b u152l u152t qM149 fM149 hM149 u147l u147a u147t u147c bM141 k145 fM141 hM141 k139 k138 u137B u137l fM134 hM134 ih132 u106c u106L u106l qM103 bM103 h105 fM103 hM103 u101l u101z hret C hp4 hp3 hp2 hp1 hp0 hpr hM0; omega)) hM154 ((((FR.rf.tr fM134 (by decide)).tr fM141 (by decide)).tr fM149 (by decide)).tr fM154 (by decide))
  exact L133 2010 M103 ((unR gf gn 1) gi).2.2 (by omega) hM103 (FR.rf.tr fM103 (by decide))
set_option maxHeartbeats 4000000 in
theorem s2_X12_readTruth {l : Launch} {dC : Nat → ClassId} {dI : Nat → Nat → Nat} {ad : Nat → Nat} {cA : Nat → ClassId} {pr : Nat → Nat → Bool} {Kz : mm_M} {M0 : mm_M} (hM0 : INV pr Kz M0) (hpr : PM pr) (gf : Nat → Int) (gn : Int) (gi : Int) (hp0 : b01 (RIP M0) = 1) (hp1 : b01 (CA M0) = 1) (hp2 : b01 (TKM gf gn M0) = 1) (hp3 : b01 (PO gn gi (M0.1 98 11).toInt (M0.1 98 6).toInt) = 1) (hp4 : b01 (PI M0) = 1) : Cv l 15 yX12_readTruth wsX12_readTruth dC dI ad cA [.ref (ad 98), .int (sI 5)] M0 (fun M' => INV pr Kz M' ∧ FR [98, 102] M0 M' ∧ (b01 (RIP M') = 1) ∧ ((M'.1 98 8).toInt = (M0.1 98 8).toInt) ∧ ((M0.1 98 6).toInt ≤ (M'.1 98 6).toInt) ∧ (b01 (XW M0 M' 0 1 0) = 1) ∧ (b01 (CA M') = 1) ∧ (b01 (CL AGR (M'.1 98 11).toInt M0 M' ((trL gf gn (unR gf gn 1) (uLR gf gn 1)) gi)) = 1) ∧ (b01 (PI M') = 1) ∧ (b01 (TKM gf gn M') = 1) ∧ b01 (RR ((trP gf gn (unR gf gn 1)) gi) (M0.1 98 11).toInt (M0.1 98 12).toInt (M'.1 98 11).toInt (M'.1 98 12).toInt (M'.1 98 6).toInt) = 1) := by
  refine cv_of (cc := cX12_readTruth) (maxL := 2) (lv := [(0, .ref (ad 98)), (1, .int (sI 5))]) (by decide) rfl (Nat.le_of_ble_eq_true rfl) rfl ?_
  intro p e s m args below meth c A Q C hret
  have u101z := xw_0 M0
  have u101l := ri_l (M := M0) (by omega)
  refine j_aload_n C 0 0 dX12_readTruth_0 rfl rfl ?_
  refine j_iload_n C 1 1 dX12_readTruth_1 rfl rfl ?_
  refine j_callVv C (d := 14) (As := [.int (sI 5)]) (st := []) 98 (s_lt rfl rfl) (s_kc (c := 11) rfl rfl) (by decide) rfl (s2_X12_readBoth hM0 hpr gf gn gi (by omega) (by omega) (by omega) (by omega) (by omega)) gX12_readTruth_X12_readBoth rfl hdX12_readBoth (by decide) (Nat.le_of_ble_eq_true rfl) dX12_readTruth_2 rfl (fun M103 h104 => ?_)
  obtain ⟨hM103, fM103, h105⟩ := h104
  have bM103 := tkm_b (f := gf) (n := gn) (M := M103) (by omega)
  have qM103 := po_rr (boP gf gn (unR gf gn 1)) gn gi (M0.1 98 11).toInt (M0.1 98 12).toInt (M0.1 98 6).toInt (M103.1 98 11).toInt (M103.1 98 12).toInt (M103.1 98 6).toInt (bo_g gf gn (unR_g gf gn 1)) (by omega) (by omega)
  have u106l := ri_l (M := M103) (by omega)
  have u106L := ll_0 (luP gf gn 1014 1014 (boP gf gn (unR gf gn 1))) gn ((boP gf gn (unR gf gn 1)) gi).2.2 (M103.1 98 11).toInt (M103.1 98 12).toInt (M103.1 98 6).toInt (by omega)
  have u106c := lc_0 (A := AGR) (M103.1 98 11).toInt (luL gf gn 1014 1014 (boP gf gn (unR gf gn 1)) (boL gf gn (unR gf gn 1) (uLR gf gn 1))) ((boP gf gn (unR gf gn 1)) gi).2.2 M103
  have L133 : ∀ (n131 : Nat), ∀ (M134 : mm_M) (gq135 : Int), ((b01 (RIP M134) = 1) ∧ ((M134.1 98 8).toInt = (M0.1 98 8).toInt) ∧ ((M0.1 98 6).toInt ≤ (M134.1 98 6).toInt) ∧ (b01 (XW M0 M134 0 1 0) = 1) ∧ ((M134.1 98 6).toInt ≤ 900) ∧ (b01 (LL (luP gf gn 1014 1014 (boP gf gn (unR gf gn 1))) gn ((boP gf gn (unR gf gn 1)) gi).2.2 gq135 0 (M103.1 98 11).toInt (M103.1 98 12).toInt (M134.1 98 11).toInt (M134.1 98 12).toInt (M134.1 98 6).toInt) = 1) ∧ (b01 (LC AGR (M134.1 98 11).toInt (luL gf gn 1014 1014 (boP gf gn (unR gf gn 1)) (boL gf gn (unR gf gn 1) (uLR gf gn 1))) ((boP gf gn (unR gf gn 1)) gi).2.2 gq135 M103 M134) = 1) ∧ (b01 (TKM gf gn M134) = 1) ∧ (b01 (PO gn gq135 (M134.1 98 11).toInt (M134.1 98 6).toInt) = 1) ∧ (b01 (PI M134) = 1) ∧ (900 - (M134.1 98 6).toInt) < (n131 : Int)) → INV pr Kz M134 → FR [98, 102] M0 M134 → jj p l e (cn_R 15) s m args below meth c 0 0 Q 2 dC dI ad cA A M134 5 [(0, .ref (ad 98)), (1, .int (sI 5))] [] := by
    intro n131
    induction n131 with
    | zero =>
      intro M134 gq135 h136 hM134 fM134
      exfalso; omega
    | succ n131 ih132 =>
      intro M134 gq135 h136 hM134 fM134
      have u137l := ri_l (M := M134) (by omega)
      have u137B := tkm_b (f := gf) (n := gn) (M := M134) (by omega)
      refine j_aload_n C 0 0 dX12_readTruth_5 rfl rfl ?_
      refine y_bipush C dX12_readTruth_6 rfl ?_
      have k138 := tkm_K (f := gf) (n := gn) (M := M134) (by omega)
      have k139 := kd_2 (kdk_15 gf gn (M134.1 98 6).toInt) (by omega)
      refine j_callVi C (d := 6) (As := [.int (sI 15)]) (st := []) 98 (s_lt rfl rfl) (s_kc (c := 11) rfl rfl) (by decide) rfl (s1_X12_eats hM134 hpr 15 (by omega) gf gn gq135 (by omega) (by omega) (by omega) (by omega) (by omega)) gX12_readTruth_X12_eats rfl hdX12_eats (by decide) (Nat.le_of_ble_eq_true rfl) dX12_readTruth_8 rfl (fun r140 M141 h142 => ?_)
      obtain ⟨a144, rfl, hM141, fM141, h143⟩ := h142
      have k145 := tk_c gf gn (M141.1 98 6).toInt (M134.1 98 6).toInt
      have bM141 := tkm_b (f := gf) (n := gn) (M := M141) (by omega)
      refine y_if_eq C 29 dX12_readTruth_11 (by decide) (by omega) (fun h146 => ?_) (fun h146 => ?_)
      · have u159c := xw_c (N := M134) (P := M141) 0 (FR.cell fM141 (by decide)) (by omega)
        have u159t := xw_t (M := M0) (N := M134) (P := M141) (r1 := 0) (e1 := 1) (s1 := 0) (r2 := 0) (e2 := 0) (s2 := 0) 0 1 0 (by decide) (by omega) (by omega)
        have u159a := ca_x (M := M0) (N := M141) (r := 0) (e := 1) (s := 0) (by decide) (by omega) (by omega)
        have u159E := ll_e gf gn 1014 1014 (boP gf gn (unR gf gn 1)) ((boP gf gn (unR gf gn 1)) gi).2.2 gq135 0 (M103.1 98 11).toInt (M103.1 98 12).toInt (M134.1 98 11).toInt (M134.1 98 12).toInt (M134.1 98 6).toInt (by decide) (bo_g gf gn (unR_g gf gn 1)) (by omega) (by omega)
        have u159S : b01 (RR ((trP gf gn (unR gf gn 1)) gi) (M0.1 98 11).toInt (M0.1 98 12).toInt (M134.1 98 11).toInt (M134.1 98 12).toInt (M134.1 98 6).toInt) = 1 := rr_sq ((boP gf gn (unR gf gn 1)) gi) (luP gf gn 1014 1014 (boP gf gn (unR gf gn 1))) (M0.1 98 11).toInt (M0.1 98 12).toInt (M103.1 98 11).toInt (M103.1 98 12).toInt (M103.1 98 6).toInt (M134.1 98 11).toInt (M134.1 98 12).toInt (M134.1 98 6).toInt (by omega) (by omega)
        have u159R := rr_eq ((trP gf gn (unR gf gn 1)) gi) (M0.1 98 11).toInt (M0.1 98 12).toInt (M134.1 98 11).toInt (M134.1 98 12).toInt (M134.1 98 6).toInt (M141.1 98 11).toInt (M141.1 98 12).toInt (M141.1 98 6).toInt (by omega) (by omega) (by omega) (by omega)
        have u159x := lc_e gf gn 1014 1014 (boP gf gn (unR gf gn 1)) ((boL gf gn (unR gf gn 1) (uLR gf gn 1))) (by decide) (show b01 (LC AGR (M134.1 98 11).toInt (luL gf gn 1014 1014 (boP gf gn (unR gf gn 1)) (boL gf gn (unR gf gn 1) (uLR gf gn 1))) ((boP gf gn (unR gf gn 1)) gi).2.2 gq135 M103 M134) = 1 by omega) (show b01 (LL (luP gf gn 1014 1014 (boP gf gn (unR gf gn 1))) gn ((boP gf gn (unR gf gn 1)) gi).2.2 gq135 0 (M103.1 98 11).toInt (M103.1 98 12).toInt (M134.1 98 11).toInt (M134.1 98 12).toInt (M134.1 98 6).toInt) = 1 by omega) (by omega)
        have u159y : b01 (CL AGR (M134.1 98 11).toInt M0 M134 ((trL gf gn (unR gf gn 1) (uLR gf gn 1)) gi)) = 1 := cl_e (cl_t (show b01 (CL AGR (M103.1 98 11).toInt M0 M103 ((boL gf gn (unR gf gn 1) (uLR gf gn 1)) gi)) = 1 by omega) u159x (fun z => rr_z (show b01 (RR ((luP gf gn 1014 1014 (boP gf gn (unR gf gn 1))) ((boP gf gn (unR gf gn 1)) gi).2.2) (M103.1 98 11).toInt (M103.1 98 12).toInt (M134.1 98 11).toInt (M134.1 98 12).toInt (M134.1 98 6).toInt) = 1 by omega) z)) (fun z => rfl)
        have u159l : b01 (CL AGR (M141.1 98 11).toInt M0 M141 ((trL gf gn (unR gf gn 1) (uLR gf gn 1)) gi)) = 1 := cl_e (cl_t u159y (cl_r (A := AGR) (M := M134) (N := M141) (M141.1 98 11).toInt (agr_c (FR.cell fM141 (by decide)))) (fun z => by omega)) (fun z => (List.append_nil _).symm)
        exact hret _ _ _ dX12_readTruth_29 ⟨hM141, ((FR.rf.tr fM134 (by decide)).tr fM141 (by decide)), by omega⟩
      · have u147c := xw_c (N := M134) (P := M141) 1 (FR.cell fM141 (by decide)) (by omega)
        have u147t := xw_t (M := M0) (N := M134) (P := M141) (r1 := 0) (e1 := 1) (s1 := 0) (r2 := 0) (e2 := 0) (s2 := 1) 0 1 1 (by decide) (by omega) (by omega)
        have u147a := ca_x (M := M0) (N := M141) (r := 0) (e := 1) (s := 1) (by decide) (by omega) (by omega)
        have u147l := ri_l (M := M141) (by omega)
        refine j_aload_n C 0 0 dX12_readTruth_14 rfl rfl ?_
        refine j_iload_n C 1 1 dX12_readTruth_15 rfl rfl ?_
        refine j_callVv C (d := 14) (As := [.int (sI 5)]) (st := []) 98 (s_lt rfl rfl) (s_kc (c := 11) rfl rfl) (by decide) rfl (s2_X12_readBoth hM141 hpr gf gn (nxF gf gn gq135) (by omega) (by omega) (by omega) (by omega) (by omega)) gX12_readTruth_X12_readBoth rfl hdX12_readBoth (by decide) (Nat.le_of_ble_eq_true rfl) dX12_readTruth_16 rfl (fun M149 h150 => ?_)
        obtain ⟨hM149, fM149, h151⟩ := h150
        have bM149 := tkm_b (f := gf) (n := gn) (M := M149) (by omega)
        have qM149 := po_rr (boP gf gn (unR gf gn 1)) gn (nxF gf gn gq135) (M141.1 98 11).toInt (M141.1 98 12).toInt (M141.1 98 6).toInt (M149.1 98 11).toInt (M149.1 98 12).toInt (M149.1 98 6).toInt (bo_g gf gn (unR_g gf gn 1)) (by omega) (by omega)
        have u152t := xw_t (M := M0) (N := M141) (P := M149) (r1 := 0) (e1 := 1) (s1 := 1) (r2 := 0) (e2 := 1) (s2 := 0) 0 2 1 (by decide) (by omega) (by omega)
        have u152l := ri_l (M := M149) (by omega)
        have u152b := cb_x (M := M0) (N := M149) (r := 0) (e := 2) (s := 1) (by decide) (by omega) (by omega) (by omega)
        refine j_aload_n C 0 0 dX12_readTruth_19 rfl rfl ?_
        refine y_sipush C dX12_readTruth_20 rfl ?_
        refine j_callVv C (d := 0) (As := [.int (sI 3008)]) (st := []) 98 (s_lt rfl rfl) (s_kc (c := 11) rfl rfl) (by decide) rfl (s1_X12_codes hM149 hpr 3008 (by omega) gf gn ((boP gf gn (unR gf gn 1)) (nxF gf gn gq135)).2.2 (by omega) (by omega) (by omega) (by omega)) gX12_readTruth_X12_codes rfl hdX12_codes (by decide) (Nat.le_of_ble_eq_true rfl) dX12_readTruth_23 rfl (fun M154 h155 => ?_)
        obtain ⟨hM154, fM154, h156⟩ := h155
        have k157 := tk_c gf gn (M154.1 98 6).toInt (M149.1 98 6).toInt
        have bM154 := tkm_b (f := gf) (n := gn) (M := M154) (by omega)
        have qM154 := po_eq gn ((boP gf gn (unR gf gn 1)) (nxF gf gn gq135)).2.2 (M149.1 98 11).toInt (M149.1 98 6).toInt (M154.1 98 11).toInt (M154.1 98 6).toInt (by omega) (by omega) (by omega)
        refine j_goto C 5 dX12_readTruth_26 (by decide) ?_
        have u158x := xw_a (M := M149) (N := M154) (c := 3008) (r := 2) (e := (-1)) (FR.cell fM154 (by decide)) (ap_bin ⟨(INV.rd hM149 (i := 102) (c := 48) (k := 280) rfl rfl).1, by omega, by omega⟩) (by omega)
        have u158t := xw_t (M := M0) (N := M149) (P := M154) (r1 := 0) (e1 := 2) (s1 := 1) (r2 := 2) (e2 := (-1)) (s2 := (-1)) 0 1 0 (by decide) (by omega) (by omega)
        have u158i := ri_c (M := M149) (N := M154) (FR.cell fM154 (by decide)) (by omega)
        have u158l := ri_l (M := M154) (by omega)
        have u158L := ll_w (luP gf gn 1014 1014 (boP gf gn (unR gf gn 1))) gn ((boP gf gn (unR gf gn 1)) gi).2.2 ((boP gf gn (unR gf gn 1)) (nxF gf gn gq135)).2.2 (0 + 1) 0 (M103.1 98 11).toInt (M103.1 98 12).toInt (M154.1 98 11).toInt (M154.1 98 12).toInt (M154.1 98 6).toInt (by decide) (ll_s gf gn 1014 1014 (boP gf gn (unR gf gn 1)) ((boP gf gn (unR gf gn 1)) gi).2.2 gq135 0 (M103.1 98 11).toInt (M103.1 98 12).toInt (M134.1 98 11).toInt (M134.1 98 12).toInt (M134.1 98 6).toInt (M141.1 98 11).toInt (M141.1 98 12).toInt (M149.1 98 11).toInt (M149.1 98 12).toInt (M149.1 98 6).toInt (M154.1 98 11).toInt (M154.1 98 12).toInt (M154.1 98 6).toInt (by decide) (bo_g gf gn (unR_g gf gn 1)) (by omega) (by omega) (by omega) (by omega) (by omega) (by omega) (by omega) (by omega) (by omega))
        have u158c := lc_s gf gn 1014 1014 (boP gf gn (unR gf gn 1)) (boL gf gn (unR gf gn 1) (uLR gf gn 1)) (by decide) (bo_g gf gn (unR_g gf gn 1)) (show b01 (LC AGR (M134.1 98 11).toInt (luL gf gn 1014 1014 (boP gf gn (unR gf gn 1)) (boL gf gn (unR gf gn 1) (uLR gf gn 1))) ((boP gf gn (unR gf gn 1)) gi).2.2 gq135 M103 M134) = 1 by omega) (show b01 (PO gn gq135 (M134.1 98 11).toInt (M134.1 98 6).toInt) = 1 by omega) (by omega) (show b01 (RR ((boP gf gn (unR gf gn 1)) (nxF gf gn gq135)) (M141.1 98 11).toInt (M141.1 98 12).toInt (M149.1 98 11).toInt (M149.1 98 12).toInt (M149.1 98 6).toInt) = 1 by omega) (fun z => by omega) (cl_e (L := ([] ++ ((boL gf gn (unR gf gn 1) (uLR gf gn 1)) (nxF gf gn gq135))) ++ [3008]) (cl_t (cl_t (cl_r (A := AGR) (M := M134) (N := M141) (M141.1 98 11).toInt (agr_c (FR.cell fM141 (by decide)))) (show b01 (CL AGR (M149.1 98 11).toInt M141 M149 ((boL gf gn (unR gf gn 1) (uLR gf gn 1)) (nxF gf gn gq135))) = 1 by omega) (fun z => rr_z (show b01 (RR ((boP gf gn (unR gf gn 1)) (nxF gf gn gq135)) (M141.1 98 11).toInt (M141.1 98 12).toInt (M149.1 98 11).toInt (M149.1 98 12).toInt (M149.1 98 6).toInt) = 1 by omega) z)) (show b01 (CL AGR (M154.1 98 11).toInt M149 M154 [3008]) = 1 by omega) (fun z => by omega)) (fun z => by rw [show tkF gf gn (M134.1 98 6).toInt = 1014 by omega, cm_tab.2.2.2.2.2.2.2.2, List.nil_append]) : b01 (CL AGR (M154.1 98 11).toInt M134 M154 (((boL gf gn (unR gf gn 1) (uLR gf gn 1)) (nxF gf gn gq135)) ++ [cmF (tkF gf gn (M134.1 98 6).toInt)])) = 1) (fun z => by omega)
        have zz98_8 : (M154.1 98 8).toInt = (M149.1 98 8).toInt := s_fF fM154 (by decide) (rfl); have zz98_6 : (M154.1 98 6).toInt = (M149.1 98 6).toInt := s_fF fM154 (by decide) (rfl); have zz98_12 : (M154.1 98 12).toInt = (M149.1 98 12).toInt := s_fF fM154 (by decide) (rfl); have zz98_11 : (M154.1 98 11).toInt = (M149.1 98 11).toInt := s_fF fM154 (by decide) (rfl); exact ih132 M154 ((boP gf gn (unR gf gn 1)) (nxF gf gn gq135)).2.2 (by (clear zz98_11 zz98_12 zz98_6 zz98_8 u158l u158x k157 fM154 hM154 u152b u152l u152t qM149 fM149 hM149 u147l u147a u147t u147c bM141 k145 fM141 hM141 k139 k138 u137B u137l fM134 hM134 ih132 u106c u106L u106l qM103 bM103 h105 fM103 hM103 u101l u101z hret C hp4 hp3 hp2 hp1 hp0 hpr hM0; omega)) hM154 ((((FR.rf.tr fM134 (by decide)).tr fM141 (by decide)).tr fM149 (by decide)).tr fM154 (by decide))
  exact L133 2010 M103 ((boP gf gn (unR gf gn 1)) gi).2.2 (by omega) hM103 (FR.rf.tr fM103 (by decide))
set_option maxHeartbeats 4000000 in
theorem s3_X12_readUnit {l : Launch} {dC : Nat → ClassId} {dI : Nat → Nat → Nat} {ad : Nat → Nat} {cA : Nat → ClassId} {pr : Nat → Nat → Bool} {Kz : mm_M} {M0 : mm_M} (hM0 : INV pr Kz M0) (hpr : PM pr) (gf : Nat → Int) (gn : Int) (gi : Int) (hp0 : b01 (RIP M0) = 1) (hp1 : b01 (CA M0) = 1) (hp2 : b01 (TKM gf gn M0) = 1) (hp3 : b01 (PO gn gi (M0.1 98 11).toInt (M0.1 98 6).toInt) = 1) (hp4 : b01 (PI M0) = 1) : Cv l 16 yX12_readUnit wsX12_readUnit dC dI ad cA [.ref (ad 98), .int (sI 4)] M0 (fun M' => INV pr Kz M' ∧ FR [98, 102] M0 M' ∧ (b01 (RIP M') = 1) ∧ ((M'.1 98 8).toInt = (M0.1 98 8).toInt) ∧ ((M0.1 98 6).toInt ≤ (M'.1 98 6).toInt) ∧ (b01 (XW M0 M' 0 1 0) = 1) ∧ (b01 (CA M') = 1) ∧ (b01 (CL AGR (M'.1 98 11).toInt M0 M' ((uLR gf gn 2) gi)) = 1) ∧ (b01 (PI M') = 1) ∧ (b01 (TKM gf gn M') = 1) ∧ b01 (RR ((unR gf gn 2) gi) (M0.1 98 11).toInt (M0.1 98 12).toInt (M'.1 98 11).toInt (M'.1 98 12).toInt (M'.1 98 6).toInt) = 1) := by
  refine cv_of (cc := cX12_readUnit) (maxL := 3) (lv := [(0, .ref (ad 98)), (1, .int (sI 4))]) (by decide) rfl (Nat.le_of_ble_eq_true rfl) rfl ?_
  intro p e s m args below meth c A Q C hret
  have u101z := xw_0 M0
  have u101l := ri_l (M := M0) (by omega)
  refine j_aload_n C 0 0 dX12_readUnit_0 rfl rfl ?_
  refine y_bipush C dX12_readUnit_1 rfl ?_
  have k102 := tkm_K (f := gf) (n := gn) (M := M0) (by omega)
  have k103 := kd_2 (kdk_16 gf gn (M0.1 98 6).toInt) (by omega)
  refine j_callVi C (d := 0) (As := [.int (sI 16)]) (st := []) 98 (s_lt rfl rfl) (s_kc (c := 11) rfl rfl) (by decide) rfl (s1_X12_is hM0 16 (by omega)) gX12_readUnit_X12_is rfl hdX12_is (by decide) (Nat.le_of_ble_eq_true rfl) dX12_readUnit_3 rfl (fun r104 M105 h106 => ?_)
  obtain ⟨a108, rfl, rfl, h107⟩ := h106
  refine y_if_eq C 33 dX12_readUnit_6 (by decide) (by omega) (fun h109 => ?_) (fun h109 => ?_)
  · refine j_aload_n C 0 0 dX12_readUnit_33 rfl rfl ?_
    refine y_bipush C dX12_readUnit_34 rfl ?_
    have k110 := tkm_K (f := gf) (n := gn) (M := M0) (by omega)
    have k111 := kd_2 (kdk_37 gf gn (M0.1 98 6).toInt) (by omega)
    refine j_callVi C (d := 0) (As := [.int (sI 37)]) (st := []) 98 (s_lt rfl rfl) (s_kc (c := 11) rfl rfl) (by decide) rfl (s1_X12_is hM0 37 (by omega)) gX12_readUnit_X12_is rfl hdX12_is (by decide) (Nat.le_of_ble_eq_true rfl) dX12_readUnit_36 rfl (fun r112 M113 h114 => ?_)
    obtain ⟨a116, rfl, rfl, h115⟩ := h114
    refine y_if_eq C 73 dX12_readUnit_39 (by decide) (by omega) (fun h117 => ?_) (fun h117 => ?_)
    · refine j_aload_n C 0 0 dX12_readUnit_73 rfl rfl ?_
      refine j_iload_n C 1 1 dX12_readUnit_74 rfl rfl ?_
      refine j_callVv C (d := 15) (As := [.int (sI 4)]) (st := []) 98 (s_lt rfl rfl) (s_kc (c := 11) rfl rfl) (by decide) rfl (s3_X12_readSum hM0 hpr gf gn gi (by omega) (by omega) (by omega) (by omega) (by omega)) gX12_readUnit_X12_readSum rfl hdX12_readSum (by decide) (Nat.le_of_ble_eq_true rfl) dX12_readUnit_75 rfl (fun M119 h120 => ?_)
      obtain ⟨hM119, fM119, h121⟩ := h120
      have bM119 := tkm_b (f := gf) (n := gn) (M := M119) (by omega)
      have qM119 := po_rr (suR gf gn 2) gn gi (M0.1 98 11).toInt (M0.1 98 12).toInt (M0.1 98 6).toInt (M119.1 98 11).toInt (M119.1 98 12).toInt (M119.1 98 6).toInt (suR_g gf gn 2) (by omega) (by omega)
      have u122l := ri_l (M := M119) (by omega)
      refine j_aload_n C 0 0 dX12_readUnit_78 rfl rfl ?_
      refine y_bipush C dX12_readUnit_79 rfl ?_
      have k123 := tkm_K (f := gf) (n := gn) (M := M119) (by omega)
      have k124 := kd_2 (kdk_39 gf gn (M119.1 98 6).toInt) (by omega)
      refine j_callVi C (d := 0) (As := [.int (sI 39)]) (st := []) 98 (s_lt rfl rfl) (s_kc (c := 11) rfl rfl) (by decide) rfl (s1_X12_is hM119 39 (by omega)) gX12_readUnit_X12_is rfl hdX12_is (by decide) (Nat.le_of_ble_eq_true rfl) dX12_readUnit_81 rfl (fun r125 M126 h127 => ?_)
      obtain ⟨a129, rfl, rfl, h128⟩ := h127
      have J140 : ∀ (a139 : Int), (3003 ≤ a139 ∧ a139 ≤ 3005 ∧ (¬ (M119.1 98 11).toInt = 0 ∨ (tkF gf gn (M119.1 98 6).toInt = 2061 ∧ a139 = 3003) ∨ (tkF gf gn (M119.1 98 6).toInt = 2060 ∧ a139 = 3004) ∨ (¬ tkF gf gn (M119.1 98 6).toInt = 2061 ∧ ¬ tkF gf gn (M119.1 98 6).toInt = 2060 ∧ a139 = 3005))) → jj p l e (cn_R 16) s m args below meth c 0 0 Q 3 dC dI ad cA A M119 111 [(0, .ref (ad 98)), (1, .int (sI 4))] [.int (sI a139)] := by
        intro a139 h141
        refine j_istore_n C 2 [(2, .int (sI a139)), (0, .ref (ad 98)), (1, .int (sI 4))] dX12_readUnit_111 rfl (by decide) rfl ?_
        refine j_aload_n C 1 0 dX12_readUnit_112 rfl rfl ?_
        refine y_bipush C dX12_readUnit_113 rfl ?_
        have k142 := tkm_K (f := gf) (n := gn) (M := M119) (by omega)
        have k143 := kd_2 (kdk_39 gf gn (M119.1 98 6).toInt) (by omega)
        refine j_callVi C (d := 0) (As := [.int (sI 39)]) (st := []) 98 (s_lt rfl rfl) (s_kc (c := 11) rfl rfl) (by decide) rfl (s1_X12_is hM119 39 (by omega)) gX12_readUnit_X12_is rfl hdX12_is (by decide) (Nat.le_of_ble_eq_true rfl) dX12_readUnit_115 rfl (fun r144 M145 h146 => ?_)
        obtain ⟨a148, rfl, rfl, h147⟩ := h146
        have J196 : ∀ (M195 : mm_M), ((b01 (RIP M195) = 1) ∧ ((M195.1 98 8).toInt = (M0.1 98 8).toInt) ∧ ((M0.1 98 6).toInt ≤ (M195.1 98 6).toInt) ∧ (b01 (XW M0 M195 0 1 1) = 1) ∧ (b01 (RR ((sjP gf gn 2) gi) (M0.1 98 11).toInt (M0.1 98 12).toInt (M195.1 98 11).toInt (M195.1 98 12).toInt (M195.1 98 6).toInt) = 1) ∧ (b01 (CL AGR (M195.1 98 11).toInt M0 M195 ((sLR gf gn 2) gi)) = 1) ∧ (b01 (UJW gf gn 2 gi (M195.1 98 11).toInt a139) = 1) ∧ (b01 (TKM gf gn M195) = 1) ∧ (b01 (PO gn ((sjP gf gn 2) gi).2.2 (M195.1 98 11).toInt (M195.1 98 6).toInt) = 1) ∧ (b01 (PI M195) = 1)) → INV pr Kz M195 → FR [98, 102] M0 M195 → jj p l e (cn_R 16) s m args below meth c 0 0 Q 3 dC dI ad cA A M195 151 [(0, .ref (ad 98)), (1, .int (sI 4)), (2, .int (sI a139))] [] := by
          intro M195 h197 hM195 fM195
          have u199a := ca_x (M := M0) (N := M195) (r := 0) (e := 1) (s := 1) (by decide) (by omega) (by omega)
          have u199l := ri_l (M := M195) (by omega)
          refine j_aload_n C 0 0 dX12_readUnit_151 rfl rfl ?_
          refine j_iload_n C 1 1 dX12_readUnit_152 rfl rfl ?_
          refine j_callVv C (d := 15) (As := [.int (sI 4)]) (st := []) 98 (s_lt rfl rfl) (s_kc (c := 11) rfl rfl) (by decide) rfl (s3_X12_readSum hM195 hpr gf gn ((sjP gf gn 2) gi).2.2 (by omega) (by omega) (by omega) (by omega) (by omega)) gX12_readUnit_X12_readSum rfl hdX12_readSum (by decide) (Nat.le_of_ble_eq_true rfl) dX12_readUnit_153 rfl (fun M201 h202 => ?_)
          obtain ⟨hM201, fM201, h203⟩ := h202
          have bM201 := tkm_b (f := gf) (n := gn) (M := M201) (by omega)
          have qM201 := po_rr (suR gf gn 2) gn ((sjP gf gn 2) gi).2.2 (M195.1 98 11).toInt (M195.1 98 12).toInt (M195.1 98 6).toInt (M201.1 98 11).toInt (M201.1 98 12).toInt (M201.1 98 6).toInt (suR_g gf gn 2) (by omega) (by omega)
          have u204t := xw_t (M := M0) (N := M195) (P := M201) (r1 := 0) (e1 := 1) (s1 := 1) (r2 := 0) (e2 := 1) (s2 := 0) 0 2 1 (by decide) (by omega) (by omega)
          have u204l := ri_l (M := M201) (by omega)
          have u204b := cb_x (M := M0) (N := M201) (r := 0) (e := 2) (s := 1) (by decide) (by omega) (by omega) (by omega)
          refine j_aload_n C 0 0 dX12_readUnit_156 rfl rfl ?_
          refine j_iload_n C 2 2 dX12_readUnit_157 rfl rfl ?_
          refine j_callVv C (d := 0) (As := [.int (sI a139)]) (st := []) 98 (s_lt rfl rfl) (s_kc (c := 11) rfl rfl) (by decide) rfl (s1_X12_codes hM201 hpr a139 (by omega) gf gn ((suR gf gn 2) ((sjP gf gn 2) gi).2.2).2.2 (by omega) (by omega) (by omega) (by omega)) gX12_readUnit_X12_codes rfl hdX12_codes (by decide) (Nat.le_of_ble_eq_true rfl) dX12_readUnit_158 rfl (fun M206 h207 => ?_)
          obtain ⟨hM206, fM206, h208⟩ := h207
          have k209 := tk_c gf gn (M206.1 98 6).toInt (M201.1 98 6).toInt
          have bM206 := tkm_b (f := gf) (n := gn) (M := M206) (by omega)
          have qM206 := po_eq gn ((suR gf gn 2) ((sjP gf gn 2) gi).2.2).2.2 (M201.1 98 11).toInt (M201.1 98 6).toInt (M206.1 98 11).toInt (M206.1 98 6).toInt (by omega) (by omega) (by omega)
          have u210x := xw_a (M := M201) (N := M206) (c := a139) (r := 2) (e := (-1)) (FR.cell fM206 (by decide)) (ap_bin ⟨(INV.rd hM201 (i := 102) (c := 48) (k := 280) rfl rfl).1, by omega, by omega⟩) (by omega)
          have u210t := xw_t (M := M0) (N := M201) (P := M206) (r1 := 0) (e1 := 2) (s1 := 1) (r2 := 2) (e2 := (-1)) (s2 := (-1)) 0 1 0 (by decide) (by omega) (by omega)
          have u210i := ri_c (M := M201) (N := M206) (FR.cell fM206 (by decide)) (by omega)
          have u210l := ri_l (M := M206) (by omega)
          have u210a := ca_x (M := M0) (N := M206) (r := 0) (e := 1) (s := 0) (by decide) (by omega) (by omega)
          have u211r := un_6 gf gn 2 gi (M0.1 98 11).toInt (M0.1 98 12).toInt (M0.1 98 6).toInt (M195.1 98 11).toInt (M195.1 98 12).toInt (M195.1 98 6).toInt (M201.1 98 11).toInt (M201.1 98 12).toInt (M201.1 98 6).toInt (M206.1 98 11).toInt (M206.1 98 12).toInt (M206.1 98 6).toInt (by omega) (by (clear u210a u210l u210i u210t u210x qM206 bM206 k209 h208 fM206 hM206 u204b u204l u204t qM201 bM201 h203 fM201 hM201 u199l u199a fM195 hM195 h197 h147 k143 k142 h141 h128 k124 u122l qM119 bM119 h121 fM119 hM119 k110 u101l u101z hret C hp4 hp3 hp2 hp1 hp0 hpr hM0; omega)) (by omega) (by omega) (by omega) (by omega) (by omega)
          have u211l : b01 (CL AGR (M206.1 98 11).toInt M0 M206 ((uLR gf gn 2) gi)) = 1 := cl_e (cl_t (cl_t (show b01 (CL AGR (M195.1 98 11).toInt M0 M195 ((sLR gf gn 2) gi)) = 1 by omega) (show b01 (CL AGR (M201.1 98 11).toInt M195 M201 ((sLR gf gn 2) ((sjP gf gn 2) gi).2.2)) = 1 by omega) (fun z => rr_z (show b01 (RR ((suR gf gn 2) ((sjP gf gn 2) gi).2.2) (M195.1 98 11).toInt (M195.1 98 12).toInt (M201.1 98 11).toInt (M201.1 98 12).toInt (M201.1 98 6).toInt) = 1 by omega) z)) (show b01 (CL AGR (M206.1 98 11).toInt M201 M206 [a139]) = 1 by omega) (fun z => by omega)) (fun z => by have y := (fun z => rr_z (show b01 (RR ((suR gf gn 2) ((sjP gf gn 2) gi).2.2) (M195.1 98 11).toInt (M195.1 98 12).toInt (M201.1 98 11).toInt (M201.1 98 12).toInt (M201.1 98 6).toInt) = 1 by omega) z) (show (M201.1 98 11).toInt = 0 by omega); rw [(b01_e (show b01 (UJW gf gn 2 gi (M195.1 98 11).toInt a139) = 1 by omega)).resolve_left (fun w => w y), List.append_assoc])
          have zz98_11 : (M206.1 98 11).toInt = (M201.1 98 11).toInt := s_fF fM206 (by decide) (rfl); have zz98_12 : (M206.1 98 12).toInt = (M201.1 98 12).toInt := s_fF fM206 (by decide) (rfl); have zz98_6 : (M206.1 98 6).toInt = (M201.1 98 6).toInt := s_fF fM206 (by decide) (rfl); have zz98_8 : (M206.1 98 8).toInt = (M201.1 98 8).toInt := s_fF fM206 (by decide) (rfl); exact hret _ _ _ dX12_readUnit_161 ⟨hM206, (((FR.rf.tr fM195 (by decide)).tr fM201 (by decide)).tr fM206 (by decide)), by omega⟩
        refine y_if_ne C 139 dX12_readUnit_118 (by decide) (by omega) (fun h149 => ?_) (fun h149 => ?_)
        · have u150k := ri_k (M := M119) (by omega) (by omega)
          refine j_aload_n C 1 0 dX12_readUnit_139 rfl rfl ?_
          have k151 := tkm_p (f := gf) (n := gn) (M := M119) (by omega)
          have k152 := tkm_K (f := gf) (n := gn) (M := M119) (by omega)
          refine j_callVv C (d := 5) (As := []) (st := []) 98 (s_lt rfl rfl) (s_kc (c := 11) rfl rfl) (by decide) rfl (s1_X12_next hM119 hpr gf gn (by omega) (by omega) (by omega) (by omega)) gX12_readUnit_X12_next rfl hdX12_next (by decide) (Nat.le_of_ble_eq_true rfl) dX12_readUnit_140 rfl (fun M154 h155 => ?_)
          obtain ⟨hM154, fM154, h156⟩ := h155
          have bM154 := tkm_b (f := gf) (n := gn) (M := M154) (by omega)
          have qM154 := nx_po (f := gf) (n := gn) (i := ((suR gf gn 2) gi).2.2) (M := M119) (M' := M154) (by omega) (by omega) (by omega) (by omega) (by omega)
          refine j_goto C 151 dX12_readUnit_143 (by decide) ?_
          have u157c := xw_c (N := M119) (P := M154) 1 (FR.cell fM154 (by decide)) (by omega)
          have u157t := xw_t (M := M0) (N := M119) (P := M154) (r1 := 0) (e1 := 1) (s1 := 0) (r2 := 0) (e2 := 0) (s2 := 1) 0 1 1 (by decide) (by omega) (by omega)
          have u157l := ri_l (M := M154) (by omega)
          have u157J := cj_1 gf gn 2 gi (M0.1 98 11).toInt (M0.1 98 12).toInt (M119.1 98 11).toInt (M119.1 98 12).toInt (M119.1 98 6).toInt (M154.1 98 11).toInt (M154.1 98 12).toInt (M154.1 98 6).toInt (by omega) (by omega) (by omega) (by omega) (by omega) (by omega) (by omega)
          have u157P := po_rr (sjP gf gn 2) gn gi (M0.1 98 11).toInt (M0.1 98 12).toInt (M0.1 98 6).toInt (M154.1 98 11).toInt (M154.1 98 12).toInt (M154.1 98 6).toInt (sj_g gf gn 2) (by omega) (by omega)
          have u157c : b01 (CL AGR (M154.1 98 11).toInt M0 M154 ((sLR gf gn 2) gi)) = 1 := cl_e (cl_t (show b01 (CL AGR (M119.1 98 11).toInt M0 M119 ((sLR gf gn 2) gi)) = 1 by omega) (cl_r (A := AGR) (M := M119) (N := M154) (M154.1 98 11).toInt (agr_c (FR.cell fM154 (by decide)))) (fun z => by omega)) (fun z => (List.append_nil _).symm)
          have u157j := uj_1 gf gn 2 (i := gi) (a := (M154.1 98 11).toInt) (c := a139) (show b01 (PO gn gi (M0.1 98 11).toInt (M0.1 98 6).toInt) = 1 by omega) (by omega) (show b01 (RR ((suR gf gn 2) gi) (M0.1 98 11).toInt (M0.1 98 12).toInt (M119.1 98 11).toInt (M119.1 98 12).toInt (M119.1 98 6).toInt) = 1 by omega) (show b01 (PO gn ((suR gf gn 2) gi).2.2 (M119.1 98 11).toInt (M119.1 98 6).toInt) = 1 by omega) (by omega) (by (clear u157c u157P u157J u157l u157t qM154 bM154 h156 fM154 hM154 k152 k151 u150k J196 k142 h128 k124 u122l qM119 bM119 h121 fM119 hM119 h117 h115 k111 k110 h109 h107 k103 k102 u101l u101z hret C hp4 hp3 hp2 hp1 hp0 hpr hM0; omega))
          refine j_lv [1, 2, 0] rfl ?_; exact J196 M154 (by omega) hM154 ((FR.rf.tr fM119 (by decide)).tr fM154 (by decide))
        · refine j_aload_n C 1 0 dX12_readUnit_121 rfl rfl ?_
          refine y_bipush C dX12_readUnit_122 rfl ?_
          have k158 := tkm_K (f := gf) (n := gn) (M := M119) (by omega)
          have k159 := kd_2 (kdk_40 gf gn (M119.1 98 6).toInt) (by omega)
          refine j_callVi C (d := 0) (As := [.int (sI 40)]) (st := []) 98 (s_lt rfl rfl) (s_kc (c := 11) rfl rfl) (by decide) rfl (s1_X12_is hM119 40 (by omega)) gX12_readUnit_X12_is rfl hdX12_is (by decide) (Nat.le_of_ble_eq_true rfl) dX12_readUnit_124 rfl (fun r160 M161 h162 => ?_)
          obtain ⟨a164, rfl, rfl, h163⟩ := h162
          refine y_if_ne C 139 dX12_readUnit_127 (by decide) (by omega) (fun h165 => ?_) (fun h165 => ?_)
          · have u166k := ri_k (M := M119) (by omega) (by omega)
            refine j_aload_n C 1 0 dX12_readUnit_139 rfl rfl ?_
            have k167 := tkm_p (f := gf) (n := gn) (M := M119) (by omega)
            have k168 := tkm_K (f := gf) (n := gn) (M := M119) (by omega)
            refine j_callVv C (d := 5) (As := []) (st := []) 98 (s_lt rfl rfl) (s_kc (c := 11) rfl rfl) (by decide) rfl (s1_X12_next hM119 hpr gf gn (by omega) (by omega) (by omega) (by omega)) gX12_readUnit_X12_next rfl hdX12_next (by decide) (Nat.le_of_ble_eq_true rfl) dX12_readUnit_140 rfl (fun M170 h171 => ?_)
            obtain ⟨hM170, fM170, h172⟩ := h171
            have bM170 := tkm_b (f := gf) (n := gn) (M := M170) (by omega)
            have qM170 := nx_po (f := gf) (n := gn) (i := ((suR gf gn 2) gi).2.2) (M := M119) (M' := M170) (by omega) (by omega) (by omega) (by omega) (by omega)
            refine j_goto C 151 dX12_readUnit_143 (by decide) ?_
            have u173c := xw_c (N := M119) (P := M170) 1 (FR.cell fM170 (by decide)) (by omega)
            have u173t := xw_t (M := M0) (N := M119) (P := M170) (r1 := 0) (e1 := 1) (s1 := 0) (r2 := 0) (e2 := 0) (s2 := 1) 0 1 1 (by decide) (by omega) (by omega)
            have u173l := ri_l (M := M170) (by omega)
            have u173J := cj_1 gf gn 2 gi (M0.1 98 11).toInt (M0.1 98 12).toInt (M119.1 98 11).toInt (M119.1 98 12).toInt (M119.1 98 6).toInt (M170.1 98 11).toInt (M170.1 98 12).toInt (M170.1 98 6).toInt (by omega) (by omega) (by omega) (by omega) (by omega) (by omega) (by omega)
            have u173P := po_rr (sjP gf gn 2) gn gi (M0.1 98 11).toInt (M0.1 98 12).toInt (M0.1 98 6).toInt (M170.1 98 11).toInt (M170.1 98 12).toInt (M170.1 98 6).toInt (sj_g gf gn 2) (by omega) (by omega)
            have u173c : b01 (CL AGR (M170.1 98 11).toInt M0 M170 ((sLR gf gn 2) gi)) = 1 := cl_e (cl_t (show b01 (CL AGR (M119.1 98 11).toInt M0 M119 ((sLR gf gn 2) gi)) = 1 by omega) (cl_r (A := AGR) (M := M119) (N := M170) (M170.1 98 11).toInt (agr_c (FR.cell fM170 (by decide)))) (fun z => by omega)) (fun z => (List.append_nil _).symm)
            have u173j := uj_1 gf gn 2 (i := gi) (a := (M170.1 98 11).toInt) (c := a139) (show b01 (PO gn gi (M0.1 98 11).toInt (M0.1 98 6).toInt) = 1 by omega) (by omega) (show b01 (RR ((suR gf gn 2) gi) (M0.1 98 11).toInt (M0.1 98 12).toInt (M119.1 98 11).toInt (M119.1 98 12).toInt (M119.1 98 6).toInt) = 1 by omega) (show b01 (PO gn ((suR gf gn 2) gi).2.2 (M119.1 98 11).toInt (M119.1 98 6).toInt) = 1 by omega) (by omega) (by (clear u173c u173P u173J u173l u173t qM170 bM170 h172 fM170 hM170 k168 k167 u166k k158 h149 J196 h147 k143 k142 h128 k124 u122l qM119 bM119 h121 fM119 hM119 h117 h115 k111 k110 h109 h107 k103 k102 u101l u101z hret C hp4 hp3 hp2 hp1 hp0 hpr hM0; omega))
            refine j_lv [1, 2, 0] rfl ?_; exact J196 M170 (by omega) hM170 ((FR.rf.tr fM119 (by decide)).tr fM170 (by decide))
          · refine j_aload_n C 1 0 dX12_readUnit_130 rfl rfl ?_
            refine y_bipush C dX12_readUnit_131 rfl ?_
            have k174 := tkm_K (f := gf) (n := gn) (M := M119) (by omega)
            have k175 := kd_2 (kdk_41 gf gn (M119.1 98 6).toInt) (by omega)
            refine j_callVi C (d := 0) (As := [.int (sI 41)]) (st := []) 98 (s_lt rfl rfl) (s_kc (c := 11) rfl rfl) (by decide) rfl (s1_X12_is hM119 41 (by omega)) gX12_readUnit_X12_is rfl hdX12_is (by decide) (Nat.le_of_ble_eq_true rfl) dX12_readUnit_133 rfl (fun r176 M177 h178 => ?_)
            obtain ⟨a180, rfl, rfl, h179⟩ := h178
            refine y_if_eq C 146 dX12_readUnit_136 (by decide) (by omega) (fun h181 => ?_) (fun h181 => ?_)
            · refine j_aload_n C 1 0 dX12_readUnit_146 rfl rfl ?_
              refine y_iconst C dX12_readUnit_147 ?_
              refine j_callVv C (d := 0) (As := [.int (sI 2)]) (st := []) 98 (s_lt rfl rfl) (s_kc (c := 11) rfl rfl) (by decide) rfl (s1_X12_fails hM119 hpr 2 (by omega) gf gn ((suR gf gn 2) gi).2.2 (by omega) (by omega) (by omega) (by omega) (by omega)) gX12_readUnit_X12_fails rfl hdX12_fails (by decide) (Nat.le_of_ble_eq_true rfl) dX12_readUnit_148 rfl (fun M183 h184 => ?_)
              obtain ⟨hM183, fM183, h185⟩ := h184
              have bM183 := tkm_b (f := gf) (n := gn) (M := M183) (by omega)
              have qM183 := po_f gn ((faQ gf gn 2) ((suR gf gn 2) gi).2.2).2.2 (M183.1 98 11).toInt (M183.1 98 6).toInt (by omega)
              have u186f : b01 (XW M0 M183 0 1 1) = 1 := b01_i (Or.inl (by omega))
              have u186l := ri_l (M := M183) (by omega)
              have u186J := cj_2 gf gn 2 gi (M0.1 98 11).toInt (M0.1 98 12).toInt (M119.1 98 11).toInt (M119.1 98 12).toInt (M119.1 98 6).toInt (M183.1 98 11).toInt (M183.1 98 12).toInt (M183.1 98 6).toInt (by omega) (by omega) (by (clear u186l u186f qM183 bM183 h185 fM183 hM183 k174 k158 J196 k142 h141 h128 k124 u122l qM119 bM119 h121 fM119 hM119 h117 h115 k111 k110 h109 h107 k103 k102 u101l u101z hret C hp4 hp3 hp2 hp1 hp0 hpr hM0; omega)) (by omega)
              have u186P := po_rr (sjP gf gn 2) gn gi (M0.1 98 11).toInt (M0.1 98 12).toInt (M0.1 98 6).toInt (M183.1 98 11).toInt (M183.1 98 12).toInt (M183.1 98 6).toInt (sj_g gf gn 2) (by omega) (by omega)
              have u186c := cl_n (A := AGR) (M := M0) (N := M183) ((sLR gf gn 2) gi) (a := (M183.1 98 11).toInt) (by omega)
              have u186j : b01 (UJW gf gn 2 gi (M183.1 98 11).toInt a139) = 1 := b01_i (Or.inl (by omega))
              refine j_lv [1, 2, 0] rfl ?_; exact J196 M183 (by omega) hM183 ((FR.rf.tr fM119 (by decide)).tr fM183 (by decide))
            · have u187k := ri_k (M := M119) (by omega) (by omega)
              refine j_aload_n C 1 0 dX12_readUnit_139 rfl rfl ?_
              have k188 := tkm_p (f := gf) (n := gn) (M := M119) (by omega)
              have k189 := tkm_K (f := gf) (n := gn) (M := M119) (by omega)
              refine j_callVv C (d := 5) (As := []) (st := []) 98 (s_lt rfl rfl) (s_kc (c := 11) rfl rfl) (by decide) rfl (s1_X12_next hM119 hpr gf gn (by omega) (by omega) (by omega) (by omega)) gX12_readUnit_X12_next rfl hdX12_next (by decide) (Nat.le_of_ble_eq_true rfl) dX12_readUnit_140 rfl (fun M191 h192 => ?_)
              obtain ⟨hM191, fM191, h193⟩ := h192
              have bM191 := tkm_b (f := gf) (n := gn) (M := M191) (by omega)
              have qM191 := nx_po (f := gf) (n := gn) (i := ((suR gf gn 2) gi).2.2) (M := M119) (M' := M191) (by omega) (by omega) (by omega) (by omega) (by omega)
              refine j_goto C 151 dX12_readUnit_143 (by decide) ?_
              have u194c := xw_c (N := M119) (P := M191) 1 (FR.cell fM191 (by decide)) (by omega)
              have u194t := xw_t (M := M0) (N := M119) (P := M191) (r1 := 0) (e1 := 1) (s1 := 0) (r2 := 0) (e2 := 0) (s2 := 1) 0 1 1 (by decide) (by omega) (by omega)
              have u194l := ri_l (M := M191) (by omega)
              have u194J := cj_1 gf gn 2 gi (M0.1 98 11).toInt (M0.1 98 12).toInt (M119.1 98 11).toInt (M119.1 98 12).toInt (M119.1 98 6).toInt (M191.1 98 11).toInt (M191.1 98 12).toInt (M191.1 98 6).toInt (by omega) (by omega) (by omega) (by omega) (by omega) (by omega) (by omega)
              have u194P := po_rr (sjP gf gn 2) gn gi (M0.1 98 11).toInt (M0.1 98 12).toInt (M0.1 98 6).toInt (M191.1 98 11).toInt (M191.1 98 12).toInt (M191.1 98 6).toInt (sj_g gf gn 2) (by omega) (by omega)
              have u194c : b01 (CL AGR (M191.1 98 11).toInt M0 M191 ((sLR gf gn 2) gi)) = 1 := cl_e (cl_t (show b01 (CL AGR (M119.1 98 11).toInt M0 M119 ((sLR gf gn 2) gi)) = 1 by omega) (cl_r (A := AGR) (M := M119) (N := M191) (M191.1 98 11).toInt (agr_c (FR.cell fM191 (by decide)))) (fun z => by omega)) (fun z => (List.append_nil _).symm)
              have u194j := uj_1 gf gn 2 (i := gi) (a := (M191.1 98 11).toInt) (c := a139) (show b01 (PO gn gi (M0.1 98 11).toInt (M0.1 98 6).toInt) = 1 by omega) (by omega) (show b01 (RR ((suR gf gn 2) gi) (M0.1 98 11).toInt (M0.1 98 12).toInt (M119.1 98 11).toInt (M119.1 98 12).toInt (M119.1 98 6).toInt) = 1 by omega) (show b01 (PO gn ((suR gf gn 2) gi).2.2 (M119.1 98 11).toInt (M119.1 98 6).toInt) = 1 by omega) (by omega) (by (clear u194c u194P u194J u194l u194t qM191 bM191 h193 fM191 hM191 k189 k188 u187k k174 h165 h163 k159 k158 h149 J196 h147 k143 k142 h128 k124 u122l qM119 bM119 h121 fM119 hM119 h117 h115 k111 k110 h109 h107 k103 k102 u101l u101z hret C hp4 hp3 hp2 hp1 hp0 hpr hM0; omega))
              refine j_lv [1, 2, 0] rfl ?_; exact J196 M191 (by omega) hM191 ((FR.rf.tr fM119 (by decide)).tr fM191 (by decide))
      refine y_if_eq C 93 dX12_readUnit_84 (by decide) (by omega) (fun h130 => ?_) (fun h130 => ?_)
      · refine j_aload_n C 0 0 dX12_readUnit_93 rfl rfl ?_
        refine y_bipush C dX12_readUnit_94 rfl ?_
        have k131 := tkm_K (f := gf) (n := gn) (M := M119) (by omega)
        have k132 := kd_2 (kdk_40 gf gn (M119.1 98 6).toInt) (by omega)
        refine j_callVi C (d := 0) (As := [.int (sI 40)]) (st := []) 98 (s_lt rfl rfl) (s_kc (c := 11) rfl rfl) (by decide) rfl (s1_X12_is hM119 40 (by omega)) gX12_readUnit_X12_is rfl hdX12_is (by decide) (Nat.le_of_ble_eq_true rfl) dX12_readUnit_96 rfl (fun r133 M134 h135 => ?_)
        obtain ⟨a137, rfl, rfl, h136⟩ := h135
        refine y_if_eq C 108 dX12_readUnit_99 (by decide) (by omega) (fun h138 => ?_) (fun h138 => ?_)
        · refine y_sipush C dX12_readUnit_108 rfl ?_
          exact J140 3005 (by omega)
        · refine y_sipush C dX12_readUnit_102 rfl ?_
          refine j_goto C 111 dX12_readUnit_105 (by decide) ?_
          exact J140 3004 (by omega)
      · refine y_sipush C dX12_readUnit_87 rfl ?_
        refine j_goto C 111 dX12_readUnit_90 (by decide) ?_
        exact J140 3003 (by omega)
    · have u212k := ri_k (M := M0) (by omega) (by omega)
      refine j_aload_n C 0 0 dX12_readUnit_42 rfl rfl ?_
      refine j_iload_n C 1 1 dX12_readUnit_43 rfl rfl ?_
      refine j_callVi C (d := 6) (As := [.int (sI 4)]) (st := []) 98 (s_lt rfl rfl) (s_kc (c := 11) rfl rfl) (by decide) rfl (s5_X12_goesIn hM0 hpr gf gn gi (by omega) (by omega) (by omega) (by omega) (by omega) (by omega) (by omega)) gX12_readUnit_X12_goesIn rfl hdX12_goesIn (by decide) (Nat.le_of_ble_eq_true rfl) dX12_readUnit_44 rfl (fun r213 M214 h215 => ?_)
      obtain ⟨a217, rfl, hM214, fM214, h216⟩ := h215
      have bM214 := tkm_b (f := gf) (n := gn) (M := M214) (by omega)
      refine y_if_ne C 51 dX12_readUnit_47 (by decide) (by omega) (fun h218 => ?_) (fun h218 => ?_)
      · have u219c := xw_c (N := M0) (P := M214) 1 (FR.cell fM214 (by decide)) (by omega)
        have u219t := xw_t (M := M0) (N := M0) (P := M214) (r1 := 0) (e1 := 0) (s1 := 0) (r2 := 0) (e2 := 0) (s2 := 1) 0 0 1 (by decide) (by omega) (by omega)
        have u219a := ca_x (M := M0) (N := M214) (r := 0) (e := 0) (s := 1) (by decide) (by omega) (by omega)
        have u219l := ri_l (M := M214) (by omega)
        refine j_aload_n C 0 0 dX12_readUnit_51 rfl rfl ?_
        refine j_iload_n C 1 1 dX12_readUnit_52 rfl rfl ?_
        refine y_iconst C dX12_readUnit_53 ?_
        refine y_iadd C dX12_readUnit_54 ?_
        refine j_callVv C (d := 15) (As := [.int (sI (4 + 1))]) (st := []) 98 (s_lt rfl rfl) (s_kc (c := 11) rfl rfl) (by decide) rfl (s2_X12_readTruth hM214 hpr gf gn (nxF gf gn gi) (by omega) (by omega) (by omega) (by omega) (by omega)) gX12_readUnit_X12_readTruth rfl hdX12_readTruth (by decide) (Nat.le_of_ble_eq_true rfl) dX12_readUnit_55 rfl (fun M221 h222 => ?_)
        obtain ⟨hM221, fM221, h223⟩ := h222
        have bM221 := tkm_b (f := gf) (n := gn) (M := M221) (by omega)
        have qM221 := po_rr (trP gf gn (unR gf gn 1)) gn (nxF gf gn gi) (M214.1 98 11).toInt (M214.1 98 12).toInt (M214.1 98 6).toInt (M221.1 98 11).toInt (M221.1 98 12).toInt (M221.1 98 6).toInt (tr_g gf gn (unR_g gf gn 1)) (by omega) (by omega)
        have u224t := xw_t (M := M0) (N := M214) (P := M221) (r1 := 0) (e1 := 0) (s1 := 1) (r2 := 0) (e2 := 1) (s2 := 0) 0 1 1 (by decide) (by omega) (by omega)
        have u224l := ri_l (M := M221) (by omega)
        refine j_aload_n C 0 0 dX12_readUnit_58 rfl rfl ?_
        refine y_bipush C dX12_readUnit_59 rfl ?_
        have k225 := tkm_K (f := gf) (n := gn) (M := M221) (by omega)
        have k226 := kd_2 (kdk_38 gf gn (M221.1 98 6).toInt) (by omega)
        refine j_callVi C (d := 6) (As := [.int (sI 38)]) (st := []) 98 (s_lt rfl rfl) (s_kc (c := 11) rfl rfl) (by decide) rfl (s1_X12_eats hM221 hpr 38 (by omega) gf gn ((trP gf gn (unR gf gn 1)) (nxF gf gn gi)).2.2 (by omega) (by omega) (by omega) (by omega) (by omega)) gX12_readUnit_X12_eats rfl hdX12_eats (by decide) (Nat.le_of_ble_eq_true rfl) dX12_readUnit_61 rfl (fun r227 M228 h229 => ?_)
        obtain ⟨a231, rfl, hM228, fM228, h230⟩ := h229
        have k232 := tk_c gf gn (M228.1 98 6).toInt (M221.1 98 6).toInt
        have bM228 := tkm_b (f := gf) (n := gn) (M := M228) (by omega)
        have u233c := xw_c (N := M221) (P := M228) 0 (FR.cell fM228 (by decide)) (by omega)
        have u233t := xw_t (M := M0) (N := M221) (P := M228) (r1 := 0) (e1 := 1) (s1 := 1) (r2 := 0) (e2 := 0) (s2 := 0) 0 1 0 (by decide) (by omega) (by omega)
        have u233l := ri_l (M := M228) (by omega)
        refine y_if_ne C 72 dX12_readUnit_64 (by decide) (by omega) (fun h234 => ?_) (fun h234 => ?_)
        · have u235a := ca_x (M := M0) (N := M228) (r := 0) (e := 1) (s := 0) (by decide) (by omega) (by omega)
          have u236x := ex_1 gf gn 2093 ((trP gf gn (unR gf gn 1)) (nxF gf gn gi)).2.2 (M221.1 98 11).toInt (M221.1 98 12).toInt (M221.1 98 6).toInt (M228.1 98 11).toInt (M228.1 98 12).toInt (M228.1 98 6).toInt (by omega) (by omega) (by omega) (by omega) (by omega) (by omega)
          have u236r := un_2 gf gn 1 2 rfl gi (M0.1 98 11).toInt (M0.1 98 12).toInt (M0.1 98 6).toInt (M214.1 98 11).toInt (M214.1 98 12).toInt (M221.1 98 11).toInt (M221.1 98 12).toInt (M221.1 98 6).toInt (M228.1 98 11).toInt (M228.1 98 12).toInt (M228.1 98 6).toInt (by omega) (by omega) (by omega) (by omega) (by omega) (by omega)
          have u236l : b01 (CL AGR (M228.1 98 11).toInt M0 M228 ((uLR gf gn 2) gi)) = 1 := cl_e (cl_t (cl_t (cl_r (A := AGR) (M := M0) (N := M214) (M214.1 98 11).toInt (agr_c (FR.cell fM214 (by decide)))) (show b01 (CL AGR (M221.1 98 11).toInt M214 M221 ((trL gf gn (unR gf gn 1) (uLR gf gn 1)) (nxF gf gn gi))) = 1 by omega) (fun z => rr_z (show b01 (RR ((trP gf gn (unR gf gn 1)) (nxF gf gn gi)) (M214.1 98 11).toInt (M214.1 98 12).toInt (M221.1 98 11).toInt (M221.1 98 12).toInt (M221.1 98 6).toInt) = 1 by omega) z)) (cl_r (A := AGR) (M := M221) (N := M228) (M228.1 98 11).toInt (agr_c (FR.cell fM228 (by decide)))) (fun z => by omega)) (fun z => by rw [un_l2 gf gn 1 2 rfl (show b01 (PO gn gi (M0.1 98 11).toInt (M0.1 98 6).toInt) = 1 by omega) (by omega) (by omega), List.nil_append, List.append_nil])
          exact hret _ _ _ dX12_readUnit_72 ⟨hM228, (((FR.rf.tr fM214 (by decide)).tr fM221 (by decide)).tr fM228 (by decide)), by omega⟩
        · refine j_aload_n C 0 0 dX12_readUnit_67 rfl rfl ?_
          refine y_iconst C dX12_readUnit_68 ?_
          have p237 := po_eq gn ((trP gf gn (unR gf gn 1)) (nxF gf gn gi)).2.2 (M221.1 98 11).toInt (M221.1 98 6).toInt (M228.1 98 11).toInt (M228.1 98 6).toInt (by omega) (by omega) (by omega)
          refine j_callVv C (d := 0) (As := [.int (sI 2)]) (st := []) 98 (s_lt rfl rfl) (s_kc (c := 11) rfl rfl) (by decide) rfl (s1_X12_fails hM228 hpr 2 (by omega) gf gn ((trP gf gn (unR gf gn 1)) (nxF gf gn gi)).2.2 (by omega) (by omega) (by omega) (by omega) (by omega)) gX12_readUnit_X12_fails rfl hdX12_fails (by decide) (Nat.le_of_ble_eq_true rfl) dX12_readUnit_69 rfl (fun M239 h240 => ?_)
          obtain ⟨hM239, fM239, h241⟩ := h240
          have bM239 := tkm_b (f := gf) (n := gn) (M := M239) (by omega)
          have qM239 := po_f gn ((faQ gf gn 2) ((trP gf gn (unR gf gn 1)) (nxF gf gn gi)).2.2).2.2 (M239.1 98 11).toInt (M239.1 98 6).toInt (by omega)
          have u242f : b01 (XW M0 M239 0 1 0) = 1 := b01_i (Or.inl (by omega))
          have u242a := ca_x (M := M0) (N := M239) (r := 0) (e := 1) (s := 0) (by decide) (by omega) (by omega)
          have u243x := ex_2z gf gn 2093 ((trP gf gn (unR gf gn 1)) (nxF gf gn gi)).2.2 (M221.1 98 11).toInt (M221.1 98 12).toInt (M221.1 98 6).toInt (M239.1 98 11).toInt (M239.1 98 12).toInt (M239.1 98 6).toInt (by omega) (by omega) (rr_fr (faQ gf gn 2 ((trP gf gn (unR gf gn 1)) (nxF gf gn gi)).2.2) (M221.1 98 11).toInt (M221.1 98 12).toInt (M228.1 98 11).toInt (M228.1 98 12).toInt (M239.1 98 11).toInt (M239.1 98 12).toInt (M239.1 98 6).toInt (by omega) (by omega) (by omega))
          have u243r := un_2 gf gn 1 2 rfl gi (M0.1 98 11).toInt (M0.1 98 12).toInt (M0.1 98 6).toInt (M214.1 98 11).toInt (M214.1 98 12).toInt (M221.1 98 11).toInt (M221.1 98 12).toInt (M221.1 98 6).toInt (M239.1 98 11).toInt (M239.1 98 12).toInt (M239.1 98 6).toInt (by omega) (by (clear u243x u242a u242f qM239 bM239 h241 fM239 hM239 p237 h234 u233l u233t u233c bM228 k232 h230 fM228 hM228 k226 k225 u224l u224t qM221 bM221 h223 fM221 hM221 u219l u219a u219t u219c h218 bM214 h216 fM214 hM214 u212k k110 h109 h107 k103 u101l u101z hret C hp4 hp3 hp2 hp1 hp0 hpr hM0; omega)) (by (clear u243x u242a u242f qM239 bM239 h241 fM239 hM239 p237 h234 u233l u233t u233c bM228 k232 h230 fM228 hM228 k226 k225 u224l u224t qM221 bM221 h223 fM221 hM221 u219l u219a u219t u219c h218 bM214 fM214 hM214 u212k h117 h115 k111 k110 h109 h107 k103 k102 u101l u101z hret C hp4 hp3 hp2 hp1 hp0 hpr hM0; omega)) (by omega) (by omega) (by omega)
          have u243l := cl_n (A := AGR) (M := M0) (N := M239) ((uLR gf gn 2) gi) (a := (M239.1 98 11).toInt) (by omega)
          exact hret _ _ _ dX12_readUnit_72 ⟨hM239, ((((FR.rf.tr fM214 (by decide)).tr fM221 (by decide)).tr fM228 (by decide)).tr fM239 (by decide)), by omega⟩
      · exfalso; omega
  · have u244k := ri_k (M := M0) (by omega) (by omega)
    refine j_aload_n C 0 0 dX12_readUnit_9 rfl rfl ?_
    refine j_iload_n C 1 1 dX12_readUnit_10 rfl rfl ?_
    refine j_callVi C (d := 6) (As := [.int (sI 4)]) (st := []) 98 (s_lt rfl rfl) (s_kc (c := 11) rfl rfl) (by decide) rfl (s5_X12_goesIn hM0 hpr gf gn gi (by omega) (by omega) (by omega) (by omega) (by omega) (by omega) (by omega)) gX12_readUnit_X12_goesIn rfl hdX12_goesIn (by decide) (Nat.le_of_ble_eq_true rfl) dX12_readUnit_11 rfl (fun r245 M246 h247 => ?_)
    obtain ⟨a249, rfl, hM246, fM246, h248⟩ := h247
    have bM246 := tkm_b (f := gf) (n := gn) (M := M246) (by omega)
    refine y_if_ne C 18 dX12_readUnit_14 (by decide) (by omega) (fun h250 => ?_) (fun h250 => ?_)
    · have u251c := xw_c (N := M0) (P := M246) 1 (FR.cell fM246 (by decide)) (by omega)
      have u251t := xw_t (M := M0) (N := M0) (P := M246) (r1 := 0) (e1 := 0) (s1 := 0) (r2 := 0) (e2 := 0) (s2 := 1) 0 0 1 (by decide) (by omega) (by omega)
      have u251a := ca_x (M := M0) (N := M246) (r := 0) (e := 0) (s := 1) (by decide) (by omega) (by omega)
      have u251l := ri_l (M := M246) (by omega)
      refine j_aload_n C 0 0 dX12_readUnit_18 rfl rfl ?_
      refine j_iload_n C 1 1 dX12_readUnit_19 rfl rfl ?_
      refine y_iconst C dX12_readUnit_20 ?_
      refine y_iadd C dX12_readUnit_21 ?_
      refine j_callVv C (d := 13) (As := [.int (sI (4 + 1))]) (st := []) 98 (s_lt rfl rfl) (s_kc (c := 11) rfl rfl) (by decide) rfl (s2_X12_readUnit hM246 hpr gf gn (nxF gf gn gi) (by omega) (by omega) (by omega) (by omega) (by omega)) gX12_readUnit_X12_readUnit rfl hdX12_readUnit (by decide) (Nat.le_of_ble_eq_true rfl) dX12_readUnit_22 rfl (fun M253 h254 => ?_)
      obtain ⟨hM253, fM253, h255⟩ := h254
      have bM253 := tkm_b (f := gf) (n := gn) (M := M253) (by omega)
      have qM253 := po_rr (unR gf gn 1) gn (nxF gf gn gi) (M246.1 98 11).toInt (M246.1 98 12).toInt (M246.1 98 6).toInt (M253.1 98 11).toInt (M253.1 98 12).toInt (M253.1 98 6).toInt (unR_g gf gn 1) (by omega) (by omega)
      have u256t := xw_t (M := M0) (N := M246) (P := M253) (r1 := 0) (e1 := 0) (s1 := 1) (r2 := 0) (e2 := 1) (s2 := 0) 0 1 1 (by decide) (by omega) (by omega)
      have u256l := ri_l (M := M253) (by omega)
      have u256b := cb_x (M := M0) (N := M253) (r := 0) (e := 1) (s := 1) (by decide) (by omega) (by omega) (by omega)
      refine j_aload_n C 0 0 dX12_readUnit_25 rfl rfl ?_
      refine y_sipush C dX12_readUnit_26 rfl ?_
      refine j_callVv C (d := 0) (As := [.int (sI 3006)]) (st := []) 98 (s_lt rfl rfl) (s_kc (c := 11) rfl rfl) (by decide) rfl (s1_X12_codes hM253 hpr 3006 (by omega) gf gn ((unR gf gn 1) (nxF gf gn gi)).2.2 (by omega) (by omega) (by omega) (by omega)) gX12_readUnit_X12_codes rfl hdX12_codes (by decide) (Nat.le_of_ble_eq_true rfl) dX12_readUnit_29 rfl (fun M258 h259 => ?_)
      obtain ⟨hM258, fM258, h260⟩ := h259
      have k261 := tk_c gf gn (M258.1 98 6).toInt (M253.1 98 6).toInt
      have bM258 := tkm_b (f := gf) (n := gn) (M := M258) (by omega)
      have qM258 := po_eq gn ((unR gf gn 1) (nxF gf gn gi)).2.2 (M253.1 98 11).toInt (M253.1 98 6).toInt (M258.1 98 11).toInt (M258.1 98 6).toInt (by omega) (by omega) (by omega)
      have u262x := xw_a (M := M253) (N := M258) (c := 3006) (r := 1) (e := 0) (FR.cell fM258 (by decide)) (ap_not (INV.rd hM253 (i := 102) (c := 48) (k := 280) rfl rfl).1) (by omega)
      have u262t := xw_t (M := M0) (N := M253) (P := M258) (r1 := 0) (e1 := 1) (s1 := 1) (r2 := 1) (e2 := 0) (s2 := (-1)) 0 1 0 (by decide) (by omega) (by omega)
      have u262i := ri_c (M := M253) (N := M258) (FR.cell fM258 (by decide)) (by omega)
      have u262l := ri_l (M := M258) (by omega)
      have u262a := ca_x (M := M0) (N := M258) (r := 0) (e := 1) (s := 0) (by decide) (by omega) (by omega)
      have u263r := un_1 gf gn 1 2 rfl gi (M0.1 98 11).toInt (M0.1 98 12).toInt (M0.1 98 6).toInt (M246.1 98 11).toInt (M246.1 98 12).toInt (M253.1 98 11).toInt (M253.1 98 12).toInt (M253.1 98 6).toInt (M258.1 98 11).toInt (M258.1 98 12).toInt (M258.1 98 6).toInt (by omega) (by omega) (by omega) (by omega) (by omega) (by omega) (by omega) (by omega)
      have u263l : b01 (CL AGR (M258.1 98 11).toInt M0 M258 ((uLR gf gn 2) gi)) = 1 := cl_e (cl_t (cl_t (cl_r (A := AGR) (M := M0) (N := M246) (M246.1 98 11).toInt (agr_c (FR.cell fM246 (by decide)))) (show b01 (CL AGR (M253.1 98 11).toInt M246 M253 ((uLR gf gn 1) (nxF gf gn gi))) = 1 by omega) (fun z => rr_z (show b01 (RR ((unR gf gn 1) (nxF gf gn gi)) (M246.1 98 11).toInt (M246.1 98 12).toInt (M253.1 98 11).toInt (M253.1 98 12).toInt (M253.1 98 6).toInt) = 1 by omega) z)) (show b01 (CL AGR (M258.1 98 11).toInt M253 M258 [3006]) = 1 by omega) (fun z => by omega)) (fun z => by rw [un_l1 gf gn 1 2 rfl (show b01 (PO gn gi (M0.1 98 11).toInt (M0.1 98 6).toInt) = 1 by omega) (by omega) (by omega), cm_tab.2.2.2.2.2.2.1, List.nil_append])
      have zz98_11 : (M258.1 98 11).toInt = (M253.1 98 11).toInt := s_fF fM258 (by decide) (rfl); have zz98_12 : (M258.1 98 12).toInt = (M253.1 98 12).toInt := s_fF fM258 (by decide) (rfl); have zz98_6 : (M258.1 98 6).toInt = (M253.1 98 6).toInt := s_fF fM258 (by decide) (rfl); have zz98_8 : (M258.1 98 8).toInt = (M253.1 98 8).toInt := s_fF fM258 (by decide) (rfl); exact hret _ _ _ dX12_readUnit_32 ⟨hM258, (((FR.rf.tr fM246 (by decide)).tr fM253 (by decide)).tr fM258 (by decide)), by omega⟩
    · exfalso; omega
set_option maxHeartbeats 4000000 in
theorem s3_X12_readBoth {l : Launch} {dC : Nat → ClassId} {dI : Nat → Nat → Nat} {ad : Nat → Nat} {cA : Nat → ClassId} {pr : Nat → Nat → Bool} {Kz : mm_M} {M0 : mm_M} (hM0 : INV pr Kz M0) (hpr : PM pr) (gf : Nat → Int) (gn : Int) (gi : Int) (hp0 : b01 (RIP M0) = 1) (hp1 : b01 (CA M0) = 1) (hp2 : b01 (TKM gf gn M0) = 1) (hp3 : b01 (PO gn gi (M0.1 98 11).toInt (M0.1 98 6).toInt) = 1) (hp4 : b01 (PI M0) = 1) : Cv l 17 yX12_readBoth wsX12_readBoth dC dI ad cA [.ref (ad 98), .int (sI 4)] M0 (fun M' => INV pr Kz M' ∧ FR [98, 102] M0 M' ∧ (b01 (RIP M') = 1) ∧ ((M'.1 98 8).toInt = (M0.1 98 8).toInt) ∧ ((M0.1 98 6).toInt ≤ (M'.1 98 6).toInt) ∧ (b01 (XW M0 M' 0 1 0) = 1) ∧ (b01 (CA M') = 1) ∧ (b01 (CL AGR (M'.1 98 11).toInt M0 M' ((boL gf gn (unR gf gn 2) (uLR gf gn 2)) gi)) = 1) ∧ (b01 (PI M') = 1) ∧ (b01 (TKM gf gn M') = 1) ∧ b01 (RR ((boP gf gn (unR gf gn 2)) gi) (M0.1 98 11).toInt (M0.1 98 12).toInt (M'.1 98 11).toInt (M'.1 98 12).toInt (M'.1 98 6).toInt) = 1) := by
  refine cv_of (cc := cX12_readBoth) (maxL := 2) (lv := [(0, .ref (ad 98)), (1, .int (sI 4))]) (by decide) rfl (Nat.le_of_ble_eq_true rfl) rfl ?_
  intro p e s m args below meth c A Q C hret
  have u101z := xw_0 M0
  have u101l := ri_l (M := M0) (by omega)
  refine j_aload_n C 0 0 dX12_readBoth_0 rfl rfl ?_
  refine j_iload_n C 1 1 dX12_readBoth_1 rfl rfl ?_
  refine j_callVv C (d := 16) (As := [.int (sI 4)]) (st := []) 98 (s_lt rfl rfl) (s_kc (c := 11) rfl rfl) (by decide) rfl (s3_X12_readUnit hM0 hpr gf gn gi (by omega) (by omega) (by omega) (by omega) (by omega)) gX12_readBoth_X12_readUnit rfl hdX12_readUnit (by decide) (Nat.le_of_ble_eq_true rfl) dX12_readBoth_2 rfl (fun M103 h104 => ?_)
  obtain ⟨hM103, fM103, h105⟩ := h104
  have bM103 := tkm_b (f := gf) (n := gn) (M := M103) (by omega)
  have qM103 := po_rr (unR gf gn 2) gn gi (M0.1 98 11).toInt (M0.1 98 12).toInt (M0.1 98 6).toInt (M103.1 98 11).toInt (M103.1 98 12).toInt (M103.1 98 6).toInt (unR_g gf gn 2) (by omega) (by omega)
  have u106l := ri_l (M := M103) (by omega)
  have u106L := ll_0 (luP gf gn 1015 1015 (unR gf gn 2)) gn ((unR gf gn 2) gi).2.2 (M103.1 98 11).toInt (M103.1 98 12).toInt (M103.1 98 6).toInt (by omega)
  have u106c := lc_0 (A := AGR) (M103.1 98 11).toInt (luL gf gn 1015 1015 (unR gf gn 2) (uLR gf gn 2)) ((unR gf gn 2) gi).2.2 M103
  have L133 : ∀ (n131 : Nat), ∀ (M134 : mm_M) (gq135 : Int), ((b01 (RIP M134) = 1) ∧ ((M134.1 98 8).toInt = (M0.1 98 8).toInt) ∧ ((M0.1 98 6).toInt ≤ (M134.1 98 6).toInt) ∧ (b01 (XW M0 M134 0 1 0) = 1) ∧ ((M134.1 98 6).toInt ≤ 900) ∧ (b01 (LL (luP gf gn 1015 1015 (unR gf gn 2)) gn ((unR gf gn 2) gi).2.2 gq135 0 (M103.1 98 11).toInt (M103.1 98 12).toInt (M134.1 98 11).toInt (M134.1 98 12).toInt (M134.1 98 6).toInt) = 1) ∧ (b01 (LC AGR (M134.1 98 11).toInt (luL gf gn 1015 1015 (unR gf gn 2) (uLR gf gn 2)) ((unR gf gn 2) gi).2.2 gq135 M103 M134) = 1) ∧ (b01 (TKM gf gn M134) = 1) ∧ (b01 (PO gn gq135 (M134.1 98 11).toInt (M134.1 98 6).toInt) = 1) ∧ (b01 (PI M134) = 1) ∧ (900 - (M134.1 98 6).toInt) < (n131 : Int)) → INV pr Kz M134 → FR [98, 102] M0 M134 → jj p l e (cn_R 17) s m args below meth c 0 0 Q 2 dC dI ad cA A M134 5 [(0, .ref (ad 98)), (1, .int (sI 4))] [] := by
    intro n131
    induction n131 with
    | zero =>
      intro M134 gq135 h136 hM134 fM134
      exfalso; omega
    | succ n131 ih132 =>
      intro M134 gq135 h136 hM134 fM134
      have u137l := ri_l (M := M134) (by omega)
      have u137B := tkm_b (f := gf) (n := gn) (M := M134) (by omega)
      refine j_aload_n C 0 0 dX12_readBoth_5 rfl rfl ?_
      refine y_bipush C dX12_readBoth_6 rfl ?_
      have k138 := tkm_K (f := gf) (n := gn) (M := M134) (by omega)
      have k139 := kd_2 (kdk_14 gf gn (M134.1 98 6).toInt) (by omega)
      refine j_callVi C (d := 6) (As := [.int (sI 14)]) (st := []) 98 (s_lt rfl rfl) (s_kc (c := 11) rfl rfl) (by decide) rfl (s1_X12_eats hM134 hpr 14 (by omega) gf gn gq135 (by omega) (by omega) (by omega) (by omega) (by omega)) gX12_readBoth_X12_eats rfl hdX12_eats (by decide) (Nat.le_of_ble_eq_true rfl) dX12_readBoth_8 rfl (fun r140 M141 h142 => ?_)
      obtain ⟨a144, rfl, hM141, fM141, h143⟩ := h142
      have k145 := tk_c gf gn (M141.1 98 6).toInt (M134.1 98 6).toInt
      have bM141 := tkm_b (f := gf) (n := gn) (M := M141) (by omega)
      refine y_if_eq C 29 dX12_readBoth_11 (by decide) (by omega) (fun h146 => ?_) (fun h146 => ?_)
      · have u159c := xw_c (N := M134) (P := M141) 0 (FR.cell fM141 (by decide)) (by omega)
        have u159t := xw_t (M := M0) (N := M134) (P := M141) (r1 := 0) (e1 := 1) (s1 := 0) (r2 := 0) (e2 := 0) (s2 := 0) 0 1 0 (by decide) (by omega) (by omega)
        have u159a := ca_x (M := M0) (N := M141) (r := 0) (e := 1) (s := 0) (by decide) (by omega) (by omega)
        have u159E := ll_e gf gn 1015 1015 (unR gf gn 2) ((unR gf gn 2) gi).2.2 gq135 0 (M103.1 98 11).toInt (M103.1 98 12).toInt (M134.1 98 11).toInt (M134.1 98 12).toInt (M134.1 98 6).toInt (by decide) (unR_g gf gn 2) (by omega) (by omega)
        have u159S : b01 (RR ((boP gf gn (unR gf gn 2)) gi) (M0.1 98 11).toInt (M0.1 98 12).toInt (M134.1 98 11).toInt (M134.1 98 12).toInt (M134.1 98 6).toInt) = 1 := rr_sq ((unR gf gn 2) gi) (luP gf gn 1015 1015 (unR gf gn 2)) (M0.1 98 11).toInt (M0.1 98 12).toInt (M103.1 98 11).toInt (M103.1 98 12).toInt (M103.1 98 6).toInt (M134.1 98 11).toInt (M134.1 98 12).toInt (M134.1 98 6).toInt (by omega) (by omega)
        have u159R := rr_eq ((boP gf gn (unR gf gn 2)) gi) (M0.1 98 11).toInt (M0.1 98 12).toInt (M134.1 98 11).toInt (M134.1 98 12).toInt (M134.1 98 6).toInt (M141.1 98 11).toInt (M141.1 98 12).toInt (M141.1 98 6).toInt (by omega) (by omega) (by omega) (by omega)
        have u159x := lc_e gf gn 1015 1015 (unR gf gn 2) ((uLR gf gn 2)) (by decide) (show b01 (LC AGR (M134.1 98 11).toInt (luL gf gn 1015 1015 (unR gf gn 2) (uLR gf gn 2)) ((unR gf gn 2) gi).2.2 gq135 M103 M134) = 1 by omega) (show b01 (LL (luP gf gn 1015 1015 (unR gf gn 2)) gn ((unR gf gn 2) gi).2.2 gq135 0 (M103.1 98 11).toInt (M103.1 98 12).toInt (M134.1 98 11).toInt (M134.1 98 12).toInt (M134.1 98 6).toInt) = 1 by omega) (by omega)
        have u159y : b01 (CL AGR (M134.1 98 11).toInt M0 M134 ((boL gf gn (unR gf gn 2) (uLR gf gn 2)) gi)) = 1 := cl_e (cl_t (show b01 (CL AGR (M103.1 98 11).toInt M0 M103 ((uLR gf gn 2) gi)) = 1 by omega) u159x (fun z => rr_z (show b01 (RR ((luP gf gn 1015 1015 (unR gf gn 2)) ((unR gf gn 2) gi).2.2) (M103.1 98 11).toInt (M103.1 98 12).toInt (M134.1 98 11).toInt (M134.1 98 12).toInt (M134.1 98 6).toInt) = 1 by omega) z)) (fun z => rfl)
        have u159l : b01 (CL AGR (M141.1 98 11).toInt M0 M141 ((boL gf gn (unR gf gn 2) (uLR gf gn 2)) gi)) = 1 := cl_e (cl_t u159y (cl_r (A := AGR) (M := M134) (N := M141) (M141.1 98 11).toInt (agr_c (FR.cell fM141 (by decide)))) (fun z => by omega)) (fun z => (List.append_nil _).symm)
        exact hret _ _ _ dX12_readBoth_29 ⟨hM141, ((FR.rf.tr fM134 (by decide)).tr fM141 (by decide)), by omega⟩
      · have u147c := xw_c (N := M134) (P := M141) 1 (FR.cell fM141 (by decide)) (by omega)
        have u147t := xw_t (M := M0) (N := M134) (P := M141) (r1 := 0) (e1 := 1) (s1 := 0) (r2 := 0) (e2 := 0) (s2 := 1) 0 1 1 (by decide) (by omega) (by omega)
        have u147a := ca_x (M := M0) (N := M141) (r := 0) (e := 1) (s := 1) (by decide) (by omega) (by omega)
        have u147l := ri_l (M := M141) (by omega)
        refine j_aload_n C 0 0 dX12_readBoth_14 rfl rfl ?_
        refine j_iload_n C 1 1 dX12_readBoth_15 rfl rfl ?_
        refine j_callVv C (d := 16) (As := [.int (sI 4)]) (st := []) 98 (s_lt rfl rfl) (s_kc (c := 11) rfl rfl) (by decide) rfl (s3_X12_readUnit hM141 hpr gf gn (nxF gf gn gq135) (by omega) (by omega) (by omega) (by omega) (by omega)) gX12_readBoth_X12_readUnit rfl hdX12_readUnit (by decide) (Nat.le_of_ble_eq_true rfl) dX12_readBoth_16 rfl (fun M149 h150 => ?_)
        obtain ⟨hM149, fM149, h151⟩ := h150
        have bM149 := tkm_b (f := gf) (n := gn) (M := M149) (by omega)
        have qM149 := po_rr (unR gf gn 2) gn (nxF gf gn gq135) (M141.1 98 11).toInt (M141.1 98 12).toInt (M141.1 98 6).toInt (M149.1 98 11).toInt (M149.1 98 12).toInt (M149.1 98 6).toInt (unR_g gf gn 2) (by omega) (by omega)
        have u152t := xw_t (M := M0) (N := M141) (P := M149) (r1 := 0) (e1 := 1) (s1 := 1) (r2 := 0) (e2 := 1) (s2 := 0) 0 2 1 (by decide) (by omega) (by omega)
        have u152l := ri_l (M := M149) (by omega)
        have u152b := cb_x (M := M0) (N := M149) (r := 0) (e := 2) (s := 1) (by decide) (by omega) (by omega) (by omega)
        refine j_aload_n C 0 0 dX12_readBoth_19 rfl rfl ?_
        refine y_sipush C dX12_readBoth_20 rfl ?_
        refine j_callVv C (d := 0) (As := [.int (sI 3007)]) (st := []) 98 (s_lt rfl rfl) (s_kc (c := 11) rfl rfl) (by decide) rfl (s1_X12_codes hM149 hpr 3007 (by omega) gf gn ((unR gf gn 2) (nxF gf gn gq135)).2.2 (by omega) (by omega) (by omega) (by omega)) gX12_readBoth_X12_codes rfl hdX12_codes (by decide) (Nat.le_of_ble_eq_true rfl) dX12_readBoth_23 rfl (fun M154 h155 => ?_)
        obtain ⟨hM154, fM154, h156⟩ := h155
        have k157 := tk_c gf gn (M154.1 98 6).toInt (M149.1 98 6).toInt
        have bM154 := tkm_b (f := gf) (n := gn) (M := M154) (by omega)
        have qM154 := po_eq gn ((unR gf gn 2) (nxF gf gn gq135)).2.2 (M149.1 98 11).toInt (M149.1 98 6).toInt (M154.1 98 11).toInt (M154.1 98 6).toInt (by omega) (by omega) (by omega)
        refine j_goto C 5 dX12_readBoth_26 (by decide) ?_
        have u158x := xw_a (M := M149) (N := M154) (c := 3007) (r := 2) (e := (-1)) (FR.cell fM154 (by decide)) (ap_bin ⟨(INV.rd hM149 (i := 102) (c := 48) (k := 280) rfl rfl).1, by omega, by omega⟩) (by omega)
        have u158t := xw_t (M := M0) (N := M149) (P := M154) (r1 := 0) (e1 := 2) (s1 := 1) (r2 := 2) (e2 := (-1)) (s2 := (-1)) 0 1 0 (by decide) (by omega) (by omega)
        have u158i := ri_c (M := M149) (N := M154) (FR.cell fM154 (by decide)) (by omega)
        have u158l := ri_l (M := M154) (by omega)
        have u158L := ll_w (luP gf gn 1015 1015 (unR gf gn 2)) gn ((unR gf gn 2) gi).2.2 ((unR gf gn 2) (nxF gf gn gq135)).2.2 (0 + 1) 0 (M103.1 98 11).toInt (M103.1 98 12).toInt (M154.1 98 11).toInt (M154.1 98 12).toInt (M154.1 98 6).toInt (by decide) (ll_s gf gn 1015 1015 (unR gf gn 2) ((unR gf gn 2) gi).2.2 gq135 0 (M103.1 98 11).toInt (M103.1 98 12).toInt (M134.1 98 11).toInt (M134.1 98 12).toInt (M134.1 98 6).toInt (M141.1 98 11).toInt (M141.1 98 12).toInt (M149.1 98 11).toInt (M149.1 98 12).toInt (M149.1 98 6).toInt (M154.1 98 11).toInt (M154.1 98 12).toInt (M154.1 98 6).toInt (by decide) (unR_g gf gn 2) (by omega) (by omega) (by omega) (by omega) (by omega) (by omega) (by omega) (by omega) (by omega))
        have u158c := lc_s gf gn 1015 1015 (unR gf gn 2) (uLR gf gn 2) (by decide) (unR_g gf gn 2) (show b01 (LC AGR (M134.1 98 11).toInt (luL gf gn 1015 1015 (unR gf gn 2) (uLR gf gn 2)) ((unR gf gn 2) gi).2.2 gq135 M103 M134) = 1 by omega) (show b01 (PO gn gq135 (M134.1 98 11).toInt (M134.1 98 6).toInt) = 1 by omega) (by omega) (show b01 (RR ((unR gf gn 2) (nxF gf gn gq135)) (M141.1 98 11).toInt (M141.1 98 12).toInt (M149.1 98 11).toInt (M149.1 98 12).toInt (M149.1 98 6).toInt) = 1 by omega) (fun z => by omega) (cl_e (L := ([] ++ ((uLR gf gn 2) (nxF gf gn gq135))) ++ [3007]) (cl_t (cl_t (cl_r (A := AGR) (M := M134) (N := M141) (M141.1 98 11).toInt (agr_c (FR.cell fM141 (by decide)))) (show b01 (CL AGR (M149.1 98 11).toInt M141 M149 ((uLR gf gn 2) (nxF gf gn gq135))) = 1 by omega) (fun z => rr_z (show b01 (RR ((unR gf gn 2) (nxF gf gn gq135)) (M141.1 98 11).toInt (M141.1 98 12).toInt (M149.1 98 11).toInt (M149.1 98 12).toInt (M149.1 98 6).toInt) = 1 by omega) z)) (show b01 (CL AGR (M154.1 98 11).toInt M149 M154 [3007]) = 1 by omega) (fun z => by omega)) (fun z => by rw [show tkF gf gn (M134.1 98 6).toInt = 1015 by omega, cm_tab.2.2.2.2.2.2.2.1, List.nil_append]) : b01 (CL AGR (M154.1 98 11).toInt M134 M154 (((uLR gf gn 2) (nxF gf gn gq135)) ++ [cmF (tkF gf gn (M134.1 98 6).toInt)])) = 1) (fun z => by omega)
        have zz98_8 : (M154.1 98 8).toInt = (M149.1 98 8).toInt := s_fF fM154 (by decide) (rfl); have zz98_6 : (M154.1 98 6).toInt = (M149.1 98 6).toInt := s_fF fM154 (by decide) (rfl); have zz98_12 : (M154.1 98 12).toInt = (M149.1 98 12).toInt := s_fF fM154 (by decide) (rfl); have zz98_11 : (M154.1 98 11).toInt = (M149.1 98 11).toInt := s_fF fM154 (by decide) (rfl); exact ih132 M154 ((unR gf gn 2) (nxF gf gn gq135)).2.2 (by (clear zz98_11 zz98_12 zz98_6 zz98_8 u158l u158x k157 fM154 hM154 u152b u152l u152t qM149 fM149 hM149 u147l u147a u147t u147c bM141 k145 fM141 hM141 k139 k138 u137B u137l fM134 hM134 ih132 u106c u106L u106l qM103 bM103 h105 fM103 hM103 u101l u101z hret C hp4 hp3 hp2 hp1 hp0 hpr hM0; omega)) hM154 ((((FR.rf.tr fM134 (by decide)).tr fM141 (by decide)).tr fM149 (by decide)).tr fM154 (by decide))
  exact L133 2010 M103 ((unR gf gn 2) gi).2.2 (by omega) hM103 (FR.rf.tr fM103 (by decide))
