/-! WHAT HOLDS BETWEEN THE CALLS -/
def prX (i k : Nat) : Bool := decide (98 ≤ i)
def prM (i k : Nat) : Bool := decide (i < 98) || (decide (i = 99) && ca k)
def pr0 (i k : Nat) : Bool := decide (i < 98)
theorem s_c_side : ∀ i, i < mm_N → ((s_c i ≤ 10 ∨ (20 ≤ s_c i ∧ s_c i ≤ 44)) → i < 98) ∧ ((s_c i = 11 ∨ (45 ≤ s_c i ∧ s_c i ≤ 63)) → 98 ≤ i) ∧ (s_c i = 45 ↔ i = 99) := by decide +kernel
theorem s_c_out {i : Nat} (h : ¬ i < mm_N) : s_c i = 999 := by
  unfold s_c; rw [List.getD_eq_getElem?_getD, List.getElem?_eq_none (by simpa [s_cl, mm_N] using h)]; rfl
theorem hPX : PX prX := by
  intro i k h
  unfold prX
  by_cases hi : i < mm_N
  · have h2 : s_c i ≤ 10 ∨ (20 ≤ s_c i ∧ s_c i ≤ 44) := by
      unfold px at h
      rw [Bool.and_eq_true, Bool.or_eq_true, Bool.and_eq_true] at h
      rcases h.1 with q | q
      · exact Or.inl (Nat.le_of_ble_eq_true q)
      · exact Or.inr ⟨Nat.le_of_ble_eq_true q.1, Nat.le_of_ble_eq_true q.2⟩
    have := (s_c_side i hi).1 h2
    exact decide_eq_false (by omega)
  · rw [s_c_out hi] at h; exact absurd h (by simp [px])
theorem hXc {i c k : Nat} (hc : c ≤ 10) (h : s_c i = c) : prX i k = false := by
  by_cases hi : i < mm_N
  · have := (s_c_side i hi).1 (Or.inl (by omega))
    exact decide_eq_false (by omega)
  · rw [s_c_out hi] at h; omega
theorem pm_c {c k : Nat} (h : pm c k = true) : (c = 11 ∨ (45 ≤ c ∧ c ≤ 63)) ∧ (c = 45 → ca k = false) := by
  unfold pm at h
  rw [Bool.or_eq_true, Bool.or_eq_true, Bool.and_eq_true, Bool.and_eq_true] at h
  rcases h with (h | h) | h
  · have := Nat.eq_of_beq_eq_true h.1
    exact ⟨Or.inl this, fun q => by omega⟩
  · have := Nat.eq_of_beq_eq_true h.1
    exact ⟨Or.inr (by omega), fun _ => by simpa using h.2⟩
  · rw [Bool.and_eq_true, Bool.and_eq_true, Bool.and_eq_true] at h
    have h1 := Nat.le_of_ble_eq_true h.1.1.1
    have h2 := Nat.le_of_ble_eq_true h.1.1.2
    exact ⟨Or.inr (by omega), fun q => by omega⟩
theorem hPM : PM prM := by
  intro i k h
  obtain ⟨h1, h2⟩ := pm_c h
  unfold prM
  by_cases hi : i < mm_N
  · have g := s_c_side i hi
    have h3 := g.2.1 h1
    have e1 : decide (i < 98) = false := decide_eq_false (by omega)
    rw [e1]
    by_cases q : i = 99
    · rw [h2 (g.2.2.mpr q)]; simp
    · simp [q]
  · rw [s_c_out hi] at h1; omega
theorem hPM0 : PM pr0 := by
  intro i k h
  obtain ⟨h1, h2⟩ := pm_c h
  by_cases hi : i < mm_N
  · have h3 := (s_c_side i hi).2.1 h1
    exact decide_eq_false (by omega)
  · rw [s_c_out hi] at h1; omega
theorem hMc {i c k : Nat} (hc : c = 11 ∨ (46 ≤ c ∧ c ≤ 63)) (h : s_c i = c) : prM i k = false := by
  unfold prM
  by_cases hi : i < mm_N
  · have g := s_c_side i hi
    have h3 := g.2.1 (by omega)
    have h4 : i ≠ 99 := fun q => by have := g.2.2.mpr q; omega
    have e1 : decide (i < 98) = false := decide_eq_false (by omega)
    rw [e1]; simp [h4]
  · rw [s_c_out hi] at h; omega
theorem h0c {i c k : Nat} (hc : c = 11 ∨ (45 ≤ c ∧ c ≤ 63)) (h : s_c i = c) : pr0 i k = false := by
  by_cases hi : i < mm_N
  · have h3 := (s_c_side i hi).2.1 (by omega)
    exact decide_eq_false (by omega)
  · rw [s_c_out hi] at h; omega
def LI (M : mm_M) : Prop := INV0 M ∧ b01 (PI M) = 1 ∧ b01 (CWA M) = 1
theorem iv_0 {M : mm_M} (pr : Nat → Nat → Bool) (h : LI M) : INV pr (keep pr M) M := ⟨h.1, rfl⟩
theorem iv_f {pr : Nat → Nat → Bool} {M M' : mm_M} (h : INV pr (keep pr M) M') {i k : Nat} (hp : pr i k = true) : M'.1 i k = M.1 i k := by
  rw [h.fI hp]; show (if pr i k = true then M.1 i k else 0) = _; rw [if_pos hp]
theorem pi_q {M M' : mm_M} (h1 : M'.1 99 = M.1 99) (h2 : M'.1 105 = M.1 105) (h : b01 (PI M) = 1) : b01 (PI M') = 1 := b01_i (by
  intro c o hc
  rcases ppQ_c hc with rfl | rfl
  · rw [h1]; exact b01_e h _ o hc
  · rw [h2]; exact b01_e h _ o hc)
theorem li_x {M M' : mm_M} (h : LI M) (h2 : INV prX (keep prX M) M') : LI M' := by
  have e : ∀ i, 98 ≤ i → M'.1 i = M.1 i := fun i hi => funext fun k => iv_f h2 (decide_eq_true hi)
  exact ⟨h2.1, pi_q (e 99 (by decide)) (e 105 (by decide)) h.2.1, cwa_c (e 99 (by decide)) h.2.2⟩
theorem ca_e {M M' : mm_M} (h2 : INV prM (keep prM M) M') {k : Nat} (hk : ca k = true) : M'.1 99 k = M.1 99 k := iv_f h2 (by unfold prM; rw [hk]; rfl)
theorem ca_t : ∀ j, j < 3 → ∀ k, k < 1181 → ((2 ≤ k ∧ k ≤ 7) ∨ 281 ≤ k) → ca (1181 * j + k) = true := by
  intro j hj k hk h
  unfold ca
  rw [show (1181 * j + k) % 1181 = k by omega]
  rcases h with h | h
  · rw [Nat.ble_eq_true_of_le h.1, Nat.ble_eq_true_of_le h.2]; rfl
  · rw [Nat.ble_eq_true_of_le h]; simp
theorem zw_m {M M' : mm_M} (h : LI M) (h2 : INV prM (keep prM M) M') (j : Nat) (hj : j < 3) : zwB (fun k => M'.1 99 (1181 * j + k)) := by
  obtain ⟨z0, z1⟩ := b01_e h.2.2 j hj
  have e : ∀ k : Nat, k < 1181 → ((2 ≤ k ∧ k ≤ 7) ∨ 281 ≤ k) → M'.1 99 (1181 * j + k) = M.1 99 (1181 * j + k) := fun k hk q => ca_e h2 (ca_t j hj k hk q)
  have hb := h99b (iv_0 prM h) j hj
  have b0 : (M.1 99 (1181 * j + (4 + 0))).toInt + (M.1 99 (1181 * j + (6 + 0))).toInt ≤ 900 := z0.1
  have b1 : (M.1 99 (1181 * j + (4 + 1))).toInt + (M.1 99 (1181 * j + (6 + 1))).toInt ≤ 900 := z1.1
  refine ⟨zwL_c (e _ (by decide) (by decide)) (e _ (by decide) (by decide)) (e _ (by decide) (by decide)) (fun p q1 q2 => e p ?_ (Or.inr q1)) (hb 0 (by decide)) z0, zwL_c (e _ (by decide) (by decide)) (e _ (by decide) (by decide)) (e _ (by decide) (by decide)) (fun p q1 q2 => e p ?_ (Or.inr q1)) (hb 1 (by decide)) z1⟩
  · omega
  · omega
theorem li_cw {M : mm_M} (h : LI M) : CWK prM (keep prM M) := by
  intro N hN
  have := zw_m h hN 0 (by decide)
  simpa using this
theorem li_m {M M' : mm_M} (h : LI M) (h2 : INV prM (keep prM M) M') (hp : b01 (PI M') = 1) : LI M' := ⟨h2.1, hp, b01_i (fun j hj => zw_m h h2 j hj)⟩
theorem li_0 {M M' : mm_M} (h2 : INV pr0 (keep pr0 M) M') (hp : b01 (PI M') = 1) (hc : b01 (CWA M') = 1) : LI M' := ⟨h2.1, hp, hc⟩

def imF (i : Int) : Int := if 0 ≤ i ∧ i ≤ 1 then 0 else -2
theorem imF_s (i : Int) : (0 ≤ i ∧ i ≤ 1) ∧ imF i = 0 ∨ ¬ (0 ≤ i ∧ i ≤ 1) ∧ imF i = -2 := by
  unfold imF; split <;> omega
def nuF (t s n : Int) : Int := if 0 ≤ t ∧ t ≤ 3 ∧ 0 ≤ s ∧ s ≤ 3 then (if 0 ≤ n ∧ n ≤ 40 then 0 else -3) else -2
theorem nuF_s (t s n : Int) : (0 ≤ t ∧ t ≤ 3 ∧ 0 ≤ s ∧ s ≤ 3) ∧ (0 ≤ n ∧ n ≤ 40) ∧ nuF t s n = 0 ∨ (0 ≤ t ∧ t ≤ 3 ∧ 0 ≤ s ∧ s ≤ 3) ∧ ¬ (0 ≤ n ∧ n ≤ 40) ∧ nuF t s n = -3 ∨ ¬ (0 ≤ t ∧ t ≤ 3 ∧ 0 ≤ s ∧ s ≤ 3) ∧ nuF t s n = -2 := by
  unfold nuF; (repeat' split) <;> omega

set_option maxHeartbeats 4000000 in
theorem s2_X11_image {l : Launch} {dC : Nat → ClassId} {dI : Nat → Nat → Nat} {ad : Nat → Nat} {cA : Nat → ClassId} {pr : Nat → Nat → Bool} {Kz : mm_M} {M0 : mm_M} (hM0 : INV pr Kz M0) (hpr : PX pr) (hq2_0 : ∀ i, s_c i = 2 → pr i 0 = false) (a1 : Int) (ha1 : -2147483648 ≤ a1 ∧ a1 ≤ 2147483647) : Ci l 1 yX11_image wsX11_image dC dI ad cA [.ref (ad 0), .int (sI a1)] M0 (fun r M' => ∃ a : Int, r = sI a ∧ INV pr Kz M' ∧ (-2) ≤ a ∧ a ≤ 0 ∧ (a = (imF a1))) := by
  refine ci_of (cc := cX11_image) (maxL := 2) (ty := .int) (lv := [(0, .ref (ad 0)), (1, .int (sI a1))]) (by decide) rfl (fun r M' hp => rfl) (Nat.le_of_ble_eq_true rfl) rfl ?_
  intro p e s m args below meth c A Q C hret
  refine j_iload_n C 1 1 dX11_image_0 rfl rfl ?_
  refine y_if_lt C 13 dX11_image_1 (by decide) (by omega) (fun h101 => ?_) (fun h101 => ?_)
  · refine y_bipush C dX11_image_13 rfl ?_
    have u102 := imF_s a1
    exact hret _ _ _ _ dX11_image_15 ⟨(-2), rfl, hM0, by omega⟩
  · refine j_iload_n C 1 1 dX11_image_4 rfl rfl ?_
    refine j_aload_n C 0 0 dX11_image_5 rfl rfl ?_
    refine y_getC C 10 59 fX11_image_58 rfl rfl ft_10_10 sm_10_10 rfl hM0 dX11_image_6 ?_
    refine y_alen C 30 2 rfl rfl rfl an_30 rfl rfl dX11_image_9 ?_
    refine y_icmp_lt C 16 dX11_image_10 (by decide) (by omega) (fun h103 => ?_) (fun h103 => ?_)
    · refine j_aload_n C 0 0 dX11_image_16 rfl rfl ?_
      refine y_getC C 10 59 fX11_image_58 rfl rfl ft_10_10 sm_10_10 rfl hM0 dX11_image_17 ?_
      refine j_iload_n C 1 1 dX11_image_20 rfl rfl ?_
      refine y_aald C 30 2 2 rfl rfl rfl rfl an_30 rfl sma_30 sta_30 (by decide) hM0 dX11_image_21 (by omega) (fun v104 cv104 => ?_)
      refine y_iconst C dX11_image_22 ?_
      refine y_putZ C 2 qX11_image_393 cv104 rfl ft_2_0 sb_2_0 hM0 (hq2_0 _ cv104) dX11_image_23 (by omega) (fun M105 eM105 hM105 => ?_)
      refine j_aload_n C 0 0 dX11_image_26 rfl rfl ?_
      refine y_getC C 10 59 fX11_image_58 rfl rfl ft_10_10 sm_10_10 rfl hM105 dX11_image_27 ?_
      refine j_iload_n C 1 1 dX11_image_30 rfl rfl ?_
      refine y_aald C 30 2 2 rfl rfl rfl rfl an_30 rfl sma_30 sta_30 (by decide) hM105 dX11_image_31 (by omega) (fun v106 cv106 => ?_)
      refine y_getT C 2 6 fX11_image_397 cv106 rfl ft_2_1 rfl sm_2_1 st_2_1 (by decide) hM105 dX11_image_32 (fun v107 cv107 => ?_)
      refine j_aload_n C 0 0 dX11_image_35 rfl rfl ?_
      refine y_getM C 10 6 fX11_image_26 rfl rfl ft_10_4 sm_10_4 (by decide) hM105 dX11_image_36 (fun v108 ev108 cv108 => ?_)
      refine j_callVv C (d := 0) (As := [.ref (ad v108)]) (st := []) v107 (s_lt cv107 rfl) (s_kc (c := 6) cv107 rfl) (by decide) rfl (s1_X7_copyFrom hM105 hpr cv107 cv108) gX11_image_X7_copyFrom rfl hdX7_copyFrom (by decide) (Nat.le_of_ble_eq_true rfl) dX11_image_39 rfl (fun M110 h111 => ?_)
      have hM110 := h111
      refine j_aload_n C 0 0 dX11_image_42 rfl rfl ?_
      refine y_getC C 10 59 fX11_image_58 rfl rfl ft_10_10 sm_10_10 rfl hM110 dX11_image_43 ?_
      refine j_iload_n C 1 1 dX11_image_46 rfl rfl ?_
      refine y_aald C 30 2 2 rfl rfl rfl rfl an_30 rfl sma_30 sta_30 (by decide) hM110 dX11_image_47 (by omega) (fun v113 cv113 => ?_)
      refine y_getT C 2 8 fX11_image_400 cv113 rfl ft_2_2 rfl sm_2_2 st_2_2 (by decide) hM110 dX11_image_48 (fun v114 cv114 => ?_)
      refine j_aload_n C 0 0 dX11_image_51 rfl rfl ?_
      refine y_getC C 10 12 fX11_image_36 rfl rfl ft_10_6 sm_10_6 rfl hM110 dX11_image_52 ?_
      refine j_callVv C (d := 0) (As := [.ref (ad 12)]) (st := []) v114 (s_lt cv114 rfl) (s_kc (c := 8) cv114 rfl) (by decide) rfl (s1_X9_copyFrom hM110 hpr cv114 rfl) gX11_image_X9_copyFrom rfl hdX9_copyFrom (by decide) (Nat.le_of_ble_eq_true rfl) dX11_image_55 rfl (fun M116 h117 => ?_)
      have hM116 := h117
      refine y_iconst C dX11_image_58 ?_
      have u119 := imF_s a1
      exact hret _ _ _ _ dX11_image_59 ⟨0, rfl, hM116, by omega⟩
    · refine y_bipush C dX11_image_13 rfl ?_
      have u120 := imF_s a1
      exact hret _ _ _ _ dX11_image_15 ⟨(-2), rfl, hM0, by omega⟩
set_option maxHeartbeats 4000000 in
theorem s2_X12_image {l : Launch} {dC : Nat → ClassId} {dI : Nat → Nat → Nat} {ad : Nat → Nat} {cA : Nat → ClassId} {pr : Nat → Nat → Bool} {Kz : mm_M} {M0 : mm_M} (hM0 : INV pr Kz M0) (hpr : PM pr) (hq45 : ∀ i k, s_c i = 45 → pr i k = false) (hq46 : ∀ i k, s_c i = 46 → pr i k = false) (a1 : Int) (ha1 : -2147483648 ≤ a1 ∧ a1 ≤ 2147483647) (hp0 : b01 (CWA M0) = 1) (hp1 : b01 (PI M0) = 1) : Ci l 1 yX12_image wsX12_image dC dI ad cA [.ref (ad 98), .int (sI a1)] M0 (fun r M' => ∃ a : Int, r = sI a ∧ INV pr Kz M' ∧ FR [98, 99, 100] M0 M' ∧ (-2) ≤ a ∧ a ≤ 0 ∧ (a = (imF a1)) ∧ (b01 (CWA M') = 1) ∧ (b01 (PI M') = 1)) := by
  refine ci_of (cc := cX12_image) (maxL := 3) (ty := .int) (lv := [(0, .ref (ad 98)), (1, .int (sI a1))]) (by decide) rfl (fun r M' hp => rfl) (Nat.le_of_ble_eq_true rfl) rfl ?_
  intro p e s m args below meth c A Q C hret
  refine j_aload_n C 0 0 dX12_image_0 rfl rfl ?_
  refine y_iconst C dX12_image_1 ?_
  refine y_putIF C 11 qX12_image_1 rfl rfl ft_11_0 sb_11_0 hM0 (PM.w hpr rfl rfl) dX12_image_2 (fun M101 eM101 hM101 => ?_)
  have pM101 := pi_o eM101 (by decide) (by decide) (by omega)
  refine j_iload_n C 1 1 dX12_image_5 rfl rfl ?_
  refine y_i2l C dX12_image_6 (by omega) ?_
  refine y_lconst C 0 dX12_image_7 rfl ?_
  refine y_lconst C 1 dX12_image_8 rfl ?_
  refine j_callSi C (d := 0) (As := [.long (sJ a1), .long (sJ 0), .long (sJ 1)]) (st := []) (s1_X12_within hM101 a1 (by omega) 0 (by omega) 1 (by omega)) gX12_image_X12_within rfl hdX12_withins (by decide) (Nat.le_of_ble_eq_true rfl) dX12_image_9 rfl (fun r102 M103 h104 => ?_)
  obtain ⟨a106, rfl, rfl, h105⟩ := h104
  refine y_if_ne C 18 dX12_image_12 (by decide) (by omega) (fun h107 => ?_) (fun h107 => ?_)
  · refine y_iconst C dX12_image_18 ?_
    refine j_istore_n C 2 [(2, .int (sI 0)), (0, .ref (ad 98)), (1, .int (sI a1))] dX12_image_19 rfl (by decide) rfl ?_
    have u108 := cx_0 M101 (1181 * (a1 + 1)).toNat 99 0
    have L118 : ∀ (n116 : Nat), ∀ (a119 : Int) (M120 : mm_M), (0 ≤ a119 ∧ a119 ≤ 1181 ∧ (b01 (CPX M120 M101 (1181 * (a1 + 1)).toNat 99 0 a119) = 1) ∧ (1181 - a119) < (n116 : Int)) → INV pr Kz M120 → FR [98, 99, 100] M0 M120 → jj p l e (cn_R 1) s m args below meth c 0 0 Q 3 dC dI ad cA A M120 20 [(0, .ref (ad 98)), (1, .int (sI a1)), (2, .int (sI a119))] [] := by
      intro n116
      induction n116 with
      | zero =>
        intro a119 M120 h121 hM120 fM120
        exfalso; omega
      | succ n116 ih117 =>
        intro a119 M120 h121 hM120 fM120
        refine j_iload_n C 2 2 dX12_image_20 rfl rfl ?_
        refine y_sipush C dX12_image_21 rfl ?_
        refine y_icmp_ge C 53 dX12_image_24 (by decide) (by omega) (fun h122 => ?_) (fun h122 => ?_)
        · obtain rfl : a119 = 1181 := by omega
          have u127X := cx_99 (B := M101) (M := M120) hM101 (a := (a1 + 1).toNat) (b := 0) (by omega) (by decide) (d := (1181 * (a1 + 1)).toNat) (s := 0) (by omega) rfl (by omega) (by omega) (cwa_c (M := M0) (wI_cell eM101 (by decide)) (by omega))
          have p128 : b01 (PI M120) = 1 := by omega
          refine j_aload_n C 0 0 dX12_image_53 rfl rfl ?_
          refine y_getC C 11 100 fX12_image_17 rfl rfl ft_11_2 sm_11_2 rfl hM120 dX12_image_54 ?_
          refine j_iload_n C 1 1 dX12_image_57 rfl rfl ?_
          refine y_iconst C dX12_image_58 ?_
          refine y_zast C 46 2 rfl rfl rfl ak_46 an_46 rfl (sb_46 _) hM120 (hq46 _ _ rfl) dX12_image_59 (by omega) (by omega) (fun M129 eM129 hM129 => ?_)
          have pM129 := pi_o eM129 (by decide) (by decide) (by omega)
          refine y_iconst C dX12_image_60 ?_
          have u130C := cwa_c (M := M120) (N := M129) (wI_cell eM129 (by decide)) (by omega)
          have u130m := imF_s a1
          exact hret _ _ _ _ dX12_image_61 ⟨0, rfl, hM129, ((FR.rf.tr fM120 (by decide)).wI eM129 (by decide)), by omega⟩
        · refine j_aload_n C 0 0 dX12_image_27 rfl rfl ?_
          refine y_getC C 11 99 fX12_image_13 rfl rfl ft_11_1 sm_11_1 rfl hM120 dX12_image_28 ?_
          refine y_sipush C dX12_image_31 rfl ?_
          refine j_iload_n C 1 1 dX12_image_34 rfl rfl ?_
          refine y_iconst C dX12_image_35 ?_
          refine y_iadd C dX12_image_36 ?_
          refine y_imul C dX12_image_37 ?_
          refine j_iload_n C 2 2 dX12_image_38 rfl rfl ?_
          refine y_iadd C dX12_image_39 ?_
          refine j_aload_n C 0 0 dX12_image_40 rfl rfl ?_
          refine y_getC C 11 99 fX12_image_13 rfl rfl ft_11_1 sm_11_1 rfl hM120 dX12_image_41 ?_
          refine j_iload_n C 2 2 dX12_image_44 rfl rfl ?_
          refine y_ialdR C 45 3543 rfl rfl rfl ak_45 an_45 rfl hM120 dX12_image_45 (by omega) (fun a123 ea123 la123 ua123 ba123 => ?_)
          obtain rfl : a123 = (M120.1 99 (a119).toNat).toInt := ea123
          refine y_iastR C 45 3543 rfl rfl rfl ak_45 an_45 rfl hM120 (hq45 _ _ rfl) dX12_image_46 (by omega) (by omega) (by rw [q_i a119 (a1 + 1) (by omega)]; assumption) (fun M124 eM124 hM124 => ?_)
          have u125 := cx_s (B := M101) (d := (1181 * (a1 + 1)).toNat) (c2 := 99) (s := 0) (k := a119) eM124 (by omega) (by omega) (by rw [sI_o, Nat.zero_add]; exact cx_r (M := M120) (B := M101) (d := (1181 * (a1 + 1)).toNat) (c2 := 99) (s := 0) (k := a119) (by omega) _ (by omega)) (by omega)
          refine y_iinc C 2 [(2, .int (sI (a119 + 1))), (0, .ref (ad 98)), (1, .int (sI a1))] dX12_image_47 rfl (by decide) rfl ?_
          refine j_goto C 20 dX12_image_50 (by decide) ?_
          refine j_lv [1, 2, 0] rfl ?_; exact ih117 (a119 + 1) M124 (by omega) hM124 ((FR.rf.tr fM120 (by decide)).wI eM124 (by decide))
    refine j_lv [1, 2, 0] rfl ?_; exact L118 2372 0 M101 (by omega) hM101 (FR.rf.wI eM101 (by decide))
  · refine y_bipush C dX12_image_15 rfl ?_
    have u131C := cwa_c (M := M0) (N := M101) (show M101.1 99 = M0.1 99 from (wI_cell eM101 (by decide))) (by omega)
    have u132m := imF_s a1
    exact hret _ _ _ _ dX12_image_17 ⟨(-2), rfl, hM101, (FR.rf.wI eM101 (by decide)), by omega⟩
