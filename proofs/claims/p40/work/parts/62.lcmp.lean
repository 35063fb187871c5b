/-! WHAT HOLDS BETWEEN THE CALLS -/
def prX (i k : Nat) : Bool := decide (98 ≤ i)
def prM (i k : Nat) : Bool := decide (i < 98) || (decide (i = 99) && ca k)
def pr0 (i k : Nat) : Bool := decide (i < 98)
theorem s_c_side : ∀ i, i < mm_N → ((s_c i ≤ 10 ∨ (20 ≤ s_c i ∧ s_c i ≤ 44)) → i < 98) ∧ ((s_c i = 11 ∨ (45 ≤ s_c i ∧ s_c i ≤ 63)) → 98 ≤ i) ∧ (s_c i = 45 ↔ i = 99) := by decide +kernel
theorem s_c_out {i : Nat} (h : ¬ i < mm_N) : s_c i = 999 := by
  unfold s_c; rw [List.getD_eq_getElem?_getD, List.getElem?_eq_none (by simpa [s_cl, mm_N] using h)]; rfl
theorem hPX : PX prX := by
  intro i k h
  unfold prX
  by_cases hi : i < mm_N
  · have h2 : s_c i ≤ 10 ∨ (20 ≤ s_c i ∧ s_c i ≤ 44) := by
      unfold px at h
      rw [Bool.and_eq_true, Bool.or_eq_true, Bool.and_eq_true] at h
      rcases h.1 with q | q
      · exact Or.inl (Nat.le_of_ble_eq_true q)
      · exact Or.inr ⟨Nat.le_of_ble_eq_true q.1, Nat.le_of_ble_eq_true q.2⟩
    have := (s_c_side i hi).1 h2
    exact decide_eq_false (by omega)
  · rw [s_c_out hi] at h; exact absurd h (by simp [px])
theorem hXc {i c k : Nat} (hc : c ≤ 10) (h : s_c i = c) : prX i k = false := by
  by_cases hi : i < mm_N
  · have := (s_c_side i hi).1 (Or.inl (by omega))
    exact decide_eq_false (by omega)
  · rw [s_c_out hi] at h; omega
theorem pm_c {c k : Nat} (h : pm c k = true) : (c = 11 ∨ (45 ≤ c ∧ c ≤ 63)) ∧ (c = 45 → ca k = false) := by
  unfold pm at h
  rw [Bool.or_eq_true, Bool.or_eq_true, Bool.and_eq_true, Bool.and_eq_true] at h
  rcases h with (h | h) | h
  · have := Nat.eq_of_beq_eq_true h.1
    exact ⟨Or.inl this, fun q => by omega⟩
  · have := Nat.eq_of_beq_eq_true h.1
    exact ⟨Or.inr (by omega), fun _ => by simpa using h.2⟩
  · rw [Bool.and_eq_true, Bool.and_eq_true, Bool.and_eq_true] at h
    have h1 := Nat.le_of_ble_eq_true h.1.1.1
    have h2 := Nat.le_of_ble_eq_true h.1.1.2
    exact ⟨Or.inr (by omega), fun q => by omega⟩
theorem hPM : PM prM := by
  intro i k h
  obtain ⟨h1, h2⟩ := pm_c h
  unfold prM
  by_cases hi : i < mm_N
  · have g := s_c_side i hi
    have h3 := g.2.1 h1
    have e1 : decide (i < 98) = false := decide_eq_false (by omega)
    rw [e1]
    by_cases q : i = 99
    · rw [h2 (g.2.2.mpr q)]; simp
    · simp [q]
  · rw [s_c_out hi] at h1; omega
theorem hPM0 : PM pr0 := by
  intro i k h
  obtain ⟨h1, h2⟩ := pm_c h
  by_cases hi : i < mm_N
  · have h3 := (s_c_side i hi).2.1 h1
    exact decide_eq_false (by omega)
  · rw [s_c_out hi] at h1; omega
theorem hMc {i c k : Nat} (hc : c = 11 ∨ (46 ≤ c ∧ c ≤ 63)) (h : s_c i = c) : prM i k = false := by
  unfold prM
  by_cases hi : i < mm_N
  · have g := s_c_side i hi
    have h3 := g.2.1 (by omega)
    have h4 : i ≠ 99 := fun q => by have := g.2.2.mpr q; omega
    have e1 : decide (i < 98) = false := decide_eq_false (by omega)
    rw [e1]; simp [h4]
  · rw [s_c_out hi] at h; omega
theorem h0c {i c k : Nat} (hc : c = 11 ∨ (45 ≤ c ∧ c ≤ 63)) (h : s_c i = c) : pr0 i k = false := by
  by_cases hi : i < mm_N
  · have h3 := (s_c_side i hi).2.1 (by omega)
    exact decide_eq_false (by omega)
  · rw [s_c_out hi] at h; omega
def LI (M : mm_M) : Prop := INV0 M ∧ b01 (PI M) = 1 ∧ b01 (CWA M) = 1
theorem iv_0 {M : mm_M} (pr : Nat → Nat → Bool) (h : LI M) : INV pr (keep pr M) M := ⟨h.1, rfl⟩
theorem iv_f {pr : Nat → Nat → Bool} {M M' : mm_M} (h : INV pr (keep pr M) M') {i k : Nat} (hp : pr i k = true) : M'.1 i k = M.1 i k := by
  rw [h.fI hp]; show (if pr i k = true then M.1 i k else 0) = _; rw [if_pos hp]
theorem pi_q {M M' : mm_M} (h1 : M'.1 99 = M.1 99) (h2 : M'.1 105 = M.1 105) (h : b01 (PI M) = 1) : b01 (PI M') = 1 := b01_i (by
  intro c o hc
  rcases ppQ_c hc with rfl | rfl
  · rw [h1]; exact b01_e h _ o hc
  · rw [h2]; exact b01_e h _ o hc)
theorem li_x {M M' : mm_M} (h : LI M) (h2 : INV prX (keep prX M) M') : LI M' := by
  have e : ∀ i, 98 ≤ i → M'.1 i = M.1 i := fun i hi => funext fun k => iv_f h2 (decide_eq_true hi)
  exact ⟨h2.1, pi_q (e 99 (by decide)) (e 105 (by decide)) h.2.1, cwa_c (e 99 (by decide)) h.2.2⟩
theorem ca_e {M M' : mm_M} (h2 : INV prM (keep prM M) M') {k : Nat} (hk : ca k = true) : M'.1 99 k = M.1 99 k := iv_f h2 (by unfold prM; rw [hk]; rfl)
theorem ca_t : ∀ j, j < 3 → ∀ k, k < 1181 → ((2 ≤ k ∧ k ≤ 7) ∨ 281 ≤ k) → ca (1181 * j + k) = true := by
  intro j hj k hk h
  unfold ca
  rw [show (1181 * j + k) % 1181 = k by omega]
  rcases h with h | h
  · rw [Nat.ble_eq_true_of_le h.1, Nat.ble_eq_true_of_le h.2]; rfl
  · rw [Nat.ble_eq_true_of_le h]; simp
theorem zw_m {M M' : mm_M} (h : LI M) (h2 : INV prM (keep prM M) M') (j : Nat) (hj : j < 3) : zwB (fun k => M'.1 99 (1181 * j + k)) := by
  obtain ⟨z0, z1⟩ := b01_e h.2.2 j hj
  have e : ∀ k : Nat, k < 1181 → ((2 ≤ k ∧ k ≤ 7) ∨ 281 ≤ k) → M'.1 99 (1181 * j + k) = M.1 99 (1181 * j + k) := fun k hk q => ca_e h2 (ca_t j hj k hk q)
  have hb := h99b (iv_0 prM h) j hj
  have b0 : (M.1 99 (1181 * j + (4 + 0))).toInt + (M.1 99 (1181 * j + (6 + 0))).toInt ≤ 900 := z0.1
  have b1 : (M.1 99 (1181 * j + (4 + 1))).toInt + (M.1 99 (1181 * j + (6 + 1))).toInt ≤ 900 := z1.1
  refine ⟨zwL_c (e _ (by decide) (by decide)) (e _ (by decide) (by decide)) (e _ (by decide) (by decide)) (fun p q1 q2 => e p ?_ (Or.inr q1)) (hb 0 (by decide)) z0, zwL_c (e _ (by decide) (by decide)) (e _ (by decide) (by decide)) (e _ (by decide) (by decide)) (fun p q1 q2 => e p ?_ (Or.inr q1)) (hb 1 (by decide)) z1⟩
  · omega
  · omega
theorem li_cw {M : mm_M} (h : LI M) : CWK prM (keep prM M) := by
  intro N hN
  have := zw_m h hN 0 (by decide)
  simpa using this
theorem li_m {M M' : mm_M} (h : LI M) (h2 : INV prM (keep prM M) M') (hp : b01 (PI M') = 1) : LI M' := ⟨h2.1, hp, b01_i (fun j hj => zw_m h h2 j hj)⟩
theorem li_0 {M M' : mm_M} (h2 : INV pr0 (keep pr0 M) M') (hp : b01 (PI M') = 1) (hc : b01 (CWA M') = 1) : LI M' := ⟨h2.1, hp, hc⟩

def nuF (t s n : Int) : Int := if 0 ≤ t ∧ t ≤ 3 ∧ 0 ≤ s ∧ s ≤ 3 then (if 0 ≤ n ∧ n ≤ 40 then 0 else -3) else -2
theorem nuF_s (t s n : Int) : (0 ≤ t ∧ t ≤ 3 ∧ 0 ≤ s ∧ s ≤ 3) ∧ (0 ≤ n ∧ n ≤ 40) ∧ nuF t s n = 0 ∨ (0 ≤ t ∧ t ≤ 3 ∧ 0 ≤ s ∧ s ≤ 3) ∧ ¬ (0 ≤ n ∧ n ≤ 40) ∧ nuF t s n = -3 ∨ ¬ (0 ≤ t ∧ t ≤ 3 ∧ 0 ≤ s ∧ s ≤ 3) ∧ nuF t s n = -2 := by
  unfold nuF; (repeat' split) <;> omega

set_option maxHeartbeats 4000000 in
theorem s2_X11_numbers {l : Launch} {dC : Nat → ClassId} {dI : Nat → Nat → Nat} {ad : Nat → Nat} {cA : Nat → ClassId} {pr : Nat → Nat → Bool} {Kz : mm_M} {M0 : mm_M} (hM0 : INV pr Kz M0) (hpr : PX pr) (hq9_1 : ∀ i, s_c i = 9 → pr i 1 = false) (hq9_2 : ∀ i, s_c i = 9 → pr i 2 = false) (a1 : Int) (ha1 : -2147483648 ≤ a1 ∧ a1 ≤ 2147483647) (a2 : Int) (ha2 : -2147483648 ≤ a2 ∧ a2 ≤ 2147483647) (a3 : Int) (ha3 : -2147483648 ≤ a3 ∧ a3 ≤ 2147483647) : Ci l 2 yX11_numbers wsX11_numbers dC dI ad cA [.ref (ad 0), .int (sI a1), .int (sI a2), .int (sI a3)] M0 (fun r M' => ∃ a : Int, r = sI a ∧ INV pr Kz M' ∧ (-3) ≤ a ∧ a ≤ 0 ∧ (a = (nuF a1 a2 a3))) := by
  refine ci_of (cc := cX11_numbers) (maxL := 4) (ty := .int) (lv := [(0, .ref (ad 0)), (1, .int (sI a1)), (2, .int (sI a2)), (3, .int (sI a3))]) (by decide) rfl (fun r M' hp => rfl) (Nat.le_of_ble_eq_true rfl) rfl ?_
  intro p e s m args below meth c A Q C hret
  refine j_iload_n C 1 1 dX11_numbers_0 rfl rfl ?_
  refine j_callSi C (d := 0) (As := [.int (sI a1)]) (st := []) (s1_X11_isTray hM0 a1 (by omega)) gX11_numbers_X11_isTray rfl hdX11_isTrays (by decide) (Nat.le_of_ble_eq_true rfl) dX11_numbers_1 rfl (fun r101 M102 h103 => ?_)
  obtain ⟨a105, rfl, rfl, h104⟩ := h103
  refine y_if_eq C 16 dX11_numbers_4 (by decide) (by omega) (fun h106 => ?_) (fun h106 => ?_)
  · refine y_bipush C dX11_numbers_16 rfl ?_
    have u107 := nuF_s a1 a2 a3
    exact hret _ _ _ _ dX11_numbers_18 ⟨(-2), rfl, hM0, by omega⟩
  · refine j_iload_n C 2 2 dX11_numbers_7 rfl rfl ?_
    refine y_if_lt C 16 dX11_numbers_8 (by decide) (by omega) (fun h108 => ?_) (fun h108 => ?_)
    · refine y_bipush C dX11_numbers_16 rfl ?_
      have u109 := nuF_s a1 a2 a3
      exact hret _ _ _ _ dX11_numbers_18 ⟨(-2), rfl, hM0, by omega⟩
    · refine j_iload_n C 2 2 dX11_numbers_11 rfl rfl ?_
      refine y_iconst C dX11_numbers_12 ?_
      refine y_icmp_le C 19 dX11_numbers_13 (by decide) (by omega) (fun h110 => ?_) (fun h110 => ?_)
      · refine j_iload_n C 3 3 dX11_numbers_19 rfl rfl ?_
        refine y_if_lt C 29 dX11_numbers_20 (by decide) (by omega) (fun h111 => ?_) (fun h111 => ?_)
        · refine y_bipush C dX11_numbers_29 rfl ?_
          have u112 := nuF_s a1 a2 a3
          exact hret _ _ _ _ dX11_numbers_31 ⟨(-3), rfl, hM0, by omega⟩
        · refine j_iload_n C 3 3 dX11_numbers_23 rfl rfl ?_
          refine y_bipush C dX11_numbers_24 rfl ?_
          refine y_icmp_le C 32 dX11_numbers_26 (by decide) (by omega) (fun h113 => ?_) (fun h113 => ?_)
          · refine j_aload_n C 0 0 dX11_numbers_32 rfl rfl ?_
            refine y_getC C 10 50 fX11_numbers_52 rfl rfl ft_10_9 sm_10_9 rfl hM0 dX11_numbers_33 ?_
            refine j_iload_n C 1 1 dX11_numbers_36 rfl rfl ?_
            refine y_aald C 28 4 9 rfl rfl rfl rfl an_28 rfl sma_28 sta_28 (by decide) hM0 dX11_numbers_37 (by omega) (fun v114 cv114 => ?_)
            refine j_iload_n C 2 2 dX11_numbers_38 rfl rfl ?_
            refine j_iload_n C 3 3 dX11_numbers_39 rfl rfl ?_
            refine j_callVv C (d := 1) (As := [.int (sI a2), .int (sI a3)]) (st := []) v114 (s_lt cv114 rfl) (s_kc (c := 9) cv114 rfl) (by decide) rfl (s1_X10_layOut hM0 hpr hq9_1 hq9_2 cv114 a2 (by omega) a3 (by omega) (by omega) (by omega)) gX11_numbers_X10_layOut rfl hdX10_layOut (by decide) (Nat.le_of_ble_eq_true rfl) dX11_numbers_40 rfl (fun M116 h117 => ?_)
            have hM116 := h117
            refine y_iconst C dX11_numbers_43 ?_
            have u119 := nuF_s a1 a2 a3
            exact hret _ _ _ _ dX11_numbers_44 ⟨0, rfl, hM116, by omega⟩
          · refine y_bipush C dX11_numbers_29 rfl ?_
            have u120 := nuF_s a1 a2 a3
            exact hret _ _ _ _ dX11_numbers_31 ⟨(-3), rfl, hM0, by omega⟩
      · refine y_bipush C dX11_numbers_16 rfl ?_
        have u121 := nuF_s a1 a2 a3
        exact hret _ _ _ _ dX11_numbers_18 ⟨(-2), rfl, hM0, by omega⟩
set_option maxHeartbeats 4000000 in
theorem s2_X12_numbers {l : Launch} {dC : Nat → ClassId} {dI : Nat → Nat → Nat} {ad : Nat → Nat} {cA : Nat → ClassId} {pr : Nat → Nat → Bool} {Kz : mm_M} {M0 : mm_M} (hM0 : INV pr Kz M0) (hpr : PM pr) (hq61 : ∀ i k, s_c i = 61 → pr i k = false) (hq62 : ∀ i k, s_c i = 62 → pr i k = false) (a1 : Int) (ha1 : -2147483648 ≤ a1 ∧ a1 ≤ 2147483647) (a2 : Int) (ha2 : -2147483648 ≤ a2 ∧ a2 ≤ 2147483647) (a3 : Int) (ha3 : -2147483648 ≤ a3 ∧ a3 ≤ 2147483647) (hp0 : b01 (PI M0) = 1) : Ci l 1 yX12_numbers wsX12_numbers dC dI ad cA [.ref (ad 98), .int (sI a1), .int (sI a2), .int (sI a3)] M0 (fun r M' => ∃ a : Int, r = sI a ∧ INV pr Kz M' ∧ FR [98, 115, 116, 117] M0 M' ∧ (-3) ≤ a ∧ a ≤ 0 ∧ (a = (nuF a1 a2 a3)) ∧ (b01 (PI M') = 1)) := by
  refine ci_of (cc := cX12_numbers) (maxL := 5) (ty := .int) (lv := [(0, .ref (ad 98)), (1, .int (sI a1)), (2, .int (sI a2)), (3, .int (sI a3))]) (by decide) rfl (fun r M' hp => rfl) (Nat.le_of_ble_eq_true rfl) rfl ?_
  intro p e s m args below meth c A Q C hret
  refine j_aload_n C 0 0 dX12_numbers_0 rfl rfl ?_
  refine y_iconst C dX12_numbers_1 ?_
  refine y_putIF C 11 qX12_numbers_1 rfl rfl ft_11_0 sb_11_0 hM0 (PM.w hpr rfl rfl) dX12_numbers_2 (fun M101 eM101 hM101 => ?_)
  have pM101 := pi_o eM101 (by decide) (by decide) (by omega)
  refine j_iload_n C 1 1 dX12_numbers_5 rfl rfl ?_
  refine y_i2l C dX12_numbers_6 (by omega) ?_
  refine y_lconst C 0 dX12_numbers_7 rfl ?_
  refine y_ldc2 C 3 dX12_numbers_8 kX12_numbers_325 rfl ?_
  refine j_callSi C (d := 0) (As := [.long (sJ a1), .long (sJ 0), .long (sJ 3)]) (st := []) (s1_X12_within hM101 a1 (by omega) 0 (by omega) 3 (by omega)) gX12_numbers_X12_within rfl hdX12_withins (by decide) (Nat.le_of_ble_eq_true rfl) dX12_numbers_11 rfl (fun r102 M103 h104 => ?_)
  obtain ⟨a106, rfl, rfl, h105⟩ := h104
  refine y_if_eq C 29 dX12_numbers_14 (by decide) (by omega) (fun h107 => ?_) (fun h107 => ?_)
  · refine y_bipush C dX12_numbers_29 rfl ?_
    have u108 := nuF_s a1 a2 a3
    exact hret _ _ _ _ dX12_numbers_31 ⟨(-2), rfl, hM101, (FR.rf.wI eM101 (by decide)), by omega⟩
  · refine j_iload_n C 2 2 dX12_numbers_17 rfl rfl ?_
    refine y_i2l C dX12_numbers_18 (by omega) ?_
    refine y_lconst C 0 dX12_numbers_19 rfl ?_
    refine y_ldc2 C 3 dX12_numbers_20 kX12_numbers_325 rfl ?_
    refine j_callSi C (d := 0) (As := [.long (sJ a2), .long (sJ 0), .long (sJ 3)]) (st := []) (s1_X12_within hM101 a2 (by omega) 0 (by omega) 3 (by omega)) gX12_numbers_X12_within rfl hdX12_withins (by decide) (Nat.le_of_ble_eq_true rfl) dX12_numbers_23 rfl (fun r109 M110 h111 => ?_)
    obtain ⟨a113, rfl, rfl, h112⟩ := h111
    refine y_if_ne C 32 dX12_numbers_26 (by decide) (by omega) (fun h114 => ?_) (fun h114 => ?_)
    · refine j_iload_n C 3 3 dX12_numbers_32 rfl rfl ?_
      refine y_i2l C dX12_numbers_33 (by omega) ?_
      refine y_lconst C 0 dX12_numbers_34 rfl ?_
      refine y_ldc2 C 40 dX12_numbers_35 kX12_numbers_336 rfl ?_
      refine j_callSi C (d := 0) (As := [.long (sJ a3), .long (sJ 0), .long (sJ 40)]) (st := []) (s1_X12_within hM101 a3 (by omega) 0 (by omega) 40 (by omega)) gX12_numbers_X12_within rfl hdX12_withins (by decide) (Nat.le_of_ble_eq_true rfl) dX12_numbers_38 rfl (fun r115 M116 h117 => ?_)
      obtain ⟨a119, rfl, rfl, h118⟩ := h117
      refine y_if_ne C 47 dX12_numbers_41 (by decide) (by omega) (fun h120 => ?_) (fun h120 => ?_)
      · refine j_aload_n C 0 0 dX12_numbers_47 rfl rfl ?_
        refine y_getC C 11 115 fX12_numbers_67 rfl rfl ft_11_29 sm_11_29 rfl hM101 dX12_numbers_48 ?_
        refine j_iload_n C 1 1 dX12_numbers_51 rfl rfl ?_
        refine j_iload_n C 2 2 dX12_numbers_52 rfl rfl ?_
        refine y_iast C 61 4 _ _ rfl rfl rfl ak_61 an_61 rfl (sb_61 _) hM101 (hq61 _ _ rfl) dX12_numbers_53 (by omega) (by omega) (fun M121 eM121 hM121 => ?_)
        have pM121 := pi_o eM121 (by decide) (by decide) (by omega)
        refine j_aload_n C 0 0 dX12_numbers_54 rfl rfl ?_
        refine y_getC C 11 116 fX12_numbers_70 rfl rfl ft_11_30 sm_11_30 rfl hM121 dX12_numbers_55 ?_
        refine j_iload_n C 1 1 dX12_numbers_58 rfl rfl ?_
        refine j_iload_n C 3 3 dX12_numbers_59 rfl rfl ?_
        refine y_iast C 62 4 _ _ rfl rfl rfl ak_62 an_62 rfl (sb_62 _) hM121 (hq62 _ _ rfl) dX12_numbers_60 (by omega) (by omega) (fun M122 eM122 hM122 => ?_)
        have pM122 := pi_o eM122 (by decide) (by decide) (by omega)
        refine y_iconst C dX12_numbers_61 ?_
        refine j_istore C 4 [(4, .int (sI 0)), (0, .ref (ad 98)), (1, .int (sI a1)), (2, .int (sI a2)), (3, .int (sI a3))] dX12_numbers_62 (by decide) rfl ?_
        have L193 : ∀ (n191 : Nat), ∀ (a194 : Int) (M195 : mm_M), (0 ≤ a194 ∧ a194 ≤ 40 ∧ (b01 (PI M195) = 1) ∧ (40 - a194) < (n191 : Int)) → INV pr Kz M195 → FR [98, 115, 116, 117] M0 M195 → jj p l e (cn_R 1) s m args below meth c 0 0 Q 5 dC dI ad cA A M195 64 [(0, .ref (ad 98)), (1, .int (sI a1)), (3, .int (sI a3)), (4, .int (sI a194))] [] := by
          intro n191
          induction n191 with
          | zero =>
            intro a194 M195 h196 hM195 fM195
            exfalso; omega
          | succ n191 ih192 =>
            intro a194 M195 h196 hM195 fM195
            refine j_iload C 3 dX12_numbers_64 rfl ?_
            refine j_iload_n C 2 3 dX12_numbers_66 rfl rfl ?_
            refine y_icmp_ge C 89 dX12_numbers_67 (by decide) (by omega) (fun h197 => ?_) (fun h197 => ?_)
            · refine y_iconst C dX12_numbers_89 ?_
              have u199 := nuF_s a1 a2 a3
              exact hret _ _ _ _ dX12_numbers_90 ⟨0, rfl, hM195, (FR.rf.tr fM195 (by decide)), by omega⟩
            · refine j_aload_n C 0 0 dX12_numbers_70 rfl rfl ?_
              refine y_getC C 11 117 fX12_numbers_73 rfl rfl ft_11_31 sm_11_31 rfl hM195 dX12_numbers_71 ?_
              refine y_bipush C dX12_numbers_74 rfl ?_
              refine j_iload_n C 1 1 dX12_numbers_76 rfl rfl ?_
              refine y_imul C dX12_numbers_77 ?_
              refine j_iload C 3 dX12_numbers_78 rfl ?_
              refine y_iadd C dX12_numbers_80 ?_
              refine y_lconst C 0 dX12_numbers_81 rfl ?_
              refine y_last C 63 160 rfl rfl rfl ak_63 an_63 rfl hM195 (PM.w hpr rfl rfl) dX12_numbers_82 (by omega) (fun M198 eM198 hM198 => ?_)
              have pM198 := pi_J eM198 (by omega)
              refine y_iinc C 3 [(4, .int (sI (a194 + 1))), (0, .ref (ad 98)), (1, .int (sI a1)), (3, .int (sI a3))] dX12_numbers_83 rfl (by decide) rfl ?_
              refine j_goto C 64 dX12_numbers_86 (by decide) ?_
              refine j_lv [1, 2, 3, 0] rfl ?_; exact ih192 (a194 + 1) M198 (by omega) hM198 ((FR.rf.tr fM195 (by decide)).wJ eM198 (by decide))
        refine j_lv [1, 2, 4, 0] rfl ?_; exact L193 2010 0 M122 (by omega) hM122 (((FR.rf.wI eM101 (by decide)).wI eM121 (by decide)).wI eM122 (by decide))
      · refine y_bipush C dX12_numbers_44 rfl ?_
        have u200 := nuF_s a1 a2 a3
        exact hret _ _ _ _ dX12_numbers_46 ⟨(-3), rfl, hM101, (FR.rf.wI eM101 (by decide)), by omega⟩
    · refine y_bipush C dX12_numbers_29 rfl ?_
      have u201 := nuF_s a1 a2 a3
      exact hret _ _ _ _ dX12_numbers_31 ⟨(-2), rfl, hM101, (FR.rf.wI eM101 (by decide)), by omega⟩
