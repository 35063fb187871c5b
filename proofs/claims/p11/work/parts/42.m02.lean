set_option maxHeartbeats 4000000 in
theorem s68_X12_common {l : Launch} {dC : Nat → ClassId} {dI : Nat → Nat → Nat} {ad : Nat → Nat} {cA : Nat → ClassId} {pr : Nat → Nat → Bool} {Kz : mm_M} {M0 : mm_M} (hM0 : INV pr Kz M0) (a0 : Int) (ha0 : -9223372036854775808 ≤ a0 ∧ a0 ≤ 9223372036854775807) (a2 : Int) (ha2 : -9223372036854775808 ≤ a2 ∧ a2 ≤ 9223372036854775807) (hp0 : (a2).natAbs < 72723460248141 ∨ (a0).natAbs < 117669030460994) (hp1 : (a2).natAbs ≤ (a0).natAbs) (hp2 : ¬ a0 = 0) : Cj l 67 yX12_common wsX12_common dC dI ad cA [.long (sJ a0), .long (sJ a2)] M0 (fun r M' => ∃ a : Int, r = sJ a ∧ M0 = M' ∧ (-9223372036854775808) ≤ a ∧ a ≤ 9223372036854775807 ∧ (¬ a = 0)) := by
  refine cj_of (cc := cX12_common) (maxL := 4) (lv := [(0, .long (sJ a0)), (2, .long (sJ a2))]) (by decide) rfl (Nat.le_of_ble_eq_true rfl) rfl ?_
  intro p e s m args below meth c A Q C hret
  refine j_lload_n C 1 2 dX12_common_0 rfl rfl ?_
  refine y_lconst C 0 dX12_common_1 rfl ?_
  refine y_lcmp_ne C 10 dX12_common_2 dX12_common_3 (by decide) (by exact ⟨⟨ha2.1, ha2.2⟩, ⟨(by decide), (by decide)⟩⟩) (fun h101 => ?_) (fun h101 => ?_)
  · refine j_lload_n C 1 2 dX12_common_10 rfl rfl ?_
    refine j_lload_n C 0 0 dX12_common_11 rfl rfl ?_
    refine j_lload_n C 1 2 dX12_common_12 rfl rfl ?_
    refine y_lremA C dX12_common_13 (by exact ⟨⟨ha0.1, ha0.2⟩, ⟨⟨ha2.1, ha2.2⟩, h101⟩⟩) (fun a102 la102 ua102 ha102 => ?_)
    refine j_callSj C (d := 66) (As := [.long (sJ a2), .long (sJ a102)]) (st := []) (s67_X12_common hM0 a2 (by exact ⟨ha2.1, ha2.2⟩) a102 (by exact ⟨la102, ua102⟩) (by omega) (by omega) (by exact h101)) gX12_common_X12_common rfl hdX12_commons (by decide) (Nat.le_of_ble_eq_true rfl) dX12_common_14 rfl (fun r103 M104 h105 => ?_)
    obtain ⟨a107, rfl, rfl, h106⟩ := h105
    exact hret _ _ _ _ dX12_common_17 ⟨a107, rfl, rfl, by exact ⟨h106.1, ⟨h106.2.1, h106.2.2⟩⟩⟩
  · refine j_lload_n C 0 0 dX12_common_6 rfl rfl ?_
    refine j_goto C 17 dX12_common_7 (by decide) ?_
    exact hret _ _ _ _ dX12_common_17 ⟨a0, rfl, rfl, by exact ⟨ha0.1, ⟨ha0.2, hp2⟩⟩⟩
set_option maxHeartbeats 4000000 in
theorem s69_X12_common {l : Launch} {dC : Nat → ClassId} {dI : Nat → Nat → Nat} {ad : Nat → Nat} {cA : Nat → ClassId} {pr : Nat → Nat → Bool} {Kz : mm_M} {M0 : mm_M} (hM0 : INV pr Kz M0) (a0 : Int) (ha0 : -9223372036854775808 ≤ a0 ∧ a0 ≤ 9223372036854775807) (a2 : Int) (ha2 : -9223372036854775808 ≤ a2 ∧ a2 ≤ 9223372036854775807) (hp0 : (a2).natAbs < 117669030460994 ∨ (a0).natAbs < 190392490709135) (hp1 : (a2).natAbs ≤ (a0).natAbs) (hp2 : ¬ a0 = 0) : Cj l 68 yX12_common wsX12_common dC dI ad cA [.long (sJ a0), .long (sJ a2)] M0 (fun r M' => ∃ a : Int, r = sJ a ∧ M0 = M' ∧ (-9223372036854775808) ≤ a ∧ a ≤ 9223372036854775807 ∧ (¬ a = 0)) := by
  refine cj_of (cc := cX12_common) (maxL := 4) (lv := [(0, .long (sJ a0)), (2, .long (sJ a2))]) (by decide) rfl (Nat.le_of_ble_eq_true rfl) rfl ?_
  intro p e s m args below meth c A Q C hret
  refine j_lload_n C 1 2 dX12_common_0 rfl rfl ?_
  refine y_lconst C 0 dX12_common_1 rfl ?_
  refine y_lcmp_ne C 10 dX12_common_2 dX12_common_3 (by decide) (by exact ⟨⟨ha2.1, ha2.2⟩, ⟨(by decide), (by decide)⟩⟩) (fun h101 => ?_) (fun h101 => ?_)
  · refine j_lload_n C 1 2 dX12_common_10 rfl rfl ?_
    refine j_lload_n C 0 0 dX12_common_11 rfl rfl ?_
    refine j_lload_n C 1 2 dX12_common_12 rfl rfl ?_
    refine y_lremA C dX12_common_13 (by exact ⟨⟨ha0.1, ha0.2⟩, ⟨⟨ha2.1, ha2.2⟩, h101⟩⟩) (fun a102 la102 ua102 ha102 => ?_)
    refine j_callSj C (d := 67) (As := [.long (sJ a2), .long (sJ a102)]) (st := []) (s68_X12_common hM0 a2 (by exact ⟨ha2.1, ha2.2⟩) a102 (by exact ⟨la102, ua102⟩) (by omega) (by omega) (by exact h101)) gX12_common_X12_common rfl hdX12_commons (by decide) (Nat.le_of_ble_eq_true rfl) dX12_common_14 rfl (fun r103 M104 h105 => ?_)
    obtain ⟨a107, rfl, rfl, h106⟩ := h105
    exact hret _ _ _ _ dX12_common_17 ⟨a107, rfl, rfl, by exact ⟨h106.1, ⟨h106.2.1, h106.2.2⟩⟩⟩
  · refine j_lload_n C 0 0 dX12_common_6 rfl rfl ?_
    refine j_goto C 17 dX12_common_7 (by decide) ?_
    exact hret _ _ _ _ dX12_common_17 ⟨a0, rfl, rfl, by exact ⟨ha0.1, ⟨ha0.2, hp2⟩⟩⟩
set_option maxHeartbeats 4000000 in
theorem s70_X12_common {l : Launch} {dC : Nat → ClassId} {dI : Nat → Nat → Nat} {ad : Nat → Nat} {cA : Nat → ClassId} {pr : Nat → Nat → Bool} {Kz : mm_M} {M0 : mm_M} (hM0 : INV pr Kz M0) (a0 : Int) (ha0 : -9223372036854775808 ≤ a0 ∧ a0 ≤ 9223372036854775807) (a2 : Int) (ha2 : -9223372036854775808 ≤ a2 ∧ a2 ≤ 9223372036854775807) (hp0 : (a2).natAbs < 190392490709135 ∨ (a0).natAbs < 308061521170129) (hp1 : (a2).natAbs ≤ (a0).natAbs) (hp2 : ¬ a0 = 0) : Cj l 69 yX12_common wsX12_common dC dI ad cA [.long (sJ a0), .long (sJ a2)] M0 (fun r M' => ∃ a : Int, r = sJ a ∧ M0 = M' ∧ (-9223372036854775808) ≤ a ∧ a ≤ 9223372036854775807 ∧ (¬ a = 0)) := by
  refine cj_of (cc := cX12_common) (maxL := 4) (lv := [(0, .long (sJ a0)), (2, .long (sJ a2))]) (by decide) rfl (Nat.le_of_ble_eq_true rfl) rfl ?_
  intro p e s m args below meth c A Q C hret
  refine j_lload_n C 1 2 dX12_common_0 rfl rfl ?_
  refine y_lconst C 0 dX12_common_1 rfl ?_
  refine y_lcmp_ne C 10 dX12_common_2 dX12_common_3 (by decide) (by exact ⟨⟨ha2.1, ha2.2⟩, ⟨(by decide), (by decide)⟩⟩) (fun h101 => ?_) (fun h101 => ?_)
  · refine j_lload_n C 1 2 dX12_common_10 rfl rfl ?_
    refine j_lload_n C 0 0 dX12_common_11 rfl rfl ?_
    refine j_lload_n C 1 2 dX12_common_12 rfl rfl ?_
    refine y_lremA C dX12_common_13 (by exact ⟨⟨ha0.1, ha0.2⟩, ⟨⟨ha2.1, ha2.2⟩, h101⟩⟩) (fun a102 la102 ua102 ha102 => ?_)
    refine j_callSj C (d := 68) (As := [.long (sJ a2), .long (sJ a102)]) (st := []) (s69_X12_common hM0 a2 (by exact ⟨ha2.1, ha2.2⟩) a102 (by exact ⟨la102, ua102⟩) (by omega) (by omega) (by exact h101)) gX12_common_X12_common rfl hdX12_commons (by decide) (Nat.le_of_ble_eq_true rfl) dX12_common_14 rfl (fun r103 M104 h105 => ?_)
    obtain ⟨a107, rfl, rfl, h106⟩ := h105
    exact hret _ _ _ _ dX12_common_17 ⟨a107, rfl, rfl, by exact ⟨h106.1, ⟨h106.2.1, h106.2.2⟩⟩⟩
  · refine j_lload_n C 0 0 dX12_common_6 rfl rfl ?_
    refine j_goto C 17 dX12_common_7 (by decide) ?_
    exact hret _ _ _ _ dX12_common_17 ⟨a0, rfl, rfl, by exact ⟨ha0.1, ⟨ha0.2, hp2⟩⟩⟩
set_option maxHeartbeats 4000000 in
theorem s71_X12_common {l : Launch} {dC : Nat → ClassId} {dI : Nat → Nat → Nat} {ad : Nat → Nat} {cA : Nat → ClassId} {pr : Nat → Nat → Bool} {Kz : mm_M} {M0 : mm_M} (hM0 : INV pr Kz M0) (a0 : Int) (ha0 : -9223372036854775808 ≤ a0 ∧ a0 ≤ 9223372036854775807) (a2 : Int) (ha2 : -9223372036854775808 ≤ a2 ∧ a2 ≤ 9223372036854775807) (hp0 : (a2).natAbs < 308061521170129 ∨ (a0).natAbs < 498454011879264) (hp1 : (a2).natAbs ≤ (a0).natAbs) (hp2 : ¬ a0 = 0) : Cj l 70 yX12_common wsX12_common dC dI ad cA [.long (sJ a0), .long (sJ a2)] M0 (fun r M' => ∃ a : Int, r = sJ a ∧ M0 = M' ∧ (-9223372036854775808) ≤ a ∧ a ≤ 9223372036854775807 ∧ (¬ a = 0)) := by
  refine cj_of (cc := cX12_common) (maxL := 4) (lv := [(0, .long (sJ a0)), (2, .long (sJ a2))]) (by decide) rfl (Nat.le_of_ble_eq_true rfl) rfl ?_
  intro p e s m args below meth c A Q C hret
  refine j_lload_n C 1 2 dX12_common_0 rfl rfl ?_
  refine y_lconst C 0 dX12_common_1 rfl ?_
  refine y_lcmp_ne C 10 dX12_common_2 dX12_common_3 (by decide) (by exact ⟨⟨ha2.1, ha2.2⟩, ⟨(by decide), (by decide)⟩⟩) (fun h101 => ?_) (fun h101 => ?_)
  · refine j_lload_n C 1 2 dX12_common_10 rfl rfl ?_
    refine j_lload_n C 0 0 dX12_common_11 rfl rfl ?_
    refine j_lload_n C 1 2 dX12_common_12 rfl rfl ?_
    refine y_lremA C dX12_common_13 (by exact ⟨⟨ha0.1, ha0.2⟩, ⟨⟨ha2.1, ha2.2⟩, h101⟩⟩) (fun a102 la102 ua102 ha102 => ?_)
    refine j_callSj C (d := 69) (As := [.long (sJ a2), .long (sJ a102)]) (st := []) (s70_X12_common hM0 a2 (by exact ⟨ha2.1, ha2.2⟩) a102 (by exact ⟨la102, ua102⟩) (by omega) (by omega) (by exact h101)) gX12_common_X12_common rfl hdX12_commons (by decide) (Nat.le_of_ble_eq_true rfl) dX12_common_14 rfl (fun r103 M104 h105 => ?_)
    obtain ⟨a107, rfl, rfl, h106⟩ := h105
    exact hret _ _ _ _ dX12_common_17 ⟨a107, rfl, rfl, by exact ⟨h106.1, ⟨h106.2.1, h106.2.2⟩⟩⟩
  · refine j_lload_n C 0 0 dX12_common_6 rfl rfl ?_
    refine j_goto C 17 dX12_common_7 (by decide) ?_
    exact hret _ _ _ _ dX12_common_17 ⟨a0, rfl, rfl, by exact ⟨ha0.1, ⟨ha0.2, hp2⟩⟩⟩
set_option maxHeartbeats 4000000 in
theorem s72_X12_common {l : Launch} {dC : Nat → ClassId} {dI : Nat → Nat → Nat} {ad : Nat → Nat} {cA : Nat → ClassId} {pr : Nat → Nat → Bool} {Kz : mm_M} {M0 : mm_M} (hM0 : INV pr Kz M0) (a0 : Int) (ha0 : -9223372036854775808 ≤ a0 ∧ a0 ≤ 9223372036854775807) (a2 : Int) (ha2 : -9223372036854775808 ≤ a2 ∧ a2 ≤ 9223372036854775807) (hp0 : (a2).natAbs < 498454011879264 ∨ (a0).natAbs < 806515533049393) (hp1 : (a2).natAbs ≤ (a0).natAbs) (hp2 : ¬ a0 = 0) : Cj l 71 yX12_common wsX12_common dC dI ad cA [.long (sJ a0), .long (sJ a2)] M0 (fun r M' => ∃ a : Int, r = sJ a ∧ M0 = M' ∧ (-9223372036854775808) ≤ a ∧ a ≤ 9223372036854775807 ∧ (¬ a = 0)) := by
  refine cj_of (cc := cX12_common) (maxL := 4) (lv := [(0, .long (sJ a0)), (2, .long (sJ a2))]) (by decide) rfl (Nat.le_of_ble_eq_true rfl) rfl ?_
  intro p e s m args below meth c A Q C hret
  refine j_lload_n C 1 2 dX12_common_0 rfl rfl ?_
  refine y_lconst C 0 dX12_common_1 rfl ?_
  refine y_lcmp_ne C 10 dX12_common_2 dX12_common_3 (by decide) (by exact ⟨⟨ha2.1, ha2.2⟩, ⟨(by decide), (by decide)⟩⟩) (fun h101 => ?_) (fun h101 => ?_)
  · refine j_lload_n C 1 2 dX12_common_10 rfl rfl ?_
    refine j_lload_n C 0 0 dX12_common_11 rfl rfl ?_
    refine j_lload_n C 1 2 dX12_common_12 rfl rfl ?_
    refine y_lremA C dX12_common_13 (by exact ⟨⟨ha0.1, ha0.2⟩, ⟨⟨ha2.1, ha2.2⟩, h101⟩⟩) (fun a102 la102 ua102 ha102 => ?_)
    refine j_callSj C (d := 70) (As := [.long (sJ a2), .long (sJ a102)]) (st := []) (s71_X12_common hM0 a2 (by exact ⟨ha2.1, ha2.2⟩) a102 (by exact ⟨la102, ua102⟩) (by omega) (by omega) (by exact h101)) gX12_common_X12_common rfl hdX12_commons (by decide) (Nat.le_of_ble_eq_true rfl) dX12_common_14 rfl (fun r103 M104 h105 => ?_)
    obtain ⟨a107, rfl, rfl, h106⟩ := h105
    exact hret _ _ _ _ dX12_common_17 ⟨a107, rfl, rfl, by exact ⟨h106.1, ⟨h106.2.1, h106.2.2⟩⟩⟩
  · refine j_lload_n C 0 0 dX12_common_6 rfl rfl ?_
    refine j_goto C 17 dX12_common_7 (by decide) ?_
    exact hret _ _ _ _ dX12_common_17 ⟨a0, rfl, rfl, by exact ⟨ha0.1, ⟨ha0.2, hp2⟩⟩⟩
set_option maxHeartbeats 4000000 in
theorem s73_X12_common {l : Launch} {dC : Nat → ClassId} {dI : Nat → Nat → Nat} {ad : Nat → Nat} {cA : Nat → ClassId} {pr : Nat → Nat → Bool} {Kz : mm_M} {M0 : mm_M} (hM0 : INV pr Kz M0) (a0 : Int) (ha0 : -9223372036854775808 ≤ a0 ∧ a0 ≤ 9223372036854775807) (a2 : Int) (ha2 : -9223372036854775808 ≤ a2 ∧ a2 ≤ 9223372036854775807) (hp0 : (a2).natAbs < 806515533049393 ∨ (a0).natAbs < 1304969544928657) (hp1 : (a2).natAbs ≤ (a0).natAbs) (hp2 : ¬ a0 = 0) : Cj l 72 yX12_common wsX12_common dC dI ad cA [.long (sJ a0), .long (sJ a2)] M0 (fun r M' => ∃ a : Int, r = sJ a ∧ M0 = M' ∧ (-9223372036854775808) ≤ a ∧ a ≤ 9223372036854775807 ∧ (¬ a = 0)) := by
  refine cj_of (cc := cX12_common) (maxL := 4) (lv := [(0, .long (sJ a0)), (2, .long (sJ a2))]) (by decide) rfl (Nat.le_of_ble_eq_true rfl) rfl ?_
  intro p e s m args below meth c A Q C hret
  refine j_lload_n C 1 2 dX12_common_0 rfl rfl ?_
  refine y_lconst C 0 dX12_common_1 rfl ?_
  refine y_lcmp_ne C 10 dX12_common_2 dX12_common_3 (by decide) (by exact ⟨⟨ha2.1, ha2.2⟩, ⟨(by decide), (by decide)⟩⟩) (fun h101 => ?_) (fun h101 => ?_)
  · refine j_lload_n C 1 2 dX12_common_10 rfl rfl ?_
    refine j_lload_n C 0 0 dX12_common_11 rfl rfl ?_
    refine j_lload_n C 1 2 dX12_common_12 rfl rfl ?_
    refine y_lremA C dX12_common_13 (by exact ⟨⟨ha0.1, ha0.2⟩, ⟨⟨ha2.1, ha2.2⟩, h101⟩⟩) (fun a102 la102 ua102 ha102 => ?_)
    refine j_callSj C (d := 71) (As := [.long (sJ a2), .long (sJ a102)]) (st := []) (s72_X12_common hM0 a2 (by exact ⟨ha2.1, ha2.2⟩) a102 (by exact ⟨la102, ua102⟩) (by omega) (by omega) (by exact h101)) gX12_common_X12_common rfl hdX12_commons (by decide) (Nat.le_of_ble_eq_true rfl) dX12_common_14 rfl (fun r103 M104 h105 => ?_)
    obtain ⟨a107, rfl, rfl, h106⟩ := h105
    exact hret _ _ _ _ dX12_common_17 ⟨a107, rfl, rfl, by exact ⟨h106.1, ⟨h106.2.1, h106.2.2⟩⟩⟩
  · refine j_lload_n C 0 0 dX12_common_6 rfl rfl ?_
    refine j_goto C 17 dX12_common_7 (by decide) ?_
    exact hret _ _ _ _ dX12_common_17 ⟨a0, rfl, rfl, by exact ⟨ha0.1, ⟨ha0.2, hp2⟩⟩⟩
set_option maxHeartbeats 4000000 in
theorem s74_X12_common {l : Launch} {dC : Nat → ClassId} {dI : Nat → Nat → Nat} {ad : Nat → Nat} {cA : Nat → ClassId} {pr : Nat → Nat → Bool} {Kz : mm_M} {M0 : mm_M} (hM0 : INV pr Kz M0) (a0 : Int) (ha0 : -9223372036854775808 ≤ a0 ∧ a0 ≤ 9223372036854775807) (a2 : Int) (ha2 : -9223372036854775808 ≤ a2 ∧ a2 ≤ 9223372036854775807) (hp0 : (a2).natAbs < 1304969544928657 ∨ (a0).natAbs < 2111485077978050) (hp1 : (a2).natAbs ≤ (a0).natAbs) (hp2 : ¬ a0 = 0) : Cj l 73 yX12_common wsX12_common dC dI ad cA [.long (sJ a0), .long (sJ a2)] M0 (fun r M' => ∃ a : Int, r = sJ a ∧ M0 = M' ∧ (-9223372036854775808) ≤ a ∧ a ≤ 9223372036854775807 ∧ (¬ a = 0)) := by
  refine cj_of (cc := cX12_common) (maxL := 4) (lv := [(0, .long (sJ a0)), (2, .long (sJ a2))]) (by decide) rfl (Nat.le_of_ble_eq_true rfl) rfl ?_
  intro p e s m args below meth c A Q C hret
  refine j_lload_n C 1 2 dX12_common_0 rfl rfl ?_
  refine y_lconst C 0 dX12_common_1 rfl ?_
  refine y_lcmp_ne C 10 dX12_common_2 dX12_common_3 (by decide) (by exact ⟨⟨ha2.1, ha2.2⟩, ⟨(by decide), (by decide)⟩⟩) (fun h101 => ?_) (fun h101 => ?_)
  · refine j_lload_n C 1 2 dX12_common_10 rfl rfl ?_
    refine j_lload_n C 0 0 dX12_common_11 rfl rfl ?_
    refine j_lload_n C 1 2 dX12_common_12 rfl rfl ?_
    refine y_lremA C dX12_common_13 (by exact ⟨⟨ha0.1, ha0.2⟩, ⟨⟨ha2.1, ha2.2⟩, h101⟩⟩) (fun a102 la102 ua102 ha102 => ?_)
    refine j_callSj C (d := 72) (As := [.long (sJ a2), .long (sJ a102)]) (st := []) (s73_X12_common hM0 a2 (by exact ⟨ha2.1, ha2.2⟩) a102 (by exact ⟨la102, ua102⟩) (by omega) (by omega) (by exact h101)) gX12_common_X12_common rfl hdX12_commons (by decide) (Nat.le_of_ble_eq_true rfl) dX12_common_14 rfl (fun r103 M104 h105 => ?_)
    obtain ⟨a107, rfl, rfl, h106⟩ := h105
    exact hret _ _ _ _ dX12_common_17 ⟨a107, rfl, rfl, by exact ⟨h106.1, ⟨h106.2.1, h106.2.2⟩⟩⟩
  · refine j_lload_n C 0 0 dX12_common_6 rfl rfl ?_
    refine j_goto C 17 dX12_common_7 (by decide) ?_
    exact hret _ _ _ _ dX12_common_17 ⟨a0, rfl, rfl, by exact ⟨ha0.1, ⟨ha0.2, hp2⟩⟩⟩
set_option maxHeartbeats 4000000 in
theorem s75_X12_common {l : Launch} {dC : Nat → ClassId} {dI : Nat → Nat → Nat} {ad : Nat → Nat} {cA : Nat → ClassId} {pr : Nat → Nat → Bool} {Kz : mm_M} {M0 : mm_M} (hM0 : INV pr Kz M0) (a0 : Int) (ha0 : -9223372036854775808 ≤ a0 ∧ a0 ≤ 9223372036854775807) (a2 : Int) (ha2 : -9223372036854775808 ≤ a2 ∧ a2 ≤ 9223372036854775807) (hp0 : (a2).natAbs < 2111485077978050 ∨ (a0).natAbs < 3416454622906707) (hp1 : (a2).natAbs ≤ (a0).natAbs) (hp2 : ¬ a0 = 0) : Cj l 74 yX12_common wsX12_common dC dI ad cA [.long (sJ a0), .long (sJ a2)] M0 (fun r M' => ∃ a : Int, r = sJ a ∧ M0 = M' ∧ (-9223372036854775808) ≤ a ∧ a ≤ 9223372036854775807 ∧ (¬ a = 0)) := by
  refine cj_of (cc := cX12_common) (maxL := 4) (lv := [(0, .long (sJ a0)), (2, .long (sJ a2))]) (by decide) rfl (Nat.le_of_ble_eq_true rfl) rfl ?_
  intro p e s m args below meth c A Q C hret
  refine j_lload_n C 1 2 dX12_common_0 rfl rfl ?_
  refine y_lconst C 0 dX12_common_1 rfl ?_
  refine y_lcmp_ne C 10 dX12_common_2 dX12_common_3 (by decide) (by exact ⟨⟨ha2.1, ha2.2⟩, ⟨(by decide), (by decide)⟩⟩) (fun h101 => ?_) (fun h101 => ?_)
  · refine j_lload_n C 1 2 dX12_common_10 rfl rfl ?_
    refine j_lload_n C 0 0 dX12_common_11 rfl rfl ?_
    refine j_lload_n C 1 2 dX12_common_12 rfl rfl ?_
    refine y_lremA C dX12_common_13 (by exact ⟨⟨ha0.1, ha0.2⟩, ⟨⟨ha2.1, ha2.2⟩, h101⟩⟩) (fun a102 la102 ua102 ha102 => ?_)
    refine j_callSj C (d := 73) (As := [.long (sJ a2), .long (sJ a102)]) (st := []) (s74_X12_common hM0 a2 (by exact ⟨ha2.1, ha2.2⟩) a102 (by exact ⟨la102, ua102⟩) (by omega) (by omega) (by exact h101)) gX12_common_X12_common rfl hdX12_commons (by decide) (Nat.le_of_ble_eq_true rfl) dX12_common_14 rfl (fun r103 M104 h105 => ?_)
    obtain ⟨a107, rfl, rfl, h106⟩ := h105
    exact hret _ _ _ _ dX12_common_17 ⟨a107, rfl, rfl, by exact ⟨h106.1, ⟨h106.2.1, h106.2.2⟩⟩⟩
  · refine j_lload_n C 0 0 dX12_common_6 rfl rfl ?_
    refine j_goto C 17 dX12_common_7 (by decide) ?_
    exact hret _ _ _ _ dX12_common_17 ⟨a0, rfl, rfl, by exact ⟨ha0.1, ⟨ha0.2, hp2⟩⟩⟩
set_option maxHeartbeats 4000000 in
theorem s76_X12_common {l : Launch} {dC : Nat → ClassId} {dI : Nat → Nat → Nat} {ad : Nat → Nat} {cA : Nat → ClassId} {pr : Nat → Nat → Bool} {Kz : mm_M} {M0 : mm_M} (hM0 : INV pr Kz M0) (a0 : Int) (ha0 : -9223372036854775808 ≤ a0 ∧ a0 ≤ 9223372036854775807) (a2 : Int) (ha2 : -9223372036854775808 ≤ a2 ∧ a2 ≤ 9223372036854775807) (hp0 : (a2).natAbs < 3416454622906707 ∨ (a0).natAbs < 5527939700884757) (hp1 : (a2).natAbs ≤ (a0).natAbs) (hp2 : ¬ a0 = 0) : Cj l 75 yX12_common wsX12_common dC dI ad cA [.long (sJ a0), .long (sJ a2)] M0 (fun r M' => ∃ a : Int, r = sJ a ∧ M0 = M' ∧ (-9223372036854775808) ≤ a ∧ a ≤ 9223372036854775807 ∧ (¬ a = 0)) := by
  refine cj_of (cc := cX12_common) (maxL := 4) (lv := [(0, .long (sJ a0)), (2, .long (sJ a2))]) (by decide) rfl (Nat.le_of_ble_eq_true rfl) rfl ?_
  intro p e s m args below meth c A Q C hret
  refine j_lload_n C 1 2 dX12_common_0 rfl rfl ?_
  refine y_lconst C 0 dX12_common_1 rfl ?_
  refine y_lcmp_ne C 10 dX12_common_2 dX12_common_3 (by decide) (by exact ⟨⟨ha2.1, ha2.2⟩, ⟨(by decide), (by decide)⟩⟩) (fun h101 => ?_) (fun h101 => ?_)
  · refine j_lload_n C 1 2 dX12_common_10 rfl rfl ?_
    refine j_lload_n C 0 0 dX12_common_11 rfl rfl ?_
    refine j_lload_n C 1 2 dX12_common_12 rfl rfl ?_
    refine y_lremA C dX12_common_13 (by exact ⟨⟨ha0.1, ha0.2⟩, ⟨⟨ha2.1, ha2.2⟩, h101⟩⟩) (fun a102 la102 ua102 ha102 => ?_)
    refine j_callSj C (d := 74) (As := [.long (sJ a2), .long (sJ a102)]) (st := []) (s75_X12_common hM0 a2 (by exact ⟨ha2.1, ha2.2⟩) a102 (by exact ⟨la102, ua102⟩) (by omega) (by omega) (by exact h101)) gX12_common_X12_common rfl hdX12_commons (by decide) (Nat.le_of_ble_eq_true rfl) dX12_common_14 rfl (fun r103 M104 h105 => ?_)
    obtain ⟨a107, rfl, rfl, h106⟩ := h105
    exact hret _ _ _ _ dX12_common_17 ⟨a107, rfl, rfl, by exact ⟨h106.1, ⟨h106.2.1, h106.2.2⟩⟩⟩
  · refine j_lload_n C 0 0 dX12_common_6 rfl rfl ?_
    refine j_goto C 17 dX12_common_7 (by decide) ?_
    exact hret _ _ _ _ dX12_common_17 ⟨a0, rfl, rfl, by exact ⟨ha0.1, ⟨ha0.2, hp2⟩⟩⟩
set_option maxHeartbeats 4000000 in
theorem s77_X12_common {l : Launch} {dC : Nat → ClassId} {dI : Nat → Nat → Nat} {ad : Nat → Nat} {cA : Nat → ClassId} {pr : Nat → Nat → Bool} {Kz : mm_M} {M0 : mm_M} (hM0 : INV pr Kz M0) (a0 : Int) (ha0 : -9223372036854775808 ≤ a0 ∧ a0 ≤ 9223372036854775807) (a2 : Int) (ha2 : -9223372036854775808 ≤ a2 ∧ a2 ≤ 9223372036854775807) (hp0 : (a2).natAbs < 5527939700884757 ∨ (a0).natAbs < 8944394323791464) (hp1 : (a2).natAbs ≤ (a0).natAbs) (hp2 : ¬ a0 = 0) : Cj l 76 yX12_common wsX12_common dC dI ad cA [.long (sJ a0), .long (sJ a2)] M0 (fun r M' => ∃ a : Int, r = sJ a ∧ M0 = M' ∧ (-9223372036854775808) ≤ a ∧ a ≤ 9223372036854775807 ∧ (¬ a = 0)) := by
  refine cj_of (cc := cX12_common) (maxL := 4) (lv := [(0, .long (sJ a0)), (2, .long (sJ a2))]) (by decide) rfl (Nat.le_of_ble_eq_true rfl) rfl ?_
  intro p e s m args below meth c A Q C hret
  refine j_lload_n C 1 2 dX12_common_0 rfl rfl ?_
  refine y_lconst C 0 dX12_common_1 rfl ?_
  refine y_lcmp_ne C 10 dX12_common_2 dX12_common_3 (by decide) (by exact ⟨⟨ha2.1, ha2.2⟩, ⟨(by decide), (by decide)⟩⟩) (fun h101 => ?_) (fun h101 => ?_)
  · refine j_lload_n C 1 2 dX12_common_10 rfl rfl ?_
    refine j_lload_n C 0 0 dX12_common_11 rfl rfl ?_
    refine j_lload_n C 1 2 dX12_common_12 rfl rfl ?_
    refine y_lremA C dX12_common_13 (by exact ⟨⟨ha0.1, ha0.2⟩, ⟨⟨ha2.1, ha2.2⟩, h101⟩⟩) (fun a102 la102 ua102 ha102 => ?_)
    refine j_callSj C (d := 75) (As := [.long (sJ a2), .long (sJ a102)]) (st := []) (s76_X12_common hM0 a2 (by exact ⟨ha2.1, ha2.2⟩) a102 (by exact ⟨la102, ua102⟩) (by omega) (by omega) (by exact h101)) gX12_common_X12_common rfl hdX12_commons (by decide) (Nat.le_of_ble_eq_true rfl) dX12_common_14 rfl (fun r103 M104 h105 => ?_)
    obtain ⟨a107, rfl, rfl, h106⟩ := h105
    exact hret _ _ _ _ dX12_common_17 ⟨a107, rfl, rfl, by exact ⟨h106.1, ⟨h106.2.1, h106.2.2⟩⟩⟩
  · refine j_lload_n C 0 0 dX12_common_6 rfl rfl ?_
    refine j_goto C 17 dX12_common_7 (by decide) ?_
    exact hret _ _ _ _ dX12_common_17 ⟨a0, rfl, rfl, by exact ⟨ha0.1, ⟨ha0.2, hp2⟩⟩⟩
set_option maxHeartbeats 4000000 in
theorem s78_X12_common {l : Launch} {dC : Nat → ClassId} {dI : Nat → Nat → Nat} {ad : Nat → Nat} {cA : Nat → ClassId} {pr : Nat → Nat → Bool} {Kz : mm_M} {M0 : mm_M} (hM0 : INV pr Kz M0) (a0 : Int) (ha0 : -9223372036854775808 ≤ a0 ∧ a0 ≤ 9223372036854775807) (a2 : Int) (ha2 : -9223372036854775808 ≤ a2 ∧ a2 ≤ 9223372036854775807) (hp0 : (a2).natAbs < 8944394323791464 ∨ (a0).natAbs < 14472334024676221) (hp1 : (a2).natAbs ≤ (a0).natAbs) (hp2 : ¬ a0 = 0) : Cj l 77 yX12_common wsX12_common dC dI ad cA [.long (sJ a0), .long (sJ a2)] M0 (fun r M' => ∃ a : Int, r = sJ a ∧ M0 = M' ∧ (-9223372036854775808) ≤ a ∧ a ≤ 9223372036854775807 ∧ (¬ a = 0)) := by
  refine cj_of (cc := cX12_common) (maxL := 4) (lv := [(0, .long (sJ a0)), (2, .long (sJ a2))]) (by decide) rfl (Nat.le_of_ble_eq_true rfl) rfl ?_
  intro p e s m args below meth c A Q C hret
  refine j_lload_n C 1 2 dX12_common_0 rfl rfl ?_
  refine y_lconst C 0 dX12_common_1 rfl ?_
  refine y_lcmp_ne C 10 dX12_common_2 dX12_common_3 (by decide) (by exact ⟨⟨ha2.1, ha2.2⟩, ⟨(by decide), (by decide)⟩⟩) (fun h101 => ?_) (fun h101 => ?_)
  · refine j_lload_n C 1 2 dX12_common_10 rfl rfl ?_
    refine j_lload_n C 0 0 dX12_common_11 rfl rfl ?_
    refine j_lload_n C 1 2 dX12_common_12 rfl rfl ?_
    refine y_lremA C dX12_common_13 (by exact ⟨⟨ha0.1, ha0.2⟩, ⟨⟨ha2.1, ha2.2⟩, h101⟩⟩) (fun a102 la102 ua102 ha102 => ?_)
    refine j_callSj C (d := 76) (As := [.long (sJ a2), .long (sJ a102)]) (st := []) (s77_X12_common hM0 a2 (by exact ⟨ha2.1, ha2.2⟩) a102 (by exact ⟨la102, ua102⟩) (by omega) (by omega) (by exact h101)) gX12_common_X12_common rfl hdX12_commons (by decide) (Nat.le_of_ble_eq_true rfl) dX12_common_14 rfl (fun r103 M104 h105 => ?_)
    obtain ⟨a107, rfl, rfl, h106⟩ := h105
    exact hret _ _ _ _ dX12_common_17 ⟨a107, rfl, rfl, by exact ⟨h106.1, ⟨h106.2.1, h106.2.2⟩⟩⟩
  · refine j_lload_n C 0 0 dX12_common_6 rfl rfl ?_
    refine j_goto C 17 dX12_common_7 (by decide) ?_
    exact hret _ _ _ _ dX12_common_17 ⟨a0, rfl, rfl, by exact ⟨ha0.1, ⟨ha0.2, hp2⟩⟩⟩
set_option maxHeartbeats 4000000 in
theorem s79_X12_common {l : Launch} {dC : Nat → ClassId} {dI : Nat → Nat → Nat} {ad : Nat → Nat} {cA : Nat → ClassId} {pr : Nat → Nat → Bool} {Kz : mm_M} {M0 : mm_M} (hM0 : INV pr Kz M0) (a0 : Int) (ha0 : -9223372036854775808 ≤ a0 ∧ a0 ≤ 9223372036854775807) (a2 : Int) (ha2 : -9223372036854775808 ≤ a2 ∧ a2 ≤ 9223372036854775807) (hp0 : (a2).natAbs < 14472334024676221 ∨ (a0).natAbs < 23416728348467685) (hp1 : (a2).natAbs ≤ (a0).natAbs) (hp2 : ¬ a0 = 0) : Cj l 78 yX12_common wsX12_common dC dI ad cA [.long (sJ a0), .long (sJ a2)] M0 (fun r M' => ∃ a : Int, r = sJ a ∧ M0 = M' ∧ (-9223372036854775808) ≤ a ∧ a ≤ 9223372036854775807 ∧ (¬ a = 0)) := by
  refine cj_of (cc := cX12_common) (maxL := 4) (lv := [(0, .long (sJ a0)), (2, .long (sJ a2))]) (by decide) rfl (Nat.le_of_ble_eq_true rfl) rfl ?_
  intro p e s m args below meth c A Q C hret
  refine j_lload_n C 1 2 dX12_common_0 rfl rfl ?_
  refine y_lconst C 0 dX12_common_1 rfl ?_
  refine y_lcmp_ne C 10 dX12_common_2 dX12_common_3 (by decide) (by exact ⟨⟨ha2.1, ha2.2⟩, ⟨(by decide), (by decide)⟩⟩) (fun h101 => ?_) (fun h101 => ?_)
  · refine j_lload_n C 1 2 dX12_common_10 rfl rfl ?_
    refine j_lload_n C 0 0 dX12_common_11 rfl rfl ?_
    refine j_lload_n C 1 2 dX12_common_12 rfl rfl ?_
    refine y_lremA C dX12_common_13 (by exact ⟨⟨ha0.1, ha0.2⟩, ⟨⟨ha2.1, ha2.2⟩, h101⟩⟩) (fun a102 la102 ua102 ha102 => ?_)
    refine j_callSj C (d := 77) (As := [.long (sJ a2), .long (sJ a102)]) (st := []) (s78_X12_common hM0 a2 (by exact ⟨ha2.1, ha2.2⟩) a102 (by exact ⟨la102, ua102⟩) (by omega) (by omega) (by exact h101)) gX12_common_X12_common rfl hdX12_commons (by decide) (Nat.le_of_ble_eq_true rfl) dX12_common_14 rfl (fun r103 M104 h105 => ?_)
    obtain ⟨a107, rfl, rfl, h106⟩ := h105
    exact hret _ _ _ _ dX12_common_17 ⟨a107, rfl, rfl, by exact ⟨h106.1, ⟨h106.2.1, h106.2.2⟩⟩⟩
  · refine j_lload_n C 0 0 dX12_common_6 rfl rfl ?_
    refine j_goto C 17 dX12_common_7 (by decide) ?_
    exact hret _ _ _ _ dX12_common_17 ⟨a0, rfl, rfl, by exact ⟨ha0.1, ⟨ha0.2, hp2⟩⟩⟩
set_option maxHeartbeats 4000000 in
theorem s80_X12_common {l : Launch} {dC : Nat → ClassId} {dI : Nat → Nat → Nat} {ad : Nat → Nat} {cA : Nat → ClassId} {pr : Nat → Nat → Bool} {Kz : mm_M} {M0 : mm_M} (hM0 : INV pr Kz M0) (a0 : Int) (ha0 : -9223372036854775808 ≤ a0 ∧ a0 ≤ 9223372036854775807) (a2 : Int) (ha2 : -9223372036854775808 ≤ a2 ∧ a2 ≤ 9223372036854775807) (hp0 : (a2).natAbs < 23416728348467685 ∨ (a0).natAbs < 37889062373143906) (hp1 : (a2).natAbs ≤ (a0).natAbs) (hp2 : ¬ a0 = 0) : Cj l 79 yX12_common wsX12_common dC dI ad cA [.long (sJ a0), .long (sJ a2)] M0 (fun r M' => ∃ a : Int, r = sJ a ∧ M0 = M' ∧ (-9223372036854775808) ≤ a ∧ a ≤ 9223372036854775807 ∧ (¬ a = 0)) := by
  refine cj_of (cc := cX12_common) (maxL := 4) (lv := [(0, .long (sJ a0)), (2, .long (sJ a2))]) (by decide) rfl (Nat.le_of_ble_eq_true rfl) rfl ?_
  intro p e s m args below meth c A Q C hret
  refine j_lload_n C 1 2 dX12_common_0 rfl rfl ?_
  refine y_lconst C 0 dX12_common_1 rfl ?_
  refine y_lcmp_ne C 10 dX12_common_2 dX12_common_3 (by decide) (by exact ⟨⟨ha2.1, ha2.2⟩, ⟨(by decide), (by decide)⟩⟩) (fun h101 => ?_) (fun h101 => ?_)
  · refine j_lload_n C 1 2 dX12_common_10 rfl rfl ?_
    refine j_lload_n C 0 0 dX12_common_11 rfl rfl ?_
    refine j_lload_n C 1 2 dX12_common_12 rfl rfl ?_
    refine y_lremA C dX12_common_13 (by exact ⟨⟨ha0.1, ha0.2⟩, ⟨⟨ha2.1, ha2.2⟩, h101⟩⟩) (fun a102 la102 ua102 ha102 => ?_)
    refine j_callSj C (d := 78) (As := [.long (sJ a2), .long (sJ a102)]) (st := []) (s79_X12_common hM0 a2 (by exact ⟨ha2.1, ha2.2⟩) a102 (by exact ⟨la102, ua102⟩) (by omega) (by omega) (by exact h101)) gX12_common_X12_common rfl hdX12_commons (by decide) (Nat.le_of_ble_eq_true rfl) dX12_common_14 rfl (fun r103 M104 h105 => ?_)
    obtain ⟨a107, rfl, rfl, h106⟩ := h105
    exact hret _ _ _ _ dX12_common_17 ⟨a107, rfl, rfl, by exact ⟨h106.1, ⟨h106.2.1, h106.2.2⟩⟩⟩
  · refine j_lload_n C 0 0 dX12_common_6 rfl rfl ?_
    refine j_goto C 17 dX12_common_7 (by decide) ?_
    exact hret _ _ _ _ dX12_common_17 ⟨a0, rfl, rfl, by exact ⟨ha0.1, ⟨ha0.2, hp2⟩⟩⟩
set_option maxHeartbeats 4000000 in
theorem s81_X12_common {l : Launch} {dC : Nat → ClassId} {dI : Nat → Nat → Nat} {ad : Nat → Nat} {cA : Nat → ClassId} {pr : Nat → Nat → Bool} {Kz : mm_M} {M0 : mm_M} (hM0 : INV pr Kz M0) (a0 : Int) (ha0 : -9223372036854775808 ≤ a0 ∧ a0 ≤ 9223372036854775807) (a2 : Int) (ha2 : -9223372036854775808 ≤ a2 ∧ a2 ≤ 9223372036854775807) (hp0 : (a2).natAbs < 37889062373143906 ∨ (a0).natAbs < 61305790721611591) (hp1 : (a2).natAbs ≤ (a0).natAbs) (hp2 : ¬ a0 = 0) : Cj l 80 yX12_common wsX12_common dC dI ad cA [.long (sJ a0), .long (sJ a2)] M0 (fun r M' => ∃ a : Int, r = sJ a ∧ M0 = M' ∧ (-9223372036854775808) ≤ a ∧ a ≤ 9223372036854775807 ∧ (¬ a = 0)) := by
  refine cj_of (cc := cX12_common) (maxL := 4) (lv := [(0, .long (sJ a0)), (2, .long (sJ a2))]) (by decide) rfl (Nat.le_of_ble_eq_true rfl) rfl ?_
  intro p e s m args below meth c A Q C hret
  refine j_lload_n C 1 2 dX12_common_0 rfl rfl ?_
  refine y_lconst C 0 dX12_common_1 rfl ?_
  refine y_lcmp_ne C 10 dX12_common_2 dX12_common_3 (by decide) (by exact ⟨⟨ha2.1, ha2.2⟩, ⟨(by decide), (by decide)⟩⟩) (fun h101 => ?_) (fun h101 => ?_)
  · refine j_lload_n C 1 2 dX12_common_10 rfl rfl ?_
    refine j_lload_n C 0 0 dX12_common_11 rfl rfl ?_
    refine j_lload_n C 1 2 dX12_common_12 rfl rfl ?_
    refine y_lremA C dX12_common_13 (by exact ⟨⟨ha0.1, ha0.2⟩, ⟨⟨ha2.1, ha2.2⟩, h101⟩⟩) (fun a102 la102 ua102 ha102 => ?_)
    refine j_callSj C (d := 79) (As := [.long (sJ a2), .long (sJ a102)]) (st := []) (s80_X12_common hM0 a2 (by exact ⟨ha2.1, ha2.2⟩) a102 (by exact ⟨la102, ua102⟩) (by omega) (by omega) (by exact h101)) gX12_common_X12_common rfl hdX12_commons (by decide) (Nat.le_of_ble_eq_true rfl) dX12_common_14 rfl (fun r103 M104 h105 => ?_)
    obtain ⟨a107, rfl, rfl, h106⟩ := h105
    exact hret _ _ _ _ dX12_common_17 ⟨a107, rfl, rfl, by exact ⟨h106.1, ⟨h106.2.1, h106.2.2⟩⟩⟩
  · refine j_lload_n C 0 0 dX12_common_6 rfl rfl ?_
    refine j_goto C 17 dX12_common_7 (by decide) ?_
    exact hret _ _ _ _ dX12_common_17 ⟨a0, rfl, rfl, by exact ⟨ha0.1, ⟨ha0.2, hp2⟩⟩⟩
set_option maxHeartbeats 4000000 in
theorem s82_X12_common {l : Launch} {dC : Nat → ClassId} {dI : Nat → Nat → Nat} {ad : Nat → Nat} {cA : Nat → ClassId} {pr : Nat → Nat → Bool} {Kz : mm_M} {M0 : mm_M} (hM0 : INV pr Kz M0) (a0 : Int) (ha0 : -9223372036854775808 ≤ a0 ∧ a0 ≤ 9223372036854775807) (a2 : Int) (ha2 : -9223372036854775808 ≤ a2 ∧ a2 ≤ 9223372036854775807) (hp0 : (a2).natAbs < 61305790721611591 ∨ (a0).natAbs < 99194853094755497) (hp1 : (a2).natAbs ≤ (a0).natAbs) (hp2 : ¬ a0 = 0) : Cj l 81 yX12_common wsX12_common dC dI ad cA [.long (sJ a0), .long (sJ a2)] M0 (fun r M' => ∃ a : Int, r = sJ a ∧ M0 = M' ∧ (-9223372036854775808) ≤ a ∧ a ≤ 9223372036854775807 ∧ (¬ a = 0)) := by
  refine cj_of (cc := cX12_common) (maxL := 4) (lv := [(0, .long (sJ a0)), (2, .long (sJ a2))]) (by decide) rfl (Nat.le_of_ble_eq_true rfl) rfl ?_
  intro p e s m args below meth c A Q C hret
  refine j_lload_n C 1 2 dX12_common_0 rfl rfl ?_
  refine y_lconst C 0 dX12_common_1 rfl ?_
  refine y_lcmp_ne C 10 dX12_common_2 dX12_common_3 (by decide) (by exact ⟨⟨ha2.1, ha2.2⟩, ⟨(by decide), (by decide)⟩⟩) (fun h101 => ?_) (fun h101 => ?_)
  · refine j_lload_n C 1 2 dX12_common_10 rfl rfl ?_
    refine j_lload_n C 0 0 dX12_common_11 rfl rfl ?_
    refine j_lload_n C 1 2 dX12_common_12 rfl rfl ?_
    refine y_lremA C dX12_common_13 (by exact ⟨⟨ha0.1, ha0.2⟩, ⟨⟨ha2.1, ha2.2⟩, h101⟩⟩) (fun a102 la102 ua102 ha102 => ?_)
    refine j_callSj C (d := 80) (As := [.long (sJ a2), .long (sJ a102)]) (st := []) (s81_X12_common hM0 a2 (by exact ⟨ha2.1, ha2.2⟩) a102 (by exact ⟨la102, ua102⟩) (by omega) (by omega) (by exact h101)) gX12_common_X12_common rfl hdX12_commons (by decide) (Nat.le_of_ble_eq_true rfl) dX12_common_14 rfl (fun r103 M104 h105 => ?_)
    obtain ⟨a107, rfl, rfl, h106⟩ := h105
    exact hret _ _ _ _ dX12_common_17 ⟨a107, rfl, rfl, by exact ⟨h106.1, ⟨h106.2.1, h106.2.2⟩⟩⟩
  · refine j_lload_n C 0 0 dX12_common_6 rfl rfl ?_
    refine j_goto C 17 dX12_common_7 (by decide) ?_
    exact hret _ _ _ _ dX12_common_17 ⟨a0, rfl, rfl, by exact ⟨ha0.1, ⟨ha0.2, hp2⟩⟩⟩
set_option maxHeartbeats 4000000 in
theorem s83_X12_common {l : Launch} {dC : Nat → ClassId} {dI : Nat → Nat → Nat} {ad : Nat → Nat} {cA : Nat → ClassId} {pr : Nat → Nat → Bool} {Kz : mm_M} {M0 : mm_M} (hM0 : INV pr Kz M0) (a0 : Int) (ha0 : -9223372036854775808 ≤ a0 ∧ a0 ≤ 9223372036854775807) (a2 : Int) (ha2 : -9223372036854775808 ≤ a2 ∧ a2 ≤ 9223372036854775807) (hp0 : (a2).natAbs < 99194853094755497 ∨ (a0).natAbs < 160500643816367088) (hp1 : (a2).natAbs ≤ (a0).natAbs) (hp2 : ¬ a0 = 0) : Cj l 82 yX12_common wsX12_common dC dI ad cA [.long (sJ a0), .long (sJ a2)] M0 (fun r M' => ∃ a : Int, r = sJ a ∧ M0 = M' ∧ (-9223372036854775808) ≤ a ∧ a ≤ 9223372036854775807 ∧ (¬ a = 0)) := by
  refine cj_of (cc := cX12_common) (maxL := 4) (lv := [(0, .long (sJ a0)), (2, .long (sJ a2))]) (by decide) rfl (Nat.le_of_ble_eq_true rfl) rfl ?_
  intro p e s m args below meth c A Q C hret
  refine j_lload_n C 1 2 dX12_common_0 rfl rfl ?_
  refine y_lconst C 0 dX12_common_1 rfl ?_
  refine y_lcmp_ne C 10 dX12_common_2 dX12_common_3 (by decide) (by exact ⟨⟨ha2.1, ha2.2⟩, ⟨(by decide), (by decide)⟩⟩) (fun h101 => ?_) (fun h101 => ?_)
  · refine j_lload_n C 1 2 dX12_common_10 rfl rfl ?_
    refine j_lload_n C 0 0 dX12_common_11 rfl rfl ?_
    refine j_lload_n C 1 2 dX12_common_12 rfl rfl ?_
    refine y_lremA C dX12_common_13 (by exact ⟨⟨ha0.1, ha0.2⟩, ⟨⟨ha2.1, ha2.2⟩, h101⟩⟩) (fun a102 la102 ua102 ha102 => ?_)
    refine j_callSj C (d := 81) (As := [.long (sJ a2), .long (sJ a102)]) (st := []) (s82_X12_common hM0 a2 (by exact ⟨ha2.1, ha2.2⟩) a102 (by exact ⟨la102, ua102⟩) (by omega) (by omega) (by exact h101)) gX12_common_X12_common rfl hdX12_commons (by decide) (Nat.le_of_ble_eq_true rfl) dX12_common_14 rfl (fun r103 M104 h105 => ?_)
    obtain ⟨a107, rfl, rfl, h106⟩ := h105
    exact hret _ _ _ _ dX12_common_17 ⟨a107, rfl, rfl, by exact ⟨h106.1, ⟨h106.2.1, h106.2.2⟩⟩⟩
  · refine j_lload_n C 0 0 dX12_common_6 rfl rfl ?_
    refine j_goto C 17 dX12_common_7 (by decide) ?_
    exact hret _ _ _ _ dX12_common_17 ⟨a0, rfl, rfl, by exact ⟨ha0.1, ⟨ha0.2, hp2⟩⟩⟩
set_option maxHeartbeats 4000000 in
theorem s84_X12_common {l : Launch} {dC : Nat → ClassId} {dI : Nat → Nat → Nat} {ad : Nat → Nat} {cA : Nat → ClassId} {pr : Nat → Nat → Bool} {Kz : mm_M} {M0 : mm_M} (hM0 : INV pr Kz M0) (a0 : Int) (ha0 : -9223372036854775808 ≤ a0 ∧ a0 ≤ 9223372036854775807) (a2 : Int) (ha2 : -9223372036854775808 ≤ a2 ∧ a2 ≤ 9223372036854775807) (hp0 : (a2).natAbs < 160500643816367088 ∨ (a0).natAbs < 259695496911122585) (hp1 : (a2).natAbs ≤ (a0).natAbs) (hp2 : ¬ a0 = 0) : Cj l 83 yX12_common wsX12_common dC dI ad cA [.long (sJ a0), .long (sJ a2)] M0 (fun r M' => ∃ a : Int, r = sJ a ∧ M0 = M' ∧ (-9223372036854775808) ≤ a ∧ a ≤ 9223372036854775807 ∧ (¬ a = 0)) := by
  refine cj_of (cc := cX12_common) (maxL := 4) (lv := [(0, .long (sJ a0)), (2, .long (sJ a2))]) (by decide) rfl (Nat.le_of_ble_eq_true rfl) rfl ?_
  intro p e s m args below meth c A Q C hret
  refine j_lload_n C 1 2 dX12_common_0 rfl rfl ?_
  refine y_lconst C 0 dX12_common_1 rfl ?_
  refine y_lcmp_ne C 10 dX12_common_2 dX12_common_3 (by decide) (by exact ⟨⟨ha2.1, ha2.2⟩, ⟨(by decide), (by decide)⟩⟩) (fun h101 => ?_) (fun h101 => ?_)
  · refine j_lload_n C 1 2 dX12_common_10 rfl rfl ?_
    refine j_lload_n C 0 0 dX12_common_11 rfl rfl ?_
    refine j_lload_n C 1 2 dX12_common_12 rfl rfl ?_
    refine y_lremA C dX12_common_13 (by exact ⟨⟨ha0.1, ha0.2⟩, ⟨⟨ha2.1, ha2.2⟩, h101⟩⟩) (fun a102 la102 ua102 ha102 => ?_)
    refine j_callSj C (d := 82) (As := [.long (sJ a2), .long (sJ a102)]) (st := []) (s83_X12_common hM0 a2 (by exact ⟨ha2.1, ha2.2⟩) a102 (by exact ⟨la102, ua102⟩) (by omega) (by omega) (by exact h101)) gX12_common_X12_common rfl hdX12_commons (by decide) (Nat.le_of_ble_eq_true rfl) dX12_common_14 rfl (fun r103 M104 h105 => ?_)
    obtain ⟨a107, rfl, rfl, h106⟩ := h105
    exact hret _ _ _ _ dX12_common_17 ⟨a107, rfl, rfl, by exact ⟨h106.1, ⟨h106.2.1, h106.2.2⟩⟩⟩
  · refine j_lload_n C 0 0 dX12_common_6 rfl rfl ?_
    refine j_goto C 17 dX12_common_7 (by decide) ?_
    exact hret _ _ _ _ dX12_common_17 ⟨a0, rfl, rfl, by exact ⟨ha0.1, ⟨ha0.2, hp2⟩⟩⟩
set_option maxHeartbeats 4000000 in
theorem s85_X12_common {l : Launch} {dC : Nat → ClassId} {dI : Nat → Nat → Nat} {ad : Nat → Nat} {cA : Nat → ClassId} {pr : Nat → Nat → Bool} {Kz : mm_M} {M0 : mm_M} (hM0 : INV pr Kz M0) (a0 : Int) (ha0 : -9223372036854775808 ≤ a0 ∧ a0 ≤ 9223372036854775807) (a2 : Int) (ha2 : -9223372036854775808 ≤ a2 ∧ a2 ≤ 9223372036854775807) (hp0 : 1 ≤ a2 ∧ a2 ≤ 210832519264920576) : Cj l 84 yX12_common wsX12_common dC dI ad cA [.long (sJ a0), .long (sJ a2)] M0 (fun r M' => ∃ a : Int, r = sJ a ∧ M0 = M' ∧ (-9223372036854775808) ≤ a ∧ a ≤ 9223372036854775807 ∧ (¬ a = 0)) := by
  refine cj_of (cc := cX12_common) (maxL := 4) (lv := [(0, .long (sJ a0)), (2, .long (sJ a2))]) (by decide) rfl (Nat.le_of_ble_eq_true rfl) rfl ?_
  intro p e s m args below meth c A Q C hret
  refine j_lload_n C 1 2 dX12_common_0 rfl rfl ?_
  refine y_lconst C 0 dX12_common_1 rfl ?_
  refine y_lcmp_ne C 10 dX12_common_2 dX12_common_3 (by decide) (by exact ⟨⟨ha2.1, ha2.2⟩, ⟨(by decide), (by decide)⟩⟩) (fun h101 => ?_) (fun h101 => ?_)
  · refine j_lload_n C 1 2 dX12_common_10 rfl rfl ?_
    refine j_lload_n C 0 0 dX12_common_11 rfl rfl ?_
    refine j_lload_n C 1 2 dX12_common_12 rfl rfl ?_
    refine y_lremA C dX12_common_13 (by exact ⟨⟨ha0.1, ha0.2⟩, ⟨⟨ha2.1, ha2.2⟩, h101⟩⟩) (fun a102 la102 ua102 ha102 => ?_)
    refine j_callSj C (d := 83) (As := [.long (sJ a2), .long (sJ a102)]) (st := []) (s84_X12_common hM0 a2 (by exact ⟨ha2.1, ha2.2⟩) a102 (by exact ⟨la102, ua102⟩) (by (clear ha102 ua102 la102 h101 hret C ha0 hM0; omega)) (by omega) (by exact h101)) gX12_common_X12_common rfl hdX12_commons (by decide) (Nat.le_of_ble_eq_true rfl) dX12_common_14 rfl (fun r103 M104 h105 => ?_)
    obtain ⟨a107, rfl, rfl, h106⟩ := h105
    exact hret _ _ _ _ dX12_common_17 ⟨a107, rfl, rfl, by exact ⟨h106.1, ⟨h106.2.1, h106.2.2⟩⟩⟩
  · exfalso; omega
set_option maxHeartbeats 4000000 in
theorem s1_X12_part {l : Launch} {dC : Nat → ClassId} {dI : Nat → Nat → Nat} {ad : Nat → Nat} {cA : Nat → ClassId} {pr : Nat → Nat → Bool} {Kz : mm_M} {M0 : mm_M} (hM0 : INV pr Kz M0) (a0 : Int) (ha0 : -9223372036854775808 ≤ a0 ∧ a0 ≤ 9223372036854775807) (a2 : Int) (ha2 : -9223372036854775808 ≤ a2 ∧ a2 ≤ 9223372036854775807) (a4 : Int) (ha4 : -2147483648 ≤ a4 ∧ a4 ≤ 2147483647) (hp0 : 1 ≤ a2 ∧ a2 ≤ 210832519264920576) : Cj l 85 yX12_part wsX12_part dC dI ad cA [.long (sJ a0), .long (sJ a2), .int (sI a4)] M0 (fun r M' => ∃ a : Int, r = sJ a ∧ M0 = M' ∧ (-9223372036854775808) ≤ a ∧ a ≤ 9223372036854775807) := by
  refine cj_of (cc := cX12_part) (maxL := 5) (lv := [(0, .long (sJ a0)), (2, .long (sJ a2)), (4, .int (sI a4))]) (by decide) rfl (Nat.le_of_ble_eq_true rfl) rfl ?_
  intro p e s m args below meth c A Q C hret
  refine j_iload C 2 dX12_part_0 rfl ?_
  have J103 : ∀ (a102 : Int), ((-9223372036854775808) ≤ a102 ∧ a102 ≤ 9223372036854775807) → jj p l e (cn_R 85) s m args below meth c 0 0 Q 5 dC dI ad cA A M0 10 [(0, .long (sJ a0)), (2, .long (sJ a2))] [.long (sJ a102)] := by
    intro a102 h104
    refine j_lload_n C 0 0 dX12_part_10 rfl rfl ?_
    refine j_lload_n C 1 2 dX12_part_11 rfl rfl ?_
    refine j_callSj C (d := 84) (As := [.long (sJ a0), .long (sJ a2)]) (st := [.long (sJ a102)]) (s85_X12_common hM0 a0 (by exact ⟨ha0.1, ha0.2⟩) a2 (by exact ⟨ha2.1, ha2.2⟩) (by exact ⟨hp0.1, hp0.2⟩)) gX12_part_X12_common rfl hdX12_commons (by decide) (Nat.le_of_ble_eq_true rfl) dX12_part_12 rfl (fun r105 M106 h107 => ?_)
    obtain ⟨a109, rfl, rfl, h108⟩ := h107
    refine y_ldiv0 C dX12_part_15 (by exact ⟨h108.1, ⟨h108.2.1, h108.2.2⟩⟩) (fun a110 la110 ua110 => ?_)
    exact hret _ _ _ _ dX12_part_16 ⟨a110, rfl, rfl, by exact ⟨la110, ua110⟩⟩
  refine y_if_ne C 9 dX12_part_2 (by decide) (by exact ⟨ha4.1, ha4.2⟩) (fun h101 => ?_) (fun h101 => ?_)
  · refine j_lload_n C 1 2 dX12_part_9 rfl rfl ?_
    refine j_lv [0, 1] rfl ?_; exact J103 a2 (by exact ⟨ha2.1, ha2.2⟩)
  · refine j_lload_n C 0 0 dX12_part_5 rfl rfl ?_
    refine j_goto C 10 dX12_part_6 (by decide) ?_
    refine j_lv [0, 1] rfl ?_; exact J103 a0 (by exact ⟨ha0.1, ha0.2⟩)
set_option maxHeartbeats 4000000 in
theorem s1_X12_open {l : Launch} {dC : Nat → ClassId} {dI : Nat → Nat → Nat} {ad : Nat → Nat} {cA : Nat → ClassId} {pr : Nat → Nat → Bool} {Kz : mm_M} {M0 : mm_M} (hM0 : INV pr Kz M0) (hpr : PM pr) (hcw : CWK pr Kz) (a1 : Int) (ha1 : -2147483648 ≤ a1 ∧ a1 ≤ 2147483647) (a2 : Int) (ha2 : -2147483648 ≤ a2 ∧ a2 ≤ 2147483647) (hp0 : b01 (PI M0) = 1) : Cj l 86 yX12_open wsX12_open dC dI ad cA [.ref (ad 98), .int (sI a1), .int (sI a2)] M0 (fun r M' => ∃ a : Int, r = sJ a ∧ INV pr Kz M' ∧ FR [98, 103, 104, 106, 110, 111, 112] M0 M' ∧ (-9223372036854775808) ≤ a ∧ a ≤ 9223372036854775807 ∧ (b01 (PI M') = 1)) := by
  refine cj_of (cc := cX12_open) (maxL := 3) (lv := [(0, .ref (ad 98)), (1, .int (sI a1)), (2, .int (sI a2))]) (by decide) rfl (Nat.le_of_ble_eq_true rfl) rfl ?_
  intro p e s m args below meth c A Q C hret
  refine j_aload_n C 0 0 dX12_open_0 rfl rfl ?_
  refine y_iconst C dX12_open_1 ?_
  refine y_putIF C 11 qX12_open_1 rfl rfl ft_11_0 sb_11_0 hM0 (PM.w hpr rfl rfl) dX12_open_2 (fun M101 eM101 hM101 => ?_)
  have pM101 := pi_o eM101 (by decide) (by decide) (by exact hp0)
  refine j_iload_n C 2 2 dX12_open_5 rfl rfl ?_
  refine j_callSi C (d := 1) (As := [.int (sI a2)]) (st := []) (s1_X12_isPart hM101 a2 (by exact ⟨ha2.1, ha2.2⟩)) gX12_open_X12_isPart rfl hdX12_isParts (by decide) (Nat.le_of_ble_eq_true rfl) dX12_open_6 rfl (fun r102 M103 h104 => ?_)
  obtain ⟨a106, rfl, rfl, h105⟩ := h104
  refine y_if_ne C 16 dX12_open_9 (by decide) (by omega) (fun h107 => ?_) (fun h107 => ?_)
  · refine j_iload_n C 1 1 dX12_open_16 rfl rfl ?_
    refine j_callSi C (d := 1) (As := [.int (sI a1)]) (st := []) (s1_X12_isLate hM101 a1 (by exact ⟨ha1.1, ha1.2⟩)) gX12_open_X12_isLate rfl hdX12_isLates (by decide) (Nat.le_of_ble_eq_true rfl) dX12_open_17 rfl (fun r108 M109 h110 => ?_)
    obtain ⟨a112, rfl, rfl, h111⟩ := h110
    refine y_if_ne C 27 dX12_open_20 (by decide) (by omega) (fun h113 => ?_) (fun h113 => ?_)
    · refine j_aload_n C 0 0 dX12_open_27 rfl rfl ?_
      refine j_callVv C (d := 4) (As := []) (st := []) 98 (s_lt rfl rfl) (s_kc (c := 11) rfl rfl) (by decide) rfl (s1_X12_laysBuys hM101 hpr hcw (by exact pM101)) gX12_open_X12_laysBuys rfl hdX12_laysBuys (by decide) (Nat.le_of_ble_eq_true rfl) dX12_open_28 rfl (fun M115 h116 => ?_)
      obtain ⟨hM115, fM115, h117⟩ := h116
      refine j_aload_n C 0 0 dX12_open_31 rfl rfl ?_
      refine j_iload_n C 1 1 dX12_open_32 rfl rfl ?_
      refine j_callVv C (d := 4) (As := [.int (sI a1)]) (st := []) 98 (s_lt rfl rfl) (s_kc (c := 11) rfl rfl) (by decide) rfl (s1_X12_laysDays hM115 hpr a1 (by exact ⟨ha1.1, ha1.2⟩) (by exact h117.2.2)) gX12_open_X12_laysDays rfl hdX12_laysDays (by decide) (Nat.le_of_ble_eq_true rfl) dX12_open_33 rfl (fun M119 h120 => ?_)
      obtain ⟨hM119, fM119, h121⟩ := h120
      refine j_aload_n C 0 0 dX12_open_36 rfl rfl ?_
      refine j_callVj C (d := 0) (As := []) (st := []) 98 (s_lt rfl rfl) (s_kc (c := 11) rfl rfl) (by decide) rfl (s1_X12_sumRows hM119) gX12_open_X12_sumRows rfl hdX12_sumRows (by decide) (Nat.le_of_ble_eq_true rfl) dX12_open_37 rfl (fun r122 M123 h124 => ?_)
      obtain ⟨a126, rfl, rfl, h125⟩ := h124
      refine j_aload_n C 0 0 dX12_open_40 rfl rfl ?_
      refine j_callVj C (d := 3) (As := []) (st := [.long (sJ a126)]) 98 (s_lt rfl rfl) (s_kc (c := 11) rfl rfl) (by decide) rfl (s1_X12_shutRows hM119) gX12_open_X12_shutRows rfl hdX12_shutRows (by decide) (Nat.le_of_ble_eq_true rfl) dX12_open_41 rfl (fun r127 M128 h129 => ?_)
      obtain ⟨a131, rfl, rfl, h130⟩ := h129
      refine e_lsub C dX12_open_44 (fun lb132 ub132 => ?_)
      refine j_aload_n C 0 0 dX12_open_45 rfl rfl ?_
      refine j_iload_n C 1 1 dX12_open_46 rfl rfl ?_
      refine j_callVj C (d := 1) (As := [.int (sI a1)]) (st := [.long (sJ (subJ a126 a131))]) 98 (s_lt rfl rfl) (s_kc (c := 11) rfl rfl) (by decide) rfl (s1_X12_wholeOf hM119 a1 (by exact ⟨ha1.1, ha1.2⟩) (by (clear ub132 lb132 h130 h125 h121 fM119 hM119 h117 fM115 hM115 h107 h105 pM101 hM101 eM101 hret C hp0 ha2 hcw hpr hM0; omega))) gX12_open_X12_wholeOf rfl hdX12_wholeOf (by decide) (Nat.le_of_ble_eq_true rfl) dX12_open_47 rfl (fun r133 M134 h135 => ?_)
      obtain ⟨a137, rfl, rfl, h136⟩ := h135
      refine j_iload_n C 2 2 dX12_open_50 rfl rfl ?_
      refine j_callSj C (d := 85) (As := [.long (sJ (subJ a126 a131)), .long (sJ a137), .int (sI a2)]) (st := []) (s1_X12_part hM119 (subJ a126 a131) (by exact ⟨lb132, ub132⟩) a137 (by (clear ub132 lb132 h130 h125 h121 fM119 hM119 h117 fM115 hM115 h113 h111 h107 h105 pM101 hM101 eM101 hret C hp0 ha2 ha1 hcw hpr hM0; omega)) a2 (by exact ⟨ha2.1, ha2.2⟩) (by exact ⟨h136.1, h136.2⟩)) gX12_open_X12_part rfl hdX12_parts (by decide) (Nat.le_of_ble_eq_true rfl) dX12_open_51 rfl (fun r138 M139 h140 => ?_)
      obtain ⟨a142, rfl, rfl, h141⟩ := h140
      exact hret _ _ _ _ dX12_open_54 ⟨a142, rfl, hM119, (((FR.rf.wI eM101 (by decide)).tr fM115 (by decide)).tr fM119 (by decide)), by exact ⟨h141.1, ⟨h141.2, h121⟩⟩⟩
    · refine y_ldc2 C (-3) dX12_open_23 kX12_open_359 rfl ?_
      exact hret _ _ _ _ dX12_open_26 ⟨(-3), rfl, hM101, (FR.rf.wI eM101 (by decide)), by exact ⟨(by decide), ⟨(by decide), pM101⟩⟩⟩
  · refine y_ldc2 C (-2) dX12_open_12 kX12_open_393 rfl ?_
    exact hret _ _ _ _ dX12_open_15 ⟨(-2), rfl, hM101, (FR.rf.wI eM101 (by decide)), by exact ⟨(by decide), ⟨(by decide), pM101⟩⟩⟩
set_option maxHeartbeats 4000000 in
theorem s1_X12_isMuch {l : Launch} {dC : Nat → ClassId} {dI : Nat → Nat → Nat} {ad : Nat → Nat} {cA : Nat → ClassId} {pr : Nat → Nat → Bool} {Kz : mm_M} {M0 : mm_M} (hM0 : INV pr Kz M0) (a0 : Int) (ha0 : -9223372036854775808 ≤ a0 ∧ a0 ≤ 9223372036854775807) (a2 : Int) (ha2 : -9223372036854775808 ≤ a2 ∧ a2 ≤ 9223372036854775807) (a4 : Int) (ha4 : -2147483648 ≤ a4 ∧ a4 ≤ 2147483647) : Ci l 0 yX12_isMuch wsX12_isMuch dC dI ad cA [.long (sJ a0), .long (sJ a2), .int (sI a4)] M0 (fun r M' => ∃ a : Int, r = sI a ∧ M0 = M' ∧ 0 ≤ a ∧ a ≤ 1 ∧ ((a = 1) ∨ (a = 0))) := by
  refine ci_of (cc := cX12_isMuch) (maxL := 7) (ty := .boolean) (lv := [(0, .long (sJ a0)), (2, .long (sJ a2)), (4, .int (sI a4))]) (by decide) rfl (fun r M' hp => by obtain ⟨a, rfl, -, h⟩ := hp; rcases (show a = 0 ∨ a = 1 by omega) with rfl | rfl <;> rfl) (Nat.le_of_ble_eq_true rfl) rfl ?_
  intro p e s m args below meth c A Q C hret
  refine j_lload_n C 0 0 dX12_isMuch_0 rfl rfl ?_
  refine j_iload C 2 dX12_isMuch_1 rfl ?_
  refine y_i2l C dX12_isMuch_3 (by exact ⟨ha4.1, ha4.2⟩) ?_
  refine j_lload_n C 1 2 dX12_isMuch_4 rfl rfl ?_
  refine y_ldc2 C 100 dX12_isMuch_5 kX12_isMuch_304 rfl ?_
  refine y_ldiv0 C dX12_isMuch_8 (by exact ⟨(by decide), ⟨(by decide), (by decide)⟩⟩) (fun a101 la101 ua101 => ?_)
  refine e_lmul C dX12_isMuch_9 (fun lb102 ub102 => ?_)
  refine e_lsub C dX12_isMuch_10 (fun lb103 ub103 => ?_)
  refine j_lstore C 5 [(5, .long (sJ (subJ a0 (mulJ a4 a101)))), (0, .long (sJ a0)), (2, .long (sJ a2)), (4, .int (sI a4))] dX12_isMuch_11 (by decide) rfl ?_
  refine j_lload C 0 dX12_isMuch_13 rfl ?_
  refine y_ldc2 C 100 dX12_isMuch_15 kX12_isMuch_304 rfl ?_
  refine y_lcmp_ge C 48 dX12_isMuch_18 dX12_isMuch_19 (by decide) (by exact ⟨⟨lb103, ub103⟩, ⟨(by decide), (by decide)⟩⟩) (fun h104 => ?_) (fun h104 => ?_)
  · refine y_iconst C dX12_isMuch_48 ?_
    refine j_goto C 53 dX12_isMuch_49 (by decide) ?_
    exact hret _ _ _ _ dX12_isMuch_53 ⟨1, rfl, rfl, by exact ⟨(by decide), ⟨(by decide), (by decide)⟩⟩⟩
  · refine j_lload C 0 dX12_isMuch_22 rfl ?_
    refine y_lconst C 0 dX12_isMuch_24 rfl ?_
    refine y_lcmp_lt C 52 dX12_isMuch_25 dX12_isMuch_26 (by decide) (by exact ⟨⟨lb103, ub103⟩, ⟨(by decide), (by decide)⟩⟩) (fun h105 => ?_) (fun h105 => ?_)
    · refine y_iconst C dX12_isMuch_52 ?_
      exact hret _ _ _ _ dX12_isMuch_53 ⟨0, rfl, rfl, by exact ⟨(by decide), ⟨(by decide), (by decide)⟩⟩⟩
    · refine j_lload C 0 dX12_isMuch_29 rfl ?_
      refine y_ldc2 C 100 dX12_isMuch_31 kX12_isMuch_304 rfl ?_
      refine y_lmul C dX12_isMuch_34 ?_
      refine j_iload C 3 dX12_isMuch_35 rfl ?_
      refine y_i2l C dX12_isMuch_37 (by exact ⟨ha4.1, ha4.2⟩) ?_
      refine j_lload_n C 2 2 dX12_isMuch_38 rfl rfl ?_
      refine y_ldc2 C 100 dX12_isMuch_39 kX12_isMuch_304 rfl ?_
      refine y_lrem0 C dX12_isMuch_42 (by exact ⟨(by decide), ⟨(by decide), (by decide)⟩⟩) (fun a106 la106 ua106 => ?_)
      refine e_lmul C dX12_isMuch_43 (fun lb107 ub107 => ?_)
      refine y_lcmp_lt C 52 dX12_isMuch_44 dX12_isMuch_45 (by decide) (by exact ⟨⟨(by (clear ua106 la106 ub102 lb102 ua101 la101 hret C ha4 ha2 ha0 hM0; omega)), (by (clear ua106 la106 ub102 lb102 ua101 la101 hret C ha4 ha2 ha0 hM0; omega))⟩, ⟨lb107, ub107⟩⟩) (fun h108 => ?_) (fun h108 => ?_)
      · refine y_iconst C dX12_isMuch_52 ?_
        exact hret _ _ _ _ dX12_isMuch_53 ⟨0, rfl, rfl, by exact ⟨(by decide), ⟨(by decide), (by decide)⟩⟩⟩
      · refine y_iconst C dX12_isMuch_48 ?_
        refine j_goto C 53 dX12_isMuch_49 (by decide) ?_
        exact hret _ _ _ _ dX12_isMuch_53 ⟨1, rfl, rfl, by exact ⟨(by decide), ⟨(by decide), (by decide)⟩⟩⟩
set_option maxHeartbeats 4000000 in
theorem s1_X12_likely {l : Launch} {dC : Nat → ClassId} {dI : Nat → Nat → Nat} {ad : Nat → Nat} {cA : Nat → ClassId} {pr : Nat → Nat → Bool} {Kz : mm_M} {M0 : mm_M} (hM0 : INV pr Kz M0) (hpr : PM pr) (hcw : CWK pr Kz) (a1 : Int) (ha1 : -2147483648 ≤ a1 ∧ a1 ≤ 2147483647) (hp0 : b01 (PI M0) = 1) : Ci l 5 yX12_likely wsX12_likely dC dI ad cA [.ref (ad 98), .int (sI a1)] M0 (fun r M' => ∃ a : Int, r = sI a ∧ INV pr Kz M' ∧ FR [98, 103, 104, 106, 110, 111, 112] M0 M' ∧ (-3) ≤ a ∧ a ≤ 10 ∧ (b01 (PI M') = 1)) := by
  refine ci_of (cc := cX12_likely) (maxL := 3) (ty := .int) (lv := [(0, .ref (ad 98)), (1, .int (sI a1))]) (by decide) rfl (fun r M' hp => rfl) (Nat.le_of_ble_eq_true rfl) rfl ?_
  intro p e s m args below meth c A Q C hret
  refine j_aload_n C 0 0 dX12_likely_0 rfl rfl ?_
  refine y_iconst C dX12_likely_1 ?_
  refine y_putIF C 11 qX12_likely_1 rfl rfl ft_11_0 sb_11_0 hM0 (PM.w hpr rfl rfl) dX12_likely_2 (fun M101 eM101 hM101 => ?_)
  have pM101 := pi_o eM101 (by decide) (by decide) (by exact hp0)
  refine j_iload_n C 1 1 dX12_likely_5 rfl rfl ?_
  refine y_i2l C dX12_likely_6 (by exact ⟨ha1.1, ha1.2⟩) ?_
  refine y_lconst C 0 dX12_likely_7 rfl ?_
  refine y_ldc2 C 100 dX12_likely_8 kX12_likely_304 rfl ?_
  refine j_callSi C (d := 0) (As := [.long (sJ a1), .long (sJ 0), .long (sJ 100)]) (st := []) (s1_X12_within hM101 a1 (by omega) 0 (by exact ⟨(by decide), (by decide)⟩) 100 (by exact ⟨(by decide), (by decide)⟩)) gX12_likely_X12_within rfl hdX12_withins (by decide) (Nat.le_of_ble_eq_true rfl) dX12_likely_11 rfl (fun r102 M103 h104 => ?_)
  obtain ⟨a106, rfl, rfl, h105⟩ := h104
  refine y_if_ne C 20 dX12_likely_14 (by decide) (by omega) (fun h107 => ?_) (fun h107 => ?_)
  · refine j_aload_n C 0 0 dX12_likely_20 rfl rfl ?_
    refine j_callVv C (d := 4) (As := []) (st := []) 98 (s_lt rfl rfl) (s_kc (c := 11) rfl rfl) (by decide) rfl (s1_X12_laysBuys hM101 hpr hcw (by exact pM101)) gX12_likely_X12_laysBuys rfl hdX12_laysBuys (by decide) (Nat.le_of_ble_eq_true rfl) dX12_likely_21 rfl (fun M109 h110 => ?_)
    obtain ⟨hM109, fM109, h111⟩ := h110
    refine y_iconst C dX12_likely_24 ?_
    refine j_istore_n C 2 [(2, .int (sI 0)), (0, .ref (ad 98)), (1, .int (sI a1))] dX12_likely_25 rfl (by decide) rfl ?_
    have L390 : ∀ (n388 : Nat), ∀ (a391 : Int) (M392 : mm_M), (0 ≤ a391 ∧ a391 ≤ 11 ∧ (b01 (PI M392) = 1) ∧ (11 - a391) < (n388 : Int)) → INV pr Kz M392 → FR [98, 103, 104, 106, 110, 111, 112] M0 M392 → jj p l e (cn_R 5) s m args below meth c 0 0 Q 3 dC dI ad cA A M392 26 [(0, .ref (ad 98)), (1, .int (sI a1)), (2, .int (sI a391))] [] := by
      intro n388
      induction n388 with
      | zero =>
        intro a391 M392 h393 hM392 fM392
        exfalso; omega
      | succ n388 ih389 =>
        intro a391 M392 h393 hM392 fM392
        refine j_iload_n C 2 2 dX12_likely_26 rfl rfl ?_
        refine y_bipush C dX12_likely_27 rfl ?_
        refine y_icmp_gt C 61 dX12_likely_29 (by decide) (by exact ⟨⟨(by (clear fM392 hM392 ih389 h111 fM109 hM109 h107 h105 pM101 hM101 eM101 hret C hp0 ha1 hcw hpr hM0; omega)), (by (clear fM392 hM392 ih389 h111 fM109 hM109 h107 h105 pM101 hM101 eM101 hret C hp0 ha1 hcw hpr hM0; omega))⟩, ⟨(by decide), (by decide)⟩⟩) (fun h394 => ?_) (fun h394 => ?_)
        · refine y_iconst C dX12_likely_61 ?_
          exact hret _ _ _ _ dX12_likely_62 ⟨(-1), rfl, hM392, (FR.rf.tr fM392 (by decide)), by exact ⟨(by decide), ⟨(by decide), h393.2.2.1⟩⟩⟩
        · refine j_aload_n C 0 0 dX12_likely_32 rfl rfl ?_
          refine j_iload_n C 2 2 dX12_likely_33 rfl rfl ?_
          refine j_callVv C (d := 4) (As := [.int (sI a391)]) (st := []) 98 (s_lt rfl rfl) (s_kc (c := 11) rfl rfl) (by decide) rfl (s1_X12_laysDays hM392 hpr a391 (by omega) (by exact h393.2.2.1)) gX12_likely_X12_laysDays rfl hdX12_laysDays (by decide) (Nat.le_of_ble_eq_true rfl) dX12_likely_34 rfl (fun M396 h397 => ?_)
          obtain ⟨hM396, fM396, h398⟩ := h397
          refine j_aload_n C 0 0 dX12_likely_37 rfl rfl ?_
          refine j_callVj C (d := 3) (As := []) (st := []) 98 (s_lt rfl rfl) (s_kc (c := 11) rfl rfl) (by decide) rfl (s1_X12_shutRows hM396) gX12_likely_X12_shutRows rfl hdX12_shutRows (by decide) (Nat.le_of_ble_eq_true rfl) dX12_likely_38 rfl (fun r399 M400 h401 => ?_)
          obtain ⟨a403, rfl, rfl, h402⟩ := h401
          refine j_aload_n C 0 0 dX12_likely_41 rfl rfl ?_
          refine j_iload_n C 2 2 dX12_likely_42 rfl rfl ?_
          refine j_callVj C (d := 1) (As := [.int (sI a391)]) (st := [.long (sJ a403)]) 98 (s_lt rfl rfl) (s_kc (c := 11) rfl rfl) (by decide) rfl (s1_X12_wholeOf hM396 a391 (by omega) (by exact ⟨h393.1, (by omega)⟩)) gX12_likely_X12_wholeOf rfl hdX12_wholeOf (by decide) (Nat.le_of_ble_eq_true rfl) dX12_likely_43 rfl (fun r404 M405 h406 => ?_)
          obtain ⟨a408, rfl, rfl, h407⟩ := h406
          refine j_iload_n C 1 1 dX12_likely_46 rfl rfl ?_
          refine j_callSi C (d := 0) (As := [.long (sJ a403), .long (sJ a408), .int (sI a1)]) (st := []) (s1_X12_isMuch hM396 a403 (by exact ⟨h402.1, h402.2⟩) a408 (by (clear h402 h398 fM396 hM396 h394 fM392 hM392 h393 ih389 h111 fM109 hM109 h107 h105 pM101 hM101 eM101 hret C hp0 ha1 hcw hpr hM0; omega)) a1 (by exact ⟨ha1.1, ha1.2⟩)) gX12_likely_X12_isMuch rfl hdX12_isMuchs (by decide) (Nat.le_of_ble_eq_true rfl) dX12_likely_47 rfl (fun r409 M410 h411 => ?_)
          obtain ⟨a413, rfl, rfl, h412⟩ := h411
          refine y_if_eq C 55 dX12_likely_50 (by decide) (by omega) (fun h414 => ?_) (fun h414 => ?_)
          · refine y_iinc C 2 [(2, .int (sI (a391 + 1))), (0, .ref (ad 98)), (1, .int (sI a1))] dX12_likely_55 rfl (by decide) rfl ?_
            refine j_goto C 26 dX12_likely_58 (by decide) ?_
            refine j_lv [1, 2, 0] rfl ?_; exact ih389 (a391 + 1) M396 (by exact ⟨(by (clear h414 h412 h407 h402 fM396 hM396 fM392 hM392 ih389 h111 fM109 hM109 h107 h105 pM101 hM101 eM101 hret C hp0 ha1 hcw hpr hM0; omega)), ⟨(by (clear h414 h412 h407 h402 fM396 hM396 fM392 hM392 ih389 h111 fM109 hM109 h107 h105 pM101 hM101 eM101 hret C hp0 ha1 hcw hpr hM0; omega)), ⟨h398, (by (clear h414 h412 h407 h402 fM396 hM396 fM392 hM392 ih389 h111 fM109 hM109 h107 h105 pM101 hM101 eM101 hret C hp0 ha1 hcw hpr hM0; omega))⟩⟩⟩) hM396 ((FR.rf.tr fM392 (by decide)).tr fM396 (by decide))
          · refine j_iload_n C 2 2 dX12_likely_53 rfl rfl ?_
            exact hret _ _ _ _ dX12_likely_54 ⟨a391, rfl, hM396, ((FR.rf.tr fM392 (by decide)).tr fM396 (by decide)), by exact ⟨(by (clear h414 h412 h407 h402 fM396 hM396 fM392 hM392 ih389 h111 fM109 hM109 h107 h105 pM101 hM101 eM101 hret C hp0 ha1 hcw hpr hM0; omega)), ⟨(by (clear h414 h412 h407 h402 fM396 hM396 fM392 hM392 ih389 h111 fM109 hM109 h107 h105 pM101 hM101 eM101 hret C hp0 ha1 hcw hpr hM0; omega)), h398⟩⟩⟩
    refine j_lv [1, 2, 0] rfl ?_; exact L390 2010 0 M109 (by exact ⟨(by decide), ⟨(by decide), ⟨h111.2.2, (by decide)⟩⟩⟩) hM109 ((FR.rf.wI eM101 (by decide)).tr fM109 (by decide))
  · refine y_bipush C dX12_likely_17 rfl ?_
    exact hret _ _ _ _ dX12_likely_19 ⟨(-3), rfl, hM101, (FR.rf.wI eM101 (by decide)), by exact ⟨(by decide), ⟨(by decide), pM101⟩⟩⟩
set_option maxHeartbeats 4000000 in
theorem s1_X12_shutsBy {l : Launch} {dC : Nat → ClassId} {dI : Nat → Nat → Nat} {ad : Nat → Nat} {cA : Nat → ClassId} {pr : Nat → Nat → Bool} {Kz : mm_M} {M0 : mm_M} (hM0 : INV pr Kz M0) (hpr : PM pr) (hcw : CWK pr Kz) (a1 : Int) (ha1 : -2147483648 ≤ a1 ∧ a1 ≤ 2147483647) (a2 : Int) (ha2 : -2147483648 ≤ a2 ∧ a2 ≤ 2147483647) (a3 : Int) (ha3 : -2147483648 ≤ a3 ∧ a3 ≤ 2147483647) (hp0 : b01 (PI M0) = 1) : Cj l 86 yX12_shutsBy wsX12_shutsBy dC dI ad cA [.ref (ad 98), .int (sI a1), .int (sI a2), .int (sI a3)] M0 (fun r M' => ∃ a : Int, r = sJ a ∧ INV pr Kz M' ∧ FR [98, 103, 104, 106, 110, 111, 112] M0 M' ∧ (-9223372036854775808) ≤ a ∧ a ≤ 9223372036854775807 ∧ (b01 (PI M') = 1)) := by
  refine cj_of (cc := cX12_shutsBy) (maxL := 4) (lv := [(0, .ref (ad 98)), (1, .int (sI a1)), (2, .int (sI a2)), (3, .int (sI a3))]) (by decide) rfl (Nat.le_of_ble_eq_true rfl) rfl ?_
  intro p e s m args below meth c A Q C hret
  refine j_aload_n C 0 0 dX12_shutsBy_0 rfl rfl ?_
  refine y_iconst C dX12_shutsBy_1 ?_
  refine y_putIF C 11 qX12_shutsBy_1 rfl rfl ft_11_0 sb_11_0 hM0 (PM.w hpr rfl rfl) dX12_shutsBy_2 (fun M101 eM101 hM101 => ?_)
  have pM101 := pi_o eM101 (by decide) (by decide) (by exact hp0)
  refine j_aload_n C 0 0 dX12_shutsBy_5 rfl rfl ?_
  refine j_iload_n C 1 1 dX12_shutsBy_6 rfl rfl ?_
  refine y_i2l C dX12_shutsBy_7 (by exact ⟨ha1.1, ha1.2⟩) ?_
  refine j_callVi C (d := 1) (As := [.long (sJ a1)]) (st := []) 98 (s_lt rfl rfl) (s_kc (c := 11) rfl rfl) (by decide) rfl (s1_X12_isBuyer hM101 a1 (by omega)) gX12_shutsBy_X12_isBuyer rfl hdX12_isBuyer (by decide) (Nat.le_of_ble_eq_true rfl) dX12_shutsBy_8 rfl (fun r102 M103 h104 => ?_)
  obtain ⟨a106, rfl, rfl, h105⟩ := h104
  refine y_if_eq C 21 dX12_shutsBy_11 (by decide) (by omega) (fun h107 => ?_) (fun h107 => ?_)
  · refine y_ldc2 C (-2) dX12_shutsBy_21 kX12_shutsBy_393 rfl ?_
    exact hret _ _ _ _ dX12_shutsBy_24 ⟨(-2), rfl, hM101, (FR.rf.wI eM101 (by decide)), by exact ⟨(by decide), ⟨(by decide), pM101⟩⟩⟩
  · refine j_iload_n C 3 3 dX12_shutsBy_14 rfl rfl ?_
    refine j_callSi C (d := 1) (As := [.int (sI a3)]) (st := []) (s1_X12_isPart hM101 a3 (by exact ⟨ha3.1, ha3.2⟩)) gX12_shutsBy_X12_isPart rfl hdX12_isParts (by decide) (Nat.le_of_ble_eq_true rfl) dX12_shutsBy_15 rfl (fun r108 M109 h110 => ?_)
    obtain ⟨a112, rfl, rfl, h111⟩ := h110
    refine y_if_ne C 25 dX12_shutsBy_18 (by decide) (by omega) (fun h113 => ?_) (fun h113 => ?_)
    · refine j_iload_n C 2 2 dX12_shutsBy_25 rfl rfl ?_
      refine j_callSi C (d := 1) (As := [.int (sI a2)]) (st := []) (s1_X12_isLate hM101 a2 (by exact ⟨ha2.1, ha2.2⟩)) gX12_shutsBy_X12_isLate rfl hdX12_isLates (by decide) (Nat.le_of_ble_eq_true rfl) dX12_shutsBy_26 rfl (fun r114 M115 h116 => ?_)
      obtain ⟨a118, rfl, rfl, h117⟩ := h116
      refine y_if_ne C 36 dX12_shutsBy_29 (by decide) (by omega) (fun h119 => ?_) (fun h119 => ?_)
      · refine j_aload_n C 0 0 dX12_shutsBy_36 rfl rfl ?_
        refine j_callVv C (d := 4) (As := []) (st := []) 98 (s_lt rfl rfl) (s_kc (c := 11) rfl rfl) (by decide) rfl (s1_X12_laysBuys hM101 hpr hcw (by exact pM101)) gX12_shutsBy_X12_laysBuys rfl hdX12_laysBuys (by decide) (Nat.le_of_ble_eq_true rfl) dX12_shutsBy_37 rfl (fun M121 h122 => ?_)
        obtain ⟨hM121, fM121, h123⟩ := h122
        refine j_aload_n C 0 0 dX12_shutsBy_40 rfl rfl ?_
        refine j_iload_n C 2 2 dX12_shutsBy_41 rfl rfl ?_
        refine j_callVv C (d := 4) (As := [.int (sI a2)]) (st := []) 98 (s_lt rfl rfl) (s_kc (c := 11) rfl rfl) (by decide) rfl (s1_X12_laysDays hM121 hpr a2 (by exact ⟨ha2.1, ha2.2⟩) (by exact h123.2.2)) gX12_shutsBy_X12_laysDays rfl hdX12_laysDays (by decide) (Nat.le_of_ble_eq_true rfl) dX12_shutsBy_42 rfl (fun M125 h126 => ?_)
        obtain ⟨hM125, fM125, h127⟩ := h126
        refine j_aload_n C 0 0 dX12_shutsBy_45 rfl rfl ?_
        refine y_getC C 11 112 fX12_shutsBy_58 rfl rfl ft_11_25 sm_11_25 rfl hM125 dX12_shutsBy_46 ?_
        refine j_iload_n C 1 1 dX12_shutsBy_49 rfl rfl ?_
        refine y_lald C 58 6 rfl rfl rfl ak_58 an_58 rfl dX12_shutsBy_50 (by (clear h127 fM125 hM125 h123 fM121 hM121 pM101 hM101 eM101 hret C hp0 ha3 ha2 hcw hpr hM0; omega)) (fun a128 ea128 la128 ua128 => ?_)
        obtain rfl : a128 = (M125.2.1 112 (a1).toNat).toInt := ea128
        refine j_aload_n C 0 0 dX12_shutsBy_51 rfl rfl ?_
        refine j_iload_n C 2 2 dX12_shutsBy_52 rfl rfl ?_
        refine j_callVj C (d := 1) (As := [.int (sI a2)]) (st := [.long (sJ (M125.2.1 112 (a1).toNat).toInt)]) 98 (s_lt rfl rfl) (s_kc (c := 11) rfl rfl) (by decide) rfl (s1_X12_wholeOf hM125 a2 (by exact ⟨ha2.1, ha2.2⟩) (by (clear ua128 la128 h127 fM125 hM125 h123 fM121 hM121 h113 h111 h107 h105 pM101 hM101 eM101 hret C hp0 ha3 ha1 hcw hpr hM0; omega))) gX12_shutsBy_X12_wholeOf rfl hdX12_wholeOf (by decide) (Nat.le_of_ble_eq_true rfl) dX12_shutsBy_53 rfl (fun r129 M130 h131 => ?_)
        obtain ⟨a133, rfl, rfl, h132⟩ := h131
        refine j_iload_n C 3 3 dX12_shutsBy_56 rfl rfl ?_
        refine j_callSj C (d := 85) (As := [.long (sJ (M125.2.1 112 (a1).toNat).toInt), .long (sJ a133), .int (sI a3)]) (st := []) (s1_X12_part hM125 (M125.2.1 112 (a1).toNat).toInt (by exact ⟨la128, ua128⟩) a133 (by (clear ua128 la128 h127 fM125 hM125 h123 fM121 hM121 h119 h117 h113 h111 h107 h105 pM101 hM101 eM101 hret C hp0 ha3 ha2 ha1 hcw hpr hM0; omega)) a3 (by exact ⟨ha3.1, ha3.2⟩) (by exact ⟨h132.1, h132.2⟩)) gX12_shutsBy_X12_part rfl hdX12_parts (by decide) (Nat.le_of_ble_eq_true rfl) dX12_shutsBy_57 rfl (fun r134 M135 h136 => ?_)
        obtain ⟨a138, rfl, rfl, h137⟩ := h136
        exact hret _ _ _ _ dX12_shutsBy_60 ⟨a138, rfl, hM125, (((FR.rf.wI eM101 (by decide)).tr fM121 (by decide)).tr fM125 (by decide)), by exact ⟨h137.1, ⟨h137.2, h127⟩⟩⟩
      · refine y_ldc2 C (-3) dX12_shutsBy_32 kX12_shutsBy_359 rfl ?_
        exact hret _ _ _ _ dX12_shutsBy_35 ⟨(-3), rfl, hM101, (FR.rf.wI eM101 (by decide)), by exact ⟨(by decide), ⟨(by decide), pM101⟩⟩⟩
    · refine y_ldc2 C (-2) dX12_shutsBy_21 kX12_shutsBy_393 rfl ?_
      exact hret _ _ _ _ dX12_shutsBy_24 ⟨(-2), rfl, hM101, (FR.rf.wI eM101 (by decide)), by exact ⟨(by decide), ⟨(by decide), pM101⟩⟩⟩
set_option maxHeartbeats 4000000 in
theorem s1_X12_closer {l : Launch} {dC : Nat → ClassId} {dI : Nat → Nat → Nat} {ad : Nat → Nat} {cA : Nat → ClassId} {pr : Nat → Nat → Bool} {Kz : mm_M} {M0 : mm_M} (hM0 : INV pr Kz M0) (hpr : PM pr) (hcw : CWK pr Kz) (a1 : Int) (ha1 : -2147483648 ≤ a1 ∧ a1 ≤ 2147483647) (hp0 : b01 (PI M0) = 1) : Ci l 5 yX12_closer wsX12_closer dC dI ad cA [.ref (ad 98), .int (sI a1)] M0 (fun r M' => ∃ a : Int, r = sI a ∧ INV pr Kz M' ∧ FR [98, 103, 104, 106, 110, 111, 112] M0 M' ∧ (-3) ≤ a ∧ a ≤ 5 ∧ (b01 (PI M') = 1)) := by
  refine ci_of (cc := cX12_closer) (maxL := 6) (ty := .int) (lv := [(0, .ref (ad 98)), (1, .int (sI a1))]) (by decide) rfl (fun r M' hp => rfl) (Nat.le_of_ble_eq_true rfl) rfl ?_
  intro p e s m args below meth c A Q C hret
  refine j_aload_n C 0 0 dX12_closer_0 rfl rfl ?_
  refine y_iconst C dX12_closer_1 ?_
  refine y_putIF C 11 qX12_closer_1 rfl rfl ft_11_0 sb_11_0 hM0 (PM.w hpr rfl rfl) dX12_closer_2 (fun M101 eM101 hM101 => ?_)
  have pM101 := pi_o eM101 (by decide) (by decide) (by exact hp0)
  refine j_iload_n C 1 1 dX12_closer_5 rfl rfl ?_
  refine j_callSi C (d := 1) (As := [.int (sI a1)]) (st := []) (s1_X12_isLate hM101 a1 (by exact ⟨ha1.1, ha1.2⟩)) gX12_closer_X12_isLate rfl hdX12_isLates (by decide) (Nat.le_of_ble_eq_true rfl) dX12_closer_6 rfl (fun r102 M103 h104 => ?_)
  obtain ⟨a106, rfl, rfl, h105⟩ := h104
  refine y_if_ne C 15 dX12_closer_9 (by decide) (by omega) (fun h107 => ?_) (fun h107 => ?_)
  · refine j_aload_n C 0 0 dX12_closer_15 rfl rfl ?_
    refine j_callVv C (d := 4) (As := []) (st := []) 98 (s_lt rfl rfl) (s_kc (c := 11) rfl rfl) (by decide) rfl (s1_X12_laysBuys hM101 hpr hcw (by exact pM101)) gX12_closer_X12_laysBuys rfl hdX12_laysBuys (by decide) (Nat.le_of_ble_eq_true rfl) dX12_closer_16 rfl (fun M109 h110 => ?_)
    obtain ⟨hM109, fM109, h111⟩ := h110
    refine j_aload_n C 0 0 dX12_closer_19 rfl rfl ?_
    refine j_iload_n C 1 1 dX12_closer_20 rfl rfl ?_
    refine j_callVv C (d := 4) (As := [.int (sI a1)]) (st := []) 98 (s_lt rfl rfl) (s_kc (c := 11) rfl rfl) (by decide) rfl (s1_X12_laysDays hM109 hpr a1 (by exact ⟨ha1.1, ha1.2⟩) (by exact h111.2.2)) gX12_closer_X12_laysDays rfl hdX12_laysDays (by decide) (Nat.le_of_ble_eq_true rfl) dX12_closer_21 rfl (fun M113 h114 => ?_)
    obtain ⟨hM113, fM113, h115⟩ := h114
    refine y_iconst C dX12_closer_24 ?_
    refine j_istore_n C 2 [(2, .int (sI (-1))), (0, .ref (ad 98)), (1, .int (sI a1))] dX12_closer_25 rfl (by decide) rfl ?_
    refine y_lconst C 0 dX12_closer_26 rfl ?_
    refine j_lstore_n C 3 [(3, .long (sJ 0)), (2, .int (sI (-1))), (0, .ref (ad 98)), (1, .int (sI a1))] dX12_closer_27 rfl (by decide) rfl ?_
    refine y_iconst C dX12_closer_28 ?_
    refine j_istore C 5 [(5, .int (sI 0)), (3, .long (sJ 0)), (2, .int (sI (-1))), (0, .ref (ad 98)), (1, .int (sI a1))] dX12_closer_29 (by decide) rfl ?_
    have L174 : ∀ (n172 : Nat), ∀ (a175 : Int) (a176 : Int) (a177 : Int), ((-1) ≤ a175 ∧ a175 ≤ 5 ∧ 0 ≤ a176 ∧ a176 ≤ 9223372036854775807 ∧ 0 ≤ a177 ∧ a177 ≤ 6 ∧ (6 - a177) < (n172 : Int)) → jj p l e (cn_R 5) s m args below meth c 0 0 Q 6 dC dI ad cA A M113 31 [(0, .ref (ad 98)), (2, .int (sI a175)), (3, .long (sJ a176)), (5, .int (sI a177))] [] := by
      intro n172
      induction n172 with
      | zero =>
        intro a175 a176 a177 h178
        exfalso; omega
      | succ n172 ih173 =>
        intro a175 a176 a177 h178
        refine j_iload C 3 dX12_closer_31 rfl ?_
        refine j_aload_n C 0 0 dX12_closer_33 rfl rfl ?_
        refine y_getC C 11 99 fX12_closer_13 rfl rfl ft_11_1 sm_11_1 rfl hM113 dX12_closer_34 ?_
        refine y_iconst C dX12_closer_37 ?_
        refine y_ialdH C 45 3543 rfl rfl rfl ak_45 an_45 rfl _ _ hM113 (hr_45_1_1 _ (by exact (by decide)) (by exact (by decide))) dX12_closer_38 (by exact ⟨(by decide), (by decide)⟩) (fun a179 ea179 la179 ua179 => ?_)
        obtain rfl : a179 = (M0.1 99 1).toInt := s_fa eM101 (by decide) (s_fF fM109 (by decide) (s_fF fM113 (by decide) (ea179)))
        refine y_icmp_ge C 74 dX12_closer_39 (by decide) (by (clear ih173 h115 fM113 hM113 h111 fM109 hM109 h107 h105 pM101 hM101 eM101 hret C hp0 ha1 hcw hpr hM0; omega)) (fun h180 => ?_) (fun h180 => ?_)
        · refine j_iload_n C 1 2 dX12_closer_74 rfl rfl ?_
          exact hret _ _ _ _ dX12_closer_75 ⟨a175, rfl, hM113, (((FR.rf.wI eM101 (by decide)).tr fM109 (by decide)).tr fM113 (by decide)), by exact ⟨(by (clear h180 ua179 la179 ea179 ih173 fM113 hM113 h111 fM109 hM109 h107 h105 pM101 hM101 eM101 hret C hp0 ha1 hcw hpr hM0; omega)), ⟨h178.2.1, h115⟩⟩⟩
        · refine j_aload_n C 0 0 dX12_closer_42 rfl rfl ?_
          refine y_getC C 11 112 fX12_closer_58 rfl rfl ft_11_25 sm_11_25 rfl hM113 dX12_closer_43 ?_
          refine j_iload C 3 dX12_closer_46 rfl ?_
          refine y_lald C 58 6 rfl rfl rfl ak_58 an_58 rfl dX12_closer_48 (by exact ⟨h178.2.2.2.2.1, (by (clear ih173 h115 fM113 hM113 h111 fM109 hM109 h107 h105 pM101 hM101 eM101 hret C hp0 ha1 hcw hpr hM0; omega))⟩) (fun a181 ea181 la181 ua181 => ?_)
          obtain rfl : a181 = (M113.2.1 112 (a177).toNat).toInt := ea181
          refine j_lload_n C 2 3 dX12_closer_49 rfl rfl ?_
          refine y_lcmp_gt C 57 dX12_closer_50 dX12_closer_51 (by decide) (by exact ⟨⟨la181, ua181⟩, ⟨(by (clear h180 ua179 la179 ea179 ih173 h115 fM113 hM113 h111 fM109 hM109 h107 h105 pM101 hM101 eM101 hret C hp0 ha1 hcw hpr hM0; omega)), h178.2.2.2.1⟩⟩) (fun h182 => ?_) (fun h182 => ?_)
          · refine j_iload C 3 dX12_closer_57 rfl ?_
            refine j_istore_n C 2 [(2, .int (sI a177)), (0, .ref (ad 98)), (3, .long (sJ a176)), (5, .int (sI a177))] dX12_closer_59 rfl (by decide) rfl ?_
            refine j_aload_n C 1 0 dX12_closer_60 rfl rfl ?_
            refine y_getC C 11 112 fX12_closer_58 rfl rfl ft_11_25 sm_11_25 rfl hM113 dX12_closer_61 ?_
            refine j_iload C 3 dX12_closer_64 rfl ?_
            refine y_lald C 58 6 rfl rfl rfl ak_58 an_58 rfl dX12_closer_66 (by exact ⟨h178.2.2.2.2.1, (by omega)⟩) (fun a183 ea183 la183 ua183 => ?_)
            obtain rfl : a183 = (M113.2.1 112 (a177).toNat).toInt := ea183
            refine j_lstore_n C 3 [(3, .long (sJ (M113.2.1 112 (a177).toNat).toInt)), (2, .int (sI a177)), (0, .ref (ad 98)), (5, .int (sI a177))] dX12_closer_67 rfl (by decide) rfl ?_
            refine y_iinc C 3 [(5, .int (sI (a177 + 1))), (3, .long (sJ (M113.2.1 112 (a177).toNat).toInt)), (2, .int (sI a177)), (0, .ref (ad 98))] dX12_closer_68 rfl (by decide) rfl ?_
            refine j_goto C 31 dX12_closer_71 (by decide) ?_
            refine j_lv [3, 2, 1, 0] rfl ?_; exact ih173 a177 (M113.2.1 112 (a177).toNat).toInt (a177 + 1) (by exact ⟨(by (clear ua183 la183 ih173 h115 fM113 hM113 h111 fM109 hM109 h107 h105 pM101 hM101 eM101 hret C hp0 ha1 hcw hpr hM0; omega)), ⟨(by (clear ua183 la183 ih173 h115 fM113 hM113 h111 fM109 hM109 h107 h105 pM101 hM101 eM101 hret C hp0 ha1 hcw hpr hM0; omega)), ⟨(by (clear ua183 la183 ih173 h115 fM113 hM113 h111 fM109 hM109 h107 h105 pM101 hM101 eM101 hret C hp0 ha1 hcw hpr hM0; omega)), ⟨ua181, ⟨(by (clear ua183 la183 ih173 h115 fM113 hM113 h111 fM109 hM109 h107 h105 pM101 hM101 eM101 hret C hp0 ha1 hcw hpr hM0; omega)), ⟨(by (clear ua183 la183 ih173 h115 fM113 hM113 h111 fM109 hM109 h107 h105 pM101 hM101 eM101 hret C hp0 ha1 hcw hpr hM0; omega)), (by (clear ua183 la183 ih173 h115 fM113 hM113 h111 fM109 hM109 h107 h105 pM101 hM101 eM101 hret C hp0 ha1 hcw hpr hM0; omega))⟩⟩⟩⟩⟩⟩)
          · refine j_goto C 68 dX12_closer_54 (by decide) ?_
            refine y_iinc C 3 [(5, .int (sI (a177 + 1))), (0, .ref (ad 98)), (2, .int (sI a175)), (3, .long (sJ a176))] dX12_closer_68 rfl (by decide) rfl ?_
            refine j_goto C 31 dX12_closer_71 (by decide) ?_
            refine j_lv [1, 2, 3, 0] rfl ?_; exact ih173 a175 a176 (a177 + 1) (by exact ⟨h178.1, ⟨h178.2.1, ⟨h178.2.2.1, ⟨h178.2.2.2.1, ⟨(by (clear h182 ua181 la181 ih173 h115 fM113 hM113 h111 fM109 hM109 h107 h105 pM101 hM101 eM101 hret C hp0 ha1 hcw hpr hM0; omega)), ⟨(by (clear h182 ua181 la181 ih173 h115 fM113 hM113 h111 fM109 hM109 h107 h105 pM101 hM101 eM101 hret C hp0 ha1 hcw hpr hM0; omega)), (by (clear h182 ua181 la181 ih173 h115 fM113 hM113 h111 fM109 hM109 h107 h105 pM101 hM101 eM101 hret C hp0 ha1 hcw hpr hM0; omega))⟩⟩⟩⟩⟩⟩)
    refine j_lv [3, 2, 1, 0] rfl ?_; exact L174 2010 (-1) 0 0 (by exact ⟨(by decide), ⟨(by decide), ⟨(by decide), ⟨(by decide), ⟨(by decide), ⟨(by decide), (by decide)⟩⟩⟩⟩⟩⟩)
  · refine y_bipush C dX12_closer_12 rfl ?_
    exact hret _ _ _ _ dX12_closer_14 ⟨(-3), rfl, hM101, (FR.rf.wI eM101 (by decide)), by exact ⟨(by decide), ⟨(by decide), pM101⟩⟩⟩
set_option maxHeartbeats 4000000 in
theorem s1_X12_soldIn {l : Launch} {dC : Nat → ClassId} {dI : Nat → Nat → Nat} {ad : Nat → Nat} {cA : Nat → ClassId} {pr : Nat → Nat → Bool} {Kz : mm_M} {M0 : mm_M} (hM0 : INV pr Kz M0) (hpr : PM pr) (hcw : CWK pr Kz) (a1 : Int) (ha1 : -2147483648 ≤ a1 ∧ a1 ≤ 2147483647) (a2 : Int) (ha2 : -2147483648 ≤ a2 ∧ a2 ≤ 2147483647) (a3 : Int) (ha3 : -2147483648 ≤ a3 ∧ a3 ≤ 2147483647) (hp0 : b01 (PI M0) = 1) : Cj l 86 yX12_soldIn wsX12_soldIn dC dI ad cA [.ref (ad 98), .int (sI a1), .int (sI a2), .int (sI a3)] M0 (fun r M' => ∃ a : Int, r = sJ a ∧ INV pr Kz M' ∧ FR [98, 103, 104, 106, 110, 111, 112] M0 M' ∧ (-9223372036854775808) ≤ a ∧ a ≤ 9223372036854775807 ∧ (b01 (PI M') = 1)) := by
  refine cj_of (cc := cX12_soldIn) (maxL := 7) (lv := [(0, .ref (ad 98)), (1, .int (sI a1)), (2, .int (sI a2)), (3, .int (sI a3))]) (by decide) rfl (Nat.le_of_ble_eq_true rfl) rfl ?_
  intro p e s m args below meth c A Q C hret
  refine j_aload_n C 0 0 dX12_soldIn_0 rfl rfl ?_
  refine y_iconst C dX12_soldIn_1 ?_
  refine y_putIF C 11 qX12_soldIn_1 rfl rfl ft_11_0 sb_11_0 hM0 (PM.w hpr rfl rfl) dX12_soldIn_2 (fun M101 eM101 hM101 => ?_)
  have pM101 := pi_o eM101 (by decide) (by decide) (by exact hp0)
  refine j_aload_n C 0 0 dX12_soldIn_5 rfl rfl ?_
  refine j_iload_n C 1 1 dX12_soldIn_6 rfl rfl ?_
  refine y_i2l C dX12_soldIn_7 (by exact ⟨ha1.1, ha1.2⟩) ?_
  refine j_callVi C (d := 1) (As := [.long (sJ a1)]) (st := []) 98 (s_lt rfl rfl) (s_kc (c := 11) rfl rfl) (by decide) rfl (s1_X12_isKind hM101 a1 (by omega)) gX12_soldIn_X12_isKind rfl hdX12_isKind (by decide) (Nat.le_of_ble_eq_true rfl) dX12_soldIn_8 rfl (fun r102 M103 h104 => ?_)
  obtain ⟨a106, rfl, rfl, h105⟩ := h104
  refine y_if_eq C 21 dX12_soldIn_11 (by decide) (by omega) (fun h107 => ?_) (fun h107 => ?_)
  · refine y_ldc2 C (-2) dX12_soldIn_21 kX12_soldIn_393 rfl ?_
    exact hret _ _ _ _ dX12_soldIn_24 ⟨(-2), rfl, hM101, (FR.rf.wI eM101 (by decide)), by exact ⟨(by decide), ⟨(by decide), pM101⟩⟩⟩
  · refine j_iload_n C 3 3 dX12_soldIn_14 rfl rfl ?_
    refine j_callSi C (d := 1) (As := [.int (sI a3)]) (st := []) (s1_X12_isPart hM101 a3 (by exact ⟨ha3.1, ha3.2⟩)) gX12_soldIn_X12_isPart rfl hdX12_isParts (by decide) (Nat.le_of_ble_eq_true rfl) dX12_soldIn_15 rfl (fun r108 M109 h110 => ?_)
    obtain ⟨a112, rfl, rfl, h111⟩ := h110
    refine y_if_ne C 25 dX12_soldIn_18 (by decide) (by omega) (fun h113 => ?_) (fun h113 => ?_)
    · refine j_iload_n C 2 2 dX12_soldIn_25 rfl rfl ?_
      refine j_callSi C (d := 1) (As := [.int (sI a2)]) (st := []) (s1_X12_isLate hM101 a2 (by exact ⟨ha2.1, ha2.2⟩)) gX12_soldIn_X12_isLate rfl hdX12_isLates (by decide) (Nat.le_of_ble_eq_true rfl) dX12_soldIn_26 rfl (fun r114 M115 h116 => ?_)
      obtain ⟨a118, rfl, rfl, h117⟩ := h116
      refine y_if_ne C 36 dX12_soldIn_29 (by decide) (by omega) (fun h119 => ?_) (fun h119 => ?_)
      · refine j_aload_n C 0 0 dX12_soldIn_36 rfl rfl ?_
        refine j_callVv C (d := 4) (As := []) (st := []) 98 (s_lt rfl rfl) (s_kc (c := 11) rfl rfl) (by decide) rfl (s1_X12_laysBuys hM101 hpr hcw (by exact pM101)) gX12_soldIn_X12_laysBuys rfl hdX12_laysBuys (by decide) (Nat.le_of_ble_eq_true rfl) dX12_soldIn_37 rfl (fun M121 h122 => ?_)
        obtain ⟨hM121, fM121, h123⟩ := h122
        refine j_aload_n C 0 0 dX12_soldIn_40 rfl rfl ?_
        refine j_iload_n C 2 2 dX12_soldIn_41 rfl rfl ?_
        refine j_callVv C (d := 4) (As := [.int (sI a2)]) (st := []) 98 (s_lt rfl rfl) (s_kc (c := 11) rfl rfl) (by decide) rfl (s1_X12_laysDays hM121 hpr a2 (by exact ⟨ha2.1, ha2.2⟩) (by exact h123.2.2)) gX12_soldIn_X12_laysDays rfl hdX12_laysDays (by decide) (Nat.le_of_ble_eq_true rfl) dX12_soldIn_42 rfl (fun M125 h126 => ?_)
        obtain ⟨hM125, fM125, h127⟩ := h126
        refine y_lconst C 0 dX12_soldIn_45 rfl ?_
        refine j_lstore C 4 [(4, .long (sJ 0)), (0, .ref (ad 98)), (1, .int (sI a1)), (2, .int (sI a2)), (3, .int (sI a3))] dX12_soldIn_46 (by decide) rfl ?_
        refine y_iconst C dX12_soldIn_48 ?_
        refine j_istore C 6 [(6, .int (sI 0)), (4, .long (sJ 0)), (0, .ref (ad 98)), (1, .int (sI a1)), (2, .int (sI a2)), (3, .int (sI a3))] dX12_soldIn_49 (by decide) rfl ?_
        have L426 : ∀ (n424 : Nat), ∀ (a427 : Int) (a428 : Int), ((-9223372036854775808) ≤ a427 ∧ a427 ≤ 9223372036854775807 ∧ 0 ≤ a428 ∧ a428 ≤ 256 ∧ (256 - a428) < (n424 : Int)) → jj p l e (cn_R 86) s m args below meth c 0 0 Q 7 dC dI ad cA A M125 51 [(0, .ref (ad 98)), (1, .int (sI a1)), (2, .int (sI a2)), (3, .int (sI a3)), (4, .long (sJ a427)), (6, .int (sI a428))] [] := by
          intro n424
          induction n424 with
          | zero =>
            intro a427 a428 h429
            exfalso; omega
          | succ n424 ih425 =>
            intro a427 a428 h429
            refine j_iload C 5 dX12_soldIn_51 rfl ?_
            refine y_sipush C dX12_soldIn_53 rfl ?_
            refine y_icmp_ge C 91 dX12_soldIn_56 (by decide) (by exact ⟨⟨(by (clear ih425 h127 fM125 hM125 h123 fM121 hM121 h119 h117 h113 h111 h107 h105 pM101 hM101 eM101 hret C hp0 ha3 ha2 ha1 hcw hpr hM0; omega)), (by (clear ih425 h127 fM125 hM125 h123 fM121 hM121 h119 h117 h113 h111 h107 h105 pM101 hM101 eM101 hret C hp0 ha3 ha2 ha1 hcw hpr hM0; omega))⟩, ⟨(by decide), (by decide)⟩⟩) (fun h430 => ?_) (fun h430 => ?_)
            · refine j_lload C 4 dX12_soldIn_91 rfl ?_
              refine j_aload_n C 0 0 dX12_soldIn_93 rfl rfl ?_
              refine j_iload_n C 2 2 dX12_soldIn_94 rfl rfl ?_
              refine j_callVj C (d := 1) (As := [.int (sI a2)]) (st := [.long (sJ a427)]) 98 (s_lt rfl rfl) (s_kc (c := 11) rfl rfl) (by decide) rfl (s1_X12_wholeOf hM125 a2 (by exact ⟨ha2.1, ha2.2⟩) (by (clear h430 h429 ih425 h127 fM125 hM125 h123 fM121 hM121 h113 h111 h107 h105 pM101 hM101 eM101 hret C hp0 ha3 ha1 hcw hpr hM0; omega))) gX12_soldIn_X12_wholeOf rfl hdX12_wholeOf (by decide) (Nat.le_of_ble_eq_true rfl) dX12_soldIn_95 rfl (fun r439 M440 h441 => ?_)
              obtain ⟨a443, rfl, rfl, h442⟩ := h441
              refine j_iload_n C 3 3 dX12_soldIn_98 rfl rfl ?_
              refine j_callSj C (d := 85) (As := [.long (sJ a427), .long (sJ a443), .int (sI a3)]) (st := []) (s1_X12_part hM125 a427 (by exact ⟨h429.1, h429.2.1⟩) a443 (by (clear h430 h429 ih425 h127 fM125 hM125 h123 fM121 hM121 h119 h117 h113 h111 h107 h105 pM101 hM101 eM101 hret C hp0 ha3 ha2 ha1 hcw hpr hM0; omega)) a3 (by exact ⟨ha3.1, ha3.2⟩) (by exact ⟨h442.1, h442.2⟩)) gX12_soldIn_X12_part rfl hdX12_parts (by decide) (Nat.le_of_ble_eq_true rfl) dX12_soldIn_99 rfl (fun r444 M445 h446 => ?_)
              obtain ⟨a448, rfl, rfl, h447⟩ := h446
              exact hret _ _ _ _ dX12_soldIn_102 ⟨a448, rfl, hM125, (((FR.rf.wI eM101 (by decide)).tr fM121 (by decide)).tr fM125 (by decide)), by exact ⟨h447.1, ⟨h447.2, h127⟩⟩⟩
            · refine j_lload C 4 dX12_soldIn_59 rfl ?_
              refine j_iload C 5 dX12_soldIn_61 rfl ?_
              refine y_i2l C dX12_soldIn_63 (by (clear ih425 h127 fM125 hM125 h123 fM121 hM121 h119 h117 h113 h111 h107 h105 pM101 hM101 eM101 hret C hp0 ha3 ha2 ha1 hcw hpr hM0; omega)) ?_
              refine j_iload_n C 1 1 dX12_soldIn_64 rfl rfl ?_
              refine j_callSi C (d := 0) (As := [.long (sJ a428), .int (sI a1)]) (st := [.long (sJ a427)]) (s1_X12_isIn hM125 a428 (by (clear ih425 h127 fM125 hM125 h123 fM121 hM121 h119 h117 h113 h111 h107 h105 pM101 hM101 eM101 hret C hp0 ha3 ha2 ha1 hcw hpr hM0; omega)) a1 (by exact ⟨ha1.1, ha1.2⟩)) gX12_soldIn_X12_isIn rfl hdX12_isIns (by decide) (Nat.le_of_ble_eq_true rfl) dX12_soldIn_65 rfl (fun r431 M432 h433 => ?_)
              obtain ⟨a435, rfl, rfl, h434⟩ := h433
              obtain rfl : a435 = (iiF a428 a1) := by exact h434.2.2
              refine y_if_eq C 81 dX12_soldIn_68 (by decide) (by (clear h430 h429 ih425 h127 fM125 hM125 h123 fM121 hM121 h119 h117 h113 h111 h107 h105 pM101 hM101 eM101 hret C hp0 ha3 ha2 ha1 hcw hpr hM0; omega)) (fun h436 => ?_) (fun h436 => ?_)
              · refine y_lconst C 0 dX12_soldIn_81 rfl ?_
                refine y_ladd C dX12_soldIn_82 ?_
                refine j_lstore C 4 [(4, .long (sJ (a427 + 0))), (0, .ref (ad 98)), (1, .int (sI a1)), (2, .int (sI a2)), (3, .int (sI a3)), (6, .int (sI a428))] dX12_soldIn_83 (by decide) rfl ?_
                refine y_iinc C 5 [(6, .int (sI (a428 + 1))), (4, .long (sJ (a427 + 0))), (0, .ref (ad 98)), (1, .int (sI a1)), (2, .int (sI a2)), (3, .int (sI a3))] dX12_soldIn_85 rfl (by decide) rfl ?_
                refine j_goto C 51 dX12_soldIn_88 (by decide) ?_
                refine j_lv [2, 3, 4, 5, 1, 0] rfl ?_; exact ih425 (a427 + 0) (a428 + 1) (by (clear h436 h434 ih425 h127 fM125 hM125 h123 fM121 hM121 h119 h117 h113 h111 h107 h105 pM101 hM101 eM101 hret C hp0 ha3 ha2 ha1 hcw hpr hM0; omega))
              · refine j_aload_n C 0 0 dX12_soldIn_71 rfl rfl ?_
                refine y_getC C 11 110 fX12_soldIn_51 rfl rfl ft_11_23 sm_11_23 rfl hM125 dX12_soldIn_72 ?_
                refine j_iload C 5 dX12_soldIn_75 rfl ?_
                refine y_lald C 56 256 rfl rfl rfl ak_56 an_56 rfl dX12_soldIn_77 (by exact ⟨h429.2.2.1, (by (clear h436 h434 ih425 h127 fM125 hM125 h123 fM121 hM121 h119 h117 h113 h111 h107 h105 pM101 hM101 eM101 hret C hp0 ha3 ha2 ha1 hcw hpr hM0; omega))⟩) (fun a437 ea437 la437 ua437 => ?_)
                obtain rfl : a437 = (M125.2.1 110 (a428).toNat).toInt := ea437
                refine j_goto C 82 dX12_soldIn_78 (by decide) ?_
                refine e_ladd C dX12_soldIn_82 (fun lb438 ub438 => ?_)
                refine j_lstore C 4 [(4, .long (sJ (addJ a427 (M125.2.1 110 (a428).toNat).toInt))), (0, .ref (ad 98)), (1, .int (sI a1)), (2, .int (sI a2)), (3, .int (sI a3)), (6, .int (sI a428))] dX12_soldIn_83 (by decide) rfl ?_
                refine y_iinc C 5 [(6, .int (sI (a428 + 1))), (4, .long (sJ (addJ a427 (M125.2.1 110 (a428).toNat).toInt))), (0, .ref (ad 98)), (1, .int (sI a1)), (2, .int (sI a2)), (3, .int (sI a3))] dX12_soldIn_85 rfl (by decide) rfl ?_
                refine j_goto C 51 dX12_soldIn_88 (by decide) ?_
                refine j_lv [2, 3, 4, 5, 1, 0] rfl ?_; exact ih425 (addJ a427 (M125.2.1 110 (a428).toNat).toInt) (a428 + 1) (by exact ⟨lb438, ⟨ub438, ⟨(by (clear ua437 la437 h436 h434 ih425 h127 fM125 hM125 h123 fM121 hM121 h119 h117 h113 h111 h107 h105 pM101 hM101 eM101 hret C hp0 ha3 ha2 ha1 hcw hpr hM0; omega)), ⟨(by (clear ua437 la437 h436 h434 ih425 h127 fM125 hM125 h123 fM121 hM121 h119 h117 h113 h111 h107 h105 pM101 hM101 eM101 hret C hp0 ha3 ha2 ha1 hcw hpr hM0; omega)), (by (clear ua437 la437 h436 h434 ih425 h127 fM125 hM125 h123 fM121 hM121 h119 h117 h113 h111 h107 h105 pM101 hM101 eM101 hret C hp0 ha3 ha2 ha1 hcw hpr hM0; omega))⟩⟩⟩⟩)
        refine j_lv [2, 3, 4, 5, 1, 0] rfl ?_; exact L426 2010 0 0 (by exact ⟨(by decide), ⟨(by decide), ⟨(by decide), ⟨(by decide), (by decide)⟩⟩⟩⟩)
      · refine y_ldc2 C (-3) dX12_soldIn_32 kX12_soldIn_359 rfl ?_
        exact hret _ _ _ _ dX12_soldIn_35 ⟨(-3), rfl, hM101, (FR.rf.wI eM101 (by decide)), by exact ⟨(by decide), ⟨(by decide), pM101⟩⟩⟩
    · refine y_ldc2 C (-2) dX12_soldIn_21 kX12_soldIn_393 rfl ?_
      exact hret _ _ _ _ dX12_soldIn_24 ⟨(-2), rfl, hM101, (FR.rf.wI eM101 (by decide)), by exact ⟨(by decide), ⟨(by decide), pM101⟩⟩⟩
set_option maxHeartbeats 4000000 in
theorem s1_X12_openBy {l : Launch} {dC : Nat → ClassId} {dI : Nat → Nat → Nat} {ad : Nat → Nat} {cA : Nat → ClassId} {pr : Nat → Nat → Bool} {Kz : mm_M} {M0 : mm_M} (hM0 : INV pr Kz M0) (hpr : PM pr) (hcw : CWK pr Kz) (a1 : Int) (ha1 : -2147483648 ≤ a1 ∧ a1 ≤ 2147483647) (a2 : Int) (ha2 : -2147483648 ≤ a2 ∧ a2 ≤ 2147483647) (hp0 : 0 ≤ a1 ∧ a1 ≤ 255) (hp1 : b01 (PI M0) = 1) : Cj l 5 yX12_openBy wsX12_openBy dC dI ad cA [.ref (ad 98), .int (sI a1), .int (sI a2)] M0 (fun r M' => ∃ a : Int, r = sJ a ∧ INV pr Kz M' ∧ FR [98, 99, 103, 104, 106, 110, 111, 112] M0 M' ∧ (-9223372036854775808) ≤ a ∧ a ≤ 9223372036854775807 ∧ (b01 (M'.1 99 = (M0.1 99)) = 1) ∧ (b01 (PI M') = 1)) := by
  refine cj_of (cc := cX12_openBy) (maxL := 6) (lv := [(0, .ref (ad 98)), (1, .int (sI a1)), (2, .int (sI a2))]) (by decide) rfl (Nat.le_of_ble_eq_true rfl) rfl ?_
  intro p e s m args below meth c A Q C hret
  refine j_aload_n C 0 0 dX12_openBy_0 rfl rfl ?_
  refine y_getC C 11 99 fX12_openBy_13 rfl rfl ft_11_1 sm_11_1 rfl hM0 dX12_openBy_1 ?_
  refine y_bipush C dX12_openBy_4 rfl ?_
  refine y_ialdH C 45 3543 rfl rfl rfl ak_45 an_45 rfl _ _ hM0 (hr_45_28_28 _ (by exact (by decide)) (by exact (by decide))) dX12_openBy_6 (by exact ⟨(by decide), (by decide)⟩) (fun a101 ea101 la101 ua101 => ?_)
  obtain rfl : a101 = (M0.1 99 28).toInt := ea101
  refine j_istore_n C 3 [(3, .int (sI (M0.1 99 28).toInt)), (0, .ref (ad 98)), (1, .int (sI a1)), (2, .int (sI a2))] dX12_openBy_7 rfl (by decide) rfl ?_
  refine j_aload_n C 1 0 dX12_openBy_8 rfl rfl ?_
  refine y_getC C 11 99 fX12_openBy_13 rfl rfl ft_11_1 sm_11_1 rfl hM0 dX12_openBy_9 ?_
  refine y_bipush C dX12_openBy_12 rfl ?_
  refine j_iload_n C 0 3 dX12_openBy_14 rfl rfl ?_
  refine j_iload_n C 2 1 dX12_openBy_15 rfl rfl ?_
  refine e_iorN C 8 255 dX12_openBy_16 rfl (by decide) (by exact ⟨la101, ⟨ua101, ⟨hp0.1, hp0.2⟩⟩⟩) (fun lb102 ub102 ob102 => ?_)
  refine y_iastH C 45 3543 rfl rfl rfl ak_45 an_45 rfl _ _ hM0 (PM.w hpr rfl (hm_28_28 _ (by exact (by decide)) (by exact (by decide)))) (hs_45_28_28 _ (by exact (by decide)) (by exact (by decide))) dX12_openBy_17 (by exact ⟨(by decide), (by decide)⟩) (by exact ⟨⟨(by (clear ob102 ua101 la101 hret C hp1 hp0 ha2 ha1 hcw hpr hM0; omega)), (by (clear ob102 ua101 la101 hret C hp1 hp0 ha2 ha1 hcw hpr hM0; omega))⟩, ⟨lb102, ub102⟩⟩) (fun M103 eM103 hM103 => ?_)
  have pM103 := pi_n eM103 (hn_28_28 _ (by exact (by decide)) (by exact (by decide))) (by exact hp1)
  refine j_aload_n C 1 0 dX12_openBy_18 rfl rfl ?_
  refine j_callVv C (d := 4) (As := []) (st := []) 98 (s_lt rfl rfl) (s_kc (c := 11) rfl rfl) (by decide) rfl (s1_X12_laysBuys hM103 hpr hcw (by exact pM103)) gX12_openBy_X12_laysBuys rfl hdX12_laysBuys (by decide) (Nat.le_of_ble_eq_true rfl) dX12_openBy_19 rfl (fun M105 h106 => ?_)
  obtain ⟨hM105, fM105, h107⟩ := h106
  refine j_aload_n C 1 0 dX12_openBy_22 rfl rfl ?_
  refine j_iload_n C 3 2 dX12_openBy_23 rfl rfl ?_
  refine j_callVv C (d := 4) (As := [.int (sI a2)]) (st := []) 98 (s_lt rfl rfl) (s_kc (c := 11) rfl rfl) (by decide) rfl (s1_X12_laysDays hM105 hpr a2 (by exact ⟨ha2.1, ha2.2⟩) (by exact h107.2.2)) gX12_openBy_X12_laysDays rfl hdX12_laysDays (by decide) (Nat.le_of_ble_eq_true rfl) dX12_openBy_24 rfl (fun M109 h110 => ?_)
  obtain ⟨hM109, fM109, h111⟩ := h110
  refine j_aload_n C 1 0 dX12_openBy_27 rfl rfl ?_
  refine j_callVj C (d := 0) (As := []) (st := []) 98 (s_lt rfl rfl) (s_kc (c := 11) rfl rfl) (by decide) rfl (s1_X12_sumRows hM109) gX12_openBy_X12_sumRows rfl hdX12_sumRows (by decide) (Nat.le_of_ble_eq_true rfl) dX12_openBy_28 rfl (fun r112 M113 h114 => ?_)
  obtain ⟨a116, rfl, rfl, h115⟩ := h114
  refine j_aload_n C 1 0 dX12_openBy_31 rfl rfl ?_
  refine j_callVj C (d := 3) (As := []) (st := [.long (sJ a116)]) 98 (s_lt rfl rfl) (s_kc (c := 11) rfl rfl) (by decide) rfl (s1_X12_shutRows hM109) gX12_openBy_X12_shutRows rfl hdX12_shutRows (by decide) (Nat.le_of_ble_eq_true rfl) dX12_openBy_32 rfl (fun r117 M118 h119 => ?_)
  obtain ⟨a121, rfl, rfl, h120⟩ := h119
  refine e_lsub C dX12_openBy_35 (fun lb122 ub122 => ?_)
  refine j_lstore C 4 [(4, .long (sJ (subJ a116 a121))), (3, .int (sI (M0.1 99 28).toInt)), (0, .ref (ad 98)), (1, .int (sI a1)), (2, .int (sI a2))] dX12_openBy_36 (by decide) rfl ?_
  refine j_aload_n C 2 0 dX12_openBy_38 rfl rfl ?_
  refine y_getC C 11 99 fX12_openBy_13 rfl rfl ft_11_1 sm_11_1 rfl hM109 dX12_openBy_39 ?_
  refine y_bipush C dX12_openBy_42 rfl ?_
  refine j_iload_n C 1 3 dX12_openBy_44 rfl rfl ?_
  refine y_iastH C 45 3543 rfl rfl rfl ak_45 an_45 rfl _ _ hM109 (PM.w hpr rfl (hm_28_28 _ (by exact (by decide)) (by exact (by decide)))) (hs_45_28_28 _ (by exact (by decide)) (by exact (by decide))) dX12_openBy_45 (by exact ⟨(by decide), (by decide)⟩) (by exact ⟨⟨(by omega), (by omega)⟩, ⟨la101, ua101⟩⟩) (fun M123 eM123 hM123 => ?_)
  have pM123 := pi_n eM123 (hn_28_28 _ (by exact (by decide)) (by exact (by decide))) (by exact h111)
  refine j_lload C 0 dX12_openBy_46 rfl ?_
  have u1240 := smj_0 (M := M0) 28 (f := M0.1 99) rfl
  have u124s0 : b01 (SMJ 28 (M0.1 99) (M103.1 99)) = 1 := smj_w (M := M0) (N := M103) eM103 u1240
  have u124s1 : b01 (SMJ 28 (M0.1 99) (M105.1 99)) = 1 := smj_c (M := M103) (N := M105) u124s0 ((FR.cell fM105 (by decide)))
  have u124s2 : b01 (SMJ 28 (M0.1 99) (M109.1 99)) = 1 := smj_c (M := M105) (N := M109) u124s1 ((FR.cell fM109 (by decide)))
  have u124e := smj_e (M := M109) (N := M123) (k := 28) (f := M0.1 99) eM123 (h := show b01 (SMJ 28 (M0.1 99) (M109.1 99)) = 1 by exact u124s2) (by omega)
  exact hret _ _ _ _ dX12_openBy_48 ⟨(subJ a116 a121), rfl, hM123, ((((FR.rf.wI eM103 (by decide)).tr fM105 (by decide)).tr fM109 (by decide)).wI eM123 (by decide)), by exact ⟨lb122, ⟨ub122, ⟨u124e, pM123⟩⟩⟩⟩
set_option maxHeartbeats 4000000 in
theorem s1_X12_hides {l : Launch} {dC : Nat → ClassId} {dI : Nat → Nat → Nat} {ad : Nat → Nat} {cA : Nat → ClassId} {pr : Nat → Nat → Bool} {Kz : mm_M} {M0 : mm_M} (hM0 : INV pr Kz M0) (hpr : PM pr) (hcw : CWK pr Kz) (a1 : Int) (ha1 : -2147483648 ≤ a1 ∧ a1 ≤ 2147483647) (a2 : Int) (ha2 : -2147483648 ≤ a2 ∧ a2 ≤ 2147483647) (a3 : Int) (ha3 : -2147483648 ≤ a3 ∧ a3 ≤ 2147483647) (hp0 : b01 (PI M0) = 1) : Ci l 6 yX12_hides wsX12_hides dC dI ad cA [.ref (ad 98), .int (sI a1), .int (sI a2), .int (sI a3)] M0 (fun r M' => ∃ a : Int, r = sI a ∧ INV pr Kz M' ∧ FR [98, 99, 103, 104, 106, 110, 111, 112] M0 M' ∧ (-5) ≤ a ∧ a ≤ 255 ∧ (b01 (M'.1 99 = (M0.1 99)) = 1) ∧ (b01 (PI M') = 1)) := by
  refine ci_of (cc := cX12_hides) (maxL := 11) (ty := .int) (lv := [(0, .ref (ad 98)), (1, .int (sI a1)), (2, .int (sI a2)), (3, .int (sI a3))]) (by decide) rfl (fun r M' hp => rfl) (Nat.le_of_ble_eq_true rfl) rfl ?_
  intro p e s m args below meth c A Q C hret
  refine j_aload_n C 0 0 dX12_hides_0 rfl rfl ?_
  refine y_iconst C dX12_hides_1 ?_
  refine y_putIF C 11 qX12_hides_1 rfl rfl ft_11_0 sb_11_0 hM0 (PM.w hpr rfl rfl) dX12_hides_2 (fun M101 eM101 hM101 => ?_)
  have pM101 := pi_o eM101 (by decide) (by decide) (by exact hp0)
  refine j_iload_n C 3 3 dX12_hides_5 rfl rfl ?_
  refine j_callSi C (d := 1) (As := [.int (sI a3)]) (st := []) (s1_X12_isPart hM101 a3 (by exact ⟨ha3.1, ha3.2⟩)) gX12_hides_X12_isPart rfl hdX12_isParts (by decide) (Nat.le_of_ble_eq_true rfl) dX12_hides_6 rfl (fun r102 M103 h104 => ?_)
  obtain ⟨a106, rfl, rfl, h105⟩ := h104
  refine y_if_ne C 15 dX12_hides_9 (by decide) (by omega) (fun h107 => ?_) (fun h107 => ?_)
  · refine j_iload_n C 1 1 dX12_hides_15 rfl rfl ?_
    refine y_i2l C dX12_hides_16 (by exact ⟨ha1.1, ha1.2⟩) ?_
    refine y_lconst C 0 dX12_hides_17 rfl ?_
    refine y_ldc2 C 3 dX12_hides_18 kX12_hides_325 rfl ?_
    refine j_callSi C (d := 0) (As := [.long (sJ a1), .long (sJ 0), .long (sJ 3)]) (st := []) (s1_X12_within hM101 a1 (by omega) 0 (by exact ⟨(by decide), (by decide)⟩) 3 (by exact ⟨(by decide), (by decide)⟩)) gX12_hides_X12_within rfl hdX12_withins (by decide) (Nat.le_of_ble_eq_true rfl) dX12_hides_21 rfl (fun r108 M109 h110 => ?_)
    obtain ⟨a112, rfl, rfl, h111⟩ := h110
    refine y_if_eq C 39 dX12_hides_24 (by decide) (by omega) (fun h113 => ?_) (fun h113 => ?_)
    · refine y_bipush C dX12_hides_39 rfl ?_
      have u114r : b01 (M101.1 99 = M0.1 99) = 1 := b01_i ((wI_cell eM101 (by decide)))
      exact hret _ _ _ _ dX12_hides_41 ⟨(-3), rfl, hM101, (FR.rf.wI eM101 (by decide)), by exact ⟨(by decide), ⟨(by decide), ⟨u114r, pM101⟩⟩⟩⟩
    · refine j_iload_n C 2 2 dX12_hides_27 rfl rfl ?_
      refine y_i2l C dX12_hides_28 (by exact ⟨ha2.1, ha2.2⟩) ?_
      refine y_lconst C 1 dX12_hides_29 rfl ?_
      refine y_ldc2 C 6 dX12_hides_30 kX12_hides_416 rfl ?_
      refine j_callSi C (d := 0) (As := [.long (sJ a2), .long (sJ 1), .long (sJ 6)]) (st := []) (s1_X12_within hM101 a2 (by omega) 1 (by exact ⟨(by decide), (by decide)⟩) 6 (by exact ⟨(by decide), (by decide)⟩)) gX12_hides_X12_within rfl hdX12_withins (by decide) (Nat.le_of_ble_eq_true rfl) dX12_hides_33 rfl (fun r115 M116 h117 => ?_)
      obtain ⟨a119, rfl, rfl, h118⟩ := h117
      refine y_if_ne C 42 dX12_hides_36 (by decide) (by omega) (fun h120 => ?_) (fun h120 => ?_)
      · refine j_aload_n C 0 0 dX12_hides_42 rfl rfl ?_
        refine j_callVi C (d := 3) (As := []) (st := []) 98 (s_lt rfl rfl) (s_kc (c := 11) rfl rfl) (by decide) rfl (s1_X12_isShut hM101) gX12_hides_X12_isShut rfl hdX12_isShut (by decide) (Nat.le_of_ble_eq_true rfl) dX12_hides_43 rfl (fun r121 M122 h123 => ?_)
        obtain ⟨a125, rfl, rfl, h124⟩ := h123
        rw [show M101.1 99 = M0.1 99 from (wI_cell eM101 (by decide))] at h124
        obtain rfl : a125 = (shF (M0.1 99) ((M0.1 99 27).toInt)) := by exact h124.2.2
        refine y_if_eq C 52 dX12_hides_46 (by decide) (by omega) (fun h126 => ?_) (fun h126 => ?_)
        · refine y_iconst C dX12_hides_52 ?_
          refine j_istore C 4 [(4, .int (sI 0)), (0, .ref (ad 98)), (1, .int (sI a1)), (2, .int (sI a2)), (3, .int (sI a3))] dX12_hides_53 (by decide) rfl ?_
          refine j_aload_n C 1 0 dX12_hides_55 rfl rfl ?_
          refine y_iconst C dX12_hides_56 ?_
          refine j_iload_n C 3 2 dX12_hides_57 rfl rfl ?_
          refine j_callVj C (d := 5) (As := [.int (sI 0), .int (sI a2)]) (st := []) 98 (s_lt rfl rfl) (s_kc (c := 11) rfl rfl) (by decide) rfl (s1_X12_openBy hM101 hpr hcw 0 (by exact ⟨(by decide), (by decide)⟩) a2 (by exact ⟨ha2.1, ha2.2⟩) (by exact ⟨(by decide), (by decide)⟩) (by exact pM101)) gX12_hides_X12_openBy rfl hdX12_openBy (by decide) (Nat.le_of_ble_eq_true rfl) dX12_hides_58 rfl (fun r127 M128 h129 => ?_)
          obtain ⟨a131, rfl, hM128, fM128, h130⟩ := h129
          refine j_lstore C 5 [(5, .long (sJ a131)), (4, .int (sI 0)), (0, .ref (ad 98)), (1, .int (sI a1)), (2, .int (sI a2)), (3, .int (sI a3))] dX12_hides_61 (by decide) rfl ?_
          refine y_iconst C dX12_hides_63 ?_
          refine j_istore C 7 [(7, .int (sI 1)), (5, .long (sJ a131)), (4, .int (sI 0)), (0, .ref (ad 98)), (1, .int (sI a1)), (2, .int (sI a2)), (3, .int (sI a3))] dX12_hides_64 (by decide) rfl ?_
          have u132or : b01 (M101.1 99 = M0.1 99) = 1 := b01_i ((wI_cell eM101 (by decide)))
          have u132p : b01 (M128.1 99 = M0.1 99) = 1 := b01_i ((b01_e (P := M128.1 99 = M101.1 99) (by exact h130.2.2.1)).trans (b01_e (by exact u132or)))
          have L3987 : ∀ (n3985 : Nat), ∀ (a3988 : Int) (a3989 : Int) (a3990 : Int) (M3991 : mm_M), (0 ≤ a3988 ∧ a3988 ≤ 255 ∧ (-9223372036854775808) ≤ a3989 ∧ a3989 ≤ 9223372036854775807 ∧ 1 ≤ a3990 ∧ a3990 ≤ 4 ∧ (b01 (M3991.1 99 = M0.1 99) = 1) ∧ (b01 (PI M3991) = 1) ∧ (4 - a3990) < (n3985 : Int)) → INV pr Kz M3991 → FR [98, 99, 103, 104, 106, 110, 111, 112] M0 M3991 → jj p l e (cn_R 6) s m args below meth c 0 0 Q 11 dC dI ad cA A M3991 66 [(0, .ref (ad 98)), (1, .int (sI a1)), (2, .int (sI a2)), (3, .int (sI a3)), (4, .int (sI a3988)), (5, .long (sJ a3989)), (7, .int (sI a3990))] [] := by
            intro n3985
            induction n3985 with
            | zero =>
              intro a3988 a3989 a3990 M3991 h3992 hM3991 fM3991
              exfalso; omega
            | succ n3985 ih3986 =>
              intro a3988 a3989 a3990 M3991 h3992 hM3991 fM3991
              refine j_iload C 6 dX12_hides_66 rfl ?_
              refine j_iload_n C 1 1 dX12_hides_68 rfl rfl ?_
              refine y_icmp_gt C 149 dX12_hides_69 (by decide) (by exact ⟨⟨(by (clear fM3991 hM3991 ih3986 u132p u132or h130 fM128 hM128 h126 h124 h120 h118 h113 h111 h107 h105 pM101 hM101 eM101 hret C hp0 ha3 ha2 hcw hpr hM0; omega)), (by (clear fM3991 hM3991 ih3986 u132p u132or h130 fM128 hM128 h126 h124 h120 h118 h113 h111 h107 h105 pM101 hM101 eM101 hret C hp0 ha3 ha2 hcw hpr hM0; omega))⟩, ⟨ha1.1, ha1.2⟩⟩) (fun h3994 => ?_) (fun h3994 => ?_)
              · refine j_iload_n C 3 3 dX12_hides_149 rfl rfl ?_
                refine y_if_ne C 161 dX12_hides_150 (by decide) (by exact ⟨ha3.1, ha3.2⟩) (fun h4952 => ?_) (fun h4952 => ?_)
                · refine j_iload C 4 dX12_hides_161 rfl ?_
                  exact hret _ _ _ _ dX12_hides_163 ⟨a3988, rfl, hM3991, (FR.rf.tr fM3991 (by decide)), by exact ⟨(by (clear h4952 h3994 fM3991 hM3991 ih3986 u132p u132or h130 fM128 hM128 h126 h124 h120 h118 h113 h111 h107 h105 pM101 hM101 eM101 hret C hp0 ha3 ha2 ha1 hcw hpr hM0; omega)), ⟨h3992.2.1, ⟨h3992.2.2.2.2.2.2.1, h3992.2.2.2.2.2.2.2.1⟩⟩⟩⟩
                · refine j_iload C 4 dX12_hides_153 rfl ?_
                  refine j_callSi C (d := 0) (As := [.int (sI a3988)]) (st := []) (s1_X12_bitsOf hM3991 a3988 (by (clear h4952 h3994 fM3991 hM3991 ih3986 u132p u132or h130 fM128 hM128 h126 h124 h120 h118 h113 h111 h107 h105 pM101 hM101 eM101 hret C hp0 ha3 ha2 ha1 hcw hpr hM0; omega))) gX12_hides_X12_bitsOf rfl hdX12_bitsOfs (by decide) (Nat.le_of_ble_eq_true rfl) dX12_hides_155 rfl (fun r4954 M4955 h4956 => ?_)
                  obtain ⟨a4958, rfl, rfl, h4957⟩ := h4956
                  obtain rfl : a4958 = (bsF a3988 (8 : Int).toNat) := by exact h4957.2.2
                  refine j_goto C 163 dX12_hides_158 (by decide) ?_
                  exact hret _ _ _ _ dX12_hides_163 ⟨(bsF a3988 (8 : Int).toNat), rfl, hM3991, (FR.rf.tr fM3991 (by decide)), by exact ⟨(by (clear h4952 h3994 fM3991 hM3991 ih3986 u132p u132or h130 fM128 hM128 h126 h124 h120 h118 h113 h111 h107 h105 pM101 hM101 eM101 hret C hp0 ha3 ha2 ha1 hcw hpr hM0; omega)), ⟨(by (clear h4952 h3994 fM3991 hM3991 ih3986 u132p u132or h130 fM128 hM128 h126 h124 h120 h118 h113 h111 h107 h105 pM101 hM101 eM101 hret C hp0 ha3 ha2 ha1 hcw hpr hM0; omega)), ⟨h3992.2.2.2.2.2.2.1, h3992.2.2.2.2.2.2.2.1⟩⟩⟩⟩
              · refine y_iconst C dX12_hides_72 ?_
                refine j_istore C 8 [(8, .int (sI 0)), (0, .ref (ad 98)), (1, .int (sI a1)), (2, .int (sI a2)), (3, .int (sI a3)), (4, .int (sI a3988)), (5, .long (sJ a3989)), (7, .int (sI a3990))] dX12_hides_73 (by decide) rfl ?_
                have L4915 : ∀ (n4913 : Nat), ∀ (a4916 : Int) (a4917 : Int) (a4918 : Int) (M4919 : mm_M), (0 ≤ a4916 ∧ a4916 ≤ 255 ∧ (-9223372036854775808) ≤ a4917 ∧ a4917 ≤ 9223372036854775807 ∧ 0 ≤ a4918 ∧ a4918 ≤ 256 ∧ (b01 (M4919.1 99 = M0.1 99) = 1) ∧ (b01 (PI M4919) = 1) ∧ (256 - a4918) < (n4913 : Int)) → INV pr Kz M4919 → FR [98, 99, 103, 104, 106, 110, 111, 112] M0 M4919 → jj p l e (cn_R 6) s m args below meth c 0 0 Q 11 dC dI ad cA A M4919 75 [(0, .ref (ad 98)), (1, .int (sI a1)), (2, .int (sI a2)), (3, .int (sI a3)), (4, .int (sI a4916)), (5, .long (sJ a4917)), (7, .int (sI a3990)), (8, .int (sI a4918))] [] := by
                  intro n4913
                  induction n4913 with
                  | zero =>
                    intro a4916 a4917 a4918 M4919 h4920 hM4919 fM4919
                    exfalso; (clear fM4919 hM4919 h3994 fM3991 hM3991 h3992 ih3986 u132p u132or h130 fM128 hM128 h126 h124 h120 h118 h113 h111 h107 h105 pM101 hM101 eM101 hret C hp0 ha3 ha2 ha1 hcw hpr hM0; omega)
                  | succ n4913 ih4914 =>
                    intro a4916 a4917 a4918 M4919 h4920 hM4919 fM4919
                    refine j_iload C 7 dX12_hides_75 rfl ?_
                    refine j_aload_n C 0 0 dX12_hides_77 rfl rfl ?_
                    refine j_callVi C (d := 1) (As := []) (st := [.int (sI a4918)]) 98 (s_lt rfl rfl) (s_kc (c := 11) rfl rfl) (by decide) rfl (s1_X12_shown hM4919) gX12_hides_X12_shown rfl hdX12_shown (by decide) (Nat.le_of_ble_eq_true rfl) dX12_hides_78 rfl (fun r4922 M4923 h4924 => ?_)
                    obtain ⟨a4926, rfl, rfl, h4925⟩ := h4924
                    obtain rfl : a4926 = (snF (M4919.1 99)) := by exact h4925.2.2
                    refine y_icmp_gt C 143 dX12_hides_81 (by decide) (by (clear fM4919 hM4919 ih4914 h3994 fM3991 hM3991 h3992 ih3986 u132p u132or h130 fM128 hM128 h126 h124 h120 h118 h113 h111 h107 h105 pM101 hM101 eM101 hret C hp0 ha3 ha2 ha1 hcw hpr hM0; omega)) (fun h4927 => ?_) (fun h4927 => ?_)
                    · refine y_iinc C 6 [(7, .int (sI (a3990 + 1))), (0, .ref (ad 98)), (1, .int (sI a1)), (2, .int (sI a2)), (3, .int (sI a3)), (4, .int (sI a4916)), (5, .long (sJ a4917)), (8, .int (sI a4918))] dX12_hides_143 rfl (by decide) rfl ?_
                      refine j_goto C 66 dX12_hides_146 (by decide) ?_
                      refine j_lv [1, 2, 3, 4, 5, 6, 0] rfl ?_; exact ih3986 a4916 a4917 (a3990 + 1) M4919 (by exact ⟨h4920.1, ⟨h4920.2.1, ⟨h4920.2.2.1, ⟨h4920.2.2.2.1, ⟨(by (clear h4927 h4925 fM4919 hM4919 ih4914 fM3991 hM3991 ih3986 u132p u132or h130 fM128 hM128 h126 h124 h107 h105 pM101 hM101 eM101 hret C hp0 ha3 ha2 hcw hpr hM0; omega)), ⟨(by (clear h4927 h4925 fM4919 hM4919 ih4914 fM3991 hM3991 ih3986 u132p u132or h130 fM128 hM128 h126 h124 h107 h105 pM101 hM101 eM101 hret C hp0 ha3 ha2 hcw hpr hM0; omega)), ⟨h4920.2.2.2.2.2.2.1, ⟨h4920.2.2.2.2.2.2.2.1, (by (clear h4927 h4925 fM4919 hM4919 ih4914 fM3991 hM3991 ih3986 u132p u132or h130 fM128 hM128 h126 h124 h107 h105 pM101 hM101 eM101 hret C hp0 ha3 ha2 hcw hpr hM0; omega))⟩⟩⟩⟩⟩⟩⟩⟩) hM4919 (FR.rf.tr fM4919 (by decide))
                    · refine j_iload C 7 dX12_hides_84 rfl ?_
                      refine j_aload_n C 0 0 dX12_hides_86 rfl rfl ?_
                      refine j_callVi C (d := 1) (As := []) (st := [.int (sI a4918)]) 98 (s_lt rfl rfl) (s_kc (c := 11) rfl rfl) (by decide) rfl (s1_X12_shown hM4919) gX12_hides_X12_shown rfl hdX12_shown (by decide) (Nat.le_of_ble_eq_true rfl) dX12_hides_87 rfl (fun r4928 M4929 h4930 => ?_)
                      obtain ⟨a4932, rfl, rfl, h4931⟩ := h4930
                      obtain rfl : a4932 = (snF (M4919.1 99)) := by exact h4931.2.2
                      refine y_iconst C dX12_hides_90 ?_
                      refine y_not C dX12_hides_91 ?_
                      refine e_iandL C dX12_hides_92 (by exact ⟨h4920.2.2.2.2.1, (by (clear h4931 h4927 h4925 fM4919 hM4919 ih4914 h3994 fM3991 hM3991 h3992 ih3986 u132p u132or h130 fM128 hM128 h126 h124 h120 h118 h113 h111 h107 h105 pM101 hM101 eM101 hret C hp0 ha3 ha2 ha1 hcw hpr hM0; omega))⟩) (fun lb4933 ub4933 => ?_)
                      refine y_if_ne C 137 dX12_hides_93 (by decide) (by (clear h4931 fM4919 hM4919 h4920 ih4914 h3994 fM3991 hM3991 h3992 ih3986 u132p u132or h130 fM128 hM128 h126 h124 h120 h118 h113 h111 h107 h105 pM101 hM101 eM101 hret C hp0 ha3 ha2 ha1 hcw hpr hM0; omega)) (fun h4934 => ?_) (fun h4934 => ?_)
                      · refine y_iinc C 7 [(8, .int (sI (a4918 + 1))), (0, .ref (ad 98)), (1, .int (sI a1)), (2, .int (sI a2)), (3, .int (sI a3)), (4, .int (sI a4916)), (5, .long (sJ a4917)), (7, .int (sI a3990))] dX12_hides_137 rfl (by decide) rfl ?_
                        refine j_goto C 75 dX12_hides_140 (by decide) ?_
                        refine j_lv [1, 2, 3, 4, 5, 6, 7, 0] rfl ?_; exact ih4914 a4916 a4917 (a4918 + 1) M4919 (by exact ⟨h4920.1, ⟨h4920.2.1, ⟨h4920.2.2.1, ⟨h4920.2.2.2.1, ⟨(by (clear h4934 ub4933 lb4933 h4931 fM4919 hM4919 ih4914 h3994 fM3991 hM3991 h3992 ih3986 u132p u132or h130 fM128 hM128 h126 h124 h120 h118 h113 h111 h107 h105 pM101 hM101 eM101 hret C hp0 ha3 ha2 ha1 hcw hpr hM0; omega)), ⟨(by (clear h4934 ub4933 lb4933 h4931 fM4919 hM4919 ih4914 h3994 fM3991 hM3991 h3992 ih3986 u132p u132or h130 fM128 hM128 h126 h124 h120 h118 h113 h111 h107 h105 pM101 hM101 eM101 hret C hp0 ha3 ha2 ha1 hcw hpr hM0; omega)), ⟨h4920.2.2.2.2.2.2.1, ⟨h4920.2.2.2.2.2.2.2.1, (by (clear h4934 ub4933 lb4933 h4931 fM4919 hM4919 ih4914 h3994 fM3991 hM3991 h3992 ih3986 u132p u132or h130 fM128 hM128 h126 h124 h120 h118 h113 h111 h107 h105 pM101 hM101 eM101 hret C hp0 ha3 ha2 ha1 hcw hpr hM0; omega))⟩⟩⟩⟩⟩⟩⟩⟩) hM4919 (FR.rf.tr fM4919 (by decide))
                      · refine j_iload C 7 dX12_hides_96 rfl ?_
                        refine j_callSi C (d := 0) (As := [.int (sI a4918)]) (st := []) (s1_X12_bitsOf hM4919 a4918 (by (clear h4934 ub4933 lb4933 h4931 h4927 h4925 fM4919 hM4919 ih4914 h3994 fM3991 hM3991 h3992 ih3986 u132p u132or h130 fM128 hM128 h126 h124 h120 h118 h113 h111 h107 h105 pM101 hM101 eM101 hret C hp0 ha3 ha2 ha1 hcw hpr hM0; omega))) gX12_hides_X12_bitsOf rfl hdX12_bitsOfs (by decide) (Nat.le_of_ble_eq_true rfl) dX12_hides_98 rfl (fun r4936 M4937 h4938 => ?_)
                        obtain ⟨a4940, rfl, rfl, h4939⟩ := h4938
                        obtain rfl : a4940 = (bsF a4918 (8 : Int).toNat) := by exact h4939.2.2
                        refine j_iload C 6 dX12_hides_101 rfl ?_
                        refine y_icmp_eq C 109 dX12_hides_103 (by decide) (by (clear h4934 ub4933 lb4933 h4931 h4927 h4925 fM4919 hM4919 h4920 ih4914 h3994 fM3991 hM3991 ih3986 u132p u132or h130 fM128 hM128 h126 h124 h120 h118 h113 h111 h107 h105 pM101 hM101 eM101 hret C hp0 ha3 ha2 ha1 hcw hpr hM0; omega)) (fun h4941 => ?_) (fun h4941 => ?_)
                        · refine j_aload_n C 0 0 dX12_hides_109 rfl rfl ?_
                          refine j_iload C 7 dX12_hides_110 rfl ?_
                          refine j_iload_n C 2 2 dX12_hides_112 rfl rfl ?_
                          refine j_callVj C (d := 5) (As := [.int (sI a4918), .int (sI a2)]) (st := []) 98 (s_lt rfl rfl) (s_kc (c := 11) rfl rfl) (by decide) rfl (s1_X12_openBy hM4919 hpr hcw a4918 (by omega) a2 (by exact ⟨ha2.1, ha2.2⟩) (by exact ⟨h4920.2.2.2.2.1, (by (clear h4941 h4939 h4934 ub4933 lb4933 h4931 fM4919 hM4919 ih4914 h3994 fM3991 hM3991 h3992 ih3986 u132p u132or h130 fM128 hM128 h126 h124 h120 h118 h113 h111 h107 h105 pM101 hM101 eM101 hret C hp0 ha3 ha2 ha1 hcw hpr hM0; omega))⟩) (by exact h4920.2.2.2.2.2.2.2.1)) gX12_hides_X12_openBy rfl hdX12_openBy (by decide) (Nat.le_of_ble_eq_true rfl) dX12_hides_113 rfl (fun r4942 M4943 h4944 => ?_)
                          obtain ⟨a4946, rfl, hM4943, fM4943, h4945⟩ := h4944
                          refine j_lstore C 9 [(9, .long (sJ a4946)), (0, .ref (ad 98)), (1, .int (sI a1)), (2, .int (sI a2)), (3, .int (sI a3)), (4, .int (sI a4916)), (5, .long (sJ a4917)), (7, .int (sI a3990)), (8, .int (sI a4918))] dX12_hides_116 (by decide) rfl ?_
                          refine j_lload C 0 dX12_hides_118 rfl ?_
                          refine j_lload C 6 dX12_hides_120 rfl ?_
                          refine y_lcmp_gt C 129 dX12_hides_122 dX12_hides_123 (by decide) (by exact ⟨⟨h4945.1, h4945.2.1⟩, ⟨h4920.2.2.1, h4920.2.2.2.1⟩⟩) (fun h4947 => ?_) (fun h4947 => ?_)
                          · refine j_iload C 8 dX12_hides_129 rfl ?_
                            refine j_istore C 4 [(4, .int (sI a4918)), (9, .long (sJ a4946)), (0, .ref (ad 98)), (1, .int (sI a1)), (2, .int (sI a2)), (3, .int (sI a3)), (5, .long (sJ a4917)), (7, .int (sI a3990)), (8, .int (sI a4918))] dX12_hides_131 (by decide) rfl ?_
                            refine j_lload C 1 dX12_hides_133 rfl ?_
                            refine j_lstore C 5 [(5, .long (sJ a4946)), (4, .int (sI a4918)), (9, .long (sJ a4946)), (0, .ref (ad 98)), (1, .int (sI a1)), (2, .int (sI a2)), (3, .int (sI a3)), (7, .int (sI a3990)), (8, .int (sI a4918))] dX12_hides_135 (by decide) rfl ?_
                            refine y_iinc C 8 [(8, .int (sI (a4918 + 1))), (5, .long (sJ a4946)), (4, .int (sI a4918)), (9, .long (sJ a4946)), (0, .ref (ad 98)), (1, .int (sI a1)), (2, .int (sI a2)), (3, .int (sI a3)), (7, .int (sI a3990))] dX12_hides_137 rfl (by decide) rfl ?_
                            refine j_goto C 75 dX12_hides_140 (by decide) ?_
                            have u4948p : b01 (M4943.1 99 = M0.1 99) = 1 := b01_i ((b01_e (P := M4943.1 99 = M4919.1 99) (by exact h4945.2.2.1)).trans (b01_e (by exact h4920.2.2.2.2.2.2.1)))
                            refine j_lv [4, 5, 6, 7, 2, 1, 8, 0] rfl ?_; exact ih4914 a4918 a4946 (a4918 + 1) M4943 (by exact ⟨h4920.2.2.2.2.1, ⟨(by (clear h4947 fM4943 hM4943 h4941 h4939 h4934 ub4933 lb4933 h4931 fM4919 hM4919 ih4914 h3994 fM3991 hM3991 h3992 ih3986 u132p u132or h130 fM128 hM128 h126 h124 h120 h118 h113 h111 h107 h105 pM101 hM101 eM101 hret C hp0 ha3 ha2 ha1 hcw hpr hM0; omega)), ⟨h4945.1, ⟨h4945.2.1, ⟨(by (clear h4947 fM4943 hM4943 h4941 h4939 h4934 ub4933 lb4933 h4931 fM4919 hM4919 ih4914 h3994 fM3991 hM3991 h3992 ih3986 u132p u132or h130 fM128 hM128 h126 h124 h120 h118 h113 h111 h107 h105 pM101 hM101 eM101 hret C hp0 ha3 ha2 ha1 hcw hpr hM0; omega)), ⟨(by (clear h4947 fM4943 hM4943 h4941 h4939 h4934 ub4933 lb4933 h4931 fM4919 hM4919 ih4914 h3994 fM3991 hM3991 h3992 ih3986 u132p u132or h130 fM128 hM128 h126 h124 h120 h118 h113 h111 h107 h105 pM101 hM101 eM101 hret C hp0 ha3 ha2 ha1 hcw hpr hM0; omega)), ⟨u4948p, ⟨h4945.2.2.2, (by (clear h4947 fM4943 hM4943 h4941 h4939 h4934 ub4933 lb4933 h4931 fM4919 hM4919 ih4914 h3994 fM3991 hM3991 h3992 ih3986 u132p u132or h130 fM128 hM128 h126 h124 h120 h118 h113 h111 h107 h105 pM101 hM101 eM101 hret C hp0 ha3 ha2 ha1 hcw hpr hM0; omega))⟩⟩⟩⟩⟩⟩⟩⟩) hM4943 ((FR.rf.tr fM4919 (by decide)).tr fM4943 (by decide))
                          · refine j_goto C 137 dX12_hides_126 (by decide) ?_
                            refine y_iinc C 8 [(8, .int (sI (a4918 + 1))), (9, .long (sJ a4946)), (0, .ref (ad 98)), (1, .int (sI a1)), (2, .int (sI a2)), (3, .int (sI a3)), (4, .int (sI a4916)), (5, .long (sJ a4917)), (7, .int (sI a3990))] dX12_hides_137 rfl (by decide) rfl ?_
                            refine j_goto C 75 dX12_hides_140 (by decide) ?_
                            have u4949p : b01 (M4943.1 99 = M0.1 99) = 1 := b01_i ((b01_e (P := M4943.1 99 = M4919.1 99) (by exact h4945.2.2.1)).trans (b01_e (by exact h4920.2.2.2.2.2.2.1)))
                            refine j_lv [2, 3, 4, 5, 6, 7, 8, 0] rfl ?_; exact ih4914 a4916 a4917 (a4918 + 1) M4943 (by exact ⟨h4920.1, ⟨h4920.2.1, ⟨h4920.2.2.1, ⟨h4920.2.2.2.1, ⟨(by (clear h4947 fM4943 hM4943 h4941 h4939 h4934 ub4933 lb4933 h4931 fM4919 hM4919 ih4914 h3994 fM3991 hM3991 h3992 ih3986 u132p u132or h130 fM128 hM128 h126 h124 h120 h118 h113 h111 h107 h105 pM101 hM101 eM101 hret C hp0 ha3 ha2 ha1 hcw hpr hM0; omega)), ⟨(by (clear h4947 fM4943 hM4943 h4941 h4939 h4934 ub4933 lb4933 h4931 fM4919 hM4919 ih4914 h3994 fM3991 hM3991 h3992 ih3986 u132p u132or h130 fM128 hM128 h126 h124 h120 h118 h113 h111 h107 h105 pM101 hM101 eM101 hret C hp0 ha3 ha2 ha1 hcw hpr hM0; omega)), ⟨u4949p, ⟨h4945.2.2.2, (by (clear h4947 fM4943 hM4943 h4941 h4939 h4934 ub4933 lb4933 h4931 fM4919 hM4919 ih4914 h3994 fM3991 hM3991 h3992 ih3986 u132p u132or h130 fM128 hM128 h126 h124 h120 h118 h113 h111 h107 h105 pM101 hM101 eM101 hret C hp0 ha3 ha2 ha1 hcw hpr hM0; omega))⟩⟩⟩⟩⟩⟩⟩⟩) hM4943 ((FR.rf.tr fM4919 (by decide)).tr fM4943 (by decide))
                        · refine j_goto C 137 dX12_hides_106 (by decide) ?_
                          refine y_iinc C 7 [(8, .int (sI (a4918 + 1))), (0, .ref (ad 98)), (1, .int (sI a1)), (2, .int (sI a2)), (3, .int (sI a3)), (4, .int (sI a4916)), (5, .long (sJ a4917)), (7, .int (sI a3990))] dX12_hides_137 rfl (by decide) rfl ?_
                          refine j_goto C 75 dX12_hides_140 (by decide) ?_
                          refine j_lv [1, 2, 3, 4, 5, 6, 7, 0] rfl ?_; exact ih4914 a4916 a4917 (a4918 + 1) M4919 (by exact ⟨h4920.1, ⟨h4920.2.1, ⟨h4920.2.2.1, ⟨h4920.2.2.2.1, ⟨(by (clear h4941 h4939 h4934 ub4933 lb4933 h4931 fM4919 hM4919 ih4914 h3994 fM3991 hM3991 h3992 ih3986 u132p u132or h130 fM128 hM128 h126 h124 h120 h118 h113 h111 h107 h105 pM101 hM101 eM101 hret C hp0 ha3 ha2 ha1 hcw hpr hM0; omega)), ⟨(by (clear h4941 h4939 h4934 ub4933 lb4933 h4931 fM4919 hM4919 ih4914 h3994 fM3991 hM3991 h3992 ih3986 u132p u132or h130 fM128 hM128 h126 h124 h120 h118 h113 h111 h107 h105 pM101 hM101 eM101 hret C hp0 ha3 ha2 ha1 hcw hpr hM0; omega)), ⟨h4920.2.2.2.2.2.2.1, ⟨h4920.2.2.2.2.2.2.2.1, (by (clear h4941 h4939 h4934 ub4933 lb4933 h4931 fM4919 hM4919 ih4914 h3994 fM3991 hM3991 h3992 ih3986 u132p u132or h130 fM128 hM128 h126 h124 h120 h118 h113 h111 h107 h105 pM101 hM101 eM101 hret C hp0 ha3 ha2 ha1 hcw hpr hM0; omega))⟩⟩⟩⟩⟩⟩⟩⟩) hM4919 (FR.rf.tr fM4919 (by decide))
                refine j_lv [1, 2, 3, 4, 5, 6, 7, 0] rfl ?_; exact L4915 2010 a3988 a3989 0 M3991 (by exact ⟨h3992.1, ⟨h3992.2.1, ⟨h3992.2.2.1, ⟨h3992.2.2.2.1, ⟨(by decide), ⟨(by decide), ⟨h3992.2.2.2.2.2.2.1, ⟨h3992.2.2.2.2.2.2.2.1, (by decide)⟩⟩⟩⟩⟩⟩⟩⟩) hM3991 (FR.rf.tr fM3991 (by decide))
          refine j_lv [3, 4, 5, 6, 2, 1, 0] rfl ?_; exact L3987 2010 0 a131 1 M128 (by exact ⟨(by decide), ⟨(by decide), ⟨h130.1, ⟨h130.2.1, ⟨(by decide), ⟨(by decide), ⟨u132p, ⟨h130.2.2.2, (by decide)⟩⟩⟩⟩⟩⟩⟩⟩) hM128 ((FR.rf.wI eM101 (by decide)).tr fM128 (by decide))
        · refine y_bipush C dX12_hides_49 rfl ?_
          have u4960r : b01 (M101.1 99 = M0.1 99) = 1 := b01_i ((wI_cell eM101 (by decide)))
          exact hret _ _ _ _ dX12_hides_51 ⟨(-5), rfl, hM101, (FR.rf.wI eM101 (by decide)), by exact ⟨(by decide), ⟨(by decide), ⟨u4960r, pM101⟩⟩⟩⟩
      · refine y_bipush C dX12_hides_39 rfl ?_
        have u4961r : b01 (M101.1 99 = M0.1 99) = 1 := b01_i ((wI_cell eM101 (by decide)))
        exact hret _ _ _ _ dX12_hides_41 ⟨(-3), rfl, hM101, (FR.rf.wI eM101 (by decide)), by exact ⟨(by decide), ⟨(by decide), ⟨u4961r, pM101⟩⟩⟩⟩
  · refine y_bipush C dX12_hides_12 rfl ?_
    have u4962r : b01 (M101.1 99 = M0.1 99) = 1 := b01_i ((wI_cell eM101 (by decide)))
    exact hret _ _ _ _ dX12_hides_14 ⟨(-2), rfl, hM101, (FR.rf.wI eM101 (by decide)), by exact ⟨(by decide), ⟨(by decide), ⟨u4962r, pM101⟩⟩⟩⟩
set_option maxHeartbeats 4000000 in
theorem s1_X12_buyersNow {l : Launch} {dC : Nat → ClassId} {dI : Nat → Nat → Nat} {ad : Nat → Nat} {cA : Nat → ClassId} {pr : Nat → Nat → Bool} {Kz : mm_M} {M0 : mm_M} (hM0 : INV pr Kz M0) (hpr : PM pr) (hcw : CWK pr Kz)  (hp0 : b01 (PI M0) = 1) : Ci l 5 yX12_buyersNow wsX12_buyersNow dC dI ad cA [.ref (ad 98)] M0 (fun r M' => ∃ a : Int, r = sI a ∧ INV pr Kz M' ∧ FR [103, 104] M0 M' ∧ 0 ≤ a ∧ a ≤ 63 ∧ (b01 (PI M') = 1)) := by
  refine ci_of (cc := cX12_buyersNow) (maxL := 3) (ty := .int) (lv := [(0, .ref (ad 98))]) (by decide) rfl (fun r M' hp => rfl) (Nat.le_of_ble_eq_true rfl) rfl ?_
  intro p e s m args below meth c A Q C hret
  refine y_iconst C dX12_buyersNow_0 ?_
  refine j_istore_n C 1 [(1, .int (sI 0)), (0, .ref (ad 98))] dX12_buyersNow_1 rfl (by decide) rfl ?_
  refine y_iconst C dX12_buyersNow_2 ?_
  refine j_istore_n C 2 [(2, .int (sI 0)), (1, .int (sI 0)), (0, .ref (ad 98))] dX12_buyersNow_3 rfl (by decide) rfl ?_
  have L201 : ∀ (n199 : Nat), ∀ (a202 : Int) (a203 : Int) (M204 : mm_M), (0 ≤ a202 ∧ a202 ≤ 63 ∧ 0 ≤ a203 ∧ a203 ≤ 6 ∧ (b01 (PI M204) = 1) ∧ (6 - a203) < (n199 : Int)) → INV pr Kz M204 → FR [103, 104] M0 M204 → jj p l e (cn_R 5) s m args below meth c 0 0 Q 3 dC dI ad cA A M204 4 [(0, .ref (ad 98)), (1, .int (sI a202)), (2, .int (sI a203))] [] := by
    intro n199
    induction n199 with
    | zero =>
      intro a202 a203 M204 h205 hM204 fM204
      exfalso; omega
    | succ n199 ih200 =>
      intro a202 a203 M204 h205 hM204 fM204
      refine j_iload_n C 2 2 dX12_buyersNow_4 rfl rfl ?_
      refine j_aload_n C 0 0 dX12_buyersNow_5 rfl rfl ?_
      refine y_getC C 11 99 fX12_buyersNow_13 rfl rfl ft_11_1 sm_11_1 rfl hM204 dX12_buyersNow_6 ?_
      refine y_iconst C dX12_buyersNow_9 ?_
      refine y_ialdH C 45 3543 rfl rfl rfl ak_45 an_45 rfl _ _ hM204 (hr_45_1_1 _ (by exact (by decide)) (by exact (by decide))) dX12_buyersNow_10 (by exact ⟨(by decide), (by decide)⟩) (fun a206 ea206 la206 ua206 => ?_)
      obtain rfl : a206 = (M0.1 99 1).toInt := s_fF fM204 (by decide) (ea206)
      refine y_icmp_ge C 39 dX12_buyersNow_11 (by decide) (by (clear fM204 hM204 ih200 hret C hp0 hcw hpr hM0; omega)) (fun h207 => ?_) (fun h207 => ?_)
      · refine j_iload_n C 1 1 dX12_buyersNow_39 rfl rfl ?_
        exact hret _ _ _ _ dX12_buyersNow_40 ⟨a202, rfl, hM204, (FR.rf.tr fM204 (by decide)), by exact ⟨h205.1, ⟨h205.2.1, h205.2.2.2.2.1⟩⟩⟩
      · refine j_iload_n C 1 1 dX12_buyersNow_14 rfl rfl ?_
        refine j_aload_n C 0 0 dX12_buyersNow_15 rfl rfl ?_
        refine j_iload_n C 2 2 dX12_buyersNow_16 rfl rfl ?_
        refine j_callVi C (d := 4) (As := [.int (sI a203)]) (st := [.int (sI a202)]) 98 (s_lt rfl rfl) (s_kc (c := 11) rfl rfl) (by decide) rfl (s1_X12_buysNow hM204 hpr hcw a203 (by omega) (by exact ⟨h205.2.2.1, (by (clear fM204 hM204 ih200 hret C hp0 hcw hpr hM0; omega))⟩) (by exact h205.2.2.2.2.1)) gX12_buyersNow_X12_buysNow rfl hdX12_buysNow (by decide) (Nat.le_of_ble_eq_true rfl) dX12_buyersNow_17 rfl (fun r208 M209 h210 => ?_)
        obtain ⟨a212, rfl, hM209, fM209, h211⟩ := h210
        rw [show M204.1 99 = M0.1 99 from (FR.cell fM204 (by decide))] at h211
        obtain rfl : a212 = (bnF (M0.1 99) a203) := by exact h211.2.2.1
        refine y_iconst C dX12_buyersNow_20 ?_
        refine y_icmp_eq C 30 dX12_buyersNow_21 (by decide) (by exact ⟨⟨(by (clear fM209 hM209 h207 ua206 la206 ea206 fM204 hM204 h205 ih200 hret C hp0 hcw hpr hM0; omega)), (by (clear fM209 hM209 h207 ua206 la206 ea206 fM204 hM204 h205 ih200 hret C hp0 hcw hpr hM0; omega))⟩, ⟨(by decide), (by decide)⟩⟩) (fun h213 => ?_) (fun h213 => ?_)
        · refine y_iconst C dX12_buyersNow_30 ?_
          refine e_iorN C 6 63 dX12_buyersNow_31 rfl (by decide) (by exact ⟨h205.1, ⟨h205.2.1, ⟨(by decide), (by decide)⟩⟩⟩) (fun lb214 ub214 ob214 => ?_)
          refine j_istore_n C 1 [(1, .int (sI (orI a202 0))), (0, .ref (ad 98)), (2, .int (sI a203))] dX12_buyersNow_32 rfl (by decide) rfl ?_
          refine y_iinc C 2 [(2, .int (sI (a203 + 1))), (1, .int (sI (orI a202 0))), (0, .ref (ad 98))] dX12_buyersNow_33 rfl (by decide) rfl ?_
          refine j_goto C 4 dX12_buyersNow_36 (by decide) ?_
          refine j_lv [2, 1, 0] rfl ?_; exact ih200 (orI a202 0) (a203 + 1) M209 (by exact ⟨lb214, ⟨ub214, ⟨(by (clear ob214 h213 fM209 hM209 fM204 hM204 ih200 hret C hp0 hcw hpr hM0; omega)), ⟨(by (clear ob214 h213 fM209 hM209 fM204 hM204 ih200 hret C hp0 hcw hpr hM0; omega)), ⟨h211.2.2.2, (by (clear ob214 h213 fM209 hM209 fM204 hM204 ih200 hret C hp0 hcw hpr hM0; omega))⟩⟩⟩⟩⟩) hM209 ((FR.rf.tr fM204 (by decide)).tr fM209 (by decide))
        · refine y_iconst C dX12_buyersNow_24 ?_
          refine j_iload_n C 2 2 dX12_buyersNow_25 rfl rfl ?_
          refine e_shl1 C 5 32 dX12_buyersNow_26 rfl (by decide) (by exact ⟨h205.2.2.1, (by (clear h213 h211 fM209 hM209 fM204 hM204 ih200 hret C hp0 hcw hpr hM0; omega))⟩) (fun lb215 ub215 => ?_)
          refine j_goto C 31 dX12_buyersNow_27 (by decide) ?_
          refine e_iorN C 6 63 dX12_buyersNow_31 rfl (by decide) (by exact ⟨h205.1, ⟨h205.2.1, ⟨(by (clear h213 h211 fM209 hM209 h207 ua206 la206 ea206 fM204 hM204 ih200 hret C hp0 hcw hpr hM0; omega)), (by (clear h213 h211 fM209 hM209 h207 ua206 la206 ea206 fM204 hM204 ih200 hret C hp0 hcw hpr hM0; omega))⟩⟩⟩) (fun lb216 ub216 ob216 => ?_)
          refine j_istore_n C 1 [(1, .int (sI (orI a202 (pw2 a203)))), (0, .ref (ad 98)), (2, .int (sI a203))] dX12_buyersNow_32 rfl (by decide) rfl ?_
          refine y_iinc C 2 [(2, .int (sI (a203 + 1))), (1, .int (sI (orI a202 (pw2 a203)))), (0, .ref (ad 98))] dX12_buyersNow_33 rfl (by decide) rfl ?_
          refine j_goto C 4 dX12_buyersNow_36 (by decide) ?_
          refine j_lv [2, 1, 0] rfl ?_; exact ih200 (orI a202 (pw2 a203)) (a203 + 1) M209 (by exact ⟨lb216, ⟨ub216, ⟨(by (clear ob216 ub215 lb215 h213 fM209 hM209 fM204 hM204 ih200 hret C hp0 hcw hpr hM0; omega)), ⟨(by (clear ob216 ub215 lb215 h213 fM209 hM209 fM204 hM204 ih200 hret C hp0 hcw hpr hM0; omega)), ⟨h211.2.2.2, (by (clear ob216 ub215 lb215 h213 fM209 hM209 fM204 hM204 ih200 hret C hp0 hcw hpr hM0; omega))⟩⟩⟩⟩⟩) hM209 ((FR.rf.tr fM204 (by decide)).tr fM209 (by decide))
  refine j_lv [2, 1, 0] rfl ?_; exact L201 2010 0 0 M0 (by exact ⟨(by decide), ⟨(by decide), ⟨(by decide), ⟨(by decide), ⟨hp0, (by decide)⟩⟩⟩⟩⟩) hM0 FR.rf
set_option maxHeartbeats 4000000 in
theorem s1_X12_staysOpen {l : Launch} {dC : Nat → ClassId} {dI : Nat → Nat → Nat} {ad : Nat → Nat} {cA : Nat → ClassId} {pr : Nat → Nat → Bool} {Kz : mm_M} {M0 : mm_M} (hM0 : INV pr Kz M0) (hpr : PM pr) (hcw : CWK pr Kz) (a1 : Int) (ha1 : -2147483648 ≤ a1 ∧ a1 ≤ 2147483647) (a2 : Int) (ha2 : -2147483648 ≤ a2 ∧ a2 ≤ 2147483647) (hp0 : 0 ≤ a1 ∧ a1 ≤ 255) (hp1 : b01 (PI M0) = 1) : Ci l 6 yX12_staysOpen wsX12_staysOpen dC dI ad cA [.ref (ad 98), .int (sI a1), .int (sI a2)] M0 (fun r M' => ∃ a : Int, r = sI a ∧ INV pr Kz M' ∧ FR [99, 103, 104, 106, 107] M0 M' ∧ 0 ≤ a ∧ a ≤ 1 ∧ (b01 (M'.1 99 = (M0.1 99)) = 1) ∧ (b01 (PI M') = 1)) := by
  refine ci_of (cc := cX12_staysOpen) (maxL := 5) (ty := .boolean) (lv := [(0, .ref (ad 98)), (1, .int (sI a1)), (2, .int (sI a2))]) (by decide) rfl (fun r M' hp => by obtain ⟨a, rfl, -, h⟩ := hp; rcases (show a = 0 ∨ a = 1 by (clear hp1 hp0 ha2 ha1 hcw hpr hM0; omega)) with rfl | rfl <;> rfl) (Nat.le_of_ble_eq_true rfl) rfl ?_
  intro p e s m args below meth c A Q C hret
  refine j_aload_n C 0 0 dX12_staysOpen_0 rfl rfl ?_
  refine y_getC C 11 99 fX12_staysOpen_13 rfl rfl ft_11_1 sm_11_1 rfl hM0 dX12_staysOpen_1 ?_
  refine y_bipush C dX12_staysOpen_4 rfl ?_
  refine y_ialdH C 45 3543 rfl rfl rfl ak_45 an_45 rfl _ _ hM0 (hr_45_28_28 _ (by exact (by decide)) (by exact (by decide))) dX12_staysOpen_6 (by exact ⟨(by decide), (by decide)⟩) (fun a101 ea101 la101 ua101 => ?_)
  obtain rfl : a101 = (M0.1 99 28).toInt := ea101
  refine j_istore_n C 3 [(3, .int (sI (M0.1 99 28).toInt)), (0, .ref (ad 98)), (1, .int (sI a1)), (2, .int (sI a2))] dX12_staysOpen_7 rfl (by decide) rfl ?_
  refine j_aload_n C 1 0 dX12_staysOpen_8 rfl rfl ?_
  refine y_getC C 11 99 fX12_staysOpen_13 rfl rfl ft_11_1 sm_11_1 rfl hM0 dX12_staysOpen_9 ?_
  refine y_bipush C dX12_staysOpen_12 rfl ?_
  refine j_iload_n C 0 3 dX12_staysOpen_14 rfl rfl ?_
  refine j_iload_n C 2 1 dX12_staysOpen_15 rfl rfl ?_
  refine e_iorN C 8 255 dX12_staysOpen_16 rfl (by decide) (by exact ⟨la101, ⟨ua101, ⟨hp0.1, hp0.2⟩⟩⟩) (fun lb102 ub102 ob102 => ?_)
  refine y_iastH C 45 3543 rfl rfl rfl ak_45 an_45 rfl _ _ hM0 (PM.w hpr rfl (hm_28_28 _ (by exact (by decide)) (by exact (by decide)))) (hs_45_28_28 _ (by exact (by decide)) (by exact (by decide))) dX12_staysOpen_17 (by exact ⟨(by decide), (by decide)⟩) (by exact ⟨⟨(by omega), (by omega)⟩, ⟨lb102, ub102⟩⟩) (fun M103 eM103 hM103 => ?_)
  have pM103 := pi_n eM103 (hn_28_28 _ (by exact (by decide)) (by exact (by decide))) (by exact hp1)
  refine j_iload_n C 3 2 dX12_staysOpen_18 rfl rfl ?_
  refine j_aload_n C 1 0 dX12_staysOpen_19 rfl rfl ?_
  refine j_callVi C (d := 5) (As := []) (st := [.int (sI a2)]) 98 (s_lt rfl rfl) (s_kc (c := 11) rfl rfl) (by decide) rfl (s1_X12_buyersNow hM103 hpr hcw (by exact pM103)) gX12_staysOpen_X12_buyersNow rfl hdX12_buyersNow (by decide) (Nat.le_of_ble_eq_true rfl) dX12_staysOpen_20 rfl (fun r104 M105 h106 => ?_)
  obtain ⟨a108, rfl, hM105, fM105, h107⟩ := h106
  refine y_iconst C dX12_staysOpen_23 ?_
  refine y_not C dX12_staysOpen_24 ?_
  refine e_iand C dX12_staysOpen_25 (fun lb109 ub109 => ?_)
  have J122 : ∀ (a120 : Int) (M121 : mm_M), (0 ≤ a120 ∧ a120 ≤ 1 ∧ (b01 (SMJ 28 (M0.1 99) (M121.1 99)) = 1) ∧ (b01 (PI M121) = 1)) → INV pr Kz M121 → FR [99, 103, 104, 106, 107] M0 M121 → jj p l e (cn_R 6) s m args below meth c 0 0 Q 5 dC dI ad cA A M121 42 [(0, .ref (ad 98)), (3, .int (sI (M0.1 99 28).toInt))] [.int (sI a120)] := by
    intro a120 M121 h123 hM121 fM121
    refine j_istore C 4 [(4, .int (sI a120)), (0, .ref (ad 98)), (3, .int (sI (M0.1 99 28).toInt))] dX12_staysOpen_42 (by decide) rfl ?_
    refine j_aload_n C 1 0 dX12_staysOpen_44 rfl rfl ?_
    refine y_getC C 11 99 fX12_staysOpen_13 rfl rfl ft_11_1 sm_11_1 rfl hM121 dX12_staysOpen_45 ?_
    refine y_bipush C dX12_staysOpen_48 rfl ?_
    refine j_iload_n C 2 3 dX12_staysOpen_50 rfl rfl ?_
    refine y_iastH C 45 3543 rfl rfl rfl ak_45 an_45 rfl _ _ hM121 (PM.w hpr rfl (hm_28_28 _ (by exact (by decide)) (by exact (by decide)))) (hs_45_28_28 _ (by exact (by decide)) (by exact (by decide))) dX12_staysOpen_51 (by exact ⟨(by decide), (by decide)⟩) (by exact ⟨⟨(by (clear fM121 hM121 h123 ub109 lb109 h107 fM105 hM105 pM103 hM103 eM103 ob102 ub102 lb102 hret C hp1 hp0 ha2 ha1 hcw hpr hM0; omega)), (by (clear fM121 hM121 h123 ub109 lb109 h107 fM105 hM105 pM103 hM103 eM103 ob102 ub102 lb102 hret C hp1 hp0 ha2 ha1 hcw hpr hM0; omega))⟩, ⟨la101, ua101⟩⟩) (fun M128 eM128 hM128 => ?_)
    have pM128 := pi_n eM128 (hn_28_28 _ (by exact (by decide)) (by exact (by decide))) (by exact h123.2.2.2)
    refine j_iload C 0 dX12_staysOpen_52 rfl ?_
    have u129e := smj_e (M := M121) (N := M128) (k := 28) (f := M0.1 99) eM128 (h := show b01 (SMJ 28 (M0.1 99) (M121.1 99)) = 1 by exact h123.2.2.1) (by omega)
    exact hret _ _ _ _ dX12_staysOpen_54 ⟨a120, rfl, hM128, ((FR.rf.tr fM121 (by decide)).wI eM128 (by decide)), by exact ⟨h123.1, ⟨h123.2.1, ⟨u129e, pM128⟩⟩⟩⟩
  refine y_if_ne C 41 dX12_staysOpen_26 (by decide) (by exact ⟨lb109, ub109⟩) (fun h110 => ?_) (fun h110 => ?_)
  · refine y_iconst C dX12_staysOpen_41 ?_
    have u1110 := smj_0 (M := M0) 28 (f := M0.1 99) rfl
    have u111s0 : b01 (SMJ 28 (M0.1 99) (M103.1 99)) = 1 := smj_w (M := M0) (N := M103) eM103 u1110
    have u111s1 : b01 (SMJ 28 (M0.1 99) (M105.1 99)) = 1 := smj_c (M := M103) (N := M105) u111s0 ((FR.cell fM105 (by decide)))
    refine j_lv [1, 0] rfl ?_; exact J122 0 M105 (by exact ⟨(by decide), ⟨(by decide), ⟨u111s1, h107.2.2⟩⟩⟩) hM105 ((FR.rf.wI eM103 (by decide)).tr fM105 (by decide))
  · refine j_aload_n C 1 0 dX12_staysOpen_29 rfl rfl ?_
    refine j_callVi C (d := 5) (As := []) (st := []) 98 (s_lt rfl rfl) (s_kc (c := 11) rfl rfl) (by decide) rfl (s1_X12_endingNow hM105 hpr hcw (by exact h107.2.2)) gX12_staysOpen_X12_endingNow rfl hdX12_endingNow (by decide) (Nat.le_of_ble_eq_true rfl) dX12_staysOpen_30 rfl (fun r112 M113 h114 => ?_)
    obtain ⟨a116, rfl, hM113, fM113, h115⟩ := h114
    refine y_iconst C dX12_staysOpen_33 ?_
    refine y_icmp_ne C 41 dX12_staysOpen_34 (by decide) (by exact ⟨⟨(by (clear fM113 hM113 h110 J122 ub109 lb109 h107 fM105 hM105 pM103 hM103 eM103 ob102 ub102 lb102 ua101 la101 hret C hp1 hp0 ha2 ha1 hcw hpr hM0; omega)), (by (clear fM113 hM113 h110 J122 ub109 lb109 h107 fM105 hM105 pM103 hM103 eM103 ob102 ub102 lb102 ua101 la101 hret C hp1 hp0 ha2 ha1 hcw hpr hM0; omega))⟩, ⟨(by decide), (by decide)⟩⟩) (fun h117 => ?_) (fun h117 => ?_)
    · refine y_iconst C dX12_staysOpen_41 ?_
      have u1180 := smj_0 (M := M0) 28 (f := M0.1 99) rfl
      have u118s0 : b01 (SMJ 28 (M0.1 99) (M103.1 99)) = 1 := smj_w (M := M0) (N := M103) eM103 u1180
      have u118s1 : b01 (SMJ 28 (M0.1 99) (M105.1 99)) = 1 := smj_c (M := M103) (N := M105) u118s0 ((FR.cell fM105 (by decide)))
      have u118s2 : b01 (SMJ 28 (M0.1 99) (M113.1 99)) = 1 := smj_c (M := M105) (N := M113) u118s1 ((FR.cell fM113 (by decide)))
      refine j_lv [1, 0] rfl ?_; exact J122 0 M113 (by exact ⟨(by decide), ⟨(by decide), ⟨u118s2, h115.2.2.2.2.2.2.2.2⟩⟩⟩) hM113 (((FR.rf.wI eM103 (by decide)).tr fM105 (by decide)).tr fM113 (by decide))
    · refine y_iconst C dX12_staysOpen_37 ?_
      refine j_goto C 42 dX12_staysOpen_38 (by decide) ?_
      have u1190 := smj_0 (M := M0) 28 (f := M0.1 99) rfl
      have u119s0 : b01 (SMJ 28 (M0.1 99) (M103.1 99)) = 1 := smj_w (M := M0) (N := M103) eM103 u1190
      have u119s1 : b01 (SMJ 28 (M0.1 99) (M105.1 99)) = 1 := smj_c (M := M103) (N := M105) u119s0 ((FR.cell fM105 (by decide)))
      have u119s2 : b01 (SMJ 28 (M0.1 99) (M113.1 99)) = 1 := smj_c (M := M105) (N := M113) u119s1 ((FR.cell fM113 (by decide)))
      refine j_lv [1, 0] rfl ?_; exact J122 1 M113 (by exact ⟨(by decide), ⟨(by decide), ⟨u119s2, h115.2.2.2.2.2.2.2.2⟩⟩⟩) hM113 (((FR.rf.wI eM103 (by decide)).tr fM105 (by decide)).tr fM113 (by decide))
set_option maxHeartbeats 4000000 in
theorem s1_X12_rota {l : Launch} {dC : Nat → ClassId} {dI : Nat → Nat → Nat} {ad : Nat → Nat} {cA : Nat → ClassId} {pr : Nat → Nat → Bool} {Kz : mm_M} {M0 : mm_M} (hM0 : INV pr Kz M0) (hpr : PM pr) (hcw : CWK pr Kz) (a1 : Int) (ha1 : -2147483648 ≤ a1 ∧ a1 ≤ 2147483647) (hp0 : b01 (PI M0) = 1) : Ci l 7 yX12_rota wsX12_rota dC dI ad cA [.ref (ad 98), .int (sI a1)] M0 (fun r M' => ∃ a : Int, r = sI a ∧ INV pr Kz M' ∧ FR [98, 99, 103, 104, 106, 107] M0 M' ∧ (-5) ≤ a ∧ a ≤ 255 ∧ (b01 (M'.1 99 = (M0.1 99)) = 1) ∧ (b01 (PI M') = 1)) := by
  refine ci_of (cc := cX12_rota) (maxL := 5) (ty := .int) (lv := [(0, .ref (ad 98)), (1, .int (sI a1))]) (by decide) rfl (fun r M' hp => rfl) (Nat.le_of_ble_eq_true rfl) rfl ?_
  intro p e s m args below meth c A Q C hret
  refine j_aload_n C 0 0 dX12_rota_0 rfl rfl ?_
  refine y_iconst C dX12_rota_1 ?_
  refine y_putIF C 11 qX12_rota_1 rfl rfl ft_11_0 sb_11_0 hM0 (PM.w hpr rfl rfl) dX12_rota_2 (fun M101 eM101 hM101 => ?_)
  have pM101 := pi_o eM101 (by decide) (by decide) (by exact hp0)
  refine j_iload_n C 1 1 dX12_rota_5 rfl rfl ?_
  refine j_callSi C (d := 1) (As := [.int (sI a1)]) (st := []) (s1_X12_isPart hM101 a1 (by exact ⟨ha1.1, ha1.2⟩)) gX12_rota_X12_isPart rfl hdX12_isParts (by decide) (Nat.le_of_ble_eq_true rfl) dX12_rota_6 rfl (fun r102 M103 h104 => ?_)
  obtain ⟨a106, rfl, rfl, h105⟩ := h104
  refine y_if_ne C 15 dX12_rota_9 (by decide) (by omega) (fun h107 => ?_) (fun h107 => ?_)
  · refine j_aload_n C 0 0 dX12_rota_15 rfl rfl ?_
    refine j_callVi C (d := 3) (As := []) (st := []) 98 (s_lt rfl rfl) (s_kc (c := 11) rfl rfl) (by decide) rfl (s1_X12_isShut hM101) gX12_rota_X12_isShut rfl hdX12_isShut (by decide) (Nat.le_of_ble_eq_true rfl) dX12_rota_16 rfl (fun r108 M109 h110 => ?_)
    obtain ⟨a112, rfl, rfl, h111⟩ := h110
    rw [show M101.1 99 = M0.1 99 from (wI_cell eM101 (by decide))] at h111
    obtain rfl : a112 = (shF (M0.1 99) ((M0.1 99 27).toInt)) := by exact h111.2.2
    refine y_if_eq C 25 dX12_rota_19 (by decide) (by omega) (fun h113 => ?_) (fun h113 => ?_)
    · refine j_aload_n C 0 0 dX12_rota_25 rfl rfl ?_
      refine j_callVi C (d := 5) (As := []) (st := []) 98 (s_lt rfl rfl) (s_kc (c := 11) rfl rfl) (by decide) rfl (s1_X12_buyersNow hM101 hpr hcw (by exact pM101)) gX12_rota_X12_buyersNow rfl hdX12_buyersNow (by decide) (Nat.le_of_ble_eq_true rfl) dX12_rota_26 rfl (fun r114 M115 h116 => ?_)
      obtain ⟨a118, rfl, hM115, fM115, h117⟩ := h116
      refine j_istore_n C 2 [(2, .int (sI a118)), (0, .ref (ad 98)), (1, .int (sI a1))] dX12_rota_29 rfl (by decide) rfl ?_
      refine y_iconst C dX12_rota_30 ?_
      refine j_istore_n C 3 [(3, .int (sI (-1))), (2, .int (sI a118)), (0, .ref (ad 98)), (1, .int (sI a1))] dX12_rota_31 rfl (by decide) rfl ?_
      refine y_iconst C dX12_rota_32 ?_
      refine j_istore C 4 [(4, .int (sI 0)), (3, .int (sI (-1))), (2, .int (sI a118)), (0, .ref (ad 98)), (1, .int (sI a1))] dX12_rota_33 (by decide) rfl ?_
      have u119r : b01 (M115.1 99 = M0.1 99) = 1 := b01_i (((FR.cell fM115 (by decide)).trans (wI_cell eM101 (by decide))))
      have L1370 : ∀ (n1368 : Nat), ∀ (a1371 : Int) (a1372 : Int) (M1373 : mm_M), ((-1) ≤ a1371 ∧ a1371 ≤ 255 ∧ 0 ≤ a1372 ∧ a1372 ≤ 256 ∧ (b01 (M1373.1 99 = M0.1 99) = 1) ∧ (b01 (PI M1373) = 1) ∧ (256 - a1372) < (n1368 : Int)) → INV pr Kz M1373 → FR [98, 99, 103, 104, 106, 107] M0 M1373 → jj p l e (cn_R 7) s m args below meth c 0 0 Q 5 dC dI ad cA A M1373 35 [(0, .ref (ad 98)), (1, .int (sI a1)), (2, .int (sI a118)), (3, .int (sI a1371)), (4, .int (sI a1372))] [] := by
        intro n1368
        induction n1368 with
        | zero =>
          intro a1371 a1372 M1373 h1374 hM1373 fM1373
          exfalso; omega
        | succ n1368 ih1369 =>
          intro a1371 a1372 M1373 h1374 hM1373 fM1373
          refine j_iload C 4 dX12_rota_35 rfl ?_
          refine j_aload_n C 0 0 dX12_rota_37 rfl rfl ?_
          refine j_callVi C (d := 1) (As := []) (st := [.int (sI a1372)]) 98 (s_lt rfl rfl) (s_kc (c := 11) rfl rfl) (by decide) rfl (s1_X12_shown hM1373) gX12_rota_X12_shown rfl hdX12_shown (by decide) (Nat.le_of_ble_eq_true rfl) dX12_rota_38 rfl (fun r1376 M1377 h1378 => ?_)
          obtain ⟨a1380, rfl, rfl, h1379⟩ := h1378
          obtain rfl : a1380 = (snF (M1373.1 99)) := by exact h1379.2.2
          refine y_icmp_gt C 92 dX12_rota_41 (by decide) (by (clear fM1373 hM1373 ih1369 u119r h117 fM115 hM115 h113 h111 h107 h105 pM101 hM101 eM101 hret C hp0 ha1 hcw hpr hM0; omega)) (fun h1381 => ?_) (fun h1381 => ?_)
          · refine j_iload_n C 3 3 dX12_rota_92 rfl rfl ?_
            refine y_iconst C dX12_rota_93 ?_
            refine y_icmp_eq C 102 dX12_rota_94 (by decide) (by exact ⟨⟨(by (clear h1381 h1379 fM1373 hM1373 ih1369 u119r h117 fM115 hM115 h113 h111 h107 h105 pM101 hM101 eM101 hret C hp0 ha1 hcw hpr hM0; omega)), (by (clear h1381 h1379 fM1373 hM1373 ih1369 u119r h117 fM115 hM115 h113 h111 h107 h105 pM101 hM101 eM101 hret C hp0 ha1 hcw hpr hM0; omega))⟩, ⟨(by decide), (by decide)⟩⟩) (fun h1419 => ?_) (fun h1419 => ?_)
            · refine j_iload_n C 3 3 dX12_rota_102 rfl rfl ?_
              refine j_goto C 110 dX12_rota_103 (by decide) ?_
              exact hret _ _ _ _ dX12_rota_110 ⟨a1371, rfl, hM1373, (FR.rf.tr fM1373 (by decide)), by exact ⟨(by (clear h1381 h1379 fM1373 hM1373 ih1369 u119r h117 fM115 hM115 h113 h111 h107 h105 pM101 hM101 eM101 hret C hp0 ha1 hcw hpr hM0; omega)), ⟨h1374.2.1, ⟨h1374.2.2.2.2.1, h1374.2.2.2.2.2.1⟩⟩⟩⟩
            · refine j_iload_n C 1 1 dX12_rota_97 rfl rfl ?_
              refine y_iconst C dX12_rota_98 ?_
              refine y_icmp_ne C 106 dX12_rota_99 (by decide) (by exact ⟨⟨ha1.1, ha1.2⟩, ⟨(by decide), (by decide)⟩⟩) (fun h1421 => ?_) (fun h1421 => ?_)
              · refine j_iload_n C 3 3 dX12_rota_106 rfl rfl ?_
                refine j_callSi C (d := 0) (As := [.int (sI a1371)]) (st := []) (s1_X12_bitsOf hM1373 a1371 (by omega)) gX12_rota_X12_bitsOf rfl hdX12_bitsOfs (by decide) (Nat.le_of_ble_eq_true rfl) dX12_rota_107 rfl (fun r1422 M1423 h1424 => ?_)
                obtain ⟨a1426, rfl, rfl, h1425⟩ := h1424
                obtain rfl : a1426 = (bsF a1371 (8 : Int).toNat) := by exact h1425.2.2
                exact hret _ _ _ _ dX12_rota_110 ⟨(bsF a1371 (8 : Int).toNat), rfl, hM1373, (FR.rf.tr fM1373 (by decide)), by exact ⟨(by (clear h1421 h1419 h1381 h1379 fM1373 hM1373 ih1369 u119r h117 fM115 hM115 h113 h111 h107 h105 pM101 hM101 eM101 hret C hp0 ha1 hcw hpr hM0; omega)), ⟨(by (clear h1421 h1419 h1381 h1379 fM1373 hM1373 ih1369 u119r h117 fM115 hM115 h113 h111 h107 h105 pM101 hM101 eM101 hret C hp0 ha1 hcw hpr hM0; omega)), ⟨h1374.2.2.2.2.1, h1374.2.2.2.2.2.1⟩⟩⟩⟩
              · refine j_iload_n C 3 3 dX12_rota_102 rfl rfl ?_
                refine j_goto C 110 dX12_rota_103 (by decide) ?_
                exact hret _ _ _ _ dX12_rota_110 ⟨a1371, rfl, hM1373, (FR.rf.tr fM1373 (by decide)), by exact ⟨(by (clear h1421 h1419 h1381 h1379 fM1373 hM1373 ih1369 u119r h117 fM115 hM115 h113 h111 h107 h105 pM101 hM101 eM101 hret C hp0 ha1 hcw hpr hM0; omega)), ⟨h1374.2.1, ⟨h1374.2.2.2.2.1, h1374.2.2.2.2.2.1⟩⟩⟩⟩
          · refine j_iload C 4 dX12_rota_44 rfl ?_
            refine j_aload_n C 0 0 dX12_rota_46 rfl rfl ?_
            refine j_callVi C (d := 1) (As := []) (st := [.int (sI a1372)]) 98 (s_lt rfl rfl) (s_kc (c := 11) rfl rfl) (by decide) rfl (s1_X12_shown hM1373) gX12_rota_X12_shown rfl hdX12_shown (by decide) (Nat.le_of_ble_eq_true rfl) dX12_rota_47 rfl (fun r1382 M1383 h1384 => ?_)
            obtain ⟨a1386, rfl, rfl, h1385⟩ := h1384
            obtain rfl : a1386 = (snF (M1373.1 99)) := by exact h1385.2.2
            refine y_iconst C dX12_rota_50 ?_
            refine y_not C dX12_rota_51 ?_
            refine e_iandL C dX12_rota_52 (by exact ⟨h1374.2.2.1, (by omega)⟩) (fun lb1387 ub1387 => ?_)
            refine y_if_ne C 86 dX12_rota_53 (by decide) (by (clear h1385 fM1373 hM1373 h1374 ih1369 u119r h117 fM115 hM115 h113 h111 h107 h105 pM101 hM101 eM101 hret C hp0 ha1 hcw hpr hM0; omega)) (fun h1388 => ?_) (fun h1388 => ?_)
            · refine y_iinc C 4 [(4, .int (sI (a1372 + 1))), (0, .ref (ad 98)), (1, .int (sI a1)), (2, .int (sI a118)), (3, .int (sI a1371))] dX12_rota_86 rfl (by decide) rfl ?_
              refine j_goto C 35 dX12_rota_89 (by decide) ?_
              refine j_lv [1, 2, 3, 4, 0] rfl ?_; exact ih1369 a1371 (a1372 + 1) M1373 (by exact ⟨h1374.1, ⟨h1374.2.1, ⟨(by (clear h1388 ub1387 lb1387 h1385 fM1373 hM1373 ih1369 u119r h117 fM115 hM115 h113 h111 h107 h105 pM101 hM101 eM101 hret C hp0 ha1 hcw hpr hM0; omega)), ⟨(by (clear h1388 ub1387 lb1387 h1385 fM1373 hM1373 ih1369 u119r h117 fM115 hM115 h113 h111 h107 h105 pM101 hM101 eM101 hret C hp0 ha1 hcw hpr hM0; omega)), ⟨h1374.2.2.2.2.1, ⟨h1374.2.2.2.2.2.1, (by (clear h1388 ub1387 lb1387 h1385 fM1373 hM1373 ih1369 u119r h117 fM115 hM115 h113 h111 h107 h105 pM101 hM101 eM101 hret C hp0 ha1 hcw hpr hM0; omega))⟩⟩⟩⟩⟩⟩) hM1373 (FR.rf.tr fM1373 (by decide))
            · refine j_iload_n C 3 3 dX12_rota_56 rfl rfl ?_
              refine y_iconst C dX12_rota_57 ?_
              refine y_icmp_eq C 73 dX12_rota_58 (by decide) (by exact ⟨⟨(by omega), (by omega)⟩, ⟨(by decide), (by decide)⟩⟩) (fun h1390 => ?_) (fun h1390 => ?_)
              · refine j_aload_n C 0 0 dX12_rota_73 rfl rfl ?_
                refine j_iload C 4 dX12_rota_74 rfl ?_
                refine j_iload_n C 2 2 dX12_rota_76 rfl rfl ?_
                refine j_callVi C (d := 6) (As := [.int (sI a1372), .int (sI a118)]) (st := []) 98 (s_lt rfl rfl) (s_kc (c := 11) rfl rfl) (by decide) rfl (s1_X12_staysOpen hM1373 hpr hcw a1372 (by omega) a118 (by omega) (by exact ⟨h1374.2.2.1, (by (clear h1390 h1388 ub1387 lb1387 h1385 fM1373 hM1373 ih1369 u119r h117 fM115 hM115 h113 h111 h107 h105 pM101 hM101 eM101 hret C hp0 ha1 hcw hpr hM0; omega))⟩) (by exact h1374.2.2.2.2.2.1)) gX12_rota_X12_staysOpen rfl hdX12_staysOpen (by decide) (Nat.le_of_ble_eq_true rfl) dX12_rota_77 rfl (fun r1391 M1392 h1393 => ?_)
                obtain ⟨a1395, rfl, hM1392, fM1392, h1394⟩ := h1393
                refine y_if_eq C 86 dX12_rota_80 (by decide) (by (clear fM1392 hM1392 h1390 h1388 ub1387 lb1387 h1385 h1381 h1379 fM1373 hM1373 h1374 ih1369 u119r h117 fM115 hM115 h113 h111 h107 h105 pM101 hM101 eM101 hret C hp0 ha1 hcw hpr hM0; omega)) (fun h1396 => ?_) (fun h1396 => ?_)
                · refine y_iinc C 4 [(4, .int (sI (a1372 + 1))), (0, .ref (ad 98)), (1, .int (sI a1)), (2, .int (sI a118)), (3, .int (sI a1371))] dX12_rota_86 rfl (by decide) rfl ?_
                  refine j_goto C 35 dX12_rota_89 (by decide) ?_
                  have u1397p : b01 (M1392.1 99 = M0.1 99) = 1 := b01_i ((b01_e (P := M1392.1 99 = M1373.1 99) (by exact h1394.2.2.1)).trans (b01_e (by exact h1374.2.2.2.2.1)))
                  refine j_lv [1, 2, 3, 4, 0] rfl ?_; exact ih1369 a1371 (a1372 + 1) M1392 (by exact ⟨h1374.1, ⟨h1374.2.1, ⟨(by (clear h1396 fM1392 hM1392 h1388 ub1387 lb1387 h1385 fM1373 hM1373 ih1369 u119r h117 fM115 hM115 h113 h111 h107 h105 pM101 hM101 eM101 hret C hp0 ha1 hcw hpr hM0; omega)), ⟨(by (clear h1396 fM1392 hM1392 h1388 ub1387 lb1387 h1385 fM1373 hM1373 ih1369 u119r h117 fM115 hM115 h113 h111 h107 h105 pM101 hM101 eM101 hret C hp0 ha1 hcw hpr hM0; omega)), ⟨u1397p, ⟨h1394.2.2.2, (by (clear h1396 fM1392 hM1392 h1388 ub1387 lb1387 h1385 fM1373 hM1373 ih1369 u119r h117 fM115 hM115 h113 h111 h107 h105 pM101 hM101 eM101 hret C hp0 ha1 hcw hpr hM0; omega))⟩⟩⟩⟩⟩⟩) hM1392 ((FR.rf.tr fM1373 (by decide)).tr fM1392 (by decide))
                · refine j_iload C 4 dX12_rota_83 rfl ?_
                  refine j_istore_n C 3 [(3, .int (sI a1372)), (0, .ref (ad 98)), (1, .int (sI a1)), (2, .int (sI a118)), (4, .int (sI a1372))] dX12_rota_85 rfl (by decide) rfl ?_
                  refine y_iinc C 4 [(4, .int (sI (a1372 + 1))), (3, .int (sI a1372)), (0, .ref (ad 98)), (1, .int (sI a1)), (2, .int (sI a118))] dX12_rota_86 rfl (by decide) rfl ?_
                  refine j_goto C 35 dX12_rota_89 (by decide) ?_
                  have u1398p : b01 (M1392.1 99 = M0.1 99) = 1 := b01_i ((b01_e (P := M1392.1 99 = M1373.1 99) (by exact h1394.2.2.1)).trans (b01_e (by exact h1374.2.2.2.2.1)))
                  refine j_lv [2, 3, 4, 1, 0] rfl ?_; exact ih1369 a1372 (a1372 + 1) M1392 (by exact ⟨(by (clear h1396 fM1392 hM1392 h1390 h1388 ub1387 lb1387 h1385 fM1373 hM1373 ih1369 u119r h117 fM115 hM115 h113 h111 h107 h105 pM101 hM101 eM101 hret C hp0 ha1 hcw hpr hM0; omega)), ⟨(by (clear h1396 fM1392 hM1392 h1390 h1388 ub1387 lb1387 h1385 fM1373 hM1373 ih1369 u119r h117 fM115 hM115 h113 h111 h107 h105 pM101 hM101 eM101 hret C hp0 ha1 hcw hpr hM0; omega)), ⟨(by (clear h1396 fM1392 hM1392 h1390 h1388 ub1387 lb1387 h1385 fM1373 hM1373 ih1369 u119r h117 fM115 hM115 h113 h111 h107 h105 pM101 hM101 eM101 hret C hp0 ha1 hcw hpr hM0; omega)), ⟨(by (clear h1396 fM1392 hM1392 h1390 h1388 ub1387 lb1387 h1385 fM1373 hM1373 ih1369 u119r h117 fM115 hM115 h113 h111 h107 h105 pM101 hM101 eM101 hret C hp0 ha1 hcw hpr hM0; omega)), ⟨u1398p, ⟨h1394.2.2.2, (by (clear h1396 fM1392 hM1392 h1390 h1388 ub1387 lb1387 h1385 fM1373 hM1373 ih1369 u119r h117 fM115 hM115 h113 h111 h107 h105 pM101 hM101 eM101 hret C hp0 ha1 hcw hpr hM0; omega))⟩⟩⟩⟩⟩⟩) hM1392 ((FR.rf.tr fM1373 (by decide)).tr fM1392 (by decide))
              · refine j_iload C 4 dX12_rota_61 rfl ?_
                refine j_callSi C (d := 0) (As := [.int (sI a1372)]) (st := []) (s1_X12_bitsOf hM1373 a1372 (by omega)) gX12_rota_X12_bitsOf rfl hdX12_bitsOfs (by decide) (Nat.le_of_ble_eq_true rfl) dX12_rota_63 rfl (fun r1399 M1400 h1401 => ?_)
                obtain ⟨a1403, rfl, rfl, h1402⟩ := h1401
                obtain rfl : a1403 = (bsF a1372 (8 : Int).toNat) := by exact h1402.2.2
                refine j_iload_n C 3 3 dX12_rota_66 rfl rfl ?_
                refine j_callSi C (d := 0) (As := [.int (sI a1371)]) (st := [.int (sI (bsF a1372 (8 : Int).toNat))]) (s1_X12_bitsOf hM1373 a1371 (by omega)) gX12_rota_X12_bitsOf rfl hdX12_bitsOfs (by decide) (Nat.le_of_ble_eq_true rfl) dX12_rota_67 rfl (fun r1404 M1405 h1406 => ?_)
                obtain ⟨a1408, rfl, rfl, h1407⟩ := h1406
                obtain rfl : a1408 = (bsF a1371 (8 : Int).toNat) := by exact h1407.2.2
                refine y_icmp_ge C 86 dX12_rota_70 (by decide) (by (clear h1390 h1388 ub1387 lb1387 h1385 h1381 h1379 fM1373 hM1373 h1374 ih1369 u119r h117 fM115 hM115 h113 h111 h107 h105 pM101 hM101 eM101 hret C hp0 ha1 hcw hpr hM0; omega)) (fun h1409 => ?_) (fun h1409 => ?_)
                · refine y_iinc C 4 [(4, .int (sI (a1372 + 1))), (0, .ref (ad 98)), (1, .int (sI a1)), (2, .int (sI a118)), (3, .int (sI a1371))] dX12_rota_86 rfl (by decide) rfl ?_
                  refine j_goto C 35 dX12_rota_89 (by decide) ?_
                  refine j_lv [1, 2, 3, 4, 0] rfl ?_; exact ih1369 a1371 (a1372 + 1) M1373 (by exact ⟨h1374.1, ⟨h1374.2.1, ⟨(by (clear h1409 h1407 h1402 h1390 h1388 ub1387 lb1387 h1385 fM1373 hM1373 ih1369 u119r h117 fM115 hM115 h113 h111 h107 h105 pM101 hM101 eM101 hret C hp0 ha1 hcw hpr hM0; omega)), ⟨(by (clear h1409 h1407 h1402 h1390 h1388 ub1387 lb1387 h1385 fM1373 hM1373 ih1369 u119r h117 fM115 hM115 h113 h111 h107 h105 pM101 hM101 eM101 hret C hp0 ha1 hcw hpr hM0; omega)), ⟨h1374.2.2.2.2.1, ⟨h1374.2.2.2.2.2.1, (by (clear h1409 h1407 h1402 h1390 h1388 ub1387 lb1387 h1385 fM1373 hM1373 ih1369 u119r h117 fM115 hM115 h113 h111 h107 h105 pM101 hM101 eM101 hret C hp0 ha1 hcw hpr hM0; omega))⟩⟩⟩⟩⟩⟩) hM1373 (FR.rf.tr fM1373 (by decide))
                · refine j_aload_n C 0 0 dX12_rota_73 rfl rfl ?_
                  refine j_iload C 4 dX12_rota_74 rfl ?_
                  refine j_iload_n C 2 2 dX12_rota_76 rfl rfl ?_
                  refine j_callVi C (d := 6) (As := [.int (sI a1372), .int (sI a118)]) (st := []) 98 (s_lt rfl rfl) (s_kc (c := 11) rfl rfl) (by decide) rfl (s1_X12_staysOpen hM1373 hpr hcw a1372 (by omega) a118 (by omega) (by exact ⟨h1374.2.2.1, (by omega)⟩) (by exact h1374.2.2.2.2.2.1)) gX12_rota_X12_staysOpen rfl hdX12_staysOpen (by decide) (Nat.le_of_ble_eq_true rfl) dX12_rota_77 rfl (fun r1411 M1412 h1413 => ?_)
                  obtain ⟨a1415, rfl, hM1412, fM1412, h1414⟩ := h1413
                  refine y_if_eq C 86 dX12_rota_80 (by decide) (by omega) (fun h1416 => ?_) (fun h1416 => ?_)
                  · refine y_iinc C 4 [(4, .int (sI (a1372 + 1))), (0, .ref (ad 98)), (1, .int (sI a1)), (2, .int (sI a118)), (3, .int (sI a1371))] dX12_rota_86 rfl (by decide) rfl ?_
                    refine j_goto C 35 dX12_rota_89 (by decide) ?_
                    have u1417p : b01 (M1412.1 99 = M0.1 99) = 1 := b01_i ((b01_e (P := M1412.1 99 = M1373.1 99) (by exact h1414.2.2.1)).trans (b01_e (by exact h1374.2.2.2.2.1)))
                    refine j_lv [1, 2, 3, 4, 0] rfl ?_; exact ih1369 a1371 (a1372 + 1) M1412 (by exact ⟨h1374.1, ⟨h1374.2.1, ⟨(by (clear h1416 fM1412 hM1412 h1409 h1407 h1402 h1390 h1388 ub1387 lb1387 h1385 fM1373 hM1373 ih1369 u119r h117 fM115 hM115 h113 h111 h107 h105 pM101 hM101 eM101 hret C hp0 ha1 hcw hpr hM0; omega)), ⟨(by (clear h1416 fM1412 hM1412 h1409 h1407 h1402 h1390 h1388 ub1387 lb1387 h1385 fM1373 hM1373 ih1369 u119r h117 fM115 hM115 h113 h111 h107 h105 pM101 hM101 eM101 hret C hp0 ha1 hcw hpr hM0; omega)), ⟨u1417p, ⟨h1414.2.2.2, (by (clear h1416 fM1412 hM1412 h1409 h1407 h1402 h1390 h1388 ub1387 lb1387 h1385 fM1373 hM1373 ih1369 u119r h117 fM115 hM115 h113 h111 h107 h105 pM101 hM101 eM101 hret C hp0 ha1 hcw hpr hM0; omega))⟩⟩⟩⟩⟩⟩) hM1412 ((FR.rf.tr fM1373 (by decide)).tr fM1412 (by decide))
                  · refine j_iload C 4 dX12_rota_83 rfl ?_
                    refine j_istore_n C 3 [(3, .int (sI a1372)), (0, .ref (ad 98)), (1, .int (sI a1)), (2, .int (sI a118)), (4, .int (sI a1372))] dX12_rota_85 rfl (by decide) rfl ?_
                    refine y_iinc C 4 [(4, .int (sI (a1372 + 1))), (3, .int (sI a1372)), (0, .ref (ad 98)), (1, .int (sI a1)), (2, .int (sI a118))] dX12_rota_86 rfl (by decide) rfl ?_
                    refine j_goto C 35 dX12_rota_89 (by decide) ?_
                    have u1418p : b01 (M1412.1 99 = M0.1 99) = 1 := b01_i ((b01_e (P := M1412.1 99 = M1373.1 99) (by exact h1414.2.2.1)).trans (b01_e (by exact h1374.2.2.2.2.1)))
                    refine j_lv [2, 3, 4, 1, 0] rfl ?_; exact ih1369 a1372 (a1372 + 1) M1412 (by exact ⟨(by (clear h1416 fM1412 hM1412 h1409 h1407 h1402 h1390 h1388 ub1387 lb1387 h1385 fM1373 hM1373 ih1369 u119r h117 fM115 hM115 h113 h111 h107 h105 pM101 hM101 eM101 hret C hp0 ha1 hcw hpr hM0; omega)), ⟨(by (clear h1416 fM1412 hM1412 h1409 h1407 h1402 h1390 h1388 ub1387 lb1387 h1385 fM1373 hM1373 ih1369 u119r h117 fM115 hM115 h113 h111 h107 h105 pM101 hM101 eM101 hret C hp0 ha1 hcw hpr hM0; omega)), ⟨(by (clear h1416 fM1412 hM1412 h1409 h1407 h1402 h1390 h1388 ub1387 lb1387 h1385 fM1373 hM1373 ih1369 u119r h117 fM115 hM115 h113 h111 h107 h105 pM101 hM101 eM101 hret C hp0 ha1 hcw hpr hM0; omega)), ⟨(by (clear h1416 fM1412 hM1412 h1409 h1407 h1402 h1390 h1388 ub1387 lb1387 h1385 fM1373 hM1373 ih1369 u119r h117 fM115 hM115 h113 h111 h107 h105 pM101 hM101 eM101 hret C hp0 ha1 hcw hpr hM0; omega)), ⟨u1418p, ⟨h1414.2.2.2, (by (clear h1416 fM1412 hM1412 h1409 h1407 h1402 h1390 h1388 ub1387 lb1387 h1385 fM1373 hM1373 ih1369 u119r h117 fM115 hM115 h113 h111 h107 h105 pM101 hM101 eM101 hret C hp0 ha1 hcw hpr hM0; omega))⟩⟩⟩⟩⟩⟩) hM1412 ((FR.rf.tr fM1373 (by decide)).tr fM1412 (by decide))
      refine j_lv [3, 4, 2, 1, 0] rfl ?_; exact L1370 2010 (-1) 0 M115 (by exact ⟨(by decide), ⟨(by decide), ⟨(by decide), ⟨(by decide), ⟨u119r, ⟨h117.2.2, (by decide)⟩⟩⟩⟩⟩⟩) hM115 ((FR.rf.wI eM101 (by decide)).tr fM115 (by decide))
    · refine y_bipush C dX12_rota_22 rfl ?_
      have u1429r : b01 (M101.1 99 = M0.1 99) = 1 := b01_i ((wI_cell eM101 (by decide)))
      exact hret _ _ _ _ dX12_rota_24 ⟨(-5), rfl, hM101, (FR.rf.wI eM101 (by decide)), by exact ⟨(by decide), ⟨(by decide), ⟨u1429r, pM101⟩⟩⟩⟩
  · refine y_bipush C dX12_rota_12 rfl ?_
    have u1430r : b01 (M101.1 99 = M0.1 99) = 1 := b01_i ((wI_cell eM101 (by decide)))
    exact hret _ _ _ _ dX12_rota_14 ⟨(-2), rfl, hM101, (FR.rf.wI eM101 (by decide)), by exact ⟨(by decide), ⟨(by decide), ⟨u1430r, pM101⟩⟩⟩⟩
set_option maxHeartbeats 4000000 in
theorem s1_X12_earns {l : Launch} {dC : Nat → ClassId} {dI : Nat → Nat → Nat} {ad : Nat → Nat} {cA : Nat → ClassId} {pr : Nat → Nat → Bool} {Kz : mm_M} {M0 : mm_M} (hM0 : INV pr Kz M0) (hpr : PM pr) (hcw : CWK pr Kz) (a1 : Int) (ha1 : -2147483648 ≤ a1 ∧ a1 ≤ 2147483647) (a2 : Int) (ha2 : -2147483648 ≤ a2 ∧ a2 ≤ 2147483647) (hp0 : b01 (PI M0) = 1) : Cj l 86 yX12_earns wsX12_earns dC dI ad cA [.ref (ad 98), .int (sI a1), .int (sI a2)] M0 (fun r M' => ∃ a : Int, r = sJ a ∧ INV pr Kz M' ∧ FR [98, 103, 104, 106, 110, 111, 112] M0 M' ∧ (-9223372036854775808) ≤ a ∧ a ≤ 9223372036854775807 ∧ (b01 (PI M') = 1)) := by
  refine cj_of (cc := cX12_earns) (maxL := 3) (lv := [(0, .ref (ad 98)), (1, .int (sI a1)), (2, .int (sI a2))]) (by decide) rfl (Nat.le_of_ble_eq_true rfl) rfl ?_
  intro p e s m args below meth c A Q C hret
  refine j_aload_n C 0 0 dX12_earns_0 rfl rfl ?_
  refine y_iconst C dX12_earns_1 ?_
  refine y_putIF C 11 qX12_earns_1 rfl rfl ft_11_0 sb_11_0 hM0 (PM.w hpr rfl rfl) dX12_earns_2 (fun M101 eM101 hM101 => ?_)
  have pM101 := pi_o eM101 (by decide) (by decide) (by exact hp0)
  refine j_iload_n C 2 2 dX12_earns_5 rfl rfl ?_
  refine j_callSi C (d := 1) (As := [.int (sI a2)]) (st := []) (s1_X12_isPart hM101 a2 (by exact ⟨ha2.1, ha2.2⟩)) gX12_earns_X12_isPart rfl hdX12_isParts (by decide) (Nat.le_of_ble_eq_true rfl) dX12_earns_6 rfl (fun r102 M103 h104 => ?_)
  obtain ⟨a106, rfl, rfl, h105⟩ := h104
  refine y_if_ne C 16 dX12_earns_9 (by decide) (by omega) (fun h107 => ?_) (fun h107 => ?_)
  · refine j_iload_n C 1 1 dX12_earns_16 rfl rfl ?_
    refine y_i2l C dX12_earns_17 (by exact ⟨ha1.1, ha1.2⟩) ?_
    refine y_lconst C 0 dX12_earns_18 rfl ?_
    refine y_ldc2 C 8 dX12_earns_19 kX12_earns_429 rfl ?_
    refine j_callSi C (d := 0) (As := [.long (sJ a1), .long (sJ 0), .long (sJ 8)]) (st := []) (s1_X12_within hM101 a1 (by omega) 0 (by exact ⟨(by decide), (by decide)⟩) 8 (by exact ⟨(by decide), (by decide)⟩)) gX12_earns_X12_within rfl hdX12_withins (by decide) (Nat.le_of_ble_eq_true rfl) dX12_earns_22 rfl (fun r108 M109 h110 => ?_)
    obtain ⟨a112, rfl, rfl, h111⟩ := h110
    refine y_if_ne C 32 dX12_earns_25 (by decide) (by omega) (fun h113 => ?_) (fun h113 => ?_)
    · refine j_aload_n C 0 0 dX12_earns_32 rfl rfl ?_
      refine j_callVv C (d := 4) (As := []) (st := []) 98 (s_lt rfl rfl) (s_kc (c := 11) rfl rfl) (by decide) rfl (s1_X12_laysBuys hM101 hpr hcw (by exact pM101)) gX12_earns_X12_laysBuys rfl hdX12_laysBuys (by decide) (Nat.le_of_ble_eq_true rfl) dX12_earns_33 rfl (fun M115 h116 => ?_)
      obtain ⟨hM115, fM115, h117⟩ := h116
      refine j_aload_n C 0 0 dX12_earns_36 rfl rfl ?_
      refine j_iload_n C 1 1 dX12_earns_37 rfl rfl ?_
      refine j_callVv C (d := 4) (As := [.int (sI a1)]) (st := []) 98 (s_lt rfl rfl) (s_kc (c := 11) rfl rfl) (by decide) rfl (s1_X12_laysDays hM115 hpr a1 (by exact ⟨ha1.1, ha1.2⟩) (by exact h117.2.2)) gX12_earns_X12_laysDays rfl hdX12_laysDays (by decide) (Nat.le_of_ble_eq_true rfl) dX12_earns_38 rfl (fun M119 h120 => ?_)
      obtain ⟨hM119, fM119, h121⟩ := h120
      refine j_aload_n C 0 0 dX12_earns_41 rfl rfl ?_
      refine y_getJ C 11 fX12_earns_379 rfl rfl ft_11_26 dX12_earns_42 (fun a122 ea122 la122 ua122 => ?_)
      refine j_aload_n C 0 0 dX12_earns_45 rfl rfl ?_
      refine j_iload_n C 1 1 dX12_earns_46 rfl rfl ?_
      refine j_callVj C (d := 1) (As := [.int (sI a1)]) (st := [.long (sJ a122)]) 98 (s_lt rfl rfl) (s_kc (c := 11) rfl rfl) (by decide) rfl (s1_X12_wholeOf hM119 a1 (by exact ⟨ha1.1, ha1.2⟩) (by (clear ua122 la122 ea122 h121 fM119 hM119 h117 fM115 hM115 h107 h105 pM101 hM101 eM101 hret C hp0 ha2 hcw hpr hM0; omega))) gX12_earns_X12_wholeOf rfl hdX12_wholeOf (by decide) (Nat.le_of_ble_eq_true rfl) dX12_earns_47 rfl (fun r123 M124 h125 => ?_)
      obtain ⟨a127, rfl, rfl, h126⟩ := h125
      refine j_iload_n C 2 2 dX12_earns_50 rfl rfl ?_
      refine j_callSj C (d := 85) (As := [.long (sJ a122), .long (sJ a127), .int (sI a2)]) (st := []) (s1_X12_part hM119 a122 (by exact ⟨la122, ua122⟩) a127 (by (clear ua122 la122 ea122 h121 fM119 hM119 h117 fM115 hM115 h113 h111 h107 h105 pM101 hM101 eM101 hret C hp0 ha2 ha1 hcw hpr hM0; omega)) a2 (by exact ⟨ha2.1, ha2.2⟩) (by exact ⟨h126.1, h126.2⟩)) gX12_earns_X12_part rfl hdX12_parts (by decide) (Nat.le_of_ble_eq_true rfl) dX12_earns_51 rfl (fun r128 M129 h130 => ?_)
      obtain ⟨a132, rfl, rfl, h131⟩ := h130
      exact hret _ _ _ _ dX12_earns_54 ⟨a132, rfl, hM119, (((FR.rf.wI eM101 (by decide)).tr fM115 (by decide)).tr fM119 (by decide)), by exact ⟨h131.1, ⟨h131.2, h121⟩⟩⟩
    · refine y_ldc2 C (-3) dX12_earns_28 kX12_earns_359 rfl ?_
      exact hret _ _ _ _ dX12_earns_31 ⟨(-3), rfl, hM101, (FR.rf.wI eM101 (by decide)), by exact ⟨(by decide), ⟨(by decide), pM101⟩⟩⟩
  · refine y_ldc2 C (-2) dX12_earns_12 kX12_earns_393 rfl ?_
    exact hret _ _ _ _ dX12_earns_15 ⟨(-2), rfl, hM101, (FR.rf.wI eM101 (by decide)), by exact ⟨(by decide), ⟨(by decide), pM101⟩⟩⟩
set_option maxHeartbeats 4000000 in
theorem s1_X12_bestPrice {l : Launch} {dC : Nat → ClassId} {dI : Nat → Nat → Nat} {ad : Nat → Nat} {cA : Nat → ClassId} {pr : Nat → Nat → Bool} {Kz : mm_M} {M0 : mm_M} (hM0 : INV pr Kz M0) (hpr : PM pr) (hcw : CWK pr Kz) (a1 : Int) (ha1 : -2147483648 ≤ a1 ∧ a1 ≤ 2147483647) (a2 : Int) (ha2 : -2147483648 ≤ a2 ∧ a2 ≤ 2147483647) (hp0 : b01 (PI M0) = 1) : Ci l 5 yX12_bestPrice wsX12_bestPrice dC dI ad cA [.ref (ad 98), .int (sI a1), .int (sI a2)] M0 (fun r M' => ∃ a : Int, r = sI a ∧ INV pr Kz M' ∧ FR [98, 99, 103, 104, 106, 110, 111, 112] M0 M' ∧ (-5) ≤ a ∧ a ≤ 99 ∧ (b01 (M'.1 99 = (M0.1 99)) = 1) ∧ (b01 (PI M') = 1)) := by
  refine ci_of (cc := cX12_bestPrice) (maxL := 8) (ty := .int) (lv := [(0, .ref (ad 98)), (1, .int (sI a1)), (2, .int (sI a2))]) (by decide) rfl (fun r M' hp => rfl) (Nat.le_of_ble_eq_true rfl) rfl ?_
  intro p e s m args below meth c A Q C hret
  refine j_aload_n C 0 0 dX12_bestPrice_0 rfl rfl ?_
  refine y_iconst C dX12_bestPrice_1 ?_
  refine y_putIF C 11 qX12_bestPrice_1 rfl rfl ft_11_0 sb_11_0 hM0 (PM.w hpr rfl rfl) dX12_bestPrice_2 (fun M101 eM101 hM101 => ?_)
  have pM101 := pi_o eM101 (by decide) (by decide) (by exact hp0)
  refine j_aload_n C 0 0 dX12_bestPrice_5 rfl rfl ?_
  refine j_iload_n C 1 1 dX12_bestPrice_6 rfl rfl ?_
  refine y_i2l C dX12_bestPrice_7 (by exact ⟨ha1.1, ha1.2⟩) ?_
  refine j_callVi C (d := 1) (As := [.long (sJ a1)]) (st := []) 98 (s_lt rfl rfl) (s_kc (c := 11) rfl rfl) (by decide) rfl (s1_X12_isKind hM101 a1 (by omega)) gX12_bestPrice_X12_isKind rfl hdX12_isKind (by decide) (Nat.le_of_ble_eq_true rfl) dX12_bestPrice_8 rfl (fun r102 M103 h104 => ?_)
  obtain ⟨a106, rfl, rfl, h105⟩ := h104
  refine y_if_ne C 17 dX12_bestPrice_11 (by decide) (by omega) (fun h107 => ?_) (fun h107 => ?_)
  · refine j_iload_n C 2 2 dX12_bestPrice_17 rfl rfl ?_
    refine y_i2l C dX12_bestPrice_18 (by exact ⟨ha2.1, ha2.2⟩) ?_
    refine y_lconst C 1 dX12_bestPrice_19 rfl ?_
    refine y_ldc2 C 4 dX12_bestPrice_20 kX12_bestPrice_431 rfl ?_
    refine j_callSi C (d := 0) (As := [.long (sJ a2), .long (sJ 1), .long (sJ 4)]) (st := []) (s1_X12_within hM101 a2 (by omega) 1 (by exact ⟨(by decide), (by decide)⟩) 4 (by exact ⟨(by decide), (by decide)⟩)) gX12_bestPrice_X12_within rfl hdX12_withins (by decide) (Nat.le_of_ble_eq_true rfl) dX12_bestPrice_23 rfl (fun r108 M109 h110 => ?_)
    obtain ⟨a112, rfl, rfl, h111⟩ := h110
    refine y_if_ne C 32 dX12_bestPrice_26 (by decide) (by omega) (fun h113 => ?_) (fun h113 => ?_)
    · refine j_aload_n C 0 0 dX12_bestPrice_32 rfl rfl ?_
      refine j_callVi C (d := 3) (As := []) (st := []) 98 (s_lt rfl rfl) (s_kc (c := 11) rfl rfl) (by decide) rfl (s1_X12_isShut hM101) gX12_bestPrice_X12_isShut rfl hdX12_isShut (by decide) (Nat.le_of_ble_eq_true rfl) dX12_bestPrice_33 rfl (fun r114 M115 h116 => ?_)
      obtain ⟨a118, rfl, rfl, h117⟩ := h116
      rw [show M101.1 99 = M0.1 99 from (wI_cell eM101 (by decide))] at h117
      obtain rfl : a118 = (shF (M0.1 99) ((M0.1 99 27).toInt)) := by exact h117.2.2
      refine y_if_eq C 42 dX12_bestPrice_36 (by decide) (by omega) (fun h119 => ?_) (fun h119 => ?_)
      · refine j_aload_n C 0 0 dX12_bestPrice_42 rfl rfl ?_
        refine y_getC C 11 99 fX12_bestPrice_13 rfl rfl ft_11_1 sm_11_1 rfl hM101 dX12_bestPrice_43 ?_
        refine y_bipush C dX12_bestPrice_46 rfl ?_
        refine j_iload_n C 1 1 dX12_bestPrice_48 rfl rfl ?_
        refine y_iadd C dX12_bestPrice_49 ?_
        refine y_ialdF C 45 3543 rfl rfl rfl ak_45 an_45 rfl dX12_bestPrice_50 (by (clear h119 h117 pM101 hM101 eM101 hret C hp0 ha2 hcw hpr hM0; omega)) (fun a120 ea120 la120 ua120 => ?_)
        obtain rfl : a120 = (M0.1 99 ((33 + a1)).toNat).toInt := s_fa eM101 (by decide) (ea120)
        refine j_istore_n C 3 [(3, .int (sI (M0.1 99 ((33 + a1)).toNat).toInt)), (0, .ref (ad 98)), (1, .int (sI a1)), (2, .int (sI a2))] dX12_bestPrice_51 rfl (by decide) rfl ?_
        refine y_iconst C dX12_bestPrice_52 ?_
        refine j_istore C 4 [(4, .int (sI (-1))), (3, .int (sI (M0.1 99 ((33 + a1)).toNat).toInt)), (0, .ref (ad 98)), (1, .int (sI a1)), (2, .int (sI a2))] dX12_bestPrice_53 (by decide) rfl ?_
        refine y_ldc2 C (-1) dX12_bestPrice_55 kX12_bestPrice_302 rfl ?_
        refine j_lstore C 5 [(5, .long (sJ (-1))), (4, .int (sI (-1))), (3, .int (sI (M0.1 99 ((33 + a1)).toNat).toInt)), (0, .ref (ad 98)), (1, .int (sI a1)), (2, .int (sI a2))] dX12_bestPrice_58 (by decide) rfl ?_
        refine y_iconst C dX12_bestPrice_60 ?_
        refine j_istore C 7 [(7, .int (sI 1)), (5, .long (sJ (-1))), (4, .int (sI (-1))), (3, .int (sI (M0.1 99 ((33 + a1)).toNat).toInt)), (0, .ref (ad 98)), (1, .int (sI a1)), (2, .int (sI a2))] dX12_bestPrice_61 (by decide) rfl ?_
        have u1210 := smj_0 (M := M0) (33 + a1).toNat (f := M0.1 99) rfl
        have u121s0 : b01 (SMJ (33 + a1).toNat (M0.1 99) (M101.1 99)) = 1 := smj_c (M := M0) (N := M101) u1210 ((wI_cell eM101 (by decide)))
        have L564 : ∀ (n562 : Nat), ∀ (a565 : Int) (a566 : Int) (a567 : Int) (M568 : mm_M), ((-1) ≤ a565 ∧ a565 ≤ 99 ∧ (-9223372036854775808) ≤ a566 ∧ a566 ≤ 9223372036854775807 ∧ 1 ≤ a567 ∧ a567 ≤ 100 ∧ (b01 (SMJ (33 + a1).toNat (M0.1 99) (M568.1 99)) = 1) ∧ (b01 (PI M568) = 1) ∧ (100 - a567) < (n562 : Int)) → INV pr Kz M568 → FR [98, 99, 103, 104, 106, 110, 111, 112] M0 M568 → jj p l e (cn_R 5) s m args below meth c 0 0 Q 8 dC dI ad cA A M568 63 [(0, .ref (ad 98)), (1, .int (sI a1)), (2, .int (sI a2)), (3, .int (sI (M0.1 99 ((33 + a1)).toNat).toInt)), (4, .int (sI a565)), (5, .long (sJ a566)), (7, .int (sI a567))] [] := by
          intro n562
          induction n562 with
          | zero =>
            intro a565 a566 a567 M568 h569 hM568 fM568
            exfalso; (clear fM568 hM568 u121s0 u1210 ua120 la120 ea120 h119 h117 h113 h111 h107 h105 pM101 hM101 eM101 hret C hp0 ha2 ha1 hcw hpr hM0; omega)
          | succ n562 ih563 =>
            intro a565 a566 a567 M568 h569 hM568 fM568
            refine j_iload C 6 dX12_bestPrice_63 rfl ?_
            refine y_bipush C dX12_bestPrice_65 rfl ?_
            refine y_icmp_gt C 119 dX12_bestPrice_67 (by decide) (by exact ⟨⟨(by (clear fM568 hM568 ih563 u121s0 u1210 ua120 la120 ea120 h119 h117 h113 h111 h107 h105 pM101 hM101 eM101 hret C hp0 ha2 ha1 hcw hpr hM0; omega)), (by (clear fM568 hM568 ih563 u121s0 u1210 ua120 la120 ea120 h119 h117 h113 h111 h107 h105 pM101 hM101 eM101 hret C hp0 ha2 ha1 hcw hpr hM0; omega))⟩, ⟨(by decide), (by decide)⟩⟩) (fun h571 => ?_) (fun h571 => ?_)
            · refine j_aload_n C 0 0 dX12_bestPrice_119 rfl rfl ?_
              refine y_getC C 11 99 fX12_bestPrice_13 rfl rfl ft_11_1 sm_11_1 rfl hM568 dX12_bestPrice_120 ?_
              refine y_bipush C dX12_bestPrice_123 rfl ?_
              refine j_iload_n C 1 1 dX12_bestPrice_125 rfl rfl ?_
              refine y_iadd C dX12_bestPrice_126 ?_
              refine j_iload_n C 3 3 dX12_bestPrice_127 rfl rfl ?_
              refine y_iastH C 45 3543 rfl rfl rfl ak_45 an_45 rfl _ _ hM568 (PM.w hpr rfl (hm_33_40 _ (by (clear h571 fM568 hM568 h569 ih563 u121s0 u1210 ua120 la120 ea120 h119 h117 pM101 hM101 eM101 hret C hp0 ha2 hcw hpr hM0; omega)) (by (clear h571 fM568 hM568 h569 ih563 u121s0 u1210 ua120 la120 ea120 h119 h117 pM101 hM101 eM101 hret C hp0 ha2 hcw hpr hM0; omega)))) (hs_45_33_40 _ (by (clear h571 fM568 hM568 h569 ih563 u121s0 u1210 ua120 la120 ea120 h119 h117 pM101 hM101 eM101 hret C hp0 ha2 hcw hpr hM0; omega)) (by (clear h571 fM568 hM568 h569 ih563 u121s0 u1210 ua120 la120 ea120 h119 h117 pM101 hM101 eM101 hret C hp0 ha2 hcw hpr hM0; omega))) dX12_bestPrice_128 (by (clear h571 fM568 hM568 h569 ih563 u121s0 u1210 ua120 la120 ea120 h119 h117 pM101 hM101 eM101 hret C hp0 ha2 hcw hpr hM0; omega)) (by exact ⟨⟨la120, ua120⟩, ⟨la120, ua120⟩⟩) (fun M586 eM586 hM586 => ?_)
              have pM586 := pi_n eM586 (hn_33_40 _ (by (clear hM586 eM586 h571 fM568 hM568 h569 ih563 u121s0 u1210 ua120 la120 ea120 h119 h117 pM101 hM101 eM101 hret C hp0 ha2 hcw hpr hM0; omega)) (by (clear hM586 eM586 h571 fM568 hM568 h569 ih563 u121s0 u1210 ua120 la120 ea120 h119 h117 pM101 hM101 eM101 hret C hp0 ha2 hcw hpr hM0; omega))) (by exact h569.2.2.2.2.2.2.2.1)
              refine j_iload C 4 dX12_bestPrice_129 rfl ?_
              have u587e := smj_e (M := M568) (N := M586) (k := (33 + a1).toNat) (f := M0.1 99) eM586 (h := show b01 (SMJ (33 + a1).toNat (M0.1 99) (M568.1 99)) = 1 by exact h569.2.2.2.2.2.2.1) (by omega)
              exact hret _ _ _ _ dX12_bestPrice_131 ⟨a565, rfl, hM586, ((FR.rf.tr fM568 (by decide)).wI eM586 (by decide)), by exact ⟨(by (clear hM586 eM586 h571 fM568 hM568 ih563 u121s0 u1210 ua120 la120 ea120 h119 h117 h113 h111 h107 h105 pM101 hM101 eM101 hret C hp0 ha2 ha1 hcw hpr hM0; omega)), ⟨h569.2.1, ⟨u587e, pM586⟩⟩⟩⟩
            · refine j_aload_n C 0 0 dX12_bestPrice_70 rfl rfl ?_
              refine y_getC C 11 99 fX12_bestPrice_13 rfl rfl ft_11_1 sm_11_1 rfl hM568 dX12_bestPrice_71 ?_
              refine y_bipush C dX12_bestPrice_74 rfl ?_
              refine j_iload_n C 1 1 dX12_bestPrice_76 rfl rfl ?_
              refine y_iadd C dX12_bestPrice_77 ?_
              refine j_iload C 6 dX12_bestPrice_78 rfl ?_
              refine y_iastH C 45 3543 rfl rfl rfl ak_45 an_45 rfl _ _ hM568 (PM.w hpr rfl (hm_33_40 _ (by (clear h571 fM568 hM568 h569 ih563 u121s0 u1210 ua120 la120 ea120 h119 h117 pM101 hM101 eM101 hret C hp0 ha2 hcw hpr hM0; omega)) (by (clear h571 fM568 hM568 h569 ih563 u121s0 u1210 ua120 la120 ea120 h119 h117 pM101 hM101 eM101 hret C hp0 ha2 hcw hpr hM0; omega)))) (hs_45_33_40 _ (by (clear h571 fM568 hM568 h569 ih563 u121s0 u1210 ua120 la120 ea120 h119 h117 pM101 hM101 eM101 hret C hp0 ha2 hcw hpr hM0; omega)) (by (clear h571 fM568 hM568 h569 ih563 u121s0 u1210 ua120 la120 ea120 h119 h117 pM101 hM101 eM101 hret C hp0 ha2 hcw hpr hM0; omega))) dX12_bestPrice_80 (by (clear h571 fM568 hM568 h569 ih563 u121s0 u1210 ua120 la120 ea120 h119 h117 pM101 hM101 eM101 hret C hp0 ha2 hcw hpr hM0; omega)) (by (clear fM568 hM568 ih563 u121s0 u1210 ua120 la120 ea120 h119 h117 h113 h111 h107 h105 pM101 hM101 eM101 hret C hp0 ha2 ha1 hcw hpr hM0; omega)) (fun M572 eM572 hM572 => ?_)
              have pM572 := pi_n eM572 (hn_33_40 _ (by (clear hM572 eM572 h571 fM568 hM568 h569 ih563 u121s0 u1210 ua120 la120 ea120 h119 h117 pM101 hM101 eM101 hret C hp0 ha2 hcw hpr hM0; omega)) (by (clear hM572 eM572 h571 fM568 hM568 h569 ih563 u121s0 u1210 ua120 la120 ea120 h119 h117 pM101 hM101 eM101 hret C hp0 ha2 hcw hpr hM0; omega))) (by exact h569.2.2.2.2.2.2.2.1)
              refine j_aload_n C 0 0 dX12_bestPrice_81 rfl rfl ?_
              refine j_callVv C (d := 4) (As := []) (st := []) 98 (s_lt rfl rfl) (s_kc (c := 11) rfl rfl) (by decide) rfl (s1_X12_laysBuys hM572 hpr hcw (by exact pM572)) gX12_bestPrice_X12_laysBuys rfl hdX12_laysBuys (by decide) (Nat.le_of_ble_eq_true rfl) dX12_bestPrice_82 rfl (fun M574 h575 => ?_)
              obtain ⟨hM574, fM574, h576⟩ := h575
              refine j_aload_n C 0 0 dX12_bestPrice_85 rfl rfl ?_
              refine j_iload_n C 2 2 dX12_bestPrice_86 rfl rfl ?_
              refine j_callVv C (d := 4) (As := [.int (sI a2)]) (st := []) 98 (s_lt rfl rfl) (s_kc (c := 11) rfl rfl) (by decide) rfl (s1_X12_laysDays hM574 hpr a2 (by exact ⟨ha2.1, ha2.2⟩) (by exact h576.2.2)) gX12_bestPrice_X12_laysDays rfl hdX12_laysDays (by decide) (Nat.le_of_ble_eq_true rfl) dX12_bestPrice_87 rfl (fun M578 h579 => ?_)
              obtain ⟨hM578, fM578, h580⟩ := h579
              refine j_aload_n C 0 0 dX12_bestPrice_90 rfl rfl ?_
              refine y_getJ C 11 fX12_bestPrice_379 rfl rfl ft_11_26 dX12_bestPrice_91 (fun a581 ea581 la581 ua581 => ?_)
              refine j_lload C 5 dX12_bestPrice_94 rfl ?_
              refine y_lcmp_gt C 103 dX12_bestPrice_96 dX12_bestPrice_97 (by decide) (by exact ⟨⟨la581, ua581⟩, ⟨h569.2.2.1, h569.2.2.2.1⟩⟩) (fun h582 => ?_) (fun h582 => ?_)
              · refine j_iload C 6 dX12_bestPrice_103 rfl ?_
                refine j_istore C 4 [(4, .int (sI a567)), (0, .ref (ad 98)), (1, .int (sI a1)), (2, .int (sI a2)), (3, .int (sI (M0.1 99 ((33 + a1)).toNat).toInt)), (5, .long (sJ a566)), (7, .int (sI a567))] dX12_bestPrice_105 (by decide) rfl ?_
                refine j_aload_n C 1 0 dX12_bestPrice_107 rfl rfl ?_
                refine y_getJ C 11 fX12_bestPrice_379 rfl rfl ft_11_26 dX12_bestPrice_108 (fun a583 ea583 la583 ua583 => ?_)
                refine j_lstore C 5 [(5, .long (sJ a583)), (4, .int (sI a567)), (0, .ref (ad 98)), (1, .int (sI a1)), (2, .int (sI a2)), (3, .int (sI (M0.1 99 ((33 + a1)).toNat).toInt)), (7, .int (sI a567))] dX12_bestPrice_111 (by decide) rfl ?_
                refine y_iinc C 6 [(7, .int (sI (a567 + 1))), (5, .long (sJ a583)), (4, .int (sI a567)), (0, .ref (ad 98)), (1, .int (sI a1)), (2, .int (sI a2)), (3, .int (sI (M0.1 99 ((33 + a1)).toNat).toInt))] dX12_bestPrice_113 rfl (by decide) rfl ?_
                refine j_goto C 63 dX12_bestPrice_116 (by decide) ?_
                have u584s0 : b01 (SMJ (33 + a1).toNat (M0.1 99) (M572.1 99)) = 1 := smj_w (M := M568) (N := M572) eM572 (by exact h569.2.2.2.2.2.2.1)
                have u584s1 : b01 (SMJ (33 + a1).toNat (M0.1 99) (M574.1 99)) = 1 := smj_c (M := M572) (N := M574) u584s0 ((FR.cell fM574 (by decide)))
                have u584s2 : b01 (SMJ (33 + a1).toNat (M0.1 99) (M578.1 99)) = 1 := smj_c (M := M574) (N := M578) u584s1 ((FR.cell fM578 (by decide)))
                refine j_lv [3, 4, 5, 6, 2, 1, 0] rfl ?_; exact ih563 a567 a583 (a567 + 1) M578 (by exact ⟨(by (clear u584s1 u584s0 ua583 la583 h582 fM578 hM578 h576 fM574 hM574 pM572 hM572 eM572 fM568 hM568 ih563 u121s0 u1210 ua120 la120 ea120 h119 h117 h113 h111 h107 h105 pM101 hM101 eM101 hret C hp0 ha2 ha1 hcw hpr hM0; omega)), ⟨(by (clear u584s1 u584s0 ua583 la583 h582 fM578 hM578 h576 fM574 hM574 pM572 hM572 eM572 fM568 hM568 ih563 u121s0 u1210 ua120 la120 ea120 h119 h117 h113 h111 h107 h105 pM101 hM101 eM101 hret C hp0 ha2 ha1 hcw hpr hM0; omega)), ⟨la583, ⟨ua583, ⟨(by (clear u584s1 u584s0 ua583 la583 h582 fM578 hM578 h576 fM574 hM574 pM572 hM572 eM572 fM568 hM568 ih563 u121s0 u1210 ua120 la120 ea120 h119 h117 h113 h111 h107 h105 pM101 hM101 eM101 hret C hp0 ha2 ha1 hcw hpr hM0; omega)), ⟨(by (clear u584s1 u584s0 ua583 la583 h582 fM578 hM578 h576 fM574 hM574 pM572 hM572 eM572 fM568 hM568 ih563 u121s0 u1210 ua120 la120 ea120 h119 h117 h113 h111 h107 h105 pM101 hM101 eM101 hret C hp0 ha2 ha1 hcw hpr hM0; omega)), ⟨u584s2, ⟨h580, (by (clear u584s1 u584s0 ua583 la583 h582 fM578 hM578 h576 fM574 hM574 pM572 hM572 eM572 fM568 hM568 ih563 u121s0 u1210 ua120 la120 ea120 h119 h117 h113 h111 h107 h105 pM101 hM101 eM101 hret C hp0 ha2 ha1 hcw hpr hM0; omega))⟩⟩⟩⟩⟩⟩⟩⟩) hM578 ((((FR.rf.tr fM568 (by decide)).wI eM572 (by decide)).tr fM574 (by decide)).tr fM578 (by decide))
              · refine j_goto C 113 dX12_bestPrice_100 (by decide) ?_
                refine y_iinc C 6 [(7, .int (sI (a567 + 1))), (0, .ref (ad 98)), (1, .int (sI a1)), (2, .int (sI a2)), (3, .int (sI (M0.1 99 ((33 + a1)).toNat).toInt)), (4, .int (sI a565)), (5, .long (sJ a566))] dX12_bestPrice_113 rfl (by decide) rfl ?_
                refine j_goto C 63 dX12_bestPrice_116 (by decide) ?_
                have u585s0 : b01 (SMJ (33 + a1).toNat (M0.1 99) (M572.1 99)) = 1 := smj_w (M := M568) (N := M572) eM572 (by exact h569.2.2.2.2.2.2.1)
                have u585s1 : b01 (SMJ (33 + a1).toNat (M0.1 99) (M574.1 99)) = 1 := smj_c (M := M572) (N := M574) u585s0 ((FR.cell fM574 (by decide)))
                have u585s2 : b01 (SMJ (33 + a1).toNat (M0.1 99) (M578.1 99)) = 1 := smj_c (M := M574) (N := M578) u585s1 ((FR.cell fM578 (by decide)))
                refine j_lv [1, 2, 3, 4, 5, 6, 0] rfl ?_; exact ih563 a565 a566 (a567 + 1) M578 (by exact ⟨h569.1, ⟨h569.2.1, ⟨h569.2.2.1, ⟨h569.2.2.2.1, ⟨(by (clear u585s1 u585s0 h582 ua581 la581 ea581 fM578 hM578 h576 fM574 hM574 pM572 hM572 eM572 fM568 hM568 ih563 u121s0 u1210 ua120 la120 ea120 h119 h117 h113 h111 h107 h105 pM101 hM101 eM101 hret C hp0 ha2 ha1 hcw hpr hM0; omega)), ⟨(by (clear u585s1 u585s0 h582 ua581 la581 ea581 fM578 hM578 h576 fM574 hM574 pM572 hM572 eM572 fM568 hM568 ih563 u121s0 u1210 ua120 la120 ea120 h119 h117 h113 h111 h107 h105 pM101 hM101 eM101 hret C hp0 ha2 ha1 hcw hpr hM0; omega)), ⟨u585s2, ⟨h580, (by (clear u585s1 u585s0 h582 ua581 la581 ea581 fM578 hM578 h576 fM574 hM574 pM572 hM572 eM572 fM568 hM568 ih563 u121s0 u1210 ua120 la120 ea120 h119 h117 h113 h111 h107 h105 pM101 hM101 eM101 hret C hp0 ha2 ha1 hcw hpr hM0; omega))⟩⟩⟩⟩⟩⟩⟩⟩) hM578 ((((FR.rf.tr fM568 (by decide)).wI eM572 (by decide)).tr fM574 (by decide)).tr fM578 (by decide))
        refine j_lv [4, 5, 6, 3, 2, 1, 0] rfl ?_; exact L564 2010 (-1) (-1) 1 M101 (by exact ⟨(by decide), ⟨(by decide), ⟨(by decide), ⟨(by decide), ⟨(by decide), ⟨(by decide), ⟨u121s0, ⟨pM101, (by decide)⟩⟩⟩⟩⟩⟩⟩⟩) hM101 (FR.rf.wI eM101 (by decide))
      · refine y_bipush C dX12_bestPrice_39 rfl ?_
        have u588r : b01 (M101.1 99 = M0.1 99) = 1 := b01_i ((wI_cell eM101 (by decide)))
        exact hret _ _ _ _ dX12_bestPrice_41 ⟨(-5), rfl, hM101, (FR.rf.wI eM101 (by decide)), by exact ⟨(by decide), ⟨(by decide), ⟨u588r, pM101⟩⟩⟩⟩
    · refine y_bipush C dX12_bestPrice_29 rfl ?_
      have u589r : b01 (M101.1 99 = M0.1 99) = 1 := b01_i ((wI_cell eM101 (by decide)))
      exact hret _ _ _ _ dX12_bestPrice_31 ⟨(-3), rfl, hM101, (FR.rf.wI eM101 (by decide)), by exact ⟨(by decide), ⟨(by decide), ⟨u589r, pM101⟩⟩⟩⟩
  · refine y_bipush C dX12_bestPrice_14 rfl ?_
    have u590r : b01 (M101.1 99 = M0.1 99) = 1 := b01_i ((wI_cell eM101 (by decide)))
    exact hret _ _ _ _ dX12_bestPrice_16 ⟨(-2), rfl, hM101, (FR.rf.wI eM101 (by decide)), by exact ⟨(by decide), ⟨(by decide), ⟨u590r, pM101⟩⟩⟩⟩
set_option maxHeartbeats 4000000 in
theorem s1_X12_noSeen {l : Launch} {dC : Nat → ClassId} {dI : Nat → Nat → Nat} {ad : Nat → Nat} {cA : Nat → ClassId} {pr : Nat → Nat → Bool} {Kz : mm_M} {M0 : mm_M} (hM0 : INV pr Kz M0) (a1 : Int) (ha1 : -2147483648 ≤ a1 ∧ a1 ≤ 2147483647) : Ci l 2 yX12_noSeen wsX12_noSeen dC dI ad cA [.ref (ad 98), .int (sI a1)] M0 (fun r M' => ∃ a : Int, r = sI a ∧ M0 = M' ∧ (-6) ≤ a ∧ a ≤ 0 ∧ (a = 0 ∧ 0 ≤ a1 ∧ a1 ≤ 3 ∧ b01 (snP M0 a1 (M0.1 116 (a1).toNat).toInt) = 1 ∨ ¬ a = 0)) := by
  refine ci_of (cc := cX12_noSeen) (maxL := 6) (ty := .int) (lv := [(0, .ref (ad 98)), (1, .int (sI a1))]) (by decide) rfl (fun r M' hp => rfl) (Nat.le_of_ble_eq_true rfl) rfl ?_
  intro p e s m args below meth c A Q C hret
  refine j_aload_n C 0 0 dX12_noSeen_0 rfl rfl ?_
  refine j_iload_n C 1 1 dX12_noSeen_1 rfl rfl ?_
  refine j_callVi C (d := 1) (As := [.int (sI a1)]) (st := []) 98 (s_lt rfl rfl) (s_kc (c := 11) rfl rfl) (by decide) rfl (s1_X12_noTray hM0 a1 (by exact ⟨ha1.1, ha1.2⟩)) gX12_noSeen_X12_noTray rfl hdX12_noTray (by decide) (Nat.le_of_ble_eq_true rfl) dX12_noSeen_2 rfl (fun r101 M102 h103 => ?_)
  obtain ⟨a105, rfl, rfl, h104⟩ := h103
  refine j_istore_n C 2 [(2, .int (sI a105)), (0, .ref (ad 98)), (1, .int (sI a1))] dX12_noSeen_5 rfl (by decide) rfl ?_
  refine j_iload_n C 0 2 dX12_noSeen_6 rfl rfl ?_
  refine y_if_eq C 12 dX12_noSeen_7 (by decide) (by (clear hret C ha1 hM0; omega)) (fun h106 => ?_) (fun h106 => ?_)
  · refine j_aload_n C 1 0 dX12_noSeen_12 rfl rfl ?_
    refine y_getC C 11 116 fX12_noSeen_70 rfl rfl ft_11_30 sm_11_30 rfl hM0 dX12_noSeen_13 ?_
    refine j_iload_n C 2 1 dX12_noSeen_16 rfl rfl ?_
    refine y_iald C 62 4 _ _ rfl rfl rfl ak_62 an_62 rfl (sb_62 _) hM0 dX12_noSeen_17 (by omega) (fun a107 ea107 la107 ua107 => ?_)
    obtain rfl : a107 = (M0.1 116 (a1).toNat).toInt := ea107
    refine y_i2l C dX12_noSeen_18 (by omega) ?_
    refine y_lconst C 1 dX12_noSeen_19 rfl ?_
    refine y_ldc2 C 12 dX12_noSeen_20 kX12_noSeen_433 rfl ?_
    refine j_callSi C (d := 0) (As := [.long (sJ (M0.1 116 (a1).toNat).toInt), .long (sJ 1), .long (sJ 12)]) (st := []) (s1_X12_within hM0 (M0.1 116 (a1).toNat).toInt (by omega) 1 (by exact ⟨(by decide), (by decide)⟩) 12 (by exact ⟨(by decide), (by decide)⟩)) gX12_noSeen_X12_within rfl hdX12_withins (by decide) (Nat.le_of_ble_eq_true rfl) dX12_noSeen_23 rfl (fun r108 M109 h110 => ?_)
    obtain ⟨a112, rfl, rfl, h111⟩ := h110
    refine y_if_ne C 32 dX12_noSeen_26 (by decide) (by omega) (fun h113 => ?_) (fun h113 => ?_)
    · have u114 := sn_0 M0 a1
      refine y_iconst C dX12_noSeen_32 ?_
      refine j_istore_n C 3 [(3, .int (sI 0)), (2, .int (sI a105)), (0, .ref (ad 98)), (1, .int (sI a1))] dX12_noSeen_33 rfl (by decide) rfl ?_
      have L138 : ∀ (n136 : Nat), ∀ (a139 : Int), (0 ≤ a139 ∧ a139 ≤ 40 ∧ (b01 (snP M0 a1 a139) = 1) ∧ (a139 ≤ (M0.1 116 (a1).toNat).toInt) ∧ (40 - a139) < (n136 : Int)) → jj p l e (cn_R 2) s m args below meth c 0 0 Q 6 dC dI ad cA A M0 34 [(0, .ref (ad 98)), (1, .int (sI a1)), (3, .int (sI a139))] [] := by
        intro n136
        induction n136 with
        | zero =>
          intro a139 h140
          exfalso; omega
        | succ n136 ih137 =>
          intro a139 h140
          refine j_iload_n C 2 3 dX12_noSeen_34 rfl rfl ?_
          refine j_aload_n C 0 0 dX12_noSeen_35 rfl rfl ?_
          refine y_getC C 11 116 fX12_noSeen_70 rfl rfl ft_11_30 sm_11_30 rfl hM0 dX12_noSeen_36 ?_
          refine j_iload_n C 1 1 dX12_noSeen_39 rfl rfl ?_
          refine y_iald C 62 4 _ _ rfl rfl rfl ak_62 an_62 rfl (sb_62 _) hM0 dX12_noSeen_40 (by (clear h140 ih137 u114 ua107 la107 hret C hM0; omega)) (fun a141 ea141 la141 ua141 => ?_)
          obtain rfl : a141 = (M0.1 116 (a1).toNat).toInt := ea141
          refine y_icmp_ge C 112 dX12_noSeen_41 (by decide) (by (clear ua141 la141 ih137 u114 h113 h111 h106 h104 hret C ha1 hM0; omega)) (fun h142 => ?_) (fun h142 => ?_)
          · obtain rfl : a139 = (M0.1 116 (a1).toNat).toInt := by (clear ua141 la141 ih137 u114 h113 h111 ua107 la107 h106 h104 hret C ha1 hM0; omega)
            refine y_iconst C dX12_noSeen_112 ?_
            exact hret _ _ _ _ dX12_noSeen_113 ⟨0, rfl, rfl, by exact ⟨(by decide), ⟨(by decide), (by (clear h142 ua141 la141 ih137 u114 ua107 la107 hret C hM0; omega))⟩⟩⟩
          · refine j_aload_n C 0 0 dX12_noSeen_44 rfl rfl ?_
            refine y_getC C 11 117 fX12_noSeen_73 rfl rfl ft_11_31 sm_11_31 rfl hM0 dX12_noSeen_45 ?_
            refine y_bipush C dX12_noSeen_48 rfl ?_
            refine j_iload_n C 1 1 dX12_noSeen_50 rfl rfl ?_
            refine y_imul C dX12_noSeen_51 ?_
            refine j_iload_n C 2 3 dX12_noSeen_52 rfl rfl ?_
            refine y_iadd C dX12_noSeen_53 ?_
            refine y_lald C 63 160 rfl rfl rfl ak_63 an_63 rfl dX12_noSeen_54 (by (clear ua141 la141 ih137 u114 hret C hM0; omega)) (fun a144 ea144 la144 ua144 => ?_)
            obtain rfl : a144 = (M0.2.1 117 (((40 * a1) + a139)).toNat).toInt := ea144
            refine j_lstore C 4 [(4, .long (sJ (M0.2.1 117 (((40 * a1) + a139)).toNat).toInt)), (0, .ref (ad 98)), (1, .int (sI a1)), (3, .int (sI a139))] dX12_noSeen_55 (by decide) rfl ?_
            refine j_lload C 0 dX12_noSeen_57 rfl ?_
            refine y_lconst C 0 dX12_noSeen_59 rfl ?_
            refine y_lcmp_lt C 103 dX12_noSeen_60 dX12_noSeen_61 (by decide) (by exact ⟨⟨la144, ua144⟩, ⟨(by decide), (by decide)⟩⟩) (fun h145 => ?_) (fun h145 => ?_)
            · refine y_bipush C dX12_noSeen_103 rfl ?_
              exact hret _ _ _ _ dX12_noSeen_105 ⟨(-3), rfl, rfl, by exact ⟨(by decide), ⟨(by decide), (by omega)⟩⟩⟩
            · refine j_aload_n C 1 0 dX12_noSeen_64 rfl rfl ?_
              refine j_lload C 0 dX12_noSeen_65 rfl ?_
              refine y_ldc2 C 10 dX12_noSeen_67 kX12_noSeen_300 rfl ?_
              refine y_ldiv C dX12_noSeen_70 (by exact ⟨(by (clear h142 ua141 la141 h140 ih137 u114 h113 h111 ua107 la107 h106 h104 hret C ha1 hM0; omega)), ⟨ua144, ⟨(by decide), (by decide)⟩⟩⟩) ?_
              refine j_callVi C (d := 1) (As := [.long (sJ ((M0.2.1 117 (((40 * a1) + a139)).toNat).toInt / 10))]) (st := []) 98 (s_lt rfl rfl) (s_kc (c := 11) rfl rfl) (by decide) rfl (s1_X12_isBuyer hM0 ((M0.2.1 117 (((40 * a1) + a139)).toNat).toInt / 10) (by (clear h142 ua141 la141 h140 ih137 u114 h113 h111 ua107 la107 h106 h104 hret C ha1 hM0; omega))) gX12_noSeen_X12_isBuyer rfl hdX12_isBuyer (by decide) (Nat.le_of_ble_eq_true rfl) dX12_noSeen_71 rfl (fun r146 M147 h148 => ?_)
              obtain ⟨a150, rfl, rfl, h149⟩ := h148
              refine y_if_eq C 103 dX12_noSeen_74 (by decide) (by (clear h145 ua144 la144 h142 ua141 la141 h140 ih137 u114 h113 h111 ua107 la107 h106 h104 hret C ha1 hM0; omega)) (fun h151 => ?_) (fun h151 => ?_)
              · refine y_bipush C dX12_noSeen_103 rfl ?_
                exact hret _ _ _ _ dX12_noSeen_105 ⟨(-3), rfl, rfl, by exact ⟨(by decide), ⟨(by decide), (by omega)⟩⟩⟩
              · refine j_lload C 0 dX12_noSeen_77 rfl ?_
                refine y_ldc2 C 10 dX12_noSeen_79 kX12_noSeen_300 rfl ?_
                refine y_lrem C dX12_noSeen_82 (by exact ⟨(by (clear h151 h149 h142 ua141 la141 h140 ih137 u114 h113 h111 ua107 la107 h106 h104 hret C ha1 hM0; omega)), ⟨ua144, ⟨(by decide), (by decide)⟩⟩⟩) ?_
                refine y_ldc2 C 9 dX12_noSeen_83 kX12_noSeen_291 rfl ?_
                refine y_lcmp_eq C 106 dX12_noSeen_86 dX12_noSeen_87 (by decide) (by exact ⟨⟨(by (clear h151 h149 h145 ua144 la144 h142 ua141 la141 h140 ih137 u114 h113 h111 ua107 la107 h106 h104 hret C ha1 hM0; omega)), (by (clear h151 h149 h145 ua144 la144 h142 ua141 la141 h140 ih137 u114 h113 h111 ua107 la107 h106 h104 hret C ha1 hM0; omega))⟩, ⟨(by decide), (by decide)⟩⟩) (fun h152 => ?_) (fun h152 => ?_)
                · have u153 := sn_s (M := M0) (t := a1) (n := a139) (by exact h140.2.2.1) (by (clear h142 ua141 la141 h140 ih137 u114 h113 h111 ua107 la107 h106 h104 hret C ha1 hM0; omega))
                  refine y_iinc C 3 [(3, .int (sI (a139 + 1))), (4, .long (sJ (M0.2.1 117 (((40 * a1) + a139)).toNat).toInt)), (0, .ref (ad 98)), (1, .int (sI a1))] dX12_noSeen_106 rfl (by decide) rfl ?_
                  refine j_goto C 34 dX12_noSeen_109 (by decide) ?_
                  refine j_lv [2, 3, 0] rfl ?_; exact ih137 (a139 + 1) (by exact ⟨(by (clear h152 h151 h149 h145 ua144 la144 ua141 la141 ih137 u114 h113 h111 h106 h104 hret C ha1 hM0; omega)), ⟨(by (clear h152 h151 h149 h145 ua144 la144 ua141 la141 ih137 u114 h113 h111 h106 h104 hret C ha1 hM0; omega)), ⟨u153, ⟨(by (clear h152 h151 h149 h145 ua144 la144 ua141 la141 ih137 u114 h113 h111 h106 h104 hret C ha1 hM0; omega)), (by (clear h152 h151 h149 h145 ua144 la144 ua141 la141 ih137 u114 h113 h111 h106 h104 hret C ha1 hM0; omega))⟩⟩⟩⟩)
                · refine j_aload_n C 1 0 dX12_noSeen_90 rfl rfl ?_
                  refine j_lload C 0 dX12_noSeen_91 rfl ?_
                  refine y_ldc2 C 10 dX12_noSeen_93 kX12_noSeen_300 rfl ?_
                  refine y_lrem C dX12_noSeen_96 (by exact ⟨(by omega), ⟨ua144, ⟨(by decide), (by decide)⟩⟩⟩) ?_
                  refine j_callVi C (d := 1) (As := [.long (sJ ((M0.2.1 117 (((40 * a1) + a139)).toNat).toInt % 10))]) (st := []) 98 (s_lt rfl rfl) (s_kc (c := 11) rfl rfl) (by decide) rfl (s1_X12_isKind hM0 ((M0.2.1 117 (((40 * a1) + a139)).toNat).toInt % 10) (by (clear h152 h151 h149 h145 ua144 la144 h142 ua141 la141 h140 ih137 u114 h113 h111 ua107 la107 h106 h104 hret C ha1 hM0; omega))) gX12_noSeen_X12_isKind rfl hdX12_isKind (by decide) (Nat.le_of_ble_eq_true rfl) dX12_noSeen_97 rfl (fun r154 M155 h156 => ?_)
                  obtain ⟨a158, rfl, rfl, h157⟩ := h156
                  refine y_if_ne C 106 dX12_noSeen_100 (by decide) (by (clear h152 h151 h149 h145 ua144 la144 h142 ua141 la141 h140 ih137 u114 h113 h111 ua107 la107 h106 h104 hret C ha1 hM0; omega)) (fun h159 => ?_) (fun h159 => ?_)
                  · have u160 := sn_s (M := M0) (t := a1) (n := a139) (by exact h140.2.2.1) (by (clear h142 ua141 la141 h140 ih137 u114 h113 h111 ua107 la107 h106 h104 hret C ha1 hM0; omega))
                    refine y_iinc C 3 [(3, .int (sI (a139 + 1))), (4, .long (sJ (M0.2.1 117 (((40 * a1) + a139)).toNat).toInt)), (0, .ref (ad 98)), (1, .int (sI a1))] dX12_noSeen_106 rfl (by decide) rfl ?_
                    refine j_goto C 34 dX12_noSeen_109 (by decide) ?_
                    refine j_lv [2, 3, 0] rfl ?_; exact ih137 (a139 + 1) (by exact ⟨(by (clear h159 h157 h152 h151 h149 h145 ua144 la144 ua141 la141 ih137 u114 h113 h111 h106 h104 hret C ha1 hM0; omega)), ⟨(by (clear h159 h157 h152 h151 h149 h145 ua144 la144 ua141 la141 ih137 u114 h113 h111 h106 h104 hret C ha1 hM0; omega)), ⟨u160, ⟨(by (clear h159 h157 h152 h151 h149 h145 ua144 la144 ua141 la141 ih137 u114 h113 h111 h106 h104 hret C ha1 hM0; omega)), (by (clear h159 h157 h152 h151 h149 h145 ua144 la144 ua141 la141 ih137 u114 h113 h111 h106 h104 hret C ha1 hM0; omega))⟩⟩⟩⟩)
                  · refine y_bipush C dX12_noSeen_103 rfl ?_
                    exact hret _ _ _ _ dX12_noSeen_105 ⟨(-3), rfl, rfl, by exact ⟨(by decide), ⟨(by decide), (by omega)⟩⟩⟩
      refine j_lv [2, 3, 0] rfl ?_; exact L138 2010 0 (by exact ⟨(by decide), ⟨(by decide), ⟨u114, ⟨la107, (by decide)⟩⟩⟩⟩)
    · refine y_bipush C dX12_noSeen_29 rfl ?_
      exact hret _ _ _ _ dX12_noSeen_31 ⟨(-4), rfl, rfl, by exact ⟨(by decide), ⟨(by decide), (by omega)⟩⟩⟩
  · refine j_iload_n C 0 2 dX12_noSeen_10 rfl rfl ?_
    exact hret _ _ _ _ dX12_noSeen_11 ⟨a105, rfl, rfl, by exact ⟨h104.1, ⟨h104.2.1, (by (clear hret C ha1 hM0; omega))⟩⟩⟩
set_option maxHeartbeats 4000000 in
theorem s1_X12_laysSeen {l : Launch} {dC : Nat → ClassId} {dI : Nat → Nat → Nat} {ad : Nat → Nat} {cA : Nat → ClassId} {pr : Nat → Nat → Bool} {Kz : mm_M} {M0 : mm_M} (hM0 : INV pr Kz M0) (hpr : PM pr) (hcw : CWK pr Kz) (a1 : Int) (ha1 : -2147483648 ≤ a1 ∧ a1 ≤ 2147483647) (hp0 : b01 (snP M0 a1 (M0.1 116 (a1).toNat).toInt) = 1) (hp1 : 0 ≤ a1 ∧ a1 ≤ 3) (hp2 : b01 (PI M0) = 1) : Ci l 5 yX12_laysSeen wsX12_laysSeen dC dI ad cA [.ref (ad 98), .int (sI a1)] M0 (fun r M' => ∃ a : Int, r = sI a ∧ INV pr Kz M' ∧ FR [103, 104, 106, 113] M0 M' ∧ (-2147483648) ≤ a ∧ a ≤ 2147483647 ∧ (b01 (PI M') = 1)) := by
  refine ci_of (cc := cX12_laysSeen) (maxL := 8) (ty := .int) (lv := [(0, .ref (ad 98)), (1, .int (sI a1))]) (by decide) rfl (fun r M' hp => rfl) (Nat.le_of_ble_eq_true rfl) rfl ?_
  intro p e s m args below meth c A Q C hret
  refine j_aload_n C 0 0 dX12_laysSeen_0 rfl rfl ?_
  refine j_callVv C (d := 4) (As := []) (st := []) 98 (s_lt rfl rfl) (s_kc (c := 11) rfl rfl) (by decide) rfl (s1_X12_laysBuys hM0 hpr hcw (by exact hp2)) gX12_laysSeen_X12_laysBuys rfl hdX12_laysBuys (by decide) (Nat.le_of_ble_eq_true rfl) dX12_laysSeen_1 rfl (fun M102 h103 => ?_)
  obtain ⟨hM102, fM102, h104⟩ := h103
  refine y_iconst C dX12_laysSeen_4 ?_
  refine j_istore_n C 2 [(2, .int (sI 0)), (0, .ref (ad 98)), (1, .int (sI a1))] dX12_laysSeen_5 rfl (by decide) rfl ?_
  refine y_iconst C dX12_laysSeen_6 ?_
  refine j_istore_n C 3 [(3, .int (sI 0)), (2, .int (sI 0)), (0, .ref (ad 98)), (1, .int (sI a1))] dX12_laysSeen_7 rfl (by decide) rfl ?_
  have L13969 : ∀ (n13967 : Nat), ∀ (a13970 : Int) (a13971 : Int) (M13972 : mm_M), ((-2147483648) ≤ a13970 ∧ a13970 ≤ 2147483647 ∧ 0 ≤ a13971 ∧ a13971 ≤ 256 ∧ (b01 (PI M13972) = 1) ∧ (256 - a13971) < (n13967 : Int)) → INV pr Kz M13972 → FR [103, 104, 106, 113] M0 M13972 → jj p l e (cn_R 5) s m args below meth c 0 0 Q 8 dC dI ad cA A M13972 8 [(0, .ref (ad 98)), (1, .int (sI a1)), (2, .int (sI a13970)), (3, .int (sI a13971))] [] := by
    intro n13967
    induction n13967 with
    | zero =>
      intro a13970 a13971 M13972 h13973 hM13972 fM13972
      exfalso; omega
    | succ n13967 ih13968 =>
      intro a13970 a13971 M13972 h13973 hM13972 fM13972
      refine j_iload_n C 3 3 dX12_laysSeen_8 rfl rfl ?_
      refine j_aload_n C 0 0 dX12_laysSeen_9 rfl rfl ?_
      refine j_callVi C (d := 0) (As := []) (st := [.int (sI a13971)]) 98 (s_lt rfl rfl) (s_kc (c := 11) rfl rfl) (by decide) rfl (s1_X12_everyKind hM13972) gX12_laysSeen_X12_everyKind rfl hdX12_everyKind (by decide) (Nat.le_of_ble_eq_true rfl) dX12_laysSeen_10 rfl (fun r13974 M13975 h13976 => ?_)
      obtain ⟨a13978, rfl, rfl, h13977⟩ := h13976
      rw [show M13972.1 99 = M0.1 99 from (FR.cell fM13972 (by decide))] at h13977
      obtain rfl : a13978 = (evF (M0.1 99)) := by exact h13977.2.2
      refine y_icmp_gt C 147 dX12_laysSeen_13 (by decide) (by (clear fM13972 hM13972 ih13968 h104 fM102 hM102 hret C hp2 hp1 hp0 ha1 hcw hpr hM0; omega)) (fun h13979 => ?_) (fun h13979 => ?_)
      · refine j_iload_n C 2 2 dX12_laysSeen_147 rfl rfl ?_
        exact hret _ _ _ _ dX12_laysSeen_148 ⟨a13970, rfl, hM13972, (FR.rf.tr fM13972 (by decide)), by exact ⟨h13973.1, ⟨h13973.2.1, h13973.2.2.2.2.1⟩⟩⟩
      · refine j_iload_n C 3 3 dX12_laysSeen_16 rfl rfl ?_
        refine j_istore C 4 [(4, .int (sI a13971)), (0, .ref (ad 98)), (1, .int (sI a1)), (2, .int (sI a13970)), (3, .int (sI a13971))] dX12_laysSeen_17 (by decide) rfl ?_
        refine y_iconst C dX12_laysSeen_19 ?_
        refine j_istore C 5 [(5, .int (sI 0)), (4, .int (sI a13971)), (0, .ref (ad 98)), (1, .int (sI a1)), (2, .int (sI a13970)), (3, .int (sI a13971))] dX12_laysSeen_20 (by decide) rfl ?_
        have X14363 : ∀ (a14362 : Int), ((-1) ≤ a14362 ∧ a14362 ≤ 255) → jj p l e (cn_R 5) s m args below meth c 0 0 Q 8 dC dI ad cA A M13972 120 [(0, .ref (ad 98)), (1, .int (sI a1)), (2, .int (sI a13970)), (3, .int (sI a13971)), (4, .int (sI a14362))] [] := by
          intro a14362 h14364
          refine j_aload_n C 0 0 dX12_laysSeen_120 rfl rfl ?_
          refine y_getC C 11 113 fX12_laysSeen_61 rfl rfl ft_11_27 sm_11_27 rfl hM13972 dX12_laysSeen_121 ?_
          refine j_iload_n C 3 3 dX12_laysSeen_124 rfl rfl ?_
          refine j_iload C 4 dX12_laysSeen_125 rfl ?_
          refine y_iast C 59 256 _ _ rfl rfl rfl ak_59 an_59 rfl (sb_59 _) hM13972 (PM.w hpr rfl rfl) dX12_laysSeen_127 (by exact ⟨h13973.2.2.1, (by (clear h14364 fM13972 hM13972 ih13968 h104 fM102 hM102 hret C hp2 hp1 hp0 ha1 hcw hpr hM0; omega))⟩) (by exact ⟨⟨(by (clear h13979 h13977 fM13972 hM13972 h13973 ih13968 h104 fM102 hM102 hret C hp2 hp1 hp0 ha1 hcw hpr hM0; omega)), (by (clear h13979 h13977 fM13972 hM13972 h13973 ih13968 h104 fM102 hM102 hret C hp2 hp1 hp0 ha1 hcw hpr hM0; omega))⟩, ⟨h14364.1, h14364.2⟩⟩) (fun M14365 eM14365 hM14365 => ?_)
          have pM14365 := pi_o eM14365 (by decide) (by decide) (by exact h13973.2.2.2.2.1)
          refine j_iload_n C 2 2 dX12_laysSeen_128 rfl rfl ?_
          refine j_iload C 4 dX12_laysSeen_129 rfl ?_
          refine y_if_lt C 138 dX12_laysSeen_131 (by decide) (by (clear pM14365 hM14365 eM14365 h13979 h13977 fM13972 hM13972 h13973 ih13968 h104 fM102 hM102 hret C hp2 hp1 hp0 ha1 hcw hpr hM0; omega)) (fun h14366 => ?_) (fun h14366 => ?_)
          · refine y_iconst C dX12_laysSeen_138 ?_
            refine y_iadd C dX12_laysSeen_139 ?_
            refine j_istore_n C 2 [(2, .int (sI (a13970 + 0))), (0, .ref (ad 98)), (1, .int (sI a1)), (3, .int (sI a13971)), (4, .int (sI a14362))] dX12_laysSeen_140 rfl (by decide) rfl ?_
            refine y_iinc C 3 [(3, .int (sI (a13971 + 1))), (2, .int (sI (a13970 + 0))), (0, .ref (ad 98)), (1, .int (sI a1)), (4, .int (sI a14362))] dX12_laysSeen_141 rfl (by decide) rfl ?_
            refine j_goto C 8 dX12_laysSeen_144 (by decide) ?_
            refine j_lv [2, 3, 1, 0] rfl ?_; exact ih13968 (a13970 + 0) (a13971 + 1) M14365 (by exact ⟨(by (clear h14366 hM14365 eM14365 h14364 fM13972 hM13972 ih13968 h104 fM102 hM102 hret C hp2 hp1 hp0 ha1 hcw hpr hM0; omega)), ⟨(by (clear h14366 hM14365 eM14365 h14364 fM13972 hM13972 ih13968 h104 fM102 hM102 hret C hp2 hp1 hp0 ha1 hcw hpr hM0; omega)), ⟨(by (clear h14366 hM14365 eM14365 h14364 fM13972 hM13972 ih13968 h104 fM102 hM102 hret C hp2 hp1 hp0 ha1 hcw hpr hM0; omega)), ⟨(by (clear h14366 hM14365 eM14365 h14364 fM13972 hM13972 ih13968 h104 fM102 hM102 hret C hp2 hp1 hp0 ha1 hcw hpr hM0; omega)), ⟨pM14365, (by (clear h14366 hM14365 eM14365 h14364 fM13972 hM13972 ih13968 h104 fM102 hM102 hret C hp2 hp1 hp0 ha1 hcw hpr hM0; omega))⟩⟩⟩⟩⟩) hM14365 ((FR.rf.tr fM13972 (by decide)).wI eM14365 (by decide))
          · refine y_iconst C dX12_laysSeen_134 ?_
            refine j_goto C 139 dX12_laysSeen_135 (by decide) ?_
            refine e_iadd C dX12_laysSeen_139 (fun lb14367 ub14367 => ?_)
            refine j_istore_n C 2 [(2, .int (sI (addI a13970 1))), (0, .ref (ad 98)), (1, .int (sI a1)), (3, .int (sI a13971)), (4, .int (sI a14362))] dX12_laysSeen_140 rfl (by decide) rfl ?_
            refine y_iinc C 3 [(3, .int (sI (a13971 + 1))), (2, .int (sI (addI a13970 1))), (0, .ref (ad 98)), (1, .int (sI a1)), (4, .int (sI a14362))] dX12_laysSeen_141 rfl (by decide) rfl ?_
            refine j_goto C 8 dX12_laysSeen_144 (by decide) ?_
            refine j_lv [2, 3, 1, 0] rfl ?_; exact ih13968 (addI a13970 1) (a13971 + 1) M14365 (by exact ⟨lb14367, ⟨ub14367, ⟨(by (clear h14366 hM14365 eM14365 h14364 fM13972 hM13972 ih13968 h104 fM102 hM102 hret C hp2 hp1 hp0 ha1 hcw hpr hM0; omega)), ⟨(by (clear h14366 hM14365 eM14365 h14364 fM13972 hM13972 ih13968 h104 fM102 hM102 hret C hp2 hp1 hp0 ha1 hcw hpr hM0; omega)), ⟨pM14365, (by (clear h14366 hM14365 eM14365 h14364 fM13972 hM13972 ih13968 h104 fM102 hM102 hret C hp2 hp1 hp0 ha1 hcw hpr hM0; omega))⟩⟩⟩⟩⟩) hM14365 ((FR.rf.tr fM13972 (by decide)).wI eM14365 (by decide))
        have L14339 : ∀ (n14337 : Nat), ∀ (a14340 : Int) (a14341 : Int), ((-1) ≤ a14340 ∧ a14340 ≤ 255 ∧ 0 ≤ a14341 ∧ a14341 ≤ 40 ∧ (40 - a14341) < (n14337 : Int)) → jj p l e (cn_R 5) s m args below meth c 0 0 Q 8 dC dI ad cA A M13972 22 [(0, .ref (ad 98)), (1, .int (sI a1)), (2, .int (sI a13970)), (3, .int (sI a13971)), (4, .int (sI a14340)), (5, .int (sI a14341))] [] := by
          intro n14337
          induction n14337 with
          | zero =>
            intro a14340 a14341 h14342
            exfalso; omega
          | succ n14337 ih14338 =>
            intro a14340 a14341 h14342
            refine j_iload C 5 dX12_laysSeen_22 rfl ?_
            refine j_aload_n C 0 0 dX12_laysSeen_24 rfl rfl ?_
            refine y_getC C 11 116 fX12_laysSeen_70 rfl rfl ft_11_30 sm_11_30 rfl hM13972 dX12_laysSeen_25 ?_
            refine j_iload_n C 1 1 dX12_laysSeen_28 rfl rfl ?_
            refine y_iald C 62 4 _ _ rfl rfl rfl ak_62 an_62 rfl (sb_62 _) hM13972 dX12_laysSeen_29 (by exact ⟨hp1.1, (by omega)⟩) (fun a14343 ea14343 la14343 ua14343 => ?_)
            obtain rfl : a14343 = (M0.1 116 (a1).toNat).toInt := s_fF fM13972 (by decide) (ea14343)
            refine y_icmp_ge C 120 dX12_laysSeen_30 (by decide) (by (clear ih14338 X14363 h13979 h13977 fM13972 hM13972 h13973 ih13968 h104 fM102 hM102 hret C hp2 hp1 hp0 ha1 hcw hpr hM0; omega)) (fun h14344 => ?_) (fun h14344 => ?_)
            · refine j_lv [0, 1, 2, 3, 4] rfl ?_; exact X14363 a14340 (by exact ⟨h14342.1, h14342.2.1⟩)
            · refine j_iload C 4 dX12_laysSeen_33 rfl ?_
              refine y_if_lt C 120 dX12_laysSeen_35 (by decide) (by omega) (fun h14345 => ?_) (fun h14345 => ?_)
              · refine j_lv [0, 1, 2, 3, 4] rfl ?_; exact X14363 a14340 (by exact ⟨h14342.1, h14342.2.1⟩)
              · refine j_aload_n C 0 0 dX12_laysSeen_38 rfl rfl ?_
                refine y_getC C 11 117 fX12_laysSeen_73 rfl rfl ft_11_31 sm_11_31 rfl hM13972 dX12_laysSeen_39 ?_
                refine y_bipush C dX12_laysSeen_42 rfl ?_
                refine j_iload_n C 1 1 dX12_laysSeen_44 rfl rfl ?_
                refine y_imul C dX12_laysSeen_45 ?_
                refine j_iload C 5 dX12_laysSeen_46 rfl ?_
                refine y_iadd C dX12_laysSeen_48 ?_
                refine y_lald C 63 160 rfl rfl rfl ak_63 an_63 rfl dX12_laysSeen_49 (by (clear h14345 ih14338 X14363 h13979 h13977 fM13972 hM13972 h13973 ih13968 h104 fM102 hM102 hret C hp2 hp0 hcw hpr hM0; omega)) (fun a14346 ea14346 la14346 ua14346 => ?_)
                obtain rfl : a14346 = (M0.2.1 117 (((40 * a1) + a14341)).toNat).toInt := s_gF fM13972 (by decide) (ea14346)
                have u14347 := sn_g (M := M0) (t := a1) (n := (M0.1 116 (a1).toNat).toInt) (by exact hp0) a14341 (by exact ⟨h14342.2.2.1, (by (clear ua14346 la14346 ea14346 h14345 ua14343 la14343 ih14338 X14363 h13979 h13977 fM13972 hM13972 h13973 ih13968 h104 fM102 hM102 hret C hp2 hp1 hp0 ha1 hcw hpr hM0; omega))⟩)
                have u14348 : 0 ≤ (M0.2.1 117 (((40 * a1) + a14341)).toNat).toInt ∧ (M0.2.1 117 (((40 * a1) + a14341)).toNat).toInt ≤ 59 := by exact ⟨u14347.1, u14347.2⟩
                refine y_l2i C dX12_laysSeen_50 ?_
                refine j_istore C 6 [(6, .int (sI (M0.2.1 117 (((40 * a1) + a14341)).toNat).toInt)), (0, .ref (ad 98)), (1, .int (sI a1)), (2, .int (sI a13970)), (3, .int (sI a13971)), (4, .int (sI a14340)), (5, .int (sI a14341))] dX12_laysSeen_51 (by decide) rfl ?_
                refine j_aload_n C 1 0 dX12_laysSeen_53 rfl rfl ?_
                refine j_iload C 5 dX12_laysSeen_54 rfl ?_
                refine j_iload C 0 dX12_laysSeen_56 rfl ?_
                refine y_bipush C dX12_laysSeen_58 rfl ?_
                refine y_idiv C dX12_laysSeen_60 (by exact ⟨u14347.1, ⟨(by (clear u14348 h14345 h14344 ua14343 la14343 ea14343 h14342 ih14338 X14363 h13979 h13977 fM13972 hM13972 h13973 ih13968 h104 fM102 hM102 hret C hp2 hp1 hp0 ha1 hcw hpr hM0; omega)), ⟨(by decide), (by decide)⟩⟩⟩) ?_
                refine j_callVi C (d := 0) (As := [.int (sI a14340), .int (sI ((M0.2.1 117 (((40 * a1) + a14341)).toNat).toInt / 10))]) (st := []) 98 (s_lt rfl rfl) (s_kc (c := 11) rfl rfl) (by decide) rfl (s1_X12_boughtBy hM13972 a14340 (by (clear u14348 u14347 ua14346 la14346 ea14346 h14344 ua14343 la14343 ea14343 ih14338 X14363 h13979 h13977 fM13972 hM13972 h13973 ih13968 h104 fM102 hM102 hret C hp2 hp1 hp0 ha1 hcw hpr hM0; omega)) ((M0.2.1 117 (((40 * a1) + a14341)).toNat).toInt / 10) (by (clear u14348 h14345 h14344 ua14343 la14343 ea14343 h14342 ih14338 X14363 h13979 h13977 fM13972 hM13972 h13973 ih13968 h104 fM102 hM102 hret C hp2 hp1 hp0 ha1 hcw hpr hM0; omega)) (by exact ⟨(by (clear u14348 u14347 ua14346 la14346 ea14346 h14344 ua14343 la14343 ea14343 ih14338 X14363 h13979 h13977 fM13972 hM13972 h13973 ih13968 h104 fM102 hM102 hret C hp2 hp1 hp0 ha1 hcw hpr hM0; omega)), h14342.2.1⟩) (by (clear u14348 h14345 h14344 ua14343 la14343 ea14343 h14342 ih14338 X14363 h13979 h13977 fM13972 hM13972 h13973 ih13968 h104 fM102 hM102 hret C hp2 hp1 hp0 ha1 hcw hpr hM0; omega))) gX12_laysSeen_X12_boughtBy rfl hdX12_boughtBy (by decide) (Nat.le_of_ble_eq_true rfl) dX12_laysSeen_61 rfl (fun r14349 M14350 h14351 => ?_)
                obtain ⟨a14353, rfl, rfl, h14352⟩ := h14351
                obtain rfl : a14353 = ((M13972.1 106 (6 * a14340 + ((M0.2.1 117 (((40 * a1) + a14341)).toNat).toInt / 10)).toNat).toInt) := by exact h14352.2.2
                refine j_istore C 7 [(7, .int (sI ((M13972.1 106 (6 * a14340 + ((M0.2.1 117 (((40 * a1) + a14341)).toNat).toInt / 10)).toNat).toInt))), (6, .int (sI (M0.2.1 117 (((40 * a1) + a14341)).toNat).toInt)), (0, .ref (ad 98)), (1, .int (sI a1)), (2, .int (sI a13970)), (3, .int (sI a13971)), (4, .int (sI a14340)), (5, .int (sI a14341))] dX12_laysSeen_64 (by decide) rfl ?_
                refine j_iload C 0 dX12_laysSeen_66 rfl ?_
                refine j_iload C 1 dX12_laysSeen_68 rfl ?_
                refine y_bipush C dX12_laysSeen_70 rfl ?_
                refine y_irem C dX12_laysSeen_72 (by exact ⟨u14347.1, ⟨(by omega), ⟨(by decide), (by decide)⟩⟩⟩) ?_
                refine y_bipush C dX12_laysSeen_73 rfl ?_
                have J14356 : ∀ (a14355 : Int), ((-1) ≤ a14355 ∧ a14355 ≤ 9) → jj p l e (cn_R 5) s m args below meth c 0 0 Q 8 dC dI ad cA A M13972 87 [(0, .ref (ad 98)), (1, .int (sI a1)), (2, .int (sI a13970)), (3, .int (sI a13971)), (4, .int (sI a14340)), (5, .int (sI a14341)), (7, .int (sI ((M13972.1 106 (6 * a14340 + ((M0.2.1 117 (((40 * a1) + a14341)).toNat).toInt / 10)).toNat).toInt)))] [.int (sI a14355), .int (sI ((M13972.1 106 (6 * a14340 + ((M0.2.1 117 (((40 * a1) + a14341)).toNat).toInt / 10)).toNat).toInt))] := by
                  intro a14355 h14357
                  refine y_icmp_eq C 94 dX12_laysSeen_87 (by decide) (by (clear u14348 u14347 ua14346 la14346 ea14346 h14345 h14344 ua14343 la14343 ea14343 h14342 ih14338 X14363 h13979 h13977 fM13972 hM13972 h13973 ih13968 h104 fM102 hM102 hret C hp2 hp1 hp0 ha1 hcw hpr hM0; omega)) (fun h14358 => ?_) (fun h14358 => ?_)
                  · refine j_iload C 6 dX12_laysSeen_94 rfl ?_
                    refine y_iconst C dX12_laysSeen_96 ?_
                    refine y_icmp_ne C 105 dX12_laysSeen_97 (by decide) (by exact ⟨⟨(by (clear h14357 u14348 u14347 ua14346 la14346 ea14346 h14345 h14344 ua14343 la14343 ea14343 h14342 ih14338 X14363 h13979 h13977 fM13972 hM13972 h13973 ih13968 h104 fM102 hM102 hret C hp2 hp1 hp0 ha1 hcw hpr hM0; omega)), (by (clear h14357 u14348 u14347 ua14346 la14346 ea14346 h14345 h14344 ua14343 la14343 ea14343 h14342 ih14338 X14363 h13979 h13977 fM13972 hM13972 h13973 ih13968 h104 fM102 hM102 hret C hp2 hp1 hp0 ha1 hcw hpr hM0; omega))⟩, ⟨(by decide), (by decide)⟩⟩) (fun h14359 => ?_) (fun h14359 => ?_)
                    · refine j_iload C 4 dX12_laysSeen_105 rfl ?_
                      refine y_iconst C dX12_laysSeen_107 ?_
                      refine j_iload C 6 dX12_laysSeen_108 rfl ?_
                      refine e_shl1 C 7 128 dX12_laysSeen_110 rfl (by decide) (by (clear h14357 u14348 u14347 ua14346 la14346 ea14346 h14345 h14344 ua14343 la14343 ea14343 h14342 ih14338 X14363 h13979 h13977 fM13972 hM13972 h13973 ih13968 h104 fM102 hM102 hret C hp2 hp1 hp0 ha1 hcw hpr hM0; omega)) (fun lb14360 ub14360 => ?_)
                      refine e_iorN C 8 255 dX12_laysSeen_111 rfl (by decide) (by exact ⟨(by (clear h14359 h14358 h14357 h14352 u14348 u14347 ua14346 la14346 ea14346 h14344 ua14343 la14343 ea14343 ih14338 X14363 h13979 h13977 fM13972 hM13972 h13973 ih13968 h104 fM102 hM102 hret C hp2 hp1 hp0 ha1 hcw hpr hM0; omega)), ⟨h14342.2.1, ⟨(by (clear h14359 h14358 h14357 h14352 u14348 u14347 ua14346 la14346 ea14346 h14344 ua14343 la14343 ea14343 ih14338 X14363 h13979 h13977 fM13972 hM13972 h13973 ih13968 h104 fM102 hM102 hret C hp2 hp1 hp0 ha1 hcw hpr hM0; omega)), (by (clear h14359 h14358 h14357 h14352 u14348 u14347 ua14346 la14346 ea14346 h14344 ua14343 la14343 ea14343 ih14338 X14363 h13979 h13977 fM13972 hM13972 h13973 ih13968 h104 fM102 hM102 hret C hp2 hp1 hp0 ha1 hcw hpr hM0; omega))⟩⟩⟩) (fun lb14361 ub14361 ob14361 => ?_)
                      refine j_istore C 4 [(4, .int (sI (orI a14340 (pw2 ((M13972.1 106 (6 * a14340 + ((M0.2.1 117 (((40 * a1) + a14341)).toNat).toInt / 10)).toNat).toInt))))), (0, .ref (ad 98)), (1, .int (sI a1)), (2, .int (sI a13970)), (3, .int (sI a13971)), (5, .int (sI a14341)), (7, .int (sI ((M13972.1 106 (6 * a14340 + ((M0.2.1 117 (((40 * a1) + a14341)).toNat).toInt / 10)).toNat).toInt)))] dX12_laysSeen_112 (by decide) rfl ?_
                      refine y_iinc C 5 [(5, .int (sI (a14341 + 1))), (4, .int (sI (orI a14340 (pw2 ((M13972.1 106 (6 * a14340 + ((M0.2.1 117 (((40 * a1) + a14341)).toNat).toInt / 10)).toNat).toInt))))), (0, .ref (ad 98)), (1, .int (sI a1)), (2, .int (sI a13970)), (3, .int (sI a13971)), (7, .int (sI ((M13972.1 106 (6 * a14340 + ((M0.2.1 117 (((40 * a1) + a14341)).toNat).toInt / 10)).toNat).toInt)))] dX12_laysSeen_114 rfl (by decide) rfl ?_
                      refine j_goto C 22 dX12_laysSeen_117 (by decide) ?_
                      refine j_lv [2, 3, 4, 5, 1, 0] rfl ?_; exact ih14338 (orI a14340 (pw2 ((M13972.1 106 (6 * a14340 + ((M0.2.1 117 (((40 * a1) + a14341)).toNat).toInt / 10)).toNat).toInt))) (a14341 + 1) (by exact ⟨(by (clear ob14361 ub14360 lb14360 h14359 h14358 h14357 h14352 u14348 u14347 ua14346 la14346 ea14346 h14345 ih14338 X14363 h13979 h13977 fM13972 hM13972 h13973 ih13968 h104 fM102 hM102 hret C hp2 hp1 hp0 ha1 hcw hpr hM0; omega)), ⟨ub14361, ⟨(by (clear ob14361 ub14360 lb14360 h14359 h14358 h14357 h14352 u14348 u14347 ua14346 la14346 ea14346 h14345 ih14338 X14363 h13979 h13977 fM13972 hM13972 h13973 ih13968 h104 fM102 hM102 hret C hp2 hp1 hp0 ha1 hcw hpr hM0; omega)), ⟨(by (clear ob14361 ub14360 lb14360 h14359 h14358 h14357 h14352 u14348 u14347 ua14346 la14346 ea14346 h14345 ih14338 X14363 h13979 h13977 fM13972 hM13972 h13973 ih13968 h104 fM102 hM102 hret C hp2 hp1 hp0 ha1 hcw hpr hM0; omega)), (by (clear ob14361 ub14360 lb14360 h14359 h14358 h14357 h14352 u14348 u14347 ua14346 la14346 ea14346 h14345 ih14338 X14363 h13979 h13977 fM13972 hM13972 h13973 ih13968 h104 fM102 hM102 hret C hp2 hp1 hp0 ha1 hcw hpr hM0; omega))⟩⟩⟩⟩)
                    · refine j_iload C 4 dX12_laysSeen_100 rfl ?_
                      refine j_goto C 112 dX12_laysSeen_102 (by decide) ?_
                      refine j_istore C 4 [(4, .int (sI a14340)), (0, .ref (ad 98)), (1, .int (sI a1)), (2, .int (sI a13970)), (3, .int (sI a13971)), (5, .int (sI a14341)), (7, .int (sI ((M13972.1 106 (6 * a14340 + ((M0.2.1 117 (((40 * a1) + a14341)).toNat).toInt / 10)).toNat).toInt)))] dX12_laysSeen_112 (by decide) rfl ?_
                      refine y_iinc C 5 [(5, .int (sI (a14341 + 1))), (4, .int (sI a14340)), (0, .ref (ad 98)), (1, .int (sI a1)), (2, .int (sI a13970)), (3, .int (sI a13971)), (7, .int (sI ((M13972.1 106 (6 * a14340 + ((M0.2.1 117 (((40 * a1) + a14341)).toNat).toInt / 10)).toNat).toInt)))] dX12_laysSeen_114 rfl (by decide) rfl ?_
                      refine j_goto C 22 dX12_laysSeen_117 (by decide) ?_
                      refine j_lv [2, 3, 4, 5, 1, 0] rfl ?_; exact ih14338 a14340 (a14341 + 1) (by exact ⟨h14342.1, ⟨h14342.2.1, ⟨(by (clear h14359 h14358 h14357 h14352 u14348 u14347 ua14346 la14346 ea14346 ih14338 X14363 h13979 h13977 fM13972 hM13972 h13973 ih13968 h104 fM102 hM102 hret C hp2 hp1 hp0 ha1 hcw hpr hM0; omega)), ⟨(by (clear h14359 h14358 h14357 h14352 u14348 u14347 ua14346 la14346 ea14346 ih14338 X14363 h13979 h13977 fM13972 hM13972 h13973 ih13968 h104 fM102 hM102 hret C hp2 hp1 hp0 ha1 hcw hpr hM0; omega)), (by (clear h14359 h14358 h14357 h14352 u14348 u14347 ua14346 la14346 ea14346 ih14338 X14363 h13979 h13977 fM13972 hM13972 h13973 ih13968 h104 fM102 hM102 hret C hp2 hp1 hp0 ha1 hcw hpr hM0; omega))⟩⟩⟩⟩)
                  · refine y_iconst C dX12_laysSeen_90 ?_
                    refine j_goto C 112 dX12_laysSeen_91 (by decide) ?_
                    refine j_istore C 4 [(4, .int (sI (-1))), (0, .ref (ad 98)), (1, .int (sI a1)), (2, .int (sI a13970)), (3, .int (sI a13971)), (5, .int (sI a14341)), (7, .int (sI ((M13972.1 106 (6 * a14340 + ((M0.2.1 117 (((40 * a1) + a14341)).toNat).toInt / 10)).toNat).toInt)))] dX12_laysSeen_112 (by decide) rfl ?_
                    refine y_iinc C 5 [(5, .int (sI (a14341 + 1))), (4, .int (sI (-1))), (0, .ref (ad 98)), (1, .int (sI a1)), (2, .int (sI a13970)), (3, .int (sI a13971)), (7, .int (sI ((M13972.1 106 (6 * a14340 + ((M0.2.1 117 (((40 * a1) + a14341)).toNat).toInt / 10)).toNat).toInt)))] dX12_laysSeen_114 rfl (by decide) rfl ?_
                    refine j_goto C 22 dX12_laysSeen_117 (by decide) ?_
                    refine j_lv [2, 3, 4, 5, 1, 0] rfl ?_; exact ih14338 (-1) (a14341 + 1) (by exact ⟨(by decide), ⟨(by decide), ⟨(by (clear h14358 h14357 h14352 u14348 u14347 ua14346 la14346 ea14346 h14345 ih14338 X14363 h13979 h13977 fM13972 hM13972 h13973 ih13968 h104 fM102 hM102 hret C hp2 hp1 hp0 ha1 hcw hpr hM0; omega)), ⟨(by (clear h14358 h14357 h14352 u14348 u14347 ua14346 la14346 ea14346 h14345 ih14338 X14363 h13979 h13977 fM13972 hM13972 h13973 ih13968 h104 fM102 hM102 hret C hp2 hp1 hp0 ha1 hcw hpr hM0; omega)), (by (clear h14358 h14357 h14352 u14348 u14347 ua14346 la14346 ea14346 h14345 ih14338 X14363 h13979 h13977 fM13972 hM13972 h13973 ih13968 h104 fM102 hM102 hret C hp2 hp1 hp0 ha1 hcw hpr hM0; omega))⟩⟩⟩⟩)
                refine y_icmp_ne C 82 dX12_laysSeen_75 (by decide) (by exact ⟨⟨(by (clear J14356 h14352 u14348 u14347 ua14346 la14346 h14345 h14344 ua14343 la14343 ea14343 h14342 ih14338 X14363 h13979 h13977 fM13972 hM13972 h13973 ih13968 h104 fM102 hM102 hret C hp2 hp1 hp0 ha1 hcw hpr hM0; omega)), (by (clear J14356 h14352 u14348 u14347 ua14346 la14346 h14345 h14344 ua14343 la14343 ea14343 h14342 ih14338 X14363 h13979 h13977 fM13972 hM13972 h13973 ih13968 h104 fM102 hM102 hret C hp2 hp1 hp0 ha1 hcw hpr hM0; omega))⟩, ⟨(by decide), (by decide)⟩⟩) (fun h14354 => ?_) (fun h14354 => ?_)
                · refine j_iload C 1 dX12_laysSeen_82 rfl ?_
                  refine y_bipush C dX12_laysSeen_84 rfl ?_
                  refine y_irem C dX12_laysSeen_86 (by exact ⟨u14347.1, ⟨(by omega), ⟨(by decide), (by decide)⟩⟩⟩) ?_
                  refine j_lv [2, 3, 4, 5, 6, 7, 0] rfl ?_; exact J14356 ((M0.2.1 117 (((40 * a1) + a14341)).toNat).toInt % 10) (by (clear h14354 J14356 h14352 u14348 u14347 ua14346 la14346 h14345 h14344 ua14343 la14343 ea14343 h14342 ih14338 X14363 h13979 h13977 fM13972 hM13972 h13973 ih13968 h104 fM102 hM102 hret C hp2 hp1 hp0 ha1 hcw hpr hM0; omega))
                · refine y_iconst C dX12_laysSeen_78 ?_
                  refine j_goto C 87 dX12_laysSeen_79 (by decide) ?_
                  refine j_lv [2, 3, 4, 5, 6, 7, 0] rfl ?_; exact J14356 (-1) (by exact ⟨(by decide), (by decide)⟩)
        refine j_lv [2, 3, 4, 5, 1, 0] rfl ?_; exact L14339 2010 a13971 0 (by exact ⟨(by (clear L14339 X14363 fM13972 hM13972 ih13968 h104 fM102 hM102 hret C hp2 hp1 hp0 ha1 hcw hpr hM0; omega)), ⟨(by (clear L14339 X14363 fM13972 hM13972 ih13968 h104 fM102 hM102 hret C hp2 hp1 hp0 ha1 hcw hpr hM0; omega)), ⟨(by decide), ⟨(by decide), (by decide)⟩⟩⟩⟩)
  refine j_lv [2, 3, 1, 0] rfl ?_; exact L13969 4294967306 0 0 M102 (by exact ⟨(by decide), ⟨(by decide), ⟨(by decide), ⟨(by decide), ⟨h104.2.2, (by decide)⟩⟩⟩⟩⟩) hM102 (FR.rf.tr fM102 (by decide))
set_option maxHeartbeats 4000000 in
theorem s1_X12_seen {l : Launch} {dC : Nat → ClassId} {dI : Nat → Nat → Nat} {ad : Nat → Nat} {cA : Nat → ClassId} {pr : Nat → Nat → Bool} {Kz : mm_M} {M0 : mm_M} (hM0 : INV pr Kz M0) (hpr : PM pr) (hcw : CWK pr Kz) (a1 : Int) (ha1 : -2147483648 ≤ a1 ∧ a1 ≤ 2147483647) (hp0 : b01 (PI M0) = 1) : Ci l 6 yX12_seen wsX12_seen dC dI ad cA [.ref (ad 98), .int (sI a1)] M0 (fun r M' => ∃ a : Int, r = sI a ∧ INV pr Kz M' ∧ FR [98, 103, 104, 106, 113] M0 M' ∧ (-2147483648) ≤ a ∧ a ≤ 2147483647 ∧ (b01 (PI M') = 1)) := by
  refine ci_of (cc := cX12_seen) (maxL := 3) (ty := .int) (lv := [(0, .ref (ad 98)), (1, .int (sI a1))]) (by decide) rfl (fun r M' hp => rfl) (Nat.le_of_ble_eq_true rfl) rfl ?_
  intro p e s m args below meth c A Q C hret
  refine j_aload_n C 0 0 dX12_seen_0 rfl rfl ?_
  refine y_iconst C dX12_seen_1 ?_
  refine y_putIF C 11 qX12_seen_1 rfl rfl ft_11_0 sb_11_0 hM0 (PM.w hpr rfl rfl) dX12_seen_2 (fun M101 eM101 hM101 => ?_)
  have pM101 := pi_o eM101 (by decide) (by decide) (by exact hp0)
  refine j_aload_n C 0 0 dX12_seen_5 rfl rfl ?_
  refine j_iload_n C 1 1 dX12_seen_6 rfl rfl ?_
  refine j_callVi C (d := 2) (As := [.int (sI a1)]) (st := []) 98 (s_lt rfl rfl) (s_kc (c := 11) rfl rfl) (by decide) rfl (s1_X12_noSeen hM101 a1 (by exact ⟨ha1.1, ha1.2⟩)) gX12_seen_X12_noSeen rfl hdX12_noSeen (by decide) (Nat.le_of_ble_eq_true rfl) dX12_seen_7 rfl (fun r102 M103 h104 => ?_)
  obtain ⟨a106, rfl, rfl, h105⟩ := h104
  refine j_istore_n C 2 [(2, .int (sI a106)), (0, .ref (ad 98)), (1, .int (sI a1))] dX12_seen_10 rfl (by decide) rfl ?_
  refine j_iload_n C 0 2 dX12_seen_11 rfl rfl ?_
  refine y_if_eq C 19 dX12_seen_12 (by decide) (by omega) (fun h107 => ?_) (fun h107 => ?_)
  · refine j_aload_n C 1 0 dX12_seen_19 rfl rfl ?_
    refine j_iload_n C 2 1 dX12_seen_20 rfl rfl ?_
    refine j_callVi C (d := 5) (As := [.int (sI a1)]) (st := []) 98 (s_lt rfl rfl) (s_kc (c := 11) rfl rfl) (by decide) rfl (s1_X12_laysSeen hM101 hpr hcw a1 (by exact ⟨ha1.1, ha1.2⟩) (by (clear pM101 hM101 eM101 hret C hp0 ha1 hcw hpr hM0; omega)) (by (clear pM101 hM101 eM101 hret C hp0 hcw hpr hM0; omega)) (by exact pM101)) gX12_seen_X12_laysSeen rfl hdX12_laysSeen (by decide) (Nat.le_of_ble_eq_true rfl) dX12_seen_21 rfl (fun r108 M109 h110 => ?_)
    obtain ⟨a112, rfl, hM109, fM109, h111⟩ := h110
    exact hret _ _ _ _ dX12_seen_24 ⟨a112, rfl, hM109, ((FR.rf.wI eM101 (by decide)).tr fM109 (by decide)), by exact ⟨h111.1, ⟨h111.2.1, h111.2.2⟩⟩⟩
  · refine j_iload_n C 0 2 dX12_seen_15 rfl rfl ?_
    refine j_goto C 24 dX12_seen_16 (by decide) ?_
    exact hret _ _ _ _ dX12_seen_24 ⟨a106, rfl, hM101, (FR.rf.wI eM101 (by decide)), by exact ⟨(by (clear h107 hM101 eM101 hret C hp0 ha1 hcw hpr hM0; omega)), ⟨(by (clear h107 hM101 eM101 hret C hp0 ha1 hcw hpr hM0; omega)), pM101⟩⟩⟩
set_option maxHeartbeats 4000000 in
theorem s1_X12_sureGone {l : Launch} {dC : Nat → ClassId} {dI : Nat → Nat → Nat} {ad : Nat → Nat} {cA : Nat → ClassId} {pr : Nat → Nat → Bool} {Kz : mm_M} {M0 : mm_M} (hM0 : INV pr Kz M0) (hpr : PM pr) (hcw : CWK pr Kz) (a1 : Int) (ha1 : -2147483648 ≤ a1 ∧ a1 ≤ 2147483647) (hp0 : b01 (PI M0) = 1) : Ci l 6 yX12_sureGone wsX12_sureGone dC dI ad cA [.ref (ad 98), .int (sI a1)] M0 (fun r M' => ∃ a : Int, r = sI a ∧ INV pr Kz M' ∧ FR [98, 103, 104, 106, 113] M0 M' ∧ (-6) ≤ a ∧ a ≤ 255 ∧ (b01 (PI M') = 1)) := by
  refine ci_of (cc := cX12_sureGone) (maxL := 5) (ty := .int) (lv := [(0, .ref (ad 98)), (1, .int (sI a1))]) (by decide) rfl (fun r M' hp => rfl) (Nat.le_of_ble_eq_true rfl) rfl ?_
  intro p e s m args below meth c A Q C hret
  refine j_aload_n C 0 0 dX12_sureGone_0 rfl rfl ?_
  refine y_iconst C dX12_sureGone_1 ?_
  refine y_putIF C 11 qX12_sureGone_1 rfl rfl ft_11_0 sb_11_0 hM0 (PM.w hpr rfl rfl) dX12_sureGone_2 (fun M101 eM101 hM101 => ?_)
  have pM101 := pi_o eM101 (by decide) (by decide) (by exact hp0)
  refine j_aload_n C 0 0 dX12_sureGone_5 rfl rfl ?_
  refine j_iload_n C 1 1 dX12_sureGone_6 rfl rfl ?_
  refine j_callVi C (d := 2) (As := [.int (sI a1)]) (st := []) 98 (s_lt rfl rfl) (s_kc (c := 11) rfl rfl) (by decide) rfl (s1_X12_noSeen hM101 a1 (by exact ⟨ha1.1, ha1.2⟩)) gX12_sureGone_X12_noSeen rfl hdX12_noSeen (by decide) (Nat.le_of_ble_eq_true rfl) dX12_sureGone_7 rfl (fun r102 M103 h104 => ?_)
  obtain ⟨a106, rfl, rfl, h105⟩ := h104
  refine j_istore_n C 2 [(2, .int (sI a106)), (0, .ref (ad 98)), (1, .int (sI a1))] dX12_sureGone_10 rfl (by decide) rfl ?_
  refine j_iload_n C 0 2 dX12_sureGone_11 rfl rfl ?_
  refine y_if_eq C 17 dX12_sureGone_12 (by decide) (by omega) (fun h107 => ?_) (fun h107 => ?_)
  · refine j_aload_n C 1 0 dX12_sureGone_17 rfl rfl ?_
    refine j_iload_n C 2 1 dX12_sureGone_18 rfl rfl ?_
    refine j_callVi C (d := 5) (As := [.int (sI a1)]) (st := []) 98 (s_lt rfl rfl) (s_kc (c := 11) rfl rfl) (by decide) rfl (s1_X12_laysSeen hM101 hpr hcw a1 (by exact ⟨ha1.1, ha1.2⟩) (by omega) (by omega) (by exact pM101)) gX12_sureGone_X12_laysSeen rfl hdX12_laysSeen (by decide) (Nat.le_of_ble_eq_true rfl) dX12_sureGone_19 rfl (fun r108 M109 h110 => ?_)
    obtain ⟨a112, rfl, hM109, fM109, h111⟩ := h110
    have J120 : ∀ (a119 : Int), (0 ≤ a119 ∧ a119 ≤ 255) → jj p l e (cn_R 6) s m args below meth c 0 0 Q 5 dC dI ad cA A M109 33 [(0, .ref (ad 98))] [.int (sI a119)] := by
      intro a119 h121
      refine j_istore_n C 3 [(3, .int (sI a119)), (0, .ref (ad 98))] dX12_sureGone_33 rfl (by decide) rfl ?_
      refine y_iconst C dX12_sureGone_34 ?_
      refine j_istore C 4 [(4, .int (sI 0)), (3, .int (sI a119)), (0, .ref (ad 98))] dX12_sureGone_35 (by decide) rfl ?_
      have L421 : ∀ (n419 : Nat), ∀ (a422 : Int) (a423 : Int), (0 ≤ a422 ∧ a422 ≤ 255 ∧ 0 ≤ a423 ∧ a423 ≤ 256 ∧ (256 - a423) < (n419 : Int)) → jj p l e (cn_R 6) s m args below meth c 0 0 Q 5 dC dI ad cA A M109 37 [(0, .ref (ad 98)), (3, .int (sI a422)), (4, .int (sI a423))] [] := by
        intro n419
        induction n419 with
        | zero =>
          intro a422 a423 h424
          exfalso; omega
        | succ n419 ih420 =>
          intro a422 a423 h424
          refine j_iload C 2 dX12_sureGone_37 rfl ?_
          refine j_aload_n C 0 0 dX12_sureGone_39 rfl rfl ?_
          refine j_callVi C (d := 0) (As := []) (st := [.int (sI a423)]) 98 (s_lt rfl rfl) (s_kc (c := 11) rfl rfl) (by decide) rfl (s1_X12_everyKind hM109) gX12_sureGone_X12_everyKind rfl hdX12_everyKind (by decide) (Nat.le_of_ble_eq_true rfl) dX12_sureGone_40 rfl (fun r425 M426 h427 => ?_)
          obtain ⟨a429, rfl, rfl, h428⟩ := h427
          rw [show M109.1 99 = M0.1 99 from ((FR.cell fM109 (by decide)).trans (wI_cell eM101 (by decide)))] at h428
          obtain rfl : a429 = (evF (M0.1 99)) := by exact h428.2.2
          refine y_icmp_gt C 67 dX12_sureGone_43 (by decide) (by (clear ih420 h121 h111 fM109 hM109 h107 h105 pM101 hM101 eM101 hret C hp0 ha1 hcw hpr hM0; omega)) (fun h430 => ?_) (fun h430 => ?_)
          · refine j_iload_n C 1 3 dX12_sureGone_67 rfl rfl ?_
            exact hret _ _ _ _ dX12_sureGone_68 ⟨a422, rfl, hM109, ((FR.rf.wI eM101 (by decide)).tr fM109 (by decide)), by exact ⟨(by (clear h430 h428 ih420 h121 fM109 hM109 h107 h105 pM101 hM101 eM101 hret C hp0 ha1 hcw hpr hM0; omega)), ⟨h424.2.1, h111.2.2⟩⟩⟩
          · refine j_aload_n C 0 0 dX12_sureGone_46 rfl rfl ?_
            refine y_getC C 11 113 fX12_sureGone_61 rfl rfl ft_11_27 sm_11_27 rfl hM109 dX12_sureGone_47 ?_
            refine j_iload C 2 dX12_sureGone_50 rfl ?_
            refine y_iald C 59 256 _ _ rfl rfl rfl ak_59 an_59 rfl (sb_59 _) hM109 dX12_sureGone_52 (by exact ⟨h424.2.2.1, (by (clear ih420 h121 h111 fM109 hM109 h107 h105 pM101 hM101 eM101 hret C hp0 ha1 hcw hpr hM0; omega))⟩) (fun a431 ea431 la431 ua431 => ?_)
            obtain rfl : a431 = (M109.1 113 (a423).toNat).toInt := ea431
            refine y_if_lt C 61 dX12_sureGone_53 (by decide) (by omega) (fun h432 => ?_) (fun h432 => ?_)
            · refine y_iinc C 2 [(4, .int (sI (a423 + 1))), (0, .ref (ad 98)), (3, .int (sI a422))] dX12_sureGone_61 rfl (by decide) rfl ?_
              refine j_goto C 37 dX12_sureGone_64 (by decide) ?_
              refine j_lv [1, 2, 0] rfl ?_; exact ih420 a422 (a423 + 1) (by exact ⟨h424.1, ⟨h424.2.1, ⟨(by (clear h432 ua431 la431 ih420 h121 h111 fM109 hM109 h107 h105 pM101 hM101 eM101 hret C hp0 ha1 hcw hpr hM0; omega)), ⟨(by (clear h432 ua431 la431 ih420 h121 h111 fM109 hM109 h107 h105 pM101 hM101 eM101 hret C hp0 ha1 hcw hpr hM0; omega)), (by (clear h432 ua431 la431 ih420 h121 h111 fM109 hM109 h107 h105 pM101 hM101 eM101 hret C hp0 ha1 hcw hpr hM0; omega))⟩⟩⟩⟩)
            · refine j_iload_n C 1 3 dX12_sureGone_56 rfl rfl ?_
              refine j_iload C 2 dX12_sureGone_57 rfl ?_
              refine e_iandR C dX12_sureGone_59 (by exact ⟨h424.2.2.1, (by omega)⟩) (fun lb433 ub433 => ?_)
              refine j_istore_n C 3 [(3, .int (sI (andI a422 a423))), (0, .ref (ad 98)), (4, .int (sI a423))] dX12_sureGone_60 rfl (by decide) rfl ?_
              refine y_iinc C 2 [(4, .int (sI (a423 + 1))), (3, .int (sI (andI a422 a423))), (0, .ref (ad 98))] dX12_sureGone_61 rfl (by decide) rfl ?_
              refine j_goto C 37 dX12_sureGone_64 (by decide) ?_
              refine j_lv [2, 1, 0] rfl ?_; exact ih420 (andI a422 a423) (a423 + 1) (by exact ⟨lb433, ⟨(by (clear h432 ua431 la431 ih420 h121 h111 fM109 hM109 h107 h105 pM101 hM101 eM101 hret C hp0 ha1 hcw hpr hM0; omega)), ⟨(by (clear h432 ua431 la431 ih420 h121 h111 fM109 hM109 h107 h105 pM101 hM101 eM101 hret C hp0 ha1 hcw hpr hM0; omega)), ⟨(by (clear h432 ua431 la431 ih420 h121 h111 fM109 hM109 h107 h105 pM101 hM101 eM101 hret C hp0 ha1 hcw hpr hM0; omega)), (by (clear h432 ua431 la431 ih420 h121 h111 fM109 hM109 h107 h105 pM101 hM101 eM101 hret C hp0 ha1 hcw hpr hM0; omega))⟩⟩⟩⟩)
      refine j_lv [2, 1, 0] rfl ?_; exact L421 2010 a119 0 (by exact ⟨h121.1, ⟨h121.2, ⟨(by decide), ⟨(by decide), (by decide)⟩⟩⟩⟩)
    refine y_if_ne C 29 dX12_sureGone_22 (by decide) (by exact ⟨h111.1, h111.2.1⟩) (fun h113 => ?_) (fun h113 => ?_)
    · refine j_aload_n C 1 0 dX12_sureGone_29 rfl rfl ?_
      refine j_callVi C (d := 0) (As := []) (st := []) 98 (s_lt rfl rfl) (s_kc (c := 11) rfl rfl) (by decide) rfl (s1_X12_everyKind hM109) gX12_sureGone_X12_everyKind rfl hdX12_everyKind (by decide) (Nat.le_of_ble_eq_true rfl) dX12_sureGone_30 rfl (fun r114 M115 h116 => ?_)
      obtain ⟨a118, rfl, rfl, h117⟩ := h116
      rw [show M109.1 99 = M0.1 99 from ((FR.cell fM109 (by decide)).trans (wI_cell eM101 (by decide)))] at h117
      obtain rfl : a118 = (evF (M0.1 99)) := by exact h117.2.2
      refine j_lv [1] rfl ?_; exact J120 (evF (M0.1 99)) (by exact ⟨h117.1, h117.2.1⟩)
    · refine y_iconst C dX12_sureGone_25 ?_
      refine j_goto C 33 dX12_sureGone_26 (by decide) ?_
      refine j_lv [1] rfl ?_; exact J120 0 (by exact ⟨(by decide), (by decide)⟩)
  · refine j_iload_n C 0 2 dX12_sureGone_15 rfl rfl ?_
    exact hret _ _ _ _ dX12_sureGone_16 ⟨a106, rfl, hM101, (FR.rf.wI eM101 (by decide)), by exact ⟨h105.1, ⟨(by (clear h107 hM101 eM101 hret C hp0 ha1 hcw hpr hM0; omega)), pM101⟩⟩⟩
set_option maxHeartbeats 4000000 in
theorem s1_X12_mostOften {l : Launch} {dC : Nat → ClassId} {dI : Nat → Nat → Nat} {ad : Nat → Nat} {cA : Nat → ClassId} {pr : Nat → Nat → Bool} {Kz : mm_M} {M0 : mm_M} (hM0 : INV pr Kz M0) (hpr : PM pr) (a1 : Int) (ha1 : -2147483648 ≤ a1 ∧ a1 ≤ 2147483647) (hp0 : 0 ≤ a1 ∧ a1 ≤ 5) (hp1 : b01 (PI M0) = 1) : Ci l 1 yX12_mostOften wsX12_mostOften dC dI ad cA [.ref (ad 98), .int (sI a1)] M0 (fun r M' => ∃ a : Int, r = sI a ∧ INV pr Kz M' ∧ FR [114] M0 M' ∧ 0 ≤ a ∧ a ≤ 2147483647 ∧ (b01 (PI M') = 1)) := by
  refine ci_of (cc := cX12_mostOften) (maxL := 6) (ty := .int) (lv := [(0, .ref (ad 98)), (1, .int (sI a1))]) (by decide) rfl (fun r M' hp => rfl) (Nat.le_of_ble_eq_true rfl) rfl ?_
  intro p e s m args below meth c A Q C hret
  refine y_iconst C dX12_mostOften_0 ?_
  refine j_istore_n C 2 [(2, .int (sI 0)), (0, .ref (ad 98)), (1, .int (sI a1))] dX12_mostOften_1 rfl (by decide) rfl ?_
  have L143 : ∀ (n141 : Nat), ∀ (a144 : Int) (M145 : mm_M), (0 ≤ a144 ∧ a144 ≤ 9 ∧ (b01 (PI M145) = 1) ∧ (9 - a144) < (n141 : Int)) → INV pr Kz M145 → FR [114] M0 M145 → jj p l e (cn_R 1) s m args below meth c 0 0 Q 6 dC dI ad cA A M145 2 [(0, .ref (ad 98)), (1, .int (sI a1)), (2, .int (sI a144))] [] := by
    intro n141
    induction n141 with
    | zero =>
      intro a144 M145 h146 hM145 fM145
      exfalso; omega
    | succ n141 ih142 =>
      intro a144 M145 h146 hM145 fM145
      refine j_iload_n C 2 2 dX12_mostOften_2 rfl rfl ?_
      refine y_bipush C dX12_mostOften_3 rfl ?_
      refine y_icmp_ge C 21 dX12_mostOften_5 (by decide) (by exact ⟨⟨(by omega), (by omega)⟩, ⟨(by decide), (by decide)⟩⟩) (fun h147 => ?_) (fun h147 => ?_)
      · refine y_iconst C dX12_mostOften_21 ?_
        refine j_istore_n C 2 [(2, .int (sI 0)), (0, .ref (ad 98)), (1, .int (sI a1))] dX12_mostOften_22 rfl (by decide) rfl ?_
        refine y_iconst C dX12_mostOften_23 ?_
        refine j_istore_n C 3 [(3, .int (sI 0)), (2, .int (sI 0)), (0, .ref (ad 98)), (1, .int (sI a1))] dX12_mostOften_24 rfl (by decide) rfl ?_
        have L880 : ∀ (n878 : Nat), ∀ (a881 : Int) (a882 : Int) (M883 : mm_M), (0 ≤ a881 ∧ a881 ≤ 2147483647 ∧ 0 ≤ a882 ∧ a882 ≤ 256 ∧ (b01 (PI M883) = 1) ∧ (256 - a882) < (n878 : Int)) → INV pr Kz M883 → FR [114] M0 M883 → jj p l e (cn_R 1) s m args below meth c 0 0 Q 6 dC dI ad cA A M883 25 [(0, .ref (ad 98)), (1, .int (sI a1)), (2, .int (sI a881)), (3, .int (sI a882))] [] := by
          intro n878
          induction n878 with
          | zero =>
            intro a881 a882 M883 h884 hM883 fM883
            exfalso; omega
          | succ n878 ih879 =>
            intro a881 a882 M883 h884 hM883 fM883
            refine j_iload_n C 3 3 dX12_mostOften_25 rfl rfl ?_
            refine j_aload_n C 0 0 dX12_mostOften_26 rfl rfl ?_
            refine j_callVi C (d := 0) (As := []) (st := [.int (sI a882)]) 98 (s_lt rfl rfl) (s_kc (c := 11) rfl rfl) (by decide) rfl (s1_X12_everyKind hM883) gX12_mostOften_X12_everyKind rfl hdX12_everyKind (by decide) (Nat.le_of_ble_eq_true rfl) dX12_mostOften_27 rfl (fun r885 M886 h887 => ?_)
            obtain ⟨a889, rfl, rfl, h888⟩ := h887
            rw [show M883.1 99 = M0.1 99 from (FR.cell fM883 (by decide))] at h888
            obtain rfl : a889 = (evF (M0.1 99)) := by exact h888.2.2
            refine y_icmp_gt C 113 dX12_mostOften_30 (by decide) (by (clear fM883 hM883 ih879 h147 fM145 hM145 h146 ih142 hret C hp1 hp0 ha1 hpr hM0; omega)) (fun h890 => ?_) (fun h890 => ?_)
            · refine j_iload_n C 2 2 dX12_mostOften_113 rfl rfl ?_
              exact hret _ _ _ _ dX12_mostOften_114 ⟨a881, rfl, hM883, (FR.rf.tr fM883 (by decide)), by exact ⟨h884.1, ⟨h884.2.1, h884.2.2.2.2.1⟩⟩⟩
            · refine j_aload_n C 0 0 dX12_mostOften_33 rfl rfl ?_
              refine y_getC C 11 113 fX12_mostOften_61 rfl rfl ft_11_27 sm_11_27 rfl hM883 dX12_mostOften_34 ?_
              refine j_iload_n C 3 3 dX12_mostOften_37 rfl rfl ?_
              refine y_iald C 59 256 _ _ rfl rfl rfl ak_59 an_59 rfl (sb_59 _) hM883 dX12_mostOften_38 (by exact ⟨h884.2.2.1, (by (clear fM883 hM883 ih879 h147 fM145 hM145 h146 ih142 hret C hp1 hp0 ha1 hpr hM0; omega))⟩) (fun a891 ea891 la891 ua891 => ?_)
              obtain rfl : a891 = (M0.1 113 (a882).toNat).toInt := s_fF fM883 (by decide) (ea891)
              refine y_if_ge C 45 dX12_mostOften_39 (by decide) (by (clear h890 h888 fM883 hM883 h884 ih879 h147 fM145 hM145 h146 ih142 hret C hp1 hp0 ha1 hpr hM0; omega)) (fun h892 => ?_) (fun h892 => ?_)
              · refine j_aload_n C 0 0 dX12_mostOften_45 rfl rfl ?_
                refine j_aload_n C 0 0 dX12_mostOften_46 rfl rfl ?_
                refine y_getC C 11 113 fX12_mostOften_61 rfl rfl ft_11_27 sm_11_27 rfl hM883 dX12_mostOften_47 ?_
                refine j_iload_n C 3 3 dX12_mostOften_50 rfl rfl ?_
                refine y_iald C 59 256 _ _ rfl rfl rfl ak_59 an_59 rfl (sb_59 _) hM883 dX12_mostOften_51 (by exact ⟨h884.2.2.1, (by omega)⟩) (fun a893 ea893 la893 ua893 => ?_)
                obtain rfl : a893 = (M0.1 113 (a882).toNat).toInt := s_fF fM883 (by decide) (ea893)
                refine j_iload_n C 1 1 dX12_mostOften_52 rfl rfl ?_
                refine j_callVi C (d := 0) (As := [.int (sI (M0.1 113 (a882).toNat).toInt), .int (sI a1)]) (st := []) 98 (s_lt rfl rfl) (s_kc (c := 11) rfl rfl) (by decide) rfl (s1_X12_boughtBy hM883 (M0.1 113 (a882).toNat).toInt (by (clear ua893 la893 ea893 h890 h888 fM883 hM883 h884 ih879 h147 fM145 hM145 h146 ih142 hret C hp1 hp0 ha1 hpr hM0; omega)) a1 (by exact ⟨ha1.1, ha1.2⟩) (by exact ⟨h892, ua891⟩) (by exact ⟨hp0.1, hp0.2⟩)) gX12_mostOften_X12_boughtBy rfl hdX12_boughtBy (by decide) (Nat.le_of_ble_eq_true rfl) dX12_mostOften_53 rfl (fun r894 M895 h896 => ?_)
                obtain ⟨a898, rfl, rfl, h897⟩ := h896
                rw [show M883.1 106 = M0.1 106 from (FR.cell fM883 (by decide))] at h897
                obtain rfl : a898 = ((M0.1 106 (6 * (M0.1 113 (a882).toNat).toInt + a1).toNat).toInt) := by exact h897.2.2
                refine j_istore C 4 [(4, .int (sI ((M0.1 106 (6 * (M0.1 113 (a882).toNat).toInt + a1).toNat).toInt))), (0, .ref (ad 98)), (1, .int (sI a1)), (2, .int (sI a881)), (3, .int (sI a882))] dX12_mostOften_56 (by decide) rfl ?_
                refine j_iload C 0 dX12_mostOften_58 rfl ?_
                refine y_iconst C dX12_mostOften_60 ?_
                have J901 : ∀ (a900 : Int), (0 ≤ a900 ∧ a900 ≤ 8) → jj p l e (cn_R 1) s m args below meth c 0 0 Q 6 dC dI ad cA A M883 71 [(0, .ref (ad 98)), (1, .int (sI a1)), (2, .int (sI a881)), (3, .int (sI a882))] [.int (sI a900)] := by
                  intro a900 h902
                  refine j_istore C 5 [(5, .int (sI a900)), (0, .ref (ad 98)), (1, .int (sI a1)), (2, .int (sI a881)), (3, .int (sI a882))] dX12_mostOften_71 (by decide) rfl ?_
                  refine j_aload_n C 1 0 dX12_mostOften_73 rfl rfl ?_
                  refine y_getC C 11 114 fX12_mostOften_64 rfl rfl ft_11_28 sm_11_28 rfl hM883 dX12_mostOften_74 ?_
                  refine j_iload C 0 dX12_mostOften_77 rfl ?_
                  refine j_dup2 C dX12_mostOften_79 rfl rfl ?_
                  refine y_iald C 60 9 _ _ rfl rfl rfl ak_60 an_60 rfl (sb_60 _) hM883 dX12_mostOften_80 (by exact ⟨h902.1, (by (clear h897 ua893 la893 ea893 h892 ua891 la891 ea891 h890 h888 fM883 hM883 h884 ih879 h147 fM145 hM145 h146 ih142 hret C hp1 hp0 ha1 hpr hM0; omega))⟩) (fun a903 ea903 la903 ua903 => ?_)
                  obtain rfl : a903 = (M883.1 114 (a900).toNat).toInt := ea903
                  refine y_iconst C dX12_mostOften_81 ?_
                  refine e_iadd C dX12_mostOften_82 (fun lb904 ub904 => ?_)
                  refine y_iastF C 60 9 rfl rfl rfl ak_60 an_60 rfl (sb_60 _) hM883 (PM.w hpr rfl rfl) dX12_mostOften_83 (by exact ⟨h902.1, (by omega)⟩) (fun M905 eM905 hM905 => ?_)
                  have pM905 := pi_o eM905 (by decide) (by decide) (by exact h884.2.2.2.2.1)
                  refine j_aload_n C 1 0 dX12_mostOften_84 rfl rfl ?_
                  refine y_getC C 11 114 fX12_mostOften_64 rfl rfl ft_11_28 sm_11_28 rfl hM905 dX12_mostOften_85 ?_
                  refine j_iload C 0 dX12_mostOften_88 rfl ?_
                  refine y_iald C 60 9 _ _ rfl rfl rfl ak_60 an_60 rfl (sb_60 _) hM905 dX12_mostOften_90 (by exact ⟨h902.1, (by (clear pM905 hM905 eM905 ub904 lb904 ua903 la903 h897 ua893 la893 ea893 h892 ua891 la891 ea891 h890 h888 fM883 hM883 h884 ih879 h147 fM145 hM145 h146 ih142 hret C hp1 hp0 ha1 hpr hM0; omega))⟩) (fun a906 ea906 la906 ua906 => ?_)
                  obtain rfl : a906 = (addI (M883.1 114 (a900).toNat).toInt 1) := (ea906).trans (s_wr eM905 (by exact ⟨lb904, ub904⟩))
                  refine j_iload_n C 3 2 dX12_mostOften_91 rfl rfl ?_
                  refine y_icmp_le C 105 dX12_mostOften_92 (by decide) (by exact ⟨⟨lb904, ub904⟩, ⟨(by (clear ua906 la906 pM905 hM905 eM905 ua903 la903 h902 h897 ua893 la893 ea893 h892 ua891 la891 ea891 h890 h888 fM883 hM883 ih879 h147 fM145 hM145 h146 ih142 hret C hp1 hp0 ha1 hpr hM0; omega)), h884.2.1⟩⟩) (fun h907 => ?_) (fun h907 => ?_)
                  · refine j_iload_n C 3 2 dX12_mostOften_105 rfl rfl ?_
                    refine j_istore_n C 2 [(2, .int (sI a881)), (5, .int (sI a900)), (0, .ref (ad 98)), (1, .int (sI a1)), (3, .int (sI a882))] dX12_mostOften_106 rfl (by decide) rfl ?_
                    refine y_iinc C 4 [(3, .int (sI (a882 + 1))), (2, .int (sI a881)), (5, .int (sI a900)), (0, .ref (ad 98)), (1, .int (sI a1))] dX12_mostOften_107 rfl (by decide) rfl ?_
                    refine j_goto C 25 dX12_mostOften_110 (by decide) ?_
                    refine j_lv [3, 4, 1, 0] rfl ?_; exact ih879 a881 (a882 + 1) M905 (by exact ⟨h884.1, ⟨h884.2.1, ⟨(by (clear h907 ua906 la906 ea906 hM905 eM905 ub904 lb904 ua903 la903 h902 h897 ua893 la893 ea893 h892 ua891 la891 ea891 fM883 hM883 ih879 h147 fM145 hM145 h146 ih142 hret C hp1 hp0 ha1 hpr hM0; omega)), ⟨(by (clear h907 ua906 la906 ea906 hM905 eM905 ub904 lb904 ua903 la903 h902 h897 ua893 la893 ea893 h892 ua891 la891 ea891 fM883 hM883 ih879 h147 fM145 hM145 h146 ih142 hret C hp1 hp0 ha1 hpr hM0; omega)), ⟨pM905, (by (clear h907 ua906 la906 ea906 hM905 eM905 ub904 lb904 ua903 la903 h902 h897 ua893 la893 ea893 h892 ua891 la891 ea891 fM883 hM883 ih879 h147 fM145 hM145 h146 ih142 hret C hp1 hp0 ha1 hpr hM0; omega))⟩⟩⟩⟩⟩) hM905 ((FR.rf.tr fM883 (by decide)).wI eM905 (by decide))
                  · refine j_aload_n C 1 0 dX12_mostOften_95 rfl rfl ?_
                    refine y_getC C 11 114 fX12_mostOften_64 rfl rfl ft_11_28 sm_11_28 rfl hM905 dX12_mostOften_96 ?_
                    refine j_iload C 0 dX12_mostOften_99 rfl ?_
                    refine y_iald C 60 9 _ _ rfl rfl rfl ak_60 an_60 rfl (sb_60 _) hM905 dX12_mostOften_101 (by exact ⟨h902.1, (by omega)⟩) (fun a908 ea908 la908 ua908 => ?_)
                    obtain rfl : a908 = (addI (M883.1 114 (a900).toNat).toInt 1) := (ea908).trans (s_wr eM905 (by exact ⟨lb904, ub904⟩))
                    refine j_goto C 106 dX12_mostOften_102 (by decide) ?_
                    refine j_istore_n C 2 [(2, .int (sI (addI (M883.1 114 (a900).toNat).toInt 1))), (5, .int (sI a900)), (0, .ref (ad 98)), (1, .int (sI a1)), (3, .int (sI a882))] dX12_mostOften_106 rfl (by decide) rfl ?_
                    refine y_iinc C 4 [(3, .int (sI (a882 + 1))), (2, .int (sI (addI (M883.1 114 (a900).toNat).toInt 1))), (5, .int (sI a900)), (0, .ref (ad 98)), (1, .int (sI a1))] dX12_mostOften_107 rfl (by decide) rfl ?_
                    refine j_goto C 25 dX12_mostOften_110 (by decide) ?_
                    refine j_lv [3, 4, 1, 0] rfl ?_; exact ih879 (addI (M883.1 114 (a900).toNat).toInt 1) (a882 + 1) M905 (by exact ⟨(by (clear ua908 la908 ea908 ua906 la906 hM905 eM905 ua903 la903 h902 h897 ua893 la893 ea893 h892 ua891 la891 ea891 fM883 hM883 ih879 h147 fM145 hM145 h146 ih142 hret C hp1 hp0 ha1 hpr hM0; omega)), ⟨ub904, ⟨(by (clear ua908 la908 ea908 ua906 la906 hM905 eM905 ua903 la903 h902 h897 ua893 la893 ea893 h892 ua891 la891 ea891 fM883 hM883 ih879 h147 fM145 hM145 h146 ih142 hret C hp1 hp0 ha1 hpr hM0; omega)), ⟨(by (clear ua908 la908 ea908 ua906 la906 hM905 eM905 ua903 la903 h902 h897 ua893 la893 ea893 h892 ua891 la891 ea891 fM883 hM883 ih879 h147 fM145 hM145 h146 ih142 hret C hp1 hp0 ha1 hpr hM0; omega)), ⟨pM905, (by (clear ua908 la908 ea908 ua906 la906 hM905 eM905 ua903 la903 h902 h897 ua893 la893 ea893 h892 ua891 la891 ea891 fM883 hM883 ih879 h147 fM145 hM145 h146 ih142 hret C hp1 hp0 ha1 hpr hM0; omega))⟩⟩⟩⟩⟩) hM905 ((FR.rf.tr fM883 (by decide)).wI eM905 (by decide))
                refine y_icmp_ne C 69 dX12_mostOften_61 (by decide) (by exact ⟨⟨(by (clear J901 ua893 la893 ea893 h892 ua891 la891 ea891 h890 h888 fM883 hM883 h884 ih879 h147 fM145 hM145 h146 ih142 hret C hp1 hp0 ha1 hpr hM0; omega)), (by (clear J901 ua893 la893 ea893 h892 ua891 la891 ea891 h890 h888 fM883 hM883 h884 ih879 h147 fM145 hM145 h146 ih142 hret C hp1 hp0 ha1 hpr hM0; omega))⟩, ⟨(by decide), (by decide)⟩⟩) (fun h899 => ?_) (fun h899 => ?_)
                · refine j_iload C 0 dX12_mostOften_69 rfl ?_
                  refine j_lv [1, 2, 3, 4] rfl ?_; exact J901 ((M0.1 106 (6 * (M0.1 113 (a882).toNat).toInt + a1).toNat).toInt) (by (clear J901 ua893 la893 ea893 h892 ua891 la891 ea891 h890 h888 fM883 hM883 h884 ih879 h147 fM145 hM145 h146 ih142 hret C hp1 hp0 ha1 hpr hM0; omega))
                · refine y_bipush C dX12_mostOften_64 rfl ?_
                  refine j_goto C 71 dX12_mostOften_66 (by decide) ?_
                  refine j_lv [1, 2, 3, 4] rfl ?_; exact J901 8 (by exact ⟨(by decide), (by decide)⟩)
              · refine j_goto C 107 dX12_mostOften_42 (by decide) ?_
                refine y_iinc C 3 [(3, .int (sI (a882 + 1))), (0, .ref (ad 98)), (1, .int (sI a1)), (2, .int (sI a881))] dX12_mostOften_107 rfl (by decide) rfl ?_
                refine j_goto C 25 dX12_mostOften_110 (by decide) ?_
                refine j_lv [1, 2, 3, 0] rfl ?_; exact ih879 a881 (a882 + 1) M883 (by exact ⟨h884.1, ⟨h884.2.1, ⟨(by (clear h892 ua891 la891 ea891 fM883 hM883 ih879 h147 fM145 hM145 h146 ih142 hret C hp1 hp0 ha1 hpr hM0; omega)), ⟨(by (clear h892 ua891 la891 ea891 fM883 hM883 ih879 h147 fM145 hM145 h146 ih142 hret C hp1 hp0 ha1 hpr hM0; omega)), ⟨h884.2.2.2.2.1, (by (clear h892 ua891 la891 ea891 fM883 hM883 ih879 h147 fM145 hM145 h146 ih142 hret C hp1 hp0 ha1 hpr hM0; omega))⟩⟩⟩⟩⟩) hM883 (FR.rf.tr fM883 (by decide))
        refine j_lv [2, 3, 1, 0] rfl ?_; exact L880 4294967304 0 0 M145 (by exact ⟨(by decide), ⟨(by decide), ⟨(by decide), ⟨(by decide), ⟨h146.2.2.1, (by decide)⟩⟩⟩⟩⟩) hM145 (FR.rf.tr fM145 (by decide))
      · refine j_aload_n C 0 0 dX12_mostOften_8 rfl rfl ?_
        refine y_getC C 11 114 fX12_mostOften_64 rfl rfl ft_11_28 sm_11_28 rfl hM145 dX12_mostOften_9 ?_
        refine j_iload_n C 2 2 dX12_mostOften_12 rfl rfl ?_
        refine y_iconst C dX12_mostOften_13 ?_
        refine y_iastF C 60 9 rfl rfl rfl ak_60 an_60 rfl (sb_60 _) hM145 (PM.w hpr rfl rfl) dX12_mostOften_14 (by exact ⟨h146.1, (by omega)⟩) (fun M148 eM148 hM148 => ?_)
        have pM148 := pi_o eM148 (by decide) (by decide) (by exact h146.2.2.1)
        refine y_iinc C 2 [(2, .int (sI (a144 + 1))), (0, .ref (ad 98)), (1, .int (sI a1))] dX12_mostOften_15 rfl (by decide) rfl ?_
        refine j_goto C 2 dX12_mostOften_18 (by decide) ?_
        refine j_lv [1, 2, 0] rfl ?_; exact ih142 (a144 + 1) M148 (by exact ⟨(by (clear hM148 eM148 fM145 hM145 ih142 hret C hp1 hp0 ha1 hpr hM0; omega)), ⟨(by (clear hM148 eM148 fM145 hM145 ih142 hret C hp1 hp0 ha1 hpr hM0; omega)), ⟨pM148, (by (clear hM148 eM148 fM145 hM145 ih142 hret C hp1 hp0 ha1 hpr hM0; omega))⟩⟩⟩) hM148 ((FR.rf.tr fM145 (by decide)).wI eM148 (by decide))
  refine j_lv [1, 2, 0] rfl ?_; exact L143 2010 0 M0 (by exact ⟨(by decide), ⟨(by decide), ⟨hp1, (by decide)⟩⟩⟩) hM0 FR.rf
set_option maxHeartbeats 4000000 in
theorem s1_X12_ask {l : Launch} {dC : Nat → ClassId} {dI : Nat → Nat → Nat} {ad : Nat → Nat} {cA : Nat → ClassId} {pr : Nat → Nat → Bool} {Kz : mm_M} {M0 : mm_M} (hM0 : INV pr Kz M0) (hpr : PM pr) (hcw : CWK pr Kz) (a1 : Int) (ha1 : -2147483648 ≤ a1 ∧ a1 ≤ 2147483647) (hp0 : b01 (PI M0) = 1) : Ci l 6 yX12_ask wsX12_ask dC dI ad cA [.ref (ad 98), .int (sI a1)] M0 (fun r M' => ∃ a : Int, r = sI a ∧ INV pr Kz M' ∧ FR [98, 103, 104, 106, 113, 114] M0 M' ∧ (-6) ≤ a ∧ a ≤ 5 ∧ (b01 (PI M') = 1)) := by
  refine ci_of (cc := cX12_ask) (maxL := 8) (ty := .int) (lv := [(0, .ref (ad 98)), (1, .int (sI a1))]) (by decide) rfl (fun r M' hp => rfl) (Nat.le_of_ble_eq_true rfl) rfl ?_
  intro p e s m args below meth c A Q C hret
  refine j_aload_n C 0 0 dX12_ask_0 rfl rfl ?_
  refine y_iconst C dX12_ask_1 ?_
  refine y_putIF C 11 qX12_ask_1 rfl rfl ft_11_0 sb_11_0 hM0 (PM.w hpr rfl rfl) dX12_ask_2 (fun M101 eM101 hM101 => ?_)
  have pM101 := pi_o eM101 (by decide) (by decide) (by exact hp0)
  refine j_aload_n C 0 0 dX12_ask_5 rfl rfl ?_
  refine j_iload_n C 1 1 dX12_ask_6 rfl rfl ?_
  refine j_callVi C (d := 2) (As := [.int (sI a1)]) (st := []) 98 (s_lt rfl rfl) (s_kc (c := 11) rfl rfl) (by decide) rfl (s1_X12_noSeen hM101 a1 (by exact ⟨ha1.1, ha1.2⟩)) gX12_ask_X12_noSeen rfl hdX12_noSeen (by decide) (Nat.le_of_ble_eq_true rfl) dX12_ask_7 rfl (fun r102 M103 h104 => ?_)
  obtain ⟨a106, rfl, rfl, h105⟩ := h104
  refine j_istore_n C 2 [(2, .int (sI a106)), (0, .ref (ad 98)), (1, .int (sI a1))] dX12_ask_10 rfl (by decide) rfl ?_
  refine j_iload_n C 0 2 dX12_ask_11 rfl rfl ?_
  refine y_if_eq C 17 dX12_ask_12 (by decide) (by omega) (fun h107 => ?_) (fun h107 => ?_)
  · refine y_iconst C dX12_ask_17 ?_
    refine j_istore_n C 3 [(3, .int (sI (-1))), (2, .int (sI a106)), (0, .ref (ad 98)), (1, .int (sI a1))] dX12_ask_18 rfl (by decide) rfl ?_
    refine y_ldcw C 268435456 dX12_ask_19 kX12_ask_341 rfl ?_
    refine j_istore C 4 [(4, .int (sI 268435456)), (3, .int (sI (-1))), (2, .int (sI a106)), (0, .ref (ad 98)), (1, .int (sI a1))] dX12_ask_22 (by decide) rfl ?_
    refine j_aload_n C 3 0 dX12_ask_24 rfl rfl ?_
    refine j_iload_n C 4 1 dX12_ask_25 rfl rfl ?_
    refine j_callVi C (d := 5) (As := [.int (sI a1)]) (st := []) 98 (s_lt rfl rfl) (s_kc (c := 11) rfl rfl) (by decide) rfl (s1_X12_laysSeen hM101 hpr hcw a1 (by exact ⟨ha1.1, ha1.2⟩) (by omega) (by omega) (by exact pM101)) gX12_ask_X12_laysSeen rfl hdX12_laysSeen (by decide) (Nat.le_of_ble_eq_true rfl) dX12_ask_26 rfl (fun r108 M109 h110 => ?_)
    obtain ⟨a112, rfl, hM109, fM109, h111⟩ := h110
    refine j_istore C 5 [(5, .int (sI a112)), (4, .int (sI 268435456)), (3, .int (sI (-1))), (2, .int (sI a106)), (0, .ref (ad 98)), (1, .int (sI a1))] dX12_ask_29 (by decide) rfl ?_
    refine y_iconst C dX12_ask_31 ?_
    refine j_istore C 6 [(6, .int (sI 0)), (5, .int (sI a112)), (4, .int (sI 268435456)), (3, .int (sI (-1))), (2, .int (sI a106)), (0, .ref (ad 98)), (1, .int (sI a1))] dX12_ask_32 (by decide) rfl ?_
    have L206 : ∀ (n204 : Nat), ∀ (a207 : Int) (a208 : Int) (a209 : Int) (M210 : mm_M), ((-1) ≤ a207 ∧ a207 ≤ 5 ∧ 0 ≤ a208 ∧ a208 ≤ 268435456 ∧ 0 ≤ a209 ∧ a209 ≤ 6 ∧ (b01 (PI M210) = 1) ∧ (6 - a209) < (n204 : Int)) → INV pr Kz M210 → FR [98, 103, 104, 106, 113, 114] M0 M210 → jj p l e (cn_R 6) s m args below meth c 0 0 Q 8 dC dI ad cA A M210 34 [(0, .ref (ad 98)), (3, .int (sI a207)), (4, .int (sI a208)), (5, .int (sI a112)), (6, .int (sI a209))] [] := by
      intro n204
      induction n204 with
      | zero =>
        intro a207 a208 a209 M210 h211 hM210 fM210
        exfalso; omega
      | succ n204 ih205 =>
        intro a207 a208 a209 M210 h211 hM210 fM210
        refine j_iload C 4 dX12_ask_34 rfl ?_
        refine j_aload_n C 0 0 dX12_ask_36 rfl rfl ?_
        refine y_getC C 11 99 fX12_ask_13 rfl rfl ft_11_1 sm_11_1 rfl hM210 dX12_ask_37 ?_
        refine y_iconst C dX12_ask_40 ?_
        refine y_ialdH C 45 3543 rfl rfl rfl ak_45 an_45 rfl _ _ hM210 (hr_45_1_1 _ (by exact (by decide)) (by exact (by decide))) dX12_ask_41 (by exact ⟨(by decide), (by decide)⟩) (fun a212 ea212 la212 ua212 => ?_)
        obtain rfl : a212 = (M0.1 99 1).toInt := s_fF fM210 (by decide) (ea212)
        refine y_icmp_ge C 81 dX12_ask_42 (by decide) (by (clear fM210 hM210 ih205 h111 fM109 hM109 h107 h105 pM101 hM101 eM101 hret C hp0 ha1 hcw hpr hM0; omega)) (fun h213 => ?_) (fun h213 => ?_)
        · refine j_iload_n C 1 3 dX12_ask_81 rfl rfl ?_
          exact hret _ _ _ _ dX12_ask_82 ⟨a207, rfl, hM210, (FR.rf.tr fM210 (by decide)), by exact ⟨(by (clear h213 ua212 la212 ea212 fM210 hM210 ih205 h111 fM109 hM109 h107 h105 pM101 hM101 eM101 hret C hp0 ha1 hcw hpr hM0; omega)), ⟨h211.2.1, h211.2.2.2.2.2.2.1⟩⟩⟩
        · refine j_iload C 3 dX12_ask_45 rfl ?_
          refine y_if_le C 81 dX12_ask_47 (by decide) (by exact ⟨h111.1, h111.2.1⟩) (fun h214 => ?_) (fun h214 => ?_)
          · refine j_iload_n C 1 3 dX12_ask_81 rfl rfl ?_
            exact hret _ _ _ _ dX12_ask_82 ⟨a207, rfl, hM210, (FR.rf.tr fM210 (by decide)), by exact ⟨(by omega), ⟨h211.2.1, h211.2.2.2.2.2.2.1⟩⟩⟩
          · refine j_aload_n C 0 0 dX12_ask_50 rfl rfl ?_
            refine j_iload C 4 dX12_ask_51 rfl ?_
            refine j_callVi C (d := 1) (As := [.int (sI a209)]) (st := []) 98 (s_lt rfl rfl) (s_kc (c := 11) rfl rfl) (by decide) rfl (s1_X12_mostOften hM210 hpr a209 (by omega) (by exact ⟨h211.2.2.2.2.1, (by (clear h214 fM210 hM210 ih205 h111 fM109 hM109 h107 h105 pM101 hM101 eM101 hret C hp0 ha1 hcw hpr hM0; omega))⟩) (by exact h211.2.2.2.2.2.2.1)) gX12_ask_X12_mostOften rfl hdX12_mostOften (by decide) (Nat.le_of_ble_eq_true rfl) dX12_ask_53 rfl (fun r215 M216 h217 => ?_)
            obtain ⟨a219, rfl, hM216, fM216, h218⟩ := h217
            refine j_istore C 7 [(7, .int (sI a219)), (0, .ref (ad 98)), (3, .int (sI a207)), (4, .int (sI a208)), (5, .int (sI a112)), (6, .int (sI a209))] dX12_ask_56 (by decide) rfl ?_
            refine j_iload C 0 dX12_ask_58 rfl ?_
            refine j_iload C 3 dX12_ask_60 rfl ?_
            refine y_icmp_lt C 68 dX12_ask_62 (by decide) (by exact ⟨⟨(by (clear fM216 hM216 h214 h213 ua212 la212 ea212 fM210 hM210 ih205 h111 fM109 hM109 h107 h105 pM101 hM101 eM101 hret C hp0 ha1 hcw hpr hM0; omega)), h218.2.1⟩, ⟨(by (clear fM216 hM216 h214 h213 ua212 la212 ea212 fM210 hM210 ih205 h111 fM109 hM109 h107 h105 pM101 hM101 eM101 hret C hp0 ha1 hcw hpr hM0; omega)), (by (clear fM216 hM216 h214 h213 ua212 la212 ea212 fM210 hM210 ih205 h111 fM109 hM109 h107 h105 pM101 hM101 eM101 hret C hp0 ha1 hcw hpr hM0; omega))⟩⟩) (fun h220 => ?_) (fun h220 => ?_)
            · refine j_iload C 5 dX12_ask_68 rfl ?_
              refine j_istore_n C 3 [(3, .int (sI a209)), (7, .int (sI a219)), (0, .ref (ad 98)), (4, .int (sI a208)), (5, .int (sI a112)), (6, .int (sI a209))] dX12_ask_70 rfl (by decide) rfl ?_
              refine j_iload C 1 dX12_ask_71 rfl ?_
              refine j_istore C 4 [(4, .int (sI a219)), (3, .int (sI a209)), (7, .int (sI a219)), (0, .ref (ad 98)), (5, .int (sI a112)), (6, .int (sI a209))] dX12_ask_73 (by decide) rfl ?_
              refine y_iinc C 5 [(6, .int (sI (a209 + 1))), (4, .int (sI a219)), (3, .int (sI a209)), (7, .int (sI a219)), (0, .ref (ad 98)), (5, .int (sI a112))] dX12_ask_75 rfl (by decide) rfl ?_
              refine j_goto C 34 dX12_ask_78 (by decide) ?_
              refine j_lv [4, 2, 1, 5, 0] rfl ?_; exact ih205 a209 a219 (a209 + 1) M216 (by exact ⟨(by (clear fM216 hM216 h214 fM210 hM210 ih205 h111 fM109 hM109 h107 h105 pM101 hM101 eM101 hret C hp0 ha1 hcw hpr hM0; omega)), ⟨(by (clear fM216 hM216 h214 fM210 hM210 ih205 h111 fM109 hM109 h107 h105 pM101 hM101 eM101 hret C hp0 ha1 hcw hpr hM0; omega)), ⟨h218.1, ⟨(by (clear fM216 hM216 h214 fM210 hM210 ih205 h111 fM109 hM109 h107 h105 pM101 hM101 eM101 hret C hp0 ha1 hcw hpr hM0; omega)), ⟨(by (clear fM216 hM216 h214 fM210 hM210 ih205 h111 fM109 hM109 h107 h105 pM101 hM101 eM101 hret C hp0 ha1 hcw hpr hM0; omega)), ⟨(by (clear fM216 hM216 h214 fM210 hM210 ih205 h111 fM109 hM109 h107 h105 pM101 hM101 eM101 hret C hp0 ha1 hcw hpr hM0; omega)), ⟨h218.2.2, (by (clear fM216 hM216 h214 fM210 hM210 ih205 h111 fM109 hM109 h107 h105 pM101 hM101 eM101 hret C hp0 ha1 hcw hpr hM0; omega))⟩⟩⟩⟩⟩⟩⟩) hM216 ((FR.rf.tr fM210 (by decide)).tr fM216 (by decide))
            · refine j_goto C 75 dX12_ask_65 (by decide) ?_
              refine y_iinc C 5 [(6, .int (sI (a209 + 1))), (7, .int (sI a219)), (0, .ref (ad 98)), (3, .int (sI a207)), (4, .int (sI a208)), (5, .int (sI a112))] dX12_ask_75 rfl (by decide) rfl ?_
              refine j_goto C 34 dX12_ask_78 (by decide) ?_
              refine j_lv [2, 3, 4, 5, 0] rfl ?_; exact ih205 a207 a208 (a209 + 1) M216 (by exact ⟨h211.1, ⟨h211.2.1, ⟨h211.2.2.1, ⟨h211.2.2.2.1, ⟨(by (clear h220 fM216 hM216 h214 fM210 hM210 ih205 h111 fM109 hM109 h107 h105 pM101 hM101 eM101 hret C hp0 ha1 hcw hpr hM0; omega)), ⟨(by (clear h220 fM216 hM216 h214 fM210 hM210 ih205 h111 fM109 hM109 h107 h105 pM101 hM101 eM101 hret C hp0 ha1 hcw hpr hM0; omega)), ⟨h218.2.2, (by (clear h220 fM216 hM216 h214 fM210 hM210 ih205 h111 fM109 hM109 h107 h105 pM101 hM101 eM101 hret C hp0 ha1 hcw hpr hM0; omega))⟩⟩⟩⟩⟩⟩⟩) hM216 ((FR.rf.tr fM210 (by decide)).tr fM216 (by decide))
    refine j_lv [5, 3, 2, 1, 0] rfl ?_; exact L206 536870922 (-1) 268435456 0 M109 (by exact ⟨(by decide), ⟨(by decide), ⟨(by decide), ⟨(by decide), ⟨(by decide), ⟨(by decide), ⟨h111.2.2, (by decide)⟩⟩⟩⟩⟩⟩⟩) hM109 ((FR.rf.wI eM101 (by decide)).tr fM109 (by decide))
  · refine j_iload_n C 0 2 dX12_ask_15 rfl rfl ?_
    exact hret _ _ _ _ dX12_ask_16 ⟨a106, rfl, hM101, (FR.rf.wI eM101 (by decide)), by exact ⟨h105.1, ⟨(by (clear h107 hM101 eM101 hret C hp0 ha1 hcw hpr hM0; omega)), pM101⟩⟩⟩
set_option maxHeartbeats 4000000 in
theorem s1_X12_noGone {l : Launch} {dC : Nat → ClassId} {dI : Nat → Nat → Nat} {ad : Nat → Nat} {cA : Nat → ClassId} {pr : Nat → Nat → Bool} {Kz : mm_M} {M0 : mm_M} (hM0 : INV pr Kz M0) (a1 : Int) (ha1 : -2147483648 ≤ a1 ∧ a1 ≤ 2147483647) : Ci l 2 yX12_noGone wsX12_noGone dC dI ad cA [.ref (ad 98), .int (sI a1)] M0 (fun r M' => ∃ a : Int, r = sI a ∧ M0 = M' ∧ (-6) ≤ a ∧ a ≤ 0 ∧ (a = 0 ∧ 0 ≤ a1 ∧ a1 ≤ 3 ∨ ¬ a = 0)) := by
  refine ci_of (cc := cX12_noGone) (maxL := 4) (ty := .int) (lv := [(0, .ref (ad 98)), (1, .int (sI a1))]) (by decide) rfl (fun r M' hp => rfl) (Nat.le_of_ble_eq_true rfl) rfl ?_
  intro p e s m args below meth c A Q C hret
  refine j_aload_n C 0 0 dX12_noGone_0 rfl rfl ?_
  refine j_iload_n C 1 1 dX12_noGone_1 rfl rfl ?_
  refine j_callVi C (d := 1) (As := [.int (sI a1)]) (st := []) 98 (s_lt rfl rfl) (s_kc (c := 11) rfl rfl) (by decide) rfl (s1_X12_noTray hM0 a1 (by exact ⟨ha1.1, ha1.2⟩)) gX12_noGone_X12_noTray rfl hdX12_noTray (by decide) (Nat.le_of_ble_eq_true rfl) dX12_noGone_2 rfl (fun r101 M102 h103 => ?_)
  obtain ⟨a105, rfl, rfl, h104⟩ := h103
  refine j_istore_n C 2 [(2, .int (sI a105)), (0, .ref (ad 98)), (1, .int (sI a1))] dX12_noGone_5 rfl (by decide) rfl ?_
  refine j_iload_n C 0 2 dX12_noGone_6 rfl rfl ?_
  refine y_if_eq C 12 dX12_noGone_7 (by decide) (by omega) (fun h106 => ?_) (fun h106 => ?_)
  · refine j_aload_n C 1 0 dX12_noGone_12 rfl rfl ?_
    refine y_getC C 11 116 fX12_noGone_70 rfl rfl ft_11_30 sm_11_30 rfl hM0 dX12_noGone_13 ?_
    refine j_iload_n C 2 1 dX12_noGone_16 rfl rfl ?_
    refine y_iald C 62 4 _ _ rfl rfl rfl ak_62 an_62 rfl (sb_62 _) hM0 dX12_noGone_17 (by omega) (fun a107 ea107 la107 ua107 => ?_)
    obtain rfl : a107 = (M0.1 116 (a1).toNat).toInt := ea107
    refine y_i2l C dX12_noGone_18 (by omega) ?_
    refine y_lconst C 1 dX12_noGone_19 rfl ?_
    refine y_ldc2 C 10 dX12_noGone_20 kX12_noGone_300 rfl ?_
    refine j_callSi C (d := 0) (As := [.long (sJ (M0.1 116 (a1).toNat).toInt), .long (sJ 1), .long (sJ 10)]) (st := []) (s1_X12_within hM0 (M0.1 116 (a1).toNat).toInt (by omega) 1 (by exact ⟨(by decide), (by decide)⟩) 10 (by exact ⟨(by decide), (by decide)⟩)) gX12_noGone_X12_within rfl hdX12_withins (by decide) (Nat.le_of_ble_eq_true rfl) dX12_noGone_23 rfl (fun r108 M109 h110 => ?_)
    obtain ⟨a112, rfl, rfl, h111⟩ := h110
    refine y_if_ne C 32 dX12_noGone_26 (by decide) (by omega) (fun h113 => ?_) (fun h113 => ?_)
    · refine y_iconst C dX12_noGone_32 ?_
      refine j_istore_n C 3 [(3, .int (sI 0)), (2, .int (sI a105)), (0, .ref (ad 98)), (1, .int (sI a1))] dX12_noGone_33 rfl (by decide) rfl ?_
      have L248 : ∀ (n246 : Nat), ∀ (a249 : Int), (0 ≤ a249 ∧ a249 ≤ 10 ∧ (10 - a249) < (n246 : Int)) → jj p l e (cn_R 2) s m args below meth c 0 0 Q 4 dC dI ad cA A M0 34 [(0, .ref (ad 98)), (1, .int (sI a1)), (3, .int (sI a249))] [] := by
        intro n246
        induction n246 with
        | zero =>
          intro a249 h250
          exfalso; omega
        | succ n246 ih247 =>
          intro a249 h250
          refine j_iload_n C 2 3 dX12_noGone_34 rfl rfl ?_
          refine j_aload_n C 0 0 dX12_noGone_35 rfl rfl ?_
          refine y_getC C 11 116 fX12_noGone_70 rfl rfl ft_11_30 sm_11_30 rfl hM0 dX12_noGone_36 ?_
          refine j_iload_n C 1 1 dX12_noGone_39 rfl rfl ?_
          refine y_iald C 62 4 _ _ rfl rfl rfl ak_62 an_62 rfl (sb_62 _) hM0 dX12_noGone_40 (by (clear h250 ih247 ua107 la107 hret C hM0; omega)) (fun a251 ea251 la251 ua251 => ?_)
          obtain rfl : a251 = (M0.1 116 (a1).toNat).toInt := ea251
          refine y_icmp_ge C 89 dX12_noGone_41 (by decide) (by (clear ua251 la251 ih247 h113 h111 h106 h104 hret C ha1 hM0; omega)) (fun h252 => ?_) (fun h252 => ?_)
          · refine y_iconst C dX12_noGone_89 ?_
            exact hret _ _ _ _ dX12_noGone_90 ⟨0, rfl, rfl, by exact ⟨(by decide), ⟨(by decide), (by (clear h252 ua251 la251 h250 ih247 ua107 la107 hret C hM0; omega))⟩⟩⟩
          · refine j_aload_n C 0 0 dX12_noGone_44 rfl rfl ?_
            refine y_getC C 11 117 fX12_noGone_73 rfl rfl ft_11_31 sm_11_31 rfl hM0 dX12_noGone_45 ?_
            refine y_bipush C dX12_noGone_48 rfl ?_
            refine j_iload_n C 1 1 dX12_noGone_50 rfl rfl ?_
            refine y_imul C dX12_noGone_51 ?_
            refine j_iload_n C 2 3 dX12_noGone_52 rfl rfl ?_
            refine y_iadd C dX12_noGone_53 ?_
            refine y_lald C 63 160 rfl rfl rfl ak_63 an_63 rfl dX12_noGone_54 (by (clear ua251 la251 ih247 hret C hM0; omega)) (fun a253 ea253 la253 ua253 => ?_)
            obtain rfl : a253 = (M0.2.1 117 (((40 * a1) + a249)).toNat).toInt := ea253
            refine y_ldc2 C (-1) dX12_noGone_55 kX12_noGone_302 rfl ?_
            refine y_lcmp_eq C 83 dX12_noGone_58 dX12_noGone_59 (by decide) (by exact ⟨⟨la253, ua253⟩, ⟨(by decide), (by decide)⟩⟩) (fun h254 => ?_) (fun h254 => ?_)
            · refine y_iinc C 2 [(3, .int (sI (a249 + 1))), (0, .ref (ad 98)), (1, .int (sI a1))] dX12_noGone_83 rfl (by decide) rfl ?_
              refine j_goto C 34 dX12_noGone_86 (by decide) ?_
              refine j_lv [1, 2, 0] rfl ?_; exact ih247 (a249 + 1) (by (clear h254 ua253 la253 ua251 la251 ih247 h106 h104 hret C ha1 hM0; omega))
            · refine j_aload_n C 0 0 dX12_noGone_62 rfl rfl ?_
              refine j_aload_n C 0 0 dX12_noGone_63 rfl rfl ?_
              refine y_getC C 11 117 fX12_noGone_73 rfl rfl ft_11_31 sm_11_31 rfl hM0 dX12_noGone_64 ?_
              refine y_bipush C dX12_noGone_67 rfl ?_
              refine j_iload_n C 1 1 dX12_noGone_69 rfl rfl ?_
              refine y_imul C dX12_noGone_70 ?_
              refine j_iload_n C 2 3 dX12_noGone_71 rfl rfl ?_
              refine y_iadd C dX12_noGone_72 ?_
              refine y_lald C 63 160 rfl rfl rfl ak_63 an_63 rfl dX12_noGone_73 (by (clear ua253 la253 ua251 la251 ih247 hret C hM0; omega)) (fun a255 ea255 la255 ua255 => ?_)
              obtain rfl : a255 = (M0.2.1 117 (((40 * a1) + a249)).toNat).toInt := ea255
              refine j_callVi C (d := 1) (As := [.long (sJ (M0.2.1 117 (((40 * a1) + a249)).toNat).toInt)]) (st := []) 98 (s_lt rfl rfl) (s_kc (c := 11) rfl rfl) (by decide) rfl (s1_X12_isKind hM0 (M0.2.1 117 (((40 * a1) + a249)).toNat).toInt (by exact ⟨la253, ua253⟩)) gX12_noGone_X12_isKind rfl hdX12_isKind (by decide) (Nat.le_of_ble_eq_true rfl) dX12_noGone_74 rfl (fun r256 M257 h258 => ?_)
              obtain ⟨a260, rfl, rfl, h259⟩ := h258
              refine y_if_ne C 83 dX12_noGone_77 (by decide) (by omega) (fun h261 => ?_) (fun h261 => ?_)
              · refine y_iinc C 2 [(3, .int (sI (a249 + 1))), (0, .ref (ad 98)), (1, .int (sI a1))] dX12_noGone_83 rfl (by decide) rfl ?_
                refine j_goto C 34 dX12_noGone_86 (by decide) ?_
                refine j_lv [1, 2, 0] rfl ?_; exact ih247 (a249 + 1) (by (clear ua255 la255 ua251 la251 ih247 h106 h104 hret C ha1 hM0; omega))
              · refine y_bipush C dX12_noGone_80 rfl ?_
                exact hret _ _ _ _ dX12_noGone_82 ⟨(-3), rfl, rfl, by exact ⟨(by decide), ⟨(by decide), (by omega)⟩⟩⟩
      refine j_lv [2, 3, 0] rfl ?_; exact L248 2010 0 (by exact ⟨(by decide), ⟨(by decide), (by decide)⟩⟩)
    · refine y_bipush C dX12_noGone_29 rfl ?_
      exact hret _ _ _ _ dX12_noGone_31 ⟨(-4), rfl, rfl, by exact ⟨(by decide), ⟨(by decide), (by omega)⟩⟩⟩
  · refine j_iload_n C 0 2 dX12_noGone_10 rfl rfl ?_
    exact hret _ _ _ _ dX12_noGone_11 ⟨a105, rfl, rfl, by exact ⟨h104.1, ⟨h104.2.1, (by (clear hret C ha1 hM0; omega))⟩⟩⟩
set_option maxHeartbeats 4000000 in
theorem s1_X12_cameBy {l : Launch} {dC : Nat → ClassId} {dI : Nat → Nat → Nat} {ad : Nat → Nat} {cA : Nat → ClassId} {pr : Nat → Nat → Bool} {Kz : mm_M} {M0 : mm_M} (hM0 : INV pr Kz M0) (hpr : PM pr) (hcw : CWK pr Kz) (a1 : Int) (ha1 : -2147483648 ≤ a1 ∧ a1 ≤ 2147483647) (a2 : Int) (ha2 : -2147483648 ≤ a2 ∧ a2 ≤ 2147483647) (a3 : Int) (ha3 : -2147483648 ≤ a3 ∧ a3 ≤ 2147483647) (hp0 : 0 ≤ a1 ∧ a1 ≤ 3) (hp1 : b01 (PI M0) = 1) : Cj l 5 yX12_cameBy wsX12_cameBy dC dI ad cA [.ref (ad 98), .int (sI a1), .int (sI a2), .int (sI a3)] M0 (fun r M' => ∃ a : Int, r = sJ a ∧ INV pr Kz M' ∧ FR [103, 104, 106, 110, 111] M0 M' ∧ (-9223372036854775808) ≤ a ∧ a ≤ 9223372036854775807 ∧ (b01 (PI M') = 1)) := by
  refine cj_of (cc := cX12_cameBy) (maxL := 5) (lv := [(0, .ref (ad 98)), (1, .int (sI a1)), (2, .int (sI a2)), (3, .int (sI a3))]) (by decide) rfl (Nat.le_of_ble_eq_true rfl) rfl ?_
  intro p e s m args below meth c A Q C hret
  refine j_aload_n C 0 0 dX12_cameBy_0 rfl rfl ?_
  refine j_callVv C (d := 4) (As := []) (st := []) 98 (s_lt rfl rfl) (s_kc (c := 11) rfl rfl) (by decide) rfl (s1_X12_laysBuys hM0 hpr hcw (by exact hp1)) gX12_cameBy_X12_laysBuys rfl hdX12_laysBuys (by decide) (Nat.le_of_ble_eq_true rfl) dX12_cameBy_1 rfl (fun M102 h103 => ?_)
  obtain ⟨hM102, fM102, h104⟩ := h103
  refine j_aload_n C 0 0 dX12_cameBy_4 rfl rfl ?_
  refine j_callVv C (d := 0) (As := []) (st := []) 98 (s_lt rfl rfl) (s_kc (c := 11) rfl rfl) (by decide) rfl (s1_X12_beginsRows hM102 hpr (by exact h104.2.2)) gX12_cameBy_X12_beginsRows rfl hdX12_beginsRows (by decide) (Nat.le_of_ble_eq_true rfl) dX12_cameBy_5 rfl (fun M106 h107 => ?_)
  obtain ⟨hM106, fM106, h108⟩ := h107
  refine y_iconst C dX12_cameBy_8 ?_
  refine j_istore C 4 [(4, .int (sI 0)), (0, .ref (ad 98)), (1, .int (sI a1)), (2, .int (sI a2)), (3, .int (sI a3))] dX12_cameBy_9 (by decide) rfl ?_
  have L349 : ∀ (n347 : Nat), ∀ (a350 : Int) (M351 : mm_M), (0 ≤ a350 ∧ a350 ≤ 40 ∧ (b01 (PI M351) = 1) ∧ (40 - a350) < (n347 : Int)) → INV pr Kz M351 → FR [103, 104, 106, 110, 111] M0 M351 → jj p l e (cn_R 5) s m args below meth c 0 0 Q 5 dC dI ad cA A M351 11 [(0, .ref (ad 98)), (1, .int (sI a1)), (2, .int (sI a2)), (3, .int (sI a3)), (4, .int (sI a350))] [] := by
    intro n347
    induction n347 with
    | zero =>
      intro a350 M351 h352 hM351 fM351
      exfalso; omega
    | succ n347 ih348 =>
      intro a350 M351 h352 hM351 fM351
      refine j_iload C 4 dX12_cameBy_11 rfl ?_
      refine j_aload_n C 0 0 dX12_cameBy_13 rfl rfl ?_
      refine y_getC C 11 116 fX12_cameBy_70 rfl rfl ft_11_30 sm_11_30 rfl hM351 dX12_cameBy_14 ?_
      refine j_iload_n C 1 1 dX12_cameBy_17 rfl rfl ?_
      refine y_iald C 62 4 _ _ rfl rfl rfl ak_62 an_62 rfl (sb_62 _) hM351 dX12_cameBy_18 (by exact ⟨hp0.1, (by (clear fM351 hM351 h352 ih348 h108 fM106 hM106 h104 fM102 hM102 hret C hp1 ha3 ha2 hcw hpr hM0; omega))⟩) (fun a353 ea353 la353 ua353 => ?_)
      obtain rfl : a353 = (M0.1 116 (a1).toNat).toInt := s_fF fM351 (by decide) (ea353)
      refine y_icmp_ge C 56 dX12_cameBy_19 (by decide) (by (clear fM351 hM351 ih348 h108 fM106 hM106 h104 fM102 hM102 hret C hp1 hp0 ha3 ha2 ha1 hcw hpr hM0; omega)) (fun h354 => ?_) (fun h354 => ?_)
      · refine j_aload_n C 0 0 dX12_cameBy_56 rfl rfl ?_
        refine j_callVj C (d := 0) (As := []) (st := []) 98 (s_lt rfl rfl) (s_kc (c := 11) rfl rfl) (by decide) rfl (s1_X12_sumRows hM351) gX12_cameBy_X12_sumRows rfl hdX12_sumRows (by decide) (Nat.le_of_ble_eq_true rfl) dX12_cameBy_57 rfl (fun r365 M366 h367 => ?_)
        obtain ⟨a369, rfl, rfl, h368⟩ := h367
        exact hret _ _ _ _ dX12_cameBy_60 ⟨a369, rfl, hM351, (FR.rf.tr fM351 (by decide)), by exact ⟨h368.1, ⟨h368.2, h352.2.2.1⟩⟩⟩
      · refine j_aload_n C 0 0 dX12_cameBy_22 rfl rfl ?_
        refine j_aload_n C 0 0 dX12_cameBy_23 rfl rfl ?_
        refine y_getC C 11 117 fX12_cameBy_73 rfl rfl ft_11_31 sm_11_31 rfl hM351 dX12_cameBy_24 ?_
        refine y_bipush C dX12_cameBy_27 rfl ?_
        refine j_iload_n C 1 1 dX12_cameBy_29 rfl rfl ?_
        refine y_imul C dX12_cameBy_30 ?_
        refine j_iload C 4 dX12_cameBy_31 rfl ?_
        refine y_iadd C dX12_cameBy_33 ?_
        refine y_lald C 63 160 rfl rfl rfl ak_63 an_63 rfl dX12_cameBy_34 (by (clear fM351 hM351 ih348 h108 fM106 hM106 h104 fM102 hM102 hret C hp1 ha3 ha2 hcw hpr hM0; omega)) (fun a355 ea355 la355 ua355 => ?_)
        obtain rfl : a355 = (M0.2.1 117 (((40 * a1) + a350)).toNat).toInt := s_gF fM351 (by decide) (ea355)
        refine y_l2i C dX12_cameBy_35 ?_
        refine y_topI (fun a356 la356 ua356 => ?_)
        refine j_iload C 4 dX12_cameBy_36 rfl ?_
        refine j_iload_n C 2 2 dX12_cameBy_38 rfl rfl ?_
        have J359 : ∀ (a358 : Int), ((-2147483648) ≤ a358 ∧ a358 ≤ 2147483647) → jj p l e (cn_R 5) s m args below meth c 0 0 Q 5 dC dI ad cA A M351 47 [(0, .ref (ad 98)), (1, .int (sI a1)), (2, .int (sI a2)), (3, .int (sI a3)), (4, .int (sI a350))] [.int (sI a358), .int (sI a356), .ref (ad 98)] := by
          intro a358 h360
          refine j_callVv C (d := 1) (As := [.int (sI a356), .int (sI a358)]) (st := []) 98 (s_lt rfl rfl) (s_kc (c := 11) rfl rfl) (by decide) rfl (s1_X12_goesRows hM351 hpr a356 (by exact ⟨la356, ua356⟩) a358 (by exact ⟨h360.1, h360.2⟩) (by exact h352.2.2.1)) gX12_cameBy_X12_goesRows rfl hdX12_goesRows (by decide) (Nat.le_of_ble_eq_true rfl) dX12_cameBy_47 rfl (fun M362 h363 => ?_)
          obtain ⟨hM362, fM362, h364⟩ := h363
          refine y_iinc C 4 [(4, .int (sI (a350 + 1))), (0, .ref (ad 98)), (1, .int (sI a1)), (2, .int (sI a2)), (3, .int (sI a3))] dX12_cameBy_50 rfl (by decide) rfl ?_
          refine j_goto C 11 dX12_cameBy_53 (by decide) ?_
          refine j_lv [1, 2, 3, 4, 0] rfl ?_; exact ih348 (a350 + 1) M362 (by exact ⟨(by (clear fM362 hM362 h360 ua356 la356 ua355 la355 ea355 fM351 hM351 ih348 h108 fM106 hM106 h104 fM102 hM102 hret C hp1 hp0 ha3 ha2 ha1 hcw hpr hM0; omega)), ⟨(by (clear fM362 hM362 h360 ua356 la356 ua355 la355 ea355 fM351 hM351 ih348 h108 fM106 hM106 h104 fM102 hM102 hret C hp1 hp0 ha3 ha2 ha1 hcw hpr hM0; omega)), ⟨h364, (by (clear fM362 hM362 h360 ua356 la356 ua355 la355 ea355 fM351 hM351 ih348 h108 fM106 hM106 h104 fM102 hM102 hret C hp1 hp0 ha3 ha2 ha1 hcw hpr hM0; omega))⟩⟩⟩) hM362 ((FR.rf.tr fM351 (by decide)).tr fM362 (by decide))
        refine y_icmp_ne C 46 dX12_cameBy_39 (by decide) (by exact ⟨⟨(by (clear J359 ua356 la356 ua355 la355 ea355 h354 ua353 la353 ea353 fM351 hM351 ih348 h108 fM106 hM106 h104 fM102 hM102 hret C hp1 hp0 ha3 ha1 hcw hpr hM0; omega)), (by (clear J359 ua356 la356 ua355 la355 ea355 h354 ua353 la353 ea353 fM351 hM351 ih348 h108 fM106 hM106 h104 fM102 hM102 hret C hp1 hp0 ha3 ha1 hcw hpr hM0; omega))⟩, ⟨ha2.1, ha2.2⟩⟩) (fun h357 => ?_) (fun h357 => ?_)
        · refine y_iconst C dX12_cameBy_46 ?_
          exact J359 (-1) (by exact ⟨(by decide), (by decide)⟩)
        · refine j_iload_n C 3 3 dX12_cameBy_42 rfl rfl ?_
          refine j_goto C 47 dX12_cameBy_43 (by decide) ?_
          exact J359 a3 (by exact ⟨ha3.1, ha3.2⟩)
  refine j_lv [1, 2, 3, 4, 0] rfl ?_; exact L349 2010 0 M106 (by exact ⟨(by decide), ⟨(by decide), ⟨h108, (by decide)⟩⟩⟩) hM106 ((FR.rf.tr fM102 (by decide)).tr fM106 (by decide))
set_option maxHeartbeats 4000000 in
theorem s1_X12_came {l : Launch} {dC : Nat → ClassId} {dI : Nat → Nat → Nat} {ad : Nat → Nat} {cA : Nat → ClassId} {pr : Nat → Nat → Bool} {Kz : mm_M} {M0 : mm_M} (hM0 : INV pr Kz M0) (hpr : PM pr) (hcw : CWK pr Kz) (a1 : Int) (ha1 : -2147483648 ≤ a1 ∧ a1 ≤ 2147483647) (hp0 : b01 (PI M0) = 1) : Cj l 6 yX12_came wsX12_came dC dI ad cA [.ref (ad 98), .int (sI a1)] M0 (fun r M' => ∃ a : Int, r = sJ a ∧ INV pr Kz M' ∧ FR [98, 103, 104, 106, 110, 111] M0 M' ∧ (-9223372036854775808) ≤ a ∧ a ≤ 9223372036854775807 ∧ (b01 (PI M') = 1)) := by
  refine cj_of (cc := cX12_came) (maxL := 3) (lv := [(0, .ref (ad 98)), (1, .int (sI a1))]) (by decide) rfl (Nat.le_of_ble_eq_true rfl) rfl ?_
  intro p e s m args below meth c A Q C hret
  refine j_aload_n C 0 0 dX12_came_0 rfl rfl ?_
  refine y_iconst C dX12_came_1 ?_
  refine y_putIF C 11 qX12_came_1 rfl rfl ft_11_0 sb_11_0 hM0 (PM.w hpr rfl rfl) dX12_came_2 (fun M101 eM101 hM101 => ?_)
  have pM101 := pi_o eM101 (by decide) (by decide) (by exact hp0)
  refine j_aload_n C 0 0 dX12_came_5 rfl rfl ?_
  refine j_iload_n C 1 1 dX12_came_6 rfl rfl ?_
  refine j_callVi C (d := 2) (As := [.int (sI a1)]) (st := []) 98 (s_lt rfl rfl) (s_kc (c := 11) rfl rfl) (by decide) rfl (s1_X12_noGone hM101 a1 (by exact ⟨ha1.1, ha1.2⟩)) gX12_came_X12_noGone rfl hdX12_noGone (by decide) (Nat.le_of_ble_eq_true rfl) dX12_came_7 rfl (fun r102 M103 h104 => ?_)
  obtain ⟨a106, rfl, rfl, h105⟩ := h104
  refine j_istore_n C 2 [(2, .int (sI a106)), (0, .ref (ad 98)), (1, .int (sI a1))] dX12_came_10 rfl (by decide) rfl ?_
  refine j_iload_n C 0 2 dX12_came_11 rfl rfl ?_
  refine y_if_eq C 20 dX12_came_12 (by decide) (by omega) (fun h107 => ?_) (fun h107 => ?_)
  · refine j_aload_n C 1 0 dX12_came_20 rfl rfl ?_
    refine j_iload_n C 2 1 dX12_came_21 rfl rfl ?_
    refine y_iconst C dX12_came_22 ?_
    refine y_iconst C dX12_came_23 ?_
    refine j_callVj C (d := 5) (As := [.int (sI a1), .int (sI (-1)), .int (sI (-1))]) (st := []) 98 (s_lt rfl rfl) (s_kc (c := 11) rfl rfl) (by decide) rfl (s1_X12_cameBy hM101 hpr hcw a1 (by exact ⟨ha1.1, ha1.2⟩) (-1) (by exact ⟨(by decide), (by decide)⟩) (-1) (by exact ⟨(by decide), (by decide)⟩) (by (clear pM101 hM101 eM101 hret C hp0 hcw hpr hM0; omega)) (by exact pM101)) gX12_came_X12_cameBy rfl hdX12_cameBy (by decide) (Nat.le_of_ble_eq_true rfl) dX12_came_24 rfl (fun r108 M109 h110 => ?_)
    obtain ⟨a112, rfl, hM109, fM109, h111⟩ := h110
    exact hret _ _ _ _ dX12_came_27 ⟨a112, rfl, hM109, ((FR.rf.wI eM101 (by decide)).tr fM109 (by decide)), by exact ⟨h111.1, ⟨h111.2.1, h111.2.2⟩⟩⟩
  · refine j_iload_n C 0 2 dX12_came_15 rfl rfl ?_
    refine y_i2l C dX12_came_16 (by omega) ?_
    refine j_goto C 27 dX12_came_17 (by decide) ?_
    exact hret _ _ _ _ dX12_came_27 ⟨a106, rfl, hM101, (FR.rf.wI eM101 (by decide)), by exact ⟨(by (clear h107 hM101 eM101 hret C hp0 ha1 hcw hpr hM0; omega)), ⟨(by (clear h107 hM101 eM101 hret C hp0 ha1 hcw hpr hM0; omega)), pM101⟩⟩⟩
set_option maxHeartbeats 4000000 in
theorem s1_X12_who {l : Launch} {dC : Nat → ClassId} {dI : Nat → Nat → Nat} {ad : Nat → Nat} {cA : Nat → ClassId} {pr : Nat → Nat → Bool} {Kz : mm_M} {M0 : mm_M} (hM0 : INV pr Kz M0) (hpr : PM pr) (hcw : CWK pr Kz) (a1 : Int) (ha1 : -2147483648 ≤ a1 ∧ a1 ≤ 2147483647) (a2 : Int) (ha2 : -2147483648 ≤ a2 ∧ a2 ≤ 2147483647) (hp0 : b01 (PI M0) = 1) : Ci l 6 yX12_who wsX12_who dC dI ad cA [.ref (ad 98), .int (sI a1), .int (sI a2)] M0 (fun r M' => ∃ a : Int, r = sI a ∧ INV pr Kz M' ∧ FR [98, 103, 104, 106, 110, 111] M0 M' ∧ (-7) ≤ a ∧ a ≤ 63 ∧ (b01 (PI M') = 1)) := by
  refine ci_of (cc := cX12_who) (maxL := 6) (ty := .int) (lv := [(0, .ref (ad 98)), (1, .int (sI a1)), (2, .int (sI a2))]) (by decide) rfl (fun r M' hp => rfl) (Nat.le_of_ble_eq_true rfl) rfl ?_
  intro p e s m args below meth c A Q C hret
  refine j_aload_n C 0 0 dX12_who_0 rfl rfl ?_
  refine y_iconst C dX12_who_1 ?_
  refine y_putIF C 11 qX12_who_1 rfl rfl ft_11_0 sb_11_0 hM0 (PM.w hpr rfl rfl) dX12_who_2 (fun M101 eM101 hM101 => ?_)
  have pM101 := pi_o eM101 (by decide) (by decide) (by exact hp0)
  refine j_aload_n C 0 0 dX12_who_5 rfl rfl ?_
  refine j_iload_n C 1 1 dX12_who_6 rfl rfl ?_
  refine j_callVi C (d := 2) (As := [.int (sI a1)]) (st := []) 98 (s_lt rfl rfl) (s_kc (c := 11) rfl rfl) (by decide) rfl (s1_X12_noGone hM101 a1 (by exact ⟨ha1.1, ha1.2⟩)) gX12_who_X12_noGone rfl hdX12_noGone (by decide) (Nat.le_of_ble_eq_true rfl) dX12_who_7 rfl (fun r102 M103 h104 => ?_)
  obtain ⟨a106, rfl, rfl, h105⟩ := h104
  refine j_istore_n C 3 [(3, .int (sI a106)), (0, .ref (ad 98)), (1, .int (sI a1)), (2, .int (sI a2))] dX12_who_10 rfl (by decide) rfl ?_
  refine j_iload_n C 0 3 dX12_who_11 rfl rfl ?_
  refine y_if_eq C 17 dX12_who_12 (by decide) (by omega) (fun h107 => ?_) (fun h107 => ?_)
  · refine j_iload_n C 3 2 dX12_who_17 rfl rfl ?_
    refine y_i2l C dX12_who_18 (by exact ⟨ha2.1, ha2.2⟩) ?_
    refine y_lconst C 0 dX12_who_19 rfl ?_
    refine j_aload_n C 1 0 dX12_who_20 rfl rfl ?_
    refine y_getC C 11 116 fX12_who_70 rfl rfl ft_11_30 sm_11_30 rfl hM101 dX12_who_21 ?_
    refine j_iload_n C 2 1 dX12_who_24 rfl rfl ?_
    refine y_iald C 62 4 _ _ rfl rfl rfl ak_62 an_62 rfl (sb_62 _) hM101 dX12_who_25 (by (clear pM101 hM101 eM101 hret C hp0 ha2 hcw hpr hM0; omega)) (fun a108 ea108 la108 ua108 => ?_)
    obtain rfl : a108 = (M0.1 116 (a1).toNat).toInt := s_fa eM101 (by decide) (ea108)
    refine y_iconst C dX12_who_26 ?_
    refine y_isub C dX12_who_27 ?_
    refine y_i2l C dX12_who_28 (by (clear h107 h105 pM101 hM101 eM101 hret C hp0 ha2 ha1 hcw hpr hM0; omega)) ?_
    refine j_callSi C (d := 0) (As := [.long (sJ a2), .long (sJ 0), .long (sJ ((M0.1 116 (a1).toNat).toInt - 1))]) (st := []) (s1_X12_within hM101 a2 (by omega) 0 (by exact ⟨(by decide), (by decide)⟩) ((M0.1 116 (a1).toNat).toInt - 1) (by (clear h107 h105 pM101 hM101 eM101 hret C hp0 ha2 ha1 hcw hpr hM0; omega))) gX12_who_X12_within rfl hdX12_withins (by decide) (Nat.le_of_ble_eq_true rfl) dX12_who_29 rfl (fun r109 M110 h111 => ?_)
    obtain ⟨a113, rfl, rfl, h112⟩ := h111
    refine y_if_ne C 38 dX12_who_32 (by decide) (by omega) (fun h114 => ?_) (fun h114 => ?_)
    · refine y_iconst C dX12_who_38 ?_
      refine j_istore C 4 [(4, .int (sI 0)), (3, .int (sI a106)), (0, .ref (ad 98)), (1, .int (sI a1)), (2, .int (sI a2))] dX12_who_39 (by decide) rfl ?_
      refine y_iconst C dX12_who_41 ?_
      refine j_istore C 5 [(5, .int (sI 0)), (4, .int (sI 0)), (3, .int (sI a106)), (0, .ref (ad 98)), (1, .int (sI a1)), (2, .int (sI a2))] dX12_who_42 (by decide) rfl ?_
      have L215 : ∀ (n213 : Nat), ∀ (a216 : Int) (a217 : Int) (M218 : mm_M), (0 ≤ a216 ∧ a216 ≤ 63 ∧ 0 ≤ a217 ∧ a217 ≤ 6 ∧ (b01 (PI M218) = 1) ∧ (6 - a217) < (n213 : Int)) → INV pr Kz M218 → FR [98, 103, 104, 106, 110, 111] M0 M218 → jj p l e (cn_R 6) s m args below meth c 0 0 Q 6 dC dI ad cA A M218 44 [(0, .ref (ad 98)), (1, .int (sI a1)), (2, .int (sI a2)), (4, .int (sI a216)), (5, .int (sI a217))] [] := by
        intro n213
        induction n213 with
        | zero =>
          intro a216 a217 M218 h219 hM218 fM218
          exfalso; omega
        | succ n213 ih214 =>
          intro a216 a217 M218 h219 hM218 fM218
          refine j_iload C 4 dX12_who_44 rfl ?_
          refine j_aload_n C 0 0 dX12_who_46 rfl rfl ?_
          refine y_getC C 11 99 fX12_who_13 rfl rfl ft_11_1 sm_11_1 rfl hM218 dX12_who_47 ?_
          refine y_iconst C dX12_who_50 ?_
          refine y_ialdH C 45 3543 rfl rfl rfl ak_45 an_45 rfl _ _ hM218 (hr_45_1_1 _ (by exact (by decide)) (by exact (by decide))) dX12_who_51 (by exact ⟨(by decide), (by decide)⟩) (fun a220 ea220 la220 ua220 => ?_)
          obtain rfl : a220 = (M0.1 99 1).toInt := s_fF fM218 (by decide) (ea220)
          refine y_icmp_ge C 87 dX12_who_52 (by decide) (by (clear fM218 hM218 ih214 h114 h112 ua108 la108 ea108 h107 h105 pM101 hM101 eM101 hret C hp0 ha2 ha1 hcw hpr hM0; omega)) (fun h221 => ?_) (fun h221 => ?_)
          · refine j_iload C 3 dX12_who_87 rfl ?_
            exact hret _ _ _ _ dX12_who_89 ⟨a216, rfl, hM218, (FR.rf.tr fM218 (by decide)), by exact ⟨(by (clear h221 ua220 la220 ea220 fM218 hM218 ih214 h114 h112 ua108 la108 ea108 h107 h105 pM101 hM101 eM101 hret C hp0 ha2 ha1 hcw hpr hM0; omega)), ⟨h219.2.1, h219.2.2.2.2.1⟩⟩⟩
          · refine j_iload C 3 dX12_who_55 rfl ?_
            refine j_aload_n C 0 0 dX12_who_57 rfl rfl ?_
            refine j_iload_n C 1 1 dX12_who_58 rfl rfl ?_
            refine j_iload_n C 2 2 dX12_who_59 rfl rfl ?_
            refine j_iload C 4 dX12_who_60 rfl ?_
            refine j_callVj C (d := 5) (As := [.int (sI a1), .int (sI a2), .int (sI a217)]) (st := [.int (sI a216)]) 98 (s_lt rfl rfl) (s_kc (c := 11) rfl rfl) (by decide) rfl (s1_X12_cameBy hM218 hpr hcw a1 (by exact ⟨ha1.1, ha1.2⟩) a2 (by exact ⟨ha2.1, ha2.2⟩) a217 (by omega) (by (clear h221 ua220 la220 ea220 fM218 hM218 h219 ih214 ua108 la108 ea108 pM101 hM101 eM101 hret C hp0 ha2 hcw hpr hM0; omega)) (by exact h219.2.2.2.2.1)) gX12_who_X12_cameBy rfl hdX12_cameBy (by decide) (Nat.le_of_ble_eq_true rfl) dX12_who_62 rfl (fun r222 M223 h224 => ?_)
            obtain ⟨a226, rfl, hM223, fM223, h225⟩ := h224
            refine y_lconst C 0 dX12_who_65 rfl ?_
            refine y_lcmp_le C 77 dX12_who_66 dX12_who_67 (by decide) (by exact ⟨⟨h225.1, h225.2.1⟩, ⟨(by decide), (by decide)⟩⟩) (fun h227 => ?_) (fun h227 => ?_)
            · refine y_iconst C dX12_who_77 ?_
              refine e_iorN C 6 63 dX12_who_78 rfl (by decide) (by exact ⟨h219.1, ⟨h219.2.1, ⟨(by decide), (by decide)⟩⟩⟩) (fun lb228 ub228 ob228 => ?_)
              refine j_istore C 4 [(4, .int (sI (orI a216 0))), (0, .ref (ad 98)), (1, .int (sI a1)), (2, .int (sI a2)), (5, .int (sI a217))] dX12_who_79 (by decide) rfl ?_
              refine y_iinc C 4 [(5, .int (sI (a217 + 1))), (4, .int (sI (orI a216 0))), (0, .ref (ad 98)), (1, .int (sI a1)), (2, .int (sI a2))] dX12_who_81 rfl (by decide) rfl ?_
              refine j_goto C 44 dX12_who_84 (by decide) ?_
              refine j_lv [2, 3, 4, 1, 0] rfl ?_; exact ih214 (orI a216 0) (a217 + 1) M223 (by exact ⟨lb228, ⟨ub228, ⟨(by (clear ob228 h227 fM223 hM223 fM218 hM218 ih214 h114 h112 ua108 la108 ea108 h107 h105 pM101 hM101 eM101 hret C hp0 ha2 ha1 hcw hpr hM0; omega)), ⟨(by (clear ob228 h227 fM223 hM223 fM218 hM218 ih214 h114 h112 ua108 la108 ea108 h107 h105 pM101 hM101 eM101 hret C hp0 ha2 ha1 hcw hpr hM0; omega)), ⟨h225.2.2, (by (clear ob228 h227 fM223 hM223 fM218 hM218 ih214 h114 h112 ua108 la108 ea108 h107 h105 pM101 hM101 eM101 hret C hp0 ha2 ha1 hcw hpr hM0; omega))⟩⟩⟩⟩⟩) hM223 ((FR.rf.tr fM218 (by decide)).tr fM223 (by decide))
            · refine y_iconst C dX12_who_70 ?_
              refine j_iload C 4 dX12_who_71 rfl ?_
              refine e_shl1 C 5 32 dX12_who_73 rfl (by decide) (by exact ⟨h219.2.2.1, (by (clear h227 h225 fM223 hM223 fM218 hM218 ih214 h114 h112 ua108 la108 ea108 h107 h105 pM101 hM101 eM101 hret C hp0 ha2 ha1 hcw hpr hM0; omega))⟩) (fun lb229 ub229 => ?_)
              refine j_goto C 78 dX12_who_74 (by decide) ?_
              refine e_iorN C 6 63 dX12_who_78 rfl (by decide) (by exact ⟨h219.1, ⟨h219.2.1, ⟨(by (clear h227 h225 fM223 hM223 h221 ua220 la220 ea220 fM218 hM218 ih214 h114 h112 ua108 la108 ea108 h107 h105 pM101 hM101 eM101 hret C hp0 ha2 ha1 hcw hpr hM0; omega)), (by (clear h227 h225 fM223 hM223 h221 ua220 la220 ea220 fM218 hM218 ih214 h114 h112 ua108 la108 ea108 h107 h105 pM101 hM101 eM101 hret C hp0 ha2 ha1 hcw hpr hM0; omega))⟩⟩⟩) (fun lb230 ub230 ob230 => ?_)
              refine j_istore C 4 [(4, .int (sI (orI a216 (pw2 a217)))), (0, .ref (ad 98)), (1, .int (sI a1)), (2, .int (sI a2)), (5, .int (sI a217))] dX12_who_79 (by decide) rfl ?_
              refine y_iinc C 4 [(5, .int (sI (a217 + 1))), (4, .int (sI (orI a216 (pw2 a217)))), (0, .ref (ad 98)), (1, .int (sI a1)), (2, .int (sI a2))] dX12_who_81 rfl (by decide) rfl ?_
              refine j_goto C 44 dX12_who_84 (by decide) ?_
              refine j_lv [2, 3, 4, 1, 0] rfl ?_; exact ih214 (orI a216 (pw2 a217)) (a217 + 1) M223 (by exact ⟨lb230, ⟨ub230, ⟨(by (clear ob230 ub229 lb229 h227 fM223 hM223 fM218 hM218 ih214 h114 h112 ua108 la108 ea108 h107 h105 pM101 hM101 eM101 hret C hp0 ha2 ha1 hcw hpr hM0; omega)), ⟨(by (clear ob230 ub229 lb229 h227 fM223 hM223 fM218 hM218 ih214 h114 h112 ua108 la108 ea108 h107 h105 pM101 hM101 eM101 hret C hp0 ha2 ha1 hcw hpr hM0; omega)), ⟨h225.2.2, (by (clear ob230 ub229 lb229 h227 fM223 hM223 fM218 hM218 ih214 h114 h112 ua108 la108 ea108 h107 h105 pM101 hM101 eM101 hret C hp0 ha2 ha1 hcw hpr hM0; omega))⟩⟩⟩⟩⟩) hM223 ((FR.rf.tr fM218 (by decide)).tr fM223 (by decide))
      refine j_lv [3, 4, 5, 1, 0] rfl ?_; exact L215 2010 0 0 M101 (by exact ⟨(by decide), ⟨(by decide), ⟨(by decide), ⟨(by decide), ⟨pM101, (by decide)⟩⟩⟩⟩⟩) hM101 (FR.rf.wI eM101 (by decide))
    · refine y_bipush C dX12_who_35 rfl ?_
      exact hret _ _ _ _ dX12_who_37 ⟨(-7), rfl, hM101, (FR.rf.wI eM101 (by decide)), by exact ⟨(by decide), ⟨(by decide), pM101⟩⟩⟩
  · refine j_iload_n C 0 3 dX12_who_15 rfl rfl ?_
    exact hret _ _ _ _ dX12_who_16 ⟨a106, rfl, hM101, (FR.rf.wI eM101 (by decide)), by exact ⟨(by (clear h107 hM101 eM101 hret C hp0 ha2 ha1 hcw hpr hM0; omega)), ⟨(by (clear h107 hM101 eM101 hret C hp0 ha2 ha1 hcw hpr hM0; omega)), pM101⟩⟩⟩
set_option maxHeartbeats 4000000 in
theorem s1_X12_numbers {l : Launch} {dC : Nat → ClassId} {dI : Nat → Nat → Nat} {ad : Nat → Nat} {cA : Nat → ClassId} {pr : Nat → Nat → Bool} {Kz : mm_M} {M0 : mm_M} (hM0 : INV pr Kz M0) (hpr : PM pr) (hq61 : ∀ i k, s_c i = 61 → pr i k = false) (hq62 : ∀ i k, s_c i = 62 → pr i k = false) (a1 : Int) (ha1 : -2147483648 ≤ a1 ∧ a1 ≤ 2147483647) (a2 : Int) (ha2 : -2147483648 ≤ a2 ∧ a2 ≤ 2147483647) (a3 : Int) (ha3 : -2147483648 ≤ a3 ∧ a3 ≤ 2147483647) (hp0 : b01 (PI M0) = 1) : Ci l 1 yX12_numbers wsX12_numbers dC dI ad cA [.ref (ad 98), .int (sI a1), .int (sI a2), .int (sI a3)] M0 (fun r M' => ∃ a : Int, r = sI a ∧ INV pr Kz M' ∧ FR [98, 115, 116, 117] M0 M' ∧ (-3) ≤ a ∧ a ≤ 0 ∧ (a = nuF a1 a2 a3) ∧ (b01 (NBM M0 M' a1 a2 a3) = 1) ∧ (a = 0 ∧ b01 (M'.2.1 117 = zeJ (M0.2.1 117) (40 * a1).toNat (a3).toNat) = 1 ∨ a < 0 ∧ b01 (M'.2.1 117 = M0.2.1 117) = 1) ∧ (b01 (PI M') = 1)) := by
  refine ci_of (cc := cX12_numbers) (maxL := 5) (ty := .int) (lv := [(0, .ref (ad 98)), (1, .int (sI a1)), (2, .int (sI a2)), (3, .int (sI a3))]) (by decide) rfl (fun r M' hp => rfl) (Nat.le_of_ble_eq_true rfl) rfl ?_
  intro p e s m args below meth c A Q C hret
  refine j_aload_n C 0 0 dX12_numbers_0 rfl rfl ?_
  refine y_iconst C dX12_numbers_1 ?_
  refine y_putIF C 11 qX12_numbers_1 rfl rfl ft_11_0 sb_11_0 hM0 (PM.w hpr rfl rfl) dX12_numbers_2 (fun M101 eM101 hM101 => ?_)
  have pM101 := pi_o eM101 (by decide) (by decide) (by exact hp0)
  refine j_iload_n C 1 1 dX12_numbers_5 rfl rfl ?_
  refine y_i2l C dX12_numbers_6 (by exact ⟨ha1.1, ha1.2⟩) ?_
  refine y_lconst C 0 dX12_numbers_7 rfl ?_
  refine y_ldc2 C 3 dX12_numbers_8 kX12_numbers_325 rfl ?_
  refine j_callSi C (d := 0) (As := [.long (sJ a1), .long (sJ 0), .long (sJ 3)]) (st := []) (s1_X12_within hM101 a1 (by omega) 0 (by exact ⟨(by decide), (by decide)⟩) 3 (by exact ⟨(by decide), (by decide)⟩)) gX12_numbers_X12_within rfl hdX12_withins (by decide) (Nat.le_of_ble_eq_true rfl) dX12_numbers_11 rfl (fun r102 M103 h104 => ?_)
  obtain ⟨a106, rfl, rfl, h105⟩ := h104
  refine y_if_eq C 29 dX12_numbers_14 (by decide) (by omega) (fun h107 => ?_) (fun h107 => ?_)
  · refine y_bipush C dX12_numbers_29 rfl ?_
    have u108x := nbm_no (M := M0) (N := M101) (t := a1) (s := a2) (n := a3) eM101 (by (clear pM101 hM101 eM101 hret C hp0 ha3 ha2 hq62 hq61 hpr hM0; omega))
    have u109n := nuF_s a1 a2 a3
    have u109j : b01 (M101.2.1 117 = M0.2.1 117) = 1 := b01_i (wI_J eM101 117)
    exact hret _ _ _ _ dX12_numbers_31 ⟨(-2), rfl, hM101, (FR.rf.wI eM101 (by decide)), by exact ⟨(by decide), ⟨(by decide), ⟨(by (clear hM101 eM101 hret C hp0 ha3 ha2 hq62 hq61 hpr hM0; omega)), ⟨u108x, ⟨(by (clear hM101 eM101 hret C hp0 ha3 ha2 hq62 hq61 hpr hM0; omega)), pM101⟩⟩⟩⟩⟩⟩
  · refine j_iload_n C 2 2 dX12_numbers_17 rfl rfl ?_
    refine y_i2l C dX12_numbers_18 (by exact ⟨ha2.1, ha2.2⟩) ?_
    refine y_lconst C 0 dX12_numbers_19 rfl ?_
    refine y_ldc2 C 3 dX12_numbers_20 kX12_numbers_325 rfl ?_
    refine j_callSi C (d := 0) (As := [.long (sJ a2), .long (sJ 0), .long (sJ 3)]) (st := []) (s1_X12_within hM101 a2 (by omega) 0 (by exact ⟨(by decide), (by decide)⟩) 3 (by exact ⟨(by decide), (by decide)⟩)) gX12_numbers_X12_within rfl hdX12_withins (by decide) (Nat.le_of_ble_eq_true rfl) dX12_numbers_23 rfl (fun r110 M111 h112 => ?_)
    obtain ⟨a114, rfl, rfl, h113⟩ := h112
    refine y_if_ne C 32 dX12_numbers_26 (by decide) (by omega) (fun h115 => ?_) (fun h115 => ?_)
    · refine j_iload_n C 3 3 dX12_numbers_32 rfl rfl ?_
      refine y_i2l C dX12_numbers_33 (by exact ⟨ha3.1, ha3.2⟩) ?_
      refine y_lconst C 0 dX12_numbers_34 rfl ?_
      refine y_ldc2 C 40 dX12_numbers_35 kX12_numbers_336 rfl ?_
      refine j_callSi C (d := 0) (As := [.long (sJ a3), .long (sJ 0), .long (sJ 40)]) (st := []) (s1_X12_within hM101 a3 (by omega) 0 (by exact ⟨(by decide), (by decide)⟩) 40 (by exact ⟨(by decide), (by decide)⟩)) gX12_numbers_X12_within rfl hdX12_withins (by decide) (Nat.le_of_ble_eq_true rfl) dX12_numbers_38 rfl (fun r116 M117 h118 => ?_)
      obtain ⟨a120, rfl, rfl, h119⟩ := h118
      refine y_if_ne C 47 dX12_numbers_41 (by decide) (by omega) (fun h121 => ?_) (fun h121 => ?_)
      · refine j_aload_n C 0 0 dX12_numbers_47 rfl rfl ?_
        refine y_getC C 11 115 fX12_numbers_67 rfl rfl ft_11_29 sm_11_29 rfl hM101 dX12_numbers_48 ?_
        refine j_iload_n C 1 1 dX12_numbers_51 rfl rfl ?_
        refine j_iload_n C 2 2 dX12_numbers_52 rfl rfl ?_
        refine y_iast C 61 4 _ _ rfl rfl rfl ak_61 an_61 rfl (sb_61 _) hM101 (hq61 _ _ rfl) dX12_numbers_53 (by (clear pM101 hM101 eM101 hret C hp0 ha3 ha2 hq62 hq61 hpr hM0; omega)) (by exact ⟨⟨ha2.1, ha2.2⟩, ⟨(by (clear h107 h105 pM101 hM101 eM101 hret C hp0 ha3 ha1 hq62 hq61 hpr hM0; omega)), (by (clear h107 h105 pM101 hM101 eM101 hret C hp0 ha3 ha1 hq62 hq61 hpr hM0; omega))⟩⟩) (fun M122 eM122 hM122 => ?_)
        have pM122 := pi_o eM122 (by decide) (by decide) (by exact pM101)
        refine j_aload_n C 0 0 dX12_numbers_54 rfl rfl ?_
        refine y_getC C 11 116 fX12_numbers_70 rfl rfl ft_11_30 sm_11_30 rfl hM122 dX12_numbers_55 ?_
        refine j_iload_n C 1 1 dX12_numbers_58 rfl rfl ?_
        refine j_iload_n C 3 3 dX12_numbers_59 rfl rfl ?_
        refine y_iast C 62 4 _ _ rfl rfl rfl ak_62 an_62 rfl (sb_62 _) hM122 (hq62 _ _ rfl) dX12_numbers_60 (by (clear pM122 hM122 eM122 pM101 hM101 eM101 hret C hp0 ha3 ha2 hq62 hq61 hpr hM0; omega)) (by exact ⟨⟨ha3.1, ha3.2⟩, ⟨(by (clear pM122 hM122 eM122 h115 h113 h107 h105 pM101 hM101 eM101 hret C hp0 ha2 ha1 hq62 hq61 hpr hM0; omega)), (by (clear pM122 hM122 eM122 h115 h113 h107 h105 pM101 hM101 eM101 hret C hp0 ha2 ha1 hq62 hq61 hpr hM0; omega))⟩⟩) (fun M123 eM123 hM123 => ?_)
        have pM123 := pi_o eM123 (by decide) (by decide) (by exact pM122)
        have hw1 := eM101
        have hw2 := eM122
        have hw3 := eM123
        obtain ⟨pr, Kz, hpr, hM123, hne, hbk⟩ := fzM [61, 62] hpr hM123
        refine y_iconst C dX12_numbers_61 ?_
        refine j_istore C 4 [(4, .int (sI 0)), (0, .ref (ad 98)), (1, .int (sI a1)), (2, .int (sI a2)), (3, .int (sI a3))] dX12_numbers_62 (by decide) rfl ?_
        have u125z := ze_0 (M0.2.1 117) (40 * a1).toNat
        have u125y : b01 (M123.2.1 117 = zeJ (M0.2.1 117) (40 * a1).toNat (0 : Int).toNat) = 1 := b01_i (((((wI_J eM123 117).trans (wI_J eM122 117)).trans (wI_J eM101 117))).trans (b01_e u125z))
        have L134 : ∀ (n132 : Nat), ∀ (a135 : Int) (M136 : mm_M), (0 ≤ a135 ∧ a135 ≤ 40 ∧ (b01 (M136.2.1 117 = zeJ (M0.2.1 117) (40 * a1).toNat (a135).toNat) = 1) ∧ (a135 ≤ a3) ∧ (b01 (PI M136) = 1) ∧ (40 - a135) < (n132 : Int)) → INV pr Kz M136 → FR [98, 115, 116, 117] M0 M136 → jj p l e (cn_R 1) s m args below meth c 0 0 Q 5 dC dI ad cA A M136 64 [(0, .ref (ad 98)), (1, .int (sI a1)), (3, .int (sI a3)), (4, .int (sI a135))] [] := by
          intro n132
          induction n132 with
          | zero =>
            intro a135 M136 h137 hM136 fM136
            exfalso; omega
          | succ n132 ih133 =>
            intro a135 M136 h137 hM136 fM136
            refine j_iload C 3 dX12_numbers_64 rfl ?_
            refine j_iload_n C 2 3 dX12_numbers_66 rfl rfl ?_
            refine y_icmp_ge C 89 dX12_numbers_67 (by decide) (by omega) (fun h139 => ?_) (fun h139 => ?_)
            · refine y_iconst C dX12_numbers_89 ?_
              have u142x := nbm_yes (N := M136) (t := a1) (s := a2) (n := a3) hw1 hw2 hw3 (hbk _ hM136).2 (by omega)
              have hM136 := (hbk _ hM136).1
              have u143n := nuF_s a1 a2 a3
              have u143x : a135 = a3 := by omega
              have u143y : b01 (M136.2.1 117 = zeJ (M0.2.1 117) (40 * a1).toNat (a3).toNat) = 1 := by rw [← u143x]; exact h137.2.2.1
              exact hret _ _ _ _ dX12_numbers_90 ⟨0, rfl, hM136, (FR.rf.tr fM136 (by decide)), by omega⟩
            · refine j_aload_n C 0 0 dX12_numbers_70 rfl rfl ?_
              refine y_getC C 11 117 fX12_numbers_73 rfl rfl ft_11_31 sm_11_31 rfl hM136 dX12_numbers_71 ?_
              refine y_bipush C dX12_numbers_74 rfl ?_
              refine j_iload_n C 1 1 dX12_numbers_76 rfl rfl ?_
              refine y_imul C dX12_numbers_77 ?_
              refine j_iload C 3 dX12_numbers_78 rfl ?_
              refine y_iadd C dX12_numbers_80 ?_
              refine y_lconst C 0 dX12_numbers_81 rfl ?_
              refine y_last C 63 160 rfl rfl rfl ak_63 an_63 rfl hM136 (PM.w hpr rfl rfl) dX12_numbers_82 (by omega) (fun M140 eM140 hM140 => ?_)
              have pM140 := pi_J eM140 (by exact h137.2.2.2.2.1)
              refine y_iinc C 3 [(4, .int (sI (a135 + 1))), (0, .ref (ad 98)), (1, .int (sI a1)), (3, .int (sI a3))] dX12_numbers_83 rfl (by decide) rfl ?_
              refine j_goto C 64 dX12_numbers_86 (by decide) ?_
              have u141z := ze_s (M := M136) (N := M140) (f := M0.2.1 117) (a := (40 * a1).toNat) (x := a135) (x' := (a135 + 1)) (by exact h137.2.2.1) eM140 (by omega)
              refine j_lv [1, 2, 3, 0] rfl ?_; exact ih133 (a135 + 1) M140 (by omega) hM140 ((FR.rf.tr fM136 (by decide)).wJ eM140 (by decide))
        refine j_lv [1, 2, 4, 0] rfl ?_; exact L134 2010 0 M123 (by omega) hM123 (((FR.rf.wI eM101 (by decide)).wI eM122 (by decide)).wI eM123 (by decide))
      · refine y_bipush C dX12_numbers_44 rfl ?_
        have u144x := nbm_no (M := M0) (N := M101) (t := a1) (s := a2) (n := a3) eM101 (by (clear h115 h113 h107 h105 pM101 hM101 eM101 hret C hp0 ha2 ha1 hq62 hq61 hpr hM0; omega))
        have u145n := nuF_s a1 a2 a3
        have u145j : b01 (M101.2.1 117 = M0.2.1 117) = 1 := b01_i (wI_J eM101 117)
        exact hret _ _ _ _ dX12_numbers_46 ⟨(-3), rfl, hM101, (FR.rf.wI eM101 (by decide)), by exact ⟨(by decide), ⟨(by decide), ⟨(by (clear hM101 eM101 hret C hp0 hq62 hq61 hpr hM0; omega)), ⟨u144x, ⟨(by (clear hM101 eM101 hret C hp0 hq62 hq61 hpr hM0; omega)), pM101⟩⟩⟩⟩⟩⟩
    · refine y_bipush C dX12_numbers_29 rfl ?_
      have u146x := nbm_no (M := M0) (N := M101) (t := a1) (s := a2) (n := a3) eM101 (by (clear h107 h105 pM101 hM101 eM101 hret C hp0 ha3 ha1 hq62 hq61 hpr hM0; omega))
      have u147n := nuF_s a1 a2 a3
      have u147j : b01 (M101.2.1 117 = M0.2.1 117) = 1 := b01_i (wI_J eM101 117)
      exact hret _ _ _ _ dX12_numbers_31 ⟨(-2), rfl, hM101, (FR.rf.wI eM101 (by decide)), by exact ⟨(by decide), ⟨(by decide), ⟨(by (clear h107 h105 hM101 eM101 hret C hp0 ha3 ha1 hq62 hq61 hpr hM0; omega)), ⟨u146x, ⟨(by (clear h107 h105 hM101 eM101 hret C hp0 ha3 ha1 hq62 hq61 hpr hM0; omega)), pM101⟩⟩⟩⟩⟩⟩
set_option maxHeartbeats 4000000 in
theorem s1_X12_cut {l : Launch} {dC : Nat → ClassId} {dI : Nat → Nat → Nat} {ad : Nat → Nat} {cA : Nat → ClassId} {pr : Nat → Nat → Bool} {Kz : mm_M} {M0 : mm_M} (hM0 : INV pr Kz M0) (a0 : Int) (ha0 : -9223372036854775808 ≤ a0 ∧ a0 ≤ 9223372036854775807) (a2 : Int) (ha2 : -2147483648 ≤ a2 ∧ a2 ≤ 2147483647) : Cj l 0 yX12_cut wsX12_cut dC dI ad cA [.long (sJ a0), .int (sI a2)] M0 (fun r M' => ∃ a : Int, r = sJ a ∧ M0 = M' ∧ (-9223372036854775808) ≤ a ∧ a ≤ 9223372036854775807 ∧ (a = (ctF a0 a2))) := by
  refine cj_of (cc := cX12_cut) (maxL := 3) (lv := [(0, .long (sJ a0)), (2, .int (sI a2))]) (by decide) rfl (Nat.le_of_ble_eq_true rfl) rfl ?_
  intro p e s m args below meth c A Q C hret
  refine j_iload_n C 1 2 dX12_cut_0 rfl rfl ?_
  refine y_if_ne C 11 dX12_cut_1 (by decide) (by exact ⟨ha2.1, ha2.2⟩) (fun h101 => ?_) (fun h101 => ?_)
  · refine j_iload_n C 1 2 dX12_cut_11 rfl rfl ?_
    refine y_iconst C dX12_cut_12 ?_
    refine y_icmp_ne C 23 dX12_cut_13 (by decide) (by exact ⟨⟨ha2.1, ha2.2⟩, ⟨(by decide), (by decide)⟩⟩) (fun h102 => ?_) (fun h102 => ?_)
    · refine j_iload_n C 1 2 dX12_cut_23 rfl rfl ?_
      refine y_iconst C dX12_cut_24 ?_
      refine y_icmp_ne C 34 dX12_cut_25 (by decide) (by exact ⟨⟨ha2.1, ha2.2⟩, ⟨(by decide), (by decide)⟩⟩) (fun h103 => ?_) (fun h103 => ?_)
      · refine j_lload_n C 0 0 dX12_cut_34 rfl rfl ?_
        have u104 := ctF_s a0 a2
        exact hret _ _ _ _ dX12_cut_35 ⟨a0, rfl, rfl, by exact ⟨ha0.1, ⟨ha0.2, (by (clear hret C ha2 hM0; omega))⟩⟩⟩
      · refine j_lload_n C 0 0 dX12_cut_28 rfl rfl ?_
        refine e_l2i C dX12_cut_29 (fun lb105 ub105 => ?_)
        refine y_i2l C dX12_cut_30 (by exact ⟨lb105, ub105⟩) ?_
        refine j_goto C 35 dX12_cut_31 (by decide) ?_
        have u106 := ctF_s a0 a2
        exact hret _ _ _ _ dX12_cut_35 ⟨(w32 a0), rfl, rfl, by (clear h102 h101 hret C ha2 ha0 hM0; omega)⟩
    · refine j_lload_n C 0 0 dX12_cut_16 rfl rfl ?_
      refine e_l2i C dX12_cut_17 (fun lb107 ub107 => ?_)
      refine e_i2s C dX12_cut_18 (fun lb108 ub108 => ?_)
      refine y_i2l C dX12_cut_19 (by omega) ?_
      refine j_goto C 35 dX12_cut_20 (by decide) ?_
      have u109 := ctF_s a0 a2
      exact hret _ _ _ _ dX12_cut_35 ⟨(i16F (w32 a0)), rfl, rfl, by (clear ub107 lb107 h101 hret C ha2 ha0 hM0; omega)⟩
  · refine j_lload_n C 0 0 dX12_cut_4 rfl rfl ?_
    refine e_l2i C dX12_cut_5 (fun lb110 ub110 => ?_)
    refine e_i2b C dX12_cut_6 (fun lb111 ub111 => ?_)
    refine y_i2l C dX12_cut_7 (by omega) ?_
    refine j_goto C 35 dX12_cut_8 (by decide) ?_
    have u112 := ctF_s a0 a2
    exact hret _ _ _ _ dX12_cut_35 ⟨(i8F (w32 a0)), rfl, rfl, by (clear ub110 lb110 hret C ha2 ha0 hM0; omega)⟩
set_option maxHeartbeats 4000000 in
theorem s1_X12_write {l : Launch} {dC : Nat → ClassId} {dI : Nat → Nat → Nat} {ad : Nat → Nat} {cA : Nat → ClassId} {pr : Nat → Nat → Bool} {Kz : mm_M} {M0 : mm_M} (hM0 : INV pr Kz M0) (hpr : PM pr) (a1 : Int) (ha1 : -2147483648 ≤ a1 ∧ a1 ≤ 2147483647) (a2 : Int) (ha2 : -2147483648 ≤ a2 ∧ a2 ≤ 2147483647) (a3 : Int) (ha3 : -9223372036854775808 ≤ a3 ∧ a3 ≤ 9223372036854775807) (hp0 : b01 (PI M0) = 1) : Cj l 2 yX12_write wsX12_write dC dI ad cA [.ref (ad 98), .int (sI a1), .int (sI a2), .long (sJ a3)] M0 (fun r M' => ∃ a : Int, r = sJ a ∧ INV pr Kz M' ∧ FR [98, 117] M0 M' ∧ (-9223372036854775808) ≤ a ∧ a ≤ 9223372036854775807 ∧ ((a1 < 0 ∨ 3 < a1) ∧ a = -2 ∨ 0 ≤ a1 ∧ a1 ≤ 3 ∧ (M0.1 115 (a1).toNat).toInt = -1 ∧ a = -6 ∨ 0 ≤ a1 ∧ a1 ≤ 3 ∧ ¬ (M0.1 115 (a1).toNat).toInt = -1 ∧ (a2 < 0 ∨ (M0.1 116 (a1).toNat).toInt ≤ a2) ∧ a = -7 ∨ 0 ≤ a1 ∧ a1 ≤ 3 ∧ ¬ (M0.1 115 (a1).toNat).toInt = -1 ∧ 0 ≤ a2 ∧ a2 < (M0.1 116 (a1).toNat).toInt ∧ a = ctF a3 (M0.1 115 (a1).toNat).toInt) ∧ (0 ≤ (M0.1 115 (a1).toNat).toInt ∧ (0 ≤ a1 ∧ a1 ≤ 3) ∧ (0 ≤ a2 ∧ a2 < (M0.1 116 (a1).toNat).toInt) ∧ b01 (M'.2.1 117 = uJ (M0.2.1 117) (40 * a1 + a2).toNat a) = 1 ∨ (a1 < 0 ∨ 3 < a1 ∨ (M0.1 115 (a1).toNat).toInt = -1 ∨ a2 < 0 ∨ (M0.1 116 (a1).toNat).toInt ≤ a2) ∧ b01 (M'.2.1 117 = M0.2.1 117) = 1) ∧ (b01 (PI M') = 1)) := by
  refine cj_of (cc := cX12_write) (maxL := 6) (lv := [(0, .ref (ad 98)), (1, .int (sI a1)), (2, .int (sI a2)), (3, .long (sJ a3))]) (by decide) rfl (Nat.le_of_ble_eq_true rfl) rfl ?_
  intro p e s m args below meth c A Q C hret
  refine j_aload_n C 0 0 dX12_write_0 rfl rfl ?_
  refine y_iconst C dX12_write_1 ?_
  refine y_putIF C 11 qX12_write_1 rfl rfl ft_11_0 sb_11_0 hM0 (PM.w hpr rfl rfl) dX12_write_2 (fun M101 eM101 hM101 => ?_)
  have pM101 := pi_o eM101 (by decide) (by decide) (by exact hp0)
  refine j_aload_n C 0 0 dX12_write_5 rfl rfl ?_
  refine j_iload_n C 1 1 dX12_write_6 rfl rfl ?_
  refine j_callVi C (d := 1) (As := [.int (sI a1)]) (st := []) 98 (s_lt rfl rfl) (s_kc (c := 11) rfl rfl) (by decide) rfl (s1_X12_noTray hM101 a1 (by exact ⟨ha1.1, ha1.2⟩)) gX12_write_X12_noTray rfl hdX12_noTray (by decide) (Nat.le_of_ble_eq_true rfl) dX12_write_7 rfl (fun r102 M103 h104 => ?_)
  obtain ⟨a106, rfl, rfl, h105⟩ := h104
  refine j_istore C 5 [(5, .int (sI a106)), (0, .ref (ad 98)), (1, .int (sI a1)), (2, .int (sI a2)), (3, .long (sJ a3))] dX12_write_10 (by decide) rfl ?_
  have u107 : (M101.1 115 (a1).toNat).toInt = (M0.1 115 (a1).toNat).toInt := s_fa eM101 (by decide) rfl
  refine j_iload C 0 dX12_write_12 rfl ?_
  refine y_if_eq C 21 dX12_write_14 (by decide) (by (clear u107 pM101 hM101 eM101 hret C hp0 ha3 ha2 ha1 hpr hM0; omega)) (fun h108 => ?_) (fun h108 => ?_)
  · refine j_iload_n C 3 2 dX12_write_21 rfl rfl ?_
    refine y_i2l C dX12_write_22 (by exact ⟨ha2.1, ha2.2⟩) ?_
    refine y_lconst C 0 dX12_write_23 rfl ?_
    refine j_aload_n C 1 0 dX12_write_24 rfl rfl ?_
    refine y_getC C 11 116 fX12_write_70 rfl rfl ft_11_30 sm_11_30 rfl hM101 dX12_write_25 ?_
    refine j_iload_n C 2 1 dX12_write_28 rfl rfl ?_
    refine y_iald C 62 4 _ _ rfl rfl rfl ak_62 an_62 rfl (sb_62 _) hM101 dX12_write_29 (by (clear u107 pM101 hM101 eM101 hret C hp0 ha3 ha2 hpr hM0; omega)) (fun a109 ea109 la109 ua109 => ?_)
    obtain rfl : a109 = (M0.1 116 (a1).toNat).toInt := s_fa eM101 (by decide) (ea109)
    refine y_iconst C dX12_write_30 ?_
    refine y_isub C dX12_write_31 ?_
    refine y_i2l C dX12_write_32 (by (clear h108 u107 h105 pM101 hM101 eM101 hret C hp0 ha3 ha2 ha1 hpr hM0; omega)) ?_
    refine j_callSi C (d := 0) (As := [.long (sJ a2), .long (sJ 0), .long (sJ ((M0.1 116 (a1).toNat).toInt - 1))]) (st := []) (s1_X12_within hM101 a2 (by omega) 0 (by exact ⟨(by decide), (by decide)⟩) ((M0.1 116 (a1).toNat).toInt - 1) (by (clear h108 u107 h105 pM101 hM101 eM101 hret C hp0 ha3 ha2 ha1 hpr hM0; omega))) gX12_write_X12_within rfl hdX12_withins (by decide) (Nat.le_of_ble_eq_true rfl) dX12_write_33 rfl (fun r110 M111 h112 => ?_)
    obtain ⟨a114, rfl, rfl, h113⟩ := h112
    refine y_if_ne C 43 dX12_write_36 (by decide) (by omega) (fun h115 => ?_) (fun h115 => ?_)
    · refine j_aload_n C 1 0 dX12_write_43 rfl rfl ?_
      refine y_getC C 11 117 fX12_write_73 rfl rfl ft_11_31 sm_11_31 rfl hM101 dX12_write_44 ?_
      refine y_bipush C dX12_write_47 rfl ?_
      refine j_iload_n C 2 1 dX12_write_49 rfl rfl ?_
      refine y_imul C dX12_write_50 ?_
      refine j_iload_n C 3 2 dX12_write_51 rfl rfl ?_
      refine y_iadd C dX12_write_52 ?_
      refine j_lload_n C 4 3 dX12_write_53 rfl rfl ?_
      refine j_aload_n C 1 0 dX12_write_54 rfl rfl ?_
      refine y_getC C 11 115 fX12_write_67 rfl rfl ft_11_29 sm_11_29 rfl hM101 dX12_write_55 ?_
      refine j_iload_n C 2 1 dX12_write_58 rfl rfl ?_
      refine y_iald C 61 4 _ _ rfl rfl rfl ak_61 an_61 rfl (sb_61 _) hM101 dX12_write_59 (by (clear ua109 la109 ea109 u107 pM101 hM101 eM101 hret C hp0 ha3 ha2 hpr hM0; omega)) (fun a116 ea116 la116 ua116 => ?_)
      obtain rfl : a116 = (M0.1 115 (a1).toNat).toInt := s_fa eM101 (by decide) (ea116)
      refine j_callSj C (d := 0) (As := [.long (sJ a3), .int (sI (M0.1 115 (a1).toNat).toInt)]) (st := [.int (sI ((40 * a1) + a2)), .ref (ad 117)]) (s1_X12_cut hM101 a3 (by exact ⟨ha3.1, ha3.2⟩) (M0.1 115 (a1).toNat).toInt (by omega)) gX12_write_X12_cut rfl hdX12_cuts (by decide) (Nat.le_of_ble_eq_true rfl) dX12_write_60 rfl (fun r117 M118 h119 => ?_)
      obtain ⟨a121, rfl, rfl, h120⟩ := h119
      obtain rfl : a121 = (ctF a3 (M0.1 115 (a1).toNat).toInt) := by exact h120.2.2
      refine y_last C 63 160 rfl rfl rfl ak_63 an_63 rfl hM101 (PM.w hpr rfl rfl) dX12_write_63 (by (clear h120 ua116 la116 ea116 u107 pM101 hM101 eM101 hret C hp0 ha3 hpr hM0; omega)) (fun M122 eM122 hM122 => ?_)
      have pM122 := pi_J eM122 (by exact pM101)
      refine j_aload_n C 1 0 dX12_write_64 rfl rfl ?_
      refine y_getC C 11 117 fX12_write_73 rfl rfl ft_11_31 sm_11_31 rfl hM122 dX12_write_65 ?_
      refine y_bipush C dX12_write_68 rfl ?_
      refine j_iload_n C 2 1 dX12_write_70 rfl rfl ?_
      refine y_imul C dX12_write_71 ?_
      refine j_iload_n C 3 2 dX12_write_72 rfl rfl ?_
      refine y_iadd C dX12_write_73 ?_
      refine y_lald C 63 160 rfl rfl rfl ak_63 an_63 rfl dX12_write_74 (by (clear pM122 hM122 eM122 h120 ua116 la116 ea116 u107 pM101 hM101 eM101 hret C hp0 ha3 hpr hM0; omega)) (fun a123 ea123 la123 ua123 => ?_)
      obtain rfl : a123 = (M122.2.1 117 (((40 * a1) + a2)).toNat).toInt := ea123
      have u124 := wJ_rd eM122 (by exact ⟨h120.1, h120.2.1⟩)
      have u125j : b01 (M122.2.1 117 = uJ (M0.2.1 117) (40 * a1 + a2).toNat (M122.2.1 117 (((40 * a1) + a2)).toNat).toInt) = 1 := b01_i ((uJ_w eM122).trans (by rw [(wI_J eM101 117)]; exact congrArg (uJ (M0.2.1 117) _) (by exact u124.symm)))
      exact hret _ _ _ _ dX12_write_75 ⟨(M122.2.1 117 (((40 * a1) + a2)).toNat).toInt, rfl, hM122, ((FR.rf.wI eM101 (by decide)).wJ eM122 (by decide)), by exact ⟨la123, ⟨ua123, ⟨(by (clear hM122 eM122 h120 ea116 ua109 la109 pM101 hM101 eM101 hret C hp0 ha3 hpr hM0; omega)), ⟨(by (clear hM122 eM122 h120 ea116 ua109 la109 pM101 hM101 eM101 hret C hp0 ha3 hpr hM0; omega)), pM122⟩⟩⟩⟩⟩
    · refine y_ldc2 C (-7) dX12_write_39 kX12_write_451 rfl ?_
      have u126j : b01 (M101.2.1 117 = M0.2.1 117) = 1 := b01_i (wI_J eM101 117)
      exact hret _ _ _ _ dX12_write_42 ⟨(-7), rfl, hM101, (FR.rf.wI eM101 (by decide)), by exact ⟨(by decide), ⟨(by decide), ⟨(by (clear hM101 eM101 hret C hp0 ha3 hpr hM0; omega)), ⟨(by (clear hM101 eM101 hret C hp0 ha3 hpr hM0; omega)), pM101⟩⟩⟩⟩⟩
  · refine j_iload C 0 dX12_write_17 rfl ?_
    refine y_i2l C dX12_write_19 (by omega) ?_
    have u127j : b01 (M101.2.1 117 = M0.2.1 117) = 1 := b01_i (wI_J eM101 117)
    exact hret _ _ _ _ dX12_write_20 ⟨a106, rfl, hM101, (FR.rf.wI eM101 (by decide)), by exact ⟨(by (clear hM101 eM101 hret C hp0 ha3 hpr hM0; omega)), ⟨(by (clear hM101 eM101 hret C hp0 ha3 hpr hM0; omega)), ⟨(by (clear hM101 eM101 hret C hp0 ha3 hpr hM0; omega)), ⟨(by (clear hM101 eM101 hret C hp0 ha3 hpr hM0; omega)), pM101⟩⟩⟩⟩⟩
set_option maxHeartbeats 4000000 in
theorem s1_X12_lists {l : Launch} {dC : Nat → ClassId} {dI : Nat → Nat → Nat} {ad : Nat → Nat} {cA : Nat → ClassId} {pr : Nat → Nat → Bool} {Kz : mm_M} {M0 : mm_M} (hM0 : INV pr Kz M0) (hpr : PM pr) (hcw : CWK pr Kz) (a1 : Int) (ha1 : -2147483648 ≤ a1 ∧ a1 ≤ 2147483647) (hp0 : b01 (PI M0) = 1) : Ci l 7 yX12_lists wsX12_lists dC dI ad cA [.ref (ad 98), .int (sI a1)] M0 (fun r M' => ∃ a : Int, r = sI a ∧ INV pr Kz M' ∧ FR [98, 103, 104, 106, 107, 108, 117] M0 M' ∧ (-6) ≤ a ∧ a ≤ 40 ∧ (a = lsA (ntA M0 a1) (enF (M0.1 99) (-1)) (M0.1 116 (a1).toNat).toInt) ∧ (0 ≤ a ∧ b01 (M'.2.1 117 = lsJ (M0.1 99) (M0.2.1 117) (40 * a1).toNat (a).toNat) = 1 ∨ a < 0 ∧ b01 (M'.2.1 117 = M0.2.1 117) = 1) ∧ (b01 (PI M') = 1)) := by
  refine ci_of (cc := cX12_lists) (maxL := 6) (ty := .int) (lv := [(0, .ref (ad 98)), (1, .int (sI a1))]) (by decide) rfl (fun r M' hp => rfl) (Nat.le_of_ble_eq_true rfl) rfl ?_
  intro p e s m args below meth c A Q C hret
  refine j_aload_n C 0 0 dX12_lists_0 rfl rfl ?_
  refine y_iconst C dX12_lists_1 ?_
  refine y_putIF C 11 qX12_lists_1 rfl rfl ft_11_0 sb_11_0 hM0 (PM.w hpr rfl rfl) dX12_lists_2 (fun M101 eM101 hM101 => ?_)
  have pM101 := pi_o eM101 (by decide) (by decide) (by exact hp0)
  refine j_aload_n C 0 0 dX12_lists_5 rfl rfl ?_
  refine j_iload_n C 1 1 dX12_lists_6 rfl rfl ?_
  refine j_callVi C (d := 1) (As := [.int (sI a1)]) (st := []) 98 (s_lt rfl rfl) (s_kc (c := 11) rfl rfl) (by decide) rfl (s1_X12_noTray hM101 a1 (by exact ⟨ha1.1, ha1.2⟩)) gX12_lists_X12_noTray rfl hdX12_noTray (by decide) (Nat.le_of_ble_eq_true rfl) dX12_lists_7 rfl (fun r102 M103 h104 => ?_)
  obtain ⟨a106, rfl, rfl, h105⟩ := h104
  refine j_istore_n C 2 [(2, .int (sI a106)), (0, .ref (ad 98)), (1, .int (sI a1))] dX12_lists_10 rfl (by decide) rfl ?_
  refine j_iload_n C 0 2 dX12_lists_11 rfl rfl ?_
  refine y_if_eq C 17 dX12_lists_12 (by decide) (by (clear pM101 hM101 eM101 hret C hp0 ha1 hcw hpr hM0; omega)) (fun h108 => ?_) (fun h108 => ?_)
  · refine j_aload_n C 1 0 dX12_lists_17 rfl rfl ?_
    refine j_callVi C (d := 6) (As := []) (st := []) 98 (s_lt rfl rfl) (s_kc (c := 11) rfl rfl) (by decide) rfl (s1_X12_laysEndingRow hM101 hpr hcw (by exact pM101)) gX12_lists_X12_laysEndingRow rfl hdX12_laysEndingRow (by decide) (Nat.le_of_ble_eq_true rfl) dX12_lists_18 rfl (fun r109 M110 h111 => ?_)
    obtain ⟨a113, rfl, hM110, fM110, h112⟩ := h111
    have u114c : enF (M101.1 99) (-1) = enF (M0.1 99) (-1) := by rw [((wI_cell eM101 (by decide)))]
    have u114e : b01 (ERW M110 (M0.1 99) a113 a113) = 1 := by rw [show (M0.1 99) = M101.1 99 from ((wI_cell eM101 (by decide))).symm]; exact h112.2.2.2.1
    have u114t : (M110.1 116 (a1).toNat).toInt = (M0.1 116 (a1).toNat).toInt := by rw [(((FR.cell fM110 (by decide)).trans (wI_cell eM101 (by decide))))]
    refine j_istore_n C 3 [(3, .int (sI a113)), (2, .int (sI a106)), (0, .ref (ad 98)), (1, .int (sI a1))] dX12_lists_21 rfl (by decide) rfl ?_
    refine j_iload_n C 0 3 dX12_lists_22 rfl rfl ?_
    refine y_iconst C dX12_lists_23 ?_
    refine y_icmp_ne C 30 dX12_lists_24 (by decide) (by exact ⟨⟨(by (clear u114t u114e fM110 hM110 h108 h105 pM101 hM101 eM101 hret C hp0 ha1 hcw hpr hM0; omega)), (by (clear u114t u114e fM110 hM110 h108 h105 pM101 hM101 eM101 hret C hp0 ha1 hcw hpr hM0; omega))⟩, ⟨(by decide), (by decide)⟩⟩) (fun h115 => ?_) (fun h115 => ?_)
    · refine j_iload_n C 0 3 dX12_lists_30 rfl rfl ?_
      refine j_aload_n C 2 0 dX12_lists_31 rfl rfl ?_
      refine y_getC C 11 116 fX12_lists_70 rfl rfl ft_11_30 sm_11_30 rfl hM110 dX12_lists_32 ?_
      refine j_iload_n C 3 1 dX12_lists_35 rfl rfl ?_
      refine y_iald C 62 4 _ _ rfl rfl rfl ak_62 an_62 rfl (sb_62 _) hM110 dX12_lists_36 (by (clear u114t u114e fM110 hM110 pM101 hM101 eM101 hret C hp0 hcw hpr hM0; omega)) (fun a116 ea116 la116 ua116 => ?_)
      obtain rfl : a116 = (M0.1 116 (a1).toNat).toInt := s_fa eM101 (by decide) (s_fF fM110 (by decide) (ea116))
      refine y_icmp_ge C 44 dX12_lists_37 (by decide) (by (clear ea116 h115 u114t u114e fM110 hM110 h108 h105 pM101 hM101 eM101 hret C hp0 ha1 hcw hpr hM0; omega)) (fun h117 => ?_) (fun h117 => ?_)
      · refine j_aload_n C 2 0 dX12_lists_44 rfl rfl ?_
        refine y_getC C 11 116 fX12_lists_70 rfl rfl ft_11_30 sm_11_30 rfl hM110 dX12_lists_45 ?_
        refine j_iload_n C 3 1 dX12_lists_48 rfl rfl ?_
        refine y_iald C 62 4 _ _ rfl rfl rfl ak_62 an_62 rfl (sb_62 _) hM110 dX12_lists_49 (by omega) (fun a118 ea118 la118 ua118 => ?_)
        obtain rfl : a118 = (M0.1 116 (a1).toNat).toInt := s_fa eM101 (by decide) (s_fF fM110 (by decide) (ea118))
        refine j_istore C 4 [(4, .int (sI (M0.1 116 (a1).toNat).toInt)), (3, .int (sI a113)), (2, .int (sI a106)), (0, .ref (ad 98)), (1, .int (sI a1))] dX12_lists_50 (by decide) rfl ?_
        refine y_iconst C dX12_lists_52 ?_
        refine j_istore C 5 [(5, .int (sI 0)), (4, .int (sI (M0.1 116 (a1).toNat).toInt)), (3, .int (sI a113)), (2, .int (sI a106)), (0, .ref (ad 98)), (1, .int (sI a1))] dX12_lists_53 (by decide) rfl ?_
        have u119z := ls_0 (M0.1 99) (M0.2.1 117) (40 * a1).toNat
        have u119y : b01 (M110.2.1 117 = lsJ (M0.1 99) (M0.2.1 117) (40 * a1).toNat (0 : Int).toNat) = 1 := b01_i ((((FR.cellJ fM110 (by decide)).trans (wI_J eM101 117))).trans (b01_e u119z))
        have u119e : b01 (ERW M110 (M0.1 99) (enF (M0.1 99) (-1)) (M0.1 116 (a1).toNat).toInt) = 1 := b01_i (fun i hi => by have z := b01_e (P := ERW M110 (M0.1 99) a113 a113) (by exact u114e) i (by (clear u119y u119z ua118 la118 ea118 ua116 la116 ea116 h115 u114t u114e fM110 hM110 h108 h105 pM101 hM101 eM101 hret C hp0 ha1 hcw hpr hM0; omega)); rw [show a113 = enF (M0.1 99) (-1) by (clear z hi u119y u119z ua118 la118 ea118 h117 ua116 la116 ea116 h115 u114t u114e fM110 hM110 h108 h105 pM101 hM101 eM101 hret C hp0 ha1 hcw hpr hM0; omega)] at z; exact z)
        have L129 : ∀ (n127 : Nat), ∀ (a130 : Int) (M131 : mm_M), (0 ≤ a130 ∧ a130 ≤ 40 ∧ (b01 (M131.2.1 117 = lsJ (M0.1 99) (M0.2.1 117) (40 * a1).toNat (a130).toNat) = 1) ∧ (b01 (ERW M131 (M0.1 99) (enF (M0.1 99) (-1)) (M0.1 116 (a1).toNat).toInt) = 1) ∧ (a130 ≤ (M0.1 116 (a1).toNat).toInt) ∧ (0 ≤ (M0.1 116 (a1).toNat).toInt ∧ (M0.1 116 (a1).toNat).toInt ≤ 40) ∧ (b01 (PI M131) = 1) ∧ (40 - a130) < (n127 : Int)) → INV pr Kz M131 → FR [98, 103, 104, 106, 107, 108, 117] M0 M131 → jj p l e (cn_R 7) s m args below meth c 0 0 Q 6 dC dI ad cA A M131 55 [(0, .ref (ad 98)), (1, .int (sI a1)), (4, .int (sI (M0.1 116 (a1).toNat).toInt)), (5, .int (sI a130))] [] := by
          intro n127
          induction n127 with
          | zero =>
            intro a130 M131 h132 hM131 fM131
            exfalso; (clear fM131 hM131 u119e u119y u119z ua118 la118 ea118 h117 ua116 la116 ea116 h115 u114t u114e u114c h112 fM110 hM110 h108 h105 pM101 hM101 eM101 hret C hp0 ha1 hcw hpr hM0; omega)
          | succ n127 ih128 =>
            intro a130 M131 h132 hM131 fM131
            have u133g : (M0.1 116 (a1).toNat).toInt ≤ a130 ∨ (M131.1 108 (a130).toNat).toInt = roB (M0.1 99) (enF (M0.1 99) (-1)) (a130).toNat := by
              by_cases c : a130 < (M0.1 116 (a1).toNat).toInt
              · exact Or.inr (b01_e (P := ERW M131 (M0.1 99) (enF (M0.1 99) (-1)) (M0.1 116 (a1).toNat).toInt) (by exact h132.2.2.2.1) (a130).toNat (by (clear fM131 hM131 ih128 u119e u119y u119z ua118 la118 ea118 h117 ua116 la116 ea116 h115 u114t u114e u114c h112 fM110 hM110 h108 h105 pM101 hM101 eM101 hret C hp0 ha1 hcw hpr hM0; omega)))
              · exact Or.inl (by (clear fM131 hM131 ih128 u119e u119y u119z ua118 la118 ea118 h117 ua116 la116 ea116 h115 u114t u114e u114c h112 fM110 hM110 h108 h105 pM101 hM101 eM101 hret C hp0 ha1 hcw hpr hM0; omega))
            refine j_iload C 3 dX12_lists_55 rfl ?_
            refine j_iload C 2 dX12_lists_57 rfl ?_
            refine y_icmp_ge C 88 dX12_lists_59 (by decide) (by (clear u133g fM131 hM131 ih128 u119e u119y u119z ua118 la118 ea118 h117 ea116 h115 u114t u114e u114c h112 fM110 hM110 h108 h105 pM101 hM101 eM101 hret C hp0 ha1 hcw hpr hM0; omega)) (fun h134 => ?_) (fun h134 => ?_)
            · refine j_iload C 2 dX12_lists_88 rfl ?_
              have u138s := lsA_s (ntA M0 a1) (enF (M0.1 99) (-1)) (M0.1 116 (a1).toNat).toInt
              have u138n : ntA M101 a1 = ntA M0 a1 := by unfold ntA; rw [((wI_cell eM101 (by decide)))]
              have u138x : a130 = (M0.1 116 (a1).toNat).toInt := by (clear u138n u138s u133g fM131 hM131 ih128 u119e u119y u119z ua118 la118 ea118 h117 ua116 la116 ea116 h115 u114t u114e u114c h112 fM110 hM110 h108 h105 pM101 hM101 eM101 hret C hp0 ha1 hcw hpr hM0; omega)
              have u138y : b01 (M131.2.1 117 = lsJ (M0.1 99) (M0.2.1 117) (40 * a1).toNat ((M0.1 116 (a1).toNat).toInt).toNat) = 1 := by rw [← u138x]; exact h132.2.2.1
              exact hret _ _ _ _ dX12_lists_90 ⟨(M0.1 116 (a1).toNat).toInt, rfl, hM131, (FR.rf.tr fM131 (by decide)), by exact ⟨(by (clear u138x u133g fM131 hM131 ih128 u119e u119y u119z ua118 la118 ea118 ua116 la116 ea116 h115 u114t u114e fM110 hM110 pM101 hM101 eM101 hret C hp0 ha1 hcw hpr hM0; omega)), ⟨h132.2.2.2.2.2.1.2, ⟨(by (clear u138x u133g fM131 hM131 ih128 u119e u119y u119z ua118 la118 ea118 ua116 la116 ea116 h115 u114t u114e fM110 hM110 pM101 hM101 eM101 hret C hp0 ha1 hcw hpr hM0; omega)), ⟨(by (clear u138x u133g fM131 hM131 ih128 u119e u119y u119z ua118 la118 ea118 ua116 la116 ea116 h115 u114t u114e fM110 hM110 pM101 hM101 eM101 hret C hp0 ha1 hcw hpr hM0; omega)), h132.2.2.2.2.2.2.1⟩⟩⟩⟩⟩
            · refine j_aload_n C 0 0 dX12_lists_62 rfl rfl ?_
              refine y_getC C 11 117 fX12_lists_73 rfl rfl ft_11_31 sm_11_31 rfl hM131 dX12_lists_63 ?_
              refine y_bipush C dX12_lists_66 rfl ?_
              refine j_iload_n C 1 1 dX12_lists_68 rfl rfl ?_
              refine y_imul C dX12_lists_69 ?_
              refine j_iload C 3 dX12_lists_70 rfl ?_
              refine y_iadd C dX12_lists_72 ?_
              refine j_aload_n C 0 0 dX12_lists_73 rfl rfl ?_
              refine y_getC C 11 108 fX12_lists_45 rfl rfl ft_11_21 sm_11_21 rfl hM131 dX12_lists_74 ?_
              refine j_iload C 3 dX12_lists_77 rfl ?_
              refine y_iald C 54 256 _ _ rfl rfl rfl ak_54 an_54 rfl (sb_54 _) hM131 dX12_lists_79 (by exact ⟨h132.1, (by (clear h134 u133g fM131 hM131 ih128 u119e u119y u119z ua118 la118 ea118 h117 ua116 la116 ea116 h115 u114t u114e u114c h112 fM110 hM110 h108 h105 pM101 hM101 eM101 hret C hp0 ha1 hcw hpr hM0; omega))⟩) (fun a135 ea135 la135 ua135 => ?_)
              obtain rfl : a135 = (M131.1 108 (a130).toNat).toInt := ea135
              refine y_i2l C dX12_lists_80 (by (clear h134 u133g fM131 hM131 h132 ih128 u119e u119y u119z ua118 la118 ea118 h117 ua116 la116 ea116 h115 u114t u114e u114c h112 fM110 hM110 h108 h105 pM101 hM101 eM101 hret C hp0 ha1 hcw hpr hM0; omega)) ?_
              refine y_last C 63 160 rfl rfl rfl ak_63 an_63 rfl hM131 (PM.w hpr rfl rfl) dX12_lists_81 (by (clear ua135 la135 fM131 hM131 ih128 u119e u119y u119z ua118 la118 ea118 h117 ea116 u114t u114e fM110 hM110 pM101 hM101 eM101 hret C hp0 hcw hpr hM0; omega)) (fun M136 eM136 hM136 => ?_)
              have pM136 := pi_J eM136 (by exact h132.2.2.2.2.2.2.1)
              refine y_iinc C 3 [(5, .int (sI (a130 + 1))), (0, .ref (ad 98)), (1, .int (sI a1)), (4, .int (sI (M0.1 116 (a1).toNat).toInt))] dX12_lists_82 rfl (by decide) rfl ?_
              refine j_goto C 55 dX12_lists_85 (by decide) ?_
              have u137z := ls_s (M := M131) (N := M136) (f := (M0.1 99)) (g := M0.2.1 117) (a := (40 * a1).toNat) (x := a130) (x' := (a130 + 1)) (v := (M131.1 108 (a130).toNat).toInt) (by exact h132.2.2.1) eM136 (by (clear pM136 hM136 eM136 ua135 la135 fM131 hM131 ih128 u119e u119y u119z ua118 la118 ea118 h117 ea116 u114t u114e fM110 hM110 pM101 hM101 eM101 hret C hp0 hcw hpr hM0; omega))
              have u137e : b01 (ERW M136 (M0.1 99) (enF (M0.1 99) (-1)) (M0.1 116 (a1).toNat).toInt) = 1 := by unfold ERW; rw [show M136.1 108 = M131.1 108 from wJ_cell eM136]; exact b01_i (b01_e (P := ERW M131 (M0.1 99) (enF (M0.1 99) (-1)) (M0.1 116 (a1).toNat).toInt) (by exact h132.2.2.2.1))
              refine j_lv [1, 2, 3, 0] rfl ?_; exact ih128 (a130 + 1) M136 (by exact ⟨(by (clear hM136 eM136 ua135 la135 u133g fM131 hM131 ih128 u119e u119y u119z ua118 la118 ea118 h117 ea116 h115 u114t u114e u114c h112 fM110 hM110 h108 h105 pM101 hM101 eM101 hret C hp0 ha1 hcw hpr hM0; omega)), ⟨(by (clear hM136 eM136 ua135 la135 u133g fM131 hM131 ih128 u119e u119y u119z ua118 la118 ea118 h117 ea116 h115 u114t u114e u114c h112 fM110 hM110 h108 h105 pM101 hM101 eM101 hret C hp0 ha1 hcw hpr hM0; omega)), ⟨u137z, ⟨u137e, ⟨(by (clear hM136 eM136 ua135 la135 u133g fM131 hM131 ih128 u119e u119y u119z ua118 la118 ea118 h117 ea116 h115 u114t u114e u114c h112 fM110 hM110 h108 h105 pM101 hM101 eM101 hret C hp0 ha1 hcw hpr hM0; omega)), ⟨⟨la116, ua116⟩, ⟨pM136, (by (clear hM136 eM136 ua135 la135 u133g fM131 hM131 ih128 u119e u119y u119z ua118 la118 ea118 h117 ea116 h115 u114t u114e u114c h112 fM110 hM110 h108 h105 pM101 hM101 eM101 hret C hp0 ha1 hcw hpr hM0; omega))⟩⟩⟩⟩⟩⟩⟩) hM136 ((FR.rf.tr fM131 (by decide)).wJ eM136 (by decide))
        refine j_lv [4, 5, 1, 0] rfl ?_; exact L129 2010 0 M110 (by exact ⟨(by decide), ⟨(by decide), ⟨u119y, ⟨u119e, ⟨la116, ⟨⟨la116, ua116⟩, ⟨h112.2.2.2.2, (by decide)⟩⟩⟩⟩⟩⟩⟩) hM110 ((FR.rf.wI eM101 (by decide)).tr fM110 (by decide))
      · refine j_iload_n C 0 3 dX12_lists_40 rfl rfl ?_
        refine j_goto C 50 dX12_lists_41 (by decide) ?_
        refine j_istore C 4 [(4, .int (sI a113)), (3, .int (sI a113)), (2, .int (sI a106)), (0, .ref (ad 98)), (1, .int (sI a1))] dX12_lists_50 (by decide) rfl ?_
        refine y_iconst C dX12_lists_52 ?_
        refine j_istore C 5 [(5, .int (sI 0)), (4, .int (sI a113)), (3, .int (sI a113)), (2, .int (sI a106)), (0, .ref (ad 98)), (1, .int (sI a1))] dX12_lists_53 (by decide) rfl ?_
        have u139z := ls_0 (M0.1 99) (M0.2.1 117) (40 * a1).toNat
        have u139y : b01 (M110.2.1 117 = lsJ (M0.1 99) (M0.2.1 117) (40 * a1).toNat (0 : Int).toNat) = 1 := b01_i ((((FR.cellJ fM110 (by decide)).trans (wI_J eM101 117))).trans (b01_e u139z))
        have u139e : b01 (ERW M110 (M0.1 99) (enF (M0.1 99) (-1)) a113) = 1 := b01_i (fun i hi => by have z := b01_e (P := ERW M110 (M0.1 99) a113 a113) (by exact u114e) i (by exact hi); rw [show a113 = enF (M0.1 99) (-1) by omega] at z; exact z)
        have L149 : ∀ (n147 : Nat), ∀ (a150 : Int) (M151 : mm_M), (0 ≤ a150 ∧ a150 ≤ 40 ∧ (b01 (M151.2.1 117 = lsJ (M0.1 99) (M0.2.1 117) (40 * a1).toNat (a150).toNat) = 1) ∧ (b01 (ERW M151 (M0.1 99) (enF (M0.1 99) (-1)) a113) = 1) ∧ (a150 ≤ a113) ∧ (0 ≤ a113 ∧ a113 ≤ 40) ∧ (b01 (PI M151) = 1) ∧ (40 - a150) < (n147 : Int)) → INV pr Kz M151 → FR [98, 103, 104, 106, 107, 108, 117] M0 M151 → jj p l e (cn_R 7) s m args below meth c 0 0 Q 6 dC dI ad cA A M151 55 [(0, .ref (ad 98)), (1, .int (sI a1)), (4, .int (sI a113)), (5, .int (sI a150))] [] := by
          intro n147
          induction n147 with
          | zero =>
            intro a150 M151 h152 hM151 fM151
            exfalso; omega
          | succ n147 ih148 =>
            intro a150 M151 h152 hM151 fM151
            have u153g : a113 ≤ a150 ∨ (M151.1 108 (a150).toNat).toInt = roB (M0.1 99) (enF (M0.1 99) (-1)) (a150).toNat := by
              by_cases c : a150 < a113
              · exact Or.inr (b01_e (P := ERW M151 (M0.1 99) (enF (M0.1 99) (-1)) a113) (by exact h152.2.2.2.1) (a150).toNat (by (clear fM151 hM151 ih148 u139e u139y u139z h117 ua116 la116 ea116 h115 u114t u114e fM110 hM110 h108 h105 pM101 hM101 eM101 hret C hp0 ha1 hcw hpr hM0; omega)))
              · exact Or.inl (by (clear fM151 hM151 ih148 u139e u139y u139z h117 ua116 la116 ea116 h115 u114t u114e fM110 hM110 h108 h105 pM101 hM101 eM101 hret C hp0 ha1 hcw hpr hM0; omega))
            refine j_iload C 3 dX12_lists_55 rfl ?_
            refine j_iload C 2 dX12_lists_57 rfl ?_
            refine y_icmp_ge C 88 dX12_lists_59 (by decide) (by (clear u153g fM151 hM151 ih148 u139e u139y u139z h117 ua116 la116 ea116 h115 u114t u114e fM110 hM110 h108 h105 pM101 hM101 eM101 hret C hp0 ha1 hcw hpr hM0; omega)) (fun h154 => ?_) (fun h154 => ?_)
            · refine j_iload C 2 dX12_lists_88 rfl ?_
              have u158s := lsA_s (ntA M0 a1) (enF (M0.1 99) (-1)) (M0.1 116 (a1).toNat).toInt
              have u158n : ntA M101 a1 = ntA M0 a1 := by unfold ntA; rw [((wI_cell eM101 (by decide)))]
              have u158x : a150 = a113 := by (clear u158n u158s u153g fM151 hM151 ih148 u139e u139y u139z h117 ua116 la116 ea116 h115 u114t u114e fM110 hM110 h108 h105 pM101 hM101 eM101 hret C hp0 ha1 hcw hpr hM0; omega)
              have u158y : b01 (M151.2.1 117 = lsJ (M0.1 99) (M0.2.1 117) (40 * a1).toNat (a113).toNat) = 1 := by rw [← u158x]; exact h152.2.2.1
              exact hret _ _ _ _ dX12_lists_90 ⟨a113, rfl, hM151, (FR.rf.tr fM151 (by decide)), by exact ⟨(by (clear u158x u153g fM151 hM151 ih148 u139e u139y u139z ea116 h115 u114t u114e fM110 hM110 pM101 hM101 eM101 hret C hp0 ha1 hcw hpr hM0; omega)), ⟨h152.2.2.2.2.2.1.2, ⟨(by (clear u158x u153g fM151 hM151 ih148 u139e u139y u139z ea116 h115 u114t u114e fM110 hM110 pM101 hM101 eM101 hret C hp0 ha1 hcw hpr hM0; omega)), ⟨(by (clear u158x u153g fM151 hM151 ih148 u139e u139y u139z ea116 h115 u114t u114e fM110 hM110 pM101 hM101 eM101 hret C hp0 ha1 hcw hpr hM0; omega)), h152.2.2.2.2.2.2.1⟩⟩⟩⟩⟩
            · refine j_aload_n C 0 0 dX12_lists_62 rfl rfl ?_
              refine y_getC C 11 117 fX12_lists_73 rfl rfl ft_11_31 sm_11_31 rfl hM151 dX12_lists_63 ?_
              refine y_bipush C dX12_lists_66 rfl ?_
              refine j_iload_n C 1 1 dX12_lists_68 rfl rfl ?_
              refine y_imul C dX12_lists_69 ?_
              refine j_iload C 3 dX12_lists_70 rfl ?_
              refine y_iadd C dX12_lists_72 ?_
              refine j_aload_n C 0 0 dX12_lists_73 rfl rfl ?_
              refine y_getC C 11 108 fX12_lists_45 rfl rfl ft_11_21 sm_11_21 rfl hM151 dX12_lists_74 ?_
              refine j_iload C 3 dX12_lists_77 rfl ?_
              refine y_iald C 54 256 _ _ rfl rfl rfl ak_54 an_54 rfl (sb_54 _) hM151 dX12_lists_79 (by exact ⟨h152.1, (by (clear h154 u153g fM151 hM151 ih148 u139e u139y u139z h117 ua116 la116 ea116 h115 u114t u114e u114c h112 fM110 hM110 h108 h105 pM101 hM101 eM101 hret C hp0 ha1 hcw hpr hM0; omega))⟩) (fun a155 ea155 la155 ua155 => ?_)
              obtain rfl : a155 = (M151.1 108 (a150).toNat).toInt := ea155
              refine y_i2l C dX12_lists_80 (by omega) ?_
              refine y_last C 63 160 rfl rfl rfl ak_63 an_63 rfl hM151 (PM.w hpr rfl rfl) dX12_lists_81 (by (clear ua155 la155 fM151 hM151 ih148 u139e u139y u139z ea116 u114t u114e fM110 hM110 pM101 hM101 eM101 hret C hp0 hcw hpr hM0; omega)) (fun M156 eM156 hM156 => ?_)
              have pM156 := pi_J eM156 (by exact h152.2.2.2.2.2.2.1)
              refine y_iinc C 3 [(5, .int (sI (a150 + 1))), (0, .ref (ad 98)), (1, .int (sI a1)), (4, .int (sI a113))] dX12_lists_82 rfl (by decide) rfl ?_
              refine j_goto C 55 dX12_lists_85 (by decide) ?_
              have u157z := ls_s (M := M151) (N := M156) (f := (M0.1 99)) (g := M0.2.1 117) (a := (40 * a1).toNat) (x := a150) (x' := (a150 + 1)) (v := (M151.1 108 (a150).toNat).toInt) (by exact h152.2.2.1) eM156 (by (clear pM156 hM156 eM156 ua155 la155 fM151 hM151 ih148 u139e u139y u139z ea116 u114t u114e fM110 hM110 pM101 hM101 eM101 hret C hp0 hcw hpr hM0; omega))
              have u157e : b01 (ERW M156 (M0.1 99) (enF (M0.1 99) (-1)) a113) = 1 := by unfold ERW; rw [show M156.1 108 = M151.1 108 from wJ_cell eM156]; exact b01_i (b01_e (P := ERW M151 (M0.1 99) (enF (M0.1 99) (-1)) a113) (by exact h152.2.2.2.1))
              refine j_lv [1, 2, 3, 0] rfl ?_; exact ih148 (a150 + 1) M156 (by exact ⟨(by (clear hM156 eM156 ua155 la155 u153g fM151 hM151 ih148 u139e u139y u139z ea116 h115 u114t u114e fM110 hM110 h108 h105 pM101 hM101 eM101 hret C hp0 ha1 hcw hpr hM0; omega)), ⟨(by (clear hM156 eM156 ua155 la155 u153g fM151 hM151 ih148 u139e u139y u139z ea116 h115 u114t u114e fM110 hM110 h108 h105 pM101 hM101 eM101 hret C hp0 ha1 hcw hpr hM0; omega)), ⟨u157z, ⟨u157e, ⟨(by (clear hM156 eM156 ua155 la155 u153g fM151 hM151 ih148 u139e u139y u139z ea116 h115 u114t u114e fM110 hM110 h108 h105 pM101 hM101 eM101 hret C hp0 ha1 hcw hpr hM0; omega)), ⟨⟨h152.2.2.2.2.2.1.1, h152.2.2.2.2.2.1.2⟩, ⟨pM156, (by (clear hM156 eM156 ua155 la155 u153g fM151 hM151 ih148 u139e u139y u139z ea116 h115 u114t u114e fM110 hM110 h108 h105 pM101 hM101 eM101 hret C hp0 ha1 hcw hpr hM0; omega))⟩⟩⟩⟩⟩⟩⟩) hM156 ((FR.rf.tr fM151 (by decide)).wJ eM156 (by decide))
        refine j_lv [4, 5, 1, 0] rfl ?_; exact L149 2010 0 M110 (by exact ⟨(by decide), ⟨(by decide), ⟨u139y, ⟨u139e, ⟨(by (clear L149 u139z ea116 u114t u114e fM110 hM110 h108 h105 pM101 hM101 eM101 hret C hp0 ha1 hcw hpr hM0; omega)), ⟨⟨(by (clear L149 u139z ea116 u114t u114e fM110 hM110 h108 h105 pM101 hM101 eM101 hret C hp0 ha1 hcw hpr hM0; omega)), (by (clear L149 u139z ea116 u114t u114e fM110 hM110 h108 h105 pM101 hM101 eM101 hret C hp0 ha1 hcw hpr hM0; omega))⟩, ⟨h112.2.2.2.2, (by decide)⟩⟩⟩⟩⟩⟩⟩) hM110 ((FR.rf.wI eM101 (by decide)).tr fM110 (by decide))
    · refine y_bipush C dX12_lists_27 rfl ?_
      have u159s := lsA_s (ntA M0 a1) (enF (M0.1 99) (-1)) (M0.1 116 (a1).toNat).toInt
      have u159j : b01 (M110.2.1 117 = M0.2.1 117) = 1 := b01_i ((FR.cellJ fM110 (by decide)).trans (wI_J eM101 117))
      have u159n : ntA M101 a1 = ntA M0 a1 := by unfold ntA; rw [((wI_cell eM101 (by decide)))]
      exact hret _ _ _ _ dX12_lists_29 ⟨(-5), rfl, hM110, ((FR.rf.wI eM101 (by decide)).tr fM110 (by decide)), by exact ⟨(by decide), ⟨(by decide), ⟨(by (clear u114t u114e fM110 hM110 pM101 hM101 eM101 hret C hp0 ha1 hcw hpr hM0; omega)), ⟨(by (clear u114t u114e fM110 hM110 pM101 hM101 eM101 hret C hp0 ha1 hcw hpr hM0; omega)), h112.2.2.2.2⟩⟩⟩⟩⟩
  · refine j_iload_n C 0 2 dX12_lists_15 rfl rfl ?_
    have u160s := lsA_s (ntA M0 a1) (enF (M0.1 99) (-1)) (M0.1 116 (a1).toNat).toInt
    have u160j : b01 (M101.2.1 117 = M0.2.1 117) = 1 := b01_i (wI_J eM101 117)
    have u160n : ntA M101 a1 = ntA M0 a1 := by unfold ntA; rw [((wI_cell eM101 (by decide)))]
    exact hret _ _ _ _ dX12_lists_16 ⟨a106, rfl, hM101, (FR.rf.wI eM101 (by decide)), by exact ⟨h105.1, ⟨(by (clear hM101 eM101 hret C hp0 ha1 hcw hpr hM0; omega)), ⟨(by (clear hM101 eM101 hret C hp0 ha1 hcw hpr hM0; omega)), ⟨(by (clear hM101 eM101 hret C hp0 ha1 hcw hpr hM0; omega)), pM101⟩⟩⟩⟩⟩
set_option maxHeartbeats 4000000 in
theorem s1_X12_count {l : Launch} {dC : Nat → ClassId} {dI : Nat → Nat → Nat} {ad : Nat → Nat} {cA : Nat → ClassId} {pr : Nat → Nat → Bool} {Kz : mm_M} {M0 : mm_M} (hM0 : INV pr Kz M0) (hpr : PM pr) (a1 : Int) (ha1 : -2147483648 ≤ a1 ∧ a1 ≤ 2147483647) (hp0 : b01 (PI M0) = 1) : Ci l 4 yX12_count wsX12_count dC dI ad cA [.ref (ad 98), .int (sI a1)] M0 (fun r M' => ∃ a : Int, r = sI a ∧ INV pr Kz M' ∧ FR [98] M0 M' ∧ (-2147483648) ≤ a ∧ a ≤ 2147483647 ∧ (b01 (PI M') = 1)) := by
  refine ci_of (cc := cX12_count) (maxL := 2) (ty := .int) (lv := [(0, .ref (ad 98)), (1, .int (sI a1))]) (by decide) rfl (fun r M' hp => rfl) (Nat.le_of_ble_eq_true rfl) rfl ?_
  intro p e s m args below meth c A Q C hret
  refine j_aload_n C 0 0 dX12_count_0 rfl rfl ?_
  refine y_iconst C dX12_count_1 ?_
  refine y_putIF C 11 qX12_count_1 rfl rfl ft_11_0 sb_11_0 hM0 (PM.w hpr rfl rfl) dX12_count_2 (fun M101 eM101 hM101 => ?_)
  have pM101 := pi_o eM101 (by decide) (by decide) (by exact hp0)
  refine j_iload_n C 1 1 dX12_count_5 rfl rfl ?_
  rcases (show (a1 < 0 ∨ 11 < a1) ∨ a1 = 0 ∨ a1 = 1 ∨ a1 = 2 ∨ a1 = 3 ∨ a1 = 4 ∨ a1 = 5 ∨ a1 = 6 ∨ a1 = 7 ∨ a1 = 8 ∨ a1 = 9 ∨ a1 = 10 ∨ a1 = 11 by (clear pM101 hM101 eM101 hret C hp0 hpr hM0; omega)) with h102 | h102 | h102 | h102 | h102 | h102 | h102 | h102 | h102 | h102 | h102 | h102 | h102
  · refine y_tabO C 161 dX12_count_6 (by decide) (by exact ⟨⟨ha1.1, ha1.2⟩, h102⟩) ?_
    refine y_iconst C dX12_count_161 ?_
    exact hret _ _ _ _ dX12_count_162 ⟨(-1), rfl, hM101, (FR.rf.wI eM101 (by decide)), by exact ⟨(by decide), ⟨(by decide), pM101⟩⟩⟩
  · refine y_tabI C (off := 62) 68 0 dX12_count_6 (by decide) rfl (by decide) h102 ?_
    refine j_aload_n C 0 0 dX12_count_68 rfl rfl ?_
    refine y_getC C 11 99 fX12_count_13 rfl rfl ft_11_1 sm_11_1 rfl hM101 dX12_count_69 ?_
    refine y_bipush C dX12_count_72 rfl ?_
    refine y_ialdH C 45 3543 rfl rfl rfl ak_45 an_45 rfl _ _ hM101 (hr_45_26_26 _ (by exact (by decide)) (by exact (by decide))) dX12_count_74 (by exact ⟨(by decide), (by decide)⟩) (fun a103 ea103 la103 ua103 => ?_)
    obtain rfl : a103 = (M0.1 99 26).toInt := s_fa eM101 (by decide) (ea103)
    exact hret _ _ _ _ dX12_count_75 ⟨(M0.1 99 26).toInt, rfl, hM101, (FR.rf.wI eM101 (by decide)), by exact ⟨(by (clear h102 hM101 eM101 hret C hp0 ha1 hpr hM0; omega)), ⟨(by (clear h102 hM101 eM101 hret C hp0 ha1 hpr hM0; omega)), pM101⟩⟩⟩
  · refine y_tabI C (off := 70) 76 1 dX12_count_6 (by decide) rfl (by decide) h102 ?_
    refine j_aload_n C 0 0 dX12_count_76 rfl rfl ?_
    refine y_getC C 11 99 fX12_count_13 rfl rfl ft_11_1 sm_11_1 rfl hM101 dX12_count_77 ?_
    refine y_iconst C dX12_count_80 ?_
    refine y_ialdH C 45 3543 rfl rfl rfl ak_45 an_45 rfl _ _ hM101 (hr_45_1_1 _ (by exact (by decide)) (by exact (by decide))) dX12_count_81 (by exact ⟨(by decide), (by decide)⟩) (fun a104 ea104 la104 ua104 => ?_)
    obtain rfl : a104 = (M0.1 99 1).toInt := s_fa eM101 (by decide) (ea104)
    exact hret _ _ _ _ dX12_count_82 ⟨(M0.1 99 1).toInt, rfl, hM101, (FR.rf.wI eM101 (by decide)), by exact ⟨(by (clear h102 hM101 eM101 hret C hp0 ha1 hpr hM0; omega)), ⟨(by (clear h102 hM101 eM101 hret C hp0 ha1 hpr hM0; omega)), pM101⟩⟩⟩
  · refine y_tabI C (off := 77) 83 2 dX12_count_6 (by decide) rfl (by decide) h102 ?_
    refine j_aload_n C 0 0 dX12_count_83 rfl rfl ?_
    refine y_getC C 11 99 fX12_count_13 rfl rfl ft_11_1 sm_11_1 rfl hM101 dX12_count_84 ?_
    refine y_bipush C dX12_count_87 rfl ?_
    refine y_ialdH C 45 3543 rfl rfl rfl ak_45 an_45 rfl _ _ hM101 (hr_45_27_27 _ (by exact (by decide)) (by exact (by decide))) dX12_count_89 (by exact ⟨(by decide), (by decide)⟩) (fun a105 ea105 la105 ua105 => ?_)
    obtain rfl : a105 = (M0.1 99 27).toInt := s_fa eM101 (by decide) (ea105)
    exact hret _ _ _ _ dX12_count_90 ⟨(M0.1 99 27).toInt, rfl, hM101, (FR.rf.wI eM101 (by decide)), by exact ⟨(by (clear h102 hM101 eM101 hret C hp0 ha1 hpr hM0; omega)), ⟨(by (clear h102 hM101 eM101 hret C hp0 ha1 hpr hM0; omega)), pM101⟩⟩⟩
  · refine y_tabI C (off := 85) 91 3 dX12_count_6 (by decide) rfl (by decide) h102 ?_
    refine j_aload_n C 0 0 dX12_count_91 rfl rfl ?_
    refine y_getC C 11 99 fX12_count_13 rfl rfl ft_11_1 sm_11_1 rfl hM101 dX12_count_92 ?_
    refine y_bipush C dX12_count_95 rfl ?_
    refine y_ialdH C 45 3543 rfl rfl rfl ak_45 an_45 rfl _ _ hM101 (hr_45_28_28 _ (by exact (by decide)) (by exact (by decide))) dX12_count_97 (by exact ⟨(by decide), (by decide)⟩) (fun a106 ea106 la106 ua106 => ?_)
    obtain rfl : a106 = (M0.1 99 28).toInt := s_fa eM101 (by decide) (ea106)
    exact hret _ _ _ _ dX12_count_98 ⟨(M0.1 99 28).toInt, rfl, hM101, (FR.rf.wI eM101 (by decide)), by exact ⟨(by (clear h102 hM101 eM101 hret C hp0 ha1 hpr hM0; omega)), ⟨(by (clear h102 hM101 eM101 hret C hp0 ha1 hpr hM0; omega)), pM101⟩⟩⟩
  · refine y_tabI C (off := 93) 99 4 dX12_count_6 (by decide) rfl (by decide) h102 ?_
    refine j_aload_n C 0 0 dX12_count_99 rfl rfl ?_
    refine j_callVi C (d := 3) (As := []) (st := []) 98 (s_lt rfl rfl) (s_kc (c := 11) rfl rfl) (by decide) rfl (s1_X12_isShut hM101) gX12_count_X12_isShut rfl hdX12_isShut (by decide) (Nat.le_of_ble_eq_true rfl) dX12_count_100 rfl (fun r107 M108 h109 => ?_)
    obtain ⟨a111, rfl, rfl, h110⟩ := h109
    rw [show M101.1 99 = M0.1 99 from (wI_cell eM101 (by decide))] at h110
    obtain rfl : a111 = (shF (M0.1 99) ((M0.1 99 27).toInt)) := by exact h110.2.2
    refine y_if_eq C 110 dX12_count_103 (by decide) (by omega) (fun h112 => ?_) (fun h112 => ?_)
    · refine y_iconst C dX12_count_110 ?_
      exact hret _ _ _ _ dX12_count_111 ⟨0, rfl, hM101, (FR.rf.wI eM101 (by decide)), by exact ⟨(by decide), ⟨(by decide), pM101⟩⟩⟩
    · refine y_iconst C dX12_count_106 ?_
      refine j_goto C 111 dX12_count_107 (by decide) ?_
      exact hret _ _ _ _ dX12_count_111 ⟨1, rfl, hM101, (FR.rf.wI eM101 (by decide)), by exact ⟨(by decide), ⟨(by decide), pM101⟩⟩⟩
  · refine y_tabI C (off := 106) 112 5 dX12_count_6 (by decide) rfl (by decide) h102 ?_
    refine j_aload_n C 0 0 dX12_count_112 rfl rfl ?_
    refine y_getC C 11 99 fX12_count_13 rfl rfl ft_11_1 sm_11_1 rfl hM101 dX12_count_113 ?_
    refine y_bipush C dX12_count_116 rfl ?_
    refine y_ialdF C 45 3543 rfl rfl rfl ak_45 an_45 rfl dX12_count_118 (by exact ⟨(by decide), (by decide)⟩) (fun a113 ea113 la113 ua113 => ?_)
    obtain rfl : a113 = (M0.1 99 29).toInt := s_fa eM101 (by decide) (ea113)
    exact hret _ _ _ _ dX12_count_119 ⟨(M0.1 99 29).toInt, rfl, hM101, (FR.rf.wI eM101 (by decide)), by exact ⟨la113, ⟨ua113, pM101⟩⟩⟩
  · refine y_tabI C (off := 114) 120 6 dX12_count_6 (by decide) rfl (by decide) h102 ?_
    refine j_aload_n C 0 0 dX12_count_120 rfl rfl ?_
    refine y_getC C 11 99 fX12_count_13 rfl rfl ft_11_1 sm_11_1 rfl hM101 dX12_count_121 ?_
    refine y_bipush C dX12_count_124 rfl ?_
    refine y_ialdF C 45 3543 rfl rfl rfl ak_45 an_45 rfl dX12_count_126 (by exact ⟨(by decide), (by decide)⟩) (fun a114 ea114 la114 ua114 => ?_)
    obtain rfl : a114 = (M0.1 99 30).toInt := s_fa eM101 (by decide) (ea114)
    exact hret _ _ _ _ dX12_count_127 ⟨(M0.1 99 30).toInt, rfl, hM101, (FR.rf.wI eM101 (by decide)), by exact ⟨la114, ⟨ua114, pM101⟩⟩⟩
  · refine y_tabI C (off := 122) 128 7 dX12_count_6 (by decide) rfl (by decide) h102 ?_
    refine j_aload_n C 0 0 dX12_count_128 rfl rfl ?_
    refine y_getC C 11 99 fX12_count_13 rfl rfl ft_11_1 sm_11_1 rfl hM101 dX12_count_129 ?_
    refine y_bipush C dX12_count_132 rfl ?_
    refine y_ialdF C 45 3543 rfl rfl rfl ak_45 an_45 rfl dX12_count_134 (by exact ⟨(by decide), (by decide)⟩) (fun a115 ea115 la115 ua115 => ?_)
    obtain rfl : a115 = (M0.1 99 31).toInt := s_fa eM101 (by decide) (ea115)
    exact hret _ _ _ _ dX12_count_135 ⟨(M0.1 99 31).toInt, rfl, hM101, (FR.rf.wI eM101 (by decide)), by exact ⟨la115, ⟨ua115, pM101⟩⟩⟩
  · refine y_tabI C (off := 130) 136 8 dX12_count_6 (by decide) rfl (by decide) h102 ?_
    refine j_aload_n C 0 0 dX12_count_136 rfl rfl ?_
    refine j_callVi C (d := 0) (As := []) (st := []) 98 (s_lt rfl rfl) (s_kc (c := 11) rfl rfl) (by decide) rfl (s1_X12_oddsAll hM101) gX12_count_X12_oddsAll rfl hdX12_oddsAll (by decide) (Nat.le_of_ble_eq_true rfl) dX12_count_137 rfl (fun r116 M117 h118 => ?_)
    obtain ⟨a120, rfl, rfl, h119⟩ := h118
    rw [show M101.1 99 = M0.1 99 from (wI_cell eM101 (by decide))] at h119
    obtain rfl : a120 = (psF (M0.1 99) (M0.1 99 1).toInt.toNat) := by exact h119.2.2
    exact hret _ _ _ _ dX12_count_140 ⟨(psF (M0.1 99) (M0.1 99 1).toInt.toNat), rfl, hM101, (FR.rf.wI eM101 (by decide)), by exact ⟨(by (clear h102 hM101 eM101 hret C hp0 ha1 hpr hM0; omega)), ⟨(by (clear h102 hM101 eM101 hret C hp0 ha1 hpr hM0; omega)), pM101⟩⟩⟩
  · refine y_tabI C (off := 135) 141 9 dX12_count_6 (by decide) rfl (by decide) h102 ?_
    refine j_aload_n C 0 0 dX12_count_141 rfl rfl ?_
    refine y_getC C 11 99 fX12_count_13 rfl rfl ft_11_1 sm_11_1 rfl hM101 dX12_count_142 ?_
    refine y_bipush C dX12_count_145 rfl ?_
    refine y_ialdH C 45 3543 rfl rfl rfl ak_45 an_45 rfl _ _ hM101 (hr_45_49_49 _ (by exact (by decide)) (by exact (by decide))) dX12_count_147 (by exact ⟨(by decide), (by decide)⟩) (fun a121 ea121 la121 ua121 => ?_)
    obtain rfl : a121 = (M0.1 99 49).toInt := s_fa eM101 (by decide) (ea121)
    exact hret _ _ _ _ dX12_count_148 ⟨(M0.1 99 49).toInt, rfl, hM101, (FR.rf.wI eM101 (by decide)), by exact ⟨(by (clear h102 hM101 eM101 hret C hp0 ha1 hpr hM0; omega)), ⟨(by (clear h102 hM101 eM101 hret C hp0 ha1 hpr hM0; omega)), pM101⟩⟩⟩
  · refine y_tabI C (off := 143) 149 10 dX12_count_6 (by decide) rfl (by decide) h102 ?_
    refine j_aload_n C 0 0 dX12_count_149 rfl rfl ?_
    refine y_getI C 11 _ _ fX12_count_80 rfl rfl ft_11_5 sb_11_5 hM101 dX12_count_150 (fun a122 ea122 la122 ua122 => ?_)
    obtain rfl : a122 = (M0.1 98 5).toInt := s_fb eM101 (by decide) (ea122)
    exact hret _ _ _ _ dX12_count_153 ⟨(M0.1 98 5).toInt, rfl, hM101, (FR.rf.wI eM101 (by decide)), by exact ⟨(by (clear h102 hM101 eM101 hret C hp0 ha1 hpr hM0; omega)), ⟨(by (clear h102 hM101 eM101 hret C hp0 ha1 hpr hM0; omega)), pM101⟩⟩⟩
  · refine y_tabI C (off := 148) 154 11 dX12_count_6 (by decide) rfl (by decide) h102 ?_
    refine j_aload_n C 0 0 dX12_count_154 rfl rfl ?_
    refine y_getC C 11 99 fX12_count_13 rfl rfl ft_11_1 sm_11_1 rfl hM101 dX12_count_155 ?_
    refine y_iconst C dX12_count_158 ?_
    refine y_ialdF C 45 3543 rfl rfl rfl ak_45 an_45 rfl dX12_count_159 (by exact ⟨(by decide), (by decide)⟩) (fun a124 ea124 la124 ua124 => ?_)
    obtain rfl : a124 = (M0.1 99 0).toInt := s_fa eM101 (by decide) (ea124)
    exact hret _ _ _ _ dX12_count_160 ⟨(M0.1 99 0).toInt, rfl, hM101, (FR.rf.wI eM101 (by decide)), by exact ⟨la124, ⟨ua124, pM101⟩⟩⟩
