theorem iX12_feed_X12 : ∀ w ∈ wsX120, w ∈ wsX12_feed := fun w h => List.mem_cons_of_mem _ (List.mem_append_right _ h)
theorem qX12_feed_1 : jj_P wsX12_feed RX12 1 11 0 (.int) := ⟨_, _, _, tyX12, rfl, by decide, iX12_feed_X12, (show Cond.fieldLink RX12 1 (TX12 0).1 (TX12 0).2.1 (TX12 0).2.2.1 ∈ wsX12_feed from List.mem_of_getElem? (i := 1) rfl), tyX12_ok, nmX12, rfl, by decide +kernel⟩
theorem sb_11_0 : s_b 11 0 = ((-2147483648), 2147483647) := rfl
theorem ft_11_0 : (mm_ft 11)[0]? = some 0 := rfl
theorem fX12_feed_80 : jj_F wsX12_feed RX12 80 11 5 := ⟨_, _, _, rfl, by decide, iX12_feed_X12, (show Cond.fieldLink RX12 80 (TX12 5).1 (TX12 5).2.1 (TX12 5).2.2.1 ∈ wsX12_feed from List.mem_of_getElem? (i := 2) rfl)⟩
theorem sb_11_5 : s_b 11 5 = (0, 900) := rfl
theorem ft_11_5 : (mm_ft 11)[5]? = some 0 := rfl
theorem fX12_feed_21 : jj_F wsX12_feed RX12 21 11 3 := ⟨_, _, _, rfl, by decide, iX12_feed_X12, (show Cond.fieldLink RX12 21 (TX12 3).1 (TX12 3).2.1 (TX12 3).2.2.1 ∈ wsX12_feed from List.mem_of_getElem? (i := 3) rfl)⟩
theorem ft_11_3 : (mm_ft 11)[3]? = some 2 := rfl
theorem sm_11_3 : s_m 11 3 = 0 := rfl
theorem ak_47 : s_ak 47 = 100 := rfl
theorem an_47 : s_an 47 = 900 := rfl
theorem sb_47 (k : Nat) : s_b 47 k = (0, 255) := rfl
theorem qX12_feed_80 : jj_P wsX12_feed RX12 80 11 5 (.int) := ⟨_, _, _, tyX12, rfl, by decide, iX12_feed_X12, (show Cond.fieldLink RX12 80 (TX12 5).1 (TX12 5).2.1 (TX12 5).2.2.1 ∈ wsX12_feed from List.mem_of_getElem? (i := 2) rfl), tyX12_ok, nmX12, rfl, by decide +kernel⟩
theorem iX12_fault_X12 : ∀ w ∈ wsX120, w ∈ wsX12_fault := fun w h => List.mem_cons_of_mem _ (List.mem_append_right _ h)
theorem qX12_fault_1 : jj_P wsX12_fault RX12 1 11 0 (.int) := ⟨_, _, _, tyX12, rfl, by decide, iX12_fault_X12, (show Cond.fieldLink RX12 1 (TX12 0).1 (TX12 0).2.1 (TX12 0).2.2.1 ∈ wsX12_fault from List.mem_of_getElem? (i := 1) rfl), tyX12_ok, nmX12, rfl, by decide +kernel⟩
theorem fX12_fault_27 : jj_F wsX12_fault RX12 27 11 14 := ⟨_, _, _, rfl, by decide, iX12_fault_X12, (show Cond.fieldLink RX12 27 (TX12 14).1 (TX12 14).2.1 (TX12 14).2.2.1 ∈ wsX12_fault from List.mem_of_getElem? (i := 3) rfl)⟩
theorem sb_11_14 : s_b 11 14 = ((-2147483648), 2147483647) := rfl
theorem ft_11_14 : (mm_ft 11)[14]? = some 0 := rfl
theorem fX12_fault_201 : jj_F wsX12_fault RX12 201 11 13 := ⟨_, _, _, rfl, by decide, iX12_fault_X12, (show Cond.fieldLink RX12 201 (TX12 13).1 (TX12 13).2.1 (TX12 13).2.2.1 ∈ wsX12_fault from List.mem_of_getElem? (i := 2) rfl)⟩
theorem sb_11_13 : s_b 11 13 = ((-2147483648), 2147483647) := rfl
theorem ft_11_13 : (mm_ft 11)[13]? = some 0 := rfl
theorem iX12_kind_X12 : ∀ w ∈ wsX120, w ∈ wsX12_kind := fun w h => List.mem_cons_of_mem _ (List.mem_append_right _ h)
theorem qX12_kind_1 : jj_P wsX12_kind RX12 1 11 0 (.int) := ⟨_, _, _, tyX12, rfl, by decide, iX12_kind_X12, (show Cond.fieldLink RX12 1 (TX12 0).1 (TX12 0).2.1 (TX12 0).2.2.1 ∈ wsX12_kind from List.mem_of_getElem? (i := 1) rfl), tyX12_ok, nmX12, rfl, by decide +kernel⟩
theorem iX12_isKind_X12 : ∀ w ∈ wsX120, w ∈ wsX12_isKind := fun w h => List.mem_cons_of_mem _ (List.mem_append_right _ h)
theorem fX12_isKind_13 : jj_F wsX12_isKind RX12 13 11 1 := ⟨_, _, _, rfl, by decide, iX12_isKind_X12, (show Cond.fieldLink RX12 13 (TX12 1).1 (TX12 1).2.1 (TX12 1).2.2.1 ∈ wsX12_isKind from List.mem_of_getElem? (i := 1) rfl)⟩
theorem ft_11_1 : (mm_ft 11)[1]? = some 2 := rfl
theorem sm_11_1 : s_m 11 1 = 0 := rfl
theorem ak_45 : s_ak 45 = 100 := rfl
theorem an_45 : s_an 45 = 3543 := rfl
theorem hr_45_26_26 : ∀ k, k < 27 → 26 ≤ k → 0 ≤ (s_b 45 k).1 ∧ (s_b 45 k).2 ≤ 8 := by decide +kernel
theorem hdX12_withins : yX12_within.cls ≠ "java/lang/invoke/MethodHandle" ∧ yX12_within.cls ≠ "java/lang/invoke/VarHandle" ∧ (parseMethodDescriptor yX12_within.desc).map (fun d => d.parameters.length) = some 3 := by decide +kernel
theorem hdX12_isKind : yX12_isKind.cls = RX12 ∧ yX12_isKind.cls ≠ "java/lang/invoke/MethodHandle" ∧ yX12_isKind.cls ≠ "java/lang/invoke/VarHandle" ∧ (parseMethodDescriptor yX12_isKind.desc).map (fun d => d.parameters.length) = some 1 := by decide +kernel
theorem fX12_kind_13 : jj_F wsX12_kind RX12 13 11 1 := ⟨_, _, _, rfl, by decide, iX12_kind_X12, (show Cond.fieldLink RX12 13 (TX12 1).1 (TX12 1).2.1 (TX12 1).2.2.1 ∈ wsX12_kind from List.mem_of_getElem? (i := 2) rfl)⟩
theorem hr_45_27_27 : ∀ k, k < 28 → 27 ≤ k → 0 ≤ (s_b 45 k).1 ∧ (s_b 45 k).2 ≤ 255 := by decide +kernel
theorem hr_45_28_28 : ∀ k, k < 29 → 28 ≤ k → 0 ≤ (s_b 45 k).1 ∧ (s_b 45 k).2 ≤ 255 := by decide +kernel
theorem iX12_whoBuys_X12 : ∀ w ∈ wsX120, w ∈ wsX12_whoBuys := fun w h => List.mem_cons_of_mem _ (List.mem_append_right _ h)
theorem fX12_whoBuys_13 : jj_F wsX12_whoBuys RX12 13 11 1 := ⟨_, _, _, rfl, by decide, iX12_whoBuys_X12, (show Cond.fieldLink RX12 13 (TX12 1).1 (TX12 1).2.1 (TX12 1).2.2.1 ∈ wsX12_whoBuys from List.mem_of_getElem? (i := 1) rfl)⟩
theorem hr_45_1_1 : ∀ k, k < 2 → 1 ≤ k → 0 ≤ (s_b 45 k).1 ∧ (s_b 45 k).2 ≤ 6 := by decide +kernel
theorem iX12_buysNow_X12 : ∀ w ∈ wsX120, w ∈ wsX12_buysNow := fun w h => List.mem_cons_of_mem _ (List.mem_append_right _ h)
theorem fX12_buysNow_13 : jj_F wsX12_buysNow RX12 13 11 1 := ⟨_, _, _, rfl, by decide, iX12_buysNow_X12, (show Cond.fieldLink RX12 13 (TX12 1).1 (TX12 1).2.1 (TX12 1).2.2.1 ∈ wsX12_buysNow from List.mem_of_getElem? (i := 1) rfl)⟩
theorem iX12_buysOf_X12 : ∀ w ∈ wsX120, w ∈ wsX12_buysOf := fun w h => List.mem_cons_of_mem _ (List.mem_append_right _ h)
theorem fX12_buysOf_13 : jj_F wsX12_buysOf RX12 13 11 1 := ⟨_, _, _, rfl, by decide, iX12_buysOf_X12, (show Cond.fieldLink RX12 13 (TX12 1).1 (TX12 1).2.1 (TX12 1).2.2.1 ∈ wsX12_buysOf from List.mem_of_getElem? (i := 1) rfl)⟩
theorem iX12_everyKind_X12 : ∀ w ∈ wsX120, w ∈ wsX12_everyKind := fun w h => List.mem_cons_of_mem _ (List.mem_append_right _ h)
theorem fX12_everyKind_13 : jj_F wsX12_everyKind RX12 13 11 1 := ⟨_, _, _, rfl, by decide, iX12_everyKind_X12, (show Cond.fieldLink RX12 13 (TX12 1).1 (TX12 1).2.1 (TX12 1).2.2.1 ∈ wsX12_everyKind from List.mem_of_getElem? (i := 1) rfl)⟩
theorem hdX12_everyKind : yX12_everyKind.cls = RX12 ∧ yX12_everyKind.cls ≠ "java/lang/invoke/MethodHandle" ∧ yX12_everyKind.cls ≠ "java/lang/invoke/VarHandle" ∧ (parseMethodDescriptor yX12_everyKind.desc).map (fun d => d.parameters.length) = some 0 := by decide +kernel
theorem iX12_shown_X12 : ∀ w ∈ wsX120, w ∈ wsX12_shown := fun w h => List.mem_cons_of_mem _ (List.mem_append_right _ h)
theorem fX12_shown_13 : jj_F wsX12_shown RX12 13 11 1 := ⟨_, _, _, rfl, by decide, iX12_shown_X12, (show Cond.fieldLink RX12 13 (TX12 1).1 (TX12 1).2.1 (TX12 1).2.2.1 ∈ wsX12_shown from List.mem_of_getElem? (i := 1) rfl)⟩
theorem hdX12_shown : yX12_shown.cls = RX12 ∧ yX12_shown.cls ≠ "java/lang/invoke/MethodHandle" ∧ yX12_shown.cls ≠ "java/lang/invoke/VarHandle" ∧ (parseMethodDescriptor yX12_shown.desc).map (fun d => d.parameters.length) = some 0 := by decide +kernel
theorem hdX12_isShutBy : yX12_isShutBy.cls = RX12 ∧ yX12_isShutBy.cls ≠ "java/lang/invoke/MethodHandle" ∧ yX12_isShutBy.cls ≠ "java/lang/invoke/VarHandle" ∧ (parseMethodDescriptor yX12_isShutBy.desc).map (fun d => d.parameters.length) = some 1 := by decide +kernel
theorem iX12_mayBuy_X12 : ∀ w ∈ wsX120, w ∈ wsX12_mayBuy := fun w h => List.mem_cons_of_mem _ (List.mem_append_right _ h)
theorem fX12_mayBuy_13 : jj_F wsX12_mayBuy RX12 13 11 1 := ⟨_, _, _, rfl, by decide, iX12_mayBuy_X12, (show Cond.fieldLink RX12 13 (TX12 1).1 (TX12 1).2.1 (TX12 1).2.2.1 ∈ wsX12_mayBuy from List.mem_of_getElem? (i := 1) rfl)⟩
theorem hdX12_isIns : yX12_isIn.cls ≠ "java/lang/invoke/MethodHandle" ∧ yX12_isIn.cls ≠ "java/lang/invoke/VarHandle" ∧ (parseMethodDescriptor yX12_isIn.desc).map (fun d => d.parameters.length) = some 2 := by decide +kernel
theorem iX12_reckons_X12 : ∀ w ∈ wsX120, w ∈ wsX12_reckons := fun w h => List.mem_cons_of_mem _ (List.mem_append_right _ h)
theorem fX12_reckons_33 : jj_F wsX12_reckons RX12 33 11 16 := ⟨_, _, _, rfl, by decide, iX12_reckons_X12, (show Cond.fieldLink RX12 33 (TX12 16).1 (TX12 16).2.1 (TX12 16).2.2.1 ∈ wsX12_reckons from List.mem_of_getElem? (i := 1) rfl)⟩
theorem ft_11_16 : (mm_ft 11)[16]? = some 2 := rfl
theorem sm_11_16 : s_m 11 16 = 0 := rfl
theorem ak_50 : s_ak 50 = 100 := rfl
theorem an_50 : s_an 50 = 8 := rfl
theorem sb_50 (k : Nat) : s_b 50 k = ((-2147483648), 2147483647) := rfl
theorem fX12_reckons_13 : jj_F wsX12_reckons RX12 13 11 1 := ⟨_, _, _, rfl, by decide, iX12_reckons_X12, (show Cond.fieldLink RX12 13 (TX12 1).1 (TX12 1).2.1 (TX12 1).2.2.1 ∈ wsX12_reckons from List.mem_of_getElem? (i := 2) rfl)⟩
theorem hdX12_bitsOfs : yX12_bitsOf.cls ≠ "java/lang/invoke/MethodHandle" ∧ yX12_bitsOf.cls ≠ "java/lang/invoke/VarHandle" ∧ (parseMethodDescriptor yX12_bitsOf.desc).map (fun d => d.parameters.length) = some 1 := by decide +kernel
theorem hr_45_7_7 : ∀ k, k < 8 → 7 ≤ k → 0 ≤ (s_b 45 k).1 ∧ (s_b 45 k).2 ≤ 900 := by decide +kernel
theorem hr_45_5_5 : ∀ k, k < 6 → 5 ≤ k → 0 ≤ (s_b 45 k).1 ∧ (s_b 45 k).2 ≤ 900 := by decide +kernel
theorem fX12_reckons_30 : jj_F wsX12_reckons RX12 30 11 15 := ⟨_, _, _, rfl, by decide, iX12_reckons_X12, (show Cond.fieldLink RX12 30 (TX12 15).1 (TX12 15).2.1 (TX12 15).2.2.1 ∈ wsX12_reckons from List.mem_of_getElem? (i := 3) rfl)⟩
theorem ft_11_15 : (mm_ft 11)[15]? = some 2 := rfl
theorem sm_11_15 : s_m 11 15 = 0 := rfl
theorem sb_49 (k : Nat) : s_b 49 k = ((-2147483648), 2147483647) := rfl
theorem ak_49 : s_ak 49 = 100 := rfl
theorem an_49 : s_an 49 = 900 := rfl
theorem kX12_between_213 : Cond.constantLong RX12 213 1000000 ∈ wsX12_between := List.mem_of_getElem? (i := 1) rfl
theorem kX12_between_215 : Cond.constantLong RX12 215 (-1000000) ∈ wsX12_between := List.mem_of_getElem? (i := 2) rfl
theorem hdX12_betweens : yX12_between.cls ≠ "java/lang/invoke/MethodHandle" ∧ yX12_between.cls ≠ "java/lang/invoke/VarHandle" ∧ (parseMethodDescriptor yX12_between.desc).map (fun d => d.parameters.length) = some 3 := by decide +kernel
theorem hdX12_reckons : yX12_reckons.cls = RX12 ∧ yX12_reckons.cls ≠ "java/lang/invoke/MethodHandle" ∧ yX12_reckons.cls ≠ "java/lang/invoke/VarHandle" ∧ (parseMethodDescriptor yX12_reckons.desc).map (fun d => d.parameters.length) = some 4 := by decide +kernel
theorem hdX12_mayBuy : yX12_mayBuy.cls = RX12 ∧ yX12_mayBuy.cls ≠ "java/lang/invoke/MethodHandle" ∧ yX12_mayBuy.cls ≠ "java/lang/invoke/VarHandle" ∧ (parseMethodDescriptor yX12_mayBuy.desc).map (fun d => d.parameters.length) = some 3 := by decide +kernel
theorem iX12_wantsOf_X12 : ∀ w ∈ wsX120, w ∈ wsX12_wantsOf := fun w h => List.mem_cons_of_mem _ (List.mem_append_right _ h)
theorem fX12_wantsOf_13 : jj_F wsX12_wantsOf RX12 13 11 1 := ⟨_, _, _, rfl, by decide, iX12_wantsOf_X12, (show Cond.fieldLink RX12 13 (TX12 1).1 (TX12 1).2.1 (TX12 1).2.2.1 ∈ wsX12_wantsOf from List.mem_of_getElem? (i := 1) rfl)⟩
theorem hr_45_6_6 : ∀ k, k < 7 → 6 ≤ k → 0 ≤ (s_b 45 k).1 ∧ (s_b 45 k).2 ≤ 900 := by decide +kernel
theorem hr_45_4_4 : ∀ k, k < 5 → 4 ≤ k → 0 ≤ (s_b 45 k).1 ∧ (s_b 45 k).2 ≤ 900 := by decide +kernel
theorem hdX12_wantsOf : yX12_wantsOf.cls = RX12 ∧ yX12_wantsOf.cls ≠ "java/lang/invoke/MethodHandle" ∧ yX12_wantsOf.cls ≠ "java/lang/invoke/VarHandle" ∧ (parseMethodDescriptor yX12_wantsOf.desc).map (fun d => d.parameters.length) = some 3 := by decide +kernel
theorem hdX12_buysOf : yX12_buysOf.cls = RX12 ∧ yX12_buysOf.cls ≠ "java/lang/invoke/MethodHandle" ∧ yX12_buysOf.cls ≠ "java/lang/invoke/VarHandle" ∧ (parseMethodDescriptor yX12_buysOf.desc).map (fun d => d.parameters.length) = some 2 := by decide +kernel
theorem hdX12_buysNow : yX12_buysNow.cls = RX12 ∧ yX12_buysNow.cls ≠ "java/lang/invoke/MethodHandle" ∧ yX12_buysNow.cls ≠ "java/lang/invoke/VarHandle" ∧ (parseMethodDescriptor yX12_buysNow.desc).map (fun d => d.parameters.length) = some 1 := by decide +kernel
theorem hdX12_whoBuys : yX12_whoBuys.cls = RX12 ∧ yX12_whoBuys.cls ≠ "java/lang/invoke/MethodHandle" ∧ yX12_whoBuys.cls ≠ "java/lang/invoke/VarHandle" ∧ (parseMethodDescriptor yX12_whoBuys.desc).map (fun d => d.parameters.length) = some 1 := by decide +kernel
theorem iX12_buyer_X12 : ∀ w ∈ wsX120, w ∈ wsX12_buyer := fun w h => List.mem_cons_of_mem _ (List.mem_append_right _ h)
theorem qX12_buyer_1 : jj_P wsX12_buyer RX12 1 11 0 (.int) := ⟨_, _, _, tyX12, rfl, by decide, iX12_buyer_X12, (show Cond.fieldLink RX12 1 (TX12 0).1 (TX12 0).2.1 (TX12 0).2.2.1 ∈ wsX12_buyer from List.mem_of_getElem? (i := 1) rfl), tyX12_ok, nmX12, rfl, by decide +kernel⟩
theorem iX12_isBuyer_X12 : ∀ w ∈ wsX120, w ∈ wsX12_isBuyer := fun w h => List.mem_cons_of_mem _ (List.mem_append_right _ h)
theorem fX12_isBuyer_13 : jj_F wsX12_isBuyer RX12 13 11 1 := ⟨_, _, _, rfl, by decide, iX12_isBuyer_X12, (show Cond.fieldLink RX12 13 (TX12 1).1 (TX12 1).2.1 (TX12 1).2.2.1 ∈ wsX12_isBuyer from List.mem_of_getElem? (i := 1) rfl)⟩
theorem hdX12_isBuyer : yX12_isBuyer.cls = RX12 ∧ yX12_isBuyer.cls ≠ "java/lang/invoke/MethodHandle" ∧ yX12_isBuyer.cls ≠ "java/lang/invoke/VarHandle" ∧ (parseMethodDescriptor yX12_isBuyer.desc).map (fun d => d.parameters.length) = some 1 := by decide +kernel
theorem fX12_buyer_13 : jj_F wsX12_buyer RX12 13 11 1 := ⟨_, _, _, rfl, by decide, iX12_buyer_X12, (show Cond.fieldLink RX12 13 (TX12 1).1 (TX12 1).2.1 (TX12 1).2.2.1 ∈ wsX12_buyer from List.mem_of_getElem? (i := 2) rfl)⟩
theorem hr_45_20_25 : ∀ k, k < 26 → 20 ≤ k → 0 ≤ (s_b 45 k).1 ∧ (s_b 45 k).2 ≤ 9 := by decide +kernel
theorem iX12_mayNow_X12 : ∀ w ∈ wsX120, w ∈ wsX12_mayNow := fun w h => List.mem_cons_of_mem _ (List.mem_append_right _ h)
theorem fX12_mayNow_13 : jj_F wsX12_mayNow RX12 13 11 1 := ⟨_, _, _, rfl, by decide, iX12_mayNow_X12, (show Cond.fieldLink RX12 13 (TX12 1).1 (TX12 1).2.1 (TX12 1).2.2.1 ∈ wsX12_mayNow from List.mem_of_getElem? (i := 1) rfl)⟩
theorem hdX12_mayNow : yX12_mayNow.cls = RX12 ∧ yX12_mayNow.cls ≠ "java/lang/invoke/MethodHandle" ∧ yX12_mayNow.cls ≠ "java/lang/invoke/VarHandle" ∧ (parseMethodDescriptor yX12_mayNow.desc).map (fun d => d.parameters.length) = some 1 := by decide +kernel
theorem iX12_wants_X12 : ∀ w ∈ wsX120, w ∈ wsX12_wants := fun w h => List.mem_cons_of_mem _ (List.mem_append_right _ h)
theorem qX12_wants_1 : jj_P wsX12_wants RX12 1 11 0 (.int) := ⟨_, _, _, tyX12, rfl, by decide, iX12_wants_X12, (show Cond.fieldLink RX12 1 (TX12 0).1 (TX12 0).2.1 (TX12 0).2.2.1 ∈ wsX12_wants from List.mem_of_getElem? (i := 1) rfl), tyX12_ok, nmX12, rfl, by decide +kernel⟩
theorem kX12_wants_258 : Cond.constant RX12 258 (-99000002) ∈ wsX12_wants := List.mem_of_getElem? (i := 3) rfl
theorem fX12_wants_13 : jj_F wsX12_wants RX12 13 11 1 := ⟨_, _, _, rfl, by decide, iX12_wants_X12, (show Cond.fieldLink RX12 13 (TX12 1).1 (TX12 1).2.1 (TX12 1).2.2.1 ∈ wsX12_wants from List.mem_of_getElem? (i := 2) rfl)⟩
theorem iX12_seed_X12 : ∀ w ∈ wsX120, w ∈ wsX12_seed := fun w h => List.mem_cons_of_mem _ (List.mem_append_right _ h)
theorem qX12_seed_1 : jj_P wsX12_seed RX12 1 11 0 (.int) := ⟨_, _, _, tyX12, rfl, by decide, iX12_seed_X12, (show Cond.fieldLink RX12 1 (TX12 0).1 (TX12 0).2.1 (TX12 0).2.2.1 ∈ wsX12_seed from List.mem_of_getElem? (i := 1) rfl), tyX12_ok, nmX12, rfl, by decide +kernel⟩
theorem iX12_keeps_X12 : ∀ w ∈ wsX120, w ∈ wsX12_keeps := fun w h => List.mem_cons_of_mem _ (List.mem_append_right _ h)
theorem fX12_keeps_36 : jj_F wsX12_keeps RX12 36 11 17 := ⟨_, _, _, rfl, by decide, iX12_keeps_X12, (show Cond.fieldLink RX12 36 (TX12 17).1 (TX12 17).2.1 (TX12 17).2.2.1 ∈ wsX12_keeps from List.mem_of_getElem? (i := 1) rfl)⟩
theorem ft_11_17 : (mm_ft 11)[17]? = some 2 := rfl
theorem sm_11_17 : s_m 11 17 = 0 := rfl
theorem fX12_keeps_13 : jj_F wsX12_keeps RX12 13 11 1 := ⟨_, _, _, rfl, by decide, iX12_keeps_X12, (show Cond.fieldLink RX12 13 (TX12 1).1 (TX12 1).2.1 (TX12 1).2.2.1 ∈ wsX12_keeps from List.mem_of_getElem? (i := 2) rfl)⟩
theorem ak_51 : s_ak 51 = 100 := rfl
theorem an_51 : s_an 51 = 23 := rfl
theorem hdX12_keeps : yX12_keeps.cls = RX12 ∧ yX12_keeps.cls ≠ "java/lang/invoke/MethodHandle" ∧ yX12_keeps.cls ≠ "java/lang/invoke/VarHandle" ∧ (parseMethodDescriptor yX12_keeps.desc).map (fun d => d.parameters.length) = some 0 := by decide +kernel
theorem fX12_seed_13 : jj_F wsX12_seed RX12 13 11 1 := ⟨_, _, _, rfl, by decide, iX12_seed_X12, (show Cond.fieldLink RX12 13 (TX12 1).1 (TX12 1).2.1 (TX12 1).2.2.1 ∈ wsX12_seed from List.mem_of_getElem? (i := 2) rfl)⟩
theorem hs_45_32_32 : ∀ k, k < 33 → 32 ≤ k → (s_b 45 k).1 ≤ (-2147483648) ∧ 2147483647 ≤ (s_b 45 k).2 := by decide +kernel
theorem hm_32_32 : ∀ k, k < 33 → 32 ≤ k → pm 45 k = true := by decide +kernel
theorem hn_32_32 : ∀ k, k < 33 → 32 ≤ k → npQ 99 k = true := by decide +kernel
theorem iX12_notes_X12 : ∀ w ∈ wsX120, w ∈ wsX12_notes := fun w h => List.mem_cons_of_mem _ (List.mem_append_right _ h)
theorem fX12_notes_13 : jj_F wsX12_notes RX12 13 11 1 := ⟨_, _, _, rfl, by decide, iX12_notes_X12, (show Cond.fieldLink RX12 13 (TX12 1).1 (TX12 1).2.1 (TX12 1).2.2.1 ∈ wsX12_notes from List.mem_of_getElem? (i := 1) rfl)⟩
theorem hr_45_49_49 : ∀ k, k < 50 → 49 ≤ k → 0 ≤ (s_b 45 k).1 ∧ (s_b 45 k).2 ≤ 10 := by decide +kernel
theorem hm_50_256 : ∀ k, k < 257 → 50 ≤ k → pm 45 k = true := by decide +kernel
theorem hs_45_49_49 : ∀ k, k < 50 → 49 ≤ k → (s_b 45 k).1 ≤ 0 ∧ 10 ≤ (s_b 45 k).2 := by decide +kernel
theorem hm_49_49 : ∀ k, k < 50 → 49 ≤ k → pm 45 k = true := by decide +kernel
theorem hn_49_49 : ∀ k, k < 50 → 49 ≤ k → npQ 99 k = true := by decide +kernel
theorem fX12_notes_36 : jj_F wsX12_notes RX12 36 11 17 := ⟨_, _, _, rfl, by decide, iX12_notes_X12, (show Cond.fieldLink RX12 36 (TX12 17).1 (TX12 17).2.1 (TX12 17).2.2.1 ∈ wsX12_notes from List.mem_of_getElem? (i := 2) rfl)⟩
theorem hm_50_279 : ∀ k, k < 280 → 50 ≤ k → pm 45 k = true := by decide +kernel
theorem hdX12_notes : yX12_notes.cls = RX12 ∧ yX12_notes.cls ≠ "java/lang/invoke/MethodHandle" ∧ yX12_notes.cls ≠ "java/lang/invoke/VarHandle" ∧ (parseMethodDescriptor yX12_notes.desc).map (fun d => d.parameters.length) = some 0 := by decide +kernel
theorem fX12_seed_36 : jj_F wsX12_seed RX12 36 11 17 := ⟨_, _, _, rfl, by decide, iX12_seed_X12, (show Cond.fieldLink RX12 36 (TX12 17).1 (TX12 17).2.1 (TX12 17).2.2.1 ∈ wsX12_seed from List.mem_of_getElem? (i := 3) rfl)⟩
theorem iX12_visit_X12 : ∀ w ∈ wsX120, w ∈ wsX12_visit := fun w h => List.mem_cons_of_mem _ (List.mem_append_right _ h)
theorem qX12_visit_1 : jj_P wsX12_visit RX12 1 11 0 (.int) := ⟨_, _, _, tyX12, rfl, by decide, iX12_visit_X12, (show Cond.fieldLink RX12 1 (TX12 0).1 (TX12 0).2.1 (TX12 0).2.2.1 ∈ wsX12_visit from List.mem_of_getElem? (i := 1) rfl), tyX12_ok, nmX12, rfl, by decide +kernel⟩
theorem iX12_isShut_X12 : ∀ w ∈ wsX120, w ∈ wsX12_isShut := fun w h => List.mem_cons_of_mem _ (List.mem_append_right _ h)
theorem fX12_isShut_13 : jj_F wsX12_isShut RX12 13 11 1 := ⟨_, _, _, rfl, by decide, iX12_isShut_X12, (show Cond.fieldLink RX12 13 (TX12 1).1 (TX12 1).2.1 (TX12 1).2.2.1 ∈ wsX12_isShut from List.mem_of_getElem? (i := 1) rfl)⟩
theorem hdX12_isShut : yX12_isShut.cls = RX12 ∧ yX12_isShut.cls ≠ "java/lang/invoke/MethodHandle" ∧ yX12_isShut.cls ≠ "java/lang/invoke/VarHandle" ∧ (parseMethodDescriptor yX12_isShut.desc).map (fun d => d.parameters.length) = some 0 := by decide +kernel
theorem hdX12_whyVisit : yX12_whyVisit.cls = RX12 ∧ yX12_whyVisit.cls ≠ "java/lang/invoke/MethodHandle" ∧ yX12_whyVisit.cls ≠ "java/lang/invoke/VarHandle" ∧ (parseMethodDescriptor yX12_whyVisit.desc).map (fun d => d.parameters.length) = some 1 := by decide +kernel
theorem iX12_visits_X12 : ∀ w ∈ wsX120, w ∈ wsX12_visits := fun w h => List.mem_cons_of_mem _ (List.mem_append_right _ h)
theorem fX12_visits_13 : jj_F wsX12_visits RX12 13 11 1 := ⟨_, _, _, rfl, by decide, iX12_visits_X12, (show Cond.fieldLink RX12 13 (TX12 1).1 (TX12 1).2.1 (TX12 1).2.2.1 ∈ wsX12_visits from List.mem_of_getElem? (i := 1) rfl)⟩
theorem hs_45_27_27 : ∀ k, k < 28 → 27 ≤ k → (s_b 45 k).1 ≤ 0 ∧ 255 ≤ (s_b 45 k).2 := by decide +kernel
theorem hm_27_27 : ∀ k, k < 28 → 27 ≤ k → pm 45 k = true := by decide +kernel
theorem hs_45_29_29 : ∀ k, k < 30 → 29 ≤ k → (s_b 45 k).1 ≤ (-2147483648) ∧ 2147483647 ≤ (s_b 45 k).2 := by decide +kernel
theorem hm_29_29 : ∀ k, k < 30 → 29 ≤ k → pm 45 k = true := by decide +kernel
theorem hn_29_29 : ∀ k, k < 30 → 29 ≤ k → npQ 99 k = true := by decide +kernel
theorem hdX12_visits : yX12_visits.cls = RX12 ∧ yX12_visits.cls ≠ "java/lang/invoke/MethodHandle" ∧ yX12_visits.cls ≠ "java/lang/invoke/VarHandle" ∧ (parseMethodDescriptor yX12_visits.desc).map (fun d => d.parameters.length) = some 1 := by decide +kernel
theorem iX12_gift_X12 : ∀ w ∈ wsX120, w ∈ wsX12_gift := fun w h => List.mem_cons_of_mem _ (List.mem_append_right _ h)
theorem qX12_gift_1 : jj_P wsX12_gift RX12 1 11 0 (.int) := ⟨_, _, _, tyX12, rfl, by decide, iX12_gift_X12, (show Cond.fieldLink RX12 1 (TX12 0).1 (TX12 0).2.1 (TX12 0).2.2.1 ∈ wsX12_gift from List.mem_of_getElem? (i := 1) rfl), tyX12_ok, nmX12, rfl, by decide +kernel⟩
theorem hdX12_whyKind : yX12_whyKind.cls = RX12 ∧ yX12_whyKind.cls ≠ "java/lang/invoke/MethodHandle" ∧ yX12_whyKind.cls ≠ "java/lang/invoke/VarHandle" ∧ (parseMethodDescriptor yX12_whyKind.desc).map (fun d => d.parameters.length) = some 1 := by decide +kernel
theorem fX12_gift_13 : jj_F wsX12_gift RX12 13 11 1 := ⟨_, _, _, rfl, by decide, iX12_gift_X12, (show Cond.fieldLink RX12 13 (TX12 1).1 (TX12 1).2.1 (TX12 1).2.2.1 ∈ wsX12_gift from List.mem_of_getElem? (i := 2) rfl)⟩
theorem hs_45_30_30 : ∀ k, k < 31 → 30 ≤ k → (s_b 45 k).1 ≤ (-2147483648) ∧ 2147483647 ≤ (s_b 45 k).2 := by decide +kernel
theorem hm_30_30 : ∀ k, k < 31 → 30 ≤ k → pm 45 k = true := by decide +kernel
theorem hn_30_30 : ∀ k, k < 31 → 30 ≤ k → npQ 99 k = true := by decide +kernel
theorem iX12_hide_X12 : ∀ w ∈ wsX120, w ∈ wsX12_hide := fun w h => List.mem_cons_of_mem _ (List.mem_append_right _ h)
theorem qX12_hide_1 : jj_P wsX12_hide RX12 1 11 0 (.int) := ⟨_, _, _, tyX12, rfl, by decide, iX12_hide_X12, (show Cond.fieldLink RX12 1 (TX12 0).1 (TX12 0).2.1 (TX12 0).2.2.1 ∈ wsX12_hide from List.mem_of_getElem? (i := 1) rfl), tyX12_ok, nmX12, rfl, by decide +kernel⟩
theorem fX12_hide_13 : jj_F wsX12_hide RX12 13 11 1 := ⟨_, _, _, rfl, by decide, iX12_hide_X12, (show Cond.fieldLink RX12 13 (TX12 1).1 (TX12 1).2.1 (TX12 1).2.2.1 ∈ wsX12_hide from List.mem_of_getElem? (i := 2) rfl)⟩
theorem hs_45_28_28 : ∀ k, k < 29 → 28 ≤ k → (s_b 45 k).1 ≤ 0 ∧ 255 ≤ (s_b 45 k).2 := by decide +kernel
theorem hm_28_28 : ∀ k, k < 29 → 28 ≤ k → pm 45 k = true := by decide +kernel
theorem hn_28_28 : ∀ k, k < 29 → 28 ≤ k → npQ 99 k = true := by decide +kernel
theorem iX12_add_X12 : ∀ w ∈ wsX120, w ∈ wsX12_add := fun w h => List.mem_cons_of_mem _ (List.mem_append_right _ h)
theorem qX12_add_1 : jj_P wsX12_add RX12 1 11 0 (.int) := ⟨_, _, _, tyX12, rfl, by decide, iX12_add_X12, (show Cond.fieldLink RX12 1 (TX12 0).1 (TX12 0).2.1 (TX12 0).2.2.1 ∈ wsX12_add from List.mem_of_getElem? (i := 1) rfl), tyX12_ok, nmX12, rfl, by decide +kernel⟩
theorem kX12_isPrice_263 : Cond.constantLong RX12 263 99 ∈ wsX12_isPrice := List.mem_of_getElem? (i := 1) rfl
theorem hdX12_isPrices : yX12_isPrice.cls ≠ "java/lang/invoke/MethodHandle" ∧ yX12_isPrice.cls ≠ "java/lang/invoke/VarHandle" ∧ (parseMethodDescriptor yX12_isPrice.desc).map (fun d => d.parameters.length) = some 1 := by decide +kernel
theorem kX12_add_291 : Cond.constantLong RX12 291 9 ∈ wsX12_add := List.mem_of_getElem? (i := 2) rfl
theorem fX12_add_13 : jj_F wsX12_add RX12 13 11 1 := ⟨_, _, _, rfl, by decide, iX12_add_X12, (show Cond.fieldLink RX12 13 (TX12 1).1 (TX12 1).2.1 (TX12 1).2.2.1 ∈ wsX12_add from List.mem_of_getElem? (i := 3) rfl)⟩
theorem hs_45_26_26 : ∀ k, k < 27 → 26 ≤ k → (s_b 45 k).1 ≤ 0 ∧ 8 ≤ (s_b 45 k).2 := by decide +kernel
theorem hm_26_26 : ∀ k, k < 27 → 26 ≤ k → pm 45 k = true := by decide +kernel
theorem hs_45_33_40 : ∀ k, k < 41 → 33 ≤ k → (s_b 45 k).1 ≤ (-2147483648) ∧ 2147483647 ≤ (s_b 45 k).2 := by decide +kernel
theorem hm_33_40 : ∀ k, k < 41 → 33 ≤ k → pm 45 k = true := by decide +kernel
theorem hn_33_40 : ∀ k, k < 41 → 33 ≤ k → npQ 99 k = true := by decide +kernel
theorem hs_45_41_48 : ∀ k, k < 49 → 41 ≤ k → (s_b 45 k).1 ≤ (-2147483648) ∧ 2147483647 ≤ (s_b 45 k).2 := by decide +kernel
theorem hm_41_48 : ∀ k, k < 49 → 41 ≤ k → pm 45 k = true := by decide +kernel
theorem hn_41_48 : ∀ k, k < 49 → 41 ≤ k → npQ 99 k = true := by decide +kernel
theorem iX12_price_X12 : ∀ w ∈ wsX120, w ∈ wsX12_price := fun w h => List.mem_cons_of_mem _ (List.mem_append_right _ h)
theorem qX12_price_1 : jj_P wsX12_price RX12 1 11 0 (.int) := ⟨_, _, _, tyX12, rfl, by decide, iX12_price_X12, (show Cond.fieldLink RX12 1 (TX12 0).1 (TX12 0).2.1 (TX12 0).2.2.1 ∈ wsX12_price from List.mem_of_getElem? (i := 1) rfl), tyX12_ok, nmX12, rfl, by decide +kernel⟩
theorem hdX12_whyPrice : yX12_whyPrice.cls = RX12 ∧ yX12_whyPrice.cls ≠ "java/lang/invoke/MethodHandle" ∧ yX12_whyPrice.cls ≠ "java/lang/invoke/VarHandle" ∧ (parseMethodDescriptor yX12_whyPrice.desc).map (fun d => d.parameters.length) = some 2 := by decide +kernel
theorem fX12_price_13 : jj_F wsX12_price RX12 13 11 1 := ⟨_, _, _, rfl, by decide, iX12_price_X12, (show Cond.fieldLink RX12 13 (TX12 1).1 (TX12 1).2.1 (TX12 1).2.2.1 ∈ wsX12_price from List.mem_of_getElem? (i := 2) rfl)⟩
theorem fX12_price_36 : jj_F wsX12_price RX12 36 11 17 := ⟨_, _, _, rfl, by decide, iX12_price_X12, (show Cond.fieldLink RX12 36 (TX12 17).1 (TX12 17).2.1 (TX12 17).2.2.1 ∈ wsX12_price from List.mem_of_getElem? (i := 3) rfl)⟩
theorem iX12_days_X12 : ∀ w ∈ wsX120, w ∈ wsX12_days := fun w h => List.mem_cons_of_mem _ (List.mem_append_right _ h)
theorem qX12_days_1 : jj_P wsX12_days RX12 1 11 0 (.int) := ⟨_, _, _, tyX12, rfl, by decide, iX12_days_X12, (show Cond.fieldLink RX12 1 (TX12 0).1 (TX12 0).2.1 (TX12 0).2.2.1 ∈ wsX12_days from List.mem_of_getElem? (i := 1) rfl), tyX12_ok, nmX12, rfl, by decide +kernel⟩
theorem kX12_days_263 : Cond.constantLong RX12 263 99 ∈ wsX12_days := List.mem_of_getElem? (i := 2) rfl
theorem iX12_goesDay_X12 : ∀ w ∈ wsX120, w ∈ wsX12_goesDay := fun w h => List.mem_cons_of_mem _ (List.mem_append_right _ h)
theorem fX12_goesDay_13 : jj_F wsX12_goesDay RX12 13 11 1 := ⟨_, _, _, rfl, by decide, iX12_goesDay_X12, (show Cond.fieldLink RX12 13 (TX12 1).1 (TX12 1).2.1 (TX12 1).2.2.1 ∈ wsX12_goesDay from List.mem_of_getElem? (i := 1) rfl)⟩
theorem hs_45_31_31 : ∀ k, k < 32 → 31 ≤ k → (s_b 45 k).1 ≤ (-2147483648) ∧ 2147483647 ≤ (s_b 45 k).2 := by decide +kernel
theorem hm_31_31 : ∀ k, k < 32 → 31 ≤ k → pm 45 k = true := by decide +kernel
theorem hn_31_31 : ∀ k, k < 32 → 31 ≤ k → npQ 99 k = true := by decide +kernel
theorem iX12_oddsAll_X12 : ∀ w ∈ wsX120, w ∈ wsX12_oddsAll := fun w h => List.mem_cons_of_mem _ (List.mem_append_right _ h)
theorem fX12_oddsAll_13 : jj_F wsX12_oddsAll RX12 13 11 1 := ⟨_, _, _, rfl, by decide, iX12_oddsAll_X12, (show Cond.fieldLink RX12 13 (TX12 1).1 (TX12 1).2.1 (TX12 1).2.2.1 ∈ wsX12_oddsAll from List.mem_of_getElem? (i := 1) rfl)⟩
theorem hdX12_oddsAll : yX12_oddsAll.cls = RX12 ∧ yX12_oddsAll.cls ≠ "java/lang/invoke/MethodHandle" ∧ yX12_oddsAll.cls ≠ "java/lang/invoke/VarHandle" ∧ (parseMethodDescriptor yX12_oddsAll.desc).map (fun d => d.parameters.length) = some 0 := by decide +kernel
theorem iX12_draw_X12 : ∀ w ∈ wsX120, w ∈ wsX12_draw := fun w h => List.mem_cons_of_mem _ (List.mem_append_right _ h)
theorem fX12_draw_13 : jj_F wsX12_draw RX12 13 11 1 := ⟨_, _, _, rfl, by decide, iX12_draw_X12, (show Cond.fieldLink RX12 13 (TX12 1).1 (TX12 1).2.1 (TX12 1).2.2.1 ∈ wsX12_draw from List.mem_of_getElem? (i := 1) rfl)⟩
theorem kX12_draw_268 : Cond.constant RX12 268 1103515245 ∈ wsX12_draw := List.mem_of_getElem? (i := 2) rfl
theorem hdX12_draw : yX12_draw.cls = RX12 ∧ yX12_draw.cls ≠ "java/lang/invoke/MethodHandle" ∧ yX12_draw.cls ≠ "java/lang/invoke/VarHandle" ∧ (parseMethodDescriptor yX12_draw.desc).map (fun d => d.parameters.length) = some 1 := by decide +kernel
theorem hdX12_goesDay : yX12_goesDay.cls = RX12 ∧ yX12_goesDay.cls ≠ "java/lang/invoke/MethodHandle" ∧ yX12_goesDay.cls ≠ "java/lang/invoke/VarHandle" ∧ (parseMethodDescriptor yX12_goesDay.desc).map (fun d => d.parameters.length) = some 0 := by decide +kernel
theorem iX12_undo_X12 : ∀ w ∈ wsX120, w ∈ wsX12_undo := fun w h => List.mem_cons_of_mem _ (List.mem_append_right _ h)
theorem qX12_undo_1 : jj_P wsX12_undo RX12 1 11 0 (.int) := ⟨_, _, _, tyX12, rfl, by decide, iX12_undo_X12, (show Cond.fieldLink RX12 1 (TX12 0).1 (TX12 0).2.1 (TX12 0).2.2.1 ∈ wsX12_undo from List.mem_of_getElem? (i := 1) rfl), tyX12_ok, nmX12, rfl, by decide +kernel⟩
theorem kX12_undo_300 : Cond.constantLong RX12 300 10 ∈ wsX12_undo := List.mem_of_getElem? (i := 2) rfl
theorem fX12_undo_13 : jj_F wsX12_undo RX12 13 11 1 := ⟨_, _, _, rfl, by decide, iX12_undo_X12, (show Cond.fieldLink RX12 13 (TX12 1).1 (TX12 1).2.1 (TX12 1).2.2.1 ∈ wsX12_undo from List.mem_of_getElem? (i := 3) rfl)⟩
theorem hm_26_48 : ∀ k, k < 49 → 26 ≤ k → pm 45 k = true := by decide +kernel
theorem iX12_judge_X12 : ∀ w ∈ wsX120, w ∈ wsX12_judge := fun w h => List.mem_cons_of_mem _ (List.mem_append_right _ h)
theorem qX12_judge_1 : jj_P wsX12_judge RX12 1 11 0 (.int) := ⟨_, _, _, tyX12, rfl, by decide, iX12_judge_X12, (show Cond.fieldLink RX12 1 (TX12 0).1 (TX12 0).2.1 (TX12 0).2.2.1 ∈ wsX12_judge from List.mem_of_getElem? (i := 1) rfl), tyX12_ok, nmX12, rfl, by decide +kernel⟩
theorem kX12_judge_325 : Cond.constantLong RX12 325 3 ∈ wsX12_judge := List.mem_of_getElem? (i := 2) rfl
theorem kX12_noTray_325 : Cond.constantLong RX12 325 3 ∈ wsX12_noTray := List.mem_of_getElem? (i := 1) rfl
theorem iX12_noTray_X12 : ∀ w ∈ wsX120, w ∈ wsX12_noTray := fun w h => List.mem_cons_of_mem _ (List.mem_append_right _ h)
theorem fX12_noTray_67 : jj_F wsX12_noTray RX12 67 11 29 := ⟨_, _, _, rfl, by decide, iX12_noTray_X12, (show Cond.fieldLink RX12 67 (TX12 29).1 (TX12 29).2.1 (TX12 29).2.2.1 ∈ wsX12_noTray from List.mem_of_getElem? (i := 2) rfl)⟩
theorem ft_11_29 : (mm_ft 11)[29]? = some 2 := rfl
theorem sm_11_29 : s_m 11 29 = 0 := rfl
theorem sb_61 (k : Nat) : s_b 61 k = ((-1), 3) := rfl
theorem ak_61 : s_ak 61 = 100 := rfl
theorem an_61 : s_an 61 = 4 := rfl
theorem hdX12_noTray : yX12_noTray.cls = RX12 ∧ yX12_noTray.cls ≠ "java/lang/invoke/MethodHandle" ∧ yX12_noTray.cls ≠ "java/lang/invoke/VarHandle" ∧ (parseMethodDescriptor yX12_noTray.desc).map (fun d => d.parameters.length) = some 1 := by decide +kernel
theorem iX12_tells_X12 : ∀ w ∈ wsX120, w ∈ wsX12_tells := fun w h => List.mem_cons_of_mem _ (List.mem_append_right _ h)
theorem qX12_tells_316 : jj_P wsX12_tells RX12 316 11 18 (.int) := ⟨_, _, _, tyX12, rfl, by decide, iX12_tells_X12, (show Cond.fieldLink RX12 316 (TX12 18).1 (TX12 18).2.1 (TX12 18).2.2.1 ∈ wsX12_tells from List.mem_of_getElem? (i := 1) rfl), tyX12_ok, nmX12, rfl, by decide +kernel⟩
theorem sb_11_18 : s_b 11 18 = ((-2147483648), 2147483647) := rfl
theorem ft_11_18 : (mm_ft 11)[18]? = some 0 := rfl
theorem fX12_tells_70 : jj_F wsX12_tells RX12 70 11 30 := ⟨_, _, _, rfl, by decide, iX12_tells_X12, (show Cond.fieldLink RX12 70 (TX12 30).1 (TX12 30).2.1 (TX12 30).2.2.1 ∈ wsX12_tells from List.mem_of_getElem? (i := 2) rfl)⟩
theorem ft_11_30 : (mm_ft 11)[30]? = some 2 := rfl
theorem sm_11_30 : s_m 11 30 = 0 := rfl
theorem sb_62 (k : Nat) : s_b 62 k = (0, 40) := rfl
theorem ak_62 : s_ak 62 = 100 := rfl
theorem an_62 : s_an 62 = 4 := rfl
theorem fX12_tells_73 : jj_F wsX12_tells RX12 73 11 31 := ⟨_, _, _, rfl, by decide, iX12_tells_X12, (show Cond.fieldLink RX12 73 (TX12 31).1 (TX12 31).2.1 (TX12 31).2.2.1 ∈ wsX12_tells from List.mem_of_getElem? (i := 3) rfl)⟩
theorem ft_11_31 : (mm_ft 11)[31]? = some 2 := rfl
theorem sm_11_31 : s_m 11 31 = 0 := rfl
theorem ak_63 : s_ak 63 = 102 := rfl
theorem an_63 : s_an 63 = 160 := rfl
theorem kX12_whyNot_302 : Cond.constantLong RX12 302 (-1) ∈ wsX12_whyNot := List.mem_of_getElem? (i := 1) rfl
theorem kX12_whyNot_291 : Cond.constantLong RX12 291 9 ∈ wsX12_whyNot := List.mem_of_getElem? (i := 2) rfl
theorem kX12_whyNot_304 : Cond.constantLong RX12 304 100 ∈ wsX12_whyNot := List.mem_of_getElem? (i := 3) rfl
theorem kX12_whyNot_306 : Cond.constantLong RX12 306 109 ∈ wsX12_whyNot := List.mem_of_getElem? (i := 4) rfl
theorem kX12_whyNot_308 : Cond.constantLong RX12 308 200 ∈ wsX12_whyNot := List.mem_of_getElem? (i := 5) rfl
theorem kX12_whyNot_310 : Cond.constantLong RX12 310 209 ∈ wsX12_whyNot := List.mem_of_getElem? (i := 6) rfl
theorem kX12_whyNot_312 : Cond.constantLong RX12 312 1000 ∈ wsX12_whyNot := List.mem_of_getElem? (i := 7) rfl
theorem kX12_whyNot_314 : Cond.constantLong RX12 314 1999 ∈ wsX12_whyNot := List.mem_of_getElem? (i := 8) rfl
theorem hdX12_whyNot : yX12_whyNot.cls = RX12 ∧ yX12_whyNot.cls ≠ "java/lang/invoke/MethodHandle" ∧ yX12_whyNot.cls ≠ "java/lang/invoke/VarHandle" ∧ (parseMethodDescriptor yX12_whyNot.desc).map (fun d => d.parameters.length) = some 1 := by decide +kernel
theorem fX12_tells_316 : jj_F wsX12_tells RX12 316 11 18 := ⟨_, _, _, rfl, by decide, iX12_tells_X12, (show Cond.fieldLink RX12 316 (TX12 18).1 (TX12 18).2.1 (TX12 18).2.2.1 ∈ wsX12_tells from List.mem_of_getElem? (i := 1) rfl)⟩
theorem iX12_does_X12 : ∀ w ∈ wsX120, w ∈ wsX12_does := fun w h => List.mem_cons_of_mem _ (List.mem_append_right _ h)
theorem fX12_does_13 : jj_F wsX12_does RX12 13 11 1 := ⟨_, _, _, rfl, by decide, iX12_does_X12, (show Cond.fieldLink RX12 13 (TX12 1).1 (TX12 1).2.1 (TX12 1).2.2.1 ∈ wsX12_does from List.mem_of_getElem? (i := 1) rfl)⟩
theorem hdX12_does : yX12_does.cls = RX12 ∧ yX12_does.cls ≠ "java/lang/invoke/MethodHandle" ∧ yX12_does.cls ≠ "java/lang/invoke/VarHandle" ∧ (parseMethodDescriptor yX12_does.desc).map (fun d => d.parameters.length) = some 1 := by decide +kernel
theorem hdX12_tells : yX12_tells.cls = RX12 ∧ yX12_tells.cls ≠ "java/lang/invoke/MethodHandle" ∧ yX12_tells.cls ≠ "java/lang/invoke/VarHandle" ∧ (parseMethodDescriptor yX12_tells.desc).map (fun d => d.parameters.length) = some 1 := by decide +kernel
theorem fX12_judge_13 : jj_F wsX12_judge RX12 13 11 1 := ⟨_, _, _, rfl, by decide, iX12_judge_X12, (show Cond.fieldLink RX12 13 (TX12 1).1 (TX12 1).2.1 (TX12 1).2.2.1 ∈ wsX12_judge from List.mem_of_getElem? (i := 3) rfl)⟩
theorem iX12_isAgain_X12 : ∀ w ∈ wsX120, w ∈ wsX12_isAgain := fun w h => List.mem_cons_of_mem _ (List.mem_append_right _ h)
theorem fX12_isAgain_13 : jj_F wsX12_isAgain RX12 13 11 1 := ⟨_, _, _, rfl, by decide, iX12_isAgain_X12, (show Cond.fieldLink RX12 13 (TX12 1).1 (TX12 1).2.1 (TX12 1).2.2.1 ∈ wsX12_isAgain from List.mem_of_getElem? (i := 1) rfl)⟩
theorem fX12_isAgain_36 : jj_F wsX12_isAgain RX12 36 11 17 := ⟨_, _, _, rfl, by decide, iX12_isAgain_X12, (show Cond.fieldLink RX12 36 (TX12 17).1 (TX12 17).2.1 (TX12 17).2.2.1 ∈ wsX12_isAgain from List.mem_of_getElem? (i := 2) rfl)⟩
theorem hdX12_isAgain : yX12_isAgain.cls = RX12 ∧ yX12_isAgain.cls ≠ "java/lang/invoke/MethodHandle" ∧ yX12_isAgain.cls ≠ "java/lang/invoke/VarHandle" ∧ (parseMethodDescriptor yX12_isAgain.desc).map (fun d => d.parameters.length) = some 0 := by decide +kernel
theorem fX12_judge_316 : jj_F wsX12_judge RX12 316 11 18 := ⟨_, _, _, rfl, by decide, iX12_judge_X12, (show Cond.fieldLink RX12 316 (TX12 18).1 (TX12 18).2.1 (TX12 18).2.2.1 ∈ wsX12_judge from List.mem_of_getElem? (i := 4) rfl)⟩
theorem iX12_perform_X12 : ∀ w ∈ wsX120, w ∈ wsX12_perform := fun w h => List.mem_cons_of_mem _ (List.mem_append_right _ h)
theorem qX12_perform_1 : jj_P wsX12_perform RX12 1 11 0 (.int) := ⟨_, _, _, tyX12, rfl, by decide, iX12_perform_X12, (show Cond.fieldLink RX12 1 (TX12 0).1 (TX12 0).2.1 (TX12 0).2.2.1 ∈ wsX12_perform from List.mem_of_getElem? (i := 1) rfl), tyX12_ok, nmX12, rfl, by decide +kernel⟩
theorem iX12_season_X12 : ∀ w ∈ wsX120, w ∈ wsX12_season := fun w h => List.mem_cons_of_mem _ (List.mem_append_right _ h)
theorem qX12_season_1 : jj_P wsX12_season RX12 1 11 0 (.int) := ⟨_, _, _, tyX12, rfl, by decide, iX12_season_X12, (show Cond.fieldLink RX12 1 (TX12 0).1 (TX12 0).2.1 (TX12 0).2.2.1 ∈ wsX12_season from List.mem_of_getElem? (i := 1) rfl), tyX12_ok, nmX12, rfl, by decide +kernel⟩
theorem kX12_season_336 : Cond.constantLong RX12 336 40 ∈ wsX12_season := List.mem_of_getElem? (i := 2) rfl
theorem fX12_season_13 : jj_F wsX12_season RX12 13 11 1 := ⟨_, _, _, rfl, by decide, iX12_season_X12, (show Cond.fieldLink RX12 13 (TX12 1).1 (TX12 1).2.1 (TX12 1).2.2.1 ∈ wsX12_season from List.mem_of_getElem? (i := 3) rfl)⟩
theorem hdX12_drawn : yX12_drawn.cls = RX12 ∧ yX12_drawn.cls ≠ "java/lang/invoke/MethodHandle" ∧ yX12_drawn.cls ≠ "java/lang/invoke/VarHandle" ∧ (parseMethodDescriptor yX12_drawn.desc).map (fun d => d.parameters.length) = some 0 := by decide +kernel
theorem iX12_ending_X12 : ∀ w ∈ wsX120, w ∈ wsX12_ending := fun w h => List.mem_cons_of_mem _ (List.mem_append_right _ h)
theorem qX12_ending_1 : jj_P wsX12_ending RX12 1 11 0 (.int) := ⟨_, _, _, tyX12, rfl, by decide, iX12_ending_X12, (show Cond.fieldLink RX12 1 (TX12 0).1 (TX12 0).2.1 (TX12 0).2.2.1 ∈ wsX12_ending from List.mem_of_getElem? (i := 1) rfl), tyX12_ok, nmX12, rfl, by decide +kernel⟩
theorem iX12_laysBuys_X12 : ∀ w ∈ wsX120, w ∈ wsX12_laysBuys := fun w h => List.mem_cons_of_mem _ (List.mem_append_right _ h)
theorem fX12_laysBuys_13 : jj_F wsX12_laysBuys RX12 13 11 1 := ⟨_, _, _, rfl, by decide, iX12_laysBuys_X12, (show Cond.fieldLink RX12 13 (TX12 1).1 (TX12 1).2.1 (TX12 1).2.2.1 ∈ wsX12_laysBuys from List.mem_of_getElem? (i := 1) rfl)⟩
theorem fX12_laysBuys_39 : jj_F wsX12_laysBuys RX12 39 11 19 := ⟨_, _, _, rfl, by decide, iX12_laysBuys_X12, (show Cond.fieldLink RX12 39 (TX12 19).1 (TX12 19).2.1 (TX12 19).2.2.1 ∈ wsX12_laysBuys from List.mem_of_getElem? (i := 2) rfl)⟩
theorem ft_11_19 : (mm_ft 11)[19]? = some 2 := rfl
theorem sm_11_19 : s_m 11 19 = 0 := rfl
theorem ak_52 : s_ak 52 = 100 := rfl
theorem an_52 : s_an 52 = 1536 := rfl
theorem sb_52 (k : Nat) : s_b 52 k = ((-1), 7) := rfl
theorem hdX12_laysBuys : yX12_laysBuys.cls = RX12 ∧ yX12_laysBuys.cls ≠ "java/lang/invoke/MethodHandle" ∧ yX12_laysBuys.cls ≠ "java/lang/invoke/VarHandle" ∧ (parseMethodDescriptor yX12_laysBuys.desc).map (fun d => d.parameters.length) = some 0 := by decide +kernel
theorem kX12_laysEnding_341 : Cond.constant RX12 341 268435456 ∈ wsX12_laysEnding := List.mem_of_getElem? (i := 1) rfl
theorem iX12_laysEnding_X12 : ∀ w ∈ wsX120, w ∈ wsX12_laysEnding := fun w h => List.mem_cons_of_mem _ (List.mem_append_right _ h)
theorem fX12_laysEnding_13 : jj_F wsX12_laysEnding RX12 13 11 1 := ⟨_, _, _, rfl, by decide, iX12_laysEnding_X12, (show Cond.fieldLink RX12 13 (TX12 1).1 (TX12 1).2.1 (TX12 1).2.2.1 ∈ wsX12_laysEnding from List.mem_of_getElem? (i := 2) rfl)⟩
theorem iX12_boughtBy_X12 : ∀ w ∈ wsX120, w ∈ wsX12_boughtBy := fun w h => List.mem_cons_of_mem _ (List.mem_append_right _ h)
theorem fX12_boughtBy_39 : jj_F wsX12_boughtBy RX12 39 11 19 := ⟨_, _, _, rfl, by decide, iX12_boughtBy_X12, (show Cond.fieldLink RX12 39 (TX12 19).1 (TX12 19).2.1 (TX12 19).2.2.1 ∈ wsX12_boughtBy from List.mem_of_getElem? (i := 1) rfl)⟩
theorem hdX12_boughtBy : yX12_boughtBy.cls = RX12 ∧ yX12_boughtBy.cls ≠ "java/lang/invoke/MethodHandle" ∧ yX12_boughtBy.cls ≠ "java/lang/invoke/VarHandle" ∧ (parseMethodDescriptor yX12_boughtBy.desc).map (fun d => d.parameters.length) = some 2 := by decide +kernel
theorem fX12_laysEnding_42 : jj_F wsX12_laysEnding RX12 42 11 20 := ⟨_, _, _, rfl, by decide, iX12_laysEnding_X12, (show Cond.fieldLink RX12 42 (TX12 20).1 (TX12 20).2.1 (TX12 20).2.2.1 ∈ wsX12_laysEnding from List.mem_of_getElem? (i := 3) rfl)⟩
theorem ft_11_20 : (mm_ft 11)[20]? = some 2 := rfl
theorem sm_11_20 : s_m 11 20 = 0 := rfl
theorem sb_53 (k : Nat) : s_b 53 k = (0, 268435456) := rfl
theorem ak_53 : s_ak 53 = 100 := rfl
theorem an_53 : s_an 53 = 256 := rfl
theorem hdX12_laysEnding : yX12_laysEnding.cls = RX12 ∧ yX12_laysEnding.cls ≠ "java/lang/invoke/MethodHandle" ∧ yX12_laysEnding.cls ≠ "java/lang/invoke/VarHandle" ∧ (parseMethodDescriptor yX12_laysEnding.desc).map (fun d => d.parameters.length) = some 1 := by decide +kernel
theorem hdX12_endingNow : yX12_endingNow.cls = RX12 ∧ yX12_endingNow.cls ≠ "java/lang/invoke/MethodHandle" ∧ yX12_endingNow.cls ≠ "java/lang/invoke/VarHandle" ∧ (parseMethodDescriptor yX12_endingNow.desc).map (fun d => d.parameters.length) = some 0 := by decide +kernel
theorem iX12_endingBy_X12 : ∀ w ∈ wsX120, w ∈ wsX12_endingBy := fun w h => List.mem_cons_of_mem _ (List.mem_append_right _ h)
theorem qX12_endingBy_1 : jj_P wsX12_endingBy RX12 1 11 0 (.int) := ⟨_, _, _, tyX12, rfl, by decide, iX12_endingBy_X12, (show Cond.fieldLink RX12 1 (TX12 0).1 (TX12 0).2.1 (TX12 0).2.2.1 ∈ wsX12_endingBy from List.mem_of_getElem? (i := 1) rfl), tyX12_ok, nmX12, rfl, by decide +kernel⟩
theorem iX12_laysEndingRow_X12 : ∀ w ∈ wsX120, w ∈ wsX12_laysEndingRow := fun w h => List.mem_cons_of_mem _ (List.mem_append_right _ h)
theorem fX12_laysEndingRow_13 : jj_F wsX12_laysEndingRow RX12 13 11 1 := ⟨_, _, _, rfl, by decide, iX12_laysEndingRow_X12, (show Cond.fieldLink RX12 13 (TX12 1).1 (TX12 1).2.1 (TX12 1).2.2.1 ∈ wsX12_laysEndingRow from List.mem_of_getElem? (i := 1) rfl)⟩
theorem fX12_laysEndingRow_42 : jj_F wsX12_laysEndingRow RX12 42 11 20 := ⟨_, _, _, rfl, by decide, iX12_laysEndingRow_X12, (show Cond.fieldLink RX12 42 (TX12 20).1 (TX12 20).2.1 (TX12 20).2.2.1 ∈ wsX12_laysEndingRow from List.mem_of_getElem? (i := 2) rfl)⟩
theorem fX12_laysEndingRow_45 : jj_F wsX12_laysEndingRow RX12 45 11 21 := ⟨_, _, _, rfl, by decide, iX12_laysEndingRow_X12, (show Cond.fieldLink RX12 45 (TX12 21).1 (TX12 21).2.1 (TX12 21).2.2.1 ∈ wsX12_laysEndingRow from List.mem_of_getElem? (i := 3) rfl)⟩
theorem ft_11_21 : (mm_ft 11)[21]? = some 2 := rfl
theorem sm_11_21 : s_m 11 21 = 0 := rfl
theorem ak_54 : s_ak 54 = 100 := rfl
theorem an_54 : s_an 54 = 256 := rfl
theorem sb_54 (k : Nat) : s_b 54 k = (0, 5) := rfl
theorem hdX12_laysEndingRow : yX12_laysEndingRow.cls = RX12 ∧ yX12_laysEndingRow.cls ≠ "java/lang/invoke/MethodHandle" ∧ yX12_laysEndingRow.cls ≠ "java/lang/invoke/VarHandle" ∧ (parseMethodDescriptor yX12_laysEndingRow.desc).map (fun d => d.parameters.length) = some 0 := by decide +kernel
theorem fX12_endingBy_45 : jj_F wsX12_endingBy RX12 45 11 21 := ⟨_, _, _, rfl, by decide, iX12_endingBy_X12, (show Cond.fieldLink RX12 45 (TX12 21).1 (TX12 21).2.1 (TX12 21).2.2.1 ∈ wsX12_endingBy from List.mem_of_getElem? (i := 2) rfl)⟩
theorem iX12_endings_X12 : ∀ w ∈ wsX120, w ∈ wsX12_endings := fun w h => List.mem_cons_of_mem _ (List.mem_append_right _ h)
theorem qX12_endings_1 : jj_P wsX12_endings RX12 1 11 0 (.int) := ⟨_, _, _, tyX12, rfl, by decide, iX12_endings_X12, (show Cond.fieldLink RX12 1 (TX12 0).1 (TX12 0).2.1 (TX12 0).2.2.1 ∈ wsX12_endings from List.mem_of_getElem? (i := 1) rfl), tyX12_ok, nmX12, rfl, by decide +kernel⟩
theorem kX12_endings_357 : Cond.constantLong RX12 357 15 ∈ wsX12_endings := List.mem_of_getElem? (i := 2) rfl
theorem iX12_beginsRows_X12 : ∀ w ∈ wsX120, w ∈ wsX12_beginsRows := fun w h => List.mem_cons_of_mem _ (List.mem_append_right _ h)
theorem fX12_beginsRows_51 : jj_F wsX12_beginsRows RX12 51 11 23 := ⟨_, _, _, rfl, by decide, iX12_beginsRows_X12, (show Cond.fieldLink RX12 51 (TX12 23).1 (TX12 23).2.1 (TX12 23).2.2.1 ∈ wsX12_beginsRows from List.mem_of_getElem? (i := 1) rfl)⟩
theorem ft_11_23 : (mm_ft 11)[23]? = some 2 := rfl
theorem sm_11_23 : s_m 11 23 = 0 := rfl
theorem fX12_beginsRows_13 : jj_F wsX12_beginsRows RX12 13 11 1 := ⟨_, _, _, rfl, by decide, iX12_beginsRows_X12, (show Cond.fieldLink RX12 13 (TX12 1).1 (TX12 1).2.1 (TX12 1).2.2.1 ∈ wsX12_beginsRows from List.mem_of_getElem? (i := 2) rfl)⟩
theorem ak_56 : s_ak 56 = 102 := rfl
theorem an_56 : s_an 56 = 256 := rfl
theorem hdX12_beginsRows : yX12_beginsRows.cls = RX12 ∧ yX12_beginsRows.cls ≠ "java/lang/invoke/MethodHandle" ∧ yX12_beginsRows.cls ≠ "java/lang/invoke/VarHandle" ∧ (parseMethodDescriptor yX12_beginsRows.desc).map (fun d => d.parameters.length) = some 0 := by decide +kernel
theorem iX12_goesRows_X12 : ∀ w ∈ wsX120, w ∈ wsX12_goesRows := fun w h => List.mem_cons_of_mem _ (List.mem_append_right _ h)
theorem fX12_goesRows_55 : jj_F wsX12_goesRows RX12 55 11 24 := ⟨_, _, _, rfl, by decide, iX12_goesRows_X12, (show Cond.fieldLink RX12 55 (TX12 24).1 (TX12 24).2.1 (TX12 24).2.2.1 ∈ wsX12_goesRows from List.mem_of_getElem? (i := 1) rfl)⟩
theorem ft_11_24 : (mm_ft 11)[24]? = some 2 := rfl
theorem sm_11_24 : s_m 11 24 = 0 := rfl
theorem ak_57 : s_ak 57 = 102 := rfl
theorem an_57 : s_an 57 = 256 := rfl
theorem fX12_goesRows_13 : jj_F wsX12_goesRows RX12 13 11 1 := ⟨_, _, _, rfl, by decide, iX12_goesRows_X12, (show Cond.fieldLink RX12 13 (TX12 1).1 (TX12 1).2.1 (TX12 1).2.2.1 ∈ wsX12_goesRows from List.mem_of_getElem? (i := 2) rfl)⟩
theorem fX12_goesRows_51 : jj_F wsX12_goesRows RX12 51 11 23 := ⟨_, _, _, rfl, by decide, iX12_goesRows_X12, (show Cond.fieldLink RX12 51 (TX12 23).1 (TX12 23).2.1 (TX12 23).2.2.1 ∈ wsX12_goesRows from List.mem_of_getElem? (i := 3) rfl)⟩
theorem hdX12_goesRows : yX12_goesRows.cls = RX12 ∧ yX12_goesRows.cls ≠ "java/lang/invoke/MethodHandle" ∧ yX12_goesRows.cls ≠ "java/lang/invoke/VarHandle" ∧ (parseMethodDescriptor yX12_goesRows.desc).map (fun d => d.parameters.length) = some 2 := by decide +kernel
theorem iX12_shutRows_X12 : ∀ w ∈ wsX120, w ∈ wsX12_shutRows := fun w h => List.mem_cons_of_mem _ (List.mem_append_right _ h)
theorem fX12_shutRows_51 : jj_F wsX12_shutRows RX12 51 11 23 := ⟨_, _, _, rfl, by decide, iX12_shutRows_X12, (show Cond.fieldLink RX12 51 (TX12 23).1 (TX12 23).2.1 (TX12 23).2.2.1 ∈ wsX12_shutRows from List.mem_of_getElem? (i := 1) rfl)⟩
theorem hdX12_shutRows : yX12_shutRows.cls = RX12 ∧ yX12_shutRows.cls ≠ "java/lang/invoke/MethodHandle" ∧ yX12_shutRows.cls ≠ "java/lang/invoke/VarHandle" ∧ (parseMethodDescriptor yX12_shutRows.desc).map (fun d => d.parameters.length) = some 0 := by decide +kernel
theorem kX12_endings_359 : Cond.constantLong RX12 359 (-3) ∈ wsX12_endings := List.mem_of_getElem? (i := 3) rfl
theorem iX12_needed_X12 : ∀ w ∈ wsX120, w ∈ wsX12_needed := fun w h => List.mem_cons_of_mem _ (List.mem_append_right _ h)
theorem qX12_needed_1 : jj_P wsX12_needed RX12 1 11 0 (.int) := ⟨_, _, _, tyX12, rfl, by decide, iX12_needed_X12, (show Cond.fieldLink RX12 1 (TX12 0).1 (TX12 0).2.1 (TX12 0).2.2.1 ∈ wsX12_needed from List.mem_of_getElem? (i := 1) rfl), tyX12_ok, nmX12, rfl, by decide +kernel⟩
theorem fX12_needed_13 : jj_F wsX12_needed RX12 13 11 1 := ⟨_, _, _, rfl, by decide, iX12_needed_X12, (show Cond.fieldLink RX12 13 (TX12 1).1 (TX12 1).2.1 (TX12 1).2.2.1 ∈ wsX12_needed from List.mem_of_getElem? (i := 2) rfl)⟩
theorem iX12_sellable_X12 : ∀ w ∈ wsX120, w ∈ wsX12_sellable := fun w h => List.mem_cons_of_mem _ (List.mem_append_right _ h)
theorem qX12_sellable_1 : jj_P wsX12_sellable RX12 1 11 0 (.int) := ⟨_, _, _, tyX12, rfl, by decide, iX12_sellable_X12, (show Cond.fieldLink RX12 1 (TX12 0).1 (TX12 0).2.1 (TX12 0).2.2.1 ∈ wsX12_sellable from List.mem_of_getElem? (i := 1) rfl), tyX12_ok, nmX12, rfl, by decide +kernel⟩
theorem iX12_laysComes_X12 : ∀ w ∈ wsX120, w ∈ wsX12_laysComes := fun w h => List.mem_cons_of_mem _ (List.mem_append_right _ h)
theorem fX12_laysComes_48 : jj_F wsX12_laysComes RX12 48 11 22 := ⟨_, _, _, rfl, by decide, iX12_laysComes_X12, (show Cond.fieldLink RX12 48 (TX12 22).1 (TX12 22).2.1 (TX12 22).2.2.1 ∈ wsX12_laysComes from List.mem_of_getElem? (i := 1) rfl)⟩
theorem ft_11_22 : (mm_ft 11)[22]? = some 2 := rfl
theorem sm_11_22 : s_m 11 22 = 0 := rfl
theorem fX12_laysComes_13 : jj_F wsX12_laysComes RX12 13 11 1 := ⟨_, _, _, rfl, by decide, iX12_laysComes_X12, (show Cond.fieldLink RX12 13 (TX12 1).1 (TX12 1).2.1 (TX12 1).2.2.1 ∈ wsX12_laysComes from List.mem_of_getElem? (i := 2) rfl)⟩
theorem ak_55 : s_ak 55 = 101 := rfl
theorem an_55 : s_an 55 = 256 := rfl
theorem sb_55 (k : Nat) : s_b 55 k = (0, 1) := rfl
theorem hdX12_laysComes : yX12_laysComes.cls = RX12 ∧ yX12_laysComes.cls ≠ "java/lang/invoke/MethodHandle" ∧ yX12_laysComes.cls ≠ "java/lang/invoke/VarHandle" ∧ (parseMethodDescriptor yX12_laysComes.desc).map (fun d => d.parameters.length) = some 0 := by decide +kernel
theorem fX12_sellable_48 : jj_F wsX12_sellable RX12 48 11 22 := ⟨_, _, _, rfl, by decide, iX12_sellable_X12, (show Cond.fieldLink RX12 48 (TX12 22).1 (TX12 22).2.1 (TX12 22).2.2.1 ∈ wsX12_sellable from List.mem_of_getElem? (i := 2) rfl)⟩
theorem iX12_guards_X12 : ∀ w ∈ wsX120, w ∈ wsX12_guards := fun w h => List.mem_cons_of_mem _ (List.mem_append_right _ h)
theorem qX12_guards_1 : jj_P wsX12_guards RX12 1 11 0 (.int) := ⟨_, _, _, tyX12, rfl, by decide, iX12_guards_X12, (show Cond.fieldLink RX12 1 (TX12 0).1 (TX12 0).2.1 (TX12 0).2.2.1 ∈ wsX12_guards from List.mem_of_getElem? (i := 1) rfl), tyX12_ok, nmX12, rfl, by decide +kernel⟩
theorem fX12_guards_13 : jj_F wsX12_guards RX12 13 11 1 := ⟨_, _, _, rfl, by decide, iX12_guards_X12, (show Cond.fieldLink RX12 13 (TX12 1).1 (TX12 1).2.1 (TX12 1).2.2.1 ∈ wsX12_guards from List.mem_of_getElem? (i := 2) rfl)⟩
theorem iX12_last_X12 : ∀ w ∈ wsX120, w ∈ wsX12_last := fun w h => List.mem_cons_of_mem _ (List.mem_append_right _ h)
theorem qX12_last_1 : jj_P wsX12_last RX12 1 11 0 (.int) := ⟨_, _, _, tyX12, rfl, by decide, iX12_last_X12, (show Cond.fieldLink RX12 1 (TX12 0).1 (TX12 0).2.1 (TX12 0).2.2.1 ∈ wsX12_last from List.mem_of_getElem? (i := 1) rfl), tyX12_ok, nmX12, rfl, by decide +kernel⟩
theorem fX12_last_48 : jj_F wsX12_last RX12 48 11 22 := ⟨_, _, _, rfl, by decide, iX12_last_X12, (show Cond.fieldLink RX12 48 (TX12 22).1 (TX12 22).2.1 (TX12 22).2.2.1 ∈ wsX12_last from List.mem_of_getElem? (i := 2) rfl)⟩
theorem iX12_open_X12 : ∀ w ∈ wsX120, w ∈ wsX12_open := fun w h => List.mem_cons_of_mem _ (List.mem_append_right _ h)
theorem qX12_open_1 : jj_P wsX12_open RX12 1 11 0 (.int) := ⟨_, _, _, tyX12, rfl, by decide, iX12_open_X12, (show Cond.fieldLink RX12 1 (TX12 0).1 (TX12 0).2.1 (TX12 0).2.2.1 ∈ wsX12_open from List.mem_of_getElem? (i := 1) rfl), tyX12_ok, nmX12, rfl, by decide +kernel⟩
theorem hdX12_isParts : yX12_isPart.cls ≠ "java/lang/invoke/MethodHandle" ∧ yX12_isPart.cls ≠ "java/lang/invoke/VarHandle" ∧ (parseMethodDescriptor yX12_isPart.desc).map (fun d => d.parameters.length) = some 1 := by decide +kernel
theorem kX12_isLate_300 : Cond.constantLong RX12 300 10 ∈ wsX12_isLate := List.mem_of_getElem? (i := 1) rfl
theorem hdX12_isLates : yX12_isLate.cls ≠ "java/lang/invoke/MethodHandle" ∧ yX12_isLate.cls ≠ "java/lang/invoke/VarHandle" ∧ (parseMethodDescriptor yX12_isLate.desc).map (fun d => d.parameters.length) = some 1 := by decide +kernel
theorem iX12_laysDays_X12 : ∀ w ∈ wsX120, w ∈ wsX12_laysDays := fun w h => List.mem_cons_of_mem _ (List.mem_append_right _ h)
theorem qX12_laysDays_379 : jj_P wsX12_laysDays RX12 379 11 26 (.long) := ⟨_, _, _, tyX12, rfl, by decide, iX12_laysDays_X12, (show Cond.fieldLink RX12 379 (TX12 26).1 (TX12 26).2.1 (TX12 26).2.2.1 ∈ wsX12_laysDays from List.mem_of_getElem? (i := 1) rfl), tyX12_ok, nmX12, rfl, by decide +kernel⟩
theorem ft_11_26 : (mm_ft 11)[26]? = some 1 := rfl
theorem fX12_laysDays_58 : jj_F wsX12_laysDays RX12 58 11 25 := ⟨_, _, _, rfl, by decide, iX12_laysDays_X12, (show Cond.fieldLink RX12 58 (TX12 25).1 (TX12 25).2.1 (TX12 25).2.2.1 ∈ wsX12_laysDays from List.mem_of_getElem? (i := 2) rfl)⟩
theorem ft_11_25 : (mm_ft 11)[25]? = some 2 := rfl
theorem sm_11_25 : s_m 11 25 = 0 := rfl
theorem ak_58 : s_ak 58 = 102 := rfl
theorem an_58 : s_an 58 = 6 := rfl
theorem fX12_laysDays_55 : jj_F wsX12_laysDays RX12 55 11 24 := ⟨_, _, _, rfl, by decide, iX12_laysDays_X12, (show Cond.fieldLink RX12 55 (TX12 24).1 (TX12 24).2.1 (TX12 24).2.2.1 ∈ wsX12_laysDays from List.mem_of_getElem? (i := 3) rfl)⟩
theorem fX12_laysDays_379 : jj_F wsX12_laysDays RX12 379 11 26 := ⟨_, _, _, rfl, by decide, iX12_laysDays_X12, (show Cond.fieldLink RX12 379 (TX12 26).1 (TX12 26).2.1 (TX12 26).2.2.1 ∈ wsX12_laysDays from List.mem_of_getElem? (i := 1) rfl)⟩
theorem fX12_laysDays_51 : jj_F wsX12_laysDays RX12 51 11 23 := ⟨_, _, _, rfl, by decide, iX12_laysDays_X12, (show Cond.fieldLink RX12 51 (TX12 23).1 (TX12 23).2.1 (TX12 23).2.2.1 ∈ wsX12_laysDays from List.mem_of_getElem? (i := 4) rfl)⟩
theorem iX12_goesOdds_X12 : ∀ w ∈ wsX120, w ∈ wsX12_goesOdds := fun w h => List.mem_cons_of_mem _ (List.mem_append_right _ h)
theorem fX12_goesOdds_13 : jj_F wsX12_goesOdds RX12 13 11 1 := ⟨_, _, _, rfl, by decide, iX12_goesOdds_X12, (show Cond.fieldLink RX12 13 (TX12 1).1 (TX12 1).2.1 (TX12 1).2.2.1 ∈ wsX12_goesOdds from List.mem_of_getElem? (i := 1) rfl)⟩
theorem fX12_goesOdds_51 : jj_F wsX12_goesOdds RX12 51 11 23 := ⟨_, _, _, rfl, by decide, iX12_goesOdds_X12, (show Cond.fieldLink RX12 51 (TX12 23).1 (TX12 23).2.1 (TX12 23).2.2.1 ∈ wsX12_goesOdds from List.mem_of_getElem? (i := 2) rfl)⟩
theorem hr_45_20_20 : ∀ k, k < 21 → 20 ≤ k → 0 ≤ (s_b 45 k).1 ∧ (s_b 45 k).2 ≤ 9 := by decide +kernel
theorem fX12_goesOdds_55 : jj_F wsX12_goesOdds RX12 55 11 24 := ⟨_, _, _, rfl, by decide, iX12_goesOdds_X12, (show Cond.fieldLink RX12 55 (TX12 24).1 (TX12 24).2.1 (TX12 24).2.2.1 ∈ wsX12_goesOdds from List.mem_of_getElem? (i := 3) rfl)⟩
theorem fX12_goesOdds_379 : jj_F wsX12_goesOdds RX12 379 11 26 := ⟨_, _, _, rfl, by decide, iX12_goesOdds_X12, (show Cond.fieldLink RX12 379 (TX12 26).1 (TX12 26).2.1 (TX12 26).2.2.1 ∈ wsX12_goesOdds from List.mem_of_getElem? (i := 4) rfl)⟩
theorem qX12_goesOdds_379 : jj_P wsX12_goesOdds RX12 379 11 26 (.long) := ⟨_, _, _, tyX12, rfl, by decide, iX12_goesOdds_X12, (show Cond.fieldLink RX12 379 (TX12 26).1 (TX12 26).2.1 (TX12 26).2.2.1 ∈ wsX12_goesOdds from List.mem_of_getElem? (i := 4) rfl), tyX12_ok, nmX12, rfl, by decide +kernel⟩
theorem fX12_goesOdds_58 : jj_F wsX12_goesOdds RX12 58 11 25 := ⟨_, _, _, rfl, by decide, iX12_goesOdds_X12, (show Cond.fieldLink RX12 58 (TX12 25).1 (TX12 25).2.1 (TX12 25).2.2.1 ∈ wsX12_goesOdds from List.mem_of_getElem? (i := 5) rfl)⟩
theorem hr_45_20_21 : ∀ k, k < 22 → 20 ≤ k → 0 ≤ (s_b 45 k).1 ∧ (s_b 45 k).2 ≤ 9 := by decide +kernel
theorem hr_45_20_22 : ∀ k, k < 23 → 20 ≤ k → 0 ≤ (s_b 45 k).1 ∧ (s_b 45 k).2 ≤ 9 := by decide +kernel
theorem hr_45_20_23 : ∀ k, k < 24 → 20 ≤ k → 0 ≤ (s_b 45 k).1 ∧ (s_b 45 k).2 ≤ 9 := by decide +kernel
theorem hr_45_20_24 : ∀ k, k < 25 → 20 ≤ k → 0 ≤ (s_b 45 k).1 ∧ (s_b 45 k).2 ≤ 9 := by decide +kernel
theorem hdX12_goesOdds : yX12_goesOdds.cls = RX12 ∧ yX12_goesOdds.cls ≠ "java/lang/invoke/MethodHandle" ∧ yX12_goesOdds.cls ≠ "java/lang/invoke/VarHandle" ∧ (parseMethodDescriptor yX12_goesOdds.desc).map (fun d => d.parameters.length) = some 1 := by decide +kernel
theorem hdX12_laysDays : yX12_laysDays.cls = RX12 ∧ yX12_laysDays.cls ≠ "java/lang/invoke/MethodHandle" ∧ yX12_laysDays.cls ≠ "java/lang/invoke/VarHandle" ∧ (parseMethodDescriptor yX12_laysDays.desc).map (fun d => d.parameters.length) = some 1 := by decide +kernel
theorem iX12_sumRows_X12 : ∀ w ∈ wsX120, w ∈ wsX12_sumRows := fun w h => List.mem_cons_of_mem _ (List.mem_append_right _ h)
theorem fX12_sumRows_51 : jj_F wsX12_sumRows RX12 51 11 23 := ⟨_, _, _, rfl, by decide, iX12_sumRows_X12, (show Cond.fieldLink RX12 51 (TX12 23).1 (TX12 23).2.1 (TX12 23).2.2.1 ∈ wsX12_sumRows from List.mem_of_getElem? (i := 1) rfl)⟩
theorem hdX12_sumRows : yX12_sumRows.cls = RX12 ∧ yX12_sumRows.cls ≠ "java/lang/invoke/MethodHandle" ∧ yX12_sumRows.cls ≠ "java/lang/invoke/VarHandle" ∧ (parseMethodDescriptor yX12_sumRows.desc).map (fun d => d.parameters.length) = some 0 := by decide +kernel
theorem hdX12_powerOfs : yX12_powerOf.cls ≠ "java/lang/invoke/MethodHandle" ∧ yX12_powerOf.cls ≠ "java/lang/invoke/VarHandle" ∧ (parseMethodDescriptor yX12_powerOf.desc).map (fun d => d.parameters.length) = some 2 := by decide +kernel
theorem hdX12_wholeOf : yX12_wholeOf.cls = RX12 ∧ yX12_wholeOf.cls ≠ "java/lang/invoke/MethodHandle" ∧ yX12_wholeOf.cls ≠ "java/lang/invoke/VarHandle" ∧ (parseMethodDescriptor yX12_wholeOf.desc).map (fun d => d.parameters.length) = some 1 := by decide +kernel
theorem hdX12_commons : yX12_common.cls ≠ "java/lang/invoke/MethodHandle" ∧ yX12_common.cls ≠ "java/lang/invoke/VarHandle" ∧ (parseMethodDescriptor yX12_common.desc).map (fun d => d.parameters.length) = some 2 := by decide +kernel
theorem hdX12_parts : yX12_part.cls ≠ "java/lang/invoke/MethodHandle" ∧ yX12_part.cls ≠ "java/lang/invoke/VarHandle" ∧ (parseMethodDescriptor yX12_part.desc).map (fun d => d.parameters.length) = some 3 := by decide +kernel
theorem kX12_open_359 : Cond.constantLong RX12 359 (-3) ∈ wsX12_open := List.mem_of_getElem? (i := 3) rfl
theorem kX12_open_393 : Cond.constantLong RX12 393 (-2) ∈ wsX12_open := List.mem_of_getElem? (i := 2) rfl
theorem iX12_likely_X12 : ∀ w ∈ wsX120, w ∈ wsX12_likely := fun w h => List.mem_cons_of_mem _ (List.mem_append_right _ h)
theorem qX12_likely_1 : jj_P wsX12_likely RX12 1 11 0 (.int) := ⟨_, _, _, tyX12, rfl, by decide, iX12_likely_X12, (show Cond.fieldLink RX12 1 (TX12 0).1 (TX12 0).2.1 (TX12 0).2.2.1 ∈ wsX12_likely from List.mem_of_getElem? (i := 1) rfl), tyX12_ok, nmX12, rfl, by decide +kernel⟩
theorem kX12_likely_304 : Cond.constantLong RX12 304 100 ∈ wsX12_likely := List.mem_of_getElem? (i := 2) rfl
theorem kX12_isMuch_304 : Cond.constantLong RX12 304 100 ∈ wsX12_isMuch := List.mem_of_getElem? (i := 1) rfl
theorem hdX12_isMuchs : yX12_isMuch.cls ≠ "java/lang/invoke/MethodHandle" ∧ yX12_isMuch.cls ≠ "java/lang/invoke/VarHandle" ∧ (parseMethodDescriptor yX12_isMuch.desc).map (fun d => d.parameters.length) = some 3 := by decide +kernel
theorem iX12_shutsBy_X12 : ∀ w ∈ wsX120, w ∈ wsX12_shutsBy := fun w h => List.mem_cons_of_mem _ (List.mem_append_right _ h)
theorem qX12_shutsBy_1 : jj_P wsX12_shutsBy RX12 1 11 0 (.int) := ⟨_, _, _, tyX12, rfl, by decide, iX12_shutsBy_X12, (show Cond.fieldLink RX12 1 (TX12 0).1 (TX12 0).2.1 (TX12 0).2.2.1 ∈ wsX12_shutsBy from List.mem_of_getElem? (i := 1) rfl), tyX12_ok, nmX12, rfl, by decide +kernel⟩
theorem kX12_shutsBy_393 : Cond.constantLong RX12 393 (-2) ∈ wsX12_shutsBy := List.mem_of_getElem? (i := 2) rfl
theorem fX12_shutsBy_58 : jj_F wsX12_shutsBy RX12 58 11 25 := ⟨_, _, _, rfl, by decide, iX12_shutsBy_X12, (show Cond.fieldLink RX12 58 (TX12 25).1 (TX12 25).2.1 (TX12 25).2.2.1 ∈ wsX12_shutsBy from List.mem_of_getElem? (i := 4) rfl)⟩
theorem kX12_shutsBy_359 : Cond.constantLong RX12 359 (-3) ∈ wsX12_shutsBy := List.mem_of_getElem? (i := 3) rfl
theorem iX12_closer_X12 : ∀ w ∈ wsX120, w ∈ wsX12_closer := fun w h => List.mem_cons_of_mem _ (List.mem_append_right _ h)
theorem qX12_closer_1 : jj_P wsX12_closer RX12 1 11 0 (.int) := ⟨_, _, _, tyX12, rfl, by decide, iX12_closer_X12, (show Cond.fieldLink RX12 1 (TX12 0).1 (TX12 0).2.1 (TX12 0).2.2.1 ∈ wsX12_closer from List.mem_of_getElem? (i := 1) rfl), tyX12_ok, nmX12, rfl, by decide +kernel⟩
theorem fX12_closer_13 : jj_F wsX12_closer RX12 13 11 1 := ⟨_, _, _, rfl, by decide, iX12_closer_X12, (show Cond.fieldLink RX12 13 (TX12 1).1 (TX12 1).2.1 (TX12 1).2.2.1 ∈ wsX12_closer from List.mem_of_getElem? (i := 2) rfl)⟩
theorem fX12_closer_58 : jj_F wsX12_closer RX12 58 11 25 := ⟨_, _, _, rfl, by decide, iX12_closer_X12, (show Cond.fieldLink RX12 58 (TX12 25).1 (TX12 25).2.1 (TX12 25).2.2.1 ∈ wsX12_closer from List.mem_of_getElem? (i := 3) rfl)⟩
theorem iX12_soldIn_X12 : ∀ w ∈ wsX120, w ∈ wsX12_soldIn := fun w h => List.mem_cons_of_mem _ (List.mem_append_right _ h)
theorem qX12_soldIn_1 : jj_P wsX12_soldIn RX12 1 11 0 (.int) := ⟨_, _, _, tyX12, rfl, by decide, iX12_soldIn_X12, (show Cond.fieldLink RX12 1 (TX12 0).1 (TX12 0).2.1 (TX12 0).2.2.1 ∈ wsX12_soldIn from List.mem_of_getElem? (i := 1) rfl), tyX12_ok, nmX12, rfl, by decide +kernel⟩
theorem kX12_soldIn_393 : Cond.constantLong RX12 393 (-2) ∈ wsX12_soldIn := List.mem_of_getElem? (i := 2) rfl
theorem fX12_soldIn_51 : jj_F wsX12_soldIn RX12 51 11 23 := ⟨_, _, _, rfl, by decide, iX12_soldIn_X12, (show Cond.fieldLink RX12 51 (TX12 23).1 (TX12 23).2.1 (TX12 23).2.2.1 ∈ wsX12_soldIn from List.mem_of_getElem? (i := 4) rfl)⟩
theorem kX12_soldIn_359 : Cond.constantLong RX12 359 (-3) ∈ wsX12_soldIn := List.mem_of_getElem? (i := 3) rfl
theorem iX12_hides_X12 : ∀ w ∈ wsX120, w ∈ wsX12_hides := fun w h => List.mem_cons_of_mem _ (List.mem_append_right _ h)
theorem qX12_hides_1 : jj_P wsX12_hides RX12 1 11 0 (.int) := ⟨_, _, _, tyX12, rfl, by decide, iX12_hides_X12, (show Cond.fieldLink RX12 1 (TX12 0).1 (TX12 0).2.1 (TX12 0).2.2.1 ∈ wsX12_hides from List.mem_of_getElem? (i := 1) rfl), tyX12_ok, nmX12, rfl, by decide +kernel⟩
theorem kX12_hides_325 : Cond.constantLong RX12 325 3 ∈ wsX12_hides := List.mem_of_getElem? (i := 2) rfl
theorem kX12_hides_416 : Cond.constantLong RX12 416 6 ∈ wsX12_hides := List.mem_of_getElem? (i := 3) rfl
theorem iX12_openBy_X12 : ∀ w ∈ wsX120, w ∈ wsX12_openBy := fun w h => List.mem_cons_of_mem _ (List.mem_append_right _ h)
theorem fX12_openBy_13 : jj_F wsX12_openBy RX12 13 11 1 := ⟨_, _, _, rfl, by decide, iX12_openBy_X12, (show Cond.fieldLink RX12 13 (TX12 1).1 (TX12 1).2.1 (TX12 1).2.2.1 ∈ wsX12_openBy from List.mem_of_getElem? (i := 1) rfl)⟩
theorem hdX12_openBy : yX12_openBy.cls = RX12 ∧ yX12_openBy.cls ≠ "java/lang/invoke/MethodHandle" ∧ yX12_openBy.cls ≠ "java/lang/invoke/VarHandle" ∧ (parseMethodDescriptor yX12_openBy.desc).map (fun d => d.parameters.length) = some 2 := by decide +kernel
theorem iX12_rota_X12 : ∀ w ∈ wsX120, w ∈ wsX12_rota := fun w h => List.mem_cons_of_mem _ (List.mem_append_right _ h)
theorem qX12_rota_1 : jj_P wsX12_rota RX12 1 11 0 (.int) := ⟨_, _, _, tyX12, rfl, by decide, iX12_rota_X12, (show Cond.fieldLink RX12 1 (TX12 0).1 (TX12 0).2.1 (TX12 0).2.2.1 ∈ wsX12_rota from List.mem_of_getElem? (i := 1) rfl), tyX12_ok, nmX12, rfl, by decide +kernel⟩
theorem iX12_buyersNow_X12 : ∀ w ∈ wsX120, w ∈ wsX12_buyersNow := fun w h => List.mem_cons_of_mem _ (List.mem_append_right _ h)
theorem fX12_buyersNow_13 : jj_F wsX12_buyersNow RX12 13 11 1 := ⟨_, _, _, rfl, by decide, iX12_buyersNow_X12, (show Cond.fieldLink RX12 13 (TX12 1).1 (TX12 1).2.1 (TX12 1).2.2.1 ∈ wsX12_buyersNow from List.mem_of_getElem? (i := 1) rfl)⟩
theorem hdX12_buyersNow : yX12_buyersNow.cls = RX12 ∧ yX12_buyersNow.cls ≠ "java/lang/invoke/MethodHandle" ∧ yX12_buyersNow.cls ≠ "java/lang/invoke/VarHandle" ∧ (parseMethodDescriptor yX12_buyersNow.desc).map (fun d => d.parameters.length) = some 0 := by decide +kernel
theorem iX12_staysOpen_X12 : ∀ w ∈ wsX120, w ∈ wsX12_staysOpen := fun w h => List.mem_cons_of_mem _ (List.mem_append_right _ h)
theorem fX12_staysOpen_13 : jj_F wsX12_staysOpen RX12 13 11 1 := ⟨_, _, _, rfl, by decide, iX12_staysOpen_X12, (show Cond.fieldLink RX12 13 (TX12 1).1 (TX12 1).2.1 (TX12 1).2.2.1 ∈ wsX12_staysOpen from List.mem_of_getElem? (i := 1) rfl)⟩
theorem hdX12_staysOpen : yX12_staysOpen.cls = RX12 ∧ yX12_staysOpen.cls ≠ "java/lang/invoke/MethodHandle" ∧ yX12_staysOpen.cls ≠ "java/lang/invoke/VarHandle" ∧ (parseMethodDescriptor yX12_staysOpen.desc).map (fun d => d.parameters.length) = some 2 := by decide +kernel
theorem iX12_earns_X12 : ∀ w ∈ wsX120, w ∈ wsX12_earns := fun w h => List.mem_cons_of_mem _ (List.mem_append_right _ h)
theorem qX12_earns_1 : jj_P wsX12_earns RX12 1 11 0 (.int) := ⟨_, _, _, tyX12, rfl, by decide, iX12_earns_X12, (show Cond.fieldLink RX12 1 (TX12 0).1 (TX12 0).2.1 (TX12 0).2.2.1 ∈ wsX12_earns from List.mem_of_getElem? (i := 1) rfl), tyX12_ok, nmX12, rfl, by decide +kernel⟩
theorem kX12_earns_429 : Cond.constantLong RX12 429 8 ∈ wsX12_earns := List.mem_of_getElem? (i := 3) rfl
theorem fX12_earns_379 : jj_F wsX12_earns RX12 379 11 26 := ⟨_, _, _, rfl, by decide, iX12_earns_X12, (show Cond.fieldLink RX12 379 (TX12 26).1 (TX12 26).2.1 (TX12 26).2.2.1 ∈ wsX12_earns from List.mem_of_getElem? (i := 5) rfl)⟩
theorem kX12_earns_359 : Cond.constantLong RX12 359 (-3) ∈ wsX12_earns := List.mem_of_getElem? (i := 4) rfl
theorem kX12_earns_393 : Cond.constantLong RX12 393 (-2) ∈ wsX12_earns := List.mem_of_getElem? (i := 2) rfl
theorem iX12_bestPrice_X12 : ∀ w ∈ wsX120, w ∈ wsX12_bestPrice := fun w h => List.mem_cons_of_mem _ (List.mem_append_right _ h)
theorem qX12_bestPrice_1 : jj_P wsX12_bestPrice RX12 1 11 0 (.int) := ⟨_, _, _, tyX12, rfl, by decide, iX12_bestPrice_X12, (show Cond.fieldLink RX12 1 (TX12 0).1 (TX12 0).2.1 (TX12 0).2.2.1 ∈ wsX12_bestPrice from List.mem_of_getElem? (i := 1) rfl), tyX12_ok, nmX12, rfl, by decide +kernel⟩
theorem kX12_bestPrice_431 : Cond.constantLong RX12 431 4 ∈ wsX12_bestPrice := List.mem_of_getElem? (i := 2) rfl
theorem fX12_bestPrice_13 : jj_F wsX12_bestPrice RX12 13 11 1 := ⟨_, _, _, rfl, by decide, iX12_bestPrice_X12, (show Cond.fieldLink RX12 13 (TX12 1).1 (TX12 1).2.1 (TX12 1).2.2.1 ∈ wsX12_bestPrice from List.mem_of_getElem? (i := 3) rfl)⟩
theorem kX12_bestPrice_302 : Cond.constantLong RX12 302 (-1) ∈ wsX12_bestPrice := List.mem_of_getElem? (i := 4) rfl
theorem fX12_bestPrice_379 : jj_F wsX12_bestPrice RX12 379 11 26 := ⟨_, _, _, rfl, by decide, iX12_bestPrice_X12, (show Cond.fieldLink RX12 379 (TX12 26).1 (TX12 26).2.1 (TX12 26).2.2.1 ∈ wsX12_bestPrice from List.mem_of_getElem? (i := 5) rfl)⟩
theorem iX12_seen_X12 : ∀ w ∈ wsX120, w ∈ wsX12_seen := fun w h => List.mem_cons_of_mem _ (List.mem_append_right _ h)
theorem qX12_seen_1 : jj_P wsX12_seen RX12 1 11 0 (.int) := ⟨_, _, _, tyX12, rfl, by decide, iX12_seen_X12, (show Cond.fieldLink RX12 1 (TX12 0).1 (TX12 0).2.1 (TX12 0).2.2.1 ∈ wsX12_seen from List.mem_of_getElem? (i := 1) rfl), tyX12_ok, nmX12, rfl, by decide +kernel⟩
theorem iX12_noSeen_X12 : ∀ w ∈ wsX120, w ∈ wsX12_noSeen := fun w h => List.mem_cons_of_mem _ (List.mem_append_right _ h)
theorem fX12_noSeen_70 : jj_F wsX12_noSeen RX12 70 11 30 := ⟨_, _, _, rfl, by decide, iX12_noSeen_X12, (show Cond.fieldLink RX12 70 (TX12 30).1 (TX12 30).2.1 (TX12 30).2.2.1 ∈ wsX12_noSeen from List.mem_of_getElem? (i := 1) rfl)⟩
theorem kX12_noSeen_433 : Cond.constantLong RX12 433 12 ∈ wsX12_noSeen := List.mem_of_getElem? (i := 2) rfl
theorem fX12_noSeen_73 : jj_F wsX12_noSeen RX12 73 11 31 := ⟨_, _, _, rfl, by decide, iX12_noSeen_X12, (show Cond.fieldLink RX12 73 (TX12 31).1 (TX12 31).2.1 (TX12 31).2.2.1 ∈ wsX12_noSeen from List.mem_of_getElem? (i := 3) rfl)⟩
theorem kX12_noSeen_300 : Cond.constantLong RX12 300 10 ∈ wsX12_noSeen := List.mem_of_getElem? (i := 4) rfl
theorem kX12_noSeen_291 : Cond.constantLong RX12 291 9 ∈ wsX12_noSeen := List.mem_of_getElem? (i := 5) rfl
theorem hdX12_noSeen : yX12_noSeen.cls = RX12 ∧ yX12_noSeen.cls ≠ "java/lang/invoke/MethodHandle" ∧ yX12_noSeen.cls ≠ "java/lang/invoke/VarHandle" ∧ (parseMethodDescriptor yX12_noSeen.desc).map (fun d => d.parameters.length) = some 1 := by decide +kernel
theorem iX12_laysSeen_X12 : ∀ w ∈ wsX120, w ∈ wsX12_laysSeen := fun w h => List.mem_cons_of_mem _ (List.mem_append_right _ h)
theorem fX12_laysSeen_70 : jj_F wsX12_laysSeen RX12 70 11 30 := ⟨_, _, _, rfl, by decide, iX12_laysSeen_X12, (show Cond.fieldLink RX12 70 (TX12 30).1 (TX12 30).2.1 (TX12 30).2.2.1 ∈ wsX12_laysSeen from List.mem_of_getElem? (i := 1) rfl)⟩
theorem fX12_laysSeen_73 : jj_F wsX12_laysSeen RX12 73 11 31 := ⟨_, _, _, rfl, by decide, iX12_laysSeen_X12, (show Cond.fieldLink RX12 73 (TX12 31).1 (TX12 31).2.1 (TX12 31).2.2.1 ∈ wsX12_laysSeen from List.mem_of_getElem? (i := 2) rfl)⟩
theorem fX12_laysSeen_61 : jj_F wsX12_laysSeen RX12 61 11 27 := ⟨_, _, _, rfl, by decide, iX12_laysSeen_X12, (show Cond.fieldLink RX12 61 (TX12 27).1 (TX12 27).2.1 (TX12 27).2.2.1 ∈ wsX12_laysSeen from List.mem_of_getElem? (i := 3) rfl)⟩
theorem ft_11_27 : (mm_ft 11)[27]? = some 2 := rfl
theorem sm_11_27 : s_m 11 27 = 0 := rfl
theorem ak_59 : s_ak 59 = 100 := rfl
theorem an_59 : s_an 59 = 256 := rfl
theorem sb_59 (k : Nat) : s_b 59 k = ((-1), 255) := rfl
theorem hdX12_laysSeen : yX12_laysSeen.cls = RX12 ∧ yX12_laysSeen.cls ≠ "java/lang/invoke/MethodHandle" ∧ yX12_laysSeen.cls ≠ "java/lang/invoke/VarHandle" ∧ (parseMethodDescriptor yX12_laysSeen.desc).map (fun d => d.parameters.length) = some 1 := by decide +kernel
theorem iX12_sureGone_X12 : ∀ w ∈ wsX120, w ∈ wsX12_sureGone := fun w h => List.mem_cons_of_mem _ (List.mem_append_right _ h)
theorem qX12_sureGone_1 : jj_P wsX12_sureGone RX12 1 11 0 (.int) := ⟨_, _, _, tyX12, rfl, by decide, iX12_sureGone_X12, (show Cond.fieldLink RX12 1 (TX12 0).1 (TX12 0).2.1 (TX12 0).2.2.1 ∈ wsX12_sureGone from List.mem_of_getElem? (i := 1) rfl), tyX12_ok, nmX12, rfl, by decide +kernel⟩
theorem fX12_sureGone_61 : jj_F wsX12_sureGone RX12 61 11 27 := ⟨_, _, _, rfl, by decide, iX12_sureGone_X12, (show Cond.fieldLink RX12 61 (TX12 27).1 (TX12 27).2.1 (TX12 27).2.2.1 ∈ wsX12_sureGone from List.mem_of_getElem? (i := 2) rfl)⟩
theorem iX12_ask_X12 : ∀ w ∈ wsX120, w ∈ wsX12_ask := fun w h => List.mem_cons_of_mem _ (List.mem_append_right _ h)
theorem qX12_ask_1 : jj_P wsX12_ask RX12 1 11 0 (.int) := ⟨_, _, _, tyX12, rfl, by decide, iX12_ask_X12, (show Cond.fieldLink RX12 1 (TX12 0).1 (TX12 0).2.1 (TX12 0).2.2.1 ∈ wsX12_ask from List.mem_of_getElem? (i := 1) rfl), tyX12_ok, nmX12, rfl, by decide +kernel⟩
theorem kX12_ask_341 : Cond.constant RX12 341 268435456 ∈ wsX12_ask := List.mem_of_getElem? (i := 2) rfl
theorem fX12_ask_13 : jj_F wsX12_ask RX12 13 11 1 := ⟨_, _, _, rfl, by decide, iX12_ask_X12, (show Cond.fieldLink RX12 13 (TX12 1).1 (TX12 1).2.1 (TX12 1).2.2.1 ∈ wsX12_ask from List.mem_of_getElem? (i := 3) rfl)⟩
theorem iX12_mostOften_X12 : ∀ w ∈ wsX120, w ∈ wsX12_mostOften := fun w h => List.mem_cons_of_mem _ (List.mem_append_right _ h)
theorem fX12_mostOften_64 : jj_F wsX12_mostOften RX12 64 11 28 := ⟨_, _, _, rfl, by decide, iX12_mostOften_X12, (show Cond.fieldLink RX12 64 (TX12 28).1 (TX12 28).2.1 (TX12 28).2.2.1 ∈ wsX12_mostOften from List.mem_of_getElem? (i := 1) rfl)⟩
theorem ft_11_28 : (mm_ft 11)[28]? = some 2 := rfl
theorem sm_11_28 : s_m 11 28 = 0 := rfl
theorem ak_60 : s_ak 60 = 100 := rfl
theorem an_60 : s_an 60 = 9 := rfl
theorem sb_60 (k : Nat) : s_b 60 k = ((-2147483648), 2147483647) := rfl
theorem fX12_mostOften_61 : jj_F wsX12_mostOften RX12 61 11 27 := ⟨_, _, _, rfl, by decide, iX12_mostOften_X12, (show Cond.fieldLink RX12 61 (TX12 27).1 (TX12 27).2.1 (TX12 27).2.2.1 ∈ wsX12_mostOften from List.mem_of_getElem? (i := 2) rfl)⟩
theorem hdX12_mostOften : yX12_mostOften.cls = RX12 ∧ yX12_mostOften.cls ≠ "java/lang/invoke/MethodHandle" ∧ yX12_mostOften.cls ≠ "java/lang/invoke/VarHandle" ∧ (parseMethodDescriptor yX12_mostOften.desc).map (fun d => d.parameters.length) = some 1 := by decide +kernel
theorem iX12_came_X12 : ∀ w ∈ wsX120, w ∈ wsX12_came := fun w h => List.mem_cons_of_mem _ (List.mem_append_right _ h)
theorem qX12_came_1 : jj_P wsX12_came RX12 1 11 0 (.int) := ⟨_, _, _, tyX12, rfl, by decide, iX12_came_X12, (show Cond.fieldLink RX12 1 (TX12 0).1 (TX12 0).2.1 (TX12 0).2.2.1 ∈ wsX12_came from List.mem_of_getElem? (i := 1) rfl), tyX12_ok, nmX12, rfl, by decide +kernel⟩
theorem iX12_noGone_X12 : ∀ w ∈ wsX120, w ∈ wsX12_noGone := fun w h => List.mem_cons_of_mem _ (List.mem_append_right _ h)
theorem fX12_noGone_70 : jj_F wsX12_noGone RX12 70 11 30 := ⟨_, _, _, rfl, by decide, iX12_noGone_X12, (show Cond.fieldLink RX12 70 (TX12 30).1 (TX12 30).2.1 (TX12 30).2.2.1 ∈ wsX12_noGone from List.mem_of_getElem? (i := 1) rfl)⟩
theorem kX12_noGone_300 : Cond.constantLong RX12 300 10 ∈ wsX12_noGone := List.mem_of_getElem? (i := 2) rfl
theorem fX12_noGone_73 : jj_F wsX12_noGone RX12 73 11 31 := ⟨_, _, _, rfl, by decide, iX12_noGone_X12, (show Cond.fieldLink RX12 73 (TX12 31).1 (TX12 31).2.1 (TX12 31).2.2.1 ∈ wsX12_noGone from List.mem_of_getElem? (i := 3) rfl)⟩
theorem kX12_noGone_302 : Cond.constantLong RX12 302 (-1) ∈ wsX12_noGone := List.mem_of_getElem? (i := 4) rfl
theorem hdX12_noGone : yX12_noGone.cls = RX12 ∧ yX12_noGone.cls ≠ "java/lang/invoke/MethodHandle" ∧ yX12_noGone.cls ≠ "java/lang/invoke/VarHandle" ∧ (parseMethodDescriptor yX12_noGone.desc).map (fun d => d.parameters.length) = some 1 := by decide +kernel
theorem iX12_cameBy_X12 : ∀ w ∈ wsX120, w ∈ wsX12_cameBy := fun w h => List.mem_cons_of_mem _ (List.mem_append_right _ h)
theorem fX12_cameBy_70 : jj_F wsX12_cameBy RX12 70 11 30 := ⟨_, _, _, rfl, by decide, iX12_cameBy_X12, (show Cond.fieldLink RX12 70 (TX12 30).1 (TX12 30).2.1 (TX12 30).2.2.1 ∈ wsX12_cameBy from List.mem_of_getElem? (i := 1) rfl)⟩
theorem fX12_cameBy_73 : jj_F wsX12_cameBy RX12 73 11 31 := ⟨_, _, _, rfl, by decide, iX12_cameBy_X12, (show Cond.fieldLink RX12 73 (TX12 31).1 (TX12 31).2.1 (TX12 31).2.2.1 ∈ wsX12_cameBy from List.mem_of_getElem? (i := 2) rfl)⟩
theorem hdX12_cameBy : yX12_cameBy.cls = RX12 ∧ yX12_cameBy.cls ≠ "java/lang/invoke/MethodHandle" ∧ yX12_cameBy.cls ≠ "java/lang/invoke/VarHandle" ∧ (parseMethodDescriptor yX12_cameBy.desc).map (fun d => d.parameters.length) = some 3 := by decide +kernel
theorem iX12_who_X12 : ∀ w ∈ wsX120, w ∈ wsX12_who := fun w h => List.mem_cons_of_mem _ (List.mem_append_right _ h)
theorem qX12_who_1 : jj_P wsX12_who RX12 1 11 0 (.int) := ⟨_, _, _, tyX12, rfl, by decide, iX12_who_X12, (show Cond.fieldLink RX12 1 (TX12 0).1 (TX12 0).2.1 (TX12 0).2.2.1 ∈ wsX12_who from List.mem_of_getElem? (i := 1) rfl), tyX12_ok, nmX12, rfl, by decide +kernel⟩
theorem fX12_who_70 : jj_F wsX12_who RX12 70 11 30 := ⟨_, _, _, rfl, by decide, iX12_who_X12, (show Cond.fieldLink RX12 70 (TX12 30).1 (TX12 30).2.1 (TX12 30).2.2.1 ∈ wsX12_who from List.mem_of_getElem? (i := 2) rfl)⟩
theorem fX12_who_13 : jj_F wsX12_who RX12 13 11 1 := ⟨_, _, _, rfl, by decide, iX12_who_X12, (show Cond.fieldLink RX12 13 (TX12 1).1 (TX12 1).2.1 (TX12 1).2.2.1 ∈ wsX12_who from List.mem_of_getElem? (i := 3) rfl)⟩
theorem iX12_numbers_X12 : ∀ w ∈ wsX120, w ∈ wsX12_numbers := fun w h => List.mem_cons_of_mem _ (List.mem_append_right _ h)
theorem qX12_numbers_1 : jj_P wsX12_numbers RX12 1 11 0 (.int) := ⟨_, _, _, tyX12, rfl, by decide, iX12_numbers_X12, (show Cond.fieldLink RX12 1 (TX12 0).1 (TX12 0).2.1 (TX12 0).2.2.1 ∈ wsX12_numbers from List.mem_of_getElem? (i := 1) rfl), tyX12_ok, nmX12, rfl, by decide +kernel⟩
theorem kX12_numbers_325 : Cond.constantLong RX12 325 3 ∈ wsX12_numbers := List.mem_of_getElem? (i := 2) rfl
theorem kX12_numbers_336 : Cond.constantLong RX12 336 40 ∈ wsX12_numbers := List.mem_of_getElem? (i := 3) rfl
theorem fX12_numbers_67 : jj_F wsX12_numbers RX12 67 11 29 := ⟨_, _, _, rfl, by decide, iX12_numbers_X12, (show Cond.fieldLink RX12 67 (TX12 29).1 (TX12 29).2.1 (TX12 29).2.2.1 ∈ wsX12_numbers from List.mem_of_getElem? (i := 4) rfl)⟩
theorem fX12_numbers_70 : jj_F wsX12_numbers RX12 70 11 30 := ⟨_, _, _, rfl, by decide, iX12_numbers_X12, (show Cond.fieldLink RX12 70 (TX12 30).1 (TX12 30).2.1 (TX12 30).2.2.1 ∈ wsX12_numbers from List.mem_of_getElem? (i := 5) rfl)⟩
theorem fX12_numbers_73 : jj_F wsX12_numbers RX12 73 11 31 := ⟨_, _, _, rfl, by decide, iX12_numbers_X12, (show Cond.fieldLink RX12 73 (TX12 31).1 (TX12 31).2.1 (TX12 31).2.2.1 ∈ wsX12_numbers from List.mem_of_getElem? (i := 6) rfl)⟩
theorem iX12_write_X12 : ∀ w ∈ wsX120, w ∈ wsX12_write := fun w h => List.mem_cons_of_mem _ (List.mem_append_right _ h)
theorem qX12_write_1 : jj_P wsX12_write RX12 1 11 0 (.int) := ⟨_, _, _, tyX12, rfl, by decide, iX12_write_X12, (show Cond.fieldLink RX12 1 (TX12 0).1 (TX12 0).2.1 (TX12 0).2.2.1 ∈ wsX12_write from List.mem_of_getElem? (i := 1) rfl), tyX12_ok, nmX12, rfl, by decide +kernel⟩
theorem fX12_write_70 : jj_F wsX12_write RX12 70 11 30 := ⟨_, _, _, rfl, by decide, iX12_write_X12, (show Cond.fieldLink RX12 70 (TX12 30).1 (TX12 30).2.1 (TX12 30).2.2.1 ∈ wsX12_write from List.mem_of_getElem? (i := 2) rfl)⟩
theorem fX12_write_73 : jj_F wsX12_write RX12 73 11 31 := ⟨_, _, _, rfl, by decide, iX12_write_X12, (show Cond.fieldLink RX12 73 (TX12 31).1 (TX12 31).2.1 (TX12 31).2.2.1 ∈ wsX12_write from List.mem_of_getElem? (i := 4) rfl)⟩
theorem fX12_write_67 : jj_F wsX12_write RX12 67 11 29 := ⟨_, _, _, rfl, by decide, iX12_write_X12, (show Cond.fieldLink RX12 67 (TX12 29).1 (TX12 29).2.1 (TX12 29).2.2.1 ∈ wsX12_write from List.mem_of_getElem? (i := 5) rfl)⟩
theorem hdX12_cuts : yX12_cut.cls ≠ "java/lang/invoke/MethodHandle" ∧ yX12_cut.cls ≠ "java/lang/invoke/VarHandle" ∧ (parseMethodDescriptor yX12_cut.desc).map (fun d => d.parameters.length) = some 2 := by decide +kernel
theorem kX12_write_451 : Cond.constantLong RX12 451 (-7) ∈ wsX12_write := List.mem_of_getElem? (i := 3) rfl
theorem iX12_lists_X12 : ∀ w ∈ wsX120, w ∈ wsX12_lists := fun w h => List.mem_cons_of_mem _ (List.mem_append_right _ h)
theorem qX12_lists_1 : jj_P wsX12_lists RX12 1 11 0 (.int) := ⟨_, _, _, tyX12, rfl, by decide, iX12_lists_X12, (show Cond.fieldLink RX12 1 (TX12 0).1 (TX12 0).2.1 (TX12 0).2.2.1 ∈ wsX12_lists from List.mem_of_getElem? (i := 1) rfl), tyX12_ok, nmX12, rfl, by decide +kernel⟩
theorem fX12_lists_70 : jj_F wsX12_lists RX12 70 11 30 := ⟨_, _, _, rfl, by decide, iX12_lists_X12, (show Cond.fieldLink RX12 70 (TX12 30).1 (TX12 30).2.1 (TX12 30).2.2.1 ∈ wsX12_lists from List.mem_of_getElem? (i := 2) rfl)⟩
theorem fX12_lists_73 : jj_F wsX12_lists RX12 73 11 31 := ⟨_, _, _, rfl, by decide, iX12_lists_X12, (show Cond.fieldLink RX12 73 (TX12 31).1 (TX12 31).2.1 (TX12 31).2.2.1 ∈ wsX12_lists from List.mem_of_getElem? (i := 3) rfl)⟩
theorem fX12_lists_45 : jj_F wsX12_lists RX12 45 11 21 := ⟨_, _, _, rfl, by decide, iX12_lists_X12, (show Cond.fieldLink RX12 45 (TX12 21).1 (TX12 21).2.1 (TX12 21).2.2.1 ∈ wsX12_lists from List.mem_of_getElem? (i := 4) rfl)⟩
theorem iX12_count_X12 : ∀ w ∈ wsX120, w ∈ wsX12_count := fun w h => List.mem_cons_of_mem _ (List.mem_append_right _ h)
theorem qX12_count_1 : jj_P wsX12_count RX12 1 11 0 (.int) := ⟨_, _, _, tyX12, rfl, by decide, iX12_count_X12, (show Cond.fieldLink RX12 1 (TX12 0).1 (TX12 0).2.1 (TX12 0).2.2.1 ∈ wsX12_count from List.mem_of_getElem? (i := 1) rfl), tyX12_ok, nmX12, rfl, by decide +kernel⟩
theorem fX12_count_13 : jj_F wsX12_count RX12 13 11 1 := ⟨_, _, _, rfl, by decide, iX12_count_X12, (show Cond.fieldLink RX12 13 (TX12 1).1 (TX12 1).2.1 (TX12 1).2.2.1 ∈ wsX12_count from List.mem_of_getElem? (i := 2) rfl)⟩
theorem fX12_count_80 : jj_F wsX12_count RX12 80 11 5 := ⟨_, _, _, rfl, by decide, iX12_count_X12, (show Cond.fieldLink RX12 80 (TX12 5).1 (TX12 5).2.1 (TX12 5).2.2.1 ∈ wsX12_count from List.mem_of_getElem? (i := 3) rfl)⟩
