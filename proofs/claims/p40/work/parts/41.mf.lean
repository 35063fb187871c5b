theorem iX12_wants_X12 : ∀ w ∈ wsX120, w ∈ wsX12_wants := fun w h => List.mem_cons_of_mem _ (List.mem_append_right _ h)
theorem qX12_wants_1 : jj_P wsX12_wants RX12 1 11 0 (.int) := ⟨_, _, _, tyX12, rfl, by decide, iX12_wants_X12, (show Cond.fieldLink RX12 1 (TX12 0).1 (TX12 0).2.1 (TX12 0).2.2.1 ∈ wsX12_wants from List.mem_of_getElem? (i := 1) rfl), tyX12_ok, nmX12, rfl, by decide +kernel⟩
theorem sb_11_0 : s_b 11 0 = ((-2147483648), 2147483647) := rfl
theorem ft_11_0 : (mm_ft 11)[0]? = some 0 := rfl
theorem iX12_isBuyer_X12 : ∀ w ∈ wsX120, w ∈ wsX12_isBuyer := fun w h => List.mem_cons_of_mem _ (List.mem_append_right _ h)
theorem fX12_isBuyer_13 : jj_F wsX12_isBuyer RX12 13 11 1 := ⟨_, _, _, rfl, by decide, iX12_isBuyer_X12, (show Cond.fieldLink RX12 13 (TX12 1).1 (TX12 1).2.1 (TX12 1).2.2.1 ∈ wsX12_isBuyer from List.mem_of_getElem? (i := 1) rfl)⟩
theorem ft_11_1 : (mm_ft 11)[1]? = some 2 := rfl
theorem sm_11_1 : s_m 11 1 = 0 := rfl
theorem ak_45 : s_ak 45 = 100 := rfl
theorem an_45 : s_an 45 = 3543 := rfl
theorem hr_45_1_1 : ∀ k, k < 2 → 1 ≤ k → 0 ≤ (s_b 45 k).1 ∧ (s_b 45 k).2 ≤ 6 := by decide +kernel
theorem hdX12_withins : yX12_within.cls ≠ "java/lang/invoke/MethodHandle" ∧ yX12_within.cls ≠ "java/lang/invoke/VarHandle" ∧ (parseMethodDescriptor yX12_within.desc).map (fun d => d.parameters.length) = some 3 := by decide +kernel
theorem hdX12_isBuyer : yX12_isBuyer.cls = RX12 ∧ yX12_isBuyer.cls ≠ "java/lang/invoke/MethodHandle" ∧ yX12_isBuyer.cls ≠ "java/lang/invoke/VarHandle" ∧ (parseMethodDescriptor yX12_isBuyer.desc).map (fun d => d.parameters.length) = some 1 := by decide +kernel
theorem kX12_wants_258 : Cond.constant RX12 258 (-99000002) ∈ wsX12_wants := List.mem_of_getElem? (i := 3) rfl
theorem iX12_isKind_X12 : ∀ w ∈ wsX120, w ∈ wsX12_isKind := fun w h => List.mem_cons_of_mem _ (List.mem_append_right _ h)
theorem fX12_isKind_13 : jj_F wsX12_isKind RX12 13 11 1 := ⟨_, _, _, rfl, by decide, iX12_isKind_X12, (show Cond.fieldLink RX12 13 (TX12 1).1 (TX12 1).2.1 (TX12 1).2.2.1 ∈ wsX12_isKind from List.mem_of_getElem? (i := 1) rfl)⟩
theorem hr_45_26_26 : ∀ k, k < 27 → 26 ≤ k → 0 ≤ (s_b 45 k).1 ∧ (s_b 45 k).2 ≤ 8 := by decide +kernel
theorem hdX12_isKind : yX12_isKind.cls = RX12 ∧ yX12_isKind.cls ≠ "java/lang/invoke/MethodHandle" ∧ yX12_isKind.cls ≠ "java/lang/invoke/VarHandle" ∧ (parseMethodDescriptor yX12_isKind.desc).map (fun d => d.parameters.length) = some 1 := by decide +kernel
theorem fX12_wants_13 : jj_F wsX12_wants RX12 13 11 1 := ⟨_, _, _, rfl, by decide, iX12_wants_X12, (show Cond.fieldLink RX12 13 (TX12 1).1 (TX12 1).2.1 (TX12 1).2.2.1 ∈ wsX12_wants from List.mem_of_getElem? (i := 2) rfl)⟩
theorem hr_45_27_27 : ∀ k, k < 28 → 27 ≤ k → 0 ≤ (s_b 45 k).1 ∧ (s_b 45 k).2 ≤ 255 := by decide +kernel
theorem iX12_wantsOf_X12 : ∀ w ∈ wsX120, w ∈ wsX12_wantsOf := fun w h => List.mem_cons_of_mem _ (List.mem_append_right _ h)
theorem fX12_wantsOf_13 : jj_F wsX12_wantsOf RX12 13 11 1 := ⟨_, _, _, rfl, by decide, iX12_wantsOf_X12, (show Cond.fieldLink RX12 13 (TX12 1).1 (TX12 1).2.1 (TX12 1).2.2.1 ∈ wsX12_wantsOf from List.mem_of_getElem? (i := 1) rfl)⟩
theorem iX12_reckons_X12 : ∀ w ∈ wsX120, w ∈ wsX12_reckons := fun w h => List.mem_cons_of_mem _ (List.mem_append_right _ h)
theorem fX12_reckons_33 : jj_F wsX12_reckons RX12 33 11 16 := ⟨_, _, _, rfl, by decide, iX12_reckons_X12, (show Cond.fieldLink RX12 33 (TX12 16).1 (TX12 16).2.1 (TX12 16).2.2.1 ∈ wsX12_reckons from List.mem_of_getElem? (i := 1) rfl)⟩
theorem ft_11_16 : (mm_ft 11)[16]? = some 2 := rfl
theorem sm_11_16 : s_m 11 16 = 0 := rfl
theorem ak_50 : s_ak 50 = 100 := rfl
theorem an_50 : s_an 50 = 8 := rfl
theorem sb_50 (k : Nat) : s_b 50 k = ((-2147483648), 2147483647) := rfl
theorem fX12_reckons_13 : jj_F wsX12_reckons RX12 13 11 1 := ⟨_, _, _, rfl, by decide, iX12_reckons_X12, (show Cond.fieldLink RX12 13 (TX12 1).1 (TX12 1).2.1 (TX12 1).2.2.1 ∈ wsX12_reckons from List.mem_of_getElem? (i := 2) rfl)⟩
theorem hdX12_bitsOfs : yX12_bitsOf.cls ≠ "java/lang/invoke/MethodHandle" ∧ yX12_bitsOf.cls ≠ "java/lang/invoke/VarHandle" ∧ (parseMethodDescriptor yX12_bitsOf.desc).map (fun d => d.parameters.length) = some 1 := by decide +kernel
theorem hr_45_6_6 : ∀ k, k < 7 → 6 ≤ k → 0 ≤ (s_b 45 k).1 ∧ (s_b 45 k).2 ≤ 900 := by decide +kernel
theorem hr_45_4_4 : ∀ k, k < 5 → 4 ≤ k → 0 ≤ (s_b 45 k).1 ∧ (s_b 45 k).2 ≤ 900 := by decide +kernel
theorem fX12_reckons_30 : jj_F wsX12_reckons RX12 30 11 15 := ⟨_, _, _, rfl, by decide, iX12_reckons_X12, (show Cond.fieldLink RX12 30 (TX12 15).1 (TX12 15).2.1 (TX12 15).2.2.1 ∈ wsX12_reckons from List.mem_of_getElem? (i := 3) rfl)⟩
theorem ft_11_15 : (mm_ft 11)[15]? = some 2 := rfl
theorem sm_11_15 : s_m 11 15 = 0 := rfl
theorem sb_49 (k : Nat) : s_b 49 k = ((-2147483648), 2147483647) := rfl
theorem ak_49 : s_ak 49 = 100 := rfl
theorem an_49 : s_an 49 = 900 := rfl
theorem kX12_between_213 : Cond.constantLong RX12 213 1000000 ∈ wsX12_between := List.mem_of_getElem? (i := 1) rfl
theorem kX12_between_215 : Cond.constantLong RX12 215 (-1000000) ∈ wsX12_between := List.mem_of_getElem? (i := 2) rfl
theorem hdX12_betweens : yX12_between.cls ≠ "java/lang/invoke/MethodHandle" ∧ yX12_between.cls ≠ "java/lang/invoke/VarHandle" ∧ (parseMethodDescriptor yX12_between.desc).map (fun d => d.parameters.length) = some 3 := by decide +kernel
theorem hdX12_reckons : yX12_reckons.cls = RX12 ∧ yX12_reckons.cls ≠ "java/lang/invoke/MethodHandle" ∧ yX12_reckons.cls ≠ "java/lang/invoke/VarHandle" ∧ (parseMethodDescriptor yX12_reckons.desc).map (fun d => d.parameters.length) = some 4 := by decide +kernel
theorem hdX12_wantsOf : yX12_wantsOf.cls = RX12 ∧ yX12_wantsOf.cls ≠ "java/lang/invoke/MethodHandle" ∧ yX12_wantsOf.cls ≠ "java/lang/invoke/VarHandle" ∧ (parseMethodDescriptor yX12_wantsOf.desc).map (fun d => d.parameters.length) = some 3 := by decide +kernel
