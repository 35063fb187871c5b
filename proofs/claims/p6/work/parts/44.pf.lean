theorem iX12_shop_X12 : ∀ w ∈ wsX120, w ∈ wsX12_shop := fun w h => List.mem_cons_of_mem _ (List.mem_append_right _ h)
theorem qX12_shop_1 : jj_P wsX12_shop RX12 1 11 0 (.int) := ⟨_, _, _, tyX12, rfl, by decide, iX12_shop_X12, (show Cond.fieldLink RX12 1 (TX12 0).1 (TX12 0).2.1 (TX12 0).2.2.1 ∈ wsX12_shop from List.mem_of_getElem? (i := 1) rfl), tyX12_ok, nmX12, rfl, by decide +kernel⟩
theorem fX12_shop_80 : jj_F wsX12_shop RX12 80 11 5 := ⟨_, _, _, rfl, by decide, iX12_shop_X12, (show Cond.fieldLink RX12 80 (TX12 5).1 (TX12 5).2.1 (TX12 5).2.2.1 ∈ wsX12_shop from List.mem_of_getElem? (i := 2) rfl)⟩
theorem qX12_shop_83 : jj_P wsX12_shop RX12 83 11 8 (.int) := ⟨_, _, _, tyX12, rfl, by decide, iX12_shop_X12, (show Cond.fieldLink RX12 83 (TX12 8).1 (TX12 8).2.1 (TX12 8).2.2.1 ∈ wsX12_shop from List.mem_of_getElem? (i := 3) rfl), tyX12_ok, nmX12, rfl, by decide +kernel⟩
theorem sb_11_8 : s_b 11 8 = (0, 900) := rfl
theorem ft_11_8 : (mm_ft 11)[8]? = some 0 := rfl
theorem qX12_shop_80 : jj_P wsX12_shop RX12 80 11 5 (.int) := ⟨_, _, _, tyX12, rfl, by decide, iX12_shop_X12, (show Cond.fieldLink RX12 80 (TX12 5).1 (TX12 5).2.1 (TX12 5).2.2.1 ∈ wsX12_shop from List.mem_of_getElem? (i := 2) rfl), tyX12_ok, nmX12, rfl, by decide +kernel⟩
theorem qX12_shop_101 : jj_P wsX12_shop RX12 101 11 7 (.int) := ⟨_, _, _, tyX12, rfl, by decide, iX12_shop_X12, (show Cond.fieldLink RX12 101 (TX12 7).1 (TX12 7).2.1 (TX12 7).2.2.1 ∈ wsX12_shop from List.mem_of_getElem? (i := 4) rfl), tyX12_ok, nmX12, rfl, by decide +kernel⟩
theorem sb_11_7 : s_b 11 7 = (0, 900) := rfl
theorem ft_11_7 : (mm_ft 11)[7]? = some 0 := rfl
theorem qX12_shop_126 : jj_P wsX12_shop RX12 126 11 11 (.int) := ⟨_, _, _, tyX12, rfl, by decide, iX12_shop_X12, (show Cond.fieldLink RX12 126 (TX12 11).1 (TX12 11).2.1 (TX12 11).2.2.1 ∈ wsX12_shop from List.mem_of_getElem? (i := 5) rfl), tyX12_ok, nmX12, rfl, by decide +kernel⟩
theorem sb_11_11 : s_b 11 11 = ((-2147483648), 2147483647) := rfl
theorem ft_11_11 : (mm_ft 11)[11]? = some 0 := rfl
theorem fX12_shop_24 : jj_F wsX12_shop RX12 24 11 4 := ⟨_, _, _, rfl, by decide, iX12_shop_X12, (show Cond.fieldLink RX12 24 (TX12 4).1 (TX12 4).2.1 (TX12 4).2.2.1 ∈ wsX12_shop from List.mem_of_getElem? (i := 6) rfl)⟩
theorem ft_11_4 : (mm_ft 11)[4]? = some 2 := rfl
theorem sm_11_4 : s_m 11 4 = 0 := rfl
theorem ak_48 : s_ak 48 = 100 := rfl
theorem an_48 : s_an 48 = 1181 := rfl
theorem hdX12_plains : yX12_plain.cls ≠ "java/lang/invoke/MethodHandle" ∧ yX12_plain.cls ≠ "java/lang/invoke/VarHandle" ∧ (parseMethodDescriptor yX12_plain.desc).map (fun d => d.parameters.length) = some 1 := by decide +kernel
theorem iX12_next_X12 : ∀ w ∈ wsX120, w ∈ wsX12_next := fun w h => List.mem_cons_of_mem _ (List.mem_append_right _ h)
theorem fX12_next_101 : jj_F wsX12_next RX12 101 11 7 := ⟨_, _, _, rfl, by decide, iX12_next_X12, (show Cond.fieldLink RX12 101 (TX12 7).1 (TX12 7).2.1 (TX12 7).2.2.1 ∈ wsX12_next from List.mem_of_getElem? (i := 1) rfl)⟩
theorem qX12_next_98 : jj_P wsX12_next RX12 98 11 6 (.int) := ⟨_, _, _, tyX12, rfl, by decide, iX12_next_X12, (show Cond.fieldLink RX12 98 (TX12 6).1 (TX12 6).2.1 (TX12 6).2.2.1 ∈ wsX12_next from List.mem_of_getElem? (i := 2) rfl), tyX12_ok, nmX12, rfl, by decide +kernel⟩
theorem sb_11_6 : s_b 11 6 = (0, 900) := rfl
theorem ft_11_6 : (mm_ft 11)[6]? = some 0 := rfl
theorem fX12_next_98 : jj_F wsX12_next RX12 98 11 6 := ⟨_, _, _, rfl, by decide, iX12_next_X12, (show Cond.fieldLink RX12 98 (TX12 6).1 (TX12 6).2.1 (TX12 6).2.2.1 ∈ wsX12_next from List.mem_of_getElem? (i := 2) rfl)⟩
theorem iX12_see_X12 : ∀ w ∈ wsX120, w ∈ wsX12_see := fun w h => List.mem_cons_of_mem _ (List.mem_append_right _ h)
theorem fX12_see_83 : jj_F wsX12_see RX12 83 11 8 := ⟨_, _, _, rfl, by decide, iX12_see_X12, (show Cond.fieldLink RX12 83 (TX12 8).1 (TX12 8).2.1 (TX12 8).2.2.1 ∈ wsX12_see from List.mem_of_getElem? (i := 1) rfl)⟩
theorem fX12_see_21 : jj_F wsX12_see RX12 21 11 3 := ⟨_, _, _, rfl, by decide, iX12_see_X12, (show Cond.fieldLink RX12 21 (TX12 3).1 (TX12 3).2.1 (TX12 3).2.2.1 ∈ wsX12_see from List.mem_of_getElem? (i := 2) rfl)⟩
theorem hdX12_see : yX12_see.cls = RX12 ∧ yX12_see.cls ≠ "java/lang/invoke/MethodHandle" ∧ yX12_see.cls ≠ "java/lang/invoke/VarHandle" ∧ (parseMethodDescriptor yX12_see.desc).map (fun d => d.parameters.length) = some 1 := by decide +kernel
theorem qX12_next_101 : jj_P wsX12_next RX12 101 11 7 (.int) := ⟨_, _, _, tyX12, rfl, by decide, iX12_next_X12, (show Cond.fieldLink RX12 101 (TX12 7).1 (TX12 7).2.1 (TX12 7).2.2.1 ∈ wsX12_next from List.mem_of_getElem? (i := 1) rfl), tyX12_ok, nmX12, rfl, by decide +kernel⟩
theorem fX12_next_83 : jj_F wsX12_next RX12 83 11 8 := ⟨_, _, _, rfl, by decide, iX12_next_X12, (show Cond.fieldLink RX12 83 (TX12 8).1 (TX12 8).2.1 (TX12 8).2.2.1 ∈ wsX12_next from List.mem_of_getElem? (i := 3) rfl)⟩
theorem hdX12_isSmalls : yX12_isSmall.cls ≠ "java/lang/invoke/MethodHandle" ∧ yX12_isSmall.cls ≠ "java/lang/invoke/VarHandle" ∧ (parseMethodDescriptor yX12_isSmall.desc).map (fun d => d.parameters.length) = some 1 := by decide +kernel
theorem hdX12_isDigits : yX12_isDigit.cls ≠ "java/lang/invoke/MethodHandle" ∧ yX12_isDigit.cls ≠ "java/lang/invoke/VarHandle" ∧ (parseMethodDescriptor yX12_isDigit.desc).map (fun d => d.parameters.length) = some 1 := by decide +kernel
theorem qX12_next_108 : jj_P wsX12_next RX12 108 11 9 (.int) := ⟨_, _, _, tyX12, rfl, by decide, iX12_next_X12, (show Cond.fieldLink RX12 108 (TX12 9).1 (TX12 9).2.1 (TX12 9).2.2.1 ∈ wsX12_next from List.mem_of_getElem? (i := 4) rfl), tyX12_ok, nmX12, rfl, by decide +kernel⟩
theorem sb_11_9 : s_b 11 9 = ((-2147483648), 2147483647) := rfl
theorem ft_11_9 : (mm_ft 11)[9]? = some 0 := rfl
theorem qX12_next_121 : jj_P wsX12_next RX12 121 11 10 (.int) := ⟨_, _, _, tyX12, rfl, by decide, iX12_next_X12, (show Cond.fieldLink RX12 121 (TX12 10).1 (TX12 10).2.1 (TX12 10).2.2.1 ∈ wsX12_next from List.mem_of_getElem? (i := 5) rfl), tyX12_ok, nmX12, rfl, by decide +kernel⟩
theorem sb_11_10 : s_b 11 10 = (0, 999) := rfl
theorem ft_11_10 : (mm_ft 11)[10]? = some 0 := rfl
theorem fX12_next_121 : jj_F wsX12_next RX12 121 11 10 := ⟨_, _, _, rfl, by decide, iX12_next_X12, (show Cond.fieldLink RX12 121 (TX12 10).1 (TX12 10).2.1 (TX12 10).2.2.1 ∈ wsX12_next from List.mem_of_getElem? (i := 5) rfl)⟩
theorem iX12_keyAt_X12 : ∀ w ∈ wsX120, w ∈ wsX12_keyAt := fun w h => List.mem_cons_of_mem _ (List.mem_append_right _ h)
theorem fX12_keyAt_98 : jj_F wsX12_keyAt RX12 98 11 6 := ⟨_, _, _, rfl, by decide, iX12_keyAt_X12, (show Cond.fieldLink RX12 98 (TX12 6).1 (TX12 6).2.1 (TX12 6).2.2.1 ∈ wsX12_keyAt from List.mem_of_getElem? (i := 1) rfl)⟩
theorem fX12_keyAt_101 : jj_F wsX12_keyAt RX12 101 11 7 := ⟨_, _, _, rfl, by decide, iX12_keyAt_X12, (show Cond.fieldLink RX12 101 (TX12 7).1 (TX12 7).2.1 (TX12 7).2.2.1 ∈ wsX12_keyAt from List.mem_of_getElem? (i := 2) rfl)⟩
theorem fX12_keyAt_21 : jj_F wsX12_keyAt RX12 21 11 3 := ⟨_, _, _, rfl, by decide, iX12_keyAt_X12, (show Cond.fieldLink RX12 21 (TX12 3).1 (TX12 3).2.1 (TX12 3).2.2.1 ∈ wsX12_keyAt from List.mem_of_getElem? (i := 3) rfl)⟩
theorem hdX12_keyAt : yX12_keyAt.cls = RX12 ∧ yX12_keyAt.cls ≠ "java/lang/invoke/MethodHandle" ∧ yX12_keyAt.cls ≠ "java/lang/invoke/VarHandle" ∧ (parseMethodDescriptor yX12_keyAt.desc).map (fun d => d.parameters.length) = some 0 := by decide +kernel
theorem hdX12_next : yX12_next.cls = RX12 ∧ yX12_next.cls ≠ "java/lang/invoke/MethodHandle" ∧ yX12_next.cls ≠ "java/lang/invoke/VarHandle" ∧ (parseMethodDescriptor yX12_next.desc).map (fun d => d.parameters.length) = some 0 := by decide +kernel
theorem iX12_is_X12 : ∀ w ∈ wsX120, w ∈ wsX12_is := fun w h => List.mem_cons_of_mem _ (List.mem_append_right _ h)
theorem fX12_is_126 : jj_F wsX12_is RX12 126 11 11 := ⟨_, _, _, rfl, by decide, iX12_is_X12, (show Cond.fieldLink RX12 126 (TX12 11).1 (TX12 11).2.1 (TX12 11).2.2.1 ∈ wsX12_is from List.mem_of_getElem? (i := 1) rfl)⟩
theorem fX12_is_108 : jj_F wsX12_is RX12 108 11 9 := ⟨_, _, _, rfl, by decide, iX12_is_X12, (show Cond.fieldLink RX12 108 (TX12 9).1 (TX12 9).2.1 (TX12 9).2.2.1 ∈ wsX12_is from List.mem_of_getElem? (i := 2) rfl)⟩
theorem hdX12_is : yX12_is.cls = RX12 ∧ yX12_is.cls ≠ "java/lang/invoke/MethodHandle" ∧ yX12_is.cls ≠ "java/lang/invoke/VarHandle" ∧ (parseMethodDescriptor yX12_is.desc).map (fun d => d.parameters.length) = some 1 := by decide +kernel
theorem hdX12_eats : yX12_eats.cls = RX12 ∧ yX12_eats.cls ≠ "java/lang/invoke/MethodHandle" ∧ yX12_eats.cls ≠ "java/lang/invoke/VarHandle" ∧ (parseMethodDescriptor yX12_eats.desc).map (fun d => d.parameters.length) = some 1 := by decide +kernel
theorem iX12_fails_X12 : ∀ w ∈ wsX120, w ∈ wsX12_fails := fun w h => List.mem_cons_of_mem _ (List.mem_append_right _ h)
theorem fX12_fails_126 : jj_F wsX12_fails RX12 126 11 11 := ⟨_, _, _, rfl, by decide, iX12_fails_X12, (show Cond.fieldLink RX12 126 (TX12 11).1 (TX12 11).2.1 (TX12 11).2.2.1 ∈ wsX12_fails from List.mem_of_getElem? (i := 1) rfl)⟩
theorem fX12_fails_108 : jj_F wsX12_fails RX12 108 11 9 := ⟨_, _, _, rfl, by decide, iX12_fails_X12, (show Cond.fieldLink RX12 108 (TX12 9).1 (TX12 9).2.1 (TX12 9).2.2.1 ∈ wsX12_fails from List.mem_of_getElem? (i := 2) rfl)⟩
theorem qX12_fails_126 : jj_P wsX12_fails RX12 126 11 11 (.int) := ⟨_, _, _, tyX12, rfl, by decide, iX12_fails_X12, (show Cond.fieldLink RX12 126 (TX12 11).1 (TX12 11).2.1 (TX12 11).2.2.1 ∈ wsX12_fails from List.mem_of_getElem? (i := 1) rfl), tyX12_ok, nmX12, rfl, by decide +kernel⟩
theorem fX12_fails_98 : jj_F wsX12_fails RX12 98 11 6 := ⟨_, _, _, rfl, by decide, iX12_fails_X12, (show Cond.fieldLink RX12 98 (TX12 6).1 (TX12 6).2.1 (TX12 6).2.2.1 ∈ wsX12_fails from List.mem_of_getElem? (i := 3) rfl)⟩
theorem qX12_fails_129 : jj_P wsX12_fails RX12 129 11 12 (.int) := ⟨_, _, _, tyX12, rfl, by decide, iX12_fails_X12, (show Cond.fieldLink RX12 129 (TX12 12).1 (TX12 12).2.1 (TX12 12).2.2.1 ∈ wsX12_fails from List.mem_of_getElem? (i := 4) rfl), tyX12_ok, nmX12, rfl, by decide +kernel⟩
theorem sb_11_12 : s_b 11 12 = ((-2147483648), 2147483647) := rfl
theorem ft_11_12 : (mm_ft 11)[12]? = some 0 := rfl
theorem hdX12_fails : yX12_fails.cls = RX12 ∧ yX12_fails.cls ≠ "java/lang/invoke/MethodHandle" ∧ yX12_fails.cls ≠ "java/lang/invoke/VarHandle" ∧ (parseMethodDescriptor yX12_fails.desc).map (fun d => d.parameters.length) = some 1 := by decide +kernel
theorem iX12_ends_X12 : ∀ w ∈ wsX120, w ∈ wsX12_ends := fun w h => List.mem_cons_of_mem _ (List.mem_append_right _ h)
theorem fX12_ends_24 : jj_F wsX12_ends RX12 24 11 4 := ⟨_, _, _, rfl, by decide, iX12_ends_X12, (show Cond.fieldLink RX12 24 (TX12 4).1 (TX12 4).2.1 (TX12 4).2.2.1 ∈ wsX12_ends from List.mem_of_getElem? (i := 1) rfl)⟩
theorem hs_48_0_0 : ∀ k, k < 1 → 0 ≤ k → (s_b 48 k).1 ≤ (-2147483648) ∧ 2147483647 ≤ (s_b 48 k).2 := by decide +kernel
theorem hdX12_ends : yX12_ends.cls = RX12 ∧ yX12_ends.cls ≠ "java/lang/invoke/MethodHandle" ∧ yX12_ends.cls ≠ "java/lang/invoke/VarHandle" ∧ (parseMethodDescriptor yX12_ends.desc).map (fun d => d.parameters.length) = some 0 := by decide +kernel
theorem fX12_shop_126 : jj_F wsX12_shop RX12 126 11 11 := ⟨_, _, _, rfl, by decide, iX12_shop_X12, (show Cond.fieldLink RX12 126 (TX12 11).1 (TX12 11).2.1 (TX12 11).2.2.1 ∈ wsX12_shop from List.mem_of_getElem? (i := 5) rfl)⟩
theorem fX12_shop_108 : jj_F wsX12_shop RX12 108 11 9 := ⟨_, _, _, rfl, by decide, iX12_shop_X12, (show Cond.fieldLink RX12 108 (TX12 9).1 (TX12 9).2.1 (TX12 9).2.2.1 ∈ wsX12_shop from List.mem_of_getElem? (i := 7) rfl)⟩
theorem iX12_readLine_X12 : ∀ w ∈ wsX120, w ∈ wsX12_readLine := fun w h => List.mem_cons_of_mem _ (List.mem_append_right _ h)
theorem fX12_readLine_126 : jj_F wsX12_readLine RX12 126 11 11 := ⟨_, _, _, rfl, by decide, iX12_readLine_X12, (show Cond.fieldLink RX12 126 (TX12 11).1 (TX12 11).2.1 (TX12 11).2.2.1 ∈ wsX12_readLine from List.mem_of_getElem? (i := 1) rfl)⟩
theorem fX12_readLine_108 : jj_F wsX12_readLine RX12 108 11 9 := ⟨_, _, _, rfl, by decide, iX12_readLine_X12, (show Cond.fieldLink RX12 108 (TX12 9).1 (TX12 9).2.1 (TX12 9).2.2.1 ∈ wsX12_readLine from List.mem_of_getElem? (i := 2) rfl)⟩
theorem iX12_readLaw_X12 : ∀ w ∈ wsX120, w ∈ wsX12_readLaw := fun w h => List.mem_cons_of_mem _ (List.mem_append_right _ h)
theorem fX12_readLaw_24 : jj_F wsX12_readLaw RX12 24 11 4 := ⟨_, _, _, rfl, by decide, iX12_readLaw_X12, (show Cond.fieldLink RX12 24 (TX12 4).1 (TX12 4).2.1 (TX12 4).2.2.1 ∈ wsX12_readLaw from List.mem_of_getElem? (i := 1) rfl)⟩
theorem hr_48_280_280 : ∀ k, k < 281 → 280 ≤ k → 0 ≤ (s_b 48 k).1 ∧ (s_b 48 k).2 ≤ 900 := by decide +kernel
theorem iX12_readAtom_X12 : ∀ w ∈ wsX120, w ∈ wsX12_readAtom := fun w h => List.mem_cons_of_mem _ (List.mem_append_right _ h)
theorem fX12_readAtom_126 : jj_F wsX12_readAtom RX12 126 11 11 := ⟨_, _, _, rfl, by decide, iX12_readAtom_X12, (show Cond.fieldLink RX12 126 (TX12 11).1 (TX12 11).2.1 (TX12 11).2.2.1 ∈ wsX12_readAtom from List.mem_of_getElem? (i := 2) rfl)⟩
theorem iX12_goesIn_X12 : ∀ w ∈ wsX120, w ∈ wsX12_goesIn := fun w h => List.mem_cons_of_mem _ (List.mem_append_right _ h)
theorem fX12_goesIn_126 : jj_F wsX12_goesIn RX12 126 11 11 := ⟨_, _, _, rfl, by decide, iX12_goesIn_X12, (show Cond.fieldLink RX12 126 (TX12 11).1 (TX12 11).2.1 (TX12 11).2.2.1 ∈ wsX12_goesIn from List.mem_of_getElem? (i := 1) rfl)⟩
theorem hdX12_goesIn : yX12_goesIn.cls = RX12 ∧ yX12_goesIn.cls ≠ "java/lang/invoke/MethodHandle" ∧ yX12_goesIn.cls ≠ "java/lang/invoke/VarHandle" ∧ (parseMethodDescriptor yX12_goesIn.desc).map (fun d => d.parameters.length) = some 1 := by decide +kernel
theorem fX12_readAtom_108 : jj_F wsX12_readAtom RX12 108 11 9 := ⟨_, _, _, rfl, by decide, iX12_readAtom_X12, (show Cond.fieldLink RX12 108 (TX12 9).1 (TX12 9).2.1 (TX12 9).2.2.1 ∈ wsX12_readAtom from List.mem_of_getElem? (i := 3) rfl)⟩
theorem hdX12_wordOf : yX12_wordOf.cls = RX12 ∧ yX12_wordOf.cls ≠ "java/lang/invoke/MethodHandle" ∧ yX12_wordOf.cls ≠ "java/lang/invoke/VarHandle" ∧ (parseMethodDescriptor yX12_wordOf.desc).map (fun d => d.parameters.length) = some 1 := by decide +kernel
theorem iX12_codes_X12 : ∀ w ∈ wsX120, w ∈ wsX12_codes := fun w h => List.mem_cons_of_mem _ (List.mem_append_right _ h)
theorem fX12_codes_126 : jj_F wsX12_codes RX12 126 11 11 := ⟨_, _, _, rfl, by decide, iX12_codes_X12, (show Cond.fieldLink RX12 126 (TX12 11).1 (TX12 11).2.1 (TX12 11).2.2.1 ∈ wsX12_codes from List.mem_of_getElem? (i := 1) rfl)⟩
theorem fX12_codes_24 : jj_F wsX12_codes RX12 24 11 4 := ⟨_, _, _, rfl, by decide, iX12_codes_X12, (show Cond.fieldLink RX12 24 (TX12 4).1 (TX12 4).2.1 (TX12 4).2.2.1 ∈ wsX12_codes from List.mem_of_getElem? (i := 2) rfl)⟩
theorem hs_48_280_280 : ∀ k, k < 281 → 280 ≤ k → (s_b 48 k).1 ≤ 0 ∧ 900 ≤ (s_b 48 k).2 := by decide +kernel
theorem hdX12_codes : yX12_codes.cls = RX12 ∧ yX12_codes.cls ≠ "java/lang/invoke/MethodHandle" ∧ yX12_codes.cls ≠ "java/lang/invoke/VarHandle" ∧ (parseMethodDescriptor yX12_codes.desc).map (fun d => d.parameters.length) = some 1 := by decide +kernel
theorem fX12_readAtom_121 : jj_F wsX12_readAtom RX12 121 11 10 := ⟨_, _, _, rfl, by decide, iX12_readAtom_X12, (show Cond.fieldLink RX12 121 (TX12 10).1 (TX12 10).2.1 (TX12 10).2.2.1 ∈ wsX12_readAtom from List.mem_of_getElem? (i := 1) rfl)⟩
theorem hdX12_readAtom : yX12_readAtom.cls = RX12 ∧ yX12_readAtom.cls ≠ "java/lang/invoke/MethodHandle" ∧ yX12_readAtom.cls ≠ "java/lang/invoke/VarHandle" ∧ (parseMethodDescriptor yX12_readAtom.desc).map (fun d => d.parameters.length) = some 1 := by decide +kernel
theorem hdX12_readTerm : yX12_readTerm.cls = RX12 ∧ yX12_readTerm.cls ≠ "java/lang/invoke/MethodHandle" ∧ yX12_readTerm.cls ≠ "java/lang/invoke/VarHandle" ∧ (parseMethodDescriptor yX12_readTerm.desc).map (fun d => d.parameters.length) = some 1 := by decide +kernel
theorem iX12_readSum_X12 : ∀ w ∈ wsX120, w ∈ wsX12_readSum := fun w h => List.mem_cons_of_mem _ (List.mem_append_right _ h)
theorem fX12_readSum_108 : jj_F wsX12_readSum RX12 108 11 9 := ⟨_, _, _, rfl, by decide, iX12_readSum_X12, (show Cond.fieldLink RX12 108 (TX12 9).1 (TX12 9).2.1 (TX12 9).2.2.1 ∈ wsX12_readSum from List.mem_of_getElem? (i := 1) rfl)⟩
theorem hdX12_readSum : yX12_readSum.cls = RX12 ∧ yX12_readSum.cls ≠ "java/lang/invoke/MethodHandle" ∧ yX12_readSum.cls ≠ "java/lang/invoke/VarHandle" ∧ (parseMethodDescriptor yX12_readSum.desc).map (fun d => d.parameters.length) = some 1 := by decide +kernel
theorem hdX12_readUnit : yX12_readUnit.cls = RX12 ∧ yX12_readUnit.cls ≠ "java/lang/invoke/MethodHandle" ∧ yX12_readUnit.cls ≠ "java/lang/invoke/VarHandle" ∧ (parseMethodDescriptor yX12_readUnit.desc).map (fun d => d.parameters.length) = some 1 := by decide +kernel
theorem hdX12_readBoth : yX12_readBoth.cls = RX12 ∧ yX12_readBoth.cls ≠ "java/lang/invoke/MethodHandle" ∧ yX12_readBoth.cls ≠ "java/lang/invoke/VarHandle" ∧ (parseMethodDescriptor yX12_readBoth.desc).map (fun d => d.parameters.length) = some 1 := by decide +kernel
theorem hdX12_readTruth : yX12_readTruth.cls = RX12 ∧ yX12_readTruth.cls ≠ "java/lang/invoke/MethodHandle" ∧ yX12_readTruth.cls ≠ "java/lang/invoke/VarHandle" ∧ (parseMethodDescriptor yX12_readTruth.desc).map (fun d => d.parameters.length) = some 1 := by decide +kernel
theorem fX12_readLaw_126 : jj_F wsX12_readLaw RX12 126 11 11 := ⟨_, _, _, rfl, by decide, iX12_readLaw_X12, (show Cond.fieldLink RX12 126 (TX12 11).1 (TX12 11).2.1 (TX12 11).2.2.1 ∈ wsX12_readLaw from List.mem_of_getElem? (i := 2) rfl)⟩
theorem hs_48_2_3 : ∀ k, k < 4 → 2 ≤ k → (s_b 48 k).1 ≤ (-2147483648) ∧ 2147483647 ≤ (s_b 48 k).2 := by decide +kernel
theorem hs_48_4_5 : ∀ k, k < 6 → 4 ≤ k → (s_b 48 k).1 ≤ 0 ∧ 900 ≤ (s_b 48 k).2 := by decide +kernel
theorem hs_48_6_7 : ∀ k, k < 8 → 6 ≤ k → (s_b 48 k).1 ≤ 0 ∧ 900 ≤ (s_b 48 k).2 := by decide +kernel
theorem hdX12_readLaw : yX12_readLaw.cls = RX12 ∧ yX12_readLaw.cls ≠ "java/lang/invoke/MethodHandle" ∧ yX12_readLaw.cls ≠ "java/lang/invoke/VarHandle" ∧ (parseMethodDescriptor yX12_readLaw.desc).map (fun d => d.parameters.length) = some 1 := by decide +kernel
theorem iX12_readBuyer_X12 : ∀ w ∈ wsX120, w ∈ wsX12_readBuyer := fun w h => List.mem_cons_of_mem _ (List.mem_append_right _ h)
theorem fX12_readBuyer_24 : jj_F wsX12_readBuyer RX12 24 11 4 := ⟨_, _, _, rfl, by decide, iX12_readBuyer_X12, (show Cond.fieldLink RX12 24 (TX12 4).1 (TX12 4).2.1 (TX12 4).2.2.1 ∈ wsX12_readBuyer from List.mem_of_getElem? (i := 1) rfl)⟩
theorem hr_48_1_1 : ∀ k, k < 2 → 1 ≤ k → 0 ≤ (s_b 48 k).1 ∧ (s_b 48 k).2 ≤ 6 := by decide +kernel
theorem fX12_readBuyer_126 : jj_F wsX12_readBuyer RX12 126 11 11 := ⟨_, _, _, rfl, by decide, iX12_readBuyer_X12, (show Cond.fieldLink RX12 126 (TX12 11).1 (TX12 11).2.1 (TX12 11).2.2.1 ∈ wsX12_readBuyer from List.mem_of_getElem? (i := 2) rfl)⟩
theorem iX12_takes_X12 : ∀ w ∈ wsX120, w ∈ wsX12_takes := fun w h => List.mem_cons_of_mem _ (List.mem_append_right _ h)
theorem fX12_takes_121 : jj_F wsX12_takes RX12 121 11 10 := ⟨_, _, _, rfl, by decide, iX12_takes_X12, (show Cond.fieldLink RX12 121 (TX12 10).1 (TX12 10).2.1 (TX12 10).2.2.1 ∈ wsX12_takes from List.mem_of_getElem? (i := 1) rfl)⟩
theorem fX12_takes_126 : jj_F wsX12_takes RX12 126 11 11 := ⟨_, _, _, rfl, by decide, iX12_takes_X12, (show Cond.fieldLink RX12 126 (TX12 11).1 (TX12 11).2.1 (TX12 11).2.2.1 ∈ wsX12_takes from List.mem_of_getElem? (i := 2) rfl)⟩
theorem hdX12_takes : yX12_takes.cls = RX12 ∧ yX12_takes.cls ≠ "java/lang/invoke/MethodHandle" ∧ yX12_takes.cls ≠ "java/lang/invoke/VarHandle" ∧ (parseMethodDescriptor yX12_takes.desc).map (fun d => d.parameters.length) = some 2 := by decide +kernel
theorem hs_48_8_13 : ∀ k, k < 14 → 8 ≤ k → (s_b 48 k).1 ≤ (-2147483648) ∧ 2147483647 ≤ (s_b 48 k).2 := by decide +kernel
theorem hs_48_20_25 : ∀ k, k < 26 → 20 ≤ k → (s_b 48 k).1 ≤ 0 ∧ 999 ≤ (s_b 48 k).2 := by decide +kernel
theorem iX12_readMark_X12 : ∀ w ∈ wsX120, w ∈ wsX12_readMark := fun w h => List.mem_cons_of_mem _ (List.mem_append_right _ h)
theorem fX12_readMark_24 : jj_F wsX12_readMark RX12 24 11 4 := ⟨_, _, _, rfl, by decide, iX12_readMark_X12, (show Cond.fieldLink RX12 24 (TX12 4).1 (TX12 4).2.1 (TX12 4).2.2.1 ∈ wsX12_readMark from List.mem_of_getElem? (i := 1) rfl)⟩
theorem fX12_readMark_126 : jj_F wsX12_readMark RX12 126 11 11 := ⟨_, _, _, rfl, by decide, iX12_readMark_X12, (show Cond.fieldLink RX12 126 (TX12 11).1 (TX12 11).2.1 (TX12 11).2.2.1 ∈ wsX12_readMark from List.mem_of_getElem? (i := 2) rfl)⟩
theorem hs_48_14_19 : ∀ k, k < 20 → 14 ≤ k → (s_b 48 k).1 ≤ (-2147483648) ∧ 2147483647 ≤ (s_b 48 k).2 := by decide +kernel
theorem hdX12_readMark : yX12_readMark.cls = RX12 ∧ yX12_readMark.cls ≠ "java/lang/invoke/MethodHandle" ∧ yX12_readMark.cls ≠ "java/lang/invoke/VarHandle" ∧ (parseMethodDescriptor yX12_readMark.desc).map (fun d => d.parameters.length) = some 1 := by decide +kernel
theorem hs_48_1_1 : ∀ k, k < 2 → 1 ≤ k → (s_b 48 k).1 ≤ 0 ∧ 6 ≤ (s_b 48 k).2 := by decide +kernel
theorem hdX12_readBuyer : yX12_readBuyer.cls = RX12 ∧ yX12_readBuyer.cls ≠ "java/lang/invoke/MethodHandle" ∧ yX12_readBuyer.cls ≠ "java/lang/invoke/VarHandle" ∧ (parseMethodDescriptor yX12_readBuyer.desc).map (fun d => d.parameters.length) = some 0 := by decide +kernel
theorem iX12_readKind_X12 : ∀ w ∈ wsX120, w ∈ wsX12_readKind := fun w h => List.mem_cons_of_mem _ (List.mem_append_right _ h)
theorem fX12_readKind_24 : jj_F wsX12_readKind RX12 24 11 4 := ⟨_, _, _, rfl, by decide, iX12_readKind_X12, (show Cond.fieldLink RX12 24 (TX12 4).1 (TX12 4).2.1 (TX12 4).2.2.1 ∈ wsX12_readKind from List.mem_of_getElem? (i := 1) rfl)⟩
theorem hr_48_26_26 : ∀ k, k < 27 → 26 ≤ k → 0 ≤ (s_b 48 k).1 ∧ (s_b 48 k).2 ≤ 8 := by decide +kernel
theorem fX12_readKind_126 : jj_F wsX12_readKind RX12 126 11 11 := ⟨_, _, _, rfl, by decide, iX12_readKind_X12, (show Cond.fieldLink RX12 126 (TX12 11).1 (TX12 11).2.1 (TX12 11).2.2.1 ∈ wsX12_readKind from List.mem_of_getElem? (i := 2) rfl)⟩
theorem hs_48_33_40 : ∀ k, k < 41 → 33 ≤ k → (s_b 48 k).1 ≤ (-2147483648) ∧ 2147483647 ≤ (s_b 48 k).2 := by decide +kernel
theorem iX12_readFlag_X12 : ∀ w ∈ wsX120, w ∈ wsX12_readFlag := fun w h => List.mem_cons_of_mem _ (List.mem_append_right _ h)
theorem fX12_readFlag_24 : jj_F wsX12_readFlag RX12 24 11 4 := ⟨_, _, _, rfl, by decide, iX12_readFlag_X12, (show Cond.fieldLink RX12 24 (TX12 4).1 (TX12 4).2.1 (TX12 4).2.2.1 ∈ wsX12_readFlag from List.mem_of_getElem? (i := 1) rfl)⟩
theorem hr_48_28_28 : ∀ k, k < 29 → 28 ≤ k → 0 ≤ (s_b 48 k).1 ∧ (s_b 48 k).2 ≤ 255 := by decide +kernel
theorem hs_48_28_28 : ∀ k, k < 29 → 28 ≤ k → (s_b 48 k).1 ≤ 0 ∧ 255 ≤ (s_b 48 k).2 := by decide +kernel
theorem fX12_readFlag_126 : jj_F wsX12_readFlag RX12 126 11 11 := ⟨_, _, _, rfl, by decide, iX12_readFlag_X12, (show Cond.fieldLink RX12 126 (TX12 11).1 (TX12 11).2.1 (TX12 11).2.2.1 ∈ wsX12_readFlag from List.mem_of_getElem? (i := 2) rfl)⟩
theorem hr_48_27_27 : ∀ k, k < 28 → 27 ≤ k → 0 ≤ (s_b 48 k).1 ∧ (s_b 48 k).2 ≤ 255 := by decide +kernel
theorem hs_48_27_27 : ∀ k, k < 28 → 27 ≤ k → (s_b 48 k).1 ≤ 0 ∧ 255 ≤ (s_b 48 k).2 := by decide +kernel
theorem hs_48_41_48 : ∀ k, k < 49 → 41 ≤ k → (s_b 48 k).1 ≤ (-2147483648) ∧ 2147483647 ≤ (s_b 48 k).2 := by decide +kernel
theorem hdX12_readFlag : yX12_readFlag.cls = RX12 ∧ yX12_readFlag.cls ≠ "java/lang/invoke/MethodHandle" ∧ yX12_readFlag.cls ≠ "java/lang/invoke/VarHandle" ∧ (parseMethodDescriptor yX12_readFlag.desc).map (fun d => d.parameters.length) = some 1 := by decide +kernel
theorem hs_48_26_26 : ∀ k, k < 27 → 26 ≤ k → (s_b 48 k).1 ≤ 0 ∧ 8 ≤ (s_b 48 k).2 := by decide +kernel
theorem hdX12_readKind : yX12_readKind.cls = RX12 ∧ yX12_readKind.cls ≠ "java/lang/invoke/MethodHandle" ∧ yX12_readKind.cls ≠ "java/lang/invoke/VarHandle" ∧ (parseMethodDescriptor yX12_readKind.desc).map (fun d => d.parameters.length) = some 0 := by decide +kernel
theorem hdX12_readLine : yX12_readLine.cls = RX12 ∧ yX12_readLine.cls ≠ "java/lang/invoke/MethodHandle" ∧ yX12_readLine.cls ≠ "java/lang/invoke/VarHandle" ∧ (parseMethodDescriptor yX12_readLine.desc).map (fun d => d.parameters.length) = some 0 := by decide +kernel
theorem qX12_shop_201 : jj_P wsX12_shop RX12 201 11 13 (.int) := ⟨_, _, _, tyX12, rfl, by decide, iX12_shop_X12, (show Cond.fieldLink RX12 201 (TX12 13).1 (TX12 13).2.1 (TX12 13).2.2.1 ∈ wsX12_shop from List.mem_of_getElem? (i := 8) rfl), tyX12_ok, nmX12, rfl, by decide +kernel⟩
theorem fX12_shop_129 : jj_F wsX12_shop RX12 129 11 12 := ⟨_, _, _, rfl, by decide, iX12_shop_X12, (show Cond.fieldLink RX12 129 (TX12 12).1 (TX12 12).2.1 (TX12 12).2.2.1 ∈ wsX12_shop from List.mem_of_getElem? (i := 9) rfl)⟩
theorem qX12_shop_27 : jj_P wsX12_shop RX12 27 11 14 (.int) := ⟨_, _, _, tyX12, rfl, by decide, iX12_shop_X12, (show Cond.fieldLink RX12 27 (TX12 14).1 (TX12 14).2.1 (TX12 14).2.2.1 ∈ wsX12_shop from List.mem_of_getElem? (i := 10) rfl), tyX12_ok, nmX12, rfl, by decide +kernel⟩
theorem fX12_shop_13 : jj_F wsX12_shop RX12 13 11 1 := ⟨_, _, _, rfl, by decide, iX12_shop_X12, (show Cond.fieldLink RX12 13 (TX12 1).1 (TX12 1).2.1 (TX12 1).2.2.1 ∈ wsX12_shop from List.mem_of_getElem? (i := 11) rfl)⟩
theorem iX12_image_X12 : ∀ w ∈ wsX120, w ∈ wsX12_image := fun w h => List.mem_cons_of_mem _ (List.mem_append_right _ h)
theorem qX12_image_1 : jj_P wsX12_image RX12 1 11 0 (.int) := ⟨_, _, _, tyX12, rfl, by decide, iX12_image_X12, (show Cond.fieldLink RX12 1 (TX12 0).1 (TX12 0).2.1 (TX12 0).2.2.1 ∈ wsX12_image from List.mem_of_getElem? (i := 1) rfl), tyX12_ok, nmX12, rfl, by decide +kernel⟩
theorem fX12_image_13 : jj_F wsX12_image RX12 13 11 1 := ⟨_, _, _, rfl, by decide, iX12_image_X12, (show Cond.fieldLink RX12 13 (TX12 1).1 (TX12 1).2.1 (TX12 1).2.2.1 ∈ wsX12_image from List.mem_of_getElem? (i := 2) rfl)⟩
theorem fX12_image_17 : jj_F wsX12_image RX12 17 11 2 := ⟨_, _, _, rfl, by decide, iX12_image_X12, (show Cond.fieldLink RX12 17 (TX12 2).1 (TX12 2).2.1 (TX12 2).2.2.1 ∈ wsX12_image from List.mem_of_getElem? (i := 3) rfl)⟩
theorem ft_11_2 : (mm_ft 11)[2]? = some 2 := rfl
theorem sm_11_2 : s_m 11 2 = 0 := rfl
theorem ak_46 : s_ak 46 = 101 := rfl
theorem an_46 : s_an 46 = 2 := rfl
theorem sb_46 (k : Nat) : s_b 46 k = (0, 1) := rfl
theorem iX12_restore_X12 : ∀ w ∈ wsX120, w ∈ wsX12_restore := fun w h => List.mem_cons_of_mem _ (List.mem_append_right _ h)
theorem qX12_restore_1 : jj_P wsX12_restore RX12 1 11 0 (.int) := ⟨_, _, _, tyX12, rfl, by decide, iX12_restore_X12, (show Cond.fieldLink RX12 1 (TX12 0).1 (TX12 0).2.1 (TX12 0).2.2.1 ∈ wsX12_restore from List.mem_of_getElem? (i := 1) rfl), tyX12_ok, nmX12, rfl, by decide +kernel⟩
theorem fX12_restore_17 : jj_F wsX12_restore RX12 17 11 2 := ⟨_, _, _, rfl, by decide, iX12_restore_X12, (show Cond.fieldLink RX12 17 (TX12 2).1 (TX12 2).2.1 (TX12 2).2.2.1 ∈ wsX12_restore from List.mem_of_getElem? (i := 2) rfl)⟩
theorem fX12_restore_13 : jj_F wsX12_restore RX12 13 11 1 := ⟨_, _, _, rfl, by decide, iX12_restore_X12, (show Cond.fieldLink RX12 13 (TX12 1).1 (TX12 1).2.1 (TX12 1).2.2.1 ∈ wsX12_restore from List.mem_of_getElem? (i := 3) rfl)⟩
