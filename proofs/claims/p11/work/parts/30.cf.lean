theorem iX11_feed_X11 : ∀ w ∈ wsX110, w ∈ wsX11_feed := fun w h => List.mem_cons_of_mem _ (List.mem_append_left _ (List.mem_append_right _ h))
theorem fX11_feed_13 : jj_F wsX11_feed RX11 13 10 1 := ⟨_, _, _, rfl, by decide, iX11_feed_X11, (show Cond.fieldLink RX11 13 (TX11 1).1 (TX11 1).2.1 (TX11 1).2.2.1 ∈ wsX11_feed from List.mem_of_getElem? (i := 1) rfl)⟩
theorem sb_10_1 : s_b 10 1 = (0, 900) := rfl
theorem ft_10_1 : (mm_ft 10)[1]? = some 0 := rfl
theorem iX11_putBytes_X11 : ∀ w ∈ wsX110, w ∈ wsX11_putBytes := fun w h => List.mem_cons_of_mem _ (List.mem_append_left _ (List.mem_append_right _ h))
theorem fX11_putBytes_13 : jj_F wsX11_putBytes RX11 13 10 1 := ⟨_, _, _, rfl, by decide, iX11_putBytes_X11, (show Cond.fieldLink RX11 13 (TX11 1).1 (TX11 1).2.1 (TX11 1).2.2.1 ∈ wsX11_putBytes from List.mem_of_getElem? (i := 1) rfl)⟩
theorem fX11_putBytes_9 : jj_F wsX11_putBytes RX11 9 10 0 := ⟨_, _, _, rfl, by decide, iX11_putBytes_X11, (show Cond.fieldLink RX11 9 (TX11 0).1 (TX11 0).2.1 (TX11 0).2.2.1 ∈ wsX11_putBytes from List.mem_of_getElem? (i := 2) rfl)⟩
theorem ft_10_0 : (mm_ft 10)[0]? = some 2 := rfl
theorem sm_10_0 : s_m 10 0 = 0 := rfl
theorem an_20 : s_an 20 = 900 := rfl
theorem ak_20 : s_ak 20 = 100 := rfl
theorem sb_20 (k : Nat) : s_b 20 k = (0, 255) := rfl
theorem qX11_putBytes_13 : jj_P wsX11_putBytes RX11 13 10 1 (.int) := ⟨_, _, _, tyX11, rfl, by decide, iX11_putBytes_X11, (show Cond.fieldLink RX11 13 (TX11 1).1 (TX11 1).2.1 (TX11 1).2.2.1 ∈ wsX11_putBytes from List.mem_of_getElem? (i := 1) rfl), tyX11_ok, nmX11, rfl, by decide +kernel⟩
theorem hdX11_putBytes : yX11_putBytes.cls = RX11 ∧ yX11_putBytes.cls ≠ "java/lang/invoke/MethodHandle" ∧ yX11_putBytes.cls ≠ "java/lang/invoke/VarHandle" ∧ (parseMethodDescriptor yX11_putBytes.desc).map (fun d => d.parameters.length) = some 1 := by decide +kernel
theorem iX11_shop_X11 : ∀ w ∈ wsX110, w ∈ wsX11_shop := fun w h => List.mem_cons_of_mem _ (List.mem_append_left _ (List.mem_append_left _ (List.mem_append_left _ (List.mem_append_left _ (List.mem_append_left _ (List.mem_append_left _ (List.mem_append_right _ h)))))))
theorem fX11_shop_13 : jj_F wsX11_shop RX11 13 10 1 := ⟨_, _, _, rfl, by decide, iX11_shop_X11, (show Cond.fieldLink RX11 13 (TX11 1).1 (TX11 1).2.1 (TX11 1).2.2.1 ∈ wsX11_shop from List.mem_of_getElem? (i := 1) rfl)⟩
theorem fX11_shop_67 : jj_F wsX11_shop RX11 67 10 11 := ⟨_, _, _, rfl, by decide, iX11_shop_X11, (show Cond.fieldLink RX11 67 (TX11 11).1 (TX11 11).2.1 (TX11 11).2.2.1 ∈ wsX11_shop from List.mem_of_getElem? (i := 2) rfl)⟩
theorem ft_10_11 : (mm_ft 10)[11]? = some 2 := rfl
theorem sm_10_11 : s_m 10 11 = 0 := rfl
theorem fX11_shop_9 : jj_F wsX11_shop RX11 9 10 0 := ⟨_, _, _, rfl, by decide, iX11_shop_X11, (show Cond.fieldLink RX11 9 (TX11 0).1 (TX11 0).2.1 (TX11 0).2.2.1 ∈ wsX11_shop from List.mem_of_getElem? (i := 3) rfl)⟩
theorem fX11_shop_30 : jj_F wsX11_shop RX11 30 10 5 := ⟨_, _, _, rfl, by decide, iX11_shop_X11, (show Cond.fieldLink RX11 30 (TX11 5).1 (TX11 5).2.1 (TX11 5).2.2.1 ∈ wsX11_shop from List.mem_of_getElem? (i := 4) rfl)⟩
theorem ft_10_5 : (mm_ft 10)[5]? = some 2 := rfl
theorem sm_10_5 : s_m 10 5 = 6 := rfl
theorem fX11_shop_40 : jj_F wsX11_shop RX11 40 10 7 := ⟨_, _, _, rfl, by decide, iX11_shop_X11, (show Cond.fieldLink RX11 40 (TX11 7).1 (TX11 7).2.1 (TX11 7).2.2.1 ∈ wsX11_shop from List.mem_of_getElem? (i := 5) rfl)⟩
theorem ft_10_7 : (mm_ft 10)[7]? = some 2 := rfl
theorem sm_10_7 : s_m 10 7 = 0 := rfl
theorem iX8_read_X8 : ∀ w ∈ wsX80, w ∈ wsX8_read := fun w h => List.mem_cons_of_mem _ (List.mem_append_left _ (List.mem_append_left _ (List.mem_append_left _ (List.mem_append_right _ h))))
theorem qX8_read_28 : jj_P wsX8_read RX8 28 7 3 (.object "OneOfEach$Plan") := ⟨_, _, _, tyX8, rfl, by decide, iX8_read_X8, (show Cond.fieldLink RX8 28 (TX8 3).1 (TX8 3).2.1 (TX8 3).2.2.1 ∈ wsX8_read from List.mem_of_getElem? (i := 1) rfl), tyX8_ok, nmX8, rfl, by decide +kernel⟩
theorem ft_7_3 : (mm_ft 7)[3]? = some 2 := rfl
theorem sm_7_3 : s_m 7 3 = 6 := rfl
theorem qX8_read_32 : jj_P wsX8_read RX8 32 7 4 (.object "OneOfEach$Stock") := ⟨_, _, _, tyX8, rfl, by decide, iX8_read_X8, (show Cond.fieldLink RX8 32 (TX8 4).1 (TX8 4).2.1 (TX8 4).2.2.1 ∈ wsX8_read from List.mem_of_getElem? (i := 2) rfl), tyX8_ok, nmX8, rfl, by decide +kernel⟩
theorem ft_7_4 : (mm_ft 7)[4]? = some 2 := rfl
theorem sm_7_4 : s_m 7 4 = 8 := rfl
theorem fX8_read_28 : jj_F wsX8_read RX8 28 7 3 := ⟨_, _, _, rfl, by decide, iX8_read_X8, (show Cond.fieldLink RX8 28 (TX8 3).1 (TX8 3).2.1 (TX8 3).2.2.1 ∈ wsX8_read from List.mem_of_getElem? (i := 1) rfl)⟩
theorem iX7_clear_X7 : ∀ w ∈ wsX70, w ∈ wsX7_clear := fun w h => List.mem_cons_of_mem _ (List.mem_append_left _ (List.mem_append_right _ h))
theorem qX7_clear_9 : jj_P wsX7_clear RX7 9 6 0 (.int) := ⟨_, _, _, tyX7, rfl, by decide, iX7_clear_X7, (show Cond.fieldLink RX7 9 (TX7 0).1 (TX7 0).2.1 (TX7 0).2.2.1 ∈ wsX7_clear from List.mem_of_getElem? (i := 1) rfl), tyX7_ok, nmX7, rfl, by decide +kernel⟩
theorem sb_6_0 : s_b 6 0 = (0, 6) := rfl
theorem ft_6_0 : (mm_ft 6)[0]? = some 0 := rfl
theorem qX7_clear_15 : jj_P wsX7_clear RX7 15 6 1 (.int) := ⟨_, _, _, tyX7, rfl, by decide, iX7_clear_X7, (show Cond.fieldLink RX7 15 (TX7 1).1 (TX7 1).2.1 (TX7 1).2.2.1 ∈ wsX7_clear from List.mem_of_getElem? (i := 2) rfl), tyX7_ok, nmX7, rfl, by decide +kernel⟩
theorem sb_6_1 : s_b 6 1 = ((-2147483648), 2147483647) := rfl
theorem ft_6_1 : (mm_ft 6)[1]? = some 0 := rfl
theorem qX7_clear_31 : jj_P wsX7_clear RX7 31 6 6 (.int) := ⟨_, _, _, tyX7, rfl, by decide, iX7_clear_X7, (show Cond.fieldLink RX7 31 (TX7 6).1 (TX7 6).2.1 (TX7 6).2.2.1 ∈ wsX7_clear from List.mem_of_getElem? (i := 3) rfl), tyX7_ok, nmX7, rfl, by decide +kernel⟩
theorem sb_6_6 : s_b 6 6 = (0, 900) := rfl
theorem ft_6_6 : (mm_ft 6)[6]? = some 0 := rfl
theorem qX7_clear_34 : jj_P wsX7_clear RX7 34 6 7 (.int) := ⟨_, _, _, tyX7, rfl, by decide, iX7_clear_X7, (show Cond.fieldLink RX7 34 (TX7 7).1 (TX7 7).2.1 (TX7 7).2.2.1 ∈ wsX7_clear from List.mem_of_getElem? (i := 4) rfl), tyX7_ok, nmX7, rfl, by decide +kernel⟩
theorem sb_6_7 : s_b 6 7 = (0, 900) := rfl
theorem ft_6_7 : (mm_ft 6)[7]? = some 0 := rfl
theorem qX7_clear_37 : jj_P wsX7_clear RX7 37 6 8 (.int) := ⟨_, _, _, tyX7, rfl, by decide, iX7_clear_X7, (show Cond.fieldLink RX7 37 (TX7 8).1 (TX7 8).2.1 (TX7 8).2.2.1 ∈ wsX7_clear from List.mem_of_getElem? (i := 5) rfl), tyX7_ok, nmX7, rfl, by decide +kernel⟩
theorem sb_6_8 : s_b 6 8 = (0, 900) := rfl
theorem ft_6_8 : (mm_ft 6)[8]? = some 0 := rfl
theorem qX7_clear_40 : jj_P wsX7_clear RX7 40 6 9 (.int) := ⟨_, _, _, tyX7, rfl, by decide, iX7_clear_X7, (show Cond.fieldLink RX7 40 (TX7 9).1 (TX7 9).2.1 (TX7 9).2.2.1 ∈ wsX7_clear from List.mem_of_getElem? (i := 6) rfl), tyX7_ok, nmX7, rfl, by decide +kernel⟩
theorem sb_6_9 : s_b 6 9 = (0, 900) := rfl
theorem ft_6_9 : (mm_ft 6)[9]? = some 0 := rfl
theorem qX7_clear_43 : jj_P wsX7_clear RX7 43 6 10 (.int) := ⟨_, _, _, tyX7, rfl, by decide, iX7_clear_X7, (show Cond.fieldLink RX7 43 (TX7 10).1 (TX7 10).2.1 (TX7 10).2.2.1 ∈ wsX7_clear from List.mem_of_getElem? (i := 7) rfl), tyX7_ok, nmX7, rfl, by decide +kernel⟩
theorem sb_6_10 : s_b 6 10 = (0, 900) := rfl
theorem ft_6_10 : (mm_ft 6)[10]? = some 0 := rfl
theorem hdX7_clear : yX7_clear.cls = RX7 ∧ yX7_clear.cls ≠ "java/lang/invoke/MethodHandle" ∧ yX7_clear.cls ≠ "java/lang/invoke/VarHandle" ∧ (parseMethodDescriptor yX7_clear.desc).map (fun d => d.parameters.length) = some 0 := by decide +kernel
theorem fX8_read_32 : jj_F wsX8_read RX8 32 7 4 := ⟨_, _, _, rfl, by decide, iX8_read_X8, (show Cond.fieldLink RX8 32 (TX8 4).1 (TX8 4).2.1 (TX8 4).2.2.1 ∈ wsX8_read from List.mem_of_getElem? (i := 2) rfl)⟩
theorem iX9_clear_X9 : ∀ w ∈ wsX90, w ∈ wsX9_clear := fun w h => List.mem_cons_of_mem _ (List.mem_append_left _ (List.mem_append_right _ h))
theorem qX9_clear_9 : jj_P wsX9_clear RX9 9 8 0 (.int) := ⟨_, _, _, tyX9, rfl, by decide, iX9_clear_X9, (show Cond.fieldLink RX9 9 (TX9 0).1 (TX9 0).2.1 (TX9 0).2.2.1 ∈ wsX9_clear from List.mem_of_getElem? (i := 1) rfl), tyX9_ok, nmX9, rfl, by decide +kernel⟩
theorem sb_8_0 : s_b 8 0 = (0, 8) := rfl
theorem ft_8_0 : (mm_ft 8)[0]? = some 0 := rfl
theorem qX9_clear_22 : jj_P wsX9_clear RX9 22 8 3 (.int) := ⟨_, _, _, tyX9, rfl, by decide, iX9_clear_X9, (show Cond.fieldLink RX9 22 (TX9 3).1 (TX9 3).2.1 (TX9 3).2.2.1 ∈ wsX9_clear from List.mem_of_getElem? (i := 2) rfl), tyX9_ok, nmX9, rfl, by decide +kernel⟩
theorem sb_8_3 : s_b 8 3 = (0, 255) := rfl
theorem ft_8_3 : (mm_ft 8)[3]? = some 0 := rfl
theorem qX9_clear_25 : jj_P wsX9_clear RX9 25 8 4 (.int) := ⟨_, _, _, tyX9, rfl, by decide, iX9_clear_X9, (show Cond.fieldLink RX9 25 (TX9 4).1 (TX9 4).2.1 (TX9 4).2.2.1 ∈ wsX9_clear from List.mem_of_getElem? (i := 3) rfl), tyX9_ok, nmX9, rfl, by decide +kernel⟩
theorem sb_8_4 : s_b 8 4 = (0, 255) := rfl
theorem ft_8_4 : (mm_ft 8)[4]? = some 0 := rfl
theorem qX9_clear_28 : jj_P wsX9_clear RX9 28 8 5 (.int) := ⟨_, _, _, tyX9, rfl, by decide, iX9_clear_X9, (show Cond.fieldLink RX9 28 (TX9 5).1 (TX9 5).2.1 (TX9 5).2.2.1 ∈ wsX9_clear from List.mem_of_getElem? (i := 4) rfl), tyX9_ok, nmX9, rfl, by decide +kernel⟩
theorem sb_8_5 : s_b 8 5 = ((-2147483648), 2147483647) := rfl
theorem ft_8_5 : (mm_ft 8)[5]? = some 0 := rfl
theorem qX9_clear_31 : jj_P wsX9_clear RX9 31 8 6 (.int) := ⟨_, _, _, tyX9, rfl, by decide, iX9_clear_X9, (show Cond.fieldLink RX9 31 (TX9 6).1 (TX9 6).2.1 (TX9 6).2.2.1 ∈ wsX9_clear from List.mem_of_getElem? (i := 5) rfl), tyX9_ok, nmX9, rfl, by decide +kernel⟩
theorem sb_8_6 : s_b 8 6 = ((-2147483648), 2147483647) := rfl
theorem ft_8_6 : (mm_ft 8)[6]? = some 0 := rfl
theorem qX9_clear_34 : jj_P wsX9_clear RX9 34 8 7 (.int) := ⟨_, _, _, tyX9, rfl, by decide, iX9_clear_X9, (show Cond.fieldLink RX9 34 (TX9 7).1 (TX9 7).2.1 (TX9 7).2.2.1 ∈ wsX9_clear from List.mem_of_getElem? (i := 6) rfl), tyX9_ok, nmX9, rfl, by decide +kernel⟩
theorem sb_8_7 : s_b 8 7 = ((-2147483648), 2147483647) := rfl
theorem ft_8_7 : (mm_ft 8)[7]? = some 0 := rfl
theorem qX9_clear_37 : jj_P wsX9_clear RX9 37 8 8 (.int) := ⟨_, _, _, tyX9, rfl, by decide, iX9_clear_X9, (show Cond.fieldLink RX9 37 (TX9 8).1 (TX9 8).2.1 (TX9 8).2.2.1 ∈ wsX9_clear from List.mem_of_getElem? (i := 7) rfl), tyX9_ok, nmX9, rfl, by decide +kernel⟩
theorem sb_8_8 : s_b 8 8 = ((-2147483648), 2147483647) := rfl
theorem ft_8_8 : (mm_ft 8)[8]? = some 0 := rfl
theorem hdX9_clear : yX9_clear.cls = RX9 ∧ yX9_clear.cls ≠ "java/lang/invoke/MethodHandle" ∧ yX9_clear.cls ≠ "java/lang/invoke/VarHandle" ∧ (parseMethodDescriptor yX9_clear.desc).map (fun d => d.parameters.length) = some 0 := by decide +kernel
theorem hdX3_isBlanks : yX3_isBlank.cls ≠ "java/lang/invoke/MethodHandle" ∧ yX3_isBlank.cls ≠ "java/lang/invoke/VarHandle" ∧ (parseMethodDescriptor yX3_isBlank.desc).map (fun d => d.parameters.length) = some 1 := by decide +kernel
theorem hdX3_isSmalls : yX3_isSmall.cls ≠ "java/lang/invoke/MethodHandle" ∧ yX3_isSmall.cls ≠ "java/lang/invoke/VarHandle" ∧ (parseMethodDescriptor yX3_isSmall.desc).map (fun d => d.parameters.length) = some 1 := by decide +kernel
theorem hdX3_isDigits : yX3_isDigit.cls ≠ "java/lang/invoke/MethodHandle" ∧ yX3_isDigit.cls ≠ "java/lang/invoke/VarHandle" ∧ (parseMethodDescriptor yX3_isDigit.desc).map (fun d => d.parameters.length) = some 1 := by decide +kernel
theorem hdX3_endOfs : yX3_endOf.cls ≠ "java/lang/invoke/MethodHandle" ∧ yX3_endOf.cls ≠ "java/lang/invoke/VarHandle" ∧ (parseMethodDescriptor yX3_endOf.desc).map (fun d => d.parameters.length) = some 3 := by decide +kernel
theorem iX8_split_X8 : ∀ w ∈ wsX80, w ∈ wsX8_split := fun w h => List.mem_cons_of_mem _ (List.mem_append_left _ (List.mem_append_right _ h))
theorem fX8_split_15 : jj_F wsX8_split RX8 15 7 1 := ⟨_, _, _, rfl, by decide, iX8_split_X8, (show Cond.fieldLink RX8 15 (TX8 1).1 (TX8 1).2.1 (TX8 1).2.2.1 ∈ wsX8_split from List.mem_of_getElem? (i := 1) rfl)⟩
theorem ft_7_1 : (mm_ft 7)[1]? = some 2 := rfl
theorem sm_7_1 : s_m 7 1 = 0 := rfl
theorem ak_32 : s_ak 32 = 100 := rfl
theorem an_32 : s_an 32 = 901 := rfl
theorem sb_32 (k : Nat) : s_b 32 k = ((-2147483648), 2147483647) := rfl
theorem fX8_split_9 : jj_F wsX8_split RX8 9 7 0 := ⟨_, _, _, rfl, by decide, iX8_split_X8, (show Cond.fieldLink RX8 9 (TX8 0).1 (TX8 0).2.1 (TX8 0).2.2.1 ∈ wsX8_split from List.mem_of_getElem? (i := 2) rfl)⟩
theorem ft_7_0 : (mm_ft 7)[0]? = some 2 := rfl
theorem sm_7_0 : s_m 7 0 = 0 := rfl
theorem fJ0_isLatin1_aae02_38 : Cond.fieldLink RJ0 38 "java/lang/String" "COMPACT_STRINGS" "Z" ∈ wsJ0_isLatin1_aae02 := List.mem_of_getElem? (i := 1) rfl
theorem fJ0_isLatin1_aae02_15 : Cond.fieldLink RJ0 15 "java/lang/String" "coder" "B" ∈ wsJ0_isLatin1_aae02 := List.mem_of_getElem? (i := 2) rfl
theorem hdJ0_isLatin1_aae02 : yJ0_isLatin1_aae02.cls = RJ0 ∧ yJ0_isLatin1_aae02.cls ≠ "java/lang/invoke/MethodHandle" ∧ yJ0_isLatin1_aae02.cls ≠ "java/lang/invoke/VarHandle" ∧ (parseMethodDescriptor yJ0_isLatin1_aae02.desc).map (fun d => d.parameters.length) = some 0 := by decide +kernel
theorem fJ0_indexOf_7cf53_9 : Cond.fieldLink RJ0 9 "java/lang/String" "value" "[B" ∈ wsJ0_indexOf_7cf53 := List.mem_of_getElem? (i := 1) rfl
theorem fJ0_length_8abf5_9 : Cond.fieldLink RJ0 9 "java/lang/String" "value" "[B" ∈ wsJ0_length_8abf5 := List.mem_of_getElem? (i := 1) rfl
theorem fJ0_coder_7d493_38 : Cond.fieldLink RJ0 38 "java/lang/String" "COMPACT_STRINGS" "Z" ∈ wsJ0_coder_7d493 := List.mem_of_getElem? (i := 1) rfl
theorem fJ0_coder_7d493_15 : Cond.fieldLink RJ0 15 "java/lang/String" "coder" "B" ∈ wsJ0_coder_7d493 := List.mem_of_getElem? (i := 2) rfl
theorem hdJ0_coder_7d493 : yJ0_coder_7d493.cls = RJ0 ∧ yJ0_coder_7d493.cls ≠ "java/lang/invoke/MethodHandle" ∧ yJ0_coder_7d493.cls ≠ "java/lang/invoke/VarHandle" ∧ (parseMethodDescriptor yJ0_coder_7d493.desc).map (fun d => d.parameters.length) = some 0 := by decide +kernel
theorem hdJ0_length_8abf5 : yJ0_length_8abf5.cls = RJ0 ∧ yJ0_length_8abf5.cls ≠ "java/lang/invoke/MethodHandle" ∧ yJ0_length_8abf5.cls ≠ "java/lang/invoke/VarHandle" ∧ (parseMethodDescriptor yJ0_length_8abf5.desc).map (fun d => d.parameters.length) = some 0 := by decide +kernel
theorem hdJ1_canEncode_9a6ads : yJ1_canEncode_9a6ad.cls ≠ "java/lang/invoke/MethodHandle" ∧ yJ1_canEncode_9a6ad.cls ≠ "java/lang/invoke/VarHandle" ∧ (parseMethodDescriptor yJ1_canEncode_9a6ad.desc).map (fun d => d.parameters.length) = some 1 := by decide +kernel
theorem wJ1_indexOf_4cfef_92_0 : Cond.methodLink RJ1 92 Lib.Math.max.name ∈ wsJ1_indexOf_4cfef := List.mem_of_getElem? (i := 1) rfl
theorem wJ1_indexOf_4cfef_92_1 : Cond.static Lib.Math.max.name ∈ wsJ1_indexOf_4cfef := List.mem_of_getElem? (i := 2) rfl
theorem wJ1_indexOf_4cfef_92_2 : Cond.initialized "java/lang/Math" ∈ wsJ1_indexOf_4cfef := List.mem_of_getElem? (i := 3) rfl
theorem wJ1_indexOf_4cfef_92_3 : Cond.code Lib.Math.max.name Lib.Math.max.code 2 (some .int) ∈ wsJ1_indexOf_4cfef := List.mem_of_getElem? (i := 4) rfl
theorem wJ1_indexOf_4cfef_38_0 : Cond.methodLink RJ1 38 Lib.Math.min.name ∈ wsJ1_indexOf_4cfef := List.mem_of_getElem? (i := 5) rfl
theorem wJ1_indexOf_4cfef_38_1 : Cond.static Lib.Math.min.name ∈ wsJ1_indexOf_4cfef := List.mem_of_getElem? (i := 6) rfl
theorem wJ1_indexOf_4cfef_38_2 : Cond.initialized "java/lang/Math" ∈ wsJ1_indexOf_4cfef := List.mem_of_getElem? (i := 3) rfl
theorem wJ1_indexOf_4cfef_38_3 : Cond.code Lib.Math.min.name Lib.Math.min.code 2 (some .int) ∈ wsJ1_indexOf_4cfef := List.mem_of_getElem? (i := 7) rfl
theorem hdJ1_indexOfChar_4cfefs : yJ1_indexOfChar_4cfef.cls ≠ "java/lang/invoke/MethodHandle" ∧ yJ1_indexOfChar_4cfef.cls ≠ "java/lang/invoke/VarHandle" ∧ (parseMethodDescriptor yJ1_indexOfChar_4cfef.desc).map (fun d => d.parameters.length) = some 4 := by decide +kernel
theorem hdJ1_indexOf_4cfefs : yJ1_indexOf_4cfef.cls ≠ "java/lang/invoke/MethodHandle" ∧ yJ1_indexOf_4cfef.cls ≠ "java/lang/invoke/VarHandle" ∧ (parseMethodDescriptor yJ1_indexOf_4cfef.desc).map (fun d => d.parameters.length) = some 4 := by decide +kernel
theorem hdJ0_indexOf_7cf53 : yJ0_indexOf_7cf53.cls = RJ0 ∧ yJ0_indexOf_7cf53.cls ≠ "java/lang/invoke/MethodHandle" ∧ yJ0_indexOf_7cf53.cls ≠ "java/lang/invoke/VarHandle" ∧ (parseMethodDescriptor yJ0_indexOf_7cf53.desc).map (fun d => d.parameters.length) = some 2 := by decide +kernel
theorem hdJ0_indexOf_0f7a4 : yJ0_indexOf_0f7a4.cls = RJ0 ∧ yJ0_indexOf_0f7a4.cls ≠ "java/lang/invoke/MethodHandle" ∧ yJ0_indexOf_0f7a4.cls ≠ "java/lang/invoke/VarHandle" ∧ (parseMethodDescriptor yJ0_indexOf_0f7a4.desc).map (fun d => d.parameters.length) = some 1 := by decide +kernel
theorem hdX3_numberOfs : yX3_numberOf.cls ≠ "java/lang/invoke/MethodHandle" ∧ yX3_numberOf.cls ≠ "java/lang/invoke/VarHandle" ∧ (parseMethodDescriptor yX3_numberOf.desc).map (fun d => d.parameters.length) = some 3 := by decide +kernel
theorem fJ0_charAt_5068e_9 : Cond.fieldLink RJ0 9 "java/lang/String" "value" "[B" ∈ wsJ0_charAt_5068e := List.mem_of_getElem? (i := 1) rfl
theorem fJ0_checkIndex_df160_1053 : Cond.fieldLink RJ0 1053 "jdk/internal/util/Preconditions" "SIOOBE_FORMATTER" "Ljava/util/function/BiFunction;" ∈ wsJ0_checkIndex_df160 := List.mem_of_getElem? (i := 1) rfl
theorem hdJ3_checkIndex_8e157s : yJ3_checkIndex_8e157.cls ≠ "java/lang/invoke/MethodHandle" ∧ yJ3_checkIndex_8e157.cls ≠ "java/lang/invoke/VarHandle" ∧ (parseMethodDescriptor yJ3_checkIndex_8e157.desc).map (fun d => d.parameters.length) = some 3 := by decide +kernel
theorem hdJ1_charAt_3b067s : yJ1_charAt_3b067.cls ≠ "java/lang/invoke/MethodHandle" ∧ yJ1_charAt_3b067.cls ≠ "java/lang/invoke/VarHandle" ∧ (parseMethodDescriptor yJ1_charAt_3b067.desc).map (fun d => d.parameters.length) = some 2 := by decide +kernel
theorem hdJ0_charAt_5068e : yJ0_charAt_5068e.cls = RJ0 ∧ yJ0_charAt_5068e.cls ≠ "java/lang/invoke/MethodHandle" ∧ yJ0_charAt_5068e.cls ≠ "java/lang/invoke/VarHandle" ∧ (parseMethodDescriptor yJ0_charAt_5068e.desc).map (fun d => d.parameters.length) = some 1 := by decide +kernel
theorem hdX3_wordOfs : yX3_wordOf.cls ≠ "java/lang/invoke/MethodHandle" ∧ yX3_wordOf.cls ≠ "java/lang/invoke/VarHandle" ∧ (parseMethodDescriptor yX3_wordOf.desc).map (fun d => d.parameters.length) = some 3 := by decide +kernel
theorem hdX3_meanings : yX3_meaning.cls ≠ "java/lang/invoke/MethodHandle" ∧ yX3_meaning.cls ≠ "java/lang/invoke/VarHandle" ∧ (parseMethodDescriptor yX3_meaning.desc).map (fun d => d.parameters.length) = some 3 := by decide +kernel
theorem ak_31 : s_ak 31 = 100 := rfl
theorem an_31 : s_an 31 = 901 := rfl
theorem sb_31 (k : Nat) : s_b 31 k = ((-2147483648), 2147483647) := rfl
theorem wX8_split_75_0 : Cond.methodLink RX8 75 Lib.Math.max.name ∈ wsX8_split := List.mem_of_getElem? (i := 3) rfl
theorem wX8_split_75_1 : Cond.static Lib.Math.max.name ∈ wsX8_split := List.mem_of_getElem? (i := 4) rfl
theorem wX8_split_75_2 : Cond.initialized "java/lang/Math" ∈ wsX8_split := List.mem_of_getElem? (i := 5) rfl
theorem wX8_split_75_3 : Cond.code Lib.Math.max.name Lib.Math.max.code 2 (some .int) ∈ wsX8_split := List.mem_of_getElem? (i := 6) rfl
theorem hdX8_split : yX8_split.cls = RX8 ∧ yX8_split.cls ≠ "java/lang/invoke/MethodHandle" ∧ yX8_split.cls ≠ "java/lang/invoke/VarHandle" ∧ (parseMethodDescriptor yX8_split.desc).map (fun d => d.parameters.length) = some 2 := by decide +kernel
theorem qX8_read_18 : jj_P wsX8_read RX8 18 7 2 (.int) := ⟨_, _, _, tyX8, rfl, by decide, iX8_read_X8, (show Cond.fieldLink RX8 18 (TX8 2).1 (TX8 2).2.1 (TX8 2).2.2.1 ∈ wsX8_read from List.mem_of_getElem? (i := 3) rfl), tyX8_ok, nmX8, rfl, by decide +kernel⟩
theorem sb_7_2 : s_b 7 2 = (0, 901) := rfl
theorem ft_7_2 : (mm_ft 7)[2]? = some 0 := rfl
theorem qX8_read_22 : jj_P wsX8_read RX8 22 7 5 (.int) := ⟨_, _, _, tyX8, rfl, by decide, iX8_read_X8, (show Cond.fieldLink RX8 22 (TX8 5).1 (TX8 5).2.1 (TX8 5).2.2.1 ∈ wsX8_read from List.mem_of_getElem? (i := 4) rfl), tyX8_ok, nmX8, rfl, by decide +kernel⟩
theorem sb_7_5 : s_b 7 5 = (0, 4) := rfl
theorem ft_7_5 : (mm_ft 7)[5]? = some 0 := rfl
theorem qX8_read_25 : jj_P wsX8_read RX8 25 7 6 (.int) := ⟨_, _, _, tyX8, rfl, by decide, iX8_read_X8, (show Cond.fieldLink RX8 25 (TX8 6).1 (TX8 6).2.1 (TX8 6).2.2.1 ∈ wsX8_read from List.mem_of_getElem? (i := 5) rfl), tyX8_ok, nmX8, rfl, by decide +kernel⟩
theorem sb_7_6 : s_b 7 6 = ((-2147483648), 2147483647) := rfl
theorem ft_7_6 : (mm_ft 7)[6]? = some 0 := rfl
theorem iX8_expect_X8 : ∀ w ∈ wsX80, w ∈ wsX8_expect := fun w h => List.mem_cons_of_mem _ (List.mem_append_left _ (List.mem_append_right _ h))
theorem fX8_expect_22 : jj_F wsX8_expect RX8 22 7 5 := ⟨_, _, _, rfl, by decide, iX8_expect_X8, (show Cond.fieldLink RX8 22 (TX8 5).1 (TX8 5).2.1 (TX8 5).2.2.1 ∈ wsX8_expect from List.mem_of_getElem? (i := 1) rfl)⟩
theorem iX8_token_X8 : ∀ w ∈ wsX80, w ∈ wsX8_token := fun w h => List.mem_cons_of_mem _ (List.mem_append_left _ (List.mem_append_right _ h))
theorem fX8_token_18 : jj_F wsX8_token RX8 18 7 2 := ⟨_, _, _, rfl, by decide, iX8_token_X8, (show Cond.fieldLink RX8 18 (TX8 2).1 (TX8 2).2.1 (TX8 2).2.2.1 ∈ wsX8_token from List.mem_of_getElem? (i := 1) rfl)⟩
theorem fX8_token_9 : jj_F wsX8_token RX8 9 7 0 := ⟨_, _, _, rfl, by decide, iX8_token_X8, (show Cond.fieldLink RX8 9 (TX8 0).1 (TX8 0).2.1 (TX8 0).2.2.1 ∈ wsX8_token from List.mem_of_getElem? (i := 2) rfl)⟩
theorem hdX8_token : yX8_token.cls = RX8 ∧ yX8_token.cls ≠ "java/lang/invoke/MethodHandle" ∧ yX8_token.cls ≠ "java/lang/invoke/VarHandle" ∧ (parseMethodDescriptor yX8_token.desc).map (fun d => d.parameters.length) = some 0 := by decide +kernel
theorem iX8_fail_X8 : ∀ w ∈ wsX80, w ∈ wsX8_fail := fun w h => List.mem_cons_of_mem _ (List.mem_append_left _ (List.mem_append_right _ h))
theorem fX8_fail_22 : jj_F wsX8_fail RX8 22 7 5 := ⟨_, _, _, rfl, by decide, iX8_fail_X8, (show Cond.fieldLink RX8 22 (TX8 5).1 (TX8 5).2.1 (TX8 5).2.2.1 ∈ wsX8_fail from List.mem_of_getElem? (i := 1) rfl)⟩
theorem fX8_fail_18 : jj_F wsX8_fail RX8 18 7 2 := ⟨_, _, _, rfl, by decide, iX8_fail_X8, (show Cond.fieldLink RX8 18 (TX8 2).1 (TX8 2).2.1 (TX8 2).2.2.1 ∈ wsX8_fail from List.mem_of_getElem? (i := 2) rfl)⟩
theorem fX8_fail_9 : jj_F wsX8_fail RX8 9 7 0 := ⟨_, _, _, rfl, by decide, iX8_fail_X8, (show Cond.fieldLink RX8 9 (TX8 0).1 (TX8 0).2.1 (TX8 0).2.2.1 ∈ wsX8_fail from List.mem_of_getElem? (i := 3) rfl)⟩
theorem qX8_fail_22 : jj_P wsX8_fail RX8 22 7 5 (.int) := ⟨_, _, _, tyX8, rfl, by decide, iX8_fail_X8, (show Cond.fieldLink RX8 22 (TX8 5).1 (TX8 5).2.1 (TX8 5).2.2.1 ∈ wsX8_fail from List.mem_of_getElem? (i := 1) rfl), tyX8_ok, nmX8, rfl, by decide +kernel⟩
theorem fX8_fail_15 : jj_F wsX8_fail RX8 15 7 1 := ⟨_, _, _, rfl, by decide, iX8_fail_X8, (show Cond.fieldLink RX8 15 (TX8 1).1 (TX8 1).2.1 (TX8 1).2.2.1 ∈ wsX8_fail from List.mem_of_getElem? (i := 4) rfl)⟩
theorem qX8_fail_25 : jj_P wsX8_fail RX8 25 7 6 (.int) := ⟨_, _, _, tyX8, rfl, by decide, iX8_fail_X8, (show Cond.fieldLink RX8 25 (TX8 6).1 (TX8 6).2.1 (TX8 6).2.2.1 ∈ wsX8_fail from List.mem_of_getElem? (i := 5) rfl), tyX8_ok, nmX8, rfl, by decide +kernel⟩
theorem hdX8_fail : yX8_fail.cls = RX8 ∧ yX8_fail.cls ≠ "java/lang/invoke/MethodHandle" ∧ yX8_fail.cls ≠ "java/lang/invoke/VarHandle" ∧ (parseMethodDescriptor yX8_fail.desc).map (fun d => d.parameters.length) = some 1 := by decide +kernel
theorem fX8_expect_18 : jj_F wsX8_expect RX8 18 7 2 := ⟨_, _, _, rfl, by decide, iX8_expect_X8, (show Cond.fieldLink RX8 18 (TX8 2).1 (TX8 2).2.1 (TX8 2).2.2.1 ∈ wsX8_expect from List.mem_of_getElem? (i := 2) rfl)⟩
theorem qX8_expect_18 : jj_P wsX8_expect RX8 18 7 2 (.int) := ⟨_, _, _, tyX8, rfl, by decide, iX8_expect_X8, (show Cond.fieldLink RX8 18 (TX8 2).1 (TX8 2).2.1 (TX8 2).2.2.1 ∈ wsX8_expect from List.mem_of_getElem? (i := 2) rfl), tyX8_ok, nmX8, rfl, by decide +kernel⟩
theorem hdX8_expect : yX8_expect.cls = RX8 ∧ yX8_expect.cls ≠ "java/lang/invoke/MethodHandle" ∧ yX8_expect.cls ≠ "java/lang/invoke/VarHandle" ∧ (parseMethodDescriptor yX8_expect.desc).map (fun d => d.parameters.length) = some 1 := by decide +kernel
theorem iX8_endLine_X8 : ∀ w ∈ wsX80, w ∈ wsX8_endLine := fun w h => List.mem_cons_of_mem _ (List.mem_append_left _ (List.mem_append_left _ (List.mem_append_right _ h)))
theorem fX8_endLine_28 : jj_F wsX8_endLine RX8 28 7 3 := ⟨_, _, _, rfl, by decide, iX8_endLine_X8, (show Cond.fieldLink RX8 28 (TX8 3).1 (TX8 3).2.1 (TX8 3).2.2.1 ∈ wsX8_endLine from List.mem_of_getElem? (i := 1) rfl)⟩
theorem iX8_endLine_X7 : ∀ w ∈ wsX70, w ∈ wsX8_endLine := fun w h => List.mem_cons_of_mem _ (List.mem_append_left _ (List.mem_append_right _ h))
theorem fX8_endLine_84 : jj_F wsX8_endLine RX8 84 6 1 := ⟨_, _, _, rfl, by decide, iX8_endLine_X7, (show Cond.fieldLink RX8 84 (TX7 1).1 (TX7 1).2.1 (TX7 1).2.2.1 ∈ wsX8_endLine from List.mem_of_getElem? (i := 2) rfl)⟩
theorem qX8_endLine_84 : jj_P wsX8_endLine RX8 84 6 1 (.int) := ⟨_, _, _, tyX7, rfl, by decide, iX8_endLine_X7, (show Cond.fieldLink RX8 84 (TX7 1).1 (TX7 1).2.1 (TX7 1).2.2.1 ∈ wsX8_endLine from List.mem_of_getElem? (i := 2) rfl), tyX7_ok, nmX7, rfl, by decide +kernel⟩
theorem hdX8_endLine : yX8_endLine.cls = RX8 ∧ yX8_endLine.cls ≠ "java/lang/invoke/MethodHandle" ∧ yX8_endLine.cls ≠ "java/lang/invoke/VarHandle" ∧ (parseMethodDescriptor yX8_endLine.desc).map (fun d => d.parameters.length) = some 0 := by decide +kernel
theorem fX8_read_22 : jj_F wsX8_read RX8 22 7 5 := ⟨_, _, _, rfl, by decide, iX8_read_X8, (show Cond.fieldLink RX8 22 (TX8 5).1 (TX8 5).2.1 (TX8 5).2.2.1 ∈ wsX8_read from List.mem_of_getElem? (i := 4) rfl)⟩
theorem iX8_kindLine_X8 : ∀ w ∈ wsX80, w ∈ wsX8_kindLine := fun w h => List.mem_cons_of_mem _ (List.mem_append_left _ (List.mem_append_left _ (List.mem_append_right _ h)))
theorem fX8_kindLine_32 : jj_F wsX8_kindLine RX8 32 7 4 := ⟨_, _, _, rfl, by decide, iX8_kindLine_X8, (show Cond.fieldLink RX8 32 (TX8 4).1 (TX8 4).2.1 (TX8 4).2.2.1 ∈ wsX8_kindLine from List.mem_of_getElem? (i := 1) rfl)⟩
theorem iX8_kindLine_X9 : ∀ w ∈ wsX90, w ∈ wsX8_kindLine := fun w h => List.mem_cons_of_mem _ (List.mem_append_left _ (List.mem_append_right _ h))
theorem fX8_kindLine_114 : jj_F wsX8_kindLine RX8 114 8 0 := ⟨_, _, _, rfl, by decide, iX8_kindLine_X9, (show Cond.fieldLink RX8 114 (TX9 0).1 (TX9 0).2.1 (TX9 0).2.2.1 ∈ wsX8_kindLine from List.mem_of_getElem? (i := 2) rfl)⟩
theorem fX8_kindLine_18 : jj_F wsX8_kindLine RX8 18 7 2 := ⟨_, _, _, rfl, by decide, iX8_kindLine_X8, (show Cond.fieldLink RX8 18 (TX8 2).1 (TX8 2).2.1 (TX8 2).2.2.1 ∈ wsX8_kindLine from List.mem_of_getElem? (i := 3) rfl)⟩
theorem qX8_kindLine_18 : jj_P wsX8_kindLine RX8 18 7 2 (.int) := ⟨_, _, _, tyX8, rfl, by decide, iX8_kindLine_X8, (show Cond.fieldLink RX8 18 (TX8 2).1 (TX8 2).2.1 (TX8 2).2.2.1 ∈ wsX8_kindLine from List.mem_of_getElem? (i := 3) rfl), tyX8_ok, nmX8, rfl, by decide +kernel⟩
theorem fX8_kindLine_117 : jj_F wsX8_kindLine RX8 117 8 1 := ⟨_, _, _, rfl, by decide, iX8_kindLine_X9, (show Cond.fieldLink RX8 117 (TX9 1).1 (TX9 1).2.1 (TX9 1).2.2.1 ∈ wsX8_kindLine from List.mem_of_getElem? (i := 4) rfl)⟩
theorem ft_8_1 : (mm_ft 8)[1]? = some 2 := rfl
theorem sm_8_1 : s_m 8 1 = 0 := rfl
theorem st_8_1 : s_t 8 1 = 25 := rfl
theorem iX8_numberWithin_X8 : ∀ w ∈ wsX80, w ∈ wsX8_numberWithin := fun w h => List.mem_cons_of_mem _ (List.mem_append_left _ (List.mem_append_right _ h))
theorem fX8_numberWithin_22 : jj_F wsX8_numberWithin RX8 22 7 5 := ⟨_, _, _, rfl, by decide, iX8_numberWithin_X8, (show Cond.fieldLink RX8 22 (TX8 5).1 (TX8 5).2.1 (TX8 5).2.2.1 ∈ wsX8_numberWithin from List.mem_of_getElem? (i := 1) rfl)⟩
theorem fX8_numberWithin_18 : jj_F wsX8_numberWithin RX8 18 7 2 := ⟨_, _, _, rfl, by decide, iX8_numberWithin_X8, (show Cond.fieldLink RX8 18 (TX8 2).1 (TX8 2).2.1 (TX8 2).2.2.1 ∈ wsX8_numberWithin from List.mem_of_getElem? (i := 2) rfl)⟩
theorem qX8_numberWithin_18 : jj_P wsX8_numberWithin RX8 18 7 2 (.int) := ⟨_, _, _, tyX8, rfl, by decide, iX8_numberWithin_X8, (show Cond.fieldLink RX8 18 (TX8 2).1 (TX8 2).2.1 (TX8 2).2.2.1 ∈ wsX8_numberWithin from List.mem_of_getElem? (i := 2) rfl), tyX8_ok, nmX8, rfl, by decide +kernel⟩
theorem hdX8_numberWithin : yX8_numberWithin.cls = RX8 ∧ yX8_numberWithin.cls ≠ "java/lang/invoke/MethodHandle" ∧ yX8_numberWithin.cls ≠ "java/lang/invoke/VarHandle" ∧ (parseMethodDescriptor yX8_numberWithin.desc).map (fun d => d.parameters.length) = some 2 := by decide +kernel
theorem ak_25 : s_ak 25 = 100 := rfl
theorem an_25 : s_an 25 = 8 := rfl
theorem sb_25 (k : Nat) : s_b 25 k = ((-2147483648), 2147483647) := rfl
theorem fX8_kindLine_123 : jj_F wsX8_kindLine RX8 123 8 2 := ⟨_, _, _, rfl, by decide, iX8_kindLine_X9, (show Cond.fieldLink RX8 123 (TX9 2).1 (TX9 2).2.1 (TX9 2).2.2.1 ∈ wsX8_kindLine from List.mem_of_getElem? (i := 5) rfl)⟩
theorem ft_8_2 : (mm_ft 8)[2]? = some 2 := rfl
theorem sm_8_2 : s_m 8 2 = 0 := rfl
theorem st_8_2 : s_t 8 2 = 26 := rfl
theorem ak_26 : s_ak 26 = 100 := rfl
theorem an_26 : s_an 26 = 8 := rfl
theorem sb_26 (k : Nat) : s_b 26 k = ((-2147483648), 2147483647) := rfl
theorem qX8_kindLine_114 : jj_P wsX8_kindLine RX8 114 8 0 (.int) := ⟨_, _, _, tyX9, rfl, by decide, iX8_kindLine_X9, (show Cond.fieldLink RX8 114 (TX9 0).1 (TX9 0).2.1 (TX9 0).2.2.1 ∈ wsX8_kindLine from List.mem_of_getElem? (i := 2) rfl), tyX9_ok, nmX9, rfl, by decide +kernel⟩
theorem fX8_kindLine_22 : jj_F wsX8_kindLine RX8 22 7 5 := ⟨_, _, _, rfl, by decide, iX8_kindLine_X8, (show Cond.fieldLink RX8 22 (TX8 5).1 (TX8 5).2.1 (TX8 5).2.2.1 ∈ wsX8_kindLine from List.mem_of_getElem? (i := 6) rfl)⟩
theorem iX8_takeFlag_X8 : ∀ w ∈ wsX80, w ∈ wsX8_takeFlag := fun w h => List.mem_cons_of_mem _ (List.mem_append_left _ (List.mem_append_left _ (List.mem_append_right _ h)))
theorem fX8_takeFlag_18 : jj_F wsX8_takeFlag RX8 18 7 2 := ⟨_, _, _, rfl, by decide, iX8_takeFlag_X8, (show Cond.fieldLink RX8 18 (TX8 2).1 (TX8 2).2.1 (TX8 2).2.2.1 ∈ wsX8_takeFlag from List.mem_of_getElem? (i := 1) rfl)⟩
theorem qX8_takeFlag_18 : jj_P wsX8_takeFlag RX8 18 7 2 (.int) := ⟨_, _, _, tyX8, rfl, by decide, iX8_takeFlag_X8, (show Cond.fieldLink RX8 18 (TX8 2).1 (TX8 2).2.1 (TX8 2).2.2.1 ∈ wsX8_takeFlag from List.mem_of_getElem? (i := 1) rfl), tyX8_ok, nmX8, rfl, by decide +kernel⟩
theorem fX8_takeFlag_32 : jj_F wsX8_takeFlag RX8 32 7 4 := ⟨_, _, _, rfl, by decide, iX8_takeFlag_X8, (show Cond.fieldLink RX8 32 (TX8 4).1 (TX8 4).2.1 (TX8 4).2.2.1 ∈ wsX8_takeFlag from List.mem_of_getElem? (i := 2) rfl)⟩
theorem iX8_takeFlag_X9 : ∀ w ∈ wsX90, w ∈ wsX8_takeFlag := fun w h => List.mem_cons_of_mem _ (List.mem_append_left _ (List.mem_append_right _ h))
theorem fX8_takeFlag_123 : jj_F wsX8_takeFlag RX8 123 8 2 := ⟨_, _, _, rfl, by decide, iX8_takeFlag_X9, (show Cond.fieldLink RX8 123 (TX9 2).1 (TX9 2).2.1 (TX9 2).2.2.1 ∈ wsX8_takeFlag from List.mem_of_getElem? (i := 3) rfl)⟩
theorem fX8_takeFlag_129 : jj_F wsX8_takeFlag RX8 129 8 3 := ⟨_, _, _, rfl, by decide, iX8_takeFlag_X9, (show Cond.fieldLink RX8 129 (TX9 3).1 (TX9 3).2.1 (TX9 3).2.2.1 ∈ wsX8_takeFlag from List.mem_of_getElem? (i := 4) rfl)⟩
theorem qX8_takeFlag_129 : jj_P wsX8_takeFlag RX8 129 8 3 (.int) := ⟨_, _, _, tyX9, rfl, by decide, iX8_takeFlag_X9, (show Cond.fieldLink RX8 129 (TX9 3).1 (TX9 3).2.1 (TX9 3).2.2.1 ∈ wsX8_takeFlag from List.mem_of_getElem? (i := 4) rfl), tyX9_ok, nmX9, rfl, by decide +kernel⟩
theorem fX8_takeFlag_132 : jj_F wsX8_takeFlag RX8 132 8 4 := ⟨_, _, _, rfl, by decide, iX8_takeFlag_X9, (show Cond.fieldLink RX8 132 (TX9 4).1 (TX9 4).2.1 (TX9 4).2.2.1 ∈ wsX8_takeFlag from List.mem_of_getElem? (i := 5) rfl)⟩
theorem qX8_takeFlag_132 : jj_P wsX8_takeFlag RX8 132 8 4 (.int) := ⟨_, _, _, tyX9, rfl, by decide, iX8_takeFlag_X9, (show Cond.fieldLink RX8 132 (TX9 4).1 (TX9 4).2.1 (TX9 4).2.2.1 ∈ wsX8_takeFlag from List.mem_of_getElem? (i := 5) rfl), tyX9_ok, nmX9, rfl, by decide +kernel⟩
theorem hdX8_takeFlag : yX8_takeFlag.cls = RX8 ∧ yX8_takeFlag.cls ≠ "java/lang/invoke/MethodHandle" ∧ yX8_takeFlag.cls ≠ "java/lang/invoke/VarHandle" ∧ (parseMethodDescriptor yX8_takeFlag.desc).map (fun d => d.parameters.length) = some 1 := by decide +kernel
theorem hdX8_kindLine : yX8_kindLine.cls = RX8 ∧ yX8_kindLine.cls ≠ "java/lang/invoke/MethodHandle" ∧ yX8_kindLine.cls ≠ "java/lang/invoke/VarHandle" ∧ (parseMethodDescriptor yX8_kindLine.desc).map (fun d => d.parameters.length) = some 0 := by decide +kernel
theorem iX8_buyerLine_X8 : ∀ w ∈ wsX80, w ∈ wsX8_buyerLine := fun w h => List.mem_cons_of_mem _ (List.mem_append_left _ (List.mem_append_left _ (List.mem_append_right _ h)))
theorem fX8_buyerLine_28 : jj_F wsX8_buyerLine RX8 28 7 3 := ⟨_, _, _, rfl, by decide, iX8_buyerLine_X8, (show Cond.fieldLink RX8 28 (TX8 3).1 (TX8 3).2.1 (TX8 3).2.2.1 ∈ wsX8_buyerLine from List.mem_of_getElem? (i := 1) rfl)⟩
theorem iX8_buyerLine_X7 : ∀ w ∈ wsX70, w ∈ wsX8_buyerLine := fun w h => List.mem_cons_of_mem _ (List.mem_append_left _ (List.mem_append_right _ h))
theorem fX8_buyerLine_135 : jj_F wsX8_buyerLine RX8 135 6 0 := ⟨_, _, _, rfl, by decide, iX8_buyerLine_X7, (show Cond.fieldLink RX8 135 (TX7 0).1 (TX7 0).2.1 (TX7 0).2.2.1 ∈ wsX8_buyerLine from List.mem_of_getElem? (i := 2) rfl)⟩
theorem fX8_buyerLine_18 : jj_F wsX8_buyerLine RX8 18 7 2 := ⟨_, _, _, rfl, by decide, iX8_buyerLine_X8, (show Cond.fieldLink RX8 18 (TX8 2).1 (TX8 2).2.1 (TX8 2).2.2.1 ∈ wsX8_buyerLine from List.mem_of_getElem? (i := 3) rfl)⟩
theorem qX8_buyerLine_18 : jj_P wsX8_buyerLine RX8 18 7 2 (.int) := ⟨_, _, _, tyX8, rfl, by decide, iX8_buyerLine_X8, (show Cond.fieldLink RX8 18 (TX8 2).1 (TX8 2).2.1 (TX8 2).2.2.1 ∈ wsX8_buyerLine from List.mem_of_getElem? (i := 3) rfl), tyX8_ok, nmX8, rfl, by decide +kernel⟩
theorem fX8_buyerLine_138 : jj_F wsX8_buyerLine RX8 138 6 2 := ⟨_, _, _, rfl, by decide, iX8_buyerLine_X7, (show Cond.fieldLink RX8 138 (TX7 2).1 (TX7 2).2.1 (TX7 2).2.2.1 ∈ wsX8_buyerLine from List.mem_of_getElem? (i := 4) rfl)⟩
theorem ft_6_2 : (mm_ft 6)[2]? = some 2 := rfl
theorem sm_6_2 : s_m 6 2 = 0 := rfl
theorem st_6_2 : s_t 6 2 = 21 := rfl
theorem ak_21 : s_ak 21 = 100 := rfl
theorem an_21 : s_an 21 = 6 := rfl
theorem sb_21 (k : Nat) : s_b 21 k = ((-2147483648), 2147483647) := rfl
theorem fX8_buyerLine_141 : jj_F wsX8_buyerLine RX8 141 6 3 := ⟨_, _, _, rfl, by decide, iX8_buyerLine_X7, (show Cond.fieldLink RX8 141 (TX7 3).1 (TX7 3).2.1 (TX7 3).2.2.1 ∈ wsX8_buyerLine from List.mem_of_getElem? (i := 5) rfl)⟩
theorem ft_6_3 : (mm_ft 6)[3]? = some 2 := rfl
theorem sm_6_3 : s_m 6 3 = 0 := rfl
theorem st_6_3 : s_t 6 3 = 22 := rfl
theorem ak_22 : s_ak 22 = 100 := rfl
theorem an_22 : s_an 22 = 6 := rfl
theorem sb_22 (k : Nat) : s_b 22 k = ((-2147483648), 2147483647) := rfl
theorem fX8_buyerLine_144 : jj_F wsX8_buyerLine RX8 144 6 4 := ⟨_, _, _, rfl, by decide, iX8_buyerLine_X7, (show Cond.fieldLink RX8 144 (TX7 4).1 (TX7 4).2.1 (TX7 4).2.2.1 ∈ wsX8_buyerLine from List.mem_of_getElem? (i := 6) rfl)⟩
theorem ft_6_4 : (mm_ft 6)[4]? = some 2 := rfl
theorem sm_6_4 : s_m 6 4 = 0 := rfl
theorem st_6_4 : s_t 6 4 = 23 := rfl
theorem ak_23 : s_ak 23 = 100 := rfl
theorem an_23 : s_an 23 = 6 := rfl
theorem sb_23 (k : Nat) : s_b 23 k = ((-2147483648), 2147483647) := rfl
theorem qX8_buyerLine_135 : jj_P wsX8_buyerLine RX8 135 6 0 (.int) := ⟨_, _, _, tyX7, rfl, by decide, iX8_buyerLine_X7, (show Cond.fieldLink RX8 135 (TX7 0).1 (TX7 0).2.1 (TX7 0).2.2.1 ∈ wsX8_buyerLine from List.mem_of_getElem? (i := 2) rfl), tyX7_ok, nmX7, rfl, by decide +kernel⟩
theorem fX8_buyerLine_22 : jj_F wsX8_buyerLine RX8 22 7 5 := ⟨_, _, _, rfl, by decide, iX8_buyerLine_X8, (show Cond.fieldLink RX8 22 (TX8 5).1 (TX8 5).2.1 (TX8 5).2.2.1 ∈ wsX8_buyerLine from List.mem_of_getElem? (i := 7) rfl)⟩
theorem iX8_takeMark_X8 : ∀ w ∈ wsX80, w ∈ wsX8_takeMark := fun w h => List.mem_cons_of_mem _ (List.mem_append_left _ (List.mem_append_left _ (List.mem_append_right _ h)))
theorem fX8_takeMark_18 : jj_F wsX8_takeMark RX8 18 7 2 := ⟨_, _, _, rfl, by decide, iX8_takeMark_X8, (show Cond.fieldLink RX8 18 (TX8 2).1 (TX8 2).2.1 (TX8 2).2.2.1 ∈ wsX8_takeMark from List.mem_of_getElem? (i := 1) rfl)⟩
theorem qX8_takeMark_18 : jj_P wsX8_takeMark RX8 18 7 2 (.int) := ⟨_, _, _, tyX8, rfl, by decide, iX8_takeMark_X8, (show Cond.fieldLink RX8 18 (TX8 2).1 (TX8 2).2.1 (TX8 2).2.2.1 ∈ wsX8_takeMark from List.mem_of_getElem? (i := 1) rfl), tyX8_ok, nmX8, rfl, by decide +kernel⟩
theorem fX8_takeMark_28 : jj_F wsX8_takeMark RX8 28 7 3 := ⟨_, _, _, rfl, by decide, iX8_takeMark_X8, (show Cond.fieldLink RX8 28 (TX8 3).1 (TX8 3).2.1 (TX8 3).2.2.1 ∈ wsX8_takeMark from List.mem_of_getElem? (i := 2) rfl)⟩
theorem iX8_takeMark_X7 : ∀ w ∈ wsX70, w ∈ wsX8_takeMark := fun w h => List.mem_cons_of_mem _ (List.mem_append_left _ (List.mem_append_right _ h))
theorem fX8_takeMark_141 : jj_F wsX8_takeMark RX8 141 6 3 := ⟨_, _, _, rfl, by decide, iX8_takeMark_X7, (show Cond.fieldLink RX8 141 (TX7 3).1 (TX7 3).2.1 (TX7 3).2.2.1 ∈ wsX8_takeMark from List.mem_of_getElem? (i := 3) rfl)⟩
theorem fX8_takeMark_144 : jj_F wsX8_takeMark RX8 144 6 4 := ⟨_, _, _, rfl, by decide, iX8_takeMark_X7, (show Cond.fieldLink RX8 144 (TX7 4).1 (TX7 4).2.1 (TX7 4).2.2.1 ∈ wsX8_takeMark from List.mem_of_getElem? (i := 4) rfl)⟩
theorem hdX8_takeMark : yX8_takeMark.cls = RX8 ∧ yX8_takeMark.cls ≠ "java/lang/invoke/MethodHandle" ∧ yX8_takeMark.cls ≠ "java/lang/invoke/VarHandle" ∧ (parseMethodDescriptor yX8_takeMark.desc).map (fun d => d.parameters.length) = some 1 := by decide +kernel
theorem hdX8_buyerLine : yX8_buyerLine.cls = RX8 ∧ yX8_buyerLine.cls ≠ "java/lang/invoke/MethodHandle" ∧ yX8_buyerLine.cls ≠ "java/lang/invoke/VarHandle" ∧ (parseMethodDescriptor yX8_buyerLine.desc).map (fun d => d.parameters.length) = some 0 := by decide +kernel
theorem iX8_line_X8 : ∀ w ∈ wsX80, w ∈ wsX8_line := fun w h => List.mem_cons_of_mem _ (List.mem_append_left _ (List.mem_append_left _ (List.mem_append_left _ (List.mem_append_right _ h))))
theorem fX8_line_18 : jj_F wsX8_line RX8 18 7 2 := ⟨_, _, _, rfl, by decide, iX8_line_X8, (show Cond.fieldLink RX8 18 (TX8 2).1 (TX8 2).2.1 (TX8 2).2.2.1 ∈ wsX8_line from List.mem_of_getElem? (i := 1) rfl)⟩
theorem qX8_line_18 : jj_P wsX8_line RX8 18 7 2 (.int) := ⟨_, _, _, tyX8, rfl, by decide, iX8_line_X8, (show Cond.fieldLink RX8 18 (TX8 2).1 (TX8 2).2.1 (TX8 2).2.2.1 ∈ wsX8_line from List.mem_of_getElem? (i := 1) rfl), tyX8_ok, nmX8, rfl, by decide +kernel⟩
theorem fX8_line_28 : jj_F wsX8_line RX8 28 7 3 := ⟨_, _, _, rfl, by decide, iX8_line_X8, (show Cond.fieldLink RX8 28 (TX8 3).1 (TX8 3).2.1 (TX8 3).2.2.1 ∈ wsX8_line from List.mem_of_getElem? (i := 2) rfl)⟩
theorem iX8_line_X7 : ∀ w ∈ wsX70, w ∈ wsX8_line := fun w h => List.mem_cons_of_mem _ (List.mem_append_left _ (List.mem_append_left _ (List.mem_append_right _ h)))
theorem fX8_line_93 : jj_F wsX8_line RX8 93 6 6 := ⟨_, _, _, rfl, by decide, iX8_line_X7, (show Cond.fieldLink RX8 93 (TX7 6).1 (TX7 6).2.1 (TX7 6).2.2.1 ∈ wsX8_line from List.mem_of_getElem? (i := 3) rfl)⟩
theorem qX8_line_96 : jj_P wsX8_line RX8 96 6 7 (.int) := ⟨_, _, _, tyX7, rfl, by decide, iX8_line_X7, (show Cond.fieldLink RX8 96 (TX7 7).1 (TX7 7).2.1 (TX7 7).2.2.1 ∈ wsX8_line from List.mem_of_getElem? (i := 4) rfl), tyX7_ok, nmX7, rfl, by decide +kernel⟩
theorem iX8_atom_X8 : ∀ w ∈ wsX80, w ∈ wsX8_atom := fun w h => List.mem_cons_of_mem _ (List.mem_append_left _ (List.mem_append_left _ (List.mem_append_right _ h)))
theorem fX8_atom_22 : jj_F wsX8_atom RX8 22 7 5 := ⟨_, _, _, rfl, by decide, iX8_atom_X8, (show Cond.fieldLink RX8 22 (TX8 5).1 (TX8 5).2.1 (TX8 5).2.2.1 ∈ wsX8_atom from List.mem_of_getElem? (i := 1) rfl)⟩
theorem iX8_goDeeper_X8 : ∀ w ∈ wsX80, w ∈ wsX8_goDeeper := fun w h => List.mem_cons_of_mem _ (List.mem_append_left _ (List.mem_append_right _ h))
theorem fX8_goDeeper_18 : jj_F wsX8_goDeeper RX8 18 7 2 := ⟨_, _, _, rfl, by decide, iX8_goDeeper_X8, (show Cond.fieldLink RX8 18 (TX8 2).1 (TX8 2).2.1 (TX8 2).2.2.1 ∈ wsX8_goDeeper from List.mem_of_getElem? (i := 1) rfl)⟩
theorem qX8_goDeeper_18 : jj_P wsX8_goDeeper RX8 18 7 2 (.int) := ⟨_, _, _, tyX8, rfl, by decide, iX8_goDeeper_X8, (show Cond.fieldLink RX8 18 (TX8 2).1 (TX8 2).2.1 (TX8 2).2.2.1 ∈ wsX8_goDeeper from List.mem_of_getElem? (i := 1) rfl), tyX8_ok, nmX8, rfl, by decide +kernel⟩
theorem hdX8_goDeeper : yX8_goDeeper.cls = RX8 ∧ yX8_goDeeper.cls ≠ "java/lang/invoke/MethodHandle" ∧ yX8_goDeeper.cls ≠ "java/lang/invoke/VarHandle" ∧ (parseMethodDescriptor yX8_goDeeper.desc).map (fun d => d.parameters.length) = some 1 := by decide +kernel
theorem hdX8_atom : yX8_atom.cls = RX8 ∧ yX8_atom.cls ≠ "java/lang/invoke/MethodHandle" ∧ yX8_atom.cls ≠ "java/lang/invoke/VarHandle" ∧ (parseMethodDescriptor yX8_atom.desc).map (fun d => d.parameters.length) = some 1 := by decide +kernel
theorem iX8_term_X8 : ∀ w ∈ wsX80, w ∈ wsX8_term := fun w h => List.mem_cons_of_mem _ (List.mem_append_left _ (List.mem_append_left _ (List.mem_append_right _ h)))
theorem fX8_term_22 : jj_F wsX8_term RX8 22 7 5 := ⟨_, _, _, rfl, by decide, iX8_term_X8, (show Cond.fieldLink RX8 22 (TX8 5).1 (TX8 5).2.1 (TX8 5).2.2.1 ∈ wsX8_term from List.mem_of_getElem? (i := 1) rfl)⟩
theorem fX8_term_18 : jj_F wsX8_term RX8 18 7 2 := ⟨_, _, _, rfl, by decide, iX8_term_X8, (show Cond.fieldLink RX8 18 (TX8 2).1 (TX8 2).2.1 (TX8 2).2.2.1 ∈ wsX8_term from List.mem_of_getElem? (i := 2) rfl)⟩
theorem qX8_term_18 : jj_P wsX8_term RX8 18 7 2 (.int) := ⟨_, _, _, tyX8, rfl, by decide, iX8_term_X8, (show Cond.fieldLink RX8 18 (TX8 2).1 (TX8 2).2.1 (TX8 2).2.2.1 ∈ wsX8_term from List.mem_of_getElem? (i := 2) rfl), tyX8_ok, nmX8, rfl, by decide +kernel⟩
theorem iX8_emit_X8 : ∀ w ∈ wsX80, w ∈ wsX8_emit := fun w h => List.mem_cons_of_mem _ (List.mem_append_left _ (List.mem_append_left _ (List.mem_append_right _ h)))
theorem fX8_emit_22 : jj_F wsX8_emit RX8 22 7 5 := ⟨_, _, _, rfl, by decide, iX8_emit_X8, (show Cond.fieldLink RX8 22 (TX8 5).1 (TX8 5).2.1 (TX8 5).2.2.1 ∈ wsX8_emit from List.mem_of_getElem? (i := 1) rfl)⟩
theorem fX8_emit_28 : jj_F wsX8_emit RX8 28 7 3 := ⟨_, _, _, rfl, by decide, iX8_emit_X8, (show Cond.fieldLink RX8 28 (TX8 3).1 (TX8 3).2.1 (TX8 3).2.2.1 ∈ wsX8_emit from List.mem_of_getElem? (i := 2) rfl)⟩
theorem iX8_emit_X7 : ∀ w ∈ wsX70, w ∈ wsX8_emit := fun w h => List.mem_cons_of_mem _ (List.mem_append_left _ (List.mem_append_right _ h))
theorem fX8_emit_93 : jj_F wsX8_emit RX8 93 6 6 := ⟨_, _, _, rfl, by decide, iX8_emit_X7, (show Cond.fieldLink RX8 93 (TX7 6).1 (TX7 6).2.1 (TX7 6).2.2.1 ∈ wsX8_emit from List.mem_of_getElem? (i := 3) rfl)⟩
theorem fX8_emit_150 : jj_F wsX8_emit RX8 150 6 5 := ⟨_, _, _, rfl, by decide, iX8_emit_X7, (show Cond.fieldLink RX8 150 (TX7 5).1 (TX7 5).2.1 (TX7 5).2.2.1 ∈ wsX8_emit from List.mem_of_getElem? (i := 4) rfl)⟩
theorem ft_6_5 : (mm_ft 6)[5]? = some 2 := rfl
theorem sm_6_5 : s_m 6 5 = 0 := rfl
theorem st_6_5 : s_t 6 5 = 24 := rfl
theorem an_24 : s_an 24 = 900 := rfl
theorem ak_24 : s_ak 24 = 100 := rfl
theorem sb_24 (k : Nat) : s_b 24 k = ((-2147483648), 2147483647) := rfl
theorem qX8_emit_93 : jj_P wsX8_emit RX8 93 6 6 (.int) := ⟨_, _, _, tyX7, rfl, by decide, iX8_emit_X7, (show Cond.fieldLink RX8 93 (TX7 6).1 (TX7 6).2.1 (TX7 6).2.2.1 ∈ wsX8_emit from List.mem_of_getElem? (i := 3) rfl), tyX7_ok, nmX7, rfl, by decide +kernel⟩
theorem hdX8_emit : yX8_emit.cls = RX8 ∧ yX8_emit.cls ≠ "java/lang/invoke/MethodHandle" ∧ yX8_emit.cls ≠ "java/lang/invoke/VarHandle" ∧ (parseMethodDescriptor yX8_emit.desc).map (fun d => d.parameters.length) = some 1 := by decide +kernel
theorem hdX8_term : yX8_term.cls = RX8 ∧ yX8_term.cls ≠ "java/lang/invoke/MethodHandle" ∧ yX8_term.cls ≠ "java/lang/invoke/VarHandle" ∧ (parseMethodDescriptor yX8_term.desc).map (fun d => d.parameters.length) = some 1 := by decide +kernel
theorem iX8_sum_X8 : ∀ w ∈ wsX80, w ∈ wsX8_sum := fun w h => List.mem_cons_of_mem _ (List.mem_append_left _ (List.mem_append_left _ (List.mem_append_right _ h)))
theorem fX8_sum_22 : jj_F wsX8_sum RX8 22 7 5 := ⟨_, _, _, rfl, by decide, iX8_sum_X8, (show Cond.fieldLink RX8 22 (TX8 5).1 (TX8 5).2.1 (TX8 5).2.2.1 ∈ wsX8_sum from List.mem_of_getElem? (i := 1) rfl)⟩
theorem fX8_sum_18 : jj_F wsX8_sum RX8 18 7 2 := ⟨_, _, _, rfl, by decide, iX8_sum_X8, (show Cond.fieldLink RX8 18 (TX8 2).1 (TX8 2).2.1 (TX8 2).2.2.1 ∈ wsX8_sum from List.mem_of_getElem? (i := 2) rfl)⟩
theorem qX8_sum_18 : jj_P wsX8_sum RX8 18 7 2 (.int) := ⟨_, _, _, tyX8, rfl, by decide, iX8_sum_X8, (show Cond.fieldLink RX8 18 (TX8 2).1 (TX8 2).2.1 (TX8 2).2.2.1 ∈ wsX8_sum from List.mem_of_getElem? (i := 2) rfl), tyX8_ok, nmX8, rfl, by decide +kernel⟩
theorem hdX8_sum : yX8_sum.cls = RX8 ∧ yX8_sum.cls ≠ "java/lang/invoke/MethodHandle" ∧ yX8_sum.cls ≠ "java/lang/invoke/VarHandle" ∧ (parseMethodDescriptor yX8_sum.desc).map (fun d => d.parameters.length) = some 1 := by decide +kernel
theorem fX8_atom_18 : jj_F wsX8_atom RX8 18 7 2 := ⟨_, _, _, rfl, by decide, iX8_atom_X8, (show Cond.fieldLink RX8 18 (TX8 2).1 (TX8 2).2.1 (TX8 2).2.2.1 ∈ wsX8_atom from List.mem_of_getElem? (i := 2) rfl)⟩
theorem qX8_atom_18 : jj_P wsX8_atom RX8 18 7 2 (.int) := ⟨_, _, _, tyX8, rfl, by decide, iX8_atom_X8, (show Cond.fieldLink RX8 18 (TX8 2).1 (TX8 2).2.1 (TX8 2).2.2.1 ∈ wsX8_atom from List.mem_of_getElem? (i := 2) rfl), tyX8_ok, nmX8, rfl, by decide +kernel⟩
theorem qX8_line_102 : jj_P wsX8_line RX8 102 6 8 (.int) := ⟨_, _, _, tyX7, rfl, by decide, iX8_line_X7, (show Cond.fieldLink RX8 102 (TX7 8).1 (TX7 8).2.1 (TX7 8).2.2.1 ∈ wsX8_line from List.mem_of_getElem? (i := 5) rfl), tyX7_ok, nmX7, rfl, by decide +kernel⟩
theorem qX8_line_105 : jj_P wsX8_line RX8 105 6 9 (.int) := ⟨_, _, _, tyX7, rfl, by decide, iX8_line_X7, (show Cond.fieldLink RX8 105 (TX7 9).1 (TX7 9).2.1 (TX7 9).2.2.1 ∈ wsX8_line from List.mem_of_getElem? (i := 6) rfl), tyX7_ok, nmX7, rfl, by decide +kernel⟩
theorem iX8_unit_X8 : ∀ w ∈ wsX80, w ∈ wsX8_unit := fun w h => List.mem_cons_of_mem _ (List.mem_append_left _ (List.mem_append_left _ (List.mem_append_right _ h)))
theorem fX8_unit_22 : jj_F wsX8_unit RX8 22 7 5 := ⟨_, _, _, rfl, by decide, iX8_unit_X8, (show Cond.fieldLink RX8 22 (TX8 5).1 (TX8 5).2.1 (TX8 5).2.2.1 ∈ wsX8_unit from List.mem_of_getElem? (i := 1) rfl)⟩
theorem fX8_unit_18 : jj_F wsX8_unit RX8 18 7 2 := ⟨_, _, _, rfl, by decide, iX8_unit_X8, (show Cond.fieldLink RX8 18 (TX8 2).1 (TX8 2).2.1 (TX8 2).2.2.1 ∈ wsX8_unit from List.mem_of_getElem? (i := 2) rfl)⟩
theorem qX8_unit_18 : jj_P wsX8_unit RX8 18 7 2 (.int) := ⟨_, _, _, tyX8, rfl, by decide, iX8_unit_X8, (show Cond.fieldLink RX8 18 (TX8 2).1 (TX8 2).2.1 (TX8 2).2.2.1 ∈ wsX8_unit from List.mem_of_getElem? (i := 2) rfl), tyX8_ok, nmX8, rfl, by decide +kernel⟩
theorem hdX8_unit : yX8_unit.cls = RX8 ∧ yX8_unit.cls ≠ "java/lang/invoke/MethodHandle" ∧ yX8_unit.cls ≠ "java/lang/invoke/VarHandle" ∧ (parseMethodDescriptor yX8_unit.desc).map (fun d => d.parameters.length) = some 1 := by decide +kernel
theorem iX8_both_X8 : ∀ w ∈ wsX80, w ∈ wsX8_both := fun w h => List.mem_cons_of_mem _ (List.mem_append_left _ (List.mem_append_left _ (List.mem_append_right _ h)))
theorem fX8_both_22 : jj_F wsX8_both RX8 22 7 5 := ⟨_, _, _, rfl, by decide, iX8_both_X8, (show Cond.fieldLink RX8 22 (TX8 5).1 (TX8 5).2.1 (TX8 5).2.2.1 ∈ wsX8_both from List.mem_of_getElem? (i := 1) rfl)⟩
theorem fX8_both_18 : jj_F wsX8_both RX8 18 7 2 := ⟨_, _, _, rfl, by decide, iX8_both_X8, (show Cond.fieldLink RX8 18 (TX8 2).1 (TX8 2).2.1 (TX8 2).2.2.1 ∈ wsX8_both from List.mem_of_getElem? (i := 2) rfl)⟩
theorem qX8_both_18 : jj_P wsX8_both RX8 18 7 2 (.int) := ⟨_, _, _, tyX8, rfl, by decide, iX8_both_X8, (show Cond.fieldLink RX8 18 (TX8 2).1 (TX8 2).2.1 (TX8 2).2.2.1 ∈ wsX8_both from List.mem_of_getElem? (i := 2) rfl), tyX8_ok, nmX8, rfl, by decide +kernel⟩
theorem hdX8_both : yX8_both.cls = RX8 ∧ yX8_both.cls ≠ "java/lang/invoke/MethodHandle" ∧ yX8_both.cls ≠ "java/lang/invoke/VarHandle" ∧ (parseMethodDescriptor yX8_both.desc).map (fun d => d.parameters.length) = some 1 := by decide +kernel
theorem iX8_truth_X8 : ∀ w ∈ wsX80, w ∈ wsX8_truth := fun w h => List.mem_cons_of_mem _ (List.mem_append_left _ (List.mem_append_left _ (List.mem_append_right _ h)))
theorem fX8_truth_22 : jj_F wsX8_truth RX8 22 7 5 := ⟨_, _, _, rfl, by decide, iX8_truth_X8, (show Cond.fieldLink RX8 22 (TX8 5).1 (TX8 5).2.1 (TX8 5).2.2.1 ∈ wsX8_truth from List.mem_of_getElem? (i := 1) rfl)⟩
theorem fX8_truth_18 : jj_F wsX8_truth RX8 18 7 2 := ⟨_, _, _, rfl, by decide, iX8_truth_X8, (show Cond.fieldLink RX8 18 (TX8 2).1 (TX8 2).2.1 (TX8 2).2.2.1 ∈ wsX8_truth from List.mem_of_getElem? (i := 2) rfl)⟩
theorem qX8_truth_18 : jj_P wsX8_truth RX8 18 7 2 (.int) := ⟨_, _, _, tyX8, rfl, by decide, iX8_truth_X8, (show Cond.fieldLink RX8 18 (TX8 2).1 (TX8 2).2.1 (TX8 2).2.2.1 ∈ wsX8_truth from List.mem_of_getElem? (i := 2) rfl), tyX8_ok, nmX8, rfl, by decide +kernel⟩
theorem hdX8_truth : yX8_truth.cls = RX8 ∧ yX8_truth.cls ≠ "java/lang/invoke/MethodHandle" ∧ yX8_truth.cls ≠ "java/lang/invoke/VarHandle" ∧ (parseMethodDescriptor yX8_truth.desc).map (fun d => d.parameters.length) = some 1 := by decide +kernel
theorem qX8_line_111 : jj_P wsX8_line RX8 111 6 10 (.int) := ⟨_, _, _, tyX7, rfl, by decide, iX8_line_X7, (show Cond.fieldLink RX8 111 (TX7 10).1 (TX7 10).2.1 (TX7 10).2.2.1 ∈ wsX8_line from List.mem_of_getElem? (i := 7) rfl), tyX7_ok, nmX7, rfl, by decide +kernel⟩
theorem hdX8_line : yX8_line.cls = RX8 ∧ yX8_line.cls ≠ "java/lang/invoke/MethodHandle" ∧ yX8_line.cls ≠ "java/lang/invoke/VarHandle" ∧ (parseMethodDescriptor yX8_line.desc).map (fun d => d.parameters.length) = some 0 := by decide +kernel
theorem hdX8_read : yX8_read.cls = RX8 ∧ yX8_read.cls ≠ "java/lang/invoke/MethodHandle" ∧ yX8_read.cls ≠ "java/lang/invoke/VarHandle" ∧ (parseMethodDescriptor yX8_read.desc).map (fun d => d.parameters.length) = some 4 := by decide +kernel
theorem qX11_shop_13 : jj_P wsX11_shop RX11 13 10 1 (.int) := ⟨_, _, _, tyX11, rfl, by decide, iX11_shop_X11, (show Cond.fieldLink RX11 13 (TX11 1).1 (TX11 1).2.1 (TX11 1).2.2.1 ∈ wsX11_shop from List.mem_of_getElem? (i := 1) rfl), tyX11_ok, nmX11, rfl, by decide +kernel⟩
theorem iX11_shop_X8 : ∀ w ∈ wsX80, w ∈ wsX11_shop := fun w h => List.mem_cons_of_mem _ (List.mem_append_left _ (List.mem_append_left _ (List.mem_append_left _ (List.mem_append_left _ (List.mem_append_left _ (List.mem_append_right _ h))))))
theorem fX11_shop_117 : jj_F wsX11_shop RX11 117 7 5 := ⟨_, _, _, rfl, by decide, iX11_shop_X8, (show Cond.fieldLink RX11 117 (TX8 5).1 (TX8 5).2.1 (TX8 5).2.2.1 ∈ wsX11_shop from List.mem_of_getElem? (i := 6) rfl)⟩
theorem qX11_shop_17 : jj_P wsX11_shop RX11 17 10 2 (.int) := ⟨_, _, _, tyX11, rfl, by decide, iX11_shop_X11, (show Cond.fieldLink RX11 17 (TX11 2).1 (TX11 2).2.1 (TX11 2).2.2.1 ∈ wsX11_shop from List.mem_of_getElem? (i := 7) rfl), tyX11_ok, nmX11, rfl, by decide +kernel⟩
theorem sb_10_2 : s_b 10 2 = ((-2147483648), 2147483647) := rfl
theorem ft_10_2 : (mm_ft 10)[2]? = some 0 := rfl
theorem fX11_shop_120 : jj_F wsX11_shop RX11 120 7 6 := ⟨_, _, _, rfl, by decide, iX11_shop_X8, (show Cond.fieldLink RX11 120 (TX8 6).1 (TX8 6).2.1 (TX8 6).2.2.1 ∈ wsX11_shop from List.mem_of_getElem? (i := 8) rfl)⟩
theorem qX11_shop_20 : jj_P wsX11_shop RX11 20 10 3 (.int) := ⟨_, _, _, tyX11, rfl, by decide, iX11_shop_X11, (show Cond.fieldLink RX11 20 (TX11 3).1 (TX11 3).2.1 (TX11 3).2.2.1 ∈ wsX11_shop from List.mem_of_getElem? (i := 9) rfl), tyX11_ok, nmX11, rfl, by decide +kernel⟩
theorem sb_10_3 : s_b 10 3 = ((-2147483648), 2147483647) := rfl
theorem ft_10_3 : (mm_ft 10)[3]? = some 0 := rfl
theorem fX11_shop_17 : jj_F wsX11_shop RX11 17 10 2 := ⟨_, _, _, rfl, by decide, iX11_shop_X11, (show Cond.fieldLink RX11 17 (TX11 2).1 (TX11 2).2.1 (TX11 2).2.2.1 ∈ wsX11_shop from List.mem_of_getElem? (i := 7) rfl)⟩
theorem fX11_shop_26 : jj_F wsX11_shop RX11 26 10 4 := ⟨_, _, _, rfl, by decide, iX11_shop_X11, (show Cond.fieldLink RX11 26 (TX11 4).1 (TX11 4).2.1 (TX11 4).2.2.1 ∈ wsX11_shop from List.mem_of_getElem? (i := 10) rfl)⟩
theorem ft_10_4 : (mm_ft 10)[4]? = some 2 := rfl
theorem sm_10_4 : s_m 10 4 = 6 := rfl
theorem qX11_shop_26 : jj_P wsX11_shop RX11 26 10 4 (.object "OneOfEach$Plan") := ⟨_, _, _, tyX11, rfl, by decide, iX11_shop_X11, (show Cond.fieldLink RX11 26 (TX11 4).1 (TX11 4).2.1 (TX11 4).2.2.1 ∈ wsX11_shop from List.mem_of_getElem? (i := 10) rfl), tyX11_ok, nmX11, rfl, by decide +kernel⟩
theorem qX11_shop_30 : jj_P wsX11_shop RX11 30 10 5 (.object "OneOfEach$Plan") := ⟨_, _, _, tyX11, rfl, by decide, iX11_shop_X11, (show Cond.fieldLink RX11 30 (TX11 5).1 (TX11 5).2.1 (TX11 5).2.2.1 ∈ wsX11_shop from List.mem_of_getElem? (i := 4) rfl), tyX11_ok, nmX11, rfl, by decide +kernel⟩
theorem fX11_shop_36 : jj_F wsX11_shop RX11 36 10 6 := ⟨_, _, _, rfl, by decide, iX11_shop_X11, (show Cond.fieldLink RX11 36 (TX11 6).1 (TX11 6).2.1 (TX11 6).2.2.1 ∈ wsX11_shop from List.mem_of_getElem? (i := 11) rfl)⟩
theorem ft_10_6 : (mm_ft 10)[6]? = some 2 := rfl
theorem sm_10_6 : s_m 10 6 = 0 := rfl
theorem iX11_shop_X9 : ∀ w ∈ wsX90, w ∈ wsX11_shop := fun w h => List.mem_cons_of_mem _ (List.mem_append_left _ (List.mem_append_left _ (List.mem_append_left _ (List.mem_append_left _ (List.mem_append_right _ h)))))
theorem fX11_shop_121 : jj_F wsX11_shop RX11 121 8 7 := ⟨_, _, _, rfl, by decide, iX11_shop_X9, (show Cond.fieldLink RX11 121 (TX9 7).1 (TX9 7).2.1 (TX9 7).2.2.1 ∈ wsX11_shop from List.mem_of_getElem? (i := 12) rfl)⟩
theorem qX11_shop_121 : jj_P wsX11_shop RX11 121 8 7 (.int) := ⟨_, _, _, tyX9, rfl, by decide, iX11_shop_X9, (show Cond.fieldLink RX11 121 (TX9 7).1 (TX9 7).2.1 (TX9 7).2.2.1 ∈ wsX11_shop from List.mem_of_getElem? (i := 12) rfl), tyX9_ok, nmX9, rfl, by decide +kernel⟩
theorem iX9_copyFrom_X9 : ∀ w ∈ wsX90, w ∈ wsX9_copyFrom := fun w h => List.mem_cons_of_mem _ (List.mem_append_left _ (List.mem_append_right _ h))
theorem fX9_copyFrom_9 : jj_F wsX9_copyFrom RX9 9 8 0 := ⟨_, _, _, rfl, by decide, iX9_copyFrom_X9, (show Cond.fieldLink RX9 9 (TX9 0).1 (TX9 0).2.1 (TX9 0).2.2.1 ∈ wsX9_copyFrom from List.mem_of_getElem? (i := 1) rfl)⟩
theorem qX9_copyFrom_9 : jj_P wsX9_copyFrom RX9 9 8 0 (.int) := ⟨_, _, _, tyX9, rfl, by decide, iX9_copyFrom_X9, (show Cond.fieldLink RX9 9 (TX9 0).1 (TX9 0).2.1 (TX9 0).2.2.1 ∈ wsX9_copyFrom from List.mem_of_getElem? (i := 1) rfl), tyX9_ok, nmX9, rfl, by decide +kernel⟩
theorem fX9_copyFrom_15 : jj_F wsX9_copyFrom RX9 15 8 1 := ⟨_, _, _, rfl, by decide, iX9_copyFrom_X9, (show Cond.fieldLink RX9 15 (TX9 1).1 (TX9 1).2.1 (TX9 1).2.2.1 ∈ wsX9_copyFrom from List.mem_of_getElem? (i := 2) rfl)⟩
theorem fX9_copyFrom_19 : jj_F wsX9_copyFrom RX9 19 8 2 := ⟨_, _, _, rfl, by decide, iX9_copyFrom_X9, (show Cond.fieldLink RX9 19 (TX9 2).1 (TX9 2).2.1 (TX9 2).2.2.1 ∈ wsX9_copyFrom from List.mem_of_getElem? (i := 3) rfl)⟩
theorem fX9_copyFrom_22 : jj_F wsX9_copyFrom RX9 22 8 3 := ⟨_, _, _, rfl, by decide, iX9_copyFrom_X9, (show Cond.fieldLink RX9 22 (TX9 3).1 (TX9 3).2.1 (TX9 3).2.2.1 ∈ wsX9_copyFrom from List.mem_of_getElem? (i := 4) rfl)⟩
theorem qX9_copyFrom_22 : jj_P wsX9_copyFrom RX9 22 8 3 (.int) := ⟨_, _, _, tyX9, rfl, by decide, iX9_copyFrom_X9, (show Cond.fieldLink RX9 22 (TX9 3).1 (TX9 3).2.1 (TX9 3).2.2.1 ∈ wsX9_copyFrom from List.mem_of_getElem? (i := 4) rfl), tyX9_ok, nmX9, rfl, by decide +kernel⟩
theorem fX9_copyFrom_25 : jj_F wsX9_copyFrom RX9 25 8 4 := ⟨_, _, _, rfl, by decide, iX9_copyFrom_X9, (show Cond.fieldLink RX9 25 (TX9 4).1 (TX9 4).2.1 (TX9 4).2.2.1 ∈ wsX9_copyFrom from List.mem_of_getElem? (i := 5) rfl)⟩
theorem qX9_copyFrom_25 : jj_P wsX9_copyFrom RX9 25 8 4 (.int) := ⟨_, _, _, tyX9, rfl, by decide, iX9_copyFrom_X9, (show Cond.fieldLink RX9 25 (TX9 4).1 (TX9 4).2.1 (TX9 4).2.2.1 ∈ wsX9_copyFrom from List.mem_of_getElem? (i := 5) rfl), tyX9_ok, nmX9, rfl, by decide +kernel⟩
theorem fX9_copyFrom_28 : jj_F wsX9_copyFrom RX9 28 8 5 := ⟨_, _, _, rfl, by decide, iX9_copyFrom_X9, (show Cond.fieldLink RX9 28 (TX9 5).1 (TX9 5).2.1 (TX9 5).2.2.1 ∈ wsX9_copyFrom from List.mem_of_getElem? (i := 6) rfl)⟩
theorem qX9_copyFrom_28 : jj_P wsX9_copyFrom RX9 28 8 5 (.int) := ⟨_, _, _, tyX9, rfl, by decide, iX9_copyFrom_X9, (show Cond.fieldLink RX9 28 (TX9 5).1 (TX9 5).2.1 (TX9 5).2.2.1 ∈ wsX9_copyFrom from List.mem_of_getElem? (i := 6) rfl), tyX9_ok, nmX9, rfl, by decide +kernel⟩
theorem fX9_copyFrom_31 : jj_F wsX9_copyFrom RX9 31 8 6 := ⟨_, _, _, rfl, by decide, iX9_copyFrom_X9, (show Cond.fieldLink RX9 31 (TX9 6).1 (TX9 6).2.1 (TX9 6).2.2.1 ∈ wsX9_copyFrom from List.mem_of_getElem? (i := 7) rfl)⟩
theorem qX9_copyFrom_31 : jj_P wsX9_copyFrom RX9 31 8 6 (.int) := ⟨_, _, _, tyX9, rfl, by decide, iX9_copyFrom_X9, (show Cond.fieldLink RX9 31 (TX9 6).1 (TX9 6).2.1 (TX9 6).2.2.1 ∈ wsX9_copyFrom from List.mem_of_getElem? (i := 7) rfl), tyX9_ok, nmX9, rfl, by decide +kernel⟩
theorem fX9_copyFrom_34 : jj_F wsX9_copyFrom RX9 34 8 7 := ⟨_, _, _, rfl, by decide, iX9_copyFrom_X9, (show Cond.fieldLink RX9 34 (TX9 7).1 (TX9 7).2.1 (TX9 7).2.2.1 ∈ wsX9_copyFrom from List.mem_of_getElem? (i := 8) rfl)⟩
theorem qX9_copyFrom_34 : jj_P wsX9_copyFrom RX9 34 8 7 (.int) := ⟨_, _, _, tyX9, rfl, by decide, iX9_copyFrom_X9, (show Cond.fieldLink RX9 34 (TX9 7).1 (TX9 7).2.1 (TX9 7).2.2.1 ∈ wsX9_copyFrom from List.mem_of_getElem? (i := 8) rfl), tyX9_ok, nmX9, rfl, by decide +kernel⟩
theorem fX9_copyFrom_37 : jj_F wsX9_copyFrom RX9 37 8 8 := ⟨_, _, _, rfl, by decide, iX9_copyFrom_X9, (show Cond.fieldLink RX9 37 (TX9 8).1 (TX9 8).2.1 (TX9 8).2.2.1 ∈ wsX9_copyFrom from List.mem_of_getElem? (i := 9) rfl)⟩
theorem qX9_copyFrom_37 : jj_P wsX9_copyFrom RX9 37 8 8 (.int) := ⟨_, _, _, tyX9, rfl, by decide, iX9_copyFrom_X9, (show Cond.fieldLink RX9 37 (TX9 8).1 (TX9 8).2.1 (TX9 8).2.2.1 ∈ wsX9_copyFrom from List.mem_of_getElem? (i := 9) rfl), tyX9_ok, nmX9, rfl, by decide +kernel⟩
theorem hdX9_copyFrom : yX9_copyFrom.cls = RX9 ∧ yX9_copyFrom.cls ≠ "java/lang/invoke/MethodHandle" ∧ yX9_copyFrom.cls ≠ "java/lang/invoke/VarHandle" ∧ (parseMethodDescriptor yX9_copyFrom.desc).map (fun d => d.parameters.length) = some 1 := by decide +kernel
theorem iX11_beginAnew_X11 : ∀ w ∈ wsX110, w ∈ wsX11_beginAnew := fun w h => List.mem_cons_of_mem _ (List.mem_append_left _ (List.mem_append_left _ (List.mem_append_left _ (List.mem_append_right _ h))))
theorem fX11_beginAnew_46 : jj_F wsX11_beginAnew RX11 46 10 8 := ⟨_, _, _, rfl, by decide, iX11_beginAnew_X11, (show Cond.fieldLink RX11 46 (TX11 8).1 (TX11 8).2.1 (TX11 8).2.2.1 ∈ wsX11_beginAnew from List.mem_of_getElem? (i := 1) rfl)⟩
theorem ft_10_8 : (mm_ft 10)[8]? = some 2 := rfl
theorem sm_10_8 : s_m 10 8 = 0 := rfl
theorem iX6_clear_X6 : ∀ w ∈ wsX60, w ∈ wsX6_clear := fun w h => List.mem_cons_of_mem _ (List.mem_append_left _ (List.mem_append_right _ h))
theorem qX6_clear_21 : jj_P wsX6_clear RX6 21 5 2 (.int) := ⟨_, _, _, tyX6, rfl, by decide, iX6_clear_X6, (show Cond.fieldLink RX6 21 (TX6 2).1 (TX6 2).2.1 (TX6 2).2.2.1 ∈ wsX6_clear from List.mem_of_getElem? (i := 1) rfl), tyX6_ok, nmX6, rfl, by decide +kernel⟩
theorem sb_5_2 : s_b 5 2 = (0, 10) := rfl
theorem ft_5_2 : (mm_ft 5)[2]? = some 0 := rfl
theorem hdX6_clear : yX6_clear.cls = RX6 ∧ yX6_clear.cls ≠ "java/lang/invoke/MethodHandle" ∧ yX6_clear.cls ≠ "java/lang/invoke/VarHandle" ∧ (parseMethodDescriptor yX6_clear.desc).map (fun d => d.parameters.length) = some 0 := by decide +kernel
theorem fX11_beginAnew_76 : jj_F wsX11_beginAnew RX11 76 10 12 := ⟨_, _, _, rfl, by decide, iX11_beginAnew_X11, (show Cond.fieldLink RX11 76 (TX11 12).1 (TX11 12).2.1 (TX11 12).2.2.1 ∈ wsX11_beginAnew from List.mem_of_getElem? (i := 2) rfl)⟩
theorem ft_10_12 : (mm_ft 10)[12]? = some 2 := rfl
theorem sm_10_12 : s_m 10 12 = 0 := rfl
theorem iX4_forget_X4 : ∀ w ∈ wsX40, w ∈ wsX4_forget := fun w h => List.mem_cons_of_mem _ (List.mem_append_left _ (List.mem_append_right _ h))
theorem fX4_forget_15 : jj_F wsX4_forget RX4 15 3 1 := ⟨_, _, _, rfl, by decide, iX4_forget_X4, (show Cond.fieldLink RX4 15 (TX4 1).1 (TX4 1).2.1 (TX4 1).2.2.1 ∈ wsX4_forget from List.mem_of_getElem? (i := 1) rfl)⟩
theorem ft_3_1 : (mm_ft 3)[1]? = some 2 := rfl
theorem sm_3_1 : s_m 3 1 = 0 := rfl
theorem an_34 : s_an 34 = 8 := rfl
theorem ak_34 : s_ak 34 = 100 := rfl
theorem sb_34 (k : Nat) : s_b 34 k = ((-2147483648), 2147483647) := rfl
theorem hdJ7_fill_53178s : yJ7_fill_53178.cls ≠ "java/lang/invoke/MethodHandle" ∧ yJ7_fill_53178.cls ≠ "java/lang/invoke/VarHandle" ∧ (parseMethodDescriptor yJ7_fill_53178.desc).map (fun d => d.parameters.length) = some 2 := by decide +kernel
theorem hdX4_forget : yX4_forget.cls = RX4 ∧ yX4_forget.cls ≠ "java/lang/invoke/MethodHandle" ∧ yX4_forget.cls ≠ "java/lang/invoke/VarHandle" ∧ (parseMethodDescriptor yX4_forget.desc).map (fun d => d.parameters.length) = some 0 := by decide +kernel
theorem hdX11_beginAnew : yX11_beginAnew.cls = RX11 ∧ yX11_beginAnew.cls ≠ "java/lang/invoke/MethodHandle" ∧ yX11_beginAnew.cls ≠ "java/lang/invoke/VarHandle" ∧ (parseMethodDescriptor yX11_beginAnew.desc).map (fun d => d.parameters.length) = some 0 := by decide +kernel
theorem iX11_shop_X7 : ∀ w ∈ wsX70, w ∈ wsX11_shop := fun w h => List.mem_cons_of_mem _ (List.mem_append_left _ (List.mem_append_left _ (List.mem_append_left _ (List.mem_append_right _ h))))
theorem fX11_shop_131 : jj_F wsX11_shop RX11 131 6 1 := ⟨_, _, _, rfl, by decide, iX11_shop_X7, (show Cond.fieldLink RX11 131 (TX7 1).1 (TX7 1).2.1 (TX7 1).2.2.1 ∈ wsX11_shop from List.mem_of_getElem? (i := 13) rfl)⟩
theorem iX11_fault_X11 : ∀ w ∈ wsX110, w ∈ wsX11_fault := fun w h => List.mem_cons_of_mem _ (List.mem_append_left _ (List.mem_append_right _ h))
theorem fX11_fault_20 : jj_F wsX11_fault RX11 20 10 3 := ⟨_, _, _, rfl, by decide, iX11_fault_X11, (show Cond.fieldLink RX11 20 (TX11 3).1 (TX11 3).2.1 (TX11 3).2.2.1 ∈ wsX11_fault from List.mem_of_getElem? (i := 2) rfl)⟩
theorem fX11_fault_17 : jj_F wsX11_fault RX11 17 10 2 := ⟨_, _, _, rfl, by decide, iX11_fault_X11, (show Cond.fieldLink RX11 17 (TX11 2).1 (TX11 2).2.1 (TX11 2).2.2.1 ∈ wsX11_fault from List.mem_of_getElem? (i := 1) rfl)⟩
theorem iX11_isKind_X11 : ∀ w ∈ wsX110, w ∈ wsX11_isKind := fun w h => List.mem_cons_of_mem _ (List.mem_append_left _ (List.mem_append_left _ (List.mem_append_right _ h)))
theorem fX11_isKind_36 : jj_F wsX11_isKind RX11 36 10 6 := ⟨_, _, _, rfl, by decide, iX11_isKind_X11, (show Cond.fieldLink RX11 36 (TX11 6).1 (TX11 6).2.1 (TX11 6).2.2.1 ∈ wsX11_isKind from List.mem_of_getElem? (i := 1) rfl)⟩
theorem iX11_isKind_X9 : ∀ w ∈ wsX90, w ∈ wsX11_isKind := fun w h => List.mem_cons_of_mem _ (List.mem_append_left _ (List.mem_append_right _ h))
theorem fX11_isKind_160 : jj_F wsX11_isKind RX11 160 8 0 := ⟨_, _, _, rfl, by decide, iX11_isKind_X9, (show Cond.fieldLink RX11 160 (TX9 0).1 (TX9 0).2.1 (TX9 0).2.2.1 ∈ wsX11_isKind from List.mem_of_getElem? (i := 2) rfl)⟩
theorem hdX11_isKind : yX11_isKind.cls = RX11 ∧ yX11_isKind.cls ≠ "java/lang/invoke/MethodHandle" ∧ yX11_isKind.cls ≠ "java/lang/invoke/VarHandle" ∧ (parseMethodDescriptor yX11_isKind.desc).map (fun d => d.parameters.length) = some 1 := by decide +kernel
theorem iX11_kind_X11 : ∀ w ∈ wsX110, w ∈ wsX11_kind := fun w h => List.mem_cons_of_mem _ (List.mem_append_left _ (List.mem_append_left _ (List.mem_append_left _ (List.mem_append_left _ (List.mem_append_right _ h)))))
theorem fX11_kind_36 : jj_F wsX11_kind RX11 36 10 6 := ⟨_, _, _, rfl, by decide, iX11_kind_X11, (show Cond.fieldLink RX11 36 (TX11 6).1 (TX11 6).2.1 (TX11 6).2.2.1 ∈ wsX11_kind from List.mem_of_getElem? (i := 1) rfl)⟩
theorem iX11_kind_X9 : ∀ w ∈ wsX90, w ∈ wsX11_kind := fun w h => List.mem_cons_of_mem _ (List.mem_append_left _ (List.mem_append_left _ (List.mem_append_left _ (List.mem_append_right _ h))))
theorem fX11_kind_144 : jj_F wsX11_kind RX11 144 8 1 := ⟨_, _, _, rfl, by decide, iX11_kind_X9, (show Cond.fieldLink RX11 144 (TX9 1).1 (TX9 1).2.1 (TX9 1).2.2.1 ∈ wsX11_kind from List.mem_of_getElem? (i := 2) rfl)⟩
theorem fX11_kind_147 : jj_F wsX11_kind RX11 147 8 2 := ⟨_, _, _, rfl, by decide, iX11_kind_X9, (show Cond.fieldLink RX11 147 (TX9 2).1 (TX9 2).2.1 (TX9 2).2.2.1 ∈ wsX11_kind from List.mem_of_getElem? (i := 3) rfl)⟩
theorem fX11_kind_150 : jj_F wsX11_kind RX11 150 8 3 := ⟨_, _, _, rfl, by decide, iX11_kind_X9, (show Cond.fieldLink RX11 150 (TX9 3).1 (TX9 3).2.1 (TX9 3).2.2.1 ∈ wsX11_kind from List.mem_of_getElem? (i := 4) rfl)⟩
theorem fX11_kind_153 : jj_F wsX11_kind RX11 153 8 4 := ⟨_, _, _, rfl, by decide, iX11_kind_X9, (show Cond.fieldLink RX11 153 (TX9 4).1 (TX9 4).2.1 (TX9 4).2.2.1 ∈ wsX11_kind from List.mem_of_getElem? (i := 5) rfl)⟩
theorem iX11_takersOf_X11 : ∀ w ∈ wsX110, w ∈ wsX11_takersOf := fun w h => List.mem_cons_of_mem _ (List.mem_append_left _ (List.mem_append_left _ (List.mem_append_left _ (List.mem_append_left _ (List.mem_append_right _ h)))))
theorem fX11_takersOf_76 : jj_F wsX11_takersOf RX11 76 10 12 := ⟨_, _, _, rfl, by decide, iX11_takersOf_X11, (show Cond.fieldLink RX11 76 (TX11 12).1 (TX11 12).2.1 (TX11 12).2.2.1 ∈ wsX11_takersOf from List.mem_of_getElem? (i := 1) rfl)⟩
theorem fX11_takersOf_26 : jj_F wsX11_takersOf RX11 26 10 4 := ⟨_, _, _, rfl, by decide, iX11_takersOf_X11, (show Cond.fieldLink RX11 26 (TX11 4).1 (TX11 4).2.1 (TX11 4).2.2.1 ∈ wsX11_takersOf from List.mem_of_getElem? (i := 2) rfl)⟩
theorem fX11_takersOf_36 : jj_F wsX11_takersOf RX11 36 10 6 := ⟨_, _, _, rfl, by decide, iX11_takersOf_X11, (show Cond.fieldLink RX11 36 (TX11 6).1 (TX11 6).2.1 (TX11 6).2.2.1 ∈ wsX11_takersOf from List.mem_of_getElem? (i := 3) rfl)⟩
theorem iX4_tune_X4 : ∀ w ∈ wsX40, w ∈ wsX4_tune := fun w h => List.mem_cons_of_mem _ (List.mem_append_left _ (List.mem_append_left _ (List.mem_append_right _ h)))
theorem qX4_tune_33 : jj_P wsX4_tune RX4 33 3 5 (.object "OneOfEach$Plan") := ⟨_, _, _, tyX4, rfl, by decide, iX4_tune_X4, (show Cond.fieldLink RX4 33 (TX4 5).1 (TX4 5).2.1 (TX4 5).2.2.1 ∈ wsX4_tune from List.mem_of_getElem? (i := 1) rfl), tyX4_ok, nmX4, rfl, by decide +kernel⟩
theorem ft_3_5 : (mm_ft 3)[5]? = some 2 := rfl
theorem sm_3_5 : s_m 3 5 = 6 := rfl
theorem iX4_tune_X9 : ∀ w ∈ wsX90, w ∈ wsX4_tune := fun w h => List.mem_cons_of_mem _ (List.mem_append_left _ (List.mem_append_right _ h))
theorem fX4_tune_43 : jj_F wsX4_tune RX4 43 8 0 := ⟨_, _, _, rfl, by decide, iX4_tune_X9, (show Cond.fieldLink RX4 43 (TX9 0).1 (TX9 0).2.1 (TX9 0).2.2.1 ∈ wsX4_tune from List.mem_of_getElem? (i := 2) rfl)⟩
theorem qX4_tune_29 : jj_P wsX4_tune RX4 29 3 6 (.int) := ⟨_, _, _, tyX4, rfl, by decide, iX4_tune_X4, (show Cond.fieldLink RX4 29 (TX4 6).1 (TX4 6).2.1 (TX4 6).2.2.1 ∈ wsX4_tune from List.mem_of_getElem? (i := 3) rfl), tyX4_ok, nmX4, rfl, by decide +kernel⟩
theorem sb_3_6 : s_b 3 6 = (0, 8) := rfl
theorem ft_3_6 : (mm_ft 3)[6]? = some 0 := rfl
theorem fX4_tune_29 : jj_F wsX4_tune RX4 29 3 6 := ⟨_, _, _, rfl, by decide, iX4_tune_X4, (show Cond.fieldLink RX4 29 (TX4 6).1 (TX4 6).2.1 (TX4 6).2.2.1 ∈ wsX4_tune from List.mem_of_getElem? (i := 3) rfl)⟩
theorem fX4_tune_15 : jj_F wsX4_tune RX4 15 3 1 := ⟨_, _, _, rfl, by decide, iX4_tune_X4, (show Cond.fieldLink RX4 15 (TX4 1).1 (TX4 1).2.1 (TX4 1).2.2.1 ∈ wsX4_tune from List.mem_of_getElem? (i := 4) rfl)⟩
theorem fX4_tune_46 : jj_F wsX4_tune RX4 46 8 1 := ⟨_, _, _, rfl, by decide, iX4_tune_X9, (show Cond.fieldLink RX4 46 (TX9 1).1 (TX9 1).2.1 (TX9 1).2.2.1 ∈ wsX4_tune from List.mem_of_getElem? (i := 5) rfl)⟩
theorem fX4_tune_18 : jj_F wsX4_tune RX4 18 3 2 := ⟨_, _, _, rfl, by decide, iX4_tune_X4, (show Cond.fieldLink RX4 18 (TX4 2).1 (TX4 2).2.1 (TX4 2).2.2.1 ∈ wsX4_tune from List.mem_of_getElem? (i := 6) rfl)⟩
theorem ft_3_2 : (mm_ft 3)[2]? = some 2 := rfl
theorem sm_3_2 : s_m 3 2 = 0 := rfl
theorem fX4_tune_47 : jj_F wsX4_tune RX4 47 8 2 := ⟨_, _, _, rfl, by decide, iX4_tune_X9, (show Cond.fieldLink RX4 47 (TX9 2).1 (TX9 2).2.1 (TX9 2).2.2.1 ∈ wsX4_tune from List.mem_of_getElem? (i := 7) rfl)⟩
theorem ak_35 : s_ak 35 = 100 := rfl
theorem an_35 : s_an 35 = 8 := rfl
theorem sb_35 (k : Nat) : s_b 35 k = ((-2147483648), 2147483647) := rfl
theorem fX4_tune_11 : jj_F wsX4_tune RX4 11 3 0 := ⟨_, _, _, rfl, by decide, iX4_tune_X4, (show Cond.fieldLink RX4 11 (TX4 0).1 (TX4 0).2.1 (TX4 0).2.2.1 ∈ wsX4_tune from List.mem_of_getElem? (i := 8) rfl)⟩
theorem ft_3_0 : (mm_ft 3)[0]? = some 2 := rfl
theorem sm_3_0 : s_m 3 0 = 0 := rfl
theorem an_33 : s_an 33 = 864 := rfl
theorem ak_33 : s_ak 33 = 100 := rfl
theorem sb_33 (k : Nat) : s_b 33 k = ((-2147483648), 2147483647) := rfl
theorem hdX4_tune : yX4_tune.cls = RX4 ∧ yX4_tune.cls ≠ "java/lang/invoke/MethodHandle" ∧ yX4_tune.cls ≠ "java/lang/invoke/VarHandle" ∧ (parseMethodDescriptor yX4_tune.desc).map (fun d => d.parameters.length) = some 2 := by decide +kernel
theorem iX11_takersOf_X7 : ∀ w ∈ wsX70, w ∈ wsX11_takersOf := fun w h => List.mem_cons_of_mem _ (List.mem_append_left _ (List.mem_append_left _ (List.mem_append_left _ (List.mem_append_right _ h))))
theorem fX11_takersOf_163 : jj_F wsX11_takersOf RX11 163 6 0 := ⟨_, _, _, rfl, by decide, iX11_takersOf_X7, (show Cond.fieldLink RX11 163 (TX7 0).1 (TX7 0).2.1 (TX7 0).2.2.1 ∈ wsX11_takersOf from List.mem_of_getElem? (i := 4) rfl)⟩
theorem iX11_takersOf_X9 : ∀ w ∈ wsX90, w ∈ wsX11_takersOf := fun w h => List.mem_cons_of_mem _ (List.mem_append_left _ (List.mem_append_left _ (List.mem_append_right _ h)))
theorem fX11_takersOf_150 : jj_F wsX11_takersOf RX11 150 8 3 := ⟨_, _, _, rfl, by decide, iX11_takersOf_X9, (show Cond.fieldLink RX11 150 (TX9 3).1 (TX9 3).2.1 (TX9 3).2.2.1 ∈ wsX11_takersOf from List.mem_of_getElem? (i := 5) rfl)⟩
theorem fX11_takersOf_153 : jj_F wsX11_takersOf RX11 153 8 4 := ⟨_, _, _, rfl, by decide, iX11_takersOf_X9, (show Cond.fieldLink RX11 153 (TX9 4).1 (TX9 4).2.1 (TX9 4).2.2.1 ∈ wsX11_takersOf from List.mem_of_getElem? (i := 6) rfl)⟩
theorem iX4_choice_X4 : ∀ w ∈ wsX40, w ∈ wsX4_choice := fun w h => List.mem_cons_of_mem _ (List.mem_append_left _ (List.mem_append_left _ (List.mem_append_right _ h)))
theorem fX4_choice_29 : jj_F wsX4_choice RX4 29 3 6 := ⟨_, _, _, rfl, by decide, iX4_choice_X4, (show Cond.fieldLink RX4 29 (TX4 6).1 (TX4 6).2.1 (TX4 6).2.2.1 ∈ wsX4_choice from List.mem_of_getElem? (i := 1) rfl)⟩
theorem kJ6_bitCount_0f7a4_265 : Cond.constant RJ6 265 1431655765 ∈ wsJ6_bitCount_0f7a4 := List.mem_of_getElem? (i := 1) rfl
theorem kJ6_bitCount_0f7a4_266 : Cond.constant RJ6 266 858993459 ∈ wsJ6_bitCount_0f7a4 := List.mem_of_getElem? (i := 2) rfl
theorem kJ6_bitCount_0f7a4_267 : Cond.constant RJ6 267 252645135 ∈ wsJ6_bitCount_0f7a4 := List.mem_of_getElem? (i := 3) rfl
theorem hdJ6_bitCount_0f7a4s : yJ6_bitCount_0f7a4.cls ≠ "java/lang/invoke/MethodHandle" ∧ yJ6_bitCount_0f7a4.cls ≠ "java/lang/invoke/VarHandle" ∧ (parseMethodDescriptor yJ6_bitCount_0f7a4.desc).map (fun d => d.parameters.length) = some 1 := by decide +kernel
theorem fX4_choice_11 : jj_F wsX4_choice RX4 11 3 0 := ⟨_, _, _, rfl, by decide, iX4_choice_X4, (show Cond.fieldLink RX4 11 (TX4 0).1 (TX4 0).2.1 (TX4 0).2.2.1 ∈ wsX4_choice from List.mem_of_getElem? (i := 2) rfl)⟩
theorem iX4_lets_X4 : ∀ w ∈ wsX40, w ∈ wsX4_lets := fun w h => List.mem_cons_of_mem _ (List.mem_append_left _ (List.mem_append_left _ (List.mem_append_right _ h)))
theorem fX4_lets_15 : jj_F wsX4_lets RX4 15 3 1 := ⟨_, _, _, rfl, by decide, iX4_lets_X4, (show Cond.fieldLink RX4 15 (TX4 1).1 (TX4 1).2.1 (TX4 1).2.2.1 ∈ wsX4_lets from List.mem_of_getElem? (i := 1) rfl)⟩
theorem fX4_lets_33 : jj_F wsX4_lets RX4 33 3 5 := ⟨_, _, _, rfl, by decide, iX4_lets_X4, (show Cond.fieldLink RX4 33 (TX4 5).1 (TX4 5).2.1 (TX4 5).2.2.1 ∈ wsX4_lets from List.mem_of_getElem? (i := 2) rfl)⟩
theorem iX4_lets_X7 : ∀ w ∈ wsX70, w ∈ wsX4_lets := fun w h => List.mem_cons_of_mem _ (List.mem_append_left _ (List.mem_append_right _ h))
theorem fX4_lets_68 : jj_F wsX4_lets RX4 68 6 2 := ⟨_, _, _, rfl, by decide, iX4_lets_X7, (show Cond.fieldLink RX4 68 (TX7 2).1 (TX7 2).2.1 (TX7 2).2.2.1 ∈ wsX4_lets from List.mem_of_getElem? (i := 3) rfl)⟩
theorem fX4_lets_73 : jj_F wsX4_lets RX4 73 6 9 := ⟨_, _, _, rfl, by decide, iX4_lets_X7, (show Cond.fieldLink RX4 73 (TX7 9).1 (TX7 9).2.1 (TX7 9).2.2.1 ∈ wsX4_lets from List.mem_of_getElem? (i := 4) rfl)⟩
theorem fX4_lets_76 : jj_F wsX4_lets RX4 76 6 10 := ⟨_, _, _, rfl, by decide, iX4_lets_X7, (show Cond.fieldLink RX4 76 (TX7 10).1 (TX7 10).2.1 (TX7 10).2.2.1 ∈ wsX4_lets from List.mem_of_getElem? (i := 5) rfl)⟩
theorem iX4_learn_X4 : ∀ w ∈ wsX40, w ∈ wsX4_learn := fun w h => List.mem_cons_of_mem _ (List.mem_append_left _ (List.mem_append_left _ (List.mem_append_right _ h)))
theorem fX4_learn_23 : jj_F wsX4_learn RX4 23 3 3 := ⟨_, _, _, rfl, by decide, iX4_learn_X4, (show Cond.fieldLink RX4 23 (TX4 3).1 (TX4 3).2.1 (TX4 3).2.2.1 ∈ wsX4_learn from List.mem_of_getElem? (i := 1) rfl)⟩
theorem ft_3_3 : (mm_ft 3)[3]? = some 2 := rfl
theorem sm_3_3 : s_m 3 3 = 0 := rfl
theorem ak_36 : s_ak 36 = 100 := rfl
theorem an_36 : s_an 36 = 8 := rfl
theorem sb_36 (k : Nat) : s_b 36 k = ((-2147483648), 2147483647) := rfl
theorem fX4_learn_33 : jj_F wsX4_learn RX4 33 3 5 := ⟨_, _, _, rfl, by decide, iX4_learn_X4, (show Cond.fieldLink RX4 33 (TX4 5).1 (TX4 5).2.1 (TX4 5).2.2.1 ∈ wsX4_learn from List.mem_of_getElem? (i := 2) rfl)⟩
theorem iX4_learn_X7 : ∀ w ∈ wsX70, w ∈ wsX4_learn := fun w h => List.mem_cons_of_mem _ (List.mem_append_left _ (List.mem_append_right _ h))
theorem fX4_learn_68 : jj_F wsX4_learn RX4 68 6 2 := ⟨_, _, _, rfl, by decide, iX4_learn_X7, (show Cond.fieldLink RX4 68 (TX7 2).1 (TX7 2).2.1 (TX7 2).2.2.1 ∈ wsX4_learn from List.mem_of_getElem? (i := 3) rfl)⟩
theorem fX4_learn_92 : jj_F wsX4_learn RX4 92 6 3 := ⟨_, _, _, rfl, by decide, iX4_learn_X7, (show Cond.fieldLink RX4 92 (TX7 3).1 (TX7 3).2.1 (TX7 3).2.2.1 ∈ wsX4_learn from List.mem_of_getElem? (i := 4) rfl)⟩
theorem fX4_learn_15 : jj_F wsX4_learn RX4 15 3 1 := ⟨_, _, _, rfl, by decide, iX4_learn_X4, (show Cond.fieldLink RX4 15 (TX4 1).1 (TX4 1).2.1 (TX4 1).2.2.1 ∈ wsX4_learn from List.mem_of_getElem? (i := 5) rfl)⟩
theorem fX4_learn_18 : jj_F wsX4_learn RX4 18 3 2 := ⟨_, _, _, rfl, by decide, iX4_learn_X4, (show Cond.fieldLink RX4 18 (TX4 2).1 (TX4 2).2.1 (TX4 2).2.2.1 ∈ wsX4_learn from List.mem_of_getElem? (i := 6) rfl)⟩
theorem hdX4_learn : yX4_learn.cls = RX4 ∧ yX4_learn.cls ≠ "java/lang/invoke/MethodHandle" ∧ yX4_learn.cls ≠ "java/lang/invoke/VarHandle" ∧ (parseMethodDescriptor yX4_learn.desc).map (fun d => d.parameters.length) = some 3 := by decide +kernel
theorem iX4_reckon_X4 : ∀ w ∈ wsX40, w ∈ wsX4_reckon := fun w h => List.mem_cons_of_mem _ (List.mem_append_left _ (List.mem_append_left _ (List.mem_append_right _ h)))
theorem fX4_reckon_33 : jj_F wsX4_reckon RX4 33 3 5 := ⟨_, _, _, rfl, by decide, iX4_reckon_X4, (show Cond.fieldLink RX4 33 (TX4 5).1 (TX4 5).2.1 (TX4 5).2.2.1 ∈ wsX4_reckon from List.mem_of_getElem? (i := 1) rfl)⟩
theorem iX4_reckon_X7 : ∀ w ∈ wsX70, w ∈ wsX4_reckon := fun w h => List.mem_cons_of_mem _ (List.mem_append_left _ (List.mem_append_right _ h))
theorem fX4_reckon_95 : jj_F wsX4_reckon RX4 95 6 5 := ⟨_, _, _, rfl, by decide, iX4_reckon_X7, (show Cond.fieldLink RX4 95 (TX7 5).1 (TX7 5).2.1 (TX7 5).2.2.1 ∈ wsX4_reckon from List.mem_of_getElem? (i := 2) rfl)⟩
theorem fX4_reckon_26 : jj_F wsX4_reckon RX4 26 3 4 := ⟨_, _, _, rfl, by decide, iX4_reckon_X4, (show Cond.fieldLink RX4 26 (TX4 4).1 (TX4 4).2.1 (TX4 4).2.2.1 ∈ wsX4_reckon from List.mem_of_getElem? (i := 3) rfl)⟩
theorem ft_3_4 : (mm_ft 3)[4]? = some 2 := rfl
theorem sm_3_4 : s_m 3 4 = 0 := rfl
theorem an_37 : s_an 37 = 64 := rfl
theorem fX4_reckon_23 : jj_F wsX4_reckon RX4 23 3 3 := ⟨_, _, _, rfl, by decide, iX4_reckon_X4, (show Cond.fieldLink RX4 23 (TX4 3).1 (TX4 3).2.1 (TX4 3).2.2.1 ∈ wsX4_reckon from List.mem_of_getElem? (i := 4) rfl)⟩
theorem ak_37 : s_ak 37 = 100 := rfl
theorem sb_37 (k : Nat) : s_b 37 k = ((-2147483648), 2147483647) := rfl
theorem kX4_joined_102 : Cond.constantLong RX4 102 1000000 ∈ wsX4_joined := List.mem_of_getElem? (i := 1) rfl
theorem kX4_joined_105 : Cond.constantLong RX4 105 (-1000000) ∈ wsX4_joined := List.mem_of_getElem? (i := 3) rfl
theorem kX4_joined_107 : Cond.constant RX4 107 (-1000000) ∈ wsX4_joined := List.mem_of_getElem? (i := 4) rfl
theorem kX4_joined_104 : Cond.constant RX4 104 1000000 ∈ wsX4_joined := List.mem_of_getElem? (i := 2) rfl
theorem hdX4_joineds : yX4_joined.cls ≠ "java/lang/invoke/MethodHandle" ∧ yX4_joined.cls ≠ "java/lang/invoke/VarHandle" ∧ (parseMethodDescriptor yX4_joined.desc).map (fun d => d.parameters.length) = some 3 := by decide +kernel
theorem hdX4_reckon : yX4_reckon.cls = RX4 ∧ yX4_reckon.cls ≠ "java/lang/invoke/MethodHandle" ∧ yX4_reckon.cls ≠ "java/lang/invoke/VarHandle" ∧ (parseMethodDescriptor yX4_reckon.desc).map (fun d => d.parameters.length) = some 2 := by decide +kernel
theorem hdX4_lets : yX4_lets.cls = RX4 ∧ yX4_lets.cls ≠ "java/lang/invoke/MethodHandle" ∧ yX4_lets.cls ≠ "java/lang/invoke/VarHandle" ∧ (parseMethodDescriptor yX4_lets.desc).map (fun d => d.parameters.length) = some 3 := by decide +kernel
theorem iX4_wish_X4 : ∀ w ∈ wsX40, w ∈ wsX4_wish := fun w h => List.mem_cons_of_mem _ (List.mem_append_left _ (List.mem_append_left _ (List.mem_append_right _ h)))
theorem fX4_wish_33 : jj_F wsX4_wish RX4 33 3 5 := ⟨_, _, _, rfl, by decide, iX4_wish_X4, (show Cond.fieldLink RX4 33 (TX4 5).1 (TX4 5).2.1 (TX4 5).2.2.1 ∈ wsX4_wish from List.mem_of_getElem? (i := 1) rfl)⟩
theorem iX4_wish_X7 : ∀ w ∈ wsX70, w ∈ wsX4_wish := fun w h => List.mem_cons_of_mem _ (List.mem_append_left _ (List.mem_append_right _ h))
theorem fX4_wish_86 : jj_F wsX4_wish RX4 86 6 7 := ⟨_, _, _, rfl, by decide, iX4_wish_X7, (show Cond.fieldLink RX4 86 (TX7 7).1 (TX7 7).2.1 (TX7 7).2.2.1 ∈ wsX4_wish from List.mem_of_getElem? (i := 2) rfl)⟩
theorem fX4_wish_89 : jj_F wsX4_wish RX4 89 6 8 := ⟨_, _, _, rfl, by decide, iX4_wish_X7, (show Cond.fieldLink RX4 89 (TX7 8).1 (TX7 8).2.1 (TX7 8).2.2.1 ∈ wsX4_wish from List.mem_of_getElem? (i := 3) rfl)⟩
theorem fX4_wish_68 : jj_F wsX4_wish RX4 68 6 2 := ⟨_, _, _, rfl, by decide, iX4_wish_X7, (show Cond.fieldLink RX4 68 (TX7 2).1 (TX7 2).2.1 (TX7 2).2.2.1 ∈ wsX4_wish from List.mem_of_getElem? (i := 4) rfl)⟩
theorem fX4_wish_15 : jj_F wsX4_wish RX4 15 3 1 := ⟨_, _, _, rfl, by decide, iX4_wish_X4, (show Cond.fieldLink RX4 15 (TX4 1).1 (TX4 1).2.1 (TX4 1).2.2.1 ∈ wsX4_wish from List.mem_of_getElem? (i := 5) rfl)⟩
theorem hdX4_wish : yX4_wish.cls = RX4 ∧ yX4_wish.cls ≠ "java/lang/invoke/MethodHandle" ∧ yX4_wish.cls ≠ "java/lang/invoke/VarHandle" ∧ (parseMethodDescriptor yX4_wish.desc).map (fun d => d.parameters.length) = some 3 := by decide +kernel
theorem wX4_choice_62_0 : Cond.methodLink RX4 62 Lib.Math.max.name ∈ wsX4_choice := List.mem_of_getElem? (i := 3) rfl
theorem wX4_choice_62_1 : Cond.static Lib.Math.max.name ∈ wsX4_choice := List.mem_of_getElem? (i := 4) rfl
theorem wX4_choice_62_2 : Cond.initialized "java/lang/Math" ∈ wsX4_choice := List.mem_of_getElem? (i := 5) rfl
theorem wX4_choice_62_3 : Cond.code Lib.Math.max.name Lib.Math.max.code 2 (some .int) ∈ wsX4_choice := List.mem_of_getElem? (i := 6) rfl
theorem hdX4_choice : yX4_choice.cls = RX4 ∧ yX4_choice.cls ≠ "java/lang/invoke/MethodHandle" ∧ yX4_choice.cls ≠ "java/lang/invoke/VarHandle" ∧ (parseMethodDescriptor yX4_choice.desc).map (fun d => d.parameters.length) = some 3 := by decide +kernel
theorem hdX11_takersOf : yX11_takersOf.cls = RX11 ∧ yX11_takersOf.cls ≠ "java/lang/invoke/MethodHandle" ∧ yX11_takersOf.cls ≠ "java/lang/invoke/VarHandle" ∧ (parseMethodDescriptor yX11_takersOf.desc).map (fun d => d.parameters.length) = some 1 := by decide +kernel
theorem iX11_isBuyer_X11 : ∀ w ∈ wsX110, w ∈ wsX11_isBuyer := fun w h => List.mem_cons_of_mem _ (List.mem_append_left _ (List.mem_append_left _ (List.mem_append_right _ h)))
theorem fX11_isBuyer_26 : jj_F wsX11_isBuyer RX11 26 10 4 := ⟨_, _, _, rfl, by decide, iX11_isBuyer_X11, (show Cond.fieldLink RX11 26 (TX11 4).1 (TX11 4).2.1 (TX11 4).2.2.1 ∈ wsX11_isBuyer from List.mem_of_getElem? (i := 1) rfl)⟩
theorem iX11_isBuyer_X7 : ∀ w ∈ wsX70, w ∈ wsX11_isBuyer := fun w h => List.mem_cons_of_mem _ (List.mem_append_left _ (List.mem_append_right _ h))
theorem fX11_isBuyer_163 : jj_F wsX11_isBuyer RX11 163 6 0 := ⟨_, _, _, rfl, by decide, iX11_isBuyer_X7, (show Cond.fieldLink RX11 163 (TX7 0).1 (TX7 0).2.1 (TX7 0).2.2.1 ∈ wsX11_isBuyer from List.mem_of_getElem? (i := 2) rfl)⟩
theorem hdX11_isBuyer : yX11_isBuyer.cls = RX11 ∧ yX11_isBuyer.cls ≠ "java/lang/invoke/MethodHandle" ∧ yX11_isBuyer.cls ≠ "java/lang/invoke/VarHandle" ∧ (parseMethodDescriptor yX11_isBuyer.desc).map (fun d => d.parameters.length) = some 1 := by decide +kernel
theorem iX11_buyer_X11 : ∀ w ∈ wsX110, w ∈ wsX11_buyer := fun w h => List.mem_cons_of_mem _ (List.mem_append_left _ (List.mem_append_left _ (List.mem_append_left _ (List.mem_append_left _ (List.mem_append_right _ h)))))
theorem fX11_buyer_76 : jj_F wsX11_buyer RX11 76 10 12 := ⟨_, _, _, rfl, by decide, iX11_buyer_X11, (show Cond.fieldLink RX11 76 (TX11 12).1 (TX11 12).2.1 (TX11 12).2.2.1 ∈ wsX11_buyer from List.mem_of_getElem? (i := 1) rfl)⟩
theorem fX11_buyer_26 : jj_F wsX11_buyer RX11 26 10 4 := ⟨_, _, _, rfl, by decide, iX11_buyer_X11, (show Cond.fieldLink RX11 26 (TX11 4).1 (TX11 4).2.1 (TX11 4).2.2.1 ∈ wsX11_buyer from List.mem_of_getElem? (i := 2) rfl)⟩
theorem fX11_buyer_36 : jj_F wsX11_buyer RX11 36 10 6 := ⟨_, _, _, rfl, by decide, iX11_buyer_X11, (show Cond.fieldLink RX11 36 (TX11 6).1 (TX11 6).2.1 (TX11 6).2.2.1 ∈ wsX11_buyer from List.mem_of_getElem? (i := 3) rfl)⟩
theorem iX11_buyer_X7 : ∀ w ∈ wsX70, w ∈ wsX11_buyer := fun w h => List.mem_cons_of_mem _ (List.mem_append_left _ (List.mem_append_left _ (List.mem_append_left _ (List.mem_append_right _ h))))
theorem fX11_buyer_176 : jj_F wsX11_buyer RX11 176 6 2 := ⟨_, _, _, rfl, by decide, iX11_buyer_X7, (show Cond.fieldLink RX11 176 (TX7 2).1 (TX7 2).2.1 (TX7 2).2.2.1 ∈ wsX11_buyer from List.mem_of_getElem? (i := 4) rfl)⟩
theorem fX11_buyer_179 : jj_F wsX11_buyer RX11 179 6 3 := ⟨_, _, _, rfl, by decide, iX11_buyer_X7, (show Cond.fieldLink RX11 179 (TX7 3).1 (TX7 3).2.1 (TX7 3).2.2.1 ∈ wsX11_buyer from List.mem_of_getElem? (i := 5) rfl)⟩
theorem fX11_buyer_182 : jj_F wsX11_buyer RX11 182 6 4 := ⟨_, _, _, rfl, by decide, iX11_buyer_X7, (show Cond.fieldLink RX11 182 (TX7 4).1 (TX7 4).2.1 (TX7 4).2.2.1 ∈ wsX11_buyer from List.mem_of_getElem? (i := 6) rfl)⟩
theorem iX11_buyer_X9 : ∀ w ∈ wsX90, w ∈ wsX11_buyer := fun w h => List.mem_cons_of_mem _ (List.mem_append_left _ (List.mem_append_left _ (List.mem_append_right _ h)))
theorem fX11_buyer_150 : jj_F wsX11_buyer RX11 150 8 3 := ⟨_, _, _, rfl, by decide, iX11_buyer_X9, (show Cond.fieldLink RX11 150 (TX9 3).1 (TX9 3).2.1 (TX9 3).2.2.1 ∈ wsX11_buyer from List.mem_of_getElem? (i := 7) rfl)⟩
theorem fX11_buyer_153 : jj_F wsX11_buyer RX11 153 8 4 := ⟨_, _, _, rfl, by decide, iX11_buyer_X9, (show Cond.fieldLink RX11 153 (TX9 4).1 (TX9 4).2.1 (TX9 4).2.2.1 ∈ wsX11_buyer from List.mem_of_getElem? (i := 8) rfl)⟩
theorem iX4_allowed_X4 : ∀ w ∈ wsX40, w ∈ wsX4_allowed := fun w h => List.mem_cons_of_mem _ (List.mem_append_left _ (List.mem_append_left _ (List.mem_append_right _ h)))
theorem fX4_allowed_29 : jj_F wsX4_allowed RX4 29 3 6 := ⟨_, _, _, rfl, by decide, iX4_allowed_X4, (show Cond.fieldLink RX4 29 (TX4 6).1 (TX4 6).2.1 (TX4 6).2.2.1 ∈ wsX4_allowed from List.mem_of_getElem? (i := 1) rfl)⟩
theorem hdX4_allowed : yX4_allowed.cls = RX4 ∧ yX4_allowed.cls ≠ "java/lang/invoke/MethodHandle" ∧ yX4_allowed.cls ≠ "java/lang/invoke/VarHandle" ∧ (parseMethodDescriptor yX4_allowed.desc).map (fun d => d.parameters.length) = some 3 := by decide +kernel
theorem kX11_wants_188 : Cond.constant RX11 188 (-99000002) ∈ wsX11_wants := List.mem_of_getElem? (i := 1) rfl
theorem iX11_wants_X11 : ∀ w ∈ wsX110, w ∈ wsX11_wants := fun w h => List.mem_cons_of_mem _ (List.mem_append_left _ (List.mem_append_left _ (List.mem_append_left _ (List.mem_append_left _ (List.mem_append_right _ h)))))
theorem fX11_wants_76 : jj_F wsX11_wants RX11 76 10 12 := ⟨_, _, _, rfl, by decide, iX11_wants_X11, (show Cond.fieldLink RX11 76 (TX11 12).1 (TX11 12).2.1 (TX11 12).2.2.1 ∈ wsX11_wants from List.mem_of_getElem? (i := 2) rfl)⟩
theorem fX11_wants_26 : jj_F wsX11_wants RX11 26 10 4 := ⟨_, _, _, rfl, by decide, iX11_wants_X11, (show Cond.fieldLink RX11 26 (TX11 4).1 (TX11 4).2.1 (TX11 4).2.2.1 ∈ wsX11_wants from List.mem_of_getElem? (i := 3) rfl)⟩
theorem fX11_wants_36 : jj_F wsX11_wants RX11 36 10 6 := ⟨_, _, _, rfl, by decide, iX11_wants_X11, (show Cond.fieldLink RX11 36 (TX11 6).1 (TX11 6).2.1 (TX11 6).2.2.1 ∈ wsX11_wants from List.mem_of_getElem? (i := 4) rfl)⟩
theorem iX11_wants_X9 : ∀ w ∈ wsX90, w ∈ wsX11_wants := fun w h => List.mem_cons_of_mem _ (List.mem_append_left _ (List.mem_append_left _ (List.mem_append_left _ (List.mem_append_right _ h))))
theorem fX11_wants_150 : jj_F wsX11_wants RX11 150 8 3 := ⟨_, _, _, rfl, by decide, iX11_wants_X9, (show Cond.fieldLink RX11 150 (TX9 3).1 (TX9 3).2.1 (TX9 3).2.2.1 ∈ wsX11_wants from List.mem_of_getElem? (i := 5) rfl)⟩
theorem iX11_seed_X11 : ∀ w ∈ wsX110, w ∈ wsX11_seed := fun w h => List.mem_cons_of_mem _ (List.mem_append_left _ (List.mem_append_left _ (List.mem_append_left _ (List.mem_append_right _ h))))
theorem fX11_seed_46 : jj_F wsX11_seed RX11 46 10 8 := ⟨_, _, _, rfl, by decide, iX11_seed_X11, (show Cond.fieldLink RX11 46 (TX11 8).1 (TX11 8).2.1 (TX11 8).2.2.1 ∈ wsX11_seed from List.mem_of_getElem? (i := 1) rfl)⟩
theorem fX11_seed_36 : jj_F wsX11_seed RX11 36 10 6 := ⟨_, _, _, rfl, by decide, iX11_seed_X11, (show Cond.fieldLink RX11 36 (TX11 6).1 (TX11 6).2.1 (TX11 6).2.2.1 ∈ wsX11_seed from List.mem_of_getElem? (i := 2) rfl)⟩
theorem iX6_keep_X6 : ∀ w ∈ wsX60, w ∈ wsX6_keep := fun w h => List.mem_cons_of_mem _ (List.mem_append_left _ (List.mem_append_left _ (List.mem_append_right _ h)))
theorem fX6_keep_11 : jj_F wsX6_keep RX6 11 5 0 := ⟨_, _, _, rfl, by decide, iX6_keep_X6, (show Cond.fieldLink RX6 11 (TX6 0).1 (TX6 0).2.1 (TX6 0).2.2.1 ∈ wsX6_keep from List.mem_of_getElem? (i := 1) rfl)⟩
theorem ft_5_0 : (mm_ft 5)[0]? = some 2 := rfl
theorem sm_5_0 : s_m 5 0 = 0 := rfl
theorem fX6_keep_17 : jj_F wsX6_keep RX6 17 5 1 := ⟨_, _, _, rfl, by decide, iX6_keep_X6, (show Cond.fieldLink RX6 17 (TX6 1).1 (TX6 1).2.1 (TX6 1).2.2.1 ∈ wsX6_keep from List.mem_of_getElem? (i := 2) rfl)⟩
theorem sb_5_1 : s_b 5 1 = (0, 9) := rfl
theorem ft_5_1 : (mm_ft 5)[1]? = some 0 := rfl
theorem sma_27 : ∀ k, s_m 27 k = 0 := fun k => by unfold s_m; simp
theorem sta_27 : ∀ k, k < 10 → s_t 27 k = 8 := by decide
theorem an_27 : s_an 27 = 10 := rfl
theorem qX6_keep_17 : jj_P wsX6_keep RX6 17 5 1 (.int) := ⟨_, _, _, tyX6, rfl, by decide, iX6_keep_X6, (show Cond.fieldLink RX6 17 (TX6 1).1 (TX6 1).2.1 (TX6 1).2.2.1 ∈ wsX6_keep from List.mem_of_getElem? (i := 2) rfl), tyX6_ok, nmX6, rfl, by decide +kernel⟩
theorem fX6_keep_21 : jj_F wsX6_keep RX6 21 5 2 := ⟨_, _, _, rfl, by decide, iX6_keep_X6, (show Cond.fieldLink RX6 21 (TX6 2).1 (TX6 2).2.1 (TX6 2).2.2.1 ∈ wsX6_keep from List.mem_of_getElem? (i := 3) rfl)⟩
theorem wX6_keep_29_0 : Cond.methodLink RX6 29 Lib.Math.min.name ∈ wsX6_keep := List.mem_of_getElem? (i := 4) rfl
theorem wX6_keep_29_1 : Cond.static Lib.Math.min.name ∈ wsX6_keep := List.mem_of_getElem? (i := 5) rfl
theorem wX6_keep_29_2 : Cond.initialized "java/lang/Math" ∈ wsX6_keep := List.mem_of_getElem? (i := 6) rfl
theorem wX6_keep_29_3 : Cond.code Lib.Math.min.name Lib.Math.min.code 2 (some .int) ∈ wsX6_keep := List.mem_of_getElem? (i := 7) rfl
theorem qX6_keep_21 : jj_P wsX6_keep RX6 21 5 2 (.int) := ⟨_, _, _, tyX6, rfl, by decide, iX6_keep_X6, (show Cond.fieldLink RX6 21 (TX6 2).1 (TX6 2).2.1 (TX6 2).2.2.1 ∈ wsX6_keep from List.mem_of_getElem? (i := 3) rfl), tyX6_ok, nmX6, rfl, by decide +kernel⟩
theorem hdX6_keep : yX6_keep.cls = RX6 ∧ yX6_keep.cls ≠ "java/lang/invoke/MethodHandle" ∧ yX6_keep.cls ≠ "java/lang/invoke/VarHandle" ∧ (parseMethodDescriptor yX6_keep.desc).map (fun d => d.parameters.length) = some 1 := by decide +kernel
theorem iX11_seed_X9 : ∀ w ∈ wsX90, w ∈ wsX11_seed := fun w h => List.mem_cons_of_mem _ (List.mem_append_left _ (List.mem_append_left _ (List.mem_append_right _ h)))
theorem fX11_seed_195 : jj_F wsX11_seed RX11 195 8 8 := ⟨_, _, _, rfl, by decide, iX11_seed_X9, (show Cond.fieldLink RX11 195 (TX9 8).1 (TX9 8).2.1 (TX9 8).2.2.1 ∈ wsX11_seed from List.mem_of_getElem? (i := 3) rfl)⟩
theorem qX11_seed_195 : jj_P wsX11_seed RX11 195 8 8 (.int) := ⟨_, _, _, tyX9, rfl, by decide, iX11_seed_X9, (show Cond.fieldLink RX11 195 (TX9 8).1 (TX9 8).2.1 (TX9 8).2.2.1 ∈ wsX11_seed from List.mem_of_getElem? (i := 3) rfl), tyX9_ok, nmX9, rfl, by decide +kernel⟩
theorem iX11_visit_X11 : ∀ w ∈ wsX110, w ∈ wsX11_visit := fun w h => List.mem_cons_of_mem _ (List.mem_append_left _ (List.mem_append_left _ (List.mem_append_left _ (List.mem_append_left _ (List.mem_append_left _ (List.mem_append_left _ (List.mem_append_right _ h)))))))
theorem fX11_visit_40 : jj_F wsX11_visit RX11 40 10 7 := ⟨_, _, _, rfl, by decide, iX11_visit_X11, (show Cond.fieldLink RX11 40 (TX11 7).1 (TX11 7).2.1 (TX11 7).2.2.1 ∈ wsX11_visit from List.mem_of_getElem? (i := 1) rfl)⟩
theorem fX11_visit_36 : jj_F wsX11_visit RX11 36 10 6 := ⟨_, _, _, rfl, by decide, iX11_visit_X11, (show Cond.fieldLink RX11 36 (TX11 6).1 (TX11 6).2.1 (TX11 6).2.2.1 ∈ wsX11_visit from List.mem_of_getElem? (i := 2) rfl)⟩
theorem fX11_visit_85 : jj_F wsX11_visit RX11 85 10 13 := ⟨_, _, _, rfl, by decide, iX11_visit_X11, (show Cond.fieldLink RX11 85 (TX11 13).1 (TX11 13).2.1 (TX11 13).2.2.1 ∈ wsX11_visit from List.mem_of_getElem? (i := 3) rfl)⟩
theorem ft_10_13 : (mm_ft 10)[13]? = some 2 := rfl
theorem sm_10_13 : s_m 10 13 = 0 := rfl
theorem fX11_visit_26 : jj_F wsX11_visit RX11 26 10 4 := ⟨_, _, _, rfl, by decide, iX11_visit_X11, (show Cond.fieldLink RX11 26 (TX11 4).1 (TX11 4).2.1 (TX11 4).2.2.1 ∈ wsX11_visit from List.mem_of_getElem? (i := 4) rfl)⟩
theorem iX1_visitBy_X7 : ∀ w ∈ wsX70, w ∈ wsX1_visitBy := fun w h => List.mem_cons_of_mem _ (List.mem_append_left _ (List.mem_append_left _ (List.mem_append_left _ (List.mem_append_left _ (List.mem_append_right _ h)))))
theorem fX1_visitBy_15 : jj_F wsX1_visitBy RX1 15 6 0 := ⟨_, _, _, rfl, by decide, iX1_visitBy_X7, (show Cond.fieldLink RX1 15 (TX7 0).1 (TX7 0).2.1 (TX7 0).2.2.1 ∈ wsX1_visitBy from List.mem_of_getElem? (i := 1) rfl)⟩
theorem iX9_everyKind_X9 : ∀ w ∈ wsX90, w ∈ wsX9_everyKind := fun w h => List.mem_cons_of_mem _ (List.mem_append_left _ (List.mem_append_right _ h))
theorem fX9_everyKind_9 : jj_F wsX9_everyKind RX9 9 8 0 := ⟨_, _, _, rfl, by decide, iX9_everyKind_X9, (show Cond.fieldLink RX9 9 (TX9 0).1 (TX9 0).2.1 (TX9 0).2.2.1 ∈ wsX9_everyKind from List.mem_of_getElem? (i := 1) rfl)⟩
theorem hdX9_everyKind : yX9_everyKind.cls = RX9 ∧ yX9_everyKind.cls ≠ "java/lang/invoke/MethodHandle" ∧ yX9_everyKind.cls ≠ "java/lang/invoke/VarHandle" ∧ (parseMethodDescriptor yX9_everyKind.desc).map (fun d => d.parameters.length) = some 0 := by decide +kernel
theorem iX9_isShut_X9 : ∀ w ∈ wsX90, w ∈ wsX9_isShut := fun w h => List.mem_cons_of_mem _ (List.mem_append_left _ (List.mem_append_right _ h))
theorem fX9_isShut_25 : jj_F wsX9_isShut RX9 25 8 4 := ⟨_, _, _, rfl, by decide, iX9_isShut_X9, (show Cond.fieldLink RX9 25 (TX9 4).1 (TX9 4).2.1 (TX9 4).2.2.1 ∈ wsX9_isShut from List.mem_of_getElem? (i := 1) rfl)⟩
theorem fX9_isShut_22 : jj_F wsX9_isShut RX9 22 8 3 := ⟨_, _, _, rfl, by decide, iX9_isShut_X9, (show Cond.fieldLink RX9 22 (TX9 3).1 (TX9 3).2.1 (TX9 3).2.2.1 ∈ wsX9_isShut from List.mem_of_getElem? (i := 2) rfl)⟩
theorem hdX9_isShut : yX9_isShut.cls = RX9 ∧ yX9_isShut.cls ≠ "java/lang/invoke/MethodHandle" ∧ yX9_isShut.cls ≠ "java/lang/invoke/VarHandle" ∧ (parseMethodDescriptor yX9_isShut.desc).map (fun d => d.parameters.length) = some 0 := by decide +kernel
theorem iX1_visitBy_X1 : ∀ w ∈ wsX10, w ∈ wsX1_visitBy := fun w h => List.mem_cons_of_mem _ (List.mem_append_left _ (List.mem_append_left _ (List.mem_append_left _ (List.mem_append_right _ h))))
theorem fX1_visitBy_9 : jj_F wsX1_visitBy RX1 9 1 0 := ⟨_, _, _, rfl, by decide, iX1_visitBy_X1, (show Cond.fieldLink RX1 9 (TX1 0).1 (TX1 0).2.1 (TX1 0).2.2.1 ∈ wsX1_visitBy from List.mem_of_getElem? (i := 2) rfl)⟩
theorem ft_1_0 : (mm_ft 1)[0]? = some 2 := rfl
theorem sm_1_0 : s_m 1 0 = 0 := rfl
theorem iX1_visitBy_X9 : ∀ w ∈ wsX90, w ∈ wsX1_visitBy := fun w h => List.mem_cons_of_mem _ (List.mem_append_left _ (List.mem_append_left _ (List.mem_append_right _ h)))
theorem fX1_visitBy_33 : jj_F wsX1_visitBy RX1 33 8 3 := ⟨_, _, _, rfl, by decide, iX1_visitBy_X9, (show Cond.fieldLink RX1 33 (TX9 3).1 (TX9 3).2.1 (TX9 3).2.2.1 ∈ wsX1_visitBy from List.mem_of_getElem? (i := 3) rfl)⟩
theorem fX1_visitBy_36 : jj_F wsX1_visitBy RX1 36 8 4 := ⟨_, _, _, rfl, by decide, iX1_visitBy_X9, (show Cond.fieldLink RX1 36 (TX9 4).1 (TX9 4).2.1 (TX9 4).2.2.1 ∈ wsX1_visitBy from List.mem_of_getElem? (i := 4) rfl)⟩
theorem qX1_visitBy_33 : jj_P wsX1_visitBy RX1 33 8 3 (.int) := ⟨_, _, _, tyX9, rfl, by decide, iX1_visitBy_X9, (show Cond.fieldLink RX1 33 (TX9 3).1 (TX9 3).2.1 (TX9 3).2.2.1 ∈ wsX1_visitBy from List.mem_of_getElem? (i := 3) rfl), tyX9_ok, nmX9, rfl, by decide +kernel⟩
theorem fX1_visitBy_43 : jj_F wsX1_visitBy RX1 43 8 5 := ⟨_, _, _, rfl, by decide, iX1_visitBy_X9, (show Cond.fieldLink RX1 43 (TX9 5).1 (TX9 5).2.1 (TX9 5).2.2.1 ∈ wsX1_visitBy from List.mem_of_getElem? (i := 5) rfl)⟩
theorem fX1_visitBy_46 : jj_F wsX1_visitBy RX1 46 8 1 := ⟨_, _, _, rfl, by decide, iX1_visitBy_X9, (show Cond.fieldLink RX1 46 (TX9 1).1 (TX9 1).2.1 (TX9 1).2.2.1 ∈ wsX1_visitBy from List.mem_of_getElem? (i := 6) rfl)⟩
theorem qX1_visitBy_43 : jj_P wsX1_visitBy RX1 43 8 5 (.int) := ⟨_, _, _, tyX9, rfl, by decide, iX1_visitBy_X9, (show Cond.fieldLink RX1 43 (TX9 5).1 (TX9 5).2.1 (TX9 5).2.2.1 ∈ wsX1_visitBy from List.mem_of_getElem? (i := 5) rfl), tyX9_ok, nmX9, rfl, by decide +kernel⟩
theorem hdX1_visitBy : yX1_visitBy.cls = RX1 ∧ yX1_visitBy.cls ≠ "java/lang/invoke/MethodHandle" ∧ yX1_visitBy.cls ≠ "java/lang/invoke/VarHandle" ∧ (parseMethodDescriptor yX1_visitBy.desc).map (fun d => d.parameters.length) = some 3 := by decide +kernel
theorem iX11_settle_X11 : ∀ w ∈ wsX110, w ∈ wsX11_settle := fun w h => List.mem_cons_of_mem _ (List.mem_append_left _ (List.mem_append_left _ (List.mem_append_left _ (List.mem_append_right _ h))))
theorem fX11_settle_46 : jj_F wsX11_settle RX11 46 10 8 := ⟨_, _, _, rfl, by decide, iX11_settle_X11, (show Cond.fieldLink RX11 46 (TX11 8).1 (TX11 8).2.1 (TX11 8).2.2.1 ∈ wsX11_settle from List.mem_of_getElem? (i := 1) rfl)⟩
theorem fX11_settle_40 : jj_F wsX11_settle RX11 40 10 7 := ⟨_, _, _, rfl, by decide, iX11_settle_X11, (show Cond.fieldLink RX11 40 (TX11 7).1 (TX11 7).2.1 (TX11 7).2.2.1 ∈ wsX11_settle from List.mem_of_getElem? (i := 2) rfl)⟩
theorem hdX11_settle : yX11_settle.cls = RX11 ∧ yX11_settle.cls ≠ "java/lang/invoke/MethodHandle" ∧ yX11_settle.cls ≠ "java/lang/invoke/VarHandle" ∧ (parseMethodDescriptor yX11_settle.desc).map (fun d => d.parameters.length) = some 1 := by decide +kernel
theorem iX11_gift_X11 : ∀ w ∈ wsX110, w ∈ wsX11_gift := fun w h => List.mem_cons_of_mem _ (List.mem_append_left _ (List.mem_append_left _ (List.mem_append_left _ (List.mem_append_right _ h))))
theorem fX11_gift_40 : jj_F wsX11_gift RX11 40 10 7 := ⟨_, _, _, rfl, by decide, iX11_gift_X11, (show Cond.fieldLink RX11 40 (TX11 7).1 (TX11 7).2.1 (TX11 7).2.2.1 ∈ wsX11_gift from List.mem_of_getElem? (i := 1) rfl)⟩
theorem fX11_gift_36 : jj_F wsX11_gift RX11 36 10 6 := ⟨_, _, _, rfl, by decide, iX11_gift_X11, (show Cond.fieldLink RX11 36 (TX11 6).1 (TX11 6).2.1 (TX11 6).2.2.1 ∈ wsX11_gift from List.mem_of_getElem? (i := 2) rfl)⟩
theorem fX11_gift_85 : jj_F wsX11_gift RX11 85 10 13 := ⟨_, _, _, rfl, by decide, iX11_gift_X11, (show Cond.fieldLink RX11 85 (TX11 13).1 (TX11 13).2.1 (TX11 13).2.2.1 ∈ wsX11_gift from List.mem_of_getElem? (i := 3) rfl)⟩
theorem iX9_holds_X9 : ∀ w ∈ wsX90, w ∈ wsX9_holds := fun w h => List.mem_cons_of_mem _ (List.mem_append_left _ (List.mem_append_right _ h))
theorem fX9_holds_9 : jj_F wsX9_holds RX9 9 8 0 := ⟨_, _, _, rfl, by decide, iX9_holds_X9, (show Cond.fieldLink RX9 9 (TX9 0).1 (TX9 0).2.1 (TX9 0).2.2.1 ∈ wsX9_holds from List.mem_of_getElem? (i := 1) rfl)⟩
theorem hdX9_holds : yX9_holds.cls = RX9 ∧ yX9_holds.cls ≠ "java/lang/invoke/MethodHandle" ∧ yX9_holds.cls ≠ "java/lang/invoke/VarHandle" ∧ (parseMethodDescriptor yX9_holds.desc).map (fun d => d.parameters.length) = some 1 := by decide +kernel
theorem iX1_giveAway_X9 : ∀ w ∈ wsX90, w ∈ wsX1_giveAway := fun w h => List.mem_cons_of_mem _ (List.mem_append_left _ (List.mem_append_right _ h))
theorem fX1_giveAway_54 : jj_F wsX1_giveAway RX1 54 8 6 := ⟨_, _, _, rfl, by decide, iX1_giveAway_X9, (show Cond.fieldLink RX1 54 (TX9 6).1 (TX9 6).2.1 (TX9 6).2.2.1 ∈ wsX1_giveAway from List.mem_of_getElem? (i := 1) rfl)⟩
theorem qX1_giveAway_54 : jj_P wsX1_giveAway RX1 54 8 6 (.int) := ⟨_, _, _, tyX9, rfl, by decide, iX1_giveAway_X9, (show Cond.fieldLink RX1 54 (TX9 6).1 (TX9 6).2.1 (TX9 6).2.2.1 ∈ wsX1_giveAway from List.mem_of_getElem? (i := 1) rfl), tyX9_ok, nmX9, rfl, by decide +kernel⟩
theorem hdX1_giveAway : yX1_giveAway.cls = RX1 ∧ yX1_giveAway.cls ≠ "java/lang/invoke/MethodHandle" ∧ yX1_giveAway.cls ≠ "java/lang/invoke/VarHandle" ∧ (parseMethodDescriptor yX1_giveAway.desc).map (fun d => d.parameters.length) = some 2 := by decide +kernel
theorem iX11_hide_X11 : ∀ w ∈ wsX110, w ∈ wsX11_hide := fun w h => List.mem_cons_of_mem _ (List.mem_append_left _ (List.mem_append_left _ (List.mem_append_left _ (List.mem_append_right _ h))))
theorem fX11_hide_40 : jj_F wsX11_hide RX11 40 10 7 := ⟨_, _, _, rfl, by decide, iX11_hide_X11, (show Cond.fieldLink RX11 40 (TX11 7).1 (TX11 7).2.1 (TX11 7).2.2.1 ∈ wsX11_hide from List.mem_of_getElem? (i := 1) rfl)⟩
theorem fX11_hide_36 : jj_F wsX11_hide RX11 36 10 6 := ⟨_, _, _, rfl, by decide, iX11_hide_X11, (show Cond.fieldLink RX11 36 (TX11 6).1 (TX11 6).2.1 (TX11 6).2.2.1 ∈ wsX11_hide from List.mem_of_getElem? (i := 2) rfl)⟩
theorem fX11_hide_85 : jj_F wsX11_hide RX11 85 10 13 := ⟨_, _, _, rfl, by decide, iX11_hide_X11, (show Cond.fieldLink RX11 85 (TX11 13).1 (TX11 13).2.1 (TX11 13).2.2.1 ∈ wsX11_hide from List.mem_of_getElem? (i := 3) rfl)⟩
theorem iX1_turn_X9 : ∀ w ∈ wsX90, w ∈ wsX1_turn := fun w h => List.mem_cons_of_mem _ (List.mem_append_left _ (List.mem_append_right _ h))
theorem fX1_turn_36 : jj_F wsX1_turn RX1 36 8 4 := ⟨_, _, _, rfl, by decide, iX1_turn_X9, (show Cond.fieldLink RX1 36 (TX9 4).1 (TX9 4).2.1 (TX9 4).2.2.1 ∈ wsX1_turn from List.mem_of_getElem? (i := 1) rfl)⟩
theorem qX1_turn_36 : jj_P wsX1_turn RX1 36 8 4 (.int) := ⟨_, _, _, tyX9, rfl, by decide, iX1_turn_X9, (show Cond.fieldLink RX1 36 (TX9 4).1 (TX9 4).2.1 (TX9 4).2.2.1 ∈ wsX1_turn from List.mem_of_getElem? (i := 1) rfl), tyX9_ok, nmX9, rfl, by decide +kernel⟩
theorem hdX1_turn : yX1_turn.cls = RX1 ∧ yX1_turn.cls ≠ "java/lang/invoke/MethodHandle" ∧ yX1_turn.cls ≠ "java/lang/invoke/VarHandle" ∧ (parseMethodDescriptor yX1_turn.desc).map (fun d => d.parameters.length) = some 2 := by decide +kernel
theorem iX11_add_X11 : ∀ w ∈ wsX110, w ∈ wsX11_add := fun w h => List.mem_cons_of_mem _ (List.mem_append_left _ (List.mem_append_left _ (List.mem_append_left _ (List.mem_append_right _ h))))
theorem fX11_add_40 : jj_F wsX11_add RX11 40 10 7 := ⟨_, _, _, rfl, by decide, iX11_add_X11, (show Cond.fieldLink RX11 40 (TX11 7).1 (TX11 7).2.1 (TX11 7).2.2.1 ∈ wsX11_add from List.mem_of_getElem? (i := 1) rfl)⟩
theorem fX11_add_36 : jj_F wsX11_add RX11 36 10 6 := ⟨_, _, _, rfl, by decide, iX11_add_X11, (show Cond.fieldLink RX11 36 (TX11 6).1 (TX11 6).2.1 (TX11 6).2.2.1 ∈ wsX11_add from List.mem_of_getElem? (i := 2) rfl)⟩
theorem fX11_add_85 : jj_F wsX11_add RX11 85 10 13 := ⟨_, _, _, rfl, by decide, iX11_add_X11, (show Cond.fieldLink RX11 85 (TX11 13).1 (TX11 13).2.1 (TX11 13).2.2.1 ∈ wsX11_add from List.mem_of_getElem? (i := 3) rfl)⟩
theorem iX1_bringIn_X9 : ∀ w ∈ wsX90, w ∈ wsX1_bringIn := fun w h => List.mem_cons_of_mem _ (List.mem_append_left _ (List.mem_append_right _ h))
theorem fX1_bringIn_57 : jj_F wsX1_bringIn RX1 57 8 0 := ⟨_, _, _, rfl, by decide, iX1_bringIn_X9, (show Cond.fieldLink RX1 57 (TX9 0).1 (TX9 0).2.1 (TX9 0).2.2.1 ∈ wsX1_bringIn from List.mem_of_getElem? (i := 1) rfl)⟩
theorem fX1_bringIn_46 : jj_F wsX1_bringIn RX1 46 8 1 := ⟨_, _, _, rfl, by decide, iX1_bringIn_X9, (show Cond.fieldLink RX1 46 (TX9 1).1 (TX9 1).2.1 (TX9 1).2.2.1 ∈ wsX1_bringIn from List.mem_of_getElem? (i := 2) rfl)⟩
theorem fX1_bringIn_60 : jj_F wsX1_bringIn RX1 60 8 2 := ⟨_, _, _, rfl, by decide, iX1_bringIn_X9, (show Cond.fieldLink RX1 60 (TX9 2).1 (TX9 2).2.1 (TX9 2).2.2.1 ∈ wsX1_bringIn from List.mem_of_getElem? (i := 3) rfl)⟩
theorem qX1_bringIn_57 : jj_P wsX1_bringIn RX1 57 8 0 (.int) := ⟨_, _, _, tyX9, rfl, by decide, iX1_bringIn_X9, (show Cond.fieldLink RX1 57 (TX9 0).1 (TX9 0).2.1 (TX9 0).2.2.1 ∈ wsX1_bringIn from List.mem_of_getElem? (i := 1) rfl), tyX9_ok, nmX9, rfl, by decide +kernel⟩
theorem hdX1_bringIn : yX1_bringIn.cls = RX1 ∧ yX1_bringIn.cls ≠ "java/lang/invoke/MethodHandle" ∧ yX1_bringIn.cls ≠ "java/lang/invoke/VarHandle" ∧ (parseMethodDescriptor yX1_bringIn.desc).map (fun d => d.parameters.length) = some 3 := by decide +kernel
theorem iX11_price_X11 : ∀ w ∈ wsX110, w ∈ wsX11_price := fun w h => List.mem_cons_of_mem _ (List.mem_append_left _ (List.mem_append_left _ (List.mem_append_left _ (List.mem_append_right _ h))))
theorem fX11_price_40 : jj_F wsX11_price RX11 40 10 7 := ⟨_, _, _, rfl, by decide, iX11_price_X11, (show Cond.fieldLink RX11 40 (TX11 7).1 (TX11 7).2.1 (TX11 7).2.2.1 ∈ wsX11_price from List.mem_of_getElem? (i := 1) rfl)⟩
theorem fX11_price_36 : jj_F wsX11_price RX11 36 10 6 := ⟨_, _, _, rfl, by decide, iX11_price_X11, (show Cond.fieldLink RX11 36 (TX11 6).1 (TX11 6).2.1 (TX11 6).2.2.1 ∈ wsX11_price from List.mem_of_getElem? (i := 2) rfl)⟩
theorem fX11_price_85 : jj_F wsX11_price RX11 85 10 13 := ⟨_, _, _, rfl, by decide, iX11_price_X11, (show Cond.fieldLink RX11 85 (TX11 13).1 (TX11 13).2.1 (TX11 13).2.2.1 ∈ wsX11_price from List.mem_of_getElem? (i := 3) rfl)⟩
theorem iX1_reprice_X9 : ∀ w ∈ wsX90, w ∈ wsX1_reprice := fun w h => List.mem_cons_of_mem _ (List.mem_append_left _ (List.mem_append_right _ h))
theorem fX1_reprice_46 : jj_F wsX1_reprice RX1 46 8 1 := ⟨_, _, _, rfl, by decide, iX1_reprice_X9, (show Cond.fieldLink RX1 46 (TX9 1).1 (TX9 1).2.1 (TX9 1).2.2.1 ∈ wsX1_reprice from List.mem_of_getElem? (i := 1) rfl)⟩
theorem hdX1_reprice : yX1_reprice.cls = RX1 ∧ yX1_reprice.cls ≠ "java/lang/invoke/MethodHandle" ∧ yX1_reprice.cls ≠ "java/lang/invoke/VarHandle" ∧ (parseMethodDescriptor yX1_reprice.desc).map (fun d => d.parameters.length) = some 3 := by decide +kernel
theorem iX11_days_X11 : ∀ w ∈ wsX110, w ∈ wsX11_days := fun w h => List.mem_cons_of_mem _ (List.mem_append_left _ (List.mem_append_left _ (List.mem_append_left _ (List.mem_append_left _ (List.mem_append_left _ (List.mem_append_left _ (List.mem_append_right _ h)))))))
theorem fX11_days_40 : jj_F wsX11_days RX11 40 10 7 := ⟨_, _, _, rfl, by decide, iX11_days_X11, (show Cond.fieldLink RX11 40 (TX11 7).1 (TX11 7).2.1 (TX11 7).2.2.1 ∈ wsX11_days from List.mem_of_getElem? (i := 1) rfl)⟩
theorem fX11_days_36 : jj_F wsX11_days RX11 36 10 6 := ⟨_, _, _, rfl, by decide, iX11_days_X11, (show Cond.fieldLink RX11 36 (TX11 6).1 (TX11 6).2.1 (TX11 6).2.2.1 ∈ wsX11_days from List.mem_of_getElem? (i := 2) rfl)⟩
theorem fX11_days_85 : jj_F wsX11_days RX11 85 10 13 := ⟨_, _, _, rfl, by decide, iX11_days_X11, (show Cond.fieldLink RX11 85 (TX11 13).1 (TX11 13).2.1 (TX11 13).2.2.1 ∈ wsX11_days from List.mem_of_getElem? (i := 3) rfl)⟩
theorem fX11_days_26 : jj_F wsX11_days RX11 26 10 4 := ⟨_, _, _, rfl, by decide, iX11_days_X11, (show Cond.fieldLink RX11 26 (TX11 4).1 (TX11 4).2.1 (TX11 4).2.2.1 ∈ wsX11_days from List.mem_of_getElem? (i := 4) rfl)⟩
theorem kX11_days_219 : Cond.constantLong RX11 219 (-1) ∈ wsX11_days := List.mem_of_getElem? (i := 5) rfl
theorem kX1_carryOut_77 : Cond.constantLong RX1 77 (-1) ∈ wsX1_carryOut := List.mem_of_getElem? (i := 1) rfl
theorem kX1_carryOut_79 : Cond.constantLong RX1 79 1999 ∈ wsX1_carryOut := List.mem_of_getElem? (i := 2) rfl
theorem iX1_passDay_X9 : ∀ w ∈ wsX90, w ∈ wsX1_passDay := fun w h => List.mem_cons_of_mem _ (List.mem_append_left _ (List.mem_append_left _ (List.mem_append_right _ h)))
theorem fX1_passDay_63 : jj_F wsX1_passDay RX1 63 8 7 := ⟨_, _, _, rfl, by decide, iX1_passDay_X9, (show Cond.fieldLink RX1 63 (TX9 7).1 (TX9 7).2.1 (TX9 7).2.2.1 ∈ wsX1_passDay from List.mem_of_getElem? (i := 1) rfl)⟩
theorem qX1_passDay_63 : jj_P wsX1_passDay RX1 63 8 7 (.int) := ⟨_, _, _, tyX9, rfl, by decide, iX1_passDay_X9, (show Cond.fieldLink RX1 63 (TX9 7).1 (TX9 7).2.1 (TX9 7).2.2.1 ∈ wsX1_passDay from List.mem_of_getElem? (i := 1) rfl), tyX9_ok, nmX9, rfl, by decide +kernel⟩
theorem iX7_together_X7 : ∀ w ∈ wsX70, w ∈ wsX7_together := fun w h => List.mem_cons_of_mem _ (List.mem_append_left _ (List.mem_append_right _ h))
theorem fX7_together_9 : jj_F wsX7_together RX7 9 6 0 := ⟨_, _, _, rfl, by decide, iX7_together_X7, (show Cond.fieldLink RX7 9 (TX7 0).1 (TX7 0).2.1 (TX7 0).2.2.1 ∈ wsX7_together from List.mem_of_getElem? (i := 1) rfl)⟩
theorem fX7_together_25 : jj_F wsX7_together RX7 25 6 4 := ⟨_, _, _, rfl, by decide, iX7_together_X7, (show Cond.fieldLink RX7 25 (TX7 4).1 (TX7 4).2.1 (TX7 4).2.2.1 ∈ wsX7_together from List.mem_of_getElem? (i := 2) rfl)⟩
theorem hdX7_together : yX7_together.cls = RX7 ∧ yX7_together.cls ≠ "java/lang/invoke/MethodHandle" ∧ yX7_together.cls ≠ "java/lang/invoke/VarHandle" ∧ (parseMethodDescriptor yX7_together.desc).map (fun d => d.parameters.length) = some 0 := by decide +kernel
theorem kX9_draw_44 : Cond.constant RX9 44 1103515245 ∈ wsX9_draw := List.mem_of_getElem? (i := 1) rfl
theorem iX9_draw_X9 : ∀ w ∈ wsX90, w ∈ wsX9_draw := fun w h => List.mem_cons_of_mem _ (List.mem_append_left _ (List.mem_append_right _ h))
theorem fX9_draw_37 : jj_F wsX9_draw RX9 37 8 8 := ⟨_, _, _, rfl, by decide, iX9_draw_X9, (show Cond.fieldLink RX9 37 (TX9 8).1 (TX9 8).2.1 (TX9 8).2.2.1 ∈ wsX9_draw from List.mem_of_getElem? (i := 2) rfl)⟩
theorem qX9_draw_37 : jj_P wsX9_draw RX9 37 8 8 (.int) := ⟨_, _, _, tyX9, rfl, by decide, iX9_draw_X9, (show Cond.fieldLink RX9 37 (TX9 8).1 (TX9 8).2.1 (TX9 8).2.2.1 ∈ wsX9_draw from List.mem_of_getElem? (i := 2) rfl), tyX9_ok, nmX9, rfl, by decide +kernel⟩
theorem hdX9_draw : yX9_draw.cls = RX9 ∧ yX9_draw.cls ≠ "java/lang/invoke/MethodHandle" ∧ yX9_draw.cls ≠ "java/lang/invoke/VarHandle" ∧ (parseMethodDescriptor yX9_draw.desc).map (fun d => d.parameters.length) = some 0 := by decide +kernel
theorem iX7_comerFor_X7 : ∀ w ∈ wsX70, w ∈ wsX7_comerFor := fun w h => List.mem_cons_of_mem _ (List.mem_append_left _ (List.mem_append_right _ h))
theorem fX7_comerFor_9 : jj_F wsX7_comerFor RX7 9 6 0 := ⟨_, _, _, rfl, by decide, iX7_comerFor_X7, (show Cond.fieldLink RX7 9 (TX7 0).1 (TX7 0).2.1 (TX7 0).2.2.1 ∈ wsX7_comerFor from List.mem_of_getElem? (i := 1) rfl)⟩
theorem fX7_comerFor_25 : jj_F wsX7_comerFor RX7 25 6 4 := ⟨_, _, _, rfl, by decide, iX7_comerFor_X7, (show Cond.fieldLink RX7 25 (TX7 4).1 (TX7 4).2.1 (TX7 4).2.2.1 ∈ wsX7_comerFor from List.mem_of_getElem? (i := 2) rfl)⟩
theorem hdX7_comerFor : yX7_comerFor.cls = RX7 ∧ yX7_comerFor.cls ≠ "java/lang/invoke/MethodHandle" ∧ yX7_comerFor.cls ≠ "java/lang/invoke/VarHandle" ∧ (parseMethodDescriptor yX7_comerFor.desc).map (fun d => d.parameters.length) = some 1 := by decide +kernel
theorem hdX1_passDay : yX1_passDay.cls = RX1 ∧ yX1_passDay.cls ≠ "java/lang/invoke/MethodHandle" ∧ yX1_passDay.cls ≠ "java/lang/invoke/VarHandle" ∧ (parseMethodDescriptor yX1_passDay.desc).map (fun d => d.parameters.length) = some 2 := by decide +kernel
theorem hdX1_carryOut : yX1_carryOut.cls = RX1 ∧ yX1_carryOut.cls ≠ "java/lang/invoke/MethodHandle" ∧ yX1_carryOut.cls ≠ "java/lang/invoke/VarHandle" ∧ (parseMethodDescriptor yX1_carryOut.desc).map (fun d => d.parameters.length) = some 3 := by decide +kernel
theorem fX11_days_46 : jj_F wsX11_days RX11 46 10 8 := ⟨_, _, _, rfl, by decide, iX11_days_X11, (show Cond.fieldLink RX11 46 (TX11 8).1 (TX11 8).2.1 (TX11 8).2.2.1 ∈ wsX11_days from List.mem_of_getElem? (i := 6) rfl)⟩
theorem iX11_undo_X11 : ∀ w ∈ wsX110, w ∈ wsX11_undo := fun w h => List.mem_cons_of_mem _ (List.mem_append_left _ (List.mem_append_left _ (List.mem_append_left _ (List.mem_append_right _ h))))
theorem fX11_undo_46 : jj_F wsX11_undo RX11 46 10 8 := ⟨_, _, _, rfl, by decide, iX11_undo_X11, (show Cond.fieldLink RX11 46 (TX11 8).1 (TX11 8).2.1 (TX11 8).2.2.1 ∈ wsX11_undo from List.mem_of_getElem? (i := 1) rfl)⟩
theorem iX11_undo_X6 : ∀ w ∈ wsX60, w ∈ wsX11_undo := fun w h => List.mem_cons_of_mem _ (List.mem_append_left _ (List.mem_append_left _ (List.mem_append_right _ h)))
theorem fX11_undo_225 : jj_F wsX11_undo RX11 225 5 2 := ⟨_, _, _, rfl, by decide, iX11_undo_X6, (show Cond.fieldLink RX11 225 (TX6 2).1 (TX6 2).2.1 (TX6 2).2.2.1 ∈ wsX11_undo from List.mem_of_getElem? (i := 2) rfl)⟩
theorem fX11_undo_36 : jj_F wsX11_undo RX11 36 10 6 := ⟨_, _, _, rfl, by decide, iX11_undo_X11, (show Cond.fieldLink RX11 36 (TX11 6).1 (TX11 6).2.1 (TX11 6).2.2.1 ∈ wsX11_undo from List.mem_of_getElem? (i := 3) rfl)⟩
theorem iX6_bringBack_X6 : ∀ w ∈ wsX60, w ∈ wsX6_bringBack := fun w h => List.mem_cons_of_mem _ (List.mem_append_left _ (List.mem_append_left _ (List.mem_append_right _ h)))
theorem fX6_bringBack_17 : jj_F wsX6_bringBack RX6 17 5 1 := ⟨_, _, _, rfl, by decide, iX6_bringBack_X6, (show Cond.fieldLink RX6 17 (TX6 1).1 (TX6 1).2.1 (TX6 1).2.2.1 ∈ wsX6_bringBack from List.mem_of_getElem? (i := 1) rfl)⟩
theorem hdJ9_floorMod_7cf53s : yJ9_floorMod_7cf53.cls ≠ "java/lang/invoke/MethodHandle" ∧ yJ9_floorMod_7cf53.cls ≠ "java/lang/invoke/VarHandle" ∧ (parseMethodDescriptor yJ9_floorMod_7cf53.desc).map (fun d => d.parameters.length) = some 2 := by decide +kernel
theorem qX6_bringBack_17 : jj_P wsX6_bringBack RX6 17 5 1 (.int) := ⟨_, _, _, tyX6, rfl, by decide, iX6_bringBack_X6, (show Cond.fieldLink RX6 17 (TX6 1).1 (TX6 1).2.1 (TX6 1).2.2.1 ∈ wsX6_bringBack from List.mem_of_getElem? (i := 1) rfl), tyX6_ok, nmX6, rfl, by decide +kernel⟩
theorem fX6_bringBack_21 : jj_F wsX6_bringBack RX6 21 5 2 := ⟨_, _, _, rfl, by decide, iX6_bringBack_X6, (show Cond.fieldLink RX6 21 (TX6 2).1 (TX6 2).2.1 (TX6 2).2.2.1 ∈ wsX6_bringBack from List.mem_of_getElem? (i := 2) rfl)⟩
theorem qX6_bringBack_21 : jj_P wsX6_bringBack RX6 21 5 2 (.int) := ⟨_, _, _, tyX6, rfl, by decide, iX6_bringBack_X6, (show Cond.fieldLink RX6 21 (TX6 2).1 (TX6 2).2.1 (TX6 2).2.2.1 ∈ wsX6_bringBack from List.mem_of_getElem? (i := 2) rfl), tyX6_ok, nmX6, rfl, by decide +kernel⟩
theorem fX6_bringBack_11 : jj_F wsX6_bringBack RX6 11 5 0 := ⟨_, _, _, rfl, by decide, iX6_bringBack_X6, (show Cond.fieldLink RX6 11 (TX6 0).1 (TX6 0).2.1 (TX6 0).2.2.1 ∈ wsX6_bringBack from List.mem_of_getElem? (i := 3) rfl)⟩
theorem hdX6_bringBack : yX6_bringBack.cls = RX6 ∧ yX6_bringBack.cls ≠ "java/lang/invoke/MethodHandle" ∧ yX6_bringBack.cls ≠ "java/lang/invoke/VarHandle" ∧ (parseMethodDescriptor yX6_bringBack.desc).map (fun d => d.parameters.length) = some 2 := by decide +kernel
theorem hdX11_isTrays : yX11_isTray.cls ≠ "java/lang/invoke/MethodHandle" ∧ yX11_isTray.cls ≠ "java/lang/invoke/VarHandle" ∧ (parseMethodDescriptor yX11_isTray.desc).map (fun d => d.parameters.length) = some 1 := by decide +kernel
theorem iX11_judge_X11 : ∀ w ∈ wsX110, w ∈ wsX11_judge := fun w h => List.mem_cons_of_mem _ (List.mem_append_left _ (List.mem_append_left _ (List.mem_append_left _ (List.mem_append_left _ (List.mem_append_left _ (List.mem_append_left _ (List.mem_append_right _ h)))))))
theorem fX11_judge_52 : jj_F wsX11_judge RX11 52 10 9 := ⟨_, _, _, rfl, by decide, iX11_judge_X11, (show Cond.fieldLink RX11 52 (TX11 9).1 (TX11 9).2.1 (TX11 9).2.2.1 ∈ wsX11_judge from List.mem_of_getElem? (i := 1) rfl)⟩
theorem ft_10_9 : (mm_ft 10)[9]? = some 2 := rfl
theorem sm_10_9 : s_m 10 9 = 0 := rfl
theorem sma_28 : ∀ k, s_m 28 k = 0 := fun k => by unfold s_m; simp
theorem sta_28 : ∀ k, k < 4 → s_t 28 k = 9 := by decide
theorem an_28 : s_an 28 = 4 := rfl
theorem iX10_isMissing_X10 : ∀ w ∈ wsX100, w ∈ wsX10_isMissing := fun w h => List.mem_cons_of_mem _ (List.mem_append_left _ (List.mem_append_right _ h))
theorem fX10_isMissing_19 : jj_F wsX10_isMissing RX10 19 9 2 := ⟨_, _, _, rfl, by decide, iX10_isMissing_X10, (show Cond.fieldLink RX10 19 (TX10 2).1 (TX10 2).2.1 (TX10 2).2.2.1 ∈ wsX10_isMissing from List.mem_of_getElem? (i := 1) rfl)⟩
theorem sb_9_2 : s_b 9 2 = ((-1), 40) := rfl
theorem ft_9_2 : (mm_ft 9)[2]? = some 0 := rfl
theorem hdX10_isMissing : yX10_isMissing.cls = RX10 ∧ yX10_isMissing.cls ≠ "java/lang/invoke/MethodHandle" ∧ yX10_isMissing.cls ≠ "java/lang/invoke/VarHandle" ∧ (parseMethodDescriptor yX10_isMissing.desc).map (fun d => d.parameters.length) = some 0 := by decide +kernel
theorem fX11_judge_40 : jj_F wsX11_judge RX11 40 10 7 := ⟨_, _, _, rfl, by decide, iX11_judge_X11, (show Cond.fieldLink RX11 40 (TX11 7).1 (TX11 7).2.1 (TX11 7).2.2.1 ∈ wsX11_judge from List.mem_of_getElem? (i := 2) rfl)⟩
theorem fX11_judge_36 : jj_F wsX11_judge RX11 36 10 6 := ⟨_, _, _, rfl, by decide, iX11_judge_X11, (show Cond.fieldLink RX11 36 (TX11 6).1 (TX11 6).2.1 (TX11 6).2.2.1 ∈ wsX11_judge from List.mem_of_getElem? (i := 3) rfl)⟩
theorem iX10_size_X10 : ∀ w ∈ wsX100, w ∈ wsX10_size := fun w h => List.mem_cons_of_mem _ (List.mem_append_left _ (List.mem_append_right _ h))
theorem fX10_size_19 : jj_F wsX10_size RX10 19 9 2 := ⟨_, _, _, rfl, by decide, iX10_size_X10, (show Cond.fieldLink RX10 19 (TX10 2).1 (TX10 2).2.1 (TX10 2).2.2.1 ∈ wsX10_size from List.mem_of_getElem? (i := 1) rfl)⟩
theorem wX10_size_22_0 : Cond.methodLink RX10 22 Lib.Math.max.name ∈ wsX10_size := List.mem_of_getElem? (i := 2) rfl
theorem wX10_size_22_1 : Cond.static Lib.Math.max.name ∈ wsX10_size := List.mem_of_getElem? (i := 3) rfl
theorem wX10_size_22_2 : Cond.initialized "java/lang/Math" ∈ wsX10_size := List.mem_of_getElem? (i := 4) rfl
theorem wX10_size_22_3 : Cond.code Lib.Math.max.name Lib.Math.max.code 2 (some .int) ∈ wsX10_size := List.mem_of_getElem? (i := 5) rfl
theorem hdX10_size : yX10_size.cls = RX10 ∧ yX10_size.cls ≠ "java/lang/invoke/MethodHandle" ∧ yX10_size.cls ≠ "java/lang/invoke/VarHandle" ∧ (parseMethodDescriptor yX10_size.desc).map (fun d => d.parameters.length) = some 0 := by decide +kernel
theorem fX11_judge_85 : jj_F wsX11_judge RX11 85 10 13 := ⟨_, _, _, rfl, by decide, iX11_judge_X11, (show Cond.fieldLink RX11 85 (TX11 13).1 (TX11 13).2.1 (TX11 13).2.2.1 ∈ wsX11_judge from List.mem_of_getElem? (i := 4) rfl)⟩
theorem fX11_judge_26 : jj_F wsX11_judge RX11 26 10 4 := ⟨_, _, _, rfl, by decide, iX11_judge_X11, (show Cond.fieldLink RX11 26 (TX11 4).1 (TX11 4).2.1 (TX11 4).2.2.1 ∈ wsX11_judge from List.mem_of_getElem? (i := 5) rfl)⟩
theorem iX10_has_X10 : ∀ w ∈ wsX100, w ∈ wsX10_has := fun w h => List.mem_cons_of_mem _ (List.mem_append_left _ (List.mem_append_right _ h))
theorem fX10_has_19 : jj_F wsX10_has RX10 19 9 2 := ⟨_, _, _, rfl, by decide, iX10_has_X10, (show Cond.fieldLink RX10 19 (TX10 2).1 (TX10 2).2.1 (TX10 2).2.2.1 ∈ wsX10_has from List.mem_of_getElem? (i := 1) rfl)⟩
theorem hdX10_has : yX10_has.cls = RX10 ∧ yX10_has.cls ≠ "java/lang/invoke/MethodHandle" ∧ yX10_has.cls ≠ "java/lang/invoke/VarHandle" ∧ (parseMethodDescriptor yX10_has.desc).map (fun d => d.parameters.length) = some 1 := by decide +kernel
theorem iX10_numberAt_X10 : ∀ w ∈ wsX100, w ∈ wsX10_numberAt := fun w h => List.mem_cons_of_mem _ (List.mem_append_left _ (List.mem_append_right _ h))
theorem fX10_numberAt_9 : jj_F wsX10_numberAt RX10 9 9 0 := ⟨_, _, _, rfl, by decide, iX10_numberAt_X10, (show Cond.fieldLink RX10 9 (TX10 0).1 (TX10 0).2.1 (TX10 0).2.2.1 ∈ wsX10_numberAt from List.mem_of_getElem? (i := 1) rfl)⟩
theorem ft_9_0 : (mm_ft 9)[0]? = some 2 := rfl
theorem sm_9_0 : s_m 9 0 = 0 := rfl
theorem st_9_0 : s_t 9 0 = 29 := rfl
theorem ak_29 : s_ak 29 = 102 := rfl
theorem an_29 : s_an 29 = 40 := rfl
theorem hdX10_numberAt : yX10_numberAt.cls = RX10 ∧ yX10_numberAt.cls ≠ "java/lang/invoke/MethodHandle" ∧ yX10_numberAt.cls ≠ "java/lang/invoke/VarHandle" ∧ (parseMethodDescriptor yX10_numberAt.desc).map (fun d => d.parameters.length) = some 1 := by decide +kernel
theorem wX11_judge_246_0 : Cond.methodLink RX11 246 Lib.Math.min.name ∈ wsX11_judge := List.mem_of_getElem? (i := 6) rfl
theorem wX11_judge_246_1 : Cond.static Lib.Math.min.name ∈ wsX11_judge := List.mem_of_getElem? (i := 7) rfl
theorem wX11_judge_246_2 : Cond.initialized "java/lang/Math" ∈ wsX11_judge := List.mem_of_getElem? (i := 8) rfl
theorem wX11_judge_246_3 : Cond.code Lib.Math.min.name Lib.Math.min.code 2 (some .int) ∈ wsX11_judge := List.mem_of_getElem? (i := 9) rfl
theorem iX11_judge_X9 : ∀ w ∈ wsX90, w ∈ wsX11_judge := fun w h => List.mem_cons_of_mem _ (List.mem_append_left _ (List.mem_append_left _ (List.mem_append_left _ (List.mem_append_left _ (List.mem_append_left _ (List.mem_append_right _ h))))))
theorem fX11_judge_252 : jj_F wsX11_judge RX11 252 8 5 := ⟨_, _, _, rfl, by decide, iX11_judge_X9, (show Cond.fieldLink RX11 252 (TX9 5).1 (TX9 5).2.1 (TX9 5).2.2.1 ∈ wsX11_judge from List.mem_of_getElem? (i := 11) rfl)⟩
theorem fX11_judge_150 : jj_F wsX11_judge RX11 150 8 3 := ⟨_, _, _, rfl, by decide, iX11_judge_X9, (show Cond.fieldLink RX11 150 (TX9 3).1 (TX9 3).2.1 (TX9 3).2.2.1 ∈ wsX11_judge from List.mem_of_getElem? (i := 10) rfl)⟩
theorem iX11_trayRefusal_X11 : ∀ w ∈ wsX110, w ∈ wsX11_trayRefusal := fun w h => List.mem_cons_of_mem _ (List.mem_append_left _ (List.mem_append_left _ (List.mem_append_right _ h)))
theorem fX11_trayRefusal_52 : jj_F wsX11_trayRefusal RX11 52 10 9 := ⟨_, _, _, rfl, by decide, iX11_trayRefusal_X11, (show Cond.fieldLink RX11 52 (TX11 9).1 (TX11 9).2.1 (TX11 9).2.2.1 ∈ wsX11_trayRefusal from List.mem_of_getElem? (i := 1) rfl)⟩
theorem hdX11_trayRefusal : yX11_trayRefusal.cls = RX11 ∧ yX11_trayRefusal.cls ≠ "java/lang/invoke/MethodHandle" ∧ yX11_trayRefusal.cls ≠ "java/lang/invoke/VarHandle" ∧ (parseMethodDescriptor yX11_trayRefusal.desc).map (fun d => d.parameters.length) = some 1 := by decide +kernel
theorem iX11_perform_X11 : ∀ w ∈ wsX110, w ∈ wsX11_perform := fun w h => List.mem_cons_of_mem _ (List.mem_append_left _ (List.mem_append_left _ (List.mem_append_left _ (List.mem_append_left _ (List.mem_append_left _ (List.mem_append_left _ (List.mem_append_left _ (List.mem_append_right _ h))))))))
theorem fX11_perform_52 : jj_F wsX11_perform RX11 52 10 9 := ⟨_, _, _, rfl, by decide, iX11_perform_X11, (show Cond.fieldLink RX11 52 (TX11 9).1 (TX11 9).2.1 (TX11 9).2.2.1 ∈ wsX11_perform from List.mem_of_getElem? (i := 1) rfl)⟩
theorem fX11_perform_40 : jj_F wsX11_perform RX11 40 10 7 := ⟨_, _, _, rfl, by decide, iX11_perform_X11, (show Cond.fieldLink RX11 40 (TX11 7).1 (TX11 7).2.1 (TX11 7).2.2.1 ∈ wsX11_perform from List.mem_of_getElem? (i := 2) rfl)⟩
theorem fX11_perform_36 : jj_F wsX11_perform RX11 36 10 6 := ⟨_, _, _, rfl, by decide, iX11_perform_X11, (show Cond.fieldLink RX11 36 (TX11 6).1 (TX11 6).2.1 (TX11 6).2.2.1 ∈ wsX11_perform from List.mem_of_getElem? (i := 3) rfl)⟩
theorem fX11_perform_85 : jj_F wsX11_perform RX11 85 10 13 := ⟨_, _, _, rfl, by decide, iX11_perform_X11, (show Cond.fieldLink RX11 85 (TX11 13).1 (TX11 13).2.1 (TX11 13).2.2.1 ∈ wsX11_perform from List.mem_of_getElem? (i := 4) rfl)⟩
theorem fX11_perform_26 : jj_F wsX11_perform RX11 26 10 4 := ⟨_, _, _, rfl, by decide, iX11_perform_X11, (show Cond.fieldLink RX11 26 (TX11 4).1 (TX11 4).2.1 (TX11 4).2.2.1 ∈ wsX11_perform from List.mem_of_getElem? (i := 5) rfl)⟩
theorem fX11_perform_46 : jj_F wsX11_perform RX11 46 10 8 := ⟨_, _, _, rfl, by decide, iX11_perform_X11, (show Cond.fieldLink RX11 46 (TX11 8).1 (TX11 8).2.1 (TX11 8).2.2.1 ∈ wsX11_perform from List.mem_of_getElem? (i := 6) rfl)⟩
theorem iX11_season_X11 : ∀ w ∈ wsX110, w ∈ wsX11_season := fun w h => List.mem_cons_of_mem _ (List.mem_append_left _ (List.mem_append_left _ (List.mem_append_left _ (List.mem_append_left _ (List.mem_append_left _ (List.mem_append_left _ (List.mem_append_right _ h)))))))
theorem fX11_season_40 : jj_F wsX11_season RX11 40 10 7 := ⟨_, _, _, rfl, by decide, iX11_season_X11, (show Cond.fieldLink RX11 40 (TX11 7).1 (TX11 7).2.1 (TX11 7).2.2.1 ∈ wsX11_season from List.mem_of_getElem? (i := 1) rfl)⟩
theorem fX11_season_36 : jj_F wsX11_season RX11 36 10 6 := ⟨_, _, _, rfl, by decide, iX11_season_X11, (show Cond.fieldLink RX11 36 (TX11 6).1 (TX11 6).2.1 (TX11 6).2.2.1 ∈ wsX11_season from List.mem_of_getElem? (i := 2) rfl)⟩
theorem iX11_season_X9 : ∀ w ∈ wsX90, w ∈ wsX11_season := fun w h => List.mem_cons_of_mem _ (List.mem_append_left _ (List.mem_append_left _ (List.mem_append_left _ (List.mem_append_left _ (List.mem_append_left _ (List.mem_append_right _ h))))))
theorem qX11_season_195 : jj_P wsX11_season RX11 195 8 8 (.int) := ⟨_, _, _, tyX9, rfl, by decide, iX11_season_X9, (show Cond.fieldLink RX11 195 (TX9 8).1 (TX9 8).2.1 (TX9 8).2.2.1 ∈ wsX11_season from List.mem_of_getElem? (i := 3) rfl), tyX9_ok, nmX9, rfl, by decide +kernel⟩
theorem fX11_season_85 : jj_F wsX11_season RX11 85 10 13 := ⟨_, _, _, rfl, by decide, iX11_season_X11, (show Cond.fieldLink RX11 85 (TX11 13).1 (TX11 13).2.1 (TX11 13).2.2.1 ∈ wsX11_season from List.mem_of_getElem? (i := 4) rfl)⟩
theorem fX11_season_26 : jj_F wsX11_season RX11 26 10 4 := ⟨_, _, _, rfl, by decide, iX11_season_X11, (show Cond.fieldLink RX11 26 (TX11 4).1 (TX11 4).2.1 (TX11 4).2.2.1 ∈ wsX11_season from List.mem_of_getElem? (i := 5) rfl)⟩
theorem hdX1_drawDeed : yX1_drawDeed.cls = RX1 ∧ yX1_drawDeed.cls ≠ "java/lang/invoke/MethodHandle" ∧ yX1_drawDeed.cls ≠ "java/lang/invoke/VarHandle" ∧ (parseMethodDescriptor yX1_drawDeed.desc).map (fun d => d.parameters.length) = some 1 := by decide +kernel
theorem fX11_season_46 : jj_F wsX11_season RX11 46 10 8 := ⟨_, _, _, rfl, by decide, iX11_season_X11, (show Cond.fieldLink RX11 46 (TX11 8).1 (TX11 8).2.1 (TX11 8).2.2.1 ∈ wsX11_season from List.mem_of_getElem? (i := 6) rfl)⟩
theorem iX11_ending_X11 : ∀ w ∈ wsX110, w ∈ wsX11_ending := fun w h => List.mem_cons_of_mem _ (List.mem_append_left _ (List.mem_append_left _ (List.mem_append_left _ (List.mem_append_left _ (List.mem_append_left _ (List.mem_append_right _ h))))))
theorem fX11_ending_94 : jj_F wsX11_ending RX11 94 10 14 := ⟨_, _, _, rfl, by decide, iX11_ending_X11, (show Cond.fieldLink RX11 94 (TX11 14).1 (TX11 14).2.1 (TX11 14).2.2.1 ∈ wsX11_ending from List.mem_of_getElem? (i := 1) rfl)⟩
theorem ft_10_14 : (mm_ft 10)[14]? = some 2 := rfl
theorem sm_10_14 : s_m 10 14 = 0 := rfl
theorem fX11_ending_26 : jj_F wsX11_ending RX11 26 10 4 := ⟨_, _, _, rfl, by decide, iX11_ending_X11, (show Cond.fieldLink RX11 26 (TX11 4).1 (TX11 4).2.1 (TX11 4).2.2.1 ∈ wsX11_ending from List.mem_of_getElem? (i := 2) rfl)⟩
theorem fX11_ending_36 : jj_F wsX11_ending RX11 36 10 6 := ⟨_, _, _, rfl, by decide, iX11_ending_X11, (show Cond.fieldLink RX11 36 (TX11 6).1 (TX11 6).2.1 (TX11 6).2.2.1 ∈ wsX11_ending from List.mem_of_getElem? (i := 3) rfl)⟩
theorem iX11_ending_X9 : ∀ w ∈ wsX90, w ∈ wsX11_ending := fun w h => List.mem_cons_of_mem _ (List.mem_append_left _ (List.mem_append_left _ (List.mem_append_left _ (List.mem_append_left _ (List.mem_append_right _ h)))))
theorem fX11_ending_153 : jj_F wsX11_ending RX11 153 8 4 := ⟨_, _, _, rfl, by decide, iX11_ending_X9, (show Cond.fieldLink RX11 153 (TX9 4).1 (TX9 4).2.1 (TX9 4).2.2.1 ∈ wsX11_ending from List.mem_of_getElem? (i := 4) rfl)⟩
theorem iX5_aim_X5 : ∀ w ∈ wsX50, w ∈ wsX5_aim := fun w h => List.mem_cons_of_mem _ (List.mem_append_left _ (List.mem_append_left _ (List.mem_append_left _ (List.mem_append_right _ h))))
theorem qX5_aim_52 : jj_P wsX5_aim RX5 52 4 9 (.object "OneOfEach$Plan") := ⟨_, _, _, tyX5, rfl, by decide, iX5_aim_X5, (show Cond.fieldLink RX5 52 (TX5 9).1 (TX5 9).2.1 (TX5 9).2.2.1 ∈ wsX5_aim from List.mem_of_getElem? (i := 1) rfl), tyX5_ok, nmX5, rfl, by decide +kernel⟩
theorem ft_4_9 : (mm_ft 4)[9]? = some 2 := rfl
theorem sm_4_9 : s_m 4 9 = 6 := rfl
theorem qX5_aim_56 : jj_P wsX5_aim RX5 56 4 10 (.object "OneOfEach$Stock") := ⟨_, _, _, tyX5, rfl, by decide, iX5_aim_X5, (show Cond.fieldLink RX5 56 (TX5 10).1 (TX5 10).2.1 (TX5 10).2.2.1 ∈ wsX5_aim from List.mem_of_getElem? (i := 2) rfl), tyX5_ok, nmX5, rfl, by decide +kernel⟩
theorem ft_4_10 : (mm_ft 4)[10]? = some 2 := rfl
theorem sm_4_10 : s_m 4 10 = 8 := rfl
theorem fX5_aim_56 : jj_F wsX5_aim RX5 56 4 10 := ⟨_, _, _, rfl, by decide, iX5_aim_X5, (show Cond.fieldLink RX5 56 (TX5 10).1 (TX5 10).2.1 (TX5 10).2.2.1 ∈ wsX5_aim from List.mem_of_getElem? (i := 2) rfl)⟩
theorem qX5_aim_38 : jj_P wsX5_aim RX5 38 4 11 (.int) := ⟨_, _, _, tyX5, rfl, by decide, iX5_aim_X5, (show Cond.fieldLink RX5 38 (TX5 11).1 (TX5 11).2.1 (TX5 11).2.2.1 ∈ wsX5_aim from List.mem_of_getElem? (i := 3) rfl), tyX5_ok, nmX5, rfl, by decide +kernel⟩
theorem sb_4_11 : s_b 4 11 = (0, 255) := rfl
theorem ft_4_11 : (mm_ft 4)[11]? = some 0 := rfl
theorem fX5_aim_38 : jj_F wsX5_aim RX5 38 4 11 := ⟨_, _, _, rfl, by decide, iX5_aim_X5, (show Cond.fieldLink RX5 38 (TX5 11).1 (TX5 11).2.1 (TX5 11).2.2.1 ∈ wsX5_aim from List.mem_of_getElem? (i := 3) rfl)⟩
theorem qX5_aim_42 : jj_P wsX5_aim RX5 42 4 12 (.int) := ⟨_, _, _, tyX5, rfl, by decide, iX5_aim_X5, (show Cond.fieldLink RX5 42 (TX5 12).1 (TX5 12).2.1 (TX5 12).2.2.1 ∈ wsX5_aim from List.mem_of_getElem? (i := 4) rfl), tyX5_ok, nmX5, rfl, by decide +kernel⟩
theorem sb_4_12 : s_b 4 12 = (0, 255) := rfl
theorem ft_4_12 : (mm_ft 4)[12]? = some 0 := rfl
theorem iX5_aim_X9 : ∀ w ∈ wsX90, w ∈ wsX5_aim := fun w h => List.mem_cons_of_mem _ (List.mem_append_left _ (List.mem_append_left _ (List.mem_append_right _ h)))
theorem fX5_aim_66 : jj_F wsX5_aim RX5 66 8 3 := ⟨_, _, _, rfl, by decide, iX5_aim_X9, (show Cond.fieldLink RX5 66 (TX9 3).1 (TX9 3).2.1 (TX9 3).2.2.1 ∈ wsX5_aim from List.mem_of_getElem? (i := 5) rfl)⟩
theorem qX5_aim_45 : jj_P wsX5_aim RX5 45 4 13 (.int) := ⟨_, _, _, tyX5, rfl, by decide, iX5_aim_X5, (show Cond.fieldLink RX5 45 (TX5 13).1 (TX5 13).2.1 (TX5 13).2.2.1 ∈ wsX5_aim from List.mem_of_getElem? (i := 6) rfl), tyX5_ok, nmX5, rfl, by decide +kernel⟩
theorem sb_4_13 : s_b 4 13 = (0, 255) := rfl
theorem ft_4_13 : (mm_ft 4)[13]? = some 0 := rfl
theorem fX5_aim_48 : jj_F wsX5_aim RX5 48 4 0 := ⟨_, _, _, rfl, by decide, iX5_aim_X5, (show Cond.fieldLink RX5 48 (TX5 0).1 (TX5 0).2.1 (TX5 0).2.2.1 ∈ wsX5_aim from List.mem_of_getElem? (i := 7) rfl)⟩
theorem ft_4_0 : (mm_ft 4)[0]? = some 2 := rfl
theorem sm_4_0 : s_m 4 0 = 0 := rfl
theorem fX5_aim_52 : jj_F wsX5_aim RX5 52 4 9 := ⟨_, _, _, rfl, by decide, iX5_aim_X5, (show Cond.fieldLink RX5 52 (TX5 9).1 (TX5 9).2.1 (TX5 9).2.2.1 ∈ wsX5_aim from List.mem_of_getElem? (i := 1) rfl)⟩
theorem hdX5_aim : yX5_aim.cls = RX5 ∧ yX5_aim.cls ≠ "java/lang/invoke/MethodHandle" ∧ yX5_aim.cls ≠ "java/lang/invoke/VarHandle" ∧ (parseMethodDescriptor yX5_aim.desc).map (fun d => d.parameters.length) = some 3 := by decide +kernel
theorem iX5_look_X5 : ∀ w ∈ wsX50, w ∈ wsX5_look := fun w h => List.mem_cons_of_mem _ (List.mem_append_left _ (List.mem_append_left _ (List.mem_append_left _ (List.mem_append_left _ (List.mem_append_right _ h)))))
theorem fX5_look_15 : jj_F wsX5_look RX5 15 4 2 := ⟨_, _, _, rfl, by decide, iX5_look_X5, (show Cond.fieldLink RX5 15 (TX5 2).1 (TX5 2).2.1 (TX5 2).2.2.1 ∈ wsX5_look from List.mem_of_getElem? (i := 1) rfl)⟩
theorem ft_4_2 : (mm_ft 4)[2]? = some 2 := rfl
theorem sm_4_2 : s_m 4 2 = 0 := rfl
theorem an_39 : s_an 39 = 256 := rfl
theorem ak_39 : s_ak 39 = 100 := rfl
theorem sb_39 (k : Nat) : s_b 39 k = ((-2147483648), 2147483647) := rfl
theorem fX5_look_45 : jj_F wsX5_look RX5 45 4 13 := ⟨_, _, _, rfl, by decide, iX5_look_X5, (show Cond.fieldLink RX5 45 (TX5 13).1 (TX5 13).2.1 (TX5 13).2.2.1 ∈ wsX5_look from List.mem_of_getElem? (i := 2) rfl)⟩
theorem fX5_look_38 : jj_F wsX5_look RX5 38 4 11 := ⟨_, _, _, rfl, by decide, iX5_look_X5, (show Cond.fieldLink RX5 38 (TX5 11).1 (TX5 11).2.1 (TX5 11).2.2.1 ∈ wsX5_look from List.mem_of_getElem? (i := 3) rfl)⟩
theorem iX5_meet_X5 : ∀ w ∈ wsX50, w ∈ wsX5_meet := fun w h => List.mem_cons_of_mem _ (List.mem_append_left _ (List.mem_append_left _ (List.mem_append_left _ (List.mem_append_right _ h))))
theorem fX5_meet_15 : jj_F wsX5_meet RX5 15 4 2 := ⟨_, _, _, rfl, by decide, iX5_meet_X5, (show Cond.fieldLink RX5 15 (TX5 2).1 (TX5 2).2.1 (TX5 2).2.2.1 ∈ wsX5_meet from List.mem_of_getElem? (i := 1) rfl)⟩
theorem fX5_meet_52 : jj_F wsX5_meet RX5 52 4 9 := ⟨_, _, _, rfl, by decide, iX5_meet_X5, (show Cond.fieldLink RX5 52 (TX5 9).1 (TX5 9).2.1 (TX5 9).2.2.1 ∈ wsX5_meet from List.mem_of_getElem? (i := 2) rfl)⟩
theorem iX5_meet_X7 : ∀ w ∈ wsX70, w ∈ wsX5_meet := fun w h => List.mem_cons_of_mem _ (List.mem_append_left _ (List.mem_append_left _ (List.mem_append_right _ h)))
theorem fX5_meet_92 : jj_F wsX5_meet RX5 92 6 0 := ⟨_, _, _, rfl, by decide, iX5_meet_X7, (show Cond.fieldLink RX5 92 (TX7 0).1 (TX7 0).2.1 (TX7 0).2.2.1 ∈ wsX5_meet from List.mem_of_getElem? (i := 3) rfl)⟩
theorem fX5_meet_48 : jj_F wsX5_meet RX5 48 4 0 := ⟨_, _, _, rfl, by decide, iX5_meet_X5, (show Cond.fieldLink RX5 48 (TX5 0).1 (TX5 0).2.1 (TX5 0).2.2.1 ∈ wsX5_meet from List.mem_of_getElem? (i := 4) rfl)⟩
theorem fX5_meet_9 : jj_F wsX5_meet RX5 9 4 1 := ⟨_, _, _, rfl, by decide, iX5_meet_X5, (show Cond.fieldLink RX5 9 (TX5 1).1 (TX5 1).2.1 (TX5 1).2.2.1 ∈ wsX5_meet from List.mem_of_getElem? (i := 5) rfl)⟩
theorem ft_4_1 : (mm_ft 4)[1]? = some 2 := rfl
theorem sm_4_1 : s_m 4 1 = 0 := rfl
theorem ak_38 : s_ak 38 = 100 := rfl
theorem an_38 : s_an 38 = 1536 := rfl
theorem sb_38 (k : Nat) : s_b 38 k = ((-1), 7) := rfl
theorem hdX5_meet : yX5_meet.cls = RX5 ∧ yX5_meet.cls ≠ "java/lang/invoke/MethodHandle" ∧ yX5_meet.cls ≠ "java/lang/invoke/VarHandle" ∧ (parseMethodDescriptor yX5_meet.desc).map (fun d => d.parameters.length) = some 2 := by decide +kernel
theorem hdX5_look : yX5_look.cls = RX5 ∧ yX5_look.cls ≠ "java/lang/invoke/MethodHandle" ∧ yX5_look.cls ≠ "java/lang/invoke/VarHandle" ∧ (parseMethodDescriptor yX5_look.desc).map (fun d => d.parameters.length) = some 3 := by decide +kernel
theorem iX5_shortest_X5 : ∀ w ∈ wsX50, w ∈ wsX5_shortest := fun w h => List.mem_cons_of_mem _ (List.mem_append_left _ (List.mem_append_left _ (List.mem_append_right _ h)))
theorem fX5_shortest_52 : jj_F wsX5_shortest RX5 52 4 9 := ⟨_, _, _, rfl, by decide, iX5_shortest_X5, (show Cond.fieldLink RX5 52 (TX5 9).1 (TX5 9).2.1 (TX5 9).2.2.1 ∈ wsX5_shortest from List.mem_of_getElem? (i := 1) rfl)⟩
theorem iX5_shortest_X7 : ∀ w ∈ wsX70, w ∈ wsX5_shortest := fun w h => List.mem_cons_of_mem _ (List.mem_append_left _ (List.mem_append_right _ h))
theorem fX5_shortest_92 : jj_F wsX5_shortest RX5 92 6 0 := ⟨_, _, _, rfl, by decide, iX5_shortest_X7, (show Cond.fieldLink RX5 92 (TX7 0).1 (TX7 0).2.1 (TX7 0).2.2.1 ∈ wsX5_shortest from List.mem_of_getElem? (i := 2) rfl)⟩
theorem iX5_measure_X5 : ∀ w ∈ wsX50, w ∈ wsX5_measure := fun w h => List.mem_cons_of_mem _ (List.mem_append_left _ (List.mem_append_left _ (List.mem_append_right _ h)))
theorem fX5_measure_38 : jj_F wsX5_measure RX5 38 4 11 := ⟨_, _, _, rfl, by decide, iX5_measure_X5, (show Cond.fieldLink RX5 38 (TX5 11).1 (TX5 11).2.1 (TX5 11).2.2.1 ∈ wsX5_measure from List.mem_of_getElem? (i := 1) rfl)⟩
theorem fX5_measure_45 : jj_F wsX5_measure RX5 45 4 13 := ⟨_, _, _, rfl, by decide, iX5_measure_X5, (show Cond.fieldLink RX5 45 (TX5 13).1 (TX5 13).2.1 (TX5 13).2.2.1 ∈ wsX5_measure from List.mem_of_getElem? (i := 2) rfl)⟩
theorem fX5_measure_15 : jj_F wsX5_measure RX5 15 4 2 := ⟨_, _, _, rfl, by decide, iX5_measure_X5, (show Cond.fieldLink RX5 15 (TX5 2).1 (TX5 2).2.1 (TX5 2).2.2.1 ∈ wsX5_measure from List.mem_of_getElem? (i := 3) rfl)⟩
theorem fX5_measure_18 : jj_F wsX5_measure RX5 18 4 3 := ⟨_, _, _, rfl, by decide, iX5_measure_X5, (show Cond.fieldLink RX5 18 (TX5 3).1 (TX5 3).2.1 (TX5 3).2.2.1 ∈ wsX5_measure from List.mem_of_getElem? (i := 4) rfl)⟩
theorem ft_4_3 : (mm_ft 4)[3]? = some 2 := rfl
theorem sm_4_3 : s_m 4 3 = 0 := rfl
theorem iX5_isShutAt_X5 : ∀ w ∈ wsX50, w ∈ wsX5_isShutAt := fun w h => List.mem_cons_of_mem _ (List.mem_append_left _ (List.mem_append_right _ h))
theorem fX5_isShutAt_42 : jj_F wsX5_isShutAt RX5 42 4 12 := ⟨_, _, _, rfl, by decide, iX5_isShutAt_X5, (show Cond.fieldLink RX5 42 (TX5 12).1 (TX5 12).2.1 (TX5 12).2.2.1 ∈ wsX5_isShutAt from List.mem_of_getElem? (i := 1) rfl)⟩
theorem hdX5_isShutAt : yX5_isShutAt.cls = RX5 ∧ yX5_isShutAt.cls ≠ "java/lang/invoke/MethodHandle" ∧ yX5_isShutAt.cls ≠ "java/lang/invoke/VarHandle" ∧ (parseMethodDescriptor yX5_isShutAt.desc).map (fun d => d.parameters.length) = some 1 := by decide +kernel
theorem iX5_stepsFrom_X5 : ∀ w ∈ wsX50, w ∈ wsX5_stepsFrom := fun w h => List.mem_cons_of_mem _ (List.mem_append_left _ (List.mem_append_left _ (List.mem_append_right _ h)))
theorem fX5_stepsFrom_52 : jj_F wsX5_stepsFrom RX5 52 4 9 := ⟨_, _, _, rfl, by decide, iX5_stepsFrom_X5, (show Cond.fieldLink RX5 52 (TX5 9).1 (TX5 9).2.1 (TX5 9).2.2.1 ∈ wsX5_stepsFrom from List.mem_of_getElem? (i := 1) rfl)⟩
theorem iX5_stepsFrom_X7 : ∀ w ∈ wsX70, w ∈ wsX5_stepsFrom := fun w h => List.mem_cons_of_mem _ (List.mem_append_left _ (List.mem_append_right _ h))
theorem fX5_stepsFrom_92 : jj_F wsX5_stepsFrom RX5 92 6 0 := ⟨_, _, _, rfl, by decide, iX5_stepsFrom_X7, (show Cond.fieldLink RX5 92 (TX7 0).1 (TX7 0).2.1 (TX7 0).2.2.1 ∈ wsX5_stepsFrom from List.mem_of_getElem? (i := 2) rfl)⟩
theorem iX5_pick_X5 : ∀ w ∈ wsX50, w ∈ wsX5_pick := fun w h => List.mem_cons_of_mem _ (List.mem_append_left _ (List.mem_append_right _ h))
theorem fX5_pick_9 : jj_F wsX5_pick RX5 9 4 1 := ⟨_, _, _, rfl, by decide, iX5_pick_X5, (show Cond.fieldLink RX5 9 (TX5 1).1 (TX5 1).2.1 (TX5 1).2.2.1 ∈ wsX5_pick from List.mem_of_getElem? (i := 1) rfl)⟩
theorem hdX5_pick : yX5_pick.cls = RX5 ∧ yX5_pick.cls ≠ "java/lang/invoke/MethodHandle" ∧ yX5_pick.cls ≠ "java/lang/invoke/VarHandle" ∧ (parseMethodDescriptor yX5_pick.desc).map (fun d => d.parameters.length) = some 2 := by decide +kernel
theorem fX5_stepsFrom_18 : jj_F wsX5_stepsFrom RX5 18 4 3 := ⟨_, _, _, rfl, by decide, iX5_stepsFrom_X5, (show Cond.fieldLink RX5 18 (TX5 3).1 (TX5 3).2.1 (TX5 3).2.2.1 ∈ wsX5_stepsFrom from List.mem_of_getElem? (i := 3) rfl)⟩
theorem sb_40 (k : Nat) : s_b 40 k = ((-2147483648), 2147483647) := rfl
theorem ak_40 : s_ak 40 = 100 := rfl
theorem an_40 : s_an 40 = 256 := rfl
theorem hdX5_stepsFrom : yX5_stepsFrom.cls = RX5 ∧ yX5_stepsFrom.cls ≠ "java/lang/invoke/MethodHandle" ∧ yX5_stepsFrom.cls ≠ "java/lang/invoke/VarHandle" ∧ (parseMethodDescriptor yX5_stepsFrom.desc).map (fun d => d.parameters.length) = some 2 := by decide +kernel
theorem hdX5_measure : yX5_measure.cls = RX5 ∧ yX5_measure.cls ≠ "java/lang/invoke/MethodHandle" ∧ yX5_measure.cls ≠ "java/lang/invoke/VarHandle" ∧ (parseMethodDescriptor yX5_measure.desc).map (fun d => d.parameters.length) = some 1 := by decide +kernel
theorem hdX5_shortest : yX5_shortest.cls = RX5 ∧ yX5_shortest.cls ≠ "java/lang/invoke/MethodHandle" ∧ yX5_shortest.cls ≠ "java/lang/invoke/VarHandle" ∧ (parseMethodDescriptor yX5_shortest.desc).map (fun d => d.parameters.length) = some 0 := by decide +kernel
theorem iX11_endingBy_X11 : ∀ w ∈ wsX110, w ∈ wsX11_endingBy := fun w h => List.mem_cons_of_mem _ (List.mem_append_left _ (List.mem_append_left _ (List.mem_append_left _ (List.mem_append_left _ (List.mem_append_left _ (List.mem_append_right _ h))))))
theorem fX11_endingBy_94 : jj_F wsX11_endingBy RX11 94 10 14 := ⟨_, _, _, rfl, by decide, iX11_endingBy_X11, (show Cond.fieldLink RX11 94 (TX11 14).1 (TX11 14).2.1 (TX11 14).2.2.1 ∈ wsX11_endingBy from List.mem_of_getElem? (i := 1) rfl)⟩
theorem fX11_endingBy_26 : jj_F wsX11_endingBy RX11 26 10 4 := ⟨_, _, _, rfl, by decide, iX11_endingBy_X11, (show Cond.fieldLink RX11 26 (TX11 4).1 (TX11 4).2.1 (TX11 4).2.2.1 ∈ wsX11_endingBy from List.mem_of_getElem? (i := 2) rfl)⟩
theorem fX11_endingBy_36 : jj_F wsX11_endingBy RX11 36 10 6 := ⟨_, _, _, rfl, by decide, iX11_endingBy_X11, (show Cond.fieldLink RX11 36 (TX11 6).1 (TX11 6).2.1 (TX11 6).2.2.1 ∈ wsX11_endingBy from List.mem_of_getElem? (i := 3) rfl)⟩
theorem iX11_endingBy_X9 : ∀ w ∈ wsX90, w ∈ wsX11_endingBy := fun w h => List.mem_cons_of_mem _ (List.mem_append_left _ (List.mem_append_left _ (List.mem_append_left _ (List.mem_append_left _ (List.mem_append_right _ h)))))
theorem fX11_endingBy_153 : jj_F wsX11_endingBy RX11 153 8 4 := ⟨_, _, _, rfl, by decide, iX11_endingBy_X9, (show Cond.fieldLink RX11 153 (TX9 4).1 (TX9 4).2.1 (TX9 4).2.2.1 ∈ wsX11_endingBy from List.mem_of_getElem? (i := 4) rfl)⟩
theorem iX5_comerAt_X5 : ∀ w ∈ wsX50, w ∈ wsX5_comerAt := fun w h => List.mem_cons_of_mem _ (List.mem_append_left _ (List.mem_append_left _ (List.mem_append_right _ h)))
theorem fX5_comerAt_45 : jj_F wsX5_comerAt RX5 45 4 13 := ⟨_, _, _, rfl, by decide, iX5_comerAt_X5, (show Cond.fieldLink RX5 45 (TX5 13).1 (TX5 13).2.1 (TX5 13).2.2.1 ∈ wsX5_comerAt from List.mem_of_getElem? (i := 1) rfl)⟩
theorem iX5_nearestComer_X5 : ∀ w ∈ wsX50, w ∈ wsX5_nearestComer := fun w h => List.mem_cons_of_mem _ (List.mem_append_left _ (List.mem_append_left _ (List.mem_append_right _ h)))
theorem fX5_nearestComer_52 : jj_F wsX5_nearestComer RX5 52 4 9 := ⟨_, _, _, rfl, by decide, iX5_nearestComer_X5, (show Cond.fieldLink RX5 52 (TX5 9).1 (TX5 9).2.1 (TX5 9).2.2.1 ∈ wsX5_nearestComer from List.mem_of_getElem? (i := 1) rfl)⟩
theorem iX5_nearestComer_X7 : ∀ w ∈ wsX70, w ∈ wsX5_nearestComer := fun w h => List.mem_cons_of_mem _ (List.mem_append_left _ (List.mem_append_right _ h))
theorem fX5_nearestComer_92 : jj_F wsX5_nearestComer RX5 92 6 0 := ⟨_, _, _, rfl, by decide, iX5_nearestComer_X7, (show Cond.fieldLink RX5 92 (TX7 0).1 (TX7 0).2.1 (TX7 0).2.2.1 ∈ wsX5_nearestComer from List.mem_of_getElem? (i := 2) rfl)⟩
theorem fX5_nearestComer_18 : jj_F wsX5_nearestComer RX5 18 4 3 := ⟨_, _, _, rfl, by decide, iX5_nearestComer_X5, (show Cond.fieldLink RX5 18 (TX5 3).1 (TX5 3).2.1 (TX5 3).2.2.1 ∈ wsX5_nearestComer from List.mem_of_getElem? (i := 3) rfl)⟩
theorem hdX5_nearestComer : yX5_nearestComer.cls = RX5 ∧ yX5_nearestComer.cls ≠ "java/lang/invoke/MethodHandle" ∧ yX5_nearestComer.cls ≠ "java/lang/invoke/VarHandle" ∧ (parseMethodDescriptor yX5_nearestComer.desc).map (fun d => d.parameters.length) = some 1 := by decide +kernel
theorem hdX5_comerAt : yX5_comerAt.cls = RX5 ∧ yX5_comerAt.cls ≠ "java/lang/invoke/MethodHandle" ∧ yX5_comerAt.cls ≠ "java/lang/invoke/VarHandle" ∧ (parseMethodDescriptor yX5_comerAt.desc).map (fun d => d.parameters.length) = some 1 := by decide +kernel
theorem kX11_endings_272 : Cond.constantLong RX11 272 (-3) ∈ wsX11_endings := List.mem_of_getElem? (i := 1) rfl
theorem iX11_endings_X11 : ∀ w ∈ wsX110, w ∈ wsX11_endings := fun w h => List.mem_cons_of_mem _ (List.mem_append_left _ (List.mem_append_left _ (List.mem_append_left _ (List.mem_append_left _ (List.mem_append_left _ (List.mem_append_right _ h))))))
theorem fX11_endings_94 : jj_F wsX11_endings RX11 94 10 14 := ⟨_, _, _, rfl, by decide, iX11_endings_X11, (show Cond.fieldLink RX11 94 (TX11 14).1 (TX11 14).2.1 (TX11 14).2.2.1 ∈ wsX11_endings from List.mem_of_getElem? (i := 2) rfl)⟩
theorem fX11_endings_26 : jj_F wsX11_endings RX11 26 10 4 := ⟨_, _, _, rfl, by decide, iX11_endings_X11, (show Cond.fieldLink RX11 26 (TX11 4).1 (TX11 4).2.1 (TX11 4).2.2.1 ∈ wsX11_endings from List.mem_of_getElem? (i := 3) rfl)⟩
theorem fX11_endings_36 : jj_F wsX11_endings RX11 36 10 6 := ⟨_, _, _, rfl, by decide, iX11_endings_X11, (show Cond.fieldLink RX11 36 (TX11 6).1 (TX11 6).2.1 (TX11 6).2.2.1 ∈ wsX11_endings from List.mem_of_getElem? (i := 4) rfl)⟩
theorem iX11_endings_X9 : ∀ w ∈ wsX90, w ∈ wsX11_endings := fun w h => List.mem_cons_of_mem _ (List.mem_append_left _ (List.mem_append_left _ (List.mem_append_left _ (List.mem_append_left _ (List.mem_append_right _ h)))))
theorem fX11_endings_153 : jj_F wsX11_endings RX11 153 8 4 := ⟨_, _, _, rfl, by decide, iX11_endings_X9, (show Cond.fieldLink RX11 153 (TX9 4).1 (TX9 4).2.1 (TX9 4).2.2.1 ∈ wsX11_endings from List.mem_of_getElem? (i := 5) rfl)⟩
theorem iX5_beginRows_X5 : ∀ w ∈ wsX50, w ∈ wsX5_beginRows := fun w h => List.mem_cons_of_mem _ (List.mem_append_left _ (List.mem_append_right _ h))
theorem fX5_beginRows_21 : jj_F wsX5_beginRows RX5 21 4 4 := ⟨_, _, _, rfl, by decide, iX5_beginRows_X5, (show Cond.fieldLink RX5 21 (TX5 4).1 (TX5 4).2.1 (TX5 4).2.2.1 ∈ wsX5_beginRows from List.mem_of_getElem? (i := 1) rfl)⟩
theorem ft_4_4 : (mm_ft 4)[4]? = some 2 := rfl
theorem sm_4_4 : s_m 4 4 = 41 := rfl
theorem an_41 : s_an 41 = 256 := rfl
theorem ak_41 : s_ak 41 = 102 := rfl
theorem hdJ7_fill_d0a16s : yJ7_fill_d0a16.cls ≠ "java/lang/invoke/MethodHandle" ∧ yJ7_fill_d0a16.cls ≠ "java/lang/invoke/VarHandle" ∧ (parseMethodDescriptor yJ7_fill_d0a16.desc).map (fun d => d.parameters.length) = some 2 := by decide +kernel
theorem fX5_beginRows_45 : jj_F wsX5_beginRows RX5 45 4 13 := ⟨_, _, _, rfl, by decide, iX5_beginRows_X5, (show Cond.fieldLink RX5 45 (TX5 13).1 (TX5 13).2.1 (TX5 13).2.2.1 ∈ wsX5_beginRows from List.mem_of_getElem? (i := 2) rfl)⟩
theorem hdX5_beginRows : yX5_beginRows.cls = RX5 ∧ yX5_beginRows.cls ≠ "java/lang/invoke/MethodHandle" ∧ yX5_beginRows.cls ≠ "java/lang/invoke/VarHandle" ∧ (parseMethodDescriptor yX5_beginRows.desc).map (fun d => d.parameters.length) = some 0 := by decide +kernel
theorem iX5_lengthenRows_X5 : ∀ w ∈ wsX50, w ∈ wsX5_lengthenRows := fun w h => List.mem_cons_of_mem _ (List.mem_append_left _ (List.mem_append_left _ (List.mem_append_right _ h)))
theorem fX5_lengthenRows_25 : jj_F wsX5_lengthenRows RX5 25 4 5 := ⟨_, _, _, rfl, by decide, iX5_lengthenRows_X5, (show Cond.fieldLink RX5 25 (TX5 5).1 (TX5 5).2.1 (TX5 5).2.2.1 ∈ wsX5_lengthenRows from List.mem_of_getElem? (i := 1) rfl)⟩
theorem ft_4_5 : (mm_ft 4)[5]? = some 2 := rfl
theorem sm_4_5 : s_m 4 5 = 41 := rfl
theorem fX5_lengthenRows_45 : jj_F wsX5_lengthenRows RX5 45 4 13 := ⟨_, _, _, rfl, by decide, iX5_lengthenRows_X5, (show Cond.fieldLink RX5 45 (TX5 13).1 (TX5 13).2.1 (TX5 13).2.2.1 ∈ wsX5_lengthenRows from List.mem_of_getElem? (i := 2) rfl)⟩
theorem fX5_lengthenRows_38 : jj_F wsX5_lengthenRows RX5 38 4 11 := ⟨_, _, _, rfl, by decide, iX5_lengthenRows_X5, (show Cond.fieldLink RX5 38 (TX5 11).1 (TX5 11).2.1 (TX5 11).2.2.1 ∈ wsX5_lengthenRows from List.mem_of_getElem? (i := 3) rfl)⟩
theorem fX5_lengthenRows_52 : jj_F wsX5_lengthenRows RX5 52 4 9 := ⟨_, _, _, rfl, by decide, iX5_lengthenRows_X5, (show Cond.fieldLink RX5 52 (TX5 9).1 (TX5 9).2.1 (TX5 9).2.2.1 ∈ wsX5_lengthenRows from List.mem_of_getElem? (i := 4) rfl)⟩
theorem iX5_lengthenRows_X7 : ∀ w ∈ wsX70, w ∈ wsX5_lengthenRows := fun w h => List.mem_cons_of_mem _ (List.mem_append_left _ (List.mem_append_right _ h))
theorem fX5_lengthenRows_92 : jj_F wsX5_lengthenRows RX5 92 6 0 := ⟨_, _, _, rfl, by decide, iX5_lengthenRows_X7, (show Cond.fieldLink RX5 92 (TX7 0).1 (TX7 0).2.1 (TX7 0).2.2.1 ∈ wsX5_lengthenRows from List.mem_of_getElem? (i := 5) rfl)⟩
theorem fX5_lengthenRows_21 : jj_F wsX5_lengthenRows RX5 21 4 4 := ⟨_, _, _, rfl, by decide, iX5_lengthenRows_X5, (show Cond.fieldLink RX5 21 (TX5 4).1 (TX5 4).2.1 (TX5 4).2.2.1 ∈ wsX5_lengthenRows from List.mem_of_getElem? (i := 6) rfl)⟩
theorem iX5_swapWays_X5 : ∀ w ∈ wsX50, w ∈ wsX5_swapWays := fun w h => List.mem_cons_of_mem _ (List.mem_append_left _ (List.mem_append_right _ h))
theorem fX5_swapWays_21 : jj_F wsX5_swapWays RX5 21 4 4 := ⟨_, _, _, rfl, by decide, iX5_swapWays_X5, (show Cond.fieldLink RX5 21 (TX5 4).1 (TX5 4).2.1 (TX5 4).2.2.1 ∈ wsX5_swapWays from List.mem_of_getElem? (i := 1) rfl)⟩
theorem fX5_swapWays_25 : jj_F wsX5_swapWays RX5 25 4 5 := ⟨_, _, _, rfl, by decide, iX5_swapWays_X5, (show Cond.fieldLink RX5 25 (TX5 5).1 (TX5 5).2.1 (TX5 5).2.2.1 ∈ wsX5_swapWays from List.mem_of_getElem? (i := 2) rfl)⟩
theorem qX5_swapWays_21 : jj_P wsX5_swapWays RX5 21 4 4 (.array .long) := ⟨_, _, _, tyX5, rfl, by decide, iX5_swapWays_X5, (show Cond.fieldLink RX5 21 (TX5 4).1 (TX5 4).2.1 (TX5 4).2.2.1 ∈ wsX5_swapWays from List.mem_of_getElem? (i := 1) rfl), tyX5_ok, nmX5, rfl, by decide +kernel⟩
theorem qX5_swapWays_25 : jj_P wsX5_swapWays RX5 25 4 5 (.array .long) := ⟨_, _, _, tyX5, rfl, by decide, iX5_swapWays_X5, (show Cond.fieldLink RX5 25 (TX5 5).1 (TX5 5).2.1 (TX5 5).2.2.1 ∈ wsX5_swapWays from List.mem_of_getElem? (i := 2) rfl), tyX5_ok, nmX5, rfl, by decide +kernel⟩
theorem hdX5_swapWays : yX5_swapWays.cls = RX5 ∧ yX5_swapWays.cls ≠ "java/lang/invoke/MethodHandle" ∧ yX5_swapWays.cls ≠ "java/lang/invoke/VarHandle" ∧ (parseMethodDescriptor yX5_swapWays.desc).map (fun d => d.parameters.length) = some 0 := by decide +kernel
theorem hdX5_lengthenRows : yX5_lengthenRows.cls = RX5 ∧ yX5_lengthenRows.cls ≠ "java/lang/invoke/MethodHandle" ∧ yX5_lengthenRows.cls ≠ "java/lang/invoke/VarHandle" ∧ (parseMethodDescriptor yX5_lengthenRows.desc).map (fun d => d.parameters.length) = some 1 := by decide +kernel
theorem iX5_allWays_X5 : ∀ w ∈ wsX50, w ∈ wsX5_allWays := fun w h => List.mem_cons_of_mem _ (List.mem_append_left _ (List.mem_append_right _ h))
theorem fX5_allWays_45 : jj_F wsX5_allWays RX5 45 4 13 := ⟨_, _, _, rfl, by decide, iX5_allWays_X5, (show Cond.fieldLink RX5 45 (TX5 13).1 (TX5 13).2.1 (TX5 13).2.2.1 ∈ wsX5_allWays from List.mem_of_getElem? (i := 1) rfl)⟩
theorem fX5_allWays_38 : jj_F wsX5_allWays RX5 38 4 11 := ⟨_, _, _, rfl, by decide, iX5_allWays_X5, (show Cond.fieldLink RX5 38 (TX5 11).1 (TX5 11).2.1 (TX5 11).2.2.1 ∈ wsX5_allWays from List.mem_of_getElem? (i := 2) rfl)⟩
theorem fX5_allWays_21 : jj_F wsX5_allWays RX5 21 4 4 := ⟨_, _, _, rfl, by decide, iX5_allWays_X5, (show Cond.fieldLink RX5 21 (TX5 4).1 (TX5 4).2.1 (TX5 4).2.2.1 ∈ wsX5_allWays from List.mem_of_getElem? (i := 3) rfl)⟩
theorem hdX5_allWays : yX5_allWays.cls = RX5 ∧ yX5_allWays.cls ≠ "java/lang/invoke/MethodHandle" ∧ yX5_allWays.cls ≠ "java/lang/invoke/VarHandle" ∧ (parseMethodDescriptor yX5_allWays.desc).map (fun d => d.parameters.length) = some 0 := by decide +kernel
theorem iX5_openWays_X5 : ∀ w ∈ wsX50, w ∈ wsX5_openWays := fun w h => List.mem_cons_of_mem _ (List.mem_append_left _ (List.mem_append_right _ h))
theorem fX5_openWays_45 : jj_F wsX5_openWays RX5 45 4 13 := ⟨_, _, _, rfl, by decide, iX5_openWays_X5, (show Cond.fieldLink RX5 45 (TX5 13).1 (TX5 13).2.1 (TX5 13).2.2.1 ∈ wsX5_openWays from List.mem_of_getElem? (i := 1) rfl)⟩
theorem fX5_openWays_38 : jj_F wsX5_openWays RX5 38 4 11 := ⟨_, _, _, rfl, by decide, iX5_openWays_X5, (show Cond.fieldLink RX5 38 (TX5 11).1 (TX5 11).2.1 (TX5 11).2.2.1 ∈ wsX5_openWays from List.mem_of_getElem? (i := 2) rfl)⟩
theorem fX5_openWays_21 : jj_F wsX5_openWays RX5 21 4 4 := ⟨_, _, _, rfl, by decide, iX5_openWays_X5, (show Cond.fieldLink RX5 21 (TX5 4).1 (TX5 4).2.1 (TX5 4).2.2.1 ∈ wsX5_openWays from List.mem_of_getElem? (i := 3) rfl)⟩
theorem hdX5_openWays : yX5_openWays.cls = RX5 ∧ yX5_openWays.cls ≠ "java/lang/invoke/MethodHandle" ∧ yX5_openWays.cls ≠ "java/lang/invoke/VarHandle" ∧ (parseMethodDescriptor yX5_openWays.desc).map (fun d => d.parameters.length) = some 0 := by decide +kernel
theorem hdX5_rowsToShut : yX5_rowsToShut.cls = RX5 ∧ yX5_rowsToShut.cls ≠ "java/lang/invoke/MethodHandle" ∧ yX5_rowsToShut.cls ≠ "java/lang/invoke/VarHandle" ∧ (parseMethodDescriptor yX5_rowsToShut.desc).map (fun d => d.parameters.length) = some 1 := by decide +kernel
theorem iX11_needed_X11 : ∀ w ∈ wsX110, w ∈ wsX11_needed := fun w h => List.mem_cons_of_mem _ (List.mem_append_left _ (List.mem_append_left _ (List.mem_append_left _ (List.mem_append_left _ (List.mem_append_left _ (List.mem_append_right _ h))))))
theorem fX11_needed_94 : jj_F wsX11_needed RX11 94 10 14 := ⟨_, _, _, rfl, by decide, iX11_needed_X11, (show Cond.fieldLink RX11 94 (TX11 14).1 (TX11 14).2.1 (TX11 14).2.2.1 ∈ wsX11_needed from List.mem_of_getElem? (i := 1) rfl)⟩
theorem fX11_needed_26 : jj_F wsX11_needed RX11 26 10 4 := ⟨_, _, _, rfl, by decide, iX11_needed_X11, (show Cond.fieldLink RX11 26 (TX11 4).1 (TX11 4).2.1 (TX11 4).2.2.1 ∈ wsX11_needed from List.mem_of_getElem? (i := 2) rfl)⟩
theorem fX11_needed_36 : jj_F wsX11_needed RX11 36 10 6 := ⟨_, _, _, rfl, by decide, iX11_needed_X11, (show Cond.fieldLink RX11 36 (TX11 6).1 (TX11 6).2.1 (TX11 6).2.2.1 ∈ wsX11_needed from List.mem_of_getElem? (i := 3) rfl)⟩
theorem iX11_needed_X9 : ∀ w ∈ wsX90, w ∈ wsX11_needed := fun w h => List.mem_cons_of_mem _ (List.mem_append_left _ (List.mem_append_left _ (List.mem_append_left _ (List.mem_append_left _ (List.mem_append_right _ h)))))
theorem fX11_needed_153 : jj_F wsX11_needed RX11 153 8 4 := ⟨_, _, _, rfl, by decide, iX11_needed_X9, (show Cond.fieldLink RX11 153 (TX9 4).1 (TX9 4).2.1 (TX9 4).2.2.1 ∈ wsX11_needed from List.mem_of_getElem? (i := 4) rfl)⟩
theorem iX5_neededBuyers_X5 : ∀ w ∈ wsX50, w ∈ wsX5_neededBuyers := fun w h => List.mem_cons_of_mem _ (List.mem_append_left _ (List.mem_append_left _ (List.mem_append_right _ h)))
theorem fX5_neededBuyers_52 : jj_F wsX5_neededBuyers RX5 52 4 9 := ⟨_, _, _, rfl, by decide, iX5_neededBuyers_X5, (show Cond.fieldLink RX5 52 (TX5 9).1 (TX5 9).2.1 (TX5 9).2.2.1 ∈ wsX5_neededBuyers from List.mem_of_getElem? (i := 1) rfl)⟩
theorem iX5_neededBuyers_X7 : ∀ w ∈ wsX70, w ∈ wsX5_neededBuyers := fun w h => List.mem_cons_of_mem _ (List.mem_append_left _ (List.mem_append_right _ h))
theorem fX5_neededBuyers_92 : jj_F wsX5_neededBuyers RX5 92 6 0 := ⟨_, _, _, rfl, by decide, iX5_neededBuyers_X7, (show Cond.fieldLink RX5 92 (TX7 0).1 (TX7 0).2.1 (TX7 0).2.2.1 ∈ wsX5_neededBuyers from List.mem_of_getElem? (i := 2) rfl)⟩
theorem hdX5_neededBuyers : yX5_neededBuyers.cls = RX5 ∧ yX5_neededBuyers.cls ≠ "java/lang/invoke/MethodHandle" ∧ yX5_neededBuyers.cls ≠ "java/lang/invoke/VarHandle" ∧ (parseMethodDescriptor yX5_neededBuyers.desc).map (fun d => d.parameters.length) = some 0 := by decide +kernel
theorem iX11_sellable_X11 : ∀ w ∈ wsX110, w ∈ wsX11_sellable := fun w h => List.mem_cons_of_mem _ (List.mem_append_left _ (List.mem_append_left _ (List.mem_append_left _ (List.mem_append_left _ (List.mem_append_left _ (List.mem_append_right _ h))))))
theorem fX11_sellable_94 : jj_F wsX11_sellable RX11 94 10 14 := ⟨_, _, _, rfl, by decide, iX11_sellable_X11, (show Cond.fieldLink RX11 94 (TX11 14).1 (TX11 14).2.1 (TX11 14).2.2.1 ∈ wsX11_sellable from List.mem_of_getElem? (i := 1) rfl)⟩
theorem fX11_sellable_26 : jj_F wsX11_sellable RX11 26 10 4 := ⟨_, _, _, rfl, by decide, iX11_sellable_X11, (show Cond.fieldLink RX11 26 (TX11 4).1 (TX11 4).2.1 (TX11 4).2.2.1 ∈ wsX11_sellable from List.mem_of_getElem? (i := 2) rfl)⟩
theorem fX11_sellable_36 : jj_F wsX11_sellable RX11 36 10 6 := ⟨_, _, _, rfl, by decide, iX11_sellable_X11, (show Cond.fieldLink RX11 36 (TX11 6).1 (TX11 6).2.1 (TX11 6).2.2.1 ∈ wsX11_sellable from List.mem_of_getElem? (i := 3) rfl)⟩
theorem iX11_sellable_X9 : ∀ w ∈ wsX90, w ∈ wsX11_sellable := fun w h => List.mem_cons_of_mem _ (List.mem_append_left _ (List.mem_append_left _ (List.mem_append_left _ (List.mem_append_left _ (List.mem_append_right _ h)))))
theorem fX11_sellable_153 : jj_F wsX11_sellable RX11 153 8 4 := ⟨_, _, _, rfl, by decide, iX11_sellable_X9, (show Cond.fieldLink RX11 153 (TX9 4).1 (TX9 4).2.1 (TX9 4).2.2.1 ∈ wsX11_sellable from List.mem_of_getElem? (i := 4) rfl)⟩
theorem iX5_everSold_X5 : ∀ w ∈ wsX50, w ∈ wsX5_everSold := fun w h => List.mem_cons_of_mem _ (List.mem_append_left _ (List.mem_append_right _ h))
theorem fX5_everSold_45 : jj_F wsX5_everSold RX5 45 4 13 := ⟨_, _, _, rfl, by decide, iX5_everSold_X5, (show Cond.fieldLink RX5 45 (TX5 13).1 (TX5 13).2.1 (TX5 13).2.2.1 ∈ wsX5_everSold from List.mem_of_getElem? (i := 1) rfl)⟩
theorem fX5_everSold_38 : jj_F wsX5_everSold RX5 38 4 11 := ⟨_, _, _, rfl, by decide, iX5_everSold_X5, (show Cond.fieldLink RX5 38 (TX5 11).1 (TX5 11).2.1 (TX5 11).2.2.1 ∈ wsX5_everSold from List.mem_of_getElem? (i := 2) rfl)⟩
theorem fX5_everSold_15 : jj_F wsX5_everSold RX5 15 4 2 := ⟨_, _, _, rfl, by decide, iX5_everSold_X5, (show Cond.fieldLink RX5 15 (TX5 2).1 (TX5 2).2.1 (TX5 2).2.2.1 ∈ wsX5_everSold from List.mem_of_getElem? (i := 3) rfl)⟩
theorem hdX5_everSold : yX5_everSold.cls = RX5 ∧ yX5_everSold.cls ≠ "java/lang/invoke/MethodHandle" ∧ yX5_everSold.cls ≠ "java/lang/invoke/VarHandle" ∧ (parseMethodDescriptor yX5_everSold.desc).map (fun d => d.parameters.length) = some 0 := by decide +kernel
theorem iX11_guards_X11 : ∀ w ∈ wsX110, w ∈ wsX11_guards := fun w h => List.mem_cons_of_mem _ (List.mem_append_left _ (List.mem_append_left _ (List.mem_append_left _ (List.mem_append_left _ (List.mem_append_left _ (List.mem_append_right _ h))))))
theorem fX11_guards_94 : jj_F wsX11_guards RX11 94 10 14 := ⟨_, _, _, rfl, by decide, iX11_guards_X11, (show Cond.fieldLink RX11 94 (TX11 14).1 (TX11 14).2.1 (TX11 14).2.2.1 ∈ wsX11_guards from List.mem_of_getElem? (i := 1) rfl)⟩
theorem fX11_guards_26 : jj_F wsX11_guards RX11 26 10 4 := ⟨_, _, _, rfl, by decide, iX11_guards_X11, (show Cond.fieldLink RX11 26 (TX11 4).1 (TX11 4).2.1 (TX11 4).2.2.1 ∈ wsX11_guards from List.mem_of_getElem? (i := 2) rfl)⟩
theorem fX11_guards_36 : jj_F wsX11_guards RX11 36 10 6 := ⟨_, _, _, rfl, by decide, iX11_guards_X11, (show Cond.fieldLink RX11 36 (TX11 6).1 (TX11 6).2.1 (TX11 6).2.2.1 ∈ wsX11_guards from List.mem_of_getElem? (i := 3) rfl)⟩
theorem iX11_guards_X9 : ∀ w ∈ wsX90, w ∈ wsX11_guards := fun w h => List.mem_cons_of_mem _ (List.mem_append_left _ (List.mem_append_left _ (List.mem_append_left _ (List.mem_append_left _ (List.mem_append_right _ h)))))
theorem fX11_guards_153 : jj_F wsX11_guards RX11 153 8 4 := ⟨_, _, _, rfl, by decide, iX11_guards_X9, (show Cond.fieldLink RX11 153 (TX9 4).1 (TX9 4).2.1 (TX9 4).2.2.1 ∈ wsX11_guards from List.mem_of_getElem? (i := 4) rfl)⟩
theorem fX11_guards_160 : jj_F wsX11_guards RX11 160 8 0 := ⟨_, _, _, rfl, by decide, iX11_guards_X9, (show Cond.fieldLink RX11 160 (TX9 0).1 (TX9 0).2.1 (TX9 0).2.2.1 ∈ wsX11_guards from List.mem_of_getElem? (i := 5) rfl)⟩
theorem iX11_last_X11 : ∀ w ∈ wsX110, w ∈ wsX11_last := fun w h => List.mem_cons_of_mem _ (List.mem_append_left _ (List.mem_append_left _ (List.mem_append_left _ (List.mem_append_left _ (List.mem_append_left _ (List.mem_append_right _ h))))))
theorem fX11_last_94 : jj_F wsX11_last RX11 94 10 14 := ⟨_, _, _, rfl, by decide, iX11_last_X11, (show Cond.fieldLink RX11 94 (TX11 14).1 (TX11 14).2.1 (TX11 14).2.2.1 ∈ wsX11_last from List.mem_of_getElem? (i := 1) rfl)⟩
theorem fX11_last_26 : jj_F wsX11_last RX11 26 10 4 := ⟨_, _, _, rfl, by decide, iX11_last_X11, (show Cond.fieldLink RX11 26 (TX11 4).1 (TX11 4).2.1 (TX11 4).2.2.1 ∈ wsX11_last from List.mem_of_getElem? (i := 2) rfl)⟩
theorem fX11_last_36 : jj_F wsX11_last RX11 36 10 6 := ⟨_, _, _, rfl, by decide, iX11_last_X11, (show Cond.fieldLink RX11 36 (TX11 6).1 (TX11 6).2.1 (TX11 6).2.2.1 ∈ wsX11_last from List.mem_of_getElem? (i := 3) rfl)⟩
theorem iX11_last_X9 : ∀ w ∈ wsX90, w ∈ wsX11_last := fun w h => List.mem_cons_of_mem _ (List.mem_append_left _ (List.mem_append_left _ (List.mem_append_left _ (List.mem_append_left _ (List.mem_append_right _ h)))))
theorem fX11_last_153 : jj_F wsX11_last RX11 153 8 4 := ⟨_, _, _, rfl, by decide, iX11_last_X9, (show Cond.fieldLink RX11 153 (TX9 4).1 (TX9 4).2.1 (TX9 4).2.2.1 ∈ wsX11_last from List.mem_of_getElem? (i := 4) rfl)⟩
theorem iX5_lastLeft_X5 : ∀ w ∈ wsX50, w ∈ wsX5_lastLeft := fun w h => List.mem_cons_of_mem _ (List.mem_append_left _ (List.mem_append_right _ h))
theorem fX5_lastLeft_45 : jj_F wsX5_lastLeft RX5 45 4 13 := ⟨_, _, _, rfl, by decide, iX5_lastLeft_X5, (show Cond.fieldLink RX5 45 (TX5 13).1 (TX5 13).2.1 (TX5 13).2.2.1 ∈ wsX5_lastLeft from List.mem_of_getElem? (i := 1) rfl)⟩
theorem fX5_lastLeft_38 : jj_F wsX5_lastLeft RX5 38 4 11 := ⟨_, _, _, rfl, by decide, iX5_lastLeft_X5, (show Cond.fieldLink RX5 38 (TX5 11).1 (TX5 11).2.1 (TX5 11).2.2.1 ∈ wsX5_lastLeft from List.mem_of_getElem? (i := 2) rfl)⟩
theorem fX5_lastLeft_42 : jj_F wsX5_lastLeft RX5 42 4 12 := ⟨_, _, _, rfl, by decide, iX5_lastLeft_X5, (show Cond.fieldLink RX5 42 (TX5 12).1 (TX5 12).2.1 (TX5 12).2.2.1 ∈ wsX5_lastLeft from List.mem_of_getElem? (i := 3) rfl)⟩
theorem fX5_lastLeft_15 : jj_F wsX5_lastLeft RX5 15 4 2 := ⟨_, _, _, rfl, by decide, iX5_lastLeft_X5, (show Cond.fieldLink RX5 15 (TX5 2).1 (TX5 2).2.1 (TX5 2).2.2.1 ∈ wsX5_lastLeft from List.mem_of_getElem? (i := 4) rfl)⟩
theorem hdX5_lastLeft : yX5_lastLeft.cls = RX5 ∧ yX5_lastLeft.cls ≠ "java/lang/invoke/MethodHandle" ∧ yX5_lastLeft.cls ≠ "java/lang/invoke/VarHandle" ∧ (parseMethodDescriptor yX5_lastLeft.desc).map (fun d => d.parameters.length) = some 0 := by decide +kernel
theorem hdX11_chanceRefusals : yX11_chanceRefusal.cls ≠ "java/lang/invoke/MethodHandle" ∧ yX11_chanceRefusal.cls ≠ "java/lang/invoke/VarHandle" ∧ (parseMethodDescriptor yX11_chanceRefusal.desc).map (fun d => d.parameters.length) = some 3 := by decide +kernel
theorem iX11_open_X11 : ∀ w ∈ wsX110, w ∈ wsX11_open := fun w h => List.mem_cons_of_mem _ (List.mem_append_left _ (List.mem_append_left _ (List.mem_append_left _ (List.mem_append_left _ (List.mem_append_left _ (List.mem_append_right _ h))))))
theorem fX11_open_94 : jj_F wsX11_open RX11 94 10 14 := ⟨_, _, _, rfl, by decide, iX11_open_X11, (show Cond.fieldLink RX11 94 (TX11 14).1 (TX11 14).2.1 (TX11 14).2.2.1 ∈ wsX11_open from List.mem_of_getElem? (i := 1) rfl)⟩
theorem fX11_open_26 : jj_F wsX11_open RX11 26 10 4 := ⟨_, _, _, rfl, by decide, iX11_open_X11, (show Cond.fieldLink RX11 26 (TX11 4).1 (TX11 4).2.1 (TX11 4).2.2.1 ∈ wsX11_open from List.mem_of_getElem? (i := 2) rfl)⟩
theorem fX11_open_36 : jj_F wsX11_open RX11 36 10 6 := ⟨_, _, _, rfl, by decide, iX11_open_X11, (show Cond.fieldLink RX11 36 (TX11 6).1 (TX11 6).2.1 (TX11 6).2.2.1 ∈ wsX11_open from List.mem_of_getElem? (i := 3) rfl)⟩
theorem iX11_open_X9 : ∀ w ∈ wsX90, w ∈ wsX11_open := fun w h => List.mem_cons_of_mem _ (List.mem_append_left _ (List.mem_append_left _ (List.mem_append_left _ (List.mem_append_left _ (List.mem_append_right _ h)))))
theorem fX11_open_153 : jj_F wsX11_open RX11 153 8 4 := ⟨_, _, _, rfl, by decide, iX11_open_X9, (show Cond.fieldLink RX11 153 (TX9 4).1 (TX9 4).2.1 (TX9 4).2.2.1 ∈ wsX11_open from List.mem_of_getElem? (i := 4) rfl)⟩
theorem iX5_passDays_X5 : ∀ w ∈ wsX50, w ∈ wsX5_passDays := fun w h => List.mem_cons_of_mem _ (List.mem_append_left _ (List.mem_append_left _ (List.mem_append_left _ (List.mem_append_right _ h))))
theorem fX5_passDays_28 : jj_F wsX5_passDays RX5 28 4 6 := ⟨_, _, _, rfl, by decide, iX5_passDays_X5, (show Cond.fieldLink RX5 28 (TX5 6).1 (TX5 6).2.1 (TX5 6).2.2.1 ∈ wsX5_passDays from List.mem_of_getElem? (i := 1) rfl)⟩
theorem ft_4_6 : (mm_ft 4)[6]? = some 2 := rfl
theorem sm_4_6 : s_m 4 6 = 0 := rfl
theorem an_42 : s_an 42 = 6 := rfl
theorem ak_42 : s_ak 42 = 102 := rfl
theorem qX5_passDays_31 : jj_P wsX5_passDays RX5 31 4 7 (.long) := ⟨_, _, _, tyX5, rfl, by decide, iX5_passDays_X5, (show Cond.fieldLink RX5 31 (TX5 7).1 (TX5 7).2.1 (TX5 7).2.2.1 ∈ wsX5_passDays from List.mem_of_getElem? (i := 2) rfl), tyX5_ok, nmX5, rfl, by decide +kernel⟩
theorem ft_4_7 : (mm_ft 4)[7]? = some 1 := rfl
theorem qX5_passDays_35 : jj_P wsX5_passDays RX5 35 4 8 (.long) := ⟨_, _, _, tyX5, rfl, by decide, iX5_passDays_X5, (show Cond.fieldLink RX5 35 (TX5 8).1 (TX5 8).2.1 (TX5 8).2.2.1 ∈ wsX5_passDays from List.mem_of_getElem? (i := 3) rfl), tyX5_ok, nmX5, rfl, by decide +kernel⟩
theorem ft_4_8 : (mm_ft 4)[8]? = some 1 := rfl
theorem fX5_passDays_52 : jj_F wsX5_passDays RX5 52 4 9 := ⟨_, _, _, rfl, by decide, iX5_passDays_X5, (show Cond.fieldLink RX5 52 (TX5 9).1 (TX5 9).2.1 (TX5 9).2.2.1 ∈ wsX5_passDays from List.mem_of_getElem? (i := 4) rfl)⟩
theorem iX5_passDay_X5 : ∀ w ∈ wsX50, w ∈ wsX5_passDay := fun w h => List.mem_cons_of_mem _ (List.mem_append_left _ (List.mem_append_left _ (List.mem_append_left _ (List.mem_append_right _ h))))
theorem fX5_passDay_25 : jj_F wsX5_passDay RX5 25 4 5 := ⟨_, _, _, rfl, by decide, iX5_passDay_X5, (show Cond.fieldLink RX5 25 (TX5 5).1 (TX5 5).2.1 (TX5 5).2.2.1 ∈ wsX5_passDay from List.mem_of_getElem? (i := 1) rfl)⟩
theorem fX5_passDay_31 : jj_F wsX5_passDay RX5 31 4 7 := ⟨_, _, _, rfl, by decide, iX5_passDay_X5, (show Cond.fieldLink RX5 31 (TX5 7).1 (TX5 7).2.1 (TX5 7).2.2.1 ∈ wsX5_passDay from List.mem_of_getElem? (i := 2) rfl)⟩
theorem qX5_passDay_31 : jj_P wsX5_passDay RX5 31 4 7 (.long) := ⟨_, _, _, tyX5, rfl, by decide, iX5_passDay_X5, (show Cond.fieldLink RX5 31 (TX5 7).1 (TX5 7).2.1 (TX5 7).2.2.1 ∈ wsX5_passDay from List.mem_of_getElem? (i := 2) rfl), tyX5_ok, nmX5, rfl, by decide +kernel⟩
theorem fX5_passDay_35 : jj_F wsX5_passDay RX5 35 4 8 := ⟨_, _, _, rfl, by decide, iX5_passDay_X5, (show Cond.fieldLink RX5 35 (TX5 8).1 (TX5 8).2.1 (TX5 8).2.2.1 ∈ wsX5_passDay from List.mem_of_getElem? (i := 3) rfl)⟩
theorem qX5_passDay_35 : jj_P wsX5_passDay RX5 35 4 8 (.long) := ⟨_, _, _, tyX5, rfl, by decide, iX5_passDay_X5, (show Cond.fieldLink RX5 35 (TX5 8).1 (TX5 8).2.1 (TX5 8).2.2.1 ∈ wsX5_passDay from List.mem_of_getElem? (i := 3) rfl), tyX5_ok, nmX5, rfl, by decide +kernel⟩
theorem fX5_passDay_52 : jj_F wsX5_passDay RX5 52 4 9 := ⟨_, _, _, rfl, by decide, iX5_passDay_X5, (show Cond.fieldLink RX5 52 (TX5 9).1 (TX5 9).2.1 (TX5 9).2.2.1 ∈ wsX5_passDay from List.mem_of_getElem? (i := 4) rfl)⟩
theorem iX5_passDay_X7 : ∀ w ∈ wsX70, w ∈ wsX5_passDay := fun w h => List.mem_cons_of_mem _ (List.mem_append_left _ (List.mem_append_left _ (List.mem_append_right _ h)))
theorem fX5_passDay_92 : jj_F wsX5_passDay RX5 92 6 0 := ⟨_, _, _, rfl, by decide, iX5_passDay_X7, (show Cond.fieldLink RX5 92 (TX7 0).1 (TX7 0).2.1 (TX7 0).2.2.1 ∈ wsX5_passDay from List.mem_of_getElem? (i := 5) rfl)⟩
theorem fX5_passDay_28 : jj_F wsX5_passDay RX5 28 4 6 := ⟨_, _, _, rfl, by decide, iX5_passDay_X5, (show Cond.fieldLink RX5 28 (TX5 6).1 (TX5 6).2.1 (TX5 6).2.2.1 ∈ wsX5_passDay from List.mem_of_getElem? (i := 6) rfl)⟩
theorem fX5_passDay_45 : jj_F wsX5_passDay RX5 45 4 13 := ⟨_, _, _, rfl, by decide, iX5_passDay_X5, (show Cond.fieldLink RX5 45 (TX5 13).1 (TX5 13).2.1 (TX5 13).2.2.1 ∈ wsX5_passDay from List.mem_of_getElem? (i := 7) rfl)⟩
theorem fX5_passDay_38 : jj_F wsX5_passDay RX5 38 4 11 := ⟨_, _, _, rfl, by decide, iX5_passDay_X5, (show Cond.fieldLink RX5 38 (TX5 11).1 (TX5 11).2.1 (TX5 11).2.2.1 ∈ wsX5_passDay from List.mem_of_getElem? (i := 8) rfl)⟩
theorem fX5_passDay_21 : jj_F wsX5_passDay RX5 21 4 4 := ⟨_, _, _, rfl, by decide, iX5_passDay_X5, (show Cond.fieldLink RX5 21 (TX5 4).1 (TX5 4).2.1 (TX5 4).2.2.1 ∈ wsX5_passDay from List.mem_of_getElem? (i := 9) rfl)⟩
theorem iX5_spread_X5 : ∀ w ∈ wsX50, w ∈ wsX5_spread := fun w h => List.mem_cons_of_mem _ (List.mem_append_left _ (List.mem_append_left _ (List.mem_append_left _ (List.mem_append_right _ h))))
theorem fX5_spread_52 : jj_F wsX5_spread RX5 52 4 9 := ⟨_, _, _, rfl, by decide, iX5_spread_X5, (show Cond.fieldLink RX5 52 (TX5 9).1 (TX5 9).2.1 (TX5 9).2.2.1 ∈ wsX5_spread from List.mem_of_getElem? (i := 1) rfl)⟩
theorem iX5_spread_X7 : ∀ w ∈ wsX70, w ∈ wsX5_spread := fun w h => List.mem_cons_of_mem _ (List.mem_append_left _ (List.mem_append_left _ (List.mem_append_right _ h)))
theorem fX5_spread_92 : jj_F wsX5_spread RX5 92 6 0 := ⟨_, _, _, rfl, by decide, iX5_spread_X7, (show Cond.fieldLink RX5 92 (TX7 0).1 (TX7 0).2.1 (TX7 0).2.2.1 ∈ wsX5_spread from List.mem_of_getElem? (i := 2) rfl)⟩
theorem fX5_spread_21 : jj_F wsX5_spread RX5 21 4 4 := ⟨_, _, _, rfl, by decide, iX5_spread_X5, (show Cond.fieldLink RX5 21 (TX5 4).1 (TX5 4).2.1 (TX5 4).2.2.1 ∈ wsX5_spread from List.mem_of_getElem? (i := 3) rfl)⟩
theorem fX5_spread_153 : jj_F wsX5_spread RX5 153 6 4 := ⟨_, _, _, rfl, by decide, iX5_spread_X7, (show Cond.fieldLink RX5 153 (TX7 4).1 (TX7 4).2.1 (TX7 4).2.2.1 ∈ wsX5_spread from List.mem_of_getElem? (i := 4) rfl)⟩
theorem fX5_spread_25 : jj_F wsX5_spread RX5 25 4 5 := ⟨_, _, _, rfl, by decide, iX5_spread_X5, (show Cond.fieldLink RX5 25 (TX5 5).1 (TX5 5).2.1 (TX5 5).2.2.1 ∈ wsX5_spread from List.mem_of_getElem? (i := 5) rfl)⟩
theorem fX5_spread_35 : jj_F wsX5_spread RX5 35 4 8 := ⟨_, _, _, rfl, by decide, iX5_spread_X5, (show Cond.fieldLink RX5 35 (TX5 8).1 (TX5 8).2.1 (TX5 8).2.2.1 ∈ wsX5_spread from List.mem_of_getElem? (i := 6) rfl)⟩
theorem fX5_spread_56 : jj_F wsX5_spread RX5 56 4 10 := ⟨_, _, _, rfl, by decide, iX5_spread_X5, (show Cond.fieldLink RX5 56 (TX5 10).1 (TX5 10).2.1 (TX5 10).2.2.1 ∈ wsX5_spread from List.mem_of_getElem? (i := 7) rfl)⟩
theorem iX5_spread_X9 : ∀ w ∈ wsX90, w ∈ wsX5_spread := fun w h => List.mem_cons_of_mem _ (List.mem_append_left _ (List.mem_append_right _ h))
theorem fX5_spread_156 : jj_F wsX5_spread RX5 156 8 1 := ⟨_, _, _, rfl, by decide, iX5_spread_X9, (show Cond.fieldLink RX5 156 (TX9 1).1 (TX9 1).2.1 (TX9 1).2.2.1 ∈ wsX5_spread from List.mem_of_getElem? (i := 8) rfl)⟩
theorem qX5_spread_35 : jj_P wsX5_spread RX5 35 4 8 (.long) := ⟨_, _, _, tyX5, rfl, by decide, iX5_spread_X5, (show Cond.fieldLink RX5 35 (TX5 8).1 (TX5 8).2.1 (TX5 8).2.2.1 ∈ wsX5_spread from List.mem_of_getElem? (i := 6) rfl), tyX5_ok, nmX5, rfl, by decide +kernel⟩
theorem fX5_spread_28 : jj_F wsX5_spread RX5 28 4 6 := ⟨_, _, _, rfl, by decide, iX5_spread_X5, (show Cond.fieldLink RX5 28 (TX5 6).1 (TX5 6).2.1 (TX5 6).2.2.1 ∈ wsX5_spread from List.mem_of_getElem? (i := 9) rfl)⟩
theorem hdX5_spread : yX5_spread.cls = RX5 ∧ yX5_spread.cls ≠ "java/lang/invoke/MethodHandle" ∧ yX5_spread.cls ≠ "java/lang/invoke/VarHandle" ∧ (parseMethodDescriptor yX5_spread.desc).map (fun d => d.parameters.length) = some 1 := by decide +kernel
theorem hdX5_passDay : yX5_passDay.cls = RX5 ∧ yX5_passDay.cls ≠ "java/lang/invoke/MethodHandle" ∧ yX5_passDay.cls ≠ "java/lang/invoke/VarHandle" ∧ (parseMethodDescriptor yX5_passDay.desc).map (fun d => d.parameters.length) = some 1 := by decide +kernel
theorem hdX5_passDays : yX5_passDays.cls = RX5 ∧ yX5_passDays.cls ≠ "java/lang/invoke/MethodHandle" ∧ yX5_passDays.cls ≠ "java/lang/invoke/VarHandle" ∧ (parseMethodDescriptor yX5_passDays.desc).map (fun d => d.parameters.length) = some 1 := by decide +kernel
theorem iX11_open_X5 : ∀ w ∈ wsX50, w ∈ wsX11_open := fun w h => List.mem_cons_of_mem _ (List.mem_append_left _ (List.mem_append_left _ (List.mem_append_left _ (List.mem_append_right _ h))))
theorem fX11_open_296 : jj_F wsX11_open RX11 296 4 7 := ⟨_, _, _, rfl, by decide, iX11_open_X5, (show Cond.fieldLink RX11 296 (TX5 7).1 (TX5 7).2.1 (TX5 7).2.2.1 ∈ wsX11_open from List.mem_of_getElem? (i := 5) rfl)⟩
theorem hdX11_commonDivisors : yX11_commonDivisor.cls ≠ "java/lang/invoke/MethodHandle" ∧ yX11_commonDivisor.cls ≠ "java/lang/invoke/VarHandle" ∧ (parseMethodDescriptor yX11_commonDivisor.desc).map (fun d => d.parameters.length) = some 2 := by decide +kernel
theorem hdX11_inLowestTermss : yX11_inLowestTerms.cls ≠ "java/lang/invoke/MethodHandle" ∧ yX11_inLowestTerms.cls ≠ "java/lang/invoke/VarHandle" ∧ (parseMethodDescriptor yX11_inLowestTerms.desc).map (fun d => d.parameters.length) = some 3 := by decide +kernel
theorem iX11_likely_X11 : ∀ w ∈ wsX110, w ∈ wsX11_likely := fun w h => List.mem_cons_of_mem _ (List.mem_append_left _ (List.mem_append_left _ (List.mem_append_left _ (List.mem_append_left _ (List.mem_append_left _ (List.mem_append_right _ h))))))
theorem fX11_likely_94 : jj_F wsX11_likely RX11 94 10 14 := ⟨_, _, _, rfl, by decide, iX11_likely_X11, (show Cond.fieldLink RX11 94 (TX11 14).1 (TX11 14).2.1 (TX11 14).2.2.1 ∈ wsX11_likely from List.mem_of_getElem? (i := 1) rfl)⟩
theorem fX11_likely_26 : jj_F wsX11_likely RX11 26 10 4 := ⟨_, _, _, rfl, by decide, iX11_likely_X11, (show Cond.fieldLink RX11 26 (TX11 4).1 (TX11 4).2.1 (TX11 4).2.2.1 ∈ wsX11_likely from List.mem_of_getElem? (i := 2) rfl)⟩
theorem fX11_likely_36 : jj_F wsX11_likely RX11 36 10 6 := ⟨_, _, _, rfl, by decide, iX11_likely_X11, (show Cond.fieldLink RX11 36 (TX11 6).1 (TX11 6).2.1 (TX11 6).2.2.1 ∈ wsX11_likely from List.mem_of_getElem? (i := 3) rfl)⟩
theorem iX11_likely_X9 : ∀ w ∈ wsX90, w ∈ wsX11_likely := fun w h => List.mem_cons_of_mem _ (List.mem_append_left _ (List.mem_append_left _ (List.mem_append_left _ (List.mem_append_left _ (List.mem_append_right _ h)))))
theorem fX11_likely_153 : jj_F wsX11_likely RX11 153 8 4 := ⟨_, _, _, rfl, by decide, iX11_likely_X9, (show Cond.fieldLink RX11 153 (TX9 4).1 (TX9 4).2.1 (TX9 4).2.2.1 ∈ wsX11_likely from List.mem_of_getElem? (i := 4) rfl)⟩
theorem iX11_likely_X5 : ∀ w ∈ wsX50, w ∈ wsX11_likely := fun w h => List.mem_cons_of_mem _ (List.mem_append_left _ (List.mem_append_left _ (List.mem_append_left _ (List.mem_append_right _ h))))
theorem fX11_likely_296 : jj_F wsX11_likely RX11 296 4 7 := ⟨_, _, _, rfl, by decide, iX11_likely_X5, (show Cond.fieldLink RX11 296 (TX5 7).1 (TX5 7).2.1 (TX5 7).2.2.1 ∈ wsX11_likely from List.mem_of_getElem? (i := 5) rfl)⟩
theorem kX11_hundredths_318 : Cond.constantLong RX11 318 10 ∈ wsX11_hundredths := List.mem_of_getElem? (i := 1) rfl
theorem hdX11_hundredthss : yX11_hundredths.cls ≠ "java/lang/invoke/MethodHandle" ∧ yX11_hundredths.cls ≠ "java/lang/invoke/VarHandle" ∧ (parseMethodDescriptor yX11_hundredths.desc).map (fun d => d.parameters.length) = some 2 := by decide +kernel
theorem iX11_shutsBy_X11 : ∀ w ∈ wsX110, w ∈ wsX11_shutsBy := fun w h => List.mem_cons_of_mem _ (List.mem_append_left _ (List.mem_append_left _ (List.mem_append_left _ (List.mem_append_left _ (List.mem_append_left _ (List.mem_append_right _ h))))))
theorem fX11_shutsBy_94 : jj_F wsX11_shutsBy RX11 94 10 14 := ⟨_, _, _, rfl, by decide, iX11_shutsBy_X11, (show Cond.fieldLink RX11 94 (TX11 14).1 (TX11 14).2.1 (TX11 14).2.2.1 ∈ wsX11_shutsBy from List.mem_of_getElem? (i := 1) rfl)⟩
theorem fX11_shutsBy_26 : jj_F wsX11_shutsBy RX11 26 10 4 := ⟨_, _, _, rfl, by decide, iX11_shutsBy_X11, (show Cond.fieldLink RX11 26 (TX11 4).1 (TX11 4).2.1 (TX11 4).2.2.1 ∈ wsX11_shutsBy from List.mem_of_getElem? (i := 2) rfl)⟩
theorem fX11_shutsBy_36 : jj_F wsX11_shutsBy RX11 36 10 6 := ⟨_, _, _, rfl, by decide, iX11_shutsBy_X11, (show Cond.fieldLink RX11 36 (TX11 6).1 (TX11 6).2.1 (TX11 6).2.2.1 ∈ wsX11_shutsBy from List.mem_of_getElem? (i := 3) rfl)⟩
theorem iX11_shutsBy_X9 : ∀ w ∈ wsX90, w ∈ wsX11_shutsBy := fun w h => List.mem_cons_of_mem _ (List.mem_append_left _ (List.mem_append_left _ (List.mem_append_left _ (List.mem_append_left _ (List.mem_append_right _ h)))))
theorem fX11_shutsBy_153 : jj_F wsX11_shutsBy RX11 153 8 4 := ⟨_, _, _, rfl, by decide, iX11_shutsBy_X9, (show Cond.fieldLink RX11 153 (TX9 4).1 (TX9 4).2.1 (TX9 4).2.2.1 ∈ wsX11_shutsBy from List.mem_of_getElem? (i := 4) rfl)⟩
theorem iX11_shutsBy_X5 : ∀ w ∈ wsX50, w ∈ wsX11_shutsBy := fun w h => List.mem_cons_of_mem _ (List.mem_append_left _ (List.mem_append_left _ (List.mem_append_left _ (List.mem_append_right _ h))))
theorem fX11_shutsBy_308 : jj_F wsX11_shutsBy RX11 308 4 6 := ⟨_, _, _, rfl, by decide, iX11_shutsBy_X5, (show Cond.fieldLink RX11 308 (TX5 6).1 (TX5 6).2.1 (TX5 6).2.2.1 ∈ wsX11_shutsBy from List.mem_of_getElem? (i := 5) rfl)⟩
theorem fX11_shutsBy_296 : jj_F wsX11_shutsBy RX11 296 4 7 := ⟨_, _, _, rfl, by decide, iX11_shutsBy_X5, (show Cond.fieldLink RX11 296 (TX5 7).1 (TX5 7).2.1 (TX5 7).2.2.1 ∈ wsX11_shutsBy from List.mem_of_getElem? (i := 6) rfl)⟩
theorem iX11_closer_X11 : ∀ w ∈ wsX110, w ∈ wsX11_closer := fun w h => List.mem_cons_of_mem _ (List.mem_append_left _ (List.mem_append_left _ (List.mem_append_left _ (List.mem_append_left _ (List.mem_append_left _ (List.mem_append_right _ h))))))
theorem fX11_closer_94 : jj_F wsX11_closer RX11 94 10 14 := ⟨_, _, _, rfl, by decide, iX11_closer_X11, (show Cond.fieldLink RX11 94 (TX11 14).1 (TX11 14).2.1 (TX11 14).2.2.1 ∈ wsX11_closer from List.mem_of_getElem? (i := 1) rfl)⟩
theorem fX11_closer_26 : jj_F wsX11_closer RX11 26 10 4 := ⟨_, _, _, rfl, by decide, iX11_closer_X11, (show Cond.fieldLink RX11 26 (TX11 4).1 (TX11 4).2.1 (TX11 4).2.2.1 ∈ wsX11_closer from List.mem_of_getElem? (i := 2) rfl)⟩
theorem fX11_closer_36 : jj_F wsX11_closer RX11 36 10 6 := ⟨_, _, _, rfl, by decide, iX11_closer_X11, (show Cond.fieldLink RX11 36 (TX11 6).1 (TX11 6).2.1 (TX11 6).2.2.1 ∈ wsX11_closer from List.mem_of_getElem? (i := 3) rfl)⟩
theorem iX11_closer_X9 : ∀ w ∈ wsX90, w ∈ wsX11_closer := fun w h => List.mem_cons_of_mem _ (List.mem_append_left _ (List.mem_append_left _ (List.mem_append_left _ (List.mem_append_left _ (List.mem_append_right _ h)))))
theorem fX11_closer_153 : jj_F wsX11_closer RX11 153 8 4 := ⟨_, _, _, rfl, by decide, iX11_closer_X9, (show Cond.fieldLink RX11 153 (TX9 4).1 (TX9 4).2.1 (TX9 4).2.2.1 ∈ wsX11_closer from List.mem_of_getElem? (i := 4) rfl)⟩
theorem iX11_closer_X7 : ∀ w ∈ wsX70, w ∈ wsX11_closer := fun w h => List.mem_cons_of_mem _ (List.mem_append_left _ (List.mem_append_left _ (List.mem_append_left _ (List.mem_append_right _ h))))
theorem fX11_closer_163 : jj_F wsX11_closer RX11 163 6 0 := ⟨_, _, _, rfl, by decide, iX11_closer_X7, (show Cond.fieldLink RX11 163 (TX7 0).1 (TX7 0).2.1 (TX7 0).2.2.1 ∈ wsX11_closer from List.mem_of_getElem? (i := 5) rfl)⟩
theorem iX11_closer_X5 : ∀ w ∈ wsX50, w ∈ wsX11_closer := fun w h => List.mem_cons_of_mem _ (List.mem_append_left _ (List.mem_append_left _ (List.mem_append_right _ h)))
theorem fX11_closer_308 : jj_F wsX11_closer RX11 308 4 6 := ⟨_, _, _, rfl, by decide, iX11_closer_X5, (show Cond.fieldLink RX11 308 (TX5 6).1 (TX5 6).2.1 (TX5 6).2.2.1 ∈ wsX11_closer from List.mem_of_getElem? (i := 6) rfl)⟩
theorem iX11_soldIn_X11 : ∀ w ∈ wsX110, w ∈ wsX11_soldIn := fun w h => List.mem_cons_of_mem _ (List.mem_append_left _ (List.mem_append_left _ (List.mem_append_left _ (List.mem_append_left _ (List.mem_append_left _ (List.mem_append_right _ h))))))
theorem fX11_soldIn_94 : jj_F wsX11_soldIn RX11 94 10 14 := ⟨_, _, _, rfl, by decide, iX11_soldIn_X11, (show Cond.fieldLink RX11 94 (TX11 14).1 (TX11 14).2.1 (TX11 14).2.2.1 ∈ wsX11_soldIn from List.mem_of_getElem? (i := 1) rfl)⟩
theorem fX11_soldIn_26 : jj_F wsX11_soldIn RX11 26 10 4 := ⟨_, _, _, rfl, by decide, iX11_soldIn_X11, (show Cond.fieldLink RX11 26 (TX11 4).1 (TX11 4).2.1 (TX11 4).2.2.1 ∈ wsX11_soldIn from List.mem_of_getElem? (i := 2) rfl)⟩
theorem fX11_soldIn_36 : jj_F wsX11_soldIn RX11 36 10 6 := ⟨_, _, _, rfl, by decide, iX11_soldIn_X11, (show Cond.fieldLink RX11 36 (TX11 6).1 (TX11 6).2.1 (TX11 6).2.2.1 ∈ wsX11_soldIn from List.mem_of_getElem? (i := 3) rfl)⟩
theorem iX11_soldIn_X9 : ∀ w ∈ wsX90, w ∈ wsX11_soldIn := fun w h => List.mem_cons_of_mem _ (List.mem_append_left _ (List.mem_append_left _ (List.mem_append_left _ (List.mem_append_left _ (List.mem_append_right _ h)))))
theorem fX11_soldIn_153 : jj_F wsX11_soldIn RX11 153 8 4 := ⟨_, _, _, rfl, by decide, iX11_soldIn_X9, (show Cond.fieldLink RX11 153 (TX9 4).1 (TX9 4).2.1 (TX9 4).2.2.1 ∈ wsX11_soldIn from List.mem_of_getElem? (i := 4) rfl)⟩
theorem iX5_soldWays_X5 : ∀ w ∈ wsX50, w ∈ wsX5_soldWays := fun w h => List.mem_cons_of_mem _ (List.mem_append_left _ (List.mem_append_right _ h))
theorem fX5_soldWays_45 : jj_F wsX5_soldWays RX5 45 4 13 := ⟨_, _, _, rfl, by decide, iX5_soldWays_X5, (show Cond.fieldLink RX5 45 (TX5 13).1 (TX5 13).2.1 (TX5 13).2.2.1 ∈ wsX5_soldWays from List.mem_of_getElem? (i := 1) rfl)⟩
theorem fX5_soldWays_38 : jj_F wsX5_soldWays RX5 38 4 11 := ⟨_, _, _, rfl, by decide, iX5_soldWays_X5, (show Cond.fieldLink RX5 38 (TX5 11).1 (TX5 11).2.1 (TX5 11).2.2.1 ∈ wsX5_soldWays from List.mem_of_getElem? (i := 2) rfl)⟩
theorem fX5_soldWays_21 : jj_F wsX5_soldWays RX5 21 4 4 := ⟨_, _, _, rfl, by decide, iX5_soldWays_X5, (show Cond.fieldLink RX5 21 (TX5 4).1 (TX5 4).2.1 (TX5 4).2.2.1 ∈ wsX5_soldWays from List.mem_of_getElem? (i := 3) rfl)⟩
theorem hdX5_soldWays : yX5_soldWays.cls = RX5 ∧ yX5_soldWays.cls ≠ "java/lang/invoke/MethodHandle" ∧ yX5_soldWays.cls ≠ "java/lang/invoke/VarHandle" ∧ (parseMethodDescriptor yX5_soldWays.desc).map (fun d => d.parameters.length) = some 1 := by decide +kernel
theorem iX11_soldIn_X5 : ∀ w ∈ wsX50, w ∈ wsX11_soldIn := fun w h => List.mem_cons_of_mem _ (List.mem_append_left _ (List.mem_append_left _ (List.mem_append_left _ (List.mem_append_right _ h))))
theorem fX11_soldIn_296 : jj_F wsX11_soldIn RX11 296 4 7 := ⟨_, _, _, rfl, by decide, iX11_soldIn_X5, (show Cond.fieldLink RX11 296 (TX5 7).1 (TX5 7).2.1 (TX5 7).2.2.1 ∈ wsX11_soldIn from List.mem_of_getElem? (i := 5) rfl)⟩
theorem iX11_hides_X11 : ∀ w ∈ wsX110, w ∈ wsX11_hides := fun w h => List.mem_cons_of_mem _ (List.mem_append_left _ (List.mem_append_left _ (List.mem_append_left _ (List.mem_append_left _ (List.mem_append_left _ (List.mem_append_right _ h))))))
theorem fX11_hides_36 : jj_F wsX11_hides RX11 36 10 6 := ⟨_, _, _, rfl, by decide, iX11_hides_X11, (show Cond.fieldLink RX11 36 (TX11 6).1 (TX11 6).2.1 (TX11 6).2.2.1 ∈ wsX11_hides from List.mem_of_getElem? (i := 1) rfl)⟩
theorem kX11_hides_219 : Cond.constantLong RX11 219 (-1) ∈ wsX11_hides := List.mem_of_getElem? (i := 2) rfl
theorem iX11_isHideable_X11 : ∀ w ∈ wsX110, w ∈ wsX11_isHideable := fun w h => List.mem_cons_of_mem _ (List.mem_append_left _ (List.mem_append_left _ (List.mem_append_right _ h)))
theorem fX11_isHideable_36 : jj_F wsX11_isHideable RX11 36 10 6 := ⟨_, _, _, rfl, by decide, iX11_isHideable_X11, (show Cond.fieldLink RX11 36 (TX11 6).1 (TX11 6).2.1 (TX11 6).2.2.1 ∈ wsX11_isHideable from List.mem_of_getElem? (i := 1) rfl)⟩
theorem iX11_isHideable_X9 : ∀ w ∈ wsX90, w ∈ wsX11_isHideable := fun w h => List.mem_cons_of_mem _ (List.mem_append_left _ (List.mem_append_right _ h))
theorem fX11_isHideable_153 : jj_F wsX11_isHideable RX11 153 8 4 := ⟨_, _, _, rfl, by decide, iX11_isHideable_X9, (show Cond.fieldLink RX11 153 (TX9 4).1 (TX9 4).2.1 (TX9 4).2.2.1 ∈ wsX11_isHideable from List.mem_of_getElem? (i := 2) rfl)⟩
theorem hdX11_isHideable : yX11_isHideable.cls = RX11 ∧ yX11_isHideable.cls ≠ "java/lang/invoke/MethodHandle" ∧ yX11_isHideable.cls ≠ "java/lang/invoke/VarHandle" ∧ (parseMethodDescriptor yX11_isHideable.desc).map (fun d => d.parameters.length) = some 2 := by decide +kernel
theorem fX11_hides_94 : jj_F wsX11_hides RX11 94 10 14 := ⟨_, _, _, rfl, by decide, iX11_hides_X11, (show Cond.fieldLink RX11 94 (TX11 14).1 (TX11 14).2.1 (TX11 14).2.2.1 ∈ wsX11_hides from List.mem_of_getElem? (i := 3) rfl)⟩
theorem fX11_hides_26 : jj_F wsX11_hides RX11 26 10 4 := ⟨_, _, _, rfl, by decide, iX11_hides_X11, (show Cond.fieldLink RX11 26 (TX11 4).1 (TX11 4).2.1 (TX11 4).2.2.1 ∈ wsX11_hides from List.mem_of_getElem? (i := 4) rfl)⟩
theorem iX11_hides_X9 : ∀ w ∈ wsX90, w ∈ wsX11_hides := fun w h => List.mem_cons_of_mem _ (List.mem_append_left _ (List.mem_append_left _ (List.mem_append_left _ (List.mem_append_left _ (List.mem_append_right _ h)))))
theorem fX11_hides_153 : jj_F wsX11_hides RX11 153 8 4 := ⟨_, _, _, rfl, by decide, iX11_hides_X9, (show Cond.fieldLink RX11 153 (TX9 4).1 (TX9 4).2.1 (TX9 4).2.2.1 ∈ wsX11_hides from List.mem_of_getElem? (i := 5) rfl)⟩
theorem wX11_hides_330_0 : Cond.methodLink RX11 330 Lib.MathLoose.max_long.x ∈ wsX11_hides := List.mem_of_getElem? (i := 6) rfl
theorem wX11_hides_330_1 : Cond.static Lib.MathLoose.max_long.x ∈ wsX11_hides := List.mem_of_getElem? (i := 7) rfl
theorem wX11_hides_330_2 : Cond.initialized "java/lang/Math" ∈ wsX11_hides := List.mem_of_getElem? (i := 8) rfl
theorem wX11_hides_330_3 : Cond.code Lib.MathLoose.max_long.x Lib.MathLoose.max_long.code 4 (some .long) ∈ wsX11_hides := List.mem_of_getElem? (i := 9) rfl
theorem iX11_rota_X11 : ∀ w ∈ wsX110, w ∈ wsX11_rota := fun w h => List.mem_cons_of_mem _ (List.mem_append_left _ (List.mem_append_left _ (List.mem_append_left _ (List.mem_append_left _ (List.mem_append_left _ (List.mem_append_right _ h))))))
theorem fX11_rota_36 : jj_F wsX11_rota RX11 36 10 6 := ⟨_, _, _, rfl, by decide, iX11_rota_X11, (show Cond.fieldLink RX11 36 (TX11 6).1 (TX11 6).2.1 (TX11 6).2.2.1 ∈ wsX11_rota from List.mem_of_getElem? (i := 1) rfl)⟩
theorem fX11_rota_94 : jj_F wsX11_rota RX11 94 10 14 := ⟨_, _, _, rfl, by decide, iX11_rota_X11, (show Cond.fieldLink RX11 94 (TX11 14).1 (TX11 14).2.1 (TX11 14).2.2.1 ∈ wsX11_rota from List.mem_of_getElem? (i := 2) rfl)⟩
theorem fX11_rota_26 : jj_F wsX11_rota RX11 26 10 4 := ⟨_, _, _, rfl, by decide, iX11_rota_X11, (show Cond.fieldLink RX11 26 (TX11 4).1 (TX11 4).2.1 (TX11 4).2.2.1 ∈ wsX11_rota from List.mem_of_getElem? (i := 3) rfl)⟩
theorem iX11_rota_X9 : ∀ w ∈ wsX90, w ∈ wsX11_rota := fun w h => List.mem_cons_of_mem _ (List.mem_append_left _ (List.mem_append_left _ (List.mem_append_left _ (List.mem_append_left _ (List.mem_append_right _ h)))))
theorem fX11_rota_153 : jj_F wsX11_rota RX11 153 8 4 := ⟨_, _, _, rfl, by decide, iX11_rota_X9, (show Cond.fieldLink RX11 153 (TX9 4).1 (TX9 4).2.1 (TX9 4).2.2.1 ∈ wsX11_rota from List.mem_of_getElem? (i := 4) rfl)⟩
theorem iX5_takersNow_X5 : ∀ w ∈ wsX50, w ∈ wsX5_takersNow := fun w h => List.mem_cons_of_mem _ (List.mem_append_left _ (List.mem_append_left _ (List.mem_append_right _ h)))
theorem fX5_takersNow_52 : jj_F wsX5_takersNow RX5 52 4 9 := ⟨_, _, _, rfl, by decide, iX5_takersNow_X5, (show Cond.fieldLink RX5 52 (TX5 9).1 (TX5 9).2.1 (TX5 9).2.2.1 ∈ wsX5_takersNow from List.mem_of_getElem? (i := 1) rfl)⟩
theorem iX5_takersNow_X7 : ∀ w ∈ wsX70, w ∈ wsX5_takersNow := fun w h => List.mem_cons_of_mem _ (List.mem_append_left _ (List.mem_append_right _ h))
theorem fX5_takersNow_92 : jj_F wsX5_takersNow RX5 92 6 0 := ⟨_, _, _, rfl, by decide, iX5_takersNow_X7, (show Cond.fieldLink RX5 92 (TX7 0).1 (TX7 0).2.1 (TX7 0).2.2.1 ∈ wsX5_takersNow from List.mem_of_getElem? (i := 2) rfl)⟩
theorem fX5_takersNow_45 : jj_F wsX5_takersNow RX5 45 4 13 := ⟨_, _, _, rfl, by decide, iX5_takersNow_X5, (show Cond.fieldLink RX5 45 (TX5 13).1 (TX5 13).2.1 (TX5 13).2.2.1 ∈ wsX5_takersNow from List.mem_of_getElem? (i := 3) rfl)⟩
theorem hdX5_takersNow : yX5_takersNow.cls = RX5 ∧ yX5_takersNow.cls ≠ "java/lang/invoke/MethodHandle" ∧ yX5_takersNow.cls ≠ "java/lang/invoke/VarHandle" ∧ (parseMethodDescriptor yX5_takersNow.desc).map (fun d => d.parameters.length) = some 0 := by decide +kernel
theorem fX11_rota_160 : jj_F wsX11_rota RX11 160 8 0 := ⟨_, _, _, rfl, by decide, iX11_rota_X9, (show Cond.fieldLink RX11 160 (TX9 0).1 (TX9 0).2.1 (TX9 0).2.2.1 ∈ wsX11_rota from List.mem_of_getElem? (i := 5) rfl)⟩
theorem iX11_earns_X11 : ∀ w ∈ wsX110, w ∈ wsX11_earns := fun w h => List.mem_cons_of_mem _ (List.mem_append_left _ (List.mem_append_left _ (List.mem_append_left _ (List.mem_append_left _ (List.mem_append_left _ (List.mem_append_right _ h))))))
theorem fX11_earns_94 : jj_F wsX11_earns RX11 94 10 14 := ⟨_, _, _, rfl, by decide, iX11_earns_X11, (show Cond.fieldLink RX11 94 (TX11 14).1 (TX11 14).2.1 (TX11 14).2.2.1 ∈ wsX11_earns from List.mem_of_getElem? (i := 1) rfl)⟩
theorem fX11_earns_26 : jj_F wsX11_earns RX11 26 10 4 := ⟨_, _, _, rfl, by decide, iX11_earns_X11, (show Cond.fieldLink RX11 26 (TX11 4).1 (TX11 4).2.1 (TX11 4).2.2.1 ∈ wsX11_earns from List.mem_of_getElem? (i := 2) rfl)⟩
theorem fX11_earns_36 : jj_F wsX11_earns RX11 36 10 6 := ⟨_, _, _, rfl, by decide, iX11_earns_X11, (show Cond.fieldLink RX11 36 (TX11 6).1 (TX11 6).2.1 (TX11 6).2.2.1 ∈ wsX11_earns from List.mem_of_getElem? (i := 3) rfl)⟩
theorem iX11_earns_X9 : ∀ w ∈ wsX90, w ∈ wsX11_earns := fun w h => List.mem_cons_of_mem _ (List.mem_append_left _ (List.mem_append_left _ (List.mem_append_left _ (List.mem_append_left _ (List.mem_append_right _ h)))))
theorem fX11_earns_153 : jj_F wsX11_earns RX11 153 8 4 := ⟨_, _, _, rfl, by decide, iX11_earns_X9, (show Cond.fieldLink RX11 153 (TX9 4).1 (TX9 4).2.1 (TX9 4).2.2.1 ∈ wsX11_earns from List.mem_of_getElem? (i := 4) rfl)⟩
theorem iX11_earns_X5 : ∀ w ∈ wsX50, w ∈ wsX11_earns := fun w h => List.mem_cons_of_mem _ (List.mem_append_left _ (List.mem_append_left _ (List.mem_append_left _ (List.mem_append_right _ h))))
theorem fX11_earns_341 : jj_F wsX11_earns RX11 341 4 8 := ⟨_, _, _, rfl, by decide, iX11_earns_X5, (show Cond.fieldLink RX11 341 (TX5 8).1 (TX5 8).2.1 (TX5 8).2.2.1 ∈ wsX11_earns from List.mem_of_getElem? (i := 5) rfl)⟩
theorem fX11_earns_296 : jj_F wsX11_earns RX11 296 4 7 := ⟨_, _, _, rfl, by decide, iX11_earns_X5, (show Cond.fieldLink RX11 296 (TX5 7).1 (TX5 7).2.1 (TX5 7).2.2.1 ∈ wsX11_earns from List.mem_of_getElem? (i := 6) rfl)⟩
theorem iX11_bestPrice_X11 : ∀ w ∈ wsX110, w ∈ wsX11_bestPrice := fun w h => List.mem_cons_of_mem _ (List.mem_append_left _ (List.mem_append_left _ (List.mem_append_left _ (List.mem_append_left _ (List.mem_append_left _ (List.mem_append_right _ h))))))
theorem fX11_bestPrice_36 : jj_F wsX11_bestPrice RX11 36 10 6 := ⟨_, _, _, rfl, by decide, iX11_bestPrice_X11, (show Cond.fieldLink RX11 36 (TX11 6).1 (TX11 6).2.1 (TX11 6).2.2.1 ∈ wsX11_bestPrice from List.mem_of_getElem? (i := 1) rfl)⟩
theorem fX11_bestPrice_40 : jj_F wsX11_bestPrice RX11 40 10 7 := ⟨_, _, _, rfl, by decide, iX11_bestPrice_X11, (show Cond.fieldLink RX11 40 (TX11 7).1 (TX11 7).2.1 (TX11 7).2.2.1 ∈ wsX11_bestPrice from List.mem_of_getElem? (i := 2) rfl)⟩
theorem kX11_bestPrice_219 : Cond.constantLong RX11 219 (-1) ∈ wsX11_bestPrice := List.mem_of_getElem? (i := 3) rfl
theorem iX11_bestPrice_X9 : ∀ w ∈ wsX90, w ∈ wsX11_bestPrice := fun w h => List.mem_cons_of_mem _ (List.mem_append_left _ (List.mem_append_left _ (List.mem_append_left _ (List.mem_append_left _ (List.mem_append_right _ h)))))
theorem fX11_bestPrice_144 : jj_F wsX11_bestPrice RX11 144 8 1 := ⟨_, _, _, rfl, by decide, iX11_bestPrice_X9, (show Cond.fieldLink RX11 144 (TX9 1).1 (TX9 1).2.1 (TX9 1).2.2.1 ∈ wsX11_bestPrice from List.mem_of_getElem? (i := 4) rfl)⟩
theorem fX11_bestPrice_94 : jj_F wsX11_bestPrice RX11 94 10 14 := ⟨_, _, _, rfl, by decide, iX11_bestPrice_X11, (show Cond.fieldLink RX11 94 (TX11 14).1 (TX11 14).2.1 (TX11 14).2.2.1 ∈ wsX11_bestPrice from List.mem_of_getElem? (i := 5) rfl)⟩
theorem fX11_bestPrice_26 : jj_F wsX11_bestPrice RX11 26 10 4 := ⟨_, _, _, rfl, by decide, iX11_bestPrice_X11, (show Cond.fieldLink RX11 26 (TX11 4).1 (TX11 4).2.1 (TX11 4).2.2.1 ∈ wsX11_bestPrice from List.mem_of_getElem? (i := 6) rfl)⟩
theorem fX11_bestPrice_153 : jj_F wsX11_bestPrice RX11 153 8 4 := ⟨_, _, _, rfl, by decide, iX11_bestPrice_X9, (show Cond.fieldLink RX11 153 (TX9 4).1 (TX9 4).2.1 (TX9 4).2.2.1 ∈ wsX11_bestPrice from List.mem_of_getElem? (i := 7) rfl)⟩
theorem iX11_bestPrice_X5 : ∀ w ∈ wsX50, w ∈ wsX11_bestPrice := fun w h => List.mem_cons_of_mem _ (List.mem_append_left _ (List.mem_append_left _ (List.mem_append_left _ (List.mem_append_right _ h))))
theorem fX11_bestPrice_341 : jj_F wsX11_bestPrice RX11 341 4 8 := ⟨_, _, _, rfl, by decide, iX11_bestPrice_X5, (show Cond.fieldLink RX11 341 (TX5 8).1 (TX5 8).2.1 (TX5 8).2.2.1 ∈ wsX11_bestPrice from List.mem_of_getElem? (i := 8) rfl)⟩
theorem wX11_bestPrice_330_0 : Cond.methodLink RX11 330 Lib.MathLoose.max_long.x ∈ wsX11_bestPrice := List.mem_of_getElem? (i := 9) rfl
theorem wX11_bestPrice_330_1 : Cond.static Lib.MathLoose.max_long.x ∈ wsX11_bestPrice := List.mem_of_getElem? (i := 10) rfl
theorem wX11_bestPrice_330_2 : Cond.initialized "java/lang/Math" ∈ wsX11_bestPrice := List.mem_of_getElem? (i := 11) rfl
theorem wX11_bestPrice_330_3 : Cond.code Lib.MathLoose.max_long.x Lib.MathLoose.max_long.code 4 (some .long) ∈ wsX11_bestPrice := List.mem_of_getElem? (i := 12) rfl
theorem iX11_seenRefusal_X11 : ∀ w ∈ wsX110, w ∈ wsX11_seenRefusal := fun w h => List.mem_cons_of_mem _ (List.mem_append_left _ (List.mem_append_left _ (List.mem_append_left _ (List.mem_append_left _ (List.mem_append_right _ h)))))
theorem fX11_seenRefusal_52 : jj_F wsX11_seenRefusal RX11 52 10 9 := ⟨_, _, _, rfl, by decide, iX11_seenRefusal_X11, (show Cond.fieldLink RX11 52 (TX11 9).1 (TX11 9).2.1 (TX11 9).2.2.1 ∈ wsX11_seenRefusal from List.mem_of_getElem? (i := 1) rfl)⟩
theorem kX11_isSight_318 : Cond.constantLong RX11 318 10 ∈ wsX11_isSight := List.mem_of_getElem? (i := 1) rfl
theorem iX11_isSight_X11 : ∀ w ∈ wsX110, w ∈ wsX11_isSight := fun w h => List.mem_cons_of_mem _ (List.mem_append_left _ (List.mem_append_left _ (List.mem_append_left _ (List.mem_append_right _ h))))
theorem fX11_isSight_26 : jj_F wsX11_isSight RX11 26 10 4 := ⟨_, _, _, rfl, by decide, iX11_isSight_X11, (show Cond.fieldLink RX11 26 (TX11 4).1 (TX11 4).2.1 (TX11 4).2.2.1 ∈ wsX11_isSight from List.mem_of_getElem? (i := 2) rfl)⟩
theorem iX11_isSight_X7 : ∀ w ∈ wsX70, w ∈ wsX11_isSight := fun w h => List.mem_cons_of_mem _ (List.mem_append_left _ (List.mem_append_left _ (List.mem_append_right _ h)))
theorem fX11_isSight_163 : jj_F wsX11_isSight RX11 163 6 0 := ⟨_, _, _, rfl, by decide, iX11_isSight_X7, (show Cond.fieldLink RX11 163 (TX7 0).1 (TX7 0).2.1 (TX7 0).2.2.1 ∈ wsX11_isSight from List.mem_of_getElem? (i := 3) rfl)⟩
theorem kX11_isSight_367 : Cond.constantLong RX11 367 9 ∈ wsX11_isSight := List.mem_of_getElem? (i := 4) rfl
theorem fX11_isSight_36 : jj_F wsX11_isSight RX11 36 10 6 := ⟨_, _, _, rfl, by decide, iX11_isSight_X11, (show Cond.fieldLink RX11 36 (TX11 6).1 (TX11 6).2.1 (TX11 6).2.2.1 ∈ wsX11_isSight from List.mem_of_getElem? (i := 5) rfl)⟩
theorem iX11_isSight_X9 : ∀ w ∈ wsX90, w ∈ wsX11_isSight := fun w h => List.mem_cons_of_mem _ (List.mem_append_left _ (List.mem_append_right _ h))
theorem fX11_isSight_160 : jj_F wsX11_isSight RX11 160 8 0 := ⟨_, _, _, rfl, by decide, iX11_isSight_X9, (show Cond.fieldLink RX11 160 (TX9 0).1 (TX9 0).2.1 (TX9 0).2.2.1 ∈ wsX11_isSight from List.mem_of_getElem? (i := 6) rfl)⟩
theorem hdX11_isSight : yX11_isSight.cls = RX11 ∧ yX11_isSight.cls ≠ "java/lang/invoke/MethodHandle" ∧ yX11_isSight.cls ≠ "java/lang/invoke/VarHandle" ∧ (parseMethodDescriptor yX11_isSight.desc).map (fun d => d.parameters.length) = some 1 := by decide +kernel
theorem hdX11_seenRefusal : yX11_seenRefusal.cls = RX11 ∧ yX11_seenRefusal.cls ≠ "java/lang/invoke/MethodHandle" ∧ yX11_seenRefusal.cls ≠ "java/lang/invoke/VarHandle" ∧ (parseMethodDescriptor yX11_seenRefusal.desc).map (fun d => d.parameters.length) = some 1 := by decide +kernel
theorem iX11_seen_X11 : ∀ w ∈ wsX110, w ∈ wsX11_seen := fun w h => List.mem_cons_of_mem _ (List.mem_append_left _ (List.mem_append_left _ (List.mem_append_left _ (List.mem_append_left _ (List.mem_append_left _ (List.mem_append_left _ (List.mem_append_left _ (List.mem_append_right _ h))))))))
theorem fX11_seen_94 : jj_F wsX11_seen RX11 94 10 14 := ⟨_, _, _, rfl, by decide, iX11_seen_X11, (show Cond.fieldLink RX11 94 (TX11 14).1 (TX11 14).2.1 (TX11 14).2.2.1 ∈ wsX11_seen from List.mem_of_getElem? (i := 1) rfl)⟩
theorem fX11_seen_26 : jj_F wsX11_seen RX11 26 10 4 := ⟨_, _, _, rfl, by decide, iX11_seen_X11, (show Cond.fieldLink RX11 26 (TX11 4).1 (TX11 4).2.1 (TX11 4).2.2.1 ∈ wsX11_seen from List.mem_of_getElem? (i := 2) rfl)⟩
theorem fX11_seen_36 : jj_F wsX11_seen RX11 36 10 6 := ⟨_, _, _, rfl, by decide, iX11_seen_X11, (show Cond.fieldLink RX11 36 (TX11 6).1 (TX11 6).2.1 (TX11 6).2.2.1 ∈ wsX11_seen from List.mem_of_getElem? (i := 3) rfl)⟩
theorem iX5_lookEverywhere_X9 : ∀ w ∈ wsX90, w ∈ wsX5_lookEverywhere := fun w h => List.mem_cons_of_mem _ (List.mem_append_left _ (List.mem_append_left _ (List.mem_append_left _ (List.mem_append_left _ (List.mem_append_right _ h)))))
theorem fX5_lookEverywhere_89 : jj_F wsX5_lookEverywhere RX5 89 8 4 := ⟨_, _, _, rfl, by decide, iX5_lookEverywhere_X9, (show Cond.fieldLink RX5 89 (TX9 4).1 (TX9 4).2.1 (TX9 4).2.2.1 ∈ wsX5_lookEverywhere from List.mem_of_getElem? (i := 1) rfl)⟩
theorem iX5_lookEverywhere_X5 : ∀ w ∈ wsX50, w ∈ wsX5_lookEverywhere := fun w h => List.mem_cons_of_mem _ (List.mem_append_left _ (List.mem_append_left _ (List.mem_append_left _ (List.mem_append_right _ h))))
theorem fX5_lookEverywhere_38 : jj_F wsX5_lookEverywhere RX5 38 4 11 := ⟨_, _, _, rfl, by decide, iX5_lookEverywhere_X5, (show Cond.fieldLink RX5 38 (TX5 11).1 (TX5 11).2.1 (TX5 11).2.2.1 ∈ wsX5_lookEverywhere from List.mem_of_getElem? (i := 2) rfl)⟩
theorem hdX5_lookEverywhere : yX5_lookEverywhere.cls = RX5 ∧ yX5_lookEverywhere.cls ≠ "java/lang/invoke/MethodHandle" ∧ yX5_lookEverywhere.cls ≠ "java/lang/invoke/VarHandle" ∧ (parseMethodDescriptor yX5_lookEverywhere.desc).map (fun d => d.parameters.length) = some 2 := by decide +kernel
theorem fX11_seen_103 : jj_F wsX11_seen RX11 103 10 15 := ⟨_, _, _, rfl, by decide, iX11_seen_X11, (show Cond.fieldLink RX11 103 (TX11 15).1 (TX11 15).2.1 (TX11 15).2.2.1 ∈ wsX11_seen from List.mem_of_getElem? (i := 4) rfl)⟩
theorem ft_10_15 : (mm_ft 10)[15]? = some 2 := rfl
theorem sm_10_15 : s_m 10 15 = 0 := rfl
theorem fX11_seen_52 : jj_F wsX11_seen RX11 52 10 9 := ⟨_, _, _, rfl, by decide, iX11_seen_X11, (show Cond.fieldLink RX11 52 (TX11 9).1 (TX11 9).2.1 (TX11 9).2.2.1 ∈ wsX11_seen from List.mem_of_getElem? (i := 5) rfl)⟩
theorem iX0_gather_X0 : ∀ w ∈ wsX00, w ∈ wsX0_gather := fun w h => List.mem_cons_of_mem _ (List.mem_append_left _ (List.mem_append_left _ (List.mem_append_left _ (List.mem_append_right _ h))))
theorem qX0_gather_18 : jj_P wsX0_gather RX0 18 0 3 (.int) := ⟨_, _, _, tyX0, rfl, by decide, iX0_gather_X0, (show Cond.fieldLink RX0 18 (TX0 3).1 (TX0 3).2.1 (TX0 3).2.2.1 ∈ wsX0_gather from List.mem_of_getElem? (i := 1) rfl), tyX0_ok, nmX0, rfl, by decide +kernel⟩
theorem sb_0_3 : s_b 0 3 = ((-2147483648), 2147483647) := rfl
theorem ft_0_3 : (mm_ft 0)[3]? = some 0 := rfl
theorem fX0_gather_25 : jj_F wsX0_gather RX0 25 0 0 := ⟨_, _, _, rfl, by decide, iX0_gather_X0, (show Cond.fieldLink RX0 25 (TX0 0).1 (TX0 0).2.1 (TX0 0).2.2.1 ∈ wsX0_gather from List.mem_of_getElem? (i := 2) rfl)⟩
theorem ft_0_0 : (mm_ft 0)[0]? = some 2 := rfl
theorem sm_0_0 : s_m 0 0 = 0 := rfl
theorem iX5_everyKind_X5 : ∀ w ∈ wsX50, w ∈ wsX5_everyKind := fun w h => List.mem_cons_of_mem _ (List.mem_append_left _ (List.mem_append_right _ h))
theorem fX5_everyKind_38 : jj_F wsX5_everyKind RX5 38 4 11 := ⟨_, _, _, rfl, by decide, iX5_everyKind_X5, (show Cond.fieldLink RX5 38 (TX5 11).1 (TX5 11).2.1 (TX5 11).2.2.1 ∈ wsX5_everyKind from List.mem_of_getElem? (i := 1) rfl)⟩
theorem hdX5_everyKind : yX5_everyKind.cls = RX5 ∧ yX5_everyKind.cls ≠ "java/lang/invoke/MethodHandle" ∧ yX5_everyKind.cls ≠ "java/lang/invoke/VarHandle" ∧ (parseMethodDescriptor yX5_everyKind.desc).map (fun d => d.parameters.length) = some 0 := by decide +kernel
theorem qX0_gather_22 : jj_P wsX0_gather RX0 22 0 4 (.int) := ⟨_, _, _, tyX0, rfl, by decide, iX0_gather_X0, (show Cond.fieldLink RX0 22 (TX0 4).1 (TX0 4).2.1 (TX0 4).2.2.1 ∈ wsX0_gather from List.mem_of_getElem? (i := 3) rfl), tyX0_ok, nmX0, rfl, by decide +kernel⟩
theorem sb_0_4 : s_b 0 4 = ((-2147483648), 2147483647) := rfl
theorem ft_0_4 : (mm_ft 0)[4]? = some 0 := rfl
theorem fX0_gather_9 : jj_F wsX0_gather RX0 9 0 1 := ⟨_, _, _, rfl, by decide, iX0_gather_X0, (show Cond.fieldLink RX0 9 (TX0 1).1 (TX0 1).2.1 (TX0 1).2.2.1 ∈ wsX0_gather from List.mem_of_getElem? (i := 4) rfl)⟩
theorem ft_0_1 : (mm_ft 0)[1]? = some 2 := rfl
theorem sm_0_1 : s_m 0 1 = 0 := rfl
theorem iX0_behind_X0 : ∀ w ∈ wsX00, w ∈ wsX0_behind := fun w h => List.mem_cons_of_mem _ (List.mem_append_left _ (List.mem_append_left _ (List.mem_append_left _ (List.mem_append_right _ h))))
theorem fX0_behind_25 : jj_F wsX0_behind RX0 25 0 0 := ⟨_, _, _, rfl, by decide, iX0_behind_X0, (show Cond.fieldLink RX0 25 (TX0 0).1 (TX0 0).2.1 (TX0 0).2.2.1 ∈ wsX0_behind from List.mem_of_getElem? (i := 1) rfl)⟩
theorem hdX0_behind : yX0_behind.cls = RX0 ∧ yX0_behind.cls ≠ "java/lang/invoke/MethodHandle" ∧ yX0_behind.cls ≠ "java/lang/invoke/VarHandle" ∧ (parseMethodDescriptor yX0_behind.desc).map (fun d => d.parameters.length) = some 2 := by decide +kernel
theorem ak_43 : s_ak 43 = 100 := rfl
theorem an_43 : s_an 43 = 256 := rfl
theorem sb_43 (k : Nat) : s_b 43 k = ((-2147483648), 2147483647) := rfl
theorem fX0_gather_18 : jj_F wsX0_gather RX0 18 0 3 := ⟨_, _, _, rfl, by decide, iX0_gather_X0, (show Cond.fieldLink RX0 18 (TX0 3).1 (TX0 3).2.1 (TX0 3).2.2.1 ∈ wsX0_gather from List.mem_of_getElem? (i := 1) rfl)⟩
theorem fX0_gather_22 : jj_F wsX0_gather RX0 22 0 4 := ⟨_, _, _, rfl, by decide, iX0_gather_X0, (show Cond.fieldLink RX0 22 (TX0 4).1 (TX0 4).2.1 (TX0 4).2.2.1 ∈ wsX0_gather from List.mem_of_getElem? (i := 3) rfl)⟩
theorem hdX0_gather : yX0_gather.cls = RX0 ∧ yX0_gather.cls ≠ "java/lang/invoke/MethodHandle" ∧ yX0_gather.cls ≠ "java/lang/invoke/VarHandle" ∧ (parseMethodDescriptor yX0_gather.desc).map (fun d => d.parameters.length) = some 1 := by decide +kernel
theorem iX11_seen_X0 : ∀ w ∈ wsX00, w ∈ wsX11_seen := fun w h => List.mem_cons_of_mem _ (List.mem_append_left _ (List.mem_append_left _ (List.mem_append_left _ (List.mem_append_left _ (List.mem_append_left _ (List.mem_append_left _ (List.mem_append_right _ h)))))))
theorem fX11_seen_354 : jj_F wsX11_seen RX11 354 0 3 := ⟨_, _, _, rfl, by decide, iX11_seen_X0, (show Cond.fieldLink RX11 354 (TX0 3).1 (TX0 3).2.1 (TX0 3).2.2.1 ∈ wsX11_seen from List.mem_of_getElem? (i := 6) rfl)⟩
theorem iX11_sureGone_X11 : ∀ w ∈ wsX110, w ∈ wsX11_sureGone := fun w h => List.mem_cons_of_mem _ (List.mem_append_left _ (List.mem_append_left _ (List.mem_append_left _ (List.mem_append_left _ (List.mem_append_left _ (List.mem_append_left _ (List.mem_append_left _ (List.mem_append_right _ h))))))))
theorem fX11_sureGone_94 : jj_F wsX11_sureGone RX11 94 10 14 := ⟨_, _, _, rfl, by decide, iX11_sureGone_X11, (show Cond.fieldLink RX11 94 (TX11 14).1 (TX11 14).2.1 (TX11 14).2.2.1 ∈ wsX11_sureGone from List.mem_of_getElem? (i := 1) rfl)⟩
theorem fX11_sureGone_26 : jj_F wsX11_sureGone RX11 26 10 4 := ⟨_, _, _, rfl, by decide, iX11_sureGone_X11, (show Cond.fieldLink RX11 26 (TX11 4).1 (TX11 4).2.1 (TX11 4).2.2.1 ∈ wsX11_sureGone from List.mem_of_getElem? (i := 2) rfl)⟩
theorem fX11_sureGone_36 : jj_F wsX11_sureGone RX11 36 10 6 := ⟨_, _, _, rfl, by decide, iX11_sureGone_X11, (show Cond.fieldLink RX11 36 (TX11 6).1 (TX11 6).2.1 (TX11 6).2.2.1 ∈ wsX11_sureGone from List.mem_of_getElem? (i := 3) rfl)⟩
theorem fX11_sureGone_103 : jj_F wsX11_sureGone RX11 103 10 15 := ⟨_, _, _, rfl, by decide, iX11_sureGone_X11, (show Cond.fieldLink RX11 103 (TX11 15).1 (TX11 15).2.1 (TX11 15).2.2.1 ∈ wsX11_sureGone from List.mem_of_getElem? (i := 4) rfl)⟩
theorem fX11_sureGone_52 : jj_F wsX11_sureGone RX11 52 10 9 := ⟨_, _, _, rfl, by decide, iX11_sureGone_X11, (show Cond.fieldLink RX11 52 (TX11 9).1 (TX11 9).2.1 (TX11 9).2.2.1 ∈ wsX11_sureGone from List.mem_of_getElem? (i := 5) rfl)⟩
theorem iX11_sureGone_X0 : ∀ w ∈ wsX00, w ∈ wsX11_sureGone := fun w h => List.mem_cons_of_mem _ (List.mem_append_left _ (List.mem_append_left _ (List.mem_append_left _ (List.mem_append_left _ (List.mem_append_left _ (List.mem_append_left _ (List.mem_append_right _ h)))))))
theorem fX11_sureGone_354 : jj_F wsX11_sureGone RX11 354 0 3 := ⟨_, _, _, rfl, by decide, iX11_sureGone_X0, (show Cond.fieldLink RX11 354 (TX0 3).1 (TX0 3).2.1 (TX0 3).2.2.1 ∈ wsX11_sureGone from List.mem_of_getElem? (i := 6) rfl)⟩
theorem fX11_sureGone_357 : jj_F wsX11_sureGone RX11 357 0 4 := ⟨_, _, _, rfl, by decide, iX11_sureGone_X0, (show Cond.fieldLink RX11 357 (TX0 4).1 (TX0 4).2.1 (TX0 4).2.2.1 ∈ wsX11_sureGone from List.mem_of_getElem? (i := 7) rfl)⟩
theorem iX11_ask_X11 : ∀ w ∈ wsX110, w ∈ wsX11_ask := fun w h => List.mem_cons_of_mem _ (List.mem_append_left _ (List.mem_append_left _ (List.mem_append_left _ (List.mem_append_left _ (List.mem_append_left _ (List.mem_append_left _ (List.mem_append_left _ (List.mem_append_right _ h))))))))
theorem fX11_ask_94 : jj_F wsX11_ask RX11 94 10 14 := ⟨_, _, _, rfl, by decide, iX11_ask_X11, (show Cond.fieldLink RX11 94 (TX11 14).1 (TX11 14).2.1 (TX11 14).2.2.1 ∈ wsX11_ask from List.mem_of_getElem? (i := 1) rfl)⟩
theorem fX11_ask_26 : jj_F wsX11_ask RX11 26 10 4 := ⟨_, _, _, rfl, by decide, iX11_ask_X11, (show Cond.fieldLink RX11 26 (TX11 4).1 (TX11 4).2.1 (TX11 4).2.2.1 ∈ wsX11_ask from List.mem_of_getElem? (i := 2) rfl)⟩
theorem fX11_ask_36 : jj_F wsX11_ask RX11 36 10 6 := ⟨_, _, _, rfl, by decide, iX11_ask_X11, (show Cond.fieldLink RX11 36 (TX11 6).1 (TX11 6).2.1 (TX11 6).2.2.1 ∈ wsX11_ask from List.mem_of_getElem? (i := 3) rfl)⟩
theorem fX11_ask_103 : jj_F wsX11_ask RX11 103 10 15 := ⟨_, _, _, rfl, by decide, iX11_ask_X11, (show Cond.fieldLink RX11 103 (TX11 15).1 (TX11 15).2.1 (TX11 15).2.2.1 ∈ wsX11_ask from List.mem_of_getElem? (i := 4) rfl)⟩
theorem fX11_ask_52 : jj_F wsX11_ask RX11 52 10 9 := ⟨_, _, _, rfl, by decide, iX11_ask_X11, (show Cond.fieldLink RX11 52 (TX11 9).1 (TX11 9).2.1 (TX11 9).2.2.1 ∈ wsX11_ask from List.mem_of_getElem? (i := 5) rfl)⟩
theorem iX11_ask_X0 : ∀ w ∈ wsX00, w ∈ wsX11_ask := fun w h => List.mem_cons_of_mem _ (List.mem_append_left _ (List.mem_append_left _ (List.mem_append_left _ (List.mem_append_left _ (List.mem_append_left _ (List.mem_append_left _ (List.mem_append_right _ h)))))))
theorem fX11_ask_354 : jj_F wsX11_ask RX11 354 0 3 := ⟨_, _, _, rfl, by decide, iX11_ask_X0, (show Cond.fieldLink RX11 354 (TX0 3).1 (TX0 3).2.1 (TX0 3).2.2.1 ∈ wsX11_ask from List.mem_of_getElem? (i := 6) rfl)⟩
theorem iX0_mostTelling_X0 : ∀ w ∈ wsX00, w ∈ wsX0_mostTelling := fun w h => List.mem_cons_of_mem _ (List.mem_append_left _ (List.mem_append_left _ (List.mem_append_left _ (List.mem_append_right _ h))))
theorem fX0_mostTelling_25 : jj_F wsX0_mostTelling RX0 25 0 0 := ⟨_, _, _, rfl, by decide, iX0_mostTelling_X0, (show Cond.fieldLink RX0 25 (TX0 0).1 (TX0 0).2.1 (TX0 0).2.2.1 ∈ wsX0_mostTelling from List.mem_of_getElem? (i := 1) rfl)⟩
theorem iX5_buyers_X5 : ∀ w ∈ wsX50, w ∈ wsX5_buyers := fun w h => List.mem_cons_of_mem _ (List.mem_append_left _ (List.mem_append_left _ (List.mem_append_right _ h)))
theorem fX5_buyers_52 : jj_F wsX5_buyers RX5 52 4 9 := ⟨_, _, _, rfl, by decide, iX5_buyers_X5, (show Cond.fieldLink RX5 52 (TX5 9).1 (TX5 9).2.1 (TX5 9).2.2.1 ∈ wsX5_buyers from List.mem_of_getElem? (i := 1) rfl)⟩
theorem iX5_buyers_X7 : ∀ w ∈ wsX70, w ∈ wsX5_buyers := fun w h => List.mem_cons_of_mem _ (List.mem_append_left _ (List.mem_append_right _ h))
theorem fX5_buyers_92 : jj_F wsX5_buyers RX5 92 6 0 := ⟨_, _, _, rfl, by decide, iX5_buyers_X7, (show Cond.fieldLink RX5 92 (TX7 0).1 (TX7 0).2.1 (TX7 0).2.2.1 ∈ wsX5_buyers from List.mem_of_getElem? (i := 2) rfl)⟩
theorem hdX5_buyers : yX5_buyers.cls = RX5 ∧ yX5_buyers.cls ≠ "java/lang/invoke/MethodHandle" ∧ yX5_buyers.cls ≠ "java/lang/invoke/VarHandle" ∧ (parseMethodDescriptor yX5_buyers.desc).map (fun d => d.parameters.length) = some 0 := by decide +kernel
theorem iX0_mostAlike_X0 : ∀ w ∈ wsX00, w ∈ wsX0_mostAlike := fun w h => List.mem_cons_of_mem _ (List.mem_append_left _ (List.mem_append_left _ (List.mem_append_right _ h)))
theorem fX0_mostAlike_15 : jj_F wsX0_mostAlike RX0 15 0 2 := ⟨_, _, _, rfl, by decide, iX0_mostAlike_X0, (show Cond.fieldLink RX0 15 (TX0 2).1 (TX0 2).2.1 (TX0 2).2.2.1 ∈ wsX0_mostAlike from List.mem_of_getElem? (i := 1) rfl)⟩
theorem ft_0_2 : (mm_ft 0)[2]? = some 2 := rfl
theorem sm_0_2 : s_m 0 2 = 0 := rfl
theorem an_44 : s_an 44 = 10 := rfl
theorem ak_44 : s_ak 44 = 100 := rfl
theorem sb_44 (k : Nat) : s_b 44 k = ((-2147483648), 2147483647) := rfl
theorem fX0_mostAlike_25 : jj_F wsX0_mostAlike RX0 25 0 0 := ⟨_, _, _, rfl, by decide, iX0_mostAlike_X0, (show Cond.fieldLink RX0 25 (TX0 0).1 (TX0 0).2.1 (TX0 0).2.2.1 ∈ wsX0_mostAlike from List.mem_of_getElem? (i := 2) rfl)⟩
theorem fX0_mostAlike_9 : jj_F wsX0_mostAlike RX0 9 0 1 := ⟨_, _, _, rfl, by decide, iX0_mostAlike_X0, (show Cond.fieldLink RX0 9 (TX0 1).1 (TX0 1).2.1 (TX0 1).2.2.1 ∈ wsX0_mostAlike from List.mem_of_getElem? (i := 3) rfl)⟩
theorem wX0_mostAlike_65_0 : Cond.methodLink RX0 65 Lib.Math.max.name ∈ wsX0_mostAlike := List.mem_of_getElem? (i := 4) rfl
theorem wX0_mostAlike_65_1 : Cond.static Lib.Math.max.name ∈ wsX0_mostAlike := List.mem_of_getElem? (i := 5) rfl
theorem wX0_mostAlike_65_2 : Cond.initialized "java/lang/Math" ∈ wsX0_mostAlike := List.mem_of_getElem? (i := 6) rfl
theorem wX0_mostAlike_65_3 : Cond.code Lib.Math.max.name Lib.Math.max.code 2 (some .int) ∈ wsX0_mostAlike := List.mem_of_getElem? (i := 7) rfl
theorem hdX0_mostAlike : yX0_mostAlike.cls = RX0 ∧ yX0_mostAlike.cls ≠ "java/lang/invoke/MethodHandle" ∧ yX0_mostAlike.cls ≠ "java/lang/invoke/VarHandle" ∧ (parseMethodDescriptor yX0_mostAlike.desc).map (fun d => d.parameters.length) = some 1 := by decide +kernel
theorem hdX0_mostTelling : yX0_mostTelling.cls = RX0 ∧ yX0_mostTelling.cls ≠ "java/lang/invoke/MethodHandle" ∧ yX0_mostTelling.cls ≠ "java/lang/invoke/VarHandle" ∧ (parseMethodDescriptor yX0_mostTelling.desc).map (fun d => d.parameters.length) = some 0 := by decide +kernel
theorem iX11_cameRefusal_X11 : ∀ w ∈ wsX110, w ∈ wsX11_cameRefusal := fun w h => List.mem_cons_of_mem _ (List.mem_append_left _ (List.mem_append_left _ (List.mem_append_left _ (List.mem_append_right _ h))))
theorem fX11_cameRefusal_52 : jj_F wsX11_cameRefusal RX11 52 10 9 := ⟨_, _, _, rfl, by decide, iX11_cameRefusal_X11, (show Cond.fieldLink RX11 52 (TX11 9).1 (TX11 9).2.1 (TX11 9).2.2.1 ∈ wsX11_cameRefusal from List.mem_of_getElem? (i := 1) rfl)⟩
theorem kX11_cameRefusal_219 : Cond.constantLong RX11 219 (-1) ∈ wsX11_cameRefusal := List.mem_of_getElem? (i := 2) rfl
theorem fX11_cameRefusal_36 : jj_F wsX11_cameRefusal RX11 36 10 6 := ⟨_, _, _, rfl, by decide, iX11_cameRefusal_X11, (show Cond.fieldLink RX11 36 (TX11 6).1 (TX11 6).2.1 (TX11 6).2.2.1 ∈ wsX11_cameRefusal from List.mem_of_getElem? (i := 3) rfl)⟩
theorem iX11_cameRefusal_X9 : ∀ w ∈ wsX90, w ∈ wsX11_cameRefusal := fun w h => List.mem_cons_of_mem _ (List.mem_append_left _ (List.mem_append_left _ (List.mem_append_right _ h)))
theorem fX11_cameRefusal_160 : jj_F wsX11_cameRefusal RX11 160 8 0 := ⟨_, _, _, rfl, by decide, iX11_cameRefusal_X9, (show Cond.fieldLink RX11 160 (TX9 0).1 (TX9 0).2.1 (TX9 0).2.2.1 ∈ wsX11_cameRefusal from List.mem_of_getElem? (i := 4) rfl)⟩
theorem hdX11_cameRefusal : yX11_cameRefusal.cls = RX11 ∧ yX11_cameRefusal.cls ≠ "java/lang/invoke/MethodHandle" ∧ yX11_cameRefusal.cls ≠ "java/lang/invoke/VarHandle" ∧ (parseMethodDescriptor yX11_cameRefusal.desc).map (fun d => d.parameters.length) = some 1 := by decide +kernel
theorem iX11_came_X11 : ∀ w ∈ wsX110, w ∈ wsX11_came := fun w h => List.mem_cons_of_mem _ (List.mem_append_left _ (List.mem_append_left _ (List.mem_append_left _ (List.mem_append_left _ (List.mem_append_left _ (List.mem_append_left _ (List.mem_append_left _ (List.mem_append_right _ h))))))))
theorem fX11_came_94 : jj_F wsX11_came RX11 94 10 14 := ⟨_, _, _, rfl, by decide, iX11_came_X11, (show Cond.fieldLink RX11 94 (TX11 14).1 (TX11 14).2.1 (TX11 14).2.2.1 ∈ wsX11_came from List.mem_of_getElem? (i := 1) rfl)⟩
theorem fX11_came_26 : jj_F wsX11_came RX11 26 10 4 := ⟨_, _, _, rfl, by decide, iX11_came_X11, (show Cond.fieldLink RX11 26 (TX11 4).1 (TX11 4).2.1 (TX11 4).2.2.1 ∈ wsX11_came from List.mem_of_getElem? (i := 2) rfl)⟩
theorem fX11_came_36 : jj_F wsX11_came RX11 36 10 6 := ⟨_, _, _, rfl, by decide, iX11_came_X11, (show Cond.fieldLink RX11 36 (TX11 6).1 (TX11 6).2.1 (TX11 6).2.2.1 ∈ wsX11_came from List.mem_of_getElem? (i := 3) rfl)⟩
theorem iX11_came_X9 : ∀ w ∈ wsX90, w ∈ wsX11_came := fun w h => List.mem_cons_of_mem _ (List.mem_append_left _ (List.mem_append_left _ (List.mem_append_left _ (List.mem_append_left _ (List.mem_append_left _ (List.mem_append_left _ (List.mem_append_right _ h)))))))
theorem fX11_came_153 : jj_F wsX11_came RX11 153 8 4 := ⟨_, _, _, rfl, by decide, iX11_came_X9, (show Cond.fieldLink RX11 153 (TX9 4).1 (TX9 4).2.1 (TX9 4).2.2.1 ∈ wsX11_came from List.mem_of_getElem? (i := 4) rfl)⟩
theorem fX11_came_103 : jj_F wsX11_came RX11 103 10 15 := ⟨_, _, _, rfl, by decide, iX11_came_X11, (show Cond.fieldLink RX11 103 (TX11 15).1 (TX11 15).2.1 (TX11 15).2.2.1 ∈ wsX11_came from List.mem_of_getElem? (i := 5) rfl)⟩
theorem fX11_came_52 : jj_F wsX11_came RX11 52 10 9 := ⟨_, _, _, rfl, by decide, iX11_came_X11, (show Cond.fieldLink RX11 52 (TX11 9).1 (TX11 9).2.1 (TX11 9).2.2.1 ∈ wsX11_came from List.mem_of_getElem? (i := 6) rfl)⟩
theorem iX0_rows_X0 : ∀ w ∈ wsX00, w ∈ wsX0_rows := fun w h => List.mem_cons_of_mem _ (List.mem_append_left _ (List.mem_append_left _ (List.mem_append_left _ (List.mem_append_left _ (List.mem_append_right _ h)))))
theorem fX0_rows_25 : jj_F wsX0_rows RX0 25 0 0 := ⟨_, _, _, rfl, by decide, iX0_rows_X0, (show Cond.fieldLink RX0 25 (TX0 0).1 (TX0 0).2.1 (TX0 0).2.2.1 ∈ wsX0_rows from List.mem_of_getElem? (i := 1) rfl)⟩
theorem hdX0_rows : yX0_rows.cls = RX0 ∧ yX0_rows.cls ≠ "java/lang/invoke/MethodHandle" ∧ yX0_rows.cls ≠ "java/lang/invoke/VarHandle" ∧ (parseMethodDescriptor yX0_rows.desc).map (fun d => d.parameters.length) = some 1 := by decide +kernel
theorem iX11_who_X11 : ∀ w ∈ wsX110, w ∈ wsX11_who := fun w h => List.mem_cons_of_mem _ (List.mem_append_left _ (List.mem_append_left _ (List.mem_append_left _ (List.mem_append_left _ (List.mem_append_left _ (List.mem_append_left _ (List.mem_append_left _ (List.mem_append_right _ h))))))))
theorem fX11_who_52 : jj_F wsX11_who RX11 52 10 9 := ⟨_, _, _, rfl, by decide, iX11_who_X11, (show Cond.fieldLink RX11 52 (TX11 9).1 (TX11 9).2.1 (TX11 9).2.2.1 ∈ wsX11_who from List.mem_of_getElem? (i := 1) rfl)⟩
theorem fX11_who_94 : jj_F wsX11_who RX11 94 10 14 := ⟨_, _, _, rfl, by decide, iX11_who_X11, (show Cond.fieldLink RX11 94 (TX11 14).1 (TX11 14).2.1 (TX11 14).2.2.1 ∈ wsX11_who from List.mem_of_getElem? (i := 2) rfl)⟩
theorem fX11_who_26 : jj_F wsX11_who RX11 26 10 4 := ⟨_, _, _, rfl, by decide, iX11_who_X11, (show Cond.fieldLink RX11 26 (TX11 4).1 (TX11 4).2.1 (TX11 4).2.2.1 ∈ wsX11_who from List.mem_of_getElem? (i := 3) rfl)⟩
theorem fX11_who_36 : jj_F wsX11_who RX11 36 10 6 := ⟨_, _, _, rfl, by decide, iX11_who_X11, (show Cond.fieldLink RX11 36 (TX11 6).1 (TX11 6).2.1 (TX11 6).2.2.1 ∈ wsX11_who from List.mem_of_getElem? (i := 4) rfl)⟩
theorem iX11_who_X9 : ∀ w ∈ wsX90, w ∈ wsX11_who := fun w h => List.mem_cons_of_mem _ (List.mem_append_left _ (List.mem_append_left _ (List.mem_append_left _ (List.mem_append_left _ (List.mem_append_left _ (List.mem_append_left _ (List.mem_append_right _ h)))))))
theorem fX11_who_153 : jj_F wsX11_who RX11 153 8 4 := ⟨_, _, _, rfl, by decide, iX11_who_X9, (show Cond.fieldLink RX11 153 (TX9 4).1 (TX9 4).2.1 (TX9 4).2.2.1 ∈ wsX11_who from List.mem_of_getElem? (i := 5) rfl)⟩
theorem fX11_who_103 : jj_F wsX11_who RX11 103 10 15 := ⟨_, _, _, rfl, by decide, iX11_who_X11, (show Cond.fieldLink RX11 103 (TX11 15).1 (TX11 15).2.1 (TX11 15).2.2.1 ∈ wsX11_who from List.mem_of_getElem? (i := 6) rfl)⟩
theorem iX0_comers_X0 : ∀ w ∈ wsX00, w ∈ wsX0_comers := fun w h => List.mem_cons_of_mem _ (List.mem_append_left _ (List.mem_append_left _ (List.mem_append_left _ (List.mem_append_left _ (List.mem_append_right _ h)))))
theorem fX0_comers_9 : jj_F wsX0_comers RX0 9 0 1 := ⟨_, _, _, rfl, by decide, iX0_comers_X0, (show Cond.fieldLink RX0 9 (TX0 1).1 (TX0 1).2.1 (TX0 1).2.2.1 ∈ wsX0_comers from List.mem_of_getElem? (i := 1) rfl)⟩
theorem iX0_stepBack_X0 : ∀ w ∈ wsX00, w ∈ wsX0_stepBack := fun w h => List.mem_cons_of_mem _ (List.mem_append_left _ (List.mem_append_left _ (List.mem_append_left _ (List.mem_append_right _ h))))
theorem fX0_stepBack_25 : jj_F wsX0_stepBack RX0 25 0 0 := ⟨_, _, _, rfl, by decide, iX0_stepBack_X0, (show Cond.fieldLink RX0 25 (TX0 0).1 (TX0 0).2.1 (TX0 0).2.2.1 ∈ wsX0_stepBack from List.mem_of_getElem? (i := 1) rfl)⟩
theorem fX0_stepBack_9 : jj_F wsX0_stepBack RX0 9 0 1 := ⟨_, _, _, rfl, by decide, iX0_stepBack_X0, (show Cond.fieldLink RX0 9 (TX0 1).1 (TX0 1).2.1 (TX0 1).2.2.1 ∈ wsX0_stepBack from List.mem_of_getElem? (i := 2) rfl)⟩
theorem iX5_isMet_X5 : ∀ w ∈ wsX50, w ∈ wsX5_isMet := fun w h => List.mem_cons_of_mem _ (List.mem_append_left _ (List.mem_append_right _ h))
theorem fX5_isMet_15 : jj_F wsX5_isMet RX5 15 4 2 := ⟨_, _, _, rfl, by decide, iX5_isMet_X5, (show Cond.fieldLink RX5 15 (TX5 2).1 (TX5 2).2.1 (TX5 2).2.2.1 ∈ wsX5_isMet from List.mem_of_getElem? (i := 1) rfl)⟩
theorem hdX5_isMet : yX5_isMet.cls = RX5 ∧ yX5_isMet.cls ≠ "java/lang/invoke/MethodHandle" ∧ yX5_isMet.cls ≠ "java/lang/invoke/VarHandle" ∧ (parseMethodDescriptor yX5_isMet.desc).map (fun d => d.parameters.length) = some 1 := by decide +kernel
theorem iX0_fitting_X0 : ∀ w ∈ wsX00, w ∈ wsX0_fitting := fun w h => List.mem_cons_of_mem _ (List.mem_append_left _ (List.mem_append_left _ (List.mem_append_left _ (List.mem_append_right _ h))))
theorem fX0_fitting_25 : jj_F wsX0_fitting RX0 25 0 0 := ⟨_, _, _, rfl, by decide, iX0_fitting_X0, (show Cond.fieldLink RX0 25 (TX0 0).1 (TX0 0).2.1 (TX0 0).2.2.1 ∈ wsX0_fitting from List.mem_of_getElem? (i := 1) rfl)⟩
theorem fX0_fitting_9 : jj_F wsX0_fitting RX0 9 0 1 := ⟨_, _, _, rfl, by decide, iX0_fitting_X0, (show Cond.fieldLink RX0 9 (TX0 1).1 (TX0 1).2.1 (TX0 1).2.2.1 ∈ wsX0_fitting from List.mem_of_getElem? (i := 2) rfl)⟩
theorem hdX0_fitting : yX0_fitting.cls = RX0 ∧ yX0_fitting.cls ≠ "java/lang/invoke/MethodHandle" ∧ yX0_fitting.cls ≠ "java/lang/invoke/VarHandle" ∧ (parseMethodDescriptor yX0_fitting.desc).map (fun d => d.parameters.length) = some 2 := by decide +kernel
theorem hdX0_stepBack : yX0_stepBack.cls = RX0 ∧ yX0_stepBack.cls ≠ "java/lang/invoke/MethodHandle" ∧ yX0_stepBack.cls ≠ "java/lang/invoke/VarHandle" ∧ (parseMethodDescriptor yX0_stepBack.desc).map (fun d => d.parameters.length) = some 1 := by decide +kernel
theorem fX0_comers_25 : jj_F wsX0_comers RX0 25 0 0 := ⟨_, _, _, rfl, by decide, iX0_comers_X0, (show Cond.fieldLink RX0 25 (TX0 0).1 (TX0 0).2.1 (TX0 0).2.2.1 ∈ wsX0_comers from List.mem_of_getElem? (i := 2) rfl)⟩
theorem iX5_isOnRow_X5 : ∀ w ∈ wsX50, w ∈ wsX5_isOnRow := fun w h => List.mem_cons_of_mem _ (List.mem_append_left _ (List.mem_append_right _ h))
theorem fX5_isOnRow_21 : jj_F wsX5_isOnRow RX5 21 4 4 := ⟨_, _, _, rfl, by decide, iX5_isOnRow_X5, (show Cond.fieldLink RX5 21 (TX5 4).1 (TX5 4).2.1 (TX5 4).2.2.1 ∈ wsX5_isOnRow from List.mem_of_getElem? (i := 1) rfl)⟩
theorem hdX5_isOnRow : yX5_isOnRow.cls = RX5 ∧ yX5_isOnRow.cls ≠ "java/lang/invoke/MethodHandle" ∧ yX5_isOnRow.cls ≠ "java/lang/invoke/VarHandle" ∧ (parseMethodDescriptor yX5_isOnRow.desc).map (fun d => d.parameters.length) = some 1 := by decide +kernel
theorem hdX0_comers : yX0_comers.cls = RX0 ∧ yX0_comers.cls ≠ "java/lang/invoke/MethodHandle" ∧ yX0_comers.cls ≠ "java/lang/invoke/VarHandle" ∧ (parseMethodDescriptor yX0_comers.desc).map (fun d => d.parameters.length) = some 2 := by decide +kernel
theorem iX11_numbers_X11 : ∀ w ∈ wsX110, w ∈ wsX11_numbers := fun w h => List.mem_cons_of_mem _ (List.mem_append_left _ (List.mem_append_left _ (List.mem_append_right _ h)))
theorem fX11_numbers_52 : jj_F wsX11_numbers RX11 52 10 9 := ⟨_, _, _, rfl, by decide, iX11_numbers_X11, (show Cond.fieldLink RX11 52 (TX11 9).1 (TX11 9).2.1 (TX11 9).2.2.1 ∈ wsX11_numbers from List.mem_of_getElem? (i := 1) rfl)⟩
theorem iX10_layOut_X10 : ∀ w ∈ wsX100, w ∈ wsX10_layOut := fun w h => List.mem_cons_of_mem _ (List.mem_append_left _ (List.mem_append_right _ h))
theorem fX10_layOut_9 : jj_F wsX10_layOut RX10 9 9 0 := ⟨_, _, _, rfl, by decide, iX10_layOut_X10, (show Cond.fieldLink RX10 9 (TX10 0).1 (TX10 0).2.1 (TX10 0).2.2.1 ∈ wsX10_layOut from List.mem_of_getElem? (i := 1) rfl)⟩
theorem qX10_layOut_15 : jj_P wsX10_layOut RX10 15 9 1 (.int) := ⟨_, _, _, tyX10, rfl, by decide, iX10_layOut_X10, (show Cond.fieldLink RX10 15 (TX10 1).1 (TX10 1).2.1 (TX10 1).2.2.1 ∈ wsX10_layOut from List.mem_of_getElem? (i := 2) rfl), tyX10_ok, nmX10, rfl, by decide +kernel⟩
theorem sb_9_1 : s_b 9 1 = (0, 3) := rfl
theorem ft_9_1 : (mm_ft 9)[1]? = some 0 := rfl
theorem qX10_layOut_19 : jj_P wsX10_layOut RX10 19 9 2 (.int) := ⟨_, _, _, tyX10, rfl, by decide, iX10_layOut_X10, (show Cond.fieldLink RX10 19 (TX10 2).1 (TX10 2).2.1 (TX10 2).2.2.1 ∈ wsX10_layOut from List.mem_of_getElem? (i := 3) rfl), tyX10_ok, nmX10, rfl, by decide +kernel⟩
theorem hdX10_layOut : yX10_layOut.cls = RX10 ∧ yX10_layOut.cls ≠ "java/lang/invoke/MethodHandle" ∧ yX10_layOut.cls ≠ "java/lang/invoke/VarHandle" ∧ (parseMethodDescriptor yX10_layOut.desc).map (fun d => d.parameters.length) = some 2 := by decide +kernel
theorem iX11_write_X11 : ∀ w ∈ wsX110, w ∈ wsX11_write := fun w h => List.mem_cons_of_mem _ (List.mem_append_left _ (List.mem_append_left _ (List.mem_append_right _ h)))
theorem fX11_write_52 : jj_F wsX11_write RX11 52 10 9 := ⟨_, _, _, rfl, by decide, iX11_write_X11, (show Cond.fieldLink RX11 52 (TX11 9).1 (TX11 9).2.1 (TX11 9).2.2.1 ∈ wsX11_write from List.mem_of_getElem? (i := 1) rfl)⟩
theorem iX10_put_X10 : ∀ w ∈ wsX100, w ∈ wsX10_put := fun w h => List.mem_cons_of_mem _ (List.mem_append_left _ (List.mem_append_right _ h))
theorem fX10_put_9 : jj_F wsX10_put RX10 9 9 0 := ⟨_, _, _, rfl, by decide, iX10_put_X10, (show Cond.fieldLink RX10 9 (TX10 0).1 (TX10 0).2.1 (TX10 0).2.2.1 ∈ wsX10_put from List.mem_of_getElem? (i := 1) rfl)⟩
theorem iX10_cut_X10 : ∀ w ∈ wsX100, w ∈ wsX10_cut := fun w h => List.mem_cons_of_mem _ (List.mem_append_left _ (List.mem_append_right _ h))
theorem fX10_cut_15 : jj_F wsX10_cut RX10 15 9 1 := ⟨_, _, _, rfl, by decide, iX10_cut_X10, (show Cond.fieldLink RX10 15 (TX10 1).1 (TX10 1).2.1 (TX10 1).2.2.1 ∈ wsX10_cut from List.mem_of_getElem? (i := 1) rfl)⟩
theorem hdX10_cut : yX10_cut.cls = RX10 ∧ yX10_cut.cls ≠ "java/lang/invoke/MethodHandle" ∧ yX10_cut.cls ≠ "java/lang/invoke/VarHandle" ∧ (parseMethodDescriptor yX10_cut.desc).map (fun d => d.parameters.length) = some 1 := by decide +kernel
theorem hdX10_put : yX10_put.cls = RX10 ∧ yX10_put.cls ≠ "java/lang/invoke/MethodHandle" ∧ yX10_put.cls ≠ "java/lang/invoke/VarHandle" ∧ (parseMethodDescriptor yX10_put.desc).map (fun d => d.parameters.length) = some 2 := by decide +kernel
theorem kX11_write_387 : Cond.constantLong RX11 387 (-7) ∈ wsX11_write := List.mem_of_getElem? (i := 2) rfl
theorem iX11_lists_X11 : ∀ w ∈ wsX110, w ∈ wsX11_lists := fun w h => List.mem_cons_of_mem _ (List.mem_append_left _ (List.mem_append_left _ (List.mem_append_left _ (List.mem_append_left _ (List.mem_append_left _ (List.mem_append_left _ (List.mem_append_right _ h)))))))
theorem fX11_lists_94 : jj_F wsX11_lists RX11 94 10 14 := ⟨_, _, _, rfl, by decide, iX11_lists_X11, (show Cond.fieldLink RX11 94 (TX11 14).1 (TX11 14).2.1 (TX11 14).2.2.1 ∈ wsX11_lists from List.mem_of_getElem? (i := 1) rfl)⟩
theorem fX11_lists_26 : jj_F wsX11_lists RX11 26 10 4 := ⟨_, _, _, rfl, by decide, iX11_lists_X11, (show Cond.fieldLink RX11 26 (TX11 4).1 (TX11 4).2.1 (TX11 4).2.2.1 ∈ wsX11_lists from List.mem_of_getElem? (i := 2) rfl)⟩
theorem fX11_lists_36 : jj_F wsX11_lists RX11 36 10 6 := ⟨_, _, _, rfl, by decide, iX11_lists_X11, (show Cond.fieldLink RX11 36 (TX11 6).1 (TX11 6).2.1 (TX11 6).2.2.1 ∈ wsX11_lists from List.mem_of_getElem? (i := 3) rfl)⟩
theorem iX11_lists_X9 : ∀ w ∈ wsX90, w ∈ wsX11_lists := fun w h => List.mem_cons_of_mem _ (List.mem_append_left _ (List.mem_append_left _ (List.mem_append_left _ (List.mem_append_left _ (List.mem_append_left _ (List.mem_append_right _ h))))))
theorem fX11_lists_153 : jj_F wsX11_lists RX11 153 8 4 := ⟨_, _, _, rfl, by decide, iX11_lists_X9, (show Cond.fieldLink RX11 153 (TX9 4).1 (TX9 4).2.1 (TX9 4).2.2.1 ∈ wsX11_lists from List.mem_of_getElem? (i := 4) rfl)⟩
theorem fX11_lists_52 : jj_F wsX11_lists RX11 52 10 9 := ⟨_, _, _, rfl, by decide, iX11_lists_X11, (show Cond.fieldLink RX11 52 (TX11 9).1 (TX11 9).2.1 (TX11 9).2.2.1 ∈ wsX11_lists from List.mem_of_getElem? (i := 5) rfl)⟩
theorem wX11_lists_246_0 : Cond.methodLink RX11 246 Lib.Math.min.name ∈ wsX11_lists := List.mem_of_getElem? (i := 6) rfl
theorem wX11_lists_246_1 : Cond.static Lib.Math.min.name ∈ wsX11_lists := List.mem_of_getElem? (i := 7) rfl
theorem wX11_lists_246_2 : Cond.initialized "java/lang/Math" ∈ wsX11_lists := List.mem_of_getElem? (i := 8) rfl
theorem wX11_lists_246_3 : Cond.code Lib.Math.min.name Lib.Math.min.code 2 (some .int) ∈ wsX11_lists := List.mem_of_getElem? (i := 9) rfl
theorem iX11_image_X11 : ∀ w ∈ wsX110, w ∈ wsX11_image := fun w h => List.mem_cons_of_mem _ (List.mem_append_left _ (List.mem_append_left _ (List.mem_append_left _ (List.mem_append_left _ (List.mem_append_right _ h)))))
theorem fX11_image_58 : jj_F wsX11_image RX11 58 10 10 := ⟨_, _, _, rfl, by decide, iX11_image_X11, (show Cond.fieldLink RX11 58 (TX11 10).1 (TX11 10).2.1 (TX11 10).2.2.1 ∈ wsX11_image from List.mem_of_getElem? (i := 1) rfl)⟩
theorem ft_10_10 : (mm_ft 10)[10]? = some 2 := rfl
theorem sm_10_10 : s_m 10 10 = 0 := rfl
theorem an_30 : s_an 30 = 2 := rfl
theorem sma_30 : ∀ k, s_m 30 k = 0 := fun k => by unfold s_m; simp
theorem sta_30 : ∀ k, k < 2 → s_t 30 k = 2 := by decide
theorem iX11_image_X2 : ∀ w ∈ wsX20, w ∈ wsX11_image := fun w h => List.mem_cons_of_mem _ (List.mem_append_left _ (List.mem_append_left _ (List.mem_append_left _ (List.mem_append_right _ h))))
theorem qX11_image_393 : jj_P wsX11_image RX11 393 2 0 (.boolean) := ⟨_, _, _, tyX2, rfl, by decide, iX11_image_X2, (show Cond.fieldLink RX11 393 (TX2 0).1 (TX2 0).2.1 (TX2 0).2.2.1 ∈ wsX11_image from List.mem_of_getElem? (i := 2) rfl), tyX2_ok, nmX2, rfl, by decide +kernel⟩
theorem sb_2_0 : s_b 2 0 = (0, 1) := rfl
theorem ft_2_0 : (mm_ft 2)[0]? = some 0 := rfl
theorem fX11_image_397 : jj_F wsX11_image RX11 397 2 1 := ⟨_, _, _, rfl, by decide, iX11_image_X2, (show Cond.fieldLink RX11 397 (TX2 1).1 (TX2 1).2.1 (TX2 1).2.2.1 ∈ wsX11_image from List.mem_of_getElem? (i := 3) rfl)⟩
theorem ft_2_1 : (mm_ft 2)[1]? = some 2 := rfl
theorem sm_2_1 : s_m 2 1 = 0 := rfl
theorem st_2_1 : s_t 2 1 = 6 := rfl
theorem fX11_image_26 : jj_F wsX11_image RX11 26 10 4 := ⟨_, _, _, rfl, by decide, iX11_image_X11, (show Cond.fieldLink RX11 26 (TX11 4).1 (TX11 4).2.1 (TX11 4).2.2.1 ∈ wsX11_image from List.mem_of_getElem? (i := 4) rfl)⟩
theorem iX7_copyFrom_X7 : ∀ w ∈ wsX70, w ∈ wsX7_copyFrom := fun w h => List.mem_cons_of_mem _ (List.mem_append_left _ (List.mem_append_right _ h))
theorem fX7_copyFrom_9 : jj_F wsX7_copyFrom RX7 9 6 0 := ⟨_, _, _, rfl, by decide, iX7_copyFrom_X7, (show Cond.fieldLink RX7 9 (TX7 0).1 (TX7 0).2.1 (TX7 0).2.2.1 ∈ wsX7_copyFrom from List.mem_of_getElem? (i := 1) rfl)⟩
theorem qX7_copyFrom_9 : jj_P wsX7_copyFrom RX7 9 6 0 (.int) := ⟨_, _, _, tyX7, rfl, by decide, iX7_copyFrom_X7, (show Cond.fieldLink RX7 9 (TX7 0).1 (TX7 0).2.1 (TX7 0).2.2.1 ∈ wsX7_copyFrom from List.mem_of_getElem? (i := 1) rfl), tyX7_ok, nmX7, rfl, by decide +kernel⟩
theorem fX7_copyFrom_15 : jj_F wsX7_copyFrom RX7 15 6 1 := ⟨_, _, _, rfl, by decide, iX7_copyFrom_X7, (show Cond.fieldLink RX7 15 (TX7 1).1 (TX7 1).2.1 (TX7 1).2.2.1 ∈ wsX7_copyFrom from List.mem_of_getElem? (i := 2) rfl)⟩
theorem qX7_copyFrom_15 : jj_P wsX7_copyFrom RX7 15 6 1 (.int) := ⟨_, _, _, tyX7, rfl, by decide, iX7_copyFrom_X7, (show Cond.fieldLink RX7 15 (TX7 1).1 (TX7 1).2.1 (TX7 1).2.2.1 ∈ wsX7_copyFrom from List.mem_of_getElem? (i := 2) rfl), tyX7_ok, nmX7, rfl, by decide +kernel⟩
theorem fX7_copyFrom_31 : jj_F wsX7_copyFrom RX7 31 6 6 := ⟨_, _, _, rfl, by decide, iX7_copyFrom_X7, (show Cond.fieldLink RX7 31 (TX7 6).1 (TX7 6).2.1 (TX7 6).2.2.1 ∈ wsX7_copyFrom from List.mem_of_getElem? (i := 3) rfl)⟩
theorem qX7_copyFrom_31 : jj_P wsX7_copyFrom RX7 31 6 6 (.int) := ⟨_, _, _, tyX7, rfl, by decide, iX7_copyFrom_X7, (show Cond.fieldLink RX7 31 (TX7 6).1 (TX7 6).2.1 (TX7 6).2.2.1 ∈ wsX7_copyFrom from List.mem_of_getElem? (i := 3) rfl), tyX7_ok, nmX7, rfl, by decide +kernel⟩
theorem fX7_copyFrom_34 : jj_F wsX7_copyFrom RX7 34 6 7 := ⟨_, _, _, rfl, by decide, iX7_copyFrom_X7, (show Cond.fieldLink RX7 34 (TX7 7).1 (TX7 7).2.1 (TX7 7).2.2.1 ∈ wsX7_copyFrom from List.mem_of_getElem? (i := 4) rfl)⟩
theorem qX7_copyFrom_34 : jj_P wsX7_copyFrom RX7 34 6 7 (.int) := ⟨_, _, _, tyX7, rfl, by decide, iX7_copyFrom_X7, (show Cond.fieldLink RX7 34 (TX7 7).1 (TX7 7).2.1 (TX7 7).2.2.1 ∈ wsX7_copyFrom from List.mem_of_getElem? (i := 4) rfl), tyX7_ok, nmX7, rfl, by decide +kernel⟩
theorem fX7_copyFrom_37 : jj_F wsX7_copyFrom RX7 37 6 8 := ⟨_, _, _, rfl, by decide, iX7_copyFrom_X7, (show Cond.fieldLink RX7 37 (TX7 8).1 (TX7 8).2.1 (TX7 8).2.2.1 ∈ wsX7_copyFrom from List.mem_of_getElem? (i := 5) rfl)⟩
theorem qX7_copyFrom_37 : jj_P wsX7_copyFrom RX7 37 6 8 (.int) := ⟨_, _, _, tyX7, rfl, by decide, iX7_copyFrom_X7, (show Cond.fieldLink RX7 37 (TX7 8).1 (TX7 8).2.1 (TX7 8).2.2.1 ∈ wsX7_copyFrom from List.mem_of_getElem? (i := 5) rfl), tyX7_ok, nmX7, rfl, by decide +kernel⟩
theorem fX7_copyFrom_40 : jj_F wsX7_copyFrom RX7 40 6 9 := ⟨_, _, _, rfl, by decide, iX7_copyFrom_X7, (show Cond.fieldLink RX7 40 (TX7 9).1 (TX7 9).2.1 (TX7 9).2.2.1 ∈ wsX7_copyFrom from List.mem_of_getElem? (i := 6) rfl)⟩
theorem qX7_copyFrom_40 : jj_P wsX7_copyFrom RX7 40 6 9 (.int) := ⟨_, _, _, tyX7, rfl, by decide, iX7_copyFrom_X7, (show Cond.fieldLink RX7 40 (TX7 9).1 (TX7 9).2.1 (TX7 9).2.2.1 ∈ wsX7_copyFrom from List.mem_of_getElem? (i := 6) rfl), tyX7_ok, nmX7, rfl, by decide +kernel⟩
theorem fX7_copyFrom_43 : jj_F wsX7_copyFrom RX7 43 6 10 := ⟨_, _, _, rfl, by decide, iX7_copyFrom_X7, (show Cond.fieldLink RX7 43 (TX7 10).1 (TX7 10).2.1 (TX7 10).2.2.1 ∈ wsX7_copyFrom from List.mem_of_getElem? (i := 7) rfl)⟩
theorem qX7_copyFrom_43 : jj_P wsX7_copyFrom RX7 43 6 10 (.int) := ⟨_, _, _, tyX7, rfl, by decide, iX7_copyFrom_X7, (show Cond.fieldLink RX7 43 (TX7 10).1 (TX7 10).2.1 (TX7 10).2.2.1 ∈ wsX7_copyFrom from List.mem_of_getElem? (i := 7) rfl), tyX7_ok, nmX7, rfl, by decide +kernel⟩
theorem fX7_copyFrom_18 : jj_F wsX7_copyFrom RX7 18 6 2 := ⟨_, _, _, rfl, by decide, iX7_copyFrom_X7, (show Cond.fieldLink RX7 18 (TX7 2).1 (TX7 2).2.1 (TX7 2).2.2.1 ∈ wsX7_copyFrom from List.mem_of_getElem? (i := 8) rfl)⟩
theorem fX7_copyFrom_22 : jj_F wsX7_copyFrom RX7 22 6 3 := ⟨_, _, _, rfl, by decide, iX7_copyFrom_X7, (show Cond.fieldLink RX7 22 (TX7 3).1 (TX7 3).2.1 (TX7 3).2.2.1 ∈ wsX7_copyFrom from List.mem_of_getElem? (i := 9) rfl)⟩
theorem fX7_copyFrom_25 : jj_F wsX7_copyFrom RX7 25 6 4 := ⟨_, _, _, rfl, by decide, iX7_copyFrom_X7, (show Cond.fieldLink RX7 25 (TX7 4).1 (TX7 4).2.1 (TX7 4).2.2.1 ∈ wsX7_copyFrom from List.mem_of_getElem? (i := 10) rfl)⟩
theorem fX7_copyFrom_28 : jj_F wsX7_copyFrom RX7 28 6 5 := ⟨_, _, _, rfl, by decide, iX7_copyFrom_X7, (show Cond.fieldLink RX7 28 (TX7 5).1 (TX7 5).2.1 (TX7 5).2.2.1 ∈ wsX7_copyFrom from List.mem_of_getElem? (i := 11) rfl)⟩
theorem hdX7_copyFrom : yX7_copyFrom.cls = RX7 ∧ yX7_copyFrom.cls ≠ "java/lang/invoke/MethodHandle" ∧ yX7_copyFrom.cls ≠ "java/lang/invoke/VarHandle" ∧ (parseMethodDescriptor yX7_copyFrom.desc).map (fun d => d.parameters.length) = some 1 := by decide +kernel
theorem fX11_image_400 : jj_F wsX11_image RX11 400 2 2 := ⟨_, _, _, rfl, by decide, iX11_image_X2, (show Cond.fieldLink RX11 400 (TX2 2).1 (TX2 2).2.1 (TX2 2).2.2.1 ∈ wsX11_image from List.mem_of_getElem? (i := 5) rfl)⟩
theorem ft_2_2 : (mm_ft 2)[2]? = some 2 := rfl
theorem sm_2_2 : s_m 2 2 = 0 := rfl
theorem st_2_2 : s_t 2 2 = 8 := rfl
theorem fX11_image_36 : jj_F wsX11_image RX11 36 10 6 := ⟨_, _, _, rfl, by decide, iX11_image_X11, (show Cond.fieldLink RX11 36 (TX11 6).1 (TX11 6).2.1 (TX11 6).2.2.1 ∈ wsX11_image from List.mem_of_getElem? (i := 6) rfl)⟩
theorem iX11_restore_X11 : ∀ w ∈ wsX110, w ∈ wsX11_restore := fun w h => List.mem_cons_of_mem _ (List.mem_append_left _ (List.mem_append_left _ (List.mem_append_left _ (List.mem_append_left _ (List.mem_append_left _ (List.mem_append_left _ (List.mem_append_right _ h)))))))
theorem fX11_restore_58 : jj_F wsX11_restore RX11 58 10 10 := ⟨_, _, _, rfl, by decide, iX11_restore_X11, (show Cond.fieldLink RX11 58 (TX11 10).1 (TX11 10).2.1 (TX11 10).2.2.1 ∈ wsX11_restore from List.mem_of_getElem? (i := 1) rfl)⟩
theorem iX11_restore_X2 : ∀ w ∈ wsX20, w ∈ wsX11_restore := fun w h => List.mem_cons_of_mem _ (List.mem_append_left _ (List.mem_append_left _ (List.mem_append_left _ (List.mem_append_left _ (List.mem_append_left _ (List.mem_append_right _ h))))))
theorem fX11_restore_393 : jj_F wsX11_restore RX11 393 2 0 := ⟨_, _, _, rfl, by decide, iX11_restore_X2, (show Cond.fieldLink RX11 393 (TX2 0).1 (TX2 0).2.1 (TX2 0).2.2.1 ∈ wsX11_restore from List.mem_of_getElem? (i := 2) rfl)⟩
theorem fX11_restore_26 : jj_F wsX11_restore RX11 26 10 4 := ⟨_, _, _, rfl, by decide, iX11_restore_X11, (show Cond.fieldLink RX11 26 (TX11 4).1 (TX11 4).2.1 (TX11 4).2.2.1 ∈ wsX11_restore from List.mem_of_getElem? (i := 3) rfl)⟩
theorem fX11_restore_397 : jj_F wsX11_restore RX11 397 2 1 := ⟨_, _, _, rfl, by decide, iX11_restore_X2, (show Cond.fieldLink RX11 397 (TX2 1).1 (TX2 1).2.1 (TX2 1).2.2.1 ∈ wsX11_restore from List.mem_of_getElem? (i := 4) rfl)⟩
theorem fX11_restore_36 : jj_F wsX11_restore RX11 36 10 6 := ⟨_, _, _, rfl, by decide, iX11_restore_X11, (show Cond.fieldLink RX11 36 (TX11 6).1 (TX11 6).2.1 (TX11 6).2.2.1 ∈ wsX11_restore from List.mem_of_getElem? (i := 5) rfl)⟩
theorem fX11_restore_400 : jj_F wsX11_restore RX11 400 2 2 := ⟨_, _, _, rfl, by decide, iX11_restore_X2, (show Cond.fieldLink RX11 400 (TX2 2).1 (TX2 2).2.1 (TX2 2).2.2.1 ∈ wsX11_restore from List.mem_of_getElem? (i := 6) rfl)⟩
theorem iX11_count_X11 : ∀ w ∈ wsX110, w ∈ wsX11_count := fun w h => List.mem_cons_of_mem _ (List.mem_append_left _ (List.mem_append_left _ (List.mem_append_left _ (List.mem_append_left _ (List.mem_append_right _ h)))))
theorem fX11_count_36 : jj_F wsX11_count RX11 36 10 6 := ⟨_, _, _, rfl, by decide, iX11_count_X11, (show Cond.fieldLink RX11 36 (TX11 6).1 (TX11 6).2.1 (TX11 6).2.2.1 ∈ wsX11_count from List.mem_of_getElem? (i := 1) rfl)⟩
theorem iX11_count_X9 : ∀ w ∈ wsX90, w ∈ wsX11_count := fun w h => List.mem_cons_of_mem _ (List.mem_append_left _ (List.mem_append_left _ (List.mem_append_left _ (List.mem_append_right _ h))))
theorem fX11_count_160 : jj_F wsX11_count RX11 160 8 0 := ⟨_, _, _, rfl, by decide, iX11_count_X9, (show Cond.fieldLink RX11 160 (TX9 0).1 (TX9 0).2.1 (TX9 0).2.2.1 ∈ wsX11_count from List.mem_of_getElem? (i := 2) rfl)⟩
theorem fX11_count_26 : jj_F wsX11_count RX11 26 10 4 := ⟨_, _, _, rfl, by decide, iX11_count_X11, (show Cond.fieldLink RX11 26 (TX11 4).1 (TX11 4).2.1 (TX11 4).2.2.1 ∈ wsX11_count from List.mem_of_getElem? (i := 3) rfl)⟩
theorem iX11_count_X7 : ∀ w ∈ wsX70, w ∈ wsX11_count := fun w h => List.mem_cons_of_mem _ (List.mem_append_left _ (List.mem_append_left _ (List.mem_append_right _ h)))
theorem fX11_count_163 : jj_F wsX11_count RX11 163 6 0 := ⟨_, _, _, rfl, by decide, iX11_count_X7, (show Cond.fieldLink RX11 163 (TX7 0).1 (TX7 0).2.1 (TX7 0).2.2.1 ∈ wsX11_count from List.mem_of_getElem? (i := 4) rfl)⟩
theorem fX11_count_150 : jj_F wsX11_count RX11 150 8 3 := ⟨_, _, _, rfl, by decide, iX11_count_X9, (show Cond.fieldLink RX11 150 (TX9 3).1 (TX9 3).2.1 (TX9 3).2.2.1 ∈ wsX11_count from List.mem_of_getElem? (i := 5) rfl)⟩
theorem fX11_count_153 : jj_F wsX11_count RX11 153 8 4 := ⟨_, _, _, rfl, by decide, iX11_count_X9, (show Cond.fieldLink RX11 153 (TX9 4).1 (TX9 4).2.1 (TX9 4).2.2.1 ∈ wsX11_count from List.mem_of_getElem? (i := 6) rfl)⟩
theorem fX11_count_252 : jj_F wsX11_count RX11 252 8 5 := ⟨_, _, _, rfl, by decide, iX11_count_X9, (show Cond.fieldLink RX11 252 (TX9 5).1 (TX9 5).2.1 (TX9 5).2.2.1 ∈ wsX11_count from List.mem_of_getElem? (i := 7) rfl)⟩
theorem fX11_count_401 : jj_F wsX11_count RX11 401 8 6 := ⟨_, _, _, rfl, by decide, iX11_count_X9, (show Cond.fieldLink RX11 401 (TX9 6).1 (TX9 6).2.1 (TX9 6).2.2.1 ∈ wsX11_count from List.mem_of_getElem? (i := 8) rfl)⟩
theorem fX11_count_121 : jj_F wsX11_count RX11 121 8 7 := ⟨_, _, _, rfl, by decide, iX11_count_X9, (show Cond.fieldLink RX11 121 (TX9 7).1 (TX9 7).2.1 (TX9 7).2.2.1 ∈ wsX11_count from List.mem_of_getElem? (i := 9) rfl)⟩
theorem fX11_count_46 : jj_F wsX11_count RX11 46 10 8 := ⟨_, _, _, rfl, by decide, iX11_count_X11, (show Cond.fieldLink RX11 46 (TX11 8).1 (TX11 8).2.1 (TX11 8).2.2.1 ∈ wsX11_count from List.mem_of_getElem? (i := 10) rfl)⟩
theorem iX11_count_X6 : ∀ w ∈ wsX60, w ∈ wsX11_count := fun w h => List.mem_cons_of_mem _ (List.mem_append_left _ (List.mem_append_right _ h))
theorem fX11_count_225 : jj_F wsX11_count RX11 225 5 2 := ⟨_, _, _, rfl, by decide, iX11_count_X6, (show Cond.fieldLink RX11 225 (TX6 2).1 (TX6 2).2.1 (TX6 2).2.2.1 ∈ wsX11_count from List.mem_of_getElem? (i := 11) rfl)⟩
theorem fX11_count_13 : jj_F wsX11_count RX11 13 10 1 := ⟨_, _, _, rfl, by decide, iX11_count_X11, (show Cond.fieldLink RX11 13 (TX11 1).1 (TX11 1).2.1 (TX11 1).2.2.1 ∈ wsX11_count from List.mem_of_getElem? (i := 12) rfl)⟩
theorem fX11_count_131 : jj_F wsX11_count RX11 131 6 1 := ⟨_, _, _, rfl, by decide, iX11_count_X7, (show Cond.fieldLink RX11 131 (TX7 1).1 (TX7 1).2.1 (TX7 1).2.2.1 ∈ wsX11_count from List.mem_of_getElem? (i := 13) rfl)⟩
