section
theorem mt_1 {w : Cond} (h : w ∈ tables_1_1) : w ∈ lw_tbl := List.mem_append_right _ (List.mem_append_left _ h)
theorem mt_2 {w : Cond} (h : w ∈ tables_1_2) : w ∈ lw_tbl := List.mem_append_right _ (List.mem_append_right _ (List.mem_append_left _ h))
theorem mt_3 {w : Cond} (h : w ∈ tables_1_3) : w ∈ lw_tbl := List.mem_append_right _ (List.mem_append_right _ (List.mem_append_right _ (List.mem_append_left _ h)))
theorem mt_4 {w : Cond} (h : w ∈ tables_1_4) : w ∈ lw_tbl := List.mem_append_right _ (List.mem_append_right _ (List.mem_append_right _ (List.mem_append_right _ (List.mem_append_left _ h))))
theorem mt_5 {w : Cond} (h : w ∈ tables_1_5) : w ∈ lw_tbl := List.mem_append_right _ (List.mem_append_right _ (List.mem_append_right _ (List.mem_append_right _ (List.mem_append_right _ (List.mem_append_left _ h)))))
theorem mt_6 {w : Cond} (h : w ∈ tables_1_6) : w ∈ lw_tbl := List.mem_append_right _ (List.mem_append_right _ (List.mem_append_right _ (List.mem_append_right _ (List.mem_append_right _ (List.mem_append_right _ (List.mem_append_left _ h))))))
theorem mt_7 {w : Cond} (h : w ∈ tables_1_7) : w ∈ lw_tbl := List.mem_append_right _ (List.mem_append_right _ (List.mem_append_right _ (List.mem_append_right _ (List.mem_append_right _ (List.mem_append_right _ (List.mem_append_right _ (List.mem_append_left _ h)))))))
theorem mt_8 {w : Cond} (h : w ∈ tables_1_8) : w ∈ lw_tbl := List.mem_append_right _ (List.mem_append_right _ (List.mem_append_right _ (List.mem_append_right _ (List.mem_append_right _ (List.mem_append_right _ (List.mem_append_right _ (List.mem_append_right _ h)))))))
theorem mp_1 {q : MethodName × Nat} (h : q ∈ lw_privs_1) : Cond.selects q.1.cls q.1 q.1 ∈ lw_tbl := List.mem_append_left _ (List.mem_map.mpr ⟨q, (List.mem_append_left _ h), rfl⟩)
theorem mp_2 {q : MethodName × Nat} (h : q ∈ lw_privs_2) : Cond.selects q.1.cls q.1 q.1 ∈ lw_tbl := List.mem_append_left _ (List.mem_map.mpr ⟨q, (List.mem_append_right _ (List.mem_append_left _ h)), rfl⟩)
theorem mp_3 {q : MethodName × Nat} (h : q ∈ lw_privs_3) : Cond.selects q.1.cls q.1 q.1 ∈ lw_tbl := List.mem_append_left _ (List.mem_map.mpr ⟨q, (List.mem_append_right _ (List.mem_append_right _ (List.mem_append_left _ h))), rfl⟩)
theorem mp_4 {q : MethodName × Nat} (h : q ∈ lw_privs_4) : Cond.selects q.1.cls q.1 q.1 ∈ lw_tbl := List.mem_append_left _ (List.mem_map.mpr ⟨q, (List.mem_append_right _ (List.mem_append_right _ (List.mem_append_right _ (List.mem_append_left _ h)))), rfl⟩)
theorem mp_5 {q : MethodName × Nat} (h : q ∈ lw_privs_5) : Cond.selects q.1.cls q.1 q.1 ∈ lw_tbl := List.mem_append_left _ (List.mem_map.mpr ⟨q, (List.mem_append_right _ (List.mem_append_right _ (List.mem_append_right _ (List.mem_append_right _ (List.mem_append_left _ h))))), rfl⟩)
theorem mp_6 {q : MethodName × Nat} (h : q ∈ lw_privs_6) : Cond.selects q.1.cls q.1 q.1 ∈ lw_tbl := List.mem_append_left _ (List.mem_map.mpr ⟨q, (List.mem_append_right _ (List.mem_append_right _ (List.mem_append_right _ (List.mem_append_right _ (List.mem_append_right _ (List.mem_append_left _ h)))))), rfl⟩)
theorem mp_7 {q : MethodName × Nat} (h : q ∈ lw_privs_7) : Cond.selects q.1.cls q.1 q.1 ∈ lw_tbl := List.mem_append_left _ (List.mem_map.mpr ⟨q, (List.mem_append_right _ (List.mem_append_right _ (List.mem_append_right _ (List.mem_append_right _ (List.mem_append_right _ (List.mem_append_right _ (List.mem_append_left _ h))))))), rfl⟩)
theorem mp_8 {q : MethodName × Nat} (h : q ∈ lw_privs_8) : Cond.selects q.1.cls q.1 q.1 ∈ lw_tbl := List.mem_append_left _ (List.mem_map.mpr ⟨q, (List.mem_append_right _ (List.mem_append_right _ (List.mem_append_right _ (List.mem_append_right _ (List.mem_append_right _ (List.mem_append_right _ (List.mem_append_right _ h))))))), rfl⟩)
theorem wd_0 : Cond.initialized RX11 ∈ lw_tbl := mt_1 (List.mem_of_getElem? (i := 1) rfl)
theorem wd_1 : Cond.selects RX11 yX11_feed yX11_feed ∈ lw_tbl := mt_2 (List.mem_of_getElem? (i := 176) rfl)
theorem wd_2 : Cond.instanceMethod yX11_feed ∈ lw_tbl := mt_2 (List.mem_of_getElem? (i := 175) rfl)
theorem wd_3 : Cond.methodLink RL 13 yX11_feed ∈ lw_tbl := mt_2 (List.mem_of_getElem? (i := 174) rfl)
theorem wd_4 : Cond.code yX11_feed cX11_feed 6 (some .int) ∈ lw_tbl := mt_2 (List.mem_of_getElem? (i := 177) rfl)
theorem wd_5 : Cond.fieldLink RX11 9 "OneOfEach" "tape" "[I" ∈ lw_tbl := mt_2 (List.mem_of_getElem? (i := 125) rfl)
theorem wd_6 : Cond.code yX11_putBytes cX11_putBytes 3 none ∈ lw_tbl := mt_2 (List.mem_of_getElem? (i := 181) rfl)
theorem wd_7 : Cond.selects RX11 yX11_putBytes yX11_putBytes ∈ lw_tbl := mp_1 (q := (⟨"OneOfEach", "putBytes", "(I)V"⟩, 16)) (List.mem_of_getElem? (i := 0) rfl)
theorem wd_8 : Cond.instanceMethod yX11_putBytes ∈ lw_tbl := mt_2 (List.mem_of_getElem? (i := 180) rfl)
theorem wd_9 : Cond.methodLink RX11 109 yX11_putBytes ∈ lw_tbl := mt_2 (List.mem_of_getElem? (i := 178) rfl)
theorem wd_10 : Cond.fieldLink RX11 13 "OneOfEach" "tapeSize" "I" ∈ lw_tbl := mt_2 (List.mem_of_getElem? (i := 126) rfl)
theorem wd_11 : u_lay RX11 TX11 15 ∈ lw_tbl := mt_2 (List.mem_of_getElem? (i := 171) rfl)
theorem wd_12 : u_lay RX11 TX11 14 ∈ lw_tbl := mt_2 (List.mem_of_getElem? (i := 169) rfl)
theorem wd_13 : u_lay RX11 TX11 13 ∈ lw_tbl := mt_2 (List.mem_of_getElem? (i := 167) rfl)
theorem wd_14 : u_lay RX11 TX11 12 ∈ lw_tbl := mt_2 (List.mem_of_getElem? (i := 165) rfl)
theorem wd_15 : u_lay RX11 TX11 11 ∈ lw_tbl := mt_2 (List.mem_of_getElem? (i := 163) rfl)
theorem wd_16 : u_lay RX11 TX11 10 ∈ lw_tbl := mt_2 (List.mem_of_getElem? (i := 161) rfl)
theorem wd_17 : u_lay RX11 TX11 9 ∈ lw_tbl := mt_2 (List.mem_of_getElem? (i := 159) rfl)
theorem wd_18 : u_lay RX11 TX11 8 ∈ lw_tbl := mt_2 (List.mem_of_getElem? (i := 157) rfl)
theorem wd_19 : u_lay RX11 TX11 7 ∈ lw_tbl := mt_2 (List.mem_of_getElem? (i := 155) rfl)
theorem wd_20 : u_lay RX11 TX11 6 ∈ lw_tbl := mt_2 (List.mem_of_getElem? (i := 153) rfl)
theorem wd_21 : u_lay RX11 TX11 5 ∈ lw_tbl := mt_2 (List.mem_of_getElem? (i := 151) rfl)
theorem wd_22 : u_lay RX11 TX11 4 ∈ lw_tbl := mt_2 (List.mem_of_getElem? (i := 149) rfl)
theorem wd_23 : u_lay RX11 TX11 3 ∈ lw_tbl := mt_2 (List.mem_of_getElem? (i := 147) rfl)
theorem wd_24 : u_lay RX11 TX11 2 ∈ lw_tbl := mt_2 (List.mem_of_getElem? (i := 145) rfl)
theorem wd_25 : u_lay RX11 TX11 1 ∈ lw_tbl := mt_2 (List.mem_of_getElem? (i := 143) rfl)
theorem wd_26 : u_lay RX11 TX11 0 ∈ lw_tbl := mt_2 (List.mem_of_getElem? (i := 141) rfl)
set_option maxRecDepth 20000 in
theorem hl_wsX110 : ∀ w ∈ wsX110, w ∈ lw_tbl := show ∀ w ∈ [u_lay RX11 TX11 0, u_lay RX11 TX11 1, u_lay RX11 TX11 2, u_lay RX11 TX11 3, u_lay RX11 TX11 4, u_lay RX11 TX11 5, u_lay RX11 TX11 6, u_lay RX11 TX11 7, u_lay RX11 TX11 8, u_lay RX11 TX11 9, u_lay RX11 TX11 10, u_lay RX11 TX11 11, u_lay RX11 TX11 12, u_lay RX11 TX11 13, u_lay RX11 TX11 14, u_lay RX11 TX11 15], w ∈ lw_tbl from (List.forall_mem_cons.mpr ⟨wd_26, (List.forall_mem_cons.mpr ⟨wd_25, (List.forall_mem_cons.mpr ⟨wd_24, (List.forall_mem_cons.mpr ⟨wd_23, (List.forall_mem_cons.mpr ⟨wd_22, (List.forall_mem_cons.mpr ⟨wd_21, (List.forall_mem_cons.mpr ⟨wd_20, (List.forall_mem_cons.mpr ⟨wd_19, (List.forall_mem_cons.mpr ⟨wd_18, (List.forall_mem_cons.mpr ⟨wd_17, (List.forall_mem_cons.mpr ⟨wd_16, (List.forall_mem_cons.mpr ⟨wd_15, (List.forall_mem_cons.mpr ⟨wd_14, (List.forall_mem_cons.mpr ⟨wd_13, (List.forall_mem_cons.mpr ⟨wd_12, (List.forall_mem_cons.mpr ⟨wd_11, (fun _ h => absurd h List.not_mem_nil)⟩)⟩)⟩)⟩)⟩)⟩)⟩)⟩)⟩)⟩)⟩)⟩)⟩)⟩)⟩)⟩)
set_option maxRecDepth 20000 in
theorem hl_wsX11_feed : ∀ w ∈ wsX11_feed, w ∈ lw_tbl := by
  unfold wsX11_feed
  exact (List.forall_mem_cons.mpr ⟨wd_4, (List.forall_mem_append.mpr ⟨(List.forall_mem_cons.mpr ⟨wd_10, (List.forall_mem_cons.mpr ⟨wd_9, (List.forall_mem_cons.mpr ⟨wd_8, (List.forall_mem_cons.mpr ⟨wd_7, (List.forall_mem_cons.mpr ⟨wd_0, (List.forall_mem_cons.mpr ⟨wd_6, (List.forall_mem_cons.mpr ⟨wd_5, (fun _ h => absurd h List.not_mem_nil)⟩)⟩)⟩)⟩)⟩)⟩)⟩), hl_wsX110⟩)⟩)
theorem wd_27 : Cond.initialized RX12 ∈ lw_tbl := mt_1 (List.mem_of_getElem? (i := 12) rfl)
theorem wd_28 : Cond.selects RX12 yX12_feed yX12_feed ∈ lw_tbl := mt_6 (List.mem_of_getElem? (i := 128) rfl)
theorem wd_29 : Cond.instanceMethod yX12_feed ∈ lw_tbl := mt_6 (List.mem_of_getElem? (i := 127) rfl)
theorem wd_30 : Cond.methodLink RL 17 yX12_feed ∈ lw_tbl := mt_6 (List.mem_of_getElem? (i := 126) rfl)
theorem wd_31 : Cond.code yX12_feed cX12_feed 8 (some .int) ∈ lw_tbl := mt_6 (List.mem_of_getElem? (i := 129) rfl)
theorem wd_32 : Cond.fieldLink RX12 21 "OneOfEachModel" "tape" "[I" ∈ lw_tbl := mt_6 (List.mem_of_getElem? (i := 31) rfl)
theorem wd_33 : Cond.fieldLink RX12 80 "OneOfEachModel" "taped" "I" ∈ lw_tbl := mt_6 (List.mem_of_getElem? (i := 33) rfl)
theorem wd_34 : Cond.fieldLink RX12 1 "OneOfEachModel" "thrown" "I" ∈ lw_tbl := mt_6 (List.mem_of_getElem? (i := 28) rfl)
theorem wd_35 : u_lay RX12 TX12 31 ∈ lw_tbl := mt_6 (List.mem_of_getElem? (i := 122) rfl)
theorem wd_36 : u_lay RX12 TX12 30 ∈ lw_tbl := mt_6 (List.mem_of_getElem? (i := 120) rfl)
theorem wd_37 : u_lay RX12 TX12 29 ∈ lw_tbl := mt_6 (List.mem_of_getElem? (i := 118) rfl)
theorem wd_38 : u_lay RX12 TX12 28 ∈ lw_tbl := mt_6 (List.mem_of_getElem? (i := 116) rfl)
theorem wd_39 : u_lay RX12 TX12 27 ∈ lw_tbl := mt_6 (List.mem_of_getElem? (i := 114) rfl)
theorem wd_40 : u_lay RX12 TX12 26 ∈ lw_tbl := mt_6 (List.mem_of_getElem? (i := 112) rfl)
theorem wd_41 : u_lay RX12 TX12 25 ∈ lw_tbl := mt_6 (List.mem_of_getElem? (i := 110) rfl)
theorem wd_42 : u_lay RX12 TX12 24 ∈ lw_tbl := mt_6 (List.mem_of_getElem? (i := 108) rfl)
theorem wd_43 : u_lay RX12 TX12 23 ∈ lw_tbl := mt_6 (List.mem_of_getElem? (i := 106) rfl)
theorem wd_44 : u_lay RX12 TX12 22 ∈ lw_tbl := mt_6 (List.mem_of_getElem? (i := 104) rfl)
theorem wd_45 : u_lay RX12 TX12 21 ∈ lw_tbl := mt_6 (List.mem_of_getElem? (i := 102) rfl)
theorem wd_46 : u_lay RX12 TX12 20 ∈ lw_tbl := mt_6 (List.mem_of_getElem? (i := 100) rfl)
theorem wd_47 : u_lay RX12 TX12 19 ∈ lw_tbl := mt_6 (List.mem_of_getElem? (i := 98) rfl)
theorem wd_48 : u_lay RX12 TX12 18 ∈ lw_tbl := mt_6 (List.mem_of_getElem? (i := 96) rfl)
theorem wd_49 : u_lay RX12 TX12 17 ∈ lw_tbl := mt_6 (List.mem_of_getElem? (i := 94) rfl)
theorem wd_50 : u_lay RX12 TX12 16 ∈ lw_tbl := mt_6 (List.mem_of_getElem? (i := 92) rfl)
theorem wd_51 : u_lay RX12 TX12 15 ∈ lw_tbl := mt_6 (List.mem_of_getElem? (i := 90) rfl)
theorem wd_52 : u_lay RX12 TX12 14 ∈ lw_tbl := mt_6 (List.mem_of_getElem? (i := 88) rfl)
theorem wd_53 : u_lay RX12 TX12 13 ∈ lw_tbl := mt_6 (List.mem_of_getElem? (i := 86) rfl)
theorem wd_54 : u_lay RX12 TX12 12 ∈ lw_tbl := mt_6 (List.mem_of_getElem? (i := 84) rfl)
theorem wd_55 : u_lay RX12 TX12 11 ∈ lw_tbl := mt_6 (List.mem_of_getElem? (i := 82) rfl)
theorem wd_56 : u_lay RX12 TX12 10 ∈ lw_tbl := mt_6 (List.mem_of_getElem? (i := 80) rfl)
theorem wd_57 : u_lay RX12 TX12 9 ∈ lw_tbl := mt_6 (List.mem_of_getElem? (i := 78) rfl)
theorem wd_58 : u_lay RX12 TX12 8 ∈ lw_tbl := mt_6 (List.mem_of_getElem? (i := 76) rfl)
theorem wd_59 : u_lay RX12 TX12 7 ∈ lw_tbl := mt_6 (List.mem_of_getElem? (i := 74) rfl)
theorem wd_60 : u_lay RX12 TX12 6 ∈ lw_tbl := mt_6 (List.mem_of_getElem? (i := 72) rfl)
theorem wd_61 : u_lay RX12 TX12 5 ∈ lw_tbl := mt_6 (List.mem_of_getElem? (i := 70) rfl)
theorem wd_62 : u_lay RX12 TX12 4 ∈ lw_tbl := mt_6 (List.mem_of_getElem? (i := 68) rfl)
theorem wd_63 : u_lay RX12 TX12 3 ∈ lw_tbl := mt_6 (List.mem_of_getElem? (i := 66) rfl)
theorem wd_64 : u_lay RX12 TX12 2 ∈ lw_tbl := mt_6 (List.mem_of_getElem? (i := 64) rfl)
theorem wd_65 : u_lay RX12 TX12 1 ∈ lw_tbl := mt_6 (List.mem_of_getElem? (i := 62) rfl)
theorem wd_66 : u_lay RX12 TX12 0 ∈ lw_tbl := mt_6 (List.mem_of_getElem? (i := 60) rfl)
set_option maxRecDepth 20000 in
theorem hl_wsX120 : ∀ w ∈ wsX120, w ∈ lw_tbl := show ∀ w ∈ [u_lay RX12 TX12 0, u_lay RX12 TX12 1, u_lay RX12 TX12 2, u_lay RX12 TX12 3, u_lay RX12 TX12 4, u_lay RX12 TX12 5, u_lay RX12 TX12 6, u_lay RX12 TX12 7, u_lay RX12 TX12 8, u_lay RX12 TX12 9, u_lay RX12 TX12 10, u_lay RX12 TX12 11, u_lay RX12 TX12 12, u_lay RX12 TX12 13, u_lay RX12 TX12 14, u_lay RX12 TX12 15, u_lay RX12 TX12 16, u_lay RX12 TX12 17, u_lay RX12 TX12 18, u_lay RX12 TX12 19, u_lay RX12 TX12 20, u_lay RX12 TX12 21, u_lay RX12 TX12 22, u_lay RX12 TX12 23, u_lay RX12 TX12 24, u_lay RX12 TX12 25, u_lay RX12 TX12 26, u_lay RX12 TX12 27, u_lay RX12 TX12 28, u_lay RX12 TX12 29, u_lay RX12 TX12 30, u_lay RX12 TX12 31], w ∈ lw_tbl from (List.forall_mem_cons.mpr ⟨wd_66, (List.forall_mem_cons.mpr ⟨wd_65, (List.forall_mem_cons.mpr ⟨wd_64, (List.forall_mem_cons.mpr ⟨wd_63, (List.forall_mem_cons.mpr ⟨wd_62, (List.forall_mem_cons.mpr ⟨wd_61, (List.forall_mem_cons.mpr ⟨wd_60, (List.forall_mem_cons.mpr ⟨wd_59, (List.forall_mem_cons.mpr ⟨wd_58, (List.forall_mem_cons.mpr ⟨wd_57, (List.forall_mem_cons.mpr ⟨wd_56, (List.forall_mem_cons.mpr ⟨wd_55, (List.forall_mem_cons.mpr ⟨wd_54, (List.forall_mem_cons.mpr ⟨wd_53, (List.forall_mem_cons.mpr ⟨wd_52, (List.forall_mem_cons.mpr ⟨wd_51, (List.forall_mem_cons.mpr ⟨wd_50, (List.forall_mem_cons.mpr ⟨wd_49, (List.forall_mem_cons.mpr ⟨wd_48, (List.forall_mem_cons.mpr ⟨wd_47, (List.forall_mem_cons.mpr ⟨wd_46, (List.forall_mem_cons.mpr ⟨wd_45, (List.forall_mem_cons.mpr ⟨wd_44, (List.forall_mem_cons.mpr ⟨wd_43, (List.forall_mem_cons.mpr ⟨wd_42, (List.forall_mem_cons.mpr ⟨wd_41, (List.forall_mem_cons.mpr ⟨wd_40, (List.forall_mem_cons.mpr ⟨wd_39, (List.forall_mem_cons.mpr ⟨wd_38, (List.forall_mem_cons.mpr ⟨wd_37, (List.forall_mem_cons.mpr ⟨wd_36, (List.forall_mem_cons.mpr ⟨wd_35, (fun _ h => absurd h List.not_mem_nil)⟩)⟩)⟩)⟩)⟩)⟩)⟩)⟩)⟩)⟩)⟩)⟩)⟩)⟩)⟩)⟩)⟩)⟩)⟩)⟩)⟩)⟩)⟩)⟩)⟩)⟩)⟩)⟩)⟩)⟩)⟩)⟩)
set_option maxRecDepth 20000 in
theorem hl_wsX12_feed : ∀ w ∈ wsX12_feed, w ∈ lw_tbl := by
  unfold wsX12_feed
  exact (List.forall_mem_cons.mpr ⟨wd_31, (List.forall_mem_append.mpr ⟨(List.forall_mem_cons.mpr ⟨wd_34, (List.forall_mem_cons.mpr ⟨wd_33, (List.forall_mem_cons.mpr ⟨wd_32, (fun _ h => absurd h List.not_mem_nil)⟩)⟩)⟩), hl_wsX120⟩)⟩)
def tL_feed : List Cond := (wsV RL 13 RX11 yX11_feed wsX11_feed) ++ (wsV RL 17 RX12 yX12_feed wsX12_feed)
theorem tL_feed_in : ∀ w ∈ tL_feed, w ∈ lw_tbl := by
  unfold tL_feed
  exact (List.forall_mem_append.mpr ⟨(List.forall_mem_append.mpr ⟨(List.forall_mem_cons.mpr ⟨wd_3, (List.forall_mem_cons.mpr ⟨wd_2, (List.forall_mem_cons.mpr ⟨wd_1, (List.forall_mem_cons.mpr ⟨wd_0, (fun _ h => absurd h List.not_mem_nil)⟩)⟩)⟩)⟩), hl_wsX11_feed⟩), (List.forall_mem_append.mpr ⟨(List.forall_mem_cons.mpr ⟨wd_30, (List.forall_mem_cons.mpr ⟨wd_29, (List.forall_mem_cons.mpr ⟨wd_28, (List.forall_mem_cons.mpr ⟨wd_27, (fun _ h => absurd h List.not_mem_nil)⟩)⟩)⟩)⟩), hl_wsX12_feed⟩)⟩)
set_option maxRecDepth 20000 in
theorem tL_feed_x : GoodIn tL_feed (wsV RL 13 RX11 yX11_feed wsX11_feed) := fun w h => ⟨List.mem_append_left _ h, good_of_word (List.all_eq_true.mp (show (wsV RL 13 RX11 yX11_feed wsX11_feed).all goodWord = true by decide +kernel) w h)⟩
set_option maxRecDepth 20000 in
theorem tL_feed_m : GoodIn tL_feed (wsV RL 17 RX12 yX12_feed wsX12_feed) := fun w h => ⟨List.mem_append_right _ h, good_of_word (List.all_eq_true.mp (show (wsV RL 17 RX12 yX12_feed wsX12_feed).all goodWord = true by decide +kernel) w h)⟩
theorem hdLX11_feed : yX11_feed.cls = RX11 ∧ yX11_feed.cls ≠ "java/lang/invoke/MethodHandle" ∧ yX11_feed.cls ≠ "java/lang/invoke/VarHandle" ∧ (parseMethodDescriptor yX11_feed.desc).map (fun d => d.parameters.length) = some 5 := by decide +kernel
theorem hdLX12_feed : yX12_feed.cls = RX12 ∧ yX12_feed.cls ≠ "java/lang/invoke/MethodHandle" ∧ yX12_feed.cls ≠ "java/lang/invoke/VarHandle" ∧ (parseMethodDescriptor yX12_feed.desc).map (fun d => d.parameters.length) = some 5 := by decide +kernel
theorem wd_67 : Cond.selects RX11 yX11_shop yX11_shop ∈ lw_tbl := mt_2 (List.mem_of_getElem? (i := 184) rfl)
theorem wd_68 : Cond.instanceMethod yX11_shop ∈ lw_tbl := mt_2 (List.mem_of_getElem? (i := 183) rfl)
theorem wd_69 : Cond.methodLink RL 18 yX11_shop ∈ lw_tbl := mt_2 (List.mem_of_getElem? (i := 182) rfl)
theorem wd_70 : Cond.code yX11_shop cX11_shop 3 (some .int) ∈ lw_tbl := mt_2 (List.mem_of_getElem? (i := 185) rfl)
theorem wd_71 : Cond.methodLink RX8 36 yX7_clear ∈ lw_tbl := mt_2 (List.mem_of_getElem? (i := 190) rfl)
theorem wd_72 : Cond.fieldLink RX8 25 "OneOfEach$Reader" "faultPlace" "I" ∈ lw_tbl := mt_1 (List.mem_of_getElem? (i := 196) rfl)
theorem wd_73 : Cond.fieldLink RX8 22 "OneOfEach$Reader" "fault" "I" ∈ lw_tbl := mt_1 (List.mem_of_getElem? (i := 194) rfl)
theorem wd_74 : Cond.fieldLink RX8 18 "OneOfEach$Reader" "at" "I" ∈ lw_tbl := mt_1 (List.mem_of_getElem? (i := 191) rfl)
theorem wd_75 : Cond.fieldLink RX8 32 "OneOfEach$Reader" "stock" "LOneOfEach$Stock;" ∈ lw_tbl := mt_1 (List.mem_of_getElem? (i := 193) rfl)
theorem wd_76 : Cond.fieldLink RX8 28 "OneOfEach$Reader" "plan" "LOneOfEach$Plan;" ∈ lw_tbl := mt_1 (List.mem_of_getElem? (i := 192) rfl)
theorem wd_77 : Cond.code yX8_read cX8_read 6 none ∈ lw_tbl := mt_2 (List.mem_of_getElem? (i := 189) rfl)
theorem wd_78 : Cond.initialized RX8 ∈ lw_tbl := mt_1 (List.mem_of_getElem? (i := 5) rfl)
theorem wd_79 : Cond.selects RX8 yX8_read yX8_read ∈ lw_tbl := mt_2 (List.mem_of_getElem? (i := 188) rfl)
theorem wd_80 : Cond.instanceMethod yX8_read ∈ lw_tbl := mt_2 (List.mem_of_getElem? (i := 187) rfl)
theorem wd_81 : Cond.methodLink RX11 113 yX8_read ∈ lw_tbl := mt_2 (List.mem_of_getElem? (i := 186) rfl)
theorem wd_82 : Cond.fieldLink RX11 131 "OneOfEach$Plan" "lines" "I" ∈ lw_tbl := mt_1 (List.mem_of_getElem? (i := 42) rfl)
theorem wd_83 : Cond.fieldLink RX11 121 "OneOfEach$Stock" "day" "I" ∈ lw_tbl := mt_1 (List.mem_of_getElem? (i := 136) rfl)
theorem wd_84 : Cond.fieldLink RX11 36 "OneOfEach" "stock" "LOneOfEach$Stock;" ∈ lw_tbl := mt_2 (List.mem_of_getElem? (i := 131) rfl)
theorem wd_85 : Cond.fieldLink RX11 26 "OneOfEach" "plan" "LOneOfEach$Plan;" ∈ lw_tbl := mt_2 (List.mem_of_getElem? (i := 129) rfl)
theorem wd_86 : Cond.fieldLink RX11 20 "OneOfEach" "faultPlace" "I" ∈ lw_tbl := mt_2 (List.mem_of_getElem? (i := 128) rfl)
theorem wd_87 : Cond.fieldLink RX11 120 "OneOfEach$Reader" "faultPlace" "I" ∈ lw_tbl := mt_1 (List.mem_of_getElem? (i := 197) rfl)
theorem wd_88 : Cond.fieldLink RX11 17 "OneOfEach" "faultKind" "I" ∈ lw_tbl := mt_2 (List.mem_of_getElem? (i := 127) rfl)
theorem wd_89 : Cond.fieldLink RX11 117 "OneOfEach$Reader" "fault" "I" ∈ lw_tbl := mt_1 (List.mem_of_getElem? (i := 195) rfl)
theorem wd_90 : Cond.fieldLink RX11 40 "OneOfEach" "trial" "LOneOfEach$Stock;" ∈ lw_tbl := mt_2 (List.mem_of_getElem? (i := 132) rfl)
theorem wd_91 : Cond.fieldLink RX11 30 "OneOfEach" "spare" "LOneOfEach$Plan;" ∈ lw_tbl := mt_2 (List.mem_of_getElem? (i := 130) rfl)
theorem wd_92 : Cond.fieldLink RX11 67 "OneOfEach" "reader" "LOneOfEach$Reader;" ∈ lw_tbl := mt_2 (List.mem_of_getElem? (i := 136) rfl)
set_option maxRecDepth 20000 in
theorem hl_wsX11_shop_r1 : ∀ w ∈ wsX11_shop_r1, w ∈ lw_tbl := by
  unfold wsX11_shop_r1
  exact (List.forall_mem_cons.mpr ⟨wd_10, (List.forall_mem_cons.mpr ⟨wd_92, (List.forall_mem_cons.mpr ⟨wd_5, (List.forall_mem_cons.mpr ⟨wd_91, (List.forall_mem_cons.mpr ⟨wd_90, (List.forall_mem_cons.mpr ⟨wd_89, (List.forall_mem_cons.mpr ⟨wd_88, (List.forall_mem_cons.mpr ⟨wd_87, (List.forall_mem_cons.mpr ⟨wd_86, (List.forall_mem_cons.mpr ⟨wd_85, (List.forall_mem_cons.mpr ⟨wd_84, (List.forall_mem_cons.mpr ⟨wd_83, (List.forall_mem_cons.mpr ⟨wd_82, (List.forall_mem_cons.mpr ⟨wd_81, (List.forall_mem_cons.mpr ⟨wd_80, (List.forall_mem_cons.mpr ⟨wd_79, (List.forall_mem_cons.mpr ⟨wd_78, (List.forall_mem_cons.mpr ⟨wd_77, (List.forall_mem_cons.mpr ⟨wd_76, (List.forall_mem_cons.mpr ⟨wd_75, (List.forall_mem_cons.mpr ⟨wd_74, (List.forall_mem_cons.mpr ⟨wd_73, (List.forall_mem_cons.mpr ⟨wd_72, (List.forall_mem_cons.mpr ⟨wd_71, (fun _ h => absurd h List.not_mem_nil)⟩)⟩)⟩)⟩)⟩)⟩)⟩)⟩)⟩)⟩)⟩)⟩)⟩)⟩)⟩)⟩)⟩)⟩)⟩)⟩)⟩)⟩)⟩)⟩)
theorem wd_93 : Cond.methodLink RX8 44 yX8_split ∈ lw_tbl := mt_2 (List.mem_of_getElem? (i := 198) rfl)
theorem wd_94 : Cond.fieldLink RX9 37 "OneOfEach$Stock" "x" "I" ∈ lw_tbl := mt_1 (List.mem_of_getElem? (i := 138) rfl)
theorem wd_95 : Cond.fieldLink RX9 34 "OneOfEach$Stock" "day" "I" ∈ lw_tbl := mt_1 (List.mem_of_getElem? (i := 135) rfl)
theorem wd_96 : Cond.fieldLink RX9 31 "OneOfEach$Stock" "gifts" "I" ∈ lw_tbl := mt_1 (List.mem_of_getElem? (i := 132) rfl)
theorem wd_97 : Cond.fieldLink RX9 28 "OneOfEach$Stock" "till" "I" ∈ lw_tbl := mt_1 (List.mem_of_getElem? (i := 129) rfl)
theorem wd_98 : Cond.fieldLink RX9 25 "OneOfEach$Stock" "hidden" "I" ∈ lw_tbl := mt_1 (List.mem_of_getElem? (i := 124) rfl)
theorem wd_99 : Cond.fieldLink RX9 22 "OneOfEach$Stock" "sold" "I" ∈ lw_tbl := mt_1 (List.mem_of_getElem? (i := 119) rfl)
theorem wd_100 : Cond.fieldLink RX9 9 "OneOfEach$Stock" "kinds" "I" ∈ lw_tbl := mt_1 (List.mem_of_getElem? (i := 103) rfl)
theorem wd_101 : Cond.code yX9_clear cX9_clear 1 none ∈ lw_tbl := mt_2 (List.mem_of_getElem? (i := 197) rfl)
theorem wd_102 : Cond.initialized RX9 ∈ lw_tbl := mt_1 (List.mem_of_getElem? (i := 3) rfl)
theorem wd_103 : Cond.selects RX9 yX9_clear yX9_clear ∈ lw_tbl := mt_2 (List.mem_of_getElem? (i := 196) rfl)
theorem wd_104 : Cond.instanceMethod yX9_clear ∈ lw_tbl := mt_2 (List.mem_of_getElem? (i := 195) rfl)
theorem wd_105 : Cond.methodLink RX8 41 yX9_clear ∈ lw_tbl := mt_2 (List.mem_of_getElem? (i := 194) rfl)
theorem wd_106 : Cond.fieldLink RX7 43 "OneOfEach$Plan" "letsTo" "I" ∈ lw_tbl := mt_1 (List.mem_of_getElem? (i := 70) rfl)
theorem wd_107 : Cond.fieldLink RX7 40 "OneOfEach$Plan" "letsFrom" "I" ∈ lw_tbl := mt_1 (List.mem_of_getElem? (i := 67) rfl)
theorem wd_108 : Cond.fieldLink RX7 37 "OneOfEach$Plan" "wantsTo" "I" ∈ lw_tbl := mt_1 (List.mem_of_getElem? (i := 64) rfl)
theorem wd_109 : Cond.fieldLink RX7 34 "OneOfEach$Plan" "wantsFrom" "I" ∈ lw_tbl := mt_1 (List.mem_of_getElem? (i := 61) rfl)
theorem wd_110 : Cond.fieldLink RX7 31 "OneOfEach$Plan" "codeSize" "I" ∈ lw_tbl := mt_1 (List.mem_of_getElem? (i := 59) rfl)
theorem wd_111 : Cond.fieldLink RX7 15 "OneOfEach$Plan" "lines" "I" ∈ lw_tbl := mt_1 (List.mem_of_getElem? (i := 41) rfl)
theorem wd_112 : Cond.fieldLink RX7 9 "OneOfEach$Plan" "buyers" "I" ∈ lw_tbl := mt_1 (List.mem_of_getElem? (i := 36) rfl)
theorem wd_113 : Cond.code yX7_clear cX7_clear 1 none ∈ lw_tbl := mt_2 (List.mem_of_getElem? (i := 193) rfl)
theorem wd_114 : Cond.initialized RX7 ∈ lw_tbl := mt_1 (List.mem_of_getElem? (i := 2) rfl)
theorem wd_115 : Cond.selects RX7 yX7_clear yX7_clear ∈ lw_tbl := mt_2 (List.mem_of_getElem? (i := 192) rfl)
theorem wd_116 : Cond.instanceMethod yX7_clear ∈ lw_tbl := mt_2 (List.mem_of_getElem? (i := 191) rfl)
set_option maxRecDepth 20000 in
theorem hl_wsX11_shop_r2 : ∀ w ∈ wsX11_shop_r2, w ∈ lw_tbl := by
  unfold wsX11_shop_r2
  exact (List.forall_mem_cons.mpr ⟨wd_116, (List.forall_mem_cons.mpr ⟨wd_115, (List.forall_mem_cons.mpr ⟨wd_114, (List.forall_mem_cons.mpr ⟨wd_113, (List.forall_mem_cons.mpr ⟨wd_112, (List.forall_mem_cons.mpr ⟨wd_111, (List.forall_mem_cons.mpr ⟨wd_110, (List.forall_mem_cons.mpr ⟨wd_109, (List.forall_mem_cons.mpr ⟨wd_108, (List.forall_mem_cons.mpr ⟨wd_107, (List.forall_mem_cons.mpr ⟨wd_106, (List.forall_mem_cons.mpr ⟨wd_105, (List.forall_mem_cons.mpr ⟨wd_104, (List.forall_mem_cons.mpr ⟨wd_103, (List.forall_mem_cons.mpr ⟨wd_102, (List.forall_mem_cons.mpr ⟨wd_101, (List.forall_mem_cons.mpr ⟨wd_100, (List.forall_mem_cons.mpr ⟨wd_99, (List.forall_mem_cons.mpr ⟨wd_98, (List.forall_mem_cons.mpr ⟨wd_97, (List.forall_mem_cons.mpr ⟨wd_96, (List.forall_mem_cons.mpr ⟨wd_95, (List.forall_mem_cons.mpr ⟨wd_94, (List.forall_mem_cons.mpr ⟨wd_93, (fun _ h => absurd h List.not_mem_nil)⟩)⟩)⟩)⟩)⟩)⟩)⟩)⟩)⟩)⟩)⟩)⟩)⟩)⟩)⟩)⟩)⟩)⟩)⟩)⟩)⟩)⟩)⟩)⟩)
theorem wd_117 : Cond.static yX3_meaning ∈ lw_tbl := mt_2 (List.mem_of_getElem? (i := 215) rfl)
theorem wd_118 : Cond.methodLink RX8 72 yX3_meaning ∈ lw_tbl := mt_2 (List.mem_of_getElem? (i := 214) rfl)
theorem wd_119 : Cond.code yX3_isDigit cX3_isDigit 1 (some .boolean) ∈ lw_tbl := mt_2 (List.mem_of_getElem? (i := 213) rfl)
theorem wd_120 : Cond.static yX3_isDigit ∈ lw_tbl := mt_2 (List.mem_of_getElem? (i := 212) rfl)
theorem wd_121 : Cond.methodLink RX3 13 yX3_isDigit ∈ lw_tbl := mt_2 (List.mem_of_getElem? (i := 211) rfl)
theorem wd_122 : Cond.code yX3_isSmall cX3_isSmall 1 (some .boolean) ∈ lw_tbl := mt_2 (List.mem_of_getElem? (i := 210) rfl)
theorem wd_123 : Cond.static yX3_isSmall ∈ lw_tbl := mt_2 (List.mem_of_getElem? (i := 209) rfl)
theorem wd_124 : Cond.methodLink RX3 9 yX3_isSmall ∈ lw_tbl := mt_2 (List.mem_of_getElem? (i := 208) rfl)
theorem wd_125 : Cond.code yX3_endOf cX3_endOf 4 (some .int) ∈ lw_tbl := mt_2 (List.mem_of_getElem? (i := 207) rfl)
theorem wd_126 : Cond.static yX3_endOf ∈ lw_tbl := mt_2 (List.mem_of_getElem? (i := 206) rfl)
theorem wd_127 : Cond.methodLink RX8 68 yX3_endOf ∈ lw_tbl := mt_2 (List.mem_of_getElem? (i := 205) rfl)
theorem wd_128 : Cond.code yX3_isBlank cX3_isBlank 1 (some .boolean) ∈ lw_tbl := mt_2 (List.mem_of_getElem? (i := 204) rfl)
theorem wd_129 : Cond.initialized RX3 ∈ lw_tbl := mt_1 (List.mem_of_getElem? (i := 13) rfl)
theorem wd_130 : Cond.static yX3_isBlank ∈ lw_tbl := mt_2 (List.mem_of_getElem? (i := 203) rfl)
theorem wd_131 : Cond.methodLink RX8 64 yX3_isBlank ∈ lw_tbl := mt_2 (List.mem_of_getElem? (i := 202) rfl)
theorem wd_132 : Cond.code Lib.Math.max.name Lib.Math.max.code 2 (some .int) ∈ lw_tbl := mt_3 (List.mem_of_getElem? (i := 49) rfl)
theorem wd_133 : Cond.initialized "java/lang/Math" ∈ lw_tbl := mt_1 (List.mem_of_getElem? (i := 18) rfl)
theorem wd_134 : Cond.static Lib.Math.max.name ∈ lw_tbl := mt_3 (List.mem_of_getElem? (i := 48) rfl)
theorem wd_135 : Cond.methodLink RX8 75 Lib.Math.max.name ∈ lw_tbl := mt_3 (List.mem_of_getElem? (i := 91) rfl)
theorem wd_136 : Cond.fieldLink RX8 9 "OneOfEach$Reader" "tokens" "[I" ∈ lw_tbl := mt_1 (List.mem_of_getElem? (i := 189) rfl)
theorem wd_137 : Cond.fieldLink RX8 15 "OneOfEach$Reader" "places" "[I" ∈ lw_tbl := mt_1 (List.mem_of_getElem? (i := 190) rfl)
theorem wd_138 : Cond.code yX8_split cX8_split 7 none ∈ lw_tbl := mt_2 (List.mem_of_getElem? (i := 201) rfl)
theorem wd_139 : Cond.selects RX8 yX8_split yX8_split ∈ lw_tbl := mp_1 (q := (⟨"OneOfEach$Reader", "split", "([II)V"⟩, 7)) (List.mem_of_getElem? (i := 1) rfl)
theorem wd_140 : Cond.instanceMethod yX8_split ∈ lw_tbl := mt_2 (List.mem_of_getElem? (i := 200) rfl)
set_option maxRecDepth 20000 in
theorem hl_wsX11_shop_r3 : ∀ w ∈ wsX11_shop_r3, w ∈ lw_tbl := by
  unfold wsX11_shop_r3
  exact (List.forall_mem_cons.mpr ⟨wd_140, (List.forall_mem_cons.mpr ⟨wd_139, (List.forall_mem_cons.mpr ⟨wd_138, (List.forall_mem_cons.mpr ⟨wd_137, (List.forall_mem_cons.mpr ⟨wd_136, (List.forall_mem_cons.mpr ⟨wd_135, (List.forall_mem_cons.mpr ⟨wd_134, (List.forall_mem_cons.mpr ⟨wd_133, (List.forall_mem_cons.mpr ⟨wd_132, (List.forall_mem_cons.mpr ⟨wd_131, (List.forall_mem_cons.mpr ⟨wd_130, (List.forall_mem_cons.mpr ⟨wd_129, (List.forall_mem_cons.mpr ⟨wd_128, (List.forall_mem_cons.mpr ⟨wd_127, (List.forall_mem_cons.mpr ⟨wd_126, (List.forall_mem_cons.mpr ⟨wd_125, (List.forall_mem_cons.mpr ⟨wd_124, (List.forall_mem_cons.mpr ⟨wd_123, (List.forall_mem_cons.mpr ⟨wd_122, (List.forall_mem_cons.mpr ⟨wd_121, (List.forall_mem_cons.mpr ⟨wd_120, (List.forall_mem_cons.mpr ⟨wd_119, (List.forall_mem_cons.mpr ⟨wd_118, (List.forall_mem_cons.mpr ⟨wd_117, (fun _ h => absurd h List.not_mem_nil)⟩)⟩)⟩)⟩)⟩)⟩)⟩)⟩)⟩)⟩)⟩)⟩)⟩)⟩)⟩)⟩)⟩)⟩)⟩)⟩)⟩)⟩)⟩)⟩)
theorem wd_141 : Cond.fieldLink RJ0 1053 "jdk/internal/util/Preconditions" "SIOOBE_FORMATTER" "Ljava/util/function/BiFunction;" ∈ lw_tbl := mt_2 (List.mem_of_getElem? (i := 237) rfl)
theorem wd_142 : Cond.code yJ0_checkIndex_df160 cJ0_checkIndex_df160 2 none ∈ lw_tbl := mt_2 (List.mem_of_getElem? (i := 236) rfl)
theorem wd_143 : Cond.static yJ0_checkIndex_df160 ∈ lw_tbl := mt_2 (List.mem_of_getElem? (i := 235) rfl)
theorem wd_144 : Cond.methodLink RJ1 9 yJ0_checkIndex_df160 ∈ lw_tbl := mt_2 (List.mem_of_getElem? (i := 234) rfl)
theorem wd_145 : Cond.code yJ1_charAt_3b067 cJ1_charAt_3b067 2 (some .char) ∈ lw_tbl := mt_2 (List.mem_of_getElem? (i := 233) rfl)
theorem wd_146 : Cond.initialized RJ1 ∈ lw_tbl := mt_1 (List.mem_of_getElem? (i := 15) rfl)
theorem wd_147 : Cond.static yJ1_charAt_3b067 ∈ lw_tbl := mt_2 (List.mem_of_getElem? (i := 232) rfl)
theorem wd_148 : Cond.methodLink RJ0 495 yJ1_charAt_3b067 ∈ lw_tbl := mt_2 (List.mem_of_getElem? (i := 231) rfl)
theorem wd_149 : Cond.fieldLink RJ0 15 "java/lang/String" "coder" "B" ∈ lw_tbl := mt_8 (List.mem_of_getElem? (i := 182) rfl)
theorem wd_150 : Cond.fieldLink RJ0 38 "java/lang/String" "COMPACT_STRINGS" "Z" ∈ lw_tbl := mt_2 (List.mem_of_getElem? (i := 229) rfl)
theorem wd_151 : Cond.code yJ0_isLatin1_aae02 cJ0_isLatin1_aae02 1 (some .boolean) ∈ lw_tbl := mt_2 (List.mem_of_getElem? (i := 228) rfl)
theorem wd_152 : Cond.selects RJ0 yJ0_isLatin1_aae02 yJ0_isLatin1_aae02 ∈ lw_tbl := mt_2 (List.mem_of_getElem? (i := 227) rfl)
theorem wd_153 : Cond.instanceMethod yJ0_isLatin1_aae02 ∈ lw_tbl := mt_2 (List.mem_of_getElem? (i := 226) rfl)
theorem wd_154 : Cond.methodLink RJ0 492 yJ0_isLatin1_aae02 ∈ lw_tbl := mt_2 (List.mem_of_getElem? (i := 225) rfl)
theorem wd_155 : Cond.fieldLink RJ0 9 "java/lang/String" "value" "[B" ∈ lw_tbl := mt_8 (List.mem_of_getElem? (i := 183) rfl)
theorem wd_156 : Cond.code yJ0_charAt_5068e cJ0_charAt_5068e 2 (some .char) ∈ lw_tbl := mt_2 (List.mem_of_getElem? (i := 224) rfl)
theorem wd_157 : Cond.initialized RJ0 ∈ lw_tbl := mt_1 (List.mem_of_getElem? (i := 14) rfl)
theorem wd_158 : Cond.selects RJ0 yJ0_charAt_5068e yJ0_charAt_5068e ∈ lw_tbl := mt_2 (List.mem_of_getElem? (i := 223) rfl)
theorem wd_159 : Cond.instanceMethod yJ0_charAt_5068e ∈ lw_tbl := mt_2 (List.mem_of_getElem? (i := 222) rfl)
theorem wd_160 : Cond.methodLink RX3 33 yJ0_charAt_5068e ∈ lw_tbl := mt_2 (List.mem_of_getElem? (i := 221) rfl)
theorem wd_161 : Cond.code yX3_wordOf cX3_wordOf 5 (some .int) ∈ lw_tbl := mt_2 (List.mem_of_getElem? (i := 219) rfl)
theorem wd_162 : Cond.static yX3_wordOf ∈ lw_tbl := mt_2 (List.mem_of_getElem? (i := 218) rfl)
theorem wd_163 : Cond.methodLink RX3 16 yX3_wordOf ∈ lw_tbl := mt_2 (List.mem_of_getElem? (i := 217) rfl)
theorem wd_164 : Cond.code yX3_meaning cX3_meaning 3 (some .int) ∈ lw_tbl := mt_2 (List.mem_of_getElem? (i := 216) rfl)
set_option maxRecDepth 20000 in
theorem hl_wsX11_shop_r4 : ∀ w ∈ wsX11_shop_r4, w ∈ lw_tbl := by
  unfold wsX11_shop_r4
  exact (List.forall_mem_cons.mpr ⟨wd_164, (List.forall_mem_cons.mpr ⟨wd_163, (List.forall_mem_cons.mpr ⟨wd_162, (List.forall_mem_cons.mpr ⟨wd_161, (List.forall_mem_cons.mpr ⟨wd_160, (List.forall_mem_cons.mpr ⟨wd_159, (List.forall_mem_cons.mpr ⟨wd_158, (List.forall_mem_cons.mpr ⟨wd_157, (List.forall_mem_cons.mpr ⟨wd_156, (List.forall_mem_cons.mpr ⟨wd_155, (List.forall_mem_cons.mpr ⟨wd_154, (List.forall_mem_cons.mpr ⟨wd_153, (List.forall_mem_cons.mpr ⟨wd_152, (List.forall_mem_cons.mpr ⟨wd_151, (List.forall_mem_cons.mpr ⟨wd_150, (List.forall_mem_cons.mpr ⟨wd_149, (List.forall_mem_cons.mpr ⟨wd_148, (List.forall_mem_cons.mpr ⟨wd_147, (List.forall_mem_cons.mpr ⟨wd_146, (List.forall_mem_cons.mpr ⟨wd_145, (List.forall_mem_cons.mpr ⟨wd_144, (List.forall_mem_cons.mpr ⟨wd_143, (List.forall_mem_cons.mpr ⟨wd_142, (List.forall_mem_cons.mpr ⟨wd_141, (fun _ h => absurd h List.not_mem_nil)⟩)⟩)⟩)⟩)⟩)⟩)⟩)⟩)⟩)⟩)⟩)⟩)⟩)⟩)⟩)⟩)⟩)⟩)⟩)⟩)⟩)⟩)⟩)⟩)
theorem wd_165 : Cond.code yX3_numberOf cX3_numberOf 5 (some .int) ∈ lw_tbl := mt_3 (List.mem_of_getElem? (i := 23) rfl)
theorem wd_166 : Cond.static yX3_numberOf ∈ lw_tbl := mt_3 (List.mem_of_getElem? (i := 22) rfl)
theorem wd_167 : Cond.methodLink RX3 20 yX3_numberOf ∈ lw_tbl := mt_3 (List.mem_of_getElem? (i := 21) rfl)
theorem wd_168 : Cond.fieldLink RJ2 63 "java/lang/StringUTF16" "LO_BYTE_SHIFT" "I" ∈ lw_tbl := mt_3 (List.mem_of_getElem? (i := 19) rfl)
theorem wd_169 : Cond.fieldLink RJ2 59 "java/lang/StringUTF16" "HI_BYTE_SHIFT" "I" ∈ lw_tbl := mt_3 (List.mem_of_getElem? (i := 17) rfl)
theorem wd_170 : Cond.fieldLink RJ2 44 "java/lang/StringUTF16" "$assertionsDisabled" "Z" ∈ lw_tbl := mt_3 (List.mem_of_getElem? (i := 15) rfl)
theorem wd_171 : Cond.code yJ2_getChar_3b067 cJ2_getChar_3b067 2 (some .char) ∈ lw_tbl := mt_3 (List.mem_of_getElem? (i := 14) rfl)
theorem wd_172 : Cond.static yJ2_getChar_3b067 ∈ lw_tbl := mt_3 (List.mem_of_getElem? (i := 13) rfl)
theorem wd_173 : Cond.methodLink RJ2 71 yJ2_getChar_3b067 ∈ lw_tbl := mt_3 (List.mem_of_getElem? (i := 12) rfl)
theorem wd_174 : Cond.methodLink RJ2 414 yJ0_checkIndex_df160 ∈ lw_tbl := mt_3 (List.mem_of_getElem? (i := 11) rfl)
theorem wd_175 : Cond.code yJ2_length_9d52b cJ2_length_9d52b 1 (some .int) ∈ lw_tbl := mt_3 (List.mem_of_getElem? (i := 10) rfl)
theorem wd_176 : Cond.static yJ2_length_9d52b ∈ lw_tbl := mt_3 (List.mem_of_getElem? (i := 9) rfl)
theorem wd_177 : Cond.methodLink RJ2 48 yJ2_length_9d52b ∈ lw_tbl := mt_3 (List.mem_of_getElem? (i := 8) rfl)
theorem wd_178 : Cond.code yJ2_checkIndex_2214a cJ2_checkIndex_2214a 2 none ∈ lw_tbl := mt_3 (List.mem_of_getElem? (i := 7) rfl)
theorem wd_179 : Cond.static yJ2_checkIndex_2214a ∈ lw_tbl := mt_3 (List.mem_of_getElem? (i := 6) rfl)
theorem wd_180 : Cond.methodLink RJ2 67 yJ2_checkIndex_2214a ∈ lw_tbl := mt_3 (List.mem_of_getElem? (i := 5) rfl)
theorem wd_181 : Cond.code yJ2_charAt_3b067 cJ2_charAt_3b067 2 (some .char) ∈ lw_tbl := mt_3 (List.mem_of_getElem? (i := 4) rfl)
theorem wd_182 : Cond.initialized RJ2 ∈ lw_tbl := mt_1 (List.mem_of_getElem? (i := 17) rfl)
theorem wd_183 : Cond.static yJ2_charAt_3b067 ∈ lw_tbl := mt_3 (List.mem_of_getElem? (i := 3) rfl)
theorem wd_184 : Cond.methodLink RJ0 498 yJ2_charAt_3b067 ∈ lw_tbl := mt_3 (List.mem_of_getElem? (i := 2) rfl)
theorem wd_185 : Cond.code yJ3_checkIndex_8e157 cJ3_checkIndex_8e157 3 (some .int) ∈ lw_tbl := mt_3 (List.mem_of_getElem? (i := 1) rfl)
theorem wd_186 : Cond.initialized RJ3 ∈ lw_tbl := mt_1 (List.mem_of_getElem? (i := 16) rfl)
theorem wd_187 : Cond.static yJ3_checkIndex_8e157 ∈ lw_tbl := mt_3 (List.mem_of_getElem? (i := 0) rfl)
theorem wd_188 : Cond.methodLink RJ0 1059 yJ3_checkIndex_8e157 ∈ lw_tbl := mt_2 (List.mem_of_getElem? (i := 239) rfl)
set_option maxRecDepth 20000 in
theorem hl_wsX11_shop_r5 : ∀ w ∈ wsX11_shop_r5, w ∈ lw_tbl := by
  unfold wsX11_shop_r5
  exact (List.forall_mem_cons.mpr ⟨wd_188, (List.forall_mem_cons.mpr ⟨wd_187, (List.forall_mem_cons.mpr ⟨wd_186, (List.forall_mem_cons.mpr ⟨wd_185, (List.forall_mem_cons.mpr ⟨wd_184, (List.forall_mem_cons.mpr ⟨wd_183, (List.forall_mem_cons.mpr ⟨wd_182, (List.forall_mem_cons.mpr ⟨wd_181, (List.forall_mem_cons.mpr ⟨wd_180, (List.forall_mem_cons.mpr ⟨wd_179, (List.forall_mem_cons.mpr ⟨wd_178, (List.forall_mem_cons.mpr ⟨wd_177, (List.forall_mem_cons.mpr ⟨wd_176, (List.forall_mem_cons.mpr ⟨wd_175, (List.forall_mem_cons.mpr ⟨wd_174, (List.forall_mem_cons.mpr ⟨wd_173, (List.forall_mem_cons.mpr ⟨wd_172, (List.forall_mem_cons.mpr ⟨wd_171, (List.forall_mem_cons.mpr ⟨wd_170, (List.forall_mem_cons.mpr ⟨wd_169, (List.forall_mem_cons.mpr ⟨wd_168, (List.forall_mem_cons.mpr ⟨wd_167, (List.forall_mem_cons.mpr ⟨wd_166, (List.forall_mem_cons.mpr ⟨wd_165, (fun _ h => absurd h List.not_mem_nil)⟩)⟩)⟩)⟩)⟩)⟩)⟩)⟩)⟩)⟩)⟩)⟩)⟩)⟩)⟩)⟩)⟩)⟩)⟩)⟩)⟩)⟩)⟩)⟩)
theorem wd_189 : Cond.methodLink RJ1 88 yJ1_canEncode_9a6ad ∈ lw_tbl := mt_3 (List.mem_of_getElem? (i := 44) rfl)
theorem wd_190 : Cond.code Lib.Math.min.name Lib.Math.min.code 2 (some .int) ∈ lw_tbl := mt_3 (List.mem_of_getElem? (i := 52) rfl)
theorem wd_191 : Cond.static Lib.Math.min.name ∈ lw_tbl := mt_3 (List.mem_of_getElem? (i := 51) rfl)
theorem wd_192 : Cond.methodLink RJ1 38 Lib.Math.min.name ∈ lw_tbl := mt_3 (List.mem_of_getElem? (i := 50) rfl)
theorem wd_193 : Cond.methodLink RJ1 92 Lib.Math.max.name ∈ lw_tbl := mt_3 (List.mem_of_getElem? (i := 47) rfl)
theorem wd_194 : Cond.code yJ1_indexOf_4cfef cJ1_indexOf_4cfef 4 (some .int) ∈ lw_tbl := mt_3 (List.mem_of_getElem? (i := 43) rfl)
theorem wd_195 : Cond.static yJ1_indexOf_4cfef ∈ lw_tbl := mt_3 (List.mem_of_getElem? (i := 42) rfl)
theorem wd_196 : Cond.methodLink RJ0 637 yJ1_indexOf_4cfef ∈ lw_tbl := mt_3 (List.mem_of_getElem? (i := 41) rfl)
theorem wd_197 : Cond.code yJ0_coder_7d493 cJ0_coder_7d493 1 (some .byte) ∈ lw_tbl := mt_3 (List.mem_of_getElem? (i := 40) rfl)
theorem wd_198 : Cond.selects RJ0 yJ0_coder_7d493 yJ0_coder_7d493 ∈ lw_tbl := mt_3 (List.mem_of_getElem? (i := 39) rfl)
theorem wd_199 : Cond.instanceMethod yJ0_coder_7d493 ∈ lw_tbl := mt_3 (List.mem_of_getElem? (i := 38) rfl)
theorem wd_200 : Cond.methodLink RJ0 335 yJ0_coder_7d493 ∈ lw_tbl := mt_3 (List.mem_of_getElem? (i := 37) rfl)
theorem wd_201 : Cond.code yJ0_length_8abf5 cJ0_length_8abf5 1 (some .int) ∈ lw_tbl := mt_3 (List.mem_of_getElem? (i := 36) rfl)
theorem wd_202 : Cond.selects RJ0 yJ0_length_8abf5 yJ0_length_8abf5 ∈ lw_tbl := mt_3 (List.mem_of_getElem? (i := 35) rfl)
theorem wd_203 : Cond.instanceMethod yJ0_length_8abf5 ∈ lw_tbl := mt_3 (List.mem_of_getElem? (i := 34) rfl)
theorem wd_204 : Cond.methodLink RJ0 505 yJ0_length_8abf5 ∈ lw_tbl := mt_3 (List.mem_of_getElem? (i := 33) rfl)
theorem wd_205 : Cond.code yJ0_indexOf_7cf53 cJ0_indexOf_7cf53 3 (some .int) ∈ lw_tbl := mt_3 (List.mem_of_getElem? (i := 32) rfl)
theorem wd_206 : Cond.selects RJ0 yJ0_indexOf_7cf53 yJ0_indexOf_7cf53 ∈ lw_tbl := mt_3 (List.mem_of_getElem? (i := 31) rfl)
theorem wd_207 : Cond.instanceMethod yJ0_indexOf_7cf53 ∈ lw_tbl := mt_3 (List.mem_of_getElem? (i := 30) rfl)
theorem wd_208 : Cond.methodLink RJ0 633 yJ0_indexOf_7cf53 ∈ lw_tbl := mt_3 (List.mem_of_getElem? (i := 29) rfl)
theorem wd_209 : Cond.code yJ0_indexOf_0f7a4 cJ0_indexOf_0f7a4 2 (some .int) ∈ lw_tbl := mt_3 (List.mem_of_getElem? (i := 28) rfl)
theorem wd_210 : Cond.selects RJ0 yJ0_indexOf_0f7a4 yJ0_indexOf_0f7a4 ∈ lw_tbl := mt_3 (List.mem_of_getElem? (i := 27) rfl)
theorem wd_211 : Cond.instanceMethod yJ0_indexOf_0f7a4 ∈ lw_tbl := mt_3 (List.mem_of_getElem? (i := 26) rfl)
theorem wd_212 : Cond.methodLink RX3 25 yJ0_indexOf_0f7a4 ∈ lw_tbl := mt_3 (List.mem_of_getElem? (i := 25) rfl)
set_option maxRecDepth 20000 in
theorem hl_wsX11_shop_r6 : ∀ w ∈ wsX11_shop_r6, w ∈ lw_tbl := by
  unfold wsX11_shop_r6
  exact (List.forall_mem_cons.mpr ⟨wd_212, (List.forall_mem_cons.mpr ⟨wd_211, (List.forall_mem_cons.mpr ⟨wd_210, (List.forall_mem_cons.mpr ⟨wd_209, (List.forall_mem_cons.mpr ⟨wd_208, (List.forall_mem_cons.mpr ⟨wd_207, (List.forall_mem_cons.mpr ⟨wd_206, (List.forall_mem_cons.mpr ⟨wd_205, (List.forall_mem_cons.mpr ⟨wd_204, (List.forall_mem_cons.mpr ⟨wd_203, (List.forall_mem_cons.mpr ⟨wd_202, (List.forall_mem_cons.mpr ⟨wd_201, (List.forall_mem_cons.mpr ⟨wd_200, (List.forall_mem_cons.mpr ⟨wd_199, (List.forall_mem_cons.mpr ⟨wd_198, (List.forall_mem_cons.mpr ⟨wd_197, (List.forall_mem_cons.mpr ⟨wd_196, (List.forall_mem_cons.mpr ⟨wd_195, (List.forall_mem_cons.mpr ⟨wd_194, (List.forall_mem_cons.mpr ⟨wd_193, (List.forall_mem_cons.mpr ⟨wd_192, (List.forall_mem_cons.mpr ⟨wd_191, (List.forall_mem_cons.mpr ⟨wd_190, (List.forall_mem_cons.mpr ⟨wd_189, (fun _ h => absurd h List.not_mem_nil)⟩)⟩)⟩)⟩)⟩)⟩)⟩)⟩)⟩)⟩)⟩)⟩)⟩)⟩)⟩)⟩)⟩)⟩)⟩)⟩)⟩)⟩)⟩)⟩)
theorem wd_213 : Cond.methodLink RJ2 244 yJ2_indexOfCharUnsafe_4cfef ∈ lw_tbl := mt_3 (List.mem_of_getElem? (i := 74) rfl)
theorem wd_214 : Cond.code yJ3_checkFromToIndex_8c36e cJ3_checkFromToIndex_8c36e 4 (some .int) ∈ lw_tbl := mt_3 (List.mem_of_getElem? (i := 73) rfl)
theorem wd_215 : Cond.static yJ3_checkFromToIndex_8c36e ∈ lw_tbl := mt_3 (List.mem_of_getElem? (i := 72) rfl)
theorem wd_216 : Cond.methodLink RJ0 1062 yJ3_checkFromToIndex_8c36e ∈ lw_tbl := mt_3 (List.mem_of_getElem? (i := 71) rfl)
theorem wd_217 : Cond.code yJ0_checkBoundsBeginEnd_23922 cJ0_checkBoundsBeginEnd_23922 3 none ∈ lw_tbl := mt_3 (List.mem_of_getElem? (i := 70) rfl)
theorem wd_218 : Cond.static yJ0_checkBoundsBeginEnd_23922 ∈ lw_tbl := mt_3 (List.mem_of_getElem? (i := 69) rfl)
theorem wd_219 : Cond.methodLink RJ2 241 yJ0_checkBoundsBeginEnd_23922 ∈ lw_tbl := mt_3 (List.mem_of_getElem? (i := 68) rfl)
theorem wd_220 : Cond.code yJ2_checkBoundsBeginEnd_d044e cJ2_checkBoundsBeginEnd_d044e 3 none ∈ lw_tbl := mt_3 (List.mem_of_getElem? (i := 67) rfl)
theorem wd_221 : Cond.static yJ2_checkBoundsBeginEnd_d044e ∈ lw_tbl := mt_3 (List.mem_of_getElem? (i := 66) rfl)
theorem wd_222 : Cond.methodLink RJ2 96 yJ2_checkBoundsBeginEnd_d044e ∈ lw_tbl := mt_3 (List.mem_of_getElem? (i := 65) rfl)
theorem wd_223 : Cond.code yJ2_indexOfChar_4cfef cJ2_indexOfChar_4cfef 4 (some .int) ∈ lw_tbl := mt_3 (List.mem_of_getElem? (i := 64) rfl)
theorem wd_224 : Cond.static yJ2_indexOfChar_4cfef ∈ lw_tbl := mt_3 (List.mem_of_getElem? (i := 63) rfl)
theorem wd_225 : Cond.methodLink RJ2 228 yJ2_indexOfChar_4cfef ∈ lw_tbl := mt_3 (List.mem_of_getElem? (i := 62) rfl)
theorem wd_226 : Cond.constant RJ2 227 (65536) ∈ lw_tbl := mt_3 (List.mem_of_getElem? (i := 61) rfl)
theorem wd_227 : Cond.methodLink RJ2 183 Lib.Math.min.name ∈ lw_tbl := mt_3 (List.mem_of_getElem? (i := 60) rfl)
theorem wd_228 : Cond.methodLink RJ2 224 Lib.Math.max.name ∈ lw_tbl := mt_3 (List.mem_of_getElem? (i := 59) rfl)
theorem wd_229 : Cond.code yJ2_indexOf_4cfef cJ2_indexOf_4cfef 4 (some .int) ∈ lw_tbl := mt_3 (List.mem_of_getElem? (i := 58) rfl)
theorem wd_230 : Cond.static yJ2_indexOf_4cfef ∈ lw_tbl := mt_3 (List.mem_of_getElem? (i := 57) rfl)
theorem wd_231 : Cond.methodLink RJ0 640 yJ2_indexOf_4cfef ∈ lw_tbl := mt_3 (List.mem_of_getElem? (i := 56) rfl)
theorem wd_232 : Cond.code yJ1_indexOfChar_4cfef cJ1_indexOfChar_4cfef 6 (some .int) ∈ lw_tbl := mt_3 (List.mem_of_getElem? (i := 55) rfl)
theorem wd_233 : Cond.static yJ1_indexOfChar_4cfef ∈ lw_tbl := mt_3 (List.mem_of_getElem? (i := 54) rfl)
theorem wd_234 : Cond.methodLink RJ1 95 yJ1_indexOfChar_4cfef ∈ lw_tbl := mt_3 (List.mem_of_getElem? (i := 53) rfl)
theorem wd_235 : Cond.code yJ1_canEncode_9a6ad cJ1_canEncode_9a6ad 1 (some .boolean) ∈ lw_tbl := mt_3 (List.mem_of_getElem? (i := 46) rfl)
theorem wd_236 : Cond.static yJ1_canEncode_9a6ad ∈ lw_tbl := mt_3 (List.mem_of_getElem? (i := 45) rfl)
set_option maxRecDepth 20000 in
theorem hl_wsX11_shop_r7 : ∀ w ∈ wsX11_shop_r7, w ∈ lw_tbl := by
  unfold wsX11_shop_r7
  exact (List.forall_mem_cons.mpr ⟨wd_236, (List.forall_mem_cons.mpr ⟨wd_235, (List.forall_mem_cons.mpr ⟨wd_234, (List.forall_mem_cons.mpr ⟨wd_233, (List.forall_mem_cons.mpr ⟨wd_232, (List.forall_mem_cons.mpr ⟨wd_231, (List.forall_mem_cons.mpr ⟨wd_230, (List.forall_mem_cons.mpr ⟨wd_229, (List.forall_mem_cons.mpr ⟨wd_228, (List.forall_mem_cons.mpr ⟨wd_227, (List.forall_mem_cons.mpr ⟨wd_226, (List.forall_mem_cons.mpr ⟨wd_225, (List.forall_mem_cons.mpr ⟨wd_224, (List.forall_mem_cons.mpr ⟨wd_223, (List.forall_mem_cons.mpr ⟨wd_222, (List.forall_mem_cons.mpr ⟨wd_221, (List.forall_mem_cons.mpr ⟨wd_220, (List.forall_mem_cons.mpr ⟨wd_219, (List.forall_mem_cons.mpr ⟨wd_218, (List.forall_mem_cons.mpr ⟨wd_217, (List.forall_mem_cons.mpr ⟨wd_216, (List.forall_mem_cons.mpr ⟨wd_215, (List.forall_mem_cons.mpr ⟨wd_214, (List.forall_mem_cons.mpr ⟨wd_213, (fun _ h => absurd h List.not_mem_nil)⟩)⟩)⟩)⟩)⟩)⟩)⟩)⟩)⟩)⟩)⟩)⟩)⟩)⟩)⟩)⟩)⟩)⟩)⟩)⟩)⟩)⟩)⟩)⟩)
theorem wd_237 : Cond.selects RX8 yX8_token yX8_token ∈ lw_tbl := mp_1 (q := (⟨"OneOfEach$Reader", "token", "()I"⟩, 7)) (List.mem_of_getElem? (i := 3) rfl)
theorem wd_238 : Cond.instanceMethod yX8_token ∈ lw_tbl := mt_3 (List.mem_of_getElem? (i := 98) rfl)
theorem wd_239 : Cond.methodLink RX8 57 yX8_token ∈ lw_tbl := mt_3 (List.mem_of_getElem? (i := 96) rfl)
theorem wd_240 : Cond.code yX8_expect cX8_expect 2 none ∈ lw_tbl := mt_3 (List.mem_of_getElem? (i := 95) rfl)
theorem wd_241 : Cond.selects RX8 yX8_expect yX8_expect ∈ lw_tbl := mp_1 (q := (⟨"OneOfEach$Reader", "expect", "(I)V"⟩, 7)) (List.mem_of_getElem? (i := 2) rfl)
theorem wd_242 : Cond.instanceMethod yX8_expect ∈ lw_tbl := mt_3 (List.mem_of_getElem? (i := 94) rfl)
theorem wd_243 : Cond.methodLink RX8 50 yX8_expect ∈ lw_tbl := mt_3 (List.mem_of_getElem? (i := 92) rfl)
theorem wd_244 : Cond.constant RJ11 76 (56320) ∈ lw_tbl := mt_3 (List.mem_of_getElem? (i := 90) rfl)
theorem wd_245 : Cond.code yJ11_lowSurrogate_5068e cJ11_lowSurrogate_5068e 1 (some .char) ∈ lw_tbl := mt_3 (List.mem_of_getElem? (i := 89) rfl)
theorem wd_246 : Cond.static yJ11_lowSurrogate_5068e ∈ lw_tbl := mt_3 (List.mem_of_getElem? (i := 88) rfl)
theorem wd_247 : Cond.methodLink RJ2 161 yJ11_lowSurrogate_5068e ∈ lw_tbl := mt_3 (List.mem_of_getElem? (i := 87) rfl)
theorem wd_248 : Cond.constant RJ11 110 (55232) ∈ lw_tbl := mt_3 (List.mem_of_getElem? (i := 86) rfl)
theorem wd_249 : Cond.code yJ11_highSurrogate_5068e cJ11_highSurrogate_5068e 1 (some .char) ∈ lw_tbl := mt_3 (List.mem_of_getElem? (i := 85) rfl)
theorem wd_250 : Cond.static yJ11_highSurrogate_5068e ∈ lw_tbl := mt_3 (List.mem_of_getElem? (i := 84) rfl)
theorem wd_251 : Cond.methodLink RJ2 157 yJ11_highSurrogate_5068e ∈ lw_tbl := mt_3 (List.mem_of_getElem? (i := 83) rfl)
theorem wd_252 : Cond.code yJ11_isValidCodePoint_9a6ad cJ11_isValidCodePoint_9a6ad 2 (some .boolean) ∈ lw_tbl := mt_3 (List.mem_of_getElem? (i := 82) rfl)
theorem wd_253 : Cond.initialized RJ11 ∈ lw_tbl := mt_1 (List.mem_of_getElem? (i := 19) rfl)
theorem wd_254 : Cond.static yJ11_isValidCodePoint_9a6ad ∈ lw_tbl := mt_3 (List.mem_of_getElem? (i := 81) rfl)
theorem wd_255 : Cond.methodLink RJ2 164 yJ11_isValidCodePoint_9a6ad ∈ lw_tbl := mt_3 (List.mem_of_getElem? (i := 80) rfl)
theorem wd_256 : Cond.code yJ2_indexOfSupplementary_4cfef cJ2_indexOfSupplementary_4cfef 7 (some .int) ∈ lw_tbl := mt_3 (List.mem_of_getElem? (i := 79) rfl)
theorem wd_257 : Cond.static yJ2_indexOfSupplementary_4cfef ∈ lw_tbl := mt_3 (List.mem_of_getElem? (i := 78) rfl)
theorem wd_258 : Cond.methodLink RJ2 232 yJ2_indexOfSupplementary_4cfef ∈ lw_tbl := mt_3 (List.mem_of_getElem? (i := 77) rfl)
theorem wd_259 : Cond.code yJ2_indexOfCharUnsafe_4cfef cJ2_indexOfCharUnsafe_4cfef 5 (some .int) ∈ lw_tbl := mt_3 (List.mem_of_getElem? (i := 76) rfl)
theorem wd_260 : Cond.static yJ2_indexOfCharUnsafe_4cfef ∈ lw_tbl := mt_3 (List.mem_of_getElem? (i := 75) rfl)
set_option maxRecDepth 20000 in
theorem hl_wsX11_shop_r8 : ∀ w ∈ wsX11_shop_r8, w ∈ lw_tbl := by
  unfold wsX11_shop_r8
  exact (List.forall_mem_cons.mpr ⟨wd_260, (List.forall_mem_cons.mpr ⟨wd_259, (List.forall_mem_cons.mpr ⟨wd_258, (List.forall_mem_cons.mpr ⟨wd_257, (List.forall_mem_cons.mpr ⟨wd_256, (List.forall_mem_cons.mpr ⟨wd_255, (List.forall_mem_cons.mpr ⟨wd_254, (List.forall_mem_cons.mpr ⟨wd_253, (List.forall_mem_cons.mpr ⟨wd_252, (List.forall_mem_cons.mpr ⟨wd_251, (List.forall_mem_cons.mpr ⟨wd_250, (List.forall_mem_cons.mpr ⟨wd_249, (List.forall_mem_cons.mpr ⟨wd_248, (List.forall_mem_cons.mpr ⟨wd_247, (List.forall_mem_cons.mpr ⟨wd_246, (List.forall_mem_cons.mpr ⟨wd_245, (List.forall_mem_cons.mpr ⟨wd_244, (List.forall_mem_cons.mpr ⟨wd_243, (List.forall_mem_cons.mpr ⟨wd_242, (List.forall_mem_cons.mpr ⟨wd_241, (List.forall_mem_cons.mpr ⟨wd_240, (List.forall_mem_cons.mpr ⟨wd_239, (List.forall_mem_cons.mpr ⟨wd_238, (List.forall_mem_cons.mpr ⟨wd_237, (fun _ h => absurd h List.not_mem_nil)⟩)⟩)⟩)⟩)⟩)⟩)⟩)⟩)⟩)⟩)⟩)⟩)⟩)⟩)⟩)⟩)⟩)⟩)⟩)⟩)⟩)⟩)⟩)⟩)
theorem wd_261 : Cond.fieldLink RX8 114 "OneOfEach$Stock" "kinds" "I" ∈ lw_tbl := mt_1 (List.mem_of_getElem? (i := 107) rfl)
theorem wd_262 : Cond.code yX8_kindLine cX8_kindLine 4 none ∈ lw_tbl := mt_3 (List.mem_of_getElem? (i := 115) rfl)
theorem wd_263 : Cond.selects RX8 yX8_kindLine yX8_kindLine ∈ lw_tbl := mp_1 (q := (⟨"OneOfEach$Reader", "kindLine", "()V"⟩, 7)) (List.mem_of_getElem? (i := 7) rfl)
theorem wd_264 : Cond.instanceMethod yX8_kindLine ∈ lw_tbl := mt_3 (List.mem_of_getElem? (i := 114) rfl)
theorem wd_265 : Cond.methodLink RX8 87 yX8_kindLine ∈ lw_tbl := mt_3 (List.mem_of_getElem? (i := 112) rfl)
theorem wd_266 : Cond.fieldLink RX8 111 "OneOfEach$Plan" "letsTo" "I" ∈ lw_tbl := mt_1 (List.mem_of_getElem? (i := 72) rfl)
theorem wd_267 : Cond.fieldLink RX8 105 "OneOfEach$Plan" "letsFrom" "I" ∈ lw_tbl := mt_1 (List.mem_of_getElem? (i := 69) rfl)
theorem wd_268 : Cond.fieldLink RX8 102 "OneOfEach$Plan" "wantsTo" "I" ∈ lw_tbl := mt_1 (List.mem_of_getElem? (i := 66) rfl)
theorem wd_269 : Cond.fieldLink RX8 96 "OneOfEach$Plan" "wantsFrom" "I" ∈ lw_tbl := mt_1 (List.mem_of_getElem? (i := 63) rfl)
theorem wd_270 : Cond.fieldLink RX8 93 "OneOfEach$Plan" "codeSize" "I" ∈ lw_tbl := mt_1 (List.mem_of_getElem? (i := 60) rfl)
theorem wd_271 : Cond.code yX8_line cX8_line 1 none ∈ lw_tbl := mt_3 (List.mem_of_getElem? (i := 111) rfl)
theorem wd_272 : Cond.selects RX8 yX8_line yX8_line ∈ lw_tbl := mp_1 (q := (⟨"OneOfEach$Reader", "line", "()V"⟩, 7)) (List.mem_of_getElem? (i := 6) rfl)
theorem wd_273 : Cond.instanceMethod yX8_line ∈ lw_tbl := mt_3 (List.mem_of_getElem? (i := 110) rfl)
theorem wd_274 : Cond.methodLink RX8 61 yX8_line ∈ lw_tbl := mt_3 (List.mem_of_getElem? (i := 108) rfl)
theorem wd_275 : Cond.fieldLink RX8 84 "OneOfEach$Plan" "lines" "I" ∈ lw_tbl := mt_1 (List.mem_of_getElem? (i := 43) rfl)
theorem wd_276 : Cond.code yX8_endLine cX8_endLine 1 none ∈ lw_tbl := mt_3 (List.mem_of_getElem? (i := 107) rfl)
theorem wd_277 : Cond.selects RX8 yX8_endLine yX8_endLine ∈ lw_tbl := mp_1 (q := (⟨"OneOfEach$Reader", "endLine", "()V"⟩, 7)) (List.mem_of_getElem? (i := 5) rfl)
theorem wd_278 : Cond.instanceMethod yX8_endLine ∈ lw_tbl := mt_3 (List.mem_of_getElem? (i := 106) rfl)
theorem wd_279 : Cond.methodLink RX8 54 yX8_endLine ∈ lw_tbl := mt_3 (List.mem_of_getElem? (i := 104) rfl)
theorem wd_280 : Cond.code yX8_fail cX8_fail 2 none ∈ lw_tbl := mt_3 (List.mem_of_getElem? (i := 103) rfl)
theorem wd_281 : Cond.selects RX8 yX8_fail yX8_fail ∈ lw_tbl := mp_1 (q := (⟨"OneOfEach$Reader", "fail", "(I)V"⟩, 7)) (List.mem_of_getElem? (i := 4) rfl)
theorem wd_282 : Cond.instanceMethod yX8_fail ∈ lw_tbl := mt_3 (List.mem_of_getElem? (i := 102) rfl)
theorem wd_283 : Cond.methodLink RX8 81 yX8_fail ∈ lw_tbl := mt_3 (List.mem_of_getElem? (i := 100) rfl)
theorem wd_284 : Cond.code yX8_token cX8_token 1 (some .int) ∈ lw_tbl := mt_3 (List.mem_of_getElem? (i := 99) rfl)
set_option maxRecDepth 20000 in
theorem hl_wsX11_shop_r9 : ∀ w ∈ wsX11_shop_r9, w ∈ lw_tbl := by
  unfold wsX11_shop_r9
  exact (List.forall_mem_cons.mpr ⟨wd_284, (List.forall_mem_cons.mpr ⟨wd_283, (List.forall_mem_cons.mpr ⟨wd_282, (List.forall_mem_cons.mpr ⟨wd_281, (List.forall_mem_cons.mpr ⟨wd_280, (List.forall_mem_cons.mpr ⟨wd_279, (List.forall_mem_cons.mpr ⟨wd_278, (List.forall_mem_cons.mpr ⟨wd_277, (List.forall_mem_cons.mpr ⟨wd_276, (List.forall_mem_cons.mpr ⟨wd_275, (List.forall_mem_cons.mpr ⟨wd_274, (List.forall_mem_cons.mpr ⟨wd_273, (List.forall_mem_cons.mpr ⟨wd_272, (List.forall_mem_cons.mpr ⟨wd_271, (List.forall_mem_cons.mpr ⟨wd_270, (List.forall_mem_cons.mpr ⟨wd_269, (List.forall_mem_cons.mpr ⟨wd_268, (List.forall_mem_cons.mpr ⟨wd_267, (List.forall_mem_cons.mpr ⟨wd_266, (List.forall_mem_cons.mpr ⟨wd_265, (List.forall_mem_cons.mpr ⟨wd_264, (List.forall_mem_cons.mpr ⟨wd_263, (List.forall_mem_cons.mpr ⟨wd_262, (List.forall_mem_cons.mpr ⟨wd_261, (fun _ h => absurd h List.not_mem_nil)⟩)⟩)⟩)⟩)⟩)⟩)⟩)⟩)⟩)⟩)⟩)⟩)⟩)⟩)⟩)⟩)⟩)⟩)⟩)⟩)⟩)⟩)⟩)⟩)
theorem wd_285 : Cond.code yX8_takeMark cX8_takeMark 4 (some .boolean) ∈ lw_tbl := mt_3 (List.mem_of_getElem? (i := 131) rfl)
theorem wd_286 : Cond.selects RX8 yX8_takeMark yX8_takeMark ∈ lw_tbl := mp_1 (q := (⟨"OneOfEach$Reader", "takeMark", "(I)Z"⟩, 7)) (List.mem_of_getElem? (i := 11) rfl)
theorem wd_287 : Cond.instanceMethod yX8_takeMark ∈ lw_tbl := mt_3 (List.mem_of_getElem? (i := 130) rfl)
theorem wd_288 : Cond.methodLink RX8 147 yX8_takeMark ∈ lw_tbl := mt_3 (List.mem_of_getElem? (i := 128) rfl)
theorem wd_289 : Cond.fieldLink RX8 144 "OneOfEach$Plan" "odds" "[I" ∈ lw_tbl := mt_1 (List.mem_of_getElem? (i := 54) rfl)
theorem wd_290 : Cond.fieldLink RX8 141 "OneOfEach$Plan" "mind" "[I" ∈ lw_tbl := mt_1 (List.mem_of_getElem? (i := 51) rfl)
theorem wd_291 : Cond.fieldLink RX8 138 "OneOfEach$Plan" "purse" "[I" ∈ lw_tbl := mt_1 (List.mem_of_getElem? (i := 47) rfl)
theorem wd_292 : Cond.fieldLink RX8 135 "OneOfEach$Plan" "buyers" "I" ∈ lw_tbl := mt_1 (List.mem_of_getElem? (i := 40) rfl)
theorem wd_293 : Cond.code yX8_buyerLine cX8_buyerLine 4 none ∈ lw_tbl := mt_3 (List.mem_of_getElem? (i := 127) rfl)
theorem wd_294 : Cond.selects RX8 yX8_buyerLine yX8_buyerLine ∈ lw_tbl := mp_1 (q := (⟨"OneOfEach$Reader", "buyerLine", "()V"⟩, 7)) (List.mem_of_getElem? (i := 10) rfl)
theorem wd_295 : Cond.instanceMethod yX8_buyerLine ∈ lw_tbl := mt_3 (List.mem_of_getElem? (i := 126) rfl)
theorem wd_296 : Cond.methodLink RX8 90 yX8_buyerLine ∈ lw_tbl := mt_3 (List.mem_of_getElem? (i := 124) rfl)
theorem wd_297 : Cond.fieldLink RX8 132 "OneOfEach$Stock" "hidden" "I" ∈ lw_tbl := mt_1 (List.mem_of_getElem? (i := 128) rfl)
theorem wd_298 : Cond.fieldLink RX8 129 "OneOfEach$Stock" "sold" "I" ∈ lw_tbl := mt_1 (List.mem_of_getElem? (i := 123) rfl)
theorem wd_299 : Cond.code yX8_takeFlag cX8_takeFlag 3 (some .boolean) ∈ lw_tbl := mt_3 (List.mem_of_getElem? (i := 123) rfl)
theorem wd_300 : Cond.selects RX8 yX8_takeFlag yX8_takeFlag ∈ lw_tbl := mp_1 (q := (⟨"OneOfEach$Reader", "takeFlag", "(I)Z"⟩, 7)) (List.mem_of_getElem? (i := 9) rfl)
theorem wd_301 : Cond.instanceMethod yX8_takeFlag ∈ lw_tbl := mt_3 (List.mem_of_getElem? (i := 122) rfl)
theorem wd_302 : Cond.methodLink RX8 126 yX8_takeFlag ∈ lw_tbl := mt_3 (List.mem_of_getElem? (i := 120) rfl)
theorem wd_303 : Cond.code yX8_numberWithin cX8_numberWithin 4 (some .int) ∈ lw_tbl := mt_3 (List.mem_of_getElem? (i := 119) rfl)
theorem wd_304 : Cond.selects RX8 yX8_numberWithin yX8_numberWithin ∈ lw_tbl := mp_1 (q := (⟨"OneOfEach$Reader", "numberWithin", "(II)I"⟩, 7)) (List.mem_of_getElem? (i := 8) rfl)
theorem wd_305 : Cond.instanceMethod yX8_numberWithin ∈ lw_tbl := mt_3 (List.mem_of_getElem? (i := 118) rfl)
theorem wd_306 : Cond.methodLink RX8 120 yX8_numberWithin ∈ lw_tbl := mt_3 (List.mem_of_getElem? (i := 116) rfl)
theorem wd_307 : Cond.fieldLink RX8 123 "OneOfEach$Stock" "group" "[I" ∈ lw_tbl := mt_1 (List.mem_of_getElem? (i := 118) rfl)
theorem wd_308 : Cond.fieldLink RX8 117 "OneOfEach$Stock" "price" "[I" ∈ lw_tbl := mt_1 (List.mem_of_getElem? (i := 112) rfl)
set_option maxRecDepth 20000 in
theorem hl_wsX11_shop_r10 : ∀ w ∈ wsX11_shop_r10, w ∈ lw_tbl := by
  unfold wsX11_shop_r10
  exact (List.forall_mem_cons.mpr ⟨wd_308, (List.forall_mem_cons.mpr ⟨wd_307, (List.forall_mem_cons.mpr ⟨wd_306, (List.forall_mem_cons.mpr ⟨wd_305, (List.forall_mem_cons.mpr ⟨wd_304, (List.forall_mem_cons.mpr ⟨wd_303, (List.forall_mem_cons.mpr ⟨wd_302, (List.forall_mem_cons.mpr ⟨wd_301, (List.forall_mem_cons.mpr ⟨wd_300, (List.forall_mem_cons.mpr ⟨wd_299, (List.forall_mem_cons.mpr ⟨wd_298, (List.forall_mem_cons.mpr ⟨wd_297, (List.forall_mem_cons.mpr ⟨wd_296, (List.forall_mem_cons.mpr ⟨wd_295, (List.forall_mem_cons.mpr ⟨wd_294, (List.forall_mem_cons.mpr ⟨wd_293, (List.forall_mem_cons.mpr ⟨wd_292, (List.forall_mem_cons.mpr ⟨wd_291, (List.forall_mem_cons.mpr ⟨wd_290, (List.forall_mem_cons.mpr ⟨wd_289, (List.forall_mem_cons.mpr ⟨wd_288, (List.forall_mem_cons.mpr ⟨wd_287, (List.forall_mem_cons.mpr ⟨wd_286, (List.forall_mem_cons.mpr ⟨wd_285, (fun _ h => absurd h List.not_mem_nil)⟩)⟩)⟩)⟩)⟩)⟩)⟩)⟩)⟩)⟩)⟩)⟩)⟩)⟩)⟩)⟩)⟩)⟩)⟩)⟩)⟩)⟩)⟩)⟩)
theorem wd_309 : Cond.selects RX8 yX8_truth yX8_truth ∈ lw_tbl := mp_2 (q := (⟨"OneOfEach$Reader", "truth", "(I)V"⟩, 7)) (List.mem_of_getElem? (i := 1) rfl)
theorem wd_310 : Cond.instanceMethod yX8_truth ∈ lw_tbl := mt_3 (List.mem_of_getElem? (i := 154) rfl)
theorem wd_311 : Cond.methodLink RX8 108 yX8_truth ∈ lw_tbl := mt_3 (List.mem_of_getElem? (i := 152) rfl)
theorem wd_312 : Cond.selects RX8 yX8_atom yX8_atom ∈ lw_tbl := mp_1 (q := (⟨"OneOfEach$Reader", "atom", "(I)V"⟩, 7)) (List.mem_of_getElem? (i := 14) rfl)
theorem wd_313 : Cond.instanceMethod yX8_atom ∈ lw_tbl := mt_3 (List.mem_of_getElem? (i := 142) rfl)
theorem wd_314 : Cond.methodLink RX8 168 yX8_atom ∈ lw_tbl := mt_3 (List.mem_of_getElem? (i := 140) rfl)
theorem wd_315 : Cond.code yX8_term cX8_term 3 none ∈ lw_tbl := mt_3 (List.mem_of_getElem? (i := 139) rfl)
theorem wd_316 : Cond.code yX8_goDeeper cX8_goDeeper 2 none ∈ lw_tbl := mt_3 (List.mem_of_getElem? (i := 151) rfl)
theorem wd_317 : Cond.selects RX8 yX8_goDeeper yX8_goDeeper ∈ lw_tbl := mp_2 (q := (⟨"OneOfEach$Reader", "goDeeper", "(I)V"⟩, 7)) (List.mem_of_getElem? (i := 0) rfl)
theorem wd_318 : Cond.instanceMethod yX8_goDeeper ∈ lw_tbl := mt_3 (List.mem_of_getElem? (i := 150) rfl)
theorem wd_319 : Cond.methodLink RX8 162 yX8_goDeeper ∈ lw_tbl := mt_3 (List.mem_of_getElem? (i := 148) rfl)
theorem wd_320 : Cond.code yX8_atom cX8_atom 3 none ∈ lw_tbl := mt_3 (List.mem_of_getElem? (i := 143) rfl)
theorem wd_321 : Cond.fieldLink RX8 150 "OneOfEach$Plan" "code" "[I" ∈ lw_tbl := mt_1 (List.mem_of_getElem? (i := 58) rfl)
theorem wd_322 : Cond.code yX8_emit cX8_emit 2 none ∈ lw_tbl := mt_3 (List.mem_of_getElem? (i := 147) rfl)
theorem wd_323 : Cond.selects RX8 yX8_emit yX8_emit ∈ lw_tbl := mp_1 (q := (⟨"OneOfEach$Reader", "emit", "(I)V"⟩, 7)) (List.mem_of_getElem? (i := 15) rfl)
theorem wd_324 : Cond.instanceMethod yX8_emit ∈ lw_tbl := mt_3 (List.mem_of_getElem? (i := 146) rfl)
theorem wd_325 : Cond.methodLink RX8 156 yX8_emit ∈ lw_tbl := mt_3 (List.mem_of_getElem? (i := 144) rfl)
theorem wd_326 : Cond.selects RX8 yX8_term yX8_term ∈ lw_tbl := mp_1 (q := (⟨"OneOfEach$Reader", "term", "(I)V"⟩, 7)) (List.mem_of_getElem? (i := 13) rfl)
theorem wd_327 : Cond.instanceMethod yX8_term ∈ lw_tbl := mt_3 (List.mem_of_getElem? (i := 138) rfl)
theorem wd_328 : Cond.methodLink RX8 165 yX8_term ∈ lw_tbl := mt_3 (List.mem_of_getElem? (i := 136) rfl)
theorem wd_329 : Cond.code yX8_sum cX8_sum 4 none ∈ lw_tbl := mt_3 (List.mem_of_getElem? (i := 135) rfl)
theorem wd_330 : Cond.selects RX8 yX8_sum yX8_sum ∈ lw_tbl := mp_1 (q := (⟨"OneOfEach$Reader", "sum", "(I)V"⟩, 7)) (List.mem_of_getElem? (i := 12) rfl)
theorem wd_331 : Cond.instanceMethod yX8_sum ∈ lw_tbl := mt_3 (List.mem_of_getElem? (i := 134) rfl)
theorem wd_332 : Cond.methodLink RX8 99 yX8_sum ∈ lw_tbl := mt_3 (List.mem_of_getElem? (i := 132) rfl)
set_option maxRecDepth 20000 in
theorem hl_wsX11_shop_r11 : ∀ w ∈ wsX11_shop_r11, w ∈ lw_tbl := by
  unfold wsX11_shop_r11
  exact (List.forall_mem_cons.mpr ⟨wd_332, (List.forall_mem_cons.mpr ⟨wd_331, (List.forall_mem_cons.mpr ⟨wd_330, (List.forall_mem_cons.mpr ⟨wd_329, (List.forall_mem_cons.mpr ⟨wd_328, (List.forall_mem_cons.mpr ⟨wd_327, (List.forall_mem_cons.mpr ⟨wd_326, (List.forall_mem_cons.mpr ⟨wd_325, (List.forall_mem_cons.mpr ⟨wd_324, (List.forall_mem_cons.mpr ⟨wd_323, (List.forall_mem_cons.mpr ⟨wd_322, (List.forall_mem_cons.mpr ⟨wd_321, (List.forall_mem_cons.mpr ⟨wd_320, (List.forall_mem_cons.mpr ⟨wd_319, (List.forall_mem_cons.mpr ⟨wd_318, (List.forall_mem_cons.mpr ⟨wd_317, (List.forall_mem_cons.mpr ⟨wd_316, (List.forall_mem_cons.mpr ⟨wd_315, (List.forall_mem_cons.mpr ⟨wd_314, (List.forall_mem_cons.mpr ⟨wd_313, (List.forall_mem_cons.mpr ⟨wd_312, (List.forall_mem_cons.mpr ⟨wd_311, (List.forall_mem_cons.mpr ⟨wd_310, (List.forall_mem_cons.mpr ⟨wd_309, (fun _ h => absurd h List.not_mem_nil)⟩)⟩)⟩)⟩)⟩)⟩)⟩)⟩)⟩)⟩)⟩)⟩)⟩)⟩)⟩)⟩)⟩)⟩)⟩)⟩)⟩)⟩)⟩)⟩)
theorem wd_333 : Cond.instanceMethod yX6_clear ∈ lw_tbl := mt_3 (List.mem_of_getElem? (i := 173) rfl)
theorem wd_334 : Cond.methodLink RX11 134 yX6_clear ∈ lw_tbl := mt_3 (List.mem_of_getElem? (i := 172) rfl)
theorem wd_335 : Cond.fieldLink RX11 76 "OneOfEach" "minds" "LOneOfEach$Minds;" ∈ lw_tbl := mt_2 (List.mem_of_getElem? (i := 137) rfl)
theorem wd_336 : Cond.fieldLink RX11 46 "OneOfEach" "past" "LOneOfEach$Past;" ∈ lw_tbl := mt_2 (List.mem_of_getElem? (i := 133) rfl)
theorem wd_337 : Cond.code yX11_beginAnew cX11_beginAnew 1 none ∈ lw_tbl := mt_3 (List.mem_of_getElem? (i := 171) rfl)
theorem wd_338 : Cond.selects RX11 yX11_beginAnew yX11_beginAnew ∈ lw_tbl := mp_2 (q := (⟨"OneOfEach", "beginAnew", "()V"⟩, 16)) (List.mem_of_getElem? (i := 4) rfl)
theorem wd_339 : Cond.instanceMethod yX11_beginAnew ∈ lw_tbl := mt_3 (List.mem_of_getElem? (i := 170) rfl)
theorem wd_340 : Cond.methodLink RX11 128 yX11_beginAnew ∈ lw_tbl := mt_3 (List.mem_of_getElem? (i := 168) rfl)
theorem wd_341 : Cond.fieldLink RX9 19 "OneOfEach$Stock" "group" "[I" ∈ lw_tbl := mt_1 (List.mem_of_getElem? (i := 114) rfl)
theorem wd_342 : Cond.fieldLink RX9 15 "OneOfEach$Stock" "price" "[I" ∈ lw_tbl := mt_1 (List.mem_of_getElem? (i := 108) rfl)
theorem wd_343 : Cond.code yX9_copyFrom cX9_copyFrom 3 none ∈ lw_tbl := mt_3 (List.mem_of_getElem? (i := 167) rfl)
theorem wd_344 : Cond.selects RX9 yX9_copyFrom yX9_copyFrom ∈ lw_tbl := mt_3 (List.mem_of_getElem? (i := 166) rfl)
theorem wd_345 : Cond.instanceMethod yX9_copyFrom ∈ lw_tbl := mt_3 (List.mem_of_getElem? (i := 165) rfl)
theorem wd_346 : Cond.methodLink RX11 124 yX9_copyFrom ∈ lw_tbl := mt_3 (List.mem_of_getElem? (i := 164) rfl)
theorem wd_347 : Cond.code yX8_unit cX8_unit 4 none ∈ lw_tbl := mt_3 (List.mem_of_getElem? (i := 163) rfl)
theorem wd_348 : Cond.selects RX8 yX8_unit yX8_unit ∈ lw_tbl := mp_2 (q := (⟨"OneOfEach$Reader", "unit", "(I)V"⟩, 7)) (List.mem_of_getElem? (i := 3) rfl)
theorem wd_349 : Cond.instanceMethod yX8_unit ∈ lw_tbl := mt_3 (List.mem_of_getElem? (i := 162) rfl)
theorem wd_350 : Cond.methodLink RX8 159 yX8_unit ∈ lw_tbl := mt_3 (List.mem_of_getElem? (i := 160) rfl)
theorem wd_351 : Cond.code yX8_both cX8_both 3 none ∈ lw_tbl := mt_3 (List.mem_of_getElem? (i := 159) rfl)
theorem wd_352 : Cond.selects RX8 yX8_both yX8_both ∈ lw_tbl := mp_2 (q := (⟨"OneOfEach$Reader", "both", "(I)V"⟩, 7)) (List.mem_of_getElem? (i := 2) rfl)
theorem wd_353 : Cond.instanceMethod yX8_both ∈ lw_tbl := mt_3 (List.mem_of_getElem? (i := 158) rfl)
theorem wd_354 : Cond.methodLink RX8 153 yX8_both ∈ lw_tbl := mt_3 (List.mem_of_getElem? (i := 156) rfl)
theorem wd_355 : Cond.code yX8_truth cX8_truth 3 none ∈ lw_tbl := mt_3 (List.mem_of_getElem? (i := 155) rfl)
set_option maxRecDepth 20000 in
theorem hl_wsX11_shop_r12 : ∀ w ∈ wsX11_shop_r12, w ∈ lw_tbl := by
  unfold wsX11_shop_r12
  exact (List.forall_mem_cons.mpr ⟨wd_355, (List.forall_mem_cons.mpr ⟨wd_354, (List.forall_mem_cons.mpr ⟨wd_353, (List.forall_mem_cons.mpr ⟨wd_352, (List.forall_mem_cons.mpr ⟨wd_351, (List.forall_mem_cons.mpr ⟨wd_350, (List.forall_mem_cons.mpr ⟨wd_349, (List.forall_mem_cons.mpr ⟨wd_348, (List.forall_mem_cons.mpr ⟨wd_347, (List.forall_mem_cons.mpr ⟨wd_346, (List.forall_mem_cons.mpr ⟨wd_345, (List.forall_mem_cons.mpr ⟨wd_344, (List.forall_mem_cons.mpr ⟨wd_343, (List.forall_mem_cons.mpr ⟨wd_342, (List.forall_mem_cons.mpr ⟨wd_341, (List.forall_mem_cons.mpr ⟨wd_340, (List.forall_mem_cons.mpr ⟨wd_339, (List.forall_mem_cons.mpr ⟨wd_338, (List.forall_mem_cons.mpr ⟨wd_0, (List.forall_mem_cons.mpr ⟨wd_337, (List.forall_mem_cons.mpr ⟨wd_336, (List.forall_mem_cons.mpr ⟨wd_335, (List.forall_mem_cons.mpr ⟨wd_334, (List.forall_mem_cons.mpr ⟨wd_333, (fun _ h => absurd h List.not_mem_nil)⟩)⟩)⟩)⟩)⟩)⟩)⟩)⟩)⟩)⟩)⟩)⟩)⟩)⟩)⟩)⟩)⟩)⟩)⟩)⟩)⟩)⟩)⟩)⟩)
theorem wd_356 : Cond.code yJ7_fill_53178 cJ7_fill_53178 4 none ∈ lw_tbl := mt_3 (List.mem_of_getElem? (i := 182) rfl)
theorem wd_357 : Cond.initialized RJ7 ∈ lw_tbl := mt_1 (List.mem_of_getElem? (i := 20) rfl)
theorem wd_358 : Cond.static yJ7_fill_53178 ∈ lw_tbl := mt_3 (List.mem_of_getElem? (i := 181) rfl)
theorem wd_359 : Cond.methodLink RX4 37 yJ7_fill_53178 ∈ lw_tbl := mt_3 (List.mem_of_getElem? (i := 180) rfl)
theorem wd_360 : Cond.fieldLink RX4 15 "OneOfEach$Minds" "price" "[I" ∈ lw_tbl := mt_1 (List.mem_of_getElem? (i := 220) rfl)
theorem wd_361 : Cond.code yX4_forget cX4_forget 1 none ∈ lw_tbl := mt_3 (List.mem_of_getElem? (i := 179) rfl)
theorem wd_362 : Cond.initialized RX4 ∈ lw_tbl := mt_1 (List.mem_of_getElem? (i := 6) rfl)
theorem wd_363 : Cond.selects RX4 yX4_forget yX4_forget ∈ lw_tbl := mt_3 (List.mem_of_getElem? (i := 178) rfl)
theorem wd_364 : Cond.instanceMethod yX4_forget ∈ lw_tbl := mt_3 (List.mem_of_getElem? (i := 177) rfl)
theorem wd_365 : Cond.methodLink RX11 137 yX4_forget ∈ lw_tbl := mt_3 (List.mem_of_getElem? (i := 176) rfl)
theorem wd_366 : Cond.fieldLink RX6 21 "OneOfEach$Past" "size" "I" ∈ lw_tbl := mt_1 (List.mem_of_getElem? (i := 170) rfl)
theorem wd_367 : Cond.code yX6_clear cX6_clear 1 none ∈ lw_tbl := mt_3 (List.mem_of_getElem? (i := 175) rfl)
theorem wd_368 : Cond.initialized RX6 ∈ lw_tbl := mt_1 (List.mem_of_getElem? (i := 4) rfl)
theorem wd_369 : Cond.selects RX6 yX6_clear yX6_clear ∈ lw_tbl := mt_3 (List.mem_of_getElem? (i := 174) rfl)
set_option maxRecDepth 20000 in
theorem hl_wsX11_shop_r13 : ∀ w ∈ wsX11_shop_r13, w ∈ lw_tbl := by
  unfold wsX11_shop_r13
  exact (List.forall_mem_cons.mpr ⟨wd_369, (List.forall_mem_cons.mpr ⟨wd_368, (List.forall_mem_cons.mpr ⟨wd_367, (List.forall_mem_cons.mpr ⟨wd_366, (List.forall_mem_cons.mpr ⟨wd_365, (List.forall_mem_cons.mpr ⟨wd_364, (List.forall_mem_cons.mpr ⟨wd_363, (List.forall_mem_cons.mpr ⟨wd_362, (List.forall_mem_cons.mpr ⟨wd_361, (List.forall_mem_cons.mpr ⟨wd_360, (List.forall_mem_cons.mpr ⟨wd_359, (List.forall_mem_cons.mpr ⟨wd_358, (List.forall_mem_cons.mpr ⟨wd_357, (List.forall_mem_cons.mpr ⟨wd_356, (fun _ h => absurd h List.not_mem_nil)⟩)⟩)⟩)⟩)⟩)⟩)⟩)⟩)⟩)⟩)⟩)⟩)⟩)⟩)
theorem wd_370 : u_lay RX8 TX8 6 ∈ lw_tbl := mt_1 (List.mem_of_getElem? (i := 210) rfl)
theorem wd_371 : u_lay RX8 TX8 5 ∈ lw_tbl := mt_1 (List.mem_of_getElem? (i := 208) rfl)
theorem wd_372 : u_lay RX8 TX8 4 ∈ lw_tbl := mt_1 (List.mem_of_getElem? (i := 206) rfl)
theorem wd_373 : u_lay RX8 TX8 3 ∈ lw_tbl := mt_1 (List.mem_of_getElem? (i := 204) rfl)
theorem wd_374 : u_lay RX8 TX8 2 ∈ lw_tbl := mt_1 (List.mem_of_getElem? (i := 202) rfl)
theorem wd_375 : u_lay RX8 TX8 1 ∈ lw_tbl := mt_1 (List.mem_of_getElem? (i := 200) rfl)
theorem wd_376 : u_lay RX8 TX8 0 ∈ lw_tbl := mt_1 (List.mem_of_getElem? (i := 198) rfl)
set_option maxRecDepth 20000 in
theorem hl_wsX80 : ∀ w ∈ wsX80, w ∈ lw_tbl := show ∀ w ∈ [u_lay RX8 TX8 0, u_lay RX8 TX8 1, u_lay RX8 TX8 2, u_lay RX8 TX8 3, u_lay RX8 TX8 4, u_lay RX8 TX8 5, u_lay RX8 TX8 6], w ∈ lw_tbl from (List.forall_mem_cons.mpr ⟨wd_376, (List.forall_mem_cons.mpr ⟨wd_375, (List.forall_mem_cons.mpr ⟨wd_374, (List.forall_mem_cons.mpr ⟨wd_373, (List.forall_mem_cons.mpr ⟨wd_372, (List.forall_mem_cons.mpr ⟨wd_371, (List.forall_mem_cons.mpr ⟨wd_370, (fun _ h => absurd h List.not_mem_nil)⟩)⟩)⟩)⟩)⟩)⟩)⟩)
theorem wd_377 : u_lay RX9 TX9 8 ∈ lw_tbl := mt_1 (List.mem_of_getElem? (i := 156) rfl)
theorem wd_378 : u_lay RX9 TX9 7 ∈ lw_tbl := mt_1 (List.mem_of_getElem? (i := 154) rfl)
theorem wd_379 : u_lay RX9 TX9 6 ∈ lw_tbl := mt_1 (List.mem_of_getElem? (i := 152) rfl)
theorem wd_380 : u_lay RX9 TX9 5 ∈ lw_tbl := mt_1 (List.mem_of_getElem? (i := 150) rfl)
theorem wd_381 : u_lay RX9 TX9 4 ∈ lw_tbl := mt_1 (List.mem_of_getElem? (i := 148) rfl)
theorem wd_382 : u_lay RX9 TX9 3 ∈ lw_tbl := mt_1 (List.mem_of_getElem? (i := 146) rfl)
theorem wd_383 : u_lay RX9 TX9 2 ∈ lw_tbl := mt_1 (List.mem_of_getElem? (i := 144) rfl)
theorem wd_384 : u_lay RX9 TX9 1 ∈ lw_tbl := mt_1 (List.mem_of_getElem? (i := 142) rfl)
theorem wd_385 : u_lay RX9 TX9 0 ∈ lw_tbl := mt_1 (List.mem_of_getElem? (i := 140) rfl)
set_option maxRecDepth 20000 in
theorem hl_wsX90 : ∀ w ∈ wsX90, w ∈ lw_tbl := show ∀ w ∈ [u_lay RX9 TX9 0, u_lay RX9 TX9 1, u_lay RX9 TX9 2, u_lay RX9 TX9 3, u_lay RX9 TX9 4, u_lay RX9 TX9 5, u_lay RX9 TX9 6, u_lay RX9 TX9 7, u_lay RX9 TX9 8], w ∈ lw_tbl from (List.forall_mem_cons.mpr ⟨wd_385, (List.forall_mem_cons.mpr ⟨wd_384, (List.forall_mem_cons.mpr ⟨wd_383, (List.forall_mem_cons.mpr ⟨wd_382, (List.forall_mem_cons.mpr ⟨wd_381, (List.forall_mem_cons.mpr ⟨wd_380, (List.forall_mem_cons.mpr ⟨wd_379, (List.forall_mem_cons.mpr ⟨wd_378, (List.forall_mem_cons.mpr ⟨wd_377, (fun _ h => absurd h List.not_mem_nil)⟩)⟩)⟩)⟩)⟩)⟩)⟩)⟩)⟩)
theorem wd_386 : u_lay RX7 TX7 10 ∈ lw_tbl := mt_1 (List.mem_of_getElem? (i := 93) rfl)
theorem wd_387 : u_lay RX7 TX7 9 ∈ lw_tbl := mt_1 (List.mem_of_getElem? (i := 91) rfl)
theorem wd_388 : u_lay RX7 TX7 8 ∈ lw_tbl := mt_1 (List.mem_of_getElem? (i := 89) rfl)
theorem wd_389 : u_lay RX7 TX7 7 ∈ lw_tbl := mt_1 (List.mem_of_getElem? (i := 87) rfl)
theorem wd_390 : u_lay RX7 TX7 6 ∈ lw_tbl := mt_1 (List.mem_of_getElem? (i := 85) rfl)
theorem wd_391 : u_lay RX7 TX7 5 ∈ lw_tbl := mt_1 (List.mem_of_getElem? (i := 83) rfl)
theorem wd_392 : u_lay RX7 TX7 4 ∈ lw_tbl := mt_1 (List.mem_of_getElem? (i := 81) rfl)
theorem wd_393 : u_lay RX7 TX7 3 ∈ lw_tbl := mt_1 (List.mem_of_getElem? (i := 79) rfl)
theorem wd_394 : u_lay RX7 TX7 2 ∈ lw_tbl := mt_1 (List.mem_of_getElem? (i := 77) rfl)
theorem wd_395 : u_lay RX7 TX7 1 ∈ lw_tbl := mt_1 (List.mem_of_getElem? (i := 75) rfl)
theorem wd_396 : u_lay RX7 TX7 0 ∈ lw_tbl := mt_1 (List.mem_of_getElem? (i := 73) rfl)
set_option maxRecDepth 20000 in
theorem hl_wsX70 : ∀ w ∈ wsX70, w ∈ lw_tbl := show ∀ w ∈ [u_lay RX7 TX7 0, u_lay RX7 TX7 1, u_lay RX7 TX7 2, u_lay RX7 TX7 3, u_lay RX7 TX7 4, u_lay RX7 TX7 5, u_lay RX7 TX7 6, u_lay RX7 TX7 7, u_lay RX7 TX7 8, u_lay RX7 TX7 9, u_lay RX7 TX7 10], w ∈ lw_tbl from (List.forall_mem_cons.mpr ⟨wd_396, (List.forall_mem_cons.mpr ⟨wd_395, (List.forall_mem_cons.mpr ⟨wd_394, (List.forall_mem_cons.mpr ⟨wd_393, (List.forall_mem_cons.mpr ⟨wd_392, (List.forall_mem_cons.mpr ⟨wd_391, (List.forall_mem_cons.mpr ⟨wd_390, (List.forall_mem_cons.mpr ⟨wd_389, (List.forall_mem_cons.mpr ⟨wd_388, (List.forall_mem_cons.mpr ⟨wd_387, (List.forall_mem_cons.mpr ⟨wd_386, (fun _ h => absurd h List.not_mem_nil)⟩)⟩)⟩)⟩)⟩)⟩)⟩)⟩)⟩)⟩)⟩)
theorem wd_397 : u_lay RX6 TX6 2 ∈ lw_tbl := mt_1 (List.mem_of_getElem? (i := 176) rfl)
theorem wd_398 : u_lay RX6 TX6 1 ∈ lw_tbl := mt_1 (List.mem_of_getElem? (i := 174) rfl)
theorem wd_399 : u_lay RX6 TX6 0 ∈ lw_tbl := mt_1 (List.mem_of_getElem? (i := 172) rfl)
set_option maxRecDepth 20000 in
theorem hl_wsX60 : ∀ w ∈ wsX60, w ∈ lw_tbl := show ∀ w ∈ [u_lay RX6 TX6 0, u_lay RX6 TX6 1, u_lay RX6 TX6 2], w ∈ lw_tbl from (List.forall_mem_cons.mpr ⟨wd_399, (List.forall_mem_cons.mpr ⟨wd_398, (List.forall_mem_cons.mpr ⟨wd_397, (fun _ h => absurd h List.not_mem_nil)⟩)⟩)⟩)
theorem wd_400 : u_lay RX4 TX4 6 ∈ lw_tbl := mt_1 (List.mem_of_getElem? (i := 238) rfl)
theorem wd_401 : u_lay RX4 TX4 5 ∈ lw_tbl := mt_1 (List.mem_of_getElem? (i := 236) rfl)
theorem wd_402 : u_lay RX4 TX4 4 ∈ lw_tbl := mt_1 (List.mem_of_getElem? (i := 234) rfl)
theorem wd_403 : u_lay RX4 TX4 3 ∈ lw_tbl := mt_1 (List.mem_of_getElem? (i := 232) rfl)
theorem wd_404 : u_lay RX4 TX4 2 ∈ lw_tbl := mt_1 (List.mem_of_getElem? (i := 230) rfl)
theorem wd_405 : u_lay RX4 TX4 1 ∈ lw_tbl := mt_1 (List.mem_of_getElem? (i := 228) rfl)
theorem wd_406 : u_lay RX4 TX4 0 ∈ lw_tbl := mt_1 (List.mem_of_getElem? (i := 226) rfl)
set_option maxRecDepth 20000 in
theorem hl_wsX40 : ∀ w ∈ wsX40, w ∈ lw_tbl := show ∀ w ∈ [u_lay RX4 TX4 0, u_lay RX4 TX4 1, u_lay RX4 TX4 2, u_lay RX4 TX4 3, u_lay RX4 TX4 4, u_lay RX4 TX4 5, u_lay RX4 TX4 6], w ∈ lw_tbl from (List.forall_mem_cons.mpr ⟨wd_406, (List.forall_mem_cons.mpr ⟨wd_405, (List.forall_mem_cons.mpr ⟨wd_404, (List.forall_mem_cons.mpr ⟨wd_403, (List.forall_mem_cons.mpr ⟨wd_402, (List.forall_mem_cons.mpr ⟨wd_401, (List.forall_mem_cons.mpr ⟨wd_400, (fun _ h => absurd h List.not_mem_nil)⟩)⟩)⟩)⟩)⟩)⟩)⟩)
set_option maxRecDepth 20000 in
theorem hl_wsX11_shop : ∀ w ∈ wsX11_shop, w ∈ lw_tbl := by
  unfold wsX11_shop
  exact (List.forall_mem_cons.mpr ⟨wd_70, (List.forall_mem_append.mpr ⟨(List.forall_mem_append.mpr ⟨(List.forall_mem_append.mpr ⟨(List.forall_mem_append.mpr ⟨(List.forall_mem_append.mpr ⟨(List.forall_mem_append.mpr ⟨(List.forall_mem_append.mpr ⟨hl_wsX11_shop_r1, (List.forall_mem_append.mpr ⟨hl_wsX11_shop_r2, (List.forall_mem_append.mpr ⟨hl_wsX11_shop_r3, (List.forall_mem_append.mpr ⟨hl_wsX11_shop_r4, (List.forall_mem_append.mpr ⟨hl_wsX11_shop_r5, (List.forall_mem_append.mpr ⟨hl_wsX11_shop_r6, (List.forall_mem_append.mpr ⟨hl_wsX11_shop_r7, (List.forall_mem_append.mpr ⟨hl_wsX11_shop_r8, (List.forall_mem_append.mpr ⟨hl_wsX11_shop_r9, (List.forall_mem_append.mpr ⟨hl_wsX11_shop_r10, (List.forall_mem_append.mpr ⟨hl_wsX11_shop_r11, (List.forall_mem_append.mpr ⟨hl_wsX11_shop_r12, hl_wsX11_shop_r13⟩)⟩)⟩)⟩)⟩)⟩)⟩)⟩)⟩)⟩)⟩)⟩), hl_wsX110⟩), hl_wsX80⟩), hl_wsX90⟩), hl_wsX70⟩), hl_wsX60⟩), hl_wsX40⟩)⟩)
theorem wd_407 : Cond.selects RX12 yX12_shop yX12_shop ∈ lw_tbl := mt_6 (List.mem_of_getElem? (i := 132) rfl)
theorem wd_408 : Cond.instanceMethod yX12_shop ∈ lw_tbl := mt_6 (List.mem_of_getElem? (i := 131) rfl)
theorem wd_409 : Cond.methodLink RL 22 yX12_shop ∈ lw_tbl := mt_6 (List.mem_of_getElem? (i := 130) rfl)
theorem wd_410 : Cond.code yX12_shop cX12_shop 3 (some .int) ∈ lw_tbl := mt_6 (List.mem_of_getElem? (i := 133) rfl)
theorem wd_411 : Cond.fieldLink RX12 121 "OneOfEachModel" "number" "I" ∈ lw_tbl := mt_6 (List.mem_of_getElem? (i := 38) rfl)
theorem wd_412 : Cond.fieldLink RX12 98 "OneOfEachModel" "at" "I" ∈ lw_tbl := mt_6 (List.mem_of_getElem? (i := 34) rfl)
theorem wd_413 : Cond.code yX12_next cX12_next 2 none ∈ lw_tbl := mt_6 (List.mem_of_getElem? (i := 140) rfl)
theorem wd_414 : Cond.selects RX12 yX12_next yX12_next ∈ lw_tbl := mp_4 (q := (⟨"OneOfEachModel", "next", "()V"⟩, 32)) (List.mem_of_getElem? (i := 0) rfl)
theorem wd_415 : Cond.instanceMethod yX12_next ∈ lw_tbl := mt_6 (List.mem_of_getElem? (i := 139) rfl)
theorem wd_416 : Cond.methodLink RX12 135 yX12_next ∈ lw_tbl := mt_6 (List.mem_of_getElem? (i := 137) rfl)
theorem wd_417 : Cond.code yX12_plain cX12_plain 2 none ∈ lw_tbl := mt_6 (List.mem_of_getElem? (i := 27) rfl)
theorem wd_418 : Cond.static yX12_plain ∈ lw_tbl := mt_6 (List.mem_of_getElem? (i := 26) rfl)
theorem wd_419 : Cond.methodLink RX12 76 yX12_plain ∈ lw_tbl := mt_6 (List.mem_of_getElem? (i := 25) rfl)
theorem wd_420 : Cond.code yX12_within cX12_within 6 (some .boolean) ∈ lw_tbl := mt_6 (List.mem_of_getElem? (i := 136) rfl)
theorem wd_421 : Cond.static yX12_within ∈ lw_tbl := mt_6 (List.mem_of_getElem? (i := 135) rfl)
theorem wd_422 : Cond.methodLink RX12 142 yX12_within ∈ lw_tbl := mt_6 (List.mem_of_getElem? (i := 134) rfl)
theorem wd_423 : Cond.fieldLink RX12 13 "OneOfEachModel" "all" "[I" ∈ lw_tbl := mt_6 (List.mem_of_getElem? (i := 29) rfl)
theorem wd_424 : Cond.fieldLink RX12 27 "OneOfEachModel" "faultPlace" "I" ∈ lw_tbl := mt_6 (List.mem_of_getElem? (i := 42) rfl)
theorem wd_425 : Cond.fieldLink RX12 129 "OneOfEachModel" "wrongAt" "I" ∈ lw_tbl := mt_6 (List.mem_of_getElem? (i := 40) rfl)
theorem wd_426 : Cond.fieldLink RX12 201 "OneOfEachModel" "faultKind" "I" ∈ lw_tbl := mt_6 (List.mem_of_getElem? (i := 41) rfl)
theorem wd_427 : Cond.fieldLink RX12 108 "OneOfEachModel" "kind" "I" ∈ lw_tbl := mt_6 (List.mem_of_getElem? (i := 37) rfl)
theorem wd_428 : Cond.fieldLink RX12 24 "OneOfEachModel" "fresh" "[I" ∈ lw_tbl := mt_6 (List.mem_of_getElem? (i := 32) rfl)
theorem wd_429 : Cond.fieldLink RX12 126 "OneOfEachModel" "wrong" "I" ∈ lw_tbl := mt_6 (List.mem_of_getElem? (i := 39) rfl)
theorem wd_430 : Cond.fieldLink RX12 101 "OneOfEachModel" "behind" "I" ∈ lw_tbl := mt_6 (List.mem_of_getElem? (i := 35) rfl)
theorem wd_431 : Cond.fieldLink RX12 83 "OneOfEachModel" "size" "I" ∈ lw_tbl := mt_6 (List.mem_of_getElem? (i := 36) rfl)
set_option maxRecDepth 20000 in
theorem hl_wsX12_shop_r1 : ∀ w ∈ wsX12_shop_r1, w ∈ lw_tbl := by
  unfold wsX12_shop_r1
  exact (List.forall_mem_cons.mpr ⟨wd_34, (List.forall_mem_cons.mpr ⟨wd_33, (List.forall_mem_cons.mpr ⟨wd_431, (List.forall_mem_cons.mpr ⟨wd_430, (List.forall_mem_cons.mpr ⟨wd_429, (List.forall_mem_cons.mpr ⟨wd_428, (List.forall_mem_cons.mpr ⟨wd_427, (List.forall_mem_cons.mpr ⟨wd_426, (List.forall_mem_cons.mpr ⟨wd_425, (List.forall_mem_cons.mpr ⟨wd_424, (List.forall_mem_cons.mpr ⟨wd_423, (List.forall_mem_cons.mpr ⟨wd_422, (List.forall_mem_cons.mpr ⟨wd_421, (List.forall_mem_cons.mpr ⟨wd_27, (List.forall_mem_cons.mpr ⟨wd_420, (List.forall_mem_cons.mpr ⟨wd_419, (List.forall_mem_cons.mpr ⟨wd_418, (List.forall_mem_cons.mpr ⟨wd_417, (List.forall_mem_cons.mpr ⟨wd_416, (List.forall_mem_cons.mpr ⟨wd_415, (List.forall_mem_cons.mpr ⟨wd_414, (List.forall_mem_cons.mpr ⟨wd_413, (List.forall_mem_cons.mpr ⟨wd_412, (List.forall_mem_cons.mpr ⟨wd_411, (fun _ h => absurd h List.not_mem_nil)⟩)⟩)⟩)⟩)⟩)⟩)⟩)⟩)⟩)⟩)⟩)⟩)⟩)⟩)⟩)⟩)⟩)⟩)⟩)⟩)⟩)⟩)⟩)⟩)
theorem wd_432 : Cond.methodLink RX12 88 yJ0_length_8abf5 ∈ lw_tbl := mt_6 (List.mem_of_getElem? (i := 153) rfl)
theorem wd_433 : Cond.code yX12_keyAt cX12_keyAt 4 (some .int) ∈ lw_tbl := mt_6 (List.mem_of_getElem? (i := 151) rfl)
theorem wd_434 : Cond.selects RX12 yX12_keyAt yX12_keyAt ∈ lw_tbl := mp_4 (q := (⟨"OneOfEachModel", "keyAt", "()I"⟩, 32)) (List.mem_of_getElem? (i := 2) rfl)
theorem wd_435 : Cond.instanceMethod yX12_keyAt ∈ lw_tbl := mt_6 (List.mem_of_getElem? (i := 150) rfl)
theorem wd_436 : Cond.methodLink RX12 115 yX12_keyAt ∈ lw_tbl := mt_6 (List.mem_of_getElem? (i := 148) rfl)
theorem wd_437 : Cond.code yX12_isSmall cX12_isSmall 1 (some .boolean) ∈ lw_tbl := mt_6 (List.mem_of_getElem? (i := 147) rfl)
theorem wd_438 : Cond.static yX12_isSmall ∈ lw_tbl := mt_6 (List.mem_of_getElem? (i := 146) rfl)
theorem wd_439 : Cond.methodLink RX12 111 yX12_isSmall ∈ lw_tbl := mt_6 (List.mem_of_getElem? (i := 145) rfl)
theorem wd_440 : Cond.code yX12_see cX12_see 2 (some .int) ∈ lw_tbl := mt_6 (List.mem_of_getElem? (i := 144) rfl)
theorem wd_441 : Cond.selects RX12 yX12_see yX12_see ∈ lw_tbl := mp_4 (q := (⟨"OneOfEachModel", "see", "(I)I"⟩, 32)) (List.mem_of_getElem? (i := 1) rfl)
theorem wd_442 : Cond.instanceMethod yX12_see ∈ lw_tbl := mt_6 (List.mem_of_getElem? (i := 143) rfl)
theorem wd_443 : Cond.methodLink RX12 104 yX12_see ∈ lw_tbl := mt_6 (List.mem_of_getElem? (i := 141) rfl)
set_option maxRecDepth 20000 in
theorem hl_wsX12_shop_r2 : ∀ w ∈ wsX12_shop_r2, w ∈ lw_tbl := by
  unfold wsX12_shop_r2
  exact (List.forall_mem_cons.mpr ⟨wd_443, (List.forall_mem_cons.mpr ⟨wd_442, (List.forall_mem_cons.mpr ⟨wd_441, (List.forall_mem_cons.mpr ⟨wd_440, (List.forall_mem_cons.mpr ⟨wd_32, (List.forall_mem_cons.mpr ⟨wd_439, (List.forall_mem_cons.mpr ⟨wd_438, (List.forall_mem_cons.mpr ⟨wd_437, (List.forall_mem_cons.mpr ⟨wd_436, (List.forall_mem_cons.mpr ⟨wd_435, (List.forall_mem_cons.mpr ⟨wd_434, (List.forall_mem_cons.mpr ⟨wd_433, (List.forall_mem_cons.mpr ⟨wd_432, (List.forall_mem_cons.mpr ⟨wd_203, (List.forall_mem_cons.mpr ⟨wd_202, (List.forall_mem_cons.mpr ⟨wd_157, (List.forall_mem_cons.mpr ⟨wd_201, (List.forall_mem_cons.mpr ⟨wd_155, (List.forall_mem_cons.mpr ⟨wd_200, (List.forall_mem_cons.mpr ⟨wd_199, (List.forall_mem_cons.mpr ⟨wd_198, (List.forall_mem_cons.mpr ⟨wd_197, (List.forall_mem_cons.mpr ⟨wd_150, (List.forall_mem_cons.mpr ⟨wd_149, (fun _ h => absurd h List.not_mem_nil)⟩)⟩)⟩)⟩)⟩)⟩)⟩)⟩)⟩)⟩)⟩)⟩)⟩)⟩)⟩)⟩)⟩)⟩)⟩)⟩)⟩)⟩)⟩)⟩)
theorem wd_444 : Cond.methodLink RX12 94 yJ0_charAt_5068e ∈ lw_tbl := mt_6 (List.mem_of_getElem? (i := 154) rfl)
set_option maxRecDepth 20000 in
theorem hl_wsX12_shop_r3 : ∀ w ∈ wsX12_shop_r3, w ∈ lw_tbl := by
  unfold wsX12_shop_r3
  exact (List.forall_mem_cons.mpr ⟨wd_444, (List.forall_mem_cons.mpr ⟨wd_159, (List.forall_mem_cons.mpr ⟨wd_158, (List.forall_mem_cons.mpr ⟨wd_156, (List.forall_mem_cons.mpr ⟨wd_154, (List.forall_mem_cons.mpr ⟨wd_153, (List.forall_mem_cons.mpr ⟨wd_152, (List.forall_mem_cons.mpr ⟨wd_151, (List.forall_mem_cons.mpr ⟨wd_148, (List.forall_mem_cons.mpr ⟨wd_147, (List.forall_mem_cons.mpr ⟨wd_146, (List.forall_mem_cons.mpr ⟨wd_145, (List.forall_mem_cons.mpr ⟨wd_144, (List.forall_mem_cons.mpr ⟨wd_143, (List.forall_mem_cons.mpr ⟨wd_142, (List.forall_mem_cons.mpr ⟨wd_141, (List.forall_mem_cons.mpr ⟨wd_188, (List.forall_mem_cons.mpr ⟨wd_187, (List.forall_mem_cons.mpr ⟨wd_186, (List.forall_mem_cons.mpr ⟨wd_185, (List.forall_mem_cons.mpr ⟨wd_184, (List.forall_mem_cons.mpr ⟨wd_183, (List.forall_mem_cons.mpr ⟨wd_182, (List.forall_mem_cons.mpr ⟨wd_181, (fun _ h => absurd h List.not_mem_nil)⟩)⟩)⟩)⟩)⟩)⟩)⟩)⟩)⟩)⟩)⟩)⟩)⟩)⟩)⟩)⟩)⟩)⟩)⟩)⟩)⟩)⟩)⟩)⟩)
theorem wd_445 : Cond.code yX12_is cX12_is 2 (some .boolean) ∈ lw_tbl := mt_6 (List.mem_of_getElem? (i := 166) rfl)
theorem wd_446 : Cond.selects RX12 yX12_is yX12_is ∈ lw_tbl := mp_4 (q := (⟨"OneOfEachModel", "is", "(I)Z"⟩, 32)) (List.mem_of_getElem? (i := 4) rfl)
theorem wd_447 : Cond.instanceMethod yX12_is ∈ lw_tbl := mt_6 (List.mem_of_getElem? (i := 165) rfl)
theorem wd_448 : Cond.methodLink RX12 132 yX12_is ∈ lw_tbl := mt_6 (List.mem_of_getElem? (i := 163) rfl)
theorem wd_449 : Cond.code yX12_eats cX12_eats 2 (some .boolean) ∈ lw_tbl := mt_6 (List.mem_of_getElem? (i := 162) rfl)
theorem wd_450 : Cond.selects RX12 yX12_eats yX12_eats ∈ lw_tbl := mp_4 (q := (⟨"OneOfEachModel", "eats", "(I)Z"⟩, 32)) (List.mem_of_getElem? (i := 3) rfl)
theorem wd_451 : Cond.instanceMethod yX12_eats ∈ lw_tbl := mt_6 (List.mem_of_getElem? (i := 161) rfl)
theorem wd_452 : Cond.methodLink RX12 158 yX12_eats ∈ lw_tbl := mt_6 (List.mem_of_getElem? (i := 159) rfl)
theorem wd_453 : Cond.code yX12_isDigit cX12_isDigit 1 (some .boolean) ∈ lw_tbl := mt_6 (List.mem_of_getElem? (i := 157) rfl)
theorem wd_454 : Cond.static yX12_isDigit ∈ lw_tbl := mt_6 (List.mem_of_getElem? (i := 156) rfl)
theorem wd_455 : Cond.methodLink RX12 118 yX12_isDigit ∈ lw_tbl := mt_6 (List.mem_of_getElem? (i := 155) rfl)
set_option maxRecDepth 20000 in
theorem hl_wsX12_shop_r4 : ∀ w ∈ wsX12_shop_r4, w ∈ lw_tbl := by
  unfold wsX12_shop_r4
  exact (List.forall_mem_cons.mpr ⟨wd_180, (List.forall_mem_cons.mpr ⟨wd_179, (List.forall_mem_cons.mpr ⟨wd_178, (List.forall_mem_cons.mpr ⟨wd_177, (List.forall_mem_cons.mpr ⟨wd_176, (List.forall_mem_cons.mpr ⟨wd_175, (List.forall_mem_cons.mpr ⟨wd_174, (List.forall_mem_cons.mpr ⟨wd_173, (List.forall_mem_cons.mpr ⟨wd_172, (List.forall_mem_cons.mpr ⟨wd_171, (List.forall_mem_cons.mpr ⟨wd_170, (List.forall_mem_cons.mpr ⟨wd_169, (List.forall_mem_cons.mpr ⟨wd_168, (List.forall_mem_cons.mpr ⟨wd_455, (List.forall_mem_cons.mpr ⟨wd_454, (List.forall_mem_cons.mpr ⟨wd_453, (List.forall_mem_cons.mpr ⟨wd_452, (List.forall_mem_cons.mpr ⟨wd_451, (List.forall_mem_cons.mpr ⟨wd_450, (List.forall_mem_cons.mpr ⟨wd_449, (List.forall_mem_cons.mpr ⟨wd_448, (List.forall_mem_cons.mpr ⟨wd_447, (List.forall_mem_cons.mpr ⟨wd_446, (List.forall_mem_cons.mpr ⟨wd_445, (fun _ h => absurd h List.not_mem_nil)⟩)⟩)⟩)⟩)⟩)⟩)⟩)⟩)⟩)⟩)⟩)⟩)⟩)⟩)⟩)⟩)⟩)⟩)⟩)⟩)⟩)⟩)⟩)⟩)
theorem wd_456 : Cond.code yX12_readFlag cX12_readFlag 2 (some .boolean) ∈ lw_tbl := mt_6 (List.mem_of_getElem? (i := 190) rfl)
theorem wd_457 : Cond.selects RX12 yX12_readFlag yX12_readFlag ∈ lw_tbl := mp_4 (q := (⟨"OneOfEachModel", "readFlag", "(I)Z"⟩, 32)) (List.mem_of_getElem? (i := 10) rfl)
theorem wd_458 : Cond.instanceMethod yX12_readFlag ∈ lw_tbl := mt_6 (List.mem_of_getElem? (i := 189) rfl)
theorem wd_459 : Cond.methodLink RX12 180 yX12_readFlag ∈ lw_tbl := mt_6 (List.mem_of_getElem? (i := 187) rfl)
theorem wd_460 : Cond.code yX12_takes cX12_takes 4 (some .int) ∈ lw_tbl := mt_6 (List.mem_of_getElem? (i := 186) rfl)
theorem wd_461 : Cond.selects RX12 yX12_takes yX12_takes ∈ lw_tbl := mp_4 (q := (⟨"OneOfEachModel", "takes", "(II)I"⟩, 32)) (List.mem_of_getElem? (i := 9) rfl)
theorem wd_462 : Cond.instanceMethod yX12_takes ∈ lw_tbl := mt_6 (List.mem_of_getElem? (i := 185) rfl)
theorem wd_463 : Cond.methodLink RX12 176 yX12_takes ∈ lw_tbl := mt_6 (List.mem_of_getElem? (i := 183) rfl)
theorem wd_464 : Cond.code yX12_readKind cX12_readKind 2 none ∈ lw_tbl := mt_6 (List.mem_of_getElem? (i := 182) rfl)
theorem wd_465 : Cond.selects RX12 yX12_readKind yX12_readKind ∈ lw_tbl := mp_4 (q := (⟨"OneOfEachModel", "readKind", "()V"⟩, 32)) (List.mem_of_getElem? (i := 8) rfl)
theorem wd_466 : Cond.instanceMethod yX12_readKind ∈ lw_tbl := mt_6 (List.mem_of_getElem? (i := 181) rfl)
theorem wd_467 : Cond.methodLink RX12 186 yX12_readKind ∈ lw_tbl := mt_6 (List.mem_of_getElem? (i := 179) rfl)
theorem wd_468 : Cond.code yX12_readLine cX12_readLine 1 none ∈ lw_tbl := mt_6 (List.mem_of_getElem? (i := 178) rfl)
theorem wd_469 : Cond.selects RX12 yX12_readLine yX12_readLine ∈ lw_tbl := mp_4 (q := (⟨"OneOfEachModel", "readLine", "()V"⟩, 32)) (List.mem_of_getElem? (i := 7) rfl)
theorem wd_470 : Cond.instanceMethod yX12_readLine ∈ lw_tbl := mt_6 (List.mem_of_getElem? (i := 177) rfl)
theorem wd_471 : Cond.methodLink RX12 198 yX12_readLine ∈ lw_tbl := mt_6 (List.mem_of_getElem? (i := 175) rfl)
theorem wd_472 : Cond.code yX12_ends cX12_ends 1 none ∈ lw_tbl := mt_6 (List.mem_of_getElem? (i := 174) rfl)
theorem wd_473 : Cond.selects RX12 yX12_ends yX12_ends ∈ lw_tbl := mp_4 (q := (⟨"OneOfEachModel", "ends", "()V"⟩, 32)) (List.mem_of_getElem? (i := 6) rfl)
theorem wd_474 : Cond.instanceMethod yX12_ends ∈ lw_tbl := mt_6 (List.mem_of_getElem? (i := 173) rfl)
theorem wd_475 : Cond.methodLink RX12 195 yX12_ends ∈ lw_tbl := mt_6 (List.mem_of_getElem? (i := 171) rfl)
theorem wd_476 : Cond.code yX12_fails cX12_fails 2 none ∈ lw_tbl := mt_6 (List.mem_of_getElem? (i := 170) rfl)
theorem wd_477 : Cond.selects RX12 yX12_fails yX12_fails ∈ lw_tbl := mp_4 (q := (⟨"OneOfEachModel", "fails", "(I)V"⟩, 32)) (List.mem_of_getElem? (i := 5) rfl)
theorem wd_478 : Cond.instanceMethod yX12_fails ∈ lw_tbl := mt_6 (List.mem_of_getElem? (i := 169) rfl)
theorem wd_479 : Cond.methodLink RX12 138 yX12_fails ∈ lw_tbl := mt_6 (List.mem_of_getElem? (i := 167) rfl)
set_option maxRecDepth 20000 in
theorem hl_wsX12_shop_r5 : ∀ w ∈ wsX12_shop_r5, w ∈ lw_tbl := by
  unfold wsX12_shop_r5
  exact (List.forall_mem_cons.mpr ⟨wd_479, (List.forall_mem_cons.mpr ⟨wd_478, (List.forall_mem_cons.mpr ⟨wd_477, (List.forall_mem_cons.mpr ⟨wd_476, (List.forall_mem_cons.mpr ⟨wd_475, (List.forall_mem_cons.mpr ⟨wd_474, (List.forall_mem_cons.mpr ⟨wd_473, (List.forall_mem_cons.mpr ⟨wd_472, (List.forall_mem_cons.mpr ⟨wd_471, (List.forall_mem_cons.mpr ⟨wd_470, (List.forall_mem_cons.mpr ⟨wd_469, (List.forall_mem_cons.mpr ⟨wd_468, (List.forall_mem_cons.mpr ⟨wd_467, (List.forall_mem_cons.mpr ⟨wd_466, (List.forall_mem_cons.mpr ⟨wd_465, (List.forall_mem_cons.mpr ⟨wd_464, (List.forall_mem_cons.mpr ⟨wd_463, (List.forall_mem_cons.mpr ⟨wd_462, (List.forall_mem_cons.mpr ⟨wd_461, (List.forall_mem_cons.mpr ⟨wd_460, (List.forall_mem_cons.mpr ⟨wd_459, (List.forall_mem_cons.mpr ⟨wd_458, (List.forall_mem_cons.mpr ⟨wd_457, (List.forall_mem_cons.mpr ⟨wd_456, (fun _ h => absurd h List.not_mem_nil)⟩)⟩)⟩)⟩)⟩)⟩)⟩)⟩)⟩)⟩)⟩)⟩)⟩)⟩)⟩)⟩)⟩)⟩)⟩)⟩)⟩)⟩)⟩)⟩)
theorem wd_480 : Cond.code yX12_readAtom cX12_readAtom 2 none ∈ lw_tbl := mt_6 (List.mem_of_getElem? (i := 214) rfl)
theorem wd_481 : Cond.code yX12_codes cX12_codes 2 none ∈ lw_tbl := mt_6 (List.mem_of_getElem? (i := 218) rfl)
theorem wd_482 : Cond.selects RX12 yX12_codes yX12_codes ∈ lw_tbl := mp_5 (q := (⟨"OneOfEachModel", "codes", "(I)V"⟩, 32)) (List.mem_of_getElem? (i := 1) rfl)
theorem wd_483 : Cond.instanceMethod yX12_codes ∈ lw_tbl := mt_6 (List.mem_of_getElem? (i := 217) rfl)
theorem wd_484 : Cond.methodLink RX12 146 yX12_codes ∈ lw_tbl := mt_6 (List.mem_of_getElem? (i := 215) rfl)
theorem wd_485 : Cond.selects RX12 yX12_readTerm yX12_readTerm ∈ lw_tbl := mp_4 (q := (⟨"OneOfEachModel", "readTerm", "(I)V"⟩, 32)) (List.mem_of_getElem? (i := 15) rfl)
theorem wd_486 : Cond.instanceMethod yX12_readTerm ∈ lw_tbl := mt_6 (List.mem_of_getElem? (i := 209) rfl)
theorem wd_487 : Cond.methodLink RX12 164 yX12_readTerm ∈ lw_tbl := mt_6 (List.mem_of_getElem? (i := 207) rfl)
theorem wd_488 : Cond.code yX12_readSum cX12_readSum 3 none ∈ lw_tbl := mt_6 (List.mem_of_getElem? (i := 206) rfl)
theorem wd_489 : Cond.selects RX12 yX12_readSum yX12_readSum ∈ lw_tbl := mp_4 (q := (⟨"OneOfEachModel", "readSum", "(I)V"⟩, 32)) (List.mem_of_getElem? (i := 14) rfl)
theorem wd_490 : Cond.instanceMethod yX12_readSum ∈ lw_tbl := mt_6 (List.mem_of_getElem? (i := 205) rfl)
theorem wd_491 : Cond.methodLink RX12 155 yX12_readSum ∈ lw_tbl := mt_6 (List.mem_of_getElem? (i := 203) rfl)
theorem wd_492 : Cond.code yX12_readLaw cX12_readLaw 3 none ∈ lw_tbl := mt_6 (List.mem_of_getElem? (i := 202) rfl)
theorem wd_493 : Cond.selects RX12 yX12_readLaw yX12_readLaw ∈ lw_tbl := mp_4 (q := (⟨"OneOfEachModel", "readLaw", "(I)V"⟩, 32)) (List.mem_of_getElem? (i := 13) rfl)
theorem wd_494 : Cond.instanceMethod yX12_readLaw ∈ lw_tbl := mt_6 (List.mem_of_getElem? (i := 201) rfl)
theorem wd_495 : Cond.methodLink RX12 192 yX12_readLaw ∈ lw_tbl := mt_6 (List.mem_of_getElem? (i := 199) rfl)
theorem wd_496 : Cond.code yX12_readMark cX12_readMark 2 (some .boolean) ∈ lw_tbl := mt_6 (List.mem_of_getElem? (i := 198) rfl)
theorem wd_497 : Cond.selects RX12 yX12_readMark yX12_readMark ∈ lw_tbl := mp_4 (q := (⟨"OneOfEachModel", "readMark", "(I)Z"⟩, 32)) (List.mem_of_getElem? (i := 12) rfl)
theorem wd_498 : Cond.instanceMethod yX12_readMark ∈ lw_tbl := mt_6 (List.mem_of_getElem? (i := 197) rfl)
theorem wd_499 : Cond.methodLink RX12 183 yX12_readMark ∈ lw_tbl := mt_6 (List.mem_of_getElem? (i := 195) rfl)
theorem wd_500 : Cond.code yX12_readBuyer cX12_readBuyer 2 none ∈ lw_tbl := mt_6 (List.mem_of_getElem? (i := 194) rfl)
theorem wd_501 : Cond.selects RX12 yX12_readBuyer yX12_readBuyer ∈ lw_tbl := mp_4 (q := (⟨"OneOfEachModel", "readBuyer", "()V"⟩, 32)) (List.mem_of_getElem? (i := 11) rfl)
theorem wd_502 : Cond.instanceMethod yX12_readBuyer ∈ lw_tbl := mt_6 (List.mem_of_getElem? (i := 193) rfl)
theorem wd_503 : Cond.methodLink RX12 189 yX12_readBuyer ∈ lw_tbl := mt_6 (List.mem_of_getElem? (i := 191) rfl)
set_option maxRecDepth 20000 in
theorem hl_wsX12_shop_r6 : ∀ w ∈ wsX12_shop_r6, w ∈ lw_tbl := by
  unfold wsX12_shop_r6
  exact (List.forall_mem_cons.mpr ⟨wd_503, (List.forall_mem_cons.mpr ⟨wd_502, (List.forall_mem_cons.mpr ⟨wd_501, (List.forall_mem_cons.mpr ⟨wd_500, (List.forall_mem_cons.mpr ⟨wd_499, (List.forall_mem_cons.mpr ⟨wd_498, (List.forall_mem_cons.mpr ⟨wd_497, (List.forall_mem_cons.mpr ⟨wd_496, (List.forall_mem_cons.mpr ⟨wd_495, (List.forall_mem_cons.mpr ⟨wd_494, (List.forall_mem_cons.mpr ⟨wd_493, (List.forall_mem_cons.mpr ⟨wd_492, (List.forall_mem_cons.mpr ⟨wd_491, (List.forall_mem_cons.mpr ⟨wd_490, (List.forall_mem_cons.mpr ⟨wd_489, (List.forall_mem_cons.mpr ⟨wd_488, (List.forall_mem_cons.mpr ⟨wd_487, (List.forall_mem_cons.mpr ⟨wd_486, (List.forall_mem_cons.mpr ⟨wd_485, (List.forall_mem_cons.mpr ⟨wd_484, (List.forall_mem_cons.mpr ⟨wd_483, (List.forall_mem_cons.mpr ⟨wd_482, (List.forall_mem_cons.mpr ⟨wd_481, (List.forall_mem_cons.mpr ⟨wd_480, (fun _ h => absurd h List.not_mem_nil)⟩)⟩)⟩)⟩)⟩)⟩)⟩)⟩)⟩)⟩)⟩)⟩)⟩)⟩)⟩)⟩)⟩)⟩)⟩)⟩)⟩)⟩)⟩)⟩)
theorem wd_504 : Cond.code yX12_readUnit cX12_readUnit 3 none ∈ lw_tbl := mt_6 (List.mem_of_getElem? (i := 238) rfl)
theorem wd_505 : Cond.selects RX12 yX12_readUnit yX12_readUnit ∈ lw_tbl := mp_5 (q := (⟨"OneOfEachModel", "readUnit", "(I)V"⟩, 32)) (List.mem_of_getElem? (i := 6) rfl)
theorem wd_506 : Cond.instanceMethod yX12_readUnit ∈ lw_tbl := mt_6 (List.mem_of_getElem? (i := 237) rfl)
theorem wd_507 : Cond.methodLink RX12 167 yX12_readUnit ∈ lw_tbl := mt_6 (List.mem_of_getElem? (i := 235) rfl)
theorem wd_508 : Cond.code yX12_readBoth cX12_readBoth 2 none ∈ lw_tbl := mt_6 (List.mem_of_getElem? (i := 234) rfl)
theorem wd_509 : Cond.selects RX12 yX12_readBoth yX12_readBoth ∈ lw_tbl := mp_5 (q := (⟨"OneOfEachModel", "readBoth", "(I)V"⟩, 32)) (List.mem_of_getElem? (i := 5) rfl)
theorem wd_510 : Cond.instanceMethod yX12_readBoth ∈ lw_tbl := mt_6 (List.mem_of_getElem? (i := 233) rfl)
theorem wd_511 : Cond.methodLink RX12 173 yX12_readBoth ∈ lw_tbl := mt_6 (List.mem_of_getElem? (i := 231) rfl)
theorem wd_512 : Cond.code yX12_readTruth cX12_readTruth 2 none ∈ lw_tbl := mt_6 (List.mem_of_getElem? (i := 230) rfl)
theorem wd_513 : Cond.selects RX12 yX12_readTruth yX12_readTruth ∈ lw_tbl := mp_5 (q := (⟨"OneOfEachModel", "readTruth", "(I)V"⟩, 32)) (List.mem_of_getElem? (i := 4) rfl)
theorem wd_514 : Cond.instanceMethod yX12_readTruth ∈ lw_tbl := mt_6 (List.mem_of_getElem? (i := 229) rfl)
theorem wd_515 : Cond.methodLink RX12 170 yX12_readTruth ∈ lw_tbl := mt_6 (List.mem_of_getElem? (i := 227) rfl)
theorem wd_516 : Cond.selects RX12 yX12_readAtom yX12_readAtom ∈ lw_tbl := mp_5 (q := (⟨"OneOfEachModel", "readAtom", "(I)V"⟩, 32)) (List.mem_of_getElem? (i := 0) rfl)
theorem wd_517 : Cond.instanceMethod yX12_readAtom ∈ lw_tbl := mt_6 (List.mem_of_getElem? (i := 213) rfl)
theorem wd_518 : Cond.methodLink RX12 161 yX12_readAtom ∈ lw_tbl := mt_6 (List.mem_of_getElem? (i := 211) rfl)
theorem wd_519 : Cond.code yX12_readTerm cX12_readTerm 2 none ∈ lw_tbl := mt_6 (List.mem_of_getElem? (i := 210) rfl)
theorem wd_520 : Cond.code yX12_goesIn cX12_goesIn 2 (some .boolean) ∈ lw_tbl := mt_6 (List.mem_of_getElem? (i := 226) rfl)
theorem wd_521 : Cond.selects RX12 yX12_goesIn yX12_goesIn ∈ lw_tbl := mp_5 (q := (⟨"OneOfEachModel", "goesIn", "(I)Z"⟩, 32)) (List.mem_of_getElem? (i := 3) rfl)
theorem wd_522 : Cond.instanceMethod yX12_goesIn ∈ lw_tbl := mt_6 (List.mem_of_getElem? (i := 225) rfl)
theorem wd_523 : Cond.methodLink RX12 152 yX12_goesIn ∈ lw_tbl := mt_6 (List.mem_of_getElem? (i := 223) rfl)
theorem wd_524 : Cond.code yX12_wordOf cX12_wordOf 2 (some .int) ∈ lw_tbl := mt_6 (List.mem_of_getElem? (i := 222) rfl)
theorem wd_525 : Cond.selects RX12 yX12_wordOf yX12_wordOf ∈ lw_tbl := mp_5 (q := (⟨"OneOfEachModel", "wordOf", "(I)I"⟩, 32)) (List.mem_of_getElem? (i := 2) rfl)
theorem wd_526 : Cond.instanceMethod yX12_wordOf ∈ lw_tbl := mt_6 (List.mem_of_getElem? (i := 221) rfl)
theorem wd_527 : Cond.methodLink RX12 149 yX12_wordOf ∈ lw_tbl := mt_6 (List.mem_of_getElem? (i := 219) rfl)
set_option maxRecDepth 20000 in
theorem hl_wsX12_shop_r7 : ∀ w ∈ wsX12_shop_r7, w ∈ lw_tbl := by
  unfold wsX12_shop_r7
  exact (List.forall_mem_cons.mpr ⟨wd_527, (List.forall_mem_cons.mpr ⟨wd_526, (List.forall_mem_cons.mpr ⟨wd_525, (List.forall_mem_cons.mpr ⟨wd_524, (List.forall_mem_cons.mpr ⟨wd_523, (List.forall_mem_cons.mpr ⟨wd_522, (List.forall_mem_cons.mpr ⟨wd_521, (List.forall_mem_cons.mpr ⟨wd_520, (List.forall_mem_cons.mpr ⟨wd_519, (List.forall_mem_cons.mpr ⟨wd_518, (List.forall_mem_cons.mpr ⟨wd_517, (List.forall_mem_cons.mpr ⟨wd_516, (List.forall_mem_cons.mpr ⟨wd_515, (List.forall_mem_cons.mpr ⟨wd_514, (List.forall_mem_cons.mpr ⟨wd_513, (List.forall_mem_cons.mpr ⟨wd_512, (List.forall_mem_cons.mpr ⟨wd_511, (List.forall_mem_cons.mpr ⟨wd_510, (List.forall_mem_cons.mpr ⟨wd_509, (List.forall_mem_cons.mpr ⟨wd_508, (List.forall_mem_cons.mpr ⟨wd_507, (List.forall_mem_cons.mpr ⟨wd_506, (List.forall_mem_cons.mpr ⟨wd_505, (List.forall_mem_cons.mpr ⟨wd_504, (fun _ h => absurd h List.not_mem_nil)⟩)⟩)⟩)⟩)⟩)⟩)⟩)⟩)⟩)⟩)⟩)⟩)⟩)⟩)⟩)⟩)⟩)⟩)⟩)⟩)⟩)⟩)⟩)⟩)
set_option maxRecDepth 20000 in
theorem hl_wsX12_shop : ∀ w ∈ wsX12_shop, w ∈ lw_tbl := by
  unfold wsX12_shop
  exact (List.forall_mem_cons.mpr ⟨wd_410, (List.forall_mem_append.mpr ⟨(List.forall_mem_append.mpr ⟨hl_wsX12_shop_r1, (List.forall_mem_append.mpr ⟨hl_wsX12_shop_r2, (List.forall_mem_append.mpr ⟨hl_wsX12_shop_r3, (List.forall_mem_append.mpr ⟨hl_wsX12_shop_r4, (List.forall_mem_append.mpr ⟨hl_wsX12_shop_r5, (List.forall_mem_append.mpr ⟨hl_wsX12_shop_r6, hl_wsX12_shop_r7⟩)⟩)⟩)⟩)⟩)⟩), hl_wsX120⟩)⟩)
def tL_shop : List Cond := (wsV RL 18 RX11 yX11_shop wsX11_shop) ++ (wsV RL 22 RX12 yX12_shop wsX12_shop)
theorem tL_shop_in : ∀ w ∈ tL_shop, w ∈ lw_tbl := by
  unfold tL_shop
  exact (List.forall_mem_append.mpr ⟨(List.forall_mem_append.mpr ⟨(List.forall_mem_cons.mpr ⟨wd_69, (List.forall_mem_cons.mpr ⟨wd_68, (List.forall_mem_cons.mpr ⟨wd_67, (List.forall_mem_cons.mpr ⟨wd_0, (fun _ h => absurd h List.not_mem_nil)⟩)⟩)⟩)⟩), hl_wsX11_shop⟩), (List.forall_mem_append.mpr ⟨(List.forall_mem_cons.mpr ⟨wd_409, (List.forall_mem_cons.mpr ⟨wd_408, (List.forall_mem_cons.mpr ⟨wd_407, (List.forall_mem_cons.mpr ⟨wd_27, (fun _ h => absurd h List.not_mem_nil)⟩)⟩)⟩)⟩), hl_wsX12_shop⟩)⟩)
set_option maxRecDepth 20000 in
theorem tL_shop_x : GoodIn tL_shop (wsV RL 18 RX11 yX11_shop wsX11_shop) := fun w h => ⟨List.mem_append_left _ h, good_of_word (List.all_eq_true.mp (show (wsV RL 18 RX11 yX11_shop wsX11_shop).all goodWord = true by decide +kernel) w h)⟩
set_option maxRecDepth 20000 in
theorem tL_shop_m : GoodIn tL_shop (wsV RL 22 RX12 yX12_shop wsX12_shop) := fun w h => ⟨List.mem_append_right _ h, good_of_word (List.all_eq_true.mp (show (wsV RL 22 RX12 yX12_shop wsX12_shop).all goodWord = true by decide +kernel) w h)⟩
theorem hdLX11_shop : yX11_shop.cls = RX11 ∧ yX11_shop.cls ≠ "java/lang/invoke/MethodHandle" ∧ yX11_shop.cls ≠ "java/lang/invoke/VarHandle" ∧ (parseMethodDescriptor yX11_shop.desc).map (fun d => d.parameters.length) = some 1 := by decide +kernel
theorem hdLX12_shop : yX12_shop.cls = RX12 ∧ yX12_shop.cls ≠ "java/lang/invoke/MethodHandle" ∧ yX12_shop.cls ≠ "java/lang/invoke/VarHandle" ∧ (parseMethodDescriptor yX12_shop.desc).map (fun d => d.parameters.length) = some 1 := by decide +kernel
theorem wd_528 : Cond.selects RX11 yX11_fault yX11_fault ∈ lw_tbl := mt_3 (List.mem_of_getElem? (i := 186) rfl)
theorem wd_529 : Cond.instanceMethod yX11_fault ∈ lw_tbl := mt_3 (List.mem_of_getElem? (i := 185) rfl)
theorem wd_530 : Cond.methodLink RL 23 yX11_fault ∈ lw_tbl := mt_3 (List.mem_of_getElem? (i := 184) rfl)
theorem wd_531 : Cond.code yX11_fault cX11_fault 2 (some .int) ∈ lw_tbl := mt_3 (List.mem_of_getElem? (i := 187) rfl)
set_option maxRecDepth 20000 in
theorem hl_wsX11_fault : ∀ w ∈ wsX11_fault, w ∈ lw_tbl := by
  unfold wsX11_fault
  exact (List.forall_mem_cons.mpr ⟨wd_531, (List.forall_mem_append.mpr ⟨(List.forall_mem_cons.mpr ⟨wd_88, (List.forall_mem_cons.mpr ⟨wd_86, (fun _ h => absurd h List.not_mem_nil)⟩)⟩), hl_wsX110⟩)⟩)
theorem wd_532 : Cond.selects RX12 yX12_fault yX12_fault ∈ lw_tbl := mt_7 (List.mem_of_getElem? (i := 1) rfl)
theorem wd_533 : Cond.instanceMethod yX12_fault ∈ lw_tbl := mt_7 (List.mem_of_getElem? (i := 0) rfl)
theorem wd_534 : Cond.methodLink RL 26 yX12_fault ∈ lw_tbl := mt_6 (List.mem_of_getElem? (i := 239) rfl)
theorem wd_535 : Cond.code yX12_fault cX12_fault 2 (some .int) ∈ lw_tbl := mt_7 (List.mem_of_getElem? (i := 2) rfl)
set_option maxRecDepth 20000 in
theorem hl_wsX12_fault : ∀ w ∈ wsX12_fault, w ∈ lw_tbl := by
  unfold wsX12_fault
  exact (List.forall_mem_cons.mpr ⟨wd_535, (List.forall_mem_append.mpr ⟨(List.forall_mem_cons.mpr ⟨wd_34, (List.forall_mem_cons.mpr ⟨wd_426, (List.forall_mem_cons.mpr ⟨wd_424, (fun _ h => absurd h List.not_mem_nil)⟩)⟩)⟩), hl_wsX120⟩)⟩)
def tL_fault : List Cond := (wsV RL 23 RX11 yX11_fault wsX11_fault) ++ (wsV RL 26 RX12 yX12_fault wsX12_fault)
theorem tL_fault_in : ∀ w ∈ tL_fault, w ∈ lw_tbl := by
  unfold tL_fault
  exact (List.forall_mem_append.mpr ⟨(List.forall_mem_append.mpr ⟨(List.forall_mem_cons.mpr ⟨wd_530, (List.forall_mem_cons.mpr ⟨wd_529, (List.forall_mem_cons.mpr ⟨wd_528, (List.forall_mem_cons.mpr ⟨wd_0, (fun _ h => absurd h List.not_mem_nil)⟩)⟩)⟩)⟩), hl_wsX11_fault⟩), (List.forall_mem_append.mpr ⟨(List.forall_mem_cons.mpr ⟨wd_534, (List.forall_mem_cons.mpr ⟨wd_533, (List.forall_mem_cons.mpr ⟨wd_532, (List.forall_mem_cons.mpr ⟨wd_27, (fun _ h => absurd h List.not_mem_nil)⟩)⟩)⟩)⟩), hl_wsX12_fault⟩)⟩)
set_option maxRecDepth 20000 in
theorem tL_fault_x : GoodIn tL_fault (wsV RL 23 RX11 yX11_fault wsX11_fault) := fun w h => ⟨List.mem_append_left _ h, good_of_word (List.all_eq_true.mp (show (wsV RL 23 RX11 yX11_fault wsX11_fault).all goodWord = true by decide +kernel) w h)⟩
set_option maxRecDepth 20000 in
theorem tL_fault_m : GoodIn tL_fault (wsV RL 26 RX12 yX12_fault wsX12_fault) := fun w h => ⟨List.mem_append_right _ h, good_of_word (List.all_eq_true.mp (show (wsV RL 26 RX12 yX12_fault wsX12_fault).all goodWord = true by decide +kernel) w h)⟩
theorem hdLX11_fault : yX11_fault.cls = RX11 ∧ yX11_fault.cls ≠ "java/lang/invoke/MethodHandle" ∧ yX11_fault.cls ≠ "java/lang/invoke/VarHandle" ∧ (parseMethodDescriptor yX11_fault.desc).map (fun d => d.parameters.length) = some 1 := by decide +kernel
theorem hdLX12_fault : yX12_fault.cls = RX12 ∧ yX12_fault.cls ≠ "java/lang/invoke/MethodHandle" ∧ yX12_fault.cls ≠ "java/lang/invoke/VarHandle" ∧ (parseMethodDescriptor yX12_fault.desc).map (fun d => d.parameters.length) = some 1 := by decide +kernel
theorem wd_536 : Cond.selects RX11 yX11_kind yX11_kind ∈ lw_tbl := mt_3 (List.mem_of_getElem? (i := 190) rfl)
theorem wd_537 : Cond.instanceMethod yX11_kind ∈ lw_tbl := mt_3 (List.mem_of_getElem? (i := 189) rfl)
theorem wd_538 : Cond.methodLink RL 27 yX11_kind ∈ lw_tbl := mt_3 (List.mem_of_getElem? (i := 188) rfl)
theorem wd_539 : Cond.code yX11_kind cX11_kind 3 (some .int) ∈ lw_tbl := mt_3 (List.mem_of_getElem? (i := 191) rfl)
theorem wd_540 : Cond.fieldLink RX4 33 "OneOfEach$Minds" "plan" "LOneOfEach$Plan;" ∈ lw_tbl := mt_1 (List.mem_of_getElem? (i := 224) rfl)
theorem wd_541 : Cond.code yX4_tune cX4_tune 5 none ∈ lw_tbl := mt_3 (List.mem_of_getElem? (i := 203) rfl)
theorem wd_542 : Cond.selects RX4 yX4_tune yX4_tune ∈ lw_tbl := mt_3 (List.mem_of_getElem? (i := 202) rfl)
theorem wd_543 : Cond.instanceMethod yX4_tune ∈ lw_tbl := mt_3 (List.mem_of_getElem? (i := 201) rfl)
theorem wd_544 : Cond.methodLink RX11 166 yX4_tune ∈ lw_tbl := mt_3 (List.mem_of_getElem? (i := 200) rfl)
theorem wd_545 : Cond.fieldLink RX11 163 "OneOfEach$Plan" "buyers" "I" ∈ lw_tbl := mt_1 (List.mem_of_getElem? (i := 39) rfl)
theorem wd_546 : Cond.code yX11_takersOf cX11_takersOf 4 (some .int) ∈ lw_tbl := mt_3 (List.mem_of_getElem? (i := 199) rfl)
theorem wd_547 : Cond.selects RX11 yX11_takersOf yX11_takersOf ∈ lw_tbl := mp_2 (q := (⟨"OneOfEach", "takersOf", "(I)I"⟩, 16)) (List.mem_of_getElem? (i := 6) rfl)
theorem wd_548 : Cond.instanceMethod yX11_takersOf ∈ lw_tbl := mt_3 (List.mem_of_getElem? (i := 198) rfl)
theorem wd_549 : Cond.methodLink RX11 156 yX11_takersOf ∈ lw_tbl := mt_3 (List.mem_of_getElem? (i := 196) rfl)
theorem wd_550 : Cond.fieldLink RX11 160 "OneOfEach$Stock" "kinds" "I" ∈ lw_tbl := mt_1 (List.mem_of_getElem? (i := 106) rfl)
theorem wd_551 : Cond.code yX11_isKind cX11_isKind 2 (some .boolean) ∈ lw_tbl := mt_3 (List.mem_of_getElem? (i := 195) rfl)
theorem wd_552 : Cond.selects RX11 yX11_isKind yX11_isKind ∈ lw_tbl := mp_2 (q := (⟨"OneOfEach", "isKind", "(I)Z"⟩, 16)) (List.mem_of_getElem? (i := 5) rfl)
theorem wd_553 : Cond.instanceMethod yX11_isKind ∈ lw_tbl := mt_3 (List.mem_of_getElem? (i := 194) rfl)
theorem wd_554 : Cond.methodLink RX11 140 yX11_isKind ∈ lw_tbl := mt_3 (List.mem_of_getElem? (i := 192) rfl)
theorem wd_555 : Cond.fieldLink RX11 153 "OneOfEach$Stock" "hidden" "I" ∈ lw_tbl := mt_1 (List.mem_of_getElem? (i := 127) rfl)
theorem wd_556 : Cond.fieldLink RX11 150 "OneOfEach$Stock" "sold" "I" ∈ lw_tbl := mt_1 (List.mem_of_getElem? (i := 122) rfl)
theorem wd_557 : Cond.fieldLink RX11 147 "OneOfEach$Stock" "group" "[I" ∈ lw_tbl := mt_1 (List.mem_of_getElem? (i := 117) rfl)
theorem wd_558 : Cond.fieldLink RX11 144 "OneOfEach$Stock" "price" "[I" ∈ lw_tbl := mt_1 (List.mem_of_getElem? (i := 111) rfl)
set_option maxRecDepth 20000 in
theorem hl_wsX11_kind_r1 : ∀ w ∈ wsX11_kind_r1, w ∈ lw_tbl := by
  unfold wsX11_kind_r1
  exact (List.forall_mem_cons.mpr ⟨wd_84, (List.forall_mem_cons.mpr ⟨wd_558, (List.forall_mem_cons.mpr ⟨wd_557, (List.forall_mem_cons.mpr ⟨wd_556, (List.forall_mem_cons.mpr ⟨wd_555, (List.forall_mem_cons.mpr ⟨wd_554, (List.forall_mem_cons.mpr ⟨wd_553, (List.forall_mem_cons.mpr ⟨wd_552, (List.forall_mem_cons.mpr ⟨wd_0, (List.forall_mem_cons.mpr ⟨wd_551, (List.forall_mem_cons.mpr ⟨wd_550, (List.forall_mem_cons.mpr ⟨wd_549, (List.forall_mem_cons.mpr ⟨wd_548, (List.forall_mem_cons.mpr ⟨wd_547, (List.forall_mem_cons.mpr ⟨wd_546, (List.forall_mem_cons.mpr ⟨wd_335, (List.forall_mem_cons.mpr ⟨wd_85, (List.forall_mem_cons.mpr ⟨wd_545, (List.forall_mem_cons.mpr ⟨wd_544, (List.forall_mem_cons.mpr ⟨wd_543, (List.forall_mem_cons.mpr ⟨wd_542, (List.forall_mem_cons.mpr ⟨wd_362, (List.forall_mem_cons.mpr ⟨wd_541, (List.forall_mem_cons.mpr ⟨wd_540, (fun _ h => absurd h List.not_mem_nil)⟩)⟩)⟩)⟩)⟩)⟩)⟩)⟩)⟩)⟩)⟩)⟩)⟩)⟩)⟩)⟩)⟩)⟩)⟩)⟩)⟩)⟩)⟩)⟩)
theorem wd_559 : Cond.instanceMethod yX4_lets ∈ lw_tbl := mt_3 (List.mem_of_getElem? (i := 216) rfl)
theorem wd_560 : Cond.methodLink RX4 54 yX4_lets ∈ lw_tbl := mt_3 (List.mem_of_getElem? (i := 214) rfl)
theorem wd_561 : Cond.constant RJ6 267 (252645135) ∈ lw_tbl := mt_3 (List.mem_of_getElem? (i := 213) rfl)
theorem wd_562 : Cond.constant RJ6 266 (858993459) ∈ lw_tbl := mt_3 (List.mem_of_getElem? (i := 212) rfl)
theorem wd_563 : Cond.constant RJ6 265 (1431655765) ∈ lw_tbl := mt_3 (List.mem_of_getElem? (i := 211) rfl)
theorem wd_564 : Cond.code yJ6_bitCount_0f7a4 cJ6_bitCount_0f7a4 1 (some .int) ∈ lw_tbl := mt_3 (List.mem_of_getElem? (i := 210) rfl)
theorem wd_565 : Cond.initialized RJ6 ∈ lw_tbl := mt_1 (List.mem_of_getElem? (i := 21) rfl)
theorem wd_566 : Cond.static yJ6_bitCount_0f7a4 ∈ lw_tbl := mt_3 (List.mem_of_getElem? (i := 209) rfl)
theorem wd_567 : Cond.methodLink RX4 48 yJ6_bitCount_0f7a4 ∈ lw_tbl := mt_3 (List.mem_of_getElem? (i := 208) rfl)
theorem wd_568 : Cond.methodLink RX4 62 Lib.Math.max.name ∈ lw_tbl := mt_3 (List.mem_of_getElem? (i := 237) rfl)
theorem wd_569 : Cond.code yX4_choice cX4_choice 10 (some .int) ∈ lw_tbl := mt_3 (List.mem_of_getElem? (i := 207) rfl)
theorem wd_570 : Cond.selects RX4 yX4_choice yX4_choice ∈ lw_tbl := mt_3 (List.mem_of_getElem? (i := 206) rfl)
theorem wd_571 : Cond.instanceMethod yX4_choice ∈ lw_tbl := mt_3 (List.mem_of_getElem? (i := 205) rfl)
theorem wd_572 : Cond.methodLink RX11 169 yX4_choice ∈ lw_tbl := mt_3 (List.mem_of_getElem? (i := 204) rfl)
theorem wd_573 : Cond.fieldLink RX4 11 "OneOfEach$Minds" "appetites" "[I" ∈ lw_tbl := mt_1 (List.mem_of_getElem? (i := 219) rfl)
theorem wd_574 : Cond.fieldLink RX4 47 "OneOfEach$Stock" "group" "[I" ∈ lw_tbl := mt_1 (List.mem_of_getElem? (i := 115) rfl)
theorem wd_575 : Cond.fieldLink RX4 18 "OneOfEach$Minds" "group" "[I" ∈ lw_tbl := mt_1 (List.mem_of_getElem? (i := 221) rfl)
theorem wd_576 : Cond.fieldLink RX4 46 "OneOfEach$Stock" "price" "[I" ∈ lw_tbl := mt_1 (List.mem_of_getElem? (i := 110) rfl)
theorem wd_577 : Cond.fieldLink RX4 29 "OneOfEach$Minds" "kinds" "I" ∈ lw_tbl := mt_1 (List.mem_of_getElem? (i := 225) rfl)
theorem wd_578 : Cond.fieldLink RX4 43 "OneOfEach$Stock" "kinds" "I" ∈ lw_tbl := mt_1 (List.mem_of_getElem? (i := 104) rfl)
set_option maxRecDepth 20000 in
theorem hl_wsX11_kind_r2 : ∀ w ∈ wsX11_kind_r2, w ∈ lw_tbl := by
  unfold wsX11_kind_r2
  exact (List.forall_mem_cons.mpr ⟨wd_578, (List.forall_mem_cons.mpr ⟨wd_577, (List.forall_mem_cons.mpr ⟨wd_360, (List.forall_mem_cons.mpr ⟨wd_576, (List.forall_mem_cons.mpr ⟨wd_575, (List.forall_mem_cons.mpr ⟨wd_574, (List.forall_mem_cons.mpr ⟨wd_573, (List.forall_mem_cons.mpr ⟨wd_572, (List.forall_mem_cons.mpr ⟨wd_571, (List.forall_mem_cons.mpr ⟨wd_570, (List.forall_mem_cons.mpr ⟨wd_569, (List.forall_mem_cons.mpr ⟨wd_568, (List.forall_mem_cons.mpr ⟨wd_134, (List.forall_mem_cons.mpr ⟨wd_133, (List.forall_mem_cons.mpr ⟨wd_132, (List.forall_mem_cons.mpr ⟨wd_567, (List.forall_mem_cons.mpr ⟨wd_566, (List.forall_mem_cons.mpr ⟨wd_565, (List.forall_mem_cons.mpr ⟨wd_564, (List.forall_mem_cons.mpr ⟨wd_563, (List.forall_mem_cons.mpr ⟨wd_562, (List.forall_mem_cons.mpr ⟨wd_561, (List.forall_mem_cons.mpr ⟨wd_560, (List.forall_mem_cons.mpr ⟨wd_559, (fun _ h => absurd h List.not_mem_nil)⟩)⟩)⟩)⟩)⟩)⟩)⟩)⟩)⟩)⟩)⟩)⟩)⟩)⟩)⟩)⟩)⟩)⟩)⟩)⟩)⟩)⟩)⟩)⟩)
theorem wd_579 : Cond.constant RX4 107 (-1000000) ∈ lw_tbl := mt_3 (List.mem_of_getElem? (i := 232) rfl)
theorem wd_580 : Cond.constantLong RX4 105 (-1000000) ∈ lw_tbl := mt_3 (List.mem_of_getElem? (i := 231) rfl)
theorem wd_581 : Cond.constant RX4 104 (1000000) ∈ lw_tbl := mt_3 (List.mem_of_getElem? (i := 230) rfl)
theorem wd_582 : Cond.constantLong RX4 102 (1000000) ∈ lw_tbl := mt_3 (List.mem_of_getElem? (i := 229) rfl)
theorem wd_583 : Cond.code yX4_joined cX4_joined 7 (some .int) ∈ lw_tbl := mt_3 (List.mem_of_getElem? (i := 228) rfl)
theorem wd_584 : Cond.static yX4_joined ∈ lw_tbl := mt_3 (List.mem_of_getElem? (i := 227) rfl)
theorem wd_585 : Cond.methodLink RX4 98 yX4_joined ∈ lw_tbl := mt_3 (List.mem_of_getElem? (i := 226) rfl)
theorem wd_586 : Cond.fieldLink RX4 26 "OneOfEach$Minds" "stack" "[I" ∈ lw_tbl := mt_1 (List.mem_of_getElem? (i := 223) rfl)
theorem wd_587 : Cond.fieldLink RX4 95 "OneOfEach$Plan" "code" "[I" ∈ lw_tbl := mt_1 (List.mem_of_getElem? (i := 57) rfl)
theorem wd_588 : Cond.code yX4_reckon cX4_reckon 6 (some .int) ∈ lw_tbl := mt_3 (List.mem_of_getElem? (i := 225) rfl)
theorem wd_589 : Cond.selects RX4 yX4_reckon yX4_reckon ∈ lw_tbl := mp_2 (q := (⟨"OneOfEach$Minds", "reckon", "(II)I"⟩, 7)) (List.mem_of_getElem? (i := 9) rfl)
theorem wd_590 : Cond.instanceMethod yX4_reckon ∈ lw_tbl := mt_3 (List.mem_of_getElem? (i := 224) rfl)
theorem wd_591 : Cond.methodLink RX4 83 yX4_reckon ∈ lw_tbl := mt_3 (List.mem_of_getElem? (i := 222) rfl)
theorem wd_592 : Cond.fieldLink RX4 92 "OneOfEach$Plan" "mind" "[I" ∈ lw_tbl := mt_1 (List.mem_of_getElem? (i := 49) rfl)
theorem wd_593 : Cond.fieldLink RX4 23 "OneOfEach$Minds" "facts" "[I" ∈ lw_tbl := mt_1 (List.mem_of_getElem? (i := 222) rfl)
theorem wd_594 : Cond.code yX4_learn cX4_learn 4 none ∈ lw_tbl := mt_3 (List.mem_of_getElem? (i := 221) rfl)
theorem wd_595 : Cond.selects RX4 yX4_learn yX4_learn ∈ lw_tbl := mp_2 (q := (⟨"OneOfEach$Minds", "learn", "(III)V"⟩, 7)) (List.mem_of_getElem? (i := 8) rfl)
theorem wd_596 : Cond.instanceMethod yX4_learn ∈ lw_tbl := mt_3 (List.mem_of_getElem? (i := 220) rfl)
theorem wd_597 : Cond.methodLink RX4 79 yX4_learn ∈ lw_tbl := mt_3 (List.mem_of_getElem? (i := 218) rfl)
theorem wd_598 : Cond.fieldLink RX4 76 "OneOfEach$Plan" "letsTo" "I" ∈ lw_tbl := mt_1 (List.mem_of_getElem? (i := 71) rfl)
theorem wd_599 : Cond.fieldLink RX4 73 "OneOfEach$Plan" "letsFrom" "I" ∈ lw_tbl := mt_1 (List.mem_of_getElem? (i := 68) rfl)
theorem wd_600 : Cond.fieldLink RX4 68 "OneOfEach$Plan" "purse" "[I" ∈ lw_tbl := mt_1 (List.mem_of_getElem? (i := 45) rfl)
theorem wd_601 : Cond.code yX4_lets cX4_lets 4 (some .boolean) ∈ lw_tbl := mt_3 (List.mem_of_getElem? (i := 217) rfl)
theorem wd_602 : Cond.selects RX4 yX4_lets yX4_lets ∈ lw_tbl := mp_2 (q := (⟨"OneOfEach$Minds", "lets", "(III)Z"⟩, 7)) (List.mem_of_getElem? (i := 7) rfl)
set_option maxRecDepth 20000 in
theorem hl_wsX11_kind_r3 : ∀ w ∈ wsX11_kind_r3, w ∈ lw_tbl := by
  unfold wsX11_kind_r3
  exact (List.forall_mem_cons.mpr ⟨wd_602, (List.forall_mem_cons.mpr ⟨wd_601, (List.forall_mem_cons.mpr ⟨wd_600, (List.forall_mem_cons.mpr ⟨wd_599, (List.forall_mem_cons.mpr ⟨wd_598, (List.forall_mem_cons.mpr ⟨wd_597, (List.forall_mem_cons.mpr ⟨wd_596, (List.forall_mem_cons.mpr ⟨wd_595, (List.forall_mem_cons.mpr ⟨wd_594, (List.forall_mem_cons.mpr ⟨wd_593, (List.forall_mem_cons.mpr ⟨wd_592, (List.forall_mem_cons.mpr ⟨wd_591, (List.forall_mem_cons.mpr ⟨wd_590, (List.forall_mem_cons.mpr ⟨wd_589, (List.forall_mem_cons.mpr ⟨wd_588, (List.forall_mem_cons.mpr ⟨wd_587, (List.forall_mem_cons.mpr ⟨wd_586, (List.forall_mem_cons.mpr ⟨wd_585, (List.forall_mem_cons.mpr ⟨wd_584, (List.forall_mem_cons.mpr ⟨wd_583, (List.forall_mem_cons.mpr ⟨wd_582, (List.forall_mem_cons.mpr ⟨wd_581, (List.forall_mem_cons.mpr ⟨wd_580, (List.forall_mem_cons.mpr ⟨wd_579, (fun _ h => absurd h List.not_mem_nil)⟩)⟩)⟩)⟩)⟩)⟩)⟩)⟩)⟩)⟩)⟩)⟩)⟩)⟩)⟩)⟩)⟩)⟩)⟩)⟩)⟩)⟩)⟩)⟩)
theorem wd_603 : Cond.fieldLink RX4 89 "OneOfEach$Plan" "wantsTo" "I" ∈ lw_tbl := mt_1 (List.mem_of_getElem? (i := 65) rfl)
theorem wd_604 : Cond.fieldLink RX4 86 "OneOfEach$Plan" "wantsFrom" "I" ∈ lw_tbl := mt_1 (List.mem_of_getElem? (i := 62) rfl)
theorem wd_605 : Cond.code yX4_wish cX4_wish 4 (some .int) ∈ lw_tbl := mt_3 (List.mem_of_getElem? (i := 236) rfl)
theorem wd_606 : Cond.selects RX4 yX4_wish yX4_wish ∈ lw_tbl := mt_3 (List.mem_of_getElem? (i := 235) rfl)
theorem wd_607 : Cond.instanceMethod yX4_wish ∈ lw_tbl := mt_3 (List.mem_of_getElem? (i := 234) rfl)
theorem wd_608 : Cond.methodLink RX4 58 yX4_wish ∈ lw_tbl := mt_3 (List.mem_of_getElem? (i := 233) rfl)
set_option maxRecDepth 20000 in
theorem hl_wsX11_kind_r4 : ∀ w ∈ wsX11_kind_r4, w ∈ lw_tbl := by
  unfold wsX11_kind_r4
  exact (List.forall_mem_cons.mpr ⟨wd_608, (List.forall_mem_cons.mpr ⟨wd_607, (List.forall_mem_cons.mpr ⟨wd_606, (List.forall_mem_cons.mpr ⟨wd_605, (List.forall_mem_cons.mpr ⟨wd_604, (List.forall_mem_cons.mpr ⟨wd_603, (fun _ h => absurd h List.not_mem_nil)⟩)⟩)⟩)⟩)⟩)⟩)
set_option maxRecDepth 20000 in
theorem hl_wsX11_kind : ∀ w ∈ wsX11_kind, w ∈ lw_tbl := by
  unfold wsX11_kind
  exact (List.forall_mem_cons.mpr ⟨wd_539, (List.forall_mem_append.mpr ⟨(List.forall_mem_append.mpr ⟨(List.forall_mem_append.mpr ⟨(List.forall_mem_append.mpr ⟨(List.forall_mem_append.mpr ⟨hl_wsX11_kind_r1, (List.forall_mem_append.mpr ⟨hl_wsX11_kind_r2, (List.forall_mem_append.mpr ⟨hl_wsX11_kind_r3, hl_wsX11_kind_r4⟩)⟩)⟩), hl_wsX110⟩), hl_wsX90⟩), hl_wsX70⟩), hl_wsX40⟩)⟩)
theorem wd_609 : Cond.selects RX12 yX12_kind yX12_kind ∈ lw_tbl := mt_7 (List.mem_of_getElem? (i := 5) rfl)
theorem wd_610 : Cond.instanceMethod yX12_kind ∈ lw_tbl := mt_7 (List.mem_of_getElem? (i := 4) rfl)
theorem wd_611 : Cond.methodLink RL 31 yX12_kind ∈ lw_tbl := mt_7 (List.mem_of_getElem? (i := 3) rfl)
theorem wd_612 : Cond.code yX12_kind cX12_kind 3 (some .int) ∈ lw_tbl := mt_7 (List.mem_of_getElem? (i := 6) rfl)
theorem wd_613 : Cond.instanceMethod yX12_isShutBy ∈ lw_tbl := mt_7 (List.mem_of_getElem? (i := 25) rfl)
theorem wd_614 : Cond.methodLink RX12 210 yX12_isShutBy ∈ lw_tbl := mt_7 (List.mem_of_getElem? (i := 23) rfl)
theorem wd_615 : Cond.code yX12_buysOf cX12_buysOf 7 (some .int) ∈ lw_tbl := mt_7 (List.mem_of_getElem? (i := 22) rfl)
theorem wd_616 : Cond.selects RX12 yX12_buysOf yX12_buysOf ∈ lw_tbl := mp_5 (q := (⟨"OneOfEachModel", "buysOf", "(II)I"⟩, 32)) (List.mem_of_getElem? (i := 10) rfl)
theorem wd_617 : Cond.instanceMethod yX12_buysOf ∈ lw_tbl := mt_7 (List.mem_of_getElem? (i := 21) rfl)
theorem wd_618 : Cond.methodLink RX12 239 yX12_buysOf ∈ lw_tbl := mt_7 (List.mem_of_getElem? (i := 19) rfl)
theorem wd_619 : Cond.code yX12_buysNow cX12_buysNow 2 (some .int) ∈ lw_tbl := mt_7 (List.mem_of_getElem? (i := 18) rfl)
theorem wd_620 : Cond.selects RX12 yX12_buysNow yX12_buysNow ∈ lw_tbl := mp_5 (q := (⟨"OneOfEachModel", "buysNow", "(I)I"⟩, 32)) (List.mem_of_getElem? (i := 9) rfl)
theorem wd_621 : Cond.instanceMethod yX12_buysNow ∈ lw_tbl := mt_7 (List.mem_of_getElem? (i := 17) rfl)
theorem wd_622 : Cond.methodLink RX12 242 yX12_buysNow ∈ lw_tbl := mt_7 (List.mem_of_getElem? (i := 15) rfl)
theorem wd_623 : Cond.code yX12_whoBuys cX12_whoBuys 4 (some .int) ∈ lw_tbl := mt_7 (List.mem_of_getElem? (i := 14) rfl)
theorem wd_624 : Cond.selects RX12 yX12_whoBuys yX12_whoBuys ∈ lw_tbl := mp_5 (q := (⟨"OneOfEachModel", "whoBuys", "(I)I"⟩, 32)) (List.mem_of_getElem? (i := 8) rfl)
theorem wd_625 : Cond.instanceMethod yX12_whoBuys ∈ lw_tbl := mt_7 (List.mem_of_getElem? (i := 13) rfl)
theorem wd_626 : Cond.methodLink RX12 249 yX12_whoBuys ∈ lw_tbl := mt_7 (List.mem_of_getElem? (i := 11) rfl)
theorem wd_627 : Cond.code yX12_isKind cX12_isKind 3 (some .boolean) ∈ lw_tbl := mt_7 (List.mem_of_getElem? (i := 10) rfl)
theorem wd_628 : Cond.selects RX12 yX12_isKind yX12_isKind ∈ lw_tbl := mp_5 (q := (⟨"OneOfEachModel", "isKind", "(J)Z"⟩, 32)) (List.mem_of_getElem? (i := 7) rfl)
theorem wd_629 : Cond.instanceMethod yX12_isKind ∈ lw_tbl := mt_7 (List.mem_of_getElem? (i := 9) rfl)
theorem wd_630 : Cond.methodLink RX12 245 yX12_isKind ∈ lw_tbl := mt_7 (List.mem_of_getElem? (i := 7) rfl)
set_option maxRecDepth 20000 in
theorem hl_wsX12_kind_r1 : ∀ w ∈ wsX12_kind_r1, w ∈ lw_tbl := by
  unfold wsX12_kind_r1
  exact (List.forall_mem_cons.mpr ⟨wd_34, (List.forall_mem_cons.mpr ⟨wd_423, (List.forall_mem_cons.mpr ⟨wd_630, (List.forall_mem_cons.mpr ⟨wd_629, (List.forall_mem_cons.mpr ⟨wd_628, (List.forall_mem_cons.mpr ⟨wd_27, (List.forall_mem_cons.mpr ⟨wd_627, (List.forall_mem_cons.mpr ⟨wd_422, (List.forall_mem_cons.mpr ⟨wd_421, (List.forall_mem_cons.mpr ⟨wd_420, (List.forall_mem_cons.mpr ⟨wd_626, (List.forall_mem_cons.mpr ⟨wd_625, (List.forall_mem_cons.mpr ⟨wd_624, (List.forall_mem_cons.mpr ⟨wd_623, (List.forall_mem_cons.mpr ⟨wd_622, (List.forall_mem_cons.mpr ⟨wd_621, (List.forall_mem_cons.mpr ⟨wd_620, (List.forall_mem_cons.mpr ⟨wd_619, (List.forall_mem_cons.mpr ⟨wd_618, (List.forall_mem_cons.mpr ⟨wd_617, (List.forall_mem_cons.mpr ⟨wd_616, (List.forall_mem_cons.mpr ⟨wd_615, (List.forall_mem_cons.mpr ⟨wd_614, (List.forall_mem_cons.mpr ⟨wd_613, (fun _ h => absurd h List.not_mem_nil)⟩)⟩)⟩)⟩)⟩)⟩)⟩)⟩)⟩)⟩)⟩)⟩)⟩)⟩)⟩)⟩)⟩)⟩)⟩)⟩)⟩)⟩)⟩)⟩)
theorem wd_631 : Cond.methodLink RX12 217 yX12_bitsOf ∈ lw_tbl := mt_7 (List.mem_of_getElem? (i := 46) rfl)
theorem wd_632 : Cond.fieldLink RX12 30 "OneOfEachModel" "reckoned" "[I" ∈ lw_tbl := mt_6 (List.mem_of_getElem? (i := 43) rfl)
theorem wd_633 : Cond.fieldLink RX12 33 "OneOfEachModel" "words" "[I" ∈ lw_tbl := mt_6 (List.mem_of_getElem? (i := 44) rfl)
theorem wd_634 : Cond.code yX12_reckons cX12_reckons 8 (some .int) ∈ lw_tbl := mt_7 (List.mem_of_getElem? (i := 45) rfl)
theorem wd_635 : Cond.selects RX12 yX12_reckons yX12_reckons ∈ lw_tbl := mp_5 (q := (⟨"OneOfEachModel", "reckons", "(IIII)I"⟩, 32)) (List.mem_of_getElem? (i := 15) rfl)
theorem wd_636 : Cond.instanceMethod yX12_reckons ∈ lw_tbl := mt_7 (List.mem_of_getElem? (i := 44) rfl)
theorem wd_637 : Cond.methodLink RX12 224 yX12_reckons ∈ lw_tbl := mt_7 (List.mem_of_getElem? (i := 42) rfl)
theorem wd_638 : Cond.code yX12_isIn cX12_isIn 3 (some .boolean) ∈ lw_tbl := mt_7 (List.mem_of_getElem? (i := 41) rfl)
theorem wd_639 : Cond.static yX12_isIn ∈ lw_tbl := mt_7 (List.mem_of_getElem? (i := 40) rfl)
theorem wd_640 : Cond.methodLink RX12 228 yX12_isIn ∈ lw_tbl := mt_7 (List.mem_of_getElem? (i := 39) rfl)
theorem wd_641 : Cond.code yX12_mayBuy cX12_mayBuy 4 (some .boolean) ∈ lw_tbl := mt_7 (List.mem_of_getElem? (i := 38) rfl)
theorem wd_642 : Cond.selects RX12 yX12_mayBuy yX12_mayBuy ∈ lw_tbl := mp_5 (q := (⟨"OneOfEachModel", "mayBuy", "(III)Z"⟩, 32)) (List.mem_of_getElem? (i := 14) rfl)
theorem wd_643 : Cond.instanceMethod yX12_mayBuy ∈ lw_tbl := mt_7 (List.mem_of_getElem? (i := 37) rfl)
theorem wd_644 : Cond.methodLink RX12 232 yX12_mayBuy ∈ lw_tbl := mt_7 (List.mem_of_getElem? (i := 35) rfl)
theorem wd_645 : Cond.code yX12_everyKind cX12_everyKind 1 (some .int) ∈ lw_tbl := mt_7 (List.mem_of_getElem? (i := 34) rfl)
theorem wd_646 : Cond.selects RX12 yX12_everyKind yX12_everyKind ∈ lw_tbl := mp_5 (q := (⟨"OneOfEachModel", "everyKind", "()I"⟩, 32)) (List.mem_of_getElem? (i := 13) rfl)
theorem wd_647 : Cond.instanceMethod yX12_everyKind ∈ lw_tbl := mt_7 (List.mem_of_getElem? (i := 33) rfl)
theorem wd_648 : Cond.methodLink RX12 204 yX12_everyKind ∈ lw_tbl := mt_7 (List.mem_of_getElem? (i := 31) rfl)
theorem wd_649 : Cond.code yX12_shown cX12_shown 1 (some .int) ∈ lw_tbl := mt_7 (List.mem_of_getElem? (i := 30) rfl)
theorem wd_650 : Cond.selects RX12 yX12_shown yX12_shown ∈ lw_tbl := mp_5 (q := (⟨"OneOfEachModel", "shown", "()I"⟩, 32)) (List.mem_of_getElem? (i := 12) rfl)
theorem wd_651 : Cond.instanceMethod yX12_shown ∈ lw_tbl := mt_7 (List.mem_of_getElem? (i := 29) rfl)
theorem wd_652 : Cond.methodLink RX12 207 yX12_shown ∈ lw_tbl := mt_7 (List.mem_of_getElem? (i := 27) rfl)
theorem wd_653 : Cond.code yX12_isShutBy cX12_isShutBy 2 (some .boolean) ∈ lw_tbl := mt_7 (List.mem_of_getElem? (i := 26) rfl)
theorem wd_654 : Cond.selects RX12 yX12_isShutBy yX12_isShutBy ∈ lw_tbl := mp_5 (q := (⟨"OneOfEachModel", "isShutBy", "(I)Z"⟩, 32)) (List.mem_of_getElem? (i := 11) rfl)
set_option maxRecDepth 20000 in
theorem hl_wsX12_kind_r2 : ∀ w ∈ wsX12_kind_r2, w ∈ lw_tbl := by
  unfold wsX12_kind_r2
  exact (List.forall_mem_cons.mpr ⟨wd_654, (List.forall_mem_cons.mpr ⟨wd_653, (List.forall_mem_cons.mpr ⟨wd_652, (List.forall_mem_cons.mpr ⟨wd_651, (List.forall_mem_cons.mpr ⟨wd_650, (List.forall_mem_cons.mpr ⟨wd_649, (List.forall_mem_cons.mpr ⟨wd_648, (List.forall_mem_cons.mpr ⟨wd_647, (List.forall_mem_cons.mpr ⟨wd_646, (List.forall_mem_cons.mpr ⟨wd_645, (List.forall_mem_cons.mpr ⟨wd_644, (List.forall_mem_cons.mpr ⟨wd_643, (List.forall_mem_cons.mpr ⟨wd_642, (List.forall_mem_cons.mpr ⟨wd_641, (List.forall_mem_cons.mpr ⟨wd_640, (List.forall_mem_cons.mpr ⟨wd_639, (List.forall_mem_cons.mpr ⟨wd_638, (List.forall_mem_cons.mpr ⟨wd_637, (List.forall_mem_cons.mpr ⟨wd_636, (List.forall_mem_cons.mpr ⟨wd_635, (List.forall_mem_cons.mpr ⟨wd_634, (List.forall_mem_cons.mpr ⟨wd_633, (List.forall_mem_cons.mpr ⟨wd_632, (List.forall_mem_cons.mpr ⟨wd_631, (fun _ h => absurd h List.not_mem_nil)⟩)⟩)⟩)⟩)⟩)⟩)⟩)⟩)⟩)⟩)⟩)⟩)⟩)⟩)⟩)⟩)⟩)⟩)⟩)⟩)⟩)⟩)⟩)⟩)
theorem wd_655 : Cond.code yX12_wantsOf cX12_wantsOf 4 (some .int) ∈ lw_tbl := mt_7 (List.mem_of_getElem? (i := 57) rfl)
theorem wd_656 : Cond.selects RX12 yX12_wantsOf yX12_wantsOf ∈ lw_tbl := mp_6 (q := (⟨"OneOfEachModel", "wantsOf", "(III)I"⟩, 32)) (List.mem_of_getElem? (i := 0) rfl)
theorem wd_657 : Cond.instanceMethod yX12_wantsOf ∈ lw_tbl := mt_7 (List.mem_of_getElem? (i := 56) rfl)
theorem wd_658 : Cond.methodLink RX12 236 yX12_wantsOf ∈ lw_tbl := mt_7 (List.mem_of_getElem? (i := 54) rfl)
theorem wd_659 : Cond.constantLong RX12 215 (-1000000) ∈ lw_tbl := mt_7 (List.mem_of_getElem? (i := 53) rfl)
theorem wd_660 : Cond.constantLong RX12 213 (1000000) ∈ lw_tbl := mt_7 (List.mem_of_getElem? (i := 52) rfl)
theorem wd_661 : Cond.code yX12_between cX12_between 5 (some .int) ∈ lw_tbl := mt_7 (List.mem_of_getElem? (i := 51) rfl)
theorem wd_662 : Cond.static yX12_between ∈ lw_tbl := mt_7 (List.mem_of_getElem? (i := 50) rfl)
theorem wd_663 : Cond.methodLink RX12 220 yX12_between ∈ lw_tbl := mt_7 (List.mem_of_getElem? (i := 49) rfl)
theorem wd_664 : Cond.code yX12_bitsOf cX12_bitsOf 3 (some .int) ∈ lw_tbl := mt_7 (List.mem_of_getElem? (i := 48) rfl)
theorem wd_665 : Cond.static yX12_bitsOf ∈ lw_tbl := mt_7 (List.mem_of_getElem? (i := 47) rfl)
set_option maxRecDepth 20000 in
theorem hl_wsX12_kind_r3 : ∀ w ∈ wsX12_kind_r3, w ∈ lw_tbl := by
  unfold wsX12_kind_r3
  exact (List.forall_mem_cons.mpr ⟨wd_665, (List.forall_mem_cons.mpr ⟨wd_664, (List.forall_mem_cons.mpr ⟨wd_663, (List.forall_mem_cons.mpr ⟨wd_662, (List.forall_mem_cons.mpr ⟨wd_661, (List.forall_mem_cons.mpr ⟨wd_660, (List.forall_mem_cons.mpr ⟨wd_659, (List.forall_mem_cons.mpr ⟨wd_658, (List.forall_mem_cons.mpr ⟨wd_657, (List.forall_mem_cons.mpr ⟨wd_656, (List.forall_mem_cons.mpr ⟨wd_655, (fun _ h => absurd h List.not_mem_nil)⟩)⟩)⟩)⟩)⟩)⟩)⟩)⟩)⟩)⟩)⟩)
set_option maxRecDepth 20000 in
theorem hl_wsX12_kind : ∀ w ∈ wsX12_kind, w ∈ lw_tbl := by
  unfold wsX12_kind
  exact (List.forall_mem_cons.mpr ⟨wd_612, (List.forall_mem_append.mpr ⟨(List.forall_mem_append.mpr ⟨hl_wsX12_kind_r1, (List.forall_mem_append.mpr ⟨hl_wsX12_kind_r2, hl_wsX12_kind_r3⟩)⟩), hl_wsX120⟩)⟩)
def tL_kind : List Cond := (wsV RL 27 RX11 yX11_kind wsX11_kind) ++ (wsV RL 31 RX12 yX12_kind wsX12_kind)
theorem tL_kind_in : ∀ w ∈ tL_kind, w ∈ lw_tbl := by
  unfold tL_kind
  exact (List.forall_mem_append.mpr ⟨(List.forall_mem_append.mpr ⟨(List.forall_mem_cons.mpr ⟨wd_538, (List.forall_mem_cons.mpr ⟨wd_537, (List.forall_mem_cons.mpr ⟨wd_536, (List.forall_mem_cons.mpr ⟨wd_0, (fun _ h => absurd h List.not_mem_nil)⟩)⟩)⟩)⟩), hl_wsX11_kind⟩), (List.forall_mem_append.mpr ⟨(List.forall_mem_cons.mpr ⟨wd_611, (List.forall_mem_cons.mpr ⟨wd_610, (List.forall_mem_cons.mpr ⟨wd_609, (List.forall_mem_cons.mpr ⟨wd_27, (fun _ h => absurd h List.not_mem_nil)⟩)⟩)⟩)⟩), hl_wsX12_kind⟩)⟩)
set_option maxRecDepth 20000 in
theorem tL_kind_x : GoodIn tL_kind (wsV RL 27 RX11 yX11_kind wsX11_kind) := fun w h => ⟨List.mem_append_left _ h, good_of_word (List.all_eq_true.mp (show (wsV RL 27 RX11 yX11_kind wsX11_kind).all goodWord = true by decide +kernel) w h)⟩
set_option maxRecDepth 20000 in
theorem tL_kind_m : GoodIn tL_kind (wsV RL 31 RX12 yX12_kind wsX12_kind) := fun w h => ⟨List.mem_append_right _ h, good_of_word (List.all_eq_true.mp (show (wsV RL 31 RX12 yX12_kind wsX12_kind).all goodWord = true by decide +kernel) w h)⟩
theorem hdLX11_kind : yX11_kind.cls = RX11 ∧ yX11_kind.cls ≠ "java/lang/invoke/MethodHandle" ∧ yX11_kind.cls ≠ "java/lang/invoke/VarHandle" ∧ (parseMethodDescriptor yX11_kind.desc).map (fun d => d.parameters.length) = some 2 := by decide +kernel
theorem hdLX12_kind : yX12_kind.cls = RX12 ∧ yX12_kind.cls ≠ "java/lang/invoke/MethodHandle" ∧ yX12_kind.cls ≠ "java/lang/invoke/VarHandle" ∧ (parseMethodDescriptor yX12_kind.desc).map (fun d => d.parameters.length) = some 2 := by decide +kernel
theorem wd_666 : Cond.selects RX11 yX11_buyer yX11_buyer ∈ lw_tbl := mt_4 (List.mem_of_getElem? (i := 0) rfl)
theorem wd_667 : Cond.instanceMethod yX11_buyer ∈ lw_tbl := mt_3 (List.mem_of_getElem? (i := 239) rfl)
theorem wd_668 : Cond.methodLink RL 32 yX11_buyer ∈ lw_tbl := mt_3 (List.mem_of_getElem? (i := 238) rfl)
theorem wd_669 : Cond.code yX11_buyer cX11_buyer 3 (some .int) ∈ lw_tbl := mt_4 (List.mem_of_getElem? (i := 1) rfl)
theorem wd_670 : Cond.code yX11_isBuyer cX11_isBuyer 2 (some .boolean) ∈ lw_tbl := mt_4 (List.mem_of_getElem? (i := 5) rfl)
theorem wd_671 : Cond.selects RX11 yX11_isBuyer yX11_isBuyer ∈ lw_tbl := mp_2 (q := (⟨"OneOfEach", "isBuyer", "(I)Z"⟩, 16)) (List.mem_of_getElem? (i := 10) rfl)
theorem wd_672 : Cond.instanceMethod yX11_isBuyer ∈ lw_tbl := mt_4 (List.mem_of_getElem? (i := 4) rfl)
theorem wd_673 : Cond.methodLink RX11 173 yX11_isBuyer ∈ lw_tbl := mt_4 (List.mem_of_getElem? (i := 2) rfl)
theorem wd_674 : Cond.fieldLink RX11 182 "OneOfEach$Plan" "odds" "[I" ∈ lw_tbl := mt_1 (List.mem_of_getElem? (i := 53) rfl)
theorem wd_675 : Cond.fieldLink RX11 179 "OneOfEach$Plan" "mind" "[I" ∈ lw_tbl := mt_1 (List.mem_of_getElem? (i := 50) rfl)
theorem wd_676 : Cond.fieldLink RX11 176 "OneOfEach$Plan" "purse" "[I" ∈ lw_tbl := mt_1 (List.mem_of_getElem? (i := 46) rfl)
set_option maxRecDepth 20000 in
theorem hl_wsX11_buyer_r1 : ∀ w ∈ wsX11_buyer_r1, w ∈ lw_tbl := by
  unfold wsX11_buyer_r1
  exact (List.forall_mem_cons.mpr ⟨wd_335, (List.forall_mem_cons.mpr ⟨wd_85, (List.forall_mem_cons.mpr ⟨wd_84, (List.forall_mem_cons.mpr ⟨wd_676, (List.forall_mem_cons.mpr ⟨wd_675, (List.forall_mem_cons.mpr ⟨wd_674, (List.forall_mem_cons.mpr ⟨wd_556, (List.forall_mem_cons.mpr ⟨wd_555, (List.forall_mem_cons.mpr ⟨wd_673, (List.forall_mem_cons.mpr ⟨wd_672, (List.forall_mem_cons.mpr ⟨wd_671, (List.forall_mem_cons.mpr ⟨wd_0, (List.forall_mem_cons.mpr ⟨wd_670, (List.forall_mem_cons.mpr ⟨wd_545, (List.forall_mem_cons.mpr ⟨wd_544, (List.forall_mem_cons.mpr ⟨wd_543, (List.forall_mem_cons.mpr ⟨wd_542, (List.forall_mem_cons.mpr ⟨wd_362, (List.forall_mem_cons.mpr ⟨wd_541, (List.forall_mem_cons.mpr ⟨wd_540, (List.forall_mem_cons.mpr ⟨wd_578, (List.forall_mem_cons.mpr ⟨wd_577, (List.forall_mem_cons.mpr ⟨wd_360, (List.forall_mem_cons.mpr ⟨wd_576, (fun _ h => absurd h List.not_mem_nil)⟩)⟩)⟩)⟩)⟩)⟩)⟩)⟩)⟩)⟩)⟩)⟩)⟩)⟩)⟩)⟩)⟩)⟩)⟩)⟩)⟩)⟩)⟩)⟩)
theorem wd_677 : Cond.code yX4_allowed cX4_allowed 6 (some .int) ∈ lw_tbl := mt_4 (List.mem_of_getElem? (i := 9) rfl)
theorem wd_678 : Cond.selects RX4 yX4_allowed yX4_allowed ∈ lw_tbl := mt_4 (List.mem_of_getElem? (i := 8) rfl)
theorem wd_679 : Cond.instanceMethod yX4_allowed ∈ lw_tbl := mt_4 (List.mem_of_getElem? (i := 7) rfl)
theorem wd_680 : Cond.methodLink RX11 185 yX4_allowed ∈ lw_tbl := mt_4 (List.mem_of_getElem? (i := 6) rfl)
set_option maxRecDepth 20000 in
theorem hl_wsX11_buyer_r2 : ∀ w ∈ wsX11_buyer_r2, w ∈ lw_tbl := by
  unfold wsX11_buyer_r2
  exact (List.forall_mem_cons.mpr ⟨wd_575, (List.forall_mem_cons.mpr ⟨wd_574, (List.forall_mem_cons.mpr ⟨wd_573, (List.forall_mem_cons.mpr ⟨wd_680, (List.forall_mem_cons.mpr ⟨wd_679, (List.forall_mem_cons.mpr ⟨wd_678, (List.forall_mem_cons.mpr ⟨wd_677, (List.forall_mem_cons.mpr ⟨wd_560, (List.forall_mem_cons.mpr ⟨wd_559, (List.forall_mem_cons.mpr ⟨wd_602, (List.forall_mem_cons.mpr ⟨wd_601, (List.forall_mem_cons.mpr ⟨wd_600, (List.forall_mem_cons.mpr ⟨wd_599, (List.forall_mem_cons.mpr ⟨wd_598, (List.forall_mem_cons.mpr ⟨wd_597, (List.forall_mem_cons.mpr ⟨wd_596, (List.forall_mem_cons.mpr ⟨wd_595, (List.forall_mem_cons.mpr ⟨wd_594, (List.forall_mem_cons.mpr ⟨wd_593, (List.forall_mem_cons.mpr ⟨wd_592, (List.forall_mem_cons.mpr ⟨wd_567, (List.forall_mem_cons.mpr ⟨wd_566, (List.forall_mem_cons.mpr ⟨wd_565, (List.forall_mem_cons.mpr ⟨wd_564, (fun _ h => absurd h List.not_mem_nil)⟩)⟩)⟩)⟩)⟩)⟩)⟩)⟩)⟩)⟩)⟩)⟩)⟩)⟩)⟩)⟩)⟩)⟩)⟩)⟩)⟩)⟩)⟩)⟩)
set_option maxRecDepth 20000 in
theorem hl_wsX11_buyer_r3 : ∀ w ∈ wsX11_buyer_r3, w ∈ lw_tbl := by
  unfold wsX11_buyer_r3
  exact (List.forall_mem_cons.mpr ⟨wd_563, (List.forall_mem_cons.mpr ⟨wd_562, (List.forall_mem_cons.mpr ⟨wd_561, (List.forall_mem_cons.mpr ⟨wd_591, (List.forall_mem_cons.mpr ⟨wd_590, (List.forall_mem_cons.mpr ⟨wd_589, (List.forall_mem_cons.mpr ⟨wd_588, (List.forall_mem_cons.mpr ⟨wd_587, (List.forall_mem_cons.mpr ⟨wd_586, (List.forall_mem_cons.mpr ⟨wd_585, (List.forall_mem_cons.mpr ⟨wd_584, (List.forall_mem_cons.mpr ⟨wd_583, (List.forall_mem_cons.mpr ⟨wd_582, (List.forall_mem_cons.mpr ⟨wd_581, (List.forall_mem_cons.mpr ⟨wd_580, (List.forall_mem_cons.mpr ⟨wd_579, (List.forall_mem_cons.mpr ⟨wd_572, (List.forall_mem_cons.mpr ⟨wd_571, (List.forall_mem_cons.mpr ⟨wd_570, (List.forall_mem_cons.mpr ⟨wd_569, (List.forall_mem_cons.mpr ⟨wd_568, (List.forall_mem_cons.mpr ⟨wd_134, (List.forall_mem_cons.mpr ⟨wd_133, (List.forall_mem_cons.mpr ⟨wd_132, (fun _ h => absurd h List.not_mem_nil)⟩)⟩)⟩)⟩)⟩)⟩)⟩)⟩)⟩)⟩)⟩)⟩)⟩)⟩)⟩)⟩)⟩)⟩)⟩)⟩)⟩)⟩)⟩)⟩)
set_option maxRecDepth 20000 in
theorem hl_wsX11_buyer_r4 : ∀ w ∈ wsX11_buyer_r4, w ∈ lw_tbl := by
  unfold wsX11_buyer_r4
  exact (List.forall_mem_cons.mpr ⟨wd_608, (List.forall_mem_cons.mpr ⟨wd_607, (List.forall_mem_cons.mpr ⟨wd_606, (List.forall_mem_cons.mpr ⟨wd_605, (List.forall_mem_cons.mpr ⟨wd_604, (List.forall_mem_cons.mpr ⟨wd_603, (fun _ h => absurd h List.not_mem_nil)⟩)⟩)⟩)⟩)⟩)⟩)
set_option maxRecDepth 20000 in
theorem hl_wsX11_buyer : ∀ w ∈ wsX11_buyer, w ∈ lw_tbl := by
  unfold wsX11_buyer
  exact (List.forall_mem_cons.mpr ⟨wd_669, (List.forall_mem_append.mpr ⟨(List.forall_mem_append.mpr ⟨(List.forall_mem_append.mpr ⟨(List.forall_mem_append.mpr ⟨(List.forall_mem_append.mpr ⟨hl_wsX11_buyer_r1, (List.forall_mem_append.mpr ⟨hl_wsX11_buyer_r2, (List.forall_mem_append.mpr ⟨hl_wsX11_buyer_r3, hl_wsX11_buyer_r4⟩)⟩)⟩), hl_wsX110⟩), hl_wsX70⟩), hl_wsX90⟩), hl_wsX40⟩)⟩)
theorem wd_681 : Cond.selects RX12 yX12_buyer yX12_buyer ∈ lw_tbl := mt_7 (List.mem_of_getElem? (i := 60) rfl)
theorem wd_682 : Cond.instanceMethod yX12_buyer ∈ lw_tbl := mt_7 (List.mem_of_getElem? (i := 59) rfl)
theorem wd_683 : Cond.methodLink RL 35 yX12_buyer ∈ lw_tbl := mt_7 (List.mem_of_getElem? (i := 58) rfl)
theorem wd_684 : Cond.code yX12_buyer cX12_buyer 3 (some .int) ∈ lw_tbl := mt_7 (List.mem_of_getElem? (i := 61) rfl)
theorem wd_685 : Cond.code yX12_mayNow cX12_mayNow 4 (some .int) ∈ lw_tbl := mt_7 (List.mem_of_getElem? (i := 69) rfl)
theorem wd_686 : Cond.selects RX12 yX12_mayNow yX12_mayNow ∈ lw_tbl := mp_6 (q := (⟨"OneOfEachModel", "mayNow", "(I)I"⟩, 32)) (List.mem_of_getElem? (i := 2) rfl)
theorem wd_687 : Cond.instanceMethod yX12_mayNow ∈ lw_tbl := mt_7 (List.mem_of_getElem? (i := 68) rfl)
theorem wd_688 : Cond.methodLink RX12 255 yX12_mayNow ∈ lw_tbl := mt_7 (List.mem_of_getElem? (i := 66) rfl)
theorem wd_689 : Cond.code yX12_isBuyer cX12_isBuyer 3 (some .boolean) ∈ lw_tbl := mt_7 (List.mem_of_getElem? (i := 65) rfl)
theorem wd_690 : Cond.selects RX12 yX12_isBuyer yX12_isBuyer ∈ lw_tbl := mp_6 (q := (⟨"OneOfEachModel", "isBuyer", "(J)Z"⟩, 32)) (List.mem_of_getElem? (i := 1) rfl)
theorem wd_691 : Cond.instanceMethod yX12_isBuyer ∈ lw_tbl := mt_7 (List.mem_of_getElem? (i := 64) rfl)
theorem wd_692 : Cond.methodLink RX12 252 yX12_isBuyer ∈ lw_tbl := mt_7 (List.mem_of_getElem? (i := 62) rfl)
set_option maxRecDepth 20000 in
theorem hl_wsX12_buyer_r1 : ∀ w ∈ wsX12_buyer_r1, w ∈ lw_tbl := by
  unfold wsX12_buyer_r1
  exact (List.forall_mem_cons.mpr ⟨wd_34, (List.forall_mem_cons.mpr ⟨wd_423, (List.forall_mem_cons.mpr ⟨wd_692, (List.forall_mem_cons.mpr ⟨wd_691, (List.forall_mem_cons.mpr ⟨wd_690, (List.forall_mem_cons.mpr ⟨wd_27, (List.forall_mem_cons.mpr ⟨wd_689, (List.forall_mem_cons.mpr ⟨wd_422, (List.forall_mem_cons.mpr ⟨wd_421, (List.forall_mem_cons.mpr ⟨wd_420, (List.forall_mem_cons.mpr ⟨wd_688, (List.forall_mem_cons.mpr ⟨wd_687, (List.forall_mem_cons.mpr ⟨wd_686, (List.forall_mem_cons.mpr ⟨wd_685, (List.forall_mem_cons.mpr ⟨wd_644, (List.forall_mem_cons.mpr ⟨wd_643, (List.forall_mem_cons.mpr ⟨wd_642, (List.forall_mem_cons.mpr ⟨wd_641, (List.forall_mem_cons.mpr ⟨wd_640, (List.forall_mem_cons.mpr ⟨wd_639, (List.forall_mem_cons.mpr ⟨wd_638, (List.forall_mem_cons.mpr ⟨wd_637, (List.forall_mem_cons.mpr ⟨wd_636, (List.forall_mem_cons.mpr ⟨wd_635, (fun _ h => absurd h List.not_mem_nil)⟩)⟩)⟩)⟩)⟩)⟩)⟩)⟩)⟩)⟩)⟩)⟩)⟩)⟩)⟩)⟩)⟩)⟩)⟩)⟩)⟩)⟩)⟩)⟩)
set_option maxRecDepth 20000 in
theorem hl_wsX12_buyer_r2 : ∀ w ∈ wsX12_buyer_r2, w ∈ lw_tbl := by
  unfold wsX12_buyer_r2
  exact (List.forall_mem_cons.mpr ⟨wd_634, (List.forall_mem_cons.mpr ⟨wd_633, (List.forall_mem_cons.mpr ⟨wd_632, (List.forall_mem_cons.mpr ⟨wd_631, (List.forall_mem_cons.mpr ⟨wd_665, (List.forall_mem_cons.mpr ⟨wd_664, (List.forall_mem_cons.mpr ⟨wd_663, (List.forall_mem_cons.mpr ⟨wd_662, (List.forall_mem_cons.mpr ⟨wd_661, (List.forall_mem_cons.mpr ⟨wd_660, (List.forall_mem_cons.mpr ⟨wd_659, (List.forall_mem_cons.mpr ⟨wd_622, (List.forall_mem_cons.mpr ⟨wd_621, (List.forall_mem_cons.mpr ⟨wd_620, (List.forall_mem_cons.mpr ⟨wd_619, (List.forall_mem_cons.mpr ⟨wd_618, (List.forall_mem_cons.mpr ⟨wd_617, (List.forall_mem_cons.mpr ⟨wd_616, (List.forall_mem_cons.mpr ⟨wd_615, (List.forall_mem_cons.mpr ⟨wd_614, (List.forall_mem_cons.mpr ⟨wd_613, (List.forall_mem_cons.mpr ⟨wd_654, (List.forall_mem_cons.mpr ⟨wd_653, (List.forall_mem_cons.mpr ⟨wd_652, (fun _ h => absurd h List.not_mem_nil)⟩)⟩)⟩)⟩)⟩)⟩)⟩)⟩)⟩)⟩)⟩)⟩)⟩)⟩)⟩)⟩)⟩)⟩)⟩)⟩)⟩)⟩)⟩)⟩)
set_option maxRecDepth 20000 in
theorem hl_wsX12_buyer_r3 : ∀ w ∈ wsX12_buyer_r3, w ∈ lw_tbl := by
  unfold wsX12_buyer_r3
  exact (List.forall_mem_cons.mpr ⟨wd_651, (List.forall_mem_cons.mpr ⟨wd_650, (List.forall_mem_cons.mpr ⟨wd_649, (List.forall_mem_cons.mpr ⟨wd_648, (List.forall_mem_cons.mpr ⟨wd_647, (List.forall_mem_cons.mpr ⟨wd_646, (List.forall_mem_cons.mpr ⟨wd_645, (List.forall_mem_cons.mpr ⟨wd_658, (List.forall_mem_cons.mpr ⟨wd_657, (List.forall_mem_cons.mpr ⟨wd_656, (List.forall_mem_cons.mpr ⟨wd_655, (fun _ h => absurd h List.not_mem_nil)⟩)⟩)⟩)⟩)⟩)⟩)⟩)⟩)⟩)⟩)⟩)
set_option maxRecDepth 20000 in
theorem hl_wsX12_buyer : ∀ w ∈ wsX12_buyer, w ∈ lw_tbl := by
  unfold wsX12_buyer
  exact (List.forall_mem_cons.mpr ⟨wd_684, (List.forall_mem_append.mpr ⟨(List.forall_mem_append.mpr ⟨hl_wsX12_buyer_r1, (List.forall_mem_append.mpr ⟨hl_wsX12_buyer_r2, hl_wsX12_buyer_r3⟩)⟩), hl_wsX120⟩)⟩)
def tL_buyer : List Cond := (wsV RL 32 RX11 yX11_buyer wsX11_buyer) ++ (wsV RL 35 RX12 yX12_buyer wsX12_buyer)
theorem tL_buyer_in : ∀ w ∈ tL_buyer, w ∈ lw_tbl := by
  unfold tL_buyer
  exact (List.forall_mem_append.mpr ⟨(List.forall_mem_append.mpr ⟨(List.forall_mem_cons.mpr ⟨wd_668, (List.forall_mem_cons.mpr ⟨wd_667, (List.forall_mem_cons.mpr ⟨wd_666, (List.forall_mem_cons.mpr ⟨wd_0, (fun _ h => absurd h List.not_mem_nil)⟩)⟩)⟩)⟩), hl_wsX11_buyer⟩), (List.forall_mem_append.mpr ⟨(List.forall_mem_cons.mpr ⟨wd_683, (List.forall_mem_cons.mpr ⟨wd_682, (List.forall_mem_cons.mpr ⟨wd_681, (List.forall_mem_cons.mpr ⟨wd_27, (fun _ h => absurd h List.not_mem_nil)⟩)⟩)⟩)⟩), hl_wsX12_buyer⟩)⟩)
set_option maxRecDepth 20000 in
theorem tL_buyer_x : GoodIn tL_buyer (wsV RL 32 RX11 yX11_buyer wsX11_buyer) := fun w h => ⟨List.mem_append_left _ h, good_of_word (List.all_eq_true.mp (show (wsV RL 32 RX11 yX11_buyer wsX11_buyer).all goodWord = true by decide +kernel) w h)⟩
set_option maxRecDepth 20000 in
theorem tL_buyer_m : GoodIn tL_buyer (wsV RL 35 RX12 yX12_buyer wsX12_buyer) := fun w h => ⟨List.mem_append_right _ h, good_of_word (List.all_eq_true.mp (show (wsV RL 35 RX12 yX12_buyer wsX12_buyer).all goodWord = true by decide +kernel) w h)⟩
theorem hdLX11_buyer : yX11_buyer.cls = RX11 ∧ yX11_buyer.cls ≠ "java/lang/invoke/MethodHandle" ∧ yX11_buyer.cls ≠ "java/lang/invoke/VarHandle" ∧ (parseMethodDescriptor yX11_buyer.desc).map (fun d => d.parameters.length) = some 2 := by decide +kernel
theorem hdLX12_buyer : yX12_buyer.cls = RX12 ∧ yX12_buyer.cls ≠ "java/lang/invoke/MethodHandle" ∧ yX12_buyer.cls ≠ "java/lang/invoke/VarHandle" ∧ (parseMethodDescriptor yX12_buyer.desc).map (fun d => d.parameters.length) = some 2 := by decide +kernel
theorem wd_693 : Cond.selects RX11 yX11_wants yX11_wants ∈ lw_tbl := mt_4 (List.mem_of_getElem? (i := 12) rfl)
theorem wd_694 : Cond.instanceMethod yX11_wants ∈ lw_tbl := mt_4 (List.mem_of_getElem? (i := 11) rfl)
theorem wd_695 : Cond.methodLink RL 36 yX11_wants ∈ lw_tbl := mt_4 (List.mem_of_getElem? (i := 10) rfl)
theorem wd_696 : Cond.code yX11_wants cX11_wants 3 (some .int) ∈ lw_tbl := mt_4 (List.mem_of_getElem? (i := 13) rfl)
theorem wd_697 : Cond.constant RX11 188 (-99000002) ∈ lw_tbl := mt_4 (List.mem_of_getElem? (i := 14) rfl)
set_option maxRecDepth 20000 in
theorem hl_wsX11_wants_r1 : ∀ w ∈ wsX11_wants_r1, w ∈ lw_tbl := by
  unfold wsX11_wants_r1
  exact (List.forall_mem_cons.mpr ⟨wd_697, (List.forall_mem_cons.mpr ⟨wd_335, (List.forall_mem_cons.mpr ⟨wd_85, (List.forall_mem_cons.mpr ⟨wd_84, (List.forall_mem_cons.mpr ⟨wd_556, (List.forall_mem_cons.mpr ⟨wd_673, (List.forall_mem_cons.mpr ⟨wd_672, (List.forall_mem_cons.mpr ⟨wd_671, (List.forall_mem_cons.mpr ⟨wd_0, (List.forall_mem_cons.mpr ⟨wd_670, (List.forall_mem_cons.mpr ⟨wd_545, (List.forall_mem_cons.mpr ⟨wd_554, (List.forall_mem_cons.mpr ⟨wd_553, (List.forall_mem_cons.mpr ⟨wd_552, (List.forall_mem_cons.mpr ⟨wd_551, (List.forall_mem_cons.mpr ⟨wd_550, (List.forall_mem_cons.mpr ⟨wd_544, (List.forall_mem_cons.mpr ⟨wd_543, (List.forall_mem_cons.mpr ⟨wd_542, (List.forall_mem_cons.mpr ⟨wd_362, (List.forall_mem_cons.mpr ⟨wd_541, (List.forall_mem_cons.mpr ⟨wd_540, (List.forall_mem_cons.mpr ⟨wd_578, (List.forall_mem_cons.mpr ⟨wd_577, (fun _ h => absurd h List.not_mem_nil)⟩)⟩)⟩)⟩)⟩)⟩)⟩)⟩)⟩)⟩)⟩)⟩)⟩)⟩)⟩)⟩)⟩)⟩)⟩)⟩)⟩)⟩)⟩)⟩)
theorem wd_698 : Cond.methodLink RX11 189 yX4_wish ∈ lw_tbl := mt_4 (List.mem_of_getElem? (i := 15) rfl)
set_option maxRecDepth 20000 in
theorem hl_wsX11_wants_r2 : ∀ w ∈ wsX11_wants_r2, w ∈ lw_tbl := by
  unfold wsX11_wants_r2
  exact (List.forall_mem_cons.mpr ⟨wd_360, (List.forall_mem_cons.mpr ⟨wd_576, (List.forall_mem_cons.mpr ⟨wd_575, (List.forall_mem_cons.mpr ⟨wd_574, (List.forall_mem_cons.mpr ⟨wd_573, (List.forall_mem_cons.mpr ⟨wd_698, (List.forall_mem_cons.mpr ⟨wd_607, (List.forall_mem_cons.mpr ⟨wd_606, (List.forall_mem_cons.mpr ⟨wd_605, (List.forall_mem_cons.mpr ⟨wd_604, (List.forall_mem_cons.mpr ⟨wd_603, (List.forall_mem_cons.mpr ⟨wd_600, (List.forall_mem_cons.mpr ⟨wd_597, (List.forall_mem_cons.mpr ⟨wd_596, (List.forall_mem_cons.mpr ⟨wd_595, (List.forall_mem_cons.mpr ⟨wd_594, (List.forall_mem_cons.mpr ⟨wd_593, (List.forall_mem_cons.mpr ⟨wd_592, (List.forall_mem_cons.mpr ⟨wd_567, (List.forall_mem_cons.mpr ⟨wd_566, (List.forall_mem_cons.mpr ⟨wd_565, (List.forall_mem_cons.mpr ⟨wd_564, (List.forall_mem_cons.mpr ⟨wd_563, (List.forall_mem_cons.mpr ⟨wd_562, (fun _ h => absurd h List.not_mem_nil)⟩)⟩)⟩)⟩)⟩)⟩)⟩)⟩)⟩)⟩)⟩)⟩)⟩)⟩)⟩)⟩)⟩)⟩)⟩)⟩)⟩)⟩)⟩)⟩)
set_option maxRecDepth 20000 in
theorem hl_wsX11_wants_r3 : ∀ w ∈ wsX11_wants_r3, w ∈ lw_tbl := by
  unfold wsX11_wants_r3
  exact (List.forall_mem_cons.mpr ⟨wd_561, (List.forall_mem_cons.mpr ⟨wd_591, (List.forall_mem_cons.mpr ⟨wd_590, (List.forall_mem_cons.mpr ⟨wd_589, (List.forall_mem_cons.mpr ⟨wd_588, (List.forall_mem_cons.mpr ⟨wd_587, (List.forall_mem_cons.mpr ⟨wd_586, (List.forall_mem_cons.mpr ⟨wd_585, (List.forall_mem_cons.mpr ⟨wd_584, (List.forall_mem_cons.mpr ⟨wd_583, (List.forall_mem_cons.mpr ⟨wd_582, (List.forall_mem_cons.mpr ⟨wd_581, (List.forall_mem_cons.mpr ⟨wd_580, (List.forall_mem_cons.mpr ⟨wd_579, (fun _ h => absurd h List.not_mem_nil)⟩)⟩)⟩)⟩)⟩)⟩)⟩)⟩)⟩)⟩)⟩)⟩)⟩)⟩)
set_option maxRecDepth 20000 in
theorem hl_wsX11_wants : ∀ w ∈ wsX11_wants, w ∈ lw_tbl := by
  unfold wsX11_wants
  exact (List.forall_mem_cons.mpr ⟨wd_696, (List.forall_mem_append.mpr ⟨(List.forall_mem_append.mpr ⟨(List.forall_mem_append.mpr ⟨(List.forall_mem_append.mpr ⟨(List.forall_mem_append.mpr ⟨hl_wsX11_wants_r1, (List.forall_mem_append.mpr ⟨hl_wsX11_wants_r2, hl_wsX11_wants_r3⟩)⟩), hl_wsX110⟩), hl_wsX90⟩), hl_wsX70⟩), hl_wsX40⟩)⟩)
theorem wd_699 : Cond.selects RX12 yX12_wants yX12_wants ∈ lw_tbl := mt_7 (List.mem_of_getElem? (i := 72) rfl)
theorem wd_700 : Cond.instanceMethod yX12_wants ∈ lw_tbl := mt_7 (List.mem_of_getElem? (i := 71) rfl)
theorem wd_701 : Cond.methodLink RL 39 yX12_wants ∈ lw_tbl := mt_7 (List.mem_of_getElem? (i := 70) rfl)
theorem wd_702 : Cond.code yX12_wants cX12_wants 3 (some .int) ∈ lw_tbl := mt_7 (List.mem_of_getElem? (i := 73) rfl)
theorem wd_703 : Cond.constant RX12 258 (-99000002) ∈ lw_tbl := mt_7 (List.mem_of_getElem? (i := 74) rfl)
set_option maxRecDepth 20000 in
theorem hl_wsX12_wants_r1 : ∀ w ∈ wsX12_wants_r1, w ∈ lw_tbl := by
  unfold wsX12_wants_r1
  exact (List.forall_mem_cons.mpr ⟨wd_34, (List.forall_mem_cons.mpr ⟨wd_423, (List.forall_mem_cons.mpr ⟨wd_703, (List.forall_mem_cons.mpr ⟨wd_692, (List.forall_mem_cons.mpr ⟨wd_691, (List.forall_mem_cons.mpr ⟨wd_690, (List.forall_mem_cons.mpr ⟨wd_27, (List.forall_mem_cons.mpr ⟨wd_689, (List.forall_mem_cons.mpr ⟨wd_422, (List.forall_mem_cons.mpr ⟨wd_421, (List.forall_mem_cons.mpr ⟨wd_420, (List.forall_mem_cons.mpr ⟨wd_630, (List.forall_mem_cons.mpr ⟨wd_629, (List.forall_mem_cons.mpr ⟨wd_628, (List.forall_mem_cons.mpr ⟨wd_627, (List.forall_mem_cons.mpr ⟨wd_658, (List.forall_mem_cons.mpr ⟨wd_657, (List.forall_mem_cons.mpr ⟨wd_656, (List.forall_mem_cons.mpr ⟨wd_655, (List.forall_mem_cons.mpr ⟨wd_637, (List.forall_mem_cons.mpr ⟨wd_636, (List.forall_mem_cons.mpr ⟨wd_635, (List.forall_mem_cons.mpr ⟨wd_634, (List.forall_mem_cons.mpr ⟨wd_633, (fun _ h => absurd h List.not_mem_nil)⟩)⟩)⟩)⟩)⟩)⟩)⟩)⟩)⟩)⟩)⟩)⟩)⟩)⟩)⟩)⟩)⟩)⟩)⟩)⟩)⟩)⟩)⟩)⟩)
set_option maxRecDepth 20000 in
theorem hl_wsX12_wants_r2 : ∀ w ∈ wsX12_wants_r2, w ∈ lw_tbl := by
  unfold wsX12_wants_r2
  exact (List.forall_mem_cons.mpr ⟨wd_632, (List.forall_mem_cons.mpr ⟨wd_631, (List.forall_mem_cons.mpr ⟨wd_665, (List.forall_mem_cons.mpr ⟨wd_664, (List.forall_mem_cons.mpr ⟨wd_663, (List.forall_mem_cons.mpr ⟨wd_662, (List.forall_mem_cons.mpr ⟨wd_661, (List.forall_mem_cons.mpr ⟨wd_660, (List.forall_mem_cons.mpr ⟨wd_659, (fun _ h => absurd h List.not_mem_nil)⟩)⟩)⟩)⟩)⟩)⟩)⟩)⟩)⟩)
set_option maxRecDepth 20000 in
theorem hl_wsX12_wants : ∀ w ∈ wsX12_wants, w ∈ lw_tbl := by
  unfold wsX12_wants
  exact (List.forall_mem_cons.mpr ⟨wd_702, (List.forall_mem_append.mpr ⟨(List.forall_mem_append.mpr ⟨hl_wsX12_wants_r1, hl_wsX12_wants_r2⟩), hl_wsX120⟩)⟩)
def tL_wants : List Cond := (wsV RL 36 RX11 yX11_wants wsX11_wants) ++ (wsV RL 39 RX12 yX12_wants wsX12_wants)
theorem tL_wants_in : ∀ w ∈ tL_wants, w ∈ lw_tbl := by
  unfold tL_wants
  exact (List.forall_mem_append.mpr ⟨(List.forall_mem_append.mpr ⟨(List.forall_mem_cons.mpr ⟨wd_695, (List.forall_mem_cons.mpr ⟨wd_694, (List.forall_mem_cons.mpr ⟨wd_693, (List.forall_mem_cons.mpr ⟨wd_0, (fun _ h => absurd h List.not_mem_nil)⟩)⟩)⟩)⟩), hl_wsX11_wants⟩), (List.forall_mem_append.mpr ⟨(List.forall_mem_cons.mpr ⟨wd_701, (List.forall_mem_cons.mpr ⟨wd_700, (List.forall_mem_cons.mpr ⟨wd_699, (List.forall_mem_cons.mpr ⟨wd_27, (fun _ h => absurd h List.not_mem_nil)⟩)⟩)⟩)⟩), hl_wsX12_wants⟩)⟩)
set_option maxRecDepth 20000 in
theorem tL_wants_x : GoodIn tL_wants (wsV RL 36 RX11 yX11_wants wsX11_wants) := fun w h => ⟨List.mem_append_left _ h, good_of_word (List.all_eq_true.mp (show (wsV RL 36 RX11 yX11_wants wsX11_wants).all goodWord = true by decide +kernel) w h)⟩
set_option maxRecDepth 20000 in
theorem tL_wants_m : GoodIn tL_wants (wsV RL 39 RX12 yX12_wants wsX12_wants) := fun w h => ⟨List.mem_append_right _ h, good_of_word (List.all_eq_true.mp (show (wsV RL 39 RX12 yX12_wants wsX12_wants).all goodWord = true by decide +kernel) w h)⟩
theorem hdLX11_wants : yX11_wants.cls = RX11 ∧ yX11_wants.cls ≠ "java/lang/invoke/MethodHandle" ∧ yX11_wants.cls ≠ "java/lang/invoke/VarHandle" ∧ (parseMethodDescriptor yX11_wants.desc).map (fun d => d.parameters.length) = some 2 := by decide +kernel
theorem hdLX12_wants : yX12_wants.cls = RX12 ∧ yX12_wants.cls ≠ "java/lang/invoke/MethodHandle" ∧ yX12_wants.cls ≠ "java/lang/invoke/VarHandle" ∧ (parseMethodDescriptor yX12_wants.desc).map (fun d => d.parameters.length) = some 2 := by decide +kernel
theorem wd_704 : Cond.selects RX11 yX11_seed yX11_seed ∈ lw_tbl := mt_4 (List.mem_of_getElem? (i := 18) rfl)
theorem wd_705 : Cond.instanceMethod yX11_seed ∈ lw_tbl := mt_4 (List.mem_of_getElem? (i := 17) rfl)
theorem wd_706 : Cond.methodLink RL 40 yX11_seed ∈ lw_tbl := mt_4 (List.mem_of_getElem? (i := 16) rfl)
theorem wd_707 : Cond.code yX11_seed cX11_seed 3 (some .int) ∈ lw_tbl := mt_4 (List.mem_of_getElem? (i := 19) rfl)
theorem wd_708 : Cond.methodLink RX6 25 yX9_copyFrom ∈ lw_tbl := mt_4 (List.mem_of_getElem? (i := 24) rfl)
theorem wd_709 : Cond.methodLink RX6 29 Lib.Math.min.name ∈ lw_tbl := mt_4 (List.mem_of_getElem? (i := 25) rfl)
theorem wd_710 : Cond.fieldLink RX6 17 "OneOfEach$Past" "next" "I" ∈ lw_tbl := mt_1 (List.mem_of_getElem? (i := 169) rfl)
theorem wd_711 : Cond.fieldLink RX6 11 "OneOfEach$Past" "kept" "[LOneOfEach$Stock;" ∈ lw_tbl := mt_1 (List.mem_of_getElem? (i := 168) rfl)
theorem wd_712 : Cond.code yX6_keep cX6_keep 2 none ∈ lw_tbl := mt_4 (List.mem_of_getElem? (i := 23) rfl)
theorem wd_713 : Cond.selects RX6 yX6_keep yX6_keep ∈ lw_tbl := mt_4 (List.mem_of_getElem? (i := 22) rfl)
theorem wd_714 : Cond.instanceMethod yX6_keep ∈ lw_tbl := mt_4 (List.mem_of_getElem? (i := 21) rfl)
theorem wd_715 : Cond.methodLink RX11 192 yX6_keep ∈ lw_tbl := mt_4 (List.mem_of_getElem? (i := 20) rfl)
theorem wd_716 : Cond.fieldLink RX11 195 "OneOfEach$Stock" "x" "I" ∈ lw_tbl := mt_1 (List.mem_of_getElem? (i := 139) rfl)
set_option maxRecDepth 20000 in
theorem hl_wsX11_seed_r1 : ∀ w ∈ wsX11_seed_r1, w ∈ lw_tbl := by
  unfold wsX11_seed_r1
  exact (List.forall_mem_cons.mpr ⟨wd_336, (List.forall_mem_cons.mpr ⟨wd_84, (List.forall_mem_cons.mpr ⟨wd_716, (List.forall_mem_cons.mpr ⟨wd_715, (List.forall_mem_cons.mpr ⟨wd_714, (List.forall_mem_cons.mpr ⟨wd_713, (List.forall_mem_cons.mpr ⟨wd_368, (List.forall_mem_cons.mpr ⟨wd_712, (List.forall_mem_cons.mpr ⟨wd_711, (List.forall_mem_cons.mpr ⟨wd_710, (List.forall_mem_cons.mpr ⟨wd_366, (List.forall_mem_cons.mpr ⟨wd_709, (List.forall_mem_cons.mpr ⟨wd_191, (List.forall_mem_cons.mpr ⟨wd_133, (List.forall_mem_cons.mpr ⟨wd_190, (List.forall_mem_cons.mpr ⟨wd_708, (List.forall_mem_cons.mpr ⟨wd_345, (List.forall_mem_cons.mpr ⟨wd_344, (List.forall_mem_cons.mpr ⟨wd_102, (List.forall_mem_cons.mpr ⟨wd_343, (List.forall_mem_cons.mpr ⟨wd_100, (List.forall_mem_cons.mpr ⟨wd_342, (List.forall_mem_cons.mpr ⟨wd_341, (List.forall_mem_cons.mpr ⟨wd_99, (fun _ h => absurd h List.not_mem_nil)⟩)⟩)⟩)⟩)⟩)⟩)⟩)⟩)⟩)⟩)⟩)⟩)⟩)⟩)⟩)⟩)⟩)⟩)⟩)⟩)⟩)⟩)⟩)⟩)
set_option maxRecDepth 20000 in
theorem hl_wsX11_seed_r2 : ∀ w ∈ wsX11_seed_r2, w ∈ lw_tbl := by
  unfold wsX11_seed_r2
  exact (List.forall_mem_cons.mpr ⟨wd_98, (List.forall_mem_cons.mpr ⟨wd_97, (List.forall_mem_cons.mpr ⟨wd_96, (List.forall_mem_cons.mpr ⟨wd_95, (List.forall_mem_cons.mpr ⟨wd_94, (fun _ h => absurd h List.not_mem_nil)⟩)⟩)⟩)⟩)⟩)
set_option maxRecDepth 20000 in
theorem hl_wsX11_seed : ∀ w ∈ wsX11_seed, w ∈ lw_tbl := by
  unfold wsX11_seed
  exact (List.forall_mem_cons.mpr ⟨wd_707, (List.forall_mem_append.mpr ⟨(List.forall_mem_append.mpr ⟨(List.forall_mem_append.mpr ⟨(List.forall_mem_append.mpr ⟨hl_wsX11_seed_r1, hl_wsX11_seed_r2⟩), hl_wsX110⟩), hl_wsX90⟩), hl_wsX60⟩)⟩)
theorem wd_717 : Cond.selects RX12 yX12_seed yX12_seed ∈ lw_tbl := mt_7 (List.mem_of_getElem? (i := 77) rfl)
theorem wd_718 : Cond.instanceMethod yX12_seed ∈ lw_tbl := mt_7 (List.mem_of_getElem? (i := 76) rfl)
theorem wd_719 : Cond.methodLink RL 43 yX12_seed ∈ lw_tbl := mt_7 (List.mem_of_getElem? (i := 75) rfl)
theorem wd_720 : Cond.code yX12_seed cX12_seed 2 (some .int) ∈ lw_tbl := mt_7 (List.mem_of_getElem? (i := 78) rfl)
theorem wd_721 : Cond.code yX12_notes cX12_notes 2 none ∈ lw_tbl := mt_7 (List.mem_of_getElem? (i := 86) rfl)
theorem wd_722 : Cond.selects RX12 yX12_notes yX12_notes ∈ lw_tbl := mp_6 (q := (⟨"OneOfEachModel", "notes", "()V"⟩, 32)) (List.mem_of_getElem? (i := 4) rfl)
theorem wd_723 : Cond.instanceMethod yX12_notes ∈ lw_tbl := mt_7 (List.mem_of_getElem? (i := 85) rfl)
theorem wd_724 : Cond.methodLink RX12 285 yX12_notes ∈ lw_tbl := mt_7 (List.mem_of_getElem? (i := 83) rfl)
theorem wd_725 : Cond.code yX12_keeps cX12_keeps 2 none ∈ lw_tbl := mt_7 (List.mem_of_getElem? (i := 82) rfl)
theorem wd_726 : Cond.selects RX12 yX12_keeps yX12_keeps ∈ lw_tbl := mp_6 (q := (⟨"OneOfEachModel", "keeps", "()V"⟩, 32)) (List.mem_of_getElem? (i := 3) rfl)
theorem wd_727 : Cond.instanceMethod yX12_keeps ∈ lw_tbl := mt_7 (List.mem_of_getElem? (i := 81) rfl)
theorem wd_728 : Cond.methodLink RX12 282 yX12_keeps ∈ lw_tbl := mt_7 (List.mem_of_getElem? (i := 79) rfl)
theorem wd_729 : Cond.fieldLink RX12 36 "OneOfEachModel" "was" "[I" ∈ lw_tbl := mt_6 (List.mem_of_getElem? (i := 45) rfl)
set_option maxRecDepth 20000 in
theorem hl_wsX12_seed : ∀ w ∈ wsX12_seed, w ∈ lw_tbl := by
  unfold wsX12_seed
  exact (List.forall_mem_cons.mpr ⟨wd_720, (List.forall_mem_append.mpr ⟨(List.forall_mem_cons.mpr ⟨wd_34, (List.forall_mem_cons.mpr ⟨wd_423, (List.forall_mem_cons.mpr ⟨wd_729, (List.forall_mem_cons.mpr ⟨wd_728, (List.forall_mem_cons.mpr ⟨wd_727, (List.forall_mem_cons.mpr ⟨wd_726, (List.forall_mem_cons.mpr ⟨wd_27, (List.forall_mem_cons.mpr ⟨wd_725, (List.forall_mem_cons.mpr ⟨wd_724, (List.forall_mem_cons.mpr ⟨wd_723, (List.forall_mem_cons.mpr ⟨wd_722, (List.forall_mem_cons.mpr ⟨wd_721, (fun _ h => absurd h List.not_mem_nil)⟩)⟩)⟩)⟩)⟩)⟩)⟩)⟩)⟩)⟩)⟩)⟩), hl_wsX120⟩)⟩)
def tL_seed : List Cond := (wsV RL 40 RX11 yX11_seed wsX11_seed) ++ (wsV RL 43 RX12 yX12_seed wsX12_seed)
theorem tL_seed_in : ∀ w ∈ tL_seed, w ∈ lw_tbl := by
  unfold tL_seed
  exact (List.forall_mem_append.mpr ⟨(List.forall_mem_append.mpr ⟨(List.forall_mem_cons.mpr ⟨wd_706, (List.forall_mem_cons.mpr ⟨wd_705, (List.forall_mem_cons.mpr ⟨wd_704, (List.forall_mem_cons.mpr ⟨wd_0, (fun _ h => absurd h List.not_mem_nil)⟩)⟩)⟩)⟩), hl_wsX11_seed⟩), (List.forall_mem_append.mpr ⟨(List.forall_mem_cons.mpr ⟨wd_719, (List.forall_mem_cons.mpr ⟨wd_718, (List.forall_mem_cons.mpr ⟨wd_717, (List.forall_mem_cons.mpr ⟨wd_27, (fun _ h => absurd h List.not_mem_nil)⟩)⟩)⟩)⟩), hl_wsX12_seed⟩)⟩)
set_option maxRecDepth 20000 in
theorem tL_seed_x : GoodIn tL_seed (wsV RL 40 RX11 yX11_seed wsX11_seed) := fun w h => ⟨List.mem_append_left _ h, good_of_word (List.all_eq_true.mp (show (wsV RL 40 RX11 yX11_seed wsX11_seed).all goodWord = true by decide +kernel) w h)⟩
set_option maxRecDepth 20000 in
theorem tL_seed_m : GoodIn tL_seed (wsV RL 43 RX12 yX12_seed wsX12_seed) := fun w h => ⟨List.mem_append_right _ h, good_of_word (List.all_eq_true.mp (show (wsV RL 43 RX12 yX12_seed wsX12_seed).all goodWord = true by decide +kernel) w h)⟩
theorem hdLX11_seed : yX11_seed.cls = RX11 ∧ yX11_seed.cls ≠ "java/lang/invoke/MethodHandle" ∧ yX11_seed.cls ≠ "java/lang/invoke/VarHandle" ∧ (parseMethodDescriptor yX11_seed.desc).map (fun d => d.parameters.length) = some 1 := by decide +kernel
theorem hdLX12_seed : yX12_seed.cls = RX12 ∧ yX12_seed.cls ≠ "java/lang/invoke/MethodHandle" ∧ yX12_seed.cls ≠ "java/lang/invoke/VarHandle" ∧ (parseMethodDescriptor yX12_seed.desc).map (fun d => d.parameters.length) = some 1 := by decide +kernel
theorem wd_730 : Cond.selects RX11 yX11_visit yX11_visit ∈ lw_tbl := mt_4 (List.mem_of_getElem? (i := 28) rfl)
theorem wd_731 : Cond.instanceMethod yX11_visit ∈ lw_tbl := mt_4 (List.mem_of_getElem? (i := 27) rfl)
theorem wd_732 : Cond.methodLink RL 44 yX11_visit ∈ lw_tbl := mt_4 (List.mem_of_getElem? (i := 26) rfl)
theorem wd_733 : Cond.code yX11_visit cX11_visit 2 (some .int) ∈ lw_tbl := mt_4 (List.mem_of_getElem? (i := 29) rfl)
theorem wd_734 : Cond.fieldLink RX1 15 "OneOfEach$Plan" "buyers" "I" ∈ lw_tbl := mt_1 (List.mem_of_getElem? (i := 37) rfl)
theorem wd_735 : Cond.code yX1_visitBy cX1_visitBy 5 (some .int) ∈ lw_tbl := mt_4 (List.mem_of_getElem? (i := 33) rfl)
theorem wd_736 : Cond.initialized RX1 ∈ lw_tbl := mt_1 (List.mem_of_getElem? (i := 7) rfl)
theorem wd_737 : Cond.selects RX1 yX1_visitBy yX1_visitBy ∈ lw_tbl := mt_4 (List.mem_of_getElem? (i := 32) rfl)
theorem wd_738 : Cond.instanceMethod yX1_visitBy ∈ lw_tbl := mt_4 (List.mem_of_getElem? (i := 31) rfl)
theorem wd_739 : Cond.methodLink RX11 198 yX1_visitBy ∈ lw_tbl := mt_4 (List.mem_of_getElem? (i := 30) rfl)
theorem wd_740 : Cond.fieldLink RX11 85 "OneOfEach" "hands" "LOneOfEach$Hands;" ∈ lw_tbl := mt_2 (List.mem_of_getElem? (i := 138) rfl)
set_option maxRecDepth 20000 in
theorem hl_wsX11_visit_r1 : ∀ w ∈ wsX11_visit_r1, w ∈ lw_tbl := by
  unfold wsX11_visit_r1
  exact (List.forall_mem_cons.mpr ⟨wd_90, (List.forall_mem_cons.mpr ⟨wd_84, (List.forall_mem_cons.mpr ⟨wd_740, (List.forall_mem_cons.mpr ⟨wd_85, (List.forall_mem_cons.mpr ⟨wd_346, (List.forall_mem_cons.mpr ⟨wd_345, (List.forall_mem_cons.mpr ⟨wd_344, (List.forall_mem_cons.mpr ⟨wd_102, (List.forall_mem_cons.mpr ⟨wd_343, (List.forall_mem_cons.mpr ⟨wd_100, (List.forall_mem_cons.mpr ⟨wd_342, (List.forall_mem_cons.mpr ⟨wd_341, (List.forall_mem_cons.mpr ⟨wd_99, (List.forall_mem_cons.mpr ⟨wd_98, (List.forall_mem_cons.mpr ⟨wd_97, (List.forall_mem_cons.mpr ⟨wd_96, (List.forall_mem_cons.mpr ⟨wd_95, (List.forall_mem_cons.mpr ⟨wd_94, (List.forall_mem_cons.mpr ⟨wd_739, (List.forall_mem_cons.mpr ⟨wd_738, (List.forall_mem_cons.mpr ⟨wd_737, (List.forall_mem_cons.mpr ⟨wd_736, (List.forall_mem_cons.mpr ⟨wd_735, (List.forall_mem_cons.mpr ⟨wd_734, (fun _ h => absurd h List.not_mem_nil)⟩)⟩)⟩)⟩)⟩)⟩)⟩)⟩)⟩)⟩)⟩)⟩)⟩)⟩)⟩)⟩)⟩)⟩)⟩)⟩)⟩)⟩)⟩)⟩)
theorem wd_741 : Cond.methodLink RX1 27 yX4_tune ∈ lw_tbl := mt_4 (List.mem_of_getElem? (i := 42) rfl)
theorem wd_742 : Cond.code yX9_everyKind cX9_everyKind 1 (some .int) ∈ lw_tbl := mt_4 (List.mem_of_getElem? (i := 41) rfl)
theorem wd_743 : Cond.selects RX9 yX9_everyKind yX9_everyKind ∈ lw_tbl := mt_4 (List.mem_of_getElem? (i := 40) rfl)
theorem wd_744 : Cond.instanceMethod yX9_everyKind ∈ lw_tbl := mt_4 (List.mem_of_getElem? (i := 39) rfl)
theorem wd_745 : Cond.methodLink RX9 40 yX9_everyKind ∈ lw_tbl := mt_4 (List.mem_of_getElem? (i := 38) rfl)
theorem wd_746 : Cond.code yX9_isShut cX9_isShut 1 (some .boolean) ∈ lw_tbl := mt_4 (List.mem_of_getElem? (i := 37) rfl)
theorem wd_747 : Cond.selects RX9 yX9_isShut yX9_isShut ∈ lw_tbl := mt_4 (List.mem_of_getElem? (i := 36) rfl)
theorem wd_748 : Cond.instanceMethod yX9_isShut ∈ lw_tbl := mt_4 (List.mem_of_getElem? (i := 35) rfl)
theorem wd_749 : Cond.methodLink RX1 21 yX9_isShut ∈ lw_tbl := mt_4 (List.mem_of_getElem? (i := 34) rfl)
theorem wd_750 : Cond.fieldLink RX1 46 "OneOfEach$Stock" "price" "[I" ∈ lw_tbl := mt_1 (List.mem_of_getElem? (i := 109) rfl)
theorem wd_751 : Cond.fieldLink RX1 43 "OneOfEach$Stock" "till" "I" ∈ lw_tbl := mt_1 (List.mem_of_getElem? (i := 130) rfl)
theorem wd_752 : Cond.fieldLink RX1 36 "OneOfEach$Stock" "hidden" "I" ∈ lw_tbl := mt_1 (List.mem_of_getElem? (i := 125) rfl)
theorem wd_753 : Cond.fieldLink RX1 33 "OneOfEach$Stock" "sold" "I" ∈ lw_tbl := mt_1 (List.mem_of_getElem? (i := 121) rfl)
theorem wd_754 : Cond.fieldLink RX1 9 "OneOfEach$Hands" "minds" "LOneOfEach$Minds;" ∈ lw_tbl := mt_2 (List.mem_of_getElem? (i := 7) rfl)
set_option maxRecDepth 20000 in
theorem hl_wsX11_visit_r2 : ∀ w ∈ wsX11_visit_r2, w ∈ lw_tbl := by
  unfold wsX11_visit_r2
  exact (List.forall_mem_cons.mpr ⟨wd_754, (List.forall_mem_cons.mpr ⟨wd_753, (List.forall_mem_cons.mpr ⟨wd_752, (List.forall_mem_cons.mpr ⟨wd_751, (List.forall_mem_cons.mpr ⟨wd_750, (List.forall_mem_cons.mpr ⟨wd_749, (List.forall_mem_cons.mpr ⟨wd_748, (List.forall_mem_cons.mpr ⟨wd_747, (List.forall_mem_cons.mpr ⟨wd_746, (List.forall_mem_cons.mpr ⟨wd_745, (List.forall_mem_cons.mpr ⟨wd_744, (List.forall_mem_cons.mpr ⟨wd_743, (List.forall_mem_cons.mpr ⟨wd_742, (List.forall_mem_cons.mpr ⟨wd_741, (List.forall_mem_cons.mpr ⟨wd_543, (List.forall_mem_cons.mpr ⟨wd_542, (List.forall_mem_cons.mpr ⟨wd_362, (List.forall_mem_cons.mpr ⟨wd_541, (List.forall_mem_cons.mpr ⟨wd_540, (List.forall_mem_cons.mpr ⟨wd_578, (List.forall_mem_cons.mpr ⟨wd_577, (List.forall_mem_cons.mpr ⟨wd_360, (List.forall_mem_cons.mpr ⟨wd_576, (List.forall_mem_cons.mpr ⟨wd_575, (fun _ h => absurd h List.not_mem_nil)⟩)⟩)⟩)⟩)⟩)⟩)⟩)⟩)⟩)⟩)⟩)⟩)⟩)⟩)⟩)⟩)⟩)⟩)⟩)⟩)⟩)⟩)⟩)⟩)
theorem wd_755 : Cond.methodLink RX1 39 yX4_choice ∈ lw_tbl := mt_4 (List.mem_of_getElem? (i := 43) rfl)
set_option maxRecDepth 20000 in
theorem hl_wsX11_visit_r3 : ∀ w ∈ wsX11_visit_r3, w ∈ lw_tbl := by
  unfold wsX11_visit_r3
  exact (List.forall_mem_cons.mpr ⟨wd_574, (List.forall_mem_cons.mpr ⟨wd_573, (List.forall_mem_cons.mpr ⟨wd_755, (List.forall_mem_cons.mpr ⟨wd_571, (List.forall_mem_cons.mpr ⟨wd_570, (List.forall_mem_cons.mpr ⟨wd_569, (List.forall_mem_cons.mpr ⟨wd_568, (List.forall_mem_cons.mpr ⟨wd_134, (List.forall_mem_cons.mpr ⟨wd_133, (List.forall_mem_cons.mpr ⟨wd_132, (List.forall_mem_cons.mpr ⟨wd_567, (List.forall_mem_cons.mpr ⟨wd_566, (List.forall_mem_cons.mpr ⟨wd_565, (List.forall_mem_cons.mpr ⟨wd_564, (List.forall_mem_cons.mpr ⟨wd_563, (List.forall_mem_cons.mpr ⟨wd_562, (List.forall_mem_cons.mpr ⟨wd_561, (List.forall_mem_cons.mpr ⟨wd_560, (List.forall_mem_cons.mpr ⟨wd_559, (List.forall_mem_cons.mpr ⟨wd_602, (List.forall_mem_cons.mpr ⟨wd_601, (List.forall_mem_cons.mpr ⟨wd_600, (List.forall_mem_cons.mpr ⟨wd_599, (List.forall_mem_cons.mpr ⟨wd_598, (fun _ h => absurd h List.not_mem_nil)⟩)⟩)⟩)⟩)⟩)⟩)⟩)⟩)⟩)⟩)⟩)⟩)⟩)⟩)⟩)⟩)⟩)⟩)⟩)⟩)⟩)⟩)⟩)⟩)
set_option maxRecDepth 20000 in
theorem hl_wsX11_visit_r4 : ∀ w ∈ wsX11_visit_r4, w ∈ lw_tbl := by
  unfold wsX11_visit_r4
  exact (List.forall_mem_cons.mpr ⟨wd_597, (List.forall_mem_cons.mpr ⟨wd_596, (List.forall_mem_cons.mpr ⟨wd_595, (List.forall_mem_cons.mpr ⟨wd_594, (List.forall_mem_cons.mpr ⟨wd_593, (List.forall_mem_cons.mpr ⟨wd_592, (List.forall_mem_cons.mpr ⟨wd_591, (List.forall_mem_cons.mpr ⟨wd_590, (List.forall_mem_cons.mpr ⟨wd_589, (List.forall_mem_cons.mpr ⟨wd_588, (List.forall_mem_cons.mpr ⟨wd_587, (List.forall_mem_cons.mpr ⟨wd_586, (List.forall_mem_cons.mpr ⟨wd_585, (List.forall_mem_cons.mpr ⟨wd_584, (List.forall_mem_cons.mpr ⟨wd_583, (List.forall_mem_cons.mpr ⟨wd_582, (List.forall_mem_cons.mpr ⟨wd_581, (List.forall_mem_cons.mpr ⟨wd_580, (List.forall_mem_cons.mpr ⟨wd_579, (List.forall_mem_cons.mpr ⟨wd_608, (List.forall_mem_cons.mpr ⟨wd_607, (List.forall_mem_cons.mpr ⟨wd_606, (List.forall_mem_cons.mpr ⟨wd_605, (List.forall_mem_cons.mpr ⟨wd_604, (fun _ h => absurd h List.not_mem_nil)⟩)⟩)⟩)⟩)⟩)⟩)⟩)⟩)⟩)⟩)⟩)⟩)⟩)⟩)⟩)⟩)⟩)⟩)⟩)⟩)⟩)⟩)⟩)⟩)
theorem wd_756 : Cond.code yX11_settle cX11_settle 2 (some .int) ∈ lw_tbl := mt_4 (List.mem_of_getElem? (i := 47) rfl)
theorem wd_757 : Cond.selects RX11 yX11_settle yX11_settle ∈ lw_tbl := mp_2 (q := (⟨"OneOfEach", "settle", "(I)I"⟩, 16)) (List.mem_of_getElem? (i := 11) rfl)
theorem wd_758 : Cond.instanceMethod yX11_settle ∈ lw_tbl := mt_4 (List.mem_of_getElem? (i := 46) rfl)
theorem wd_759 : Cond.methodLink RX11 202 yX11_settle ∈ lw_tbl := mt_4 (List.mem_of_getElem? (i := 44) rfl)
set_option maxRecDepth 20000 in
theorem hl_wsX11_visit_r5 : ∀ w ∈ wsX11_visit_r5, w ∈ lw_tbl := by
  unfold wsX11_visit_r5
  exact (List.forall_mem_cons.mpr ⟨wd_603, (List.forall_mem_cons.mpr ⟨wd_759, (List.forall_mem_cons.mpr ⟨wd_758, (List.forall_mem_cons.mpr ⟨wd_757, (List.forall_mem_cons.mpr ⟨wd_0, (List.forall_mem_cons.mpr ⟨wd_756, (List.forall_mem_cons.mpr ⟨wd_336, (List.forall_mem_cons.mpr ⟨wd_715, (List.forall_mem_cons.mpr ⟨wd_714, (List.forall_mem_cons.mpr ⟨wd_713, (List.forall_mem_cons.mpr ⟨wd_368, (List.forall_mem_cons.mpr ⟨wd_712, (List.forall_mem_cons.mpr ⟨wd_711, (List.forall_mem_cons.mpr ⟨wd_710, (List.forall_mem_cons.mpr ⟨wd_366, (List.forall_mem_cons.mpr ⟨wd_709, (List.forall_mem_cons.mpr ⟨wd_191, (List.forall_mem_cons.mpr ⟨wd_190, (List.forall_mem_cons.mpr ⟨wd_708, (fun _ h => absurd h List.not_mem_nil)⟩)⟩)⟩)⟩)⟩)⟩)⟩)⟩)⟩)⟩)⟩)⟩)⟩)⟩)⟩)⟩)⟩)⟩)⟩)
theorem wd_760 : u_lay RX1 TX1 0 ∈ lw_tbl := mt_2 (List.mem_of_getElem? (i := 8) rfl)
set_option maxRecDepth 20000 in
theorem hl_wsX10 : ∀ w ∈ wsX10, w ∈ lw_tbl := show ∀ w ∈ [u_lay RX1 TX1 0], w ∈ lw_tbl from (List.forall_mem_cons.mpr ⟨wd_760, (fun _ h => absurd h List.not_mem_nil)⟩)
set_option maxRecDepth 20000 in
theorem hl_wsX11_visit : ∀ w ∈ wsX11_visit, w ∈ lw_tbl := by
  unfold wsX11_visit
  exact (List.forall_mem_cons.mpr ⟨wd_733, (List.forall_mem_append.mpr ⟨(List.forall_mem_append.mpr ⟨(List.forall_mem_append.mpr ⟨(List.forall_mem_append.mpr ⟨(List.forall_mem_append.mpr ⟨(List.forall_mem_append.mpr ⟨(List.forall_mem_append.mpr ⟨hl_wsX11_visit_r1, (List.forall_mem_append.mpr ⟨hl_wsX11_visit_r2, (List.forall_mem_append.mpr ⟨hl_wsX11_visit_r3, (List.forall_mem_append.mpr ⟨hl_wsX11_visit_r4, hl_wsX11_visit_r5⟩)⟩)⟩)⟩), hl_wsX110⟩), hl_wsX90⟩), hl_wsX70⟩), hl_wsX10⟩), hl_wsX40⟩), hl_wsX60⟩)⟩)
theorem wd_761 : Cond.selects RX12 yX12_visit yX12_visit ∈ lw_tbl := mt_7 (List.mem_of_getElem? (i := 89) rfl)
theorem wd_762 : Cond.instanceMethod yX12_visit ∈ lw_tbl := mt_7 (List.mem_of_getElem? (i := 88) rfl)
theorem wd_763 : Cond.methodLink RL 47 yX12_visit ∈ lw_tbl := mt_7 (List.mem_of_getElem? (i := 87) rfl)
theorem wd_764 : Cond.code yX12_visit cX12_visit 4 (some .int) ∈ lw_tbl := mt_7 (List.mem_of_getElem? (i := 90) rfl)
theorem wd_765 : Cond.code yX12_isShut cX12_isShut 1 (some .boolean) ∈ lw_tbl := mt_7 (List.mem_of_getElem? (i := 98) rfl)
theorem wd_766 : Cond.selects RX12 yX12_isShut yX12_isShut ∈ lw_tbl := mp_6 (q := (⟨"OneOfEachModel", "isShut", "()Z"⟩, 32)) (List.mem_of_getElem? (i := 6) rfl)
theorem wd_767 : Cond.instanceMethod yX12_isShut ∈ lw_tbl := mt_7 (List.mem_of_getElem? (i := 97) rfl)
theorem wd_768 : Cond.methodLink RX12 259 yX12_isShut ∈ lw_tbl := mt_7 (List.mem_of_getElem? (i := 95) rfl)
theorem wd_769 : Cond.code yX12_whyVisit cX12_whyVisit 3 (some .int) ∈ lw_tbl := mt_7 (List.mem_of_getElem? (i := 94) rfl)
theorem wd_770 : Cond.selects RX12 yX12_whyVisit yX12_whyVisit ∈ lw_tbl := mp_6 (q := (⟨"OneOfEachModel", "whyVisit", "(J)I"⟩, 32)) (List.mem_of_getElem? (i := 5) rfl)
theorem wd_771 : Cond.instanceMethod yX12_whyVisit ∈ lw_tbl := mt_7 (List.mem_of_getElem? (i := 93) rfl)
theorem wd_772 : Cond.methodLink RX12 275 yX12_whyVisit ∈ lw_tbl := mt_7 (List.mem_of_getElem? (i := 91) rfl)
set_option maxRecDepth 20000 in
theorem hl_wsX12_visit_r1 : ∀ w ∈ wsX12_visit_r1, w ∈ lw_tbl := by
  unfold wsX12_visit_r1
  exact (List.forall_mem_cons.mpr ⟨wd_34, (List.forall_mem_cons.mpr ⟨wd_772, (List.forall_mem_cons.mpr ⟨wd_771, (List.forall_mem_cons.mpr ⟨wd_770, (List.forall_mem_cons.mpr ⟨wd_27, (List.forall_mem_cons.mpr ⟨wd_769, (List.forall_mem_cons.mpr ⟨wd_692, (List.forall_mem_cons.mpr ⟨wd_691, (List.forall_mem_cons.mpr ⟨wd_690, (List.forall_mem_cons.mpr ⟨wd_689, (List.forall_mem_cons.mpr ⟨wd_423, (List.forall_mem_cons.mpr ⟨wd_422, (List.forall_mem_cons.mpr ⟨wd_421, (List.forall_mem_cons.mpr ⟨wd_420, (List.forall_mem_cons.mpr ⟨wd_768, (List.forall_mem_cons.mpr ⟨wd_767, (List.forall_mem_cons.mpr ⟨wd_766, (List.forall_mem_cons.mpr ⟨wd_765, (List.forall_mem_cons.mpr ⟨wd_614, (List.forall_mem_cons.mpr ⟨wd_613, (List.forall_mem_cons.mpr ⟨wd_654, (List.forall_mem_cons.mpr ⟨wd_653, (List.forall_mem_cons.mpr ⟨wd_652, (List.forall_mem_cons.mpr ⟨wd_651, (fun _ h => absurd h List.not_mem_nil)⟩)⟩)⟩)⟩)⟩)⟩)⟩)⟩)⟩)⟩)⟩)⟩)⟩)⟩)⟩)⟩)⟩)⟩)⟩)⟩)⟩)⟩)⟩)⟩)
set_option maxRecDepth 20000 in
theorem hl_wsX12_visit_r2 : ∀ w ∈ wsX12_visit_r2, w ∈ lw_tbl := by
  unfold wsX12_visit_r2
  exact (List.forall_mem_cons.mpr ⟨wd_650, (List.forall_mem_cons.mpr ⟨wd_649, (List.forall_mem_cons.mpr ⟨wd_648, (List.forall_mem_cons.mpr ⟨wd_647, (List.forall_mem_cons.mpr ⟨wd_646, (List.forall_mem_cons.mpr ⟨wd_645, (List.forall_mem_cons.mpr ⟨wd_622, (List.forall_mem_cons.mpr ⟨wd_621, (List.forall_mem_cons.mpr ⟨wd_620, (List.forall_mem_cons.mpr ⟨wd_619, (List.forall_mem_cons.mpr ⟨wd_618, (List.forall_mem_cons.mpr ⟨wd_617, (List.forall_mem_cons.mpr ⟨wd_616, (List.forall_mem_cons.mpr ⟨wd_615, (List.forall_mem_cons.mpr ⟨wd_644, (List.forall_mem_cons.mpr ⟨wd_643, (List.forall_mem_cons.mpr ⟨wd_642, (List.forall_mem_cons.mpr ⟨wd_641, (List.forall_mem_cons.mpr ⟨wd_640, (List.forall_mem_cons.mpr ⟨wd_639, (List.forall_mem_cons.mpr ⟨wd_638, (List.forall_mem_cons.mpr ⟨wd_637, (List.forall_mem_cons.mpr ⟨wd_636, (List.forall_mem_cons.mpr ⟨wd_635, (fun _ h => absurd h List.not_mem_nil)⟩)⟩)⟩)⟩)⟩)⟩)⟩)⟩)⟩)⟩)⟩)⟩)⟩)⟩)⟩)⟩)⟩)⟩)⟩)⟩)⟩)⟩)⟩)⟩)
theorem wd_773 : Cond.code yX12_visits cX12_visits 3 (some .int) ∈ lw_tbl := mt_7 (List.mem_of_getElem? (i := 102) rfl)
theorem wd_774 : Cond.selects RX12 yX12_visits yX12_visits ∈ lw_tbl := mp_6 (q := (⟨"OneOfEachModel", "visits", "(I)I"⟩, 32)) (List.mem_of_getElem? (i := 7) rfl)
theorem wd_775 : Cond.instanceMethod yX12_visits ∈ lw_tbl := mt_7 (List.mem_of_getElem? (i := 101) rfl)
theorem wd_776 : Cond.methodLink RX12 279 yX12_visits ∈ lw_tbl := mt_7 (List.mem_of_getElem? (i := 99) rfl)
set_option maxRecDepth 20000 in
theorem hl_wsX12_visit_r3 : ∀ w ∈ wsX12_visit_r3, w ∈ lw_tbl := by
  unfold wsX12_visit_r3
  exact (List.forall_mem_cons.mpr ⟨wd_634, (List.forall_mem_cons.mpr ⟨wd_633, (List.forall_mem_cons.mpr ⟨wd_632, (List.forall_mem_cons.mpr ⟨wd_631, (List.forall_mem_cons.mpr ⟨wd_665, (List.forall_mem_cons.mpr ⟨wd_664, (List.forall_mem_cons.mpr ⟨wd_663, (List.forall_mem_cons.mpr ⟨wd_662, (List.forall_mem_cons.mpr ⟨wd_661, (List.forall_mem_cons.mpr ⟨wd_660, (List.forall_mem_cons.mpr ⟨wd_659, (List.forall_mem_cons.mpr ⟨wd_658, (List.forall_mem_cons.mpr ⟨wd_657, (List.forall_mem_cons.mpr ⟨wd_656, (List.forall_mem_cons.mpr ⟨wd_655, (List.forall_mem_cons.mpr ⟨wd_728, (List.forall_mem_cons.mpr ⟨wd_727, (List.forall_mem_cons.mpr ⟨wd_726, (List.forall_mem_cons.mpr ⟨wd_725, (List.forall_mem_cons.mpr ⟨wd_729, (List.forall_mem_cons.mpr ⟨wd_776, (List.forall_mem_cons.mpr ⟨wd_775, (List.forall_mem_cons.mpr ⟨wd_774, (List.forall_mem_cons.mpr ⟨wd_773, (fun _ h => absurd h List.not_mem_nil)⟩)⟩)⟩)⟩)⟩)⟩)⟩)⟩)⟩)⟩)⟩)⟩)⟩)⟩)⟩)⟩)⟩)⟩)⟩)⟩)⟩)⟩)⟩)⟩)
set_option maxRecDepth 20000 in
theorem hl_wsX12_visit_r4 : ∀ w ∈ wsX12_visit_r4, w ∈ lw_tbl := by
  unfold wsX12_visit_r4
  exact (List.forall_mem_cons.mpr ⟨wd_724, (List.forall_mem_cons.mpr ⟨wd_723, (List.forall_mem_cons.mpr ⟨wd_722, (List.forall_mem_cons.mpr ⟨wd_721, (fun _ h => absurd h List.not_mem_nil)⟩)⟩)⟩)⟩)
set_option maxRecDepth 20000 in
theorem hl_wsX12_visit : ∀ w ∈ wsX12_visit, w ∈ lw_tbl := by
  unfold wsX12_visit
  exact (List.forall_mem_cons.mpr ⟨wd_764, (List.forall_mem_append.mpr ⟨(List.forall_mem_append.mpr ⟨hl_wsX12_visit_r1, (List.forall_mem_append.mpr ⟨hl_wsX12_visit_r2, (List.forall_mem_append.mpr ⟨hl_wsX12_visit_r3, hl_wsX12_visit_r4⟩)⟩)⟩), hl_wsX120⟩)⟩)
def tL_visit : List Cond := (wsV RL 44 RX11 yX11_visit wsX11_visit) ++ (wsV RL 47 RX12 yX12_visit wsX12_visit)
theorem tL_visit_in : ∀ w ∈ tL_visit, w ∈ lw_tbl := by
  unfold tL_visit
  exact (List.forall_mem_append.mpr ⟨(List.forall_mem_append.mpr ⟨(List.forall_mem_cons.mpr ⟨wd_732, (List.forall_mem_cons.mpr ⟨wd_731, (List.forall_mem_cons.mpr ⟨wd_730, (List.forall_mem_cons.mpr ⟨wd_0, (fun _ h => absurd h List.not_mem_nil)⟩)⟩)⟩)⟩), hl_wsX11_visit⟩), (List.forall_mem_append.mpr ⟨(List.forall_mem_cons.mpr ⟨wd_763, (List.forall_mem_cons.mpr ⟨wd_762, (List.forall_mem_cons.mpr ⟨wd_761, (List.forall_mem_cons.mpr ⟨wd_27, (fun _ h => absurd h List.not_mem_nil)⟩)⟩)⟩)⟩), hl_wsX12_visit⟩)⟩)
set_option maxRecDepth 20000 in
theorem tL_visit_x : GoodIn tL_visit (wsV RL 44 RX11 yX11_visit wsX11_visit) := fun w h => ⟨List.mem_append_left _ h, good_of_word (List.all_eq_true.mp (show (wsV RL 44 RX11 yX11_visit wsX11_visit).all goodWord = true by decide +kernel) w h)⟩
set_option maxRecDepth 20000 in
theorem tL_visit_m : GoodIn tL_visit (wsV RL 47 RX12 yX12_visit wsX12_visit) := fun w h => ⟨List.mem_append_right _ h, good_of_word (List.all_eq_true.mp (show (wsV RL 47 RX12 yX12_visit wsX12_visit).all goodWord = true by decide +kernel) w h)⟩
theorem hdLX11_visit : yX11_visit.cls = RX11 ∧ yX11_visit.cls ≠ "java/lang/invoke/MethodHandle" ∧ yX11_visit.cls ≠ "java/lang/invoke/VarHandle" ∧ (parseMethodDescriptor yX11_visit.desc).map (fun d => d.parameters.length) = some 1 := by decide +kernel
theorem hdLX12_visit : yX12_visit.cls = RX12 ∧ yX12_visit.cls ≠ "java/lang/invoke/MethodHandle" ∧ yX12_visit.cls ≠ "java/lang/invoke/VarHandle" ∧ (parseMethodDescriptor yX12_visit.desc).map (fun d => d.parameters.length) = some 1 := by decide +kernel
theorem wd_777 : Cond.selects RX11 yX11_gift yX11_gift ∈ lw_tbl := mt_4 (List.mem_of_getElem? (i := 50) rfl)
theorem wd_778 : Cond.instanceMethod yX11_gift ∈ lw_tbl := mt_4 (List.mem_of_getElem? (i := 49) rfl)
theorem wd_779 : Cond.methodLink RL 48 yX11_gift ∈ lw_tbl := mt_4 (List.mem_of_getElem? (i := 48) rfl)
theorem wd_780 : Cond.code yX11_gift cX11_gift 2 (some .int) ∈ lw_tbl := mt_4 (List.mem_of_getElem? (i := 51) rfl)
theorem wd_781 : Cond.methodLink RX1 50 yX9_holds ∈ lw_tbl := mt_4 (List.mem_of_getElem? (i := 56) rfl)
theorem wd_782 : Cond.fieldLink RX1 54 "OneOfEach$Stock" "gifts" "I" ∈ lw_tbl := mt_1 (List.mem_of_getElem? (i := 133) rfl)
theorem wd_783 : Cond.code yX1_giveAway cX1_giveAway 3 (some .int) ∈ lw_tbl := mt_4 (List.mem_of_getElem? (i := 55) rfl)
theorem wd_784 : Cond.selects RX1 yX1_giveAway yX1_giveAway ∈ lw_tbl := mt_4 (List.mem_of_getElem? (i := 54) rfl)
theorem wd_785 : Cond.instanceMethod yX1_giveAway ∈ lw_tbl := mt_4 (List.mem_of_getElem? (i := 53) rfl)
theorem wd_786 : Cond.methodLink RX11 205 yX1_giveAway ∈ lw_tbl := mt_4 (List.mem_of_getElem? (i := 52) rfl)
set_option maxRecDepth 20000 in
theorem hl_wsX11_gift_r1 : ∀ w ∈ wsX11_gift_r1, w ∈ lw_tbl := by
  unfold wsX11_gift_r1
  exact (List.forall_mem_cons.mpr ⟨wd_90, (List.forall_mem_cons.mpr ⟨wd_84, (List.forall_mem_cons.mpr ⟨wd_740, (List.forall_mem_cons.mpr ⟨wd_346, (List.forall_mem_cons.mpr ⟨wd_345, (List.forall_mem_cons.mpr ⟨wd_344, (List.forall_mem_cons.mpr ⟨wd_102, (List.forall_mem_cons.mpr ⟨wd_343, (List.forall_mem_cons.mpr ⟨wd_100, (List.forall_mem_cons.mpr ⟨wd_342, (List.forall_mem_cons.mpr ⟨wd_341, (List.forall_mem_cons.mpr ⟨wd_99, (List.forall_mem_cons.mpr ⟨wd_98, (List.forall_mem_cons.mpr ⟨wd_97, (List.forall_mem_cons.mpr ⟨wd_96, (List.forall_mem_cons.mpr ⟨wd_95, (List.forall_mem_cons.mpr ⟨wd_94, (List.forall_mem_cons.mpr ⟨wd_786, (List.forall_mem_cons.mpr ⟨wd_785, (List.forall_mem_cons.mpr ⟨wd_784, (List.forall_mem_cons.mpr ⟨wd_736, (List.forall_mem_cons.mpr ⟨wd_783, (List.forall_mem_cons.mpr ⟨wd_782, (List.forall_mem_cons.mpr ⟨wd_781, (fun _ h => absurd h List.not_mem_nil)⟩)⟩)⟩)⟩)⟩)⟩)⟩)⟩)⟩)⟩)⟩)⟩)⟩)⟩)⟩)⟩)⟩)⟩)⟩)⟩)⟩)⟩)⟩)⟩)
theorem wd_787 : Cond.code yX9_holds cX9_holds 2 (some .boolean) ∈ lw_tbl := mt_4 (List.mem_of_getElem? (i := 59) rfl)
theorem wd_788 : Cond.selects RX9 yX9_holds yX9_holds ∈ lw_tbl := mt_4 (List.mem_of_getElem? (i := 58) rfl)
theorem wd_789 : Cond.instanceMethod yX9_holds ∈ lw_tbl := mt_4 (List.mem_of_getElem? (i := 57) rfl)
set_option maxRecDepth 20000 in
theorem hl_wsX11_gift_r2 : ∀ w ∈ wsX11_gift_r2, w ∈ lw_tbl := by
  unfold wsX11_gift_r2
  exact (List.forall_mem_cons.mpr ⟨wd_789, (List.forall_mem_cons.mpr ⟨wd_788, (List.forall_mem_cons.mpr ⟨wd_787, (List.forall_mem_cons.mpr ⟨wd_749, (List.forall_mem_cons.mpr ⟨wd_748, (List.forall_mem_cons.mpr ⟨wd_747, (List.forall_mem_cons.mpr ⟨wd_746, (List.forall_mem_cons.mpr ⟨wd_745, (List.forall_mem_cons.mpr ⟨wd_744, (List.forall_mem_cons.mpr ⟨wd_743, (List.forall_mem_cons.mpr ⟨wd_742, (List.forall_mem_cons.mpr ⟨wd_759, (List.forall_mem_cons.mpr ⟨wd_758, (List.forall_mem_cons.mpr ⟨wd_757, (List.forall_mem_cons.mpr ⟨wd_0, (List.forall_mem_cons.mpr ⟨wd_756, (List.forall_mem_cons.mpr ⟨wd_336, (List.forall_mem_cons.mpr ⟨wd_715, (List.forall_mem_cons.mpr ⟨wd_714, (List.forall_mem_cons.mpr ⟨wd_713, (List.forall_mem_cons.mpr ⟨wd_368, (List.forall_mem_cons.mpr ⟨wd_712, (List.forall_mem_cons.mpr ⟨wd_711, (List.forall_mem_cons.mpr ⟨wd_710, (fun _ h => absurd h List.not_mem_nil)⟩)⟩)⟩)⟩)⟩)⟩)⟩)⟩)⟩)⟩)⟩)⟩)⟩)⟩)⟩)⟩)⟩)⟩)⟩)⟩)⟩)⟩)⟩)⟩)
set_option maxRecDepth 20000 in
theorem hl_wsX11_gift_r3 : ∀ w ∈ wsX11_gift_r3, w ∈ lw_tbl := by
  unfold wsX11_gift_r3
  exact (List.forall_mem_cons.mpr ⟨wd_366, (List.forall_mem_cons.mpr ⟨wd_709, (List.forall_mem_cons.mpr ⟨wd_191, (List.forall_mem_cons.mpr ⟨wd_133, (List.forall_mem_cons.mpr ⟨wd_190, (List.forall_mem_cons.mpr ⟨wd_708, (fun _ h => absurd h List.not_mem_nil)⟩)⟩)⟩)⟩)⟩)⟩)
set_option maxRecDepth 20000 in
theorem hl_wsX11_gift : ∀ w ∈ wsX11_gift, w ∈ lw_tbl := by
  unfold wsX11_gift
  exact (List.forall_mem_cons.mpr ⟨wd_780, (List.forall_mem_append.mpr ⟨(List.forall_mem_append.mpr ⟨(List.forall_mem_append.mpr ⟨(List.forall_mem_append.mpr ⟨hl_wsX11_gift_r1, (List.forall_mem_append.mpr ⟨hl_wsX11_gift_r2, hl_wsX11_gift_r3⟩)⟩), hl_wsX110⟩), hl_wsX90⟩), hl_wsX60⟩)⟩)
theorem wd_790 : Cond.selects RX12 yX12_gift yX12_gift ∈ lw_tbl := mt_7 (List.mem_of_getElem? (i := 105) rfl)
theorem wd_791 : Cond.instanceMethod yX12_gift ∈ lw_tbl := mt_7 (List.mem_of_getElem? (i := 104) rfl)
theorem wd_792 : Cond.methodLink RL 51 yX12_gift ∈ lw_tbl := mt_7 (List.mem_of_getElem? (i := 103) rfl)
theorem wd_793 : Cond.code yX12_gift cX12_gift 3 (some .int) ∈ lw_tbl := mt_7 (List.mem_of_getElem? (i := 106) rfl)
theorem wd_794 : Cond.code yX12_whyKind cX12_whyKind 3 (some .int) ∈ lw_tbl := mt_7 (List.mem_of_getElem? (i := 110) rfl)
theorem wd_795 : Cond.selects RX12 yX12_whyKind yX12_whyKind ∈ lw_tbl := mp_6 (q := (⟨"OneOfEachModel", "whyKind", "(J)I"⟩, 32)) (List.mem_of_getElem? (i := 8) rfl)
theorem wd_796 : Cond.instanceMethod yX12_whyKind ∈ lw_tbl := mt_7 (List.mem_of_getElem? (i := 109) rfl)
theorem wd_797 : Cond.methodLink RX12 288 yX12_whyKind ∈ lw_tbl := mt_7 (List.mem_of_getElem? (i := 107) rfl)
set_option maxRecDepth 20000 in
theorem hl_wsX12_gift_r1 : ∀ w ∈ wsX12_gift_r1, w ∈ lw_tbl := by
  unfold wsX12_gift_r1
  exact (List.forall_mem_cons.mpr ⟨wd_34, (List.forall_mem_cons.mpr ⟨wd_423, (List.forall_mem_cons.mpr ⟨wd_797, (List.forall_mem_cons.mpr ⟨wd_796, (List.forall_mem_cons.mpr ⟨wd_795, (List.forall_mem_cons.mpr ⟨wd_27, (List.forall_mem_cons.mpr ⟨wd_794, (List.forall_mem_cons.mpr ⟨wd_630, (List.forall_mem_cons.mpr ⟨wd_629, (List.forall_mem_cons.mpr ⟨wd_628, (List.forall_mem_cons.mpr ⟨wd_627, (List.forall_mem_cons.mpr ⟨wd_422, (List.forall_mem_cons.mpr ⟨wd_421, (List.forall_mem_cons.mpr ⟨wd_420, (List.forall_mem_cons.mpr ⟨wd_768, (List.forall_mem_cons.mpr ⟨wd_767, (List.forall_mem_cons.mpr ⟨wd_766, (List.forall_mem_cons.mpr ⟨wd_765, (List.forall_mem_cons.mpr ⟨wd_614, (List.forall_mem_cons.mpr ⟨wd_613, (List.forall_mem_cons.mpr ⟨wd_654, (List.forall_mem_cons.mpr ⟨wd_653, (List.forall_mem_cons.mpr ⟨wd_652, (List.forall_mem_cons.mpr ⟨wd_651, (fun _ h => absurd h List.not_mem_nil)⟩)⟩)⟩)⟩)⟩)⟩)⟩)⟩)⟩)⟩)⟩)⟩)⟩)⟩)⟩)⟩)⟩)⟩)⟩)⟩)⟩)⟩)⟩)⟩)
set_option maxRecDepth 20000 in
theorem hl_wsX12_gift_r2 : ∀ w ∈ wsX12_gift_r2, w ∈ lw_tbl := by
  unfold wsX12_gift_r2
  exact (List.forall_mem_cons.mpr ⟨wd_650, (List.forall_mem_cons.mpr ⟨wd_649, (List.forall_mem_cons.mpr ⟨wd_648, (List.forall_mem_cons.mpr ⟨wd_647, (List.forall_mem_cons.mpr ⟨wd_646, (List.forall_mem_cons.mpr ⟨wd_645, (List.forall_mem_cons.mpr ⟨wd_728, (List.forall_mem_cons.mpr ⟨wd_727, (List.forall_mem_cons.mpr ⟨wd_726, (List.forall_mem_cons.mpr ⟨wd_725, (List.forall_mem_cons.mpr ⟨wd_729, (List.forall_mem_cons.mpr ⟨wd_724, (List.forall_mem_cons.mpr ⟨wd_723, (List.forall_mem_cons.mpr ⟨wd_722, (List.forall_mem_cons.mpr ⟨wd_721, (fun _ h => absurd h List.not_mem_nil)⟩)⟩)⟩)⟩)⟩)⟩)⟩)⟩)⟩)⟩)⟩)⟩)⟩)⟩)⟩)
set_option maxRecDepth 20000 in
theorem hl_wsX12_gift : ∀ w ∈ wsX12_gift, w ∈ lw_tbl := by
  unfold wsX12_gift
  exact (List.forall_mem_cons.mpr ⟨wd_793, (List.forall_mem_append.mpr ⟨(List.forall_mem_append.mpr ⟨hl_wsX12_gift_r1, hl_wsX12_gift_r2⟩), hl_wsX120⟩)⟩)
def tL_gift : List Cond := (wsV RL 48 RX11 yX11_gift wsX11_gift) ++ (wsV RL 51 RX12 yX12_gift wsX12_gift)
theorem tL_gift_in : ∀ w ∈ tL_gift, w ∈ lw_tbl := by
  unfold tL_gift
  exact (List.forall_mem_append.mpr ⟨(List.forall_mem_append.mpr ⟨(List.forall_mem_cons.mpr ⟨wd_779, (List.forall_mem_cons.mpr ⟨wd_778, (List.forall_mem_cons.mpr ⟨wd_777, (List.forall_mem_cons.mpr ⟨wd_0, (fun _ h => absurd h List.not_mem_nil)⟩)⟩)⟩)⟩), hl_wsX11_gift⟩), (List.forall_mem_append.mpr ⟨(List.forall_mem_cons.mpr ⟨wd_792, (List.forall_mem_cons.mpr ⟨wd_791, (List.forall_mem_cons.mpr ⟨wd_790, (List.forall_mem_cons.mpr ⟨wd_27, (fun _ h => absurd h List.not_mem_nil)⟩)⟩)⟩)⟩), hl_wsX12_gift⟩)⟩)
set_option maxRecDepth 20000 in
theorem tL_gift_x : GoodIn tL_gift (wsV RL 48 RX11 yX11_gift wsX11_gift) := fun w h => ⟨List.mem_append_left _ h, good_of_word (List.all_eq_true.mp (show (wsV RL 48 RX11 yX11_gift wsX11_gift).all goodWord = true by decide +kernel) w h)⟩
set_option maxRecDepth 20000 in
theorem tL_gift_m : GoodIn tL_gift (wsV RL 51 RX12 yX12_gift wsX12_gift) := fun w h => ⟨List.mem_append_right _ h, good_of_word (List.all_eq_true.mp (show (wsV RL 51 RX12 yX12_gift wsX12_gift).all goodWord = true by decide +kernel) w h)⟩
theorem hdLX11_gift : yX11_gift.cls = RX11 ∧ yX11_gift.cls ≠ "java/lang/invoke/MethodHandle" ∧ yX11_gift.cls ≠ "java/lang/invoke/VarHandle" ∧ (parseMethodDescriptor yX11_gift.desc).map (fun d => d.parameters.length) = some 1 := by decide +kernel
theorem hdLX12_gift : yX12_gift.cls = RX12 ∧ yX12_gift.cls ≠ "java/lang/invoke/MethodHandle" ∧ yX12_gift.cls ≠ "java/lang/invoke/VarHandle" ∧ (parseMethodDescriptor yX12_gift.desc).map (fun d => d.parameters.length) = some 1 := by decide +kernel
theorem wd_798 : Cond.selects RX11 yX11_hide yX11_hide ∈ lw_tbl := mt_4 (List.mem_of_getElem? (i := 62) rfl)
theorem wd_799 : Cond.instanceMethod yX11_hide ∈ lw_tbl := mt_4 (List.mem_of_getElem? (i := 61) rfl)
theorem wd_800 : Cond.methodLink RL 52 yX11_hide ∈ lw_tbl := mt_4 (List.mem_of_getElem? (i := 60) rfl)
theorem wd_801 : Cond.code yX11_hide cX11_hide 2 (some .int) ∈ lw_tbl := mt_4 (List.mem_of_getElem? (i := 63) rfl)
theorem wd_802 : Cond.code yX1_turn cX1_turn 3 (some .int) ∈ lw_tbl := mt_4 (List.mem_of_getElem? (i := 67) rfl)
theorem wd_803 : Cond.selects RX1 yX1_turn yX1_turn ∈ lw_tbl := mt_4 (List.mem_of_getElem? (i := 66) rfl)
theorem wd_804 : Cond.instanceMethod yX1_turn ∈ lw_tbl := mt_4 (List.mem_of_getElem? (i := 65) rfl)
theorem wd_805 : Cond.methodLink RX11 209 yX1_turn ∈ lw_tbl := mt_4 (List.mem_of_getElem? (i := 64) rfl)
set_option maxRecDepth 20000 in
theorem hl_wsX11_hide_r1 : ∀ w ∈ wsX11_hide_r1, w ∈ lw_tbl := by
  unfold wsX11_hide_r1
  exact (List.forall_mem_cons.mpr ⟨wd_90, (List.forall_mem_cons.mpr ⟨wd_84, (List.forall_mem_cons.mpr ⟨wd_740, (List.forall_mem_cons.mpr ⟨wd_346, (List.forall_mem_cons.mpr ⟨wd_345, (List.forall_mem_cons.mpr ⟨wd_344, (List.forall_mem_cons.mpr ⟨wd_102, (List.forall_mem_cons.mpr ⟨wd_343, (List.forall_mem_cons.mpr ⟨wd_100, (List.forall_mem_cons.mpr ⟨wd_342, (List.forall_mem_cons.mpr ⟨wd_341, (List.forall_mem_cons.mpr ⟨wd_99, (List.forall_mem_cons.mpr ⟨wd_98, (List.forall_mem_cons.mpr ⟨wd_97, (List.forall_mem_cons.mpr ⟨wd_96, (List.forall_mem_cons.mpr ⟨wd_95, (List.forall_mem_cons.mpr ⟨wd_94, (List.forall_mem_cons.mpr ⟨wd_805, (List.forall_mem_cons.mpr ⟨wd_804, (List.forall_mem_cons.mpr ⟨wd_803, (List.forall_mem_cons.mpr ⟨wd_736, (List.forall_mem_cons.mpr ⟨wd_802, (List.forall_mem_cons.mpr ⟨wd_752, (List.forall_mem_cons.mpr ⟨wd_781, (fun _ h => absurd h List.not_mem_nil)⟩)⟩)⟩)⟩)⟩)⟩)⟩)⟩)⟩)⟩)⟩)⟩)⟩)⟩)⟩)⟩)⟩)⟩)⟩)⟩)⟩)⟩)⟩)⟩)
set_option maxRecDepth 20000 in
theorem hl_wsX11_hide_r2 : ∀ w ∈ wsX11_hide_r2, w ∈ lw_tbl := by
  unfold wsX11_hide_r2
  exact (List.forall_mem_cons.mpr ⟨wd_789, (List.forall_mem_cons.mpr ⟨wd_788, (List.forall_mem_cons.mpr ⟨wd_787, (List.forall_mem_cons.mpr ⟨wd_749, (List.forall_mem_cons.mpr ⟨wd_748, (List.forall_mem_cons.mpr ⟨wd_747, (List.forall_mem_cons.mpr ⟨wd_746, (List.forall_mem_cons.mpr ⟨wd_745, (List.forall_mem_cons.mpr ⟨wd_744, (List.forall_mem_cons.mpr ⟨wd_743, (List.forall_mem_cons.mpr ⟨wd_742, (List.forall_mem_cons.mpr ⟨wd_759, (List.forall_mem_cons.mpr ⟨wd_758, (List.forall_mem_cons.mpr ⟨wd_757, (List.forall_mem_cons.mpr ⟨wd_0, (List.forall_mem_cons.mpr ⟨wd_756, (List.forall_mem_cons.mpr ⟨wd_336, (List.forall_mem_cons.mpr ⟨wd_715, (List.forall_mem_cons.mpr ⟨wd_714, (List.forall_mem_cons.mpr ⟨wd_713, (List.forall_mem_cons.mpr ⟨wd_368, (List.forall_mem_cons.mpr ⟨wd_712, (List.forall_mem_cons.mpr ⟨wd_711, (List.forall_mem_cons.mpr ⟨wd_710, (fun _ h => absurd h List.not_mem_nil)⟩)⟩)⟩)⟩)⟩)⟩)⟩)⟩)⟩)⟩)⟩)⟩)⟩)⟩)⟩)⟩)⟩)⟩)⟩)⟩)⟩)⟩)⟩)⟩)
set_option maxRecDepth 20000 in
theorem hl_wsX11_hide_r3 : ∀ w ∈ wsX11_hide_r3, w ∈ lw_tbl := by
  unfold wsX11_hide_r3
  exact (List.forall_mem_cons.mpr ⟨wd_366, (List.forall_mem_cons.mpr ⟨wd_709, (List.forall_mem_cons.mpr ⟨wd_191, (List.forall_mem_cons.mpr ⟨wd_133, (List.forall_mem_cons.mpr ⟨wd_190, (List.forall_mem_cons.mpr ⟨wd_708, (fun _ h => absurd h List.not_mem_nil)⟩)⟩)⟩)⟩)⟩)⟩)
set_option maxRecDepth 20000 in
theorem hl_wsX11_hide : ∀ w ∈ wsX11_hide, w ∈ lw_tbl := by
  unfold wsX11_hide
  exact (List.forall_mem_cons.mpr ⟨wd_801, (List.forall_mem_append.mpr ⟨(List.forall_mem_append.mpr ⟨(List.forall_mem_append.mpr ⟨(List.forall_mem_append.mpr ⟨hl_wsX11_hide_r1, (List.forall_mem_append.mpr ⟨hl_wsX11_hide_r2, hl_wsX11_hide_r3⟩)⟩), hl_wsX110⟩), hl_wsX90⟩), hl_wsX60⟩)⟩)
theorem wd_806 : Cond.selects RX12 yX12_hide yX12_hide ∈ lw_tbl := mt_7 (List.mem_of_getElem? (i := 113) rfl)
theorem wd_807 : Cond.instanceMethod yX12_hide ∈ lw_tbl := mt_7 (List.mem_of_getElem? (i := 112) rfl)
theorem wd_808 : Cond.methodLink RL 55 yX12_hide ∈ lw_tbl := mt_7 (List.mem_of_getElem? (i := 111) rfl)
theorem wd_809 : Cond.code yX12_hide cX12_hide 3 (some .int) ∈ lw_tbl := mt_7 (List.mem_of_getElem? (i := 114) rfl)
set_option maxRecDepth 20000 in
theorem hl_wsX12_hide_r1 : ∀ w ∈ wsX12_hide_r1, w ∈ lw_tbl := by
  unfold wsX12_hide_r1
  exact (List.forall_mem_cons.mpr ⟨wd_34, (List.forall_mem_cons.mpr ⟨wd_423, (List.forall_mem_cons.mpr ⟨wd_797, (List.forall_mem_cons.mpr ⟨wd_796, (List.forall_mem_cons.mpr ⟨wd_795, (List.forall_mem_cons.mpr ⟨wd_27, (List.forall_mem_cons.mpr ⟨wd_794, (List.forall_mem_cons.mpr ⟨wd_630, (List.forall_mem_cons.mpr ⟨wd_629, (List.forall_mem_cons.mpr ⟨wd_628, (List.forall_mem_cons.mpr ⟨wd_627, (List.forall_mem_cons.mpr ⟨wd_422, (List.forall_mem_cons.mpr ⟨wd_421, (List.forall_mem_cons.mpr ⟨wd_420, (List.forall_mem_cons.mpr ⟨wd_768, (List.forall_mem_cons.mpr ⟨wd_767, (List.forall_mem_cons.mpr ⟨wd_766, (List.forall_mem_cons.mpr ⟨wd_765, (List.forall_mem_cons.mpr ⟨wd_614, (List.forall_mem_cons.mpr ⟨wd_613, (List.forall_mem_cons.mpr ⟨wd_654, (List.forall_mem_cons.mpr ⟨wd_653, (List.forall_mem_cons.mpr ⟨wd_652, (List.forall_mem_cons.mpr ⟨wd_651, (fun _ h => absurd h List.not_mem_nil)⟩)⟩)⟩)⟩)⟩)⟩)⟩)⟩)⟩)⟩)⟩)⟩)⟩)⟩)⟩)⟩)⟩)⟩)⟩)⟩)⟩)⟩)⟩)⟩)
set_option maxRecDepth 20000 in
theorem hl_wsX12_hide_r2 : ∀ w ∈ wsX12_hide_r2, w ∈ lw_tbl := by
  unfold wsX12_hide_r2
  exact (List.forall_mem_cons.mpr ⟨wd_650, (List.forall_mem_cons.mpr ⟨wd_649, (List.forall_mem_cons.mpr ⟨wd_648, (List.forall_mem_cons.mpr ⟨wd_647, (List.forall_mem_cons.mpr ⟨wd_646, (List.forall_mem_cons.mpr ⟨wd_645, (List.forall_mem_cons.mpr ⟨wd_728, (List.forall_mem_cons.mpr ⟨wd_727, (List.forall_mem_cons.mpr ⟨wd_726, (List.forall_mem_cons.mpr ⟨wd_725, (List.forall_mem_cons.mpr ⟨wd_729, (List.forall_mem_cons.mpr ⟨wd_724, (List.forall_mem_cons.mpr ⟨wd_723, (List.forall_mem_cons.mpr ⟨wd_722, (List.forall_mem_cons.mpr ⟨wd_721, (fun _ h => absurd h List.not_mem_nil)⟩)⟩)⟩)⟩)⟩)⟩)⟩)⟩)⟩)⟩)⟩)⟩)⟩)⟩)⟩)
set_option maxRecDepth 20000 in
theorem hl_wsX12_hide : ∀ w ∈ wsX12_hide, w ∈ lw_tbl := by
  unfold wsX12_hide
  exact (List.forall_mem_cons.mpr ⟨wd_809, (List.forall_mem_append.mpr ⟨(List.forall_mem_append.mpr ⟨hl_wsX12_hide_r1, hl_wsX12_hide_r2⟩), hl_wsX120⟩)⟩)
def tL_hide : List Cond := (wsV RL 52 RX11 yX11_hide wsX11_hide) ++ (wsV RL 55 RX12 yX12_hide wsX12_hide)
theorem tL_hide_in : ∀ w ∈ tL_hide, w ∈ lw_tbl := by
  unfold tL_hide
  exact (List.forall_mem_append.mpr ⟨(List.forall_mem_append.mpr ⟨(List.forall_mem_cons.mpr ⟨wd_800, (List.forall_mem_cons.mpr ⟨wd_799, (List.forall_mem_cons.mpr ⟨wd_798, (List.forall_mem_cons.mpr ⟨wd_0, (fun _ h => absurd h List.not_mem_nil)⟩)⟩)⟩)⟩), hl_wsX11_hide⟩), (List.forall_mem_append.mpr ⟨(List.forall_mem_cons.mpr ⟨wd_808, (List.forall_mem_cons.mpr ⟨wd_807, (List.forall_mem_cons.mpr ⟨wd_806, (List.forall_mem_cons.mpr ⟨wd_27, (fun _ h => absurd h List.not_mem_nil)⟩)⟩)⟩)⟩), hl_wsX12_hide⟩)⟩)
set_option maxRecDepth 20000 in
theorem tL_hide_x : GoodIn tL_hide (wsV RL 52 RX11 yX11_hide wsX11_hide) := fun w h => ⟨List.mem_append_left _ h, good_of_word (List.all_eq_true.mp (show (wsV RL 52 RX11 yX11_hide wsX11_hide).all goodWord = true by decide +kernel) w h)⟩
set_option maxRecDepth 20000 in
theorem tL_hide_m : GoodIn tL_hide (wsV RL 55 RX12 yX12_hide wsX12_hide) := fun w h => ⟨List.mem_append_right _ h, good_of_word (List.all_eq_true.mp (show (wsV RL 55 RX12 yX12_hide wsX12_hide).all goodWord = true by decide +kernel) w h)⟩
theorem hdLX11_hide : yX11_hide.cls = RX11 ∧ yX11_hide.cls ≠ "java/lang/invoke/MethodHandle" ∧ yX11_hide.cls ≠ "java/lang/invoke/VarHandle" ∧ (parseMethodDescriptor yX11_hide.desc).map (fun d => d.parameters.length) = some 1 := by decide +kernel
theorem hdLX12_hide : yX12_hide.cls = RX12 ∧ yX12_hide.cls ≠ "java/lang/invoke/MethodHandle" ∧ yX12_hide.cls ≠ "java/lang/invoke/VarHandle" ∧ (parseMethodDescriptor yX12_hide.desc).map (fun d => d.parameters.length) = some 1 := by decide +kernel
theorem wd_810 : Cond.selects RX11 yX11_add yX11_add ∈ lw_tbl := mt_4 (List.mem_of_getElem? (i := 70) rfl)
theorem wd_811 : Cond.instanceMethod yX11_add ∈ lw_tbl := mt_4 (List.mem_of_getElem? (i := 69) rfl)
theorem wd_812 : Cond.methodLink RL 56 yX11_add ∈ lw_tbl := mt_4 (List.mem_of_getElem? (i := 68) rfl)
theorem wd_813 : Cond.code yX11_add cX11_add 3 (some .int) ∈ lw_tbl := mt_4 (List.mem_of_getElem? (i := 71) rfl)
theorem wd_814 : Cond.fieldLink RX1 57 "OneOfEach$Stock" "kinds" "I" ∈ lw_tbl := mt_1 (List.mem_of_getElem? (i := 105) rfl)
theorem wd_815 : Cond.code yX1_bringIn cX1_bringIn 4 (some .int) ∈ lw_tbl := mt_4 (List.mem_of_getElem? (i := 75) rfl)
theorem wd_816 : Cond.selects RX1 yX1_bringIn yX1_bringIn ∈ lw_tbl := mt_4 (List.mem_of_getElem? (i := 74) rfl)
theorem wd_817 : Cond.instanceMethod yX1_bringIn ∈ lw_tbl := mt_4 (List.mem_of_getElem? (i := 73) rfl)
theorem wd_818 : Cond.methodLink RX11 212 yX1_bringIn ∈ lw_tbl := mt_4 (List.mem_of_getElem? (i := 72) rfl)
set_option maxRecDepth 20000 in
theorem hl_wsX11_add_r1 : ∀ w ∈ wsX11_add_r1, w ∈ lw_tbl := by
  unfold wsX11_add_r1
  exact (List.forall_mem_cons.mpr ⟨wd_90, (List.forall_mem_cons.mpr ⟨wd_84, (List.forall_mem_cons.mpr ⟨wd_740, (List.forall_mem_cons.mpr ⟨wd_346, (List.forall_mem_cons.mpr ⟨wd_345, (List.forall_mem_cons.mpr ⟨wd_344, (List.forall_mem_cons.mpr ⟨wd_102, (List.forall_mem_cons.mpr ⟨wd_343, (List.forall_mem_cons.mpr ⟨wd_100, (List.forall_mem_cons.mpr ⟨wd_342, (List.forall_mem_cons.mpr ⟨wd_341, (List.forall_mem_cons.mpr ⟨wd_99, (List.forall_mem_cons.mpr ⟨wd_98, (List.forall_mem_cons.mpr ⟨wd_97, (List.forall_mem_cons.mpr ⟨wd_96, (List.forall_mem_cons.mpr ⟨wd_95, (List.forall_mem_cons.mpr ⟨wd_94, (List.forall_mem_cons.mpr ⟨wd_818, (List.forall_mem_cons.mpr ⟨wd_817, (List.forall_mem_cons.mpr ⟨wd_816, (List.forall_mem_cons.mpr ⟨wd_736, (List.forall_mem_cons.mpr ⟨wd_815, (List.forall_mem_cons.mpr ⟨wd_814, (List.forall_mem_cons.mpr ⟨wd_750, (fun _ h => absurd h List.not_mem_nil)⟩)⟩)⟩)⟩)⟩)⟩)⟩)⟩)⟩)⟩)⟩)⟩)⟩)⟩)⟩)⟩)⟩)⟩)⟩)⟩)⟩)⟩)⟩)⟩)
theorem wd_819 : Cond.fieldLink RX1 60 "OneOfEach$Stock" "group" "[I" ∈ lw_tbl := mt_1 (List.mem_of_getElem? (i := 116) rfl)
set_option maxRecDepth 20000 in
theorem hl_wsX11_add_r2 : ∀ w ∈ wsX11_add_r2, w ∈ lw_tbl := by
  unfold wsX11_add_r2
  exact (List.forall_mem_cons.mpr ⟨wd_819, (List.forall_mem_cons.mpr ⟨wd_749, (List.forall_mem_cons.mpr ⟨wd_748, (List.forall_mem_cons.mpr ⟨wd_747, (List.forall_mem_cons.mpr ⟨wd_746, (List.forall_mem_cons.mpr ⟨wd_745, (List.forall_mem_cons.mpr ⟨wd_744, (List.forall_mem_cons.mpr ⟨wd_743, (List.forall_mem_cons.mpr ⟨wd_742, (List.forall_mem_cons.mpr ⟨wd_759, (List.forall_mem_cons.mpr ⟨wd_758, (List.forall_mem_cons.mpr ⟨wd_757, (List.forall_mem_cons.mpr ⟨wd_0, (List.forall_mem_cons.mpr ⟨wd_756, (List.forall_mem_cons.mpr ⟨wd_336, (List.forall_mem_cons.mpr ⟨wd_715, (List.forall_mem_cons.mpr ⟨wd_714, (List.forall_mem_cons.mpr ⟨wd_713, (List.forall_mem_cons.mpr ⟨wd_368, (List.forall_mem_cons.mpr ⟨wd_712, (List.forall_mem_cons.mpr ⟨wd_711, (List.forall_mem_cons.mpr ⟨wd_710, (List.forall_mem_cons.mpr ⟨wd_366, (List.forall_mem_cons.mpr ⟨wd_709, (fun _ h => absurd h List.not_mem_nil)⟩)⟩)⟩)⟩)⟩)⟩)⟩)⟩)⟩)⟩)⟩)⟩)⟩)⟩)⟩)⟩)⟩)⟩)⟩)⟩)⟩)⟩)⟩)⟩)
set_option maxRecDepth 20000 in
theorem hl_wsX11_add_r3 : ∀ w ∈ wsX11_add_r3, w ∈ lw_tbl := by
  unfold wsX11_add_r3
  exact (List.forall_mem_cons.mpr ⟨wd_191, (List.forall_mem_cons.mpr ⟨wd_133, (List.forall_mem_cons.mpr ⟨wd_190, (List.forall_mem_cons.mpr ⟨wd_708, (fun _ h => absurd h List.not_mem_nil)⟩)⟩)⟩)⟩)
set_option maxRecDepth 20000 in
theorem hl_wsX11_add : ∀ w ∈ wsX11_add, w ∈ lw_tbl := by
  unfold wsX11_add
  exact (List.forall_mem_cons.mpr ⟨wd_813, (List.forall_mem_append.mpr ⟨(List.forall_mem_append.mpr ⟨(List.forall_mem_append.mpr ⟨(List.forall_mem_append.mpr ⟨hl_wsX11_add_r1, (List.forall_mem_append.mpr ⟨hl_wsX11_add_r2, hl_wsX11_add_r3⟩)⟩), hl_wsX110⟩), hl_wsX90⟩), hl_wsX60⟩)⟩)
theorem wd_820 : Cond.selects RX12 yX12_add yX12_add ∈ lw_tbl := mt_7 (List.mem_of_getElem? (i := 117) rfl)
theorem wd_821 : Cond.instanceMethod yX12_add ∈ lw_tbl := mt_7 (List.mem_of_getElem? (i := 116) rfl)
theorem wd_822 : Cond.methodLink RL 59 yX12_add ∈ lw_tbl := mt_7 (List.mem_of_getElem? (i := 115) rfl)
theorem wd_823 : Cond.code yX12_add cX12_add 4 (some .int) ∈ lw_tbl := mt_7 (List.mem_of_getElem? (i := 118) rfl)
theorem wd_824 : Cond.constantLong RX12 263 (99) ∈ lw_tbl := mt_7 (List.mem_of_getElem? (i := 122) rfl)
theorem wd_825 : Cond.code yX12_isPrice cX12_isPrice 2 (some .boolean) ∈ lw_tbl := mt_7 (List.mem_of_getElem? (i := 121) rfl)
theorem wd_826 : Cond.static yX12_isPrice ∈ lw_tbl := mt_7 (List.mem_of_getElem? (i := 120) rfl)
theorem wd_827 : Cond.methodLink RX12 265 yX12_isPrice ∈ lw_tbl := mt_7 (List.mem_of_getElem? (i := 119) rfl)
theorem wd_828 : Cond.constantLong RX12 291 (9) ∈ lw_tbl := mt_7 (List.mem_of_getElem? (i := 123) rfl)
set_option maxRecDepth 20000 in
theorem hl_wsX12_add_r1 : ∀ w ∈ wsX12_add_r1, w ∈ lw_tbl := by
  unfold wsX12_add_r1
  exact (List.forall_mem_cons.mpr ⟨wd_34, (List.forall_mem_cons.mpr ⟨wd_828, (List.forall_mem_cons.mpr ⟨wd_423, (List.forall_mem_cons.mpr ⟨wd_827, (List.forall_mem_cons.mpr ⟨wd_826, (List.forall_mem_cons.mpr ⟨wd_27, (List.forall_mem_cons.mpr ⟨wd_825, (List.forall_mem_cons.mpr ⟨wd_824, (List.forall_mem_cons.mpr ⟨wd_422, (List.forall_mem_cons.mpr ⟨wd_421, (List.forall_mem_cons.mpr ⟨wd_420, (List.forall_mem_cons.mpr ⟨wd_768, (List.forall_mem_cons.mpr ⟨wd_767, (List.forall_mem_cons.mpr ⟨wd_766, (List.forall_mem_cons.mpr ⟨wd_765, (List.forall_mem_cons.mpr ⟨wd_614, (List.forall_mem_cons.mpr ⟨wd_613, (List.forall_mem_cons.mpr ⟨wd_654, (List.forall_mem_cons.mpr ⟨wd_653, (List.forall_mem_cons.mpr ⟨wd_652, (List.forall_mem_cons.mpr ⟨wd_651, (List.forall_mem_cons.mpr ⟨wd_650, (List.forall_mem_cons.mpr ⟨wd_649, (List.forall_mem_cons.mpr ⟨wd_648, (fun _ h => absurd h List.not_mem_nil)⟩)⟩)⟩)⟩)⟩)⟩)⟩)⟩)⟩)⟩)⟩)⟩)⟩)⟩)⟩)⟩)⟩)⟩)⟩)⟩)⟩)⟩)⟩)⟩)
set_option maxRecDepth 20000 in
theorem hl_wsX12_add_r2 : ∀ w ∈ wsX12_add_r2, w ∈ lw_tbl := by
  unfold wsX12_add_r2
  exact (List.forall_mem_cons.mpr ⟨wd_647, (List.forall_mem_cons.mpr ⟨wd_646, (List.forall_mem_cons.mpr ⟨wd_645, (List.forall_mem_cons.mpr ⟨wd_728, (List.forall_mem_cons.mpr ⟨wd_727, (List.forall_mem_cons.mpr ⟨wd_726, (List.forall_mem_cons.mpr ⟨wd_725, (List.forall_mem_cons.mpr ⟨wd_729, (List.forall_mem_cons.mpr ⟨wd_724, (List.forall_mem_cons.mpr ⟨wd_723, (List.forall_mem_cons.mpr ⟨wd_722, (List.forall_mem_cons.mpr ⟨wd_721, (fun _ h => absurd h List.not_mem_nil)⟩)⟩)⟩)⟩)⟩)⟩)⟩)⟩)⟩)⟩)⟩)⟩)
set_option maxRecDepth 20000 in
theorem hl_wsX12_add : ∀ w ∈ wsX12_add, w ∈ lw_tbl := by
  unfold wsX12_add
  exact (List.forall_mem_cons.mpr ⟨wd_823, (List.forall_mem_append.mpr ⟨(List.forall_mem_append.mpr ⟨hl_wsX12_add_r1, hl_wsX12_add_r2⟩), hl_wsX120⟩)⟩)
def tL_add : List Cond := (wsV RL 56 RX11 yX11_add wsX11_add) ++ (wsV RL 59 RX12 yX12_add wsX12_add)
theorem tL_add_in : ∀ w ∈ tL_add, w ∈ lw_tbl := by
  unfold tL_add
  exact (List.forall_mem_append.mpr ⟨(List.forall_mem_append.mpr ⟨(List.forall_mem_cons.mpr ⟨wd_812, (List.forall_mem_cons.mpr ⟨wd_811, (List.forall_mem_cons.mpr ⟨wd_810, (List.forall_mem_cons.mpr ⟨wd_0, (fun _ h => absurd h List.not_mem_nil)⟩)⟩)⟩)⟩), hl_wsX11_add⟩), (List.forall_mem_append.mpr ⟨(List.forall_mem_cons.mpr ⟨wd_822, (List.forall_mem_cons.mpr ⟨wd_821, (List.forall_mem_cons.mpr ⟨wd_820, (List.forall_mem_cons.mpr ⟨wd_27, (fun _ h => absurd h List.not_mem_nil)⟩)⟩)⟩)⟩), hl_wsX12_add⟩)⟩)
set_option maxRecDepth 20000 in
theorem tL_add_x : GoodIn tL_add (wsV RL 56 RX11 yX11_add wsX11_add) := fun w h => ⟨List.mem_append_left _ h, good_of_word (List.all_eq_true.mp (show (wsV RL 56 RX11 yX11_add wsX11_add).all goodWord = true by decide +kernel) w h)⟩
set_option maxRecDepth 20000 in
theorem tL_add_m : GoodIn tL_add (wsV RL 59 RX12 yX12_add wsX12_add) := fun w h => ⟨List.mem_append_right _ h, good_of_word (List.all_eq_true.mp (show (wsV RL 59 RX12 yX12_add wsX12_add).all goodWord = true by decide +kernel) w h)⟩
theorem hdLX11_add : yX11_add.cls = RX11 ∧ yX11_add.cls ≠ "java/lang/invoke/MethodHandle" ∧ yX11_add.cls ≠ "java/lang/invoke/VarHandle" ∧ (parseMethodDescriptor yX11_add.desc).map (fun d => d.parameters.length) = some 2 := by decide +kernel
theorem hdLX12_add : yX12_add.cls = RX12 ∧ yX12_add.cls ≠ "java/lang/invoke/MethodHandle" ∧ yX12_add.cls ≠ "java/lang/invoke/VarHandle" ∧ (parseMethodDescriptor yX12_add.desc).map (fun d => d.parameters.length) = some 2 := by decide +kernel
theorem wd_829 : Cond.selects RX11 yX11_price yX11_price ∈ lw_tbl := mt_4 (List.mem_of_getElem? (i := 78) rfl)
theorem wd_830 : Cond.instanceMethod yX11_price ∈ lw_tbl := mt_4 (List.mem_of_getElem? (i := 77) rfl)
theorem wd_831 : Cond.methodLink RL 60 yX11_price ∈ lw_tbl := mt_4 (List.mem_of_getElem? (i := 76) rfl)
theorem wd_832 : Cond.code yX11_price cX11_price 3 (some .int) ∈ lw_tbl := mt_4 (List.mem_of_getElem? (i := 79) rfl)
theorem wd_833 : Cond.code yX1_reprice cX1_reprice 5 (some .int) ∈ lw_tbl := mt_4 (List.mem_of_getElem? (i := 83) rfl)
theorem wd_834 : Cond.selects RX1 yX1_reprice yX1_reprice ∈ lw_tbl := mt_4 (List.mem_of_getElem? (i := 82) rfl)
theorem wd_835 : Cond.instanceMethod yX1_reprice ∈ lw_tbl := mt_4 (List.mem_of_getElem? (i := 81) rfl)
theorem wd_836 : Cond.methodLink RX11 216 yX1_reprice ∈ lw_tbl := mt_4 (List.mem_of_getElem? (i := 80) rfl)
set_option maxRecDepth 20000 in
theorem hl_wsX11_price_r1 : ∀ w ∈ wsX11_price_r1, w ∈ lw_tbl := by
  unfold wsX11_price_r1
  exact (List.forall_mem_cons.mpr ⟨wd_90, (List.forall_mem_cons.mpr ⟨wd_84, (List.forall_mem_cons.mpr ⟨wd_740, (List.forall_mem_cons.mpr ⟨wd_346, (List.forall_mem_cons.mpr ⟨wd_345, (List.forall_mem_cons.mpr ⟨wd_344, (List.forall_mem_cons.mpr ⟨wd_102, (List.forall_mem_cons.mpr ⟨wd_343, (List.forall_mem_cons.mpr ⟨wd_100, (List.forall_mem_cons.mpr ⟨wd_342, (List.forall_mem_cons.mpr ⟨wd_341, (List.forall_mem_cons.mpr ⟨wd_99, (List.forall_mem_cons.mpr ⟨wd_98, (List.forall_mem_cons.mpr ⟨wd_97, (List.forall_mem_cons.mpr ⟨wd_96, (List.forall_mem_cons.mpr ⟨wd_95, (List.forall_mem_cons.mpr ⟨wd_94, (List.forall_mem_cons.mpr ⟨wd_836, (List.forall_mem_cons.mpr ⟨wd_835, (List.forall_mem_cons.mpr ⟨wd_834, (List.forall_mem_cons.mpr ⟨wd_736, (List.forall_mem_cons.mpr ⟨wd_833, (List.forall_mem_cons.mpr ⟨wd_750, (List.forall_mem_cons.mpr ⟨wd_781, (fun _ h => absurd h List.not_mem_nil)⟩)⟩)⟩)⟩)⟩)⟩)⟩)⟩)⟩)⟩)⟩)⟩)⟩)⟩)⟩)⟩)⟩)⟩)⟩)⟩)⟩)⟩)⟩)⟩)
set_option maxRecDepth 20000 in
theorem hl_wsX11_price_r2 : ∀ w ∈ wsX11_price_r2, w ∈ lw_tbl := by
  unfold wsX11_price_r2
  exact (List.forall_mem_cons.mpr ⟨wd_789, (List.forall_mem_cons.mpr ⟨wd_788, (List.forall_mem_cons.mpr ⟨wd_787, (List.forall_mem_cons.mpr ⟨wd_749, (List.forall_mem_cons.mpr ⟨wd_748, (List.forall_mem_cons.mpr ⟨wd_747, (List.forall_mem_cons.mpr ⟨wd_746, (List.forall_mem_cons.mpr ⟨wd_745, (List.forall_mem_cons.mpr ⟨wd_744, (List.forall_mem_cons.mpr ⟨wd_743, (List.forall_mem_cons.mpr ⟨wd_742, (List.forall_mem_cons.mpr ⟨wd_759, (List.forall_mem_cons.mpr ⟨wd_758, (List.forall_mem_cons.mpr ⟨wd_757, (List.forall_mem_cons.mpr ⟨wd_0, (List.forall_mem_cons.mpr ⟨wd_756, (List.forall_mem_cons.mpr ⟨wd_336, (List.forall_mem_cons.mpr ⟨wd_715, (List.forall_mem_cons.mpr ⟨wd_714, (List.forall_mem_cons.mpr ⟨wd_713, (List.forall_mem_cons.mpr ⟨wd_368, (List.forall_mem_cons.mpr ⟨wd_712, (List.forall_mem_cons.mpr ⟨wd_711, (List.forall_mem_cons.mpr ⟨wd_710, (fun _ h => absurd h List.not_mem_nil)⟩)⟩)⟩)⟩)⟩)⟩)⟩)⟩)⟩)⟩)⟩)⟩)⟩)⟩)⟩)⟩)⟩)⟩)⟩)⟩)⟩)⟩)⟩)⟩)
set_option maxRecDepth 20000 in
theorem hl_wsX11_price_r3 : ∀ w ∈ wsX11_price_r3, w ∈ lw_tbl := by
  unfold wsX11_price_r3
  exact (List.forall_mem_cons.mpr ⟨wd_366, (List.forall_mem_cons.mpr ⟨wd_709, (List.forall_mem_cons.mpr ⟨wd_191, (List.forall_mem_cons.mpr ⟨wd_133, (List.forall_mem_cons.mpr ⟨wd_190, (List.forall_mem_cons.mpr ⟨wd_708, (fun _ h => absurd h List.not_mem_nil)⟩)⟩)⟩)⟩)⟩)⟩)
set_option maxRecDepth 20000 in
theorem hl_wsX11_price : ∀ w ∈ wsX11_price, w ∈ lw_tbl := by
  unfold wsX11_price
  exact (List.forall_mem_cons.mpr ⟨wd_832, (List.forall_mem_append.mpr ⟨(List.forall_mem_append.mpr ⟨(List.forall_mem_append.mpr ⟨(List.forall_mem_append.mpr ⟨hl_wsX11_price_r1, (List.forall_mem_append.mpr ⟨hl_wsX11_price_r2, hl_wsX11_price_r3⟩)⟩), hl_wsX110⟩), hl_wsX90⟩), hl_wsX60⟩)⟩)
theorem wd_837 : Cond.selects RX12 yX12_price yX12_price ∈ lw_tbl := mt_7 (List.mem_of_getElem? (i := 126) rfl)
theorem wd_838 : Cond.instanceMethod yX12_price ∈ lw_tbl := mt_7 (List.mem_of_getElem? (i := 125) rfl)
theorem wd_839 : Cond.methodLink RL 63 yX12_price ∈ lw_tbl := mt_7 (List.mem_of_getElem? (i := 124) rfl)
theorem wd_840 : Cond.code yX12_price cX12_price 4 (some .int) ∈ lw_tbl := mt_7 (List.mem_of_getElem? (i := 127) rfl)
theorem wd_841 : Cond.code yX12_whyPrice cX12_whyPrice 5 (some .int) ∈ lw_tbl := mt_7 (List.mem_of_getElem? (i := 131) rfl)
theorem wd_842 : Cond.selects RX12 yX12_whyPrice yX12_whyPrice ∈ lw_tbl := mp_6 (q := (⟨"OneOfEachModel", "whyPrice", "(JJ)I"⟩, 32)) (List.mem_of_getElem? (i := 9) rfl)
theorem wd_843 : Cond.instanceMethod yX12_whyPrice ∈ lw_tbl := mt_7 (List.mem_of_getElem? (i := 130) rfl)
theorem wd_844 : Cond.methodLink RX12 293 yX12_whyPrice ∈ lw_tbl := mt_7 (List.mem_of_getElem? (i := 128) rfl)
set_option maxRecDepth 20000 in
theorem hl_wsX12_price_r1 : ∀ w ∈ wsX12_price_r1, w ∈ lw_tbl := by
  unfold wsX12_price_r1
  exact (List.forall_mem_cons.mpr ⟨wd_34, (List.forall_mem_cons.mpr ⟨wd_423, (List.forall_mem_cons.mpr ⟨wd_729, (List.forall_mem_cons.mpr ⟨wd_844, (List.forall_mem_cons.mpr ⟨wd_843, (List.forall_mem_cons.mpr ⟨wd_842, (List.forall_mem_cons.mpr ⟨wd_27, (List.forall_mem_cons.mpr ⟨wd_841, (List.forall_mem_cons.mpr ⟨wd_630, (List.forall_mem_cons.mpr ⟨wd_629, (List.forall_mem_cons.mpr ⟨wd_628, (List.forall_mem_cons.mpr ⟨wd_627, (List.forall_mem_cons.mpr ⟨wd_422, (List.forall_mem_cons.mpr ⟨wd_421, (List.forall_mem_cons.mpr ⟨wd_420, (List.forall_mem_cons.mpr ⟨wd_827, (List.forall_mem_cons.mpr ⟨wd_826, (List.forall_mem_cons.mpr ⟨wd_825, (List.forall_mem_cons.mpr ⟨wd_824, (List.forall_mem_cons.mpr ⟨wd_768, (List.forall_mem_cons.mpr ⟨wd_767, (List.forall_mem_cons.mpr ⟨wd_766, (List.forall_mem_cons.mpr ⟨wd_765, (List.forall_mem_cons.mpr ⟨wd_614, (fun _ h => absurd h List.not_mem_nil)⟩)⟩)⟩)⟩)⟩)⟩)⟩)⟩)⟩)⟩)⟩)⟩)⟩)⟩)⟩)⟩)⟩)⟩)⟩)⟩)⟩)⟩)⟩)⟩)
set_option maxRecDepth 20000 in
theorem hl_wsX12_price_r2 : ∀ w ∈ wsX12_price_r2, w ∈ lw_tbl := by
  unfold wsX12_price_r2
  exact (List.forall_mem_cons.mpr ⟨wd_613, (List.forall_mem_cons.mpr ⟨wd_654, (List.forall_mem_cons.mpr ⟨wd_653, (List.forall_mem_cons.mpr ⟨wd_652, (List.forall_mem_cons.mpr ⟨wd_651, (List.forall_mem_cons.mpr ⟨wd_650, (List.forall_mem_cons.mpr ⟨wd_649, (List.forall_mem_cons.mpr ⟨wd_648, (List.forall_mem_cons.mpr ⟨wd_647, (List.forall_mem_cons.mpr ⟨wd_646, (List.forall_mem_cons.mpr ⟨wd_645, (List.forall_mem_cons.mpr ⟨wd_728, (List.forall_mem_cons.mpr ⟨wd_727, (List.forall_mem_cons.mpr ⟨wd_726, (List.forall_mem_cons.mpr ⟨wd_725, (List.forall_mem_cons.mpr ⟨wd_724, (List.forall_mem_cons.mpr ⟨wd_723, (List.forall_mem_cons.mpr ⟨wd_722, (List.forall_mem_cons.mpr ⟨wd_721, (fun _ h => absurd h List.not_mem_nil)⟩)⟩)⟩)⟩)⟩)⟩)⟩)⟩)⟩)⟩)⟩)⟩)⟩)⟩)⟩)⟩)⟩)⟩)⟩)
set_option maxRecDepth 20000 in
theorem hl_wsX12_price : ∀ w ∈ wsX12_price, w ∈ lw_tbl := by
  unfold wsX12_price
  exact (List.forall_mem_cons.mpr ⟨wd_840, (List.forall_mem_append.mpr ⟨(List.forall_mem_append.mpr ⟨hl_wsX12_price_r1, hl_wsX12_price_r2⟩), hl_wsX120⟩)⟩)
def tL_price : List Cond := (wsV RL 60 RX11 yX11_price wsX11_price) ++ (wsV RL 63 RX12 yX12_price wsX12_price)
theorem tL_price_in : ∀ w ∈ tL_price, w ∈ lw_tbl := by
  unfold tL_price
  exact (List.forall_mem_append.mpr ⟨(List.forall_mem_append.mpr ⟨(List.forall_mem_cons.mpr ⟨wd_831, (List.forall_mem_cons.mpr ⟨wd_830, (List.forall_mem_cons.mpr ⟨wd_829, (List.forall_mem_cons.mpr ⟨wd_0, (fun _ h => absurd h List.not_mem_nil)⟩)⟩)⟩)⟩), hl_wsX11_price⟩), (List.forall_mem_append.mpr ⟨(List.forall_mem_cons.mpr ⟨wd_839, (List.forall_mem_cons.mpr ⟨wd_838, (List.forall_mem_cons.mpr ⟨wd_837, (List.forall_mem_cons.mpr ⟨wd_27, (fun _ h => absurd h List.not_mem_nil)⟩)⟩)⟩)⟩), hl_wsX12_price⟩)⟩)
set_option maxRecDepth 20000 in
theorem tL_price_x : GoodIn tL_price (wsV RL 60 RX11 yX11_price wsX11_price) := fun w h => ⟨List.mem_append_left _ h, good_of_word (List.all_eq_true.mp (show (wsV RL 60 RX11 yX11_price wsX11_price).all goodWord = true by decide +kernel) w h)⟩
set_option maxRecDepth 20000 in
theorem tL_price_m : GoodIn tL_price (wsV RL 63 RX12 yX12_price wsX12_price) := fun w h => ⟨List.mem_append_right _ h, good_of_word (List.all_eq_true.mp (show (wsV RL 63 RX12 yX12_price wsX12_price).all goodWord = true by decide +kernel) w h)⟩
theorem hdLX11_price : yX11_price.cls = RX11 ∧ yX11_price.cls ≠ "java/lang/invoke/MethodHandle" ∧ yX11_price.cls ≠ "java/lang/invoke/VarHandle" ∧ (parseMethodDescriptor yX11_price.desc).map (fun d => d.parameters.length) = some 2 := by decide +kernel
theorem hdLX12_price : yX12_price.cls = RX12 ∧ yX12_price.cls ≠ "java/lang/invoke/MethodHandle" ∧ yX12_price.cls ≠ "java/lang/invoke/VarHandle" ∧ (parseMethodDescriptor yX12_price.desc).map (fun d => d.parameters.length) = some 2 := by decide +kernel
theorem wd_845 : Cond.selects RX11 yX11_days yX11_days ∈ lw_tbl := mt_4 (List.mem_of_getElem? (i := 86) rfl)
theorem wd_846 : Cond.instanceMethod yX11_days ∈ lw_tbl := mt_4 (List.mem_of_getElem? (i := 85) rfl)
theorem wd_847 : Cond.methodLink RL 64 yX11_days ∈ lw_tbl := mt_4 (List.mem_of_getElem? (i := 84) rfl)
theorem wd_848 : Cond.code yX11_days cX11_days 4 (some .int) ∈ lw_tbl := mt_4 (List.mem_of_getElem? (i := 87) rfl)
theorem wd_849 : Cond.selects RX1 yX1_carryOut yX1_carryOut ∈ lw_tbl := mt_4 (List.mem_of_getElem? (i := 91) rfl)
theorem wd_850 : Cond.instanceMethod yX1_carryOut ∈ lw_tbl := mt_4 (List.mem_of_getElem? (i := 90) rfl)
theorem wd_851 : Cond.methodLink RX11 221 yX1_carryOut ∈ lw_tbl := mt_4 (List.mem_of_getElem? (i := 89) rfl)
theorem wd_852 : Cond.constantLong RX11 219 (-1) ∈ lw_tbl := mt_4 (List.mem_of_getElem? (i := 88) rfl)
set_option maxRecDepth 20000 in
theorem hl_wsX11_days_r1 : ∀ w ∈ wsX11_days_r1, w ∈ lw_tbl := by
  unfold wsX11_days_r1
  exact (List.forall_mem_cons.mpr ⟨wd_90, (List.forall_mem_cons.mpr ⟨wd_84, (List.forall_mem_cons.mpr ⟨wd_740, (List.forall_mem_cons.mpr ⟨wd_85, (List.forall_mem_cons.mpr ⟨wd_852, (List.forall_mem_cons.mpr ⟨wd_336, (List.forall_mem_cons.mpr ⟨wd_346, (List.forall_mem_cons.mpr ⟨wd_345, (List.forall_mem_cons.mpr ⟨wd_344, (List.forall_mem_cons.mpr ⟨wd_102, (List.forall_mem_cons.mpr ⟨wd_343, (List.forall_mem_cons.mpr ⟨wd_100, (List.forall_mem_cons.mpr ⟨wd_342, (List.forall_mem_cons.mpr ⟨wd_341, (List.forall_mem_cons.mpr ⟨wd_99, (List.forall_mem_cons.mpr ⟨wd_98, (List.forall_mem_cons.mpr ⟨wd_97, (List.forall_mem_cons.mpr ⟨wd_96, (List.forall_mem_cons.mpr ⟨wd_95, (List.forall_mem_cons.mpr ⟨wd_94, (List.forall_mem_cons.mpr ⟨wd_851, (List.forall_mem_cons.mpr ⟨wd_850, (List.forall_mem_cons.mpr ⟨wd_849, (List.forall_mem_cons.mpr ⟨wd_736, (fun _ h => absurd h List.not_mem_nil)⟩)⟩)⟩)⟩)⟩)⟩)⟩)⟩)⟩)⟩)⟩)⟩)⟩)⟩)⟩)⟩)⟩)⟩)⟩)⟩)⟩)⟩)⟩)⟩)
theorem wd_853 : Cond.code yX7_comerFor cX7_comerFor 4 (some .int) ∈ lw_tbl := mt_4 (List.mem_of_getElem? (i := 111) rfl)
theorem wd_854 : Cond.selects RX7 yX7_comerFor yX7_comerFor ∈ lw_tbl := mt_4 (List.mem_of_getElem? (i := 110) rfl)
theorem wd_855 : Cond.instanceMethod yX7_comerFor ∈ lw_tbl := mt_4 (List.mem_of_getElem? (i := 109) rfl)
theorem wd_856 : Cond.methodLink RX1 73 yX7_comerFor ∈ lw_tbl := mt_4 (List.mem_of_getElem? (i := 108) rfl)
theorem wd_857 : Cond.constant RX9 44 (1103515245) ∈ lw_tbl := mt_4 (List.mem_of_getElem? (i := 107) rfl)
theorem wd_858 : Cond.code yX9_draw cX9_draw 1 (some .int) ∈ lw_tbl := mt_4 (List.mem_of_getElem? (i := 106) rfl)
theorem wd_859 : Cond.selects RX9 yX9_draw yX9_draw ∈ lw_tbl := mt_4 (List.mem_of_getElem? (i := 105) rfl)
theorem wd_860 : Cond.instanceMethod yX9_draw ∈ lw_tbl := mt_4 (List.mem_of_getElem? (i := 104) rfl)
theorem wd_861 : Cond.methodLink RX1 70 yX9_draw ∈ lw_tbl := mt_4 (List.mem_of_getElem? (i := 103) rfl)
theorem wd_862 : Cond.fieldLink RX7 25 "OneOfEach$Plan" "odds" "[I" ∈ lw_tbl := mt_1 (List.mem_of_getElem? (i := 52) rfl)
theorem wd_863 : Cond.code yX7_together cX7_together 3 (some .int) ∈ lw_tbl := mt_4 (List.mem_of_getElem? (i := 102) rfl)
theorem wd_864 : Cond.selects RX7 yX7_together yX7_together ∈ lw_tbl := mt_4 (List.mem_of_getElem? (i := 101) rfl)
theorem wd_865 : Cond.instanceMethod yX7_together ∈ lw_tbl := mt_4 (List.mem_of_getElem? (i := 100) rfl)
theorem wd_866 : Cond.methodLink RX1 66 yX7_together ∈ lw_tbl := mt_4 (List.mem_of_getElem? (i := 99) rfl)
theorem wd_867 : Cond.fieldLink RX1 63 "OneOfEach$Stock" "day" "I" ∈ lw_tbl := mt_1 (List.mem_of_getElem? (i := 137) rfl)
theorem wd_868 : Cond.code yX1_passDay cX1_passDay 4 (some .int) ∈ lw_tbl := mt_4 (List.mem_of_getElem? (i := 98) rfl)
theorem wd_869 : Cond.selects RX1 yX1_passDay yX1_passDay ∈ lw_tbl := mp_2 (q := (⟨"OneOfEach$Hands", "passDay", "(LOneOfEach$Plan;LOneOfEach$Stock;)I"⟩, 1)) (List.mem_of_getElem? (i := 12) rfl)
theorem wd_870 : Cond.instanceMethod yX1_passDay ∈ lw_tbl := mt_4 (List.mem_of_getElem? (i := 97) rfl)
theorem wd_871 : Cond.methodLink RX1 81 yX1_passDay ∈ lw_tbl := mt_4 (List.mem_of_getElem? (i := 95) rfl)
theorem wd_872 : Cond.constantLong RX1 79 (1999) ∈ lw_tbl := mt_4 (List.mem_of_getElem? (i := 94) rfl)
theorem wd_873 : Cond.constantLong RX1 77 (-1) ∈ lw_tbl := mt_4 (List.mem_of_getElem? (i := 93) rfl)
theorem wd_874 : Cond.code yX1_carryOut cX1_carryOut 7 (some .int) ∈ lw_tbl := mt_4 (List.mem_of_getElem? (i := 92) rfl)
set_option maxRecDepth 20000 in
theorem hl_wsX11_days_r2 : ∀ w ∈ wsX11_days_r2, w ∈ lw_tbl := by
  unfold wsX11_days_r2
  exact (List.forall_mem_cons.mpr ⟨wd_874, (List.forall_mem_cons.mpr ⟨wd_873, (List.forall_mem_cons.mpr ⟨wd_872, (List.forall_mem_cons.mpr ⟨wd_871, (List.forall_mem_cons.mpr ⟨wd_870, (List.forall_mem_cons.mpr ⟨wd_869, (List.forall_mem_cons.mpr ⟨wd_868, (List.forall_mem_cons.mpr ⟨wd_867, (List.forall_mem_cons.mpr ⟨wd_866, (List.forall_mem_cons.mpr ⟨wd_865, (List.forall_mem_cons.mpr ⟨wd_864, (List.forall_mem_cons.mpr ⟨wd_114, (List.forall_mem_cons.mpr ⟨wd_863, (List.forall_mem_cons.mpr ⟨wd_112, (List.forall_mem_cons.mpr ⟨wd_862, (List.forall_mem_cons.mpr ⟨wd_861, (List.forall_mem_cons.mpr ⟨wd_860, (List.forall_mem_cons.mpr ⟨wd_859, (List.forall_mem_cons.mpr ⟨wd_858, (List.forall_mem_cons.mpr ⟨wd_857, (List.forall_mem_cons.mpr ⟨wd_856, (List.forall_mem_cons.mpr ⟨wd_855, (List.forall_mem_cons.mpr ⟨wd_854, (List.forall_mem_cons.mpr ⟨wd_853, (fun _ h => absurd h List.not_mem_nil)⟩)⟩)⟩)⟩)⟩)⟩)⟩)⟩)⟩)⟩)⟩)⟩)⟩)⟩)⟩)⟩)⟩)⟩)⟩)⟩)⟩)⟩)⟩)⟩)
theorem wd_875 : Cond.methodLink RX1 85 yX1_visitBy ∈ lw_tbl := mt_4 (List.mem_of_getElem? (i := 112) rfl)
set_option maxRecDepth 20000 in
theorem hl_wsX11_days_r3 : ∀ w ∈ wsX11_days_r3, w ∈ lw_tbl := by
  unfold wsX11_days_r3
  exact (List.forall_mem_cons.mpr ⟨wd_875, (List.forall_mem_cons.mpr ⟨wd_738, (List.forall_mem_cons.mpr ⟨wd_737, (List.forall_mem_cons.mpr ⟨wd_735, (List.forall_mem_cons.mpr ⟨wd_734, (List.forall_mem_cons.mpr ⟨wd_754, (List.forall_mem_cons.mpr ⟨wd_753, (List.forall_mem_cons.mpr ⟨wd_752, (List.forall_mem_cons.mpr ⟨wd_751, (List.forall_mem_cons.mpr ⟨wd_750, (List.forall_mem_cons.mpr ⟨wd_749, (List.forall_mem_cons.mpr ⟨wd_748, (List.forall_mem_cons.mpr ⟨wd_747, (List.forall_mem_cons.mpr ⟨wd_746, (List.forall_mem_cons.mpr ⟨wd_745, (List.forall_mem_cons.mpr ⟨wd_744, (List.forall_mem_cons.mpr ⟨wd_743, (List.forall_mem_cons.mpr ⟨wd_742, (List.forall_mem_cons.mpr ⟨wd_741, (List.forall_mem_cons.mpr ⟨wd_543, (List.forall_mem_cons.mpr ⟨wd_542, (List.forall_mem_cons.mpr ⟨wd_362, (List.forall_mem_cons.mpr ⟨wd_541, (List.forall_mem_cons.mpr ⟨wd_540, (fun _ h => absurd h List.not_mem_nil)⟩)⟩)⟩)⟩)⟩)⟩)⟩)⟩)⟩)⟩)⟩)⟩)⟩)⟩)⟩)⟩)⟩)⟩)⟩)⟩)⟩)⟩)⟩)⟩)
set_option maxRecDepth 20000 in
theorem hl_wsX11_days_r4 : ∀ w ∈ wsX11_days_r4, w ∈ lw_tbl := by
  unfold wsX11_days_r4
  exact (List.forall_mem_cons.mpr ⟨wd_578, (List.forall_mem_cons.mpr ⟨wd_577, (List.forall_mem_cons.mpr ⟨wd_360, (List.forall_mem_cons.mpr ⟨wd_576, (List.forall_mem_cons.mpr ⟨wd_575, (List.forall_mem_cons.mpr ⟨wd_574, (List.forall_mem_cons.mpr ⟨wd_573, (List.forall_mem_cons.mpr ⟨wd_755, (List.forall_mem_cons.mpr ⟨wd_571, (List.forall_mem_cons.mpr ⟨wd_570, (List.forall_mem_cons.mpr ⟨wd_569, (List.forall_mem_cons.mpr ⟨wd_568, (List.forall_mem_cons.mpr ⟨wd_134, (List.forall_mem_cons.mpr ⟨wd_133, (List.forall_mem_cons.mpr ⟨wd_132, (List.forall_mem_cons.mpr ⟨wd_567, (List.forall_mem_cons.mpr ⟨wd_566, (List.forall_mem_cons.mpr ⟨wd_565, (List.forall_mem_cons.mpr ⟨wd_564, (List.forall_mem_cons.mpr ⟨wd_563, (List.forall_mem_cons.mpr ⟨wd_562, (List.forall_mem_cons.mpr ⟨wd_561, (List.forall_mem_cons.mpr ⟨wd_560, (List.forall_mem_cons.mpr ⟨wd_559, (fun _ h => absurd h List.not_mem_nil)⟩)⟩)⟩)⟩)⟩)⟩)⟩)⟩)⟩)⟩)⟩)⟩)⟩)⟩)⟩)⟩)⟩)⟩)⟩)⟩)⟩)⟩)⟩)⟩)
set_option maxRecDepth 20000 in
theorem hl_wsX11_days_r5 : ∀ w ∈ wsX11_days_r5, w ∈ lw_tbl := by
  unfold wsX11_days_r5
  exact (List.forall_mem_cons.mpr ⟨wd_602, (List.forall_mem_cons.mpr ⟨wd_601, (List.forall_mem_cons.mpr ⟨wd_600, (List.forall_mem_cons.mpr ⟨wd_599, (List.forall_mem_cons.mpr ⟨wd_598, (List.forall_mem_cons.mpr ⟨wd_597, (List.forall_mem_cons.mpr ⟨wd_596, (List.forall_mem_cons.mpr ⟨wd_595, (List.forall_mem_cons.mpr ⟨wd_594, (List.forall_mem_cons.mpr ⟨wd_593, (List.forall_mem_cons.mpr ⟨wd_592, (List.forall_mem_cons.mpr ⟨wd_591, (List.forall_mem_cons.mpr ⟨wd_590, (List.forall_mem_cons.mpr ⟨wd_589, (List.forall_mem_cons.mpr ⟨wd_588, (List.forall_mem_cons.mpr ⟨wd_587, (List.forall_mem_cons.mpr ⟨wd_586, (List.forall_mem_cons.mpr ⟨wd_585, (List.forall_mem_cons.mpr ⟨wd_584, (List.forall_mem_cons.mpr ⟨wd_583, (List.forall_mem_cons.mpr ⟨wd_582, (List.forall_mem_cons.mpr ⟨wd_581, (List.forall_mem_cons.mpr ⟨wd_580, (List.forall_mem_cons.mpr ⟨wd_579, (fun _ h => absurd h List.not_mem_nil)⟩)⟩)⟩)⟩)⟩)⟩)⟩)⟩)⟩)⟩)⟩)⟩)⟩)⟩)⟩)⟩)⟩)⟩)⟩)⟩)⟩)⟩)⟩)⟩)
theorem wd_876 : Cond.methodLink RX1 96 yX1_reprice ∈ lw_tbl := mt_4 (List.mem_of_getElem? (i := 115) rfl)
theorem wd_877 : Cond.methodLink RX1 93 yX1_turn ∈ lw_tbl := mt_4 (List.mem_of_getElem? (i := 114) rfl)
theorem wd_878 : Cond.methodLink RX1 89 yX1_giveAway ∈ lw_tbl := mt_4 (List.mem_of_getElem? (i := 113) rfl)
set_option maxRecDepth 20000 in
theorem hl_wsX11_days_r6 : ∀ w ∈ wsX11_days_r6, w ∈ lw_tbl := by
  unfold wsX11_days_r6
  exact (List.forall_mem_cons.mpr ⟨wd_608, (List.forall_mem_cons.mpr ⟨wd_607, (List.forall_mem_cons.mpr ⟨wd_606, (List.forall_mem_cons.mpr ⟨wd_605, (List.forall_mem_cons.mpr ⟨wd_604, (List.forall_mem_cons.mpr ⟨wd_603, (List.forall_mem_cons.mpr ⟨wd_878, (List.forall_mem_cons.mpr ⟨wd_785, (List.forall_mem_cons.mpr ⟨wd_784, (List.forall_mem_cons.mpr ⟨wd_783, (List.forall_mem_cons.mpr ⟨wd_782, (List.forall_mem_cons.mpr ⟨wd_781, (List.forall_mem_cons.mpr ⟨wd_789, (List.forall_mem_cons.mpr ⟨wd_788, (List.forall_mem_cons.mpr ⟨wd_787, (List.forall_mem_cons.mpr ⟨wd_877, (List.forall_mem_cons.mpr ⟨wd_804, (List.forall_mem_cons.mpr ⟨wd_803, (List.forall_mem_cons.mpr ⟨wd_802, (List.forall_mem_cons.mpr ⟨wd_876, (List.forall_mem_cons.mpr ⟨wd_835, (List.forall_mem_cons.mpr ⟨wd_834, (List.forall_mem_cons.mpr ⟨wd_833, (List.forall_mem_cons.mpr ⟨wd_715, (fun _ h => absurd h List.not_mem_nil)⟩)⟩)⟩)⟩)⟩)⟩)⟩)⟩)⟩)⟩)⟩)⟩)⟩)⟩)⟩)⟩)⟩)⟩)⟩)⟩)⟩)⟩)⟩)⟩)
set_option maxRecDepth 20000 in
theorem hl_wsX11_days_r7 : ∀ w ∈ wsX11_days_r7, w ∈ lw_tbl := by
  unfold wsX11_days_r7
  exact (List.forall_mem_cons.mpr ⟨wd_714, (List.forall_mem_cons.mpr ⟨wd_713, (List.forall_mem_cons.mpr ⟨wd_368, (List.forall_mem_cons.mpr ⟨wd_712, (List.forall_mem_cons.mpr ⟨wd_711, (List.forall_mem_cons.mpr ⟨wd_710, (List.forall_mem_cons.mpr ⟨wd_366, (List.forall_mem_cons.mpr ⟨wd_709, (List.forall_mem_cons.mpr ⟨wd_191, (List.forall_mem_cons.mpr ⟨wd_190, (List.forall_mem_cons.mpr ⟨wd_708, (fun _ h => absurd h List.not_mem_nil)⟩)⟩)⟩)⟩)⟩)⟩)⟩)⟩)⟩)⟩)⟩)
set_option maxRecDepth 20000 in
theorem hl_wsX11_days : ∀ w ∈ wsX11_days, w ∈ lw_tbl := by
  unfold wsX11_days
  exact (List.forall_mem_cons.mpr ⟨wd_848, (List.forall_mem_append.mpr ⟨(List.forall_mem_append.mpr ⟨(List.forall_mem_append.mpr ⟨(List.forall_mem_append.mpr ⟨(List.forall_mem_append.mpr ⟨(List.forall_mem_append.mpr ⟨(List.forall_mem_append.mpr ⟨hl_wsX11_days_r1, (List.forall_mem_append.mpr ⟨hl_wsX11_days_r2, (List.forall_mem_append.mpr ⟨hl_wsX11_days_r3, (List.forall_mem_append.mpr ⟨hl_wsX11_days_r4, (List.forall_mem_append.mpr ⟨hl_wsX11_days_r5, (List.forall_mem_append.mpr ⟨hl_wsX11_days_r6, hl_wsX11_days_r7⟩)⟩)⟩)⟩)⟩)⟩), hl_wsX110⟩), hl_wsX90⟩), hl_wsX70⟩), hl_wsX10⟩), hl_wsX40⟩), hl_wsX60⟩)⟩)
theorem wd_879 : Cond.selects RX12 yX12_days yX12_days ∈ lw_tbl := mt_7 (List.mem_of_getElem? (i := 134) rfl)
theorem wd_880 : Cond.instanceMethod yX12_days ∈ lw_tbl := mt_7 (List.mem_of_getElem? (i := 133) rfl)
theorem wd_881 : Cond.methodLink RL 67 yX12_days ∈ lw_tbl := mt_7 (List.mem_of_getElem? (i := 132) rfl)
theorem wd_882 : Cond.code yX12_days cX12_days 4 (some .int) ∈ lw_tbl := mt_7 (List.mem_of_getElem? (i := 135) rfl)
theorem wd_883 : Cond.code yX12_draw cX12_draw 2 (some .int) ∈ lw_tbl := mt_7 (List.mem_of_getElem? (i := 147) rfl)
theorem wd_884 : Cond.selects RX12 yX12_draw yX12_draw ∈ lw_tbl := mp_6 (q := (⟨"OneOfEachModel", "draw", "(I)I"⟩, 32)) (List.mem_of_getElem? (i := 12) rfl)
theorem wd_885 : Cond.instanceMethod yX12_draw ∈ lw_tbl := mt_7 (List.mem_of_getElem? (i := 146) rfl)
theorem wd_886 : Cond.methodLink RX12 272 yX12_draw ∈ lw_tbl := mt_7 (List.mem_of_getElem? (i := 144) rfl)
theorem wd_887 : Cond.code yX12_oddsAll cX12_oddsAll 3 (some .int) ∈ lw_tbl := mt_7 (List.mem_of_getElem? (i := 143) rfl)
theorem wd_888 : Cond.selects RX12 yX12_oddsAll yX12_oddsAll ∈ lw_tbl := mp_6 (q := (⟨"OneOfEachModel", "oddsAll", "()I"⟩, 32)) (List.mem_of_getElem? (i := 11) rfl)
theorem wd_889 : Cond.instanceMethod yX12_oddsAll ∈ lw_tbl := mt_7 (List.mem_of_getElem? (i := 142) rfl)
theorem wd_890 : Cond.methodLink RX12 269 yX12_oddsAll ∈ lw_tbl := mt_7 (List.mem_of_getElem? (i := 140) rfl)
theorem wd_891 : Cond.code yX12_goesDay cX12_goesDay 4 (some .int) ∈ lw_tbl := mt_7 (List.mem_of_getElem? (i := 139) rfl)
theorem wd_892 : Cond.selects RX12 yX12_goesDay yX12_goesDay ∈ lw_tbl := mp_6 (q := (⟨"OneOfEachModel", "goesDay", "()I"⟩, 32)) (List.mem_of_getElem? (i := 10) rfl)
theorem wd_893 : Cond.instanceMethod yX12_goesDay ∈ lw_tbl := mt_7 (List.mem_of_getElem? (i := 138) rfl)
theorem wd_894 : Cond.methodLink RX12 297 yX12_goesDay ∈ lw_tbl := mt_7 (List.mem_of_getElem? (i := 136) rfl)
set_option maxRecDepth 20000 in
theorem hl_wsX12_days_r1 : ∀ w ∈ wsX12_days_r1, w ∈ lw_tbl := by
  unfold wsX12_days_r1
  exact (List.forall_mem_cons.mpr ⟨wd_34, (List.forall_mem_cons.mpr ⟨wd_824, (List.forall_mem_cons.mpr ⟨wd_422, (List.forall_mem_cons.mpr ⟨wd_421, (List.forall_mem_cons.mpr ⟨wd_27, (List.forall_mem_cons.mpr ⟨wd_420, (List.forall_mem_cons.mpr ⟨wd_728, (List.forall_mem_cons.mpr ⟨wd_727, (List.forall_mem_cons.mpr ⟨wd_726, (List.forall_mem_cons.mpr ⟨wd_725, (List.forall_mem_cons.mpr ⟨wd_729, (List.forall_mem_cons.mpr ⟨wd_423, (List.forall_mem_cons.mpr ⟨wd_894, (List.forall_mem_cons.mpr ⟨wd_893, (List.forall_mem_cons.mpr ⟨wd_892, (List.forall_mem_cons.mpr ⟨wd_891, (List.forall_mem_cons.mpr ⟨wd_890, (List.forall_mem_cons.mpr ⟨wd_889, (List.forall_mem_cons.mpr ⟨wd_888, (List.forall_mem_cons.mpr ⟨wd_887, (List.forall_mem_cons.mpr ⟨wd_886, (List.forall_mem_cons.mpr ⟨wd_885, (List.forall_mem_cons.mpr ⟨wd_884, (List.forall_mem_cons.mpr ⟨wd_883, (fun _ h => absurd h List.not_mem_nil)⟩)⟩)⟩)⟩)⟩)⟩)⟩)⟩)⟩)⟩)⟩)⟩)⟩)⟩)⟩)⟩)⟩)⟩)⟩)⟩)⟩)⟩)⟩)⟩)
theorem wd_895 : Cond.constant RX12 268 (1103515245) ∈ lw_tbl := mt_7 (List.mem_of_getElem? (i := 148) rfl)
set_option maxRecDepth 20000 in
theorem hl_wsX12_days_r2 : ∀ w ∈ wsX12_days_r2, w ∈ lw_tbl := by
  unfold wsX12_days_r2
  exact (List.forall_mem_cons.mpr ⟨wd_895, (List.forall_mem_cons.mpr ⟨wd_772, (List.forall_mem_cons.mpr ⟨wd_771, (List.forall_mem_cons.mpr ⟨wd_770, (List.forall_mem_cons.mpr ⟨wd_769, (List.forall_mem_cons.mpr ⟨wd_692, (List.forall_mem_cons.mpr ⟨wd_691, (List.forall_mem_cons.mpr ⟨wd_690, (List.forall_mem_cons.mpr ⟨wd_689, (List.forall_mem_cons.mpr ⟨wd_768, (List.forall_mem_cons.mpr ⟨wd_767, (List.forall_mem_cons.mpr ⟨wd_766, (List.forall_mem_cons.mpr ⟨wd_765, (List.forall_mem_cons.mpr ⟨wd_614, (List.forall_mem_cons.mpr ⟨wd_613, (List.forall_mem_cons.mpr ⟨wd_654, (List.forall_mem_cons.mpr ⟨wd_653, (List.forall_mem_cons.mpr ⟨wd_652, (List.forall_mem_cons.mpr ⟨wd_651, (List.forall_mem_cons.mpr ⟨wd_650, (List.forall_mem_cons.mpr ⟨wd_649, (List.forall_mem_cons.mpr ⟨wd_648, (List.forall_mem_cons.mpr ⟨wd_647, (List.forall_mem_cons.mpr ⟨wd_646, (fun _ h => absurd h List.not_mem_nil)⟩)⟩)⟩)⟩)⟩)⟩)⟩)⟩)⟩)⟩)⟩)⟩)⟩)⟩)⟩)⟩)⟩)⟩)⟩)⟩)⟩)⟩)⟩)⟩)
set_option maxRecDepth 20000 in
theorem hl_wsX12_days_r3 : ∀ w ∈ wsX12_days_r3, w ∈ lw_tbl := by
  unfold wsX12_days_r3
  exact (List.forall_mem_cons.mpr ⟨wd_645, (List.forall_mem_cons.mpr ⟨wd_622, (List.forall_mem_cons.mpr ⟨wd_621, (List.forall_mem_cons.mpr ⟨wd_620, (List.forall_mem_cons.mpr ⟨wd_619, (List.forall_mem_cons.mpr ⟨wd_618, (List.forall_mem_cons.mpr ⟨wd_617, (List.forall_mem_cons.mpr ⟨wd_616, (List.forall_mem_cons.mpr ⟨wd_615, (List.forall_mem_cons.mpr ⟨wd_644, (List.forall_mem_cons.mpr ⟨wd_643, (List.forall_mem_cons.mpr ⟨wd_642, (List.forall_mem_cons.mpr ⟨wd_641, (List.forall_mem_cons.mpr ⟨wd_640, (List.forall_mem_cons.mpr ⟨wd_639, (List.forall_mem_cons.mpr ⟨wd_638, (List.forall_mem_cons.mpr ⟨wd_637, (List.forall_mem_cons.mpr ⟨wd_636, (List.forall_mem_cons.mpr ⟨wd_635, (List.forall_mem_cons.mpr ⟨wd_634, (List.forall_mem_cons.mpr ⟨wd_633, (List.forall_mem_cons.mpr ⟨wd_632, (List.forall_mem_cons.mpr ⟨wd_631, (List.forall_mem_cons.mpr ⟨wd_665, (fun _ h => absurd h List.not_mem_nil)⟩)⟩)⟩)⟩)⟩)⟩)⟩)⟩)⟩)⟩)⟩)⟩)⟩)⟩)⟩)⟩)⟩)⟩)⟩)⟩)⟩)⟩)⟩)⟩)
set_option maxRecDepth 20000 in
theorem hl_wsX12_days_r4 : ∀ w ∈ wsX12_days_r4, w ∈ lw_tbl := by
  unfold wsX12_days_r4
  exact (List.forall_mem_cons.mpr ⟨wd_664, (List.forall_mem_cons.mpr ⟨wd_663, (List.forall_mem_cons.mpr ⟨wd_662, (List.forall_mem_cons.mpr ⟨wd_661, (List.forall_mem_cons.mpr ⟨wd_660, (List.forall_mem_cons.mpr ⟨wd_659, (List.forall_mem_cons.mpr ⟨wd_658, (List.forall_mem_cons.mpr ⟨wd_657, (List.forall_mem_cons.mpr ⟨wd_656, (List.forall_mem_cons.mpr ⟨wd_655, (List.forall_mem_cons.mpr ⟨wd_776, (List.forall_mem_cons.mpr ⟨wd_775, (List.forall_mem_cons.mpr ⟨wd_774, (List.forall_mem_cons.mpr ⟨wd_773, (List.forall_mem_cons.mpr ⟨wd_724, (List.forall_mem_cons.mpr ⟨wd_723, (List.forall_mem_cons.mpr ⟨wd_722, (List.forall_mem_cons.mpr ⟨wd_721, (fun _ h => absurd h List.not_mem_nil)⟩)⟩)⟩)⟩)⟩)⟩)⟩)⟩)⟩)⟩)⟩)⟩)⟩)⟩)⟩)⟩)⟩)⟩)
set_option maxRecDepth 20000 in
theorem hl_wsX12_days : ∀ w ∈ wsX12_days, w ∈ lw_tbl := by
  unfold wsX12_days
  exact (List.forall_mem_cons.mpr ⟨wd_882, (List.forall_mem_append.mpr ⟨(List.forall_mem_append.mpr ⟨hl_wsX12_days_r1, (List.forall_mem_append.mpr ⟨hl_wsX12_days_r2, (List.forall_mem_append.mpr ⟨hl_wsX12_days_r3, hl_wsX12_days_r4⟩)⟩)⟩), hl_wsX120⟩)⟩)
def tL_days : List Cond := (wsV RL 64 RX11 yX11_days wsX11_days) ++ (wsV RL 67 RX12 yX12_days wsX12_days)
theorem tL_days_in : ∀ w ∈ tL_days, w ∈ lw_tbl := by
  unfold tL_days
  exact (List.forall_mem_append.mpr ⟨(List.forall_mem_append.mpr ⟨(List.forall_mem_cons.mpr ⟨wd_847, (List.forall_mem_cons.mpr ⟨wd_846, (List.forall_mem_cons.mpr ⟨wd_845, (List.forall_mem_cons.mpr ⟨wd_0, (fun _ h => absurd h List.not_mem_nil)⟩)⟩)⟩)⟩), hl_wsX11_days⟩), (List.forall_mem_append.mpr ⟨(List.forall_mem_cons.mpr ⟨wd_881, (List.forall_mem_cons.mpr ⟨wd_880, (List.forall_mem_cons.mpr ⟨wd_879, (List.forall_mem_cons.mpr ⟨wd_27, (fun _ h => absurd h List.not_mem_nil)⟩)⟩)⟩)⟩), hl_wsX12_days⟩)⟩)
set_option maxRecDepth 20000 in
theorem tL_days_x : GoodIn tL_days (wsV RL 64 RX11 yX11_days wsX11_days) := fun w h => ⟨List.mem_append_left _ h, good_of_word (List.all_eq_true.mp (show (wsV RL 64 RX11 yX11_days wsX11_days).all goodWord = true by decide +kernel) w h)⟩
set_option maxRecDepth 20000 in
theorem tL_days_m : GoodIn tL_days (wsV RL 67 RX12 yX12_days wsX12_days) := fun w h => ⟨List.mem_append_right _ h, good_of_word (List.all_eq_true.mp (show (wsV RL 67 RX12 yX12_days wsX12_days).all goodWord = true by decide +kernel) w h)⟩
theorem hdLX11_days : yX11_days.cls = RX11 ∧ yX11_days.cls ≠ "java/lang/invoke/MethodHandle" ∧ yX11_days.cls ≠ "java/lang/invoke/VarHandle" ∧ (parseMethodDescriptor yX11_days.desc).map (fun d => d.parameters.length) = some 1 := by decide +kernel
theorem hdLX12_days : yX12_days.cls = RX12 ∧ yX12_days.cls ≠ "java/lang/invoke/MethodHandle" ∧ yX12_days.cls ≠ "java/lang/invoke/VarHandle" ∧ (parseMethodDescriptor yX12_days.desc).map (fun d => d.parameters.length) = some 1 := by decide +kernel
theorem wd_896 : Cond.selects RX11 yX11_undo yX11_undo ∈ lw_tbl := mt_4 (List.mem_of_getElem? (i := 118) rfl)
theorem wd_897 : Cond.instanceMethod yX11_undo ∈ lw_tbl := mt_4 (List.mem_of_getElem? (i := 117) rfl)
theorem wd_898 : Cond.methodLink RL 68 yX11_undo ∈ lw_tbl := mt_4 (List.mem_of_getElem? (i := 116) rfl)
theorem wd_899 : Cond.code yX11_undo cX11_undo 2 (some .int) ∈ lw_tbl := mt_4 (List.mem_of_getElem? (i := 119) rfl)
theorem wd_900 : Cond.code yJ9_floorMod_7cf53 cJ9_floorMod_7cf53 3 (some .int) ∈ lw_tbl := mt_4 (List.mem_of_getElem? (i := 126) rfl)
theorem wd_901 : Cond.initialized RJ9 ∈ lw_tbl := mt_1 (List.mem_of_getElem? (i := 18) rfl)
theorem wd_902 : Cond.static yJ9_floorMod_7cf53 ∈ lw_tbl := mt_4 (List.mem_of_getElem? (i := 125) rfl)
theorem wd_903 : Cond.methodLink RX6 35 yJ9_floorMod_7cf53 ∈ lw_tbl := mt_4 (List.mem_of_getElem? (i := 124) rfl)
theorem wd_904 : Cond.code yX6_bringBack cX6_bringBack 3 none ∈ lw_tbl := mt_4 (List.mem_of_getElem? (i := 123) rfl)
theorem wd_905 : Cond.selects RX6 yX6_bringBack yX6_bringBack ∈ lw_tbl := mt_4 (List.mem_of_getElem? (i := 122) rfl)
theorem wd_906 : Cond.instanceMethod yX6_bringBack ∈ lw_tbl := mt_4 (List.mem_of_getElem? (i := 121) rfl)
theorem wd_907 : Cond.methodLink RX11 228 yX6_bringBack ∈ lw_tbl := mt_4 (List.mem_of_getElem? (i := 120) rfl)
theorem wd_908 : Cond.fieldLink RX11 225 "OneOfEach$Past" "size" "I" ∈ lw_tbl := mt_1 (List.mem_of_getElem? (i := 171) rfl)
set_option maxRecDepth 20000 in
theorem hl_wsX11_undo_r1 : ∀ w ∈ wsX11_undo_r1, w ∈ lw_tbl := by
  unfold wsX11_undo_r1
  exact (List.forall_mem_cons.mpr ⟨wd_336, (List.forall_mem_cons.mpr ⟨wd_908, (List.forall_mem_cons.mpr ⟨wd_84, (List.forall_mem_cons.mpr ⟨wd_907, (List.forall_mem_cons.mpr ⟨wd_906, (List.forall_mem_cons.mpr ⟨wd_905, (List.forall_mem_cons.mpr ⟨wd_368, (List.forall_mem_cons.mpr ⟨wd_904, (List.forall_mem_cons.mpr ⟨wd_710, (List.forall_mem_cons.mpr ⟨wd_366, (List.forall_mem_cons.mpr ⟨wd_711, (List.forall_mem_cons.mpr ⟨wd_903, (List.forall_mem_cons.mpr ⟨wd_902, (List.forall_mem_cons.mpr ⟨wd_901, (List.forall_mem_cons.mpr ⟨wd_900, (List.forall_mem_cons.mpr ⟨wd_708, (List.forall_mem_cons.mpr ⟨wd_345, (List.forall_mem_cons.mpr ⟨wd_344, (List.forall_mem_cons.mpr ⟨wd_102, (List.forall_mem_cons.mpr ⟨wd_343, (List.forall_mem_cons.mpr ⟨wd_100, (List.forall_mem_cons.mpr ⟨wd_342, (List.forall_mem_cons.mpr ⟨wd_341, (List.forall_mem_cons.mpr ⟨wd_99, (fun _ h => absurd h List.not_mem_nil)⟩)⟩)⟩)⟩)⟩)⟩)⟩)⟩)⟩)⟩)⟩)⟩)⟩)⟩)⟩)⟩)⟩)⟩)⟩)⟩)⟩)⟩)⟩)⟩)
set_option maxRecDepth 20000 in
theorem hl_wsX11_undo_r2 : ∀ w ∈ wsX11_undo_r2, w ∈ lw_tbl := by
  unfold wsX11_undo_r2
  exact (List.forall_mem_cons.mpr ⟨wd_98, (List.forall_mem_cons.mpr ⟨wd_97, (List.forall_mem_cons.mpr ⟨wd_96, (List.forall_mem_cons.mpr ⟨wd_95, (List.forall_mem_cons.mpr ⟨wd_94, (fun _ h => absurd h List.not_mem_nil)⟩)⟩)⟩)⟩)⟩)
set_option maxRecDepth 20000 in
theorem hl_wsX11_undo : ∀ w ∈ wsX11_undo, w ∈ lw_tbl := by
  unfold wsX11_undo
  exact (List.forall_mem_cons.mpr ⟨wd_899, (List.forall_mem_append.mpr ⟨(List.forall_mem_append.mpr ⟨(List.forall_mem_append.mpr ⟨(List.forall_mem_append.mpr ⟨hl_wsX11_undo_r1, hl_wsX11_undo_r2⟩), hl_wsX110⟩), hl_wsX60⟩), hl_wsX90⟩)⟩)
theorem wd_909 : Cond.selects RX12 yX12_undo yX12_undo ∈ lw_tbl := mt_7 (List.mem_of_getElem? (i := 151) rfl)
theorem wd_910 : Cond.instanceMethod yX12_undo ∈ lw_tbl := mt_7 (List.mem_of_getElem? (i := 150) rfl)
theorem wd_911 : Cond.methodLink RL 71 yX12_undo ∈ lw_tbl := mt_7 (List.mem_of_getElem? (i := 149) rfl)
theorem wd_912 : Cond.code yX12_undo cX12_undo 3 (some .int) ∈ lw_tbl := mt_7 (List.mem_of_getElem? (i := 152) rfl)
theorem wd_913 : Cond.constantLong RX12 300 (10) ∈ lw_tbl := mt_7 (List.mem_of_getElem? (i := 153) rfl)
set_option maxRecDepth 20000 in
theorem hl_wsX12_undo : ∀ w ∈ wsX12_undo, w ∈ lw_tbl := by
  unfold wsX12_undo
  exact (List.forall_mem_cons.mpr ⟨wd_912, (List.forall_mem_append.mpr ⟨(List.forall_mem_cons.mpr ⟨wd_34, (List.forall_mem_cons.mpr ⟨wd_913, (List.forall_mem_cons.mpr ⟨wd_423, (List.forall_mem_cons.mpr ⟨wd_422, (List.forall_mem_cons.mpr ⟨wd_421, (List.forall_mem_cons.mpr ⟨wd_27, (List.forall_mem_cons.mpr ⟨wd_420, (fun _ h => absurd h List.not_mem_nil)⟩)⟩)⟩)⟩)⟩)⟩)⟩), hl_wsX120⟩)⟩)
def tL_undo : List Cond := (wsV RL 68 RX11 yX11_undo wsX11_undo) ++ (wsV RL 71 RX12 yX12_undo wsX12_undo)
theorem tL_undo_in : ∀ w ∈ tL_undo, w ∈ lw_tbl := by
  unfold tL_undo
  exact (List.forall_mem_append.mpr ⟨(List.forall_mem_append.mpr ⟨(List.forall_mem_cons.mpr ⟨wd_898, (List.forall_mem_cons.mpr ⟨wd_897, (List.forall_mem_cons.mpr ⟨wd_896, (List.forall_mem_cons.mpr ⟨wd_0, (fun _ h => absurd h List.not_mem_nil)⟩)⟩)⟩)⟩), hl_wsX11_undo⟩), (List.forall_mem_append.mpr ⟨(List.forall_mem_cons.mpr ⟨wd_911, (List.forall_mem_cons.mpr ⟨wd_910, (List.forall_mem_cons.mpr ⟨wd_909, (List.forall_mem_cons.mpr ⟨wd_27, (fun _ h => absurd h List.not_mem_nil)⟩)⟩)⟩)⟩), hl_wsX12_undo⟩)⟩)
set_option maxRecDepth 20000 in
theorem tL_undo_x : GoodIn tL_undo (wsV RL 68 RX11 yX11_undo wsX11_undo) := fun w h => ⟨List.mem_append_left _ h, good_of_word (List.all_eq_true.mp (show (wsV RL 68 RX11 yX11_undo wsX11_undo).all goodWord = true by decide +kernel) w h)⟩
set_option maxRecDepth 20000 in
theorem tL_undo_m : GoodIn tL_undo (wsV RL 71 RX12 yX12_undo wsX12_undo) := fun w h => ⟨List.mem_append_right _ h, good_of_word (List.all_eq_true.mp (show (wsV RL 71 RX12 yX12_undo wsX12_undo).all goodWord = true by decide +kernel) w h)⟩
theorem hdLX11_undo : yX11_undo.cls = RX11 ∧ yX11_undo.cls ≠ "java/lang/invoke/MethodHandle" ∧ yX11_undo.cls ≠ "java/lang/invoke/VarHandle" ∧ (parseMethodDescriptor yX11_undo.desc).map (fun d => d.parameters.length) = some 1 := by decide +kernel
theorem hdLX12_undo : yX12_undo.cls = RX12 ∧ yX12_undo.cls ≠ "java/lang/invoke/MethodHandle" ∧ yX12_undo.cls ≠ "java/lang/invoke/VarHandle" ∧ (parseMethodDescriptor yX12_undo.desc).map (fun d => d.parameters.length) = some 1 := by decide +kernel
theorem wd_914 : Cond.selects RX11 yX11_judge yX11_judge ∈ lw_tbl := mt_4 (List.mem_of_getElem? (i := 129) rfl)
theorem wd_915 : Cond.instanceMethod yX11_judge ∈ lw_tbl := mt_4 (List.mem_of_getElem? (i := 128) rfl)
theorem wd_916 : Cond.methodLink RL 72 yX11_judge ∈ lw_tbl := mt_4 (List.mem_of_getElem? (i := 127) rfl)
theorem wd_917 : Cond.code yX11_judge cX11_judge 7 (some .int) ∈ lw_tbl := mt_4 (List.mem_of_getElem? (i := 130) rfl)
theorem wd_918 : Cond.fieldLink RX10 19 "OneOfEach$Tray" "size" "I" ∈ lw_tbl := mt_2 (List.mem_of_getElem? (i := 95) rfl)
theorem wd_919 : Cond.code yX10_isMissing cX10_isMissing 1 (some .boolean) ∈ lw_tbl := mt_4 (List.mem_of_getElem? (i := 137) rfl)
theorem wd_920 : Cond.initialized RX10 ∈ lw_tbl := mt_1 (List.mem_of_getElem? (i := 10) rfl)
theorem wd_921 : Cond.selects RX10 yX10_isMissing yX10_isMissing ∈ lw_tbl := mt_4 (List.mem_of_getElem? (i := 136) rfl)
theorem wd_922 : Cond.instanceMethod yX10_isMissing ∈ lw_tbl := mt_4 (List.mem_of_getElem? (i := 135) rfl)
theorem wd_923 : Cond.methodLink RX11 235 yX10_isMissing ∈ lw_tbl := mt_4 (List.mem_of_getElem? (i := 134) rfl)
theorem wd_924 : Cond.code yX11_isTray cX11_isTray 1 (some .boolean) ∈ lw_tbl := mt_4 (List.mem_of_getElem? (i := 133) rfl)
theorem wd_925 : Cond.static yX11_isTray ∈ lw_tbl := mt_4 (List.mem_of_getElem? (i := 132) rfl)
theorem wd_926 : Cond.methodLink RX11 232 yX11_isTray ∈ lw_tbl := mt_4 (List.mem_of_getElem? (i := 131) rfl)
theorem wd_927 : Cond.fieldLink RX11 252 "OneOfEach$Stock" "till" "I" ∈ lw_tbl := mt_1 (List.mem_of_getElem? (i := 131) rfl)
theorem wd_928 : Cond.methodLink RX11 246 Lib.Math.min.name ∈ lw_tbl := mt_4 (List.mem_of_getElem? (i := 151) rfl)
theorem wd_929 : Cond.fieldLink RX11 52 "OneOfEach" "trays" "[LOneOfEach$Tray;" ∈ lw_tbl := mt_2 (List.mem_of_getElem? (i := 134) rfl)
set_option maxRecDepth 20000 in
theorem hl_wsX11_judge_r1 : ∀ w ∈ wsX11_judge_r1, w ∈ lw_tbl := by
  unfold wsX11_judge_r1
  exact (List.forall_mem_cons.mpr ⟨wd_929, (List.forall_mem_cons.mpr ⟨wd_90, (List.forall_mem_cons.mpr ⟨wd_84, (List.forall_mem_cons.mpr ⟨wd_740, (List.forall_mem_cons.mpr ⟨wd_85, (List.forall_mem_cons.mpr ⟨wd_928, (List.forall_mem_cons.mpr ⟨wd_191, (List.forall_mem_cons.mpr ⟨wd_133, (List.forall_mem_cons.mpr ⟨wd_190, (List.forall_mem_cons.mpr ⟨wd_556, (List.forall_mem_cons.mpr ⟨wd_927, (List.forall_mem_cons.mpr ⟨wd_926, (List.forall_mem_cons.mpr ⟨wd_925, (List.forall_mem_cons.mpr ⟨wd_0, (List.forall_mem_cons.mpr ⟨wd_924, (List.forall_mem_cons.mpr ⟨wd_923, (List.forall_mem_cons.mpr ⟨wd_922, (List.forall_mem_cons.mpr ⟨wd_921, (List.forall_mem_cons.mpr ⟨wd_920, (List.forall_mem_cons.mpr ⟨wd_919, (List.forall_mem_cons.mpr ⟨wd_918, (List.forall_mem_cons.mpr ⟨wd_346, (List.forall_mem_cons.mpr ⟨wd_345, (List.forall_mem_cons.mpr ⟨wd_344, (fun _ h => absurd h List.not_mem_nil)⟩)⟩)⟩)⟩)⟩)⟩)⟩)⟩)⟩)⟩)⟩)⟩)⟩)⟩)⟩)⟩)⟩)⟩)⟩)⟩)⟩)⟩)⟩)⟩)
theorem wd_930 : Cond.methodLink RX10 34 yX10_has ∈ lw_tbl := mt_4 (List.mem_of_getElem? (i := 147) rfl)
theorem wd_931 : Cond.fieldLink RX10 9 "OneOfEach$Tray" "cells" "[J" ∈ lw_tbl := mt_2 (List.mem_of_getElem? (i := 93) rfl)
theorem wd_932 : Cond.code yX10_numberAt cX10_numberAt 2 (some .long) ∈ lw_tbl := mt_4 (List.mem_of_getElem? (i := 146) rfl)
theorem wd_933 : Cond.selects RX10 yX10_numberAt yX10_numberAt ∈ lw_tbl := mt_4 (List.mem_of_getElem? (i := 145) rfl)
theorem wd_934 : Cond.instanceMethod yX10_numberAt ∈ lw_tbl := mt_4 (List.mem_of_getElem? (i := 144) rfl)
theorem wd_935 : Cond.methodLink RX11 242 yX10_numberAt ∈ lw_tbl := mt_4 (List.mem_of_getElem? (i := 143) rfl)
theorem wd_936 : Cond.methodLink RX10 22 Lib.Math.max.name ∈ lw_tbl := mt_4 (List.mem_of_getElem? (i := 142) rfl)
theorem wd_937 : Cond.code yX10_size cX10_size 1 (some .int) ∈ lw_tbl := mt_4 (List.mem_of_getElem? (i := 141) rfl)
theorem wd_938 : Cond.selects RX10 yX10_size yX10_size ∈ lw_tbl := mt_4 (List.mem_of_getElem? (i := 140) rfl)
theorem wd_939 : Cond.instanceMethod yX10_size ∈ lw_tbl := mt_4 (List.mem_of_getElem? (i := 139) rfl)
theorem wd_940 : Cond.methodLink RX11 239 yX10_size ∈ lw_tbl := mt_4 (List.mem_of_getElem? (i := 138) rfl)
set_option maxRecDepth 20000 in
theorem hl_wsX11_judge_r2 : ∀ w ∈ wsX11_judge_r2, w ∈ lw_tbl := by
  unfold wsX11_judge_r2
  exact (List.forall_mem_cons.mpr ⟨wd_102, (List.forall_mem_cons.mpr ⟨wd_343, (List.forall_mem_cons.mpr ⟨wd_100, (List.forall_mem_cons.mpr ⟨wd_342, (List.forall_mem_cons.mpr ⟨wd_341, (List.forall_mem_cons.mpr ⟨wd_99, (List.forall_mem_cons.mpr ⟨wd_98, (List.forall_mem_cons.mpr ⟨wd_97, (List.forall_mem_cons.mpr ⟨wd_96, (List.forall_mem_cons.mpr ⟨wd_95, (List.forall_mem_cons.mpr ⟨wd_94, (List.forall_mem_cons.mpr ⟨wd_940, (List.forall_mem_cons.mpr ⟨wd_939, (List.forall_mem_cons.mpr ⟨wd_938, (List.forall_mem_cons.mpr ⟨wd_937, (List.forall_mem_cons.mpr ⟨wd_936, (List.forall_mem_cons.mpr ⟨wd_134, (List.forall_mem_cons.mpr ⟨wd_132, (List.forall_mem_cons.mpr ⟨wd_935, (List.forall_mem_cons.mpr ⟨wd_934, (List.forall_mem_cons.mpr ⟨wd_933, (List.forall_mem_cons.mpr ⟨wd_932, (List.forall_mem_cons.mpr ⟨wd_931, (List.forall_mem_cons.mpr ⟨wd_930, (fun _ h => absurd h List.not_mem_nil)⟩)⟩)⟩)⟩)⟩)⟩)⟩)⟩)⟩)⟩)⟩)⟩)⟩)⟩)⟩)⟩)⟩)⟩)⟩)⟩)⟩)⟩)⟩)⟩)
theorem wd_941 : Cond.code yX10_has cX10_has 2 (some .boolean) ∈ lw_tbl := mt_4 (List.mem_of_getElem? (i := 150) rfl)
theorem wd_942 : Cond.selects RX10 yX10_has yX10_has ∈ lw_tbl := mt_4 (List.mem_of_getElem? (i := 149) rfl)
theorem wd_943 : Cond.instanceMethod yX10_has ∈ lw_tbl := mt_4 (List.mem_of_getElem? (i := 148) rfl)
set_option maxRecDepth 20000 in
theorem hl_wsX11_judge_r3 : ∀ w ∈ wsX11_judge_r3, w ∈ lw_tbl := by
  unfold wsX11_judge_r3
  exact (List.forall_mem_cons.mpr ⟨wd_943, (List.forall_mem_cons.mpr ⟨wd_942, (List.forall_mem_cons.mpr ⟨wd_941, (List.forall_mem_cons.mpr ⟨wd_851, (List.forall_mem_cons.mpr ⟨wd_850, (List.forall_mem_cons.mpr ⟨wd_849, (List.forall_mem_cons.mpr ⟨wd_736, (List.forall_mem_cons.mpr ⟨wd_874, (List.forall_mem_cons.mpr ⟨wd_873, (List.forall_mem_cons.mpr ⟨wd_872, (List.forall_mem_cons.mpr ⟨wd_871, (List.forall_mem_cons.mpr ⟨wd_870, (List.forall_mem_cons.mpr ⟨wd_869, (List.forall_mem_cons.mpr ⟨wd_868, (List.forall_mem_cons.mpr ⟨wd_867, (List.forall_mem_cons.mpr ⟨wd_866, (List.forall_mem_cons.mpr ⟨wd_865, (List.forall_mem_cons.mpr ⟨wd_864, (List.forall_mem_cons.mpr ⟨wd_114, (List.forall_mem_cons.mpr ⟨wd_863, (List.forall_mem_cons.mpr ⟨wd_112, (List.forall_mem_cons.mpr ⟨wd_862, (List.forall_mem_cons.mpr ⟨wd_861, (List.forall_mem_cons.mpr ⟨wd_860, (fun _ h => absurd h List.not_mem_nil)⟩)⟩)⟩)⟩)⟩)⟩)⟩)⟩)⟩)⟩)⟩)⟩)⟩)⟩)⟩)⟩)⟩)⟩)⟩)⟩)⟩)⟩)⟩)⟩)
set_option maxRecDepth 20000 in
theorem hl_wsX11_judge_r4 : ∀ w ∈ wsX11_judge_r4, w ∈ lw_tbl := by
  unfold wsX11_judge_r4
  exact (List.forall_mem_cons.mpr ⟨wd_859, (List.forall_mem_cons.mpr ⟨wd_858, (List.forall_mem_cons.mpr ⟨wd_857, (List.forall_mem_cons.mpr ⟨wd_856, (List.forall_mem_cons.mpr ⟨wd_855, (List.forall_mem_cons.mpr ⟨wd_854, (List.forall_mem_cons.mpr ⟨wd_853, (List.forall_mem_cons.mpr ⟨wd_875, (List.forall_mem_cons.mpr ⟨wd_738, (List.forall_mem_cons.mpr ⟨wd_737, (List.forall_mem_cons.mpr ⟨wd_735, (List.forall_mem_cons.mpr ⟨wd_734, (List.forall_mem_cons.mpr ⟨wd_754, (List.forall_mem_cons.mpr ⟨wd_753, (List.forall_mem_cons.mpr ⟨wd_752, (List.forall_mem_cons.mpr ⟨wd_751, (List.forall_mem_cons.mpr ⟨wd_750, (List.forall_mem_cons.mpr ⟨wd_749, (List.forall_mem_cons.mpr ⟨wd_748, (List.forall_mem_cons.mpr ⟨wd_747, (List.forall_mem_cons.mpr ⟨wd_746, (List.forall_mem_cons.mpr ⟨wd_745, (List.forall_mem_cons.mpr ⟨wd_744, (List.forall_mem_cons.mpr ⟨wd_743, (fun _ h => absurd h List.not_mem_nil)⟩)⟩)⟩)⟩)⟩)⟩)⟩)⟩)⟩)⟩)⟩)⟩)⟩)⟩)⟩)⟩)⟩)⟩)⟩)⟩)⟩)⟩)⟩)⟩)
set_option maxRecDepth 20000 in
theorem hl_wsX11_judge_r5 : ∀ w ∈ wsX11_judge_r5, w ∈ lw_tbl := by
  unfold wsX11_judge_r5
  exact (List.forall_mem_cons.mpr ⟨wd_742, (List.forall_mem_cons.mpr ⟨wd_741, (List.forall_mem_cons.mpr ⟨wd_543, (List.forall_mem_cons.mpr ⟨wd_542, (List.forall_mem_cons.mpr ⟨wd_362, (List.forall_mem_cons.mpr ⟨wd_541, (List.forall_mem_cons.mpr ⟨wd_540, (List.forall_mem_cons.mpr ⟨wd_578, (List.forall_mem_cons.mpr ⟨wd_577, (List.forall_mem_cons.mpr ⟨wd_360, (List.forall_mem_cons.mpr ⟨wd_576, (List.forall_mem_cons.mpr ⟨wd_575, (List.forall_mem_cons.mpr ⟨wd_574, (List.forall_mem_cons.mpr ⟨wd_573, (List.forall_mem_cons.mpr ⟨wd_755, (List.forall_mem_cons.mpr ⟨wd_571, (List.forall_mem_cons.mpr ⟨wd_570, (List.forall_mem_cons.mpr ⟨wd_569, (List.forall_mem_cons.mpr ⟨wd_568, (List.forall_mem_cons.mpr ⟨wd_567, (List.forall_mem_cons.mpr ⟨wd_566, (List.forall_mem_cons.mpr ⟨wd_565, (List.forall_mem_cons.mpr ⟨wd_564, (List.forall_mem_cons.mpr ⟨wd_563, (fun _ h => absurd h List.not_mem_nil)⟩)⟩)⟩)⟩)⟩)⟩)⟩)⟩)⟩)⟩)⟩)⟩)⟩)⟩)⟩)⟩)⟩)⟩)⟩)⟩)⟩)⟩)⟩)⟩)
set_option maxRecDepth 20000 in
theorem hl_wsX11_judge_r6 : ∀ w ∈ wsX11_judge_r6, w ∈ lw_tbl := by
  unfold wsX11_judge_r6
  exact (List.forall_mem_cons.mpr ⟨wd_562, (List.forall_mem_cons.mpr ⟨wd_561, (List.forall_mem_cons.mpr ⟨wd_560, (List.forall_mem_cons.mpr ⟨wd_559, (List.forall_mem_cons.mpr ⟨wd_602, (List.forall_mem_cons.mpr ⟨wd_601, (List.forall_mem_cons.mpr ⟨wd_600, (List.forall_mem_cons.mpr ⟨wd_599, (List.forall_mem_cons.mpr ⟨wd_598, (List.forall_mem_cons.mpr ⟨wd_597, (List.forall_mem_cons.mpr ⟨wd_596, (List.forall_mem_cons.mpr ⟨wd_595, (List.forall_mem_cons.mpr ⟨wd_594, (List.forall_mem_cons.mpr ⟨wd_593, (List.forall_mem_cons.mpr ⟨wd_592, (List.forall_mem_cons.mpr ⟨wd_591, (List.forall_mem_cons.mpr ⟨wd_590, (List.forall_mem_cons.mpr ⟨wd_589, (List.forall_mem_cons.mpr ⟨wd_588, (List.forall_mem_cons.mpr ⟨wd_587, (List.forall_mem_cons.mpr ⟨wd_586, (List.forall_mem_cons.mpr ⟨wd_585, (List.forall_mem_cons.mpr ⟨wd_584, (List.forall_mem_cons.mpr ⟨wd_583, (fun _ h => absurd h List.not_mem_nil)⟩)⟩)⟩)⟩)⟩)⟩)⟩)⟩)⟩)⟩)⟩)⟩)⟩)⟩)⟩)⟩)⟩)⟩)⟩)⟩)⟩)⟩)⟩)⟩)
set_option maxRecDepth 20000 in
theorem hl_wsX11_judge_r7 : ∀ w ∈ wsX11_judge_r7, w ∈ lw_tbl := by
  unfold wsX11_judge_r7
  exact (List.forall_mem_cons.mpr ⟨wd_582, (List.forall_mem_cons.mpr ⟨wd_581, (List.forall_mem_cons.mpr ⟨wd_580, (List.forall_mem_cons.mpr ⟨wd_579, (List.forall_mem_cons.mpr ⟨wd_608, (List.forall_mem_cons.mpr ⟨wd_607, (List.forall_mem_cons.mpr ⟨wd_606, (List.forall_mem_cons.mpr ⟨wd_605, (List.forall_mem_cons.mpr ⟨wd_604, (List.forall_mem_cons.mpr ⟨wd_603, (List.forall_mem_cons.mpr ⟨wd_878, (List.forall_mem_cons.mpr ⟨wd_785, (List.forall_mem_cons.mpr ⟨wd_784, (List.forall_mem_cons.mpr ⟨wd_783, (List.forall_mem_cons.mpr ⟨wd_782, (List.forall_mem_cons.mpr ⟨wd_781, (List.forall_mem_cons.mpr ⟨wd_789, (List.forall_mem_cons.mpr ⟨wd_788, (List.forall_mem_cons.mpr ⟨wd_787, (List.forall_mem_cons.mpr ⟨wd_877, (List.forall_mem_cons.mpr ⟨wd_804, (List.forall_mem_cons.mpr ⟨wd_803, (List.forall_mem_cons.mpr ⟨wd_802, (List.forall_mem_cons.mpr ⟨wd_876, (fun _ h => absurd h List.not_mem_nil)⟩)⟩)⟩)⟩)⟩)⟩)⟩)⟩)⟩)⟩)⟩)⟩)⟩)⟩)⟩)⟩)⟩)⟩)⟩)⟩)⟩)⟩)⟩)⟩)
set_option maxRecDepth 20000 in
theorem hl_wsX11_judge_r8 : ∀ w ∈ wsX11_judge_r8, w ∈ lw_tbl := by
  unfold wsX11_judge_r8
  exact (List.forall_mem_cons.mpr ⟨wd_835, (List.forall_mem_cons.mpr ⟨wd_834, (List.forall_mem_cons.mpr ⟨wd_833, (fun _ h => absurd h List.not_mem_nil)⟩)⟩)⟩)
theorem wd_944 : u_lay RX10 TX10 2 ∈ lw_tbl := mt_2 (List.mem_of_getElem? (i := 100) rfl)
theorem wd_945 : u_lay RX10 TX10 1 ∈ lw_tbl := mt_2 (List.mem_of_getElem? (i := 98) rfl)
theorem wd_946 : u_lay RX10 TX10 0 ∈ lw_tbl := mt_2 (List.mem_of_getElem? (i := 96) rfl)
set_option maxRecDepth 20000 in
theorem hl_wsX100 : ∀ w ∈ wsX100, w ∈ lw_tbl := show ∀ w ∈ [u_lay RX10 TX10 0, u_lay RX10 TX10 1, u_lay RX10 TX10 2], w ∈ lw_tbl from (List.forall_mem_cons.mpr ⟨wd_946, (List.forall_mem_cons.mpr ⟨wd_945, (List.forall_mem_cons.mpr ⟨wd_944, (fun _ h => absurd h List.not_mem_nil)⟩)⟩)⟩)
set_option maxRecDepth 20000 in
theorem hl_wsX11_judge : ∀ w ∈ wsX11_judge, w ∈ lw_tbl := by
  unfold wsX11_judge
  exact (List.forall_mem_cons.mpr ⟨wd_917, (List.forall_mem_append.mpr ⟨(List.forall_mem_append.mpr ⟨(List.forall_mem_append.mpr ⟨(List.forall_mem_append.mpr ⟨(List.forall_mem_append.mpr ⟨(List.forall_mem_append.mpr ⟨(List.forall_mem_append.mpr ⟨hl_wsX11_judge_r1, (List.forall_mem_append.mpr ⟨hl_wsX11_judge_r2, (List.forall_mem_append.mpr ⟨hl_wsX11_judge_r3, (List.forall_mem_append.mpr ⟨hl_wsX11_judge_r4, (List.forall_mem_append.mpr ⟨hl_wsX11_judge_r5, (List.forall_mem_append.mpr ⟨hl_wsX11_judge_r6, (List.forall_mem_append.mpr ⟨hl_wsX11_judge_r7, hl_wsX11_judge_r8⟩)⟩)⟩)⟩)⟩)⟩)⟩), hl_wsX110⟩), hl_wsX90⟩), hl_wsX100⟩), hl_wsX70⟩), hl_wsX10⟩), hl_wsX40⟩)⟩)
theorem wd_947 : Cond.selects RX12 yX12_judge yX12_judge ∈ lw_tbl := mt_7 (List.mem_of_getElem? (i := 156) rfl)
theorem wd_948 : Cond.instanceMethod yX12_judge ∈ lw_tbl := mt_7 (List.mem_of_getElem? (i := 155) rfl)
theorem wd_949 : Cond.methodLink RL 75 yX12_judge ∈ lw_tbl := mt_7 (List.mem_of_getElem? (i := 154) rfl)
theorem wd_950 : Cond.code yX12_judge cX12_judge 7 (some .int) ∈ lw_tbl := mt_7 (List.mem_of_getElem? (i := 157) rfl)
theorem wd_951 : Cond.fieldLink RX12 73 "OneOfEachModel" "numbers" "[J" ∈ lw_tbl := mt_6 (List.mem_of_getElem? (i := 59) rfl)
theorem wd_952 : Cond.fieldLink RX12 70 "OneOfEachModel" "rowMany" "[I" ∈ lw_tbl := mt_6 (List.mem_of_getElem? (i := 58) rfl)
theorem wd_953 : Cond.code yX12_tells cX12_tells 3 (some .int) ∈ lw_tbl := mt_7 (List.mem_of_getElem? (i := 166) rfl)
theorem wd_954 : Cond.selects RX12 yX12_tells yX12_tells ∈ lw_tbl := mp_6 (q := (⟨"OneOfEachModel", "tells", "(I)I"⟩, 32)) (List.mem_of_getElem? (i := 14) rfl)
theorem wd_955 : Cond.instanceMethod yX12_tells ∈ lw_tbl := mt_7 (List.mem_of_getElem? (i := 165) rfl)
theorem wd_956 : Cond.methodLink RX12 330 yX12_tells ∈ lw_tbl := mt_7 (List.mem_of_getElem? (i := 163) rfl)
theorem wd_957 : Cond.fieldLink RX12 67 "OneOfEachModel" "rowSort" "[I" ∈ lw_tbl := mt_6 (List.mem_of_getElem? (i := 57) rfl)
theorem wd_958 : Cond.code yX12_noTray cX12_noTray 2 (some .int) ∈ lw_tbl := mt_7 (List.mem_of_getElem? (i := 162) rfl)
theorem wd_959 : Cond.selects RX12 yX12_noTray yX12_noTray ∈ lw_tbl := mp_6 (q := (⟨"OneOfEachModel", "noTray", "(I)I"⟩, 32)) (List.mem_of_getElem? (i := 13) rfl)
theorem wd_960 : Cond.instanceMethod yX12_noTray ∈ lw_tbl := mt_7 (List.mem_of_getElem? (i := 161) rfl)
theorem wd_961 : Cond.methodLink RX12 327 yX12_noTray ∈ lw_tbl := mt_7 (List.mem_of_getElem? (i := 159) rfl)
theorem wd_962 : Cond.fieldLink RX12 316 "OneOfEachModel" "toldWhy" "I" ∈ lw_tbl := mt_6 (List.mem_of_getElem? (i := 46) rfl)
theorem wd_963 : Cond.constantLong RX12 325 (3) ∈ lw_tbl := mt_7 (List.mem_of_getElem? (i := 158) rfl)
set_option maxRecDepth 20000 in
theorem hl_wsX12_judge_r1 : ∀ w ∈ wsX12_judge_r1, w ∈ lw_tbl := by
  unfold wsX12_judge_r1
  exact (List.forall_mem_cons.mpr ⟨wd_34, (List.forall_mem_cons.mpr ⟨wd_963, (List.forall_mem_cons.mpr ⟨wd_423, (List.forall_mem_cons.mpr ⟨wd_962, (List.forall_mem_cons.mpr ⟨wd_422, (List.forall_mem_cons.mpr ⟨wd_421, (List.forall_mem_cons.mpr ⟨wd_27, (List.forall_mem_cons.mpr ⟨wd_420, (List.forall_mem_cons.mpr ⟨wd_961, (List.forall_mem_cons.mpr ⟨wd_960, (List.forall_mem_cons.mpr ⟨wd_959, (List.forall_mem_cons.mpr ⟨wd_958, (List.forall_mem_cons.mpr ⟨wd_957, (List.forall_mem_cons.mpr ⟨wd_728, (List.forall_mem_cons.mpr ⟨wd_727, (List.forall_mem_cons.mpr ⟨wd_726, (List.forall_mem_cons.mpr ⟨wd_725, (List.forall_mem_cons.mpr ⟨wd_729, (List.forall_mem_cons.mpr ⟨wd_956, (List.forall_mem_cons.mpr ⟨wd_955, (List.forall_mem_cons.mpr ⟨wd_954, (List.forall_mem_cons.mpr ⟨wd_953, (List.forall_mem_cons.mpr ⟨wd_952, (List.forall_mem_cons.mpr ⟨wd_951, (fun _ h => absurd h List.not_mem_nil)⟩)⟩)⟩)⟩)⟩)⟩)⟩)⟩)⟩)⟩)⟩)⟩)⟩)⟩)⟩)⟩)⟩)⟩)⟩)⟩)⟩)⟩)⟩)⟩)
theorem wd_964 : Cond.constantLong RX12 314 (1999) ∈ lw_tbl := mt_7 (List.mem_of_getElem? (i := 177) rfl)
theorem wd_965 : Cond.constantLong RX12 312 (1000) ∈ lw_tbl := mt_7 (List.mem_of_getElem? (i := 176) rfl)
theorem wd_966 : Cond.constantLong RX12 310 (209) ∈ lw_tbl := mt_7 (List.mem_of_getElem? (i := 175) rfl)
theorem wd_967 : Cond.constantLong RX12 308 (200) ∈ lw_tbl := mt_7 (List.mem_of_getElem? (i := 174) rfl)
theorem wd_968 : Cond.constantLong RX12 306 (109) ∈ lw_tbl := mt_7 (List.mem_of_getElem? (i := 173) rfl)
theorem wd_969 : Cond.constantLong RX12 304 (100) ∈ lw_tbl := mt_7 (List.mem_of_getElem? (i := 172) rfl)
theorem wd_970 : Cond.constantLong RX12 302 (-1) ∈ lw_tbl := mt_7 (List.mem_of_getElem? (i := 171) rfl)
theorem wd_971 : Cond.code yX12_whyNot cX12_whyNot 3 (some .int) ∈ lw_tbl := mt_7 (List.mem_of_getElem? (i := 170) rfl)
theorem wd_972 : Cond.selects RX12 yX12_whyNot yX12_whyNot ∈ lw_tbl := mp_6 (q := (⟨"OneOfEachModel", "whyNot", "(J)I"⟩, 32)) (List.mem_of_getElem? (i := 15) rfl)
theorem wd_973 : Cond.instanceMethod yX12_whyNot ∈ lw_tbl := mt_7 (List.mem_of_getElem? (i := 169) rfl)
theorem wd_974 : Cond.methodLink RX12 319 yX12_whyNot ∈ lw_tbl := mt_7 (List.mem_of_getElem? (i := 167) rfl)
set_option maxRecDepth 20000 in
theorem hl_wsX12_judge_r2 : ∀ w ∈ wsX12_judge_r2, w ∈ lw_tbl := by
  unfold wsX12_judge_r2
  exact (List.forall_mem_cons.mpr ⟨wd_974, (List.forall_mem_cons.mpr ⟨wd_973, (List.forall_mem_cons.mpr ⟨wd_972, (List.forall_mem_cons.mpr ⟨wd_971, (List.forall_mem_cons.mpr ⟨wd_970, (List.forall_mem_cons.mpr ⟨wd_828, (List.forall_mem_cons.mpr ⟨wd_969, (List.forall_mem_cons.mpr ⟨wd_968, (List.forall_mem_cons.mpr ⟨wd_967, (List.forall_mem_cons.mpr ⟨wd_966, (List.forall_mem_cons.mpr ⟨wd_965, (List.forall_mem_cons.mpr ⟨wd_964, (List.forall_mem_cons.mpr ⟨wd_772, (List.forall_mem_cons.mpr ⟨wd_771, (List.forall_mem_cons.mpr ⟨wd_770, (List.forall_mem_cons.mpr ⟨wd_769, (List.forall_mem_cons.mpr ⟨wd_692, (List.forall_mem_cons.mpr ⟨wd_691, (List.forall_mem_cons.mpr ⟨wd_690, (List.forall_mem_cons.mpr ⟨wd_689, (List.forall_mem_cons.mpr ⟨wd_768, (List.forall_mem_cons.mpr ⟨wd_767, (List.forall_mem_cons.mpr ⟨wd_766, (List.forall_mem_cons.mpr ⟨wd_765, (fun _ h => absurd h List.not_mem_nil)⟩)⟩)⟩)⟩)⟩)⟩)⟩)⟩)⟩)⟩)⟩)⟩)⟩)⟩)⟩)⟩)⟩)⟩)⟩)⟩)⟩)⟩)⟩)⟩)
set_option maxRecDepth 20000 in
theorem hl_wsX12_judge_r3 : ∀ w ∈ wsX12_judge_r3, w ∈ lw_tbl := by
  unfold wsX12_judge_r3
  exact (List.forall_mem_cons.mpr ⟨wd_614, (List.forall_mem_cons.mpr ⟨wd_613, (List.forall_mem_cons.mpr ⟨wd_654, (List.forall_mem_cons.mpr ⟨wd_653, (List.forall_mem_cons.mpr ⟨wd_652, (List.forall_mem_cons.mpr ⟨wd_651, (List.forall_mem_cons.mpr ⟨wd_650, (List.forall_mem_cons.mpr ⟨wd_649, (List.forall_mem_cons.mpr ⟨wd_648, (List.forall_mem_cons.mpr ⟨wd_647, (List.forall_mem_cons.mpr ⟨wd_646, (List.forall_mem_cons.mpr ⟨wd_645, (List.forall_mem_cons.mpr ⟨wd_622, (List.forall_mem_cons.mpr ⟨wd_621, (List.forall_mem_cons.mpr ⟨wd_620, (List.forall_mem_cons.mpr ⟨wd_619, (List.forall_mem_cons.mpr ⟨wd_618, (List.forall_mem_cons.mpr ⟨wd_617, (List.forall_mem_cons.mpr ⟨wd_616, (List.forall_mem_cons.mpr ⟨wd_615, (List.forall_mem_cons.mpr ⟨wd_644, (List.forall_mem_cons.mpr ⟨wd_643, (List.forall_mem_cons.mpr ⟨wd_642, (List.forall_mem_cons.mpr ⟨wd_641, (fun _ h => absurd h List.not_mem_nil)⟩)⟩)⟩)⟩)⟩)⟩)⟩)⟩)⟩)⟩)⟩)⟩)⟩)⟩)⟩)⟩)⟩)⟩)⟩)⟩)⟩)⟩)⟩)⟩)
set_option maxRecDepth 20000 in
theorem hl_wsX12_judge_r4 : ∀ w ∈ wsX12_judge_r4, w ∈ lw_tbl := by
  unfold wsX12_judge_r4
  exact (List.forall_mem_cons.mpr ⟨wd_640, (List.forall_mem_cons.mpr ⟨wd_639, (List.forall_mem_cons.mpr ⟨wd_638, (List.forall_mem_cons.mpr ⟨wd_637, (List.forall_mem_cons.mpr ⟨wd_636, (List.forall_mem_cons.mpr ⟨wd_635, (List.forall_mem_cons.mpr ⟨wd_634, (List.forall_mem_cons.mpr ⟨wd_633, (List.forall_mem_cons.mpr ⟨wd_632, (List.forall_mem_cons.mpr ⟨wd_631, (List.forall_mem_cons.mpr ⟨wd_665, (List.forall_mem_cons.mpr ⟨wd_664, (List.forall_mem_cons.mpr ⟨wd_663, (List.forall_mem_cons.mpr ⟨wd_662, (List.forall_mem_cons.mpr ⟨wd_661, (List.forall_mem_cons.mpr ⟨wd_660, (List.forall_mem_cons.mpr ⟨wd_659, (List.forall_mem_cons.mpr ⟨wd_658, (List.forall_mem_cons.mpr ⟨wd_657, (List.forall_mem_cons.mpr ⟨wd_656, (List.forall_mem_cons.mpr ⟨wd_655, (List.forall_mem_cons.mpr ⟨wd_797, (List.forall_mem_cons.mpr ⟨wd_796, (List.forall_mem_cons.mpr ⟨wd_795, (fun _ h => absurd h List.not_mem_nil)⟩)⟩)⟩)⟩)⟩)⟩)⟩)⟩)⟩)⟩)⟩)⟩)⟩)⟩)⟩)⟩)⟩)⟩)⟩)⟩)⟩)⟩)⟩)⟩)
theorem wd_975 : Cond.code yX12_does cX12_does 2 none ∈ lw_tbl := mt_7 (List.mem_of_getElem? (i := 181) rfl)
theorem wd_976 : Cond.selects RX12 yX12_does yX12_does ∈ lw_tbl := mp_7 (q := (⟨"OneOfEachModel", "does", "(I)V"⟩, 32)) (List.mem_of_getElem? (i := 0) rfl)
theorem wd_977 : Cond.instanceMethod yX12_does ∈ lw_tbl := mt_7 (List.mem_of_getElem? (i := 180) rfl)
theorem wd_978 : Cond.methodLink RX12 322 yX12_does ∈ lw_tbl := mt_7 (List.mem_of_getElem? (i := 178) rfl)
set_option maxRecDepth 20000 in
theorem hl_wsX12_judge_r5 : ∀ w ∈ wsX12_judge_r5, w ∈ lw_tbl := by
  unfold wsX12_judge_r5
  exact (List.forall_mem_cons.mpr ⟨wd_794, (List.forall_mem_cons.mpr ⟨wd_630, (List.forall_mem_cons.mpr ⟨wd_629, (List.forall_mem_cons.mpr ⟨wd_628, (List.forall_mem_cons.mpr ⟨wd_627, (List.forall_mem_cons.mpr ⟨wd_844, (List.forall_mem_cons.mpr ⟨wd_843, (List.forall_mem_cons.mpr ⟨wd_842, (List.forall_mem_cons.mpr ⟨wd_841, (List.forall_mem_cons.mpr ⟨wd_827, (List.forall_mem_cons.mpr ⟨wd_826, (List.forall_mem_cons.mpr ⟨wd_825, (List.forall_mem_cons.mpr ⟨wd_824, (List.forall_mem_cons.mpr ⟨wd_978, (List.forall_mem_cons.mpr ⟨wd_977, (List.forall_mem_cons.mpr ⟨wd_976, (List.forall_mem_cons.mpr ⟨wd_975, (List.forall_mem_cons.mpr ⟨wd_894, (List.forall_mem_cons.mpr ⟨wd_893, (List.forall_mem_cons.mpr ⟨wd_892, (List.forall_mem_cons.mpr ⟨wd_891, (List.forall_mem_cons.mpr ⟨wd_890, (List.forall_mem_cons.mpr ⟨wd_889, (List.forall_mem_cons.mpr ⟨wd_888, (fun _ h => absurd h List.not_mem_nil)⟩)⟩)⟩)⟩)⟩)⟩)⟩)⟩)⟩)⟩)⟩)⟩)⟩)⟩)⟩)⟩)⟩)⟩)⟩)⟩)⟩)⟩)⟩)⟩)
theorem wd_979 : Cond.code yX12_isAgain cX12_isAgain 2 none ∈ lw_tbl := mt_7 (List.mem_of_getElem? (i := 185) rfl)
theorem wd_980 : Cond.selects RX12 yX12_isAgain yX12_isAgain ∈ lw_tbl := mp_7 (q := (⟨"OneOfEachModel", "isAgain", "()V"⟩, 32)) (List.mem_of_getElem? (i := 1) rfl)
theorem wd_981 : Cond.instanceMethod yX12_isAgain ∈ lw_tbl := mt_7 (List.mem_of_getElem? (i := 184) rfl)
theorem wd_982 : Cond.methodLink RX12 333 yX12_isAgain ∈ lw_tbl := mt_7 (List.mem_of_getElem? (i := 182) rfl)
set_option maxRecDepth 20000 in
theorem hl_wsX12_judge_r6 : ∀ w ∈ wsX12_judge_r6, w ∈ lw_tbl := by
  unfold wsX12_judge_r6
  exact (List.forall_mem_cons.mpr ⟨wd_887, (List.forall_mem_cons.mpr ⟨wd_886, (List.forall_mem_cons.mpr ⟨wd_885, (List.forall_mem_cons.mpr ⟨wd_884, (List.forall_mem_cons.mpr ⟨wd_883, (List.forall_mem_cons.mpr ⟨wd_895, (List.forall_mem_cons.mpr ⟨wd_776, (List.forall_mem_cons.mpr ⟨wd_775, (List.forall_mem_cons.mpr ⟨wd_774, (List.forall_mem_cons.mpr ⟨wd_773, (List.forall_mem_cons.mpr ⟨wd_982, (List.forall_mem_cons.mpr ⟨wd_981, (List.forall_mem_cons.mpr ⟨wd_980, (List.forall_mem_cons.mpr ⟨wd_979, (fun _ h => absurd h List.not_mem_nil)⟩)⟩)⟩)⟩)⟩)⟩)⟩)⟩)⟩)⟩)⟩)⟩)⟩)⟩)
set_option maxRecDepth 20000 in
theorem hl_wsX12_judge : ∀ w ∈ wsX12_judge, w ∈ lw_tbl := by
  unfold wsX12_judge
  exact (List.forall_mem_cons.mpr ⟨wd_950, (List.forall_mem_append.mpr ⟨(List.forall_mem_append.mpr ⟨hl_wsX12_judge_r1, (List.forall_mem_append.mpr ⟨hl_wsX12_judge_r2, (List.forall_mem_append.mpr ⟨hl_wsX12_judge_r3, (List.forall_mem_append.mpr ⟨hl_wsX12_judge_r4, (List.forall_mem_append.mpr ⟨hl_wsX12_judge_r5, hl_wsX12_judge_r6⟩)⟩)⟩)⟩)⟩), hl_wsX120⟩)⟩)
def tL_judge : List Cond := (wsV RL 72 RX11 yX11_judge wsX11_judge) ++ (wsV RL 75 RX12 yX12_judge wsX12_judge)
theorem tL_judge_in : ∀ w ∈ tL_judge, w ∈ lw_tbl := by
  unfold tL_judge
  exact (List.forall_mem_append.mpr ⟨(List.forall_mem_append.mpr ⟨(List.forall_mem_cons.mpr ⟨wd_916, (List.forall_mem_cons.mpr ⟨wd_915, (List.forall_mem_cons.mpr ⟨wd_914, (List.forall_mem_cons.mpr ⟨wd_0, (fun _ h => absurd h List.not_mem_nil)⟩)⟩)⟩)⟩), hl_wsX11_judge⟩), (List.forall_mem_append.mpr ⟨(List.forall_mem_cons.mpr ⟨wd_949, (List.forall_mem_cons.mpr ⟨wd_948, (List.forall_mem_cons.mpr ⟨wd_947, (List.forall_mem_cons.mpr ⟨wd_27, (fun _ h => absurd h List.not_mem_nil)⟩)⟩)⟩)⟩), hl_wsX12_judge⟩)⟩)
set_option maxRecDepth 20000 in
theorem tL_judge_x : GoodIn tL_judge (wsV RL 72 RX11 yX11_judge wsX11_judge) := fun w h => ⟨List.mem_append_left _ h, good_of_word (List.all_eq_true.mp (show (wsV RL 72 RX11 yX11_judge wsX11_judge).all goodWord = true by decide +kernel) w h)⟩
set_option maxRecDepth 20000 in
theorem tL_judge_m : GoodIn tL_judge (wsV RL 75 RX12 yX12_judge wsX12_judge) := fun w h => ⟨List.mem_append_right _ h, good_of_word (List.all_eq_true.mp (show (wsV RL 75 RX12 yX12_judge wsX12_judge).all goodWord = true by decide +kernel) w h)⟩
theorem hdLX11_judge : yX11_judge.cls = RX11 ∧ yX11_judge.cls ≠ "java/lang/invoke/MethodHandle" ∧ yX11_judge.cls ≠ "java/lang/invoke/VarHandle" ∧ (parseMethodDescriptor yX11_judge.desc).map (fun d => d.parameters.length) = some 2 := by decide +kernel
theorem hdLX12_judge : yX12_judge.cls = RX12 ∧ yX12_judge.cls ≠ "java/lang/invoke/MethodHandle" ∧ yX12_judge.cls ≠ "java/lang/invoke/VarHandle" ∧ (parseMethodDescriptor yX12_judge.desc).map (fun d => d.parameters.length) = some 2 := by decide +kernel
theorem wd_983 : Cond.selects RX11 yX11_perform yX11_perform ∈ lw_tbl := mt_4 (List.mem_of_getElem? (i := 154) rfl)
theorem wd_984 : Cond.instanceMethod yX11_perform ∈ lw_tbl := mt_4 (List.mem_of_getElem? (i := 153) rfl)
theorem wd_985 : Cond.methodLink RL 76 yX11_perform ∈ lw_tbl := mt_4 (List.mem_of_getElem? (i := 152) rfl)
theorem wd_986 : Cond.code yX11_perform cX11_perform 6 (some .int) ∈ lw_tbl := mt_4 (List.mem_of_getElem? (i := 155) rfl)
theorem wd_987 : Cond.code yX11_trayRefusal cX11_trayRefusal 2 (some .int) ∈ lw_tbl := mt_4 (List.mem_of_getElem? (i := 159) rfl)
theorem wd_988 : Cond.selects RX11 yX11_trayRefusal yX11_trayRefusal ∈ lw_tbl := mp_2 (q := (⟨"OneOfEach", "trayRefusal", "(I)I"⟩, 16)) (List.mem_of_getElem? (i := 13) rfl)
theorem wd_989 : Cond.instanceMethod yX11_trayRefusal ∈ lw_tbl := mt_4 (List.mem_of_getElem? (i := 158) rfl)
theorem wd_990 : Cond.methodLink RX11 255 yX11_trayRefusal ∈ lw_tbl := mt_4 (List.mem_of_getElem? (i := 156) rfl)
set_option maxRecDepth 20000 in
theorem hl_wsX11_perform_r1 : ∀ w ∈ wsX11_perform_r1, w ∈ lw_tbl := by
  unfold wsX11_perform_r1
  exact (List.forall_mem_cons.mpr ⟨wd_929, (List.forall_mem_cons.mpr ⟨wd_90, (List.forall_mem_cons.mpr ⟨wd_84, (List.forall_mem_cons.mpr ⟨wd_740, (List.forall_mem_cons.mpr ⟨wd_85, (List.forall_mem_cons.mpr ⟨wd_336, (List.forall_mem_cons.mpr ⟨wd_990, (List.forall_mem_cons.mpr ⟨wd_989, (List.forall_mem_cons.mpr ⟨wd_988, (List.forall_mem_cons.mpr ⟨wd_0, (List.forall_mem_cons.mpr ⟨wd_987, (List.forall_mem_cons.mpr ⟨wd_926, (List.forall_mem_cons.mpr ⟨wd_925, (List.forall_mem_cons.mpr ⟨wd_924, (List.forall_mem_cons.mpr ⟨wd_923, (List.forall_mem_cons.mpr ⟨wd_922, (List.forall_mem_cons.mpr ⟨wd_921, (List.forall_mem_cons.mpr ⟨wd_920, (List.forall_mem_cons.mpr ⟨wd_919, (List.forall_mem_cons.mpr ⟨wd_918, (List.forall_mem_cons.mpr ⟨wd_346, (List.forall_mem_cons.mpr ⟨wd_345, (List.forall_mem_cons.mpr ⟨wd_344, (List.forall_mem_cons.mpr ⟨wd_102, (fun _ h => absurd h List.not_mem_nil)⟩)⟩)⟩)⟩)⟩)⟩)⟩)⟩)⟩)⟩)⟩)⟩)⟩)⟩)⟩)⟩)⟩)⟩)⟩)⟩)⟩)⟩)⟩)⟩)
set_option maxRecDepth 20000 in
theorem hl_wsX11_perform_r2 : ∀ w ∈ wsX11_perform_r2, w ∈ lw_tbl := by
  unfold wsX11_perform_r2
  exact (List.forall_mem_cons.mpr ⟨wd_343, (List.forall_mem_cons.mpr ⟨wd_100, (List.forall_mem_cons.mpr ⟨wd_342, (List.forall_mem_cons.mpr ⟨wd_341, (List.forall_mem_cons.mpr ⟨wd_99, (List.forall_mem_cons.mpr ⟨wd_98, (List.forall_mem_cons.mpr ⟨wd_97, (List.forall_mem_cons.mpr ⟨wd_96, (List.forall_mem_cons.mpr ⟨wd_95, (List.forall_mem_cons.mpr ⟨wd_94, (List.forall_mem_cons.mpr ⟨wd_940, (List.forall_mem_cons.mpr ⟨wd_939, (List.forall_mem_cons.mpr ⟨wd_938, (List.forall_mem_cons.mpr ⟨wd_937, (List.forall_mem_cons.mpr ⟨wd_936, (List.forall_mem_cons.mpr ⟨wd_134, (List.forall_mem_cons.mpr ⟨wd_133, (List.forall_mem_cons.mpr ⟨wd_132, (List.forall_mem_cons.mpr ⟨wd_935, (List.forall_mem_cons.mpr ⟨wd_934, (List.forall_mem_cons.mpr ⟨wd_933, (List.forall_mem_cons.mpr ⟨wd_932, (List.forall_mem_cons.mpr ⟨wd_931, (List.forall_mem_cons.mpr ⟨wd_930, (fun _ h => absurd h List.not_mem_nil)⟩)⟩)⟩)⟩)⟩)⟩)⟩)⟩)⟩)⟩)⟩)⟩)⟩)⟩)⟩)⟩)⟩)⟩)⟩)⟩)⟩)⟩)⟩)⟩)
set_option maxRecDepth 20000 in
theorem hl_wsX11_perform_r3 : ∀ w ∈ wsX11_perform_r3, w ∈ lw_tbl := by
  unfold wsX11_perform_r3
  exact (List.forall_mem_cons.mpr ⟨wd_943, (List.forall_mem_cons.mpr ⟨wd_942, (List.forall_mem_cons.mpr ⟨wd_941, (List.forall_mem_cons.mpr ⟨wd_851, (List.forall_mem_cons.mpr ⟨wd_850, (List.forall_mem_cons.mpr ⟨wd_849, (List.forall_mem_cons.mpr ⟨wd_736, (List.forall_mem_cons.mpr ⟨wd_874, (List.forall_mem_cons.mpr ⟨wd_873, (List.forall_mem_cons.mpr ⟨wd_872, (List.forall_mem_cons.mpr ⟨wd_871, (List.forall_mem_cons.mpr ⟨wd_870, (List.forall_mem_cons.mpr ⟨wd_869, (List.forall_mem_cons.mpr ⟨wd_868, (List.forall_mem_cons.mpr ⟨wd_867, (List.forall_mem_cons.mpr ⟨wd_866, (List.forall_mem_cons.mpr ⟨wd_865, (List.forall_mem_cons.mpr ⟨wd_864, (List.forall_mem_cons.mpr ⟨wd_114, (List.forall_mem_cons.mpr ⟨wd_863, (List.forall_mem_cons.mpr ⟨wd_112, (List.forall_mem_cons.mpr ⟨wd_862, (List.forall_mem_cons.mpr ⟨wd_861, (List.forall_mem_cons.mpr ⟨wd_860, (fun _ h => absurd h List.not_mem_nil)⟩)⟩)⟩)⟩)⟩)⟩)⟩)⟩)⟩)⟩)⟩)⟩)⟩)⟩)⟩)⟩)⟩)⟩)⟩)⟩)⟩)⟩)⟩)⟩)
set_option maxRecDepth 20000 in
theorem hl_wsX11_perform_r4 : ∀ w ∈ wsX11_perform_r4, w ∈ lw_tbl := by
  unfold wsX11_perform_r4
  exact (List.forall_mem_cons.mpr ⟨wd_859, (List.forall_mem_cons.mpr ⟨wd_858, (List.forall_mem_cons.mpr ⟨wd_857, (List.forall_mem_cons.mpr ⟨wd_856, (List.forall_mem_cons.mpr ⟨wd_855, (List.forall_mem_cons.mpr ⟨wd_854, (List.forall_mem_cons.mpr ⟨wd_853, (List.forall_mem_cons.mpr ⟨wd_875, (List.forall_mem_cons.mpr ⟨wd_738, (List.forall_mem_cons.mpr ⟨wd_737, (List.forall_mem_cons.mpr ⟨wd_735, (List.forall_mem_cons.mpr ⟨wd_734, (List.forall_mem_cons.mpr ⟨wd_754, (List.forall_mem_cons.mpr ⟨wd_753, (List.forall_mem_cons.mpr ⟨wd_752, (List.forall_mem_cons.mpr ⟨wd_751, (List.forall_mem_cons.mpr ⟨wd_750, (List.forall_mem_cons.mpr ⟨wd_749, (List.forall_mem_cons.mpr ⟨wd_748, (List.forall_mem_cons.mpr ⟨wd_747, (List.forall_mem_cons.mpr ⟨wd_746, (List.forall_mem_cons.mpr ⟨wd_745, (List.forall_mem_cons.mpr ⟨wd_744, (List.forall_mem_cons.mpr ⟨wd_743, (fun _ h => absurd h List.not_mem_nil)⟩)⟩)⟩)⟩)⟩)⟩)⟩)⟩)⟩)⟩)⟩)⟩)⟩)⟩)⟩)⟩)⟩)⟩)⟩)⟩)⟩)⟩)⟩)⟩)
set_option maxRecDepth 20000 in
theorem hl_wsX11_perform_r5 : ∀ w ∈ wsX11_perform_r5, w ∈ lw_tbl := by
  unfold wsX11_perform_r5
  exact (List.forall_mem_cons.mpr ⟨wd_742, (List.forall_mem_cons.mpr ⟨wd_741, (List.forall_mem_cons.mpr ⟨wd_543, (List.forall_mem_cons.mpr ⟨wd_542, (List.forall_mem_cons.mpr ⟨wd_362, (List.forall_mem_cons.mpr ⟨wd_541, (List.forall_mem_cons.mpr ⟨wd_540, (List.forall_mem_cons.mpr ⟨wd_578, (List.forall_mem_cons.mpr ⟨wd_577, (List.forall_mem_cons.mpr ⟨wd_360, (List.forall_mem_cons.mpr ⟨wd_576, (List.forall_mem_cons.mpr ⟨wd_575, (List.forall_mem_cons.mpr ⟨wd_574, (List.forall_mem_cons.mpr ⟨wd_573, (List.forall_mem_cons.mpr ⟨wd_755, (List.forall_mem_cons.mpr ⟨wd_571, (List.forall_mem_cons.mpr ⟨wd_570, (List.forall_mem_cons.mpr ⟨wd_569, (List.forall_mem_cons.mpr ⟨wd_568, (List.forall_mem_cons.mpr ⟨wd_567, (List.forall_mem_cons.mpr ⟨wd_566, (List.forall_mem_cons.mpr ⟨wd_565, (List.forall_mem_cons.mpr ⟨wd_564, (List.forall_mem_cons.mpr ⟨wd_563, (fun _ h => absurd h List.not_mem_nil)⟩)⟩)⟩)⟩)⟩)⟩)⟩)⟩)⟩)⟩)⟩)⟩)⟩)⟩)⟩)⟩)⟩)⟩)⟩)⟩)⟩)⟩)⟩)⟩)
set_option maxRecDepth 20000 in
theorem hl_wsX11_perform_r6 : ∀ w ∈ wsX11_perform_r6, w ∈ lw_tbl := by
  unfold wsX11_perform_r6
  exact (List.forall_mem_cons.mpr ⟨wd_562, (List.forall_mem_cons.mpr ⟨wd_561, (List.forall_mem_cons.mpr ⟨wd_560, (List.forall_mem_cons.mpr ⟨wd_559, (List.forall_mem_cons.mpr ⟨wd_602, (List.forall_mem_cons.mpr ⟨wd_601, (List.forall_mem_cons.mpr ⟨wd_600, (List.forall_mem_cons.mpr ⟨wd_599, (List.forall_mem_cons.mpr ⟨wd_598, (List.forall_mem_cons.mpr ⟨wd_597, (List.forall_mem_cons.mpr ⟨wd_596, (List.forall_mem_cons.mpr ⟨wd_595, (List.forall_mem_cons.mpr ⟨wd_594, (List.forall_mem_cons.mpr ⟨wd_593, (List.forall_mem_cons.mpr ⟨wd_592, (List.forall_mem_cons.mpr ⟨wd_591, (List.forall_mem_cons.mpr ⟨wd_590, (List.forall_mem_cons.mpr ⟨wd_589, (List.forall_mem_cons.mpr ⟨wd_588, (List.forall_mem_cons.mpr ⟨wd_587, (List.forall_mem_cons.mpr ⟨wd_586, (List.forall_mem_cons.mpr ⟨wd_585, (List.forall_mem_cons.mpr ⟨wd_584, (List.forall_mem_cons.mpr ⟨wd_583, (fun _ h => absurd h List.not_mem_nil)⟩)⟩)⟩)⟩)⟩)⟩)⟩)⟩)⟩)⟩)⟩)⟩)⟩)⟩)⟩)⟩)⟩)⟩)⟩)⟩)⟩)⟩)⟩)⟩)
set_option maxRecDepth 20000 in
theorem hl_wsX11_perform_r7 : ∀ w ∈ wsX11_perform_r7, w ∈ lw_tbl := by
  unfold wsX11_perform_r7
  exact (List.forall_mem_cons.mpr ⟨wd_582, (List.forall_mem_cons.mpr ⟨wd_581, (List.forall_mem_cons.mpr ⟨wd_580, (List.forall_mem_cons.mpr ⟨wd_579, (List.forall_mem_cons.mpr ⟨wd_608, (List.forall_mem_cons.mpr ⟨wd_607, (List.forall_mem_cons.mpr ⟨wd_606, (List.forall_mem_cons.mpr ⟨wd_605, (List.forall_mem_cons.mpr ⟨wd_604, (List.forall_mem_cons.mpr ⟨wd_603, (List.forall_mem_cons.mpr ⟨wd_878, (List.forall_mem_cons.mpr ⟨wd_785, (List.forall_mem_cons.mpr ⟨wd_784, (List.forall_mem_cons.mpr ⟨wd_783, (List.forall_mem_cons.mpr ⟨wd_782, (List.forall_mem_cons.mpr ⟨wd_781, (List.forall_mem_cons.mpr ⟨wd_789, (List.forall_mem_cons.mpr ⟨wd_788, (List.forall_mem_cons.mpr ⟨wd_787, (List.forall_mem_cons.mpr ⟨wd_877, (List.forall_mem_cons.mpr ⟨wd_804, (List.forall_mem_cons.mpr ⟨wd_803, (List.forall_mem_cons.mpr ⟨wd_802, (List.forall_mem_cons.mpr ⟨wd_876, (fun _ h => absurd h List.not_mem_nil)⟩)⟩)⟩)⟩)⟩)⟩)⟩)⟩)⟩)⟩)⟩)⟩)⟩)⟩)⟩)⟩)⟩)⟩)⟩)⟩)⟩)⟩)⟩)⟩)
set_option maxRecDepth 20000 in
theorem hl_wsX11_perform_r8 : ∀ w ∈ wsX11_perform_r8, w ∈ lw_tbl := by
  unfold wsX11_perform_r8
  exact (List.forall_mem_cons.mpr ⟨wd_835, (List.forall_mem_cons.mpr ⟨wd_834, (List.forall_mem_cons.mpr ⟨wd_833, (List.forall_mem_cons.mpr ⟨wd_715, (List.forall_mem_cons.mpr ⟨wd_714, (List.forall_mem_cons.mpr ⟨wd_713, (List.forall_mem_cons.mpr ⟨wd_368, (List.forall_mem_cons.mpr ⟨wd_712, (List.forall_mem_cons.mpr ⟨wd_711, (List.forall_mem_cons.mpr ⟨wd_710, (List.forall_mem_cons.mpr ⟨wd_366, (List.forall_mem_cons.mpr ⟨wd_709, (List.forall_mem_cons.mpr ⟨wd_191, (List.forall_mem_cons.mpr ⟨wd_190, (List.forall_mem_cons.mpr ⟨wd_708, (fun _ h => absurd h List.not_mem_nil)⟩)⟩)⟩)⟩)⟩)⟩)⟩)⟩)⟩)⟩)⟩)⟩)⟩)⟩)⟩)
set_option maxRecDepth 20000 in
theorem hl_wsX11_perform : ∀ w ∈ wsX11_perform, w ∈ lw_tbl := by
  unfold wsX11_perform
  exact (List.forall_mem_cons.mpr ⟨wd_986, (List.forall_mem_append.mpr ⟨(List.forall_mem_append.mpr ⟨(List.forall_mem_append.mpr ⟨(List.forall_mem_append.mpr ⟨(List.forall_mem_append.mpr ⟨(List.forall_mem_append.mpr ⟨(List.forall_mem_append.mpr ⟨(List.forall_mem_append.mpr ⟨hl_wsX11_perform_r1, (List.forall_mem_append.mpr ⟨hl_wsX11_perform_r2, (List.forall_mem_append.mpr ⟨hl_wsX11_perform_r3, (List.forall_mem_append.mpr ⟨hl_wsX11_perform_r4, (List.forall_mem_append.mpr ⟨hl_wsX11_perform_r5, (List.forall_mem_append.mpr ⟨hl_wsX11_perform_r6, (List.forall_mem_append.mpr ⟨hl_wsX11_perform_r7, hl_wsX11_perform_r8⟩)⟩)⟩)⟩)⟩)⟩)⟩), hl_wsX110⟩), hl_wsX100⟩), hl_wsX90⟩), hl_wsX70⟩), hl_wsX10⟩), hl_wsX40⟩), hl_wsX60⟩)⟩)
theorem wd_991 : Cond.selects RX12 yX12_perform yX12_perform ∈ lw_tbl := mt_7 (List.mem_of_getElem? (i := 188) rfl)
theorem wd_992 : Cond.instanceMethod yX12_perform ∈ lw_tbl := mt_7 (List.mem_of_getElem? (i := 187) rfl)
theorem wd_993 : Cond.methodLink RL 79 yX12_perform ∈ lw_tbl := mt_7 (List.mem_of_getElem? (i := 186) rfl)
theorem wd_994 : Cond.code yX12_perform cX12_perform 4 (some .int) ∈ lw_tbl := mt_7 (List.mem_of_getElem? (i := 189) rfl)
set_option maxRecDepth 20000 in
theorem hl_wsX12_perform_r1 : ∀ w ∈ wsX12_perform_r1, w ∈ lw_tbl := by
  unfold wsX12_perform_r1
  exact (List.forall_mem_cons.mpr ⟨wd_34, (List.forall_mem_cons.mpr ⟨wd_961, (List.forall_mem_cons.mpr ⟨wd_960, (List.forall_mem_cons.mpr ⟨wd_959, (List.forall_mem_cons.mpr ⟨wd_27, (List.forall_mem_cons.mpr ⟨wd_958, (List.forall_mem_cons.mpr ⟨wd_963, (List.forall_mem_cons.mpr ⟨wd_957, (List.forall_mem_cons.mpr ⟨wd_422, (List.forall_mem_cons.mpr ⟨wd_421, (List.forall_mem_cons.mpr ⟨wd_420, (List.forall_mem_cons.mpr ⟨wd_728, (List.forall_mem_cons.mpr ⟨wd_727, (List.forall_mem_cons.mpr ⟨wd_726, (List.forall_mem_cons.mpr ⟨wd_725, (List.forall_mem_cons.mpr ⟨wd_729, (List.forall_mem_cons.mpr ⟨wd_423, (List.forall_mem_cons.mpr ⟨wd_956, (List.forall_mem_cons.mpr ⟨wd_955, (List.forall_mem_cons.mpr ⟨wd_954, (List.forall_mem_cons.mpr ⟨wd_953, (List.forall_mem_cons.mpr ⟨wd_962, (List.forall_mem_cons.mpr ⟨wd_952, (List.forall_mem_cons.mpr ⟨wd_951, (fun _ h => absurd h List.not_mem_nil)⟩)⟩)⟩)⟩)⟩)⟩)⟩)⟩)⟩)⟩)⟩)⟩)⟩)⟩)⟩)⟩)⟩)⟩)⟩)⟩)⟩)⟩)⟩)⟩)
set_option maxRecDepth 20000 in
theorem hl_wsX12_perform_r2 : ∀ w ∈ wsX12_perform_r2, w ∈ lw_tbl := by
  unfold wsX12_perform_r2
  exact (List.forall_mem_cons.mpr ⟨wd_974, (List.forall_mem_cons.mpr ⟨wd_973, (List.forall_mem_cons.mpr ⟨wd_972, (List.forall_mem_cons.mpr ⟨wd_971, (List.forall_mem_cons.mpr ⟨wd_970, (List.forall_mem_cons.mpr ⟨wd_828, (List.forall_mem_cons.mpr ⟨wd_969, (List.forall_mem_cons.mpr ⟨wd_968, (List.forall_mem_cons.mpr ⟨wd_967, (List.forall_mem_cons.mpr ⟨wd_966, (List.forall_mem_cons.mpr ⟨wd_965, (List.forall_mem_cons.mpr ⟨wd_964, (List.forall_mem_cons.mpr ⟨wd_772, (List.forall_mem_cons.mpr ⟨wd_771, (List.forall_mem_cons.mpr ⟨wd_770, (List.forall_mem_cons.mpr ⟨wd_769, (List.forall_mem_cons.mpr ⟨wd_692, (List.forall_mem_cons.mpr ⟨wd_691, (List.forall_mem_cons.mpr ⟨wd_690, (List.forall_mem_cons.mpr ⟨wd_689, (List.forall_mem_cons.mpr ⟨wd_768, (List.forall_mem_cons.mpr ⟨wd_767, (List.forall_mem_cons.mpr ⟨wd_766, (List.forall_mem_cons.mpr ⟨wd_765, (fun _ h => absurd h List.not_mem_nil)⟩)⟩)⟩)⟩)⟩)⟩)⟩)⟩)⟩)⟩)⟩)⟩)⟩)⟩)⟩)⟩)⟩)⟩)⟩)⟩)⟩)⟩)⟩)⟩)
set_option maxRecDepth 20000 in
theorem hl_wsX12_perform_r3 : ∀ w ∈ wsX12_perform_r3, w ∈ lw_tbl := by
  unfold wsX12_perform_r3
  exact (List.forall_mem_cons.mpr ⟨wd_614, (List.forall_mem_cons.mpr ⟨wd_613, (List.forall_mem_cons.mpr ⟨wd_654, (List.forall_mem_cons.mpr ⟨wd_653, (List.forall_mem_cons.mpr ⟨wd_652, (List.forall_mem_cons.mpr ⟨wd_651, (List.forall_mem_cons.mpr ⟨wd_650, (List.forall_mem_cons.mpr ⟨wd_649, (List.forall_mem_cons.mpr ⟨wd_648, (List.forall_mem_cons.mpr ⟨wd_647, (List.forall_mem_cons.mpr ⟨wd_646, (List.forall_mem_cons.mpr ⟨wd_645, (List.forall_mem_cons.mpr ⟨wd_622, (List.forall_mem_cons.mpr ⟨wd_621, (List.forall_mem_cons.mpr ⟨wd_620, (List.forall_mem_cons.mpr ⟨wd_619, (List.forall_mem_cons.mpr ⟨wd_618, (List.forall_mem_cons.mpr ⟨wd_617, (List.forall_mem_cons.mpr ⟨wd_616, (List.forall_mem_cons.mpr ⟨wd_615, (List.forall_mem_cons.mpr ⟨wd_644, (List.forall_mem_cons.mpr ⟨wd_643, (List.forall_mem_cons.mpr ⟨wd_642, (List.forall_mem_cons.mpr ⟨wd_641, (fun _ h => absurd h List.not_mem_nil)⟩)⟩)⟩)⟩)⟩)⟩)⟩)⟩)⟩)⟩)⟩)⟩)⟩)⟩)⟩)⟩)⟩)⟩)⟩)⟩)⟩)⟩)⟩)⟩)
set_option maxRecDepth 20000 in
theorem hl_wsX12_perform_r4 : ∀ w ∈ wsX12_perform_r4, w ∈ lw_tbl := by
  unfold wsX12_perform_r4
  exact (List.forall_mem_cons.mpr ⟨wd_640, (List.forall_mem_cons.mpr ⟨wd_639, (List.forall_mem_cons.mpr ⟨wd_638, (List.forall_mem_cons.mpr ⟨wd_637, (List.forall_mem_cons.mpr ⟨wd_636, (List.forall_mem_cons.mpr ⟨wd_635, (List.forall_mem_cons.mpr ⟨wd_634, (List.forall_mem_cons.mpr ⟨wd_633, (List.forall_mem_cons.mpr ⟨wd_632, (List.forall_mem_cons.mpr ⟨wd_631, (List.forall_mem_cons.mpr ⟨wd_665, (List.forall_mem_cons.mpr ⟨wd_664, (List.forall_mem_cons.mpr ⟨wd_663, (List.forall_mem_cons.mpr ⟨wd_662, (List.forall_mem_cons.mpr ⟨wd_661, (List.forall_mem_cons.mpr ⟨wd_660, (List.forall_mem_cons.mpr ⟨wd_659, (List.forall_mem_cons.mpr ⟨wd_658, (List.forall_mem_cons.mpr ⟨wd_657, (List.forall_mem_cons.mpr ⟨wd_656, (List.forall_mem_cons.mpr ⟨wd_655, (List.forall_mem_cons.mpr ⟨wd_797, (List.forall_mem_cons.mpr ⟨wd_796, (List.forall_mem_cons.mpr ⟨wd_795, (fun _ h => absurd h List.not_mem_nil)⟩)⟩)⟩)⟩)⟩)⟩)⟩)⟩)⟩)⟩)⟩)⟩)⟩)⟩)⟩)⟩)⟩)⟩)⟩)⟩)⟩)⟩)⟩)⟩)
set_option maxRecDepth 20000 in
theorem hl_wsX12_perform_r5 : ∀ w ∈ wsX12_perform_r5, w ∈ lw_tbl := by
  unfold wsX12_perform_r5
  exact (List.forall_mem_cons.mpr ⟨wd_794, (List.forall_mem_cons.mpr ⟨wd_630, (List.forall_mem_cons.mpr ⟨wd_629, (List.forall_mem_cons.mpr ⟨wd_628, (List.forall_mem_cons.mpr ⟨wd_627, (List.forall_mem_cons.mpr ⟨wd_844, (List.forall_mem_cons.mpr ⟨wd_843, (List.forall_mem_cons.mpr ⟨wd_842, (List.forall_mem_cons.mpr ⟨wd_841, (List.forall_mem_cons.mpr ⟨wd_827, (List.forall_mem_cons.mpr ⟨wd_826, (List.forall_mem_cons.mpr ⟨wd_825, (List.forall_mem_cons.mpr ⟨wd_824, (List.forall_mem_cons.mpr ⟨wd_978, (List.forall_mem_cons.mpr ⟨wd_977, (List.forall_mem_cons.mpr ⟨wd_976, (List.forall_mem_cons.mpr ⟨wd_975, (List.forall_mem_cons.mpr ⟨wd_894, (List.forall_mem_cons.mpr ⟨wd_893, (List.forall_mem_cons.mpr ⟨wd_892, (List.forall_mem_cons.mpr ⟨wd_891, (List.forall_mem_cons.mpr ⟨wd_890, (List.forall_mem_cons.mpr ⟨wd_889, (List.forall_mem_cons.mpr ⟨wd_888, (fun _ h => absurd h List.not_mem_nil)⟩)⟩)⟩)⟩)⟩)⟩)⟩)⟩)⟩)⟩)⟩)⟩)⟩)⟩)⟩)⟩)⟩)⟩)⟩)⟩)⟩)⟩)⟩)⟩)
set_option maxRecDepth 20000 in
theorem hl_wsX12_perform_r6 : ∀ w ∈ wsX12_perform_r6, w ∈ lw_tbl := by
  unfold wsX12_perform_r6
  exact (List.forall_mem_cons.mpr ⟨wd_887, (List.forall_mem_cons.mpr ⟨wd_886, (List.forall_mem_cons.mpr ⟨wd_885, (List.forall_mem_cons.mpr ⟨wd_884, (List.forall_mem_cons.mpr ⟨wd_883, (List.forall_mem_cons.mpr ⟨wd_895, (List.forall_mem_cons.mpr ⟨wd_776, (List.forall_mem_cons.mpr ⟨wd_775, (List.forall_mem_cons.mpr ⟨wd_774, (List.forall_mem_cons.mpr ⟨wd_773, (List.forall_mem_cons.mpr ⟨wd_724, (List.forall_mem_cons.mpr ⟨wd_723, (List.forall_mem_cons.mpr ⟨wd_722, (List.forall_mem_cons.mpr ⟨wd_721, (fun _ h => absurd h List.not_mem_nil)⟩)⟩)⟩)⟩)⟩)⟩)⟩)⟩)⟩)⟩)⟩)⟩)⟩)⟩)
set_option maxRecDepth 20000 in
theorem hl_wsX12_perform : ∀ w ∈ wsX12_perform, w ∈ lw_tbl := by
  unfold wsX12_perform
  exact (List.forall_mem_cons.mpr ⟨wd_994, (List.forall_mem_append.mpr ⟨(List.forall_mem_append.mpr ⟨hl_wsX12_perform_r1, (List.forall_mem_append.mpr ⟨hl_wsX12_perform_r2, (List.forall_mem_append.mpr ⟨hl_wsX12_perform_r3, (List.forall_mem_append.mpr ⟨hl_wsX12_perform_r4, (List.forall_mem_append.mpr ⟨hl_wsX12_perform_r5, hl_wsX12_perform_r6⟩)⟩)⟩)⟩)⟩), hl_wsX120⟩)⟩)
def tL_perform : List Cond := (wsV RL 76 RX11 yX11_perform wsX11_perform) ++ (wsV RL 79 RX12 yX12_perform wsX12_perform)
theorem tL_perform_in : ∀ w ∈ tL_perform, w ∈ lw_tbl := by
  unfold tL_perform
  exact (List.forall_mem_append.mpr ⟨(List.forall_mem_append.mpr ⟨(List.forall_mem_cons.mpr ⟨wd_985, (List.forall_mem_cons.mpr ⟨wd_984, (List.forall_mem_cons.mpr ⟨wd_983, (List.forall_mem_cons.mpr ⟨wd_0, (fun _ h => absurd h List.not_mem_nil)⟩)⟩)⟩)⟩), hl_wsX11_perform⟩), (List.forall_mem_append.mpr ⟨(List.forall_mem_cons.mpr ⟨wd_993, (List.forall_mem_cons.mpr ⟨wd_992, (List.forall_mem_cons.mpr ⟨wd_991, (List.forall_mem_cons.mpr ⟨wd_27, (fun _ h => absurd h List.not_mem_nil)⟩)⟩)⟩)⟩), hl_wsX12_perform⟩)⟩)
set_option maxRecDepth 20000 in
theorem tL_perform_x : GoodIn tL_perform (wsV RL 76 RX11 yX11_perform wsX11_perform) := fun w h => ⟨List.mem_append_left _ h, good_of_word (List.all_eq_true.mp (show (wsV RL 76 RX11 yX11_perform wsX11_perform).all goodWord = true by decide +kernel) w h)⟩
set_option maxRecDepth 20000 in
theorem tL_perform_m : GoodIn tL_perform (wsV RL 79 RX12 yX12_perform wsX12_perform) := fun w h => ⟨List.mem_append_right _ h, good_of_word (List.all_eq_true.mp (show (wsV RL 79 RX12 yX12_perform wsX12_perform).all goodWord = true by decide +kernel) w h)⟩
theorem hdLX11_perform : yX11_perform.cls = RX11 ∧ yX11_perform.cls ≠ "java/lang/invoke/MethodHandle" ∧ yX11_perform.cls ≠ "java/lang/invoke/VarHandle" ∧ (parseMethodDescriptor yX11_perform.desc).map (fun d => d.parameters.length) = some 1 := by decide +kernel
theorem hdLX12_perform : yX12_perform.cls = RX12 ∧ yX12_perform.cls ≠ "java/lang/invoke/MethodHandle" ∧ yX12_perform.cls ≠ "java/lang/invoke/VarHandle" ∧ (parseMethodDescriptor yX12_perform.desc).map (fun d => d.parameters.length) = some 1 := by decide +kernel
theorem wd_995 : Cond.selects RX11 yX11_season yX11_season ∈ lw_tbl := mt_4 (List.mem_of_getElem? (i := 162) rfl)
theorem wd_996 : Cond.instanceMethod yX11_season ∈ lw_tbl := mt_4 (List.mem_of_getElem? (i := 161) rfl)
theorem wd_997 : Cond.methodLink RL 80 yX11_season ∈ lw_tbl := mt_4 (List.mem_of_getElem? (i := 160) rfl)
theorem wd_998 : Cond.code yX11_season cX11_season 5 (some .int) ∈ lw_tbl := mt_4 (List.mem_of_getElem? (i := 163) rfl)
theorem wd_999 : Cond.selects RX1 yX1_drawDeed yX1_drawDeed ∈ lw_tbl := mt_4 (List.mem_of_getElem? (i := 166) rfl)
theorem wd_1000 : Cond.instanceMethod yX1_drawDeed ∈ lw_tbl := mt_4 (List.mem_of_getElem? (i := 165) rfl)
theorem wd_1001 : Cond.methodLink RX11 258 yX1_drawDeed ∈ lw_tbl := mt_4 (List.mem_of_getElem? (i := 164) rfl)
set_option maxRecDepth 20000 in
theorem hl_wsX11_season_r1 : ∀ w ∈ wsX11_season_r1, w ∈ lw_tbl := by
  unfold wsX11_season_r1
  exact (List.forall_mem_cons.mpr ⟨wd_90, (List.forall_mem_cons.mpr ⟨wd_84, (List.forall_mem_cons.mpr ⟨wd_716, (List.forall_mem_cons.mpr ⟨wd_740, (List.forall_mem_cons.mpr ⟨wd_85, (List.forall_mem_cons.mpr ⟨wd_336, (List.forall_mem_cons.mpr ⟨wd_346, (List.forall_mem_cons.mpr ⟨wd_345, (List.forall_mem_cons.mpr ⟨wd_344, (List.forall_mem_cons.mpr ⟨wd_102, (List.forall_mem_cons.mpr ⟨wd_343, (List.forall_mem_cons.mpr ⟨wd_100, (List.forall_mem_cons.mpr ⟨wd_342, (List.forall_mem_cons.mpr ⟨wd_341, (List.forall_mem_cons.mpr ⟨wd_99, (List.forall_mem_cons.mpr ⟨wd_98, (List.forall_mem_cons.mpr ⟨wd_97, (List.forall_mem_cons.mpr ⟨wd_96, (List.forall_mem_cons.mpr ⟨wd_95, (List.forall_mem_cons.mpr ⟨wd_94, (List.forall_mem_cons.mpr ⟨wd_1001, (List.forall_mem_cons.mpr ⟨wd_1000, (List.forall_mem_cons.mpr ⟨wd_999, (List.forall_mem_cons.mpr ⟨wd_736, (fun _ h => absurd h List.not_mem_nil)⟩)⟩)⟩)⟩)⟩)⟩)⟩)⟩)⟩)⟩)⟩)⟩)⟩)⟩)⟩)⟩)⟩)⟩)⟩)⟩)⟩)⟩)⟩)⟩)
theorem wd_1002 : Cond.code yX1_drawDeed cX1_drawDeed 2 (some .int) ∈ lw_tbl := mt_4 (List.mem_of_getElem? (i := 167) rfl)
set_option maxRecDepth 20000 in
theorem hl_wsX11_season_r2 : ∀ w ∈ wsX11_season_r2, w ∈ lw_tbl := by
  unfold wsX11_season_r2
  exact (List.forall_mem_cons.mpr ⟨wd_1002, (List.forall_mem_cons.mpr ⟨wd_861, (List.forall_mem_cons.mpr ⟨wd_860, (List.forall_mem_cons.mpr ⟨wd_859, (List.forall_mem_cons.mpr ⟨wd_858, (List.forall_mem_cons.mpr ⟨wd_857, (List.forall_mem_cons.mpr ⟨wd_851, (List.forall_mem_cons.mpr ⟨wd_850, (List.forall_mem_cons.mpr ⟨wd_849, (List.forall_mem_cons.mpr ⟨wd_874, (List.forall_mem_cons.mpr ⟨wd_873, (List.forall_mem_cons.mpr ⟨wd_872, (List.forall_mem_cons.mpr ⟨wd_871, (List.forall_mem_cons.mpr ⟨wd_870, (List.forall_mem_cons.mpr ⟨wd_869, (List.forall_mem_cons.mpr ⟨wd_868, (List.forall_mem_cons.mpr ⟨wd_867, (List.forall_mem_cons.mpr ⟨wd_866, (List.forall_mem_cons.mpr ⟨wd_865, (List.forall_mem_cons.mpr ⟨wd_864, (List.forall_mem_cons.mpr ⟨wd_114, (List.forall_mem_cons.mpr ⟨wd_863, (List.forall_mem_cons.mpr ⟨wd_112, (List.forall_mem_cons.mpr ⟨wd_862, (fun _ h => absurd h List.not_mem_nil)⟩)⟩)⟩)⟩)⟩)⟩)⟩)⟩)⟩)⟩)⟩)⟩)⟩)⟩)⟩)⟩)⟩)⟩)⟩)⟩)⟩)⟩)⟩)⟩)
set_option maxRecDepth 20000 in
theorem hl_wsX11_season_r3 : ∀ w ∈ wsX11_season_r3, w ∈ lw_tbl := by
  unfold wsX11_season_r3
  exact (List.forall_mem_cons.mpr ⟨wd_856, (List.forall_mem_cons.mpr ⟨wd_855, (List.forall_mem_cons.mpr ⟨wd_854, (List.forall_mem_cons.mpr ⟨wd_853, (List.forall_mem_cons.mpr ⟨wd_875, (List.forall_mem_cons.mpr ⟨wd_738, (List.forall_mem_cons.mpr ⟨wd_737, (List.forall_mem_cons.mpr ⟨wd_735, (List.forall_mem_cons.mpr ⟨wd_734, (List.forall_mem_cons.mpr ⟨wd_754, (List.forall_mem_cons.mpr ⟨wd_753, (List.forall_mem_cons.mpr ⟨wd_752, (List.forall_mem_cons.mpr ⟨wd_751, (List.forall_mem_cons.mpr ⟨wd_750, (List.forall_mem_cons.mpr ⟨wd_749, (List.forall_mem_cons.mpr ⟨wd_748, (List.forall_mem_cons.mpr ⟨wd_747, (List.forall_mem_cons.mpr ⟨wd_746, (List.forall_mem_cons.mpr ⟨wd_745, (List.forall_mem_cons.mpr ⟨wd_744, (List.forall_mem_cons.mpr ⟨wd_743, (List.forall_mem_cons.mpr ⟨wd_742, (List.forall_mem_cons.mpr ⟨wd_741, (List.forall_mem_cons.mpr ⟨wd_543, (fun _ h => absurd h List.not_mem_nil)⟩)⟩)⟩)⟩)⟩)⟩)⟩)⟩)⟩)⟩)⟩)⟩)⟩)⟩)⟩)⟩)⟩)⟩)⟩)⟩)⟩)⟩)⟩)⟩)
set_option maxRecDepth 20000 in
theorem hl_wsX11_season_r4 : ∀ w ∈ wsX11_season_r4, w ∈ lw_tbl := by
  unfold wsX11_season_r4
  exact (List.forall_mem_cons.mpr ⟨wd_542, (List.forall_mem_cons.mpr ⟨wd_362, (List.forall_mem_cons.mpr ⟨wd_541, (List.forall_mem_cons.mpr ⟨wd_540, (List.forall_mem_cons.mpr ⟨wd_578, (List.forall_mem_cons.mpr ⟨wd_577, (List.forall_mem_cons.mpr ⟨wd_360, (List.forall_mem_cons.mpr ⟨wd_576, (List.forall_mem_cons.mpr ⟨wd_575, (List.forall_mem_cons.mpr ⟨wd_574, (List.forall_mem_cons.mpr ⟨wd_573, (List.forall_mem_cons.mpr ⟨wd_755, (List.forall_mem_cons.mpr ⟨wd_571, (List.forall_mem_cons.mpr ⟨wd_570, (List.forall_mem_cons.mpr ⟨wd_569, (List.forall_mem_cons.mpr ⟨wd_568, (List.forall_mem_cons.mpr ⟨wd_134, (List.forall_mem_cons.mpr ⟨wd_133, (List.forall_mem_cons.mpr ⟨wd_132, (List.forall_mem_cons.mpr ⟨wd_567, (List.forall_mem_cons.mpr ⟨wd_566, (List.forall_mem_cons.mpr ⟨wd_565, (List.forall_mem_cons.mpr ⟨wd_564, (List.forall_mem_cons.mpr ⟨wd_563, (fun _ h => absurd h List.not_mem_nil)⟩)⟩)⟩)⟩)⟩)⟩)⟩)⟩)⟩)⟩)⟩)⟩)⟩)⟩)⟩)⟩)⟩)⟩)⟩)⟩)⟩)⟩)⟩)⟩)
set_option maxRecDepth 20000 in
theorem hl_wsX11_season_r5 : ∀ w ∈ wsX11_season_r5, w ∈ lw_tbl := by
  unfold wsX11_season_r5
  exact (List.forall_mem_cons.mpr ⟨wd_562, (List.forall_mem_cons.mpr ⟨wd_561, (List.forall_mem_cons.mpr ⟨wd_560, (List.forall_mem_cons.mpr ⟨wd_559, (List.forall_mem_cons.mpr ⟨wd_602, (List.forall_mem_cons.mpr ⟨wd_601, (List.forall_mem_cons.mpr ⟨wd_600, (List.forall_mem_cons.mpr ⟨wd_599, (List.forall_mem_cons.mpr ⟨wd_598, (List.forall_mem_cons.mpr ⟨wd_597, (List.forall_mem_cons.mpr ⟨wd_596, (List.forall_mem_cons.mpr ⟨wd_595, (List.forall_mem_cons.mpr ⟨wd_594, (List.forall_mem_cons.mpr ⟨wd_593, (List.forall_mem_cons.mpr ⟨wd_592, (List.forall_mem_cons.mpr ⟨wd_591, (List.forall_mem_cons.mpr ⟨wd_590, (List.forall_mem_cons.mpr ⟨wd_589, (List.forall_mem_cons.mpr ⟨wd_588, (List.forall_mem_cons.mpr ⟨wd_587, (List.forall_mem_cons.mpr ⟨wd_586, (List.forall_mem_cons.mpr ⟨wd_585, (List.forall_mem_cons.mpr ⟨wd_584, (List.forall_mem_cons.mpr ⟨wd_583, (fun _ h => absurd h List.not_mem_nil)⟩)⟩)⟩)⟩)⟩)⟩)⟩)⟩)⟩)⟩)⟩)⟩)⟩)⟩)⟩)⟩)⟩)⟩)⟩)⟩)⟩)⟩)⟩)⟩)
set_option maxRecDepth 20000 in
theorem hl_wsX11_season_r6 : ∀ w ∈ wsX11_season_r6, w ∈ lw_tbl := by
  unfold wsX11_season_r6
  exact (List.forall_mem_cons.mpr ⟨wd_582, (List.forall_mem_cons.mpr ⟨wd_581, (List.forall_mem_cons.mpr ⟨wd_580, (List.forall_mem_cons.mpr ⟨wd_579, (List.forall_mem_cons.mpr ⟨wd_608, (List.forall_mem_cons.mpr ⟨wd_607, (List.forall_mem_cons.mpr ⟨wd_606, (List.forall_mem_cons.mpr ⟨wd_605, (List.forall_mem_cons.mpr ⟨wd_604, (List.forall_mem_cons.mpr ⟨wd_603, (List.forall_mem_cons.mpr ⟨wd_878, (List.forall_mem_cons.mpr ⟨wd_785, (List.forall_mem_cons.mpr ⟨wd_784, (List.forall_mem_cons.mpr ⟨wd_783, (List.forall_mem_cons.mpr ⟨wd_782, (List.forall_mem_cons.mpr ⟨wd_781, (List.forall_mem_cons.mpr ⟨wd_789, (List.forall_mem_cons.mpr ⟨wd_788, (List.forall_mem_cons.mpr ⟨wd_787, (List.forall_mem_cons.mpr ⟨wd_877, (List.forall_mem_cons.mpr ⟨wd_804, (List.forall_mem_cons.mpr ⟨wd_803, (List.forall_mem_cons.mpr ⟨wd_802, (List.forall_mem_cons.mpr ⟨wd_876, (fun _ h => absurd h List.not_mem_nil)⟩)⟩)⟩)⟩)⟩)⟩)⟩)⟩)⟩)⟩)⟩)⟩)⟩)⟩)⟩)⟩)⟩)⟩)⟩)⟩)⟩)⟩)⟩)⟩)
set_option maxRecDepth 20000 in
theorem hl_wsX11_season_r7 : ∀ w ∈ wsX11_season_r7, w ∈ lw_tbl := by
  unfold wsX11_season_r7
  exact (List.forall_mem_cons.mpr ⟨wd_835, (List.forall_mem_cons.mpr ⟨wd_834, (List.forall_mem_cons.mpr ⟨wd_833, (List.forall_mem_cons.mpr ⟨wd_715, (List.forall_mem_cons.mpr ⟨wd_714, (List.forall_mem_cons.mpr ⟨wd_713, (List.forall_mem_cons.mpr ⟨wd_368, (List.forall_mem_cons.mpr ⟨wd_712, (List.forall_mem_cons.mpr ⟨wd_711, (List.forall_mem_cons.mpr ⟨wd_710, (List.forall_mem_cons.mpr ⟨wd_366, (List.forall_mem_cons.mpr ⟨wd_709, (List.forall_mem_cons.mpr ⟨wd_191, (List.forall_mem_cons.mpr ⟨wd_190, (List.forall_mem_cons.mpr ⟨wd_708, (fun _ h => absurd h List.not_mem_nil)⟩)⟩)⟩)⟩)⟩)⟩)⟩)⟩)⟩)⟩)⟩)⟩)⟩)⟩)⟩)
set_option maxRecDepth 20000 in
theorem hl_wsX11_season : ∀ w ∈ wsX11_season, w ∈ lw_tbl := by
  unfold wsX11_season
  exact (List.forall_mem_cons.mpr ⟨wd_998, (List.forall_mem_append.mpr ⟨(List.forall_mem_append.mpr ⟨(List.forall_mem_append.mpr ⟨(List.forall_mem_append.mpr ⟨(List.forall_mem_append.mpr ⟨(List.forall_mem_append.mpr ⟨(List.forall_mem_append.mpr ⟨hl_wsX11_season_r1, (List.forall_mem_append.mpr ⟨hl_wsX11_season_r2, (List.forall_mem_append.mpr ⟨hl_wsX11_season_r3, (List.forall_mem_append.mpr ⟨hl_wsX11_season_r4, (List.forall_mem_append.mpr ⟨hl_wsX11_season_r5, (List.forall_mem_append.mpr ⟨hl_wsX11_season_r6, hl_wsX11_season_r7⟩)⟩)⟩)⟩)⟩)⟩), hl_wsX110⟩), hl_wsX90⟩), hl_wsX70⟩), hl_wsX10⟩), hl_wsX40⟩), hl_wsX60⟩)⟩)
theorem wd_1003 : Cond.selects RX12 yX12_season yX12_season ∈ lw_tbl := mt_7 (List.mem_of_getElem? (i := 192) rfl)
theorem wd_1004 : Cond.instanceMethod yX12_season ∈ lw_tbl := mt_7 (List.mem_of_getElem? (i := 191) rfl)
theorem wd_1005 : Cond.methodLink RL 83 yX12_season ∈ lw_tbl := mt_7 (List.mem_of_getElem? (i := 190) rfl)
theorem wd_1006 : Cond.code yX12_season cX12_season 6 (some .int) ∈ lw_tbl := mt_7 (List.mem_of_getElem? (i := 193) rfl)
theorem wd_1007 : Cond.code yX12_drawn cX12_drawn 2 (some .int) ∈ lw_tbl := mt_7 (List.mem_of_getElem? (i := 198) rfl)
theorem wd_1008 : Cond.selects RX12 yX12_drawn yX12_drawn ∈ lw_tbl := mp_7 (q := (⟨"OneOfEachModel", "drawn", "()I"⟩, 32)) (List.mem_of_getElem? (i := 2) rfl)
theorem wd_1009 : Cond.instanceMethod yX12_drawn ∈ lw_tbl := mt_7 (List.mem_of_getElem? (i := 197) rfl)
theorem wd_1010 : Cond.methodLink RX12 338 yX12_drawn ∈ lw_tbl := mt_7 (List.mem_of_getElem? (i := 195) rfl)
theorem wd_1011 : Cond.constantLong RX12 336 (40) ∈ lw_tbl := mt_7 (List.mem_of_getElem? (i := 194) rfl)
set_option maxRecDepth 20000 in
theorem hl_wsX12_season_r1 : ∀ w ∈ wsX12_season_r1, w ∈ lw_tbl := by
  unfold wsX12_season_r1
  exact (List.forall_mem_cons.mpr ⟨wd_34, (List.forall_mem_cons.mpr ⟨wd_1011, (List.forall_mem_cons.mpr ⟨wd_423, (List.forall_mem_cons.mpr ⟨wd_422, (List.forall_mem_cons.mpr ⟨wd_421, (List.forall_mem_cons.mpr ⟨wd_27, (List.forall_mem_cons.mpr ⟨wd_420, (List.forall_mem_cons.mpr ⟨wd_728, (List.forall_mem_cons.mpr ⟨wd_727, (List.forall_mem_cons.mpr ⟨wd_726, (List.forall_mem_cons.mpr ⟨wd_725, (List.forall_mem_cons.mpr ⟨wd_729, (List.forall_mem_cons.mpr ⟨wd_1010, (List.forall_mem_cons.mpr ⟨wd_1009, (List.forall_mem_cons.mpr ⟨wd_1008, (List.forall_mem_cons.mpr ⟨wd_1007, (List.forall_mem_cons.mpr ⟨wd_886, (List.forall_mem_cons.mpr ⟨wd_885, (List.forall_mem_cons.mpr ⟨wd_884, (List.forall_mem_cons.mpr ⟨wd_883, (List.forall_mem_cons.mpr ⟨wd_895, (List.forall_mem_cons.mpr ⟨wd_974, (List.forall_mem_cons.mpr ⟨wd_973, (List.forall_mem_cons.mpr ⟨wd_972, (fun _ h => absurd h List.not_mem_nil)⟩)⟩)⟩)⟩)⟩)⟩)⟩)⟩)⟩)⟩)⟩)⟩)⟩)⟩)⟩)⟩)⟩)⟩)⟩)⟩)⟩)⟩)⟩)⟩)
set_option maxRecDepth 20000 in
theorem hl_wsX12_season_r2 : ∀ w ∈ wsX12_season_r2, w ∈ lw_tbl := by
  unfold wsX12_season_r2
  exact (List.forall_mem_cons.mpr ⟨wd_971, (List.forall_mem_cons.mpr ⟨wd_970, (List.forall_mem_cons.mpr ⟨wd_828, (List.forall_mem_cons.mpr ⟨wd_969, (List.forall_mem_cons.mpr ⟨wd_968, (List.forall_mem_cons.mpr ⟨wd_967, (List.forall_mem_cons.mpr ⟨wd_966, (List.forall_mem_cons.mpr ⟨wd_965, (List.forall_mem_cons.mpr ⟨wd_964, (List.forall_mem_cons.mpr ⟨wd_772, (List.forall_mem_cons.mpr ⟨wd_771, (List.forall_mem_cons.mpr ⟨wd_770, (List.forall_mem_cons.mpr ⟨wd_769, (List.forall_mem_cons.mpr ⟨wd_692, (List.forall_mem_cons.mpr ⟨wd_691, (List.forall_mem_cons.mpr ⟨wd_690, (List.forall_mem_cons.mpr ⟨wd_689, (List.forall_mem_cons.mpr ⟨wd_768, (List.forall_mem_cons.mpr ⟨wd_767, (List.forall_mem_cons.mpr ⟨wd_766, (List.forall_mem_cons.mpr ⟨wd_765, (List.forall_mem_cons.mpr ⟨wd_614, (List.forall_mem_cons.mpr ⟨wd_613, (List.forall_mem_cons.mpr ⟨wd_654, (fun _ h => absurd h List.not_mem_nil)⟩)⟩)⟩)⟩)⟩)⟩)⟩)⟩)⟩)⟩)⟩)⟩)⟩)⟩)⟩)⟩)⟩)⟩)⟩)⟩)⟩)⟩)⟩)⟩)
set_option maxRecDepth 20000 in
theorem hl_wsX12_season_r3 : ∀ w ∈ wsX12_season_r3, w ∈ lw_tbl := by
  unfold wsX12_season_r3
  exact (List.forall_mem_cons.mpr ⟨wd_653, (List.forall_mem_cons.mpr ⟨wd_652, (List.forall_mem_cons.mpr ⟨wd_651, (List.forall_mem_cons.mpr ⟨wd_650, (List.forall_mem_cons.mpr ⟨wd_649, (List.forall_mem_cons.mpr ⟨wd_648, (List.forall_mem_cons.mpr ⟨wd_647, (List.forall_mem_cons.mpr ⟨wd_646, (List.forall_mem_cons.mpr ⟨wd_645, (List.forall_mem_cons.mpr ⟨wd_622, (List.forall_mem_cons.mpr ⟨wd_621, (List.forall_mem_cons.mpr ⟨wd_620, (List.forall_mem_cons.mpr ⟨wd_619, (List.forall_mem_cons.mpr ⟨wd_618, (List.forall_mem_cons.mpr ⟨wd_617, (List.forall_mem_cons.mpr ⟨wd_616, (List.forall_mem_cons.mpr ⟨wd_615, (List.forall_mem_cons.mpr ⟨wd_644, (List.forall_mem_cons.mpr ⟨wd_643, (List.forall_mem_cons.mpr ⟨wd_642, (List.forall_mem_cons.mpr ⟨wd_641, (List.forall_mem_cons.mpr ⟨wd_640, (List.forall_mem_cons.mpr ⟨wd_639, (List.forall_mem_cons.mpr ⟨wd_638, (fun _ h => absurd h List.not_mem_nil)⟩)⟩)⟩)⟩)⟩)⟩)⟩)⟩)⟩)⟩)⟩)⟩)⟩)⟩)⟩)⟩)⟩)⟩)⟩)⟩)⟩)⟩)⟩)⟩)
set_option maxRecDepth 20000 in
theorem hl_wsX12_season_r4 : ∀ w ∈ wsX12_season_r4, w ∈ lw_tbl := by
  unfold wsX12_season_r4
  exact (List.forall_mem_cons.mpr ⟨wd_637, (List.forall_mem_cons.mpr ⟨wd_636, (List.forall_mem_cons.mpr ⟨wd_635, (List.forall_mem_cons.mpr ⟨wd_634, (List.forall_mem_cons.mpr ⟨wd_633, (List.forall_mem_cons.mpr ⟨wd_632, (List.forall_mem_cons.mpr ⟨wd_631, (List.forall_mem_cons.mpr ⟨wd_665, (List.forall_mem_cons.mpr ⟨wd_664, (List.forall_mem_cons.mpr ⟨wd_663, (List.forall_mem_cons.mpr ⟨wd_662, (List.forall_mem_cons.mpr ⟨wd_661, (List.forall_mem_cons.mpr ⟨wd_660, (List.forall_mem_cons.mpr ⟨wd_659, (List.forall_mem_cons.mpr ⟨wd_658, (List.forall_mem_cons.mpr ⟨wd_657, (List.forall_mem_cons.mpr ⟨wd_656, (List.forall_mem_cons.mpr ⟨wd_655, (List.forall_mem_cons.mpr ⟨wd_797, (List.forall_mem_cons.mpr ⟨wd_796, (List.forall_mem_cons.mpr ⟨wd_795, (List.forall_mem_cons.mpr ⟨wd_794, (List.forall_mem_cons.mpr ⟨wd_630, (List.forall_mem_cons.mpr ⟨wd_629, (fun _ h => absurd h List.not_mem_nil)⟩)⟩)⟩)⟩)⟩)⟩)⟩)⟩)⟩)⟩)⟩)⟩)⟩)⟩)⟩)⟩)⟩)⟩)⟩)⟩)⟩)⟩)⟩)⟩)
set_option maxRecDepth 20000 in
theorem hl_wsX12_season_r5 : ∀ w ∈ wsX12_season_r5, w ∈ lw_tbl := by
  unfold wsX12_season_r5
  exact (List.forall_mem_cons.mpr ⟨wd_628, (List.forall_mem_cons.mpr ⟨wd_627, (List.forall_mem_cons.mpr ⟨wd_844, (List.forall_mem_cons.mpr ⟨wd_843, (List.forall_mem_cons.mpr ⟨wd_842, (List.forall_mem_cons.mpr ⟨wd_841, (List.forall_mem_cons.mpr ⟨wd_827, (List.forall_mem_cons.mpr ⟨wd_826, (List.forall_mem_cons.mpr ⟨wd_825, (List.forall_mem_cons.mpr ⟨wd_824, (List.forall_mem_cons.mpr ⟨wd_978, (List.forall_mem_cons.mpr ⟨wd_977, (List.forall_mem_cons.mpr ⟨wd_976, (List.forall_mem_cons.mpr ⟨wd_975, (List.forall_mem_cons.mpr ⟨wd_894, (List.forall_mem_cons.mpr ⟨wd_893, (List.forall_mem_cons.mpr ⟨wd_892, (List.forall_mem_cons.mpr ⟨wd_891, (List.forall_mem_cons.mpr ⟨wd_890, (List.forall_mem_cons.mpr ⟨wd_889, (List.forall_mem_cons.mpr ⟨wd_888, (List.forall_mem_cons.mpr ⟨wd_887, (List.forall_mem_cons.mpr ⟨wd_776, (List.forall_mem_cons.mpr ⟨wd_775, (fun _ h => absurd h List.not_mem_nil)⟩)⟩)⟩)⟩)⟩)⟩)⟩)⟩)⟩)⟩)⟩)⟩)⟩)⟩)⟩)⟩)⟩)⟩)⟩)⟩)⟩)⟩)⟩)⟩)
set_option maxRecDepth 20000 in
theorem hl_wsX12_season_r6 : ∀ w ∈ wsX12_season_r6, w ∈ lw_tbl := by
  unfold wsX12_season_r6
  exact (List.forall_mem_cons.mpr ⟨wd_774, (List.forall_mem_cons.mpr ⟨wd_773, (List.forall_mem_cons.mpr ⟨wd_724, (List.forall_mem_cons.mpr ⟨wd_723, (List.forall_mem_cons.mpr ⟨wd_722, (List.forall_mem_cons.mpr ⟨wd_721, (List.forall_mem_cons.mpr ⟨wd_982, (List.forall_mem_cons.mpr ⟨wd_981, (List.forall_mem_cons.mpr ⟨wd_980, (List.forall_mem_cons.mpr ⟨wd_979, (fun _ h => absurd h List.not_mem_nil)⟩)⟩)⟩)⟩)⟩)⟩)⟩)⟩)⟩)⟩)
set_option maxRecDepth 20000 in
theorem hl_wsX12_season : ∀ w ∈ wsX12_season, w ∈ lw_tbl := by
  unfold wsX12_season
  exact (List.forall_mem_cons.mpr ⟨wd_1006, (List.forall_mem_append.mpr ⟨(List.forall_mem_append.mpr ⟨hl_wsX12_season_r1, (List.forall_mem_append.mpr ⟨hl_wsX12_season_r2, (List.forall_mem_append.mpr ⟨hl_wsX12_season_r3, (List.forall_mem_append.mpr ⟨hl_wsX12_season_r4, (List.forall_mem_append.mpr ⟨hl_wsX12_season_r5, hl_wsX12_season_r6⟩)⟩)⟩)⟩)⟩), hl_wsX120⟩)⟩)
def tL_season : List Cond := (wsV RL 80 RX11 yX11_season wsX11_season) ++ (wsV RL 83 RX12 yX12_season wsX12_season)
theorem tL_season_in : ∀ w ∈ tL_season, w ∈ lw_tbl := by
  unfold tL_season
  exact (List.forall_mem_append.mpr ⟨(List.forall_mem_append.mpr ⟨(List.forall_mem_cons.mpr ⟨wd_997, (List.forall_mem_cons.mpr ⟨wd_996, (List.forall_mem_cons.mpr ⟨wd_995, (List.forall_mem_cons.mpr ⟨wd_0, (fun _ h => absurd h List.not_mem_nil)⟩)⟩)⟩)⟩), hl_wsX11_season⟩), (List.forall_mem_append.mpr ⟨(List.forall_mem_cons.mpr ⟨wd_1005, (List.forall_mem_cons.mpr ⟨wd_1004, (List.forall_mem_cons.mpr ⟨wd_1003, (List.forall_mem_cons.mpr ⟨wd_27, (fun _ h => absurd h List.not_mem_nil)⟩)⟩)⟩)⟩), hl_wsX12_season⟩)⟩)
set_option maxRecDepth 20000 in
theorem tL_season_x : GoodIn tL_season (wsV RL 80 RX11 yX11_season wsX11_season) := fun w h => ⟨List.mem_append_left _ h, good_of_word (List.all_eq_true.mp (show (wsV RL 80 RX11 yX11_season wsX11_season).all goodWord = true by decide +kernel) w h)⟩
set_option maxRecDepth 20000 in
theorem tL_season_m : GoodIn tL_season (wsV RL 83 RX12 yX12_season wsX12_season) := fun w h => ⟨List.mem_append_right _ h, good_of_word (List.all_eq_true.mp (show (wsV RL 83 RX12 yX12_season wsX12_season).all goodWord = true by decide +kernel) w h)⟩
theorem hdLX11_season : yX11_season.cls = RX11 ∧ yX11_season.cls ≠ "java/lang/invoke/MethodHandle" ∧ yX11_season.cls ≠ "java/lang/invoke/VarHandle" ∧ (parseMethodDescriptor yX11_season.desc).map (fun d => d.parameters.length) = some 2 := by decide +kernel
theorem hdLX12_season : yX12_season.cls = RX12 ∧ yX12_season.cls ≠ "java/lang/invoke/MethodHandle" ∧ yX12_season.cls ≠ "java/lang/invoke/VarHandle" ∧ (parseMethodDescriptor yX12_season.desc).map (fun d => d.parameters.length) = some 2 := by decide +kernel
theorem wd_1012 : Cond.selects RX11 yX11_ending yX11_ending ∈ lw_tbl := mt_4 (List.mem_of_getElem? (i := 170) rfl)
theorem wd_1013 : Cond.instanceMethod yX11_ending ∈ lw_tbl := mt_4 (List.mem_of_getElem? (i := 169) rfl)
theorem wd_1014 : Cond.methodLink RL 84 yX11_ending ∈ lw_tbl := mt_4 (List.mem_of_getElem? (i := 168) rfl)
theorem wd_1015 : Cond.code yX11_ending cX11_ending 1 (some .int) ∈ lw_tbl := mt_4 (List.mem_of_getElem? (i := 171) rfl)
theorem wd_1016 : Cond.methodLink RX5 60 yX9_everyKind ∈ lw_tbl := mt_4 (List.mem_of_getElem? (i := 180) rfl)
theorem wd_1017 : Cond.fieldLink RX5 48 "OneOfEach$Outlook" "minds" "LOneOfEach$Minds;" ∈ lw_tbl := mt_2 (List.mem_of_getElem? (i := 17) rfl)
theorem wd_1018 : Cond.fieldLink RX5 66 "OneOfEach$Stock" "sold" "I" ∈ lw_tbl := mt_1 (List.mem_of_getElem? (i := 120) rfl)
theorem wd_1019 : Cond.fieldLink RX5 42 "OneOfEach$Outlook" "onSale" "I" ∈ lw_tbl := mt_2 (List.mem_of_getElem? (i := 32) rfl)
theorem wd_1020 : Cond.fieldLink RX5 56 "OneOfEach$Outlook" "stock" "LOneOfEach$Stock;" ∈ lw_tbl := mt_2 (List.mem_of_getElem? (i := 30) rfl)
theorem wd_1021 : Cond.fieldLink RX5 52 "OneOfEach$Outlook" "plan" "LOneOfEach$Plan;" ∈ lw_tbl := mt_2 (List.mem_of_getElem? (i := 29) rfl)
theorem wd_1022 : Cond.code yX5_aim cX5_aim 4 none ∈ lw_tbl := mt_4 (List.mem_of_getElem? (i := 179) rfl)
theorem wd_1023 : Cond.selects RX5 yX5_aim yX5_aim ∈ lw_tbl := mp_2 (q := (⟨"OneOfEach$Outlook", "aim", "(LOneOfEach$Plan;LOneOfEach$Stock;I)V"⟩, 14)) (List.mem_of_getElem? (i := 14) rfl)
theorem wd_1024 : Cond.instanceMethod yX5_aim ∈ lw_tbl := mt_4 (List.mem_of_getElem? (i := 178) rfl)
theorem wd_1025 : Cond.methodLink RX5 75 yX5_aim ∈ lw_tbl := mt_4 (List.mem_of_getElem? (i := 176) rfl)
theorem wd_1026 : Cond.fieldLink RX5 38 "OneOfEach$Outlook" "every" "I" ∈ lw_tbl := mt_2 (List.mem_of_getElem? (i := 31) rfl)
theorem wd_1027 : Cond.fieldLink RX5 45 "OneOfEach$Outlook" "start" "I" ∈ lw_tbl := mt_2 (List.mem_of_getElem? (i := 33) rfl)
theorem wd_1028 : Cond.fieldLink RX5 15 "OneOfEach$Outlook" "met" "[I" ∈ lw_tbl := mt_2 (List.mem_of_getElem? (i := 19) rfl)
theorem wd_1029 : Cond.code yX5_look cX5_look 5 none ∈ lw_tbl := mt_4 (List.mem_of_getElem? (i := 175) rfl)
theorem wd_1030 : Cond.initialized RX5 ∈ lw_tbl := mt_1 (List.mem_of_getElem? (i := 8) rfl)
theorem wd_1031 : Cond.selects RX5 yX5_look yX5_look ∈ lw_tbl := mt_4 (List.mem_of_getElem? (i := 174) rfl)
theorem wd_1032 : Cond.instanceMethod yX5_look ∈ lw_tbl := mt_4 (List.mem_of_getElem? (i := 173) rfl)
theorem wd_1033 : Cond.methodLink RX11 262 yX5_look ∈ lw_tbl := mt_4 (List.mem_of_getElem? (i := 172) rfl)
theorem wd_1034 : Cond.fieldLink RX11 94 "OneOfEach" "outlook" "LOneOfEach$Outlook;" ∈ lw_tbl := mt_2 (List.mem_of_getElem? (i := 139) rfl)
set_option maxRecDepth 20000 in
theorem hl_wsX11_ending_r1 : ∀ w ∈ wsX11_ending_r1, w ∈ lw_tbl := by
  unfold wsX11_ending_r1
  exact (List.forall_mem_cons.mpr ⟨wd_1034, (List.forall_mem_cons.mpr ⟨wd_85, (List.forall_mem_cons.mpr ⟨wd_84, (List.forall_mem_cons.mpr ⟨wd_555, (List.forall_mem_cons.mpr ⟨wd_1033, (List.forall_mem_cons.mpr ⟨wd_1032, (List.forall_mem_cons.mpr ⟨wd_1031, (List.forall_mem_cons.mpr ⟨wd_1030, (List.forall_mem_cons.mpr ⟨wd_1029, (List.forall_mem_cons.mpr ⟨wd_1028, (List.forall_mem_cons.mpr ⟨wd_1027, (List.forall_mem_cons.mpr ⟨wd_1026, (List.forall_mem_cons.mpr ⟨wd_1025, (List.forall_mem_cons.mpr ⟨wd_1024, (List.forall_mem_cons.mpr ⟨wd_1023, (List.forall_mem_cons.mpr ⟨wd_1022, (List.forall_mem_cons.mpr ⟨wd_1021, (List.forall_mem_cons.mpr ⟨wd_1020, (List.forall_mem_cons.mpr ⟨wd_1019, (List.forall_mem_cons.mpr ⟨wd_1018, (List.forall_mem_cons.mpr ⟨wd_1017, (List.forall_mem_cons.mpr ⟨wd_1016, (List.forall_mem_cons.mpr ⟨wd_744, (List.forall_mem_cons.mpr ⟨wd_743, (fun _ h => absurd h List.not_mem_nil)⟩)⟩)⟩)⟩)⟩)⟩)⟩)⟩)⟩)⟩)⟩)⟩)⟩)⟩)⟩)⟩)⟩)⟩)⟩)⟩)⟩)⟩)⟩)⟩)
theorem wd_1035 : Cond.code yX5_meet cX5_meet 5 none ∈ lw_tbl := mt_4 (List.mem_of_getElem? (i := 186) rfl)
theorem wd_1036 : Cond.selects RX5 yX5_meet yX5_meet ∈ lw_tbl := mp_2 (q := (⟨"OneOfEach$Outlook", "meet", "(II)V"⟩, 14)) (List.mem_of_getElem? (i := 15) rfl)
theorem wd_1037 : Cond.instanceMethod yX5_meet ∈ lw_tbl := mt_4 (List.mem_of_getElem? (i := 185) rfl)
theorem wd_1038 : Cond.methodLink RX5 85 yX5_meet ∈ lw_tbl := mt_4 (List.mem_of_getElem? (i := 183) rfl)
theorem wd_1039 : Cond.methodLink RX5 79 yJ7_fill_53178 ∈ lw_tbl := mt_4 (List.mem_of_getElem? (i := 182) rfl)
theorem wd_1040 : Cond.methodLink RX5 69 yX4_tune ∈ lw_tbl := mt_4 (List.mem_of_getElem? (i := 181) rfl)
set_option maxRecDepth 20000 in
theorem hl_wsX11_ending_r2 : ∀ w ∈ wsX11_ending_r2, w ∈ lw_tbl := by
  unfold wsX11_ending_r2
  exact (List.forall_mem_cons.mpr ⟨wd_102, (List.forall_mem_cons.mpr ⟨wd_742, (List.forall_mem_cons.mpr ⟨wd_100, (List.forall_mem_cons.mpr ⟨wd_1040, (List.forall_mem_cons.mpr ⟨wd_543, (List.forall_mem_cons.mpr ⟨wd_542, (List.forall_mem_cons.mpr ⟨wd_362, (List.forall_mem_cons.mpr ⟨wd_541, (List.forall_mem_cons.mpr ⟨wd_540, (List.forall_mem_cons.mpr ⟨wd_578, (List.forall_mem_cons.mpr ⟨wd_577, (List.forall_mem_cons.mpr ⟨wd_360, (List.forall_mem_cons.mpr ⟨wd_576, (List.forall_mem_cons.mpr ⟨wd_575, (List.forall_mem_cons.mpr ⟨wd_574, (List.forall_mem_cons.mpr ⟨wd_573, (List.forall_mem_cons.mpr ⟨wd_1039, (List.forall_mem_cons.mpr ⟨wd_358, (List.forall_mem_cons.mpr ⟨wd_357, (List.forall_mem_cons.mpr ⟨wd_356, (List.forall_mem_cons.mpr ⟨wd_1038, (List.forall_mem_cons.mpr ⟨wd_1037, (List.forall_mem_cons.mpr ⟨wd_1036, (List.forall_mem_cons.mpr ⟨wd_1035, (fun _ h => absurd h List.not_mem_nil)⟩)⟩)⟩)⟩)⟩)⟩)⟩)⟩)⟩)⟩)⟩)⟩)⟩)⟩)⟩)⟩)⟩)⟩)⟩)⟩)⟩)⟩)⟩)⟩)
theorem wd_1041 : Cond.methodLink RX5 97 yX4_choice ∈ lw_tbl := mt_4 (List.mem_of_getElem? (i := 187) rfl)
theorem wd_1042 : Cond.fieldLink RX5 9 "OneOfEach$Outlook" "picks" "[I" ∈ lw_tbl := mt_2 (List.mem_of_getElem? (i := 18) rfl)
theorem wd_1043 : Cond.fieldLink RX5 92 "OneOfEach$Plan" "buyers" "I" ∈ lw_tbl := mt_1 (List.mem_of_getElem? (i := 38) rfl)
set_option maxRecDepth 20000 in
theorem hl_wsX11_ending_r3 : ∀ w ∈ wsX11_ending_r3, w ∈ lw_tbl := by
  unfold wsX11_ending_r3
  exact (List.forall_mem_cons.mpr ⟨wd_1043, (List.forall_mem_cons.mpr ⟨wd_1042, (List.forall_mem_cons.mpr ⟨wd_1041, (List.forall_mem_cons.mpr ⟨wd_571, (List.forall_mem_cons.mpr ⟨wd_570, (List.forall_mem_cons.mpr ⟨wd_569, (List.forall_mem_cons.mpr ⟨wd_568, (List.forall_mem_cons.mpr ⟨wd_134, (List.forall_mem_cons.mpr ⟨wd_133, (List.forall_mem_cons.mpr ⟨wd_132, (List.forall_mem_cons.mpr ⟨wd_567, (List.forall_mem_cons.mpr ⟨wd_566, (List.forall_mem_cons.mpr ⟨wd_565, (List.forall_mem_cons.mpr ⟨wd_564, (List.forall_mem_cons.mpr ⟨wd_563, (List.forall_mem_cons.mpr ⟨wd_562, (List.forall_mem_cons.mpr ⟨wd_561, (List.forall_mem_cons.mpr ⟨wd_560, (List.forall_mem_cons.mpr ⟨wd_559, (List.forall_mem_cons.mpr ⟨wd_602, (List.forall_mem_cons.mpr ⟨wd_601, (List.forall_mem_cons.mpr ⟨wd_600, (List.forall_mem_cons.mpr ⟨wd_599, (List.forall_mem_cons.mpr ⟨wd_598, (fun _ h => absurd h List.not_mem_nil)⟩)⟩)⟩)⟩)⟩)⟩)⟩)⟩)⟩)⟩)⟩)⟩)⟩)⟩)⟩)⟩)⟩)⟩)⟩)⟩)⟩)⟩)⟩)⟩)
set_option maxRecDepth 20000 in
theorem hl_wsX11_ending_r4 : ∀ w ∈ wsX11_ending_r4, w ∈ lw_tbl := by
  unfold wsX11_ending_r4
  exact (List.forall_mem_cons.mpr ⟨wd_597, (List.forall_mem_cons.mpr ⟨wd_596, (List.forall_mem_cons.mpr ⟨wd_595, (List.forall_mem_cons.mpr ⟨wd_594, (List.forall_mem_cons.mpr ⟨wd_593, (List.forall_mem_cons.mpr ⟨wd_592, (List.forall_mem_cons.mpr ⟨wd_591, (List.forall_mem_cons.mpr ⟨wd_590, (List.forall_mem_cons.mpr ⟨wd_589, (List.forall_mem_cons.mpr ⟨wd_588, (List.forall_mem_cons.mpr ⟨wd_587, (List.forall_mem_cons.mpr ⟨wd_586, (List.forall_mem_cons.mpr ⟨wd_585, (List.forall_mem_cons.mpr ⟨wd_584, (List.forall_mem_cons.mpr ⟨wd_583, (List.forall_mem_cons.mpr ⟨wd_582, (List.forall_mem_cons.mpr ⟨wd_581, (List.forall_mem_cons.mpr ⟨wd_580, (List.forall_mem_cons.mpr ⟨wd_579, (List.forall_mem_cons.mpr ⟨wd_608, (List.forall_mem_cons.mpr ⟨wd_607, (List.forall_mem_cons.mpr ⟨wd_606, (List.forall_mem_cons.mpr ⟨wd_605, (List.forall_mem_cons.mpr ⟨wd_604, (fun _ h => absurd h List.not_mem_nil)⟩)⟩)⟩)⟩)⟩)⟩)⟩)⟩)⟩)⟩)⟩)⟩)⟩)⟩)⟩)⟩)⟩)⟩)⟩)⟩)⟩)⟩)⟩)⟩)
theorem wd_1044 : Cond.code yX5_pick cX5_pick 4 (some .int) ∈ lw_tbl := mt_4 (List.mem_of_getElem? (i := 207) rfl)
theorem wd_1045 : Cond.selects RX5 yX5_pick yX5_pick ∈ lw_tbl := mt_4 (List.mem_of_getElem? (i := 206) rfl)
theorem wd_1046 : Cond.instanceMethod yX5_pick ∈ lw_tbl := mt_4 (List.mem_of_getElem? (i := 205) rfl)
theorem wd_1047 : Cond.methodLink RX5 101 yX5_pick ∈ lw_tbl := mt_4 (List.mem_of_getElem? (i := 204) rfl)
theorem wd_1048 : Cond.code yX5_stepsFrom cX5_stepsFrom 7 (some .int) ∈ lw_tbl := mt_4 (List.mem_of_getElem? (i := 203) rfl)
theorem wd_1049 : Cond.selects RX5 yX5_stepsFrom yX5_stepsFrom ∈ lw_tbl := mp_3 (q := (⟨"OneOfEach$Outlook", "stepsFrom", "(II)I"⟩, 14)) (List.mem_of_getElem? (i := 2) rfl)
theorem wd_1050 : Cond.instanceMethod yX5_stepsFrom ∈ lw_tbl := mt_4 (List.mem_of_getElem? (i := 202) rfl)
theorem wd_1051 : Cond.methodLink RX5 113 yX5_stepsFrom ∈ lw_tbl := mt_4 (List.mem_of_getElem? (i := 200) rfl)
theorem wd_1052 : Cond.code yX5_isShutAt cX5_isShutAt 2 (some .boolean) ∈ lw_tbl := mt_4 (List.mem_of_getElem? (i := 199) rfl)
theorem wd_1053 : Cond.selects RX5 yX5_isShutAt yX5_isShutAt ∈ lw_tbl := mp_3 (q := (⟨"OneOfEach$Outlook", "isShutAt", "(I)Z"⟩, 14)) (List.mem_of_getElem? (i := 1) rfl)
theorem wd_1054 : Cond.instanceMethod yX5_isShutAt ∈ lw_tbl := mt_4 (List.mem_of_getElem? (i := 198) rfl)
theorem wd_1055 : Cond.methodLink RX5 109 yX5_isShutAt ∈ lw_tbl := mt_4 (List.mem_of_getElem? (i := 196) rfl)
theorem wd_1056 : Cond.fieldLink RX5 18 "OneOfEach$Outlook" "far" "[I" ∈ lw_tbl := mt_2 (List.mem_of_getElem? (i := 20) rfl)
theorem wd_1057 : Cond.code yX5_measure cX5_measure 3 (some .int) ∈ lw_tbl := mt_4 (List.mem_of_getElem? (i := 195) rfl)
theorem wd_1058 : Cond.selects RX5 yX5_measure yX5_measure ∈ lw_tbl := mp_3 (q := (⟨"OneOfEach$Outlook", "measure", "(I)I"⟩, 14)) (List.mem_of_getElem? (i := 0) rfl)
theorem wd_1059 : Cond.instanceMethod yX5_measure ∈ lw_tbl := mt_4 (List.mem_of_getElem? (i := 194) rfl)
theorem wd_1060 : Cond.methodLink RX5 105 yX5_measure ∈ lw_tbl := mt_4 (List.mem_of_getElem? (i := 192) rfl)
theorem wd_1061 : Cond.code yX5_shortest cX5_shortest 1 (some .int) ∈ lw_tbl := mt_4 (List.mem_of_getElem? (i := 191) rfl)
theorem wd_1062 : Cond.selects RX5 yX5_shortest yX5_shortest ∈ lw_tbl := mt_4 (List.mem_of_getElem? (i := 190) rfl)
theorem wd_1063 : Cond.instanceMethod yX5_shortest ∈ lw_tbl := mt_4 (List.mem_of_getElem? (i := 189) rfl)
theorem wd_1064 : Cond.methodLink RX11 266 yX5_shortest ∈ lw_tbl := mt_4 (List.mem_of_getElem? (i := 188) rfl)
set_option maxRecDepth 20000 in
theorem hl_wsX11_ending_r5 : ∀ w ∈ wsX11_ending_r5, w ∈ lw_tbl := by
  unfold wsX11_ending_r5
  exact (List.forall_mem_cons.mpr ⟨wd_603, (List.forall_mem_cons.mpr ⟨wd_1064, (List.forall_mem_cons.mpr ⟨wd_1063, (List.forall_mem_cons.mpr ⟨wd_1062, (List.forall_mem_cons.mpr ⟨wd_1061, (List.forall_mem_cons.mpr ⟨wd_1060, (List.forall_mem_cons.mpr ⟨wd_1059, (List.forall_mem_cons.mpr ⟨wd_1058, (List.forall_mem_cons.mpr ⟨wd_1057, (List.forall_mem_cons.mpr ⟨wd_1056, (List.forall_mem_cons.mpr ⟨wd_1055, (List.forall_mem_cons.mpr ⟨wd_1054, (List.forall_mem_cons.mpr ⟨wd_1053, (List.forall_mem_cons.mpr ⟨wd_1052, (List.forall_mem_cons.mpr ⟨wd_1051, (List.forall_mem_cons.mpr ⟨wd_1050, (List.forall_mem_cons.mpr ⟨wd_1049, (List.forall_mem_cons.mpr ⟨wd_1048, (List.forall_mem_cons.mpr ⟨wd_1047, (List.forall_mem_cons.mpr ⟨wd_1046, (List.forall_mem_cons.mpr ⟨wd_1045, (List.forall_mem_cons.mpr ⟨wd_1044, (fun _ h => absurd h List.not_mem_nil)⟩)⟩)⟩)⟩)⟩)⟩)⟩)⟩)⟩)⟩)⟩)⟩)⟩)⟩)⟩)⟩)⟩)⟩)⟩)⟩)⟩)⟩)
theorem wd_1065 : u_lay RX5 TX5 13 ∈ lw_tbl := mt_2 (List.mem_of_getElem? (i := 60) rfl)
theorem wd_1066 : u_lay RX5 TX5 12 ∈ lw_tbl := mt_2 (List.mem_of_getElem? (i := 58) rfl)
theorem wd_1067 : u_lay RX5 TX5 11 ∈ lw_tbl := mt_2 (List.mem_of_getElem? (i := 56) rfl)
theorem wd_1068 : u_lay RX5 TX5 10 ∈ lw_tbl := mt_2 (List.mem_of_getElem? (i := 54) rfl)
theorem wd_1069 : u_lay RX5 TX5 9 ∈ lw_tbl := mt_2 (List.mem_of_getElem? (i := 52) rfl)
theorem wd_1070 : u_lay RX5 TX5 8 ∈ lw_tbl := mt_2 (List.mem_of_getElem? (i := 50) rfl)
theorem wd_1071 : u_lay RX5 TX5 7 ∈ lw_tbl := mt_2 (List.mem_of_getElem? (i := 48) rfl)
theorem wd_1072 : u_lay RX5 TX5 6 ∈ lw_tbl := mt_2 (List.mem_of_getElem? (i := 46) rfl)
theorem wd_1073 : u_lay RX5 TX5 5 ∈ lw_tbl := mt_2 (List.mem_of_getElem? (i := 44) rfl)
theorem wd_1074 : u_lay RX5 TX5 4 ∈ lw_tbl := mt_2 (List.mem_of_getElem? (i := 42) rfl)
theorem wd_1075 : u_lay RX5 TX5 3 ∈ lw_tbl := mt_2 (List.mem_of_getElem? (i := 40) rfl)
theorem wd_1076 : u_lay RX5 TX5 2 ∈ lw_tbl := mt_2 (List.mem_of_getElem? (i := 38) rfl)
theorem wd_1077 : u_lay RX5 TX5 1 ∈ lw_tbl := mt_2 (List.mem_of_getElem? (i := 36) rfl)
theorem wd_1078 : u_lay RX5 TX5 0 ∈ lw_tbl := mt_2 (List.mem_of_getElem? (i := 34) rfl)
set_option maxRecDepth 20000 in
theorem hl_wsX50 : ∀ w ∈ wsX50, w ∈ lw_tbl := show ∀ w ∈ [u_lay RX5 TX5 0, u_lay RX5 TX5 1, u_lay RX5 TX5 2, u_lay RX5 TX5 3, u_lay RX5 TX5 4, u_lay RX5 TX5 5, u_lay RX5 TX5 6, u_lay RX5 TX5 7, u_lay RX5 TX5 8, u_lay RX5 TX5 9, u_lay RX5 TX5 10, u_lay RX5 TX5 11, u_lay RX5 TX5 12, u_lay RX5 TX5 13], w ∈ lw_tbl from (List.forall_mem_cons.mpr ⟨wd_1078, (List.forall_mem_cons.mpr ⟨wd_1077, (List.forall_mem_cons.mpr ⟨wd_1076, (List.forall_mem_cons.mpr ⟨wd_1075, (List.forall_mem_cons.mpr ⟨wd_1074, (List.forall_mem_cons.mpr ⟨wd_1073, (List.forall_mem_cons.mpr ⟨wd_1072, (List.forall_mem_cons.mpr ⟨wd_1071, (List.forall_mem_cons.mpr ⟨wd_1070, (List.forall_mem_cons.mpr ⟨wd_1069, (List.forall_mem_cons.mpr ⟨wd_1068, (List.forall_mem_cons.mpr ⟨wd_1067, (List.forall_mem_cons.mpr ⟨wd_1066, (List.forall_mem_cons.mpr ⟨wd_1065, (fun _ h => absurd h List.not_mem_nil)⟩)⟩)⟩)⟩)⟩)⟩)⟩)⟩)⟩)⟩)⟩)⟩)⟩)⟩)
set_option maxRecDepth 20000 in
theorem hl_wsX11_ending : ∀ w ∈ wsX11_ending, w ∈ lw_tbl := by
  unfold wsX11_ending
  exact (List.forall_mem_cons.mpr ⟨wd_1015, (List.forall_mem_append.mpr ⟨(List.forall_mem_append.mpr ⟨(List.forall_mem_append.mpr ⟨(List.forall_mem_append.mpr ⟨(List.forall_mem_append.mpr ⟨(List.forall_mem_append.mpr ⟨hl_wsX11_ending_r1, (List.forall_mem_append.mpr ⟨hl_wsX11_ending_r2, (List.forall_mem_append.mpr ⟨hl_wsX11_ending_r3, (List.forall_mem_append.mpr ⟨hl_wsX11_ending_r4, hl_wsX11_ending_r5⟩)⟩)⟩)⟩), hl_wsX110⟩), hl_wsX90⟩), hl_wsX50⟩), hl_wsX40⟩), hl_wsX70⟩)⟩)
theorem wd_1079 : Cond.selects RX12 yX12_ending yX12_ending ∈ lw_tbl := mt_7 (List.mem_of_getElem? (i := 201) rfl)
theorem wd_1080 : Cond.instanceMethod yX12_ending ∈ lw_tbl := mt_7 (List.mem_of_getElem? (i := 200) rfl)
theorem wd_1081 : Cond.methodLink RL 88 yX12_ending ∈ lw_tbl := mt_7 (List.mem_of_getElem? (i := 199) rfl)
theorem wd_1082 : Cond.code yX12_ending cX12_ending 1 (some .int) ∈ lw_tbl := mt_7 (List.mem_of_getElem? (i := 202) rfl)
theorem wd_1083 : Cond.fieldLink RX12 39 "OneOfEachModel" "buysBy" "[I" ∈ lw_tbl := mt_6 (List.mem_of_getElem? (i := 47) rfl)
theorem wd_1084 : Cond.code yX12_laysBuys cX12_laysBuys 3 none ∈ lw_tbl := mt_7 (List.mem_of_getElem? (i := 210) rfl)
theorem wd_1085 : Cond.selects RX12 yX12_laysBuys yX12_laysBuys ∈ lw_tbl := mp_7 (q := (⟨"OneOfEachModel", "laysBuys", "()V"⟩, 32)) (List.mem_of_getElem? (i := 4) rfl)
theorem wd_1086 : Cond.instanceMethod yX12_laysBuys ∈ lw_tbl := mt_7 (List.mem_of_getElem? (i := 209) rfl)
theorem wd_1087 : Cond.methodLink RX12 345 yX12_laysBuys ∈ lw_tbl := mt_7 (List.mem_of_getElem? (i := 207) rfl)
theorem wd_1088 : Cond.code yX12_endingNow cX12_endingNow 1 (some .int) ∈ lw_tbl := mt_7 (List.mem_of_getElem? (i := 206) rfl)
theorem wd_1089 : Cond.selects RX12 yX12_endingNow yX12_endingNow ∈ lw_tbl := mp_7 (q := (⟨"OneOfEachModel", "endingNow", "()I"⟩, 32)) (List.mem_of_getElem? (i := 3) rfl)
theorem wd_1090 : Cond.instanceMethod yX12_endingNow ∈ lw_tbl := mt_7 (List.mem_of_getElem? (i := 205) rfl)
theorem wd_1091 : Cond.methodLink RX12 351 yX12_endingNow ∈ lw_tbl := mt_7 (List.mem_of_getElem? (i := 203) rfl)
set_option maxRecDepth 20000 in
theorem hl_wsX12_ending_r1 : ∀ w ∈ wsX12_ending_r1, w ∈ lw_tbl := by
  unfold wsX12_ending_r1
  exact (List.forall_mem_cons.mpr ⟨wd_34, (List.forall_mem_cons.mpr ⟨wd_1091, (List.forall_mem_cons.mpr ⟨wd_1090, (List.forall_mem_cons.mpr ⟨wd_1089, (List.forall_mem_cons.mpr ⟨wd_27, (List.forall_mem_cons.mpr ⟨wd_1088, (List.forall_mem_cons.mpr ⟨wd_1087, (List.forall_mem_cons.mpr ⟨wd_1086, (List.forall_mem_cons.mpr ⟨wd_1085, (List.forall_mem_cons.mpr ⟨wd_1084, (List.forall_mem_cons.mpr ⟨wd_423, (List.forall_mem_cons.mpr ⟨wd_1083, (List.forall_mem_cons.mpr ⟨wd_648, (List.forall_mem_cons.mpr ⟨wd_647, (List.forall_mem_cons.mpr ⟨wd_646, (List.forall_mem_cons.mpr ⟨wd_645, (List.forall_mem_cons.mpr ⟨wd_618, (List.forall_mem_cons.mpr ⟨wd_617, (List.forall_mem_cons.mpr ⟨wd_616, (List.forall_mem_cons.mpr ⟨wd_615, (List.forall_mem_cons.mpr ⟨wd_614, (List.forall_mem_cons.mpr ⟨wd_613, (List.forall_mem_cons.mpr ⟨wd_654, (List.forall_mem_cons.mpr ⟨wd_653, (fun _ h => absurd h List.not_mem_nil)⟩)⟩)⟩)⟩)⟩)⟩)⟩)⟩)⟩)⟩)⟩)⟩)⟩)⟩)⟩)⟩)⟩)⟩)⟩)⟩)⟩)⟩)⟩)⟩)
set_option maxRecDepth 20000 in
theorem hl_wsX12_ending_r2 : ∀ w ∈ wsX12_ending_r2, w ∈ lw_tbl := by
  unfold wsX12_ending_r2
  exact (List.forall_mem_cons.mpr ⟨wd_652, (List.forall_mem_cons.mpr ⟨wd_651, (List.forall_mem_cons.mpr ⟨wd_650, (List.forall_mem_cons.mpr ⟨wd_649, (List.forall_mem_cons.mpr ⟨wd_644, (List.forall_mem_cons.mpr ⟨wd_643, (List.forall_mem_cons.mpr ⟨wd_642, (List.forall_mem_cons.mpr ⟨wd_641, (List.forall_mem_cons.mpr ⟨wd_640, (List.forall_mem_cons.mpr ⟨wd_639, (List.forall_mem_cons.mpr ⟨wd_638, (List.forall_mem_cons.mpr ⟨wd_637, (List.forall_mem_cons.mpr ⟨wd_636, (List.forall_mem_cons.mpr ⟨wd_635, (List.forall_mem_cons.mpr ⟨wd_634, (List.forall_mem_cons.mpr ⟨wd_633, (List.forall_mem_cons.mpr ⟨wd_632, (List.forall_mem_cons.mpr ⟨wd_631, (List.forall_mem_cons.mpr ⟨wd_665, (List.forall_mem_cons.mpr ⟨wd_664, (List.forall_mem_cons.mpr ⟨wd_663, (List.forall_mem_cons.mpr ⟨wd_662, (List.forall_mem_cons.mpr ⟨wd_661, (List.forall_mem_cons.mpr ⟨wd_660, (fun _ h => absurd h List.not_mem_nil)⟩)⟩)⟩)⟩)⟩)⟩)⟩)⟩)⟩)⟩)⟩)⟩)⟩)⟩)⟩)⟩)⟩)⟩)⟩)⟩)⟩)⟩)⟩)⟩)
theorem wd_1092 : Cond.code yX12_boughtBy cX12_boughtBy 3 (some .int) ∈ lw_tbl := mt_7 (List.mem_of_getElem? (i := 219) rfl)
theorem wd_1093 : Cond.selects RX12 yX12_boughtBy yX12_boughtBy ∈ lw_tbl := mp_7 (q := (⟨"OneOfEachModel", "boughtBy", "(II)I"⟩, 32)) (List.mem_of_getElem? (i := 6) rfl)
theorem wd_1094 : Cond.instanceMethod yX12_boughtBy ∈ lw_tbl := mt_7 (List.mem_of_getElem? (i := 218) rfl)
theorem wd_1095 : Cond.methodLink RX12 342 yX12_boughtBy ∈ lw_tbl := mt_7 (List.mem_of_getElem? (i := 216) rfl)
theorem wd_1096 : Cond.fieldLink RX12 42 "OneOfEachModel" "still" "[I" ∈ lw_tbl := mt_6 (List.mem_of_getElem? (i := 48) rfl)
theorem wd_1097 : Cond.constant RX12 341 (268435456) ∈ lw_tbl := mt_7 (List.mem_of_getElem? (i := 215) rfl)
theorem wd_1098 : Cond.code yX12_laysEnding cX12_laysEnding 7 (some .int) ∈ lw_tbl := mt_7 (List.mem_of_getElem? (i := 214) rfl)
theorem wd_1099 : Cond.selects RX12 yX12_laysEnding yX12_laysEnding ∈ lw_tbl := mp_7 (q := (⟨"OneOfEachModel", "laysEnding", "(I)I"⟩, 32)) (List.mem_of_getElem? (i := 5) rfl)
theorem wd_1100 : Cond.instanceMethod yX12_laysEnding ∈ lw_tbl := mt_7 (List.mem_of_getElem? (i := 213) rfl)
theorem wd_1101 : Cond.methodLink RX12 348 yX12_laysEnding ∈ lw_tbl := mt_7 (List.mem_of_getElem? (i := 211) rfl)
set_option maxRecDepth 20000 in
theorem hl_wsX12_ending_r3 : ∀ w ∈ wsX12_ending_r3, w ∈ lw_tbl := by
  unfold wsX12_ending_r3
  exact (List.forall_mem_cons.mpr ⟨wd_659, (List.forall_mem_cons.mpr ⟨wd_658, (List.forall_mem_cons.mpr ⟨wd_657, (List.forall_mem_cons.mpr ⟨wd_656, (List.forall_mem_cons.mpr ⟨wd_655, (List.forall_mem_cons.mpr ⟨wd_1101, (List.forall_mem_cons.mpr ⟨wd_1100, (List.forall_mem_cons.mpr ⟨wd_1099, (List.forall_mem_cons.mpr ⟨wd_1098, (List.forall_mem_cons.mpr ⟨wd_1097, (List.forall_mem_cons.mpr ⟨wd_1096, (List.forall_mem_cons.mpr ⟨wd_1095, (List.forall_mem_cons.mpr ⟨wd_1094, (List.forall_mem_cons.mpr ⟨wd_1093, (List.forall_mem_cons.mpr ⟨wd_1092, (fun _ h => absurd h List.not_mem_nil)⟩)⟩)⟩)⟩)⟩)⟩)⟩)⟩)⟩)⟩)⟩)⟩)⟩)⟩)⟩)
set_option maxRecDepth 20000 in
theorem hl_wsX12_ending : ∀ w ∈ wsX12_ending, w ∈ lw_tbl := by
  unfold wsX12_ending
  exact (List.forall_mem_cons.mpr ⟨wd_1082, (List.forall_mem_append.mpr ⟨(List.forall_mem_append.mpr ⟨hl_wsX12_ending_r1, (List.forall_mem_append.mpr ⟨hl_wsX12_ending_r2, hl_wsX12_ending_r3⟩)⟩), hl_wsX120⟩)⟩)
def tL_ending : List Cond := (wsV RL 84 RX11 yX11_ending wsX11_ending) ++ (wsV RL 88 RX12 yX12_ending wsX12_ending)
theorem tL_ending_in : ∀ w ∈ tL_ending, w ∈ lw_tbl := by
  unfold tL_ending
  exact (List.forall_mem_append.mpr ⟨(List.forall_mem_append.mpr ⟨(List.forall_mem_cons.mpr ⟨wd_1014, (List.forall_mem_cons.mpr ⟨wd_1013, (List.forall_mem_cons.mpr ⟨wd_1012, (List.forall_mem_cons.mpr ⟨wd_0, (fun _ h => absurd h List.not_mem_nil)⟩)⟩)⟩)⟩), hl_wsX11_ending⟩), (List.forall_mem_append.mpr ⟨(List.forall_mem_cons.mpr ⟨wd_1081, (List.forall_mem_cons.mpr ⟨wd_1080, (List.forall_mem_cons.mpr ⟨wd_1079, (List.forall_mem_cons.mpr ⟨wd_27, (fun _ h => absurd h List.not_mem_nil)⟩)⟩)⟩)⟩), hl_wsX12_ending⟩)⟩)
set_option maxRecDepth 20000 in
theorem tL_ending_x : GoodIn tL_ending (wsV RL 84 RX11 yX11_ending wsX11_ending) := fun w h => ⟨List.mem_append_left _ h, good_of_word (List.all_eq_true.mp (show (wsV RL 84 RX11 yX11_ending wsX11_ending).all goodWord = true by decide +kernel) w h)⟩
set_option maxRecDepth 20000 in
theorem tL_ending_m : GoodIn tL_ending (wsV RL 88 RX12 yX12_ending wsX12_ending) := fun w h => ⟨List.mem_append_right _ h, good_of_word (List.all_eq_true.mp (show (wsV RL 88 RX12 yX12_ending wsX12_ending).all goodWord = true by decide +kernel) w h)⟩
theorem hdLX11_ending : yX11_ending.cls = RX11 ∧ yX11_ending.cls ≠ "java/lang/invoke/MethodHandle" ∧ yX11_ending.cls ≠ "java/lang/invoke/VarHandle" ∧ (parseMethodDescriptor yX11_ending.desc).map (fun d => d.parameters.length) = some 0 := by decide +kernel
theorem hdLX12_ending : yX12_ending.cls = RX12 ∧ yX12_ending.cls ≠ "java/lang/invoke/MethodHandle" ∧ yX12_ending.cls ≠ "java/lang/invoke/VarHandle" ∧ (parseMethodDescriptor yX12_ending.desc).map (fun d => d.parameters.length) = some 0 := by decide +kernel
theorem wd_1102 : Cond.selects RX11 yX11_endingBy yX11_endingBy ∈ lw_tbl := mt_4 (List.mem_of_getElem? (i := 210) rfl)
theorem wd_1103 : Cond.instanceMethod yX11_endingBy ∈ lw_tbl := mt_4 (List.mem_of_getElem? (i := 209) rfl)
theorem wd_1104 : Cond.methodLink RL 89 yX11_endingBy ∈ lw_tbl := mt_4 (List.mem_of_getElem? (i := 208) rfl)
theorem wd_1105 : Cond.code yX11_endingBy cX11_endingBy 2 (some .int) ∈ lw_tbl := mt_4 (List.mem_of_getElem? (i := 211) rfl)
set_option maxRecDepth 20000 in
theorem hl_wsX11_endingBy_r1 : ∀ w ∈ wsX11_endingBy_r1, w ∈ lw_tbl := by
  unfold wsX11_endingBy_r1
  exact (List.forall_mem_cons.mpr ⟨wd_1034, (List.forall_mem_cons.mpr ⟨wd_85, (List.forall_mem_cons.mpr ⟨wd_84, (List.forall_mem_cons.mpr ⟨wd_555, (List.forall_mem_cons.mpr ⟨wd_1033, (List.forall_mem_cons.mpr ⟨wd_1032, (List.forall_mem_cons.mpr ⟨wd_1031, (List.forall_mem_cons.mpr ⟨wd_1030, (List.forall_mem_cons.mpr ⟨wd_1029, (List.forall_mem_cons.mpr ⟨wd_1028, (List.forall_mem_cons.mpr ⟨wd_1027, (List.forall_mem_cons.mpr ⟨wd_1026, (List.forall_mem_cons.mpr ⟨wd_1025, (List.forall_mem_cons.mpr ⟨wd_1024, (List.forall_mem_cons.mpr ⟨wd_1023, (List.forall_mem_cons.mpr ⟨wd_1022, (List.forall_mem_cons.mpr ⟨wd_1021, (List.forall_mem_cons.mpr ⟨wd_1020, (List.forall_mem_cons.mpr ⟨wd_1019, (List.forall_mem_cons.mpr ⟨wd_1018, (List.forall_mem_cons.mpr ⟨wd_1017, (List.forall_mem_cons.mpr ⟨wd_1016, (List.forall_mem_cons.mpr ⟨wd_744, (List.forall_mem_cons.mpr ⟨wd_743, (fun _ h => absurd h List.not_mem_nil)⟩)⟩)⟩)⟩)⟩)⟩)⟩)⟩)⟩)⟩)⟩)⟩)⟩)⟩)⟩)⟩)⟩)⟩)⟩)⟩)⟩)⟩)⟩)⟩)
set_option maxRecDepth 20000 in
theorem hl_wsX11_endingBy_r2 : ∀ w ∈ wsX11_endingBy_r2, w ∈ lw_tbl := by
  unfold wsX11_endingBy_r2
  exact (List.forall_mem_cons.mpr ⟨wd_102, (List.forall_mem_cons.mpr ⟨wd_742, (List.forall_mem_cons.mpr ⟨wd_100, (List.forall_mem_cons.mpr ⟨wd_1040, (List.forall_mem_cons.mpr ⟨wd_543, (List.forall_mem_cons.mpr ⟨wd_542, (List.forall_mem_cons.mpr ⟨wd_362, (List.forall_mem_cons.mpr ⟨wd_541, (List.forall_mem_cons.mpr ⟨wd_540, (List.forall_mem_cons.mpr ⟨wd_578, (List.forall_mem_cons.mpr ⟨wd_577, (List.forall_mem_cons.mpr ⟨wd_360, (List.forall_mem_cons.mpr ⟨wd_576, (List.forall_mem_cons.mpr ⟨wd_575, (List.forall_mem_cons.mpr ⟨wd_574, (List.forall_mem_cons.mpr ⟨wd_573, (List.forall_mem_cons.mpr ⟨wd_1039, (List.forall_mem_cons.mpr ⟨wd_358, (List.forall_mem_cons.mpr ⟨wd_357, (List.forall_mem_cons.mpr ⟨wd_356, (List.forall_mem_cons.mpr ⟨wd_1038, (List.forall_mem_cons.mpr ⟨wd_1037, (List.forall_mem_cons.mpr ⟨wd_1036, (List.forall_mem_cons.mpr ⟨wd_1035, (fun _ h => absurd h List.not_mem_nil)⟩)⟩)⟩)⟩)⟩)⟩)⟩)⟩)⟩)⟩)⟩)⟩)⟩)⟩)⟩)⟩)⟩)⟩)⟩)⟩)⟩)⟩)⟩)⟩)
set_option maxRecDepth 20000 in
theorem hl_wsX11_endingBy_r3 : ∀ w ∈ wsX11_endingBy_r3, w ∈ lw_tbl := by
  unfold wsX11_endingBy_r3
  exact (List.forall_mem_cons.mpr ⟨wd_1043, (List.forall_mem_cons.mpr ⟨wd_1042, (List.forall_mem_cons.mpr ⟨wd_1041, (List.forall_mem_cons.mpr ⟨wd_571, (List.forall_mem_cons.mpr ⟨wd_570, (List.forall_mem_cons.mpr ⟨wd_569, (List.forall_mem_cons.mpr ⟨wd_568, (List.forall_mem_cons.mpr ⟨wd_134, (List.forall_mem_cons.mpr ⟨wd_133, (List.forall_mem_cons.mpr ⟨wd_132, (List.forall_mem_cons.mpr ⟨wd_567, (List.forall_mem_cons.mpr ⟨wd_566, (List.forall_mem_cons.mpr ⟨wd_565, (List.forall_mem_cons.mpr ⟨wd_564, (List.forall_mem_cons.mpr ⟨wd_563, (List.forall_mem_cons.mpr ⟨wd_562, (List.forall_mem_cons.mpr ⟨wd_561, (List.forall_mem_cons.mpr ⟨wd_560, (List.forall_mem_cons.mpr ⟨wd_559, (List.forall_mem_cons.mpr ⟨wd_602, (List.forall_mem_cons.mpr ⟨wd_601, (List.forall_mem_cons.mpr ⟨wd_600, (List.forall_mem_cons.mpr ⟨wd_599, (List.forall_mem_cons.mpr ⟨wd_598, (fun _ h => absurd h List.not_mem_nil)⟩)⟩)⟩)⟩)⟩)⟩)⟩)⟩)⟩)⟩)⟩)⟩)⟩)⟩)⟩)⟩)⟩)⟩)⟩)⟩)⟩)⟩)⟩)⟩)
set_option maxRecDepth 20000 in
theorem hl_wsX11_endingBy_r4 : ∀ w ∈ wsX11_endingBy_r4, w ∈ lw_tbl := by
  unfold wsX11_endingBy_r4
  exact (List.forall_mem_cons.mpr ⟨wd_597, (List.forall_mem_cons.mpr ⟨wd_596, (List.forall_mem_cons.mpr ⟨wd_595, (List.forall_mem_cons.mpr ⟨wd_594, (List.forall_mem_cons.mpr ⟨wd_593, (List.forall_mem_cons.mpr ⟨wd_592, (List.forall_mem_cons.mpr ⟨wd_591, (List.forall_mem_cons.mpr ⟨wd_590, (List.forall_mem_cons.mpr ⟨wd_589, (List.forall_mem_cons.mpr ⟨wd_588, (List.forall_mem_cons.mpr ⟨wd_587, (List.forall_mem_cons.mpr ⟨wd_586, (List.forall_mem_cons.mpr ⟨wd_585, (List.forall_mem_cons.mpr ⟨wd_584, (List.forall_mem_cons.mpr ⟨wd_583, (List.forall_mem_cons.mpr ⟨wd_582, (List.forall_mem_cons.mpr ⟨wd_581, (List.forall_mem_cons.mpr ⟨wd_580, (List.forall_mem_cons.mpr ⟨wd_579, (List.forall_mem_cons.mpr ⟨wd_608, (List.forall_mem_cons.mpr ⟨wd_607, (List.forall_mem_cons.mpr ⟨wd_606, (List.forall_mem_cons.mpr ⟨wd_605, (List.forall_mem_cons.mpr ⟨wd_604, (fun _ h => absurd h List.not_mem_nil)⟩)⟩)⟩)⟩)⟩)⟩)⟩)⟩)⟩)⟩)⟩)⟩)⟩)⟩)⟩)⟩)⟩)⟩)⟩)⟩)⟩)⟩)⟩)⟩)
theorem wd_1106 : Cond.instanceMethod yX5_comerAt ∈ lw_tbl := mt_4 (List.mem_of_getElem? (i := 213) rfl)
theorem wd_1107 : Cond.methodLink RX11 269 yX5_comerAt ∈ lw_tbl := mt_4 (List.mem_of_getElem? (i := 212) rfl)
set_option maxRecDepth 20000 in
theorem hl_wsX11_endingBy_r5 : ∀ w ∈ wsX11_endingBy_r5, w ∈ lw_tbl := by
  unfold wsX11_endingBy_r5
  exact (List.forall_mem_cons.mpr ⟨wd_603, (List.forall_mem_cons.mpr ⟨wd_1064, (List.forall_mem_cons.mpr ⟨wd_1063, (List.forall_mem_cons.mpr ⟨wd_1062, (List.forall_mem_cons.mpr ⟨wd_1061, (List.forall_mem_cons.mpr ⟨wd_1060, (List.forall_mem_cons.mpr ⟨wd_1059, (List.forall_mem_cons.mpr ⟨wd_1058, (List.forall_mem_cons.mpr ⟨wd_1057, (List.forall_mem_cons.mpr ⟨wd_1056, (List.forall_mem_cons.mpr ⟨wd_1055, (List.forall_mem_cons.mpr ⟨wd_1054, (List.forall_mem_cons.mpr ⟨wd_1053, (List.forall_mem_cons.mpr ⟨wd_1052, (List.forall_mem_cons.mpr ⟨wd_1051, (List.forall_mem_cons.mpr ⟨wd_1050, (List.forall_mem_cons.mpr ⟨wd_1049, (List.forall_mem_cons.mpr ⟨wd_1048, (List.forall_mem_cons.mpr ⟨wd_1047, (List.forall_mem_cons.mpr ⟨wd_1046, (List.forall_mem_cons.mpr ⟨wd_1045, (List.forall_mem_cons.mpr ⟨wd_1044, (List.forall_mem_cons.mpr ⟨wd_1107, (List.forall_mem_cons.mpr ⟨wd_1106, (fun _ h => absurd h List.not_mem_nil)⟩)⟩)⟩)⟩)⟩)⟩)⟩)⟩)⟩)⟩)⟩)⟩)⟩)⟩)⟩)⟩)⟩)⟩)⟩)⟩)⟩)⟩)⟩)⟩)
theorem wd_1108 : Cond.code yX5_nearestComer cX5_nearestComer 4 (some .int) ∈ lw_tbl := mt_4 (List.mem_of_getElem? (i := 219) rfl)
theorem wd_1109 : Cond.selects RX5 yX5_nearestComer yX5_nearestComer ∈ lw_tbl := mp_3 (q := (⟨"OneOfEach$Outlook", "nearestComer", "(I)I"⟩, 14)) (List.mem_of_getElem? (i := 3) rfl)
theorem wd_1110 : Cond.instanceMethod yX5_nearestComer ∈ lw_tbl := mt_4 (List.mem_of_getElem? (i := 218) rfl)
theorem wd_1111 : Cond.methodLink RX5 116 yX5_nearestComer ∈ lw_tbl := mt_4 (List.mem_of_getElem? (i := 216) rfl)
theorem wd_1112 : Cond.code yX5_comerAt cX5_comerAt 5 (some .int) ∈ lw_tbl := mt_4 (List.mem_of_getElem? (i := 215) rfl)
theorem wd_1113 : Cond.selects RX5 yX5_comerAt yX5_comerAt ∈ lw_tbl := mt_4 (List.mem_of_getElem? (i := 214) rfl)
set_option maxRecDepth 20000 in
theorem hl_wsX11_endingBy_r6 : ∀ w ∈ wsX11_endingBy_r6, w ∈ lw_tbl := by
  unfold wsX11_endingBy_r6
  exact (List.forall_mem_cons.mpr ⟨wd_1113, (List.forall_mem_cons.mpr ⟨wd_1112, (List.forall_mem_cons.mpr ⟨wd_1111, (List.forall_mem_cons.mpr ⟨wd_1110, (List.forall_mem_cons.mpr ⟨wd_1109, (List.forall_mem_cons.mpr ⟨wd_1108, (fun _ h => absurd h List.not_mem_nil)⟩)⟩)⟩)⟩)⟩)⟩)
set_option maxRecDepth 20000 in
theorem hl_wsX11_endingBy : ∀ w ∈ wsX11_endingBy, w ∈ lw_tbl := by
  unfold wsX11_endingBy
  exact (List.forall_mem_cons.mpr ⟨wd_1105, (List.forall_mem_append.mpr ⟨(List.forall_mem_append.mpr ⟨(List.forall_mem_append.mpr ⟨(List.forall_mem_append.mpr ⟨(List.forall_mem_append.mpr ⟨(List.forall_mem_append.mpr ⟨hl_wsX11_endingBy_r1, (List.forall_mem_append.mpr ⟨hl_wsX11_endingBy_r2, (List.forall_mem_append.mpr ⟨hl_wsX11_endingBy_r3, (List.forall_mem_append.mpr ⟨hl_wsX11_endingBy_r4, (List.forall_mem_append.mpr ⟨hl_wsX11_endingBy_r5, hl_wsX11_endingBy_r6⟩)⟩)⟩)⟩)⟩), hl_wsX110⟩), hl_wsX90⟩), hl_wsX50⟩), hl_wsX40⟩), hl_wsX70⟩)⟩)
theorem wd_1114 : Cond.selects RX12 yX12_endingBy yX12_endingBy ∈ lw_tbl := mt_7 (List.mem_of_getElem? (i := 222) rfl)
theorem wd_1115 : Cond.instanceMethod yX12_endingBy ∈ lw_tbl := mt_7 (List.mem_of_getElem? (i := 221) rfl)
theorem wd_1116 : Cond.methodLink RL 92 yX12_endingBy ∈ lw_tbl := mt_7 (List.mem_of_getElem? (i := 220) rfl)
theorem wd_1117 : Cond.code yX12_endingBy cX12_endingBy 3 (some .int) ∈ lw_tbl := mt_7 (List.mem_of_getElem? (i := 223) rfl)
theorem wd_1118 : Cond.code yX12_laysEndingRow cX12_laysEndingRow 5 (some .int) ∈ lw_tbl := mt_7 (List.mem_of_getElem? (i := 227) rfl)
theorem wd_1119 : Cond.selects RX12 yX12_laysEndingRow yX12_laysEndingRow ∈ lw_tbl := mp_7 (q := (⟨"OneOfEachModel", "laysEndingRow", "()I"⟩, 32)) (List.mem_of_getElem? (i := 7) rfl)
theorem wd_1120 : Cond.instanceMethod yX12_laysEndingRow ∈ lw_tbl := mt_7 (List.mem_of_getElem? (i := 226) rfl)
theorem wd_1121 : Cond.methodLink RX12 354 yX12_laysEndingRow ∈ lw_tbl := mt_7 (List.mem_of_getElem? (i := 224) rfl)
theorem wd_1122 : Cond.fieldLink RX12 45 "OneOfEachModel" "endingRow" "[I" ∈ lw_tbl := mt_6 (List.mem_of_getElem? (i := 49) rfl)
set_option maxRecDepth 20000 in
theorem hl_wsX12_endingBy_r1 : ∀ w ∈ wsX12_endingBy_r1, w ∈ lw_tbl := by
  unfold wsX12_endingBy_r1
  exact (List.forall_mem_cons.mpr ⟨wd_34, (List.forall_mem_cons.mpr ⟨wd_1122, (List.forall_mem_cons.mpr ⟨wd_1121, (List.forall_mem_cons.mpr ⟨wd_1120, (List.forall_mem_cons.mpr ⟨wd_1119, (List.forall_mem_cons.mpr ⟨wd_27, (List.forall_mem_cons.mpr ⟨wd_1118, (List.forall_mem_cons.mpr ⟨wd_423, (List.forall_mem_cons.mpr ⟨wd_1096, (List.forall_mem_cons.mpr ⟨wd_1091, (List.forall_mem_cons.mpr ⟨wd_1090, (List.forall_mem_cons.mpr ⟨wd_1089, (List.forall_mem_cons.mpr ⟨wd_1088, (List.forall_mem_cons.mpr ⟨wd_1087, (List.forall_mem_cons.mpr ⟨wd_1086, (List.forall_mem_cons.mpr ⟨wd_1085, (List.forall_mem_cons.mpr ⟨wd_1084, (List.forall_mem_cons.mpr ⟨wd_1083, (List.forall_mem_cons.mpr ⟨wd_648, (List.forall_mem_cons.mpr ⟨wd_647, (List.forall_mem_cons.mpr ⟨wd_646, (List.forall_mem_cons.mpr ⟨wd_645, (List.forall_mem_cons.mpr ⟨wd_618, (List.forall_mem_cons.mpr ⟨wd_617, (fun _ h => absurd h List.not_mem_nil)⟩)⟩)⟩)⟩)⟩)⟩)⟩)⟩)⟩)⟩)⟩)⟩)⟩)⟩)⟩)⟩)⟩)⟩)⟩)⟩)⟩)⟩)⟩)⟩)
set_option maxRecDepth 20000 in
theorem hl_wsX12_endingBy_r2 : ∀ w ∈ wsX12_endingBy_r2, w ∈ lw_tbl := by
  unfold wsX12_endingBy_r2
  exact (List.forall_mem_cons.mpr ⟨wd_616, (List.forall_mem_cons.mpr ⟨wd_615, (List.forall_mem_cons.mpr ⟨wd_614, (List.forall_mem_cons.mpr ⟨wd_613, (List.forall_mem_cons.mpr ⟨wd_654, (List.forall_mem_cons.mpr ⟨wd_653, (List.forall_mem_cons.mpr ⟨wd_652, (List.forall_mem_cons.mpr ⟨wd_651, (List.forall_mem_cons.mpr ⟨wd_650, (List.forall_mem_cons.mpr ⟨wd_649, (List.forall_mem_cons.mpr ⟨wd_644, (List.forall_mem_cons.mpr ⟨wd_643, (List.forall_mem_cons.mpr ⟨wd_642, (List.forall_mem_cons.mpr ⟨wd_641, (List.forall_mem_cons.mpr ⟨wd_640, (List.forall_mem_cons.mpr ⟨wd_639, (List.forall_mem_cons.mpr ⟨wd_638, (List.forall_mem_cons.mpr ⟨wd_637, (List.forall_mem_cons.mpr ⟨wd_636, (List.forall_mem_cons.mpr ⟨wd_635, (List.forall_mem_cons.mpr ⟨wd_634, (List.forall_mem_cons.mpr ⟨wd_633, (List.forall_mem_cons.mpr ⟨wd_632, (List.forall_mem_cons.mpr ⟨wd_631, (fun _ h => absurd h List.not_mem_nil)⟩)⟩)⟩)⟩)⟩)⟩)⟩)⟩)⟩)⟩)⟩)⟩)⟩)⟩)⟩)⟩)⟩)⟩)⟩)⟩)⟩)⟩)⟩)⟩)
set_option maxRecDepth 20000 in
theorem hl_wsX12_endingBy_r3 : ∀ w ∈ wsX12_endingBy_r3, w ∈ lw_tbl := by
  unfold wsX12_endingBy_r3
  exact (List.forall_mem_cons.mpr ⟨wd_665, (List.forall_mem_cons.mpr ⟨wd_664, (List.forall_mem_cons.mpr ⟨wd_663, (List.forall_mem_cons.mpr ⟨wd_662, (List.forall_mem_cons.mpr ⟨wd_661, (List.forall_mem_cons.mpr ⟨wd_660, (List.forall_mem_cons.mpr ⟨wd_659, (List.forall_mem_cons.mpr ⟨wd_658, (List.forall_mem_cons.mpr ⟨wd_657, (List.forall_mem_cons.mpr ⟨wd_656, (List.forall_mem_cons.mpr ⟨wd_655, (List.forall_mem_cons.mpr ⟨wd_1101, (List.forall_mem_cons.mpr ⟨wd_1100, (List.forall_mem_cons.mpr ⟨wd_1099, (List.forall_mem_cons.mpr ⟨wd_1098, (List.forall_mem_cons.mpr ⟨wd_1097, (List.forall_mem_cons.mpr ⟨wd_1095, (List.forall_mem_cons.mpr ⟨wd_1094, (List.forall_mem_cons.mpr ⟨wd_1093, (List.forall_mem_cons.mpr ⟨wd_1092, (fun _ h => absurd h List.not_mem_nil)⟩)⟩)⟩)⟩)⟩)⟩)⟩)⟩)⟩)⟩)⟩)⟩)⟩)⟩)⟩)⟩)⟩)⟩)⟩)⟩)
set_option maxRecDepth 20000 in
theorem hl_wsX12_endingBy : ∀ w ∈ wsX12_endingBy, w ∈ lw_tbl := by
  unfold wsX12_endingBy
  exact (List.forall_mem_cons.mpr ⟨wd_1117, (List.forall_mem_append.mpr ⟨(List.forall_mem_append.mpr ⟨hl_wsX12_endingBy_r1, (List.forall_mem_append.mpr ⟨hl_wsX12_endingBy_r2, hl_wsX12_endingBy_r3⟩)⟩), hl_wsX120⟩)⟩)
def tL_endingBy : List Cond := (wsV RL 89 RX11 yX11_endingBy wsX11_endingBy) ++ (wsV RL 92 RX12 yX12_endingBy wsX12_endingBy)
theorem tL_endingBy_in : ∀ w ∈ tL_endingBy, w ∈ lw_tbl := by
  unfold tL_endingBy
  exact (List.forall_mem_append.mpr ⟨(List.forall_mem_append.mpr ⟨(List.forall_mem_cons.mpr ⟨wd_1104, (List.forall_mem_cons.mpr ⟨wd_1103, (List.forall_mem_cons.mpr ⟨wd_1102, (List.forall_mem_cons.mpr ⟨wd_0, (fun _ h => absurd h List.not_mem_nil)⟩)⟩)⟩)⟩), hl_wsX11_endingBy⟩), (List.forall_mem_append.mpr ⟨(List.forall_mem_cons.mpr ⟨wd_1116, (List.forall_mem_cons.mpr ⟨wd_1115, (List.forall_mem_cons.mpr ⟨wd_1114, (List.forall_mem_cons.mpr ⟨wd_27, (fun _ h => absurd h List.not_mem_nil)⟩)⟩)⟩)⟩), hl_wsX12_endingBy⟩)⟩)
set_option maxRecDepth 20000 in
theorem tL_endingBy_x : GoodIn tL_endingBy (wsV RL 89 RX11 yX11_endingBy wsX11_endingBy) := fun w h => ⟨List.mem_append_left _ h, good_of_word (List.all_eq_true.mp (show (wsV RL 89 RX11 yX11_endingBy wsX11_endingBy).all goodWord = true by decide +kernel) w h)⟩
set_option maxRecDepth 20000 in
theorem tL_endingBy_m : GoodIn tL_endingBy (wsV RL 92 RX12 yX12_endingBy wsX12_endingBy) := fun w h => ⟨List.mem_append_right _ h, good_of_word (List.all_eq_true.mp (show (wsV RL 92 RX12 yX12_endingBy wsX12_endingBy).all goodWord = true by decide +kernel) w h)⟩
theorem hdLX11_endingBy : yX11_endingBy.cls = RX11 ∧ yX11_endingBy.cls ≠ "java/lang/invoke/MethodHandle" ∧ yX11_endingBy.cls ≠ "java/lang/invoke/VarHandle" ∧ (parseMethodDescriptor yX11_endingBy.desc).map (fun d => d.parameters.length) = some 1 := by decide +kernel
theorem hdLX12_endingBy : yX12_endingBy.cls = RX12 ∧ yX12_endingBy.cls ≠ "java/lang/invoke/MethodHandle" ∧ yX12_endingBy.cls ≠ "java/lang/invoke/VarHandle" ∧ (parseMethodDescriptor yX12_endingBy.desc).map (fun d => d.parameters.length) = some 1 := by decide +kernel
theorem wd_1123 : Cond.selects RX11 yX11_endings yX11_endings ∈ lw_tbl := mt_4 (List.mem_of_getElem? (i := 222) rfl)
theorem wd_1124 : Cond.instanceMethod yX11_endings ∈ lw_tbl := mt_4 (List.mem_of_getElem? (i := 221) rfl)
theorem wd_1125 : Cond.methodLink RL 93 yX11_endings ∈ lw_tbl := mt_4 (List.mem_of_getElem? (i := 220) rfl)
theorem wd_1126 : Cond.code yX11_endings cX11_endings 2 (some .long) ∈ lw_tbl := mt_4 (List.mem_of_getElem? (i := 223) rfl)
theorem wd_1127 : Cond.constantLong RX11 272 (-3) ∈ lw_tbl := mt_4 (List.mem_of_getElem? (i := 224) rfl)
set_option maxRecDepth 20000 in
theorem hl_wsX11_endings_r1 : ∀ w ∈ wsX11_endings_r1, w ∈ lw_tbl := by
  unfold wsX11_endings_r1
  exact (List.forall_mem_cons.mpr ⟨wd_1127, (List.forall_mem_cons.mpr ⟨wd_1034, (List.forall_mem_cons.mpr ⟨wd_85, (List.forall_mem_cons.mpr ⟨wd_84, (List.forall_mem_cons.mpr ⟨wd_555, (List.forall_mem_cons.mpr ⟨wd_1033, (List.forall_mem_cons.mpr ⟨wd_1032, (List.forall_mem_cons.mpr ⟨wd_1031, (List.forall_mem_cons.mpr ⟨wd_1030, (List.forall_mem_cons.mpr ⟨wd_1029, (List.forall_mem_cons.mpr ⟨wd_1028, (List.forall_mem_cons.mpr ⟨wd_1027, (List.forall_mem_cons.mpr ⟨wd_1026, (List.forall_mem_cons.mpr ⟨wd_1025, (List.forall_mem_cons.mpr ⟨wd_1024, (List.forall_mem_cons.mpr ⟨wd_1023, (List.forall_mem_cons.mpr ⟨wd_1022, (List.forall_mem_cons.mpr ⟨wd_1021, (List.forall_mem_cons.mpr ⟨wd_1020, (List.forall_mem_cons.mpr ⟨wd_1019, (List.forall_mem_cons.mpr ⟨wd_1018, (List.forall_mem_cons.mpr ⟨wd_1017, (List.forall_mem_cons.mpr ⟨wd_1016, (List.forall_mem_cons.mpr ⟨wd_744, (fun _ h => absurd h List.not_mem_nil)⟩)⟩)⟩)⟩)⟩)⟩)⟩)⟩)⟩)⟩)⟩)⟩)⟩)⟩)⟩)⟩)⟩)⟩)⟩)⟩)⟩)⟩)⟩)⟩)
set_option maxRecDepth 20000 in
theorem hl_wsX11_endings_r2 : ∀ w ∈ wsX11_endings_r2, w ∈ lw_tbl := by
  unfold wsX11_endings_r2
  exact (List.forall_mem_cons.mpr ⟨wd_743, (List.forall_mem_cons.mpr ⟨wd_102, (List.forall_mem_cons.mpr ⟨wd_742, (List.forall_mem_cons.mpr ⟨wd_100, (List.forall_mem_cons.mpr ⟨wd_1040, (List.forall_mem_cons.mpr ⟨wd_543, (List.forall_mem_cons.mpr ⟨wd_542, (List.forall_mem_cons.mpr ⟨wd_362, (List.forall_mem_cons.mpr ⟨wd_541, (List.forall_mem_cons.mpr ⟨wd_540, (List.forall_mem_cons.mpr ⟨wd_578, (List.forall_mem_cons.mpr ⟨wd_577, (List.forall_mem_cons.mpr ⟨wd_360, (List.forall_mem_cons.mpr ⟨wd_576, (List.forall_mem_cons.mpr ⟨wd_575, (List.forall_mem_cons.mpr ⟨wd_574, (List.forall_mem_cons.mpr ⟨wd_573, (List.forall_mem_cons.mpr ⟨wd_1039, (List.forall_mem_cons.mpr ⟨wd_358, (List.forall_mem_cons.mpr ⟨wd_357, (List.forall_mem_cons.mpr ⟨wd_356, (List.forall_mem_cons.mpr ⟨wd_1038, (List.forall_mem_cons.mpr ⟨wd_1037, (List.forall_mem_cons.mpr ⟨wd_1036, (fun _ h => absurd h List.not_mem_nil)⟩)⟩)⟩)⟩)⟩)⟩)⟩)⟩)⟩)⟩)⟩)⟩)⟩)⟩)⟩)⟩)⟩)⟩)⟩)⟩)⟩)⟩)⟩)⟩)
set_option maxRecDepth 20000 in
theorem hl_wsX11_endings_r3 : ∀ w ∈ wsX11_endings_r3, w ∈ lw_tbl := by
  unfold wsX11_endings_r3
  exact (List.forall_mem_cons.mpr ⟨wd_1035, (List.forall_mem_cons.mpr ⟨wd_1043, (List.forall_mem_cons.mpr ⟨wd_1042, (List.forall_mem_cons.mpr ⟨wd_1041, (List.forall_mem_cons.mpr ⟨wd_571, (List.forall_mem_cons.mpr ⟨wd_570, (List.forall_mem_cons.mpr ⟨wd_569, (List.forall_mem_cons.mpr ⟨wd_568, (List.forall_mem_cons.mpr ⟨wd_134, (List.forall_mem_cons.mpr ⟨wd_133, (List.forall_mem_cons.mpr ⟨wd_132, (List.forall_mem_cons.mpr ⟨wd_567, (List.forall_mem_cons.mpr ⟨wd_566, (List.forall_mem_cons.mpr ⟨wd_565, (List.forall_mem_cons.mpr ⟨wd_564, (List.forall_mem_cons.mpr ⟨wd_563, (List.forall_mem_cons.mpr ⟨wd_562, (List.forall_mem_cons.mpr ⟨wd_561, (List.forall_mem_cons.mpr ⟨wd_560, (List.forall_mem_cons.mpr ⟨wd_559, (List.forall_mem_cons.mpr ⟨wd_602, (List.forall_mem_cons.mpr ⟨wd_601, (List.forall_mem_cons.mpr ⟨wd_600, (List.forall_mem_cons.mpr ⟨wd_599, (fun _ h => absurd h List.not_mem_nil)⟩)⟩)⟩)⟩)⟩)⟩)⟩)⟩)⟩)⟩)⟩)⟩)⟩)⟩)⟩)⟩)⟩)⟩)⟩)⟩)⟩)⟩)⟩)⟩)
set_option maxRecDepth 20000 in
theorem hl_wsX11_endings_r4 : ∀ w ∈ wsX11_endings_r4, w ∈ lw_tbl := by
  unfold wsX11_endings_r4
  exact (List.forall_mem_cons.mpr ⟨wd_598, (List.forall_mem_cons.mpr ⟨wd_597, (List.forall_mem_cons.mpr ⟨wd_596, (List.forall_mem_cons.mpr ⟨wd_595, (List.forall_mem_cons.mpr ⟨wd_594, (List.forall_mem_cons.mpr ⟨wd_593, (List.forall_mem_cons.mpr ⟨wd_592, (List.forall_mem_cons.mpr ⟨wd_591, (List.forall_mem_cons.mpr ⟨wd_590, (List.forall_mem_cons.mpr ⟨wd_589, (List.forall_mem_cons.mpr ⟨wd_588, (List.forall_mem_cons.mpr ⟨wd_587, (List.forall_mem_cons.mpr ⟨wd_586, (List.forall_mem_cons.mpr ⟨wd_585, (List.forall_mem_cons.mpr ⟨wd_584, (List.forall_mem_cons.mpr ⟨wd_583, (List.forall_mem_cons.mpr ⟨wd_582, (List.forall_mem_cons.mpr ⟨wd_581, (List.forall_mem_cons.mpr ⟨wd_580, (List.forall_mem_cons.mpr ⟨wd_579, (List.forall_mem_cons.mpr ⟨wd_608, (List.forall_mem_cons.mpr ⟨wd_607, (List.forall_mem_cons.mpr ⟨wd_606, (List.forall_mem_cons.mpr ⟨wd_605, (fun _ h => absurd h List.not_mem_nil)⟩)⟩)⟩)⟩)⟩)⟩)⟩)⟩)⟩)⟩)⟩)⟩)⟩)⟩)⟩)⟩)⟩)⟩)⟩)⟩)⟩)⟩)⟩)⟩)
theorem wd_1128 : Cond.methodLink RX5 127 yX5_swapWays ∈ lw_tbl := mt_5 (List.mem_of_getElem? (i := 0) rfl)
theorem wd_1129 : Cond.fieldLink RX5 25 "OneOfEach$Outlook" "next" "[J" ∈ lw_tbl := mt_2 (List.mem_of_getElem? (i := 22) rfl)
theorem wd_1130 : Cond.code yX5_lengthenRows cX5_lengthenRows 5 none ∈ lw_tbl := mt_4 (List.mem_of_getElem? (i := 239) rfl)
theorem wd_1131 : Cond.selects RX5 yX5_lengthenRows yX5_lengthenRows ∈ lw_tbl := mt_4 (List.mem_of_getElem? (i := 238) rfl)
theorem wd_1132 : Cond.instanceMethod yX5_lengthenRows ∈ lw_tbl := mt_4 (List.mem_of_getElem? (i := 237) rfl)
theorem wd_1133 : Cond.methodLink RX5 133 yX5_lengthenRows ∈ lw_tbl := mt_4 (List.mem_of_getElem? (i := 236) rfl)
theorem wd_1134 : Cond.code yJ7_fill_d0a16 cJ7_fill_d0a16 5 none ∈ lw_tbl := mt_4 (List.mem_of_getElem? (i := 235) rfl)
theorem wd_1135 : Cond.static yJ7_fill_d0a16 ∈ lw_tbl := mt_4 (List.mem_of_getElem? (i := 234) rfl)
theorem wd_1136 : Cond.methodLink RX5 124 yJ7_fill_d0a16 ∈ lw_tbl := mt_4 (List.mem_of_getElem? (i := 233) rfl)
theorem wd_1137 : Cond.fieldLink RX5 21 "OneOfEach$Outlook" "ways" "[J" ∈ lw_tbl := mt_2 (List.mem_of_getElem? (i := 21) rfl)
theorem wd_1138 : Cond.code yX5_beginRows cX5_beginRows 1 none ∈ lw_tbl := mt_4 (List.mem_of_getElem? (i := 232) rfl)
theorem wd_1139 : Cond.selects RX5 yX5_beginRows yX5_beginRows ∈ lw_tbl := mt_4 (List.mem_of_getElem? (i := 231) rfl)
theorem wd_1140 : Cond.instanceMethod yX5_beginRows ∈ lw_tbl := mt_4 (List.mem_of_getElem? (i := 230) rfl)
theorem wd_1141 : Cond.methodLink RX5 130 yX5_beginRows ∈ lw_tbl := mt_4 (List.mem_of_getElem? (i := 229) rfl)
theorem wd_1142 : Cond.code yX5_rowsToShut cX5_rowsToShut 3 (some .long) ∈ lw_tbl := mt_4 (List.mem_of_getElem? (i := 228) rfl)
theorem wd_1143 : Cond.selects RX5 yX5_rowsToShut yX5_rowsToShut ∈ lw_tbl := mt_4 (List.mem_of_getElem? (i := 227) rfl)
theorem wd_1144 : Cond.instanceMethod yX5_rowsToShut ∈ lw_tbl := mt_4 (List.mem_of_getElem? (i := 226) rfl)
theorem wd_1145 : Cond.methodLink RX11 274 yX5_rowsToShut ∈ lw_tbl := mt_4 (List.mem_of_getElem? (i := 225) rfl)
set_option maxRecDepth 20000 in
theorem hl_wsX11_endings_r5 : ∀ w ∈ wsX11_endings_r5, w ∈ lw_tbl := by
  unfold wsX11_endings_r5
  exact (List.forall_mem_cons.mpr ⟨wd_604, (List.forall_mem_cons.mpr ⟨wd_603, (List.forall_mem_cons.mpr ⟨wd_1145, (List.forall_mem_cons.mpr ⟨wd_1144, (List.forall_mem_cons.mpr ⟨wd_1143, (List.forall_mem_cons.mpr ⟨wd_1142, (List.forall_mem_cons.mpr ⟨wd_1141, (List.forall_mem_cons.mpr ⟨wd_1140, (List.forall_mem_cons.mpr ⟨wd_1139, (List.forall_mem_cons.mpr ⟨wd_1138, (List.forall_mem_cons.mpr ⟨wd_1137, (List.forall_mem_cons.mpr ⟨wd_1136, (List.forall_mem_cons.mpr ⟨wd_1135, (List.forall_mem_cons.mpr ⟨wd_1134, (List.forall_mem_cons.mpr ⟨wd_1133, (List.forall_mem_cons.mpr ⟨wd_1132, (List.forall_mem_cons.mpr ⟨wd_1131, (List.forall_mem_cons.mpr ⟨wd_1130, (List.forall_mem_cons.mpr ⟨wd_1129, (List.forall_mem_cons.mpr ⟨wd_1047, (List.forall_mem_cons.mpr ⟨wd_1046, (List.forall_mem_cons.mpr ⟨wd_1045, (List.forall_mem_cons.mpr ⟨wd_1044, (List.forall_mem_cons.mpr ⟨wd_1128, (fun _ h => absurd h List.not_mem_nil)⟩)⟩)⟩)⟩)⟩)⟩)⟩)⟩)⟩)⟩)⟩)⟩)⟩)⟩)⟩)⟩)⟩)⟩)⟩)⟩)⟩)⟩)⟩)⟩)
theorem wd_1146 : Cond.code yX5_openWays cX5_openWays 4 (some .long) ∈ lw_tbl := mt_5 (List.mem_of_getElem? (i := 11) rfl)
theorem wd_1147 : Cond.selects RX5 yX5_openWays yX5_openWays ∈ lw_tbl := mt_5 (List.mem_of_getElem? (i := 10) rfl)
theorem wd_1148 : Cond.instanceMethod yX5_openWays ∈ lw_tbl := mt_5 (List.mem_of_getElem? (i := 9) rfl)
theorem wd_1149 : Cond.methodLink RX5 141 yX5_openWays ∈ lw_tbl := mt_5 (List.mem_of_getElem? (i := 8) rfl)
theorem wd_1150 : Cond.code yX5_allWays cX5_allWays 4 (some .long) ∈ lw_tbl := mt_5 (List.mem_of_getElem? (i := 7) rfl)
theorem wd_1151 : Cond.selects RX5 yX5_allWays yX5_allWays ∈ lw_tbl := mt_5 (List.mem_of_getElem? (i := 6) rfl)
theorem wd_1152 : Cond.instanceMethod yX5_allWays ∈ lw_tbl := mt_5 (List.mem_of_getElem? (i := 5) rfl)
theorem wd_1153 : Cond.methodLink RX5 137 yX5_allWays ∈ lw_tbl := mt_5 (List.mem_of_getElem? (i := 4) rfl)
theorem wd_1154 : Cond.code yX5_swapWays cX5_swapWays 2 none ∈ lw_tbl := mt_5 (List.mem_of_getElem? (i := 3) rfl)
theorem wd_1155 : Cond.selects RX5 yX5_swapWays yX5_swapWays ∈ lw_tbl := mp_3 (q := (⟨"OneOfEach$Outlook", "swapWays", "()V"⟩, 14)) (List.mem_of_getElem? (i := 4) rfl)
theorem wd_1156 : Cond.instanceMethod yX5_swapWays ∈ lw_tbl := mt_5 (List.mem_of_getElem? (i := 2) rfl)
set_option maxRecDepth 20000 in
theorem hl_wsX11_endings_r6 : ∀ w ∈ wsX11_endings_r6, w ∈ lw_tbl := by
  unfold wsX11_endings_r6
  exact (List.forall_mem_cons.mpr ⟨wd_1156, (List.forall_mem_cons.mpr ⟨wd_1155, (List.forall_mem_cons.mpr ⟨wd_1154, (List.forall_mem_cons.mpr ⟨wd_1153, (List.forall_mem_cons.mpr ⟨wd_1152, (List.forall_mem_cons.mpr ⟨wd_1151, (List.forall_mem_cons.mpr ⟨wd_1150, (List.forall_mem_cons.mpr ⟨wd_1149, (List.forall_mem_cons.mpr ⟨wd_1148, (List.forall_mem_cons.mpr ⟨wd_1147, (List.forall_mem_cons.mpr ⟨wd_1146, (List.forall_mem_cons.mpr ⟨wd_1055, (List.forall_mem_cons.mpr ⟨wd_1054, (List.forall_mem_cons.mpr ⟨wd_1053, (List.forall_mem_cons.mpr ⟨wd_1052, (fun _ h => absurd h List.not_mem_nil)⟩)⟩)⟩)⟩)⟩)⟩)⟩)⟩)⟩)⟩)⟩)⟩)⟩)⟩)⟩)
set_option maxRecDepth 20000 in
theorem hl_wsX11_endings : ∀ w ∈ wsX11_endings, w ∈ lw_tbl := by
  unfold wsX11_endings
  exact (List.forall_mem_cons.mpr ⟨wd_1126, (List.forall_mem_append.mpr ⟨(List.forall_mem_append.mpr ⟨(List.forall_mem_append.mpr ⟨(List.forall_mem_append.mpr ⟨(List.forall_mem_append.mpr ⟨(List.forall_mem_append.mpr ⟨hl_wsX11_endings_r1, (List.forall_mem_append.mpr ⟨hl_wsX11_endings_r2, (List.forall_mem_append.mpr ⟨hl_wsX11_endings_r3, (List.forall_mem_append.mpr ⟨hl_wsX11_endings_r4, (List.forall_mem_append.mpr ⟨hl_wsX11_endings_r5, hl_wsX11_endings_r6⟩)⟩)⟩)⟩)⟩), hl_wsX110⟩), hl_wsX90⟩), hl_wsX50⟩), hl_wsX40⟩), hl_wsX70⟩)⟩)
theorem wd_1157 : Cond.selects RX12 yX12_endings yX12_endings ∈ lw_tbl := mt_7 (List.mem_of_getElem? (i := 230) rfl)
theorem wd_1158 : Cond.instanceMethod yX12_endings ∈ lw_tbl := mt_7 (List.mem_of_getElem? (i := 229) rfl)
theorem wd_1159 : Cond.methodLink RL 97 yX12_endings ∈ lw_tbl := mt_7 (List.mem_of_getElem? (i := 228) rfl)
theorem wd_1160 : Cond.code yX12_endings cX12_endings 3 (some .long) ∈ lw_tbl := mt_7 (List.mem_of_getElem? (i := 231) rfl)
theorem wd_1161 : Cond.constantLong RX12 359 (-3) ∈ lw_tbl := mt_7 (List.mem_of_getElem? (i := 233) rfl)
theorem wd_1162 : Cond.constantLong RX12 357 (15) ∈ lw_tbl := mt_7 (List.mem_of_getElem? (i := 232) rfl)
set_option maxRecDepth 20000 in
theorem hl_wsX12_endings_r1 : ∀ w ∈ wsX12_endings_r1, w ∈ lw_tbl := by
  unfold wsX12_endings_r1
  exact (List.forall_mem_cons.mpr ⟨wd_34, (List.forall_mem_cons.mpr ⟨wd_1162, (List.forall_mem_cons.mpr ⟨wd_1161, (List.forall_mem_cons.mpr ⟨wd_422, (List.forall_mem_cons.mpr ⟨wd_421, (List.forall_mem_cons.mpr ⟨wd_27, (List.forall_mem_cons.mpr ⟨wd_420, (List.forall_mem_cons.mpr ⟨wd_1087, (List.forall_mem_cons.mpr ⟨wd_1086, (List.forall_mem_cons.mpr ⟨wd_1085, (List.forall_mem_cons.mpr ⟨wd_1084, (List.forall_mem_cons.mpr ⟨wd_423, (List.forall_mem_cons.mpr ⟨wd_1083, (List.forall_mem_cons.mpr ⟨wd_648, (List.forall_mem_cons.mpr ⟨wd_647, (List.forall_mem_cons.mpr ⟨wd_646, (List.forall_mem_cons.mpr ⟨wd_645, (List.forall_mem_cons.mpr ⟨wd_618, (List.forall_mem_cons.mpr ⟨wd_617, (List.forall_mem_cons.mpr ⟨wd_616, (List.forall_mem_cons.mpr ⟨wd_615, (List.forall_mem_cons.mpr ⟨wd_614, (List.forall_mem_cons.mpr ⟨wd_613, (List.forall_mem_cons.mpr ⟨wd_654, (fun _ h => absurd h List.not_mem_nil)⟩)⟩)⟩)⟩)⟩)⟩)⟩)⟩)⟩)⟩)⟩)⟩)⟩)⟩)⟩)⟩)⟩)⟩)⟩)⟩)⟩)⟩)⟩)⟩)
set_option maxRecDepth 20000 in
theorem hl_wsX12_endings_r2 : ∀ w ∈ wsX12_endings_r2, w ∈ lw_tbl := by
  unfold wsX12_endings_r2
  exact (List.forall_mem_cons.mpr ⟨wd_653, (List.forall_mem_cons.mpr ⟨wd_652, (List.forall_mem_cons.mpr ⟨wd_651, (List.forall_mem_cons.mpr ⟨wd_650, (List.forall_mem_cons.mpr ⟨wd_649, (List.forall_mem_cons.mpr ⟨wd_644, (List.forall_mem_cons.mpr ⟨wd_643, (List.forall_mem_cons.mpr ⟨wd_642, (List.forall_mem_cons.mpr ⟨wd_641, (List.forall_mem_cons.mpr ⟨wd_640, (List.forall_mem_cons.mpr ⟨wd_639, (List.forall_mem_cons.mpr ⟨wd_638, (List.forall_mem_cons.mpr ⟨wd_637, (List.forall_mem_cons.mpr ⟨wd_636, (List.forall_mem_cons.mpr ⟨wd_635, (List.forall_mem_cons.mpr ⟨wd_634, (List.forall_mem_cons.mpr ⟨wd_633, (List.forall_mem_cons.mpr ⟨wd_632, (List.forall_mem_cons.mpr ⟨wd_631, (List.forall_mem_cons.mpr ⟨wd_665, (List.forall_mem_cons.mpr ⟨wd_664, (List.forall_mem_cons.mpr ⟨wd_663, (List.forall_mem_cons.mpr ⟨wd_662, (List.forall_mem_cons.mpr ⟨wd_661, (fun _ h => absurd h List.not_mem_nil)⟩)⟩)⟩)⟩)⟩)⟩)⟩)⟩)⟩)⟩)⟩)⟩)⟩)⟩)⟩)⟩)⟩)⟩)⟩)⟩)⟩)⟩)⟩)⟩)
theorem wd_1163 : Cond.code yX12_shutRows cX12_shutRows 4 (some .long) ∈ lw_tbl := mt_8 (List.mem_of_getElem? (i := 5) rfl)
theorem wd_1164 : Cond.selects RX12 yX12_shutRows yX12_shutRows ∈ lw_tbl := mp_7 (q := (⟨"OneOfEachModel", "shutRows", "()J"⟩, 32)) (List.mem_of_getElem? (i := 10) rfl)
theorem wd_1165 : Cond.instanceMethod yX12_shutRows ∈ lw_tbl := mt_8 (List.mem_of_getElem? (i := 4) rfl)
theorem wd_1166 : Cond.methodLink RX12 368 yX12_shutRows ∈ lw_tbl := mt_8 (List.mem_of_getElem? (i := 2) rfl)
theorem wd_1167 : Cond.fieldLink RX12 55 "OneOfEachModel" "rowsThen" "[J" ∈ lw_tbl := mt_6 (List.mem_of_getElem? (i := 52) rfl)
theorem wd_1168 : Cond.code yX12_goesRows cX12_goesRows 6 none ∈ lw_tbl := mt_8 (List.mem_of_getElem? (i := 1) rfl)
theorem wd_1169 : Cond.selects RX12 yX12_goesRows yX12_goesRows ∈ lw_tbl := mp_7 (q := (⟨"OneOfEachModel", "goesRows", "(II)V"⟩, 32)) (List.mem_of_getElem? (i := 9) rfl)
theorem wd_1170 : Cond.instanceMethod yX12_goesRows ∈ lw_tbl := mt_8 (List.mem_of_getElem? (i := 0) rfl)
theorem wd_1171 : Cond.methodLink RX12 364 yX12_goesRows ∈ lw_tbl := mt_7 (List.mem_of_getElem? (i := 238) rfl)
theorem wd_1172 : Cond.fieldLink RX12 51 "OneOfEachModel" "rows" "[J" ∈ lw_tbl := mt_6 (List.mem_of_getElem? (i := 51) rfl)
theorem wd_1173 : Cond.code yX12_beginsRows cX12_beginsRows 2 none ∈ lw_tbl := mt_7 (List.mem_of_getElem? (i := 237) rfl)
theorem wd_1174 : Cond.selects RX12 yX12_beginsRows yX12_beginsRows ∈ lw_tbl := mp_7 (q := (⟨"OneOfEachModel", "beginsRows", "()V"⟩, 32)) (List.mem_of_getElem? (i := 8) rfl)
theorem wd_1175 : Cond.instanceMethod yX12_beginsRows ∈ lw_tbl := mt_7 (List.mem_of_getElem? (i := 236) rfl)
theorem wd_1176 : Cond.methodLink RX12 361 yX12_beginsRows ∈ lw_tbl := mt_7 (List.mem_of_getElem? (i := 234) rfl)
set_option maxRecDepth 20000 in
theorem hl_wsX12_endings_r3 : ∀ w ∈ wsX12_endings_r3, w ∈ lw_tbl := by
  unfold wsX12_endings_r3
  exact (List.forall_mem_cons.mpr ⟨wd_660, (List.forall_mem_cons.mpr ⟨wd_659, (List.forall_mem_cons.mpr ⟨wd_658, (List.forall_mem_cons.mpr ⟨wd_657, (List.forall_mem_cons.mpr ⟨wd_656, (List.forall_mem_cons.mpr ⟨wd_655, (List.forall_mem_cons.mpr ⟨wd_1176, (List.forall_mem_cons.mpr ⟨wd_1175, (List.forall_mem_cons.mpr ⟨wd_1174, (List.forall_mem_cons.mpr ⟨wd_1173, (List.forall_mem_cons.mpr ⟨wd_1172, (List.forall_mem_cons.mpr ⟨wd_1171, (List.forall_mem_cons.mpr ⟨wd_1170, (List.forall_mem_cons.mpr ⟨wd_1169, (List.forall_mem_cons.mpr ⟨wd_1168, (List.forall_mem_cons.mpr ⟨wd_1167, (List.forall_mem_cons.mpr ⟨wd_1095, (List.forall_mem_cons.mpr ⟨wd_1094, (List.forall_mem_cons.mpr ⟨wd_1093, (List.forall_mem_cons.mpr ⟨wd_1092, (List.forall_mem_cons.mpr ⟨wd_1166, (List.forall_mem_cons.mpr ⟨wd_1165, (List.forall_mem_cons.mpr ⟨wd_1164, (List.forall_mem_cons.mpr ⟨wd_1163, (fun _ h => absurd h List.not_mem_nil)⟩)⟩)⟩)⟩)⟩)⟩)⟩)⟩)⟩)⟩)⟩)⟩)⟩)⟩)⟩)⟩)⟩)⟩)⟩)⟩)⟩)⟩)⟩)⟩)
set_option maxRecDepth 20000 in
theorem hl_wsX12_endings : ∀ w ∈ wsX12_endings, w ∈ lw_tbl := by
  unfold wsX12_endings
  exact (List.forall_mem_cons.mpr ⟨wd_1160, (List.forall_mem_append.mpr ⟨(List.forall_mem_append.mpr ⟨hl_wsX12_endings_r1, (List.forall_mem_append.mpr ⟨hl_wsX12_endings_r2, hl_wsX12_endings_r3⟩)⟩), hl_wsX120⟩)⟩)
def tL_endings : List Cond := (wsV RL 93 RX11 yX11_endings wsX11_endings) ++ (wsV RL 97 RX12 yX12_endings wsX12_endings)
theorem tL_endings_in : ∀ w ∈ tL_endings, w ∈ lw_tbl := by
  unfold tL_endings
  exact (List.forall_mem_append.mpr ⟨(List.forall_mem_append.mpr ⟨(List.forall_mem_cons.mpr ⟨wd_1125, (List.forall_mem_cons.mpr ⟨wd_1124, (List.forall_mem_cons.mpr ⟨wd_1123, (List.forall_mem_cons.mpr ⟨wd_0, (fun _ h => absurd h List.not_mem_nil)⟩)⟩)⟩)⟩), hl_wsX11_endings⟩), (List.forall_mem_append.mpr ⟨(List.forall_mem_cons.mpr ⟨wd_1159, (List.forall_mem_cons.mpr ⟨wd_1158, (List.forall_mem_cons.mpr ⟨wd_1157, (List.forall_mem_cons.mpr ⟨wd_27, (fun _ h => absurd h List.not_mem_nil)⟩)⟩)⟩)⟩), hl_wsX12_endings⟩)⟩)
set_option maxRecDepth 20000 in
theorem tL_endings_x : GoodIn tL_endings (wsV RL 93 RX11 yX11_endings wsX11_endings) := fun w h => ⟨List.mem_append_left _ h, good_of_word (List.all_eq_true.mp (show (wsV RL 93 RX11 yX11_endings wsX11_endings).all goodWord = true by decide +kernel) w h)⟩
set_option maxRecDepth 20000 in
theorem tL_endings_m : GoodIn tL_endings (wsV RL 97 RX12 yX12_endings wsX12_endings) := fun w h => ⟨List.mem_append_right _ h, good_of_word (List.all_eq_true.mp (show (wsV RL 97 RX12 yX12_endings wsX12_endings).all goodWord = true by decide +kernel) w h)⟩
theorem hdLX11_endings : yX11_endings.cls = RX11 ∧ yX11_endings.cls ≠ "java/lang/invoke/MethodHandle" ∧ yX11_endings.cls ≠ "java/lang/invoke/VarHandle" ∧ (parseMethodDescriptor yX11_endings.desc).map (fun d => d.parameters.length) = some 1 := by decide +kernel
theorem hdLX12_endings : yX12_endings.cls = RX12 ∧ yX12_endings.cls ≠ "java/lang/invoke/MethodHandle" ∧ yX12_endings.cls ≠ "java/lang/invoke/VarHandle" ∧ (parseMethodDescriptor yX12_endings.desc).map (fun d => d.parameters.length) = some 1 := by decide +kernel
theorem wd_1177 : Cond.selects RX11 yX11_needed yX11_needed ∈ lw_tbl := mt_5 (List.mem_of_getElem? (i := 14) rfl)
theorem wd_1178 : Cond.instanceMethod yX11_needed ∈ lw_tbl := mt_5 (List.mem_of_getElem? (i := 13) rfl)
theorem wd_1179 : Cond.methodLink RL 98 yX11_needed ∈ lw_tbl := mt_5 (List.mem_of_getElem? (i := 12) rfl)
theorem wd_1180 : Cond.code yX11_needed cX11_needed 1 (some .int) ∈ lw_tbl := mt_5 (List.mem_of_getElem? (i := 15) rfl)
set_option maxRecDepth 20000 in
theorem hl_wsX11_needed_r1 : ∀ w ∈ wsX11_needed_r1, w ∈ lw_tbl := by
  unfold wsX11_needed_r1
  exact (List.forall_mem_cons.mpr ⟨wd_1034, (List.forall_mem_cons.mpr ⟨wd_85, (List.forall_mem_cons.mpr ⟨wd_84, (List.forall_mem_cons.mpr ⟨wd_555, (List.forall_mem_cons.mpr ⟨wd_1033, (List.forall_mem_cons.mpr ⟨wd_1032, (List.forall_mem_cons.mpr ⟨wd_1031, (List.forall_mem_cons.mpr ⟨wd_1030, (List.forall_mem_cons.mpr ⟨wd_1029, (List.forall_mem_cons.mpr ⟨wd_1028, (List.forall_mem_cons.mpr ⟨wd_1027, (List.forall_mem_cons.mpr ⟨wd_1026, (List.forall_mem_cons.mpr ⟨wd_1025, (List.forall_mem_cons.mpr ⟨wd_1024, (List.forall_mem_cons.mpr ⟨wd_1023, (List.forall_mem_cons.mpr ⟨wd_1022, (List.forall_mem_cons.mpr ⟨wd_1021, (List.forall_mem_cons.mpr ⟨wd_1020, (List.forall_mem_cons.mpr ⟨wd_1019, (List.forall_mem_cons.mpr ⟨wd_1018, (List.forall_mem_cons.mpr ⟨wd_1017, (List.forall_mem_cons.mpr ⟨wd_1016, (List.forall_mem_cons.mpr ⟨wd_744, (List.forall_mem_cons.mpr ⟨wd_743, (fun _ h => absurd h List.not_mem_nil)⟩)⟩)⟩)⟩)⟩)⟩)⟩)⟩)⟩)⟩)⟩)⟩)⟩)⟩)⟩)⟩)⟩)⟩)⟩)⟩)⟩)⟩)⟩)⟩)
set_option maxRecDepth 20000 in
theorem hl_wsX11_needed_r2 : ∀ w ∈ wsX11_needed_r2, w ∈ lw_tbl := by
  unfold wsX11_needed_r2
  exact (List.forall_mem_cons.mpr ⟨wd_102, (List.forall_mem_cons.mpr ⟨wd_742, (List.forall_mem_cons.mpr ⟨wd_100, (List.forall_mem_cons.mpr ⟨wd_1040, (List.forall_mem_cons.mpr ⟨wd_543, (List.forall_mem_cons.mpr ⟨wd_542, (List.forall_mem_cons.mpr ⟨wd_362, (List.forall_mem_cons.mpr ⟨wd_541, (List.forall_mem_cons.mpr ⟨wd_540, (List.forall_mem_cons.mpr ⟨wd_578, (List.forall_mem_cons.mpr ⟨wd_577, (List.forall_mem_cons.mpr ⟨wd_360, (List.forall_mem_cons.mpr ⟨wd_576, (List.forall_mem_cons.mpr ⟨wd_575, (List.forall_mem_cons.mpr ⟨wd_574, (List.forall_mem_cons.mpr ⟨wd_573, (List.forall_mem_cons.mpr ⟨wd_1039, (List.forall_mem_cons.mpr ⟨wd_358, (List.forall_mem_cons.mpr ⟨wd_357, (List.forall_mem_cons.mpr ⟨wd_356, (List.forall_mem_cons.mpr ⟨wd_1038, (List.forall_mem_cons.mpr ⟨wd_1037, (List.forall_mem_cons.mpr ⟨wd_1036, (List.forall_mem_cons.mpr ⟨wd_1035, (fun _ h => absurd h List.not_mem_nil)⟩)⟩)⟩)⟩)⟩)⟩)⟩)⟩)⟩)⟩)⟩)⟩)⟩)⟩)⟩)⟩)⟩)⟩)⟩)⟩)⟩)⟩)⟩)⟩)
set_option maxRecDepth 20000 in
theorem hl_wsX11_needed_r3 : ∀ w ∈ wsX11_needed_r3, w ∈ lw_tbl := by
  unfold wsX11_needed_r3
  exact (List.forall_mem_cons.mpr ⟨wd_1043, (List.forall_mem_cons.mpr ⟨wd_1042, (List.forall_mem_cons.mpr ⟨wd_1041, (List.forall_mem_cons.mpr ⟨wd_571, (List.forall_mem_cons.mpr ⟨wd_570, (List.forall_mem_cons.mpr ⟨wd_569, (List.forall_mem_cons.mpr ⟨wd_568, (List.forall_mem_cons.mpr ⟨wd_134, (List.forall_mem_cons.mpr ⟨wd_133, (List.forall_mem_cons.mpr ⟨wd_132, (List.forall_mem_cons.mpr ⟨wd_567, (List.forall_mem_cons.mpr ⟨wd_566, (List.forall_mem_cons.mpr ⟨wd_565, (List.forall_mem_cons.mpr ⟨wd_564, (List.forall_mem_cons.mpr ⟨wd_563, (List.forall_mem_cons.mpr ⟨wd_562, (List.forall_mem_cons.mpr ⟨wd_561, (List.forall_mem_cons.mpr ⟨wd_560, (List.forall_mem_cons.mpr ⟨wd_559, (List.forall_mem_cons.mpr ⟨wd_602, (List.forall_mem_cons.mpr ⟨wd_601, (List.forall_mem_cons.mpr ⟨wd_600, (List.forall_mem_cons.mpr ⟨wd_599, (List.forall_mem_cons.mpr ⟨wd_598, (fun _ h => absurd h List.not_mem_nil)⟩)⟩)⟩)⟩)⟩)⟩)⟩)⟩)⟩)⟩)⟩)⟩)⟩)⟩)⟩)⟩)⟩)⟩)⟩)⟩)⟩)⟩)⟩)⟩)
set_option maxRecDepth 20000 in
theorem hl_wsX11_needed_r4 : ∀ w ∈ wsX11_needed_r4, w ∈ lw_tbl := by
  unfold wsX11_needed_r4
  exact (List.forall_mem_cons.mpr ⟨wd_597, (List.forall_mem_cons.mpr ⟨wd_596, (List.forall_mem_cons.mpr ⟨wd_595, (List.forall_mem_cons.mpr ⟨wd_594, (List.forall_mem_cons.mpr ⟨wd_593, (List.forall_mem_cons.mpr ⟨wd_592, (List.forall_mem_cons.mpr ⟨wd_591, (List.forall_mem_cons.mpr ⟨wd_590, (List.forall_mem_cons.mpr ⟨wd_589, (List.forall_mem_cons.mpr ⟨wd_588, (List.forall_mem_cons.mpr ⟨wd_587, (List.forall_mem_cons.mpr ⟨wd_586, (List.forall_mem_cons.mpr ⟨wd_585, (List.forall_mem_cons.mpr ⟨wd_584, (List.forall_mem_cons.mpr ⟨wd_583, (List.forall_mem_cons.mpr ⟨wd_582, (List.forall_mem_cons.mpr ⟨wd_581, (List.forall_mem_cons.mpr ⟨wd_580, (List.forall_mem_cons.mpr ⟨wd_579, (List.forall_mem_cons.mpr ⟨wd_608, (List.forall_mem_cons.mpr ⟨wd_607, (List.forall_mem_cons.mpr ⟨wd_606, (List.forall_mem_cons.mpr ⟨wd_605, (List.forall_mem_cons.mpr ⟨wd_604, (fun _ h => absurd h List.not_mem_nil)⟩)⟩)⟩)⟩)⟩)⟩)⟩)⟩)⟩)⟩)⟩)⟩)⟩)⟩)⟩)⟩)⟩)⟩)⟩)⟩)⟩)⟩)⟩)⟩)
theorem wd_1181 : Cond.code yX5_neededBuyers cX5_neededBuyers 4 (some .int) ∈ lw_tbl := mt_5 (List.mem_of_getElem? (i := 19) rfl)
theorem wd_1182 : Cond.selects RX5 yX5_neededBuyers yX5_neededBuyers ∈ lw_tbl := mt_5 (List.mem_of_getElem? (i := 18) rfl)
theorem wd_1183 : Cond.instanceMethod yX5_neededBuyers ∈ lw_tbl := mt_5 (List.mem_of_getElem? (i := 17) rfl)
theorem wd_1184 : Cond.methodLink RX11 277 yX5_neededBuyers ∈ lw_tbl := mt_5 (List.mem_of_getElem? (i := 16) rfl)
set_option maxRecDepth 20000 in
theorem hl_wsX11_needed_r5 : ∀ w ∈ wsX11_needed_r5, w ∈ lw_tbl := by
  unfold wsX11_needed_r5
  exact (List.forall_mem_cons.mpr ⟨wd_603, (List.forall_mem_cons.mpr ⟨wd_1184, (List.forall_mem_cons.mpr ⟨wd_1183, (List.forall_mem_cons.mpr ⟨wd_1182, (List.forall_mem_cons.mpr ⟨wd_1181, (List.forall_mem_cons.mpr ⟨wd_1060, (List.forall_mem_cons.mpr ⟨wd_1059, (List.forall_mem_cons.mpr ⟨wd_1058, (List.forall_mem_cons.mpr ⟨wd_1057, (List.forall_mem_cons.mpr ⟨wd_1056, (List.forall_mem_cons.mpr ⟨wd_1055, (List.forall_mem_cons.mpr ⟨wd_1054, (List.forall_mem_cons.mpr ⟨wd_1053, (List.forall_mem_cons.mpr ⟨wd_1052, (List.forall_mem_cons.mpr ⟨wd_1051, (List.forall_mem_cons.mpr ⟨wd_1050, (List.forall_mem_cons.mpr ⟨wd_1049, (List.forall_mem_cons.mpr ⟨wd_1048, (List.forall_mem_cons.mpr ⟨wd_1047, (List.forall_mem_cons.mpr ⟨wd_1046, (List.forall_mem_cons.mpr ⟨wd_1045, (List.forall_mem_cons.mpr ⟨wd_1044, (fun _ h => absurd h List.not_mem_nil)⟩)⟩)⟩)⟩)⟩)⟩)⟩)⟩)⟩)⟩)⟩)⟩)⟩)⟩)⟩)⟩)⟩)⟩)⟩)⟩)⟩)⟩)
set_option maxRecDepth 20000 in
theorem hl_wsX11_needed : ∀ w ∈ wsX11_needed, w ∈ lw_tbl := by
  unfold wsX11_needed
  exact (List.forall_mem_cons.mpr ⟨wd_1180, (List.forall_mem_append.mpr ⟨(List.forall_mem_append.mpr ⟨(List.forall_mem_append.mpr ⟨(List.forall_mem_append.mpr ⟨(List.forall_mem_append.mpr ⟨(List.forall_mem_append.mpr ⟨hl_wsX11_needed_r1, (List.forall_mem_append.mpr ⟨hl_wsX11_needed_r2, (List.forall_mem_append.mpr ⟨hl_wsX11_needed_r3, (List.forall_mem_append.mpr ⟨hl_wsX11_needed_r4, hl_wsX11_needed_r5⟩)⟩)⟩)⟩), hl_wsX110⟩), hl_wsX90⟩), hl_wsX50⟩), hl_wsX40⟩), hl_wsX70⟩)⟩)
theorem wd_1185 : Cond.selects RX12 yX12_needed yX12_needed ∈ lw_tbl := mt_8 (List.mem_of_getElem? (i := 8) rfl)
theorem wd_1186 : Cond.instanceMethod yX12_needed ∈ lw_tbl := mt_8 (List.mem_of_getElem? (i := 7) rfl)
theorem wd_1187 : Cond.methodLink RL 101 yX12_needed ∈ lw_tbl := mt_8 (List.mem_of_getElem? (i := 6) rfl)
theorem wd_1188 : Cond.code yX12_needed cX12_needed 3 (some .int) ∈ lw_tbl := mt_8 (List.mem_of_getElem? (i := 9) rfl)
set_option maxRecDepth 20000 in
theorem hl_wsX12_needed_r1 : ∀ w ∈ wsX12_needed_r1, w ∈ lw_tbl := by
  unfold wsX12_needed_r1
  exact (List.forall_mem_cons.mpr ⟨wd_34, (List.forall_mem_cons.mpr ⟨wd_423, (List.forall_mem_cons.mpr ⟨wd_1091, (List.forall_mem_cons.mpr ⟨wd_1090, (List.forall_mem_cons.mpr ⟨wd_1089, (List.forall_mem_cons.mpr ⟨wd_27, (List.forall_mem_cons.mpr ⟨wd_1088, (List.forall_mem_cons.mpr ⟨wd_1087, (List.forall_mem_cons.mpr ⟨wd_1086, (List.forall_mem_cons.mpr ⟨wd_1085, (List.forall_mem_cons.mpr ⟨wd_1084, (List.forall_mem_cons.mpr ⟨wd_1083, (List.forall_mem_cons.mpr ⟨wd_648, (List.forall_mem_cons.mpr ⟨wd_647, (List.forall_mem_cons.mpr ⟨wd_646, (List.forall_mem_cons.mpr ⟨wd_645, (List.forall_mem_cons.mpr ⟨wd_618, (List.forall_mem_cons.mpr ⟨wd_617, (List.forall_mem_cons.mpr ⟨wd_616, (List.forall_mem_cons.mpr ⟨wd_615, (List.forall_mem_cons.mpr ⟨wd_614, (List.forall_mem_cons.mpr ⟨wd_613, (List.forall_mem_cons.mpr ⟨wd_654, (List.forall_mem_cons.mpr ⟨wd_653, (fun _ h => absurd h List.not_mem_nil)⟩)⟩)⟩)⟩)⟩)⟩)⟩)⟩)⟩)⟩)⟩)⟩)⟩)⟩)⟩)⟩)⟩)⟩)⟩)⟩)⟩)⟩)⟩)⟩)
set_option maxRecDepth 20000 in
theorem hl_wsX12_needed_r2 : ∀ w ∈ wsX12_needed_r2, w ∈ lw_tbl := by
  unfold wsX12_needed_r2
  exact (List.forall_mem_cons.mpr ⟨wd_652, (List.forall_mem_cons.mpr ⟨wd_651, (List.forall_mem_cons.mpr ⟨wd_650, (List.forall_mem_cons.mpr ⟨wd_649, (List.forall_mem_cons.mpr ⟨wd_644, (List.forall_mem_cons.mpr ⟨wd_643, (List.forall_mem_cons.mpr ⟨wd_642, (List.forall_mem_cons.mpr ⟨wd_641, (List.forall_mem_cons.mpr ⟨wd_640, (List.forall_mem_cons.mpr ⟨wd_639, (List.forall_mem_cons.mpr ⟨wd_638, (List.forall_mem_cons.mpr ⟨wd_637, (List.forall_mem_cons.mpr ⟨wd_636, (List.forall_mem_cons.mpr ⟨wd_635, (List.forall_mem_cons.mpr ⟨wd_634, (List.forall_mem_cons.mpr ⟨wd_633, (List.forall_mem_cons.mpr ⟨wd_632, (List.forall_mem_cons.mpr ⟨wd_631, (List.forall_mem_cons.mpr ⟨wd_665, (List.forall_mem_cons.mpr ⟨wd_664, (List.forall_mem_cons.mpr ⟨wd_663, (List.forall_mem_cons.mpr ⟨wd_662, (List.forall_mem_cons.mpr ⟨wd_661, (List.forall_mem_cons.mpr ⟨wd_660, (fun _ h => absurd h List.not_mem_nil)⟩)⟩)⟩)⟩)⟩)⟩)⟩)⟩)⟩)⟩)⟩)⟩)⟩)⟩)⟩)⟩)⟩)⟩)⟩)⟩)⟩)⟩)⟩)⟩)
set_option maxRecDepth 20000 in
theorem hl_wsX12_needed_r3 : ∀ w ∈ wsX12_needed_r3, w ∈ lw_tbl := by
  unfold wsX12_needed_r3
  exact (List.forall_mem_cons.mpr ⟨wd_659, (List.forall_mem_cons.mpr ⟨wd_658, (List.forall_mem_cons.mpr ⟨wd_657, (List.forall_mem_cons.mpr ⟨wd_656, (List.forall_mem_cons.mpr ⟨wd_655, (List.forall_mem_cons.mpr ⟨wd_1101, (List.forall_mem_cons.mpr ⟨wd_1100, (List.forall_mem_cons.mpr ⟨wd_1099, (List.forall_mem_cons.mpr ⟨wd_1098, (List.forall_mem_cons.mpr ⟨wd_1097, (List.forall_mem_cons.mpr ⟨wd_1096, (List.forall_mem_cons.mpr ⟨wd_1095, (List.forall_mem_cons.mpr ⟨wd_1094, (List.forall_mem_cons.mpr ⟨wd_1093, (List.forall_mem_cons.mpr ⟨wd_1092, (fun _ h => absurd h List.not_mem_nil)⟩)⟩)⟩)⟩)⟩)⟩)⟩)⟩)⟩)⟩)⟩)⟩)⟩)⟩)⟩)
set_option maxRecDepth 20000 in
theorem hl_wsX12_needed : ∀ w ∈ wsX12_needed, w ∈ lw_tbl := by
  unfold wsX12_needed
  exact (List.forall_mem_cons.mpr ⟨wd_1188, (List.forall_mem_append.mpr ⟨(List.forall_mem_append.mpr ⟨hl_wsX12_needed_r1, (List.forall_mem_append.mpr ⟨hl_wsX12_needed_r2, hl_wsX12_needed_r3⟩)⟩), hl_wsX120⟩)⟩)
def tL_needed : List Cond := (wsV RL 98 RX11 yX11_needed wsX11_needed) ++ (wsV RL 101 RX12 yX12_needed wsX12_needed)
theorem tL_needed_in : ∀ w ∈ tL_needed, w ∈ lw_tbl := by
  unfold tL_needed
  exact (List.forall_mem_append.mpr ⟨(List.forall_mem_append.mpr ⟨(List.forall_mem_cons.mpr ⟨wd_1179, (List.forall_mem_cons.mpr ⟨wd_1178, (List.forall_mem_cons.mpr ⟨wd_1177, (List.forall_mem_cons.mpr ⟨wd_0, (fun _ h => absurd h List.not_mem_nil)⟩)⟩)⟩)⟩), hl_wsX11_needed⟩), (List.forall_mem_append.mpr ⟨(List.forall_mem_cons.mpr ⟨wd_1187, (List.forall_mem_cons.mpr ⟨wd_1186, (List.forall_mem_cons.mpr ⟨wd_1185, (List.forall_mem_cons.mpr ⟨wd_27, (fun _ h => absurd h List.not_mem_nil)⟩)⟩)⟩)⟩), hl_wsX12_needed⟩)⟩)
set_option maxRecDepth 20000 in
theorem tL_needed_x : GoodIn tL_needed (wsV RL 98 RX11 yX11_needed wsX11_needed) := fun w h => ⟨List.mem_append_left _ h, good_of_word (List.all_eq_true.mp (show (wsV RL 98 RX11 yX11_needed wsX11_needed).all goodWord = true by decide +kernel) w h)⟩
set_option maxRecDepth 20000 in
theorem tL_needed_m : GoodIn tL_needed (wsV RL 101 RX12 yX12_needed wsX12_needed) := fun w h => ⟨List.mem_append_right _ h, good_of_word (List.all_eq_true.mp (show (wsV RL 101 RX12 yX12_needed wsX12_needed).all goodWord = true by decide +kernel) w h)⟩
theorem hdLX11_needed : yX11_needed.cls = RX11 ∧ yX11_needed.cls ≠ "java/lang/invoke/MethodHandle" ∧ yX11_needed.cls ≠ "java/lang/invoke/VarHandle" ∧ (parseMethodDescriptor yX11_needed.desc).map (fun d => d.parameters.length) = some 0 := by decide +kernel
theorem hdLX12_needed : yX12_needed.cls = RX12 ∧ yX12_needed.cls ≠ "java/lang/invoke/MethodHandle" ∧ yX12_needed.cls ≠ "java/lang/invoke/VarHandle" ∧ (parseMethodDescriptor yX12_needed.desc).map (fun d => d.parameters.length) = some 0 := by decide +kernel
theorem wd_1189 : Cond.selects RX11 yX11_sellable yX11_sellable ∈ lw_tbl := mt_5 (List.mem_of_getElem? (i := 22) rfl)
theorem wd_1190 : Cond.instanceMethod yX11_sellable ∈ lw_tbl := mt_5 (List.mem_of_getElem? (i := 21) rfl)
theorem wd_1191 : Cond.methodLink RL 102 yX11_sellable ∈ lw_tbl := mt_5 (List.mem_of_getElem? (i := 20) rfl)
theorem wd_1192 : Cond.code yX11_sellable cX11_sellable 1 (some .int) ∈ lw_tbl := mt_5 (List.mem_of_getElem? (i := 23) rfl)
set_option maxRecDepth 20000 in
theorem hl_wsX11_sellable_r1 : ∀ w ∈ wsX11_sellable_r1, w ∈ lw_tbl := by
  unfold wsX11_sellable_r1
  exact (List.forall_mem_cons.mpr ⟨wd_1034, (List.forall_mem_cons.mpr ⟨wd_85, (List.forall_mem_cons.mpr ⟨wd_84, (List.forall_mem_cons.mpr ⟨wd_555, (List.forall_mem_cons.mpr ⟨wd_1033, (List.forall_mem_cons.mpr ⟨wd_1032, (List.forall_mem_cons.mpr ⟨wd_1031, (List.forall_mem_cons.mpr ⟨wd_1030, (List.forall_mem_cons.mpr ⟨wd_1029, (List.forall_mem_cons.mpr ⟨wd_1028, (List.forall_mem_cons.mpr ⟨wd_1027, (List.forall_mem_cons.mpr ⟨wd_1026, (List.forall_mem_cons.mpr ⟨wd_1025, (List.forall_mem_cons.mpr ⟨wd_1024, (List.forall_mem_cons.mpr ⟨wd_1023, (List.forall_mem_cons.mpr ⟨wd_1022, (List.forall_mem_cons.mpr ⟨wd_1021, (List.forall_mem_cons.mpr ⟨wd_1020, (List.forall_mem_cons.mpr ⟨wd_1019, (List.forall_mem_cons.mpr ⟨wd_1018, (List.forall_mem_cons.mpr ⟨wd_1017, (List.forall_mem_cons.mpr ⟨wd_1016, (List.forall_mem_cons.mpr ⟨wd_744, (List.forall_mem_cons.mpr ⟨wd_743, (fun _ h => absurd h List.not_mem_nil)⟩)⟩)⟩)⟩)⟩)⟩)⟩)⟩)⟩)⟩)⟩)⟩)⟩)⟩)⟩)⟩)⟩)⟩)⟩)⟩)⟩)⟩)⟩)⟩)
set_option maxRecDepth 20000 in
theorem hl_wsX11_sellable_r2 : ∀ w ∈ wsX11_sellable_r2, w ∈ lw_tbl := by
  unfold wsX11_sellable_r2
  exact (List.forall_mem_cons.mpr ⟨wd_102, (List.forall_mem_cons.mpr ⟨wd_742, (List.forall_mem_cons.mpr ⟨wd_100, (List.forall_mem_cons.mpr ⟨wd_1040, (List.forall_mem_cons.mpr ⟨wd_543, (List.forall_mem_cons.mpr ⟨wd_542, (List.forall_mem_cons.mpr ⟨wd_362, (List.forall_mem_cons.mpr ⟨wd_541, (List.forall_mem_cons.mpr ⟨wd_540, (List.forall_mem_cons.mpr ⟨wd_578, (List.forall_mem_cons.mpr ⟨wd_577, (List.forall_mem_cons.mpr ⟨wd_360, (List.forall_mem_cons.mpr ⟨wd_576, (List.forall_mem_cons.mpr ⟨wd_575, (List.forall_mem_cons.mpr ⟨wd_574, (List.forall_mem_cons.mpr ⟨wd_573, (List.forall_mem_cons.mpr ⟨wd_1039, (List.forall_mem_cons.mpr ⟨wd_358, (List.forall_mem_cons.mpr ⟨wd_357, (List.forall_mem_cons.mpr ⟨wd_356, (List.forall_mem_cons.mpr ⟨wd_1038, (List.forall_mem_cons.mpr ⟨wd_1037, (List.forall_mem_cons.mpr ⟨wd_1036, (List.forall_mem_cons.mpr ⟨wd_1035, (fun _ h => absurd h List.not_mem_nil)⟩)⟩)⟩)⟩)⟩)⟩)⟩)⟩)⟩)⟩)⟩)⟩)⟩)⟩)⟩)⟩)⟩)⟩)⟩)⟩)⟩)⟩)⟩)⟩)
set_option maxRecDepth 20000 in
theorem hl_wsX11_sellable_r3 : ∀ w ∈ wsX11_sellable_r3, w ∈ lw_tbl := by
  unfold wsX11_sellable_r3
  exact (List.forall_mem_cons.mpr ⟨wd_1043, (List.forall_mem_cons.mpr ⟨wd_1042, (List.forall_mem_cons.mpr ⟨wd_1041, (List.forall_mem_cons.mpr ⟨wd_571, (List.forall_mem_cons.mpr ⟨wd_570, (List.forall_mem_cons.mpr ⟨wd_569, (List.forall_mem_cons.mpr ⟨wd_568, (List.forall_mem_cons.mpr ⟨wd_134, (List.forall_mem_cons.mpr ⟨wd_133, (List.forall_mem_cons.mpr ⟨wd_132, (List.forall_mem_cons.mpr ⟨wd_567, (List.forall_mem_cons.mpr ⟨wd_566, (List.forall_mem_cons.mpr ⟨wd_565, (List.forall_mem_cons.mpr ⟨wd_564, (List.forall_mem_cons.mpr ⟨wd_563, (List.forall_mem_cons.mpr ⟨wd_562, (List.forall_mem_cons.mpr ⟨wd_561, (List.forall_mem_cons.mpr ⟨wd_560, (List.forall_mem_cons.mpr ⟨wd_559, (List.forall_mem_cons.mpr ⟨wd_602, (List.forall_mem_cons.mpr ⟨wd_601, (List.forall_mem_cons.mpr ⟨wd_600, (List.forall_mem_cons.mpr ⟨wd_599, (List.forall_mem_cons.mpr ⟨wd_598, (fun _ h => absurd h List.not_mem_nil)⟩)⟩)⟩)⟩)⟩)⟩)⟩)⟩)⟩)⟩)⟩)⟩)⟩)⟩)⟩)⟩)⟩)⟩)⟩)⟩)⟩)⟩)⟩)⟩)
set_option maxRecDepth 20000 in
theorem hl_wsX11_sellable_r4 : ∀ w ∈ wsX11_sellable_r4, w ∈ lw_tbl := by
  unfold wsX11_sellable_r4
  exact (List.forall_mem_cons.mpr ⟨wd_597, (List.forall_mem_cons.mpr ⟨wd_596, (List.forall_mem_cons.mpr ⟨wd_595, (List.forall_mem_cons.mpr ⟨wd_594, (List.forall_mem_cons.mpr ⟨wd_593, (List.forall_mem_cons.mpr ⟨wd_592, (List.forall_mem_cons.mpr ⟨wd_591, (List.forall_mem_cons.mpr ⟨wd_590, (List.forall_mem_cons.mpr ⟨wd_589, (List.forall_mem_cons.mpr ⟨wd_588, (List.forall_mem_cons.mpr ⟨wd_587, (List.forall_mem_cons.mpr ⟨wd_586, (List.forall_mem_cons.mpr ⟨wd_585, (List.forall_mem_cons.mpr ⟨wd_584, (List.forall_mem_cons.mpr ⟨wd_583, (List.forall_mem_cons.mpr ⟨wd_582, (List.forall_mem_cons.mpr ⟨wd_581, (List.forall_mem_cons.mpr ⟨wd_580, (List.forall_mem_cons.mpr ⟨wd_579, (List.forall_mem_cons.mpr ⟨wd_608, (List.forall_mem_cons.mpr ⟨wd_607, (List.forall_mem_cons.mpr ⟨wd_606, (List.forall_mem_cons.mpr ⟨wd_605, (List.forall_mem_cons.mpr ⟨wd_604, (fun _ h => absurd h List.not_mem_nil)⟩)⟩)⟩)⟩)⟩)⟩)⟩)⟩)⟩)⟩)⟩)⟩)⟩)⟩)⟩)⟩)⟩)⟩)⟩)⟩)⟩)⟩)⟩)⟩)
theorem wd_1193 : Cond.code yX5_everSold cX5_everSold 3 (some .int) ∈ lw_tbl := mt_5 (List.mem_of_getElem? (i := 27) rfl)
theorem wd_1194 : Cond.selects RX5 yX5_everSold yX5_everSold ∈ lw_tbl := mt_5 (List.mem_of_getElem? (i := 26) rfl)
theorem wd_1195 : Cond.instanceMethod yX5_everSold ∈ lw_tbl := mt_5 (List.mem_of_getElem? (i := 25) rfl)
theorem wd_1196 : Cond.methodLink RX11 280 yX5_everSold ∈ lw_tbl := mt_5 (List.mem_of_getElem? (i := 24) rfl)
set_option maxRecDepth 20000 in
theorem hl_wsX11_sellable_r5 : ∀ w ∈ wsX11_sellable_r5, w ∈ lw_tbl := by
  unfold wsX11_sellable_r5
  exact (List.forall_mem_cons.mpr ⟨wd_603, (List.forall_mem_cons.mpr ⟨wd_1196, (List.forall_mem_cons.mpr ⟨wd_1195, (List.forall_mem_cons.mpr ⟨wd_1194, (List.forall_mem_cons.mpr ⟨wd_1193, (fun _ h => absurd h List.not_mem_nil)⟩)⟩)⟩)⟩)⟩)
set_option maxRecDepth 20000 in
theorem hl_wsX11_sellable : ∀ w ∈ wsX11_sellable, w ∈ lw_tbl := by
  unfold wsX11_sellable
  exact (List.forall_mem_cons.mpr ⟨wd_1192, (List.forall_mem_append.mpr ⟨(List.forall_mem_append.mpr ⟨(List.forall_mem_append.mpr ⟨(List.forall_mem_append.mpr ⟨(List.forall_mem_append.mpr ⟨(List.forall_mem_append.mpr ⟨hl_wsX11_sellable_r1, (List.forall_mem_append.mpr ⟨hl_wsX11_sellable_r2, (List.forall_mem_append.mpr ⟨hl_wsX11_sellable_r3, (List.forall_mem_append.mpr ⟨hl_wsX11_sellable_r4, hl_wsX11_sellable_r5⟩)⟩)⟩)⟩), hl_wsX110⟩), hl_wsX90⟩), hl_wsX50⟩), hl_wsX40⟩), hl_wsX70⟩)⟩)
theorem wd_1197 : Cond.selects RX12 yX12_sellable yX12_sellable ∈ lw_tbl := mt_8 (List.mem_of_getElem? (i := 12) rfl)
theorem wd_1198 : Cond.instanceMethod yX12_sellable ∈ lw_tbl := mt_8 (List.mem_of_getElem? (i := 11) rfl)
theorem wd_1199 : Cond.methodLink RL 105 yX12_sellable ∈ lw_tbl := mt_8 (List.mem_of_getElem? (i := 10) rfl)
theorem wd_1200 : Cond.code yX12_sellable cX12_sellable 3 (some .int) ∈ lw_tbl := mt_8 (List.mem_of_getElem? (i := 13) rfl)
theorem wd_1201 : Cond.code yX12_laysComes cX12_laysComes 3 none ∈ lw_tbl := mt_8 (List.mem_of_getElem? (i := 17) rfl)
theorem wd_1202 : Cond.selects RX12 yX12_laysComes yX12_laysComes ∈ lw_tbl := mp_7 (q := (⟨"OneOfEachModel", "laysComes", "()V"⟩, 32)) (List.mem_of_getElem? (i := 11) rfl)
theorem wd_1203 : Cond.instanceMethod yX12_laysComes ∈ lw_tbl := mt_8 (List.mem_of_getElem? (i := 16) rfl)
theorem wd_1204 : Cond.methodLink RX12 372 yX12_laysComes ∈ lw_tbl := mt_8 (List.mem_of_getElem? (i := 14) rfl)
theorem wd_1205 : Cond.fieldLink RX12 48 "OneOfEachModel" "comes" "[Z" ∈ lw_tbl := mt_6 (List.mem_of_getElem? (i := 50) rfl)
set_option maxRecDepth 20000 in
theorem hl_wsX12_sellable_r1 : ∀ w ∈ wsX12_sellable_r1, w ∈ lw_tbl := by
  unfold wsX12_sellable_r1
  exact (List.forall_mem_cons.mpr ⟨wd_34, (List.forall_mem_cons.mpr ⟨wd_1205, (List.forall_mem_cons.mpr ⟨wd_1204, (List.forall_mem_cons.mpr ⟨wd_1203, (List.forall_mem_cons.mpr ⟨wd_1202, (List.forall_mem_cons.mpr ⟨wd_27, (List.forall_mem_cons.mpr ⟨wd_1201, (List.forall_mem_cons.mpr ⟨wd_423, (List.forall_mem_cons.mpr ⟨wd_1087, (List.forall_mem_cons.mpr ⟨wd_1086, (List.forall_mem_cons.mpr ⟨wd_1085, (List.forall_mem_cons.mpr ⟨wd_1084, (List.forall_mem_cons.mpr ⟨wd_1083, (List.forall_mem_cons.mpr ⟨wd_648, (List.forall_mem_cons.mpr ⟨wd_647, (List.forall_mem_cons.mpr ⟨wd_646, (List.forall_mem_cons.mpr ⟨wd_645, (List.forall_mem_cons.mpr ⟨wd_618, (List.forall_mem_cons.mpr ⟨wd_617, (List.forall_mem_cons.mpr ⟨wd_616, (List.forall_mem_cons.mpr ⟨wd_615, (List.forall_mem_cons.mpr ⟨wd_614, (List.forall_mem_cons.mpr ⟨wd_613, (List.forall_mem_cons.mpr ⟨wd_654, (fun _ h => absurd h List.not_mem_nil)⟩)⟩)⟩)⟩)⟩)⟩)⟩)⟩)⟩)⟩)⟩)⟩)⟩)⟩)⟩)⟩)⟩)⟩)⟩)⟩)⟩)⟩)⟩)⟩)
set_option maxRecDepth 20000 in
theorem hl_wsX12_sellable_r2 : ∀ w ∈ wsX12_sellable_r2, w ∈ lw_tbl := by
  unfold wsX12_sellable_r2
  exact (List.forall_mem_cons.mpr ⟨wd_653, (List.forall_mem_cons.mpr ⟨wd_652, (List.forall_mem_cons.mpr ⟨wd_651, (List.forall_mem_cons.mpr ⟨wd_650, (List.forall_mem_cons.mpr ⟨wd_649, (List.forall_mem_cons.mpr ⟨wd_644, (List.forall_mem_cons.mpr ⟨wd_643, (List.forall_mem_cons.mpr ⟨wd_642, (List.forall_mem_cons.mpr ⟨wd_641, (List.forall_mem_cons.mpr ⟨wd_640, (List.forall_mem_cons.mpr ⟨wd_639, (List.forall_mem_cons.mpr ⟨wd_638, (List.forall_mem_cons.mpr ⟨wd_637, (List.forall_mem_cons.mpr ⟨wd_636, (List.forall_mem_cons.mpr ⟨wd_635, (List.forall_mem_cons.mpr ⟨wd_634, (List.forall_mem_cons.mpr ⟨wd_633, (List.forall_mem_cons.mpr ⟨wd_632, (List.forall_mem_cons.mpr ⟨wd_631, (List.forall_mem_cons.mpr ⟨wd_665, (List.forall_mem_cons.mpr ⟨wd_664, (List.forall_mem_cons.mpr ⟨wd_663, (List.forall_mem_cons.mpr ⟨wd_662, (List.forall_mem_cons.mpr ⟨wd_661, (fun _ h => absurd h List.not_mem_nil)⟩)⟩)⟩)⟩)⟩)⟩)⟩)⟩)⟩)⟩)⟩)⟩)⟩)⟩)⟩)⟩)⟩)⟩)⟩)⟩)⟩)⟩)⟩)⟩)
set_option maxRecDepth 20000 in
theorem hl_wsX12_sellable_r3 : ∀ w ∈ wsX12_sellable_r3, w ∈ lw_tbl := by
  unfold wsX12_sellable_r3
  exact (List.forall_mem_cons.mpr ⟨wd_660, (List.forall_mem_cons.mpr ⟨wd_659, (List.forall_mem_cons.mpr ⟨wd_658, (List.forall_mem_cons.mpr ⟨wd_657, (List.forall_mem_cons.mpr ⟨wd_656, (List.forall_mem_cons.mpr ⟨wd_655, (List.forall_mem_cons.mpr ⟨wd_1095, (List.forall_mem_cons.mpr ⟨wd_1094, (List.forall_mem_cons.mpr ⟨wd_1093, (List.forall_mem_cons.mpr ⟨wd_1092, (fun _ h => absurd h List.not_mem_nil)⟩)⟩)⟩)⟩)⟩)⟩)⟩)⟩)⟩)⟩)
set_option maxRecDepth 20000 in
theorem hl_wsX12_sellable : ∀ w ∈ wsX12_sellable, w ∈ lw_tbl := by
  unfold wsX12_sellable
  exact (List.forall_mem_cons.mpr ⟨wd_1200, (List.forall_mem_append.mpr ⟨(List.forall_mem_append.mpr ⟨hl_wsX12_sellable_r1, (List.forall_mem_append.mpr ⟨hl_wsX12_sellable_r2, hl_wsX12_sellable_r3⟩)⟩), hl_wsX120⟩)⟩)
def tL_sellable : List Cond := (wsV RL 102 RX11 yX11_sellable wsX11_sellable) ++ (wsV RL 105 RX12 yX12_sellable wsX12_sellable)
theorem tL_sellable_in : ∀ w ∈ tL_sellable, w ∈ lw_tbl := by
  unfold tL_sellable
  exact (List.forall_mem_append.mpr ⟨(List.forall_mem_append.mpr ⟨(List.forall_mem_cons.mpr ⟨wd_1191, (List.forall_mem_cons.mpr ⟨wd_1190, (List.forall_mem_cons.mpr ⟨wd_1189, (List.forall_mem_cons.mpr ⟨wd_0, (fun _ h => absurd h List.not_mem_nil)⟩)⟩)⟩)⟩), hl_wsX11_sellable⟩), (List.forall_mem_append.mpr ⟨(List.forall_mem_cons.mpr ⟨wd_1199, (List.forall_mem_cons.mpr ⟨wd_1198, (List.forall_mem_cons.mpr ⟨wd_1197, (List.forall_mem_cons.mpr ⟨wd_27, (fun _ h => absurd h List.not_mem_nil)⟩)⟩)⟩)⟩), hl_wsX12_sellable⟩)⟩)
set_option maxRecDepth 20000 in
theorem tL_sellable_x : GoodIn tL_sellable (wsV RL 102 RX11 yX11_sellable wsX11_sellable) := fun w h => ⟨List.mem_append_left _ h, good_of_word (List.all_eq_true.mp (show (wsV RL 102 RX11 yX11_sellable wsX11_sellable).all goodWord = true by decide +kernel) w h)⟩
set_option maxRecDepth 20000 in
theorem tL_sellable_m : GoodIn tL_sellable (wsV RL 105 RX12 yX12_sellable wsX12_sellable) := fun w h => ⟨List.mem_append_right _ h, good_of_word (List.all_eq_true.mp (show (wsV RL 105 RX12 yX12_sellable wsX12_sellable).all goodWord = true by decide +kernel) w h)⟩
theorem hdLX11_sellable : yX11_sellable.cls = RX11 ∧ yX11_sellable.cls ≠ "java/lang/invoke/MethodHandle" ∧ yX11_sellable.cls ≠ "java/lang/invoke/VarHandle" ∧ (parseMethodDescriptor yX11_sellable.desc).map (fun d => d.parameters.length) = some 0 := by decide +kernel
theorem hdLX12_sellable : yX12_sellable.cls = RX12 ∧ yX12_sellable.cls ≠ "java/lang/invoke/MethodHandle" ∧ yX12_sellable.cls ≠ "java/lang/invoke/VarHandle" ∧ (parseMethodDescriptor yX12_sellable.desc).map (fun d => d.parameters.length) = some 0 := by decide +kernel
theorem wd_1206 : Cond.selects RX11 yX11_guards yX11_guards ∈ lw_tbl := mt_5 (List.mem_of_getElem? (i := 30) rfl)
theorem wd_1207 : Cond.instanceMethod yX11_guards ∈ lw_tbl := mt_5 (List.mem_of_getElem? (i := 29) rfl)
theorem wd_1208 : Cond.methodLink RL 106 yX11_guards ∈ lw_tbl := mt_5 (List.mem_of_getElem? (i := 28) rfl)
theorem wd_1209 : Cond.code yX11_guards cX11_guards 3 (some .int) ∈ lw_tbl := mt_5 (List.mem_of_getElem? (i := 31) rfl)
set_option maxRecDepth 20000 in
theorem hl_wsX11_guards_r1 : ∀ w ∈ wsX11_guards_r1, w ∈ lw_tbl := by
  unfold wsX11_guards_r1
  exact (List.forall_mem_cons.mpr ⟨wd_1034, (List.forall_mem_cons.mpr ⟨wd_85, (List.forall_mem_cons.mpr ⟨wd_84, (List.forall_mem_cons.mpr ⟨wd_555, (List.forall_mem_cons.mpr ⟨wd_550, (List.forall_mem_cons.mpr ⟨wd_1033, (List.forall_mem_cons.mpr ⟨wd_1032, (List.forall_mem_cons.mpr ⟨wd_1031, (List.forall_mem_cons.mpr ⟨wd_1030, (List.forall_mem_cons.mpr ⟨wd_1029, (List.forall_mem_cons.mpr ⟨wd_1028, (List.forall_mem_cons.mpr ⟨wd_1027, (List.forall_mem_cons.mpr ⟨wd_1026, (List.forall_mem_cons.mpr ⟨wd_1025, (List.forall_mem_cons.mpr ⟨wd_1024, (List.forall_mem_cons.mpr ⟨wd_1023, (List.forall_mem_cons.mpr ⟨wd_1022, (List.forall_mem_cons.mpr ⟨wd_1021, (List.forall_mem_cons.mpr ⟨wd_1020, (List.forall_mem_cons.mpr ⟨wd_1019, (List.forall_mem_cons.mpr ⟨wd_1018, (List.forall_mem_cons.mpr ⟨wd_1017, (List.forall_mem_cons.mpr ⟨wd_1016, (List.forall_mem_cons.mpr ⟨wd_744, (fun _ h => absurd h List.not_mem_nil)⟩)⟩)⟩)⟩)⟩)⟩)⟩)⟩)⟩)⟩)⟩)⟩)⟩)⟩)⟩)⟩)⟩)⟩)⟩)⟩)⟩)⟩)⟩)⟩)
set_option maxRecDepth 20000 in
theorem hl_wsX11_guards_r2 : ∀ w ∈ wsX11_guards_r2, w ∈ lw_tbl := by
  unfold wsX11_guards_r2
  exact (List.forall_mem_cons.mpr ⟨wd_743, (List.forall_mem_cons.mpr ⟨wd_102, (List.forall_mem_cons.mpr ⟨wd_742, (List.forall_mem_cons.mpr ⟨wd_100, (List.forall_mem_cons.mpr ⟨wd_1040, (List.forall_mem_cons.mpr ⟨wd_543, (List.forall_mem_cons.mpr ⟨wd_542, (List.forall_mem_cons.mpr ⟨wd_362, (List.forall_mem_cons.mpr ⟨wd_541, (List.forall_mem_cons.mpr ⟨wd_540, (List.forall_mem_cons.mpr ⟨wd_578, (List.forall_mem_cons.mpr ⟨wd_577, (List.forall_mem_cons.mpr ⟨wd_360, (List.forall_mem_cons.mpr ⟨wd_576, (List.forall_mem_cons.mpr ⟨wd_575, (List.forall_mem_cons.mpr ⟨wd_574, (List.forall_mem_cons.mpr ⟨wd_573, (List.forall_mem_cons.mpr ⟨wd_1039, (List.forall_mem_cons.mpr ⟨wd_358, (List.forall_mem_cons.mpr ⟨wd_357, (List.forall_mem_cons.mpr ⟨wd_356, (List.forall_mem_cons.mpr ⟨wd_1038, (List.forall_mem_cons.mpr ⟨wd_1037, (List.forall_mem_cons.mpr ⟨wd_1036, (fun _ h => absurd h List.not_mem_nil)⟩)⟩)⟩)⟩)⟩)⟩)⟩)⟩)⟩)⟩)⟩)⟩)⟩)⟩)⟩)⟩)⟩)⟩)⟩)⟩)⟩)⟩)⟩)⟩)
set_option maxRecDepth 20000 in
theorem hl_wsX11_guards_r3 : ∀ w ∈ wsX11_guards_r3, w ∈ lw_tbl := by
  unfold wsX11_guards_r3
  exact (List.forall_mem_cons.mpr ⟨wd_1035, (List.forall_mem_cons.mpr ⟨wd_1043, (List.forall_mem_cons.mpr ⟨wd_1042, (List.forall_mem_cons.mpr ⟨wd_1041, (List.forall_mem_cons.mpr ⟨wd_571, (List.forall_mem_cons.mpr ⟨wd_570, (List.forall_mem_cons.mpr ⟨wd_569, (List.forall_mem_cons.mpr ⟨wd_568, (List.forall_mem_cons.mpr ⟨wd_134, (List.forall_mem_cons.mpr ⟨wd_133, (List.forall_mem_cons.mpr ⟨wd_132, (List.forall_mem_cons.mpr ⟨wd_567, (List.forall_mem_cons.mpr ⟨wd_566, (List.forall_mem_cons.mpr ⟨wd_565, (List.forall_mem_cons.mpr ⟨wd_564, (List.forall_mem_cons.mpr ⟨wd_563, (List.forall_mem_cons.mpr ⟨wd_562, (List.forall_mem_cons.mpr ⟨wd_561, (List.forall_mem_cons.mpr ⟨wd_560, (List.forall_mem_cons.mpr ⟨wd_559, (List.forall_mem_cons.mpr ⟨wd_602, (List.forall_mem_cons.mpr ⟨wd_601, (List.forall_mem_cons.mpr ⟨wd_600, (List.forall_mem_cons.mpr ⟨wd_599, (fun _ h => absurd h List.not_mem_nil)⟩)⟩)⟩)⟩)⟩)⟩)⟩)⟩)⟩)⟩)⟩)⟩)⟩)⟩)⟩)⟩)⟩)⟩)⟩)⟩)⟩)⟩)⟩)⟩)
set_option maxRecDepth 20000 in
theorem hl_wsX11_guards_r4 : ∀ w ∈ wsX11_guards_r4, w ∈ lw_tbl := by
  unfold wsX11_guards_r4
  exact (List.forall_mem_cons.mpr ⟨wd_598, (List.forall_mem_cons.mpr ⟨wd_597, (List.forall_mem_cons.mpr ⟨wd_596, (List.forall_mem_cons.mpr ⟨wd_595, (List.forall_mem_cons.mpr ⟨wd_594, (List.forall_mem_cons.mpr ⟨wd_593, (List.forall_mem_cons.mpr ⟨wd_592, (List.forall_mem_cons.mpr ⟨wd_591, (List.forall_mem_cons.mpr ⟨wd_590, (List.forall_mem_cons.mpr ⟨wd_589, (List.forall_mem_cons.mpr ⟨wd_588, (List.forall_mem_cons.mpr ⟨wd_587, (List.forall_mem_cons.mpr ⟨wd_586, (List.forall_mem_cons.mpr ⟨wd_585, (List.forall_mem_cons.mpr ⟨wd_584, (List.forall_mem_cons.mpr ⟨wd_583, (List.forall_mem_cons.mpr ⟨wd_582, (List.forall_mem_cons.mpr ⟨wd_581, (List.forall_mem_cons.mpr ⟨wd_580, (List.forall_mem_cons.mpr ⟨wd_579, (List.forall_mem_cons.mpr ⟨wd_608, (List.forall_mem_cons.mpr ⟨wd_607, (List.forall_mem_cons.mpr ⟨wd_606, (List.forall_mem_cons.mpr ⟨wd_605, (fun _ h => absurd h List.not_mem_nil)⟩)⟩)⟩)⟩)⟩)⟩)⟩)⟩)⟩)⟩)⟩)⟩)⟩)⟩)⟩)⟩)⟩)⟩)⟩)⟩)⟩)⟩)⟩)⟩)
set_option maxRecDepth 20000 in
theorem hl_wsX11_guards_r5 : ∀ w ∈ wsX11_guards_r5, w ∈ lw_tbl := by
  unfold wsX11_guards_r5
  exact (List.forall_mem_cons.mpr ⟨wd_604, (List.forall_mem_cons.mpr ⟨wd_603, (List.forall_mem_cons.mpr ⟨wd_1064, (List.forall_mem_cons.mpr ⟨wd_1063, (List.forall_mem_cons.mpr ⟨wd_1062, (List.forall_mem_cons.mpr ⟨wd_1061, (List.forall_mem_cons.mpr ⟨wd_1060, (List.forall_mem_cons.mpr ⟨wd_1059, (List.forall_mem_cons.mpr ⟨wd_1058, (List.forall_mem_cons.mpr ⟨wd_1057, (List.forall_mem_cons.mpr ⟨wd_1056, (List.forall_mem_cons.mpr ⟨wd_1055, (List.forall_mem_cons.mpr ⟨wd_1054, (List.forall_mem_cons.mpr ⟨wd_1053, (List.forall_mem_cons.mpr ⟨wd_1052, (List.forall_mem_cons.mpr ⟨wd_1051, (List.forall_mem_cons.mpr ⟨wd_1050, (List.forall_mem_cons.mpr ⟨wd_1049, (List.forall_mem_cons.mpr ⟨wd_1048, (List.forall_mem_cons.mpr ⟨wd_1047, (List.forall_mem_cons.mpr ⟨wd_1046, (List.forall_mem_cons.mpr ⟨wd_1045, (List.forall_mem_cons.mpr ⟨wd_1044, (fun _ h => absurd h List.not_mem_nil)⟩)⟩)⟩)⟩)⟩)⟩)⟩)⟩)⟩)⟩)⟩)⟩)⟩)⟩)⟩)⟩)⟩)⟩)⟩)⟩)⟩)⟩)⟩)
set_option maxRecDepth 20000 in
theorem hl_wsX11_guards : ∀ w ∈ wsX11_guards, w ∈ lw_tbl := by
  unfold wsX11_guards
  exact (List.forall_mem_cons.mpr ⟨wd_1209, (List.forall_mem_append.mpr ⟨(List.forall_mem_append.mpr ⟨(List.forall_mem_append.mpr ⟨(List.forall_mem_append.mpr ⟨(List.forall_mem_append.mpr ⟨(List.forall_mem_append.mpr ⟨hl_wsX11_guards_r1, (List.forall_mem_append.mpr ⟨hl_wsX11_guards_r2, (List.forall_mem_append.mpr ⟨hl_wsX11_guards_r3, (List.forall_mem_append.mpr ⟨hl_wsX11_guards_r4, hl_wsX11_guards_r5⟩)⟩)⟩)⟩), hl_wsX110⟩), hl_wsX90⟩), hl_wsX50⟩), hl_wsX40⟩), hl_wsX70⟩)⟩)
theorem wd_1210 : Cond.selects RX12 yX12_guards yX12_guards ∈ lw_tbl := mt_8 (List.mem_of_getElem? (i := 20) rfl)
theorem wd_1211 : Cond.instanceMethod yX12_guards ∈ lw_tbl := mt_8 (List.mem_of_getElem? (i := 19) rfl)
theorem wd_1212 : Cond.methodLink RL 109 yX12_guards ∈ lw_tbl := mt_8 (List.mem_of_getElem? (i := 18) rfl)
theorem wd_1213 : Cond.code yX12_guards cX12_guards 4 (some .int) ∈ lw_tbl := mt_8 (List.mem_of_getElem? (i := 21) rfl)
set_option maxRecDepth 20000 in
theorem hl_wsX12_guards_r1 : ∀ w ∈ wsX12_guards_r1, w ∈ lw_tbl := by
  unfold wsX12_guards_r1
  exact (List.forall_mem_cons.mpr ⟨wd_34, (List.forall_mem_cons.mpr ⟨wd_423, (List.forall_mem_cons.mpr ⟨wd_1091, (List.forall_mem_cons.mpr ⟨wd_1090, (List.forall_mem_cons.mpr ⟨wd_1089, (List.forall_mem_cons.mpr ⟨wd_27, (List.forall_mem_cons.mpr ⟨wd_1088, (List.forall_mem_cons.mpr ⟨wd_1087, (List.forall_mem_cons.mpr ⟨wd_1086, (List.forall_mem_cons.mpr ⟨wd_1085, (List.forall_mem_cons.mpr ⟨wd_1084, (List.forall_mem_cons.mpr ⟨wd_1083, (List.forall_mem_cons.mpr ⟨wd_648, (List.forall_mem_cons.mpr ⟨wd_647, (List.forall_mem_cons.mpr ⟨wd_646, (List.forall_mem_cons.mpr ⟨wd_645, (List.forall_mem_cons.mpr ⟨wd_618, (List.forall_mem_cons.mpr ⟨wd_617, (List.forall_mem_cons.mpr ⟨wd_616, (List.forall_mem_cons.mpr ⟨wd_615, (List.forall_mem_cons.mpr ⟨wd_614, (List.forall_mem_cons.mpr ⟨wd_613, (List.forall_mem_cons.mpr ⟨wd_654, (List.forall_mem_cons.mpr ⟨wd_653, (fun _ h => absurd h List.not_mem_nil)⟩)⟩)⟩)⟩)⟩)⟩)⟩)⟩)⟩)⟩)⟩)⟩)⟩)⟩)⟩)⟩)⟩)⟩)⟩)⟩)⟩)⟩)⟩)⟩)
set_option maxRecDepth 20000 in
theorem hl_wsX12_guards_r2 : ∀ w ∈ wsX12_guards_r2, w ∈ lw_tbl := by
  unfold wsX12_guards_r2
  exact (List.forall_mem_cons.mpr ⟨wd_652, (List.forall_mem_cons.mpr ⟨wd_651, (List.forall_mem_cons.mpr ⟨wd_650, (List.forall_mem_cons.mpr ⟨wd_649, (List.forall_mem_cons.mpr ⟨wd_644, (List.forall_mem_cons.mpr ⟨wd_643, (List.forall_mem_cons.mpr ⟨wd_642, (List.forall_mem_cons.mpr ⟨wd_641, (List.forall_mem_cons.mpr ⟨wd_640, (List.forall_mem_cons.mpr ⟨wd_639, (List.forall_mem_cons.mpr ⟨wd_638, (List.forall_mem_cons.mpr ⟨wd_637, (List.forall_mem_cons.mpr ⟨wd_636, (List.forall_mem_cons.mpr ⟨wd_635, (List.forall_mem_cons.mpr ⟨wd_634, (List.forall_mem_cons.mpr ⟨wd_633, (List.forall_mem_cons.mpr ⟨wd_632, (List.forall_mem_cons.mpr ⟨wd_631, (List.forall_mem_cons.mpr ⟨wd_665, (List.forall_mem_cons.mpr ⟨wd_664, (List.forall_mem_cons.mpr ⟨wd_663, (List.forall_mem_cons.mpr ⟨wd_662, (List.forall_mem_cons.mpr ⟨wd_661, (List.forall_mem_cons.mpr ⟨wd_660, (fun _ h => absurd h List.not_mem_nil)⟩)⟩)⟩)⟩)⟩)⟩)⟩)⟩)⟩)⟩)⟩)⟩)⟩)⟩)⟩)⟩)⟩)⟩)⟩)⟩)⟩)⟩)⟩)⟩)
set_option maxRecDepth 20000 in
theorem hl_wsX12_guards_r3 : ∀ w ∈ wsX12_guards_r3, w ∈ lw_tbl := by
  unfold wsX12_guards_r3
  exact (List.forall_mem_cons.mpr ⟨wd_659, (List.forall_mem_cons.mpr ⟨wd_658, (List.forall_mem_cons.mpr ⟨wd_657, (List.forall_mem_cons.mpr ⟨wd_656, (List.forall_mem_cons.mpr ⟨wd_655, (List.forall_mem_cons.mpr ⟨wd_1101, (List.forall_mem_cons.mpr ⟨wd_1100, (List.forall_mem_cons.mpr ⟨wd_1099, (List.forall_mem_cons.mpr ⟨wd_1098, (List.forall_mem_cons.mpr ⟨wd_1097, (List.forall_mem_cons.mpr ⟨wd_1096, (List.forall_mem_cons.mpr ⟨wd_1095, (List.forall_mem_cons.mpr ⟨wd_1094, (List.forall_mem_cons.mpr ⟨wd_1093, (List.forall_mem_cons.mpr ⟨wd_1092, (fun _ h => absurd h List.not_mem_nil)⟩)⟩)⟩)⟩)⟩)⟩)⟩)⟩)⟩)⟩)⟩)⟩)⟩)⟩)⟩)
set_option maxRecDepth 20000 in
theorem hl_wsX12_guards : ∀ w ∈ wsX12_guards, w ∈ lw_tbl := by
  unfold wsX12_guards
  exact (List.forall_mem_cons.mpr ⟨wd_1213, (List.forall_mem_append.mpr ⟨(List.forall_mem_append.mpr ⟨hl_wsX12_guards_r1, (List.forall_mem_append.mpr ⟨hl_wsX12_guards_r2, hl_wsX12_guards_r3⟩)⟩), hl_wsX120⟩)⟩)
def tL_guards : List Cond := (wsV RL 106 RX11 yX11_guards wsX11_guards) ++ (wsV RL 109 RX12 yX12_guards wsX12_guards)
theorem tL_guards_in : ∀ w ∈ tL_guards, w ∈ lw_tbl := by
  unfold tL_guards
  exact (List.forall_mem_append.mpr ⟨(List.forall_mem_append.mpr ⟨(List.forall_mem_cons.mpr ⟨wd_1208, (List.forall_mem_cons.mpr ⟨wd_1207, (List.forall_mem_cons.mpr ⟨wd_1206, (List.forall_mem_cons.mpr ⟨wd_0, (fun _ h => absurd h List.not_mem_nil)⟩)⟩)⟩)⟩), hl_wsX11_guards⟩), (List.forall_mem_append.mpr ⟨(List.forall_mem_cons.mpr ⟨wd_1212, (List.forall_mem_cons.mpr ⟨wd_1211, (List.forall_mem_cons.mpr ⟨wd_1210, (List.forall_mem_cons.mpr ⟨wd_27, (fun _ h => absurd h List.not_mem_nil)⟩)⟩)⟩)⟩), hl_wsX12_guards⟩)⟩)
set_option maxRecDepth 20000 in
theorem tL_guards_x : GoodIn tL_guards (wsV RL 106 RX11 yX11_guards wsX11_guards) := fun w h => ⟨List.mem_append_left _ h, good_of_word (List.all_eq_true.mp (show (wsV RL 106 RX11 yX11_guards wsX11_guards).all goodWord = true by decide +kernel) w h)⟩
set_option maxRecDepth 20000 in
theorem tL_guards_m : GoodIn tL_guards (wsV RL 109 RX12 yX12_guards wsX12_guards) := fun w h => ⟨List.mem_append_right _ h, good_of_word (List.all_eq_true.mp (show (wsV RL 109 RX12 yX12_guards wsX12_guards).all goodWord = true by decide +kernel) w h)⟩
theorem hdLX11_guards : yX11_guards.cls = RX11 ∧ yX11_guards.cls ≠ "java/lang/invoke/MethodHandle" ∧ yX11_guards.cls ≠ "java/lang/invoke/VarHandle" ∧ (parseMethodDescriptor yX11_guards.desc).map (fun d => d.parameters.length) = some 0 := by decide +kernel
theorem hdLX12_guards : yX12_guards.cls = RX12 ∧ yX12_guards.cls ≠ "java/lang/invoke/MethodHandle" ∧ yX12_guards.cls ≠ "java/lang/invoke/VarHandle" ∧ (parseMethodDescriptor yX12_guards.desc).map (fun d => d.parameters.length) = some 0 := by decide +kernel
theorem wd_1214 : Cond.selects RX11 yX11_last yX11_last ∈ lw_tbl := mt_5 (List.mem_of_getElem? (i := 34) rfl)
theorem wd_1215 : Cond.instanceMethod yX11_last ∈ lw_tbl := mt_5 (List.mem_of_getElem? (i := 33) rfl)
theorem wd_1216 : Cond.methodLink RL 110 yX11_last ∈ lw_tbl := mt_5 (List.mem_of_getElem? (i := 32) rfl)
theorem wd_1217 : Cond.code yX11_last cX11_last 1 (some .int) ∈ lw_tbl := mt_5 (List.mem_of_getElem? (i := 35) rfl)
set_option maxRecDepth 20000 in
theorem hl_wsX11_last_r1 : ∀ w ∈ wsX11_last_r1, w ∈ lw_tbl := by
  unfold wsX11_last_r1
  exact (List.forall_mem_cons.mpr ⟨wd_1034, (List.forall_mem_cons.mpr ⟨wd_85, (List.forall_mem_cons.mpr ⟨wd_84, (List.forall_mem_cons.mpr ⟨wd_555, (List.forall_mem_cons.mpr ⟨wd_1033, (List.forall_mem_cons.mpr ⟨wd_1032, (List.forall_mem_cons.mpr ⟨wd_1031, (List.forall_mem_cons.mpr ⟨wd_1030, (List.forall_mem_cons.mpr ⟨wd_1029, (List.forall_mem_cons.mpr ⟨wd_1028, (List.forall_mem_cons.mpr ⟨wd_1027, (List.forall_mem_cons.mpr ⟨wd_1026, (List.forall_mem_cons.mpr ⟨wd_1025, (List.forall_mem_cons.mpr ⟨wd_1024, (List.forall_mem_cons.mpr ⟨wd_1023, (List.forall_mem_cons.mpr ⟨wd_1022, (List.forall_mem_cons.mpr ⟨wd_1021, (List.forall_mem_cons.mpr ⟨wd_1020, (List.forall_mem_cons.mpr ⟨wd_1019, (List.forall_mem_cons.mpr ⟨wd_1018, (List.forall_mem_cons.mpr ⟨wd_1017, (List.forall_mem_cons.mpr ⟨wd_1016, (List.forall_mem_cons.mpr ⟨wd_744, (List.forall_mem_cons.mpr ⟨wd_743, (fun _ h => absurd h List.not_mem_nil)⟩)⟩)⟩)⟩)⟩)⟩)⟩)⟩)⟩)⟩)⟩)⟩)⟩)⟩)⟩)⟩)⟩)⟩)⟩)⟩)⟩)⟩)⟩)⟩)
set_option maxRecDepth 20000 in
theorem hl_wsX11_last_r2 : ∀ w ∈ wsX11_last_r2, w ∈ lw_tbl := by
  unfold wsX11_last_r2
  exact (List.forall_mem_cons.mpr ⟨wd_102, (List.forall_mem_cons.mpr ⟨wd_742, (List.forall_mem_cons.mpr ⟨wd_100, (List.forall_mem_cons.mpr ⟨wd_1040, (List.forall_mem_cons.mpr ⟨wd_543, (List.forall_mem_cons.mpr ⟨wd_542, (List.forall_mem_cons.mpr ⟨wd_362, (List.forall_mem_cons.mpr ⟨wd_541, (List.forall_mem_cons.mpr ⟨wd_540, (List.forall_mem_cons.mpr ⟨wd_578, (List.forall_mem_cons.mpr ⟨wd_577, (List.forall_mem_cons.mpr ⟨wd_360, (List.forall_mem_cons.mpr ⟨wd_576, (List.forall_mem_cons.mpr ⟨wd_575, (List.forall_mem_cons.mpr ⟨wd_574, (List.forall_mem_cons.mpr ⟨wd_573, (List.forall_mem_cons.mpr ⟨wd_1039, (List.forall_mem_cons.mpr ⟨wd_358, (List.forall_mem_cons.mpr ⟨wd_357, (List.forall_mem_cons.mpr ⟨wd_356, (List.forall_mem_cons.mpr ⟨wd_1038, (List.forall_mem_cons.mpr ⟨wd_1037, (List.forall_mem_cons.mpr ⟨wd_1036, (List.forall_mem_cons.mpr ⟨wd_1035, (fun _ h => absurd h List.not_mem_nil)⟩)⟩)⟩)⟩)⟩)⟩)⟩)⟩)⟩)⟩)⟩)⟩)⟩)⟩)⟩)⟩)⟩)⟩)⟩)⟩)⟩)⟩)⟩)⟩)
set_option maxRecDepth 20000 in
theorem hl_wsX11_last_r3 : ∀ w ∈ wsX11_last_r3, w ∈ lw_tbl := by
  unfold wsX11_last_r3
  exact (List.forall_mem_cons.mpr ⟨wd_1043, (List.forall_mem_cons.mpr ⟨wd_1042, (List.forall_mem_cons.mpr ⟨wd_1041, (List.forall_mem_cons.mpr ⟨wd_571, (List.forall_mem_cons.mpr ⟨wd_570, (List.forall_mem_cons.mpr ⟨wd_569, (List.forall_mem_cons.mpr ⟨wd_568, (List.forall_mem_cons.mpr ⟨wd_134, (List.forall_mem_cons.mpr ⟨wd_133, (List.forall_mem_cons.mpr ⟨wd_132, (List.forall_mem_cons.mpr ⟨wd_567, (List.forall_mem_cons.mpr ⟨wd_566, (List.forall_mem_cons.mpr ⟨wd_565, (List.forall_mem_cons.mpr ⟨wd_564, (List.forall_mem_cons.mpr ⟨wd_563, (List.forall_mem_cons.mpr ⟨wd_562, (List.forall_mem_cons.mpr ⟨wd_561, (List.forall_mem_cons.mpr ⟨wd_560, (List.forall_mem_cons.mpr ⟨wd_559, (List.forall_mem_cons.mpr ⟨wd_602, (List.forall_mem_cons.mpr ⟨wd_601, (List.forall_mem_cons.mpr ⟨wd_600, (List.forall_mem_cons.mpr ⟨wd_599, (List.forall_mem_cons.mpr ⟨wd_598, (fun _ h => absurd h List.not_mem_nil)⟩)⟩)⟩)⟩)⟩)⟩)⟩)⟩)⟩)⟩)⟩)⟩)⟩)⟩)⟩)⟩)⟩)⟩)⟩)⟩)⟩)⟩)⟩)⟩)
set_option maxRecDepth 20000 in
theorem hl_wsX11_last_r4 : ∀ w ∈ wsX11_last_r4, w ∈ lw_tbl := by
  unfold wsX11_last_r4
  exact (List.forall_mem_cons.mpr ⟨wd_597, (List.forall_mem_cons.mpr ⟨wd_596, (List.forall_mem_cons.mpr ⟨wd_595, (List.forall_mem_cons.mpr ⟨wd_594, (List.forall_mem_cons.mpr ⟨wd_593, (List.forall_mem_cons.mpr ⟨wd_592, (List.forall_mem_cons.mpr ⟨wd_591, (List.forall_mem_cons.mpr ⟨wd_590, (List.forall_mem_cons.mpr ⟨wd_589, (List.forall_mem_cons.mpr ⟨wd_588, (List.forall_mem_cons.mpr ⟨wd_587, (List.forall_mem_cons.mpr ⟨wd_586, (List.forall_mem_cons.mpr ⟨wd_585, (List.forall_mem_cons.mpr ⟨wd_584, (List.forall_mem_cons.mpr ⟨wd_583, (List.forall_mem_cons.mpr ⟨wd_582, (List.forall_mem_cons.mpr ⟨wd_581, (List.forall_mem_cons.mpr ⟨wd_580, (List.forall_mem_cons.mpr ⟨wd_579, (List.forall_mem_cons.mpr ⟨wd_608, (List.forall_mem_cons.mpr ⟨wd_607, (List.forall_mem_cons.mpr ⟨wd_606, (List.forall_mem_cons.mpr ⟨wd_605, (List.forall_mem_cons.mpr ⟨wd_604, (fun _ h => absurd h List.not_mem_nil)⟩)⟩)⟩)⟩)⟩)⟩)⟩)⟩)⟩)⟩)⟩)⟩)⟩)⟩)⟩)⟩)⟩)⟩)⟩)⟩)⟩)⟩)⟩)⟩)
theorem wd_1218 : Cond.methodLink RX5 119 yJ6_bitCount_0f7a4 ∈ lw_tbl := mt_5 (List.mem_of_getElem? (i := 40) rfl)
theorem wd_1219 : Cond.code yX5_lastLeft cX5_lastLeft 4 (some .int) ∈ lw_tbl := mt_5 (List.mem_of_getElem? (i := 39) rfl)
theorem wd_1220 : Cond.selects RX5 yX5_lastLeft yX5_lastLeft ∈ lw_tbl := mt_5 (List.mem_of_getElem? (i := 38) rfl)
theorem wd_1221 : Cond.instanceMethod yX5_lastLeft ∈ lw_tbl := mt_5 (List.mem_of_getElem? (i := 37) rfl)
theorem wd_1222 : Cond.methodLink RX11 283 yX5_lastLeft ∈ lw_tbl := mt_5 (List.mem_of_getElem? (i := 36) rfl)
set_option maxRecDepth 20000 in
theorem hl_wsX11_last_r5 : ∀ w ∈ wsX11_last_r5, w ∈ lw_tbl := by
  unfold wsX11_last_r5
  exact (List.forall_mem_cons.mpr ⟨wd_603, (List.forall_mem_cons.mpr ⟨wd_1222, (List.forall_mem_cons.mpr ⟨wd_1221, (List.forall_mem_cons.mpr ⟨wd_1220, (List.forall_mem_cons.mpr ⟨wd_1219, (List.forall_mem_cons.mpr ⟨wd_1218, (fun _ h => absurd h List.not_mem_nil)⟩)⟩)⟩)⟩)⟩)⟩)
set_option maxRecDepth 20000 in
theorem hl_wsX11_last : ∀ w ∈ wsX11_last, w ∈ lw_tbl := by
  unfold wsX11_last
  exact (List.forall_mem_cons.mpr ⟨wd_1217, (List.forall_mem_append.mpr ⟨(List.forall_mem_append.mpr ⟨(List.forall_mem_append.mpr ⟨(List.forall_mem_append.mpr ⟨(List.forall_mem_append.mpr ⟨(List.forall_mem_append.mpr ⟨hl_wsX11_last_r1, (List.forall_mem_append.mpr ⟨hl_wsX11_last_r2, (List.forall_mem_append.mpr ⟨hl_wsX11_last_r3, (List.forall_mem_append.mpr ⟨hl_wsX11_last_r4, hl_wsX11_last_r5⟩)⟩)⟩)⟩), hl_wsX110⟩), hl_wsX90⟩), hl_wsX50⟩), hl_wsX40⟩), hl_wsX70⟩)⟩)
theorem wd_1223 : Cond.selects RX12 yX12_last yX12_last ∈ lw_tbl := mt_8 (List.mem_of_getElem? (i := 24) rfl)
theorem wd_1224 : Cond.instanceMethod yX12_last ∈ lw_tbl := mt_8 (List.mem_of_getElem? (i := 23) rfl)
theorem wd_1225 : Cond.methodLink RL 113 yX12_last ∈ lw_tbl := mt_8 (List.mem_of_getElem? (i := 22) rfl)
theorem wd_1226 : Cond.code yX12_last cX12_last 4 (some .int) ∈ lw_tbl := mt_8 (List.mem_of_getElem? (i := 25) rfl)
set_option maxRecDepth 20000 in
theorem hl_wsX12_last_r1 : ∀ w ∈ wsX12_last_r1, w ∈ lw_tbl := by
  unfold wsX12_last_r1
  exact (List.forall_mem_cons.mpr ⟨wd_34, (List.forall_mem_cons.mpr ⟨wd_1205, (List.forall_mem_cons.mpr ⟨wd_1204, (List.forall_mem_cons.mpr ⟨wd_1203, (List.forall_mem_cons.mpr ⟨wd_1202, (List.forall_mem_cons.mpr ⟨wd_27, (List.forall_mem_cons.mpr ⟨wd_1201, (List.forall_mem_cons.mpr ⟨wd_423, (List.forall_mem_cons.mpr ⟨wd_1087, (List.forall_mem_cons.mpr ⟨wd_1086, (List.forall_mem_cons.mpr ⟨wd_1085, (List.forall_mem_cons.mpr ⟨wd_1084, (List.forall_mem_cons.mpr ⟨wd_1083, (List.forall_mem_cons.mpr ⟨wd_648, (List.forall_mem_cons.mpr ⟨wd_647, (List.forall_mem_cons.mpr ⟨wd_646, (List.forall_mem_cons.mpr ⟨wd_645, (List.forall_mem_cons.mpr ⟨wd_618, (List.forall_mem_cons.mpr ⟨wd_617, (List.forall_mem_cons.mpr ⟨wd_616, (List.forall_mem_cons.mpr ⟨wd_615, (List.forall_mem_cons.mpr ⟨wd_614, (List.forall_mem_cons.mpr ⟨wd_613, (List.forall_mem_cons.mpr ⟨wd_654, (fun _ h => absurd h List.not_mem_nil)⟩)⟩)⟩)⟩)⟩)⟩)⟩)⟩)⟩)⟩)⟩)⟩)⟩)⟩)⟩)⟩)⟩)⟩)⟩)⟩)⟩)⟩)⟩)⟩)
set_option maxRecDepth 20000 in
theorem hl_wsX12_last_r2 : ∀ w ∈ wsX12_last_r2, w ∈ lw_tbl := by
  unfold wsX12_last_r2
  exact (List.forall_mem_cons.mpr ⟨wd_653, (List.forall_mem_cons.mpr ⟨wd_652, (List.forall_mem_cons.mpr ⟨wd_651, (List.forall_mem_cons.mpr ⟨wd_650, (List.forall_mem_cons.mpr ⟨wd_649, (List.forall_mem_cons.mpr ⟨wd_644, (List.forall_mem_cons.mpr ⟨wd_643, (List.forall_mem_cons.mpr ⟨wd_642, (List.forall_mem_cons.mpr ⟨wd_641, (List.forall_mem_cons.mpr ⟨wd_640, (List.forall_mem_cons.mpr ⟨wd_639, (List.forall_mem_cons.mpr ⟨wd_638, (List.forall_mem_cons.mpr ⟨wd_637, (List.forall_mem_cons.mpr ⟨wd_636, (List.forall_mem_cons.mpr ⟨wd_635, (List.forall_mem_cons.mpr ⟨wd_634, (List.forall_mem_cons.mpr ⟨wd_633, (List.forall_mem_cons.mpr ⟨wd_632, (List.forall_mem_cons.mpr ⟨wd_631, (List.forall_mem_cons.mpr ⟨wd_665, (List.forall_mem_cons.mpr ⟨wd_664, (List.forall_mem_cons.mpr ⟨wd_663, (List.forall_mem_cons.mpr ⟨wd_662, (List.forall_mem_cons.mpr ⟨wd_661, (fun _ h => absurd h List.not_mem_nil)⟩)⟩)⟩)⟩)⟩)⟩)⟩)⟩)⟩)⟩)⟩)⟩)⟩)⟩)⟩)⟩)⟩)⟩)⟩)⟩)⟩)⟩)⟩)⟩)
set_option maxRecDepth 20000 in
theorem hl_wsX12_last_r3 : ∀ w ∈ wsX12_last_r3, w ∈ lw_tbl := by
  unfold wsX12_last_r3
  exact (List.forall_mem_cons.mpr ⟨wd_660, (List.forall_mem_cons.mpr ⟨wd_659, (List.forall_mem_cons.mpr ⟨wd_658, (List.forall_mem_cons.mpr ⟨wd_657, (List.forall_mem_cons.mpr ⟨wd_656, (List.forall_mem_cons.mpr ⟨wd_655, (List.forall_mem_cons.mpr ⟨wd_1095, (List.forall_mem_cons.mpr ⟨wd_1094, (List.forall_mem_cons.mpr ⟨wd_1093, (List.forall_mem_cons.mpr ⟨wd_1092, (fun _ h => absurd h List.not_mem_nil)⟩)⟩)⟩)⟩)⟩)⟩)⟩)⟩)⟩)⟩)
set_option maxRecDepth 20000 in
theorem hl_wsX12_last : ∀ w ∈ wsX12_last, w ∈ lw_tbl := by
  unfold wsX12_last
  exact (List.forall_mem_cons.mpr ⟨wd_1226, (List.forall_mem_append.mpr ⟨(List.forall_mem_append.mpr ⟨hl_wsX12_last_r1, (List.forall_mem_append.mpr ⟨hl_wsX12_last_r2, hl_wsX12_last_r3⟩)⟩), hl_wsX120⟩)⟩)
def tL_last : List Cond := (wsV RL 110 RX11 yX11_last wsX11_last) ++ (wsV RL 113 RX12 yX12_last wsX12_last)
theorem tL_last_in : ∀ w ∈ tL_last, w ∈ lw_tbl := by
  unfold tL_last
  exact (List.forall_mem_append.mpr ⟨(List.forall_mem_append.mpr ⟨(List.forall_mem_cons.mpr ⟨wd_1216, (List.forall_mem_cons.mpr ⟨wd_1215, (List.forall_mem_cons.mpr ⟨wd_1214, (List.forall_mem_cons.mpr ⟨wd_0, (fun _ h => absurd h List.not_mem_nil)⟩)⟩)⟩)⟩), hl_wsX11_last⟩), (List.forall_mem_append.mpr ⟨(List.forall_mem_cons.mpr ⟨wd_1225, (List.forall_mem_cons.mpr ⟨wd_1224, (List.forall_mem_cons.mpr ⟨wd_1223, (List.forall_mem_cons.mpr ⟨wd_27, (fun _ h => absurd h List.not_mem_nil)⟩)⟩)⟩)⟩), hl_wsX12_last⟩)⟩)
set_option maxRecDepth 20000 in
theorem tL_last_x : GoodIn tL_last (wsV RL 110 RX11 yX11_last wsX11_last) := fun w h => ⟨List.mem_append_left _ h, good_of_word (List.all_eq_true.mp (show (wsV RL 110 RX11 yX11_last wsX11_last).all goodWord = true by decide +kernel) w h)⟩
set_option maxRecDepth 20000 in
theorem tL_last_m : GoodIn tL_last (wsV RL 113 RX12 yX12_last wsX12_last) := fun w h => ⟨List.mem_append_right _ h, good_of_word (List.all_eq_true.mp (show (wsV RL 113 RX12 yX12_last wsX12_last).all goodWord = true by decide +kernel) w h)⟩
theorem hdLX11_last : yX11_last.cls = RX11 ∧ yX11_last.cls ≠ "java/lang/invoke/MethodHandle" ∧ yX11_last.cls ≠ "java/lang/invoke/VarHandle" ∧ (parseMethodDescriptor yX11_last.desc).map (fun d => d.parameters.length) = some 0 := by decide +kernel
theorem hdLX12_last : yX12_last.cls = RX12 ∧ yX12_last.cls ≠ "java/lang/invoke/MethodHandle" ∧ yX12_last.cls ≠ "java/lang/invoke/VarHandle" ∧ (parseMethodDescriptor yX12_last.desc).map (fun d => d.parameters.length) = some 0 := by decide +kernel
theorem wd_1227 : Cond.selects RX11 yX11_open yX11_open ∈ lw_tbl := mt_5 (List.mem_of_getElem? (i := 43) rfl)
theorem wd_1228 : Cond.instanceMethod yX11_open ∈ lw_tbl := mt_5 (List.mem_of_getElem? (i := 42) rfl)
theorem wd_1229 : Cond.methodLink RL 114 yX11_open ∈ lw_tbl := mt_5 (List.mem_of_getElem? (i := 41) rfl)
theorem wd_1230 : Cond.code yX11_open cX11_open 4 (some .long) ∈ lw_tbl := mt_5 (List.mem_of_getElem? (i := 44) rfl)
theorem wd_1231 : Cond.code yX11_chanceRefusal cX11_chanceRefusal 3 (some .int) ∈ lw_tbl := mt_5 (List.mem_of_getElem? (i := 47) rfl)
theorem wd_1232 : Cond.static yX11_chanceRefusal ∈ lw_tbl := mt_5 (List.mem_of_getElem? (i := 46) rfl)
theorem wd_1233 : Cond.methodLink RX11 286 yX11_chanceRefusal ∈ lw_tbl := mt_5 (List.mem_of_getElem? (i := 45) rfl)
theorem wd_1234 : Cond.fieldLink RX11 296 "OneOfEach$Outlook" "whole" "J" ∈ lw_tbl := mt_2 (List.mem_of_getElem? (i := 26) rfl)
set_option maxRecDepth 20000 in
theorem hl_wsX11_open_r1 : ∀ w ∈ wsX11_open_r1, w ∈ lw_tbl := by
  unfold wsX11_open_r1
  exact (List.forall_mem_cons.mpr ⟨wd_1034, (List.forall_mem_cons.mpr ⟨wd_85, (List.forall_mem_cons.mpr ⟨wd_84, (List.forall_mem_cons.mpr ⟨wd_555, (List.forall_mem_cons.mpr ⟨wd_1234, (List.forall_mem_cons.mpr ⟨wd_1233, (List.forall_mem_cons.mpr ⟨wd_1232, (List.forall_mem_cons.mpr ⟨wd_0, (List.forall_mem_cons.mpr ⟨wd_1231, (List.forall_mem_cons.mpr ⟨wd_1033, (List.forall_mem_cons.mpr ⟨wd_1032, (List.forall_mem_cons.mpr ⟨wd_1031, (List.forall_mem_cons.mpr ⟨wd_1030, (List.forall_mem_cons.mpr ⟨wd_1029, (List.forall_mem_cons.mpr ⟨wd_1028, (List.forall_mem_cons.mpr ⟨wd_1027, (List.forall_mem_cons.mpr ⟨wd_1026, (List.forall_mem_cons.mpr ⟨wd_1025, (List.forall_mem_cons.mpr ⟨wd_1024, (List.forall_mem_cons.mpr ⟨wd_1023, (List.forall_mem_cons.mpr ⟨wd_1022, (List.forall_mem_cons.mpr ⟨wd_1021, (List.forall_mem_cons.mpr ⟨wd_1020, (List.forall_mem_cons.mpr ⟨wd_1019, (fun _ h => absurd h List.not_mem_nil)⟩)⟩)⟩)⟩)⟩)⟩)⟩)⟩)⟩)⟩)⟩)⟩)⟩)⟩)⟩)⟩)⟩)⟩)⟩)⟩)⟩)⟩)⟩)⟩)
set_option maxRecDepth 20000 in
theorem hl_wsX11_open_r2 : ∀ w ∈ wsX11_open_r2, w ∈ lw_tbl := by
  unfold wsX11_open_r2
  exact (List.forall_mem_cons.mpr ⟨wd_1018, (List.forall_mem_cons.mpr ⟨wd_1017, (List.forall_mem_cons.mpr ⟨wd_1016, (List.forall_mem_cons.mpr ⟨wd_744, (List.forall_mem_cons.mpr ⟨wd_743, (List.forall_mem_cons.mpr ⟨wd_102, (List.forall_mem_cons.mpr ⟨wd_742, (List.forall_mem_cons.mpr ⟨wd_100, (List.forall_mem_cons.mpr ⟨wd_1040, (List.forall_mem_cons.mpr ⟨wd_543, (List.forall_mem_cons.mpr ⟨wd_542, (List.forall_mem_cons.mpr ⟨wd_362, (List.forall_mem_cons.mpr ⟨wd_541, (List.forall_mem_cons.mpr ⟨wd_540, (List.forall_mem_cons.mpr ⟨wd_578, (List.forall_mem_cons.mpr ⟨wd_577, (List.forall_mem_cons.mpr ⟨wd_360, (List.forall_mem_cons.mpr ⟨wd_576, (List.forall_mem_cons.mpr ⟨wd_575, (List.forall_mem_cons.mpr ⟨wd_574, (List.forall_mem_cons.mpr ⟨wd_573, (List.forall_mem_cons.mpr ⟨wd_1039, (List.forall_mem_cons.mpr ⟨wd_358, (List.forall_mem_cons.mpr ⟨wd_357, (fun _ h => absurd h List.not_mem_nil)⟩)⟩)⟩)⟩)⟩)⟩)⟩)⟩)⟩)⟩)⟩)⟩)⟩)⟩)⟩)⟩)⟩)⟩)⟩)⟩)⟩)⟩)⟩)⟩)
set_option maxRecDepth 20000 in
theorem hl_wsX11_open_r3 : ∀ w ∈ wsX11_open_r3, w ∈ lw_tbl := by
  unfold wsX11_open_r3
  exact (List.forall_mem_cons.mpr ⟨wd_356, (List.forall_mem_cons.mpr ⟨wd_1038, (List.forall_mem_cons.mpr ⟨wd_1037, (List.forall_mem_cons.mpr ⟨wd_1036, (List.forall_mem_cons.mpr ⟨wd_1035, (List.forall_mem_cons.mpr ⟨wd_1043, (List.forall_mem_cons.mpr ⟨wd_1042, (List.forall_mem_cons.mpr ⟨wd_1041, (List.forall_mem_cons.mpr ⟨wd_571, (List.forall_mem_cons.mpr ⟨wd_570, (List.forall_mem_cons.mpr ⟨wd_569, (List.forall_mem_cons.mpr ⟨wd_568, (List.forall_mem_cons.mpr ⟨wd_134, (List.forall_mem_cons.mpr ⟨wd_133, (List.forall_mem_cons.mpr ⟨wd_132, (List.forall_mem_cons.mpr ⟨wd_567, (List.forall_mem_cons.mpr ⟨wd_566, (List.forall_mem_cons.mpr ⟨wd_565, (List.forall_mem_cons.mpr ⟨wd_564, (List.forall_mem_cons.mpr ⟨wd_563, (List.forall_mem_cons.mpr ⟨wd_562, (List.forall_mem_cons.mpr ⟨wd_561, (List.forall_mem_cons.mpr ⟨wd_560, (List.forall_mem_cons.mpr ⟨wd_559, (fun _ h => absurd h List.not_mem_nil)⟩)⟩)⟩)⟩)⟩)⟩)⟩)⟩)⟩)⟩)⟩)⟩)⟩)⟩)⟩)⟩)⟩)⟩)⟩)⟩)⟩)⟩)⟩)⟩)
set_option maxRecDepth 20000 in
theorem hl_wsX11_open_r4 : ∀ w ∈ wsX11_open_r4, w ∈ lw_tbl := by
  unfold wsX11_open_r4
  exact (List.forall_mem_cons.mpr ⟨wd_602, (List.forall_mem_cons.mpr ⟨wd_601, (List.forall_mem_cons.mpr ⟨wd_600, (List.forall_mem_cons.mpr ⟨wd_599, (List.forall_mem_cons.mpr ⟨wd_598, (List.forall_mem_cons.mpr ⟨wd_597, (List.forall_mem_cons.mpr ⟨wd_596, (List.forall_mem_cons.mpr ⟨wd_595, (List.forall_mem_cons.mpr ⟨wd_594, (List.forall_mem_cons.mpr ⟨wd_593, (List.forall_mem_cons.mpr ⟨wd_592, (List.forall_mem_cons.mpr ⟨wd_591, (List.forall_mem_cons.mpr ⟨wd_590, (List.forall_mem_cons.mpr ⟨wd_589, (List.forall_mem_cons.mpr ⟨wd_588, (List.forall_mem_cons.mpr ⟨wd_587, (List.forall_mem_cons.mpr ⟨wd_586, (List.forall_mem_cons.mpr ⟨wd_585, (List.forall_mem_cons.mpr ⟨wd_584, (List.forall_mem_cons.mpr ⟨wd_583, (List.forall_mem_cons.mpr ⟨wd_582, (List.forall_mem_cons.mpr ⟨wd_581, (List.forall_mem_cons.mpr ⟨wd_580, (List.forall_mem_cons.mpr ⟨wd_579, (fun _ h => absurd h List.not_mem_nil)⟩)⟩)⟩)⟩)⟩)⟩)⟩)⟩)⟩)⟩)⟩)⟩)⟩)⟩)⟩)⟩)⟩)⟩)⟩)⟩)⟩)⟩)⟩)⟩)
theorem wd_1235 : Cond.methodLink RX5 144 yX7_together ∈ lw_tbl := mt_5 (List.mem_of_getElem? (i := 52) rfl)
theorem wd_1236 : Cond.fieldLink RX5 35 "OneOfEach$Outlook" "taken" "J" ∈ lw_tbl := mt_2 (List.mem_of_getElem? (i := 27) rfl)
theorem wd_1237 : Cond.fieldLink RX5 31 "OneOfEach$Outlook" "whole" "J" ∈ lw_tbl := mt_2 (List.mem_of_getElem? (i := 25) rfl)
theorem wd_1238 : Cond.fieldLink RX5 28 "OneOfEach$Outlook" "shutWays" "[J" ∈ lw_tbl := mt_2 (List.mem_of_getElem? (i := 23) rfl)
theorem wd_1239 : Cond.code yX5_passDays cX5_passDays 4 none ∈ lw_tbl := mt_5 (List.mem_of_getElem? (i := 51) rfl)
theorem wd_1240 : Cond.selects RX5 yX5_passDays yX5_passDays ∈ lw_tbl := mt_5 (List.mem_of_getElem? (i := 50) rfl)
theorem wd_1241 : Cond.instanceMethod yX5_passDays ∈ lw_tbl := mt_5 (List.mem_of_getElem? (i := 49) rfl)
theorem wd_1242 : Cond.methodLink RX11 289 yX5_passDays ∈ lw_tbl := mt_5 (List.mem_of_getElem? (i := 48) rfl)
set_option maxRecDepth 20000 in
theorem hl_wsX11_open_r5 : ∀ w ∈ wsX11_open_r5, w ∈ lw_tbl := by
  unfold wsX11_open_r5
  exact (List.forall_mem_cons.mpr ⟨wd_608, (List.forall_mem_cons.mpr ⟨wd_607, (List.forall_mem_cons.mpr ⟨wd_606, (List.forall_mem_cons.mpr ⟨wd_605, (List.forall_mem_cons.mpr ⟨wd_604, (List.forall_mem_cons.mpr ⟨wd_603, (List.forall_mem_cons.mpr ⟨wd_1242, (List.forall_mem_cons.mpr ⟨wd_1241, (List.forall_mem_cons.mpr ⟨wd_1240, (List.forall_mem_cons.mpr ⟨wd_1239, (List.forall_mem_cons.mpr ⟨wd_1238, (List.forall_mem_cons.mpr ⟨wd_1237, (List.forall_mem_cons.mpr ⟨wd_1236, (List.forall_mem_cons.mpr ⟨wd_1141, (List.forall_mem_cons.mpr ⟨wd_1140, (List.forall_mem_cons.mpr ⟨wd_1139, (List.forall_mem_cons.mpr ⟨wd_1138, (List.forall_mem_cons.mpr ⟨wd_1137, (List.forall_mem_cons.mpr ⟨wd_1136, (List.forall_mem_cons.mpr ⟨wd_1135, (List.forall_mem_cons.mpr ⟨wd_1134, (List.forall_mem_cons.mpr ⟨wd_1235, (List.forall_mem_cons.mpr ⟨wd_865, (List.forall_mem_cons.mpr ⟨wd_864, (fun _ h => absurd h List.not_mem_nil)⟩)⟩)⟩)⟩)⟩)⟩)⟩)⟩)⟩)⟩)⟩)⟩)⟩)⟩)⟩)⟩)⟩)⟩)⟩)⟩)⟩)⟩)⟩)⟩)
theorem wd_1243 : Cond.fieldLink RX5 156 "OneOfEach$Stock" "price" "[I" ∈ lw_tbl := mt_1 (List.mem_of_getElem? (i := 113) rfl)
theorem wd_1244 : Cond.fieldLink RX5 153 "OneOfEach$Plan" "odds" "[I" ∈ lw_tbl := mt_1 (List.mem_of_getElem? (i := 55) rfl)
theorem wd_1245 : Cond.code yX5_spread cX5_spread 7 none ∈ lw_tbl := mt_5 (List.mem_of_getElem? (i := 60) rfl)
theorem wd_1246 : Cond.selects RX5 yX5_spread yX5_spread ∈ lw_tbl := mp_3 (q := (⟨"OneOfEach$Outlook", "spread", "(I)V"⟩, 14)) (List.mem_of_getElem? (i := 6) rfl)
theorem wd_1247 : Cond.instanceMethod yX5_spread ∈ lw_tbl := mt_5 (List.mem_of_getElem? (i := 59) rfl)
theorem wd_1248 : Cond.methodLink RX5 150 yX5_spread ∈ lw_tbl := mt_5 (List.mem_of_getElem? (i := 57) rfl)
theorem wd_1249 : Cond.code yX5_passDay cX5_passDay 3 none ∈ lw_tbl := mt_5 (List.mem_of_getElem? (i := 56) rfl)
theorem wd_1250 : Cond.selects RX5 yX5_passDay yX5_passDay ∈ lw_tbl := mp_3 (q := (⟨"OneOfEach$Outlook", "passDay", "(I)V"⟩, 14)) (List.mem_of_getElem? (i := 5) rfl)
theorem wd_1251 : Cond.instanceMethod yX5_passDay ∈ lw_tbl := mt_5 (List.mem_of_getElem? (i := 55) rfl)
theorem wd_1252 : Cond.methodLink RX5 147 yX5_passDay ∈ lw_tbl := mt_5 (List.mem_of_getElem? (i := 53) rfl)
set_option maxRecDepth 20000 in
theorem hl_wsX11_open_r6 : ∀ w ∈ wsX11_open_r6, w ∈ lw_tbl := by
  unfold wsX11_open_r6
  exact (List.forall_mem_cons.mpr ⟨wd_114, (List.forall_mem_cons.mpr ⟨wd_863, (List.forall_mem_cons.mpr ⟨wd_112, (List.forall_mem_cons.mpr ⟨wd_862, (List.forall_mem_cons.mpr ⟨wd_1252, (List.forall_mem_cons.mpr ⟨wd_1251, (List.forall_mem_cons.mpr ⟨wd_1250, (List.forall_mem_cons.mpr ⟨wd_1249, (List.forall_mem_cons.mpr ⟨wd_1129, (List.forall_mem_cons.mpr ⟨wd_1248, (List.forall_mem_cons.mpr ⟨wd_1247, (List.forall_mem_cons.mpr ⟨wd_1246, (List.forall_mem_cons.mpr ⟨wd_1245, (List.forall_mem_cons.mpr ⟨wd_1244, (List.forall_mem_cons.mpr ⟨wd_1243, (List.forall_mem_cons.mpr ⟨wd_1047, (List.forall_mem_cons.mpr ⟨wd_1046, (List.forall_mem_cons.mpr ⟨wd_1045, (List.forall_mem_cons.mpr ⟨wd_1044, (List.forall_mem_cons.mpr ⟨wd_1055, (List.forall_mem_cons.mpr ⟨wd_1054, (List.forall_mem_cons.mpr ⟨wd_1053, (List.forall_mem_cons.mpr ⟨wd_1052, (List.forall_mem_cons.mpr ⟨wd_1128, (fun _ h => absurd h List.not_mem_nil)⟩)⟩)⟩)⟩)⟩)⟩)⟩)⟩)⟩)⟩)⟩)⟩)⟩)⟩)⟩)⟩)⟩)⟩)⟩)⟩)⟩)⟩)⟩)⟩)
theorem wd_1253 : Cond.code yX11_commonDivisor cX11_commonDivisor 11 (some .long) ∈ lw_tbl := mt_5 (List.mem_of_getElem? (i := 67) rfl)
theorem wd_1254 : Cond.static yX11_commonDivisor ∈ lw_tbl := mt_5 (List.mem_of_getElem? (i := 66) rfl)
theorem wd_1255 : Cond.methodLink RX11 315 yX11_commonDivisor ∈ lw_tbl := mt_5 (List.mem_of_getElem? (i := 65) rfl)
theorem wd_1256 : Cond.code yX11_inLowestTerms cX11_inLowestTerms 9 (some .long) ∈ lw_tbl := mt_5 (List.mem_of_getElem? (i := 64) rfl)
theorem wd_1257 : Cond.static yX11_inLowestTerms ∈ lw_tbl := mt_5 (List.mem_of_getElem? (i := 63) rfl)
theorem wd_1258 : Cond.methodLink RX11 300 yX11_inLowestTerms ∈ lw_tbl := mt_5 (List.mem_of_getElem? (i := 62) rfl)
theorem wd_1259 : Cond.methodLink RX11 292 yX5_openWays ∈ lw_tbl := mt_5 (List.mem_of_getElem? (i := 61) rfl)
set_option maxRecDepth 20000 in
theorem hl_wsX11_open_r7 : ∀ w ∈ wsX11_open_r7, w ∈ lw_tbl := by
  unfold wsX11_open_r7
  exact (List.forall_mem_cons.mpr ⟨wd_1156, (List.forall_mem_cons.mpr ⟨wd_1155, (List.forall_mem_cons.mpr ⟨wd_1154, (List.forall_mem_cons.mpr ⟨wd_1259, (List.forall_mem_cons.mpr ⟨wd_1148, (List.forall_mem_cons.mpr ⟨wd_1147, (List.forall_mem_cons.mpr ⟨wd_1146, (List.forall_mem_cons.mpr ⟨wd_1258, (List.forall_mem_cons.mpr ⟨wd_1257, (List.forall_mem_cons.mpr ⟨wd_1256, (List.forall_mem_cons.mpr ⟨wd_1255, (List.forall_mem_cons.mpr ⟨wd_1254, (List.forall_mem_cons.mpr ⟨wd_1253, (fun _ h => absurd h List.not_mem_nil)⟩)⟩)⟩)⟩)⟩)⟩)⟩)⟩)⟩)⟩)⟩)⟩)⟩)
set_option maxRecDepth 20000 in
theorem hl_wsX11_open : ∀ w ∈ wsX11_open, w ∈ lw_tbl := by
  unfold wsX11_open
  exact (List.forall_mem_cons.mpr ⟨wd_1230, (List.forall_mem_append.mpr ⟨(List.forall_mem_append.mpr ⟨(List.forall_mem_append.mpr ⟨(List.forall_mem_append.mpr ⟨(List.forall_mem_append.mpr ⟨(List.forall_mem_append.mpr ⟨hl_wsX11_open_r1, (List.forall_mem_append.mpr ⟨hl_wsX11_open_r2, (List.forall_mem_append.mpr ⟨hl_wsX11_open_r3, (List.forall_mem_append.mpr ⟨hl_wsX11_open_r4, (List.forall_mem_append.mpr ⟨hl_wsX11_open_r5, (List.forall_mem_append.mpr ⟨hl_wsX11_open_r6, hl_wsX11_open_r7⟩)⟩)⟩)⟩)⟩)⟩), hl_wsX110⟩), hl_wsX90⟩), hl_wsX50⟩), hl_wsX40⟩), hl_wsX70⟩)⟩)
theorem wd_1260 : Cond.selects RX12 yX12_open yX12_open ∈ lw_tbl := mt_8 (List.mem_of_getElem? (i := 28) rfl)
theorem wd_1261 : Cond.instanceMethod yX12_open ∈ lw_tbl := mt_8 (List.mem_of_getElem? (i := 27) rfl)
theorem wd_1262 : Cond.methodLink RL 118 yX12_open ∈ lw_tbl := mt_8 (List.mem_of_getElem? (i := 26) rfl)
theorem wd_1263 : Cond.code yX12_open cX12_open 3 (some .long) ∈ lw_tbl := mt_8 (List.mem_of_getElem? (i := 29) rfl)
theorem wd_1264 : Cond.code yX12_isLate cX12_isLate 1 (some .boolean) ∈ lw_tbl := mt_8 (List.mem_of_getElem? (i := 36) rfl)
theorem wd_1265 : Cond.static yX12_isLate ∈ lw_tbl := mt_8 (List.mem_of_getElem? (i := 35) rfl)
theorem wd_1266 : Cond.methodLink RX12 395 yX12_isLate ∈ lw_tbl := mt_8 (List.mem_of_getElem? (i := 34) rfl)
theorem wd_1267 : Cond.code yX12_isPart cX12_isPart 1 (some .boolean) ∈ lw_tbl := mt_8 (List.mem_of_getElem? (i := 32) rfl)
theorem wd_1268 : Cond.static yX12_isPart ∈ lw_tbl := mt_8 (List.mem_of_getElem? (i := 31) rfl)
theorem wd_1269 : Cond.methodLink RX12 390 yX12_isPart ∈ lw_tbl := mt_8 (List.mem_of_getElem? (i := 30) rfl)
theorem wd_1270 : Cond.constantLong RX12 393 (-2) ∈ lw_tbl := mt_8 (List.mem_of_getElem? (i := 33) rfl)
set_option maxRecDepth 20000 in
theorem hl_wsX12_open_r1 : ∀ w ∈ wsX12_open_r1, w ∈ lw_tbl := by
  unfold wsX12_open_r1
  exact (List.forall_mem_cons.mpr ⟨wd_34, (List.forall_mem_cons.mpr ⟨wd_1270, (List.forall_mem_cons.mpr ⟨wd_1161, (List.forall_mem_cons.mpr ⟨wd_1269, (List.forall_mem_cons.mpr ⟨wd_1268, (List.forall_mem_cons.mpr ⟨wd_27, (List.forall_mem_cons.mpr ⟨wd_1267, (List.forall_mem_cons.mpr ⟨wd_422, (List.forall_mem_cons.mpr ⟨wd_421, (List.forall_mem_cons.mpr ⟨wd_420, (List.forall_mem_cons.mpr ⟨wd_1266, (List.forall_mem_cons.mpr ⟨wd_1265, (List.forall_mem_cons.mpr ⟨wd_1264, (List.forall_mem_cons.mpr ⟨wd_913, (List.forall_mem_cons.mpr ⟨wd_1087, (List.forall_mem_cons.mpr ⟨wd_1086, (List.forall_mem_cons.mpr ⟨wd_1085, (List.forall_mem_cons.mpr ⟨wd_1084, (List.forall_mem_cons.mpr ⟨wd_423, (List.forall_mem_cons.mpr ⟨wd_1083, (List.forall_mem_cons.mpr ⟨wd_648, (List.forall_mem_cons.mpr ⟨wd_647, (List.forall_mem_cons.mpr ⟨wd_646, (List.forall_mem_cons.mpr ⟨wd_645, (fun _ h => absurd h List.not_mem_nil)⟩)⟩)⟩)⟩)⟩)⟩)⟩)⟩)⟩)⟩)⟩)⟩)⟩)⟩)⟩)⟩)⟩)⟩)⟩)⟩)⟩)⟩)⟩)⟩)
set_option maxRecDepth 20000 in
theorem hl_wsX12_open_r2 : ∀ w ∈ wsX12_open_r2, w ∈ lw_tbl := by
  unfold wsX12_open_r2
  exact (List.forall_mem_cons.mpr ⟨wd_618, (List.forall_mem_cons.mpr ⟨wd_617, (List.forall_mem_cons.mpr ⟨wd_616, (List.forall_mem_cons.mpr ⟨wd_615, (List.forall_mem_cons.mpr ⟨wd_614, (List.forall_mem_cons.mpr ⟨wd_613, (List.forall_mem_cons.mpr ⟨wd_654, (List.forall_mem_cons.mpr ⟨wd_653, (List.forall_mem_cons.mpr ⟨wd_652, (List.forall_mem_cons.mpr ⟨wd_651, (List.forall_mem_cons.mpr ⟨wd_650, (List.forall_mem_cons.mpr ⟨wd_649, (List.forall_mem_cons.mpr ⟨wd_644, (List.forall_mem_cons.mpr ⟨wd_643, (List.forall_mem_cons.mpr ⟨wd_642, (List.forall_mem_cons.mpr ⟨wd_641, (List.forall_mem_cons.mpr ⟨wd_640, (List.forall_mem_cons.mpr ⟨wd_639, (List.forall_mem_cons.mpr ⟨wd_638, (List.forall_mem_cons.mpr ⟨wd_637, (List.forall_mem_cons.mpr ⟨wd_636, (List.forall_mem_cons.mpr ⟨wd_635, (List.forall_mem_cons.mpr ⟨wd_634, (List.forall_mem_cons.mpr ⟨wd_633, (fun _ h => absurd h List.not_mem_nil)⟩)⟩)⟩)⟩)⟩)⟩)⟩)⟩)⟩)⟩)⟩)⟩)⟩)⟩)⟩)⟩)⟩)⟩)⟩)⟩)⟩)⟩)⟩)⟩)
theorem wd_1271 : Cond.fieldLink RX12 58 "OneOfEachModel" "shuts" "[J" ∈ lw_tbl := mt_6 (List.mem_of_getElem? (i := 53) rfl)
theorem wd_1272 : Cond.fieldLink RX12 379 "OneOfEachModel" "takes1" "J" ∈ lw_tbl := mt_6 (List.mem_of_getElem? (i := 54) rfl)
theorem wd_1273 : Cond.code yX12_laysDays cX12_laysDays 5 none ∈ lw_tbl := mt_8 (List.mem_of_getElem? (i := 40) rfl)
theorem wd_1274 : Cond.selects RX12 yX12_laysDays yX12_laysDays ∈ lw_tbl := mp_7 (q := (⟨"OneOfEachModel", "laysDays", "(I)V"⟩, 32)) (List.mem_of_getElem? (i := 12) rfl)
theorem wd_1275 : Cond.instanceMethod yX12_laysDays ∈ lw_tbl := mt_8 (List.mem_of_getElem? (i := 39) rfl)
theorem wd_1276 : Cond.methodLink RX12 398 yX12_laysDays ∈ lw_tbl := mt_8 (List.mem_of_getElem? (i := 37) rfl)
set_option maxRecDepth 20000 in
theorem hl_wsX12_open_r3 : ∀ w ∈ wsX12_open_r3, w ∈ lw_tbl := by
  unfold wsX12_open_r3
  exact (List.forall_mem_cons.mpr ⟨wd_632, (List.forall_mem_cons.mpr ⟨wd_631, (List.forall_mem_cons.mpr ⟨wd_665, (List.forall_mem_cons.mpr ⟨wd_664, (List.forall_mem_cons.mpr ⟨wd_663, (List.forall_mem_cons.mpr ⟨wd_662, (List.forall_mem_cons.mpr ⟨wd_661, (List.forall_mem_cons.mpr ⟨wd_660, (List.forall_mem_cons.mpr ⟨wd_659, (List.forall_mem_cons.mpr ⟨wd_658, (List.forall_mem_cons.mpr ⟨wd_657, (List.forall_mem_cons.mpr ⟨wd_656, (List.forall_mem_cons.mpr ⟨wd_655, (List.forall_mem_cons.mpr ⟨wd_1276, (List.forall_mem_cons.mpr ⟨wd_1275, (List.forall_mem_cons.mpr ⟨wd_1274, (List.forall_mem_cons.mpr ⟨wd_1273, (List.forall_mem_cons.mpr ⟨wd_1272, (List.forall_mem_cons.mpr ⟨wd_1271, (List.forall_mem_cons.mpr ⟨wd_1167, (List.forall_mem_cons.mpr ⟨wd_1172, (List.forall_mem_cons.mpr ⟨wd_1176, (List.forall_mem_cons.mpr ⟨wd_1175, (List.forall_mem_cons.mpr ⟨wd_1174, (fun _ h => absurd h List.not_mem_nil)⟩)⟩)⟩)⟩)⟩)⟩)⟩)⟩)⟩)⟩)⟩)⟩)⟩)⟩)⟩)⟩)⟩)⟩)⟩)⟩)⟩)⟩)⟩)⟩)
theorem wd_1277 : Cond.selects RX12 yX12_wholeOf yX12_wholeOf ∈ lw_tbl := mp_7 (q := (⟨"OneOfEachModel", "wholeOf", "(I)J"⟩, 32)) (List.mem_of_getElem? (i := 15) rfl)
theorem wd_1278 : Cond.instanceMethod yX12_wholeOf ∈ lw_tbl := mt_8 (List.mem_of_getElem? (i := 51) rfl)
theorem wd_1279 : Cond.methodLink RX12 404 yX12_wholeOf ∈ lw_tbl := mt_8 (List.mem_of_getElem? (i := 49) rfl)
theorem wd_1280 : Cond.code yX12_sumRows cX12_sumRows 4 (some .long) ∈ lw_tbl := mt_8 (List.mem_of_getElem? (i := 48) rfl)
theorem wd_1281 : Cond.selects RX12 yX12_sumRows yX12_sumRows ∈ lw_tbl := mp_7 (q := (⟨"OneOfEachModel", "sumRows", "()J"⟩, 32)) (List.mem_of_getElem? (i := 14) rfl)
theorem wd_1282 : Cond.instanceMethod yX12_sumRows ∈ lw_tbl := mt_8 (List.mem_of_getElem? (i := 47) rfl)
theorem wd_1283 : Cond.methodLink RX12 401 yX12_sumRows ∈ lw_tbl := mt_8 (List.mem_of_getElem? (i := 45) rfl)
theorem wd_1284 : Cond.code yX12_goesOdds cX12_goesOdds 7 none ∈ lw_tbl := mt_8 (List.mem_of_getElem? (i := 44) rfl)
theorem wd_1285 : Cond.selects RX12 yX12_goesOdds yX12_goesOdds ∈ lw_tbl := mp_7 (q := (⟨"OneOfEachModel", "goesOdds", "(I)V"⟩, 32)) (List.mem_of_getElem? (i := 13) rfl)
theorem wd_1286 : Cond.instanceMethod yX12_goesOdds ∈ lw_tbl := mt_8 (List.mem_of_getElem? (i := 43) rfl)
theorem wd_1287 : Cond.methodLink RX12 383 yX12_goesOdds ∈ lw_tbl := mt_8 (List.mem_of_getElem? (i := 41) rfl)
set_option maxRecDepth 20000 in
theorem hl_wsX12_open_r4 : ∀ w ∈ wsX12_open_r4, w ∈ lw_tbl := by
  unfold wsX12_open_r4
  exact (List.forall_mem_cons.mpr ⟨wd_1173, (List.forall_mem_cons.mpr ⟨wd_890, (List.forall_mem_cons.mpr ⟨wd_889, (List.forall_mem_cons.mpr ⟨wd_888, (List.forall_mem_cons.mpr ⟨wd_887, (List.forall_mem_cons.mpr ⟨wd_1287, (List.forall_mem_cons.mpr ⟨wd_1286, (List.forall_mem_cons.mpr ⟨wd_1285, (List.forall_mem_cons.mpr ⟨wd_1284, (List.forall_mem_cons.mpr ⟨wd_1095, (List.forall_mem_cons.mpr ⟨wd_1094, (List.forall_mem_cons.mpr ⟨wd_1093, (List.forall_mem_cons.mpr ⟨wd_1092, (List.forall_mem_cons.mpr ⟨wd_1283, (List.forall_mem_cons.mpr ⟨wd_1282, (List.forall_mem_cons.mpr ⟨wd_1281, (List.forall_mem_cons.mpr ⟨wd_1280, (List.forall_mem_cons.mpr ⟨wd_1166, (List.forall_mem_cons.mpr ⟨wd_1165, (List.forall_mem_cons.mpr ⟨wd_1164, (List.forall_mem_cons.mpr ⟨wd_1163, (List.forall_mem_cons.mpr ⟨wd_1279, (List.forall_mem_cons.mpr ⟨wd_1278, (List.forall_mem_cons.mpr ⟨wd_1277, (fun _ h => absurd h List.not_mem_nil)⟩)⟩)⟩)⟩)⟩)⟩)⟩)⟩)⟩)⟩)⟩)⟩)⟩)⟩)⟩)⟩)⟩)⟩)⟩)⟩)⟩)⟩)⟩)⟩)
theorem wd_1288 : Cond.code yX12_common cX12_common 4 (some .long) ∈ lw_tbl := mt_8 (List.mem_of_getElem? (i := 61) rfl)
theorem wd_1289 : Cond.static yX12_common ∈ lw_tbl := mt_8 (List.mem_of_getElem? (i := 60) rfl)
theorem wd_1290 : Cond.methodLink RX12 386 yX12_common ∈ lw_tbl := mt_8 (List.mem_of_getElem? (i := 59) rfl)
theorem wd_1291 : Cond.code yX12_part cX12_part 5 (some .long) ∈ lw_tbl := mt_8 (List.mem_of_getElem? (i := 58) rfl)
theorem wd_1292 : Cond.static yX12_part ∈ lw_tbl := mt_8 (List.mem_of_getElem? (i := 57) rfl)
theorem wd_1293 : Cond.methodLink RX12 408 yX12_part ∈ lw_tbl := mt_8 (List.mem_of_getElem? (i := 56) rfl)
theorem wd_1294 : Cond.code yX12_powerOf cX12_powerOf 6 (some .long) ∈ lw_tbl := mt_8 (List.mem_of_getElem? (i := 55) rfl)
theorem wd_1295 : Cond.static yX12_powerOf ∈ lw_tbl := mt_8 (List.mem_of_getElem? (i := 54) rfl)
theorem wd_1296 : Cond.methodLink RX12 375 yX12_powerOf ∈ lw_tbl := mt_8 (List.mem_of_getElem? (i := 53) rfl)
theorem wd_1297 : Cond.code yX12_wholeOf cX12_wholeOf 2 (some .long) ∈ lw_tbl := mt_8 (List.mem_of_getElem? (i := 52) rfl)
set_option maxRecDepth 20000 in
theorem hl_wsX12_open_r5 : ∀ w ∈ wsX12_open_r5, w ∈ lw_tbl := by
  unfold wsX12_open_r5
  exact (List.forall_mem_cons.mpr ⟨wd_1297, (List.forall_mem_cons.mpr ⟨wd_1296, (List.forall_mem_cons.mpr ⟨wd_1295, (List.forall_mem_cons.mpr ⟨wd_1294, (List.forall_mem_cons.mpr ⟨wd_1293, (List.forall_mem_cons.mpr ⟨wd_1292, (List.forall_mem_cons.mpr ⟨wd_1291, (List.forall_mem_cons.mpr ⟨wd_1290, (List.forall_mem_cons.mpr ⟨wd_1289, (List.forall_mem_cons.mpr ⟨wd_1288, (fun _ h => absurd h List.not_mem_nil)⟩)⟩)⟩)⟩)⟩)⟩)⟩)⟩)⟩)⟩)
set_option maxRecDepth 20000 in
theorem hl_wsX12_open : ∀ w ∈ wsX12_open, w ∈ lw_tbl := by
  unfold wsX12_open
  exact (List.forall_mem_cons.mpr ⟨wd_1263, (List.forall_mem_append.mpr ⟨(List.forall_mem_append.mpr ⟨hl_wsX12_open_r1, (List.forall_mem_append.mpr ⟨hl_wsX12_open_r2, (List.forall_mem_append.mpr ⟨hl_wsX12_open_r3, (List.forall_mem_append.mpr ⟨hl_wsX12_open_r4, hl_wsX12_open_r5⟩)⟩)⟩)⟩), hl_wsX120⟩)⟩)
def tL_open : List Cond := (wsV RL 114 RX11 yX11_open wsX11_open) ++ (wsV RL 118 RX12 yX12_open wsX12_open)
theorem tL_open_in : ∀ w ∈ tL_open, w ∈ lw_tbl := by
  unfold tL_open
  exact (List.forall_mem_append.mpr ⟨(List.forall_mem_append.mpr ⟨(List.forall_mem_cons.mpr ⟨wd_1229, (List.forall_mem_cons.mpr ⟨wd_1228, (List.forall_mem_cons.mpr ⟨wd_1227, (List.forall_mem_cons.mpr ⟨wd_0, (fun _ h => absurd h List.not_mem_nil)⟩)⟩)⟩)⟩), hl_wsX11_open⟩), (List.forall_mem_append.mpr ⟨(List.forall_mem_cons.mpr ⟨wd_1262, (List.forall_mem_cons.mpr ⟨wd_1261, (List.forall_mem_cons.mpr ⟨wd_1260, (List.forall_mem_cons.mpr ⟨wd_27, (fun _ h => absurd h List.not_mem_nil)⟩)⟩)⟩)⟩), hl_wsX12_open⟩)⟩)
set_option maxRecDepth 20000 in
theorem tL_open_x : GoodIn tL_open (wsV RL 114 RX11 yX11_open wsX11_open) := fun w h => ⟨List.mem_append_left _ h, good_of_word (List.all_eq_true.mp (show (wsV RL 114 RX11 yX11_open wsX11_open).all goodWord = true by decide +kernel) w h)⟩
set_option maxRecDepth 20000 in
theorem tL_open_m : GoodIn tL_open (wsV RL 118 RX12 yX12_open wsX12_open) := fun w h => ⟨List.mem_append_right _ h, good_of_word (List.all_eq_true.mp (show (wsV RL 118 RX12 yX12_open wsX12_open).all goodWord = true by decide +kernel) w h)⟩
theorem hdLX11_open : yX11_open.cls = RX11 ∧ yX11_open.cls ≠ "java/lang/invoke/MethodHandle" ∧ yX11_open.cls ≠ "java/lang/invoke/VarHandle" ∧ (parseMethodDescriptor yX11_open.desc).map (fun d => d.parameters.length) = some 2 := by decide +kernel
theorem hdLX12_open : yX12_open.cls = RX12 ∧ yX12_open.cls ≠ "java/lang/invoke/MethodHandle" ∧ yX12_open.cls ≠ "java/lang/invoke/VarHandle" ∧ (parseMethodDescriptor yX12_open.desc).map (fun d => d.parameters.length) = some 2 := by decide +kernel
theorem wd_1298 : Cond.selects RX11 yX11_likely yX11_likely ∈ lw_tbl := mt_5 (List.mem_of_getElem? (i := 70) rfl)
theorem wd_1299 : Cond.instanceMethod yX11_likely ∈ lw_tbl := mt_5 (List.mem_of_getElem? (i := 69) rfl)
theorem wd_1300 : Cond.methodLink RL 119 yX11_likely ∈ lw_tbl := mt_5 (List.mem_of_getElem? (i := 68) rfl)
theorem wd_1301 : Cond.code yX11_likely cX11_likely 3 (some .int) ∈ lw_tbl := mt_5 (List.mem_of_getElem? (i := 71) rfl)
set_option maxRecDepth 20000 in
theorem hl_wsX11_likely_r1 : ∀ w ∈ wsX11_likely_r1, w ∈ lw_tbl := by
  unfold wsX11_likely_r1
  exact (List.forall_mem_cons.mpr ⟨wd_1034, (List.forall_mem_cons.mpr ⟨wd_85, (List.forall_mem_cons.mpr ⟨wd_84, (List.forall_mem_cons.mpr ⟨wd_555, (List.forall_mem_cons.mpr ⟨wd_1234, (List.forall_mem_cons.mpr ⟨wd_1033, (List.forall_mem_cons.mpr ⟨wd_1032, (List.forall_mem_cons.mpr ⟨wd_1031, (List.forall_mem_cons.mpr ⟨wd_1030, (List.forall_mem_cons.mpr ⟨wd_1029, (List.forall_mem_cons.mpr ⟨wd_1028, (List.forall_mem_cons.mpr ⟨wd_1027, (List.forall_mem_cons.mpr ⟨wd_1026, (List.forall_mem_cons.mpr ⟨wd_1025, (List.forall_mem_cons.mpr ⟨wd_1024, (List.forall_mem_cons.mpr ⟨wd_1023, (List.forall_mem_cons.mpr ⟨wd_1022, (List.forall_mem_cons.mpr ⟨wd_1021, (List.forall_mem_cons.mpr ⟨wd_1020, (List.forall_mem_cons.mpr ⟨wd_1019, (List.forall_mem_cons.mpr ⟨wd_1018, (List.forall_mem_cons.mpr ⟨wd_1017, (List.forall_mem_cons.mpr ⟨wd_1016, (List.forall_mem_cons.mpr ⟨wd_744, (fun _ h => absurd h List.not_mem_nil)⟩)⟩)⟩)⟩)⟩)⟩)⟩)⟩)⟩)⟩)⟩)⟩)⟩)⟩)⟩)⟩)⟩)⟩)⟩)⟩)⟩)⟩)⟩)⟩)
set_option maxRecDepth 20000 in
theorem hl_wsX11_likely_r2 : ∀ w ∈ wsX11_likely_r2, w ∈ lw_tbl := by
  unfold wsX11_likely_r2
  exact (List.forall_mem_cons.mpr ⟨wd_743, (List.forall_mem_cons.mpr ⟨wd_102, (List.forall_mem_cons.mpr ⟨wd_742, (List.forall_mem_cons.mpr ⟨wd_100, (List.forall_mem_cons.mpr ⟨wd_1040, (List.forall_mem_cons.mpr ⟨wd_543, (List.forall_mem_cons.mpr ⟨wd_542, (List.forall_mem_cons.mpr ⟨wd_362, (List.forall_mem_cons.mpr ⟨wd_541, (List.forall_mem_cons.mpr ⟨wd_540, (List.forall_mem_cons.mpr ⟨wd_578, (List.forall_mem_cons.mpr ⟨wd_577, (List.forall_mem_cons.mpr ⟨wd_360, (List.forall_mem_cons.mpr ⟨wd_576, (List.forall_mem_cons.mpr ⟨wd_575, (List.forall_mem_cons.mpr ⟨wd_574, (List.forall_mem_cons.mpr ⟨wd_573, (List.forall_mem_cons.mpr ⟨wd_1039, (List.forall_mem_cons.mpr ⟨wd_358, (List.forall_mem_cons.mpr ⟨wd_357, (List.forall_mem_cons.mpr ⟨wd_356, (List.forall_mem_cons.mpr ⟨wd_1038, (List.forall_mem_cons.mpr ⟨wd_1037, (List.forall_mem_cons.mpr ⟨wd_1036, (fun _ h => absurd h List.not_mem_nil)⟩)⟩)⟩)⟩)⟩)⟩)⟩)⟩)⟩)⟩)⟩)⟩)⟩)⟩)⟩)⟩)⟩)⟩)⟩)⟩)⟩)⟩)⟩)⟩)
set_option maxRecDepth 20000 in
theorem hl_wsX11_likely_r3 : ∀ w ∈ wsX11_likely_r3, w ∈ lw_tbl := by
  unfold wsX11_likely_r3
  exact (List.forall_mem_cons.mpr ⟨wd_1035, (List.forall_mem_cons.mpr ⟨wd_1043, (List.forall_mem_cons.mpr ⟨wd_1042, (List.forall_mem_cons.mpr ⟨wd_1041, (List.forall_mem_cons.mpr ⟨wd_571, (List.forall_mem_cons.mpr ⟨wd_570, (List.forall_mem_cons.mpr ⟨wd_569, (List.forall_mem_cons.mpr ⟨wd_568, (List.forall_mem_cons.mpr ⟨wd_134, (List.forall_mem_cons.mpr ⟨wd_133, (List.forall_mem_cons.mpr ⟨wd_132, (List.forall_mem_cons.mpr ⟨wd_567, (List.forall_mem_cons.mpr ⟨wd_566, (List.forall_mem_cons.mpr ⟨wd_565, (List.forall_mem_cons.mpr ⟨wd_564, (List.forall_mem_cons.mpr ⟨wd_563, (List.forall_mem_cons.mpr ⟨wd_562, (List.forall_mem_cons.mpr ⟨wd_561, (List.forall_mem_cons.mpr ⟨wd_560, (List.forall_mem_cons.mpr ⟨wd_559, (List.forall_mem_cons.mpr ⟨wd_602, (List.forall_mem_cons.mpr ⟨wd_601, (List.forall_mem_cons.mpr ⟨wd_600, (List.forall_mem_cons.mpr ⟨wd_599, (fun _ h => absurd h List.not_mem_nil)⟩)⟩)⟩)⟩)⟩)⟩)⟩)⟩)⟩)⟩)⟩)⟩)⟩)⟩)⟩)⟩)⟩)⟩)⟩)⟩)⟩)⟩)⟩)⟩)
set_option maxRecDepth 20000 in
theorem hl_wsX11_likely_r4 : ∀ w ∈ wsX11_likely_r4, w ∈ lw_tbl := by
  unfold wsX11_likely_r4
  exact (List.forall_mem_cons.mpr ⟨wd_598, (List.forall_mem_cons.mpr ⟨wd_597, (List.forall_mem_cons.mpr ⟨wd_596, (List.forall_mem_cons.mpr ⟨wd_595, (List.forall_mem_cons.mpr ⟨wd_594, (List.forall_mem_cons.mpr ⟨wd_593, (List.forall_mem_cons.mpr ⟨wd_592, (List.forall_mem_cons.mpr ⟨wd_591, (List.forall_mem_cons.mpr ⟨wd_590, (List.forall_mem_cons.mpr ⟨wd_589, (List.forall_mem_cons.mpr ⟨wd_588, (List.forall_mem_cons.mpr ⟨wd_587, (List.forall_mem_cons.mpr ⟨wd_586, (List.forall_mem_cons.mpr ⟨wd_585, (List.forall_mem_cons.mpr ⟨wd_584, (List.forall_mem_cons.mpr ⟨wd_583, (List.forall_mem_cons.mpr ⟨wd_582, (List.forall_mem_cons.mpr ⟨wd_581, (List.forall_mem_cons.mpr ⟨wd_580, (List.forall_mem_cons.mpr ⟨wd_579, (List.forall_mem_cons.mpr ⟨wd_608, (List.forall_mem_cons.mpr ⟨wd_607, (List.forall_mem_cons.mpr ⟨wd_606, (List.forall_mem_cons.mpr ⟨wd_605, (fun _ h => absurd h List.not_mem_nil)⟩)⟩)⟩)⟩)⟩)⟩)⟩)⟩)⟩)⟩)⟩)⟩)⟩)⟩)⟩)⟩)⟩)⟩)⟩)⟩)⟩)⟩)⟩)⟩)
set_option maxRecDepth 20000 in
theorem hl_wsX11_likely_r5 : ∀ w ∈ wsX11_likely_r5, w ∈ lw_tbl := by
  unfold wsX11_likely_r5
  exact (List.forall_mem_cons.mpr ⟨wd_604, (List.forall_mem_cons.mpr ⟨wd_603, (List.forall_mem_cons.mpr ⟨wd_1242, (List.forall_mem_cons.mpr ⟨wd_1241, (List.forall_mem_cons.mpr ⟨wd_1240, (List.forall_mem_cons.mpr ⟨wd_1239, (List.forall_mem_cons.mpr ⟨wd_1238, (List.forall_mem_cons.mpr ⟨wd_1237, (List.forall_mem_cons.mpr ⟨wd_1236, (List.forall_mem_cons.mpr ⟨wd_1141, (List.forall_mem_cons.mpr ⟨wd_1140, (List.forall_mem_cons.mpr ⟨wd_1139, (List.forall_mem_cons.mpr ⟨wd_1138, (List.forall_mem_cons.mpr ⟨wd_1137, (List.forall_mem_cons.mpr ⟨wd_1136, (List.forall_mem_cons.mpr ⟨wd_1135, (List.forall_mem_cons.mpr ⟨wd_1134, (List.forall_mem_cons.mpr ⟨wd_1235, (List.forall_mem_cons.mpr ⟨wd_865, (List.forall_mem_cons.mpr ⟨wd_864, (List.forall_mem_cons.mpr ⟨wd_114, (List.forall_mem_cons.mpr ⟨wd_863, (List.forall_mem_cons.mpr ⟨wd_112, (List.forall_mem_cons.mpr ⟨wd_862, (fun _ h => absurd h List.not_mem_nil)⟩)⟩)⟩)⟩)⟩)⟩)⟩)⟩)⟩)⟩)⟩)⟩)⟩)⟩)⟩)⟩)⟩)⟩)⟩)⟩)⟩)⟩)⟩)⟩)
set_option maxRecDepth 20000 in
theorem hl_wsX11_likely_r6 : ∀ w ∈ wsX11_likely_r6, w ∈ lw_tbl := by
  unfold wsX11_likely_r6
  exact (List.forall_mem_cons.mpr ⟨wd_1252, (List.forall_mem_cons.mpr ⟨wd_1251, (List.forall_mem_cons.mpr ⟨wd_1250, (List.forall_mem_cons.mpr ⟨wd_1249, (List.forall_mem_cons.mpr ⟨wd_1129, (List.forall_mem_cons.mpr ⟨wd_1248, (List.forall_mem_cons.mpr ⟨wd_1247, (List.forall_mem_cons.mpr ⟨wd_1246, (List.forall_mem_cons.mpr ⟨wd_1245, (List.forall_mem_cons.mpr ⟨wd_1244, (List.forall_mem_cons.mpr ⟨wd_1243, (List.forall_mem_cons.mpr ⟨wd_1047, (List.forall_mem_cons.mpr ⟨wd_1046, (List.forall_mem_cons.mpr ⟨wd_1045, (List.forall_mem_cons.mpr ⟨wd_1044, (List.forall_mem_cons.mpr ⟨wd_1055, (List.forall_mem_cons.mpr ⟨wd_1054, (List.forall_mem_cons.mpr ⟨wd_1053, (List.forall_mem_cons.mpr ⟨wd_1052, (List.forall_mem_cons.mpr ⟨wd_1128, (List.forall_mem_cons.mpr ⟨wd_1156, (List.forall_mem_cons.mpr ⟨wd_1155, (List.forall_mem_cons.mpr ⟨wd_1154, (List.forall_mem_cons.mpr ⟨wd_1259, (fun _ h => absurd h List.not_mem_nil)⟩)⟩)⟩)⟩)⟩)⟩)⟩)⟩)⟩)⟩)⟩)⟩)⟩)⟩)⟩)⟩)⟩)⟩)⟩)⟩)⟩)⟩)⟩)⟩)
theorem wd_1302 : Cond.constantLong RX11 318 (10) ∈ lw_tbl := mt_5 (List.mem_of_getElem? (i := 75) rfl)
theorem wd_1303 : Cond.code yX11_hundredths cX11_hundredths 8 (some .long) ∈ lw_tbl := mt_5 (List.mem_of_getElem? (i := 74) rfl)
theorem wd_1304 : Cond.static yX11_hundredths ∈ lw_tbl := mt_5 (List.mem_of_getElem? (i := 73) rfl)
theorem wd_1305 : Cond.methodLink RX11 304 yX11_hundredths ∈ lw_tbl := mt_5 (List.mem_of_getElem? (i := 72) rfl)
set_option maxRecDepth 20000 in
theorem hl_wsX11_likely_r7 : ∀ w ∈ wsX11_likely_r7, w ∈ lw_tbl := by
  unfold wsX11_likely_r7
  exact (List.forall_mem_cons.mpr ⟨wd_1148, (List.forall_mem_cons.mpr ⟨wd_1147, (List.forall_mem_cons.mpr ⟨wd_1146, (List.forall_mem_cons.mpr ⟨wd_1305, (List.forall_mem_cons.mpr ⟨wd_1304, (List.forall_mem_cons.mpr ⟨wd_0, (List.forall_mem_cons.mpr ⟨wd_1303, (List.forall_mem_cons.mpr ⟨wd_1302, (fun _ h => absurd h List.not_mem_nil)⟩)⟩)⟩)⟩)⟩)⟩)⟩)⟩)
set_option maxRecDepth 20000 in
theorem hl_wsX11_likely : ∀ w ∈ wsX11_likely, w ∈ lw_tbl := by
  unfold wsX11_likely
  exact (List.forall_mem_cons.mpr ⟨wd_1301, (List.forall_mem_append.mpr ⟨(List.forall_mem_append.mpr ⟨(List.forall_mem_append.mpr ⟨(List.forall_mem_append.mpr ⟨(List.forall_mem_append.mpr ⟨(List.forall_mem_append.mpr ⟨hl_wsX11_likely_r1, (List.forall_mem_append.mpr ⟨hl_wsX11_likely_r2, (List.forall_mem_append.mpr ⟨hl_wsX11_likely_r3, (List.forall_mem_append.mpr ⟨hl_wsX11_likely_r4, (List.forall_mem_append.mpr ⟨hl_wsX11_likely_r5, (List.forall_mem_append.mpr ⟨hl_wsX11_likely_r6, hl_wsX11_likely_r7⟩)⟩)⟩)⟩)⟩)⟩), hl_wsX110⟩), hl_wsX90⟩), hl_wsX50⟩), hl_wsX40⟩), hl_wsX70⟩)⟩)
theorem wd_1306 : Cond.selects RX12 yX12_likely yX12_likely ∈ lw_tbl := mt_8 (List.mem_of_getElem? (i := 64) rfl)
theorem wd_1307 : Cond.instanceMethod yX12_likely ∈ lw_tbl := mt_8 (List.mem_of_getElem? (i := 63) rfl)
theorem wd_1308 : Cond.methodLink RL 122 yX12_likely ∈ lw_tbl := mt_8 (List.mem_of_getElem? (i := 62) rfl)
theorem wd_1309 : Cond.code yX12_likely cX12_likely 3 (some .int) ∈ lw_tbl := mt_8 (List.mem_of_getElem? (i := 65) rfl)
set_option maxRecDepth 20000 in
theorem hl_wsX12_likely_r1 : ∀ w ∈ wsX12_likely_r1, w ∈ lw_tbl := by
  unfold wsX12_likely_r1
  exact (List.forall_mem_cons.mpr ⟨wd_34, (List.forall_mem_cons.mpr ⟨wd_969, (List.forall_mem_cons.mpr ⟨wd_422, (List.forall_mem_cons.mpr ⟨wd_421, (List.forall_mem_cons.mpr ⟨wd_27, (List.forall_mem_cons.mpr ⟨wd_420, (List.forall_mem_cons.mpr ⟨wd_1087, (List.forall_mem_cons.mpr ⟨wd_1086, (List.forall_mem_cons.mpr ⟨wd_1085, (List.forall_mem_cons.mpr ⟨wd_1084, (List.forall_mem_cons.mpr ⟨wd_423, (List.forall_mem_cons.mpr ⟨wd_1083, (List.forall_mem_cons.mpr ⟨wd_648, (List.forall_mem_cons.mpr ⟨wd_647, (List.forall_mem_cons.mpr ⟨wd_646, (List.forall_mem_cons.mpr ⟨wd_645, (List.forall_mem_cons.mpr ⟨wd_618, (List.forall_mem_cons.mpr ⟨wd_617, (List.forall_mem_cons.mpr ⟨wd_616, (List.forall_mem_cons.mpr ⟨wd_615, (List.forall_mem_cons.mpr ⟨wd_614, (List.forall_mem_cons.mpr ⟨wd_613, (List.forall_mem_cons.mpr ⟨wd_654, (List.forall_mem_cons.mpr ⟨wd_653, (fun _ h => absurd h List.not_mem_nil)⟩)⟩)⟩)⟩)⟩)⟩)⟩)⟩)⟩)⟩)⟩)⟩)⟩)⟩)⟩)⟩)⟩)⟩)⟩)⟩)⟩)⟩)⟩)⟩)
set_option maxRecDepth 20000 in
theorem hl_wsX12_likely_r2 : ∀ w ∈ wsX12_likely_r2, w ∈ lw_tbl := by
  unfold wsX12_likely_r2
  exact (List.forall_mem_cons.mpr ⟨wd_652, (List.forall_mem_cons.mpr ⟨wd_651, (List.forall_mem_cons.mpr ⟨wd_650, (List.forall_mem_cons.mpr ⟨wd_649, (List.forall_mem_cons.mpr ⟨wd_644, (List.forall_mem_cons.mpr ⟨wd_643, (List.forall_mem_cons.mpr ⟨wd_642, (List.forall_mem_cons.mpr ⟨wd_641, (List.forall_mem_cons.mpr ⟨wd_640, (List.forall_mem_cons.mpr ⟨wd_639, (List.forall_mem_cons.mpr ⟨wd_638, (List.forall_mem_cons.mpr ⟨wd_637, (List.forall_mem_cons.mpr ⟨wd_636, (List.forall_mem_cons.mpr ⟨wd_635, (List.forall_mem_cons.mpr ⟨wd_634, (List.forall_mem_cons.mpr ⟨wd_633, (List.forall_mem_cons.mpr ⟨wd_632, (List.forall_mem_cons.mpr ⟨wd_631, (List.forall_mem_cons.mpr ⟨wd_665, (List.forall_mem_cons.mpr ⟨wd_664, (List.forall_mem_cons.mpr ⟨wd_663, (List.forall_mem_cons.mpr ⟨wd_662, (List.forall_mem_cons.mpr ⟨wd_661, (List.forall_mem_cons.mpr ⟨wd_660, (fun _ h => absurd h List.not_mem_nil)⟩)⟩)⟩)⟩)⟩)⟩)⟩)⟩)⟩)⟩)⟩)⟩)⟩)⟩)⟩)⟩)⟩)⟩)⟩)⟩)⟩)⟩)⟩)⟩)
set_option maxRecDepth 20000 in
theorem hl_wsX12_likely_r3 : ∀ w ∈ wsX12_likely_r3, w ∈ lw_tbl := by
  unfold wsX12_likely_r3
  exact (List.forall_mem_cons.mpr ⟨wd_659, (List.forall_mem_cons.mpr ⟨wd_658, (List.forall_mem_cons.mpr ⟨wd_657, (List.forall_mem_cons.mpr ⟨wd_656, (List.forall_mem_cons.mpr ⟨wd_655, (List.forall_mem_cons.mpr ⟨wd_1276, (List.forall_mem_cons.mpr ⟨wd_1275, (List.forall_mem_cons.mpr ⟨wd_1274, (List.forall_mem_cons.mpr ⟨wd_1273, (List.forall_mem_cons.mpr ⟨wd_1272, (List.forall_mem_cons.mpr ⟨wd_1271, (List.forall_mem_cons.mpr ⟨wd_1167, (List.forall_mem_cons.mpr ⟨wd_1172, (List.forall_mem_cons.mpr ⟨wd_1176, (List.forall_mem_cons.mpr ⟨wd_1175, (List.forall_mem_cons.mpr ⟨wd_1174, (List.forall_mem_cons.mpr ⟨wd_1173, (List.forall_mem_cons.mpr ⟨wd_890, (List.forall_mem_cons.mpr ⟨wd_889, (List.forall_mem_cons.mpr ⟨wd_888, (List.forall_mem_cons.mpr ⟨wd_887, (List.forall_mem_cons.mpr ⟨wd_1287, (List.forall_mem_cons.mpr ⟨wd_1286, (List.forall_mem_cons.mpr ⟨wd_1285, (fun _ h => absurd h List.not_mem_nil)⟩)⟩)⟩)⟩)⟩)⟩)⟩)⟩)⟩)⟩)⟩)⟩)⟩)⟩)⟩)⟩)⟩)⟩)⟩)⟩)⟩)⟩)⟩)⟩)
theorem wd_1310 : Cond.code yX12_isMuch cX12_isMuch 7 (some .boolean) ∈ lw_tbl := mt_8 (List.mem_of_getElem? (i := 68) rfl)
theorem wd_1311 : Cond.static yX12_isMuch ∈ lw_tbl := mt_8 (List.mem_of_getElem? (i := 67) rfl)
theorem wd_1312 : Cond.methodLink RX12 412 yX12_isMuch ∈ lw_tbl := mt_8 (List.mem_of_getElem? (i := 66) rfl)
set_option maxRecDepth 20000 in
theorem hl_wsX12_likely_r4 : ∀ w ∈ wsX12_likely_r4, w ∈ lw_tbl := by
  unfold wsX12_likely_r4
  exact (List.forall_mem_cons.mpr ⟨wd_1284, (List.forall_mem_cons.mpr ⟨wd_1095, (List.forall_mem_cons.mpr ⟨wd_1094, (List.forall_mem_cons.mpr ⟨wd_1093, (List.forall_mem_cons.mpr ⟨wd_1092, (List.forall_mem_cons.mpr ⟨wd_1166, (List.forall_mem_cons.mpr ⟨wd_1165, (List.forall_mem_cons.mpr ⟨wd_1164, (List.forall_mem_cons.mpr ⟨wd_1163, (List.forall_mem_cons.mpr ⟨wd_1279, (List.forall_mem_cons.mpr ⟨wd_1278, (List.forall_mem_cons.mpr ⟨wd_1277, (List.forall_mem_cons.mpr ⟨wd_1297, (List.forall_mem_cons.mpr ⟨wd_1296, (List.forall_mem_cons.mpr ⟨wd_1295, (List.forall_mem_cons.mpr ⟨wd_1294, (List.forall_mem_cons.mpr ⟨wd_1312, (List.forall_mem_cons.mpr ⟨wd_1311, (List.forall_mem_cons.mpr ⟨wd_1310, (fun _ h => absurd h List.not_mem_nil)⟩)⟩)⟩)⟩)⟩)⟩)⟩)⟩)⟩)⟩)⟩)⟩)⟩)⟩)⟩)⟩)⟩)⟩)⟩)
set_option maxRecDepth 20000 in
theorem hl_wsX12_likely : ∀ w ∈ wsX12_likely, w ∈ lw_tbl := by
  unfold wsX12_likely
  exact (List.forall_mem_cons.mpr ⟨wd_1309, (List.forall_mem_append.mpr ⟨(List.forall_mem_append.mpr ⟨hl_wsX12_likely_r1, (List.forall_mem_append.mpr ⟨hl_wsX12_likely_r2, (List.forall_mem_append.mpr ⟨hl_wsX12_likely_r3, hl_wsX12_likely_r4⟩)⟩)⟩), hl_wsX120⟩)⟩)
def tL_likely : List Cond := (wsV RL 119 RX11 yX11_likely wsX11_likely) ++ (wsV RL 122 RX12 yX12_likely wsX12_likely)
theorem tL_likely_in : ∀ w ∈ tL_likely, w ∈ lw_tbl := by
  unfold tL_likely
  exact (List.forall_mem_append.mpr ⟨(List.forall_mem_append.mpr ⟨(List.forall_mem_cons.mpr ⟨wd_1300, (List.forall_mem_cons.mpr ⟨wd_1299, (List.forall_mem_cons.mpr ⟨wd_1298, (List.forall_mem_cons.mpr ⟨wd_0, (fun _ h => absurd h List.not_mem_nil)⟩)⟩)⟩)⟩), hl_wsX11_likely⟩), (List.forall_mem_append.mpr ⟨(List.forall_mem_cons.mpr ⟨wd_1308, (List.forall_mem_cons.mpr ⟨wd_1307, (List.forall_mem_cons.mpr ⟨wd_1306, (List.forall_mem_cons.mpr ⟨wd_27, (fun _ h => absurd h List.not_mem_nil)⟩)⟩)⟩)⟩), hl_wsX12_likely⟩)⟩)
set_option maxRecDepth 20000 in
theorem tL_likely_x : GoodIn tL_likely (wsV RL 119 RX11 yX11_likely wsX11_likely) := fun w h => ⟨List.mem_append_left _ h, good_of_word (List.all_eq_true.mp (show (wsV RL 119 RX11 yX11_likely wsX11_likely).all goodWord = true by decide +kernel) w h)⟩
set_option maxRecDepth 20000 in
theorem tL_likely_m : GoodIn tL_likely (wsV RL 122 RX12 yX12_likely wsX12_likely) := fun w h => ⟨List.mem_append_right _ h, good_of_word (List.all_eq_true.mp (show (wsV RL 122 RX12 yX12_likely wsX12_likely).all goodWord = true by decide +kernel) w h)⟩
theorem hdLX11_likely : yX11_likely.cls = RX11 ∧ yX11_likely.cls ≠ "java/lang/invoke/MethodHandle" ∧ yX11_likely.cls ≠ "java/lang/invoke/VarHandle" ∧ (parseMethodDescriptor yX11_likely.desc).map (fun d => d.parameters.length) = some 1 := by decide +kernel
theorem hdLX12_likely : yX12_likely.cls = RX12 ∧ yX12_likely.cls ≠ "java/lang/invoke/MethodHandle" ∧ yX12_likely.cls ≠ "java/lang/invoke/VarHandle" ∧ (parseMethodDescriptor yX12_likely.desc).map (fun d => d.parameters.length) = some 1 := by decide +kernel
theorem wd_1313 : Cond.selects RX11 yX11_shutsBy yX11_shutsBy ∈ lw_tbl := mt_5 (List.mem_of_getElem? (i := 78) rfl)
theorem wd_1314 : Cond.instanceMethod yX11_shutsBy ∈ lw_tbl := mt_5 (List.mem_of_getElem? (i := 77) rfl)
theorem wd_1315 : Cond.methodLink RL 123 yX11_shutsBy ∈ lw_tbl := mt_5 (List.mem_of_getElem? (i := 76) rfl)
theorem wd_1316 : Cond.code yX11_shutsBy cX11_shutsBy 5 (some .long) ∈ lw_tbl := mt_5 (List.mem_of_getElem? (i := 79) rfl)
theorem wd_1317 : Cond.fieldLink RX11 308 "OneOfEach$Outlook" "shutWays" "[J" ∈ lw_tbl := mt_2 (List.mem_of_getElem? (i := 24) rfl)
set_option maxRecDepth 20000 in
theorem hl_wsX11_shutsBy_r1 : ∀ w ∈ wsX11_shutsBy_r1, w ∈ lw_tbl := by
  unfold wsX11_shutsBy_r1
  exact (List.forall_mem_cons.mpr ⟨wd_1034, (List.forall_mem_cons.mpr ⟨wd_85, (List.forall_mem_cons.mpr ⟨wd_84, (List.forall_mem_cons.mpr ⟨wd_555, (List.forall_mem_cons.mpr ⟨wd_1317, (List.forall_mem_cons.mpr ⟨wd_1234, (List.forall_mem_cons.mpr ⟨wd_673, (List.forall_mem_cons.mpr ⟨wd_672, (List.forall_mem_cons.mpr ⟨wd_671, (List.forall_mem_cons.mpr ⟨wd_0, (List.forall_mem_cons.mpr ⟨wd_670, (List.forall_mem_cons.mpr ⟨wd_545, (List.forall_mem_cons.mpr ⟨wd_1233, (List.forall_mem_cons.mpr ⟨wd_1232, (List.forall_mem_cons.mpr ⟨wd_1231, (List.forall_mem_cons.mpr ⟨wd_1033, (List.forall_mem_cons.mpr ⟨wd_1032, (List.forall_mem_cons.mpr ⟨wd_1031, (List.forall_mem_cons.mpr ⟨wd_1030, (List.forall_mem_cons.mpr ⟨wd_1029, (List.forall_mem_cons.mpr ⟨wd_1028, (List.forall_mem_cons.mpr ⟨wd_1027, (List.forall_mem_cons.mpr ⟨wd_1026, (List.forall_mem_cons.mpr ⟨wd_1025, (fun _ h => absurd h List.not_mem_nil)⟩)⟩)⟩)⟩)⟩)⟩)⟩)⟩)⟩)⟩)⟩)⟩)⟩)⟩)⟩)⟩)⟩)⟩)⟩)⟩)⟩)⟩)⟩)⟩)
set_option maxRecDepth 20000 in
theorem hl_wsX11_shutsBy_r2 : ∀ w ∈ wsX11_shutsBy_r2, w ∈ lw_tbl := by
  unfold wsX11_shutsBy_r2
  exact (List.forall_mem_cons.mpr ⟨wd_1024, (List.forall_mem_cons.mpr ⟨wd_1023, (List.forall_mem_cons.mpr ⟨wd_1022, (List.forall_mem_cons.mpr ⟨wd_1021, (List.forall_mem_cons.mpr ⟨wd_1020, (List.forall_mem_cons.mpr ⟨wd_1019, (List.forall_mem_cons.mpr ⟨wd_1018, (List.forall_mem_cons.mpr ⟨wd_1017, (List.forall_mem_cons.mpr ⟨wd_1016, (List.forall_mem_cons.mpr ⟨wd_744, (List.forall_mem_cons.mpr ⟨wd_743, (List.forall_mem_cons.mpr ⟨wd_102, (List.forall_mem_cons.mpr ⟨wd_742, (List.forall_mem_cons.mpr ⟨wd_100, (List.forall_mem_cons.mpr ⟨wd_1040, (List.forall_mem_cons.mpr ⟨wd_543, (List.forall_mem_cons.mpr ⟨wd_542, (List.forall_mem_cons.mpr ⟨wd_362, (List.forall_mem_cons.mpr ⟨wd_541, (List.forall_mem_cons.mpr ⟨wd_540, (List.forall_mem_cons.mpr ⟨wd_578, (List.forall_mem_cons.mpr ⟨wd_577, (List.forall_mem_cons.mpr ⟨wd_360, (List.forall_mem_cons.mpr ⟨wd_576, (fun _ h => absurd h List.not_mem_nil)⟩)⟩)⟩)⟩)⟩)⟩)⟩)⟩)⟩)⟩)⟩)⟩)⟩)⟩)⟩)⟩)⟩)⟩)⟩)⟩)⟩)⟩)⟩)⟩)
set_option maxRecDepth 20000 in
theorem hl_wsX11_shutsBy_r3 : ∀ w ∈ wsX11_shutsBy_r3, w ∈ lw_tbl := by
  unfold wsX11_shutsBy_r3
  exact (List.forall_mem_cons.mpr ⟨wd_575, (List.forall_mem_cons.mpr ⟨wd_574, (List.forall_mem_cons.mpr ⟨wd_573, (List.forall_mem_cons.mpr ⟨wd_1039, (List.forall_mem_cons.mpr ⟨wd_358, (List.forall_mem_cons.mpr ⟨wd_357, (List.forall_mem_cons.mpr ⟨wd_356, (List.forall_mem_cons.mpr ⟨wd_1038, (List.forall_mem_cons.mpr ⟨wd_1037, (List.forall_mem_cons.mpr ⟨wd_1036, (List.forall_mem_cons.mpr ⟨wd_1035, (List.forall_mem_cons.mpr ⟨wd_1043, (List.forall_mem_cons.mpr ⟨wd_1042, (List.forall_mem_cons.mpr ⟨wd_1041, (List.forall_mem_cons.mpr ⟨wd_571, (List.forall_mem_cons.mpr ⟨wd_570, (List.forall_mem_cons.mpr ⟨wd_569, (List.forall_mem_cons.mpr ⟨wd_568, (List.forall_mem_cons.mpr ⟨wd_134, (List.forall_mem_cons.mpr ⟨wd_133, (List.forall_mem_cons.mpr ⟨wd_132, (List.forall_mem_cons.mpr ⟨wd_567, (List.forall_mem_cons.mpr ⟨wd_566, (List.forall_mem_cons.mpr ⟨wd_565, (fun _ h => absurd h List.not_mem_nil)⟩)⟩)⟩)⟩)⟩)⟩)⟩)⟩)⟩)⟩)⟩)⟩)⟩)⟩)⟩)⟩)⟩)⟩)⟩)⟩)⟩)⟩)⟩)⟩)
set_option maxRecDepth 20000 in
theorem hl_wsX11_shutsBy_r4 : ∀ w ∈ wsX11_shutsBy_r4, w ∈ lw_tbl := by
  unfold wsX11_shutsBy_r4
  exact (List.forall_mem_cons.mpr ⟨wd_564, (List.forall_mem_cons.mpr ⟨wd_563, (List.forall_mem_cons.mpr ⟨wd_562, (List.forall_mem_cons.mpr ⟨wd_561, (List.forall_mem_cons.mpr ⟨wd_560, (List.forall_mem_cons.mpr ⟨wd_559, (List.forall_mem_cons.mpr ⟨wd_602, (List.forall_mem_cons.mpr ⟨wd_601, (List.forall_mem_cons.mpr ⟨wd_600, (List.forall_mem_cons.mpr ⟨wd_599, (List.forall_mem_cons.mpr ⟨wd_598, (List.forall_mem_cons.mpr ⟨wd_597, (List.forall_mem_cons.mpr ⟨wd_596, (List.forall_mem_cons.mpr ⟨wd_595, (List.forall_mem_cons.mpr ⟨wd_594, (List.forall_mem_cons.mpr ⟨wd_593, (List.forall_mem_cons.mpr ⟨wd_592, (List.forall_mem_cons.mpr ⟨wd_591, (List.forall_mem_cons.mpr ⟨wd_590, (List.forall_mem_cons.mpr ⟨wd_589, (List.forall_mem_cons.mpr ⟨wd_588, (List.forall_mem_cons.mpr ⟨wd_587, (List.forall_mem_cons.mpr ⟨wd_586, (List.forall_mem_cons.mpr ⟨wd_585, (fun _ h => absurd h List.not_mem_nil)⟩)⟩)⟩)⟩)⟩)⟩)⟩)⟩)⟩)⟩)⟩)⟩)⟩)⟩)⟩)⟩)⟩)⟩)⟩)⟩)⟩)⟩)⟩)⟩)
set_option maxRecDepth 20000 in
theorem hl_wsX11_shutsBy_r5 : ∀ w ∈ wsX11_shutsBy_r5, w ∈ lw_tbl := by
  unfold wsX11_shutsBy_r5
  exact (List.forall_mem_cons.mpr ⟨wd_584, (List.forall_mem_cons.mpr ⟨wd_583, (List.forall_mem_cons.mpr ⟨wd_582, (List.forall_mem_cons.mpr ⟨wd_581, (List.forall_mem_cons.mpr ⟨wd_580, (List.forall_mem_cons.mpr ⟨wd_579, (List.forall_mem_cons.mpr ⟨wd_608, (List.forall_mem_cons.mpr ⟨wd_607, (List.forall_mem_cons.mpr ⟨wd_606, (List.forall_mem_cons.mpr ⟨wd_605, (List.forall_mem_cons.mpr ⟨wd_604, (List.forall_mem_cons.mpr ⟨wd_603, (List.forall_mem_cons.mpr ⟨wd_1242, (List.forall_mem_cons.mpr ⟨wd_1241, (List.forall_mem_cons.mpr ⟨wd_1240, (List.forall_mem_cons.mpr ⟨wd_1239, (List.forall_mem_cons.mpr ⟨wd_1238, (List.forall_mem_cons.mpr ⟨wd_1237, (List.forall_mem_cons.mpr ⟨wd_1236, (List.forall_mem_cons.mpr ⟨wd_1141, (List.forall_mem_cons.mpr ⟨wd_1140, (List.forall_mem_cons.mpr ⟨wd_1139, (List.forall_mem_cons.mpr ⟨wd_1138, (List.forall_mem_cons.mpr ⟨wd_1137, (fun _ h => absurd h List.not_mem_nil)⟩)⟩)⟩)⟩)⟩)⟩)⟩)⟩)⟩)⟩)⟩)⟩)⟩)⟩)⟩)⟩)⟩)⟩)⟩)⟩)⟩)⟩)⟩)⟩)
set_option maxRecDepth 20000 in
theorem hl_wsX11_shutsBy_r6 : ∀ w ∈ wsX11_shutsBy_r6, w ∈ lw_tbl := by
  unfold wsX11_shutsBy_r6
  exact (List.forall_mem_cons.mpr ⟨wd_1136, (List.forall_mem_cons.mpr ⟨wd_1135, (List.forall_mem_cons.mpr ⟨wd_1134, (List.forall_mem_cons.mpr ⟨wd_1235, (List.forall_mem_cons.mpr ⟨wd_865, (List.forall_mem_cons.mpr ⟨wd_864, (List.forall_mem_cons.mpr ⟨wd_114, (List.forall_mem_cons.mpr ⟨wd_863, (List.forall_mem_cons.mpr ⟨wd_112, (List.forall_mem_cons.mpr ⟨wd_862, (List.forall_mem_cons.mpr ⟨wd_1252, (List.forall_mem_cons.mpr ⟨wd_1251, (List.forall_mem_cons.mpr ⟨wd_1250, (List.forall_mem_cons.mpr ⟨wd_1249, (List.forall_mem_cons.mpr ⟨wd_1129, (List.forall_mem_cons.mpr ⟨wd_1248, (List.forall_mem_cons.mpr ⟨wd_1247, (List.forall_mem_cons.mpr ⟨wd_1246, (List.forall_mem_cons.mpr ⟨wd_1245, (List.forall_mem_cons.mpr ⟨wd_1244, (List.forall_mem_cons.mpr ⟨wd_1243, (List.forall_mem_cons.mpr ⟨wd_1047, (List.forall_mem_cons.mpr ⟨wd_1046, (List.forall_mem_cons.mpr ⟨wd_1045, (fun _ h => absurd h List.not_mem_nil)⟩)⟩)⟩)⟩)⟩)⟩)⟩)⟩)⟩)⟩)⟩)⟩)⟩)⟩)⟩)⟩)⟩)⟩)⟩)⟩)⟩)⟩)⟩)⟩)
set_option maxRecDepth 20000 in
theorem hl_wsX11_shutsBy_r7 : ∀ w ∈ wsX11_shutsBy_r7, w ∈ lw_tbl := by
  unfold wsX11_shutsBy_r7
  exact (List.forall_mem_cons.mpr ⟨wd_1044, (List.forall_mem_cons.mpr ⟨wd_1055, (List.forall_mem_cons.mpr ⟨wd_1054, (List.forall_mem_cons.mpr ⟨wd_1053, (List.forall_mem_cons.mpr ⟨wd_1052, (List.forall_mem_cons.mpr ⟨wd_1128, (List.forall_mem_cons.mpr ⟨wd_1156, (List.forall_mem_cons.mpr ⟨wd_1155, (List.forall_mem_cons.mpr ⟨wd_1154, (List.forall_mem_cons.mpr ⟨wd_1258, (List.forall_mem_cons.mpr ⟨wd_1257, (List.forall_mem_cons.mpr ⟨wd_1256, (List.forall_mem_cons.mpr ⟨wd_1255, (List.forall_mem_cons.mpr ⟨wd_1254, (List.forall_mem_cons.mpr ⟨wd_1253, (fun _ h => absurd h List.not_mem_nil)⟩)⟩)⟩)⟩)⟩)⟩)⟩)⟩)⟩)⟩)⟩)⟩)⟩)⟩)⟩)
set_option maxRecDepth 20000 in
theorem hl_wsX11_shutsBy : ∀ w ∈ wsX11_shutsBy, w ∈ lw_tbl := by
  unfold wsX11_shutsBy
  exact (List.forall_mem_cons.mpr ⟨wd_1316, (List.forall_mem_append.mpr ⟨(List.forall_mem_append.mpr ⟨(List.forall_mem_append.mpr ⟨(List.forall_mem_append.mpr ⟨(List.forall_mem_append.mpr ⟨(List.forall_mem_append.mpr ⟨hl_wsX11_shutsBy_r1, (List.forall_mem_append.mpr ⟨hl_wsX11_shutsBy_r2, (List.forall_mem_append.mpr ⟨hl_wsX11_shutsBy_r3, (List.forall_mem_append.mpr ⟨hl_wsX11_shutsBy_r4, (List.forall_mem_append.mpr ⟨hl_wsX11_shutsBy_r5, (List.forall_mem_append.mpr ⟨hl_wsX11_shutsBy_r6, hl_wsX11_shutsBy_r7⟩)⟩)⟩)⟩)⟩)⟩), hl_wsX110⟩), hl_wsX90⟩), hl_wsX50⟩), hl_wsX70⟩), hl_wsX40⟩)⟩)
theorem wd_1318 : Cond.selects RX12 yX12_shutsBy yX12_shutsBy ∈ lw_tbl := mt_8 (List.mem_of_getElem? (i := 71) rfl)
theorem wd_1319 : Cond.instanceMethod yX12_shutsBy ∈ lw_tbl := mt_8 (List.mem_of_getElem? (i := 70) rfl)
theorem wd_1320 : Cond.methodLink RL 127 yX12_shutsBy ∈ lw_tbl := mt_8 (List.mem_of_getElem? (i := 69) rfl)
theorem wd_1321 : Cond.code yX12_shutsBy cX12_shutsBy 4 (some .long) ∈ lw_tbl := mt_8 (List.mem_of_getElem? (i := 72) rfl)
set_option maxRecDepth 20000 in
theorem hl_wsX12_shutsBy_r1 : ∀ w ∈ wsX12_shutsBy_r1, w ∈ lw_tbl := by
  unfold wsX12_shutsBy_r1
  exact (List.forall_mem_cons.mpr ⟨wd_34, (List.forall_mem_cons.mpr ⟨wd_1270, (List.forall_mem_cons.mpr ⟨wd_1161, (List.forall_mem_cons.mpr ⟨wd_1271, (List.forall_mem_cons.mpr ⟨wd_692, (List.forall_mem_cons.mpr ⟨wd_691, (List.forall_mem_cons.mpr ⟨wd_690, (List.forall_mem_cons.mpr ⟨wd_27, (List.forall_mem_cons.mpr ⟨wd_689, (List.forall_mem_cons.mpr ⟨wd_423, (List.forall_mem_cons.mpr ⟨wd_422, (List.forall_mem_cons.mpr ⟨wd_421, (List.forall_mem_cons.mpr ⟨wd_420, (List.forall_mem_cons.mpr ⟨wd_1269, (List.forall_mem_cons.mpr ⟨wd_1268, (List.forall_mem_cons.mpr ⟨wd_1267, (List.forall_mem_cons.mpr ⟨wd_1266, (List.forall_mem_cons.mpr ⟨wd_1265, (List.forall_mem_cons.mpr ⟨wd_1264, (List.forall_mem_cons.mpr ⟨wd_913, (List.forall_mem_cons.mpr ⟨wd_1087, (List.forall_mem_cons.mpr ⟨wd_1086, (List.forall_mem_cons.mpr ⟨wd_1085, (List.forall_mem_cons.mpr ⟨wd_1084, (fun _ h => absurd h List.not_mem_nil)⟩)⟩)⟩)⟩)⟩)⟩)⟩)⟩)⟩)⟩)⟩)⟩)⟩)⟩)⟩)⟩)⟩)⟩)⟩)⟩)⟩)⟩)⟩)⟩)
set_option maxRecDepth 20000 in
theorem hl_wsX12_shutsBy_r2 : ∀ w ∈ wsX12_shutsBy_r2, w ∈ lw_tbl := by
  unfold wsX12_shutsBy_r2
  exact (List.forall_mem_cons.mpr ⟨wd_1083, (List.forall_mem_cons.mpr ⟨wd_648, (List.forall_mem_cons.mpr ⟨wd_647, (List.forall_mem_cons.mpr ⟨wd_646, (List.forall_mem_cons.mpr ⟨wd_645, (List.forall_mem_cons.mpr ⟨wd_618, (List.forall_mem_cons.mpr ⟨wd_617, (List.forall_mem_cons.mpr ⟨wd_616, (List.forall_mem_cons.mpr ⟨wd_615, (List.forall_mem_cons.mpr ⟨wd_614, (List.forall_mem_cons.mpr ⟨wd_613, (List.forall_mem_cons.mpr ⟨wd_654, (List.forall_mem_cons.mpr ⟨wd_653, (List.forall_mem_cons.mpr ⟨wd_652, (List.forall_mem_cons.mpr ⟨wd_651, (List.forall_mem_cons.mpr ⟨wd_650, (List.forall_mem_cons.mpr ⟨wd_649, (List.forall_mem_cons.mpr ⟨wd_644, (List.forall_mem_cons.mpr ⟨wd_643, (List.forall_mem_cons.mpr ⟨wd_642, (List.forall_mem_cons.mpr ⟨wd_641, (List.forall_mem_cons.mpr ⟨wd_640, (List.forall_mem_cons.mpr ⟨wd_639, (List.forall_mem_cons.mpr ⟨wd_638, (fun _ h => absurd h List.not_mem_nil)⟩)⟩)⟩)⟩)⟩)⟩)⟩)⟩)⟩)⟩)⟩)⟩)⟩)⟩)⟩)⟩)⟩)⟩)⟩)⟩)⟩)⟩)⟩)⟩)
set_option maxRecDepth 20000 in
theorem hl_wsX12_shutsBy_r3 : ∀ w ∈ wsX12_shutsBy_r3, w ∈ lw_tbl := by
  unfold wsX12_shutsBy_r3
  exact (List.forall_mem_cons.mpr ⟨wd_637, (List.forall_mem_cons.mpr ⟨wd_636, (List.forall_mem_cons.mpr ⟨wd_635, (List.forall_mem_cons.mpr ⟨wd_634, (List.forall_mem_cons.mpr ⟨wd_633, (List.forall_mem_cons.mpr ⟨wd_632, (List.forall_mem_cons.mpr ⟨wd_631, (List.forall_mem_cons.mpr ⟨wd_665, (List.forall_mem_cons.mpr ⟨wd_664, (List.forall_mem_cons.mpr ⟨wd_663, (List.forall_mem_cons.mpr ⟨wd_662, (List.forall_mem_cons.mpr ⟨wd_661, (List.forall_mem_cons.mpr ⟨wd_660, (List.forall_mem_cons.mpr ⟨wd_659, (List.forall_mem_cons.mpr ⟨wd_658, (List.forall_mem_cons.mpr ⟨wd_657, (List.forall_mem_cons.mpr ⟨wd_656, (List.forall_mem_cons.mpr ⟨wd_655, (List.forall_mem_cons.mpr ⟨wd_1276, (List.forall_mem_cons.mpr ⟨wd_1275, (List.forall_mem_cons.mpr ⟨wd_1274, (List.forall_mem_cons.mpr ⟨wd_1273, (List.forall_mem_cons.mpr ⟨wd_1272, (List.forall_mem_cons.mpr ⟨wd_1167, (fun _ h => absurd h List.not_mem_nil)⟩)⟩)⟩)⟩)⟩)⟩)⟩)⟩)⟩)⟩)⟩)⟩)⟩)⟩)⟩)⟩)⟩)⟩)⟩)⟩)⟩)⟩)⟩)⟩)
set_option maxRecDepth 20000 in
theorem hl_wsX12_shutsBy_r4 : ∀ w ∈ wsX12_shutsBy_r4, w ∈ lw_tbl := by
  unfold wsX12_shutsBy_r4
  exact (List.forall_mem_cons.mpr ⟨wd_1172, (List.forall_mem_cons.mpr ⟨wd_1176, (List.forall_mem_cons.mpr ⟨wd_1175, (List.forall_mem_cons.mpr ⟨wd_1174, (List.forall_mem_cons.mpr ⟨wd_1173, (List.forall_mem_cons.mpr ⟨wd_890, (List.forall_mem_cons.mpr ⟨wd_889, (List.forall_mem_cons.mpr ⟨wd_888, (List.forall_mem_cons.mpr ⟨wd_887, (List.forall_mem_cons.mpr ⟨wd_1287, (List.forall_mem_cons.mpr ⟨wd_1286, (List.forall_mem_cons.mpr ⟨wd_1285, (List.forall_mem_cons.mpr ⟨wd_1284, (List.forall_mem_cons.mpr ⟨wd_1095, (List.forall_mem_cons.mpr ⟨wd_1094, (List.forall_mem_cons.mpr ⟨wd_1093, (List.forall_mem_cons.mpr ⟨wd_1092, (List.forall_mem_cons.mpr ⟨wd_1279, (List.forall_mem_cons.mpr ⟨wd_1278, (List.forall_mem_cons.mpr ⟨wd_1277, (List.forall_mem_cons.mpr ⟨wd_1297, (List.forall_mem_cons.mpr ⟨wd_1296, (List.forall_mem_cons.mpr ⟨wd_1295, (List.forall_mem_cons.mpr ⟨wd_1294, (fun _ h => absurd h List.not_mem_nil)⟩)⟩)⟩)⟩)⟩)⟩)⟩)⟩)⟩)⟩)⟩)⟩)⟩)⟩)⟩)⟩)⟩)⟩)⟩)⟩)⟩)⟩)⟩)⟩)
set_option maxRecDepth 20000 in
theorem hl_wsX12_shutsBy_r5 : ∀ w ∈ wsX12_shutsBy_r5, w ∈ lw_tbl := by
  unfold wsX12_shutsBy_r5
  exact (List.forall_mem_cons.mpr ⟨wd_1293, (List.forall_mem_cons.mpr ⟨wd_1292, (List.forall_mem_cons.mpr ⟨wd_1291, (List.forall_mem_cons.mpr ⟨wd_1290, (List.forall_mem_cons.mpr ⟨wd_1289, (List.forall_mem_cons.mpr ⟨wd_1288, (fun _ h => absurd h List.not_mem_nil)⟩)⟩)⟩)⟩)⟩)⟩)
set_option maxRecDepth 20000 in
theorem hl_wsX12_shutsBy : ∀ w ∈ wsX12_shutsBy, w ∈ lw_tbl := by
  unfold wsX12_shutsBy
  exact (List.forall_mem_cons.mpr ⟨wd_1321, (List.forall_mem_append.mpr ⟨(List.forall_mem_append.mpr ⟨hl_wsX12_shutsBy_r1, (List.forall_mem_append.mpr ⟨hl_wsX12_shutsBy_r2, (List.forall_mem_append.mpr ⟨hl_wsX12_shutsBy_r3, (List.forall_mem_append.mpr ⟨hl_wsX12_shutsBy_r4, hl_wsX12_shutsBy_r5⟩)⟩)⟩)⟩), hl_wsX120⟩)⟩)
def tL_shutsBy : List Cond := (wsV RL 123 RX11 yX11_shutsBy wsX11_shutsBy) ++ (wsV RL 127 RX12 yX12_shutsBy wsX12_shutsBy)
theorem tL_shutsBy_in : ∀ w ∈ tL_shutsBy, w ∈ lw_tbl := by
  unfold tL_shutsBy
  exact (List.forall_mem_append.mpr ⟨(List.forall_mem_append.mpr ⟨(List.forall_mem_cons.mpr ⟨wd_1315, (List.forall_mem_cons.mpr ⟨wd_1314, (List.forall_mem_cons.mpr ⟨wd_1313, (List.forall_mem_cons.mpr ⟨wd_0, (fun _ h => absurd h List.not_mem_nil)⟩)⟩)⟩)⟩), hl_wsX11_shutsBy⟩), (List.forall_mem_append.mpr ⟨(List.forall_mem_cons.mpr ⟨wd_1320, (List.forall_mem_cons.mpr ⟨wd_1319, (List.forall_mem_cons.mpr ⟨wd_1318, (List.forall_mem_cons.mpr ⟨wd_27, (fun _ h => absurd h List.not_mem_nil)⟩)⟩)⟩)⟩), hl_wsX12_shutsBy⟩)⟩)
set_option maxRecDepth 20000 in
theorem tL_shutsBy_x : GoodIn tL_shutsBy (wsV RL 123 RX11 yX11_shutsBy wsX11_shutsBy) := fun w h => ⟨List.mem_append_left _ h, good_of_word (List.all_eq_true.mp (show (wsV RL 123 RX11 yX11_shutsBy wsX11_shutsBy).all goodWord = true by decide +kernel) w h)⟩
set_option maxRecDepth 20000 in
theorem tL_shutsBy_m : GoodIn tL_shutsBy (wsV RL 127 RX12 yX12_shutsBy wsX12_shutsBy) := fun w h => ⟨List.mem_append_right _ h, good_of_word (List.all_eq_true.mp (show (wsV RL 127 RX12 yX12_shutsBy wsX12_shutsBy).all goodWord = true by decide +kernel) w h)⟩
theorem hdLX11_shutsBy : yX11_shutsBy.cls = RX11 ∧ yX11_shutsBy.cls ≠ "java/lang/invoke/MethodHandle" ∧ yX11_shutsBy.cls ≠ "java/lang/invoke/VarHandle" ∧ (parseMethodDescriptor yX11_shutsBy.desc).map (fun d => d.parameters.length) = some 3 := by decide +kernel
theorem hdLX12_shutsBy : yX12_shutsBy.cls = RX12 ∧ yX12_shutsBy.cls ≠ "java/lang/invoke/MethodHandle" ∧ yX12_shutsBy.cls ≠ "java/lang/invoke/VarHandle" ∧ (parseMethodDescriptor yX12_shutsBy.desc).map (fun d => d.parameters.length) = some 3 := by decide +kernel
theorem wd_1322 : Cond.selects RX11 yX11_closer yX11_closer ∈ lw_tbl := mt_5 (List.mem_of_getElem? (i := 82) rfl)
theorem wd_1323 : Cond.instanceMethod yX11_closer ∈ lw_tbl := mt_5 (List.mem_of_getElem? (i := 81) rfl)
theorem wd_1324 : Cond.methodLink RL 128 yX11_closer ∈ lw_tbl := mt_5 (List.mem_of_getElem? (i := 80) rfl)
theorem wd_1325 : Cond.code yX11_closer cX11_closer 6 (some .int) ∈ lw_tbl := mt_5 (List.mem_of_getElem? (i := 83) rfl)
set_option maxRecDepth 20000 in
theorem hl_wsX11_closer_r1 : ∀ w ∈ wsX11_closer_r1, w ∈ lw_tbl := by
  unfold wsX11_closer_r1
  exact (List.forall_mem_cons.mpr ⟨wd_1034, (List.forall_mem_cons.mpr ⟨wd_85, (List.forall_mem_cons.mpr ⟨wd_84, (List.forall_mem_cons.mpr ⟨wd_555, (List.forall_mem_cons.mpr ⟨wd_545, (List.forall_mem_cons.mpr ⟨wd_1317, (List.forall_mem_cons.mpr ⟨wd_1033, (List.forall_mem_cons.mpr ⟨wd_1032, (List.forall_mem_cons.mpr ⟨wd_1031, (List.forall_mem_cons.mpr ⟨wd_1030, (List.forall_mem_cons.mpr ⟨wd_1029, (List.forall_mem_cons.mpr ⟨wd_1028, (List.forall_mem_cons.mpr ⟨wd_1027, (List.forall_mem_cons.mpr ⟨wd_1026, (List.forall_mem_cons.mpr ⟨wd_1025, (List.forall_mem_cons.mpr ⟨wd_1024, (List.forall_mem_cons.mpr ⟨wd_1023, (List.forall_mem_cons.mpr ⟨wd_1022, (List.forall_mem_cons.mpr ⟨wd_1021, (List.forall_mem_cons.mpr ⟨wd_1020, (List.forall_mem_cons.mpr ⟨wd_1019, (List.forall_mem_cons.mpr ⟨wd_1018, (List.forall_mem_cons.mpr ⟨wd_1017, (List.forall_mem_cons.mpr ⟨wd_1016, (fun _ h => absurd h List.not_mem_nil)⟩)⟩)⟩)⟩)⟩)⟩)⟩)⟩)⟩)⟩)⟩)⟩)⟩)⟩)⟩)⟩)⟩)⟩)⟩)⟩)⟩)⟩)⟩)⟩)
set_option maxRecDepth 20000 in
theorem hl_wsX11_closer_r2 : ∀ w ∈ wsX11_closer_r2, w ∈ lw_tbl := by
  unfold wsX11_closer_r2
  exact (List.forall_mem_cons.mpr ⟨wd_744, (List.forall_mem_cons.mpr ⟨wd_743, (List.forall_mem_cons.mpr ⟨wd_102, (List.forall_mem_cons.mpr ⟨wd_742, (List.forall_mem_cons.mpr ⟨wd_100, (List.forall_mem_cons.mpr ⟨wd_1040, (List.forall_mem_cons.mpr ⟨wd_543, (List.forall_mem_cons.mpr ⟨wd_542, (List.forall_mem_cons.mpr ⟨wd_362, (List.forall_mem_cons.mpr ⟨wd_541, (List.forall_mem_cons.mpr ⟨wd_540, (List.forall_mem_cons.mpr ⟨wd_578, (List.forall_mem_cons.mpr ⟨wd_577, (List.forall_mem_cons.mpr ⟨wd_360, (List.forall_mem_cons.mpr ⟨wd_576, (List.forall_mem_cons.mpr ⟨wd_575, (List.forall_mem_cons.mpr ⟨wd_574, (List.forall_mem_cons.mpr ⟨wd_573, (List.forall_mem_cons.mpr ⟨wd_1039, (List.forall_mem_cons.mpr ⟨wd_358, (List.forall_mem_cons.mpr ⟨wd_357, (List.forall_mem_cons.mpr ⟨wd_356, (List.forall_mem_cons.mpr ⟨wd_1038, (List.forall_mem_cons.mpr ⟨wd_1037, (fun _ h => absurd h List.not_mem_nil)⟩)⟩)⟩)⟩)⟩)⟩)⟩)⟩)⟩)⟩)⟩)⟩)⟩)⟩)⟩)⟩)⟩)⟩)⟩)⟩)⟩)⟩)⟩)⟩)
set_option maxRecDepth 20000 in
theorem hl_wsX11_closer_r3 : ∀ w ∈ wsX11_closer_r3, w ∈ lw_tbl := by
  unfold wsX11_closer_r3
  exact (List.forall_mem_cons.mpr ⟨wd_1036, (List.forall_mem_cons.mpr ⟨wd_1035, (List.forall_mem_cons.mpr ⟨wd_1043, (List.forall_mem_cons.mpr ⟨wd_1042, (List.forall_mem_cons.mpr ⟨wd_1041, (List.forall_mem_cons.mpr ⟨wd_571, (List.forall_mem_cons.mpr ⟨wd_570, (List.forall_mem_cons.mpr ⟨wd_569, (List.forall_mem_cons.mpr ⟨wd_568, (List.forall_mem_cons.mpr ⟨wd_134, (List.forall_mem_cons.mpr ⟨wd_133, (List.forall_mem_cons.mpr ⟨wd_132, (List.forall_mem_cons.mpr ⟨wd_567, (List.forall_mem_cons.mpr ⟨wd_566, (List.forall_mem_cons.mpr ⟨wd_565, (List.forall_mem_cons.mpr ⟨wd_564, (List.forall_mem_cons.mpr ⟨wd_563, (List.forall_mem_cons.mpr ⟨wd_562, (List.forall_mem_cons.mpr ⟨wd_561, (List.forall_mem_cons.mpr ⟨wd_560, (List.forall_mem_cons.mpr ⟨wd_559, (List.forall_mem_cons.mpr ⟨wd_602, (List.forall_mem_cons.mpr ⟨wd_601, (List.forall_mem_cons.mpr ⟨wd_600, (fun _ h => absurd h List.not_mem_nil)⟩)⟩)⟩)⟩)⟩)⟩)⟩)⟩)⟩)⟩)⟩)⟩)⟩)⟩)⟩)⟩)⟩)⟩)⟩)⟩)⟩)⟩)⟩)⟩)
set_option maxRecDepth 20000 in
theorem hl_wsX11_closer_r4 : ∀ w ∈ wsX11_closer_r4, w ∈ lw_tbl := by
  unfold wsX11_closer_r4
  exact (List.forall_mem_cons.mpr ⟨wd_599, (List.forall_mem_cons.mpr ⟨wd_598, (List.forall_mem_cons.mpr ⟨wd_597, (List.forall_mem_cons.mpr ⟨wd_596, (List.forall_mem_cons.mpr ⟨wd_595, (List.forall_mem_cons.mpr ⟨wd_594, (List.forall_mem_cons.mpr ⟨wd_593, (List.forall_mem_cons.mpr ⟨wd_592, (List.forall_mem_cons.mpr ⟨wd_591, (List.forall_mem_cons.mpr ⟨wd_590, (List.forall_mem_cons.mpr ⟨wd_589, (List.forall_mem_cons.mpr ⟨wd_588, (List.forall_mem_cons.mpr ⟨wd_587, (List.forall_mem_cons.mpr ⟨wd_586, (List.forall_mem_cons.mpr ⟨wd_585, (List.forall_mem_cons.mpr ⟨wd_584, (List.forall_mem_cons.mpr ⟨wd_583, (List.forall_mem_cons.mpr ⟨wd_582, (List.forall_mem_cons.mpr ⟨wd_581, (List.forall_mem_cons.mpr ⟨wd_580, (List.forall_mem_cons.mpr ⟨wd_579, (List.forall_mem_cons.mpr ⟨wd_608, (List.forall_mem_cons.mpr ⟨wd_607, (List.forall_mem_cons.mpr ⟨wd_606, (fun _ h => absurd h List.not_mem_nil)⟩)⟩)⟩)⟩)⟩)⟩)⟩)⟩)⟩)⟩)⟩)⟩)⟩)⟩)⟩)⟩)⟩)⟩)⟩)⟩)⟩)⟩)⟩)⟩)
set_option maxRecDepth 20000 in
theorem hl_wsX11_closer_r5 : ∀ w ∈ wsX11_closer_r5, w ∈ lw_tbl := by
  unfold wsX11_closer_r5
  exact (List.forall_mem_cons.mpr ⟨wd_605, (List.forall_mem_cons.mpr ⟨wd_604, (List.forall_mem_cons.mpr ⟨wd_603, (List.forall_mem_cons.mpr ⟨wd_1242, (List.forall_mem_cons.mpr ⟨wd_1241, (List.forall_mem_cons.mpr ⟨wd_1240, (List.forall_mem_cons.mpr ⟨wd_1239, (List.forall_mem_cons.mpr ⟨wd_1238, (List.forall_mem_cons.mpr ⟨wd_1237, (List.forall_mem_cons.mpr ⟨wd_1236, (List.forall_mem_cons.mpr ⟨wd_1141, (List.forall_mem_cons.mpr ⟨wd_1140, (List.forall_mem_cons.mpr ⟨wd_1139, (List.forall_mem_cons.mpr ⟨wd_1138, (List.forall_mem_cons.mpr ⟨wd_1137, (List.forall_mem_cons.mpr ⟨wd_1136, (List.forall_mem_cons.mpr ⟨wd_1135, (List.forall_mem_cons.mpr ⟨wd_1134, (List.forall_mem_cons.mpr ⟨wd_1235, (List.forall_mem_cons.mpr ⟨wd_865, (List.forall_mem_cons.mpr ⟨wd_864, (List.forall_mem_cons.mpr ⟨wd_114, (List.forall_mem_cons.mpr ⟨wd_863, (List.forall_mem_cons.mpr ⟨wd_112, (fun _ h => absurd h List.not_mem_nil)⟩)⟩)⟩)⟩)⟩)⟩)⟩)⟩)⟩)⟩)⟩)⟩)⟩)⟩)⟩)⟩)⟩)⟩)⟩)⟩)⟩)⟩)⟩)⟩)
set_option maxRecDepth 20000 in
theorem hl_wsX11_closer_r6 : ∀ w ∈ wsX11_closer_r6, w ∈ lw_tbl := by
  unfold wsX11_closer_r6
  exact (List.forall_mem_cons.mpr ⟨wd_862, (List.forall_mem_cons.mpr ⟨wd_1252, (List.forall_mem_cons.mpr ⟨wd_1251, (List.forall_mem_cons.mpr ⟨wd_1250, (List.forall_mem_cons.mpr ⟨wd_1249, (List.forall_mem_cons.mpr ⟨wd_1129, (List.forall_mem_cons.mpr ⟨wd_1248, (List.forall_mem_cons.mpr ⟨wd_1247, (List.forall_mem_cons.mpr ⟨wd_1246, (List.forall_mem_cons.mpr ⟨wd_1245, (List.forall_mem_cons.mpr ⟨wd_1244, (List.forall_mem_cons.mpr ⟨wd_1243, (List.forall_mem_cons.mpr ⟨wd_1047, (List.forall_mem_cons.mpr ⟨wd_1046, (List.forall_mem_cons.mpr ⟨wd_1045, (List.forall_mem_cons.mpr ⟨wd_1044, (List.forall_mem_cons.mpr ⟨wd_1055, (List.forall_mem_cons.mpr ⟨wd_1054, (List.forall_mem_cons.mpr ⟨wd_1053, (List.forall_mem_cons.mpr ⟨wd_1052, (List.forall_mem_cons.mpr ⟨wd_1128, (List.forall_mem_cons.mpr ⟨wd_1156, (List.forall_mem_cons.mpr ⟨wd_1155, (List.forall_mem_cons.mpr ⟨wd_1154, (fun _ h => absurd h List.not_mem_nil)⟩)⟩)⟩)⟩)⟩)⟩)⟩)⟩)⟩)⟩)⟩)⟩)⟩)⟩)⟩)⟩)⟩)⟩)⟩)⟩)⟩)⟩)⟩)⟩)
set_option maxRecDepth 20000 in
theorem hl_wsX11_closer : ∀ w ∈ wsX11_closer, w ∈ lw_tbl := by
  unfold wsX11_closer
  exact (List.forall_mem_cons.mpr ⟨wd_1325, (List.forall_mem_append.mpr ⟨(List.forall_mem_append.mpr ⟨(List.forall_mem_append.mpr ⟨(List.forall_mem_append.mpr ⟨(List.forall_mem_append.mpr ⟨(List.forall_mem_append.mpr ⟨hl_wsX11_closer_r1, (List.forall_mem_append.mpr ⟨hl_wsX11_closer_r2, (List.forall_mem_append.mpr ⟨hl_wsX11_closer_r3, (List.forall_mem_append.mpr ⟨hl_wsX11_closer_r4, (List.forall_mem_append.mpr ⟨hl_wsX11_closer_r5, hl_wsX11_closer_r6⟩)⟩)⟩)⟩)⟩), hl_wsX110⟩), hl_wsX90⟩), hl_wsX70⟩), hl_wsX50⟩), hl_wsX40⟩)⟩)
theorem wd_1326 : Cond.selects RX12 yX12_closer yX12_closer ∈ lw_tbl := mt_8 (List.mem_of_getElem? (i := 75) rfl)
theorem wd_1327 : Cond.instanceMethod yX12_closer ∈ lw_tbl := mt_8 (List.mem_of_getElem? (i := 74) rfl)
theorem wd_1328 : Cond.methodLink RL 131 yX12_closer ∈ lw_tbl := mt_8 (List.mem_of_getElem? (i := 73) rfl)
theorem wd_1329 : Cond.code yX12_closer cX12_closer 6 (some .int) ∈ lw_tbl := mt_8 (List.mem_of_getElem? (i := 76) rfl)
set_option maxRecDepth 20000 in
theorem hl_wsX12_closer_r1 : ∀ w ∈ wsX12_closer_r1, w ∈ lw_tbl := by
  unfold wsX12_closer_r1
  exact (List.forall_mem_cons.mpr ⟨wd_34, (List.forall_mem_cons.mpr ⟨wd_423, (List.forall_mem_cons.mpr ⟨wd_1271, (List.forall_mem_cons.mpr ⟨wd_1266, (List.forall_mem_cons.mpr ⟨wd_1265, (List.forall_mem_cons.mpr ⟨wd_27, (List.forall_mem_cons.mpr ⟨wd_1264, (List.forall_mem_cons.mpr ⟨wd_913, (List.forall_mem_cons.mpr ⟨wd_422, (List.forall_mem_cons.mpr ⟨wd_421, (List.forall_mem_cons.mpr ⟨wd_420, (List.forall_mem_cons.mpr ⟨wd_1087, (List.forall_mem_cons.mpr ⟨wd_1086, (List.forall_mem_cons.mpr ⟨wd_1085, (List.forall_mem_cons.mpr ⟨wd_1084, (List.forall_mem_cons.mpr ⟨wd_1083, (List.forall_mem_cons.mpr ⟨wd_648, (List.forall_mem_cons.mpr ⟨wd_647, (List.forall_mem_cons.mpr ⟨wd_646, (List.forall_mem_cons.mpr ⟨wd_645, (List.forall_mem_cons.mpr ⟨wd_618, (List.forall_mem_cons.mpr ⟨wd_617, (List.forall_mem_cons.mpr ⟨wd_616, (List.forall_mem_cons.mpr ⟨wd_615, (fun _ h => absurd h List.not_mem_nil)⟩)⟩)⟩)⟩)⟩)⟩)⟩)⟩)⟩)⟩)⟩)⟩)⟩)⟩)⟩)⟩)⟩)⟩)⟩)⟩)⟩)⟩)⟩)⟩)
set_option maxRecDepth 20000 in
theorem hl_wsX12_closer_r2 : ∀ w ∈ wsX12_closer_r2, w ∈ lw_tbl := by
  unfold wsX12_closer_r2
  exact (List.forall_mem_cons.mpr ⟨wd_614, (List.forall_mem_cons.mpr ⟨wd_613, (List.forall_mem_cons.mpr ⟨wd_654, (List.forall_mem_cons.mpr ⟨wd_653, (List.forall_mem_cons.mpr ⟨wd_652, (List.forall_mem_cons.mpr ⟨wd_651, (List.forall_mem_cons.mpr ⟨wd_650, (List.forall_mem_cons.mpr ⟨wd_649, (List.forall_mem_cons.mpr ⟨wd_644, (List.forall_mem_cons.mpr ⟨wd_643, (List.forall_mem_cons.mpr ⟨wd_642, (List.forall_mem_cons.mpr ⟨wd_641, (List.forall_mem_cons.mpr ⟨wd_640, (List.forall_mem_cons.mpr ⟨wd_639, (List.forall_mem_cons.mpr ⟨wd_638, (List.forall_mem_cons.mpr ⟨wd_637, (List.forall_mem_cons.mpr ⟨wd_636, (List.forall_mem_cons.mpr ⟨wd_635, (List.forall_mem_cons.mpr ⟨wd_634, (List.forall_mem_cons.mpr ⟨wd_633, (List.forall_mem_cons.mpr ⟨wd_632, (List.forall_mem_cons.mpr ⟨wd_631, (List.forall_mem_cons.mpr ⟨wd_665, (List.forall_mem_cons.mpr ⟨wd_664, (fun _ h => absurd h List.not_mem_nil)⟩)⟩)⟩)⟩)⟩)⟩)⟩)⟩)⟩)⟩)⟩)⟩)⟩)⟩)⟩)⟩)⟩)⟩)⟩)⟩)⟩)⟩)⟩)⟩)
set_option maxRecDepth 20000 in
theorem hl_wsX12_closer_r3 : ∀ w ∈ wsX12_closer_r3, w ∈ lw_tbl := by
  unfold wsX12_closer_r3
  exact (List.forall_mem_cons.mpr ⟨wd_663, (List.forall_mem_cons.mpr ⟨wd_662, (List.forall_mem_cons.mpr ⟨wd_661, (List.forall_mem_cons.mpr ⟨wd_660, (List.forall_mem_cons.mpr ⟨wd_659, (List.forall_mem_cons.mpr ⟨wd_658, (List.forall_mem_cons.mpr ⟨wd_657, (List.forall_mem_cons.mpr ⟨wd_656, (List.forall_mem_cons.mpr ⟨wd_655, (List.forall_mem_cons.mpr ⟨wd_1276, (List.forall_mem_cons.mpr ⟨wd_1275, (List.forall_mem_cons.mpr ⟨wd_1274, (List.forall_mem_cons.mpr ⟨wd_1273, (List.forall_mem_cons.mpr ⟨wd_1272, (List.forall_mem_cons.mpr ⟨wd_1167, (List.forall_mem_cons.mpr ⟨wd_1172, (List.forall_mem_cons.mpr ⟨wd_1176, (List.forall_mem_cons.mpr ⟨wd_1175, (List.forall_mem_cons.mpr ⟨wd_1174, (List.forall_mem_cons.mpr ⟨wd_1173, (List.forall_mem_cons.mpr ⟨wd_890, (List.forall_mem_cons.mpr ⟨wd_889, (List.forall_mem_cons.mpr ⟨wd_888, (List.forall_mem_cons.mpr ⟨wd_887, (fun _ h => absurd h List.not_mem_nil)⟩)⟩)⟩)⟩)⟩)⟩)⟩)⟩)⟩)⟩)⟩)⟩)⟩)⟩)⟩)⟩)⟩)⟩)⟩)⟩)⟩)⟩)⟩)⟩)
set_option maxRecDepth 20000 in
theorem hl_wsX12_closer_r4 : ∀ w ∈ wsX12_closer_r4, w ∈ lw_tbl := by
  unfold wsX12_closer_r4
  exact (List.forall_mem_cons.mpr ⟨wd_1287, (List.forall_mem_cons.mpr ⟨wd_1286, (List.forall_mem_cons.mpr ⟨wd_1285, (List.forall_mem_cons.mpr ⟨wd_1284, (List.forall_mem_cons.mpr ⟨wd_1095, (List.forall_mem_cons.mpr ⟨wd_1094, (List.forall_mem_cons.mpr ⟨wd_1093, (List.forall_mem_cons.mpr ⟨wd_1092, (fun _ h => absurd h List.not_mem_nil)⟩)⟩)⟩)⟩)⟩)⟩)⟩)⟩)
set_option maxRecDepth 20000 in
theorem hl_wsX12_closer : ∀ w ∈ wsX12_closer, w ∈ lw_tbl := by
  unfold wsX12_closer
  exact (List.forall_mem_cons.mpr ⟨wd_1329, (List.forall_mem_append.mpr ⟨(List.forall_mem_append.mpr ⟨hl_wsX12_closer_r1, (List.forall_mem_append.mpr ⟨hl_wsX12_closer_r2, (List.forall_mem_append.mpr ⟨hl_wsX12_closer_r3, hl_wsX12_closer_r4⟩)⟩)⟩), hl_wsX120⟩)⟩)
def tL_closer : List Cond := (wsV RL 128 RX11 yX11_closer wsX11_closer) ++ (wsV RL 131 RX12 yX12_closer wsX12_closer)
theorem tL_closer_in : ∀ w ∈ tL_closer, w ∈ lw_tbl := by
  unfold tL_closer
  exact (List.forall_mem_append.mpr ⟨(List.forall_mem_append.mpr ⟨(List.forall_mem_cons.mpr ⟨wd_1324, (List.forall_mem_cons.mpr ⟨wd_1323, (List.forall_mem_cons.mpr ⟨wd_1322, (List.forall_mem_cons.mpr ⟨wd_0, (fun _ h => absurd h List.not_mem_nil)⟩)⟩)⟩)⟩), hl_wsX11_closer⟩), (List.forall_mem_append.mpr ⟨(List.forall_mem_cons.mpr ⟨wd_1328, (List.forall_mem_cons.mpr ⟨wd_1327, (List.forall_mem_cons.mpr ⟨wd_1326, (List.forall_mem_cons.mpr ⟨wd_27, (fun _ h => absurd h List.not_mem_nil)⟩)⟩)⟩)⟩), hl_wsX12_closer⟩)⟩)
set_option maxRecDepth 20000 in
theorem tL_closer_x : GoodIn tL_closer (wsV RL 128 RX11 yX11_closer wsX11_closer) := fun w h => ⟨List.mem_append_left _ h, good_of_word (List.all_eq_true.mp (show (wsV RL 128 RX11 yX11_closer wsX11_closer).all goodWord = true by decide +kernel) w h)⟩
set_option maxRecDepth 20000 in
theorem tL_closer_m : GoodIn tL_closer (wsV RL 131 RX12 yX12_closer wsX12_closer) := fun w h => ⟨List.mem_append_right _ h, good_of_word (List.all_eq_true.mp (show (wsV RL 131 RX12 yX12_closer wsX12_closer).all goodWord = true by decide +kernel) w h)⟩
theorem hdLX11_closer : yX11_closer.cls = RX11 ∧ yX11_closer.cls ≠ "java/lang/invoke/MethodHandle" ∧ yX11_closer.cls ≠ "java/lang/invoke/VarHandle" ∧ (parseMethodDescriptor yX11_closer.desc).map (fun d => d.parameters.length) = some 1 := by decide +kernel
theorem hdLX12_closer : yX12_closer.cls = RX12 ∧ yX12_closer.cls ≠ "java/lang/invoke/MethodHandle" ∧ yX12_closer.cls ≠ "java/lang/invoke/VarHandle" ∧ (parseMethodDescriptor yX12_closer.desc).map (fun d => d.parameters.length) = some 1 := by decide +kernel
theorem wd_1330 : Cond.selects RX11 yX11_soldIn yX11_soldIn ∈ lw_tbl := mt_5 (List.mem_of_getElem? (i := 86) rfl)
theorem wd_1331 : Cond.instanceMethod yX11_soldIn ∈ lw_tbl := mt_5 (List.mem_of_getElem? (i := 85) rfl)
theorem wd_1332 : Cond.methodLink RL 132 yX11_soldIn ∈ lw_tbl := mt_5 (List.mem_of_getElem? (i := 84) rfl)
theorem wd_1333 : Cond.code yX11_soldIn cX11_soldIn 5 (some .long) ∈ lw_tbl := mt_5 (List.mem_of_getElem? (i := 87) rfl)
set_option maxRecDepth 20000 in
theorem hl_wsX11_soldIn_r1 : ∀ w ∈ wsX11_soldIn_r1, w ∈ lw_tbl := by
  unfold wsX11_soldIn_r1
  exact (List.forall_mem_cons.mpr ⟨wd_1034, (List.forall_mem_cons.mpr ⟨wd_85, (List.forall_mem_cons.mpr ⟨wd_84, (List.forall_mem_cons.mpr ⟨wd_555, (List.forall_mem_cons.mpr ⟨wd_1234, (List.forall_mem_cons.mpr ⟨wd_554, (List.forall_mem_cons.mpr ⟨wd_553, (List.forall_mem_cons.mpr ⟨wd_552, (List.forall_mem_cons.mpr ⟨wd_0, (List.forall_mem_cons.mpr ⟨wd_551, (List.forall_mem_cons.mpr ⟨wd_550, (List.forall_mem_cons.mpr ⟨wd_1233, (List.forall_mem_cons.mpr ⟨wd_1232, (List.forall_mem_cons.mpr ⟨wd_1231, (List.forall_mem_cons.mpr ⟨wd_1033, (List.forall_mem_cons.mpr ⟨wd_1032, (List.forall_mem_cons.mpr ⟨wd_1031, (List.forall_mem_cons.mpr ⟨wd_1030, (List.forall_mem_cons.mpr ⟨wd_1029, (List.forall_mem_cons.mpr ⟨wd_1028, (List.forall_mem_cons.mpr ⟨wd_1027, (List.forall_mem_cons.mpr ⟨wd_1026, (List.forall_mem_cons.mpr ⟨wd_1025, (List.forall_mem_cons.mpr ⟨wd_1024, (fun _ h => absurd h List.not_mem_nil)⟩)⟩)⟩)⟩)⟩)⟩)⟩)⟩)⟩)⟩)⟩)⟩)⟩)⟩)⟩)⟩)⟩)⟩)⟩)⟩)⟩)⟩)⟩)⟩)
set_option maxRecDepth 20000 in
theorem hl_wsX11_soldIn_r2 : ∀ w ∈ wsX11_soldIn_r2, w ∈ lw_tbl := by
  unfold wsX11_soldIn_r2
  exact (List.forall_mem_cons.mpr ⟨wd_1023, (List.forall_mem_cons.mpr ⟨wd_1022, (List.forall_mem_cons.mpr ⟨wd_1021, (List.forall_mem_cons.mpr ⟨wd_1020, (List.forall_mem_cons.mpr ⟨wd_1019, (List.forall_mem_cons.mpr ⟨wd_1018, (List.forall_mem_cons.mpr ⟨wd_1017, (List.forall_mem_cons.mpr ⟨wd_1016, (List.forall_mem_cons.mpr ⟨wd_744, (List.forall_mem_cons.mpr ⟨wd_743, (List.forall_mem_cons.mpr ⟨wd_102, (List.forall_mem_cons.mpr ⟨wd_742, (List.forall_mem_cons.mpr ⟨wd_100, (List.forall_mem_cons.mpr ⟨wd_1040, (List.forall_mem_cons.mpr ⟨wd_543, (List.forall_mem_cons.mpr ⟨wd_542, (List.forall_mem_cons.mpr ⟨wd_362, (List.forall_mem_cons.mpr ⟨wd_541, (List.forall_mem_cons.mpr ⟨wd_540, (List.forall_mem_cons.mpr ⟨wd_578, (List.forall_mem_cons.mpr ⟨wd_577, (List.forall_mem_cons.mpr ⟨wd_360, (List.forall_mem_cons.mpr ⟨wd_576, (List.forall_mem_cons.mpr ⟨wd_575, (fun _ h => absurd h List.not_mem_nil)⟩)⟩)⟩)⟩)⟩)⟩)⟩)⟩)⟩)⟩)⟩)⟩)⟩)⟩)⟩)⟩)⟩)⟩)⟩)⟩)⟩)⟩)⟩)⟩)
set_option maxRecDepth 20000 in
theorem hl_wsX11_soldIn_r3 : ∀ w ∈ wsX11_soldIn_r3, w ∈ lw_tbl := by
  unfold wsX11_soldIn_r3
  exact (List.forall_mem_cons.mpr ⟨wd_574, (List.forall_mem_cons.mpr ⟨wd_573, (List.forall_mem_cons.mpr ⟨wd_1039, (List.forall_mem_cons.mpr ⟨wd_358, (List.forall_mem_cons.mpr ⟨wd_357, (List.forall_mem_cons.mpr ⟨wd_356, (List.forall_mem_cons.mpr ⟨wd_1038, (List.forall_mem_cons.mpr ⟨wd_1037, (List.forall_mem_cons.mpr ⟨wd_1036, (List.forall_mem_cons.mpr ⟨wd_1035, (List.forall_mem_cons.mpr ⟨wd_1043, (List.forall_mem_cons.mpr ⟨wd_1042, (List.forall_mem_cons.mpr ⟨wd_1041, (List.forall_mem_cons.mpr ⟨wd_571, (List.forall_mem_cons.mpr ⟨wd_570, (List.forall_mem_cons.mpr ⟨wd_569, (List.forall_mem_cons.mpr ⟨wd_568, (List.forall_mem_cons.mpr ⟨wd_134, (List.forall_mem_cons.mpr ⟨wd_133, (List.forall_mem_cons.mpr ⟨wd_132, (List.forall_mem_cons.mpr ⟨wd_567, (List.forall_mem_cons.mpr ⟨wd_566, (List.forall_mem_cons.mpr ⟨wd_565, (List.forall_mem_cons.mpr ⟨wd_564, (fun _ h => absurd h List.not_mem_nil)⟩)⟩)⟩)⟩)⟩)⟩)⟩)⟩)⟩)⟩)⟩)⟩)⟩)⟩)⟩)⟩)⟩)⟩)⟩)⟩)⟩)⟩)⟩)⟩)
set_option maxRecDepth 20000 in
theorem hl_wsX11_soldIn_r4 : ∀ w ∈ wsX11_soldIn_r4, w ∈ lw_tbl := by
  unfold wsX11_soldIn_r4
  exact (List.forall_mem_cons.mpr ⟨wd_563, (List.forall_mem_cons.mpr ⟨wd_562, (List.forall_mem_cons.mpr ⟨wd_561, (List.forall_mem_cons.mpr ⟨wd_560, (List.forall_mem_cons.mpr ⟨wd_559, (List.forall_mem_cons.mpr ⟨wd_602, (List.forall_mem_cons.mpr ⟨wd_601, (List.forall_mem_cons.mpr ⟨wd_600, (List.forall_mem_cons.mpr ⟨wd_599, (List.forall_mem_cons.mpr ⟨wd_598, (List.forall_mem_cons.mpr ⟨wd_597, (List.forall_mem_cons.mpr ⟨wd_596, (List.forall_mem_cons.mpr ⟨wd_595, (List.forall_mem_cons.mpr ⟨wd_594, (List.forall_mem_cons.mpr ⟨wd_593, (List.forall_mem_cons.mpr ⟨wd_592, (List.forall_mem_cons.mpr ⟨wd_591, (List.forall_mem_cons.mpr ⟨wd_590, (List.forall_mem_cons.mpr ⟨wd_589, (List.forall_mem_cons.mpr ⟨wd_588, (List.forall_mem_cons.mpr ⟨wd_587, (List.forall_mem_cons.mpr ⟨wd_586, (List.forall_mem_cons.mpr ⟨wd_585, (List.forall_mem_cons.mpr ⟨wd_584, (fun _ h => absurd h List.not_mem_nil)⟩)⟩)⟩)⟩)⟩)⟩)⟩)⟩)⟩)⟩)⟩)⟩)⟩)⟩)⟩)⟩)⟩)⟩)⟩)⟩)⟩)⟩)⟩)⟩)
set_option maxRecDepth 20000 in
theorem hl_wsX11_soldIn_r5 : ∀ w ∈ wsX11_soldIn_r5, w ∈ lw_tbl := by
  unfold wsX11_soldIn_r5
  exact (List.forall_mem_cons.mpr ⟨wd_583, (List.forall_mem_cons.mpr ⟨wd_582, (List.forall_mem_cons.mpr ⟨wd_581, (List.forall_mem_cons.mpr ⟨wd_580, (List.forall_mem_cons.mpr ⟨wd_579, (List.forall_mem_cons.mpr ⟨wd_608, (List.forall_mem_cons.mpr ⟨wd_607, (List.forall_mem_cons.mpr ⟨wd_606, (List.forall_mem_cons.mpr ⟨wd_605, (List.forall_mem_cons.mpr ⟨wd_604, (List.forall_mem_cons.mpr ⟨wd_603, (List.forall_mem_cons.mpr ⟨wd_1242, (List.forall_mem_cons.mpr ⟨wd_1241, (List.forall_mem_cons.mpr ⟨wd_1240, (List.forall_mem_cons.mpr ⟨wd_1239, (List.forall_mem_cons.mpr ⟨wd_1238, (List.forall_mem_cons.mpr ⟨wd_1237, (List.forall_mem_cons.mpr ⟨wd_1236, (List.forall_mem_cons.mpr ⟨wd_1141, (List.forall_mem_cons.mpr ⟨wd_1140, (List.forall_mem_cons.mpr ⟨wd_1139, (List.forall_mem_cons.mpr ⟨wd_1138, (List.forall_mem_cons.mpr ⟨wd_1137, (List.forall_mem_cons.mpr ⟨wd_1136, (fun _ h => absurd h List.not_mem_nil)⟩)⟩)⟩)⟩)⟩)⟩)⟩)⟩)⟩)⟩)⟩)⟩)⟩)⟩)⟩)⟩)⟩)⟩)⟩)⟩)⟩)⟩)⟩)⟩)
set_option maxRecDepth 20000 in
theorem hl_wsX11_soldIn_r6 : ∀ w ∈ wsX11_soldIn_r6, w ∈ lw_tbl := by
  unfold wsX11_soldIn_r6
  exact (List.forall_mem_cons.mpr ⟨wd_1135, (List.forall_mem_cons.mpr ⟨wd_1134, (List.forall_mem_cons.mpr ⟨wd_1235, (List.forall_mem_cons.mpr ⟨wd_865, (List.forall_mem_cons.mpr ⟨wd_864, (List.forall_mem_cons.mpr ⟨wd_114, (List.forall_mem_cons.mpr ⟨wd_863, (List.forall_mem_cons.mpr ⟨wd_112, (List.forall_mem_cons.mpr ⟨wd_862, (List.forall_mem_cons.mpr ⟨wd_1252, (List.forall_mem_cons.mpr ⟨wd_1251, (List.forall_mem_cons.mpr ⟨wd_1250, (List.forall_mem_cons.mpr ⟨wd_1249, (List.forall_mem_cons.mpr ⟨wd_1129, (List.forall_mem_cons.mpr ⟨wd_1248, (List.forall_mem_cons.mpr ⟨wd_1247, (List.forall_mem_cons.mpr ⟨wd_1246, (List.forall_mem_cons.mpr ⟨wd_1245, (List.forall_mem_cons.mpr ⟨wd_1244, (List.forall_mem_cons.mpr ⟨wd_1243, (List.forall_mem_cons.mpr ⟨wd_1047, (List.forall_mem_cons.mpr ⟨wd_1046, (List.forall_mem_cons.mpr ⟨wd_1045, (List.forall_mem_cons.mpr ⟨wd_1044, (fun _ h => absurd h List.not_mem_nil)⟩)⟩)⟩)⟩)⟩)⟩)⟩)⟩)⟩)⟩)⟩)⟩)⟩)⟩)⟩)⟩)⟩)⟩)⟩)⟩)⟩)⟩)⟩)⟩)
theorem wd_1334 : Cond.code yX5_soldWays cX5_soldWays 5 (some .long) ∈ lw_tbl := mt_5 (List.mem_of_getElem? (i := 91) rfl)
theorem wd_1335 : Cond.selects RX5 yX5_soldWays yX5_soldWays ∈ lw_tbl := mt_5 (List.mem_of_getElem? (i := 90) rfl)
theorem wd_1336 : Cond.instanceMethod yX5_soldWays ∈ lw_tbl := mt_5 (List.mem_of_getElem? (i := 89) rfl)
theorem wd_1337 : Cond.methodLink RX11 312 yX5_soldWays ∈ lw_tbl := mt_5 (List.mem_of_getElem? (i := 88) rfl)
set_option maxRecDepth 20000 in
theorem hl_wsX11_soldIn_r7 : ∀ w ∈ wsX11_soldIn_r7, w ∈ lw_tbl := by
  unfold wsX11_soldIn_r7
  exact (List.forall_mem_cons.mpr ⟨wd_1055, (List.forall_mem_cons.mpr ⟨wd_1054, (List.forall_mem_cons.mpr ⟨wd_1053, (List.forall_mem_cons.mpr ⟨wd_1052, (List.forall_mem_cons.mpr ⟨wd_1128, (List.forall_mem_cons.mpr ⟨wd_1156, (List.forall_mem_cons.mpr ⟨wd_1155, (List.forall_mem_cons.mpr ⟨wd_1154, (List.forall_mem_cons.mpr ⟨wd_1337, (List.forall_mem_cons.mpr ⟨wd_1336, (List.forall_mem_cons.mpr ⟨wd_1335, (List.forall_mem_cons.mpr ⟨wd_1334, (List.forall_mem_cons.mpr ⟨wd_1258, (List.forall_mem_cons.mpr ⟨wd_1257, (List.forall_mem_cons.mpr ⟨wd_1256, (List.forall_mem_cons.mpr ⟨wd_1255, (List.forall_mem_cons.mpr ⟨wd_1254, (List.forall_mem_cons.mpr ⟨wd_1253, (fun _ h => absurd h List.not_mem_nil)⟩)⟩)⟩)⟩)⟩)⟩)⟩)⟩)⟩)⟩)⟩)⟩)⟩)⟩)⟩)⟩)⟩)⟩)
set_option maxRecDepth 20000 in
theorem hl_wsX11_soldIn : ∀ w ∈ wsX11_soldIn, w ∈ lw_tbl := by
  unfold wsX11_soldIn
  exact (List.forall_mem_cons.mpr ⟨wd_1333, (List.forall_mem_append.mpr ⟨(List.forall_mem_append.mpr ⟨(List.forall_mem_append.mpr ⟨(List.forall_mem_append.mpr ⟨(List.forall_mem_append.mpr ⟨(List.forall_mem_append.mpr ⟨hl_wsX11_soldIn_r1, (List.forall_mem_append.mpr ⟨hl_wsX11_soldIn_r2, (List.forall_mem_append.mpr ⟨hl_wsX11_soldIn_r3, (List.forall_mem_append.mpr ⟨hl_wsX11_soldIn_r4, (List.forall_mem_append.mpr ⟨hl_wsX11_soldIn_r5, (List.forall_mem_append.mpr ⟨hl_wsX11_soldIn_r6, hl_wsX11_soldIn_r7⟩)⟩)⟩)⟩)⟩)⟩), hl_wsX110⟩), hl_wsX90⟩), hl_wsX50⟩), hl_wsX40⟩), hl_wsX70⟩)⟩)
theorem wd_1338 : Cond.selects RX12 yX12_soldIn yX12_soldIn ∈ lw_tbl := mt_8 (List.mem_of_getElem? (i := 79) rfl)
theorem wd_1339 : Cond.instanceMethod yX12_soldIn ∈ lw_tbl := mt_8 (List.mem_of_getElem? (i := 78) rfl)
theorem wd_1340 : Cond.methodLink RL 135 yX12_soldIn ∈ lw_tbl := mt_8 (List.mem_of_getElem? (i := 77) rfl)
theorem wd_1341 : Cond.code yX12_soldIn cX12_soldIn 7 (some .long) ∈ lw_tbl := mt_8 (List.mem_of_getElem? (i := 80) rfl)
set_option maxRecDepth 20000 in
theorem hl_wsX12_soldIn_r1 : ∀ w ∈ wsX12_soldIn_r1, w ∈ lw_tbl := by
  unfold wsX12_soldIn_r1
  exact (List.forall_mem_cons.mpr ⟨wd_34, (List.forall_mem_cons.mpr ⟨wd_1270, (List.forall_mem_cons.mpr ⟨wd_1161, (List.forall_mem_cons.mpr ⟨wd_1172, (List.forall_mem_cons.mpr ⟨wd_630, (List.forall_mem_cons.mpr ⟨wd_629, (List.forall_mem_cons.mpr ⟨wd_628, (List.forall_mem_cons.mpr ⟨wd_27, (List.forall_mem_cons.mpr ⟨wd_627, (List.forall_mem_cons.mpr ⟨wd_423, (List.forall_mem_cons.mpr ⟨wd_422, (List.forall_mem_cons.mpr ⟨wd_421, (List.forall_mem_cons.mpr ⟨wd_420, (List.forall_mem_cons.mpr ⟨wd_1269, (List.forall_mem_cons.mpr ⟨wd_1268, (List.forall_mem_cons.mpr ⟨wd_1267, (List.forall_mem_cons.mpr ⟨wd_1266, (List.forall_mem_cons.mpr ⟨wd_1265, (List.forall_mem_cons.mpr ⟨wd_1264, (List.forall_mem_cons.mpr ⟨wd_913, (List.forall_mem_cons.mpr ⟨wd_1087, (List.forall_mem_cons.mpr ⟨wd_1086, (List.forall_mem_cons.mpr ⟨wd_1085, (List.forall_mem_cons.mpr ⟨wd_1084, (fun _ h => absurd h List.not_mem_nil)⟩)⟩)⟩)⟩)⟩)⟩)⟩)⟩)⟩)⟩)⟩)⟩)⟩)⟩)⟩)⟩)⟩)⟩)⟩)⟩)⟩)⟩)⟩)⟩)
set_option maxRecDepth 20000 in
theorem hl_wsX12_soldIn_r2 : ∀ w ∈ wsX12_soldIn_r2, w ∈ lw_tbl := by
  unfold wsX12_soldIn_r2
  exact (List.forall_mem_cons.mpr ⟨wd_1083, (List.forall_mem_cons.mpr ⟨wd_648, (List.forall_mem_cons.mpr ⟨wd_647, (List.forall_mem_cons.mpr ⟨wd_646, (List.forall_mem_cons.mpr ⟨wd_645, (List.forall_mem_cons.mpr ⟨wd_618, (List.forall_mem_cons.mpr ⟨wd_617, (List.forall_mem_cons.mpr ⟨wd_616, (List.forall_mem_cons.mpr ⟨wd_615, (List.forall_mem_cons.mpr ⟨wd_614, (List.forall_mem_cons.mpr ⟨wd_613, (List.forall_mem_cons.mpr ⟨wd_654, (List.forall_mem_cons.mpr ⟨wd_653, (List.forall_mem_cons.mpr ⟨wd_652, (List.forall_mem_cons.mpr ⟨wd_651, (List.forall_mem_cons.mpr ⟨wd_650, (List.forall_mem_cons.mpr ⟨wd_649, (List.forall_mem_cons.mpr ⟨wd_644, (List.forall_mem_cons.mpr ⟨wd_643, (List.forall_mem_cons.mpr ⟨wd_642, (List.forall_mem_cons.mpr ⟨wd_641, (List.forall_mem_cons.mpr ⟨wd_640, (List.forall_mem_cons.mpr ⟨wd_639, (List.forall_mem_cons.mpr ⟨wd_638, (fun _ h => absurd h List.not_mem_nil)⟩)⟩)⟩)⟩)⟩)⟩)⟩)⟩)⟩)⟩)⟩)⟩)⟩)⟩)⟩)⟩)⟩)⟩)⟩)⟩)⟩)⟩)⟩)⟩)
set_option maxRecDepth 20000 in
theorem hl_wsX12_soldIn_r3 : ∀ w ∈ wsX12_soldIn_r3, w ∈ lw_tbl := by
  unfold wsX12_soldIn_r3
  exact (List.forall_mem_cons.mpr ⟨wd_637, (List.forall_mem_cons.mpr ⟨wd_636, (List.forall_mem_cons.mpr ⟨wd_635, (List.forall_mem_cons.mpr ⟨wd_634, (List.forall_mem_cons.mpr ⟨wd_633, (List.forall_mem_cons.mpr ⟨wd_632, (List.forall_mem_cons.mpr ⟨wd_631, (List.forall_mem_cons.mpr ⟨wd_665, (List.forall_mem_cons.mpr ⟨wd_664, (List.forall_mem_cons.mpr ⟨wd_663, (List.forall_mem_cons.mpr ⟨wd_662, (List.forall_mem_cons.mpr ⟨wd_661, (List.forall_mem_cons.mpr ⟨wd_660, (List.forall_mem_cons.mpr ⟨wd_659, (List.forall_mem_cons.mpr ⟨wd_658, (List.forall_mem_cons.mpr ⟨wd_657, (List.forall_mem_cons.mpr ⟨wd_656, (List.forall_mem_cons.mpr ⟨wd_655, (List.forall_mem_cons.mpr ⟨wd_1276, (List.forall_mem_cons.mpr ⟨wd_1275, (List.forall_mem_cons.mpr ⟨wd_1274, (List.forall_mem_cons.mpr ⟨wd_1273, (List.forall_mem_cons.mpr ⟨wd_1272, (List.forall_mem_cons.mpr ⟨wd_1271, (fun _ h => absurd h List.not_mem_nil)⟩)⟩)⟩)⟩)⟩)⟩)⟩)⟩)⟩)⟩)⟩)⟩)⟩)⟩)⟩)⟩)⟩)⟩)⟩)⟩)⟩)⟩)⟩)⟩)
set_option maxRecDepth 20000 in
theorem hl_wsX12_soldIn_r4 : ∀ w ∈ wsX12_soldIn_r4, w ∈ lw_tbl := by
  unfold wsX12_soldIn_r4
  exact (List.forall_mem_cons.mpr ⟨wd_1167, (List.forall_mem_cons.mpr ⟨wd_1176, (List.forall_mem_cons.mpr ⟨wd_1175, (List.forall_mem_cons.mpr ⟨wd_1174, (List.forall_mem_cons.mpr ⟨wd_1173, (List.forall_mem_cons.mpr ⟨wd_890, (List.forall_mem_cons.mpr ⟨wd_889, (List.forall_mem_cons.mpr ⟨wd_888, (List.forall_mem_cons.mpr ⟨wd_887, (List.forall_mem_cons.mpr ⟨wd_1287, (List.forall_mem_cons.mpr ⟨wd_1286, (List.forall_mem_cons.mpr ⟨wd_1285, (List.forall_mem_cons.mpr ⟨wd_1284, (List.forall_mem_cons.mpr ⟨wd_1095, (List.forall_mem_cons.mpr ⟨wd_1094, (List.forall_mem_cons.mpr ⟨wd_1093, (List.forall_mem_cons.mpr ⟨wd_1092, (List.forall_mem_cons.mpr ⟨wd_1279, (List.forall_mem_cons.mpr ⟨wd_1278, (List.forall_mem_cons.mpr ⟨wd_1277, (List.forall_mem_cons.mpr ⟨wd_1297, (List.forall_mem_cons.mpr ⟨wd_1296, (List.forall_mem_cons.mpr ⟨wd_1295, (List.forall_mem_cons.mpr ⟨wd_1294, (fun _ h => absurd h List.not_mem_nil)⟩)⟩)⟩)⟩)⟩)⟩)⟩)⟩)⟩)⟩)⟩)⟩)⟩)⟩)⟩)⟩)⟩)⟩)⟩)⟩)⟩)⟩)⟩)⟩)
set_option maxRecDepth 20000 in
theorem hl_wsX12_soldIn_r5 : ∀ w ∈ wsX12_soldIn_r5, w ∈ lw_tbl := by
  unfold wsX12_soldIn_r5
  exact (List.forall_mem_cons.mpr ⟨wd_1293, (List.forall_mem_cons.mpr ⟨wd_1292, (List.forall_mem_cons.mpr ⟨wd_1291, (List.forall_mem_cons.mpr ⟨wd_1290, (List.forall_mem_cons.mpr ⟨wd_1289, (List.forall_mem_cons.mpr ⟨wd_1288, (fun _ h => absurd h List.not_mem_nil)⟩)⟩)⟩)⟩)⟩)⟩)
set_option maxRecDepth 20000 in
theorem hl_wsX12_soldIn : ∀ w ∈ wsX12_soldIn, w ∈ lw_tbl := by
  unfold wsX12_soldIn
  exact (List.forall_mem_cons.mpr ⟨wd_1341, (List.forall_mem_append.mpr ⟨(List.forall_mem_append.mpr ⟨hl_wsX12_soldIn_r1, (List.forall_mem_append.mpr ⟨hl_wsX12_soldIn_r2, (List.forall_mem_append.mpr ⟨hl_wsX12_soldIn_r3, (List.forall_mem_append.mpr ⟨hl_wsX12_soldIn_r4, hl_wsX12_soldIn_r5⟩)⟩)⟩)⟩), hl_wsX120⟩)⟩)
def tL_soldIn : List Cond := (wsV RL 132 RX11 yX11_soldIn wsX11_soldIn) ++ (wsV RL 135 RX12 yX12_soldIn wsX12_soldIn)
theorem tL_soldIn_in : ∀ w ∈ tL_soldIn, w ∈ lw_tbl := by
  unfold tL_soldIn
  exact (List.forall_mem_append.mpr ⟨(List.forall_mem_append.mpr ⟨(List.forall_mem_cons.mpr ⟨wd_1332, (List.forall_mem_cons.mpr ⟨wd_1331, (List.forall_mem_cons.mpr ⟨wd_1330, (List.forall_mem_cons.mpr ⟨wd_0, (fun _ h => absurd h List.not_mem_nil)⟩)⟩)⟩)⟩), hl_wsX11_soldIn⟩), (List.forall_mem_append.mpr ⟨(List.forall_mem_cons.mpr ⟨wd_1340, (List.forall_mem_cons.mpr ⟨wd_1339, (List.forall_mem_cons.mpr ⟨wd_1338, (List.forall_mem_cons.mpr ⟨wd_27, (fun _ h => absurd h List.not_mem_nil)⟩)⟩)⟩)⟩), hl_wsX12_soldIn⟩)⟩)
set_option maxRecDepth 20000 in
theorem tL_soldIn_x : GoodIn tL_soldIn (wsV RL 132 RX11 yX11_soldIn wsX11_soldIn) := fun w h => ⟨List.mem_append_left _ h, good_of_word (List.all_eq_true.mp (show (wsV RL 132 RX11 yX11_soldIn wsX11_soldIn).all goodWord = true by decide +kernel) w h)⟩
set_option maxRecDepth 20000 in
theorem tL_soldIn_m : GoodIn tL_soldIn (wsV RL 135 RX12 yX12_soldIn wsX12_soldIn) := fun w h => ⟨List.mem_append_right _ h, good_of_word (List.all_eq_true.mp (show (wsV RL 135 RX12 yX12_soldIn wsX12_soldIn).all goodWord = true by decide +kernel) w h)⟩
theorem hdLX11_soldIn : yX11_soldIn.cls = RX11 ∧ yX11_soldIn.cls ≠ "java/lang/invoke/MethodHandle" ∧ yX11_soldIn.cls ≠ "java/lang/invoke/VarHandle" ∧ (parseMethodDescriptor yX11_soldIn.desc).map (fun d => d.parameters.length) = some 3 := by decide +kernel
theorem hdLX12_soldIn : yX12_soldIn.cls = RX12 ∧ yX12_soldIn.cls ≠ "java/lang/invoke/MethodHandle" ∧ yX12_soldIn.cls ≠ "java/lang/invoke/VarHandle" ∧ (parseMethodDescriptor yX12_soldIn.desc).map (fun d => d.parameters.length) = some 3 := by decide +kernel
theorem wd_1342 : Cond.selects RX11 yX11_hides yX11_hides ∈ lw_tbl := mt_5 (List.mem_of_getElem? (i := 94) rfl)
theorem wd_1343 : Cond.instanceMethod yX11_hides ∈ lw_tbl := mt_5 (List.mem_of_getElem? (i := 93) rfl)
theorem wd_1344 : Cond.methodLink RL 136 yX11_hides ∈ lw_tbl := mt_5 (List.mem_of_getElem? (i := 92) rfl)
theorem wd_1345 : Cond.code yX11_hides cX11_hides 11 (some .int) ∈ lw_tbl := mt_5 (List.mem_of_getElem? (i := 95) rfl)
theorem wd_1346 : Cond.instanceMethod yX11_isHideable ∈ lw_tbl := mt_5 (List.mem_of_getElem? (i := 100) rfl)
theorem wd_1347 : Cond.methodLink RX11 326 yX11_isHideable ∈ lw_tbl := mt_5 (List.mem_of_getElem? (i := 98) rfl)
theorem wd_1348 : Cond.methodLink RX11 323 yX9_everyKind ∈ lw_tbl := mt_5 (List.mem_of_getElem? (i := 97) rfl)
theorem wd_1349 : Cond.methodLink RX11 320 yX9_isShut ∈ lw_tbl := mt_5 (List.mem_of_getElem? (i := 96) rfl)
theorem wd_1350 : Cond.code Lib.MathLoose.max_long.x Lib.MathLoose.max_long.code 4 (some .long) ∈ lw_tbl := mt_5 (List.mem_of_getElem? (i := 105) rfl)
theorem wd_1351 : Cond.static Lib.MathLoose.max_long.x ∈ lw_tbl := mt_5 (List.mem_of_getElem? (i := 104) rfl)
theorem wd_1352 : Cond.methodLink RX11 330 Lib.MathLoose.max_long.x ∈ lw_tbl := mt_5 (List.mem_of_getElem? (i := 103) rfl)
set_option maxRecDepth 20000 in
theorem hl_wsX11_hides_r1 : ∀ w ∈ wsX11_hides_r1, w ∈ lw_tbl := by
  unfold wsX11_hides_r1
  exact (List.forall_mem_cons.mpr ⟨wd_84, (List.forall_mem_cons.mpr ⟨wd_852, (List.forall_mem_cons.mpr ⟨wd_1034, (List.forall_mem_cons.mpr ⟨wd_85, (List.forall_mem_cons.mpr ⟨wd_555, (List.forall_mem_cons.mpr ⟨wd_1352, (List.forall_mem_cons.mpr ⟨wd_1351, (List.forall_mem_cons.mpr ⟨wd_133, (List.forall_mem_cons.mpr ⟨wd_1350, (List.forall_mem_cons.mpr ⟨wd_1349, (List.forall_mem_cons.mpr ⟨wd_748, (List.forall_mem_cons.mpr ⟨wd_747, (List.forall_mem_cons.mpr ⟨wd_102, (List.forall_mem_cons.mpr ⟨wd_746, (List.forall_mem_cons.mpr ⟨wd_98, (List.forall_mem_cons.mpr ⟨wd_99, (List.forall_mem_cons.mpr ⟨wd_745, (List.forall_mem_cons.mpr ⟨wd_744, (List.forall_mem_cons.mpr ⟨wd_743, (List.forall_mem_cons.mpr ⟨wd_742, (List.forall_mem_cons.mpr ⟨wd_100, (List.forall_mem_cons.mpr ⟨wd_1348, (List.forall_mem_cons.mpr ⟨wd_1347, (List.forall_mem_cons.mpr ⟨wd_1346, (fun _ h => absurd h List.not_mem_nil)⟩)⟩)⟩)⟩)⟩)⟩)⟩)⟩)⟩)⟩)⟩)⟩)⟩)⟩)⟩)⟩)⟩)⟩)⟩)⟩)⟩)⟩)⟩)⟩)
theorem wd_1353 : Cond.methodLink RX11 333 yJ6_bitCount_0f7a4 ∈ lw_tbl := mt_5 (List.mem_of_getElem? (i := 102) rfl)
theorem wd_1354 : Cond.code yX11_isHideable cX11_isHideable 3 (some .boolean) ∈ lw_tbl := mt_5 (List.mem_of_getElem? (i := 101) rfl)
theorem wd_1355 : Cond.selects RX11 yX11_isHideable yX11_isHideable ∈ lw_tbl := mp_3 (q := (⟨"OneOfEach", "isHideable", "(II)Z"⟩, 16)) (List.mem_of_getElem? (i := 7) rfl)
set_option maxRecDepth 20000 in
theorem hl_wsX11_hides_r2 : ∀ w ∈ wsX11_hides_r2, w ∈ lw_tbl := by
  unfold wsX11_hides_r2
  exact (List.forall_mem_cons.mpr ⟨wd_1355, (List.forall_mem_cons.mpr ⟨wd_0, (List.forall_mem_cons.mpr ⟨wd_1354, (List.forall_mem_cons.mpr ⟨wd_1353, (List.forall_mem_cons.mpr ⟨wd_566, (List.forall_mem_cons.mpr ⟨wd_565, (List.forall_mem_cons.mpr ⟨wd_564, (List.forall_mem_cons.mpr ⟨wd_563, (List.forall_mem_cons.mpr ⟨wd_562, (List.forall_mem_cons.mpr ⟨wd_561, (List.forall_mem_cons.mpr ⟨wd_1033, (List.forall_mem_cons.mpr ⟨wd_1032, (List.forall_mem_cons.mpr ⟨wd_1031, (List.forall_mem_cons.mpr ⟨wd_1030, (List.forall_mem_cons.mpr ⟨wd_1029, (List.forall_mem_cons.mpr ⟨wd_1028, (List.forall_mem_cons.mpr ⟨wd_1027, (List.forall_mem_cons.mpr ⟨wd_1026, (List.forall_mem_cons.mpr ⟨wd_1025, (List.forall_mem_cons.mpr ⟨wd_1024, (List.forall_mem_cons.mpr ⟨wd_1023, (List.forall_mem_cons.mpr ⟨wd_1022, (List.forall_mem_cons.mpr ⟨wd_1021, (List.forall_mem_cons.mpr ⟨wd_1020, (fun _ h => absurd h List.not_mem_nil)⟩)⟩)⟩)⟩)⟩)⟩)⟩)⟩)⟩)⟩)⟩)⟩)⟩)⟩)⟩)⟩)⟩)⟩)⟩)⟩)⟩)⟩)⟩)⟩)
set_option maxRecDepth 20000 in
theorem hl_wsX11_hides_r3 : ∀ w ∈ wsX11_hides_r3, w ∈ lw_tbl := by
  unfold wsX11_hides_r3
  exact (List.forall_mem_cons.mpr ⟨wd_1019, (List.forall_mem_cons.mpr ⟨wd_1018, (List.forall_mem_cons.mpr ⟨wd_1017, (List.forall_mem_cons.mpr ⟨wd_1016, (List.forall_mem_cons.mpr ⟨wd_1040, (List.forall_mem_cons.mpr ⟨wd_543, (List.forall_mem_cons.mpr ⟨wd_542, (List.forall_mem_cons.mpr ⟨wd_362, (List.forall_mem_cons.mpr ⟨wd_541, (List.forall_mem_cons.mpr ⟨wd_540, (List.forall_mem_cons.mpr ⟨wd_578, (List.forall_mem_cons.mpr ⟨wd_577, (List.forall_mem_cons.mpr ⟨wd_360, (List.forall_mem_cons.mpr ⟨wd_576, (List.forall_mem_cons.mpr ⟨wd_575, (List.forall_mem_cons.mpr ⟨wd_574, (List.forall_mem_cons.mpr ⟨wd_573, (List.forall_mem_cons.mpr ⟨wd_1039, (List.forall_mem_cons.mpr ⟨wd_358, (List.forall_mem_cons.mpr ⟨wd_357, (List.forall_mem_cons.mpr ⟨wd_356, (List.forall_mem_cons.mpr ⟨wd_1038, (List.forall_mem_cons.mpr ⟨wd_1037, (List.forall_mem_cons.mpr ⟨wd_1036, (fun _ h => absurd h List.not_mem_nil)⟩)⟩)⟩)⟩)⟩)⟩)⟩)⟩)⟩)⟩)⟩)⟩)⟩)⟩)⟩)⟩)⟩)⟩)⟩)⟩)⟩)⟩)⟩)⟩)
set_option maxRecDepth 20000 in
theorem hl_wsX11_hides_r4 : ∀ w ∈ wsX11_hides_r4, w ∈ lw_tbl := by
  unfold wsX11_hides_r4
  exact (List.forall_mem_cons.mpr ⟨wd_1035, (List.forall_mem_cons.mpr ⟨wd_1043, (List.forall_mem_cons.mpr ⟨wd_1042, (List.forall_mem_cons.mpr ⟨wd_1041, (List.forall_mem_cons.mpr ⟨wd_571, (List.forall_mem_cons.mpr ⟨wd_570, (List.forall_mem_cons.mpr ⟨wd_569, (List.forall_mem_cons.mpr ⟨wd_568, (List.forall_mem_cons.mpr ⟨wd_134, (List.forall_mem_cons.mpr ⟨wd_132, (List.forall_mem_cons.mpr ⟨wd_567, (List.forall_mem_cons.mpr ⟨wd_560, (List.forall_mem_cons.mpr ⟨wd_559, (List.forall_mem_cons.mpr ⟨wd_602, (List.forall_mem_cons.mpr ⟨wd_601, (List.forall_mem_cons.mpr ⟨wd_600, (List.forall_mem_cons.mpr ⟨wd_599, (List.forall_mem_cons.mpr ⟨wd_598, (List.forall_mem_cons.mpr ⟨wd_597, (List.forall_mem_cons.mpr ⟨wd_596, (List.forall_mem_cons.mpr ⟨wd_595, (List.forall_mem_cons.mpr ⟨wd_594, (List.forall_mem_cons.mpr ⟨wd_593, (List.forall_mem_cons.mpr ⟨wd_592, (fun _ h => absurd h List.not_mem_nil)⟩)⟩)⟩)⟩)⟩)⟩)⟩)⟩)⟩)⟩)⟩)⟩)⟩)⟩)⟩)⟩)⟩)⟩)⟩)⟩)⟩)⟩)⟩)⟩)
set_option maxRecDepth 20000 in
theorem hl_wsX11_hides_r5 : ∀ w ∈ wsX11_hides_r5, w ∈ lw_tbl := by
  unfold wsX11_hides_r5
  exact (List.forall_mem_cons.mpr ⟨wd_591, (List.forall_mem_cons.mpr ⟨wd_590, (List.forall_mem_cons.mpr ⟨wd_589, (List.forall_mem_cons.mpr ⟨wd_588, (List.forall_mem_cons.mpr ⟨wd_587, (List.forall_mem_cons.mpr ⟨wd_586, (List.forall_mem_cons.mpr ⟨wd_585, (List.forall_mem_cons.mpr ⟨wd_584, (List.forall_mem_cons.mpr ⟨wd_583, (List.forall_mem_cons.mpr ⟨wd_582, (List.forall_mem_cons.mpr ⟨wd_581, (List.forall_mem_cons.mpr ⟨wd_580, (List.forall_mem_cons.mpr ⟨wd_579, (List.forall_mem_cons.mpr ⟨wd_608, (List.forall_mem_cons.mpr ⟨wd_607, (List.forall_mem_cons.mpr ⟨wd_606, (List.forall_mem_cons.mpr ⟨wd_605, (List.forall_mem_cons.mpr ⟨wd_604, (List.forall_mem_cons.mpr ⟨wd_603, (List.forall_mem_cons.mpr ⟨wd_1242, (List.forall_mem_cons.mpr ⟨wd_1241, (List.forall_mem_cons.mpr ⟨wd_1240, (List.forall_mem_cons.mpr ⟨wd_1239, (List.forall_mem_cons.mpr ⟨wd_1238, (fun _ h => absurd h List.not_mem_nil)⟩)⟩)⟩)⟩)⟩)⟩)⟩)⟩)⟩)⟩)⟩)⟩)⟩)⟩)⟩)⟩)⟩)⟩)⟩)⟩)⟩)⟩)⟩)⟩)
set_option maxRecDepth 20000 in
theorem hl_wsX11_hides_r6 : ∀ w ∈ wsX11_hides_r6, w ∈ lw_tbl := by
  unfold wsX11_hides_r6
  exact (List.forall_mem_cons.mpr ⟨wd_1237, (List.forall_mem_cons.mpr ⟨wd_1236, (List.forall_mem_cons.mpr ⟨wd_1141, (List.forall_mem_cons.mpr ⟨wd_1140, (List.forall_mem_cons.mpr ⟨wd_1139, (List.forall_mem_cons.mpr ⟨wd_1138, (List.forall_mem_cons.mpr ⟨wd_1137, (List.forall_mem_cons.mpr ⟨wd_1136, (List.forall_mem_cons.mpr ⟨wd_1135, (List.forall_mem_cons.mpr ⟨wd_1134, (List.forall_mem_cons.mpr ⟨wd_1235, (List.forall_mem_cons.mpr ⟨wd_865, (List.forall_mem_cons.mpr ⟨wd_864, (List.forall_mem_cons.mpr ⟨wd_114, (List.forall_mem_cons.mpr ⟨wd_863, (List.forall_mem_cons.mpr ⟨wd_112, (List.forall_mem_cons.mpr ⟨wd_862, (List.forall_mem_cons.mpr ⟨wd_1252, (List.forall_mem_cons.mpr ⟨wd_1251, (List.forall_mem_cons.mpr ⟨wd_1250, (List.forall_mem_cons.mpr ⟨wd_1249, (List.forall_mem_cons.mpr ⟨wd_1129, (List.forall_mem_cons.mpr ⟨wd_1248, (List.forall_mem_cons.mpr ⟨wd_1247, (fun _ h => absurd h List.not_mem_nil)⟩)⟩)⟩)⟩)⟩)⟩)⟩)⟩)⟩)⟩)⟩)⟩)⟩)⟩)⟩)⟩)⟩)⟩)⟩)⟩)⟩)⟩)⟩)⟩)
set_option maxRecDepth 20000 in
theorem hl_wsX11_hides_r7 : ∀ w ∈ wsX11_hides_r7, w ∈ lw_tbl := by
  unfold wsX11_hides_r7
  exact (List.forall_mem_cons.mpr ⟨wd_1246, (List.forall_mem_cons.mpr ⟨wd_1245, (List.forall_mem_cons.mpr ⟨wd_1244, (List.forall_mem_cons.mpr ⟨wd_1243, (List.forall_mem_cons.mpr ⟨wd_1047, (List.forall_mem_cons.mpr ⟨wd_1046, (List.forall_mem_cons.mpr ⟨wd_1045, (List.forall_mem_cons.mpr ⟨wd_1044, (List.forall_mem_cons.mpr ⟨wd_1055, (List.forall_mem_cons.mpr ⟨wd_1054, (List.forall_mem_cons.mpr ⟨wd_1053, (List.forall_mem_cons.mpr ⟨wd_1052, (List.forall_mem_cons.mpr ⟨wd_1128, (List.forall_mem_cons.mpr ⟨wd_1156, (List.forall_mem_cons.mpr ⟨wd_1155, (List.forall_mem_cons.mpr ⟨wd_1154, (List.forall_mem_cons.mpr ⟨wd_1259, (List.forall_mem_cons.mpr ⟨wd_1148, (List.forall_mem_cons.mpr ⟨wd_1147, (List.forall_mem_cons.mpr ⟨wd_1146, (fun _ h => absurd h List.not_mem_nil)⟩)⟩)⟩)⟩)⟩)⟩)⟩)⟩)⟩)⟩)⟩)⟩)⟩)⟩)⟩)⟩)⟩)⟩)⟩)⟩)
set_option maxRecDepth 20000 in
theorem hl_wsX11_hides : ∀ w ∈ wsX11_hides, w ∈ lw_tbl := by
  unfold wsX11_hides
  exact (List.forall_mem_cons.mpr ⟨wd_1345, (List.forall_mem_append.mpr ⟨(List.forall_mem_append.mpr ⟨(List.forall_mem_append.mpr ⟨(List.forall_mem_append.mpr ⟨(List.forall_mem_append.mpr ⟨(List.forall_mem_append.mpr ⟨hl_wsX11_hides_r1, (List.forall_mem_append.mpr ⟨hl_wsX11_hides_r2, (List.forall_mem_append.mpr ⟨hl_wsX11_hides_r3, (List.forall_mem_append.mpr ⟨hl_wsX11_hides_r4, (List.forall_mem_append.mpr ⟨hl_wsX11_hides_r5, (List.forall_mem_append.mpr ⟨hl_wsX11_hides_r6, hl_wsX11_hides_r7⟩)⟩)⟩)⟩)⟩)⟩), hl_wsX110⟩), hl_wsX90⟩), hl_wsX50⟩), hl_wsX40⟩), hl_wsX70⟩)⟩)
theorem wd_1356 : Cond.selects RX12 yX12_hides yX12_hides ∈ lw_tbl := mt_8 (List.mem_of_getElem? (i := 83) rfl)
theorem wd_1357 : Cond.instanceMethod yX12_hides ∈ lw_tbl := mt_8 (List.mem_of_getElem? (i := 82) rfl)
theorem wd_1358 : Cond.methodLink RL 140 yX12_hides ∈ lw_tbl := mt_8 (List.mem_of_getElem? (i := 81) rfl)
theorem wd_1359 : Cond.code yX12_hides cX12_hides 11 (some .int) ∈ lw_tbl := mt_8 (List.mem_of_getElem? (i := 84) rfl)
theorem wd_1360 : Cond.constantLong RX12 416 (6) ∈ lw_tbl := mt_8 (List.mem_of_getElem? (i := 85) rfl)
set_option maxRecDepth 20000 in
theorem hl_wsX12_hides_r1 : ∀ w ∈ wsX12_hides_r1, w ∈ lw_tbl := by
  unfold wsX12_hides_r1
  exact (List.forall_mem_cons.mpr ⟨wd_34, (List.forall_mem_cons.mpr ⟨wd_963, (List.forall_mem_cons.mpr ⟨wd_1360, (List.forall_mem_cons.mpr ⟨wd_1269, (List.forall_mem_cons.mpr ⟨wd_1268, (List.forall_mem_cons.mpr ⟨wd_27, (List.forall_mem_cons.mpr ⟨wd_1267, (List.forall_mem_cons.mpr ⟨wd_422, (List.forall_mem_cons.mpr ⟨wd_421, (List.forall_mem_cons.mpr ⟨wd_420, (List.forall_mem_cons.mpr ⟨wd_768, (List.forall_mem_cons.mpr ⟨wd_767, (List.forall_mem_cons.mpr ⟨wd_766, (List.forall_mem_cons.mpr ⟨wd_765, (List.forall_mem_cons.mpr ⟨wd_423, (List.forall_mem_cons.mpr ⟨wd_614, (List.forall_mem_cons.mpr ⟨wd_613, (List.forall_mem_cons.mpr ⟨wd_654, (List.forall_mem_cons.mpr ⟨wd_653, (List.forall_mem_cons.mpr ⟨wd_652, (List.forall_mem_cons.mpr ⟨wd_651, (List.forall_mem_cons.mpr ⟨wd_650, (List.forall_mem_cons.mpr ⟨wd_649, (List.forall_mem_cons.mpr ⟨wd_648, (fun _ h => absurd h List.not_mem_nil)⟩)⟩)⟩)⟩)⟩)⟩)⟩)⟩)⟩)⟩)⟩)⟩)⟩)⟩)⟩)⟩)⟩)⟩)⟩)⟩)⟩)⟩)⟩)⟩)
theorem wd_1361 : Cond.code yX12_openBy cX12_openBy 6 (some .long) ∈ lw_tbl := mt_8 (List.mem_of_getElem? (i := 89) rfl)
theorem wd_1362 : Cond.selects RX12 yX12_openBy yX12_openBy ∈ lw_tbl := mp_8 (q := (⟨"OneOfEachModel", "openBy", "(II)J"⟩, 32)) (List.mem_of_getElem? (i := 0) rfl)
theorem wd_1363 : Cond.instanceMethod yX12_openBy ∈ lw_tbl := mt_8 (List.mem_of_getElem? (i := 88) rfl)
theorem wd_1364 : Cond.methodLink RX12 418 yX12_openBy ∈ lw_tbl := mt_8 (List.mem_of_getElem? (i := 86) rfl)
set_option maxRecDepth 20000 in
theorem hl_wsX12_hides_r2 : ∀ w ∈ wsX12_hides_r2, w ∈ lw_tbl := by
  unfold wsX12_hides_r2
  exact (List.forall_mem_cons.mpr ⟨wd_647, (List.forall_mem_cons.mpr ⟨wd_646, (List.forall_mem_cons.mpr ⟨wd_645, (List.forall_mem_cons.mpr ⟨wd_1364, (List.forall_mem_cons.mpr ⟨wd_1363, (List.forall_mem_cons.mpr ⟨wd_1362, (List.forall_mem_cons.mpr ⟨wd_1361, (List.forall_mem_cons.mpr ⟨wd_1087, (List.forall_mem_cons.mpr ⟨wd_1086, (List.forall_mem_cons.mpr ⟨wd_1085, (List.forall_mem_cons.mpr ⟨wd_1084, (List.forall_mem_cons.mpr ⟨wd_1083, (List.forall_mem_cons.mpr ⟨wd_618, (List.forall_mem_cons.mpr ⟨wd_617, (List.forall_mem_cons.mpr ⟨wd_616, (List.forall_mem_cons.mpr ⟨wd_615, (List.forall_mem_cons.mpr ⟨wd_644, (List.forall_mem_cons.mpr ⟨wd_643, (List.forall_mem_cons.mpr ⟨wd_642, (List.forall_mem_cons.mpr ⟨wd_641, (List.forall_mem_cons.mpr ⟨wd_640, (List.forall_mem_cons.mpr ⟨wd_639, (List.forall_mem_cons.mpr ⟨wd_638, (List.forall_mem_cons.mpr ⟨wd_637, (fun _ h => absurd h List.not_mem_nil)⟩)⟩)⟩)⟩)⟩)⟩)⟩)⟩)⟩)⟩)⟩)⟩)⟩)⟩)⟩)⟩)⟩)⟩)⟩)⟩)⟩)⟩)⟩)⟩)
set_option maxRecDepth 20000 in
theorem hl_wsX12_hides_r3 : ∀ w ∈ wsX12_hides_r3, w ∈ lw_tbl := by
  unfold wsX12_hides_r3
  exact (List.forall_mem_cons.mpr ⟨wd_636, (List.forall_mem_cons.mpr ⟨wd_635, (List.forall_mem_cons.mpr ⟨wd_634, (List.forall_mem_cons.mpr ⟨wd_633, (List.forall_mem_cons.mpr ⟨wd_632, (List.forall_mem_cons.mpr ⟨wd_631, (List.forall_mem_cons.mpr ⟨wd_665, (List.forall_mem_cons.mpr ⟨wd_664, (List.forall_mem_cons.mpr ⟨wd_663, (List.forall_mem_cons.mpr ⟨wd_662, (List.forall_mem_cons.mpr ⟨wd_661, (List.forall_mem_cons.mpr ⟨wd_660, (List.forall_mem_cons.mpr ⟨wd_659, (List.forall_mem_cons.mpr ⟨wd_658, (List.forall_mem_cons.mpr ⟨wd_657, (List.forall_mem_cons.mpr ⟨wd_656, (List.forall_mem_cons.mpr ⟨wd_655, (List.forall_mem_cons.mpr ⟨wd_1276, (List.forall_mem_cons.mpr ⟨wd_1275, (List.forall_mem_cons.mpr ⟨wd_1274, (List.forall_mem_cons.mpr ⟨wd_1273, (List.forall_mem_cons.mpr ⟨wd_1272, (List.forall_mem_cons.mpr ⟨wd_1271, (List.forall_mem_cons.mpr ⟨wd_1167, (fun _ h => absurd h List.not_mem_nil)⟩)⟩)⟩)⟩)⟩)⟩)⟩)⟩)⟩)⟩)⟩)⟩)⟩)⟩)⟩)⟩)⟩)⟩)⟩)⟩)⟩)⟩)⟩)⟩)
set_option maxRecDepth 20000 in
theorem hl_wsX12_hides_r4 : ∀ w ∈ wsX12_hides_r4, w ∈ lw_tbl := by
  unfold wsX12_hides_r4
  exact (List.forall_mem_cons.mpr ⟨wd_1172, (List.forall_mem_cons.mpr ⟨wd_1176, (List.forall_mem_cons.mpr ⟨wd_1175, (List.forall_mem_cons.mpr ⟨wd_1174, (List.forall_mem_cons.mpr ⟨wd_1173, (List.forall_mem_cons.mpr ⟨wd_890, (List.forall_mem_cons.mpr ⟨wd_889, (List.forall_mem_cons.mpr ⟨wd_888, (List.forall_mem_cons.mpr ⟨wd_887, (List.forall_mem_cons.mpr ⟨wd_1287, (List.forall_mem_cons.mpr ⟨wd_1286, (List.forall_mem_cons.mpr ⟨wd_1285, (List.forall_mem_cons.mpr ⟨wd_1284, (List.forall_mem_cons.mpr ⟨wd_1095, (List.forall_mem_cons.mpr ⟨wd_1094, (List.forall_mem_cons.mpr ⟨wd_1093, (List.forall_mem_cons.mpr ⟨wd_1092, (List.forall_mem_cons.mpr ⟨wd_1283, (List.forall_mem_cons.mpr ⟨wd_1282, (List.forall_mem_cons.mpr ⟨wd_1281, (List.forall_mem_cons.mpr ⟨wd_1280, (List.forall_mem_cons.mpr ⟨wd_1166, (List.forall_mem_cons.mpr ⟨wd_1165, (List.forall_mem_cons.mpr ⟨wd_1164, (fun _ h => absurd h List.not_mem_nil)⟩)⟩)⟩)⟩)⟩)⟩)⟩)⟩)⟩)⟩)⟩)⟩)⟩)⟩)⟩)⟩)⟩)⟩)⟩)⟩)⟩)⟩)⟩)⟩)
set_option maxRecDepth 20000 in
theorem hl_wsX12_hides_r5 : ∀ w ∈ wsX12_hides_r5, w ∈ lw_tbl := by
  unfold wsX12_hides_r5
  exact (List.forall_mem_cons.mpr ⟨wd_1163, (fun _ h => absurd h List.not_mem_nil)⟩)
set_option maxRecDepth 20000 in
theorem hl_wsX12_hides : ∀ w ∈ wsX12_hides, w ∈ lw_tbl := by
  unfold wsX12_hides
  exact (List.forall_mem_cons.mpr ⟨wd_1359, (List.forall_mem_append.mpr ⟨(List.forall_mem_append.mpr ⟨hl_wsX12_hides_r1, (List.forall_mem_append.mpr ⟨hl_wsX12_hides_r2, (List.forall_mem_append.mpr ⟨hl_wsX12_hides_r3, (List.forall_mem_append.mpr ⟨hl_wsX12_hides_r4, hl_wsX12_hides_r5⟩)⟩)⟩)⟩), hl_wsX120⟩)⟩)
def tL_hides : List Cond := (wsV RL 136 RX11 yX11_hides wsX11_hides) ++ (wsV RL 140 RX12 yX12_hides wsX12_hides)
theorem tL_hides_in : ∀ w ∈ tL_hides, w ∈ lw_tbl := by
  unfold tL_hides
  exact (List.forall_mem_append.mpr ⟨(List.forall_mem_append.mpr ⟨(List.forall_mem_cons.mpr ⟨wd_1344, (List.forall_mem_cons.mpr ⟨wd_1343, (List.forall_mem_cons.mpr ⟨wd_1342, (List.forall_mem_cons.mpr ⟨wd_0, (fun _ h => absurd h List.not_mem_nil)⟩)⟩)⟩)⟩), hl_wsX11_hides⟩), (List.forall_mem_append.mpr ⟨(List.forall_mem_cons.mpr ⟨wd_1358, (List.forall_mem_cons.mpr ⟨wd_1357, (List.forall_mem_cons.mpr ⟨wd_1356, (List.forall_mem_cons.mpr ⟨wd_27, (fun _ h => absurd h List.not_mem_nil)⟩)⟩)⟩)⟩), hl_wsX12_hides⟩)⟩)
set_option maxRecDepth 20000 in
theorem tL_hides_x : GoodIn tL_hides (wsV RL 136 RX11 yX11_hides wsX11_hides) := fun w h => ⟨List.mem_append_left _ h, good_of_word (List.all_eq_true.mp (show (wsV RL 136 RX11 yX11_hides wsX11_hides).all goodWord = true by decide +kernel) w h)⟩
set_option maxRecDepth 20000 in
theorem tL_hides_m : GoodIn tL_hides (wsV RL 140 RX12 yX12_hides wsX12_hides) := fun w h => ⟨List.mem_append_right _ h, good_of_word (List.all_eq_true.mp (show (wsV RL 140 RX12 yX12_hides wsX12_hides).all goodWord = true by decide +kernel) w h)⟩
theorem hdLX11_hides : yX11_hides.cls = RX11 ∧ yX11_hides.cls ≠ "java/lang/invoke/MethodHandle" ∧ yX11_hides.cls ≠ "java/lang/invoke/VarHandle" ∧ (parseMethodDescriptor yX11_hides.desc).map (fun d => d.parameters.length) = some 3 := by decide +kernel
theorem hdLX12_hides : yX12_hides.cls = RX12 ∧ yX12_hides.cls ≠ "java/lang/invoke/MethodHandle" ∧ yX12_hides.cls ≠ "java/lang/invoke/VarHandle" ∧ (parseMethodDescriptor yX12_hides.desc).map (fun d => d.parameters.length) = some 3 := by decide +kernel
theorem wd_1365 : Cond.selects RX11 yX11_rota yX11_rota ∈ lw_tbl := mt_5 (List.mem_of_getElem? (i := 108) rfl)
theorem wd_1366 : Cond.instanceMethod yX11_rota ∈ lw_tbl := mt_5 (List.mem_of_getElem? (i := 107) rfl)
theorem wd_1367 : Cond.methodLink RL 141 yX11_rota ∈ lw_tbl := mt_5 (List.mem_of_getElem? (i := 106) rfl)
theorem wd_1368 : Cond.code yX11_rota cX11_rota 5 (some .int) ∈ lw_tbl := mt_5 (List.mem_of_getElem? (i := 109) rfl)
set_option maxRecDepth 20000 in
theorem hl_wsX11_rota_r1 : ∀ w ∈ wsX11_rota_r1, w ∈ lw_tbl := by
  unfold wsX11_rota_r1
  exact (List.forall_mem_cons.mpr ⟨wd_84, (List.forall_mem_cons.mpr ⟨wd_1034, (List.forall_mem_cons.mpr ⟨wd_85, (List.forall_mem_cons.mpr ⟨wd_555, (List.forall_mem_cons.mpr ⟨wd_550, (List.forall_mem_cons.mpr ⟨wd_1349, (List.forall_mem_cons.mpr ⟨wd_748, (List.forall_mem_cons.mpr ⟨wd_747, (List.forall_mem_cons.mpr ⟨wd_102, (List.forall_mem_cons.mpr ⟨wd_746, (List.forall_mem_cons.mpr ⟨wd_98, (List.forall_mem_cons.mpr ⟨wd_99, (List.forall_mem_cons.mpr ⟨wd_745, (List.forall_mem_cons.mpr ⟨wd_744, (List.forall_mem_cons.mpr ⟨wd_743, (List.forall_mem_cons.mpr ⟨wd_742, (List.forall_mem_cons.mpr ⟨wd_100, (List.forall_mem_cons.mpr ⟨wd_1033, (List.forall_mem_cons.mpr ⟨wd_1032, (List.forall_mem_cons.mpr ⟨wd_1031, (List.forall_mem_cons.mpr ⟨wd_1030, (List.forall_mem_cons.mpr ⟨wd_1029, (List.forall_mem_cons.mpr ⟨wd_1028, (List.forall_mem_cons.mpr ⟨wd_1027, (fun _ h => absurd h List.not_mem_nil)⟩)⟩)⟩)⟩)⟩)⟩)⟩)⟩)⟩)⟩)⟩)⟩)⟩)⟩)⟩)⟩)⟩)⟩)⟩)⟩)⟩)⟩)⟩)⟩)
set_option maxRecDepth 20000 in
theorem hl_wsX11_rota_r2 : ∀ w ∈ wsX11_rota_r2, w ∈ lw_tbl := by
  unfold wsX11_rota_r2
  exact (List.forall_mem_cons.mpr ⟨wd_1026, (List.forall_mem_cons.mpr ⟨wd_1025, (List.forall_mem_cons.mpr ⟨wd_1024, (List.forall_mem_cons.mpr ⟨wd_1023, (List.forall_mem_cons.mpr ⟨wd_1022, (List.forall_mem_cons.mpr ⟨wd_1021, (List.forall_mem_cons.mpr ⟨wd_1020, (List.forall_mem_cons.mpr ⟨wd_1019, (List.forall_mem_cons.mpr ⟨wd_1018, (List.forall_mem_cons.mpr ⟨wd_1017, (List.forall_mem_cons.mpr ⟨wd_1016, (List.forall_mem_cons.mpr ⟨wd_1040, (List.forall_mem_cons.mpr ⟨wd_543, (List.forall_mem_cons.mpr ⟨wd_542, (List.forall_mem_cons.mpr ⟨wd_362, (List.forall_mem_cons.mpr ⟨wd_541, (List.forall_mem_cons.mpr ⟨wd_540, (List.forall_mem_cons.mpr ⟨wd_578, (List.forall_mem_cons.mpr ⟨wd_577, (List.forall_mem_cons.mpr ⟨wd_360, (List.forall_mem_cons.mpr ⟨wd_576, (List.forall_mem_cons.mpr ⟨wd_575, (List.forall_mem_cons.mpr ⟨wd_574, (List.forall_mem_cons.mpr ⟨wd_573, (fun _ h => absurd h List.not_mem_nil)⟩)⟩)⟩)⟩)⟩)⟩)⟩)⟩)⟩)⟩)⟩)⟩)⟩)⟩)⟩)⟩)⟩)⟩)⟩)⟩)⟩)⟩)⟩)⟩)
set_option maxRecDepth 20000 in
theorem hl_wsX11_rota_r3 : ∀ w ∈ wsX11_rota_r3, w ∈ lw_tbl := by
  unfold wsX11_rota_r3
  exact (List.forall_mem_cons.mpr ⟨wd_1039, (List.forall_mem_cons.mpr ⟨wd_358, (List.forall_mem_cons.mpr ⟨wd_357, (List.forall_mem_cons.mpr ⟨wd_356, (List.forall_mem_cons.mpr ⟨wd_1038, (List.forall_mem_cons.mpr ⟨wd_1037, (List.forall_mem_cons.mpr ⟨wd_1036, (List.forall_mem_cons.mpr ⟨wd_1035, (List.forall_mem_cons.mpr ⟨wd_1043, (List.forall_mem_cons.mpr ⟨wd_1042, (List.forall_mem_cons.mpr ⟨wd_1041, (List.forall_mem_cons.mpr ⟨wd_571, (List.forall_mem_cons.mpr ⟨wd_570, (List.forall_mem_cons.mpr ⟨wd_569, (List.forall_mem_cons.mpr ⟨wd_568, (List.forall_mem_cons.mpr ⟨wd_134, (List.forall_mem_cons.mpr ⟨wd_133, (List.forall_mem_cons.mpr ⟨wd_132, (List.forall_mem_cons.mpr ⟨wd_567, (List.forall_mem_cons.mpr ⟨wd_566, (List.forall_mem_cons.mpr ⟨wd_565, (List.forall_mem_cons.mpr ⟨wd_564, (List.forall_mem_cons.mpr ⟨wd_563, (List.forall_mem_cons.mpr ⟨wd_562, (fun _ h => absurd h List.not_mem_nil)⟩)⟩)⟩)⟩)⟩)⟩)⟩)⟩)⟩)⟩)⟩)⟩)⟩)⟩)⟩)⟩)⟩)⟩)⟩)⟩)⟩)⟩)⟩)⟩)
set_option maxRecDepth 20000 in
theorem hl_wsX11_rota_r4 : ∀ w ∈ wsX11_rota_r4, w ∈ lw_tbl := by
  unfold wsX11_rota_r4
  exact (List.forall_mem_cons.mpr ⟨wd_561, (List.forall_mem_cons.mpr ⟨wd_560, (List.forall_mem_cons.mpr ⟨wd_559, (List.forall_mem_cons.mpr ⟨wd_602, (List.forall_mem_cons.mpr ⟨wd_601, (List.forall_mem_cons.mpr ⟨wd_600, (List.forall_mem_cons.mpr ⟨wd_599, (List.forall_mem_cons.mpr ⟨wd_598, (List.forall_mem_cons.mpr ⟨wd_597, (List.forall_mem_cons.mpr ⟨wd_596, (List.forall_mem_cons.mpr ⟨wd_595, (List.forall_mem_cons.mpr ⟨wd_594, (List.forall_mem_cons.mpr ⟨wd_593, (List.forall_mem_cons.mpr ⟨wd_592, (List.forall_mem_cons.mpr ⟨wd_591, (List.forall_mem_cons.mpr ⟨wd_590, (List.forall_mem_cons.mpr ⟨wd_589, (List.forall_mem_cons.mpr ⟨wd_588, (List.forall_mem_cons.mpr ⟨wd_587, (List.forall_mem_cons.mpr ⟨wd_586, (List.forall_mem_cons.mpr ⟨wd_585, (List.forall_mem_cons.mpr ⟨wd_584, (List.forall_mem_cons.mpr ⟨wd_583, (List.forall_mem_cons.mpr ⟨wd_582, (fun _ h => absurd h List.not_mem_nil)⟩)⟩)⟩)⟩)⟩)⟩)⟩)⟩)⟩)⟩)⟩)⟩)⟩)⟩)⟩)⟩)⟩)⟩)⟩)⟩)⟩)⟩)⟩)⟩)
theorem wd_1369 : Cond.code yX5_takersNow cX5_takersNow 3 (some .int) ∈ lw_tbl := mt_5 (List.mem_of_getElem? (i := 113) rfl)
theorem wd_1370 : Cond.selects RX5 yX5_takersNow yX5_takersNow ∈ lw_tbl := mt_5 (List.mem_of_getElem? (i := 112) rfl)
theorem wd_1371 : Cond.instanceMethod yX5_takersNow ∈ lw_tbl := mt_5 (List.mem_of_getElem? (i := 111) rfl)
theorem wd_1372 : Cond.methodLink RX11 338 yX5_takersNow ∈ lw_tbl := mt_5 (List.mem_of_getElem? (i := 110) rfl)
set_option maxRecDepth 20000 in
theorem hl_wsX11_rota_r5 : ∀ w ∈ wsX11_rota_r5, w ∈ lw_tbl := by
  unfold wsX11_rota_r5
  exact (List.forall_mem_cons.mpr ⟨wd_581, (List.forall_mem_cons.mpr ⟨wd_580, (List.forall_mem_cons.mpr ⟨wd_579, (List.forall_mem_cons.mpr ⟨wd_608, (List.forall_mem_cons.mpr ⟨wd_607, (List.forall_mem_cons.mpr ⟨wd_606, (List.forall_mem_cons.mpr ⟨wd_605, (List.forall_mem_cons.mpr ⟨wd_604, (List.forall_mem_cons.mpr ⟨wd_603, (List.forall_mem_cons.mpr ⟨wd_1372, (List.forall_mem_cons.mpr ⟨wd_1371, (List.forall_mem_cons.mpr ⟨wd_1370, (List.forall_mem_cons.mpr ⟨wd_1369, (List.forall_mem_cons.mpr ⟨wd_1047, (List.forall_mem_cons.mpr ⟨wd_1046, (List.forall_mem_cons.mpr ⟨wd_1045, (List.forall_mem_cons.mpr ⟨wd_1044, (List.forall_mem_cons.mpr ⟨wd_1348, (List.forall_mem_cons.mpr ⟨wd_1347, (List.forall_mem_cons.mpr ⟨wd_1346, (List.forall_mem_cons.mpr ⟨wd_1355, (List.forall_mem_cons.mpr ⟨wd_0, (List.forall_mem_cons.mpr ⟨wd_1354, (List.forall_mem_cons.mpr ⟨wd_1353, (fun _ h => absurd h List.not_mem_nil)⟩)⟩)⟩)⟩)⟩)⟩)⟩)⟩)⟩)⟩)⟩)⟩)⟩)⟩)⟩)⟩)⟩)⟩)⟩)⟩)⟩)⟩)⟩)⟩)
set_option maxRecDepth 20000 in
theorem hl_wsX11_rota_r6 : ∀ w ∈ wsX11_rota_r6, w ∈ lw_tbl := by
  unfold wsX11_rota_r6
  exact (List.forall_mem_cons.mpr ⟨wd_1064, (List.forall_mem_cons.mpr ⟨wd_1063, (List.forall_mem_cons.mpr ⟨wd_1062, (List.forall_mem_cons.mpr ⟨wd_1061, (List.forall_mem_cons.mpr ⟨wd_1060, (List.forall_mem_cons.mpr ⟨wd_1059, (List.forall_mem_cons.mpr ⟨wd_1058, (List.forall_mem_cons.mpr ⟨wd_1057, (List.forall_mem_cons.mpr ⟨wd_1056, (List.forall_mem_cons.mpr ⟨wd_1055, (List.forall_mem_cons.mpr ⟨wd_1054, (List.forall_mem_cons.mpr ⟨wd_1053, (List.forall_mem_cons.mpr ⟨wd_1052, (List.forall_mem_cons.mpr ⟨wd_1051, (List.forall_mem_cons.mpr ⟨wd_1050, (List.forall_mem_cons.mpr ⟨wd_1049, (List.forall_mem_cons.mpr ⟨wd_1048, (fun _ h => absurd h List.not_mem_nil)⟩)⟩)⟩)⟩)⟩)⟩)⟩)⟩)⟩)⟩)⟩)⟩)⟩)⟩)⟩)⟩)⟩)
set_option maxRecDepth 20000 in
theorem hl_wsX11_rota : ∀ w ∈ wsX11_rota, w ∈ lw_tbl := by
  unfold wsX11_rota
  exact (List.forall_mem_cons.mpr ⟨wd_1368, (List.forall_mem_append.mpr ⟨(List.forall_mem_append.mpr ⟨(List.forall_mem_append.mpr ⟨(List.forall_mem_append.mpr ⟨(List.forall_mem_append.mpr ⟨(List.forall_mem_append.mpr ⟨hl_wsX11_rota_r1, (List.forall_mem_append.mpr ⟨hl_wsX11_rota_r2, (List.forall_mem_append.mpr ⟨hl_wsX11_rota_r3, (List.forall_mem_append.mpr ⟨hl_wsX11_rota_r4, (List.forall_mem_append.mpr ⟨hl_wsX11_rota_r5, hl_wsX11_rota_r6⟩)⟩)⟩)⟩)⟩), hl_wsX110⟩), hl_wsX90⟩), hl_wsX50⟩), hl_wsX40⟩), hl_wsX70⟩)⟩)
theorem wd_1373 : Cond.selects RX12 yX12_rota yX12_rota ∈ lw_tbl := mt_8 (List.mem_of_getElem? (i := 92) rfl)
theorem wd_1374 : Cond.instanceMethod yX12_rota ∈ lw_tbl := mt_8 (List.mem_of_getElem? (i := 91) rfl)
theorem wd_1375 : Cond.methodLink RL 144 yX12_rota ∈ lw_tbl := mt_8 (List.mem_of_getElem? (i := 90) rfl)
theorem wd_1376 : Cond.code yX12_rota cX12_rota 5 (some .int) ∈ lw_tbl := mt_8 (List.mem_of_getElem? (i := 93) rfl)
set_option maxRecDepth 20000 in
theorem hl_wsX12_rota_r1 : ∀ w ∈ wsX12_rota_r1, w ∈ lw_tbl := by
  unfold wsX12_rota_r1
  exact (List.forall_mem_cons.mpr ⟨wd_34, (List.forall_mem_cons.mpr ⟨wd_1269, (List.forall_mem_cons.mpr ⟨wd_1268, (List.forall_mem_cons.mpr ⟨wd_27, (List.forall_mem_cons.mpr ⟨wd_1267, (List.forall_mem_cons.mpr ⟨wd_422, (List.forall_mem_cons.mpr ⟨wd_421, (List.forall_mem_cons.mpr ⟨wd_420, (List.forall_mem_cons.mpr ⟨wd_768, (List.forall_mem_cons.mpr ⟨wd_767, (List.forall_mem_cons.mpr ⟨wd_766, (List.forall_mem_cons.mpr ⟨wd_765, (List.forall_mem_cons.mpr ⟨wd_423, (List.forall_mem_cons.mpr ⟨wd_614, (List.forall_mem_cons.mpr ⟨wd_613, (List.forall_mem_cons.mpr ⟨wd_654, (List.forall_mem_cons.mpr ⟨wd_653, (List.forall_mem_cons.mpr ⟨wd_652, (List.forall_mem_cons.mpr ⟨wd_651, (List.forall_mem_cons.mpr ⟨wd_650, (List.forall_mem_cons.mpr ⟨wd_649, (List.forall_mem_cons.mpr ⟨wd_648, (List.forall_mem_cons.mpr ⟨wd_647, (List.forall_mem_cons.mpr ⟨wd_646, (fun _ h => absurd h List.not_mem_nil)⟩)⟩)⟩)⟩)⟩)⟩)⟩)⟩)⟩)⟩)⟩)⟩)⟩)⟩)⟩)⟩)⟩)⟩)⟩)⟩)⟩)⟩)⟩)⟩)
theorem wd_1377 : Cond.code yX12_buyersNow cX12_buyersNow 3 (some .int) ∈ lw_tbl := mt_8 (List.mem_of_getElem? (i := 97) rfl)
theorem wd_1378 : Cond.selects RX12 yX12_buyersNow yX12_buyersNow ∈ lw_tbl := mp_8 (q := (⟨"OneOfEachModel", "buyersNow", "()I"⟩, 32)) (List.mem_of_getElem? (i := 1) rfl)
theorem wd_1379 : Cond.instanceMethod yX12_buyersNow ∈ lw_tbl := mt_8 (List.mem_of_getElem? (i := 96) rfl)
theorem wd_1380 : Cond.methodLink RX12 422 yX12_buyersNow ∈ lw_tbl := mt_8 (List.mem_of_getElem? (i := 94) rfl)
set_option maxRecDepth 20000 in
theorem hl_wsX12_rota_r2 : ∀ w ∈ wsX12_rota_r2, w ∈ lw_tbl := by
  unfold wsX12_rota_r2
  exact (List.forall_mem_cons.mpr ⟨wd_645, (List.forall_mem_cons.mpr ⟨wd_1380, (List.forall_mem_cons.mpr ⟨wd_1379, (List.forall_mem_cons.mpr ⟨wd_1378, (List.forall_mem_cons.mpr ⟨wd_1377, (List.forall_mem_cons.mpr ⟨wd_622, (List.forall_mem_cons.mpr ⟨wd_621, (List.forall_mem_cons.mpr ⟨wd_620, (List.forall_mem_cons.mpr ⟨wd_619, (List.forall_mem_cons.mpr ⟨wd_618, (List.forall_mem_cons.mpr ⟨wd_617, (List.forall_mem_cons.mpr ⟨wd_616, (List.forall_mem_cons.mpr ⟨wd_615, (List.forall_mem_cons.mpr ⟨wd_644, (List.forall_mem_cons.mpr ⟨wd_643, (List.forall_mem_cons.mpr ⟨wd_642, (List.forall_mem_cons.mpr ⟨wd_641, (List.forall_mem_cons.mpr ⟨wd_640, (List.forall_mem_cons.mpr ⟨wd_639, (List.forall_mem_cons.mpr ⟨wd_638, (List.forall_mem_cons.mpr ⟨wd_637, (List.forall_mem_cons.mpr ⟨wd_636, (List.forall_mem_cons.mpr ⟨wd_635, (List.forall_mem_cons.mpr ⟨wd_634, (fun _ h => absurd h List.not_mem_nil)⟩)⟩)⟩)⟩)⟩)⟩)⟩)⟩)⟩)⟩)⟩)⟩)⟩)⟩)⟩)⟩)⟩)⟩)⟩)⟩)⟩)⟩)⟩)⟩)
theorem wd_1381 : Cond.code yX12_staysOpen cX12_staysOpen 5 (some .boolean) ∈ lw_tbl := mt_8 (List.mem_of_getElem? (i := 101) rfl)
theorem wd_1382 : Cond.selects RX12 yX12_staysOpen yX12_staysOpen ∈ lw_tbl := mp_8 (q := (⟨"OneOfEachModel", "staysOpen", "(II)Z"⟩, 32)) (List.mem_of_getElem? (i := 2) rfl)
theorem wd_1383 : Cond.instanceMethod yX12_staysOpen ∈ lw_tbl := mt_8 (List.mem_of_getElem? (i := 100) rfl)
theorem wd_1384 : Cond.methodLink RX12 425 yX12_staysOpen ∈ lw_tbl := mt_8 (List.mem_of_getElem? (i := 98) rfl)
set_option maxRecDepth 20000 in
theorem hl_wsX12_rota_r3 : ∀ w ∈ wsX12_rota_r3, w ∈ lw_tbl := by
  unfold wsX12_rota_r3
  exact (List.forall_mem_cons.mpr ⟨wd_633, (List.forall_mem_cons.mpr ⟨wd_632, (List.forall_mem_cons.mpr ⟨wd_631, (List.forall_mem_cons.mpr ⟨wd_665, (List.forall_mem_cons.mpr ⟨wd_664, (List.forall_mem_cons.mpr ⟨wd_663, (List.forall_mem_cons.mpr ⟨wd_662, (List.forall_mem_cons.mpr ⟨wd_661, (List.forall_mem_cons.mpr ⟨wd_660, (List.forall_mem_cons.mpr ⟨wd_659, (List.forall_mem_cons.mpr ⟨wd_658, (List.forall_mem_cons.mpr ⟨wd_657, (List.forall_mem_cons.mpr ⟨wd_656, (List.forall_mem_cons.mpr ⟨wd_655, (List.forall_mem_cons.mpr ⟨wd_1384, (List.forall_mem_cons.mpr ⟨wd_1383, (List.forall_mem_cons.mpr ⟨wd_1382, (List.forall_mem_cons.mpr ⟨wd_1381, (List.forall_mem_cons.mpr ⟨wd_1091, (List.forall_mem_cons.mpr ⟨wd_1090, (List.forall_mem_cons.mpr ⟨wd_1089, (List.forall_mem_cons.mpr ⟨wd_1088, (List.forall_mem_cons.mpr ⟨wd_1087, (List.forall_mem_cons.mpr ⟨wd_1086, (fun _ h => absurd h List.not_mem_nil)⟩)⟩)⟩)⟩)⟩)⟩)⟩)⟩)⟩)⟩)⟩)⟩)⟩)⟩)⟩)⟩)⟩)⟩)⟩)⟩)⟩)⟩)⟩)⟩)
set_option maxRecDepth 20000 in
theorem hl_wsX12_rota_r4 : ∀ w ∈ wsX12_rota_r4, w ∈ lw_tbl := by
  unfold wsX12_rota_r4
  exact (List.forall_mem_cons.mpr ⟨wd_1085, (List.forall_mem_cons.mpr ⟨wd_1084, (List.forall_mem_cons.mpr ⟨wd_1083, (List.forall_mem_cons.mpr ⟨wd_1101, (List.forall_mem_cons.mpr ⟨wd_1100, (List.forall_mem_cons.mpr ⟨wd_1099, (List.forall_mem_cons.mpr ⟨wd_1098, (List.forall_mem_cons.mpr ⟨wd_1097, (List.forall_mem_cons.mpr ⟨wd_1096, (List.forall_mem_cons.mpr ⟨wd_1095, (List.forall_mem_cons.mpr ⟨wd_1094, (List.forall_mem_cons.mpr ⟨wd_1093, (List.forall_mem_cons.mpr ⟨wd_1092, (fun _ h => absurd h List.not_mem_nil)⟩)⟩)⟩)⟩)⟩)⟩)⟩)⟩)⟩)⟩)⟩)⟩)⟩)
set_option maxRecDepth 20000 in
theorem hl_wsX12_rota : ∀ w ∈ wsX12_rota, w ∈ lw_tbl := by
  unfold wsX12_rota
  exact (List.forall_mem_cons.mpr ⟨wd_1376, (List.forall_mem_append.mpr ⟨(List.forall_mem_append.mpr ⟨hl_wsX12_rota_r1, (List.forall_mem_append.mpr ⟨hl_wsX12_rota_r2, (List.forall_mem_append.mpr ⟨hl_wsX12_rota_r3, hl_wsX12_rota_r4⟩)⟩)⟩), hl_wsX120⟩)⟩)
def tL_rota : List Cond := (wsV RL 141 RX11 yX11_rota wsX11_rota) ++ (wsV RL 144 RX12 yX12_rota wsX12_rota)
theorem tL_rota_in : ∀ w ∈ tL_rota, w ∈ lw_tbl := by
  unfold tL_rota
  exact (List.forall_mem_append.mpr ⟨(List.forall_mem_append.mpr ⟨(List.forall_mem_cons.mpr ⟨wd_1367, (List.forall_mem_cons.mpr ⟨wd_1366, (List.forall_mem_cons.mpr ⟨wd_1365, (List.forall_mem_cons.mpr ⟨wd_0, (fun _ h => absurd h List.not_mem_nil)⟩)⟩)⟩)⟩), hl_wsX11_rota⟩), (List.forall_mem_append.mpr ⟨(List.forall_mem_cons.mpr ⟨wd_1375, (List.forall_mem_cons.mpr ⟨wd_1374, (List.forall_mem_cons.mpr ⟨wd_1373, (List.forall_mem_cons.mpr ⟨wd_27, (fun _ h => absurd h List.not_mem_nil)⟩)⟩)⟩)⟩), hl_wsX12_rota⟩)⟩)
set_option maxRecDepth 20000 in
theorem tL_rota_x : GoodIn tL_rota (wsV RL 141 RX11 yX11_rota wsX11_rota) := fun w h => ⟨List.mem_append_left _ h, good_of_word (List.all_eq_true.mp (show (wsV RL 141 RX11 yX11_rota wsX11_rota).all goodWord = true by decide +kernel) w h)⟩
set_option maxRecDepth 20000 in
theorem tL_rota_m : GoodIn tL_rota (wsV RL 144 RX12 yX12_rota wsX12_rota) := fun w h => ⟨List.mem_append_right _ h, good_of_word (List.all_eq_true.mp (show (wsV RL 144 RX12 yX12_rota wsX12_rota).all goodWord = true by decide +kernel) w h)⟩
theorem hdLX11_rota : yX11_rota.cls = RX11 ∧ yX11_rota.cls ≠ "java/lang/invoke/MethodHandle" ∧ yX11_rota.cls ≠ "java/lang/invoke/VarHandle" ∧ (parseMethodDescriptor yX11_rota.desc).map (fun d => d.parameters.length) = some 1 := by decide +kernel
theorem hdLX12_rota : yX12_rota.cls = RX12 ∧ yX12_rota.cls ≠ "java/lang/invoke/MethodHandle" ∧ yX12_rota.cls ≠ "java/lang/invoke/VarHandle" ∧ (parseMethodDescriptor yX12_rota.desc).map (fun d => d.parameters.length) = some 1 := by decide +kernel
theorem wd_1385 : Cond.selects RX11 yX11_earns yX11_earns ∈ lw_tbl := mt_5 (List.mem_of_getElem? (i := 116) rfl)
theorem wd_1386 : Cond.instanceMethod yX11_earns ∈ lw_tbl := mt_5 (List.mem_of_getElem? (i := 115) rfl)
theorem wd_1387 : Cond.methodLink RL 145 yX11_earns ∈ lw_tbl := mt_5 (List.mem_of_getElem? (i := 114) rfl)
theorem wd_1388 : Cond.code yX11_earns cX11_earns 4 (some .long) ∈ lw_tbl := mt_5 (List.mem_of_getElem? (i := 117) rfl)
theorem wd_1389 : Cond.fieldLink RX11 341 "OneOfEach$Outlook" "taken" "J" ∈ lw_tbl := mt_2 (List.mem_of_getElem? (i := 28) rfl)
set_option maxRecDepth 20000 in
theorem hl_wsX11_earns_r1 : ∀ w ∈ wsX11_earns_r1, w ∈ lw_tbl := by
  unfold wsX11_earns_r1
  exact (List.forall_mem_cons.mpr ⟨wd_1034, (List.forall_mem_cons.mpr ⟨wd_85, (List.forall_mem_cons.mpr ⟨wd_84, (List.forall_mem_cons.mpr ⟨wd_555, (List.forall_mem_cons.mpr ⟨wd_1389, (List.forall_mem_cons.mpr ⟨wd_1234, (List.forall_mem_cons.mpr ⟨wd_1233, (List.forall_mem_cons.mpr ⟨wd_1232, (List.forall_mem_cons.mpr ⟨wd_0, (List.forall_mem_cons.mpr ⟨wd_1231, (List.forall_mem_cons.mpr ⟨wd_1033, (List.forall_mem_cons.mpr ⟨wd_1032, (List.forall_mem_cons.mpr ⟨wd_1031, (List.forall_mem_cons.mpr ⟨wd_1030, (List.forall_mem_cons.mpr ⟨wd_1029, (List.forall_mem_cons.mpr ⟨wd_1028, (List.forall_mem_cons.mpr ⟨wd_1027, (List.forall_mem_cons.mpr ⟨wd_1026, (List.forall_mem_cons.mpr ⟨wd_1025, (List.forall_mem_cons.mpr ⟨wd_1024, (List.forall_mem_cons.mpr ⟨wd_1023, (List.forall_mem_cons.mpr ⟨wd_1022, (List.forall_mem_cons.mpr ⟨wd_1021, (List.forall_mem_cons.mpr ⟨wd_1020, (fun _ h => absurd h List.not_mem_nil)⟩)⟩)⟩)⟩)⟩)⟩)⟩)⟩)⟩)⟩)⟩)⟩)⟩)⟩)⟩)⟩)⟩)⟩)⟩)⟩)⟩)⟩)⟩)⟩)
set_option maxRecDepth 20000 in
theorem hl_wsX11_earns_r2 : ∀ w ∈ wsX11_earns_r2, w ∈ lw_tbl := by
  unfold wsX11_earns_r2
  exact (List.forall_mem_cons.mpr ⟨wd_1019, (List.forall_mem_cons.mpr ⟨wd_1018, (List.forall_mem_cons.mpr ⟨wd_1017, (List.forall_mem_cons.mpr ⟨wd_1016, (List.forall_mem_cons.mpr ⟨wd_744, (List.forall_mem_cons.mpr ⟨wd_743, (List.forall_mem_cons.mpr ⟨wd_102, (List.forall_mem_cons.mpr ⟨wd_742, (List.forall_mem_cons.mpr ⟨wd_100, (List.forall_mem_cons.mpr ⟨wd_1040, (List.forall_mem_cons.mpr ⟨wd_543, (List.forall_mem_cons.mpr ⟨wd_542, (List.forall_mem_cons.mpr ⟨wd_362, (List.forall_mem_cons.mpr ⟨wd_541, (List.forall_mem_cons.mpr ⟨wd_540, (List.forall_mem_cons.mpr ⟨wd_578, (List.forall_mem_cons.mpr ⟨wd_577, (List.forall_mem_cons.mpr ⟨wd_360, (List.forall_mem_cons.mpr ⟨wd_576, (List.forall_mem_cons.mpr ⟨wd_575, (List.forall_mem_cons.mpr ⟨wd_574, (List.forall_mem_cons.mpr ⟨wd_573, (List.forall_mem_cons.mpr ⟨wd_1039, (List.forall_mem_cons.mpr ⟨wd_358, (fun _ h => absurd h List.not_mem_nil)⟩)⟩)⟩)⟩)⟩)⟩)⟩)⟩)⟩)⟩)⟩)⟩)⟩)⟩)⟩)⟩)⟩)⟩)⟩)⟩)⟩)⟩)⟩)⟩)
set_option maxRecDepth 20000 in
theorem hl_wsX11_earns_r3 : ∀ w ∈ wsX11_earns_r3, w ∈ lw_tbl := by
  unfold wsX11_earns_r3
  exact (List.forall_mem_cons.mpr ⟨wd_357, (List.forall_mem_cons.mpr ⟨wd_356, (List.forall_mem_cons.mpr ⟨wd_1038, (List.forall_mem_cons.mpr ⟨wd_1037, (List.forall_mem_cons.mpr ⟨wd_1036, (List.forall_mem_cons.mpr ⟨wd_1035, (List.forall_mem_cons.mpr ⟨wd_1043, (List.forall_mem_cons.mpr ⟨wd_1042, (List.forall_mem_cons.mpr ⟨wd_1041, (List.forall_mem_cons.mpr ⟨wd_571, (List.forall_mem_cons.mpr ⟨wd_570, (List.forall_mem_cons.mpr ⟨wd_569, (List.forall_mem_cons.mpr ⟨wd_568, (List.forall_mem_cons.mpr ⟨wd_134, (List.forall_mem_cons.mpr ⟨wd_133, (List.forall_mem_cons.mpr ⟨wd_132, (List.forall_mem_cons.mpr ⟨wd_567, (List.forall_mem_cons.mpr ⟨wd_566, (List.forall_mem_cons.mpr ⟨wd_565, (List.forall_mem_cons.mpr ⟨wd_564, (List.forall_mem_cons.mpr ⟨wd_563, (List.forall_mem_cons.mpr ⟨wd_562, (List.forall_mem_cons.mpr ⟨wd_561, (List.forall_mem_cons.mpr ⟨wd_560, (fun _ h => absurd h List.not_mem_nil)⟩)⟩)⟩)⟩)⟩)⟩)⟩)⟩)⟩)⟩)⟩)⟩)⟩)⟩)⟩)⟩)⟩)⟩)⟩)⟩)⟩)⟩)⟩)⟩)
set_option maxRecDepth 20000 in
theorem hl_wsX11_earns_r4 : ∀ w ∈ wsX11_earns_r4, w ∈ lw_tbl := by
  unfold wsX11_earns_r4
  exact (List.forall_mem_cons.mpr ⟨wd_559, (List.forall_mem_cons.mpr ⟨wd_602, (List.forall_mem_cons.mpr ⟨wd_601, (List.forall_mem_cons.mpr ⟨wd_600, (List.forall_mem_cons.mpr ⟨wd_599, (List.forall_mem_cons.mpr ⟨wd_598, (List.forall_mem_cons.mpr ⟨wd_597, (List.forall_mem_cons.mpr ⟨wd_596, (List.forall_mem_cons.mpr ⟨wd_595, (List.forall_mem_cons.mpr ⟨wd_594, (List.forall_mem_cons.mpr ⟨wd_593, (List.forall_mem_cons.mpr ⟨wd_592, (List.forall_mem_cons.mpr ⟨wd_591, (List.forall_mem_cons.mpr ⟨wd_590, (List.forall_mem_cons.mpr ⟨wd_589, (List.forall_mem_cons.mpr ⟨wd_588, (List.forall_mem_cons.mpr ⟨wd_587, (List.forall_mem_cons.mpr ⟨wd_586, (List.forall_mem_cons.mpr ⟨wd_585, (List.forall_mem_cons.mpr ⟨wd_584, (List.forall_mem_cons.mpr ⟨wd_583, (List.forall_mem_cons.mpr ⟨wd_582, (List.forall_mem_cons.mpr ⟨wd_581, (List.forall_mem_cons.mpr ⟨wd_580, (fun _ h => absurd h List.not_mem_nil)⟩)⟩)⟩)⟩)⟩)⟩)⟩)⟩)⟩)⟩)⟩)⟩)⟩)⟩)⟩)⟩)⟩)⟩)⟩)⟩)⟩)⟩)⟩)⟩)
set_option maxRecDepth 20000 in
theorem hl_wsX11_earns_r5 : ∀ w ∈ wsX11_earns_r5, w ∈ lw_tbl := by
  unfold wsX11_earns_r5
  exact (List.forall_mem_cons.mpr ⟨wd_579, (List.forall_mem_cons.mpr ⟨wd_608, (List.forall_mem_cons.mpr ⟨wd_607, (List.forall_mem_cons.mpr ⟨wd_606, (List.forall_mem_cons.mpr ⟨wd_605, (List.forall_mem_cons.mpr ⟨wd_604, (List.forall_mem_cons.mpr ⟨wd_603, (List.forall_mem_cons.mpr ⟨wd_1242, (List.forall_mem_cons.mpr ⟨wd_1241, (List.forall_mem_cons.mpr ⟨wd_1240, (List.forall_mem_cons.mpr ⟨wd_1239, (List.forall_mem_cons.mpr ⟨wd_1238, (List.forall_mem_cons.mpr ⟨wd_1237, (List.forall_mem_cons.mpr ⟨wd_1236, (List.forall_mem_cons.mpr ⟨wd_1141, (List.forall_mem_cons.mpr ⟨wd_1140, (List.forall_mem_cons.mpr ⟨wd_1139, (List.forall_mem_cons.mpr ⟨wd_1138, (List.forall_mem_cons.mpr ⟨wd_1137, (List.forall_mem_cons.mpr ⟨wd_1136, (List.forall_mem_cons.mpr ⟨wd_1135, (List.forall_mem_cons.mpr ⟨wd_1134, (List.forall_mem_cons.mpr ⟨wd_1235, (List.forall_mem_cons.mpr ⟨wd_865, (fun _ h => absurd h List.not_mem_nil)⟩)⟩)⟩)⟩)⟩)⟩)⟩)⟩)⟩)⟩)⟩)⟩)⟩)⟩)⟩)⟩)⟩)⟩)⟩)⟩)⟩)⟩)⟩)⟩)
set_option maxRecDepth 20000 in
theorem hl_wsX11_earns_r6 : ∀ w ∈ wsX11_earns_r6, w ∈ lw_tbl := by
  unfold wsX11_earns_r6
  exact (List.forall_mem_cons.mpr ⟨wd_864, (List.forall_mem_cons.mpr ⟨wd_114, (List.forall_mem_cons.mpr ⟨wd_863, (List.forall_mem_cons.mpr ⟨wd_112, (List.forall_mem_cons.mpr ⟨wd_862, (List.forall_mem_cons.mpr ⟨wd_1252, (List.forall_mem_cons.mpr ⟨wd_1251, (List.forall_mem_cons.mpr ⟨wd_1250, (List.forall_mem_cons.mpr ⟨wd_1249, (List.forall_mem_cons.mpr ⟨wd_1129, (List.forall_mem_cons.mpr ⟨wd_1248, (List.forall_mem_cons.mpr ⟨wd_1247, (List.forall_mem_cons.mpr ⟨wd_1246, (List.forall_mem_cons.mpr ⟨wd_1245, (List.forall_mem_cons.mpr ⟨wd_1244, (List.forall_mem_cons.mpr ⟨wd_1243, (List.forall_mem_cons.mpr ⟨wd_1047, (List.forall_mem_cons.mpr ⟨wd_1046, (List.forall_mem_cons.mpr ⟨wd_1045, (List.forall_mem_cons.mpr ⟨wd_1044, (List.forall_mem_cons.mpr ⟨wd_1055, (List.forall_mem_cons.mpr ⟨wd_1054, (List.forall_mem_cons.mpr ⟨wd_1053, (List.forall_mem_cons.mpr ⟨wd_1052, (fun _ h => absurd h List.not_mem_nil)⟩)⟩)⟩)⟩)⟩)⟩)⟩)⟩)⟩)⟩)⟩)⟩)⟩)⟩)⟩)⟩)⟩)⟩)⟩)⟩)⟩)⟩)⟩)⟩)
set_option maxRecDepth 20000 in
theorem hl_wsX11_earns_r7 : ∀ w ∈ wsX11_earns_r7, w ∈ lw_tbl := by
  unfold wsX11_earns_r7
  exact (List.forall_mem_cons.mpr ⟨wd_1128, (List.forall_mem_cons.mpr ⟨wd_1156, (List.forall_mem_cons.mpr ⟨wd_1155, (List.forall_mem_cons.mpr ⟨wd_1154, (List.forall_mem_cons.mpr ⟨wd_1258, (List.forall_mem_cons.mpr ⟨wd_1257, (List.forall_mem_cons.mpr ⟨wd_1256, (List.forall_mem_cons.mpr ⟨wd_1255, (List.forall_mem_cons.mpr ⟨wd_1254, (List.forall_mem_cons.mpr ⟨wd_1253, (fun _ h => absurd h List.not_mem_nil)⟩)⟩)⟩)⟩)⟩)⟩)⟩)⟩)⟩)⟩)
set_option maxRecDepth 20000 in
theorem hl_wsX11_earns : ∀ w ∈ wsX11_earns, w ∈ lw_tbl := by
  unfold wsX11_earns
  exact (List.forall_mem_cons.mpr ⟨wd_1388, (List.forall_mem_append.mpr ⟨(List.forall_mem_append.mpr ⟨(List.forall_mem_append.mpr ⟨(List.forall_mem_append.mpr ⟨(List.forall_mem_append.mpr ⟨(List.forall_mem_append.mpr ⟨hl_wsX11_earns_r1, (List.forall_mem_append.mpr ⟨hl_wsX11_earns_r2, (List.forall_mem_append.mpr ⟨hl_wsX11_earns_r3, (List.forall_mem_append.mpr ⟨hl_wsX11_earns_r4, (List.forall_mem_append.mpr ⟨hl_wsX11_earns_r5, (List.forall_mem_append.mpr ⟨hl_wsX11_earns_r6, hl_wsX11_earns_r7⟩)⟩)⟩)⟩)⟩)⟩), hl_wsX110⟩), hl_wsX90⟩), hl_wsX50⟩), hl_wsX40⟩), hl_wsX70⟩)⟩)
theorem wd_1390 : Cond.selects RX12 yX12_earns yX12_earns ∈ lw_tbl := mt_8 (List.mem_of_getElem? (i := 104) rfl)
theorem wd_1391 : Cond.instanceMethod yX12_earns ∈ lw_tbl := mt_8 (List.mem_of_getElem? (i := 103) rfl)
theorem wd_1392 : Cond.methodLink RL 148 yX12_earns ∈ lw_tbl := mt_8 (List.mem_of_getElem? (i := 102) rfl)
theorem wd_1393 : Cond.code yX12_earns cX12_earns 3 (some .long) ∈ lw_tbl := mt_8 (List.mem_of_getElem? (i := 105) rfl)
theorem wd_1394 : Cond.constantLong RX12 429 (8) ∈ lw_tbl := mt_8 (List.mem_of_getElem? (i := 106) rfl)
set_option maxRecDepth 20000 in
theorem hl_wsX12_earns_r1 : ∀ w ∈ wsX12_earns_r1, w ∈ lw_tbl := by
  unfold wsX12_earns_r1
  exact (List.forall_mem_cons.mpr ⟨wd_34, (List.forall_mem_cons.mpr ⟨wd_1270, (List.forall_mem_cons.mpr ⟨wd_1394, (List.forall_mem_cons.mpr ⟨wd_1161, (List.forall_mem_cons.mpr ⟨wd_1272, (List.forall_mem_cons.mpr ⟨wd_1269, (List.forall_mem_cons.mpr ⟨wd_1268, (List.forall_mem_cons.mpr ⟨wd_27, (List.forall_mem_cons.mpr ⟨wd_1267, (List.forall_mem_cons.mpr ⟨wd_422, (List.forall_mem_cons.mpr ⟨wd_421, (List.forall_mem_cons.mpr ⟨wd_420, (List.forall_mem_cons.mpr ⟨wd_1087, (List.forall_mem_cons.mpr ⟨wd_1086, (List.forall_mem_cons.mpr ⟨wd_1085, (List.forall_mem_cons.mpr ⟨wd_1084, (List.forall_mem_cons.mpr ⟨wd_423, (List.forall_mem_cons.mpr ⟨wd_1083, (List.forall_mem_cons.mpr ⟨wd_648, (List.forall_mem_cons.mpr ⟨wd_647, (List.forall_mem_cons.mpr ⟨wd_646, (List.forall_mem_cons.mpr ⟨wd_645, (List.forall_mem_cons.mpr ⟨wd_618, (List.forall_mem_cons.mpr ⟨wd_617, (fun _ h => absurd h List.not_mem_nil)⟩)⟩)⟩)⟩)⟩)⟩)⟩)⟩)⟩)⟩)⟩)⟩)⟩)⟩)⟩)⟩)⟩)⟩)⟩)⟩)⟩)⟩)⟩)⟩)
set_option maxRecDepth 20000 in
theorem hl_wsX12_earns_r2 : ∀ w ∈ wsX12_earns_r2, w ∈ lw_tbl := by
  unfold wsX12_earns_r2
  exact (List.forall_mem_cons.mpr ⟨wd_616, (List.forall_mem_cons.mpr ⟨wd_615, (List.forall_mem_cons.mpr ⟨wd_614, (List.forall_mem_cons.mpr ⟨wd_613, (List.forall_mem_cons.mpr ⟨wd_654, (List.forall_mem_cons.mpr ⟨wd_653, (List.forall_mem_cons.mpr ⟨wd_652, (List.forall_mem_cons.mpr ⟨wd_651, (List.forall_mem_cons.mpr ⟨wd_650, (List.forall_mem_cons.mpr ⟨wd_649, (List.forall_mem_cons.mpr ⟨wd_644, (List.forall_mem_cons.mpr ⟨wd_643, (List.forall_mem_cons.mpr ⟨wd_642, (List.forall_mem_cons.mpr ⟨wd_641, (List.forall_mem_cons.mpr ⟨wd_640, (List.forall_mem_cons.mpr ⟨wd_639, (List.forall_mem_cons.mpr ⟨wd_638, (List.forall_mem_cons.mpr ⟨wd_637, (List.forall_mem_cons.mpr ⟨wd_636, (List.forall_mem_cons.mpr ⟨wd_635, (List.forall_mem_cons.mpr ⟨wd_634, (List.forall_mem_cons.mpr ⟨wd_633, (List.forall_mem_cons.mpr ⟨wd_632, (List.forall_mem_cons.mpr ⟨wd_631, (fun _ h => absurd h List.not_mem_nil)⟩)⟩)⟩)⟩)⟩)⟩)⟩)⟩)⟩)⟩)⟩)⟩)⟩)⟩)⟩)⟩)⟩)⟩)⟩)⟩)⟩)⟩)⟩)⟩)
set_option maxRecDepth 20000 in
theorem hl_wsX12_earns_r3 : ∀ w ∈ wsX12_earns_r3, w ∈ lw_tbl := by
  unfold wsX12_earns_r3
  exact (List.forall_mem_cons.mpr ⟨wd_665, (List.forall_mem_cons.mpr ⟨wd_664, (List.forall_mem_cons.mpr ⟨wd_663, (List.forall_mem_cons.mpr ⟨wd_662, (List.forall_mem_cons.mpr ⟨wd_661, (List.forall_mem_cons.mpr ⟨wd_660, (List.forall_mem_cons.mpr ⟨wd_659, (List.forall_mem_cons.mpr ⟨wd_658, (List.forall_mem_cons.mpr ⟨wd_657, (List.forall_mem_cons.mpr ⟨wd_656, (List.forall_mem_cons.mpr ⟨wd_655, (List.forall_mem_cons.mpr ⟨wd_1276, (List.forall_mem_cons.mpr ⟨wd_1275, (List.forall_mem_cons.mpr ⟨wd_1274, (List.forall_mem_cons.mpr ⟨wd_1273, (List.forall_mem_cons.mpr ⟨wd_1271, (List.forall_mem_cons.mpr ⟨wd_1167, (List.forall_mem_cons.mpr ⟨wd_1172, (List.forall_mem_cons.mpr ⟨wd_1176, (List.forall_mem_cons.mpr ⟨wd_1175, (List.forall_mem_cons.mpr ⟨wd_1174, (List.forall_mem_cons.mpr ⟨wd_1173, (List.forall_mem_cons.mpr ⟨wd_890, (List.forall_mem_cons.mpr ⟨wd_889, (fun _ h => absurd h List.not_mem_nil)⟩)⟩)⟩)⟩)⟩)⟩)⟩)⟩)⟩)⟩)⟩)⟩)⟩)⟩)⟩)⟩)⟩)⟩)⟩)⟩)⟩)⟩)⟩)⟩)
set_option maxRecDepth 20000 in
theorem hl_wsX12_earns_r4 : ∀ w ∈ wsX12_earns_r4, w ∈ lw_tbl := by
  unfold wsX12_earns_r4
  exact (List.forall_mem_cons.mpr ⟨wd_888, (List.forall_mem_cons.mpr ⟨wd_887, (List.forall_mem_cons.mpr ⟨wd_1287, (List.forall_mem_cons.mpr ⟨wd_1286, (List.forall_mem_cons.mpr ⟨wd_1285, (List.forall_mem_cons.mpr ⟨wd_1284, (List.forall_mem_cons.mpr ⟨wd_1095, (List.forall_mem_cons.mpr ⟨wd_1094, (List.forall_mem_cons.mpr ⟨wd_1093, (List.forall_mem_cons.mpr ⟨wd_1092, (List.forall_mem_cons.mpr ⟨wd_1279, (List.forall_mem_cons.mpr ⟨wd_1278, (List.forall_mem_cons.mpr ⟨wd_1277, (List.forall_mem_cons.mpr ⟨wd_1297, (List.forall_mem_cons.mpr ⟨wd_1296, (List.forall_mem_cons.mpr ⟨wd_1295, (List.forall_mem_cons.mpr ⟨wd_1294, (List.forall_mem_cons.mpr ⟨wd_1293, (List.forall_mem_cons.mpr ⟨wd_1292, (List.forall_mem_cons.mpr ⟨wd_1291, (List.forall_mem_cons.mpr ⟨wd_1290, (List.forall_mem_cons.mpr ⟨wd_1289, (List.forall_mem_cons.mpr ⟨wd_1288, (fun _ h => absurd h List.not_mem_nil)⟩)⟩)⟩)⟩)⟩)⟩)⟩)⟩)⟩)⟩)⟩)⟩)⟩)⟩)⟩)⟩)⟩)⟩)⟩)⟩)⟩)⟩)⟩)
set_option maxRecDepth 20000 in
theorem hl_wsX12_earns : ∀ w ∈ wsX12_earns, w ∈ lw_tbl := by
  unfold wsX12_earns
  exact (List.forall_mem_cons.mpr ⟨wd_1393, (List.forall_mem_append.mpr ⟨(List.forall_mem_append.mpr ⟨hl_wsX12_earns_r1, (List.forall_mem_append.mpr ⟨hl_wsX12_earns_r2, (List.forall_mem_append.mpr ⟨hl_wsX12_earns_r3, hl_wsX12_earns_r4⟩)⟩)⟩), hl_wsX120⟩)⟩)
def tL_earns : List Cond := (wsV RL 145 RX11 yX11_earns wsX11_earns) ++ (wsV RL 148 RX12 yX12_earns wsX12_earns)
theorem tL_earns_in : ∀ w ∈ tL_earns, w ∈ lw_tbl := by
  unfold tL_earns
  exact (List.forall_mem_append.mpr ⟨(List.forall_mem_append.mpr ⟨(List.forall_mem_cons.mpr ⟨wd_1387, (List.forall_mem_cons.mpr ⟨wd_1386, (List.forall_mem_cons.mpr ⟨wd_1385, (List.forall_mem_cons.mpr ⟨wd_0, (fun _ h => absurd h List.not_mem_nil)⟩)⟩)⟩)⟩), hl_wsX11_earns⟩), (List.forall_mem_append.mpr ⟨(List.forall_mem_cons.mpr ⟨wd_1392, (List.forall_mem_cons.mpr ⟨wd_1391, (List.forall_mem_cons.mpr ⟨wd_1390, (List.forall_mem_cons.mpr ⟨wd_27, (fun _ h => absurd h List.not_mem_nil)⟩)⟩)⟩)⟩), hl_wsX12_earns⟩)⟩)
set_option maxRecDepth 20000 in
theorem tL_earns_x : GoodIn tL_earns (wsV RL 145 RX11 yX11_earns wsX11_earns) := fun w h => ⟨List.mem_append_left _ h, good_of_word (List.all_eq_true.mp (show (wsV RL 145 RX11 yX11_earns wsX11_earns).all goodWord = true by decide +kernel) w h)⟩
set_option maxRecDepth 20000 in
theorem tL_earns_m : GoodIn tL_earns (wsV RL 148 RX12 yX12_earns wsX12_earns) := fun w h => ⟨List.mem_append_right _ h, good_of_word (List.all_eq_true.mp (show (wsV RL 148 RX12 yX12_earns wsX12_earns).all goodWord = true by decide +kernel) w h)⟩
theorem hdLX11_earns : yX11_earns.cls = RX11 ∧ yX11_earns.cls ≠ "java/lang/invoke/MethodHandle" ∧ yX11_earns.cls ≠ "java/lang/invoke/VarHandle" ∧ (parseMethodDescriptor yX11_earns.desc).map (fun d => d.parameters.length) = some 2 := by decide +kernel
theorem hdLX12_earns : yX12_earns.cls = RX12 ∧ yX12_earns.cls ≠ "java/lang/invoke/MethodHandle" ∧ yX12_earns.cls ≠ "java/lang/invoke/VarHandle" ∧ (parseMethodDescriptor yX12_earns.desc).map (fun d => d.parameters.length) = some 2 := by decide +kernel
theorem wd_1395 : Cond.selects RX11 yX11_bestPrice yX11_bestPrice ∈ lw_tbl := mt_5 (List.mem_of_getElem? (i := 120) rfl)
theorem wd_1396 : Cond.instanceMethod yX11_bestPrice ∈ lw_tbl := mt_5 (List.mem_of_getElem? (i := 119) rfl)
theorem wd_1397 : Cond.methodLink RL 149 yX11_bestPrice ∈ lw_tbl := mt_5 (List.mem_of_getElem? (i := 118) rfl)
theorem wd_1398 : Cond.code yX11_bestPrice cX11_bestPrice 7 (some .int) ∈ lw_tbl := mt_5 (List.mem_of_getElem? (i := 121) rfl)
set_option maxRecDepth 20000 in
theorem hl_wsX11_bestPrice_r1 : ∀ w ∈ wsX11_bestPrice_r1, w ∈ lw_tbl := by
  unfold wsX11_bestPrice_r1
  exact (List.forall_mem_cons.mpr ⟨wd_84, (List.forall_mem_cons.mpr ⟨wd_90, (List.forall_mem_cons.mpr ⟨wd_852, (List.forall_mem_cons.mpr ⟨wd_558, (List.forall_mem_cons.mpr ⟨wd_1034, (List.forall_mem_cons.mpr ⟨wd_85, (List.forall_mem_cons.mpr ⟨wd_555, (List.forall_mem_cons.mpr ⟨wd_1389, (List.forall_mem_cons.mpr ⟨wd_1352, (List.forall_mem_cons.mpr ⟨wd_1351, (List.forall_mem_cons.mpr ⟨wd_133, (List.forall_mem_cons.mpr ⟨wd_1350, (List.forall_mem_cons.mpr ⟨wd_554, (List.forall_mem_cons.mpr ⟨wd_553, (List.forall_mem_cons.mpr ⟨wd_552, (List.forall_mem_cons.mpr ⟨wd_0, (List.forall_mem_cons.mpr ⟨wd_551, (List.forall_mem_cons.mpr ⟨wd_550, (List.forall_mem_cons.mpr ⟨wd_1349, (List.forall_mem_cons.mpr ⟨wd_748, (List.forall_mem_cons.mpr ⟨wd_747, (List.forall_mem_cons.mpr ⟨wd_102, (List.forall_mem_cons.mpr ⟨wd_746, (List.forall_mem_cons.mpr ⟨wd_98, (fun _ h => absurd h List.not_mem_nil)⟩)⟩)⟩)⟩)⟩)⟩)⟩)⟩)⟩)⟩)⟩)⟩)⟩)⟩)⟩)⟩)⟩)⟩)⟩)⟩)⟩)⟩)⟩)⟩)
set_option maxRecDepth 20000 in
theorem hl_wsX11_bestPrice_r2 : ∀ w ∈ wsX11_bestPrice_r2, w ∈ lw_tbl := by
  unfold wsX11_bestPrice_r2
  exact (List.forall_mem_cons.mpr ⟨wd_99, (List.forall_mem_cons.mpr ⟨wd_745, (List.forall_mem_cons.mpr ⟨wd_744, (List.forall_mem_cons.mpr ⟨wd_743, (List.forall_mem_cons.mpr ⟨wd_742, (List.forall_mem_cons.mpr ⟨wd_100, (List.forall_mem_cons.mpr ⟨wd_346, (List.forall_mem_cons.mpr ⟨wd_345, (List.forall_mem_cons.mpr ⟨wd_344, (List.forall_mem_cons.mpr ⟨wd_343, (List.forall_mem_cons.mpr ⟨wd_342, (List.forall_mem_cons.mpr ⟨wd_341, (List.forall_mem_cons.mpr ⟨wd_97, (List.forall_mem_cons.mpr ⟨wd_96, (List.forall_mem_cons.mpr ⟨wd_95, (List.forall_mem_cons.mpr ⟨wd_94, (List.forall_mem_cons.mpr ⟨wd_1033, (List.forall_mem_cons.mpr ⟨wd_1032, (List.forall_mem_cons.mpr ⟨wd_1031, (List.forall_mem_cons.mpr ⟨wd_1030, (List.forall_mem_cons.mpr ⟨wd_1029, (List.forall_mem_cons.mpr ⟨wd_1028, (List.forall_mem_cons.mpr ⟨wd_1027, (List.forall_mem_cons.mpr ⟨wd_1026, (fun _ h => absurd h List.not_mem_nil)⟩)⟩)⟩)⟩)⟩)⟩)⟩)⟩)⟩)⟩)⟩)⟩)⟩)⟩)⟩)⟩)⟩)⟩)⟩)⟩)⟩)⟩)⟩)⟩)
set_option maxRecDepth 20000 in
theorem hl_wsX11_bestPrice_r3 : ∀ w ∈ wsX11_bestPrice_r3, w ∈ lw_tbl := by
  unfold wsX11_bestPrice_r3
  exact (List.forall_mem_cons.mpr ⟨wd_1025, (List.forall_mem_cons.mpr ⟨wd_1024, (List.forall_mem_cons.mpr ⟨wd_1023, (List.forall_mem_cons.mpr ⟨wd_1022, (List.forall_mem_cons.mpr ⟨wd_1021, (List.forall_mem_cons.mpr ⟨wd_1020, (List.forall_mem_cons.mpr ⟨wd_1019, (List.forall_mem_cons.mpr ⟨wd_1018, (List.forall_mem_cons.mpr ⟨wd_1017, (List.forall_mem_cons.mpr ⟨wd_1016, (List.forall_mem_cons.mpr ⟨wd_1040, (List.forall_mem_cons.mpr ⟨wd_543, (List.forall_mem_cons.mpr ⟨wd_542, (List.forall_mem_cons.mpr ⟨wd_362, (List.forall_mem_cons.mpr ⟨wd_541, (List.forall_mem_cons.mpr ⟨wd_540, (List.forall_mem_cons.mpr ⟨wd_578, (List.forall_mem_cons.mpr ⟨wd_577, (List.forall_mem_cons.mpr ⟨wd_360, (List.forall_mem_cons.mpr ⟨wd_576, (List.forall_mem_cons.mpr ⟨wd_575, (List.forall_mem_cons.mpr ⟨wd_574, (List.forall_mem_cons.mpr ⟨wd_573, (List.forall_mem_cons.mpr ⟨wd_1039, (fun _ h => absurd h List.not_mem_nil)⟩)⟩)⟩)⟩)⟩)⟩)⟩)⟩)⟩)⟩)⟩)⟩)⟩)⟩)⟩)⟩)⟩)⟩)⟩)⟩)⟩)⟩)⟩)⟩)
set_option maxRecDepth 20000 in
theorem hl_wsX11_bestPrice_r4 : ∀ w ∈ wsX11_bestPrice_r4, w ∈ lw_tbl := by
  unfold wsX11_bestPrice_r4
  exact (List.forall_mem_cons.mpr ⟨wd_358, (List.forall_mem_cons.mpr ⟨wd_357, (List.forall_mem_cons.mpr ⟨wd_356, (List.forall_mem_cons.mpr ⟨wd_1038, (List.forall_mem_cons.mpr ⟨wd_1037, (List.forall_mem_cons.mpr ⟨wd_1036, (List.forall_mem_cons.mpr ⟨wd_1035, (List.forall_mem_cons.mpr ⟨wd_1043, (List.forall_mem_cons.mpr ⟨wd_1042, (List.forall_mem_cons.mpr ⟨wd_1041, (List.forall_mem_cons.mpr ⟨wd_571, (List.forall_mem_cons.mpr ⟨wd_570, (List.forall_mem_cons.mpr ⟨wd_569, (List.forall_mem_cons.mpr ⟨wd_568, (List.forall_mem_cons.mpr ⟨wd_134, (List.forall_mem_cons.mpr ⟨wd_132, (List.forall_mem_cons.mpr ⟨wd_567, (List.forall_mem_cons.mpr ⟨wd_566, (List.forall_mem_cons.mpr ⟨wd_565, (List.forall_mem_cons.mpr ⟨wd_564, (List.forall_mem_cons.mpr ⟨wd_563, (List.forall_mem_cons.mpr ⟨wd_562, (List.forall_mem_cons.mpr ⟨wd_561, (List.forall_mem_cons.mpr ⟨wd_560, (fun _ h => absurd h List.not_mem_nil)⟩)⟩)⟩)⟩)⟩)⟩)⟩)⟩)⟩)⟩)⟩)⟩)⟩)⟩)⟩)⟩)⟩)⟩)⟩)⟩)⟩)⟩)⟩)⟩)
set_option maxRecDepth 20000 in
theorem hl_wsX11_bestPrice_r5 : ∀ w ∈ wsX11_bestPrice_r5, w ∈ lw_tbl := by
  unfold wsX11_bestPrice_r5
  exact (List.forall_mem_cons.mpr ⟨wd_559, (List.forall_mem_cons.mpr ⟨wd_602, (List.forall_mem_cons.mpr ⟨wd_601, (List.forall_mem_cons.mpr ⟨wd_600, (List.forall_mem_cons.mpr ⟨wd_599, (List.forall_mem_cons.mpr ⟨wd_598, (List.forall_mem_cons.mpr ⟨wd_597, (List.forall_mem_cons.mpr ⟨wd_596, (List.forall_mem_cons.mpr ⟨wd_595, (List.forall_mem_cons.mpr ⟨wd_594, (List.forall_mem_cons.mpr ⟨wd_593, (List.forall_mem_cons.mpr ⟨wd_592, (List.forall_mem_cons.mpr ⟨wd_591, (List.forall_mem_cons.mpr ⟨wd_590, (List.forall_mem_cons.mpr ⟨wd_589, (List.forall_mem_cons.mpr ⟨wd_588, (List.forall_mem_cons.mpr ⟨wd_587, (List.forall_mem_cons.mpr ⟨wd_586, (List.forall_mem_cons.mpr ⟨wd_585, (List.forall_mem_cons.mpr ⟨wd_584, (List.forall_mem_cons.mpr ⟨wd_583, (List.forall_mem_cons.mpr ⟨wd_582, (List.forall_mem_cons.mpr ⟨wd_581, (List.forall_mem_cons.mpr ⟨wd_580, (fun _ h => absurd h List.not_mem_nil)⟩)⟩)⟩)⟩)⟩)⟩)⟩)⟩)⟩)⟩)⟩)⟩)⟩)⟩)⟩)⟩)⟩)⟩)⟩)⟩)⟩)⟩)⟩)⟩)
set_option maxRecDepth 20000 in
theorem hl_wsX11_bestPrice_r6 : ∀ w ∈ wsX11_bestPrice_r6, w ∈ lw_tbl := by
  unfold wsX11_bestPrice_r6
  exact (List.forall_mem_cons.mpr ⟨wd_579, (List.forall_mem_cons.mpr ⟨wd_608, (List.forall_mem_cons.mpr ⟨wd_607, (List.forall_mem_cons.mpr ⟨wd_606, (List.forall_mem_cons.mpr ⟨wd_605, (List.forall_mem_cons.mpr ⟨wd_604, (List.forall_mem_cons.mpr ⟨wd_603, (List.forall_mem_cons.mpr ⟨wd_1242, (List.forall_mem_cons.mpr ⟨wd_1241, (List.forall_mem_cons.mpr ⟨wd_1240, (List.forall_mem_cons.mpr ⟨wd_1239, (List.forall_mem_cons.mpr ⟨wd_1238, (List.forall_mem_cons.mpr ⟨wd_1237, (List.forall_mem_cons.mpr ⟨wd_1236, (List.forall_mem_cons.mpr ⟨wd_1141, (List.forall_mem_cons.mpr ⟨wd_1140, (List.forall_mem_cons.mpr ⟨wd_1139, (List.forall_mem_cons.mpr ⟨wd_1138, (List.forall_mem_cons.mpr ⟨wd_1137, (List.forall_mem_cons.mpr ⟨wd_1136, (List.forall_mem_cons.mpr ⟨wd_1135, (List.forall_mem_cons.mpr ⟨wd_1134, (List.forall_mem_cons.mpr ⟨wd_1235, (List.forall_mem_cons.mpr ⟨wd_865, (fun _ h => absurd h List.not_mem_nil)⟩)⟩)⟩)⟩)⟩)⟩)⟩)⟩)⟩)⟩)⟩)⟩)⟩)⟩)⟩)⟩)⟩)⟩)⟩)⟩)⟩)⟩)⟩)⟩)
set_option maxRecDepth 20000 in
theorem hl_wsX11_bestPrice_r7 : ∀ w ∈ wsX11_bestPrice_r7, w ∈ lw_tbl := by
  unfold wsX11_bestPrice_r7
  exact (List.forall_mem_cons.mpr ⟨wd_864, (List.forall_mem_cons.mpr ⟨wd_114, (List.forall_mem_cons.mpr ⟨wd_863, (List.forall_mem_cons.mpr ⟨wd_112, (List.forall_mem_cons.mpr ⟨wd_862, (List.forall_mem_cons.mpr ⟨wd_1252, (List.forall_mem_cons.mpr ⟨wd_1251, (List.forall_mem_cons.mpr ⟨wd_1250, (List.forall_mem_cons.mpr ⟨wd_1249, (List.forall_mem_cons.mpr ⟨wd_1129, (List.forall_mem_cons.mpr ⟨wd_1248, (List.forall_mem_cons.mpr ⟨wd_1247, (List.forall_mem_cons.mpr ⟨wd_1246, (List.forall_mem_cons.mpr ⟨wd_1245, (List.forall_mem_cons.mpr ⟨wd_1244, (List.forall_mem_cons.mpr ⟨wd_1243, (List.forall_mem_cons.mpr ⟨wd_1047, (List.forall_mem_cons.mpr ⟨wd_1046, (List.forall_mem_cons.mpr ⟨wd_1045, (List.forall_mem_cons.mpr ⟨wd_1044, (List.forall_mem_cons.mpr ⟨wd_1055, (List.forall_mem_cons.mpr ⟨wd_1054, (List.forall_mem_cons.mpr ⟨wd_1053, (List.forall_mem_cons.mpr ⟨wd_1052, (fun _ h => absurd h List.not_mem_nil)⟩)⟩)⟩)⟩)⟩)⟩)⟩)⟩)⟩)⟩)⟩)⟩)⟩)⟩)⟩)⟩)⟩)⟩)⟩)⟩)⟩)⟩)⟩)⟩)
set_option maxRecDepth 20000 in
theorem hl_wsX11_bestPrice_r8 : ∀ w ∈ wsX11_bestPrice_r8, w ∈ lw_tbl := by
  unfold wsX11_bestPrice_r8
  exact (List.forall_mem_cons.mpr ⟨wd_1128, (List.forall_mem_cons.mpr ⟨wd_1156, (List.forall_mem_cons.mpr ⟨wd_1155, (List.forall_mem_cons.mpr ⟨wd_1154, (fun _ h => absurd h List.not_mem_nil)⟩)⟩)⟩)⟩)
set_option maxRecDepth 20000 in
theorem hl_wsX11_bestPrice : ∀ w ∈ wsX11_bestPrice, w ∈ lw_tbl := by
  unfold wsX11_bestPrice
  exact (List.forall_mem_cons.mpr ⟨wd_1398, (List.forall_mem_append.mpr ⟨(List.forall_mem_append.mpr ⟨(List.forall_mem_append.mpr ⟨(List.forall_mem_append.mpr ⟨(List.forall_mem_append.mpr ⟨(List.forall_mem_append.mpr ⟨hl_wsX11_bestPrice_r1, (List.forall_mem_append.mpr ⟨hl_wsX11_bestPrice_r2, (List.forall_mem_append.mpr ⟨hl_wsX11_bestPrice_r3, (List.forall_mem_append.mpr ⟨hl_wsX11_bestPrice_r4, (List.forall_mem_append.mpr ⟨hl_wsX11_bestPrice_r5, (List.forall_mem_append.mpr ⟨hl_wsX11_bestPrice_r6, (List.forall_mem_append.mpr ⟨hl_wsX11_bestPrice_r7, hl_wsX11_bestPrice_r8⟩)⟩)⟩)⟩)⟩)⟩)⟩), hl_wsX110⟩), hl_wsX90⟩), hl_wsX50⟩), hl_wsX40⟩), hl_wsX70⟩)⟩)
theorem wd_1399 : Cond.selects RX12 yX12_bestPrice yX12_bestPrice ∈ lw_tbl := mt_8 (List.mem_of_getElem? (i := 109) rfl)
theorem wd_1400 : Cond.instanceMethod yX12_bestPrice ∈ lw_tbl := mt_8 (List.mem_of_getElem? (i := 108) rfl)
theorem wd_1401 : Cond.methodLink RL 152 yX12_bestPrice ∈ lw_tbl := mt_8 (List.mem_of_getElem? (i := 107) rfl)
theorem wd_1402 : Cond.code yX12_bestPrice cX12_bestPrice 8 (some .int) ∈ lw_tbl := mt_8 (List.mem_of_getElem? (i := 110) rfl)
theorem wd_1403 : Cond.constantLong RX12 431 (4) ∈ lw_tbl := mt_8 (List.mem_of_getElem? (i := 111) rfl)
set_option maxRecDepth 20000 in
theorem hl_wsX12_bestPrice_r1 : ∀ w ∈ wsX12_bestPrice_r1, w ∈ lw_tbl := by
  unfold wsX12_bestPrice_r1
  exact (List.forall_mem_cons.mpr ⟨wd_34, (List.forall_mem_cons.mpr ⟨wd_1403, (List.forall_mem_cons.mpr ⟨wd_423, (List.forall_mem_cons.mpr ⟨wd_970, (List.forall_mem_cons.mpr ⟨wd_1272, (List.forall_mem_cons.mpr ⟨wd_630, (List.forall_mem_cons.mpr ⟨wd_629, (List.forall_mem_cons.mpr ⟨wd_628, (List.forall_mem_cons.mpr ⟨wd_27, (List.forall_mem_cons.mpr ⟨wd_627, (List.forall_mem_cons.mpr ⟨wd_422, (List.forall_mem_cons.mpr ⟨wd_421, (List.forall_mem_cons.mpr ⟨wd_420, (List.forall_mem_cons.mpr ⟨wd_768, (List.forall_mem_cons.mpr ⟨wd_767, (List.forall_mem_cons.mpr ⟨wd_766, (List.forall_mem_cons.mpr ⟨wd_765, (List.forall_mem_cons.mpr ⟨wd_614, (List.forall_mem_cons.mpr ⟨wd_613, (List.forall_mem_cons.mpr ⟨wd_654, (List.forall_mem_cons.mpr ⟨wd_653, (List.forall_mem_cons.mpr ⟨wd_652, (List.forall_mem_cons.mpr ⟨wd_651, (List.forall_mem_cons.mpr ⟨wd_650, (fun _ h => absurd h List.not_mem_nil)⟩)⟩)⟩)⟩)⟩)⟩)⟩)⟩)⟩)⟩)⟩)⟩)⟩)⟩)⟩)⟩)⟩)⟩)⟩)⟩)⟩)⟩)⟩)⟩)
set_option maxRecDepth 20000 in
theorem hl_wsX12_bestPrice_r2 : ∀ w ∈ wsX12_bestPrice_r2, w ∈ lw_tbl := by
  unfold wsX12_bestPrice_r2
  exact (List.forall_mem_cons.mpr ⟨wd_649, (List.forall_mem_cons.mpr ⟨wd_648, (List.forall_mem_cons.mpr ⟨wd_647, (List.forall_mem_cons.mpr ⟨wd_646, (List.forall_mem_cons.mpr ⟨wd_645, (List.forall_mem_cons.mpr ⟨wd_1087, (List.forall_mem_cons.mpr ⟨wd_1086, (List.forall_mem_cons.mpr ⟨wd_1085, (List.forall_mem_cons.mpr ⟨wd_1084, (List.forall_mem_cons.mpr ⟨wd_1083, (List.forall_mem_cons.mpr ⟨wd_618, (List.forall_mem_cons.mpr ⟨wd_617, (List.forall_mem_cons.mpr ⟨wd_616, (List.forall_mem_cons.mpr ⟨wd_615, (List.forall_mem_cons.mpr ⟨wd_644, (List.forall_mem_cons.mpr ⟨wd_643, (List.forall_mem_cons.mpr ⟨wd_642, (List.forall_mem_cons.mpr ⟨wd_641, (List.forall_mem_cons.mpr ⟨wd_640, (List.forall_mem_cons.mpr ⟨wd_639, (List.forall_mem_cons.mpr ⟨wd_638, (List.forall_mem_cons.mpr ⟨wd_637, (List.forall_mem_cons.mpr ⟨wd_636, (List.forall_mem_cons.mpr ⟨wd_635, (fun _ h => absurd h List.not_mem_nil)⟩)⟩)⟩)⟩)⟩)⟩)⟩)⟩)⟩)⟩)⟩)⟩)⟩)⟩)⟩)⟩)⟩)⟩)⟩)⟩)⟩)⟩)⟩)⟩)
set_option maxRecDepth 20000 in
theorem hl_wsX12_bestPrice_r3 : ∀ w ∈ wsX12_bestPrice_r3, w ∈ lw_tbl := by
  unfold wsX12_bestPrice_r3
  exact (List.forall_mem_cons.mpr ⟨wd_634, (List.forall_mem_cons.mpr ⟨wd_633, (List.forall_mem_cons.mpr ⟨wd_632, (List.forall_mem_cons.mpr ⟨wd_631, (List.forall_mem_cons.mpr ⟨wd_665, (List.forall_mem_cons.mpr ⟨wd_664, (List.forall_mem_cons.mpr ⟨wd_663, (List.forall_mem_cons.mpr ⟨wd_662, (List.forall_mem_cons.mpr ⟨wd_661, (List.forall_mem_cons.mpr ⟨wd_660, (List.forall_mem_cons.mpr ⟨wd_659, (List.forall_mem_cons.mpr ⟨wd_658, (List.forall_mem_cons.mpr ⟨wd_657, (List.forall_mem_cons.mpr ⟨wd_656, (List.forall_mem_cons.mpr ⟨wd_655, (List.forall_mem_cons.mpr ⟨wd_1276, (List.forall_mem_cons.mpr ⟨wd_1275, (List.forall_mem_cons.mpr ⟨wd_1274, (List.forall_mem_cons.mpr ⟨wd_1273, (List.forall_mem_cons.mpr ⟨wd_1271, (List.forall_mem_cons.mpr ⟨wd_1167, (List.forall_mem_cons.mpr ⟨wd_1172, (List.forall_mem_cons.mpr ⟨wd_1176, (List.forall_mem_cons.mpr ⟨wd_1175, (fun _ h => absurd h List.not_mem_nil)⟩)⟩)⟩)⟩)⟩)⟩)⟩)⟩)⟩)⟩)⟩)⟩)⟩)⟩)⟩)⟩)⟩)⟩)⟩)⟩)⟩)⟩)⟩)⟩)
set_option maxRecDepth 20000 in
theorem hl_wsX12_bestPrice_r4 : ∀ w ∈ wsX12_bestPrice_r4, w ∈ lw_tbl := by
  unfold wsX12_bestPrice_r4
  exact (List.forall_mem_cons.mpr ⟨wd_1174, (List.forall_mem_cons.mpr ⟨wd_1173, (List.forall_mem_cons.mpr ⟨wd_890, (List.forall_mem_cons.mpr ⟨wd_889, (List.forall_mem_cons.mpr ⟨wd_888, (List.forall_mem_cons.mpr ⟨wd_887, (List.forall_mem_cons.mpr ⟨wd_1287, (List.forall_mem_cons.mpr ⟨wd_1286, (List.forall_mem_cons.mpr ⟨wd_1285, (List.forall_mem_cons.mpr ⟨wd_1284, (List.forall_mem_cons.mpr ⟨wd_1095, (List.forall_mem_cons.mpr ⟨wd_1094, (List.forall_mem_cons.mpr ⟨wd_1093, (List.forall_mem_cons.mpr ⟨wd_1092, (fun _ h => absurd h List.not_mem_nil)⟩)⟩)⟩)⟩)⟩)⟩)⟩)⟩)⟩)⟩)⟩)⟩)⟩)⟩)
set_option maxRecDepth 20000 in
theorem hl_wsX12_bestPrice : ∀ w ∈ wsX12_bestPrice, w ∈ lw_tbl := by
  unfold wsX12_bestPrice
  exact (List.forall_mem_cons.mpr ⟨wd_1402, (List.forall_mem_append.mpr ⟨(List.forall_mem_append.mpr ⟨hl_wsX12_bestPrice_r1, (List.forall_mem_append.mpr ⟨hl_wsX12_bestPrice_r2, (List.forall_mem_append.mpr ⟨hl_wsX12_bestPrice_r3, hl_wsX12_bestPrice_r4⟩)⟩)⟩), hl_wsX120⟩)⟩)
def tL_bestPrice : List Cond := (wsV RL 149 RX11 yX11_bestPrice wsX11_bestPrice) ++ (wsV RL 152 RX12 yX12_bestPrice wsX12_bestPrice)
theorem tL_bestPrice_in : ∀ w ∈ tL_bestPrice, w ∈ lw_tbl := by
  unfold tL_bestPrice
  exact (List.forall_mem_append.mpr ⟨(List.forall_mem_append.mpr ⟨(List.forall_mem_cons.mpr ⟨wd_1397, (List.forall_mem_cons.mpr ⟨wd_1396, (List.forall_mem_cons.mpr ⟨wd_1395, (List.forall_mem_cons.mpr ⟨wd_0, (fun _ h => absurd h List.not_mem_nil)⟩)⟩)⟩)⟩), hl_wsX11_bestPrice⟩), (List.forall_mem_append.mpr ⟨(List.forall_mem_cons.mpr ⟨wd_1401, (List.forall_mem_cons.mpr ⟨wd_1400, (List.forall_mem_cons.mpr ⟨wd_1399, (List.forall_mem_cons.mpr ⟨wd_27, (fun _ h => absurd h List.not_mem_nil)⟩)⟩)⟩)⟩), hl_wsX12_bestPrice⟩)⟩)
set_option maxRecDepth 20000 in
theorem tL_bestPrice_x : GoodIn tL_bestPrice (wsV RL 149 RX11 yX11_bestPrice wsX11_bestPrice) := fun w h => ⟨List.mem_append_left _ h, good_of_word (List.all_eq_true.mp (show (wsV RL 149 RX11 yX11_bestPrice wsX11_bestPrice).all goodWord = true by decide +kernel) w h)⟩
set_option maxRecDepth 20000 in
theorem tL_bestPrice_m : GoodIn tL_bestPrice (wsV RL 152 RX12 yX12_bestPrice wsX12_bestPrice) := fun w h => ⟨List.mem_append_right _ h, good_of_word (List.all_eq_true.mp (show (wsV RL 152 RX12 yX12_bestPrice wsX12_bestPrice).all goodWord = true by decide +kernel) w h)⟩
theorem hdLX11_bestPrice : yX11_bestPrice.cls = RX11 ∧ yX11_bestPrice.cls ≠ "java/lang/invoke/MethodHandle" ∧ yX11_bestPrice.cls ≠ "java/lang/invoke/VarHandle" ∧ (parseMethodDescriptor yX11_bestPrice.desc).map (fun d => d.parameters.length) = some 2 := by decide +kernel
theorem hdLX12_bestPrice : yX12_bestPrice.cls = RX12 ∧ yX12_bestPrice.cls ≠ "java/lang/invoke/MethodHandle" ∧ yX12_bestPrice.cls ≠ "java/lang/invoke/VarHandle" ∧ (parseMethodDescriptor yX12_bestPrice.desc).map (fun d => d.parameters.length) = some 2 := by decide +kernel
theorem wd_1404 : Cond.selects RX11 yX11_seen yX11_seen ∈ lw_tbl := mt_5 (List.mem_of_getElem? (i := 124) rfl)
theorem wd_1405 : Cond.instanceMethod yX11_seen ∈ lw_tbl := mt_5 (List.mem_of_getElem? (i := 123) rfl)
theorem wd_1406 : Cond.methodLink RL 153 yX11_seen ∈ lw_tbl := mt_5 (List.mem_of_getElem? (i := 122) rfl)
theorem wd_1407 : Cond.code yX11_seen cX11_seen 3 (some .int) ∈ lw_tbl := mt_5 (List.mem_of_getElem? (i := 125) rfl)
theorem wd_1408 : Cond.code yX11_seenRefusal cX11_seenRefusal 5 (some .int) ∈ lw_tbl := mt_5 (List.mem_of_getElem? (i := 129) rfl)
theorem wd_1409 : Cond.selects RX11 yX11_seenRefusal yX11_seenRefusal ∈ lw_tbl := mp_3 (q := (⟨"OneOfEach", "seenRefusal", "(I)I"⟩, 16)) (List.mem_of_getElem? (i := 8) rfl)
theorem wd_1410 : Cond.instanceMethod yX11_seenRefusal ∈ lw_tbl := mt_5 (List.mem_of_getElem? (i := 128) rfl)
theorem wd_1411 : Cond.methodLink RX11 344 yX11_seenRefusal ∈ lw_tbl := mt_5 (List.mem_of_getElem? (i := 126) rfl)
theorem wd_1412 : Cond.fieldLink RX11 354 "OneOfEach$Clues" "sets" "I" ∈ lw_tbl := mt_2 (List.mem_of_getElem? (i := 74) rfl)
theorem wd_1413 : Cond.fieldLink RX11 103 "OneOfEach" "clues" "LOneOfEach$Clues;" ∈ lw_tbl := mt_2 (List.mem_of_getElem? (i := 140) rfl)
set_option maxRecDepth 20000 in
theorem hl_wsX11_seen_r1 : ∀ w ∈ wsX11_seen_r1, w ∈ lw_tbl := by
  unfold wsX11_seen_r1
  exact (List.forall_mem_cons.mpr ⟨wd_1034, (List.forall_mem_cons.mpr ⟨wd_85, (List.forall_mem_cons.mpr ⟨wd_84, (List.forall_mem_cons.mpr ⟨wd_1413, (List.forall_mem_cons.mpr ⟨wd_929, (List.forall_mem_cons.mpr ⟨wd_1412, (List.forall_mem_cons.mpr ⟨wd_1411, (List.forall_mem_cons.mpr ⟨wd_1410, (List.forall_mem_cons.mpr ⟨wd_1409, (List.forall_mem_cons.mpr ⟨wd_0, (List.forall_mem_cons.mpr ⟨wd_1408, (List.forall_mem_cons.mpr ⟨wd_990, (List.forall_mem_cons.mpr ⟨wd_989, (List.forall_mem_cons.mpr ⟨wd_988, (List.forall_mem_cons.mpr ⟨wd_987, (List.forall_mem_cons.mpr ⟨wd_926, (List.forall_mem_cons.mpr ⟨wd_925, (List.forall_mem_cons.mpr ⟨wd_924, (List.forall_mem_cons.mpr ⟨wd_923, (List.forall_mem_cons.mpr ⟨wd_922, (List.forall_mem_cons.mpr ⟨wd_921, (List.forall_mem_cons.mpr ⟨wd_920, (List.forall_mem_cons.mpr ⟨wd_919, (List.forall_mem_cons.mpr ⟨wd_918, (fun _ h => absurd h List.not_mem_nil)⟩)⟩)⟩)⟩)⟩)⟩)⟩)⟩)⟩)⟩)⟩)⟩)⟩)⟩)⟩)⟩)⟩)⟩)⟩)⟩)⟩)⟩)⟩)⟩)
theorem wd_1414 : Cond.constantLong RX11 367 (9) ∈ lw_tbl := mt_5 (List.mem_of_getElem? (i := 134) rfl)
theorem wd_1415 : Cond.code yX11_isSight cX11_isSight 5 (some .boolean) ∈ lw_tbl := mt_5 (List.mem_of_getElem? (i := 133) rfl)
theorem wd_1416 : Cond.selects RX11 yX11_isSight yX11_isSight ∈ lw_tbl := mp_3 (q := (⟨"OneOfEach", "isSight", "(J)Z"⟩, 16)) (List.mem_of_getElem? (i := 9) rfl)
theorem wd_1417 : Cond.instanceMethod yX11_isSight ∈ lw_tbl := mt_5 (List.mem_of_getElem? (i := 132) rfl)
theorem wd_1418 : Cond.methodLink RX11 363 yX11_isSight ∈ lw_tbl := mt_5 (List.mem_of_getElem? (i := 130) rfl)
set_option maxRecDepth 20000 in
theorem hl_wsX11_seen_r2 : ∀ w ∈ wsX11_seen_r2, w ∈ lw_tbl := by
  unfold wsX11_seen_r2
  exact (List.forall_mem_cons.mpr ⟨wd_940, (List.forall_mem_cons.mpr ⟨wd_939, (List.forall_mem_cons.mpr ⟨wd_938, (List.forall_mem_cons.mpr ⟨wd_937, (List.forall_mem_cons.mpr ⟨wd_936, (List.forall_mem_cons.mpr ⟨wd_134, (List.forall_mem_cons.mpr ⟨wd_133, (List.forall_mem_cons.mpr ⟨wd_132, (List.forall_mem_cons.mpr ⟨wd_935, (List.forall_mem_cons.mpr ⟨wd_934, (List.forall_mem_cons.mpr ⟨wd_933, (List.forall_mem_cons.mpr ⟨wd_932, (List.forall_mem_cons.mpr ⟨wd_931, (List.forall_mem_cons.mpr ⟨wd_930, (List.forall_mem_cons.mpr ⟨wd_943, (List.forall_mem_cons.mpr ⟨wd_942, (List.forall_mem_cons.mpr ⟨wd_941, (List.forall_mem_cons.mpr ⟨wd_1418, (List.forall_mem_cons.mpr ⟨wd_1417, (List.forall_mem_cons.mpr ⟨wd_1416, (List.forall_mem_cons.mpr ⟨wd_1415, (List.forall_mem_cons.mpr ⟨wd_1302, (List.forall_mem_cons.mpr ⟨wd_545, (List.forall_mem_cons.mpr ⟨wd_1414, (fun _ h => absurd h List.not_mem_nil)⟩)⟩)⟩)⟩)⟩)⟩)⟩)⟩)⟩)⟩)⟩)⟩)⟩)⟩)⟩)⟩)⟩)⟩)⟩)⟩)⟩)⟩)⟩)⟩)
theorem wd_1419 : Cond.fieldLink RX5 89 "OneOfEach$Stock" "hidden" "I" ∈ lw_tbl := mt_1 (List.mem_of_getElem? (i := 126) rfl)
theorem wd_1420 : Cond.code yX5_lookEverywhere cX5_lookEverywhere 4 none ∈ lw_tbl := mt_5 (List.mem_of_getElem? (i := 138) rfl)
theorem wd_1421 : Cond.selects RX5 yX5_lookEverywhere yX5_lookEverywhere ∈ lw_tbl := mt_5 (List.mem_of_getElem? (i := 137) rfl)
theorem wd_1422 : Cond.instanceMethod yX5_lookEverywhere ∈ lw_tbl := mt_5 (List.mem_of_getElem? (i := 136) rfl)
theorem wd_1423 : Cond.methodLink RX11 347 yX5_lookEverywhere ∈ lw_tbl := mt_5 (List.mem_of_getElem? (i := 135) rfl)
set_option maxRecDepth 20000 in
theorem hl_wsX11_seen_r3 : ∀ w ∈ wsX11_seen_r3, w ∈ lw_tbl := by
  unfold wsX11_seen_r3
  exact (List.forall_mem_cons.mpr ⟨wd_550, (List.forall_mem_cons.mpr ⟨wd_1423, (List.forall_mem_cons.mpr ⟨wd_1422, (List.forall_mem_cons.mpr ⟨wd_1421, (List.forall_mem_cons.mpr ⟨wd_1030, (List.forall_mem_cons.mpr ⟨wd_1420, (List.forall_mem_cons.mpr ⟨wd_1419, (List.forall_mem_cons.mpr ⟨wd_1026, (List.forall_mem_cons.mpr ⟨wd_1025, (List.forall_mem_cons.mpr ⟨wd_1024, (List.forall_mem_cons.mpr ⟨wd_1023, (List.forall_mem_cons.mpr ⟨wd_1022, (List.forall_mem_cons.mpr ⟨wd_1021, (List.forall_mem_cons.mpr ⟨wd_1020, (List.forall_mem_cons.mpr ⟨wd_1019, (List.forall_mem_cons.mpr ⟨wd_1018, (List.forall_mem_cons.mpr ⟨wd_1027, (List.forall_mem_cons.mpr ⟨wd_1017, (List.forall_mem_cons.mpr ⟨wd_1016, (List.forall_mem_cons.mpr ⟨wd_744, (List.forall_mem_cons.mpr ⟨wd_743, (List.forall_mem_cons.mpr ⟨wd_102, (List.forall_mem_cons.mpr ⟨wd_742, (List.forall_mem_cons.mpr ⟨wd_100, (fun _ h => absurd h List.not_mem_nil)⟩)⟩)⟩)⟩)⟩)⟩)⟩)⟩)⟩)⟩)⟩)⟩)⟩)⟩)⟩)⟩)⟩)⟩)⟩)⟩)⟩)⟩)⟩)⟩)
set_option maxRecDepth 20000 in
theorem hl_wsX11_seen_r4 : ∀ w ∈ wsX11_seen_r4, w ∈ lw_tbl := by
  unfold wsX11_seen_r4
  exact (List.forall_mem_cons.mpr ⟨wd_1040, (List.forall_mem_cons.mpr ⟨wd_543, (List.forall_mem_cons.mpr ⟨wd_542, (List.forall_mem_cons.mpr ⟨wd_362, (List.forall_mem_cons.mpr ⟨wd_541, (List.forall_mem_cons.mpr ⟨wd_540, (List.forall_mem_cons.mpr ⟨wd_578, (List.forall_mem_cons.mpr ⟨wd_577, (List.forall_mem_cons.mpr ⟨wd_360, (List.forall_mem_cons.mpr ⟨wd_576, (List.forall_mem_cons.mpr ⟨wd_575, (List.forall_mem_cons.mpr ⟨wd_574, (List.forall_mem_cons.mpr ⟨wd_573, (List.forall_mem_cons.mpr ⟨wd_1038, (List.forall_mem_cons.mpr ⟨wd_1037, (List.forall_mem_cons.mpr ⟨wd_1036, (List.forall_mem_cons.mpr ⟨wd_1035, (List.forall_mem_cons.mpr ⟨wd_1028, (List.forall_mem_cons.mpr ⟨wd_1043, (List.forall_mem_cons.mpr ⟨wd_1042, (List.forall_mem_cons.mpr ⟨wd_1041, (List.forall_mem_cons.mpr ⟨wd_571, (List.forall_mem_cons.mpr ⟨wd_570, (List.forall_mem_cons.mpr ⟨wd_569, (fun _ h => absurd h List.not_mem_nil)⟩)⟩)⟩)⟩)⟩)⟩)⟩)⟩)⟩)⟩)⟩)⟩)⟩)⟩)⟩)⟩)⟩)⟩)⟩)⟩)⟩)⟩)⟩)⟩)
set_option maxRecDepth 20000 in
theorem hl_wsX11_seen_r5 : ∀ w ∈ wsX11_seen_r5, w ∈ lw_tbl := by
  unfold wsX11_seen_r5
  exact (List.forall_mem_cons.mpr ⟨wd_568, (List.forall_mem_cons.mpr ⟨wd_567, (List.forall_mem_cons.mpr ⟨wd_566, (List.forall_mem_cons.mpr ⟨wd_565, (List.forall_mem_cons.mpr ⟨wd_564, (List.forall_mem_cons.mpr ⟨wd_563, (List.forall_mem_cons.mpr ⟨wd_562, (List.forall_mem_cons.mpr ⟨wd_561, (List.forall_mem_cons.mpr ⟨wd_560, (List.forall_mem_cons.mpr ⟨wd_559, (List.forall_mem_cons.mpr ⟨wd_602, (List.forall_mem_cons.mpr ⟨wd_601, (List.forall_mem_cons.mpr ⟨wd_600, (List.forall_mem_cons.mpr ⟨wd_599, (List.forall_mem_cons.mpr ⟨wd_598, (List.forall_mem_cons.mpr ⟨wd_597, (List.forall_mem_cons.mpr ⟨wd_596, (List.forall_mem_cons.mpr ⟨wd_595, (List.forall_mem_cons.mpr ⟨wd_594, (List.forall_mem_cons.mpr ⟨wd_593, (List.forall_mem_cons.mpr ⟨wd_592, (List.forall_mem_cons.mpr ⟨wd_591, (List.forall_mem_cons.mpr ⟨wd_590, (List.forall_mem_cons.mpr ⟨wd_589, (fun _ h => absurd h List.not_mem_nil)⟩)⟩)⟩)⟩)⟩)⟩)⟩)⟩)⟩)⟩)⟩)⟩)⟩)⟩)⟩)⟩)⟩)⟩)⟩)⟩)⟩)⟩)⟩)⟩)
theorem wd_1424 : Cond.fieldLink RX0 22 "OneOfEach$Clues" "common" "I" ∈ lw_tbl := mt_2 (List.mem_of_getElem? (i := 75) rfl)
theorem wd_1425 : Cond.fieldLink RX0 25 "OneOfEach$Clues" "outlook" "LOneOfEach$Outlook;" ∈ lw_tbl := mt_2 (List.mem_of_getElem? (i := 70) rfl)
theorem wd_1426 : Cond.fieldLink RX0 18 "OneOfEach$Clues" "sets" "I" ∈ lw_tbl := mt_2 (List.mem_of_getElem? (i := 73) rfl)
theorem wd_1427 : Cond.code yX0_gather cX0_gather 3 none ∈ lw_tbl := mt_5 (List.mem_of_getElem? (i := 142) rfl)
theorem wd_1428 : Cond.initialized RX0 ∈ lw_tbl := mt_1 (List.mem_of_getElem? (i := 9) rfl)
theorem wd_1429 : Cond.selects RX0 yX0_gather yX0_gather ∈ lw_tbl := mt_5 (List.mem_of_getElem? (i := 141) rfl)
theorem wd_1430 : Cond.instanceMethod yX0_gather ∈ lw_tbl := mt_5 (List.mem_of_getElem? (i := 140) rfl)
theorem wd_1431 : Cond.methodLink RX11 350 yX0_gather ∈ lw_tbl := mt_5 (List.mem_of_getElem? (i := 139) rfl)
set_option maxRecDepth 20000 in
theorem hl_wsX11_seen_r6 : ∀ w ∈ wsX11_seen_r6, w ∈ lw_tbl := by
  unfold wsX11_seen_r6
  exact (List.forall_mem_cons.mpr ⟨wd_588, (List.forall_mem_cons.mpr ⟨wd_587, (List.forall_mem_cons.mpr ⟨wd_586, (List.forall_mem_cons.mpr ⟨wd_585, (List.forall_mem_cons.mpr ⟨wd_584, (List.forall_mem_cons.mpr ⟨wd_583, (List.forall_mem_cons.mpr ⟨wd_582, (List.forall_mem_cons.mpr ⟨wd_581, (List.forall_mem_cons.mpr ⟨wd_580, (List.forall_mem_cons.mpr ⟨wd_579, (List.forall_mem_cons.mpr ⟨wd_608, (List.forall_mem_cons.mpr ⟨wd_607, (List.forall_mem_cons.mpr ⟨wd_606, (List.forall_mem_cons.mpr ⟨wd_605, (List.forall_mem_cons.mpr ⟨wd_604, (List.forall_mem_cons.mpr ⟨wd_603, (List.forall_mem_cons.mpr ⟨wd_1431, (List.forall_mem_cons.mpr ⟨wd_1430, (List.forall_mem_cons.mpr ⟨wd_1429, (List.forall_mem_cons.mpr ⟨wd_1428, (List.forall_mem_cons.mpr ⟨wd_1427, (List.forall_mem_cons.mpr ⟨wd_1426, (List.forall_mem_cons.mpr ⟨wd_1425, (List.forall_mem_cons.mpr ⟨wd_1424, (fun _ h => absurd h List.not_mem_nil)⟩)⟩)⟩)⟩)⟩)⟩)⟩)⟩)⟩)⟩)⟩)⟩)⟩)⟩)⟩)⟩)⟩)⟩)⟩)⟩)⟩)⟩)⟩)⟩)
theorem wd_1432 : Cond.methodLink RX0 48 yX5_pick ∈ lw_tbl := mt_5 (List.mem_of_getElem? (i := 153) rfl)
theorem wd_1433 : Cond.methodLink RX0 44 yX10_numberAt ∈ lw_tbl := mt_5 (List.mem_of_getElem? (i := 152) rfl)
theorem wd_1434 : Cond.methodLink RX0 39 yX10_size ∈ lw_tbl := mt_5 (List.mem_of_getElem? (i := 151) rfl)
theorem wd_1435 : Cond.code yX0_behind cX0_behind 7 (some .int) ∈ lw_tbl := mt_5 (List.mem_of_getElem? (i := 150) rfl)
theorem wd_1436 : Cond.selects RX0 yX0_behind yX0_behind ∈ lw_tbl := mp_3 (q := (⟨"OneOfEach$Clues", "behind", "(ILOneOfEach$Tray;)I"⟩, 5)) (List.mem_of_getElem? (i := 10) rfl)
theorem wd_1437 : Cond.instanceMethod yX0_behind ∈ lw_tbl := mt_5 (List.mem_of_getElem? (i := 149) rfl)
theorem wd_1438 : Cond.methodLink RX0 35 yX0_behind ∈ lw_tbl := mt_5 (List.mem_of_getElem? (i := 147) rfl)
theorem wd_1439 : Cond.code yX5_everyKind cX5_everyKind 1 (some .int) ∈ lw_tbl := mt_5 (List.mem_of_getElem? (i := 146) rfl)
theorem wd_1440 : Cond.selects RX5 yX5_everyKind yX5_everyKind ∈ lw_tbl := mt_5 (List.mem_of_getElem? (i := 145) rfl)
theorem wd_1441 : Cond.instanceMethod yX5_everyKind ∈ lw_tbl := mt_5 (List.mem_of_getElem? (i := 144) rfl)
theorem wd_1442 : Cond.methodLink RX0 29 yX5_everyKind ∈ lw_tbl := mt_5 (List.mem_of_getElem? (i := 143) rfl)
theorem wd_1443 : Cond.fieldLink RX0 9 "OneOfEach$Clues" "then" "[I" ∈ lw_tbl := mt_2 (List.mem_of_getElem? (i := 71) rfl)
set_option maxRecDepth 20000 in
theorem hl_wsX11_seen_r7 : ∀ w ∈ wsX11_seen_r7, w ∈ lw_tbl := by
  unfold wsX11_seen_r7
  exact (List.forall_mem_cons.mpr ⟨wd_1443, (List.forall_mem_cons.mpr ⟨wd_1442, (List.forall_mem_cons.mpr ⟨wd_1441, (List.forall_mem_cons.mpr ⟨wd_1440, (List.forall_mem_cons.mpr ⟨wd_1439, (List.forall_mem_cons.mpr ⟨wd_1438, (List.forall_mem_cons.mpr ⟨wd_1437, (List.forall_mem_cons.mpr ⟨wd_1436, (List.forall_mem_cons.mpr ⟨wd_1435, (List.forall_mem_cons.mpr ⟨wd_1434, (List.forall_mem_cons.mpr ⟨wd_1433, (List.forall_mem_cons.mpr ⟨wd_1432, (List.forall_mem_cons.mpr ⟨wd_1046, (List.forall_mem_cons.mpr ⟨wd_1045, (List.forall_mem_cons.mpr ⟨wd_1044, (fun _ h => absurd h List.not_mem_nil)⟩)⟩)⟩)⟩)⟩)⟩)⟩)⟩)⟩)⟩)⟩)⟩)⟩)⟩)⟩)
theorem wd_1444 : u_lay RX0 TX0 4 ∈ lw_tbl := mt_2 (List.mem_of_getElem? (i := 85) rfl)
theorem wd_1445 : u_lay RX0 TX0 3 ∈ lw_tbl := mt_2 (List.mem_of_getElem? (i := 83) rfl)
theorem wd_1446 : u_lay RX0 TX0 2 ∈ lw_tbl := mt_2 (List.mem_of_getElem? (i := 81) rfl)
theorem wd_1447 : u_lay RX0 TX0 1 ∈ lw_tbl := mt_2 (List.mem_of_getElem? (i := 79) rfl)
theorem wd_1448 : u_lay RX0 TX0 0 ∈ lw_tbl := mt_2 (List.mem_of_getElem? (i := 77) rfl)
set_option maxRecDepth 20000 in
theorem hl_wsX00 : ∀ w ∈ wsX00, w ∈ lw_tbl := show ∀ w ∈ [u_lay RX0 TX0 0, u_lay RX0 TX0 1, u_lay RX0 TX0 2, u_lay RX0 TX0 3, u_lay RX0 TX0 4], w ∈ lw_tbl from (List.forall_mem_cons.mpr ⟨wd_1448, (List.forall_mem_cons.mpr ⟨wd_1447, (List.forall_mem_cons.mpr ⟨wd_1446, (List.forall_mem_cons.mpr ⟨wd_1445, (List.forall_mem_cons.mpr ⟨wd_1444, (fun _ h => absurd h List.not_mem_nil)⟩)⟩)⟩)⟩)⟩)
set_option maxRecDepth 20000 in
theorem hl_wsX11_seen : ∀ w ∈ wsX11_seen, w ∈ lw_tbl := by
  unfold wsX11_seen
  exact (List.forall_mem_cons.mpr ⟨wd_1407, (List.forall_mem_append.mpr ⟨(List.forall_mem_append.mpr ⟨(List.forall_mem_append.mpr ⟨(List.forall_mem_append.mpr ⟨(List.forall_mem_append.mpr ⟨(List.forall_mem_append.mpr ⟨(List.forall_mem_append.mpr ⟨(List.forall_mem_append.mpr ⟨hl_wsX11_seen_r1, (List.forall_mem_append.mpr ⟨hl_wsX11_seen_r2, (List.forall_mem_append.mpr ⟨hl_wsX11_seen_r3, (List.forall_mem_append.mpr ⟨hl_wsX11_seen_r4, (List.forall_mem_append.mpr ⟨hl_wsX11_seen_r5, (List.forall_mem_append.mpr ⟨hl_wsX11_seen_r6, hl_wsX11_seen_r7⟩)⟩)⟩)⟩)⟩)⟩), hl_wsX110⟩), hl_wsX00⟩), hl_wsX100⟩), hl_wsX70⟩), hl_wsX90⟩), hl_wsX50⟩), hl_wsX40⟩)⟩)
theorem wd_1449 : Cond.selects RX12 yX12_seen yX12_seen ∈ lw_tbl := mt_8 (List.mem_of_getElem? (i := 114) rfl)
theorem wd_1450 : Cond.instanceMethod yX12_seen ∈ lw_tbl := mt_8 (List.mem_of_getElem? (i := 113) rfl)
theorem wd_1451 : Cond.methodLink RL 156 yX12_seen ∈ lw_tbl := mt_8 (List.mem_of_getElem? (i := 112) rfl)
theorem wd_1452 : Cond.code yX12_seen cX12_seen 3 (some .int) ∈ lw_tbl := mt_8 (List.mem_of_getElem? (i := 115) rfl)
theorem wd_1453 : Cond.constantLong RX12 433 (12) ∈ lw_tbl := mt_8 (List.mem_of_getElem? (i := 120) rfl)
theorem wd_1454 : Cond.code yX12_noSeen cX12_noSeen 6 (some .int) ∈ lw_tbl := mt_8 (List.mem_of_getElem? (i := 119) rfl)
theorem wd_1455 : Cond.selects RX12 yX12_noSeen yX12_noSeen ∈ lw_tbl := mp_8 (q := (⟨"OneOfEachModel", "noSeen", "(I)I"⟩, 32)) (List.mem_of_getElem? (i := 3) rfl)
theorem wd_1456 : Cond.instanceMethod yX12_noSeen ∈ lw_tbl := mt_8 (List.mem_of_getElem? (i := 118) rfl)
theorem wd_1457 : Cond.methodLink RX12 435 yX12_noSeen ∈ lw_tbl := mt_8 (List.mem_of_getElem? (i := 116) rfl)
set_option maxRecDepth 20000 in
theorem hl_wsX12_seen_r1 : ∀ w ∈ wsX12_seen_r1, w ∈ lw_tbl := by
  unfold wsX12_seen_r1
  exact (List.forall_mem_cons.mpr ⟨wd_34, (List.forall_mem_cons.mpr ⟨wd_1457, (List.forall_mem_cons.mpr ⟨wd_1456, (List.forall_mem_cons.mpr ⟨wd_1455, (List.forall_mem_cons.mpr ⟨wd_27, (List.forall_mem_cons.mpr ⟨wd_1454, (List.forall_mem_cons.mpr ⟨wd_952, (List.forall_mem_cons.mpr ⟨wd_1453, (List.forall_mem_cons.mpr ⟨wd_951, (List.forall_mem_cons.mpr ⟨wd_913, (List.forall_mem_cons.mpr ⟨wd_828, (List.forall_mem_cons.mpr ⟨wd_961, (List.forall_mem_cons.mpr ⟨wd_960, (List.forall_mem_cons.mpr ⟨wd_959, (List.forall_mem_cons.mpr ⟨wd_958, (List.forall_mem_cons.mpr ⟨wd_963, (List.forall_mem_cons.mpr ⟨wd_957, (List.forall_mem_cons.mpr ⟨wd_422, (List.forall_mem_cons.mpr ⟨wd_421, (List.forall_mem_cons.mpr ⟨wd_420, (List.forall_mem_cons.mpr ⟨wd_692, (List.forall_mem_cons.mpr ⟨wd_691, (List.forall_mem_cons.mpr ⟨wd_690, (List.forall_mem_cons.mpr ⟨wd_689, (fun _ h => absurd h List.not_mem_nil)⟩)⟩)⟩)⟩)⟩)⟩)⟩)⟩)⟩)⟩)⟩)⟩)⟩)⟩)⟩)⟩)⟩)⟩)⟩)⟩)⟩)⟩)⟩)⟩)
theorem wd_1458 : Cond.fieldLink RX12 61 "OneOfEachModel" "soldBehind" "[I" ∈ lw_tbl := mt_6 (List.mem_of_getElem? (i := 55) rfl)
theorem wd_1459 : Cond.code yX12_laysSeen cX12_laysSeen 8 (some .int) ∈ lw_tbl := mt_8 (List.mem_of_getElem? (i := 124) rfl)
theorem wd_1460 : Cond.selects RX12 yX12_laysSeen yX12_laysSeen ∈ lw_tbl := mp_8 (q := (⟨"OneOfEachModel", "laysSeen", "(I)I"⟩, 32)) (List.mem_of_getElem? (i := 4) rfl)
theorem wd_1461 : Cond.instanceMethod yX12_laysSeen ∈ lw_tbl := mt_8 (List.mem_of_getElem? (i := 123) rfl)
theorem wd_1462 : Cond.methodLink RX12 438 yX12_laysSeen ∈ lw_tbl := mt_8 (List.mem_of_getElem? (i := 121) rfl)
set_option maxRecDepth 20000 in
theorem hl_wsX12_seen_r2 : ∀ w ∈ wsX12_seen_r2, w ∈ lw_tbl := by
  unfold wsX12_seen_r2
  exact (List.forall_mem_cons.mpr ⟨wd_423, (List.forall_mem_cons.mpr ⟨wd_630, (List.forall_mem_cons.mpr ⟨wd_629, (List.forall_mem_cons.mpr ⟨wd_628, (List.forall_mem_cons.mpr ⟨wd_627, (List.forall_mem_cons.mpr ⟨wd_1462, (List.forall_mem_cons.mpr ⟨wd_1461, (List.forall_mem_cons.mpr ⟨wd_1460, (List.forall_mem_cons.mpr ⟨wd_1459, (List.forall_mem_cons.mpr ⟨wd_1458, (List.forall_mem_cons.mpr ⟨wd_1087, (List.forall_mem_cons.mpr ⟨wd_1086, (List.forall_mem_cons.mpr ⟨wd_1085, (List.forall_mem_cons.mpr ⟨wd_1084, (List.forall_mem_cons.mpr ⟨wd_1083, (List.forall_mem_cons.mpr ⟨wd_648, (List.forall_mem_cons.mpr ⟨wd_647, (List.forall_mem_cons.mpr ⟨wd_646, (List.forall_mem_cons.mpr ⟨wd_645, (List.forall_mem_cons.mpr ⟨wd_618, (List.forall_mem_cons.mpr ⟨wd_617, (List.forall_mem_cons.mpr ⟨wd_616, (List.forall_mem_cons.mpr ⟨wd_615, (List.forall_mem_cons.mpr ⟨wd_614, (fun _ h => absurd h List.not_mem_nil)⟩)⟩)⟩)⟩)⟩)⟩)⟩)⟩)⟩)⟩)⟩)⟩)⟩)⟩)⟩)⟩)⟩)⟩)⟩)⟩)⟩)⟩)⟩)⟩)
set_option maxRecDepth 20000 in
theorem hl_wsX12_seen_r3 : ∀ w ∈ wsX12_seen_r3, w ∈ lw_tbl := by
  unfold wsX12_seen_r3
  exact (List.forall_mem_cons.mpr ⟨wd_613, (List.forall_mem_cons.mpr ⟨wd_654, (List.forall_mem_cons.mpr ⟨wd_653, (List.forall_mem_cons.mpr ⟨wd_652, (List.forall_mem_cons.mpr ⟨wd_651, (List.forall_mem_cons.mpr ⟨wd_650, (List.forall_mem_cons.mpr ⟨wd_649, (List.forall_mem_cons.mpr ⟨wd_644, (List.forall_mem_cons.mpr ⟨wd_643, (List.forall_mem_cons.mpr ⟨wd_642, (List.forall_mem_cons.mpr ⟨wd_641, (List.forall_mem_cons.mpr ⟨wd_640, (List.forall_mem_cons.mpr ⟨wd_639, (List.forall_mem_cons.mpr ⟨wd_638, (List.forall_mem_cons.mpr ⟨wd_637, (List.forall_mem_cons.mpr ⟨wd_636, (List.forall_mem_cons.mpr ⟨wd_635, (List.forall_mem_cons.mpr ⟨wd_634, (List.forall_mem_cons.mpr ⟨wd_633, (List.forall_mem_cons.mpr ⟨wd_632, (List.forall_mem_cons.mpr ⟨wd_631, (List.forall_mem_cons.mpr ⟨wd_665, (List.forall_mem_cons.mpr ⟨wd_664, (List.forall_mem_cons.mpr ⟨wd_663, (fun _ h => absurd h List.not_mem_nil)⟩)⟩)⟩)⟩)⟩)⟩)⟩)⟩)⟩)⟩)⟩)⟩)⟩)⟩)⟩)⟩)⟩)⟩)⟩)⟩)⟩)⟩)⟩)⟩)
set_option maxRecDepth 20000 in
theorem hl_wsX12_seen_r4 : ∀ w ∈ wsX12_seen_r4, w ∈ lw_tbl := by
  unfold wsX12_seen_r4
  exact (List.forall_mem_cons.mpr ⟨wd_662, (List.forall_mem_cons.mpr ⟨wd_661, (List.forall_mem_cons.mpr ⟨wd_660, (List.forall_mem_cons.mpr ⟨wd_659, (List.forall_mem_cons.mpr ⟨wd_658, (List.forall_mem_cons.mpr ⟨wd_657, (List.forall_mem_cons.mpr ⟨wd_656, (List.forall_mem_cons.mpr ⟨wd_655, (List.forall_mem_cons.mpr ⟨wd_1095, (List.forall_mem_cons.mpr ⟨wd_1094, (List.forall_mem_cons.mpr ⟨wd_1093, (List.forall_mem_cons.mpr ⟨wd_1092, (fun _ h => absurd h List.not_mem_nil)⟩)⟩)⟩)⟩)⟩)⟩)⟩)⟩)⟩)⟩)⟩)⟩)
set_option maxRecDepth 20000 in
theorem hl_wsX12_seen : ∀ w ∈ wsX12_seen, w ∈ lw_tbl := by
  unfold wsX12_seen
  exact (List.forall_mem_cons.mpr ⟨wd_1452, (List.forall_mem_append.mpr ⟨(List.forall_mem_append.mpr ⟨hl_wsX12_seen_r1, (List.forall_mem_append.mpr ⟨hl_wsX12_seen_r2, (List.forall_mem_append.mpr ⟨hl_wsX12_seen_r3, hl_wsX12_seen_r4⟩)⟩)⟩), hl_wsX120⟩)⟩)
def tL_seen : List Cond := (wsV RL 153 RX11 yX11_seen wsX11_seen) ++ (wsV RL 156 RX12 yX12_seen wsX12_seen)
theorem tL_seen_in : ∀ w ∈ tL_seen, w ∈ lw_tbl := by
  unfold tL_seen
  exact (List.forall_mem_append.mpr ⟨(List.forall_mem_append.mpr ⟨(List.forall_mem_cons.mpr ⟨wd_1406, (List.forall_mem_cons.mpr ⟨wd_1405, (List.forall_mem_cons.mpr ⟨wd_1404, (List.forall_mem_cons.mpr ⟨wd_0, (fun _ h => absurd h List.not_mem_nil)⟩)⟩)⟩)⟩), hl_wsX11_seen⟩), (List.forall_mem_append.mpr ⟨(List.forall_mem_cons.mpr ⟨wd_1451, (List.forall_mem_cons.mpr ⟨wd_1450, (List.forall_mem_cons.mpr ⟨wd_1449, (List.forall_mem_cons.mpr ⟨wd_27, (fun _ h => absurd h List.not_mem_nil)⟩)⟩)⟩)⟩), hl_wsX12_seen⟩)⟩)
set_option maxRecDepth 20000 in
theorem tL_seen_x : GoodIn tL_seen (wsV RL 153 RX11 yX11_seen wsX11_seen) := fun w h => ⟨List.mem_append_left _ h, good_of_word (List.all_eq_true.mp (show (wsV RL 153 RX11 yX11_seen wsX11_seen).all goodWord = true by decide +kernel) w h)⟩
set_option maxRecDepth 20000 in
theorem tL_seen_m : GoodIn tL_seen (wsV RL 156 RX12 yX12_seen wsX12_seen) := fun w h => ⟨List.mem_append_right _ h, good_of_word (List.all_eq_true.mp (show (wsV RL 156 RX12 yX12_seen wsX12_seen).all goodWord = true by decide +kernel) w h)⟩
theorem hdLX11_seen : yX11_seen.cls = RX11 ∧ yX11_seen.cls ≠ "java/lang/invoke/MethodHandle" ∧ yX11_seen.cls ≠ "java/lang/invoke/VarHandle" ∧ (parseMethodDescriptor yX11_seen.desc).map (fun d => d.parameters.length) = some 1 := by decide +kernel
theorem hdLX12_seen : yX12_seen.cls = RX12 ∧ yX12_seen.cls ≠ "java/lang/invoke/MethodHandle" ∧ yX12_seen.cls ≠ "java/lang/invoke/VarHandle" ∧ (parseMethodDescriptor yX12_seen.desc).map (fun d => d.parameters.length) = some 1 := by decide +kernel
theorem wd_1463 : Cond.selects RX11 yX11_sureGone yX11_sureGone ∈ lw_tbl := mt_5 (List.mem_of_getElem? (i := 156) rfl)
theorem wd_1464 : Cond.instanceMethod yX11_sureGone ∈ lw_tbl := mt_5 (List.mem_of_getElem? (i := 155) rfl)
theorem wd_1465 : Cond.methodLink RL 157 yX11_sureGone ∈ lw_tbl := mt_5 (List.mem_of_getElem? (i := 154) rfl)
theorem wd_1466 : Cond.code yX11_sureGone cX11_sureGone 3 (some .int) ∈ lw_tbl := mt_5 (List.mem_of_getElem? (i := 157) rfl)
theorem wd_1467 : Cond.fieldLink RX11 357 "OneOfEach$Clues" "common" "I" ∈ lw_tbl := mt_2 (List.mem_of_getElem? (i := 76) rfl)
set_option maxRecDepth 20000 in
theorem hl_wsX11_sureGone_r1 : ∀ w ∈ wsX11_sureGone_r1, w ∈ lw_tbl := by
  unfold wsX11_sureGone_r1
  exact (List.forall_mem_cons.mpr ⟨wd_1034, (List.forall_mem_cons.mpr ⟨wd_85, (List.forall_mem_cons.mpr ⟨wd_84, (List.forall_mem_cons.mpr ⟨wd_1413, (List.forall_mem_cons.mpr ⟨wd_929, (List.forall_mem_cons.mpr ⟨wd_1412, (List.forall_mem_cons.mpr ⟨wd_1467, (List.forall_mem_cons.mpr ⟨wd_1411, (List.forall_mem_cons.mpr ⟨wd_1410, (List.forall_mem_cons.mpr ⟨wd_1409, (List.forall_mem_cons.mpr ⟨wd_0, (List.forall_mem_cons.mpr ⟨wd_1408, (List.forall_mem_cons.mpr ⟨wd_990, (List.forall_mem_cons.mpr ⟨wd_989, (List.forall_mem_cons.mpr ⟨wd_988, (List.forall_mem_cons.mpr ⟨wd_987, (List.forall_mem_cons.mpr ⟨wd_926, (List.forall_mem_cons.mpr ⟨wd_925, (List.forall_mem_cons.mpr ⟨wd_924, (List.forall_mem_cons.mpr ⟨wd_923, (List.forall_mem_cons.mpr ⟨wd_922, (List.forall_mem_cons.mpr ⟨wd_921, (List.forall_mem_cons.mpr ⟨wd_920, (List.forall_mem_cons.mpr ⟨wd_919, (fun _ h => absurd h List.not_mem_nil)⟩)⟩)⟩)⟩)⟩)⟩)⟩)⟩)⟩)⟩)⟩)⟩)⟩)⟩)⟩)⟩)⟩)⟩)⟩)⟩)⟩)⟩)⟩)⟩)
set_option maxRecDepth 20000 in
theorem hl_wsX11_sureGone_r2 : ∀ w ∈ wsX11_sureGone_r2, w ∈ lw_tbl := by
  unfold wsX11_sureGone_r2
  exact (List.forall_mem_cons.mpr ⟨wd_918, (List.forall_mem_cons.mpr ⟨wd_940, (List.forall_mem_cons.mpr ⟨wd_939, (List.forall_mem_cons.mpr ⟨wd_938, (List.forall_mem_cons.mpr ⟨wd_937, (List.forall_mem_cons.mpr ⟨wd_936, (List.forall_mem_cons.mpr ⟨wd_134, (List.forall_mem_cons.mpr ⟨wd_133, (List.forall_mem_cons.mpr ⟨wd_132, (List.forall_mem_cons.mpr ⟨wd_935, (List.forall_mem_cons.mpr ⟨wd_934, (List.forall_mem_cons.mpr ⟨wd_933, (List.forall_mem_cons.mpr ⟨wd_932, (List.forall_mem_cons.mpr ⟨wd_931, (List.forall_mem_cons.mpr ⟨wd_930, (List.forall_mem_cons.mpr ⟨wd_943, (List.forall_mem_cons.mpr ⟨wd_942, (List.forall_mem_cons.mpr ⟨wd_941, (List.forall_mem_cons.mpr ⟨wd_1418, (List.forall_mem_cons.mpr ⟨wd_1417, (List.forall_mem_cons.mpr ⟨wd_1416, (List.forall_mem_cons.mpr ⟨wd_1415, (List.forall_mem_cons.mpr ⟨wd_1302, (List.forall_mem_cons.mpr ⟨wd_545, (fun _ h => absurd h List.not_mem_nil)⟩)⟩)⟩)⟩)⟩)⟩)⟩)⟩)⟩)⟩)⟩)⟩)⟩)⟩)⟩)⟩)⟩)⟩)⟩)⟩)⟩)⟩)⟩)⟩)
set_option maxRecDepth 20000 in
theorem hl_wsX11_sureGone_r3 : ∀ w ∈ wsX11_sureGone_r3, w ∈ lw_tbl := by
  unfold wsX11_sureGone_r3
  exact (List.forall_mem_cons.mpr ⟨wd_1414, (List.forall_mem_cons.mpr ⟨wd_550, (List.forall_mem_cons.mpr ⟨wd_1423, (List.forall_mem_cons.mpr ⟨wd_1422, (List.forall_mem_cons.mpr ⟨wd_1421, (List.forall_mem_cons.mpr ⟨wd_1030, (List.forall_mem_cons.mpr ⟨wd_1420, (List.forall_mem_cons.mpr ⟨wd_1419, (List.forall_mem_cons.mpr ⟨wd_1026, (List.forall_mem_cons.mpr ⟨wd_1025, (List.forall_mem_cons.mpr ⟨wd_1024, (List.forall_mem_cons.mpr ⟨wd_1023, (List.forall_mem_cons.mpr ⟨wd_1022, (List.forall_mem_cons.mpr ⟨wd_1021, (List.forall_mem_cons.mpr ⟨wd_1020, (List.forall_mem_cons.mpr ⟨wd_1019, (List.forall_mem_cons.mpr ⟨wd_1018, (List.forall_mem_cons.mpr ⟨wd_1027, (List.forall_mem_cons.mpr ⟨wd_1017, (List.forall_mem_cons.mpr ⟨wd_1016, (List.forall_mem_cons.mpr ⟨wd_744, (List.forall_mem_cons.mpr ⟨wd_743, (List.forall_mem_cons.mpr ⟨wd_102, (List.forall_mem_cons.mpr ⟨wd_742, (fun _ h => absurd h List.not_mem_nil)⟩)⟩)⟩)⟩)⟩)⟩)⟩)⟩)⟩)⟩)⟩)⟩)⟩)⟩)⟩)⟩)⟩)⟩)⟩)⟩)⟩)⟩)⟩)⟩)
set_option maxRecDepth 20000 in
theorem hl_wsX11_sureGone_r4 : ∀ w ∈ wsX11_sureGone_r4, w ∈ lw_tbl := by
  unfold wsX11_sureGone_r4
  exact (List.forall_mem_cons.mpr ⟨wd_100, (List.forall_mem_cons.mpr ⟨wd_1040, (List.forall_mem_cons.mpr ⟨wd_543, (List.forall_mem_cons.mpr ⟨wd_542, (List.forall_mem_cons.mpr ⟨wd_362, (List.forall_mem_cons.mpr ⟨wd_541, (List.forall_mem_cons.mpr ⟨wd_540, (List.forall_mem_cons.mpr ⟨wd_578, (List.forall_mem_cons.mpr ⟨wd_577, (List.forall_mem_cons.mpr ⟨wd_360, (List.forall_mem_cons.mpr ⟨wd_576, (List.forall_mem_cons.mpr ⟨wd_575, (List.forall_mem_cons.mpr ⟨wd_574, (List.forall_mem_cons.mpr ⟨wd_573, (List.forall_mem_cons.mpr ⟨wd_1038, (List.forall_mem_cons.mpr ⟨wd_1037, (List.forall_mem_cons.mpr ⟨wd_1036, (List.forall_mem_cons.mpr ⟨wd_1035, (List.forall_mem_cons.mpr ⟨wd_1028, (List.forall_mem_cons.mpr ⟨wd_1043, (List.forall_mem_cons.mpr ⟨wd_1042, (List.forall_mem_cons.mpr ⟨wd_1041, (List.forall_mem_cons.mpr ⟨wd_571, (List.forall_mem_cons.mpr ⟨wd_570, (fun _ h => absurd h List.not_mem_nil)⟩)⟩)⟩)⟩)⟩)⟩)⟩)⟩)⟩)⟩)⟩)⟩)⟩)⟩)⟩)⟩)⟩)⟩)⟩)⟩)⟩)⟩)⟩)⟩)
set_option maxRecDepth 20000 in
theorem hl_wsX11_sureGone_r5 : ∀ w ∈ wsX11_sureGone_r5, w ∈ lw_tbl := by
  unfold wsX11_sureGone_r5
  exact (List.forall_mem_cons.mpr ⟨wd_569, (List.forall_mem_cons.mpr ⟨wd_568, (List.forall_mem_cons.mpr ⟨wd_567, (List.forall_mem_cons.mpr ⟨wd_566, (List.forall_mem_cons.mpr ⟨wd_565, (List.forall_mem_cons.mpr ⟨wd_564, (List.forall_mem_cons.mpr ⟨wd_563, (List.forall_mem_cons.mpr ⟨wd_562, (List.forall_mem_cons.mpr ⟨wd_561, (List.forall_mem_cons.mpr ⟨wd_560, (List.forall_mem_cons.mpr ⟨wd_559, (List.forall_mem_cons.mpr ⟨wd_602, (List.forall_mem_cons.mpr ⟨wd_601, (List.forall_mem_cons.mpr ⟨wd_600, (List.forall_mem_cons.mpr ⟨wd_599, (List.forall_mem_cons.mpr ⟨wd_598, (List.forall_mem_cons.mpr ⟨wd_597, (List.forall_mem_cons.mpr ⟨wd_596, (List.forall_mem_cons.mpr ⟨wd_595, (List.forall_mem_cons.mpr ⟨wd_594, (List.forall_mem_cons.mpr ⟨wd_593, (List.forall_mem_cons.mpr ⟨wd_592, (List.forall_mem_cons.mpr ⟨wd_591, (List.forall_mem_cons.mpr ⟨wd_590, (fun _ h => absurd h List.not_mem_nil)⟩)⟩)⟩)⟩)⟩)⟩)⟩)⟩)⟩)⟩)⟩)⟩)⟩)⟩)⟩)⟩)⟩)⟩)⟩)⟩)⟩)⟩)⟩)⟩)
set_option maxRecDepth 20000 in
theorem hl_wsX11_sureGone_r6 : ∀ w ∈ wsX11_sureGone_r6, w ∈ lw_tbl := by
  unfold wsX11_sureGone_r6
  exact (List.forall_mem_cons.mpr ⟨wd_589, (List.forall_mem_cons.mpr ⟨wd_588, (List.forall_mem_cons.mpr ⟨wd_587, (List.forall_mem_cons.mpr ⟨wd_586, (List.forall_mem_cons.mpr ⟨wd_585, (List.forall_mem_cons.mpr ⟨wd_584, (List.forall_mem_cons.mpr ⟨wd_583, (List.forall_mem_cons.mpr ⟨wd_582, (List.forall_mem_cons.mpr ⟨wd_581, (List.forall_mem_cons.mpr ⟨wd_580, (List.forall_mem_cons.mpr ⟨wd_579, (List.forall_mem_cons.mpr ⟨wd_608, (List.forall_mem_cons.mpr ⟨wd_607, (List.forall_mem_cons.mpr ⟨wd_606, (List.forall_mem_cons.mpr ⟨wd_605, (List.forall_mem_cons.mpr ⟨wd_604, (List.forall_mem_cons.mpr ⟨wd_603, (List.forall_mem_cons.mpr ⟨wd_1431, (List.forall_mem_cons.mpr ⟨wd_1430, (List.forall_mem_cons.mpr ⟨wd_1429, (List.forall_mem_cons.mpr ⟨wd_1428, (List.forall_mem_cons.mpr ⟨wd_1427, (List.forall_mem_cons.mpr ⟨wd_1426, (List.forall_mem_cons.mpr ⟨wd_1425, (fun _ h => absurd h List.not_mem_nil)⟩)⟩)⟩)⟩)⟩)⟩)⟩)⟩)⟩)⟩)⟩)⟩)⟩)⟩)⟩)⟩)⟩)⟩)⟩)⟩)⟩)⟩)⟩)⟩)
set_option maxRecDepth 20000 in
theorem hl_wsX11_sureGone_r7 : ∀ w ∈ wsX11_sureGone_r7, w ∈ lw_tbl := by
  unfold wsX11_sureGone_r7
  exact (List.forall_mem_cons.mpr ⟨wd_1424, (List.forall_mem_cons.mpr ⟨wd_1443, (List.forall_mem_cons.mpr ⟨wd_1442, (List.forall_mem_cons.mpr ⟨wd_1441, (List.forall_mem_cons.mpr ⟨wd_1440, (List.forall_mem_cons.mpr ⟨wd_1439, (List.forall_mem_cons.mpr ⟨wd_1438, (List.forall_mem_cons.mpr ⟨wd_1437, (List.forall_mem_cons.mpr ⟨wd_1436, (List.forall_mem_cons.mpr ⟨wd_1435, (List.forall_mem_cons.mpr ⟨wd_1434, (List.forall_mem_cons.mpr ⟨wd_1433, (List.forall_mem_cons.mpr ⟨wd_1432, (List.forall_mem_cons.mpr ⟨wd_1046, (List.forall_mem_cons.mpr ⟨wd_1045, (List.forall_mem_cons.mpr ⟨wd_1044, (fun _ h => absurd h List.not_mem_nil)⟩)⟩)⟩)⟩)⟩)⟩)⟩)⟩)⟩)⟩)⟩)⟩)⟩)⟩)⟩)⟩)
set_option maxRecDepth 20000 in
theorem hl_wsX11_sureGone : ∀ w ∈ wsX11_sureGone, w ∈ lw_tbl := by
  unfold wsX11_sureGone
  exact (List.forall_mem_cons.mpr ⟨wd_1466, (List.forall_mem_append.mpr ⟨(List.forall_mem_append.mpr ⟨(List.forall_mem_append.mpr ⟨(List.forall_mem_append.mpr ⟨(List.forall_mem_append.mpr ⟨(List.forall_mem_append.mpr ⟨(List.forall_mem_append.mpr ⟨(List.forall_mem_append.mpr ⟨hl_wsX11_sureGone_r1, (List.forall_mem_append.mpr ⟨hl_wsX11_sureGone_r2, (List.forall_mem_append.mpr ⟨hl_wsX11_sureGone_r3, (List.forall_mem_append.mpr ⟨hl_wsX11_sureGone_r4, (List.forall_mem_append.mpr ⟨hl_wsX11_sureGone_r5, (List.forall_mem_append.mpr ⟨hl_wsX11_sureGone_r6, hl_wsX11_sureGone_r7⟩)⟩)⟩)⟩)⟩)⟩), hl_wsX110⟩), hl_wsX00⟩), hl_wsX100⟩), hl_wsX70⟩), hl_wsX90⟩), hl_wsX50⟩), hl_wsX40⟩)⟩)
theorem wd_1468 : Cond.selects RX12 yX12_sureGone yX12_sureGone ∈ lw_tbl := mt_8 (List.mem_of_getElem? (i := 127) rfl)
theorem wd_1469 : Cond.instanceMethod yX12_sureGone ∈ lw_tbl := mt_8 (List.mem_of_getElem? (i := 126) rfl)
theorem wd_1470 : Cond.methodLink RL 160 yX12_sureGone ∈ lw_tbl := mt_8 (List.mem_of_getElem? (i := 125) rfl)
theorem wd_1471 : Cond.code yX12_sureGone cX12_sureGone 5 (some .int) ∈ lw_tbl := mt_8 (List.mem_of_getElem? (i := 128) rfl)
set_option maxRecDepth 20000 in
theorem hl_wsX12_sureGone_r1 : ∀ w ∈ wsX12_sureGone_r1, w ∈ lw_tbl := by
  unfold wsX12_sureGone_r1
  exact (List.forall_mem_cons.mpr ⟨wd_34, (List.forall_mem_cons.mpr ⟨wd_1458, (List.forall_mem_cons.mpr ⟨wd_1457, (List.forall_mem_cons.mpr ⟨wd_1456, (List.forall_mem_cons.mpr ⟨wd_1455, (List.forall_mem_cons.mpr ⟨wd_27, (List.forall_mem_cons.mpr ⟨wd_1454, (List.forall_mem_cons.mpr ⟨wd_952, (List.forall_mem_cons.mpr ⟨wd_1453, (List.forall_mem_cons.mpr ⟨wd_951, (List.forall_mem_cons.mpr ⟨wd_913, (List.forall_mem_cons.mpr ⟨wd_828, (List.forall_mem_cons.mpr ⟨wd_961, (List.forall_mem_cons.mpr ⟨wd_960, (List.forall_mem_cons.mpr ⟨wd_959, (List.forall_mem_cons.mpr ⟨wd_958, (List.forall_mem_cons.mpr ⟨wd_963, (List.forall_mem_cons.mpr ⟨wd_957, (List.forall_mem_cons.mpr ⟨wd_422, (List.forall_mem_cons.mpr ⟨wd_421, (List.forall_mem_cons.mpr ⟨wd_420, (List.forall_mem_cons.mpr ⟨wd_692, (List.forall_mem_cons.mpr ⟨wd_691, (List.forall_mem_cons.mpr ⟨wd_690, (fun _ h => absurd h List.not_mem_nil)⟩)⟩)⟩)⟩)⟩)⟩)⟩)⟩)⟩)⟩)⟩)⟩)⟩)⟩)⟩)⟩)⟩)⟩)⟩)⟩)⟩)⟩)⟩)⟩)
set_option maxRecDepth 20000 in
theorem hl_wsX12_sureGone_r2 : ∀ w ∈ wsX12_sureGone_r2, w ∈ lw_tbl := by
  unfold wsX12_sureGone_r2
  exact (List.forall_mem_cons.mpr ⟨wd_689, (List.forall_mem_cons.mpr ⟨wd_423, (List.forall_mem_cons.mpr ⟨wd_630, (List.forall_mem_cons.mpr ⟨wd_629, (List.forall_mem_cons.mpr ⟨wd_628, (List.forall_mem_cons.mpr ⟨wd_627, (List.forall_mem_cons.mpr ⟨wd_1462, (List.forall_mem_cons.mpr ⟨wd_1461, (List.forall_mem_cons.mpr ⟨wd_1460, (List.forall_mem_cons.mpr ⟨wd_1459, (List.forall_mem_cons.mpr ⟨wd_1087, (List.forall_mem_cons.mpr ⟨wd_1086, (List.forall_mem_cons.mpr ⟨wd_1085, (List.forall_mem_cons.mpr ⟨wd_1084, (List.forall_mem_cons.mpr ⟨wd_1083, (List.forall_mem_cons.mpr ⟨wd_648, (List.forall_mem_cons.mpr ⟨wd_647, (List.forall_mem_cons.mpr ⟨wd_646, (List.forall_mem_cons.mpr ⟨wd_645, (List.forall_mem_cons.mpr ⟨wd_618, (List.forall_mem_cons.mpr ⟨wd_617, (List.forall_mem_cons.mpr ⟨wd_616, (List.forall_mem_cons.mpr ⟨wd_615, (List.forall_mem_cons.mpr ⟨wd_614, (fun _ h => absurd h List.not_mem_nil)⟩)⟩)⟩)⟩)⟩)⟩)⟩)⟩)⟩)⟩)⟩)⟩)⟩)⟩)⟩)⟩)⟩)⟩)⟩)⟩)⟩)⟩)⟩)⟩)
set_option maxRecDepth 20000 in
theorem hl_wsX12_sureGone_r3 : ∀ w ∈ wsX12_sureGone_r3, w ∈ lw_tbl := by
  unfold wsX12_sureGone_r3
  exact (List.forall_mem_cons.mpr ⟨wd_613, (List.forall_mem_cons.mpr ⟨wd_654, (List.forall_mem_cons.mpr ⟨wd_653, (List.forall_mem_cons.mpr ⟨wd_652, (List.forall_mem_cons.mpr ⟨wd_651, (List.forall_mem_cons.mpr ⟨wd_650, (List.forall_mem_cons.mpr ⟨wd_649, (List.forall_mem_cons.mpr ⟨wd_644, (List.forall_mem_cons.mpr ⟨wd_643, (List.forall_mem_cons.mpr ⟨wd_642, (List.forall_mem_cons.mpr ⟨wd_641, (List.forall_mem_cons.mpr ⟨wd_640, (List.forall_mem_cons.mpr ⟨wd_639, (List.forall_mem_cons.mpr ⟨wd_638, (List.forall_mem_cons.mpr ⟨wd_637, (List.forall_mem_cons.mpr ⟨wd_636, (List.forall_mem_cons.mpr ⟨wd_635, (List.forall_mem_cons.mpr ⟨wd_634, (List.forall_mem_cons.mpr ⟨wd_633, (List.forall_mem_cons.mpr ⟨wd_632, (List.forall_mem_cons.mpr ⟨wd_631, (List.forall_mem_cons.mpr ⟨wd_665, (List.forall_mem_cons.mpr ⟨wd_664, (List.forall_mem_cons.mpr ⟨wd_663, (fun _ h => absurd h List.not_mem_nil)⟩)⟩)⟩)⟩)⟩)⟩)⟩)⟩)⟩)⟩)⟩)⟩)⟩)⟩)⟩)⟩)⟩)⟩)⟩)⟩)⟩)⟩)⟩)⟩)
set_option maxRecDepth 20000 in
theorem hl_wsX12_sureGone_r4 : ∀ w ∈ wsX12_sureGone_r4, w ∈ lw_tbl := by
  unfold wsX12_sureGone_r4
  exact (List.forall_mem_cons.mpr ⟨wd_662, (List.forall_mem_cons.mpr ⟨wd_661, (List.forall_mem_cons.mpr ⟨wd_660, (List.forall_mem_cons.mpr ⟨wd_659, (List.forall_mem_cons.mpr ⟨wd_658, (List.forall_mem_cons.mpr ⟨wd_657, (List.forall_mem_cons.mpr ⟨wd_656, (List.forall_mem_cons.mpr ⟨wd_655, (List.forall_mem_cons.mpr ⟨wd_1095, (List.forall_mem_cons.mpr ⟨wd_1094, (List.forall_mem_cons.mpr ⟨wd_1093, (List.forall_mem_cons.mpr ⟨wd_1092, (fun _ h => absurd h List.not_mem_nil)⟩)⟩)⟩)⟩)⟩)⟩)⟩)⟩)⟩)⟩)⟩)⟩)
set_option maxRecDepth 20000 in
theorem hl_wsX12_sureGone : ∀ w ∈ wsX12_sureGone, w ∈ lw_tbl := by
  unfold wsX12_sureGone
  exact (List.forall_mem_cons.mpr ⟨wd_1471, (List.forall_mem_append.mpr ⟨(List.forall_mem_append.mpr ⟨hl_wsX12_sureGone_r1, (List.forall_mem_append.mpr ⟨hl_wsX12_sureGone_r2, (List.forall_mem_append.mpr ⟨hl_wsX12_sureGone_r3, hl_wsX12_sureGone_r4⟩)⟩)⟩), hl_wsX120⟩)⟩)
def tL_sureGone : List Cond := (wsV RL 157 RX11 yX11_sureGone wsX11_sureGone) ++ (wsV RL 160 RX12 yX12_sureGone wsX12_sureGone)
theorem tL_sureGone_in : ∀ w ∈ tL_sureGone, w ∈ lw_tbl := by
  unfold tL_sureGone
  exact (List.forall_mem_append.mpr ⟨(List.forall_mem_append.mpr ⟨(List.forall_mem_cons.mpr ⟨wd_1465, (List.forall_mem_cons.mpr ⟨wd_1464, (List.forall_mem_cons.mpr ⟨wd_1463, (List.forall_mem_cons.mpr ⟨wd_0, (fun _ h => absurd h List.not_mem_nil)⟩)⟩)⟩)⟩), hl_wsX11_sureGone⟩), (List.forall_mem_append.mpr ⟨(List.forall_mem_cons.mpr ⟨wd_1470, (List.forall_mem_cons.mpr ⟨wd_1469, (List.forall_mem_cons.mpr ⟨wd_1468, (List.forall_mem_cons.mpr ⟨wd_27, (fun _ h => absurd h List.not_mem_nil)⟩)⟩)⟩)⟩), hl_wsX12_sureGone⟩)⟩)
set_option maxRecDepth 20000 in
theorem tL_sureGone_x : GoodIn tL_sureGone (wsV RL 157 RX11 yX11_sureGone wsX11_sureGone) := fun w h => ⟨List.mem_append_left _ h, good_of_word (List.all_eq_true.mp (show (wsV RL 157 RX11 yX11_sureGone wsX11_sureGone).all goodWord = true by decide +kernel) w h)⟩
set_option maxRecDepth 20000 in
theorem tL_sureGone_m : GoodIn tL_sureGone (wsV RL 160 RX12 yX12_sureGone wsX12_sureGone) := fun w h => ⟨List.mem_append_right _ h, good_of_word (List.all_eq_true.mp (show (wsV RL 160 RX12 yX12_sureGone wsX12_sureGone).all goodWord = true by decide +kernel) w h)⟩
theorem hdLX11_sureGone : yX11_sureGone.cls = RX11 ∧ yX11_sureGone.cls ≠ "java/lang/invoke/MethodHandle" ∧ yX11_sureGone.cls ≠ "java/lang/invoke/VarHandle" ∧ (parseMethodDescriptor yX11_sureGone.desc).map (fun d => d.parameters.length) = some 1 := by decide +kernel
theorem hdLX12_sureGone : yX12_sureGone.cls = RX12 ∧ yX12_sureGone.cls ≠ "java/lang/invoke/MethodHandle" ∧ yX12_sureGone.cls ≠ "java/lang/invoke/VarHandle" ∧ (parseMethodDescriptor yX12_sureGone.desc).map (fun d => d.parameters.length) = some 1 := by decide +kernel
theorem wd_1472 : Cond.selects RX11 yX11_ask yX11_ask ∈ lw_tbl := mt_5 (List.mem_of_getElem? (i := 160) rfl)
theorem wd_1473 : Cond.instanceMethod yX11_ask ∈ lw_tbl := mt_5 (List.mem_of_getElem? (i := 159) rfl)
theorem wd_1474 : Cond.methodLink RL 161 yX11_ask ∈ lw_tbl := mt_5 (List.mem_of_getElem? (i := 158) rfl)
theorem wd_1475 : Cond.code yX11_ask cX11_ask 3 (some .int) ∈ lw_tbl := mt_5 (List.mem_of_getElem? (i := 161) rfl)
set_option maxRecDepth 20000 in
theorem hl_wsX11_ask_r1 : ∀ w ∈ wsX11_ask_r1, w ∈ lw_tbl := by
  unfold wsX11_ask_r1
  exact (List.forall_mem_cons.mpr ⟨wd_1034, (List.forall_mem_cons.mpr ⟨wd_85, (List.forall_mem_cons.mpr ⟨wd_84, (List.forall_mem_cons.mpr ⟨wd_1413, (List.forall_mem_cons.mpr ⟨wd_929, (List.forall_mem_cons.mpr ⟨wd_1412, (List.forall_mem_cons.mpr ⟨wd_1411, (List.forall_mem_cons.mpr ⟨wd_1410, (List.forall_mem_cons.mpr ⟨wd_1409, (List.forall_mem_cons.mpr ⟨wd_0, (List.forall_mem_cons.mpr ⟨wd_1408, (List.forall_mem_cons.mpr ⟨wd_990, (List.forall_mem_cons.mpr ⟨wd_989, (List.forall_mem_cons.mpr ⟨wd_988, (List.forall_mem_cons.mpr ⟨wd_987, (List.forall_mem_cons.mpr ⟨wd_926, (List.forall_mem_cons.mpr ⟨wd_925, (List.forall_mem_cons.mpr ⟨wd_924, (List.forall_mem_cons.mpr ⟨wd_923, (List.forall_mem_cons.mpr ⟨wd_922, (List.forall_mem_cons.mpr ⟨wd_921, (List.forall_mem_cons.mpr ⟨wd_920, (List.forall_mem_cons.mpr ⟨wd_919, (List.forall_mem_cons.mpr ⟨wd_918, (fun _ h => absurd h List.not_mem_nil)⟩)⟩)⟩)⟩)⟩)⟩)⟩)⟩)⟩)⟩)⟩)⟩)⟩)⟩)⟩)⟩)⟩)⟩)⟩)⟩)⟩)⟩)⟩)⟩)
set_option maxRecDepth 20000 in
theorem hl_wsX11_ask_r2 : ∀ w ∈ wsX11_ask_r2, w ∈ lw_tbl := by
  unfold wsX11_ask_r2
  exact (List.forall_mem_cons.mpr ⟨wd_940, (List.forall_mem_cons.mpr ⟨wd_939, (List.forall_mem_cons.mpr ⟨wd_938, (List.forall_mem_cons.mpr ⟨wd_937, (List.forall_mem_cons.mpr ⟨wd_936, (List.forall_mem_cons.mpr ⟨wd_134, (List.forall_mem_cons.mpr ⟨wd_133, (List.forall_mem_cons.mpr ⟨wd_132, (List.forall_mem_cons.mpr ⟨wd_935, (List.forall_mem_cons.mpr ⟨wd_934, (List.forall_mem_cons.mpr ⟨wd_933, (List.forall_mem_cons.mpr ⟨wd_932, (List.forall_mem_cons.mpr ⟨wd_931, (List.forall_mem_cons.mpr ⟨wd_930, (List.forall_mem_cons.mpr ⟨wd_943, (List.forall_mem_cons.mpr ⟨wd_942, (List.forall_mem_cons.mpr ⟨wd_941, (List.forall_mem_cons.mpr ⟨wd_1418, (List.forall_mem_cons.mpr ⟨wd_1417, (List.forall_mem_cons.mpr ⟨wd_1416, (List.forall_mem_cons.mpr ⟨wd_1415, (List.forall_mem_cons.mpr ⟨wd_1302, (List.forall_mem_cons.mpr ⟨wd_545, (List.forall_mem_cons.mpr ⟨wd_1414, (fun _ h => absurd h List.not_mem_nil)⟩)⟩)⟩)⟩)⟩)⟩)⟩)⟩)⟩)⟩)⟩)⟩)⟩)⟩)⟩)⟩)⟩)⟩)⟩)⟩)⟩)⟩)⟩)⟩)
set_option maxRecDepth 20000 in
theorem hl_wsX11_ask_r3 : ∀ w ∈ wsX11_ask_r3, w ∈ lw_tbl := by
  unfold wsX11_ask_r3
  exact (List.forall_mem_cons.mpr ⟨wd_550, (List.forall_mem_cons.mpr ⟨wd_1423, (List.forall_mem_cons.mpr ⟨wd_1422, (List.forall_mem_cons.mpr ⟨wd_1421, (List.forall_mem_cons.mpr ⟨wd_1030, (List.forall_mem_cons.mpr ⟨wd_1420, (List.forall_mem_cons.mpr ⟨wd_1419, (List.forall_mem_cons.mpr ⟨wd_1026, (List.forall_mem_cons.mpr ⟨wd_1025, (List.forall_mem_cons.mpr ⟨wd_1024, (List.forall_mem_cons.mpr ⟨wd_1023, (List.forall_mem_cons.mpr ⟨wd_1022, (List.forall_mem_cons.mpr ⟨wd_1021, (List.forall_mem_cons.mpr ⟨wd_1020, (List.forall_mem_cons.mpr ⟨wd_1019, (List.forall_mem_cons.mpr ⟨wd_1018, (List.forall_mem_cons.mpr ⟨wd_1027, (List.forall_mem_cons.mpr ⟨wd_1017, (List.forall_mem_cons.mpr ⟨wd_1016, (List.forall_mem_cons.mpr ⟨wd_744, (List.forall_mem_cons.mpr ⟨wd_743, (List.forall_mem_cons.mpr ⟨wd_102, (List.forall_mem_cons.mpr ⟨wd_742, (List.forall_mem_cons.mpr ⟨wd_100, (fun _ h => absurd h List.not_mem_nil)⟩)⟩)⟩)⟩)⟩)⟩)⟩)⟩)⟩)⟩)⟩)⟩)⟩)⟩)⟩)⟩)⟩)⟩)⟩)⟩)⟩)⟩)⟩)⟩)
set_option maxRecDepth 20000 in
theorem hl_wsX11_ask_r4 : ∀ w ∈ wsX11_ask_r4, w ∈ lw_tbl := by
  unfold wsX11_ask_r4
  exact (List.forall_mem_cons.mpr ⟨wd_1040, (List.forall_mem_cons.mpr ⟨wd_543, (List.forall_mem_cons.mpr ⟨wd_542, (List.forall_mem_cons.mpr ⟨wd_362, (List.forall_mem_cons.mpr ⟨wd_541, (List.forall_mem_cons.mpr ⟨wd_540, (List.forall_mem_cons.mpr ⟨wd_578, (List.forall_mem_cons.mpr ⟨wd_577, (List.forall_mem_cons.mpr ⟨wd_360, (List.forall_mem_cons.mpr ⟨wd_576, (List.forall_mem_cons.mpr ⟨wd_575, (List.forall_mem_cons.mpr ⟨wd_574, (List.forall_mem_cons.mpr ⟨wd_573, (List.forall_mem_cons.mpr ⟨wd_1038, (List.forall_mem_cons.mpr ⟨wd_1037, (List.forall_mem_cons.mpr ⟨wd_1036, (List.forall_mem_cons.mpr ⟨wd_1035, (List.forall_mem_cons.mpr ⟨wd_1028, (List.forall_mem_cons.mpr ⟨wd_1043, (List.forall_mem_cons.mpr ⟨wd_1042, (List.forall_mem_cons.mpr ⟨wd_1041, (List.forall_mem_cons.mpr ⟨wd_571, (List.forall_mem_cons.mpr ⟨wd_570, (List.forall_mem_cons.mpr ⟨wd_569, (fun _ h => absurd h List.not_mem_nil)⟩)⟩)⟩)⟩)⟩)⟩)⟩)⟩)⟩)⟩)⟩)⟩)⟩)⟩)⟩)⟩)⟩)⟩)⟩)⟩)⟩)⟩)⟩)⟩)
set_option maxRecDepth 20000 in
theorem hl_wsX11_ask_r5 : ∀ w ∈ wsX11_ask_r5, w ∈ lw_tbl := by
  unfold wsX11_ask_r5
  exact (List.forall_mem_cons.mpr ⟨wd_568, (List.forall_mem_cons.mpr ⟨wd_567, (List.forall_mem_cons.mpr ⟨wd_566, (List.forall_mem_cons.mpr ⟨wd_565, (List.forall_mem_cons.mpr ⟨wd_564, (List.forall_mem_cons.mpr ⟨wd_563, (List.forall_mem_cons.mpr ⟨wd_562, (List.forall_mem_cons.mpr ⟨wd_561, (List.forall_mem_cons.mpr ⟨wd_560, (List.forall_mem_cons.mpr ⟨wd_559, (List.forall_mem_cons.mpr ⟨wd_602, (List.forall_mem_cons.mpr ⟨wd_601, (List.forall_mem_cons.mpr ⟨wd_600, (List.forall_mem_cons.mpr ⟨wd_599, (List.forall_mem_cons.mpr ⟨wd_598, (List.forall_mem_cons.mpr ⟨wd_597, (List.forall_mem_cons.mpr ⟨wd_596, (List.forall_mem_cons.mpr ⟨wd_595, (List.forall_mem_cons.mpr ⟨wd_594, (List.forall_mem_cons.mpr ⟨wd_593, (List.forall_mem_cons.mpr ⟨wd_592, (List.forall_mem_cons.mpr ⟨wd_591, (List.forall_mem_cons.mpr ⟨wd_590, (List.forall_mem_cons.mpr ⟨wd_589, (fun _ h => absurd h List.not_mem_nil)⟩)⟩)⟩)⟩)⟩)⟩)⟩)⟩)⟩)⟩)⟩)⟩)⟩)⟩)⟩)⟩)⟩)⟩)⟩)⟩)⟩)⟩)⟩)⟩)
set_option maxRecDepth 20000 in
theorem hl_wsX11_ask_r6 : ∀ w ∈ wsX11_ask_r6, w ∈ lw_tbl := by
  unfold wsX11_ask_r6
  exact (List.forall_mem_cons.mpr ⟨wd_588, (List.forall_mem_cons.mpr ⟨wd_587, (List.forall_mem_cons.mpr ⟨wd_586, (List.forall_mem_cons.mpr ⟨wd_585, (List.forall_mem_cons.mpr ⟨wd_584, (List.forall_mem_cons.mpr ⟨wd_583, (List.forall_mem_cons.mpr ⟨wd_582, (List.forall_mem_cons.mpr ⟨wd_581, (List.forall_mem_cons.mpr ⟨wd_580, (List.forall_mem_cons.mpr ⟨wd_579, (List.forall_mem_cons.mpr ⟨wd_608, (List.forall_mem_cons.mpr ⟨wd_607, (List.forall_mem_cons.mpr ⟨wd_606, (List.forall_mem_cons.mpr ⟨wd_605, (List.forall_mem_cons.mpr ⟨wd_604, (List.forall_mem_cons.mpr ⟨wd_603, (List.forall_mem_cons.mpr ⟨wd_1431, (List.forall_mem_cons.mpr ⟨wd_1430, (List.forall_mem_cons.mpr ⟨wd_1429, (List.forall_mem_cons.mpr ⟨wd_1428, (List.forall_mem_cons.mpr ⟨wd_1427, (List.forall_mem_cons.mpr ⟨wd_1426, (List.forall_mem_cons.mpr ⟨wd_1425, (List.forall_mem_cons.mpr ⟨wd_1424, (fun _ h => absurd h List.not_mem_nil)⟩)⟩)⟩)⟩)⟩)⟩)⟩)⟩)⟩)⟩)⟩)⟩)⟩)⟩)⟩)⟩)⟩)⟩)⟩)⟩)⟩)⟩)⟩)⟩)
theorem wd_1476 : Cond.methodLink RX0 55 yX0_mostAlike ∈ lw_tbl := mt_5 (List.mem_of_getElem? (i := 170) rfl)
theorem wd_1477 : Cond.code yX5_buyers cX5_buyers 1 (some .int) ∈ lw_tbl := mt_5 (List.mem_of_getElem? (i := 169) rfl)
theorem wd_1478 : Cond.selects RX5 yX5_buyers yX5_buyers ∈ lw_tbl := mt_5 (List.mem_of_getElem? (i := 168) rfl)
theorem wd_1479 : Cond.instanceMethod yX5_buyers ∈ lw_tbl := mt_5 (List.mem_of_getElem? (i := 167) rfl)
theorem wd_1480 : Cond.methodLink RX0 52 yX5_buyers ∈ lw_tbl := mt_5 (List.mem_of_getElem? (i := 166) rfl)
theorem wd_1481 : Cond.code yX0_mostTelling cX0_mostTelling 5 (some .int) ∈ lw_tbl := mt_5 (List.mem_of_getElem? (i := 165) rfl)
theorem wd_1482 : Cond.selects RX0 yX0_mostTelling yX0_mostTelling ∈ lw_tbl := mt_5 (List.mem_of_getElem? (i := 164) rfl)
theorem wd_1483 : Cond.instanceMethod yX0_mostTelling ∈ lw_tbl := mt_5 (List.mem_of_getElem? (i := 163) rfl)
theorem wd_1484 : Cond.methodLink RX11 360 yX0_mostTelling ∈ lw_tbl := mt_5 (List.mem_of_getElem? (i := 162) rfl)
set_option maxRecDepth 20000 in
theorem hl_wsX11_ask_r7 : ∀ w ∈ wsX11_ask_r7, w ∈ lw_tbl := by
  unfold wsX11_ask_r7
  exact (List.forall_mem_cons.mpr ⟨wd_1443, (List.forall_mem_cons.mpr ⟨wd_1442, (List.forall_mem_cons.mpr ⟨wd_1441, (List.forall_mem_cons.mpr ⟨wd_1440, (List.forall_mem_cons.mpr ⟨wd_1439, (List.forall_mem_cons.mpr ⟨wd_1438, (List.forall_mem_cons.mpr ⟨wd_1437, (List.forall_mem_cons.mpr ⟨wd_1436, (List.forall_mem_cons.mpr ⟨wd_1435, (List.forall_mem_cons.mpr ⟨wd_1434, (List.forall_mem_cons.mpr ⟨wd_1433, (List.forall_mem_cons.mpr ⟨wd_1432, (List.forall_mem_cons.mpr ⟨wd_1046, (List.forall_mem_cons.mpr ⟨wd_1045, (List.forall_mem_cons.mpr ⟨wd_1044, (List.forall_mem_cons.mpr ⟨wd_1484, (List.forall_mem_cons.mpr ⟨wd_1483, (List.forall_mem_cons.mpr ⟨wd_1482, (List.forall_mem_cons.mpr ⟨wd_1481, (List.forall_mem_cons.mpr ⟨wd_1480, (List.forall_mem_cons.mpr ⟨wd_1479, (List.forall_mem_cons.mpr ⟨wd_1478, (List.forall_mem_cons.mpr ⟨wd_1477, (List.forall_mem_cons.mpr ⟨wd_1476, (fun _ h => absurd h List.not_mem_nil)⟩)⟩)⟩)⟩)⟩)⟩)⟩)⟩)⟩)⟩)⟩)⟩)⟩)⟩)⟩)⟩)⟩)⟩)⟩)⟩)⟩)⟩)⟩)⟩)
theorem wd_1485 : Cond.methodLink RX0 59 yJ7_fill_53178 ∈ lw_tbl := mt_5 (List.mem_of_getElem? (i := 174) rfl)
theorem wd_1486 : Cond.methodLink RX0 65 Lib.Math.max.name ∈ lw_tbl := mt_5 (List.mem_of_getElem? (i := 175) rfl)
theorem wd_1487 : Cond.fieldLink RX0 15 "OneOfEach$Clues" "tally" "[I" ∈ lw_tbl := mt_2 (List.mem_of_getElem? (i := 72) rfl)
theorem wd_1488 : Cond.code yX0_mostAlike cX0_mostAlike 6 (some .int) ∈ lw_tbl := mt_5 (List.mem_of_getElem? (i := 173) rfl)
theorem wd_1489 : Cond.selects RX0 yX0_mostAlike yX0_mostAlike ∈ lw_tbl := mp_3 (q := (⟨"OneOfEach$Clues", "mostAlike", "(I)I"⟩, 5)) (List.mem_of_getElem? (i := 11) rfl)
theorem wd_1490 : Cond.instanceMethod yX0_mostAlike ∈ lw_tbl := mt_5 (List.mem_of_getElem? (i := 172) rfl)
set_option maxRecDepth 20000 in
theorem hl_wsX11_ask_r8 : ∀ w ∈ wsX11_ask_r8, w ∈ lw_tbl := by
  unfold wsX11_ask_r8
  exact (List.forall_mem_cons.mpr ⟨wd_1490, (List.forall_mem_cons.mpr ⟨wd_1489, (List.forall_mem_cons.mpr ⟨wd_1488, (List.forall_mem_cons.mpr ⟨wd_1487, (List.forall_mem_cons.mpr ⟨wd_1486, (List.forall_mem_cons.mpr ⟨wd_1485, (List.forall_mem_cons.mpr ⟨wd_358, (List.forall_mem_cons.mpr ⟨wd_357, (List.forall_mem_cons.mpr ⟨wd_356, (fun _ h => absurd h List.not_mem_nil)⟩)⟩)⟩)⟩)⟩)⟩)⟩)⟩)⟩)
set_option maxRecDepth 20000 in
theorem hl_wsX11_ask : ∀ w ∈ wsX11_ask, w ∈ lw_tbl := by
  unfold wsX11_ask
  exact (List.forall_mem_cons.mpr ⟨wd_1475, (List.forall_mem_append.mpr ⟨(List.forall_mem_append.mpr ⟨(List.forall_mem_append.mpr ⟨(List.forall_mem_append.mpr ⟨(List.forall_mem_append.mpr ⟨(List.forall_mem_append.mpr ⟨(List.forall_mem_append.mpr ⟨(List.forall_mem_append.mpr ⟨hl_wsX11_ask_r1, (List.forall_mem_append.mpr ⟨hl_wsX11_ask_r2, (List.forall_mem_append.mpr ⟨hl_wsX11_ask_r3, (List.forall_mem_append.mpr ⟨hl_wsX11_ask_r4, (List.forall_mem_append.mpr ⟨hl_wsX11_ask_r5, (List.forall_mem_append.mpr ⟨hl_wsX11_ask_r6, (List.forall_mem_append.mpr ⟨hl_wsX11_ask_r7, hl_wsX11_ask_r8⟩)⟩)⟩)⟩)⟩)⟩)⟩), hl_wsX110⟩), hl_wsX00⟩), hl_wsX100⟩), hl_wsX70⟩), hl_wsX90⟩), hl_wsX50⟩), hl_wsX40⟩)⟩)
theorem wd_1491 : Cond.selects RX12 yX12_ask yX12_ask ∈ lw_tbl := mt_8 (List.mem_of_getElem? (i := 131) rfl)
theorem wd_1492 : Cond.instanceMethod yX12_ask ∈ lw_tbl := mt_8 (List.mem_of_getElem? (i := 130) rfl)
theorem wd_1493 : Cond.methodLink RL 164 yX12_ask ∈ lw_tbl := mt_8 (List.mem_of_getElem? (i := 129) rfl)
theorem wd_1494 : Cond.code yX12_ask cX12_ask 8 (some .int) ∈ lw_tbl := mt_8 (List.mem_of_getElem? (i := 132) rfl)
set_option maxRecDepth 20000 in
theorem hl_wsX12_ask_r1 : ∀ w ∈ wsX12_ask_r1, w ∈ lw_tbl := by
  unfold wsX12_ask_r1
  exact (List.forall_mem_cons.mpr ⟨wd_34, (List.forall_mem_cons.mpr ⟨wd_1097, (List.forall_mem_cons.mpr ⟨wd_423, (List.forall_mem_cons.mpr ⟨wd_1457, (List.forall_mem_cons.mpr ⟨wd_1456, (List.forall_mem_cons.mpr ⟨wd_1455, (List.forall_mem_cons.mpr ⟨wd_27, (List.forall_mem_cons.mpr ⟨wd_1454, (List.forall_mem_cons.mpr ⟨wd_952, (List.forall_mem_cons.mpr ⟨wd_1453, (List.forall_mem_cons.mpr ⟨wd_951, (List.forall_mem_cons.mpr ⟨wd_913, (List.forall_mem_cons.mpr ⟨wd_828, (List.forall_mem_cons.mpr ⟨wd_961, (List.forall_mem_cons.mpr ⟨wd_960, (List.forall_mem_cons.mpr ⟨wd_959, (List.forall_mem_cons.mpr ⟨wd_958, (List.forall_mem_cons.mpr ⟨wd_963, (List.forall_mem_cons.mpr ⟨wd_957, (List.forall_mem_cons.mpr ⟨wd_422, (List.forall_mem_cons.mpr ⟨wd_421, (List.forall_mem_cons.mpr ⟨wd_420, (List.forall_mem_cons.mpr ⟨wd_692, (List.forall_mem_cons.mpr ⟨wd_691, (fun _ h => absurd h List.not_mem_nil)⟩)⟩)⟩)⟩)⟩)⟩)⟩)⟩)⟩)⟩)⟩)⟩)⟩)⟩)⟩)⟩)⟩)⟩)⟩)⟩)⟩)⟩)⟩)⟩)
set_option maxRecDepth 20000 in
theorem hl_wsX12_ask_r2 : ∀ w ∈ wsX12_ask_r2, w ∈ lw_tbl := by
  unfold wsX12_ask_r2
  exact (List.forall_mem_cons.mpr ⟨wd_690, (List.forall_mem_cons.mpr ⟨wd_689, (List.forall_mem_cons.mpr ⟨wd_630, (List.forall_mem_cons.mpr ⟨wd_629, (List.forall_mem_cons.mpr ⟨wd_628, (List.forall_mem_cons.mpr ⟨wd_627, (List.forall_mem_cons.mpr ⟨wd_1462, (List.forall_mem_cons.mpr ⟨wd_1461, (List.forall_mem_cons.mpr ⟨wd_1460, (List.forall_mem_cons.mpr ⟨wd_1459, (List.forall_mem_cons.mpr ⟨wd_1458, (List.forall_mem_cons.mpr ⟨wd_1087, (List.forall_mem_cons.mpr ⟨wd_1086, (List.forall_mem_cons.mpr ⟨wd_1085, (List.forall_mem_cons.mpr ⟨wd_1084, (List.forall_mem_cons.mpr ⟨wd_1083, (List.forall_mem_cons.mpr ⟨wd_648, (List.forall_mem_cons.mpr ⟨wd_647, (List.forall_mem_cons.mpr ⟨wd_646, (List.forall_mem_cons.mpr ⟨wd_645, (List.forall_mem_cons.mpr ⟨wd_618, (List.forall_mem_cons.mpr ⟨wd_617, (List.forall_mem_cons.mpr ⟨wd_616, (List.forall_mem_cons.mpr ⟨wd_615, (fun _ h => absurd h List.not_mem_nil)⟩)⟩)⟩)⟩)⟩)⟩)⟩)⟩)⟩)⟩)⟩)⟩)⟩)⟩)⟩)⟩)⟩)⟩)⟩)⟩)⟩)⟩)⟩)⟩)
set_option maxRecDepth 20000 in
theorem hl_wsX12_ask_r3 : ∀ w ∈ wsX12_ask_r3, w ∈ lw_tbl := by
  unfold wsX12_ask_r3
  exact (List.forall_mem_cons.mpr ⟨wd_614, (List.forall_mem_cons.mpr ⟨wd_613, (List.forall_mem_cons.mpr ⟨wd_654, (List.forall_mem_cons.mpr ⟨wd_653, (List.forall_mem_cons.mpr ⟨wd_652, (List.forall_mem_cons.mpr ⟨wd_651, (List.forall_mem_cons.mpr ⟨wd_650, (List.forall_mem_cons.mpr ⟨wd_649, (List.forall_mem_cons.mpr ⟨wd_644, (List.forall_mem_cons.mpr ⟨wd_643, (List.forall_mem_cons.mpr ⟨wd_642, (List.forall_mem_cons.mpr ⟨wd_641, (List.forall_mem_cons.mpr ⟨wd_640, (List.forall_mem_cons.mpr ⟨wd_639, (List.forall_mem_cons.mpr ⟨wd_638, (List.forall_mem_cons.mpr ⟨wd_637, (List.forall_mem_cons.mpr ⟨wd_636, (List.forall_mem_cons.mpr ⟨wd_635, (List.forall_mem_cons.mpr ⟨wd_634, (List.forall_mem_cons.mpr ⟨wd_633, (List.forall_mem_cons.mpr ⟨wd_632, (List.forall_mem_cons.mpr ⟨wd_631, (List.forall_mem_cons.mpr ⟨wd_665, (List.forall_mem_cons.mpr ⟨wd_664, (fun _ h => absurd h List.not_mem_nil)⟩)⟩)⟩)⟩)⟩)⟩)⟩)⟩)⟩)⟩)⟩)⟩)⟩)⟩)⟩)⟩)⟩)⟩)⟩)⟩)⟩)⟩)⟩)⟩)
theorem wd_1495 : Cond.fieldLink RX12 64 "OneOfEachModel" "often" "[I" ∈ lw_tbl := mt_6 (List.mem_of_getElem? (i := 56) rfl)
theorem wd_1496 : Cond.code yX12_mostOften cX12_mostOften 6 (some .int) ∈ lw_tbl := mt_8 (List.mem_of_getElem? (i := 136) rfl)
theorem wd_1497 : Cond.selects RX12 yX12_mostOften yX12_mostOften ∈ lw_tbl := mp_8 (q := (⟨"OneOfEachModel", "mostOften", "(I)I"⟩, 32)) (List.mem_of_getElem? (i := 5) rfl)
theorem wd_1498 : Cond.instanceMethod yX12_mostOften ∈ lw_tbl := mt_8 (List.mem_of_getElem? (i := 135) rfl)
theorem wd_1499 : Cond.methodLink RX12 441 yX12_mostOften ∈ lw_tbl := mt_8 (List.mem_of_getElem? (i := 133) rfl)
set_option maxRecDepth 20000 in
theorem hl_wsX12_ask_r4 : ∀ w ∈ wsX12_ask_r4, w ∈ lw_tbl := by
  unfold wsX12_ask_r4
  exact (List.forall_mem_cons.mpr ⟨wd_663, (List.forall_mem_cons.mpr ⟨wd_662, (List.forall_mem_cons.mpr ⟨wd_661, (List.forall_mem_cons.mpr ⟨wd_660, (List.forall_mem_cons.mpr ⟨wd_659, (List.forall_mem_cons.mpr ⟨wd_658, (List.forall_mem_cons.mpr ⟨wd_657, (List.forall_mem_cons.mpr ⟨wd_656, (List.forall_mem_cons.mpr ⟨wd_655, (List.forall_mem_cons.mpr ⟨wd_1095, (List.forall_mem_cons.mpr ⟨wd_1094, (List.forall_mem_cons.mpr ⟨wd_1093, (List.forall_mem_cons.mpr ⟨wd_1092, (List.forall_mem_cons.mpr ⟨wd_1499, (List.forall_mem_cons.mpr ⟨wd_1498, (List.forall_mem_cons.mpr ⟨wd_1497, (List.forall_mem_cons.mpr ⟨wd_1496, (List.forall_mem_cons.mpr ⟨wd_1495, (fun _ h => absurd h List.not_mem_nil)⟩)⟩)⟩)⟩)⟩)⟩)⟩)⟩)⟩)⟩)⟩)⟩)⟩)⟩)⟩)⟩)⟩)⟩)
set_option maxRecDepth 20000 in
theorem hl_wsX12_ask : ∀ w ∈ wsX12_ask, w ∈ lw_tbl := by
  unfold wsX12_ask
  exact (List.forall_mem_cons.mpr ⟨wd_1494, (List.forall_mem_append.mpr ⟨(List.forall_mem_append.mpr ⟨hl_wsX12_ask_r1, (List.forall_mem_append.mpr ⟨hl_wsX12_ask_r2, (List.forall_mem_append.mpr ⟨hl_wsX12_ask_r3, hl_wsX12_ask_r4⟩)⟩)⟩), hl_wsX120⟩)⟩)
def tL_ask : List Cond := (wsV RL 161 RX11 yX11_ask wsX11_ask) ++ (wsV RL 164 RX12 yX12_ask wsX12_ask)
theorem tL_ask_in : ∀ w ∈ tL_ask, w ∈ lw_tbl := by
  unfold tL_ask
  exact (List.forall_mem_append.mpr ⟨(List.forall_mem_append.mpr ⟨(List.forall_mem_cons.mpr ⟨wd_1474, (List.forall_mem_cons.mpr ⟨wd_1473, (List.forall_mem_cons.mpr ⟨wd_1472, (List.forall_mem_cons.mpr ⟨wd_0, (fun _ h => absurd h List.not_mem_nil)⟩)⟩)⟩)⟩), hl_wsX11_ask⟩), (List.forall_mem_append.mpr ⟨(List.forall_mem_cons.mpr ⟨wd_1493, (List.forall_mem_cons.mpr ⟨wd_1492, (List.forall_mem_cons.mpr ⟨wd_1491, (List.forall_mem_cons.mpr ⟨wd_27, (fun _ h => absurd h List.not_mem_nil)⟩)⟩)⟩)⟩), hl_wsX12_ask⟩)⟩)
set_option maxRecDepth 20000 in
theorem tL_ask_x : GoodIn tL_ask (wsV RL 161 RX11 yX11_ask wsX11_ask) := fun w h => ⟨List.mem_append_left _ h, good_of_word (List.all_eq_true.mp (show (wsV RL 161 RX11 yX11_ask wsX11_ask).all goodWord = true by decide +kernel) w h)⟩
set_option maxRecDepth 20000 in
theorem tL_ask_m : GoodIn tL_ask (wsV RL 164 RX12 yX12_ask wsX12_ask) := fun w h => ⟨List.mem_append_right _ h, good_of_word (List.all_eq_true.mp (show (wsV RL 164 RX12 yX12_ask wsX12_ask).all goodWord = true by decide +kernel) w h)⟩
theorem hdLX11_ask : yX11_ask.cls = RX11 ∧ yX11_ask.cls ≠ "java/lang/invoke/MethodHandle" ∧ yX11_ask.cls ≠ "java/lang/invoke/VarHandle" ∧ (parseMethodDescriptor yX11_ask.desc).map (fun d => d.parameters.length) = some 1 := by decide +kernel
theorem hdLX12_ask : yX12_ask.cls = RX12 ∧ yX12_ask.cls ≠ "java/lang/invoke/MethodHandle" ∧ yX12_ask.cls ≠ "java/lang/invoke/VarHandle" ∧ (parseMethodDescriptor yX12_ask.desc).map (fun d => d.parameters.length) = some 1 := by decide +kernel
theorem wd_1500 : Cond.selects RX11 yX11_came yX11_came ∈ lw_tbl := mt_5 (List.mem_of_getElem? (i := 178) rfl)
theorem wd_1501 : Cond.instanceMethod yX11_came ∈ lw_tbl := mt_5 (List.mem_of_getElem? (i := 177) rfl)
theorem wd_1502 : Cond.methodLink RL 165 yX11_came ∈ lw_tbl := mt_5 (List.mem_of_getElem? (i := 176) rfl)
theorem wd_1503 : Cond.code yX11_came cX11_came 3 (some .long) ∈ lw_tbl := mt_5 (List.mem_of_getElem? (i := 179) rfl)
theorem wd_1504 : Cond.code yX11_cameRefusal cX11_cameRefusal 5 (some .int) ∈ lw_tbl := mt_5 (List.mem_of_getElem? (i := 183) rfl)
theorem wd_1505 : Cond.selects RX11 yX11_cameRefusal yX11_cameRefusal ∈ lw_tbl := mp_3 (q := (⟨"OneOfEach", "cameRefusal", "(I)I"⟩, 16)) (List.mem_of_getElem? (i := 12) rfl)
theorem wd_1506 : Cond.instanceMethod yX11_cameRefusal ∈ lw_tbl := mt_5 (List.mem_of_getElem? (i := 182) rfl)
theorem wd_1507 : Cond.methodLink RX11 369 yX11_cameRefusal ∈ lw_tbl := mt_5 (List.mem_of_getElem? (i := 180) rfl)
set_option maxRecDepth 20000 in
theorem hl_wsX11_came_r1 : ∀ w ∈ wsX11_came_r1, w ∈ lw_tbl := by
  unfold wsX11_came_r1
  exact (List.forall_mem_cons.mpr ⟨wd_1034, (List.forall_mem_cons.mpr ⟨wd_85, (List.forall_mem_cons.mpr ⟨wd_84, (List.forall_mem_cons.mpr ⟨wd_555, (List.forall_mem_cons.mpr ⟨wd_1413, (List.forall_mem_cons.mpr ⟨wd_929, (List.forall_mem_cons.mpr ⟨wd_1507, (List.forall_mem_cons.mpr ⟨wd_1506, (List.forall_mem_cons.mpr ⟨wd_1505, (List.forall_mem_cons.mpr ⟨wd_0, (List.forall_mem_cons.mpr ⟨wd_1504, (List.forall_mem_cons.mpr ⟨wd_852, (List.forall_mem_cons.mpr ⟨wd_550, (List.forall_mem_cons.mpr ⟨wd_990, (List.forall_mem_cons.mpr ⟨wd_989, (List.forall_mem_cons.mpr ⟨wd_988, (List.forall_mem_cons.mpr ⟨wd_987, (List.forall_mem_cons.mpr ⟨wd_926, (List.forall_mem_cons.mpr ⟨wd_925, (List.forall_mem_cons.mpr ⟨wd_924, (List.forall_mem_cons.mpr ⟨wd_923, (List.forall_mem_cons.mpr ⟨wd_922, (List.forall_mem_cons.mpr ⟨wd_921, (List.forall_mem_cons.mpr ⟨wd_920, (fun _ h => absurd h List.not_mem_nil)⟩)⟩)⟩)⟩)⟩)⟩)⟩)⟩)⟩)⟩)⟩)⟩)⟩)⟩)⟩)⟩)⟩)⟩)⟩)⟩)⟩)⟩)⟩)⟩)
set_option maxRecDepth 20000 in
theorem hl_wsX11_came_r2 : ∀ w ∈ wsX11_came_r2, w ∈ lw_tbl := by
  unfold wsX11_came_r2
  exact (List.forall_mem_cons.mpr ⟨wd_919, (List.forall_mem_cons.mpr ⟨wd_918, (List.forall_mem_cons.mpr ⟨wd_940, (List.forall_mem_cons.mpr ⟨wd_939, (List.forall_mem_cons.mpr ⟨wd_938, (List.forall_mem_cons.mpr ⟨wd_937, (List.forall_mem_cons.mpr ⟨wd_936, (List.forall_mem_cons.mpr ⟨wd_134, (List.forall_mem_cons.mpr ⟨wd_133, (List.forall_mem_cons.mpr ⟨wd_132, (List.forall_mem_cons.mpr ⟨wd_935, (List.forall_mem_cons.mpr ⟨wd_934, (List.forall_mem_cons.mpr ⟨wd_933, (List.forall_mem_cons.mpr ⟨wd_932, (List.forall_mem_cons.mpr ⟨wd_931, (List.forall_mem_cons.mpr ⟨wd_930, (List.forall_mem_cons.mpr ⟨wd_943, (List.forall_mem_cons.mpr ⟨wd_942, (List.forall_mem_cons.mpr ⟨wd_941, (List.forall_mem_cons.mpr ⟨wd_1033, (List.forall_mem_cons.mpr ⟨wd_1032, (List.forall_mem_cons.mpr ⟨wd_1031, (List.forall_mem_cons.mpr ⟨wd_1030, (List.forall_mem_cons.mpr ⟨wd_1029, (fun _ h => absurd h List.not_mem_nil)⟩)⟩)⟩)⟩)⟩)⟩)⟩)⟩)⟩)⟩)⟩)⟩)⟩)⟩)⟩)⟩)⟩)⟩)⟩)⟩)⟩)⟩)⟩)⟩)
set_option maxRecDepth 20000 in
theorem hl_wsX11_came_r3 : ∀ w ∈ wsX11_came_r3, w ∈ lw_tbl := by
  unfold wsX11_came_r3
  exact (List.forall_mem_cons.mpr ⟨wd_1028, (List.forall_mem_cons.mpr ⟨wd_1027, (List.forall_mem_cons.mpr ⟨wd_1026, (List.forall_mem_cons.mpr ⟨wd_1025, (List.forall_mem_cons.mpr ⟨wd_1024, (List.forall_mem_cons.mpr ⟨wd_1023, (List.forall_mem_cons.mpr ⟨wd_1022, (List.forall_mem_cons.mpr ⟨wd_1021, (List.forall_mem_cons.mpr ⟨wd_1020, (List.forall_mem_cons.mpr ⟨wd_1019, (List.forall_mem_cons.mpr ⟨wd_1018, (List.forall_mem_cons.mpr ⟨wd_1017, (List.forall_mem_cons.mpr ⟨wd_1016, (List.forall_mem_cons.mpr ⟨wd_744, (List.forall_mem_cons.mpr ⟨wd_743, (List.forall_mem_cons.mpr ⟨wd_102, (List.forall_mem_cons.mpr ⟨wd_742, (List.forall_mem_cons.mpr ⟨wd_100, (List.forall_mem_cons.mpr ⟨wd_1040, (List.forall_mem_cons.mpr ⟨wd_543, (List.forall_mem_cons.mpr ⟨wd_542, (List.forall_mem_cons.mpr ⟨wd_362, (List.forall_mem_cons.mpr ⟨wd_541, (List.forall_mem_cons.mpr ⟨wd_540, (fun _ h => absurd h List.not_mem_nil)⟩)⟩)⟩)⟩)⟩)⟩)⟩)⟩)⟩)⟩)⟩)⟩)⟩)⟩)⟩)⟩)⟩)⟩)⟩)⟩)⟩)⟩)⟩)⟩)
set_option maxRecDepth 20000 in
theorem hl_wsX11_came_r4 : ∀ w ∈ wsX11_came_r4, w ∈ lw_tbl := by
  unfold wsX11_came_r4
  exact (List.forall_mem_cons.mpr ⟨wd_578, (List.forall_mem_cons.mpr ⟨wd_577, (List.forall_mem_cons.mpr ⟨wd_360, (List.forall_mem_cons.mpr ⟨wd_576, (List.forall_mem_cons.mpr ⟨wd_575, (List.forall_mem_cons.mpr ⟨wd_574, (List.forall_mem_cons.mpr ⟨wd_573, (List.forall_mem_cons.mpr ⟨wd_1039, (List.forall_mem_cons.mpr ⟨wd_358, (List.forall_mem_cons.mpr ⟨wd_357, (List.forall_mem_cons.mpr ⟨wd_356, (List.forall_mem_cons.mpr ⟨wd_1038, (List.forall_mem_cons.mpr ⟨wd_1037, (List.forall_mem_cons.mpr ⟨wd_1036, (List.forall_mem_cons.mpr ⟨wd_1035, (List.forall_mem_cons.mpr ⟨wd_1043, (List.forall_mem_cons.mpr ⟨wd_1042, (List.forall_mem_cons.mpr ⟨wd_1041, (List.forall_mem_cons.mpr ⟨wd_571, (List.forall_mem_cons.mpr ⟨wd_570, (List.forall_mem_cons.mpr ⟨wd_569, (List.forall_mem_cons.mpr ⟨wd_568, (List.forall_mem_cons.mpr ⟨wd_567, (List.forall_mem_cons.mpr ⟨wd_566, (fun _ h => absurd h List.not_mem_nil)⟩)⟩)⟩)⟩)⟩)⟩)⟩)⟩)⟩)⟩)⟩)⟩)⟩)⟩)⟩)⟩)⟩)⟩)⟩)⟩)⟩)⟩)⟩)⟩)
set_option maxRecDepth 20000 in
theorem hl_wsX11_came_r5 : ∀ w ∈ wsX11_came_r5, w ∈ lw_tbl := by
  unfold wsX11_came_r5
  exact (List.forall_mem_cons.mpr ⟨wd_565, (List.forall_mem_cons.mpr ⟨wd_564, (List.forall_mem_cons.mpr ⟨wd_563, (List.forall_mem_cons.mpr ⟨wd_562, (List.forall_mem_cons.mpr ⟨wd_561, (List.forall_mem_cons.mpr ⟨wd_560, (List.forall_mem_cons.mpr ⟨wd_559, (List.forall_mem_cons.mpr ⟨wd_602, (List.forall_mem_cons.mpr ⟨wd_601, (List.forall_mem_cons.mpr ⟨wd_600, (List.forall_mem_cons.mpr ⟨wd_599, (List.forall_mem_cons.mpr ⟨wd_598, (List.forall_mem_cons.mpr ⟨wd_597, (List.forall_mem_cons.mpr ⟨wd_596, (List.forall_mem_cons.mpr ⟨wd_595, (List.forall_mem_cons.mpr ⟨wd_594, (List.forall_mem_cons.mpr ⟨wd_593, (List.forall_mem_cons.mpr ⟨wd_592, (List.forall_mem_cons.mpr ⟨wd_591, (List.forall_mem_cons.mpr ⟨wd_590, (List.forall_mem_cons.mpr ⟨wd_589, (List.forall_mem_cons.mpr ⟨wd_588, (List.forall_mem_cons.mpr ⟨wd_587, (List.forall_mem_cons.mpr ⟨wd_586, (fun _ h => absurd h List.not_mem_nil)⟩)⟩)⟩)⟩)⟩)⟩)⟩)⟩)⟩)⟩)⟩)⟩)⟩)⟩)⟩)⟩)⟩)⟩)⟩)⟩)⟩)⟩)⟩)⟩)
theorem wd_1508 : Cond.methodLink RX0 70 yX5_beginRows ∈ lw_tbl := mt_5 (List.mem_of_getElem? (i := 188) rfl)
theorem wd_1509 : Cond.code yX0_rows cX0_rows 3 (some .long) ∈ lw_tbl := mt_5 (List.mem_of_getElem? (i := 187) rfl)
theorem wd_1510 : Cond.selects RX0 yX0_rows yX0_rows ∈ lw_tbl := mt_5 (List.mem_of_getElem? (i := 186) rfl)
theorem wd_1511 : Cond.instanceMethod yX0_rows ∈ lw_tbl := mt_5 (List.mem_of_getElem? (i := 185) rfl)
theorem wd_1512 : Cond.methodLink RX11 372 yX0_rows ∈ lw_tbl := mt_5 (List.mem_of_getElem? (i := 184) rfl)
set_option maxRecDepth 20000 in
theorem hl_wsX11_came_r6 : ∀ w ∈ wsX11_came_r6, w ∈ lw_tbl := by
  unfold wsX11_came_r6
  exact (List.forall_mem_cons.mpr ⟨wd_585, (List.forall_mem_cons.mpr ⟨wd_584, (List.forall_mem_cons.mpr ⟨wd_583, (List.forall_mem_cons.mpr ⟨wd_582, (List.forall_mem_cons.mpr ⟨wd_581, (List.forall_mem_cons.mpr ⟨wd_580, (List.forall_mem_cons.mpr ⟨wd_579, (List.forall_mem_cons.mpr ⟨wd_608, (List.forall_mem_cons.mpr ⟨wd_607, (List.forall_mem_cons.mpr ⟨wd_606, (List.forall_mem_cons.mpr ⟨wd_605, (List.forall_mem_cons.mpr ⟨wd_604, (List.forall_mem_cons.mpr ⟨wd_603, (List.forall_mem_cons.mpr ⟨wd_1512, (List.forall_mem_cons.mpr ⟨wd_1511, (List.forall_mem_cons.mpr ⟨wd_1510, (List.forall_mem_cons.mpr ⟨wd_1428, (List.forall_mem_cons.mpr ⟨wd_1509, (List.forall_mem_cons.mpr ⟨wd_1425, (List.forall_mem_cons.mpr ⟨wd_1508, (List.forall_mem_cons.mpr ⟨wd_1140, (List.forall_mem_cons.mpr ⟨wd_1139, (List.forall_mem_cons.mpr ⟨wd_1138, (List.forall_mem_cons.mpr ⟨wd_1137, (fun _ h => absurd h List.not_mem_nil)⟩)⟩)⟩)⟩)⟩)⟩)⟩)⟩)⟩)⟩)⟩)⟩)⟩)⟩)⟩)⟩)⟩)⟩)⟩)⟩)⟩)⟩)⟩)⟩)
theorem wd_1513 : Cond.methodLink RX0 77 yX5_allWays ∈ lw_tbl := mt_5 (List.mem_of_getElem? (i := 190) rfl)
theorem wd_1514 : Cond.methodLink RX0 73 yX5_lengthenRows ∈ lw_tbl := mt_5 (List.mem_of_getElem? (i := 189) rfl)
set_option maxRecDepth 20000 in
theorem hl_wsX11_came_r7 : ∀ w ∈ wsX11_came_r7, w ∈ lw_tbl := by
  unfold wsX11_came_r7
  exact (List.forall_mem_cons.mpr ⟨wd_1136, (List.forall_mem_cons.mpr ⟨wd_1135, (List.forall_mem_cons.mpr ⟨wd_1134, (List.forall_mem_cons.mpr ⟨wd_1434, (List.forall_mem_cons.mpr ⟨wd_1433, (List.forall_mem_cons.mpr ⟨wd_1514, (List.forall_mem_cons.mpr ⟨wd_1132, (List.forall_mem_cons.mpr ⟨wd_1131, (List.forall_mem_cons.mpr ⟨wd_1130, (List.forall_mem_cons.mpr ⟨wd_1129, (List.forall_mem_cons.mpr ⟨wd_1047, (List.forall_mem_cons.mpr ⟨wd_1046, (List.forall_mem_cons.mpr ⟨wd_1045, (List.forall_mem_cons.mpr ⟨wd_1044, (List.forall_mem_cons.mpr ⟨wd_1128, (List.forall_mem_cons.mpr ⟨wd_1156, (List.forall_mem_cons.mpr ⟨wd_1155, (List.forall_mem_cons.mpr ⟨wd_1154, (List.forall_mem_cons.mpr ⟨wd_1513, (List.forall_mem_cons.mpr ⟨wd_1152, (List.forall_mem_cons.mpr ⟨wd_1151, (List.forall_mem_cons.mpr ⟨wd_1150, (fun _ h => absurd h List.not_mem_nil)⟩)⟩)⟩)⟩)⟩)⟩)⟩)⟩)⟩)⟩)⟩)⟩)⟩)⟩)⟩)⟩)⟩)⟩)⟩)⟩)⟩)⟩)
set_option maxRecDepth 20000 in
theorem hl_wsX11_came : ∀ w ∈ wsX11_came, w ∈ lw_tbl := by
  unfold wsX11_came
  exact (List.forall_mem_cons.mpr ⟨wd_1503, (List.forall_mem_append.mpr ⟨(List.forall_mem_append.mpr ⟨(List.forall_mem_append.mpr ⟨(List.forall_mem_append.mpr ⟨(List.forall_mem_append.mpr ⟨(List.forall_mem_append.mpr ⟨(List.forall_mem_append.mpr ⟨(List.forall_mem_append.mpr ⟨hl_wsX11_came_r1, (List.forall_mem_append.mpr ⟨hl_wsX11_came_r2, (List.forall_mem_append.mpr ⟨hl_wsX11_came_r3, (List.forall_mem_append.mpr ⟨hl_wsX11_came_r4, (List.forall_mem_append.mpr ⟨hl_wsX11_came_r5, (List.forall_mem_append.mpr ⟨hl_wsX11_came_r6, hl_wsX11_came_r7⟩)⟩)⟩)⟩)⟩)⟩), hl_wsX110⟩), hl_wsX90⟩), hl_wsX100⟩), hl_wsX50⟩), hl_wsX40⟩), hl_wsX70⟩), hl_wsX00⟩)⟩)
theorem wd_1515 : Cond.selects RX12 yX12_came yX12_came ∈ lw_tbl := mt_8 (List.mem_of_getElem? (i := 139) rfl)
theorem wd_1516 : Cond.instanceMethod yX12_came ∈ lw_tbl := mt_8 (List.mem_of_getElem? (i := 138) rfl)
theorem wd_1517 : Cond.methodLink RL 168 yX12_came ∈ lw_tbl := mt_8 (List.mem_of_getElem? (i := 137) rfl)
theorem wd_1518 : Cond.code yX12_came cX12_came 3 (some .long) ∈ lw_tbl := mt_8 (List.mem_of_getElem? (i := 140) rfl)
theorem wd_1519 : Cond.code yX12_noGone cX12_noGone 4 (some .int) ∈ lw_tbl := mt_8 (List.mem_of_getElem? (i := 144) rfl)
theorem wd_1520 : Cond.selects RX12 yX12_noGone yX12_noGone ∈ lw_tbl := mp_8 (q := (⟨"OneOfEachModel", "noGone", "(I)I"⟩, 32)) (List.mem_of_getElem? (i := 6) rfl)
theorem wd_1521 : Cond.instanceMethod yX12_noGone ∈ lw_tbl := mt_8 (List.mem_of_getElem? (i := 143) rfl)
theorem wd_1522 : Cond.methodLink RX12 444 yX12_noGone ∈ lw_tbl := mt_8 (List.mem_of_getElem? (i := 141) rfl)
set_option maxRecDepth 20000 in
theorem hl_wsX12_came_r1 : ∀ w ∈ wsX12_came_r1, w ∈ lw_tbl := by
  unfold wsX12_came_r1
  exact (List.forall_mem_cons.mpr ⟨wd_34, (List.forall_mem_cons.mpr ⟨wd_1522, (List.forall_mem_cons.mpr ⟨wd_1521, (List.forall_mem_cons.mpr ⟨wd_1520, (List.forall_mem_cons.mpr ⟨wd_27, (List.forall_mem_cons.mpr ⟨wd_1519, (List.forall_mem_cons.mpr ⟨wd_952, (List.forall_mem_cons.mpr ⟨wd_913, (List.forall_mem_cons.mpr ⟨wd_951, (List.forall_mem_cons.mpr ⟨wd_970, (List.forall_mem_cons.mpr ⟨wd_961, (List.forall_mem_cons.mpr ⟨wd_960, (List.forall_mem_cons.mpr ⟨wd_959, (List.forall_mem_cons.mpr ⟨wd_958, (List.forall_mem_cons.mpr ⟨wd_963, (List.forall_mem_cons.mpr ⟨wd_957, (List.forall_mem_cons.mpr ⟨wd_422, (List.forall_mem_cons.mpr ⟨wd_421, (List.forall_mem_cons.mpr ⟨wd_420, (List.forall_mem_cons.mpr ⟨wd_630, (List.forall_mem_cons.mpr ⟨wd_629, (List.forall_mem_cons.mpr ⟨wd_628, (List.forall_mem_cons.mpr ⟨wd_627, (List.forall_mem_cons.mpr ⟨wd_423, (fun _ h => absurd h List.not_mem_nil)⟩)⟩)⟩)⟩)⟩)⟩)⟩)⟩)⟩)⟩)⟩)⟩)⟩)⟩)⟩)⟩)⟩)⟩)⟩)⟩)⟩)⟩)⟩)⟩)
theorem wd_1523 : Cond.code yX12_cameBy cX12_cameBy 5 (some .long) ∈ lw_tbl := mt_8 (List.mem_of_getElem? (i := 148) rfl)
theorem wd_1524 : Cond.selects RX12 yX12_cameBy yX12_cameBy ∈ lw_tbl := mp_8 (q := (⟨"OneOfEachModel", "cameBy", "(III)J"⟩, 32)) (List.mem_of_getElem? (i := 7) rfl)
theorem wd_1525 : Cond.instanceMethod yX12_cameBy ∈ lw_tbl := mt_8 (List.mem_of_getElem? (i := 147) rfl)
theorem wd_1526 : Cond.methodLink RX12 447 yX12_cameBy ∈ lw_tbl := mt_8 (List.mem_of_getElem? (i := 145) rfl)
set_option maxRecDepth 20000 in
theorem hl_wsX12_came_r2 : ∀ w ∈ wsX12_came_r2, w ∈ lw_tbl := by
  unfold wsX12_came_r2
  exact (List.forall_mem_cons.mpr ⟨wd_1526, (List.forall_mem_cons.mpr ⟨wd_1525, (List.forall_mem_cons.mpr ⟨wd_1524, (List.forall_mem_cons.mpr ⟨wd_1523, (List.forall_mem_cons.mpr ⟨wd_1087, (List.forall_mem_cons.mpr ⟨wd_1086, (List.forall_mem_cons.mpr ⟨wd_1085, (List.forall_mem_cons.mpr ⟨wd_1084, (List.forall_mem_cons.mpr ⟨wd_1083, (List.forall_mem_cons.mpr ⟨wd_648, (List.forall_mem_cons.mpr ⟨wd_647, (List.forall_mem_cons.mpr ⟨wd_646, (List.forall_mem_cons.mpr ⟨wd_645, (List.forall_mem_cons.mpr ⟨wd_618, (List.forall_mem_cons.mpr ⟨wd_617, (List.forall_mem_cons.mpr ⟨wd_616, (List.forall_mem_cons.mpr ⟨wd_615, (List.forall_mem_cons.mpr ⟨wd_614, (List.forall_mem_cons.mpr ⟨wd_613, (List.forall_mem_cons.mpr ⟨wd_654, (List.forall_mem_cons.mpr ⟨wd_653, (List.forall_mem_cons.mpr ⟨wd_652, (List.forall_mem_cons.mpr ⟨wd_651, (List.forall_mem_cons.mpr ⟨wd_650, (fun _ h => absurd h List.not_mem_nil)⟩)⟩)⟩)⟩)⟩)⟩)⟩)⟩)⟩)⟩)⟩)⟩)⟩)⟩)⟩)⟩)⟩)⟩)⟩)⟩)⟩)⟩)⟩)⟩)
set_option maxRecDepth 20000 in
theorem hl_wsX12_came_r3 : ∀ w ∈ wsX12_came_r3, w ∈ lw_tbl := by
  unfold wsX12_came_r3
  exact (List.forall_mem_cons.mpr ⟨wd_649, (List.forall_mem_cons.mpr ⟨wd_644, (List.forall_mem_cons.mpr ⟨wd_643, (List.forall_mem_cons.mpr ⟨wd_642, (List.forall_mem_cons.mpr ⟨wd_641, (List.forall_mem_cons.mpr ⟨wd_640, (List.forall_mem_cons.mpr ⟨wd_639, (List.forall_mem_cons.mpr ⟨wd_638, (List.forall_mem_cons.mpr ⟨wd_637, (List.forall_mem_cons.mpr ⟨wd_636, (List.forall_mem_cons.mpr ⟨wd_635, (List.forall_mem_cons.mpr ⟨wd_634, (List.forall_mem_cons.mpr ⟨wd_633, (List.forall_mem_cons.mpr ⟨wd_632, (List.forall_mem_cons.mpr ⟨wd_631, (List.forall_mem_cons.mpr ⟨wd_665, (List.forall_mem_cons.mpr ⟨wd_664, (List.forall_mem_cons.mpr ⟨wd_663, (List.forall_mem_cons.mpr ⟨wd_662, (List.forall_mem_cons.mpr ⟨wd_661, (List.forall_mem_cons.mpr ⟨wd_660, (List.forall_mem_cons.mpr ⟨wd_659, (List.forall_mem_cons.mpr ⟨wd_658, (List.forall_mem_cons.mpr ⟨wd_657, (fun _ h => absurd h List.not_mem_nil)⟩)⟩)⟩)⟩)⟩)⟩)⟩)⟩)⟩)⟩)⟩)⟩)⟩)⟩)⟩)⟩)⟩)⟩)⟩)⟩)⟩)⟩)⟩)⟩)
set_option maxRecDepth 20000 in
theorem hl_wsX12_came_r4 : ∀ w ∈ wsX12_came_r4, w ∈ lw_tbl := by
  unfold wsX12_came_r4
  exact (List.forall_mem_cons.mpr ⟨wd_656, (List.forall_mem_cons.mpr ⟨wd_655, (List.forall_mem_cons.mpr ⟨wd_1176, (List.forall_mem_cons.mpr ⟨wd_1175, (List.forall_mem_cons.mpr ⟨wd_1174, (List.forall_mem_cons.mpr ⟨wd_1173, (List.forall_mem_cons.mpr ⟨wd_1172, (List.forall_mem_cons.mpr ⟨wd_1171, (List.forall_mem_cons.mpr ⟨wd_1170, (List.forall_mem_cons.mpr ⟨wd_1169, (List.forall_mem_cons.mpr ⟨wd_1168, (List.forall_mem_cons.mpr ⟨wd_1167, (List.forall_mem_cons.mpr ⟨wd_1095, (List.forall_mem_cons.mpr ⟨wd_1094, (List.forall_mem_cons.mpr ⟨wd_1093, (List.forall_mem_cons.mpr ⟨wd_1092, (List.forall_mem_cons.mpr ⟨wd_1283, (List.forall_mem_cons.mpr ⟨wd_1282, (List.forall_mem_cons.mpr ⟨wd_1281, (List.forall_mem_cons.mpr ⟨wd_1280, (fun _ h => absurd h List.not_mem_nil)⟩)⟩)⟩)⟩)⟩)⟩)⟩)⟩)⟩)⟩)⟩)⟩)⟩)⟩)⟩)⟩)⟩)⟩)⟩)⟩)
set_option maxRecDepth 20000 in
theorem hl_wsX12_came : ∀ w ∈ wsX12_came, w ∈ lw_tbl := by
  unfold wsX12_came
  exact (List.forall_mem_cons.mpr ⟨wd_1518, (List.forall_mem_append.mpr ⟨(List.forall_mem_append.mpr ⟨hl_wsX12_came_r1, (List.forall_mem_append.mpr ⟨hl_wsX12_came_r2, (List.forall_mem_append.mpr ⟨hl_wsX12_came_r3, hl_wsX12_came_r4⟩)⟩)⟩), hl_wsX120⟩)⟩)
def tL_came : List Cond := (wsV RL 165 RX11 yX11_came wsX11_came) ++ (wsV RL 168 RX12 yX12_came wsX12_came)
theorem tL_came_in : ∀ w ∈ tL_came, w ∈ lw_tbl := by
  unfold tL_came
  exact (List.forall_mem_append.mpr ⟨(List.forall_mem_append.mpr ⟨(List.forall_mem_cons.mpr ⟨wd_1502, (List.forall_mem_cons.mpr ⟨wd_1501, (List.forall_mem_cons.mpr ⟨wd_1500, (List.forall_mem_cons.mpr ⟨wd_0, (fun _ h => absurd h List.not_mem_nil)⟩)⟩)⟩)⟩), hl_wsX11_came⟩), (List.forall_mem_append.mpr ⟨(List.forall_mem_cons.mpr ⟨wd_1517, (List.forall_mem_cons.mpr ⟨wd_1516, (List.forall_mem_cons.mpr ⟨wd_1515, (List.forall_mem_cons.mpr ⟨wd_27, (fun _ h => absurd h List.not_mem_nil)⟩)⟩)⟩)⟩), hl_wsX12_came⟩)⟩)
set_option maxRecDepth 20000 in
theorem tL_came_x : GoodIn tL_came (wsV RL 165 RX11 yX11_came wsX11_came) := fun w h => ⟨List.mem_append_left _ h, good_of_word (List.all_eq_true.mp (show (wsV RL 165 RX11 yX11_came wsX11_came).all goodWord = true by decide +kernel) w h)⟩
set_option maxRecDepth 20000 in
theorem tL_came_m : GoodIn tL_came (wsV RL 168 RX12 yX12_came wsX12_came) := fun w h => ⟨List.mem_append_right _ h, good_of_word (List.all_eq_true.mp (show (wsV RL 168 RX12 yX12_came wsX12_came).all goodWord = true by decide +kernel) w h)⟩
theorem hdLX11_came : yX11_came.cls = RX11 ∧ yX11_came.cls ≠ "java/lang/invoke/MethodHandle" ∧ yX11_came.cls ≠ "java/lang/invoke/VarHandle" ∧ (parseMethodDescriptor yX11_came.desc).map (fun d => d.parameters.length) = some 1 := by decide +kernel
theorem hdLX12_came : yX12_came.cls = RX12 ∧ yX12_came.cls ≠ "java/lang/invoke/MethodHandle" ∧ yX12_came.cls ≠ "java/lang/invoke/VarHandle" ∧ (parseMethodDescriptor yX12_came.desc).map (fun d => d.parameters.length) = some 1 := by decide +kernel
theorem wd_1527 : Cond.selects RX11 yX11_who yX11_who ∈ lw_tbl := mt_5 (List.mem_of_getElem? (i := 193) rfl)
theorem wd_1528 : Cond.instanceMethod yX11_who ∈ lw_tbl := mt_5 (List.mem_of_getElem? (i := 192) rfl)
theorem wd_1529 : Cond.methodLink RL 169 yX11_who ∈ lw_tbl := mt_5 (List.mem_of_getElem? (i := 191) rfl)
theorem wd_1530 : Cond.code yX11_who cX11_who 4 (some .int) ∈ lw_tbl := mt_5 (List.mem_of_getElem? (i := 194) rfl)
set_option maxRecDepth 20000 in
theorem hl_wsX11_who_r1 : ∀ w ∈ wsX11_who_r1, w ∈ lw_tbl := by
  unfold wsX11_who_r1
  exact (List.forall_mem_cons.mpr ⟨wd_929, (List.forall_mem_cons.mpr ⟨wd_1034, (List.forall_mem_cons.mpr ⟨wd_85, (List.forall_mem_cons.mpr ⟨wd_84, (List.forall_mem_cons.mpr ⟨wd_555, (List.forall_mem_cons.mpr ⟨wd_1413, (List.forall_mem_cons.mpr ⟨wd_1507, (List.forall_mem_cons.mpr ⟨wd_1506, (List.forall_mem_cons.mpr ⟨wd_1505, (List.forall_mem_cons.mpr ⟨wd_0, (List.forall_mem_cons.mpr ⟨wd_1504, (List.forall_mem_cons.mpr ⟨wd_852, (List.forall_mem_cons.mpr ⟨wd_550, (List.forall_mem_cons.mpr ⟨wd_990, (List.forall_mem_cons.mpr ⟨wd_989, (List.forall_mem_cons.mpr ⟨wd_988, (List.forall_mem_cons.mpr ⟨wd_987, (List.forall_mem_cons.mpr ⟨wd_926, (List.forall_mem_cons.mpr ⟨wd_925, (List.forall_mem_cons.mpr ⟨wd_924, (List.forall_mem_cons.mpr ⟨wd_923, (List.forall_mem_cons.mpr ⟨wd_922, (List.forall_mem_cons.mpr ⟨wd_921, (List.forall_mem_cons.mpr ⟨wd_920, (fun _ h => absurd h List.not_mem_nil)⟩)⟩)⟩)⟩)⟩)⟩)⟩)⟩)⟩)⟩)⟩)⟩)⟩)⟩)⟩)⟩)⟩)⟩)⟩)⟩)⟩)⟩)⟩)⟩)
theorem wd_1531 : Cond.methodLink RX11 376 yX10_has ∈ lw_tbl := mt_5 (List.mem_of_getElem? (i := 195) rfl)
set_option maxRecDepth 20000 in
theorem hl_wsX11_who_r2 : ∀ w ∈ wsX11_who_r2, w ∈ lw_tbl := by
  unfold wsX11_who_r2
  exact (List.forall_mem_cons.mpr ⟨wd_919, (List.forall_mem_cons.mpr ⟨wd_918, (List.forall_mem_cons.mpr ⟨wd_940, (List.forall_mem_cons.mpr ⟨wd_939, (List.forall_mem_cons.mpr ⟨wd_938, (List.forall_mem_cons.mpr ⟨wd_937, (List.forall_mem_cons.mpr ⟨wd_936, (List.forall_mem_cons.mpr ⟨wd_134, (List.forall_mem_cons.mpr ⟨wd_133, (List.forall_mem_cons.mpr ⟨wd_132, (List.forall_mem_cons.mpr ⟨wd_935, (List.forall_mem_cons.mpr ⟨wd_934, (List.forall_mem_cons.mpr ⟨wd_933, (List.forall_mem_cons.mpr ⟨wd_932, (List.forall_mem_cons.mpr ⟨wd_931, (List.forall_mem_cons.mpr ⟨wd_930, (List.forall_mem_cons.mpr ⟨wd_943, (List.forall_mem_cons.mpr ⟨wd_942, (List.forall_mem_cons.mpr ⟨wd_941, (List.forall_mem_cons.mpr ⟨wd_1531, (List.forall_mem_cons.mpr ⟨wd_1033, (List.forall_mem_cons.mpr ⟨wd_1032, (List.forall_mem_cons.mpr ⟨wd_1031, (List.forall_mem_cons.mpr ⟨wd_1030, (fun _ h => absurd h List.not_mem_nil)⟩)⟩)⟩)⟩)⟩)⟩)⟩)⟩)⟩)⟩)⟩)⟩)⟩)⟩)⟩)⟩)⟩)⟩)⟩)⟩)⟩)⟩)⟩)⟩)
set_option maxRecDepth 20000 in
theorem hl_wsX11_who_r3 : ∀ w ∈ wsX11_who_r3, w ∈ lw_tbl := by
  unfold wsX11_who_r3
  exact (List.forall_mem_cons.mpr ⟨wd_1029, (List.forall_mem_cons.mpr ⟨wd_1028, (List.forall_mem_cons.mpr ⟨wd_1027, (List.forall_mem_cons.mpr ⟨wd_1026, (List.forall_mem_cons.mpr ⟨wd_1025, (List.forall_mem_cons.mpr ⟨wd_1024, (List.forall_mem_cons.mpr ⟨wd_1023, (List.forall_mem_cons.mpr ⟨wd_1022, (List.forall_mem_cons.mpr ⟨wd_1021, (List.forall_mem_cons.mpr ⟨wd_1020, (List.forall_mem_cons.mpr ⟨wd_1019, (List.forall_mem_cons.mpr ⟨wd_1018, (List.forall_mem_cons.mpr ⟨wd_1017, (List.forall_mem_cons.mpr ⟨wd_1016, (List.forall_mem_cons.mpr ⟨wd_744, (List.forall_mem_cons.mpr ⟨wd_743, (List.forall_mem_cons.mpr ⟨wd_102, (List.forall_mem_cons.mpr ⟨wd_742, (List.forall_mem_cons.mpr ⟨wd_100, (List.forall_mem_cons.mpr ⟨wd_1040, (List.forall_mem_cons.mpr ⟨wd_543, (List.forall_mem_cons.mpr ⟨wd_542, (List.forall_mem_cons.mpr ⟨wd_362, (List.forall_mem_cons.mpr ⟨wd_541, (fun _ h => absurd h List.not_mem_nil)⟩)⟩)⟩)⟩)⟩)⟩)⟩)⟩)⟩)⟩)⟩)⟩)⟩)⟩)⟩)⟩)⟩)⟩)⟩)⟩)⟩)⟩)⟩)⟩)
set_option maxRecDepth 20000 in
theorem hl_wsX11_who_r4 : ∀ w ∈ wsX11_who_r4, w ∈ lw_tbl := by
  unfold wsX11_who_r4
  exact (List.forall_mem_cons.mpr ⟨wd_540, (List.forall_mem_cons.mpr ⟨wd_578, (List.forall_mem_cons.mpr ⟨wd_577, (List.forall_mem_cons.mpr ⟨wd_360, (List.forall_mem_cons.mpr ⟨wd_576, (List.forall_mem_cons.mpr ⟨wd_575, (List.forall_mem_cons.mpr ⟨wd_574, (List.forall_mem_cons.mpr ⟨wd_573, (List.forall_mem_cons.mpr ⟨wd_1039, (List.forall_mem_cons.mpr ⟨wd_358, (List.forall_mem_cons.mpr ⟨wd_357, (List.forall_mem_cons.mpr ⟨wd_356, (List.forall_mem_cons.mpr ⟨wd_1038, (List.forall_mem_cons.mpr ⟨wd_1037, (List.forall_mem_cons.mpr ⟨wd_1036, (List.forall_mem_cons.mpr ⟨wd_1035, (List.forall_mem_cons.mpr ⟨wd_1043, (List.forall_mem_cons.mpr ⟨wd_1042, (List.forall_mem_cons.mpr ⟨wd_1041, (List.forall_mem_cons.mpr ⟨wd_571, (List.forall_mem_cons.mpr ⟨wd_570, (List.forall_mem_cons.mpr ⟨wd_569, (List.forall_mem_cons.mpr ⟨wd_568, (List.forall_mem_cons.mpr ⟨wd_567, (fun _ h => absurd h List.not_mem_nil)⟩)⟩)⟩)⟩)⟩)⟩)⟩)⟩)⟩)⟩)⟩)⟩)⟩)⟩)⟩)⟩)⟩)⟩)⟩)⟩)⟩)⟩)⟩)⟩)
set_option maxRecDepth 20000 in
theorem hl_wsX11_who_r5 : ∀ w ∈ wsX11_who_r5, w ∈ lw_tbl := by
  unfold wsX11_who_r5
  exact (List.forall_mem_cons.mpr ⟨wd_566, (List.forall_mem_cons.mpr ⟨wd_565, (List.forall_mem_cons.mpr ⟨wd_564, (List.forall_mem_cons.mpr ⟨wd_563, (List.forall_mem_cons.mpr ⟨wd_562, (List.forall_mem_cons.mpr ⟨wd_561, (List.forall_mem_cons.mpr ⟨wd_560, (List.forall_mem_cons.mpr ⟨wd_559, (List.forall_mem_cons.mpr ⟨wd_602, (List.forall_mem_cons.mpr ⟨wd_601, (List.forall_mem_cons.mpr ⟨wd_600, (List.forall_mem_cons.mpr ⟨wd_599, (List.forall_mem_cons.mpr ⟨wd_598, (List.forall_mem_cons.mpr ⟨wd_597, (List.forall_mem_cons.mpr ⟨wd_596, (List.forall_mem_cons.mpr ⟨wd_595, (List.forall_mem_cons.mpr ⟨wd_594, (List.forall_mem_cons.mpr ⟨wd_593, (List.forall_mem_cons.mpr ⟨wd_592, (List.forall_mem_cons.mpr ⟨wd_591, (List.forall_mem_cons.mpr ⟨wd_590, (List.forall_mem_cons.mpr ⟨wd_589, (List.forall_mem_cons.mpr ⟨wd_588, (List.forall_mem_cons.mpr ⟨wd_587, (fun _ h => absurd h List.not_mem_nil)⟩)⟩)⟩)⟩)⟩)⟩)⟩)⟩)⟩)⟩)⟩)⟩)⟩)⟩)⟩)⟩)⟩)⟩)⟩)⟩)⟩)⟩)⟩)⟩)
theorem wd_1532 : Cond.code yX0_comers cX0_comers 5 (some .int) ∈ lw_tbl := mt_5 (List.mem_of_getElem? (i := 199) rfl)
theorem wd_1533 : Cond.selects RX0 yX0_comers yX0_comers ∈ lw_tbl := mt_5 (List.mem_of_getElem? (i := 198) rfl)
theorem wd_1534 : Cond.instanceMethod yX0_comers ∈ lw_tbl := mt_5 (List.mem_of_getElem? (i := 197) rfl)
theorem wd_1535 : Cond.methodLink RX11 379 yX0_comers ∈ lw_tbl := mt_5 (List.mem_of_getElem? (i := 196) rfl)
set_option maxRecDepth 20000 in
theorem hl_wsX11_who_r6 : ∀ w ∈ wsX11_who_r6, w ∈ lw_tbl := by
  unfold wsX11_who_r6
  exact (List.forall_mem_cons.mpr ⟨wd_586, (List.forall_mem_cons.mpr ⟨wd_585, (List.forall_mem_cons.mpr ⟨wd_584, (List.forall_mem_cons.mpr ⟨wd_583, (List.forall_mem_cons.mpr ⟨wd_582, (List.forall_mem_cons.mpr ⟨wd_581, (List.forall_mem_cons.mpr ⟨wd_580, (List.forall_mem_cons.mpr ⟨wd_579, (List.forall_mem_cons.mpr ⟨wd_608, (List.forall_mem_cons.mpr ⟨wd_607, (List.forall_mem_cons.mpr ⟨wd_606, (List.forall_mem_cons.mpr ⟨wd_605, (List.forall_mem_cons.mpr ⟨wd_604, (List.forall_mem_cons.mpr ⟨wd_603, (List.forall_mem_cons.mpr ⟨wd_1535, (List.forall_mem_cons.mpr ⟨wd_1534, (List.forall_mem_cons.mpr ⟨wd_1533, (List.forall_mem_cons.mpr ⟨wd_1428, (List.forall_mem_cons.mpr ⟨wd_1532, (List.forall_mem_cons.mpr ⟨wd_1443, (List.forall_mem_cons.mpr ⟨wd_1425, (List.forall_mem_cons.mpr ⟨wd_1485, (List.forall_mem_cons.mpr ⟨wd_1434, (List.forall_mem_cons.mpr ⟨wd_1433, (fun _ h => absurd h List.not_mem_nil)⟩)⟩)⟩)⟩)⟩)⟩)⟩)⟩)⟩)⟩)⟩)⟩)⟩)⟩)⟩)⟩)⟩)⟩)⟩)⟩)⟩)⟩)⟩)⟩)
theorem wd_1536 : Cond.code yX0_fitting cX0_fitting 6 (some .int) ∈ lw_tbl := mt_5 (List.mem_of_getElem? (i := 211) rfl)
theorem wd_1537 : Cond.selects RX0 yX0_fitting yX0_fitting ∈ lw_tbl := mp_3 (q := (⟨"OneOfEach$Clues", "fitting", "(II)I"⟩, 5)) (List.mem_of_getElem? (i := 14) rfl)
theorem wd_1538 : Cond.instanceMethod yX0_fitting ∈ lw_tbl := mt_5 (List.mem_of_getElem? (i := 210) rfl)
theorem wd_1539 : Cond.methodLink RX0 88 yX0_fitting ∈ lw_tbl := mt_5 (List.mem_of_getElem? (i := 208) rfl)
theorem wd_1540 : Cond.code yX5_isMet cX5_isMet 2 (some .boolean) ∈ lw_tbl := mt_5 (List.mem_of_getElem? (i := 207) rfl)
theorem wd_1541 : Cond.selects RX5 yX5_isMet yX5_isMet ∈ lw_tbl := mt_5 (List.mem_of_getElem? (i := 206) rfl)
theorem wd_1542 : Cond.instanceMethod yX5_isMet ∈ lw_tbl := mt_5 (List.mem_of_getElem? (i := 205) rfl)
theorem wd_1543 : Cond.methodLink RX0 91 yX5_isMet ∈ lw_tbl := mt_5 (List.mem_of_getElem? (i := 204) rfl)
theorem wd_1544 : Cond.code yX0_stepBack cX0_stepBack 3 none ∈ lw_tbl := mt_5 (List.mem_of_getElem? (i := 203) rfl)
theorem wd_1545 : Cond.selects RX0 yX0_stepBack yX0_stepBack ∈ lw_tbl := mp_3 (q := (⟨"OneOfEach$Clues", "stepBack", "(I)V"⟩, 5)) (List.mem_of_getElem? (i := 13) rfl)
theorem wd_1546 : Cond.instanceMethod yX0_stepBack ∈ lw_tbl := mt_5 (List.mem_of_getElem? (i := 202) rfl)
theorem wd_1547 : Cond.methodLink RX0 81 yX0_stepBack ∈ lw_tbl := mt_5 (List.mem_of_getElem? (i := 200) rfl)
set_option maxRecDepth 20000 in
theorem hl_wsX11_who_r7 : ∀ w ∈ wsX11_who_r7, w ∈ lw_tbl := by
  unfold wsX11_who_r7
  exact (List.forall_mem_cons.mpr ⟨wd_1547, (List.forall_mem_cons.mpr ⟨wd_1546, (List.forall_mem_cons.mpr ⟨wd_1545, (List.forall_mem_cons.mpr ⟨wd_1544, (List.forall_mem_cons.mpr ⟨wd_1442, (List.forall_mem_cons.mpr ⟨wd_1441, (List.forall_mem_cons.mpr ⟨wd_1440, (List.forall_mem_cons.mpr ⟨wd_1439, (List.forall_mem_cons.mpr ⟨wd_1543, (List.forall_mem_cons.mpr ⟨wd_1542, (List.forall_mem_cons.mpr ⟨wd_1541, (List.forall_mem_cons.mpr ⟨wd_1540, (List.forall_mem_cons.mpr ⟨wd_1539, (List.forall_mem_cons.mpr ⟨wd_1538, (List.forall_mem_cons.mpr ⟨wd_1537, (List.forall_mem_cons.mpr ⟨wd_1536, (List.forall_mem_cons.mpr ⟨wd_1480, (List.forall_mem_cons.mpr ⟨wd_1479, (List.forall_mem_cons.mpr ⟨wd_1478, (List.forall_mem_cons.mpr ⟨wd_1477, (List.forall_mem_cons.mpr ⟨wd_1432, (List.forall_mem_cons.mpr ⟨wd_1046, (List.forall_mem_cons.mpr ⟨wd_1045, (List.forall_mem_cons.mpr ⟨wd_1044, (fun _ h => absurd h List.not_mem_nil)⟩)⟩)⟩)⟩)⟩)⟩)⟩)⟩)⟩)⟩)⟩)⟩)⟩)⟩)⟩)⟩)⟩)⟩)⟩)⟩)⟩)⟩)⟩)⟩)
theorem wd_1548 : Cond.code yX5_isOnRow cX5_isOnRow 2 (some .boolean) ∈ lw_tbl := mt_5 (List.mem_of_getElem? (i := 215) rfl)
theorem wd_1549 : Cond.selects RX5 yX5_isOnRow yX5_isOnRow ∈ lw_tbl := mt_5 (List.mem_of_getElem? (i := 214) rfl)
theorem wd_1550 : Cond.instanceMethod yX5_isOnRow ∈ lw_tbl := mt_5 (List.mem_of_getElem? (i := 213) rfl)
theorem wd_1551 : Cond.methodLink RX0 84 yX5_isOnRow ∈ lw_tbl := mt_5 (List.mem_of_getElem? (i := 212) rfl)
set_option maxRecDepth 20000 in
theorem hl_wsX11_who_r8 : ∀ w ∈ wsX11_who_r8, w ∈ lw_tbl := by
  unfold wsX11_who_r8
  exact (List.forall_mem_cons.mpr ⟨wd_1508, (List.forall_mem_cons.mpr ⟨wd_1140, (List.forall_mem_cons.mpr ⟨wd_1139, (List.forall_mem_cons.mpr ⟨wd_1138, (List.forall_mem_cons.mpr ⟨wd_1137, (List.forall_mem_cons.mpr ⟨wd_1136, (List.forall_mem_cons.mpr ⟨wd_1135, (List.forall_mem_cons.mpr ⟨wd_1134, (List.forall_mem_cons.mpr ⟨wd_1514, (List.forall_mem_cons.mpr ⟨wd_1132, (List.forall_mem_cons.mpr ⟨wd_1131, (List.forall_mem_cons.mpr ⟨wd_1130, (List.forall_mem_cons.mpr ⟨wd_1129, (List.forall_mem_cons.mpr ⟨wd_1047, (List.forall_mem_cons.mpr ⟨wd_1128, (List.forall_mem_cons.mpr ⟨wd_1156, (List.forall_mem_cons.mpr ⟨wd_1155, (List.forall_mem_cons.mpr ⟨wd_1154, (List.forall_mem_cons.mpr ⟨wd_1551, (List.forall_mem_cons.mpr ⟨wd_1550, (List.forall_mem_cons.mpr ⟨wd_1549, (List.forall_mem_cons.mpr ⟨wd_1548, (fun _ h => absurd h List.not_mem_nil)⟩)⟩)⟩)⟩)⟩)⟩)⟩)⟩)⟩)⟩)⟩)⟩)⟩)⟩)⟩)⟩)⟩)⟩)⟩)⟩)⟩)⟩)
set_option maxRecDepth 20000 in
theorem hl_wsX11_who : ∀ w ∈ wsX11_who, w ∈ lw_tbl := by
  unfold wsX11_who
  exact (List.forall_mem_cons.mpr ⟨wd_1530, (List.forall_mem_append.mpr ⟨(List.forall_mem_append.mpr ⟨(List.forall_mem_append.mpr ⟨(List.forall_mem_append.mpr ⟨(List.forall_mem_append.mpr ⟨(List.forall_mem_append.mpr ⟨(List.forall_mem_append.mpr ⟨(List.forall_mem_append.mpr ⟨hl_wsX11_who_r1, (List.forall_mem_append.mpr ⟨hl_wsX11_who_r2, (List.forall_mem_append.mpr ⟨hl_wsX11_who_r3, (List.forall_mem_append.mpr ⟨hl_wsX11_who_r4, (List.forall_mem_append.mpr ⟨hl_wsX11_who_r5, (List.forall_mem_append.mpr ⟨hl_wsX11_who_r6, (List.forall_mem_append.mpr ⟨hl_wsX11_who_r7, hl_wsX11_who_r8⟩)⟩)⟩)⟩)⟩)⟩)⟩), hl_wsX110⟩), hl_wsX90⟩), hl_wsX100⟩), hl_wsX50⟩), hl_wsX40⟩), hl_wsX70⟩), hl_wsX00⟩)⟩)
theorem wd_1552 : Cond.selects RX12 yX12_who yX12_who ∈ lw_tbl := mt_8 (List.mem_of_getElem? (i := 151) rfl)
theorem wd_1553 : Cond.instanceMethod yX12_who ∈ lw_tbl := mt_8 (List.mem_of_getElem? (i := 150) rfl)
theorem wd_1554 : Cond.methodLink RL 172 yX12_who ∈ lw_tbl := mt_8 (List.mem_of_getElem? (i := 149) rfl)
theorem wd_1555 : Cond.code yX12_who cX12_who 6 (some .int) ∈ lw_tbl := mt_8 (List.mem_of_getElem? (i := 152) rfl)
set_option maxRecDepth 20000 in
theorem hl_wsX12_who_r1 : ∀ w ∈ wsX12_who_r1, w ∈ lw_tbl := by
  unfold wsX12_who_r1
  exact (List.forall_mem_cons.mpr ⟨wd_34, (List.forall_mem_cons.mpr ⟨wd_952, (List.forall_mem_cons.mpr ⟨wd_423, (List.forall_mem_cons.mpr ⟨wd_1522, (List.forall_mem_cons.mpr ⟨wd_1521, (List.forall_mem_cons.mpr ⟨wd_1520, (List.forall_mem_cons.mpr ⟨wd_27, (List.forall_mem_cons.mpr ⟨wd_1519, (List.forall_mem_cons.mpr ⟨wd_913, (List.forall_mem_cons.mpr ⟨wd_951, (List.forall_mem_cons.mpr ⟨wd_970, (List.forall_mem_cons.mpr ⟨wd_961, (List.forall_mem_cons.mpr ⟨wd_960, (List.forall_mem_cons.mpr ⟨wd_959, (List.forall_mem_cons.mpr ⟨wd_958, (List.forall_mem_cons.mpr ⟨wd_963, (List.forall_mem_cons.mpr ⟨wd_957, (List.forall_mem_cons.mpr ⟨wd_422, (List.forall_mem_cons.mpr ⟨wd_421, (List.forall_mem_cons.mpr ⟨wd_420, (List.forall_mem_cons.mpr ⟨wd_630, (List.forall_mem_cons.mpr ⟨wd_629, (List.forall_mem_cons.mpr ⟨wd_628, (List.forall_mem_cons.mpr ⟨wd_627, (fun _ h => absurd h List.not_mem_nil)⟩)⟩)⟩)⟩)⟩)⟩)⟩)⟩)⟩)⟩)⟩)⟩)⟩)⟩)⟩)⟩)⟩)⟩)⟩)⟩)⟩)⟩)⟩)⟩)
set_option maxRecDepth 20000 in
theorem hl_wsX12_who_r2 : ∀ w ∈ wsX12_who_r2, w ∈ lw_tbl := by
  unfold wsX12_who_r2
  exact (List.forall_mem_cons.mpr ⟨wd_1526, (List.forall_mem_cons.mpr ⟨wd_1525, (List.forall_mem_cons.mpr ⟨wd_1524, (List.forall_mem_cons.mpr ⟨wd_1523, (List.forall_mem_cons.mpr ⟨wd_1087, (List.forall_mem_cons.mpr ⟨wd_1086, (List.forall_mem_cons.mpr ⟨wd_1085, (List.forall_mem_cons.mpr ⟨wd_1084, (List.forall_mem_cons.mpr ⟨wd_1083, (List.forall_mem_cons.mpr ⟨wd_648, (List.forall_mem_cons.mpr ⟨wd_647, (List.forall_mem_cons.mpr ⟨wd_646, (List.forall_mem_cons.mpr ⟨wd_645, (List.forall_mem_cons.mpr ⟨wd_618, (List.forall_mem_cons.mpr ⟨wd_617, (List.forall_mem_cons.mpr ⟨wd_616, (List.forall_mem_cons.mpr ⟨wd_615, (List.forall_mem_cons.mpr ⟨wd_614, (List.forall_mem_cons.mpr ⟨wd_613, (List.forall_mem_cons.mpr ⟨wd_654, (List.forall_mem_cons.mpr ⟨wd_653, (List.forall_mem_cons.mpr ⟨wd_652, (List.forall_mem_cons.mpr ⟨wd_651, (List.forall_mem_cons.mpr ⟨wd_650, (fun _ h => absurd h List.not_mem_nil)⟩)⟩)⟩)⟩)⟩)⟩)⟩)⟩)⟩)⟩)⟩)⟩)⟩)⟩)⟩)⟩)⟩)⟩)⟩)⟩)⟩)⟩)⟩)⟩)
set_option maxRecDepth 20000 in
theorem hl_wsX12_who_r3 : ∀ w ∈ wsX12_who_r3, w ∈ lw_tbl := by
  unfold wsX12_who_r3
  exact (List.forall_mem_cons.mpr ⟨wd_649, (List.forall_mem_cons.mpr ⟨wd_644, (List.forall_mem_cons.mpr ⟨wd_643, (List.forall_mem_cons.mpr ⟨wd_642, (List.forall_mem_cons.mpr ⟨wd_641, (List.forall_mem_cons.mpr ⟨wd_640, (List.forall_mem_cons.mpr ⟨wd_639, (List.forall_mem_cons.mpr ⟨wd_638, (List.forall_mem_cons.mpr ⟨wd_637, (List.forall_mem_cons.mpr ⟨wd_636, (List.forall_mem_cons.mpr ⟨wd_635, (List.forall_mem_cons.mpr ⟨wd_634, (List.forall_mem_cons.mpr ⟨wd_633, (List.forall_mem_cons.mpr ⟨wd_632, (List.forall_mem_cons.mpr ⟨wd_631, (List.forall_mem_cons.mpr ⟨wd_665, (List.forall_mem_cons.mpr ⟨wd_664, (List.forall_mem_cons.mpr ⟨wd_663, (List.forall_mem_cons.mpr ⟨wd_662, (List.forall_mem_cons.mpr ⟨wd_661, (List.forall_mem_cons.mpr ⟨wd_660, (List.forall_mem_cons.mpr ⟨wd_659, (List.forall_mem_cons.mpr ⟨wd_658, (List.forall_mem_cons.mpr ⟨wd_657, (fun _ h => absurd h List.not_mem_nil)⟩)⟩)⟩)⟩)⟩)⟩)⟩)⟩)⟩)⟩)⟩)⟩)⟩)⟩)⟩)⟩)⟩)⟩)⟩)⟩)⟩)⟩)⟩)⟩)
set_option maxRecDepth 20000 in
theorem hl_wsX12_who_r4 : ∀ w ∈ wsX12_who_r4, w ∈ lw_tbl := by
  unfold wsX12_who_r4
  exact (List.forall_mem_cons.mpr ⟨wd_656, (List.forall_mem_cons.mpr ⟨wd_655, (List.forall_mem_cons.mpr ⟨wd_1176, (List.forall_mem_cons.mpr ⟨wd_1175, (List.forall_mem_cons.mpr ⟨wd_1174, (List.forall_mem_cons.mpr ⟨wd_1173, (List.forall_mem_cons.mpr ⟨wd_1172, (List.forall_mem_cons.mpr ⟨wd_1171, (List.forall_mem_cons.mpr ⟨wd_1170, (List.forall_mem_cons.mpr ⟨wd_1169, (List.forall_mem_cons.mpr ⟨wd_1168, (List.forall_mem_cons.mpr ⟨wd_1167, (List.forall_mem_cons.mpr ⟨wd_1095, (List.forall_mem_cons.mpr ⟨wd_1094, (List.forall_mem_cons.mpr ⟨wd_1093, (List.forall_mem_cons.mpr ⟨wd_1092, (List.forall_mem_cons.mpr ⟨wd_1283, (List.forall_mem_cons.mpr ⟨wd_1282, (List.forall_mem_cons.mpr ⟨wd_1281, (List.forall_mem_cons.mpr ⟨wd_1280, (fun _ h => absurd h List.not_mem_nil)⟩)⟩)⟩)⟩)⟩)⟩)⟩)⟩)⟩)⟩)⟩)⟩)⟩)⟩)⟩)⟩)⟩)⟩)⟩)⟩)
set_option maxRecDepth 20000 in
theorem hl_wsX12_who : ∀ w ∈ wsX12_who, w ∈ lw_tbl := by
  unfold wsX12_who
  exact (List.forall_mem_cons.mpr ⟨wd_1555, (List.forall_mem_append.mpr ⟨(List.forall_mem_append.mpr ⟨hl_wsX12_who_r1, (List.forall_mem_append.mpr ⟨hl_wsX12_who_r2, (List.forall_mem_append.mpr ⟨hl_wsX12_who_r3, hl_wsX12_who_r4⟩)⟩)⟩), hl_wsX120⟩)⟩)
def tL_who : List Cond := (wsV RL 169 RX11 yX11_who wsX11_who) ++ (wsV RL 172 RX12 yX12_who wsX12_who)
theorem tL_who_in : ∀ w ∈ tL_who, w ∈ lw_tbl := by
  unfold tL_who
  exact (List.forall_mem_append.mpr ⟨(List.forall_mem_append.mpr ⟨(List.forall_mem_cons.mpr ⟨wd_1529, (List.forall_mem_cons.mpr ⟨wd_1528, (List.forall_mem_cons.mpr ⟨wd_1527, (List.forall_mem_cons.mpr ⟨wd_0, (fun _ h => absurd h List.not_mem_nil)⟩)⟩)⟩)⟩), hl_wsX11_who⟩), (List.forall_mem_append.mpr ⟨(List.forall_mem_cons.mpr ⟨wd_1554, (List.forall_mem_cons.mpr ⟨wd_1553, (List.forall_mem_cons.mpr ⟨wd_1552, (List.forall_mem_cons.mpr ⟨wd_27, (fun _ h => absurd h List.not_mem_nil)⟩)⟩)⟩)⟩), hl_wsX12_who⟩)⟩)
set_option maxRecDepth 20000 in
theorem tL_who_x : GoodIn tL_who (wsV RL 169 RX11 yX11_who wsX11_who) := fun w h => ⟨List.mem_append_left _ h, good_of_word (List.all_eq_true.mp (show (wsV RL 169 RX11 yX11_who wsX11_who).all goodWord = true by decide +kernel) w h)⟩
set_option maxRecDepth 20000 in
theorem tL_who_m : GoodIn tL_who (wsV RL 172 RX12 yX12_who wsX12_who) := fun w h => ⟨List.mem_append_right _ h, good_of_word (List.all_eq_true.mp (show (wsV RL 172 RX12 yX12_who wsX12_who).all goodWord = true by decide +kernel) w h)⟩
theorem hdLX11_who : yX11_who.cls = RX11 ∧ yX11_who.cls ≠ "java/lang/invoke/MethodHandle" ∧ yX11_who.cls ≠ "java/lang/invoke/VarHandle" ∧ (parseMethodDescriptor yX11_who.desc).map (fun d => d.parameters.length) = some 2 := by decide +kernel
theorem hdLX12_who : yX12_who.cls = RX12 ∧ yX12_who.cls ≠ "java/lang/invoke/MethodHandle" ∧ yX12_who.cls ≠ "java/lang/invoke/VarHandle" ∧ (parseMethodDescriptor yX12_who.desc).map (fun d => d.parameters.length) = some 2 := by decide +kernel
theorem wd_1556 : Cond.selects RX11 yX11_numbers yX11_numbers ∈ lw_tbl := mt_5 (List.mem_of_getElem? (i := 218) rfl)
theorem wd_1557 : Cond.instanceMethod yX11_numbers ∈ lw_tbl := mt_5 (List.mem_of_getElem? (i := 217) rfl)
theorem wd_1558 : Cond.methodLink RL 173 yX11_numbers ∈ lw_tbl := mt_5 (List.mem_of_getElem? (i := 216) rfl)
theorem wd_1559 : Cond.code yX11_numbers cX11_numbers 4 (some .int) ∈ lw_tbl := mt_5 (List.mem_of_getElem? (i := 219) rfl)
theorem wd_1560 : Cond.methodLink RX10 28 yJ7_fill_d0a16 ∈ lw_tbl := mt_5 (List.mem_of_getElem? (i := 224) rfl)
theorem wd_1561 : Cond.fieldLink RX10 15 "OneOfEach$Tray" "sort" "I" ∈ lw_tbl := mt_2 (List.mem_of_getElem? (i := 94) rfl)
theorem wd_1562 : Cond.code yX10_layOut cX10_layOut 3 none ∈ lw_tbl := mt_5 (List.mem_of_getElem? (i := 223) rfl)
theorem wd_1563 : Cond.selects RX10 yX10_layOut yX10_layOut ∈ lw_tbl := mt_5 (List.mem_of_getElem? (i := 222) rfl)
theorem wd_1564 : Cond.instanceMethod yX10_layOut ∈ lw_tbl := mt_5 (List.mem_of_getElem? (i := 221) rfl)
theorem wd_1565 : Cond.methodLink RX11 383 yX10_layOut ∈ lw_tbl := mt_5 (List.mem_of_getElem? (i := 220) rfl)
set_option maxRecDepth 20000 in
theorem hl_wsX11_numbers : ∀ w ∈ wsX11_numbers, w ∈ lw_tbl := by
  unfold wsX11_numbers
  exact (List.forall_mem_cons.mpr ⟨wd_1559, (List.forall_mem_append.mpr ⟨(List.forall_mem_append.mpr ⟨(List.forall_mem_cons.mpr ⟨wd_929, (List.forall_mem_cons.mpr ⟨wd_926, (List.forall_mem_cons.mpr ⟨wd_925, (List.forall_mem_cons.mpr ⟨wd_0, (List.forall_mem_cons.mpr ⟨wd_924, (List.forall_mem_cons.mpr ⟨wd_1565, (List.forall_mem_cons.mpr ⟨wd_1564, (List.forall_mem_cons.mpr ⟨wd_1563, (List.forall_mem_cons.mpr ⟨wd_920, (List.forall_mem_cons.mpr ⟨wd_1562, (List.forall_mem_cons.mpr ⟨wd_931, (List.forall_mem_cons.mpr ⟨wd_1561, (List.forall_mem_cons.mpr ⟨wd_918, (List.forall_mem_cons.mpr ⟨wd_1560, (List.forall_mem_cons.mpr ⟨wd_1135, (List.forall_mem_cons.mpr ⟨wd_357, (List.forall_mem_cons.mpr ⟨wd_1134, (fun _ h => absurd h List.not_mem_nil)⟩)⟩)⟩)⟩)⟩)⟩)⟩)⟩)⟩)⟩)⟩)⟩)⟩)⟩)⟩)⟩)⟩), hl_wsX110⟩), hl_wsX100⟩)⟩)
theorem wd_1566 : Cond.selects RX12 yX12_numbers yX12_numbers ∈ lw_tbl := mt_8 (List.mem_of_getElem? (i := 155) rfl)
theorem wd_1567 : Cond.instanceMethod yX12_numbers ∈ lw_tbl := mt_8 (List.mem_of_getElem? (i := 154) rfl)
theorem wd_1568 : Cond.methodLink RL 176 yX12_numbers ∈ lw_tbl := mt_8 (List.mem_of_getElem? (i := 153) rfl)
theorem wd_1569 : Cond.code yX12_numbers cX12_numbers 5 (some .int) ∈ lw_tbl := mt_8 (List.mem_of_getElem? (i := 156) rfl)
set_option maxRecDepth 20000 in
theorem hl_wsX12_numbers : ∀ w ∈ wsX12_numbers, w ∈ lw_tbl := by
  unfold wsX12_numbers
  exact (List.forall_mem_cons.mpr ⟨wd_1569, (List.forall_mem_append.mpr ⟨(List.forall_mem_cons.mpr ⟨wd_34, (List.forall_mem_cons.mpr ⟨wd_963, (List.forall_mem_cons.mpr ⟨wd_1011, (List.forall_mem_cons.mpr ⟨wd_957, (List.forall_mem_cons.mpr ⟨wd_952, (List.forall_mem_cons.mpr ⟨wd_951, (List.forall_mem_cons.mpr ⟨wd_422, (List.forall_mem_cons.mpr ⟨wd_421, (List.forall_mem_cons.mpr ⟨wd_27, (List.forall_mem_cons.mpr ⟨wd_420, (fun _ h => absurd h List.not_mem_nil)⟩)⟩)⟩)⟩)⟩)⟩)⟩)⟩)⟩)⟩), hl_wsX120⟩)⟩)
def tL_numbers : List Cond := (wsV RL 173 RX11 yX11_numbers wsX11_numbers) ++ (wsV RL 176 RX12 yX12_numbers wsX12_numbers)
theorem tL_numbers_in : ∀ w ∈ tL_numbers, w ∈ lw_tbl := by
  unfold tL_numbers
  exact (List.forall_mem_append.mpr ⟨(List.forall_mem_append.mpr ⟨(List.forall_mem_cons.mpr ⟨wd_1558, (List.forall_mem_cons.mpr ⟨wd_1557, (List.forall_mem_cons.mpr ⟨wd_1556, (List.forall_mem_cons.mpr ⟨wd_0, (fun _ h => absurd h List.not_mem_nil)⟩)⟩)⟩)⟩), hl_wsX11_numbers⟩), (List.forall_mem_append.mpr ⟨(List.forall_mem_cons.mpr ⟨wd_1568, (List.forall_mem_cons.mpr ⟨wd_1567, (List.forall_mem_cons.mpr ⟨wd_1566, (List.forall_mem_cons.mpr ⟨wd_27, (fun _ h => absurd h List.not_mem_nil)⟩)⟩)⟩)⟩), hl_wsX12_numbers⟩)⟩)
set_option maxRecDepth 20000 in
theorem tL_numbers_x : GoodIn tL_numbers (wsV RL 173 RX11 yX11_numbers wsX11_numbers) := fun w h => ⟨List.mem_append_left _ h, good_of_word (List.all_eq_true.mp (show (wsV RL 173 RX11 yX11_numbers wsX11_numbers).all goodWord = true by decide +kernel) w h)⟩
set_option maxRecDepth 20000 in
theorem tL_numbers_m : GoodIn tL_numbers (wsV RL 176 RX12 yX12_numbers wsX12_numbers) := fun w h => ⟨List.mem_append_right _ h, good_of_word (List.all_eq_true.mp (show (wsV RL 176 RX12 yX12_numbers wsX12_numbers).all goodWord = true by decide +kernel) w h)⟩
theorem hdLX11_numbers : yX11_numbers.cls = RX11 ∧ yX11_numbers.cls ≠ "java/lang/invoke/MethodHandle" ∧ yX11_numbers.cls ≠ "java/lang/invoke/VarHandle" ∧ (parseMethodDescriptor yX11_numbers.desc).map (fun d => d.parameters.length) = some 3 := by decide +kernel
theorem hdLX12_numbers : yX12_numbers.cls = RX12 ∧ yX12_numbers.cls ≠ "java/lang/invoke/MethodHandle" ∧ yX12_numbers.cls ≠ "java/lang/invoke/VarHandle" ∧ (parseMethodDescriptor yX12_numbers.desc).map (fun d => d.parameters.length) = some 3 := by decide +kernel
theorem wd_1570 : Cond.selects RX11 yX11_write yX11_write ∈ lw_tbl := mt_5 (List.mem_of_getElem? (i := 227) rfl)
theorem wd_1571 : Cond.instanceMethod yX11_write ∈ lw_tbl := mt_5 (List.mem_of_getElem? (i := 226) rfl)
theorem wd_1572 : Cond.methodLink RL 179 yX11_write ∈ lw_tbl := mt_5 (List.mem_of_getElem? (i := 225) rfl)
theorem wd_1573 : Cond.code yX11_write cX11_write 6 (some .long) ∈ lw_tbl := mt_5 (List.mem_of_getElem? (i := 228) rfl)
theorem wd_1574 : Cond.code yX10_put cX10_put 4 none ∈ lw_tbl := mt_5 (List.mem_of_getElem? (i := 233) rfl)
theorem wd_1575 : Cond.selects RX10 yX10_put yX10_put ∈ lw_tbl := mt_5 (List.mem_of_getElem? (i := 232) rfl)
theorem wd_1576 : Cond.instanceMethod yX10_put ∈ lw_tbl := mt_5 (List.mem_of_getElem? (i := 231) rfl)
theorem wd_1577 : Cond.methodLink RX11 389 yX10_put ∈ lw_tbl := mt_5 (List.mem_of_getElem? (i := 230) rfl)
theorem wd_1578 : Cond.constantLong RX11 387 (-7) ∈ lw_tbl := mt_5 (List.mem_of_getElem? (i := 229) rfl)
set_option maxRecDepth 20000 in
theorem hl_wsX11_write_r1 : ∀ w ∈ wsX11_write_r1, w ∈ lw_tbl := by
  unfold wsX11_write_r1
  exact (List.forall_mem_cons.mpr ⟨wd_929, (List.forall_mem_cons.mpr ⟨wd_1578, (List.forall_mem_cons.mpr ⟨wd_990, (List.forall_mem_cons.mpr ⟨wd_989, (List.forall_mem_cons.mpr ⟨wd_988, (List.forall_mem_cons.mpr ⟨wd_0, (List.forall_mem_cons.mpr ⟨wd_987, (List.forall_mem_cons.mpr ⟨wd_926, (List.forall_mem_cons.mpr ⟨wd_925, (List.forall_mem_cons.mpr ⟨wd_924, (List.forall_mem_cons.mpr ⟨wd_923, (List.forall_mem_cons.mpr ⟨wd_922, (List.forall_mem_cons.mpr ⟨wd_921, (List.forall_mem_cons.mpr ⟨wd_920, (List.forall_mem_cons.mpr ⟨wd_919, (List.forall_mem_cons.mpr ⟨wd_918, (List.forall_mem_cons.mpr ⟨wd_1531, (List.forall_mem_cons.mpr ⟨wd_943, (List.forall_mem_cons.mpr ⟨wd_942, (List.forall_mem_cons.mpr ⟨wd_941, (List.forall_mem_cons.mpr ⟨wd_1577, (List.forall_mem_cons.mpr ⟨wd_1576, (List.forall_mem_cons.mpr ⟨wd_1575, (List.forall_mem_cons.mpr ⟨wd_1574, (fun _ h => absurd h List.not_mem_nil)⟩)⟩)⟩)⟩)⟩)⟩)⟩)⟩)⟩)⟩)⟩)⟩)⟩)⟩)⟩)⟩)⟩)⟩)⟩)⟩)⟩)⟩)⟩)⟩)
theorem wd_1579 : Cond.code yX10_cut cX10_cut 3 (some .long) ∈ lw_tbl := mt_5 (List.mem_of_getElem? (i := 237) rfl)
theorem wd_1580 : Cond.selects RX10 yX10_cut yX10_cut ∈ lw_tbl := mp_3 (q := (⟨"OneOfEach$Tray", "cut", "(J)J"⟩, 3)) (List.mem_of_getElem? (i := 15) rfl)
theorem wd_1581 : Cond.instanceMethod yX10_cut ∈ lw_tbl := mt_5 (List.mem_of_getElem? (i := 236) rfl)
theorem wd_1582 : Cond.methodLink RX10 38 yX10_cut ∈ lw_tbl := mt_5 (List.mem_of_getElem? (i := 234) rfl)
set_option maxRecDepth 20000 in
theorem hl_wsX11_write_r2 : ∀ w ∈ wsX11_write_r2, w ∈ lw_tbl := by
  unfold wsX11_write_r2
  exact (List.forall_mem_cons.mpr ⟨wd_931, (List.forall_mem_cons.mpr ⟨wd_930, (List.forall_mem_cons.mpr ⟨wd_1582, (List.forall_mem_cons.mpr ⟨wd_1581, (List.forall_mem_cons.mpr ⟨wd_1580, (List.forall_mem_cons.mpr ⟨wd_1579, (List.forall_mem_cons.mpr ⟨wd_1561, (List.forall_mem_cons.mpr ⟨wd_935, (List.forall_mem_cons.mpr ⟨wd_934, (List.forall_mem_cons.mpr ⟨wd_933, (List.forall_mem_cons.mpr ⟨wd_932, (fun _ h => absurd h List.not_mem_nil)⟩)⟩)⟩)⟩)⟩)⟩)⟩)⟩)⟩)⟩)⟩)
set_option maxRecDepth 20000 in
theorem hl_wsX11_write : ∀ w ∈ wsX11_write, w ∈ lw_tbl := by
  unfold wsX11_write
  exact (List.forall_mem_cons.mpr ⟨wd_1573, (List.forall_mem_append.mpr ⟨(List.forall_mem_append.mpr ⟨(List.forall_mem_append.mpr ⟨hl_wsX11_write_r1, hl_wsX11_write_r2⟩), hl_wsX110⟩), hl_wsX100⟩)⟩)
theorem wd_1583 : Cond.selects RX12 yX12_write yX12_write ∈ lw_tbl := mt_8 (List.mem_of_getElem? (i := 159) rfl)
theorem wd_1584 : Cond.instanceMethod yX12_write ∈ lw_tbl := mt_8 (List.mem_of_getElem? (i := 158) rfl)
theorem wd_1585 : Cond.methodLink RL 183 yX12_write ∈ lw_tbl := mt_8 (List.mem_of_getElem? (i := 157) rfl)
theorem wd_1586 : Cond.code yX12_write cX12_write 6 (some .long) ∈ lw_tbl := mt_8 (List.mem_of_getElem? (i := 160) rfl)
theorem wd_1587 : Cond.code yX12_cut cX12_cut 3 (some .long) ∈ lw_tbl := mt_8 (List.mem_of_getElem? (i := 164) rfl)
theorem wd_1588 : Cond.static yX12_cut ∈ lw_tbl := mt_8 (List.mem_of_getElem? (i := 163) rfl)
theorem wd_1589 : Cond.methodLink RX12 453 yX12_cut ∈ lw_tbl := mt_8 (List.mem_of_getElem? (i := 162) rfl)
theorem wd_1590 : Cond.constantLong RX12 451 (-7) ∈ lw_tbl := mt_8 (List.mem_of_getElem? (i := 161) rfl)
set_option maxRecDepth 20000 in
theorem hl_wsX12_write : ∀ w ∈ wsX12_write, w ∈ lw_tbl := by
  unfold wsX12_write
  exact (List.forall_mem_cons.mpr ⟨wd_1586, (List.forall_mem_append.mpr ⟨(List.forall_mem_cons.mpr ⟨wd_34, (List.forall_mem_cons.mpr ⟨wd_952, (List.forall_mem_cons.mpr ⟨wd_1590, (List.forall_mem_cons.mpr ⟨wd_951, (List.forall_mem_cons.mpr ⟨wd_957, (List.forall_mem_cons.mpr ⟨wd_961, (List.forall_mem_cons.mpr ⟨wd_960, (List.forall_mem_cons.mpr ⟨wd_959, (List.forall_mem_cons.mpr ⟨wd_27, (List.forall_mem_cons.mpr ⟨wd_958, (List.forall_mem_cons.mpr ⟨wd_963, (List.forall_mem_cons.mpr ⟨wd_422, (List.forall_mem_cons.mpr ⟨wd_421, (List.forall_mem_cons.mpr ⟨wd_420, (List.forall_mem_cons.mpr ⟨wd_1589, (List.forall_mem_cons.mpr ⟨wd_1588, (List.forall_mem_cons.mpr ⟨wd_1587, (fun _ h => absurd h List.not_mem_nil)⟩)⟩)⟩)⟩)⟩)⟩)⟩)⟩)⟩)⟩)⟩)⟩)⟩)⟩)⟩)⟩)⟩), hl_wsX120⟩)⟩)
theorem wd_1591 : Cond.constantLong RL 177 4294967295 ∈ lw_tbl := mt_8 (List.mem_of_getElem? (i := 181) rfl)
def tL_write : List Cond := ((wsV RL 179 RX11 yX11_write wsX11_write) ++ (wsV RL 183 RX12 yX12_write wsX12_write)) ++ [Cond.constantLong RL 177 4294967295]
theorem tL_write_in : ∀ w ∈ tL_write, w ∈ lw_tbl := by
  unfold tL_write
  exact (List.forall_mem_append.mpr ⟨(List.forall_mem_append.mpr ⟨(List.forall_mem_append.mpr ⟨(List.forall_mem_cons.mpr ⟨wd_1572, (List.forall_mem_cons.mpr ⟨wd_1571, (List.forall_mem_cons.mpr ⟨wd_1570, (List.forall_mem_cons.mpr ⟨wd_0, (fun _ h => absurd h List.not_mem_nil)⟩)⟩)⟩)⟩), hl_wsX11_write⟩), (List.forall_mem_append.mpr ⟨(List.forall_mem_cons.mpr ⟨wd_1585, (List.forall_mem_cons.mpr ⟨wd_1584, (List.forall_mem_cons.mpr ⟨wd_1583, (List.forall_mem_cons.mpr ⟨wd_27, (fun _ h => absurd h List.not_mem_nil)⟩)⟩)⟩)⟩), hl_wsX12_write⟩)⟩), (List.forall_mem_cons.mpr ⟨wd_1591, (fun _ h => absurd h List.not_mem_nil)⟩)⟩)
set_option maxRecDepth 20000 in
theorem tL_write_x : GoodIn tL_write (wsV RL 179 RX11 yX11_write wsX11_write) := fun w h => ⟨List.mem_append_left _ (List.mem_append_left _ h), good_of_word (List.all_eq_true.mp (show (wsV RL 179 RX11 yX11_write wsX11_write).all goodWord = true by decide +kernel) w h)⟩
set_option maxRecDepth 20000 in
theorem tL_write_m : GoodIn tL_write (wsV RL 183 RX12 yX12_write wsX12_write) := fun w h => ⟨List.mem_append_left _ (List.mem_append_right _ h), good_of_word (List.all_eq_true.mp (show (wsV RL 183 RX12 yX12_write wsX12_write).all goodWord = true by decide +kernel) w h)⟩
theorem hdLX11_write : yX11_write.cls = RX11 ∧ yX11_write.cls ≠ "java/lang/invoke/MethodHandle" ∧ yX11_write.cls ≠ "java/lang/invoke/VarHandle" ∧ (parseMethodDescriptor yX11_write.desc).map (fun d => d.parameters.length) = some 3 := by decide +kernel
theorem hdLX12_write : yX12_write.cls = RX12 ∧ yX12_write.cls ≠ "java/lang/invoke/MethodHandle" ∧ yX12_write.cls ≠ "java/lang/invoke/VarHandle" ∧ (parseMethodDescriptor yX12_write.desc).map (fun d => d.parameters.length) = some 3 := by decide +kernel
theorem wd_1592 : Cond.selects RX11 yX11_lists yX11_lists ∈ lw_tbl := mt_6 (List.mem_of_getElem? (i := 0) rfl)
theorem wd_1593 : Cond.instanceMethod yX11_lists ∈ lw_tbl := mt_5 (List.mem_of_getElem? (i := 239) rfl)
theorem wd_1594 : Cond.methodLink RL 184 yX11_lists ∈ lw_tbl := mt_5 (List.mem_of_getElem? (i := 238) rfl)
theorem wd_1595 : Cond.code yX11_lists cX11_lists 6 (some .int) ∈ lw_tbl := mt_6 (List.mem_of_getElem? (i := 1) rfl)
set_option maxRecDepth 20000 in
theorem hl_wsX11_lists_r1 : ∀ w ∈ wsX11_lists_r1, w ∈ lw_tbl := by
  unfold wsX11_lists_r1
  exact (List.forall_mem_cons.mpr ⟨wd_1034, (List.forall_mem_cons.mpr ⟨wd_85, (List.forall_mem_cons.mpr ⟨wd_84, (List.forall_mem_cons.mpr ⟨wd_555, (List.forall_mem_cons.mpr ⟨wd_929, (List.forall_mem_cons.mpr ⟨wd_928, (List.forall_mem_cons.mpr ⟨wd_191, (List.forall_mem_cons.mpr ⟨wd_133, (List.forall_mem_cons.mpr ⟨wd_190, (List.forall_mem_cons.mpr ⟨wd_990, (List.forall_mem_cons.mpr ⟨wd_989, (List.forall_mem_cons.mpr ⟨wd_988, (List.forall_mem_cons.mpr ⟨wd_0, (List.forall_mem_cons.mpr ⟨wd_987, (List.forall_mem_cons.mpr ⟨wd_926, (List.forall_mem_cons.mpr ⟨wd_925, (List.forall_mem_cons.mpr ⟨wd_924, (List.forall_mem_cons.mpr ⟨wd_923, (List.forall_mem_cons.mpr ⟨wd_922, (List.forall_mem_cons.mpr ⟨wd_921, (List.forall_mem_cons.mpr ⟨wd_920, (List.forall_mem_cons.mpr ⟨wd_919, (List.forall_mem_cons.mpr ⟨wd_918, (List.forall_mem_cons.mpr ⟨wd_1033, (fun _ h => absurd h List.not_mem_nil)⟩)⟩)⟩)⟩)⟩)⟩)⟩)⟩)⟩)⟩)⟩)⟩)⟩)⟩)⟩)⟩)⟩)⟩)⟩)⟩)⟩)⟩)⟩)⟩)
set_option maxRecDepth 20000 in
theorem hl_wsX11_lists_r2 : ∀ w ∈ wsX11_lists_r2, w ∈ lw_tbl := by
  unfold wsX11_lists_r2
  exact (List.forall_mem_cons.mpr ⟨wd_1032, (List.forall_mem_cons.mpr ⟨wd_1031, (List.forall_mem_cons.mpr ⟨wd_1030, (List.forall_mem_cons.mpr ⟨wd_1029, (List.forall_mem_cons.mpr ⟨wd_1028, (List.forall_mem_cons.mpr ⟨wd_1027, (List.forall_mem_cons.mpr ⟨wd_1026, (List.forall_mem_cons.mpr ⟨wd_1025, (List.forall_mem_cons.mpr ⟨wd_1024, (List.forall_mem_cons.mpr ⟨wd_1023, (List.forall_mem_cons.mpr ⟨wd_1022, (List.forall_mem_cons.mpr ⟨wd_1021, (List.forall_mem_cons.mpr ⟨wd_1020, (List.forall_mem_cons.mpr ⟨wd_1019, (List.forall_mem_cons.mpr ⟨wd_1018, (List.forall_mem_cons.mpr ⟨wd_1017, (List.forall_mem_cons.mpr ⟨wd_1016, (List.forall_mem_cons.mpr ⟨wd_744, (List.forall_mem_cons.mpr ⟨wd_743, (List.forall_mem_cons.mpr ⟨wd_102, (List.forall_mem_cons.mpr ⟨wd_742, (List.forall_mem_cons.mpr ⟨wd_100, (List.forall_mem_cons.mpr ⟨wd_1040, (List.forall_mem_cons.mpr ⟨wd_543, (fun _ h => absurd h List.not_mem_nil)⟩)⟩)⟩)⟩)⟩)⟩)⟩)⟩)⟩)⟩)⟩)⟩)⟩)⟩)⟩)⟩)⟩)⟩)⟩)⟩)⟩)⟩)⟩)⟩)
set_option maxRecDepth 20000 in
theorem hl_wsX11_lists_r3 : ∀ w ∈ wsX11_lists_r3, w ∈ lw_tbl := by
  unfold wsX11_lists_r3
  exact (List.forall_mem_cons.mpr ⟨wd_542, (List.forall_mem_cons.mpr ⟨wd_362, (List.forall_mem_cons.mpr ⟨wd_541, (List.forall_mem_cons.mpr ⟨wd_540, (List.forall_mem_cons.mpr ⟨wd_578, (List.forall_mem_cons.mpr ⟨wd_577, (List.forall_mem_cons.mpr ⟨wd_360, (List.forall_mem_cons.mpr ⟨wd_576, (List.forall_mem_cons.mpr ⟨wd_575, (List.forall_mem_cons.mpr ⟨wd_574, (List.forall_mem_cons.mpr ⟨wd_573, (List.forall_mem_cons.mpr ⟨wd_1039, (List.forall_mem_cons.mpr ⟨wd_358, (List.forall_mem_cons.mpr ⟨wd_357, (List.forall_mem_cons.mpr ⟨wd_356, (List.forall_mem_cons.mpr ⟨wd_1038, (List.forall_mem_cons.mpr ⟨wd_1037, (List.forall_mem_cons.mpr ⟨wd_1036, (List.forall_mem_cons.mpr ⟨wd_1035, (List.forall_mem_cons.mpr ⟨wd_1043, (List.forall_mem_cons.mpr ⟨wd_1042, (List.forall_mem_cons.mpr ⟨wd_1041, (List.forall_mem_cons.mpr ⟨wd_571, (List.forall_mem_cons.mpr ⟨wd_570, (fun _ h => absurd h List.not_mem_nil)⟩)⟩)⟩)⟩)⟩)⟩)⟩)⟩)⟩)⟩)⟩)⟩)⟩)⟩)⟩)⟩)⟩)⟩)⟩)⟩)⟩)⟩)⟩)⟩)
set_option maxRecDepth 20000 in
theorem hl_wsX11_lists_r4 : ∀ w ∈ wsX11_lists_r4, w ∈ lw_tbl := by
  unfold wsX11_lists_r4
  exact (List.forall_mem_cons.mpr ⟨wd_569, (List.forall_mem_cons.mpr ⟨wd_568, (List.forall_mem_cons.mpr ⟨wd_134, (List.forall_mem_cons.mpr ⟨wd_132, (List.forall_mem_cons.mpr ⟨wd_567, (List.forall_mem_cons.mpr ⟨wd_566, (List.forall_mem_cons.mpr ⟨wd_565, (List.forall_mem_cons.mpr ⟨wd_564, (List.forall_mem_cons.mpr ⟨wd_563, (List.forall_mem_cons.mpr ⟨wd_562, (List.forall_mem_cons.mpr ⟨wd_561, (List.forall_mem_cons.mpr ⟨wd_560, (List.forall_mem_cons.mpr ⟨wd_559, (List.forall_mem_cons.mpr ⟨wd_602, (List.forall_mem_cons.mpr ⟨wd_601, (List.forall_mem_cons.mpr ⟨wd_600, (List.forall_mem_cons.mpr ⟨wd_599, (List.forall_mem_cons.mpr ⟨wd_598, (List.forall_mem_cons.mpr ⟨wd_597, (List.forall_mem_cons.mpr ⟨wd_596, (List.forall_mem_cons.mpr ⟨wd_595, (List.forall_mem_cons.mpr ⟨wd_594, (List.forall_mem_cons.mpr ⟨wd_593, (List.forall_mem_cons.mpr ⟨wd_592, (fun _ h => absurd h List.not_mem_nil)⟩)⟩)⟩)⟩)⟩)⟩)⟩)⟩)⟩)⟩)⟩)⟩)⟩)⟩)⟩)⟩)⟩)⟩)⟩)⟩)⟩)⟩)⟩)⟩)
set_option maxRecDepth 20000 in
theorem hl_wsX11_lists_r5 : ∀ w ∈ wsX11_lists_r5, w ∈ lw_tbl := by
  unfold wsX11_lists_r5
  exact (List.forall_mem_cons.mpr ⟨wd_591, (List.forall_mem_cons.mpr ⟨wd_590, (List.forall_mem_cons.mpr ⟨wd_589, (List.forall_mem_cons.mpr ⟨wd_588, (List.forall_mem_cons.mpr ⟨wd_587, (List.forall_mem_cons.mpr ⟨wd_586, (List.forall_mem_cons.mpr ⟨wd_585, (List.forall_mem_cons.mpr ⟨wd_584, (List.forall_mem_cons.mpr ⟨wd_583, (List.forall_mem_cons.mpr ⟨wd_582, (List.forall_mem_cons.mpr ⟨wd_581, (List.forall_mem_cons.mpr ⟨wd_580, (List.forall_mem_cons.mpr ⟨wd_579, (List.forall_mem_cons.mpr ⟨wd_608, (List.forall_mem_cons.mpr ⟨wd_607, (List.forall_mem_cons.mpr ⟨wd_606, (List.forall_mem_cons.mpr ⟨wd_605, (List.forall_mem_cons.mpr ⟨wd_604, (List.forall_mem_cons.mpr ⟨wd_603, (List.forall_mem_cons.mpr ⟨wd_1064, (List.forall_mem_cons.mpr ⟨wd_1063, (List.forall_mem_cons.mpr ⟨wd_1062, (List.forall_mem_cons.mpr ⟨wd_1061, (List.forall_mem_cons.mpr ⟨wd_1060, (fun _ h => absurd h List.not_mem_nil)⟩)⟩)⟩)⟩)⟩)⟩)⟩)⟩)⟩)⟩)⟩)⟩)⟩)⟩)⟩)⟩)⟩)⟩)⟩)⟩)⟩)⟩)⟩)⟩)
set_option maxRecDepth 20000 in
theorem hl_wsX11_lists_r6 : ∀ w ∈ wsX11_lists_r6, w ∈ lw_tbl := by
  unfold wsX11_lists_r6
  exact (List.forall_mem_cons.mpr ⟨wd_1059, (List.forall_mem_cons.mpr ⟨wd_1058, (List.forall_mem_cons.mpr ⟨wd_1057, (List.forall_mem_cons.mpr ⟨wd_1056, (List.forall_mem_cons.mpr ⟨wd_1055, (List.forall_mem_cons.mpr ⟨wd_1054, (List.forall_mem_cons.mpr ⟨wd_1053, (List.forall_mem_cons.mpr ⟨wd_1052, (List.forall_mem_cons.mpr ⟨wd_1051, (List.forall_mem_cons.mpr ⟨wd_1050, (List.forall_mem_cons.mpr ⟨wd_1049, (List.forall_mem_cons.mpr ⟨wd_1048, (List.forall_mem_cons.mpr ⟨wd_1047, (List.forall_mem_cons.mpr ⟨wd_1046, (List.forall_mem_cons.mpr ⟨wd_1045, (List.forall_mem_cons.mpr ⟨wd_1044, (List.forall_mem_cons.mpr ⟨wd_940, (List.forall_mem_cons.mpr ⟨wd_939, (List.forall_mem_cons.mpr ⟨wd_938, (List.forall_mem_cons.mpr ⟨wd_937, (List.forall_mem_cons.mpr ⟨wd_936, (List.forall_mem_cons.mpr ⟨wd_1107, (List.forall_mem_cons.mpr ⟨wd_1106, (List.forall_mem_cons.mpr ⟨wd_1113, (fun _ h => absurd h List.not_mem_nil)⟩)⟩)⟩)⟩)⟩)⟩)⟩)⟩)⟩)⟩)⟩)⟩)⟩)⟩)⟩)⟩)⟩)⟩)⟩)⟩)⟩)⟩)⟩)⟩)
set_option maxRecDepth 20000 in
theorem hl_wsX11_lists_r7 : ∀ w ∈ wsX11_lists_r7, w ∈ lw_tbl := by
  unfold wsX11_lists_r7
  exact (List.forall_mem_cons.mpr ⟨wd_1112, (List.forall_mem_cons.mpr ⟨wd_1111, (List.forall_mem_cons.mpr ⟨wd_1110, (List.forall_mem_cons.mpr ⟨wd_1109, (List.forall_mem_cons.mpr ⟨wd_1108, (List.forall_mem_cons.mpr ⟨wd_1577, (List.forall_mem_cons.mpr ⟨wd_1576, (List.forall_mem_cons.mpr ⟨wd_1575, (List.forall_mem_cons.mpr ⟨wd_1574, (List.forall_mem_cons.mpr ⟨wd_931, (List.forall_mem_cons.mpr ⟨wd_930, (List.forall_mem_cons.mpr ⟨wd_943, (List.forall_mem_cons.mpr ⟨wd_942, (List.forall_mem_cons.mpr ⟨wd_941, (List.forall_mem_cons.mpr ⟨wd_1582, (List.forall_mem_cons.mpr ⟨wd_1581, (List.forall_mem_cons.mpr ⟨wd_1580, (List.forall_mem_cons.mpr ⟨wd_1579, (List.forall_mem_cons.mpr ⟨wd_1561, (fun _ h => absurd h List.not_mem_nil)⟩)⟩)⟩)⟩)⟩)⟩)⟩)⟩)⟩)⟩)⟩)⟩)⟩)⟩)⟩)⟩)⟩)⟩)⟩)
set_option maxRecDepth 20000 in
theorem hl_wsX11_lists : ∀ w ∈ wsX11_lists, w ∈ lw_tbl := by
  unfold wsX11_lists
  exact (List.forall_mem_cons.mpr ⟨wd_1595, (List.forall_mem_append.mpr ⟨(List.forall_mem_append.mpr ⟨(List.forall_mem_append.mpr ⟨(List.forall_mem_append.mpr ⟨(List.forall_mem_append.mpr ⟨(List.forall_mem_append.mpr ⟨(List.forall_mem_append.mpr ⟨hl_wsX11_lists_r1, (List.forall_mem_append.mpr ⟨hl_wsX11_lists_r2, (List.forall_mem_append.mpr ⟨hl_wsX11_lists_r3, (List.forall_mem_append.mpr ⟨hl_wsX11_lists_r4, (List.forall_mem_append.mpr ⟨hl_wsX11_lists_r5, (List.forall_mem_append.mpr ⟨hl_wsX11_lists_r6, hl_wsX11_lists_r7⟩)⟩)⟩)⟩)⟩)⟩), hl_wsX110⟩), hl_wsX90⟩), hl_wsX100⟩), hl_wsX50⟩), hl_wsX40⟩), hl_wsX70⟩)⟩)
theorem wd_1596 : Cond.selects RX12 yX12_lists yX12_lists ∈ lw_tbl := mt_8 (List.mem_of_getElem? (i := 167) rfl)
theorem wd_1597 : Cond.instanceMethod yX12_lists ∈ lw_tbl := mt_8 (List.mem_of_getElem? (i := 166) rfl)
theorem wd_1598 : Cond.methodLink RL 187 yX12_lists ∈ lw_tbl := mt_8 (List.mem_of_getElem? (i := 165) rfl)
theorem wd_1599 : Cond.code yX12_lists cX12_lists 6 (some .int) ∈ lw_tbl := mt_8 (List.mem_of_getElem? (i := 168) rfl)
set_option maxRecDepth 20000 in
theorem hl_wsX12_lists_r1 : ∀ w ∈ wsX12_lists_r1, w ∈ lw_tbl := by
  unfold wsX12_lists_r1
  exact (List.forall_mem_cons.mpr ⟨wd_34, (List.forall_mem_cons.mpr ⟨wd_952, (List.forall_mem_cons.mpr ⟨wd_951, (List.forall_mem_cons.mpr ⟨wd_1122, (List.forall_mem_cons.mpr ⟨wd_961, (List.forall_mem_cons.mpr ⟨wd_960, (List.forall_mem_cons.mpr ⟨wd_959, (List.forall_mem_cons.mpr ⟨wd_27, (List.forall_mem_cons.mpr ⟨wd_958, (List.forall_mem_cons.mpr ⟨wd_963, (List.forall_mem_cons.mpr ⟨wd_957, (List.forall_mem_cons.mpr ⟨wd_422, (List.forall_mem_cons.mpr ⟨wd_421, (List.forall_mem_cons.mpr ⟨wd_420, (List.forall_mem_cons.mpr ⟨wd_1121, (List.forall_mem_cons.mpr ⟨wd_1120, (List.forall_mem_cons.mpr ⟨wd_1119, (List.forall_mem_cons.mpr ⟨wd_1118, (List.forall_mem_cons.mpr ⟨wd_423, (List.forall_mem_cons.mpr ⟨wd_1096, (List.forall_mem_cons.mpr ⟨wd_1091, (List.forall_mem_cons.mpr ⟨wd_1090, (List.forall_mem_cons.mpr ⟨wd_1089, (List.forall_mem_cons.mpr ⟨wd_1088, (fun _ h => absurd h List.not_mem_nil)⟩)⟩)⟩)⟩)⟩)⟩)⟩)⟩)⟩)⟩)⟩)⟩)⟩)⟩)⟩)⟩)⟩)⟩)⟩)⟩)⟩)⟩)⟩)⟩)
set_option maxRecDepth 20000 in
theorem hl_wsX12_lists_r2 : ∀ w ∈ wsX12_lists_r2, w ∈ lw_tbl := by
  unfold wsX12_lists_r2
  exact (List.forall_mem_cons.mpr ⟨wd_1087, (List.forall_mem_cons.mpr ⟨wd_1086, (List.forall_mem_cons.mpr ⟨wd_1085, (List.forall_mem_cons.mpr ⟨wd_1084, (List.forall_mem_cons.mpr ⟨wd_1083, (List.forall_mem_cons.mpr ⟨wd_648, (List.forall_mem_cons.mpr ⟨wd_647, (List.forall_mem_cons.mpr ⟨wd_646, (List.forall_mem_cons.mpr ⟨wd_645, (List.forall_mem_cons.mpr ⟨wd_618, (List.forall_mem_cons.mpr ⟨wd_617, (List.forall_mem_cons.mpr ⟨wd_616, (List.forall_mem_cons.mpr ⟨wd_615, (List.forall_mem_cons.mpr ⟨wd_614, (List.forall_mem_cons.mpr ⟨wd_613, (List.forall_mem_cons.mpr ⟨wd_654, (List.forall_mem_cons.mpr ⟨wd_653, (List.forall_mem_cons.mpr ⟨wd_652, (List.forall_mem_cons.mpr ⟨wd_651, (List.forall_mem_cons.mpr ⟨wd_650, (List.forall_mem_cons.mpr ⟨wd_649, (List.forall_mem_cons.mpr ⟨wd_644, (List.forall_mem_cons.mpr ⟨wd_643, (List.forall_mem_cons.mpr ⟨wd_642, (fun _ h => absurd h List.not_mem_nil)⟩)⟩)⟩)⟩)⟩)⟩)⟩)⟩)⟩)⟩)⟩)⟩)⟩)⟩)⟩)⟩)⟩)⟩)⟩)⟩)⟩)⟩)⟩)⟩)
set_option maxRecDepth 20000 in
theorem hl_wsX12_lists_r3 : ∀ w ∈ wsX12_lists_r3, w ∈ lw_tbl := by
  unfold wsX12_lists_r3
  exact (List.forall_mem_cons.mpr ⟨wd_641, (List.forall_mem_cons.mpr ⟨wd_640, (List.forall_mem_cons.mpr ⟨wd_639, (List.forall_mem_cons.mpr ⟨wd_638, (List.forall_mem_cons.mpr ⟨wd_637, (List.forall_mem_cons.mpr ⟨wd_636, (List.forall_mem_cons.mpr ⟨wd_635, (List.forall_mem_cons.mpr ⟨wd_634, (List.forall_mem_cons.mpr ⟨wd_633, (List.forall_mem_cons.mpr ⟨wd_632, (List.forall_mem_cons.mpr ⟨wd_631, (List.forall_mem_cons.mpr ⟨wd_665, (List.forall_mem_cons.mpr ⟨wd_664, (List.forall_mem_cons.mpr ⟨wd_663, (List.forall_mem_cons.mpr ⟨wd_662, (List.forall_mem_cons.mpr ⟨wd_661, (List.forall_mem_cons.mpr ⟨wd_660, (List.forall_mem_cons.mpr ⟨wd_659, (List.forall_mem_cons.mpr ⟨wd_658, (List.forall_mem_cons.mpr ⟨wd_657, (List.forall_mem_cons.mpr ⟨wd_656, (List.forall_mem_cons.mpr ⟨wd_655, (List.forall_mem_cons.mpr ⟨wd_1101, (List.forall_mem_cons.mpr ⟨wd_1100, (fun _ h => absurd h List.not_mem_nil)⟩)⟩)⟩)⟩)⟩)⟩)⟩)⟩)⟩)⟩)⟩)⟩)⟩)⟩)⟩)⟩)⟩)⟩)⟩)⟩)⟩)⟩)⟩)⟩)
set_option maxRecDepth 20000 in
theorem hl_wsX12_lists_r4 : ∀ w ∈ wsX12_lists_r4, w ∈ lw_tbl := by
  unfold wsX12_lists_r4
  exact (List.forall_mem_cons.mpr ⟨wd_1099, (List.forall_mem_cons.mpr ⟨wd_1098, (List.forall_mem_cons.mpr ⟨wd_1097, (List.forall_mem_cons.mpr ⟨wd_1095, (List.forall_mem_cons.mpr ⟨wd_1094, (List.forall_mem_cons.mpr ⟨wd_1093, (List.forall_mem_cons.mpr ⟨wd_1092, (fun _ h => absurd h List.not_mem_nil)⟩)⟩)⟩)⟩)⟩)⟩)⟩)
set_option maxRecDepth 20000 in
theorem hl_wsX12_lists : ∀ w ∈ wsX12_lists, w ∈ lw_tbl := by
  unfold wsX12_lists
  exact (List.forall_mem_cons.mpr ⟨wd_1599, (List.forall_mem_append.mpr ⟨(List.forall_mem_append.mpr ⟨hl_wsX12_lists_r1, (List.forall_mem_append.mpr ⟨hl_wsX12_lists_r2, (List.forall_mem_append.mpr ⟨hl_wsX12_lists_r3, hl_wsX12_lists_r4⟩)⟩)⟩), hl_wsX120⟩)⟩)
def tL_lists : List Cond := (wsV RL 184 RX11 yX11_lists wsX11_lists) ++ (wsV RL 187 RX12 yX12_lists wsX12_lists)
theorem tL_lists_in : ∀ w ∈ tL_lists, w ∈ lw_tbl := by
  unfold tL_lists
  exact (List.forall_mem_append.mpr ⟨(List.forall_mem_append.mpr ⟨(List.forall_mem_cons.mpr ⟨wd_1594, (List.forall_mem_cons.mpr ⟨wd_1593, (List.forall_mem_cons.mpr ⟨wd_1592, (List.forall_mem_cons.mpr ⟨wd_0, (fun _ h => absurd h List.not_mem_nil)⟩)⟩)⟩)⟩), hl_wsX11_lists⟩), (List.forall_mem_append.mpr ⟨(List.forall_mem_cons.mpr ⟨wd_1598, (List.forall_mem_cons.mpr ⟨wd_1597, (List.forall_mem_cons.mpr ⟨wd_1596, (List.forall_mem_cons.mpr ⟨wd_27, (fun _ h => absurd h List.not_mem_nil)⟩)⟩)⟩)⟩), hl_wsX12_lists⟩)⟩)
set_option maxRecDepth 20000 in
theorem tL_lists_x : GoodIn tL_lists (wsV RL 184 RX11 yX11_lists wsX11_lists) := fun w h => ⟨List.mem_append_left _ h, good_of_word (List.all_eq_true.mp (show (wsV RL 184 RX11 yX11_lists wsX11_lists).all goodWord = true by decide +kernel) w h)⟩
set_option maxRecDepth 20000 in
theorem tL_lists_m : GoodIn tL_lists (wsV RL 187 RX12 yX12_lists wsX12_lists) := fun w h => ⟨List.mem_append_right _ h, good_of_word (List.all_eq_true.mp (show (wsV RL 187 RX12 yX12_lists wsX12_lists).all goodWord = true by decide +kernel) w h)⟩
theorem hdLX11_lists : yX11_lists.cls = RX11 ∧ yX11_lists.cls ≠ "java/lang/invoke/MethodHandle" ∧ yX11_lists.cls ≠ "java/lang/invoke/VarHandle" ∧ (parseMethodDescriptor yX11_lists.desc).map (fun d => d.parameters.length) = some 1 := by decide +kernel
theorem hdLX12_lists : yX12_lists.cls = RX12 ∧ yX12_lists.cls ≠ "java/lang/invoke/MethodHandle" ∧ yX12_lists.cls ≠ "java/lang/invoke/VarHandle" ∧ (parseMethodDescriptor yX12_lists.desc).map (fun d => d.parameters.length) = some 1 := by decide +kernel
theorem wd_1600 : Cond.selects RX11 yX11_image yX11_image ∈ lw_tbl := mt_6 (List.mem_of_getElem? (i := 4) rfl)
theorem wd_1601 : Cond.instanceMethod yX11_image ∈ lw_tbl := mt_6 (List.mem_of_getElem? (i := 3) rfl)
theorem wd_1602 : Cond.methodLink RL 188 yX11_image ∈ lw_tbl := mt_6 (List.mem_of_getElem? (i := 2) rfl)
theorem wd_1603 : Cond.code yX11_image cX11_image 2 (some .int) ∈ lw_tbl := mt_6 (List.mem_of_getElem? (i := 5) rfl)
theorem wd_1604 : Cond.fieldLink RX7 28 "OneOfEach$Plan" "code" "[I" ∈ lw_tbl := mt_1 (List.mem_of_getElem? (i := 56) rfl)
theorem wd_1605 : Cond.fieldLink RX7 22 "OneOfEach$Plan" "mind" "[I" ∈ lw_tbl := mt_1 (List.mem_of_getElem? (i := 48) rfl)
theorem wd_1606 : Cond.fieldLink RX7 18 "OneOfEach$Plan" "purse" "[I" ∈ lw_tbl := mt_1 (List.mem_of_getElem? (i := 44) rfl)
theorem wd_1607 : Cond.code yX7_copyFrom cX7_copyFrom 3 none ∈ lw_tbl := mt_6 (List.mem_of_getElem? (i := 9) rfl)
theorem wd_1608 : Cond.selects RX7 yX7_copyFrom yX7_copyFrom ∈ lw_tbl := mt_6 (List.mem_of_getElem? (i := 8) rfl)
theorem wd_1609 : Cond.instanceMethod yX7_copyFrom ∈ lw_tbl := mt_6 (List.mem_of_getElem? (i := 7) rfl)
theorem wd_1610 : Cond.methodLink RX11 398 yX7_copyFrom ∈ lw_tbl := mt_6 (List.mem_of_getElem? (i := 6) rfl)
theorem wd_1611 : Cond.fieldLink RX11 400 "OneOfEach$Image" "stock" "LOneOfEach$Stock;" ∈ lw_tbl := mt_2 (List.mem_of_getElem? (i := 117) rfl)
theorem wd_1612 : Cond.fieldLink RX11 397 "OneOfEach$Image" "plan" "LOneOfEach$Plan;" ∈ lw_tbl := mt_2 (List.mem_of_getElem? (i := 115) rfl)
theorem wd_1613 : Cond.fieldLink RX11 393 "OneOfEach$Image" "made" "Z" ∈ lw_tbl := mt_2 (List.mem_of_getElem? (i := 113) rfl)
theorem wd_1614 : Cond.fieldLink RX11 58 "OneOfEach" "images" "[LOneOfEach$Image;" ∈ lw_tbl := mt_2 (List.mem_of_getElem? (i := 135) rfl)
set_option maxRecDepth 20000 in
theorem hl_wsX11_image_r1 : ∀ w ∈ wsX11_image_r1, w ∈ lw_tbl := by
  unfold wsX11_image_r1
  exact (List.forall_mem_cons.mpr ⟨wd_1614, (List.forall_mem_cons.mpr ⟨wd_1613, (List.forall_mem_cons.mpr ⟨wd_1612, (List.forall_mem_cons.mpr ⟨wd_85, (List.forall_mem_cons.mpr ⟨wd_1611, (List.forall_mem_cons.mpr ⟨wd_84, (List.forall_mem_cons.mpr ⟨wd_1610, (List.forall_mem_cons.mpr ⟨wd_1609, (List.forall_mem_cons.mpr ⟨wd_1608, (List.forall_mem_cons.mpr ⟨wd_114, (List.forall_mem_cons.mpr ⟨wd_1607, (List.forall_mem_cons.mpr ⟨wd_112, (List.forall_mem_cons.mpr ⟨wd_111, (List.forall_mem_cons.mpr ⟨wd_110, (List.forall_mem_cons.mpr ⟨wd_109, (List.forall_mem_cons.mpr ⟨wd_108, (List.forall_mem_cons.mpr ⟨wd_107, (List.forall_mem_cons.mpr ⟨wd_106, (List.forall_mem_cons.mpr ⟨wd_1606, (List.forall_mem_cons.mpr ⟨wd_1605, (List.forall_mem_cons.mpr ⟨wd_862, (List.forall_mem_cons.mpr ⟨wd_1604, (List.forall_mem_cons.mpr ⟨wd_346, (List.forall_mem_cons.mpr ⟨wd_345, (fun _ h => absurd h List.not_mem_nil)⟩)⟩)⟩)⟩)⟩)⟩)⟩)⟩)⟩)⟩)⟩)⟩)⟩)⟩)⟩)⟩)⟩)⟩)⟩)⟩)⟩)⟩)⟩)⟩)
set_option maxRecDepth 20000 in
theorem hl_wsX11_image_r2 : ∀ w ∈ wsX11_image_r2, w ∈ lw_tbl := by
  unfold wsX11_image_r2
  exact (List.forall_mem_cons.mpr ⟨wd_344, (List.forall_mem_cons.mpr ⟨wd_102, (List.forall_mem_cons.mpr ⟨wd_343, (List.forall_mem_cons.mpr ⟨wd_100, (List.forall_mem_cons.mpr ⟨wd_342, (List.forall_mem_cons.mpr ⟨wd_341, (List.forall_mem_cons.mpr ⟨wd_99, (List.forall_mem_cons.mpr ⟨wd_98, (List.forall_mem_cons.mpr ⟨wd_97, (List.forall_mem_cons.mpr ⟨wd_96, (List.forall_mem_cons.mpr ⟨wd_95, (List.forall_mem_cons.mpr ⟨wd_94, (fun _ h => absurd h List.not_mem_nil)⟩)⟩)⟩)⟩)⟩)⟩)⟩)⟩)⟩)⟩)⟩)⟩)
theorem wd_1615 : u_lay RX2 TX2 2 ∈ lw_tbl := mt_2 (List.mem_of_getElem? (i := 122) rfl)
theorem wd_1616 : u_lay RX2 TX2 1 ∈ lw_tbl := mt_2 (List.mem_of_getElem? (i := 120) rfl)
theorem wd_1617 : u_lay RX2 TX2 0 ∈ lw_tbl := mt_2 (List.mem_of_getElem? (i := 118) rfl)
set_option maxRecDepth 20000 in
theorem hl_wsX20 : ∀ w ∈ wsX20, w ∈ lw_tbl := show ∀ w ∈ [u_lay RX2 TX2 0, u_lay RX2 TX2 1, u_lay RX2 TX2 2], w ∈ lw_tbl from (List.forall_mem_cons.mpr ⟨wd_1617, (List.forall_mem_cons.mpr ⟨wd_1616, (List.forall_mem_cons.mpr ⟨wd_1615, (fun _ h => absurd h List.not_mem_nil)⟩)⟩)⟩)
set_option maxRecDepth 20000 in
theorem hl_wsX11_image : ∀ w ∈ wsX11_image, w ∈ lw_tbl := by
  unfold wsX11_image
  exact (List.forall_mem_cons.mpr ⟨wd_1603, (List.forall_mem_append.mpr ⟨(List.forall_mem_append.mpr ⟨(List.forall_mem_append.mpr ⟨(List.forall_mem_append.mpr ⟨(List.forall_mem_append.mpr ⟨hl_wsX11_image_r1, hl_wsX11_image_r2⟩), hl_wsX110⟩), hl_wsX20⟩), hl_wsX70⟩), hl_wsX90⟩)⟩)
theorem wd_1618 : Cond.selects RX12 yX12_image yX12_image ∈ lw_tbl := mt_8 (List.mem_of_getElem? (i := 171) rfl)
theorem wd_1619 : Cond.instanceMethod yX12_image ∈ lw_tbl := mt_8 (List.mem_of_getElem? (i := 170) rfl)
theorem wd_1620 : Cond.methodLink RL 191 yX12_image ∈ lw_tbl := mt_8 (List.mem_of_getElem? (i := 169) rfl)
theorem wd_1621 : Cond.code yX12_image cX12_image 3 (some .int) ∈ lw_tbl := mt_8 (List.mem_of_getElem? (i := 172) rfl)
theorem wd_1622 : Cond.fieldLink RX12 17 "OneOfEachModel" "hasImage" "[Z" ∈ lw_tbl := mt_6 (List.mem_of_getElem? (i := 30) rfl)
set_option maxRecDepth 20000 in
theorem hl_wsX12_image : ∀ w ∈ wsX12_image, w ∈ lw_tbl := by
  unfold wsX12_image
  exact (List.forall_mem_cons.mpr ⟨wd_1621, (List.forall_mem_append.mpr ⟨(List.forall_mem_cons.mpr ⟨wd_34, (List.forall_mem_cons.mpr ⟨wd_423, (List.forall_mem_cons.mpr ⟨wd_1622, (List.forall_mem_cons.mpr ⟨wd_422, (List.forall_mem_cons.mpr ⟨wd_421, (List.forall_mem_cons.mpr ⟨wd_27, (List.forall_mem_cons.mpr ⟨wd_420, (fun _ h => absurd h List.not_mem_nil)⟩)⟩)⟩)⟩)⟩)⟩)⟩), hl_wsX120⟩)⟩)
def tL_image : List Cond := (wsV RL 188 RX11 yX11_image wsX11_image) ++ (wsV RL 191 RX12 yX12_image wsX12_image)
theorem tL_image_in : ∀ w ∈ tL_image, w ∈ lw_tbl := by
  unfold tL_image
  exact (List.forall_mem_append.mpr ⟨(List.forall_mem_append.mpr ⟨(List.forall_mem_cons.mpr ⟨wd_1602, (List.forall_mem_cons.mpr ⟨wd_1601, (List.forall_mem_cons.mpr ⟨wd_1600, (List.forall_mem_cons.mpr ⟨wd_0, (fun _ h => absurd h List.not_mem_nil)⟩)⟩)⟩)⟩), hl_wsX11_image⟩), (List.forall_mem_append.mpr ⟨(List.forall_mem_cons.mpr ⟨wd_1620, (List.forall_mem_cons.mpr ⟨wd_1619, (List.forall_mem_cons.mpr ⟨wd_1618, (List.forall_mem_cons.mpr ⟨wd_27, (fun _ h => absurd h List.not_mem_nil)⟩)⟩)⟩)⟩), hl_wsX12_image⟩)⟩)
set_option maxRecDepth 20000 in
theorem tL_image_x : GoodIn tL_image (wsV RL 188 RX11 yX11_image wsX11_image) := fun w h => ⟨List.mem_append_left _ h, good_of_word (List.all_eq_true.mp (show (wsV RL 188 RX11 yX11_image wsX11_image).all goodWord = true by decide +kernel) w h)⟩
set_option maxRecDepth 20000 in
theorem tL_image_m : GoodIn tL_image (wsV RL 191 RX12 yX12_image wsX12_image) := fun w h => ⟨List.mem_append_right _ h, good_of_word (List.all_eq_true.mp (show (wsV RL 191 RX12 yX12_image wsX12_image).all goodWord = true by decide +kernel) w h)⟩
theorem hdLX11_image : yX11_image.cls = RX11 ∧ yX11_image.cls ≠ "java/lang/invoke/MethodHandle" ∧ yX11_image.cls ≠ "java/lang/invoke/VarHandle" ∧ (parseMethodDescriptor yX11_image.desc).map (fun d => d.parameters.length) = some 1 := by decide +kernel
theorem hdLX12_image : yX12_image.cls = RX12 ∧ yX12_image.cls ≠ "java/lang/invoke/MethodHandle" ∧ yX12_image.cls ≠ "java/lang/invoke/VarHandle" ∧ (parseMethodDescriptor yX12_image.desc).map (fun d => d.parameters.length) = some 1 := by decide +kernel
theorem wd_1623 : Cond.selects RX11 yX11_restore yX11_restore ∈ lw_tbl := mt_6 (List.mem_of_getElem? (i := 12) rfl)
theorem wd_1624 : Cond.instanceMethod yX11_restore ∈ lw_tbl := mt_6 (List.mem_of_getElem? (i := 11) rfl)
theorem wd_1625 : Cond.methodLink RL 192 yX11_restore ∈ lw_tbl := mt_6 (List.mem_of_getElem? (i := 10) rfl)
theorem wd_1626 : Cond.code yX11_restore cX11_restore 2 (some .int) ∈ lw_tbl := mt_6 (List.mem_of_getElem? (i := 13) rfl)
set_option maxRecDepth 20000 in
theorem hl_wsX11_restore_r1 : ∀ w ∈ wsX11_restore_r1, w ∈ lw_tbl := by
  unfold wsX11_restore_r1
  exact (List.forall_mem_cons.mpr ⟨wd_1614, (List.forall_mem_cons.mpr ⟨wd_1613, (List.forall_mem_cons.mpr ⟨wd_85, (List.forall_mem_cons.mpr ⟨wd_1612, (List.forall_mem_cons.mpr ⟨wd_84, (List.forall_mem_cons.mpr ⟨wd_1611, (List.forall_mem_cons.mpr ⟨wd_1610, (List.forall_mem_cons.mpr ⟨wd_1609, (List.forall_mem_cons.mpr ⟨wd_1608, (List.forall_mem_cons.mpr ⟨wd_114, (List.forall_mem_cons.mpr ⟨wd_1607, (List.forall_mem_cons.mpr ⟨wd_112, (List.forall_mem_cons.mpr ⟨wd_111, (List.forall_mem_cons.mpr ⟨wd_110, (List.forall_mem_cons.mpr ⟨wd_109, (List.forall_mem_cons.mpr ⟨wd_108, (List.forall_mem_cons.mpr ⟨wd_107, (List.forall_mem_cons.mpr ⟨wd_106, (List.forall_mem_cons.mpr ⟨wd_1606, (List.forall_mem_cons.mpr ⟨wd_1605, (List.forall_mem_cons.mpr ⟨wd_862, (List.forall_mem_cons.mpr ⟨wd_1604, (List.forall_mem_cons.mpr ⟨wd_346, (List.forall_mem_cons.mpr ⟨wd_345, (fun _ h => absurd h List.not_mem_nil)⟩)⟩)⟩)⟩)⟩)⟩)⟩)⟩)⟩)⟩)⟩)⟩)⟩)⟩)⟩)⟩)⟩)⟩)⟩)⟩)⟩)⟩)⟩)⟩)
set_option maxRecDepth 20000 in
theorem hl_wsX11_restore_r2 : ∀ w ∈ wsX11_restore_r2, w ∈ lw_tbl := by
  unfold wsX11_restore_r2
  exact (List.forall_mem_cons.mpr ⟨wd_344, (List.forall_mem_cons.mpr ⟨wd_102, (List.forall_mem_cons.mpr ⟨wd_343, (List.forall_mem_cons.mpr ⟨wd_100, (List.forall_mem_cons.mpr ⟨wd_342, (List.forall_mem_cons.mpr ⟨wd_341, (List.forall_mem_cons.mpr ⟨wd_99, (List.forall_mem_cons.mpr ⟨wd_98, (List.forall_mem_cons.mpr ⟨wd_97, (List.forall_mem_cons.mpr ⟨wd_96, (List.forall_mem_cons.mpr ⟨wd_95, (List.forall_mem_cons.mpr ⟨wd_94, (List.forall_mem_cons.mpr ⟨wd_340, (List.forall_mem_cons.mpr ⟨wd_339, (List.forall_mem_cons.mpr ⟨wd_338, (List.forall_mem_cons.mpr ⟨wd_0, (List.forall_mem_cons.mpr ⟨wd_337, (List.forall_mem_cons.mpr ⟨wd_336, (List.forall_mem_cons.mpr ⟨wd_335, (List.forall_mem_cons.mpr ⟨wd_334, (List.forall_mem_cons.mpr ⟨wd_333, (List.forall_mem_cons.mpr ⟨wd_369, (List.forall_mem_cons.mpr ⟨wd_368, (List.forall_mem_cons.mpr ⟨wd_367, (fun _ h => absurd h List.not_mem_nil)⟩)⟩)⟩)⟩)⟩)⟩)⟩)⟩)⟩)⟩)⟩)⟩)⟩)⟩)⟩)⟩)⟩)⟩)⟩)⟩)⟩)⟩)⟩)⟩)
set_option maxRecDepth 20000 in
theorem hl_wsX11_restore_r3 : ∀ w ∈ wsX11_restore_r3, w ∈ lw_tbl := by
  unfold wsX11_restore_r3
  exact (List.forall_mem_cons.mpr ⟨wd_366, (List.forall_mem_cons.mpr ⟨wd_365, (List.forall_mem_cons.mpr ⟨wd_364, (List.forall_mem_cons.mpr ⟨wd_363, (List.forall_mem_cons.mpr ⟨wd_362, (List.forall_mem_cons.mpr ⟨wd_361, (List.forall_mem_cons.mpr ⟨wd_360, (List.forall_mem_cons.mpr ⟨wd_359, (List.forall_mem_cons.mpr ⟨wd_358, (List.forall_mem_cons.mpr ⟨wd_357, (List.forall_mem_cons.mpr ⟨wd_356, (fun _ h => absurd h List.not_mem_nil)⟩)⟩)⟩)⟩)⟩)⟩)⟩)⟩)⟩)⟩)⟩)
set_option maxRecDepth 20000 in
theorem hl_wsX11_restore : ∀ w ∈ wsX11_restore, w ∈ lw_tbl := by
  unfold wsX11_restore
  exact (List.forall_mem_cons.mpr ⟨wd_1626, (List.forall_mem_append.mpr ⟨(List.forall_mem_append.mpr ⟨(List.forall_mem_append.mpr ⟨(List.forall_mem_append.mpr ⟨(List.forall_mem_append.mpr ⟨(List.forall_mem_append.mpr ⟨(List.forall_mem_append.mpr ⟨hl_wsX11_restore_r1, (List.forall_mem_append.mpr ⟨hl_wsX11_restore_r2, hl_wsX11_restore_r3⟩)⟩), hl_wsX110⟩), hl_wsX20⟩), hl_wsX70⟩), hl_wsX90⟩), hl_wsX60⟩), hl_wsX40⟩)⟩)
theorem wd_1627 : Cond.selects RX12 yX12_restore yX12_restore ∈ lw_tbl := mt_8 (List.mem_of_getElem? (i := 175) rfl)
theorem wd_1628 : Cond.instanceMethod yX12_restore ∈ lw_tbl := mt_8 (List.mem_of_getElem? (i := 174) rfl)
theorem wd_1629 : Cond.methodLink RL 195 yX12_restore ∈ lw_tbl := mt_8 (List.mem_of_getElem? (i := 173) rfl)
theorem wd_1630 : Cond.code yX12_restore cX12_restore 3 (some .int) ∈ lw_tbl := mt_8 (List.mem_of_getElem? (i := 176) rfl)
set_option maxRecDepth 20000 in
theorem hl_wsX12_restore : ∀ w ∈ wsX12_restore, w ∈ lw_tbl := by
  unfold wsX12_restore
  exact (List.forall_mem_cons.mpr ⟨wd_1630, (List.forall_mem_append.mpr ⟨(List.forall_mem_cons.mpr ⟨wd_34, (List.forall_mem_cons.mpr ⟨wd_1622, (List.forall_mem_cons.mpr ⟨wd_423, (List.forall_mem_cons.mpr ⟨wd_422, (List.forall_mem_cons.mpr ⟨wd_421, (List.forall_mem_cons.mpr ⟨wd_27, (List.forall_mem_cons.mpr ⟨wd_420, (fun _ h => absurd h List.not_mem_nil)⟩)⟩)⟩)⟩)⟩)⟩)⟩), hl_wsX120⟩)⟩)
def tL_restore : List Cond := (wsV RL 192 RX11 yX11_restore wsX11_restore) ++ (wsV RL 195 RX12 yX12_restore wsX12_restore)
theorem tL_restore_in : ∀ w ∈ tL_restore, w ∈ lw_tbl := by
  unfold tL_restore
  exact (List.forall_mem_append.mpr ⟨(List.forall_mem_append.mpr ⟨(List.forall_mem_cons.mpr ⟨wd_1625, (List.forall_mem_cons.mpr ⟨wd_1624, (List.forall_mem_cons.mpr ⟨wd_1623, (List.forall_mem_cons.mpr ⟨wd_0, (fun _ h => absurd h List.not_mem_nil)⟩)⟩)⟩)⟩), hl_wsX11_restore⟩), (List.forall_mem_append.mpr ⟨(List.forall_mem_cons.mpr ⟨wd_1629, (List.forall_mem_cons.mpr ⟨wd_1628, (List.forall_mem_cons.mpr ⟨wd_1627, (List.forall_mem_cons.mpr ⟨wd_27, (fun _ h => absurd h List.not_mem_nil)⟩)⟩)⟩)⟩), hl_wsX12_restore⟩)⟩)
set_option maxRecDepth 20000 in
theorem tL_restore_x : GoodIn tL_restore (wsV RL 192 RX11 yX11_restore wsX11_restore) := fun w h => ⟨List.mem_append_left _ h, good_of_word (List.all_eq_true.mp (show (wsV RL 192 RX11 yX11_restore wsX11_restore).all goodWord = true by decide +kernel) w h)⟩
set_option maxRecDepth 20000 in
theorem tL_restore_m : GoodIn tL_restore (wsV RL 195 RX12 yX12_restore wsX12_restore) := fun w h => ⟨List.mem_append_right _ h, good_of_word (List.all_eq_true.mp (show (wsV RL 195 RX12 yX12_restore wsX12_restore).all goodWord = true by decide +kernel) w h)⟩
theorem hdLX11_restore : yX11_restore.cls = RX11 ∧ yX11_restore.cls ≠ "java/lang/invoke/MethodHandle" ∧ yX11_restore.cls ≠ "java/lang/invoke/VarHandle" ∧ (parseMethodDescriptor yX11_restore.desc).map (fun d => d.parameters.length) = some 1 := by decide +kernel
theorem hdLX12_restore : yX12_restore.cls = RX12 ∧ yX12_restore.cls ≠ "java/lang/invoke/MethodHandle" ∧ yX12_restore.cls ≠ "java/lang/invoke/VarHandle" ∧ (parseMethodDescriptor yX12_restore.desc).map (fun d => d.parameters.length) = some 1 := by decide +kernel
theorem wd_1631 : Cond.selects RX11 yX11_count yX11_count ∈ lw_tbl := mt_6 (List.mem_of_getElem? (i := 16) rfl)
theorem wd_1632 : Cond.instanceMethod yX11_count ∈ lw_tbl := mt_6 (List.mem_of_getElem? (i := 15) rfl)
theorem wd_1633 : Cond.methodLink RL 196 yX11_count ∈ lw_tbl := mt_6 (List.mem_of_getElem? (i := 14) rfl)
theorem wd_1634 : Cond.code yX11_count cX11_count 2 (some .int) ∈ lw_tbl := mt_6 (List.mem_of_getElem? (i := 17) rfl)
theorem wd_1635 : Cond.fieldLink RX11 401 "OneOfEach$Stock" "gifts" "I" ∈ lw_tbl := mt_1 (List.mem_of_getElem? (i := 134) rfl)
set_option maxRecDepth 20000 in
theorem hl_wsX11_count_r1 : ∀ w ∈ wsX11_count_r1, w ∈ lw_tbl := by
  unfold wsX11_count_r1
  exact (List.forall_mem_cons.mpr ⟨wd_84, (List.forall_mem_cons.mpr ⟨wd_550, (List.forall_mem_cons.mpr ⟨wd_85, (List.forall_mem_cons.mpr ⟨wd_545, (List.forall_mem_cons.mpr ⟨wd_556, (List.forall_mem_cons.mpr ⟨wd_555, (List.forall_mem_cons.mpr ⟨wd_927, (List.forall_mem_cons.mpr ⟨wd_1635, (List.forall_mem_cons.mpr ⟨wd_83, (List.forall_mem_cons.mpr ⟨wd_336, (List.forall_mem_cons.mpr ⟨wd_908, (List.forall_mem_cons.mpr ⟨wd_10, (List.forall_mem_cons.mpr ⟨wd_82, (List.forall_mem_cons.mpr ⟨wd_1349, (List.forall_mem_cons.mpr ⟨wd_748, (List.forall_mem_cons.mpr ⟨wd_747, (List.forall_mem_cons.mpr ⟨wd_102, (List.forall_mem_cons.mpr ⟨wd_746, (List.forall_mem_cons.mpr ⟨wd_98, (List.forall_mem_cons.mpr ⟨wd_99, (List.forall_mem_cons.mpr ⟨wd_745, (List.forall_mem_cons.mpr ⟨wd_744, (List.forall_mem_cons.mpr ⟨wd_743, (List.forall_mem_cons.mpr ⟨wd_742, (fun _ h => absurd h List.not_mem_nil)⟩)⟩)⟩)⟩)⟩)⟩)⟩)⟩)⟩)⟩)⟩)⟩)⟩)⟩)⟩)⟩)⟩)⟩)⟩)⟩)⟩)⟩)⟩)⟩)
theorem wd_1636 : Cond.methodLink RX11 404 yX7_together ∈ lw_tbl := mt_6 (List.mem_of_getElem? (i := 18) rfl)
set_option maxRecDepth 20000 in
theorem hl_wsX11_count_r2 : ∀ w ∈ wsX11_count_r2, w ∈ lw_tbl := by
  unfold wsX11_count_r2
  exact (List.forall_mem_cons.mpr ⟨wd_100, (List.forall_mem_cons.mpr ⟨wd_1636, (List.forall_mem_cons.mpr ⟨wd_865, (List.forall_mem_cons.mpr ⟨wd_864, (List.forall_mem_cons.mpr ⟨wd_114, (List.forall_mem_cons.mpr ⟨wd_863, (List.forall_mem_cons.mpr ⟨wd_112, (List.forall_mem_cons.mpr ⟨wd_862, (fun _ h => absurd h List.not_mem_nil)⟩)⟩)⟩)⟩)⟩)⟩)⟩)⟩)
set_option maxRecDepth 20000 in
theorem hl_wsX11_count : ∀ w ∈ wsX11_count, w ∈ lw_tbl := by
  unfold wsX11_count
  exact (List.forall_mem_cons.mpr ⟨wd_1634, (List.forall_mem_append.mpr ⟨(List.forall_mem_append.mpr ⟨(List.forall_mem_append.mpr ⟨(List.forall_mem_append.mpr ⟨(List.forall_mem_append.mpr ⟨hl_wsX11_count_r1, hl_wsX11_count_r2⟩), hl_wsX110⟩), hl_wsX90⟩), hl_wsX70⟩), hl_wsX60⟩)⟩)
theorem wd_1637 : Cond.selects RX12 yX12_count yX12_count ∈ lw_tbl := mt_8 (List.mem_of_getElem? (i := 179) rfl)
theorem wd_1638 : Cond.instanceMethod yX12_count ∈ lw_tbl := mt_8 (List.mem_of_getElem? (i := 178) rfl)
theorem wd_1639 : Cond.methodLink RL 199 yX12_count ∈ lw_tbl := mt_8 (List.mem_of_getElem? (i := 177) rfl)
theorem wd_1640 : Cond.code yX12_count cX12_count 2 (some .int) ∈ lw_tbl := mt_8 (List.mem_of_getElem? (i := 180) rfl)
set_option maxRecDepth 20000 in
theorem hl_wsX12_count : ∀ w ∈ wsX12_count, w ∈ lw_tbl := by
  unfold wsX12_count
  exact (List.forall_mem_cons.mpr ⟨wd_1640, (List.forall_mem_append.mpr ⟨(List.forall_mem_cons.mpr ⟨wd_34, (List.forall_mem_cons.mpr ⟨wd_423, (List.forall_mem_cons.mpr ⟨wd_33, (List.forall_mem_cons.mpr ⟨wd_768, (List.forall_mem_cons.mpr ⟨wd_767, (List.forall_mem_cons.mpr ⟨wd_766, (List.forall_mem_cons.mpr ⟨wd_27, (List.forall_mem_cons.mpr ⟨wd_765, (List.forall_mem_cons.mpr ⟨wd_614, (List.forall_mem_cons.mpr ⟨wd_613, (List.forall_mem_cons.mpr ⟨wd_654, (List.forall_mem_cons.mpr ⟨wd_653, (List.forall_mem_cons.mpr ⟨wd_652, (List.forall_mem_cons.mpr ⟨wd_651, (List.forall_mem_cons.mpr ⟨wd_650, (List.forall_mem_cons.mpr ⟨wd_649, (List.forall_mem_cons.mpr ⟨wd_648, (List.forall_mem_cons.mpr ⟨wd_647, (List.forall_mem_cons.mpr ⟨wd_646, (List.forall_mem_cons.mpr ⟨wd_645, (List.forall_mem_cons.mpr ⟨wd_890, (List.forall_mem_cons.mpr ⟨wd_889, (List.forall_mem_cons.mpr ⟨wd_888, (List.forall_mem_cons.mpr ⟨wd_887, (fun _ h => absurd h List.not_mem_nil)⟩)⟩)⟩)⟩)⟩)⟩)⟩)⟩)⟩)⟩)⟩)⟩)⟩)⟩)⟩)⟩)⟩)⟩)⟩)⟩)⟩)⟩)⟩)⟩), hl_wsX120⟩)⟩)
def tL_count : List Cond := (wsV RL 196 RX11 yX11_count wsX11_count) ++ (wsV RL 199 RX12 yX12_count wsX12_count)
theorem tL_count_in : ∀ w ∈ tL_count, w ∈ lw_tbl := by
  unfold tL_count
  exact (List.forall_mem_append.mpr ⟨(List.forall_mem_append.mpr ⟨(List.forall_mem_cons.mpr ⟨wd_1633, (List.forall_mem_cons.mpr ⟨wd_1632, (List.forall_mem_cons.mpr ⟨wd_1631, (List.forall_mem_cons.mpr ⟨wd_0, (fun _ h => absurd h List.not_mem_nil)⟩)⟩)⟩)⟩), hl_wsX11_count⟩), (List.forall_mem_append.mpr ⟨(List.forall_mem_cons.mpr ⟨wd_1639, (List.forall_mem_cons.mpr ⟨wd_1638, (List.forall_mem_cons.mpr ⟨wd_1637, (List.forall_mem_cons.mpr ⟨wd_27, (fun _ h => absurd h List.not_mem_nil)⟩)⟩)⟩)⟩), hl_wsX12_count⟩)⟩)
set_option maxRecDepth 20000 in
theorem tL_count_x : GoodIn tL_count (wsV RL 196 RX11 yX11_count wsX11_count) := fun w h => ⟨List.mem_append_left _ h, good_of_word (List.all_eq_true.mp (show (wsV RL 196 RX11 yX11_count wsX11_count).all goodWord = true by decide +kernel) w h)⟩
set_option maxRecDepth 20000 in
theorem tL_count_m : GoodIn tL_count (wsV RL 199 RX12 yX12_count wsX12_count) := fun w h => ⟨List.mem_append_right _ h, good_of_word (List.all_eq_true.mp (show (wsV RL 199 RX12 yX12_count wsX12_count).all goodWord = true by decide +kernel) w h)⟩
theorem hdLX11_count : yX11_count.cls = RX11 ∧ yX11_count.cls ≠ "java/lang/invoke/MethodHandle" ∧ yX11_count.cls ≠ "java/lang/invoke/VarHandle" ∧ (parseMethodDescriptor yX11_count.desc).map (fun d => d.parameters.length) = some 1 := by decide +kernel
theorem hdLX12_count : yX12_count.cls = RX12 ∧ yX12_count.cls ≠ "java/lang/invoke/MethodHandle" ∧ yX12_count.cls ≠ "java/lang/invoke/VarHandle" ∧ (parseMethodDescriptor yX12_count.desc).map (fun d => d.parameters.length) = some 1 := by decide +kernel
end
section
theorem wd_1641 : Cond.code yX11_init cX11_init 2 none ∈ lw_tbl := mt_1 (List.mem_of_getElem? (i := 26) rfl)
theorem wd_1642 : Cond.classLink RX11 50 RX10 ∈ lw_tbl := mt_1 (List.mem_of_getElem? (i := 179) rfl)
theorem wd_1643 : Cond.instantiable RX6 3 ∈ lw_tbl := mt_1 (List.mem_of_getElem? (i := 160) rfl)
theorem wd_1644 : Cond.classLink RX11 43 RX6 ∈ lw_tbl := mt_1 (List.mem_of_getElem? (i := 159) rfl)
theorem wd_1645 : Cond.instantiable RX9 9 ∈ lw_tbl := mt_1 (List.mem_of_getElem? (i := 98) rfl)
theorem wd_1646 : Cond.classLink RX11 33 RX9 ∈ lw_tbl := mt_1 (List.mem_of_getElem? (i := 97) rfl)
theorem wd_1647 : Cond.instantiable RX7 11 ∈ lw_tbl := mt_1 (List.mem_of_getElem? (i := 31) rfl)
theorem wd_1648 : Cond.classLink RX11 23 RX7 ∈ lw_tbl := mt_1 (List.mem_of_getElem? (i := 30) rfl)
theorem wd_1649 : Cond.arrayClass .int ∈ lw_tbl := mt_1 (List.mem_of_getElem? (i := 96) rfl)
theorem wd_1650 : Cond.code objectInit ⟨#[0xb1]⟩ 1 none ∈ lw_tbl := mt_1 (List.mem_of_getElem? (i := 29) rfl)
theorem wd_1651 : Cond.instanceMethod objectInit ∈ lw_tbl := mt_1 (List.mem_of_getElem? (i := 28) rfl)
theorem wd_1652 : Cond.methodLink RX11 3 objectInit ∈ lw_tbl := mt_1 (List.mem_of_getElem? (i := 27) rfl)
set_option maxRecDepth 20000 in
theorem hl_wsX11_init_r1 : ∀ w ∈ wsX11_init_r1, w ∈ lw_tbl := by
  unfold wsX11_init_r1
  exact (List.forall_mem_cons.mpr ⟨wd_1652, (List.forall_mem_cons.mpr ⟨wd_1651, (List.forall_mem_cons.mpr ⟨wd_1650, (List.forall_mem_cons.mpr ⟨wd_1649, (List.forall_mem_cons.mpr ⟨wd_5, (List.forall_mem_cons.mpr ⟨wd_10, (List.forall_mem_cons.mpr ⟨wd_88, (List.forall_mem_cons.mpr ⟨wd_86, (List.forall_mem_cons.mpr ⟨wd_1648, (List.forall_mem_cons.mpr ⟨wd_1647, (List.forall_mem_cons.mpr ⟨wd_114, (List.forall_mem_cons.mpr ⟨wd_85, (List.forall_mem_cons.mpr ⟨wd_91, (List.forall_mem_cons.mpr ⟨wd_1646, (List.forall_mem_cons.mpr ⟨wd_1645, (List.forall_mem_cons.mpr ⟨wd_102, (List.forall_mem_cons.mpr ⟨wd_84, (List.forall_mem_cons.mpr ⟨wd_90, (List.forall_mem_cons.mpr ⟨wd_1644, (List.forall_mem_cons.mpr ⟨wd_1643, (List.forall_mem_cons.mpr ⟨wd_368, (List.forall_mem_cons.mpr ⟨wd_336, (List.forall_mem_cons.mpr ⟨wd_1642, (List.forall_mem_cons.mpr ⟨wd_929, (fun _ h => absurd h List.not_mem_nil)⟩)⟩)⟩)⟩)⟩)⟩)⟩)⟩)⟩)⟩)⟩)⟩)⟩)⟩)⟩)⟩)⟩)⟩)⟩)⟩)⟩)⟩)⟩)⟩)
theorem wd_1653 : Cond.instantiable RX10 3 ∈ lw_tbl := mt_2 (List.mem_of_getElem? (i := 88) rfl)
theorem wd_1654 : Cond.instantiable RX0 5 ∈ lw_tbl := mt_2 (List.mem_of_getElem? (i := 65) rfl)
theorem wd_1655 : Cond.classLink RX11 98 RX0 ∈ lw_tbl := mt_2 (List.mem_of_getElem? (i := 64) rfl)
theorem wd_1656 : Cond.instantiable RX5 14 ∈ lw_tbl := mt_2 (List.mem_of_getElem? (i := 12) rfl)
theorem wd_1657 : Cond.classLink RX11 89 RX5 ∈ lw_tbl := mt_2 (List.mem_of_getElem? (i := 11) rfl)
theorem wd_1658 : Cond.instantiable RX1 1 ∈ lw_tbl := mt_2 (List.mem_of_getElem? (i := 2) rfl)
theorem wd_1659 : Cond.classLink RX11 80 RX1 ∈ lw_tbl := mt_2 (List.mem_of_getElem? (i := 1) rfl)
theorem wd_1660 : Cond.instantiable RX4 7 ∈ lw_tbl := mt_1 (List.mem_of_getElem? (i := 214) rfl)
theorem wd_1661 : Cond.classLink RX11 71 RX4 ∈ lw_tbl := mt_1 (List.mem_of_getElem? (i := 213) rfl)
theorem wd_1662 : Cond.instantiable RX8 7 ∈ lw_tbl := mt_1 (List.mem_of_getElem? (i := 184) rfl)
theorem wd_1663 : Cond.classLink RX11 62 RX8 ∈ lw_tbl := mt_1 (List.mem_of_getElem? (i := 183) rfl)
theorem wd_1664 : Cond.classLink RX11 56 RX2 ∈ lw_tbl := mt_1 (List.mem_of_getElem? (i := 181) rfl)
set_option maxRecDepth 20000 in
theorem hl_wsX11_init_r2 : ∀ w ∈ wsX11_init_r2, w ∈ lw_tbl := by
  unfold wsX11_init_r2
  exact (List.forall_mem_cons.mpr ⟨wd_1664, (List.forall_mem_cons.mpr ⟨wd_1614, (List.forall_mem_cons.mpr ⟨wd_1663, (List.forall_mem_cons.mpr ⟨wd_1662, (List.forall_mem_cons.mpr ⟨wd_78, (List.forall_mem_cons.mpr ⟨wd_92, (List.forall_mem_cons.mpr ⟨wd_1661, (List.forall_mem_cons.mpr ⟨wd_1660, (List.forall_mem_cons.mpr ⟨wd_362, (List.forall_mem_cons.mpr ⟨wd_335, (List.forall_mem_cons.mpr ⟨wd_1659, (List.forall_mem_cons.mpr ⟨wd_1658, (List.forall_mem_cons.mpr ⟨wd_736, (List.forall_mem_cons.mpr ⟨wd_740, (List.forall_mem_cons.mpr ⟨wd_1657, (List.forall_mem_cons.mpr ⟨wd_1656, (List.forall_mem_cons.mpr ⟨wd_1030, (List.forall_mem_cons.mpr ⟨wd_1034, (List.forall_mem_cons.mpr ⟨wd_1655, (List.forall_mem_cons.mpr ⟨wd_1654, (List.forall_mem_cons.mpr ⟨wd_1428, (List.forall_mem_cons.mpr ⟨wd_1413, (List.forall_mem_cons.mpr ⟨wd_1653, (List.forall_mem_cons.mpr ⟨wd_920, (fun _ h => absurd h List.not_mem_nil)⟩)⟩)⟩)⟩)⟩)⟩)⟩)⟩)⟩)⟩)⟩)⟩)⟩)⟩)⟩)⟩)⟩)⟩)⟩)⟩)⟩)⟩)⟩)⟩)
theorem wd_1665 : Cond.methodLink RX9 3 objectInit ∈ lw_tbl := mt_1 (List.mem_of_getElem? (i := 102) rfl)
theorem wd_1666 : Cond.code yX9_init cX9_init 1 none ∈ lw_tbl := mt_1 (List.mem_of_getElem? (i := 101) rfl)
theorem wd_1667 : Cond.instanceMethod yX9_init ∈ lw_tbl := mt_1 (List.mem_of_getElem? (i := 100) rfl)
theorem wd_1668 : Cond.methodLink RX7 3 objectInit ∈ lw_tbl := mt_1 (List.mem_of_getElem? (i := 35) rfl)
theorem wd_1669 : Cond.code yX7_init cX7_init 1 none ∈ lw_tbl := mt_1 (List.mem_of_getElem? (i := 34) rfl)
theorem wd_1670 : Cond.instanceMethod yX7_init ∈ lw_tbl := mt_1 (List.mem_of_getElem? (i := 33) rfl)
theorem wd_1671 : Cond.initialized RX2 ∈ lw_tbl := mt_1 (List.mem_of_getElem? (i := 11) rfl)
theorem wd_1672 : Cond.instantiable RX2 3 ∈ lw_tbl := mt_2 (List.mem_of_getElem? (i := 103) rfl)
set_option maxRecDepth 20000 in
theorem hl_wsX11_init_r3 : ∀ w ∈ wsX11_init_r3, w ∈ lw_tbl := by
  unfold wsX11_init_r3
  exact (List.forall_mem_cons.mpr ⟨wd_1672, (List.forall_mem_cons.mpr ⟨wd_1671, (List.forall_mem_cons.mpr ⟨wd_1670, (List.forall_mem_cons.mpr ⟨wd_1669, (List.forall_mem_cons.mpr ⟨wd_1668, (List.forall_mem_cons.mpr ⟨wd_112, (List.forall_mem_cons.mpr ⟨wd_111, (List.forall_mem_cons.mpr ⟨wd_1606, (List.forall_mem_cons.mpr ⟨wd_1605, (List.forall_mem_cons.mpr ⟨wd_862, (List.forall_mem_cons.mpr ⟨wd_1604, (List.forall_mem_cons.mpr ⟨wd_110, (List.forall_mem_cons.mpr ⟨wd_109, (List.forall_mem_cons.mpr ⟨wd_108, (List.forall_mem_cons.mpr ⟨wd_107, (List.forall_mem_cons.mpr ⟨wd_106, (List.forall_mem_cons.mpr ⟨wd_1667, (List.forall_mem_cons.mpr ⟨wd_1666, (List.forall_mem_cons.mpr ⟨wd_1665, (List.forall_mem_cons.mpr ⟨wd_100, (List.forall_mem_cons.mpr ⟨wd_342, (List.forall_mem_cons.mpr ⟨wd_341, (List.forall_mem_cons.mpr ⟨wd_99, (List.forall_mem_cons.mpr ⟨wd_98, (fun _ h => absurd h List.not_mem_nil)⟩)⟩)⟩)⟩)⟩)⟩)⟩)⟩)⟩)⟩)⟩)⟩)⟩)⟩)⟩)⟩)⟩)⟩)⟩)⟩)⟩)⟩)⟩)⟩)
theorem wd_1673 : Cond.methodLink RX11 73 yX4_init ∈ lw_tbl := mt_1 (List.mem_of_getElem? (i := 215) rfl)
theorem wd_1674 : Cond.methodLink RX8 3 objectInit ∈ lw_tbl := mt_1 (List.mem_of_getElem? (i := 188) rfl)
theorem wd_1675 : Cond.code yX8_init cX8_init 3 none ∈ lw_tbl := mt_1 (List.mem_of_getElem? (i := 187) rfl)
theorem wd_1676 : Cond.instanceMethod yX8_init ∈ lw_tbl := mt_1 (List.mem_of_getElem? (i := 186) rfl)
theorem wd_1677 : Cond.methodLink RX11 64 yX8_init ∈ lw_tbl := mt_1 (List.mem_of_getElem? (i := 185) rfl)
theorem wd_1678 : Cond.classLink RX6 9 RX9 ∈ lw_tbl := mt_1 (List.mem_of_getElem? (i := 165) rfl)
theorem wd_1679 : Cond.methodLink RX6 3 objectInit ∈ lw_tbl := mt_1 (List.mem_of_getElem? (i := 164) rfl)
theorem wd_1680 : Cond.code yX6_init cX6_init 2 none ∈ lw_tbl := mt_1 (List.mem_of_getElem? (i := 163) rfl)
theorem wd_1681 : Cond.instanceMethod yX6_init ∈ lw_tbl := mt_1 (List.mem_of_getElem? (i := 162) rfl)
theorem wd_1682 : Cond.methodLink RX11 45 yX6_init ∈ lw_tbl := mt_1 (List.mem_of_getElem? (i := 161) rfl)
set_option maxRecDepth 20000 in
theorem hl_wsX11_init_r4 : ∀ w ∈ wsX11_init_r4, w ∈ lw_tbl := by
  unfold wsX11_init_r4
  exact (List.forall_mem_cons.mpr ⟨wd_97, (List.forall_mem_cons.mpr ⟨wd_96, (List.forall_mem_cons.mpr ⟨wd_95, (List.forall_mem_cons.mpr ⟨wd_94, (List.forall_mem_cons.mpr ⟨wd_1682, (List.forall_mem_cons.mpr ⟨wd_1681, (List.forall_mem_cons.mpr ⟨wd_1680, (List.forall_mem_cons.mpr ⟨wd_1679, (List.forall_mem_cons.mpr ⟨wd_1678, (List.forall_mem_cons.mpr ⟨wd_711, (List.forall_mem_cons.mpr ⟨wd_710, (List.forall_mem_cons.mpr ⟨wd_366, (List.forall_mem_cons.mpr ⟨wd_1677, (List.forall_mem_cons.mpr ⟨wd_1676, (List.forall_mem_cons.mpr ⟨wd_1675, (List.forall_mem_cons.mpr ⟨wd_1674, (List.forall_mem_cons.mpr ⟨wd_136, (List.forall_mem_cons.mpr ⟨wd_137, (List.forall_mem_cons.mpr ⟨wd_74, (List.forall_mem_cons.mpr ⟨wd_73, (List.forall_mem_cons.mpr ⟨wd_72, (List.forall_mem_cons.mpr ⟨wd_76, (List.forall_mem_cons.mpr ⟨wd_75, (List.forall_mem_cons.mpr ⟨wd_1673, (fun _ h => absurd h List.not_mem_nil)⟩)⟩)⟩)⟩)⟩)⟩)⟩)⟩)⟩)⟩)⟩)⟩)⟩)⟩)⟩)⟩)⟩)⟩)⟩)⟩)⟩)⟩)⟩)⟩)
theorem wd_1683 : Cond.arrayClass .long ∈ lw_tbl := mt_2 (List.mem_of_getElem? (i := 63) rfl)
theorem wd_1684 : Cond.methodLink RX5 3 objectInit ∈ lw_tbl := mt_2 (List.mem_of_getElem? (i := 16) rfl)
theorem wd_1685 : Cond.code yX5_init cX5_init 4 none ∈ lw_tbl := mt_2 (List.mem_of_getElem? (i := 15) rfl)
theorem wd_1686 : Cond.instanceMethod yX5_init ∈ lw_tbl := mt_2 (List.mem_of_getElem? (i := 14) rfl)
theorem wd_1687 : Cond.methodLink RX11 91 yX5_init ∈ lw_tbl := mt_2 (List.mem_of_getElem? (i := 13) rfl)
theorem wd_1688 : Cond.methodLink RX1 3 objectInit ∈ lw_tbl := mt_2 (List.mem_of_getElem? (i := 6) rfl)
theorem wd_1689 : Cond.code yX1_init cX1_init 2 none ∈ lw_tbl := mt_2 (List.mem_of_getElem? (i := 5) rfl)
theorem wd_1690 : Cond.instanceMethod yX1_init ∈ lw_tbl := mt_2 (List.mem_of_getElem? (i := 4) rfl)
theorem wd_1691 : Cond.methodLink RX11 82 yX1_init ∈ lw_tbl := mt_2 (List.mem_of_getElem? (i := 3) rfl)
theorem wd_1692 : Cond.methodLink RX4 5 objectInit ∈ lw_tbl := mt_1 (List.mem_of_getElem? (i := 218) rfl)
theorem wd_1693 : Cond.code yX4_init cX4_init 2 none ∈ lw_tbl := mt_1 (List.mem_of_getElem? (i := 217) rfl)
theorem wd_1694 : Cond.instanceMethod yX4_init ∈ lw_tbl := mt_1 (List.mem_of_getElem? (i := 216) rfl)
set_option maxRecDepth 20000 in
theorem hl_wsX11_init_r5 : ∀ w ∈ wsX11_init_r5, w ∈ lw_tbl := by
  unfold wsX11_init_r5
  exact (List.forall_mem_cons.mpr ⟨wd_1694, (List.forall_mem_cons.mpr ⟨wd_1693, (List.forall_mem_cons.mpr ⟨wd_1692, (List.forall_mem_cons.mpr ⟨wd_573, (List.forall_mem_cons.mpr ⟨wd_360, (List.forall_mem_cons.mpr ⟨wd_575, (List.forall_mem_cons.mpr ⟨wd_593, (List.forall_mem_cons.mpr ⟨wd_586, (List.forall_mem_cons.mpr ⟨wd_577, (List.forall_mem_cons.mpr ⟨wd_540, (List.forall_mem_cons.mpr ⟨wd_1691, (List.forall_mem_cons.mpr ⟨wd_1690, (List.forall_mem_cons.mpr ⟨wd_1689, (List.forall_mem_cons.mpr ⟨wd_1688, (List.forall_mem_cons.mpr ⟨wd_754, (List.forall_mem_cons.mpr ⟨wd_1687, (List.forall_mem_cons.mpr ⟨wd_1686, (List.forall_mem_cons.mpr ⟨wd_1685, (List.forall_mem_cons.mpr ⟨wd_1684, (List.forall_mem_cons.mpr ⟨wd_1042, (List.forall_mem_cons.mpr ⟨wd_1028, (List.forall_mem_cons.mpr ⟨wd_1056, (List.forall_mem_cons.mpr ⟨wd_1683, (List.forall_mem_cons.mpr ⟨wd_1137, (fun _ h => absurd h List.not_mem_nil)⟩)⟩)⟩)⟩)⟩)⟩)⟩)⟩)⟩)⟩)⟩)⟩)⟩)⟩)⟩)⟩)⟩)⟩)⟩)⟩)⟩)⟩)⟩)⟩)
theorem wd_1695 : Cond.methodLink RX10 3 objectInit ∈ lw_tbl := mt_2 (List.mem_of_getElem? (i := 92) rfl)
theorem wd_1696 : Cond.code yX10_init cX10_init 1 none ∈ lw_tbl := mt_2 (List.mem_of_getElem? (i := 91) rfl)
theorem wd_1697 : Cond.instanceMethod yX10_init ∈ lw_tbl := mt_2 (List.mem_of_getElem? (i := 90) rfl)
theorem wd_1698 : Cond.methodLink RX0 3 objectInit ∈ lw_tbl := mt_2 (List.mem_of_getElem? (i := 69) rfl)
theorem wd_1699 : Cond.code yX0_init cX0_init 2 none ∈ lw_tbl := mt_2 (List.mem_of_getElem? (i := 68) rfl)
theorem wd_1700 : Cond.instanceMethod yX0_init ∈ lw_tbl := mt_2 (List.mem_of_getElem? (i := 67) rfl)
theorem wd_1701 : Cond.methodLink RX11 100 yX0_init ∈ lw_tbl := mt_2 (List.mem_of_getElem? (i := 66) rfl)
set_option maxRecDepth 20000 in
theorem hl_wsX11_init_r6 : ∀ w ∈ wsX11_init_r6, w ∈ lw_tbl := by
  unfold wsX11_init_r6
  exact (List.forall_mem_cons.mpr ⟨wd_1129, (List.forall_mem_cons.mpr ⟨wd_1238, (List.forall_mem_cons.mpr ⟨wd_1237, (List.forall_mem_cons.mpr ⟨wd_1236, (List.forall_mem_cons.mpr ⟨wd_1026, (List.forall_mem_cons.mpr ⟨wd_1019, (List.forall_mem_cons.mpr ⟨wd_1027, (List.forall_mem_cons.mpr ⟨wd_1017, (List.forall_mem_cons.mpr ⟨wd_1021, (List.forall_mem_cons.mpr ⟨wd_1020, (List.forall_mem_cons.mpr ⟨wd_1701, (List.forall_mem_cons.mpr ⟨wd_1700, (List.forall_mem_cons.mpr ⟨wd_1699, (List.forall_mem_cons.mpr ⟨wd_1698, (List.forall_mem_cons.mpr ⟨wd_1443, (List.forall_mem_cons.mpr ⟨wd_1487, (List.forall_mem_cons.mpr ⟨wd_1426, (List.forall_mem_cons.mpr ⟨wd_1424, (List.forall_mem_cons.mpr ⟨wd_1425, (List.forall_mem_cons.mpr ⟨wd_1697, (List.forall_mem_cons.mpr ⟨wd_1696, (List.forall_mem_cons.mpr ⟨wd_1695, (List.forall_mem_cons.mpr ⟨wd_931, (List.forall_mem_cons.mpr ⟨wd_1561, (fun _ h => absurd h List.not_mem_nil)⟩)⟩)⟩)⟩)⟩)⟩)⟩)⟩)⟩)⟩)⟩)⟩)⟩)⟩)⟩)⟩)⟩)⟩)⟩)⟩)⟩)⟩)⟩)⟩)
theorem wd_1702 : Cond.fieldLink RX2 23 "OneOfEach$Image" "stock" "LOneOfEach$Stock;" ∈ lw_tbl := mt_2 (List.mem_of_getElem? (i := 116) rfl)
theorem wd_1703 : Cond.classLink RX2 20 RX9 ∈ lw_tbl := mt_2 (List.mem_of_getElem? (i := 110) rfl)
theorem wd_1704 : Cond.fieldLink RX2 16 "OneOfEach$Image" "plan" "LOneOfEach$Plan;" ∈ lw_tbl := mt_2 (List.mem_of_getElem? (i := 114) rfl)
theorem wd_1705 : Cond.classLink RX2 13 RX7 ∈ lw_tbl := mt_2 (List.mem_of_getElem? (i := 108) rfl)
theorem wd_1706 : Cond.fieldLink RX2 7 "OneOfEach$Image" "made" "Z" ∈ lw_tbl := mt_2 (List.mem_of_getElem? (i := 112) rfl)
theorem wd_1707 : Cond.methodLink RX2 1 objectInit ∈ lw_tbl := mt_2 (List.mem_of_getElem? (i := 107) rfl)
theorem wd_1708 : Cond.code yX2_init cX2_init 1 none ∈ lw_tbl := mt_2 (List.mem_of_getElem? (i := 106) rfl)
theorem wd_1709 : Cond.instanceMethod yX2_init ∈ lw_tbl := mt_2 (List.mem_of_getElem? (i := 105) rfl)
set_option maxRecDepth 20000 in
theorem hl_wsX11_init_r7 : ∀ w ∈ wsX11_init_r7, w ∈ lw_tbl := by
  unfold wsX11_init_r7
  exact (List.forall_mem_cons.mpr ⟨wd_918, (List.forall_mem_cons.mpr ⟨wd_1709, (List.forall_mem_cons.mpr ⟨wd_1708, (List.forall_mem_cons.mpr ⟨wd_1707, (List.forall_mem_cons.mpr ⟨wd_1706, (List.forall_mem_cons.mpr ⟨wd_1705, (List.forall_mem_cons.mpr ⟨wd_1704, (List.forall_mem_cons.mpr ⟨wd_1703, (List.forall_mem_cons.mpr ⟨wd_1702, (fun _ h => absurd h List.not_mem_nil)⟩)⟩)⟩)⟩)⟩)⟩)⟩)⟩)⟩)
set_option maxRecDepth 20000 in
theorem hl_wsX11_init : ∀ w ∈ wsX11_init, w ∈ lw_tbl := by
  unfold wsX11_init
  exact (List.forall_mem_cons.mpr ⟨wd_1641, (List.forall_mem_append.mpr ⟨(List.forall_mem_append.mpr ⟨(List.forall_mem_append.mpr ⟨(List.forall_mem_append.mpr ⟨(List.forall_mem_append.mpr ⟨(List.forall_mem_append.mpr ⟨(List.forall_mem_append.mpr ⟨(List.forall_mem_append.mpr ⟨(List.forall_mem_append.mpr ⟨(List.forall_mem_append.mpr ⟨(List.forall_mem_append.mpr ⟨(List.forall_mem_append.mpr ⟨hl_wsX11_init_r1, (List.forall_mem_append.mpr ⟨hl_wsX11_init_r2, (List.forall_mem_append.mpr ⟨hl_wsX11_init_r3, (List.forall_mem_append.mpr ⟨hl_wsX11_init_r4, (List.forall_mem_append.mpr ⟨hl_wsX11_init_r5, (List.forall_mem_append.mpr ⟨hl_wsX11_init_r6, hl_wsX11_init_r7⟩)⟩)⟩)⟩)⟩)⟩), hl_wsX110⟩), hl_wsX70⟩), hl_wsX90⟩), hl_wsX60⟩), hl_wsX80⟩), hl_wsX40⟩), hl_wsX10⟩), hl_wsX50⟩), hl_wsX00⟩), hl_wsX100⟩), hl_wsX20⟩)⟩)
set_option maxRecDepth 20000 in
theorem gi_X11 : GoodIn lw_tbl wsX11_init := fun w h => ⟨hl_wsX11_init w h, good_of_word (List.all_eq_true.mp (show wsX11_init.all goodWord = true by decide +kernel) w h)⟩
theorem wd_1710 : Cond.code yX12_init cX12_init 1 none ∈ lw_tbl := mt_6 (List.mem_of_getElem? (i := 23) rfl)
theorem wd_1711 : Cond.arrayClass .boolean ∈ lw_tbl := mt_6 (List.mem_of_getElem? (i := 125) rfl)
theorem wd_1712 : Cond.methodLink RX12 7 objectInit ∈ lw_tbl := mt_6 (List.mem_of_getElem? (i := 24) rfl)
set_option maxRecDepth 20000 in
theorem hl_wsX12_init_r1 : ∀ w ∈ wsX12_init_r1, w ∈ lw_tbl := by
  unfold wsX12_init_r1
  exact (List.forall_mem_cons.mpr ⟨wd_1712, (List.forall_mem_cons.mpr ⟨wd_1651, (List.forall_mem_cons.mpr ⟨wd_1650, (List.forall_mem_cons.mpr ⟨wd_1649, (List.forall_mem_cons.mpr ⟨wd_423, (List.forall_mem_cons.mpr ⟨wd_1711, (List.forall_mem_cons.mpr ⟨wd_1622, (List.forall_mem_cons.mpr ⟨wd_32, (List.forall_mem_cons.mpr ⟨wd_428, (List.forall_mem_cons.mpr ⟨wd_424, (List.forall_mem_cons.mpr ⟨wd_632, (List.forall_mem_cons.mpr ⟨wd_633, (List.forall_mem_cons.mpr ⟨wd_729, (List.forall_mem_cons.mpr ⟨wd_1083, (List.forall_mem_cons.mpr ⟨wd_1096, (List.forall_mem_cons.mpr ⟨wd_1122, (List.forall_mem_cons.mpr ⟨wd_1205, (List.forall_mem_cons.mpr ⟨wd_1683, (List.forall_mem_cons.mpr ⟨wd_1172, (List.forall_mem_cons.mpr ⟨wd_1167, (List.forall_mem_cons.mpr ⟨wd_1271, (List.forall_mem_cons.mpr ⟨wd_1458, (List.forall_mem_cons.mpr ⟨wd_1495, (List.forall_mem_cons.mpr ⟨wd_957, (fun _ h => absurd h List.not_mem_nil)⟩)⟩)⟩)⟩)⟩)⟩)⟩)⟩)⟩)⟩)⟩)⟩)⟩)⟩)⟩)⟩)⟩)⟩)⟩)⟩)⟩)⟩)⟩)⟩)
set_option maxRecDepth 20000 in
theorem hl_wsX12_init_r2 : ∀ w ∈ wsX12_init_r2, w ∈ lw_tbl := by
  unfold wsX12_init_r2
  exact (List.forall_mem_cons.mpr ⟨wd_952, (List.forall_mem_cons.mpr ⟨wd_951, (List.forall_mem_cons.mpr ⟨wd_419, (List.forall_mem_cons.mpr ⟨wd_418, (List.forall_mem_cons.mpr ⟨wd_27, (List.forall_mem_cons.mpr ⟨wd_417, (fun _ h => absurd h List.not_mem_nil)⟩)⟩)⟩)⟩)⟩)⟩)
set_option maxRecDepth 20000 in
theorem hl_wsX12_init : ∀ w ∈ wsX12_init, w ∈ lw_tbl := by
  unfold wsX12_init
  exact (List.forall_mem_cons.mpr ⟨wd_1710, (List.forall_mem_append.mpr ⟨(List.forall_mem_append.mpr ⟨hl_wsX12_init_r1, hl_wsX12_init_r2⟩), hl_wsX120⟩)⟩)
set_option maxRecDepth 20000 in
theorem gi_X12 : GoodIn lw_tbl wsX12_init := fun w h => ⟨hl_wsX12_init w h, good_of_word (List.all_eq_true.mp (show wsX12_init.all goodWord = true by decide +kernel) w h)⟩
theorem wd_1713 : Cond.instantiable RX11 16 ∈ lw_tbl := mt_1 (List.mem_of_getElem? (i := 23) rfl)
theorem wd_1714 : Cond.instantiable RX12 32 ∈ lw_tbl := mt_6 (List.mem_of_getElem? (i := 20) rfl)
theorem wd_1715 : Cond.stringRef RX3 23 (js_tx 0) ∈ lw_tbl := mt_3 (List.mem_of_getElem? (i := 24) rfl)
theorem wd_1716 : Cond.stringRef RX3 31 (js_tx 1) ∈ lw_tbl := mt_2 (List.mem_of_getElem? (i := 220) rfl)
theorem wd_1717 : Cond.stringRef RX12 86 (js_tx 2) ∈ lw_tbl := mt_6 (List.mem_of_getElem? (i := 152) rfl)
theorem wd_1718 : Cond.stringRef RX12 124 (js_tx 3) ∈ lw_tbl := mt_6 (List.mem_of_getElem? (i := 158) rfl)
theorem wd_1719 : Cond.methodLinkNest RX2 15 yX7_init RX11 ∈ lw_tbl := mt_2 (List.mem_of_getElem? (i := 109) rfl)
theorem wd_1720 : Cond.methodLinkNest RX2 22 yX9_init RX11 ∈ lw_tbl := mt_2 (List.mem_of_getElem? (i := 111) rfl)
theorem wd_1721 : Cond.methodLinkNest RX6 24 yX9_init RX11 ∈ lw_tbl := mt_1 (List.mem_of_getElem? (i := 167) rfl)
theorem wd_1722 : Cond.methodLinkNest RX11 25 yX7_init RX11 ∈ lw_tbl := mt_1 (List.mem_of_getElem? (i := 32) rfl)
theorem wd_1723 : Cond.methodLinkNest RX11 35 yX9_init RX11 ∈ lw_tbl := mt_1 (List.mem_of_getElem? (i := 99) rfl)
theorem wd_1724 : Cond.methodLinkNest RX11 107 yX10_init RX11 ∈ lw_tbl := mt_2 (List.mem_of_getElem? (i := 89) rfl)
theorem wd_1725 : Cond.methodLinkNest RX11 108 yX2_init RX11 ∈ lw_tbl := mt_2 (List.mem_of_getElem? (i := 104) rfl)
theorem wd_1726 : Cond.arrayOver (.object RX9) ∈ lw_tbl := mt_1 (List.mem_of_getElem? (i := 166) rfl)
theorem wd_1727 : Cond.arrayOver (.object RX10) ∈ lw_tbl := mt_1 (List.mem_of_getElem? (i := 180) rfl)
theorem wd_1728 : Cond.arrayOver (.object RX2) ∈ lw_tbl := mt_1 (List.mem_of_getElem? (i := 182) rfl)
theorem wd_1729 : Cond.classLink RL 7 RX11 ∈ lw_tbl := mt_1 (List.mem_of_getElem? (i := 22) rfl)
theorem wd_1730 : Cond.methodLink RL 9 yX11_init ∈ lw_tbl := mt_1 (List.mem_of_getElem? (i := 24) rfl)
theorem wd_1731 : Cond.instanceMethod yX11_init ∈ lw_tbl := mt_1 (List.mem_of_getElem? (i := 25) rfl)
theorem wd_1732 : Cond.classLink RL 10 RX12 ∈ lw_tbl := mt_6 (List.mem_of_getElem? (i := 19) rfl)
theorem wd_1733 : Cond.methodLink RL 12 yX12_init ∈ lw_tbl := mt_6 (List.mem_of_getElem? (i := 21) rfl)
theorem wd_1734 : Cond.instanceMethod yX12_init ∈ lw_tbl := mt_6 (List.mem_of_getElem? (i := 22) rfl)
theorem wd_1735 : Cond.laysStatic "java/lang/String" "COMPACT_STRINGS" "Z" ∈ lw_tbl := mt_2 (List.mem_of_getElem? (i := 230) rfl)
theorem wd_1736 : Cond.initialized "java/lang/String" ∈ lw_tbl := mt_1 (List.mem_of_getElem? (i := 14) rfl)
theorem wd_1737 : Cond.laysStatic "jdk/internal/util/Preconditions" "SIOOBE_FORMATTER" "Ljava/util/function/BiFunction;" ∈ lw_tbl := mt_2 (List.mem_of_getElem? (i := 238) rfl)
theorem wd_1738 : Cond.initialized "jdk/internal/util/Preconditions" ∈ lw_tbl := mt_1 (List.mem_of_getElem? (i := 16) rfl)
end
