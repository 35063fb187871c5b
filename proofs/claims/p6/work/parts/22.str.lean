theorem h_ck2 : yJ0_checkIndex_df160.cls ≠ "java/lang/invoke/MethodHandle" ∧ yJ0_checkIndex_df160.cls ≠ "java/lang/invoke/VarHandle" ∧ (parseMethodDescriptor yJ0_checkIndex_df160.desc).map (fun d => d.parameters.length) = some 2 := by decide +kernel
theorem js_all : ∀ i, i < 4 → js_len i = (js_byt i).length ∧ js_len i < 1000 ∧ ∀ b ∈ js_byt i, ((b &&& 255).toUInt32 % 65536).toInt32 = b ∧ 0 ≤ b.toInt ∧ b.toInt ≤ 127 ∧ narrow .char (.int b) = .int b := by decide +kernel
theorem js_at {i k : Nat} (hi : i < 4) (hk : k < js_len i) : (js_byt i).getD k 0 ∈ js_byt i := by
  have h := (js_all i hi).1
  rw [List.getD_eq_getElem?_getD, List.getElem?_eq_getElem (by omega)]
  exact List.getElem_mem _
theorem js_sp1 : ∀ k, k < 119 → (js_byt 1).getD k 0 = 32 ∨ k + 1 < 119 := by decide +kernel
theorem js_sp2 : ∀ k, k < 88 → (js_byt 2).getD k 0 = 32 ∨ k + 1 < 88 := by decide +kernel
section YS
variable {p : Program} {l : Launch} {e : Env} {R : Room} {s : State} {m : MethodId} {args : Array Value} {below : List Frame} {meth : Method} {c : Code} {cells slots : Nat} {Q : State → Prop} {cc : ByteArray} {nL : Nat} {own : String} {Ts : List Cond} {dC : Nat → ClassId} {dI : Nat → Nat → Nat} {ad : Nat → Nat} {cA : Nat → ClassId} {A : Nat → Prop} {M : mm_M} {pc : Nat} {lv : List (Nat × Value)} {st : List Value}
theorem j_ldcS (C : jj_C p R s m args c cells slots cc nL own Ts dC dI ad cA A) {index : Nat} (i : Nat) (hi : i < 4) (ho : js_own i = own) (hx : js_ix i = index) (d : decode cc pc = .ok (.ldc index, 2)) (k : jj p l e R s m args below meth c cells slots Q nL dC dI ad cA A M (pc + 2) lv (.ref (dI 1000 i) :: st)) : jj p l e R s m args below meth c cells slots Q nL dC dI ad cA A M pc lv st := by
  subst ho; subst hx
  exact fun H locs ls hP hS hl => va_ldcS C.1.1 C.1.2.1 C.1.2.2.2.1 (C.2.2.2.2.2.2.2.1 i hi).2 d (k H locs ls hP hS hl)
theorem j_getsC (C : jj_C p R s m args c cells slots cc nL own Ts dC dI ad cA A) {index : Nat} (hw : Cond.fieldLink own index "java/lang/String" "COMPACT_STRINGS" "Z" ∈ Ts) (d : decode cc pc = .ok (.getstatic index, 3)) (k : jj p l e R s m args below meth c cells slots Q nL dC dI ad cA A M (pc + 3) lv (.int (sI 1) :: st)) : jj p l e R s m args below meth c cells slots Q nL dC dI ad cA A M pc lv st :=
  fun H locs ls hP hS hl => va_gets C.1.1 C.1.2.1 C.2.2.2.2.2.2.2.2.1 hS C.1.2.2.2.1 (C.1.2.2.2.2 _ hw) (fun _ q => q) d (k H locs ls hP hS hl)
theorem j_getsF (C : jj_C p R s m args c cells slots cc nL own Ts dC dI ad cA A) {index : Nat} (hw : Cond.fieldLink own index "jdk/internal/util/Preconditions" "SIOOBE_FORMATTER" "Ljava/util/function/BiFunction;" ∈ Ts) (d : decode cc pc = .ok (.getstatic index, 3)) (k1 : jj p l e R s m args below meth c cells slots Q nL dC dI ad cA A M (pc + 3) lv (.null :: st)) (k2 : ∀ t : Nat, jj p l e R s m args below meth c cells slots Q nL dC dI ad cA A M (pc + 3) lv (.ref t :: st)) : jj p l e R s m args below meth c cells slots Q nL dC dI ad cA A M pc lv st := by
  intro H locs ls hP hS hl
  rcases C.2.2.2.2.2.2.2.2.2 with h | ⟨t, h⟩
  · exact va_gets C.1.1 C.1.2.1 h hS C.1.2.2.2.1 (C.1.2.2.2.2 _ hw) (fun _ q => q) d (k1 H locs ls hP hS hl)
  · exact va_gets C.1.1 C.1.2.1 h hS C.1.2.2.2.1 (C.1.2.2.2.2 _ hw) (fun _ q => q) d (k2 t H locs ls hP hS hl)
theorem j_strV (C : jj_C p R s m args c cells slots cc nL own Ts dC dI ad cA A) {index i : Nat} (hi : i < 4) (hw : Cond.fieldLink own index "java/lang/String" "value" "[B" ∈ Ts) (d : decode cc pc = .ok (.getfield index, 3)) (k : jj p l e R s m args below meth c cells slots Q nL dC dI ad cA A M (pc + 3) lv (.ref (dI 1001 i) :: st)) : jj p l e R s m args below meth c cells slots Q nL dC dI ad cA A M pc lv (.ref (dI 1000 i) :: st) :=
  fun H locs ls hP hS hl => vk_getf C.1.1 C.1.2.1 ((C.2.2.2.2.2.2.2.1 i hi).1.1 0 (by decide)).2.2.1 hS C.1.2.2.2.1 (C.1.2.2.2.2 _ hw) (fun _ q => q) d (k H locs ls hP hS hl)
theorem j_strC (C : jj_C p R s m args c cells slots cc nL own Ts dC dI ad cA A) {index i : Nat} (hi : i < 4) (hw : Cond.fieldLink own index "java/lang/String" "coder" "B" ∈ Ts) (d : decode cc pc = .ok (.getfield index, 3)) (k : jj p l e R s m args below meth c cells slots Q nL dC dI ad cA A M (pc + 3) lv (.int (sI 0) :: st)) : jj p l e R s m args below meth c cells slots Q nL dC dI ad cA A M pc lv (.ref (dI 1000 i) :: st) :=
  fun H locs ls hP hS hl => vk_getf C.1.1 C.1.2.1 ((C.2.2.2.2.2.2.2.1 i hi).1.1 0 (by decide)).2.1 hS C.1.2.2.2.1 (C.1.2.2.2.2 _ hw) (fun _ q => q) d (k H locs ls hP hS hl)
theorem j_strL (C : jj_C p R s m args c cells slots cc nL own Ts dC dI ad cA A) {i : Nat} (n : Nat) (hi : i < 4) (hn : js_len i = n) (d : decode cc pc = .ok (.arraylength, 1)) (k : jj p l e R s m args below meth c cells slots Q nL dC dI ad cA A M (pc + 1) lv (.int (sI n) :: st)) : jj p l e R s m args below meth c cells slots Q nL dC dI ad cA A M pc lv (.ref (dI 1001 i) :: st) := by
  subst hn
  exact fun H locs ls hP hS hl => va_tlen C.1.1 C.1.2.1 ((C.2.2.2.2.2.2.2.1 i hi).1.1 0 (by decide)).2.2.2 hS rfl d (k H locs ls hP hS hl)
theorem j_strB (C : jj_C p R s m args c cells slots cc nL own Ts dC dI ad cA A) {i : Nat} {x : Int} (n : Nat) (hi : i < 4) (hn : js_len i = n) (d : decode cc pc = .ok (.baload, 1)) (hx : 0 ≤ x ∧ x < n) (k : jj p l e R s m args below meth c cells slots Q nL dC dI ad cA A M (pc + 1) lv (.int ((js_byt i).getD x.toNat 0) :: st)) : jj p l e R s m args below meth c cells slots Q nL dC dI ad cA A M pc lv (.int (sI x) :: .ref (dI 1001 i) :: st) := by
  have h := (js_all i hi).2.1
  subst hn
  have e := s_in (x := x) (n := js_len i) (Nat.ble_eq_true_of_le (by omega)) hx
  rw [e.1]
  exact fun H locs ls hP hS hl => va_tb C.1.1 C.1.2.1 ((C.2.2.2.2.2.2.2.1 i hi).1.1 0 (by decide)).2.2.2 hS (vp_in_nI e.2.1 e.2.2) (by rw [nI_clamp (by omega)]; rfl) d (k H locs ls hP hS hl)
theorem j_strR (C : jj_C p R s m args c cells slots cc nL own Ts dC dI ad cA A) {i : Nat} {x : Int} (n : Nat) (hi : i < 4) (hn : js_len i = n) (d : decode cc pc = .ok (.baload, 1)) (hx : 0 ≤ x ∧ x < n) (k : ∀ r : Int, 0 ≤ r → r ≤ 127 → jj p l e R s m args below meth c cells slots Q nL dC dI ad cA A M (pc + 1) lv (.int (sI r) :: st)) : jj p l e R s m args below meth c cells slots Q nL dC dI ad cA A M pc lv (.int (sI x) :: .ref (dI 1001 i) :: st) := by
  have h := (js_all i hi).2.2 _ (js_at (k := x.toNat) hi (by omega))
  refine j_strB C n hi hn d hx ?_
  rw [← sI_o ((js_byt i).getD x.toNat 0)]
  exact k _ h.2.1 h.2.2.1
theorem j_strE (C : jj_C p R s m args c cells slots cc nL own Ts dC dI ad cA A) {i : Nat} {x : Int} (n : Nat) (hi : i < 4) (hn : js_len i = n) (d : decode cc pc = .ok (.baload, 1)) (hx : 0 ≤ x ∧ x < n) (k : ∀ r : Int, r = ((js_byt i).getD x.toNat 0).toInt → 0 ≤ r → r ≤ 127 → jj p l e R s m args below meth c cells slots Q nL dC dI ad cA A M (pc + 1) lv (.int (sI r) :: st)) : jj p l e R s m args below meth c cells slots Q nL dC dI ad cA A M pc lv (.int (sI x) :: .ref (dI 1001 i) :: st) := by
  have h := (js_all i hi).2.2 _ (js_at (k := x.toNat) hi (by omega))
  refine j_strB C n hi hn d hx ?_
  rw [← sI_o ((js_byt i).getD x.toNat 0)]
  exact k _ rfl h.2.1 h.2.2.1
variable {d : Nat} {y : MethodName} {ws ws' : List Cond} {bytes : ByteArray} {maxL index : Nat} {ret : Option FieldType} {As : List Value}
theorem j_callSS (C : jj_C p R s m args c cells slots cc nL own Ts dC dI ad cA A) {post : Int32 → mm_M → Prop} (i : Nat) (hi : i < 4) (hM : Ci l d y ws dC dI ad cA (.ref (dI 1000 i) :: As) M post) (g : GoodIn Ts (wsV own index RJ0 y ws)) (hw : ws = Cond.code y bytes maxL ret :: ws') (hd : y.cls = RJ0 ∧ y.cls ≠ "java/lang/invoke/MethodHandle" ∧ y.cls ≠ "java/lang/invoke/VarHandle" ∧ (parseMethodDescriptor y.desc).map (fun d => d.parameters.length) = some As.length) (hR : d + 1 ≤ R.frames ∧ 8 + (maxL + 11) + 40 * d ≤ R.locals) (hr : (st.map fun v => v.category).sum ≤ 8) (hdg : decode cc pc = .ok (.invokevirtual index, 3)) {st0 : List Value} (hst : st0 = As.reverse ++ .ref (dI 1000 i) :: st) (kk : ∀ (r : Int32) (M' : mm_M), post r M' → jj p l e R s m args below meth c cells slots Q nL dC dI ad cA A M' (pc + 3) lv (.int r :: st)) : jj p l e R s m args below meth c cells slots Q nL dC dI ad cA A M pc lv st0 := by
  intro H locs ls hP hS hl
  subst hst
  have hrec := vk_recv (i := 0) (C.2.2.2.2.2.2.2.1 i hi).1 (by decide) hS
  exact va_calli (va_runV (As := As) (rest := st) C.1 (hM H.size) (cwV As.length C.1.2.2.2.2 g hw rfl rfl hd hR) ⟨cn_blind, hrec, fun U hU hW => ⟨rfl, j_pre C hP hS U hU hW⟩⟩ rfl rfl hl.1 rfl (lv_room hr) hdg ⟨C.2.2.2.2.2.1, C.2.2.2.2.2.2.1⟩) hS (fun q _ h => j_A C hS q h) (j_A C hS) (fun r u t H1 locs1 ht hvm hw1 hB hz1 hk1 hS1 => kk r u hw1 H1 locs1 ls (j_kP C ht hB) hS1 hl)
end YS
set_option maxHeartbeats 4000000 in
/-- StringLatin1.charAt at the bytes of a constant -/
theorem h_J1_charAt_0 {l : Launch} {dC : Nat → ClassId} {dI : Nat → Nat → Nat} {ad : Nat → Nat} {cA : Nat → ClassId} {M0 : mm_M} (hck : ∀ (a b : Int), 0 ≤ a ∧ a < b ∧ b ≤ 2147483647 → Cv l 1 yJ0_checkIndex_df160 wsJ0_checkIndex_df160 dC dI ad cA [.int (sI a), .int (sI b)] M0 (fun M' => M0 = M')) (x : Int) (hx : 0 ≤ x ∧ x < 12) : Ci l 2 yJ1_charAt_3b067 wsJ1_charAt_3b067 dC dI ad cA [.ref (dI 1001 0), .int (sI x)] M0 (fun r M' => ∃ a : Int, r = sI a ∧ M0 = M' ∧ 0 ≤ a ∧ a ≤ 127 ∧ a = ((js_byt 0).getD x.toNat 0).toInt) := by
  have hb := (js_all 0 (by decide)).2.2 _ (js_at (k := x.toNat) (by decide) (show x.toNat < 12 by omega))
  refine ci_of (cc := cJ1_charAt_3b067) (maxL := 2) (ty := .char) (lv := [(0, .ref (dI 1001 0)), (1, .int (sI x))]) (by decide) rfl (fun r M' hp => by obtain ⟨a, rfl, -, -, -, h⟩ := hp; rw [h, sI_o]; exact hb.2.2.2) (Nat.le_of_ble_eq_true rfl) rfl ?_
  intro p e s m args below meth c A Q C hret
  refine j_iload_n C 1 1 dJ1_charAt_3b067_0 rfl rfl ?_
  refine j_aload_n C 0 0 dJ1_charAt_3b067_1 rfl rfl ?_
  refine j_strL C 12 (by decide) rfl dJ1_charAt_3b067_2 ?_
  refine j_callSv C (d := 1) (As := [.int (sI x), .int (sI 12)]) (st := []) (hck x 12 (by omega)) gJ1_charAt_3b067_J0_checkIndex_df160 rfl h_ck2 (by decide) (Nat.le_of_ble_eq_true rfl) dJ1_charAt_3b067_3 rfl (fun M1 hp => ?_)
  obtain rfl := hp
  refine j_aload_n C 0 0 dJ1_charAt_3b067_6 rfl rfl ?_
  refine j_iload_n C 1 1 dJ1_charAt_3b067_7 rfl rfl ?_
  refine j_strB C 12 (by decide) rfl dJ1_charAt_3b067_8 hx ?_
  refine j_sipush C 255 dJ1_charAt_3b067_9 (by decide) ?_
  refine j_iand C dJ1_charAt_3b067_12 ?_
  refine z_i2c C _ hb.1 dJ1_charAt_3b067_13 ?_
  exact hret _ _ _ _ dJ1_charAt_3b067_14 ⟨_, (sI_o _).symm, rfl, hb.2.1, hb.2.2.1, rfl⟩

set_option maxHeartbeats 4000000 in
/-- StringLatin1.charAt at the bytes of a constant -/
theorem h_J1_charAt_1 {l : Launch} {dC : Nat → ClassId} {dI : Nat → Nat → Nat} {ad : Nat → Nat} {cA : Nat → ClassId} {M0 : mm_M} (hck : ∀ (a b : Int), 0 ≤ a ∧ a < b ∧ b ≤ 2147483647 → Cv l 1 yJ0_checkIndex_df160 wsJ0_checkIndex_df160 dC dI ad cA [.int (sI a), .int (sI b)] M0 (fun M' => M0 = M')) (x : Int) (hx : 0 ≤ x ∧ x < 119) : Ci l 2 yJ1_charAt_3b067 wsJ1_charAt_3b067 dC dI ad cA [.ref (dI 1001 1), .int (sI x)] M0 (fun r M' => ∃ a : Int, r = sI a ∧ M0 = M' ∧ 0 ≤ a ∧ a ≤ 127 ∧ a = ((js_byt 1).getD x.toNat 0).toInt ∧ (a = 32 ∨ x + 1 < 119)) := by
  have hb := (js_all 1 (by decide)).2.2 _ (js_at (k := x.toNat) (by decide) (show x.toNat < 119 by omega))
  refine ci_of (cc := cJ1_charAt_3b067) (maxL := 2) (ty := .char) (lv := [(0, .ref (dI 1001 1)), (1, .int (sI x))]) (by decide) rfl (fun r M' hp => by obtain ⟨a, rfl, -, -, -, h⟩ := hp; obtain ⟨h, -⟩ := h; rw [h, sI_o]; exact hb.2.2.2) (Nat.le_of_ble_eq_true rfl) rfl ?_
  intro p e s m args below meth c A Q C hret
  refine j_iload_n C 1 1 dJ1_charAt_3b067_0 rfl rfl ?_
  refine j_aload_n C 0 0 dJ1_charAt_3b067_1 rfl rfl ?_
  refine j_strL C 119 (by decide) rfl dJ1_charAt_3b067_2 ?_
  refine j_callSv C (d := 1) (As := [.int (sI x), .int (sI 119)]) (st := []) (hck x 119 (by omega)) gJ1_charAt_3b067_J0_checkIndex_df160 rfl h_ck2 (by decide) (Nat.le_of_ble_eq_true rfl) dJ1_charAt_3b067_3 rfl (fun M1 hp => ?_)
  obtain rfl := hp
  refine j_aload_n C 0 0 dJ1_charAt_3b067_6 rfl rfl ?_
  refine j_iload_n C 1 1 dJ1_charAt_3b067_7 rfl rfl ?_
  refine j_strB C 119 (by decide) rfl dJ1_charAt_3b067_8 hx ?_
  refine j_sipush C 255 dJ1_charAt_3b067_9 (by decide) ?_
  refine j_iand C dJ1_charAt_3b067_12 ?_
  refine z_i2c C _ hb.1 dJ1_charAt_3b067_13 ?_
  exact hret _ _ _ _ dJ1_charAt_3b067_14 ⟨_, (sI_o _).symm, rfl, hb.2.1, hb.2.2.1, rfl, (js_sp1 x.toNat (by omega)).elim (fun q => Or.inl (by rw [q]; rfl)) (fun q => Or.inr (by omega))⟩

set_option maxHeartbeats 4000000 in
/-- StringLatin1.charAt at the bytes of a constant -/
theorem h_J1_charAt_2 {l : Launch} {dC : Nat → ClassId} {dI : Nat → Nat → Nat} {ad : Nat → Nat} {cA : Nat → ClassId} {M0 : mm_M} (hck : ∀ (a b : Int), 0 ≤ a ∧ a < b ∧ b ≤ 2147483647 → Cv l 1 yJ0_checkIndex_df160 wsJ0_checkIndex_df160 dC dI ad cA [.int (sI a), .int (sI b)] M0 (fun M' => M0 = M')) (x : Int) (hx : 0 ≤ x ∧ x < 88) : Ci l 2 yJ1_charAt_3b067 wsJ1_charAt_3b067 dC dI ad cA [.ref (dI 1001 2), .int (sI x)] M0 (fun r M' => ∃ a : Int, r = sI a ∧ M0 = M' ∧ 0 ≤ a ∧ a ≤ 127 ∧ a = ((js_byt 2).getD x.toNat 0).toInt ∧ (a = 32 ∨ x + 1 < 88)) := by
  have hb := (js_all 2 (by decide)).2.2 _ (js_at (k := x.toNat) (by decide) (show x.toNat < 88 by omega))
  refine ci_of (cc := cJ1_charAt_3b067) (maxL := 2) (ty := .char) (lv := [(0, .ref (dI 1001 2)), (1, .int (sI x))]) (by decide) rfl (fun r M' hp => by obtain ⟨a, rfl, -, -, -, h⟩ := hp; obtain ⟨h, -⟩ := h; rw [h, sI_o]; exact hb.2.2.2) (Nat.le_of_ble_eq_true rfl) rfl ?_
  intro p e s m args below meth c A Q C hret
  refine j_iload_n C 1 1 dJ1_charAt_3b067_0 rfl rfl ?_
  refine j_aload_n C 0 0 dJ1_charAt_3b067_1 rfl rfl ?_
  refine j_strL C 88 (by decide) rfl dJ1_charAt_3b067_2 ?_
  refine j_callSv C (d := 1) (As := [.int (sI x), .int (sI 88)]) (st := []) (hck x 88 (by omega)) gJ1_charAt_3b067_J0_checkIndex_df160 rfl h_ck2 (by decide) (Nat.le_of_ble_eq_true rfl) dJ1_charAt_3b067_3 rfl (fun M1 hp => ?_)
  obtain rfl := hp
  refine j_aload_n C 0 0 dJ1_charAt_3b067_6 rfl rfl ?_
  refine j_iload_n C 1 1 dJ1_charAt_3b067_7 rfl rfl ?_
  refine j_strB C 88 (by decide) rfl dJ1_charAt_3b067_8 hx ?_
  refine j_sipush C 255 dJ1_charAt_3b067_9 (by decide) ?_
  refine j_iand C dJ1_charAt_3b067_12 ?_
  refine z_i2c C _ hb.1 dJ1_charAt_3b067_13 ?_
  exact hret _ _ _ _ dJ1_charAt_3b067_14 ⟨_, (sI_o _).symm, rfl, hb.2.1, hb.2.2.1, rfl, (js_sp2 x.toNat (by omega)).elim (fun q => Or.inl (by rw [q]; rfl)) (fun q => Or.inr (by omega))⟩

set_option maxHeartbeats 4000000 in
/-- StringLatin1.charAt at the bytes of a constant -/
theorem h_J1_charAt_3 {l : Launch} {dC : Nat → ClassId} {dI : Nat → Nat → Nat} {ad : Nat → Nat} {cA : Nat → ClassId} {M0 : mm_M} (hck : ∀ (a b : Int), 0 ≤ a ∧ a < b ∧ b ≤ 2147483647 → Cv l 1 yJ0_checkIndex_df160 wsJ0_checkIndex_df160 dC dI ad cA [.int (sI a), .int (sI b)] M0 (fun M' => M0 = M')) (x : Int) (hx : 0 ≤ x ∧ x < 12) : Ci l 2 yJ1_charAt_3b067 wsJ1_charAt_3b067 dC dI ad cA [.ref (dI 1001 3), .int (sI x)] M0 (fun r M' => ∃ a : Int, r = sI a ∧ M0 = M' ∧ 0 ≤ a ∧ a ≤ 127 ∧ a = ((js_byt 3).getD x.toNat 0).toInt) := by
  have hb := (js_all 3 (by decide)).2.2 _ (js_at (k := x.toNat) (by decide) (show x.toNat < 12 by omega))
  refine ci_of (cc := cJ1_charAt_3b067) (maxL := 2) (ty := .char) (lv := [(0, .ref (dI 1001 3)), (1, .int (sI x))]) (by decide) rfl (fun r M' hp => by obtain ⟨a, rfl, -, -, -, h⟩ := hp; rw [h, sI_o]; exact hb.2.2.2) (Nat.le_of_ble_eq_true rfl) rfl ?_
  intro p e s m args below meth c A Q C hret
  refine j_iload_n C 1 1 dJ1_charAt_3b067_0 rfl rfl ?_
  refine j_aload_n C 0 0 dJ1_charAt_3b067_1 rfl rfl ?_
  refine j_strL C 12 (by decide) rfl dJ1_charAt_3b067_2 ?_
  refine j_callSv C (d := 1) (As := [.int (sI x), .int (sI 12)]) (st := []) (hck x 12 (by omega)) gJ1_charAt_3b067_J0_checkIndex_df160 rfl h_ck2 (by decide) (Nat.le_of_ble_eq_true rfl) dJ1_charAt_3b067_3 rfl (fun M1 hp => ?_)
  obtain rfl := hp
  refine j_aload_n C 0 0 dJ1_charAt_3b067_6 rfl rfl ?_
  refine j_iload_n C 1 1 dJ1_charAt_3b067_7 rfl rfl ?_
  refine j_strB C 12 (by decide) rfl dJ1_charAt_3b067_8 hx ?_
  refine j_sipush C 255 dJ1_charAt_3b067_9 (by decide) ?_
  refine j_iand C dJ1_charAt_3b067_12 ?_
  refine z_i2c C _ hb.1 dJ1_charAt_3b067_13 ?_
  exact hret _ _ _ _ dJ1_charAt_3b067_14 ⟨_, (sI_o _).symm, rfl, hb.2.1, hb.2.2.1, rfl⟩

