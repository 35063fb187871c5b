theorem j_sld {p : Program} {l : Launch} {e : Env} {R : Room} {s : State} {m : MethodId} {args : Array Value} {below : List Frame} {meth : Method} {c : Code} {cells slots : Nat} {Q : State → Prop} {cc : ByteArray} {nL : Nat} {own : String} {Ts : List Cond} {dC : Nat → ClassId} {dI : Nat → Nat → Nat} {ad : Nat → Nat} {cA : Nat → ClassId} {A : Nat → Prop} {M : mm_M} {pc : Nat} {lv : List (Nat × Value)} {st : List Value} (C : jj_C p R s m args c cells slots cc nL own Ts dC dI ad cA A) {b L : Nat} {xs : Nat → Int32} (hX : va_X b L xs s s.heap) (hbl : b < s.heap.size) (hbA : ¬ A b) {x : Int32} (k : Nat) (hx : x = nI k) (hk : k < L) (hL : L < 2 ^ 31) (d : decode cc pc = .ok (.iaload, 1)) (kk : jj p l e R s m args below meth c cells slots Q nL dC dI ad cA A M (pc + 1) lv (.int (xs k) :: st)) : jj p l e R s m args below meth c cells slots Q nL dC dI ad cA A M pc lv (.int x :: .ref b :: st) := by
  intro H locs ls hP hS hl
  subst hx
  exact va_sld C.1.1 C.1.2.1 hX hbl hbA hS (vp_in_nI hk hL) d (by rw [nI_clamp (by omega)]; exact kk H locs ls hP hS hl)
theorem j_slen {p : Program} {l : Launch} {e : Env} {R : Room} {s : State} {m : MethodId} {args : Array Value} {below : List Frame} {meth : Method} {c : Code} {cells slots : Nat} {Q : State → Prop} {cc : ByteArray} {nL : Nat} {own : String} {Ts : List Cond} {dC : Nat → ClassId} {dI : Nat → Nat → Nat} {ad : Nat → Nat} {cA : Nat → ClassId} {A : Nat → Prop} {M : mm_M} {pc : Nat} {lv : List (Nat × Value)} {st : List Value} (C : jj_C p R s m args c cells slots cc nL own Ts dC dI ad cA A) {b L : Nat} {xs : Nat → Int32} (hX : va_X b L xs s s.heap) (hbl : b < s.heap.size) (hbA : ¬ A b) (d : decode cc pc = .ok (.arraylength, 1)) (kk : jj p l e R s m args below meth c cells slots Q nL dC dI ad cA A M (pc + 1) lv (.int (nI L) :: st)) : jj p l e R s m args below meth c cells slots Q nL dC dI ad cA A M pc lv (.ref b :: st) :=
  fun H locs ls hP hS hl => va_slen C.1.1 C.1.2.1 hX hbl hbA hS d (kk H locs ls hP hS hl)
set_option maxHeartbeats 2000000 in
set_option maxRecDepth 100000 in
theorem lw_op0 {p : Program} {l : Launch} {e : Env} {s : State} {m : MethodId} {below : List Frame} {meth : Method} {c : Code} {b : Nat} {xs : Nat → Int32} {Q : State → Prop} {dC : Nat → ClassId} {dI : Nat → Nat → Nat} {ad : Nat → Nat} {cA : Nat → ClassId} {A : Nat → Prop} (Cb : jj_C p room_1 s m #[Value.ref b] c 118 20643 code 4 RL [] dC dI ad cA A) (hts : ∀ w ∈ lw_tbl, w.before #[Value.ref b] s = true) (hX : va_X b 6 xs s s.heap) (hbl : b < s.heap.size) (hbA : ¬ A b) (hfin : ∀ M : mm_M, jj p l e room_1 s m #[Value.ref b] below meth c 118 20643 Q 4 dC dI ad cA A M 1473 [(3, .int 0), (2, .ref (ad 98)), (1, .ref (ad 0)), (0, .ref b)] []) : jj p l e room_1 s m #[Value.ref b] below meth c 118 20643 Q 4 dC dI ad cA A M0 224 [(3, .int 0), (2, .ref (ad 98)), (1, .ref (ad 0)), (0, .ref b)] [] := by
  have C : jj_C p room_1 s m #[Value.ref b] c 118 20643 code 4 RL tL_feed dC dI ad cA A := ⟨⟨Cb.1.1, Cb.1.2.1, Cb.1.2.2.1, Cb.1.2.2.2.1, fun w h => hts w (tL_feed_in w h)⟩, Cb.2⟩
  refine j_aload_n C 2 1 dL_law_224 rfl rfl ?_
  refine j_aload_n C 3 0 dL_law_225 rfl rfl ?_
  refine j_iload_n C 0 3 dL_law_226 rfl rfl ?_
  refine j_iconst C 1 dL_law_227 (by decide) ?_
  refine z_iadd C 1 (by decide) dL_law_228 ?_
  refine j_sld C hX hbl hbA 1 rfl (by decide) (by decide) dL_law_229 ?_
  refine j_aload_n C 3 0 dL_law_230 rfl rfl ?_
  refine j_iload_n C 0 3 dL_law_231 rfl rfl ?_
  refine j_iconst C 2 dL_law_232 (by decide) ?_
  refine z_iadd C 2 (by decide) dL_law_233 ?_
  refine j_sld C hX hbl hbA 2 rfl (by decide) (by decide) dL_law_234 ?_
  refine j_aload_n C 3 0 dL_law_235 rfl rfl ?_
  refine j_iload_n C 0 3 dL_law_236 rfl rfl ?_
  refine j_iconst C 3 dL_law_237 (by decide) ?_
  refine z_iadd C 3 (by decide) dL_law_238 ?_
  refine j_sld C hX hbl hbA 3 rfl (by decide) (by decide) dL_law_239 ?_
  refine j_aload_n C 3 0 dL_law_240 rfl rfl ?_
  refine j_iload_n C 0 3 dL_law_241 rfl rfl ?_
  refine j_iconst C 4 dL_law_242 (by decide) ?_
  refine z_iadd C 4 (by decide) dL_law_243 ?_
  refine j_sld C hX hbl hbA 4 rfl (by decide) (by decide) dL_law_244 ?_
  refine j_aload_n C 3 0 dL_law_245 rfl rfl ?_
  refine j_iload_n C 0 3 dL_law_246 rfl rfl ?_
  refine j_iconst C 5 dL_law_247 (by decide) ?_
  refine z_iadd C 5 (by decide) dL_law_248 ?_
  refine j_sld C hX hbl hbA 5 rfl (by decide) (by decide) dL_law_249 ?_
  refine j_callVi C (d := 1) (As := [.int (xs 1), .int (xs 2), .int (xs 3), .int (xs 4), .int (xs 5)]) (st := []) 0 (by decide) rfl (by decide) rfl (ox_feed (xs 1) (xs 2) (xs 3) (xs 4) (xs 5)) tL_feed_x rfl hdLX11_feed (by decide) (Nat.le_of_ble_eq_true rfl) dL_law_250 rfl (fun r1 M1 hp1 => ?_)
  refine j_aload_n C 1 2 dL_law_253 rfl rfl ?_
  refine j_aload_n C 3 0 dL_law_254 rfl rfl ?_
  refine j_iload_n C 0 3 dL_law_255 rfl rfl ?_
  refine j_iconst C 1 dL_law_256 (by decide) ?_
  refine z_iadd C 1 (by decide) dL_law_257 ?_
  refine j_sld C hX hbl hbA 1 rfl (by decide) (by decide) dL_law_258 ?_
  refine j_aload_n C 3 0 dL_law_259 rfl rfl ?_
  refine j_iload_n C 0 3 dL_law_260 rfl rfl ?_
  refine j_iconst C 2 dL_law_261 (by decide) ?_
  refine z_iadd C 2 (by decide) dL_law_262 ?_
  refine j_sld C hX hbl hbA 2 rfl (by decide) (by decide) dL_law_263 ?_
  refine j_aload_n C 3 0 dL_law_264 rfl rfl ?_
  refine j_iload_n C 0 3 dL_law_265 rfl rfl ?_
  refine j_iconst C 3 dL_law_266 (by decide) ?_
  refine z_iadd C 3 (by decide) dL_law_267 ?_
  refine j_sld C hX hbl hbA 3 rfl (by decide) (by decide) dL_law_268 ?_
  refine j_aload_n C 3 0 dL_law_269 rfl rfl ?_
  refine j_iload_n C 0 3 dL_law_270 rfl rfl ?_
  refine j_iconst C 4 dL_law_271 (by decide) ?_
  refine z_iadd C 4 (by decide) dL_law_272 ?_
  refine j_sld C hX hbl hbA 4 rfl (by decide) (by decide) dL_law_273 ?_
  refine j_aload_n C 3 0 dL_law_274 rfl rfl ?_
  refine j_iload_n C 0 3 dL_law_275 rfl rfl ?_
  refine j_iconst C 5 dL_law_276 (by decide) ?_
  refine z_iadd C 5 (by decide) dL_law_277 ?_
  refine j_sld C hX hbl hbA 5 rfl (by decide) (by decide) dL_law_278 ?_
  refine j_callVi C (d := 0) (As := [.int (xs 1), .int (xs 2), .int (xs 3), .int (xs 4), .int (xs 5)]) (st := [.int r1]) 98 (by decide) rfl (by decide) rfl (om_feed hp1.2 (xs 1) (xs 2) (xs 3) (xs 4) (xs 5)) tL_feed_m rfl hdLX12_feed (by decide) (Nat.le_of_ble_eq_true rfl) dL_law_279 rfl (fun r2 M2 hp2 => ?_)
  refine j_icmp_eq_t C 1473 dL_law_282 (by decide) (hp1.1.trans hp2.symm) ?_
  exact hfin M2
set_option maxHeartbeats 2000000 in
set_option maxRecDepth 100000 in
theorem lw_op1 {p : Program} {l : Launch} {e : Env} {s : State} {m : MethodId} {below : List Frame} {meth : Method} {c : Code} {b : Nat} {xs : Nat → Int32} {Q : State → Prop} {dC : Nat → ClassId} {dI : Nat → Nat → Nat} {ad : Nat → Nat} {cA : Nat → ClassId} {A : Nat → Prop} (Cb : jj_C p room_1 s m #[Value.ref b] c 118 20643 code 4 RL [] dC dI ad cA A) (hts : ∀ w ∈ lw_tbl, w.before #[Value.ref b] s = true) (hX : va_X b 6 xs s s.heap) (hbl : b < s.heap.size) (hbA : ¬ A b) (hfin : ∀ M : mm_M, jj p l e room_1 s m #[Value.ref b] below meth c 118 20643 Q 4 dC dI ad cA A M 1473 [(3, .int 0), (2, .ref (ad 98)), (1, .ref (ad 0)), (0, .ref b)] []) : jj p l e room_1 s m #[Value.ref b] below meth c 118 20643 Q 4 dC dI ad cA A M0 287 [(3, .int 0), (2, .ref (ad 98)), (1, .ref (ad 0)), (0, .ref b)] [] := by
  have C : jj_C p room_1 s m #[Value.ref b] c 118 20643 code 4 RL tL_shop dC dI ad cA A := ⟨⟨Cb.1.1, Cb.1.2.1, Cb.1.2.2.1, Cb.1.2.2.2.1, fun w h => hts w (tL_shop_in w h)⟩, Cb.2⟩
  refine j_aload_n C 2 1 dL_law_287 rfl rfl ?_
  refine j_aload_n C 3 0 dL_law_288 rfl rfl ?_
  refine j_iload_n C 0 3 dL_law_289 rfl rfl ?_
  refine j_iconst C 1 dL_law_290 (by decide) ?_
  refine z_iadd C 1 (by decide) dL_law_291 ?_
  refine j_sld C hX hbl hbA 1 rfl (by decide) (by decide) dL_law_292 ?_
  refine j_callVi C (d := 3) (As := [.int (xs 1)]) (st := []) 0 (by decide) rfl (by decide) rfl (ox_shop (xs 1)) tL_shop_x rfl hdLX11_shop (by decide) (Nat.le_of_ble_eq_true rfl) dL_law_293 rfl (fun r1 M1 hp1 => ?_)
  refine j_aload_n C 1 2 dL_law_296 rfl rfl ?_
  refine j_aload_n C 3 0 dL_law_297 rfl rfl ?_
  refine j_iload_n C 0 3 dL_law_298 rfl rfl ?_
  refine j_iconst C 1 dL_law_299 (by decide) ?_
  refine z_iadd C 1 (by decide) dL_law_300 ?_
  refine j_sld C hX hbl hbA 1 rfl (by decide) (by decide) dL_law_301 ?_
  refine j_callVi C (d := 3) (As := [.int (xs 1)]) (st := [.int r1]) 98 (by decide) rfl (by decide) rfl (om_shop hp1.2 (xs 1)) tL_shop_m rfl hdLX12_shop (by decide) (Nat.le_of_ble_eq_true rfl) dL_law_302 rfl (fun r2 M2 hp2 => ?_)
  refine j_icmp_eq_t C 1473 dL_law_305 (by decide) (hp1.1.trans hp2.symm) ?_
  exact hfin M2
set_option maxHeartbeats 2000000 in
set_option maxRecDepth 100000 in
theorem lw_op2 {p : Program} {l : Launch} {e : Env} {s : State} {m : MethodId} {below : List Frame} {meth : Method} {c : Code} {b : Nat} {xs : Nat → Int32} {Q : State → Prop} {dC : Nat → ClassId} {dI : Nat → Nat → Nat} {ad : Nat → Nat} {cA : Nat → ClassId} {A : Nat → Prop} (Cb : jj_C p room_1 s m #[Value.ref b] c 118 20643 code 4 RL [] dC dI ad cA A) (hts : ∀ w ∈ lw_tbl, w.before #[Value.ref b] s = true) (hX : va_X b 6 xs s s.heap) (hbl : b < s.heap.size) (hbA : ¬ A b) (hfin : ∀ M : mm_M, jj p l e room_1 s m #[Value.ref b] below meth c 118 20643 Q 4 dC dI ad cA A M 1473 [(3, .int 0), (2, .ref (ad 98)), (1, .ref (ad 0)), (0, .ref b)] []) : jj p l e room_1 s m #[Value.ref b] below meth c 118 20643 Q 4 dC dI ad cA A M0 310 [(3, .int 0), (2, .ref (ad 98)), (1, .ref (ad 0)), (0, .ref b)] [] := by
  have C : jj_C p room_1 s m #[Value.ref b] c 118 20643 code 4 RL tL_fault dC dI ad cA A := ⟨⟨Cb.1.1, Cb.1.2.1, Cb.1.2.2.1, Cb.1.2.2.2.1, fun w h => hts w (tL_fault_in w h)⟩, Cb.2⟩
  refine j_aload_n C 2 1 dL_law_310 rfl rfl ?_
  refine j_aload_n C 3 0 dL_law_311 rfl rfl ?_
  refine j_iload_n C 0 3 dL_law_312 rfl rfl ?_
  refine j_iconst C 1 dL_law_313 (by decide) ?_
  refine z_iadd C 1 (by decide) dL_law_314 ?_
  refine j_sld C hX hbl hbA 1 rfl (by decide) (by decide) dL_law_315 ?_
  refine j_callVi C (d := 0) (As := [.int (xs 1)]) (st := []) 0 (by decide) rfl (by decide) rfl (ox_fault (xs 1)) tL_fault_x rfl hdLX11_fault (by decide) (Nat.le_of_ble_eq_true rfl) dL_law_316 rfl (fun r1 M1 hp1 => ?_)
  refine j_aload_n C 1 2 dL_law_319 rfl rfl ?_
  refine j_aload_n C 3 0 dL_law_320 rfl rfl ?_
  refine j_iload_n C 0 3 dL_law_321 rfl rfl ?_
  refine j_iconst C 1 dL_law_322 (by decide) ?_
  refine z_iadd C 1 (by decide) dL_law_323 ?_
  refine j_sld C hX hbl hbA 1 rfl (by decide) (by decide) dL_law_324 ?_
  refine j_callVi C (d := 0) (As := [.int (xs 1)]) (st := [.int r1]) 98 (by decide) rfl (by decide) rfl (om_fault hp1.2 (xs 1)) tL_fault_m rfl hdLX12_fault (by decide) (Nat.le_of_ble_eq_true rfl) dL_law_325 rfl (fun r2 M2 hp2 => ?_)
  refine j_icmp_eq_t C 1473 dL_law_328 (by decide) (hp1.1.trans hp2.symm) ?_
  exact hfin M2
set_option maxHeartbeats 2000000 in
set_option maxRecDepth 100000 in
theorem lw_op3 {p : Program} {l : Launch} {e : Env} {s : State} {m : MethodId} {below : List Frame} {meth : Method} {c : Code} {b : Nat} {xs : Nat → Int32} {Q : State → Prop} {dC : Nat → ClassId} {dI : Nat → Nat → Nat} {ad : Nat → Nat} {cA : Nat → ClassId} {A : Nat → Prop} (Cb : jj_C p room_1 s m #[Value.ref b] c 118 20643 code 4 RL [] dC dI ad cA A) (hts : ∀ w ∈ lw_tbl, w.before #[Value.ref b] s = true) (hX : va_X b 6 xs s s.heap) (hbl : b < s.heap.size) (hbA : ¬ A b) (hfin : ∀ M : mm_M, jj p l e room_1 s m #[Value.ref b] below meth c 118 20643 Q 4 dC dI ad cA A M 1473 [(3, .int 0), (2, .ref (ad 98)), (1, .ref (ad 0)), (0, .ref b)] []) : jj p l e room_1 s m #[Value.ref b] below meth c 118 20643 Q 4 dC dI ad cA A M0 333 [(3, .int 0), (2, .ref (ad 98)), (1, .ref (ad 0)), (0, .ref b)] [] := by
  have C : jj_C p room_1 s m #[Value.ref b] c 118 20643 code 4 RL tL_kind dC dI ad cA A := ⟨⟨Cb.1.1, Cb.1.2.1, Cb.1.2.2.1, Cb.1.2.2.2.1, fun w h => hts w (tL_kind_in w h)⟩, Cb.2⟩
  refine j_aload_n C 2 1 dL_law_333 rfl rfl ?_
  refine j_aload_n C 3 0 dL_law_334 rfl rfl ?_
  refine j_iload_n C 0 3 dL_law_335 rfl rfl ?_
  refine j_iconst C 1 dL_law_336 (by decide) ?_
  refine z_iadd C 1 (by decide) dL_law_337 ?_
  refine j_sld C hX hbl hbA 1 rfl (by decide) (by decide) dL_law_338 ?_
  refine j_aload_n C 3 0 dL_law_339 rfl rfl ?_
  refine j_iload_n C 0 3 dL_law_340 rfl rfl ?_
  refine j_iconst C 2 dL_law_341 (by decide) ?_
  refine z_iadd C 2 (by decide) dL_law_342 ?_
  refine j_sld C hX hbl hbA 2 rfl (by decide) (by decide) dL_law_343 ?_
  refine j_callVi C (d := 1) (As := [.int (xs 1), .int (xs 2)]) (st := []) 0 (by decide) rfl (by decide) rfl (ox_kind (xs 1) (xs 2)) tL_kind_x rfl hdLX11_kind (by decide) (Nat.le_of_ble_eq_true rfl) dL_law_344 rfl (fun r1 M1 hp1 => ?_)
  refine j_aload_n C 1 2 dL_law_347 rfl rfl ?_
  refine j_aload_n C 3 0 dL_law_348 rfl rfl ?_
  refine j_iload_n C 0 3 dL_law_349 rfl rfl ?_
  refine j_iconst C 1 dL_law_350 (by decide) ?_
  refine z_iadd C 1 (by decide) dL_law_351 ?_
  refine j_sld C hX hbl hbA 1 rfl (by decide) (by decide) dL_law_352 ?_
  refine j_aload_n C 3 0 dL_law_353 rfl rfl ?_
  refine j_iload_n C 0 3 dL_law_354 rfl rfl ?_
  refine j_iconst C 2 dL_law_355 (by decide) ?_
  refine z_iadd C 2 (by decide) dL_law_356 ?_
  refine j_sld C hX hbl hbA 2 rfl (by decide) (by decide) dL_law_357 ?_
  refine j_callVi C (d := 2) (As := [.int (xs 1), .int (xs 2)]) (st := [.int r1]) 98 (by decide) rfl (by decide) rfl (om_kind hp1.2 (xs 1) (xs 2)) tL_kind_m rfl hdLX12_kind (by decide) (Nat.le_of_ble_eq_true rfl) dL_law_358 rfl (fun r2 M2 hp2 => ?_)
  refine j_icmp_eq_t C 1473 dL_law_361 (by decide) (hp1.1.trans hp2.symm) ?_
  exact hfin M2
set_option maxHeartbeats 2000000 in
set_option maxRecDepth 100000 in
theorem lw_op4 {p : Program} {l : Launch} {e : Env} {s : State} {m : MethodId} {below : List Frame} {meth : Method} {c : Code} {b : Nat} {xs : Nat → Int32} {Q : State → Prop} {dC : Nat → ClassId} {dI : Nat → Nat → Nat} {ad : Nat → Nat} {cA : Nat → ClassId} {A : Nat → Prop} (Cb : jj_C p room_1 s m #[Value.ref b] c 118 20643 code 4 RL [] dC dI ad cA A) (hts : ∀ w ∈ lw_tbl, w.before #[Value.ref b] s = true) (hX : va_X b 6 xs s s.heap) (hbl : b < s.heap.size) (hbA : ¬ A b) (hfin : ∀ M : mm_M, jj p l e room_1 s m #[Value.ref b] below meth c 118 20643 Q 4 dC dI ad cA A M 1473 [(3, .int 0), (2, .ref (ad 98)), (1, .ref (ad 0)), (0, .ref b)] []) : jj p l e room_1 s m #[Value.ref b] below meth c 118 20643 Q 4 dC dI ad cA A M0 366 [(3, .int 0), (2, .ref (ad 98)), (1, .ref (ad 0)), (0, .ref b)] [] := by
  have C : jj_C p room_1 s m #[Value.ref b] c 118 20643 code 4 RL tL_buyer dC dI ad cA A := ⟨⟨Cb.1.1, Cb.1.2.1, Cb.1.2.2.1, Cb.1.2.2.2.1, fun w h => hts w (tL_buyer_in w h)⟩, Cb.2⟩
  refine j_aload_n C 2 1 dL_law_366 rfl rfl ?_
  refine j_aload_n C 3 0 dL_law_367 rfl rfl ?_
  refine j_iload_n C 0 3 dL_law_368 rfl rfl ?_
  refine j_iconst C 1 dL_law_369 (by decide) ?_
  refine z_iadd C 1 (by decide) dL_law_370 ?_
  refine j_sld C hX hbl hbA 1 rfl (by decide) (by decide) dL_law_371 ?_
  refine j_aload_n C 3 0 dL_law_372 rfl rfl ?_
  refine j_iload_n C 0 3 dL_law_373 rfl rfl ?_
  refine j_iconst C 2 dL_law_374 (by decide) ?_
  refine z_iadd C 2 (by decide) dL_law_375 ?_
  refine j_sld C hX hbl hbA 2 rfl (by decide) (by decide) dL_law_376 ?_
  refine j_callVi C (d := 1) (As := [.int (xs 1), .int (xs 2)]) (st := []) 0 (by decide) rfl (by decide) rfl (ox_buyer (xs 1) (xs 2)) tL_buyer_x rfl hdLX11_buyer (by decide) (Nat.le_of_ble_eq_true rfl) dL_law_377 rfl (fun r1 M1 hp1 => ?_)
  refine j_aload_n C 1 2 dL_law_380 rfl rfl ?_
  refine j_aload_n C 3 0 dL_law_381 rfl rfl ?_
  refine j_iload_n C 0 3 dL_law_382 rfl rfl ?_
  refine j_iconst C 1 dL_law_383 (by decide) ?_
  refine z_iadd C 1 (by decide) dL_law_384 ?_
  refine j_sld C hX hbl hbA 1 rfl (by decide) (by decide) dL_law_385 ?_
  refine j_aload_n C 3 0 dL_law_386 rfl rfl ?_
  refine j_iload_n C 0 3 dL_law_387 rfl rfl ?_
  refine j_iconst C 2 dL_law_388 (by decide) ?_
  refine z_iadd C 2 (by decide) dL_law_389 ?_
  refine j_sld C hX hbl hbA 2 rfl (by decide) (by decide) dL_law_390 ?_
  refine j_callVi C (d := 2) (As := [.int (xs 1), .int (xs 2)]) (st := [.int r1]) 98 (by decide) rfl (by decide) rfl (om_buyer hp1.2 (xs 1) (xs 2)) tL_buyer_m rfl hdLX12_buyer (by decide) (Nat.le_of_ble_eq_true rfl) dL_law_391 rfl (fun r2 M2 hp2 => ?_)
  refine j_icmp_eq_t C 1473 dL_law_394 (by decide) (hp1.1.trans hp2.symm) ?_
  exact hfin M2
set_option maxHeartbeats 2000000 in
set_option maxRecDepth 100000 in
theorem lw_op5 {p : Program} {l : Launch} {e : Env} {s : State} {m : MethodId} {below : List Frame} {meth : Method} {c : Code} {b : Nat} {xs : Nat → Int32} {Q : State → Prop} {dC : Nat → ClassId} {dI : Nat → Nat → Nat} {ad : Nat → Nat} {cA : Nat → ClassId} {A : Nat → Prop} (Cb : jj_C p room_1 s m #[Value.ref b] c 118 20643 code 4 RL [] dC dI ad cA A) (hts : ∀ w ∈ lw_tbl, w.before #[Value.ref b] s = true) (hX : va_X b 6 xs s s.heap) (hbl : b < s.heap.size) (hbA : ¬ A b) (hfin : ∀ M : mm_M, jj p l e room_1 s m #[Value.ref b] below meth c 118 20643 Q 4 dC dI ad cA A M 1473 [(3, .int 0), (2, .ref (ad 98)), (1, .ref (ad 0)), (0, .ref b)] []) : jj p l e room_1 s m #[Value.ref b] below meth c 118 20643 Q 4 dC dI ad cA A M0 399 [(3, .int 0), (2, .ref (ad 98)), (1, .ref (ad 0)), (0, .ref b)] [] := by
  have C : jj_C p room_1 s m #[Value.ref b] c 118 20643 code 4 RL tL_wants dC dI ad cA A := ⟨⟨Cb.1.1, Cb.1.2.1, Cb.1.2.2.1, Cb.1.2.2.2.1, fun w h => hts w (tL_wants_in w h)⟩, Cb.2⟩
  refine j_aload_n C 2 1 dL_law_399 rfl rfl ?_
  refine j_aload_n C 3 0 dL_law_400 rfl rfl ?_
  refine j_iload_n C 0 3 dL_law_401 rfl rfl ?_
  refine j_iconst C 1 dL_law_402 (by decide) ?_
  refine z_iadd C 1 (by decide) dL_law_403 ?_
  refine j_sld C hX hbl hbA 1 rfl (by decide) (by decide) dL_law_404 ?_
  refine j_aload_n C 3 0 dL_law_405 rfl rfl ?_
  refine j_iload_n C 0 3 dL_law_406 rfl rfl ?_
  refine j_iconst C 2 dL_law_407 (by decide) ?_
  refine z_iadd C 2 (by decide) dL_law_408 ?_
  refine j_sld C hX hbl hbA 2 rfl (by decide) (by decide) dL_law_409 ?_
  refine j_callVi C (d := 1) (As := [.int (xs 1), .int (xs 2)]) (st := []) 0 (by decide) rfl (by decide) rfl (ox_wants (xs 1) (xs 2)) tL_wants_x rfl hdLX11_wants (by decide) (Nat.le_of_ble_eq_true rfl) dL_law_410 rfl (fun r1 M1 hp1 => ?_)
  refine j_aload_n C 1 2 dL_law_413 rfl rfl ?_
  refine j_aload_n C 3 0 dL_law_414 rfl rfl ?_
  refine j_iload_n C 0 3 dL_law_415 rfl rfl ?_
  refine j_iconst C 1 dL_law_416 (by decide) ?_
  refine z_iadd C 1 (by decide) dL_law_417 ?_
  refine j_sld C hX hbl hbA 1 rfl (by decide) (by decide) dL_law_418 ?_
  refine j_aload_n C 3 0 dL_law_419 rfl rfl ?_
  refine j_iload_n C 0 3 dL_law_420 rfl rfl ?_
  refine j_iconst C 2 dL_law_421 (by decide) ?_
  refine z_iadd C 2 (by decide) dL_law_422 ?_
  refine j_sld C hX hbl hbA 2 rfl (by decide) (by decide) dL_law_423 ?_
  refine j_callVi C (d := 2) (As := [.int (xs 1), .int (xs 2)]) (st := [.int r1]) 98 (by decide) rfl (by decide) rfl (om_wants hp1.2 (xs 1) (xs 2)) tL_wants_m rfl hdLX12_wants (by decide) (Nat.le_of_ble_eq_true rfl) dL_law_424 rfl (fun r2 M2 hp2 => ?_)
  refine j_icmp_eq_t C 1473 dL_law_427 (by decide) (hp1.1.trans hp2.symm) ?_
  exact hfin M2
set_option maxHeartbeats 2000000 in
set_option maxRecDepth 100000 in
theorem lw_op6 {p : Program} {l : Launch} {e : Env} {s : State} {m : MethodId} {below : List Frame} {meth : Method} {c : Code} {b : Nat} {xs : Nat → Int32} {Q : State → Prop} {dC : Nat → ClassId} {dI : Nat → Nat → Nat} {ad : Nat → Nat} {cA : Nat → ClassId} {A : Nat → Prop} (Cb : jj_C p room_1 s m #[Value.ref b] c 118 20643 code 4 RL [] dC dI ad cA A) (hts : ∀ w ∈ lw_tbl, w.before #[Value.ref b] s = true) (hX : va_X b 6 xs s s.heap) (hbl : b < s.heap.size) (hbA : ¬ A b) (hfin : ∀ M : mm_M, jj p l e room_1 s m #[Value.ref b] below meth c 118 20643 Q 4 dC dI ad cA A M 1473 [(3, .int 0), (2, .ref (ad 98)), (1, .ref (ad 0)), (0, .ref b)] []) : jj p l e room_1 s m #[Value.ref b] below meth c 118 20643 Q 4 dC dI ad cA A M0 432 [(3, .int 0), (2, .ref (ad 98)), (1, .ref (ad 0)), (0, .ref b)] [] := by
  have C : jj_C p room_1 s m #[Value.ref b] c 118 20643 code 4 RL tL_seed dC dI ad cA A := ⟨⟨Cb.1.1, Cb.1.2.1, Cb.1.2.2.1, Cb.1.2.2.2.1, fun w h => hts w (tL_seed_in w h)⟩, Cb.2⟩
  refine j_aload_n C 2 1 dL_law_432 rfl rfl ?_
  refine j_aload_n C 3 0 dL_law_433 rfl rfl ?_
  refine j_iload_n C 0 3 dL_law_434 rfl rfl ?_
  refine j_iconst C 1 dL_law_435 (by decide) ?_
  refine z_iadd C 1 (by decide) dL_law_436 ?_
  refine j_sld C hX hbl hbA 1 rfl (by decide) (by decide) dL_law_437 ?_
  refine j_callVi C (d := 2) (As := [.int (xs 1)]) (st := []) 0 (by decide) rfl (by decide) rfl (ox_seed (xs 1)) tL_seed_x rfl hdLX11_seed (by decide) (Nat.le_of_ble_eq_true rfl) dL_law_438 rfl (fun r1 M1 hp1 => ?_)
  refine j_aload_n C 1 2 dL_law_441 rfl rfl ?_
  refine j_aload_n C 3 0 dL_law_442 rfl rfl ?_
  refine j_iload_n C 0 3 dL_law_443 rfl rfl ?_
  refine j_iconst C 1 dL_law_444 (by decide) ?_
  refine z_iadd C 1 (by decide) dL_law_445 ?_
  refine j_sld C hX hbl hbA 1 rfl (by decide) (by decide) dL_law_446 ?_
  refine j_callVi C (d := 1) (As := [.int (xs 1)]) (st := [.int r1]) 98 (by decide) rfl (by decide) rfl (om_seed hp1.2 (xs 1)) tL_seed_m rfl hdLX12_seed (by decide) (Nat.le_of_ble_eq_true rfl) dL_law_447 rfl (fun r2 M2 hp2 => ?_)
  refine j_icmp_eq_t C 1473 dL_law_450 (by decide) (hp1.1.trans hp2.symm) ?_
  exact hfin M2
set_option maxHeartbeats 2000000 in
set_option maxRecDepth 100000 in
theorem lw_op7 {p : Program} {l : Launch} {e : Env} {s : State} {m : MethodId} {below : List Frame} {meth : Method} {c : Code} {b : Nat} {xs : Nat → Int32} {Q : State → Prop} {dC : Nat → ClassId} {dI : Nat → Nat → Nat} {ad : Nat → Nat} {cA : Nat → ClassId} {A : Nat → Prop} (Cb : jj_C p room_1 s m #[Value.ref b] c 118 20643 code 4 RL [] dC dI ad cA A) (hts : ∀ w ∈ lw_tbl, w.before #[Value.ref b] s = true) (hX : va_X b 6 xs s s.heap) (hbl : b < s.heap.size) (hbA : ¬ A b) (hfin : ∀ M : mm_M, jj p l e room_1 s m #[Value.ref b] below meth c 118 20643 Q 4 dC dI ad cA A M 1473 [(3, .int 0), (2, .ref (ad 98)), (1, .ref (ad 0)), (0, .ref b)] []) : jj p l e room_1 s m #[Value.ref b] below meth c 118 20643 Q 4 dC dI ad cA A M0 455 [(3, .int 0), (2, .ref (ad 98)), (1, .ref (ad 0)), (0, .ref b)] [] := by
  have C : jj_C p room_1 s m #[Value.ref b] c 118 20643 code 4 RL tL_visit dC dI ad cA A := ⟨⟨Cb.1.1, Cb.1.2.1, Cb.1.2.2.1, Cb.1.2.2.2.1, fun w h => hts w (tL_visit_in w h)⟩, Cb.2⟩
  refine j_aload_n C 2 1 dL_law_455 rfl rfl ?_
  refine j_aload_n C 3 0 dL_law_456 rfl rfl ?_
  refine j_iload_n C 0 3 dL_law_457 rfl rfl ?_
  refine j_iconst C 1 dL_law_458 (by decide) ?_
  refine z_iadd C 1 (by decide) dL_law_459 ?_
  refine j_sld C hX hbl hbA 1 rfl (by decide) (by decide) dL_law_460 ?_
  refine j_callVi C (d := 1) (As := [.int (xs 1)]) (st := []) 0 (by decide) rfl (by decide) rfl (ox_visit (xs 1)) tL_visit_x rfl hdLX11_visit (by decide) (Nat.le_of_ble_eq_true rfl) dL_law_461 rfl (fun r1 M1 hp1 => ?_)
  refine j_aload_n C 1 2 dL_law_464 rfl rfl ?_
  refine j_aload_n C 3 0 dL_law_465 rfl rfl ?_
  refine j_iload_n C 0 3 dL_law_466 rfl rfl ?_
  refine j_iconst C 1 dL_law_467 (by decide) ?_
  refine z_iadd C 1 (by decide) dL_law_468 ?_
  refine j_sld C hX hbl hbA 1 rfl (by decide) (by decide) dL_law_469 ?_
  refine j_callVi C (d := 3) (As := [.int (xs 1)]) (st := [.int r1]) 98 (by decide) rfl (by decide) rfl (om_visit hp1.2 (xs 1)) tL_visit_m rfl hdLX12_visit (by decide) (Nat.le_of_ble_eq_true rfl) dL_law_470 rfl (fun r2 M2 hp2 => ?_)
  refine j_icmp_eq_t C 1473 dL_law_473 (by decide) (hp1.1.trans hp2.symm) ?_
  exact hfin M2
set_option maxHeartbeats 2000000 in
set_option maxRecDepth 100000 in
theorem lw_op8 {p : Program} {l : Launch} {e : Env} {s : State} {m : MethodId} {below : List Frame} {meth : Method} {c : Code} {b : Nat} {xs : Nat → Int32} {Q : State → Prop} {dC : Nat → ClassId} {dI : Nat → Nat → Nat} {ad : Nat → Nat} {cA : Nat → ClassId} {A : Nat → Prop} (Cb : jj_C p room_1 s m #[Value.ref b] c 118 20643 code 4 RL [] dC dI ad cA A) (hts : ∀ w ∈ lw_tbl, w.before #[Value.ref b] s = true) (hX : va_X b 6 xs s s.heap) (hbl : b < s.heap.size) (hbA : ¬ A b) (hfin : ∀ M : mm_M, jj p l e room_1 s m #[Value.ref b] below meth c 118 20643 Q 4 dC dI ad cA A M 1473 [(3, .int 0), (2, .ref (ad 98)), (1, .ref (ad 0)), (0, .ref b)] []) : jj p l e room_1 s m #[Value.ref b] below meth c 118 20643 Q 4 dC dI ad cA A M0 478 [(3, .int 0), (2, .ref (ad 98)), (1, .ref (ad 0)), (0, .ref b)] [] := by
  have C : jj_C p room_1 s m #[Value.ref b] c 118 20643 code 4 RL tL_gift dC dI ad cA A := ⟨⟨Cb.1.1, Cb.1.2.1, Cb.1.2.2.1, Cb.1.2.2.2.1, fun w h => hts w (tL_gift_in w h)⟩, Cb.2⟩
  refine j_aload_n C 2 1 dL_law_478 rfl rfl ?_
  refine j_aload_n C 3 0 dL_law_479 rfl rfl ?_
  refine j_iload_n C 0 3 dL_law_480 rfl rfl ?_
  refine j_iconst C 1 dL_law_481 (by decide) ?_
  refine z_iadd C 1 (by decide) dL_law_482 ?_
  refine j_sld C hX hbl hbA 1 rfl (by decide) (by decide) dL_law_483 ?_
  refine j_callVi C (d := 2) (As := [.int (xs 1)]) (st := []) 0 (by decide) rfl (by decide) rfl (ox_gift (xs 1)) tL_gift_x rfl hdLX11_gift (by decide) (Nat.le_of_ble_eq_true rfl) dL_law_484 rfl (fun r1 M1 hp1 => ?_)
  refine j_aload_n C 1 2 dL_law_487 rfl rfl ?_
  refine j_aload_n C 3 0 dL_law_488 rfl rfl ?_
  refine j_iload_n C 0 3 dL_law_489 rfl rfl ?_
  refine j_iconst C 1 dL_law_490 (by decide) ?_
  refine z_iadd C 1 (by decide) dL_law_491 ?_
  refine j_sld C hX hbl hbA 1 rfl (by decide) (by decide) dL_law_492 ?_
  refine j_callVi C (d := 3) (As := [.int (xs 1)]) (st := [.int r1]) 98 (by decide) rfl (by decide) rfl (om_gift hp1.2 (xs 1)) tL_gift_m rfl hdLX12_gift (by decide) (Nat.le_of_ble_eq_true rfl) dL_law_493 rfl (fun r2 M2 hp2 => ?_)
  refine j_icmp_eq_t C 1473 dL_law_496 (by decide) (hp1.1.trans hp2.symm) ?_
  exact hfin M2
set_option maxHeartbeats 2000000 in
set_option maxRecDepth 100000 in
theorem lw_op9 {p : Program} {l : Launch} {e : Env} {s : State} {m : MethodId} {below : List Frame} {meth : Method} {c : Code} {b : Nat} {xs : Nat → Int32} {Q : State → Prop} {dC : Nat → ClassId} {dI : Nat → Nat → Nat} {ad : Nat → Nat} {cA : Nat → ClassId} {A : Nat → Prop} (Cb : jj_C p room_1 s m #[Value.ref b] c 118 20643 code 4 RL [] dC dI ad cA A) (hts : ∀ w ∈ lw_tbl, w.before #[Value.ref b] s = true) (hX : va_X b 6 xs s s.heap) (hbl : b < s.heap.size) (hbA : ¬ A b) (hfin : ∀ M : mm_M, jj p l e room_1 s m #[Value.ref b] below meth c 118 20643 Q 4 dC dI ad cA A M 1473 [(3, .int 0), (2, .ref (ad 98)), (1, .ref (ad 0)), (0, .ref b)] []) : jj p l e room_1 s m #[Value.ref b] below meth c 118 20643 Q 4 dC dI ad cA A M0 501 [(3, .int 0), (2, .ref (ad 98)), (1, .ref (ad 0)), (0, .ref b)] [] := by
  have C : jj_C p room_1 s m #[Value.ref b] c 118 20643 code 4 RL tL_hide dC dI ad cA A := ⟨⟨Cb.1.1, Cb.1.2.1, Cb.1.2.2.1, Cb.1.2.2.2.1, fun w h => hts w (tL_hide_in w h)⟩, Cb.2⟩
  refine j_aload_n C 2 1 dL_law_501 rfl rfl ?_
  refine j_aload_n C 3 0 dL_law_502 rfl rfl ?_
  refine j_iload_n C 0 3 dL_law_503 rfl rfl ?_
  refine j_iconst C 1 dL_law_504 (by decide) ?_
  refine z_iadd C 1 (by decide) dL_law_505 ?_
  refine j_sld C hX hbl hbA 1 rfl (by decide) (by decide) dL_law_506 ?_
  refine j_callVi C (d := 2) (As := [.int (xs 1)]) (st := []) 0 (by decide) rfl (by decide) rfl (ox_hide (xs 1)) tL_hide_x rfl hdLX11_hide (by decide) (Nat.le_of_ble_eq_true rfl) dL_law_507 rfl (fun r1 M1 hp1 => ?_)
  refine j_aload_n C 1 2 dL_law_510 rfl rfl ?_
  refine j_aload_n C 3 0 dL_law_511 rfl rfl ?_
  refine j_iload_n C 0 3 dL_law_512 rfl rfl ?_
  refine j_iconst C 1 dL_law_513 (by decide) ?_
  refine z_iadd C 1 (by decide) dL_law_514 ?_
  refine j_sld C hX hbl hbA 1 rfl (by decide) (by decide) dL_law_515 ?_
  refine j_callVi C (d := 3) (As := [.int (xs 1)]) (st := [.int r1]) 98 (by decide) rfl (by decide) rfl (om_hide hp1.2 (xs 1)) tL_hide_m rfl hdLX12_hide (by decide) (Nat.le_of_ble_eq_true rfl) dL_law_516 rfl (fun r2 M2 hp2 => ?_)
  refine j_icmp_eq_t C 1473 dL_law_519 (by decide) (hp1.1.trans hp2.symm) ?_
  exact hfin M2
set_option maxHeartbeats 2000000 in
set_option maxRecDepth 100000 in
theorem lw_op10 {p : Program} {l : Launch} {e : Env} {s : State} {m : MethodId} {below : List Frame} {meth : Method} {c : Code} {b : Nat} {xs : Nat → Int32} {Q : State → Prop} {dC : Nat → ClassId} {dI : Nat → Nat → Nat} {ad : Nat → Nat} {cA : Nat → ClassId} {A : Nat → Prop} (Cb : jj_C p room_1 s m #[Value.ref b] c 118 20643 code 4 RL [] dC dI ad cA A) (hts : ∀ w ∈ lw_tbl, w.before #[Value.ref b] s = true) (hX : va_X b 6 xs s s.heap) (hbl : b < s.heap.size) (hbA : ¬ A b) (hfin : ∀ M : mm_M, jj p l e room_1 s m #[Value.ref b] below meth c 118 20643 Q 4 dC dI ad cA A M 1473 [(3, .int 0), (2, .ref (ad 98)), (1, .ref (ad 0)), (0, .ref b)] []) : jj p l e room_1 s m #[Value.ref b] below meth c 118 20643 Q 4 dC dI ad cA A M0 524 [(3, .int 0), (2, .ref (ad 98)), (1, .ref (ad 0)), (0, .ref b)] [] := by
  have C : jj_C p room_1 s m #[Value.ref b] c 118 20643 code 4 RL tL_add dC dI ad cA A := ⟨⟨Cb.1.1, Cb.1.2.1, Cb.1.2.2.1, Cb.1.2.2.2.1, fun w h => hts w (tL_add_in w h)⟩, Cb.2⟩
  refine j_aload_n C 2 1 dL_law_524 rfl rfl ?_
  refine j_aload_n C 3 0 dL_law_525 rfl rfl ?_
  refine j_iload_n C 0 3 dL_law_526 rfl rfl ?_
  refine j_iconst C 1 dL_law_527 (by decide) ?_
  refine z_iadd C 1 (by decide) dL_law_528 ?_
  refine j_sld C hX hbl hbA 1 rfl (by decide) (by decide) dL_law_529 ?_
  refine j_aload_n C 3 0 dL_law_530 rfl rfl ?_
  refine j_iload_n C 0 3 dL_law_531 rfl rfl ?_
  refine j_iconst C 2 dL_law_532 (by decide) ?_
  refine z_iadd C 2 (by decide) dL_law_533 ?_
  refine j_sld C hX hbl hbA 2 rfl (by decide) (by decide) dL_law_534 ?_
  refine j_callVi C (d := 3) (As := [.int (xs 1), .int (xs 2)]) (st := []) 0 (by decide) rfl (by decide) rfl (ox_add (xs 1) (xs 2)) tL_add_x rfl hdLX11_add (by decide) (Nat.le_of_ble_eq_true rfl) dL_law_535 rfl (fun r1 M1 hp1 => ?_)
  refine j_aload_n C 1 2 dL_law_538 rfl rfl ?_
  refine j_aload_n C 3 0 dL_law_539 rfl rfl ?_
  refine j_iload_n C 0 3 dL_law_540 rfl rfl ?_
  refine j_iconst C 1 dL_law_541 (by decide) ?_
  refine z_iadd C 1 (by decide) dL_law_542 ?_
  refine j_sld C hX hbl hbA 1 rfl (by decide) (by decide) dL_law_543 ?_
  refine j_aload_n C 3 0 dL_law_544 rfl rfl ?_
  refine j_iload_n C 0 3 dL_law_545 rfl rfl ?_
  refine j_iconst C 2 dL_law_546 (by decide) ?_
  refine z_iadd C 2 (by decide) dL_law_547 ?_
  refine j_sld C hX hbl hbA 2 rfl (by decide) (by decide) dL_law_548 ?_
  refine j_callVi C (d := 4) (As := [.int (xs 1), .int (xs 2)]) (st := [.int r1]) 98 (by decide) rfl (by decide) rfl (om_add hp1.2 (xs 1) (xs 2)) tL_add_m rfl hdLX12_add (by decide) (Nat.le_of_ble_eq_true rfl) dL_law_549 rfl (fun r2 M2 hp2 => ?_)
  refine j_icmp_eq_t C 1473 dL_law_552 (by decide) (hp1.1.trans hp2.symm) ?_
  exact hfin M2
set_option maxHeartbeats 2000000 in
set_option maxRecDepth 100000 in
theorem lw_op11 {p : Program} {l : Launch} {e : Env} {s : State} {m : MethodId} {below : List Frame} {meth : Method} {c : Code} {b : Nat} {xs : Nat → Int32} {Q : State → Prop} {dC : Nat → ClassId} {dI : Nat → Nat → Nat} {ad : Nat → Nat} {cA : Nat → ClassId} {A : Nat → Prop} (Cb : jj_C p room_1 s m #[Value.ref b] c 118 20643 code 4 RL [] dC dI ad cA A) (hts : ∀ w ∈ lw_tbl, w.before #[Value.ref b] s = true) (hX : va_X b 6 xs s s.heap) (hbl : b < s.heap.size) (hbA : ¬ A b) (hfin : ∀ M : mm_M, jj p l e room_1 s m #[Value.ref b] below meth c 118 20643 Q 4 dC dI ad cA A M 1473 [(3, .int 0), (2, .ref (ad 98)), (1, .ref (ad 0)), (0, .ref b)] []) : jj p l e room_1 s m #[Value.ref b] below meth c 118 20643 Q 4 dC dI ad cA A M0 557 [(3, .int 0), (2, .ref (ad 98)), (1, .ref (ad 0)), (0, .ref b)] [] := by
  have C : jj_C p room_1 s m #[Value.ref b] c 118 20643 code 4 RL tL_price dC dI ad cA A := ⟨⟨Cb.1.1, Cb.1.2.1, Cb.1.2.2.1, Cb.1.2.2.2.1, fun w h => hts w (tL_price_in w h)⟩, Cb.2⟩
  refine j_aload_n C 2 1 dL_law_557 rfl rfl ?_
  refine j_aload_n C 3 0 dL_law_558 rfl rfl ?_
  refine j_iload_n C 0 3 dL_law_559 rfl rfl ?_
  refine j_iconst C 1 dL_law_560 (by decide) ?_
  refine z_iadd C 1 (by decide) dL_law_561 ?_
  refine j_sld C hX hbl hbA 1 rfl (by decide) (by decide) dL_law_562 ?_
  refine j_aload_n C 3 0 dL_law_563 rfl rfl ?_
  refine j_iload_n C 0 3 dL_law_564 rfl rfl ?_
  refine j_iconst C 2 dL_law_565 (by decide) ?_
  refine z_iadd C 2 (by decide) dL_law_566 ?_
  refine j_sld C hX hbl hbA 2 rfl (by decide) (by decide) dL_law_567 ?_
  refine j_callVi C (d := 2) (As := [.int (xs 1), .int (xs 2)]) (st := []) 0 (by decide) rfl (by decide) rfl (ox_price (xs 1) (xs 2)) tL_price_x rfl hdLX11_price (by decide) (Nat.le_of_ble_eq_true rfl) dL_law_568 rfl (fun r1 M1 hp1 => ?_)
  refine j_aload_n C 1 2 dL_law_571 rfl rfl ?_
  refine j_aload_n C 3 0 dL_law_572 rfl rfl ?_
  refine j_iload_n C 0 3 dL_law_573 rfl rfl ?_
  refine j_iconst C 1 dL_law_574 (by decide) ?_
  refine z_iadd C 1 (by decide) dL_law_575 ?_
  refine j_sld C hX hbl hbA 1 rfl (by decide) (by decide) dL_law_576 ?_
  refine j_aload_n C 3 0 dL_law_577 rfl rfl ?_
  refine j_iload_n C 0 3 dL_law_578 rfl rfl ?_
  refine j_iconst C 2 dL_law_579 (by decide) ?_
  refine z_iadd C 2 (by decide) dL_law_580 ?_
  refine j_sld C hX hbl hbA 2 rfl (by decide) (by decide) dL_law_581 ?_
  refine j_callVi C (d := 3) (As := [.int (xs 1), .int (xs 2)]) (st := [.int r1]) 98 (by decide) rfl (by decide) rfl (om_price hp1.2 (xs 1) (xs 2)) tL_price_m rfl hdLX12_price (by decide) (Nat.le_of_ble_eq_true rfl) dL_law_582 rfl (fun r2 M2 hp2 => ?_)
  refine j_icmp_eq_t C 1473 dL_law_585 (by decide) (hp1.1.trans hp2.symm) ?_
  exact hfin M2
set_option maxHeartbeats 2000000 in
set_option maxRecDepth 100000 in
theorem lw_op12 {p : Program} {l : Launch} {e : Env} {s : State} {m : MethodId} {below : List Frame} {meth : Method} {c : Code} {b : Nat} {xs : Nat → Int32} {Q : State → Prop} {dC : Nat → ClassId} {dI : Nat → Nat → Nat} {ad : Nat → Nat} {cA : Nat → ClassId} {A : Nat → Prop} (Cb : jj_C p room_1 s m #[Value.ref b] c 118 20643 code 4 RL [] dC dI ad cA A) (hts : ∀ w ∈ lw_tbl, w.before #[Value.ref b] s = true) (hX : va_X b 6 xs s s.heap) (hbl : b < s.heap.size) (hbA : ¬ A b) (hfin : ∀ M : mm_M, jj p l e room_1 s m #[Value.ref b] below meth c 118 20643 Q 4 dC dI ad cA A M 1473 [(3, .int 0), (2, .ref (ad 98)), (1, .ref (ad 0)), (0, .ref b)] []) : jj p l e room_1 s m #[Value.ref b] below meth c 118 20643 Q 4 dC dI ad cA A M0 590 [(3, .int 0), (2, .ref (ad 98)), (1, .ref (ad 0)), (0, .ref b)] [] := by
  have C : jj_C p room_1 s m #[Value.ref b] c 118 20643 code 4 RL tL_days dC dI ad cA A := ⟨⟨Cb.1.1, Cb.1.2.1, Cb.1.2.2.1, Cb.1.2.2.2.1, fun w h => hts w (tL_days_in w h)⟩, Cb.2⟩
  refine j_aload_n C 2 1 dL_law_590 rfl rfl ?_
  refine j_aload_n C 3 0 dL_law_591 rfl rfl ?_
  refine j_iload_n C 0 3 dL_law_592 rfl rfl ?_
  refine j_iconst C 1 dL_law_593 (by decide) ?_
  refine z_iadd C 1 (by decide) dL_law_594 ?_
  refine j_sld C hX hbl hbA 1 rfl (by decide) (by decide) dL_law_595 ?_
  refine j_callVi C (d := 3) (As := [.int (xs 1)]) (st := []) 0 (by decide) rfl (by decide) rfl (ox_days (xs 1)) tL_days_x rfl hdLX11_days (by decide) (Nat.le_of_ble_eq_true rfl) dL_law_596 rfl (fun r1 M1 hp1 => ?_)
  refine j_aload_n C 1 2 dL_law_599 rfl rfl ?_
  refine j_aload_n C 3 0 dL_law_600 rfl rfl ?_
  refine j_iload_n C 0 3 dL_law_601 rfl rfl ?_
  refine j_iconst C 1 dL_law_602 (by decide) ?_
  refine z_iadd C 1 (by decide) dL_law_603 ?_
  refine j_sld C hX hbl hbA 1 rfl (by decide) (by decide) dL_law_604 ?_
  refine j_callVi C (d := 2) (As := [.int (xs 1)]) (st := [.int r1]) 98 (by decide) rfl (by decide) rfl (om_days hp1.2 (xs 1)) tL_days_m rfl hdLX12_days (by decide) (Nat.le_of_ble_eq_true rfl) dL_law_605 rfl (fun r2 M2 hp2 => ?_)
  refine j_icmp_eq_t C 1473 dL_law_608 (by decide) (hp1.1.trans hp2.symm) ?_
  exact hfin M2
set_option maxHeartbeats 2000000 in
set_option maxRecDepth 100000 in
theorem lw_op13 {p : Program} {l : Launch} {e : Env} {s : State} {m : MethodId} {below : List Frame} {meth : Method} {c : Code} {b : Nat} {xs : Nat → Int32} {Q : State → Prop} {dC : Nat → ClassId} {dI : Nat → Nat → Nat} {ad : Nat → Nat} {cA : Nat → ClassId} {A : Nat → Prop} (Cb : jj_C p room_1 s m #[Value.ref b] c 118 20643 code 4 RL [] dC dI ad cA A) (hts : ∀ w ∈ lw_tbl, w.before #[Value.ref b] s = true) (hX : va_X b 6 xs s s.heap) (hbl : b < s.heap.size) (hbA : ¬ A b) (hfin : ∀ M : mm_M, jj p l e room_1 s m #[Value.ref b] below meth c 118 20643 Q 4 dC dI ad cA A M 1473 [(3, .int 0), (2, .ref (ad 98)), (1, .ref (ad 0)), (0, .ref b)] []) : jj p l e room_1 s m #[Value.ref b] below meth c 118 20643 Q 4 dC dI ad cA A M0 613 [(3, .int 0), (2, .ref (ad 98)), (1, .ref (ad 0)), (0, .ref b)] [] := by
  have C : jj_C p room_1 s m #[Value.ref b] c 118 20643 code 4 RL tL_undo dC dI ad cA A := ⟨⟨Cb.1.1, Cb.1.2.1, Cb.1.2.2.1, Cb.1.2.2.2.1, fun w h => hts w (tL_undo_in w h)⟩, Cb.2⟩
  refine j_aload_n C 2 1 dL_law_613 rfl rfl ?_
  refine j_aload_n C 3 0 dL_law_614 rfl rfl ?_
  refine j_iload_n C 0 3 dL_law_615 rfl rfl ?_
  refine j_iconst C 1 dL_law_616 (by decide) ?_
  refine z_iadd C 1 (by decide) dL_law_617 ?_
  refine j_sld C hX hbl hbA 1 rfl (by decide) (by decide) dL_law_618 ?_
  refine j_callVi C (d := 0) (As := [.int (xs 1)]) (st := []) 0 (by decide) rfl (by decide) rfl (ox_undo (xs 1)) tL_undo_x rfl hdLX11_undo (by decide) (Nat.le_of_ble_eq_true rfl) dL_law_619 rfl (fun r1 M1 hp1 => ?_)
  refine j_aload_n C 1 2 dL_law_622 rfl rfl ?_
  refine j_aload_n C 3 0 dL_law_623 rfl rfl ?_
  refine j_iload_n C 0 3 dL_law_624 rfl rfl ?_
  refine j_iconst C 1 dL_law_625 (by decide) ?_
  refine z_iadd C 1 (by decide) dL_law_626 ?_
  refine j_sld C hX hbl hbA 1 rfl (by decide) (by decide) dL_law_627 ?_
  refine j_callVi C (d := 1) (As := [.int (xs 1)]) (st := [.int r1]) 98 (by decide) rfl (by decide) rfl (om_undo hp1.2 (xs 1)) tL_undo_m rfl hdLX12_undo (by decide) (Nat.le_of_ble_eq_true rfl) dL_law_628 rfl (fun r2 M2 hp2 => ?_)
  refine j_icmp_eq_t C 1473 dL_law_631 (by decide) (hp1.1.trans hp2.symm) ?_
  exact hfin M2
set_option maxHeartbeats 2000000 in
set_option maxRecDepth 100000 in
theorem lw_op14 {p : Program} {l : Launch} {e : Env} {s : State} {m : MethodId} {below : List Frame} {meth : Method} {c : Code} {b : Nat} {xs : Nat → Int32} {Q : State → Prop} {dC : Nat → ClassId} {dI : Nat → Nat → Nat} {ad : Nat → Nat} {cA : Nat → ClassId} {A : Nat → Prop} (Cb : jj_C p room_1 s m #[Value.ref b] c 118 20643 code 4 RL [] dC dI ad cA A) (hts : ∀ w ∈ lw_tbl, w.before #[Value.ref b] s = true) (hX : va_X b 6 xs s s.heap) (hbl : b < s.heap.size) (hbA : ¬ A b) (hfin : ∀ M : mm_M, jj p l e room_1 s m #[Value.ref b] below meth c 118 20643 Q 4 dC dI ad cA A M 1473 [(3, .int 0), (2, .ref (ad 98)), (1, .ref (ad 0)), (0, .ref b)] []) : jj p l e room_1 s m #[Value.ref b] below meth c 118 20643 Q 4 dC dI ad cA A M0 636 [(3, .int 0), (2, .ref (ad 98)), (1, .ref (ad 0)), (0, .ref b)] [] := by
  have C : jj_C p room_1 s m #[Value.ref b] c 118 20643 code 4 RL tL_judge dC dI ad cA A := ⟨⟨Cb.1.1, Cb.1.2.1, Cb.1.2.2.1, Cb.1.2.2.2.1, fun w h => hts w (tL_judge_in w h)⟩, Cb.2⟩
  refine j_aload_n C 2 1 dL_law_636 rfl rfl ?_
  refine j_aload_n C 3 0 dL_law_637 rfl rfl ?_
  refine j_iload_n C 0 3 dL_law_638 rfl rfl ?_
  refine j_iconst C 1 dL_law_639 (by decide) ?_
  refine z_iadd C 1 (by decide) dL_law_640 ?_
  refine j_sld C hX hbl hbA 1 rfl (by decide) (by decide) dL_law_641 ?_
  refine j_aload_n C 3 0 dL_law_642 rfl rfl ?_
  refine j_iload_n C 0 3 dL_law_643 rfl rfl ?_
  refine j_iconst C 2 dL_law_644 (by decide) ?_
  refine z_iadd C 2 (by decide) dL_law_645 ?_
  refine j_sld C hX hbl hbA 2 rfl (by decide) (by decide) dL_law_646 ?_
  refine j_callVi C (d := 1) (As := [.int (xs 1), .int (xs 2)]) (st := []) 0 (by decide) rfl (by decide) rfl (ox_judge (xs 1) (xs 2)) tL_judge_x rfl hdLX11_judge (by decide) (Nat.le_of_ble_eq_true rfl) dL_law_647 rfl (fun r1 M1 hp1 => ?_)
  refine j_aload_n C 1 2 dL_law_650 rfl rfl ?_
  refine j_aload_n C 3 0 dL_law_651 rfl rfl ?_
  refine j_iload_n C 0 3 dL_law_652 rfl rfl ?_
  refine j_iconst C 1 dL_law_653 (by decide) ?_
  refine z_iadd C 1 (by decide) dL_law_654 ?_
  refine j_sld C hX hbl hbA 1 rfl (by decide) (by decide) dL_law_655 ?_
  refine j_aload_n C 3 0 dL_law_656 rfl rfl ?_
  refine j_iload_n C 0 3 dL_law_657 rfl rfl ?_
  refine j_iconst C 2 dL_law_658 (by decide) ?_
  refine z_iadd C 2 (by decide) dL_law_659 ?_
  refine j_sld C hX hbl hbA 2 rfl (by decide) (by decide) dL_law_660 ?_
  refine j_callVi C (d := 2) (As := [.int (xs 1), .int (xs 2)]) (st := [.int r1]) 98 (by decide) rfl (by decide) rfl (om_judge hp1.2 (xs 1) (xs 2)) tL_judge_m rfl hdLX12_judge (by decide) (Nat.le_of_ble_eq_true rfl) dL_law_661 rfl (fun r2 M2 hp2 => ?_)
  refine j_icmp_eq_t C 1473 dL_law_664 (by decide) (hp1.1.trans hp2.symm) ?_
  exact hfin M2
set_option maxHeartbeats 2000000 in
set_option maxRecDepth 100000 in
theorem lw_op15 {p : Program} {l : Launch} {e : Env} {s : State} {m : MethodId} {below : List Frame} {meth : Method} {c : Code} {b : Nat} {xs : Nat → Int32} {Q : State → Prop} {dC : Nat → ClassId} {dI : Nat → Nat → Nat} {ad : Nat → Nat} {cA : Nat → ClassId} {A : Nat → Prop} (Cb : jj_C p room_1 s m #[Value.ref b] c 118 20643 code 4 RL [] dC dI ad cA A) (hts : ∀ w ∈ lw_tbl, w.before #[Value.ref b] s = true) (hX : va_X b 6 xs s s.heap) (hbl : b < s.heap.size) (hbA : ¬ A b) (hfin : ∀ M : mm_M, jj p l e room_1 s m #[Value.ref b] below meth c 118 20643 Q 4 dC dI ad cA A M 1473 [(3, .int 0), (2, .ref (ad 98)), (1, .ref (ad 0)), (0, .ref b)] []) : jj p l e room_1 s m #[Value.ref b] below meth c 118 20643 Q 4 dC dI ad cA A M0 669 [(3, .int 0), (2, .ref (ad 98)), (1, .ref (ad 0)), (0, .ref b)] [] := by
  have C : jj_C p room_1 s m #[Value.ref b] c 118 20643 code 4 RL tL_perform dC dI ad cA A := ⟨⟨Cb.1.1, Cb.1.2.1, Cb.1.2.2.1, Cb.1.2.2.2.1, fun w h => hts w (tL_perform_in w h)⟩, Cb.2⟩
  refine j_aload_n C 2 1 dL_law_669 rfl rfl ?_
  refine j_aload_n C 3 0 dL_law_670 rfl rfl ?_
  refine j_iload_n C 0 3 dL_law_671 rfl rfl ?_
  refine j_iconst C 1 dL_law_672 (by decide) ?_
  refine z_iadd C 1 (by decide) dL_law_673 ?_
  refine j_sld C hX hbl hbA 1 rfl (by decide) (by decide) dL_law_674 ?_
  refine j_callVi C (d := 2) (As := [.int (xs 1)]) (st := []) 0 (by decide) rfl (by decide) rfl (ox_perform (xs 1)) tL_perform_x rfl hdLX11_perform (by decide) (Nat.le_of_ble_eq_true rfl) dL_law_675 rfl (fun r1 M1 hp1 => ?_)
  refine j_aload_n C 1 2 dL_law_678 rfl rfl ?_
  refine j_aload_n C 3 0 dL_law_679 rfl rfl ?_
  refine j_iload_n C 0 3 dL_law_680 rfl rfl ?_
  refine j_iconst C 1 dL_law_681 (by decide) ?_
  refine z_iadd C 1 (by decide) dL_law_682 ?_
  refine j_sld C hX hbl hbA 1 rfl (by decide) (by decide) dL_law_683 ?_
  refine j_callVi C (d := 2) (As := [.int (xs 1)]) (st := [.int r1]) 98 (by decide) rfl (by decide) rfl (om_perform hp1.2 (xs 1)) tL_perform_m rfl hdLX12_perform (by decide) (Nat.le_of_ble_eq_true rfl) dL_law_684 rfl (fun r2 M2 hp2 => ?_)
  refine j_icmp_eq_t C 1473 dL_law_687 (by decide) (hp1.1.trans hp2.symm) ?_
  exact hfin M2
set_option maxHeartbeats 2000000 in
set_option maxRecDepth 100000 in
theorem lw_op16 {p : Program} {l : Launch} {e : Env} {s : State} {m : MethodId} {below : List Frame} {meth : Method} {c : Code} {b : Nat} {xs : Nat → Int32} {Q : State → Prop} {dC : Nat → ClassId} {dI : Nat → Nat → Nat} {ad : Nat → Nat} {cA : Nat → ClassId} {A : Nat → Prop} (Cb : jj_C p room_1 s m #[Value.ref b] c 118 20643 code 4 RL [] dC dI ad cA A) (hts : ∀ w ∈ lw_tbl, w.before #[Value.ref b] s = true) (hX : va_X b 6 xs s s.heap) (hbl : b < s.heap.size) (hbA : ¬ A b) (hfin : ∀ M : mm_M, jj p l e room_1 s m #[Value.ref b] below meth c 118 20643 Q 4 dC dI ad cA A M 1473 [(3, .int 0), (2, .ref (ad 98)), (1, .ref (ad 0)), (0, .ref b)] []) : jj p l e room_1 s m #[Value.ref b] below meth c 118 20643 Q 4 dC dI ad cA A M0 692 [(3, .int 0), (2, .ref (ad 98)), (1, .ref (ad 0)), (0, .ref b)] [] := by
  have C : jj_C p room_1 s m #[Value.ref b] c 118 20643 code 4 RL tL_season dC dI ad cA A := ⟨⟨Cb.1.1, Cb.1.2.1, Cb.1.2.2.1, Cb.1.2.2.2.1, fun w h => hts w (tL_season_in w h)⟩, Cb.2⟩
  refine j_aload_n C 2 1 dL_law_692 rfl rfl ?_
  refine j_aload_n C 3 0 dL_law_693 rfl rfl ?_
  refine j_iload_n C 0 3 dL_law_694 rfl rfl ?_
  refine j_iconst C 1 dL_law_695 (by decide) ?_
  refine z_iadd C 1 (by decide) dL_law_696 ?_
  refine j_sld C hX hbl hbA 1 rfl (by decide) (by decide) dL_law_697 ?_
  refine j_aload_n C 3 0 dL_law_698 rfl rfl ?_
  refine j_iload_n C 0 3 dL_law_699 rfl rfl ?_
  refine j_iconst C 2 dL_law_700 (by decide) ?_
  refine z_iadd C 2 (by decide) dL_law_701 ?_
  refine j_sld C hX hbl hbA 2 rfl (by decide) (by decide) dL_law_702 ?_
  refine j_callVi C (d := 3) (As := [.int (xs 1), .int (xs 2)]) (st := []) 0 (by decide) rfl (by decide) rfl (ox_season (xs 1) (xs 2)) tL_season_x rfl hdLX11_season (by decide) (Nat.le_of_ble_eq_true rfl) dL_law_703 rfl (fun r1 M1 hp1 => ?_)
  refine j_aload_n C 1 2 dL_law_706 rfl rfl ?_
  refine j_aload_n C 3 0 dL_law_707 rfl rfl ?_
  refine j_iload_n C 0 3 dL_law_708 rfl rfl ?_
  refine j_iconst C 1 dL_law_709 (by decide) ?_
  refine z_iadd C 1 (by decide) dL_law_710 ?_
  refine j_sld C hX hbl hbA 1 rfl (by decide) (by decide) dL_law_711 ?_
  refine j_aload_n C 3 0 dL_law_712 rfl rfl ?_
  refine j_iload_n C 0 3 dL_law_713 rfl rfl ?_
  refine j_iconst C 2 dL_law_714 (by decide) ?_
  refine z_iadd C 2 (by decide) dL_law_715 ?_
  refine j_sld C hX hbl hbA 2 rfl (by decide) (by decide) dL_law_716 ?_
  refine j_callVi C (d := 4) (As := [.int (xs 1), .int (xs 2)]) (st := [.int r1]) 98 (by decide) rfl (by decide) rfl (om_season hp1.2 (xs 1) (xs 2)) tL_season_m rfl hdLX12_season (by decide) (Nat.le_of_ble_eq_true rfl) dL_law_717 rfl (fun r2 M2 hp2 => ?_)
  refine j_icmp_eq_t C 1473 dL_law_720 (by decide) (hp1.1.trans hp2.symm) ?_
  exact hfin M2
set_option maxHeartbeats 2000000 in
set_option maxRecDepth 100000 in
theorem lw_op17 {p : Program} {l : Launch} {e : Env} {s : State} {m : MethodId} {below : List Frame} {meth : Method} {c : Code} {b : Nat} {xs : Nat → Int32} {Q : State → Prop} {dC : Nat → ClassId} {dI : Nat → Nat → Nat} {ad : Nat → Nat} {cA : Nat → ClassId} {A : Nat → Prop} (Cb : jj_C p room_1 s m #[Value.ref b] c 118 20643 code 4 RL [] dC dI ad cA A) (hts : ∀ w ∈ lw_tbl, w.before #[Value.ref b] s = true) (hX : va_X b 6 xs s s.heap) (hbl : b < s.heap.size) (hbA : ¬ A b) (hfin : ∀ M : mm_M, jj p l e room_1 s m #[Value.ref b] below meth c 118 20643 Q 4 dC dI ad cA A M 1473 [(3, .int 0), (2, .ref (ad 98)), (1, .ref (ad 0)), (0, .ref b)] []) : jj p l e room_1 s m #[Value.ref b] below meth c 118 20643 Q 4 dC dI ad cA A M0 725 [(3, .int 0), (2, .ref (ad 98)), (1, .ref (ad 0)), (0, .ref b)] [] := by
  have C : jj_C p room_1 s m #[Value.ref b] c 118 20643 code 4 RL tL_ending dC dI ad cA A := ⟨⟨Cb.1.1, Cb.1.2.1, Cb.1.2.2.1, Cb.1.2.2.2.1, fun w h => hts w (tL_ending_in w h)⟩, Cb.2⟩
  refine j_aload_n C 2 1 dL_law_725 rfl rfl ?_
  refine j_callVi C (d := 3) (As := []) (st := []) 0 (by decide) rfl (by decide) rfl (ox_ending ) tL_ending_x rfl hdLX11_ending (by decide) (Nat.le_of_ble_eq_true rfl) dL_law_726 rfl (fun r1 M1 hp1 => ?_)
  refine j_aload_n C 1 2 dL_law_729 rfl rfl ?_
  refine j_callVi C (d := 5) (As := []) (st := [.int r1]) 98 (by decide) rfl (by decide) rfl (om_ending hp1.2 ) tL_ending_m rfl hdLX12_ending (by decide) (Nat.le_of_ble_eq_true rfl) dL_law_730 rfl (fun r2 M2 hp2 => ?_)
  refine j_icmp_eq_t C 1473 dL_law_733 (by decide) (hp1.1.trans hp2.symm) ?_
  exact hfin M2
set_option maxHeartbeats 2000000 in
set_option maxRecDepth 100000 in
theorem lw_op18 {p : Program} {l : Launch} {e : Env} {s : State} {m : MethodId} {below : List Frame} {meth : Method} {c : Code} {b : Nat} {xs : Nat → Int32} {Q : State → Prop} {dC : Nat → ClassId} {dI : Nat → Nat → Nat} {ad : Nat → Nat} {cA : Nat → ClassId} {A : Nat → Prop} (Cb : jj_C p room_1 s m #[Value.ref b] c 118 20643 code 4 RL [] dC dI ad cA A) (hts : ∀ w ∈ lw_tbl, w.before #[Value.ref b] s = true) (hX : va_X b 6 xs s s.heap) (hbl : b < s.heap.size) (hbA : ¬ A b) (hfin : ∀ M : mm_M, jj p l e room_1 s m #[Value.ref b] below meth c 118 20643 Q 4 dC dI ad cA A M 1473 [(3, .int 0), (2, .ref (ad 98)), (1, .ref (ad 0)), (0, .ref b)] []) : jj p l e room_1 s m #[Value.ref b] below meth c 118 20643 Q 4 dC dI ad cA A M0 738 [(3, .int 0), (2, .ref (ad 98)), (1, .ref (ad 0)), (0, .ref b)] [] := by
  have C : jj_C p room_1 s m #[Value.ref b] c 118 20643 code 4 RL tL_endingBy dC dI ad cA A := ⟨⟨Cb.1.1, Cb.1.2.1, Cb.1.2.2.1, Cb.1.2.2.2.1, fun w h => hts w (tL_endingBy_in w h)⟩, Cb.2⟩
  refine j_aload_n C 2 1 dL_law_738 rfl rfl ?_
  refine j_aload_n C 3 0 dL_law_739 rfl rfl ?_
  refine j_iload_n C 0 3 dL_law_740 rfl rfl ?_
  refine j_iconst C 1 dL_law_741 (by decide) ?_
  refine z_iadd C 1 (by decide) dL_law_742 ?_
  refine j_sld C hX hbl hbA 1 rfl (by decide) (by decide) dL_law_743 ?_
  refine j_callVi C (d := 3) (As := [.int (xs 1)]) (st := []) 0 (by decide) rfl (by decide) rfl (ox_endingBy (xs 1)) tL_endingBy_x rfl hdLX11_endingBy (by decide) (Nat.le_of_ble_eq_true rfl) dL_law_744 rfl (fun r1 M1 hp1 => ?_)
  refine j_aload_n C 1 2 dL_law_747 rfl rfl ?_
  refine j_aload_n C 3 0 dL_law_748 rfl rfl ?_
  refine j_iload_n C 0 3 dL_law_749 rfl rfl ?_
  refine j_iconst C 1 dL_law_750 (by decide) ?_
  refine z_iadd C 1 (by decide) dL_law_751 ?_
  refine j_sld C hX hbl hbA 1 rfl (by decide) (by decide) dL_law_752 ?_
  refine j_callVi C (d := 6) (As := [.int (xs 1)]) (st := [.int r1]) 98 (by decide) rfl (by decide) rfl (om_endingBy hp1.2 (xs 1)) tL_endingBy_m rfl hdLX12_endingBy (by decide) (Nat.le_of_ble_eq_true rfl) dL_law_753 rfl (fun r2 M2 hp2 => ?_)
  refine j_icmp_eq_t C 1473 dL_law_756 (by decide) (hp1.1.trans hp2.symm) ?_
  exact hfin M2
set_option maxHeartbeats 2000000 in
set_option maxRecDepth 100000 in
theorem lw_op19 {p : Program} {l : Launch} {e : Env} {s : State} {m : MethodId} {below : List Frame} {meth : Method} {c : Code} {b : Nat} {xs : Nat → Int32} {Q : State → Prop} {dC : Nat → ClassId} {dI : Nat → Nat → Nat} {ad : Nat → Nat} {cA : Nat → ClassId} {A : Nat → Prop} (Cb : jj_C p room_1 s m #[Value.ref b] c 118 20643 code 4 RL [] dC dI ad cA A) (hts : ∀ w ∈ lw_tbl, w.before #[Value.ref b] s = true) (hX : va_X b 6 xs s s.heap) (hbl : b < s.heap.size) (hbA : ¬ A b) (hfin : ∀ M : mm_M, jj p l e room_1 s m #[Value.ref b] below meth c 118 20643 Q 4 dC dI ad cA A M 1473 [(3, .int 0), (2, .ref (ad 98)), (1, .ref (ad 0)), (0, .ref b)] []) : jj p l e room_1 s m #[Value.ref b] below meth c 118 20643 Q 4 dC dI ad cA A M0 761 [(3, .int 0), (2, .ref (ad 98)), (1, .ref (ad 0)), (0, .ref b)] [] := by
  have C : jj_C p room_1 s m #[Value.ref b] c 118 20643 code 4 RL tL_endings dC dI ad cA A := ⟨⟨Cb.1.1, Cb.1.2.1, Cb.1.2.2.1, Cb.1.2.2.2.1, fun w h => hts w (tL_endings_in w h)⟩, Cb.2⟩
  refine j_aload_n C 2 1 dL_law_761 rfl rfl ?_
  refine j_aload_n C 3 0 dL_law_762 rfl rfl ?_
  refine j_iload_n C 0 3 dL_law_763 rfl rfl ?_
  refine j_iconst C 1 dL_law_764 (by decide) ?_
  refine z_iadd C 1 (by decide) dL_law_765 ?_
  refine j_sld C hX hbl hbA 1 rfl (by decide) (by decide) dL_law_766 ?_
  refine j_callVj C (d := 3) (As := [.int (xs 1)]) (st := []) 0 (by decide) rfl (by decide) rfl (ox_endings (xs 1)) tL_endings_x rfl hdLX11_endings (by decide) (Nat.le_of_ble_eq_true rfl) dL_law_767 rfl (fun r1 M1 hp1 => ?_)
  refine j_aload_n C 1 2 dL_law_770 rfl rfl ?_
  refine j_aload_n C 3 0 dL_law_771 rfl rfl ?_
  refine j_iload_n C 0 3 dL_law_772 rfl rfl ?_
  refine j_iconst C 1 dL_law_773 (by decide) ?_
  refine z_iadd C 1 (by decide) dL_law_774 ?_
  refine j_sld C hX hbl hbA 1 rfl (by decide) (by decide) dL_law_775 ?_
  refine j_callVj C (d := 4) (As := [.int (xs 1)]) (st := [.long r1]) 98 (by decide) rfl (by decide) rfl (om_endings hp1.2 (xs 1)) tL_endings_m rfl hdLX12_endings (by decide) (Nat.le_of_ble_eq_true rfl) dL_law_776 rfl (fun r2 M2 hp2 => ?_)
  refine j_lcmp C dL_law_779 ?_
  refine j_if_eq_t C 1473 dL_law_780 (by decide) ((z_cmp r1 r2).2.2.2.2.mpr (congrArg Int64.toInt (hp1.1.trans hp2.symm))) ?_
  exact hfin M2
set_option maxHeartbeats 2000000 in
set_option maxRecDepth 100000 in
theorem lw_op20 {p : Program} {l : Launch} {e : Env} {s : State} {m : MethodId} {below : List Frame} {meth : Method} {c : Code} {b : Nat} {xs : Nat → Int32} {Q : State → Prop} {dC : Nat → ClassId} {dI : Nat → Nat → Nat} {ad : Nat → Nat} {cA : Nat → ClassId} {A : Nat → Prop} (Cb : jj_C p room_1 s m #[Value.ref b] c 118 20643 code 4 RL [] dC dI ad cA A) (hts : ∀ w ∈ lw_tbl, w.before #[Value.ref b] s = true) (hX : va_X b 6 xs s s.heap) (hbl : b < s.heap.size) (hbA : ¬ A b) (hfin : ∀ M : mm_M, jj p l e room_1 s m #[Value.ref b] below meth c 118 20643 Q 4 dC dI ad cA A M 1473 [(3, .int 0), (2, .ref (ad 98)), (1, .ref (ad 0)), (0, .ref b)] []) : jj p l e room_1 s m #[Value.ref b] below meth c 118 20643 Q 4 dC dI ad cA A M0 785 [(3, .int 0), (2, .ref (ad 98)), (1, .ref (ad 0)), (0, .ref b)] [] := by
  have C : jj_C p room_1 s m #[Value.ref b] c 118 20643 code 4 RL tL_needed dC dI ad cA A := ⟨⟨Cb.1.1, Cb.1.2.1, Cb.1.2.2.1, Cb.1.2.2.2.1, fun w h => hts w (tL_needed_in w h)⟩, Cb.2⟩
  refine j_aload_n C 2 1 dL_law_785 rfl rfl ?_
  refine j_callVi C (d := 3) (As := []) (st := []) 0 (by decide) rfl (by decide) rfl (ox_needed ) tL_needed_x rfl hdLX11_needed (by decide) (Nat.le_of_ble_eq_true rfl) dL_law_786 rfl (fun r1 M1 hp1 => ?_)
  refine j_aload_n C 1 2 dL_law_789 rfl rfl ?_
  refine j_callVi C (d := 5) (As := []) (st := [.int r1]) 98 (by decide) rfl (by decide) rfl (om_needed hp1.2 ) tL_needed_m rfl hdLX12_needed (by decide) (Nat.le_of_ble_eq_true rfl) dL_law_790 rfl (fun r2 M2 hp2 => ?_)
  refine j_icmp_eq_t C 1473 dL_law_793 (by decide) (hp1.1.trans hp2.symm) ?_
  exact hfin M2
set_option maxHeartbeats 2000000 in
set_option maxRecDepth 100000 in
theorem lw_op21 {p : Program} {l : Launch} {e : Env} {s : State} {m : MethodId} {below : List Frame} {meth : Method} {c : Code} {b : Nat} {xs : Nat → Int32} {Q : State → Prop} {dC : Nat → ClassId} {dI : Nat → Nat → Nat} {ad : Nat → Nat} {cA : Nat → ClassId} {A : Nat → Prop} (Cb : jj_C p room_1 s m #[Value.ref b] c 118 20643 code 4 RL [] dC dI ad cA A) (hts : ∀ w ∈ lw_tbl, w.before #[Value.ref b] s = true) (hX : va_X b 6 xs s s.heap) (hbl : b < s.heap.size) (hbA : ¬ A b) (hfin : ∀ M : mm_M, jj p l e room_1 s m #[Value.ref b] below meth c 118 20643 Q 4 dC dI ad cA A M 1473 [(3, .int 0), (2, .ref (ad 98)), (1, .ref (ad 0)), (0, .ref b)] []) : jj p l e room_1 s m #[Value.ref b] below meth c 118 20643 Q 4 dC dI ad cA A M0 798 [(3, .int 0), (2, .ref (ad 98)), (1, .ref (ad 0)), (0, .ref b)] [] := by
  have C : jj_C p room_1 s m #[Value.ref b] c 118 20643 code 4 RL tL_sellable dC dI ad cA A := ⟨⟨Cb.1.1, Cb.1.2.1, Cb.1.2.2.1, Cb.1.2.2.2.1, fun w h => hts w (tL_sellable_in w h)⟩, Cb.2⟩
  refine j_aload_n C 2 1 dL_law_798 rfl rfl ?_
  refine j_callVi C (d := 3) (As := []) (st := []) 0 (by decide) rfl (by decide) rfl (ox_sellable ) tL_sellable_x rfl hdLX11_sellable (by decide) (Nat.le_of_ble_eq_true rfl) dL_law_799 rfl (fun r1 M1 hp1 => ?_)
  refine j_aload_n C 1 2 dL_law_802 rfl rfl ?_
  refine j_callVi C (d := 3) (As := []) (st := [.int r1]) 98 (by decide) rfl (by decide) rfl (om_sellable hp1.2 ) tL_sellable_m rfl hdLX12_sellable (by decide) (Nat.le_of_ble_eq_true rfl) dL_law_803 rfl (fun r2 M2 hp2 => ?_)
  refine j_icmp_eq_t C 1473 dL_law_806 (by decide) (hp1.1.trans hp2.symm) ?_
  exact hfin M2
set_option maxHeartbeats 2000000 in
set_option maxRecDepth 100000 in
theorem lw_op22 {p : Program} {l : Launch} {e : Env} {s : State} {m : MethodId} {below : List Frame} {meth : Method} {c : Code} {b : Nat} {xs : Nat → Int32} {Q : State → Prop} {dC : Nat → ClassId} {dI : Nat → Nat → Nat} {ad : Nat → Nat} {cA : Nat → ClassId} {A : Nat → Prop} (Cb : jj_C p room_1 s m #[Value.ref b] c 118 20643 code 4 RL [] dC dI ad cA A) (hts : ∀ w ∈ lw_tbl, w.before #[Value.ref b] s = true) (hX : va_X b 6 xs s s.heap) (hbl : b < s.heap.size) (hbA : ¬ A b) (hfin : ∀ M : mm_M, jj p l e room_1 s m #[Value.ref b] below meth c 118 20643 Q 4 dC dI ad cA A M 1473 [(3, .int 0), (2, .ref (ad 98)), (1, .ref (ad 0)), (0, .ref b)] []) : jj p l e room_1 s m #[Value.ref b] below meth c 118 20643 Q 4 dC dI ad cA A M0 811 [(3, .int 0), (2, .ref (ad 98)), (1, .ref (ad 0)), (0, .ref b)] [] := by
  have C : jj_C p room_1 s m #[Value.ref b] c 118 20643 code 4 RL tL_guards dC dI ad cA A := ⟨⟨Cb.1.1, Cb.1.2.1, Cb.1.2.2.1, Cb.1.2.2.2.1, fun w h => hts w (tL_guards_in w h)⟩, Cb.2⟩
  refine j_aload_n C 2 1 dL_law_811 rfl rfl ?_
  refine j_callVi C (d := 3) (As := []) (st := []) 0 (by decide) rfl (by decide) rfl (ox_guards ) tL_guards_x rfl hdLX11_guards (by decide) (Nat.le_of_ble_eq_true rfl) dL_law_812 rfl (fun r1 M1 hp1 => ?_)
  refine j_aload_n C 1 2 dL_law_815 rfl rfl ?_
  refine j_callVi C (d := 5) (As := []) (st := [.int r1]) 98 (by decide) rfl (by decide) rfl (om_guards hp1.2 ) tL_guards_m rfl hdLX12_guards (by decide) (Nat.le_of_ble_eq_true rfl) dL_law_816 rfl (fun r2 M2 hp2 => ?_)
  refine j_icmp_eq_t C 1473 dL_law_819 (by decide) (hp1.1.trans hp2.symm) ?_
  exact hfin M2
set_option maxHeartbeats 2000000 in
set_option maxRecDepth 100000 in
theorem lw_op23 {p : Program} {l : Launch} {e : Env} {s : State} {m : MethodId} {below : List Frame} {meth : Method} {c : Code} {b : Nat} {xs : Nat → Int32} {Q : State → Prop} {dC : Nat → ClassId} {dI : Nat → Nat → Nat} {ad : Nat → Nat} {cA : Nat → ClassId} {A : Nat → Prop} (Cb : jj_C p room_1 s m #[Value.ref b] c 118 20643 code 4 RL [] dC dI ad cA A) (hts : ∀ w ∈ lw_tbl, w.before #[Value.ref b] s = true) (hX : va_X b 6 xs s s.heap) (hbl : b < s.heap.size) (hbA : ¬ A b) (hfin : ∀ M : mm_M, jj p l e room_1 s m #[Value.ref b] below meth c 118 20643 Q 4 dC dI ad cA A M 1473 [(3, .int 0), (2, .ref (ad 98)), (1, .ref (ad 0)), (0, .ref b)] []) : jj p l e room_1 s m #[Value.ref b] below meth c 118 20643 Q 4 dC dI ad cA A M0 824 [(3, .int 0), (2, .ref (ad 98)), (1, .ref (ad 0)), (0, .ref b)] [] := by
  have C : jj_C p room_1 s m #[Value.ref b] c 118 20643 code 4 RL tL_last dC dI ad cA A := ⟨⟨Cb.1.1, Cb.1.2.1, Cb.1.2.2.1, Cb.1.2.2.2.1, fun w h => hts w (tL_last_in w h)⟩, Cb.2⟩
  refine j_aload_n C 2 1 dL_law_824 rfl rfl ?_
  refine j_callVi C (d := 3) (As := []) (st := []) 0 (by decide) rfl (by decide) rfl (ox_last ) tL_last_x rfl hdLX11_last (by decide) (Nat.le_of_ble_eq_true rfl) dL_law_825 rfl (fun r1 M1 hp1 => ?_)
  refine j_aload_n C 1 2 dL_law_828 rfl rfl ?_
  refine j_callVi C (d := 3) (As := []) (st := [.int r1]) 98 (by decide) rfl (by decide) rfl (om_last hp1.2 ) tL_last_m rfl hdLX12_last (by decide) (Nat.le_of_ble_eq_true rfl) dL_law_829 rfl (fun r2 M2 hp2 => ?_)
  refine j_icmp_eq_t C 1473 dL_law_832 (by decide) (hp1.1.trans hp2.symm) ?_
  exact hfin M2
set_option maxHeartbeats 2000000 in
set_option maxRecDepth 100000 in
theorem lw_op24 {p : Program} {l : Launch} {e : Env} {s : State} {m : MethodId} {below : List Frame} {meth : Method} {c : Code} {b : Nat} {xs : Nat → Int32} {Q : State → Prop} {dC : Nat → ClassId} {dI : Nat → Nat → Nat} {ad : Nat → Nat} {cA : Nat → ClassId} {A : Nat → Prop} (Cb : jj_C p room_1 s m #[Value.ref b] c 118 20643 code 4 RL [] dC dI ad cA A) (hts : ∀ w ∈ lw_tbl, w.before #[Value.ref b] s = true) (hX : va_X b 6 xs s s.heap) (hbl : b < s.heap.size) (hbA : ¬ A b) (hfin : ∀ M : mm_M, jj p l e room_1 s m #[Value.ref b] below meth c 118 20643 Q 4 dC dI ad cA A M 1473 [(3, .int 0), (2, .ref (ad 98)), (1, .ref (ad 0)), (0, .ref b)] []) : jj p l e room_1 s m #[Value.ref b] below meth c 118 20643 Q 4 dC dI ad cA A M0 837 [(3, .int 0), (2, .ref (ad 98)), (1, .ref (ad 0)), (0, .ref b)] [] := by
  have C : jj_C p room_1 s m #[Value.ref b] c 118 20643 code 4 RL tL_open dC dI ad cA A := ⟨⟨Cb.1.1, Cb.1.2.1, Cb.1.2.2.1, Cb.1.2.2.2.1, fun w h => hts w (tL_open_in w h)⟩, Cb.2⟩
  refine j_aload_n C 2 1 dL_law_837 rfl rfl ?_
  refine j_aload_n C 3 0 dL_law_838 rfl rfl ?_
  refine j_iload_n C 0 3 dL_law_839 rfl rfl ?_
  refine j_iconst C 1 dL_law_840 (by decide) ?_
  refine z_iadd C 1 (by decide) dL_law_841 ?_
  refine j_sld C hX hbl hbA 1 rfl (by decide) (by decide) dL_law_842 ?_
  refine j_aload_n C 3 0 dL_law_843 rfl rfl ?_
  refine j_iload_n C 0 3 dL_law_844 rfl rfl ?_
  refine j_iconst C 2 dL_law_845 (by decide) ?_
  refine z_iadd C 2 (by decide) dL_law_846 ?_
  refine j_sld C hX hbl hbA 2 rfl (by decide) (by decide) dL_law_847 ?_
  refine j_callVj C (d := 3) (As := [.int (xs 1), .int (xs 2)]) (st := []) 0 (by decide) rfl (by decide) rfl (ox_open (xs 1) (xs 2)) tL_open_x rfl hdLX11_open (by decide) (Nat.le_of_ble_eq_true rfl) dL_law_848 rfl (fun r1 M1 hp1 => ?_)
  refine j_aload_n C 1 2 dL_law_851 rfl rfl ?_
  refine j_aload_n C 3 0 dL_law_852 rfl rfl ?_
  refine j_iload_n C 0 3 dL_law_853 rfl rfl ?_
  refine j_iconst C 1 dL_law_854 (by decide) ?_
  refine z_iadd C 1 (by decide) dL_law_855 ?_
  refine j_sld C hX hbl hbA 1 rfl (by decide) (by decide) dL_law_856 ?_
  refine j_aload_n C 3 0 dL_law_857 rfl rfl ?_
  refine j_iload_n C 0 3 dL_law_858 rfl rfl ?_
  refine j_iconst C 2 dL_law_859 (by decide) ?_
  refine z_iadd C 2 (by decide) dL_law_860 ?_
  refine j_sld C hX hbl hbA 2 rfl (by decide) (by decide) dL_law_861 ?_
  refine j_callVj C (d := 4) (As := [.int (xs 1), .int (xs 2)]) (st := [.long r1]) 98 (by decide) rfl (by decide) rfl (om_open hp1.2 (xs 1) (xs 2)) tL_open_m rfl hdLX12_open (by decide) (Nat.le_of_ble_eq_true rfl) dL_law_862 rfl (fun r2 M2 hp2 => ?_)
  refine j_lcmp C dL_law_865 ?_
  refine j_if_eq_t C 1473 dL_law_866 (by decide) ((z_cmp r1 r2).2.2.2.2.mpr (congrArg Int64.toInt (hp1.1.trans hp2.symm))) ?_
  exact hfin M2
set_option maxHeartbeats 2000000 in
set_option maxRecDepth 100000 in
theorem lw_op25 {p : Program} {l : Launch} {e : Env} {s : State} {m : MethodId} {below : List Frame} {meth : Method} {c : Code} {b : Nat} {xs : Nat → Int32} {Q : State → Prop} {dC : Nat → ClassId} {dI : Nat → Nat → Nat} {ad : Nat → Nat} {cA : Nat → ClassId} {A : Nat → Prop} (Cb : jj_C p room_1 s m #[Value.ref b] c 118 20643 code 4 RL [] dC dI ad cA A) (hts : ∀ w ∈ lw_tbl, w.before #[Value.ref b] s = true) (hX : va_X b 6 xs s s.heap) (hbl : b < s.heap.size) (hbA : ¬ A b) (hfin : ∀ M : mm_M, jj p l e room_1 s m #[Value.ref b] below meth c 118 20643 Q 4 dC dI ad cA A M 1473 [(3, .int 0), (2, .ref (ad 98)), (1, .ref (ad 0)), (0, .ref b)] []) : jj p l e room_1 s m #[Value.ref b] below meth c 118 20643 Q 4 dC dI ad cA A M0 871 [(3, .int 0), (2, .ref (ad 98)), (1, .ref (ad 0)), (0, .ref b)] [] := by
  have C : jj_C p room_1 s m #[Value.ref b] c 118 20643 code 4 RL tL_likely dC dI ad cA A := ⟨⟨Cb.1.1, Cb.1.2.1, Cb.1.2.2.1, Cb.1.2.2.2.1, fun w h => hts w (tL_likely_in w h)⟩, Cb.2⟩
  refine j_aload_n C 2 1 dL_law_871 rfl rfl ?_
  refine j_aload_n C 3 0 dL_law_872 rfl rfl ?_
  refine j_iload_n C 0 3 dL_law_873 rfl rfl ?_
  refine j_iconst C 1 dL_law_874 (by decide) ?_
  refine z_iadd C 1 (by decide) dL_law_875 ?_
  refine j_sld C hX hbl hbA 1 rfl (by decide) (by decide) dL_law_876 ?_
  refine j_callVi C (d := 3) (As := [.int (xs 1)]) (st := []) 0 (by decide) rfl (by decide) rfl (ox_likely (xs 1)) tL_likely_x rfl hdLX11_likely (by decide) (Nat.le_of_ble_eq_true rfl) dL_law_877 rfl (fun r1 M1 hp1 => ?_)
  refine j_aload_n C 1 2 dL_law_880 rfl rfl ?_
  refine j_aload_n C 3 0 dL_law_881 rfl rfl ?_
  refine j_iload_n C 0 3 dL_law_882 rfl rfl ?_
  refine j_iconst C 1 dL_law_883 (by decide) ?_
  refine z_iadd C 1 (by decide) dL_law_884 ?_
  refine j_sld C hX hbl hbA 1 rfl (by decide) (by decide) dL_law_885 ?_
  refine j_callVi C (d := 4) (As := [.int (xs 1)]) (st := [.int r1]) 98 (by decide) rfl (by decide) rfl (om_likely hp1.2 (xs 1)) tL_likely_m rfl hdLX12_likely (by decide) (Nat.le_of_ble_eq_true rfl) dL_law_886 rfl (fun r2 M2 hp2 => ?_)
  refine j_icmp_eq_t C 1473 dL_law_889 (by decide) (hp1.1.trans hp2.symm) ?_
  exact hfin M2
set_option maxHeartbeats 2000000 in
set_option maxRecDepth 100000 in
theorem lw_op26 {p : Program} {l : Launch} {e : Env} {s : State} {m : MethodId} {below : List Frame} {meth : Method} {c : Code} {b : Nat} {xs : Nat → Int32} {Q : State → Prop} {dC : Nat → ClassId} {dI : Nat → Nat → Nat} {ad : Nat → Nat} {cA : Nat → ClassId} {A : Nat → Prop} (Cb : jj_C p room_1 s m #[Value.ref b] c 118 20643 code 4 RL [] dC dI ad cA A) (hts : ∀ w ∈ lw_tbl, w.before #[Value.ref b] s = true) (hX : va_X b 6 xs s s.heap) (hbl : b < s.heap.size) (hbA : ¬ A b) (hfin : ∀ M : mm_M, jj p l e room_1 s m #[Value.ref b] below meth c 118 20643 Q 4 dC dI ad cA A M 1473 [(3, .int 0), (2, .ref (ad 98)), (1, .ref (ad 0)), (0, .ref b)] []) : jj p l e room_1 s m #[Value.ref b] below meth c 118 20643 Q 4 dC dI ad cA A M0 894 [(3, .int 0), (2, .ref (ad 98)), (1, .ref (ad 0)), (0, .ref b)] [] := by
  have C : jj_C p room_1 s m #[Value.ref b] c 118 20643 code 4 RL tL_shutsBy dC dI ad cA A := ⟨⟨Cb.1.1, Cb.1.2.1, Cb.1.2.2.1, Cb.1.2.2.2.1, fun w h => hts w (tL_shutsBy_in w h)⟩, Cb.2⟩
  refine j_aload_n C 2 1 dL_law_894 rfl rfl ?_
  refine j_aload_n C 3 0 dL_law_895 rfl rfl ?_
  refine j_iload_n C 0 3 dL_law_896 rfl rfl ?_
  refine j_iconst C 1 dL_law_897 (by decide) ?_
  refine z_iadd C 1 (by decide) dL_law_898 ?_
  refine j_sld C hX hbl hbA 1 rfl (by decide) (by decide) dL_law_899 ?_
  refine j_aload_n C 3 0 dL_law_900 rfl rfl ?_
  refine j_iload_n C 0 3 dL_law_901 rfl rfl ?_
  refine j_iconst C 2 dL_law_902 (by decide) ?_
  refine z_iadd C 2 (by decide) dL_law_903 ?_
  refine j_sld C hX hbl hbA 2 rfl (by decide) (by decide) dL_law_904 ?_
  refine j_aload_n C 3 0 dL_law_905 rfl rfl ?_
  refine j_iload_n C 0 3 dL_law_906 rfl rfl ?_
  refine j_iconst C 3 dL_law_907 (by decide) ?_
  refine z_iadd C 3 (by decide) dL_law_908 ?_
  refine j_sld C hX hbl hbA 3 rfl (by decide) (by decide) dL_law_909 ?_
  refine j_callVj C (d := 1) (As := [.int (xs 1), .int (xs 2), .int (xs 3)]) (st := []) 0 (by decide) rfl (by decide) rfl (ox_shutsBy (xs 1) (xs 2) (xs 3)) tL_shutsBy_x rfl hdLX11_shutsBy (by decide) (Nat.le_of_ble_eq_true rfl) dL_law_910 rfl (fun r1 M1 hp1 => ?_)
  refine j_aload_n C 1 2 dL_law_913 rfl rfl ?_
  refine j_aload_n C 3 0 dL_law_914 rfl rfl ?_
  refine j_iload_n C 0 3 dL_law_915 rfl rfl ?_
  refine j_iconst C 1 dL_law_916 (by decide) ?_
  refine z_iadd C 1 (by decide) dL_law_917 ?_
  refine j_sld C hX hbl hbA 1 rfl (by decide) (by decide) dL_law_918 ?_
  refine j_aload_n C 3 0 dL_law_919 rfl rfl ?_
  refine j_iload_n C 0 3 dL_law_920 rfl rfl ?_
  refine j_iconst C 2 dL_law_921 (by decide) ?_
  refine z_iadd C 2 (by decide) dL_law_922 ?_
  refine j_sld C hX hbl hbA 2 rfl (by decide) (by decide) dL_law_923 ?_
  refine j_aload_n C 3 0 dL_law_924 rfl rfl ?_
  refine j_iload_n C 0 3 dL_law_925 rfl rfl ?_
  refine j_iconst C 3 dL_law_926 (by decide) ?_
  refine z_iadd C 3 (by decide) dL_law_927 ?_
  refine j_sld C hX hbl hbA 3 rfl (by decide) (by decide) dL_law_928 ?_
  refine j_callVj C (d := 2) (As := [.int (xs 1), .int (xs 2), .int (xs 3)]) (st := [.long r1]) 98 (by decide) rfl (by decide) rfl (om_shutsBy hp1.2 (xs 1) (xs 2) (xs 3)) tL_shutsBy_m rfl hdLX12_shutsBy (by decide) (Nat.le_of_ble_eq_true rfl) dL_law_929 rfl (fun r2 M2 hp2 => ?_)
  refine j_lcmp C dL_law_932 ?_
  refine j_if_eq_t C 1473 dL_law_933 (by decide) ((z_cmp r1 r2).2.2.2.2.mpr (congrArg Int64.toInt (hp1.1.trans hp2.symm))) ?_
  exact hfin M2
set_option maxHeartbeats 2000000 in
set_option maxRecDepth 100000 in
theorem lw_op27 {p : Program} {l : Launch} {e : Env} {s : State} {m : MethodId} {below : List Frame} {meth : Method} {c : Code} {b : Nat} {xs : Nat → Int32} {Q : State → Prop} {dC : Nat → ClassId} {dI : Nat → Nat → Nat} {ad : Nat → Nat} {cA : Nat → ClassId} {A : Nat → Prop} (Cb : jj_C p room_1 s m #[Value.ref b] c 118 20643 code 4 RL [] dC dI ad cA A) (hts : ∀ w ∈ lw_tbl, w.before #[Value.ref b] s = true) (hX : va_X b 6 xs s s.heap) (hbl : b < s.heap.size) (hbA : ¬ A b) (hfin : ∀ M : mm_M, jj p l e room_1 s m #[Value.ref b] below meth c 118 20643 Q 4 dC dI ad cA A M 1473 [(3, .int 0), (2, .ref (ad 98)), (1, .ref (ad 0)), (0, .ref b)] []) : jj p l e room_1 s m #[Value.ref b] below meth c 118 20643 Q 4 dC dI ad cA A M0 938 [(3, .int 0), (2, .ref (ad 98)), (1, .ref (ad 0)), (0, .ref b)] [] := by
  have C : jj_C p room_1 s m #[Value.ref b] c 118 20643 code 4 RL tL_closer dC dI ad cA A := ⟨⟨Cb.1.1, Cb.1.2.1, Cb.1.2.2.1, Cb.1.2.2.2.1, fun w h => hts w (tL_closer_in w h)⟩, Cb.2⟩
  refine j_aload_n C 2 1 dL_law_938 rfl rfl ?_
  refine j_aload_n C 3 0 dL_law_939 rfl rfl ?_
  refine j_iload_n C 0 3 dL_law_940 rfl rfl ?_
  refine j_iconst C 1 dL_law_941 (by decide) ?_
  refine z_iadd C 1 (by decide) dL_law_942 ?_
  refine j_sld C hX hbl hbA 1 rfl (by decide) (by decide) dL_law_943 ?_
  refine j_callVi C (d := 3) (As := [.int (xs 1)]) (st := []) 0 (by decide) rfl (by decide) rfl (ox_closer (xs 1)) tL_closer_x rfl hdLX11_closer (by decide) (Nat.le_of_ble_eq_true rfl) dL_law_944 rfl (fun r1 M1 hp1 => ?_)
  refine j_aload_n C 1 2 dL_law_947 rfl rfl ?_
  refine j_aload_n C 3 0 dL_law_948 rfl rfl ?_
  refine j_iload_n C 0 3 dL_law_949 rfl rfl ?_
  refine j_iconst C 1 dL_law_950 (by decide) ?_
  refine z_iadd C 1 (by decide) dL_law_951 ?_
  refine j_sld C hX hbl hbA 1 rfl (by decide) (by decide) dL_law_952 ?_
  refine j_callVi C (d := 2) (As := [.int (xs 1)]) (st := [.int r1]) 98 (by decide) rfl (by decide) rfl (om_closer hp1.2 (xs 1)) tL_closer_m rfl hdLX12_closer (by decide) (Nat.le_of_ble_eq_true rfl) dL_law_953 rfl (fun r2 M2 hp2 => ?_)
  refine j_icmp_eq_t C 1473 dL_law_956 (by decide) (hp1.1.trans hp2.symm) ?_
  exact hfin M2
set_option maxHeartbeats 2000000 in
set_option maxRecDepth 100000 in
theorem lw_op28 {p : Program} {l : Launch} {e : Env} {s : State} {m : MethodId} {below : List Frame} {meth : Method} {c : Code} {b : Nat} {xs : Nat → Int32} {Q : State → Prop} {dC : Nat → ClassId} {dI : Nat → Nat → Nat} {ad : Nat → Nat} {cA : Nat → ClassId} {A : Nat → Prop} (Cb : jj_C p room_1 s m #[Value.ref b] c 118 20643 code 4 RL [] dC dI ad cA A) (hts : ∀ w ∈ lw_tbl, w.before #[Value.ref b] s = true) (hX : va_X b 6 xs s s.heap) (hbl : b < s.heap.size) (hbA : ¬ A b) (hfin : ∀ M : mm_M, jj p l e room_1 s m #[Value.ref b] below meth c 118 20643 Q 4 dC dI ad cA A M 1473 [(3, .int 0), (2, .ref (ad 98)), (1, .ref (ad 0)), (0, .ref b)] []) : jj p l e room_1 s m #[Value.ref b] below meth c 118 20643 Q 4 dC dI ad cA A M0 961 [(3, .int 0), (2, .ref (ad 98)), (1, .ref (ad 0)), (0, .ref b)] [] := by
  have C : jj_C p room_1 s m #[Value.ref b] c 118 20643 code 4 RL tL_soldIn dC dI ad cA A := ⟨⟨Cb.1.1, Cb.1.2.1, Cb.1.2.2.1, Cb.1.2.2.2.1, fun w h => hts w (tL_soldIn_in w h)⟩, Cb.2⟩
  refine j_aload_n C 2 1 dL_law_961 rfl rfl ?_
  refine j_aload_n C 3 0 dL_law_962 rfl rfl ?_
  refine j_iload_n C 0 3 dL_law_963 rfl rfl ?_
  refine j_iconst C 1 dL_law_964 (by decide) ?_
  refine z_iadd C 1 (by decide) dL_law_965 ?_
  refine j_sld C hX hbl hbA 1 rfl (by decide) (by decide) dL_law_966 ?_
  refine j_aload_n C 3 0 dL_law_967 rfl rfl ?_
  refine j_iload_n C 0 3 dL_law_968 rfl rfl ?_
  refine j_iconst C 2 dL_law_969 (by decide) ?_
  refine z_iadd C 2 (by decide) dL_law_970 ?_
  refine j_sld C hX hbl hbA 2 rfl (by decide) (by decide) dL_law_971 ?_
  refine j_aload_n C 3 0 dL_law_972 rfl rfl ?_
  refine j_iload_n C 0 3 dL_law_973 rfl rfl ?_
  refine j_iconst C 3 dL_law_974 (by decide) ?_
  refine z_iadd C 3 (by decide) dL_law_975 ?_
  refine j_sld C hX hbl hbA 3 rfl (by decide) (by decide) dL_law_976 ?_
  refine j_callVj C (d := 1) (As := [.int (xs 1), .int (xs 2), .int (xs 3)]) (st := []) 0 (by decide) rfl (by decide) rfl (ox_soldIn (xs 1) (xs 2) (xs 3)) tL_soldIn_x rfl hdLX11_soldIn (by decide) (Nat.le_of_ble_eq_true rfl) dL_law_977 rfl (fun r1 M1 hp1 => ?_)
  refine j_aload_n C 1 2 dL_law_980 rfl rfl ?_
  refine j_aload_n C 3 0 dL_law_981 rfl rfl ?_
  refine j_iload_n C 0 3 dL_law_982 rfl rfl ?_
  refine j_iconst C 1 dL_law_983 (by decide) ?_
  refine z_iadd C 1 (by decide) dL_law_984 ?_
  refine j_sld C hX hbl hbA 1 rfl (by decide) (by decide) dL_law_985 ?_
  refine j_aload_n C 3 0 dL_law_986 rfl rfl ?_
  refine j_iload_n C 0 3 dL_law_987 rfl rfl ?_
  refine j_iconst C 2 dL_law_988 (by decide) ?_
  refine z_iadd C 2 (by decide) dL_law_989 ?_
  refine j_sld C hX hbl hbA 2 rfl (by decide) (by decide) dL_law_990 ?_
  refine j_aload_n C 3 0 dL_law_991 rfl rfl ?_
  refine j_iload_n C 0 3 dL_law_992 rfl rfl ?_
  refine j_iconst C 3 dL_law_993 (by decide) ?_
  refine z_iadd C 3 (by decide) dL_law_994 ?_
  refine j_sld C hX hbl hbA 3 rfl (by decide) (by decide) dL_law_995 ?_
  refine j_callVj C (d := 2) (As := [.int (xs 1), .int (xs 2), .int (xs 3)]) (st := [.long r1]) 98 (by decide) rfl (by decide) rfl (om_soldIn hp1.2 (xs 1) (xs 2) (xs 3)) tL_soldIn_m rfl hdLX12_soldIn (by decide) (Nat.le_of_ble_eq_true rfl) dL_law_996 rfl (fun r2 M2 hp2 => ?_)
  refine j_lcmp C dL_law_999 ?_
  refine j_if_eq_t C 1473 dL_law_1000 (by decide) ((z_cmp r1 r2).2.2.2.2.mpr (congrArg Int64.toInt (hp1.1.trans hp2.symm))) ?_
  exact hfin M2
set_option maxHeartbeats 2000000 in
set_option maxRecDepth 100000 in
theorem lw_op29 {p : Program} {l : Launch} {e : Env} {s : State} {m : MethodId} {below : List Frame} {meth : Method} {c : Code} {b : Nat} {xs : Nat → Int32} {Q : State → Prop} {dC : Nat → ClassId} {dI : Nat → Nat → Nat} {ad : Nat → Nat} {cA : Nat → ClassId} {A : Nat → Prop} (Cb : jj_C p room_1 s m #[Value.ref b] c 118 20643 code 4 RL [] dC dI ad cA A) (hts : ∀ w ∈ lw_tbl, w.before #[Value.ref b] s = true) (hX : va_X b 6 xs s s.heap) (hbl : b < s.heap.size) (hbA : ¬ A b) (hfin : ∀ M : mm_M, jj p l e room_1 s m #[Value.ref b] below meth c 118 20643 Q 4 dC dI ad cA A M 1473 [(3, .int 0), (2, .ref (ad 98)), (1, .ref (ad 0)), (0, .ref b)] []) : jj p l e room_1 s m #[Value.ref b] below meth c 118 20643 Q 4 dC dI ad cA A M0 1005 [(3, .int 0), (2, .ref (ad 98)), (1, .ref (ad 0)), (0, .ref b)] [] := by
  have C : jj_C p room_1 s m #[Value.ref b] c 118 20643 code 4 RL tL_hides dC dI ad cA A := ⟨⟨Cb.1.1, Cb.1.2.1, Cb.1.2.2.1, Cb.1.2.2.2.1, fun w h => hts w (tL_hides_in w h)⟩, Cb.2⟩
  refine j_aload_n C 2 1 dL_law_1005 rfl rfl ?_
  refine j_aload_n C 3 0 dL_law_1006 rfl rfl ?_
  refine j_iload_n C 0 3 dL_law_1007 rfl rfl ?_
  refine j_iconst C 1 dL_law_1008 (by decide) ?_
  refine z_iadd C 1 (by decide) dL_law_1009 ?_
  refine j_sld C hX hbl hbA 1 rfl (by decide) (by decide) dL_law_1010 ?_
  refine j_aload_n C 3 0 dL_law_1011 rfl rfl ?_
  refine j_iload_n C 0 3 dL_law_1012 rfl rfl ?_
  refine j_iconst C 2 dL_law_1013 (by decide) ?_
  refine z_iadd C 2 (by decide) dL_law_1014 ?_
  refine j_sld C hX hbl hbA 2 rfl (by decide) (by decide) dL_law_1015 ?_
  refine j_aload_n C 3 0 dL_law_1016 rfl rfl ?_
  refine j_iload_n C 0 3 dL_law_1017 rfl rfl ?_
  refine j_iconst C 3 dL_law_1018 (by decide) ?_
  refine z_iadd C 3 (by decide) dL_law_1019 ?_
  refine j_sld C hX hbl hbA 3 rfl (by decide) (by decide) dL_law_1020 ?_
  refine j_callVi C (d := 2) (As := [.int (xs 1), .int (xs 2), .int (xs 3)]) (st := []) 0 (by decide) rfl (by decide) rfl (ox_hides (xs 1) (xs 2) (xs 3)) tL_hides_x rfl hdLX11_hides (by decide) (Nat.le_of_ble_eq_true rfl) dL_law_1021 rfl (fun r1 M1 hp1 => ?_)
  refine j_aload_n C 1 2 dL_law_1024 rfl rfl ?_
  refine j_aload_n C 3 0 dL_law_1025 rfl rfl ?_
  refine j_iload_n C 0 3 dL_law_1026 rfl rfl ?_
  refine j_iconst C 1 dL_law_1027 (by decide) ?_
  refine z_iadd C 1 (by decide) dL_law_1028 ?_
  refine j_sld C hX hbl hbA 1 rfl (by decide) (by decide) dL_law_1029 ?_
  refine j_aload_n C 3 0 dL_law_1030 rfl rfl ?_
  refine j_iload_n C 0 3 dL_law_1031 rfl rfl ?_
  refine j_iconst C 2 dL_law_1032 (by decide) ?_
  refine z_iadd C 2 (by decide) dL_law_1033 ?_
  refine j_sld C hX hbl hbA 2 rfl (by decide) (by decide) dL_law_1034 ?_
  refine j_aload_n C 3 0 dL_law_1035 rfl rfl ?_
  refine j_iload_n C 0 3 dL_law_1036 rfl rfl ?_
  refine j_iconst C 3 dL_law_1037 (by decide) ?_
  refine z_iadd C 3 (by decide) dL_law_1038 ?_
  refine j_sld C hX hbl hbA 3 rfl (by decide) (by decide) dL_law_1039 ?_
  refine j_callVi C (d := 4) (As := [.int (xs 1), .int (xs 2), .int (xs 3)]) (st := [.int r1]) 98 (by decide) rfl (by decide) rfl (om_hides hp1.2 (xs 1) (xs 2) (xs 3)) tL_hides_m rfl hdLX12_hides (by decide) (Nat.le_of_ble_eq_true rfl) dL_law_1040 rfl (fun r2 M2 hp2 => ?_)
  refine j_icmp_eq_t C 1473 dL_law_1043 (by decide) (hp1.1.trans hp2.symm) ?_
  exact hfin M2
set_option maxHeartbeats 2000000 in
set_option maxRecDepth 100000 in
theorem lw_op30 {p : Program} {l : Launch} {e : Env} {s : State} {m : MethodId} {below : List Frame} {meth : Method} {c : Code} {b : Nat} {xs : Nat → Int32} {Q : State → Prop} {dC : Nat → ClassId} {dI : Nat → Nat → Nat} {ad : Nat → Nat} {cA : Nat → ClassId} {A : Nat → Prop} (Cb : jj_C p room_1 s m #[Value.ref b] c 118 20643 code 4 RL [] dC dI ad cA A) (hts : ∀ w ∈ lw_tbl, w.before #[Value.ref b] s = true) (hX : va_X b 6 xs s s.heap) (hbl : b < s.heap.size) (hbA : ¬ A b) (hfin : ∀ M : mm_M, jj p l e room_1 s m #[Value.ref b] below meth c 118 20643 Q 4 dC dI ad cA A M 1473 [(3, .int 0), (2, .ref (ad 98)), (1, .ref (ad 0)), (0, .ref b)] []) : jj p l e room_1 s m #[Value.ref b] below meth c 118 20643 Q 4 dC dI ad cA A M0 1048 [(3, .int 0), (2, .ref (ad 98)), (1, .ref (ad 0)), (0, .ref b)] [] := by
  have C : jj_C p room_1 s m #[Value.ref b] c 118 20643 code 4 RL tL_rota dC dI ad cA A := ⟨⟨Cb.1.1, Cb.1.2.1, Cb.1.2.2.1, Cb.1.2.2.2.1, fun w h => hts w (tL_rota_in w h)⟩, Cb.2⟩
  refine j_aload_n C 2 1 dL_law_1048 rfl rfl ?_
  refine j_aload_n C 3 0 dL_law_1049 rfl rfl ?_
  refine j_iload_n C 0 3 dL_law_1050 rfl rfl ?_
  refine j_iconst C 1 dL_law_1051 (by decide) ?_
  refine z_iadd C 1 (by decide) dL_law_1052 ?_
  refine j_sld C hX hbl hbA 1 rfl (by decide) (by decide) dL_law_1053 ?_
  refine j_callVi C (d := 2) (As := [.int (xs 1)]) (st := []) 0 (by decide) rfl (by decide) rfl (ox_rota (xs 1)) tL_rota_x rfl hdLX11_rota (by decide) (Nat.le_of_ble_eq_true rfl) dL_law_1054 rfl (fun r1 M1 hp1 => ?_)
  refine j_aload_n C 1 2 dL_law_1057 rfl rfl ?_
  refine j_aload_n C 3 0 dL_law_1058 rfl rfl ?_
  refine j_iload_n C 0 3 dL_law_1059 rfl rfl ?_
  refine j_iconst C 1 dL_law_1060 (by decide) ?_
  refine z_iadd C 1 (by decide) dL_law_1061 ?_
  refine j_sld C hX hbl hbA 1 rfl (by decide) (by decide) dL_law_1062 ?_
  refine j_callVi C (d := 4) (As := [.int (xs 1)]) (st := [.int r1]) 98 (by decide) rfl (by decide) rfl (om_rota hp1.2 (xs 1)) tL_rota_m rfl hdLX12_rota (by decide) (Nat.le_of_ble_eq_true rfl) dL_law_1063 rfl (fun r2 M2 hp2 => ?_)
  refine j_icmp_eq_t C 1473 dL_law_1066 (by decide) (hp1.1.trans hp2.symm) ?_
  exact hfin M2
set_option maxHeartbeats 2000000 in
set_option maxRecDepth 100000 in
theorem lw_op31 {p : Program} {l : Launch} {e : Env} {s : State} {m : MethodId} {below : List Frame} {meth : Method} {c : Code} {b : Nat} {xs : Nat → Int32} {Q : State → Prop} {dC : Nat → ClassId} {dI : Nat → Nat → Nat} {ad : Nat → Nat} {cA : Nat → ClassId} {A : Nat → Prop} (Cb : jj_C p room_1 s m #[Value.ref b] c 118 20643 code 4 RL [] dC dI ad cA A) (hts : ∀ w ∈ lw_tbl, w.before #[Value.ref b] s = true) (hX : va_X b 6 xs s s.heap) (hbl : b < s.heap.size) (hbA : ¬ A b) (hfin : ∀ M : mm_M, jj p l e room_1 s m #[Value.ref b] below meth c 118 20643 Q 4 dC dI ad cA A M 1473 [(3, .int 0), (2, .ref (ad 98)), (1, .ref (ad 0)), (0, .ref b)] []) : jj p l e room_1 s m #[Value.ref b] below meth c 118 20643 Q 4 dC dI ad cA A M0 1071 [(3, .int 0), (2, .ref (ad 98)), (1, .ref (ad 0)), (0, .ref b)] [] := by
  have C : jj_C p room_1 s m #[Value.ref b] c 118 20643 code 4 RL tL_earns dC dI ad cA A := ⟨⟨Cb.1.1, Cb.1.2.1, Cb.1.2.2.1, Cb.1.2.2.2.1, fun w h => hts w (tL_earns_in w h)⟩, Cb.2⟩
  refine j_aload_n C 2 1 dL_law_1071 rfl rfl ?_
  refine j_aload_n C 3 0 dL_law_1072 rfl rfl ?_
  refine j_iload_n C 0 3 dL_law_1073 rfl rfl ?_
  refine j_iconst C 1 dL_law_1074 (by decide) ?_
  refine z_iadd C 1 (by decide) dL_law_1075 ?_
  refine j_sld C hX hbl hbA 1 rfl (by decide) (by decide) dL_law_1076 ?_
  refine j_aload_n C 3 0 dL_law_1077 rfl rfl ?_
  refine j_iload_n C 0 3 dL_law_1078 rfl rfl ?_
  refine j_iconst C 2 dL_law_1079 (by decide) ?_
  refine z_iadd C 2 (by decide) dL_law_1080 ?_
  refine j_sld C hX hbl hbA 2 rfl (by decide) (by decide) dL_law_1081 ?_
  refine j_callVj C (d := 3) (As := [.int (xs 1), .int (xs 2)]) (st := []) 0 (by decide) rfl (by decide) rfl (ox_earns (xs 1) (xs 2)) tL_earns_x rfl hdLX11_earns (by decide) (Nat.le_of_ble_eq_true rfl) dL_law_1082 rfl (fun r1 M1 hp1 => ?_)
  refine j_aload_n C 1 2 dL_law_1085 rfl rfl ?_
  refine j_aload_n C 3 0 dL_law_1086 rfl rfl ?_
  refine j_iload_n C 0 3 dL_law_1087 rfl rfl ?_
  refine j_iconst C 1 dL_law_1088 (by decide) ?_
  refine z_iadd C 1 (by decide) dL_law_1089 ?_
  refine j_sld C hX hbl hbA 1 rfl (by decide) (by decide) dL_law_1090 ?_
  refine j_aload_n C 3 0 dL_law_1091 rfl rfl ?_
  refine j_iload_n C 0 3 dL_law_1092 rfl rfl ?_
  refine j_iconst C 2 dL_law_1093 (by decide) ?_
  refine z_iadd C 2 (by decide) dL_law_1094 ?_
  refine j_sld C hX hbl hbA 2 rfl (by decide) (by decide) dL_law_1095 ?_
  refine j_callVj C (d := 3) (As := [.int (xs 1), .int (xs 2)]) (st := [.long r1]) 98 (by decide) rfl (by decide) rfl (om_earns hp1.2 (xs 1) (xs 2)) tL_earns_m rfl hdLX12_earns (by decide) (Nat.le_of_ble_eq_true rfl) dL_law_1096 rfl (fun r2 M2 hp2 => ?_)
  refine j_lcmp C dL_law_1099 ?_
  refine j_if_eq_t C 1473 dL_law_1100 (by decide) ((z_cmp r1 r2).2.2.2.2.mpr (congrArg Int64.toInt (hp1.1.trans hp2.symm))) ?_
  exact hfin M2
set_option maxHeartbeats 2000000 in
set_option maxRecDepth 100000 in
theorem lw_op32 {p : Program} {l : Launch} {e : Env} {s : State} {m : MethodId} {below : List Frame} {meth : Method} {c : Code} {b : Nat} {xs : Nat → Int32} {Q : State → Prop} {dC : Nat → ClassId} {dI : Nat → Nat → Nat} {ad : Nat → Nat} {cA : Nat → ClassId} {A : Nat → Prop} (Cb : jj_C p room_1 s m #[Value.ref b] c 118 20643 code 4 RL [] dC dI ad cA A) (hts : ∀ w ∈ lw_tbl, w.before #[Value.ref b] s = true) (hX : va_X b 6 xs s s.heap) (hbl : b < s.heap.size) (hbA : ¬ A b) (hfin : ∀ M : mm_M, jj p l e room_1 s m #[Value.ref b] below meth c 118 20643 Q 4 dC dI ad cA A M 1473 [(3, .int 0), (2, .ref (ad 98)), (1, .ref (ad 0)), (0, .ref b)] []) : jj p l e room_1 s m #[Value.ref b] below meth c 118 20643 Q 4 dC dI ad cA A M0 1105 [(3, .int 0), (2, .ref (ad 98)), (1, .ref (ad 0)), (0, .ref b)] [] := by
  have C : jj_C p room_1 s m #[Value.ref b] c 118 20643 code 4 RL tL_bestPrice dC dI ad cA A := ⟨⟨Cb.1.1, Cb.1.2.1, Cb.1.2.2.1, Cb.1.2.2.2.1, fun w h => hts w (tL_bestPrice_in w h)⟩, Cb.2⟩
  refine j_aload_n C 2 1 dL_law_1105 rfl rfl ?_
  refine j_aload_n C 3 0 dL_law_1106 rfl rfl ?_
  refine j_iload_n C 0 3 dL_law_1107 rfl rfl ?_
  refine j_iconst C 1 dL_law_1108 (by decide) ?_
  refine z_iadd C 1 (by decide) dL_law_1109 ?_
  refine j_sld C hX hbl hbA 1 rfl (by decide) (by decide) dL_law_1110 ?_
  refine j_aload_n C 3 0 dL_law_1111 rfl rfl ?_
  refine j_iload_n C 0 3 dL_law_1112 rfl rfl ?_
  refine j_iconst C 2 dL_law_1113 (by decide) ?_
  refine z_iadd C 2 (by decide) dL_law_1114 ?_
  refine j_sld C hX hbl hbA 2 rfl (by decide) (by decide) dL_law_1115 ?_
  refine j_callVi C (d := 1) (As := [.int (xs 1), .int (xs 2)]) (st := []) 0 (by decide) rfl (by decide) rfl (ox_bestPrice (xs 1) (xs 2)) tL_bestPrice_x rfl hdLX11_bestPrice (by decide) (Nat.le_of_ble_eq_true rfl) dL_law_1116 rfl (fun r1 M1 hp1 => ?_)
  refine j_aload_n C 1 2 dL_law_1119 rfl rfl ?_
  refine j_aload_n C 3 0 dL_law_1120 rfl rfl ?_
  refine j_iload_n C 0 3 dL_law_1121 rfl rfl ?_
  refine j_iconst C 1 dL_law_1122 (by decide) ?_
  refine z_iadd C 1 (by decide) dL_law_1123 ?_
  refine j_sld C hX hbl hbA 1 rfl (by decide) (by decide) dL_law_1124 ?_
  refine j_aload_n C 3 0 dL_law_1125 rfl rfl ?_
  refine j_iload_n C 0 3 dL_law_1126 rfl rfl ?_
  refine j_iconst C 2 dL_law_1127 (by decide) ?_
  refine z_iadd C 2 (by decide) dL_law_1128 ?_
  refine j_sld C hX hbl hbA 2 rfl (by decide) (by decide) dL_law_1129 ?_
  refine j_callVi C (d := 2) (As := [.int (xs 1), .int (xs 2)]) (st := [.int r1]) 98 (by decide) rfl (by decide) rfl (om_bestPrice hp1.2 (xs 1) (xs 2)) tL_bestPrice_m rfl hdLX12_bestPrice (by decide) (Nat.le_of_ble_eq_true rfl) dL_law_1130 rfl (fun r2 M2 hp2 => ?_)
  refine j_icmp_eq_t C 1473 dL_law_1133 (by decide) (hp1.1.trans hp2.symm) ?_
  exact hfin M2
set_option maxHeartbeats 2000000 in
set_option maxRecDepth 100000 in
theorem lw_op33 {p : Program} {l : Launch} {e : Env} {s : State} {m : MethodId} {below : List Frame} {meth : Method} {c : Code} {b : Nat} {xs : Nat → Int32} {Q : State → Prop} {dC : Nat → ClassId} {dI : Nat → Nat → Nat} {ad : Nat → Nat} {cA : Nat → ClassId} {A : Nat → Prop} (Cb : jj_C p room_1 s m #[Value.ref b] c 118 20643 code 4 RL [] dC dI ad cA A) (hts : ∀ w ∈ lw_tbl, w.before #[Value.ref b] s = true) (hX : va_X b 6 xs s s.heap) (hbl : b < s.heap.size) (hbA : ¬ A b) (hfin : ∀ M : mm_M, jj p l e room_1 s m #[Value.ref b] below meth c 118 20643 Q 4 dC dI ad cA A M 1473 [(3, .int 0), (2, .ref (ad 98)), (1, .ref (ad 0)), (0, .ref b)] []) : jj p l e room_1 s m #[Value.ref b] below meth c 118 20643 Q 4 dC dI ad cA A M0 1138 [(3, .int 0), (2, .ref (ad 98)), (1, .ref (ad 0)), (0, .ref b)] [] := by
  have C : jj_C p room_1 s m #[Value.ref b] c 118 20643 code 4 RL tL_seen dC dI ad cA A := ⟨⟨Cb.1.1, Cb.1.2.1, Cb.1.2.2.1, Cb.1.2.2.2.1, fun w h => hts w (tL_seen_in w h)⟩, Cb.2⟩
  refine j_aload_n C 2 1 dL_law_1138 rfl rfl ?_
  refine j_aload_n C 3 0 dL_law_1139 rfl rfl ?_
  refine j_iload_n C 0 3 dL_law_1140 rfl rfl ?_
  refine j_iconst C 1 dL_law_1141 (by decide) ?_
  refine z_iadd C 1 (by decide) dL_law_1142 ?_
  refine j_sld C hX hbl hbA 1 rfl (by decide) (by decide) dL_law_1143 ?_
  refine j_callVi C (d := 3) (As := [.int (xs 1)]) (st := []) 0 (by decide) rfl (by decide) rfl (ox_seen (xs 1)) tL_seen_x rfl hdLX11_seen (by decide) (Nat.le_of_ble_eq_true rfl) dL_law_1144 rfl (fun r1 M1 hp1 => ?_)
  refine j_aload_n C 1 2 dL_law_1147 rfl rfl ?_
  refine j_aload_n C 3 0 dL_law_1148 rfl rfl ?_
  refine j_iload_n C 0 3 dL_law_1149 rfl rfl ?_
  refine j_iconst C 1 dL_law_1150 (by decide) ?_
  refine z_iadd C 1 (by decide) dL_law_1151 ?_
  refine j_sld C hX hbl hbA 1 rfl (by decide) (by decide) dL_law_1152 ?_
  refine j_callVi C (d := 3) (As := [.int (xs 1)]) (st := [.int r1]) 98 (by decide) rfl (by decide) rfl (om_seen hp1.2 (xs 1)) tL_seen_m rfl hdLX12_seen (by decide) (Nat.le_of_ble_eq_true rfl) dL_law_1153 rfl (fun r2 M2 hp2 => ?_)
  refine j_icmp_eq_t C 1473 dL_law_1156 (by decide) (hp1.1.trans hp2.symm) ?_
  exact hfin M2
set_option maxHeartbeats 2000000 in
set_option maxRecDepth 100000 in
theorem lw_op34 {p : Program} {l : Launch} {e : Env} {s : State} {m : MethodId} {below : List Frame} {meth : Method} {c : Code} {b : Nat} {xs : Nat → Int32} {Q : State → Prop} {dC : Nat → ClassId} {dI : Nat → Nat → Nat} {ad : Nat → Nat} {cA : Nat → ClassId} {A : Nat → Prop} (Cb : jj_C p room_1 s m #[Value.ref b] c 118 20643 code 4 RL [] dC dI ad cA A) (hts : ∀ w ∈ lw_tbl, w.before #[Value.ref b] s = true) (hX : va_X b 6 xs s s.heap) (hbl : b < s.heap.size) (hbA : ¬ A b) (hfin : ∀ M : mm_M, jj p l e room_1 s m #[Value.ref b] below meth c 118 20643 Q 4 dC dI ad cA A M 1473 [(3, .int 0), (2, .ref (ad 98)), (1, .ref (ad 0)), (0, .ref b)] []) : jj p l e room_1 s m #[Value.ref b] below meth c 118 20643 Q 4 dC dI ad cA A M0 1161 [(3, .int 0), (2, .ref (ad 98)), (1, .ref (ad 0)), (0, .ref b)] [] := by
  have C : jj_C p room_1 s m #[Value.ref b] c 118 20643 code 4 RL tL_sureGone dC dI ad cA A := ⟨⟨Cb.1.1, Cb.1.2.1, Cb.1.2.2.1, Cb.1.2.2.2.1, fun w h => hts w (tL_sureGone_in w h)⟩, Cb.2⟩
  refine j_aload_n C 2 1 dL_law_1161 rfl rfl ?_
  refine j_aload_n C 3 0 dL_law_1162 rfl rfl ?_
  refine j_iload_n C 0 3 dL_law_1163 rfl rfl ?_
  refine j_iconst C 1 dL_law_1164 (by decide) ?_
  refine z_iadd C 1 (by decide) dL_law_1165 ?_
  refine j_sld C hX hbl hbA 1 rfl (by decide) (by decide) dL_law_1166 ?_
  refine j_callVi C (d := 3) (As := [.int (xs 1)]) (st := []) 0 (by decide) rfl (by decide) rfl (ox_sureGone (xs 1)) tL_sureGone_x rfl hdLX11_sureGone (by decide) (Nat.le_of_ble_eq_true rfl) dL_law_1167 rfl (fun r1 M1 hp1 => ?_)
  refine j_aload_n C 1 2 dL_law_1170 rfl rfl ?_
  refine j_aload_n C 3 0 dL_law_1171 rfl rfl ?_
  refine j_iload_n C 0 3 dL_law_1172 rfl rfl ?_
  refine j_iconst C 1 dL_law_1173 (by decide) ?_
  refine z_iadd C 1 (by decide) dL_law_1174 ?_
  refine j_sld C hX hbl hbA 1 rfl (by decide) (by decide) dL_law_1175 ?_
  refine j_callVi C (d := 3) (As := [.int (xs 1)]) (st := [.int r1]) 98 (by decide) rfl (by decide) rfl (om_sureGone hp1.2 (xs 1)) tL_sureGone_m rfl hdLX12_sureGone (by decide) (Nat.le_of_ble_eq_true rfl) dL_law_1176 rfl (fun r2 M2 hp2 => ?_)
  refine j_icmp_eq_t C 1473 dL_law_1179 (by decide) (hp1.1.trans hp2.symm) ?_
  exact hfin M2
set_option maxHeartbeats 2000000 in
set_option maxRecDepth 100000 in
theorem lw_op35 {p : Program} {l : Launch} {e : Env} {s : State} {m : MethodId} {below : List Frame} {meth : Method} {c : Code} {b : Nat} {xs : Nat → Int32} {Q : State → Prop} {dC : Nat → ClassId} {dI : Nat → Nat → Nat} {ad : Nat → Nat} {cA : Nat → ClassId} {A : Nat → Prop} (Cb : jj_C p room_1 s m #[Value.ref b] c 118 20643 code 4 RL [] dC dI ad cA A) (hts : ∀ w ∈ lw_tbl, w.before #[Value.ref b] s = true) (hX : va_X b 6 xs s s.heap) (hbl : b < s.heap.size) (hbA : ¬ A b) (hfin : ∀ M : mm_M, jj p l e room_1 s m #[Value.ref b] below meth c 118 20643 Q 4 dC dI ad cA A M 1473 [(3, .int 0), (2, .ref (ad 98)), (1, .ref (ad 0)), (0, .ref b)] []) : jj p l e room_1 s m #[Value.ref b] below meth c 118 20643 Q 4 dC dI ad cA A M0 1184 [(3, .int 0), (2, .ref (ad 98)), (1, .ref (ad 0)), (0, .ref b)] [] := by
  have C : jj_C p room_1 s m #[Value.ref b] c 118 20643 code 4 RL tL_ask dC dI ad cA A := ⟨⟨Cb.1.1, Cb.1.2.1, Cb.1.2.2.1, Cb.1.2.2.2.1, fun w h => hts w (tL_ask_in w h)⟩, Cb.2⟩
  refine j_aload_n C 2 1 dL_law_1184 rfl rfl ?_
  refine j_aload_n C 3 0 dL_law_1185 rfl rfl ?_
  refine j_iload_n C 0 3 dL_law_1186 rfl rfl ?_
  refine j_iconst C 1 dL_law_1187 (by decide) ?_
  refine z_iadd C 1 (by decide) dL_law_1188 ?_
  refine j_sld C hX hbl hbA 1 rfl (by decide) (by decide) dL_law_1189 ?_
  refine j_callVi C (d := 3) (As := [.int (xs 1)]) (st := []) 0 (by decide) rfl (by decide) rfl (ox_ask (xs 1)) tL_ask_x rfl hdLX11_ask (by decide) (Nat.le_of_ble_eq_true rfl) dL_law_1190 rfl (fun r1 M1 hp1 => ?_)
  refine j_aload_n C 1 2 dL_law_1193 rfl rfl ?_
  refine j_aload_n C 3 0 dL_law_1194 rfl rfl ?_
  refine j_iload_n C 0 3 dL_law_1195 rfl rfl ?_
  refine j_iconst C 1 dL_law_1196 (by decide) ?_
  refine z_iadd C 1 (by decide) dL_law_1197 ?_
  refine j_sld C hX hbl hbA 1 rfl (by decide) (by decide) dL_law_1198 ?_
  refine j_callVi C (d := 3) (As := [.int (xs 1)]) (st := [.int r1]) 98 (by decide) rfl (by decide) rfl (om_ask hp1.2 (xs 1)) tL_ask_m rfl hdLX12_ask (by decide) (Nat.le_of_ble_eq_true rfl) dL_law_1199 rfl (fun r2 M2 hp2 => ?_)
  refine j_icmp_eq_t C 1473 dL_law_1202 (by decide) (hp1.1.trans hp2.symm) ?_
  exact hfin M2
set_option maxHeartbeats 2000000 in
set_option maxRecDepth 100000 in
theorem lw_op36 {p : Program} {l : Launch} {e : Env} {s : State} {m : MethodId} {below : List Frame} {meth : Method} {c : Code} {b : Nat} {xs : Nat → Int32} {Q : State → Prop} {dC : Nat → ClassId} {dI : Nat → Nat → Nat} {ad : Nat → Nat} {cA : Nat → ClassId} {A : Nat → Prop} (Cb : jj_C p room_1 s m #[Value.ref b] c 118 20643 code 4 RL [] dC dI ad cA A) (hts : ∀ w ∈ lw_tbl, w.before #[Value.ref b] s = true) (hX : va_X b 6 xs s s.heap) (hbl : b < s.heap.size) (hbA : ¬ A b) (hfin : ∀ M : mm_M, jj p l e room_1 s m #[Value.ref b] below meth c 118 20643 Q 4 dC dI ad cA A M 1473 [(3, .int 0), (2, .ref (ad 98)), (1, .ref (ad 0)), (0, .ref b)] []) : jj p l e room_1 s m #[Value.ref b] below meth c 118 20643 Q 4 dC dI ad cA A M0 1207 [(3, .int 0), (2, .ref (ad 98)), (1, .ref (ad 0)), (0, .ref b)] [] := by
  have C : jj_C p room_1 s m #[Value.ref b] c 118 20643 code 4 RL tL_came dC dI ad cA A := ⟨⟨Cb.1.1, Cb.1.2.1, Cb.1.2.2.1, Cb.1.2.2.2.1, fun w h => hts w (tL_came_in w h)⟩, Cb.2⟩
  refine j_aload_n C 2 1 dL_law_1207 rfl rfl ?_
  refine j_aload_n C 3 0 dL_law_1208 rfl rfl ?_
  refine j_iload_n C 0 3 dL_law_1209 rfl rfl ?_
  refine j_iconst C 1 dL_law_1210 (by decide) ?_
  refine z_iadd C 1 (by decide) dL_law_1211 ?_
  refine j_sld C hX hbl hbA 1 rfl (by decide) (by decide) dL_law_1212 ?_
  refine j_callVj C (d := 3) (As := [.int (xs 1)]) (st := []) 0 (by decide) rfl (by decide) rfl (ox_came (xs 1)) tL_came_x rfl hdLX11_came (by decide) (Nat.le_of_ble_eq_true rfl) dL_law_1213 rfl (fun r1 M1 hp1 => ?_)
  refine j_aload_n C 1 2 dL_law_1216 rfl rfl ?_
  refine j_aload_n C 3 0 dL_law_1217 rfl rfl ?_
  refine j_iload_n C 0 3 dL_law_1218 rfl rfl ?_
  refine j_iconst C 1 dL_law_1219 (by decide) ?_
  refine z_iadd C 1 (by decide) dL_law_1220 ?_
  refine j_sld C hX hbl hbA 1 rfl (by decide) (by decide) dL_law_1221 ?_
  refine j_callVj C (d := 3) (As := [.int (xs 1)]) (st := [.long r1]) 98 (by decide) rfl (by decide) rfl (om_came hp1.2 (xs 1)) tL_came_m rfl hdLX12_came (by decide) (Nat.le_of_ble_eq_true rfl) dL_law_1222 rfl (fun r2 M2 hp2 => ?_)
  refine j_lcmp C dL_law_1225 ?_
  refine j_if_eq_t C 1473 dL_law_1226 (by decide) ((z_cmp r1 r2).2.2.2.2.mpr (congrArg Int64.toInt (hp1.1.trans hp2.symm))) ?_
  exact hfin M2
set_option maxHeartbeats 2000000 in
set_option maxRecDepth 100000 in
theorem lw_op37 {p : Program} {l : Launch} {e : Env} {s : State} {m : MethodId} {below : List Frame} {meth : Method} {c : Code} {b : Nat} {xs : Nat → Int32} {Q : State → Prop} {dC : Nat → ClassId} {dI : Nat → Nat → Nat} {ad : Nat → Nat} {cA : Nat → ClassId} {A : Nat → Prop} (Cb : jj_C p room_1 s m #[Value.ref b] c 118 20643 code 4 RL [] dC dI ad cA A) (hts : ∀ w ∈ lw_tbl, w.before #[Value.ref b] s = true) (hX : va_X b 6 xs s s.heap) (hbl : b < s.heap.size) (hbA : ¬ A b) (hfin : ∀ M : mm_M, jj p l e room_1 s m #[Value.ref b] below meth c 118 20643 Q 4 dC dI ad cA A M 1473 [(3, .int 0), (2, .ref (ad 98)), (1, .ref (ad 0)), (0, .ref b)] []) : jj p l e room_1 s m #[Value.ref b] below meth c 118 20643 Q 4 dC dI ad cA A M0 1231 [(3, .int 0), (2, .ref (ad 98)), (1, .ref (ad 0)), (0, .ref b)] [] := by
  have C : jj_C p room_1 s m #[Value.ref b] c 118 20643 code 4 RL tL_who dC dI ad cA A := ⟨⟨Cb.1.1, Cb.1.2.1, Cb.1.2.2.1, Cb.1.2.2.2.1, fun w h => hts w (tL_who_in w h)⟩, Cb.2⟩
  refine j_aload_n C 2 1 dL_law_1231 rfl rfl ?_
  refine j_aload_n C 3 0 dL_law_1232 rfl rfl ?_
  refine j_iload_n C 0 3 dL_law_1233 rfl rfl ?_
  refine j_iconst C 1 dL_law_1234 (by decide) ?_
  refine z_iadd C 1 (by decide) dL_law_1235 ?_
  refine j_sld C hX hbl hbA 1 rfl (by decide) (by decide) dL_law_1236 ?_
  refine j_aload_n C 3 0 dL_law_1237 rfl rfl ?_
  refine j_iload_n C 0 3 dL_law_1238 rfl rfl ?_
  refine j_iconst C 2 dL_law_1239 (by decide) ?_
  refine z_iadd C 2 (by decide) dL_law_1240 ?_
  refine j_sld C hX hbl hbA 2 rfl (by decide) (by decide) dL_law_1241 ?_
  refine j_callVi C (d := 3) (As := [.int (xs 1), .int (xs 2)]) (st := []) 0 (by decide) rfl (by decide) rfl (ox_who (xs 1) (xs 2)) tL_who_x rfl hdLX11_who (by decide) (Nat.le_of_ble_eq_true rfl) dL_law_1242 rfl (fun r1 M1 hp1 => ?_)
  refine j_aload_n C 1 2 dL_law_1245 rfl rfl ?_
  refine j_aload_n C 3 0 dL_law_1246 rfl rfl ?_
  refine j_iload_n C 0 3 dL_law_1247 rfl rfl ?_
  refine j_iconst C 1 dL_law_1248 (by decide) ?_
  refine z_iadd C 1 (by decide) dL_law_1249 ?_
  refine j_sld C hX hbl hbA 1 rfl (by decide) (by decide) dL_law_1250 ?_
  refine j_aload_n C 3 0 dL_law_1251 rfl rfl ?_
  refine j_iload_n C 0 3 dL_law_1252 rfl rfl ?_
  refine j_iconst C 2 dL_law_1253 (by decide) ?_
  refine z_iadd C 2 (by decide) dL_law_1254 ?_
  refine j_sld C hX hbl hbA 2 rfl (by decide) (by decide) dL_law_1255 ?_
  refine j_callVi C (d := 3) (As := [.int (xs 1), .int (xs 2)]) (st := [.int r1]) 98 (by decide) rfl (by decide) rfl (om_who hp1.2 (xs 1) (xs 2)) tL_who_m rfl hdLX12_who (by decide) (Nat.le_of_ble_eq_true rfl) dL_law_1256 rfl (fun r2 M2 hp2 => ?_)
  refine j_icmp_eq_t C 1473 dL_law_1259 (by decide) (hp1.1.trans hp2.symm) ?_
  exact hfin M2
set_option maxHeartbeats 2000000 in
set_option maxRecDepth 100000 in
theorem lw_op38 {p : Program} {l : Launch} {e : Env} {s : State} {m : MethodId} {below : List Frame} {meth : Method} {c : Code} {b : Nat} {xs : Nat → Int32} {Q : State → Prop} {dC : Nat → ClassId} {dI : Nat → Nat → Nat} {ad : Nat → Nat} {cA : Nat → ClassId} {A : Nat → Prop} (Cb : jj_C p room_1 s m #[Value.ref b] c 118 20643 code 4 RL [] dC dI ad cA A) (hts : ∀ w ∈ lw_tbl, w.before #[Value.ref b] s = true) (hX : va_X b 6 xs s s.heap) (hbl : b < s.heap.size) (hbA : ¬ A b) (hfin : ∀ M : mm_M, jj p l e room_1 s m #[Value.ref b] below meth c 118 20643 Q 4 dC dI ad cA A M 1473 [(3, .int 0), (2, .ref (ad 98)), (1, .ref (ad 0)), (0, .ref b)] []) : jj p l e room_1 s m #[Value.ref b] below meth c 118 20643 Q 4 dC dI ad cA A M0 1264 [(3, .int 0), (2, .ref (ad 98)), (1, .ref (ad 0)), (0, .ref b)] [] := by
  have C : jj_C p room_1 s m #[Value.ref b] c 118 20643 code 4 RL tL_numbers dC dI ad cA A := ⟨⟨Cb.1.1, Cb.1.2.1, Cb.1.2.2.1, Cb.1.2.2.2.1, fun w h => hts w (tL_numbers_in w h)⟩, Cb.2⟩
  refine j_aload_n C 2 1 dL_law_1264 rfl rfl ?_
  refine j_aload_n C 3 0 dL_law_1265 rfl rfl ?_
  refine j_iload_n C 0 3 dL_law_1266 rfl rfl ?_
  refine j_iconst C 1 dL_law_1267 (by decide) ?_
  refine z_iadd C 1 (by decide) dL_law_1268 ?_
  refine j_sld C hX hbl hbA 1 rfl (by decide) (by decide) dL_law_1269 ?_
  refine j_aload_n C 3 0 dL_law_1270 rfl rfl ?_
  refine j_iload_n C 0 3 dL_law_1271 rfl rfl ?_
  refine j_iconst C 2 dL_law_1272 (by decide) ?_
  refine z_iadd C 2 (by decide) dL_law_1273 ?_
  refine j_sld C hX hbl hbA 2 rfl (by decide) (by decide) dL_law_1274 ?_
  refine j_aload_n C 3 0 dL_law_1275 rfl rfl ?_
  refine j_iload_n C 0 3 dL_law_1276 rfl rfl ?_
  refine j_iconst C 3 dL_law_1277 (by decide) ?_
  refine z_iadd C 3 (by decide) dL_law_1278 ?_
  refine j_sld C hX hbl hbA 3 rfl (by decide) (by decide) dL_law_1279 ?_
  refine j_callVi C (d := 2) (As := [.int (xs 1), .int (xs 2), .int (xs 3)]) (st := []) 0 (by decide) rfl (by decide) rfl (ox_numbers (xs 1) (xs 2) (xs 3)) tL_numbers_x rfl hdLX11_numbers (by decide) (Nat.le_of_ble_eq_true rfl) dL_law_1280 rfl (fun r1 M1 hp1 => ?_)
  refine j_aload_n C 1 2 dL_law_1283 rfl rfl ?_
  refine j_aload_n C 3 0 dL_law_1284 rfl rfl ?_
  refine j_iload_n C 0 3 dL_law_1285 rfl rfl ?_
  refine j_iconst C 1 dL_law_1286 (by decide) ?_
  refine z_iadd C 1 (by decide) dL_law_1287 ?_
  refine j_sld C hX hbl hbA 1 rfl (by decide) (by decide) dL_law_1288 ?_
  refine j_aload_n C 3 0 dL_law_1289 rfl rfl ?_
  refine j_iload_n C 0 3 dL_law_1290 rfl rfl ?_
  refine j_iconst C 2 dL_law_1291 (by decide) ?_
  refine z_iadd C 2 (by decide) dL_law_1292 ?_
  refine j_sld C hX hbl hbA 2 rfl (by decide) (by decide) dL_law_1293 ?_
  refine j_aload_n C 3 0 dL_law_1294 rfl rfl ?_
  refine j_iload_n C 0 3 dL_law_1295 rfl rfl ?_
  refine j_iconst C 3 dL_law_1296 (by decide) ?_
  refine z_iadd C 3 (by decide) dL_law_1297 ?_
  refine j_sld C hX hbl hbA 3 rfl (by decide) (by decide) dL_law_1298 ?_
  refine j_callVi C (d := 1) (As := [.int (xs 1), .int (xs 2), .int (xs 3)]) (st := [.int r1]) 98 (by decide) rfl (by decide) rfl (om_numbers hp1.2 (xs 1) (xs 2) (xs 3)) tL_numbers_m rfl hdLX12_numbers (by decide) (Nat.le_of_ble_eq_true rfl) dL_law_1299 rfl (fun r2 M2 hp2 => ?_)
  refine j_icmp_eq_t C 1473 dL_law_1302 (by decide) (hp1.1.trans hp2.symm) ?_
  exact hfin M2
set_option maxHeartbeats 2000000 in
set_option maxRecDepth 100000 in
theorem lw_op39 {p : Program} {l : Launch} {e : Env} {s : State} {m : MethodId} {below : List Frame} {meth : Method} {c : Code} {b : Nat} {xs : Nat → Int32} {Q : State → Prop} {dC : Nat → ClassId} {dI : Nat → Nat → Nat} {ad : Nat → Nat} {cA : Nat → ClassId} {A : Nat → Prop} (Cb : jj_C p room_1 s m #[Value.ref b] c 118 20643 code 4 RL [] dC dI ad cA A) (hts : ∀ w ∈ lw_tbl, w.before #[Value.ref b] s = true) (hX : va_X b 6 xs s s.heap) (hbl : b < s.heap.size) (hbA : ¬ A b) (hfin : ∀ M : mm_M, jj p l e room_1 s m #[Value.ref b] below meth c 118 20643 Q 4 dC dI ad cA A M 1473 [(3, .int 0), (2, .ref (ad 98)), (1, .ref (ad 0)), (0, .ref b)] []) : jj p l e room_1 s m #[Value.ref b] below meth c 118 20643 Q 4 dC dI ad cA A M0 1307 [(3, .int 0), (2, .ref (ad 98)), (1, .ref (ad 0)), (0, .ref b)] [] := by
  have C : jj_C p room_1 s m #[Value.ref b] c 118 20643 code 4 RL tL_write dC dI ad cA A := ⟨⟨Cb.1.1, Cb.1.2.1, Cb.1.2.2.1, Cb.1.2.2.2.1, fun w h => hts w (tL_write_in w h)⟩, Cb.2⟩
  refine j_aload_n C 2 1 dL_law_1307 rfl rfl ?_
  refine j_aload_n C 3 0 dL_law_1308 rfl rfl ?_
  refine j_iload_n C 0 3 dL_law_1309 rfl rfl ?_
  refine j_iconst C 1 dL_law_1310 (by decide) ?_
  refine z_iadd C 1 (by decide) dL_law_1311 ?_
  refine j_sld C hX hbl hbA 1 rfl (by decide) (by decide) dL_law_1312 ?_
  refine j_aload_n C 3 0 dL_law_1313 rfl rfl ?_
  refine j_iload_n C 0 3 dL_law_1314 rfl rfl ?_
  refine j_iconst C 2 dL_law_1315 (by decide) ?_
  refine z_iadd C 2 (by decide) dL_law_1316 ?_
  refine j_sld C hX hbl hbA 2 rfl (by decide) (by decide) dL_law_1317 ?_
  refine j_aload_n C 3 0 dL_law_1318 rfl rfl ?_
  refine j_iload_n C 0 3 dL_law_1319 rfl rfl ?_
  refine j_iconst C 3 dL_law_1320 (by decide) ?_
  refine z_iadd C 3 (by decide) dL_law_1321 ?_
  refine j_sld C hX hbl hbA 3 rfl (by decide) (by decide) dL_law_1322 ?_
  refine j_i2l C dL_law_1323 ?_
  refine j_bipush C 32 dL_law_1324 (by decide) ?_
  refine j_lshl C dL_law_1326 ?_
  refine j_aload_n C 3 0 dL_law_1327 rfl rfl ?_
  refine j_iload_n C 0 3 dL_law_1328 rfl rfl ?_
  refine j_iconst C 4 dL_law_1329 (by decide) ?_
  refine z_iadd C 4 (by decide) dL_law_1330 ?_
  refine j_sld C hX hbl hbA 4 rfl (by decide) (by decide) dL_law_1331 ?_
  refine j_i2l C dL_law_1332 ?_
  refine j_ldc2 C 4294967295 dL_law_1333 (List.mem_append_right _ List.mem_cons_self) ?_
  refine j_land C dL_law_1336 ?_
  refine j_lor C dL_law_1337 ?_
  refine j_callVj C (d := 2) (As := [.int (xs 1), .int (xs 2), .long (((xs 3).toInt64 <<< ((32 : Int32).toInt64 &&& 63)) ||| ((xs 4).toInt64 &&& (4294967295 : Int64)))]) (st := []) 0 (by decide) rfl (by decide) rfl (ox_write (xs 1) (xs 2) (((xs 3).toInt64 <<< ((32 : Int32).toInt64 &&& 63)) ||| ((xs 4).toInt64 &&& (4294967295 : Int64)))) tL_write_x rfl hdLX11_write (by decide) (Nat.le_of_ble_eq_true rfl) dL_law_1338 rfl (fun r1 M1 hp1 => ?_)
  refine j_aload_n C 1 2 dL_law_1341 rfl rfl ?_
  refine j_aload_n C 3 0 dL_law_1342 rfl rfl ?_
  refine j_iload_n C 0 3 dL_law_1343 rfl rfl ?_
  refine j_iconst C 1 dL_law_1344 (by decide) ?_
  refine z_iadd C 1 (by decide) dL_law_1345 ?_
  refine j_sld C hX hbl hbA 1 rfl (by decide) (by decide) dL_law_1346 ?_
  refine j_aload_n C 3 0 dL_law_1347 rfl rfl ?_
  refine j_iload_n C 0 3 dL_law_1348 rfl rfl ?_
  refine j_iconst C 2 dL_law_1349 (by decide) ?_
  refine z_iadd C 2 (by decide) dL_law_1350 ?_
  refine j_sld C hX hbl hbA 2 rfl (by decide) (by decide) dL_law_1351 ?_
  refine j_aload_n C 3 0 dL_law_1352 rfl rfl ?_
  refine j_iload_n C 0 3 dL_law_1353 rfl rfl ?_
  refine j_iconst C 3 dL_law_1354 (by decide) ?_
  refine z_iadd C 3 (by decide) dL_law_1355 ?_
  refine j_sld C hX hbl hbA 3 rfl (by decide) (by decide) dL_law_1356 ?_
  refine j_i2l C dL_law_1357 ?_
  refine j_bipush C 32 dL_law_1358 (by decide) ?_
  refine j_lshl C dL_law_1360 ?_
  refine j_aload_n C 3 0 dL_law_1361 rfl rfl ?_
  refine j_iload_n C 0 3 dL_law_1362 rfl rfl ?_
  refine j_iconst C 4 dL_law_1363 (by decide) ?_
  refine z_iadd C 4 (by decide) dL_law_1364 ?_
  refine j_sld C hX hbl hbA 4 rfl (by decide) (by decide) dL_law_1365 ?_
  refine j_i2l C dL_law_1366 ?_
  refine j_ldc2 C 4294967295 dL_law_1367 (List.mem_append_right _ List.mem_cons_self) ?_
  refine j_land C dL_law_1370 ?_
  refine j_lor C dL_law_1371 ?_
  refine j_callVj C (d := 2) (As := [.int (xs 1), .int (xs 2), .long (((xs 3).toInt64 <<< ((32 : Int32).toInt64 &&& 63)) ||| ((xs 4).toInt64 &&& (4294967295 : Int64)))]) (st := [.long r1]) 98 (by decide) rfl (by decide) rfl (om_write hp1.2 (xs 1) (xs 2) (((xs 3).toInt64 <<< ((32 : Int32).toInt64 &&& 63)) ||| ((xs 4).toInt64 &&& (4294967295 : Int64)))) tL_write_m rfl hdLX12_write (by decide) (Nat.le_of_ble_eq_true rfl) dL_law_1372 rfl (fun r2 M2 hp2 => ?_)
  refine j_lcmp C dL_law_1375 ?_
  refine j_if_eq_t C 1473 dL_law_1376 (by decide) ((z_cmp r1 r2).2.2.2.2.mpr (congrArg Int64.toInt (hp1.1.trans hp2.symm))) ?_
  exact hfin M2
set_option maxHeartbeats 2000000 in
set_option maxRecDepth 100000 in
theorem lw_op40 {p : Program} {l : Launch} {e : Env} {s : State} {m : MethodId} {below : List Frame} {meth : Method} {c : Code} {b : Nat} {xs : Nat → Int32} {Q : State → Prop} {dC : Nat → ClassId} {dI : Nat → Nat → Nat} {ad : Nat → Nat} {cA : Nat → ClassId} {A : Nat → Prop} (Cb : jj_C p room_1 s m #[Value.ref b] c 118 20643 code 4 RL [] dC dI ad cA A) (hts : ∀ w ∈ lw_tbl, w.before #[Value.ref b] s = true) (hX : va_X b 6 xs s s.heap) (hbl : b < s.heap.size) (hbA : ¬ A b) (hfin : ∀ M : mm_M, jj p l e room_1 s m #[Value.ref b] below meth c 118 20643 Q 4 dC dI ad cA A M 1473 [(3, .int 0), (2, .ref (ad 98)), (1, .ref (ad 0)), (0, .ref b)] []) : jj p l e room_1 s m #[Value.ref b] below meth c 118 20643 Q 4 dC dI ad cA A M0 1381 [(3, .int 0), (2, .ref (ad 98)), (1, .ref (ad 0)), (0, .ref b)] [] := by
  have C : jj_C p room_1 s m #[Value.ref b] c 118 20643 code 4 RL tL_lists dC dI ad cA A := ⟨⟨Cb.1.1, Cb.1.2.1, Cb.1.2.2.1, Cb.1.2.2.2.1, fun w h => hts w (tL_lists_in w h)⟩, Cb.2⟩
  refine j_aload_n C 2 1 dL_law_1381 rfl rfl ?_
  refine j_aload_n C 3 0 dL_law_1382 rfl rfl ?_
  refine j_iload_n C 0 3 dL_law_1383 rfl rfl ?_
  refine j_iconst C 1 dL_law_1384 (by decide) ?_
  refine z_iadd C 1 (by decide) dL_law_1385 ?_
  refine j_sld C hX hbl hbA 1 rfl (by decide) (by decide) dL_law_1386 ?_
  refine j_callVi C (d := 2) (As := [.int (xs 1)]) (st := []) 0 (by decide) rfl (by decide) rfl (ox_lists (xs 1)) tL_lists_x rfl hdLX11_lists (by decide) (Nat.le_of_ble_eq_true rfl) dL_law_1387 rfl (fun r1 M1 hp1 => ?_)
  refine j_aload_n C 1 2 dL_law_1390 rfl rfl ?_
  refine j_aload_n C 3 0 dL_law_1391 rfl rfl ?_
  refine j_iload_n C 0 3 dL_law_1392 rfl rfl ?_
  refine j_iconst C 1 dL_law_1393 (by decide) ?_
  refine z_iadd C 1 (by decide) dL_law_1394 ?_
  refine j_sld C hX hbl hbA 1 rfl (by decide) (by decide) dL_law_1395 ?_
  refine j_callVi C (d := 2) (As := [.int (xs 1)]) (st := [.int r1]) 98 (by decide) rfl (by decide) rfl (om_lists hp1.2 (xs 1)) tL_lists_m rfl hdLX12_lists (by decide) (Nat.le_of_ble_eq_true rfl) dL_law_1396 rfl (fun r2 M2 hp2 => ?_)
  refine j_icmp_eq_t C 1473 dL_law_1399 (by decide) (hp1.1.trans hp2.symm) ?_
  exact hfin M2
set_option maxHeartbeats 2000000 in
set_option maxRecDepth 100000 in
theorem lw_op41 {p : Program} {l : Launch} {e : Env} {s : State} {m : MethodId} {below : List Frame} {meth : Method} {c : Code} {b : Nat} {xs : Nat → Int32} {Q : State → Prop} {dC : Nat → ClassId} {dI : Nat → Nat → Nat} {ad : Nat → Nat} {cA : Nat → ClassId} {A : Nat → Prop} (Cb : jj_C p room_1 s m #[Value.ref b] c 118 20643 code 4 RL [] dC dI ad cA A) (hts : ∀ w ∈ lw_tbl, w.before #[Value.ref b] s = true) (hX : va_X b 6 xs s s.heap) (hbl : b < s.heap.size) (hbA : ¬ A b) (hfin : ∀ M : mm_M, jj p l e room_1 s m #[Value.ref b] below meth c 118 20643 Q 4 dC dI ad cA A M 1473 [(3, .int 0), (2, .ref (ad 98)), (1, .ref (ad 0)), (0, .ref b)] []) : jj p l e room_1 s m #[Value.ref b] below meth c 118 20643 Q 4 dC dI ad cA A M0 1404 [(3, .int 0), (2, .ref (ad 98)), (1, .ref (ad 0)), (0, .ref b)] [] := by
  have C : jj_C p room_1 s m #[Value.ref b] c 118 20643 code 4 RL tL_image dC dI ad cA A := ⟨⟨Cb.1.1, Cb.1.2.1, Cb.1.2.2.1, Cb.1.2.2.2.1, fun w h => hts w (tL_image_in w h)⟩, Cb.2⟩
  refine j_aload_n C 2 1 dL_law_1404 rfl rfl ?_
  refine j_aload_n C 3 0 dL_law_1405 rfl rfl ?_
  refine j_iload_n C 0 3 dL_law_1406 rfl rfl ?_
  refine j_iconst C 1 dL_law_1407 (by decide) ?_
  refine z_iadd C 1 (by decide) dL_law_1408 ?_
  refine j_sld C hX hbl hbA 1 rfl (by decide) (by decide) dL_law_1409 ?_
  refine j_callVi C (d := 1) (As := [.int (xs 1)]) (st := []) 0 (by decide) rfl (by decide) rfl (ox_image (xs 1)) tL_image_x rfl hdLX11_image (by decide) (Nat.le_of_ble_eq_true rfl) dL_law_1410 rfl (fun r1 M1 hp1 => ?_)
  refine j_aload_n C 1 2 dL_law_1413 rfl rfl ?_
  refine j_aload_n C 3 0 dL_law_1414 rfl rfl ?_
  refine j_iload_n C 0 3 dL_law_1415 rfl rfl ?_
  refine j_iconst C 1 dL_law_1416 (by decide) ?_
  refine z_iadd C 1 (by decide) dL_law_1417 ?_
  refine j_sld C hX hbl hbA 1 rfl (by decide) (by decide) dL_law_1418 ?_
  refine j_callVi C (d := 1) (As := [.int (xs 1)]) (st := [.int r1]) 98 (by decide) rfl (by decide) rfl (om_image hp1.2 (xs 1)) tL_image_m rfl hdLX12_image (by decide) (Nat.le_of_ble_eq_true rfl) dL_law_1419 rfl (fun r2 M2 hp2 => ?_)
  refine j_icmp_eq_t C 1473 dL_law_1422 (by decide) (hp1.1.trans hp2.symm) ?_
  exact hfin M2
set_option maxHeartbeats 2000000 in
set_option maxRecDepth 100000 in
theorem lw_op42 {p : Program} {l : Launch} {e : Env} {s : State} {m : MethodId} {below : List Frame} {meth : Method} {c : Code} {b : Nat} {xs : Nat → Int32} {Q : State → Prop} {dC : Nat → ClassId} {dI : Nat → Nat → Nat} {ad : Nat → Nat} {cA : Nat → ClassId} {A : Nat → Prop} (Cb : jj_C p room_1 s m #[Value.ref b] c 118 20643 code 4 RL [] dC dI ad cA A) (hts : ∀ w ∈ lw_tbl, w.before #[Value.ref b] s = true) (hX : va_X b 6 xs s s.heap) (hbl : b < s.heap.size) (hbA : ¬ A b) (hfin : ∀ M : mm_M, jj p l e room_1 s m #[Value.ref b] below meth c 118 20643 Q 4 dC dI ad cA A M 1473 [(3, .int 0), (2, .ref (ad 98)), (1, .ref (ad 0)), (0, .ref b)] []) : jj p l e room_1 s m #[Value.ref b] below meth c 118 20643 Q 4 dC dI ad cA A M0 1427 [(3, .int 0), (2, .ref (ad 98)), (1, .ref (ad 0)), (0, .ref b)] [] := by
  have C : jj_C p room_1 s m #[Value.ref b] c 118 20643 code 4 RL tL_restore dC dI ad cA A := ⟨⟨Cb.1.1, Cb.1.2.1, Cb.1.2.2.1, Cb.1.2.2.2.1, fun w h => hts w (tL_restore_in w h)⟩, Cb.2⟩
  refine j_aload_n C 2 1 dL_law_1427 rfl rfl ?_
  refine j_aload_n C 3 0 dL_law_1428 rfl rfl ?_
  refine j_iload_n C 0 3 dL_law_1429 rfl rfl ?_
  refine j_iconst C 1 dL_law_1430 (by decide) ?_
  refine z_iadd C 1 (by decide) dL_law_1431 ?_
  refine j_sld C hX hbl hbA 1 rfl (by decide) (by decide) dL_law_1432 ?_
  refine j_callVi C (d := 0) (As := [.int (xs 1)]) (st := []) 0 (by decide) rfl (by decide) rfl (ox_restore (xs 1)) tL_restore_x rfl hdLX11_restore (by decide) (Nat.le_of_ble_eq_true rfl) dL_law_1433 rfl (fun r1 M1 hp1 => ?_)
  refine j_aload_n C 1 2 dL_law_1436 rfl rfl ?_
  refine j_aload_n C 3 0 dL_law_1437 rfl rfl ?_
  refine j_iload_n C 0 3 dL_law_1438 rfl rfl ?_
  refine j_iconst C 1 dL_law_1439 (by decide) ?_
  refine z_iadd C 1 (by decide) dL_law_1440 ?_
  refine j_sld C hX hbl hbA 1 rfl (by decide) (by decide) dL_law_1441 ?_
  refine j_callVi C (d := 1) (As := [.int (xs 1)]) (st := [.int r1]) 98 (by decide) rfl (by decide) rfl (om_restore hp1.2 (xs 1)) tL_restore_m rfl hdLX12_restore (by decide) (Nat.le_of_ble_eq_true rfl) dL_law_1442 rfl (fun r2 M2 hp2 => ?_)
  refine j_icmp_eq_t C 1473 dL_law_1445 (by decide) (hp1.1.trans hp2.symm) ?_
  exact hfin M2
set_option maxHeartbeats 2000000 in
set_option maxRecDepth 100000 in
theorem lw_op43 {p : Program} {l : Launch} {e : Env} {s : State} {m : MethodId} {below : List Frame} {meth : Method} {c : Code} {b : Nat} {xs : Nat → Int32} {Q : State → Prop} {dC : Nat → ClassId} {dI : Nat → Nat → Nat} {ad : Nat → Nat} {cA : Nat → ClassId} {A : Nat → Prop} (Cb : jj_C p room_1 s m #[Value.ref b] c 118 20643 code 4 RL [] dC dI ad cA A) (hts : ∀ w ∈ lw_tbl, w.before #[Value.ref b] s = true) (hX : va_X b 6 xs s s.heap) (hbl : b < s.heap.size) (hbA : ¬ A b) (hfin : ∀ M : mm_M, jj p l e room_1 s m #[Value.ref b] below meth c 118 20643 Q 4 dC dI ad cA A M 1473 [(3, .int 0), (2, .ref (ad 98)), (1, .ref (ad 0)), (0, .ref b)] []) : jj p l e room_1 s m #[Value.ref b] below meth c 118 20643 Q 4 dC dI ad cA A M0 1450 [(3, .int 0), (2, .ref (ad 98)), (1, .ref (ad 0)), (0, .ref b)] [] := by
  have C : jj_C p room_1 s m #[Value.ref b] c 118 20643 code 4 RL tL_count dC dI ad cA A := ⟨⟨Cb.1.1, Cb.1.2.1, Cb.1.2.2.1, Cb.1.2.2.2.1, fun w h => hts w (tL_count_in w h)⟩, Cb.2⟩
  refine j_aload_n C 2 1 dL_law_1450 rfl rfl ?_
  refine j_aload_n C 3 0 dL_law_1451 rfl rfl ?_
  refine j_iload_n C 0 3 dL_law_1452 rfl rfl ?_
  refine j_iconst C 1 dL_law_1453 (by decide) ?_
  refine z_iadd C 1 (by decide) dL_law_1454 ?_
  refine j_sld C hX hbl hbA 1 rfl (by decide) (by decide) dL_law_1455 ?_
  refine j_callVi C (d := 2) (As := [.int (xs 1)]) (st := []) 0 (by decide) rfl (by decide) rfl (ox_count (xs 1)) tL_count_x rfl hdLX11_count (by decide) (Nat.le_of_ble_eq_true rfl) dL_law_1456 rfl (fun r1 M1 hp1 => ?_)
  refine j_aload_n C 1 2 dL_law_1459 rfl rfl ?_
  refine j_aload_n C 3 0 dL_law_1460 rfl rfl ?_
  refine j_iload_n C 0 3 dL_law_1461 rfl rfl ?_
  refine j_iconst C 1 dL_law_1462 (by decide) ?_
  refine z_iadd C 1 (by decide) dL_law_1463 ?_
  refine j_sld C hX hbl hbA 1 rfl (by decide) (by decide) dL_law_1464 ?_
  refine j_callVi C (d := 4) (As := [.int (xs 1)]) (st := [.int r1]) 98 (by decide) rfl (by decide) rfl (om_count hp1.2 (xs 1)) tL_count_m rfl hdLX12_count (by decide) (Nat.le_of_ble_eq_true rfl) dL_law_1465 rfl (fun r2 M2 hp2 => ?_)
  refine j_icmp_eq_t C 1473 dL_law_1468 (by decide) (hp1.1.trans hp2.symm) ?_
  exact hfin M2
