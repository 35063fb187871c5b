theorem j_sld {p : Program} {l : Launch} {e : Env} {R : Room} {s : State} {m : MethodId} {args : Array Value} {below : List Frame} {meth : Method} {c : Code} {cells slots : Nat} {Q : State → Prop} {cc : ByteArray} {nL : Nat} {own : String} {Ts : List Cond} {dC : Nat → ClassId} {dI : Nat → Nat → Nat} {ad : Nat → Nat} {cA : Nat → ClassId} {A : Nat → Prop} {M : mm_M} {pc : Nat} {lv : List (Nat × Value)} {st : List Value} (C : jj_C p R s m args c cells slots cc nL own Ts dC dI ad cA A) {b L : Nat} {xs : Nat → Int32} (hX : va_X b L xs s s.heap) (hbl : b < s.heap.size) (hbA : ¬ A b) {x : Int32} (k : Nat) (hx : x = nI k) (hk : k < L) (hL : L < 2 ^ 31) (d : decode cc pc = .ok (.iaload, 1)) (kk : jj p l e R s m args below meth c cells slots Q nL dC dI ad cA A M (pc + 1) lv (.int (xs k) :: st)) : jj p l e R s m args below meth c cells slots Q nL dC dI ad cA A M pc lv (.int x :: .ref b :: st) := by
  intro H locs ls hP hS hl
  subst hx
  exact va_sld C.1.1 C.1.2.1 hX hbl hbA hS (vp_in_nI hk hL) d (by rw [nI_clamp (by omega)]; exact kk H locs ls hP hS hl)
theorem j_slen {p : Program} {l : Launch} {e : Env} {R : Room} {s : State} {m : MethodId} {args : Array Value} {below : List Frame} {meth : Method} {c : Code} {cells slots : Nat} {Q : State → Prop} {cc : ByteArray} {nL : Nat} {own : String} {Ts : List Cond} {dC : Nat → ClassId} {dI : Nat → Nat → Nat} {ad : Nat → Nat} {cA : Nat → ClassId} {A : Nat → Prop} {M : mm_M} {pc : Nat} {lv : List (Nat × Value)} {st : List Value} (C : jj_C p R s m args c cells slots cc nL own Ts dC dI ad cA A) {b L : Nat} {xs : Nat → Int32} (hX : va_X b L xs s s.heap) (hbl : b < s.heap.size) (hbA : ¬ A b) (d : decode cc pc = .ok (.arraylength, 1)) (kk : jj p l e R s m args below meth c cells slots Q nL dC dI ad cA A M (pc + 1) lv (.int (nI L) :: st)) : jj p l e R s m args below meth c cells slots Q nL dC dI ad cA A M pc lv (.ref b :: st) :=
  fun H locs ls hP hS hl => va_slen C.1.1 C.1.2.1 hX hbl hbA hS d (kk H locs ls hP hS hl)
theorem y_sld {p : Program} {l : Launch} {e : Env} {R : Room} {s : State} {m : MethodId} {args : Array Value} {below : List Frame} {meth : Method} {c : Code} {cells slots : Nat} {Q : State → Prop} {cc : ByteArray} {nL : Nat} {own : String} {Ts : List Cond} {dC : Nat → ClassId} {dI : Nat → Nat → Nat} {ad : Nat → Nat} {cA : Nat → ClassId} {A : Nat → Prop} {M : mm_M} {pc : Nat} {lv : List (Nat × Value)} {st : List Value} (C : jj_C p R s m args c cells slots cc nL own Ts dC dI ad cA A) {b L : Nat} {xs : Nat → Int32} (hX : va_X b L xs s s.heap) (hbl : b < s.heap.size) (hbA : ¬ A b) {x : Int} (hL : L ≤ 3072) (hk : 0 ≤ x ∧ x < L) (d : decode cc pc = .ok (.iaload, 1)) (kk : ∀ v : Int, -2147483648 ≤ v ∧ v ≤ 2147483647 → jj p l e R s m args below meth c cells slots Q nL dC dI ad cA A M (pc + 1) lv (.int (sI v) :: st)) : jj p l e R s m args below meth c cells slots Q nL dC dI ad cA A M pc lv (.int (sI x) :: .ref b :: st) := by
  have e1 : sI x = nI x.toNat := by
    apply Int32.toInt_inj.mp
    rw [sI_t (by omega), nI_toInt (by omega)]; omega
  rw [e1]
  refine j_sld C hX hbl hbA x.toNat rfl (by omega) (by omega) d ?_
  have := kk (xs x.toNat).toInt (sI_r _)
  rw [sI_o] at this
  exact this
theorem y_sldx {p : Program} {l : Launch} {e : Env} {R : Room} {s : State} {m : MethodId} {args : Array Value} {below : List Frame} {meth : Method} {c : Code} {cells slots : Nat} {Q : State → Prop} {cc : ByteArray} {nL : Nat} {own : String} {Ts : List Cond} {dC : Nat → ClassId} {dI : Nat → Nat → Nat} {ad : Nat → Nat} {cA : Nat → ClassId} {A : Nat → Prop} {M : mm_M} {pc : Nat} {lv : List (Nat × Value)} {st : List Value} (C : jj_C p R s m args c cells slots cc nL own Ts dC dI ad cA A) {b L : Nat} {xs : Nat → Int32} (hX : va_X b L xs s s.heap) (hbl : b < s.heap.size) (hbA : ¬ A b) {x : Int} (hL : L ≤ 3072) (hk : 0 ≤ x ∧ x < L) (d : decode cc pc = .ok (.iaload, 1)) (kk : jj p l e R s m args below meth c cells slots Q nL dC dI ad cA A M (pc + 1) lv (.int (sI (xs x.toNat).toInt) :: st)) : jj p l e R s m args below meth c cells slots Q nL dC dI ad cA A M pc lv (.int (sI x) :: .ref b :: st) := by
  have e1 : sI x = nI x.toNat := by
    apply Int32.toInt_inj.mp
    rw [sI_t (by omega), nI_toInt (by omega)]; omega
  rw [e1]
  refine j_sld C hX hbl hbA x.toNat rfl (by omega) (by omega) d ?_
  rw [sI_o] at kk
  exact kk

set_option maxHeartbeats 2000000 in
set_option maxRecDepth 100000 in
theorem lw_op0 {p : Program} {l : Launch} {e : Env} {s : State} {m : MethodId} {below : List Frame} {meth : Method} {c : Code} {b L : Nat} {xs : Nat → Int32} {Q : State → Prop} {dC : Nat → ClassId} {dI : Nat → Nat → Nat} {ad : Nat → Nat} {cA : Nat → ClassId} {A : Nat → Prop} (Cb : jj_C p room_1 s m #[Value.ref b] c 118 20643 code 4 RL [] dC dI ad cA A) (hts : ∀ w ∈ lw_tbl, w.before #[Value.ref b] s = true) (hL : L ≤ 3072) (hX : va_X b L xs s s.heap) (hbl : b < s.heap.size) (hbA : ¬ A b) {i : Int} (hi : 0 ≤ i ∧ i + 6 ≤ L) (hfin : ∀ M : mm_M, LJ (i + 6) M → jj p l e room_1 s m #[Value.ref b] below meth c 118 20643 Q 4 dC dI ad cA A M 1466 [(3, .int (sI i)), (2, .ref (ad 98)), (1, .ref (ad 0)), (0, .ref b)] []) (M : mm_M) (hI0 : LJ i M) : jj p l e room_1 s m #[Value.ref b] below meth c 118 20643 Q 4 dC dI ad cA A M 224 [(3, .int (sI i)), (2, .ref (ad 98)), (1, .ref (ad 0)), (0, .ref b)] [] := by
  obtain ⟨⟨hJ0, t1_0, t2_0, t3_0, t4_0, t5_0⟩, gq0, hC, ty_0⟩ := hI0
  have C : jj_C p room_1 s m #[Value.ref b] c 118 20643 code 4 RL tL_feed dC dI ad cA A := ⟨⟨Cb.1.1, Cb.1.2.1, Cb.1.2.2.1, Cb.1.2.2.2.1, fun w h => hts w (tL_feed_in w h)⟩, Cb.2⟩
  obtain ⟨gp, egp⟩ : ∃ gp, gp = M.2.2 0 4 := ⟨_, rfl⟩
  rw [← egp] at hC
  have hq : QG gp := by
    rcases gq0 with ⟨p4, _⟩ | ⟨p4, _⟩
    · exact Or.inl (egp.trans p4)
    · exact Or.inr (egp.trans p4)
  have cgp : s_c gp = 6 := qg_c hq
  have hb := bpx_i hJ0.1
  have hE := hC.1.1.1
  have hS := hC.1.1.2.2.2
  have qq := pre_c hC hJ0.2.1 (by (clear hS hE hb cgp hq egp hC C ty_0 gq0 t5_0 t4_0 t3_0 t2_0 t1_0 hJ0 hfin hbA hbl hX hts Cb; omega))
  refine j_aload_n C 2 1 dL_law_224 rfl rfl ?_
  refine j_aload_n C 3 0 dL_law_225 rfl rfl ?_
  refine j_iload_n C 0 3 dL_law_226 rfl rfl ?_
  refine y_iconst C dL_law_227 ?_
  refine y_iadd C dL_law_228 ?_
  refine y_sldx C hX hbl hbA hL (by omega) dL_law_229 ?_
  refine j_aload_n C 3 0 dL_law_230 rfl rfl ?_
  refine j_iload_n C 0 3 dL_law_231 rfl rfl ?_
  refine y_iconst C dL_law_232 ?_
  refine y_iadd C dL_law_233 ?_
  refine y_sldx C hX hbl hbA hL (by omega) dL_law_234 ?_
  refine j_aload_n C 3 0 dL_law_235 rfl rfl ?_
  refine j_iload_n C 0 3 dL_law_236 rfl rfl ?_
  refine y_iconst C dL_law_237 ?_
  refine y_iadd C dL_law_238 ?_
  refine y_sldx C hX hbl hbA hL (by omega) dL_law_239 ?_
  refine j_aload_n C 3 0 dL_law_240 rfl rfl ?_
  refine j_iload_n C 0 3 dL_law_241 rfl rfl ?_
  refine y_iconst C dL_law_242 ?_
  refine y_iadd C dL_law_243 ?_
  refine y_sldx C hX hbl hbA hL (by omega) dL_law_244 ?_
  refine j_aload_n C 3 0 dL_law_245 rfl rfl ?_
  refine j_iload_n C 0 3 dL_law_246 rfl rfl ?_
  refine y_iconst C dL_law_247 ?_
  refine y_iadd C dL_law_248 ?_
  refine y_sldx C hX hbl hbA hL (by (clear qq hS hE hb cgp hq egp hC C ty_0 gq0 t5_0 t4_0 t3_0 t2_0 t1_0 hJ0 hfin hbA hbl hX hL hts Cb; omega)) dL_law_249 ?_
  refine j_callVi C (d := 1) (As := [.int (sI (xs (i + 1).toNat).toInt), .int (sI (xs (i + 2).toNat).toInt), .int (sI (xs (i + 3).toNat).toInt), .int (sI (xs (i + 4).toNat).toInt), .int (sI (xs (i + 5).toNat).toInt)]) (st := []) 0 (by decide) rfl (by decide) rfl (s2_X11_feed (iv_0 (prX [(10, 1), (20, 1000)]) hJ0) (hPX [(10, 1), (20, 1000)]) (fun i k h => hXc (c := 20) rfl h) (fun i h => hXc (c := 10) rfl h) (xs (i + 1).toNat).toInt (sI_r _) (xs (i + 2).toNat).toInt (sI_r _) (xs (i + 3).toNat).toInt (sI_r _) (xs (i + 4).toNat).toInt (sI_r _) (xs (i + 5).toNat).toInt (sI_r _)) tL_feed_x rfl hdLX11_feed (by decide) (Nat.le_of_ble_eq_true rfl) dL_law_250 rfl (fun r1 M1 hp1 => ?_)
  obtain ⟨a1, rfl, hV1, hF1, hf1⟩ := hp1
  have hJ1 := li_x (cs := [(10, 1), (20, 1000)]) (by decide) hJ0 hV1
  have g1 := congrArg Int32.toInt (xf hV1 (i := 98) (k := 5) rfl rfl)
  have w1 : (M.1 0 1).toInt = (M.1 98 5).toInt := t1_0
  have t2_1 := t2_x t2_0 hV1 rfl (fun _ => rfl)
  have t3_1 := t3_x t3_0 hV1 ⟨rfl, rfl⟩ (fun _ => rfl) (fun _ => rfl)
  have t5_1 := t5_x t5_0 hV1 ⟨rfl, rfl⟩ ⟨rfl, rfl⟩
  have e99 : M1.1 99 = M.1 99 := hF1.cell (by decide)
  have g4 := xp hV1 (i := 0) (k := 4) rfl rfl
  have g5 := xp hV1 (i := 0) (k := 5) rfl rfl
  have gq1 : GPQ M1 := gpq_c gq0 g4 g5
  have ty_1 : TYT M1 := tyt_s ty_0 (trs_f hF1 (by decide)) (hF1.cellJ (by decide))
  have hc1 : CTS M1 gp (M.1 99) (17 * (i + 6)) := fin_a hq hJ0.1 hC hF1 rfl (by omega)
  refine j_pop C dL_law_253 rfl ?_
  refine j_aload_n C 1 2 dL_law_254 rfl rfl ?_
  refine j_aload_n C 3 0 dL_law_255 rfl rfl ?_
  refine j_iload_n C 0 3 dL_law_256 rfl rfl ?_
  refine y_iconst C dL_law_257 ?_
  refine y_iadd C dL_law_258 ?_
  refine y_sldx C hX hbl hbA hL (by omega) dL_law_259 ?_
  refine j_aload_n C 3 0 dL_law_260 rfl rfl ?_
  refine j_iload_n C 0 3 dL_law_261 rfl rfl ?_
  refine y_iconst C dL_law_262 ?_
  refine y_iadd C dL_law_263 ?_
  refine y_sldx C hX hbl hbA hL (by omega) dL_law_264 ?_
  refine j_aload_n C 3 0 dL_law_265 rfl rfl ?_
  refine j_iload_n C 0 3 dL_law_266 rfl rfl ?_
  refine y_iconst C dL_law_267 ?_
  refine y_iadd C dL_law_268 ?_
  refine y_sldx C hX hbl hbA hL (by omega) dL_law_269 ?_
  refine j_aload_n C 3 0 dL_law_270 rfl rfl ?_
  refine j_iload_n C 0 3 dL_law_271 rfl rfl ?_
  refine y_iconst C dL_law_272 ?_
  refine y_iadd C dL_law_273 ?_
  refine y_sldx C hX hbl hbA hL (by omega) dL_law_274 ?_
  refine j_aload_n C 3 0 dL_law_275 rfl rfl ?_
  refine j_iload_n C 0 3 dL_law_276 rfl rfl ?_
  refine y_iconst C dL_law_277 ?_
  refine y_iadd C dL_law_278 ?_
  refine y_sldx C hX hbl hbA hL (by (clear hc1 ty_1 gq1 g5 g4 e99 t5_1 t3_1 t2_1 w1 g1 hJ1 hf1 hF1 hV1 qq hS hE hb cgp hq egp hC C ty_0 gq0 t5_0 t4_0 t3_0 t2_0 t1_0 hJ0 hfin hbA hbl hX hL hts Cb; omega)) dL_law_279 ?_
  refine j_callVi C (d := 0) (As := [.int (sI (xs (i + 1).toNat).toInt), .int (sI (xs (i + 2).toNat).toInt), .int (sI (xs (i + 3).toNat).toInt), .int (sI (xs (i + 4).toNat).toInt), .int (sI (xs (i + 5).toNat).toInt)]) (st := []) 98 (by decide) rfl (by decide) rfl (s1_X12_feed (iv_0 (prM [(11, 5), (47, 1000)]) hJ1) (hPM [(11, 5), (47, 1000)]) (fun i k h => hMc (c := 47) rfl h) (fun i h => hMc (c := 11) rfl h) (xs (i + 1).toNat).toInt (sI_r _) (xs (i + 2).toNat).toInt (sI_r _) (xs (i + 3).toNat).toInt (sI_r _) (xs (i + 4).toNat).toInt (sI_r _) (xs (i + 5).toNat).toInt (sI_r _) hJ1.2.1) tL_feed_m rfl hdLX12_feed (by decide) (Nat.le_of_ble_eq_true rfl) dL_law_280 rfl (fun r2 M2 hp2 => ?_)
  obtain ⟨a2, rfl, hV2, hF2, hf2⟩ := hp2
  have hJ2 := li_m (cs := [(11, 5), (47, 1000)]) (fun _ => rfl) hJ1 hV2 (by exact hf2.2.2.2.2)
  have g2 := congrArg Int32.toInt (mf hV2 (i := 0) (k := 1) rfl rfl)
  have t1_2 : T1 M2 := by unfold T1; (clear hJ2 hF2 hV2 hc1 ty_1 gq1 g5 g4 e99 t5_1 t3_1 t2_1 hJ1 hF1 hV1 qq hS hE hb cgp hq egp hC C ty_0 gq0 t5_0 t4_0 t3_0 t2_0 t1_0 hJ0 hfin hi hbA hbl hX hL hts Cb; omega)
  have t2_2 := t2_m t2_1 hV2 rfl (fun _ => rfl)
  have t3_2 := t3_m t3_1 hV2 ⟨rfl, rfl⟩ (fun _ => rfl) (fun _ => rfl)
  have t5_2 := t5_m t5_1 hV2 ⟨rfl, rfl⟩ ⟨rfl, rfl⟩
  have t4_2 : T4 M2 := t4_f (M := M) (M1 := M1) (M2 := M2) (a := (xs (i + 1).toNat).toInt) (b := (xs (i + 2).toNat).toInt) (c := (xs (i + 3).toNat).toInt) (d := (xs (i + 4).toNat).toInt) (e := (xs (i + 5).toNat).toInt) t4_0 w1 (by exact hf1.2.2.2) (by exact hf2.2.2.2.1) (fun k => xf hV1 (i := 101) (k := k) rfl rfl) (by exact g1) (fun k => mf hV2 (i := 1) (k := k) rfl rfl) (by exact g2) (by have := t1_2; unfold T1 at this; exact this.symm)
  have e2 : M2.1 99 = (M.1 99) := (hF2.cell (by decide)).trans e99
  have hc2 := fin_m hq hJ1.1 hc1 hF2 rfl e2
  have gq2 : GPQ M2 := gpq_c gq1 (by rw [hF2.2.1]) (by rw [hF2.2.1])
  have hC2 : CTS M2 (M2.2.2 0 4) (M2.1 99) (17 * (i + 6)) := by rw [hF2.2.1, g4, ← egp]; exact hc2
  have ty_2 : TYT M2 := tyt_f ty_1 (cfr_f hF2 (by decide)) (hF2.cellJ (by decide))
  refine j_pop C dL_law_283 rfl ?_
  refine j_goto C 1466 dL_law_284 (by decide) ?_
  exact hfin _ ⟨⟨hJ2, t1_2, t2_2, t3_2, t4_2, t5_2⟩, gq2, hC2, ty_2⟩
set_option maxHeartbeats 2000000 in
set_option maxRecDepth 100000 in
theorem lw_op1 {p : Program} {l : Launch} {e : Env} {s : State} {m : MethodId} {below : List Frame} {meth : Method} {c : Code} {b L : Nat} {xs : Nat → Int32} {Q : State → Prop} {dC : Nat → ClassId} {dI : Nat → Nat → Nat} {ad : Nat → Nat} {cA : Nat → ClassId} {A : Nat → Prop} (Cb : jj_C p room_1 s m #[Value.ref b] c 118 20643 code 4 RL [] dC dI ad cA A) (hts : ∀ w ∈ lw_tbl, w.before #[Value.ref b] s = true) (hL : L ≤ 3072) (hX : va_X b L xs s s.heap) (hbl : b < s.heap.size) (hbA : ¬ A b) {i : Int} (hi : 0 ≤ i ∧ i + 6 ≤ L) (hfin : ∀ M : mm_M, LJ (i + 6) M → jj p l e room_1 s m #[Value.ref b] below meth c 118 20643 Q 4 dC dI ad cA A M 1466 [(3, .int (sI i)), (2, .ref (ad 98)), (1, .ref (ad 0)), (0, .ref b)] []) (M : mm_M) (hI0 : LJ i M) : jj p l e room_1 s m #[Value.ref b] below meth c 118 20643 Q 4 dC dI ad cA A M 287 [(3, .int (sI i)), (2, .ref (ad 98)), (1, .ref (ad 0)), (0, .ref b)] [] := by
  obtain ⟨⟨hJ0, t1_0, t2_0, t3_0, t4_0, t5_0⟩, gq0, hC, ty_0⟩ := hI0
  have C : jj_C p room_1 s m #[Value.ref b] c 118 20643 code 4 RL tL_shop dC dI ad cA A := ⟨⟨Cb.1.1, Cb.1.2.1, Cb.1.2.2.1, Cb.1.2.2.2.1, fun w h => hts w (tL_shop_in w h)⟩, Cb.2⟩
  rcases gq0 with ⟨p4, p5⟩ | ⟨p4, p5⟩
  · have egp : 2 = M.2.2 0 4 := p4.symm
    have hq : QG 2 := Or.inl rfl
    rw [p4] at hC
    have cgp : s_c 2 = 6 := qg_c hq
    have hb := bpx_i hJ0.1
    have hE := hC.1.1.1
    have hS := hC.1.1.2.2.2
    have qq := pre_c hC hJ0.2.1 (by (clear hS hE hb cgp hq egp p5 p4 C ty_0 hC t5_0 t4_0 t3_0 t2_0 t1_0 hJ0 hfin hbA hbl hX hts Cb; omega))
    refine j_aload_n C 2 1 dL_law_287 rfl rfl ?_
    refine j_aload_n C 3 0 dL_law_288 rfl rfl ?_
    refine j_iload_n C 0 3 dL_law_289 rfl rfl ?_
    refine y_iconst C dL_law_290 ?_
    refine y_iadd C dL_law_291 ?_
    refine y_sldx C hX hbl hbA hL (by omega) dL_law_292 ?_
    refine j_callVi C (d := 29) (As := [.int (sI (xs (i + 1).toNat).toInt)]) (st := []) 0 (by decide) rfl (by decide) rfl (s2_X11_shop (iv_0 (prX [(6, 0), (6, 1), (7, 3), (7, 4), (8, 0), (10, 1), (10, 2), (10, 3), (10, 4), (10, 5)]) hJ0) (hPX [(6, 0), (6, 1), (7, 3), (7, 4), (8, 0), (10, 1), (10, 2), (10, 3), (10, 4), (10, 5)]) (fun i h => hXc (c := 7) rfl h) (fun i h => hXc (c := 7) rfl h) (fun i h => hXc (c := 6) rfl h) (fun i h => hXc (c := 6) rfl h) (fun i h => hXc (c := 8) rfl h) (fun i h => hXc (c := 10) rfl h) (fun i h => hXc (c := 10) rfl h) (fun i h => hXc (c := 10) rfl h) (fun i h => hXc (c := 10) rfl h) (fun i h => hXc (c := 10) rfl h) (xs (i + 1).toNat).toInt (sI_r _) p4 p5) tL_shop_x rfl hdLX11_shop (by decide) (Nat.le_of_ble_eq_true rfl) dL_law_293 rfl (fun r1 M1 hp1 => ?_)
    obtain ⟨a1, rfl, hV1, hf1⟩ := hp1
    have hQc := fun (_ : Unit) => hf1.2.2.2.1
    have hSJ := hf1.2.2.2.2
    replace hf1 := And.intro hf1.1 (And.intro hf1.2.1 hf1.2.2.1)
    have hJ1 := li_x (cs := [(6, 0), (6, 1), (7, 3), (7, 4), (8, 0), (10, 1), (10, 2), (10, 3), (10, 4), (10, 5)]) (by decide) hJ0 hV1
    have g1 := congrArg Int32.toInt (xf hV1 (i := 98) (k := 5) rfl rfl)
    have w1 : (M.1 0 1).toInt = (M.1 98 5).toInt := t1_0
    have t2_1 := t2_x t2_0 hV1 rfl (fun _ => rfl)
    have t3_1 := t3_x t3_0 hV1 ⟨rfl, rfl⟩ (fun _ => rfl) (fun _ => rfl)
    have u0 : (M.1 0 2).toInt = (M.1 98 13).toInt ∧ (M.1 0 3).toInt = (M.1 98 14).toInt := t5_0
    have g13 := congrArg Int32.toInt (xf hV1 (i := 98) (k := 13) rfl rfl)
    have g14 := congrArg Int32.toInt (xf hV1 (i := 98) (k := 14) rfl rfl)
    have u3 := hV1.rd (i := 0) (c := 10) (k := 2) rfl (show s_b 10 2 = ((-2147483648), 2147483647) from rfl)
    have u1 := rd_c (M := M) (M1 := M1) t4_0 (fun k => xf hV1 (i := 101) (k := k) rfl rfl) (xs (i + 1).toNat).toInt
    have e99 : M1.1 99 = M.1 99 := funext fun k => xf hV1 (i := 99) (k := k) rfl rfl
    refine j_pop C dL_law_296 rfl ?_
    refine j_aload_n C 1 2 dL_law_297 rfl rfl ?_
    refine j_aload_n C 3 0 dL_law_298 rfl rfl ?_
    refine j_iload_n C 0 3 dL_law_299 rfl rfl ?_
    refine y_iconst C dL_law_300 ?_
    refine y_iadd C dL_law_301 ?_
    refine y_sldx C hX hbl hbA hL (by omega) dL_law_302 ?_
    refine j_callVi C (d := 33) (As := [.int (sI (xs (i + 1).toNat).toInt)]) (st := []) 98 (by decide) rfl (by decide) rfl (s1_X12_shop (iv_0 (prM [(11, 5), (11, 13), (11, 14), (45, 1000)]) hJ1) (hPM [(11, 5), (11, 13), (11, 14), (45, 1000)]) (fun i h => hMc (c := 11) rfl h) (fun i h => hMc (c := 11) rfl h) (fun i h => hMc (c := 11) rfl h) (fun i k h => hMc (c := 45) rfl h) (xs (i + 1).toNat).toInt (sI_r _) hJ1.2.2 hJ1.2.1) tL_shop_m rfl hdLX12_shop (by decide) (Nat.le_of_ble_eq_true rfl) dL_law_303 rfl (fun r2 M2 hp2 => ?_)
    obtain ⟨a2, rfl, hV2, hF2, hf2⟩ := hp2
    have hQr := fun (_ : Unit) => And.intro hf2.2.2.2.2.1 hf2.2.2.2.2.2.1
    replace hf2 := And.intro hf2.1 (And.intro hf2.2.1 (And.intro hf2.2.2.1 (And.intro hf2.2.2.2.1 hf2.2.2.2.2.2.2)))
    have hJ2 := li_0 hV2 (by exact hf2.2.2.2.2) (by exact hf2.2.2.1)
    have g2 := congrArg Int32.toInt (mf hV2 (i := 0) (k := 1) rfl rfl)
    have t1_2 : T1 M2 := by unfold T1; (clear hJ2 hQr hF2 hV2 e99 u3 g14 g13 u0 t3_1 t2_1 hJ1 hSJ hQc hV1 qq hS hE hb cgp hq egp p5 p4 C ty_0 hC t5_0 t4_0 t3_0 t2_0 t1_0 hJ0 hfin hi hbA hbl hX hL hts Cb; omega)
    have t2_2 := t2_m t2_1 hV2 rfl (fun _ => rfl)
    have t3_2 := t3_m t3_1 hV2 ⟨rfl, rfl⟩ (fun _ => rfl) (fun _ => rfl)
    have h2 := congrArg Int32.toInt (mf hV2 (i := 0) (k := 2) rfl rfl)
    have h3 := congrArg Int32.toInt (mf hV2 (i := 0) (k := 3) rfl rfl)
    have u2 := sbN_p (rdP (mskT (M1.1 101) (xs (i + 1).toNat).toInt) (xs (i + 1).toNat).toInt).1
    have t5_2 : T5 M2 := by unfold T5; (clear t3_2 t2_2 t1_2 g2 hJ2 hQr hF2 hV2 e99 t3_1 t2_1 hJ1 hSJ hQc hV1 qq hS hE hb cgp hq egp p5 p4 C ty_0 hC t5_0 t4_0 t3_0 t2_0 t1_0 hJ0 hfin hi hbA hbl hX hL hts Cb; omega)
    have t4_2 : T4 M2 := t4_sh (M := M) (M1 := M1) (M2 := M2) (n := (xs (i + 1).toNat).toInt) t4_0 (by (clear t5_2 h3 h2 t3_2 t2_2 t1_2 hJ2 hQr hF2 hV2 e99 u3 g14 g13 u0 t3_1 t2_1 hJ1 hSJ hQc hV1 qq hS hE hb cgp hq egp p5 p4 C ty_0 hC t5_0 t4_0 t3_0 t2_0 t1_0 hJ0 hfin hi hbA hbl hX hL hts Cb; omega)) (fun k => mf hV2 (i := 1) (k := k) rfl rfl) (fun k => mf hV2 (i := 101) (k := k) rfl rfl) (fun k => xf hV1 (i := 1) (k := k) rfl rfl) (fun k => xf hV1 (i := 101) (k := k) rfl rfl)
    have h99 := h99b (iv_0 (prM []) hJ2) 0 (by decide)
    have hfx := op_sh (G := 2) (SP := 7) (n := (xs (i + 1).toNat).toInt) (x := 17 * i) (y := (17 * (i + 6))) (by decide) hJ0.1 hJ1.1 hC ⟨h99 0 (by decide), h99 1 (by decide)⟩ (g1.trans w1.symm) t4_0 e99 (funext fun k => xf hV1 (i := 101) (k := k) rfl rfl) hF2 rfl hSJ (u1.imp id (fun z => z.1)) (hQc ()) (hQr ()).1 (hQr ()).2 ⟨by (clear h99 t4_2 t5_2 u2 h3 h2 t3_2 t2_2 t1_2 g2 hJ2 hf2 hQr hF2 hV2 e99 u1 u3 g14 g13 u0 t3_1 t2_1 w1 g1 hJ1 hf1 hSJ hQc hV1 qq hS hE hb cgp hq egp p5 p4 C ty_0 hC t5_0 t4_0 t3_0 t2_0 t1_0 hJ0 hfin hbA hbl hX hL hts Cb; omega), by omega⟩
    obtain ⟨gq2, hC2, trs⟩ := hfx
    have ty_2 : TYT M2 := tyt_f (tyt_s ty_0 trs (funext fun k => xj hV1 (i := 117) (k := k) rfl rfl)) (cfr_f hF2 (by decide)) (hF2.cellJ (by decide))
    refine j_pop C dL_law_306 rfl ?_
    refine j_goto C 1466 dL_law_307 (by decide) ?_
    exact hfin _ ⟨⟨hJ2, t1_2, t2_2, t3_2, t4_2, t5_2⟩, gq2, hC2, ty_2⟩
  · have egp : 7 = M.2.2 0 4 := p4.symm
    have hq : QG 7 := Or.inr rfl
    rw [p4] at hC
    have cgp : s_c 7 = 6 := qg_c hq
    have hb := bpx_i hJ0.1
    have hE := hC.1.1.1
    have hS := hC.1.1.2.2.2
    have qq := pre_c hC hJ0.2.1 (by omega)
    refine j_aload_n C 2 1 dL_law_287 rfl rfl ?_
    refine j_aload_n C 3 0 dL_law_288 rfl rfl ?_
    refine j_iload_n C 0 3 dL_law_289 rfl rfl ?_
    refine y_iconst C dL_law_290 ?_
    refine y_iadd C dL_law_291 ?_
    refine y_sldx C hX hbl hbA hL (by omega) dL_law_292 ?_
    refine j_callVi C (d := 29) (As := [.int (sI (xs (i + 1).toNat).toInt)]) (st := []) 0 (by decide) rfl (by decide) rfl (s3_X11_shop (iv_0 (prX [(6, 0), (6, 1), (7, 3), (7, 4), (8, 0), (10, 1), (10, 2), (10, 3), (10, 4), (10, 5)]) hJ0) (hPX [(6, 0), (6, 1), (7, 3), (7, 4), (8, 0), (10, 1), (10, 2), (10, 3), (10, 4), (10, 5)]) (fun i h => hXc (c := 7) rfl h) (fun i h => hXc (c := 7) rfl h) (fun i h => hXc (c := 6) rfl h) (fun i h => hXc (c := 6) rfl h) (fun i h => hXc (c := 8) rfl h) (fun i h => hXc (c := 10) rfl h) (fun i h => hXc (c := 10) rfl h) (fun i h => hXc (c := 10) rfl h) (fun i h => hXc (c := 10) rfl h) (fun i h => hXc (c := 10) rfl h) (xs (i + 1).toNat).toInt (sI_r _) p4 p5) tL_shop_x rfl hdLX11_shop (by decide) (Nat.le_of_ble_eq_true rfl) dL_law_293 rfl (fun r1 M1 hp1 => ?_)
    obtain ⟨a1, rfl, hV1, hf1⟩ := hp1
    have hQc := fun (_ : Unit) => hf1.2.2.2.1
    have hSJ := hf1.2.2.2.2
    replace hf1 := And.intro hf1.1 (And.intro hf1.2.1 hf1.2.2.1)
    have hJ1 := li_x (cs := [(6, 0), (6, 1), (7, 3), (7, 4), (8, 0), (10, 1), (10, 2), (10, 3), (10, 4), (10, 5)]) (by decide) hJ0 hV1
    have g1 := congrArg Int32.toInt (xf hV1 (i := 98) (k := 5) rfl rfl)
    have w1 : (M.1 0 1).toInt = (M.1 98 5).toInt := t1_0
    have t2_1 := t2_x t2_0 hV1 rfl (fun _ => rfl)
    have t3_1 := t3_x t3_0 hV1 ⟨rfl, rfl⟩ (fun _ => rfl) (fun _ => rfl)
    have u0 : (M.1 0 2).toInt = (M.1 98 13).toInt ∧ (M.1 0 3).toInt = (M.1 98 14).toInt := t5_0
    have g13 := congrArg Int32.toInt (xf hV1 (i := 98) (k := 13) rfl rfl)
    have g14 := congrArg Int32.toInt (xf hV1 (i := 98) (k := 14) rfl rfl)
    have u3 := hV1.rd (i := 0) (c := 10) (k := 2) rfl (show s_b 10 2 = ((-2147483648), 2147483647) from rfl)
    have u1 := rd_c (M := M) (M1 := M1) t4_0 (fun k => xf hV1 (i := 101) (k := k) rfl rfl) (xs (i + 1).toNat).toInt
    have e99 : M1.1 99 = M.1 99 := funext fun k => xf hV1 (i := 99) (k := k) rfl rfl
    refine j_pop C dL_law_296 rfl ?_
    refine j_aload_n C 1 2 dL_law_297 rfl rfl ?_
    refine j_aload_n C 3 0 dL_law_298 rfl rfl ?_
    refine j_iload_n C 0 3 dL_law_299 rfl rfl ?_
    refine y_iconst C dL_law_300 ?_
    refine y_iadd C dL_law_301 ?_
    refine y_sldx C hX hbl hbA hL (by omega) dL_law_302 ?_
    refine j_callVi C (d := 33) (As := [.int (sI (xs (i + 1).toNat).toInt)]) (st := []) 98 (by decide) rfl (by decide) rfl (s1_X12_shop (iv_0 (prM [(11, 5), (11, 13), (11, 14), (45, 1000)]) hJ1) (hPM [(11, 5), (11, 13), (11, 14), (45, 1000)]) (fun i h => hMc (c := 11) rfl h) (fun i h => hMc (c := 11) rfl h) (fun i h => hMc (c := 11) rfl h) (fun i k h => hMc (c := 45) rfl h) (xs (i + 1).toNat).toInt (sI_r _) hJ1.2.2 hJ1.2.1) tL_shop_m rfl hdLX12_shop (by decide) (Nat.le_of_ble_eq_true rfl) dL_law_303 rfl (fun r2 M2 hp2 => ?_)
    obtain ⟨a2, rfl, hV2, hF2, hf2⟩ := hp2
    have hQr := fun (_ : Unit) => And.intro hf2.2.2.2.2.1 hf2.2.2.2.2.2.1
    replace hf2 := And.intro hf2.1 (And.intro hf2.2.1 (And.intro hf2.2.2.1 (And.intro hf2.2.2.2.1 hf2.2.2.2.2.2.2)))
    have hJ2 := li_0 hV2 (by exact hf2.2.2.2.2) (by exact hf2.2.2.1)
    have g2 := congrArg Int32.toInt (mf hV2 (i := 0) (k := 1) rfl rfl)
    have t1_2 : T1 M2 := by unfold T1; (clear hJ2 hQr hF2 hV2 e99 u3 g14 g13 u0 t3_1 t2_1 hJ1 hSJ hQc hV1 qq hS hE hb cgp hq egp p5 p4 C ty_0 hC t5_0 t4_0 t3_0 t2_0 t1_0 hJ0 hfin hi hbA hbl hX hL hts Cb; omega)
    have t2_2 := t2_m t2_1 hV2 rfl (fun _ => rfl)
    have t3_2 := t3_m t3_1 hV2 ⟨rfl, rfl⟩ (fun _ => rfl) (fun _ => rfl)
    have h2 := congrArg Int32.toInt (mf hV2 (i := 0) (k := 2) rfl rfl)
    have h3 := congrArg Int32.toInt (mf hV2 (i := 0) (k := 3) rfl rfl)
    have u2 := sbN_p (rdP (mskT (M1.1 101) (xs (i + 1).toNat).toInt) (xs (i + 1).toNat).toInt).1
    have t5_2 : T5 M2 := by unfold T5; (clear t3_2 t2_2 t1_2 g2 hJ2 hQr hF2 hV2 e99 t3_1 t2_1 hJ1 hSJ hQc hV1 qq hS hE hb cgp hq egp p5 p4 C ty_0 hC t5_0 t4_0 t3_0 t2_0 t1_0 hJ0 hfin hi hbA hbl hX hL hts Cb; omega)
    have t4_2 : T4 M2 := t4_sh (M := M) (M1 := M1) (M2 := M2) (n := (xs (i + 1).toNat).toInt) t4_0 (by (clear t5_2 h3 h2 t3_2 t2_2 t1_2 hJ2 hQr hF2 hV2 e99 u3 g14 g13 u0 t3_1 t2_1 hJ1 hSJ hQc hV1 qq hS hE hb cgp hq egp p5 p4 C ty_0 hC t5_0 t4_0 t3_0 t2_0 t1_0 hJ0 hfin hi hbA hbl hX hL hts Cb; omega)) (fun k => mf hV2 (i := 1) (k := k) rfl rfl) (fun k => mf hV2 (i := 101) (k := k) rfl rfl) (fun k => xf hV1 (i := 1) (k := k) rfl rfl) (fun k => xf hV1 (i := 101) (k := k) rfl rfl)
    have h99 := h99b (iv_0 (prM []) hJ2) 0 (by decide)
    have hfx := op_sh (G := 7) (SP := 2) (n := (xs (i + 1).toNat).toInt) (x := 17 * i) (y := (17 * (i + 6))) (by decide) hJ0.1 hJ1.1 hC ⟨h99 0 (by decide), h99 1 (by decide)⟩ (g1.trans w1.symm) t4_0 e99 (funext fun k => xf hV1 (i := 101) (k := k) rfl rfl) hF2 rfl hSJ (u1.imp id (fun z => z.1)) (hQc ()) (hQr ()).1 (hQr ()).2 ⟨by omega, by omega⟩
    obtain ⟨gq2, hC2, trs⟩ := hfx
    have ty_2 : TYT M2 := tyt_f (tyt_s ty_0 trs (funext fun k => xj hV1 (i := 117) (k := k) rfl rfl)) (cfr_f hF2 (by decide)) (hF2.cellJ (by decide))
    refine j_pop C dL_law_306 rfl ?_
    refine j_goto C 1466 dL_law_307 (by decide) ?_
    exact hfin _ ⟨⟨hJ2, t1_2, t2_2, t3_2, t4_2, t5_2⟩, gq2, hC2, ty_2⟩
set_option maxHeartbeats 2000000 in
set_option maxRecDepth 100000 in
theorem lw_op2 {p : Program} {l : Launch} {e : Env} {s : State} {m : MethodId} {below : List Frame} {meth : Method} {c : Code} {b L : Nat} {xs : Nat → Int32} {Q : State → Prop} {dC : Nat → ClassId} {dI : Nat → Nat → Nat} {ad : Nat → Nat} {cA : Nat → ClassId} {A : Nat → Prop} (Cb : jj_C p room_1 s m #[Value.ref b] c 118 20643 code 4 RL [] dC dI ad cA A) (hts : ∀ w ∈ lw_tbl, w.before #[Value.ref b] s = true) (hL : L ≤ 3072) (hX : va_X b L xs s s.heap) (hbl : b < s.heap.size) (hbA : ¬ A b) {i : Int} (hi : 0 ≤ i ∧ i + 6 ≤ L) (hfin : ∀ M : mm_M, LJ (i + 6) M → jj p l e room_1 s m #[Value.ref b] below meth c 118 20643 Q 4 dC dI ad cA A M 1466 [(3, .int (sI i)), (2, .ref (ad 98)), (1, .ref (ad 0)), (0, .ref b)] []) (M : mm_M) (hI0 : LJ i M) : jj p l e room_1 s m #[Value.ref b] below meth c 118 20643 Q 4 dC dI ad cA A M 310 [(3, .int (sI i)), (2, .ref (ad 98)), (1, .ref (ad 0)), (0, .ref b)] [] := by
  obtain ⟨⟨hJ0, t1_0, t2_0, t3_0, t4_0, t5_0⟩, gq0, hC, ty_0⟩ := hI0
  have C : jj_C p room_1 s m #[Value.ref b] c 118 20643 code 4 RL tL_fault dC dI ad cA A := ⟨⟨Cb.1.1, Cb.1.2.1, Cb.1.2.2.1, Cb.1.2.2.2.1, fun w h => hts w (tL_fault_in w h)⟩, Cb.2⟩
  obtain ⟨gp, egp⟩ : ∃ gp, gp = M.2.2 0 4 := ⟨_, rfl⟩
  rw [← egp] at hC
  have hq : QG gp := by
    rcases gq0 with ⟨p4, _⟩ | ⟨p4, _⟩
    · exact Or.inl (egp.trans p4)
    · exact Or.inr (egp.trans p4)
  have cgp : s_c gp = 6 := qg_c hq
  have hb := bpx_i hJ0.1
  have hE := hC.1.1.1
  have hS := hC.1.1.2.2.2
  have qq := pre_c hC hJ0.2.1 (by omega)
  refine j_aload_n C 2 1 dL_law_310 rfl rfl ?_
  refine j_aload_n C 3 0 dL_law_311 rfl rfl ?_
  refine j_iload_n C 0 3 dL_law_312 rfl rfl ?_
  refine y_iconst C dL_law_313 ?_
  refine y_iadd C dL_law_314 ?_
  refine y_sldx C hX hbl hbA hL (by omega) dL_law_315 ?_
  refine j_callVi C (d := 0) (As := [.int (sI (xs (i + 1).toNat).toInt)]) (st := []) 0 (by decide) rfl (by decide) rfl (s1_X11_fault (iv_0 (prX []) hJ0) (xs (i + 1).toNat).toInt (sI_r _)) tL_fault_x rfl hdLX11_fault (by decide) (Nat.le_of_ble_eq_true rfl) dL_law_316 rfl (fun r1 M1 hp1 => ?_)
  obtain ⟨a1, rfl, eM1, hf1⟩ := hp1
  subst eM1
  have hJ1 := hJ0
  have t1_1 := t1_0
  have t2_1 := t2_0
  have t3_1 := t3_0
  have t4_1 := t4_0
  have t5_1 := t5_0
  have ty_1 := ty_0
  refine j_pop C dL_law_319 rfl ?_
  refine j_aload_n C 1 2 dL_law_320 rfl rfl ?_
  refine j_aload_n C 3 0 dL_law_321 rfl rfl ?_
  refine j_iload_n C 0 3 dL_law_322 rfl rfl ?_
  refine y_iconst C dL_law_323 ?_
  refine y_iadd C dL_law_324 ?_
  refine y_sldx C hX hbl hbA hL (by (clear ty_1 t5_1 t4_1 t3_1 t2_1 t1_1 hJ1 hf1 qq hS hE hb cgp hq egp hC C ty_0 gq0 t5_0 t4_0 t3_0 t2_0 t1_0 hJ0 hfin hbA hbl hX hL hts Cb; omega)) dL_law_325 ?_
  refine j_callVi C (d := 0) (As := [.int (sI (xs (i + 1).toNat).toInt)]) (st := []) 98 (by decide) rfl (by decide) rfl (s1_X12_fault (iv_0 (prM []) hJ1) (hPM []) (xs (i + 1).toNat).toInt (sI_r _) hJ1.2.1) tL_fault_m rfl hdLX12_fault (by decide) (Nat.le_of_ble_eq_true rfl) dL_law_326 rfl (fun r2 M2 hp2 => ?_)
  obtain ⟨a2, rfl, hV2, hF2, hf2⟩ := hp2
  have hJ2 := li_m (cs := []) (fun _ => rfl) hJ1 hV2 (by exact hf2.2.2.2)
  have t1_2 := t1_m t1_1 hV2 rfl rfl
  have t2_2 := t2_m t2_1 hV2 rfl (fun _ => rfl)
  have t3_2 := t3_m t3_1 hV2 ⟨rfl, rfl⟩ (fun _ => rfl) (fun _ => rfl)
  have t4_2 := t4_m2 t4_1 hV2 rfl (fun _ => rfl) (fun _ => rfl)
  have t5_2 := t5_m t5_1 hV2 ⟨rfl, rfl⟩ ⟨rfl, rfl⟩
  have e99 : M.1 99 = M.1 99 := rfl
  have gq1 := gq0
  have hc1 : CTS M gp (M.1 99) (17 * (i + 6)) := cts_le hb cgp hC (by (clear gq1 e99 t5_2 t4_2 t3_2 t2_2 t1_2 hJ2 hf2 hF2 hV2 ty_1 t5_1 t4_1 t3_1 t2_1 t1_1 hJ1 hf1 qq hS hE hb cgp hq egp hC C ty_0 gq0 t5_0 t4_0 t3_0 t2_0 t1_0 hJ0 hfin hi hbA hbl hX hL hts Cb; omega))
  have e2 : M2.1 99 = (M.1 99) := (hF2.cell (by decide)).trans e99
  have hc2 := fin_m hq hJ1.1 hc1 hF2 rfl e2
  have gq2 : GPQ M2 := gpq_c gq1 (by rw [hF2.2.1]) (by rw [hF2.2.1])
  have hC2 : CTS M2 (M2.2.2 0 4) (M2.1 99) (17 * (i + 6)) := by rw [hF2.2.1, ← egp]; exact hc2
  have ty_2 : TYT M2 := tyt_f ty_1 (cfr_f hF2 (by decide)) (hF2.cellJ (by decide))
  refine j_pop C dL_law_329 rfl ?_
  refine j_goto C 1466 dL_law_330 (by decide) ?_
  exact hfin _ ⟨⟨hJ2, t1_2, t2_2, t3_2, t4_2, t5_2⟩, gq2, hC2, ty_2⟩
set_option maxHeartbeats 2000000 in
set_option maxRecDepth 100000 in
theorem lw_op3 {p : Program} {l : Launch} {e : Env} {s : State} {m : MethodId} {below : List Frame} {meth : Method} {c : Code} {b L : Nat} {xs : Nat → Int32} {Q : State → Prop} {dC : Nat → ClassId} {dI : Nat → Nat → Nat} {ad : Nat → Nat} {cA : Nat → ClassId} {A : Nat → Prop} (Cb : jj_C p room_1 s m #[Value.ref b] c 118 20643 code 4 RL [] dC dI ad cA A) (hts : ∀ w ∈ lw_tbl, w.before #[Value.ref b] s = true) (hL : L ≤ 3072) (hX : va_X b L xs s s.heap) (hbl : b < s.heap.size) (hbA : ¬ A b) {i : Int} (hi : 0 ≤ i ∧ i + 6 ≤ L) (hfin : ∀ M : mm_M, LJ (i + 6) M → jj p l e room_1 s m #[Value.ref b] below meth c 118 20643 Q 4 dC dI ad cA A M 1466 [(3, .int (sI i)), (2, .ref (ad 98)), (1, .ref (ad 0)), (0, .ref b)] []) (M : mm_M) (hI0 : LJ i M) : jj p l e room_1 s m #[Value.ref b] below meth c 118 20643 Q 4 dC dI ad cA A M 333 [(3, .int (sI i)), (2, .ref (ad 98)), (1, .ref (ad 0)), (0, .ref b)] [] := by
  obtain ⟨⟨hJ0, t1_0, t2_0, t3_0, t4_0, t5_0⟩, gq0, hC, ty_0⟩ := hI0
  have C : jj_C p room_1 s m #[Value.ref b] c 118 20643 code 4 RL tL_kind dC dI ad cA A := ⟨⟨Cb.1.1, Cb.1.2.1, Cb.1.2.2.1, Cb.1.2.2.2.1, fun w h => hts w (tL_kind_in w h)⟩, Cb.2⟩
  obtain ⟨gp, egp⟩ : ∃ gp, gp = M.2.2 0 4 := ⟨_, rfl⟩
  rw [← egp] at hC
  have hq : QG gp := by
    rcases gq0 with ⟨p4, _⟩ | ⟨p4, _⟩
    · exact Or.inl (egp.trans p4)
    · exact Or.inr (egp.trans p4)
  have cgp : s_c gp = 6 := qg_c hq
  have hb := bpx_i hJ0.1
  have hE := hC.1.1.1
  have hS := hC.1.1.2.2.2
  have qq := pre_c hC hJ0.2.1 (by omega)
  refine j_aload_n C 2 1 dL_law_333 rfl rfl ?_
  refine j_aload_n C 3 0 dL_law_334 rfl rfl ?_
  refine j_iload_n C 0 3 dL_law_335 rfl rfl ?_
  refine y_iconst C dL_law_336 ?_
  refine y_iadd C dL_law_337 ?_
  refine y_sldx C hX hbl hbA hL (by omega) dL_law_338 ?_
  refine j_aload_n C 3 0 dL_law_339 rfl rfl ?_
  refine j_iload_n C 0 3 dL_law_340 rfl rfl ?_
  refine y_iconst C dL_law_341 ?_
  refine y_iadd C dL_law_342 ?_
  refine y_sldx C hX hbl hbA hL (by omega) dL_law_343 ?_
  refine j_callVi C (d := 5) (As := [.int (sI (xs (i + 1).toNat).toInt), .int (sI (xs (i + 2).toNat).toInt)]) (st := []) 0 (by decide) rfl (by decide) rfl (s2_X11_kind (iv_0 (prX []) hJ0) (hPX []) (xs (i + 1).toNat).toInt (sI_r _) (xs (i + 2).toNat).toInt (sI_r _) gp cgp egp qq.1 qq.2.1 qq.2.2.1) tL_kind_x rfl hdLX11_kind (by decide) (Nat.le_of_ble_eq_true rfl) dL_law_344 rfl (fun r1 M1 hp1 => ?_)
  obtain ⟨a1, rfl, hV1, hF1, hf1⟩ := hp1
  have hJ1 := li_x (cs := []) (by decide) hJ0 hV1
  have t1_1 := t1_x t1_0 hV1 rfl rfl
  have t2_1 := t2_x t2_0 hV1 rfl (fun _ => rfl)
  have t3_1 := t3_x t3_0 hV1 ⟨rfl, rfl⟩ (fun _ => rfl) (fun _ => rfl)
  have t4_1 := t4_x t4_0 hV1 rfl (fun _ => rfl) (fun _ => rfl)
  have t5_1 := t5_x t5_0 hV1 ⟨rfl, rfl⟩ ⟨rfl, rfl⟩
  have e99 : M1.1 99 = M.1 99 := hF1.cell (by decide)
  have g4 := xp hV1 (i := 0) (k := 4) rfl rfl
  have g5 := xp hV1 (i := 0) (k := 5) rfl rfl
  have gq1 : GPQ M1 := gpq_c gq0 g4 g5
  have ty_1 : TYT M1 := tyt_s ty_0 (trs_f hF1 (by decide)) (hF1.cellJ (by decide))
  have hc1 : CTS M1 gp (M.1 99) (17 * (i + 6)) := fin_x hq hJ0.1 hC hF1 rfl (by exact hf1.2.2.2) (by omega)
  have w1 := eq_kn hE (xs (i + 1).toNat).toInt (xs (i + 2).toNat).toInt
  refine j_pop C dL_law_347 rfl ?_
  refine j_aload_n C 1 2 dL_law_348 rfl rfl ?_
  refine j_aload_n C 3 0 dL_law_349 rfl rfl ?_
  refine j_iload_n C 0 3 dL_law_350 rfl rfl ?_
  refine y_iconst C dL_law_351 ?_
  refine y_iadd C dL_law_352 ?_
  refine y_sldx C hX hbl hbA hL (by omega) dL_law_353 ?_
  refine j_aload_n C 3 0 dL_law_354 rfl rfl ?_
  refine j_iload_n C 0 3 dL_law_355 rfl rfl ?_
  refine y_iconst C dL_law_356 ?_
  refine y_iadd C dL_law_357 ?_
  refine y_sldx C hX hbl hbA hL (by omega) dL_law_358 ?_
  refine j_callVi C (d := 6) (As := [.int (sI (xs (i + 1).toNat).toInt), .int (sI (xs (i + 2).toNat).toInt)]) (st := []) 98 (by decide) rfl (by decide) rfl (s1_X12_kind (iv_0 (prM []) hJ1) (hPM []) (li_cw (cs := []) (fun _ => rfl) hJ1) (xs (i + 1).toNat).toInt (sI_r _) (xs (i + 2).toNat).toInt (sI_r _) hJ1.2.1) tL_kind_m rfl hdLX12_kind (by decide) (Nat.le_of_ble_eq_true rfl) dL_law_359 rfl (fun r2 M2 hp2 => ?_)
  obtain ⟨a2, rfl, hV2, hF2, hf2⟩ := hp2
  have hJ2 := li_m (cs := []) (fun _ => rfl) hJ1 hV2 (by exact hf2.2.2.2)
  have t1_2 := t1_m t1_1 hV2 rfl rfl
  have t2_2 := t2_m t2_1 hV2 rfl (fun _ => rfl)
  have t3_2 := t3_m t3_1 hV2 ⟨rfl, rfl⟩ (fun _ => rfl) (fun _ => rfl)
  have t4_2 := t4_m2 t4_1 hV2 rfl (fun _ => rfl) (fun _ => rfl)
  have t5_2 := t5_m t5_1 hV2 ⟨rfl, rfl⟩ ⟨rfl, rfl⟩
  rw [e99] at hf2
  have e2 : M2.1 99 = (M.1 99) := (hF2.cell (by decide)).trans e99
  have hc2 := fin_m hq hJ1.1 hc1 hF2 rfl e2
  have gq2 : GPQ M2 := gpq_c gq1 (by rw [hF2.2.1]) (by rw [hF2.2.1])
  have hC2 : CTS M2 (M2.2.2 0 4) (M2.1 99) (17 * (i + 6)) := by rw [hF2.2.1, g4, ← egp]; exact hc2
  have ty_2 : TYT M2 := tyt_f ty_1 (cfr_f hF2 (by decide)) (hF2.cellJ (by decide))
  refine j_pop C dL_law_362 rfl ?_
  refine j_goto C 1466 dL_law_363 (by decide) ?_
  exact hfin _ ⟨⟨hJ2, t1_2, t2_2, t3_2, t4_2, t5_2⟩, gq2, hC2, ty_2⟩
set_option maxHeartbeats 2000000 in
set_option maxRecDepth 100000 in
theorem lw_op4 {p : Program} {l : Launch} {e : Env} {s : State} {m : MethodId} {below : List Frame} {meth : Method} {c : Code} {b L : Nat} {xs : Nat → Int32} {Q : State → Prop} {dC : Nat → ClassId} {dI : Nat → Nat → Nat} {ad : Nat → Nat} {cA : Nat → ClassId} {A : Nat → Prop} (Cb : jj_C p room_1 s m #[Value.ref b] c 118 20643 code 4 RL [] dC dI ad cA A) (hts : ∀ w ∈ lw_tbl, w.before #[Value.ref b] s = true) (hL : L ≤ 3072) (hX : va_X b L xs s s.heap) (hbl : b < s.heap.size) (hbA : ¬ A b) {i : Int} (hi : 0 ≤ i ∧ i + 6 ≤ L) (hfin : ∀ M : mm_M, LJ (i + 6) M → jj p l e room_1 s m #[Value.ref b] below meth c 118 20643 Q 4 dC dI ad cA A M 1466 [(3, .int (sI i)), (2, .ref (ad 98)), (1, .ref (ad 0)), (0, .ref b)] []) (M : mm_M) (hI0 : LJ i M) : jj p l e room_1 s m #[Value.ref b] below meth c 118 20643 Q 4 dC dI ad cA A M 366 [(3, .int (sI i)), (2, .ref (ad 98)), (1, .ref (ad 0)), (0, .ref b)] [] := by
  obtain ⟨⟨hJ0, t1_0, t2_0, t3_0, t4_0, t5_0⟩, gq0, hC, ty_0⟩ := hI0
  have C : jj_C p room_1 s m #[Value.ref b] c 118 20643 code 4 RL tL_buyer dC dI ad cA A := ⟨⟨Cb.1.1, Cb.1.2.1, Cb.1.2.2.1, Cb.1.2.2.2.1, fun w h => hts w (tL_buyer_in w h)⟩, Cb.2⟩
  obtain ⟨gp, egp⟩ : ∃ gp, gp = M.2.2 0 4 := ⟨_, rfl⟩
  rw [← egp] at hC
  have hq : QG gp := by
    rcases gq0 with ⟨p4, _⟩ | ⟨p4, _⟩
    · exact Or.inl (egp.trans p4)
    · exact Or.inr (egp.trans p4)
  have cgp : s_c gp = 6 := qg_c hq
  have hb := bpx_i hJ0.1
  have hE := hC.1.1.1
  have hS := hC.1.1.2.2.2
  have qq := pre_c hC hJ0.2.1 (by omega)
  refine j_aload_n C 2 1 dL_law_366 rfl rfl ?_
  refine j_aload_n C 3 0 dL_law_367 rfl rfl ?_
  refine j_iload_n C 0 3 dL_law_368 rfl rfl ?_
  refine y_iconst C dL_law_369 ?_
  refine y_iadd C dL_law_370 ?_
  refine y_sldx C hX hbl hbA hL (by omega) dL_law_371 ?_
  refine j_aload_n C 3 0 dL_law_372 rfl rfl ?_
  refine j_iload_n C 0 3 dL_law_373 rfl rfl ?_
  refine y_iconst C dL_law_374 ?_
  refine y_iadd C dL_law_375 ?_
  refine y_sldx C hX hbl hbA hL (by omega) dL_law_376 ?_
  refine j_callVi C (d := 4) (As := [.int (sI (xs (i + 1).toNat).toInt), .int (sI (xs (i + 2).toNat).toInt)]) (st := []) 0 (by decide) rfl (by decide) rfl (s2_X11_buyer (iv_0 (prX []) hJ0) (hPX []) (xs (i + 1).toNat).toInt (sI_r _) (xs (i + 2).toNat).toInt (sI_r _) gp cgp egp qq.1 qq.2.1 qq.2.2.1) tL_buyer_x rfl hdLX11_buyer (by decide) (Nat.le_of_ble_eq_true rfl) dL_law_377 rfl (fun r1 M1 hp1 => ?_)
  obtain ⟨a1, rfl, hV1, hF1, hf1⟩ := hp1
  have hJ1 := li_x (cs := []) (by decide) hJ0 hV1
  have t1_1 := t1_x t1_0 hV1 rfl rfl
  have t2_1 := t2_x t2_0 hV1 rfl (fun _ => rfl)
  have t3_1 := t3_x t3_0 hV1 ⟨rfl, rfl⟩ (fun _ => rfl) (fun _ => rfl)
  have t4_1 := t4_x t4_0 hV1 rfl (fun _ => rfl) (fun _ => rfl)
  have t5_1 := t5_x t5_0 hV1 ⟨rfl, rfl⟩ ⟨rfl, rfl⟩
  have e99 : M1.1 99 = M.1 99 := hF1.cell (by decide)
  have g4 := xp hV1 (i := 0) (k := 4) rfl rfl
  have g5 := xp hV1 (i := 0) (k := 5) rfl rfl
  have gq1 : GPQ M1 := gpq_c gq0 g4 g5
  have ty_1 : TYT M1 := tyt_s ty_0 (trs_f hF1 (by decide)) (hF1.cellJ (by decide))
  have hc1 : CTS M1 gp (M.1 99) (17 * (i + 6)) := fin_x hq hJ0.1 hC hF1 rfl (by exact hf1.2.2.2) (by omega)
  have w1 := eq_by hE (xs (i + 1).toNat).toInt (xs (i + 2).toNat).toInt
  refine j_pop C dL_law_380 rfl ?_
  refine j_aload_n C 1 2 dL_law_381 rfl rfl ?_
  refine j_aload_n C 3 0 dL_law_382 rfl rfl ?_
  refine j_iload_n C 0 3 dL_law_383 rfl rfl ?_
  refine y_iconst C dL_law_384 ?_
  refine y_iadd C dL_law_385 ?_
  refine y_sldx C hX hbl hbA hL (by omega) dL_law_386 ?_
  refine j_aload_n C 3 0 dL_law_387 rfl rfl ?_
  refine j_iload_n C 0 3 dL_law_388 rfl rfl ?_
  refine y_iconst C dL_law_389 ?_
  refine y_iadd C dL_law_390 ?_
  refine y_sldx C hX hbl hbA hL (by omega) dL_law_391 ?_
  refine j_callVi C (d := 5) (As := [.int (sI (xs (i + 1).toNat).toInt), .int (sI (xs (i + 2).toNat).toInt)]) (st := []) 98 (by decide) rfl (by decide) rfl (s1_X12_buyer (iv_0 (prM []) hJ1) (hPM []) (li_cw (cs := []) (fun _ => rfl) hJ1) (xs (i + 1).toNat).toInt (sI_r _) (xs (i + 2).toNat).toInt (sI_r _) hJ1.2.1) tL_buyer_m rfl hdLX12_buyer (by decide) (Nat.le_of_ble_eq_true rfl) dL_law_392 rfl (fun r2 M2 hp2 => ?_)
  obtain ⟨a2, rfl, hV2, hF2, hf2⟩ := hp2
  have hJ2 := li_m (cs := []) (fun _ => rfl) hJ1 hV2 (by exact hf2.2.2.2)
  have t1_2 := t1_m t1_1 hV2 rfl rfl
  have t2_2 := t2_m t2_1 hV2 rfl (fun _ => rfl)
  have t3_2 := t3_m t3_1 hV2 ⟨rfl, rfl⟩ (fun _ => rfl) (fun _ => rfl)
  have t4_2 := t4_m2 t4_1 hV2 rfl (fun _ => rfl) (fun _ => rfl)
  have t5_2 := t5_m t5_1 hV2 ⟨rfl, rfl⟩ ⟨rfl, rfl⟩
  rw [e99] at hf2
  have e2 : M2.1 99 = (M.1 99) := (hF2.cell (by decide)).trans e99
  have hc2 := fin_m hq hJ1.1 hc1 hF2 rfl e2
  have gq2 : GPQ M2 := gpq_c gq1 (by rw [hF2.2.1]) (by rw [hF2.2.1])
  have hC2 : CTS M2 (M2.2.2 0 4) (M2.1 99) (17 * (i + 6)) := by rw [hF2.2.1, g4, ← egp]; exact hc2
  have ty_2 : TYT M2 := tyt_f ty_1 (cfr_f hF2 (by decide)) (hF2.cellJ (by decide))
  refine j_pop C dL_law_395 rfl ?_
  refine j_goto C 1466 dL_law_396 (by decide) ?_
  exact hfin _ ⟨⟨hJ2, t1_2, t2_2, t3_2, t4_2, t5_2⟩, gq2, hC2, ty_2⟩
set_option maxHeartbeats 2000000 in
set_option maxRecDepth 100000 in
theorem lw_op5 {p : Program} {l : Launch} {e : Env} {s : State} {m : MethodId} {below : List Frame} {meth : Method} {c : Code} {b L : Nat} {xs : Nat → Int32} {Q : State → Prop} {dC : Nat → ClassId} {dI : Nat → Nat → Nat} {ad : Nat → Nat} {cA : Nat → ClassId} {A : Nat → Prop} (Cb : jj_C p room_1 s m #[Value.ref b] c 118 20643 code 4 RL [] dC dI ad cA A) (hts : ∀ w ∈ lw_tbl, w.before #[Value.ref b] s = true) (hL : L ≤ 3072) (hX : va_X b L xs s s.heap) (hbl : b < s.heap.size) (hbA : ¬ A b) {i : Int} (hi : 0 ≤ i ∧ i + 6 ≤ L) (hfin : ∀ M : mm_M, LJ (i + 6) M → jj p l e room_1 s m #[Value.ref b] below meth c 118 20643 Q 4 dC dI ad cA A M 1466 [(3, .int (sI i)), (2, .ref (ad 98)), (1, .ref (ad 0)), (0, .ref b)] []) (M : mm_M) (hI0 : LJ i M) : jj p l e room_1 s m #[Value.ref b] below meth c 118 20643 Q 4 dC dI ad cA A M 399 [(3, .int (sI i)), (2, .ref (ad 98)), (1, .ref (ad 0)), (0, .ref b)] [] := by
  obtain ⟨⟨hJ0, t1_0, t2_0, t3_0, t4_0, t5_0⟩, gq0, hC, ty_0⟩ := hI0
  have C : jj_C p room_1 s m #[Value.ref b] c 118 20643 code 4 RL tL_wants dC dI ad cA A := ⟨⟨Cb.1.1, Cb.1.2.1, Cb.1.2.2.1, Cb.1.2.2.2.1, fun w h => hts w (tL_wants_in w h)⟩, Cb.2⟩
  obtain ⟨gp, egp⟩ : ∃ gp, gp = M.2.2 0 4 := ⟨_, rfl⟩
  rw [← egp] at hC
  have hq : QG gp := by
    rcases gq0 with ⟨p4, _⟩ | ⟨p4, _⟩
    · exact Or.inl (egp.trans p4)
    · exact Or.inr (egp.trans p4)
  have cgp : s_c gp = 6 := qg_c hq
  have hb := bpx_i hJ0.1
  have hE := hC.1.1.1
  have hS := hC.1.1.2.2.2
  have qq := pre_c hC hJ0.2.1 (by omega)
  refine j_aload_n C 2 1 dL_law_399 rfl rfl ?_
  refine j_aload_n C 3 0 dL_law_400 rfl rfl ?_
  refine j_iload_n C 0 3 dL_law_401 rfl rfl ?_
  refine y_iconst C dL_law_402 ?_
  refine y_iadd C dL_law_403 ?_
  refine y_sldx C hX hbl hbA hL (by omega) dL_law_404 ?_
  refine j_aload_n C 3 0 dL_law_405 rfl rfl ?_
  refine j_iload_n C 0 3 dL_law_406 rfl rfl ?_
  refine y_iconst C dL_law_407 ?_
  refine y_iadd C dL_law_408 ?_
  refine y_sldx C hX hbl hbA hL (by omega) dL_law_409 ?_
  refine j_callVi C (d := 3) (As := [.int (sI (xs (i + 1).toNat).toInt), .int (sI (xs (i + 2).toNat).toInt)]) (st := []) 0 (by decide) rfl (by decide) rfl (s2_X11_wants (iv_0 (prX []) hJ0) (hPX []) (xs (i + 1).toNat).toInt (sI_r _) (xs (i + 2).toNat).toInt (sI_r _) gp cgp egp qq.1 qq.2.1 qq.2.2.1) tL_wants_x rfl hdLX11_wants (by decide) (Nat.le_of_ble_eq_true rfl) dL_law_410 rfl (fun r1 M1 hp1 => ?_)
  obtain ⟨a1, rfl, hV1, hF1, hf1⟩ := hp1
  have hJ1 := li_x (cs := []) (by decide) hJ0 hV1
  have t1_1 := t1_x t1_0 hV1 rfl rfl
  have t2_1 := t2_x t2_0 hV1 rfl (fun _ => rfl)
  have t3_1 := t3_x t3_0 hV1 ⟨rfl, rfl⟩ (fun _ => rfl) (fun _ => rfl)
  have t4_1 := t4_x t4_0 hV1 rfl (fun _ => rfl) (fun _ => rfl)
  have t5_1 := t5_x t5_0 hV1 ⟨rfl, rfl⟩ ⟨rfl, rfl⟩
  have e99 : M1.1 99 = M.1 99 := hF1.cell (by decide)
  have g4 := xp hV1 (i := 0) (k := 4) rfl rfl
  have g5 := xp hV1 (i := 0) (k := 5) rfl rfl
  have gq1 : GPQ M1 := gpq_c gq0 g4 g5
  have ty_1 : TYT M1 := tyt_s ty_0 (trs_f hF1 (by decide)) (hF1.cellJ (by decide))
  have hc1 : CTS M1 gp (M.1 99) (17 * (i + 6)) := fin_x hq hJ0.1 hC hF1 rfl (by exact hf1.2.2.2) (by omega)
  have w1 := eq_ws hE (xs (i + 1).toNat).toInt (xs (i + 2).toNat).toInt
  refine j_pop C dL_law_413 rfl ?_
  refine j_aload_n C 1 2 dL_law_414 rfl rfl ?_
  refine j_aload_n C 3 0 dL_law_415 rfl rfl ?_
  refine j_iload_n C 0 3 dL_law_416 rfl rfl ?_
  refine y_iconst C dL_law_417 ?_
  refine y_iadd C dL_law_418 ?_
  refine y_sldx C hX hbl hbA hL (by omega) dL_law_419 ?_
  refine j_aload_n C 3 0 dL_law_420 rfl rfl ?_
  refine j_iload_n C 0 3 dL_law_421 rfl rfl ?_
  refine y_iconst C dL_law_422 ?_
  refine y_iadd C dL_law_423 ?_
  refine y_sldx C hX hbl hbA hL (by omega) dL_law_424 ?_
  refine j_callVi C (d := 3) (As := [.int (sI (xs (i + 1).toNat).toInt), .int (sI (xs (i + 2).toNat).toInt)]) (st := []) 98 (by decide) rfl (by decide) rfl (s1_X12_wants (iv_0 (prM []) hJ1) (hPM []) (li_cw (cs := []) (fun _ => rfl) hJ1) (xs (i + 1).toNat).toInt (sI_r _) (xs (i + 2).toNat).toInt (sI_r _) hJ1.2.1) tL_wants_m rfl hdLX12_wants (by decide) (Nat.le_of_ble_eq_true rfl) dL_law_425 rfl (fun r2 M2 hp2 => ?_)
  obtain ⟨a2, rfl, hV2, hF2, hf2⟩ := hp2
  have hJ2 := li_m (cs := []) (fun _ => rfl) hJ1 hV2 (by exact hf2.2.2.2)
  have t1_2 := t1_m t1_1 hV2 rfl rfl
  have t2_2 := t2_m t2_1 hV2 rfl (fun _ => rfl)
  have t3_2 := t3_m t3_1 hV2 ⟨rfl, rfl⟩ (fun _ => rfl) (fun _ => rfl)
  have t4_2 := t4_m2 t4_1 hV2 rfl (fun _ => rfl) (fun _ => rfl)
  have t5_2 := t5_m t5_1 hV2 ⟨rfl, rfl⟩ ⟨rfl, rfl⟩
  rw [e99] at hf2
  have e2 : M2.1 99 = (M.1 99) := (hF2.cell (by decide)).trans e99
  have hc2 := fin_m hq hJ1.1 hc1 hF2 rfl e2
  have gq2 : GPQ M2 := gpq_c gq1 (by rw [hF2.2.1]) (by rw [hF2.2.1])
  have hC2 : CTS M2 (M2.2.2 0 4) (M2.1 99) (17 * (i + 6)) := by rw [hF2.2.1, g4, ← egp]; exact hc2
  have ty_2 : TYT M2 := tyt_f ty_1 (cfr_f hF2 (by decide)) (hF2.cellJ (by decide))
  refine j_pop C dL_law_428 rfl ?_
  refine j_goto C 1466 dL_law_429 (by decide) ?_
  exact hfin _ ⟨⟨hJ2, t1_2, t2_2, t3_2, t4_2, t5_2⟩, gq2, hC2, ty_2⟩
set_option maxHeartbeats 2000000 in
set_option maxRecDepth 100000 in
theorem lw_op6 {p : Program} {l : Launch} {e : Env} {s : State} {m : MethodId} {below : List Frame} {meth : Method} {c : Code} {b L : Nat} {xs : Nat → Int32} {Q : State → Prop} {dC : Nat → ClassId} {dI : Nat → Nat → Nat} {ad : Nat → Nat} {cA : Nat → ClassId} {A : Nat → Prop} (Cb : jj_C p room_1 s m #[Value.ref b] c 118 20643 code 4 RL [] dC dI ad cA A) (hts : ∀ w ∈ lw_tbl, w.before #[Value.ref b] s = true) (hL : L ≤ 3072) (hX : va_X b L xs s s.heap) (hbl : b < s.heap.size) (hbA : ¬ A b) {i : Int} (hi : 0 ≤ i ∧ i + 6 ≤ L) (hfin : ∀ M : mm_M, LJ (i + 6) M → jj p l e room_1 s m #[Value.ref b] below meth c 118 20643 Q 4 dC dI ad cA A M 1466 [(3, .int (sI i)), (2, .ref (ad 98)), (1, .ref (ad 0)), (0, .ref b)] []) (M : mm_M) (hI0 : LJ i M) : jj p l e room_1 s m #[Value.ref b] below meth c 118 20643 Q 4 dC dI ad cA A M 432 [(3, .int (sI i)), (2, .ref (ad 98)), (1, .ref (ad 0)), (0, .ref b)] [] := by
  obtain ⟨⟨hJ0, t1_0, t2_0, t3_0, t4_0, t5_0⟩, gq0, hC, ty_0⟩ := hI0
  have C : jj_C p room_1 s m #[Value.ref b] c 118 20643 code 4 RL tL_seed dC dI ad cA A := ⟨⟨Cb.1.1, Cb.1.2.1, Cb.1.2.2.1, Cb.1.2.2.2.1, fun w h => hts w (tL_seed_in w h)⟩, Cb.2⟩
  obtain ⟨gp, egp⟩ : ∃ gp, gp = M.2.2 0 4 := ⟨_, rfl⟩
  rw [← egp] at hC
  have hq : QG gp := by
    rcases gq0 with ⟨p4, _⟩ | ⟨p4, _⟩
    · exact Or.inl (egp.trans p4)
    · exact Or.inr (egp.trans p4)
  have cgp : s_c gp = 6 := qg_c hq
  have hb := bpx_i hJ0.1
  have hE := hC.1.1.1
  have hS := hC.1.1.2.2.2
  have qq := pre_c hC hJ0.2.1 (by omega)
  refine j_aload_n C 2 1 dL_law_432 rfl rfl ?_
  refine j_aload_n C 3 0 dL_law_433 rfl rfl ?_
  refine j_iload_n C 0 3 dL_law_434 rfl rfl ?_
  refine y_iconst C dL_law_435 ?_
  refine y_iadd C dL_law_436 ?_
  refine y_sldx C hX hbl hbA hL (by omega) dL_law_437 ?_
  refine j_callVi C (d := 2) (As := [.int (sI (xs (i + 1).toNat).toInt)]) (st := []) 0 (by decide) rfl (by decide) rfl (s2_X11_seed (iv_0 (prX [(8, 0)]) hJ0) (hPX [(8, 0)]) (fun i h => hXc (c := 8) rfl h) (xs (i + 1).toNat).toInt (sI_r _) gp cgp egp qq.1) tL_seed_x rfl hdLX11_seed (by decide) (Nat.le_of_ble_eq_true rfl) dL_law_438 rfl (fun r1 M1 hp1 => ?_)
  obtain ⟨a1, rfl, hV1, hF1, hf1⟩ := hp1
  have hJ1 := li_x (cs := [(8, 0)]) (by decide) hJ0 hV1
  have t1_1 := t1_x t1_0 hV1 rfl rfl
  have t2_1 := t2_x t2_0 hV1 rfl (fun _ => rfl)
  have t3_1 := t3_x t3_0 hV1 ⟨rfl, rfl⟩ (fun _ => rfl) (fun _ => rfl)
  have t4_1 := t4_x t4_0 hV1 rfl (fun _ => rfl) (fun _ => rfl)
  have t5_1 := t5_x t5_0 hV1 ⟨rfl, rfl⟩ ⟨rfl, rfl⟩
  have e99 : M1.1 99 = M.1 99 := hF1.cell (by decide)
  have g4 := xp hV1 (i := 0) (k := 4) rfl rfl
  have g5 := xp hV1 (i := 0) (k := 5) rfl rfl
  have gq1 : GPQ M1 := gpq_c gq0 g4 g5
  have ty_1 : TYT M1 := tyt_s ty_0 (trs_f hF1 (by decide)) (hF1.cellJ (by decide))
  have fq := fx_q hq hF1 rfl
  have hc1 : CTS M1 gp (ntF (uR (M.1 99) 32 (xs (i + 1).toNat).toInt) (kpF (M.1 99))) (17 * (i + 6)) := cts_sd hb cgp hC fq.1 (by omega) fq.2.1 fq.2.2 (by omega) (by omega) (by omega)
  have w1 : (M.1 12 8).toInt = (M.1 99 32).toInt := congrArg Int32.toInt (eq_k hE).2.2.2.2.2.1
  refine j_pop C dL_law_441 rfl ?_
  refine j_aload_n C 1 2 dL_law_442 rfl rfl ?_
  refine j_aload_n C 3 0 dL_law_443 rfl rfl ?_
  refine j_iload_n C 0 3 dL_law_444 rfl rfl ?_
  refine y_iconst C dL_law_445 ?_
  refine y_iadd C dL_law_446 ?_
  refine y_sldx C hX hbl hbA hL (by omega) dL_law_447 ?_
  refine j_callVi C (d := 1) (As := [.int (sI (xs (i + 1).toNat).toInt)]) (st := []) 98 (by decide) rfl (by decide) rfl (s1_X12_seed (iv_0 (prM []) hJ1) (hPM []) (xs (i + 1).toNat).toInt (sI_r _) hJ1.2.1) tL_seed_m rfl hdLX12_seed (by decide) (Nat.le_of_ble_eq_true rfl) dL_law_448 rfl (fun r2 M2 hp2 => ?_)
  obtain ⟨a2, rfl, hV2, hF2, hf2⟩ := hp2
  have hJ2 := li_m (cs := []) (fun _ => rfl) hJ1 hV2 (by omega)
  have t1_2 := t1_m t1_1 hV2 rfl rfl
  have t2_2 := t2_m t2_1 hV2 rfl (fun _ => rfl)
  have t3_2 := t3_m t3_1 hV2 ⟨rfl, rfl⟩ (fun _ => rfl) (fun _ => rfl)
  have t4_2 := t4_m2 t4_1 hV2 rfl (fun _ => rfl) (fun _ => rfl)
  have t5_2 := t5_m t5_1 hV2 ⟨rfl, rfl⟩ ⟨rfl, rfl⟩
  rw [e99] at hf2
  have e2 : M2.1 99 = (ntF (uR (M.1 99) 32 (xs (i + 1).toNat).toInt) (kpF (M.1 99))) := b01_e (by omega)
  have hc2 := fin_m hq hJ1.1 hc1 hF2 rfl e2
  have gq2 : GPQ M2 := gpq_c gq1 (by rw [hF2.2.1]) (by rw [hF2.2.1])
  have hC2 : CTS M2 (M2.2.2 0 4) (M2.1 99) (17 * (i + 6)) := by rw [hF2.2.1, g4, ← egp]; exact hc2
  have ty_2 : TYT M2 := tyt_f ty_1 (cfr_f hF2 (by decide)) (hF2.cellJ (by decide))
  refine j_pop C dL_law_451 rfl ?_
  refine j_goto C 1466 dL_law_452 (by decide) ?_
  exact hfin _ ⟨⟨hJ2, t1_2, t2_2, t3_2, t4_2, t5_2⟩, gq2, hC2, ty_2⟩
set_option maxHeartbeats 2000000 in
set_option maxRecDepth 100000 in
theorem lw_op7 {p : Program} {l : Launch} {e : Env} {s : State} {m : MethodId} {below : List Frame} {meth : Method} {c : Code} {b L : Nat} {xs : Nat → Int32} {Q : State → Prop} {dC : Nat → ClassId} {dI : Nat → Nat → Nat} {ad : Nat → Nat} {cA : Nat → ClassId} {A : Nat → Prop} (Cb : jj_C p room_1 s m #[Value.ref b] c 118 20643 code 4 RL [] dC dI ad cA A) (hts : ∀ w ∈ lw_tbl, w.before #[Value.ref b] s = true) (hL : L ≤ 3072) (hX : va_X b L xs s s.heap) (hbl : b < s.heap.size) (hbA : ¬ A b) {i : Int} (hi : 0 ≤ i ∧ i + 6 ≤ L) (hfin : ∀ M : mm_M, LJ (i + 6) M → jj p l e room_1 s m #[Value.ref b] below meth c 118 20643 Q 4 dC dI ad cA A M 1466 [(3, .int (sI i)), (2, .ref (ad 98)), (1, .ref (ad 0)), (0, .ref b)] []) (M : mm_M) (hI0 : LJ i M) : jj p l e room_1 s m #[Value.ref b] below meth c 118 20643 Q 4 dC dI ad cA A M 455 [(3, .int (sI i)), (2, .ref (ad 98)), (1, .ref (ad 0)), (0, .ref b)] [] := by
  obtain ⟨⟨hJ0, t1_0, t2_0, t3_0, t4_0, t5_0⟩, gq0, hC, ty_0⟩ := hI0
  have C : jj_C p room_1 s m #[Value.ref b] c 118 20643 code 4 RL tL_visit dC dI ad cA A := ⟨⟨Cb.1.1, Cb.1.2.1, Cb.1.2.2.1, Cb.1.2.2.2.1, fun w h => hts w (tL_visit_in w h)⟩, Cb.2⟩
  obtain ⟨gp, egp⟩ : ∃ gp, gp = M.2.2 0 4 := ⟨_, rfl⟩
  rw [← egp] at hC
  have hq : QG gp := by
    rcases gq0 with ⟨p4, _⟩ | ⟨p4, _⟩
    · exact Or.inl (egp.trans p4)
    · exact Or.inr (egp.trans p4)
  have cgp : s_c gp = 6 := qg_c hq
  have hb := bpx_i hJ0.1
  have hE := hC.1.1.1
  have hS := hC.1.1.2.2.2
  have qq := pre_c hC hJ0.2.1 (by omega)
  refine j_aload_n C 2 1 dL_law_455 rfl rfl ?_
  refine j_aload_n C 3 0 dL_law_456 rfl rfl ?_
  refine j_iload_n C 0 3 dL_law_457 rfl rfl ?_
  refine y_iconst C dL_law_458 ?_
  refine y_iadd C dL_law_459 ?_
  refine y_sldx C hX hbl hbA hL (by omega) dL_law_460 ?_
  refine j_callVi C (d := 5) (As := [.int (sI (xs (i + 1).toNat).toInt)]) (st := []) 0 (by decide) rfl (by decide) rfl (s2_X11_visit (iv_0 (prX [(8, 0)]) hJ0) (hPX [(8, 0)]) (fun i h => hXc (c := 8) rfl h) (xs (i + 1).toNat).toInt (sI_r _) gp cgp egp qq.1 qq.2.1 qq.2.2.1) tL_visit_x rfl hdLX11_visit (by decide) (Nat.le_of_ble_eq_true rfl) dL_law_461 rfl (fun r1 M1 hp1 => ?_)
  obtain ⟨a1, rfl, hV1, hF1, hf1⟩ := hp1
  have hJ1 := li_x (cs := [(8, 0)]) (by decide) hJ0 hV1
  have t1_1 := t1_x t1_0 hV1 rfl rfl
  have t2_1 := t2_x t2_0 hV1 rfl (fun _ => rfl)
  have t3_1 := t3_x t3_0 hV1 ⟨rfl, rfl⟩ (fun _ => rfl) (fun _ => rfl)
  have t4_1 := t4_x t4_0 hV1 rfl (fun _ => rfl) (fun _ => rfl)
  have t5_1 := t5_x t5_0 hV1 ⟨rfl, rfl⟩ ⟨rfl, rfl⟩
  have e99 : M1.1 99 = M.1 99 := hF1.cell (by decide)
  have g4 := xp hV1 (i := 0) (k := 4) rfl rfl
  have g5 := xp hV1 (i := 0) (k := 5) rfl rfl
  have gq1 : GPQ M1 := gpq_c gq0 g4 g5
  have ty_1 : TYT M1 := tyt_s ty_0 (trs_f hF1 (by decide)) (hF1.cellJ (by decide))
  have fq := fx_q hq hF1 rfl
  have hc1 : CTS M1 gp (puI (wvF (M.1 99) (xs (i + 1).toNat).toInt) (M.1 99) (vsS (M.1 99) (xs (i + 1).toNat).toInt)) (17 * (i + 6)) := cts_b (r := a1) (wR := wvF (rwX M gp 12) (xs (i + 1).toNat).toInt) (A := bnF (rwX M gp 12) (xs (i + 1).toNat).toInt) (GR := vsS (rwX M gp 12) (xs (i + 1).toNat).toInt) hb cgp hC fq.1 (by exact hf1.2.2.2.2.1) fq.2.1 fq.2.2 (eq_wv hE _) (wvF_b _ _) (fun z => gg_vs hE hS (by omega) z) (by omega) (by exact hf1.2.2.1) (fun z => vs_A hE z) (by exact hf1.2.2.2.1) (by exact hf1.2.2.2.2.2)
  have w1 := an_vs hE (xs (i + 1).toNat).toInt
  refine j_pop C dL_law_464 rfl ?_
  refine j_aload_n C 1 2 dL_law_465 rfl rfl ?_
  refine j_aload_n C 3 0 dL_law_466 rfl rfl ?_
  refine j_iload_n C 0 3 dL_law_467 rfl rfl ?_
  refine y_iconst C dL_law_468 ?_
  refine y_iadd C dL_law_469 ?_
  refine y_sldx C hX hbl hbA hL (by omega) dL_law_470 ?_
  refine j_callVi C (d := 6) (As := [.int (sI (xs (i + 1).toNat).toInt)]) (st := []) 98 (by decide) rfl (by decide) rfl (s1_X12_visit (iv_0 (prM []) hJ1) (hPM []) (li_cw (cs := []) (fun _ => rfl) hJ1) (xs (i + 1).toNat).toInt (sI_r _) hJ1.2.1) tL_visit_m rfl hdLX12_visit (by decide) (Nat.le_of_ble_eq_true rfl) dL_law_471 rfl (fun r2 M2 hp2 => ?_)
  obtain ⟨a2, rfl, hV2, hF2, hf2⟩ := hp2
  have hJ2 := li_m (cs := []) (fun _ => rfl) hJ1 hV2 (by exact hf2.2.2.2.2)
  have t1_2 := t1_m t1_1 hV2 rfl rfl
  have t2_2 := t2_m t2_1 hV2 rfl (fun _ => rfl)
  have t3_2 := t3_m t3_1 hV2 ⟨rfl, rfl⟩ (fun _ => rfl) (fun _ => rfl)
  have t4_2 := t4_m2 t4_1 hV2 rfl (fun _ => rfl) (fun _ => rfl)
  have t5_2 := t5_m t5_1 hV2 ⟨rfl, rfl⟩ ⟨rfl, rfl⟩
  rw [e99] at hf2
  have e2 : M2.1 99 = (puI (wvF (M.1 99) (xs (i + 1).toNat).toInt) (M.1 99) (vsS (M.1 99) (xs (i + 1).toNat).toInt)) := b01_e (by exact hf2.2.2.2.1)
  have hc2 := fin_m hq hJ1.1 hc1 hF2 rfl e2
  have gq2 : GPQ M2 := gpq_c gq1 (by rw [hF2.2.1]) (by rw [hF2.2.1])
  have hC2 : CTS M2 (M2.2.2 0 4) (M2.1 99) (17 * (i + 6)) := by rw [hF2.2.1, g4, ← egp]; exact hc2
  have ty_2 : TYT M2 := tyt_f ty_1 (cfr_f hF2 (by decide)) (hF2.cellJ (by decide))
  refine j_pop C dL_law_474 rfl ?_
  refine j_goto C 1466 dL_law_475 (by decide) ?_
  exact hfin _ ⟨⟨hJ2, t1_2, t2_2, t3_2, t4_2, t5_2⟩, gq2, hC2, ty_2⟩
set_option maxHeartbeats 2000000 in
set_option maxRecDepth 100000 in
theorem lw_op8 {p : Program} {l : Launch} {e : Env} {s : State} {m : MethodId} {below : List Frame} {meth : Method} {c : Code} {b L : Nat} {xs : Nat → Int32} {Q : State → Prop} {dC : Nat → ClassId} {dI : Nat → Nat → Nat} {ad : Nat → Nat} {cA : Nat → ClassId} {A : Nat → Prop} (Cb : jj_C p room_1 s m #[Value.ref b] c 118 20643 code 4 RL [] dC dI ad cA A) (hts : ∀ w ∈ lw_tbl, w.before #[Value.ref b] s = true) (hL : L ≤ 3072) (hX : va_X b L xs s s.heap) (hbl : b < s.heap.size) (hbA : ¬ A b) {i : Int} (hi : 0 ≤ i ∧ i + 6 ≤ L) (hfin : ∀ M : mm_M, LJ (i + 6) M → jj p l e room_1 s m #[Value.ref b] below meth c 118 20643 Q 4 dC dI ad cA A M 1466 [(3, .int (sI i)), (2, .ref (ad 98)), (1, .ref (ad 0)), (0, .ref b)] []) (M : mm_M) (hI0 : LJ i M) : jj p l e room_1 s m #[Value.ref b] below meth c 118 20643 Q 4 dC dI ad cA A M 478 [(3, .int (sI i)), (2, .ref (ad 98)), (1, .ref (ad 0)), (0, .ref b)] [] := by
  obtain ⟨⟨hJ0, t1_0, t2_0, t3_0, t4_0, t5_0⟩, gq0, hC, ty_0⟩ := hI0
  have C : jj_C p room_1 s m #[Value.ref b] c 118 20643 code 4 RL tL_gift dC dI ad cA A := ⟨⟨Cb.1.1, Cb.1.2.1, Cb.1.2.2.1, Cb.1.2.2.2.1, fun w h => hts w (tL_gift_in w h)⟩, Cb.2⟩
  obtain ⟨gp, egp⟩ : ∃ gp, gp = M.2.2 0 4 := ⟨_, rfl⟩
  rw [← egp] at hC
  have hq : QG gp := by
    rcases gq0 with ⟨p4, _⟩ | ⟨p4, _⟩
    · exact Or.inl (egp.trans p4)
    · exact Or.inr (egp.trans p4)
  have cgp : s_c gp = 6 := qg_c hq
  have hb := bpx_i hJ0.1
  have hE := hC.1.1.1
  have hS := hC.1.1.2.2.2
  have qq := pre_c hC hJ0.2.1 (by omega)
  refine j_aload_n C 2 1 dL_law_478 rfl rfl ?_
  refine j_aload_n C 3 0 dL_law_479 rfl rfl ?_
  refine j_iload_n C 0 3 dL_law_480 rfl rfl ?_
  refine y_iconst C dL_law_481 ?_
  refine y_iadd C dL_law_482 ?_
  refine y_sldx C hX hbl hbA hL (by omega) dL_law_483 ?_
  refine j_callVi C (d := 3) (As := [.int (sI (xs (i + 1).toNat).toInt)]) (st := []) 0 (by decide) rfl (by decide) rfl (s2_X11_gift (iv_0 (prX [(8, 0)]) hJ0) (hPX [(8, 0)]) (fun i h => hXc (c := 8) rfl h) (xs (i + 1).toNat).toInt (sI_r _) gp cgp egp qq.1) tL_gift_x rfl hdLX11_gift (by decide) (Nat.le_of_ble_eq_true rfl) dL_law_484 rfl (fun r1 M1 hp1 => ?_)
  obtain ⟨a1, rfl, hV1, hF1, hf1⟩ := hp1
  have hJ1 := li_x (cs := [(8, 0)]) (by decide) hJ0 hV1
  have t1_1 := t1_x t1_0 hV1 rfl rfl
  have t2_1 := t2_x t2_0 hV1 rfl (fun _ => rfl)
  have t3_1 := t3_x t3_0 hV1 ⟨rfl, rfl⟩ (fun _ => rfl) (fun _ => rfl)
  have t4_1 := t4_x t4_0 hV1 rfl (fun _ => rfl) (fun _ => rfl)
  have t5_1 := t5_x t5_0 hV1 ⟨rfl, rfl⟩ ⟨rfl, rfl⟩
  have e99 : M1.1 99 = M.1 99 := hF1.cell (by decide)
  have g4 := xp hV1 (i := 0) (k := 4) rfl rfl
  have g5 := xp hV1 (i := 0) (k := 5) rfl rfl
  have gq1 : GPQ M1 := gpq_c gq0 g4 g5
  have ty_1 : TYT M1 := tyt_s ty_0 (trs_f hF1 (by decide)) (hF1.cellJ (by decide))
  have fq := fx_q hq hF1 rfl
  have hc1 : CTS M1 gp (puI (wkF (M.1 99) (xs (i + 1).toNat).toInt) (M.1 99) (gsS (M.1 99))) (17 * (i + 6)) := cts_b (r := a1) (wR := wkF (rwX M gp 12) (xs (i + 1).toNat).toInt) (A := addI ((rwX M gp 12) 30).toInt 1) (GR := gsS (rwX M gp 12)) hb cgp hC fq.1 (by exact hf1.2.2.2.2.1) fq.2.1 fq.2.2 (eq_wk hE _) (wkF_b _ _) (fun z => (gg_gs hE hS (by (clear z fq ty_1 gq1 g5 g4 e99 t5_1 t4_1 t3_1 t2_1 t1_1 hJ1 hf1 hF1 hV1 qq hS hE hb cgp hq egp hC C ty_0 gq0 t5_0 t4_0 t3_0 t2_0 t1_0 hJ0 hfin hbA hbl hX hts Cb; omega))).1) (by omega) (by exact hf1.2.2.1) (fun z => (gg_gs (y := 17 * (i + 6)) hE hS (by omega)).2) (by exact hf1.2.2.2.1) (by exact hf1.2.2.2.2.2)
  have w1 := an_gs hE (xs (i + 1).toNat).toInt
  refine j_pop C dL_law_487 rfl ?_
  refine j_aload_n C 1 2 dL_law_488 rfl rfl ?_
  refine j_aload_n C 3 0 dL_law_489 rfl rfl ?_
  refine j_iload_n C 0 3 dL_law_490 rfl rfl ?_
  refine y_iconst C dL_law_491 ?_
  refine y_iadd C dL_law_492 ?_
  refine y_sldx C hX hbl hbA hL (by omega) dL_law_493 ?_
  refine j_callVi C (d := 5) (As := [.int (sI (xs (i + 1).toNat).toInt)]) (st := []) 98 (by decide) rfl (by decide) rfl (s1_X12_gift (iv_0 (prM []) hJ1) (hPM []) (xs (i + 1).toNat).toInt (sI_r _) hJ1.2.1) tL_gift_m rfl hdLX12_gift (by decide) (Nat.le_of_ble_eq_true rfl) dL_law_494 rfl (fun r2 M2 hp2 => ?_)
  obtain ⟨a2, rfl, hV2, hF2, hf2⟩ := hp2
  have hJ2 := li_m (cs := []) (fun _ => rfl) hJ1 hV2 (by exact hf2.2.2.2.2)
  have t1_2 := t1_m t1_1 hV2 rfl rfl
  have t2_2 := t2_m t2_1 hV2 rfl (fun _ => rfl)
  have t3_2 := t3_m t3_1 hV2 ⟨rfl, rfl⟩ (fun _ => rfl) (fun _ => rfl)
  have t4_2 := t4_m2 t4_1 hV2 rfl (fun _ => rfl) (fun _ => rfl)
  have t5_2 := t5_m t5_1 hV2 ⟨rfl, rfl⟩ ⟨rfl, rfl⟩
  rw [e99] at hf2
  have e2 : M2.1 99 = (puI (wkF (M.1 99) (xs (i + 1).toNat).toInt) (M.1 99) (gsS (M.1 99))) := b01_e (by exact hf2.2.2.2.1)
  have hc2 := fin_m hq hJ1.1 hc1 hF2 rfl e2
  have gq2 : GPQ M2 := gpq_c gq1 (by rw [hF2.2.1]) (by rw [hF2.2.1])
  have hC2 : CTS M2 (M2.2.2 0 4) (M2.1 99) (17 * (i + 6)) := by rw [hF2.2.1, g4, ← egp]; exact hc2
  have ty_2 : TYT M2 := tyt_f ty_1 (cfr_f hF2 (by decide)) (hF2.cellJ (by decide))
  refine j_pop C dL_law_497 rfl ?_
  refine j_goto C 1466 dL_law_498 (by decide) ?_
  exact hfin _ ⟨⟨hJ2, t1_2, t2_2, t3_2, t4_2, t5_2⟩, gq2, hC2, ty_2⟩
set_option maxHeartbeats 2000000 in
set_option maxRecDepth 100000 in
theorem lw_op9 {p : Program} {l : Launch} {e : Env} {s : State} {m : MethodId} {below : List Frame} {meth : Method} {c : Code} {b L : Nat} {xs : Nat → Int32} {Q : State → Prop} {dC : Nat → ClassId} {dI : Nat → Nat → Nat} {ad : Nat → Nat} {cA : Nat → ClassId} {A : Nat → Prop} (Cb : jj_C p room_1 s m #[Value.ref b] c 118 20643 code 4 RL [] dC dI ad cA A) (hts : ∀ w ∈ lw_tbl, w.before #[Value.ref b] s = true) (hL : L ≤ 3072) (hX : va_X b L xs s s.heap) (hbl : b < s.heap.size) (hbA : ¬ A b) {i : Int} (hi : 0 ≤ i ∧ i + 6 ≤ L) (hfin : ∀ M : mm_M, LJ (i + 6) M → jj p l e room_1 s m #[Value.ref b] below meth c 118 20643 Q 4 dC dI ad cA A M 1466 [(3, .int (sI i)), (2, .ref (ad 98)), (1, .ref (ad 0)), (0, .ref b)] []) (M : mm_M) (hI0 : LJ i M) : jj p l e room_1 s m #[Value.ref b] below meth c 118 20643 Q 4 dC dI ad cA A M 501 [(3, .int (sI i)), (2, .ref (ad 98)), (1, .ref (ad 0)), (0, .ref b)] [] := by
  obtain ⟨⟨hJ0, t1_0, t2_0, t3_0, t4_0, t5_0⟩, gq0, hC, ty_0⟩ := hI0
  have C : jj_C p room_1 s m #[Value.ref b] c 118 20643 code 4 RL tL_hide dC dI ad cA A := ⟨⟨Cb.1.1, Cb.1.2.1, Cb.1.2.2.1, Cb.1.2.2.2.1, fun w h => hts w (tL_hide_in w h)⟩, Cb.2⟩
  obtain ⟨gp, egp⟩ : ∃ gp, gp = M.2.2 0 4 := ⟨_, rfl⟩
  rw [← egp] at hC
  have hq : QG gp := by
    rcases gq0 with ⟨p4, _⟩ | ⟨p4, _⟩
    · exact Or.inl (egp.trans p4)
    · exact Or.inr (egp.trans p4)
  have cgp : s_c gp = 6 := qg_c hq
  have hb := bpx_i hJ0.1
  have hE := hC.1.1.1
  have hS := hC.1.1.2.2.2
  have qq := pre_c hC hJ0.2.1 (by omega)
  refine j_aload_n C 2 1 dL_law_501 rfl rfl ?_
  refine j_aload_n C 3 0 dL_law_502 rfl rfl ?_
  refine j_iload_n C 0 3 dL_law_503 rfl rfl ?_
  refine y_iconst C dL_law_504 ?_
  refine y_iadd C dL_law_505 ?_
  refine y_sldx C hX hbl hbA hL (by omega) dL_law_506 ?_
  refine j_callVi C (d := 3) (As := [.int (sI (xs (i + 1).toNat).toInt)]) (st := []) 0 (by decide) rfl (by decide) rfl (s2_X11_hide (iv_0 (prX [(8, 0)]) hJ0) (hPX [(8, 0)]) (fun i h => hXc (c := 8) rfl h) (xs (i + 1).toNat).toInt (sI_r _) gp cgp egp qq.1) tL_hide_x rfl hdLX11_hide (by decide) (Nat.le_of_ble_eq_true rfl) dL_law_507 rfl (fun r1 M1 hp1 => ?_)
  obtain ⟨a1, rfl, hV1, hF1, hf1⟩ := hp1
  have hJ1 := li_x (cs := [(8, 0)]) (by decide) hJ0 hV1
  have t1_1 := t1_x t1_0 hV1 rfl rfl
  have t2_1 := t2_x t2_0 hV1 rfl (fun _ => rfl)
  have t3_1 := t3_x t3_0 hV1 ⟨rfl, rfl⟩ (fun _ => rfl) (fun _ => rfl)
  have t4_1 := t4_x t4_0 hV1 rfl (fun _ => rfl) (fun _ => rfl)
  have t5_1 := t5_x t5_0 hV1 ⟨rfl, rfl⟩ ⟨rfl, rfl⟩
  have e99 : M1.1 99 = M.1 99 := hF1.cell (by decide)
  have g4 := xp hV1 (i := 0) (k := 4) rfl rfl
  have g5 := xp hV1 (i := 0) (k := 5) rfl rfl
  have gq1 : GPQ M1 := gpq_c gq0 g4 g5
  have ty_1 : TYT M1 := tyt_s ty_0 (trs_f hF1 (by decide)) (hF1.cellJ (by decide))
  have fq := fx_q hq hF1 rfl
  have hc1 : CTS M1 gp (puI (wkF (M.1 99) (xs (i + 1).toNat).toInt) (M.1 99) (hsS (M.1 99) (xs (i + 1).toNat).toInt)) (17 * (i + 6)) := cts_b (r := a1) (wR := wkF (rwX M gp 12) (xs (i + 1).toNat).toInt) (A := andI (shrI (xorI ((rwX M gp 12) 28).toInt (pw2 (xs (i + 1).toNat).toInt)) (xs (i + 1).toNat).toInt) 1) (GR := hsS (rwX M gp 12) (xs (i + 1).toNat).toInt) hb cgp hC fq.1 (by omega) fq.2.1 fq.2.2 (eq_wk hE _) (wkF_b _ _) (fun z => gg_hs hE hS (by omega) _) (by omega) (by omega) (fun z => (andI_b _).1) (by omega) (by omega)
  have w1 := an_hs hE (xs (i + 1).toNat).toInt
  refine j_aload_n C 1 2 dL_law_510 rfl rfl ?_
  refine j_aload_n C 3 0 dL_law_511 rfl rfl ?_
  refine j_iload_n C 0 3 dL_law_512 rfl rfl ?_
  refine y_iconst C dL_law_513 ?_
  refine y_iadd C dL_law_514 ?_
  refine y_sldx C hX hbl hbA hL (by omega) dL_law_515 ?_
  refine j_callVi C (d := 5) (As := [.int (sI (xs (i + 1).toNat).toInt)]) (st := [.int (sI a1)]) 98 (by decide) rfl (by decide) rfl (s1_X12_hide (iv_0 (prM []) hJ1) (hPM []) (xs (i + 1).toNat).toInt (sI_r _) hJ1.2.1) tL_hide_m rfl hdLX12_hide (by decide) (Nat.le_of_ble_eq_true rfl) dL_law_516 rfl (fun r2 M2 hp2 => ?_)
  obtain ⟨a2, rfl, hV2, hF2, hf2⟩ := hp2
  have hJ2 := li_m (cs := []) (fun _ => rfl) hJ1 hV2 (by omega)
  have t1_2 := t1_m t1_1 hV2 rfl rfl
  have t2_2 := t2_m t2_1 hV2 rfl (fun _ => rfl)
  have t3_2 := t3_m t3_1 hV2 ⟨rfl, rfl⟩ (fun _ => rfl) (fun _ => rfl)
  have t4_2 := t4_m2 t4_1 hV2 rfl (fun _ => rfl) (fun _ => rfl)
  have t5_2 := t5_m t5_1 hV2 ⟨rfl, rfl⟩ ⟨rfl, rfl⟩
  rw [e99] at hf2
  have e2 : M2.1 99 = (puI (wkF (M.1 99) (xs (i + 1).toNat).toInt) (M.1 99) (hsS (M.1 99) (xs (i + 1).toNat).toInt)) := b01_e (by omega)
  have hc2 := fin_m hq hJ1.1 hc1 hF2 rfl e2
  have gq2 : GPQ M2 := gpq_c gq1 (by rw [hF2.2.1]) (by rw [hF2.2.1])
  have hC2 : CTS M2 (M2.2.2 0 4) (M2.1 99) (17 * (i + 6)) := by rw [hF2.2.1, g4, ← egp]; exact hc2
  have ty_2 : TYT M2 := tyt_f ty_1 (cfr_f hF2 (by decide)) (hF2.cellJ (by decide))
  refine y_icmp_eq C 1466 dL_law_519 (by decide) (by omega) (fun h => ?_) (fun h => ?_)
  · exact hfin _ ⟨⟨hJ2, t1_2, t2_2, t3_2, t4_2, t5_2⟩, gq2, hC2, ty_2⟩
  · exfalso; omega
set_option maxHeartbeats 2000000 in
set_option maxRecDepth 100000 in
theorem lw_op10 {p : Program} {l : Launch} {e : Env} {s : State} {m : MethodId} {below : List Frame} {meth : Method} {c : Code} {b L : Nat} {xs : Nat → Int32} {Q : State → Prop} {dC : Nat → ClassId} {dI : Nat → Nat → Nat} {ad : Nat → Nat} {cA : Nat → ClassId} {A : Nat → Prop} (Cb : jj_C p room_1 s m #[Value.ref b] c 118 20643 code 4 RL [] dC dI ad cA A) (hts : ∀ w ∈ lw_tbl, w.before #[Value.ref b] s = true) (hL : L ≤ 3072) (hX : va_X b L xs s s.heap) (hbl : b < s.heap.size) (hbA : ¬ A b) {i : Int} (hi : 0 ≤ i ∧ i + 6 ≤ L) (hfin : ∀ M : mm_M, LJ (i + 6) M → jj p l e room_1 s m #[Value.ref b] below meth c 118 20643 Q 4 dC dI ad cA A M 1466 [(3, .int (sI i)), (2, .ref (ad 98)), (1, .ref (ad 0)), (0, .ref b)] []) (M : mm_M) (hI0 : LJ i M) : jj p l e room_1 s m #[Value.ref b] below meth c 118 20643 Q 4 dC dI ad cA A M 524 [(3, .int (sI i)), (2, .ref (ad 98)), (1, .ref (ad 0)), (0, .ref b)] [] := by
  obtain ⟨⟨hJ0, t1_0, t2_0, t3_0, t4_0, t5_0⟩, gq0, hC, ty_0⟩ := hI0
  have C : jj_C p room_1 s m #[Value.ref b] c 118 20643 code 4 RL tL_add dC dI ad cA A := ⟨⟨Cb.1.1, Cb.1.2.1, Cb.1.2.2.1, Cb.1.2.2.2.1, fun w h => hts w (tL_add_in w h)⟩, Cb.2⟩
  obtain ⟨gp, egp⟩ : ∃ gp, gp = M.2.2 0 4 := ⟨_, rfl⟩
  rw [← egp] at hC
  have hq : QG gp := by
    rcases gq0 with ⟨p4, _⟩ | ⟨p4, _⟩
    · exact Or.inl (egp.trans p4)
    · exact Or.inr (egp.trans p4)
  have cgp : s_c gp = 6 := qg_c hq
  have hb := bpx_i hJ0.1
  have hE := hC.1.1.1
  have hS := hC.1.1.2.2.2
  have qq := pre_c hC hJ0.2.1 (by omega)
  refine j_aload_n C 2 1 dL_law_524 rfl rfl ?_
  refine j_aload_n C 3 0 dL_law_525 rfl rfl ?_
  refine j_iload_n C 0 3 dL_law_526 rfl rfl ?_
  refine y_iconst C dL_law_527 ?_
  refine y_iadd C dL_law_528 ?_
  refine y_sldx C hX hbl hbA hL (by omega) dL_law_529 ?_
  refine j_aload_n C 3 0 dL_law_530 rfl rfl ?_
  refine j_iload_n C 0 3 dL_law_531 rfl rfl ?_
  refine y_iconst C dL_law_532 ?_
  refine y_iadd C dL_law_533 ?_
  refine y_sldx C hX hbl hbA hL (by omega) dL_law_534 ?_
  refine j_callVi C (d := 3) (As := [.int (sI (xs (i + 1).toNat).toInt), .int (sI (xs (i + 2).toNat).toInt)]) (st := []) 0 (by decide) rfl (by decide) rfl (s2_X11_add (iv_0 (prX [(8, 0)]) hJ0) (hPX [(8, 0)]) (fun i h => hXc (c := 8) rfl h) (xs (i + 1).toNat).toInt (sI_r _) (xs (i + 2).toNat).toInt (sI_r _) gp cgp egp qq.1) tL_add_x rfl hdLX11_add (by decide) (Nat.le_of_ble_eq_true rfl) dL_law_535 rfl (fun r1 M1 hp1 => ?_)
  obtain ⟨a1, rfl, hV1, hF1, hf1⟩ := hp1
  have hJ1 := li_x (cs := [(8, 0)]) (by decide) hJ0 hV1
  have t1_1 := t1_x t1_0 hV1 rfl rfl
  have t2_1 := t2_x t2_0 hV1 rfl (fun _ => rfl)
  have t3_1 := t3_x t3_0 hV1 ⟨rfl, rfl⟩ (fun _ => rfl) (fun _ => rfl)
  have t4_1 := t4_x t4_0 hV1 rfl (fun _ => rfl) (fun _ => rfl)
  have t5_1 := t5_x t5_0 hV1 ⟨rfl, rfl⟩ ⟨rfl, rfl⟩
  have e99 : M1.1 99 = M.1 99 := hF1.cell (by decide)
  have g4 := xp hV1 (i := 0) (k := 4) rfl rfl
  have g5 := xp hV1 (i := 0) (k := 5) rfl rfl
  have gq1 : GPQ M1 := gpq_c gq0 g4 g5
  have ty_1 : TYT M1 := tyt_s ty_0 (trs_f hF1 (by decide)) (hF1.cellJ (by decide))
  have fq := fx_q hq hF1 rfl
  have hc1 : CTS M1 gp (puI (waF (M.1 99) (xs (i + 1).toNat).toInt (xs (i + 2).toNat).toInt) (M.1 99) (asS (M.1 99) (xs (i + 1).toNat).toInt (xs (i + 2).toNat).toInt)) (17 * (i + 6)) := cts_b (r := a1) (wR := waF (rwX M gp 12) (xs (i + 1).toNat).toInt (xs (i + 2).toNat).toInt) (A := ((rwX M gp 12) 26).toInt) (GR := asS (rwX M gp 12) (xs (i + 1).toNat).toInt (xs (i + 2).toNat).toInt) hb cgp hC fq.1 (by exact hf1.2.2.2.2.1) fq.2.1 fq.2.2 (eq_wa hE _ _) (waF_b _ _ _) (fun z => gg_as hE hS (by omega) z) (by omega) (by exact hf1.2.2.1) (fun z => r26 hE) (by exact hf1.2.2.2.1) (by exact hf1.2.2.2.2.2)
  have w1 := an_as hE (xs (i + 1).toNat).toInt (xs (i + 2).toNat).toInt
  refine j_pop C dL_law_538 rfl ?_
  refine j_aload_n C 1 2 dL_law_539 rfl rfl ?_
  refine j_aload_n C 3 0 dL_law_540 rfl rfl ?_
  refine j_iload_n C 0 3 dL_law_541 rfl rfl ?_
  refine y_iconst C dL_law_542 ?_
  refine y_iadd C dL_law_543 ?_
  refine y_sldx C hX hbl hbA hL (by omega) dL_law_544 ?_
  refine j_aload_n C 3 0 dL_law_545 rfl rfl ?_
  refine j_iload_n C 0 3 dL_law_546 rfl rfl ?_
  refine y_iconst C dL_law_547 ?_
  refine y_iadd C dL_law_548 ?_
  refine y_sldx C hX hbl hbA hL (by omega) dL_law_549 ?_
  refine j_callVi C (d := 4) (As := [.int (sI (xs (i + 1).toNat).toInt), .int (sI (xs (i + 2).toNat).toInt)]) (st := []) 98 (by decide) rfl (by decide) rfl (s1_X12_add (iv_0 (prM []) hJ1) (hPM []) (xs (i + 1).toNat).toInt (sI_r _) (xs (i + 2).toNat).toInt (sI_r _) hJ1.2.1) tL_add_m rfl hdLX12_add (by decide) (Nat.le_of_ble_eq_true rfl) dL_law_550 rfl (fun r2 M2 hp2 => ?_)
  obtain ⟨a2, rfl, hV2, hF2, hf2⟩ := hp2
  have hJ2 := li_m (cs := []) (fun _ => rfl) hJ1 hV2 (by exact hf2.2.2.2.2)
  have t1_2 := t1_m t1_1 hV2 rfl rfl
  have t2_2 := t2_m t2_1 hV2 rfl (fun _ => rfl)
  have t3_2 := t3_m t3_1 hV2 ⟨rfl, rfl⟩ (fun _ => rfl) (fun _ => rfl)
  have t4_2 := t4_m2 t4_1 hV2 rfl (fun _ => rfl) (fun _ => rfl)
  have t5_2 := t5_m t5_1 hV2 ⟨rfl, rfl⟩ ⟨rfl, rfl⟩
  rw [e99] at hf2
  have e2 : M2.1 99 = (puI (waF (M.1 99) (xs (i + 1).toNat).toInt (xs (i + 2).toNat).toInt) (M.1 99) (asS (M.1 99) (xs (i + 1).toNat).toInt (xs (i + 2).toNat).toInt)) := b01_e (by exact hf2.2.2.2.1)
  have hc2 := fin_m hq hJ1.1 hc1 hF2 rfl e2
  have gq2 : GPQ M2 := gpq_c gq1 (by rw [hF2.2.1]) (by rw [hF2.2.1])
  have hC2 : CTS M2 (M2.2.2 0 4) (M2.1 99) (17 * (i + 6)) := by rw [hF2.2.1, g4, ← egp]; exact hc2
  have ty_2 : TYT M2 := tyt_f ty_1 (cfr_f hF2 (by decide)) (hF2.cellJ (by decide))
  refine j_pop C dL_law_553 rfl ?_
  refine j_goto C 1466 dL_law_554 (by decide) ?_
  exact hfin _ ⟨⟨hJ2, t1_2, t2_2, t3_2, t4_2, t5_2⟩, gq2, hC2, ty_2⟩
set_option maxHeartbeats 2000000 in
set_option maxRecDepth 100000 in
theorem lw_op11 {p : Program} {l : Launch} {e : Env} {s : State} {m : MethodId} {below : List Frame} {meth : Method} {c : Code} {b L : Nat} {xs : Nat → Int32} {Q : State → Prop} {dC : Nat → ClassId} {dI : Nat → Nat → Nat} {ad : Nat → Nat} {cA : Nat → ClassId} {A : Nat → Prop} (Cb : jj_C p room_1 s m #[Value.ref b] c 118 20643 code 4 RL [] dC dI ad cA A) (hts : ∀ w ∈ lw_tbl, w.before #[Value.ref b] s = true) (hL : L ≤ 3072) (hX : va_X b L xs s s.heap) (hbl : b < s.heap.size) (hbA : ¬ A b) {i : Int} (hi : 0 ≤ i ∧ i + 6 ≤ L) (hfin : ∀ M : mm_M, LJ (i + 6) M → jj p l e room_1 s m #[Value.ref b] below meth c 118 20643 Q 4 dC dI ad cA A M 1466 [(3, .int (sI i)), (2, .ref (ad 98)), (1, .ref (ad 0)), (0, .ref b)] []) (M : mm_M) (hI0 : LJ i M) : jj p l e room_1 s m #[Value.ref b] below meth c 118 20643 Q 4 dC dI ad cA A M 557 [(3, .int (sI i)), (2, .ref (ad 98)), (1, .ref (ad 0)), (0, .ref b)] [] := by
  obtain ⟨⟨hJ0, t1_0, t2_0, t3_0, t4_0, t5_0⟩, gq0, hC, ty_0⟩ := hI0
  have C : jj_C p room_1 s m #[Value.ref b] c 118 20643 code 4 RL tL_price dC dI ad cA A := ⟨⟨Cb.1.1, Cb.1.2.1, Cb.1.2.2.1, Cb.1.2.2.2.1, fun w h => hts w (tL_price_in w h)⟩, Cb.2⟩
  obtain ⟨gp, egp⟩ : ∃ gp, gp = M.2.2 0 4 := ⟨_, rfl⟩
  rw [← egp] at hC
  have hq : QG gp := by
    rcases gq0 with ⟨p4, _⟩ | ⟨p4, _⟩
    · exact Or.inl (egp.trans p4)
    · exact Or.inr (egp.trans p4)
  have cgp : s_c gp = 6 := qg_c hq
  have hb := bpx_i hJ0.1
  have hE := hC.1.1.1
  have hS := hC.1.1.2.2.2
  have qq := pre_c hC hJ0.2.1 (by omega)
  refine j_aload_n C 2 1 dL_law_557 rfl rfl ?_
  refine j_aload_n C 3 0 dL_law_558 rfl rfl ?_
  refine j_iload_n C 0 3 dL_law_559 rfl rfl ?_
  refine y_iconst C dL_law_560 ?_
  refine y_iadd C dL_law_561 ?_
  refine y_sldx C hX hbl hbA hL (by omega) dL_law_562 ?_
  refine j_aload_n C 3 0 dL_law_563 rfl rfl ?_
  refine j_iload_n C 0 3 dL_law_564 rfl rfl ?_
  refine y_iconst C dL_law_565 ?_
  refine y_iadd C dL_law_566 ?_
  refine y_sldx C hX hbl hbA hL (by omega) dL_law_567 ?_
  refine j_callVi C (d := 3) (As := [.int (sI (xs (i + 1).toNat).toInt), .int (sI (xs (i + 2).toNat).toInt)]) (st := []) 0 (by decide) rfl (by decide) rfl (s2_X11_price (iv_0 (prX [(8, 0)]) hJ0) (hPX [(8, 0)]) (fun i h => hXc (c := 8) rfl h) (xs (i + 1).toNat).toInt (sI_r _) (xs (i + 2).toNat).toInt (sI_r _) gp cgp egp qq.1) tL_price_x rfl hdLX11_price (by decide) (Nat.le_of_ble_eq_true rfl) dL_law_568 rfl (fun r1 M1 hp1 => ?_)
  obtain ⟨a1, rfl, hV1, hF1, hf1⟩ := hp1
  have hJ1 := li_x (cs := [(8, 0)]) (by decide) hJ0 hV1
  have t1_1 := t1_x t1_0 hV1 rfl rfl
  have t2_1 := t2_x t2_0 hV1 rfl (fun _ => rfl)
  have t3_1 := t3_x t3_0 hV1 ⟨rfl, rfl⟩ (fun _ => rfl) (fun _ => rfl)
  have t4_1 := t4_x t4_0 hV1 rfl (fun _ => rfl) (fun _ => rfl)
  have t5_1 := t5_x t5_0 hV1 ⟨rfl, rfl⟩ ⟨rfl, rfl⟩
  have e99 : M1.1 99 = M.1 99 := hF1.cell (by decide)
  have g4 := xp hV1 (i := 0) (k := 4) rfl rfl
  have g5 := xp hV1 (i := 0) (k := 5) rfl rfl
  have gq1 : GPQ M1 := gpq_c gq0 g4 g5
  have ty_1 : TYT M1 := tyt_s ty_0 (trs_f hF1 (by decide)) (hF1.cellJ (by decide))
  have fq := fx_q hq hF1 rfl
  have hc1 : CTS M1 gp (puI (wpF (M.1 99) (xs (i + 1).toNat).toInt (xs (i + 2).toNat).toInt) (M.1 99) (psS (M.1 99) (xs (i + 1).toNat).toInt (xs (i + 2).toNat).toInt)) (17 * (i + 6)) := cts_b (r := a1) (wR := wpF (rwX M gp 12) (xs (i + 1).toNat).toInt (xs (i + 2).toNat).toInt) (A := ((rwX M gp 12) (33 + (xs (i + 1).toNat).toInt).toNat).toInt) (GR := psS (rwX M gp 12) (xs (i + 1).toNat).toInt (xs (i + 2).toNat).toInt) hb cgp hC fq.1 (by exact hf1.2.2.2.2.1) fq.2.1 fq.2.2 (eq_wp hE _ _) (wpF_b _ _ _) (fun z => (gg_ps hE hS (by omega) z).1) (by omega) (by exact hf1.2.2.1) (fun z => (gg_ps (y := 17 * (i + 6)) hE hS (by omega) z).2) (by exact hf1.2.2.2.1) (by exact hf1.2.2.2.2.2)
  have w1 := an_ps hE (xs (i + 1).toNat).toInt (xs (i + 2).toNat).toInt
  refine j_pop C dL_law_571 rfl ?_
  refine j_aload_n C 1 2 dL_law_572 rfl rfl ?_
  refine j_aload_n C 3 0 dL_law_573 rfl rfl ?_
  refine j_iload_n C 0 3 dL_law_574 rfl rfl ?_
  refine y_iconst C dL_law_575 ?_
  refine y_iadd C dL_law_576 ?_
  refine y_sldx C hX hbl hbA hL (by omega) dL_law_577 ?_
  refine j_aload_n C 3 0 dL_law_578 rfl rfl ?_
  refine j_iload_n C 0 3 dL_law_579 rfl rfl ?_
  refine y_iconst C dL_law_580 ?_
  refine y_iadd C dL_law_581 ?_
  refine y_sldx C hX hbl hbA hL (by omega) dL_law_582 ?_
  refine j_callVi C (d := 5) (As := [.int (sI (xs (i + 1).toNat).toInt), .int (sI (xs (i + 2).toNat).toInt)]) (st := []) 98 (by decide) rfl (by decide) rfl (s1_X12_price (iv_0 (prM []) hJ1) (hPM []) (xs (i + 1).toNat).toInt (sI_r _) (xs (i + 2).toNat).toInt (sI_r _) hJ1.2.1) tL_price_m rfl hdLX12_price (by decide) (Nat.le_of_ble_eq_true rfl) dL_law_583 rfl (fun r2 M2 hp2 => ?_)
  obtain ⟨a2, rfl, hV2, hF2, hf2⟩ := hp2
  have hJ2 := li_m (cs := []) (fun _ => rfl) hJ1 hV2 (by exact hf2.2.2.2.2)
  have t1_2 := t1_m t1_1 hV2 rfl rfl
  have t2_2 := t2_m t2_1 hV2 rfl (fun _ => rfl)
  have t3_2 := t3_m t3_1 hV2 ⟨rfl, rfl⟩ (fun _ => rfl) (fun _ => rfl)
  have t4_2 := t4_m2 t4_1 hV2 rfl (fun _ => rfl) (fun _ => rfl)
  have t5_2 := t5_m t5_1 hV2 ⟨rfl, rfl⟩ ⟨rfl, rfl⟩
  rw [e99] at hf2
  have e2 : M2.1 99 = (puI (wpF (M.1 99) (xs (i + 1).toNat).toInt (xs (i + 2).toNat).toInt) (M.1 99) (psS (M.1 99) (xs (i + 1).toNat).toInt (xs (i + 2).toNat).toInt)) := b01_e (by exact hf2.2.2.2.1)
  have hc2 := fin_m hq hJ1.1 hc1 hF2 rfl e2
  have gq2 : GPQ M2 := gpq_c gq1 (by rw [hF2.2.1]) (by rw [hF2.2.1])
  have hC2 : CTS M2 (M2.2.2 0 4) (M2.1 99) (17 * (i + 6)) := by rw [hF2.2.1, g4, ← egp]; exact hc2
  have ty_2 : TYT M2 := tyt_f ty_1 (cfr_f hF2 (by decide)) (hF2.cellJ (by decide))
  refine j_pop C dL_law_586 rfl ?_
  refine j_goto C 1466 dL_law_587 (by decide) ?_
  exact hfin _ ⟨⟨hJ2, t1_2, t2_2, t3_2, t4_2, t5_2⟩, gq2, hC2, ty_2⟩
set_option maxHeartbeats 2000000 in
set_option maxRecDepth 100000 in
theorem lw_op12 {p : Program} {l : Launch} {e : Env} {s : State} {m : MethodId} {below : List Frame} {meth : Method} {c : Code} {b L : Nat} {xs : Nat → Int32} {Q : State → Prop} {dC : Nat → ClassId} {dI : Nat → Nat → Nat} {ad : Nat → Nat} {cA : Nat → ClassId} {A : Nat → Prop} (Cb : jj_C p room_1 s m #[Value.ref b] c 118 20643 code 4 RL [] dC dI ad cA A) (hts : ∀ w ∈ lw_tbl, w.before #[Value.ref b] s = true) (hL : L ≤ 3072) (hX : va_X b L xs s s.heap) (hbl : b < s.heap.size) (hbA : ¬ A b) {i : Int} (hi : 0 ≤ i ∧ i + 6 ≤ L) (hfin : ∀ M : mm_M, LJ (i + 6) M → jj p l e room_1 s m #[Value.ref b] below meth c 118 20643 Q 4 dC dI ad cA A M 1466 [(3, .int (sI i)), (2, .ref (ad 98)), (1, .ref (ad 0)), (0, .ref b)] []) (M : mm_M) (hI0 : LJ i M) : jj p l e room_1 s m #[Value.ref b] below meth c 118 20643 Q 4 dC dI ad cA A M 590 [(3, .int (sI i)), (2, .ref (ad 98)), (1, .ref (ad 0)), (0, .ref b)] [] := by
  obtain ⟨⟨hJ0, t1_0, t2_0, t3_0, t4_0, t5_0⟩, gq0, hC, ty_0⟩ := hI0
  have C : jj_C p room_1 s m #[Value.ref b] c 118 20643 code 4 RL tL_days dC dI ad cA A := ⟨⟨Cb.1.1, Cb.1.2.1, Cb.1.2.2.1, Cb.1.2.2.2.1, fun w h => hts w (tL_days_in w h)⟩, Cb.2⟩
  obtain ⟨gp, egp⟩ : ∃ gp, gp = M.2.2 0 4 := ⟨_, rfl⟩
  rw [← egp] at hC
  have hq : QG gp := by
    rcases gq0 with ⟨p4, _⟩ | ⟨p4, _⟩
    · exact Or.inl (egp.trans p4)
    · exact Or.inr (egp.trans p4)
  have cgp : s_c gp = 6 := qg_c hq
  have hb := bpx_i hJ0.1
  have hE := hC.1.1.1
  have hS := hC.1.1.2.2.2
  have qq := pre_c hC hJ0.2.1 (by omega)
  refine j_aload_n C 2 1 dL_law_590 rfl rfl ?_
  refine j_aload_n C 3 0 dL_law_591 rfl rfl ?_
  refine j_iload_n C 0 3 dL_law_592 rfl rfl ?_
  refine y_iconst C dL_law_593 ?_
  refine y_iadd C dL_law_594 ?_
  refine y_sldx C hX hbl hbA hL (by omega) dL_law_595 ?_
  refine j_callVi C (d := 6) (As := [.int (sI (xs (i + 1).toNat).toInt)]) (st := []) 0 (by decide) rfl (by decide) rfl (s2_X11_days (iv_0 (prX [(8, 0)]) hJ0) (hPX [(8, 0)]) (fun i h => hXc (c := 8) rfl h) (xs (i + 1).toNat).toInt (sI_r _) gp cgp egp qq.1 qq.2.1 qq.2.2.1 qq.2.2.2.1) tL_days_x rfl hdLX11_days (by decide) (Nat.le_of_ble_eq_true rfl) dL_law_596 rfl (fun r1 M1 hp1 => ?_)
  obtain ⟨a1, rfl, hV1, hF1, hf1⟩ := hp1
  have hJ1 := li_x (cs := [(8, 0)]) (by decide) hJ0 hV1
  have t1_1 := t1_x t1_0 hV1 rfl rfl
  have t2_1 := t2_x t2_0 hV1 rfl (fun _ => rfl)
  have t3_1 := t3_x t3_0 hV1 ⟨rfl, rfl⟩ (fun _ => rfl) (fun _ => rfl)
  have t4_1 := t4_x t4_0 hV1 rfl (fun _ => rfl) (fun _ => rfl)
  have t5_1 := t5_x t5_0 hV1 ⟨rfl, rfl⟩ ⟨rfl, rfl⟩
  have e99 : M1.1 99 = M.1 99 := hF1.cell (by decide)
  have g4 := xp hV1 (i := 0) (k := 4) rfl rfl
  have g5 := xp hV1 (i := 0) (k := 5) rfl rfl
  have gq1 : GPQ M1 := gpq_c gq0 g4 g5
  have ty_1 : TYT M1 := tyt_s ty_0 (trs_f hF1 (by decide)) (hF1.cellJ (by decide))
  have fq := fx_q hq hF1 rfl
  obtain ⟨hc1, w1⟩ := cts_da (y := (17 * (i + 6))) (n := (xs (i + 1).toNat).toInt) (r := a1) hb cgp hC fq.1 (by exact hf1.2.2.2) fq.2.1 fq.2.2 (by omega) (by exact hf1.2.2.1)
  refine j_pop C dL_law_599 rfl ?_
  refine j_aload_n C 1 2 dL_law_600 rfl rfl ?_
  refine j_aload_n C 3 0 dL_law_601 rfl rfl ?_
  refine j_iload_n C 0 3 dL_law_602 rfl rfl ?_
  refine y_iconst C dL_law_603 ?_
  refine y_iadd C dL_law_604 ?_
  refine y_sldx C hX hbl hbA hL (by omega) dL_law_605 ?_
  refine j_callVi C (d := 7) (As := [.int (sI (xs (i + 1).toNat).toInt)]) (st := []) 98 (by decide) rfl (by decide) rfl (s1_X12_days (iv_0 (prM []) hJ1) (hPM []) (li_cw (cs := []) (fun _ => rfl) hJ1) (xs (i + 1).toNat).toInt (sI_r _) hJ1.2.1) tL_days_m rfl hdLX12_days (by decide) (Nat.le_of_ble_eq_true rfl) dL_law_606 rfl (fun r2 M2 hp2 => ?_)
  obtain ⟨a2, rfl, hV2, hF2, hf2⟩ := hp2
  have hJ2 := li_m (cs := []) (fun _ => rfl) hJ1 hV2 (by exact hf2.2.2.2.2)
  have t1_2 := t1_m t1_1 hV2 rfl rfl
  have t2_2 := t2_m t2_1 hV2 rfl (fun _ => rfl)
  have t3_2 := t3_m t3_1 hV2 ⟨rfl, rfl⟩ (fun _ => rfl) (fun _ => rfl)
  have t4_2 := t4_m2 t4_1 hV2 rfl (fun _ => rfl) (fun _ => rfl)
  have t5_2 := t5_m t5_1 hV2 ⟨rfl, rfl⟩ ⟨rfl, rfl⟩
  rw [e99] at hf2
  have e2 : M2.1 99 = (daS (M.1 99) (xs (i + 1).toNat).toInt) := b01_e (by exact hf2.2.2.2.1)
  have hc2 := fin_m hq hJ1.1 hc1 hF2 rfl e2
  have gq2 : GPQ M2 := gpq_c gq1 (by rw [hF2.2.1]) (by rw [hF2.2.1])
  have hC2 : CTS M2 (M2.2.2 0 4) (M2.1 99) (17 * (i + 6)) := by rw [hF2.2.1, g4, ← egp]; exact hc2
  have ty_2 : TYT M2 := tyt_f ty_1 (cfr_f hF2 (by decide)) (hF2.cellJ (by decide))
  refine j_pop C dL_law_609 rfl ?_
  refine j_goto C 1466 dL_law_610 (by decide) ?_
  exact hfin _ ⟨⟨hJ2, t1_2, t2_2, t3_2, t4_2, t5_2⟩, gq2, hC2, ty_2⟩
set_option maxHeartbeats 2000000 in
set_option maxRecDepth 100000 in
theorem lw_op13 {p : Program} {l : Launch} {e : Env} {s : State} {m : MethodId} {below : List Frame} {meth : Method} {c : Code} {b L : Nat} {xs : Nat → Int32} {Q : State → Prop} {dC : Nat → ClassId} {dI : Nat → Nat → Nat} {ad : Nat → Nat} {cA : Nat → ClassId} {A : Nat → Prop} (Cb : jj_C p room_1 s m #[Value.ref b] c 118 20643 code 4 RL [] dC dI ad cA A) (hts : ∀ w ∈ lw_tbl, w.before #[Value.ref b] s = true) (hL : L ≤ 3072) (hX : va_X b L xs s s.heap) (hbl : b < s.heap.size) (hbA : ¬ A b) {i : Int} (hi : 0 ≤ i ∧ i + 6 ≤ L) (hfin : ∀ M : mm_M, LJ (i + 6) M → jj p l e room_1 s m #[Value.ref b] below meth c 118 20643 Q 4 dC dI ad cA A M 1466 [(3, .int (sI i)), (2, .ref (ad 98)), (1, .ref (ad 0)), (0, .ref b)] []) (M : mm_M) (hI0 : LJ i M) : jj p l e room_1 s m #[Value.ref b] below meth c 118 20643 Q 4 dC dI ad cA A M 613 [(3, .int (sI i)), (2, .ref (ad 98)), (1, .ref (ad 0)), (0, .ref b)] [] := by
  obtain ⟨⟨hJ0, t1_0, t2_0, t3_0, t4_0, t5_0⟩, gq0, hC, ty_0⟩ := hI0
  have C : jj_C p room_1 s m #[Value.ref b] c 118 20643 code 4 RL tL_undo dC dI ad cA A := ⟨⟨Cb.1.1, Cb.1.2.1, Cb.1.2.2.1, Cb.1.2.2.2.1, fun w h => hts w (tL_undo_in w h)⟩, Cb.2⟩
  obtain ⟨gp, egp⟩ : ∃ gp, gp = M.2.2 0 4 := ⟨_, rfl⟩
  rw [← egp] at hC
  have hq : QG gp := by
    rcases gq0 with ⟨p4, _⟩ | ⟨p4, _⟩
    · exact Or.inl (egp.trans p4)
    · exact Or.inr (egp.trans p4)
  have cgp : s_c gp = 6 := qg_c hq
  have hb := bpx_i hJ0.1
  have hE := hC.1.1.1
  have hS := hC.1.1.2.2.2
  have qq := pre_c hC hJ0.2.1 (by omega)
  refine j_aload_n C 2 1 dL_law_613 rfl rfl ?_
  refine j_aload_n C 3 0 dL_law_614 rfl rfl ?_
  refine j_iload_n C 0 3 dL_law_615 rfl rfl ?_
  refine y_iconst C dL_law_616 ?_
  refine y_iadd C dL_law_617 ?_
  refine y_sldx C hX hbl hbA hL (by omega) dL_law_618 ?_
  refine j_callVi C (d := 2) (As := [.int (sI (xs (i + 1).toNat).toInt)]) (st := []) 0 (by decide) rfl (by decide) rfl (s2_X11_undo (iv_0 (prX [(8, 0)]) hJ0) (hPX [(8, 0)]) (fun i h => hXc (c := 8) rfl h) (xs (i + 1).toNat).toInt (sI_r _) gp cgp egp qq.1) tL_undo_x rfl hdLX11_undo (by decide) (Nat.le_of_ble_eq_true rfl) dL_law_619 rfl (fun r1 M1 hp1 => ?_)
  obtain ⟨a1, rfl, hV1, hF1, hf1⟩ := hp1
  have hJ1 := li_x (cs := [(8, 0)]) (by decide) hJ0 hV1
  have t1_1 := t1_x t1_0 hV1 rfl rfl
  have t2_1 := t2_x t2_0 hV1 rfl (fun _ => rfl)
  have t3_1 := t3_x t3_0 hV1 ⟨rfl, rfl⟩ (fun _ => rfl) (fun _ => rfl)
  have t4_1 := t4_x t4_0 hV1 rfl (fun _ => rfl) (fun _ => rfl)
  have t5_1 := t5_x t5_0 hV1 ⟨rfl, rfl⟩ ⟨rfl, rfl⟩
  have e99 : M1.1 99 = M.1 99 := hF1.cell (by decide)
  have g4 := xp hV1 (i := 0) (k := 4) rfl rfl
  have g5 := xp hV1 (i := 0) (k := 5) rfl rfl
  have gq1 : GPQ M1 := gpq_c gq0 g4 g5
  have ty_1 : TYT M1 := tyt_s ty_0 (trs_f hF1 (by decide)) (hF1.cellJ (by decide))
  have fq := fx_q hq hF1 rfl
  obtain ⟨hc0, w1⟩ := cts_un (n := (xs (i + 1).toNat).toInt) (r := a1) hb cgp hC fq.1 (by exact hf1.2.2.2) fq.2.1 fq.2.2 (by exact hf1.2.2.1)
  have hc1 := cts_le (y := (17 * (i + 6))) (bpx_i hJ1.1) cgp hc0 (by omega)
  refine j_pop C dL_law_622 rfl ?_
  refine j_aload_n C 1 2 dL_law_623 rfl rfl ?_
  refine j_aload_n C 3 0 dL_law_624 rfl rfl ?_
  refine j_iload_n C 0 3 dL_law_625 rfl rfl ?_
  refine y_iconst C dL_law_626 ?_
  refine y_iadd C dL_law_627 ?_
  refine y_sldx C hX hbl hbA hL (by omega) dL_law_628 ?_
  refine j_callVi C (d := 1) (As := [.int (sI (xs (i + 1).toNat).toInt)]) (st := []) 98 (by decide) rfl (by decide) rfl (s1_X12_undo (iv_0 (prM []) hJ1) (hPM []) (xs (i + 1).toNat).toInt (sI_r _) hJ1.2.1) tL_undo_m rfl hdLX12_undo (by decide) (Nat.le_of_ble_eq_true rfl) dL_law_629 rfl (fun r2 M2 hp2 => ?_)
  obtain ⟨a2, rfl, hV2, hF2, hf2⟩ := hp2
  have hJ2 := li_m (cs := []) (fun _ => rfl) hJ1 hV2 (by exact hf2.2.2.2.2)
  have t1_2 := t1_m t1_1 hV2 rfl rfl
  have t2_2 := t2_m t2_1 hV2 rfl (fun _ => rfl)
  have t3_2 := t3_m t3_1 hV2 ⟨rfl, rfl⟩ (fun _ => rfl) (fun _ => rfl)
  have t4_2 := t4_m2 t4_1 hV2 rfl (fun _ => rfl) (fun _ => rfl)
  have t5_2 := t5_m t5_1 hV2 ⟨rfl, rfl⟩ ⟨rfl, rfl⟩
  rw [e99] at hf2
  have e2 : M2.1 99 = (uoS (M.1 99) (xs (i + 1).toNat).toInt) := b01_e (by exact hf2.2.2.2.1)
  have hc2 := fin_m hq hJ1.1 hc1 hF2 rfl e2
  have gq2 : GPQ M2 := gpq_c gq1 (by rw [hF2.2.1]) (by rw [hF2.2.1])
  have hC2 : CTS M2 (M2.2.2 0 4) (M2.1 99) (17 * (i + 6)) := by rw [hF2.2.1, g4, ← egp]; exact hc2
  have ty_2 : TYT M2 := tyt_f ty_1 (cfr_f hF2 (by decide)) (hF2.cellJ (by decide))
  refine j_pop C dL_law_632 rfl ?_
  refine j_goto C 1466 dL_law_633 (by decide) ?_
  exact hfin _ ⟨⟨hJ2, t1_2, t2_2, t3_2, t4_2, t5_2⟩, gq2, hC2, ty_2⟩
set_option maxHeartbeats 2000000 in
set_option maxRecDepth 100000 in
theorem lw_op14 {p : Program} {l : Launch} {e : Env} {s : State} {m : MethodId} {below : List Frame} {meth : Method} {c : Code} {b L : Nat} {xs : Nat → Int32} {Q : State → Prop} {dC : Nat → ClassId} {dI : Nat → Nat → Nat} {ad : Nat → Nat} {cA : Nat → ClassId} {A : Nat → Prop} (Cb : jj_C p room_1 s m #[Value.ref b] c 118 20643 code 4 RL [] dC dI ad cA A) (hts : ∀ w ∈ lw_tbl, w.before #[Value.ref b] s = true) (hL : L ≤ 3072) (hX : va_X b L xs s s.heap) (hbl : b < s.heap.size) (hbA : ¬ A b) {i : Int} (hi : 0 ≤ i ∧ i + 6 ≤ L) (hfin : ∀ M : mm_M, LJ (i + 6) M → jj p l e room_1 s m #[Value.ref b] below meth c 118 20643 Q 4 dC dI ad cA A M 1466 [(3, .int (sI i)), (2, .ref (ad 98)), (1, .ref (ad 0)), (0, .ref b)] []) (M : mm_M) (hI0 : LJ i M) : jj p l e room_1 s m #[Value.ref b] below meth c 118 20643 Q 4 dC dI ad cA A M 636 [(3, .int (sI i)), (2, .ref (ad 98)), (1, .ref (ad 0)), (0, .ref b)] [] := by
  obtain ⟨⟨hJ0, t1_0, t2_0, t3_0, t4_0, t5_0⟩, gq0, hC, ty_0⟩ := hI0
  have C : jj_C p room_1 s m #[Value.ref b] c 118 20643 code 4 RL tL_judge dC dI ad cA A := ⟨⟨Cb.1.1, Cb.1.2.1, Cb.1.2.2.1, Cb.1.2.2.2.1, fun w h => hts w (tL_judge_in w h)⟩, Cb.2⟩
  obtain ⟨gp, egp⟩ : ∃ gp, gp = M.2.2 0 4 := ⟨_, rfl⟩
  rw [← egp] at hC
  have hq : QG gp := by
    rcases gq0 with ⟨p4, _⟩ | ⟨p4, _⟩
    · exact Or.inl (egp.trans p4)
    · exact Or.inr (egp.trans p4)
  have cgp : s_c gp = 6 := qg_c hq
  have hb := bpx_i hJ0.1
  have hE := hC.1.1.1
  have hS := hC.1.1.2.2.2
  have qq := pre_c hC hJ0.2.1 (by omega)
  refine j_aload_n C 2 1 dL_law_636 rfl rfl ?_
  refine j_aload_n C 3 0 dL_law_637 rfl rfl ?_
  refine j_iload_n C 0 3 dL_law_638 rfl rfl ?_
  refine y_iconst C dL_law_639 ?_
  refine y_iadd C dL_law_640 ?_
  refine y_sldx C hX hbl hbA hL (by omega) dL_law_641 ?_
  refine j_aload_n C 3 0 dL_law_642 rfl rfl ?_
  refine j_iload_n C 0 3 dL_law_643 rfl rfl ?_
  refine y_iconst C dL_law_644 ?_
  refine y_iadd C dL_law_645 ?_
  refine y_sldx C hX hbl hbA hL (by omega) dL_law_646 ?_
  refine j_callVi C (d := 6) (As := [.int (sI (xs (i + 1).toNat).toInt), .int (sI (xs (i + 2).toNat).toInt)]) (st := []) 0 (by decide) rfl (by decide) rfl (s2_X11_judge (iv_0 (prX [(8, 0)]) hJ0) (hPX [(8, 0)]) (fun i h => hXc (c := 8) rfl h) (xs (i + 1).toNat).toInt (sI_r _) (xs (i + 2).toNat).toInt (sI_r _) gp cgp egp qq.1 qq.2.1 qq.2.2.1 qq.2.2.2.1) tL_judge_x rfl hdLX11_judge (by decide) (Nat.le_of_ble_eq_true rfl) dL_law_647 rfl (fun r1 M1 hp1 => ?_)
  obtain ⟨a1, rfl, hV1, hF1, hf1⟩ := hp1
  have hJ1 := li_x (cs := [(8, 0)]) (by decide) hJ0 hV1
  have t1_1 := t1_x t1_0 hV1 rfl rfl
  have t2_1 := t2_x t2_0 hV1 rfl (fun _ => rfl)
  have t3_1 := t3_x t3_0 hV1 ⟨rfl, rfl⟩ (fun _ => rfl) (fun _ => rfl)
  have t4_1 := t4_x t4_0 hV1 rfl (fun _ => rfl) (fun _ => rfl)
  have t5_1 := t5_x t5_0 hV1 ⟨rfl, rfl⟩ ⟨rfl, rfl⟩
  have e99 : M1.1 99 = M.1 99 := hF1.cell (by decide)
  have g4 := xp hV1 (i := 0) (k := 4) rfl rfl
  have g5 := xp hV1 (i := 0) (k := 5) rfl rfl
  have gq1 : GPQ M1 := gpq_c gq0 g4 g5
  have ty_1 : TYT M1 := tyt_s ty_0 (trs_f hF1 (by decide)) (hF1.cellJ (by decide))
  have fq := fx_q hq hF1 rfl
  have tye := tye_i (K := M1) t3_0 ty_0 (tsz_i hJ0.1) (hF1.cell (by decide)) (hF1.cell (by decide)) (hF1.cellJ (by decide)) (xs (i + 1).toNat).toInt
  have w1 := jg_e (w := (xs (i + 2).toNat).toInt) hE hC.1.1.2.2.1 tye e99
  have hc1 : CTS M1 gp (M.1 99) (17 * (i + 6)) := cts_k hb cgp hC fq.1 (b01_e (P := rwX M1 gp 12 = rwX M gp 12) (by exact hf1.2.2.2.1)) (by exact hf1.2.2.2.2.1) fq.2.1 fq.2.2 (b01_e (P := RG0 M M1) (by exact hf1.2.2.2.2.2)) (by omega)
  refine j_pop C dL_law_650 rfl ?_
  refine j_aload_n C 1 2 dL_law_651 rfl rfl ?_
  refine j_aload_n C 3 0 dL_law_652 rfl rfl ?_
  refine j_iload_n C 0 3 dL_law_653 rfl rfl ?_
  refine y_iconst C dL_law_654 ?_
  refine y_iadd C dL_law_655 ?_
  refine y_sldx C hX hbl hbA hL (by omega) dL_law_656 ?_
  refine j_aload_n C 3 0 dL_law_657 rfl rfl ?_
  refine j_iload_n C 0 3 dL_law_658 rfl rfl ?_
  refine y_iconst C dL_law_659 ?_
  refine y_iadd C dL_law_660 ?_
  refine y_sldx C hX hbl hbA hL (by omega) dL_law_661 ?_
  refine j_callVi C (d := 9) (As := [.int (sI (xs (i + 1).toNat).toInt), .int (sI (xs (i + 2).toNat).toInt)]) (st := []) 98 (by decide) rfl (by decide) rfl (s1_X12_judge (iv_0 (prM []) hJ1) (hPM []) (li_cw (cs := []) (fun _ => rfl) hJ1) (xs (i + 1).toNat).toInt (sI_r _) (xs (i + 2).toNat).toInt (sI_r _) hJ1.2.1) tL_judge_m rfl hdLX12_judge (by decide) (Nat.le_of_ble_eq_true rfl) dL_law_662 rfl (fun r2 M2 hp2 => ?_)
  obtain ⟨a2, rfl, hV2, hF2, hf2⟩ := hp2
  have hJ2 := li_m (cs := []) (fun _ => rfl) hJ1 hV2 (by exact hf2.2.2.2.2)
  have t1_2 := t1_m t1_1 hV2 rfl rfl
  have t2_2 := t2_m t2_1 hV2 rfl (fun _ => rfl)
  have t3_2 := t3_m t3_1 hV2 ⟨rfl, rfl⟩ (fun _ => rfl) (fun _ => rfl)
  have t4_2 := t4_m2 t4_1 hV2 rfl (fun _ => rfl) (fun _ => rfl)
  have t5_2 := t5_m t5_1 hV2 ⟨rfl, rfl⟩ ⟨rfl, rfl⟩
  rw [e99] at hf2
  have e2 : M2.1 99 = (M.1 99) := b01_e (by exact hf2.2.2.2.1)
  have hc2 := fin_m hq hJ1.1 hc1 hF2 rfl e2
  have gq2 : GPQ M2 := gpq_c gq1 (by rw [hF2.2.1]) (by rw [hF2.2.1])
  have hC2 : CTS M2 (M2.2.2 0 4) (M2.1 99) (17 * (i + 6)) := by rw [hF2.2.1, g4, ← egp]; exact hc2
  have ty_2 : TYT M2 := tyt_f ty_1 (cfr_f hF2 (by decide)) (hF2.cellJ (by decide))
  refine j_pop C dL_law_665 rfl ?_
  refine j_goto C 1466 dL_law_666 (by decide) ?_
  exact hfin _ ⟨⟨hJ2, t1_2, t2_2, t3_2, t4_2, t5_2⟩, gq2, hC2, ty_2⟩
set_option maxHeartbeats 2000000 in
set_option maxRecDepth 100000 in
theorem lw_op15 {p : Program} {l : Launch} {e : Env} {s : State} {m : MethodId} {below : List Frame} {meth : Method} {c : Code} {b L : Nat} {xs : Nat → Int32} {Q : State → Prop} {dC : Nat → ClassId} {dI : Nat → Nat → Nat} {ad : Nat → Nat} {cA : Nat → ClassId} {A : Nat → Prop} (Cb : jj_C p room_1 s m #[Value.ref b] c 118 20643 code 4 RL [] dC dI ad cA A) (hts : ∀ w ∈ lw_tbl, w.before #[Value.ref b] s = true) (hL : L ≤ 3072) (hX : va_X b L xs s s.heap) (hbl : b < s.heap.size) (hbA : ¬ A b) {i : Int} (hi : 0 ≤ i ∧ i + 6 ≤ L) (hfin : ∀ M : mm_M, LJ (i + 6) M → jj p l e room_1 s m #[Value.ref b] below meth c 118 20643 Q 4 dC dI ad cA A M 1466 [(3, .int (sI i)), (2, .ref (ad 98)), (1, .ref (ad 0)), (0, .ref b)] []) (M : mm_M) (hI0 : LJ i M) : jj p l e room_1 s m #[Value.ref b] below meth c 118 20643 Q 4 dC dI ad cA A M 669 [(3, .int (sI i)), (2, .ref (ad 98)), (1, .ref (ad 0)), (0, .ref b)] [] := by
  obtain ⟨⟨hJ0, t1_0, t2_0, t3_0, t4_0, t5_0⟩, gq0, hC, ty_0⟩ := hI0
  have C : jj_C p room_1 s m #[Value.ref b] c 118 20643 code 4 RL tL_perform dC dI ad cA A := ⟨⟨Cb.1.1, Cb.1.2.1, Cb.1.2.2.1, Cb.1.2.2.2.1, fun w h => hts w (tL_perform_in w h)⟩, Cb.2⟩
  obtain ⟨gp, egp⟩ : ∃ gp, gp = M.2.2 0 4 := ⟨_, rfl⟩
  rw [← egp] at hC
  have hq : QG gp := by
    rcases gq0 with ⟨p4, _⟩ | ⟨p4, _⟩
    · exact Or.inl (egp.trans p4)
    · exact Or.inr (egp.trans p4)
  have cgp : s_c gp = 6 := qg_c hq
  have hb := bpx_i hJ0.1
  have hE := hC.1.1.1
  have hS := hC.1.1.2.2.2
  have qq := pre_c hC hJ0.2.1 (by omega)
  refine j_aload_n C 2 1 dL_law_669 rfl rfl ?_
  refine j_aload_n C 3 0 dL_law_670 rfl rfl ?_
  refine j_iload_n C 0 3 dL_law_671 rfl rfl ?_
  refine y_iconst C dL_law_672 ?_
  refine y_iadd C dL_law_673 ?_
  refine y_sldx C hX hbl hbA hL (by omega) dL_law_674 ?_
  refine j_callVi C (d := 6) (As := [.int (sI (xs (i + 1).toNat).toInt)]) (st := []) 0 (by decide) rfl (by decide) rfl (s2_X11_perform (iv_0 (prX [(8, 0)]) hJ0) (hPX [(8, 0)]) (fun i h => hXc (c := 8) rfl h) (xs (i + 1).toNat).toInt (sI_r _) gp cgp egp qq.1 qq.2.1 qq.2.2.1 qq.2.2.2.1) tL_perform_x rfl hdLX11_perform (by decide) (Nat.le_of_ble_eq_true rfl) dL_law_675 rfl (fun r1 M1 hp1 => ?_)
  obtain ⟨a1, rfl, hV1, hF1, hf1⟩ := hp1
  have hJ1 := li_x (cs := [(8, 0)]) (by decide) hJ0 hV1
  have t1_1 := t1_x t1_0 hV1 rfl rfl
  have t2_1 := t2_x t2_0 hV1 rfl (fun _ => rfl)
  have t3_1 := t3_x t3_0 hV1 ⟨rfl, rfl⟩ (fun _ => rfl) (fun _ => rfl)
  have t4_1 := t4_x t4_0 hV1 rfl (fun _ => rfl) (fun _ => rfl)
  have t5_1 := t5_x t5_0 hV1 ⟨rfl, rfl⟩ ⟨rfl, rfl⟩
  have e99 : M1.1 99 = M.1 99 := hF1.cell (by decide)
  have g4 := xp hV1 (i := 0) (k := 4) rfl rfl
  have g5 := xp hV1 (i := 0) (k := 5) rfl rfl
  have gq1 : GPQ M1 := gpq_c gq0 g4 g5
  have ty_1 : TYT M1 := tyt_s ty_0 (trs_f hF1 (by decide)) (hF1.cellJ (by decide))
  have fq := fx_q hq hF1 rfl
  have tye := tye_i (K := M1) t3_0 ty_0 (tsz_i hJ0.1) (hF1.cell (by decide)) (hF1.cell (by decide)) (hF1.cellJ (by decide)) (xs (i + 1).toNat).toInt
  obtain ⟨hc1, w1⟩ := cts_pe (y := (17 * (i + 6))) (r := a1) hb cgp hC fq.1 (by exact hf1.2.2.2.2.1) fq.2.1 fq.2.2 tye e99 (by exact hf1.2.2.1) (by exact hf1.2.2.2.1) (by exact hf1.2.2.2.2.2) (by (clear tye fq ty_1 gq1 g5 g4 e99 t5_1 t4_1 t3_1 t2_1 t1_1 hJ1 hf1 hF1 hV1 qq hS hE hb cgp hq egp hC C ty_0 gq0 t5_0 t4_0 t3_0 t2_0 t1_0 hJ0 hfin hbA hbl hX hts Cb; omega))
  refine j_pop C dL_law_678 rfl ?_
  refine j_aload_n C 1 2 dL_law_679 rfl rfl ?_
  refine j_aload_n C 3 0 dL_law_680 rfl rfl ?_
  refine j_iload_n C 0 3 dL_law_681 rfl rfl ?_
  refine y_iconst C dL_law_682 ?_
  refine y_iadd C dL_law_683 ?_
  refine y_sldx C hX hbl hbA hL (by omega) dL_law_684 ?_
  refine j_callVi C (d := 9) (As := [.int (sI (xs (i + 1).toNat).toInt)]) (st := []) 98 (by decide) rfl (by decide) rfl (s1_X12_perform (iv_0 (prM []) hJ1) (hPM []) (li_cw (cs := []) (fun _ => rfl) hJ1) (xs (i + 1).toNat).toInt (sI_r _) hJ1.2.1) tL_perform_m rfl hdLX12_perform (by decide) (Nat.le_of_ble_eq_true rfl) dL_law_685 rfl (fun r2 M2 hp2 => ?_)
  obtain ⟨a2, rfl, hV2, hF2, hf2⟩ := hp2
  have hJ2 := li_m (cs := []) (fun _ => rfl) hJ1 hV2 (by exact hf2.2.2.2.2)
  have t1_2 := t1_m t1_1 hV2 rfl rfl
  have t2_2 := t2_m t2_1 hV2 rfl (fun _ => rfl)
  have t3_2 := t3_m t3_1 hV2 ⟨rfl, rfl⟩ (fun _ => rfl) (fun _ => rfl)
  have t4_2 := t4_m2 t4_1 hV2 rfl (fun _ => rfl) (fun _ => rfl)
  have t5_2 := t5_m t5_1 hV2 ⟨rfl, rfl⟩ ⟨rfl, rfl⟩
  have e2 : M2.1 99 = (peS M1 (xs (i + 1).toNat).toInt) := b01_e (by exact hf2.2.2.2.1)
  have hc2 := fin_m hq hJ1.1 hc1 hF2 rfl e2
  have gq2 : GPQ M2 := gpq_c gq1 (by rw [hF2.2.1]) (by rw [hF2.2.1])
  have hC2 : CTS M2 (M2.2.2 0 4) (M2.1 99) (17 * (i + 6)) := by rw [hF2.2.1, g4, ← egp]; exact hc2
  have ty_2 : TYT M2 := tyt_f ty_1 (cfr_f hF2 (by decide)) (hF2.cellJ (by decide))
  refine j_pop C dL_law_688 rfl ?_
  refine j_goto C 1466 dL_law_689 (by decide) ?_
  exact hfin _ ⟨⟨hJ2, t1_2, t2_2, t3_2, t4_2, t5_2⟩, gq2, hC2, ty_2⟩
set_option maxHeartbeats 2000000 in
set_option maxRecDepth 100000 in
theorem lw_op16 {p : Program} {l : Launch} {e : Env} {s : State} {m : MethodId} {below : List Frame} {meth : Method} {c : Code} {b L : Nat} {xs : Nat → Int32} {Q : State → Prop} {dC : Nat → ClassId} {dI : Nat → Nat → Nat} {ad : Nat → Nat} {cA : Nat → ClassId} {A : Nat → Prop} (Cb : jj_C p room_1 s m #[Value.ref b] c 118 20643 code 4 RL [] dC dI ad cA A) (hts : ∀ w ∈ lw_tbl, w.before #[Value.ref b] s = true) (hL : L ≤ 3072) (hX : va_X b L xs s s.heap) (hbl : b < s.heap.size) (hbA : ¬ A b) {i : Int} (hi : 0 ≤ i ∧ i + 6 ≤ L) (hfin : ∀ M : mm_M, LJ (i + 6) M → jj p l e room_1 s m #[Value.ref b] below meth c 118 20643 Q 4 dC dI ad cA A M 1466 [(3, .int (sI i)), (2, .ref (ad 98)), (1, .ref (ad 0)), (0, .ref b)] []) (M : mm_M) (hI0 : LJ i M) : jj p l e room_1 s m #[Value.ref b] below meth c 118 20643 Q 4 dC dI ad cA A M 692 [(3, .int (sI i)), (2, .ref (ad 98)), (1, .ref (ad 0)), (0, .ref b)] [] := by
  obtain ⟨⟨hJ0, t1_0, t2_0, t3_0, t4_0, t5_0⟩, gq0, hC, ty_0⟩ := hI0
  have C : jj_C p room_1 s m #[Value.ref b] c 118 20643 code 4 RL tL_season dC dI ad cA A := ⟨⟨Cb.1.1, Cb.1.2.1, Cb.1.2.2.1, Cb.1.2.2.2.1, fun w h => hts w (tL_season_in w h)⟩, Cb.2⟩
  obtain ⟨gp, egp⟩ : ∃ gp, gp = M.2.2 0 4 := ⟨_, rfl⟩
  rw [← egp] at hC
  have hq : QG gp := by
    rcases gq0 with ⟨p4, _⟩ | ⟨p4, _⟩
    · exact Or.inl (egp.trans p4)
    · exact Or.inr (egp.trans p4)
  have cgp : s_c gp = 6 := qg_c hq
  have hb := bpx_i hJ0.1
  have hE := hC.1.1.1
  have hS := hC.1.1.2.2.2
  have qq := pre_c hC hJ0.2.1 (by omega)
  refine j_aload_n C 2 1 dL_law_692 rfl rfl ?_
  refine j_aload_n C 3 0 dL_law_693 rfl rfl ?_
  refine j_iload_n C 0 3 dL_law_694 rfl rfl ?_
  refine y_iconst C dL_law_695 ?_
  refine y_iadd C dL_law_696 ?_
  refine y_sldx C hX hbl hbA hL (by omega) dL_law_697 ?_
  refine j_aload_n C 3 0 dL_law_698 rfl rfl ?_
  refine j_iload_n C 0 3 dL_law_699 rfl rfl ?_
  refine y_iconst C dL_law_700 ?_
  refine y_iadd C dL_law_701 ?_
  refine y_sldx C hX hbl hbA hL (by omega) dL_law_702 ?_
  refine j_callVi C (d := 6) (As := [.int (sI (xs (i + 1).toNat).toInt), .int (sI (xs (i + 2).toNat).toInt)]) (st := []) 0 (by decide) rfl (by decide) rfl (s2_X11_season (iv_0 (prX [(8, 0)]) hJ0) (hPX [(8, 0)]) (fun i h => hXc (c := 8) rfl h) (xs (i + 1).toNat).toInt (sI_r _) (xs (i + 2).toNat).toInt (sI_r _) gp cgp egp qq.1 qq.2.1 qq.2.2.1 qq.2.2.2.1) tL_season_x rfl hdLX11_season (by decide) (Nat.le_of_ble_eq_true rfl) dL_law_703 rfl (fun r1 M1 hp1 => ?_)
  obtain ⟨a1, rfl, hV1, hF1, hf1⟩ := hp1
  have hJ1 := li_x (cs := [(8, 0)]) (by decide) hJ0 hV1
  have t1_1 := t1_x t1_0 hV1 rfl rfl
  have t2_1 := t2_x t2_0 hV1 rfl (fun _ => rfl)
  have t3_1 := t3_x t3_0 hV1 ⟨rfl, rfl⟩ (fun _ => rfl) (fun _ => rfl)
  have t4_1 := t4_x t4_0 hV1 rfl (fun _ => rfl) (fun _ => rfl)
  have t5_1 := t5_x t5_0 hV1 ⟨rfl, rfl⟩ ⟨rfl, rfl⟩
  have e99 : M1.1 99 = M.1 99 := hF1.cell (by decide)
  have g4 := xp hV1 (i := 0) (k := 4) rfl rfl
  have g5 := xp hV1 (i := 0) (k := 5) rfl rfl
  have gq1 : GPQ M1 := gpq_c gq0 g4 g5
  have ty_1 : TYT M1 := tyt_s ty_0 (trs_f hF1 (by decide)) (hF1.cellJ (by decide))
  have fq := fx_q hq hF1 rfl
  obtain ⟨hc1, w1⟩ := cts_se (y := (17 * (i + 6))) (r := a1) (s := (xs (i + 1).toNat).toInt) (n := (xs (i + 2).toNat).toInt) hb cgp hC fq.1 (by exact hf1.2.2.2.2.1) fq.2.1 fq.2.2 (by exact hf1.2.2.1) (by exact hf1.2.2.2.1) (by exact hf1.2.2.2.2.2) (by omega)
  refine j_pop C dL_law_706 rfl ?_
  refine j_aload_n C 1 2 dL_law_707 rfl rfl ?_
  refine j_aload_n C 3 0 dL_law_708 rfl rfl ?_
  refine j_iload_n C 0 3 dL_law_709 rfl rfl ?_
  refine y_iconst C dL_law_710 ?_
  refine y_iadd C dL_law_711 ?_
  refine y_sldx C hX hbl hbA hL (by omega) dL_law_712 ?_
  refine j_aload_n C 3 0 dL_law_713 rfl rfl ?_
  refine j_iload_n C 0 3 dL_law_714 rfl rfl ?_
  refine y_iconst C dL_law_715 ?_
  refine y_iadd C dL_law_716 ?_
  refine y_sldx C hX hbl hbA hL (by omega) dL_law_717 ?_
  refine j_callVi C (d := 8) (As := [.int (sI (xs (i + 1).toNat).toInt), .int (sI (xs (i + 2).toNat).toInt)]) (st := []) 98 (by decide) rfl (by decide) rfl (s1_X12_season (iv_0 (prM []) hJ1) (hPM []) (li_cw (cs := []) (fun _ => rfl) hJ1) (xs (i + 1).toNat).toInt (sI_r _) (xs (i + 2).toNat).toInt (sI_r _) hJ1.2.1) tL_season_m rfl hdLX12_season (by decide) (Nat.le_of_ble_eq_true rfl) dL_law_718 rfl (fun r2 M2 hp2 => ?_)
  obtain ⟨a2, rfl, hV2, hF2, hf2⟩ := hp2
  have hJ2 := li_m (cs := []) (fun _ => rfl) hJ1 hV2 (by exact hf2.2.2.2.2)
  have t1_2 := t1_m t1_1 hV2 rfl rfl
  have t2_2 := t2_m t2_1 hV2 rfl (fun _ => rfl)
  have t3_2 := t3_m t3_1 hV2 ⟨rfl, rfl⟩ (fun _ => rfl) (fun _ => rfl)
  have t4_2 := t4_m2 t4_1 hV2 rfl (fun _ => rfl) (fun _ => rfl)
  have t5_2 := t5_m t5_1 hV2 ⟨rfl, rfl⟩ ⟨rfl, rfl⟩
  rw [e99] at hf2
  have e2 : M2.1 99 = (sqS (M.1 99) (xs (i + 1).toNat).toInt (xs (i + 2).toNat).toInt) := b01_e (by exact hf2.2.2.2.1)
  have hc2 := fin_m hq hJ1.1 hc1 hF2 rfl e2
  have gq2 : GPQ M2 := gpq_c gq1 (by rw [hF2.2.1]) (by rw [hF2.2.1])
  have hC2 : CTS M2 (M2.2.2 0 4) (M2.1 99) (17 * (i + 6)) := by rw [hF2.2.1, g4, ← egp]; exact hc2
  have ty_2 : TYT M2 := tyt_f ty_1 (cfr_f hF2 (by decide)) (hF2.cellJ (by decide))
  refine j_pop C dL_law_721 rfl ?_
  refine j_goto C 1466 dL_law_722 (by decide) ?_
  exact hfin _ ⟨⟨hJ2, t1_2, t2_2, t3_2, t4_2, t5_2⟩, gq2, hC2, ty_2⟩
set_option maxHeartbeats 2000000 in
set_option maxRecDepth 100000 in
theorem lw_op17 {p : Program} {l : Launch} {e : Env} {s : State} {m : MethodId} {below : List Frame} {meth : Method} {c : Code} {b L : Nat} {xs : Nat → Int32} {Q : State → Prop} {dC : Nat → ClassId} {dI : Nat → Nat → Nat} {ad : Nat → Nat} {cA : Nat → ClassId} {A : Nat → Prop} (Cb : jj_C p room_1 s m #[Value.ref b] c 118 20643 code 4 RL [] dC dI ad cA A) (hts : ∀ w ∈ lw_tbl, w.before #[Value.ref b] s = true) (hL : L ≤ 3072) (hX : va_X b L xs s s.heap) (hbl : b < s.heap.size) (hbA : ¬ A b) {i : Int} (hi : 0 ≤ i ∧ i + 6 ≤ L) (hfin : ∀ M : mm_M, LJ (i + 6) M → jj p l e room_1 s m #[Value.ref b] below meth c 118 20643 Q 4 dC dI ad cA A M 1466 [(3, .int (sI i)), (2, .ref (ad 98)), (1, .ref (ad 0)), (0, .ref b)] []) (M : mm_M) (hI0 : LJ i M) : jj p l e room_1 s m #[Value.ref b] below meth c 118 20643 Q 4 dC dI ad cA A M 725 [(3, .int (sI i)), (2, .ref (ad 98)), (1, .ref (ad 0)), (0, .ref b)] [] := by
  obtain ⟨⟨hJ0, t1_0, t2_0, t3_0, t4_0, t5_0⟩, gq0, hC, ty_0⟩ := hI0
  have C : jj_C p room_1 s m #[Value.ref b] c 118 20643 code 4 RL tL_ending dC dI ad cA A := ⟨⟨Cb.1.1, Cb.1.2.1, Cb.1.2.2.1, Cb.1.2.2.2.1, fun w h => hts w (tL_ending_in w h)⟩, Cb.2⟩
  obtain ⟨gp, egp⟩ : ∃ gp, gp = M.2.2 0 4 := ⟨_, rfl⟩
  rw [← egp] at hC
  have hq : QG gp := by
    rcases gq0 with ⟨p4, _⟩ | ⟨p4, _⟩
    · exact Or.inl (egp.trans p4)
    · exact Or.inr (egp.trans p4)
  have cgp : s_c gp = 6 := qg_c hq
  have hb := bpx_i hJ0.1
  have hE := hC.1.1.1
  have hS := hC.1.1.2.2.2
  have qq := pre_c hC hJ0.2.1 (by omega)
  refine j_aload_n C 2 1 dL_law_725 rfl rfl ?_
  refine j_callVi C (d := 6) (As := []) (st := []) 0 (by decide) rfl (by decide) rfl (s2_X11_ending (iv_0 (prX []) hJ0) (hPX []) gp cgp egp qq.1 qq.2.1 qq.2.2.1 qq.2.2.2.2) tL_ending_x rfl hdLX11_ending (by decide) (Nat.le_of_ble_eq_true rfl) dL_law_726 rfl (fun r1 M1 hp1 => ?_)
  obtain ⟨a1, rfl, hV1, hF1, hf1⟩ := hp1
  have hJ1 := li_x (cs := []) (by decide) hJ0 hV1
  have t1_1 := t1_x t1_0 hV1 rfl rfl
  have t2_1 := t2_x t2_0 hV1 rfl (fun _ => rfl)
  have t3_1 := t3_x t3_0 hV1 ⟨rfl, rfl⟩ (fun _ => rfl) (fun _ => rfl)
  have t4_1 := t4_x t4_0 hV1 rfl (fun _ => rfl) (fun _ => rfl)
  have t5_1 := t5_x t5_0 hV1 ⟨rfl, rfl⟩ ⟨rfl, rfl⟩
  have e99 : M1.1 99 = M.1 99 := hF1.cell (by decide)
  have g4 := xp hV1 (i := 0) (k := 4) rfl rfl
  have g5 := xp hV1 (i := 0) (k := 5) rfl rfl
  have gq1 : GPQ M1 := gpq_c gq0 g4 g5
  have ty_1 : TYT M1 := tyt_s ty_0 (trs_f hF1 (by decide)) (hF1.cellJ (by decide))
  have hc1 : CTS M1 gp (M.1 99) (17 * (i + 6)) := fin_x hq hJ0.1 hC hF1 rfl (by exact hf1.2.2.2) (by omega)
  have w1 := eq_en hE (-1)
  refine j_pop C dL_law_729 rfl ?_
  refine j_aload_n C 1 2 dL_law_730 rfl rfl ?_
  refine j_callVi C (d := 6) (As := []) (st := []) 98 (by decide) rfl (by decide) rfl (s1_X12_ending (iv_0 (prM []) hJ1) (hPM []) (li_cw (cs := []) (fun _ => rfl) hJ1) hJ1.2.1) tL_ending_m rfl hdLX12_ending (by decide) (Nat.le_of_ble_eq_true rfl) dL_law_731 rfl (fun r2 M2 hp2 => ?_)
  obtain ⟨a2, rfl, hV2, hF2, hf2⟩ := hp2
  have hJ2 := li_m (cs := []) (fun _ => rfl) hJ1 hV2 (by exact hf2.2.2.2)
  have t1_2 := t1_m t1_1 hV2 rfl rfl
  have t2_2 := t2_m t2_1 hV2 rfl (fun _ => rfl)
  have t3_2 := t3_m t3_1 hV2 ⟨rfl, rfl⟩ (fun _ => rfl) (fun _ => rfl)
  have t4_2 := t4_m2 t4_1 hV2 rfl (fun _ => rfl) (fun _ => rfl)
  have t5_2 := t5_m t5_1 hV2 ⟨rfl, rfl⟩ ⟨rfl, rfl⟩
  rw [e99] at hf2
  have e2 : M2.1 99 = (M.1 99) := (hF2.cell (by decide)).trans e99
  have hc2 := fin_m hq hJ1.1 hc1 hF2 rfl e2
  have gq2 : GPQ M2 := gpq_c gq1 (by rw [hF2.2.1]) (by rw [hF2.2.1])
  have hC2 : CTS M2 (M2.2.2 0 4) (M2.1 99) (17 * (i + 6)) := by rw [hF2.2.1, g4, ← egp]; exact hc2
  have ty_2 : TYT M2 := tyt_f ty_1 (cfr_f hF2 (by decide)) (hF2.cellJ (by decide))
  refine j_pop C dL_law_734 rfl ?_
  refine j_goto C 1466 dL_law_735 (by decide) ?_
  exact hfin _ ⟨⟨hJ2, t1_2, t2_2, t3_2, t4_2, t5_2⟩, gq2, hC2, ty_2⟩
set_option maxHeartbeats 2000000 in
set_option maxRecDepth 100000 in
theorem lw_op18 {p : Program} {l : Launch} {e : Env} {s : State} {m : MethodId} {below : List Frame} {meth : Method} {c : Code} {b L : Nat} {xs : Nat → Int32} {Q : State → Prop} {dC : Nat → ClassId} {dI : Nat → Nat → Nat} {ad : Nat → Nat} {cA : Nat → ClassId} {A : Nat → Prop} (Cb : jj_C p room_1 s m #[Value.ref b] c 118 20643 code 4 RL [] dC dI ad cA A) (hts : ∀ w ∈ lw_tbl, w.before #[Value.ref b] s = true) (hL : L ≤ 3072) (hX : va_X b L xs s s.heap) (hbl : b < s.heap.size) (hbA : ¬ A b) {i : Int} (hi : 0 ≤ i ∧ i + 6 ≤ L) (hfin : ∀ M : mm_M, LJ (i + 6) M → jj p l e room_1 s m #[Value.ref b] below meth c 118 20643 Q 4 dC dI ad cA A M 1466 [(3, .int (sI i)), (2, .ref (ad 98)), (1, .ref (ad 0)), (0, .ref b)] []) (M : mm_M) (hI0 : LJ i M) : jj p l e room_1 s m #[Value.ref b] below meth c 118 20643 Q 4 dC dI ad cA A M 738 [(3, .int (sI i)), (2, .ref (ad 98)), (1, .ref (ad 0)), (0, .ref b)] [] := by
  obtain ⟨⟨hJ0, t1_0, t2_0, t3_0, t4_0, t5_0⟩, gq0, hC, ty_0⟩ := hI0
  have C : jj_C p room_1 s m #[Value.ref b] c 118 20643 code 4 RL tL_endingBy dC dI ad cA A := ⟨⟨Cb.1.1, Cb.1.2.1, Cb.1.2.2.1, Cb.1.2.2.2.1, fun w h => hts w (tL_endingBy_in w h)⟩, Cb.2⟩
  obtain ⟨gp, egp⟩ : ∃ gp, gp = M.2.2 0 4 := ⟨_, rfl⟩
  rw [← egp] at hC
  have hq : QG gp := by
    rcases gq0 with ⟨p4, _⟩ | ⟨p4, _⟩
    · exact Or.inl (egp.trans p4)
    · exact Or.inr (egp.trans p4)
  have cgp : s_c gp = 6 := qg_c hq
  have hb := bpx_i hJ0.1
  have hE := hC.1.1.1
  have hS := hC.1.1.2.2.2
  have qq := pre_c hC hJ0.2.1 (by omega)
  refine j_aload_n C 2 1 dL_law_738 rfl rfl ?_
  refine j_aload_n C 3 0 dL_law_739 rfl rfl ?_
  refine j_iload_n C 0 3 dL_law_740 rfl rfl ?_
  refine y_iconst C dL_law_741 ?_
  refine y_iadd C dL_law_742 ?_
  refine y_sldx C hX hbl hbA hL (by omega) dL_law_743 ?_
  refine j_callVi C (d := 6) (As := [.int (sI (xs (i + 1).toNat).toInt)]) (st := []) 0 (by decide) rfl (by decide) rfl (s2_X11_endingBy (iv_0 (prX []) hJ0) (hPX []) (xs (i + 1).toNat).toInt (sI_r _) gp cgp egp qq.1 qq.2.1 qq.2.2.1 qq.2.2.2.2) tL_endingBy_x rfl hdLX11_endingBy (by decide) (Nat.le_of_ble_eq_true rfl) dL_law_744 rfl (fun r1 M1 hp1 => ?_)
  obtain ⟨a1, rfl, hV1, hF1, hf1⟩ := hp1
  have hJ1 := li_x (cs := []) (by decide) hJ0 hV1
  have t1_1 := t1_x t1_0 hV1 rfl rfl
  have t2_1 := t2_x t2_0 hV1 rfl (fun _ => rfl)
  have t3_1 := t3_x t3_0 hV1 ⟨rfl, rfl⟩ (fun _ => rfl) (fun _ => rfl)
  have t4_1 := t4_x t4_0 hV1 rfl (fun _ => rfl) (fun _ => rfl)
  have t5_1 := t5_x t5_0 hV1 ⟨rfl, rfl⟩ ⟨rfl, rfl⟩
  have e99 : M1.1 99 = M.1 99 := hF1.cell (by decide)
  have g4 := xp hV1 (i := 0) (k := 4) rfl rfl
  have g5 := xp hV1 (i := 0) (k := 5) rfl rfl
  have gq1 : GPQ M1 := gpq_c gq0 g4 g5
  have ty_1 : TYT M1 := tyt_s ty_0 (trs_f hF1 (by decide)) (hF1.cellJ (by decide))
  have hc1 : CTS M1 gp (M.1 99) (17 * (i + 6)) := fin_x hq hJ0.1 hC hF1 rfl (by exact hf1.2.2.2) (by omega)
  have w1 := eq_eb hE (r27 hJ0.1 hE) (xs (i + 1).toNat).toInt
  refine j_pop C dL_law_747 rfl ?_
  refine j_aload_n C 1 2 dL_law_748 rfl rfl ?_
  refine j_aload_n C 3 0 dL_law_749 rfl rfl ?_
  refine j_iload_n C 0 3 dL_law_750 rfl rfl ?_
  refine y_iconst C dL_law_751 ?_
  refine y_iadd C dL_law_752 ?_
  refine y_sldx C hX hbl hbA hL (by omega) dL_law_753 ?_
  refine j_callVi C (d := 7) (As := [.int (sI (xs (i + 1).toNat).toInt)]) (st := []) 98 (by decide) rfl (by decide) rfl (s1_X12_endingBy (iv_0 (prM []) hJ1) (hPM []) (li_cw (cs := []) (fun _ => rfl) hJ1) (xs (i + 1).toNat).toInt (sI_r _) hJ1.2.1) tL_endingBy_m rfl hdLX12_endingBy (by decide) (Nat.le_of_ble_eq_true rfl) dL_law_754 rfl (fun r2 M2 hp2 => ?_)
  obtain ⟨a2, rfl, hV2, hF2, hf2⟩ := hp2
  have hJ2 := li_m (cs := []) (fun _ => rfl) hJ1 hV2 (by exact hf2.2.2.2)
  have t1_2 := t1_m t1_1 hV2 rfl rfl
  have t2_2 := t2_m t2_1 hV2 rfl (fun _ => rfl)
  have t3_2 := t3_m t3_1 hV2 ⟨rfl, rfl⟩ (fun _ => rfl) (fun _ => rfl)
  have t4_2 := t4_m2 t4_1 hV2 rfl (fun _ => rfl) (fun _ => rfl)
  have t5_2 := t5_m t5_1 hV2 ⟨rfl, rfl⟩ ⟨rfl, rfl⟩
  rw [e99] at hf2
  have e2 : M2.1 99 = (M.1 99) := (hF2.cell (by decide)).trans e99
  have hc2 := fin_m hq hJ1.1 hc1 hF2 rfl e2
  have gq2 : GPQ M2 := gpq_c gq1 (by rw [hF2.2.1]) (by rw [hF2.2.1])
  have hC2 : CTS M2 (M2.2.2 0 4) (M2.1 99) (17 * (i + 6)) := by rw [hF2.2.1, g4, ← egp]; exact hc2
  have ty_2 : TYT M2 := tyt_f ty_1 (cfr_f hF2 (by decide)) (hF2.cellJ (by decide))
  refine j_pop C dL_law_757 rfl ?_
  refine j_goto C 1466 dL_law_758 (by decide) ?_
  exact hfin _ ⟨⟨hJ2, t1_2, t2_2, t3_2, t4_2, t5_2⟩, gq2, hC2, ty_2⟩
set_option maxHeartbeats 2000000 in
set_option maxRecDepth 100000 in
theorem lw_op19 {p : Program} {l : Launch} {e : Env} {s : State} {m : MethodId} {below : List Frame} {meth : Method} {c : Code} {b L : Nat} {xs : Nat → Int32} {Q : State → Prop} {dC : Nat → ClassId} {dI : Nat → Nat → Nat} {ad : Nat → Nat} {cA : Nat → ClassId} {A : Nat → Prop} (Cb : jj_C p room_1 s m #[Value.ref b] c 118 20643 code 4 RL [] dC dI ad cA A) (hts : ∀ w ∈ lw_tbl, w.before #[Value.ref b] s = true) (hL : L ≤ 3072) (hX : va_X b L xs s s.heap) (hbl : b < s.heap.size) (hbA : ¬ A b) {i : Int} (hi : 0 ≤ i ∧ i + 6 ≤ L) (hfin : ∀ M : mm_M, LJ (i + 6) M → jj p l e room_1 s m #[Value.ref b] below meth c 118 20643 Q 4 dC dI ad cA A M 1466 [(3, .int (sI i)), (2, .ref (ad 98)), (1, .ref (ad 0)), (0, .ref b)] []) (M : mm_M) (hI0 : LJ i M) : jj p l e room_1 s m #[Value.ref b] below meth c 118 20643 Q 4 dC dI ad cA A M 761 [(3, .int (sI i)), (2, .ref (ad 98)), (1, .ref (ad 0)), (0, .ref b)] [] := by
  obtain ⟨⟨hJ0, t1_0, t2_0, t3_0, t4_0, t5_0⟩, gq0, hC, ty_0⟩ := hI0
  have C : jj_C p room_1 s m #[Value.ref b] c 118 20643 code 4 RL tL_endings dC dI ad cA A := ⟨⟨Cb.1.1, Cb.1.2.1, Cb.1.2.2.1, Cb.1.2.2.2.1, fun w h => hts w (tL_endings_in w h)⟩, Cb.2⟩
  obtain ⟨gp, egp⟩ : ∃ gp, gp = M.2.2 0 4 := ⟨_, rfl⟩
  rw [← egp] at hC
  have hq : QG gp := by
    rcases gq0 with ⟨p4, _⟩ | ⟨p4, _⟩
    · exact Or.inl (egp.trans p4)
    · exact Or.inr (egp.trans p4)
  have cgp : s_c gp = 6 := qg_c hq
  have hb := bpx_i hJ0.1
  have hE := hC.1.1.1
  have hS := hC.1.1.2.2.2
  have qq := pre_c hC hJ0.2.1 (by omega)
  refine j_aload_n C 2 1 dL_law_761 rfl rfl ?_
  refine j_aload_n C 3 0 dL_law_762 rfl rfl ?_
  refine j_iload_n C 0 3 dL_law_763 rfl rfl ?_
  refine y_iconst C dL_law_764 ?_
  refine y_iadd C dL_law_765 ?_
  refine y_sldx C hX hbl hbA hL (by omega) dL_law_766 ?_
  refine j_callVj C (d := 6) (As := [.int (sI (xs (i + 1).toNat).toInt)]) (st := []) 0 (by decide) rfl (by decide) rfl (s2_X11_endings (iv_0 (prX []) hJ0) (hPX []) (xs (i + 1).toNat).toInt (sI_r _) gp cgp egp qq.1 qq.2.1 qq.2.2.1 qq.2.2.2.2) tL_endings_x rfl hdLX11_endings (by decide) (Nat.le_of_ble_eq_true rfl) dL_law_767 rfl (fun r1 M1 hp1 => ?_)
  obtain ⟨a1, rfl, hV1, hF1, hf1⟩ := hp1
  have hJ1 := li_x (cs := []) (by decide) hJ0 hV1
  have t1_1 := t1_x t1_0 hV1 rfl rfl
  have t2_1 := t2_x t2_0 hV1 rfl (fun _ => rfl)
  have t3_1 := t3_x t3_0 hV1 ⟨rfl, rfl⟩ (fun _ => rfl) (fun _ => rfl)
  have t4_1 := t4_x t4_0 hV1 rfl (fun _ => rfl) (fun _ => rfl)
  have t5_1 := t5_x t5_0 hV1 ⟨rfl, rfl⟩ ⟨rfl, rfl⟩
  have e99 : M1.1 99 = M.1 99 := hF1.cell (by decide)
  have g4 := xp hV1 (i := 0) (k := 4) rfl rfl
  have g5 := xp hV1 (i := 0) (k := 5) rfl rfl
  have gq1 : GPQ M1 := gpq_c gq0 g4 g5
  have ty_1 : TYT M1 := tyt_s ty_0 (trs_f hF1 (by decide)) (hF1.cellJ (by decide))
  have hc1 : CTS M1 gp (M.1 99) (17 * (i + 6)) := fin_x hq hJ0.1 hC hF1 rfl (by exact hf1.2.2) (by omega)
  refine j_pop2 C dL_law_770 rfl ?_
  refine j_aload_n C 1 2 dL_law_771 rfl rfl ?_
  refine j_aload_n C 3 0 dL_law_772 rfl rfl ?_
  refine j_iload_n C 0 3 dL_law_773 rfl rfl ?_
  refine y_iconst C dL_law_774 ?_
  refine y_iadd C dL_law_775 ?_
  refine y_sldx C hX hbl hbA hL (by omega) dL_law_776 ?_
  refine j_callVj C (d := 5) (As := [.int (sI (xs (i + 1).toNat).toInt)]) (st := []) 98 (by decide) rfl (by decide) rfl (s1_X12_endings (iv_0 (prM []) hJ1) (hPM []) (li_cw (cs := []) (fun _ => rfl) hJ1) (xs (i + 1).toNat).toInt (sI_r _) hJ1.2.1) tL_endings_m rfl hdLX12_endings (by decide) (Nat.le_of_ble_eq_true rfl) dL_law_777 rfl (fun r2 M2 hp2 => ?_)
  obtain ⟨a2, rfl, hV2, hF2, hf2⟩ := hp2
  have hJ2 := li_m (cs := []) (fun _ => rfl) hJ1 hV2 (by exact hf2.2.2)
  have t1_2 := t1_m t1_1 hV2 rfl rfl
  have t2_2 := t2_m t2_1 hV2 rfl (fun _ => rfl)
  have t3_2 := t3_m t3_1 hV2 ⟨rfl, rfl⟩ (fun _ => rfl) (fun _ => rfl)
  have t4_2 := t4_m2 t4_1 hV2 rfl (fun _ => rfl) (fun _ => rfl)
  have t5_2 := t5_m t5_1 hV2 ⟨rfl, rfl⟩ ⟨rfl, rfl⟩
  have e2 : M2.1 99 = (M.1 99) := (hF2.cell (by decide)).trans e99
  have hc2 := fin_m hq hJ1.1 hc1 hF2 rfl e2
  have gq2 : GPQ M2 := gpq_c gq1 (by rw [hF2.2.1]) (by rw [hF2.2.1])
  have hC2 : CTS M2 (M2.2.2 0 4) (M2.1 99) (17 * (i + 6)) := by rw [hF2.2.1, g4, ← egp]; exact hc2
  have ty_2 : TYT M2 := tyt_f ty_1 (cfr_f hF2 (by decide)) (hF2.cellJ (by decide))
  refine j_pop2 C dL_law_780 rfl ?_
  refine j_goto C 1466 dL_law_781 (by decide) ?_
  exact hfin _ ⟨⟨hJ2, t1_2, t2_2, t3_2, t4_2, t5_2⟩, gq2, hC2, ty_2⟩
set_option maxHeartbeats 2000000 in
set_option maxRecDepth 100000 in
theorem lw_op20 {p : Program} {l : Launch} {e : Env} {s : State} {m : MethodId} {below : List Frame} {meth : Method} {c : Code} {b L : Nat} {xs : Nat → Int32} {Q : State → Prop} {dC : Nat → ClassId} {dI : Nat → Nat → Nat} {ad : Nat → Nat} {cA : Nat → ClassId} {A : Nat → Prop} (Cb : jj_C p room_1 s m #[Value.ref b] c 118 20643 code 4 RL [] dC dI ad cA A) (hts : ∀ w ∈ lw_tbl, w.before #[Value.ref b] s = true) (hL : L ≤ 3072) (hX : va_X b L xs s s.heap) (hbl : b < s.heap.size) (hbA : ¬ A b) {i : Int} (hi : 0 ≤ i ∧ i + 6 ≤ L) (hfin : ∀ M : mm_M, LJ (i + 6) M → jj p l e room_1 s m #[Value.ref b] below meth c 118 20643 Q 4 dC dI ad cA A M 1466 [(3, .int (sI i)), (2, .ref (ad 98)), (1, .ref (ad 0)), (0, .ref b)] []) (M : mm_M) (hI0 : LJ i M) : jj p l e room_1 s m #[Value.ref b] below meth c 118 20643 Q 4 dC dI ad cA A M 784 [(3, .int (sI i)), (2, .ref (ad 98)), (1, .ref (ad 0)), (0, .ref b)] [] := by
  obtain ⟨⟨hJ0, t1_0, t2_0, t3_0, t4_0, t5_0⟩, gq0, hC, ty_0⟩ := hI0
  have C : jj_C p room_1 s m #[Value.ref b] c 118 20643 code 4 RL tL_needed dC dI ad cA A := ⟨⟨Cb.1.1, Cb.1.2.1, Cb.1.2.2.1, Cb.1.2.2.2.1, fun w h => hts w (tL_needed_in w h)⟩, Cb.2⟩
  obtain ⟨gp, egp⟩ : ∃ gp, gp = M.2.2 0 4 := ⟨_, rfl⟩
  rw [← egp] at hC
  have hq : QG gp := by
    rcases gq0 with ⟨p4, _⟩ | ⟨p4, _⟩
    · exact Or.inl (egp.trans p4)
    · exact Or.inr (egp.trans p4)
  have cgp : s_c gp = 6 := qg_c hq
  have hb := bpx_i hJ0.1
  have hE := hC.1.1.1
  have hS := hC.1.1.2.2.2
  have qq := pre_c hC hJ0.2.1 (by omega)
  refine j_aload_n C 2 1 dL_law_784 rfl rfl ?_
  refine j_callVi C (d := 6) (As := []) (st := []) 0 (by decide) rfl (by decide) rfl (s2_X11_needed (iv_0 (prX []) hJ0) (hPX []) gp cgp egp qq.1 qq.2.1 qq.2.2.1 qq.2.2.2.2) tL_needed_x rfl hdLX11_needed (by decide) (Nat.le_of_ble_eq_true rfl) dL_law_785 rfl (fun r1 M1 hp1 => ?_)
  obtain ⟨a1, rfl, hV1, hF1, hf1⟩ := hp1
  have hJ1 := li_x (cs := []) (by decide) hJ0 hV1
  have t1_1 := t1_x t1_0 hV1 rfl rfl
  have t2_1 := t2_x t2_0 hV1 rfl (fun _ => rfl)
  have t3_1 := t3_x t3_0 hV1 ⟨rfl, rfl⟩ (fun _ => rfl) (fun _ => rfl)
  have t4_1 := t4_x t4_0 hV1 rfl (fun _ => rfl) (fun _ => rfl)
  have t5_1 := t5_x t5_0 hV1 ⟨rfl, rfl⟩ ⟨rfl, rfl⟩
  have e99 : M1.1 99 = M.1 99 := hF1.cell (by decide)
  have g4 := xp hV1 (i := 0) (k := 4) rfl rfl
  have g5 := xp hV1 (i := 0) (k := 5) rfl rfl
  have gq1 : GPQ M1 := gpq_c gq0 g4 g5
  have ty_1 : TYT M1 := tyt_s ty_0 (trs_f hF1 (by decide)) (hF1.cellJ (by decide))
  have hc1 : CTS M1 gp (M.1 99) (17 * (i + 6)) := fin_x hq hJ0.1 hC hF1 rfl (by exact hf1.2.2.2) (by omega)
  have w1 := eq_nd hE
  refine j_pop C dL_law_788 rfl ?_
  refine j_aload_n C 1 2 dL_law_789 rfl rfl ?_
  refine j_callVi C (d := 6) (As := []) (st := []) 98 (by decide) rfl (by decide) rfl (s1_X12_needed (iv_0 (prM []) hJ1) (hPM []) (li_cw (cs := []) (fun _ => rfl) hJ1) hJ1.2.1) tL_needed_m rfl hdLX12_needed (by decide) (Nat.le_of_ble_eq_true rfl) dL_law_790 rfl (fun r2 M2 hp2 => ?_)
  obtain ⟨a2, rfl, hV2, hF2, hf2⟩ := hp2
  have hJ2 := li_m (cs := []) (fun _ => rfl) hJ1 hV2 (by exact hf2.2.2.2)
  have t1_2 := t1_m t1_1 hV2 rfl rfl
  have t2_2 := t2_m t2_1 hV2 rfl (fun _ => rfl)
  have t3_2 := t3_m t3_1 hV2 ⟨rfl, rfl⟩ (fun _ => rfl) (fun _ => rfl)
  have t4_2 := t4_m2 t4_1 hV2 rfl (fun _ => rfl) (fun _ => rfl)
  have t5_2 := t5_m t5_1 hV2 ⟨rfl, rfl⟩ ⟨rfl, rfl⟩
  rw [e99] at hf2
  have e2 : M2.1 99 = (M.1 99) := (hF2.cell (by decide)).trans e99
  have hc2 := fin_m hq hJ1.1 hc1 hF2 rfl e2
  have gq2 : GPQ M2 := gpq_c gq1 (by rw [hF2.2.1]) (by rw [hF2.2.1])
  have hC2 : CTS M2 (M2.2.2 0 4) (M2.1 99) (17 * (i + 6)) := by rw [hF2.2.1, g4, ← egp]; exact hc2
  have ty_2 : TYT M2 := tyt_f ty_1 (cfr_f hF2 (by decide)) (hF2.cellJ (by decide))
  refine j_pop C dL_law_793 rfl ?_
  refine j_goto C 1466 dL_law_794 (by decide) ?_
  exact hfin _ ⟨⟨hJ2, t1_2, t2_2, t3_2, t4_2, t5_2⟩, gq2, hC2, ty_2⟩
set_option maxHeartbeats 2000000 in
set_option maxRecDepth 100000 in
theorem lw_op21 {p : Program} {l : Launch} {e : Env} {s : State} {m : MethodId} {below : List Frame} {meth : Method} {c : Code} {b L : Nat} {xs : Nat → Int32} {Q : State → Prop} {dC : Nat → ClassId} {dI : Nat → Nat → Nat} {ad : Nat → Nat} {cA : Nat → ClassId} {A : Nat → Prop} (Cb : jj_C p room_1 s m #[Value.ref b] c 118 20643 code 4 RL [] dC dI ad cA A) (hts : ∀ w ∈ lw_tbl, w.before #[Value.ref b] s = true) (hL : L ≤ 3072) (hX : va_X b L xs s s.heap) (hbl : b < s.heap.size) (hbA : ¬ A b) {i : Int} (hi : 0 ≤ i ∧ i + 6 ≤ L) (hfin : ∀ M : mm_M, LJ (i + 6) M → jj p l e room_1 s m #[Value.ref b] below meth c 118 20643 Q 4 dC dI ad cA A M 1466 [(3, .int (sI i)), (2, .ref (ad 98)), (1, .ref (ad 0)), (0, .ref b)] []) (M : mm_M) (hI0 : LJ i M) : jj p l e room_1 s m #[Value.ref b] below meth c 118 20643 Q 4 dC dI ad cA A M 797 [(3, .int (sI i)), (2, .ref (ad 98)), (1, .ref (ad 0)), (0, .ref b)] [] := by
  obtain ⟨⟨hJ0, t1_0, t2_0, t3_0, t4_0, t5_0⟩, gq0, hC, ty_0⟩ := hI0
  have C : jj_C p room_1 s m #[Value.ref b] c 118 20643 code 4 RL tL_sellable dC dI ad cA A := ⟨⟨Cb.1.1, Cb.1.2.1, Cb.1.2.2.1, Cb.1.2.2.2.1, fun w h => hts w (tL_sellable_in w h)⟩, Cb.2⟩
  obtain ⟨gp, egp⟩ : ∃ gp, gp = M.2.2 0 4 := ⟨_, rfl⟩
  rw [← egp] at hC
  have hq : QG gp := by
    rcases gq0 with ⟨p4, _⟩ | ⟨p4, _⟩
    · exact Or.inl (egp.trans p4)
    · exact Or.inr (egp.trans p4)
  have cgp : s_c gp = 6 := qg_c hq
  have hb := bpx_i hJ0.1
  have hE := hC.1.1.1
  have hS := hC.1.1.2.2.2
  have qq := pre_c hC hJ0.2.1 (by omega)
  refine j_aload_n C 2 1 dL_law_797 rfl rfl ?_
  refine j_callVi C (d := 6) (As := []) (st := []) 0 (by decide) rfl (by decide) rfl (s2_X11_sellable (iv_0 (prX []) hJ0) (hPX []) gp cgp egp qq.1 qq.2.1 qq.2.2.1 qq.2.2.2.2) tL_sellable_x rfl hdLX11_sellable (by decide) (Nat.le_of_ble_eq_true rfl) dL_law_798 rfl (fun r1 M1 hp1 => ?_)
  obtain ⟨a1, rfl, hV1, hF1, hf1⟩ := hp1
  have hJ1 := li_x (cs := []) (by decide) hJ0 hV1
  have t1_1 := t1_x t1_0 hV1 rfl rfl
  have t2_1 := t2_x t2_0 hV1 rfl (fun _ => rfl)
  have t3_1 := t3_x t3_0 hV1 ⟨rfl, rfl⟩ (fun _ => rfl) (fun _ => rfl)
  have t4_1 := t4_x t4_0 hV1 rfl (fun _ => rfl) (fun _ => rfl)
  have t5_1 := t5_x t5_0 hV1 ⟨rfl, rfl⟩ ⟨rfl, rfl⟩
  have e99 : M1.1 99 = M.1 99 := hF1.cell (by decide)
  have g4 := xp hV1 (i := 0) (k := 4) rfl rfl
  have g5 := xp hV1 (i := 0) (k := 5) rfl rfl
  have gq1 : GPQ M1 := gpq_c gq0 g4 g5
  have ty_1 : TYT M1 := tyt_s ty_0 (trs_f hF1 (by decide)) (hF1.cellJ (by decide))
  have hc1 : CTS M1 gp (M.1 99) (17 * (i + 6)) := fin_x hq hJ0.1 hC hF1 rfl (by exact hf1.2.2.2) (by omega)
  have w1 := eq_sv hE
  refine j_pop C dL_law_801 rfl ?_
  refine j_aload_n C 1 2 dL_law_802 rfl rfl ?_
  refine j_callVi C (d := 6) (As := []) (st := []) 98 (by decide) rfl (by decide) rfl (s1_X12_sellable (iv_0 (prM []) hJ1) (hPM []) (li_cw (cs := []) (fun _ => rfl) hJ1) hJ1.2.1) tL_sellable_m rfl hdLX12_sellable (by decide) (Nat.le_of_ble_eq_true rfl) dL_law_803 rfl (fun r2 M2 hp2 => ?_)
  obtain ⟨a2, rfl, hV2, hF2, hf2⟩ := hp2
  have hJ2 := li_m (cs := []) (fun _ => rfl) hJ1 hV2 (by exact hf2.2.2.2)
  have t1_2 := t1_m t1_1 hV2 rfl rfl
  have t2_2 := t2_m t2_1 hV2 rfl (fun _ => rfl)
  have t3_2 := t3_m t3_1 hV2 ⟨rfl, rfl⟩ (fun _ => rfl) (fun _ => rfl)
  have t4_2 := t4_m2 t4_1 hV2 rfl (fun _ => rfl) (fun _ => rfl)
  have t5_2 := t5_m t5_1 hV2 ⟨rfl, rfl⟩ ⟨rfl, rfl⟩
  rw [e99] at hf2
  have e2 : M2.1 99 = (M.1 99) := (hF2.cell (by decide)).trans e99
  have hc2 := fin_m hq hJ1.1 hc1 hF2 rfl e2
  have gq2 : GPQ M2 := gpq_c gq1 (by rw [hF2.2.1]) (by rw [hF2.2.1])
  have hC2 : CTS M2 (M2.2.2 0 4) (M2.1 99) (17 * (i + 6)) := by rw [hF2.2.1, g4, ← egp]; exact hc2
  have ty_2 : TYT M2 := tyt_f ty_1 (cfr_f hF2 (by decide)) (hF2.cellJ (by decide))
  refine j_pop C dL_law_806 rfl ?_
  refine j_goto C 1466 dL_law_807 (by decide) ?_
  exact hfin _ ⟨⟨hJ2, t1_2, t2_2, t3_2, t4_2, t5_2⟩, gq2, hC2, ty_2⟩
set_option maxHeartbeats 2000000 in
set_option maxRecDepth 100000 in
theorem lw_op22 {p : Program} {l : Launch} {e : Env} {s : State} {m : MethodId} {below : List Frame} {meth : Method} {c : Code} {b L : Nat} {xs : Nat → Int32} {Q : State → Prop} {dC : Nat → ClassId} {dI : Nat → Nat → Nat} {ad : Nat → Nat} {cA : Nat → ClassId} {A : Nat → Prop} (Cb : jj_C p room_1 s m #[Value.ref b] c 118 20643 code 4 RL [] dC dI ad cA A) (hts : ∀ w ∈ lw_tbl, w.before #[Value.ref b] s = true) (hL : L ≤ 3072) (hX : va_X b L xs s s.heap) (hbl : b < s.heap.size) (hbA : ¬ A b) {i : Int} (hi : 0 ≤ i ∧ i + 6 ≤ L) (hfin : ∀ M : mm_M, LJ (i + 6) M → jj p l e room_1 s m #[Value.ref b] below meth c 118 20643 Q 4 dC dI ad cA A M 1466 [(3, .int (sI i)), (2, .ref (ad 98)), (1, .ref (ad 0)), (0, .ref b)] []) (M : mm_M) (hI0 : LJ i M) : jj p l e room_1 s m #[Value.ref b] below meth c 118 20643 Q 4 dC dI ad cA A M 810 [(3, .int (sI i)), (2, .ref (ad 98)), (1, .ref (ad 0)), (0, .ref b)] [] := by
  obtain ⟨⟨hJ0, t1_0, t2_0, t3_0, t4_0, t5_0⟩, gq0, hC, ty_0⟩ := hI0
  have C : jj_C p room_1 s m #[Value.ref b] c 118 20643 code 4 RL tL_guards dC dI ad cA A := ⟨⟨Cb.1.1, Cb.1.2.1, Cb.1.2.2.1, Cb.1.2.2.2.1, fun w h => hts w (tL_guards_in w h)⟩, Cb.2⟩
  obtain ⟨gp, egp⟩ : ∃ gp, gp = M.2.2 0 4 := ⟨_, rfl⟩
  rw [← egp] at hC
  have hq : QG gp := by
    rcases gq0 with ⟨p4, _⟩ | ⟨p4, _⟩
    · exact Or.inl (egp.trans p4)
    · exact Or.inr (egp.trans p4)
  have cgp : s_c gp = 6 := qg_c hq
  have hb := bpx_i hJ0.1
  have hE := hC.1.1.1
  have hS := hC.1.1.2.2.2
  have qq := pre_c hC hJ0.2.1 (by omega)
  refine j_aload_n C 2 1 dL_law_810 rfl rfl ?_
  refine j_callVi C (d := 6) (As := []) (st := []) 0 (by decide) rfl (by decide) rfl (s2_X11_guards (iv_0 (prX []) hJ0) (hPX []) gp cgp egp qq.1 qq.2.1 qq.2.2.1 qq.2.2.2.2) tL_guards_x rfl hdLX11_guards (by decide) (Nat.le_of_ble_eq_true rfl) dL_law_811 rfl (fun r1 M1 hp1 => ?_)
  obtain ⟨a1, rfl, hV1, hF1, hf1⟩ := hp1
  have hJ1 := li_x (cs := []) (by decide) hJ0 hV1
  have t1_1 := t1_x t1_0 hV1 rfl rfl
  have t2_1 := t2_x t2_0 hV1 rfl (fun _ => rfl)
  have t3_1 := t3_x t3_0 hV1 ⟨rfl, rfl⟩ (fun _ => rfl) (fun _ => rfl)
  have t4_1 := t4_x t4_0 hV1 rfl (fun _ => rfl) (fun _ => rfl)
  have t5_1 := t5_x t5_0 hV1 ⟨rfl, rfl⟩ ⟨rfl, rfl⟩
  have e99 : M1.1 99 = M.1 99 := hF1.cell (by decide)
  have g4 := xp hV1 (i := 0) (k := 4) rfl rfl
  have g5 := xp hV1 (i := 0) (k := 5) rfl rfl
  have gq1 : GPQ M1 := gpq_c gq0 g4 g5
  have ty_1 : TYT M1 := tyt_s ty_0 (trs_f hF1 (by decide)) (hF1.cellJ (by decide))
  have hc1 : CTS M1 gp (M.1 99) (17 * (i + 6)) := fin_x hq hJ0.1 hC hF1 rfl (by exact hf1.2.2.2) (by omega)
  have w1 := eq_gu hE
  refine j_pop C dL_law_814 rfl ?_
  refine j_aload_n C 1 2 dL_law_815 rfl rfl ?_
  refine j_callVi C (d := 6) (As := []) (st := []) 98 (by decide) rfl (by decide) rfl (s1_X12_guards (iv_0 (prM []) hJ1) (hPM []) (li_cw (cs := []) (fun _ => rfl) hJ1) hJ1.2.1) tL_guards_m rfl hdLX12_guards (by decide) (Nat.le_of_ble_eq_true rfl) dL_law_816 rfl (fun r2 M2 hp2 => ?_)
  obtain ⟨a2, rfl, hV2, hF2, hf2⟩ := hp2
  have hJ2 := li_m (cs := []) (fun _ => rfl) hJ1 hV2 (by exact hf2.2.2.2.2)
  have t1_2 := t1_m t1_1 hV2 rfl rfl
  have t2_2 := t2_m t2_1 hV2 rfl (fun _ => rfl)
  have t3_2 := t3_m t3_1 hV2 ⟨rfl, rfl⟩ (fun _ => rfl) (fun _ => rfl)
  have t4_2 := t4_m2 t4_1 hV2 rfl (fun _ => rfl) (fun _ => rfl)
  have t5_2 := t5_m t5_1 hV2 ⟨rfl, rfl⟩ ⟨rfl, rfl⟩
  rw [e99] at hf2
  have e2 : M2.1 99 = (M.1 99) := b01_e (by exact hf2.2.2.1)
  have hc2 := fin_m hq hJ1.1 hc1 hF2 rfl e2
  have gq2 : GPQ M2 := gpq_c gq1 (by rw [hF2.2.1]) (by rw [hF2.2.1])
  have hC2 : CTS M2 (M2.2.2 0 4) (M2.1 99) (17 * (i + 6)) := by rw [hF2.2.1, g4, ← egp]; exact hc2
  have ty_2 : TYT M2 := tyt_f ty_1 (cfr_f hF2 (by decide)) (hF2.cellJ (by decide))
  refine j_pop C dL_law_819 rfl ?_
  refine j_goto C 1466 dL_law_820 (by decide) ?_
  exact hfin _ ⟨⟨hJ2, t1_2, t2_2, t3_2, t4_2, t5_2⟩, gq2, hC2, ty_2⟩
set_option maxHeartbeats 2000000 in
set_option maxRecDepth 100000 in
theorem lw_op23 {p : Program} {l : Launch} {e : Env} {s : State} {m : MethodId} {below : List Frame} {meth : Method} {c : Code} {b L : Nat} {xs : Nat → Int32} {Q : State → Prop} {dC : Nat → ClassId} {dI : Nat → Nat → Nat} {ad : Nat → Nat} {cA : Nat → ClassId} {A : Nat → Prop} (Cb : jj_C p room_1 s m #[Value.ref b] c 118 20643 code 4 RL [] dC dI ad cA A) (hts : ∀ w ∈ lw_tbl, w.before #[Value.ref b] s = true) (hL : L ≤ 3072) (hX : va_X b L xs s s.heap) (hbl : b < s.heap.size) (hbA : ¬ A b) {i : Int} (hi : 0 ≤ i ∧ i + 6 ≤ L) (hfin : ∀ M : mm_M, LJ (i + 6) M → jj p l e room_1 s m #[Value.ref b] below meth c 118 20643 Q 4 dC dI ad cA A M 1466 [(3, .int (sI i)), (2, .ref (ad 98)), (1, .ref (ad 0)), (0, .ref b)] []) (M : mm_M) (hI0 : LJ i M) : jj p l e room_1 s m #[Value.ref b] below meth c 118 20643 Q 4 dC dI ad cA A M 823 [(3, .int (sI i)), (2, .ref (ad 98)), (1, .ref (ad 0)), (0, .ref b)] [] := by
  obtain ⟨⟨hJ0, t1_0, t2_0, t3_0, t4_0, t5_0⟩, gq0, hC, ty_0⟩ := hI0
  have C : jj_C p room_1 s m #[Value.ref b] c 118 20643 code 4 RL tL_last dC dI ad cA A := ⟨⟨Cb.1.1, Cb.1.2.1, Cb.1.2.2.1, Cb.1.2.2.2.1, fun w h => hts w (tL_last_in w h)⟩, Cb.2⟩
  obtain ⟨gp, egp⟩ : ∃ gp, gp = M.2.2 0 4 := ⟨_, rfl⟩
  rw [← egp] at hC
  have hq : QG gp := by
    rcases gq0 with ⟨p4, _⟩ | ⟨p4, _⟩
    · exact Or.inl (egp.trans p4)
    · exact Or.inr (egp.trans p4)
  have cgp : s_c gp = 6 := qg_c hq
  have hb := bpx_i hJ0.1
  have hE := hC.1.1.1
  have hS := hC.1.1.2.2.2
  have qq := pre_c hC hJ0.2.1 (by omega)
  refine j_aload_n C 2 1 dL_law_823 rfl rfl ?_
  refine j_callVi C (d := 6) (As := []) (st := []) 0 (by decide) rfl (by decide) rfl (s2_X11_last (iv_0 (prX []) hJ0) (hPX []) gp cgp egp qq.1 qq.2.1 qq.2.2.1 qq.2.2.2.2) tL_last_x rfl hdLX11_last (by decide) (Nat.le_of_ble_eq_true rfl) dL_law_824 rfl (fun r1 M1 hp1 => ?_)
  obtain ⟨a1, rfl, hV1, hF1, hf1⟩ := hp1
  have hJ1 := li_x (cs := []) (by decide) hJ0 hV1
  have t1_1 := t1_x t1_0 hV1 rfl rfl
  have t2_1 := t2_x t2_0 hV1 rfl (fun _ => rfl)
  have t3_1 := t3_x t3_0 hV1 ⟨rfl, rfl⟩ (fun _ => rfl) (fun _ => rfl)
  have t4_1 := t4_x t4_0 hV1 rfl (fun _ => rfl) (fun _ => rfl)
  have t5_1 := t5_x t5_0 hV1 ⟨rfl, rfl⟩ ⟨rfl, rfl⟩
  have e99 : M1.1 99 = M.1 99 := hF1.cell (by decide)
  have g4 := xp hV1 (i := 0) (k := 4) rfl rfl
  have g5 := xp hV1 (i := 0) (k := 5) rfl rfl
  have gq1 : GPQ M1 := gpq_c gq0 g4 g5
  have ty_1 : TYT M1 := tyt_s ty_0 (trs_f hF1 (by decide)) (hF1.cellJ (by decide))
  have hc1 : CTS M1 gp (M.1 99) (17 * (i + 6)) := fin_x hq hJ0.1 hC hF1 rfl (by exact hf1.2.2.2) (by omega)
  have w1 := eq_la hE
  refine j_pop C dL_law_827 rfl ?_
  refine j_aload_n C 1 2 dL_law_828 rfl rfl ?_
  refine j_callVi C (d := 6) (As := []) (st := []) 98 (by decide) rfl (by decide) rfl (s1_X12_last (iv_0 (prM []) hJ1) (hPM []) (li_cw (cs := []) (fun _ => rfl) hJ1) hJ1.2.1) tL_last_m rfl hdLX12_last (by decide) (Nat.le_of_ble_eq_true rfl) dL_law_829 rfl (fun r2 M2 hp2 => ?_)
  obtain ⟨a2, rfl, hV2, hF2, hf2⟩ := hp2
  have hJ2 := li_m (cs := []) (fun _ => rfl) hJ1 hV2 (by exact hf2.2.2.2)
  have t1_2 := t1_m t1_1 hV2 rfl rfl
  have t2_2 := t2_m t2_1 hV2 rfl (fun _ => rfl)
  have t3_2 := t3_m t3_1 hV2 ⟨rfl, rfl⟩ (fun _ => rfl) (fun _ => rfl)
  have t4_2 := t4_m2 t4_1 hV2 rfl (fun _ => rfl) (fun _ => rfl)
  have t5_2 := t5_m t5_1 hV2 ⟨rfl, rfl⟩ ⟨rfl, rfl⟩
  rw [e99] at hf2
  have e2 : M2.1 99 = (M.1 99) := (hF2.cell (by decide)).trans e99
  have hc2 := fin_m hq hJ1.1 hc1 hF2 rfl e2
  have gq2 : GPQ M2 := gpq_c gq1 (by rw [hF2.2.1]) (by rw [hF2.2.1])
  have hC2 : CTS M2 (M2.2.2 0 4) (M2.1 99) (17 * (i + 6)) := by rw [hF2.2.1, g4, ← egp]; exact hc2
  have ty_2 : TYT M2 := tyt_f ty_1 (cfr_f hF2 (by decide)) (hF2.cellJ (by decide))
  refine j_pop C dL_law_832 rfl ?_
  refine j_goto C 1466 dL_law_833 (by decide) ?_
  exact hfin _ ⟨⟨hJ2, t1_2, t2_2, t3_2, t4_2, t5_2⟩, gq2, hC2, ty_2⟩
set_option maxHeartbeats 2000000 in
set_option maxRecDepth 100000 in
theorem lw_op24 {p : Program} {l : Launch} {e : Env} {s : State} {m : MethodId} {below : List Frame} {meth : Method} {c : Code} {b L : Nat} {xs : Nat → Int32} {Q : State → Prop} {dC : Nat → ClassId} {dI : Nat → Nat → Nat} {ad : Nat → Nat} {cA : Nat → ClassId} {A : Nat → Prop} (Cb : jj_C p room_1 s m #[Value.ref b] c 118 20643 code 4 RL [] dC dI ad cA A) (hts : ∀ w ∈ lw_tbl, w.before #[Value.ref b] s = true) (hL : L ≤ 3072) (hX : va_X b L xs s s.heap) (hbl : b < s.heap.size) (hbA : ¬ A b) {i : Int} (hi : 0 ≤ i ∧ i + 6 ≤ L) (hfin : ∀ M : mm_M, LJ (i + 6) M → jj p l e room_1 s m #[Value.ref b] below meth c 118 20643 Q 4 dC dI ad cA A M 1466 [(3, .int (sI i)), (2, .ref (ad 98)), (1, .ref (ad 0)), (0, .ref b)] []) (M : mm_M) (hI0 : LJ i M) : jj p l e room_1 s m #[Value.ref b] below meth c 118 20643 Q 4 dC dI ad cA A M 836 [(3, .int (sI i)), (2, .ref (ad 98)), (1, .ref (ad 0)), (0, .ref b)] [] := by
  obtain ⟨⟨hJ0, t1_0, t2_0, t3_0, t4_0, t5_0⟩, gq0, hC, ty_0⟩ := hI0
  have C : jj_C p room_1 s m #[Value.ref b] c 118 20643 code 4 RL tL_open dC dI ad cA A := ⟨⟨Cb.1.1, Cb.1.2.1, Cb.1.2.2.1, Cb.1.2.2.2.1, fun w h => hts w (tL_open_in w h)⟩, Cb.2⟩
  obtain ⟨gp, egp⟩ : ∃ gp, gp = M.2.2 0 4 := ⟨_, rfl⟩
  rw [← egp] at hC
  have hq : QG gp := by
    rcases gq0 with ⟨p4, _⟩ | ⟨p4, _⟩
    · exact Or.inl (egp.trans p4)
    · exact Or.inr (egp.trans p4)
  have cgp : s_c gp = 6 := qg_c hq
  have hb := bpx_i hJ0.1
  have hE := hC.1.1.1
  have hS := hC.1.1.2.2.2
  have qq := pre_c hC hJ0.2.1 (by omega)
  refine j_aload_n C 2 1 dL_law_836 rfl rfl ?_
  refine j_aload_n C 3 0 dL_law_837 rfl rfl ?_
  refine j_iload_n C 0 3 dL_law_838 rfl rfl ?_
  refine y_iconst C dL_law_839 ?_
  refine y_iadd C dL_law_840 ?_
  refine y_sldx C hX hbl hbA hL (by omega) dL_law_841 ?_
  refine j_aload_n C 3 0 dL_law_842 rfl rfl ?_
  refine j_iload_n C 0 3 dL_law_843 rfl rfl ?_
  refine y_iconst C dL_law_844 ?_
  refine y_iadd C dL_law_845 ?_
  refine y_sldx C hX hbl hbA hL (by omega) dL_law_846 ?_
  refine j_callVj C (d := 6) (As := [.int (sI (xs (i + 1).toNat).toInt), .int (sI (xs (i + 2).toNat).toInt)]) (st := []) 0 (by decide) rfl (by decide) rfl (s2_X11_open (iv_0 (prX []) hJ0) (hPX []) (xs (i + 1).toNat).toInt (sI_r _) (xs (i + 2).toNat).toInt (sI_r _) gp cgp egp qq.1 qq.2.1 qq.2.2.1 qq.2.2.2.2) tL_open_x rfl hdLX11_open (by decide) (Nat.le_of_ble_eq_true rfl) dL_law_847 rfl (fun r1 M1 hp1 => ?_)
  obtain ⟨a1, rfl, hV1, hF1, hf1⟩ := hp1
  have hJ1 := li_x (cs := []) (by decide) hJ0 hV1
  have t1_1 := t1_x t1_0 hV1 rfl rfl
  have t2_1 := t2_x t2_0 hV1 rfl (fun _ => rfl)
  have t3_1 := t3_x t3_0 hV1 ⟨rfl, rfl⟩ (fun _ => rfl) (fun _ => rfl)
  have t4_1 := t4_x t4_0 hV1 rfl (fun _ => rfl) (fun _ => rfl)
  have t5_1 := t5_x t5_0 hV1 ⟨rfl, rfl⟩ ⟨rfl, rfl⟩
  have e99 : M1.1 99 = M.1 99 := hF1.cell (by decide)
  have g4 := xp hV1 (i := 0) (k := 4) rfl rfl
  have g5 := xp hV1 (i := 0) (k := 5) rfl rfl
  have gq1 : GPQ M1 := gpq_c gq0 g4 g5
  have ty_1 : TYT M1 := tyt_s ty_0 (trs_f hF1 (by decide)) (hF1.cellJ (by decide))
  have hc1 : CTS M1 gp (M.1 99) (17 * (i + 6)) := fin_x hq hJ0.1 hC hF1 rfl (by exact hf1.2.2) (by omega)
  refine j_pop2 C dL_law_850 rfl ?_
  refine j_aload_n C 1 2 dL_law_851 rfl rfl ?_
  refine j_aload_n C 3 0 dL_law_852 rfl rfl ?_
  refine j_iload_n C 0 3 dL_law_853 rfl rfl ?_
  refine y_iconst C dL_law_854 ?_
  refine y_iadd C dL_law_855 ?_
  refine y_sldx C hX hbl hbA hL (by omega) dL_law_856 ?_
  refine j_aload_n C 3 0 dL_law_857 rfl rfl ?_
  refine j_iload_n C 0 3 dL_law_858 rfl rfl ?_
  refine y_iconst C dL_law_859 ?_
  refine y_iadd C dL_law_860 ?_
  refine y_sldx C hX hbl hbA hL (by omega) dL_law_861 ?_
  refine j_callVj C (d := 86) (As := [.int (sI (xs (i + 1).toNat).toInt), .int (sI (xs (i + 2).toNat).toInt)]) (st := []) 98 (by decide) rfl (by decide) rfl (s1_X12_open (iv_0 (prM []) hJ1) (hPM []) (li_cw (cs := []) (fun _ => rfl) hJ1) (xs (i + 1).toNat).toInt (sI_r _) (xs (i + 2).toNat).toInt (sI_r _) hJ1.2.1) tL_open_m rfl hdLX12_open (by decide) (Nat.le_of_ble_eq_true rfl) dL_law_862 rfl (fun r2 M2 hp2 => ?_)
  obtain ⟨a2, rfl, hV2, hF2, hf2⟩ := hp2
  have hJ2 := li_m (cs := []) (fun _ => rfl) hJ1 hV2 (by exact hf2.2.2)
  have t1_2 := t1_m t1_1 hV2 rfl rfl
  have t2_2 := t2_m t2_1 hV2 rfl (fun _ => rfl)
  have t3_2 := t3_m t3_1 hV2 ⟨rfl, rfl⟩ (fun _ => rfl) (fun _ => rfl)
  have t4_2 := t4_m2 t4_1 hV2 rfl (fun _ => rfl) (fun _ => rfl)
  have t5_2 := t5_m t5_1 hV2 ⟨rfl, rfl⟩ ⟨rfl, rfl⟩
  have e2 : M2.1 99 = (M.1 99) := (hF2.cell (by decide)).trans e99
  have hc2 := fin_m hq hJ1.1 hc1 hF2 rfl e2
  have gq2 : GPQ M2 := gpq_c gq1 (by rw [hF2.2.1]) (by rw [hF2.2.1])
  have hC2 : CTS M2 (M2.2.2 0 4) (M2.1 99) (17 * (i + 6)) := by rw [hF2.2.1, g4, ← egp]; exact hc2
  have ty_2 : TYT M2 := tyt_f ty_1 (cfr_f hF2 (by decide)) (hF2.cellJ (by decide))
  refine j_pop2 C dL_law_865 rfl ?_
  refine j_goto C 1466 dL_law_866 (by decide) ?_
  exact hfin _ ⟨⟨hJ2, t1_2, t2_2, t3_2, t4_2, t5_2⟩, gq2, hC2, ty_2⟩
set_option maxHeartbeats 2000000 in
set_option maxRecDepth 100000 in
theorem lw_op25 {p : Program} {l : Launch} {e : Env} {s : State} {m : MethodId} {below : List Frame} {meth : Method} {c : Code} {b L : Nat} {xs : Nat → Int32} {Q : State → Prop} {dC : Nat → ClassId} {dI : Nat → Nat → Nat} {ad : Nat → Nat} {cA : Nat → ClassId} {A : Nat → Prop} (Cb : jj_C p room_1 s m #[Value.ref b] c 118 20643 code 4 RL [] dC dI ad cA A) (hts : ∀ w ∈ lw_tbl, w.before #[Value.ref b] s = true) (hL : L ≤ 3072) (hX : va_X b L xs s s.heap) (hbl : b < s.heap.size) (hbA : ¬ A b) {i : Int} (hi : 0 ≤ i ∧ i + 6 ≤ L) (hfin : ∀ M : mm_M, LJ (i + 6) M → jj p l e room_1 s m #[Value.ref b] below meth c 118 20643 Q 4 dC dI ad cA A M 1466 [(3, .int (sI i)), (2, .ref (ad 98)), (1, .ref (ad 0)), (0, .ref b)] []) (M : mm_M) (hI0 : LJ i M) : jj p l e room_1 s m #[Value.ref b] below meth c 118 20643 Q 4 dC dI ad cA A M 869 [(3, .int (sI i)), (2, .ref (ad 98)), (1, .ref (ad 0)), (0, .ref b)] [] := by
  obtain ⟨⟨hJ0, t1_0, t2_0, t3_0, t4_0, t5_0⟩, gq0, hC, ty_0⟩ := hI0
  have C : jj_C p room_1 s m #[Value.ref b] c 118 20643 code 4 RL tL_likely dC dI ad cA A := ⟨⟨Cb.1.1, Cb.1.2.1, Cb.1.2.2.1, Cb.1.2.2.2.1, fun w h => hts w (tL_likely_in w h)⟩, Cb.2⟩
  obtain ⟨gp, egp⟩ : ∃ gp, gp = M.2.2 0 4 := ⟨_, rfl⟩
  rw [← egp] at hC
  have hq : QG gp := by
    rcases gq0 with ⟨p4, _⟩ | ⟨p4, _⟩
    · exact Or.inl (egp.trans p4)
    · exact Or.inr (egp.trans p4)
  have cgp : s_c gp = 6 := qg_c hq
  have hb := bpx_i hJ0.1
  have hE := hC.1.1.1
  have hS := hC.1.1.2.2.2
  have qq := pre_c hC hJ0.2.1 (by omega)
  refine j_aload_n C 2 1 dL_law_869 rfl rfl ?_
  refine j_aload_n C 3 0 dL_law_870 rfl rfl ?_
  refine j_iload_n C 0 3 dL_law_871 rfl rfl ?_
  refine y_iconst C dL_law_872 ?_
  refine y_iadd C dL_law_873 ?_
  refine y_sldx C hX hbl hbA hL (by omega) dL_law_874 ?_
  refine j_callVi C (d := 6) (As := [.int (sI (xs (i + 1).toNat).toInt)]) (st := []) 0 (by decide) rfl (by decide) rfl (s2_X11_likely (iv_0 (prX []) hJ0) (hPX []) (xs (i + 1).toNat).toInt (sI_r _) gp cgp egp qq.1 qq.2.1 qq.2.2.1 qq.2.2.2.2) tL_likely_x rfl hdLX11_likely (by decide) (Nat.le_of_ble_eq_true rfl) dL_law_875 rfl (fun r1 M1 hp1 => ?_)
  obtain ⟨a1, rfl, hV1, hF1, hf1⟩ := hp1
  have hJ1 := li_x (cs := []) (by decide) hJ0 hV1
  have t1_1 := t1_x t1_0 hV1 rfl rfl
  have t2_1 := t2_x t2_0 hV1 rfl (fun _ => rfl)
  have t3_1 := t3_x t3_0 hV1 ⟨rfl, rfl⟩ (fun _ => rfl) (fun _ => rfl)
  have t4_1 := t4_x t4_0 hV1 rfl (fun _ => rfl) (fun _ => rfl)
  have t5_1 := t5_x t5_0 hV1 ⟨rfl, rfl⟩ ⟨rfl, rfl⟩
  have e99 : M1.1 99 = M.1 99 := hF1.cell (by decide)
  have g4 := xp hV1 (i := 0) (k := 4) rfl rfl
  have g5 := xp hV1 (i := 0) (k := 5) rfl rfl
  have gq1 : GPQ M1 := gpq_c gq0 g4 g5
  have ty_1 : TYT M1 := tyt_s ty_0 (trs_f hF1 (by decide)) (hF1.cellJ (by decide))
  have hc1 : CTS M1 gp (M.1 99) (17 * (i + 6)) := fin_x hq hJ0.1 hC hF1 rfl (by exact hf1.2.2) (by omega)
  refine j_pop C dL_law_878 rfl ?_
  refine j_aload_n C 1 2 dL_law_879 rfl rfl ?_
  refine j_aload_n C 3 0 dL_law_880 rfl rfl ?_
  refine j_iload_n C 0 3 dL_law_881 rfl rfl ?_
  refine y_iconst C dL_law_882 ?_
  refine y_iadd C dL_law_883 ?_
  refine y_sldx C hX hbl hbA hL (by omega) dL_law_884 ?_
  refine j_callVi C (d := 5) (As := [.int (sI (xs (i + 1).toNat).toInt)]) (st := []) 98 (by decide) rfl (by decide) rfl (s1_X12_likely (iv_0 (prM []) hJ1) (hPM []) (li_cw (cs := []) (fun _ => rfl) hJ1) (xs (i + 1).toNat).toInt (sI_r _) hJ1.2.1) tL_likely_m rfl hdLX12_likely (by decide) (Nat.le_of_ble_eq_true rfl) dL_law_885 rfl (fun r2 M2 hp2 => ?_)
  obtain ⟨a2, rfl, hV2, hF2, hf2⟩ := hp2
  have hJ2 := li_m (cs := []) (fun _ => rfl) hJ1 hV2 (by exact hf2.2.2)
  have t1_2 := t1_m t1_1 hV2 rfl rfl
  have t2_2 := t2_m t2_1 hV2 rfl (fun _ => rfl)
  have t3_2 := t3_m t3_1 hV2 ⟨rfl, rfl⟩ (fun _ => rfl) (fun _ => rfl)
  have t4_2 := t4_m2 t4_1 hV2 rfl (fun _ => rfl) (fun _ => rfl)
  have t5_2 := t5_m t5_1 hV2 ⟨rfl, rfl⟩ ⟨rfl, rfl⟩
  have e2 : M2.1 99 = (M.1 99) := (hF2.cell (by decide)).trans e99
  have hc2 := fin_m hq hJ1.1 hc1 hF2 rfl e2
  have gq2 : GPQ M2 := gpq_c gq1 (by rw [hF2.2.1]) (by rw [hF2.2.1])
  have hC2 : CTS M2 (M2.2.2 0 4) (M2.1 99) (17 * (i + 6)) := by rw [hF2.2.1, g4, ← egp]; exact hc2
  have ty_2 : TYT M2 := tyt_f ty_1 (cfr_f hF2 (by decide)) (hF2.cellJ (by decide))
  refine j_pop C dL_law_888 rfl ?_
  refine j_goto C 1466 dL_law_889 (by decide) ?_
  exact hfin _ ⟨⟨hJ2, t1_2, t2_2, t3_2, t4_2, t5_2⟩, gq2, hC2, ty_2⟩
set_option maxHeartbeats 2000000 in
set_option maxRecDepth 100000 in
theorem lw_op26 {p : Program} {l : Launch} {e : Env} {s : State} {m : MethodId} {below : List Frame} {meth : Method} {c : Code} {b L : Nat} {xs : Nat → Int32} {Q : State → Prop} {dC : Nat → ClassId} {dI : Nat → Nat → Nat} {ad : Nat → Nat} {cA : Nat → ClassId} {A : Nat → Prop} (Cb : jj_C p room_1 s m #[Value.ref b] c 118 20643 code 4 RL [] dC dI ad cA A) (hts : ∀ w ∈ lw_tbl, w.before #[Value.ref b] s = true) (hL : L ≤ 3072) (hX : va_X b L xs s s.heap) (hbl : b < s.heap.size) (hbA : ¬ A b) {i : Int} (hi : 0 ≤ i ∧ i + 6 ≤ L) (hfin : ∀ M : mm_M, LJ (i + 6) M → jj p l e room_1 s m #[Value.ref b] below meth c 118 20643 Q 4 dC dI ad cA A M 1466 [(3, .int (sI i)), (2, .ref (ad 98)), (1, .ref (ad 0)), (0, .ref b)] []) (M : mm_M) (hI0 : LJ i M) : jj p l e room_1 s m #[Value.ref b] below meth c 118 20643 Q 4 dC dI ad cA A M 892 [(3, .int (sI i)), (2, .ref (ad 98)), (1, .ref (ad 0)), (0, .ref b)] [] := by
  obtain ⟨⟨hJ0, t1_0, t2_0, t3_0, t4_0, t5_0⟩, gq0, hC, ty_0⟩ := hI0
  have C : jj_C p room_1 s m #[Value.ref b] c 118 20643 code 4 RL tL_shutsBy dC dI ad cA A := ⟨⟨Cb.1.1, Cb.1.2.1, Cb.1.2.2.1, Cb.1.2.2.2.1, fun w h => hts w (tL_shutsBy_in w h)⟩, Cb.2⟩
  obtain ⟨gp, egp⟩ : ∃ gp, gp = M.2.2 0 4 := ⟨_, rfl⟩
  rw [← egp] at hC
  have hq : QG gp := by
    rcases gq0 with ⟨p4, _⟩ | ⟨p4, _⟩
    · exact Or.inl (egp.trans p4)
    · exact Or.inr (egp.trans p4)
  have cgp : s_c gp = 6 := qg_c hq
  have hb := bpx_i hJ0.1
  have hE := hC.1.1.1
  have hS := hC.1.1.2.2.2
  have qq := pre_c hC hJ0.2.1 (by omega)
  refine j_aload_n C 2 1 dL_law_892 rfl rfl ?_
  refine j_aload_n C 3 0 dL_law_893 rfl rfl ?_
  refine j_iload_n C 0 3 dL_law_894 rfl rfl ?_
  refine y_iconst C dL_law_895 ?_
  refine y_iadd C dL_law_896 ?_
  refine y_sldx C hX hbl hbA hL (by omega) dL_law_897 ?_
  refine j_aload_n C 3 0 dL_law_898 rfl rfl ?_
  refine j_iload_n C 0 3 dL_law_899 rfl rfl ?_
  refine y_iconst C dL_law_900 ?_
  refine y_iadd C dL_law_901 ?_
  refine y_sldx C hX hbl hbA hL (by omega) dL_law_902 ?_
  refine j_aload_n C 3 0 dL_law_903 rfl rfl ?_
  refine j_iload_n C 0 3 dL_law_904 rfl rfl ?_
  refine y_iconst C dL_law_905 ?_
  refine y_iadd C dL_law_906 ?_
  refine y_sldx C hX hbl hbA hL (by omega) dL_law_907 ?_
  refine j_callVj C (d := 6) (As := [.int (sI (xs (i + 1).toNat).toInt), .int (sI (xs (i + 2).toNat).toInt), .int (sI (xs (i + 3).toNat).toInt)]) (st := []) 0 (by decide) rfl (by decide) rfl (s2_X11_shutsBy (iv_0 (prX []) hJ0) (hPX []) (xs (i + 1).toNat).toInt (sI_r _) (xs (i + 2).toNat).toInt (sI_r _) (xs (i + 3).toNat).toInt (sI_r _) gp cgp egp qq.1 qq.2.1 qq.2.2.1 qq.2.2.2.2) tL_shutsBy_x rfl hdLX11_shutsBy (by decide) (Nat.le_of_ble_eq_true rfl) dL_law_908 rfl (fun r1 M1 hp1 => ?_)
  obtain ⟨a1, rfl, hV1, hF1, hf1⟩ := hp1
  have hJ1 := li_x (cs := []) (by decide) hJ0 hV1
  have t1_1 := t1_x t1_0 hV1 rfl rfl
  have t2_1 := t2_x t2_0 hV1 rfl (fun _ => rfl)
  have t3_1 := t3_x t3_0 hV1 ⟨rfl, rfl⟩ (fun _ => rfl) (fun _ => rfl)
  have t4_1 := t4_x t4_0 hV1 rfl (fun _ => rfl) (fun _ => rfl)
  have t5_1 := t5_x t5_0 hV1 ⟨rfl, rfl⟩ ⟨rfl, rfl⟩
  have e99 : M1.1 99 = M.1 99 := hF1.cell (by decide)
  have g4 := xp hV1 (i := 0) (k := 4) rfl rfl
  have g5 := xp hV1 (i := 0) (k := 5) rfl rfl
  have gq1 : GPQ M1 := gpq_c gq0 g4 g5
  have ty_1 : TYT M1 := tyt_s ty_0 (trs_f hF1 (by decide)) (hF1.cellJ (by decide))
  have hc1 : CTS M1 gp (M.1 99) (17 * (i + 6)) := fin_x hq hJ0.1 hC hF1 rfl (by exact hf1.2.2) (by omega)
  refine j_pop2 C dL_law_911 rfl ?_
  refine j_aload_n C 1 2 dL_law_912 rfl rfl ?_
  refine j_aload_n C 3 0 dL_law_913 rfl rfl ?_
  refine j_iload_n C 0 3 dL_law_914 rfl rfl ?_
  refine y_iconst C dL_law_915 ?_
  refine y_iadd C dL_law_916 ?_
  refine y_sldx C hX hbl hbA hL (by omega) dL_law_917 ?_
  refine j_aload_n C 3 0 dL_law_918 rfl rfl ?_
  refine j_iload_n C 0 3 dL_law_919 rfl rfl ?_
  refine y_iconst C dL_law_920 ?_
  refine y_iadd C dL_law_921 ?_
  refine y_sldx C hX hbl hbA hL (by omega) dL_law_922 ?_
  refine j_aload_n C 3 0 dL_law_923 rfl rfl ?_
  refine j_iload_n C 0 3 dL_law_924 rfl rfl ?_
  refine y_iconst C dL_law_925 ?_
  refine y_iadd C dL_law_926 ?_
  refine y_sldx C hX hbl hbA hL (by omega) dL_law_927 ?_
  refine j_callVj C (d := 86) (As := [.int (sI (xs (i + 1).toNat).toInt), .int (sI (xs (i + 2).toNat).toInt), .int (sI (xs (i + 3).toNat).toInt)]) (st := []) 98 (by decide) rfl (by decide) rfl (s1_X12_shutsBy (iv_0 (prM []) hJ1) (hPM []) (li_cw (cs := []) (fun _ => rfl) hJ1) (xs (i + 1).toNat).toInt (sI_r _) (xs (i + 2).toNat).toInt (sI_r _) (xs (i + 3).toNat).toInt (sI_r _) hJ1.2.1) tL_shutsBy_m rfl hdLX12_shutsBy (by decide) (Nat.le_of_ble_eq_true rfl) dL_law_928 rfl (fun r2 M2 hp2 => ?_)
  obtain ⟨a2, rfl, hV2, hF2, hf2⟩ := hp2
  have hJ2 := li_m (cs := []) (fun _ => rfl) hJ1 hV2 (by exact hf2.2.2)
  have t1_2 := t1_m t1_1 hV2 rfl rfl
  have t2_2 := t2_m t2_1 hV2 rfl (fun _ => rfl)
  have t3_2 := t3_m t3_1 hV2 ⟨rfl, rfl⟩ (fun _ => rfl) (fun _ => rfl)
  have t4_2 := t4_m2 t4_1 hV2 rfl (fun _ => rfl) (fun _ => rfl)
  have t5_2 := t5_m t5_1 hV2 ⟨rfl, rfl⟩ ⟨rfl, rfl⟩
  have e2 : M2.1 99 = (M.1 99) := (hF2.cell (by decide)).trans e99
  have hc2 := fin_m hq hJ1.1 hc1 hF2 rfl e2
  have gq2 : GPQ M2 := gpq_c gq1 (by rw [hF2.2.1]) (by rw [hF2.2.1])
  have hC2 : CTS M2 (M2.2.2 0 4) (M2.1 99) (17 * (i + 6)) := by rw [hF2.2.1, g4, ← egp]; exact hc2
  have ty_2 : TYT M2 := tyt_f ty_1 (cfr_f hF2 (by decide)) (hF2.cellJ (by decide))
  refine j_pop2 C dL_law_931 rfl ?_
  refine j_goto C 1466 dL_law_932 (by decide) ?_
  exact hfin _ ⟨⟨hJ2, t1_2, t2_2, t3_2, t4_2, t5_2⟩, gq2, hC2, ty_2⟩
set_option maxHeartbeats 2000000 in
set_option maxRecDepth 100000 in
theorem lw_op27 {p : Program} {l : Launch} {e : Env} {s : State} {m : MethodId} {below : List Frame} {meth : Method} {c : Code} {b L : Nat} {xs : Nat → Int32} {Q : State → Prop} {dC : Nat → ClassId} {dI : Nat → Nat → Nat} {ad : Nat → Nat} {cA : Nat → ClassId} {A : Nat → Prop} (Cb : jj_C p room_1 s m #[Value.ref b] c 118 20643 code 4 RL [] dC dI ad cA A) (hts : ∀ w ∈ lw_tbl, w.before #[Value.ref b] s = true) (hL : L ≤ 3072) (hX : va_X b L xs s s.heap) (hbl : b < s.heap.size) (hbA : ¬ A b) {i : Int} (hi : 0 ≤ i ∧ i + 6 ≤ L) (hfin : ∀ M : mm_M, LJ (i + 6) M → jj p l e room_1 s m #[Value.ref b] below meth c 118 20643 Q 4 dC dI ad cA A M 1466 [(3, .int (sI i)), (2, .ref (ad 98)), (1, .ref (ad 0)), (0, .ref b)] []) (M : mm_M) (hI0 : LJ i M) : jj p l e room_1 s m #[Value.ref b] below meth c 118 20643 Q 4 dC dI ad cA A M 935 [(3, .int (sI i)), (2, .ref (ad 98)), (1, .ref (ad 0)), (0, .ref b)] [] := by
  obtain ⟨⟨hJ0, t1_0, t2_0, t3_0, t4_0, t5_0⟩, gq0, hC, ty_0⟩ := hI0
  have C : jj_C p room_1 s m #[Value.ref b] c 118 20643 code 4 RL tL_closer dC dI ad cA A := ⟨⟨Cb.1.1, Cb.1.2.1, Cb.1.2.2.1, Cb.1.2.2.2.1, fun w h => hts w (tL_closer_in w h)⟩, Cb.2⟩
  obtain ⟨gp, egp⟩ : ∃ gp, gp = M.2.2 0 4 := ⟨_, rfl⟩
  rw [← egp] at hC
  have hq : QG gp := by
    rcases gq0 with ⟨p4, _⟩ | ⟨p4, _⟩
    · exact Or.inl (egp.trans p4)
    · exact Or.inr (egp.trans p4)
  have cgp : s_c gp = 6 := qg_c hq
  have hb := bpx_i hJ0.1
  have hE := hC.1.1.1
  have hS := hC.1.1.2.2.2
  have qq := pre_c hC hJ0.2.1 (by omega)
  refine j_aload_n C 2 1 dL_law_935 rfl rfl ?_
  refine j_aload_n C 3 0 dL_law_936 rfl rfl ?_
  refine j_iload_n C 0 3 dL_law_937 rfl rfl ?_
  refine y_iconst C dL_law_938 ?_
  refine y_iadd C dL_law_939 ?_
  refine y_sldx C hX hbl hbA hL (by omega) dL_law_940 ?_
  refine j_callVi C (d := 6) (As := [.int (sI (xs (i + 1).toNat).toInt)]) (st := []) 0 (by decide) rfl (by decide) rfl (s2_X11_closer (iv_0 (prX []) hJ0) (hPX []) (xs (i + 1).toNat).toInt (sI_r _) gp cgp egp qq.1 qq.2.1 qq.2.2.1 qq.2.2.2.2) tL_closer_x rfl hdLX11_closer (by decide) (Nat.le_of_ble_eq_true rfl) dL_law_941 rfl (fun r1 M1 hp1 => ?_)
  obtain ⟨a1, rfl, hV1, hF1, hf1⟩ := hp1
  have hJ1 := li_x (cs := []) (by decide) hJ0 hV1
  have t1_1 := t1_x t1_0 hV1 rfl rfl
  have t2_1 := t2_x t2_0 hV1 rfl (fun _ => rfl)
  have t3_1 := t3_x t3_0 hV1 ⟨rfl, rfl⟩ (fun _ => rfl) (fun _ => rfl)
  have t4_1 := t4_x t4_0 hV1 rfl (fun _ => rfl) (fun _ => rfl)
  have t5_1 := t5_x t5_0 hV1 ⟨rfl, rfl⟩ ⟨rfl, rfl⟩
  have e99 : M1.1 99 = M.1 99 := hF1.cell (by decide)
  have g4 := xp hV1 (i := 0) (k := 4) rfl rfl
  have g5 := xp hV1 (i := 0) (k := 5) rfl rfl
  have gq1 : GPQ M1 := gpq_c gq0 g4 g5
  have ty_1 : TYT M1 := tyt_s ty_0 (trs_f hF1 (by decide)) (hF1.cellJ (by decide))
  have hc1 : CTS M1 gp (M.1 99) (17 * (i + 6)) := fin_x hq hJ0.1 hC hF1 rfl (by exact hf1.2.2) (by omega)
  refine j_pop C dL_law_944 rfl ?_
  refine j_aload_n C 1 2 dL_law_945 rfl rfl ?_
  refine j_aload_n C 3 0 dL_law_946 rfl rfl ?_
  refine j_iload_n C 0 3 dL_law_947 rfl rfl ?_
  refine y_iconst C dL_law_948 ?_
  refine y_iadd C dL_law_949 ?_
  refine y_sldx C hX hbl hbA hL (by omega) dL_law_950 ?_
  refine j_callVi C (d := 5) (As := [.int (sI (xs (i + 1).toNat).toInt)]) (st := []) 98 (by decide) rfl (by decide) rfl (s1_X12_closer (iv_0 (prM []) hJ1) (hPM []) (li_cw (cs := []) (fun _ => rfl) hJ1) (xs (i + 1).toNat).toInt (sI_r _) hJ1.2.1) tL_closer_m rfl hdLX12_closer (by decide) (Nat.le_of_ble_eq_true rfl) dL_law_951 rfl (fun r2 M2 hp2 => ?_)
  obtain ⟨a2, rfl, hV2, hF2, hf2⟩ := hp2
  have hJ2 := li_m (cs := []) (fun _ => rfl) hJ1 hV2 (by exact hf2.2.2)
  have t1_2 := t1_m t1_1 hV2 rfl rfl
  have t2_2 := t2_m t2_1 hV2 rfl (fun _ => rfl)
  have t3_2 := t3_m t3_1 hV2 ⟨rfl, rfl⟩ (fun _ => rfl) (fun _ => rfl)
  have t4_2 := t4_m2 t4_1 hV2 rfl (fun _ => rfl) (fun _ => rfl)
  have t5_2 := t5_m t5_1 hV2 ⟨rfl, rfl⟩ ⟨rfl, rfl⟩
  have e2 : M2.1 99 = (M.1 99) := (hF2.cell (by decide)).trans e99
  have hc2 := fin_m hq hJ1.1 hc1 hF2 rfl e2
  have gq2 : GPQ M2 := gpq_c gq1 (by rw [hF2.2.1]) (by rw [hF2.2.1])
  have hC2 : CTS M2 (M2.2.2 0 4) (M2.1 99) (17 * (i + 6)) := by rw [hF2.2.1, g4, ← egp]; exact hc2
  have ty_2 : TYT M2 := tyt_f ty_1 (cfr_f hF2 (by decide)) (hF2.cellJ (by decide))
  refine j_pop C dL_law_954 rfl ?_
  refine j_goto C 1466 dL_law_955 (by decide) ?_
  exact hfin _ ⟨⟨hJ2, t1_2, t2_2, t3_2, t4_2, t5_2⟩, gq2, hC2, ty_2⟩
set_option maxHeartbeats 2000000 in
set_option maxRecDepth 100000 in
theorem lw_op28 {p : Program} {l : Launch} {e : Env} {s : State} {m : MethodId} {below : List Frame} {meth : Method} {c : Code} {b L : Nat} {xs : Nat → Int32} {Q : State → Prop} {dC : Nat → ClassId} {dI : Nat → Nat → Nat} {ad : Nat → Nat} {cA : Nat → ClassId} {A : Nat → Prop} (Cb : jj_C p room_1 s m #[Value.ref b] c 118 20643 code 4 RL [] dC dI ad cA A) (hts : ∀ w ∈ lw_tbl, w.before #[Value.ref b] s = true) (hL : L ≤ 3072) (hX : va_X b L xs s s.heap) (hbl : b < s.heap.size) (hbA : ¬ A b) {i : Int} (hi : 0 ≤ i ∧ i + 6 ≤ L) (hfin : ∀ M : mm_M, LJ (i + 6) M → jj p l e room_1 s m #[Value.ref b] below meth c 118 20643 Q 4 dC dI ad cA A M 1466 [(3, .int (sI i)), (2, .ref (ad 98)), (1, .ref (ad 0)), (0, .ref b)] []) (M : mm_M) (hI0 : LJ i M) : jj p l e room_1 s m #[Value.ref b] below meth c 118 20643 Q 4 dC dI ad cA A M 958 [(3, .int (sI i)), (2, .ref (ad 98)), (1, .ref (ad 0)), (0, .ref b)] [] := by
  obtain ⟨⟨hJ0, t1_0, t2_0, t3_0, t4_0, t5_0⟩, gq0, hC, ty_0⟩ := hI0
  have C : jj_C p room_1 s m #[Value.ref b] c 118 20643 code 4 RL tL_soldIn dC dI ad cA A := ⟨⟨Cb.1.1, Cb.1.2.1, Cb.1.2.2.1, Cb.1.2.2.2.1, fun w h => hts w (tL_soldIn_in w h)⟩, Cb.2⟩
  obtain ⟨gp, egp⟩ : ∃ gp, gp = M.2.2 0 4 := ⟨_, rfl⟩
  rw [← egp] at hC
  have hq : QG gp := by
    rcases gq0 with ⟨p4, _⟩ | ⟨p4, _⟩
    · exact Or.inl (egp.trans p4)
    · exact Or.inr (egp.trans p4)
  have cgp : s_c gp = 6 := qg_c hq
  have hb := bpx_i hJ0.1
  have hE := hC.1.1.1
  have hS := hC.1.1.2.2.2
  have qq := pre_c hC hJ0.2.1 (by omega)
  refine j_aload_n C 2 1 dL_law_958 rfl rfl ?_
  refine j_aload_n C 3 0 dL_law_959 rfl rfl ?_
  refine j_iload_n C 0 3 dL_law_960 rfl rfl ?_
  refine y_iconst C dL_law_961 ?_
  refine y_iadd C dL_law_962 ?_
  refine y_sldx C hX hbl hbA hL (by omega) dL_law_963 ?_
  refine j_aload_n C 3 0 dL_law_964 rfl rfl ?_
  refine j_iload_n C 0 3 dL_law_965 rfl rfl ?_
  refine y_iconst C dL_law_966 ?_
  refine y_iadd C dL_law_967 ?_
  refine y_sldx C hX hbl hbA hL (by omega) dL_law_968 ?_
  refine j_aload_n C 3 0 dL_law_969 rfl rfl ?_
  refine j_iload_n C 0 3 dL_law_970 rfl rfl ?_
  refine y_iconst C dL_law_971 ?_
  refine y_iadd C dL_law_972 ?_
  refine y_sldx C hX hbl hbA hL (by omega) dL_law_973 ?_
  refine j_callVj C (d := 6) (As := [.int (sI (xs (i + 1).toNat).toInt), .int (sI (xs (i + 2).toNat).toInt), .int (sI (xs (i + 3).toNat).toInt)]) (st := []) 0 (by decide) rfl (by decide) rfl (s2_X11_soldIn (iv_0 (prX []) hJ0) (hPX []) (xs (i + 1).toNat).toInt (sI_r _) (xs (i + 2).toNat).toInt (sI_r _) (xs (i + 3).toNat).toInt (sI_r _) gp cgp egp qq.1 qq.2.1 qq.2.2.1 qq.2.2.2.2) tL_soldIn_x rfl hdLX11_soldIn (by decide) (Nat.le_of_ble_eq_true rfl) dL_law_974 rfl (fun r1 M1 hp1 => ?_)
  obtain ⟨a1, rfl, hV1, hF1, hf1⟩ := hp1
  have hJ1 := li_x (cs := []) (by decide) hJ0 hV1
  have t1_1 := t1_x t1_0 hV1 rfl rfl
  have t2_1 := t2_x t2_0 hV1 rfl (fun _ => rfl)
  have t3_1 := t3_x t3_0 hV1 ⟨rfl, rfl⟩ (fun _ => rfl) (fun _ => rfl)
  have t4_1 := t4_x t4_0 hV1 rfl (fun _ => rfl) (fun _ => rfl)
  have t5_1 := t5_x t5_0 hV1 ⟨rfl, rfl⟩ ⟨rfl, rfl⟩
  have e99 : M1.1 99 = M.1 99 := hF1.cell (by decide)
  have g4 := xp hV1 (i := 0) (k := 4) rfl rfl
  have g5 := xp hV1 (i := 0) (k := 5) rfl rfl
  have gq1 : GPQ M1 := gpq_c gq0 g4 g5
  have ty_1 : TYT M1 := tyt_s ty_0 (trs_f hF1 (by decide)) (hF1.cellJ (by decide))
  have hc1 : CTS M1 gp (M.1 99) (17 * (i + 6)) := fin_x hq hJ0.1 hC hF1 rfl (by exact hf1.2.2) (by omega)
  refine j_pop2 C dL_law_977 rfl ?_
  refine j_aload_n C 1 2 dL_law_978 rfl rfl ?_
  refine j_aload_n C 3 0 dL_law_979 rfl rfl ?_
  refine j_iload_n C 0 3 dL_law_980 rfl rfl ?_
  refine y_iconst C dL_law_981 ?_
  refine y_iadd C dL_law_982 ?_
  refine y_sldx C hX hbl hbA hL (by omega) dL_law_983 ?_
  refine j_aload_n C 3 0 dL_law_984 rfl rfl ?_
  refine j_iload_n C 0 3 dL_law_985 rfl rfl ?_
  refine y_iconst C dL_law_986 ?_
  refine y_iadd C dL_law_987 ?_
  refine y_sldx C hX hbl hbA hL (by omega) dL_law_988 ?_
  refine j_aload_n C 3 0 dL_law_989 rfl rfl ?_
  refine j_iload_n C 0 3 dL_law_990 rfl rfl ?_
  refine y_iconst C dL_law_991 ?_
  refine y_iadd C dL_law_992 ?_
  refine y_sldx C hX hbl hbA hL (by omega) dL_law_993 ?_
  refine j_callVj C (d := 86) (As := [.int (sI (xs (i + 1).toNat).toInt), .int (sI (xs (i + 2).toNat).toInt), .int (sI (xs (i + 3).toNat).toInt)]) (st := []) 98 (by decide) rfl (by decide) rfl (s1_X12_soldIn (iv_0 (prM []) hJ1) (hPM []) (li_cw (cs := []) (fun _ => rfl) hJ1) (xs (i + 1).toNat).toInt (sI_r _) (xs (i + 2).toNat).toInt (sI_r _) (xs (i + 3).toNat).toInt (sI_r _) hJ1.2.1) tL_soldIn_m rfl hdLX12_soldIn (by decide) (Nat.le_of_ble_eq_true rfl) dL_law_994 rfl (fun r2 M2 hp2 => ?_)
  obtain ⟨a2, rfl, hV2, hF2, hf2⟩ := hp2
  have hJ2 := li_m (cs := []) (fun _ => rfl) hJ1 hV2 (by exact hf2.2.2)
  have t1_2 := t1_m t1_1 hV2 rfl rfl
  have t2_2 := t2_m t2_1 hV2 rfl (fun _ => rfl)
  have t3_2 := t3_m t3_1 hV2 ⟨rfl, rfl⟩ (fun _ => rfl) (fun _ => rfl)
  have t4_2 := t4_m2 t4_1 hV2 rfl (fun _ => rfl) (fun _ => rfl)
  have t5_2 := t5_m t5_1 hV2 ⟨rfl, rfl⟩ ⟨rfl, rfl⟩
  have e2 : M2.1 99 = (M.1 99) := (hF2.cell (by decide)).trans e99
  have hc2 := fin_m hq hJ1.1 hc1 hF2 rfl e2
  have gq2 : GPQ M2 := gpq_c gq1 (by rw [hF2.2.1]) (by rw [hF2.2.1])
  have hC2 : CTS M2 (M2.2.2 0 4) (M2.1 99) (17 * (i + 6)) := by rw [hF2.2.1, g4, ← egp]; exact hc2
  have ty_2 : TYT M2 := tyt_f ty_1 (cfr_f hF2 (by decide)) (hF2.cellJ (by decide))
  refine j_pop2 C dL_law_997 rfl ?_
  refine j_goto C 1466 dL_law_998 (by decide) ?_
  exact hfin _ ⟨⟨hJ2, t1_2, t2_2, t3_2, t4_2, t5_2⟩, gq2, hC2, ty_2⟩
set_option maxHeartbeats 2000000 in
set_option maxRecDepth 100000 in
theorem lw_op29 {p : Program} {l : Launch} {e : Env} {s : State} {m : MethodId} {below : List Frame} {meth : Method} {c : Code} {b L : Nat} {xs : Nat → Int32} {Q : State → Prop} {dC : Nat → ClassId} {dI : Nat → Nat → Nat} {ad : Nat → Nat} {cA : Nat → ClassId} {A : Nat → Prop} (Cb : jj_C p room_1 s m #[Value.ref b] c 118 20643 code 4 RL [] dC dI ad cA A) (hts : ∀ w ∈ lw_tbl, w.before #[Value.ref b] s = true) (hL : L ≤ 3072) (hX : va_X b L xs s s.heap) (hbl : b < s.heap.size) (hbA : ¬ A b) {i : Int} (hi : 0 ≤ i ∧ i + 6 ≤ L) (hfin : ∀ M : mm_M, LJ (i + 6) M → jj p l e room_1 s m #[Value.ref b] below meth c 118 20643 Q 4 dC dI ad cA A M 1466 [(3, .int (sI i)), (2, .ref (ad 98)), (1, .ref (ad 0)), (0, .ref b)] []) (M : mm_M) (hI0 : LJ i M) : jj p l e room_1 s m #[Value.ref b] below meth c 118 20643 Q 4 dC dI ad cA A M 1001 [(3, .int (sI i)), (2, .ref (ad 98)), (1, .ref (ad 0)), (0, .ref b)] [] := by
  obtain ⟨⟨hJ0, t1_0, t2_0, t3_0, t4_0, t5_0⟩, gq0, hC, ty_0⟩ := hI0
  have C : jj_C p room_1 s m #[Value.ref b] c 118 20643 code 4 RL tL_hides dC dI ad cA A := ⟨⟨Cb.1.1, Cb.1.2.1, Cb.1.2.2.1, Cb.1.2.2.2.1, fun w h => hts w (tL_hides_in w h)⟩, Cb.2⟩
  obtain ⟨gp, egp⟩ : ∃ gp, gp = M.2.2 0 4 := ⟨_, rfl⟩
  rw [← egp] at hC
  have hq : QG gp := by
    rcases gq0 with ⟨p4, _⟩ | ⟨p4, _⟩
    · exact Or.inl (egp.trans p4)
    · exact Or.inr (egp.trans p4)
  have cgp : s_c gp = 6 := qg_c hq
  have hb := bpx_i hJ0.1
  have hE := hC.1.1.1
  have hS := hC.1.1.2.2.2
  have qq := pre_c hC hJ0.2.1 (by omega)
  refine j_aload_n C 2 1 dL_law_1001 rfl rfl ?_
  refine j_aload_n C 3 0 dL_law_1002 rfl rfl ?_
  refine j_iload_n C 0 3 dL_law_1003 rfl rfl ?_
  refine y_iconst C dL_law_1004 ?_
  refine y_iadd C dL_law_1005 ?_
  refine y_sldx C hX hbl hbA hL (by omega) dL_law_1006 ?_
  refine j_aload_n C 3 0 dL_law_1007 rfl rfl ?_
  refine j_iload_n C 0 3 dL_law_1008 rfl rfl ?_
  refine y_iconst C dL_law_1009 ?_
  refine y_iadd C dL_law_1010 ?_
  refine y_sldx C hX hbl hbA hL (by omega) dL_law_1011 ?_
  refine j_aload_n C 3 0 dL_law_1012 rfl rfl ?_
  refine j_iload_n C 0 3 dL_law_1013 rfl rfl ?_
  refine y_iconst C dL_law_1014 ?_
  refine y_iadd C dL_law_1015 ?_
  refine y_sldx C hX hbl hbA hL (by omega) dL_law_1016 ?_
  refine j_callVi C (d := 6) (As := [.int (sI (xs (i + 1).toNat).toInt), .int (sI (xs (i + 2).toNat).toInt), .int (sI (xs (i + 3).toNat).toInt)]) (st := []) 0 (by decide) rfl (by decide) rfl (s2_X11_hides (iv_0 (prX []) hJ0) (hPX []) (xs (i + 1).toNat).toInt (sI_r _) (xs (i + 2).toNat).toInt (sI_r _) (xs (i + 3).toNat).toInt (sI_r _) gp cgp egp qq.1 qq.2.1 qq.2.2.1 qq.2.2.2.2) tL_hides_x rfl hdLX11_hides (by decide) (Nat.le_of_ble_eq_true rfl) dL_law_1017 rfl (fun r1 M1 hp1 => ?_)
  obtain ⟨a1, rfl, hV1, hF1, hf1⟩ := hp1
  have hJ1 := li_x (cs := []) (by decide) hJ0 hV1
  have t1_1 := t1_x t1_0 hV1 rfl rfl
  have t2_1 := t2_x t2_0 hV1 rfl (fun _ => rfl)
  have t3_1 := t3_x t3_0 hV1 ⟨rfl, rfl⟩ (fun _ => rfl) (fun _ => rfl)
  have t4_1 := t4_x t4_0 hV1 rfl (fun _ => rfl) (fun _ => rfl)
  have t5_1 := t5_x t5_0 hV1 ⟨rfl, rfl⟩ ⟨rfl, rfl⟩
  have e99 : M1.1 99 = M.1 99 := hF1.cell (by decide)
  have g4 := xp hV1 (i := 0) (k := 4) rfl rfl
  have g5 := xp hV1 (i := 0) (k := 5) rfl rfl
  have gq1 : GPQ M1 := gpq_c gq0 g4 g5
  have ty_1 : TYT M1 := tyt_s ty_0 (trs_f hF1 (by decide)) (hF1.cellJ (by decide))
  have hc1 : CTS M1 gp (M.1 99) (17 * (i + 6)) := fin_x hq hJ0.1 hC hF1 rfl (by exact hf1.2.2) (by omega)
  refine j_pop C dL_law_1020 rfl ?_
  refine j_aload_n C 1 2 dL_law_1021 rfl rfl ?_
  refine j_aload_n C 3 0 dL_law_1022 rfl rfl ?_
  refine j_iload_n C 0 3 dL_law_1023 rfl rfl ?_
  refine y_iconst C dL_law_1024 ?_
  refine y_iadd C dL_law_1025 ?_
  refine y_sldx C hX hbl hbA hL (by omega) dL_law_1026 ?_
  refine j_aload_n C 3 0 dL_law_1027 rfl rfl ?_
  refine j_iload_n C 0 3 dL_law_1028 rfl rfl ?_
  refine y_iconst C dL_law_1029 ?_
  refine y_iadd C dL_law_1030 ?_
  refine y_sldx C hX hbl hbA hL (by omega) dL_law_1031 ?_
  refine j_aload_n C 3 0 dL_law_1032 rfl rfl ?_
  refine j_iload_n C 0 3 dL_law_1033 rfl rfl ?_
  refine y_iconst C dL_law_1034 ?_
  refine y_iadd C dL_law_1035 ?_
  refine y_sldx C hX hbl hbA hL (by omega) dL_law_1036 ?_
  refine j_callVi C (d := 6) (As := [.int (sI (xs (i + 1).toNat).toInt), .int (sI (xs (i + 2).toNat).toInt), .int (sI (xs (i + 3).toNat).toInt)]) (st := []) 98 (by decide) rfl (by decide) rfl (s1_X12_hides (iv_0 (prM []) hJ1) (hPM []) (li_cw (cs := []) (fun _ => rfl) hJ1) (xs (i + 1).toNat).toInt (sI_r _) (xs (i + 2).toNat).toInt (sI_r _) (xs (i + 3).toNat).toInt (sI_r _) hJ1.2.1) tL_hides_m rfl hdLX12_hides (by decide) (Nat.le_of_ble_eq_true rfl) dL_law_1037 rfl (fun r2 M2 hp2 => ?_)
  obtain ⟨a2, rfl, hV2, hF2, hf2⟩ := hp2
  have hJ2 := li_m (cs := []) (fun _ => rfl) hJ1 hV2 (by exact hf2.2.2.2)
  have t1_2 := t1_m t1_1 hV2 rfl rfl
  have t2_2 := t2_m t2_1 hV2 rfl (fun _ => rfl)
  have t3_2 := t3_m t3_1 hV2 ⟨rfl, rfl⟩ (fun _ => rfl) (fun _ => rfl)
  have t4_2 := t4_m2 t4_1 hV2 rfl (fun _ => rfl) (fun _ => rfl)
  have t5_2 := t5_m t5_1 hV2 ⟨rfl, rfl⟩ ⟨rfl, rfl⟩
  rw [e99] at hf2
  have e2 : M2.1 99 = (M.1 99) := b01_e (by exact hf2.2.2.1)
  have hc2 := fin_m hq hJ1.1 hc1 hF2 rfl e2
  have gq2 : GPQ M2 := gpq_c gq1 (by rw [hF2.2.1]) (by rw [hF2.2.1])
  have hC2 : CTS M2 (M2.2.2 0 4) (M2.1 99) (17 * (i + 6)) := by rw [hF2.2.1, g4, ← egp]; exact hc2
  have ty_2 : TYT M2 := tyt_f ty_1 (cfr_f hF2 (by decide)) (hF2.cellJ (by decide))
  refine j_pop C dL_law_1040 rfl ?_
  refine j_goto C 1466 dL_law_1041 (by decide) ?_
  exact hfin _ ⟨⟨hJ2, t1_2, t2_2, t3_2, t4_2, t5_2⟩, gq2, hC2, ty_2⟩
set_option maxHeartbeats 2000000 in
set_option maxRecDepth 100000 in
theorem lw_op30 {p : Program} {l : Launch} {e : Env} {s : State} {m : MethodId} {below : List Frame} {meth : Method} {c : Code} {b L : Nat} {xs : Nat → Int32} {Q : State → Prop} {dC : Nat → ClassId} {dI : Nat → Nat → Nat} {ad : Nat → Nat} {cA : Nat → ClassId} {A : Nat → Prop} (Cb : jj_C p room_1 s m #[Value.ref b] c 118 20643 code 4 RL [] dC dI ad cA A) (hts : ∀ w ∈ lw_tbl, w.before #[Value.ref b] s = true) (hL : L ≤ 3072) (hX : va_X b L xs s s.heap) (hbl : b < s.heap.size) (hbA : ¬ A b) {i : Int} (hi : 0 ≤ i ∧ i + 6 ≤ L) (hfin : ∀ M : mm_M, LJ (i + 6) M → jj p l e room_1 s m #[Value.ref b] below meth c 118 20643 Q 4 dC dI ad cA A M 1466 [(3, .int (sI i)), (2, .ref (ad 98)), (1, .ref (ad 0)), (0, .ref b)] []) (M : mm_M) (hI0 : LJ i M) : jj p l e room_1 s m #[Value.ref b] below meth c 118 20643 Q 4 dC dI ad cA A M 1044 [(3, .int (sI i)), (2, .ref (ad 98)), (1, .ref (ad 0)), (0, .ref b)] [] := by
  obtain ⟨⟨hJ0, t1_0, t2_0, t3_0, t4_0, t5_0⟩, gq0, hC, ty_0⟩ := hI0
  have C : jj_C p room_1 s m #[Value.ref b] c 118 20643 code 4 RL tL_rota dC dI ad cA A := ⟨⟨Cb.1.1, Cb.1.2.1, Cb.1.2.2.1, Cb.1.2.2.2.1, fun w h => hts w (tL_rota_in w h)⟩, Cb.2⟩
  obtain ⟨gp, egp⟩ : ∃ gp, gp = M.2.2 0 4 := ⟨_, rfl⟩
  rw [← egp] at hC
  have hq : QG gp := by
    rcases gq0 with ⟨p4, _⟩ | ⟨p4, _⟩
    · exact Or.inl (egp.trans p4)
    · exact Or.inr (egp.trans p4)
  have cgp : s_c gp = 6 := qg_c hq
  have hb := bpx_i hJ0.1
  have hE := hC.1.1.1
  have hS := hC.1.1.2.2.2
  have qq := pre_c hC hJ0.2.1 (by omega)
  refine j_aload_n C 2 1 dL_law_1044 rfl rfl ?_
  refine j_aload_n C 3 0 dL_law_1045 rfl rfl ?_
  refine j_iload_n C 0 3 dL_law_1046 rfl rfl ?_
  refine y_iconst C dL_law_1047 ?_
  refine y_iadd C dL_law_1048 ?_
  refine y_sldx C hX hbl hbA hL (by omega) dL_law_1049 ?_
  refine j_callVi C (d := 6) (As := [.int (sI (xs (i + 1).toNat).toInt)]) (st := []) 0 (by decide) rfl (by decide) rfl (s2_X11_rota (iv_0 (prX []) hJ0) (hPX []) (xs (i + 1).toNat).toInt (sI_r _) gp cgp egp qq.1 qq.2.1 qq.2.2.1 qq.2.2.2.2) tL_rota_x rfl hdLX11_rota (by decide) (Nat.le_of_ble_eq_true rfl) dL_law_1050 rfl (fun r1 M1 hp1 => ?_)
  obtain ⟨a1, rfl, hV1, hF1, hf1⟩ := hp1
  have hJ1 := li_x (cs := []) (by decide) hJ0 hV1
  have t1_1 := t1_x t1_0 hV1 rfl rfl
  have t2_1 := t2_x t2_0 hV1 rfl (fun _ => rfl)
  have t3_1 := t3_x t3_0 hV1 ⟨rfl, rfl⟩ (fun _ => rfl) (fun _ => rfl)
  have t4_1 := t4_x t4_0 hV1 rfl (fun _ => rfl) (fun _ => rfl)
  have t5_1 := t5_x t5_0 hV1 ⟨rfl, rfl⟩ ⟨rfl, rfl⟩
  have e99 : M1.1 99 = M.1 99 := hF1.cell (by decide)
  have g4 := xp hV1 (i := 0) (k := 4) rfl rfl
  have g5 := xp hV1 (i := 0) (k := 5) rfl rfl
  have gq1 : GPQ M1 := gpq_c gq0 g4 g5
  have ty_1 : TYT M1 := tyt_s ty_0 (trs_f hF1 (by decide)) (hF1.cellJ (by decide))
  have hc1 : CTS M1 gp (M.1 99) (17 * (i + 6)) := fin_x hq hJ0.1 hC hF1 rfl (by exact hf1.2.2) (by omega)
  refine j_pop C dL_law_1053 rfl ?_
  refine j_aload_n C 1 2 dL_law_1054 rfl rfl ?_
  refine j_aload_n C 3 0 dL_law_1055 rfl rfl ?_
  refine j_iload_n C 0 3 dL_law_1056 rfl rfl ?_
  refine y_iconst C dL_law_1057 ?_
  refine y_iadd C dL_law_1058 ?_
  refine y_sldx C hX hbl hbA hL (by omega) dL_law_1059 ?_
  refine j_callVi C (d := 7) (As := [.int (sI (xs (i + 1).toNat).toInt)]) (st := []) 98 (by decide) rfl (by decide) rfl (s1_X12_rota (iv_0 (prM []) hJ1) (hPM []) (li_cw (cs := []) (fun _ => rfl) hJ1) (xs (i + 1).toNat).toInt (sI_r _) hJ1.2.1) tL_rota_m rfl hdLX12_rota (by decide) (Nat.le_of_ble_eq_true rfl) dL_law_1060 rfl (fun r2 M2 hp2 => ?_)
  obtain ⟨a2, rfl, hV2, hF2, hf2⟩ := hp2
  have hJ2 := li_m (cs := []) (fun _ => rfl) hJ1 hV2 (by exact hf2.2.2.2)
  have t1_2 := t1_m t1_1 hV2 rfl rfl
  have t2_2 := t2_m t2_1 hV2 rfl (fun _ => rfl)
  have t3_2 := t3_m t3_1 hV2 ⟨rfl, rfl⟩ (fun _ => rfl) (fun _ => rfl)
  have t4_2 := t4_m2 t4_1 hV2 rfl (fun _ => rfl) (fun _ => rfl)
  have t5_2 := t5_m t5_1 hV2 ⟨rfl, rfl⟩ ⟨rfl, rfl⟩
  rw [e99] at hf2
  have e2 : M2.1 99 = (M.1 99) := b01_e (by exact hf2.2.2.1)
  have hc2 := fin_m hq hJ1.1 hc1 hF2 rfl e2
  have gq2 : GPQ M2 := gpq_c gq1 (by rw [hF2.2.1]) (by rw [hF2.2.1])
  have hC2 : CTS M2 (M2.2.2 0 4) (M2.1 99) (17 * (i + 6)) := by rw [hF2.2.1, g4, ← egp]; exact hc2
  have ty_2 : TYT M2 := tyt_f ty_1 (cfr_f hF2 (by decide)) (hF2.cellJ (by decide))
  refine j_pop C dL_law_1063 rfl ?_
  refine j_goto C 1466 dL_law_1064 (by decide) ?_
  exact hfin _ ⟨⟨hJ2, t1_2, t2_2, t3_2, t4_2, t5_2⟩, gq2, hC2, ty_2⟩
set_option maxHeartbeats 2000000 in
set_option maxRecDepth 100000 in
theorem lw_op31 {p : Program} {l : Launch} {e : Env} {s : State} {m : MethodId} {below : List Frame} {meth : Method} {c : Code} {b L : Nat} {xs : Nat → Int32} {Q : State → Prop} {dC : Nat → ClassId} {dI : Nat → Nat → Nat} {ad : Nat → Nat} {cA : Nat → ClassId} {A : Nat → Prop} (Cb : jj_C p room_1 s m #[Value.ref b] c 118 20643 code 4 RL [] dC dI ad cA A) (hts : ∀ w ∈ lw_tbl, w.before #[Value.ref b] s = true) (hL : L ≤ 3072) (hX : va_X b L xs s s.heap) (hbl : b < s.heap.size) (hbA : ¬ A b) {i : Int} (hi : 0 ≤ i ∧ i + 6 ≤ L) (hfin : ∀ M : mm_M, LJ (i + 6) M → jj p l e room_1 s m #[Value.ref b] below meth c 118 20643 Q 4 dC dI ad cA A M 1466 [(3, .int (sI i)), (2, .ref (ad 98)), (1, .ref (ad 0)), (0, .ref b)] []) (M : mm_M) (hI0 : LJ i M) : jj p l e room_1 s m #[Value.ref b] below meth c 118 20643 Q 4 dC dI ad cA A M 1067 [(3, .int (sI i)), (2, .ref (ad 98)), (1, .ref (ad 0)), (0, .ref b)] [] := by
  obtain ⟨⟨hJ0, t1_0, t2_0, t3_0, t4_0, t5_0⟩, gq0, hC, ty_0⟩ := hI0
  have C : jj_C p room_1 s m #[Value.ref b] c 118 20643 code 4 RL tL_earns dC dI ad cA A := ⟨⟨Cb.1.1, Cb.1.2.1, Cb.1.2.2.1, Cb.1.2.2.2.1, fun w h => hts w (tL_earns_in w h)⟩, Cb.2⟩
  obtain ⟨gp, egp⟩ : ∃ gp, gp = M.2.2 0 4 := ⟨_, rfl⟩
  rw [← egp] at hC
  have hq : QG gp := by
    rcases gq0 with ⟨p4, _⟩ | ⟨p4, _⟩
    · exact Or.inl (egp.trans p4)
    · exact Or.inr (egp.trans p4)
  have cgp : s_c gp = 6 := qg_c hq
  have hb := bpx_i hJ0.1
  have hE := hC.1.1.1
  have hS := hC.1.1.2.2.2
  have qq := pre_c hC hJ0.2.1 (by omega)
  refine j_aload_n C 2 1 dL_law_1067 rfl rfl ?_
  refine j_aload_n C 3 0 dL_law_1068 rfl rfl ?_
  refine j_iload_n C 0 3 dL_law_1069 rfl rfl ?_
  refine y_iconst C dL_law_1070 ?_
  refine y_iadd C dL_law_1071 ?_
  refine y_sldx C hX hbl hbA hL (by omega) dL_law_1072 ?_
  refine j_aload_n C 3 0 dL_law_1073 rfl rfl ?_
  refine j_iload_n C 0 3 dL_law_1074 rfl rfl ?_
  refine y_iconst C dL_law_1075 ?_
  refine y_iadd C dL_law_1076 ?_
  refine y_sldx C hX hbl hbA hL (by omega) dL_law_1077 ?_
  refine j_callVj C (d := 6) (As := [.int (sI (xs (i + 1).toNat).toInt), .int (sI (xs (i + 2).toNat).toInt)]) (st := []) 0 (by decide) rfl (by decide) rfl (s2_X11_earns (iv_0 (prX []) hJ0) (hPX []) (xs (i + 1).toNat).toInt (sI_r _) (xs (i + 2).toNat).toInt (sI_r _) gp cgp egp qq.1 qq.2.1 qq.2.2.1 qq.2.2.2.2) tL_earns_x rfl hdLX11_earns (by decide) (Nat.le_of_ble_eq_true rfl) dL_law_1078 rfl (fun r1 M1 hp1 => ?_)
  obtain ⟨a1, rfl, hV1, hF1, hf1⟩ := hp1
  have hJ1 := li_x (cs := []) (by decide) hJ0 hV1
  have t1_1 := t1_x t1_0 hV1 rfl rfl
  have t2_1 := t2_x t2_0 hV1 rfl (fun _ => rfl)
  have t3_1 := t3_x t3_0 hV1 ⟨rfl, rfl⟩ (fun _ => rfl) (fun _ => rfl)
  have t4_1 := t4_x t4_0 hV1 rfl (fun _ => rfl) (fun _ => rfl)
  have t5_1 := t5_x t5_0 hV1 ⟨rfl, rfl⟩ ⟨rfl, rfl⟩
  have e99 : M1.1 99 = M.1 99 := hF1.cell (by decide)
  have g4 := xp hV1 (i := 0) (k := 4) rfl rfl
  have g5 := xp hV1 (i := 0) (k := 5) rfl rfl
  have gq1 : GPQ M1 := gpq_c gq0 g4 g5
  have ty_1 : TYT M1 := tyt_s ty_0 (trs_f hF1 (by decide)) (hF1.cellJ (by decide))
  have hc1 : CTS M1 gp (M.1 99) (17 * (i + 6)) := fin_x hq hJ0.1 hC hF1 rfl (by exact hf1.2.2) (by omega)
  refine j_pop2 C dL_law_1081 rfl ?_
  refine j_aload_n C 1 2 dL_law_1082 rfl rfl ?_
  refine j_aload_n C 3 0 dL_law_1083 rfl rfl ?_
  refine j_iload_n C 0 3 dL_law_1084 rfl rfl ?_
  refine y_iconst C dL_law_1085 ?_
  refine y_iadd C dL_law_1086 ?_
  refine y_sldx C hX hbl hbA hL (by omega) dL_law_1087 ?_
  refine j_aload_n C 3 0 dL_law_1088 rfl rfl ?_
  refine j_iload_n C 0 3 dL_law_1089 rfl rfl ?_
  refine y_iconst C dL_law_1090 ?_
  refine y_iadd C dL_law_1091 ?_
  refine y_sldx C hX hbl hbA hL (by omega) dL_law_1092 ?_
  refine j_callVj C (d := 86) (As := [.int (sI (xs (i + 1).toNat).toInt), .int (sI (xs (i + 2).toNat).toInt)]) (st := []) 98 (by decide) rfl (by decide) rfl (s1_X12_earns (iv_0 (prM []) hJ1) (hPM []) (li_cw (cs := []) (fun _ => rfl) hJ1) (xs (i + 1).toNat).toInt (sI_r _) (xs (i + 2).toNat).toInt (sI_r _) hJ1.2.1) tL_earns_m rfl hdLX12_earns (by decide) (Nat.le_of_ble_eq_true rfl) dL_law_1093 rfl (fun r2 M2 hp2 => ?_)
  obtain ⟨a2, rfl, hV2, hF2, hf2⟩ := hp2
  have hJ2 := li_m (cs := []) (fun _ => rfl) hJ1 hV2 (by exact hf2.2.2)
  have t1_2 := t1_m t1_1 hV2 rfl rfl
  have t2_2 := t2_m t2_1 hV2 rfl (fun _ => rfl)
  have t3_2 := t3_m t3_1 hV2 ⟨rfl, rfl⟩ (fun _ => rfl) (fun _ => rfl)
  have t4_2 := t4_m2 t4_1 hV2 rfl (fun _ => rfl) (fun _ => rfl)
  have t5_2 := t5_m t5_1 hV2 ⟨rfl, rfl⟩ ⟨rfl, rfl⟩
  have e2 : M2.1 99 = (M.1 99) := (hF2.cell (by decide)).trans e99
  have hc2 := fin_m hq hJ1.1 hc1 hF2 rfl e2
  have gq2 : GPQ M2 := gpq_c gq1 (by rw [hF2.2.1]) (by rw [hF2.2.1])
  have hC2 : CTS M2 (M2.2.2 0 4) (M2.1 99) (17 * (i + 6)) := by rw [hF2.2.1, g4, ← egp]; exact hc2
  have ty_2 : TYT M2 := tyt_f ty_1 (cfr_f hF2 (by decide)) (hF2.cellJ (by decide))
  refine j_pop2 C dL_law_1096 rfl ?_
  refine j_goto C 1466 dL_law_1097 (by decide) ?_
  exact hfin _ ⟨⟨hJ2, t1_2, t2_2, t3_2, t4_2, t5_2⟩, gq2, hC2, ty_2⟩
set_option maxHeartbeats 2000000 in
set_option maxRecDepth 100000 in
theorem lw_op32 {p : Program} {l : Launch} {e : Env} {s : State} {m : MethodId} {below : List Frame} {meth : Method} {c : Code} {b L : Nat} {xs : Nat → Int32} {Q : State → Prop} {dC : Nat → ClassId} {dI : Nat → Nat → Nat} {ad : Nat → Nat} {cA : Nat → ClassId} {A : Nat → Prop} (Cb : jj_C p room_1 s m #[Value.ref b] c 118 20643 code 4 RL [] dC dI ad cA A) (hts : ∀ w ∈ lw_tbl, w.before #[Value.ref b] s = true) (hL : L ≤ 3072) (hX : va_X b L xs s s.heap) (hbl : b < s.heap.size) (hbA : ¬ A b) {i : Int} (hi : 0 ≤ i ∧ i + 6 ≤ L) (hfin : ∀ M : mm_M, LJ (i + 6) M → jj p l e room_1 s m #[Value.ref b] below meth c 118 20643 Q 4 dC dI ad cA A M 1466 [(3, .int (sI i)), (2, .ref (ad 98)), (1, .ref (ad 0)), (0, .ref b)] []) (M : mm_M) (hI0 : LJ i M) : jj p l e room_1 s m #[Value.ref b] below meth c 118 20643 Q 4 dC dI ad cA A M 1100 [(3, .int (sI i)), (2, .ref (ad 98)), (1, .ref (ad 0)), (0, .ref b)] [] := by
  obtain ⟨⟨hJ0, t1_0, t2_0, t3_0, t4_0, t5_0⟩, gq0, hC, ty_0⟩ := hI0
  have C : jj_C p room_1 s m #[Value.ref b] c 118 20643 code 4 RL tL_bestPrice dC dI ad cA A := ⟨⟨Cb.1.1, Cb.1.2.1, Cb.1.2.2.1, Cb.1.2.2.2.1, fun w h => hts w (tL_bestPrice_in w h)⟩, Cb.2⟩
  obtain ⟨gp, egp⟩ : ∃ gp, gp = M.2.2 0 4 := ⟨_, rfl⟩
  rw [← egp] at hC
  have hq : QG gp := by
    rcases gq0 with ⟨p4, _⟩ | ⟨p4, _⟩
    · exact Or.inl (egp.trans p4)
    · exact Or.inr (egp.trans p4)
  have cgp : s_c gp = 6 := qg_c hq
  have hb := bpx_i hJ0.1
  have hE := hC.1.1.1
  have hS := hC.1.1.2.2.2
  have qq := pre_c hC hJ0.2.1 (by omega)
  refine j_aload_n C 2 1 dL_law_1100 rfl rfl ?_
  refine j_aload_n C 3 0 dL_law_1101 rfl rfl ?_
  refine j_iload_n C 0 3 dL_law_1102 rfl rfl ?_
  refine y_iconst C dL_law_1103 ?_
  refine y_iadd C dL_law_1104 ?_
  refine y_sldx C hX hbl hbA hL (by omega) dL_law_1105 ?_
  refine j_aload_n C 3 0 dL_law_1106 rfl rfl ?_
  refine j_iload_n C 0 3 dL_law_1107 rfl rfl ?_
  refine y_iconst C dL_law_1108 ?_
  refine y_iadd C dL_law_1109 ?_
  refine y_sldx C hX hbl hbA hL (by omega) dL_law_1110 ?_
  refine j_callVi C (d := 6) (As := [.int (sI (xs (i + 1).toNat).toInt), .int (sI (xs (i + 2).toNat).toInt)]) (st := []) 0 (by decide) rfl (by decide) rfl (s2_X11_bestPrice (iv_0 (prX [(8, 0)]) hJ0) (hPX [(8, 0)]) (fun i h => hXc (c := 8) rfl h) (xs (i + 1).toNat).toInt (sI_r _) (xs (i + 2).toNat).toInt (sI_r _) gp cgp egp qq.1 qq.2.1 qq.2.2.1 qq.2.2.2.2) tL_bestPrice_x rfl hdLX11_bestPrice (by decide) (Nat.le_of_ble_eq_true rfl) dL_law_1111 rfl (fun r1 M1 hp1 => ?_)
  obtain ⟨a1, rfl, hV1, hF1, hf1⟩ := hp1
  have hJ1 := li_x (cs := [(8, 0)]) (by decide) hJ0 hV1
  have t1_1 := t1_x t1_0 hV1 rfl rfl
  have t2_1 := t2_x t2_0 hV1 rfl (fun _ => rfl)
  have t3_1 := t3_x t3_0 hV1 ⟨rfl, rfl⟩ (fun _ => rfl) (fun _ => rfl)
  have t4_1 := t4_x t4_0 hV1 rfl (fun _ => rfl) (fun _ => rfl)
  have t5_1 := t5_x t5_0 hV1 ⟨rfl, rfl⟩ ⟨rfl, rfl⟩
  have e99 : M1.1 99 = M.1 99 := hF1.cell (by decide)
  have g4 := xp hV1 (i := 0) (k := 4) rfl rfl
  have g5 := xp hV1 (i := 0) (k := 5) rfl rfl
  have gq1 : GPQ M1 := gpq_c gq0 g4 g5
  have ty_1 : TYT M1 := tyt_s ty_0 (trs_f hF1 (by decide)) (hF1.cellJ (by decide))
  have hc1 : CTS M1 gp (M.1 99) (17 * (i + 6)) := fin_x hq hJ0.1 hC hF1 rfl (by exact hf1.2.2) (by omega)
  refine j_pop C dL_law_1114 rfl ?_
  refine j_aload_n C 1 2 dL_law_1115 rfl rfl ?_
  refine j_aload_n C 3 0 dL_law_1116 rfl rfl ?_
  refine j_iload_n C 0 3 dL_law_1117 rfl rfl ?_
  refine y_iconst C dL_law_1118 ?_
  refine y_iadd C dL_law_1119 ?_
  refine y_sldx C hX hbl hbA hL (by omega) dL_law_1120 ?_
  refine j_aload_n C 3 0 dL_law_1121 rfl rfl ?_
  refine j_iload_n C 0 3 dL_law_1122 rfl rfl ?_
  refine y_iconst C dL_law_1123 ?_
  refine y_iadd C dL_law_1124 ?_
  refine y_sldx C hX hbl hbA hL (by omega) dL_law_1125 ?_
  refine j_callVi C (d := 5) (As := [.int (sI (xs (i + 1).toNat).toInt), .int (sI (xs (i + 2).toNat).toInt)]) (st := []) 98 (by decide) rfl (by decide) rfl (s1_X12_bestPrice (iv_0 (prM []) hJ1) (hPM []) (li_cw (cs := []) (fun _ => rfl) hJ1) (xs (i + 1).toNat).toInt (sI_r _) (xs (i + 2).toNat).toInt (sI_r _) hJ1.2.1) tL_bestPrice_m rfl hdLX12_bestPrice (by decide) (Nat.le_of_ble_eq_true rfl) dL_law_1126 rfl (fun r2 M2 hp2 => ?_)
  obtain ⟨a2, rfl, hV2, hF2, hf2⟩ := hp2
  have hJ2 := li_m (cs := []) (fun _ => rfl) hJ1 hV2 (by exact hf2.2.2.2)
  have t1_2 := t1_m t1_1 hV2 rfl rfl
  have t2_2 := t2_m t2_1 hV2 rfl (fun _ => rfl)
  have t3_2 := t3_m t3_1 hV2 ⟨rfl, rfl⟩ (fun _ => rfl) (fun _ => rfl)
  have t4_2 := t4_m2 t4_1 hV2 rfl (fun _ => rfl) (fun _ => rfl)
  have t5_2 := t5_m t5_1 hV2 ⟨rfl, rfl⟩ ⟨rfl, rfl⟩
  rw [e99] at hf2
  have e2 : M2.1 99 = (M.1 99) := b01_e (by exact hf2.2.2.1)
  have hc2 := fin_m hq hJ1.1 hc1 hF2 rfl e2
  have gq2 : GPQ M2 := gpq_c gq1 (by rw [hF2.2.1]) (by rw [hF2.2.1])
  have hC2 : CTS M2 (M2.2.2 0 4) (M2.1 99) (17 * (i + 6)) := by rw [hF2.2.1, g4, ← egp]; exact hc2
  have ty_2 : TYT M2 := tyt_f ty_1 (cfr_f hF2 (by decide)) (hF2.cellJ (by decide))
  refine j_pop C dL_law_1129 rfl ?_
  refine j_goto C 1466 dL_law_1130 (by decide) ?_
  exact hfin _ ⟨⟨hJ2, t1_2, t2_2, t3_2, t4_2, t5_2⟩, gq2, hC2, ty_2⟩
set_option maxHeartbeats 2000000 in
set_option maxRecDepth 100000 in
theorem lw_op33 {p : Program} {l : Launch} {e : Env} {s : State} {m : MethodId} {below : List Frame} {meth : Method} {c : Code} {b L : Nat} {xs : Nat → Int32} {Q : State → Prop} {dC : Nat → ClassId} {dI : Nat → Nat → Nat} {ad : Nat → Nat} {cA : Nat → ClassId} {A : Nat → Prop} (Cb : jj_C p room_1 s m #[Value.ref b] c 118 20643 code 4 RL [] dC dI ad cA A) (hts : ∀ w ∈ lw_tbl, w.before #[Value.ref b] s = true) (hL : L ≤ 3072) (hX : va_X b L xs s s.heap) (hbl : b < s.heap.size) (hbA : ¬ A b) {i : Int} (hi : 0 ≤ i ∧ i + 6 ≤ L) (hfin : ∀ M : mm_M, LJ (i + 6) M → jj p l e room_1 s m #[Value.ref b] below meth c 118 20643 Q 4 dC dI ad cA A M 1466 [(3, .int (sI i)), (2, .ref (ad 98)), (1, .ref (ad 0)), (0, .ref b)] []) (M : mm_M) (hI0 : LJ i M) : jj p l e room_1 s m #[Value.ref b] below meth c 118 20643 Q 4 dC dI ad cA A M 1133 [(3, .int (sI i)), (2, .ref (ad 98)), (1, .ref (ad 0)), (0, .ref b)] [] := by
  obtain ⟨⟨hJ0, t1_0, t2_0, t3_0, t4_0, t5_0⟩, gq0, hC, ty_0⟩ := hI0
  have C : jj_C p room_1 s m #[Value.ref b] c 118 20643 code 4 RL tL_seen dC dI ad cA A := ⟨⟨Cb.1.1, Cb.1.2.1, Cb.1.2.2.1, Cb.1.2.2.2.1, fun w h => hts w (tL_seen_in w h)⟩, Cb.2⟩
  obtain ⟨gp, egp⟩ : ∃ gp, gp = M.2.2 0 4 := ⟨_, rfl⟩
  rw [← egp] at hC
  have hq : QG gp := by
    rcases gq0 with ⟨p4, _⟩ | ⟨p4, _⟩
    · exact Or.inl (egp.trans p4)
    · exact Or.inr (egp.trans p4)
  have cgp : s_c gp = 6 := qg_c hq
  have hb := bpx_i hJ0.1
  have hE := hC.1.1.1
  have hS := hC.1.1.2.2.2
  have qq := pre_c hC hJ0.2.1 (by omega)
  refine j_aload_n C 2 1 dL_law_1133 rfl rfl ?_
  refine j_aload_n C 3 0 dL_law_1134 rfl rfl ?_
  refine j_iload_n C 0 3 dL_law_1135 rfl rfl ?_
  refine y_iconst C dL_law_1136 ?_
  refine y_iadd C dL_law_1137 ?_
  refine y_sldx C hX hbl hbA hL (by omega) dL_law_1138 ?_
  refine j_callVi C (d := 6) (As := [.int (sI (xs (i + 1).toNat).toInt)]) (st := []) 0 (by decide) rfl (by decide) rfl (s2_X11_seen (iv_0 (prX []) hJ0) (hPX []) (xs (i + 1).toNat).toInt (sI_r _) gp cgp egp qq.1 qq.2.1 qq.2.2.1 qq.2.2.2.2) tL_seen_x rfl hdLX11_seen (by decide) (Nat.le_of_ble_eq_true rfl) dL_law_1139 rfl (fun r1 M1 hp1 => ?_)
  obtain ⟨a1, rfl, hV1, hF1, hf1⟩ := hp1
  have hJ1 := li_x (cs := []) (by decide) hJ0 hV1
  have t1_1 := t1_x t1_0 hV1 rfl rfl
  have t2_1 := t2_x t2_0 hV1 rfl (fun _ => rfl)
  have t3_1 := t3_x t3_0 hV1 ⟨rfl, rfl⟩ (fun _ => rfl) (fun _ => rfl)
  have t4_1 := t4_x t4_0 hV1 rfl (fun _ => rfl) (fun _ => rfl)
  have t5_1 := t5_x t5_0 hV1 ⟨rfl, rfl⟩ ⟨rfl, rfl⟩
  have e99 : M1.1 99 = M.1 99 := hF1.cell (by decide)
  have g4 := xp hV1 (i := 0) (k := 4) rfl rfl
  have g5 := xp hV1 (i := 0) (k := 5) rfl rfl
  have gq1 : GPQ M1 := gpq_c gq0 g4 g5
  have ty_1 : TYT M1 := tyt_s ty_0 (trs_f hF1 (by decide)) (hF1.cellJ (by decide))
  have hc1 : CTS M1 gp (M.1 99) (17 * (i + 6)) := fin_x hq hJ0.1 hC hF1 rfl (by exact hf1.2.2) (by omega)
  refine j_pop C dL_law_1142 rfl ?_
  refine j_aload_n C 1 2 dL_law_1143 rfl rfl ?_
  refine j_aload_n C 3 0 dL_law_1144 rfl rfl ?_
  refine j_iload_n C 0 3 dL_law_1145 rfl rfl ?_
  refine y_iconst C dL_law_1146 ?_
  refine y_iadd C dL_law_1147 ?_
  refine y_sldx C hX hbl hbA hL (by omega) dL_law_1148 ?_
  refine j_callVi C (d := 6) (As := [.int (sI (xs (i + 1).toNat).toInt)]) (st := []) 98 (by decide) rfl (by decide) rfl (s1_X12_seen (iv_0 (prM []) hJ1) (hPM []) (li_cw (cs := []) (fun _ => rfl) hJ1) (xs (i + 1).toNat).toInt (sI_r _) hJ1.2.1) tL_seen_m rfl hdLX12_seen (by decide) (Nat.le_of_ble_eq_true rfl) dL_law_1149 rfl (fun r2 M2 hp2 => ?_)
  obtain ⟨a2, rfl, hV2, hF2, hf2⟩ := hp2
  have hJ2 := li_m (cs := []) (fun _ => rfl) hJ1 hV2 (by exact hf2.2.2)
  have t1_2 := t1_m t1_1 hV2 rfl rfl
  have t2_2 := t2_m t2_1 hV2 rfl (fun _ => rfl)
  have t3_2 := t3_m t3_1 hV2 ⟨rfl, rfl⟩ (fun _ => rfl) (fun _ => rfl)
  have t4_2 := t4_m2 t4_1 hV2 rfl (fun _ => rfl) (fun _ => rfl)
  have t5_2 := t5_m t5_1 hV2 ⟨rfl, rfl⟩ ⟨rfl, rfl⟩
  have e2 : M2.1 99 = (M.1 99) := (hF2.cell (by decide)).trans e99
  have hc2 := fin_m hq hJ1.1 hc1 hF2 rfl e2
  have gq2 : GPQ M2 := gpq_c gq1 (by rw [hF2.2.1]) (by rw [hF2.2.1])
  have hC2 : CTS M2 (M2.2.2 0 4) (M2.1 99) (17 * (i + 6)) := by rw [hF2.2.1, g4, ← egp]; exact hc2
  have ty_2 : TYT M2 := tyt_f ty_1 (cfr_f hF2 (by decide)) (hF2.cellJ (by decide))
  refine j_pop C dL_law_1152 rfl ?_
  refine j_goto C 1466 dL_law_1153 (by decide) ?_
  exact hfin _ ⟨⟨hJ2, t1_2, t2_2, t3_2, t4_2, t5_2⟩, gq2, hC2, ty_2⟩
set_option maxHeartbeats 2000000 in
set_option maxRecDepth 100000 in
theorem lw_op34 {p : Program} {l : Launch} {e : Env} {s : State} {m : MethodId} {below : List Frame} {meth : Method} {c : Code} {b L : Nat} {xs : Nat → Int32} {Q : State → Prop} {dC : Nat → ClassId} {dI : Nat → Nat → Nat} {ad : Nat → Nat} {cA : Nat → ClassId} {A : Nat → Prop} (Cb : jj_C p room_1 s m #[Value.ref b] c 118 20643 code 4 RL [] dC dI ad cA A) (hts : ∀ w ∈ lw_tbl, w.before #[Value.ref b] s = true) (hL : L ≤ 3072) (hX : va_X b L xs s s.heap) (hbl : b < s.heap.size) (hbA : ¬ A b) {i : Int} (hi : 0 ≤ i ∧ i + 6 ≤ L) (hfin : ∀ M : mm_M, LJ (i + 6) M → jj p l e room_1 s m #[Value.ref b] below meth c 118 20643 Q 4 dC dI ad cA A M 1466 [(3, .int (sI i)), (2, .ref (ad 98)), (1, .ref (ad 0)), (0, .ref b)] []) (M : mm_M) (hI0 : LJ i M) : jj p l e room_1 s m #[Value.ref b] below meth c 118 20643 Q 4 dC dI ad cA A M 1156 [(3, .int (sI i)), (2, .ref (ad 98)), (1, .ref (ad 0)), (0, .ref b)] [] := by
  obtain ⟨⟨hJ0, t1_0, t2_0, t3_0, t4_0, t5_0⟩, gq0, hC, ty_0⟩ := hI0
  have C : jj_C p room_1 s m #[Value.ref b] c 118 20643 code 4 RL tL_sureGone dC dI ad cA A := ⟨⟨Cb.1.1, Cb.1.2.1, Cb.1.2.2.1, Cb.1.2.2.2.1, fun w h => hts w (tL_sureGone_in w h)⟩, Cb.2⟩
  obtain ⟨gp, egp⟩ : ∃ gp, gp = M.2.2 0 4 := ⟨_, rfl⟩
  rw [← egp] at hC
  have hq : QG gp := by
    rcases gq0 with ⟨p4, _⟩ | ⟨p4, _⟩
    · exact Or.inl (egp.trans p4)
    · exact Or.inr (egp.trans p4)
  have cgp : s_c gp = 6 := qg_c hq
  have hb := bpx_i hJ0.1
  have hE := hC.1.1.1
  have hS := hC.1.1.2.2.2
  have qq := pre_c hC hJ0.2.1 (by omega)
  refine j_aload_n C 2 1 dL_law_1156 rfl rfl ?_
  refine j_aload_n C 3 0 dL_law_1157 rfl rfl ?_
  refine j_iload_n C 0 3 dL_law_1158 rfl rfl ?_
  refine y_iconst C dL_law_1159 ?_
  refine y_iadd C dL_law_1160 ?_
  refine y_sldx C hX hbl hbA hL (by omega) dL_law_1161 ?_
  refine j_callVi C (d := 6) (As := [.int (sI (xs (i + 1).toNat).toInt)]) (st := []) 0 (by decide) rfl (by decide) rfl (s2_X11_sureGone (iv_0 (prX []) hJ0) (hPX []) (xs (i + 1).toNat).toInt (sI_r _) gp cgp egp qq.1 qq.2.1 qq.2.2.1 qq.2.2.2.2) tL_sureGone_x rfl hdLX11_sureGone (by decide) (Nat.le_of_ble_eq_true rfl) dL_law_1162 rfl (fun r1 M1 hp1 => ?_)
  obtain ⟨a1, rfl, hV1, hF1, hf1⟩ := hp1
  have hJ1 := li_x (cs := []) (by decide) hJ0 hV1
  have t1_1 := t1_x t1_0 hV1 rfl rfl
  have t2_1 := t2_x t2_0 hV1 rfl (fun _ => rfl)
  have t3_1 := t3_x t3_0 hV1 ⟨rfl, rfl⟩ (fun _ => rfl) (fun _ => rfl)
  have t4_1 := t4_x t4_0 hV1 rfl (fun _ => rfl) (fun _ => rfl)
  have t5_1 := t5_x t5_0 hV1 ⟨rfl, rfl⟩ ⟨rfl, rfl⟩
  have e99 : M1.1 99 = M.1 99 := hF1.cell (by decide)
  have g4 := xp hV1 (i := 0) (k := 4) rfl rfl
  have g5 := xp hV1 (i := 0) (k := 5) rfl rfl
  have gq1 : GPQ M1 := gpq_c gq0 g4 g5
  have ty_1 : TYT M1 := tyt_s ty_0 (trs_f hF1 (by decide)) (hF1.cellJ (by decide))
  have hc1 : CTS M1 gp (M.1 99) (17 * (i + 6)) := fin_x hq hJ0.1 hC hF1 rfl (by exact hf1.2.2) (by omega)
  refine j_pop C dL_law_1165 rfl ?_
  refine j_aload_n C 1 2 dL_law_1166 rfl rfl ?_
  refine j_aload_n C 3 0 dL_law_1167 rfl rfl ?_
  refine j_iload_n C 0 3 dL_law_1168 rfl rfl ?_
  refine y_iconst C dL_law_1169 ?_
  refine y_iadd C dL_law_1170 ?_
  refine y_sldx C hX hbl hbA hL (by omega) dL_law_1171 ?_
  refine j_callVi C (d := 6) (As := [.int (sI (xs (i + 1).toNat).toInt)]) (st := []) 98 (by decide) rfl (by decide) rfl (s1_X12_sureGone (iv_0 (prM []) hJ1) (hPM []) (li_cw (cs := []) (fun _ => rfl) hJ1) (xs (i + 1).toNat).toInt (sI_r _) hJ1.2.1) tL_sureGone_m rfl hdLX12_sureGone (by decide) (Nat.le_of_ble_eq_true rfl) dL_law_1172 rfl (fun r2 M2 hp2 => ?_)
  obtain ⟨a2, rfl, hV2, hF2, hf2⟩ := hp2
  have hJ2 := li_m (cs := []) (fun _ => rfl) hJ1 hV2 (by exact hf2.2.2)
  have t1_2 := t1_m t1_1 hV2 rfl rfl
  have t2_2 := t2_m t2_1 hV2 rfl (fun _ => rfl)
  have t3_2 := t3_m t3_1 hV2 ⟨rfl, rfl⟩ (fun _ => rfl) (fun _ => rfl)
  have t4_2 := t4_m2 t4_1 hV2 rfl (fun _ => rfl) (fun _ => rfl)
  have t5_2 := t5_m t5_1 hV2 ⟨rfl, rfl⟩ ⟨rfl, rfl⟩
  have e2 : M2.1 99 = (M.1 99) := (hF2.cell (by decide)).trans e99
  have hc2 := fin_m hq hJ1.1 hc1 hF2 rfl e2
  have gq2 : GPQ M2 := gpq_c gq1 (by rw [hF2.2.1]) (by rw [hF2.2.1])
  have hC2 : CTS M2 (M2.2.2 0 4) (M2.1 99) (17 * (i + 6)) := by rw [hF2.2.1, g4, ← egp]; exact hc2
  have ty_2 : TYT M2 := tyt_f ty_1 (cfr_f hF2 (by decide)) (hF2.cellJ (by decide))
  refine j_pop C dL_law_1175 rfl ?_
  refine j_goto C 1466 dL_law_1176 (by decide) ?_
  exact hfin _ ⟨⟨hJ2, t1_2, t2_2, t3_2, t4_2, t5_2⟩, gq2, hC2, ty_2⟩
set_option maxHeartbeats 2000000 in
set_option maxRecDepth 100000 in
theorem lw_op35 {p : Program} {l : Launch} {e : Env} {s : State} {m : MethodId} {below : List Frame} {meth : Method} {c : Code} {b L : Nat} {xs : Nat → Int32} {Q : State → Prop} {dC : Nat → ClassId} {dI : Nat → Nat → Nat} {ad : Nat → Nat} {cA : Nat → ClassId} {A : Nat → Prop} (Cb : jj_C p room_1 s m #[Value.ref b] c 118 20643 code 4 RL [] dC dI ad cA A) (hts : ∀ w ∈ lw_tbl, w.before #[Value.ref b] s = true) (hL : L ≤ 3072) (hX : va_X b L xs s s.heap) (hbl : b < s.heap.size) (hbA : ¬ A b) {i : Int} (hi : 0 ≤ i ∧ i + 6 ≤ L) (hfin : ∀ M : mm_M, LJ (i + 6) M → jj p l e room_1 s m #[Value.ref b] below meth c 118 20643 Q 4 dC dI ad cA A M 1466 [(3, .int (sI i)), (2, .ref (ad 98)), (1, .ref (ad 0)), (0, .ref b)] []) (M : mm_M) (hI0 : LJ i M) : jj p l e room_1 s m #[Value.ref b] below meth c 118 20643 Q 4 dC dI ad cA A M 1179 [(3, .int (sI i)), (2, .ref (ad 98)), (1, .ref (ad 0)), (0, .ref b)] [] := by
  obtain ⟨⟨hJ0, t1_0, t2_0, t3_0, t4_0, t5_0⟩, gq0, hC, ty_0⟩ := hI0
  have C : jj_C p room_1 s m #[Value.ref b] c 118 20643 code 4 RL tL_ask dC dI ad cA A := ⟨⟨Cb.1.1, Cb.1.2.1, Cb.1.2.2.1, Cb.1.2.2.2.1, fun w h => hts w (tL_ask_in w h)⟩, Cb.2⟩
  obtain ⟨gp, egp⟩ : ∃ gp, gp = M.2.2 0 4 := ⟨_, rfl⟩
  rw [← egp] at hC
  have hq : QG gp := by
    rcases gq0 with ⟨p4, _⟩ | ⟨p4, _⟩
    · exact Or.inl (egp.trans p4)
    · exact Or.inr (egp.trans p4)
  have cgp : s_c gp = 6 := qg_c hq
  have hb := bpx_i hJ0.1
  have hE := hC.1.1.1
  have hS := hC.1.1.2.2.2
  have qq := pre_c hC hJ0.2.1 (by omega)
  refine j_aload_n C 2 1 dL_law_1179 rfl rfl ?_
  refine j_aload_n C 3 0 dL_law_1180 rfl rfl ?_
  refine j_iload_n C 0 3 dL_law_1181 rfl rfl ?_
  refine y_iconst C dL_law_1182 ?_
  refine y_iadd C dL_law_1183 ?_
  refine y_sldx C hX hbl hbA hL (by omega) dL_law_1184 ?_
  refine j_callVi C (d := 6) (As := [.int (sI (xs (i + 1).toNat).toInt)]) (st := []) 0 (by decide) rfl (by decide) rfl (s2_X11_ask (iv_0 (prX []) hJ0) (hPX []) (xs (i + 1).toNat).toInt (sI_r _) gp cgp egp qq.1 qq.2.1 qq.2.2.1 qq.2.2.2.2) tL_ask_x rfl hdLX11_ask (by decide) (Nat.le_of_ble_eq_true rfl) dL_law_1185 rfl (fun r1 M1 hp1 => ?_)
  obtain ⟨a1, rfl, hV1, hF1, hf1⟩ := hp1
  have hJ1 := li_x (cs := []) (by decide) hJ0 hV1
  have t1_1 := t1_x t1_0 hV1 rfl rfl
  have t2_1 := t2_x t2_0 hV1 rfl (fun _ => rfl)
  have t3_1 := t3_x t3_0 hV1 ⟨rfl, rfl⟩ (fun _ => rfl) (fun _ => rfl)
  have t4_1 := t4_x t4_0 hV1 rfl (fun _ => rfl) (fun _ => rfl)
  have t5_1 := t5_x t5_0 hV1 ⟨rfl, rfl⟩ ⟨rfl, rfl⟩
  have e99 : M1.1 99 = M.1 99 := hF1.cell (by decide)
  have g4 := xp hV1 (i := 0) (k := 4) rfl rfl
  have g5 := xp hV1 (i := 0) (k := 5) rfl rfl
  have gq1 : GPQ M1 := gpq_c gq0 g4 g5
  have ty_1 : TYT M1 := tyt_s ty_0 (trs_f hF1 (by decide)) (hF1.cellJ (by decide))
  have hc1 : CTS M1 gp (M.1 99) (17 * (i + 6)) := fin_x hq hJ0.1 hC hF1 rfl (by exact hf1.2.2) (by omega)
  refine j_pop C dL_law_1188 rfl ?_
  refine j_aload_n C 1 2 dL_law_1189 rfl rfl ?_
  refine j_aload_n C 3 0 dL_law_1190 rfl rfl ?_
  refine j_iload_n C 0 3 dL_law_1191 rfl rfl ?_
  refine y_iconst C dL_law_1192 ?_
  refine y_iadd C dL_law_1193 ?_
  refine y_sldx C hX hbl hbA hL (by omega) dL_law_1194 ?_
  refine j_callVi C (d := 6) (As := [.int (sI (xs (i + 1).toNat).toInt)]) (st := []) 98 (by decide) rfl (by decide) rfl (s1_X12_ask (iv_0 (prM []) hJ1) (hPM []) (li_cw (cs := []) (fun _ => rfl) hJ1) (xs (i + 1).toNat).toInt (sI_r _) hJ1.2.1) tL_ask_m rfl hdLX12_ask (by decide) (Nat.le_of_ble_eq_true rfl) dL_law_1195 rfl (fun r2 M2 hp2 => ?_)
  obtain ⟨a2, rfl, hV2, hF2, hf2⟩ := hp2
  have hJ2 := li_m (cs := []) (fun _ => rfl) hJ1 hV2 (by exact hf2.2.2)
  have t1_2 := t1_m t1_1 hV2 rfl rfl
  have t2_2 := t2_m t2_1 hV2 rfl (fun _ => rfl)
  have t3_2 := t3_m t3_1 hV2 ⟨rfl, rfl⟩ (fun _ => rfl) (fun _ => rfl)
  have t4_2 := t4_m2 t4_1 hV2 rfl (fun _ => rfl) (fun _ => rfl)
  have t5_2 := t5_m t5_1 hV2 ⟨rfl, rfl⟩ ⟨rfl, rfl⟩
  have e2 : M2.1 99 = (M.1 99) := (hF2.cell (by decide)).trans e99
  have hc2 := fin_m hq hJ1.1 hc1 hF2 rfl e2
  have gq2 : GPQ M2 := gpq_c gq1 (by rw [hF2.2.1]) (by rw [hF2.2.1])
  have hC2 : CTS M2 (M2.2.2 0 4) (M2.1 99) (17 * (i + 6)) := by rw [hF2.2.1, g4, ← egp]; exact hc2
  have ty_2 : TYT M2 := tyt_f ty_1 (cfr_f hF2 (by decide)) (hF2.cellJ (by decide))
  refine j_pop C dL_law_1198 rfl ?_
  refine j_goto C 1466 dL_law_1199 (by decide) ?_
  exact hfin _ ⟨⟨hJ2, t1_2, t2_2, t3_2, t4_2, t5_2⟩, gq2, hC2, ty_2⟩
set_option maxHeartbeats 2000000 in
set_option maxRecDepth 100000 in
theorem lw_op36 {p : Program} {l : Launch} {e : Env} {s : State} {m : MethodId} {below : List Frame} {meth : Method} {c : Code} {b L : Nat} {xs : Nat → Int32} {Q : State → Prop} {dC : Nat → ClassId} {dI : Nat → Nat → Nat} {ad : Nat → Nat} {cA : Nat → ClassId} {A : Nat → Prop} (Cb : jj_C p room_1 s m #[Value.ref b] c 118 20643 code 4 RL [] dC dI ad cA A) (hts : ∀ w ∈ lw_tbl, w.before #[Value.ref b] s = true) (hL : L ≤ 3072) (hX : va_X b L xs s s.heap) (hbl : b < s.heap.size) (hbA : ¬ A b) {i : Int} (hi : 0 ≤ i ∧ i + 6 ≤ L) (hfin : ∀ M : mm_M, LJ (i + 6) M → jj p l e room_1 s m #[Value.ref b] below meth c 118 20643 Q 4 dC dI ad cA A M 1466 [(3, .int (sI i)), (2, .ref (ad 98)), (1, .ref (ad 0)), (0, .ref b)] []) (M : mm_M) (hI0 : LJ i M) : jj p l e room_1 s m #[Value.ref b] below meth c 118 20643 Q 4 dC dI ad cA A M 1202 [(3, .int (sI i)), (2, .ref (ad 98)), (1, .ref (ad 0)), (0, .ref b)] [] := by
  obtain ⟨⟨hJ0, t1_0, t2_0, t3_0, t4_0, t5_0⟩, gq0, hC, ty_0⟩ := hI0
  have C : jj_C p room_1 s m #[Value.ref b] c 118 20643 code 4 RL tL_came dC dI ad cA A := ⟨⟨Cb.1.1, Cb.1.2.1, Cb.1.2.2.1, Cb.1.2.2.2.1, fun w h => hts w (tL_came_in w h)⟩, Cb.2⟩
  obtain ⟨gp, egp⟩ : ∃ gp, gp = M.2.2 0 4 := ⟨_, rfl⟩
  rw [← egp] at hC
  have hq : QG gp := by
    rcases gq0 with ⟨p4, _⟩ | ⟨p4, _⟩
    · exact Or.inl (egp.trans p4)
    · exact Or.inr (egp.trans p4)
  have cgp : s_c gp = 6 := qg_c hq
  have hb := bpx_i hJ0.1
  have hE := hC.1.1.1
  have hS := hC.1.1.2.2.2
  have qq := pre_c hC hJ0.2.1 (by omega)
  refine j_aload_n C 2 1 dL_law_1202 rfl rfl ?_
  refine j_aload_n C 3 0 dL_law_1203 rfl rfl ?_
  refine j_iload_n C 0 3 dL_law_1204 rfl rfl ?_
  refine y_iconst C dL_law_1205 ?_
  refine y_iadd C dL_law_1206 ?_
  refine y_sldx C hX hbl hbA hL (by omega) dL_law_1207 ?_
  refine j_callVj C (d := 6) (As := [.int (sI (xs (i + 1).toNat).toInt)]) (st := []) 0 (by decide) rfl (by decide) rfl (s2_X11_came (iv_0 (prX []) hJ0) (hPX []) (xs (i + 1).toNat).toInt (sI_r _) gp cgp egp qq.1 qq.2.1 qq.2.2.1 qq.2.2.2.2) tL_came_x rfl hdLX11_came (by decide) (Nat.le_of_ble_eq_true rfl) dL_law_1208 rfl (fun r1 M1 hp1 => ?_)
  obtain ⟨a1, rfl, hV1, hF1, hf1⟩ := hp1
  have hJ1 := li_x (cs := []) (by decide) hJ0 hV1
  have t1_1 := t1_x t1_0 hV1 rfl rfl
  have t2_1 := t2_x t2_0 hV1 rfl (fun _ => rfl)
  have t3_1 := t3_x t3_0 hV1 ⟨rfl, rfl⟩ (fun _ => rfl) (fun _ => rfl)
  have t4_1 := t4_x t4_0 hV1 rfl (fun _ => rfl) (fun _ => rfl)
  have t5_1 := t5_x t5_0 hV1 ⟨rfl, rfl⟩ ⟨rfl, rfl⟩
  have e99 : M1.1 99 = M.1 99 := hF1.cell (by decide)
  have g4 := xp hV1 (i := 0) (k := 4) rfl rfl
  have g5 := xp hV1 (i := 0) (k := 5) rfl rfl
  have gq1 : GPQ M1 := gpq_c gq0 g4 g5
  have ty_1 : TYT M1 := tyt_s ty_0 (trs_f hF1 (by decide)) (hF1.cellJ (by decide))
  have hc1 : CTS M1 gp (M.1 99) (17 * (i + 6)) := fin_x hq hJ0.1 hC hF1 rfl (by exact hf1.2.2) (by omega)
  refine j_pop2 C dL_law_1211 rfl ?_
  refine j_aload_n C 1 2 dL_law_1212 rfl rfl ?_
  refine j_aload_n C 3 0 dL_law_1213 rfl rfl ?_
  refine j_iload_n C 0 3 dL_law_1214 rfl rfl ?_
  refine y_iconst C dL_law_1215 ?_
  refine y_iadd C dL_law_1216 ?_
  refine y_sldx C hX hbl hbA hL (by omega) dL_law_1217 ?_
  refine j_callVj C (d := 6) (As := [.int (sI (xs (i + 1).toNat).toInt)]) (st := []) 98 (by decide) rfl (by decide) rfl (s1_X12_came (iv_0 (prM []) hJ1) (hPM []) (li_cw (cs := []) (fun _ => rfl) hJ1) (xs (i + 1).toNat).toInt (sI_r _) hJ1.2.1) tL_came_m rfl hdLX12_came (by decide) (Nat.le_of_ble_eq_true rfl) dL_law_1218 rfl (fun r2 M2 hp2 => ?_)
  obtain ⟨a2, rfl, hV2, hF2, hf2⟩ := hp2
  have hJ2 := li_m (cs := []) (fun _ => rfl) hJ1 hV2 (by exact hf2.2.2)
  have t1_2 := t1_m t1_1 hV2 rfl rfl
  have t2_2 := t2_m t2_1 hV2 rfl (fun _ => rfl)
  have t3_2 := t3_m t3_1 hV2 ⟨rfl, rfl⟩ (fun _ => rfl) (fun _ => rfl)
  have t4_2 := t4_m2 t4_1 hV2 rfl (fun _ => rfl) (fun _ => rfl)
  have t5_2 := t5_m t5_1 hV2 ⟨rfl, rfl⟩ ⟨rfl, rfl⟩
  have e2 : M2.1 99 = (M.1 99) := (hF2.cell (by decide)).trans e99
  have hc2 := fin_m hq hJ1.1 hc1 hF2 rfl e2
  have gq2 : GPQ M2 := gpq_c gq1 (by rw [hF2.2.1]) (by rw [hF2.2.1])
  have hC2 : CTS M2 (M2.2.2 0 4) (M2.1 99) (17 * (i + 6)) := by rw [hF2.2.1, g4, ← egp]; exact hc2
  have ty_2 : TYT M2 := tyt_f ty_1 (cfr_f hF2 (by decide)) (hF2.cellJ (by decide))
  refine j_pop2 C dL_law_1221 rfl ?_
  refine j_goto C 1466 dL_law_1222 (by decide) ?_
  exact hfin _ ⟨⟨hJ2, t1_2, t2_2, t3_2, t4_2, t5_2⟩, gq2, hC2, ty_2⟩
set_option maxHeartbeats 2000000 in
set_option maxRecDepth 100000 in
theorem lw_op37 {p : Program} {l : Launch} {e : Env} {s : State} {m : MethodId} {below : List Frame} {meth : Method} {c : Code} {b L : Nat} {xs : Nat → Int32} {Q : State → Prop} {dC : Nat → ClassId} {dI : Nat → Nat → Nat} {ad : Nat → Nat} {cA : Nat → ClassId} {A : Nat → Prop} (Cb : jj_C p room_1 s m #[Value.ref b] c 118 20643 code 4 RL [] dC dI ad cA A) (hts : ∀ w ∈ lw_tbl, w.before #[Value.ref b] s = true) (hL : L ≤ 3072) (hX : va_X b L xs s s.heap) (hbl : b < s.heap.size) (hbA : ¬ A b) {i : Int} (hi : 0 ≤ i ∧ i + 6 ≤ L) (hfin : ∀ M : mm_M, LJ (i + 6) M → jj p l e room_1 s m #[Value.ref b] below meth c 118 20643 Q 4 dC dI ad cA A M 1466 [(3, .int (sI i)), (2, .ref (ad 98)), (1, .ref (ad 0)), (0, .ref b)] []) (M : mm_M) (hI0 : LJ i M) : jj p l e room_1 s m #[Value.ref b] below meth c 118 20643 Q 4 dC dI ad cA A M 1225 [(3, .int (sI i)), (2, .ref (ad 98)), (1, .ref (ad 0)), (0, .ref b)] [] := by
  obtain ⟨⟨hJ0, t1_0, t2_0, t3_0, t4_0, t5_0⟩, gq0, hC, ty_0⟩ := hI0
  have C : jj_C p room_1 s m #[Value.ref b] c 118 20643 code 4 RL tL_who dC dI ad cA A := ⟨⟨Cb.1.1, Cb.1.2.1, Cb.1.2.2.1, Cb.1.2.2.2.1, fun w h => hts w (tL_who_in w h)⟩, Cb.2⟩
  obtain ⟨gp, egp⟩ : ∃ gp, gp = M.2.2 0 4 := ⟨_, rfl⟩
  rw [← egp] at hC
  have hq : QG gp := by
    rcases gq0 with ⟨p4, _⟩ | ⟨p4, _⟩
    · exact Or.inl (egp.trans p4)
    · exact Or.inr (egp.trans p4)
  have cgp : s_c gp = 6 := qg_c hq
  have hb := bpx_i hJ0.1
  have hE := hC.1.1.1
  have hS := hC.1.1.2.2.2
  have qq := pre_c hC hJ0.2.1 (by omega)
  refine j_aload_n C 2 1 dL_law_1225 rfl rfl ?_
  refine j_aload_n C 3 0 dL_law_1226 rfl rfl ?_
  refine j_iload_n C 0 3 dL_law_1227 rfl rfl ?_
  refine y_iconst C dL_law_1228 ?_
  refine y_iadd C dL_law_1229 ?_
  refine y_sldx C hX hbl hbA hL (by omega) dL_law_1230 ?_
  refine j_aload_n C 3 0 dL_law_1231 rfl rfl ?_
  refine j_iload_n C 0 3 dL_law_1232 rfl rfl ?_
  refine y_iconst C dL_law_1233 ?_
  refine y_iadd C dL_law_1234 ?_
  refine y_sldx C hX hbl hbA hL (by omega) dL_law_1235 ?_
  refine j_callVi C (d := 6) (As := [.int (sI (xs (i + 1).toNat).toInt), .int (sI (xs (i + 2).toNat).toInt)]) (st := []) 0 (by decide) rfl (by decide) rfl (s2_X11_who (iv_0 (prX []) hJ0) (hPX []) (xs (i + 1).toNat).toInt (sI_r _) (xs (i + 2).toNat).toInt (sI_r _) gp cgp egp qq.1 qq.2.1 qq.2.2.1 qq.2.2.2.2) tL_who_x rfl hdLX11_who (by decide) (Nat.le_of_ble_eq_true rfl) dL_law_1236 rfl (fun r1 M1 hp1 => ?_)
  obtain ⟨a1, rfl, hV1, hF1, hf1⟩ := hp1
  have hJ1 := li_x (cs := []) (by decide) hJ0 hV1
  have t1_1 := t1_x t1_0 hV1 rfl rfl
  have t2_1 := t2_x t2_0 hV1 rfl (fun _ => rfl)
  have t3_1 := t3_x t3_0 hV1 ⟨rfl, rfl⟩ (fun _ => rfl) (fun _ => rfl)
  have t4_1 := t4_x t4_0 hV1 rfl (fun _ => rfl) (fun _ => rfl)
  have t5_1 := t5_x t5_0 hV1 ⟨rfl, rfl⟩ ⟨rfl, rfl⟩
  have e99 : M1.1 99 = M.1 99 := hF1.cell (by decide)
  have g4 := xp hV1 (i := 0) (k := 4) rfl rfl
  have g5 := xp hV1 (i := 0) (k := 5) rfl rfl
  have gq1 : GPQ M1 := gpq_c gq0 g4 g5
  have ty_1 : TYT M1 := tyt_s ty_0 (trs_f hF1 (by decide)) (hF1.cellJ (by decide))
  have hc1 : CTS M1 gp (M.1 99) (17 * (i + 6)) := fin_x hq hJ0.1 hC hF1 rfl (by exact hf1.2.2) (by omega)
  refine j_pop C dL_law_1239 rfl ?_
  refine j_aload_n C 1 2 dL_law_1240 rfl rfl ?_
  refine j_aload_n C 3 0 dL_law_1241 rfl rfl ?_
  refine j_iload_n C 0 3 dL_law_1242 rfl rfl ?_
  refine y_iconst C dL_law_1243 ?_
  refine y_iadd C dL_law_1244 ?_
  refine y_sldx C hX hbl hbA hL (by omega) dL_law_1245 ?_
  refine j_aload_n C 3 0 dL_law_1246 rfl rfl ?_
  refine j_iload_n C 0 3 dL_law_1247 rfl rfl ?_
  refine y_iconst C dL_law_1248 ?_
  refine y_iadd C dL_law_1249 ?_
  refine y_sldx C hX hbl hbA hL (by omega) dL_law_1250 ?_
  refine j_callVi C (d := 6) (As := [.int (sI (xs (i + 1).toNat).toInt), .int (sI (xs (i + 2).toNat).toInt)]) (st := []) 98 (by decide) rfl (by decide) rfl (s1_X12_who (iv_0 (prM []) hJ1) (hPM []) (li_cw (cs := []) (fun _ => rfl) hJ1) (xs (i + 1).toNat).toInt (sI_r _) (xs (i + 2).toNat).toInt (sI_r _) hJ1.2.1) tL_who_m rfl hdLX12_who (by decide) (Nat.le_of_ble_eq_true rfl) dL_law_1251 rfl (fun r2 M2 hp2 => ?_)
  obtain ⟨a2, rfl, hV2, hF2, hf2⟩ := hp2
  have hJ2 := li_m (cs := []) (fun _ => rfl) hJ1 hV2 (by exact hf2.2.2)
  have t1_2 := t1_m t1_1 hV2 rfl rfl
  have t2_2 := t2_m t2_1 hV2 rfl (fun _ => rfl)
  have t3_2 := t3_m t3_1 hV2 ⟨rfl, rfl⟩ (fun _ => rfl) (fun _ => rfl)
  have t4_2 := t4_m2 t4_1 hV2 rfl (fun _ => rfl) (fun _ => rfl)
  have t5_2 := t5_m t5_1 hV2 ⟨rfl, rfl⟩ ⟨rfl, rfl⟩
  have e2 : M2.1 99 = (M.1 99) := (hF2.cell (by decide)).trans e99
  have hc2 := fin_m hq hJ1.1 hc1 hF2 rfl e2
  have gq2 : GPQ M2 := gpq_c gq1 (by rw [hF2.2.1]) (by rw [hF2.2.1])
  have hC2 : CTS M2 (M2.2.2 0 4) (M2.1 99) (17 * (i + 6)) := by rw [hF2.2.1, g4, ← egp]; exact hc2
  have ty_2 : TYT M2 := tyt_f ty_1 (cfr_f hF2 (by decide)) (hF2.cellJ (by decide))
  refine j_pop C dL_law_1254 rfl ?_
  refine j_goto C 1466 dL_law_1255 (by decide) ?_
  exact hfin _ ⟨⟨hJ2, t1_2, t2_2, t3_2, t4_2, t5_2⟩, gq2, hC2, ty_2⟩
set_option maxHeartbeats 2000000 in
set_option maxRecDepth 100000 in
theorem lw_op38 {p : Program} {l : Launch} {e : Env} {s : State} {m : MethodId} {below : List Frame} {meth : Method} {c : Code} {b L : Nat} {xs : Nat → Int32} {Q : State → Prop} {dC : Nat → ClassId} {dI : Nat → Nat → Nat} {ad : Nat → Nat} {cA : Nat → ClassId} {A : Nat → Prop} (Cb : jj_C p room_1 s m #[Value.ref b] c 118 20643 code 4 RL [] dC dI ad cA A) (hts : ∀ w ∈ lw_tbl, w.before #[Value.ref b] s = true) (hL : L ≤ 3072) (hX : va_X b L xs s s.heap) (hbl : b < s.heap.size) (hbA : ¬ A b) {i : Int} (hi : 0 ≤ i ∧ i + 6 ≤ L) (hfin : ∀ M : mm_M, LJ (i + 6) M → jj p l e room_1 s m #[Value.ref b] below meth c 118 20643 Q 4 dC dI ad cA A M 1466 [(3, .int (sI i)), (2, .ref (ad 98)), (1, .ref (ad 0)), (0, .ref b)] []) (M : mm_M) (hI0 : LJ i M) : jj p l e room_1 s m #[Value.ref b] below meth c 118 20643 Q 4 dC dI ad cA A M 1258 [(3, .int (sI i)), (2, .ref (ad 98)), (1, .ref (ad 0)), (0, .ref b)] [] := by
  obtain ⟨⟨hJ0, t1_0, t2_0, t3_0, t4_0, t5_0⟩, gq0, hC, ty_0⟩ := hI0
  have C : jj_C p room_1 s m #[Value.ref b] c 118 20643 code 4 RL tL_numbers dC dI ad cA A := ⟨⟨Cb.1.1, Cb.1.2.1, Cb.1.2.2.1, Cb.1.2.2.2.1, fun w h => hts w (tL_numbers_in w h)⟩, Cb.2⟩
  obtain ⟨gp, egp⟩ : ∃ gp, gp = M.2.2 0 4 := ⟨_, rfl⟩
  rw [← egp] at hC
  have hq : QG gp := by
    rcases gq0 with ⟨p4, _⟩ | ⟨p4, _⟩
    · exact Or.inl (egp.trans p4)
    · exact Or.inr (egp.trans p4)
  have cgp : s_c gp = 6 := qg_c hq
  have hb := bpx_i hJ0.1
  have hE := hC.1.1.1
  have hS := hC.1.1.2.2.2
  have qq := pre_c hC hJ0.2.1 (by omega)
  refine j_aload_n C 2 1 dL_law_1258 rfl rfl ?_
  refine j_aload_n C 3 0 dL_law_1259 rfl rfl ?_
  refine j_iload_n C 0 3 dL_law_1260 rfl rfl ?_
  refine y_iconst C dL_law_1261 ?_
  refine y_iadd C dL_law_1262 ?_
  refine y_sldx C hX hbl hbA hL (by omega) dL_law_1263 ?_
  refine j_aload_n C 3 0 dL_law_1264 rfl rfl ?_
  refine j_iload_n C 0 3 dL_law_1265 rfl rfl ?_
  refine y_iconst C dL_law_1266 ?_
  refine y_iadd C dL_law_1267 ?_
  refine y_sldx C hX hbl hbA hL (by omega) dL_law_1268 ?_
  refine j_aload_n C 3 0 dL_law_1269 rfl rfl ?_
  refine j_iload_n C 0 3 dL_law_1270 rfl rfl ?_
  refine y_iconst C dL_law_1271 ?_
  refine y_iadd C dL_law_1272 ?_
  refine y_sldx C hX hbl hbA hL (by omega) dL_law_1273 ?_
  refine j_callVi C (d := 2) (As := [.int (sI (xs (i + 1).toNat).toInt), .int (sI (xs (i + 2).toNat).toInt), .int (sI (xs (i + 3).toNat).toInt)]) (st := []) 0 (by decide) rfl (by decide) rfl (s2_X11_numbers (iv_0 (prX [(9, 1), (9, 2)]) hJ0) (hPX [(9, 1), (9, 2)]) (fun i h => hXc (c := 9) rfl h) (fun i h => hXc (c := 9) rfl h) (xs (i + 1).toNat).toInt (sI_r _) (xs (i + 2).toNat).toInt (sI_r _) (xs (i + 3).toNat).toInt (sI_r _)) tL_numbers_x rfl hdLX11_numbers (by decide) (Nat.le_of_ble_eq_true rfl) dL_law_1274 rfl (fun r1 M1 hp1 => ?_)
  obtain ⟨a1, rfl, hV1, hF1, hf1⟩ := hp1
  have hJ1 := li_x (cs := [(9, 1), (9, 2)]) (by decide) hJ0 hV1
  have t1_1 := t1_x t1_0 hV1 rfl rfl
  have t2_1 := t2_x t2_0 hV1 rfl (fun _ => rfl)
  have t4_1 := t4_x t4_0 hV1 rfl (fun _ => rfl) (fun _ => rfl)
  have t5_1 := t5_x t5_0 hV1 ⟨rfl, rfl⟩ ⟨rfl, rfl⟩
  have e99 : M1.1 99 = M.1 99 := hF1.cell (by decide)
  have g4 := xp hV1 (i := 0) (k := 4) rfl rfl
  have g5 := xp hV1 (i := 0) (k := 5) rfl rfl
  have gq1 : GPQ M1 := gpq_c gq0 g4 g5
  have hc1 : CTS M1 gp (M.1 99) (17 * (i + 6)) := fin_a hq hJ0.1 hC hF1 rfl (by omega)
  refine j_pop C dL_law_1277 rfl ?_
  refine j_aload_n C 1 2 dL_law_1278 rfl rfl ?_
  refine j_aload_n C 3 0 dL_law_1279 rfl rfl ?_
  refine j_iload_n C 0 3 dL_law_1280 rfl rfl ?_
  refine y_iconst C dL_law_1281 ?_
  refine y_iadd C dL_law_1282 ?_
  refine y_sldx C hX hbl hbA hL (by omega) dL_law_1283 ?_
  refine j_aload_n C 3 0 dL_law_1284 rfl rfl ?_
  refine j_iload_n C 0 3 dL_law_1285 rfl rfl ?_
  refine y_iconst C dL_law_1286 ?_
  refine y_iadd C dL_law_1287 ?_
  refine y_sldx C hX hbl hbA hL (by omega) dL_law_1288 ?_
  refine j_aload_n C 3 0 dL_law_1289 rfl rfl ?_
  refine j_iload_n C 0 3 dL_law_1290 rfl rfl ?_
  refine y_iconst C dL_law_1291 ?_
  refine y_iadd C dL_law_1292 ?_
  refine y_sldx C hX hbl hbA hL (by omega) dL_law_1293 ?_
  refine j_callVi C (d := 1) (As := [.int (sI (xs (i + 1).toNat).toInt), .int (sI (xs (i + 2).toNat).toInt), .int (sI (xs (i + 3).toNat).toInt)]) (st := []) 98 (by decide) rfl (by decide) rfl (s1_X12_numbers (iv_0 (prM [(61, 1000), (62, 1000)]) hJ1) (hPM [(61, 1000), (62, 1000)]) (fun i k h => hMc (c := 61) rfl h) (fun i k h => hMc (c := 62) rfl h) (xs (i + 1).toNat).toInt (sI_r _) (xs (i + 2).toNat).toInt (sI_r _) (xs (i + 3).toNat).toInt (sI_r _) hJ1.2.1) tL_numbers_m rfl hdLX12_numbers (by decide) (Nat.le_of_ble_eq_true rfl) dL_law_1294 rfl (fun r2 M2 hp2 => ?_)
  obtain ⟨a2, rfl, hV2, hF2, hf2⟩ := hp2
  have hJ2 := li_m (cs := [(61, 1000), (62, 1000)]) (fun _ => rfl) hJ1 hV2 (by exact hf2.2.2.2.2.2)
  have t1_2 := t1_m t1_1 hV2 rfl rfl
  have t2_2 := t2_m t2_1 hV2 rfl (fun _ => rfl)
  have nbx : b01 (NBX M M1 (xs (i + 1).toNat).toInt (xs (i + 2).toNat).toInt (xs (i + 3).toNat).toInt) = 1 := nbx_x (a := a1) (by exact hf1.2.2.1) (by exact hf1.2.2.2)
  have t3_2 : T3 M2 := t3_n (M := M) (M1 := M1) (M2 := M2) (t := (xs (i + 1).toNat).toInt) (s := (xs (i + 2).toNat).toInt) (n := (xs (i + 3).toNat).toInt) t3_0 nbx (by exact hf2.2.2.2.1) (fun q => xf hV1 (i := 115) (k := q) rfl rfl) (fun q => xf hV1 (i := 116) (k := q) rfl rfl) (fun q hq => mf hV2 (i := s_p0 50 q) (k := 1) (by rw [p50_c q hq]; rfl) (by rw [p50_c q hq]; rfl)) (fun q hq => mf hV2 (i := s_p0 50 q) (k := 2) (by rw [p50_c q hq]; rfl) (by rw [p50_c q hq]; rfl))
  have t4_2 := t4_m2 t4_1 hV2 rfl (fun _ => rfl) (fun _ => rfl)
  have t5_2 := t5_m t5_1 hV2 ⟨rfl, rfl⟩ ⟨rfl, rfl⟩
  have e2 : M2.1 99 = (M.1 99) := (hF2.cell (by decide)).trans e99
  have hc2 := fin_m hq hJ1.1 hc1 hF2 rfl e2
  have gq2 : GPQ M2 := gpq_c gq1 (by rw [hF2.2.1]) (by rw [hF2.2.1])
  have hC2 : CTS M2 (M2.2.2 0 4) (M2.1 99) (17 * (i + 6)) := by rw [hF2.2.1, g4, ← egp]; exact hc2
  have ty_2 : TYT M2 := tyt_nu (a := a1) (a' := a2) (t := (xs (i + 1).toNat).toInt) (s := (xs (i + 2).toNat).toInt) (n := (xs (i + 3).toNat).toInt) ty_0 (tsz_i hJ0.1) (by exact hf1.2.2.1) (by exact hf1.2.2.2) (by exact hf2.2.2.1) (by exact hf2.2.2.2.2.1) (hF1.cellJ (by decide)) (cfr_f hF2 (by decide))
  refine j_pop C dL_law_1297 rfl ?_
  refine j_goto C 1466 dL_law_1298 (by decide) ?_
  exact hfin _ ⟨⟨hJ2, t1_2, t2_2, t3_2, t4_2, t5_2⟩, gq2, hC2, ty_2⟩
set_option maxHeartbeats 2000000 in
set_option maxRecDepth 100000 in
theorem lw_op39 {p : Program} {l : Launch} {e : Env} {s : State} {m : MethodId} {below : List Frame} {meth : Method} {c : Code} {b L : Nat} {xs : Nat → Int32} {Q : State → Prop} {dC : Nat → ClassId} {dI : Nat → Nat → Nat} {ad : Nat → Nat} {cA : Nat → ClassId} {A : Nat → Prop} (Cb : jj_C p room_1 s m #[Value.ref b] c 118 20643 code 4 RL [] dC dI ad cA A) (hts : ∀ w ∈ lw_tbl, w.before #[Value.ref b] s = true) (hL : L ≤ 3072) (hX : va_X b L xs s s.heap) (hbl : b < s.heap.size) (hbA : ¬ A b) {i : Int} (hi : 0 ≤ i ∧ i + 6 ≤ L) (hfin : ∀ M : mm_M, LJ (i + 6) M → jj p l e room_1 s m #[Value.ref b] below meth c 118 20643 Q 4 dC dI ad cA A M 1466 [(3, .int (sI i)), (2, .ref (ad 98)), (1, .ref (ad 0)), (0, .ref b)] []) (M : mm_M) (hI0 : LJ i M) : jj p l e room_1 s m #[Value.ref b] below meth c 118 20643 Q 4 dC dI ad cA A M 1301 [(3, .int (sI i)), (2, .ref (ad 98)), (1, .ref (ad 0)), (0, .ref b)] [] := by
  obtain ⟨⟨hJ0, t1_0, t2_0, t3_0, t4_0, t5_0⟩, gq0, hC, ty_0⟩ := hI0
  have C : jj_C p room_1 s m #[Value.ref b] c 118 20643 code 4 RL tL_write dC dI ad cA A := ⟨⟨Cb.1.1, Cb.1.2.1, Cb.1.2.2.1, Cb.1.2.2.2.1, fun w h => hts w (tL_write_in w h)⟩, Cb.2⟩
  obtain ⟨gp, egp⟩ : ∃ gp, gp = M.2.2 0 4 := ⟨_, rfl⟩
  rw [← egp] at hC
  have hq : QG gp := by
    rcases gq0 with ⟨p4, _⟩ | ⟨p4, _⟩
    · exact Or.inl (egp.trans p4)
    · exact Or.inr (egp.trans p4)
  have cgp : s_c gp = 6 := qg_c hq
  have hb := bpx_i hJ0.1
  have hE := hC.1.1.1
  have hS := hC.1.1.2.2.2
  have qq := pre_c hC hJ0.2.1 (by omega)
  refine j_aload_n C 2 1 dL_law_1301 rfl rfl ?_
  refine j_aload_n C 3 0 dL_law_1302 rfl rfl ?_
  refine j_iload_n C 0 3 dL_law_1303 rfl rfl ?_
  refine y_iconst C dL_law_1304 ?_
  refine y_iadd C dL_law_1305 ?_
  refine y_sldx C hX hbl hbA hL (by omega) dL_law_1306 ?_
  refine j_aload_n C 3 0 dL_law_1307 rfl rfl ?_
  refine j_iload_n C 0 3 dL_law_1308 rfl rfl ?_
  refine y_iconst C dL_law_1309 ?_
  refine y_iadd C dL_law_1310 ?_
  refine y_sldx C hX hbl hbA hL (by omega) dL_law_1311 ?_
  refine j_aload_n C 3 0 dL_law_1312 rfl rfl ?_
  refine j_iload_n C 0 3 dL_law_1313 rfl rfl ?_
  refine y_iconst C dL_law_1314 ?_
  refine y_iadd C dL_law_1315 ?_
  refine y_sldx C hX hbl hbA hL (by omega) dL_law_1316 ?_
  refine y_i2l C dL_law_1317 (sI_r _) ?_
  refine y_bipush C dL_law_1318 rfl ?_
  refine e_lshl C dL_law_1320 (fun lv1 uv1 => ?_)
  refine j_aload_n C 3 0 dL_law_1321 rfl rfl ?_
  refine j_iload_n C 0 3 dL_law_1322 rfl rfl ?_
  refine y_iconst C dL_law_1323 ?_
  refine y_iadd C dL_law_1324 ?_
  refine y_sldx C hX hbl hbA hL (by omega) dL_law_1325 ?_
  refine y_i2l C dL_law_1326 (sI_r _) ?_
  refine y_ldc2 C 4294967295 dL_law_1327 (List.mem_append_right _ List.mem_cons_self) rfl ?_
  refine e_land C dL_law_1330 (fun lv2 uv2 => ?_)
  refine e_lor C dL_law_1331 (fun lv3 uv3 => ?_)
  refine j_callVj C (d := 2) (As := [.int (sI (xs (i + 1).toNat).toInt), .int (sI (xs (i + 2).toNat).toInt), .long (sJ (orJ (shlJ (xs (i + 3).toNat).toInt 32) (andJ (xs (i + 4).toNat).toInt 4294967295)))]) (st := []) 0 (by decide) rfl (by decide) rfl (s2_X11_write (iv_0 (prX []) hJ0) (hPX []) (xs (i + 1).toNat).toInt (sI_r _) (xs (i + 2).toNat).toInt (sI_r _) (orJ (shlJ (xs (i + 3).toNat).toInt 32) (andJ (xs (i + 4).toNat).toInt 4294967295)) (by exact ⟨lv3, uv3⟩)) tL_write_x rfl hdLX11_write (by decide) (Nat.le_of_ble_eq_true rfl) dL_law_1332 rfl (fun r1 M1 hp1 => ?_)
  obtain ⟨a1, rfl, hV1, hF1, hf1⟩ := hp1
  have hJ1 := li_x (cs := []) (by decide) hJ0 hV1
  have t1_1 := t1_x t1_0 hV1 rfl rfl
  have t2_1 := t2_x t2_0 hV1 rfl (fun _ => rfl)
  have t3_1 := t3_x t3_0 hV1 ⟨rfl, rfl⟩ (fun _ => rfl) (fun _ => rfl)
  have t4_1 := t4_x t4_0 hV1 rfl (fun _ => rfl) (fun _ => rfl)
  have t5_1 := t5_x t5_0 hV1 ⟨rfl, rfl⟩ ⟨rfl, rfl⟩
  have e99 : M1.1 99 = M.1 99 := hF1.cell (by decide)
  have g4 := xp hV1 (i := 0) (k := 4) rfl rfl
  have g5 := xp hV1 (i := 0) (k := 5) rfl rfl
  have gq1 : GPQ M1 := gpq_c gq0 g4 g5
  have hc1 : CTS M1 gp (M.1 99) (17 * (i + 6)) := fin_a hq hJ0.1 hC hF1 rfl (by omega)
  refine j_pop2 C dL_law_1335 rfl ?_
  refine j_aload_n C 1 2 dL_law_1336 rfl rfl ?_
  refine j_aload_n C 3 0 dL_law_1337 rfl rfl ?_
  refine j_iload_n C 0 3 dL_law_1338 rfl rfl ?_
  refine y_iconst C dL_law_1339 ?_
  refine y_iadd C dL_law_1340 ?_
  refine y_sldx C hX hbl hbA hL (by omega) dL_law_1341 ?_
  refine j_aload_n C 3 0 dL_law_1342 rfl rfl ?_
  refine j_iload_n C 0 3 dL_law_1343 rfl rfl ?_
  refine y_iconst C dL_law_1344 ?_
  refine y_iadd C dL_law_1345 ?_
  refine y_sldx C hX hbl hbA hL (by omega) dL_law_1346 ?_
  refine j_aload_n C 3 0 dL_law_1347 rfl rfl ?_
  refine j_iload_n C 0 3 dL_law_1348 rfl rfl ?_
  refine y_iconst C dL_law_1349 ?_
  refine y_iadd C dL_law_1350 ?_
  refine y_sldx C hX hbl hbA hL (by omega) dL_law_1351 ?_
  refine y_i2l C dL_law_1352 (sI_r _) ?_
  refine y_bipush C dL_law_1353 rfl ?_
  refine e_lshl C dL_law_1355 (fun lv4 uv4 => ?_)
  refine j_aload_n C 3 0 dL_law_1356 rfl rfl ?_
  refine j_iload_n C 0 3 dL_law_1357 rfl rfl ?_
  refine y_iconst C dL_law_1358 ?_
  refine y_iadd C dL_law_1359 ?_
  refine y_sldx C hX hbl hbA hL (by omega) dL_law_1360 ?_
  refine y_i2l C dL_law_1361 (sI_r _) ?_
  refine y_ldc2 C 4294967295 dL_law_1362 (List.mem_append_right _ List.mem_cons_self) rfl ?_
  refine e_land C dL_law_1365 (fun lv5 uv5 => ?_)
  refine e_lor C dL_law_1366 (fun lv6 uv6 => ?_)
  refine j_callVj C (d := 2) (As := [.int (sI (xs (i + 1).toNat).toInt), .int (sI (xs (i + 2).toNat).toInt), .long (sJ (orJ (shlJ (xs (i + 3).toNat).toInt 32) (andJ (xs (i + 4).toNat).toInt 4294967295)))]) (st := []) 98 (by decide) rfl (by decide) rfl (s1_X12_write (iv_0 (prM []) hJ1) (hPM []) (xs (i + 1).toNat).toInt (sI_r _) (xs (i + 2).toNat).toInt (sI_r _) (orJ (shlJ (xs (i + 3).toNat).toInt 32) (andJ (xs (i + 4).toNat).toInt 4294967295)) (by exact ⟨lv3, uv3⟩) hJ1.2.1) tL_write_m rfl hdLX12_write (by decide) (Nat.le_of_ble_eq_true rfl) dL_law_1367 rfl (fun r2 M2 hp2 => ?_)
  obtain ⟨a2, rfl, hV2, hF2, hf2⟩ := hp2
  have hJ2 := li_m (cs := []) (fun _ => rfl) hJ1 hV2 (by exact hf2.2.2.2.2)
  have t1_2 := t1_m t1_1 hV2 rfl rfl
  have t2_2 := t2_m t2_1 hV2 rfl (fun _ => rfl)
  have t3_2 := t3_m t3_1 hV2 ⟨rfl, rfl⟩ (fun _ => rfl) (fun _ => rfl)
  have t4_2 := t4_m2 t4_1 hV2 rfl (fun _ => rfl) (fun _ => rfl)
  have t5_2 := t5_m t5_1 hV2 ⟨rfl, rfl⟩ ⟨rfl, rfl⟩
  have e2 : M2.1 99 = (M.1 99) := (hF2.cell (by decide)).trans e99
  have hc2 := fin_m hq hJ1.1 hc1 hF2 rfl e2
  have gq2 : GPQ M2 := gpq_c gq1 (by rw [hF2.2.1]) (by rw [hF2.2.1])
  have hC2 : CTS M2 (M2.2.2 0 4) (M2.1 99) (17 * (i + 6)) := by rw [hF2.2.1, g4, ← egp]; exact hc2
  have w1 := t3_at t3_0 (xs (i + 1).toNat).toInt
  have w5 : M1.1 115 = M.1 115 := hF1.cell (by decide)
  have w6 : M1.1 116 = M.1 116 := hF1.cell (by decide)
  have g115 := congrArg Int32.toInt (congrFun w5 ((xs (i + 1).toNat).toInt).toNat)
  have g116 := congrArg Int32.toInt (congrFun w6 ((xs (i + 1).toNat).toInt).toNat)
  have w2 := ct_or (orJ (shlJ (xs (i + 3).toNat).toInt 32) (andJ (xs (i + 4).toNat).toInt 4294967295)) (M1.1 115 ((xs (i + 1).toNat).toInt).toNat).toInt (M.1 (s_p0 50 ((xs (i + 1).toNat).toInt).toNat) 1).toInt
  have w3 : a1 = a2 := by (clear w6 w5 hC2 gq2 hc2 e2 t5_2 t4_2 t3_2 t2_2 t1_2 hJ2 hF2 hV2 uv6 lv6 uv5 lv5 uv4 lv4 hc1 gq1 g5 g4 e99 t5_1 t4_1 t3_1 t2_1 t1_1 hJ1 hF1 hV1 uv3 lv3 uv2 lv2 uv1 lv1 qq hS hE hb cgp hq egp hC C ty_0 gq0 t5_0 t4_0 t3_0 t2_0 t1_0 hJ0 hfin hi hbA hbl hX hL hts Cb; omega)
  have ty_2 : TYT M2 := tyt_wr (a := a1) (a' := a2) (t := (xs (i + 1).toNat).toInt) (i := (xs (i + 2).toNat).toInt) ty_0 (tsz_i hJ0.1) w3 (wr_h hf1.2.2) (by exact ⟨hf1.1, hf1.2.1⟩) w1 w5 w6 (by exact hf2.2.2.2.1) (hF1.cellJ (by decide)) (cfr_f hF2 (by decide))
  refine j_pop2 C dL_law_1370 rfl ?_
  refine j_goto C 1466 dL_law_1371 (by decide) ?_
  exact hfin _ ⟨⟨hJ2, t1_2, t2_2, t3_2, t4_2, t5_2⟩, gq2, hC2, ty_2⟩
set_option maxHeartbeats 2000000 in
set_option maxRecDepth 100000 in
theorem lw_op40 {p : Program} {l : Launch} {e : Env} {s : State} {m : MethodId} {below : List Frame} {meth : Method} {c : Code} {b L : Nat} {xs : Nat → Int32} {Q : State → Prop} {dC : Nat → ClassId} {dI : Nat → Nat → Nat} {ad : Nat → Nat} {cA : Nat → ClassId} {A : Nat → Prop} (Cb : jj_C p room_1 s m #[Value.ref b] c 118 20643 code 4 RL [] dC dI ad cA A) (hts : ∀ w ∈ lw_tbl, w.before #[Value.ref b] s = true) (hL : L ≤ 3072) (hX : va_X b L xs s s.heap) (hbl : b < s.heap.size) (hbA : ¬ A b) {i : Int} (hi : 0 ≤ i ∧ i + 6 ≤ L) (hfin : ∀ M : mm_M, LJ (i + 6) M → jj p l e room_1 s m #[Value.ref b] below meth c 118 20643 Q 4 dC dI ad cA A M 1466 [(3, .int (sI i)), (2, .ref (ad 98)), (1, .ref (ad 0)), (0, .ref b)] []) (M : mm_M) (hI0 : LJ i M) : jj p l e room_1 s m #[Value.ref b] below meth c 118 20643 Q 4 dC dI ad cA A M 1374 [(3, .int (sI i)), (2, .ref (ad 98)), (1, .ref (ad 0)), (0, .ref b)] [] := by
  obtain ⟨⟨hJ0, t1_0, t2_0, t3_0, t4_0, t5_0⟩, gq0, hC, ty_0⟩ := hI0
  have C : jj_C p room_1 s m #[Value.ref b] c 118 20643 code 4 RL tL_lists dC dI ad cA A := ⟨⟨Cb.1.1, Cb.1.2.1, Cb.1.2.2.1, Cb.1.2.2.2.1, fun w h => hts w (tL_lists_in w h)⟩, Cb.2⟩
  obtain ⟨gp, egp⟩ : ∃ gp, gp = M.2.2 0 4 := ⟨_, rfl⟩
  rw [← egp] at hC
  have hq : QG gp := by
    rcases gq0 with ⟨p4, _⟩ | ⟨p4, _⟩
    · exact Or.inl (egp.trans p4)
    · exact Or.inr (egp.trans p4)
  have cgp : s_c gp = 6 := qg_c hq
  have hb := bpx_i hJ0.1
  have hE := hC.1.1.1
  have hS := hC.1.1.2.2.2
  have qq := pre_c hC hJ0.2.1 (by omega)
  refine j_aload_n C 2 1 dL_law_1374 rfl rfl ?_
  refine j_aload_n C 3 0 dL_law_1375 rfl rfl ?_
  refine j_iload_n C 0 3 dL_law_1376 rfl rfl ?_
  refine y_iconst C dL_law_1377 ?_
  refine y_iadd C dL_law_1378 ?_
  refine y_sldx C hX hbl hbA hL (by omega) dL_law_1379 ?_
  refine j_callVi C (d := 6) (As := [.int (sI (xs (i + 1).toNat).toInt)]) (st := []) 0 (by decide) rfl (by decide) rfl (s2_X11_lists (iv_0 (prX []) hJ0) (hPX []) (xs (i + 1).toNat).toInt (sI_r _) gp cgp egp qq.1 qq.2.1 qq.2.2.1 qq.2.2.2.2) tL_lists_x rfl hdLX11_lists (by decide) (Nat.le_of_ble_eq_true rfl) dL_law_1380 rfl (fun r1 M1 hp1 => ?_)
  obtain ⟨a1, rfl, hV1, hF1, hf1⟩ := hp1
  have hJ1 := li_x (cs := []) (by decide) hJ0 hV1
  have t1_1 := t1_x t1_0 hV1 rfl rfl
  have t2_1 := t2_x t2_0 hV1 rfl (fun _ => rfl)
  have t3_1 := t3_x t3_0 hV1 ⟨rfl, rfl⟩ (fun _ => rfl) (fun _ => rfl)
  have t4_1 := t4_x t4_0 hV1 rfl (fun _ => rfl) (fun _ => rfl)
  have t5_1 := t5_x t5_0 hV1 ⟨rfl, rfl⟩ ⟨rfl, rfl⟩
  have e99 : M1.1 99 = M.1 99 := hF1.cell (by decide)
  have g4 := xp hV1 (i := 0) (k := 4) rfl rfl
  have g5 := xp hV1 (i := 0) (k := 5) rfl rfl
  have gq1 : GPQ M1 := gpq_c gq0 g4 g5
  have hc1 : CTS M1 gp (M.1 99) (17 * (i + 6)) := fin_x hq hJ0.1 hC hF1 rfl (by exact hf1.2.2.2.2) (by omega)
  have tye := tye_i (K := M1) t3_0 ty_0 (tsz_i hJ0.1) (hF1.cell (by decide)) (hF1.cell (by decide)) (hF1.cellJ (by decide)) (xs (i + 1).toNat).toInt
  have w1 := ls_e (xs (i + 1).toNat).toInt hE tye
  refine j_pop C dL_law_1383 rfl ?_
  refine j_aload_n C 1 2 dL_law_1384 rfl rfl ?_
  refine j_aload_n C 3 0 dL_law_1385 rfl rfl ?_
  refine j_iload_n C 0 3 dL_law_1386 rfl rfl ?_
  refine y_iconst C dL_law_1387 ?_
  refine y_iadd C dL_law_1388 ?_
  refine y_sldx C hX hbl hbA hL (by omega) dL_law_1389 ?_
  refine j_callVi C (d := 7) (As := [.int (sI (xs (i + 1).toNat).toInt)]) (st := []) 98 (by decide) rfl (by decide) rfl (s1_X12_lists (iv_0 (prM []) hJ1) (hPM []) (li_cw (cs := []) (fun _ => rfl) hJ1) (xs (i + 1).toNat).toInt (sI_r _) hJ1.2.1) tL_lists_m rfl hdLX12_lists (by decide) (Nat.le_of_ble_eq_true rfl) dL_law_1390 rfl (fun r2 M2 hp2 => ?_)
  obtain ⟨a2, rfl, hV2, hF2, hf2⟩ := hp2
  have hJ2 := li_m (cs := []) (fun _ => rfl) hJ1 hV2 (by exact hf2.2.2.2.2)
  have t1_2 := t1_m t1_1 hV2 rfl rfl
  have t2_2 := t2_m t2_1 hV2 rfl (fun _ => rfl)
  have t3_2 := t3_m t3_1 hV2 ⟨rfl, rfl⟩ (fun _ => rfl) (fun _ => rfl)
  have t4_2 := t4_m2 t4_1 hV2 rfl (fun _ => rfl) (fun _ => rfl)
  have t5_2 := t5_m t5_1 hV2 ⟨rfl, rfl⟩ ⟨rfl, rfl⟩
  rw [e99] at hf2
  have e2 : M2.1 99 = (M.1 99) := (hF2.cell (by decide)).trans e99
  have hc2 := fin_m hq hJ1.1 hc1 hF2 rfl e2
  have gq2 : GPQ M2 := gpq_c gq1 (by rw [hF2.2.1]) (by rw [hF2.2.1])
  have hC2 : CTS M2 (M2.2.2 0 4) (M2.1 99) (17 * (i + 6)) := by rw [hF2.2.1, g4, ← egp]; exact hc2
  have w3 : a1 = a2 := by (clear hC2 gq2 hc2 e2 t5_2 t4_2 t3_2 t2_2 t1_2 hJ2 hF2 hV2 tye hc1 gq1 g5 g4 e99 t5_1 t4_1 t3_1 t2_1 t1_1 hJ1 hF1 hV1 qq hS hE hb cgp hq egp hC C ty_0 gq0 t5_0 t4_0 t3_0 t2_0 t1_0 hJ0 hfin hi hbA hbl hX hL hts Cb; omega)
  have ty_2 : TYT M2 := tyt_ls (a := a1) (a' := a2) (t := (xs (i + 1).toNat).toInt) ty_0 (tsz_i hJ0.1) hE (r27 hJ0.1 hE) (by exact hf1.2.2.1) (by exact hf1.2.2.2.1) w3 (by exact hf2.2.2.2.1) (hF1.cellJ (by decide)) (cfr_f hF2 (by decide))
  refine j_pop C dL_law_1393 rfl ?_
  refine j_goto C 1466 dL_law_1394 (by decide) ?_
  exact hfin _ ⟨⟨hJ2, t1_2, t2_2, t3_2, t4_2, t5_2⟩, gq2, hC2, ty_2⟩
set_option maxHeartbeats 2000000 in
set_option maxRecDepth 100000 in
theorem lw_op41 {p : Program} {l : Launch} {e : Env} {s : State} {m : MethodId} {below : List Frame} {meth : Method} {c : Code} {b L : Nat} {xs : Nat → Int32} {Q : State → Prop} {dC : Nat → ClassId} {dI : Nat → Nat → Nat} {ad : Nat → Nat} {cA : Nat → ClassId} {A : Nat → Prop} (Cb : jj_C p room_1 s m #[Value.ref b] c 118 20643 code 4 RL [] dC dI ad cA A) (hts : ∀ w ∈ lw_tbl, w.before #[Value.ref b] s = true) (hL : L ≤ 3072) (hX : va_X b L xs s s.heap) (hbl : b < s.heap.size) (hbA : ¬ A b) {i : Int} (hi : 0 ≤ i ∧ i + 6 ≤ L) (hfin : ∀ M : mm_M, LJ (i + 6) M → jj p l e room_1 s m #[Value.ref b] below meth c 118 20643 Q 4 dC dI ad cA A M 1466 [(3, .int (sI i)), (2, .ref (ad 98)), (1, .ref (ad 0)), (0, .ref b)] []) (M : mm_M) (hI0 : LJ i M) : jj p l e room_1 s m #[Value.ref b] below meth c 118 20643 Q 4 dC dI ad cA A M 1397 [(3, .int (sI i)), (2, .ref (ad 98)), (1, .ref (ad 0)), (0, .ref b)] [] := by
  obtain ⟨⟨hJ0, t1_0, t2_0, t3_0, t4_0, t5_0⟩, gq0, hC, ty_0⟩ := hI0
  have C : jj_C p room_1 s m #[Value.ref b] c 118 20643 code 4 RL tL_image dC dI ad cA A := ⟨⟨Cb.1.1, Cb.1.2.1, Cb.1.2.2.1, Cb.1.2.2.2.1, fun w h => hts w (tL_image_in w h)⟩, Cb.2⟩
  rcases gq0 with ⟨p4, p5⟩ | ⟨p4, p5⟩
  · have egp : 2 = M.2.2 0 4 := p4.symm
    have hq : QG 2 := Or.inl rfl
    rw [p4] at hC
    have cgp : s_c 2 = 6 := qg_c hq
    have hb := bpx_i hJ0.1
    have hE := hC.1.1.1
    have hS := hC.1.1.2.2.2
    have qq := pre_c hC hJ0.2.1 (by omega)
    refine j_aload_n C 2 1 dL_law_1397 rfl rfl ?_
    refine j_aload_n C 3 0 dL_law_1398 rfl rfl ?_
    refine j_iload_n C 0 3 dL_law_1399 rfl rfl ?_
    refine y_iconst C dL_law_1400 ?_
    refine y_iadd C dL_law_1401 ?_
    refine y_sldx C hX hbl hbA hL (by omega) dL_law_1402 ?_
    refine j_callVi C (d := 1) (As := [.int (sI (xs (i + 1).toNat).toInt)]) (st := []) 0 (by decide) rfl (by decide) rfl (s2_X11_image (iv_0 (prX [(2, 0), (6, 0), (6, 1), (8, 0)]) hJ0) (hPX [(2, 0), (6, 0), (6, 1), (8, 0)]) (fun i h => hXc (c := 2) rfl h) (fun i h => hXc (c := 6) rfl h) (fun i h => hXc (c := 6) rfl h) (fun i h => hXc (c := 8) rfl h) (xs (i + 1).toNat).toInt (sI_r _) p4 p5) tL_image_x rfl hdLX11_image (by decide) (Nat.le_of_ble_eq_true rfl) dL_law_1403 rfl (fun r1 M1 hp1 => ?_)
    obtain ⟨a1, rfl, hV1, hF1, hf1⟩ := hp1
    have hJ1 := li_x (cs := [(2, 0), (6, 0), (6, 1), (8, 0)]) (by decide) hJ0 hV1
    have t1_1 := t1_x t1_0 hV1 rfl rfl
    have g0 := congrArg Int32.toInt (xf hV1 (i := 100) (k := 0) rfl rfl)
    have g1 := congrArg Int32.toInt (xf hV1 (i := 100) (k := 1) rfl rfl)
    have y60 := smc_or (M := M) (N := M1) (L := [60, 61, 62, 63, 64, 65, 66, 67, 68]) (i := 60) (by decide) 0
    have y69 := smc_or (M := M) (N := M1) (L := [69, 70, 71, 72, 73, 74, 75, 76, 77]) (i := 69) (by decide) 0
    have w1 : (M.1 60 0).toInt = (M.1 100 0).toInt ∧ (M.1 69 0).toInt = (M.1 100 1).toInt := t2_0
    have t3_1 := t3_x t3_0 hV1 ⟨rfl, rfl⟩ (fun _ => rfl) (fun _ => rfl)
    have t4_1 := t4_x t4_0 hV1 rfl (fun _ => rfl) (fun _ => rfl)
    have t5_1 := t5_x t5_0 hV1 ⟨rfl, rfl⟩ ⟨rfl, rfl⟩
    have e99 : M1.1 99 = M.1 99 := hF1.cell (by decide)
    have g4 := xp hV1 (i := 0) (k := 4) rfl rfl
    have g5 := xp hV1 (i := 0) (k := 5) rfl rfl
    have gq1 : GPQ M1 := gpq_c (Or.inl ⟨p4, p5⟩) g4 g5
    have ty_1 : TYT M1 := tyt_s ty_0 (trs_f hF1 (by decide)) (hF1.cellJ (by decide))
    have zw := zwb3 hJ0.2.2
    have z0 := fin_i hq hJ0.1 hC hF1 rfl
    have hc1 : (a1 = 0 → CTS M1 2 (imS (M.1 99) (xs (i + 1).toNat).toInt) (17 * (i + 6))) ∧ (a1 < 0 → CTS M1 2 (M.1 99) (17 * (i + 6))) := op_im hq hJ0.1 (bpx_i hJ1.1) hC zw z0 (im_h hf1.2.2) (by omega)
    refine j_pop C dL_law_1406 rfl ?_
    refine j_aload_n C 1 2 dL_law_1407 rfl rfl ?_
    refine j_aload_n C 3 0 dL_law_1408 rfl rfl ?_
    refine j_iload_n C 0 3 dL_law_1409 rfl rfl ?_
    refine y_iconst C dL_law_1410 ?_
    refine y_iadd C dL_law_1411 ?_
    refine y_sldx C hX hbl hbA hL (by omega) dL_law_1412 ?_
    refine j_callVi C (d := 1) (As := [.int (sI (xs (i + 1).toNat).toInt)]) (st := []) 98 (by decide) rfl (by decide) rfl (s1_X12_image (iv_0 (prM [(45, 1000), (46, 1000)]) hJ1) (hPM [(45, 1000), (46, 1000)]) (fun i k h => hMc (c := 45) rfl h) (fun i k h => hMc (c := 46) rfl h) (xs (i + 1).toNat).toInt (sI_r _) hJ1.2.2 hJ1.2.1) tL_image_m rfl hdLX12_image (by decide) (Nat.le_of_ble_eq_true rfl) dL_law_1413 rfl (fun r2 M2 hp2 => ?_)
    obtain ⟨a2, rfl, hV2, hF2, hf2⟩ := hp2
    have hJ2 := li_0 hV2 (by exact hf2.2.2.2.2.2) (by exact hf2.2.2.1)
    have t1_2 := t1_m t1_1 hV2 rfl rfl
    have g60 := congrArg Int32.toInt (mf hV2 (i := 60) (k := 0) rfl rfl)
    have g69 := congrArg Int32.toInt (mf hV2 (i := 69) (k := 0) rfl rfl)
    have t2_2 : T2 M2 := by unfold T2; (clear t1_2 hJ2 hF2 hV2 z0 zw ty_1 gq1 g5 g4 e99 t5_1 t4_1 t3_1 t1_1 hJ1 hF1 hV1 qq hS hE hb cgp hq egp p5 p4 C ty_0 hC t5_0 t4_0 t3_0 t2_0 t1_0 hJ0 hfin hi hbA hbl hX hL hts Cb; omega)
    have t3_2 := t3_m t3_1 hV2 ⟨rfl, rfl⟩ (fun _ => rfl) (fun _ => rfl)
    have t4_2 := t4_m2 t4_1 hV2 rfl (fun _ => rfl) (fun _ => rfl)
    have t5_2 := t5_m t5_1 hV2 ⟨rfl, rfl⟩ ⟨rfl, rfl⟩
    rw [e99] at hf2
    have hc2 : CTS M2 2 (M2.1 99) (17 * (i + 6)) := op_fm (a := a1) (b := a2) hq hJ1.1 hF2 rfl hc1.1 hc1.2 (by exact hf2.2.2.2.2.1) (by (clear t5_2 t4_2 t3_2 t2_2 g69 g60 t1_2 hJ2 hF2 hV2 z0 zw ty_1 gq1 g5 g4 e99 t5_1 t4_1 t3_1 w1 g1 g0 t1_1 hJ1 hF1 hV1 qq hS hE hb cgp hq egp p5 p4 C ty_0 hC t5_0 t4_0 t3_0 t2_0 t1_0 hJ0 hfin hi hbA hbl hX hL hts Cb; omega))
    have gq2 : GPQ M2 := gpq_c gq1 (by rw [hF2.2.1]) (by rw [hF2.2.1])
    have hC2 : CTS M2 (M2.2.2 0 4) (M2.1 99) (17 * (i + 6)) := by rw [hF2.2.1, g4, p4]; exact hc2
    have ty_2 : TYT M2 := tyt_f ty_1 (cfr_f hF2 (by decide)) (hF2.cellJ (by decide))
    refine j_pop C dL_law_1416 rfl ?_
    refine j_goto C 1466 dL_law_1417 (by decide) ?_
    exact hfin _ ⟨⟨hJ2, t1_2, t2_2, t3_2, t4_2, t5_2⟩, gq2, hC2, ty_2⟩
  · have egp : 7 = M.2.2 0 4 := p4.symm
    have hq : QG 7 := Or.inr rfl
    rw [p4] at hC
    have cgp : s_c 7 = 6 := qg_c hq
    have hb := bpx_i hJ0.1
    have hE := hC.1.1.1
    have hS := hC.1.1.2.2.2
    have qq := pre_c hC hJ0.2.1 (by omega)
    refine j_aload_n C 2 1 dL_law_1397 rfl rfl ?_
    refine j_aload_n C 3 0 dL_law_1398 rfl rfl ?_
    refine j_iload_n C 0 3 dL_law_1399 rfl rfl ?_
    refine y_iconst C dL_law_1400 ?_
    refine y_iadd C dL_law_1401 ?_
    refine y_sldx C hX hbl hbA hL (by omega) dL_law_1402 ?_
    refine j_callVi C (d := 1) (As := [.int (sI (xs (i + 1).toNat).toInt)]) (st := []) 0 (by decide) rfl (by decide) rfl (s3_X11_image (iv_0 (prX [(2, 0), (6, 0), (6, 1), (8, 0)]) hJ0) (hPX [(2, 0), (6, 0), (6, 1), (8, 0)]) (fun i h => hXc (c := 2) rfl h) (fun i h => hXc (c := 6) rfl h) (fun i h => hXc (c := 6) rfl h) (fun i h => hXc (c := 8) rfl h) (xs (i + 1).toNat).toInt (sI_r _) p4 p5) tL_image_x rfl hdLX11_image (by decide) (Nat.le_of_ble_eq_true rfl) dL_law_1403 rfl (fun r1 M1 hp1 => ?_)
    obtain ⟨a1, rfl, hV1, hF1, hf1⟩ := hp1
    have hJ1 := li_x (cs := [(2, 0), (6, 0), (6, 1), (8, 0)]) (by decide) hJ0 hV1
    have t1_1 := t1_x t1_0 hV1 rfl rfl
    have g0 := congrArg Int32.toInt (xf hV1 (i := 100) (k := 0) rfl rfl)
    have g1 := congrArg Int32.toInt (xf hV1 (i := 100) (k := 1) rfl rfl)
    have y60 := smc_or (M := M) (N := M1) (L := [60, 61, 62, 63, 64, 65, 66, 67, 68]) (i := 60) (by decide) 0
    have y69 := smc_or (M := M) (N := M1) (L := [69, 70, 71, 72, 73, 74, 75, 76, 77]) (i := 69) (by decide) 0
    have w1 : (M.1 60 0).toInt = (M.1 100 0).toInt ∧ (M.1 69 0).toInt = (M.1 100 1).toInt := t2_0
    have t3_1 := t3_x t3_0 hV1 ⟨rfl, rfl⟩ (fun _ => rfl) (fun _ => rfl)
    have t4_1 := t4_x t4_0 hV1 rfl (fun _ => rfl) (fun _ => rfl)
    have t5_1 := t5_x t5_0 hV1 ⟨rfl, rfl⟩ ⟨rfl, rfl⟩
    have e99 : M1.1 99 = M.1 99 := hF1.cell (by decide)
    have g4 := xp hV1 (i := 0) (k := 4) rfl rfl
    have g5 := xp hV1 (i := 0) (k := 5) rfl rfl
    have gq1 : GPQ M1 := gpq_c (Or.inr ⟨p4, p5⟩) g4 g5
    have ty_1 : TYT M1 := tyt_s ty_0 (trs_f hF1 (by decide)) (hF1.cellJ (by decide))
    have zw := zwb3 hJ0.2.2
    have z0 := fin_i hq hJ0.1 hC hF1 rfl
    have hc1 : (a1 = 0 → CTS M1 7 (imS (M.1 99) (xs (i + 1).toNat).toInt) (17 * (i + 6))) ∧ (a1 < 0 → CTS M1 7 (M.1 99) (17 * (i + 6))) := op_im hq hJ0.1 (bpx_i hJ1.1) hC zw z0 (im_h hf1.2.2) (by omega)
    refine j_pop C dL_law_1406 rfl ?_
    refine j_aload_n C 1 2 dL_law_1407 rfl rfl ?_
    refine j_aload_n C 3 0 dL_law_1408 rfl rfl ?_
    refine j_iload_n C 0 3 dL_law_1409 rfl rfl ?_
    refine y_iconst C dL_law_1410 ?_
    refine y_iadd C dL_law_1411 ?_
    refine y_sldx C hX hbl hbA hL (by omega) dL_law_1412 ?_
    refine j_callVi C (d := 1) (As := [.int (sI (xs (i + 1).toNat).toInt)]) (st := []) 98 (by decide) rfl (by decide) rfl (s1_X12_image (iv_0 (prM [(45, 1000), (46, 1000)]) hJ1) (hPM [(45, 1000), (46, 1000)]) (fun i k h => hMc (c := 45) rfl h) (fun i k h => hMc (c := 46) rfl h) (xs (i + 1).toNat).toInt (sI_r _) hJ1.2.2 hJ1.2.1) tL_image_m rfl hdLX12_image (by decide) (Nat.le_of_ble_eq_true rfl) dL_law_1413 rfl (fun r2 M2 hp2 => ?_)
    obtain ⟨a2, rfl, hV2, hF2, hf2⟩ := hp2
    have hJ2 := li_0 hV2 (by exact hf2.2.2.2.2.2) (by exact hf2.2.2.1)
    have t1_2 := t1_m t1_1 hV2 rfl rfl
    have g60 := congrArg Int32.toInt (mf hV2 (i := 60) (k := 0) rfl rfl)
    have g69 := congrArg Int32.toInt (mf hV2 (i := 69) (k := 0) rfl rfl)
    have t2_2 : T2 M2 := by unfold T2; (clear t1_2 hJ2 hF2 hV2 z0 zw ty_1 gq1 g5 g4 e99 t5_1 t4_1 t3_1 t1_1 hJ1 hF1 hV1 qq hS hE hb cgp hq egp p5 p4 C ty_0 hC t5_0 t4_0 t3_0 t2_0 t1_0 hJ0 hfin hi hbA hbl hX hL hts Cb; omega)
    have t3_2 := t3_m t3_1 hV2 ⟨rfl, rfl⟩ (fun _ => rfl) (fun _ => rfl)
    have t4_2 := t4_m2 t4_1 hV2 rfl (fun _ => rfl) (fun _ => rfl)
    have t5_2 := t5_m t5_1 hV2 ⟨rfl, rfl⟩ ⟨rfl, rfl⟩
    rw [e99] at hf2
    have hc2 : CTS M2 7 (M2.1 99) (17 * (i + 6)) := op_fm (a := a1) (b := a2) hq hJ1.1 hF2 rfl hc1.1 hc1.2 (by exact hf2.2.2.2.2.1) (by (clear t5_2 t4_2 t3_2 t2_2 g69 g60 t1_2 hJ2 hF2 hV2 z0 zw ty_1 gq1 g5 g4 e99 t5_1 t4_1 t3_1 w1 g1 g0 t1_1 hJ1 hF1 hV1 qq hS hE hb cgp hq egp p5 p4 C ty_0 hC t5_0 t4_0 t3_0 t2_0 t1_0 hJ0 hfin hi hbA hbl hX hL hts Cb; omega))
    have gq2 : GPQ M2 := gpq_c gq1 (by rw [hF2.2.1]) (by rw [hF2.2.1])
    have hC2 : CTS M2 (M2.2.2 0 4) (M2.1 99) (17 * (i + 6)) := by rw [hF2.2.1, g4, p4]; exact hc2
    have ty_2 : TYT M2 := tyt_f ty_1 (cfr_f hF2 (by decide)) (hF2.cellJ (by decide))
    refine j_pop C dL_law_1416 rfl ?_
    refine j_goto C 1466 dL_law_1417 (by decide) ?_
    exact hfin _ ⟨⟨hJ2, t1_2, t2_2, t3_2, t4_2, t5_2⟩, gq2, hC2, ty_2⟩
set_option maxHeartbeats 2000000 in
set_option maxRecDepth 100000 in
theorem lw_op42 {p : Program} {l : Launch} {e : Env} {s : State} {m : MethodId} {below : List Frame} {meth : Method} {c : Code} {b L : Nat} {xs : Nat → Int32} {Q : State → Prop} {dC : Nat → ClassId} {dI : Nat → Nat → Nat} {ad : Nat → Nat} {cA : Nat → ClassId} {A : Nat → Prop} (Cb : jj_C p room_1 s m #[Value.ref b] c 118 20643 code 4 RL [] dC dI ad cA A) (hts : ∀ w ∈ lw_tbl, w.before #[Value.ref b] s = true) (hL : L ≤ 3072) (hX : va_X b L xs s s.heap) (hbl : b < s.heap.size) (hbA : ¬ A b) {i : Int} (hi : 0 ≤ i ∧ i + 6 ≤ L) (hfin : ∀ M : mm_M, LJ (i + 6) M → jj p l e room_1 s m #[Value.ref b] below meth c 118 20643 Q 4 dC dI ad cA A M 1466 [(3, .int (sI i)), (2, .ref (ad 98)), (1, .ref (ad 0)), (0, .ref b)] []) (M : mm_M) (hI0 : LJ i M) : jj p l e room_1 s m #[Value.ref b] below meth c 118 20643 Q 4 dC dI ad cA A M 1420 [(3, .int (sI i)), (2, .ref (ad 98)), (1, .ref (ad 0)), (0, .ref b)] [] := by
  obtain ⟨⟨hJ0, t1_0, t2_0, t3_0, t4_0, t5_0⟩, gq0, hC, ty_0⟩ := hI0
  have C : jj_C p room_1 s m #[Value.ref b] c 118 20643 code 4 RL tL_restore dC dI ad cA A := ⟨⟨Cb.1.1, Cb.1.2.1, Cb.1.2.2.1, Cb.1.2.2.2.1, fun w h => hts w (tL_restore_in w h)⟩, Cb.2⟩
  rcases gq0 with ⟨p4, p5⟩ | ⟨p4, p5⟩
  · have egp : 2 = M.2.2 0 4 := p4.symm
    have hq : QG 2 := Or.inl rfl
    rw [p4] at hC
    have cgp : s_c 2 = 6 := qg_c hq
    have hb := bpx_i hJ0.1
    have hE := hC.1.1.1
    have hS := hC.1.1.2.2.2
    have qq := pre_c hC hJ0.2.1 (by omega)
    refine j_aload_n C 2 1 dL_law_1420 rfl rfl ?_
    refine j_aload_n C 3 0 dL_law_1421 rfl rfl ?_
    refine j_iload_n C 0 3 dL_law_1422 rfl rfl ?_
    refine y_iconst C dL_law_1423 ?_
    refine y_iadd C dL_law_1424 ?_
    refine y_sldx C hX hbl hbA hL (by omega) dL_law_1425 ?_
    refine j_callVi C (d := 3) (As := [.int (sI (xs (i + 1).toNat).toInt)]) (st := []) 0 (by decide) rfl (by decide) rfl (s2_X11_restore (iv_0 (prX [(6, 0), (6, 1), (8, 0)]) hJ0) (hPX [(6, 0), (6, 1), (8, 0)]) (fun i h => hXc (c := 6) rfl h) (fun i h => hXc (c := 6) rfl h) (fun i h => hXc (c := 8) rfl h) (xs (i + 1).toNat).toInt (sI_r _) p4 p5) tL_restore_x rfl hdLX11_restore (by decide) (Nat.le_of_ble_eq_true rfl) dL_law_1426 rfl (fun r1 M1 hp1 => ?_)
    obtain ⟨a1, rfl, hV1, hF1, hf1⟩ := hp1
    have hJ1 := li_x (cs := [(6, 0), (6, 1), (8, 0)]) (by decide) hJ0 hV1
    have t1_1 := t1_x t1_0 hV1 rfl rfl
    have t2_1 := t2_x t2_0 hV1 rfl (fun _ => rfl)
    have t3_1 := t3_x t3_0 hV1 ⟨rfl, rfl⟩ (fun _ => rfl) (fun _ => rfl)
    have t4_1 := t4_x t4_0 hV1 rfl (fun _ => rfl) (fun _ => rfl)
    have t5_1 := t5_x t5_0 hV1 ⟨rfl, rfl⟩ ⟨rfl, rfl⟩
    have e99 : M1.1 99 = M.1 99 := hF1.cell (by decide)
    have g4 := xp hV1 (i := 0) (k := 4) rfl rfl
    have g5 := xp hV1 (i := 0) (k := 5) rfl rfl
    have gq1 : GPQ M1 := gpq_c (Or.inl ⟨p4, p5⟩) g4 g5
    have ty_1 : TYT M1 := tyt_s ty_0 (trs_f hF1 (by decide)) (hF1.cellJ (by decide))
    have zw := zwb3 hJ0.2.2
    have b18 := hJ1.1.rd (i := 18) (c := 5) (k := 1) rfl (show s_b 5 1 = (0, 9) from rfl)
    have hc1 : (a1 = 0 → CTS M1 2 (reS (M.1 99) (xs (i + 1).toNat).toInt) (17 * (i + 6))) ∧ (a1 < 0 → CTS M1 2 (M.1 99) (17 * (i + 6))) := op_re hq hJ0.1 (bpx_i hJ1.1) hC zw hF1 rfl b18 (re_h hf1.2.2) (by omega)
    refine j_pop C dL_law_1429 rfl ?_
    refine j_aload_n C 1 2 dL_law_1430 rfl rfl ?_
    refine j_aload_n C 3 0 dL_law_1431 rfl rfl ?_
    refine j_iload_n C 0 3 dL_law_1432 rfl rfl ?_
    refine y_iconst C dL_law_1433 ?_
    refine y_iadd C dL_law_1434 ?_
    refine y_sldx C hX hbl hbA hL (by omega) dL_law_1435 ?_
    refine j_callVi C (d := 1) (As := [.int (sI (xs (i + 1).toNat).toInt)]) (st := []) 98 (by decide) rfl (by decide) rfl (s1_X12_restore (iv_0 (prM [(45, 1000)]) hJ1) (hPM [(45, 1000)]) (fun i k h => hMc (c := 45) rfl h) (xs (i + 1).toNat).toInt (sI_r _) hJ1.2.2 hJ1.2.1) tL_restore_m rfl hdLX12_restore (by decide) (Nat.le_of_ble_eq_true rfl) dL_law_1436 rfl (fun r2 M2 hp2 => ?_)
    obtain ⟨a2, rfl, hV2, hF2, hf2⟩ := hp2
    have hJ2 := li_0 hV2 (by exact hf2.2.2.2.2.2) (by exact hf2.2.2.1)
    have t1_2 := t1_m t1_1 hV2 rfl rfl
    have t2_2 := t2_m t2_1 hV2 rfl (fun _ => rfl)
    have t3_2 := t3_m t3_1 hV2 ⟨rfl, rfl⟩ (fun _ => rfl) (fun _ => rfl)
    have t4_2 := t4_m2 t4_1 hV2 rfl (fun _ => rfl) (fun _ => rfl)
    have t5_2 := t5_m t5_1 hV2 ⟨rfl, rfl⟩ ⟨rfl, rfl⟩
    have w1 : (M.1 60 0).toInt = (M.1 100 0).toInt ∧ (M.1 69 0).toInt = (M.1 100 1).toInt := t2_0
    have g0 := congrArg Int32.toInt (xf hV1 (i := 100) (k := 0) rfl rfl)
    have g1 := congrArg Int32.toInt (xf hV1 (i := 100) (k := 1) rfl rfl)
    have w2 := im_p M1 (xs (i + 1).toNat).toInt
    rw [e99] at hf2
    have hc2 : CTS M2 2 (M2.1 99) (17 * (i + 6)) := op_fm (a := a1) (b := a2) hq hJ1.1 hF2 rfl hc1.1 hc1.2 (by exact hf2.2.2.2.2.1) (by (clear t5_2 t4_2 t3_2 t2_2 t1_2 hJ2 hF2 hV2 b18 zw ty_1 gq1 g5 g4 e99 t5_1 t4_1 t3_1 t2_1 t1_1 hJ1 hF1 hV1 qq hS hE hb cgp hq egp p5 p4 C ty_0 hC t5_0 t4_0 t3_0 t2_0 t1_0 hJ0 hfin hi hbA hbl hX hL hts Cb; omega))
    have gq2 : GPQ M2 := gpq_c gq1 (by rw [hF2.2.1]) (by rw [hF2.2.1])
    have hC2 : CTS M2 (M2.2.2 0 4) (M2.1 99) (17 * (i + 6)) := by rw [hF2.2.1, g4, p4]; exact hc2
    have ty_2 : TYT M2 := tyt_f ty_1 (cfr_f hF2 (by decide)) (hF2.cellJ (by decide))
    refine j_pop C dL_law_1439 rfl ?_
    refine j_goto C 1466 dL_law_1440 (by decide) ?_
    exact hfin _ ⟨⟨hJ2, t1_2, t2_2, t3_2, t4_2, t5_2⟩, gq2, hC2, ty_2⟩
  · have egp : 7 = M.2.2 0 4 := p4.symm
    have hq : QG 7 := Or.inr rfl
    rw [p4] at hC
    have cgp : s_c 7 = 6 := qg_c hq
    have hb := bpx_i hJ0.1
    have hE := hC.1.1.1
    have hS := hC.1.1.2.2.2
    have qq := pre_c hC hJ0.2.1 (by omega)
    refine j_aload_n C 2 1 dL_law_1420 rfl rfl ?_
    refine j_aload_n C 3 0 dL_law_1421 rfl rfl ?_
    refine j_iload_n C 0 3 dL_law_1422 rfl rfl ?_
    refine y_iconst C dL_law_1423 ?_
    refine y_iadd C dL_law_1424 ?_
    refine y_sldx C hX hbl hbA hL (by omega) dL_law_1425 ?_
    refine j_callVi C (d := 3) (As := [.int (sI (xs (i + 1).toNat).toInt)]) (st := []) 0 (by decide) rfl (by decide) rfl (s3_X11_restore (iv_0 (prX [(6, 0), (6, 1), (8, 0)]) hJ0) (hPX [(6, 0), (6, 1), (8, 0)]) (fun i h => hXc (c := 6) rfl h) (fun i h => hXc (c := 6) rfl h) (fun i h => hXc (c := 8) rfl h) (xs (i + 1).toNat).toInt (sI_r _) p4 p5) tL_restore_x rfl hdLX11_restore (by decide) (Nat.le_of_ble_eq_true rfl) dL_law_1426 rfl (fun r1 M1 hp1 => ?_)
    obtain ⟨a1, rfl, hV1, hF1, hf1⟩ := hp1
    have hJ1 := li_x (cs := [(6, 0), (6, 1), (8, 0)]) (by decide) hJ0 hV1
    have t1_1 := t1_x t1_0 hV1 rfl rfl
    have t2_1 := t2_x t2_0 hV1 rfl (fun _ => rfl)
    have t3_1 := t3_x t3_0 hV1 ⟨rfl, rfl⟩ (fun _ => rfl) (fun _ => rfl)
    have t4_1 := t4_x t4_0 hV1 rfl (fun _ => rfl) (fun _ => rfl)
    have t5_1 := t5_x t5_0 hV1 ⟨rfl, rfl⟩ ⟨rfl, rfl⟩
    have e99 : M1.1 99 = M.1 99 := hF1.cell (by decide)
    have g4 := xp hV1 (i := 0) (k := 4) rfl rfl
    have g5 := xp hV1 (i := 0) (k := 5) rfl rfl
    have gq1 : GPQ M1 := gpq_c (Or.inr ⟨p4, p5⟩) g4 g5
    have ty_1 : TYT M1 := tyt_s ty_0 (trs_f hF1 (by decide)) (hF1.cellJ (by decide))
    have zw := zwb3 hJ0.2.2
    have b18 := hJ1.1.rd (i := 18) (c := 5) (k := 1) rfl (show s_b 5 1 = (0, 9) from rfl)
    have hc1 : (a1 = 0 → CTS M1 7 (reS (M.1 99) (xs (i + 1).toNat).toInt) (17 * (i + 6))) ∧ (a1 < 0 → CTS M1 7 (M.1 99) (17 * (i + 6))) := op_re hq hJ0.1 (bpx_i hJ1.1) hC zw hF1 rfl b18 (re_h hf1.2.2) (by omega)
    refine j_pop C dL_law_1429 rfl ?_
    refine j_aload_n C 1 2 dL_law_1430 rfl rfl ?_
    refine j_aload_n C 3 0 dL_law_1431 rfl rfl ?_
    refine j_iload_n C 0 3 dL_law_1432 rfl rfl ?_
    refine y_iconst C dL_law_1433 ?_
    refine y_iadd C dL_law_1434 ?_
    refine y_sldx C hX hbl hbA hL (by omega) dL_law_1435 ?_
    refine j_callVi C (d := 1) (As := [.int (sI (xs (i + 1).toNat).toInt)]) (st := []) 98 (by decide) rfl (by decide) rfl (s1_X12_restore (iv_0 (prM [(45, 1000)]) hJ1) (hPM [(45, 1000)]) (fun i k h => hMc (c := 45) rfl h) (xs (i + 1).toNat).toInt (sI_r _) hJ1.2.2 hJ1.2.1) tL_restore_m rfl hdLX12_restore (by decide) (Nat.le_of_ble_eq_true rfl) dL_law_1436 rfl (fun r2 M2 hp2 => ?_)
    obtain ⟨a2, rfl, hV2, hF2, hf2⟩ := hp2
    have hJ2 := li_0 hV2 (by exact hf2.2.2.2.2.2) (by exact hf2.2.2.1)
    have t1_2 := t1_m t1_1 hV2 rfl rfl
    have t2_2 := t2_m t2_1 hV2 rfl (fun _ => rfl)
    have t3_2 := t3_m t3_1 hV2 ⟨rfl, rfl⟩ (fun _ => rfl) (fun _ => rfl)
    have t4_2 := t4_m2 t4_1 hV2 rfl (fun _ => rfl) (fun _ => rfl)
    have t5_2 := t5_m t5_1 hV2 ⟨rfl, rfl⟩ ⟨rfl, rfl⟩
    have w1 : (M.1 60 0).toInt = (M.1 100 0).toInt ∧ (M.1 69 0).toInt = (M.1 100 1).toInt := t2_0
    have g0 := congrArg Int32.toInt (xf hV1 (i := 100) (k := 0) rfl rfl)
    have g1 := congrArg Int32.toInt (xf hV1 (i := 100) (k := 1) rfl rfl)
    have w2 := im_p M1 (xs (i + 1).toNat).toInt
    rw [e99] at hf2
    have hc2 : CTS M2 7 (M2.1 99) (17 * (i + 6)) := op_fm (a := a1) (b := a2) hq hJ1.1 hF2 rfl hc1.1 hc1.2 (by exact hf2.2.2.2.2.1) (by (clear t5_2 t4_2 t3_2 t2_2 t1_2 hJ2 hF2 hV2 b18 zw ty_1 gq1 g5 g4 e99 t5_1 t4_1 t3_1 t2_1 t1_1 hJ1 hF1 hV1 qq hS hE hb cgp hq egp p5 p4 C ty_0 hC t5_0 t4_0 t3_0 t2_0 t1_0 hJ0 hfin hi hbA hbl hX hL hts Cb; omega))
    have gq2 : GPQ M2 := gpq_c gq1 (by rw [hF2.2.1]) (by rw [hF2.2.1])
    have hC2 : CTS M2 (M2.2.2 0 4) (M2.1 99) (17 * (i + 6)) := by rw [hF2.2.1, g4, p4]; exact hc2
    have ty_2 : TYT M2 := tyt_f ty_1 (cfr_f hF2 (by decide)) (hF2.cellJ (by decide))
    refine j_pop C dL_law_1439 rfl ?_
    refine j_goto C 1466 dL_law_1440 (by decide) ?_
    exact hfin _ ⟨⟨hJ2, t1_2, t2_2, t3_2, t4_2, t5_2⟩, gq2, hC2, ty_2⟩
set_option maxHeartbeats 2000000 in
set_option maxRecDepth 100000 in
theorem lw_op43 {p : Program} {l : Launch} {e : Env} {s : State} {m : MethodId} {below : List Frame} {meth : Method} {c : Code} {b L : Nat} {xs : Nat → Int32} {Q : State → Prop} {dC : Nat → ClassId} {dI : Nat → Nat → Nat} {ad : Nat → Nat} {cA : Nat → ClassId} {A : Nat → Prop} (Cb : jj_C p room_1 s m #[Value.ref b] c 118 20643 code 4 RL [] dC dI ad cA A) (hts : ∀ w ∈ lw_tbl, w.before #[Value.ref b] s = true) (hL : L ≤ 3072) (hX : va_X b L xs s s.heap) (hbl : b < s.heap.size) (hbA : ¬ A b) {i : Int} (hi : 0 ≤ i ∧ i + 6 ≤ L) (hfin : ∀ M : mm_M, LJ (i + 6) M → jj p l e room_1 s m #[Value.ref b] below meth c 118 20643 Q 4 dC dI ad cA A M 1466 [(3, .int (sI i)), (2, .ref (ad 98)), (1, .ref (ad 0)), (0, .ref b)] []) (M : mm_M) (hI0 : LJ i M) : jj p l e room_1 s m #[Value.ref b] below meth c 118 20643 Q 4 dC dI ad cA A M 1443 [(3, .int (sI i)), (2, .ref (ad 98)), (1, .ref (ad 0)), (0, .ref b)] [] := by
  obtain ⟨⟨hJ0, t1_0, t2_0, t3_0, t4_0, t5_0⟩, gq0, hC, ty_0⟩ := hI0
  have C : jj_C p room_1 s m #[Value.ref b] c 118 20643 code 4 RL tL_count dC dI ad cA A := ⟨⟨Cb.1.1, Cb.1.2.1, Cb.1.2.2.1, Cb.1.2.2.2.1, fun w h => hts w (tL_count_in w h)⟩, Cb.2⟩
  obtain ⟨gp, egp⟩ : ∃ gp, gp = M.2.2 0 4 := ⟨_, rfl⟩
  rw [← egp] at hC
  have hq : QG gp := by
    rcases gq0 with ⟨p4, _⟩ | ⟨p4, _⟩
    · exact Or.inl (egp.trans p4)
    · exact Or.inr (egp.trans p4)
  have cgp : s_c gp = 6 := qg_c hq
  have hb := bpx_i hJ0.1
  have hE := hC.1.1.1
  have hS := hC.1.1.2.2.2
  have qq := pre_c hC hJ0.2.1 (by omega)
  refine j_aload_n C 2 1 dL_law_1443 rfl rfl ?_
  refine j_aload_n C 3 0 dL_law_1444 rfl rfl ?_
  refine j_iload_n C 0 3 dL_law_1445 rfl rfl ?_
  refine y_iconst C dL_law_1446 ?_
  refine y_iadd C dL_law_1447 ?_
  refine y_sldx C hX hbl hbA hL (by omega) dL_law_1448 ?_
  refine j_callVi C (d := 2) (As := [.int (sI (xs (i + 1).toNat).toInt)]) (st := []) 0 (by decide) rfl (by decide) rfl (s1_X11_count (iv_0 (prX []) hJ0) (xs (i + 1).toNat).toInt (sI_r _)) tL_count_x rfl hdLX11_count (by decide) (Nat.le_of_ble_eq_true rfl) dL_law_1449 rfl (fun r1 M1 hp1 => ?_)
  obtain ⟨a1, rfl, eM1, hf1⟩ := hp1
  subst eM1
  have hJ1 := hJ0
  have t1_1 := t1_0
  have t2_1 := t2_0
  have t3_1 := t3_0
  have t4_1 := t4_0
  have t5_1 := t5_0
  have ty_1 := ty_0
  refine j_pop C dL_law_1452 rfl ?_
  refine j_aload_n C 1 2 dL_law_1453 rfl rfl ?_
  refine j_aload_n C 3 0 dL_law_1454 rfl rfl ?_
  refine j_iload_n C 0 3 dL_law_1455 rfl rfl ?_
  refine y_iconst C dL_law_1456 ?_
  refine y_iadd C dL_law_1457 ?_
  refine y_sldx C hX hbl hbA hL (by omega) dL_law_1458 ?_
  refine j_callVi C (d := 4) (As := [.int (sI (xs (i + 1).toNat).toInt)]) (st := []) 98 (by decide) rfl (by decide) rfl (s1_X12_count (iv_0 (prM []) hJ1) (hPM []) (xs (i + 1).toNat).toInt (sI_r _) hJ1.2.1) tL_count_m rfl hdLX12_count (by decide) (Nat.le_of_ble_eq_true rfl) dL_law_1459 rfl (fun r2 M2 hp2 => ?_)
  obtain ⟨a2, rfl, hV2, hF2, hf2⟩ := hp2
  have hJ2 := li_m (cs := []) (fun _ => rfl) hJ1 hV2 (by exact hf2.2.2)
  have t1_2 := t1_m t1_1 hV2 rfl rfl
  have t2_2 := t2_m t2_1 hV2 rfl (fun _ => rfl)
  have t3_2 := t3_m t3_1 hV2 ⟨rfl, rfl⟩ (fun _ => rfl) (fun _ => rfl)
  have t4_2 := t4_m2 t4_1 hV2 rfl (fun _ => rfl) (fun _ => rfl)
  have t5_2 := t5_m t5_1 hV2 ⟨rfl, rfl⟩ ⟨rfl, rfl⟩
  have e99 : M.1 99 = M.1 99 := rfl
  have gq1 := gq0
  have hc1 : CTS M gp (M.1 99) (17 * (i + 6)) := cts_le hb cgp hC (by omega)
  have e2 : M2.1 99 = (M.1 99) := (hF2.cell (by decide)).trans e99
  have hc2 := fin_m hq hJ1.1 hc1 hF2 rfl e2
  have gq2 : GPQ M2 := gpq_c gq1 (by rw [hF2.2.1]) (by rw [hF2.2.1])
  have hC2 : CTS M2 (M2.2.2 0 4) (M2.1 99) (17 * (i + 6)) := by rw [hF2.2.1, ← egp]; exact hc2
  have ty_2 : TYT M2 := tyt_f ty_1 (cfr_f hF2 (by decide)) (hF2.cellJ (by decide))
  refine j_pop C dL_law_1462 rfl ?_
  refine j_goto C 1466 dL_law_1463 (by decide) ?_
  exact hfin _ ⟨⟨hJ2, t1_2, t2_2, t3_2, t4_2, t5_2⟩, gq2, hC2, ty_2⟩
