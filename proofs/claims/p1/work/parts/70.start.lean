/-! THE CLAIM OUT OF ONE WALK OF THE LAW'S BODY. Your part is whole_start (and what it stands on); all else here is the same for every law, but numbers. -/
def R_law : String := "OneOfEachLaw"
def lw_P (b : Addr) (xs : List Int32) (args : Array Value) (s : State) : Prop := args = #[.ref b] ∧ s.IntsAt b xs ∧ xs.length ≤ 6 ∧ (Jvm.Cond.and given_1 narrow_1).before args s = true
def lw_Q (_ : Array Value) (s : State) (o : Outcome) (t : State) : Prop := o = .returned (some (.int 1)) ∧ Framed s o t [] 600000 7302250
def lw_Z (below : List Frame) (a : Array Value) (s : State) : State → Prop := fun t => ∃ o, t.status = .running ∧ Ended t below o ∧ lw_Q a s o t
/-- the law's own end, with 1 on the stack, nothing written that was there before, its room as the claim has it -/
theorem lw_ret {p : Program} {l : Launch} {e : Env} {s : State} {m : MethodId} {below : List Frame} {meth : Method} {c : Code} {b : Nat} (hx : p.tables.exec = Jvm.exec) (hb : c.code = code) (hr : meth.sig.returnType = ret) (hlocks : meth.locks = false) {pc : Nat} {H : Heap} {ls : Array Slot} (hdg : decode code pc = .ok (.ireturn, 1)) : W p l e room_1 s m #[Value.ref b] below meth c H [] 600000 7302250 (lw_Z below #[Value.ref b] s) (F0 m pc ls [.int 1]) := by
  intro T hT X
  obtain ⟨fs, hret, hrun, hended, hW, hframe⟩ := X.leave (v := some (.int 1)) (hlocks := hlocks) (fun h => by rw [hr] at h; cases h)
  have hmeth' : T.vm.method? m = some meth := X.method'
  refine ⟨T.setFrames fs, ?_, .returned (some (.int 1)), hrun, hended, rfl, ⟨_, rfl⟩, hW, hframe⟩
  jvm_step X.here [X.here.top, hx, hb, hdg, hmeth', hr, ret, narrow_b1]
  (try refine ⟨rfl, ?_⟩); (try refine ⟨rfl, ?_⟩)
  first | (intro acts; rw [hret _ acts rfl rfl rfl]) | rw [hret _ _ rfl rfl rfl]
  exact Steps.refl _
/-- what holds at the law's entry: the machine, the code, the tables' words (any of lw_tbl by 'hts w (by decide +kernel)'), the script of L ints xs at the cell b, what the Statement gives of the start (any of its parts by flat_of_before) -/
def lw_At (p : Program) (s : State) (m : MethodId) (meth : Method) (c : Code) (b L : Nat) (xs : Nat → Int32) : Prop :=
  p.tables.exec = Jvm.exec ∧ c.code = code ∧ meth.sig.returnType = ret ∧ c.maxLocals = 4 ∧ s.vm.findClass R_law = some m.cls ∧ (∀ w ∈ lw_tbl, w.before #[Value.ref b] s = true) ∧ va_X b L xs s s.heap ∧ b < s.heap.size ∧ meth.locks = false ∧ (Jvm.Cond.and given_1 narrow_1).before #[Value.ref b] s = true
theorem va_Pcell {D : va_G} {cl : List vw_C} {ws : va_W} {H : Heap} {k a : Nat} {c : ClassId} {x y : vp_A} (h : va_P D cl ws H) (hk : ws[k]? = some (a, .inl (c, x))) (he : vp_cell c x = vp_cell c y) : va_P D cl (ws.set k (a, .inl (c, y))) H := by
  intro j q hj
  by_cases hjk : j = k
  · subst hjk
    rw [List.getElem?_set_self (List.getElem?_eq_some_iff.mp hk).1] at hj
    cases hj
    show H[a]? = some (vp_cell c y)
    rw [← he]
    exact h j _ hk
  · rw [List.getElem?_set_ne (fun q => hjk q.symm)] at hj
    exact h j q hj
theorem vp_cell_qc {c : ClassId} {n : Nat} {f g : Nat → Option Nat} (h : ∀ j, j < n → f j = g j) : vp_cell c (n, .inr (.inr (.inr (.inr f)))) = vp_cell c (n, .inr (.inr (.inr (.inr g)))) := by
  show arrV c n (fun j => va_rf (f j)) = arrV c n (fun j => va_rf (g j))
  unfold arrV
  congr 2
  funext j
  show va_rf (f j.val) = va_rf (g j.val)
  rw [h j.val j.isLt]
theorem vp_cell_ic {c : ClassId} {n : Nat} {f g : Nat → Int32} (h : ∀ j, j < n → f j = g j) : vp_cell c (n, .inl f) = vp_cell c (n, .inl g) := by
  show arrV c n (fun j => .int (f j)) = arrV c n (fun j => .int (g j))
  unfold arrV
  congr 2
  funext j
  show Value.int (f j.val) = Value.int (g j.val)
  rw [h j.val j.isLt]
set_option maxHeartbeats 4000000 in
set_option maxRecDepth 200000 in
theorem whole_start {p : Program} {e : Env} {s : State} {m : MethodId} {below : List Frame} {meth : Method} {c : Code} (l : Launch) {b L : Nat} {xs : Nat → Int32} (hL : L ≤ 6) (C0 : lw_At p s m meth c b L xs) : W p l e room_1 s m #[Value.ref b] below meth c s.heap [] 0 0 (lw_Z below #[Value.ref b] s) (entryFrame m ([Value.ref b] : List Value).toArray 4) := by
  obtain ⟨hx, hb, hr, hml, hown, hts, hX, hbl, hlocks, hgv⟩ := id C0
  have hown : s.vm.findClass RL = some m.cls := hown
  have hA : ∀ q : Nat, s.heap.size ≤ q → (fun q : Nat => s.heap.size ≤ q) q := fun _ h => h
  have hbA : ¬ (fun q : Nat => s.heap.size ≤ q) b := Nat.not_le.mpr hbl
  obtain ⟨k0, iS0, hKn0⟩ := u_known (C := RX0) (T := TX0) (N := 5) (n := 5) hts hl_wsX00 (hts (Cond.instantiable RX0 5) wd_1654)
  obtain ⟨k1, iS1, hKn1⟩ := u_known (C := RX1) (T := TX1) (N := 1) (n := 1) hts hl_wsX10 (hts (Cond.instantiable RX1 1) wd_1658)
  obtain ⟨k2, iS2, hKn2⟩ := u_known (C := RX2) (T := TX2) (N := 3) (n := 3) hts hl_wsX20 (hts (Cond.instantiable RX2 3) wd_1672)
  obtain ⟨k3, iS3, hKn3⟩ := u_known (C := RX4) (T := TX4) (N := 7) (n := 7) hts hl_wsX40 (hts (Cond.instantiable RX4 7) wd_1660)
  obtain ⟨k4, iS4, hKn4⟩ := u_known (C := RX5) (T := TX5) (N := 14) (n := 14) hts hl_wsX50 (hts (Cond.instantiable RX5 14) wd_1656)
  obtain ⟨k5, iS5, hKn5⟩ := u_known (C := RX6) (T := TX6) (N := 3) (n := 3) hts hl_wsX60 (hts (Cond.instantiable RX6 3) wd_1643)
  obtain ⟨k6, iS6, hKn6⟩ := u_known (C := RX7) (T := TX7) (N := 11) (n := 11) hts hl_wsX70 (hts (Cond.instantiable RX7 11) wd_1647)
  obtain ⟨k7, iS7, hKn7⟩ := u_known (C := RX8) (T := TX8) (N := 7) (n := 7) hts hl_wsX80 (hts (Cond.instantiable RX8 7) wd_1662)
  obtain ⟨k8, iS8, hKn8⟩ := u_known (C := RX9) (T := TX9) (N := 9) (n := 9) hts hl_wsX90 (hts (Cond.instantiable RX9 9) wd_1645)
  obtain ⟨k9, iS9, hKn9⟩ := u_known (C := RX10) (T := TX10) (N := 3) (n := 3) hts hl_wsX100 (hts (Cond.instantiable RX10 3) wd_1653)
  obtain ⟨k10, iS10, hKn10⟩ := u_known (C := RX11) (T := TX11) (N := 16) (n := 16) hts hl_wsX110 (hts (Cond.instantiable RX11 16) wd_1713)
  obtain ⟨k11, iS11, hKn11⟩ := u_known (C := RX12) (T := TX12) (N := 32) (n := 32) hts hl_wsX120 (hts (Cond.instantiable RX12 32) wd_1714)
  obtain ⟨dC, dI, hKc⟩ : ∃ (dC : Nat → ClassId) (dI : Nat → Nat → Nat), ∀ (k : Nat) (q : vw_C), vwCl[k]? = some q → u_Kn s q.1 q.2.1 q.2.2 (dC k) (dI k) := by
    refine ⟨fun k => if k = 0 then k0 else if k = 1 then k1 else if k = 2 then k2 else if k = 3 then k3 else if k = 4 then k4 else if k = 5 then k5 else if k = 6 then k6 else if k = 7 then k7 else if k = 8 then k8 else if k = 9 then k9 else if k = 10 then k10 else k11, fun k => if k = 0 then iS0 else if k = 1 then iS1 else if k = 2 then iS2 else if k = 3 then iS3 else if k = 4 then iS4 else if k = 5 then iS5 else if k = 6 then iS6 else if k = 7 then iS7 else if k = 8 then iS8 else if k = 9 then iS9 else if k = 10 then iS10 else iS11, ?_⟩
    intro k q hq
    match k, hq with
    | 0, hq => cases hq; exact hKn0
    | 1, hq => cases hq; exact hKn1
    | 2, hq => cases hq; exact hKn2
    | 3, hq => cases hq; exact hKn3
    | 4, hq => cases hq; exact hKn4
    | 5, hq => cases hq; exact hKn5
    | 6, hq => cases hq; exact hKn6
    | 7, hq => cases hq; exact hKn7
    | 8, hq => cases hq; exact hKn8
    | 9, hq => cases hq; exact hKn9
    | 10, hq => cases hq; exact hKn10
    | 11, hq => cases hq; exact hKn11
    | k + 12, hq => simp [vwCl] at hq
  have hNA : nw_A s := ⟨va_Nw.of rfl (hts (Cond.methodLinkNest RX2 15 yX7_init RX11) wd_1715), va_Nw.of rfl (hts (Cond.methodLinkNest RX2 22 yX9_init RX11) wd_1716), va_Nw.of rfl (hts (Cond.methodLinkNest RX6 24 yX9_init RX11) wd_1717), va_Nw.of rfl (hts (Cond.methodLinkNest RX11 25 yX7_init RX11) wd_1718), va_Nw.of rfl (hts (Cond.methodLinkNest RX11 35 yX9_init RX11) wd_1719), va_Nw.of rfl (hts (Cond.methodLinkNest RX11 107 yX10_init RX11) wd_1720), va_Nw.of rfl (hts (Cond.methodLinkNest RX11 108 yX2_init RX11) wd_1721), va_AO.of (hts (Cond.arrayOver (.object RX9)) wd_1722), va_AO.of (hts (Cond.arrayOver (.object RX10)) wd_1723), va_AO.of (hts (Cond.arrayOver (.object RX2)) wd_1724)⟩
  have hS : va_S (fun q : Nat => s.heap.size ≤ q) s.heap s.heap [] := va_S.rf
  have hK : va_K (dC, dI) vwCl [] s := ⟨hKc, fun k q h => by simp at h⟩
  have hP : va_P (dC, dI) vwCl [] s.heap := fun k q h => by simp at h
  have hD : va_D (fun q : Nat => s.heap.size ≤ q) [] := ⟨fun i j p q h => by simp at h, fun k q h => by simp at h⟩
  have hl := lv_entry ([.ref b]) (n := 4) (Nat.le_of_ble_eq_true rfl)
  rw [lg_entry_eq]
  generalize (lg_sl ([.ref b]) ++ List.replicate (4 - (lg_sl ([.ref b])).length) Slot.unset).toArray = ls at hl ⊢
  have hl : lv_has ls 4 [(0, .ref b)] := hl
  refine va_new (ci := 10) (fs := [.null, .int 0, .int 0, .int 0, .null, .null, .null, .null, .null, .null, .null, .null, .null, .null, .null, .null]) (C := RX11) (T := TX11) (N := 16) hx hb hts hl_wsX110 tyX11 tyX11_ok hown (hts (Cond.classLink RL 7 RX11) wd_1725) (hts (Cond.instantiable RX11 16) wd_1713) (hts (Cond.initialized RX11) wd_0) hK hP hD hS hA rfl (fun j hj => by rcases (show j = 0 ∨ j = 1 ∨ j = 2 ∨ j = 3 ∨ j = 4 ∨ j = 5 ∨ j = 6 ∨ j = 7 ∨ j = 8 ∨ j = 9 ∨ j = 10 ∨ j = 11 ∨ j = 12 ∨ j = 13 ∨ j = 14 ∨ j = 15 by omega) with rfl | rfl | rfl | rfl | rfl | rfl | rfl | rfl | rfl | rfl | rfl | rfl | rfl | rfl | rfl | rfl <;> rfl) (Nat.le_of_ble_eq_true rfl) (Nat.le_of_ble_eq_true rfl) dL_law_0 (fun qx H hP hD hS => ?_)
  have hP : va_P (dC, dI) vwCl [(qx, .inr (10, [.null, .int 0, .int 0, .int 0, .null, .null, .null, .null, .null, .null, .null, .null, .null, .null, .null, .null]))] H := hP
  have hD : va_D (fun q : Nat => s.heap.size ≤ q) [(qx, .inr (10, [.null, .int 0, .int 0, .int 0, .null, .null, .null, .null, .null, .null, .null, .null, .null, .null, .null, .null]))] := hD
  refine lv_dup hx hb dL_law_3 rfl ?_
  have hPc := hP.sub (ws' := [(qx, .inr (10, [.null, .int 0, .int 0, .int 0, .null, .null, .null, .null, .null, .null, .null, .null, .null, .null, .null, .null]))]) [0] rfl
  have hDc := hD.sub (ws' := [(qx, .inr (10, [.null, .int 0, .int 0, .int 0, .null, .null, .null, .null, .null, .null, .null, .null, .null, .null, .null, .null]))]) [0] (by decide) rfl
  have hKc2 := hK.sub (tys' := []) [] rfl
  have hFc := va_free (wc := [(qx, .inr (10, [.null, .int 0, .int 0, .int 0, .null, .null, .null, .null, .null, .null, .null, .null, .null, .null, .null, .null]))]) hD hS hA [0] rfl
  refine va_callv (va_runI (As := []) (rest := [.ref qx]) ⟨hx, hb, hml, hown, hts⟩ (c_X11_init l dC dI qx H.size) (cwI 0 hts gi_X11 rfl rfl rfl (hts (Cond.initialized RX11) wd_0) (hts (Cond.methodLink RL 9 yX11_init) wd_1726) (hts (Cond.instanceMethod yX11_init) wd_1727) rfl (by decide +kernel) ⟨(Nat.le_of_ble_eq_true rfl), (Nat.le_of_ble_eq_true rfl)⟩) ⟨fun a U g mk q => by obtain ⟨q0, q1, qP, qK, qD, qN⟩ := q; exact ⟨q0, q1, qP, va_K.moved (u := U) (U := U.calling g mk a) (Vm.Alike.refl U.vm) qK, qD, qN.call⟩, fun U hU hW => ⟨rfl, by rw [hU], by rw [hU]; exact hPc, va_K.moved hW.alike hKc2, hDc.weaken (fun _ _ _ _ => trivial), hNA.warm hW⟩⟩ rfl rfl hl.1 rfl (lv_room (Nat.le_of_ble_eq_true rfl)) dL_law_4 ⟨(Nat.le_of_ble_eq_true rfl), (Nat.le_of_ble_eq_true rfl)⟩) hS (fun q _ h => hFc q h) hFc (fun u t H1 locs ht hvm hw hB hz1 hk1 hS => ?_)
  obtain ⟨xa, xc, hP1, hK1, hD1⟩ := hB
  rw [ht] at hP1
  have hK1 := va_K.moved hvm.symm hK1
  obtain ⟨hP, hD⟩ := va_join (wr := []) (w1 := [(qx, .inr (10, [.ref (xa 0), .int 0, .int 0, .int (-1), .ref (xa 1), .ref (xa 6), .ref (xa 11), .ref (xa 14), .ref (xa 17), .ref (xa 49), .ref (xa 50), .ref (xa 51), .ref (xa 54), .ref (xa 60), .ref (xa 61), .ref (xa 68)])), ((xa 0), .inl ((xc 0), 900, .inl (fun _ => 0))), ((xa 1), .inr (6, [.int 0, .int 0, .ref (xa 2), .ref (xa 3), .ref (xa 4), .ref (xa 5), .int 0, .int 0, .int 0, .int 0, .int 0])), ((xa 2), .inl ((xc 1), 6, .inl (fun _ => 0))), ((xa 3), .inl ((xc 2), 6, .inl (fun _ => 0))), ((xa 4), .inl ((xc 3), 6, .inl (fun _ => 0))), ((xa 5), .inl ((xc 4), 900, .inl (fun _ => 0))), ((xa 6), .inr (6, [.int 0, .int 0, .ref (xa 7), .ref (xa 8), .ref (xa 9), .ref (xa 10), .int 0, .int 0, .int 0, .int 0, .int 0])), ((xa 7), .inl ((xc 5), 6, .inl (fun _ => 0))), ((xa 8), .inl ((xc 6), 6, .inl (fun _ => 0))), ((xa 9), .inl ((xc 7), 6, .inl (fun _ => 0))), ((xa 10), .inl ((xc 8), 900, .inl (fun _ => 0))), ((xa 11), .inr (8, [.int 0, .ref (xa 12), .ref (xa 13), .int 0, .int 0, .int 0, .int 0, .int 0, .int 0])), ((xa 12), .inl ((xc 9), 8, .inl (fun _ => 0))), ((xa 13), .inl ((xc 10), 8, .inl (fun _ => 0))), ((xa 14), .inr (8, [.int 0, .ref (xa 15), .ref (xa 16), .int 0, .int 0, .int 0, .int 0, .int 0, .int 0])), ((xa 15), .inl ((xc 11), 8, .inl (fun _ => 0))), ((xa 16), .inl ((xc 12), 8, .inl (fun _ => 0))), ((xa 17), .inr (5, [.ref (xa 18), .int 0, .int 0])), ((xa 18), .inl ((xc 13), 10, .inr (.inr (.inr (.inr (va_up (va_up (va_up (va_up (va_up (va_up (va_up (va_up (va_up (va_up (fun _ => none) 0 (some (xa 19))) 1 (some (xa 22))) 2 (some (xa 25))) 3 (some (xa 28))) 4 (some (xa 31))) 5 (some (xa 34))) 6 (some (xa 37))) 7 (some (xa 40))) 8 (some (xa 43))) 9 (some (xa 46)))))))), ((xa 19), .inr (8, [.int 0, .ref (xa 20), .ref (xa 21), .int 0, .int 0, .int 0, .int 0, .int 0, .int 0])), ((xa 20), .inl ((xc 14), 8, .inl (fun _ => 0))), ((xa 21), .inl ((xc 15), 8, .inl (fun _ => 0))), ((xa 22), .inr (8, [.int 0, .ref (xa 23), .ref (xa 24), .int 0, .int 0, .int 0, .int 0, .int 0, .int 0])), ((xa 23), .inl ((xc 16), 8, .inl (fun _ => 0))), ((xa 24), .inl ((xc 17), 8, .inl (fun _ => 0))), ((xa 25), .inr (8, [.int 0, .ref (xa 26), .ref (xa 27), .int 0, .int 0, .int 0, .int 0, .int 0, .int 0])), ((xa 26), .inl ((xc 18), 8, .inl (fun _ => 0))), ((xa 27), .inl ((xc 19), 8, .inl (fun _ => 0))), ((xa 28), .inr (8, [.int 0, .ref (xa 29), .ref (xa 30), .int 0, .int 0, .int 0, .int 0, .int 0, .int 0])), ((xa 29), .inl ((xc 20), 8, .inl (fun _ => 0))), ((xa 30), .inl ((xc 21), 8, .inl (fun _ => 0))), ((xa 31), .inr (8, [.int 0, .ref (xa 32), .ref (xa 33), .int 0, .int 0, .int 0, .int 0, .int 0, .int 0])), ((xa 32), .inl ((xc 22), 8, .inl (fun _ => 0))), ((xa 33), .inl ((xc 23), 8, .inl (fun _ => 0))), ((xa 34), .inr (8, [.int 0, .ref (xa 35), .ref (xa 36), .int 0, .int 0, .int 0, .int 0, .int 0, .int 0])), ((xa 35), .inl ((xc 24), 8, .inl (fun _ => 0))), ((xa 36), .inl ((xc 25), 8, .inl (fun _ => 0))), ((xa 37), .inr (8, [.int 0, .ref (xa 38), .ref (xa 39), .int 0, .int 0, .int 0, .int 0, .int 0, .int 0])), ((xa 38), .inl ((xc 26), 8, .inl (fun _ => 0))), ((xa 39), .inl ((xc 27), 8, .inl (fun _ => 0))), ((xa 40), .inr (8, [.int 0, .ref (xa 41), .ref (xa 42), .int 0, .int 0, .int 0, .int 0, .int 0, .int 0])), ((xa 41), .inl ((xc 28), 8, .inl (fun _ => 0))), ((xa 42), .inl ((xc 29), 8, .inl (fun _ => 0))), ((xa 43), .inr (8, [.int 0, .ref (xa 44), .ref (xa 45), .int 0, .int 0, .int 0, .int 0, .int 0, .int 0])), ((xa 44), .inl ((xc 30), 8, .inl (fun _ => 0))), ((xa 45), .inl ((xc 31), 8, .inl (fun _ => 0))), ((xa 46), .inr (8, [.int 0, .ref (xa 47), .ref (xa 48), .int 0, .int 0, .int 0, .int 0, .int 0, .int 0])), ((xa 47), .inl ((xc 32), 8, .inl (fun _ => 0))), ((xa 48), .inl ((xc 33), 8, .inl (fun _ => 0))), ((xa 49), .inl ((xc 34), 4, .inr (.inr (.inr (.inr (va_up (va_up (va_up (va_up (fun _ => none) 0 (some (xa 71))) 1 (some (xa 73))) 2 (some (xa 75))) 3 (some (xa 77)))))))), ((xa 50), .inl ((xc 35), 2, .inr (.inr (.inr (.inr (va_up (va_up (fun _ => none) 0 (some (xa 79))) 1 (some (xa 88)))))))), ((xa 51), .inr (7, [.ref (xa 52), .ref (xa 53), .int 0, .ref (xa 6), .ref (xa 14), .int 0, .int (-1)])), ((xa 52), .inl ((xc 36), 901, .inl (fun _ => 0))), ((xa 53), .inl ((xc 37), 901, .inl (fun _ => 0))), ((xa 54), .inr (3, [.ref (xa 55), .ref (xa 56), .ref (xa 57), .ref (xa 58), .ref (xa 59), .ref (xa 1), .int 0])), ((xa 55), .inl ((xc 38), 864, .inl (fun _ => 0))), ((xa 56), .inl ((xc 39), 8, .inl (fun _ => 0))), ((xa 57), .inl ((xc 40), 8, .inl (fun _ => 0))), ((xa 58), .inl ((xc 41), 8, .inl (fun _ => 0))), ((xa 59), .inl ((xc 42), 64, .inl (fun _ => 0))), ((xa 60), .inr (1, [.ref (xa 54)])), ((xa 61), .inr (4, [.ref (xa 54), .ref (xa 62), .ref (xa 63), .ref (xa 64), .ref (xa 65), .ref (xa 66), .ref (xa 67), .long 1, .long 0, .ref (xa 1), .ref (xa 11), .int 0, .int 0, .int 0])), ((xa 62), .inl ((xc 43), 1536, .inl (fun _ => 0))), ((xa 63), .inl ((xc 44), 256, .inl (fun _ => 0))), ((xa 64), .inl ((xc 45), 256, .inl (fun _ => 0))), ((xa 65), .inl ((xc 46), 256, .inr (.inl (fun _ => 0)))), ((xa 66), .inl ((xc 47), 256, .inr (.inl (fun _ => 0)))), ((xa 67), .inl ((xc 48), 6, .inr (.inl (fun _ => 0)))), ((xa 68), .inr (0, [.ref (xa 61), .ref (xa 69), .ref (xa 70), .int 0, .int 0])), ((xa 69), .inl ((xc 49), 256, .inl (fun _ => 0))), ((xa 70), .inl ((xc 50), 10, .inl (fun _ => 0))), ((xa 71), .inr (9, [.ref (xa 72), .int 0, .int (-1)])), ((xa 72), .inl ((xc 51), 40, .inr (.inl (fun _ => 0)))), ((xa 73), .inr (9, [.ref (xa 74), .int 0, .int (-1)])), ((xa 74), .inl ((xc 52), 40, .inr (.inl (fun _ => 0)))), ((xa 75), .inr (9, [.ref (xa 76), .int 0, .int (-1)])), ((xa 76), .inl ((xc 53), 40, .inr (.inl (fun _ => 0)))), ((xa 77), .inr (9, [.ref (xa 78), .int 0, .int (-1)])), ((xa 78), .inl ((xc 54), 40, .inr (.inl (fun _ => 0)))), ((xa 79), .inr (2, [.int 0, .ref (xa 80), .ref (xa 85)])), ((xa 80), .inr (6, [.int 0, .int 0, .ref (xa 81), .ref (xa 82), .ref (xa 83), .ref (xa 84), .int 0, .int 0, .int 0, .int 0, .int 0])), ((xa 81), .inl ((xc 55), 6, .inl (fun _ => 0))), ((xa 82), .inl ((xc 56), 6, .inl (fun _ => 0))), ((xa 83), .inl ((xc 57), 6, .inl (fun _ => 0))), ((xa 84), .inl ((xc 58), 900, .inl (fun _ => 0))), ((xa 85), .inr (8, [.int 0, .ref (xa 86), .ref (xa 87), .int 0, .int 0, .int 0, .int 0, .int 0, .int 0])), ((xa 86), .inl ((xc 59), 8, .inl (fun _ => 0))), ((xa 87), .inl ((xc 60), 8, .inl (fun _ => 0))), ((xa 88), .inr (2, [.int 0, .ref (xa 89), .ref (xa 94)])), ((xa 89), .inr (6, [.int 0, .int 0, .ref (xa 90), .ref (xa 91), .ref (xa 92), .ref (xa 93), .int 0, .int 0, .int 0, .int 0, .int 0])), ((xa 90), .inl ((xc 61), 6, .inl (fun _ => 0))), ((xa 91), .inl ((xc 62), 6, .inl (fun _ => 0))), ((xa 92), .inl ((xc 63), 6, .inl (fun _ => 0))), ((xa 93), .inl ((xc 64), 900, .inl (fun _ => 0))), ((xa 94), .inr (8, [.int 0, .ref (xa 95), .ref (xa 96), .int 0, .int 0, .int 0, .int 0, .int 0, .int 0])), ((xa 95), .inl ((xc 65), 8, .inl (fun _ => 0))), ((xa 96), .inl ((xc 66), 8, .inl (fun _ => 0)))]) hP hD [0] [] rfl rfl (by decide) (by decide) hk1 hFc hP1 hD1
  have hK := hK.app hK1
  generalize H1 = H at hP hS ⊢
  have hP : va_P (dC, dI) vwCl [(qx, .inr (10, [.ref (xa 0), .int 0, .int 0, .int (-1), .ref (xa 1), .ref (xa 6), .ref (xa 11), .ref (xa 14), .ref (xa 17), .ref (xa 49), .ref (xa 50), .ref (xa 51), .ref (xa 54), .ref (xa 60), .ref (xa 61), .ref (xa 68)])), ((xa 0), .inl ((xc 0), 900, .inl (fun _ => 0))), ((xa 1), .inr (6, [.int 0, .int 0, .ref (xa 2), .ref (xa 3), .ref (xa 4), .ref (xa 5), .int 0, .int 0, .int 0, .int 0, .int 0])), ((xa 2), .inl ((xc 1), 6, .inl (fun _ => 0))), ((xa 3), .inl ((xc 2), 6, .inl (fun _ => 0))), ((xa 4), .inl ((xc 3), 6, .inl (fun _ => 0))), ((xa 5), .inl ((xc 4), 900, .inl (fun _ => 0))), ((xa 6), .inr (6, [.int 0, .int 0, .ref (xa 7), .ref (xa 8), .ref (xa 9), .ref (xa 10), .int 0, .int 0, .int 0, .int 0, .int 0])), ((xa 7), .inl ((xc 5), 6, .inl (fun _ => 0))), ((xa 8), .inl ((xc 6), 6, .inl (fun _ => 0))), ((xa 9), .inl ((xc 7), 6, .inl (fun _ => 0))), ((xa 10), .inl ((xc 8), 900, .inl (fun _ => 0))), ((xa 11), .inr (8, [.int 0, .ref (xa 12), .ref (xa 13), .int 0, .int 0, .int 0, .int 0, .int 0, .int 0])), ((xa 12), .inl ((xc 9), 8, .inl (fun _ => 0))), ((xa 13), .inl ((xc 10), 8, .inl (fun _ => 0))), ((xa 14), .inr (8, [.int 0, .ref (xa 15), .ref (xa 16), .int 0, .int 0, .int 0, .int 0, .int 0, .int 0])), ((xa 15), .inl ((xc 11), 8, .inl (fun _ => 0))), ((xa 16), .inl ((xc 12), 8, .inl (fun _ => 0))), ((xa 17), .inr (5, [.ref (xa 18), .int 0, .int 0])), ((xa 18), .inl ((xc 13), 10, .inr (.inr (.inr (.inr (va_up (va_up (va_up (va_up (va_up (va_up (va_up (va_up (va_up (va_up (fun _ => none) 0 (some (xa 19))) 1 (some (xa 22))) 2 (some (xa 25))) 3 (some (xa 28))) 4 (some (xa 31))) 5 (some (xa 34))) 6 (some (xa 37))) 7 (some (xa 40))) 8 (some (xa 43))) 9 (some (xa 46)))))))), ((xa 19), .inr (8, [.int 0, .ref (xa 20), .ref (xa 21), .int 0, .int 0, .int 0, .int 0, .int 0, .int 0])), ((xa 20), .inl ((xc 14), 8, .inl (fun _ => 0))), ((xa 21), .inl ((xc 15), 8, .inl (fun _ => 0))), ((xa 22), .inr (8, [.int 0, .ref (xa 23), .ref (xa 24), .int 0, .int 0, .int 0, .int 0, .int 0, .int 0])), ((xa 23), .inl ((xc 16), 8, .inl (fun _ => 0))), ((xa 24), .inl ((xc 17), 8, .inl (fun _ => 0))), ((xa 25), .inr (8, [.int 0, .ref (xa 26), .ref (xa 27), .int 0, .int 0, .int 0, .int 0, .int 0, .int 0])), ((xa 26), .inl ((xc 18), 8, .inl (fun _ => 0))), ((xa 27), .inl ((xc 19), 8, .inl (fun _ => 0))), ((xa 28), .inr (8, [.int 0, .ref (xa 29), .ref (xa 30), .int 0, .int 0, .int 0, .int 0, .int 0, .int 0])), ((xa 29), .inl ((xc 20), 8, .inl (fun _ => 0))), ((xa 30), .inl ((xc 21), 8, .inl (fun _ => 0))), ((xa 31), .inr (8, [.int 0, .ref (xa 32), .ref (xa 33), .int 0, .int 0, .int 0, .int 0, .int 0, .int 0])), ((xa 32), .inl ((xc 22), 8, .inl (fun _ => 0))), ((xa 33), .inl ((xc 23), 8, .inl (fun _ => 0))), ((xa 34), .inr (8, [.int 0, .ref (xa 35), .ref (xa 36), .int 0, .int 0, .int 0, .int 0, .int 0, .int 0])), ((xa 35), .inl ((xc 24), 8, .inl (fun _ => 0))), ((xa 36), .inl ((xc 25), 8, .inl (fun _ => 0))), ((xa 37), .inr (8, [.int 0, .ref (xa 38), .ref (xa 39), .int 0, .int 0, .int 0, .int 0, .int 0, .int 0])), ((xa 38), .inl ((xc 26), 8, .inl (fun _ => 0))), ((xa 39), .inl ((xc 27), 8, .inl (fun _ => 0))), ((xa 40), .inr (8, [.int 0, .ref (xa 41), .ref (xa 42), .int 0, .int 0, .int 0, .int 0, .int 0, .int 0])), ((xa 41), .inl ((xc 28), 8, .inl (fun _ => 0))), ((xa 42), .inl ((xc 29), 8, .inl (fun _ => 0))), ((xa 43), .inr (8, [.int 0, .ref (xa 44), .ref (xa 45), .int 0, .int 0, .int 0, .int 0, .int 0, .int 0])), ((xa 44), .inl ((xc 30), 8, .inl (fun _ => 0))), ((xa 45), .inl ((xc 31), 8, .inl (fun _ => 0))), ((xa 46), .inr (8, [.int 0, .ref (xa 47), .ref (xa 48), .int 0, .int 0, .int 0, .int 0, .int 0, .int 0])), ((xa 47), .inl ((xc 32), 8, .inl (fun _ => 0))), ((xa 48), .inl ((xc 33), 8, .inl (fun _ => 0))), ((xa 49), .inl ((xc 34), 4, .inr (.inr (.inr (.inr (va_up (va_up (va_up (va_up (fun _ => none) 0 (some (xa 71))) 1 (some (xa 73))) 2 (some (xa 75))) 3 (some (xa 77)))))))), ((xa 50), .inl ((xc 35), 2, .inr (.inr (.inr (.inr (va_up (va_up (fun _ => none) 0 (some (xa 79))) 1 (some (xa 88)))))))), ((xa 51), .inr (7, [.ref (xa 52), .ref (xa 53), .int 0, .ref (xa 6), .ref (xa 14), .int 0, .int (-1)])), ((xa 52), .inl ((xc 36), 901, .inl (fun _ => 0))), ((xa 53), .inl ((xc 37), 901, .inl (fun _ => 0))), ((xa 54), .inr (3, [.ref (xa 55), .ref (xa 56), .ref (xa 57), .ref (xa 58), .ref (xa 59), .ref (xa 1), .int 0])), ((xa 55), .inl ((xc 38), 864, .inl (fun _ => 0))), ((xa 56), .inl ((xc 39), 8, .inl (fun _ => 0))), ((xa 57), .inl ((xc 40), 8, .inl (fun _ => 0))), ((xa 58), .inl ((xc 41), 8, .inl (fun _ => 0))), ((xa 59), .inl ((xc 42), 64, .inl (fun _ => 0))), ((xa 60), .inr (1, [.ref (xa 54)])), ((xa 61), .inr (4, [.ref (xa 54), .ref (xa 62), .ref (xa 63), .ref (xa 64), .ref (xa 65), .ref (xa 66), .ref (xa 67), .long 1, .long 0, .ref (xa 1), .ref (xa 11), .int 0, .int 0, .int 0])), ((xa 62), .inl ((xc 43), 1536, .inl (fun _ => 0))), ((xa 63), .inl ((xc 44), 256, .inl (fun _ => 0))), ((xa 64), .inl ((xc 45), 256, .inl (fun _ => 0))), ((xa 65), .inl ((xc 46), 256, .inr (.inl (fun _ => 0)))), ((xa 66), .inl ((xc 47), 256, .inr (.inl (fun _ => 0)))), ((xa 67), .inl ((xc 48), 6, .inr (.inl (fun _ => 0)))), ((xa 68), .inr (0, [.ref (xa 61), .ref (xa 69), .ref (xa 70), .int 0, .int 0])), ((xa 69), .inl ((xc 49), 256, .inl (fun _ => 0))), ((xa 70), .inl ((xc 50), 10, .inl (fun _ => 0))), ((xa 71), .inr (9, [.ref (xa 72), .int 0, .int (-1)])), ((xa 72), .inl ((xc 51), 40, .inr (.inl (fun _ => 0)))), ((xa 73), .inr (9, [.ref (xa 74), .int 0, .int (-1)])), ((xa 74), .inl ((xc 52), 40, .inr (.inl (fun _ => 0)))), ((xa 75), .inr (9, [.ref (xa 76), .int 0, .int (-1)])), ((xa 76), .inl ((xc 53), 40, .inr (.inl (fun _ => 0)))), ((xa 77), .inr (9, [.ref (xa 78), .int 0, .int (-1)])), ((xa 78), .inl ((xc 54), 40, .inr (.inl (fun _ => 0)))), ((xa 79), .inr (2, [.int 0, .ref (xa 80), .ref (xa 85)])), ((xa 80), .inr (6, [.int 0, .int 0, .ref (xa 81), .ref (xa 82), .ref (xa 83), .ref (xa 84), .int 0, .int 0, .int 0, .int 0, .int 0])), ((xa 81), .inl ((xc 55), 6, .inl (fun _ => 0))), ((xa 82), .inl ((xc 56), 6, .inl (fun _ => 0))), ((xa 83), .inl ((xc 57), 6, .inl (fun _ => 0))), ((xa 84), .inl ((xc 58), 900, .inl (fun _ => 0))), ((xa 85), .inr (8, [.int 0, .ref (xa 86), .ref (xa 87), .int 0, .int 0, .int 0, .int 0, .int 0, .int 0])), ((xa 86), .inl ((xc 59), 8, .inl (fun _ => 0))), ((xa 87), .inl ((xc 60), 8, .inl (fun _ => 0))), ((xa 88), .inr (2, [.int 0, .ref (xa 89), .ref (xa 94)])), ((xa 89), .inr (6, [.int 0, .int 0, .ref (xa 90), .ref (xa 91), .ref (xa 92), .ref (xa 93), .int 0, .int 0, .int 0, .int 0, .int 0])), ((xa 90), .inl ((xc 61), 6, .inl (fun _ => 0))), ((xa 91), .inl ((xc 62), 6, .inl (fun _ => 0))), ((xa 92), .inl ((xc 63), 6, .inl (fun _ => 0))), ((xa 93), .inl ((xc 64), 900, .inl (fun _ => 0))), ((xa 94), .inr (8, [.int 0, .ref (xa 95), .ref (xa 96), .int 0, .int 0, .int 0, .int 0, .int 0, .int 0])), ((xa 95), .inl ((xc 65), 8, .inl (fun _ => 0))), ((xa 96), .inl ((xc 66), 8, .inl (fun _ => 0)))] H := hP
  have hD : va_D (fun q : Nat => s.heap.size ≤ q) [(qx, .inr (10, [.ref (xa 0), .int 0, .int 0, .int (-1), .ref (xa 1), .ref (xa 6), .ref (xa 11), .ref (xa 14), .ref (xa 17), .ref (xa 49), .ref (xa 50), .ref (xa 51), .ref (xa 54), .ref (xa 60), .ref (xa 61), .ref (xa 68)])), ((xa 0), .inl ((xc 0), 900, .inl (fun _ => 0))), ((xa 1), .inr (6, [.int 0, .int 0, .ref (xa 2), .ref (xa 3), .ref (xa 4), .ref (xa 5), .int 0, .int 0, .int 0, .int 0, .int 0])), ((xa 2), .inl ((xc 1), 6, .inl (fun _ => 0))), ((xa 3), .inl ((xc 2), 6, .inl (fun _ => 0))), ((xa 4), .inl ((xc 3), 6, .inl (fun _ => 0))), ((xa 5), .inl ((xc 4), 900, .inl (fun _ => 0))), ((xa 6), .inr (6, [.int 0, .int 0, .ref (xa 7), .ref (xa 8), .ref (xa 9), .ref (xa 10), .int 0, .int 0, .int 0, .int 0, .int 0])), ((xa 7), .inl ((xc 5), 6, .inl (fun _ => 0))), ((xa 8), .inl ((xc 6), 6, .inl (fun _ => 0))), ((xa 9), .inl ((xc 7), 6, .inl (fun _ => 0))), ((xa 10), .inl ((xc 8), 900, .inl (fun _ => 0))), ((xa 11), .inr (8, [.int 0, .ref (xa 12), .ref (xa 13), .int 0, .int 0, .int 0, .int 0, .int 0, .int 0])), ((xa 12), .inl ((xc 9), 8, .inl (fun _ => 0))), ((xa 13), .inl ((xc 10), 8, .inl (fun _ => 0))), ((xa 14), .inr (8, [.int 0, .ref (xa 15), .ref (xa 16), .int 0, .int 0, .int 0, .int 0, .int 0, .int 0])), ((xa 15), .inl ((xc 11), 8, .inl (fun _ => 0))), ((xa 16), .inl ((xc 12), 8, .inl (fun _ => 0))), ((xa 17), .inr (5, [.ref (xa 18), .int 0, .int 0])), ((xa 18), .inl ((xc 13), 10, .inr (.inr (.inr (.inr (va_up (va_up (va_up (va_up (va_up (va_up (va_up (va_up (va_up (va_up (fun _ => none) 0 (some (xa 19))) 1 (some (xa 22))) 2 (some (xa 25))) 3 (some (xa 28))) 4 (some (xa 31))) 5 (some (xa 34))) 6 (some (xa 37))) 7 (some (xa 40))) 8 (some (xa 43))) 9 (some (xa 46)))))))), ((xa 19), .inr (8, [.int 0, .ref (xa 20), .ref (xa 21), .int 0, .int 0, .int 0, .int 0, .int 0, .int 0])), ((xa 20), .inl ((xc 14), 8, .inl (fun _ => 0))), ((xa 21), .inl ((xc 15), 8, .inl (fun _ => 0))), ((xa 22), .inr (8, [.int 0, .ref (xa 23), .ref (xa 24), .int 0, .int 0, .int 0, .int 0, .int 0, .int 0])), ((xa 23), .inl ((xc 16), 8, .inl (fun _ => 0))), ((xa 24), .inl ((xc 17), 8, .inl (fun _ => 0))), ((xa 25), .inr (8, [.int 0, .ref (xa 26), .ref (xa 27), .int 0, .int 0, .int 0, .int 0, .int 0, .int 0])), ((xa 26), .inl ((xc 18), 8, .inl (fun _ => 0))), ((xa 27), .inl ((xc 19), 8, .inl (fun _ => 0))), ((xa 28), .inr (8, [.int 0, .ref (xa 29), .ref (xa 30), .int 0, .int 0, .int 0, .int 0, .int 0, .int 0])), ((xa 29), .inl ((xc 20), 8, .inl (fun _ => 0))), ((xa 30), .inl ((xc 21), 8, .inl (fun _ => 0))), ((xa 31), .inr (8, [.int 0, .ref (xa 32), .ref (xa 33), .int 0, .int 0, .int 0, .int 0, .int 0, .int 0])), ((xa 32), .inl ((xc 22), 8, .inl (fun _ => 0))), ((xa 33), .inl ((xc 23), 8, .inl (fun _ => 0))), ((xa 34), .inr (8, [.int 0, .ref (xa 35), .ref (xa 36), .int 0, .int 0, .int 0, .int 0, .int 0, .int 0])), ((xa 35), .inl ((xc 24), 8, .inl (fun _ => 0))), ((xa 36), .inl ((xc 25), 8, .inl (fun _ => 0))), ((xa 37), .inr (8, [.int 0, .ref (xa 38), .ref (xa 39), .int 0, .int 0, .int 0, .int 0, .int 0, .int 0])), ((xa 38), .inl ((xc 26), 8, .inl (fun _ => 0))), ((xa 39), .inl ((xc 27), 8, .inl (fun _ => 0))), ((xa 40), .inr (8, [.int 0, .ref (xa 41), .ref (xa 42), .int 0, .int 0, .int 0, .int 0, .int 0, .int 0])), ((xa 41), .inl ((xc 28), 8, .inl (fun _ => 0))), ((xa 42), .inl ((xc 29), 8, .inl (fun _ => 0))), ((xa 43), .inr (8, [.int 0, .ref (xa 44), .ref (xa 45), .int 0, .int 0, .int 0, .int 0, .int 0, .int 0])), ((xa 44), .inl ((xc 30), 8, .inl (fun _ => 0))), ((xa 45), .inl ((xc 31), 8, .inl (fun _ => 0))), ((xa 46), .inr (8, [.int 0, .ref (xa 47), .ref (xa 48), .int 0, .int 0, .int 0, .int 0, .int 0, .int 0])), ((xa 47), .inl ((xc 32), 8, .inl (fun _ => 0))), ((xa 48), .inl ((xc 33), 8, .inl (fun _ => 0))), ((xa 49), .inl ((xc 34), 4, .inr (.inr (.inr (.inr (va_up (va_up (va_up (va_up (fun _ => none) 0 (some (xa 71))) 1 (some (xa 73))) 2 (some (xa 75))) 3 (some (xa 77)))))))), ((xa 50), .inl ((xc 35), 2, .inr (.inr (.inr (.inr (va_up (va_up (fun _ => none) 0 (some (xa 79))) 1 (some (xa 88)))))))), ((xa 51), .inr (7, [.ref (xa 52), .ref (xa 53), .int 0, .ref (xa 6), .ref (xa 14), .int 0, .int (-1)])), ((xa 52), .inl ((xc 36), 901, .inl (fun _ => 0))), ((xa 53), .inl ((xc 37), 901, .inl (fun _ => 0))), ((xa 54), .inr (3, [.ref (xa 55), .ref (xa 56), .ref (xa 57), .ref (xa 58), .ref (xa 59), .ref (xa 1), .int 0])), ((xa 55), .inl ((xc 38), 864, .inl (fun _ => 0))), ((xa 56), .inl ((xc 39), 8, .inl (fun _ => 0))), ((xa 57), .inl ((xc 40), 8, .inl (fun _ => 0))), ((xa 58), .inl ((xc 41), 8, .inl (fun _ => 0))), ((xa 59), .inl ((xc 42), 64, .inl (fun _ => 0))), ((xa 60), .inr (1, [.ref (xa 54)])), ((xa 61), .inr (4, [.ref (xa 54), .ref (xa 62), .ref (xa 63), .ref (xa 64), .ref (xa 65), .ref (xa 66), .ref (xa 67), .long 1, .long 0, .ref (xa 1), .ref (xa 11), .int 0, .int 0, .int 0])), ((xa 62), .inl ((xc 43), 1536, .inl (fun _ => 0))), ((xa 63), .inl ((xc 44), 256, .inl (fun _ => 0))), ((xa 64), .inl ((xc 45), 256, .inl (fun _ => 0))), ((xa 65), .inl ((xc 46), 256, .inr (.inl (fun _ => 0)))), ((xa 66), .inl ((xc 47), 256, .inr (.inl (fun _ => 0)))), ((xa 67), .inl ((xc 48), 6, .inr (.inl (fun _ => 0)))), ((xa 68), .inr (0, [.ref (xa 61), .ref (xa 69), .ref (xa 70), .int 0, .int 0])), ((xa 69), .inl ((xc 49), 256, .inl (fun _ => 0))), ((xa 70), .inl ((xc 50), 10, .inl (fun _ => 0))), ((xa 71), .inr (9, [.ref (xa 72), .int 0, .int (-1)])), ((xa 72), .inl ((xc 51), 40, .inr (.inl (fun _ => 0)))), ((xa 73), .inr (9, [.ref (xa 74), .int 0, .int (-1)])), ((xa 74), .inl ((xc 52), 40, .inr (.inl (fun _ => 0)))), ((xa 75), .inr (9, [.ref (xa 76), .int 0, .int (-1)])), ((xa 76), .inl ((xc 53), 40, .inr (.inl (fun _ => 0)))), ((xa 77), .inr (9, [.ref (xa 78), .int 0, .int (-1)])), ((xa 78), .inl ((xc 54), 40, .inr (.inl (fun _ => 0)))), ((xa 79), .inr (2, [.int 0, .ref (xa 80), .ref (xa 85)])), ((xa 80), .inr (6, [.int 0, .int 0, .ref (xa 81), .ref (xa 82), .ref (xa 83), .ref (xa 84), .int 0, .int 0, .int 0, .int 0, .int 0])), ((xa 81), .inl ((xc 55), 6, .inl (fun _ => 0))), ((xa 82), .inl ((xc 56), 6, .inl (fun _ => 0))), ((xa 83), .inl ((xc 57), 6, .inl (fun _ => 0))), ((xa 84), .inl ((xc 58), 900, .inl (fun _ => 0))), ((xa 85), .inr (8, [.int 0, .ref (xa 86), .ref (xa 87), .int 0, .int 0, .int 0, .int 0, .int 0, .int 0])), ((xa 86), .inl ((xc 59), 8, .inl (fun _ => 0))), ((xa 87), .inl ((xc 60), 8, .inl (fun _ => 0))), ((xa 88), .inr (2, [.int 0, .ref (xa 89), .ref (xa 94)])), ((xa 89), .inr (6, [.int 0, .int 0, .ref (xa 90), .ref (xa 91), .ref (xa 92), .ref (xa 93), .int 0, .int 0, .int 0, .int 0, .int 0])), ((xa 90), .inl ((xc 61), 6, .inl (fun _ => 0))), ((xa 91), .inl ((xc 62), 6, .inl (fun _ => 0))), ((xa 92), .inl ((xc 63), 6, .inl (fun _ => 0))), ((xa 93), .inl ((xc 64), 900, .inl (fun _ => 0))), ((xa 94), .inr (8, [.int 0, .ref (xa 95), .ref (xa 96), .int 0, .int 0, .int 0, .int 0, .int 0, .int 0])), ((xa 95), .inl ((xc 65), 8, .inl (fun _ => 0))), ((xa 96), .inl ((xc 66), 8, .inl (fun _ => 0)))] := hD
  have hK : va_K (dC, dI) vwCl [((xc 0), .int), ((xc 1), .int), ((xc 2), .int), ((xc 3), .int), ((xc 4), .int), ((xc 5), .int), ((xc 6), .int), ((xc 7), .int), ((xc 8), .int), ((xc 9), .int), ((xc 10), .int), ((xc 11), .int), ((xc 12), .int), ((xc 13), .object RX9), ((xc 14), .int), ((xc 15), .int), ((xc 16), .int), ((xc 17), .int), ((xc 18), .int), ((xc 19), .int), ((xc 20), .int), ((xc 21), .int), ((xc 22), .int), ((xc 23), .int), ((xc 24), .int), ((xc 25), .int), ((xc 26), .int), ((xc 27), .int), ((xc 28), .int), ((xc 29), .int), ((xc 30), .int), ((xc 31), .int), ((xc 32), .int), ((xc 33), .int), ((xc 34), .object RX10), ((xc 35), .object RX2), ((xc 36), .int), ((xc 37), .int), ((xc 38), .int), ((xc 39), .int), ((xc 40), .int), ((xc 41), .int), ((xc 42), .int), ((xc 43), .int), ((xc 44), .int), ((xc 45), .int), ((xc 46), .long), ((xc 47), .long), ((xc 48), .long), ((xc 49), .int), ((xc 50), .int), ((xc 51), .long), ((xc 52), .long), ((xc 53), .long), ((xc 54), .long), ((xc 55), .int), ((xc 56), .int), ((xc 57), .int), ((xc 58), .int), ((xc 59), .int), ((xc 60), .int), ((xc 61), .int), ((xc 62), .int), ((xc 63), .int), ((xc 64), .int), ((xc 65), .int), ((xc 66), .int)] s := hK
  refine lv_astore_n (lv' := [(1, .ref qx), (0, .ref b)]) hx hb dL_law_7 rfl hl (by decide) rfl (fun ls hl => ?_)
  refine va_new (ci := 11) (fs := [.int 0, .null, .null, .null, .null, .int 0, .int 0, .int 0, .int 0, .int 0, .int 0, .int 0, .int 0, .int 0, .int 0, .null, .null, .null, .int 0, .null, .null, .null, .null, .null, .null, .null, .long 0, .null, .null, .null, .null, .null]) (C := RX12) (T := TX12) (N := 32) hx hb hts hl_wsX120 tyX12 tyX12_ok hown (hts (Cond.classLink RL 10 RX12) wd_1728) (hts (Cond.instantiable RX12 32) wd_1714) (hts (Cond.initialized RX12) wd_27) hK hP hD hS hA rfl (fun j hj => by rcases (show j = 0 ∨ j = 1 ∨ j = 2 ∨ j = 3 ∨ j = 4 ∨ j = 5 ∨ j = 6 ∨ j = 7 ∨ j = 8 ∨ j = 9 ∨ j = 10 ∨ j = 11 ∨ j = 12 ∨ j = 13 ∨ j = 14 ∨ j = 15 ∨ j = 16 ∨ j = 17 ∨ j = 18 ∨ j = 19 ∨ j = 20 ∨ j = 21 ∨ j = 22 ∨ j = 23 ∨ j = 24 ∨ j = 25 ∨ j = 26 ∨ j = 27 ∨ j = 28 ∨ j = 29 ∨ j = 30 ∨ j = 31 by omega) with rfl | rfl | rfl | rfl | rfl | rfl | rfl | rfl | rfl | rfl | rfl | rfl | rfl | rfl | rfl | rfl | rfl | rfl | rfl | rfl | rfl | rfl | rfl | rfl | rfl | rfl | rfl | rfl | rfl | rfl | rfl | rfl <;> rfl) (Nat.le_of_ble_eq_true rfl) (Nat.le_of_ble_eq_true rfl) dL_law_8 (fun qm H hP hD hS => ?_)
  have hP : va_P (dC, dI) vwCl [(qx, .inr (10, [.ref (xa 0), .int 0, .int 0, .int (-1), .ref (xa 1), .ref (xa 6), .ref (xa 11), .ref (xa 14), .ref (xa 17), .ref (xa 49), .ref (xa 50), .ref (xa 51), .ref (xa 54), .ref (xa 60), .ref (xa 61), .ref (xa 68)])), ((xa 0), .inl ((xc 0), 900, .inl (fun _ => 0))), ((xa 1), .inr (6, [.int 0, .int 0, .ref (xa 2), .ref (xa 3), .ref (xa 4), .ref (xa 5), .int 0, .int 0, .int 0, .int 0, .int 0])), ((xa 2), .inl ((xc 1), 6, .inl (fun _ => 0))), ((xa 3), .inl ((xc 2), 6, .inl (fun _ => 0))), ((xa 4), .inl ((xc 3), 6, .inl (fun _ => 0))), ((xa 5), .inl ((xc 4), 900, .inl (fun _ => 0))), ((xa 6), .inr (6, [.int 0, .int 0, .ref (xa 7), .ref (xa 8), .ref (xa 9), .ref (xa 10), .int 0, .int 0, .int 0, .int 0, .int 0])), ((xa 7), .inl ((xc 5), 6, .inl (fun _ => 0))), ((xa 8), .inl ((xc 6), 6, .inl (fun _ => 0))), ((xa 9), .inl ((xc 7), 6, .inl (fun _ => 0))), ((xa 10), .inl ((xc 8), 900, .inl (fun _ => 0))), ((xa 11), .inr (8, [.int 0, .ref (xa 12), .ref (xa 13), .int 0, .int 0, .int 0, .int 0, .int 0, .int 0])), ((xa 12), .inl ((xc 9), 8, .inl (fun _ => 0))), ((xa 13), .inl ((xc 10), 8, .inl (fun _ => 0))), ((xa 14), .inr (8, [.int 0, .ref (xa 15), .ref (xa 16), .int 0, .int 0, .int 0, .int 0, .int 0, .int 0])), ((xa 15), .inl ((xc 11), 8, .inl (fun _ => 0))), ((xa 16), .inl ((xc 12), 8, .inl (fun _ => 0))), ((xa 17), .inr (5, [.ref (xa 18), .int 0, .int 0])), ((xa 18), .inl ((xc 13), 10, .inr (.inr (.inr (.inr (va_up (va_up (va_up (va_up (va_up (va_up (va_up (va_up (va_up (va_up (fun _ => none) 0 (some (xa 19))) 1 (some (xa 22))) 2 (some (xa 25))) 3 (some (xa 28))) 4 (some (xa 31))) 5 (some (xa 34))) 6 (some (xa 37))) 7 (some (xa 40))) 8 (some (xa 43))) 9 (some (xa 46)))))))), ((xa 19), .inr (8, [.int 0, .ref (xa 20), .ref (xa 21), .int 0, .int 0, .int 0, .int 0, .int 0, .int 0])), ((xa 20), .inl ((xc 14), 8, .inl (fun _ => 0))), ((xa 21), .inl ((xc 15), 8, .inl (fun _ => 0))), ((xa 22), .inr (8, [.int 0, .ref (xa 23), .ref (xa 24), .int 0, .int 0, .int 0, .int 0, .int 0, .int 0])), ((xa 23), .inl ((xc 16), 8, .inl (fun _ => 0))), ((xa 24), .inl ((xc 17), 8, .inl (fun _ => 0))), ((xa 25), .inr (8, [.int 0, .ref (xa 26), .ref (xa 27), .int 0, .int 0, .int 0, .int 0, .int 0, .int 0])), ((xa 26), .inl ((xc 18), 8, .inl (fun _ => 0))), ((xa 27), .inl ((xc 19), 8, .inl (fun _ => 0))), ((xa 28), .inr (8, [.int 0, .ref (xa 29), .ref (xa 30), .int 0, .int 0, .int 0, .int 0, .int 0, .int 0])), ((xa 29), .inl ((xc 20), 8, .inl (fun _ => 0))), ((xa 30), .inl ((xc 21), 8, .inl (fun _ => 0))), ((xa 31), .inr (8, [.int 0, .ref (xa 32), .ref (xa 33), .int 0, .int 0, .int 0, .int 0, .int 0, .int 0])), ((xa 32), .inl ((xc 22), 8, .inl (fun _ => 0))), ((xa 33), .inl ((xc 23), 8, .inl (fun _ => 0))), ((xa 34), .inr (8, [.int 0, .ref (xa 35), .ref (xa 36), .int 0, .int 0, .int 0, .int 0, .int 0, .int 0])), ((xa 35), .inl ((xc 24), 8, .inl (fun _ => 0))), ((xa 36), .inl ((xc 25), 8, .inl (fun _ => 0))), ((xa 37), .inr (8, [.int 0, .ref (xa 38), .ref (xa 39), .int 0, .int 0, .int 0, .int 0, .int 0, .int 0])), ((xa 38), .inl ((xc 26), 8, .inl (fun _ => 0))), ((xa 39), .inl ((xc 27), 8, .inl (fun _ => 0))), ((xa 40), .inr (8, [.int 0, .ref (xa 41), .ref (xa 42), .int 0, .int 0, .int 0, .int 0, .int 0, .int 0])), ((xa 41), .inl ((xc 28), 8, .inl (fun _ => 0))), ((xa 42), .inl ((xc 29), 8, .inl (fun _ => 0))), ((xa 43), .inr (8, [.int 0, .ref (xa 44), .ref (xa 45), .int 0, .int 0, .int 0, .int 0, .int 0, .int 0])), ((xa 44), .inl ((xc 30), 8, .inl (fun _ => 0))), ((xa 45), .inl ((xc 31), 8, .inl (fun _ => 0))), ((xa 46), .inr (8, [.int 0, .ref (xa 47), .ref (xa 48), .int 0, .int 0, .int 0, .int 0, .int 0, .int 0])), ((xa 47), .inl ((xc 32), 8, .inl (fun _ => 0))), ((xa 48), .inl ((xc 33), 8, .inl (fun _ => 0))), ((xa 49), .inl ((xc 34), 4, .inr (.inr (.inr (.inr (va_up (va_up (va_up (va_up (fun _ => none) 0 (some (xa 71))) 1 (some (xa 73))) 2 (some (xa 75))) 3 (some (xa 77)))))))), ((xa 50), .inl ((xc 35), 2, .inr (.inr (.inr (.inr (va_up (va_up (fun _ => none) 0 (some (xa 79))) 1 (some (xa 88)))))))), ((xa 51), .inr (7, [.ref (xa 52), .ref (xa 53), .int 0, .ref (xa 6), .ref (xa 14), .int 0, .int (-1)])), ((xa 52), .inl ((xc 36), 901, .inl (fun _ => 0))), ((xa 53), .inl ((xc 37), 901, .inl (fun _ => 0))), ((xa 54), .inr (3, [.ref (xa 55), .ref (xa 56), .ref (xa 57), .ref (xa 58), .ref (xa 59), .ref (xa 1), .int 0])), ((xa 55), .inl ((xc 38), 864, .inl (fun _ => 0))), ((xa 56), .inl ((xc 39), 8, .inl (fun _ => 0))), ((xa 57), .inl ((xc 40), 8, .inl (fun _ => 0))), ((xa 58), .inl ((xc 41), 8, .inl (fun _ => 0))), ((xa 59), .inl ((xc 42), 64, .inl (fun _ => 0))), ((xa 60), .inr (1, [.ref (xa 54)])), ((xa 61), .inr (4, [.ref (xa 54), .ref (xa 62), .ref (xa 63), .ref (xa 64), .ref (xa 65), .ref (xa 66), .ref (xa 67), .long 1, .long 0, .ref (xa 1), .ref (xa 11), .int 0, .int 0, .int 0])), ((xa 62), .inl ((xc 43), 1536, .inl (fun _ => 0))), ((xa 63), .inl ((xc 44), 256, .inl (fun _ => 0))), ((xa 64), .inl ((xc 45), 256, .inl (fun _ => 0))), ((xa 65), .inl ((xc 46), 256, .inr (.inl (fun _ => 0)))), ((xa 66), .inl ((xc 47), 256, .inr (.inl (fun _ => 0)))), ((xa 67), .inl ((xc 48), 6, .inr (.inl (fun _ => 0)))), ((xa 68), .inr (0, [.ref (xa 61), .ref (xa 69), .ref (xa 70), .int 0, .int 0])), ((xa 69), .inl ((xc 49), 256, .inl (fun _ => 0))), ((xa 70), .inl ((xc 50), 10, .inl (fun _ => 0))), ((xa 71), .inr (9, [.ref (xa 72), .int 0, .int (-1)])), ((xa 72), .inl ((xc 51), 40, .inr (.inl (fun _ => 0)))), ((xa 73), .inr (9, [.ref (xa 74), .int 0, .int (-1)])), ((xa 74), .inl ((xc 52), 40, .inr (.inl (fun _ => 0)))), ((xa 75), .inr (9, [.ref (xa 76), .int 0, .int (-1)])), ((xa 76), .inl ((xc 53), 40, .inr (.inl (fun _ => 0)))), ((xa 77), .inr (9, [.ref (xa 78), .int 0, .int (-1)])), ((xa 78), .inl ((xc 54), 40, .inr (.inl (fun _ => 0)))), ((xa 79), .inr (2, [.int 0, .ref (xa 80), .ref (xa 85)])), ((xa 80), .inr (6, [.int 0, .int 0, .ref (xa 81), .ref (xa 82), .ref (xa 83), .ref (xa 84), .int 0, .int 0, .int 0, .int 0, .int 0])), ((xa 81), .inl ((xc 55), 6, .inl (fun _ => 0))), ((xa 82), .inl ((xc 56), 6, .inl (fun _ => 0))), ((xa 83), .inl ((xc 57), 6, .inl (fun _ => 0))), ((xa 84), .inl ((xc 58), 900, .inl (fun _ => 0))), ((xa 85), .inr (8, [.int 0, .ref (xa 86), .ref (xa 87), .int 0, .int 0, .int 0, .int 0, .int 0, .int 0])), ((xa 86), .inl ((xc 59), 8, .inl (fun _ => 0))), ((xa 87), .inl ((xc 60), 8, .inl (fun _ => 0))), ((xa 88), .inr (2, [.int 0, .ref (xa 89), .ref (xa 94)])), ((xa 89), .inr (6, [.int 0, .int 0, .ref (xa 90), .ref (xa 91), .ref (xa 92), .ref (xa 93), .int 0, .int 0, .int 0, .int 0, .int 0])), ((xa 90), .inl ((xc 61), 6, .inl (fun _ => 0))), ((xa 91), .inl ((xc 62), 6, .inl (fun _ => 0))), ((xa 92), .inl ((xc 63), 6, .inl (fun _ => 0))), ((xa 93), .inl ((xc 64), 900, .inl (fun _ => 0))), ((xa 94), .inr (8, [.int 0, .ref (xa 95), .ref (xa 96), .int 0, .int 0, .int 0, .int 0, .int 0, .int 0])), ((xa 95), .inl ((xc 65), 8, .inl (fun _ => 0))), ((xa 96), .inl ((xc 66), 8, .inl (fun _ => 0))), (qm, .inr (11, [.int 0, .null, .null, .null, .null, .int 0, .int 0, .int 0, .int 0, .int 0, .int 0, .int 0, .int 0, .int 0, .int 0, .null, .null, .null, .int 0, .null, .null, .null, .null, .null, .null, .null, .long 0, .null, .null, .null, .null, .null]))] H := hP
  have hD : va_D (fun q : Nat => s.heap.size ≤ q) [(qx, .inr (10, [.ref (xa 0), .int 0, .int 0, .int (-1), .ref (xa 1), .ref (xa 6), .ref (xa 11), .ref (xa 14), .ref (xa 17), .ref (xa 49), .ref (xa 50), .ref (xa 51), .ref (xa 54), .ref (xa 60), .ref (xa 61), .ref (xa 68)])), ((xa 0), .inl ((xc 0), 900, .inl (fun _ => 0))), ((xa 1), .inr (6, [.int 0, .int 0, .ref (xa 2), .ref (xa 3), .ref (xa 4), .ref (xa 5), .int 0, .int 0, .int 0, .int 0, .int 0])), ((xa 2), .inl ((xc 1), 6, .inl (fun _ => 0))), ((xa 3), .inl ((xc 2), 6, .inl (fun _ => 0))), ((xa 4), .inl ((xc 3), 6, .inl (fun _ => 0))), ((xa 5), .inl ((xc 4), 900, .inl (fun _ => 0))), ((xa 6), .inr (6, [.int 0, .int 0, .ref (xa 7), .ref (xa 8), .ref (xa 9), .ref (xa 10), .int 0, .int 0, .int 0, .int 0, .int 0])), ((xa 7), .inl ((xc 5), 6, .inl (fun _ => 0))), ((xa 8), .inl ((xc 6), 6, .inl (fun _ => 0))), ((xa 9), .inl ((xc 7), 6, .inl (fun _ => 0))), ((xa 10), .inl ((xc 8), 900, .inl (fun _ => 0))), ((xa 11), .inr (8, [.int 0, .ref (xa 12), .ref (xa 13), .int 0, .int 0, .int 0, .int 0, .int 0, .int 0])), ((xa 12), .inl ((xc 9), 8, .inl (fun _ => 0))), ((xa 13), .inl ((xc 10), 8, .inl (fun _ => 0))), ((xa 14), .inr (8, [.int 0, .ref (xa 15), .ref (xa 16), .int 0, .int 0, .int 0, .int 0, .int 0, .int 0])), ((xa 15), .inl ((xc 11), 8, .inl (fun _ => 0))), ((xa 16), .inl ((xc 12), 8, .inl (fun _ => 0))), ((xa 17), .inr (5, [.ref (xa 18), .int 0, .int 0])), ((xa 18), .inl ((xc 13), 10, .inr (.inr (.inr (.inr (va_up (va_up (va_up (va_up (va_up (va_up (va_up (va_up (va_up (va_up (fun _ => none) 0 (some (xa 19))) 1 (some (xa 22))) 2 (some (xa 25))) 3 (some (xa 28))) 4 (some (xa 31))) 5 (some (xa 34))) 6 (some (xa 37))) 7 (some (xa 40))) 8 (some (xa 43))) 9 (some (xa 46)))))))), ((xa 19), .inr (8, [.int 0, .ref (xa 20), .ref (xa 21), .int 0, .int 0, .int 0, .int 0, .int 0, .int 0])), ((xa 20), .inl ((xc 14), 8, .inl (fun _ => 0))), ((xa 21), .inl ((xc 15), 8, .inl (fun _ => 0))), ((xa 22), .inr (8, [.int 0, .ref (xa 23), .ref (xa 24), .int 0, .int 0, .int 0, .int 0, .int 0, .int 0])), ((xa 23), .inl ((xc 16), 8, .inl (fun _ => 0))), ((xa 24), .inl ((xc 17), 8, .inl (fun _ => 0))), ((xa 25), .inr (8, [.int 0, .ref (xa 26), .ref (xa 27), .int 0, .int 0, .int 0, .int 0, .int 0, .int 0])), ((xa 26), .inl ((xc 18), 8, .inl (fun _ => 0))), ((xa 27), .inl ((xc 19), 8, .inl (fun _ => 0))), ((xa 28), .inr (8, [.int 0, .ref (xa 29), .ref (xa 30), .int 0, .int 0, .int 0, .int 0, .int 0, .int 0])), ((xa 29), .inl ((xc 20), 8, .inl (fun _ => 0))), ((xa 30), .inl ((xc 21), 8, .inl (fun _ => 0))), ((xa 31), .inr (8, [.int 0, .ref (xa 32), .ref (xa 33), .int 0, .int 0, .int 0, .int 0, .int 0, .int 0])), ((xa 32), .inl ((xc 22), 8, .inl (fun _ => 0))), ((xa 33), .inl ((xc 23), 8, .inl (fun _ => 0))), ((xa 34), .inr (8, [.int 0, .ref (xa 35), .ref (xa 36), .int 0, .int 0, .int 0, .int 0, .int 0, .int 0])), ((xa 35), .inl ((xc 24), 8, .inl (fun _ => 0))), ((xa 36), .inl ((xc 25), 8, .inl (fun _ => 0))), ((xa 37), .inr (8, [.int 0, .ref (xa 38), .ref (xa 39), .int 0, .int 0, .int 0, .int 0, .int 0, .int 0])), ((xa 38), .inl ((xc 26), 8, .inl (fun _ => 0))), ((xa 39), .inl ((xc 27), 8, .inl (fun _ => 0))), ((xa 40), .inr (8, [.int 0, .ref (xa 41), .ref (xa 42), .int 0, .int 0, .int 0, .int 0, .int 0, .int 0])), ((xa 41), .inl ((xc 28), 8, .inl (fun _ => 0))), ((xa 42), .inl ((xc 29), 8, .inl (fun _ => 0))), ((xa 43), .inr (8, [.int 0, .ref (xa 44), .ref (xa 45), .int 0, .int 0, .int 0, .int 0, .int 0, .int 0])), ((xa 44), .inl ((xc 30), 8, .inl (fun _ => 0))), ((xa 45), .inl ((xc 31), 8, .inl (fun _ => 0))), ((xa 46), .inr (8, [.int 0, .ref (xa 47), .ref (xa 48), .int 0, .int 0, .int 0, .int 0, .int 0, .int 0])), ((xa 47), .inl ((xc 32), 8, .inl (fun _ => 0))), ((xa 48), .inl ((xc 33), 8, .inl (fun _ => 0))), ((xa 49), .inl ((xc 34), 4, .inr (.inr (.inr (.inr (va_up (va_up (va_up (va_up (fun _ => none) 0 (some (xa 71))) 1 (some (xa 73))) 2 (some (xa 75))) 3 (some (xa 77)))))))), ((xa 50), .inl ((xc 35), 2, .inr (.inr (.inr (.inr (va_up (va_up (fun _ => none) 0 (some (xa 79))) 1 (some (xa 88)))))))), ((xa 51), .inr (7, [.ref (xa 52), .ref (xa 53), .int 0, .ref (xa 6), .ref (xa 14), .int 0, .int (-1)])), ((xa 52), .inl ((xc 36), 901, .inl (fun _ => 0))), ((xa 53), .inl ((xc 37), 901, .inl (fun _ => 0))), ((xa 54), .inr (3, [.ref (xa 55), .ref (xa 56), .ref (xa 57), .ref (xa 58), .ref (xa 59), .ref (xa 1), .int 0])), ((xa 55), .inl ((xc 38), 864, .inl (fun _ => 0))), ((xa 56), .inl ((xc 39), 8, .inl (fun _ => 0))), ((xa 57), .inl ((xc 40), 8, .inl (fun _ => 0))), ((xa 58), .inl ((xc 41), 8, .inl (fun _ => 0))), ((xa 59), .inl ((xc 42), 64, .inl (fun _ => 0))), ((xa 60), .inr (1, [.ref (xa 54)])), ((xa 61), .inr (4, [.ref (xa 54), .ref (xa 62), .ref (xa 63), .ref (xa 64), .ref (xa 65), .ref (xa 66), .ref (xa 67), .long 1, .long 0, .ref (xa 1), .ref (xa 11), .int 0, .int 0, .int 0])), ((xa 62), .inl ((xc 43), 1536, .inl (fun _ => 0))), ((xa 63), .inl ((xc 44), 256, .inl (fun _ => 0))), ((xa 64), .inl ((xc 45), 256, .inl (fun _ => 0))), ((xa 65), .inl ((xc 46), 256, .inr (.inl (fun _ => 0)))), ((xa 66), .inl ((xc 47), 256, .inr (.inl (fun _ => 0)))), ((xa 67), .inl ((xc 48), 6, .inr (.inl (fun _ => 0)))), ((xa 68), .inr (0, [.ref (xa 61), .ref (xa 69), .ref (xa 70), .int 0, .int 0])), ((xa 69), .inl ((xc 49), 256, .inl (fun _ => 0))), ((xa 70), .inl ((xc 50), 10, .inl (fun _ => 0))), ((xa 71), .inr (9, [.ref (xa 72), .int 0, .int (-1)])), ((xa 72), .inl ((xc 51), 40, .inr (.inl (fun _ => 0)))), ((xa 73), .inr (9, [.ref (xa 74), .int 0, .int (-1)])), ((xa 74), .inl ((xc 52), 40, .inr (.inl (fun _ => 0)))), ((xa 75), .inr (9, [.ref (xa 76), .int 0, .int (-1)])), ((xa 76), .inl ((xc 53), 40, .inr (.inl (fun _ => 0)))), ((xa 77), .inr (9, [.ref (xa 78), .int 0, .int (-1)])), ((xa 78), .inl ((xc 54), 40, .inr (.inl (fun _ => 0)))), ((xa 79), .inr (2, [.int 0, .ref (xa 80), .ref (xa 85)])), ((xa 80), .inr (6, [.int 0, .int 0, .ref (xa 81), .ref (xa 82), .ref (xa 83), .ref (xa 84), .int 0, .int 0, .int 0, .int 0, .int 0])), ((xa 81), .inl ((xc 55), 6, .inl (fun _ => 0))), ((xa 82), .inl ((xc 56), 6, .inl (fun _ => 0))), ((xa 83), .inl ((xc 57), 6, .inl (fun _ => 0))), ((xa 84), .inl ((xc 58), 900, .inl (fun _ => 0))), ((xa 85), .inr (8, [.int 0, .ref (xa 86), .ref (xa 87), .int 0, .int 0, .int 0, .int 0, .int 0, .int 0])), ((xa 86), .inl ((xc 59), 8, .inl (fun _ => 0))), ((xa 87), .inl ((xc 60), 8, .inl (fun _ => 0))), ((xa 88), .inr (2, [.int 0, .ref (xa 89), .ref (xa 94)])), ((xa 89), .inr (6, [.int 0, .int 0, .ref (xa 90), .ref (xa 91), .ref (xa 92), .ref (xa 93), .int 0, .int 0, .int 0, .int 0, .int 0])), ((xa 90), .inl ((xc 61), 6, .inl (fun _ => 0))), ((xa 91), .inl ((xc 62), 6, .inl (fun _ => 0))), ((xa 92), .inl ((xc 63), 6, .inl (fun _ => 0))), ((xa 93), .inl ((xc 64), 900, .inl (fun _ => 0))), ((xa 94), .inr (8, [.int 0, .ref (xa 95), .ref (xa 96), .int 0, .int 0, .int 0, .int 0, .int 0, .int 0])), ((xa 95), .inl ((xc 65), 8, .inl (fun _ => 0))), ((xa 96), .inl ((xc 66), 8, .inl (fun _ => 0))), (qm, .inr (11, [.int 0, .null, .null, .null, .null, .int 0, .int 0, .int 0, .int 0, .int 0, .int 0, .int 0, .int 0, .int 0, .int 0, .null, .null, .null, .int 0, .null, .null, .null, .null, .null, .null, .null, .long 0, .null, .null, .null, .null, .null]))] := hD
  refine lv_dup hx hb dL_law_11 rfl ?_
  have hPc := hP.sub (ws' := [(qm, .inr (11, [.int 0, .null, .null, .null, .null, .int 0, .int 0, .int 0, .int 0, .int 0, .int 0, .int 0, .int 0, .int 0, .int 0, .null, .null, .null, .int 0, .null, .null, .null, .null, .null, .null, .null, .long 0, .null, .null, .null, .null, .null]))]) [98] rfl
  have hDc := hD.sub (ws' := [(qm, .inr (11, [.int 0, .null, .null, .null, .null, .int 0, .int 0, .int 0, .int 0, .int 0, .int 0, .int 0, .int 0, .int 0, .int 0, .null, .null, .null, .int 0, .null, .null, .null, .null, .null, .null, .null, .long 0, .null, .null, .null, .null, .null]))]) [98] (by decide) rfl
  have hKc2 := hK.sub (tys' := []) [] rfl
  have hFc := va_free (wc := [(qm, .inr (11, [.int 0, .null, .null, .null, .null, .int 0, .int 0, .int 0, .int 0, .int 0, .int 0, .int 0, .int 0, .int 0, .int 0, .null, .null, .null, .int 0, .null, .null, .null, .null, .null, .null, .null, .long 0, .null, .null, .null, .null, .null]))]) hD hS hA [98] rfl
  refine va_callv (va_runI (As := []) (rest := [.ref qm]) ⟨hx, hb, hml, hown, hts⟩ (c_X12_init l dC dI qm H.size) (cwI 0 hts gi_X12 rfl rfl rfl (hts (Cond.initialized RX12) wd_27) (hts (Cond.methodLink RL 12 yX12_init) wd_1729) (hts (Cond.instanceMethod yX12_init) wd_1730) rfl (by decide +kernel) ⟨(Nat.le_of_ble_eq_true rfl), (Nat.le_of_ble_eq_true rfl)⟩) ⟨fun a U g mk q => by obtain ⟨q0, q1, qP, qK, qD⟩ := q; exact ⟨q0, q1, qP, va_K.moved (u := U) (U := U.calling g mk a) (Vm.Alike.refl U.vm) qK, qD⟩, fun U hU hW => ⟨rfl, by rw [hU], by rw [hU]; exact hPc, va_K.moved hW.alike hKc2, hDc.weaken (fun _ _ _ _ => trivial)⟩⟩ rfl rfl hl.1 rfl (lv_room (Nat.le_of_ble_eq_true rfl)) dL_law_12 ⟨(Nat.le_of_ble_eq_true rfl), (Nat.le_of_ble_eq_true rfl)⟩) hS (fun q _ h => hFc q h) hFc (fun u t H1 locs ht hvm hw hB hz1 hk1 hS => ?_)
  obtain ⟨mxa, mxc, hP1, hK1, hD1⟩ := hB
  rw [ht] at hP1
  have hK1 := va_K.moved hvm.symm hK1
  obtain ⟨hP, hD⟩ := va_join (wr := [(qx, .inr (10, [.ref (xa 0), .int 0, .int 0, .int (-1), .ref (xa 1), .ref (xa 6), .ref (xa 11), .ref (xa 14), .ref (xa 17), .ref (xa 49), .ref (xa 50), .ref (xa 51), .ref (xa 54), .ref (xa 60), .ref (xa 61), .ref (xa 68)])), ((xa 0), .inl ((xc 0), 900, .inl (fun _ => 0))), ((xa 1), .inr (6, [.int 0, .int 0, .ref (xa 2), .ref (xa 3), .ref (xa 4), .ref (xa 5), .int 0, .int 0, .int 0, .int 0, .int 0])), ((xa 2), .inl ((xc 1), 6, .inl (fun _ => 0))), ((xa 3), .inl ((xc 2), 6, .inl (fun _ => 0))), ((xa 4), .inl ((xc 3), 6, .inl (fun _ => 0))), ((xa 5), .inl ((xc 4), 900, .inl (fun _ => 0))), ((xa 6), .inr (6, [.int 0, .int 0, .ref (xa 7), .ref (xa 8), .ref (xa 9), .ref (xa 10), .int 0, .int 0, .int 0, .int 0, .int 0])), ((xa 7), .inl ((xc 5), 6, .inl (fun _ => 0))), ((xa 8), .inl ((xc 6), 6, .inl (fun _ => 0))), ((xa 9), .inl ((xc 7), 6, .inl (fun _ => 0))), ((xa 10), .inl ((xc 8), 900, .inl (fun _ => 0))), ((xa 11), .inr (8, [.int 0, .ref (xa 12), .ref (xa 13), .int 0, .int 0, .int 0, .int 0, .int 0, .int 0])), ((xa 12), .inl ((xc 9), 8, .inl (fun _ => 0))), ((xa 13), .inl ((xc 10), 8, .inl (fun _ => 0))), ((xa 14), .inr (8, [.int 0, .ref (xa 15), .ref (xa 16), .int 0, .int 0, .int 0, .int 0, .int 0, .int 0])), ((xa 15), .inl ((xc 11), 8, .inl (fun _ => 0))), ((xa 16), .inl ((xc 12), 8, .inl (fun _ => 0))), ((xa 17), .inr (5, [.ref (xa 18), .int 0, .int 0])), ((xa 18), .inl ((xc 13), 10, .inr (.inr (.inr (.inr (va_up (va_up (va_up (va_up (va_up (va_up (va_up (va_up (va_up (va_up (fun _ => none) 0 (some (xa 19))) 1 (some (xa 22))) 2 (some (xa 25))) 3 (some (xa 28))) 4 (some (xa 31))) 5 (some (xa 34))) 6 (some (xa 37))) 7 (some (xa 40))) 8 (some (xa 43))) 9 (some (xa 46)))))))), ((xa 19), .inr (8, [.int 0, .ref (xa 20), .ref (xa 21), .int 0, .int 0, .int 0, .int 0, .int 0, .int 0])), ((xa 20), .inl ((xc 14), 8, .inl (fun _ => 0))), ((xa 21), .inl ((xc 15), 8, .inl (fun _ => 0))), ((xa 22), .inr (8, [.int 0, .ref (xa 23), .ref (xa 24), .int 0, .int 0, .int 0, .int 0, .int 0, .int 0])), ((xa 23), .inl ((xc 16), 8, .inl (fun _ => 0))), ((xa 24), .inl ((xc 17), 8, .inl (fun _ => 0))), ((xa 25), .inr (8, [.int 0, .ref (xa 26), .ref (xa 27), .int 0, .int 0, .int 0, .int 0, .int 0, .int 0])), ((xa 26), .inl ((xc 18), 8, .inl (fun _ => 0))), ((xa 27), .inl ((xc 19), 8, .inl (fun _ => 0))), ((xa 28), .inr (8, [.int 0, .ref (xa 29), .ref (xa 30), .int 0, .int 0, .int 0, .int 0, .int 0, .int 0])), ((xa 29), .inl ((xc 20), 8, .inl (fun _ => 0))), ((xa 30), .inl ((xc 21), 8, .inl (fun _ => 0))), ((xa 31), .inr (8, [.int 0, .ref (xa 32), .ref (xa 33), .int 0, .int 0, .int 0, .int 0, .int 0, .int 0])), ((xa 32), .inl ((xc 22), 8, .inl (fun _ => 0))), ((xa 33), .inl ((xc 23), 8, .inl (fun _ => 0))), ((xa 34), .inr (8, [.int 0, .ref (xa 35), .ref (xa 36), .int 0, .int 0, .int 0, .int 0, .int 0, .int 0])), ((xa 35), .inl ((xc 24), 8, .inl (fun _ => 0))), ((xa 36), .inl ((xc 25), 8, .inl (fun _ => 0))), ((xa 37), .inr (8, [.int 0, .ref (xa 38), .ref (xa 39), .int 0, .int 0, .int 0, .int 0, .int 0, .int 0])), ((xa 38), .inl ((xc 26), 8, .inl (fun _ => 0))), ((xa 39), .inl ((xc 27), 8, .inl (fun _ => 0))), ((xa 40), .inr (8, [.int 0, .ref (xa 41), .ref (xa 42), .int 0, .int 0, .int 0, .int 0, .int 0, .int 0])), ((xa 41), .inl ((xc 28), 8, .inl (fun _ => 0))), ((xa 42), .inl ((xc 29), 8, .inl (fun _ => 0))), ((xa 43), .inr (8, [.int 0, .ref (xa 44), .ref (xa 45), .int 0, .int 0, .int 0, .int 0, .int 0, .int 0])), ((xa 44), .inl ((xc 30), 8, .inl (fun _ => 0))), ((xa 45), .inl ((xc 31), 8, .inl (fun _ => 0))), ((xa 46), .inr (8, [.int 0, .ref (xa 47), .ref (xa 48), .int 0, .int 0, .int 0, .int 0, .int 0, .int 0])), ((xa 47), .inl ((xc 32), 8, .inl (fun _ => 0))), ((xa 48), .inl ((xc 33), 8, .inl (fun _ => 0))), ((xa 49), .inl ((xc 34), 4, .inr (.inr (.inr (.inr (va_up (va_up (va_up (va_up (fun _ => none) 0 (some (xa 71))) 1 (some (xa 73))) 2 (some (xa 75))) 3 (some (xa 77)))))))), ((xa 50), .inl ((xc 35), 2, .inr (.inr (.inr (.inr (va_up (va_up (fun _ => none) 0 (some (xa 79))) 1 (some (xa 88)))))))), ((xa 51), .inr (7, [.ref (xa 52), .ref (xa 53), .int 0, .ref (xa 6), .ref (xa 14), .int 0, .int (-1)])), ((xa 52), .inl ((xc 36), 901, .inl (fun _ => 0))), ((xa 53), .inl ((xc 37), 901, .inl (fun _ => 0))), ((xa 54), .inr (3, [.ref (xa 55), .ref (xa 56), .ref (xa 57), .ref (xa 58), .ref (xa 59), .ref (xa 1), .int 0])), ((xa 55), .inl ((xc 38), 864, .inl (fun _ => 0))), ((xa 56), .inl ((xc 39), 8, .inl (fun _ => 0))), ((xa 57), .inl ((xc 40), 8, .inl (fun _ => 0))), ((xa 58), .inl ((xc 41), 8, .inl (fun _ => 0))), ((xa 59), .inl ((xc 42), 64, .inl (fun _ => 0))), ((xa 60), .inr (1, [.ref (xa 54)])), ((xa 61), .inr (4, [.ref (xa 54), .ref (xa 62), .ref (xa 63), .ref (xa 64), .ref (xa 65), .ref (xa 66), .ref (xa 67), .long 1, .long 0, .ref (xa 1), .ref (xa 11), .int 0, .int 0, .int 0])), ((xa 62), .inl ((xc 43), 1536, .inl (fun _ => 0))), ((xa 63), .inl ((xc 44), 256, .inl (fun _ => 0))), ((xa 64), .inl ((xc 45), 256, .inl (fun _ => 0))), ((xa 65), .inl ((xc 46), 256, .inr (.inl (fun _ => 0)))), ((xa 66), .inl ((xc 47), 256, .inr (.inl (fun _ => 0)))), ((xa 67), .inl ((xc 48), 6, .inr (.inl (fun _ => 0)))), ((xa 68), .inr (0, [.ref (xa 61), .ref (xa 69), .ref (xa 70), .int 0, .int 0])), ((xa 69), .inl ((xc 49), 256, .inl (fun _ => 0))), ((xa 70), .inl ((xc 50), 10, .inl (fun _ => 0))), ((xa 71), .inr (9, [.ref (xa 72), .int 0, .int (-1)])), ((xa 72), .inl ((xc 51), 40, .inr (.inl (fun _ => 0)))), ((xa 73), .inr (9, [.ref (xa 74), .int 0, .int (-1)])), ((xa 74), .inl ((xc 52), 40, .inr (.inl (fun _ => 0)))), ((xa 75), .inr (9, [.ref (xa 76), .int 0, .int (-1)])), ((xa 76), .inl ((xc 53), 40, .inr (.inl (fun _ => 0)))), ((xa 77), .inr (9, [.ref (xa 78), .int 0, .int (-1)])), ((xa 78), .inl ((xc 54), 40, .inr (.inl (fun _ => 0)))), ((xa 79), .inr (2, [.int 0, .ref (xa 80), .ref (xa 85)])), ((xa 80), .inr (6, [.int 0, .int 0, .ref (xa 81), .ref (xa 82), .ref (xa 83), .ref (xa 84), .int 0, .int 0, .int 0, .int 0, .int 0])), ((xa 81), .inl ((xc 55), 6, .inl (fun _ => 0))), ((xa 82), .inl ((xc 56), 6, .inl (fun _ => 0))), ((xa 83), .inl ((xc 57), 6, .inl (fun _ => 0))), ((xa 84), .inl ((xc 58), 900, .inl (fun _ => 0))), ((xa 85), .inr (8, [.int 0, .ref (xa 86), .ref (xa 87), .int 0, .int 0, .int 0, .int 0, .int 0, .int 0])), ((xa 86), .inl ((xc 59), 8, .inl (fun _ => 0))), ((xa 87), .inl ((xc 60), 8, .inl (fun _ => 0))), ((xa 88), .inr (2, [.int 0, .ref (xa 89), .ref (xa 94)])), ((xa 89), .inr (6, [.int 0, .int 0, .ref (xa 90), .ref (xa 91), .ref (xa 92), .ref (xa 93), .int 0, .int 0, .int 0, .int 0, .int 0])), ((xa 90), .inl ((xc 61), 6, .inl (fun _ => 0))), ((xa 91), .inl ((xc 62), 6, .inl (fun _ => 0))), ((xa 92), .inl ((xc 63), 6, .inl (fun _ => 0))), ((xa 93), .inl ((xc 64), 900, .inl (fun _ => 0))), ((xa 94), .inr (8, [.int 0, .ref (xa 95), .ref (xa 96), .int 0, .int 0, .int 0, .int 0, .int 0, .int 0])), ((xa 95), .inl ((xc 65), 8, .inl (fun _ => 0))), ((xa 96), .inl ((xc 66), 8, .inl (fun _ => 0)))]) (w1 := [(qm, .inr (11, [.int 0, .ref (mxa 0), .ref (mxa 1), .ref (mxa 2), .ref (mxa 3), .int 0, .int 0, .int 0, .int 0, .int 0, .int 0, .int 0, .int 0, .int 0, .int (-1), .ref (mxa 4), .ref (mxa 5), .ref (mxa 6), .int 0, .ref (mxa 7), .ref (mxa 8), .ref (mxa 9), .ref (mxa 10), .ref (mxa 11), .ref (mxa 12), .ref (mxa 13), .long 0, .ref (mxa 14), .ref (mxa 15), .ref (mxa 16), .ref (mxa 17), .ref (mxa 18)])), ((mxa 1), .inl ((mxc 1), 2, .inl (fun _ => 0))), ((mxa 2), .inl ((mxc 2), 900, .inl (fun _ => 0))), ((mxa 3), .inl ((mxc 3), 1181, .inl (fun _ => 0))), ((mxa 4), .inl ((mxc 4), 900, .inl (fun _ => 0))), ((mxa 5), .inl ((mxc 5), 8, .inl (fun _ => 0))), ((mxa 6), .inl ((mxc 6), 23, .inl (fun _ => 0))), ((mxa 7), .inl ((mxc 7), 1536, .inl (fun _ => 0))), ((mxa 8), .inl ((mxc 8), 256, .inl (fun _ => 0))), ((mxa 9), .inl ((mxc 9), 256, .inl (fun _ => 0))), ((mxa 10), .inl ((mxc 10), 256, .inl (fun _ => 0))), ((mxa 11), .inl ((mxc 11), 256, .inr (.inl (fun _ => 0)))), ((mxa 12), .inl ((mxc 12), 256, .inr (.inl (fun _ => 0)))), ((mxa 13), .inl ((mxc 13), 6, .inr (.inl (fun _ => 0)))), ((mxa 14), .inl ((mxc 14), 256, .inl (fun _ => 0))), ((mxa 15), .inl ((mxc 15), 9, .inl (fun _ => 0))), ((mxa 16), .inl ((mxc 16), 4, .inl (upd (upd (upd (upd (fun _ => 0) 0 (-1)) 1 (-1)) 2 (-1)) 3 (-1)))), ((mxa 17), .inl ((mxc 17), 4, .inl (fun _ => 0))), ((mxa 18), .inl ((mxc 18), 160, .inr (.inl (fun _ => 0)))), ((mxa 0), .inl ((mxc 0), 3543, .inl (fun _ => 0)))]) hP hD [98] [0, 1, 2, 3, 4, 5, 6, 7, 8, 9, 10, 11, 12, 13, 14, 15, 16, 17, 18, 19, 20, 21, 22, 23, 24, 25, 26, 27, 28, 29, 30, 31, 32, 33, 34, 35, 36, 37, 38, 39, 40, 41, 42, 43, 44, 45, 46, 47, 48, 49, 50, 51, 52, 53, 54, 55, 56, 57, 58, 59, 60, 61, 62, 63, 64, 65, 66, 67, 68, 69, 70, 71, 72, 73, 74, 75, 76, 77, 78, 79, 80, 81, 82, 83, 84, 85, 86, 87, 88, 89, 90, 91, 92, 93, 94, 95, 96, 97] rfl rfl (by decide) (by decide) hk1 hFc hP1 hD1
  have hK := hK.app hK1
  generalize H1 = H at hP hS ⊢
  have hP : va_P (dC, dI) vwCl [(qx, .inr (10, [.ref (xa 0), .int 0, .int 0, .int (-1), .ref (xa 1), .ref (xa 6), .ref (xa 11), .ref (xa 14), .ref (xa 17), .ref (xa 49), .ref (xa 50), .ref (xa 51), .ref (xa 54), .ref (xa 60), .ref (xa 61), .ref (xa 68)])), ((xa 0), .inl ((xc 0), 900, .inl (fun _ => 0))), ((xa 1), .inr (6, [.int 0, .int 0, .ref (xa 2), .ref (xa 3), .ref (xa 4), .ref (xa 5), .int 0, .int 0, .int 0, .int 0, .int 0])), ((xa 2), .inl ((xc 1), 6, .inl (fun _ => 0))), ((xa 3), .inl ((xc 2), 6, .inl (fun _ => 0))), ((xa 4), .inl ((xc 3), 6, .inl (fun _ => 0))), ((xa 5), .inl ((xc 4), 900, .inl (fun _ => 0))), ((xa 6), .inr (6, [.int 0, .int 0, .ref (xa 7), .ref (xa 8), .ref (xa 9), .ref (xa 10), .int 0, .int 0, .int 0, .int 0, .int 0])), ((xa 7), .inl ((xc 5), 6, .inl (fun _ => 0))), ((xa 8), .inl ((xc 6), 6, .inl (fun _ => 0))), ((xa 9), .inl ((xc 7), 6, .inl (fun _ => 0))), ((xa 10), .inl ((xc 8), 900, .inl (fun _ => 0))), ((xa 11), .inr (8, [.int 0, .ref (xa 12), .ref (xa 13), .int 0, .int 0, .int 0, .int 0, .int 0, .int 0])), ((xa 12), .inl ((xc 9), 8, .inl (fun _ => 0))), ((xa 13), .inl ((xc 10), 8, .inl (fun _ => 0))), ((xa 14), .inr (8, [.int 0, .ref (xa 15), .ref (xa 16), .int 0, .int 0, .int 0, .int 0, .int 0, .int 0])), ((xa 15), .inl ((xc 11), 8, .inl (fun _ => 0))), ((xa 16), .inl ((xc 12), 8, .inl (fun _ => 0))), ((xa 17), .inr (5, [.ref (xa 18), .int 0, .int 0])), ((xa 18), .inl ((xc 13), 10, .inr (.inr (.inr (.inr (va_up (va_up (va_up (va_up (va_up (va_up (va_up (va_up (va_up (va_up (fun _ => none) 0 (some (xa 19))) 1 (some (xa 22))) 2 (some (xa 25))) 3 (some (xa 28))) 4 (some (xa 31))) 5 (some (xa 34))) 6 (some (xa 37))) 7 (some (xa 40))) 8 (some (xa 43))) 9 (some (xa 46)))))))), ((xa 19), .inr (8, [.int 0, .ref (xa 20), .ref (xa 21), .int 0, .int 0, .int 0, .int 0, .int 0, .int 0])), ((xa 20), .inl ((xc 14), 8, .inl (fun _ => 0))), ((xa 21), .inl ((xc 15), 8, .inl (fun _ => 0))), ((xa 22), .inr (8, [.int 0, .ref (xa 23), .ref (xa 24), .int 0, .int 0, .int 0, .int 0, .int 0, .int 0])), ((xa 23), .inl ((xc 16), 8, .inl (fun _ => 0))), ((xa 24), .inl ((xc 17), 8, .inl (fun _ => 0))), ((xa 25), .inr (8, [.int 0, .ref (xa 26), .ref (xa 27), .int 0, .int 0, .int 0, .int 0, .int 0, .int 0])), ((xa 26), .inl ((xc 18), 8, .inl (fun _ => 0))), ((xa 27), .inl ((xc 19), 8, .inl (fun _ => 0))), ((xa 28), .inr (8, [.int 0, .ref (xa 29), .ref (xa 30), .int 0, .int 0, .int 0, .int 0, .int 0, .int 0])), ((xa 29), .inl ((xc 20), 8, .inl (fun _ => 0))), ((xa 30), .inl ((xc 21), 8, .inl (fun _ => 0))), ((xa 31), .inr (8, [.int 0, .ref (xa 32), .ref (xa 33), .int 0, .int 0, .int 0, .int 0, .int 0, .int 0])), ((xa 32), .inl ((xc 22), 8, .inl (fun _ => 0))), ((xa 33), .inl ((xc 23), 8, .inl (fun _ => 0))), ((xa 34), .inr (8, [.int 0, .ref (xa 35), .ref (xa 36), .int 0, .int 0, .int 0, .int 0, .int 0, .int 0])), ((xa 35), .inl ((xc 24), 8, .inl (fun _ => 0))), ((xa 36), .inl ((xc 25), 8, .inl (fun _ => 0))), ((xa 37), .inr (8, [.int 0, .ref (xa 38), .ref (xa 39), .int 0, .int 0, .int 0, .int 0, .int 0, .int 0])), ((xa 38), .inl ((xc 26), 8, .inl (fun _ => 0))), ((xa 39), .inl ((xc 27), 8, .inl (fun _ => 0))), ((xa 40), .inr (8, [.int 0, .ref (xa 41), .ref (xa 42), .int 0, .int 0, .int 0, .int 0, .int 0, .int 0])), ((xa 41), .inl ((xc 28), 8, .inl (fun _ => 0))), ((xa 42), .inl ((xc 29), 8, .inl (fun _ => 0))), ((xa 43), .inr (8, [.int 0, .ref (xa 44), .ref (xa 45), .int 0, .int 0, .int 0, .int 0, .int 0, .int 0])), ((xa 44), .inl ((xc 30), 8, .inl (fun _ => 0))), ((xa 45), .inl ((xc 31), 8, .inl (fun _ => 0))), ((xa 46), .inr (8, [.int 0, .ref (xa 47), .ref (xa 48), .int 0, .int 0, .int 0, .int 0, .int 0, .int 0])), ((xa 47), .inl ((xc 32), 8, .inl (fun _ => 0))), ((xa 48), .inl ((xc 33), 8, .inl (fun _ => 0))), ((xa 49), .inl ((xc 34), 4, .inr (.inr (.inr (.inr (va_up (va_up (va_up (va_up (fun _ => none) 0 (some (xa 71))) 1 (some (xa 73))) 2 (some (xa 75))) 3 (some (xa 77)))))))), ((xa 50), .inl ((xc 35), 2, .inr (.inr (.inr (.inr (va_up (va_up (fun _ => none) 0 (some (xa 79))) 1 (some (xa 88)))))))), ((xa 51), .inr (7, [.ref (xa 52), .ref (xa 53), .int 0, .ref (xa 6), .ref (xa 14), .int 0, .int (-1)])), ((xa 52), .inl ((xc 36), 901, .inl (fun _ => 0))), ((xa 53), .inl ((xc 37), 901, .inl (fun _ => 0))), ((xa 54), .inr (3, [.ref (xa 55), .ref (xa 56), .ref (xa 57), .ref (xa 58), .ref (xa 59), .ref (xa 1), .int 0])), ((xa 55), .inl ((xc 38), 864, .inl (fun _ => 0))), ((xa 56), .inl ((xc 39), 8, .inl (fun _ => 0))), ((xa 57), .inl ((xc 40), 8, .inl (fun _ => 0))), ((xa 58), .inl ((xc 41), 8, .inl (fun _ => 0))), ((xa 59), .inl ((xc 42), 64, .inl (fun _ => 0))), ((xa 60), .inr (1, [.ref (xa 54)])), ((xa 61), .inr (4, [.ref (xa 54), .ref (xa 62), .ref (xa 63), .ref (xa 64), .ref (xa 65), .ref (xa 66), .ref (xa 67), .long 1, .long 0, .ref (xa 1), .ref (xa 11), .int 0, .int 0, .int 0])), ((xa 62), .inl ((xc 43), 1536, .inl (fun _ => 0))), ((xa 63), .inl ((xc 44), 256, .inl (fun _ => 0))), ((xa 64), .inl ((xc 45), 256, .inl (fun _ => 0))), ((xa 65), .inl ((xc 46), 256, .inr (.inl (fun _ => 0)))), ((xa 66), .inl ((xc 47), 256, .inr (.inl (fun _ => 0)))), ((xa 67), .inl ((xc 48), 6, .inr (.inl (fun _ => 0)))), ((xa 68), .inr (0, [.ref (xa 61), .ref (xa 69), .ref (xa 70), .int 0, .int 0])), ((xa 69), .inl ((xc 49), 256, .inl (fun _ => 0))), ((xa 70), .inl ((xc 50), 10, .inl (fun _ => 0))), ((xa 71), .inr (9, [.ref (xa 72), .int 0, .int (-1)])), ((xa 72), .inl ((xc 51), 40, .inr (.inl (fun _ => 0)))), ((xa 73), .inr (9, [.ref (xa 74), .int 0, .int (-1)])), ((xa 74), .inl ((xc 52), 40, .inr (.inl (fun _ => 0)))), ((xa 75), .inr (9, [.ref (xa 76), .int 0, .int (-1)])), ((xa 76), .inl ((xc 53), 40, .inr (.inl (fun _ => 0)))), ((xa 77), .inr (9, [.ref (xa 78), .int 0, .int (-1)])), ((xa 78), .inl ((xc 54), 40, .inr (.inl (fun _ => 0)))), ((xa 79), .inr (2, [.int 0, .ref (xa 80), .ref (xa 85)])), ((xa 80), .inr (6, [.int 0, .int 0, .ref (xa 81), .ref (xa 82), .ref (xa 83), .ref (xa 84), .int 0, .int 0, .int 0, .int 0, .int 0])), ((xa 81), .inl ((xc 55), 6, .inl (fun _ => 0))), ((xa 82), .inl ((xc 56), 6, .inl (fun _ => 0))), ((xa 83), .inl ((xc 57), 6, .inl (fun _ => 0))), ((xa 84), .inl ((xc 58), 900, .inl (fun _ => 0))), ((xa 85), .inr (8, [.int 0, .ref (xa 86), .ref (xa 87), .int 0, .int 0, .int 0, .int 0, .int 0, .int 0])), ((xa 86), .inl ((xc 59), 8, .inl (fun _ => 0))), ((xa 87), .inl ((xc 60), 8, .inl (fun _ => 0))), ((xa 88), .inr (2, [.int 0, .ref (xa 89), .ref (xa 94)])), ((xa 89), .inr (6, [.int 0, .int 0, .ref (xa 90), .ref (xa 91), .ref (xa 92), .ref (xa 93), .int 0, .int 0, .int 0, .int 0, .int 0])), ((xa 90), .inl ((xc 61), 6, .inl (fun _ => 0))), ((xa 91), .inl ((xc 62), 6, .inl (fun _ => 0))), ((xa 92), .inl ((xc 63), 6, .inl (fun _ => 0))), ((xa 93), .inl ((xc 64), 900, .inl (fun _ => 0))), ((xa 94), .inr (8, [.int 0, .ref (xa 95), .ref (xa 96), .int 0, .int 0, .int 0, .int 0, .int 0, .int 0])), ((xa 95), .inl ((xc 65), 8, .inl (fun _ => 0))), ((xa 96), .inl ((xc 66), 8, .inl (fun _ => 0))), (qm, .inr (11, [.int 0, .ref (mxa 0), .ref (mxa 1), .ref (mxa 2), .ref (mxa 3), .int 0, .int 0, .int 0, .int 0, .int 0, .int 0, .int 0, .int 0, .int 0, .int (-1), .ref (mxa 4), .ref (mxa 5), .ref (mxa 6), .int 0, .ref (mxa 7), .ref (mxa 8), .ref (mxa 9), .ref (mxa 10), .ref (mxa 11), .ref (mxa 12), .ref (mxa 13), .long 0, .ref (mxa 14), .ref (mxa 15), .ref (mxa 16), .ref (mxa 17), .ref (mxa 18)])), ((mxa 1), .inl ((mxc 1), 2, .inl (fun _ => 0))), ((mxa 2), .inl ((mxc 2), 900, .inl (fun _ => 0))), ((mxa 3), .inl ((mxc 3), 1181, .inl (fun _ => 0))), ((mxa 4), .inl ((mxc 4), 900, .inl (fun _ => 0))), ((mxa 5), .inl ((mxc 5), 8, .inl (fun _ => 0))), ((mxa 6), .inl ((mxc 6), 23, .inl (fun _ => 0))), ((mxa 7), .inl ((mxc 7), 1536, .inl (fun _ => 0))), ((mxa 8), .inl ((mxc 8), 256, .inl (fun _ => 0))), ((mxa 9), .inl ((mxc 9), 256, .inl (fun _ => 0))), ((mxa 10), .inl ((mxc 10), 256, .inl (fun _ => 0))), ((mxa 11), .inl ((mxc 11), 256, .inr (.inl (fun _ => 0)))), ((mxa 12), .inl ((mxc 12), 256, .inr (.inl (fun _ => 0)))), ((mxa 13), .inl ((mxc 13), 6, .inr (.inl (fun _ => 0)))), ((mxa 14), .inl ((mxc 14), 256, .inl (fun _ => 0))), ((mxa 15), .inl ((mxc 15), 9, .inl (fun _ => 0))), ((mxa 16), .inl ((mxc 16), 4, .inl (upd (upd (upd (upd (fun _ => 0) 0 (-1)) 1 (-1)) 2 (-1)) 3 (-1)))), ((mxa 17), .inl ((mxc 17), 4, .inl (fun _ => 0))), ((mxa 18), .inl ((mxc 18), 160, .inr (.inl (fun _ => 0)))), ((mxa 0), .inl ((mxc 0), 3543, .inl (fun _ => 0)))] H := hP
  have hD : va_D (fun q : Nat => s.heap.size ≤ q) [(qx, .inr (10, [.ref (xa 0), .int 0, .int 0, .int (-1), .ref (xa 1), .ref (xa 6), .ref (xa 11), .ref (xa 14), .ref (xa 17), .ref (xa 49), .ref (xa 50), .ref (xa 51), .ref (xa 54), .ref (xa 60), .ref (xa 61), .ref (xa 68)])), ((xa 0), .inl ((xc 0), 900, .inl (fun _ => 0))), ((xa 1), .inr (6, [.int 0, .int 0, .ref (xa 2), .ref (xa 3), .ref (xa 4), .ref (xa 5), .int 0, .int 0, .int 0, .int 0, .int 0])), ((xa 2), .inl ((xc 1), 6, .inl (fun _ => 0))), ((xa 3), .inl ((xc 2), 6, .inl (fun _ => 0))), ((xa 4), .inl ((xc 3), 6, .inl (fun _ => 0))), ((xa 5), .inl ((xc 4), 900, .inl (fun _ => 0))), ((xa 6), .inr (6, [.int 0, .int 0, .ref (xa 7), .ref (xa 8), .ref (xa 9), .ref (xa 10), .int 0, .int 0, .int 0, .int 0, .int 0])), ((xa 7), .inl ((xc 5), 6, .inl (fun _ => 0))), ((xa 8), .inl ((xc 6), 6, .inl (fun _ => 0))), ((xa 9), .inl ((xc 7), 6, .inl (fun _ => 0))), ((xa 10), .inl ((xc 8), 900, .inl (fun _ => 0))), ((xa 11), .inr (8, [.int 0, .ref (xa 12), .ref (xa 13), .int 0, .int 0, .int 0, .int 0, .int 0, .int 0])), ((xa 12), .inl ((xc 9), 8, .inl (fun _ => 0))), ((xa 13), .inl ((xc 10), 8, .inl (fun _ => 0))), ((xa 14), .inr (8, [.int 0, .ref (xa 15), .ref (xa 16), .int 0, .int 0, .int 0, .int 0, .int 0, .int 0])), ((xa 15), .inl ((xc 11), 8, .inl (fun _ => 0))), ((xa 16), .inl ((xc 12), 8, .inl (fun _ => 0))), ((xa 17), .inr (5, [.ref (xa 18), .int 0, .int 0])), ((xa 18), .inl ((xc 13), 10, .inr (.inr (.inr (.inr (va_up (va_up (va_up (va_up (va_up (va_up (va_up (va_up (va_up (va_up (fun _ => none) 0 (some (xa 19))) 1 (some (xa 22))) 2 (some (xa 25))) 3 (some (xa 28))) 4 (some (xa 31))) 5 (some (xa 34))) 6 (some (xa 37))) 7 (some (xa 40))) 8 (some (xa 43))) 9 (some (xa 46)))))))), ((xa 19), .inr (8, [.int 0, .ref (xa 20), .ref (xa 21), .int 0, .int 0, .int 0, .int 0, .int 0, .int 0])), ((xa 20), .inl ((xc 14), 8, .inl (fun _ => 0))), ((xa 21), .inl ((xc 15), 8, .inl (fun _ => 0))), ((xa 22), .inr (8, [.int 0, .ref (xa 23), .ref (xa 24), .int 0, .int 0, .int 0, .int 0, .int 0, .int 0])), ((xa 23), .inl ((xc 16), 8, .inl (fun _ => 0))), ((xa 24), .inl ((xc 17), 8, .inl (fun _ => 0))), ((xa 25), .inr (8, [.int 0, .ref (xa 26), .ref (xa 27), .int 0, .int 0, .int 0, .int 0, .int 0, .int 0])), ((xa 26), .inl ((xc 18), 8, .inl (fun _ => 0))), ((xa 27), .inl ((xc 19), 8, .inl (fun _ => 0))), ((xa 28), .inr (8, [.int 0, .ref (xa 29), .ref (xa 30), .int 0, .int 0, .int 0, .int 0, .int 0, .int 0])), ((xa 29), .inl ((xc 20), 8, .inl (fun _ => 0))), ((xa 30), .inl ((xc 21), 8, .inl (fun _ => 0))), ((xa 31), .inr (8, [.int 0, .ref (xa 32), .ref (xa 33), .int 0, .int 0, .int 0, .int 0, .int 0, .int 0])), ((xa 32), .inl ((xc 22), 8, .inl (fun _ => 0))), ((xa 33), .inl ((xc 23), 8, .inl (fun _ => 0))), ((xa 34), .inr (8, [.int 0, .ref (xa 35), .ref (xa 36), .int 0, .int 0, .int 0, .int 0, .int 0, .int 0])), ((xa 35), .inl ((xc 24), 8, .inl (fun _ => 0))), ((xa 36), .inl ((xc 25), 8, .inl (fun _ => 0))), ((xa 37), .inr (8, [.int 0, .ref (xa 38), .ref (xa 39), .int 0, .int 0, .int 0, .int 0, .int 0, .int 0])), ((xa 38), .inl ((xc 26), 8, .inl (fun _ => 0))), ((xa 39), .inl ((xc 27), 8, .inl (fun _ => 0))), ((xa 40), .inr (8, [.int 0, .ref (xa 41), .ref (xa 42), .int 0, .int 0, .int 0, .int 0, .int 0, .int 0])), ((xa 41), .inl ((xc 28), 8, .inl (fun _ => 0))), ((xa 42), .inl ((xc 29), 8, .inl (fun _ => 0))), ((xa 43), .inr (8, [.int 0, .ref (xa 44), .ref (xa 45), .int 0, .int 0, .int 0, .int 0, .int 0, .int 0])), ((xa 44), .inl ((xc 30), 8, .inl (fun _ => 0))), ((xa 45), .inl ((xc 31), 8, .inl (fun _ => 0))), ((xa 46), .inr (8, [.int 0, .ref (xa 47), .ref (xa 48), .int 0, .int 0, .int 0, .int 0, .int 0, .int 0])), ((xa 47), .inl ((xc 32), 8, .inl (fun _ => 0))), ((xa 48), .inl ((xc 33), 8, .inl (fun _ => 0))), ((xa 49), .inl ((xc 34), 4, .inr (.inr (.inr (.inr (va_up (va_up (va_up (va_up (fun _ => none) 0 (some (xa 71))) 1 (some (xa 73))) 2 (some (xa 75))) 3 (some (xa 77)))))))), ((xa 50), .inl ((xc 35), 2, .inr (.inr (.inr (.inr (va_up (va_up (fun _ => none) 0 (some (xa 79))) 1 (some (xa 88)))))))), ((xa 51), .inr (7, [.ref (xa 52), .ref (xa 53), .int 0, .ref (xa 6), .ref (xa 14), .int 0, .int (-1)])), ((xa 52), .inl ((xc 36), 901, .inl (fun _ => 0))), ((xa 53), .inl ((xc 37), 901, .inl (fun _ => 0))), ((xa 54), .inr (3, [.ref (xa 55), .ref (xa 56), .ref (xa 57), .ref (xa 58), .ref (xa 59), .ref (xa 1), .int 0])), ((xa 55), .inl ((xc 38), 864, .inl (fun _ => 0))), ((xa 56), .inl ((xc 39), 8, .inl (fun _ => 0))), ((xa 57), .inl ((xc 40), 8, .inl (fun _ => 0))), ((xa 58), .inl ((xc 41), 8, .inl (fun _ => 0))), ((xa 59), .inl ((xc 42), 64, .inl (fun _ => 0))), ((xa 60), .inr (1, [.ref (xa 54)])), ((xa 61), .inr (4, [.ref (xa 54), .ref (xa 62), .ref (xa 63), .ref (xa 64), .ref (xa 65), .ref (xa 66), .ref (xa 67), .long 1, .long 0, .ref (xa 1), .ref (xa 11), .int 0, .int 0, .int 0])), ((xa 62), .inl ((xc 43), 1536, .inl (fun _ => 0))), ((xa 63), .inl ((xc 44), 256, .inl (fun _ => 0))), ((xa 64), .inl ((xc 45), 256, .inl (fun _ => 0))), ((xa 65), .inl ((xc 46), 256, .inr (.inl (fun _ => 0)))), ((xa 66), .inl ((xc 47), 256, .inr (.inl (fun _ => 0)))), ((xa 67), .inl ((xc 48), 6, .inr (.inl (fun _ => 0)))), ((xa 68), .inr (0, [.ref (xa 61), .ref (xa 69), .ref (xa 70), .int 0, .int 0])), ((xa 69), .inl ((xc 49), 256, .inl (fun _ => 0))), ((xa 70), .inl ((xc 50), 10, .inl (fun _ => 0))), ((xa 71), .inr (9, [.ref (xa 72), .int 0, .int (-1)])), ((xa 72), .inl ((xc 51), 40, .inr (.inl (fun _ => 0)))), ((xa 73), .inr (9, [.ref (xa 74), .int 0, .int (-1)])), ((xa 74), .inl ((xc 52), 40, .inr (.inl (fun _ => 0)))), ((xa 75), .inr (9, [.ref (xa 76), .int 0, .int (-1)])), ((xa 76), .inl ((xc 53), 40, .inr (.inl (fun _ => 0)))), ((xa 77), .inr (9, [.ref (xa 78), .int 0, .int (-1)])), ((xa 78), .inl ((xc 54), 40, .inr (.inl (fun _ => 0)))), ((xa 79), .inr (2, [.int 0, .ref (xa 80), .ref (xa 85)])), ((xa 80), .inr (6, [.int 0, .int 0, .ref (xa 81), .ref (xa 82), .ref (xa 83), .ref (xa 84), .int 0, .int 0, .int 0, .int 0, .int 0])), ((xa 81), .inl ((xc 55), 6, .inl (fun _ => 0))), ((xa 82), .inl ((xc 56), 6, .inl (fun _ => 0))), ((xa 83), .inl ((xc 57), 6, .inl (fun _ => 0))), ((xa 84), .inl ((xc 58), 900, .inl (fun _ => 0))), ((xa 85), .inr (8, [.int 0, .ref (xa 86), .ref (xa 87), .int 0, .int 0, .int 0, .int 0, .int 0, .int 0])), ((xa 86), .inl ((xc 59), 8, .inl (fun _ => 0))), ((xa 87), .inl ((xc 60), 8, .inl (fun _ => 0))), ((xa 88), .inr (2, [.int 0, .ref (xa 89), .ref (xa 94)])), ((xa 89), .inr (6, [.int 0, .int 0, .ref (xa 90), .ref (xa 91), .ref (xa 92), .ref (xa 93), .int 0, .int 0, .int 0, .int 0, .int 0])), ((xa 90), .inl ((xc 61), 6, .inl (fun _ => 0))), ((xa 91), .inl ((xc 62), 6, .inl (fun _ => 0))), ((xa 92), .inl ((xc 63), 6, .inl (fun _ => 0))), ((xa 93), .inl ((xc 64), 900, .inl (fun _ => 0))), ((xa 94), .inr (8, [.int 0, .ref (xa 95), .ref (xa 96), .int 0, .int 0, .int 0, .int 0, .int 0, .int 0])), ((xa 95), .inl ((xc 65), 8, .inl (fun _ => 0))), ((xa 96), .inl ((xc 66), 8, .inl (fun _ => 0))), (qm, .inr (11, [.int 0, .ref (mxa 0), .ref (mxa 1), .ref (mxa 2), .ref (mxa 3), .int 0, .int 0, .int 0, .int 0, .int 0, .int 0, .int 0, .int 0, .int 0, .int (-1), .ref (mxa 4), .ref (mxa 5), .ref (mxa 6), .int 0, .ref (mxa 7), .ref (mxa 8), .ref (mxa 9), .ref (mxa 10), .ref (mxa 11), .ref (mxa 12), .ref (mxa 13), .long 0, .ref (mxa 14), .ref (mxa 15), .ref (mxa 16), .ref (mxa 17), .ref (mxa 18)])), ((mxa 1), .inl ((mxc 1), 2, .inl (fun _ => 0))), ((mxa 2), .inl ((mxc 2), 900, .inl (fun _ => 0))), ((mxa 3), .inl ((mxc 3), 1181, .inl (fun _ => 0))), ((mxa 4), .inl ((mxc 4), 900, .inl (fun _ => 0))), ((mxa 5), .inl ((mxc 5), 8, .inl (fun _ => 0))), ((mxa 6), .inl ((mxc 6), 23, .inl (fun _ => 0))), ((mxa 7), .inl ((mxc 7), 1536, .inl (fun _ => 0))), ((mxa 8), .inl ((mxc 8), 256, .inl (fun _ => 0))), ((mxa 9), .inl ((mxc 9), 256, .inl (fun _ => 0))), ((mxa 10), .inl ((mxc 10), 256, .inl (fun _ => 0))), ((mxa 11), .inl ((mxc 11), 256, .inr (.inl (fun _ => 0)))), ((mxa 12), .inl ((mxc 12), 256, .inr (.inl (fun _ => 0)))), ((mxa 13), .inl ((mxc 13), 6, .inr (.inl (fun _ => 0)))), ((mxa 14), .inl ((mxc 14), 256, .inl (fun _ => 0))), ((mxa 15), .inl ((mxc 15), 9, .inl (fun _ => 0))), ((mxa 16), .inl ((mxc 16), 4, .inl (upd (upd (upd (upd (fun _ => 0) 0 (-1)) 1 (-1)) 2 (-1)) 3 (-1)))), ((mxa 17), .inl ((mxc 17), 4, .inl (fun _ => 0))), ((mxa 18), .inl ((mxc 18), 160, .inr (.inl (fun _ => 0)))), ((mxa 0), .inl ((mxc 0), 3543, .inl (fun _ => 0)))] := hD
  have hK : va_K (dC, dI) vwCl [((xc 0), .int), ((xc 1), .int), ((xc 2), .int), ((xc 3), .int), ((xc 4), .int), ((xc 5), .int), ((xc 6), .int), ((xc 7), .int), ((xc 8), .int), ((xc 9), .int), ((xc 10), .int), ((xc 11), .int), ((xc 12), .int), ((xc 13), .object RX9), ((xc 14), .int), ((xc 15), .int), ((xc 16), .int), ((xc 17), .int), ((xc 18), .int), ((xc 19), .int), ((xc 20), .int), ((xc 21), .int), ((xc 22), .int), ((xc 23), .int), ((xc 24), .int), ((xc 25), .int), ((xc 26), .int), ((xc 27), .int), ((xc 28), .int), ((xc 29), .int), ((xc 30), .int), ((xc 31), .int), ((xc 32), .int), ((xc 33), .int), ((xc 34), .object RX10), ((xc 35), .object RX2), ((xc 36), .int), ((xc 37), .int), ((xc 38), .int), ((xc 39), .int), ((xc 40), .int), ((xc 41), .int), ((xc 42), .int), ((xc 43), .int), ((xc 44), .int), ((xc 45), .int), ((xc 46), .long), ((xc 47), .long), ((xc 48), .long), ((xc 49), .int), ((xc 50), .int), ((xc 51), .long), ((xc 52), .long), ((xc 53), .long), ((xc 54), .long), ((xc 55), .int), ((xc 56), .int), ((xc 57), .int), ((xc 58), .int), ((xc 59), .int), ((xc 60), .int), ((xc 61), .int), ((xc 62), .int), ((xc 63), .int), ((xc 64), .int), ((xc 65), .int), ((xc 66), .int), ((mxc 0), .int), ((mxc 1), .boolean), ((mxc 2), .int), ((mxc 3), .int), ((mxc 4), .int), ((mxc 5), .int), ((mxc 6), .int), ((mxc 7), .int), ((mxc 8), .int), ((mxc 9), .int), ((mxc 10), .boolean), ((mxc 11), .long), ((mxc 12), .long), ((mxc 13), .long), ((mxc 14), .int), ((mxc 15), .int), ((mxc 16), .int), ((mxc 17), .int), ((mxc 18), .long)] s := hK
  refine lv_astore_n (lv' := [(2, .ref qm), (1, .ref qx), (0, .ref b)]) hx hb dL_law_15 rfl hl (by decide) rfl (fun ls hl => ?_)
  refine lv_iconst (v := 0) hx hb dL_law_16 (by decide) ?_
  refine lv_istore_n (lv' := [(3, .int 0), (2, .ref qm), (1, .ref qx), (0, .ref b)]) hx hb dL_law_17 rfl hl (by decide) rfl (fun ls hl => ?_)
  clear hPc hDc hKc2 hFc hP1 hD1 hK1
  obtain ⟨ad, ead⟩ : ∃ ad : Nat → Nat, ad = (fun i => ([qx, (xa 0), (xa 1), (xa 2), (xa 3), (xa 4), (xa 5), (xa 6), (xa 7), (xa 8), (xa 9), (xa 10), (xa 11), (xa 12), (xa 13), (xa 14), (xa 15), (xa 16), (xa 17), (xa 18), (xa 19), (xa 20), (xa 21), (xa 22), (xa 23), (xa 24), (xa 25), (xa 26), (xa 27), (xa 28), (xa 29), (xa 30), (xa 31), (xa 32), (xa 33), (xa 34), (xa 35), (xa 36), (xa 37), (xa 38), (xa 39), (xa 40), (xa 41), (xa 42), (xa 43), (xa 44), (xa 45), (xa 46), (xa 47), (xa 48), (xa 49), (xa 71), (xa 72), (xa 73), (xa 74), (xa 75), (xa 76), (xa 77), (xa 78), (xa 50), (xa 79), (xa 80), (xa 81), (xa 82), (xa 83), (xa 84), (xa 85), (xa 86), (xa 87), (xa 88), (xa 89), (xa 90), (xa 91), (xa 92), (xa 93), (xa 94), (xa 95), (xa 96), (xa 51), (xa 52), (xa 53), (xa 54), (xa 55), (xa 56), (xa 57), (xa 58), (xa 59), (xa 60), (xa 61), (xa 62), (xa 63), (xa 64), (xa 65), (xa 66), (xa 67), (xa 68), (xa 69), (xa 70), qm, (mxa 0), (mxa 1), (mxa 2), (mxa 3), (mxa 4), (mxa 5), (mxa 6), (mxa 7), (mxa 8), (mxa 9), (mxa 10), (mxa 11), (mxa 12), (mxa 13), (mxa 14), (mxa 15), (mxa 16), (mxa 17), (mxa 18)] : List Nat).getD i 0) := ⟨_, rfl⟩
  obtain ⟨cA, ecA⟩ : ∃ cA : Nat → ClassId, cA = (fun i => ([k0, (xc 0), k0, (xc 1), (xc 2), (xc 3), (xc 4), k0, (xc 5), (xc 6), (xc 7), (xc 8), k0, (xc 9), (xc 10), k0, (xc 11), (xc 12), k0, (xc 13), k0, (xc 14), (xc 15), k0, (xc 16), (xc 17), k0, (xc 18), (xc 19), k0, (xc 20), (xc 21), k0, (xc 22), (xc 23), k0, (xc 24), (xc 25), k0, (xc 26), (xc 27), k0, (xc 28), (xc 29), k0, (xc 30), (xc 31), k0, (xc 32), (xc 33), (xc 34), k0, (xc 51), k0, (xc 52), k0, (xc 53), k0, (xc 54), (xc 35), k0, k0, (xc 55), (xc 56), (xc 57), (xc 58), k0, (xc 59), (xc 60), k0, k0, (xc 61), (xc 62), (xc 63), (xc 64), k0, (xc 65), (xc 66), k0, (xc 36), (xc 37), k0, (xc 38), (xc 39), (xc 40), (xc 41), (xc 42), k0, k0, (xc 43), (xc 44), (xc 45), (xc 46), (xc 47), (xc 48), k0, (xc 49), (xc 50), k0, (mxc 0), (mxc 1), (mxc 2), (mxc 3), (mxc 4), (mxc 5), (mxc 6), (mxc 7), (mxc 8), (mxc 9), (mxc 10), (mxc 11), (mxc 12), (mxc 13), (mxc 14), (mxc 15), (mxc 16), (mxc 17), (mxc 18)] : List ClassId).getD i k0) := ⟨_, rfl⟩
  have a0 : ad 0 = qx := by rw [ead]; rfl
  have a1 : ad 1 = (xa 0) := by rw [ead]; rfl
  have a2 : ad 2 = (xa 1) := by rw [ead]; rfl
  have a3 : ad 3 = (xa 2) := by rw [ead]; rfl
  have a4 : ad 4 = (xa 3) := by rw [ead]; rfl
  have a5 : ad 5 = (xa 4) := by rw [ead]; rfl
  have a6 : ad 6 = (xa 5) := by rw [ead]; rfl
  have a7 : ad 7 = (xa 6) := by rw [ead]; rfl
  have a8 : ad 8 = (xa 7) := by rw [ead]; rfl
  have a9 : ad 9 = (xa 8) := by rw [ead]; rfl
  have a10 : ad 10 = (xa 9) := by rw [ead]; rfl
  have a11 : ad 11 = (xa 10) := by rw [ead]; rfl
  have a12 : ad 12 = (xa 11) := by rw [ead]; rfl
  have a13 : ad 13 = (xa 12) := by rw [ead]; rfl
  have a14 : ad 14 = (xa 13) := by rw [ead]; rfl
  have a15 : ad 15 = (xa 14) := by rw [ead]; rfl
  have a16 : ad 16 = (xa 15) := by rw [ead]; rfl
  have a17 : ad 17 = (xa 16) := by rw [ead]; rfl
  have a18 : ad 18 = (xa 17) := by rw [ead]; rfl
  have a19 : ad 19 = (xa 18) := by rw [ead]; rfl
  have a20 : ad 20 = (xa 19) := by rw [ead]; rfl
  have a21 : ad 21 = (xa 20) := by rw [ead]; rfl
  have a22 : ad 22 = (xa 21) := by rw [ead]; rfl
  have a23 : ad 23 = (xa 22) := by rw [ead]; rfl
  have a24 : ad 24 = (xa 23) := by rw [ead]; rfl
  have a25 : ad 25 = (xa 24) := by rw [ead]; rfl
  have a26 : ad 26 = (xa 25) := by rw [ead]; rfl
  have a27 : ad 27 = (xa 26) := by rw [ead]; rfl
  have a28 : ad 28 = (xa 27) := by rw [ead]; rfl
  have a29 : ad 29 = (xa 28) := by rw [ead]; rfl
  have a30 : ad 30 = (xa 29) := by rw [ead]; rfl
  have a31 : ad 31 = (xa 30) := by rw [ead]; rfl
  have a32 : ad 32 = (xa 31) := by rw [ead]; rfl
  have a33 : ad 33 = (xa 32) := by rw [ead]; rfl
  have a34 : ad 34 = (xa 33) := by rw [ead]; rfl
  have a35 : ad 35 = (xa 34) := by rw [ead]; rfl
  have a36 : ad 36 = (xa 35) := by rw [ead]; rfl
  have a37 : ad 37 = (xa 36) := by rw [ead]; rfl
  have a38 : ad 38 = (xa 37) := by rw [ead]; rfl
  have a39 : ad 39 = (xa 38) := by rw [ead]; rfl
  have a40 : ad 40 = (xa 39) := by rw [ead]; rfl
  have a41 : ad 41 = (xa 40) := by rw [ead]; rfl
  have a42 : ad 42 = (xa 41) := by rw [ead]; rfl
  have a43 : ad 43 = (xa 42) := by rw [ead]; rfl
  have a44 : ad 44 = (xa 43) := by rw [ead]; rfl
  have a45 : ad 45 = (xa 44) := by rw [ead]; rfl
  have a46 : ad 46 = (xa 45) := by rw [ead]; rfl
  have a47 : ad 47 = (xa 46) := by rw [ead]; rfl
  have a48 : ad 48 = (xa 47) := by rw [ead]; rfl
  have a49 : ad 49 = (xa 48) := by rw [ead]; rfl
  have a50 : ad 50 = (xa 49) := by rw [ead]; rfl
  have a51 : ad 51 = (xa 71) := by rw [ead]; rfl
  have a52 : ad 52 = (xa 72) := by rw [ead]; rfl
  have a53 : ad 53 = (xa 73) := by rw [ead]; rfl
  have a54 : ad 54 = (xa 74) := by rw [ead]; rfl
  have a55 : ad 55 = (xa 75) := by rw [ead]; rfl
  have a56 : ad 56 = (xa 76) := by rw [ead]; rfl
  have a57 : ad 57 = (xa 77) := by rw [ead]; rfl
  have a58 : ad 58 = (xa 78) := by rw [ead]; rfl
  have a59 : ad 59 = (xa 50) := by rw [ead]; rfl
  have a60 : ad 60 = (xa 79) := by rw [ead]; rfl
  have a61 : ad 61 = (xa 80) := by rw [ead]; rfl
  have a62 : ad 62 = (xa 81) := by rw [ead]; rfl
  have a63 : ad 63 = (xa 82) := by rw [ead]; rfl
  have a64 : ad 64 = (xa 83) := by rw [ead]; rfl
  have a65 : ad 65 = (xa 84) := by rw [ead]; rfl
  have a66 : ad 66 = (xa 85) := by rw [ead]; rfl
  have a67 : ad 67 = (xa 86) := by rw [ead]; rfl
  have a68 : ad 68 = (xa 87) := by rw [ead]; rfl
  have a69 : ad 69 = (xa 88) := by rw [ead]; rfl
  have a70 : ad 70 = (xa 89) := by rw [ead]; rfl
  have a71 : ad 71 = (xa 90) := by rw [ead]; rfl
  have a72 : ad 72 = (xa 91) := by rw [ead]; rfl
  have a73 : ad 73 = (xa 92) := by rw [ead]; rfl
  have a74 : ad 74 = (xa 93) := by rw [ead]; rfl
  have a75 : ad 75 = (xa 94) := by rw [ead]; rfl
  have a76 : ad 76 = (xa 95) := by rw [ead]; rfl
  have a77 : ad 77 = (xa 96) := by rw [ead]; rfl
  have a78 : ad 78 = (xa 51) := by rw [ead]; rfl
  have a79 : ad 79 = (xa 52) := by rw [ead]; rfl
  have a80 : ad 80 = (xa 53) := by rw [ead]; rfl
  have a81 : ad 81 = (xa 54) := by rw [ead]; rfl
  have a82 : ad 82 = (xa 55) := by rw [ead]; rfl
  have a83 : ad 83 = (xa 56) := by rw [ead]; rfl
  have a84 : ad 84 = (xa 57) := by rw [ead]; rfl
  have a85 : ad 85 = (xa 58) := by rw [ead]; rfl
  have a86 : ad 86 = (xa 59) := by rw [ead]; rfl
  have a87 : ad 87 = (xa 60) := by rw [ead]; rfl
  have a88 : ad 88 = (xa 61) := by rw [ead]; rfl
  have a89 : ad 89 = (xa 62) := by rw [ead]; rfl
  have a90 : ad 90 = (xa 63) := by rw [ead]; rfl
  have a91 : ad 91 = (xa 64) := by rw [ead]; rfl
  have a92 : ad 92 = (xa 65) := by rw [ead]; rfl
  have a93 : ad 93 = (xa 66) := by rw [ead]; rfl
  have a94 : ad 94 = (xa 67) := by rw [ead]; rfl
  have a95 : ad 95 = (xa 68) := by rw [ead]; rfl
  have a96 : ad 96 = (xa 69) := by rw [ead]; rfl
  have a97 : ad 97 = (xa 70) := by rw [ead]; rfl
  have a98 : ad 98 = qm := by rw [ead]; rfl
  have a99 : ad 99 = (mxa 0) := by rw [ead]; rfl
  have a100 : ad 100 = (mxa 1) := by rw [ead]; rfl
  have a101 : ad 101 = (mxa 2) := by rw [ead]; rfl
  have a102 : ad 102 = (mxa 3) := by rw [ead]; rfl
  have a103 : ad 103 = (mxa 4) := by rw [ead]; rfl
  have a104 : ad 104 = (mxa 5) := by rw [ead]; rfl
  have a105 : ad 105 = (mxa 6) := by rw [ead]; rfl
  have a106 : ad 106 = (mxa 7) := by rw [ead]; rfl
  have a107 : ad 107 = (mxa 8) := by rw [ead]; rfl
  have a108 : ad 108 = (mxa 9) := by rw [ead]; rfl
  have a109 : ad 109 = (mxa 10) := by rw [ead]; rfl
  have a110 : ad 110 = (mxa 11) := by rw [ead]; rfl
  have a111 : ad 111 = (mxa 12) := by rw [ead]; rfl
  have a112 : ad 112 = (mxa 13) := by rw [ead]; rfl
  have a113 : ad 113 = (mxa 14) := by rw [ead]; rfl
  have a114 : ad 114 = (mxa 15) := by rw [ead]; rfl
  have a115 : ad 115 = (mxa 16) := by rw [ead]; rfl
  have a116 : ad 116 = (mxa 17) := by rw [ead]; rfl
  have a117 : ad 117 = (mxa 18) := by rw [ead]; rfl
  have d1 : cA 1 = (xc 0) := by rw [ecA]; rfl
  have d3 : cA 3 = (xc 1) := by rw [ecA]; rfl
  have d4 : cA 4 = (xc 2) := by rw [ecA]; rfl
  have d5 : cA 5 = (xc 3) := by rw [ecA]; rfl
  have d6 : cA 6 = (xc 4) := by rw [ecA]; rfl
  have d8 : cA 8 = (xc 5) := by rw [ecA]; rfl
  have d9 : cA 9 = (xc 6) := by rw [ecA]; rfl
  have d10 : cA 10 = (xc 7) := by rw [ecA]; rfl
  have d11 : cA 11 = (xc 8) := by rw [ecA]; rfl
  have d13 : cA 13 = (xc 9) := by rw [ecA]; rfl
  have d14 : cA 14 = (xc 10) := by rw [ecA]; rfl
  have d16 : cA 16 = (xc 11) := by rw [ecA]; rfl
  have d17 : cA 17 = (xc 12) := by rw [ecA]; rfl
  have d19 : cA 19 = (xc 13) := by rw [ecA]; rfl
  have d21 : cA 21 = (xc 14) := by rw [ecA]; rfl
  have d22 : cA 22 = (xc 15) := by rw [ecA]; rfl
  have d24 : cA 24 = (xc 16) := by rw [ecA]; rfl
  have d25 : cA 25 = (xc 17) := by rw [ecA]; rfl
  have d27 : cA 27 = (xc 18) := by rw [ecA]; rfl
  have d28 : cA 28 = (xc 19) := by rw [ecA]; rfl
  have d30 : cA 30 = (xc 20) := by rw [ecA]; rfl
  have d31 : cA 31 = (xc 21) := by rw [ecA]; rfl
  have d33 : cA 33 = (xc 22) := by rw [ecA]; rfl
  have d34 : cA 34 = (xc 23) := by rw [ecA]; rfl
  have d36 : cA 36 = (xc 24) := by rw [ecA]; rfl
  have d37 : cA 37 = (xc 25) := by rw [ecA]; rfl
  have d39 : cA 39 = (xc 26) := by rw [ecA]; rfl
  have d40 : cA 40 = (xc 27) := by rw [ecA]; rfl
  have d42 : cA 42 = (xc 28) := by rw [ecA]; rfl
  have d43 : cA 43 = (xc 29) := by rw [ecA]; rfl
  have d45 : cA 45 = (xc 30) := by rw [ecA]; rfl
  have d46 : cA 46 = (xc 31) := by rw [ecA]; rfl
  have d48 : cA 48 = (xc 32) := by rw [ecA]; rfl
  have d49 : cA 49 = (xc 33) := by rw [ecA]; rfl
  have d50 : cA 50 = (xc 34) := by rw [ecA]; rfl
  have d52 : cA 52 = (xc 51) := by rw [ecA]; rfl
  have d54 : cA 54 = (xc 52) := by rw [ecA]; rfl
  have d56 : cA 56 = (xc 53) := by rw [ecA]; rfl
  have d58 : cA 58 = (xc 54) := by rw [ecA]; rfl
  have d59 : cA 59 = (xc 35) := by rw [ecA]; rfl
  have d62 : cA 62 = (xc 55) := by rw [ecA]; rfl
  have d63 : cA 63 = (xc 56) := by rw [ecA]; rfl
  have d64 : cA 64 = (xc 57) := by rw [ecA]; rfl
  have d65 : cA 65 = (xc 58) := by rw [ecA]; rfl
  have d67 : cA 67 = (xc 59) := by rw [ecA]; rfl
  have d68 : cA 68 = (xc 60) := by rw [ecA]; rfl
  have d71 : cA 71 = (xc 61) := by rw [ecA]; rfl
  have d72 : cA 72 = (xc 62) := by rw [ecA]; rfl
  have d73 : cA 73 = (xc 63) := by rw [ecA]; rfl
  have d74 : cA 74 = (xc 64) := by rw [ecA]; rfl
  have d76 : cA 76 = (xc 65) := by rw [ecA]; rfl
  have d77 : cA 77 = (xc 66) := by rw [ecA]; rfl
  have d79 : cA 79 = (xc 36) := by rw [ecA]; rfl
  have d80 : cA 80 = (xc 37) := by rw [ecA]; rfl
  have d82 : cA 82 = (xc 38) := by rw [ecA]; rfl
  have d83 : cA 83 = (xc 39) := by rw [ecA]; rfl
  have d84 : cA 84 = (xc 40) := by rw [ecA]; rfl
  have d85 : cA 85 = (xc 41) := by rw [ecA]; rfl
  have d86 : cA 86 = (xc 42) := by rw [ecA]; rfl
  have d89 : cA 89 = (xc 43) := by rw [ecA]; rfl
  have d90 : cA 90 = (xc 44) := by rw [ecA]; rfl
  have d91 : cA 91 = (xc 45) := by rw [ecA]; rfl
  have d92 : cA 92 = (xc 46) := by rw [ecA]; rfl
  have d93 : cA 93 = (xc 47) := by rw [ecA]; rfl
  have d94 : cA 94 = (xc 48) := by rw [ecA]; rfl
  have d96 : cA 96 = (xc 49) := by rw [ecA]; rfl
  have d97 : cA 97 = (xc 50) := by rw [ecA]; rfl
  have d99 : cA 99 = (mxc 0) := by rw [ecA]; rfl
  have d100 : cA 100 = (mxc 1) := by rw [ecA]; rfl
  have d101 : cA 101 = (mxc 2) := by rw [ecA]; rfl
  have d102 : cA 102 = (mxc 3) := by rw [ecA]; rfl
  have d103 : cA 103 = (mxc 4) := by rw [ecA]; rfl
  have d104 : cA 104 = (mxc 5) := by rw [ecA]; rfl
  have d105 : cA 105 = (mxc 6) := by rw [ecA]; rfl
  have d106 : cA 106 = (mxc 7) := by rw [ecA]; rfl
  have d107 : cA 107 = (mxc 8) := by rw [ecA]; rfl
  have d108 : cA 108 = (mxc 9) := by rw [ecA]; rfl
  have d109 : cA 109 = (mxc 10) := by rw [ecA]; rfl
  have d110 : cA 110 = (mxc 11) := by rw [ecA]; rfl
  have d111 : cA 111 = (mxc 12) := by rw [ecA]; rfl
  have d112 : cA 112 = (mxc 13) := by rw [ecA]; rfl
  have d113 : cA 113 = (mxc 14) := by rw [ecA]; rfl
  have d114 : cA 114 = (mxc 15) := by rw [ecA]; rfl
  have d115 : cA 115 = (mxc 16) := by rw [ecA]; rfl
  have d116 : cA 116 = (mxc 17) := by rw [ecA]; rfl
  have d117 : cA 117 = (mxc 18) := by rw [ecA]; rfl
  clear ead ecA
  have hg : ∀ i, i < mm_N → ∃ (k : Nat) (q : Nat × va_E), ([(qx, .inr (10, [.ref (xa 0), .int 0, .int 0, .int (-1), .ref (xa 1), .ref (xa 6), .ref (xa 11), .ref (xa 14), .ref (xa 17), .ref (xa 49), .ref (xa 50), .ref (xa 51), .ref (xa 54), .ref (xa 60), .ref (xa 61), .ref (xa 68)])), ((xa 0), .inl ((xc 0), 900, .inl (fun _ => 0))), ((xa 1), .inr (6, [.int 0, .int 0, .ref (xa 2), .ref (xa 3), .ref (xa 4), .ref (xa 5), .int 0, .int 0, .int 0, .int 0, .int 0])), ((xa 2), .inl ((xc 1), 6, .inl (fun _ => 0))), ((xa 3), .inl ((xc 2), 6, .inl (fun _ => 0))), ((xa 4), .inl ((xc 3), 6, .inl (fun _ => 0))), ((xa 5), .inl ((xc 4), 900, .inl (fun _ => 0))), ((xa 6), .inr (6, [.int 0, .int 0, .ref (xa 7), .ref (xa 8), .ref (xa 9), .ref (xa 10), .int 0, .int 0, .int 0, .int 0, .int 0])), ((xa 7), .inl ((xc 5), 6, .inl (fun _ => 0))), ((xa 8), .inl ((xc 6), 6, .inl (fun _ => 0))), ((xa 9), .inl ((xc 7), 6, .inl (fun _ => 0))), ((xa 10), .inl ((xc 8), 900, .inl (fun _ => 0))), ((xa 11), .inr (8, [.int 0, .ref (xa 12), .ref (xa 13), .int 0, .int 0, .int 0, .int 0, .int 0, .int 0])), ((xa 12), .inl ((xc 9), 8, .inl (fun _ => 0))), ((xa 13), .inl ((xc 10), 8, .inl (fun _ => 0))), ((xa 14), .inr (8, [.int 0, .ref (xa 15), .ref (xa 16), .int 0, .int 0, .int 0, .int 0, .int 0, .int 0])), ((xa 15), .inl ((xc 11), 8, .inl (fun _ => 0))), ((xa 16), .inl ((xc 12), 8, .inl (fun _ => 0))), ((xa 17), .inr (5, [.ref (xa 18), .int 0, .int 0])), ((xa 18), .inl ((xc 13), 10, .inr (.inr (.inr (.inr (va_up (va_up (va_up (va_up (va_up (va_up (va_up (va_up (va_up (va_up (fun _ => none) 0 (some (xa 19))) 1 (some (xa 22))) 2 (some (xa 25))) 3 (some (xa 28))) 4 (some (xa 31))) 5 (some (xa 34))) 6 (some (xa 37))) 7 (some (xa 40))) 8 (some (xa 43))) 9 (some (xa 46)))))))), ((xa 19), .inr (8, [.int 0, .ref (xa 20), .ref (xa 21), .int 0, .int 0, .int 0, .int 0, .int 0, .int 0])), ((xa 20), .inl ((xc 14), 8, .inl (fun _ => 0))), ((xa 21), .inl ((xc 15), 8, .inl (fun _ => 0))), ((xa 22), .inr (8, [.int 0, .ref (xa 23), .ref (xa 24), .int 0, .int 0, .int 0, .int 0, .int 0, .int 0])), ((xa 23), .inl ((xc 16), 8, .inl (fun _ => 0))), ((xa 24), .inl ((xc 17), 8, .inl (fun _ => 0))), ((xa 25), .inr (8, [.int 0, .ref (xa 26), .ref (xa 27), .int 0, .int 0, .int 0, .int 0, .int 0, .int 0])), ((xa 26), .inl ((xc 18), 8, .inl (fun _ => 0))), ((xa 27), .inl ((xc 19), 8, .inl (fun _ => 0))), ((xa 28), .inr (8, [.int 0, .ref (xa 29), .ref (xa 30), .int 0, .int 0, .int 0, .int 0, .int 0, .int 0])), ((xa 29), .inl ((xc 20), 8, .inl (fun _ => 0))), ((xa 30), .inl ((xc 21), 8, .inl (fun _ => 0))), ((xa 31), .inr (8, [.int 0, .ref (xa 32), .ref (xa 33), .int 0, .int 0, .int 0, .int 0, .int 0, .int 0])), ((xa 32), .inl ((xc 22), 8, .inl (fun _ => 0))), ((xa 33), .inl ((xc 23), 8, .inl (fun _ => 0))), ((xa 34), .inr (8, [.int 0, .ref (xa 35), .ref (xa 36), .int 0, .int 0, .int 0, .int 0, .int 0, .int 0])), ((xa 35), .inl ((xc 24), 8, .inl (fun _ => 0))), ((xa 36), .inl ((xc 25), 8, .inl (fun _ => 0))), ((xa 37), .inr (8, [.int 0, .ref (xa 38), .ref (xa 39), .int 0, .int 0, .int 0, .int 0, .int 0, .int 0])), ((xa 38), .inl ((xc 26), 8, .inl (fun _ => 0))), ((xa 39), .inl ((xc 27), 8, .inl (fun _ => 0))), ((xa 40), .inr (8, [.int 0, .ref (xa 41), .ref (xa 42), .int 0, .int 0, .int 0, .int 0, .int 0, .int 0])), ((xa 41), .inl ((xc 28), 8, .inl (fun _ => 0))), ((xa 42), .inl ((xc 29), 8, .inl (fun _ => 0))), ((xa 43), .inr (8, [.int 0, .ref (xa 44), .ref (xa 45), .int 0, .int 0, .int 0, .int 0, .int 0, .int 0])), ((xa 44), .inl ((xc 30), 8, .inl (fun _ => 0))), ((xa 45), .inl ((xc 31), 8, .inl (fun _ => 0))), ((xa 46), .inr (8, [.int 0, .ref (xa 47), .ref (xa 48), .int 0, .int 0, .int 0, .int 0, .int 0, .int 0])), ((xa 47), .inl ((xc 32), 8, .inl (fun _ => 0))), ((xa 48), .inl ((xc 33), 8, .inl (fun _ => 0))), ((xa 49), .inl ((xc 34), 4, .inr (.inr (.inr (.inr (va_up (va_up (va_up (va_up (fun _ => none) 0 (some (xa 71))) 1 (some (xa 73))) 2 (some (xa 75))) 3 (some (xa 77)))))))), ((xa 50), .inl ((xc 35), 2, .inr (.inr (.inr (.inr (va_up (va_up (fun _ => none) 0 (some (xa 79))) 1 (some (xa 88)))))))), ((xa 51), .inr (7, [.ref (xa 52), .ref (xa 53), .int 0, .ref (xa 6), .ref (xa 14), .int 0, .int (-1)])), ((xa 52), .inl ((xc 36), 901, .inl (fun _ => 0))), ((xa 53), .inl ((xc 37), 901, .inl (fun _ => 0))), ((xa 54), .inr (3, [.ref (xa 55), .ref (xa 56), .ref (xa 57), .ref (xa 58), .ref (xa 59), .ref (xa 1), .int 0])), ((xa 55), .inl ((xc 38), 864, .inl (fun _ => 0))), ((xa 56), .inl ((xc 39), 8, .inl (fun _ => 0))), ((xa 57), .inl ((xc 40), 8, .inl (fun _ => 0))), ((xa 58), .inl ((xc 41), 8, .inl (fun _ => 0))), ((xa 59), .inl ((xc 42), 64, .inl (fun _ => 0))), ((xa 60), .inr (1, [.ref (xa 54)])), ((xa 61), .inr (4, [.ref (xa 54), .ref (xa 62), .ref (xa 63), .ref (xa 64), .ref (xa 65), .ref (xa 66), .ref (xa 67), .long 1, .long 0, .ref (xa 1), .ref (xa 11), .int 0, .int 0, .int 0])), ((xa 62), .inl ((xc 43), 1536, .inl (fun _ => 0))), ((xa 63), .inl ((xc 44), 256, .inl (fun _ => 0))), ((xa 64), .inl ((xc 45), 256, .inl (fun _ => 0))), ((xa 65), .inl ((xc 46), 256, .inr (.inl (fun _ => 0)))), ((xa 66), .inl ((xc 47), 256, .inr (.inl (fun _ => 0)))), ((xa 67), .inl ((xc 48), 6, .inr (.inl (fun _ => 0)))), ((xa 68), .inr (0, [.ref (xa 61), .ref (xa 69), .ref (xa 70), .int 0, .int 0])), ((xa 69), .inl ((xc 49), 256, .inl (fun _ => 0))), ((xa 70), .inl ((xc 50), 10, .inl (fun _ => 0))), ((xa 71), .inr (9, [.ref (xa 72), .int 0, .int (-1)])), ((xa 72), .inl ((xc 51), 40, .inr (.inl (fun _ => 0)))), ((xa 73), .inr (9, [.ref (xa 74), .int 0, .int (-1)])), ((xa 74), .inl ((xc 52), 40, .inr (.inl (fun _ => 0)))), ((xa 75), .inr (9, [.ref (xa 76), .int 0, .int (-1)])), ((xa 76), .inl ((xc 53), 40, .inr (.inl (fun _ => 0)))), ((xa 77), .inr (9, [.ref (xa 78), .int 0, .int (-1)])), ((xa 78), .inl ((xc 54), 40, .inr (.inl (fun _ => 0)))), ((xa 79), .inr (2, [.int 0, .ref (xa 80), .ref (xa 85)])), ((xa 80), .inr (6, [.int 0, .int 0, .ref (xa 81), .ref (xa 82), .ref (xa 83), .ref (xa 84), .int 0, .int 0, .int 0, .int 0, .int 0])), ((xa 81), .inl ((xc 55), 6, .inl (fun _ => 0))), ((xa 82), .inl ((xc 56), 6, .inl (fun _ => 0))), ((xa 83), .inl ((xc 57), 6, .inl (fun _ => 0))), ((xa 84), .inl ((xc 58), 900, .inl (fun _ => 0))), ((xa 85), .inr (8, [.int 0, .ref (xa 86), .ref (xa 87), .int 0, .int 0, .int 0, .int 0, .int 0, .int 0])), ((xa 86), .inl ((xc 59), 8, .inl (fun _ => 0))), ((xa 87), .inl ((xc 60), 8, .inl (fun _ => 0))), ((xa 88), .inr (2, [.int 0, .ref (xa 89), .ref (xa 94)])), ((xa 89), .inr (6, [.int 0, .int 0, .ref (xa 90), .ref (xa 91), .ref (xa 92), .ref (xa 93), .int 0, .int 0, .int 0, .int 0, .int 0])), ((xa 90), .inl ((xc 61), 6, .inl (fun _ => 0))), ((xa 91), .inl ((xc 62), 6, .inl (fun _ => 0))), ((xa 92), .inl ((xc 63), 6, .inl (fun _ => 0))), ((xa 93), .inl ((xc 64), 900, .inl (fun _ => 0))), ((xa 94), .inr (8, [.int 0, .ref (xa 95), .ref (xa 96), .int 0, .int 0, .int 0, .int 0, .int 0, .int 0])), ((xa 95), .inl ((xc 65), 8, .inl (fun _ => 0))), ((xa 96), .inl ((xc 66), 8, .inl (fun _ => 0))), (qm, .inr (11, [.int 0, .ref (mxa 0), .ref (mxa 1), .ref (mxa 2), .ref (mxa 3), .int 0, .int 0, .int 0, .int 0, .int 0, .int 0, .int 0, .int 0, .int 0, .int (-1), .ref (mxa 4), .ref (mxa 5), .ref (mxa 6), .int 0, .ref (mxa 7), .ref (mxa 8), .ref (mxa 9), .ref (mxa 10), .ref (mxa 11), .ref (mxa 12), .ref (mxa 13), .long 0, .ref (mxa 14), .ref (mxa 15), .ref (mxa 16), .ref (mxa 17), .ref (mxa 18)])), ((mxa 1), .inl ((mxc 1), 2, .inl (fun _ => 0))), ((mxa 2), .inl ((mxc 2), 900, .inl (fun _ => 0))), ((mxa 3), .inl ((mxc 3), 1181, .inl (fun _ => 0))), ((mxa 4), .inl ((mxc 4), 900, .inl (fun _ => 0))), ((mxa 5), .inl ((mxc 5), 8, .inl (fun _ => 0))), ((mxa 6), .inl ((mxc 6), 23, .inl (fun _ => 0))), ((mxa 7), .inl ((mxc 7), 1536, .inl (fun _ => 0))), ((mxa 8), .inl ((mxc 8), 256, .inl (fun _ => 0))), ((mxa 9), .inl ((mxc 9), 256, .inl (fun _ => 0))), ((mxa 10), .inl ((mxc 10), 256, .inl (fun _ => 0))), ((mxa 11), .inl ((mxc 11), 256, .inr (.inl (fun _ => 0)))), ((mxa 12), .inl ((mxc 12), 256, .inr (.inl (fun _ => 0)))), ((mxa 13), .inl ((mxc 13), 6, .inr (.inl (fun _ => 0)))), ((mxa 14), .inl ((mxc 14), 256, .inl (fun _ => 0))), ((mxa 15), .inl ((mxc 15), 9, .inl (fun _ => 0))), ((mxa 16), .inl ((mxc 16), 4, .inl (upd (upd (upd (upd (fun _ => 0) 0 (-1)) 1 (-1)) 2 (-1)) 3 (-1)))), ((mxa 17), .inl ((mxc 17), 4, .inl (fun _ => 0))), ((mxa 18), .inl ((mxc 18), 160, .inr (.inl (fun _ => 0)))), ((mxa 0), .inl ((mxc 0), 3543, .inl (fun _ => 0)))] : va_W)[k]? = some q ∧ q.1 = ad i ∧ ([0, 1, 2, 3, 4, 5, 6, 7, 8, 9, 10, 11, 12, 13, 14, 15, 16, 17, 18, 19, 20, 21, 22, 23, 24, 25, 26, 27, 28, 29, 30, 31, 32, 33, 34, 35, 36, 37, 38, 39, 40, 41, 42, 43, 44, 45, 46, 47, 48, 49, 50, 72, 73, 74, 75, 76, 77, 78, 79, 51, 80, 81, 82, 83, 84, 85, 86, 87, 88, 89, 90, 91, 92, 93, 94, 95, 96, 97, 52, 53, 54, 55, 56, 57, 58, 59, 60, 61, 62, 63, 64, 65, 66, 67, 68, 69, 70, 71, 98, 117, 99, 100, 101, 102, 103, 104, 105, 106, 107, 108, 109, 110, 111, 112, 113, 114, 115, 116] : List Nat)[i]? = some k := by
    intro i hi
    rcases (show i = 0 ∨ i = 1 ∨ i = 2 ∨ i = 3 ∨ i = 4 ∨ i = 5 ∨ i = 6 ∨ i = 7 ∨ i = 8 ∨ i = 9 ∨ i = 10 ∨ i = 11 ∨ i = 12 ∨ i = 13 ∨ i = 14 ∨ i = 15 ∨ i = 16 ∨ i = 17 ∨ i = 18 ∨ i = 19 ∨ i = 20 ∨ i = 21 ∨ i = 22 ∨ i = 23 ∨ i = 24 ∨ i = 25 ∨ i = 26 ∨ i = 27 ∨ i = 28 ∨ i = 29 ∨ i = 30 ∨ i = 31 ∨ i = 32 ∨ i = 33 ∨ i = 34 ∨ i = 35 ∨ i = 36 ∨ i = 37 ∨ i = 38 ∨ i = 39 ∨ i = 40 ∨ i = 41 ∨ i = 42 ∨ i = 43 ∨ i = 44 ∨ i = 45 ∨ i = 46 ∨ i = 47 ∨ i = 48 ∨ i = 49 ∨ i = 50 ∨ i = 51 ∨ i = 52 ∨ i = 53 ∨ i = 54 ∨ i = 55 ∨ i = 56 ∨ i = 57 ∨ i = 58 ∨ i = 59 ∨ i = 60 ∨ i = 61 ∨ i = 62 ∨ i = 63 ∨ i = 64 ∨ i = 65 ∨ i = 66 ∨ i = 67 ∨ i = 68 ∨ i = 69 ∨ i = 70 ∨ i = 71 ∨ i = 72 ∨ i = 73 ∨ i = 74 ∨ i = 75 ∨ i = 76 ∨ i = 77 ∨ i = 78 ∨ i = 79 ∨ i = 80 ∨ i = 81 ∨ i = 82 ∨ i = 83 ∨ i = 84 ∨ i = 85 ∨ i = 86 ∨ i = 87 ∨ i = 88 ∨ i = 89 ∨ i = 90 ∨ i = 91 ∨ i = 92 ∨ i = 93 ∨ i = 94 ∨ i = 95 ∨ i = 96 ∨ i = 97 ∨ i = 98 ∨ i = 99 ∨ i = 100 ∨ i = 101 ∨ i = 102 ∨ i = 103 ∨ i = 104 ∨ i = 105 ∨ i = 106 ∨ i = 107 ∨ i = 108 ∨ i = 109 ∨ i = 110 ∨ i = 111 ∨ i = 112 ∨ i = 113 ∨ i = 114 ∨ i = 115 ∨ i = 116 ∨ i = 117 by have hi2 : i < 118 := hi; omega) with rfl | rfl | rfl | rfl | rfl | rfl | rfl | rfl | rfl | rfl | rfl | rfl | rfl | rfl | rfl | rfl | rfl | rfl | rfl | rfl | rfl | rfl | rfl | rfl | rfl | rfl | rfl | rfl | rfl | rfl | rfl | rfl | rfl | rfl | rfl | rfl | rfl | rfl | rfl | rfl | rfl | rfl | rfl | rfl | rfl | rfl | rfl | rfl | rfl | rfl | rfl | rfl | rfl | rfl | rfl | rfl | rfl | rfl | rfl | rfl | rfl | rfl | rfl | rfl | rfl | rfl | rfl | rfl | rfl | rfl | rfl | rfl | rfl | rfl | rfl | rfl | rfl | rfl | rfl | rfl | rfl | rfl | rfl | rfl | rfl | rfl | rfl | rfl | rfl | rfl | rfl | rfl | rfl | rfl | rfl | rfl | rfl | rfl | rfl | rfl | rfl | rfl | rfl | rfl | rfl | rfl | rfl | rfl | rfl | rfl | rfl | rfl | rfl | rfl | rfl | rfl | rfl | rfl
    · exact ⟨0, _, rfl, a0.symm, rfl⟩
    · exact ⟨1, _, rfl, a1.symm, rfl⟩
    · exact ⟨2, _, rfl, a2.symm, rfl⟩
    · exact ⟨3, _, rfl, a3.symm, rfl⟩
    · exact ⟨4, _, rfl, a4.symm, rfl⟩
    · exact ⟨5, _, rfl, a5.symm, rfl⟩
    · exact ⟨6, _, rfl, a6.symm, rfl⟩
    · exact ⟨7, _, rfl, a7.symm, rfl⟩
    · exact ⟨8, _, rfl, a8.symm, rfl⟩
    · exact ⟨9, _, rfl, a9.symm, rfl⟩
    · exact ⟨10, _, rfl, a10.symm, rfl⟩
    · exact ⟨11, _, rfl, a11.symm, rfl⟩
    · exact ⟨12, _, rfl, a12.symm, rfl⟩
    · exact ⟨13, _, rfl, a13.symm, rfl⟩
    · exact ⟨14, _, rfl, a14.symm, rfl⟩
    · exact ⟨15, _, rfl, a15.symm, rfl⟩
    · exact ⟨16, _, rfl, a16.symm, rfl⟩
    · exact ⟨17, _, rfl, a17.symm, rfl⟩
    · exact ⟨18, _, rfl, a18.symm, rfl⟩
    · exact ⟨19, _, rfl, a19.symm, rfl⟩
    · exact ⟨20, _, rfl, a20.symm, rfl⟩
    · exact ⟨21, _, rfl, a21.symm, rfl⟩
    · exact ⟨22, _, rfl, a22.symm, rfl⟩
    · exact ⟨23, _, rfl, a23.symm, rfl⟩
    · exact ⟨24, _, rfl, a24.symm, rfl⟩
    · exact ⟨25, _, rfl, a25.symm, rfl⟩
    · exact ⟨26, _, rfl, a26.symm, rfl⟩
    · exact ⟨27, _, rfl, a27.symm, rfl⟩
    · exact ⟨28, _, rfl, a28.symm, rfl⟩
    · exact ⟨29, _, rfl, a29.symm, rfl⟩
    · exact ⟨30, _, rfl, a30.symm, rfl⟩
    · exact ⟨31, _, rfl, a31.symm, rfl⟩
    · exact ⟨32, _, rfl, a32.symm, rfl⟩
    · exact ⟨33, _, rfl, a33.symm, rfl⟩
    · exact ⟨34, _, rfl, a34.symm, rfl⟩
    · exact ⟨35, _, rfl, a35.symm, rfl⟩
    · exact ⟨36, _, rfl, a36.symm, rfl⟩
    · exact ⟨37, _, rfl, a37.symm, rfl⟩
    · exact ⟨38, _, rfl, a38.symm, rfl⟩
    · exact ⟨39, _, rfl, a39.symm, rfl⟩
    · exact ⟨40, _, rfl, a40.symm, rfl⟩
    · exact ⟨41, _, rfl, a41.symm, rfl⟩
    · exact ⟨42, _, rfl, a42.symm, rfl⟩
    · exact ⟨43, _, rfl, a43.symm, rfl⟩
    · exact ⟨44, _, rfl, a44.symm, rfl⟩
    · exact ⟨45, _, rfl, a45.symm, rfl⟩
    · exact ⟨46, _, rfl, a46.symm, rfl⟩
    · exact ⟨47, _, rfl, a47.symm, rfl⟩
    · exact ⟨48, _, rfl, a48.symm, rfl⟩
    · exact ⟨49, _, rfl, a49.symm, rfl⟩
    · exact ⟨50, _, rfl, a50.symm, rfl⟩
    · exact ⟨72, _, rfl, a51.symm, rfl⟩
    · exact ⟨73, _, rfl, a52.symm, rfl⟩
    · exact ⟨74, _, rfl, a53.symm, rfl⟩
    · exact ⟨75, _, rfl, a54.symm, rfl⟩
    · exact ⟨76, _, rfl, a55.symm, rfl⟩
    · exact ⟨77, _, rfl, a56.symm, rfl⟩
    · exact ⟨78, _, rfl, a57.symm, rfl⟩
    · exact ⟨79, _, rfl, a58.symm, rfl⟩
    · exact ⟨51, _, rfl, a59.symm, rfl⟩
    · exact ⟨80, _, rfl, a60.symm, rfl⟩
    · exact ⟨81, _, rfl, a61.symm, rfl⟩
    · exact ⟨82, _, rfl, a62.symm, rfl⟩
    · exact ⟨83, _, rfl, a63.symm, rfl⟩
    · exact ⟨84, _, rfl, a64.symm, rfl⟩
    · exact ⟨85, _, rfl, a65.symm, rfl⟩
    · exact ⟨86, _, rfl, a66.symm, rfl⟩
    · exact ⟨87, _, rfl, a67.symm, rfl⟩
    · exact ⟨88, _, rfl, a68.symm, rfl⟩
    · exact ⟨89, _, rfl, a69.symm, rfl⟩
    · exact ⟨90, _, rfl, a70.symm, rfl⟩
    · exact ⟨91, _, rfl, a71.symm, rfl⟩
    · exact ⟨92, _, rfl, a72.symm, rfl⟩
    · exact ⟨93, _, rfl, a73.symm, rfl⟩
    · exact ⟨94, _, rfl, a74.symm, rfl⟩
    · exact ⟨95, _, rfl, a75.symm, rfl⟩
    · exact ⟨96, _, rfl, a76.symm, rfl⟩
    · exact ⟨97, _, rfl, a77.symm, rfl⟩
    · exact ⟨52, _, rfl, a78.symm, rfl⟩
    · exact ⟨53, _, rfl, a79.symm, rfl⟩
    · exact ⟨54, _, rfl, a80.symm, rfl⟩
    · exact ⟨55, _, rfl, a81.symm, rfl⟩
    · exact ⟨56, _, rfl, a82.symm, rfl⟩
    · exact ⟨57, _, rfl, a83.symm, rfl⟩
    · exact ⟨58, _, rfl, a84.symm, rfl⟩
    · exact ⟨59, _, rfl, a85.symm, rfl⟩
    · exact ⟨60, _, rfl, a86.symm, rfl⟩
    · exact ⟨61, _, rfl, a87.symm, rfl⟩
    · exact ⟨62, _, rfl, a88.symm, rfl⟩
    · exact ⟨63, _, rfl, a89.symm, rfl⟩
    · exact ⟨64, _, rfl, a90.symm, rfl⟩
    · exact ⟨65, _, rfl, a91.symm, rfl⟩
    · exact ⟨66, _, rfl, a92.symm, rfl⟩
    · exact ⟨67, _, rfl, a93.symm, rfl⟩
    · exact ⟨68, _, rfl, a94.symm, rfl⟩
    · exact ⟨69, _, rfl, a95.symm, rfl⟩
    · exact ⟨70, _, rfl, a96.symm, rfl⟩
    · exact ⟨71, _, rfl, a97.symm, rfl⟩
    · exact ⟨98, _, rfl, a98.symm, rfl⟩
    · exact ⟨117, _, rfl, a99.symm, rfl⟩
    · exact ⟨99, _, rfl, a100.symm, rfl⟩
    · exact ⟨100, _, rfl, a101.symm, rfl⟩
    · exact ⟨101, _, rfl, a102.symm, rfl⟩
    · exact ⟨102, _, rfl, a103.symm, rfl⟩
    · exact ⟨103, _, rfl, a104.symm, rfl⟩
    · exact ⟨104, _, rfl, a105.symm, rfl⟩
    · exact ⟨105, _, rfl, a106.symm, rfl⟩
    · exact ⟨106, _, rfl, a107.symm, rfl⟩
    · exact ⟨107, _, rfl, a108.symm, rfl⟩
    · exact ⟨108, _, rfl, a109.symm, rfl⟩
    · exact ⟨109, _, rfl, a110.symm, rfl⟩
    · exact ⟨110, _, rfl, a111.symm, rfl⟩
    · exact ⟨111, _, rfl, a112.symm, rfl⟩
    · exact ⟨112, _, rfl, a113.symm, rfl⟩
    · exact ⟨113, _, rfl, a114.symm, rfl⟩
    · exact ⟨114, _, rfl, a115.symm, rfl⟩
    · exact ⟨115, _, rfl, a116.symm, rfl⟩
    · exact ⟨116, _, rfl, a117.symm, rfl⟩
  have hDD : jj_D ad := by
    intro i j hi hj he
    obtain ⟨k1, q1, g1, g2, g3⟩ := hg i hi
    obtain ⟨k2, q2, g4, g5, g6⟩ := hg j hj
    have hk := hD.1 k1 k2 q1 q2 g1 g4 (by rw [g2, g5, he])
    subst hk
    exact va_nd_inj _ (show va_nd [0, 1, 2, 3, 4, 5, 6, 7, 8, 9, 10, 11, 12, 13, 14, 15, 16, 17, 18, 19, 20, 21, 22, 23, 24, 25, 26, 27, 28, 29, 30, 31, 32, 33, 34, 35, 36, 37, 38, 39, 40, 41, 42, 43, 44, 45, 46, 47, 48, 49, 50, 72, 73, 74, 75, 76, 77, 78, 79, 51, 80, 81, 82, 83, 84, 85, 86, 87, 88, 89, 90, 91, 92, 93, 94, 95, 96, 97, 52, 53, 54, 55, 56, 57, 58, 59, 60, 61, 62, 63, 64, 65, 66, 67, 68, 69, 70, 71, 98, 117, 99, 100, 101, 102, 103, 104, 105, 106, 107, 108, 109, 110, 111, 112, 113, 114, 115, 116] = true by decide) i j k1 g3 g6
  have hAd : ∀ i, i < mm_N → (fun q : Nat => s.heap.size ≤ q) (ad i) := by
    intro i hi
    obtain ⟨k1, q1, g1, g2, g3⟩ := hg i hi
    rw [← g2]
    exact hD.2 k1 q1 g1
  have hKK : jj_K dC dI cA s := by
    refine ⟨hK.sub (tys' := []) [] rfl, fun i hi hk => ?_⟩
    rcases (show i = 0 ∨ i = 1 ∨ i = 2 ∨ i = 3 ∨ i = 4 ∨ i = 5 ∨ i = 6 ∨ i = 7 ∨ i = 8 ∨ i = 9 ∨ i = 10 ∨ i = 11 ∨ i = 12 ∨ i = 13 ∨ i = 14 ∨ i = 15 ∨ i = 16 ∨ i = 17 ∨ i = 18 ∨ i = 19 ∨ i = 20 ∨ i = 21 ∨ i = 22 ∨ i = 23 ∨ i = 24 ∨ i = 25 ∨ i = 26 ∨ i = 27 ∨ i = 28 ∨ i = 29 ∨ i = 30 ∨ i = 31 ∨ i = 32 ∨ i = 33 ∨ i = 34 ∨ i = 35 ∨ i = 36 ∨ i = 37 ∨ i = 38 ∨ i = 39 ∨ i = 40 ∨ i = 41 ∨ i = 42 ∨ i = 43 ∨ i = 44 ∨ i = 45 ∨ i = 46 ∨ i = 47 ∨ i = 48 ∨ i = 49 ∨ i = 50 ∨ i = 51 ∨ i = 52 ∨ i = 53 ∨ i = 54 ∨ i = 55 ∨ i = 56 ∨ i = 57 ∨ i = 58 ∨ i = 59 ∨ i = 60 ∨ i = 61 ∨ i = 62 ∨ i = 63 ∨ i = 64 ∨ i = 65 ∨ i = 66 ∨ i = 67 ∨ i = 68 ∨ i = 69 ∨ i = 70 ∨ i = 71 ∨ i = 72 ∨ i = 73 ∨ i = 74 ∨ i = 75 ∨ i = 76 ∨ i = 77 ∨ i = 78 ∨ i = 79 ∨ i = 80 ∨ i = 81 ∨ i = 82 ∨ i = 83 ∨ i = 84 ∨ i = 85 ∨ i = 86 ∨ i = 87 ∨ i = 88 ∨ i = 89 ∨ i = 90 ∨ i = 91 ∨ i = 92 ∨ i = 93 ∨ i = 94 ∨ i = 95 ∨ i = 96 ∨ i = 97 ∨ i = 98 ∨ i = 99 ∨ i = 100 ∨ i = 101 ∨ i = 102 ∨ i = 103 ∨ i = 104 ∨ i = 105 ∨ i = 106 ∨ i = 107 ∨ i = 108 ∨ i = 109 ∨ i = 110 ∨ i = 111 ∨ i = 112 ∨ i = 113 ∨ i = 114 ∨ i = 115 ∨ i = 116 ∨ i = 117 by have hi2 : i < 118 := hi; omega) with rfl | rfl | rfl | rfl | rfl | rfl | rfl | rfl | rfl | rfl | rfl | rfl | rfl | rfl | rfl | rfl | rfl | rfl | rfl | rfl | rfl | rfl | rfl | rfl | rfl | rfl | rfl | rfl | rfl | rfl | rfl | rfl | rfl | rfl | rfl | rfl | rfl | rfl | rfl | rfl | rfl | rfl | rfl | rfl | rfl | rfl | rfl | rfl | rfl | rfl | rfl | rfl | rfl | rfl | rfl | rfl | rfl | rfl | rfl | rfl | rfl | rfl | rfl | rfl | rfl | rfl | rfl | rfl | rfl | rfl | rfl | rfl | rfl | rfl | rfl | rfl | rfl | rfl | rfl | rfl | rfl | rfl | rfl | rfl | rfl | rfl | rfl | rfl | rfl | rfl | rfl | rfl | rfl | rfl | rfl | rfl | rfl | rfl | rfl | rfl | rfl | rfl | rfl | rfl | rfl | rfl | rfl | rfl | rfl | rfl | rfl | rfl | rfl | rfl | rfl | rfl | rfl | rfl
    · exact absurd hk (by decide)
    · rw [d1]; exact hK.2 0 _ rfl
    · exact absurd hk (by decide)
    · rw [d3]; exact hK.2 1 _ rfl
    · rw [d4]; exact hK.2 2 _ rfl
    · rw [d5]; exact hK.2 3 _ rfl
    · rw [d6]; exact hK.2 4 _ rfl
    · exact absurd hk (by decide)
    · rw [d8]; exact hK.2 5 _ rfl
    · rw [d9]; exact hK.2 6 _ rfl
    · rw [d10]; exact hK.2 7 _ rfl
    · rw [d11]; exact hK.2 8 _ rfl
    · exact absurd hk (by decide)
    · rw [d13]; exact hK.2 9 _ rfl
    · rw [d14]; exact hK.2 10 _ rfl
    · exact absurd hk (by decide)
    · rw [d16]; exact hK.2 11 _ rfl
    · rw [d17]; exact hK.2 12 _ rfl
    · exact absurd hk (by decide)
    · rw [d19]; exact hK.2 13 _ rfl
    · exact absurd hk (by decide)
    · rw [d21]; exact hK.2 14 _ rfl
    · rw [d22]; exact hK.2 15 _ rfl
    · exact absurd hk (by decide)
    · rw [d24]; exact hK.2 16 _ rfl
    · rw [d25]; exact hK.2 17 _ rfl
    · exact absurd hk (by decide)
    · rw [d27]; exact hK.2 18 _ rfl
    · rw [d28]; exact hK.2 19 _ rfl
    · exact absurd hk (by decide)
    · rw [d30]; exact hK.2 20 _ rfl
    · rw [d31]; exact hK.2 21 _ rfl
    · exact absurd hk (by decide)
    · rw [d33]; exact hK.2 22 _ rfl
    · rw [d34]; exact hK.2 23 _ rfl
    · exact absurd hk (by decide)
    · rw [d36]; exact hK.2 24 _ rfl
    · rw [d37]; exact hK.2 25 _ rfl
    · exact absurd hk (by decide)
    · rw [d39]; exact hK.2 26 _ rfl
    · rw [d40]; exact hK.2 27 _ rfl
    · exact absurd hk (by decide)
    · rw [d42]; exact hK.2 28 _ rfl
    · rw [d43]; exact hK.2 29 _ rfl
    · exact absurd hk (by decide)
    · rw [d45]; exact hK.2 30 _ rfl
    · rw [d46]; exact hK.2 31 _ rfl
    · exact absurd hk (by decide)
    · rw [d48]; exact hK.2 32 _ rfl
    · rw [d49]; exact hK.2 33 _ rfl
    · rw [d50]; exact hK.2 34 _ rfl
    · exact absurd hk (by decide)
    · rw [d52]; exact hK.2 51 _ rfl
    · exact absurd hk (by decide)
    · rw [d54]; exact hK.2 52 _ rfl
    · exact absurd hk (by decide)
    · rw [d56]; exact hK.2 53 _ rfl
    · exact absurd hk (by decide)
    · rw [d58]; exact hK.2 54 _ rfl
    · rw [d59]; exact hK.2 35 _ rfl
    · exact absurd hk (by decide)
    · exact absurd hk (by decide)
    · rw [d62]; exact hK.2 55 _ rfl
    · rw [d63]; exact hK.2 56 _ rfl
    · rw [d64]; exact hK.2 57 _ rfl
    · rw [d65]; exact hK.2 58 _ rfl
    · exact absurd hk (by decide)
    · rw [d67]; exact hK.2 59 _ rfl
    · rw [d68]; exact hK.2 60 _ rfl
    · exact absurd hk (by decide)
    · exact absurd hk (by decide)
    · rw [d71]; exact hK.2 61 _ rfl
    · rw [d72]; exact hK.2 62 _ rfl
    · rw [d73]; exact hK.2 63 _ rfl
    · rw [d74]; exact hK.2 64 _ rfl
    · exact absurd hk (by decide)
    · rw [d76]; exact hK.2 65 _ rfl
    · rw [d77]; exact hK.2 66 _ rfl
    · exact absurd hk (by decide)
    · rw [d79]; exact hK.2 36 _ rfl
    · rw [d80]; exact hK.2 37 _ rfl
    · exact absurd hk (by decide)
    · rw [d82]; exact hK.2 38 _ rfl
    · rw [d83]; exact hK.2 39 _ rfl
    · rw [d84]; exact hK.2 40 _ rfl
    · rw [d85]; exact hK.2 41 _ rfl
    · rw [d86]; exact hK.2 42 _ rfl
    · exact absurd hk (by decide)
    · exact absurd hk (by decide)
    · rw [d89]; exact hK.2 43 _ rfl
    · rw [d90]; exact hK.2 44 _ rfl
    · rw [d91]; exact hK.2 45 _ rfl
    · rw [d92]; exact hK.2 46 _ rfl
    · rw [d93]; exact hK.2 47 _ rfl
    · rw [d94]; exact hK.2 48 _ rfl
    · exact absurd hk (by decide)
    · rw [d96]; exact hK.2 49 _ rfl
    · rw [d97]; exact hK.2 50 _ rfl
    · exact absurd hk (by decide)
    · rw [d99]; exact hK.2 67 _ rfl
    · rw [d100]; exact hK.2 68 _ rfl
    · rw [d101]; exact hK.2 69 _ rfl
    · rw [d102]; exact hK.2 70 _ rfl
    · rw [d103]; exact hK.2 71 _ rfl
    · rw [d104]; exact hK.2 72 _ rfl
    · rw [d105]; exact hK.2 73 _ rfl
    · rw [d106]; exact hK.2 74 _ rfl
    · rw [d107]; exact hK.2 75 _ rfl
    · rw [d108]; exact hK.2 76 _ rfl
    · rw [d109]; exact hK.2 77 _ rfl
    · rw [d110]; exact hK.2 78 _ rfl
    · rw [d111]; exact hK.2 79 _ rfl
    · rw [d112]; exact hK.2 80 _ rfl
    · rw [d113]; exact hK.2 81 _ rfl
    · rw [d114]; exact hK.2 82 _ rfl
    · rw [d115]; exact hK.2 83 _ rfl
    · rw [d116]; exact hK.2 84 _ rfl
    · rw [d117]; exact hK.2 85 _ rfl
  have hPool : va_P (dC, dI) vwCl (mm_w ad cA M0) H := by
    intro i q hq
    obtain ⟨hi, rfl⟩ := mm_w_lt hq
    rcases (show i = 0 ∨ i = 1 ∨ i = 2 ∨ i = 3 ∨ i = 4 ∨ i = 5 ∨ i = 6 ∨ i = 7 ∨ i = 8 ∨ i = 9 ∨ i = 10 ∨ i = 11 ∨ i = 12 ∨ i = 13 ∨ i = 14 ∨ i = 15 ∨ i = 16 ∨ i = 17 ∨ i = 18 ∨ i = 19 ∨ i = 20 ∨ i = 21 ∨ i = 22 ∨ i = 23 ∨ i = 24 ∨ i = 25 ∨ i = 26 ∨ i = 27 ∨ i = 28 ∨ i = 29 ∨ i = 30 ∨ i = 31 ∨ i = 32 ∨ i = 33 ∨ i = 34 ∨ i = 35 ∨ i = 36 ∨ i = 37 ∨ i = 38 ∨ i = 39 ∨ i = 40 ∨ i = 41 ∨ i = 42 ∨ i = 43 ∨ i = 44 ∨ i = 45 ∨ i = 46 ∨ i = 47 ∨ i = 48 ∨ i = 49 ∨ i = 50 ∨ i = 51 ∨ i = 52 ∨ i = 53 ∨ i = 54 ∨ i = 55 ∨ i = 56 ∨ i = 57 ∨ i = 58 ∨ i = 59 ∨ i = 60 ∨ i = 61 ∨ i = 62 ∨ i = 63 ∨ i = 64 ∨ i = 65 ∨ i = 66 ∨ i = 67 ∨ i = 68 ∨ i = 69 ∨ i = 70 ∨ i = 71 ∨ i = 72 ∨ i = 73 ∨ i = 74 ∨ i = 75 ∨ i = 76 ∨ i = 77 ∨ i = 78 ∨ i = 79 ∨ i = 80 ∨ i = 81 ∨ i = 82 ∨ i = 83 ∨ i = 84 ∨ i = 85 ∨ i = 86 ∨ i = 87 ∨ i = 88 ∨ i = 89 ∨ i = 90 ∨ i = 91 ∨ i = 92 ∨ i = 93 ∨ i = 94 ∨ i = 95 ∨ i = 96 ∨ i = 97 ∨ i = 98 ∨ i = 99 ∨ i = 100 ∨ i = 101 ∨ i = 102 ∨ i = 103 ∨ i = 104 ∨ i = 105 ∨ i = 106 ∨ i = 107 ∨ i = 108 ∨ i = 109 ∨ i = 110 ∨ i = 111 ∨ i = 112 ∨ i = 113 ∨ i = 114 ∨ i = 115 ∨ i = 116 ∨ i = 117 by have hi2 : i < 118 := hi; omega) with rfl | rfl | rfl | rfl | rfl | rfl | rfl | rfl | rfl | rfl | rfl | rfl | rfl | rfl | rfl | rfl | rfl | rfl | rfl | rfl | rfl | rfl | rfl | rfl | rfl | rfl | rfl | rfl | rfl | rfl | rfl | rfl | rfl | rfl | rfl | rfl | rfl | rfl | rfl | rfl | rfl | rfl | rfl | rfl | rfl | rfl | rfl | rfl | rfl | rfl | rfl | rfl | rfl | rfl | rfl | rfl | rfl | rfl | rfl | rfl | rfl | rfl | rfl | rfl | rfl | rfl | rfl | rfl | rfl | rfl | rfl | rfl | rfl | rfl | rfl | rfl | rfl | rfl | rfl | rfl | rfl | rfl | rfl | rfl | rfl | rfl | rfl | rfl | rfl | rfl | rfl | rfl | rfl | rfl | rfl | rfl | rfl | rfl | rfl | rfl | rfl | rfl | rfl | rfl | rfl | rfl | rfl | rfl | rfl | rfl | rfl | rfl | rfl | rfl | rfl | rfl | rfl | rfl
    · show va_at (dC, dI) vwCl (ad 0, .inr (10, [.ref (ad 1), .int 0, .int 0, .int (-1), .ref (ad 2), .ref (ad 7), .ref (ad 12), .ref (ad 15), .ref (ad 18), .ref (ad 50), .ref (ad 59), .ref (ad 78), .ref (ad 81), .ref (ad 87), .ref (ad 88), .ref (ad 95)])) H
      rw [a0, a1, a2, a7, a12, a15, a18, a50, a59, a78, a81, a87, a88, a95]
      exact hP 0 _ rfl
    · show H[ad 1]? = some (vp_cell (cA 1) (900, .inl (M0.1 1)))
      rw [a1, d1]
      exact hP 1 _ rfl
    · show va_at (dC, dI) vwCl (ad 2, .inr (6, [.int 0, .int 0, .ref (ad 3), .ref (ad 4), .ref (ad 5), .ref (ad 6), .int 0, .int 0, .int 0, .int 0, .int 0])) H
      rw [a2, a3, a4, a5, a6]
      exact hP 2 _ rfl
    · show H[ad 3]? = some (vp_cell (cA 3) (6, .inl (M0.1 3)))
      rw [a3, d3]
      exact hP 3 _ rfl
    · show H[ad 4]? = some (vp_cell (cA 4) (6, .inl (M0.1 4)))
      rw [a4, d4]
      exact hP 4 _ rfl
    · show H[ad 5]? = some (vp_cell (cA 5) (6, .inl (M0.1 5)))
      rw [a5, d5]
      exact hP 5 _ rfl
    · show H[ad 6]? = some (vp_cell (cA 6) (900, .inl (M0.1 6)))
      rw [a6, d6]
      exact hP 6 _ rfl
    · show va_at (dC, dI) vwCl (ad 7, .inr (6, [.int 0, .int 0, .ref (ad 8), .ref (ad 9), .ref (ad 10), .ref (ad 11), .int 0, .int 0, .int 0, .int 0, .int 0])) H
      rw [a7, a8, a9, a10, a11]
      exact hP 7 _ rfl
    · show H[ad 8]? = some (vp_cell (cA 8) (6, .inl (M0.1 8)))
      rw [a8, d8]
      exact hP 8 _ rfl
    · show H[ad 9]? = some (vp_cell (cA 9) (6, .inl (M0.1 9)))
      rw [a9, d9]
      exact hP 9 _ rfl
    · show H[ad 10]? = some (vp_cell (cA 10) (6, .inl (M0.1 10)))
      rw [a10, d10]
      exact hP 10 _ rfl
    · show H[ad 11]? = some (vp_cell (cA 11) (900, .inl (M0.1 11)))
      rw [a11, d11]
      exact hP 11 _ rfl
    · show va_at (dC, dI) vwCl (ad 12, .inr (8, [.int 0, .ref (ad 13), .ref (ad 14), .int 0, .int 0, .int 0, .int 0, .int 0, .int 0])) H
      rw [a12, a13, a14]
      exact hP 12 _ rfl
    · show H[ad 13]? = some (vp_cell (cA 13) (8, .inl (M0.1 13)))
      rw [a13, d13]
      exact hP 13 _ rfl
    · show H[ad 14]? = some (vp_cell (cA 14) (8, .inl (M0.1 14)))
      rw [a14, d14]
      exact hP 14 _ rfl
    · show va_at (dC, dI) vwCl (ad 15, .inr (8, [.int 0, .ref (ad 16), .ref (ad 17), .int 0, .int 0, .int 0, .int 0, .int 0, .int 0])) H
      rw [a15, a16, a17]
      exact hP 15 _ rfl
    · show H[ad 16]? = some (vp_cell (cA 16) (8, .inl (M0.1 16)))
      rw [a16, d16]
      exact hP 16 _ rfl
    · show H[ad 17]? = some (vp_cell (cA 17) (8, .inl (M0.1 17)))
      rw [a17, d17]
      exact hP 17 _ rfl
    · show va_at (dC, dI) vwCl (ad 18, .inr (5, [.ref (ad 19), .int 0, .int 0])) H
      rw [a18, a19]
      exact hP 18 _ rfl
    · show H[ad 19]? = some (vp_cell (cA 19) (10, .inr (.inr (.inr (.inr (fun k => some (ad (M0.2.2 19 k))))))))
      rw [a19, d19]
      exact (show H[(xa 18)]? = some (vp_cell (xc 13) (10, .inr (.inr (.inr (.inr (va_up (va_up (va_up (va_up (va_up (va_up (va_up (va_up (va_up (va_up (fun _ => none) 0 (some (xa 19))) 1 (some (xa 22))) 2 (some (xa 25))) 3 (some (xa 28))) 4 (some (xa 31))) 5 (some (xa 34))) 6 (some (xa 37))) 7 (some (xa 40))) 8 (some (xa 43))) 9 (some (xa 46)))))))) from hP 19 _ rfl).trans (congrArg some (vp_cell_qc (fun j hj => by
        rcases (show j = 0 ∨ j = 1 ∨ j = 2 ∨ j = 3 ∨ j = 4 ∨ j = 5 ∨ j = 6 ∨ j = 7 ∨ j = 8 ∨ j = 9 by omega) with rfl | rfl | rfl | rfl | rfl | rfl | rfl | rfl | rfl | rfl
        · exact congrArg some a20.symm
        · exact congrArg some a23.symm
        · exact congrArg some a26.symm
        · exact congrArg some a29.symm
        · exact congrArg some a32.symm
        · exact congrArg some a35.symm
        · exact congrArg some a38.symm
        · exact congrArg some a41.symm
        · exact congrArg some a44.symm
        · exact congrArg some a47.symm)))
    · show va_at (dC, dI) vwCl (ad 20, .inr (8, [.int 0, .ref (ad 21), .ref (ad 22), .int 0, .int 0, .int 0, .int 0, .int 0, .int 0])) H
      rw [a20, a21, a22]
      exact hP 20 _ rfl
    · show H[ad 21]? = some (vp_cell (cA 21) (8, .inl (M0.1 21)))
      rw [a21, d21]
      exact hP 21 _ rfl
    · show H[ad 22]? = some (vp_cell (cA 22) (8, .inl (M0.1 22)))
      rw [a22, d22]
      exact hP 22 _ rfl
    · show va_at (dC, dI) vwCl (ad 23, .inr (8, [.int 0, .ref (ad 24), .ref (ad 25), .int 0, .int 0, .int 0, .int 0, .int 0, .int 0])) H
      rw [a23, a24, a25]
      exact hP 23 _ rfl
    · show H[ad 24]? = some (vp_cell (cA 24) (8, .inl (M0.1 24)))
      rw [a24, d24]
      exact hP 24 _ rfl
    · show H[ad 25]? = some (vp_cell (cA 25) (8, .inl (M0.1 25)))
      rw [a25, d25]
      exact hP 25 _ rfl
    · show va_at (dC, dI) vwCl (ad 26, .inr (8, [.int 0, .ref (ad 27), .ref (ad 28), .int 0, .int 0, .int 0, .int 0, .int 0, .int 0])) H
      rw [a26, a27, a28]
      exact hP 26 _ rfl
    · show H[ad 27]? = some (vp_cell (cA 27) (8, .inl (M0.1 27)))
      rw [a27, d27]
      exact hP 27 _ rfl
    · show H[ad 28]? = some (vp_cell (cA 28) (8, .inl (M0.1 28)))
      rw [a28, d28]
      exact hP 28 _ rfl
    · show va_at (dC, dI) vwCl (ad 29, .inr (8, [.int 0, .ref (ad 30), .ref (ad 31), .int 0, .int 0, .int 0, .int 0, .int 0, .int 0])) H
      rw [a29, a30, a31]
      exact hP 29 _ rfl
    · show H[ad 30]? = some (vp_cell (cA 30) (8, .inl (M0.1 30)))
      rw [a30, d30]
      exact hP 30 _ rfl
    · show H[ad 31]? = some (vp_cell (cA 31) (8, .inl (M0.1 31)))
      rw [a31, d31]
      exact hP 31 _ rfl
    · show va_at (dC, dI) vwCl (ad 32, .inr (8, [.int 0, .ref (ad 33), .ref (ad 34), .int 0, .int 0, .int 0, .int 0, .int 0, .int 0])) H
      rw [a32, a33, a34]
      exact hP 32 _ rfl
    · show H[ad 33]? = some (vp_cell (cA 33) (8, .inl (M0.1 33)))
      rw [a33, d33]
      exact hP 33 _ rfl
    · show H[ad 34]? = some (vp_cell (cA 34) (8, .inl (M0.1 34)))
      rw [a34, d34]
      exact hP 34 _ rfl
    · show va_at (dC, dI) vwCl (ad 35, .inr (8, [.int 0, .ref (ad 36), .ref (ad 37), .int 0, .int 0, .int 0, .int 0, .int 0, .int 0])) H
      rw [a35, a36, a37]
      exact hP 35 _ rfl
    · show H[ad 36]? = some (vp_cell (cA 36) (8, .inl (M0.1 36)))
      rw [a36, d36]
      exact hP 36 _ rfl
    · show H[ad 37]? = some (vp_cell (cA 37) (8, .inl (M0.1 37)))
      rw [a37, d37]
      exact hP 37 _ rfl
    · show va_at (dC, dI) vwCl (ad 38, .inr (8, [.int 0, .ref (ad 39), .ref (ad 40), .int 0, .int 0, .int 0, .int 0, .int 0, .int 0])) H
      rw [a38, a39, a40]
      exact hP 38 _ rfl
    · show H[ad 39]? = some (vp_cell (cA 39) (8, .inl (M0.1 39)))
      rw [a39, d39]
      exact hP 39 _ rfl
    · show H[ad 40]? = some (vp_cell (cA 40) (8, .inl (M0.1 40)))
      rw [a40, d40]
      exact hP 40 _ rfl
    · show va_at (dC, dI) vwCl (ad 41, .inr (8, [.int 0, .ref (ad 42), .ref (ad 43), .int 0, .int 0, .int 0, .int 0, .int 0, .int 0])) H
      rw [a41, a42, a43]
      exact hP 41 _ rfl
    · show H[ad 42]? = some (vp_cell (cA 42) (8, .inl (M0.1 42)))
      rw [a42, d42]
      exact hP 42 _ rfl
    · show H[ad 43]? = some (vp_cell (cA 43) (8, .inl (M0.1 43)))
      rw [a43, d43]
      exact hP 43 _ rfl
    · show va_at (dC, dI) vwCl (ad 44, .inr (8, [.int 0, .ref (ad 45), .ref (ad 46), .int 0, .int 0, .int 0, .int 0, .int 0, .int 0])) H
      rw [a44, a45, a46]
      exact hP 44 _ rfl
    · show H[ad 45]? = some (vp_cell (cA 45) (8, .inl (M0.1 45)))
      rw [a45, d45]
      exact hP 45 _ rfl
    · show H[ad 46]? = some (vp_cell (cA 46) (8, .inl (M0.1 46)))
      rw [a46, d46]
      exact hP 46 _ rfl
    · show va_at (dC, dI) vwCl (ad 47, .inr (8, [.int 0, .ref (ad 48), .ref (ad 49), .int 0, .int 0, .int 0, .int 0, .int 0, .int 0])) H
      rw [a47, a48, a49]
      exact hP 47 _ rfl
    · show H[ad 48]? = some (vp_cell (cA 48) (8, .inl (M0.1 48)))
      rw [a48, d48]
      exact hP 48 _ rfl
    · show H[ad 49]? = some (vp_cell (cA 49) (8, .inl (M0.1 49)))
      rw [a49, d49]
      exact hP 49 _ rfl
    · show H[ad 50]? = some (vp_cell (cA 50) (4, .inr (.inr (.inr (.inr (fun k => some (ad (M0.2.2 50 k))))))))
      rw [a50, d50]
      exact (show H[(xa 49)]? = some (vp_cell (xc 34) (4, .inr (.inr (.inr (.inr (va_up (va_up (va_up (va_up (fun _ => none) 0 (some (xa 71))) 1 (some (xa 73))) 2 (some (xa 75))) 3 (some (xa 77)))))))) from hP 50 _ rfl).trans (congrArg some (vp_cell_qc (fun j hj => by
        rcases (show j = 0 ∨ j = 1 ∨ j = 2 ∨ j = 3 by omega) with rfl | rfl | rfl | rfl
        · exact congrArg some a51.symm
        · exact congrArg some a53.symm
        · exact congrArg some a55.symm
        · exact congrArg some a57.symm)))
    · show va_at (dC, dI) vwCl (ad 51, .inr (9, [.ref (ad 52), .int 0, .int (-1)])) H
      rw [a51, a52]
      exact hP 72 _ rfl
    · show H[ad 52]? = some (vp_cell (cA 52) (40, .inr (.inl (M0.2.1 52))))
      rw [a52, d52]
      exact hP 73 _ rfl
    · show va_at (dC, dI) vwCl (ad 53, .inr (9, [.ref (ad 54), .int 0, .int (-1)])) H
      rw [a53, a54]
      exact hP 74 _ rfl
    · show H[ad 54]? = some (vp_cell (cA 54) (40, .inr (.inl (M0.2.1 54))))
      rw [a54, d54]
      exact hP 75 _ rfl
    · show va_at (dC, dI) vwCl (ad 55, .inr (9, [.ref (ad 56), .int 0, .int (-1)])) H
      rw [a55, a56]
      exact hP 76 _ rfl
    · show H[ad 56]? = some (vp_cell (cA 56) (40, .inr (.inl (M0.2.1 56))))
      rw [a56, d56]
      exact hP 77 _ rfl
    · show va_at (dC, dI) vwCl (ad 57, .inr (9, [.ref (ad 58), .int 0, .int (-1)])) H
      rw [a57, a58]
      exact hP 78 _ rfl
    · show H[ad 58]? = some (vp_cell (cA 58) (40, .inr (.inl (M0.2.1 58))))
      rw [a58, d58]
      exact hP 79 _ rfl
    · show H[ad 59]? = some (vp_cell (cA 59) (2, .inr (.inr (.inr (.inr (fun k => some (ad (M0.2.2 59 k))))))))
      rw [a59, d59]
      exact (show H[(xa 50)]? = some (vp_cell (xc 35) (2, .inr (.inr (.inr (.inr (va_up (va_up (fun _ => none) 0 (some (xa 79))) 1 (some (xa 88)))))))) from hP 51 _ rfl).trans (congrArg some (vp_cell_qc (fun j hj => by
        rcases (show j = 0 ∨ j = 1 by omega) with rfl | rfl
        · exact congrArg some a60.symm
        · exact congrArg some a69.symm)))
    · show va_at (dC, dI) vwCl (ad 60, .inr (2, [.int 0, .ref (ad 61), .ref (ad 66)])) H
      rw [a60, a61, a66]
      exact hP 80 _ rfl
    · show va_at (dC, dI) vwCl (ad 61, .inr (6, [.int 0, .int 0, .ref (ad 62), .ref (ad 63), .ref (ad 64), .ref (ad 65), .int 0, .int 0, .int 0, .int 0, .int 0])) H
      rw [a61, a62, a63, a64, a65]
      exact hP 81 _ rfl
    · show H[ad 62]? = some (vp_cell (cA 62) (6, .inl (M0.1 62)))
      rw [a62, d62]
      exact hP 82 _ rfl
    · show H[ad 63]? = some (vp_cell (cA 63) (6, .inl (M0.1 63)))
      rw [a63, d63]
      exact hP 83 _ rfl
    · show H[ad 64]? = some (vp_cell (cA 64) (6, .inl (M0.1 64)))
      rw [a64, d64]
      exact hP 84 _ rfl
    · show H[ad 65]? = some (vp_cell (cA 65) (900, .inl (M0.1 65)))
      rw [a65, d65]
      exact hP 85 _ rfl
    · show va_at (dC, dI) vwCl (ad 66, .inr (8, [.int 0, .ref (ad 67), .ref (ad 68), .int 0, .int 0, .int 0, .int 0, .int 0, .int 0])) H
      rw [a66, a67, a68]
      exact hP 86 _ rfl
    · show H[ad 67]? = some (vp_cell (cA 67) (8, .inl (M0.1 67)))
      rw [a67, d67]
      exact hP 87 _ rfl
    · show H[ad 68]? = some (vp_cell (cA 68) (8, .inl (M0.1 68)))
      rw [a68, d68]
      exact hP 88 _ rfl
    · show va_at (dC, dI) vwCl (ad 69, .inr (2, [.int 0, .ref (ad 70), .ref (ad 75)])) H
      rw [a69, a70, a75]
      exact hP 89 _ rfl
    · show va_at (dC, dI) vwCl (ad 70, .inr (6, [.int 0, .int 0, .ref (ad 71), .ref (ad 72), .ref (ad 73), .ref (ad 74), .int 0, .int 0, .int 0, .int 0, .int 0])) H
      rw [a70, a71, a72, a73, a74]
      exact hP 90 _ rfl
    · show H[ad 71]? = some (vp_cell (cA 71) (6, .inl (M0.1 71)))
      rw [a71, d71]
      exact hP 91 _ rfl
    · show H[ad 72]? = some (vp_cell (cA 72) (6, .inl (M0.1 72)))
      rw [a72, d72]
      exact hP 92 _ rfl
    · show H[ad 73]? = some (vp_cell (cA 73) (6, .inl (M0.1 73)))
      rw [a73, d73]
      exact hP 93 _ rfl
    · show H[ad 74]? = some (vp_cell (cA 74) (900, .inl (M0.1 74)))
      rw [a74, d74]
      exact hP 94 _ rfl
    · show va_at (dC, dI) vwCl (ad 75, .inr (8, [.int 0, .ref (ad 76), .ref (ad 77), .int 0, .int 0, .int 0, .int 0, .int 0, .int 0])) H
      rw [a75, a76, a77]
      exact hP 95 _ rfl
    · show H[ad 76]? = some (vp_cell (cA 76) (8, .inl (M0.1 76)))
      rw [a76, d76]
      exact hP 96 _ rfl
    · show H[ad 77]? = some (vp_cell (cA 77) (8, .inl (M0.1 77)))
      rw [a77, d77]
      exact hP 97 _ rfl
    · show va_at (dC, dI) vwCl (ad 78, .inr (7, [.ref (ad 79), .ref (ad 80), .int 0, .ref (ad 7), .ref (ad 15), .int 0, .int (-1)])) H
      rw [a78, a7, a15, a79, a80]
      exact hP 52 _ rfl
    · show H[ad 79]? = some (vp_cell (cA 79) (901, .inl (M0.1 79)))
      rw [a79, d79]
      exact hP 53 _ rfl
    · show H[ad 80]? = some (vp_cell (cA 80) (901, .inl (M0.1 80)))
      rw [a80, d80]
      exact hP 54 _ rfl
    · show va_at (dC, dI) vwCl (ad 81, .inr (3, [.ref (ad 82), .ref (ad 83), .ref (ad 84), .ref (ad 85), .ref (ad 86), .ref (ad 2), .int 0])) H
      rw [a81, a2, a82, a83, a84, a85, a86]
      exact hP 55 _ rfl
    · show H[ad 82]? = some (vp_cell (cA 82) (864, .inl (M0.1 82)))
      rw [a82, d82]
      exact hP 56 _ rfl
    · show H[ad 83]? = some (vp_cell (cA 83) (8, .inl (M0.1 83)))
      rw [a83, d83]
      exact hP 57 _ rfl
    · show H[ad 84]? = some (vp_cell (cA 84) (8, .inl (M0.1 84)))
      rw [a84, d84]
      exact hP 58 _ rfl
    · show H[ad 85]? = some (vp_cell (cA 85) (8, .inl (M0.1 85)))
      rw [a85, d85]
      exact hP 59 _ rfl
    · show H[ad 86]? = some (vp_cell (cA 86) (64, .inl (M0.1 86)))
      rw [a86, d86]
      exact hP 60 _ rfl
    · show va_at (dC, dI) vwCl (ad 87, .inr (1, [.ref (ad 81)])) H
      rw [a87, a81]
      exact hP 61 _ rfl
    · show va_at (dC, dI) vwCl (ad 88, .inr (4, [.ref (ad 81), .ref (ad 89), .ref (ad 90), .ref (ad 91), .ref (ad 92), .ref (ad 93), .ref (ad 94), .long 1, .long 0, .ref (ad 2), .ref (ad 12), .int 0, .int 0, .int 0])) H
      rw [a88, a2, a12, a81, a89, a90, a91, a92, a93, a94]
      exact hP 62 _ rfl
    · show H[ad 89]? = some (vp_cell (cA 89) (1536, .inl (M0.1 89)))
      rw [a89, d89]
      exact hP 63 _ rfl
    · show H[ad 90]? = some (vp_cell (cA 90) (256, .inl (M0.1 90)))
      rw [a90, d90]
      exact hP 64 _ rfl
    · show H[ad 91]? = some (vp_cell (cA 91) (256, .inl (M0.1 91)))
      rw [a91, d91]
      exact hP 65 _ rfl
    · show H[ad 92]? = some (vp_cell (cA 92) (256, .inr (.inl (M0.2.1 92))))
      rw [a92, d92]
      exact hP 66 _ rfl
    · show H[ad 93]? = some (vp_cell (cA 93) (256, .inr (.inl (M0.2.1 93))))
      rw [a93, d93]
      exact hP 67 _ rfl
    · show H[ad 94]? = some (vp_cell (cA 94) (6, .inr (.inl (M0.2.1 94))))
      rw [a94, d94]
      exact hP 68 _ rfl
    · show va_at (dC, dI) vwCl (ad 95, .inr (0, [.ref (ad 88), .ref (ad 96), .ref (ad 97), .int 0, .int 0])) H
      rw [a95, a88, a96, a97]
      exact hP 69 _ rfl
    · show H[ad 96]? = some (vp_cell (cA 96) (256, .inl (M0.1 96)))
      rw [a96, d96]
      exact hP 70 _ rfl
    · show H[ad 97]? = some (vp_cell (cA 97) (10, .inl (M0.1 97)))
      rw [a97, d97]
      exact hP 71 _ rfl
    · show va_at (dC, dI) vwCl (ad 98, .inr (11, [.int 0, .ref (ad 99), .ref (ad 100), .ref (ad 101), .ref (ad 102), .int 0, .int 0, .int 0, .int 0, .int 0, .int 0, .int 0, .int 0, .int 0, .int (-1), .ref (ad 103), .ref (ad 104), .ref (ad 105), .int 0, .ref (ad 106), .ref (ad 107), .ref (ad 108), .ref (ad 109), .ref (ad 110), .ref (ad 111), .ref (ad 112), .long 0, .ref (ad 113), .ref (ad 114), .ref (ad 115), .ref (ad 116), .ref (ad 117)])) H
      rw [a98, a99, a100, a101, a102, a103, a104, a105, a106, a107, a108, a109, a110, a111, a112, a113, a114, a115, a116, a117]
      exact hP 98 _ rfl
    · show H[ad 99]? = some (vp_cell (cA 99) (3543, .inl (M0.1 99)))
      rw [a99, d99]
      exact hP 117 _ rfl
    · show H[ad 100]? = some (vp_cell (cA 100) (2, .inl (M0.1 100)))
      rw [a100, d100]
      exact hP 99 _ rfl
    · show H[ad 101]? = some (vp_cell (cA 101) (900, .inl (M0.1 101)))
      rw [a101, d101]
      exact hP 100 _ rfl
    · show H[ad 102]? = some (vp_cell (cA 102) (1181, .inl (M0.1 102)))
      rw [a102, d102]
      exact hP 101 _ rfl
    · show H[ad 103]? = some (vp_cell (cA 103) (900, .inl (M0.1 103)))
      rw [a103, d103]
      exact hP 102 _ rfl
    · show H[ad 104]? = some (vp_cell (cA 104) (8, .inl (M0.1 104)))
      rw [a104, d104]
      exact hP 103 _ rfl
    · show H[ad 105]? = some (vp_cell (cA 105) (23, .inl (M0.1 105)))
      rw [a105, d105]
      exact hP 104 _ rfl
    · show H[ad 106]? = some (vp_cell (cA 106) (1536, .inl (M0.1 106)))
      rw [a106, d106]
      exact hP 105 _ rfl
    · show H[ad 107]? = some (vp_cell (cA 107) (256, .inl (M0.1 107)))
      rw [a107, d107]
      exact hP 106 _ rfl
    · show H[ad 108]? = some (vp_cell (cA 108) (256, .inl (M0.1 108)))
      rw [a108, d108]
      exact hP 107 _ rfl
    · show H[ad 109]? = some (vp_cell (cA 109) (256, .inl (M0.1 109)))
      rw [a109, d109]
      exact hP 108 _ rfl
    · show H[ad 110]? = some (vp_cell (cA 110) (256, .inr (.inl (M0.2.1 110))))
      rw [a110, d110]
      exact hP 109 _ rfl
    · show H[ad 111]? = some (vp_cell (cA 111) (256, .inr (.inl (M0.2.1 111))))
      rw [a111, d111]
      exact hP 110 _ rfl
    · show H[ad 112]? = some (vp_cell (cA 112) (6, .inr (.inl (M0.2.1 112))))
      rw [a112, d112]
      exact hP 111 _ rfl
    · show H[ad 113]? = some (vp_cell (cA 113) (256, .inl (M0.1 113)))
      rw [a113, d113]
      exact hP 112 _ rfl
    · show H[ad 114]? = some (vp_cell (cA 114) (9, .inl (M0.1 114)))
      rw [a114, d114]
      exact hP 113 _ rfl
    · show H[ad 115]? = some (vp_cell (cA 115) (4, .inl (M0.1 115)))
      rw [a115, d115]
      exact (show H[(mxa 16)]? = some (vp_cell (mxc 16) (4, .inl (upd (upd (upd (upd (fun _ => 0) 0 (-1)) 1 (-1)) 2 (-1)) 3 (-1)))) from hP 114 _ rfl).trans (congrArg some (vp_cell_ic (fun j hj => by rcases (show j = 0 ∨ j = 1 ∨ j = 2 ∨ j = 3 by omega) with rfl | rfl | rfl | rfl <;> rfl)))
    · show H[ad 116]? = some (vp_cell (cA 116) (4, .inl (M0.1 116)))
      rw [a116, d116]
      exact hP 115 _ rfl
    · show H[ad 117]? = some (vp_cell (cA 117) (160, .inr (.inl (M0.2.1 117))))
      rw [a117, d117]
      exact hP 116 _ rfl
  have hl : lv_has ls 4 [(3, .int 0), (2, .ref (ad 98)), (1, .ref (ad 0)), (0, .ref b)] := by rw [a98, a0]; exact hl
  refine W.widen (k := 118) (n := 20643) (Nat.le_of_ble_eq_true rfl) (Nat.le_of_ble_eq_true rfl) ?_
  have Cb : jj_C p room_1 s m #[Value.ref b] c 118 20643 code 4 RL [] dC dI ad cA (fun q : Nat => s.heap.size ≤ q) := ⟨⟨hx, hb, hml, hown, fun w h => absurd h List.not_mem_nil⟩, hKK, hDD, hAd, fun _ h => h, (Nat.le_of_ble_eq_true rfl), (Nat.le_of_ble_eq_true rfl)⟩
  exact lw_body (l := l) (e := e) (below := below) (meth := meth) (Q := lw_Z below #[Value.ref b] s) Cb hts hL hX hbl hbA (fun M lv H locs ls hP hS hl => va_forget (fun q hq => hS.2.2 q hq) (W.widen (k := 600000) (n := 7302250) (by omega) (by omega) (lw_ret hx hb hr hlocks dL_law_1480))) H locs ls hPool hS hl
