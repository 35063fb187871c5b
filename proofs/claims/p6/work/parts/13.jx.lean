section JX
variable {p : Program} {l : Launch} {e : Env} {R : Room} {s : State} {m : MethodId} {args : Array Value} {below : List Frame} {meth : Method} {c : Code} {cells slots : Nat} {Q : State → Prop} {cc : ByteArray} {nL : Nat} {own : String} {Ts : List Cond} {dC : Nat → ClassId} {dI : Nat → Nat → Nat} {ad : Nat → Nat} {cA : Nat → ClassId} {A : Nat → Prop} {M : mm_M} {pc : Nat} {lv : List (Nat × Value)} {st : List Value}
theorem x_iald (C : jj_C p R s m args c cells slots cc nL own Ts dC dI ad cA A) {i : Nat} {x : Int32} (k n : Nat) (v : Int32) (hi : i < mm_N) (hk : mm_kc i = 100) (hx : x = nI k) (hn : mm_kn i = n) (hlt : k < n) (hs : n < 2 ^ 31) (hv : M.1 i k = v) (d : decode cc pc = .ok (.iaload, 1)) (kk : jj p l e R s m args below meth c cells slots Q nL dC dI ad cA A M (pc + 1) lv (.int v :: st)) : jj p l e R s m args below meth c cells slots Q nL dC dI ad cA A M pc lv (.int x :: .ref (ad i) :: st) := by
  subst hx
  subst hn
  exact j_iald C v hi hk (vp_in_nI hlt hs) (by rw [nI_clamp (by omega)]; exact hv) d kk
theorem x_zald (C : jj_C p R s m args c cells slots cc nL own Ts dC dI ad cA A) {i : Nat} {x : Int32} (k n : Nat) (v : Int32) (hi : i < mm_N) (hk : mm_kc i = 101) (hx : x = nI k) (hn : mm_kn i = n) (hlt : k < n) (hs : n < 2 ^ 31) (hv : M.1 i k = v) (d : decode cc pc = .ok (.baload, 1)) (kk : jj p l e R s m args below meth c cells slots Q nL dC dI ad cA A M (pc + 1) lv (.int v :: st)) : jj p l e R s m args below meth c cells slots Q nL dC dI ad cA A M pc lv (.int x :: .ref (ad i) :: st) := by
  subst hx
  subst hn
  exact j_zald C v hi hk (vp_in_nI hlt hs) (by rw [nI_clamp (by omega)]; exact hv) d kk
theorem x_lald (C : jj_C p R s m args c cells slots cc nL own Ts dC dI ad cA A) {i : Nat} {x : Int32} (k n : Nat) (v : Int64) (hi : i < mm_N) (hk : mm_kc i = 102) (hx : x = nI k) (hn : mm_kn i = n) (hlt : k < n) (hs : n < 2 ^ 31) (hv : M.2.1 i k = v) (d : decode cc pc = .ok (.laload, 1)) (kk : jj p l e R s m args below meth c cells slots Q nL dC dI ad cA A M (pc + 1) lv (.long v :: st)) : jj p l e R s m args below meth c cells slots Q nL dC dI ad cA A M pc lv (.int x :: .ref (ad i) :: st) := by
  subst hx
  subst hn
  exact j_lald C v hi hk (vp_in_nI hlt hs) (by rw [nI_clamp (by omega)]; exact hv) d kk
theorem x_aald (C : jj_C p R s m args c cells slots cc nL own Ts dC dI ad cA A) {i : Nat} {x : Int32} (k n : Nat) (v : Nat) (hi : i < mm_N) (hk : 103 ≤ mm_kc i) (hx : x = nI k) (hn : mm_kn i = n) (hlt : k < n) (hs : n < 2 ^ 31) (hv : M.2.2 i k = v) (d : decode cc pc = .ok (.aaload, 1)) (kk : jj p l e R s m args below meth c cells slots Q nL dC dI ad cA A M (pc + 1) lv (.ref (ad v) :: st)) : jj p l e R s m args below meth c cells slots Q nL dC dI ad cA A M pc lv (.int x :: .ref (ad i) :: st) := by
  subst hx
  subst hn
  exact j_aald C v hi hk (vp_in_nI hlt hs) (by rw [nI_clamp (by omega)]; exact hv) d kk
theorem x_iast (C : jj_C p R s m args c cells slots cc nL own Ts dC dI ad cA A) {i : Nat} {x : Int32} {v : Int32} (k n : Nat) (hi : i < mm_N) (hk : mm_kc i = 100) (hx : x = nI k) (hn : mm_kn i = n) (hlt : k < n) (hs : n < 2 ^ 31) (d : decode cc pc = .ok (.iastore, 1)) (kk : jj p l e R s m args below meth c cells slots Q nL dC dI ad cA A (wI M i k v) (pc + 1) lv st) : jj p l e R s m args below meth c cells slots Q nL dC dI ad cA A M pc lv (.int v :: .int x :: .ref (ad i) :: st) := by
  subst hx
  subst hn
  exact j_iast C hi hk (vp_in_nI hlt hs) d (by rw [nI_clamp (by omega)]; exact kk)
theorem x_zast (C : jj_C p R s m args c cells slots cc nL own Ts dC dI ad cA A) {i : Nat} {x : Int32} {v : Int32} (k n : Nat) (hi : i < mm_N) (hk : mm_kc i = 101) (hx : x = nI k) (hn : mm_kn i = n) (hlt : k < n) (hs : n < 2 ^ 31) (hb : vp_nar .boolean v = v) (d : decode cc pc = .ok (.bastore, 1)) (kk : jj p l e R s m args below meth c cells slots Q nL dC dI ad cA A (wI M i k v) (pc + 1) lv st) : jj p l e R s m args below meth c cells slots Q nL dC dI ad cA A M pc lv (.int v :: .int x :: .ref (ad i) :: st) := by
  subst hx
  subst hn
  exact j_zast C hi hk (vp_in_nI hlt hs) hb d (by rw [nI_clamp (by omega)]; exact kk)
theorem x_last (C : jj_C p R s m args c cells slots cc nL own Ts dC dI ad cA A) {i : Nat} {x : Int32} {v : Int64} (k n : Nat) (hi : i < mm_N) (hk : mm_kc i = 102) (hx : x = nI k) (hn : mm_kn i = n) (hlt : k < n) (hs : n < 2 ^ 31) (d : decode cc pc = .ok (.lastore, 1)) (kk : jj p l e R s m args below meth c cells slots Q nL dC dI ad cA A (wJ M i k v) (pc + 1) lv st) : jj p l e R s m args below meth c cells slots Q nL dC dI ad cA A M pc lv (.long v :: .int x :: .ref (ad i) :: st) := by
  subst hx
  subst hn
  exact j_last C hi hk (vp_in_nI hlt hs) d (by rw [nI_clamp (by omega)]; exact kk)
end JX
theorem z_n31 {x : Int32} {a b : Int} (ha : a ≤ x.toInt) (hb : x.toInt ≤ b) (h0 : 0 ≤ a) : ∃ j : Nat, a ≤ (j : Int) ∧ (j : Int) ≤ b ∧ x = nI j := by
  have hx : ¬ x < 0 := by rw [Int32.lt_iff_toInt_lt, Int32.toInt_zero]; omega
  obtain ⟨j, h1, h2⟩ := nI_of hx
  subst h2
  rw [nI_toInt h1] at ha hb
  exact ⟨j, ha, hb, rfl⟩
theorem z_sp {x : Int32} {b : Int} (ha : 0 ≤ x.toInt) (hb : x.toInt ≤ b) : ∃ j : Nat, (j : Int) ≤ b ∧ x = nI j := by
  obtain ⟨j, -, h2, h3⟩ := z_n31 ha hb (Int.le_refl 0)
  exact ⟨j, h2, h3⟩
