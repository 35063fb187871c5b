/-! THE CLASS'S MINDS, exact -/
/-- cells that are as they were: all but S -/
def FX (S : List Nat) (M N : mm_M) : Prop := (∀ i k, i ∉ S → N.1 i k = M.1 i k) ∧ (∀ i k, i ∉ S → N.2.2 i k = M.2.2 i k) ∧ ∀ i k, i ∉ S → N.2.1 i k = M.2.1 i k
theorem FX.rf {S : List Nat} {M : mm_M} : FX S M M := ⟨fun _ _ _ => rfl, fun _ _ _ => rfl, fun _ _ _ => rfl⟩
theorem FX.cell {S : List Nat} {M N : mm_M} (h : FX S M N) {i : Nat} (hi : i ∉ S) : N.1 i = M.1 i := funext fun k => h.1 i k hi
theorem FX.wI {S : List Nat} {M N N' : mm_M} {i k : Nat} {v : Int32} (h : FX S M N) (e : N' = wI N i k v) (hi : i ∈ S) : FX S M N' := by
  subst e
  refine ⟨fun a b ha => ?_, h.2.1, h.2.2⟩
  have : a ≠ i := fun z => ha (z ▸ hi)
  show u2 N.1 i k v a b = _
  rw [u2_a _ _ this]; exact h.1 a b ha
theorem FX.wJ {S : List Nat} {M N N' : mm_M} {i k : Nat} {v : Int64} (h : FX S M N) (e : N' = wJ N i k v) (hi : i ∈ S) : FX S M N' := by
  subst e
  refine ⟨h.1, h.2.1, fun a b ha => ?_⟩
  have : a ≠ i := fun z => ha (z ▸ hi)
  show u2 N.2.1 i k v a b = _
  rw [u2_a _ _ this]; exact h.2.2 a b ha
theorem FX.wP {S : List Nat} {M N N' : mm_M} {i k v : Nat} (h : FX S M N) (e : N' = wP N i k v) (hi : i ∈ S) : FX S M N' := by
  subst e
  refine ⟨h.1, fun a b ha => ?_, h.2.2⟩
  have : a ≠ i := fun z => ha (z ▸ hi)
  show u2 N.2.2 i k v a b = _
  rw [u2_a _ _ this]; exact h.2.1 a b ha
theorem FX.tr {S T : List Nat} {M N N' : mm_M} (h : FX S M N) (h2 : FX T N N') (ht : ∀ x ∈ T, x ∈ S) : FX S M N' :=
  ⟨fun i k hi => (h2.1 i k (fun z => hi (ht i z))).trans (h.1 i k hi), fun i k hi => (h2.2.1 i k (fun z => hi (ht i z))).trans (h.2.1 i k hi), fun i k hi => (h2.2.2 i k (fun z => hi (ht i z))).trans (h.2.2 i k hi)⟩
theorem s_fX {S : List Nat} {M M' : mm_M} {a b : Nat} {z : Int} (e : FX S M M') (h : a ∉ S) (q : z = (M'.1 a b).toInt) : z = (M.1 a b).toInt := by rw [q, e.1 a b h]
theorem s_gX {S : List Nat} {M M' : mm_M} {a b : Nat} {z : Int} (e : FX S M M') (h : a ∉ S) (q : z = (M'.2.1 a b).toInt) : z = (M.2.1 a b).toInt := by rw [q, e.2.2 a b h]
theorem s_pX {S : List Nat} {M M' : mm_M} {a b z : Nat} (e : FX S M M') (q : z = M.2.2 a b) (h : a ∉ S := by decide) : z = M'.2.2 a b := by rw [q, e.2.1 a b h]
theorem cmF_s (c : Int) : (c < 1008 ∧ cmF c = c) ∨ (1008 ≤ c ∧ ((c = 2043 ∧ cmF c = 3000) ∨ (c = 2045 ∧ cmF c = 3001) ∨ (c = 2042 ∧ cmF c = 3002) ∨ (c = 2061 ∧ cmF c = 3003) ∨ (c = 2060 ∧ cmF c = 3004) ∨ (c = 2062 ∧ cmF c = 3005) ∨ (c = 1016 ∧ cmF c = 3006) ∨ (c = 1015 ∧ cmF c = 3007) ∨ ((¬ c = 2043 ∧ ¬ c = 2045 ∧ ¬ c = 2042 ∧ ¬ c = 2061 ∧ ¬ c = 2060 ∧ ¬ c = 2062 ∧ ¬ c = 1016 ∧ ¬ c = 1015) ∧ cmF c = 3008))) := by
  unfold cmF
  (repeat' split) <;> omega
theorem cm_r {c : Int} (h : -2147483648 ≤ c ∧ c ≤ 2147483647) : -2147483648 ≤ cmF c ∧ cmF c ≤ 2147483647 := by
  have := cmF_s c
  omega
theorem jw_and {a b : Int} (ha : -2147483648 ≤ a ∧ a ≤ 2147483647) (hb : -2147483648 ≤ b ∧ b ≤ 2147483647) : w32 (andJ a b) = andI a b := by
  unfold w32 andJ andI
  have e1 : sJ a = (sI a).toInt64 := by
    apply Int64.toInt_inj.mp
    rw [sJ_t (by omega), Int32.toInt_toInt64, sI_t ha]
  have e2 : sJ b = (sI b).toInt64 := by
    apply Int64.toInt_inj.mp
    rw [sJ_t (by omega), Int32.toInt_toInt64, sI_t hb]
  rw [e1, e2, ← Int32.toInt64_and, Int32.toInt_toInt64, sI_o]
theorem jw_or {a b : Int} (ha : -2147483648 ≤ a ∧ a ≤ 2147483647) (hb : -2147483648 ≤ b ∧ b ≤ 2147483647) : w32 (orJ a b) = orI a b := by
  unfold w32 orJ orI
  have e1 : sJ a = (sI a).toInt64 := by
    apply Int64.toInt_inj.mp
    rw [sJ_t (by omega), Int32.toInt_toInt64, sI_t ha]
  have e2 : sJ b = (sI b).toInt64 := by
    apply Int64.toInt_inj.mp
    rw [sJ_t (by omega), Int32.toInt_toInt64, sI_t hb]
  rw [e1, e2, ← Int32.toInt64_or, Int32.toInt_toInt64, sI_o]
theorem w32_x {a : Int} (h : -2147483648 ≤ a ∧ a ≤ 2147483647) : w32 a = a := by unfold w32; exact sI_t h
/-! bitCount -/
def bcE (x : Int32) : Int32 :=
  let u (x : Int32) (y : Int32) : Int32 := (x.toUInt32 >>> (y.toUInt32 &&& Int32.toUInt32 31)).toInt32
  let x1 := x - (u x (sI 1) &&& sI 1431655765)
  let x2 := (x1 &&& sI 858993459) + (u x1 (sI 2) &&& sI 858993459)
  let x3 := (x2 + u x2 (sI 4)) &&& sI 252645135
  let x4 := x3 + u x3 (sI 8)
  let x5 := x4 + u x4 (sI 16)
  x5 &&& sI 63
theorem bc_n : ∀ n : Nat, n < 256 → bcE (sI (n : Int)) = sI (bsF (n : Int) (8 : Int).toNat) ∧ 0 ≤ bsF (n : Int) (8 : Int).toNat ∧ bsF (n : Int) (8 : Int).toNat ≤ 8 := by decide +kernel
theorem bc_e (a : Int) (h : 0 ≤ a ∧ a ≤ 255) : bcE (sI a) = sI (bsF a (8 : Int).toNat) := by
  have := (bc_n a.toNat (by omega)).1
  rw [show ((a.toNat : Nat) : Int) = a by omega] at this; exact this
theorem bs_b (a : Int) (h : 0 ≤ a ∧ a ≤ 255) : 0 ≤ bsF a (8 : Int).toNat ∧ bsF a (8 : Int).toNat ≤ 8 := by
  have := (bc_n a.toNat (by omega)).2
  rw [show ((a.toNat : Nat) : Int) = a by omega] at this; exact this
/-- a law's code is well formed, its stack at most 64 deep, one value at its end -/
def CWX (f : Nat → Int32) (o n : Int) : Prop := zwS f o n ∧ (∀ i : Nat, (i : Int) ≤ n → dqF f o i ≤ 64) ∧ dqF f o n.toNat = 1
def stX (M : mm_M) (p : Int × (Nat → Int)) : Prop := ∀ j : Nat, (j : Int) < p.1 → (M.1 86 j).toInt = p.2 j
def fcX (M : mm_M) (j : Nat) : Int := (M.1 85 j).toInt
theorem cwx_at {f : Nat → Int32} {o n i i' x : Int} (W : Nat → Int) (h : b01 (CWX f o n) = 1) (h0 : 0 ≤ i ∧ i < n) (hx : x = o + i) (hi : i' = i + 1) : (((f x.toNat).toInt < 3000 ∧ 0 ≤ (f x.toNat).toInt ∧ (f x.toNat).toInt ≤ 1007 ∧ (rkS f W o i'.toNat).1 = (rkS f W o i.toNat).1 + 1) ∨ ((f x.toNat).toInt = 3006 ∧ 1 ≤ (rkS f W o i.toNat).1 ∧ (rkS f W o i'.toNat).1 = (rkS f W o i.toNat).1) ∨ (3000 ≤ (f x.toNat).toInt ∧ ¬ (f x.toNat).toInt = 3006 ∧ 2 ≤ (rkS f W o i.toNat).1 ∧ (rkS f W o i'.toNat).1 = (rkS f W o i.toNat).1 - 1)) ∧ (rkS f W o i'.toNat).1 ≤ 64 := by
  subst hx hi
  obtain ⟨z, q, _⟩ := b01_e h
  have a := rk_at W z i h0.1 h0.2
  dsimp only at a
  refine ⟨a, ?_⟩
  rw [rkS_1]
  exact q _ (by omega)
theorem md_c (M : mm_M) (p : Nat) (h : Int32) {x : Int} (hx : 0 ≤ x) : (mdX M p h (281 + x).toNat).toInt = cmF (M.1 (s_p0 p 5) x.toNat).toInt := by
  unfold mdX clX
  rw [if_neg (by omega), if_neg (by omega), if_neg (by omega)]
  rw [if_neg (by omega), if_neg (by omega), if_neg (by omega), if_neg (by omega), if_neg (by omega), if_neg (by omega), if_neg (by omega), if_neg (by omega), if_neg (by omega), if_neg (by omega), if_neg (by omega), if_neg (by omega), if_neg (by omega), if_neg (by omega), if_neg (by omega), if_neg (by omega), if_neg (by omega), if_neg (by omega), if_neg (by omega), if_neg (by omega), if_neg (by omega)]
  rw [sI_t (cm_r (sI_r _)), show (281 + x).toNat - 281 = x.toNat by omega]
theorem sx_upd {M M' : mm_M} {n v : Int} {k : Nat} (e : M' = wI M 86 k (sI v)) (hv : -2147483648 ≤ v ∧ v ≤ 2147483647) {g : Nat → Int} (h : ∀ j : Nat, (j : Int) < n → j ≠ k → (M.1 86 j).toInt = g j) : ∀ j : Nat, (j : Int) < n → (M'.1 86 j).toInt = uI g k v j := by
  intro j hj
  unfold uI
  by_cases q : j = k
  · subst q; rw [if_pos rfl, s_wr e hv]
  · rw [if_neg q, e]
    show (u2 M.1 86 k (sI v) 86 j).toInt = _
    rw [u2_b _ _ q]; exact h j hj q
theorem sx_push {M M' : mm_M} {f : Nat → Int32} {W : Nat → Int} {o i i' x n v c : Int} (e : M' = wI M 86 n.toNat (sI v)) (h : b01 (stX M (rkS f W o i.toNat)) = 1) (hi : i' = i + 1 ∧ 0 ≤ i ∧ x = o + i) (hc : (f x.toNat).toInt = c) (q : (-2147483648 ≤ v ∧ v ≤ 2147483647) ∧ 0 ≤ n ∧ n = (rkS f W o i.toNat).1 ∧ c < 1008) (hv : (c < 1000 ∧ v = c) ∨ (¬ c < 1000 ∧ v = W (c - 1000).toNat)) : b01 (stX M' (rkS f W o i'.toNat)) = 1 := b01_i (by
  obtain ⟨rfl, h0, rfl⟩ := hi
  rw [rkS_s f W o i h0]
  unfold rkT stX
  rw [hc, if_pos (by omega)]
  have e2 : pvF W c = v := by
    rcases pvF_s W c with z | z
    · omega
    · omega
  rw [e2, ← q.2.2.1]
  exact sx_upd e q.1 (fun j hj hne => b01_e h j (by rw [← q.2.2.1]; simp only [] at hj; omega)))
theorem sx_not {M M' : mm_M} {f : Nat → Int32} {W : Nat → Int} {o i i' x n v : Int} (e : M' = wI M 86 (n - 1).toNat (sI v)) (h : b01 (stX M (rkS f W o i.toNat)) = 1) (hi : i' = i + 1 ∧ 0 ≤ i ∧ x = o + i) (q : 1 ≤ n ∧ n = (rkS f W o i.toNat).1 ∧ (f x.toNat).toInt = 3006) (hv : v = subI 1 (M.1 86 (n - 1).toNat).toInt) : b01 (stX M' (rkS f W o i'.toNat)) = 1 := b01_i (by
  obtain ⟨rfl, h0, rfl⟩ := hi
  have h2 := b01_e h
  rw [rkS_s f W o i h0]
  unfold rkT stX
  rw [if_neg (by omega), if_pos q.2.2]
  rw [← q.2.1]
  have e2 : (rkS f W o i.toNat).2 (n - 1).toNat = (M.1 86 (n - 1).toNat).toInt := (h2 _ (by rw [← q.2.1]; omega)).symm
  rw [e2, ← hv]
  exact sx_upd e (by rw [hv]; exact sI_r _) (fun j hj hne => h2 j (by rw [← q.2.1]; exact hj)))
theorem sx_bin {M M' : mm_M} {f : Nat → Int32} {W : Nat → Int} {o i i' x n v c : Int} (e : M' = wI M 86 (n - 1).toNat (sI v)) (h : b01 (stX M (rkS f W o i.toNat)) = 1) (hi : i' = i + 1 ∧ 0 ≤ i ∧ x = o + i) (hc : (f x.toNat).toInt = c) (q : (-2147483648 ≤ v ∧ v ≤ 2147483647) ∧ 1 ≤ n ∧ n + 1 = (rkS f W o i.toNat).1 ∧ 3000 ≤ c ∧ ¬ c = 3006) (q7 : v = btF c (M.1 86 (n - 1).toNat).toInt (M.1 86 n.toNat).toInt) : b01 (stX M' (rkS f W o i'.toNat)) = 1 := b01_i (by
  obtain ⟨rfl, h0, rfl⟩ := hi
  have h2 := b01_e h
  obtain ⟨q1, q3, q4, q5, q6⟩ := q
  rw [rkS_s f W o i h0]
  unfold rkT stX
  rw [hc, if_neg (by omega), if_neg q6]
  rw [← q4]
  rw [show n + 1 - 1 - 1 = n - 1 by omega, show n + 1 - 1 = n by omega]
  have e1 : (rkS f W o i.toNat).2 n.toNat = (M.1 86 n.toNat).toInt := (h2 _ (by rw [← q4]; omega)).symm
  have e2 : (rkS f W o i.toNat).2 (n - 1).toNat = (M.1 86 (n - 1).toNat).toInt := (h2 _ (by rw [← q4]; omega)).symm
  rw [e1, e2, ← q7]
  exact sx_upd e q1 (fun j hj hne => h2 j (by rw [← q4]; simp only [] at hj; omega)))
theorem sx_0 (M : mm_M) (f : Nat → Int32) (W : Nat → Int) (o i : Int) (hi : i = 0) : b01 (stX M (rkS f W o i.toNat)) = 1 ∧ (rkS f W o i.toNat).1 = 0 := by
  subst hi
  exact ⟨b01_i (fun j hj => absurd hj (by show ¬ (j : Int) < 0; omega)), rfl⟩
theorem sx_end {M : mm_M} {f : Nat → Int32} {W : Nat → Int} {o i n t : Int} (hc : b01 (CWX f o n) = 1) (h : b01 (stX M (rkS f W o i.toNat)) = 1) (hi : i = n) (ht : t = (rkS f W o i.toNat).1) : t = 1 ∧ (M.1 86 (t - 1).toNat).toInt = (rkS f W o n.toNat).2 0 := by
  subst hi
  obtain ⟨_, _, q⟩ := b01_e hc
  rw [rkS_1, q] at ht
  refine ⟨ht, ?_⟩
  have := b01_e h 0 (by rw [rkS_1, q]; decide)
  rw [ht]; exact this
theorem s_plan : ∀ p, p < mm_N → s_c p = 6 → s_c (s_p0 p 2) = 21 ∧ s_c (s_p0 p 3) = 22 ∧ s_c (s_p0 p 4) = 23 ∧ s_c (s_p0 p 5) = 24 := by decide +kernel
/-! words -/
def WDX (M : mm_M) (W : Nat → Int) : Prop := ∀ j : Nat, j < 8 → (M.1 85 j).toInt = W j
theorem wdx_of {M0 M1 M2 M3 M4 M5 M6 M7 M8 : mm_M} {v0 v1 v2 v3 v4 v5 v6 v7 : Int} {W : Nat → Int} (e0 : M1 = wI M0 85 0 (sI v0)) (e1 : M2 = wI M1 85 1 (sI v1)) (e2 : M3 = wI M2 85 2 (sI v2)) (e3 : M4 = wI M3 85 3 (sI v3)) (e4 : M5 = wI M4 85 4 (sI v4)) (e5 : M6 = wI M5 85 5 (sI v5)) (e6 : M7 = wI M6 85 6 (sI v6)) (e7 : M8 = wI M7 85 7 (sI v7)) (q0 : v0 = W 0) (q1 : v1 = W 1) (q2 : v2 = W 2) (q3 : v3 = W 3) (q4 : v4 = W 4) (q5 : v5 = W 5) (q6 : v6 = W 6) (q7 : v7 = W 7) (r : (-2147483648 ≤ v0 ∧ v0 ≤ 2147483647) ∧ (-2147483648 ≤ v1 ∧ v1 ≤ 2147483647) ∧ (-2147483648 ≤ v2 ∧ v2 ≤ 2147483647) ∧ (-2147483648 ≤ v3 ∧ v3 ≤ 2147483647) ∧ (-2147483648 ≤ v4 ∧ v4 ≤ 2147483647) ∧ (-2147483648 ≤ v5 ∧ v5 ≤ 2147483647) ∧ (-2147483648 ≤ v6 ∧ v6 ≤ 2147483647) ∧ (-2147483648 ≤ v7 ∧ v7 ≤ 2147483647)) : b01 (WDX M8 W) = 1 := b01_i (by
  obtain ⟨r0, r1, r2, r3, r4, r5, r6, r7⟩ := r
  intro j hj
  have st : ∀ {M M' : mm_M} {k : Nat} {v : Int32}, M' = wI M 85 k v → j ≠ k → (M'.1 85 j).toInt = (M.1 85 j).toInt := by
    intro M M' k v e hne
    rw [e]; show (u2 M.1 85 k v 85 j).toInt = _; rw [u2_b _ _ hne]
  rcases (show j = 0 ∨ j = 1 ∨ j = 2 ∨ j = 3 ∨ j = 4 ∨ j = 5 ∨ j = 6 ∨ j = 7 by omega) with rfl | rfl | rfl | rfl | rfl | rfl | rfl | rfl
  · rw [st e7 (by decide), st e6 (by decide), st e5 (by decide), st e4 (by decide), st e3 (by decide), st e2 (by decide), st e1 (by decide), s_wr e0 r0, q0]
  · rw [st e7 (by decide), st e6 (by decide), st e5 (by decide), st e4 (by decide), st e3 (by decide), st e2 (by decide), s_wr e1 r1, q1]
  · rw [st e7 (by decide), st e6 (by decide), st e5 (by decide), st e4 (by decide), st e3 (by decide), s_wr e2 r2, q2]
  · rw [st e7 (by decide), st e6 (by decide), st e5 (by decide), st e4 (by decide), s_wr e3 r3, q3]
  · rw [st e7 (by decide), st e6 (by decide), st e5 (by decide), s_wr e4 r4, q4]
  · rw [st e7 (by decide), st e6 (by decide), s_wr e5 r5, q5]
  · rw [st e7 (by decide), s_wr e6 r6, q6]
  · rw [s_wr e7 r7, q7])
theorem md_8 (M : mm_M) (p : Nat) (h : Int32) {b : Int} (hb : 0 ≤ b ∧ b < 6) : mdX M p h (8 + b).toNat = M.1 (s_p0 p 2) b.toNat := by
  unfold mdX clX
  rw [if_neg (by omega), if_neg (by omega), if_neg (by omega), if_neg (by omega), if_neg (by omega), if_neg (by omega), if_neg (by omega), if_neg (by omega), if_neg (by omega), if_neg (by omega), if_neg (by omega), if_pos (by omega), show (8 + b).toNat - 8 = b.toNat by omega]
theorem md_14 (M : mm_M) (p : Nat) (h : Int32) {b : Int} (hb : 0 ≤ b ∧ b < 6) : mdX M p h (14 + b).toNat = M.1 (s_p0 p 3) b.toNat := by
  unfold mdX clX
  rw [if_neg (by omega), if_neg (by omega), if_neg (by omega), if_neg (by omega), if_neg (by omega), if_neg (by omega), if_neg (by omega), if_neg (by omega), if_neg (by omega), if_neg (by omega), if_neg (by omega), if_neg (by omega), if_pos (by omega), show (14 + b).toNat - 14 = b.toNat by omega]
theorem md_33 (M : mm_M) (p : Nat) (h : Int32) {k : Int} (hk : 0 ≤ k ∧ k < 8) : mdX M p h (33 + k).toNat = M.1 83 k.toNat := by
  unfold mdX
  rw [if_neg (by omega), if_pos (by omega), show (33 + k).toNat - 33 = k.toNat by omega]
theorem md_41 (M : mm_M) (p : Nat) (h : Int32) {k : Int} (hk : 0 ≤ k ∧ k < 8) : mdX M p h (41 + k).toNat = M.1 84 k.toNat := by
  unfold mdX
  rw [if_neg (by omega), if_neg (by omega), if_pos (by omega), show (41 + k).toNat - 41 = k.toNat by omega]
theorem md_fr {S : List Nat} {M N : mm_M} {p : Nat} (hf : FX S M N) (hS : ∀ i ∈ S, i = 82 ∨ i = 85 ∨ i = 86) (cp : s_c p = 6) (h : Int32) : mdX N p h = mdX M p h := by
  have c82 : s_c 82 = 33 := rfl
  have c85 : s_c 85 = 36 := rfl
  have c86 : s_c 86 = 37 := rfl
  have ne : ∀ i : Nat, ¬ i = 82 → ¬ i = 85 → ¬ i = 86 → N.1 i = M.1 i := fun i h1 h2 h3 => hf.cell (fun z => by have := hS i z; omega)
  have nc : ∀ i c : Nat, s_c i = c → ¬ c = 33 → ¬ c = 36 → ¬ c = 37 → N.1 i = M.1 i := fun i c hc h1 h2 h3 => ne i (fun z => h1 (by rw [← hc, z, c82])) (fun z => h2 (by rw [← hc, z, c85])) (fun z => h3 (by rw [← hc, z, c86]))
  have lt := s_lt (c := 6) cp rfl
  have t := s_plan p lt cp
  funext j
  unfold mdX clX
  rw [ne 81 (by decide) (by decide) (by decide), ne 83 (by decide) (by decide) (by decide), ne 84 (by decide) (by decide) (by decide), nc p 6 cp (by decide) (by decide) (by decide), nc _ 21 t.1 (by decide) (by decide) (by decide), nc _ 22 t.2.1 (by decide) (by decide) (by decide), nc _ 23 t.2.2.1 (by decide) (by decide) (by decide), nc _ 24 t.2.2.2 (by decide) (by decide) (by decide), ne 12 (by decide) (by decide) (by decide), ne (s_p0 12 1) (by decide) (by decide) (by decide), ne (s_p0 12 2) (by decide) (by decide) (by decide)]
theorem rkS_W {f : Nat → Int32} {o n : Int} {W V : Nat → Int} (h : zwS f o n) (hw : ∀ j : Nat, j < 8 → W j = V j) : ∀ i : Nat, (i : Int) ≤ n → rkS f W o i = rkS f V o i
  | 0, _ => rfl
  | i + 1, hi => by
    rw [rkS, rkS, rkS_W h hw i (by omega)]
    have k := h i (by omega)
    unfold rkT
    by_cases z : (f (o + (i : Int)).toNat).toInt < 3000
    · rw [if_pos z, if_pos z]
      have e : pvF W (f (o + (i : Int)).toNat).toInt = pvF V (f (o + (i : Int)).toNat).toInt := by
        unfold pvF
        by_cases y : (f (o + (i : Int)).toNat).toInt < 1000
        · rw [if_pos y, if_pos y]
        · rw [if_neg y, if_neg y]
          unfold okc at k
          exact hw _ (by omega)
      rw [e]
    · rw [if_neg z, if_neg z]
/-! lets, wish -/
def LWX (M : mm_M) (p i j : Nat) : Prop := (M.1 p i).toInt = (M.1 p j).toInt ∨ (((M.1 p i).toInt ≤ (M.1 p j).toInt) ∧ CWX (mdX M p 0) (281 + (M.1 p i).toInt) ((M.1 p j).toInt - (M.1 p i).toInt))
theorem lw_ne {M : mm_M} {p i j : Nat} (h : b01 (LWX M p i j) = 1) (hn : ¬ (M.1 p i).toInt = (M.1 p j).toInt) : ((M.1 p i).toInt ≤ (M.1 p j).toInt) ∧ b01 (CWX (mdX M p 0) (281 + (M.1 p i).toInt) ((M.1 p j).toInt - (M.1 p i).toInt)) = 1 := by
  rcases b01_e h with q | q
  · exact absurd q hn
  · exact ⟨q.1, b01_i q.2⟩
theorem cw_fr {S : List Nat} {M N : mm_M} {p : Nat} {o n : Int} (hf : FX S M N) (hS : ∀ i ∈ S, i = 82 ∨ i = 85 ∨ i = 86) (cp : s_c p = 6) (h : b01 (CWX (mdX M p 0) o n) = 1) : b01 (CWX (mdX N p 0) o n) = 1 := by
  rw [md_fr hf hS cp]; exact h
theorem md_lo (M : mm_M) (p : Nat) (h : Int32) : mdX M p h 2 = (if M.1 p 7 = M.1 p 8 then 0 else 1) ∧ mdX M p h 3 = (if M.1 p 9 = M.1 p 10 then 0 else 1) ∧ mdX M p h 4 = M.1 p 7 ∧ mdX M p h 5 = M.1 p 9 ∧ mdX M p h 6 = M.1 p 8 - M.1 p 7 ∧ mdX M p h 7 = M.1 p 10 - M.1 p 9 ∧ mdX M p h 26 = M.1 81 6 ∧ mdX M p h 28 = h := ⟨rfl, rfl, rfl, rfl, rfl, rfl, rfl, rfl⟩
theorem i32_sub {a b : Int32} (h : 0 ≤ a.toInt ∧ a.toInt ≤ b.toInt) : (b - a).toInt = b.toInt - a.toInt := by
  have ra := sI_r a
  have rb := sI_r b
  have e : b - a = sI (b.toInt - a.toInt) := by
    rw [← sI_sub, sI_o, sI_o]
  rw [e, sI_t (by omega)]
theorem i32_ite {a b : Int32} : ((if a = b then (0 : Int32) else 1).toInt = 0 ↔ a.toInt = b.toInt) := by
  by_cases h : a = b
  · rw [if_pos h, h]; exact ⟨fun _ => rfl, fun _ => rfl⟩
  · rw [if_neg h]
    exact ⟨fun z => absurd z (by decide), fun z => absurd (Int32.toInt_inj.mp z) h⟩
theorem rk_X {M N : mm_M} {p l i j : Nat} {S : List Nat} {b k o w : Int} (hl : mdX M p 0 (4 + l) = M.1 p i ∧ mdX M p 0 (6 + l) = M.1 p j - M.1 p i) (hf : FX S M N) (hS : ∀ i ∈ S, i = 82 ∨ i = 85 ∨ i = 86) (cp : s_c p = 6) (hw : b01 (WDX N (wdO (mdX M p 0) b k o w)) = 1) (hc : b01 (LWX M p i j) = 1) (hn : ¬ (M.1 p i).toInt = (M.1 p j).toInt) (h0 : 0 ≤ (M.1 p i).toInt) : (rkS (mdX N p 0) (fcX N) (281 + (M.1 p i).toInt) ((M.1 p j).toInt - (M.1 p i).toInt).toNat).2 0 = rkO (mdX M p 0) l b k o w := by
  obtain ⟨q1, q2⟩ := lw_ne hc hn
  unfold rkO
  rw [hl.1, hl.2, i32_sub ⟨h0, q1⟩, md_fr hf hS cp]
  rw [rkS_W (W := fcX N) (V := wdO (mdX M p 0) b k o w) (b01_e q2).1 (fun j hj => b01_e hw j hj) _ (by omega)]
theorem ltX_s (M : mm_M) (p : Nat) {b k : Int} (o w : Int) (hb : 0 ≤ b ∧ b < 6) (hk : 0 ≤ k ∧ k < 8) : ((M.1 (s_p0 p 2) b.toNat).toInt < (M.1 83 k.toNat).toInt ∧ ltO (mdX M p 0) b k o w = 0) ∨ ((M.1 83 k.toNat).toInt ≤ (M.1 (s_p0 p 2) b.toNat).toInt ∧ (M.1 p 9).toInt = (M.1 p 10).toInt ∧ ltO (mdX M p 0) b k o w = 1) ∨ ((M.1 83 k.toNat).toInt ≤ (M.1 (s_p0 p 2) b.toNat).toInt ∧ ¬ (M.1 p 9).toInt = (M.1 p 10).toInt ∧ ((rkO (mdX M p 0) 1 b k o w = 0 ∧ ltO (mdX M p 0) b k o w = 0) ∨ (¬ rkO (mdX M p 0) 1 b k o w = 0 ∧ ltO (mdX M p 0) b k o w = 1))) := by
  unfold ltO
  have m3 : (mdX M p 0 3).toInt = 0 ↔ (M.1 p 9).toInt = (M.1 p 10).toInt := by rw [(md_lo M p 0).2.1]; exact i32_ite
  rw [md_8 M p 0 hb, md_33 M p 0 hk]
  by_cases c : (M.1 83 k.toNat).toInt ≤ (M.1 (s_p0 p 2) b.toNat).toInt
  · by_cases d : (M.1 p 9).toInt = (M.1 p 10).toInt
    · right; left; rw [if_pos ⟨c, Or.inl (m3.mpr d)⟩]; exact ⟨c, d, rfl⟩
    · right; right
      refine ⟨c, d, ?_⟩
      by_cases e : rkO (mdX M p 0) 1 b k o w = 0
      · left; rw [if_neg (fun z => by rcases z.2 with y | y; exact d (m3.mp y); exact y e)]; exact ⟨e, rfl⟩
      · right; rw [if_pos ⟨c, Or.inr e⟩]; exact ⟨e, rfl⟩
  · left; rw [if_neg (fun z => c z.1)]; exact ⟨by omega, rfl⟩
theorem wtX_s (M : mm_M) (p : Nat) {b k : Int} (o w : Int) (hb : 0 ≤ b ∧ b < 6) (hk : 0 ≤ k ∧ k < 8) : ((M.1 p 7).toInt = (M.1 p 8).toInt ∧ wtO (mdX M p 0) b k o w = subI (M.1 (s_p0 p 2) b.toNat).toInt (M.1 83 k.toNat).toInt) ∨ (¬ (M.1 p 7).toInt = (M.1 p 8).toInt ∧ wtO (mdX M p 0) b k o w = rkO (mdX M p 0) 0 b k o w) := by
  unfold wtO
  have m2 : (mdX M p 0 2).toInt = 0 ↔ (M.1 p 7).toInt = (M.1 p 8).toInt := by rw [(md_lo M p 0).1]; exact i32_ite
  rw [md_8 M p 0 hb, md_33 M p 0 hk]
  by_cases c : (M.1 p 7).toInt = (M.1 p 8).toInt
  · left; rw [if_pos (m2.mpr c)]; exact ⟨c, rfl⟩
  · right; rw [if_neg (fun z => c (m2.mp z))]; exact ⟨c, rfl⟩
