/-! FREEZING MORE FOR A WHILE; b01 -/
noncomputable def b01 (P : Prop) : Int := @ite Int P (Classical.propDecidable P) 1 0
theorem b01_i {P : Prop} (h : P) : b01 P = 1 := by simp [b01, h]
theorem b01_e {P : Prop} (h : b01 P = 1) : P := by
  by_cases q : P
  · exact q
  · simp [b01, q] at h
theorem fz {pr : Nat → Nat → Bool} {Kz M : mm_M} (D : Nat → Nat → Bool) (h : INV pr Kz M) : ∃ (pr2 : Nat → Nat → Bool) (Kz2 : mm_M), INV pr2 Kz2 M ∧ (∀ i k, pr i k = false → D i k = false → pr2 i k = false) ∧ (∀ M', INV pr2 Kz2 M' → INV pr Kz M' ∧ ∀ i k, D i k = true → M'.1 i k = M.1 i k) := by
  refine ⟨fun i k => pr i k || D i k, keep (fun i k => pr i k || D i k) M, ⟨h.1, rfl⟩, fun i k h1 h2 => by simp [h1, h2], fun M' h' => ?_⟩
  have f1 : ∀ i k, (pr i k || D i k) = true → M'.1 i k = M.1 i k := fun i k hp => by
    rw [h'.fI (i := i) (k := k) hp]; show (if (pr i k || D i k) = true then M.1 i k else 0) = _; rw [if_pos hp]
  have f2 : ∀ i k, (pr i k || D i k) = true → M'.2.1 i k = M.2.1 i k := fun i k hp => by
    rw [h'.fJ (i := i) (k := k) hp]; show (if (pr i k || D i k) = true then M.2.1 i k else 0) = _; rw [if_pos hp]
  have f3 : ∀ i k, (pr i k || D i k) = true → M'.2.2 i k = M.2.2 i k := fun i k hp => by
    rw [h'.fP (i := i) (k := k) hp]; show (if (pr i k || D i k) = true then M.2.2 i k else 0) = _; rw [if_pos hp]
  have o : ∀ i k, pr i k = true → (pr i k || D i k) = true := fun i k q => by rw [q]; rfl
  refine ⟨⟨h'.1, ?_⟩, fun i k hd => f1 i k (by rw [hd]; simp)⟩
  rw [← h.2]
  unfold keep
  refine Prod.ext (funext fun i => funext fun k => ?_) (Prod.ext (funext fun i => funext fun k => ?_) (funext fun i => funext fun k => ?_))
  · show (if pr i k = true then M'.1 i k else 0) = (if pr i k = true then M.1 i k else 0)
    by_cases q : pr i k = true
    · rw [if_pos q, if_pos q, f1 i k (o i k q)]
    · rw [if_neg q, if_neg q]
  · show (if pr i k = true then M'.2.1 i k else 0) = (if pr i k = true then M.2.1 i k else 0)
    by_cases q : pr i k = true
    · rw [if_pos q, if_pos q, f2 i k (o i k q)]
    · rw [if_neg q, if_neg q]
  · show (if pr i k = true then M'.2.2 i k else 0) = (if pr i k = true then M.2.2 i k else 0)
    by_cases q : pr i k = true
    · rw [if_pos q, if_pos q, f3 i k (o i k q)]
    · rw [if_neg q, if_neg q]
theorem fzX {pr : Nat → Nat → Bool} {Kz M : mm_M} (hpr : PX pr) (h : INV pr Kz M) : ∃ (pr2 : Nat → Nat → Bool) (Kz2 : mm_M), PX pr2 ∧ INV pr2 Kz2 M ∧ (∀ M', INV pr2 Kz2 M' → INV pr Kz M' ∧ ∀ i k, px (s_c i) k = false → M'.1 i k = M.1 i k) := by
  obtain ⟨pr2, Kz2, a, b, d⟩ := fz (fun i k => !px (s_c i) k) h
  exact ⟨pr2, Kz2, fun i k q => b i k (hpr i k q) (by simp [q]), a, fun M' h' => ⟨(d M' h').1, fun i k q => (d M' h').2 i k (by simp [q])⟩⟩
theorem fzM {pr : Nat → Nat → Bool} {Kz M : mm_M} (cs : List Nat) (hpr : PM pr) (h : INV pr Kz M) : ∃ (pr2 : Nat → Nat → Bool) (Kz2 : mm_M), PM pr2 ∧ INV pr2 Kz2 M ∧ (∀ i k, cs.contains (s_c i) = false → pr i k = false → pr2 i k = false) ∧ (∀ M', INV pr2 Kz2 M' → INV pr Kz M' ∧ ∀ i k, cs.contains (s_c i) = true → pm (s_c i) k = false → M'.1 i k = M.1 i k) := by
  obtain ⟨pr2, Kz2, a, b, d⟩ := fz (fun i k => cs.contains (s_c i) && !pm (s_c i) k) h
  refine ⟨pr2, Kz2, fun i k q => b i k (hpr i k q) ?_, a, fun i k q1 q2 => b i k q2 ?_, fun M' h' => ⟨(d M' h').1, fun i k q1 q2 => (d M' h').2 i k ?_⟩⟩
  · show (cs.contains (s_c i) && !pm (s_c i) k) = false; rw [q]; simp
  · show (cs.contains (s_c i) && !pm (s_c i) k) = false; rw [q1]; rfl
  · show (cs.contains (s_c i) && !pm (s_c i) k) = true; rw [q1, q2]; rfl
theorem fz2 {pr : Nat → Nat → Bool} {Kz M : mm_M} (D : Nat → Nat → Bool) (h : INV pr Kz M) : ∃ (pr2 : Nat → Nat → Bool) (Kz2 : mm_M), INV pr2 Kz2 M ∧ (∀ i k, pr i k = false → D i k = false → pr2 i k = false) ∧ (∀ M', INV pr2 Kz2 M' → INV pr Kz M' ∧ ∀ i k, D i k = true → M'.1 i k = M.1 i k ∧ M'.2.2 i k = M.2.2 i k) := by
  refine ⟨fun i k => pr i k || D i k, keep (fun i k => pr i k || D i k) M, ⟨h.1, rfl⟩, fun i k h1 h2 => by simp [h1, h2], fun M' h' => ?_⟩
  have f1 : ∀ i k, (pr i k || D i k) = true → M'.1 i k = M.1 i k := fun i k hp => by
    rw [h'.fI (i := i) (k := k) hp]; show (if (pr i k || D i k) = true then M.1 i k else 0) = _; rw [if_pos hp]
  have f2 : ∀ i k, (pr i k || D i k) = true → M'.2.1 i k = M.2.1 i k := fun i k hp => by
    rw [h'.fJ (i := i) (k := k) hp]; show (if (pr i k || D i k) = true then M.2.1 i k else 0) = _; rw [if_pos hp]
  have f3 : ∀ i k, (pr i k || D i k) = true → M'.2.2 i k = M.2.2 i k := fun i k hp => by
    rw [h'.fP (i := i) (k := k) hp]; show (if (pr i k || D i k) = true then M.2.2 i k else 0) = _; rw [if_pos hp]
  have o : ∀ i k, pr i k = true → (pr i k || D i k) = true := fun i k q => by rw [q]; rfl
  refine ⟨⟨h'.1, ?_⟩, fun i k hd => ⟨f1 i k (by rw [hd]; simp), f3 i k (by rw [hd]; simp)⟩⟩
  rw [← h.2]
  unfold keep
  refine Prod.ext (funext fun i => funext fun k => ?_) (Prod.ext (funext fun i => funext fun k => ?_) (funext fun i => funext fun k => ?_))
  · show (if pr i k = true then M'.1 i k else 0) = (if pr i k = true then M.1 i k else 0)
    by_cases q : pr i k = true
    · rw [if_pos q, if_pos q, f1 i k (o i k q)]
    · rw [if_neg q, if_neg q]
  · show (if pr i k = true then M'.2.1 i k else 0) = (if pr i k = true then M.2.1 i k else 0)
    by_cases q : pr i k = true
    · rw [if_pos q, if_pos q, f2 i k (o i k q)]
    · rw [if_neg q, if_neg q]
  · show (if pr i k = true then M'.2.2 i k else 0) = (if pr i k = true then M.2.2 i k else 0)
    by_cases q : pr i k = true
    · rw [if_pos q, if_pos q, f3 i k (o i k q)]
    · rw [if_neg q, if_neg q]
theorem fzXs {pr : Nat → Nat → Bool} {Kz M : mm_M} (cs : List Nat) (hpr : PX pr) (h : INV pr Kz M) : ∃ (pr2 : Nat → Nat → Bool) (Kz2 : mm_M), PX pr2 ∧ INV pr2 Kz2 M ∧ (∀ i k, cs.contains (s_c i) = false → pr i k = false → pr2 i k = false) ∧ (∀ M', INV pr2 Kz2 M' → INV pr Kz M' ∧ ∀ i k, cs.contains (s_c i) = true → px (s_c i) k = false → M'.1 i k = M.1 i k ∧ M'.2.2 i k = M.2.2 i k) := by
  obtain ⟨pr2, Kz2, a, b, d⟩ := fz2 (fun i k => cs.contains (s_c i) && !px (s_c i) k) h
  refine ⟨pr2, Kz2, fun i k q => b i k (hpr i k q) ?_, a, fun i k q1 q2 => b i k q2 ?_, fun M' h' => ⟨(d M' h').1, fun i k q1 q2 => (d M' h').2 i k ?_⟩⟩
  · show (cs.contains (s_c i) && !px (s_c i) k) = false; rw [q]; simp
  · show (cs.contains (s_c i) && !px (s_c i) k) = false; rw [q1]; rfl
  · show (cs.contains (s_c i) && !px (s_c i) k) = true; rw [q1, q2]; rfl
theorem w_or {M M' : mm_M} {i k : Nat} {a : Int} (e : M' = wI M i k (sI a)) (h : -2147483648 ≤ a ∧ a ≤ 2147483647) (j n : Nat) : (i = j ∧ k = n ∧ (M'.1 j n).toInt = a) ∨ (¬ (i = j ∧ k = n) ∧ (M'.1 j n).toInt = (M.1 j n).toInt) := by
  by_cases q : i = j ∧ k = n
  · obtain ⟨rfl, rfl⟩ := q
    exact Or.inl ⟨rfl, rfl, s_wr e h⟩
  · refine Or.inr ⟨q, ?_⟩
    by_cases q2 : i = j
    · exact s_fb e (fun z => q ⟨q2, z.symm⟩) rfl
    · exact s_fa e (fun z => q2 z.symm) rfl
theorem wJ_rd {M M' : mm_M} {i k : Nat} {a : Int} (e : M' = wJ M i k (sJ a)) (h : -9223372036854775808 ≤ a ∧ a ≤ 9223372036854775807) : (M'.2.1 i k).toInt = a := by
  rw [e, show (wJ M i k (sJ a)).2.1 i k = sJ a from u2_s _ _ _ _, sJ_t h]
theorem rd_or (M : mm_M) (v j k : Nat) : (v = j ∧ (M.1 v k).toInt = (M.1 j k).toInt) ∨ ¬ v = j := by
  by_cases q : v = j
  · exact Or.inl ⟨q, by rw [q]⟩
  · exact Or.inr q
theorem p59 {x : Int} (h : 0 ≤ x ∧ x ≤ 1) : (x = 0 ∧ s_p0 59 x.toNat = 60) ∨ (x = 1 ∧ s_p0 59 x.toNat = 69) := by
  rcases (show x = 0 ∨ x = 1 by omega) with rfl | rfl
  · exact Or.inl ⟨rfl, by decide +kernel⟩
  · exact Or.inr ⟨rfl, by decide +kernel⟩
theorem p50_i : ∀ a, a < 4 → ∀ b, b < 4 → s_p0 50 a = s_p0 50 b → a = b := by decide +kernel
theorem p50_c : ∀ a, a < 4 → s_c (s_p0 50 a) = 9 := by decide +kernel
def NBX (M N : mm_M) (t s n : Int) : Prop := ∀ q : Nat, q < 4 → (((q : Int) = t ∧ (0 ≤ s ∧ s ≤ 3) ∧ 0 ≤ n ∧ n ≤ 40) ∧ (N.1 (s_p0 50 q) 1).toInt = s ∧ (N.1 (s_p0 50 q) 2).toInt = n) ∨ (¬ ((q : Int) = t ∧ (0 ≤ s ∧ s ≤ 3) ∧ 0 ≤ n ∧ n ≤ 40) ∧ (N.1 (s_p0 50 q) 1).toInt = (M.1 (s_p0 50 q) 1).toInt ∧ (N.1 (s_p0 50 q) 2).toInt = (M.1 (s_p0 50 q) 2).toInt)
def NBM (M N : mm_M) (t s n : Int) : Prop := ∀ q : Nat, q < 4 → (((q : Int) = t ∧ (0 ≤ s ∧ s ≤ 3) ∧ 0 ≤ n ∧ n ≤ 40) ∧ (N.1 115 q).toInt = s ∧ (N.1 116 q).toInt = n) ∨ (¬ ((q : Int) = t ∧ (0 ≤ s ∧ s ≤ 3) ∧ 0 ≤ n ∧ n ≤ 40) ∧ (N.1 115 q).toInt = (M.1 115 q).toInt ∧ (N.1 116 q).toInt = (M.1 116 q).toInt)
def LYX (M N : mm_M) (v : Nat) : Prop := ∀ j, ¬ j = v → s_c j = 9 → N.1 j 1 = M.1 j 1 ∧ N.1 j 2 = M.1 j 2
theorem nbx_no {M : mm_M} {t s n : Int} (h : ¬ ((0 ≤ t ∧ t ≤ 3) ∧ (0 ≤ s ∧ s ≤ 3) ∧ 0 ≤ n ∧ n ≤ 40)) : b01 (NBX M M t s n) = 1 := b01_i fun q hq => Or.inr ⟨fun z => h ⟨by omega, z.2⟩, rfl, rfl⟩
theorem nbx_yes {M N : mm_M} {t s n : Int} (h : (0 ≤ t ∧ t ≤ 3) ∧ (0 ≤ s ∧ s ≤ 3) ∧ 0 ≤ n ∧ n ≤ 40) (h1 : (N.1 (s_p0 50 t.toNat) 1).toInt = s ∧ (N.1 (s_p0 50 t.toNat) 2).toInt = n) (h2 : b01 (LYX M N (s_p0 50 t.toNat)) = 1) : b01 (NBX M N t s n) = 1 := b01_i fun q hq => by
  by_cases e : (q : Int) = t
  · obtain rfl : q = t.toNat := by omega
    exact Or.inl ⟨⟨e, h.2⟩, h1⟩
  · have := b01_e h2 (s_p0 50 q) (fun z => e (by have := p50_i q hq t.toNat (by omega) z; omega)) (p50_c q hq)
    exact Or.inr ⟨fun z => e z.1, by rw [this.1], by rw [this.2]⟩
theorem lyx {M M1 M2 M3 : mm_M} {v : Nat} {a b : Int} (hz : ∀ i k, px (s_c i) k = false → M1.1 i k = M.1 i k) (e2 : M2 = wI M1 v 1 (sI a)) (e3 : M3 = wI M2 v 2 (sI b)) : b01 (LYX M M3 v) = 1 := b01_i fun j hj hc => by
  have z2 : M2.1 j = M1.1 j := by rw [e2]; funext k; exact u2_a _ _ hj
  have z3 : M3.1 j = M2.1 j := by rw [e3]; funext k; exact u2_a _ _ hj
  rw [z3, z2]
  exact ⟨hz j 1 (by rw [hc]; rfl), hz j 2 (by rw [hc]; rfl)⟩
theorem nbm_no {M N : mm_M} {t s n : Int} {k : Nat} {v : Int32} (e : N = wI M 98 k v) (h : ¬ ((0 ≤ t ∧ t ≤ 3) ∧ (0 ≤ s ∧ s ≤ 3) ∧ 0 ≤ n ∧ n ≤ 40)) : b01 (NBM M N t s n) = 1 := b01_i fun q hq => Or.inr ⟨fun z => h ⟨by omega, z.2⟩, s_fa e (by decide) rfl, s_fa e (by decide) rfl⟩
theorem nbm_yes {M M1 M2 M3 N : mm_M} {t s n : Int} {k : Nat} {v : Int32} (e1 : M1 = wI M 98 k v) (e2 : M2 = wI M1 115 t.toNat (sI s)) (e3 : M3 = wI M2 116 t.toNat (sI n)) (hz : ∀ i k, [61, 62].contains (s_c i) = true → pm (s_c i) k = false → N.1 i k = M3.1 i k) (h : (0 ≤ t ∧ t ≤ 3) ∧ (0 ≤ s ∧ s ≤ 3) ∧ 0 ≤ n ∧ n ≤ 40) : b01 (NBM M N t s n) = 1 := b01_i fun q hq => by
  have z1 := hz 115 q (by decide) (by show pm 61 q = false; rfl)
  have z2 := hz 116 q (by decide) (by show pm 62 q = false; rfl)
  rw [z1, z2]
  have a1 := w_or e3 (by omega) 115 q
  have a2 := w_or e3 (by omega) 116 q
  have b1 := w_or e2 (by omega) 115 q
  have b2 := w_or e2 (by omega) 116 q
  have c1 : (M1.1 115 q).toInt = (M.1 115 q).toInt := s_fa e1 (by decide) rfl
  have c2 : (M1.1 116 q).toInt = (M.1 116 q).toInt := s_fa e1 (by decide) rfl
  by_cases e : (q : Int) = t
  · exact Or.inl ⟨⟨e, h.2⟩, by omega, by omega⟩
  · exact Or.inr ⟨fun z => e z.1, by omega, by omega⟩
/-! a number cut to its sort -/
def w32 (a : Int) : Int := (sI a).toInt
def i8F (a : Int) : Int := ((sI a).toInt8.toInt32).toInt
def i16F (a : Int) : Int := ((sI a).toInt16.toInt32).toInt
def ctF (v s : Int) : Int := if s = 0 then i8F (w32 v) else if s = 1 then i16F (w32 v) else if s = 2 then w32 v else v
theorem ctF_s (v s : Int) : (s = 0 ∧ ctF v s = i8F (w32 v)) ∨ (s = 1 ∧ ctF v s = i16F (w32 v)) ∨ (s = 2 ∧ ctF v s = w32 v) ∨ (¬ s = 0 ∧ ¬ s = 1 ∧ ¬ s = 2 ∧ ctF v s = v) := by
  unfold ctF
  by_cases h0 : s = 0
  · simp [h0]
  · by_cases h1 : s = 1
    · simp [h1]
    · by_cases h2 : s = 2
      · simp [h2]
      · simp [h0, h1, h2]
def nuF (t s n : Int) : Int := if 0 ≤ t ∧ t ≤ 3 ∧ 0 ≤ s ∧ s ≤ 3 then (if 0 ≤ n ∧ n ≤ 40 then 0 else -3) else -2
theorem nuF_s (t s n : Int) : (0 ≤ t ∧ t ≤ 3 ∧ 0 ≤ s ∧ s ≤ 3) ∧ (0 ≤ n ∧ n ≤ 40) ∧ nuF t s n = 0 ∨ (0 ≤ t ∧ t ≤ 3 ∧ 0 ≤ s ∧ s ≤ 3) ∧ ¬ (0 ≤ n ∧ n ≤ 40) ∧ nuF t s n = -3 ∨ ¬ (0 ≤ t ∧ t ≤ 3 ∧ 0 ≤ s ∧ s ≤ 3) ∧ nuF t s n = -2 := by
  unfold nuF; (repeat' split) <;> omega
theorem sb_c0 {a : Int} (h : 0 ≤ a ∧ a ≤ 65535) : ((sI a).toUInt32 % 65536).toInt32 = sI a := by
  have e := sb_nat (x := sI a) (by rw [sI_t (by omega)]; exact h.1)
  rw [sI_t (by omega)] at e
  apply Int32.toBitVec_inj.mp
  apply BitVec.eq_of_toNat_eq
  show ((sI a).toUInt32 % 65536).toNat = (sI a).toBitVec.toNat
  rw [UInt32.toNat_mod]
  show (sI a).toBitVec.toNat % 65536 = _
  omega
/-- one place of the reference frozen -/
theorem fzMp {pr : Nat → Nat → Bool} {Kz M : mm_M} (i0 k0 : Nat) (hp : pm (s_c i0) k0 = false) (hpr : PM pr) (h : INV pr Kz M) : ∃ (pr2 : Nat → Nat → Bool) (Kz2 : mm_M), PM pr2 ∧ INV pr2 Kz2 M ∧ (∀ i k, ¬ (i = i0 ∧ k = k0) → pr i k = false → pr2 i k = false) ∧ (∀ M', INV pr2 Kz2 M' → INV pr Kz M' ∧ M'.1 i0 k0 = M.1 i0 k0) := by
  obtain ⟨pr2, Kz2, a, b, d⟩ := fz (fun i k => decide (i = i0) && decide (k = k0)) h
  refine ⟨pr2, Kz2, fun i k q => b i k (hpr i k q) ?_, a, fun i k q1 q2 => b i k q2 ?_, fun M' h' => ⟨(d M' h').1, (d M' h').2 i0 k0 (by simp)⟩⟩
  · show (decide (i = i0) && decide (k = k0)) = false
    by_cases h1 : i = i0
    · by_cases h2 : k = k0
      · rw [h1, h2, hp] at q; cases q
      · simp [h2]
    · simp [h1]
  · show (decide (i = i0) && decide (k = k0)) = false
    by_cases h1 : i = i0
    · by_cases h2 : k = k0
      · exact absurd ⟨h1, h2⟩ q1
      · simp [h2]
    · simp [h1]
