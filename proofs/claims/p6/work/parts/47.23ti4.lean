/-! trays: what both sides hold alike -/
theorem i64_x {a b : Int64} (h : a.toInt = b.toInt) : a = b := Int64.toInt_inj.mp h
def TYT (M : mm_M) : Prop := ∀ q : Nat, q < 4 → ∀ j : Nat, (j : Int) < (M.1 (s_p0 50 q) 2).toInt → M.2.1 117 (40 * q + j) = M.2.1 (s_p0 (s_p0 50 q) 0) j
/-- the class's cells stay -/
def CFR (M N : mm_M) : Prop := (∀ i, i < 98 → N.1 i = M.1 i) ∧ (∀ i, i < 98 → N.2.1 i = M.2.1 i) ∧ ∀ i k, i < 98 → N.2.2 i k = M.2.2 i k
theorem cfr_f {S : List Nat} {M N : mm_M} (h : FR S M N) (hS : ∀ x ∈ S, 98 ≤ x) : CFR M N :=
  ⟨fun i hi => h.cell (fun z => by have := hS i z; omega), fun i hi => h.cellJ (fun z => by have := hS i z; omega), fun i k _ => by rw [h.2.1]⟩
theorem ty_98 : ∀ q, q < 4 → s_p0 50 q < 98 ∧ s_p0 (s_p0 50 q) 0 < 98 := by decide
theorem tyt_f {M N : mm_M} (h : TYT M) (hc : CFR M N) (e : N.2.1 117 = M.2.1 117) : TYT N := fun q hq j hj => by
  have c := ty_98 q hq
  rw [hc.1 _ c.1] at hj
  rw [e, hc.2.1 _ c.2]
  exact h q hq j hj
theorem tyt_s {M N : mm_M} (h : TYT M) (hc : b01 (TRS M N) = 1) (e : N.2.1 117 = M.2.1 117) : TYT N := fun q hq j hj => by
  have c := b01_e hc q hq
  rw [c.1] at hj
  rw [e, c.2]
  exact h q hq j hj
def TSZ (M : mm_M) : Prop := ∀ q : Nat, q < 4 → (M.1 (s_p0 50 q) 2).toInt ≤ 40
theorem tsz_i {M : mm_M} (h : INV0 M) : TSZ M := fun q hq => (h.rd (i := s_p0 50 q) (c := 9) (k := 2) (try_c q hq).1 (show s_b 9 2 = (-1, 40) from rfl)).2
theorem tyt_nu {M M1 M2 : mm_M} {t s n a a' : Int} (h : TYT M) (hz : TSZ M) (ha : a = nuF t s n) (hx : a = 0 ∧ b01 (TRN M M1 t s n) = 1 ∨ a < 0 ∧ b01 (TRS M M1) = 1) (ha' : a' = nuF t s n) (hm : a' = 0 ∧ b01 (M2.2.1 117 = zeJ (M1.2.1 117) (40 * t).toNat n.toNat) = 1 ∨ a' < 0 ∧ b01 (M2.2.1 117 = M1.2.1 117) = 1) (e : M1.2.1 117 = M.2.1 117) (hc : CFR M1 M2) : TYT M2 := by
  have s_ := nuF_s t s n
  rcases hx with ⟨x0, x⟩ | ⟨x0, x⟩
  · have m := b01_e (hm.resolve_right (fun z => by omega)).2
    obtain ⟨x1, x2, x3, x4⟩ := b01_e x
    intro q hq j hj
    have c := ty_98 q hq
    rw [hc.1 _ c.1] at hj
    rw [m, hc.2.1 _ c.2, e]
    by_cases k : (q : Int) = t
    · have kt : t.toNat = q := by omega
      rw [kt] at x3 x4
      unfold zeJ
      rw [if_pos (by omega)]
      exact i64_x (by rw [x4 j (by omega)]; exact sJ_t (by decide))
    · have y := x1 q hq k
      rw [y.1] at hj
      have z := hz q hq
      unfold zeJ
      rw [if_neg (by omega), y.2]
      exact h q hq j hj
  · have m := b01_e (hm.resolve_left (fun z => by omega)).2
    exact tyt_f (tyt_s h x e) hc m
theorem tyt_wr {M M1 M2 : mm_M} {t i a a' : Int} (h : TYT M) (hz : TSZ M) (ea : a = a') (hx : (t < 0 ∨ 3 < t) ∧ b01 (TRS M M1) = 1 ∨ (0 ≤ t ∧ t ≤ 3) ∧ (M.1 (s_p0 50 t.toNat) 2).toInt = -1 ∧ b01 (TRS M M1) = 1 ∨ (0 ≤ t ∧ t ≤ 3) ∧ ¬ (M.1 (s_p0 50 t.toNat) 2).toInt = -1 ∧ (i < 0 ∨ (M.1 (s_p0 50 t.toNat) 2).toInt ≤ i) ∧ b01 (TRS M M1) = 1 ∨ (0 ≤ t ∧ t ≤ 3) ∧ ¬ (M.1 (s_p0 50 t.toNat) 2).toInt = -1 ∧ 0 ≤ i ∧ i < (M.1 (s_p0 50 t.toNat) 2).toInt ∧ b01 (TRW M M1 t i a) = 1) (ra : -9223372036854775808 ≤ a ∧ a ≤ 9223372036854775807) (h3 : (t < 0 ∨ 3 < t) ∨ ((0 ≤ t ∧ t ≤ 3) ∧ (((M.1 115 t.toNat).toInt = -1 ∧ (M.1 (s_p0 50 t.toNat) 2).toInt = -1) ∨ (0 ≤ (M.1 115 t.toNat).toInt ∧ (M.1 115 t.toNat).toInt = (M.1 (s_p0 50 t.toNat) 1).toInt ∧ 0 ≤ (M.1 (s_p0 50 t.toNat) 2).toInt ∧ (M.1 116 t.toNat).toInt = (M.1 (s_p0 50 t.toNat) 2).toInt)))) (e5 : M1.1 115 = M.1 115) (e6 : M1.1 116 = M.1 116) (hm : 0 ≤ (M1.1 115 t.toNat).toInt ∧ (0 ≤ t ∧ t ≤ 3) ∧ (0 ≤ i ∧ i < (M1.1 116 t.toNat).toInt) ∧ b01 (M2.2.1 117 = uJ (M1.2.1 117) (40 * t + i).toNat a') = 1 ∨ (t < 0 ∨ 3 < t ∨ (M1.1 115 t.toNat).toInt = -1 ∨ i < 0 ∨ (M1.1 116 t.toNat).toInt ≤ i) ∧ b01 (M2.2.1 117 = M1.2.1 117) = 1) (e : M1.2.1 117 = M.2.1 117) (hc : CFR M1 M2) : TYT M2 := by
  rw [e5, e6] at hm
  subst ea
  have hs : ((t < 0 ∨ 3 < t) ∨ (M.1 (s_p0 50 t.toNat) 2).toInt = -1 ∨ i < 0 ∨ (M.1 (s_p0 50 t.toNat) 2).toInt ≤ i) ∧ b01 (TRS M M1) = 1 ∨ ((0 ≤ t ∧ t ≤ 3) ∧ ¬ (M.1 (s_p0 50 t.toNat) 2).toInt = -1 ∧ 0 ≤ i ∧ i < (M.1 (s_p0 50 t.toNat) 2).toInt) ∧ b01 (TRW M M1 t i a) = 1 := by omega
  rcases hs with ⟨x0, x⟩ | ⟨x0, x⟩
  · have m := b01_e (hm.resolve_left (fun z => by omega)).2
    exact tyt_f (tyt_s h x e) hc m
  · have m := b01_e (hm.resolve_right (fun z => by omega)).2.2.2
    obtain ⟨x1, x2, x3, x4⟩ := b01_e x
    intro q hq j hj
    have c := ty_98 q hq
    rw [hc.1 _ c.1] at hj
    rw [m, hc.2.1 _ c.2, e]
    by_cases k : (q : Int) = t
    · have kt : t.toNat = q := by omega
      rw [kt] at x2 x3 x4
      rw [x2] at hj
      unfold uJ
      by_cases l : (j : Int) = i
      · rw [if_pos (by omega)]
        have lt : i.toNat = j := by omega
        rw [lt] at x4
        exact i64_x (by rw [x4]; exact sJ_t ra)
      · rw [if_neg (by omega), x3 j l]
        exact h q hq j hj
    · have y := x1 q hq k
      rw [y.1] at hj
      have z := hz q hq
      have zt := hz t.toNat (by omega)
      unfold uJ
      rw [if_neg (by omega), y.2]
      exact h q hq j hj
theorem tyt_ls {M M1 M2 : mm_M} {t a a' : Int} {R f : Nat → Int32} (h : TYT M) (hz : TSZ M) (hE : EQR R f) (h27 : 0 ≤ (f 27).toInt ∧ (f 27).toInt ≤ 255) (hr : a = lsA (ntX M t) (enF R (-1)) (tsX M t)) (hx : a < 0 ∧ b01 (TRS M M1) = 1 ∨ 0 ≤ a ∧ b01 (TRL M M1 t R a) = 1) (ea : a = a') (hm : 0 ≤ a' ∧ b01 (M2.2.1 117 = lsJ f (M1.2.1 117) (40 * t).toNat a'.toNat) = 1 ∨ a' < 0 ∧ b01 (M2.2.1 117 = M1.2.1 117) = 1) (e : M1.2.1 117 = M.2.1 117) (hc : CFR M1 M2) : TYT M2 := by
  subst ea
  rcases hx with ⟨x0, x⟩ | ⟨x0, x⟩
  · have m := b01_e (hm.resolve_left (fun z => by omega)).2
    exact tyt_f (tyt_s h x e) hc m
  · have m := b01_e (hm.resolve_right (fun z => by omega)).2
    obtain ⟨x1, x2, x3⟩ := b01_e x
    have s := lsA_s (ntX M t) (enF R (-1)) (tsX M t)
    have n := ntX_s M t
    have ts : tsX M t = (M.1 (s_p0 50 t.toNat) 2).toInt := rfl
    have en := eq_en hE (-1)
    have q := eq_ls hE h27 (M1.2.1 117) (40 * t).toNat a.toNat (by omega)
    rw [← q] at m
    intro q hq j hj
    have c := ty_98 q hq
    rw [hc.1 _ c.1] at hj
    rw [m, hc.2.1 _ c.2, e]
    by_cases k : (q : Int) = t
    · have kt : t.toNat = q := by omega
      rw [kt] at x2 x3
      rw [x2] at hj
      rw [x3]
      unfold lsJ
      by_cases l : (j : Int) < a
      · rw [if_pos (by omega), if_pos (by omega), show 40 * q + j - (40 * t).toNat = j - 0 by omega]
      · rw [if_neg (by omega), if_neg (by omega)]
        exact h q hq j hj
    · have y := x1 q hq k
      rw [y.1] at hj
      have z := hz q hq
      have zt := hz t.toNat (by omega)
      rw [y.2]
      unfold lsJ
      rw [if_neg (by omega)]
      exact h q hq j hj
