/-! a kind more, a season taken back, a stock to keep: of rows alike -/
theorem eq_as {f g : Nat → Int32} (h : EQR g f) (n y : Int) (h8 : (f 26).toInt < 8) : EQR (asS g n y) (asS f n y) := by
  have k26 := (eq_k h).1
  obtain ⟨⟨⟨h0, h1, h2, h3, h4⟩, ⟨k1, k2, k3, k4, k5, k6⟩, k7⟩, rn⟩ := h
  have r26 := rn.1
  have u : ∀ j : Nat, g j = f j → asS g n y j = asS f n y j := fun j e => by
    unfold asS
    rw [k26]
    exact uR_e (uR_e (uR_e e))
  have of : ∀ r : Nat → Int32, r 26 = f 26 → ∀ j : Nat, j < 26 → asS r n y j = r j := fun r e j hj => by
    unfold asS
    rw [e, uR_n (by omega), uR_n (by omega), uR_n (by omega)]
  have v26 : (asS f n y 26).toInt = (f 26).toInt + 1 := by
    unfold asS
    rw [uR_n (by omega), uR_n (by omega), uR_s, sI_t (by omega)]
  have L : ∀ l : Nat, l ≤ 1 → EQL g f l → EQL (asS g n y) (asS f n y) l := fun l hl e => by
    unfold EQL at *
    rw [of g k26 (2 + l) (by omega), of f rfl (2 + l) (by omega), of g k26 (4 + l) (by omega), of f rfl (4 + l) (by omega), of g k26 (6 + l) (by omega), of f rfl (6 + l) (by omega)]
    exact ⟨e.1, fun z => ⟨(e.2 z).1, (e.2 z).2.1, fun i hi => u _ ((e.2 z).2.2 i hi)⟩⟩
  refine ⟨⟨⟨u 0 h0, u 1 h1, fun b b0 b1 => ?_, L 0 (by decide) h3, L 1 (by decide) h4⟩, ⟨u _ k1, u _ k2, u _ k3, u _ k4, u _ k5, u _ k6⟩, fun k x0 x1 => ?_⟩, ?_⟩
  · rw [of f rfl 1 (by decide)] at b1
    obtain ⟨q1, q2, q3⟩ := h2 b b0 b1
    exact ⟨u _ q1, u _ q2, u _ q3⟩
  · by_cases c : k < (f 26).toInt
    · obtain ⟨q1, q2⟩ := k7 k x0 c
      exact ⟨u _ q1, u _ q2⟩
    · have e : k = (f 26).toInt := by omega
      unfold EQK asS
      rw [k26, e]
      refine ⟨?_, ?_⟩
      · rw [uR_n (by omega), uR_s, uR_n (by omega), uR_s]
      · rw [uR_s, uR_s]
  · unfold RNQ
    rw [v26, of f rfl 1 (by decide), of f rfl 4 (by decide), of f rfl 5 (by decide)]
    exact ⟨by omega, rn.2⟩
theorem ia_f {f h : Nat → Int32} (e : SM49 f h) : iaF h (kpF f) 23 = f := by
  funext j
  unfold iaF kpF
  by_cases c : 26 ≤ j ∧ j < 26 + 23
  · rw [if_pos c, show 26 + (j - 26) = j by omega]
  · rw [if_neg c]; exact e j (by omega)
theorem stq_k {M : mm_M} {p v : Nat} {f : Nat → Int32} (h : EQR (rwX M p v) f) : STQ (skX M v) (kpF f) ∧ 0 ≤ (kpF f 0).toInt ∧ (kpF f 0).toInt ≤ 8 := ⟨stq_s h.1.2 h.2.1.2, h.2.1⟩
/-- a deed with what it keeps: rows alike and the ring -/
theorem eqr_kp {M N : mm_M} {p v w : Nat} {f g : Nat → Int32} (h : EQR (rwX M p v) f) (hg : RGT M f) (hr : RG1 M N (skX M v)) (hN : EQR (rwX N p w) g) (e : ∀ j : Nat, 49 ≤ j → j < 280 → g j = f j) : EQR (rwX N p w) (ntF g (kpF f)) ∧ RGT N (ntF g (kpF f)) := by
  obtain ⟨a, b⟩ := stq_k h
  have r := rgt_p hg hr e a b
  refine ⟨?_, r⟩
  have o : ∀ j : Nat, (j < 49 ∨ 280 ≤ j) → ntF g (kpF f) j = g j := fun j hj => by
    have n49 : (n1F g 49).toInt = 9 ∨ (n1F g = g) := by
      unfold n1F
      by_cases c : (g 49).toInt = 10
      · rw [if_pos c, uR_s]; exact Or.inl (sI_t (by decide))
      · rw [if_neg c]; exact Or.inr rfl
    have g49 : (g 49).toInt = (f 49).toInt := by rw [e 49 (by decide) (by decide)]
    have rb := hg.1.2.1
    have x : n1F g j = g j := by
      unfold n1F
      by_cases c : (g 49).toInt = 10
      · rw [if_pos c, uR_n (by omega)]
        unfold shS
        rw [if_neg (by omega)]
      · rw [if_neg c]
    have y : (n1F g 49).toInt ≤ 9 ∧ 0 ≤ (n1F g 49).toInt := by
      unfold n1F
      by_cases c : (g 49).toInt = 10
      · rw [if_pos c, uR_s, sI_t (by decide)]; decide
      · rw [if_neg c]; omega
    unfold ntF
    rw [uR_n (by omega)]
    unfold wrS
    rw [if_neg (by omega)]
    exact x
  obtain ⟨⟨⟨h0, h1, h2, h3, h4⟩, ⟨k1, k2, k3, k4, k5, k6⟩, k7⟩, rn⟩ := hN
  have b6 := rn.2.1
  have k8 := rn.1
  have L : ∀ l : Nat, l ≤ 1 → 0 ≤ (g (4 + l)).toInt → EQL (rwX N p w) g l → EQL (rwX N p w) (ntF g (kpF f)) l := fun l hl q z => by
    unfold EQL at *
    rw [o (2 + l) (by omega), o (4 + l) (by omega), o (6 + l) (by omega)]
    exact ⟨z.1, fun x => ⟨(z.2 x).1, (z.2 x).2.1, fun i hi => by rw [o _ (by omega)]; exact (z.2 x).2.2 i hi⟩⟩
  refine ⟨⟨⟨h0.trans (o 0 (by decide)).symm, h1.trans (o 1 (by decide)).symm, fun b b0 b1 => ?_, L 0 (by decide) rn.2.2.1 h3, L 1 (by decide) rn.2.2.2 h4⟩, ⟨k1.trans (o 26 (by decide)).symm, k2.trans (o 27 (by decide)).symm, k3.trans (o 28 (by decide)).symm, k4.trans (o 29 (by decide)).symm, k5.trans (o 30 (by decide)).symm, k6.trans (o 32 (by decide)).symm⟩, fun k x0 x1 => ?_⟩, ?_⟩
  · rw [o 1 (by decide)] at b1
    obtain ⟨q1, q2, q3⟩ := h2 b b0 b1
    exact ⟨q1.trans (o _ (by omega)).symm, q2.trans (o _ (by omega)).symm, q3.trans (o _ (by omega)).symm⟩
  · rw [o 26 (by decide)] at x1
    obtain ⟨q1, q2⟩ := k7 k x0 x1
    exact ⟨q1.trans (o _ (by omega)).symm, q2.trans (o _ (by omega)).symm⟩
  · unfold RNQ
    rw [o 26 (by decide), o 1 (by decide), o 4 (by decide), o 5 (by decide)]
    exact rn
