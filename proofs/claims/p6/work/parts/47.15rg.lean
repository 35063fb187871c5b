/-! THE RING: what was kept, told of both sides -/
/-- a kept stock, alike: its kinds, what is sold, hidden, the till, the gifts, x; prices and groups of its kinds -/
def STQ (r s : Nat → Int32) : Prop := (r 0 = s 0 ∧ r 1 = s 1 ∧ r 2 = s 2 ∧ r 3 = s 3 ∧ r 4 = s 4 ∧ r 6 = s 6) ∧ ∀ k : Int, 0 ≤ k → k < (s 0).toInt → r (7 + k).toNat = s (7 + k).toNat ∧ r (15 + k).toNat = s (15 + k).toNat
theorem stq_c {r s t : Nat → Int32} (h : STQ r s) (h8 : (s 0).toInt ≤ 8) (e : ∀ j : Nat, j < 23 → t j = s j) : STQ r t := by
  obtain ⟨⟨h0, h1, h2, h3, h4, h5⟩, h6⟩ := h
  refine ⟨⟨h0.trans (e 0 (by decide)).symm, h1.trans (e 1 (by decide)).symm, h2.trans (e 2 (by decide)).symm, h3.trans (e 3 (by decide)).symm, h4.trans (e 4 (by decide)).symm, h5.trans (e 6 (by decide)).symm⟩, fun k k0 k1 => ?_⟩
  rw [e 0 (by decide)] at k1
  exact ⟨(h6 k k0 k1).1.trans (e _ (by omega)).symm, (h6 k k0 k1).2.trans (e _ (by omega)).symm⟩
/-- the i-th row that the reference keeps -/
def kpR (f : Nat → Int32) (i : Nat) : Nat → Int32 := fun j => f (50 + 23 * i + j)
def KS8 (f : Nat → Int32) : Prop := ∀ i : Nat, (i : Int) < (f 49).toInt → 0 ≤ (kpR f i 0).toInt ∧ (kpR f i 0).toInt ≤ 8
/-- where the class keeps its i-th -/
def rgI (h n : Int) (i : Nat) : Nat := ((h - n + (i : Int)) % 10).toNat
def RGT (M : mm_M) (f : Nat → Int32) : Prop := ((M.1 18 2).toInt = (f 49).toInt ∧ (0 ≤ (f 49).toInt ∧ (f 49).toInt ≤ 10) ∧ 0 ≤ (M.1 18 1).toInt ∧ (M.1 18 1).toInt < 10) ∧ KS8 f ∧ ∀ i : Nat, (i : Int) < (f 49).toInt → STQ (skX M (s_p0 19 (rgI (M.1 18 1).toInt (f 49).toInt i))) (kpR f i)
theorem rgt_f {M N : mm_M} {f g : Nat → Int32} (h : RGT M f) (hr : RG0 M N) (e : ∀ j : Nat, 49 ≤ j → j < 280 → g j = f j) : RGT N g := by
  obtain ⟨⟨a, b, c⟩, k, r⟩ := h
  have e49 := e 49 (by decide) (by decide)
  unfold RGT KS8 at *
  rw [hr.1, e49]
  have z : ∀ i : Nat, (i : Int) < (f 49).toInt → ∀ j : Nat, j < 23 → kpR g i j = kpR f i j := fun i hi j hj => e _ (by omega) (by omega)
  refine ⟨⟨a, b, c⟩, fun i hi => by rw [z i hi 0 (by decide)]; exact k i hi, fun i hi => ?_⟩
  rw [hr.2 _ (by unfold rgI; omega)]
  exact stq_c (r i hi) (k i hi).2 (z i hi)
theorem nt_v (g w : Nat → Int32) (h : 0 ≤ (g 49).toInt ∧ (g 49).toInt ≤ 10) : ((g 49).toInt < 10 ∧ (ntF g w 49).toInt = (g 49).toInt + 1 ∧ (∀ i : Nat, (i : Int) < (g 49).toInt → ∀ j : Nat, j < 23 → kpR (ntF g w) i j = kpR g i j) ∧ ∀ j : Nat, j < 23 → kpR (ntF g w) (g 49).toInt.toNat j = w j) ∨ ((g 49).toInt = 10 ∧ (ntF g w 49).toInt = 10 ∧ (∀ i : Nat, i < 9 → ∀ j : Nat, j < 23 → kpR (ntF g w) i j = kpR g (i + 1) j) ∧ ∀ j : Nat, j < 23 → kpR (ntF g w) 9 j = w j) := by
  by_cases c : (g 49).toInt = 10
  · right
    have n1 : n1F g = uR (shS g 207) 49 9 := by unfold n1F; rw [if_pos c]
    have n49 : (n1F g 49).toInt = 9 := by rw [n1, uR_s, sI_t (by decide)]
    have v : ∀ p : Nat, 50 ≤ p → p < 280 → ntF g w p = if 257 ≤ p then w (p - 257) else g (p + 23) := fun p p0 p1 => by
      unfold ntF
      rw [uR_n (by omega), n49]
      unfold wrS
      by_cases d : 257 ≤ p
      · rw [if_pos (by omega), if_pos d]; rfl
      · rw [if_neg (by omega), if_neg d, n1, uR_n (by omega)]
        unfold shS
        rw [if_pos (by omega)]
    refine ⟨c, by unfold ntF; rw [uR_s, n49]; exact sI_t (by decide), fun i hi j hj => ?_, fun j hj => ?_⟩
    · show ntF g w _ = g _
      rw [v _ (by omega) (by omega), if_neg (by omega), show 50 + 23 * i + j + 23 = 50 + 23 * (i + 1) + j by omega]
    · show ntF g w _ = _
      rw [v _ (by omega) (by omega), if_pos (by omega), show 50 + 23 * 9 + j - 257 = j by omega]
  · left
    have n1 : n1F g = g := by unfold n1F; rw [if_neg c]
    have v : ∀ p : Nat, 50 ≤ p → ntF g w p = if 50 + 23 * (g 49).toInt.toNat ≤ p ∧ p < 50 + 23 * (g 49).toInt.toNat + 23 then w (p - (50 + 23 * (g 49).toInt.toNat)) else g p := fun p p0 => by
      unfold ntF
      rw [uR_n (by omega), n1]
      rfl
    refine ⟨by omega, by unfold ntF; rw [uR_s, n1]; exact sI_t (by omega), fun i hi j hj => ?_, fun j hj => ?_⟩
    · show ntF g w _ = g _
      rw [v _ (by omega), if_neg (by omega)]
    · show ntF g w _ = _
      rw [v _ (by omega), if_pos (by omega)]
      congr 1; omega
/-- a stock kept on both sides -/
theorem rgt_p {M N : mm_M} {f g w r : Nat → Int32} (h : RGT M f) (hr : RG1 M N r) (e : ∀ j : Nat, 49 ≤ j → j < 280 → g j = f j) (hw : STQ r w) (w8 : 0 ≤ (w 0).toInt ∧ (w 0).toInt ≤ 8) : RGT N (ntF g w) := by
  have h' : RGT M g := rgt_f h ⟨rfl, fun _ _ => rfl⟩ e
  obtain ⟨⟨a, b, c⟩, k, q⟩ := h'
  obtain ⟨r1, r2, r3⟩ := hr
  rcases nt_v g w b with ⟨n0, n1, n2, n3⟩ | ⟨n0, n1, n2, n3⟩
  · refine ⟨⟨by omega, by omega, by omega, by omega⟩, fun i hi => ?_, fun i hi => ?_⟩
    · by_cases d : (i : Int) < (g 49).toInt
      · rw [n2 i d 0 (by decide)]; exact k i d
      · rw [show i = (g 49).toInt.toNat by omega, n3 0 (by decide)]; exact w8
    · rw [r3 _ (by unfold rgI; omega)]
      by_cases d : (i : Int) < (g 49).toInt
      · rw [if_neg (by unfold rgI; omega)]
        have x : rgI (N.1 18 1).toInt (ntF g w 49).toInt i = rgI (M.1 18 1).toInt (g 49).toInt i := by unfold rgI; omega
        rw [x]
        exact stq_c (q i d) (k i d).2 (n2 i d)
      · rw [if_pos (by unfold rgI; omega)]
        have x : i = (g 49).toInt.toNat := by omega
        rw [x]
        exact stq_c hw w8.2 n3
  · refine ⟨⟨by omega, by omega, by omega, by omega⟩, fun i hi => ?_, fun i hi => ?_⟩
    · by_cases d : i < 9
      · rw [n2 i d 0 (by decide)]; exact k (i + 1) (by omega)
      · rw [show i = 9 by omega, n3 0 (by decide)]; exact w8
    · rw [r3 _ (by unfold rgI; omega)]
      by_cases d : i < 9
      · rw [if_neg (by unfold rgI; omega)]
        have x : rgI (N.1 18 1).toInt (ntF g w 49).toInt i = rgI (M.1 18 1).toInt (g 49).toInt (i + 1) := by unfold rgI; omega
        rw [x]
        exact stq_c (q (i + 1) (by omega)) (k (i + 1) (by omega)).2 (n2 i d)
      · rw [if_pos (by unfold rgI; omega)]
        have x : i = 9 := by omega
        rw [x]
        exact stq_c hw w8.2 n3
/-- the ring forgotten on both sides -/
theorem rgt_0 {M : mm_M} {f : Nat → Int32} (h : (M.1 18 2).toInt = 0) (h1 : 0 ≤ (M.1 18 1).toInt ∧ (M.1 18 1).toInt < 10) (hf : (f 49).toInt = 0) : RGT M f := ⟨⟨by omega, by omega, h1⟩, fun i hi => by omega, fun i hi => by omega⟩
/-- the stock as it stands, to be kept -/
theorem stq_s {M : mm_M} {p v : Nat} {f : Nat → Int32} (h : EQS (rwX M p v) f) (h8 : (f 26).toInt ≤ 8) : STQ (skX M v) (kpF f) := by
  have e : ∀ j : Nat, j < 23 → skX M v j = rwX M p v (26 + j) := fun j hj => by rw [sk_r M p v (by omega), show 26 + j - 26 = j by omega]
  refine ⟨⟨(e 0 (by decide)).trans h.1.1, (e 1 (by decide)).trans h.1.2.1, (e 2 (by decide)).trans h.1.2.2.1, (e 3 (by decide)).trans h.1.2.2.2.1, (e 4 (by decide)).trans h.1.2.2.2.2.1, (e 6 (by decide)).trans h.1.2.2.2.2.2⟩, fun k k0 k1 => ?_⟩
  have k1 : k < (f 26).toInt := k1
  have q := h.2 k k0 k1
  refine ⟨?_, ?_⟩
  · rw [e _ (by omega), show 26 + (7 + k).toNat = (33 + k).toNat by omega, q.1]
    show _ = f _
    congr 1; omega
  · rw [e _ (by omega), show 26 + (15 + k).toNat = (41 + k).toNat by omega, q.2]
    show _ = f _
    congr 1; omega
