/-! the reference's images -/
theorem eqr_g {r f g : Nat → Int32} (h : EQR r f) (hz : zwB f) (e : ∀ j : Nat, j < 1181 → j ≠ 49 → g j = f j) : EQR r g := by
  obtain ⟨⟨⟨h0, h1, h2, h3, h4⟩, ⟨k1, k2, k3, k4, k5, k6⟩, k7⟩, rn⟩ := h
  have b6 := rn.2.1
  have k8 := rn.1
  have L : ∀ l : Nat, l ≤ 1 → 0 ≤ (f (4 + l)).toInt → (f (4 + l)).toInt + (f (6 + l)).toInt ≤ 900 → EQL r f l → EQL r g l := fun l hl p q w => by
    unfold EQL at *
    rw [e (2 + l) (by omega) (by omega), e (4 + l) (by omega) (by omega), e (6 + l) (by omega) (by omega)]
    exact ⟨w.1, fun z => ⟨(w.2 z).1, (w.2 z).2.1, fun i hi => by rw [e _ (by omega) (by omega)]; exact (w.2 z).2.2 i hi⟩⟩
  refine ⟨⟨⟨h0.trans (e 0 (by decide) (by decide)).symm, h1.trans (e 1 (by decide) (by decide)).symm, fun b b0 b1 => ?_, L 0 (by decide) rn.2.2.1 hz.1.1 h3, L 1 (by decide) rn.2.2.2 hz.2.1 h4⟩, ⟨k1.trans (e 26 (by decide) (by decide)).symm, k2.trans (e 27 (by decide) (by decide)).symm, k3.trans (e 28 (by decide) (by decide)).symm, k4.trans (e 29 (by decide) (by decide)).symm, k5.trans (e 30 (by decide) (by decide)).symm, k6.trans (e 32 (by decide) (by decide)).symm⟩, fun k k0 k1 => ?_⟩, ?_⟩
  · rw [e 1 (by decide) (by decide)] at b1
    obtain ⟨q1, q2, q3⟩ := h2 b b0 b1
    exact ⟨q1.trans (e _ (by omega) (by omega)).symm, q2.trans (e _ (by omega) (by omega)).symm, q3.trans (e _ (by omega) (by omega)).symm⟩
  · rw [e 26 (by decide) (by decide)] at k1
    obtain ⟨q1, q2⟩ := k7 k k0 k1
    exact ⟨q1.trans (e _ (by omega) (by omega)).symm, q2.trans (e _ (by omega) (by omega)).symm⟩
  · unfold RNQ
    rw [e 26 (by decide) (by decide), e 1 (by decide) (by decide), e 4 (by decide) (by decide), e 5 (by decide) (by decide)]
    exact rn
theorem im_v (f : Nat → Int32) {i : Int} (hi : 0 ≤ i) : (∀ j : Nat, j < 1181 → imR (imS f i) i j = f j ∧ imS f i j = f j) ∧ (∀ k : Int, 0 ≤ k → ¬ k = i → ∀ j : Nat, j < 1181 → imR (imS f i) k j = imR f k j) ∧ ∀ j : Nat, j < 1181 → j ≠ 49 → reS f i j = imR f i j := by
  refine ⟨fun j hj => ⟨?_, ?_⟩, fun k k0 hk j hj => ?_, fun j hj h49 => ?_⟩
  · unfold imR imS
    rw [if_pos (by omega), show (1181 * (i + 1)).toNat + j - (1181 * (i + 1)).toNat = j by omega]
  · unfold imS
    rw [if_neg (by omega)]
  · unfold imR imS
    rw [if_neg (by omega)]
  · unfold reS imR
    rw [if_pos hj, if_neg h49]
/-- an image made, a shop brought back: rows alike -/
theorem eqr_im {N M : mm_M} {d s v w : Nat} {f : Nat → Int32} {i : Int} (hi : 0 ≤ i) (h : PCP N M d s) (hk : skX N v = skX M w) (h7 : 0 ≤ (M.1 s 7).toInt) (h9 : 0 ≤ (M.1 s 9).toInt) (mk : MKX M s) (hl : LAW M s) (hz : zwB f) (hE : EQR (rwX M s w) f) : EQR (rwX N d v) (imR (imS f i) i) := eqr_g (eqr_pc h hk h7 h9 mk hl hE) hz (fun j hj _ => ((im_v f hi).1 j hj).1)
theorem eqr_re {N M : mm_M} {d s v w : Nat} {f : Nat → Int32} {i : Int} (hi : 0 ≤ i) (h : PCP N M d s) (hk : skX N v = skX M w) (h7 : 0 ≤ (M.1 s 7).toInt) (h9 : 0 ≤ (M.1 s 9).toInt) (mk : MKX M s) (hl : LAW M s) (hz : zwB (imR f i)) (hE : EQR (rwX M s w) (imR f i)) : EQR (rwX N d v) (reS f i) := eqr_g (eqr_pc h hk h7 h9 mk hl hE) hz (fun j hj h49 => (im_v f hi).2.2 j hj h49)
/-- what was told, alike with its ranges -/
theorem tld_e {f : Nat → Int} {n : Int} {r g : Nat → Int32} (h : b01 (TLD f n r) = 1) (hg : b01 (∀ j : Nat, j < 1181 → (g j).toInt = rdC f n j) = 1) (h4 : 0 ≤ (g 4).toInt ∧ 0 ≤ (g 5).toInt) : EQR r g ∧ ODQ g ∧ (g 49).toInt = 0 := by
  have hg := b01_e hg
  have rw_ := rw_rd f n
  have kq := rw_.1.1.1
  have bq := rw_.2.1
  have b1 := bq.1
  refine ⟨⟨b01_e h g hg, by rw [hg 26 (by decide)]; exact kq, by rw [hg 1 (by decide)]; exact b1, h4.1, h4.2⟩, fun b x0 x1 => ?_, by rw [hg 49 (by decide)]; exact rw_.2.2.2.2.2.2.2.2⟩
  rw [hg 1 (by decide)] at x1
  rw [hg _ (by omega)]
  exact (bq.2 b x0 x1).2.2
