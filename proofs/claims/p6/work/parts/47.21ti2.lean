/-! images, a shop told: what both sides hold alike behind them -/
theorem cts_i {M N : mm_M} {gp P V : Nat} {f : Nat → Int32} {x i : Int} (hb : BPX M) (cp : s_c gp = 6) (hi : 0 ≤ i) (h : IMT M gp 12 f x) (hz : zwB f) (hP : PCP N M P gp) (hk : skX N V = skX M 12) : IMT N P V (imR (imS f i) i) x := by
  have b := hb gp cp
  obtain ⟨a, l, d⟩ := h
  exact ⟨eqr_im hi hP hk b.1 b.2.1 l.2 l.1 hz a, law_pc hP b.1 b.2.1 b.2.2 l.2 l.1, god_c d a.2 (fun j hj => ((im_v f hi).1 j (by omega)).1) (Int.le_refl _)⟩
theorem cts_w {M N : mm_M} {gp : Nat} {f g : Nat → Int32} {x : Int} (hb : BPX M) (cp : s_c gp = 6) (h : CTS M gp f x) (hz : zwB f) (hp : PLE M N gp) (hv : rwX N gp 12 = rwX M gp 12) (ha : b01 (APX N gp) = 1) (hg : RG0 M N) (e : ∀ j : Nat, j < 1181 → g j = f j) (im : IMG N g x) : CTS N gp g x := by
  obtain ⟨⟨a, _⟩, ⟨r, rg⟩, _⟩ := h
  have q : IMT M gp 12 g x := imt_g a hz e
  refine ⟨⟨⟨by rw [hv]; exact q.1, lmk_m hb cp hp q.2.1, q.2.2⟩, b01_e ha⟩, ⟨rgt_f r hg (fun j _ j1 => e j (by omega)), fun i hi => ?_⟩, im⟩
  rw [e 49 (by decide)] at hi
  have i10 := r.1.2.1.2
  exact gsr_c (rg i hi) (r.2.1 i hi).2 (fun j hj => e _ (by omega)) (Int.le_refl _)
theorem cts_i0 {M N : mm_M} {gp : Nat} {f : Nat → Int32} {x : Int} (hb : BPX M) (cp : s_c gp = 6) (h : CTS M gp f x) (hz : zwB f) (hz1 : zwB (imR f 1)) (hp : PLE M N gp) (hv : rwX N gp 12 = rwX M gp 12) (ha : b01 (APX N gp) = 1) (hg : RG0 M N) (hP : b01 (PCP N M 61 gp) = 1) (hk : b01 (skX N 66 = skX M 12) = 1) (h1 : SMC N M IM1) : CTS N gp (imS f 0) x := by
  refine cts_w hb cp h hz hp hv ha hg (fun j hj => ((im_v f (by decide)).1 j hj).2) ⟨Or.inr (cts_i hb cp (by decide) h.1.1 hz (b01_e hP) (b01_e hk)), ?_⟩
  rcases imb_m hb h.2.2.2 h1 (Int.le_refl _) with q | q
  · exact Or.inl q
  · exact Or.inr (imt_g q hz1 (fun j hj => (im_v f (i := 0) (by decide)).2.1 1 (by decide) (by decide) j hj))
theorem cts_i1 {M N : mm_M} {gp : Nat} {f : Nat → Int32} {x : Int} (hb : BPX M) (cp : s_c gp = 6) (h : CTS M gp f x) (hz : zwB f) (hz0 : zwB (imR f 0)) (hp : PLE M N gp) (hv : rwX N gp 12 = rwX M gp 12) (ha : b01 (APX N gp) = 1) (hg : RG0 M N) (hP : b01 (PCP N M 70 gp) = 1) (hk : b01 (skX N 75 = skX M 12) = 1) (h0 : SMC N M IM0) : CTS N gp (imS f 1) x := by
  refine cts_w hb cp h hz hp hv ha hg (fun j hj => ((im_v f (by decide)).1 j hj).2) ⟨?_, Or.inr (cts_i hb cp (by decide) h.1.1 hz (b01_e hP) (b01_e hk))⟩
  rcases ima_m hb h.2.2.1 h0 (Int.le_refl _) with q | q
  · exact Or.inl q
  · exact Or.inr (imt_g q hz0 (fun j hj => (im_v f (i := 1) (by decide)).2.1 0 (by decide) (by decide) j hj))
/-- a shop brought back -/
theorem cts_r {M N : mm_M} {gp P V : Nat} {f : Nat → Int32} {x i : Int} (hb : BPX M) (hi : 0 ≤ i) (h : IMT M P V (imR f i) x) (cP : s_c P = 6) (hz : zwB (imR f i)) (hP : b01 (PCP N M gp P) = 1) (hk : b01 (skX N 12 = skX M V) = 1) (h18 : (N.1 18 2).toInt = 0) (b18 : 0 ≤ (N.1 18 1).toInt ∧ (N.1 18 1).toInt < 10) (hF : b01 (FIL N 83 0 8) = 1) (im : IMG N f x) : CTS N gp (reS f i) x := by
  have b := hb P cP
  obtain ⟨a, l, d⟩ := h
  have hP := b01_e hP
  have e49 : (reS f i 49).toInt = 0 := by unfold reS; rw [if_pos (by decide), if_pos rfl]; rfl
  refine ⟨⟨⟨eqr_re hi hP (b01_e hk) b.1 b.2.1 l.2 l.1 hz a, law_pc hP b.1 b.2.1 b.2.2 l.2 l.1, god_c d a.2 (fun j hj => (im_v f hi).2.2 j (by omega) (by omega)) (Int.le_refl _)⟩, b01_e (apx_z hF gp)⟩, ⟨rgt_0 h18 b18 e49, fun i hi => absurd hi (by omega)⟩, ?_⟩
  have e : ∀ j : Nat, 1181 ≤ j → reS f i j = f j := fun j hj => by unfold reS; rw [if_neg (by omega)]
  unfold IMG IMA IMB at *
  rw [imR_c e (by decide), imR_c e (by decide)]
  exact im
/-- a shop told -/
theorem cts_s {N : mm_M} {gp : Nat} {f g : Nat → Int32} {F : Nat → Int} {n x : Int} (hT : b01 (TLD F n (rwX N gp 12)) = 1) (hg : ∀ j : Nat, j < 1181 → (g j).toInt = rdC F n j) (h4 : 0 ≤ (g 4).toInt ∧ 0 ≤ (g 5).toInt) (hl : b01 (LAW N gp) = 1) (mk : b01 (MKX N gp) = 1) (hp : b01 (PRR (rwX N gp 12)) = 1) (h18 : (N.1 18 2).toInt = 0) (b18 : 0 ≤ (N.1 18 1).toInt ∧ (N.1 18 1).toInt < 10) (hF : b01 (FIL N 83 0 8) = 1) (im : IMG N f x) (e : ∀ j : Nat, 1181 ≤ j → g j = f j) (hx : 0 ≤ x) : CTS N gp g x := by
  obtain ⟨a, b, c⟩ := tld_e hT (b01_i hg) h4
  have z := (rw_rd F n).2.2.2.2.2.1
  refine ⟨⟨⟨a, ⟨b01_e hl, b01_e mk⟩, b, gsr_p (prr_h a (b01_e hp)) ?_⟩, b01_e (apx_z hF gp)⟩, ⟨rgt_0 h18 b18 c, fun i hi => absurd hi (by omega)⟩, ?_⟩
  · rw [hg 30 (by decide), z]; omega
  · unfold IMG IMA IMB at *
    rw [imR_c e (by decide), imR_c e (by decide)]
    exact im
