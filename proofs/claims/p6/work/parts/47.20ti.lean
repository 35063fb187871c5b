/-! WHAT BOTH SIDES HOLD ALIKE BETWEEN THE CALLS -/
/-- a stock's shifted row: prices 1 to 99, gifts counted -/
def GSR (s : Nat → Int32) (x : Int) : Prop := (∀ k : Int, 0 ≤ k → k < (s 0).toInt → 1 ≤ (s (7 + k).toNat).toInt ∧ (s (7 + k).toNat).toInt ≤ 99) ∧ 0 ≤ (s 4).toInt ∧ (s 4).toInt ≤ x
theorem gsr_c {s t : Nat → Int32} {x y : Int} (h : GSR s x) (h8 : (s 0).toInt ≤ 8) (e : ∀ j : Nat, j < 23 → t j = s j) (hx : x ≤ y) : GSR t y := by
  refine ⟨fun k k0 k1 => ?_, by rw [e 4 (by decide)]; exact h.2.1, by rw [e 4 (by decide)]; have := h.2.2; omega⟩
  rw [e 0 (by decide)] at k1
  rw [e _ (by omega)]
  exact h.1 k k0 k1
theorem gsr_p {f : Nat → Int32} {y : Int} (h : PRR f) (h0 : 0 ≤ (f 30).toInt ∧ (f 30).toInt ≤ y) : GSR (kpF f) y := by
  refine ⟨fun k k0 k1 => ?_, h0.1, h0.2⟩
  have := h.2 k k0 k1
  show 1 ≤ (f (26 + (7 + k).toNat)).toInt ∧ (f (26 + (7 + k).toNat)).toInt ≤ 99
  rw [show 26 + (7 + k).toNat = (33 + k).toNat by omega]
  exact this
theorem prr_q {f : Nat → Int32} {x : Int} (h : GSR (kpF f) x) (h8 : 0 ≤ (f 26).toInt ∧ (f 26).toInt ≤ 8) : PRR f := ⟨h8, fun k k0 k1 => by
  have q : 1 ≤ (f (26 + (7 + k).toNat)).toInt ∧ (f (26 + (7 + k).toNat)).toInt ≤ 99 := h.1 k k0 k1
  rw [show 26 + (7 + k).toNat = (33 + k).toNat by omega] at q
  exact q⟩
theorem prr_g {f g : Nat → Int32} (h : EQR g f) (hs : PRR f) : PRR g := by
  have a := (eq_k h).1
  refine ⟨by rw [a]; exact h.2.1, fun k k0 k1 => ?_⟩
  rw [a] at k1
  rw [(h.1.2.2 k k0 k1).1]
  exact hs.2 k k0 k1
theorem prr_h {f g : Nat → Int32} (h : EQR g f) (hs : PRR g) : PRR f := by
  have a := (eq_k h).1
  refine ⟨h.2.1, fun k k0 k1 => ?_⟩
  rw [← (h.1.2.2 k k0 k1).1]
  exact hs.2 k k0 (by rw [a]; exact k1)
def GOD (f : Nat → Int32) (x : Int) : Prop := ODQ f ∧ GSR (kpF f) x
theorem god_c {f g : Nat → Int32} {x y : Int} (h : GOD f x) (r : RNQ f) (e : ∀ j : Nat, j < 49 → g j = f j) (hx : x ≤ y) : GOD g y :=
  ⟨odq_c (fun j hj => e j (by omega)) r.2.1.2 h.1, gsr_c h.2 r.1.2 (fun j hj => e (26 + j) (by omega)) hx⟩
/-- a plan and its stock, alike to a row -/
def IMT (M : mm_M) (P V : Nat) (f : Nat → Int32) (x : Int) : Prop := EQR (rwX M P V) f ∧ (LAW M P ∧ MKX M P) ∧ GOD f x
def BPX (M : mm_M) : Prop := ∀ p : Nat, s_c p = 6 → 0 ≤ (M.1 p 7).toInt ∧ 0 ≤ (M.1 p 9).toInt ∧ (M.1 p 0).toInt ≤ 6
theorem bpx_i {M : mm_M} (h : INV0 M) : BPX M := fun p cp => by
  have a := h.rd (i := p) (c := 6) (k := 7) cp (show s_b 6 7 = (0, 900) from rfl)
  have b := h.rd (i := p) (c := 6) (k := 9) cp (show s_b 6 9 = (0, 900) from rfl)
  have c := h.rd (i := p) (c := 6) (k := 0) cp (show s_b 6 0 = (0, 6) from rfl)
  exact ⟨a.1, b.1, c.2⟩
theorem lmk_m {M N : mm_M} {P : Nat} (hb : BPX M) (cp : s_c P = 6) (hp : PLE M N P) (h : LAW M P ∧ MKX M P) : LAW N P ∧ MKX N P :=
  ⟨b01_e (law_p hp (hb P cp).1 (hb P cp).2.1 (b01_i h.1)), by unfold MKX; rw [hp.1]; exact h.2⟩
theorem imt_m {M N : mm_M} {P V : Nat} {f : Nat → Int32} {x y : Int} (hb : BPX M) (cp : s_c P = 6) (h : IMT M P V f x) (hp : PLE M N P) (hv : SKE M N V) (hx : x ≤ y) : IMT N P V f y :=
  ⟨by rw [rx_f hp hv]; exact h.1, lmk_m hb cp hp h.2.1, h.2.2.1, gsr_c h.2.2.2 h.1.2.1.2 (fun _ _ => rfl) hx⟩
theorem imt_g {M : mm_M} {P V : Nat} {f g : Nat → Int32} {x : Int} (h : IMT M P V f x) (hz : zwB f) (e : ∀ j : Nat, j < 1181 → g j = f j) : IMT M P V g x :=
  ⟨eqr_g h.1 hz (fun j hj _ => e j hj), h.2.1, god_c h.2.2 h.1.2 (fun j hj => e j (by omega)) (Int.le_refl _)⟩
def IM0 : List Nat := [60, 61, 62, 63, 64, 65, 66, 67, 68]
def IM1 : List Nat := [69, 70, 71, 72, 73, 74, 75, 76, 77]
theorem im0_e {M N : mm_M} (h : SMC N M IM0) : (PLE M N 61 ∧ SKE M N 66) ∧ N.1 60 = M.1 60 :=
  ⟨⟨⟨h _ (by decide), h _ (by decide), h _ (by decide), h _ (by decide), h _ (by decide)⟩, h _ (by decide), h _ (by decide), h _ (by decide)⟩, h _ (by decide)⟩
theorem im1_e {M N : mm_M} (h : SMC N M IM1) : (PLE M N 70 ∧ SKE M N 75) ∧ N.1 69 = M.1 69 :=
  ⟨⟨⟨h _ (by decide), h _ (by decide), h _ (by decide), h _ (by decide), h _ (by decide)⟩, h _ (by decide), h _ (by decide), h _ (by decide)⟩, h _ (by decide)⟩
def IMA (M : mm_M) (f : Nat → Int32) (x : Int) : Prop := (M.1 60 0).toInt = 0 ∨ IMT M 61 66 (imR f 0) x
def IMB (M : mm_M) (f : Nat → Int32) (x : Int) : Prop := (M.1 69 0).toInt = 0 ∨ IMT M 70 75 (imR f 1) x
def IMG (M : mm_M) (f : Nat → Int32) (x : Int) : Prop := IMA M f x ∧ IMB M f x
theorem ima_m {M N : mm_M} {f : Nat → Int32} {x y : Int} (hb : BPX M) (h : IMA M f x) (hi : SMC N M IM0) (hx : x ≤ y) : IMA N f y := by
  have e := im0_e hi
  rcases h with h | h
  · exact Or.inl (by rw [e.2]; exact h)
  · exact Or.inr (imt_m hb rfl h e.1.1 e.1.2 hx)
theorem imb_m {M N : mm_M} {f : Nat → Int32} {x y : Int} (hb : BPX M) (h : IMB M f x) (hi : SMC N M IM1) (hx : x ≤ y) : IMB N f y := by
  have e := im1_e hi
  rcases h with h | h
  · exact Or.inl (by rw [e.2]; exact h)
  · exact Or.inr (imt_m hb rfl h e.1.1 e.1.2 hx)
theorem imR_c {f g : Nat → Int32} (e : ∀ j : Nat, 1181 ≤ j → g j = f j) {k : Int} (hk : 0 ≤ k) : imR g k = imR f k := funext fun j => e _ (by omega)
theorem img_m {M N : mm_M} {f g : Nat → Int32} {x y : Int} (hb : BPX M) (h : IMG M f x) (h0 : SMC N M IM0) (h1 : SMC N M IM1) (e : ∀ j : Nat, 1181 ≤ j → g j = f j) (hx : x ≤ y) : IMG N g y := by
  have a := ima_m hb h.1 h0 hx
  have b := imb_m hb h.2 h1 hx
  unfold IMG IMA IMB at *
  rw [imR_c e (by decide), imR_c e (by decide)]
  exact ⟨a, b⟩
/-- the ring's rows -/
def RNG (f : Nat → Int32) (x : Int) : Prop := ∀ i : Nat, (i : Int) < (f 49).toInt → GSR (kpR f i) x
/-- all of it: plan gp, row f -/
def CTS (M : mm_M) (gp : Nat) (f : Nat → Int32) (x : Int) : Prop := (IMT M gp 12 f x ∧ APX M gp) ∧ (RGT M f ∧ RNG f x) ∧ IMG M f x
/-- a call that leaves the state -/
theorem cts_n {M N : mm_M} {gp : Nat} {f g : Nat → Int32} {x y : Int} (hb : BPX M) (cp : s_c gp = 6) (h : CTS M gp f x) (hp : PLE M N gp) (ha : b01 (APX N gp) = 1) (h0 : SMC N M IM0) (h1 : SMC N M IM1) (hg : RG0 M N) (hr : EQR (rwX N gp 12) g) (e : ∀ j : Nat, (j < 26 ∨ 49 ≤ j) → g j = f j) (hs : GSR (kpF g) y) (hx : x ≤ y) : CTS N gp g y := by
  obtain ⟨⟨⟨a, b, d1, d2⟩, _⟩, ⟨r, rg⟩, im⟩ := h
  refine ⟨⟨⟨hr, lmk_m hb cp hp b, odq_c (fun j hj => e j (Or.inl hj)) a.2.2.1.2 d1, hs⟩, b01_e ha⟩, ⟨rgt_f r hg (fun j j0 _ => e j (Or.inr j0)), fun i hi => ?_⟩, img_m hb im h0 h1 (fun j hj => e j (Or.inr (by omega))) hx⟩
  rw [e 49 (Or.inr (by decide))] at hi
  exact gsr_c (rg i hi) (r.2.1 i hi).2 (fun j hj => e _ (Or.inr (by omega))) hx
theorem cts_k {M N : mm_M} {gp : Nat} {f : Nat → Int32} {x y : Int} (hb : BPX M) (cp : s_c gp = 6) (h : CTS M gp f x) (hp : PLE M N gp) (hv : rwX N gp 12 = rwX M gp 12) (ha : b01 (APX N gp) = 1) (h0 : SMC N M IM0) (h1 : SMC N M IM1) (hg : RG0 M N) (hx : x ≤ y) : CTS N gp f y :=
  cts_n hb cp h hp ha h0 h1 hg (by rw [hv]; exact h.1.1.1) (fun _ _ => rfl) (gsr_c h.1.1.2.2.2 h.1.1.1.2.1.2 (fun _ _ => rfl) hx) hx
theorem nt_o {g w : Nat → Int32} (h : 0 ≤ (g 49).toInt ∧ (g 49).toInt ≤ 10) {j : Nat} (hj : j < 49 ∨ 280 ≤ j) : ntF g w j = g j := by
  have x : n1F g j = g j := by
    unfold n1F
    by_cases c : (g 49).toInt = 10
    · rw [if_pos c, uR_n (by omega)]
      unfold shS
      rw [if_neg (by omega)]
    · rw [if_neg c]
  have y : (n1F g 49).toInt ≤ 9 ∧ 0 ≤ (n1F g 49).toInt := by
    unfold n1F
    by_cases c : (g 49).toInt = 10
    · rw [if_pos c, uR_s, sI_t (by decide)]; decide
    · rw [if_neg c]; omega
  unfold ntF
  rw [uR_n (by omega)]
  unfold wrS
  rw [if_neg (by omega)]
  exact x
/-- a call that keeps the stock as it was -/
theorem cts_p {M N : mm_M} {gp : Nat} {f g : Nat → Int32} {x y : Int} (hb : BPX M) (cp : s_c gp = 6) (h : CTS M gp f x) (hp : PLE M N gp) (ha : b01 (APX N gp) = 1) (h0 : SMC N M IM0) (h1 : SMC N M IM1) (hg : RG1 M N (skX M 12)) (hr : EQR (rwX N gp 12) g) (e : ∀ j : Nat, (j < 26 ∨ 49 ≤ j) → g j = f j) (hs : GSR (kpF g) y) (hx : x ≤ y) : CTS N gp (ntF g (kpF f)) y := by
  obtain ⟨⟨⟨a, b, d1, d2⟩, _⟩, ⟨r, rg⟩, im⟩ := h
  have g49 : g 49 = f 49 := e 49 (Or.inr (by decide))
  have bd : 0 ≤ (g 49).toInt ∧ (g 49).toInt ≤ 10 := by rw [g49]; exact r.1.2.1
  have o : ∀ j : Nat, (j < 49 ∨ 280 ≤ j) → ntF g (kpF f) j = g j := fun j hj => nt_o bd hj
  have kp := eqr_kp a r hg hr (fun j h1 _ => e j (Or.inr h1))
  have god : GOD g y := ⟨odq_c (fun j hj => e j (Or.inl hj)) a.2.2.1.2 d1, hs⟩
  refine ⟨⟨⟨kp.1, lmk_m hb cp hp b, god_c god hr.2 (fun j hj => o j (Or.inl hj)) (Int.le_refl _)⟩, b01_e ha⟩, ⟨kp.2, fun i hi => ?_⟩, img_m hb im h0 h1 (fun j hj => (o j (Or.inr (by omega))).trans (e j (Or.inr (by omega)))) hx⟩
  have kg : ∀ i : Nat, (i : Int) < (f 49).toInt → ∀ t : Nat → Int32, (∀ j : Nat, j < 23 → t j = kpR g i j) → GSR t y := fun i hi t ht => gsr_c (rg i hi) (r.2.1 i hi).2 (fun j hj => (ht j hj).trans (e _ (Or.inr (by omega)))) hx
  have kf : ∀ t : Nat → Int32, (∀ j : Nat, j < 23 → t j = kpF f j) → GSR t y := fun t ht => gsr_c d2 a.2.1.2 ht hx
  rcases nt_v g (kpF f) bd with ⟨n0, n1, n2, n3⟩ | ⟨n0, n1, n2, n3⟩
  · rw [n1] at hi
    by_cases c : (i : Int) < (g 49).toInt
    · exact kg i (by rw [← g49]; exact c) _ (n2 i c)
    · have : i = (g 49).toInt.toNat := by omega
      subst this
      exact kf _ n3
  · rw [n1] at hi
    by_cases c : i < 9
    · exact kg (i + 1) (by rw [← g49]; omega) _ (n2 i c)
    · have : i = 9 := by omega
      subst this
      exact kf _ n3
/-- undone -/
theorem cts_u {M N : mm_M} {gp : Nat} {f : Nat → Int32} {x n : Int} (hb : BPX M) (cp : s_c gp = 6) (h : CTS M gp f x) (hp : PLE M N gp) (ha : b01 (APX N gp) = 1) (h0 : SMC N M IM0) (h1 : SMC N M IM1) (hg : RGU M N n 12) (hn : 1 ≤ n ∧ n ≤ (f 49).toInt) : CTS N gp (unS f n) x := by
  obtain ⟨⟨⟨a, b, d1, d2⟩, _⟩, ⟨r, rg⟩, im⟩ := h
  have kp := eqr_un a hp r hg hn
  obtain ⟨u1, u2, u3⟩ := uns_v f (n := n) (by omega) r.1.2.1.2
  have q : (((f 49).toInt - n).toNat : Int) < (f 49).toInt := by have := r.1.2.1; omega
  refine ⟨⟨⟨kp.1, lmk_m hb cp hp b, odq_c (fun j hj => u3 j (Or.inl hj)) a.2.2.1.2 d1, gsr_c (rg _ q) (r.2.1 _ q).2 (fun j hj => ?_) (Int.le_refl _)⟩, b01_e ha⟩, ⟨kp.2, fun i hi => ?_⟩, img_m hb im h0 h1 (fun j hj => u3 j (Or.inr (by omega))) (Int.le_refl _)⟩
  · show unS f n (26 + j) = _
    rw [u2 (26 + j) (by omega) (by omega), show 26 + j - 26 = j by omega]
  · rw [u1] at hi
    have hi' : (i : Int) < (f 49).toInt := by omega
    exact gsr_c (rg i hi') (r.2.1 i hi').2 (fun j hj => u3 _ (Or.inr (by omega))) (Int.le_refl _)
