/-! THE CLASS'S READER: its tokens are the text's -/
theorem wc_x {M M' : mm_M} {i k j : Nat} {v : Int32} (e : M' = wI M i k v) (h : j ≠ i) : M'.1 j = M.1 j := by rw [e]; funext b; exact u2_a _ _ h
theorem wp_x {M M' : mm_M} {i k j b : Nat} {v : Int32} (e : M' = wI M i k v) (h : b ≠ k) : M'.1 j b = M.1 j b := by rw [e]; exact u2_b _ _ h
def psX (M : mm_M) : Int := (M.1 80 ((M.1 78 2).toInt).toNat).toInt
/-- tokens[] and places[] up to the last that can be come to -/
def TKS (f : Nat → Int) (n : Int) (M : mm_M) (c : Nat) : Prop := (0 ≤ n ∧ n ≤ 900) ∧ c ≤ 900 ∧ (∀ j : Nat, j ≤ c → (M.1 79 j).toInt = tkF f n (M.1 80 j).toInt ∧ 0 ≤ (M.1 80 j).toInt ∧ (M.1 80 j).toInt ≤ n) ∧ (∀ j : Nat, j < c → ¬ tkF f n (M.1 80 j).toInt = 3000 ∧ ¬ tkF f n (M.1 80 j).toInt = 3001 ∧ (M.1 80 (j + 1)).toInt = nxF f n (M.1 80 j).toInt) ∧ (tkF f n (M.1 80 c).toInt = 3000 ∨ tkF f n (M.1 80 c).toInt = 3001)
def TKX (f : Nat → Int) (n : Int) (M : mm_M) : Prop := ∃ c : Nat, TKS f n M c ∧ 0 ≤ (M.1 78 2).toInt ∧ (M.1 78 2).toInt ≤ c
theorem tkx_b {f : Nat → Int} {n : Int} {M : mm_M} (h : b01 (TKX f n M) = 1) : (0 ≤ n ∧ n ≤ 900) ∧ (0 ≤ (M.1 78 2).toInt ∧ (M.1 78 2).toInt ≤ 900) ∧ (0 ≤ psX M ∧ psX M ≤ n) := by
  obtain ⟨c, ⟨h1, h2, h3, h4, h5⟩, h6, h7⟩ := b01_e h
  have := h3 ((M.1 78 2).toInt).toNat (by omega)
  exact ⟨h1, by omega, this.2⟩
theorem tkx_t {f : Nat → Int} {n : Int} {M : mm_M} {a : Int} (h : b01 (TKX f n M) = 1) (ha : a = (M.1 78 2).toInt) : (M.1 79 a.toNat).toInt = tkF f n (psX M) ∧ (M.1 80 a.toNat).toInt = psX M := by
  obtain ⟨c, ⟨h1, h2, h3, h4, h5⟩, h6, h7⟩ := b01_e h
  subst ha
  have := h3 ((M.1 78 2).toInt).toNat (by omega)
  exact ⟨this.1, rfl⟩
theorem tkx_i {f : Nat → Int} {n : Int} {M M' : mm_M} {a gi : Int} (e : M' = wI M 78 2 (sI (a + 1))) (h : b01 (TKX f n M) = 1) (ha : a = (M.1 78 2).toInt) (ht : ¬ tkF f n (psX M) = 3000 ∧ ¬ tkF f n (psX M) = 3001) (hg : ¬ (M.1 78 5).toInt = 0 ∨ psX M = gi ∧ 0 ≤ gi ∧ gi ≤ n) : b01 (TKX f n M') = 1 ∧ (M'.1 78 5).toInt = (M.1 78 5).toInt ∧ (M'.1 78 6).toInt = (M.1 78 6).toInt ∧ (¬ (M'.1 78 5).toInt = 0 ∨ psX M' = nxF f n gi ∧ (0 ≤ nxF f n gi ∧ nxF f n gi ≤ n) ∧ gi < nxF f n gi) := by
  have hb := tkx_b h
  obtain ⟨c, ⟨h1, h2, h3, h4, h5⟩, h6, h7⟩ := b01_e h
  have e79 : M'.1 79 = M.1 79 := wc_x e (by decide)
  have e80 : M'.1 80 = M.1 80 := wc_x e (by decide)
  have ea : (M'.1 78 2).toInt = a + 1 := s_wr e (by omega)
  have lt : ((M.1 78 2).toInt).toNat < c := by
    rcases Nat.lt_or_ge ((M.1 78 2).toInt).toNat c with q | q
    · exact q
    · exfalso
      have z : ((M.1 78 2).toInt).toNat = c := by omega
      have y : psX M = (M.1 80 c).toInt := by unfold psX; rw [z]
      rw [y] at ht
      rcases h5 with h5 | h5
      · exact ht.1 h5
      · exact ht.2 h5
  have nx := (h4 _ lt).2.2
  have ep : psX M' = nxF f n (psX M) := by
    show (M'.1 80 ((M'.1 78 2).toInt).toNat).toInt = _
    rw [e80, ea, ha, show ((M.1 78 2).toInt + 1).toNat = ((M.1 78 2).toInt).toNat + 1 by omega, nx]; rfl
  have e5 : (M'.1 78 5).toInt = (M.1 78 5).toInt := s_fb e (by decide) rfl
  have e6 : (M'.1 78 6).toInt = (M.1 78 6).toInt := s_fb e (by decide) rfl
  refine ⟨b01_i ⟨c, ?_, by omega, by omega⟩, e5, e6, ?_⟩
  · unfold TKS
    rw [e79, e80]
    exact ⟨h1, h2, h3, h4, h5⟩
  · rcases hg with hg | ⟨hg, hg1, hg2⟩
    · exact Or.inl (by omega)
    · right
      rw [ep, hg]
      have l := nxF_le f n gi ⟨hg1, tk_lt f n hg1 (by rw [← hg]; exact ht.2)⟩
      exact ⟨rfl, by omega, by omega⟩
theorem tkx_c {f : Nat → Int} {n : Int} {M M' : mm_M} (h79 : M'.1 79 = M.1 79) (h80 : M'.1 80 = M.1 80) (h2 : M'.1 78 2 = M.1 78 2) (h : b01 (TKX f n M) = 1) : b01 (TKX f n M') = 1 ∧ psX M' = psX M := by
  obtain ⟨c, h1, h3⟩ := b01_e h
  refine ⟨b01_i ⟨c, ?_, by rw [h2]; exact h3⟩, ?_⟩
  · unfold TKS; rw [h79, h80]; exact h1
  · unfold psX; rw [h80, h2]
theorem tkx_w {f : Nat → Int} {n : Int} {M M' : mm_M} {i k : Nat} {v : Int32} (e : M' = wI M i k v) (h1 : 79 ≠ i) (h2 : 80 ≠ i) (h3 : 78 ≠ i) (h : b01 (TKX f n M) = 1) : b01 (TKX f n M') = 1 ∧ psX M' = psX M ∧ (M'.1 78 5).toInt = (M.1 78 5).toInt ∧ (M'.1 78 6).toInt = (M.1 78 6).toInt := by
  have a := tkx_c (f := f) (n := n) (M := M) (M' := M') (by rw [e]; funext k; exact u2_a _ _ h1) (by rw [e]; funext k; exact u2_a _ _ h2) (by rw [e]; exact u2_a _ _ h3) h
  exact ⟨a.1, a.2, s_fa e h3 rfl, s_fa e h3 rfl⟩
theorem tkx_f {f : Nat → Int} {n : Int} {M M' : mm_M} {a : Int} (e : M' = wI M 78 5 (sI a)) (ha : -2147483648 ≤ a ∧ a ≤ 2147483647) (h : b01 (TKX f n M) = 1) : b01 (TKX f n M') = 1 ∧ psX M' = psX M ∧ (M'.1 78 5).toInt = a ∧ (M'.1 78 6).toInt = (M.1 78 6).toInt := by
  have b := tkx_c (f := f) (n := n) (M := M) (M' := M') (wc_x e (by decide)) (wc_x e (by decide)) (wp_x e (by decide)) h
  exact ⟨b.1, b.2, s_wr e ha, s_fb e (by decide) rfl⟩
theorem tkx_p {f : Nat → Int} {n : Int} {M M' : mm_M} {a : Int} (e : M' = wI M 78 6 (sI a)) (ha : -2147483648 ≤ a ∧ a ≤ 2147483647) (h : b01 (TKX f n M) = 1) : b01 (TKX f n M') = 1 ∧ psX M' = psX M ∧ (M'.1 78 5).toInt = (M.1 78 5).toInt ∧ (M'.1 78 6).toInt = a := by
  have b := tkx_c (f := f) (n := n) (M := M) (M' := M') (wc_x e (by decide)) (wc_x e (by decide)) (wp_x e (by decide)) h
  exact ⟨b.1, b.2, s_fb e (by decide) rfl, s_wr e ha⟩
theorem tkx_P {f : Nat → Int} {n : Int} {M M' : mm_M} {i k v : Nat} (e : M' = wP M i k v) (h : b01 (TKX f n M) = 1) : b01 (TKX f n M') = 1 ∧ psX M' = psX M ∧ (M'.1 78 5).toInt = (M.1 78 5).toInt ∧ (M'.1 78 6).toInt = (M.1 78 6).toInt := by
  have b := tkx_c (f := f) (n := n) (M := M) (M' := M') (by rw [e]) (by rw [e]) (by rw [e]) h
  exact ⟨b.1, b.2, by rw [e], by rw [e]⟩
theorem tkx_J {f : Nat → Int} {n : Int} {M M' : mm_M} {i k : Nat} {v : Int64} (e : M' = wJ M i k v) (h : b01 (TKX f n M) = 1) : b01 (TKX f n M') = 1 ∧ psX M' = psX M ∧ (M'.1 78 5).toInt = (M.1 78 5).toInt ∧ (M'.1 78 6).toInt = (M.1 78 6).toInt := by
  have b := tkx_c (f := f) (n := n) (M := M) (M' := M') (by rw [e]) (by rw [e]) (by rw [e]) h
  exact ⟨b.1, b.2, by rw [e], by rw [e]⟩
/-! kinds, buyers, lines read so far -/
def kiX (M : mm_M) : Int := (M.1 (M.2.2 78 4) 0).toInt
def byX (M : mm_M) : Int := (M.1 (M.2.2 78 3) 0).toInt
def lnX (M : mm_M) : Int := (M.1 (M.2.2 78 3) 1).toInt
def cnX (M M' : mm_M) : Prop := kiX M' = kiX M ∧ byX M' = byX M ∧ lnX M' = lnX M
theorem cn_f {pr : Nat → Nat → Bool} {Kz M M' : mm_M} (h : INV pr Kz M) (e : FR [78] M M') : kiX M' = kiX M ∧ byX M' = byX M ∧ lnX M' = lnX M := by
  have h3 := h.rm (i := 78) (c := 7) (k := 3) (t := 6) rfl rfl (by decide)
  have h4 := h.rm (i := 78) (c := 7) (k := 4) (t := 8) rfl rfl (by decide)
  unfold kiX byX lnX
  rw [e.2.1, e.1 (M.2.2 78 4) 0 (by intro z; simp at z; rw [z] at h4; exact absurd h4 (by decide)), e.1 (M.2.2 78 3) 0 (by intro z; simp at z; rw [z] at h3; exact absurd h3 (by decide)), e.1 (M.2.2 78 3) 1 (by intro z; simp at z; rw [z] at h3; exact absurd h3 (by decide))]
  exact ⟨rfl, rfl, rfl⟩
theorem cn_z {cs : List Nat} {pr : Nat → Nat → Bool} {Kz M M' : mm_M} (h6 : cs.contains 6 = true) (h7 : cs.contains 7 = true) (h8 : cs.contains 8 = true) (h : INV pr Kz M) (z : ∀ i k, cs.contains (s_c i) = true → px (s_c i) k = false → M'.1 i k = M.1 i k ∧ M'.2.2 i k = M.2.2 i k) : kiX M' = kiX M ∧ byX M' = byX M ∧ lnX M' = lnX M := by
  have h3 := h.rm (i := 78) (c := 7) (k := 3) (t := 6) rfl rfl (by decide)
  have h4 := h.rm (i := 78) (c := 7) (k := 4) (t := 8) rfl rfl (by decide)
  unfold kiX byX lnX
  rw [(z 78 3 h7 rfl).2, (z 78 4 h7 rfl).2, (z (M.2.2 78 4) 0 (by rw [h4]; exact h8) (by rw [h4]; rfl)).1, (z (M.2.2 78 3) 0 (by rw [h3]; exact h6) (by rw [h3]; rfl)).1, (z (M.2.2 78 3) 1 (by rw [h3]; exact h6) (by rw [h3]; rfl)).1]
  exact ⟨rfl, rfl, rfl⟩
/-- a write elsewhere -/
theorem cn_w {pr : Nat → Nat → Bool} {Kz M M' : mm_M} {i k c : Nat} {v : Int32} (h : INV pr Kz M) (hc : s_c i = c) (e : M' = wI M i k v) (hk : ¬ (c = 8 ∧ k = 0) ∧ ¬ (c = 6 ∧ k = 0) ∧ ¬ (c = 6 ∧ k = 1)) : kiX M' = kiX M ∧ byX M' = byX M ∧ lnX M' = lnX M := by
  have h3 := h.rm (i := 78) (c := 7) (k := 3) (t := 6) rfl rfl (by decide)
  have h4 := h.rm (i := 78) (c := 7) (k := 4) (t := 8) rfl rfl (by decide)
  have e2 : M'.2.2 = M.2.2 := by rw [e]
  have w : ∀ j n, ¬ (i = j ∧ k = n) → M'.1 j n = M.1 j n := fun j n q => by
    rw [e]
    by_cases q2 : j = i
    · exact u2_b _ _ (fun z => q ⟨q2.symm, z.symm⟩)
    · exact u2_a _ _ q2
  unfold kiX byX lnX
  rw [e2, w _ 0 (fun z => hk.1 ⟨by rw [← hc, z.1]; exact h4, z.2⟩), w _ 0 (fun z => hk.2.1 ⟨by rw [← hc, z.1]; exact h3, z.2⟩), w _ 1 (fun z => hk.2.2 ⟨by rw [← hc, z.1]; exact h3, z.2⟩)]
  exact ⟨rfl, rfl, rfl⟩
theorem cn_k {pr : Nat → Nat → Bool} {Kz M M' : mm_M} {i : Nat} {a : Int} (h : INV pr Kz M) (hi : i = M.2.2 78 4) (e : M' = wI M i 0 (sI a)) (ha : -2147483648 ≤ a ∧ a ≤ 2147483647) : kiX M' = a ∧ byX M' = byX M ∧ lnX M' = lnX M := by
  have h3 := h.rm (i := 78) (c := 7) (k := 3) (t := 6) rfl rfl (by decide)
  have h4 := h.rm (i := 78) (c := 7) (k := 4) (t := 8) rfl rfl (by decide)
  have e2 : M'.2.2 = M.2.2 := by rw [e]
  have ne : M.2.2 78 3 ≠ i := fun z => by rw [z, hi, h4] at h3; exact absurd h3 (by decide)
  unfold kiX byX lnX
  rw [e2, ← hi, s_wr e ha, e]
  exact ⟨rfl, congrArg Int32.toInt (u2_a _ _ ne), congrArg Int32.toInt (u2_a _ _ ne)⟩
theorem cn_b {pr : Nat → Nat → Bool} {Kz M M' : mm_M} {i : Nat} {a : Int} (h : INV pr Kz M) (hi : i = M.2.2 78 3) (e : M' = wI M i 0 (sI a)) (ha : -2147483648 ≤ a ∧ a ≤ 2147483647) : kiX M' = kiX M ∧ byX M' = a ∧ lnX M' = lnX M := by
  have h3 := h.rm (i := 78) (c := 7) (k := 3) (t := 6) rfl rfl (by decide)
  have h4 := h.rm (i := 78) (c := 7) (k := 4) (t := 8) rfl rfl (by decide)
  have e2 : M'.2.2 = M.2.2 := by rw [e]
  have ne : M.2.2 78 4 ≠ i := fun z => by rw [z, hi, h3] at h4; exact absurd h4 (by decide)
  unfold kiX byX lnX
  rw [e2, ← hi, s_wr e ha, e]
  exact ⟨congrArg Int32.toInt (u2_a _ _ ne), rfl, congrArg Int32.toInt (u2_b _ _ (by decide))⟩
theorem cn_l {pr : Nat → Nat → Bool} {Kz M M' : mm_M} {i : Nat} {a : Int} (h : INV pr Kz M) (hi : i = M.2.2 78 3) (e : M' = wI M i 1 (sI a)) (ha : -2147483648 ≤ a ∧ a ≤ 2147483647) : kiX M' = kiX M ∧ byX M' = byX M ∧ lnX M' = a := by
  have h3 := h.rm (i := 78) (c := 7) (k := 3) (t := 6) rfl rfl (by decide)
  have h4 := h.rm (i := 78) (c := 7) (k := 4) (t := 8) rfl rfl (by decide)
  have e2 : M'.2.2 = M.2.2 := by rw [e]
  have ne : M.2.2 78 4 ≠ i := fun z => by rw [z, hi, h3] at h4; exact absurd h4 (by decide)
  unfold kiX byX lnX
  rw [e2, ← hi, s_wr e ha, e]
  exact ⟨congrArg Int32.toInt (u2_a _ _ ne), congrArg Int32.toInt (u2_b _ _ (by decide)), rfl⟩
theorem cn_J {M M' : mm_M} {i k : Nat} {v : Int64} (e : M' = wJ M i k v) : kiX M' = kiX M ∧ byX M' = byX M ∧ lnX M' = lnX M := by rw [e]; exact ⟨rfl, rfl, rfl⟩
theorem ki_r {M : mm_M} {v : Nat} (h : v = M.2.2 78 4) : (M.1 v 0).toInt = kiX M := by rw [h]; rfl
theorem by_r {M : mm_M} {v : Nat} (h : v = M.2.2 78 3) : (M.1 v 0).toInt = byX M := by rw [h]; rfl
theorem ln_r {M : mm_M} {v : Nat} (h : v = M.2.2 78 3) : (M.1 v 1).toInt = lnX M := by rw [h]; rfl
/-- split[]: the tokens so far; s of them, i the next place, g whether the last is one -/
def SPX (f : Nat → Int) (n : Int) (M : mm_M) (s i g : Int) : Prop := (0 ≤ s ∧ s ≤ i ∧ i ≤ n ∧ n ≤ 900) ∧ (∀ j : Nat, (j : Int) < s → (M.1 79 j).toInt = tkF f n (M.1 80 j).toInt ∧ 0 ≤ (M.1 80 j).toInt ∧ (M.1 80 j).toInt < n) ∧ (∀ j : Nat, (j : Int) + 1 < s → ¬ tkF f n (M.1 80 j).toInt = 3000 ∧ (M.1 80 (j + 1)).toInt = nxF f n (M.1 80 j).toInt) ∧ (1 ≤ s → (M.1 80 0).toInt = runE blB f n 0) ∧ ((s = 0 ∧ ¬ g = 0 ∧ runE blB f n 0 = runE blB f n i) ∨ (1 ≤ s ∧ nxF f n (M.1 80 (s - 1).toNat).toInt = runE blB f n i ∧ ((¬ g = 0 ∧ ¬ tkF f n (M.1 80 (s - 1).toNat).toInt = 3000) ∨ (g = 0 ∧ tkF f n (M.1 80 (s - 1).toNat).toInt = 3000))))
def TKZ (f : Nat → Int) (n : Int) (M : mm_M) : Prop := (∃ c : Nat, TKS f n M c) ∧ (M.1 80 0).toInt = runE blB f n 0
/-- the first n of a row of bytes -/
def mskT (c : Nat → Int32) (n : Int) : Nat → Int := fun k => if (k : Int) < n then (c k).toInt else 0
def TPX (f : Nat → Int) (n : Int) (M : mm_M) : Prop := ∀ k : Nat, (k : Int) < n → f k = (M.1 1 k).toInt
theorem tp_r {f : Nat → Int} {n : Int} {M : mm_M} {a : Int} (h : b01 (TPX f n M) = 1) (ha : 0 ≤ a ∧ a < n) : f a.toNat = (M.1 1 a.toNat).toInt := b01_e h _ (by omega)
theorem tp_0 (M : mm_M) (n : Int) : b01 (TPX (mskT (M.1 1) n) n M) = 1 := b01_i (fun k hk => by unfold mskT; rw [if_pos hk])
theorem tp_c {f : Nat → Int} {n : Int} {M M' : mm_M} (e : M'.1 1 = M.1 1) (h : b01 (TPX f n M) = 1) : b01 (TPX f n M') = 1 := b01_i (fun k hk => by rw [e]; exact b01_e h k hk)
theorem tp_m {f : Nat → Int} {n m : Int} {M : mm_M} (hm : m ≤ n) (h : b01 (TPX f n M) = 1) : b01 (TPX f m M) = 1 := b01_i (fun k hk => b01_e h k (by omega))
theorem sp_g {f : Nat → Int} {n : Int} {M : mm_M} {s i g : Int} (h : b01 (SPX f n M s i g) = 1) (hg : ¬ g = 0) : b01 (SPX f n M s i 1) = 1 := b01_i (by
  obtain ⟨h1, h2, h3, h4, h5⟩ := b01_e h
  refine ⟨h1, h2, h3, h4, ?_⟩
  rcases h5 with ⟨a, b, c⟩ | ⟨a, b, c | c⟩
  · exact Or.inl ⟨a, by decide, c⟩
  · exact Or.inr ⟨a, b, Or.inl ⟨by decide, c.2⟩⟩
  · exact absurd c.1 hg)
theorem sp_0 (f : Nat → Int) (n : Int) (M : mm_M) (h : 0 ≤ n ∧ n ≤ 900) : b01 (SPX f n M 0 0 1) = 1 := b01_i ⟨by omega, fun j hj => by omega, fun j hj => by omega, fun hj => by omega, Or.inl ⟨rfl, by decide, rfl⟩⟩
/-- a blank -/
theorem sp_b {f : Nat → Int} {n : Int} {M : mm_M} {s i g : Int} (h : b01 (SPX f n M s i g) = 1) (hi : 0 ≤ i ∧ i < n) (hb : f i.toNat = 10 ∨ f i.toNat = 32) (hg : ¬ g = 0) : b01 (SPX f n M s (i + 1) g) = 1 := b01_i (by
  obtain ⟨h1, h2, h3, h4, h5⟩ := b01_e h
  have r := run_bl f n i hi
  refine ⟨by omega, h2, h3, h4, ?_⟩
  rcases h5 with ⟨a, b, c⟩ | ⟨a, b, c⟩
  · exact Or.inl ⟨a, b, by omega⟩
  · exact Or.inr ⟨a, by omega, c⟩)
/-- a token -/
theorem sp_t {f : Nat → Int} {n : Int} {M M1 M2 : mm_M} {s i t : Int} (h : b01 (SPX f n M s i 1) = 1) (hi : 0 ≤ i ∧ i < n) (hb : ¬ f i.toNat = 10 ∧ ¬ f i.toNat = 32) (e1 : M1 = wI M 80 s.toNat (sI i)) (e2 : M2 = wI M1 79 s.toNat (sI t)) (ht : t = tmF f n i) (g : Int) (hg : (¬ g = 0 ∧ ¬ t = 3000) ∨ (g = 0 ∧ t = 3000)) (hr : -2147483648 ≤ t ∧ t ≤ 2147483647) : b01 (SPX f n M2 (s + 1) (teF f n i) g) = 1 := b01_i (by
  obtain ⟨h1, h2, h3, h4, h5⟩ := b01_e h
  have hl := teF_le f n i hi
  have r := run_bl f n i hi
  have tk : tkF f n i = t := by have := tkF_lt f n i; omega
  have p80 : ∀ j : Nat, j ≠ s.toNat → M2.1 80 j = M.1 80 j := fun j hj => by
    rw [wc_x e2 (show (80 : Nat) ≠ 79 by decide)]; exact wp_x e1 hj
  have p79 : ∀ j : Nat, j ≠ s.toNat → M2.1 79 j = M.1 79 j := fun j hj => by
    rw [wp_x e2 hj, wc_x e1 (show (79 : Nat) ≠ 80 by decide)]
  have q80 : (M2.1 80 s.toNat).toInt = i := by
    rw [wc_x e2 (show (80 : Nat) ≠ 79 by decide)]; exact s_wr e1 (by omega)
  have q79 : (M2.1 79 s.toNat).toInt = t := s_wr e2 hr
  have last : (s + 1 - 1).toNat = s.toNat := by omega
  have start : runE blB f n i = i := by omega
  refine ⟨by omega, fun j hj => ?_, fun j hj => ?_, fun _ => ?_, Or.inr ⟨by omega, ?_, ?_⟩⟩
  · by_cases z : j = s.toNat
    · rw [z, q79, q80, tk]; exact ⟨rfl, hi⟩
    · rw [p79 j z, p80 j z]; exact h2 j (by omega)
  · by_cases z : j + 1 = s.toNat
    · rw [p80 j (by omega), z, q80]
      rcases h5 with ⟨a, _⟩ | ⟨a, b, c⟩
      · omega
      · have y : (s - 1).toNat = j := by omega
        rw [y] at b c
        rcases c with c | c
        · exact ⟨c.2, by omega⟩
        · omega
    · rw [p80 j (by omega), p80 (j + 1) z]; exact h3 j (by omega)
  · by_cases z : s.toNat = 0
    · rw [← z, q80]
      rcases h5 with ⟨a, _, c⟩ | ⟨a, _, _⟩
      · omega
      · omega
    · rw [p80 0 (by omega)]; exact h4 (by omega)
  · rw [last, q80]; rfl
  · rw [last, q80, tk]
    rcases hg with hg | hg
    · exact Or.inl hg
    · exact Or.inr hg)
/-- the end -/
theorem sp_e {f : Nat → Int} {n : Int} {M M1 M2 : mm_M} {s i g : Int} (h : b01 (SPX f n M s i g) = 1) (hx : n ≤ i ∨ g = 0) (e1 : M1 = wI M 80 s.toNat (sI n)) (e2 : M2 = wI M1 79 s.toNat (sI 3001)) : b01 (TKZ f n M2) = 1 := b01_i (by
  obtain ⟨h1, h2, h3, h4, h5⟩ := b01_e h
  have p80 : ∀ j : Nat, j ≠ s.toNat → M2.1 80 j = M.1 80 j := fun j hj => by
    rw [wc_x e2 (show (80 : Nat) ≠ 79 by decide)]; exact wp_x e1 hj
  have p79 : ∀ j : Nat, j ≠ s.toNat → M2.1 79 j = M.1 79 j := fun j hj => by
    rw [wp_x e2 hj, wc_x e1 (show (79 : Nat) ≠ 80 by decide)]
  have q80 : (M2.1 80 s.toNat).toInt = n := by
    rw [wc_x e2 (show (80 : Nat) ≠ 79 by decide)]; exact s_wr e1 (by omega)
  have q79 : (M2.1 79 s.toNat).toInt = 3001 := s_wr e2 (by decide)
  have tn : tkF f n n = 3001 := by have := tkF_lt f n n; omega
  have good : ¬ g = 0 → (∃ c : Nat, TKS f n M2 c) ∧ (M2.1 80 0).toInt = runE blB f n 0 := fun hg => by
    have hn : n ≤ i := by omega
    have rn : runE blB f n i = n := by rw [runE_n blB f n i (by omega)]; omega
    refine ⟨⟨s.toNat, by omega, by omega, fun j hj => ?_, fun j hj => ?_, ?_⟩, ?_⟩
    · by_cases z : j = s.toNat
      · rw [z, q79, q80, tn]; exact ⟨rfl, by omega, by omega⟩
      · rw [p79 j z, p80 j z]; have := h2 j (by omega); exact ⟨this.1, by omega, by omega⟩
    · rw [p80 j (by omega)]
      have tv := h2 j (by omega)
      have lt := tkF_lt f n (M.1 80 j).toInt
      by_cases z : j + 1 = s.toNat
      · rcases h5 with ⟨a, _⟩ | ⟨a, b, c⟩
        · omega
        · have y : (s - 1).toNat = j := by omega
          rw [y] at b c
          have nb : ¬ tkF f n (M.1 80 j).toInt = 3001 := by have := tkF_v f n (M.1 80 j).toInt tv.2.1; omega
          rw [z, q80]
          rcases c with c | c
          · exact ⟨c.2, nb, by omega⟩
          · omega
      · have := h3 j (by omega)
        have nb : ¬ tkF f n (M.1 80 j).toInt = 3001 := by have := tkF_v f n (M.1 80 j).toInt tv.2.1; omega
        rw [p80 (j + 1) z]; exact ⟨this.1, nb, this.2⟩
    · rw [q80, tn]; exact Or.inr rfl
    · by_cases z : s.toNat = 0
      · rw [← z, q80]
        rcases h5 with ⟨_, _, c⟩ | ⟨a, _, _⟩
        · omega
        · omega
      · rw [p80 0 (by omega)]; exact h4 (by omega)
  by_cases hg : g = 0
  · rcases h5 with ⟨_, a, _⟩ | ⟨a, b, c⟩
    · exact absurd hg a
    · have c3 : tkF f n (M.1 80 (s - 1).toNat).toInt = 3000 := by
        rcases c with c | c
        · exact absurd hg c.1
        · exact c.2
      refine ⟨⟨(s - 1).toNat, by omega, by omega, fun j hj => ?_, fun j hj => ?_, ?_⟩, ?_⟩
      · rw [p79 j (by omega), p80 j (by omega)]; have := h2 j (by omega); exact ⟨this.1, by omega, by omega⟩
      · rw [p80 j (by omega), p80 (j + 1) (by omega)]
        have tv := h2 j (by omega)
        have nb : ¬ tkF f n (M.1 80 j).toInt = 3001 := by have := tkF_v f n (M.1 80 j).toInt tv.2.1; omega
        have := h3 j (by omega); exact ⟨this.1, nb, this.2⟩
      · rw [p80 _ (by omega)]; exact Or.inl c3
      · rw [p80 0 (by omega)]; exact h4 a
  · exact good hg)
theorem tz_x {f : Nat → Int} {n : Int} {M M1 M2 M3 : mm_M} (h : b01 (TKZ f n M) = 1) (e1 : M1 = wI M 78 2 (sI 0)) (e2 : M2 = wI M1 78 5 (sI 0)) (e3 : M3 = wI M2 78 6 (sI (-1))) : b01 (TKX f n M3) = 1 ∧ psX M3 = runE blB f n 0 ∧ (M3.1 78 5).toInt = 0 ∧ (M3.1 78 6).toInt = -1 := by
  obtain ⟨⟨c, hc⟩, h0⟩ := b01_e h
  have c79 : M3.1 79 = M.1 79 := (wc_x e3 (by decide)).trans ((wc_x e2 (by decide)).trans (wc_x e1 (by decide)))
  have c80 : M3.1 80 = M.1 80 := (wc_x e3 (by decide)).trans ((wc_x e2 (by decide)).trans (wc_x e1 (by decide)))
  have a2 : (M3.1 78 2).toInt = 0 := by
    rw [show (M3.1 78 2).toInt = (M2.1 78 2).toInt from s_fb e3 (by decide) rfl, show (M2.1 78 2).toInt = (M1.1 78 2).toInt from s_fb e2 (by decide) rfl, s_wr e1 (by decide)]
  have a5 : (M3.1 78 5).toInt = 0 := by rw [show (M3.1 78 5).toInt = (M2.1 78 5).toInt from s_fb e3 (by decide) rfl, s_wr e2 (by decide)]
  refine ⟨b01_i ⟨c, ?_, by omega, by omega⟩, ?_, a5, s_wr e3 (by decide)⟩
  · unfold TKS; rw [c79, c80]; exact hc
  · unfold psX; rw [a2, c80]; exact h0
