/-! THE CLASS'S MARKS: the rows of its loops -/
theorem run_e (p : Int → Bool) (f : Nat → Int) (n i : Int) : i < 0 ∨ i < n ∨ runE p f n i = i := by
  by_cases h : 0 ≤ i ∧ n ≤ i
  · exact Or.inr (Or.inr (runE_n p f n i h))
  · omega
def DGX (f : Nat → Int) (a b : Int) : Prop := ∀ j : Int, a ≤ j → j < b → 48 ≤ f j.toNat ∧ f j.toNat ≤ 57
def SMX (f : Nat → Int) (a b : Int) : Prop := ∀ j : Int, a ≤ j → j < b → 97 ≤ f j.toNat ∧ f j.toNat ≤ 122
theorem dg_r {f : Nat → Int} {a b j : Int} (h : b01 (DGX f a b) = 1) (hj : a ≤ j ∧ j < b) : 48 ≤ f j.toNat ∧ f j.toNat ≤ 57 := b01_e h j hj.1 hj.2
theorem dg_t {f : Nat → Int} {n i : Int} (h : 0 ≤ i ∧ i < n) (hd : 48 ≤ f i.toNat ∧ f i.toNat ≤ 57) : b01 (DGX f i (teF f n i)) = 1 := b01_i fun j h1 h2 => by
  have e : teF f n i = runE dgB f n (i + 1) := by have := teF_s f n i; omega
  by_cases z : j = i
  · rw [z]; exact hd
  · have := runE_in dgB f n (i + 1) j (by omega)
    simpa only [dgB, decide_eq_true_eq] using this
theorem sm_t {f : Nat → Int} {n i : Int} (h : 0 ≤ i ∧ i < n) (hd : 97 ≤ f i.toNat ∧ f i.toNat ≤ 122) : b01 (SMX f i (teF f n i)) = 1 := b01_i fun j h1 h2 => by
  have e : teF f n i = runE smB f n (i + 1) := by have := teF_s f n i; omega
  by_cases z : j = i
  · rw [z]; exact hd
  · have := runE_in smB f n (i + 1) j (by omega)
    simpa only [smB, decide_eq_true_eq] using this
theorem val_s (f : Nat → Int) (i j : Int) (h : i ≤ j) : valF f i (j + 1 - i).toNat = 10 * valF f i (j - i).toNat + f j.toNat - 48 := by
  rw [show (j + 1 - i).toNat = (j - i).toNat + 1 by omega, valF, show i + (((j - i).toNat : Nat) : Int) = j by omega]
/-- WORDS: seven to a word -/
def wch (w s : Nat) : Int := ((js_byt 1).getD (7 * w + s) 0).toInt
theorem wch_k : ∀ w, w < 17 → (kwF w).length < 7 ∧ (∀ s, s < (kwF w).length → wch w s = (kwF w).getD s 0 ∧ ¬ wch w s = 32) ∧ wch w (kwF w).length = 32 := by decide +kernel
def SMW (f : Nat → Int) (i : Int) (w : Nat) (m : Int) : Prop := ∀ s : Nat, (s : Int) < m → f (i + (s : Int)).toNat = wch w s
theorem sw_0 (f : Nat → Int) (i : Int) (w : Nat) : b01 (SMW f i w 0) = 1 := b01_i fun s hs => by omega
theorem sw_s {f : Nat → Int} {i w m : Int} (hw : 0 ≤ w ∧ 0 ≤ m) (h : b01 (SMW f i w.toNat m) = 1) (e : f (i + m).toNat = ((js_byt 1).getD (w * 7 + m).toNat 0).toInt) : b01 (SMW f i w.toNat (m + 1)) = 1 := b01_i fun s hs => by
  by_cases z : (s : Int) = m
  · rw [z, e]; unfold wch; rw [show (w * 7 + m).toNat = 7 * w.toNat + s by omega]
  · exact b01_e h s (by omega)
theorem wq_y {f : Nat → Int} {i w m : Int} (hw : 0 ≤ w ∧ w < 17 ∧ 0 ≤ m ∧ m < 7) (hs : b01 (SMX f i (i + m)) = 1) (h : b01 (SMW f i w.toNat m) = 1) (e : ((js_byt 1).getD (w * 7 + m).toNat 0).toInt = 32) : wmQ f i m w.toNat := by
  obtain ⟨k1, k2, k3⟩ := wch_k w.toNat (by omega)
  have hsm := b01_e hs
  have hh := b01_e h
  have e2 : wch w.toNat m.toNat = 32 := by unfold wch; rw [show 7 * w.toNat + m.toNat = (w * 7 + m).toNat by omega]; exact e
  have ml : m = ((kwF w.toNat).length : Int) := by
    rcases Int.lt_trichotomy m ((kwF w.toNat).length : Int) with q | q | q
    · exact absurd e2 (k2 m.toNat (by omega)).2
    · exact q
    · have a := hh (kwF w.toNat).length q
      have b := hsm (i + ((kwF w.toNat).length : Int)) (by omega) (by omega)
      rw [k3] at a
      omega
  exact ⟨ml, fun s hs => by rw [hh s (by omega)]; exact (k2 s hs).1⟩
theorem wq_n {f : Nat → Int} {i w m c : Int} (hw : 0 ≤ w ∧ w < 17 ∧ 0 ≤ c) (hx : c = m ∧ ¬ ((js_byt 1).getD (w * 7 + c).toNat 0).toInt = 32 ∨ c < m ∧ ¬ f (i + c).toNat = ((js_byt 1).getD (w * 7 + c).toNat 0).toInt) : ¬ wmQ f i m w.toNat := fun q => by
  obtain ⟨k1, k2, k3⟩ := wch_k w.toNat (by omega)
  obtain ⟨q1, q2⟩ := q
  have e : ((js_byt 1).getD (w * 7 + c).toNat 0).toInt = wch w.toNat c.toNat := by unfold wch; rw [show 7 * w.toNat + c.toNat = (w * 7 + c).toNat by omega]
  rcases hx with ⟨a, b⟩ | ⟨a, b⟩
  · rw [e, show c.toNat = (kwF w.toNat).length by omega, k3] at b; exact b rfl
  · have := q2 c.toNat (by omega)
    rw [show i + ((c.toNat : Nat) : Int) = i + c by omega, ← (k2 c.toNat (by omega)).1, ← e] at this
    exact b this
theorem tw_1 {f : Nat → Int} {i m w : Int} (hw : 0 ≤ w ∧ w < 17) (hq : wmQ f i m w.toNat) : wdG f i m (17 - w).toNat w.toNat = 1000 + w := by
  rw [show (17 - w).toNat = (17 - (w + 1)).toNat + 1 by omega, wdG_y hq]; omega
theorem tw_2 {f : Nat → Int} {i m w : Int} (hw : 0 ≤ w ∧ w < 17) (hq : ¬ wmQ f i m w.toNat) : wdG f i m (17 - w).toNat w.toNat = wdG f i m (17 - (w + 1)).toNat (w + 1).toNat := by
  rw [show (17 - w).toNat = (17 - (w + 1)).toNat + 1 by omega, wdG_n hq, show (w + 1).toNat = w.toNat + 1 by omega]
theorem tw_3 (f : Nat → Int) (i m w : Int) (hw : 0 ≤ w ∧ w ≤ 17 ∧ (17 ≤ w ∨ 7 ≤ m)) : wdG f i m (17 - w).toNat w.toNat = 1017 := by
  by_cases h : 17 ≤ w
  · rw [show (17 - w).toNat = 0 by omega]; rfl
  · exact wdG_out (fun v hv q => by have := (wch_k v hv).1; have := q.1; omega) _ _ (by omega)
theorem tw_0 (f : Nat → Int) (i m : Int) : wdG f i m (17 - (0 : Int)).toNat (0 : Int).toNat = twF f i m := rfl
/-! SIGNS -/
theorem i8_n : ∀ c : Nat, c < 256 → i8F (c : Int) = if c < 128 then (c : Int) else (c : Int) - 256 := by decide +kernel
theorem i8_s {c : Int} (h : 0 ≤ c ∧ c ≤ 255) : (c < 128 ∧ i8F c = c) ∨ (128 ≤ c ∧ i8F c = c - 256) := by
  have := i8_n c.toNat (by omega)
  rw [show ((c.toNat : Nat) : Int) = c by omega] at this
  split at this <;> omega
theorem sg_all : ∀ j, j < 12 → (fun c : Int => c = 59 ∨ c = 58 ∨ c = 43 ∨ c = 45 ∨ c = 42 ∨ c = 40 ∨ c = 41 ∨ c = 91 ∨ c = 93 ∨ c = 61 ∨ c = 60 ∨ c = 62) ((js_byt 0).getD j 0).toInt := by decide +kernel
theorem sg_v : (((js_byt 0).getD 0 0).toInt = 59 ∧ ((js_byt 0).getD 1 0).toInt = 58 ∧ ((js_byt 0).getD 2 0).toInt = 43 ∧ ((js_byt 0).getD 3 0).toInt = 45 ∧ ((js_byt 0).getD 4 0).toInt = 42 ∧ ((js_byt 0).getD 5 0).toInt = 40) ∧ (((js_byt 0).getD 6 0).toInt = 41 ∧ ((js_byt 0).getD 7 0).toInt = 91 ∧ ((js_byt 0).getD 8 0).toInt = 93 ∧ ((js_byt 0).getD 9 0).toInt = 61 ∧ ((js_byt 0).getD 10 0).toInt = 60 ∧ ((js_byt 0).getD 11 0).toInt = 62) := by decide +kernel
def NOS (c m : Int) : Prop := ∀ j : Nat, (j : Int) < m → ¬ ((js_byt 0).getD j 0).toInt = c
theorem ns_0 (c : Int) : b01 (NOS c 0) = 1 := b01_i fun j hj => by omega
theorem ns_s {c m : Int} (h : b01 (NOS c m) = 1) (hm : 0 ≤ m) (e : ¬ ((js_byt 0).getD m.toNat 0).toInt = c) : b01 (NOS c (m + 1)) = 1 := b01_i fun j hj => by
  by_cases z : (j : Int) = m
  · rw [show j = m.toNat by omega]; exact e
  · exact b01_e h j (by omega)
theorem sg_y {c x : Int} (h : 0 ≤ c ∧ c ≤ 255) (hx : 0 ≤ x ∧ x < 12) (e : ((js_byt 0).getD x.toNat 0).toInt = i8F c) : b01 (sgQ c) = 1 := b01_i (by
  have a := i8_s h
  have b := sg_all x.toNat (by omega)
  simp only [] at b
  unfold sgQ
  omega)
theorem sg_n {c : Int} (h : 0 ≤ c ∧ c ≤ 255) (hn : b01 (NOS (i8F c) 12) = 1) : b01 (sgQ c) = 0 := by
  have a := i8_s h
  have q := b01_e hn
  obtain ⟨⟨v0, v1, v2, v3, v4, v5⟩, v6, v7, v8, v9, v10, v11⟩ := sg_v
  have q0 := q 0 (by decide); have q1 := q 1 (by decide); have q2 := q 2 (by decide); have q3 := q 3 (by decide); have q4 := q 4 (by decide); have q5 := q 5 (by decide); have q6 := q 6 (by decide); have q7 := q 7 (by decide); have q8 := q 8 (by decide); have q9 := q 9 (by decide); have q10 := q 10 (by decide); have q11 := q 11 (by decide)
  have ns : ¬ sgQ c := by unfold sgQ; omega
  unfold b01
  rw [if_neg ns]
theorem sg_b (c : Int) : (sgQ c ∧ b01 (sgQ c) = 1) ∨ (¬ sgQ c ∧ b01 (sgQ c) = 0) := by
  by_cases h : sgQ c
  · exact Or.inl ⟨h, b01_i h⟩
  · refine Or.inr ⟨h, ?_⟩
    unfold b01; rw [if_neg h]
/-- the meaning of what is no letter and no digit -/
theorem tm_g (f : Nat → Int) (n i : Int) : (97 ≤ f i.toNat ∧ f i.toNat ≤ 122) ∨ (48 ≤ f i.toNat ∧ f i.toNat ≤ 57) ∨ (b01 (sgQ (f i.toNat)) = 1 ∧ tmF f n i = 2000 + f i.toNat) ∨ (b01 (sgQ (f i.toNat)) = 0 ∧ tmF f n i = 3000) := by
  rcases tmF_s f n i with ⟨a, b, _⟩ | ⟨a, b, _⟩ | ⟨_, _, ⟨a, b⟩ | ⟨a, b⟩⟩
  · exact Or.inl ⟨a, b⟩
  · exact Or.inr (Or.inl ⟨a, b⟩)
  · exact Or.inr (Or.inr (Or.inl ⟨b01_i a, b⟩))
  · refine Or.inr (Or.inr (Or.inr ⟨?_, b⟩))
    unfold b01; rw [if_neg a]
theorem sg_c (x y : Int) : ¬ x = y ∨ b01 (sgQ x) = b01 (sgQ y) := by
  by_cases h : x = y
  · exact Or.inr (by rw [h])
  · exact Or.inl h
