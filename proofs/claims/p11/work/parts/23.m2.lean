section
/-! THE TEXT: its bytes f, how many n; runs and tokens -/
def smB (c : Int) : Bool := decide (97 ≤ c ∧ c ≤ 122)
def dgB (c : Int) : Bool := decide (48 ≤ c ∧ c ≤ 57)
def blB (c : Int) : Bool := decide (c = 10 ∨ c = 32)
def runF (p : Int → Bool) (f : Nat → Int) : Nat → Nat → Nat
  | 0, i => i
  | k + 1, i => if p (f i) = true then runF p f k (i + 1) else i
/-- the first place from i on, below n, that has not p; n if there is none -/
def runE (p : Int → Bool) (f : Nat → Int) (n i : Int) : Int := (runF p f (n - i).toNat i.toNat : Nat)
theorem runF_ge (p : Int → Bool) (f : Nat → Int) : ∀ k i, i ≤ runF p f k i ∧ runF p f k i ≤ i + k
  | 0, i => ⟨Nat.le_refl _, Nat.le_refl _⟩
  | k + 1, i => by
    rw [runF]
    split
    · have := runF_ge p f k (i + 1); omega
    · omega
theorem runF_in (p : Int → Bool) (f : Nat → Int) : ∀ k i j, i ≤ j → j < runF p f k i → p (f j) = true
  | 0, i, j, h1, h2 => by rw [runF] at h2; omega
  | k + 1, i, j, h1, h2 => by
    rw [runF] at h2
    split at h2
    · rename_i h
      by_cases e : j = i
      · rw [e]; exact h
      · exact runF_in p f k (i + 1) j (by omega) h2
    · omega
theorem runE_le (p : Int → Bool) (f : Nat → Int) (n i : Int) : (0 ≤ i ∧ i ≤ n) → i ≤ runE p f n i ∧ runE p f n i ≤ n := fun h => by
  have := runF_ge p f (n - i).toNat i.toNat
  unfold runE; omega
theorem runE_in (p : Int → Bool) (f : Nat → Int) (n i j : Int) (h : 0 ≤ i ∧ i ≤ j ∧ j < runE p f n i) : p (f j.toNat) = true := by
  unfold runE at h
  exact runF_in p f (n - i).toNat i.toNat j.toNat (by omega) (by omega)
/-- one step -/
theorem runE_s (p : Int → Bool) (f : Nat → Int) (n i : Int) : (0 ≤ i ∧ i < n) → (p (f i.toNat) = true ∧ runE p f n i = runE p f n (i + 1)) ∨ (¬ p (f i.toNat) = true ∧ runE p f n i = i) := fun h => by
  by_cases q : p (f i.toNat) = true
  · refine Or.inl ⟨q, ?_⟩
    unfold runE
    rw [show (n - i).toNat = (n - (i + 1)).toNat + 1 by omega, runF, if_pos q, show (i + 1).toNat = i.toNat + 1 by omega]
  · refine Or.inr ⟨q, ?_⟩
    unfold runE
    rw [show (n - i).toNat = (n - (i + 1)).toNat + 1 by omega, runF, if_neg q]; omega
theorem runE_n (p : Int → Bool) (f : Nat → Int) (n i : Int) : (0 ≤ i ∧ n ≤ i) → runE p f n i = i := fun h => by
  unfold runE
  rw [show (n - i).toNat = 0 by omega, runF]; omega
/-- the same, in numbers: small letters, digits, blanks -/
theorem run_sm (f : Nat → Int) (n i : Int) : (0 ≤ i ∧ i < n) → (97 ≤ f i.toNat ∧ f i.toNat ≤ 122 ∧ runE smB f n i = runE smB f n (i + 1)) ∨ ((f i.toNat < 97 ∨ 122 < f i.toNat) ∧ runE smB f n i = i) := fun h => by
  rcases runE_s smB f n i h with q | q <;> simp only [smB, decide_eq_true_eq] at q
  · exact Or.inl ⟨q.1.1, q.1.2, q.2⟩
  · exact Or.inr ⟨by omega, q.2⟩
theorem run_dg (f : Nat → Int) (n i : Int) : (0 ≤ i ∧ i < n) → (48 ≤ f i.toNat ∧ f i.toNat ≤ 57 ∧ runE dgB f n i = runE dgB f n (i + 1)) ∨ ((f i.toNat < 48 ∨ 57 < f i.toNat) ∧ runE dgB f n i = i) := fun h => by
  rcases runE_s dgB f n i h with q | q <;> simp only [dgB, decide_eq_true_eq] at q
  · exact Or.inl ⟨q.1.1, q.1.2, q.2⟩
  · exact Or.inr ⟨by omega, q.2⟩
theorem run_bl (f : Nat → Int) (n i : Int) : (0 ≤ i ∧ i < n) → ((f i.toNat = 10 ∨ f i.toNat = 32) ∧ runE blB f n i = runE blB f n (i + 1)) ∨ (¬ f i.toNat = 10 ∧ ¬ f i.toNat = 32 ∧ runE blB f n i = i) := fun h => by
  rcases runE_s blB f n i h with q | q <;> simp only [blB, decide_eq_true_eq] at q
  · exact Or.inl q
  · exact Or.inr ⟨by omega, by omega, q.2⟩
/-- a token's end; the number of its digits; the word that it is -/
def teF (f : Nat → Int) (n i : Int) : Int := if smB (f i.toNat) = true then runE smB f n (i + 1) else if dgB (f i.toNat) = true then runE dgB f n (i + 1) else i + 1
theorem teF_s (f : Nat → Int) (n i : Int) : (97 ≤ f i.toNat ∧ f i.toNat ≤ 122 ∧ teF f n i = runE smB f n (i + 1)) ∨ (48 ≤ f i.toNat ∧ f i.toNat ≤ 57 ∧ teF f n i = runE dgB f n (i + 1)) ∨ (¬ (97 ≤ f i.toNat ∧ f i.toNat ≤ 122) ∧ ¬ (48 ≤ f i.toNat ∧ f i.toNat ≤ 57) ∧ teF f n i = i + 1) := by
  unfold teF
  by_cases h1 : smB (f i.toNat) = true
  · rw [if_pos h1]; simp only [smB, decide_eq_true_eq] at h1; exact Or.inl ⟨h1.1, h1.2, rfl⟩
  · rw [if_neg h1]
    simp only [smB, decide_eq_true_eq] at h1
    by_cases h2 : dgB (f i.toNat) = true
    · rw [if_pos h2]; simp only [dgB, decide_eq_true_eq] at h2; exact Or.inr (Or.inl ⟨h2.1, h2.2, rfl⟩)
    · rw [if_neg h2]; simp only [dgB, decide_eq_true_eq] at h2; exact Or.inr (Or.inr ⟨h1, h2, rfl⟩)
theorem teF_le (f : Nat → Int) (n i : Int) : (0 ≤ i ∧ i < n) → i + 1 ≤ teF f n i ∧ teF f n i ≤ n := fun h => by
  have a := runE_le smB f n (i + 1) (by omega)
  have b := runE_le dgB f n (i + 1) (by omega)
  have c := teF_s f n i
  omega
def valF (f : Nat → Int) (i : Int) : Nat → Int
  | 0 => 0
  | k + 1 => 10 * valF f i k + f (i + (k : Int)).toNat - 48
def nxF (f : Nat → Int) (n i : Int) : Int := runE blB f n (teF f n i)
theorem nxF_le (f : Nat → Int) (n i : Int) : (0 ≤ i ∧ i < n) → i + 1 ≤ nxF f n i ∧ nxF f n i ≤ n := fun h => by
  have a := teF_le f n i h
  have b := runE_le blB f n (teF f n i) (by omega)
  unfold nxF; omega
/-! the words -/
def kwL : List (List Int) := [[119, 104, 111], [112, 117, 114, 115, 101], [109, 105, 110, 100], [107, 105, 110, 100], [112, 114, 105, 99, 101], [103, 114, 111, 117, 112], [103, 111, 110, 101], [115, 111, 108, 100], [115, 104, 111, 112], [98, 117, 121, 101, 114], [119, 97, 110, 116, 115], [108, 101, 116, 115], [104, 105, 100, 100, 101, 110], [111, 100, 100, 115], [111, 114], [97, 110, 100], [110, 111, 116]]
def kwF (w : Nat) : List Int := kwL.getD w []
/-- the text from i on, m bytes long, is word w -/
def wmQ (f : Nat → Int) (i m : Int) (w : Nat) : Prop := m = ((kwF w).length : Int) ∧ ∀ s : Nat, s < (kwF w).length → f (i + (s : Int)).toNat = (kwF w).getD s 0
theorem kw_ne : ∀ a, a < 17 → ∀ b, b < 17 → (kwF a).length = (kwF b).length → (∀ s, s < (kwF a).length → (kwF a).getD s 0 = (kwF b).getD s 0) → a = b := by decide +kernel
theorem wmQ_1 {f : Nat → Int} {i m : Int} {a b : Nat} (ha : a < 17) (hb : b < 17) (h1 : wmQ f i m a) (h2 : wmQ f i m b) : a = b :=
  kw_ne a ha b hb (by have := h1.1; have := h2.1; omega) (fun s hs => by rw [← h1.2 s hs, h2.2 s (by have := h1.1; have := h2.1; omega)])
/-- from word w on, k words: which it is -/
noncomputable def wdG (f : Nat → Int) (i m : Int) : Nat → Nat → Int
  | 0, _ => 1017
  | k + 1, w => @ite Int (wmQ f i m w) (Classical.propDecidable _) (1000 + (w : Int)) (wdG f i m k (w + 1))
noncomputable def twF (f : Nat → Int) (i m : Int) : Int := wdG f i m 17 0
theorem wdG_y {f : Nat → Int} {i m : Int} {k w : Nat} (h : wmQ f i m w) : wdG f i m (k + 1) w = 1000 + (w : Int) := by rw [wdG, if_pos h]
theorem wdG_n {f : Nat → Int} {i m : Int} {k w : Nat} (h : ¬ wmQ f i m w) : wdG f i m (k + 1) w = wdG f i m k (w + 1) := by rw [wdG, if_neg h]
theorem wdG_in {f : Nat → Int} {i m : Int} {v : Nat} (hv : v < 17) (h : wmQ f i m v) : ∀ k w, w + k = 17 → w ≤ v → wdG f i m k w = 1000 + (v : Int)
  | 0, w, h1, h2 => by omega
  | k + 1, w, h1, h2 => by
    by_cases q : wmQ f i m w
    · rw [wdG_y q, wmQ_1 (by omega) hv q h]
    · rw [wdG_n q]
      have lt : w < v := by
        rcases Nat.lt_or_ge w v with z | z
        · exact z
        · exfalso; apply q; rw [show w = v by omega]; exact h
      exact wdG_in hv h k (w + 1) (by omega) (by omega)
theorem wdG_out {f : Nat → Int} {i m : Int} (h : ∀ v, v < 17 → ¬ wmQ f i m v) : ∀ k w, w + k ≤ 17 → wdG f i m k w = 1017
  | 0, w, _ => rfl
  | k + 1, w, h1 => by rw [wdG_n (h w (by omega))]; exact wdG_out h k (w + 1) (by omega)
theorem twF_s (f : Nat → Int) (i m : Int) : (∃ v : Nat, v < 17 ∧ wmQ f i m v ∧ twF f i m = 1000 + (v : Int)) ∨ ((∀ v, v < 17 → ¬ wmQ f i m v) ∧ twF f i m = 1017) := by
  by_cases q : ∃ v : Nat, v < 17 ∧ wmQ f i m v
  · obtain ⟨v, hv, h⟩ := q
    exact Or.inl ⟨v, hv, h, wdG_in hv h 17 0 rfl (by omega)⟩
  · exact Or.inr ⟨fun v hv h => q ⟨v, hv, h⟩, wdG_out (fun v hv h => q ⟨v, hv, h⟩) 17 0 (by omega)⟩
theorem twF_b (f : Nat → Int) (i m : Int) : 1000 ≤ twF f i m ∧ twF f i m ≤ 1017 := by
  rcases twF_s f i m with ⟨v, hv, _, e⟩ | ⟨_, e⟩ <;> omega
/-- a token's meaning -/
def sgQ (c : Int) : Prop := c = 59 ∨ c = 58 ∨ c = 43 ∨ c = 45 ∨ c = 42 ∨ c = 40 ∨ c = 41 ∨ c = 91 ∨ c = 93 ∨ c = 61 ∨ c = 60 ∨ c = 62
noncomputable def tmF (f : Nat → Int) (n i : Int) : Int := if smB (f i.toNat) = true then twF f i (teF f n i - i) else if dgB (f i.toNat) = true then (if 3 < teF f n i - i then 3000 else valF f i (teF f n i - i).toNat) else @ite Int (sgQ (f i.toNat)) (Classical.propDecidable _) (2000 + f i.toNat) 3000
noncomputable def tkF (f : Nat → Int) (n i : Int) : Int := if i < n then tmF f n i else 3001
theorem tmF_s (f : Nat → Int) (n i : Int) : (97 ≤ f i.toNat ∧ f i.toNat ≤ 122 ∧ tmF f n i = twF f i (teF f n i - i)) ∨ (48 ≤ f i.toNat ∧ f i.toNat ≤ 57 ∧ (3 < teF f n i - i ∧ tmF f n i = 3000 ∨ teF f n i - i ≤ 3 ∧ tmF f n i = valF f i (teF f n i - i).toNat)) ∨ (¬ (97 ≤ f i.toNat ∧ f i.toNat ≤ 122) ∧ ¬ (48 ≤ f i.toNat ∧ f i.toNat ≤ 57) ∧ (sgQ (f i.toNat) ∧ tmF f n i = 2000 + f i.toNat ∨ ¬ sgQ (f i.toNat) ∧ tmF f n i = 3000)) := by
  unfold tmF
  by_cases h1 : smB (f i.toNat) = true
  · rw [if_pos h1]; simp only [smB, decide_eq_true_eq] at h1; exact Or.inl ⟨h1.1, h1.2, rfl⟩
  · rw [if_neg h1]
    simp only [smB, decide_eq_true_eq] at h1
    by_cases h2 : dgB (f i.toNat) = true
    · rw [if_pos h2]; simp only [dgB, decide_eq_true_eq] at h2
      refine Or.inr (Or.inl ⟨h2.1, h2.2, ?_⟩)
      by_cases h3 : 3 < teF f n i - i
      · rw [if_pos h3]; exact Or.inl ⟨h3, rfl⟩
      · rw [if_neg h3]; exact Or.inr ⟨by omega, rfl⟩
    · rw [if_neg h2]; simp only [dgB, decide_eq_true_eq] at h2
      refine Or.inr (Or.inr ⟨h1, h2, ?_⟩)
      by_cases h3 : sgQ (f i.toNat)
      · rw [if_pos h3]; exact Or.inl ⟨h3, rfl⟩
      · rw [if_neg h3]; exact Or.inr ⟨h3, rfl⟩
theorem tkF_lt (f : Nat → Int) (n i : Int) : (i < n ∧ tkF f n i = tmF f n i) ∨ (n ≤ i ∧ tkF f n i = 3001) := by
  unfold tkF
  by_cases h : i < n
  · rw [if_pos h]; exact Or.inl ⟨h, rfl⟩
  · rw [if_neg h]; exact Or.inr ⟨by omega, rfl⟩
theorem val_b (f : Nat → Int) (n i : Int) (h : 0 ≤ i ∧ i < n) (h2 : 48 ≤ f i.toNat ∧ f i.toNat ≤ 57) (h3 : teF f n i - i ≤ 3) : 0 ≤ valF f i (teF f n i - i).toNat ∧ valF f i (teF f n i - i).toNat ≤ 999 := by
  have a := teF_le f n i h
  have e : teF f n i = runE dgB f n (i + 1) := by have := teF_s f n i; omega
  have d : ∀ j, i ≤ j → j < teF f n i → 48 ≤ f j.toNat ∧ f j.toNat ≤ 57 := fun j h4 h5 => by
    by_cases z : j = i
    · rw [z]; exact h2
    · have := runE_in dgB f n (i + 1) j (by omega)
      simpa only [dgB, decide_eq_true_eq] using this
  rcases (show teF f n i - i = 1 ∨ teF f n i - i = 2 ∨ teF f n i - i = 3 by omega) with q | q | q <;> rw [q]
  · have d0 := d i (by omega) (by omega)
    show 0 ≤ 10 * 0 + f (i + ((0 : Nat) : Int)).toNat - 48 ∧ 10 * 0 + f (i + ((0 : Nat) : Int)).toNat - 48 ≤ 999
    rw [show i + ((0 : Nat) : Int) = i by omega]; omega
  · have d0 := d i (by omega) (by omega)
    have d1 := d (i + 1) (by omega) (by omega)
    show 0 ≤ 10 * (10 * 0 + f (i + ((0 : Nat) : Int)).toNat - 48) + f (i + ((1 : Nat) : Int)).toNat - 48 ∧ 10 * (10 * 0 + f (i + ((0 : Nat) : Int)).toNat - 48) + f (i + ((1 : Nat) : Int)).toNat - 48 ≤ 999
    rw [show i + ((0 : Nat) : Int) = i by omega, show i + ((1 : Nat) : Int) = i + 1 by omega]; omega
  · have d0 := d i (by omega) (by omega)
    have d1 := d (i + 1) (by omega) (by omega)
    have d2 := d (i + 2) (by omega) (by omega)
    show 0 ≤ 10 * (10 * (10 * 0 + f (i + ((0 : Nat) : Int)).toNat - 48) + f (i + ((1 : Nat) : Int)).toNat - 48) + f (i + ((2 : Nat) : Int)).toNat - 48 ∧ 10 * (10 * (10 * 0 + f (i + ((0 : Nat) : Int)).toNat - 48) + f (i + ((1 : Nat) : Int)).toNat - 48) + f (i + ((2 : Nat) : Int)).toNat - 48 ≤ 999
    rw [show i + ((0 : Nat) : Int) = i by omega, show i + ((1 : Nat) : Int) = i + 1 by omega, show i + ((2 : Nat) : Int) = i + 2 by omega]; omega
/-- the tokens there are -/
theorem tkF_v (f : Nat → Int) (n i : Int) : 0 ≤ i → (0 ≤ tkF f n i ∧ tkF f n i ≤ 999 ∧ i < n) ∨ (1000 ≤ tkF f n i ∧ tkF f n i ≤ 1017 ∧ i < n) ∨ ((tkF f n i = 2059 ∨ tkF f n i = 2058 ∨ tkF f n i = 2043 ∨ tkF f n i = 2045 ∨ tkF f n i = 2042 ∨ tkF f n i = 2040 ∨ tkF f n i = 2041 ∨ tkF f n i = 2091 ∨ tkF f n i = 2093 ∨ tkF f n i = 2061 ∨ tkF f n i = 2060 ∨ tkF f n i = 2062) ∧ i < n) ∨ (tkF f n i = 3000 ∧ i < n) ∨ (tkF f n i = 3001 ∧ n ≤ i) := fun h0 => by
  rcases tkF_lt f n i with ⟨h, e⟩ | ⟨h, e⟩
  · rw [e]
    rcases tmF_s f n i with ⟨_, _, q⟩ | ⟨q1, q2, ⟨_, q⟩ | ⟨q3, q⟩⟩ | ⟨_, _, ⟨q1, q⟩ | ⟨_, q⟩⟩
    · have := twF_b f i (teF f n i - i); omega
    · omega
    · have := val_b f n i ⟨h0, h⟩ ⟨q1, q2⟩ q3; omega
    · unfold sgQ at q1; omega
    · omega
  · omega
/-! THE PARSER: a step gives (fault, its place, the place behind) -/
section PS
variable (f : Nat → Int) (n : Int)
noncomputable def flP (i k : Int) : Int := if tkF f n i = 3000 then 1 else k
theorem flP_s (i k : Int) : (tkF f n i = 3000 ∧ flP f n i k = 1) ∨ (¬ tkF f n i = 3000 ∧ flP f n i k = k) := by
  unfold flP; split <;> simp_all
def sqP (a : Int × Int × Int) (F : Int → Int × Int × Int) : Int × Int × Int := if a.1 = 0 then F a.2.2 else a
theorem sqP_s (a : Int × Int × Int) (F : Int → Int × Int × Int) : (a.1 = 0 ∧ (sqP a F).1 = (F a.2.2).1 ∧ (sqP a F).2.1 = (F a.2.2).2.1 ∧ (sqP a F).2.2 = (F a.2.2).2.2) ∨ (¬ a.1 = 0 ∧ (sqP a F).1 = a.1 ∧ (sqP a F).2.1 = a.2.1) := by
  unfold sqP
  by_cases h : a.1 = 0
  · rw [if_pos h]; exact Or.inl ⟨h, rfl, rfl, rfl⟩
  · rw [if_neg h]; exact Or.inr ⟨h, rfl, rfl⟩
/-- a fault at i -/
noncomputable def faP (i k : Int) : Int × Int × Int := (flP f n i k, i, i)
/-- token t is taken -/
noncomputable def exP (t i : Int) : Int × Int × Int := if tkF f n i = t then (0, 0, nxF f n i) else faP f n i 2
theorem exP_s (t i : Int) : (tkF f n i = t ∧ (exP f n t i).1 = 0 ∧ (exP f n t i).2.2 = nxF f n i) ∨ (¬ tkF f n i = t ∧ (exP f n t i).1 = flP f n i 2 ∧ (exP f n t i).2.1 = i) := by
  unfold exP
  by_cases h : tkF f n i = t
  · rw [if_pos h]; exact Or.inl ⟨h, rfl, rfl⟩
  · rw [if_neg h]; exact Or.inr ⟨h, rfl, rfl⟩
noncomputable def nuP (lo hi i : Int) : Int × Int × Int := if 1000 ≤ tkF f n i then faP f n i 2 else if tkF f n i < lo ∨ hi < tkF f n i then faP f n i 3 else (0, 0, nxF f n i)
theorem nuP_s (lo hi i : Int) : (1000 ≤ tkF f n i ∧ (nuP f n lo hi i).1 = flP f n i 2 ∧ (nuP f n lo hi i).2.1 = i) ∨ (tkF f n i < 1000 ∧ (tkF f n i < lo ∨ hi < tkF f n i) ∧ (nuP f n lo hi i).1 = 3 ∧ (nuP f n lo hi i).2.1 = i) ∨ (tkF f n i < 1000 ∧ lo ≤ tkF f n i ∧ tkF f n i ≤ hi ∧ (nuP f n lo hi i).1 = 0 ∧ (nuP f n lo hi i).2.2 = nxF f n i) := by
  unfold nuP
  by_cases h : 1000 ≤ tkF f n i
  · rw [if_pos h]; exact Or.inl ⟨h, rfl, rfl⟩
  · rw [if_neg h]
    by_cases h2 : tkF f n i < lo ∨ hi < tkF f n i
    · rw [if_pos h2]; exact Or.inr (Or.inl ⟨by omega, h2, by show flP f n i 3 = 3; unfold flP; rw [if_neg (by omega)], rfl⟩)
    · rw [if_neg h2]; exact Or.inr (Or.inr ⟨by omega, by omega, by omega, rfl, rfl⟩)
/-- what goes on: from i it comes to a later place -/
def PG (F : Int → Int × Int × Int) : Prop := ∀ i, 0 ≤ i → (F i).1 = 0 → i ≤ n → i < (F i).2.2 ∧ (F i).2.2 ≤ n
def PH (F : Int → Int × Int × Int) : Prop := ∀ i, 0 ≤ i → (F i).1 = 0 → i ≤ n → i ≤ (F i).2.2 ∧ (F i).2.2 ≤ n
/-- a loop: while token i has q, step -/
def lpG (q : Int → Bool) (st : Int → Int × Int × Int) : Nat → Int → Int × Int × Int
  | 0, i => (0, 0, i)
  | k + 1, i => if q i = true then sqP (st i) (lpG q st k) else (0, 0, i)
def lpP (q : Int → Bool) (st : Int → Int × Int × Int) (i : Int) : Int × Int × Int := lpG q st (n + 1 - i).toNat i
theorem lpG_e {q : Int → Bool} {st : Int → Int × Int × Int} (hs : ∀ i, 0 ≤ i → i ≤ n → q i = true → i < n ∧ ((st i).1 = 0 → i < (st i).2.2 ∧ (st i).2.2 ≤ n)) : ∀ (k j : Nat) (i : Int), 0 ≤ i → i ≤ n → (n - i).toNat < k → (n - i).toNat < j → lpG q st k i = lpG q st j i
  | 0, j, i, h0, h1, h2, h3 => by omega
  | k + 1, 0, i, h0, h1, h2, h3 => by omega
  | k + 1, j + 1, i, h0, h1, h2, h3 => by
    rw [lpG, lpG]
    by_cases z : q i = true
    · rw [if_pos z, if_pos z]
      obtain ⟨a, b⟩ := hs i h0 h1 z
      unfold sqP
      by_cases y : (st i).1 = 0
      · rw [if_pos y, if_pos y]
        obtain ⟨c, d⟩ := b y
        exact lpG_e hs k j _ (by omega) d (by omega) (by omega)
      · rw [if_neg y, if_neg y]
    · rw [if_neg z, if_neg z]
theorem lpP_s {q : Int → Bool} {st : Int → Int × Int × Int} (hs : ∀ i, 0 ≤ i → i ≤ n → q i = true → i < n ∧ ((st i).1 = 0 → i < (st i).2.2 ∧ (st i).2.2 ≤ n)) (i : Int) (h0 : 0 ≤ i ∧ i ≤ n) : (q i = true ∧ ¬ (st i).1 = 0 ∧ (lpP n q st i).1 = (st i).1 ∧ (lpP n q st i).2.1 = (st i).2.1) ∨ (q i = true ∧ (st i).1 = 0 ∧ lpP n q st i = lpP n q st (st i).2.2) ∨ (¬ q i = true ∧ lpP n q st i = (0, 0, i)) := by
  unfold lpP
  rw [show (n + 1 - i).toNat = (n - i).toNat + 1 by omega, lpG]
  by_cases z : q i = true
  · rw [if_pos z]
    obtain ⟨a, b⟩ := hs i h0.1 h0.2 z
    by_cases y : (st i).1 = 0
    · obtain ⟨c, d⟩ := b y
      refine Or.inr (Or.inl ⟨z, y, ?_⟩)
      unfold sqP
      rw [if_pos y]
      exact lpG_e n hs _ _ _ (by omega) d (by omega) (by omega)
    · refine Or.inl ⟨z, y, ?_⟩
      unfold sqP
      rw [if_neg y]; exact ⟨rfl, rfl⟩
  · rw [if_neg z]; exact Or.inr (Or.inr ⟨z, rfl⟩)
theorem lpP_h {q : Int → Bool} {st : Int → Int × Int × Int} (hs : ∀ i, 0 ≤ i → i ≤ n → q i = true → i < n ∧ ((st i).1 = 0 → i < (st i).2.2 ∧ (st i).2.2 ≤ n)) : PH n (lpP n q st) := by
  have key : ∀ (k : Nat) (i : Int), 0 ≤ i → i ≤ n → (n - i).toNat < k → (lpP n q st i).1 = 0 → i ≤ (lpP n q st i).2.2 ∧ (lpP n q st i).2.2 ≤ n := by
    intro k
    induction k with
    | zero => intro i h0 h1 h2; omega
    | succ k ih =>
      intro i h0 h1 h2 h3
      rcases lpP_s n hs i ⟨h0, h1⟩ with ⟨_, a, b, _⟩ | ⟨z, a, b⟩ | ⟨_, b⟩
      · omega
      · obtain ⟨c, d⟩ := (hs i h0 h1 z).2 a
        rw [b] at h3 ⊢
        have := ih _ (by omega) d (by omega) h3
        omega
      · rw [b]; exact ⟨Int.le_refl _, h1⟩
  intro i h0 h1 h2
  exact key ((n - i).toNat + 1) i h0 h2 (by omega) h1
theorem nx_b {i : Int} (h0 : 0 ≤ i) (h1 : i < n) : i < nxF f n i ∧ nxF f n i ≤ n := by have := nxF_le f n i ⟨h0, h1⟩; omega
theorem tk_lt {i : Int} (h0 : 0 ≤ i) (h : ¬ tkF f n i = 3001) : i < n := by have := tkF_v f n i h0; omega
theorem sq_g {a : Int × Int × Int} {F : Int → Int × Int × Int} {i : Int} (h0 : 0 ≤ i) (ha : a.1 = 0 → i < a.2.2 ∧ a.2.2 ≤ n) (hF : PH n F) : (sqP a F).1 = 0 → i < (sqP a F).2.2 ∧ (sqP a F).2.2 ≤ n := fun h => by
  have s := sqP_s a F
  rcases s with ⟨s1, s2, s3, s4⟩ | ⟨s1, s2, s3⟩
  · obtain ⟨b, c⟩ := ha s1
    have := hF a.2.2 (by omega) (by omega) c
    omega
  · omega
theorem ex_g (t : Int) (ht : ¬ t = 3001) : PG n (exP f n t) := fun i h0 h h1 => by
  have s := exP_s f n t i
  have v := flP_s f n i 2
  rcases s with ⟨s1, s2, s3⟩ | ⟨s1, s2, s3⟩
  · have := nx_b f n h0 (tk_lt f n h0 (by omega)); omega
  · omega
theorem nu_g (lo hi : Int) : PG n (nuP f n lo hi) := fun i h0 h h1 => by
  have s := nuP_s f n lo hi i
  have v := flP_s f n i 2
  rcases s with ⟨s1, s2, s3⟩ | ⟨s1, _, s2, s3⟩ | ⟨s1, _, _, s2, s3⟩
  · omega
  · omega
  · have := nx_b f n h0 (tk_lt f n h0 (by omega)); omega
theorem PG.h {F : Int → Int × Int × Int} (h : PG n F) : PH n F := fun i h0 h1 h2 => by have := h i h0 h1 h2; omega
/-- token i is one of these -/
noncomputable def tqB (a b : Int) (i : Int) : Bool := decide (tkF f n i = a ∨ tkF f n i = b)
theorem tqB_s (a b i : Int) : (tqB f n a b i = true ∧ (tkF f n i = a ∨ tkF f n i = b)) ∨ (¬ tqB f n a b i = true ∧ ¬ tkF f n i = a ∧ ¬ tkF f n i = b) := by
  unfold tqB
  by_cases h : tkF f n i = a ∨ tkF f n i = b
  · exact Or.inl ⟨decide_eq_true h, h⟩
  · exact Or.inr ⟨fun z => h (of_decide_eq_true z), by omega, by omega⟩
theorem lq_s {a b : Int} (hab : ¬ a = 3001 ∧ ¬ b = 3001) {G : Int → Int × Int × Int} (hG : PG n G) : ∀ i, 0 ≤ i → i ≤ n → tqB f n a b i = true → i < n ∧ ((G (nxF f n i)).1 = 0 → i < (G (nxF f n i)).2.2 ∧ (G (nxF f n i)).2.2 ≤ n) := fun i h0 h1 h2 => by
  have ht : tkF f n i = a ∨ tkF f n i = b := by
    rcases tqB_s f n a b i with ⟨_, q⟩ | ⟨q, _⟩
    · exact q
    · exact absurd h2 q
  have l := tk_lt f n h0 (by omega)
  have m := nx_b f n h0 l
  refine ⟨l, fun h => ?_⟩
  have := hG _ (by omega) h (by omega)
  omega
/-- a loop over tokens a, b: each is taken, then G -/
noncomputable def luP (a b : Int) (G : Int → Int × Int × Int) (i : Int) : Int × Int × Int := lpP n (tqB f n a b) (fun j => G (nxF f n j)) i
theorem luP_s {a b : Int} (hab : ¬ a = 3001 ∧ ¬ b = 3001) {G : Int → Int × Int × Int} (hG : PG n G) (i : Int) (h0 : 0 ≤ i ∧ i ≤ n) : ((tkF f n i = a ∨ tkF f n i = b) ∧ ¬ (G (nxF f n i)).1 = 0 ∧ (luP f n a b G i).1 = (G (nxF f n i)).1 ∧ (luP f n a b G i).2.1 = (G (nxF f n i)).2.1) ∨ ((tkF f n i = a ∨ tkF f n i = b) ∧ (G (nxF f n i)).1 = 0 ∧ (luP f n a b G i).1 = (luP f n a b G (G (nxF f n i)).2.2).1 ∧ (luP f n a b G i).2.1 = (luP f n a b G (G (nxF f n i)).2.2).2.1 ∧ (luP f n a b G i).2.2 = (luP f n a b G (G (nxF f n i)).2.2).2.2) ∨ (¬ tkF f n i = a ∧ ¬ tkF f n i = b ∧ (luP f n a b G i).1 = 0 ∧ (luP f n a b G i).2.2 = i) := by
  have yes : tqB f n a b i = true → tkF f n i = a ∨ tkF f n i = b := fun z => by
    rcases tqB_s f n a b i with ⟨_, q⟩ | ⟨q, _⟩
    · exact q
    · exact absurd z q
  have no : ¬ tqB f n a b i = true → ¬ tkF f n i = a ∧ ¬ tkF f n i = b := fun z => by
    rcases tqB_s f n a b i with ⟨q, _⟩ | ⟨_, q⟩
    · exact absurd q z
    · exact q
  rcases lpP_s n (lq_s f n hab hG) i h0 with ⟨z, x, y, w⟩ | ⟨z, x, y⟩ | ⟨z, y⟩
  · exact Or.inl ⟨yes z, x, y, w⟩
  · refine Or.inr (Or.inl ⟨yes z, x, ?_⟩)
    unfold luP
    rw [y]; exact ⟨rfl, rfl, rfl⟩
  · refine Or.inr (Or.inr ⟨(no z).1, (no z).2, ?_⟩)
    unfold luP
    rw [y]; exact ⟨rfl, rfl⟩
theorem lu_h {a b : Int} (hab : ¬ a = 3001 ∧ ¬ b = 3001) {G : Int → Int × Int × Int} (hG : PG n G) : PH n (luP f n a b G) := lpP_h n (lq_s f n hab hG)
/-- sums: sub is the sum one level deeper; d whether there is none -/
noncomputable def atP (d : Bool) (sub : Int → Int × Int × Int) (i : Int) : Int × Int × Int := if tkF f n i < 1008 then (0, 0, nxF f n i) else if tkF f n i = 2040 then (if d = true then faP f n i 4 else sqP (sub (nxF f n i)) (exP f n 2041)) else faP f n i 2
theorem atP_s (d : Bool) (sub : Int → Int × Int × Int) (i : Int) : (tkF f n i < 1008 ∧ (atP f n d sub i).1 = 0 ∧ (atP f n d sub i).2.2 = nxF f n i) ∨ (tkF f n i = 2040 ∧ d = true ∧ (atP f n d sub i).1 = 4 ∧ (atP f n d sub i).2.1 = i) ∨ (tkF f n i = 2040 ∧ d = false ∧ atP f n d sub i = sqP (sub (nxF f n i)) (exP f n 2041)) ∨ (1008 ≤ tkF f n i ∧ ¬ tkF f n i = 2040 ∧ (atP f n d sub i).1 = flP f n i 2 ∧ (atP f n d sub i).2.1 = i) := by
  unfold atP
  by_cases h : tkF f n i < 1008
  · rw [if_pos h]; exact Or.inl ⟨h, rfl, rfl⟩
  · rw [if_neg h]
    by_cases h2 : tkF f n i = 2040
    · rw [if_pos h2]
      cases d
      · exact Or.inr (Or.inr (Or.inl ⟨h2, rfl, rfl⟩))
      · exact Or.inr (Or.inl ⟨h2, rfl, by show flP f n i 4 = 4; unfold flP; rw [if_neg (by omega)], rfl⟩)
    · rw [if_neg h2]; exact Or.inr (Or.inr (Or.inr ⟨by omega, h2, rfl, rfl⟩))
noncomputable def teP (d : Bool) (sub : Int → Int × Int × Int) (i : Int) : Int × Int × Int := sqP (atP f n d sub i) (luP f n 2042 2042 (atP f n d sub))
noncomputable def suP (d : Bool) (sub : Int → Int × Int × Int) (i : Int) : Int × Int × Int := sqP (teP f n d sub i) (luP f n 2043 2045 (teP f n d sub))
theorem at_g {d : Bool} {sub : Int → Int × Int × Int} (h : d = false → PG n sub) : PG n (atP f n d sub) := fun i h0 h1 h2 => by
  have v := flP_s f n i 2
  rcases atP_s f n d sub i with ⟨a, b, c⟩ | ⟨a, b, c, e⟩ | ⟨a, b, c⟩ | ⟨a, b, c, e⟩
  · have := nx_b f n h0 (tk_lt f n h0 (by omega)); omega
  · omega
  · have l := nx_b f n h0 (tk_lt f n h0 (by omega))
    rw [c] at h1 ⊢
    exact sq_g n h0 (fun z => by have := h b _ (by omega) z l.2; omega) (PG.h n (ex_g f n 2041 (by decide))) h1
  · omega
theorem te_g {d : Bool} {sub : Int → Int × Int × Int} (h : d = false → PG n sub) : PG n (teP f n d sub) := fun i h0 h1 h2 =>
  sq_g n h0 (fun z => at_g f n h i h0 z h2) (lu_h f n (by decide) (at_g f n h)) h1
theorem su_g {d : Bool} {sub : Int → Int × Int × Int} (h : d = false → PG n sub) : PG n (suP f n d sub) := fun i h0 h1 h2 =>
  sq_g n h0 (fun z => te_g f n h i h0 z h2) (lu_h f n (by decide) (te_g f n h)) h1
/-- r levels may come deeper -/
noncomputable def suR : Nat → Int → Int × Int × Int
  | 0 => suP f n true (fun i => (0, 0, i))
  | r + 1 => suP f n false (suR r)
theorem suR_g : ∀ r, PG n (suR f n r)
  | 0 => su_g f n (fun h => by cases h)
  | r + 1 => su_g f n (fun _ => suR_g r)
/-- truths: subU, subT one level deeper -/
noncomputable def unP (d : Bool) (su subU subT : Int → Int × Int × Int) (i : Int) : Int × Int × Int := if tkF f n i = 1016 then (if d = true then faP f n i 4 else subU (nxF f n i)) else if tkF f n i = 2091 then (if d = true then faP f n i 4 else sqP (subT (nxF f n i)) (exP f n 2093)) else sqP (su i) (fun j => if tkF f n j = 2061 ∨ tkF f n j = 2060 ∨ tkF f n j = 2062 then su (nxF f n j) else faP f n j 2)
noncomputable def cmP (su : Int → Int × Int × Int) (j : Int) : Int × Int × Int := if tkF f n j = 2061 ∨ tkF f n j = 2060 ∨ tkF f n j = 2062 then su (nxF f n j) else faP f n j 2
theorem cmP_s (su : Int → Int × Int × Int) (j : Int) : ((tkF f n j = 2061 ∨ tkF f n j = 2060 ∨ tkF f n j = 2062) ∧ (cmP f n su j).1 = (su (nxF f n j)).1 ∧ (cmP f n su j).2.1 = (su (nxF f n j)).2.1 ∧ (cmP f n su j).2.2 = (su (nxF f n j)).2.2) ∨ (¬ tkF f n j = 2061 ∧ ¬ tkF f n j = 2060 ∧ ¬ tkF f n j = 2062 ∧ (cmP f n su j).1 = flP f n j 2 ∧ (cmP f n su j).2.1 = j) := by
  unfold cmP
  by_cases h : tkF f n j = 2061 ∨ tkF f n j = 2060 ∨ tkF f n j = 2062
  · rw [if_pos h]; exact Or.inl ⟨h, rfl, rfl, rfl⟩
  · rw [if_neg h]; exact Or.inr ⟨by omega, by omega, by omega, rfl, rfl⟩
theorem cm_g {su : Int → Int × Int × Int} (h : PG n su) : PG n (cmP f n su) := fun i h0 h1 h2 => by
  have v := flP_s f n i 2
  rcases cmP_s f n su i with ⟨a, b, c, e⟩ | ⟨a, b, c, d, e⟩
  · have l := nx_b f n h0 (tk_lt f n h0 (by omega))
    have := h _ (by omega) (by omega) l.2
    omega
  · omega
theorem unP_s (d : Bool) (su subU subT : Int → Int × Int × Int) (i : Int) : (tkF f n i = 1016 ∧ d = true ∧ (unP f n d su subU subT i).1 = 4 ∧ (unP f n d su subU subT i).2.1 = i) ∨ (tkF f n i = 1016 ∧ d = false ∧ unP f n d su subU subT i = subU (nxF f n i)) ∨ (tkF f n i = 2091 ∧ d = true ∧ (unP f n d su subU subT i).1 = 4 ∧ (unP f n d su subU subT i).2.1 = i) ∨ (tkF f n i = 2091 ∧ d = false ∧ unP f n d su subU subT i = sqP (subT (nxF f n i)) (exP f n 2093)) ∨ (¬ tkF f n i = 1016 ∧ ¬ tkF f n i = 2091 ∧ unP f n d su subU subT i = sqP (su i) (cmP f n su)) := by
  unfold unP
  by_cases h : tkF f n i = 1016
  · rw [if_pos h]
    cases d
    · exact Or.inr (Or.inl ⟨h, rfl, rfl⟩)
    · exact Or.inl ⟨h, rfl, by show flP f n i 4 = 4; unfold flP; rw [if_neg (by omega)], rfl⟩
  · rw [if_neg h]
    by_cases h2 : tkF f n i = 2091
    · rw [if_pos h2]
      cases d
      · exact Or.inr (Or.inr (Or.inr (Or.inl ⟨h2, rfl, rfl⟩)))
      · exact Or.inr (Or.inr (Or.inl ⟨h2, rfl, by show flP f n i 4 = 4; unfold flP; rw [if_neg (by omega)], rfl⟩))
    · rw [if_neg h2]; exact Or.inr (Or.inr (Or.inr (Or.inr ⟨h, h2, rfl⟩)))
theorem un_g {d : Bool} {su subU subT : Int → Int × Int × Int} (hs : PG n su) (hu : d = false → PG n subU) (ht : d = false → PG n subT) : PG n (unP f n d su subU subT) := fun i h0 h1 h2 => by
  rcases unP_s f n d su subU subT i with ⟨a, b, c, e⟩ | ⟨a, b, c⟩ | ⟨a, b, c, e⟩ | ⟨a, b, c⟩ | ⟨a, b, c⟩
  · omega
  · have l := nx_b f n h0 (tk_lt f n h0 (by omega))
    rw [c] at h1 ⊢
    have := hu b _ (by omega) h1 l.2
    omega
  · omega
  · have l := nx_b f n h0 (tk_lt f n h0 (by omega))
    rw [c] at h1 ⊢
    exact sq_g n h0 (fun z => by have := ht b _ (by omega) z l.2; omega) (PG.h n (ex_g f n 2093 (by decide))) h1
  · rw [c] at h1 ⊢
    exact sq_g n h0 (fun z => hs i h0 z h2) (PG.h n (cm_g f n hs)) h1
noncomputable def boP (u : Int → Int × Int × Int) (i : Int) : Int × Int × Int := sqP (u i) (luP f n 1015 1015 u)
noncomputable def trP (u : Int → Int × Int × Int) (i : Int) : Int × Int × Int := sqP (boP f n u i) (luP f n 1014 1014 (boP f n u))
theorem bo_g {u : Int → Int × Int × Int} (h : PG n u) : PG n (boP f n u) := fun i h0 h1 h2 => sq_g n h0 (fun z => h i h0 z h2) (lu_h f n (by decide) h) h1
theorem tr_g {u : Int → Int × Int × Int} (h : PG n u) : PG n (trP f n u) := fun i h0 h1 h2 => sq_g n h0 (fun z => bo_g f n h i h0 z h2) (lu_h f n (by decide) (bo_g f n h)) h1
noncomputable def unR : Nat → Int → Int × Int × Int
  | 0 => unP f n true (suR f n 0) (fun i => (0, 0, i)) (fun i => (0, 0, i))
  | r + 1 => unP f n false (suR f n (r + 1)) (unR r) (trP f n (unR r))
theorem unR_g : ∀ r, PG n (unR f n r)
  | 0 => un_g f n (suR_g f n 0) (fun h => by cases h) (fun h => by cases h)
  | r + 1 => un_g f n (suR_g f n (r + 1)) (fun _ => unR_g r) (fun _ => tr_g f n (unR_g r))
end PS
/-! LINES -/
section PL
variable (f : Nat → Int) (n : Int)
noncomputable def fgB (i : Int) : Bool := decide (tkF f n i = 1005 ∨ tkF f n i = 1007 ∨ tkF f n i = 1012)
noncomputable def fgS (i : Int) : Int × Int × Int := if tkF f n i = 1005 then nuP f n 0 9 (nxF f n i) else (0, 0, nxF f n i)
theorem fg_p : ∀ i, 0 ≤ i → i ≤ n → fgB f n i = true → i < n ∧ ((fgS f n i).1 = 0 → i < (fgS f n i).2.2 ∧ (fgS f n i).2.2 ≤ n) := fun i h0 h1 h2 => by
  unfold fgB at h2
  simp only [decide_eq_true_eq] at h2
  have l := tk_lt f n h0 (by omega)
  have m := nx_b f n h0 l
  refine ⟨l, fun h => ?_⟩
  unfold fgS at h ⊢
  by_cases q : tkF f n i = 1005
  · rw [if_pos q] at h ⊢
    have := nu_g f n 0 9 _ (by omega) h m.2
    omega
  · rw [if_neg q]; exact m
noncomputable def fgP (i : Int) : Int × Int × Int := lpP n (fgB f n) (fgS f n) i
/-- flags: one by one -/
theorem fgP_s (i : Int) (h0 : 0 ≤ i ∧ i ≤ n) : (tkF f n i = 1005 ∧ ¬ (nuP f n 0 9 (nxF f n i)).1 = 0 ∧ (fgP f n i).1 = (nuP f n 0 9 (nxF f n i)).1 ∧ (fgP f n i).2.1 = (nuP f n 0 9 (nxF f n i)).2.1) ∨ (tkF f n i = 1005 ∧ (nuP f n 0 9 (nxF f n i)).1 = 0 ∧ (fgP f n i).1 = (fgP f n (nuP f n 0 9 (nxF f n i)).2.2).1 ∧ (fgP f n i).2.1 = (fgP f n (nuP f n 0 9 (nxF f n i)).2.2).2.1 ∧ (fgP f n i).2.2 = (fgP f n (nuP f n 0 9 (nxF f n i)).2.2).2.2) ∨ ((tkF f n i = 1007 ∨ tkF f n i = 1012) ∧ (fgP f n i).1 = (fgP f n (nxF f n i)).1 ∧ (fgP f n i).2.1 = (fgP f n (nxF f n i)).2.1 ∧ (fgP f n i).2.2 = (fgP f n (nxF f n i)).2.2) ∨ (¬ tkF f n i = 1005 ∧ ¬ tkF f n i = 1007 ∧ ¬ tkF f n i = 1012 ∧ (fgP f n i).1 = 0 ∧ (fgP f n i).2.2 = i) := by
  have key := lpP_s n (fg_p f n) i h0
  have e : ∀ j, fgP f n j = lpP n (fgB f n) (fgS f n) j := fun j => rfl
  rw [e i]
  by_cases q : tkF f n i = 1005
  · have eS : fgS f n i = nuP f n 0 9 (nxF f n i) := by unfold fgS; rw [if_pos q]
    rw [eS] at key
    rcases key with ⟨_, a, b, c⟩ | ⟨_, a, b⟩ | ⟨a, _⟩
    · exact Or.inl ⟨q, a, b, c⟩
    · rw [b]; exact Or.inr (Or.inl ⟨q, a, rfl, rfl, rfl⟩)
    · exact absurd (decide_eq_true (Or.inl q)) a
  · have eS : fgS f n i = (0, 0, nxF f n i) := by unfold fgS; rw [if_neg q]
    rw [eS] at key
    by_cases q2 : tkF f n i = 1007 ∨ tkF f n i = 1012
    · rcases key with ⟨_, a, _, _⟩ | ⟨_, a, b⟩ | ⟨a, _⟩
      · exact absurd rfl a
      · rw [b]; exact Or.inr (Or.inr (Or.inl ⟨q2, rfl, rfl, rfl⟩))
      · exact absurd (decide_eq_true (Or.inr q2)) a
    · rcases key with ⟨a, _, _, _⟩ | ⟨a, _, _⟩ | ⟨_, a⟩
      · exact absurd (of_decide_eq_true a) (not_or.mpr ⟨q, q2⟩)
      · exact absurd (of_decide_eq_true a) (not_or.mpr ⟨q, q2⟩)
      · rw [a]; exact Or.inr (Or.inr (Or.inr ⟨q, by omega, by omega, rfl, rfl⟩))
theorem fg_h : PH n (fgP f n) := lpP_h n (fg_p f n)
noncomputable def kiT (j : Int) : Int × Int × Int := sqP (nuP f n 1 99 j) (fgP f n)
noncomputable def kiP (k i : Int) : Int × Int × Int := if 8 ≤ k then faP f n i 4 else sqP (exP f n 1004 (nxF f n i)) (kiT f n)
noncomputable def buT (j : Int) : Int × Int × Int := sqP (nuP f n 0 999 j) (luP f n 1002 1013 (nuP f n 0 9))
noncomputable def buP (b i : Int) : Int × Int × Int := if 6 ≤ b then faP f n i 4 else sqP (exP f n 1001 (nxF f n i)) (buT f n)
noncomputable def waP (i : Int) : Int × Int × Int := sqP (exP f n 2058 (nxF f n i)) (suR f n 6)
noncomputable def leP (i : Int) : Int × Int × Int := sqP (exP f n 2058 (nxF f n i)) (trP f n (unR f n 6))
noncomputable def liP (k b i : Int) : Int × Int × Int := if tkF f n i = 1003 then kiP f n k i else if tkF f n i = 1009 then buP f n b i else if tkF f n i = 1010 then waP f n i else if tkF f n i = 1011 then leP f n i else faP f n i 2
theorem liP_s (k b i : Int) : (tkF f n i = 1003 ∧ liP f n k b i = kiP f n k i) ∨ (tkF f n i = 1009 ∧ liP f n k b i = buP f n b i) ∨ (tkF f n i = 1010 ∧ liP f n k b i = waP f n i) ∨ (tkF f n i = 1011 ∧ liP f n k b i = leP f n i) ∨ (¬ tkF f n i = 1003 ∧ ¬ tkF f n i = 1009 ∧ ¬ tkF f n i = 1010 ∧ ¬ tkF f n i = 1011 ∧ (liP f n k b i).1 = flP f n i 2 ∧ (liP f n k b i).2.1 = i) := by
  unfold liP
  by_cases h1 : tkF f n i = 1003
  · rw [if_pos h1]; exact Or.inl ⟨h1, rfl⟩
  rw [if_neg h1]
  by_cases h2 : tkF f n i = 1009
  · rw [if_pos h2]; exact Or.inr (Or.inl ⟨h2, rfl⟩)
  rw [if_neg h2]
  by_cases h3 : tkF f n i = 1010
  · rw [if_pos h3]; exact Or.inr (Or.inr (Or.inl ⟨h3, rfl⟩))
  rw [if_neg h3]
  by_cases h4 : tkF f n i = 1011
  · rw [if_pos h4]; exact Or.inr (Or.inr (Or.inr (Or.inl ⟨h4, rfl⟩)))
  rw [if_neg h4]
  exact Or.inr (Or.inr (Or.inr (Or.inr ⟨h1, h2, h3, h4, rfl, rfl⟩)))
theorem ki_s (k i : Int) : (8 ≤ k ∧ (kiP f n k i).1 = flP f n i 4 ∧ (kiP f n k i).2.1 = i) ∨ (k < 8 ∧ kiP f n k i = sqP (exP f n 1004 (nxF f n i)) (kiT f n)) := by
  unfold kiP
  by_cases h : 8 ≤ k
  · rw [if_pos h]; exact Or.inl ⟨h, rfl, rfl⟩
  · rw [if_neg h]; exact Or.inr ⟨by omega, rfl⟩
theorem bu_s (b i : Int) : (6 ≤ b ∧ (buP f n b i).1 = flP f n i 4 ∧ (buP f n b i).2.1 = i) ∨ (b < 6 ∧ buP f n b i = sqP (exP f n 1001 (nxF f n i)) (buT f n)) := by
  unfold buP
  by_cases h : 6 ≤ b
  · rw [if_pos h]; exact Or.inl ⟨h, rfl, rfl⟩
  · rw [if_neg h]; exact Or.inr ⟨by omega, rfl⟩
theorem sq_g2 {F G : Int → Int × Int × Int} {t i : Int} (ht : ¬ t = 3001) (h0 : 0 ≤ i) (hi : i < n) (hG : PH n G) : (sqP (exP f n t (nxF f n i)) G).1 = 0 → i < (sqP (exP f n t (nxF f n i)) G).2.2 ∧ (sqP (exP f n t (nxF f n i)) G).2.2 ≤ n := by
  have l := nx_b f n h0 hi
  exact sq_g n h0 (fun z => by have := ex_g f n t ht _ (by omega) z l.2; omega) hG
theorem kiT_g : PG n (kiT f n) := fun i h0 h1 h2 => sq_g n h0 (fun z => nu_g f n 1 99 i h0 z h2) (fg_h f n) h1
theorem buT_g : PG n (buT f n) := fun i h0 h1 h2 => sq_g n h0 (fun z => nu_g f n 0 999 i h0 z h2) (lu_h f n (by decide) (nu_g f n 0 9)) h1
theorem li_g (k b : Int) : PG n (liP f n k b) := fun i h0 h1 h2 => by
  have v := flP_s f n i 2
  have v4 := flP_s f n i 4
  rcases liP_s f n k b i with ⟨a, e⟩ | ⟨a, e⟩ | ⟨a, e⟩ | ⟨a, e⟩ | ⟨_, _, _, _, e, _⟩
  · rw [e] at h1 ⊢
    rcases ki_s f n k i with ⟨_, q, _⟩ | ⟨_, q⟩
    · omega
    · rw [q] at h1 ⊢; exact sq_g2 f n (F := kiT f n) (by decide) h0 (tk_lt f n h0 (by omega)) (PG.h n (kiT_g f n)) h1
  · rw [e] at h1 ⊢
    rcases bu_s f n b i with ⟨_, q, _⟩ | ⟨_, q⟩
    · omega
    · rw [q] at h1 ⊢; exact sq_g2 f n (F := kiT f n) (by decide) h0 (tk_lt f n h0 (by omega)) (PG.h n (buT_g f n)) h1
  · rw [e] at h1 ⊢; exact sq_g2 f n (F := kiT f n) (by decide) h0 (tk_lt f n h0 (by omega)) (PG.h n (suR_g f n 6)) h1
  · rw [e] at h1 ⊢; exact sq_g2 f n (F := kiT f n) (by decide) h0 (tk_lt f n h0 (by omega)) (PG.h n (tr_g f n (unR_g f n 6))) h1
  · omega
/-- a line with its end -/
noncomputable def lnP (k b i : Int) : Int × Int × Int := sqP (liP f n k b i) (exP f n 2059)
theorem ln_g (k b : Int) : PG n (lnP f n k b) := fun i h0 h1 h2 => sq_g n h0 (fun z => li_g f n k b i h0 z h2) (PG.h n (ex_g f n 2059 (by decide))) h1
noncomputable def inc (t s k : Int) : Int := if t = s then k + 1 else k
theorem inc_s (t s k : Int) : (t = s ∧ inc t s k = k + 1) ∨ (¬ t = s ∧ inc t s k = k) := by
  unfold inc; split <;> simp_all
/-- all lines: (fault, its place, lines) -/
noncomputable def mnG : Nat → Int → Int → Int → Int → Int × Int × Int
  | 0, _, _, _, l => (0, 0, l)
  | m + 1, i, k, b, l => if tkF f n i = 3001 then (0, 0, l) else if (lnP f n k b i).1 = 0 then mnG m (lnP f n k b i).2.2 (inc (tkF f n i) 1003 k) (inc (tkF f n i) 1009 b) (l + 1) else lnP f n k b i
noncomputable def mnP (i k b l : Int) : Int × Int × Int := mnG f n (n + 1 - i).toNat i k b l
theorem mnG_e : ∀ (m j : Nat) (i k b l : Int), 0 ≤ i → i ≤ n → (n - i).toNat < m → (n - i).toNat < j → mnG f n m i k b l = mnG f n j i k b l
  | 0, j, i, k, b, l, h0, h1, h2, h3 => by omega
  | m + 1, 0, i, k, b, l, h0, h1, h2, h3 => by omega
  | m + 1, j + 1, i, k, b, l, h0, h1, h2, h3 => by
    rw [mnG, mnG]
    by_cases z : tkF f n i = 3001
    · rw [if_pos z, if_pos z]
    · rw [if_neg z, if_neg z]
      by_cases y : (lnP f n k b i).1 = 0
      · rw [if_pos y, if_pos y]
        obtain ⟨c, d⟩ := ln_g f n k b i h0 y h1
        exact mnG_e m j _ _ _ _ (by omega) d (by omega) (by omega)
      · rw [if_neg y, if_neg y]
theorem mnP_s (i k b l : Int) (h : 0 ≤ i ∧ i ≤ n) : (tkF f n i = 3001 ∧ mnP f n i k b l = (0, 0, l)) ∨ (¬ tkF f n i = 3001 ∧ (lnP f n k b i).1 = 0 ∧ mnP f n i k b l = mnP f n (lnP f n k b i).2.2 (inc (tkF f n i) 1003 k) (inc (tkF f n i) 1009 b) (l + 1)) ∨ (¬ tkF f n i = 3001 ∧ ¬ (lnP f n k b i).1 = 0 ∧ mnP f n i k b l = lnP f n k b i) := by
  unfold mnP
  rw [show (n + 1 - i).toNat = (n - i).toNat + 1 by omega, mnG]
  by_cases z : tkF f n i = 3001
  · rw [if_pos z]; exact Or.inl ⟨z, rfl⟩
  · rw [if_neg z]
    by_cases y : (lnP f n k b i).1 = 0
    · obtain ⟨c, d⟩ := ln_g f n k b i h.1 y h.2
      rw [if_pos y]
      exact Or.inr (Or.inl ⟨z, y, mnG_e f n _ _ _ _ _ _ (by omega) d (by omega) (by omega)⟩)
    · rw [if_neg y]; exact Or.inr (Or.inr ⟨z, y, rfl⟩)
/-- the whole text -/
noncomputable def hdP : Int × Int × Int := sqP (exP f n 1008 (runE blB f n 0)) (exP f n 2059)
noncomputable def rdP : Int × Int × Int := if (hdP f n).1 = 0 then mnP f n (hdP f n).2.2 0 0 1 else hdP f n
theorem rdP_s : ((hdP f n).1 = 0 ∧ rdP f n = mnP f n (hdP f n).2.2 0 0 1) ∨ (¬ (hdP f n).1 = 0 ∧ rdP f n = hdP f n) := by
  unfold rdP
  by_cases h : (hdP f n).1 = 0
  · rw [if_pos h]; exact Or.inl ⟨h, rfl⟩
  · rw [if_neg h]; exact Or.inr ⟨h, rfl⟩
end PL
end
section
/-! THE SAME IN NUMBERS, for omega -/
section PO
variable (f : Nat → Int) (n : Int)
theorem at_s0 (sub : Int → Int × Int × Int) (i : Int) : (tkF f n i < 1008 ∧ (atP f n true sub i).1 = 0 ∧ (atP f n true sub i).2.2 = nxF f n i) ∨ (tkF f n i = 2040 ∧ (atP f n true sub i).1 = 4 ∧ (atP f n true sub i).2.1 = i) ∨ (1008 ≤ tkF f n i ∧ ¬ tkF f n i = 2040 ∧ (atP f n true sub i).1 = flP f n i 2 ∧ (atP f n true sub i).2.1 = i) := by
  rcases atP_s f n true sub i with a | ⟨a, _, b⟩ | ⟨_, b, _⟩ | a
  · exact Or.inl a
  · exact Or.inr (Or.inl ⟨a, b⟩)
  · cases b
  · exact Or.inr (Or.inr a)
theorem at_s1 (sub : Int → Int × Int × Int) (i : Int) : (tkF f n i < 1008 ∧ (atP f n false sub i).1 = 0 ∧ (atP f n false sub i).2.2 = nxF f n i) ∨ (tkF f n i = 2040 ∧ (sub (nxF f n i)).1 = 0 ∧ (atP f n false sub i).1 = (exP f n 2041 (sub (nxF f n i)).2.2).1 ∧ (atP f n false sub i).2.1 = (exP f n 2041 (sub (nxF f n i)).2.2).2.1 ∧ (atP f n false sub i).2.2 = (exP f n 2041 (sub (nxF f n i)).2.2).2.2) ∨ (tkF f n i = 2040 ∧ ¬ (sub (nxF f n i)).1 = 0 ∧ (atP f n false sub i).1 = (sub (nxF f n i)).1 ∧ (atP f n false sub i).2.1 = (sub (nxF f n i)).2.1) ∨ (1008 ≤ tkF f n i ∧ ¬ tkF f n i = 2040 ∧ (atP f n false sub i).1 = flP f n i 2 ∧ (atP f n false sub i).2.1 = i) := by
  rcases atP_s f n false sub i with a | ⟨_, b, _⟩ | ⟨a, _, b⟩ | a
  · exact Or.inl a
  · cases b
  · rw [b]
    rcases sqP_s (sub (nxF f n i)) (exP f n 2041) with c | c
    · exact Or.inr (Or.inl ⟨a, c⟩)
    · exact Or.inr (Or.inr (Or.inl ⟨a, c⟩))
  · exact Or.inr (Or.inr (Or.inr a))
theorem te_s (d : Bool) (sub : Int → Int × Int × Int) (i : Int) : ((atP f n d sub i).1 = 0 ∧ (teP f n d sub i).1 = (luP f n 2042 2042 (atP f n d sub) (atP f n d sub i).2.2).1 ∧ (teP f n d sub i).2.1 = (luP f n 2042 2042 (atP f n d sub) (atP f n d sub i).2.2).2.1 ∧ (teP f n d sub i).2.2 = (luP f n 2042 2042 (atP f n d sub) (atP f n d sub i).2.2).2.2) ∨ (¬ (atP f n d sub i).1 = 0 ∧ (teP f n d sub i).1 = (atP f n d sub i).1 ∧ (teP f n d sub i).2.1 = (atP f n d sub i).2.1) := sqP_s _ _
theorem su_s0 (i : Int) : ((teP f n true (fun i => (0, 0, i)) i).1 = 0 ∧ (suR f n 0 i).1 = (luP f n 2043 2045 (teP f n true (fun i => (0, 0, i))) (teP f n true (fun i => (0, 0, i)) i).2.2).1 ∧ (suR f n 0 i).2.1 = (luP f n 2043 2045 (teP f n true (fun i => (0, 0, i))) (teP f n true (fun i => (0, 0, i)) i).2.2).2.1 ∧ (suR f n 0 i).2.2 = (luP f n 2043 2045 (teP f n true (fun i => (0, 0, i))) (teP f n true (fun i => (0, 0, i)) i).2.2).2.2) ∨ (¬ (teP f n true (fun i => (0, 0, i)) i).1 = 0 ∧ (suR f n 0 i).1 = (teP f n true (fun i => (0, 0, i)) i).1 ∧ (suR f n 0 i).2.1 = (teP f n true (fun i => (0, 0, i)) i).2.1) := sqP_s _ _
theorem su_s1 (r r2 : Nat) (hr : r2 = r + 1) (i : Int) : ((teP f n false (suR f n r) i).1 = 0 ∧ (suR f n r2 i).1 = (luP f n 2043 2045 (teP f n false (suR f n r)) (teP f n false (suR f n r) i).2.2).1 ∧ (suR f n r2 i).2.1 = (luP f n 2043 2045 (teP f n false (suR f n r)) (teP f n false (suR f n r) i).2.2).2.1 ∧ (suR f n r2 i).2.2 = (luP f n 2043 2045 (teP f n false (suR f n r)) (teP f n false (suR f n r) i).2.2).2.2) ∨ (¬ (teP f n false (suR f n r) i).1 = 0 ∧ (suR f n r2 i).1 = (teP f n false (suR f n r) i).1 ∧ (suR f n r2 i).2.1 = (teP f n false (suR f n r) i).2.1) := by subst hr; exact sqP_s _ _
/-- a triple is another -/
def eq3 (a b : Int × Int × Int) : Prop := a.1 = b.1 ∧ a.2.1 = b.2.1 ∧ a.2.2 = b.2.2
theorem un_s0 (i : Int) : ((tkF f n i = 1016 ∨ tkF f n i = 2091) ∧ (unR f n 0 i).1 = 4 ∧ (unR f n 0 i).2.1 = i) ∨ (¬ tkF f n i = 1016 ∧ ¬ tkF f n i = 2091 ∧ (suR f n 0 i).1 = 0 ∧ (unR f n 0 i).1 = (cmP f n (suR f n 0) (suR f n 0 i).2.2).1 ∧ (unR f n 0 i).2.1 = (cmP f n (suR f n 0) (suR f n 0 i).2.2).2.1 ∧ (unR f n 0 i).2.2 = (cmP f n (suR f n 0) (suR f n 0 i).2.2).2.2) ∨ (¬ tkF f n i = 1016 ∧ ¬ tkF f n i = 2091 ∧ ¬ (suR f n 0 i).1 = 0 ∧ (unR f n 0 i).1 = (suR f n 0 i).1 ∧ (unR f n 0 i).2.1 = (suR f n 0 i).2.1) := by
  have e : unR f n 0 = unP f n true (suR f n 0) (fun i => (0, 0, i)) (fun i => (0, 0, i)) := rfl
  rw [e]
  rcases unP_s f n true (suR f n 0) (fun i => (0, 0, i)) (fun i => (0, 0, i)) i with ⟨a, _, b⟩ | ⟨_, b, _⟩ | ⟨a, _, b⟩ | ⟨_, b, _⟩ | ⟨a, b, c⟩
  · exact Or.inl ⟨Or.inl a, b⟩
  · cases b
  · exact Or.inl ⟨Or.inr a, b⟩
  · cases b
  · rw [c]
    rcases sqP_s (suR f n 0 i) (cmP f n (suR f n 0)) with d | d
    · exact Or.inr (Or.inl ⟨a, b, d⟩)
    · exact Or.inr (Or.inr ⟨a, b, d⟩)
theorem un_s1 (r r2 : Nat) (hr : r2 = r + 1) (i : Int) : (tkF f n i = 1016 ∧ (unR f n r2 i).1 = (unR f n r (nxF f n i)).1 ∧ (unR f n r2 i).2.1 = (unR f n r (nxF f n i)).2.1 ∧ (unR f n r2 i).2.2 = (unR f n r (nxF f n i)).2.2) ∨ (tkF f n i = 2091 ∧ (trP f n (unR f n r) (nxF f n i)).1 = 0 ∧ (unR f n r2 i).1 = (exP f n 2093 (trP f n (unR f n r) (nxF f n i)).2.2).1 ∧ (unR f n r2 i).2.1 = (exP f n 2093 (trP f n (unR f n r) (nxF f n i)).2.2).2.1 ∧ (unR f n r2 i).2.2 = (exP f n 2093 (trP f n (unR f n r) (nxF f n i)).2.2).2.2) ∨ (tkF f n i = 2091 ∧ ¬ (trP f n (unR f n r) (nxF f n i)).1 = 0 ∧ (unR f n r2 i).1 = (trP f n (unR f n r) (nxF f n i)).1 ∧ (unR f n r2 i).2.1 = (trP f n (unR f n r) (nxF f n i)).2.1) ∨ (¬ tkF f n i = 1016 ∧ ¬ tkF f n i = 2091 ∧ (suR f n r2 i).1 = 0 ∧ (unR f n r2 i).1 = (cmP f n (suR f n r2) (suR f n r2 i).2.2).1 ∧ (unR f n r2 i).2.1 = (cmP f n (suR f n r2) (suR f n r2 i).2.2).2.1 ∧ (unR f n r2 i).2.2 = (cmP f n (suR f n r2) (suR f n r2 i).2.2).2.2) ∨ (¬ tkF f n i = 1016 ∧ ¬ tkF f n i = 2091 ∧ ¬ (suR f n r2 i).1 = 0 ∧ (unR f n r2 i).1 = (suR f n r2 i).1 ∧ (unR f n r2 i).2.1 = (suR f n r2 i).2.1) := by
  subst hr
  have e : unR f n (r + 1) = unP f n false (suR f n (r + 1)) (unR f n r) (trP f n (unR f n r)) := rfl
  rw [e]
  rcases unP_s f n false (suR f n (r + 1)) (unR f n r) (trP f n (unR f n r)) i with ⟨_, b, _⟩ | ⟨a, _, b⟩ | ⟨_, b, _⟩ | ⟨a, _, b⟩ | ⟨a, b, c⟩
  · cases b
  · rw [b]; exact Or.inl ⟨a, rfl, rfl, rfl⟩
  · cases b
  · rw [b]
    rcases sqP_s (trP f n (unR f n r) (nxF f n i)) (exP f n 2093) with d | d
    · exact Or.inr (Or.inl ⟨a, d⟩)
    · exact Or.inr (Or.inr (Or.inl ⟨a, d⟩))
  · rw [c]
    rcases sqP_s (suR f n (r + 1) i) (cmP f n (suR f n (r + 1))) with d | d
    · exact Or.inr (Or.inr (Or.inr (Or.inl ⟨a, b, d⟩)))
    · exact Or.inr (Or.inr (Or.inr (Or.inr ⟨a, b, d⟩)))
theorem bo_s (u : Int → Int × Int × Int) (i : Int) : ((u i).1 = 0 ∧ (boP f n u i).1 = (luP f n 1015 1015 u (u i).2.2).1 ∧ (boP f n u i).2.1 = (luP f n 1015 1015 u (u i).2.2).2.1 ∧ (boP f n u i).2.2 = (luP f n 1015 1015 u (u i).2.2).2.2) ∨ (¬ (u i).1 = 0 ∧ (boP f n u i).1 = (u i).1 ∧ (boP f n u i).2.1 = (u i).2.1) := sqP_s _ _
theorem tr_s (u : Int → Int × Int × Int) (i : Int) : ((boP f n u i).1 = 0 ∧ (trP f n u i).1 = (luP f n 1014 1014 (boP f n u) (boP f n u i).2.2).1 ∧ (trP f n u i).2.1 = (luP f n 1014 1014 (boP f n u) (boP f n u i).2.2).2.1 ∧ (trP f n u i).2.2 = (luP f n 1014 1014 (boP f n u) (boP f n u i).2.2).2.2) ∨ (¬ (boP f n u i).1 = 0 ∧ (trP f n u i).1 = (boP f n u i).1 ∧ (trP f n u i).2.1 = (boP f n u i).2.1) := sqP_s _ _
theorem nx_o (i : Int) (h : 0 ≤ i) : n ≤ i ∨ (i + 1 ≤ nxF f n i ∧ nxF f n i ≤ n) := by
  by_cases q : i < n
  · exact Or.inr (nxF_le f n i ⟨h, q⟩)
  · exact Or.inl (by omega)
end PO
theorem pg_o {n : Int} {F : Int → Int × Int × Int} (h : PG n F) (i : Int) (hi : 0 ≤ i ∧ i ≤ n) : ¬ (F i).1 = 0 ∨ (i < (F i).2.2 ∧ (F i).2.2 ≤ n) := by
  by_cases q : (F i).1 = 0
  · exact Or.inr (h i hi.1 q hi.2)
  · exact Or.inl q
theorem tk_c (f : Nat → Int) (n x y : Int) : ¬ x = y ∨ tkF f n x = tkF f n y := by
  by_cases h : x = y
  · exact Or.inr (by rw [h])
  · exact Or.inl h
theorem tk_v (f : Nat → Int) (n i : Int) : i < 0 ∨ (0 ≤ tkF f n i ∧ tkF f n i ≤ 999 ∧ i < n) ∨ (1000 ≤ tkF f n i ∧ tkF f n i ≤ 1017 ∧ i < n) ∨ ((tkF f n i = 2059 ∨ tkF f n i = 2058 ∨ tkF f n i = 2043 ∨ tkF f n i = 2045 ∨ tkF f n i = 2042 ∨ tkF f n i = 2040 ∨ tkF f n i = 2041 ∨ tkF f n i = 2091 ∨ tkF f n i = 2093 ∨ tkF f n i = 2061 ∨ tkF f n i = 2060 ∨ tkF f n i = 2062) ∧ i < n) ∨ (tkF f n i = 3000 ∧ i < n) ∨ (tkF f n i = 3001 ∧ n ≤ i) := by
  by_cases h : 0 ≤ i
  · exact Or.inr (tkF_v f n i h)
  · exact Or.inl (by omega)
theorem nx_p (f : Nat → Int) (n i : Int) : i < 0 ∨ n ≤ i ∨ (i + 1 ≤ nxF f n i ∧ nxF f n i ≤ n) := by
  by_cases h : 0 ≤ i
  · exact Or.inr (nx_o f n i h)
  · exact Or.inl (by omega)
theorem pg_p {n : Int} {F : Int → Int × Int × Int} (h : PG n F) (i : Int) : i < 0 ∨ n < i ∨ ¬ (F i).1 = 0 ∨ (i < (F i).2.2 ∧ (F i).2.2 ≤ n) := by
  by_cases q : 0 ≤ i ∧ i ≤ n
  · exact Or.inr (Or.inr (pg_o h i q))
  · omega
theorem luo (f : Nat → Int) (n : Int) {a b : Int} (hab : ¬ a = 3001 ∧ ¬ b = 3001) {G : Int → Int × Int × Int} (hG : PG n G) (i : Int) : i < 0 ∨ n < i ∨ ((tkF f n i = a ∨ tkF f n i = b) ∧ ¬ (G (nxF f n i)).1 = 0 ∧ (luP f n a b G i).1 = (G (nxF f n i)).1 ∧ (luP f n a b G i).2.1 = (G (nxF f n i)).2.1) ∨ ((tkF f n i = a ∨ tkF f n i = b) ∧ (G (nxF f n i)).1 = 0 ∧ (luP f n a b G i).1 = (luP f n a b G (G (nxF f n i)).2.2).1 ∧ (luP f n a b G i).2.1 = (luP f n a b G (G (nxF f n i)).2.2).2.1 ∧ (luP f n a b G i).2.2 = (luP f n a b G (G (nxF f n i)).2.2).2.2) ∨ (¬ tkF f n i = a ∧ ¬ tkF f n i = b ∧ (luP f n a b G i).1 = 0 ∧ (luP f n a b G i).2.2 = i) := by
  by_cases q : 0 ≤ i ∧ i ≤ n
  · exact Or.inr (Or.inr (luP_s f n hab hG i q))
  · omega
theorem tk_e (f : Nat → Int) (n i : Int) : i < 0 ∨ (i < n ∧ ¬ tkF f n i = 3001) ∨ (n ≤ i ∧ tkF f n i = 3001) := by
  have := tk_v f n i
  omega
/-! lines, for omega -/
section PQ
variable (f : Nat → Int) (n : Int)
theorem kiT_s (j : Int) : ((nuP f n 1 99 j).1 = 0 ∧ (kiT f n j).1 = (fgP f n (nuP f n 1 99 j).2.2).1 ∧ (kiT f n j).2.1 = (fgP f n (nuP f n 1 99 j).2.2).2.1 ∧ (kiT f n j).2.2 = (fgP f n (nuP f n 1 99 j).2.2).2.2) ∨ (¬ (nuP f n 1 99 j).1 = 0 ∧ (kiT f n j).1 = (nuP f n 1 99 j).1 ∧ (kiT f n j).2.1 = (nuP f n 1 99 j).2.1) := sqP_s _ _
theorem buT_s (j : Int) : ((nuP f n 0 999 j).1 = 0 ∧ (buT f n j).1 = (luP f n 1002 1013 (nuP f n 0 9) (nuP f n 0 999 j).2.2).1 ∧ (buT f n j).2.1 = (luP f n 1002 1013 (nuP f n 0 9) (nuP f n 0 999 j).2.2).2.1 ∧ (buT f n j).2.2 = (luP f n 1002 1013 (nuP f n 0 9) (nuP f n 0 999 j).2.2).2.2) ∨ (¬ (nuP f n 0 999 j).1 = 0 ∧ (buT f n j).1 = (nuP f n 0 999 j).1 ∧ (buT f n j).2.1 = (nuP f n 0 999 j).2.1) := sqP_s _ _
theorem ki_o (k i : Int) : (8 ≤ k ∧ (kiP f n k i).1 = flP f n i 4 ∧ (kiP f n k i).2.1 = i) ∨ (k < 8 ∧ (exP f n 1004 (nxF f n i)).1 = 0 ∧ (kiP f n k i).1 = (kiT f n (exP f n 1004 (nxF f n i)).2.2).1 ∧ (kiP f n k i).2.1 = (kiT f n (exP f n 1004 (nxF f n i)).2.2).2.1 ∧ (kiP f n k i).2.2 = (kiT f n (exP f n 1004 (nxF f n i)).2.2).2.2) ∨ (k < 8 ∧ ¬ (exP f n 1004 (nxF f n i)).1 = 0 ∧ (kiP f n k i).1 = (exP f n 1004 (nxF f n i)).1 ∧ (kiP f n k i).2.1 = (exP f n 1004 (nxF f n i)).2.1) := by
  rcases ki_s f n k i with a | ⟨a, b⟩
  · exact Or.inl a
  · rw [b]
    rcases sqP_s (exP f n 1004 (nxF f n i)) (kiT f n) with c | c
    · exact Or.inr (Or.inl ⟨a, c⟩)
    · exact Or.inr (Or.inr ⟨a, c⟩)
theorem bu_o (b i : Int) : (6 ≤ b ∧ (buP f n b i).1 = flP f n i 4 ∧ (buP f n b i).2.1 = i) ∨ (b < 6 ∧ (exP f n 1001 (nxF f n i)).1 = 0 ∧ (buP f n b i).1 = (buT f n (exP f n 1001 (nxF f n i)).2.2).1 ∧ (buP f n b i).2.1 = (buT f n (exP f n 1001 (nxF f n i)).2.2).2.1 ∧ (buP f n b i).2.2 = (buT f n (exP f n 1001 (nxF f n i)).2.2).2.2) ∨ (b < 6 ∧ ¬ (exP f n 1001 (nxF f n i)).1 = 0 ∧ (buP f n b i).1 = (exP f n 1001 (nxF f n i)).1 ∧ (buP f n b i).2.1 = (exP f n 1001 (nxF f n i)).2.1) := by
  rcases bu_s f n b i with a | ⟨a, b⟩
  · exact Or.inl a
  · rw [b]
    rcases sqP_s (exP f n 1001 (nxF f n i)) (buT f n) with c | c
    · exact Or.inr (Or.inl ⟨a, c⟩)
    · exact Or.inr (Or.inr ⟨a, c⟩)
theorem wa_s (i : Int) : ((exP f n 2058 (nxF f n i)).1 = 0 ∧ (waP f n i).1 = (suR f n 6 (exP f n 2058 (nxF f n i)).2.2).1 ∧ (waP f n i).2.1 = (suR f n 6 (exP f n 2058 (nxF f n i)).2.2).2.1 ∧ (waP f n i).2.2 = (suR f n 6 (exP f n 2058 (nxF f n i)).2.2).2.2) ∨ (¬ (exP f n 2058 (nxF f n i)).1 = 0 ∧ (waP f n i).1 = (exP f n 2058 (nxF f n i)).1 ∧ (waP f n i).2.1 = (exP f n 2058 (nxF f n i)).2.1) := sqP_s _ _
theorem lt_s1 (i : Int) : ((exP f n 2058 (nxF f n i)).1 = 0 ∧ (leP f n i).1 = (trP f n (unR f n 6) (exP f n 2058 (nxF f n i)).2.2).1 ∧ (leP f n i).2.1 = (trP f n (unR f n 6) (exP f n 2058 (nxF f n i)).2.2).2.1 ∧ (leP f n i).2.2 = (trP f n (unR f n 6) (exP f n 2058 (nxF f n i)).2.2).2.2) ∨ (¬ (exP f n 2058 (nxF f n i)).1 = 0 ∧ (leP f n i).1 = (exP f n 2058 (nxF f n i)).1 ∧ (leP f n i).2.1 = (exP f n 2058 (nxF f n i)).2.1) := sqP_s _ _
theorem li_o (k b i : Int) : (tkF f n i = 1003 ∧ (liP f n k b i).1 = (kiP f n k i).1 ∧ (liP f n k b i).2.1 = (kiP f n k i).2.1 ∧ (liP f n k b i).2.2 = (kiP f n k i).2.2) ∨ (tkF f n i = 1009 ∧ (liP f n k b i).1 = (buP f n b i).1 ∧ (liP f n k b i).2.1 = (buP f n b i).2.1 ∧ (liP f n k b i).2.2 = (buP f n b i).2.2) ∨ (tkF f n i = 1010 ∧ (liP f n k b i).1 = (waP f n i).1 ∧ (liP f n k b i).2.1 = (waP f n i).2.1 ∧ (liP f n k b i).2.2 = (waP f n i).2.2) ∨ (tkF f n i = 1011 ∧ (liP f n k b i).1 = (leP f n i).1 ∧ (liP f n k b i).2.1 = (leP f n i).2.1 ∧ (liP f n k b i).2.2 = (leP f n i).2.2) ∨ (¬ tkF f n i = 1003 ∧ ¬ tkF f n i = 1009 ∧ ¬ tkF f n i = 1010 ∧ ¬ tkF f n i = 1011 ∧ (liP f n k b i).1 = flP f n i 2 ∧ (liP f n k b i).2.1 = i) := by
  rcases liP_s f n k b i with ⟨a, e⟩ | ⟨a, e⟩ | ⟨a, e⟩ | ⟨a, e⟩ | a
  · rw [e]; exact Or.inl ⟨a, rfl, rfl, rfl⟩
  · rw [e]; exact Or.inr (Or.inl ⟨a, rfl, rfl, rfl⟩)
  · rw [e]; exact Or.inr (Or.inr (Or.inl ⟨a, rfl, rfl, rfl⟩))
  · rw [e]; exact Or.inr (Or.inr (Or.inr (Or.inl ⟨a, rfl, rfl, rfl⟩)))
  · exact Or.inr (Or.inr (Or.inr (Or.inr a)))
theorem ln_s (k b i : Int) : ((liP f n k b i).1 = 0 ∧ (lnP f n k b i).1 = (exP f n 2059 (liP f n k b i).2.2).1 ∧ (lnP f n k b i).2.1 = (exP f n 2059 (liP f n k b i).2.2).2.1 ∧ (lnP f n k b i).2.2 = (exP f n 2059 (liP f n k b i).2.2).2.2) ∨ (¬ (liP f n k b i).1 = 0 ∧ (lnP f n k b i).1 = (liP f n k b i).1 ∧ (lnP f n k b i).2.1 = (liP f n k b i).2.1) := sqP_s _ _
theorem hd_s : ((exP f n 1008 (runE blB f n 0)).1 = 0 ∧ (hdP f n).1 = (exP f n 2059 (exP f n 1008 (runE blB f n 0)).2.2).1 ∧ (hdP f n).2.1 = (exP f n 2059 (exP f n 1008 (runE blB f n 0)).2.2).2.1 ∧ (hdP f n).2.2 = (exP f n 2059 (exP f n 1008 (runE blB f n 0)).2.2).2.2) ∨ (¬ (exP f n 1008 (runE blB f n 0)).1 = 0 ∧ (hdP f n).1 = (exP f n 1008 (runE blB f n 0)).1 ∧ (hdP f n).2.1 = (exP f n 1008 (runE blB f n 0)).2.1) := sqP_s _ _
theorem mn_o (i k b l : Int) : i < 0 ∨ n < i ∨ (tkF f n i = 3001 ∧ (mnP f n i k b l).1 = 0 ∧ (mnP f n i k b l).2.2 = l) ∨ (¬ tkF f n i = 3001 ∧ (lnP f n k b i).1 = 0 ∧ (mnP f n i k b l).1 = (mnP f n (lnP f n k b i).2.2 (inc (tkF f n i) 1003 k) (inc (tkF f n i) 1009 b) (l + 1)).1 ∧ (mnP f n i k b l).2.1 = (mnP f n (lnP f n k b i).2.2 (inc (tkF f n i) 1003 k) (inc (tkF f n i) 1009 b) (l + 1)).2.1 ∧ (mnP f n i k b l).2.2 = (mnP f n (lnP f n k b i).2.2 (inc (tkF f n i) 1003 k) (inc (tkF f n i) 1009 b) (l + 1)).2.2) ∨ (¬ tkF f n i = 3001 ∧ ¬ (lnP f n k b i).1 = 0 ∧ (mnP f n i k b l).1 = (lnP f n k b i).1 ∧ (mnP f n i k b l).2.1 = (lnP f n k b i).2.1) := by
  by_cases q : 0 ≤ i ∧ i ≤ n
  · rcases mnP_s f n i k b l q with ⟨a, e⟩ | ⟨a, b, e⟩ | ⟨a, b, e⟩
    · rw [e]; exact Or.inr (Or.inr (Or.inl ⟨a, rfl, rfl⟩))
    · rw [e]; exact Or.inr (Or.inr (Or.inr (Or.inl ⟨a, b, rfl, rfl, rfl⟩)))
    · rw [e]; exact Or.inr (Or.inr (Or.inr (Or.inr ⟨a, b, rfl, rfl⟩)))
  · omega
theorem mn_c (i k b l k2 b2 l2 : Int) : ¬ k = k2 ∨ ¬ b = b2 ∨ ¬ l = l2 ∨ ((mnP f n i k b l).1 = (mnP f n i k2 b2 l2).1 ∧ (mnP f n i k b l).2.1 = (mnP f n i k2 b2 l2).2.1 ∧ (mnP f n i k b l).2.2 = (mnP f n i k2 b2 l2).2.2) := by
  by_cases h1 : k = k2
  · by_cases h2 : b = b2
    · by_cases h3 : l = l2
      · subst h1; subst h2; subst h3; exact Or.inr (Or.inr (Or.inr ⟨rfl, rfl, rfl⟩))
      · exact Or.inr (Or.inr (Or.inl h3))
    · exact Or.inr (Or.inl h2)
  · exact Or.inl h1
theorem rd_o : ((hdP f n).1 = 0 ∧ (rdP f n).1 = (mnP f n (hdP f n).2.2 0 0 1).1 ∧ (rdP f n).2.1 = (mnP f n (hdP f n).2.2 0 0 1).2.1 ∧ (rdP f n).2.2 = (mnP f n (hdP f n).2.2 0 0 1).2.2) ∨ (¬ (hdP f n).1 = 0 ∧ (rdP f n).1 = (hdP f n).1 ∧ (rdP f n).2.1 = (hdP f n).2.1) := by
  rcases rdP_s f n with ⟨a, e⟩ | ⟨a, e⟩
  · rw [e]; exact Or.inl ⟨a, rfl, rfl, rfl⟩
  · rw [e]; exact Or.inr ⟨a, rfl, rfl⟩
/-- one flag, if there is one; one mark -/
noncomputable def tfP (i : Int) : Int × Int × Int := if fgB f n i = true then fgS f n i else (0, 0, i)
theorem tf_o (i : Int) : (tkF f n i = 1005 ∧ (tfP f n i).1 = (nuP f n 0 9 (nxF f n i)).1 ∧ (tfP f n i).2.1 = (nuP f n 0 9 (nxF f n i)).2.1 ∧ (tfP f n i).2.2 = (nuP f n 0 9 (nxF f n i)).2.2) ∨ ((tkF f n i = 1007 ∨ tkF f n i = 1012) ∧ (tfP f n i).1 = 0 ∧ (tfP f n i).2.2 = nxF f n i) ∨ (¬ tkF f n i = 1005 ∧ ¬ tkF f n i = 1007 ∧ ¬ tkF f n i = 1012 ∧ (tfP f n i).1 = 0 ∧ (tfP f n i).2.2 = i) := by
  unfold tfP
  by_cases h : fgB f n i = true
  · rw [if_pos h]
    unfold fgB at h
    simp only [decide_eq_true_eq] at h
    unfold fgS
    by_cases h2 : tkF f n i = 1005
    · rw [if_pos h2]; exact Or.inl ⟨h2, rfl, rfl, rfl⟩
    · rw [if_neg h2]; exact Or.inr (Or.inl ⟨by omega, rfl, rfl⟩)
  · rw [if_neg h]
    unfold fgB at h
    simp only [decide_eq_true_eq] at h
    exact Or.inr (Or.inr ⟨by omega, by omega, by omega, rfl, rfl⟩)
theorem fg_o (i : Int) : i < 0 ∨ n < i ∨ ((tkF f n i = 1005 ∨ tkF f n i = 1007 ∨ tkF f n i = 1012) ∧ ¬ (tfP f n i).1 = 0 ∧ (fgP f n i).1 = (tfP f n i).1 ∧ (fgP f n i).2.1 = (tfP f n i).2.1) ∨ ((tkF f n i = 1005 ∨ tkF f n i = 1007 ∨ tkF f n i = 1012) ∧ (tfP f n i).1 = 0 ∧ (fgP f n i).1 = (fgP f n (tfP f n i).2.2).1 ∧ (fgP f n i).2.1 = (fgP f n (tfP f n i).2.2).2.1 ∧ (fgP f n i).2.2 = (fgP f n (tfP f n i).2.2).2.2 ∧ i < (tfP f n i).2.2 ∧ (tfP f n i).2.2 ≤ n) ∨ (¬ tkF f n i = 1005 ∧ ¬ tkF f n i = 1007 ∧ ¬ tkF f n i = 1012 ∧ (fgP f n i).1 = 0 ∧ (fgP f n i).2.2 = i ∧ (tfP f n i).1 = 0 ∧ (tfP f n i).2.2 = i) := by
  by_cases q : 0 ≤ i ∧ i ≤ n
  · have key := lpP_s n (fg_p f n) i q
    have e : ∀ j, fgP f n j = lpP n (fgB f n) (fgS f n) j := fun j => rfl
    rw [e i]
    by_cases h : fgB f n i = true
    · have et : tfP f n i = fgS f n i := by unfold tfP; rw [if_pos h]
      have hp := fg_p f n i q.1 q.2 h
      have ht : tkF f n i = 1005 ∨ tkF f n i = 1007 ∨ tkF f n i = 1012 := by unfold fgB at h; simpa only [decide_eq_true_eq] using h
      rw [et]
      rcases key with ⟨_, a, b, c⟩ | ⟨_, a, b⟩ | ⟨a, _⟩
      · exact Or.inr (Or.inr (Or.inl ⟨ht, a, b, c⟩))
      · rw [b]; exact Or.inr (Or.inr (Or.inr (Or.inl ⟨ht, a, rfl, rfl, rfl, hp.2 a⟩)))
      · exact absurd h a
    · have et : tfP f n i = (0, 0, i) := by unfold tfP; rw [if_neg h]
      have ht : ¬ (tkF f n i = 1005 ∨ tkF f n i = 1007 ∨ tkF f n i = 1012) := by unfold fgB at h; simpa only [decide_eq_true_eq] using h
      rw [et]
      rcases key with ⟨a, _⟩ | ⟨a, _⟩ | ⟨_, a⟩
      · exact absurd a h
      · exact absurd a h
      · rw [a]; exact Or.inr (Or.inr (Or.inr (Or.inr ⟨by omega, by omega, by omega, rfl, rfl, rfl, rfl⟩)))
  · omega
noncomputable def mkP (i : Int) : Int × Int × Int := if tqB f n 1002 1013 i = true then nuP f n 0 9 (nxF f n i) else (0, 0, i)
theorem mk_o (i : Int) : ((tkF f n i = 1002 ∨ tkF f n i = 1013) ∧ (mkP f n i).1 = (nuP f n 0 9 (nxF f n i)).1 ∧ (mkP f n i).2.1 = (nuP f n 0 9 (nxF f n i)).2.1 ∧ (mkP f n i).2.2 = (nuP f n 0 9 (nxF f n i)).2.2) ∨ (¬ tkF f n i = 1002 ∧ ¬ tkF f n i = 1013 ∧ (mkP f n i).1 = 0 ∧ (mkP f n i).2.2 = i) := by
  unfold mkP
  rcases tqB_s f n 1002 1013 i with ⟨a, b⟩ | ⟨a, b, c⟩
  · rw [if_pos a]; exact Or.inl ⟨b, rfl, rfl, rfl⟩
  · rw [if_neg a]; exact Or.inr ⟨b, c, rfl, rfl⟩
theorem ma_o (i : Int) : i < 0 ∨ n < i ∨ ((tkF f n i = 1002 ∨ tkF f n i = 1013) ∧ ¬ (mkP f n i).1 = 0 ∧ (luP f n 1002 1013 (nuP f n 0 9) i).1 = (mkP f n i).1 ∧ (luP f n 1002 1013 (nuP f n 0 9) i).2.1 = (mkP f n i).2.1) ∨ ((tkF f n i = 1002 ∨ tkF f n i = 1013) ∧ (mkP f n i).1 = 0 ∧ (luP f n 1002 1013 (nuP f n 0 9) i).1 = (luP f n 1002 1013 (nuP f n 0 9) (mkP f n i).2.2).1 ∧ (luP f n 1002 1013 (nuP f n 0 9) i).2.1 = (luP f n 1002 1013 (nuP f n 0 9) (mkP f n i).2.2).2.1 ∧ (luP f n 1002 1013 (nuP f n 0 9) i).2.2 = (luP f n 1002 1013 (nuP f n 0 9) (mkP f n i).2.2).2.2 ∧ i < (mkP f n i).2.2 ∧ (mkP f n i).2.2 ≤ n) ∨ (¬ tkF f n i = 1002 ∧ ¬ tkF f n i = 1013 ∧ (luP f n 1002 1013 (nuP f n 0 9) i).1 = 0 ∧ (luP f n 1002 1013 (nuP f n 0 9) i).2.2 = i ∧ (mkP f n i).1 = 0 ∧ (mkP f n i).2.2 = i) := by
  by_cases q : 0 ≤ i ∧ i ≤ n
  · have key := lpP_s n (lq_s f n (a := 1002) (b := 1013) (by decide) (nu_g f n 0 9)) i q
    rcases tqB_s f n 1002 1013 i with ⟨a, b⟩ | ⟨a, b, c⟩
    · have et : mkP f n i = nuP f n 0 9 (nxF f n i) := by unfold mkP; rw [if_pos a]
      have hp := lq_s f n (a := 1002) (b := 1013) (by decide) (nu_g f n 0 9) i q.1 q.2 a
      rw [et]
      rcases key with ⟨_, x, y, z⟩ | ⟨_, x, y⟩ | ⟨x, _⟩
      · exact Or.inr (Or.inr (Or.inl ⟨b, x, y, z⟩))
      · have y2 : luP f n 1002 1013 (nuP f n 0 9) i = luP f n 1002 1013 (nuP f n 0 9) (nuP f n 0 9 (nxF f n i)).2.2 := y
        rw [y2]; exact Or.inr (Or.inr (Or.inr (Or.inl ⟨b, x, rfl, rfl, rfl, hp.2 x⟩)))
      · exact absurd a x
    · have et : mkP f n i = (0, 0, i) := by unfold mkP; rw [if_neg a]
      rw [et]
      rcases key with ⟨x, _⟩ | ⟨x, _⟩ | ⟨_, x⟩
      · exact absurd x a
      · exact absurd x a
      · have y2 : luP f n 1002 1013 (nuP f n 0 9) i = (0, 0, i) := x
        rw [y2]; exact Or.inr (Or.inr (Or.inr (Or.inr ⟨b, c, rfl, rfl, rfl, rfl⟩)))
  · omega
end PQ
theorem mn_c4 (f : Nat → Int) (n i k b l i2 k2 b2 l2 : Int) : ¬ i = i2 ∨ ¬ k = k2 ∨ ¬ b = b2 ∨ ¬ l = l2 ∨ ((mnP f n i k b l).1 = (mnP f n i2 k2 b2 l2).1 ∧ (mnP f n i k b l).2.1 = (mnP f n i2 k2 b2 l2).2.1 ∧ (mnP f n i k b l).2.2 = (mnP f n i2 k2 b2 l2).2.2) := by
  by_cases h : i = i2
  · subst h; exact Or.inr (mn_c f n i k b l k2 b2 l2)
  · exact Or.inl h
noncomputable def lwP (f : Nat → Int) (n l i : Int) : Int × Int × Int := if l = 0 then waP f n i else leP f n i
theorem lw_o (f : Nat → Int) (n l i : Int) : (l = 0 ∧ (lwP f n l i).1 = (waP f n i).1 ∧ (lwP f n l i).2.1 = (waP f n i).2.1 ∧ (lwP f n l i).2.2 = (waP f n i).2.2) ∨ (¬ l = 0 ∧ (lwP f n l i).1 = (leP f n i).1 ∧ (lwP f n l i).2.1 = (leP f n i).2.1 ∧ (lwP f n l i).2.2 = (leP f n i).2.2) := by
  unfold lwP
  by_cases h : l = 0
  · rw [if_pos h]; exact Or.inl ⟨h, rfl, rfl, rfl⟩
  · rw [if_neg h]; exact Or.inr ⟨h, rfl, rfl, rfl⟩
theorem lw_c (f : Nat → Int) (n l k i : Int) : ¬ l = k ∨ ((lwP f n l i).1 = (lwP f n k i).1 ∧ (lwP f n l i).2.1 = (lwP f n k i).2.1 ∧ (lwP f n l i).2.2 = (lwP f n k i).2.2) := by
  by_cases h : l = k
  · subst h; exact Or.inr ⟨rfl, rfl, rfl⟩
  · exact Or.inl h
end
section
/-! THE CLASS'S READER: its tokens are the text's -/
theorem wc_x {M M' : mm_M} {i k j : Nat} {v : Int32} (e : M' = wI M i k v) (h : j ≠ i) : M'.1 j = M.1 j := by rw [e]; funext b; exact u2_a _ _ h
theorem wp_x {M M' : mm_M} {i k j b : Nat} {v : Int32} (e : M' = wI M i k v) (h : b ≠ k) : M'.1 j b = M.1 j b := by rw [e]; exact u2_b _ _ h
def psX (M : mm_M) : Int := (M.1 80 ((M.1 78 2).toInt).toNat).toInt
/-- tokens[] and places[] up to the last that can be come to -/
def TKS (f : Nat → Int) (n : Int) (M : mm_M) (c : Nat) : Prop := (0 ≤ n ∧ n ≤ 900) ∧ c ≤ 900 ∧ (∀ j : Nat, j ≤ c → (M.1 79 j).toInt = tkF f n (M.1 80 j).toInt ∧ 0 ≤ (M.1 80 j).toInt ∧ (M.1 80 j).toInt ≤ n) ∧ (∀ j : Nat, j < c → ¬ tkF f n (M.1 80 j).toInt = 3000 ∧ ¬ tkF f n (M.1 80 j).toInt = 3001 ∧ (M.1 80 (j + 1)).toInt = nxF f n (M.1 80 j).toInt) ∧ (tkF f n (M.1 80 c).toInt = 3000 ∨ tkF f n (M.1 80 c).toInt = 3001)
def TKX (f : Nat → Int) (n : Int) (M : mm_M) : Prop := ∃ c : Nat, TKS f n M c ∧ 0 ≤ (M.1 78 2).toInt ∧ (M.1 78 2).toInt ≤ c
theorem tkx_b {f : Nat → Int} {n : Int} {M : mm_M} (h : b01 (TKX f n M) = 1) : (0 ≤ n ∧ n ≤ 900) ∧ (0 ≤ (M.1 78 2).toInt ∧ (M.1 78 2).toInt ≤ 900) ∧ (0 ≤ psX M ∧ psX M ≤ n) := by
  obtain ⟨c, ⟨h1, h2, h3, h4, h5⟩, h6, h7⟩ := b01_e h
  have := h3 ((M.1 78 2).toInt).toNat (by omega)
  exact ⟨h1, by omega, this.2⟩
theorem tkx_t {f : Nat → Int} {n : Int} {M : mm_M} {a : Int} (h : b01 (TKX f n M) = 1) (ha : a = (M.1 78 2).toInt) : (M.1 79 a.toNat).toInt = tkF f n (psX M) ∧ (M.1 80 a.toNat).toInt = psX M := by
  obtain ⟨c, ⟨h1, h2, h3, h4, h5⟩, h6, h7⟩ := b01_e h
  subst ha
  have := h3 ((M.1 78 2).toInt).toNat (by omega)
  exact ⟨this.1, rfl⟩
theorem tkx_i {f : Nat → Int} {n : Int} {M M' : mm_M} {a gi : Int} (e : M' = wI M 78 2 (sI (a + 1))) (h : b01 (TKX f n M) = 1) (ha : a = (M.1 78 2).toInt) (ht : ¬ tkF f n (psX M) = 3000 ∧ ¬ tkF f n (psX M) = 3001) (hg : ¬ (M.1 78 5).toInt = 0 ∨ psX M = gi ∧ 0 ≤ gi ∧ gi ≤ n) : b01 (TKX f n M') = 1 ∧ (M'.1 78 5).toInt = (M.1 78 5).toInt ∧ (M'.1 78 6).toInt = (M.1 78 6).toInt ∧ (¬ (M'.1 78 5).toInt = 0 ∨ psX M' = nxF f n gi ∧ (0 ≤ nxF f n gi ∧ nxF f n gi ≤ n) ∧ gi < nxF f n gi) := by
  have hb := tkx_b h
  obtain ⟨c, ⟨h1, h2, h3, h4, h5⟩, h6, h7⟩ := b01_e h
  have e79 : M'.1 79 = M.1 79 := wc_x e (by decide)
  have e80 : M'.1 80 = M.1 80 := wc_x e (by decide)
  have ea : (M'.1 78 2).toInt = a + 1 := s_wr e (by omega)
  have lt : ((M.1 78 2).toInt).toNat < c := by
    rcases Nat.lt_or_ge ((M.1 78 2).toInt).toNat c with q | q
    · exact q
    · exfalso
      have z : ((M.1 78 2).toInt).toNat = c := by omega
      have y : psX M = (M.1 80 c).toInt := by unfold psX; rw [z]
      rw [y] at ht
      rcases h5 with h5 | h5
      · exact ht.1 h5
      · exact ht.2 h5
  have nx := (h4 _ lt).2.2
  have ep : psX M' = nxF f n (psX M) := by
    show (M'.1 80 ((M'.1 78 2).toInt).toNat).toInt = _
    rw [e80, ea, ha, show ((M.1 78 2).toInt + 1).toNat = ((M.1 78 2).toInt).toNat + 1 by omega, nx]; rfl
  have e5 : (M'.1 78 5).toInt = (M.1 78 5).toInt := s_fb e (by decide) rfl
  have e6 : (M'.1 78 6).toInt = (M.1 78 6).toInt := s_fb e (by decide) rfl
  refine ⟨b01_i ⟨c, ?_, by omega, by omega⟩, e5, e6, ?_⟩
  · unfold TKS
    rw [e79, e80]
    exact ⟨h1, h2, h3, h4, h5⟩
  · rcases hg with hg | ⟨hg, hg1, hg2⟩
    · exact Or.inl (by omega)
    · right
      rw [ep, hg]
      have l := nxF_le f n gi ⟨hg1, tk_lt f n hg1 (by rw [← hg]; exact ht.2)⟩
      exact ⟨rfl, by omega, by omega⟩
theorem tkx_c {f : Nat → Int} {n : Int} {M M' : mm_M} (h79 : M'.1 79 = M.1 79) (h80 : M'.1 80 = M.1 80) (h2 : M'.1 78 2 = M.1 78 2) (h : b01 (TKX f n M) = 1) : b01 (TKX f n M') = 1 ∧ psX M' = psX M := by
  obtain ⟨c, h1, h3⟩ := b01_e h
  refine ⟨b01_i ⟨c, ?_, by rw [h2]; exact h3⟩, ?_⟩
  · unfold TKS; rw [h79, h80]; exact h1
  · unfold psX; rw [h80, h2]
theorem tkx_w {f : Nat → Int} {n : Int} {M M' : mm_M} {i k : Nat} {v : Int32} (e : M' = wI M i k v) (h1 : 79 ≠ i) (h2 : 80 ≠ i) (h3 : 78 ≠ i) (h : b01 (TKX f n M) = 1) : b01 (TKX f n M') = 1 ∧ psX M' = psX M ∧ (M'.1 78 5).toInt = (M.1 78 5).toInt ∧ (M'.1 78 6).toInt = (M.1 78 6).toInt := by
  have a := tkx_c (f := f) (n := n) (M := M) (M' := M') (by rw [e]; funext k; exact u2_a _ _ h1) (by rw [e]; funext k; exact u2_a _ _ h2) (by rw [e]; exact u2_a _ _ h3) h
  exact ⟨a.1, a.2, s_fa e h3 rfl, s_fa e h3 rfl⟩
theorem tkx_f {f : Nat → Int} {n : Int} {M M' : mm_M} {a : Int} (e : M' = wI M 78 5 (sI a)) (ha : -2147483648 ≤ a ∧ a ≤ 2147483647) (h : b01 (TKX f n M) = 1) : b01 (TKX f n M') = 1 ∧ psX M' = psX M ∧ (M'.1 78 5).toInt = a ∧ (M'.1 78 6).toInt = (M.1 78 6).toInt := by
  have b := tkx_c (f := f) (n := n) (M := M) (M' := M') (wc_x e (by decide)) (wc_x e (by decide)) (wp_x e (by decide)) h
  exact ⟨b.1, b.2, s_wr e ha, s_fb e (by decide) rfl⟩
theorem tkx_p {f : Nat → Int} {n : Int} {M M' : mm_M} {a : Int} (e : M' = wI M 78 6 (sI a)) (ha : -2147483648 ≤ a ∧ a ≤ 2147483647) (h : b01 (TKX f n M) = 1) : b01 (TKX f n M') = 1 ∧ psX M' = psX M ∧ (M'.1 78 5).toInt = (M.1 78 5).toInt ∧ (M'.1 78 6).toInt = a := by
  have b := tkx_c (f := f) (n := n) (M := M) (M' := M') (wc_x e (by decide)) (wc_x e (by decide)) (wp_x e (by decide)) h
  exact ⟨b.1, b.2, s_fb e (by decide) rfl, s_wr e ha⟩
theorem tkx_P {f : Nat → Int} {n : Int} {M M' : mm_M} {i k v : Nat} (e : M' = wP M i k v) (h : b01 (TKX f n M) = 1) : b01 (TKX f n M') = 1 ∧ psX M' = psX M ∧ (M'.1 78 5).toInt = (M.1 78 5).toInt ∧ (M'.1 78 6).toInt = (M.1 78 6).toInt := by
  have b := tkx_c (f := f) (n := n) (M := M) (M' := M') (by rw [e]) (by rw [e]) (by rw [e]) h
  exact ⟨b.1, b.2, by rw [e], by rw [e]⟩
theorem tkx_J {f : Nat → Int} {n : Int} {M M' : mm_M} {i k : Nat} {v : Int64} (e : M' = wJ M i k v) (h : b01 (TKX f n M) = 1) : b01 (TKX f n M') = 1 ∧ psX M' = psX M ∧ (M'.1 78 5).toInt = (M.1 78 5).toInt ∧ (M'.1 78 6).toInt = (M.1 78 6).toInt := by
  have b := tkx_c (f := f) (n := n) (M := M) (M' := M') (by rw [e]) (by rw [e]) (by rw [e]) h
  exact ⟨b.1, b.2, by rw [e], by rw [e]⟩
/-! kinds, buyers, lines read so far -/
def kiX (M : mm_M) : Int := (M.1 (M.2.2 78 4) 0).toInt
def byX (M : mm_M) : Int := (M.1 (M.2.2 78 3) 0).toInt
def lnX (M : mm_M) : Int := (M.1 (M.2.2 78 3) 1).toInt
def cnX (M M' : mm_M) : Prop := kiX M' = kiX M ∧ byX M' = byX M ∧ lnX M' = lnX M
theorem cn_f {pr : Nat → Nat → Bool} {Kz M M' : mm_M} (h : INV pr Kz M) (e : FR [78] M M') : kiX M' = kiX M ∧ byX M' = byX M ∧ lnX M' = lnX M := by
  have h3 := h.rm (i := 78) (c := 7) (k := 3) (t := 6) rfl rfl (by decide)
  have h4 := h.rm (i := 78) (c := 7) (k := 4) (t := 8) rfl rfl (by decide)
  unfold kiX byX lnX
  rw [e.2.1, e.1 (M.2.2 78 4) 0 (by intro z; simp at z; rw [z] at h4; exact absurd h4 (by decide)), e.1 (M.2.2 78 3) 0 (by intro z; simp at z; rw [z] at h3; exact absurd h3 (by decide)), e.1 (M.2.2 78 3) 1 (by intro z; simp at z; rw [z] at h3; exact absurd h3 (by decide))]
  exact ⟨rfl, rfl, rfl⟩
theorem cn_z {cs : List Nat} {pr : Nat → Nat → Bool} {Kz M M' : mm_M} (h6 : cs.contains 6 = true) (h7 : cs.contains 7 = true) (h8 : cs.contains 8 = true) (h : INV pr Kz M) (z : ∀ i k, cs.contains (s_c i) = true → px (s_c i) k = false → M'.1 i k = M.1 i k ∧ M'.2.2 i k = M.2.2 i k) : kiX M' = kiX M ∧ byX M' = byX M ∧ lnX M' = lnX M := by
  have h3 := h.rm (i := 78) (c := 7) (k := 3) (t := 6) rfl rfl (by decide)
  have h4 := h.rm (i := 78) (c := 7) (k := 4) (t := 8) rfl rfl (by decide)
  unfold kiX byX lnX
  rw [(z 78 3 h7 rfl).2, (z 78 4 h7 rfl).2, (z (M.2.2 78 4) 0 (by rw [h4]; exact h8) (by rw [h4]; rfl)).1, (z (M.2.2 78 3) 0 (by rw [h3]; exact h6) (by rw [h3]; rfl)).1, (z (M.2.2 78 3) 1 (by rw [h3]; exact h6) (by rw [h3]; rfl)).1]
  exact ⟨rfl, rfl, rfl⟩
/-- a write elsewhere -/
theorem cn_w {pr : Nat → Nat → Bool} {Kz M M' : mm_M} {i k c : Nat} {v : Int32} (h : INV pr Kz M) (hc : s_c i = c) (e : M' = wI M i k v) (hk : ¬ (c = 8 ∧ k = 0) ∧ ¬ (c = 6 ∧ k = 0) ∧ ¬ (c = 6 ∧ k = 1)) : kiX M' = kiX M ∧ byX M' = byX M ∧ lnX M' = lnX M := by
  have h3 := h.rm (i := 78) (c := 7) (k := 3) (t := 6) rfl rfl (by decide)
  have h4 := h.rm (i := 78) (c := 7) (k := 4) (t := 8) rfl rfl (by decide)
  have e2 : M'.2.2 = M.2.2 := by rw [e]
  have w : ∀ j n, ¬ (i = j ∧ k = n) → M'.1 j n = M.1 j n := fun j n q => by
    rw [e]
    by_cases q2 : j = i
    · exact u2_b _ _ (fun z => q ⟨q2.symm, z.symm⟩)
    · exact u2_a _ _ q2
  unfold kiX byX lnX
  rw [e2, w _ 0 (fun z => hk.1 ⟨by rw [← hc, z.1]; exact h4, z.2⟩), w _ 0 (fun z => hk.2.1 ⟨by rw [← hc, z.1]; exact h3, z.2⟩), w _ 1 (fun z => hk.2.2 ⟨by rw [← hc, z.1]; exact h3, z.2⟩)]
  exact ⟨rfl, rfl, rfl⟩
theorem cn_k {pr : Nat → Nat → Bool} {Kz M M' : mm_M} {i : Nat} {a : Int} (h : INV pr Kz M) (hi : i = M.2.2 78 4) (e : M' = wI M i 0 (sI a)) (ha : -2147483648 ≤ a ∧ a ≤ 2147483647) : kiX M' = a ∧ byX M' = byX M ∧ lnX M' = lnX M := by
  have h3 := h.rm (i := 78) (c := 7) (k := 3) (t := 6) rfl rfl (by decide)
  have h4 := h.rm (i := 78) (c := 7) (k := 4) (t := 8) rfl rfl (by decide)
  have e2 : M'.2.2 = M.2.2 := by rw [e]
  have ne : M.2.2 78 3 ≠ i := fun z => by rw [z, hi, h4] at h3; exact absurd h3 (by decide)
  unfold kiX byX lnX
  rw [e2, ← hi, s_wr e ha, e]
  exact ⟨rfl, congrArg Int32.toInt (u2_a _ _ ne), congrArg Int32.toInt (u2_a _ _ ne)⟩
theorem cn_b {pr : Nat → Nat → Bool} {Kz M M' : mm_M} {i : Nat} {a : Int} (h : INV pr Kz M) (hi : i = M.2.2 78 3) (e : M' = wI M i 0 (sI a)) (ha : -2147483648 ≤ a ∧ a ≤ 2147483647) : kiX M' = kiX M ∧ byX M' = a ∧ lnX M' = lnX M := by
  have h3 := h.rm (i := 78) (c := 7) (k := 3) (t := 6) rfl rfl (by decide)
  have h4 := h.rm (i := 78) (c := 7) (k := 4) (t := 8) rfl rfl (by decide)
  have e2 : M'.2.2 = M.2.2 := by rw [e]
  have ne : M.2.2 78 4 ≠ i := fun z => by rw [z, hi, h3] at h4; exact absurd h4 (by decide)
  unfold kiX byX lnX
  rw [e2, ← hi, s_wr e ha, e]
  exact ⟨congrArg Int32.toInt (u2_a _ _ ne), rfl, congrArg Int32.toInt (u2_b _ _ (by decide))⟩
theorem cn_l {pr : Nat → Nat → Bool} {Kz M M' : mm_M} {i : Nat} {a : Int} (h : INV pr Kz M) (hi : i = M.2.2 78 3) (e : M' = wI M i 1 (sI a)) (ha : -2147483648 ≤ a ∧ a ≤ 2147483647) : kiX M' = kiX M ∧ byX M' = byX M ∧ lnX M' = a := by
  have h3 := h.rm (i := 78) (c := 7) (k := 3) (t := 6) rfl rfl (by decide)
  have h4 := h.rm (i := 78) (c := 7) (k := 4) (t := 8) rfl rfl (by decide)
  have e2 : M'.2.2 = M.2.2 := by rw [e]
  have ne : M.2.2 78 4 ≠ i := fun z => by rw [z, hi, h3] at h4; exact absurd h4 (by decide)
  unfold kiX byX lnX
  rw [e2, ← hi, s_wr e ha, e]
  exact ⟨congrArg Int32.toInt (u2_a _ _ ne), congrArg Int32.toInt (u2_b _ _ (by decide)), rfl⟩
theorem cn_J {M M' : mm_M} {i k : Nat} {v : Int64} (e : M' = wJ M i k v) : kiX M' = kiX M ∧ byX M' = byX M ∧ lnX M' = lnX M := by rw [e]; exact ⟨rfl, rfl, rfl⟩
theorem ki_r {M : mm_M} {v : Nat} (h : v = M.2.2 78 4) : (M.1 v 0).toInt = kiX M := by rw [h]; rfl
theorem by_r {M : mm_M} {v : Nat} (h : v = M.2.2 78 3) : (M.1 v 0).toInt = byX M := by rw [h]; rfl
theorem ln_r {M : mm_M} {v : Nat} (h : v = M.2.2 78 3) : (M.1 v 1).toInt = lnX M := by rw [h]; rfl
/-- split[]: the tokens so far; s of them, i the next place, g whether the last is one -/
def SPX (f : Nat → Int) (n : Int) (M : mm_M) (s i g : Int) : Prop := (0 ≤ s ∧ s ≤ i ∧ i ≤ n ∧ n ≤ 900) ∧ (∀ j : Nat, (j : Int) < s → (M.1 79 j).toInt = tkF f n (M.1 80 j).toInt ∧ 0 ≤ (M.1 80 j).toInt ∧ (M.1 80 j).toInt < n) ∧ (∀ j : Nat, (j : Int) + 1 < s → ¬ tkF f n (M.1 80 j).toInt = 3000 ∧ (M.1 80 (j + 1)).toInt = nxF f n (M.1 80 j).toInt) ∧ (1 ≤ s → (M.1 80 0).toInt = runE blB f n 0) ∧ ((s = 0 ∧ ¬ g = 0 ∧ runE blB f n 0 = runE blB f n i) ∨ (1 ≤ s ∧ nxF f n (M.1 80 (s - 1).toNat).toInt = runE blB f n i ∧ ((¬ g = 0 ∧ ¬ tkF f n (M.1 80 (s - 1).toNat).toInt = 3000) ∨ (g = 0 ∧ tkF f n (M.1 80 (s - 1).toNat).toInt = 3000))))
def TKZ (f : Nat → Int) (n : Int) (M : mm_M) : Prop := (∃ c : Nat, TKS f n M c) ∧ (M.1 80 0).toInt = runE blB f n 0
/-- the first n of a row of bytes -/
def mskT (c : Nat → Int32) (n : Int) : Nat → Int := fun k => if (k : Int) < n then (c k).toInt else 0
def TPX (f : Nat → Int) (n : Int) (M : mm_M) : Prop := ∀ k : Nat, (k : Int) < n → f k = (M.1 1 k).toInt
theorem tp_r {f : Nat → Int} {n : Int} {M : mm_M} {a : Int} (h : b01 (TPX f n M) = 1) (ha : 0 ≤ a ∧ a < n) : f a.toNat = (M.1 1 a.toNat).toInt := b01_e h _ (by omega)
theorem tp_0 (M : mm_M) (n : Int) : b01 (TPX (mskT (M.1 1) n) n M) = 1 := b01_i (fun k hk => by unfold mskT; rw [if_pos hk])
theorem tp_c {f : Nat → Int} {n : Int} {M M' : mm_M} (e : M'.1 1 = M.1 1) (h : b01 (TPX f n M) = 1) : b01 (TPX f n M') = 1 := b01_i (fun k hk => by rw [e]; exact b01_e h k hk)
theorem tp_m {f : Nat → Int} {n m : Int} {M : mm_M} (hm : m ≤ n) (h : b01 (TPX f n M) = 1) : b01 (TPX f m M) = 1 := b01_i (fun k hk => b01_e h k (by omega))
theorem sp_g {f : Nat → Int} {n : Int} {M : mm_M} {s i g : Int} (h : b01 (SPX f n M s i g) = 1) (hg : ¬ g = 0) : b01 (SPX f n M s i 1) = 1 := b01_i (by
  obtain ⟨h1, h2, h3, h4, h5⟩ := b01_e h
  refine ⟨h1, h2, h3, h4, ?_⟩
  rcases h5 with ⟨a, b, c⟩ | ⟨a, b, c | c⟩
  · exact Or.inl ⟨a, by decide, c⟩
  · exact Or.inr ⟨a, b, Or.inl ⟨by decide, c.2⟩⟩
  · exact absurd c.1 hg)
theorem sp_0 (f : Nat → Int) (n : Int) (M : mm_M) (h : 0 ≤ n ∧ n ≤ 900) : b01 (SPX f n M 0 0 1) = 1 := b01_i ⟨by omega, fun j hj => by omega, fun j hj => by omega, fun hj => by omega, Or.inl ⟨rfl, by decide, rfl⟩⟩
/-- a blank -/
theorem sp_b {f : Nat → Int} {n : Int} {M : mm_M} {s i g : Int} (h : b01 (SPX f n M s i g) = 1) (hi : 0 ≤ i ∧ i < n) (hb : f i.toNat = 10 ∨ f i.toNat = 32) (hg : ¬ g = 0) : b01 (SPX f n M s (i + 1) g) = 1 := b01_i (by
  obtain ⟨h1, h2, h3, h4, h5⟩ := b01_e h
  have r := run_bl f n i hi
  refine ⟨by omega, h2, h3, h4, ?_⟩
  rcases h5 with ⟨a, b, c⟩ | ⟨a, b, c⟩
  · exact Or.inl ⟨a, b, by omega⟩
  · exact Or.inr ⟨a, by omega, c⟩)
/-- a token -/
theorem sp_t {f : Nat → Int} {n : Int} {M M1 M2 : mm_M} {s i t : Int} (h : b01 (SPX f n M s i 1) = 1) (hi : 0 ≤ i ∧ i < n) (hb : ¬ f i.toNat = 10 ∧ ¬ f i.toNat = 32) (e1 : M1 = wI M 80 s.toNat (sI i)) (e2 : M2 = wI M1 79 s.toNat (sI t)) (ht : t = tmF f n i) (g : Int) (hg : (¬ g = 0 ∧ ¬ t = 3000) ∨ (g = 0 ∧ t = 3000)) (hr : -2147483648 ≤ t ∧ t ≤ 2147483647) : b01 (SPX f n M2 (s + 1) (teF f n i) g) = 1 := b01_i (by
  obtain ⟨h1, h2, h3, h4, h5⟩ := b01_e h
  have hl := teF_le f n i hi
  have r := run_bl f n i hi
  have tk : tkF f n i = t := by have := tkF_lt f n i; omega
  have p80 : ∀ j : Nat, j ≠ s.toNat → M2.1 80 j = M.1 80 j := fun j hj => by
    rw [wc_x e2 (show (80 : Nat) ≠ 79 by decide)]; exact wp_x e1 hj
  have p79 : ∀ j : Nat, j ≠ s.toNat → M2.1 79 j = M.1 79 j := fun j hj => by
    rw [wp_x e2 hj, wc_x e1 (show (79 : Nat) ≠ 80 by decide)]
  have q80 : (M2.1 80 s.toNat).toInt = i := by
    rw [wc_x e2 (show (80 : Nat) ≠ 79 by decide)]; exact s_wr e1 (by omega)
  have q79 : (M2.1 79 s.toNat).toInt = t := s_wr e2 hr
  have last : (s + 1 - 1).toNat = s.toNat := by omega
  have start : runE blB f n i = i := by omega
  refine ⟨by omega, fun j hj => ?_, fun j hj => ?_, fun _ => ?_, Or.inr ⟨by omega, ?_, ?_⟩⟩
  · by_cases z : j = s.toNat
    · rw [z, q79, q80, tk]; exact ⟨rfl, hi⟩
    · rw [p79 j z, p80 j z]; exact h2 j (by omega)
  · by_cases z : j + 1 = s.toNat
    · rw [p80 j (by omega), z, q80]
      rcases h5 with ⟨a, _⟩ | ⟨a, b, c⟩
      · omega
      · have y : (s - 1).toNat = j := by omega
        rw [y] at b c
        rcases c with c | c
        · exact ⟨c.2, by omega⟩
        · omega
    · rw [p80 j (by omega), p80 (j + 1) z]; exact h3 j (by omega)
  · by_cases z : s.toNat = 0
    · rw [← z, q80]
      rcases h5 with ⟨a, _, c⟩ | ⟨a, _, _⟩
      · omega
      · omega
    · rw [p80 0 (by omega)]; exact h4 (by omega)
  · rw [last, q80]; rfl
  · rw [last, q80, tk]
    rcases hg with hg | hg
    · exact Or.inl hg
    · exact Or.inr hg)
/-- the end -/
theorem sp_e {f : Nat → Int} {n : Int} {M M1 M2 : mm_M} {s i g : Int} (h : b01 (SPX f n M s i g) = 1) (hx : n ≤ i ∨ g = 0) (e1 : M1 = wI M 80 s.toNat (sI n)) (e2 : M2 = wI M1 79 s.toNat (sI 3001)) : b01 (TKZ f n M2) = 1 := b01_i (by
  obtain ⟨h1, h2, h3, h4, h5⟩ := b01_e h
  have p80 : ∀ j : Nat, j ≠ s.toNat → M2.1 80 j = M.1 80 j := fun j hj => by
    rw [wc_x e2 (show (80 : Nat) ≠ 79 by decide)]; exact wp_x e1 hj
  have p79 : ∀ j : Nat, j ≠ s.toNat → M2.1 79 j = M.1 79 j := fun j hj => by
    rw [wp_x e2 hj, wc_x e1 (show (79 : Nat) ≠ 80 by decide)]
  have q80 : (M2.1 80 s.toNat).toInt = n := by
    rw [wc_x e2 (show (80 : Nat) ≠ 79 by decide)]; exact s_wr e1 (by omega)
  have q79 : (M2.1 79 s.toNat).toInt = 3001 := s_wr e2 (by decide)
  have tn : tkF f n n = 3001 := by have := tkF_lt f n n; omega
  have good : ¬ g = 0 → (∃ c : Nat, TKS f n M2 c) ∧ (M2.1 80 0).toInt = runE blB f n 0 := fun hg => by
    have hn : n ≤ i := by omega
    have rn : runE blB f n i = n := by rw [runE_n blB f n i (by omega)]; omega
    refine ⟨⟨s.toNat, by omega, by omega, fun j hj => ?_, fun j hj => ?_, ?_⟩, ?_⟩
    · by_cases z : j = s.toNat
      · rw [z, q79, q80, tn]; exact ⟨rfl, by omega, by omega⟩
      · rw [p79 j z, p80 j z]; have := h2 j (by omega); exact ⟨this.1, by omega, by omega⟩
    · rw [p80 j (by omega)]
      have tv := h2 j (by omega)
      have lt := tkF_lt f n (M.1 80 j).toInt
      by_cases z : j + 1 = s.toNat
      · rcases h5 with ⟨a, _⟩ | ⟨a, b, c⟩
        · omega
        · have y : (s - 1).toNat = j := by omega
          rw [y] at b c
          have nb : ¬ tkF f n (M.1 80 j).toInt = 3001 := by have := tkF_v f n (M.1 80 j).toInt tv.2.1; omega
          rw [z, q80]
          rcases c with c | c
          · exact ⟨c.2, nb, by omega⟩
          · omega
      · have := h3 j (by omega)
        have nb : ¬ tkF f n (M.1 80 j).toInt = 3001 := by have := tkF_v f n (M.1 80 j).toInt tv.2.1; omega
        rw [p80 (j + 1) z]; exact ⟨this.1, nb, this.2⟩
    · rw [q80, tn]; exact Or.inr rfl
    · by_cases z : s.toNat = 0
      · rw [← z, q80]
        rcases h5 with ⟨_, _, c⟩ | ⟨a, _, _⟩
        · omega
        · omega
      · rw [p80 0 (by omega)]; exact h4 (by omega)
  by_cases hg : g = 0
  · rcases h5 with ⟨_, a, _⟩ | ⟨a, b, c⟩
    · exact absurd hg a
    · have c3 : tkF f n (M.1 80 (s - 1).toNat).toInt = 3000 := by
        rcases c with c | c
        · exact absurd hg c.1
        · exact c.2
      refine ⟨⟨(s - 1).toNat, by omega, by omega, fun j hj => ?_, fun j hj => ?_, ?_⟩, ?_⟩
      · rw [p79 j (by omega), p80 j (by omega)]; have := h2 j (by omega); exact ⟨this.1, by omega, by omega⟩
      · rw [p80 j (by omega), p80 (j + 1) (by omega)]
        have tv := h2 j (by omega)
        have nb : ¬ tkF f n (M.1 80 j).toInt = 3001 := by have := tkF_v f n (M.1 80 j).toInt tv.2.1; omega
        have := h3 j (by omega); exact ⟨this.1, nb, this.2⟩
      · rw [p80 _ (by omega)]; exact Or.inl c3
      · rw [p80 0 (by omega)]; exact h4 a
  · exact good hg)
theorem tz_x {f : Nat → Int} {n : Int} {M M1 M2 M3 : mm_M} (h : b01 (TKZ f n M) = 1) (e1 : M1 = wI M 78 2 (sI 0)) (e2 : M2 = wI M1 78 5 (sI 0)) (e3 : M3 = wI M2 78 6 (sI (-1))) : b01 (TKX f n M3) = 1 ∧ psX M3 = runE blB f n 0 ∧ (M3.1 78 5).toInt = 0 ∧ (M3.1 78 6).toInt = -1 := by
  obtain ⟨⟨c, hc⟩, h0⟩ := b01_e h
  have c79 : M3.1 79 = M.1 79 := (wc_x e3 (by decide)).trans ((wc_x e2 (by decide)).trans (wc_x e1 (by decide)))
  have c80 : M3.1 80 = M.1 80 := (wc_x e3 (by decide)).trans ((wc_x e2 (by decide)).trans (wc_x e1 (by decide)))
  have a2 : (M3.1 78 2).toInt = 0 := by
    rw [show (M3.1 78 2).toInt = (M2.1 78 2).toInt from s_fb e3 (by decide) rfl, show (M2.1 78 2).toInt = (M1.1 78 2).toInt from s_fb e2 (by decide) rfl, s_wr e1 (by decide)]
  have a5 : (M3.1 78 5).toInt = 0 := by rw [show (M3.1 78 5).toInt = (M2.1 78 5).toInt from s_fb e3 (by decide) rfl, s_wr e2 (by decide)]
  refine ⟨b01_i ⟨c, ?_, by omega, by omega⟩, ?_, a5, s_wr e3 (by decide)⟩
  · unfold TKS; rw [c79, c80]; exact hc
  · unfold psX; rw [a2, c80]; exact h0
end
section
/-! THE CLASS'S MARKS: the rows of its loops -/
theorem run_e (p : Int → Bool) (f : Nat → Int) (n i : Int) : i < 0 ∨ i < n ∨ runE p f n i = i := by
  by_cases h : 0 ≤ i ∧ n ≤ i
  · exact Or.inr (Or.inr (runE_n p f n i h))
  · omega
def DGX (f : Nat → Int) (a b : Int) : Prop := ∀ j : Int, a ≤ j → j < b → 48 ≤ f j.toNat ∧ f j.toNat ≤ 57
def SMX (f : Nat → Int) (a b : Int) : Prop := ∀ j : Int, a ≤ j → j < b → 97 ≤ f j.toNat ∧ f j.toNat ≤ 122
theorem dg_r {f : Nat → Int} {a b j : Int} (h : b01 (DGX f a b) = 1) (hj : a ≤ j ∧ j < b) : 48 ≤ f j.toNat ∧ f j.toNat ≤ 57 := b01_e h j hj.1 hj.2
theorem dg_t {f : Nat → Int} {n i : Int} (h : 0 ≤ i ∧ i < n) (hd : 48 ≤ f i.toNat ∧ f i.toNat ≤ 57) : b01 (DGX f i (teF f n i)) = 1 := b01_i fun j h1 h2 => by
  have e : teF f n i = runE dgB f n (i + 1) := by have := teF_s f n i; omega
  by_cases z : j = i
  · rw [z]; exact hd
  · have := runE_in dgB f n (i + 1) j (by omega)
    simpa only [dgB, decide_eq_true_eq] using this
theorem sm_t {f : Nat → Int} {n i : Int} (h : 0 ≤ i ∧ i < n) (hd : 97 ≤ f i.toNat ∧ f i.toNat ≤ 122) : b01 (SMX f i (teF f n i)) = 1 := b01_i fun j h1 h2 => by
  have e : teF f n i = runE smB f n (i + 1) := by have := teF_s f n i; omega
  by_cases z : j = i
  · rw [z]; exact hd
  · have := runE_in smB f n (i + 1) j (by omega)
    simpa only [smB, decide_eq_true_eq] using this
theorem val_s (f : Nat → Int) (i j : Int) (h : i ≤ j) : valF f i (j + 1 - i).toNat = 10 * valF f i (j - i).toNat + f j.toNat - 48 := by
  rw [show (j + 1 - i).toNat = (j - i).toNat + 1 by omega, valF, show i + (((j - i).toNat : Nat) : Int) = j by omega]
/-- WORDS: seven to a word -/
def wch (w s : Nat) : Int := ((js_byt 1).getD (7 * w + s) 0).toInt
theorem wch_k : ∀ w, w < 17 → (kwF w).length < 7 ∧ (∀ s, s < (kwF w).length → wch w s = (kwF w).getD s 0 ∧ ¬ wch w s = 32) ∧ wch w (kwF w).length = 32 := by decide +kernel
def SMW (f : Nat → Int) (i : Int) (w : Nat) (m : Int) : Prop := ∀ s : Nat, (s : Int) < m → f (i + (s : Int)).toNat = wch w s
theorem sw_0 (f : Nat → Int) (i : Int) (w : Nat) : b01 (SMW f i w 0) = 1 := b01_i fun s hs => by omega
theorem sw_s {f : Nat → Int} {i w m : Int} (hw : 0 ≤ w ∧ 0 ≤ m) (h : b01 (SMW f i w.toNat m) = 1) (e : f (i + m).toNat = ((js_byt 1).getD (w * 7 + m).toNat 0).toInt) : b01 (SMW f i w.toNat (m + 1)) = 1 := b01_i fun s hs => by
  by_cases z : (s : Int) = m
  · rw [z, e]; unfold wch; rw [show (w * 7 + m).toNat = 7 * w.toNat + s by omega]
  · exact b01_e h s (by omega)
theorem wq_y {f : Nat → Int} {i w m : Int} (hw : 0 ≤ w ∧ w < 17 ∧ 0 ≤ m ∧ m < 7) (hs : b01 (SMX f i (i + m)) = 1) (h : b01 (SMW f i w.toNat m) = 1) (e : ((js_byt 1).getD (w * 7 + m).toNat 0).toInt = 32) : wmQ f i m w.toNat := by
  obtain ⟨k1, k2, k3⟩ := wch_k w.toNat (by omega)
  have hsm := b01_e hs
  have hh := b01_e h
  have e2 : wch w.toNat m.toNat = 32 := by unfold wch; rw [show 7 * w.toNat + m.toNat = (w * 7 + m).toNat by omega]; exact e
  have ml : m = ((kwF w.toNat).length : Int) := by
    rcases Int.lt_trichotomy m ((kwF w.toNat).length : Int) with q | q | q
    · exact absurd e2 (k2 m.toNat (by omega)).2
    · exact q
    · have a := hh (kwF w.toNat).length q
      have b := hsm (i + ((kwF w.toNat).length : Int)) (by omega) (by omega)
      rw [k3] at a
      omega
  exact ⟨ml, fun s hs => by rw [hh s (by omega)]; exact (k2 s hs).1⟩
theorem wq_n {f : Nat → Int} {i w m c : Int} (hw : 0 ≤ w ∧ w < 17 ∧ 0 ≤ c) (hx : c = m ∧ ¬ ((js_byt 1).getD (w * 7 + c).toNat 0).toInt = 32 ∨ c < m ∧ ¬ f (i + c).toNat = ((js_byt 1).getD (w * 7 + c).toNat 0).toInt) : ¬ wmQ f i m w.toNat := fun q => by
  obtain ⟨k1, k2, k3⟩ := wch_k w.toNat (by omega)
  obtain ⟨q1, q2⟩ := q
  have e : ((js_byt 1).getD (w * 7 + c).toNat 0).toInt = wch w.toNat c.toNat := by unfold wch; rw [show 7 * w.toNat + c.toNat = (w * 7 + c).toNat by omega]
  rcases hx with ⟨a, b⟩ | ⟨a, b⟩
  · rw [e, show c.toNat = (kwF w.toNat).length by omega, k3] at b; exact b rfl
  · have := q2 c.toNat (by omega)
    rw [show i + ((c.toNat : Nat) : Int) = i + c by omega, ← (k2 c.toNat (by omega)).1, ← e] at this
    exact b this
theorem tw_1 {f : Nat → Int} {i m w : Int} (hw : 0 ≤ w ∧ w < 17) (hq : wmQ f i m w.toNat) : wdG f i m (17 - w).toNat w.toNat = 1000 + w := by
  rw [show (17 - w).toNat = (17 - (w + 1)).toNat + 1 by omega, wdG_y hq]; omega
theorem tw_2 {f : Nat → Int} {i m w : Int} (hw : 0 ≤ w ∧ w < 17) (hq : ¬ wmQ f i m w.toNat) : wdG f i m (17 - w).toNat w.toNat = wdG f i m (17 - (w + 1)).toNat (w + 1).toNat := by
  rw [show (17 - w).toNat = (17 - (w + 1)).toNat + 1 by omega, wdG_n hq, show (w + 1).toNat = w.toNat + 1 by omega]
theorem tw_3 (f : Nat → Int) (i m w : Int) (hw : 0 ≤ w ∧ w ≤ 17 ∧ (17 ≤ w ∨ 7 ≤ m)) : wdG f i m (17 - w).toNat w.toNat = 1017 := by
  by_cases h : 17 ≤ w
  · rw [show (17 - w).toNat = 0 by omega]; rfl
  · exact wdG_out (fun v hv q => by have := (wch_k v hv).1; have := q.1; omega) _ _ (by omega)
theorem tw_0 (f : Nat → Int) (i m : Int) : wdG f i m (17 - (0 : Int)).toNat (0 : Int).toNat = twF f i m := rfl
/-! SIGNS -/
theorem i8_n : ∀ c : Nat, c < 256 → i8F (c : Int) = if c < 128 then (c : Int) else (c : Int) - 256 := by decide +kernel
theorem i8_s {c : Int} (h : 0 ≤ c ∧ c ≤ 255) : (c < 128 ∧ i8F c = c) ∨ (128 ≤ c ∧ i8F c = c - 256) := by
  have := i8_n c.toNat (by omega)
  rw [show ((c.toNat : Nat) : Int) = c by omega] at this
  split at this <;> omega
theorem sg_all : ∀ j, j < 12 → (fun c : Int => c = 59 ∨ c = 58 ∨ c = 43 ∨ c = 45 ∨ c = 42 ∨ c = 40 ∨ c = 41 ∨ c = 91 ∨ c = 93 ∨ c = 61 ∨ c = 60 ∨ c = 62) ((js_byt 0).getD j 0).toInt := by decide +kernel
theorem sg_v : (((js_byt 0).getD 0 0).toInt = 59 ∧ ((js_byt 0).getD 1 0).toInt = 58 ∧ ((js_byt 0).getD 2 0).toInt = 43 ∧ ((js_byt 0).getD 3 0).toInt = 45 ∧ ((js_byt 0).getD 4 0).toInt = 42 ∧ ((js_byt 0).getD 5 0).toInt = 40) ∧ (((js_byt 0).getD 6 0).toInt = 41 ∧ ((js_byt 0).getD 7 0).toInt = 91 ∧ ((js_byt 0).getD 8 0).toInt = 93 ∧ ((js_byt 0).getD 9 0).toInt = 61 ∧ ((js_byt 0).getD 10 0).toInt = 60 ∧ ((js_byt 0).getD 11 0).toInt = 62) := by decide +kernel
def NOS (c m : Int) : Prop := ∀ j : Nat, (j : Int) < m → ¬ ((js_byt 0).getD j 0).toInt = c
theorem ns_0 (c : Int) : b01 (NOS c 0) = 1 := b01_i fun j hj => by omega
theorem ns_s {c m : Int} (h : b01 (NOS c m) = 1) (hm : 0 ≤ m) (e : ¬ ((js_byt 0).getD m.toNat 0).toInt = c) : b01 (NOS c (m + 1)) = 1 := b01_i fun j hj => by
  by_cases z : (j : Int) = m
  · rw [show j = m.toNat by omega]; exact e
  · exact b01_e h j (by omega)
theorem sg_y {c x : Int} (h : 0 ≤ c ∧ c ≤ 255) (hx : 0 ≤ x ∧ x < 12) (e : ((js_byt 0).getD x.toNat 0).toInt = i8F c) : b01 (sgQ c) = 1 := b01_i (by
  have a := i8_s h
  have b := sg_all x.toNat (by omega)
  simp only [] at b
  unfold sgQ
  omega)
theorem sg_n {c : Int} (h : 0 ≤ c ∧ c ≤ 255) (hn : b01 (NOS (i8F c) 12) = 1) : b01 (sgQ c) = 0 := by
  have a := i8_s h
  have q := b01_e hn
  obtain ⟨⟨v0, v1, v2, v3, v4, v5⟩, v6, v7, v8, v9, v10, v11⟩ := sg_v
  have q0 := q 0 (by decide); have q1 := q 1 (by decide); have q2 := q 2 (by decide); have q3 := q 3 (by decide); have q4 := q 4 (by decide); have q5 := q 5 (by decide); have q6 := q 6 (by decide); have q7 := q 7 (by decide); have q8 := q 8 (by decide); have q9 := q 9 (by decide); have q10 := q 10 (by decide); have q11 := q 11 (by decide)
  have ns : ¬ sgQ c := by unfold sgQ; omega
  unfold b01
  rw [if_neg ns]
theorem sg_b (c : Int) : (sgQ c ∧ b01 (sgQ c) = 1) ∨ (¬ sgQ c ∧ b01 (sgQ c) = 0) := by
  by_cases h : sgQ c
  · exact Or.inl ⟨h, b01_i h⟩
  · refine Or.inr ⟨h, ?_⟩
    unfold b01; rw [if_neg h]
/-- the meaning of what is no letter and no digit -/
theorem tm_g (f : Nat → Int) (n i : Int) : (97 ≤ f i.toNat ∧ f i.toNat ≤ 122) ∨ (48 ≤ f i.toNat ∧ f i.toNat ≤ 57) ∨ (b01 (sgQ (f i.toNat)) = 1 ∧ tmF f n i = 2000 + f i.toNat) ∨ (b01 (sgQ (f i.toNat)) = 0 ∧ tmF f n i = 3000) := by
  rcases tmF_s f n i with ⟨a, b, _⟩ | ⟨a, b, _⟩ | ⟨_, _, ⟨a, b⟩ | ⟨a, b⟩⟩
  · exact Or.inl ⟨a, b⟩
  · exact Or.inr (Or.inl ⟨a, b⟩)
  · exact Or.inr (Or.inr (Or.inl ⟨b01_i a, b⟩))
  · refine Or.inr (Or.inr (Or.inr ⟨?_, b⟩))
    unfold b01; rw [if_neg a]
theorem sg_c (x y : Int) : ¬ x = y ∨ b01 (sgQ x) = b01 (sgQ y) := by
  by_cases h : x = y
  · exact Or.inr (by rw [h])
  · exact Or.inl h
end
section
/-! WHAT IS FED: the bytes of five ints -/
def byU (x s : Int) : Int := andI (ushrI x s) 255
def byS (x s : Int) : Int := andI (shrI x s) 255
theorem and255 (x : BitVec 32) : (x &&& 255#32).toNat = x.toNat % 256 := by
  rw [BitVec.toNat_and]
  show x.toNat &&& (2 ^ 8 - 1) = x.toNat % 2 ^ 8
  exact Nat.and_two_pow_sub_one_eq_mod _ _
theorem sh_eq (x : BitVec 32) (k : Nat) (hk : k = 0 ∨ k = 8 ∨ k = 16 ∨ k = 24) : (x >>> k) &&& 255#32 = (x.sshiftRight k) &&& 255#32 := by
  apply BitVec.eq_of_toNat_eq
  rw [and255, and255, BitVec.toNat_ushiftRight, BitVec.toNat_sshiftRight]
  have hx := x.isLt
  rcases hk with rfl | rfl | rfl | rfl <;> simp only [Nat.shiftRight_eq_div_pow] <;> split <;> omega
theorem by_eq {x s : Int} (h : s = 0 ∨ s = 8 ∨ s = 16 ∨ s = 24) : byU x s = byS x s := by
  unfold byU byS andI ushrI shrI
  rw [sI_o, sI_o]
  congr 1
  apply Int32.toBitVec_inj.mp
  rcases h with rfl | rfl | rfl | rfl
  · exact sh_eq (sI x).toBitVec 0 (by decide)
  · exact sh_eq (sI x).toBitVec 8 (by decide)
  · exact sh_eq (sI x).toBitVec 16 (by decide)
  · exact sh_eq (sI x).toBitVec 24 (by decide)
/-- the class's tape from t0 on has the bytes of x; N's own size says how many -/
def PBX (M N : mm_M) (x : Int) : Prop := ∀ k : Nat, ((M.1 0 1).toInt ≤ k ∧ (k : Int) < (N.1 0 1).toInt → (N.1 1 k).toInt = byU x (24 - 8 * ((k : Int) - (M.1 0 1).toInt))) ∧ (¬ ((M.1 0 1).toInt ≤ k ∧ (k : Int) < (N.1 0 1).toInt) → N.1 1 k = M.1 1 k)
theorem pbx0 (M : mm_M) (x : Int) : b01 (PBX M M x) = 1 := b01_i fun k => ⟨fun h => by omega, fun _ => rfl⟩
theorem pbxs {M0 M M1 M2 : mm_M} {x t v s : Int} (h : b01 (PBX M0 M x) = 1) (e1 : M1 = wI M 1 t.toNat (sI v)) (e2 : M2 = wI M1 0 1 (sI (t + 1))) (ht : t = (M.1 0 1).toInt ∧ (M0.1 0 1).toInt ≤ t ∧ 0 ≤ t ∧ t ≤ 900) (hv : v = byU x s ∧ -2147483648 ≤ v ∧ v ≤ 2147483647) (hs : s = 24 - 8 * (t - (M0.1 0 1).toInt)) : b01 (PBX M0 M2 x) = 1 := b01_i fun k => by
  have hh := b01_e h k
  have a : (M2.1 0 1).toInt = t + 1 := s_wr e2 (by omega)
  have b : M2.1 1 k = M1.1 1 k := congrFun (wc_x e2 (by decide)) k
  rw [a, b]
  by_cases z : (k : Int) = t
  · refine ⟨fun _ => ?_, fun q => absurd ⟨by omega, by omega⟩ q⟩
    have c : (M1.1 1 t.toNat).toInt = v := s_wr e1 hv.2
    rw [show k = t.toNat by omega, c, hv.1, hs, show (((t.toNat : Nat) : Int)) = t by omega]
  · have c : M1.1 1 k = M.1 1 k := wp_x e1 (by omega)
    rw [c]
    refine ⟨fun q => hh.1 (by omega), fun q => hh.2 (by omega)⟩
/-- the q-th of five -/
def ar5 (a b c d e : Int) (q : Int) : Int := if q = 0 then a else if q = 1 then b else if q = 2 then c else if q = 3 then d else e
def FDX (M N : mm_M) (a b c d e : Int) : Prop := ∀ k : Nat, ((M.1 0 1).toInt ≤ k ∧ (k : Int) < (N.1 0 1).toInt → (N.1 1 k).toInt = byU (ar5 a b c d e (((k : Int) - (M.1 0 1).toInt) / 4)) (24 - 8 * (((k : Int) - (M.1 0 1).toInt) % 4))) ∧ (¬ ((M.1 0 1).toInt ≤ k ∧ (k : Int) < (N.1 0 1).toInt) → N.1 1 k = M.1 1 k)
theorem fdx0 (M : mm_M) (a b c d e : Int) : b01 (FDX M M a b c d e) = 1 := b01_i fun k => ⟨fun h => by omega, fun _ => rfl⟩
theorem fdx5 {M M1 M2 M3 M4 M5 : mm_M} {a b c d e : Int} (h1 : b01 (PBX M M1 a) = 1) (h2 : b01 (PBX M1 M2 b) = 1) (h3 : b01 (PBX M2 M3 c) = 1) (h4 : b01 (PBX M3 M4 d) = 1) (h5 : b01 (PBX M4 M5 e) = 1) (q : (M1.1 0 1).toInt = (M.1 0 1).toInt + 4 ∧ (M2.1 0 1).toInt = (M1.1 0 1).toInt + 4 ∧ (M3.1 0 1).toInt = (M2.1 0 1).toInt + 4 ∧ (M4.1 0 1).toInt = (M3.1 0 1).toInt + 4 ∧ (M5.1 0 1).toInt = (M4.1 0 1).toInt + 4) : b01 (FDX M M5 a b c d e) = 1 := b01_i fun k => by
  obtain ⟨q1, q2, q3, q4, q5⟩ := q
  have p1 := b01_e h1 k; have p2 := b01_e h2 k; have p3 := b01_e h3 k; have p4 := b01_e h4 k; have p5 := b01_e h5 k
  generalize hT : (M.1 0 1).toInt = T at *
  generalize (M1.1 0 1).toInt = T1 at *
  generalize (M2.1 0 1).toInt = T2 at *
  generalize (M3.1 0 1).toInt = T3 at *
  generalize (M4.1 0 1).toInt = T4 at *
  generalize (M5.1 0 1).toInt = T5 at *
  refine ⟨fun h => ?_, fun h => ?_⟩
  · rcases (show ((k : Int) - T) / 4 = 0 ∨ ((k : Int) - T) / 4 = 1 ∨ ((k : Int) - T) / 4 = 2 ∨ ((k : Int) - T) / 4 = 3 ∨ ((k : Int) - T) / 4 = 4 by omega) with z | z | z | z | z
    · rw [p5.2 (by omega), p4.2 (by omega), p3.2 (by omega), p2.2 (by omega), p1.1 (by omega), z, show ((k : Int) - T) % 4 = (k : Int) - T by omega]; rfl
    · rw [p5.2 (by omega), p4.2 (by omega), p3.2 (by omega), p2.1 (by omega), z, show ((k : Int) - T) % 4 = (k : Int) - T1 by omega]; rfl
    · rw [p5.2 (by omega), p4.2 (by omega), p3.1 (by omega), z, show ((k : Int) - T) % 4 = (k : Int) - T2 by omega]; rfl
    · rw [p5.2 (by omega), p4.1 (by omega), z, show ((k : Int) - T) % 4 = (k : Int) - T3 by omega]; rfl
    · rw [p5.1 (by omega), z, show ((k : Int) - T) % 4 = (k : Int) - T4 by omega]; rfl
  · rw [p5.2 (by omega), p4.2 (by omega), p3.2 (by omega), p2.2 (by omega), p1.2 (by omega)]
/-- the reference's -/
def FDM (M N : mm_M) (a b c d e : Int) : Prop := ∀ k : Nat, ((M.1 98 5).toInt ≤ k ∧ (k : Int) < (N.1 98 5).toInt → (N.1 101 k).toInt = byS (ar5 a b c d e (((k : Int) - (M.1 98 5).toInt) / 4)) (24 - 8 * (((k : Int) - (M.1 98 5).toInt) % 4))) ∧ (¬ ((M.1 98 5).toInt ≤ k ∧ (k : Int) < (N.1 98 5).toInt) → N.1 101 k = M.1 101 k)
theorem fdm0 {M N : mm_M} (a b c d e : Int) (h1 : N.1 101 = M.1 101) (h5 : (N.1 98 5).toInt = (M.1 98 5).toInt) : b01 (FDM M N a b c d e) = 1 := b01_i fun k => ⟨fun h => by omega, fun _ => by rw [h1]⟩
theorem fdms {M0 M M1 M2 : mm_M} {a b c d e t v w q : Int} (h : b01 (FDM M0 M a b c d e) = 1) (e1 : M1 = wI M 101 t.toNat (sI v)) (e2 : M2 = wI M1 98 5 (sI (t + 1))) (ht : t = (M.1 98 5).toInt ∧ t = (M0.1 98 5).toInt + q ∧ 0 ≤ q ∧ 0 ≤ t ∧ t ≤ 900) (hv : v = byS w (24 - 8 * (q % 4)) ∧ -2147483648 ≤ v ∧ v ≤ 2147483647) (hw : w = ar5 a b c d e (q / 4)) : b01 (FDM M0 M2 a b c d e) = 1 := b01_i fun k => by
  have hh := b01_e h k
  have x : (M2.1 98 5).toInt = t + 1 := s_wr e2 (by omega)
  have y : M2.1 101 k = M1.1 101 k := congrFun (wc_x e2 (by decide)) k
  rw [x, y]
  by_cases z : (k : Int) = t
  · refine ⟨fun _ => ?_, fun q => absurd ⟨by omega, by omega⟩ q⟩
    have u : (M1.1 101 t.toNat).toInt = v := s_wr e1 hv.2
    rw [show k = t.toNat by omega, u, hv.1, hw, show (((t.toNat : Nat) : Int)) - (M0.1 98 5).toInt = q by omega]
  · have u : M1.1 101 k = M.1 101 k := wp_x e1 (by omega)
    rw [u]
    refine ⟨fun q => hh.1 (by omega), fun q => hh.2 (by omega)⟩
theorem ar_s (a b c d e q : Int) : (q = 0 ∧ ar5 a b c d e q = a) ∨ (q = 1 ∧ ar5 a b c d e q = b) ∨ (q = 2 ∧ ar5 a b c d e q = c) ∨ (q = 3 ∧ ar5 a b c d e q = d) ∨ (¬ q = 0 ∧ ¬ q = 1 ∧ ¬ q = 2 ∧ ¬ q = 3 ∧ ar5 a b c d e q = e) := by
  unfold ar5
  by_cases h0 : q = 0
  · rw [if_pos h0]; exact Or.inl ⟨h0, rfl⟩
  rw [if_neg h0]
  by_cases h1 : q = 1
  · rw [if_pos h1]; exact Or.inr (Or.inl ⟨h1, rfl⟩)
  rw [if_neg h1]
  by_cases h2 : q = 2
  · rw [if_pos h2]; exact Or.inr (Or.inr (Or.inl ⟨h2, rfl⟩))
  rw [if_neg h2]
  by_cases h3 : q = 3
  · rw [if_pos h3]; exact Or.inr (Or.inr (Or.inr (Or.inl ⟨h3, rfl⟩)))
  rw [if_neg h3]
  exact Or.inr (Or.inr (Or.inr (Or.inr ⟨h0, h1, h2, h3, rfl⟩)))
/-- the tapes are the same, as far as they go -/
def T4 (M : mm_M) : Prop := ∀ k : Nat, (k : Int) < (M.1 0 1).toInt → (M.1 1 k).toInt = (M.1 101 k).toInt
theorem t4_f {M M1 M2 : mm_M} {a b c d e : Int} (h : T4 M) (ht : (M.1 0 1).toInt = (M.1 98 5).toInt) (hx : b01 (FDX M M1 a b c d e) = 1) (hm : b01 (FDM M1 M2 a b c d e) = 1) (g1 : ∀ k, M1.1 101 k = M.1 101 k) (g2 : (M1.1 98 5).toInt = (M.1 98 5).toInt) (g3 : ∀ k, M2.1 1 k = M1.1 1 k) (g4 : (M2.1 0 1).toInt = (M1.1 0 1).toInt) (g5 : (M2.1 98 5).toInt = (M2.1 0 1).toInt) : T4 M2 := fun k hk => by
  have x := b01_e hx k
  have m := b01_e hm k
  rw [g3]
  rw [g4] at g5 hk
  by_cases z : (M.1 0 1).toInt ≤ (k : Int)
  · rw [x.1 ⟨z, hk⟩, m.1 ⟨by omega, by omega⟩, g2, ← ht]
    exact by_eq (by omega)
  · rw [x.2 (by omega), m.2 (by omega), g1]
    exact h k (by omega)
theorem t4_m {M : mm_M} {n : Int} (h : T4 M) (hn : n ≤ (M.1 0 1).toInt) : mskT (M.1 1) n = mskT (M.1 101) n := by
  funext k
  unfold mskT
  by_cases q : (k : Int) < n
  · rw [if_pos q, if_pos q]; exact h k (by omega)
  · rw [if_neg q, if_neg q]
theorem sub_o (b : Int) : b < -2147483617 ∨ 2147483618 < b ∨ subI (-30) b = -30 - b := by
  by_cases h : -2147483648 ≤ -30 - b ∧ -30 - b ≤ 2147483647
  · right; right; unfold subI; rw [sI_sub, sI_t h]
  · omega
theorem rd_c {M M1 : mm_M} (h : T4 M) (g : ∀ k, M1.1 101 k = M.1 101 k) (n : Int) : (M.1 0 1).toInt < n ∨ ((rdP (mskT (M.1 1) n) n).1 = (rdP (mskT (M1.1 101) n) n).1 ∧ (rdP (mskT (M.1 1) n) n).2.1 = (rdP (mskT (M1.1 101) n) n).2.1 ∧ (rdP (mskT (M.1 1) n) n).2.2 = (rdP (mskT (M1.1 101) n) n).2.2) := by
  by_cases q : n ≤ (M.1 0 1).toInt
  · right
    rw [t4_m h q, show M1.1 101 = M.1 101 from funext g]
    exact ⟨rfl, rfl, rfl⟩
  · left; omega
end
section
/-! RESULTS, EACH ONE WORD: a the fault, b its place, p the place; a state is a b p -/
def PO (n i a p : Int) : Prop := ¬ a = 0 ∨ (p = i ∧ 0 ≤ i ∧ i ≤ n)
def RR (T : Int × Int × Int) (a b a' b' p' : Int) : Prop := (¬ a = 0 ∧ a' = a ∧ b' = b) ∨ (a = 0 ∧ a' = T.1 ∧ ((¬ a' = 0 ∧ b' = T.2.1) ∨ (a' = 0 ∧ p' = T.2.2 ∧ b' = b)))
def LL (F : Int → Int × Int × Int) (n s i c a b a' b' p' : Int) : Prop := (¬ a = 0 ∧ a' = a ∧ b' = b) ∨ (a = 0 ∧ a' = 0 ∧ b' = b ∧ ((F s).1 = (F i).1 ∧ (F s).2.1 = (F i).2.1 ∧ (F s).2.2 = (F i).2.2) ∧ p' = i ∧ 0 ≤ i ∧ i ≤ n ∧ c ≤ i) ∨ (a = 0 ∧ ¬ a' = 0 ∧ a' = (F s).1 ∧ b' = (F s).2.1)
theorem po_0 {n i a p : Int} (h : b01 (PO n i a p) = 1) (h0 : a = 0) : p = i ∧ 0 ≤ i ∧ i ≤ n := (b01_e h).resolve_left (fun z => z h0)
theorem po_f (n i a p : Int) (h : ¬ a = 0) : b01 (PO n i a p) = 1 := b01_i (Or.inl h)
theorem po_eq (n i a p a' p' : Int) (h : b01 (PO n i a p) = 1) (ha : a' = a) (hp : p' = p) : b01 (PO n i a' p') = 1 := by rw [ha, hp]; exact h
theorem po_nx (f : Nat → Int) (n i a p a' p' : Int) (h : b01 (PO n i a p) = 1) (ht : ¬ tkF f n i = 3001) (ha : a' = a) (hp : p' = nxF f n i) : b01 (PO n (nxF f n i) a' p') = 1 := b01_i (by
  by_cases z : a = 0
  · have q := po_0 h z
    have l := nx_b f n q.2.1 (tk_lt f n q.2.1 ht)
    exact Or.inr ⟨hp, by omega, l.2⟩
  · exact Or.inl (by omega))
theorem rr_no (T : Int × Int × Int) (a b a' b' p' : Int) (h : ¬ a = 0) (ha : a' = a) (hb : b' = b) : b01 (RR T a b a' b' p') = 1 := b01_i (Or.inl ⟨h, ha, hb⟩)
theorem rr_y (T : Int × Int × Int) (a b a' b' p' : Int) (h : a = 0) (ha : a' = a) (hb : b' = b) (h1 : T.1 = 0) (h2 : p' = T.2.2) : b01 (RR T a b a' b' p') = 1 := b01_i (Or.inr ⟨h, by omega, Or.inr ⟨by omega, h2, hb⟩⟩)
theorem rr_n (T : Int × Int × Int) (a b a' b' p' : Int) (h : a = 0) (hn : ¬ a' = 0) (ha : a' = T.1) (hb : b' = T.2.1) : b01 (RR T a b a' b' p') = 1 := b01_i (Or.inr ⟨h, ha, Or.inl ⟨hn, hb⟩⟩)
theorem rr_eq (T : Int × Int × Int) (a b a1 b1 p1 a' b' p' : Int) (h : b01 (RR T a b a1 b1 p1) = 1) (ha : a' = a1) (hb : b' = b1) (hp : p' = p1) : b01 (RR T a b a' b' p') = 1 := by rw [ha, hb, hp]; exact h
theorem rr_fr (T : Int × Int × Int) (a b a1 b1 a' b' p' : Int) (h : b01 (RR T a1 b1 a' b' p') = 1) (ha : a1 = a) (hb : b1 = b) : b01 (RR T a b a' b' p') = 1 := by rw [← ha, ← hb]; exact h
theorem rr_k (T : Int × Int × Int) (a b a' b' p' : Int) (h : b01 (RR T a b a' b' p') = 1) (ha : ¬ a = 0) : a' = a ∧ b' = b := by
  rcases b01_e h with q | q
  · exact q.2
  · exact absurd q.1 ha
/-- fault and place alone -/
theorem rr_u (T U : Int × Int × Int) (a b a' b' p' : Int) (h : b01 (RR T a b a' b' p') = 1) (e : a = 0 → U = T) : b01 (RR U a b a' b' p') = 1 := b01_i (by
  rcases b01_e h with q | q
  · exact Or.inl q
  · rw [e q.1]; exact Or.inr q)
theorem rr_sq (A : Int × Int × Int) (G : Int → Int × Int × Int) (a b a1 b1 p1 a' b' p' : Int) (h1 : b01 (RR A a b a1 b1 p1) = 1) (h2 : b01 (RR (G A.2.2) a1 b1 a' b' p') = 1) : b01 (RR (sqP A G) a b a' b' p') = 1 := b01_i (by
  have s := sqP_s A G
  rcases b01_e h1 with q | ⟨q1, q2, q3⟩
  · obtain ⟨r1, r2⟩ := rr_k _ _ _ _ _ _ h2 (by omega)
    exact Or.inl ⟨q.1, by omega, by omega⟩
  · rcases q3 with q3 | q3
    · obtain ⟨r1, r2⟩ := rr_k _ _ _ _ _ _ h2 q3.1
      refine Or.inr ⟨q1, ?_, Or.inl ⟨by omega, ?_⟩⟩
      · rcases s with s | s
        · omega
        · omega
      · rcases s with s | s
        · omega
        · omega
    · rcases s with s | s
      · rcases b01_e h2 with r | ⟨r1, r2, r3⟩
        · omega
        · refine Or.inr ⟨q1, by omega, ?_⟩
          rcases r3 with r3 | r3
          · exact Or.inl ⟨r3.1, by omega⟩
          · exact Or.inr ⟨r3.1, by omega, by omega⟩
      · omega)
theorem po_rh (F : Int → Int × Int × Int) (n i a b p a' b' p' : Int) (hG : PH n F) (hp : b01 (PO n i a p) = 1) (hr : b01 (RR (F i) a b a' b' p') = 1) : b01 (PO n (F i).2.2 a' p') = 1 := b01_i (by
  by_cases z : a' = 0
  · rcases b01_e hr with q | ⟨q1, q2, q3⟩
    · omega
    · have q := po_0 hp q1
      have g := hG i q.2.1 (by omega) q.2.2
      exact Or.inr ⟨by omega, by omega, g.2⟩
  · exact Or.inl z)
theorem po_rr (F : Int → Int × Int × Int) (n i a b p a' b' p' : Int) (hG : PG n F) (hp : b01 (PO n i a p) = 1) (hr : b01 (RR (F i) a b a' b' p') = 1) : b01 (PO n (F i).2.2 a' p') = 1 := po_rh F n i a b p a' b' p' (PG.h n hG) hp hr
/-! loops -/
theorem ll_0 (F : Int → Int × Int × Int) (n i a b p : Int) (hp : b01 (PO n i a p) = 1) : b01 (LL F n i i 0 a b a b p) = 1 := b01_i (by
  by_cases z : a = 0
  · have q := po_0 hp z
    exact Or.inr (Or.inl ⟨z, z, rfl, ⟨rfl, rfl, rfl⟩, q.1, q.2.1, q.2.2, q.2.1⟩)
  · exact Or.inl ⟨z, rfl, rfl⟩)
theorem ll_k (F : Int → Int × Int × Int) (n s i c a b a1 b1 p1 a' b' p' : Int) (h : b01 (LL F n s i c a b a1 b1 p1) = 1) (ha : a' = a1) (hb : b' = b1) (hp : p' = p1) : b01 (LL F n s i c a b a' b' p') = 1 := by rw [ha, hb, hp]; exact h
section PQ3
variable (f : Nat → Int) (n : Int)
theorem ll_s (t u : Int) (G : Int → Int × Int × Int) (s i c a b a1 b1 p1 a2 b2 a3 b3 p3 a' b' p' : Int) (hab : ¬ t = 3001 ∧ ¬ u = 3001) (hG : PG n G) (h : b01 (LL (luP f n t u G) n s i c a b a1 b1 p1) = 1) (h0 : a1 = 0) (ht : tkF f n p1 = t ∨ tkF f n p1 = u) (ha2 : a2 = a1) (hb2 : b2 = b1) (hr : b01 (RR (G (nxF f n i)) a2 b2 a3 b3 p3) = 1) (ha : a' = a3) (hb : b' = b3) (hp : p' = p3) : b01 (LL (luP f n t u G) n s (G (nxF f n i)).2.2 (c + 1) a b a' b' p') = 1 := b01_i (by
  subst ha hb hp
  rcases b01_e h with q | ⟨q1, q2, q3, q4, q5, q6, q7, q8⟩ | q
  · omega
  · subst q5
    have L := luP_s f n hab hG p1 ⟨q6, q7⟩
    have lt := tk_lt f n (i := p1) q6 (by omega)
    have nb := nx_b f n q6 lt
    rcases b01_e hr with r | ⟨r1, r2, r3⟩
    · omega
    · rcases r3 with r3 | r3
      · refine Or.inr (Or.inr ⟨q1, r3.1, ?_, ?_⟩)
        · rcases L with L | L | L
          · omega
          · omega
          · omega
        · rcases L with L | L | L
          · omega
          · omega
          · omega
      · have g := hG (nxF f n p1) (by omega) (by omega) nb.2
        refine Or.inr (Or.inl ⟨q1, r3.1, by omega, ?_, r3.2.1, by omega, g.2, by omega⟩)
        rcases L with L | L | L
        · omega
        · omega
        · omega
  · omega)
theorem ll_e (t u : Int) (G : Int → Int × Int × Int) (s i c a b a' b' p' : Int) (hab : ¬ t = 3001 ∧ ¬ u = 3001) (hG : PG n G) (h : b01 (LL (luP f n t u G) n s i c a b a' b' p') = 1) (hx : ¬ a' = 0 ∨ n ≤ c ∨ (¬ tkF f n p' = t ∧ ¬ tkF f n p' = u)) : b01 (RR (luP f n t u G s) a b a' b' p') = 1 := b01_i (by
  rcases b01_e h with q | ⟨q1, q2, q3, q4, q5, q6, q7, q8⟩ | q
  · exact Or.inl q
  · subst q5
    have L := luP_s f n hab hG p' ⟨q6, q7⟩
    have T := tkF_v f n p' q6
    have e : (luP f n t u G p').1 = 0 ∧ (luP f n t u G p').2.2 = p' := by
      rcases L with L | L | L
      · exfalso; omega
      · exfalso; omega
      · exact ⟨L.2.2.1, L.2.2.2⟩
    exact Or.inr ⟨q1, by omega, Or.inr ⟨q2, by omega, q3⟩⟩
  · exact Or.inr ⟨q.1, q.2.2.1, Or.inl ⟨q.2.1, q.2.2.2⟩⟩)
/-! steps -/
noncomputable def faQ (k i : Int) : Int × Int × Int := faP f n i k
theorem rr_fa (k i a b a' b' p' : Int) (h : a = 0) (ha : a' = flP f n i k) (hb : b' = i) (hk : 1 ≤ a') : b01 (RR (faQ f n k i) a b a' b' p') = 1 := rr_n _ _ _ _ _ _ h (by omega) ha hb
/-- a token is taken: what the function is there -/
theorem rr_tk (T : Int × Int × Int) (i a b p a' b' p' : Int) (hp : b01 (PO n i a p) = 1) (h0 : a = 0) (ha : a' = a) (hb : b' = b) (hx : b01 (PO n (nxF f n i) a' p') = 1) (e : p = i → T.1 = 0 ∧ T.2.2 = nxF f n i) : b01 (RR T a b a' b' p') = 1 :=
  have q := po_0 hp h0
  have r := po_0 hx (by omega)
  have w := e q.1
  rr_y T a b a' b' p' h0 ha hb w.1 (by omega)
/-- what the function is there -/
theorem rr_at (T U : Int × Int × Int) (i a b p a' b' p' : Int) (hp : b01 (PO n i a p) = 1) (h : b01 (RR T a b a' b' p') = 1) (e : p = i → U = T) : b01 (RR U a b a' b' p') = 1 :=
  rr_u T U a b a' b' p' h (fun z => e (po_0 hp z).1)
theorem ex_1 (t i a b p a' b' p' : Int) (hp : b01 (PO n i a p) = 1) (h0 : a = 0) (ht : tkF f n p = t) (ha : a' = a) (hb : b' = b) (hx : b01 (PO n (nxF f n i) a' p') = 1) : b01 (RR (exP f n t i) a b a' b' p') = 1 :=
  rr_tk f n _ i a b p a' b' p' hp h0 ha hb hx (fun z => by subst z; unfold exP; rw [if_pos ht]; exact ⟨rfl, rfl⟩)
theorem ex_2 (t i a b p a' b' p' : Int) (hp : b01 (PO n i a p) = 1) (ht : ¬ tkF f n p = t) (h : b01 (RR (faQ f n 2 i) a b a' b' p') = 1) : b01 (RR (exP f n t i) a b a' b' p') = 1 :=
  rr_at n _ _ i a b p a' b' p' hp h (fun z => by subst z; unfold exP; rw [if_neg ht]; rfl)
theorem nu_1 (lo hi i a b p a' b' p' : Int) (hp : b01 (PO n i a p) = 1) (h0 : a = 0) (ht : lo ≤ tkF f n p ∧ tkF f n p ≤ hi ∧ tkF f n p < 1000) (ha : a' = a) (hb : b' = b) (hx : b01 (PO n (nxF f n i) a' p') = 1) : b01 (RR (nuP f n lo hi i) a b a' b' p') = 1 :=
  rr_tk f n _ i a b p a' b' p' hp h0 ha hb hx (fun z => by subst z; unfold nuP; rw [if_neg (by omega), if_neg (by omega)]; exact ⟨rfl, rfl⟩)
theorem nu_2 (lo hi i a b p a' b' p' : Int) (hp : b01 (PO n i a p) = 1) (ht : 1000 ≤ tkF f n p) (h : b01 (RR (faQ f n 2 i) a b a' b' p') = 1) : b01 (RR (nuP f n lo hi i) a b a' b' p') = 1 :=
  rr_at n _ _ i a b p a' b' p' hp h (fun z => by subst z; unfold nuP; rw [if_pos ht]; rfl)
theorem nu_3 (lo hi i a b p a' b' p' : Int) (hp : b01 (PO n i a p) = 1) (ht : tkF f n p < 1000 ∧ (tkF f n p < lo ∨ hi < tkF f n p)) (h : b01 (RR (faQ f n 3 i) a b a' b' p') = 1) : b01 (RR (nuP f n lo hi i) a b a' b' p') = 1 :=
  rr_at n _ _ i a b p a' b' p' hp h (fun z => by subst z; unfold nuP; rw [if_neg (by omega), if_pos ht.2]; rfl)
/-! atoms -/
theorem at_1 (d : Bool) (sub : Int → Int × Int × Int) (i a b p a' b' p' : Int) (hp : b01 (PO n i a p) = 1) (h0 : a = 0) (ht : tkF f n p < 1008) (ha : a' = a) (hb : b' = b) (hx : b01 (PO n (nxF f n i) a' p') = 1) : b01 (RR (atP f n d sub i) a b a' b' p') = 1 :=
  rr_tk f n _ i a b p a' b' p' hp h0 ha hb hx (fun z => by
    subst z
    rcases atP_s f n d sub p with q | q | q | q
    · exact q.2
    · omega
    · omega
    · omega)
theorem at_2 (sub : Int → Int × Int × Int) (i a b p a1 b1 a2 b2 p2 a' b' p' : Int) (hp : b01 (PO n i a p) = 1) (ht : tkF f n p = 2040) (ha : a1 = a) (hb : b1 = b) (h1 : b01 (RR (sub (nxF f n i)) a1 b1 a2 b2 p2) = 1) (h2 : b01 (RR (exP f n 2041 (sub (nxF f n i)).2.2) a2 b2 a' b' p') = 1) : b01 (RR (atP f n false sub i) a b a' b' p') = 1 :=
  rr_at n _ _ i a b p a' b' p' hp (rr_sq _ _ a b a2 b2 p2 a' b' p' (rr_fr _ a b a1 b1 a2 b2 p2 h1 ha hb) h2) (fun z => by
    subst z
    rcases atP_s f n false sub p with q | q | q | q
    · omega
    · exact absurd q.2.1 (by decide)
    · exact q.2.2
    · omega)
theorem at_3 (sub : Int → Int × Int × Int) (i a b p a' b' p' : Int) (hp : b01 (PO n i a p) = 1) (h0 : a = 0) (ht : tkF f n p = 2040) (ha : a' = 4) (hb : b' = i) : b01 (RR (atP f n true sub i) a b a' b' p') = 1 :=
  have q := po_0 hp h0
  rr_n _ a b a' b' p' h0 (by omega) (by
    obtain rfl := q.1
    rcases atP_s f n true sub p with q | q | q | q
    · omega
    · rw [q.2.2.1]; exact ha
    · exact absurd q.2.1 (by decide)
    · omega) (by
    obtain rfl := q.1
    rcases atP_s f n true sub p with q | q | q | q
    · omega
    · rw [q.2.2.2]; exact hb
    · exact absurd q.2.1 (by decide)
    · omega)
theorem at_4 (d : Bool) (sub : Int → Int × Int × Int) (i a b p a' b' p' : Int) (hp : b01 (PO n i a p) = 1) (ht : 1008 ≤ tkF f n p ∧ ¬ tkF f n p = 2040) (h : b01 (RR (faQ f n 2 i) a b a' b' p') = 1) : b01 (RR (atP f n d sub i) a b a' b' p') = 1 :=
  rr_at n _ _ i a b p a' b' p' hp h (fun z => by subst z; unfold atP; rw [if_neg (by omega), if_neg ht.2]; rfl)
/-! units -/
theorem un_1 (r r2 : Nat) (hr : r2 = r + 1) (i a b p a1 b1 a2 b2 p2 a' b' p' : Int) (hp : b01 (PO n i a p) = 1) (ht : tkF f n p = 1016) (ha : a1 = a) (hb : b1 = b) (h1 : b01 (RR (unR f n r (nxF f n i)) a1 b1 a2 b2 p2) = 1) (hea : a' = a2) (heb : b' = b2) (hep : p' = p2) : b01 (RR (unR f n r2 i) a b a' b' p') = 1 :=
  rr_eq _ a b a2 b2 p2 a' b' p' (rr_at n _ _ i a b p a2 b2 p2 hp (rr_fr _ a b a1 b1 a2 b2 p2 h1 ha hb) (fun z => by
    subst z hr
    show unP f n false (suR f n (r + 1)) (unR f n r) (trP f n (unR f n r)) p = _
    unfold unP
    rw [if_pos ht, if_neg (by decide)])) hea heb hep
theorem un_2 (r r2 : Nat) (hr : r2 = r + 1) (i a b p a1 b1 a2 b2 p2 a' b' p' : Int) (hp : b01 (PO n i a p) = 1) (ht : tkF f n p = 2091) (ha : a1 = a) (hb : b1 = b) (h1 : b01 (RR (trP f n (unR f n r) (nxF f n i)) a1 b1 a2 b2 p2) = 1) (h2 : b01 (RR (exP f n 2093 (trP f n (unR f n r) (nxF f n i)).2.2) a2 b2 a' b' p') = 1) : b01 (RR (unR f n r2 i) a b a' b' p') = 1 :=
  rr_at n _ _ i a b p a' b' p' hp (rr_sq _ _ a b a2 b2 p2 a' b' p' (rr_fr _ a b a1 b1 a2 b2 p2 h1 ha hb) h2) (fun z => by
    subst z hr
    show unP f n false (suR f n (r + 1)) (unR f n r) (trP f n (unR f n r)) p = _
    unfold unP
    rw [if_neg (by omega), if_pos ht, if_neg (by decide)])
theorem un_3 (i a b p a' b' p' : Int) (hp : b01 (PO n i a p) = 1) (h0 : a = 0) (ht : tkF f n p = 1016 ∨ tkF f n p = 2091) (ha : a' = 4) (hb : b' = i) : b01 (RR (unR f n 0 i) a b a' b' p') = 1 :=
  have q := po_0 hp h0
  have e : (unR f n 0 i).1 = 4 ∧ (unR f n 0 i).2.1 = i := by
    obtain rfl := q.1
    rcases un_s0 f n p with q | q | q
    · exact q.2
    · omega
    · omega
  rr_n _ a b a' b' p' h0 (by omega) (by rw [e.1]; exact ha) (by rw [e.2]; exact hb)
theorem un_c (r : Nat) (i : Int) (h1 : ¬ tkF f n i = 1016) (h2 : ¬ tkF f n i = 2091) : unR f n r i = sqP (suR f n r i) (cmP f n (suR f n r)) := by
  cases r with
  | zero =>
    show unP f n true (suR f n 0) (fun i => (0, 0, i)) (fun i => (0, 0, i)) i = _
    rcases unP_s f n true (suR f n 0) (fun i => (0, 0, i)) (fun i => (0, 0, i)) i with q | q | q | q | q
    · omega
    · omega
    · omega
    · omega
    · exact q.2.2
  | succ r =>
    show unP f n false (suR f n (r + 1)) (unR f n r) (trP f n (unR f n r)) i = _
    rcases unP_s f n false (suR f n (r + 1)) (unR f n r) (trP f n (unR f n r)) i with q | q | q | q | q
    · omega
    · omega
    · omega
    · omega
    · exact q.2.2
/-- two sums and a sign between -/
theorem un_4 (r : Nat) (i a b p a1 b1 p1 a2 b2 a3 b3 p3 a' b' p' : Int) (hp : b01 (PO n i a p) = 1) (ht : ¬ tkF f n p = 1016 ∧ ¬ tkF f n p = 2091) (h1 : b01 (RR (suR f n r i) a b a1 b1 p1) = 1) (hq : b01 (PO n (suR f n r i).2.2 a1 p1) = 1) (hs : tkF f n p1 = 2061 ∨ tkF f n p1 = 2060 ∨ tkF f n p1 = 2062) (ha : a2 = a1) (hb : b2 = b1) (h2 : b01 (RR (suR f n r (nxF f n (suR f n r i).2.2)) a2 b2 a3 b3 p3) = 1) (hea : a' = a3) (heb : b' = b3) (hep : p' = p3) : b01 (RR (unR f n r i) a b a' b' p') = 1 :=
  rr_at n _ _ i a b p a' b' p' hp (rr_sq (suR f n r i) (cmP f n (suR f n r)) a b a1 b1 p1 a' b' p' h1 (rr_at n _ _ _ a1 b1 p1 a' b' p' hq (rr_eq _ a1 b1 a3 b3 p3 a' b' p' (rr_fr _ a1 b1 a2 b2 a3 b3 p3 h2 ha hb) hea heb hep) (fun z => by rw [z] at hs; unfold cmP; rw [if_pos hs]))) (fun z => by subst z; exact un_c f n r p ht.1 ht.2)
theorem un_5 (r : Nat) (i a b p a1 b1 p1 a' b' p' : Int) (hp : b01 (PO n i a p) = 1) (ht : ¬ tkF f n p = 1016 ∧ ¬ tkF f n p = 2091) (h1 : b01 (RR (suR f n r i) a b a1 b1 p1) = 1) (hq : b01 (PO n (suR f n r i).2.2 a1 p1) = 1) (hs : a1 = 0 → ¬ tkF f n p1 = 2061 ∧ ¬ tkF f n p1 = 2060 ∧ ¬ tkF f n p1 = 2062) (h2 : b01 (RR (faQ f n 2 (suR f n r i).2.2) a1 b1 a' b' p') = 1) : b01 (RR (unR f n r i) a b a' b' p') = 1 :=
  rr_at n _ _ i a b p a' b' p' hp (rr_sq (suR f n r i) (cmP f n (suR f n r)) a b a1 b1 p1 a' b' p' h1 (rr_u _ _ a1 b1 a' b' p' h2 (fun z0 => by have z := (po_0 hq z0).1; have hs := hs z0; rw [z] at hs; unfold cmP; rw [if_neg (by omega)]; rfl))) (fun z => by subst z; exact un_c f n r p ht.1 ht.2)
end PQ3
/-! loops of flags: m whether it goes on -/
def LK (F : Int → Int × Int × Int) (n s i c m a b a' b' p' : Int) : Prop := (¬ a = 0 ∧ a' = a ∧ b' = b) ∨ (a = 0 ∧ a' = 0 ∧ b' = b ∧ ((F s).1 = (F i).1 ∧ (F s).2.1 = (F i).2.1 ∧ (F s).2.2 = (F i).2.2) ∧ p' = i ∧ 0 ≤ i ∧ i ≤ n ∧ c ≤ i ∧ m = 1) ∨ (a = 0 ∧ a' = 0 ∧ b' = b ∧ (F s).1 = 0 ∧ (F s).2.2 = i ∧ p' = i ∧ 0 ≤ i ∧ i ≤ n ∧ m = 0) ∨ (a = 0 ∧ ¬ a' = 0 ∧ a' = (F s).1 ∧ b' = (F s).2.1)
def LQ (n : Int) (F G : Int → Int × Int × Int) (q : Int → Prop) : Prop := (∀ i, 0 ≤ i → i ≤ n → (q i ∧ ¬ (G i).1 = 0 ∧ (F i).1 = (G i).1 ∧ (F i).2.1 = (G i).2.1) ∨ (q i ∧ (G i).1 = 0 ∧ (F i).1 = (F (G i).2.2).1 ∧ (F i).2.1 = (F (G i).2.2).2.1 ∧ (F i).2.2 = (F (G i).2.2).2.2 ∧ i < (G i).2.2 ∧ (G i).2.2 ≤ n) ∨ (¬ q i ∧ (F i).1 = 0 ∧ (F i).2.2 = i ∧ (G i).1 = 0 ∧ (G i).2.2 = i)) ∧ ¬ q n
theorem b01_n {P : Prop} (h : ¬ P) : b01 P = 0 := by simp [b01, h]
theorem lk_0 (F : Int → Int × Int × Int) (n i a b p : Int) (hp : b01 (PO n i a p) = 1) : b01 (LK F n i i 0 1 a b a b p) = 1 := b01_i (by
  by_cases z : a = 0
  · have q := po_0 hp z
    exact Or.inr (Or.inl ⟨z, z, rfl, ⟨rfl, rfl, rfl⟩, q.1, q.2.1, q.2.2, q.2.1, rfl⟩)
  · exact Or.inl ⟨z, rfl, rfl⟩)
theorem lk_k (F : Int → Int × Int × Int) (n s i c m a b a1 b1 p1 a' b' p' : Int) (h : b01 (LK F n s i c m a b a1 b1 p1) = 1) (ha : a' = a1) (hb : b' = b1) (hp : p' = p1) : b01 (LK F n s i c m a b a' b' p') = 1 := by rw [ha, hb, hp]; exact h
theorem lk_s (n : Int) (F G : Int → Int × Int × Int) (q : Int → Prop) (hq : LQ n F G q) (s i c m a b a1 b1 p1 a2 b2 p2 a' b' p' m' : Int) (h : b01 (LK F n s i c m a b a1 b1 p1) = 1) (h0 : a1 = 0) (hm : ¬ m = 0) (hr : b01 (RR (G i) a1 b1 a2 b2 p2) = 1) (hm' : m' = b01 (q i)) (ha : a' = a2) (hb : b' = b2) (hp : p' = p2) : b01 (LK F n s (G i).2.2 (c + 1) m' a b a' b' p') = 1 := b01_i (by
  subst ha hb hp
  rcases b01_e h with r | ⟨q1, q2, q3, q4, q5, q6, q7, q8, q9⟩ | r | r
  · omega
  · rcases b01_e hr with r | ⟨r1, r2, r3⟩
    · omega
    · rcases hq.1 i q6 q7 with w | w | w
      · exact Or.inr (Or.inr (Or.inr ⟨q1, by omega, by omega, by omega⟩))
      · have e : m' = 1 := by rw [hm']; exact b01_i w.1
        exact Or.inr (Or.inl ⟨q1, by omega, by omega, by omega, by omega, by omega, by omega, by omega, e⟩)
      · have e : m' = 0 := by rw [hm']; exact b01_n w.1
        exact Or.inr (Or.inr (Or.inl ⟨q1, by omega, by omega, by omega, by omega, by omega, by omega, by omega, e⟩))
  · omega
  · omega)
theorem lk_e (n : Int) (F G : Int → Int × Int × Int) (q : Int → Prop) (hq : LQ n F G q) (s i c m a b a' b' p' : Int) (h : b01 (LK F n s i c m a b a' b' p') = 1) (hx : ¬ a' = 0 ∨ m = 0 ∨ n ≤ c) : b01 (RR (F s) a b a' b' p') = 1 := b01_i (by
  rcases b01_e h with r | ⟨q1, q2, q3, q4, q5, q6, q7, q8, q9⟩ | r | r
  · exact Or.inl r
  · have e : i = n := by omega
    subst e
    rcases hq.1 i q6 q7 with w | w | w
    · exact absurd w.1 hq.2
    · exact absurd w.1 hq.2
    · exact Or.inr ⟨q1, by omega, Or.inr ⟨q2, by omega, q3⟩⟩
  · exact Or.inr ⟨r.1, by omega, Or.inr ⟨r.2.1, by omega, r.2.2.1⟩⟩
  · exact Or.inr ⟨r.1, r.2.2.1, Or.inl ⟨r.2.1, r.2.2.2⟩⟩)
section PQ4
variable (f : Nat → Int) (n : Int)
def fgQ (i : Int) : Prop := tkF f n i = 1005 ∨ tkF f n i = 1007 ∨ tkF f n i = 1012
def mkQ (i : Int) : Prop := tkF f n i = 1002 ∨ tkF f n i = 1013
theorem tk_n : tkF f n n = 3001 := by have := tkF_lt f n n; omega
theorem fg_q : LQ n (fgP f n) (tfP f n) (fgQ f n) := ⟨fun i h0 h1 => by
  rcases fg_o f n i with q | q | q | q | q
  · omega
  · omega
  · exact Or.inl q
  · exact Or.inr (Or.inl q)
  · exact Or.inr (Or.inr ⟨fun z => by unfold fgQ at z; omega, q.2.2.2⟩), fun z => by unfold fgQ at z; have := tk_n f n; omega⟩
theorem mk_q : LQ n (luP f n 1002 1013 (nuP f n 0 9)) (mkP f n) (mkQ f n) := ⟨fun i h0 h1 => by
  rcases ma_o f n i with q | q | q | q | q
  · omega
  · omega
  · exact Or.inl q
  · exact Or.inr (Or.inl q)
  · exact Or.inr (Or.inr ⟨fun z => by unfold mkQ at z; omega, q.2.2⟩), fun z => by unfold mkQ at z; have := tk_n f n; omega⟩
theorem tf_r1 (i a p : Int) (hp : b01 (PO n i a p) = 1) (h0 : a = 0) (ht : tkF f n p = 1005 ∨ tkF f n p = 1007 ∨ tkF f n p = 1012) : b01 (fgQ f n i) = 1 := b01_i (by have q := po_0 hp h0; obtain rfl := q.1; exact ht)
theorem tf_r0 (i a p : Int) (hp : b01 (PO n i a p) = 1) (h0 : a = 0) (ht : ¬ tkF f n p = 1005 ∧ ¬ tkF f n p = 1007 ∧ ¬ tkF f n p = 1012) : b01 (fgQ f n i) = 0 := b01_n (by have q := po_0 hp h0; obtain rfl := q.1; intro z; unfold fgQ at z; omega)
theorem mk_r1 (i a p : Int) (hp : b01 (PO n i a p) = 1) (h0 : a = 0) (ht : tkF f n p = 1002 ∨ tkF f n p = 1013) : b01 (mkQ f n i) = 1 := b01_i (by have q := po_0 hp h0; obtain rfl := q.1; exact ht)
theorem mk_r0 (i a p : Int) (hp : b01 (PO n i a p) = 1) (h0 : a = 0) (ht : ¬ tkF f n p = 1002 ∧ ¬ tkF f n p = 1013) : b01 (mkQ f n i) = 0 := b01_n (by have q := po_0 hp h0; obtain rfl := q.1; intro z; unfold mkQ at z; omega)
theorem tf_0 (i a b p a' b' p' : Int) (hp : b01 (PO n i a p) = 1) (h0 : a = 0) (ht : ¬ tkF f n p = 1005 ∧ ¬ tkF f n p = 1007 ∧ ¬ tkF f n p = 1012) (ha : a' = a) (hb : b' = b) (hx : p' = p) : b01 (RR (tfP f n i) a b a' b' p') = 1 := by
  have q := po_0 hp h0
  obtain rfl := q.1
  have o := tf_o f n p
  exact rr_y _ a b a' b' p' h0 ha hb (by omega) (by omega)
theorem tf_1 (i a b p a1 b1 a2 b2 p2 a' b' p' : Int) (hp : b01 (PO n i a p) = 1) (ht : tkF f n p = 1005) (ha1 : a1 = a) (hb1 : b1 = b) (h : b01 (RR (nuP f n 0 9 (nxF f n i)) a1 b1 a2 b2 p2) = 1) (ha : a' = a2) (hb : b' = b2) (hx : p' = p2) : b01 (RR (tfP f n i) a b a' b' p') = 1 :=
  rr_eq _ a b a2 b2 p2 a' b' p' (rr_at n _ _ i a b p a2 b2 p2 hp (rr_fr _ a b a1 b1 a2 b2 p2 h ha1 hb1) (fun z => by
    subst z
    unfold tfP fgB fgS
    rw [if_pos (decide_eq_true (Or.inl ht)), if_pos ht])) ha hb hx
theorem tf_2 (i a b p a1 b1 p1 a' b' p' : Int) (hp : b01 (PO n i a p) = 1) (h0 : a = 0) (ht : tkF f n p = 1007 ∨ tkF f n p = 1012) (ha1 : a1 = a) (hb1 : b1 = b) (hx1 : b01 (PO n (nxF f n i) a1 p1) = 1) (ha : a' = a1) (hb : b' = b1) (hx : p' = p1) : b01 (RR (tfP f n i) a b a' b' p') = 1 :=
  rr_eq _ a b a1 b1 p1 a' b' p' (rr_tk f n _ i a b p a1 b1 p1 hp h0 ha1 hb1 hx1 (fun z => by subst z; have o := tf_o f n p; omega)) ha hb hx
theorem mk_0 (i a b p a' b' p' : Int) (hp : b01 (PO n i a p) = 1) (h0 : a = 0) (ht : ¬ tkF f n p = 1002 ∧ ¬ tkF f n p = 1013) (ha : a' = a) (hb : b' = b) (hx : p' = p) : b01 (RR (mkP f n i) a b a' b' p') = 1 := by
  have q := po_0 hp h0
  obtain rfl := q.1
  have o := mk_o f n p
  exact rr_y _ a b a' b' p' h0 ha hb (by omega) (by omega)
theorem mk_1 (i a b p a1 b1 a2 b2 p2 a' b' p' : Int) (hp : b01 (PO n i a p) = 1) (ht : tkF f n p = 1002 ∨ tkF f n p = 1013) (ha1 : a1 = a) (hb1 : b1 = b) (h : b01 (RR (nuP f n 0 9 (nxF f n i)) a1 b1 a2 b2 p2) = 1) (ha : a' = a2) (hb : b' = b2) (hx : p' = p2) : b01 (RR (mkP f n i) a b a' b' p') = 1 :=
  rr_eq _ a b a2 b2 p2 a' b' p' (rr_at n _ _ i a b p a2 b2 p2 hp (rr_fr _ a b a1 b1 a2 b2 p2 h ha1 hb1) (fun z => by
    subst z
    unfold mkP tqB
    rw [if_pos (decide_eq_true ht)])) ha hb hx
theorem tf_h : PH n (tfP f n) := fun i h0 h1 h2 => by
  have o := tf_o f n i
  rcases o with q | q | q
  · have m := nx_b f n h0 (tk_lt f n h0 (by omega))
    have := nu_g f n 0 9 _ (by omega) (by omega) m.2
    omega
  · have m := nx_b f n h0 (tk_lt f n h0 (by omega))
    omega
  · omega
theorem mk_h : PH n (mkP f n) := fun i h0 h1 h2 => by
  have o := mk_o f n i
  rcases o with q | q
  · have m := nx_b f n h0 (tk_lt f n h0 (by omega))
    have := nu_g f n 0 9 _ (by omega) (by omega) m.2
    omega
  · omega
/-! lines -/
theorem ki_1 (k i a b a' b' p' : Int) (hk : 8 ≤ k) (h : b01 (RR (faQ f n 4 i) a b a' b' p') = 1) : b01 (RR (kiP f n k i) a b a' b' p') = 1 :=
  rr_u _ _ a b a' b' p' h (fun _ => by unfold kiP; rw [if_pos hk]; rfl)
theorem bu_1 (k i a b a' b' p' : Int) (hk : 6 ≤ k) (h : b01 (RR (faQ f n 4 i) a b a' b' p') = 1) : b01 (RR (buP f n k i) a b a' b' p') = 1 :=
  rr_u _ _ a b a' b' p' h (fun _ => by unfold buP; rw [if_pos hk]; rfl)
theorem ki_2 (k i a b a1 b1 a2 b2 p2 a3 b3 a4 b4 p4 a5 b5 a' b' p' : Int) (hk : k < 8) (ha1 : a1 = a) (hb1 : b1 = b) (h2 : b01 (RR (exP f n 1004 (nxF f n i)) a1 b1 a2 b2 p2) = 1) (ha3 : a3 = a2) (hb3 : b3 = b2) (h4 : b01 (RR (nuP f n 1 99 (exP f n 1004 (nxF f n i)).2.2) a3 b3 a4 b4 p4) = 1) (ha5 : a5 = a4) (hb5 : b5 = b4) (h6 : b01 (RR (fgP f n (nuP f n 1 99 (exP f n 1004 (nxF f n i)).2.2).2.2) a5 b5 a' b' p') = 1) : b01 (RR (kiP f n k i) a b a' b' p') = 1 :=
  rr_u _ _ a b a' b' p' (rr_sq _ (kiT f n) a b a2 b2 p2 a' b' p' (rr_fr _ a b a1 b1 a2 b2 p2 h2 ha1 hb1) (rr_sq _ (fgP f n) a2 b2 a4 b4 p4 a' b' p' (rr_fr _ a2 b2 a3 b3 a4 b4 p4 h4 ha3 hb3) (rr_fr _ a4 b4 a5 b5 a' b' p' h6 ha5 hb5))) (fun _ => by unfold kiP; rw [if_neg (by omega)])
theorem bu_2 (k i a b a1 b1 a2 b2 p2 a3 b3 a4 b4 p4 a5 b5 a' b' p' : Int) (hk : k < 6) (ha1 : a1 = a) (hb1 : b1 = b) (h2 : b01 (RR (exP f n 1001 (nxF f n i)) a1 b1 a2 b2 p2) = 1) (ha3 : a3 = a2) (hb3 : b3 = b2) (h4 : b01 (RR (nuP f n 0 999 (exP f n 1001 (nxF f n i)).2.2) a3 b3 a4 b4 p4) = 1) (ha5 : a5 = a4) (hb5 : b5 = b4) (h6 : b01 (RR (luP f n 1002 1013 (nuP f n 0 9) (nuP f n 0 999 (exP f n 1001 (nxF f n i)).2.2).2.2) a5 b5 a' b' p') = 1) : b01 (RR (buP f n k i) a b a' b' p') = 1 :=
  rr_u _ _ a b a' b' p' (rr_sq _ (buT f n) a b a2 b2 p2 a' b' p' (rr_fr _ a b a1 b1 a2 b2 p2 h2 ha1 hb1) (rr_sq _ (luP f n 1002 1013 (nuP f n 0 9)) a2 b2 a4 b4 p4 a' b' p' (rr_fr _ a2 b2 a3 b3 a4 b4 p4 h4 ha3 hb3) (rr_fr _ a4 b4 a5 b5 a' b' p' h6 ha5 hb5))) (fun _ => by unfold buP; rw [if_neg (by omega)])
theorem wa_1 (i a b a1 b1 a2 b2 p2 a3 b3 a4 b4 p4 a' b' p' : Int) (ha1 : a1 = a) (hb1 : b1 = b) (h2 : b01 (RR (exP f n 2058 (nxF f n i)) a1 b1 a2 b2 p2) = 1) (ha3 : a3 = a2) (hb3 : b3 = b2) (h4 : b01 (RR (suR f n 6 (exP f n 2058 (nxF f n i)).2.2) a3 b3 a4 b4 p4) = 1) (ha : a' = a4) (hb : b' = b4) (hp : p' = p4) : b01 (RR (waP f n i) a b a' b' p') = 1 :=
  rr_eq _ a b a4 b4 p4 a' b' p' (rr_sq _ (suR f n 6) a b a2 b2 p2 a4 b4 p4 (rr_fr _ a b a1 b1 a2 b2 p2 h2 ha1 hb1) (rr_fr _ a2 b2 a3 b3 a4 b4 p4 h4 ha3 hb3)) ha hb hp
theorem le_1 (i a b a1 b1 a2 b2 p2 a3 b3 a4 b4 p4 a' b' p' : Int) (ha1 : a1 = a) (hb1 : b1 = b) (h2 : b01 (RR (exP f n 2058 (nxF f n i)) a1 b1 a2 b2 p2) = 1) (ha3 : a3 = a2) (hb3 : b3 = b2) (h4 : b01 (RR (trP f n (unR f n 6) (exP f n 2058 (nxF f n i)).2.2) a3 b3 a4 b4 p4) = 1) (ha : a' = a4) (hb : b' = b4) (hp : p' = p4) : b01 (RR (leP f n i) a b a' b' p') = 1 :=
  rr_eq _ a b a4 b4 p4 a' b' p' (rr_sq _ (trP f n (unR f n 6)) a b a2 b2 p2 a4 b4 p4 (rr_fr _ a b a1 b1 a2 b2 p2 h2 ha1 hb1) (rr_fr _ a2 b2 a3 b3 a4 b4 p4 h4 ha3 hb3)) ha hb hp
theorem li_1 (k m i a b p a' b' p' : Int) (hp : b01 (PO n i a p) = 1) (ht : tkF f n p = 1003) (h : b01 (RR (kiP f n k i) a b a' b' p') = 1) : b01 (RR (liP f n k m i) a b a' b' p') = 1 :=
  rr_at n _ _ i a b p a' b' p' hp h (fun z => by subst z; unfold liP; rw [if_pos ht])
theorem li_2 (k m i a b p a' b' p' : Int) (hp : b01 (PO n i a p) = 1) (ht : tkF f n p = 1009) (h : b01 (RR (buP f n m i) a b a' b' p') = 1) : b01 (RR (liP f n k m i) a b a' b' p') = 1 :=
  rr_at n _ _ i a b p a' b' p' hp h (fun z => by subst z; unfold liP; rw [if_neg (by omega), if_pos ht])
theorem li_3 (k m i a b p a' b' p' : Int) (hp : b01 (PO n i a p) = 1) (ht : tkF f n p = 1010) (h : b01 (RR (waP f n i) a b a' b' p') = 1) : b01 (RR (liP f n k m i) a b a' b' p') = 1 :=
  rr_at n _ _ i a b p a' b' p' hp h (fun z => by subst z; unfold liP; rw [if_neg (by omega), if_neg (by omega), if_pos ht])
theorem li_4 (k m i a b p a' b' p' : Int) (hp : b01 (PO n i a p) = 1) (ht : tkF f n p = 1011) (h : b01 (RR (leP f n i) a b a' b' p') = 1) : b01 (RR (liP f n k m i) a b a' b' p') = 1 :=
  rr_at n _ _ i a b p a' b' p' hp h (fun z => by subst z; unfold liP; rw [if_neg (by omega), if_neg (by omega), if_neg (by omega), if_pos ht])
theorem li_5 (k m i a b p a' b' p' : Int) (hp : b01 (PO n i a p) = 1) (ht : ¬ tkF f n p = 1003 ∧ ¬ tkF f n p = 1009 ∧ ¬ tkF f n p = 1010 ∧ ¬ tkF f n p = 1011) (h : b01 (RR (faQ f n 2 i) a b a' b' p') = 1) : b01 (RR (liP f n k m i) a b a' b' p') = 1 :=
  rr_at n _ _ i a b p a' b' p' hp h (fun z => by subst z; unfold liP; rw [if_neg (by omega), if_neg (by omega), if_neg (by omega), if_neg (by omega)]; rfl)
/-- counts: on success they are these -/
def CK (a' k m l k0 m0 l0 : Int) : Prop := ¬ a' = 0 ∨ (k = k0 ∧ m = m0 ∧ l = l0)
theorem ck_i (a' k m l k0 m0 l0 : Int) (h : ¬ a' = 0 ∨ (k = k0 ∧ m = m0 ∧ l = l0)) : b01 (CK a' k m l k0 m0 l0) = 1 := b01_i h
theorem ck_0 {a' k m l k0 m0 l0 : Int} (h : b01 (CK a' k m l k0 m0 l0) = 1) (h0 : a' = 0) : k = k0 ∧ m = m0 ∧ l = l0 := (b01_e h).resolve_left (fun z => z h0)
theorem ck_li (i a p a' k m l k0 m0 l0 k1 m1 : Int) (hp : b01 (PO n i a p) = 1) (h0 : a = 0) (h : b01 (CK a' k m l k1 m1 l0) = 1) (hk : k1 = inc (tkF f n p) 1003 k0) (hm : m1 = inc (tkF f n p) 1009 m0) : b01 (CK a' k m l (inc (tkF f n i) 1003 k0) (inc (tkF f n i) 1009 m0) l0) = 1 := by
  have q := po_0 hp h0
  obtain rfl := q.1
  rw [← hk, ← hm]; exact h
/-- all lines -/
def LM (s k0 m0 l0 i c k m l a b a' b' p' : Int) : Prop := (¬ a = 0 ∧ a' = a ∧ b' = b) ∨ (a = 0 ∧ a' = 0 ∧ b' = b ∧ mnP f n s k0 m0 l0 = mnP f n i k m l ∧ p' = i ∧ 0 ≤ i ∧ i ≤ n ∧ c ≤ i) ∨ (a = 0 ∧ ¬ a' = 0 ∧ a' = (mnP f n s k0 m0 l0).1 ∧ b' = (mnP f n s k0 m0 l0).2.1)
theorem lm_0 (i k m l a b p : Int) (hp : b01 (PO n i a p) = 1) : b01 (LM f n i k m l i 0 k m l a b a b p) = 1 := b01_i (by
  by_cases z : a = 0
  · have q := po_0 hp z
    exact Or.inr (Or.inl ⟨z, z, rfl, rfl, q.1, q.2.1, q.2.2, q.2.1⟩)
  · exact Or.inl ⟨z, rfl, rfl⟩)
theorem lm_s (s k0 m0 l0 i c k m l a b a1 b1 p1 a2 b2 p2 a' b' p' k' m' l' l2 : Int) (h : b01 (LM f n s k0 m0 l0 i c k m l a b a1 b1 p1) = 1) (h0 : a1 = 0) (ht : ¬ tkF f n p1 = 3001) (h2 : b01 (RR (liP f n k m i) a1 b1 a2 b2 p2) = 1) (hc : b01 (CK a2 k' m' l2 (inc (tkF f n i) 1003 k) (inc (tkF f n i) 1009 m) l) = 1) (h3 : b01 (RR (exP f n 2059 (liP f n k m i).2.2) a2 b2 a' b' p') = 1) (hl : l' = l2 + 1) : b01 (LM f n s k0 m0 l0 (exP f n 2059 (liP f n k m i).2.2).2.2 (c + 1) k' m' l' a b a' b' p') = 1 := b01_i (by
  rcases b01_e h with q | ⟨q1, q2, q3, q4, q5, q6, q7, q8⟩ | q
  · omega
  · subst q5
    have R := b01_e (rr_sq _ (exP f n 2059) a1 b1 a2 b2 p2 a' b' p' h2 h3)
    have S := ln_s f n k m p1
    have E : lnP f n k m p1 = sqP (liP f n k m p1) (exP f n 2059) := rfl
    rw [← E] at R
    have G := ln_g f n k m p1 q6
    rcases R with r | ⟨r1, r2, r3⟩
    · omega
    · rcases mnP_s f n p1 k m l ⟨q6, q7⟩ with w | w | w
      · exact absurd w.1 ht
      · rcases r3 with r3 | r3
        · omega
        · have g := G w.2.1 q7
          have a20 : a2 = 0 := by
            by_cases z : a2 = 0
            · exact z
            · have := rr_k _ _ _ _ _ _ h3 z; omega
          have ck := ck_0 hc a20
          have e22 : (lnP f n k m p1).2.2 = (exP f n 2059 (liP f n k m p1).2.2).2.2 := by
            rcases S with S | S
            · exact S.2.2.2
            · omega
          have e : mnP f n s k0 m0 l0 = mnP f n (exP f n 2059 (liP f n k m p1).2.2).2.2 k' m' l' := by
            rw [q4, w.2.2, e22, ck.1, ck.2.1, hl, ck.2.2]
          exact Or.inr (Or.inl ⟨q1, r3.1, by omega, e, by omega, by omega, by omega, by omega⟩)
      · rcases r3 with r3 | r3
        · refine Or.inr (Or.inr ⟨q1, r3.1, ?_, ?_⟩)
          · rw [q4, w.2.2]; omega
          · rw [q4, w.2.2]; omega
        · omega
  · omega)
theorem lm_e (s k0 m0 l0 i c k m l a b a' b' p' : Int) (h : b01 (LM f n s k0 m0 l0 i c k m l a b a' b' p') = 1) (h0 : a = 0) (hx : ¬ a' = 0 ∨ n ≤ c ∨ tkF f n p' = 3001) : a' = (mnP f n s k0 m0 l0).1 ∧ (¬ a' = 0 ∧ b' = (mnP f n s k0 m0 l0).2.1 ∨ a' = 0 ∧ b' = b ∧ l = (mnP f n s k0 m0 l0).2.2) := by
  rcases b01_e h with q | ⟨q1, q2, q3, q4, q5, q6, q7, q8⟩ | q
  · omega
  · subst q5
    have T := tkF_v f n p' q6
    rcases mnP_s f n p' k m l ⟨q6, q7⟩ with w | w | w
    · rw [q4, w.2]; exact ⟨q2, Or.inr ⟨q2, q3, rfl⟩⟩
    · exfalso; have := w.1; omega
    · exfalso; have := w.1; omega
  · exact ⟨q.2.2.1, Or.inl ⟨q.2.1, q.2.2.2⟩⟩
theorem rd_e (i c k m l a b a1 b1 p1 a2 b2 p2 a' b' p' l1 : Int) (h0 : a = 0) (h1 : b01 (RR (exP f n 1008 (runE blB f n 0)) a b a1 b1 p1) = 1) (h2 : b01 (RR (exP f n 2059 (exP f n 1008 (runE blB f n 0)).2.2) a1 b1 a2 b2 p2) = 1) (hl1 : l1 = 1) (h : b01 (LM f n (exP f n 2059 (exP f n 1008 (runE blB f n 0)).2.2).2.2 0 0 l1 i c k m l a2 b2 a' b' p') = 1) (hx : ¬ a' = 0 ∨ n ≤ c ∨ tkF f n p' = 3001) : a' = (rdP f n).1 ∧ (¬ a' = 0 ∧ b' = (rdP f n).2.1 ∨ a' = 0 ∧ b' = b ∧ l = (rdP f n).2.2) := by
  subst hl1
  have R := b01_e (rr_sq _ (exP f n 2059) a b a1 b1 p1 a2 b2 p2 h1 h2)
  have E : hdP f n = sqP (exP f n 1008 (runE blB f n 0)) (exP f n 2059) := rfl
  rw [← E] at R
  have S := hd_s f n
  rcases R with r | ⟨r1, r2, r3⟩
  · exact absurd h0 r.1
  · rcases rdP_s f n with w | w
    · rcases r3 with r3 | r3
      · omega
      · have e22 : (hdP f n).2.2 = (exP f n 2059 (exP f n 1008 (runE blB f n 0)).2.2).2.2 := by
          rcases S with S | S
          · exact S.2.2.2
          · omega
        have L := lm_e f n _ _ _ _ _ _ _ _ _ _ _ _ _ _ h r3.1 hx
        rw [w.2, e22]
        rcases L with ⟨L1, L2 | L2⟩
        · exact ⟨L1, Or.inl L2⟩
        · exact ⟨L1, Or.inr ⟨L2.1, by omega, L2.2.2⟩⟩
    · rcases r3 with r3 | r3
      · rcases b01_e h with q | q | q
        · rw [w.2]; exact ⟨by omega, Or.inl ⟨by omega, by omega⟩⟩
        · omega
        · omega
      · omega
end PQ4
theorem po_e {n i a p : Int} (h : b01 (PO n i a p) = 1) : ¬ a = 0 ∨ p = i ∧ 0 ≤ i ∧ i ≤ n := b01_e h
theorem po_mk (n i a p : Int) (h : p = i) (h1 : 0 ≤ p ∧ p ≤ n) : b01 (PO n i a p) = 1 := b01_i (Or.inr ⟨h, by omega, by omega⟩)
theorem fa_4 (f : Nat → Int) (n k i a b p a' b' p' : Int) (hk : 1 ≤ k) (hp : b01 (PO n i a p) = 1) (h0 : a = 0) (ht : ¬ tkF f n p = 3000) (h : b01 (RR (faQ f n k i) a b a' b' p') = 1) : a' = k ∧ b' = i := by
  have q := po_0 hp h0
  obtain rfl := q.1
  have e1 : (faQ f n k p).1 = k := by show flP f n p k = k; unfold flP; rw [if_neg ht]
  have e2 : (faQ f n k p).2.1 = p := rfl
  rcases b01_e h with r | ⟨r1, r2, r3⟩
  · exact absurd h0 r.1
  · rcases r3 with r3 | r3
    · exact ⟨by omega, by omega⟩
    · omega
theorem ck_c (a' k m l k0 m0 l0 k' m' : Int) (h : b01 (CK a' k m l k0 m0 l0) = 1) (hk : k' = k) (hm : m' = m) : b01 (CK a' k' m' l k0 m0 l0) = 1 := by rw [hk, hm]; exact h
theorem lm_1 (f : Nat → Int) (n i k m l a b p : Int) (hk : k = 0) (hm : m = 0) (hl : l = 1) (hp : b01 (PO n i a p) = 1) : b01 (LM f n i 0 0 1 i 0 k m l a b a b p) = 1 := by
  subst hk hm hl; exact lm_0 f n i 0 0 1 a b p hp
theorem su_q (f : Nat → Int) (n : Int) (r r2 : Nat) (hr : r2 = r + 1) (i : Int) : suR f n r2 i = sqP (teP f n false (suR f n r) i) (luP f n 2043 2045 (teP f n false (suR f n r))) := by subst hr; rfl
theorem su_q0 (f : Nat → Int) (n : Int) (i : Int) : suR f n 0 i = sqP (teP f n true (fun i => (0, 0, i)) i) (luP f n 2043 2045 (teP f n true (fun i => (0, 0, i)))) := rfl
theorem tkx_j {f : Nat → Int} {n : Int} {M M' : mm_M} {a gi : Int} (e : M' = wI M 78 2 (sI (a + 1))) (h : b01 (TKX f n M) = 1) (ha : a = (M.1 78 2).toInt) (ht : ¬ tkF f n (psX M) = 3000 ∧ ¬ tkF f n (psX M) = 3001) (hg : b01 (PO n gi (M.1 78 5).toInt (psX M)) = 1) : b01 (TKX f n M') = 1 ∧ (M'.1 78 5).toInt = (M.1 78 5).toInt ∧ (M'.1 78 6).toInt = (M.1 78 6).toInt ∧ b01 (PO n (nxF f n gi) (M'.1 78 5).toInt (psX M')) = 1 := by
  obtain ⟨r1, r2, r3, r4⟩ := tkx_i e h ha ht (po_e hg)
  refine ⟨r1, r2, r3, b01_i ?_⟩
  rcases r4 with r4 | r4
  · exact Or.inl r4
  · exact Or.inr ⟨r4.1, r4.2.1.1, r4.2.1.2⟩
theorem ns_z (c m : Int) (h : m = 0) : b01 (NOS c m) = 1 := by subst h; exact ns_0 c
theorem pbxt {M0 M M1 M2 : mm_M} {x t t' v s : Int} (h : b01 (PBX M0 M x) = 1) (e1 : M1 = wI M 1 t.toNat (sI v)) (e2 : M2 = wI M1 0 1 (sI (t' + 1))) (htt : t' = t) (ht : t = (M.1 0 1).toInt ∧ (M0.1 0 1).toInt ≤ t ∧ 0 ≤ t ∧ t ≤ 900) (hv : v = byU x s ∧ -2147483648 ≤ v ∧ v ≤ 2147483647) (hs : s = 24 - 8 * (t - (M0.1 0 1).toInt)) : b01 (PBX M0 M2 x) = 1 := by
  subst htt; exact pbxs h e1 e2 ht hv hs
end
section
/-! THE LAWS' CODES as lists: what a reader writes while it reads a law -/
section PLL
variable (f : Nat → Int) (n : Int)
/-- the class's marks as the reference's codes -/
def cmF (c : Int) : Int := if c < 1008 then c else if c = 2043 then 3000 else if c = 2045 then 3001 else if c = 2042 then 3002 else if c = 2061 then 3003 else if c = 2060 then 3004 else if c = 2062 then 3005 else if c = 1016 then 3006 else if c = 1015 then 3007 else 3008
theorem cm_lo {c : Int} (h : c < 1008) : cmF c = c := by unfold cmF; rw [if_pos h]
theorem cm_tab : cmF 2043 = 3000 ∧ cmF 2045 = 3001 ∧ cmF 2042 = 3002 ∧ cmF 2061 = 3003 ∧ cmF 2060 = 3004 ∧ cmF 2062 = 3005 ∧ cmF 1016 = 3006 ∧ cmF 1015 = 3007 ∧ cmF 1014 = 3008 := by decide
/-- a loop's codes: at each step those of the step -/
def lpL (q : Int → Bool) (st : Int → Int × Int × Int) (GL : Int → List Int) : Nat → Int → List Int
  | 0, _ => []
  | k + 1, i => if q i = true then (if (st i).1 = 0 then GL i ++ lpL q st GL k (st i).2.2 else []) else []
theorem lpL_e {q : Int → Bool} {st : Int → Int × Int × Int} {GL : Int → List Int} (hs : ∀ i, 0 ≤ i → i ≤ n → q i = true → i < n ∧ ((st i).1 = 0 → i < (st i).2.2 ∧ (st i).2.2 ≤ n)) : ∀ (k j : Nat) (i : Int), 0 ≤ i → i ≤ n → (n - i).toNat < k → (n - i).toNat < j → lpL q st GL k i = lpL q st GL j i
  | 0, j, i, h0, h1, h2, h3 => by omega
  | k + 1, 0, i, h0, h1, h2, h3 => by omega
  | k + 1, j + 1, i, h0, h1, h2, h3 => by
    rw [lpL, lpL]
    by_cases z : q i = true
    · rw [if_pos z, if_pos z]
      obtain ⟨a, b⟩ := hs i h0 h1 z
      by_cases y : (st i).1 = 0
      · rw [if_pos y, if_pos y]
        obtain ⟨c, d⟩ := b y
        rw [lpL_e hs k j _ (by omega) d (by omega) (by omega)]
      · rw [if_neg y, if_neg y]
    · rw [if_neg z, if_neg z]
noncomputable def luL (a b : Int) (G : Int → Int × Int × Int) (GL : Int → List Int) (i : Int) : List Int := lpL (tqB f n a b) (fun j => G (nxF f n j)) (fun j => GL (nxF f n j) ++ [cmF (tkF f n j)]) (n + 1 - i).toNat i
theorem luL_y {a b : Int} (hab : ¬ a = 3001 ∧ ¬ b = 3001) {G : Int → Int × Int × Int} {GL : Int → List Int} (hG : PG n G) (i : Int) (h0 : 0 ≤ i ∧ i ≤ n) (ht : tkF f n i = a ∨ tkF f n i = b) (hg : (G (nxF f n i)).1 = 0) : luL f n a b G GL i = GL (nxF f n i) ++ cmF (tkF f n i) :: luL f n a b G GL (G (nxF f n i)).2.2 := by
  have z : tqB f n a b i = true := decide_eq_true ht
  obtain ⟨l, m⟩ := lq_s f n hab hG i h0.1 h0.2 z
  obtain ⟨c, d⟩ := m hg
  unfold luL
  rw [show (n + 1 - i).toNat = (n - i).toNat + 1 by omega, lpL, if_pos z, if_pos hg]
  rw [lpL_e n (lq_s f n hab hG) (n - i).toNat (n + 1 - (G (nxF f n i)).2.2).toNat _ (by omega) d (by omega) (by omega)]
  simp
theorem luL_n {a b : Int} {G : Int → Int × Int × Int} {GL : Int → List Int} (i : Int) (ht : ¬ tkF f n i = a ∧ ¬ tkF f n i = b) : luL f n a b G GL i = [] := by
  have z : ¬ tqB f n a b i = true := fun z => by have := of_decide_eq_true z; omega
  unfold luL
  cases (n + 1 - i).toNat with
  | zero => rfl
  | succ k => rw [lpL, if_neg z]
noncomputable def atL (d : Bool) (subL : Int → List Int) (i : Int) : List Int := if tkF f n i < 1008 then [tkF f n i] else if tkF f n i = 2040 then (if d = true then [] else subL (nxF f n i)) else []
noncomputable def teL (d : Bool) (sub : Int → Int × Int × Int) (subL : Int → List Int) (i : Int) : List Int := atL f n d subL i ++ luL f n 2042 2042 (atP f n d sub) (atL f n d subL) (atP f n d sub i).2.2
noncomputable def suL (d : Bool) (sub : Int → Int × Int × Int) (subL : Int → List Int) (i : Int) : List Int := teL f n d sub subL i ++ luL f n 2043 2045 (teP f n d sub) (teL f n d sub subL) (teP f n d sub i).2.2
noncomputable def sLR : Nat → Int → List Int
  | 0 => suL f n true (fun i => (0, 0, i)) (fun _ => [])
  | r + 1 => suL f n false (suR f n r) (sLR r)
noncomputable def unL (d : Bool) (su : Int → Int × Int × Int) (sl uL tL : Int → List Int) (i : Int) : List Int := if tkF f n i = 1016 then (if d = true then [] else uL (nxF f n i) ++ [3006]) else if tkF f n i = 2091 then (if d = true then [] else tL (nxF f n i)) else sl i ++ (sl (nxF f n (su i).2.2) ++ [cmF (tkF f n (su i).2.2)])
noncomputable def boL (u : Int → Int × Int × Int) (uL : Int → List Int) (i : Int) : List Int := uL i ++ luL f n 1015 1015 u uL (u i).2.2
noncomputable def trL (u : Int → Int × Int × Int) (uL : Int → List Int) (i : Int) : List Int := boL f n u uL i ++ luL f n 1014 1014 (boP f n u) (boL f n u uL) (boP f n u i).2.2
noncomputable def uLR : Nat → Int → List Int
  | 0 => unL f n true (suR f n 0) (sLR f n 0) (fun _ => []) (fun _ => [])
  | r + 1 => unL f n false (suR f n (r + 1)) (sLR f n (r + 1)) (uLR r) (trL f n (unR f n r) (uLR r))
end PLL
end
section
/-! CONTENTS of what is read: rows T in the reference's layout -/
def uT (T : Nat → Int) (k : Nat) (v : Int) : Nat → Int := fun j => if j = k then v else T j
theorem uT_s {T : Nat → Int} {k : Nat} {v : Int} : uT T k v k = v := if_pos rfl
theorem uT_o {T : Nat → Int} {k j : Nat} {v : Int} (h : j ≠ k) : uT T k v j = T j := if_neg h
def emT (c : Int) (T : Nat → Int) : Nat → Int := uT (uT T (281 + T 280).toNat c) 280 (T 280 + 1)
def emL : List Int → (Nat → Int) → Nat → Int
  | [], T => T
  | c :: L, T => emL L (emT c T)
theorem emL_a : ∀ (L K : List Int) (T : Nat → Int), emL (L ++ K) T = emL K (emL L T)
  | [], _, _ => rfl
  | c :: L, K, T => emL_a L K (emT c T)
section RC
variable {A : mm_M → Int × Int × Int × Int → (Nat → Int) → Prop}
/-- a fault, or these codes were written -/
def CL (A : mm_M → Int × Int × Int × Int → (Nat → Int) → Prop) (a : Int) (M N : mm_M) (L : List Int) : Prop := ¬ a = 0 ∨ ∀ q T, A M q T → A N q (emL L T)
def CT (A : mm_M → Int × Int × Int × Int → (Nat → Int) → Prop) (a : Int) (M N : mm_M) (g : (Nat → Int) → Nat → Int) : Prop := ¬ a = 0 ∨ ∀ q T, A M q T → A N q (g T)
theorem cl_n {a : Int} {M N : mm_M} (L : List Int) (h : ¬ a = 0) : b01 (CL A a M N L) = 1 := b01_i (Or.inl h)
theorem cl_r {M N : mm_M} (a : Int) (h : ∀ q T, A M q T → A N q T) : b01 (CL A a M N []) = 1 := b01_i (Or.inr h)
theorem cl_t {a1 a2 : Int} {M N O : mm_M} {L K : List Int} (h1 : b01 (CL A a1 M N L) = 1) (h2 : b01 (CL A a2 N O K) = 1) (z : a2 = 0 → a1 = 0) : b01 (CL A a2 M O (L ++ K)) = 1 := b01_i (by
  by_cases c : a2 = 0
  · right
    intro q T h
    have x := (b01_e h1).resolve_left (fun w => w (z c)) q T h
    have y := (b01_e h2).resolve_left (fun w => w c) q _ x
    rw [emL_a]; exact y
  · exact Or.inl c)
theorem cl_e {a : Int} {M N : mm_M} {L K : List Int} (h : b01 (CL A a M N L) = 1) (e : a = 0 → K = L) : b01 (CL A a M N K) = 1 := b01_i (by
  by_cases c : a = 0
  · rw [e c]; exact b01_e h
  · exact Or.inl c)
theorem ct_n {a : Int} {M N : mm_M} (g : (Nat → Int) → Nat → Int) (h : ¬ a = 0) : b01 (CT A a M N g) = 1 := b01_i (Or.inl h)
theorem ct_r {M N : mm_M} (a : Int) (h : ∀ q T, A M q T → A N q T) : b01 (CT A a M N (fun T => T)) = 1 := b01_i (Or.inr h)
theorem ct_t {a1 a2 : Int} {M N O : mm_M} {g h : (Nat → Int) → Nat → Int} (h1 : b01 (CT A a1 M N g) = 1) (h2 : b01 (CT A a2 N O h) = 1) (z : a2 = 0 → a1 = 0) : b01 (CT A a2 M O (fun T => h (g T))) = 1 := b01_i (by
  by_cases c : a2 = 0
  · exact Or.inr (fun q T x => (b01_e h2).resolve_left (fun w => w c) q _ ((b01_e h1).resolve_left (fun w => w (z c)) q T x))
  · exact Or.inl c)
theorem ct_e {a : Int} {M N : mm_M} {g k : (Nat → Int) → Nat → Int} (h : b01 (CT A a M N g) = 1) (e : a = 0 → ∀ T, k T = g T) : b01 (CT A a M N k) = 1 := b01_i (by
  by_cases c : a = 0
  · exact Or.inr (fun q T x => by rw [e c T]; exact (b01_e h).resolve_left (fun w => w c) q T x)
  · exact Or.inl c)
theorem ct_c {a : Int} {M N : mm_M} {L : List Int} (h : b01 (CL A a M N L) = 1) : b01 (CT A a M N (emL L)) = 1 := h
theorem rr_z {T : Int × Int × Int} {a b a' b' p' : Int} (h : b01 (RR T a b a' b' p') = 1) (h0 : a' = 0) : a = 0 := by
  by_cases c : a = 0
  · exact c
  · have := (rr_k T a b a' b' p' h c).1; omega
theorem rr_v {T : Int × Int × Int} {a b a' b' p' : Int} (h : b01 (RR T a b a' b' p') = 1) (h0 : a' = 0) : T.1 = 0 ∧ p' = T.2.2 := by
  rcases b01_e h with q | q
  · omega
  · have := q.2.2; omega
/-! loops over codes -/
def LC (A : mm_M → Int × Int × Int × Int → (Nat → Int) → Prop) (a : Int) (FL : Int → List Int) (s i : Int) (MB M : mm_M) : Prop := ¬ a = 0 ∨ ∃ L, FL s = L ++ FL i ∧ ∀ q T, A MB q T → A M q (emL L T)
theorem lc_0 (a : Int) (FL : Int → List Int) (s : Int) (M : mm_M) : b01 (LC A a FL s s M M) = 1 := b01_i (Or.inr ⟨[], rfl, fun _ _ h => h⟩)
section RC2
variable (f : Nat → Int) (n : Int)
theorem lc_s (t u : Int) (G : Int → Int × Int × Int) (GL : Int → List Int) (hab : ¬ t = 3001 ∧ ¬ u = 3001) (hG : PG n G) {s i a1 p1 a2 b2 a3 b3 p3 a4 : Int} {MB M N : mm_M} (h : b01 (LC A a1 (luL f n t u G GL) s i MB M) = 1) (hp : b01 (PO n i a1 p1) = 1) (ht : tkF f n p1 = t ∨ tkF f n p1 = u) (hr : b01 (RR (G (nxF f n i)) a2 b2 a3 b3 p3) = 1) (h21 : a2 = 0 → a1 = 0) (h2 : b01 (CL A a4 M N (GL (nxF f n i) ++ [cmF (tkF f n p1)])) = 1) (h43 : a4 = 0 → a3 = 0) : b01 (LC A a4 (luL f n t u G GL) s (G (nxF f n i)).2.2 MB N) = 1 := b01_i (by
  by_cases c : a4 = 0
  · right
    have z3 := h43 c
    have z2 := rr_z hr z3
    have z1 := h21 z2
    obtain ⟨rfl, i0, i1⟩ := po_0 hp z1
    have g := (rr_v hr z3).1
    obtain ⟨L, e1, e2⟩ := (b01_e h).resolve_left (fun w => w z1)
    refine ⟨L ++ (GL (nxF f n p1) ++ [cmF (tkF f n p1)]), ?_, fun q T x => ?_⟩
    · rw [e1, luL_y f n hab hG p1 ⟨i0, i1⟩ ht g]; simp
    · rw [emL_a]; exact (b01_e h2).resolve_left (fun w => w c) q _ (e2 q T x)
  · exact Or.inl c)
theorem lc_e (t u : Int) (G : Int → Int × Int × Int) (GL : Int → List Int) (hab : ¬ t = 3001 ∧ ¬ u = 3001) {F : Int → Int × Int × Int} {s i c a0 b0 a b p : Int} {MB M : mm_M} (h : b01 (LC A a (luL f n t u G GL) s i MB M) = 1) (hl : b01 (LL F n s i c a0 b0 a b p) = 1) (hx : ¬ a = 0 ∨ n ≤ c ∨ (¬ tkF f n p = t ∧ ¬ tkF f n p = u)) : b01 (CL A a MB M (luL f n t u G GL s)) = 1 := b01_i (by
  by_cases z : a = 0
  · right
    obtain ⟨L, e1, e2⟩ := (b01_e h).resolve_left (fun w => w z)
    have k : p = i ∧ 0 ≤ i ∧ i ≤ n ∧ c ≤ i := by
      rcases b01_e hl with q | q | q
      · omega
      · exact ⟨q.2.2.2.2.1, q.2.2.2.2.2.1, q.2.2.2.2.2.2.1, q.2.2.2.2.2.2.2⟩
      · omega
    obtain ⟨rfl, k0, k1, k2⟩ := k
    have T := tkF_v f n p k0
    have e : luL f n t u G GL p = [] := luL_n f n p (by
      rcases hx with w | w | w
      · exact absurd z w
      · have : tkF f n p = 3001 := by unfold tkF; rw [if_neg (by omega)]
        omega
      · exact w)
    intro q T x
    rw [e1, e, List.append_nil]; exact e2 q T x
  · exact Or.inl z)
/-! what a law's codes are at a place -/
theorem at_l1 (d : Bool) (subL : Int → List Int) {i a p : Int} (hp : b01 (PO n i a p) = 1) (h0 : a = 0) (ht : tkF f n p < 1008) : atL f n d subL i = [cmF (tkF f n p)] := by
  obtain ⟨rfl, _⟩ := po_0 hp h0
  unfold atL; rw [if_pos ht, cm_lo ht]
theorem at_l2 (subL : Int → List Int) {i a p : Int} (hp : b01 (PO n i a p) = 1) (h0 : a = 0) (ht : tkF f n p = 2040) : atL f n false subL i = subL (nxF f n i) := by
  obtain ⟨rfl, _⟩ := po_0 hp h0
  unfold atL; rw [if_neg (by omega), if_pos ht, if_neg (by decide)]
theorem un_l1 (r r2 : Nat) (hr : r2 = r + 1) {i a p : Int} (hp : b01 (PO n i a p) = 1) (h0 : a = 0) (ht : tkF f n p = 1016) : uLR f n r2 i = uLR f n r (nxF f n i) ++ [cmF 1016] := by
  obtain ⟨rfl, _⟩ := po_0 hp h0
  subst hr
  show unL f n false _ _ _ _ p = _
  unfold unL; rw [if_pos ht, if_neg (by decide), cm_tab.2.2.2.2.2.2.1]
theorem un_l2 (r r2 : Nat) (hr : r2 = r + 1) {i a p : Int} (hp : b01 (PO n i a p) = 1) (h0 : a = 0) (ht : tkF f n p = 2091) : uLR f n r2 i = trL f n (unR f n r) (uLR f n r) (nxF f n i) := by
  obtain ⟨rfl, _⟩ := po_0 hp h0
  subst hr
  show unL f n false _ _ _ _ p = _
  unfold unL; rw [if_neg (by omega), if_pos ht, if_neg (by decide)]
theorem un_l4 (r : Nat) {i a p a1 p1 : Int} (hp : b01 (PO n i a p) = 1) (h0 : a = 0) (ht : ¬ tkF f n p = 1016 ∧ ¬ tkF f n p = 2091) (hq : b01 (PO n (suR f n r i).2.2 a1 p1) = 1) (h1 : a1 = 0) : uLR f n r i = sLR f n r i ++ (sLR f n r (nxF f n (suR f n r i).2.2) ++ [cmF (tkF f n p1)]) := by
  obtain ⟨rfl, _⟩ := po_0 hp h0
  have e := (po_0 hq h1).1
  rw [e]
  cases r with
  | zero => show unL f n true _ _ _ _ p = _; unfold unL; rw [if_neg ht.1, if_neg ht.2]
  | succ r => show unL f n false _ _ _ _ p = _; unfold unL; rw [if_neg ht.1, if_neg ht.2]
theorem su_l (r r2 : Nat) (hr : r2 = r + 1) (i : Int) : sLR f n r2 i = teL f n false (suR f n r) (sLR f n r) i ++ luL f n 2043 2045 (teP f n false (suR f n r)) (teL f n false (suR f n r) (sLR f n r)) (teP f n false (suR f n r) i).2.2 := by subst hr; rfl
theorem su_l0 (i : Int) : sLR f n 0 i = teL f n true (fun i => (0, 0, i)) (fun _ => []) i ++ luL f n 2043 2045 (teP f n true (fun i => (0, 0, i))) (teL f n true (fun i => (0, 0, i)) (fun _ => [])) (teP f n true (fun i => (0, 0, i)) i).2.2 := rfl
/-! flags, marks -/
def lpT (q : Int → Bool) (st : Int → Int × Int × Int) (GT : Int → (Nat → Int) → Nat → Int) : Nat → Int → (Nat → Int) → Nat → Int
  | 0, _, T => T
  | k + 1, i, T => if q i = true then (if (st i).1 = 0 then lpT q st GT k (st i).2.2 (GT i T) else T) else T
theorem lpT_e {q : Int → Bool} {st : Int → Int × Int × Int} {GT : Int → (Nat → Int) → Nat → Int} (hs : ∀ i, 0 ≤ i → i ≤ n → q i = true → i < n ∧ ((st i).1 = 0 → i < (st i).2.2 ∧ (st i).2.2 ≤ n)) : ∀ (k j : Nat) (i : Int) (T : Nat → Int), 0 ≤ i → i ≤ n → (n - i).toNat < k → (n - i).toNat < j → lpT q st GT k i T = lpT q st GT j i T
  | 0, j, i, T, h0, h1, h2, h3 => by omega
  | k + 1, 0, i, T, h0, h1, h2, h3 => by omega
  | k + 1, j + 1, i, T, h0, h1, h2, h3 => by
    rw [lpT, lpT]
    by_cases z : q i = true
    · rw [if_pos z, if_pos z]
      obtain ⟨a, b⟩ := hs i h0 h1 z
      by_cases y : (st i).1 = 0
      · rw [if_pos y, if_pos y]
        obtain ⟨c, d⟩ := b y
        exact lpT_e hs k j _ _ (by omega) d (by omega) (by omega)
      · rw [if_neg y, if_neg y]
    · rw [if_neg z, if_neg z]
def lqT (q : Int → Bool) (st : Int → Int × Int × Int) (GT : Int → (Nat → Int) → Nat → Int) (i : Int) : (Nat → Int) → Nat → Int := lpT q st GT (n + 1 - i).toNat i
theorem lqT_y {q : Int → Bool} {st : Int → Int × Int × Int} {GT : Int → (Nat → Int) → Nat → Int} (hs : ∀ i, 0 ≤ i → i ≤ n → q i = true → i < n ∧ ((st i).1 = 0 → i < (st i).2.2 ∧ (st i).2.2 ≤ n)) {i : Int} (h : 0 ≤ i ∧ i ≤ n) (hq : q i = true) (h1 : (st i).1 = 0) (T : Nat → Int) : lqT n q st GT i T = lqT n q st GT (st i).2.2 (GT i T) := by
  obtain ⟨a, b⟩ := hs i h.1 h.2 hq
  obtain ⟨c, d⟩ := b h1
  unfold lqT
  rw [show (n + 1 - i).toNat = (n - i).toNat + 1 by omega, lpT, if_pos hq, if_pos h1]
  exact lpT_e n hs _ _ _ _ (by omega) d (by omega) (by omega)
theorem lqT_n {q : Int → Bool} {st : Int → Int × Int × Int} {GT : Int → (Nat → Int) → Nat → Int} {i : Int} (hq : ¬ q i = true) (T : Nat → Int) : lqT n q st GT i T = T := by
  unfold lqT
  cases (n + 1 - i).toNat with
  | zero => rfl
  | succ k => rw [lpT, if_neg hq]
noncomputable def fgC (k i : Int) (T : Nat → Int) : Nat → Int := if tkF f n i = 1005 then uT T (41 + k).toNat (tkF f n (nxF f n i)) else if tkF f n i = 1007 then uT T 27 (orI (T 27) (pw2 k)) else if tkF f n i = 1012 then uT T 28 (orI (T 28) (pw2 k)) else T
noncomputable def fgT (k : Int) : Int → (Nat → Int) → Nat → Int := lqT n (fgB f n) (fgS f n) (fgC f n k)
noncomputable def mkC (b i : Int) (T : Nat → Int) : Nat → Int := if tkF f n i = 1002 then uT T (14 + b).toNat (tkF f n (nxF f n i)) else if tkF f n i = 1013 then uT T (20 + b).toNat (tkF f n (nxF f n i)) else T
noncomputable def mkT (b : Int) : Int → (Nat → Int) → Nat → Int := lqT n (tqB f n 1002 1013) (fun j => nuP f n 0 9 (nxF f n j)) (mkC f n b)
/-- a loop of them: at i, which goes on (m) -/
def LTW (A : mm_M → Int × Int × Int × Int → (Nat → Int) → Prop) (a : Int) (FT : Int → (Nat → Int) → Nat → Int) (s i m : Int) (MB M : mm_M) : Prop := ¬ a = 0 ∨ ∃ g : (Nat → Int) → Nat → Int, (∀ T, FT s T = if m = 0 then g T else FT i (g T)) ∧ ∀ q T, A MB q T → A M q (g T)
/-- what a loop's steps do -/
def TQ (n : Int) (FT : Int → (Nat → Int) → Nat → Int) (G : Int → Int × Int × Int) (C : Int → (Nat → Int) → Nat → Int) (q : Int → Prop) : Prop := (∀ i, 0 ≤ i → i ≤ n → (q i ∧ ((G i).1 = 0 → ∀ T, FT i T = FT (G i).2.2 (C i T))) ∨ (¬ q i ∧ ∀ T, FT i T = T ∧ C i T = T)) ∧ ¬ q n
theorem ltc_0 (a : Int) (FT : Int → (Nat → Int) → Nat → Int) (s : Int) (M : mm_M) : b01 (LTW A a FT s s 1 M M) = 1 := b01_i (Or.inr ⟨fun T => T, fun T => by rw [if_neg (by decide)], fun _ _ h => h⟩)
theorem ltc_s {FT : Int → (Nat → Int) → Nat → Int} {G : Int → Int × Int × Int} {C : Int → (Nat → Int) → Nat → Int} {q : Int → Prop} (hq : TQ n FT G C q) {s i m m' a1 b1 p1 a2 b2 p2 : Int} {MB M N : mm_M} (h : b01 (LTW A a1 FT s i m MB M) = 1) (hp : b01 (PO n i a1 p1) = 1) (hm : ¬ m = 0) (hr : b01 (RR (G i) a1 b1 a2 b2 p2) = 1) (hm' : m' = b01 (q i)) (h2 : b01 (CT A a2 M N (C i)) = 1) : b01 (LTW A a2 FT s (G i).2.2 m' MB N) = 1 := b01_i (by
  by_cases c : a2 = 0
  · right
    have z1 := rr_z hr c
    obtain ⟨_, i0, i1⟩ := po_0 hp z1
    obtain ⟨g, e1, e2⟩ := (b01_e h).resolve_left (fun w => w z1)
    refine ⟨fun T => C i (g T), fun T => ?_, fun q T x => (b01_e h2).resolve_left (fun w => w c) q _ (e2 q T x)⟩
    rw [e1 T, if_neg hm]
    rcases hq.1 i i0 i1 with w | w
    · have : m' = 1 := by rw [hm']; exact b01_i w.1
      rw [this, if_neg (by decide)]; exact w.2 (rr_v hr c).1 _
    · have : m' = 0 := by rw [hm']; exact b01_n w.1
      rw [this, if_pos rfl, (w.2 (g T)).1]; exact (w.2 (g T)).2.symm
  · exact Or.inl c)
theorem ltc_e {FT : Int → (Nat → Int) → Nat → Int} {G : Int → Int × Int × Int} {C : Int → (Nat → Int) → Nat → Int} {q : Int → Prop} (hq : TQ n FT G C q) {F : Int → Int × Int × Int} {s i c m a0 b0 a b p : Int} {MB M : mm_M} (h : b01 (LTW A a FT s i m MB M) = 1) (hl : b01 (LK F n s i c m a0 b0 a b p) = 1) (hx : ¬ a = 0 ∨ m = 0 ∨ n ≤ c) : b01 (CT A a MB M (FT s)) = 1 := b01_i (by
  by_cases z : a = 0
  · right
    obtain ⟨g, e1, e2⟩ := (b01_e h).resolve_left (fun w => w z)
    intro q' T x
    rw [e1 T]
    by_cases w : m = 0
    · rw [if_pos w]; exact e2 q' T x
    · rw [if_neg w]
      have k : i = n := by
        rcases b01_e hl with r | r | r | r
        · omega
        · omega
        · omega
        · omega
      rw [k]
      rcases hq.1 n (by
        rcases b01_e hl with r | r | r | r
        · omega
        · omega
        · omega
        · omega) (Int.le_refl _) with y | y
      · exact absurd y.1 hq.2
      · rw [(y.2 _).1]; exact e2 q' T x
  · exact Or.inl z)
theorem fg_t (k : Int) : TQ n (fgT f n k) (tfP f n) (fgC f n k) (fgQ f n) := ⟨fun i h0 h1 => by
  by_cases h : fgQ f n i
  · left
    have z : fgB f n i = true := decide_eq_true h
    have e : tfP f n i = fgS f n i := by unfold tfP; rw [if_pos z]
    exact ⟨h, fun y T => by rw [e] at y ⊢; exact lqT_y n (fg_p f n) ⟨h0, h1⟩ z y T⟩
  · right
    have z : ¬ fgB f n i = true := fun w => h (by unfold fgB at w; have y := of_decide_eq_true w; exact y)
    refine ⟨h, fun T => ⟨lqT_n n z T, ?_⟩⟩
    unfold fgQ at h
    unfold fgC
    rw [if_neg (by omega), if_neg (by omega), if_neg (by omega)], (fg_q f n).2⟩
theorem mk_t (b : Int) : TQ n (mkT f n b) (mkP f n) (mkC f n b) (mkQ f n) := ⟨fun i h0 h1 => by
  by_cases h : mkQ f n i
  · left
    have z : tqB f n 1002 1013 i = true := decide_eq_true h
    have e : mkP f n i = nuP f n 0 9 (nxF f n i) := by unfold mkP; rw [if_pos z]
    exact ⟨h, fun y T => by rw [e] at y ⊢; exact lqT_y n (lq_s f n (by decide) (nu_g f n 0 9)) ⟨h0, h1⟩ z y T⟩
  · right
    have z : ¬ tqB f n 1002 1013 i = true := fun w => h (by unfold tqB at w; have y := of_decide_eq_true w; exact y)
    refine ⟨h, fun T => ⟨lqT_n n z T, ?_⟩⟩
    unfold mkQ at h
    unfold mkC
    rw [if_neg (by omega), if_neg (by omega)], (mk_q f n).2⟩
/-! lines -/
noncomputable def kiB (k j : Int) (T : Nat → Int) : Nat → Int := uT (uT (uT T (33 + k).toNat (tkF f n j)) (41 + k).toNat 0) 26 (k + 1)
noncomputable def kiC (k i : Int) (T : Nat → Int) : Nat → Int := fgT f n k (nuP f n 1 99 (exP f n 1004 (nxF f n i)).2.2).2.2 (kiB f n k (exP f n 1004 (nxF f n i)).2.2 T)
noncomputable def buB (b j : Int) (T : Nat → Int) : Nat → Int := uT (uT (uT (uT T (8 + b).toNat (tkF f n j)) (14 + b).toNat 0) (20 + b).toNat 1) 1 (b + 1)
noncomputable def buC (b i : Int) (T : Nat → Int) : Nat → Int := mkT f n b (nuP f n 0 999 (exP f n 1001 (nxF f n i)).2.2).2.2 (buB f n b (exP f n 1001 (nxF f n i)).2.2 T)
noncomputable def lwC (l : Nat) (L : List Int) (T : Nat → Int) : Nat → Int := uT (uT (uT (emL L T) (2 + l) 1) (4 + l) (T 280)) (6 + l) (emL L T 280 - T 280)
noncomputable def waC (i : Int) (T : Nat → Int) : Nat → Int := lwC 0 (sLR f n 6 (exP f n 2058 (nxF f n i)).2.2) T
noncomputable def leC (i : Int) (T : Nat → Int) : Nat → Int := lwC 1 (trL f n (unR f n 6) (uLR f n 6) (exP f n 2058 (nxF f n i)).2.2) T
noncomputable def liC (k b i : Int) (T : Nat → Int) : Nat → Int := if tkF f n i = 1003 then kiC f n k i T else if tkF f n i = 1009 then buC f n b i T else if tkF f n i = 1010 then waC f n i T else if tkF f n i = 1011 then leC f n i T else T
noncomputable def lnC (k b i : Int) (T : Nat → Int) : Nat → Int := uT (liC f n k b i T) 0 (liC f n k b i T 0 + 1)
noncomputable def mnC : Nat → Int → Int → Int → (Nat → Int) → Nat → Int
  | 0, _, _, _, T => T
  | m + 1, i, k, b, T => if tkF f n i = 3001 then T else if (lnP f n k b i).1 = 0 then mnC m (lnP f n k b i).2.2 (inc (tkF f n i) 1003 k) (inc (tkF f n i) 1009 b) (lnC f n k b i T) else T
theorem mnC_e : ∀ (m j : Nat) (i k b : Int) (T : Nat → Int), 0 ≤ i → i ≤ n → (n - i).toNat < m → (n - i).toNat < j → mnC f n m i k b T = mnC f n j i k b T
  | 0, j, i, k, b, T, h0, h1, h2, h3 => by omega
  | m + 1, 0, i, k, b, T, h0, h1, h2, h3 => by omega
  | m + 1, j + 1, i, k, b, T, h0, h1, h2, h3 => by
    rw [mnC, mnC]
    by_cases z : tkF f n i = 3001
    · rw [if_pos z, if_pos z]
    · rw [if_neg z, if_neg z]
      by_cases y : (lnP f n k b i).1 = 0
      · rw [if_pos y, if_pos y]
        obtain ⟨c, d⟩ := ln_g f n k b i h0 y h1
        exact mnC_e m j _ _ _ _ (by omega) d (by omega) (by omega)
      · rw [if_neg y, if_neg y]
noncomputable def mqC (i k b : Int) : (Nat → Int) → Nat → Int := mnC f n (n + 1 - i).toNat i k b
theorem mqC_n {i k b : Int} (h : tkF f n i = 3001) (T : Nat → Int) : mqC f n i k b T = T := by
  unfold mqC
  cases (n + 1 - i).toNat with
  | zero => rfl
  | succ m => rw [mnC, if_pos h]
theorem mqC_y {i k b : Int} (h : 0 ≤ i ∧ i ≤ n) (ht : ¬ tkF f n i = 3001) (h1 : (lnP f n k b i).1 = 0) (T : Nat → Int) : mqC f n i k b T = mqC f n (lnP f n k b i).2.2 (inc (tkF f n i) 1003 k) (inc (tkF f n i) 1009 b) (lnC f n k b i T) := by
  obtain ⟨c, d⟩ := ln_g f n k b i h.1 h1 h.2
  unfold mqC
  rw [show (n + 1 - i).toNat = (n - i).toNat + 1 by omega, mnC, if_neg ht, if_pos h1]
  exact mnC_e f n _ _ _ _ _ _ (by omega) d (by omega) (by omega)
def T0 : Nat → Int := fun j => if j = 0 then 1 else 0
noncomputable def rdC : Nat → Int := mqC f n (hdP f n).2.2 0 0 T0
end RC2
end RC
end
section
/-! THE CLASS'S CONTENTS while it reads -/
theorem wx_at {M N : mm_M} {c k : Nat} {v : Int32} (e : N = wI M c k v) : N.1 c k = v := by rw [e]; exact u2_s _ _ _ _
theorem wx_ne {M N : mm_M} {c k j : Nat} {v : Int32} (e : N = wI M c k v) (h : j ≠ k) : N.1 c j = M.1 c j := by rw [e]; exact u2_b _ _ h
theorem wx_r {M N : mm_M} {c k : Nat} {v : Int32} (e : N = wI M c k v) : N.2.2 = M.2.2 := by rw [e]
theorem r_plan : ∀ p, p < mm_N → s_c p = 6 → s_c (s_p0 p 2) = 21 ∧ s_c (s_p0 p 3) = 22 ∧ s_c (s_p0 p 4) = 23 ∧ s_c (s_p0 p 5) = 24 := by decide +kernel
theorem r_stk : ∀ v, v < mm_N → s_c v = 8 → s_c (s_p0 v 1) = 25 ∧ s_c (s_p0 v 2) = 26 := by decide +kernel
def csX (M : mm_M) : Int := (M.1 (M.2.2 78 3) 6).toInt
theorem cs_r {M : mm_M} {v : Nat} (h : v = M.2.2 78 3) : (M.1 v 6).toInt = csX M := by rw [h]; rfl
theorem cs_f {pr : Nat → Nat → Bool} {Kz M M' : mm_M} (h : INV pr Kz M) (e : FR [78] M M') : csX M' = csX M := by
  have h3 := h.rm (i := 78) (c := 7) (k := 3) (t := 6) rfl rfl (by decide)
  unfold csX
  rw [e.2.1, e.1 (M.2.2 78 3) 6 (by intro z; simp at z; rw [z] at h3; exact absurd h3 (by decide))]
theorem cs_w {pr : Nat → Nat → Bool} {Kz M M' : mm_M} {i k c : Nat} {v : Int32} (h : INV pr Kz M) (hc : s_c i = c) (e : M' = wI M i k v) (hk : ¬ (c = 6 ∧ k = 6)) : csX M' = csX M := by
  have h3 := h.rm (i := 78) (c := 7) (k := 3) (t := 6) rfl rfl (by decide)
  have w : ∀ j n, ¬ (i = j ∧ k = n) → M'.1 j n = M.1 j n := fun j n q => by
    rw [e]
    by_cases q2 : j = i
    · exact u2_b _ _ (fun z => q ⟨q2.symm, z.symm⟩)
    · exact u2_a _ _ q2
  unfold csX
  rw [wx_r e, w _ 6 (fun z => hk ⟨by rw [← hc, z.1]; exact h3, z.2⟩)]
theorem cs_6 {M M' : mm_M} {i : Nat} {a : Int} (hi : i = M.2.2 78 3) (e : M' = wI M i 6 (sI a)) (ha : -2147483648 ≤ a ∧ a ≤ 2147483647) : csX M' = a := by
  unfold csX
  rw [wx_r e, ← hi, s_wr e ha]
theorem cs_J {M M' : mm_M} {i k : Nat} {v : Int64} (e : M' = wJ M i k v) : csX M' = csX M := by rw [e]; rfl
def AGF (P V Pr Gr Pu Mi Od Co : Nat → Int32) (q : Int × Int × Int × Int) (T : Nat → Int) : Prop :=
  ((P 0).toInt = T 1 ∧ (P 1).toInt = T 0 ∧ (P 6).toInt = T 280 ∧ (V 0).toInt = T 26 ∧ (V 3).toInt = T 27 ∧ (V 4).toInt = T 28 ∧ (V 5).toInt = T 29 ∧ (V 6).toInt = T 30 ∧ (V 8).toInt = T 32) ∧ ((P 7).toInt = q.1 ∧ (P 8).toInt = q.2.1 ∧ (P 9).toInt = q.2.2.1 ∧ (P 10).toInt = q.2.2.2) ∧ (∀ k : Nat, (k : Int) < T 26 → k < 8 → (Pr k).toInt = T (33 + k) ∧ (Gr k).toInt = T (41 + k)) ∧ (∀ b : Nat, (b : Int) < T 1 → b < 6 → (Pu b).toInt = T (8 + b) ∧ (Mi b).toInt = T (14 + b) ∧ (Od b).toInt = T (20 + b)) ∧ ∀ i : Nat, (i : Int) < T 280 → cmF (Co i).toInt = T (281 + i)
def AGW (T : Nat → Int) : Prop := 0 ≤ T 280 ∧ 0 ≤ T 26 ∧ 0 ≤ T 1
def AGP (M : mm_M) (p v : Nat) (q : Int × Int × Int × Int) (T : Nat → Int) : Prop := AGF (M.1 p) (M.1 v) (M.1 (s_p0 v 1)) (M.1 (s_p0 v 2)) (M.1 (s_p0 p 2)) (M.1 (s_p0 p 3)) (M.1 (s_p0 p 4)) (M.1 (s_p0 p 5)) q T ∧ AGW T ∧ s_c p = 6 ∧ s_c v = 8
def AGC (M : mm_M) (q : Int × Int × Int × Int) (T : Nat → Int) : Prop := AGP M (M.2.2 78 3) (M.2.2 78 4) q T
theorem ag_cd {p v : Nat} (cp : s_c p = 6) (cv : s_c v = 8) : (s_c (s_p0 p 2) = 21 ∧ s_c (s_p0 p 3) = 22 ∧ s_c (s_p0 p 4) = 23 ∧ s_c (s_p0 p 5) = 24) ∧ s_c (s_p0 v 1) = 25 ∧ s_c (s_p0 v 2) = 26 := ⟨r_plan p (s_c_lt cp (by decide)) cp, r_stk v (s_c_lt cv (by decide)) cv⟩
theorem agp_c {M N : mm_M} {p v : Nat} {q : Int × Int × Int × Int} {T : Nat → Int} (h : AGP M p v q T) (hc : ∀ i, s_c i = 6 ∨ s_c i = 8 ∨ (21 ≤ s_c i ∧ s_c i ≤ 26) → N.1 i = M.1 i) : AGP N p v q T := by
  obtain ⟨a, b, cp, cv⟩ := h
  obtain ⟨⟨c1, c2, c3, c4⟩, c5, c6⟩ := ag_cd cp cv
  refine ⟨?_, b, cp, cv⟩
  rw [hc p (by omega), hc v (by omega), hc (s_p0 v 1) (by omega), hc (s_p0 v 2) (by omega), hc (s_p0 p 2) (by omega), hc (s_p0 p 3) (by omega), hc (s_p0 p 4) (by omega), hc (s_p0 p 5) (by omega)]
  exact a
theorem agc_c {M N : mm_M} (h2 : N.2.2 = M.2.2) (hc : ∀ i, i ≠ 78 → N.1 i = M.1 i) (q : Int × Int × Int × Int) (T : Nat → Int) (h : AGC M q T) : AGC N q T := by
  unfold AGC
  rw [h2]
  exact agp_c h (fun i hi => hc i (fun z => by rw [z] at hi; exact absurd hi (by decide)))
theorem agc_78 {M N : mm_M} {k : Nat} {v : Int32} (e : N = wI M 78 k v) : ∀ q T, AGC M q T → AGC N q T := agc_c (wx_r e) (fun i hi => wc_x e hi)
theorem agc_F {M N : mm_M} (e : FR [78] M N) : ∀ q T, AGC M q T → AGC N q T := agc_c e.2.1 (fun i hi => funext fun k => e.1 i k (by simpa using hi))
/-- a code is written -/
theorem agc_em {M M1 N : mm_M} {p : Nat} {c y x : Int} (hp : p = M.2.2 78 3) (e2 : M1 = wI M (s_p0 p 5) c.toNat (sI x)) (e1 : N = wI M1 p 6 (sI y)) (hc : c = (M.1 p 6).toInt) (hy : y = c + 1 ∧ c < 900) (hx : -2147483648 ≤ x ∧ x ≤ 2147483647) (q : Int × Int × Int × Int) (T : Nat → Int) (h : AGC M q T) : AGC N q (emT (cmF x) T) := by
  subst hp
  unfold AGC at *
  rw [wx_r e1, wx_r e2]
  obtain ⟨⟨a1, a2, a3, a4, a5⟩, b, cp, cv⟩ := h
  obtain ⟨⟨c1, c2, c3, c4⟩, c5, c6⟩ := ag_cd cp cv
  have cs : c = T 280 := by rw [hc]; exact a1.2.2.1
  have b0 := b.1
  have k1 : ∀ i, s_c i ≠ 6 → s_c i ≠ 24 → N.1 i = M.1 i := fun i h6 h24 => (wc_x e1 (fun z => h6 (by rw [z]; exact cp))).trans (wc_x e2 (fun z => h24 (by rw [z]; exact c4)))
  have kp : ∀ j, j ≠ 6 → N.1 (M.2.2 78 3) j = M.1 (M.2.2 78 3) j := fun j hj => (wx_ne e1 hj).trans (by rw [wc_x e2 (s_ne cp c4 (by decide))])
  have kc : N.1 (s_p0 (M.2.2 78 3) 5) = M1.1 (s_p0 (M.2.2 78 3) 5) := wc_x e1 (s_ne c4 cp (by decide))
  have t : ∀ j : Nat, j < 280 → emT (cmF x) T j = T j := fun j hj => by unfold emT; rw [uT_o (by omega), uT_o (by omega)]
  have t6 : emT (cmF x) T 280 = T 280 + 1 := by unfold emT; exact uT_s
  refine ⟨⟨⟨?_, ?_, ?_, ?_, ?_, ?_, ?_, ?_, ?_⟩, ⟨?_, ?_, ?_, ?_⟩, fun k h1 h2 => ?_, fun k h1 h2 => ?_, fun i hi => ?_⟩, ⟨?_, ?_, ?_⟩, cp, cv⟩
  · rw [kp 0 (by decide), t 1 (by decide)]; exact a1.1
  · rw [kp 1 (by decide), t 0 (by decide)]; exact a1.2.1
  · rw [wx_at e1, sI_t (by omega), t6]; omega
  · rw [k1 _ (by rw [cv]; decide) (by rw [cv]; decide), t 26 (by decide)]; exact a1.2.2.2.1
  · rw [k1 _ (by rw [cv]; decide) (by rw [cv]; decide), t 27 (by decide)]; exact a1.2.2.2.2.1
  · rw [k1 _ (by rw [cv]; decide) (by rw [cv]; decide), t 28 (by decide)]; exact a1.2.2.2.2.2.1
  · rw [k1 _ (by rw [cv]; decide) (by rw [cv]; decide), t 29 (by decide)]; exact a1.2.2.2.2.2.2.1
  · rw [k1 _ (by rw [cv]; decide) (by rw [cv]; decide), t 30 (by decide)]; exact a1.2.2.2.2.2.2.2.1
  · rw [k1 _ (by rw [cv]; decide) (by rw [cv]; decide), t 32 (by decide)]; exact a1.2.2.2.2.2.2.2.2
  · rw [kp 7 (by decide)]; exact a2.1
  · rw [kp 8 (by decide)]; exact a2.2.1
  · rw [kp 9 (by decide)]; exact a2.2.2.1
  · rw [kp 10 (by decide)]; exact a2.2.2.2
  · rw [t 26 (by decide)] at h1
    rw [k1 _ (by rw [c5]; decide) (by rw [c5]; decide), k1 _ (by rw [c6]; decide) (by rw [c6]; decide), t _ (by omega), t _ (by omega)]
    exact a3 k h1 h2
  · rw [t 1 (by decide)] at h1
    rw [k1 _ (by rw [c1]; decide) (by rw [c1]; decide), k1 _ (by rw [c2]; decide) (by rw [c2]; decide), k1 _ (by rw [c3]; decide) (by rw [c3]; decide), t _ (by omega), t _ (by omega), t _ (by omega)]
    exact a4 k h1 h2
  · rw [t6] at hi
    rw [kc]
    unfold emT
    rw [uT_o (by omega)]
    by_cases z : i = c.toNat
    · rw [z, wx_at e2, sI_t hx, show 281 + c.toNat = (281 + T 280).toNat by omega, uT_s]
    · rw [wx_ne e2 z, uT_o (by omega)]; exact a5 i (by omega)
  · rw [t6]; omega
  · rw [t 26 (by decide)]; exact b.2.1
  · rw [t 1 (by decide)]; exact b.2.2
theorem agc_cl {M M1 N : mm_M} {p : Nat} {c y x : Int} (a : Int) (hp : p = M.2.2 78 3) (e2 : M1 = wI M (s_p0 p 5) c.toNat (sI x)) (e1 : N = wI M1 p 6 (sI y)) (hc : c = (M.1 p 6).toInt) (hy : y = c + 1 ∧ c < 900) (hx : -2147483648 ≤ x ∧ x ≤ 2147483647) : b01 (CL AGC a M N [cmF x]) = 1 := b01_i (Or.inr (fun q T h => agc_em hp e2 e1 hc hy hx q T h))
/-! writes of numbers -/
/-- one place of the stock or the plan, or of their arrays, is another -/
theorem agp_w {M N : mm_M} {p v c k : Nat} {x : Int32} {q : Int × Int × Int × Int} {T T' : Nat → Int} (h : AGP M p v q T) (e : N = wI M c k x) (hw : AGW T') (hF : ∀ P V Pr Gr Pu Mi Od Co : Nat → Int32, (∀ j, (p = c ∧ j = k) ∨ P j = M.1 p j) → (p = c → P k = x) → (∀ j, (v = c ∧ j = k) ∨ V j = M.1 v j) → (v = c → V k = x) → (∀ j, (s_p0 v 1 = c ∧ j = k) ∨ Pr j = M.1 (s_p0 v 1) j) → (s_p0 v 1 = c → Pr k = x) → (∀ j, (s_p0 v 2 = c ∧ j = k) ∨ Gr j = M.1 (s_p0 v 2) j) → (s_p0 v 2 = c → Gr k = x) → (∀ j, (s_p0 p 2 = c ∧ j = k) ∨ Pu j = M.1 (s_p0 p 2) j) → (s_p0 p 2 = c → Pu k = x) → (∀ j, (s_p0 p 3 = c ∧ j = k) ∨ Mi j = M.1 (s_p0 p 3) j) → (s_p0 p 3 = c → Mi k = x) → (∀ j, (s_p0 p 4 = c ∧ j = k) ∨ Od j = M.1 (s_p0 p 4) j) → (s_p0 p 4 = c → Od k = x) → (∀ j, (s_p0 p 5 = c ∧ j = k) ∨ Co j = M.1 (s_p0 p 5) j) → (s_p0 p 5 = c → Co k = x) → AGF P V Pr Gr Pu Mi Od Co q T') : AGP N p v q T' := by
  obtain ⟨_, _, cp, cv⟩ := h
  have w : ∀ a j, (a = c ∧ j = k) ∨ N.1 a j = M.1 a j := fun a j => by
    by_cases z : a = c
    · by_cases y : j = k
      · exact Or.inl ⟨z, y⟩
      · right; rw [z]; exact wx_ne e y
    · right; rw [wc_x e z]
  have s : ∀ a, a = c → N.1 a k = x := fun a z => by rw [z]; exact wx_at e
  exact ⟨hF _ _ _ _ _ _ _ _ (w _) (s _) (w _) (s _) (w _) (s _) (w _) (s _) (w _) (s _) (w _) (s _) (w _) (s _) (w _) (s _), hw, cp, cv⟩
theorem agc_gr {M N : mm_M} {v : Nat} {k : Int} {x : Int} (hv : v = M.2.2 78 4) (e : N = wI M (s_p0 v 2) k.toNat (sI x)) (hx : -2147483648 ≤ x ∧ x ≤ 2147483647) (hk : 0 ≤ k ∧ k < 8) (q : Int × Int × Int × Int) (T : Nat → Int) (h : AGC M q T) : AGC N q (uT T (41 + k).toNat x) := by
  subst hv
  unfold AGC at *
  rw [wx_r e]
  obtain ⟨⟨a1, a2, a3, a4, a5⟩, b, cp, cv⟩ := h
  obtain ⟨⟨c1, c2, c3, c4⟩, c5, c6⟩ := ag_cd cp cv
  have e_p : N.1 (M.2.2 78 3) = M.1 (M.2.2 78 3) := wc_x e (s_ne cp c6 (by decide))
  have e_v : N.1 (M.2.2 78 4) = M.1 (M.2.2 78 4) := wc_x e (s_ne cv c6 (by decide))
  have e_v1 : N.1 (s_p0 (M.2.2 78 4) 1) = M.1 (s_p0 (M.2.2 78 4) 1) := wc_x e (s_ne c5 c6 (by decide))
  have e_p2 : N.1 (s_p0 (M.2.2 78 3) 2) = M.1 (s_p0 (M.2.2 78 3) 2) := wc_x e (s_ne c1 c6 (by decide))
  have e_p3 : N.1 (s_p0 (M.2.2 78 3) 3) = M.1 (s_p0 (M.2.2 78 3) 3) := wc_x e (s_ne c2 c6 (by decide))
  have e_p4 : N.1 (s_p0 (M.2.2 78 3) 4) = M.1 (s_p0 (M.2.2 78 3) 4) := wc_x e (s_ne c3 c6 (by decide))
  have e_p5 : N.1 (s_p0 (M.2.2 78 3) 5) = M.1 (s_p0 (M.2.2 78 3) 5) := wc_x e (s_ne c4 c6 (by decide))
  refine ⟨⟨⟨?_, ?_, ?_, ?_, ?_, ?_, ?_, ?_, ?_⟩, ⟨?_, ?_, ?_, ?_⟩, fun j h1 h2 => ?_, fun j h1 h2 => ?_, fun j h1 => ?_⟩, ?_, cp, cv⟩
  · rw [e_p]; rw [uT_o (by omega)]; exact a1.1
  · rw [e_p]; rw [uT_o (by omega)]; exact a1.2.1
  · rw [e_p]; rw [uT_o (by omega)]; exact a1.2.2.1
  · rw [e_v]; rw [uT_o (by omega)]; exact a1.2.2.2.1
  · rw [e_v]; rw [uT_o (by omega)]; exact a1.2.2.2.2.1
  · rw [e_v]; rw [uT_o (by omega)]; exact a1.2.2.2.2.2.1
  · rw [e_v]; rw [uT_o (by omega)]; exact a1.2.2.2.2.2.2.1
  · rw [e_v]; rw [uT_o (by omega)]; exact a1.2.2.2.2.2.2.2.1
  · rw [e_v]; rw [uT_o (by omega)]; exact a1.2.2.2.2.2.2.2.2
  · rw [e_p]; exact a2.1
  · rw [e_p]; exact a2.2.1
  · rw [e_p]; exact a2.2.2.1
  · rw [e_p]; exact a2.2.2.2
  · rw [uT_o (by omega)] at h1
    have z := a3 j h1 h2
    exact ⟨by rw [e_v1]; rw [uT_o (by omega)]; exact z.1, by
      by_cases y : j = k.toNat
      · rw [y, wx_at e, sI_t hx, show 41 + k.toNat = (41 + k).toNat by omega]; exact uT_s.symm
      · rw [wx_ne e y, uT_o (by omega)]; exact z.2⟩
  · rw [uT_o (by omega)] at h1
    have z := a4 j h1 h2
    exact ⟨by rw [e_p2]; rw [uT_o (by omega)]; exact z.1, by rw [e_p3]; rw [uT_o (by omega)]; exact z.2.1, by rw [e_p4]; rw [uT_o (by omega)]; exact z.2.2⟩
  · rw [uT_o (by omega)] at h1; rw [e_p5]; rw [uT_o (by omega)]; exact a5 j h1
  · unfold AGW; rw [uT_o (by omega), uT_o (by omega), uT_o (by omega)]; exact b
theorem agc_v3 {M N : mm_M} {v : Nat} {x : Int} (hv : v = M.2.2 78 4) (e : N = wI M v 3 (sI x)) (hx : -2147483648 ≤ x ∧ x ≤ 2147483647) (q : Int × Int × Int × Int) (T : Nat → Int) (h : AGC M q T) : AGC N q (uT T 27 x) := by
  subst hv
  unfold AGC at *
  rw [wx_r e]
  obtain ⟨⟨a1, a2, a3, a4, a5⟩, b, cp, cv⟩ := h
  obtain ⟨⟨c1, c2, c3, c4⟩, c5, c6⟩ := ag_cd cp cv
  have e_p : N.1 (M.2.2 78 3) = M.1 (M.2.2 78 3) := wc_x e (s_ne cp cv (by decide))
  have e_v1 : N.1 (s_p0 (M.2.2 78 4) 1) = M.1 (s_p0 (M.2.2 78 4) 1) := wc_x e (s_ne c5 cv (by decide))
  have e_v2 : N.1 (s_p0 (M.2.2 78 4) 2) = M.1 (s_p0 (M.2.2 78 4) 2) := wc_x e (s_ne c6 cv (by decide))
  have e_p2 : N.1 (s_p0 (M.2.2 78 3) 2) = M.1 (s_p0 (M.2.2 78 3) 2) := wc_x e (s_ne c1 cv (by decide))
  have e_p3 : N.1 (s_p0 (M.2.2 78 3) 3) = M.1 (s_p0 (M.2.2 78 3) 3) := wc_x e (s_ne c2 cv (by decide))
  have e_p4 : N.1 (s_p0 (M.2.2 78 3) 4) = M.1 (s_p0 (M.2.2 78 3) 4) := wc_x e (s_ne c3 cv (by decide))
  have e_p5 : N.1 (s_p0 (M.2.2 78 3) 5) = M.1 (s_p0 (M.2.2 78 3) 5) := wc_x e (s_ne c4 cv (by decide))
  refine ⟨⟨⟨?_, ?_, ?_, ?_, ?_, ?_, ?_, ?_, ?_⟩, ⟨?_, ?_, ?_, ?_⟩, fun j h1 h2 => ?_, fun j h1 h2 => ?_, fun j h1 => ?_⟩, ?_, cp, cv⟩
  · rw [e_p]; rw [uT_o (by omega)]; exact a1.1
  · rw [e_p]; rw [uT_o (by omega)]; exact a1.2.1
  · rw [e_p]; rw [uT_o (by omega)]; exact a1.2.2.1
  · rw [wx_ne e (by decide)]; rw [uT_o (by omega)]; exact a1.2.2.2.1
  · rw [wx_at e, sI_t hx]; exact uT_s.symm
  · rw [wx_ne e (by decide)]; rw [uT_o (by omega)]; exact a1.2.2.2.2.2.1
  · rw [wx_ne e (by decide)]; rw [uT_o (by omega)]; exact a1.2.2.2.2.2.2.1
  · rw [wx_ne e (by decide)]; rw [uT_o (by omega)]; exact a1.2.2.2.2.2.2.2.1
  · rw [wx_ne e (by decide)]; rw [uT_o (by omega)]; exact a1.2.2.2.2.2.2.2.2
  · rw [e_p]; exact a2.1
  · rw [e_p]; exact a2.2.1
  · rw [e_p]; exact a2.2.2.1
  · rw [e_p]; exact a2.2.2.2
  · rw [uT_o (by omega)] at h1
    have z := a3 j h1 h2
    exact ⟨by rw [e_v1]; rw [uT_o (by omega)]; exact z.1, by rw [e_v2]; rw [uT_o (by omega)]; exact z.2⟩
  · rw [uT_o (by omega)] at h1
    have z := a4 j h1 h2
    exact ⟨by rw [e_p2]; rw [uT_o (by omega)]; exact z.1, by rw [e_p3]; rw [uT_o (by omega)]; exact z.2.1, by rw [e_p4]; rw [uT_o (by omega)]; exact z.2.2⟩
  · rw [uT_o (by omega)] at h1; rw [e_p5]; rw [uT_o (by omega)]; exact a5 j h1
  · unfold AGW; rw [uT_o (by omega), uT_o (by omega), uT_o (by omega)]; exact b
theorem agc_v4 {M N : mm_M} {v : Nat} {x : Int} (hv : v = M.2.2 78 4) (e : N = wI M v 4 (sI x)) (hx : -2147483648 ≤ x ∧ x ≤ 2147483647) (q : Int × Int × Int × Int) (T : Nat → Int) (h : AGC M q T) : AGC N q (uT T 28 x) := by
  subst hv
  unfold AGC at *
  rw [wx_r e]
  obtain ⟨⟨a1, a2, a3, a4, a5⟩, b, cp, cv⟩ := h
  obtain ⟨⟨c1, c2, c3, c4⟩, c5, c6⟩ := ag_cd cp cv
  have e_p : N.1 (M.2.2 78 3) = M.1 (M.2.2 78 3) := wc_x e (s_ne cp cv (by decide))
  have e_v1 : N.1 (s_p0 (M.2.2 78 4) 1) = M.1 (s_p0 (M.2.2 78 4) 1) := wc_x e (s_ne c5 cv (by decide))
  have e_v2 : N.1 (s_p0 (M.2.2 78 4) 2) = M.1 (s_p0 (M.2.2 78 4) 2) := wc_x e (s_ne c6 cv (by decide))
  have e_p2 : N.1 (s_p0 (M.2.2 78 3) 2) = M.1 (s_p0 (M.2.2 78 3) 2) := wc_x e (s_ne c1 cv (by decide))
  have e_p3 : N.1 (s_p0 (M.2.2 78 3) 3) = M.1 (s_p0 (M.2.2 78 3) 3) := wc_x e (s_ne c2 cv (by decide))
  have e_p4 : N.1 (s_p0 (M.2.2 78 3) 4) = M.1 (s_p0 (M.2.2 78 3) 4) := wc_x e (s_ne c3 cv (by decide))
  have e_p5 : N.1 (s_p0 (M.2.2 78 3) 5) = M.1 (s_p0 (M.2.2 78 3) 5) := wc_x e (s_ne c4 cv (by decide))
  refine ⟨⟨⟨?_, ?_, ?_, ?_, ?_, ?_, ?_, ?_, ?_⟩, ⟨?_, ?_, ?_, ?_⟩, fun j h1 h2 => ?_, fun j h1 h2 => ?_, fun j h1 => ?_⟩, ?_, cp, cv⟩
  · rw [e_p]; rw [uT_o (by omega)]; exact a1.1
  · rw [e_p]; rw [uT_o (by omega)]; exact a1.2.1
  · rw [e_p]; rw [uT_o (by omega)]; exact a1.2.2.1
  · rw [wx_ne e (by decide)]; rw [uT_o (by omega)]; exact a1.2.2.2.1
  · rw [wx_ne e (by decide)]; rw [uT_o (by omega)]; exact a1.2.2.2.2.1
  · rw [wx_at e, sI_t hx]; exact uT_s.symm
  · rw [wx_ne e (by decide)]; rw [uT_o (by omega)]; exact a1.2.2.2.2.2.2.1
  · rw [wx_ne e (by decide)]; rw [uT_o (by omega)]; exact a1.2.2.2.2.2.2.2.1
  · rw [wx_ne e (by decide)]; rw [uT_o (by omega)]; exact a1.2.2.2.2.2.2.2.2
  · rw [e_p]; exact a2.1
  · rw [e_p]; exact a2.2.1
  · rw [e_p]; exact a2.2.2.1
  · rw [e_p]; exact a2.2.2.2
  · rw [uT_o (by omega)] at h1
    have z := a3 j h1 h2
    exact ⟨by rw [e_v1]; rw [uT_o (by omega)]; exact z.1, by rw [e_v2]; rw [uT_o (by omega)]; exact z.2⟩
  · rw [uT_o (by omega)] at h1
    have z := a4 j h1 h2
    exact ⟨by rw [e_p2]; rw [uT_o (by omega)]; exact z.1, by rw [e_p3]; rw [uT_o (by omega)]; exact z.2.1, by rw [e_p4]; rw [uT_o (by omega)]; exact z.2.2⟩
  · rw [uT_o (by omega)] at h1; rw [e_p5]; rw [uT_o (by omega)]; exact a5 j h1
  · unfold AGW; rw [uT_o (by omega), uT_o (by omega), uT_o (by omega)]; exact b
theorem agc_mi {M N : mm_M} {p : Nat} {k : Int} {x : Int} (hv : p = M.2.2 78 3) (e : N = wI M (s_p0 p 3) k.toNat (sI x)) (hx : -2147483648 ≤ x ∧ x ≤ 2147483647) (hk : 0 ≤ k ∧ k < 6) (q : Int × Int × Int × Int) (T : Nat → Int) (h : AGC M q T) : AGC N q (uT T (14 + k).toNat x) := by
  subst hv
  unfold AGC at *
  rw [wx_r e]
  obtain ⟨⟨a1, a2, a3, a4, a5⟩, b, cp, cv⟩ := h
  obtain ⟨⟨c1, c2, c3, c4⟩, c5, c6⟩ := ag_cd cp cv
  have e_p : N.1 (M.2.2 78 3) = M.1 (M.2.2 78 3) := wc_x e (s_ne cp c2 (by decide))
  have e_v : N.1 (M.2.2 78 4) = M.1 (M.2.2 78 4) := wc_x e (s_ne cv c2 (by decide))
  have e_v1 : N.1 (s_p0 (M.2.2 78 4) 1) = M.1 (s_p0 (M.2.2 78 4) 1) := wc_x e (s_ne c5 c2 (by decide))
  have e_v2 : N.1 (s_p0 (M.2.2 78 4) 2) = M.1 (s_p0 (M.2.2 78 4) 2) := wc_x e (s_ne c6 c2 (by decide))
  have e_p2 : N.1 (s_p0 (M.2.2 78 3) 2) = M.1 (s_p0 (M.2.2 78 3) 2) := wc_x e (s_ne c1 c2 (by decide))
  have e_p4 : N.1 (s_p0 (M.2.2 78 3) 4) = M.1 (s_p0 (M.2.2 78 3) 4) := wc_x e (s_ne c3 c2 (by decide))
  have e_p5 : N.1 (s_p0 (M.2.2 78 3) 5) = M.1 (s_p0 (M.2.2 78 3) 5) := wc_x e (s_ne c4 c2 (by decide))
  refine ⟨⟨⟨?_, ?_, ?_, ?_, ?_, ?_, ?_, ?_, ?_⟩, ⟨?_, ?_, ?_, ?_⟩, fun j h1 h2 => ?_, fun j h1 h2 => ?_, fun j h1 => ?_⟩, ?_, cp, cv⟩
  · rw [e_p]; rw [uT_o (by omega)]; exact a1.1
  · rw [e_p]; rw [uT_o (by omega)]; exact a1.2.1
  · rw [e_p]; rw [uT_o (by omega)]; exact a1.2.2.1
  · rw [e_v]; rw [uT_o (by omega)]; exact a1.2.2.2.1
  · rw [e_v]; rw [uT_o (by omega)]; exact a1.2.2.2.2.1
  · rw [e_v]; rw [uT_o (by omega)]; exact a1.2.2.2.2.2.1
  · rw [e_v]; rw [uT_o (by omega)]; exact a1.2.2.2.2.2.2.1
  · rw [e_v]; rw [uT_o (by omega)]; exact a1.2.2.2.2.2.2.2.1
  · rw [e_v]; rw [uT_o (by omega)]; exact a1.2.2.2.2.2.2.2.2
  · rw [e_p]; exact a2.1
  · rw [e_p]; exact a2.2.1
  · rw [e_p]; exact a2.2.2.1
  · rw [e_p]; exact a2.2.2.2
  · rw [uT_o (by omega)] at h1
    have z := a3 j h1 h2
    exact ⟨by rw [e_v1]; rw [uT_o (by omega)]; exact z.1, by rw [e_v2]; rw [uT_o (by omega)]; exact z.2⟩
  · rw [uT_o (by omega)] at h1
    have z := a4 j h1 h2
    exact ⟨by rw [e_p2]; rw [uT_o (by omega)]; exact z.1, by
      by_cases y : j = k.toNat
      · rw [y, wx_at e, sI_t hx, show 14 + k.toNat = (14 + k).toNat by omega]; exact uT_s.symm
      · rw [wx_ne e y, uT_o (by omega)]; exact z.2.1, by rw [e_p4]; rw [uT_o (by omega)]; exact z.2.2⟩
  · rw [uT_o (by omega)] at h1; rw [e_p5]; rw [uT_o (by omega)]; exact a5 j h1
  · unfold AGW; rw [uT_o (by omega), uT_o (by omega), uT_o (by omega)]; exact b
theorem agc_od {M N : mm_M} {p : Nat} {k : Int} {x : Int} (hv : p = M.2.2 78 3) (e : N = wI M (s_p0 p 4) k.toNat (sI x)) (hx : -2147483648 ≤ x ∧ x ≤ 2147483647) (hk : 0 ≤ k ∧ k < 6) (q : Int × Int × Int × Int) (T : Nat → Int) (h : AGC M q T) : AGC N q (uT T (20 + k).toNat x) := by
  subst hv
  unfold AGC at *
  rw [wx_r e]
  obtain ⟨⟨a1, a2, a3, a4, a5⟩, b, cp, cv⟩ := h
  obtain ⟨⟨c1, c2, c3, c4⟩, c5, c6⟩ := ag_cd cp cv
  have e_p : N.1 (M.2.2 78 3) = M.1 (M.2.2 78 3) := wc_x e (s_ne cp c3 (by decide))
  have e_v : N.1 (M.2.2 78 4) = M.1 (M.2.2 78 4) := wc_x e (s_ne cv c3 (by decide))
  have e_v1 : N.1 (s_p0 (M.2.2 78 4) 1) = M.1 (s_p0 (M.2.2 78 4) 1) := wc_x e (s_ne c5 c3 (by decide))
  have e_v2 : N.1 (s_p0 (M.2.2 78 4) 2) = M.1 (s_p0 (M.2.2 78 4) 2) := wc_x e (s_ne c6 c3 (by decide))
  have e_p2 : N.1 (s_p0 (M.2.2 78 3) 2) = M.1 (s_p0 (M.2.2 78 3) 2) := wc_x e (s_ne c1 c3 (by decide))
  have e_p3 : N.1 (s_p0 (M.2.2 78 3) 3) = M.1 (s_p0 (M.2.2 78 3) 3) := wc_x e (s_ne c2 c3 (by decide))
  have e_p5 : N.1 (s_p0 (M.2.2 78 3) 5) = M.1 (s_p0 (M.2.2 78 3) 5) := wc_x e (s_ne c4 c3 (by decide))
  refine ⟨⟨⟨?_, ?_, ?_, ?_, ?_, ?_, ?_, ?_, ?_⟩, ⟨?_, ?_, ?_, ?_⟩, fun j h1 h2 => ?_, fun j h1 h2 => ?_, fun j h1 => ?_⟩, ?_, cp, cv⟩
  · rw [e_p]; rw [uT_o (by omega)]; exact a1.1
  · rw [e_p]; rw [uT_o (by omega)]; exact a1.2.1
  · rw [e_p]; rw [uT_o (by omega)]; exact a1.2.2.1
  · rw [e_v]; rw [uT_o (by omega)]; exact a1.2.2.2.1
  · rw [e_v]; rw [uT_o (by omega)]; exact a1.2.2.2.2.1
  · rw [e_v]; rw [uT_o (by omega)]; exact a1.2.2.2.2.2.1
  · rw [e_v]; rw [uT_o (by omega)]; exact a1.2.2.2.2.2.2.1
  · rw [e_v]; rw [uT_o (by omega)]; exact a1.2.2.2.2.2.2.2.1
  · rw [e_v]; rw [uT_o (by omega)]; exact a1.2.2.2.2.2.2.2.2
  · rw [e_p]; exact a2.1
  · rw [e_p]; exact a2.2.1
  · rw [e_p]; exact a2.2.2.1
  · rw [e_p]; exact a2.2.2.2
  · rw [uT_o (by omega)] at h1
    have z := a3 j h1 h2
    exact ⟨by rw [e_v1]; rw [uT_o (by omega)]; exact z.1, by rw [e_v2]; rw [uT_o (by omega)]; exact z.2⟩
  · rw [uT_o (by omega)] at h1
    have z := a4 j h1 h2
    exact ⟨by rw [e_p2]; rw [uT_o (by omega)]; exact z.1, by rw [e_p3]; rw [uT_o (by omega)]; exact z.2.1, by
      by_cases y : j = k.toNat
      · rw [y, wx_at e, sI_t hx, show 20 + k.toNat = (20 + k).toNat by omega]; exact uT_s.symm
      · rw [wx_ne e y, uT_o (by omega)]; exact z.2.2⟩
  · rw [uT_o (by omega)] at h1; rw [e_p5]; rw [uT_o (by omega)]; exact a5 j h1
  · unfold AGW; rw [uT_o (by omega), uT_o (by omega), uT_o (by omega)]; exact b
theorem agc_p1 {M N : mm_M} {p : Nat} {x : Int} (hv : p = M.2.2 78 3) (e : N = wI M p 1 (sI x)) (hx : -2147483648 ≤ x ∧ x ≤ 2147483647) (q : Int × Int × Int × Int) (T : Nat → Int) (h : AGC M q T) : AGC N q (uT T 0 x) := by
  subst hv
  unfold AGC at *
  rw [wx_r e]
  obtain ⟨⟨a1, a2, a3, a4, a5⟩, b, cp, cv⟩ := h
  obtain ⟨⟨c1, c2, c3, c4⟩, c5, c6⟩ := ag_cd cp cv
  have e_v : N.1 (M.2.2 78 4) = M.1 (M.2.2 78 4) := wc_x e (s_ne cv cp (by decide))
  have e_v1 : N.1 (s_p0 (M.2.2 78 4) 1) = M.1 (s_p0 (M.2.2 78 4) 1) := wc_x e (s_ne c5 cp (by decide))
  have e_v2 : N.1 (s_p0 (M.2.2 78 4) 2) = M.1 (s_p0 (M.2.2 78 4) 2) := wc_x e (s_ne c6 cp (by decide))
  have e_p2 : N.1 (s_p0 (M.2.2 78 3) 2) = M.1 (s_p0 (M.2.2 78 3) 2) := wc_x e (s_ne c1 cp (by decide))
  have e_p3 : N.1 (s_p0 (M.2.2 78 3) 3) = M.1 (s_p0 (M.2.2 78 3) 3) := wc_x e (s_ne c2 cp (by decide))
  have e_p4 : N.1 (s_p0 (M.2.2 78 3) 4) = M.1 (s_p0 (M.2.2 78 3) 4) := wc_x e (s_ne c3 cp (by decide))
  have e_p5 : N.1 (s_p0 (M.2.2 78 3) 5) = M.1 (s_p0 (M.2.2 78 3) 5) := wc_x e (s_ne c4 cp (by decide))
  refine ⟨⟨⟨?_, ?_, ?_, ?_, ?_, ?_, ?_, ?_, ?_⟩, ⟨?_, ?_, ?_, ?_⟩, fun j h1 h2 => ?_, fun j h1 h2 => ?_, fun j h1 => ?_⟩, ?_, cp, cv⟩
  · rw [wx_ne e (by decide)]; rw [uT_o (by omega)]; exact a1.1
  · rw [wx_at e, sI_t hx]; exact uT_s.symm
  · rw [wx_ne e (by decide)]; rw [uT_o (by omega)]; exact a1.2.2.1
  · rw [e_v]; rw [uT_o (by omega)]; exact a1.2.2.2.1
  · rw [e_v]; rw [uT_o (by omega)]; exact a1.2.2.2.2.1
  · rw [e_v]; rw [uT_o (by omega)]; exact a1.2.2.2.2.2.1
  · rw [e_v]; rw [uT_o (by omega)]; exact a1.2.2.2.2.2.2.1
  · rw [e_v]; rw [uT_o (by omega)]; exact a1.2.2.2.2.2.2.2.1
  · rw [e_v]; rw [uT_o (by omega)]; exact a1.2.2.2.2.2.2.2.2
  · rw [wx_ne e (by decide)]; exact a2.1
  · rw [wx_ne e (by decide)]; exact a2.2.1
  · rw [wx_ne e (by decide)]; exact a2.2.2.1
  · rw [wx_ne e (by decide)]; exact a2.2.2.2
  · rw [uT_o (by omega)] at h1
    have z := a3 j h1 h2
    exact ⟨by rw [e_v1]; rw [uT_o (by omega)]; exact z.1, by rw [e_v2]; rw [uT_o (by omega)]; exact z.2⟩
  · rw [uT_o (by omega)] at h1
    have z := a4 j h1 h2
    exact ⟨by rw [e_p2]; rw [uT_o (by omega)]; exact z.1, by rw [e_p3]; rw [uT_o (by omega)]; exact z.2.1, by rw [e_p4]; rw [uT_o (by omega)]; exact z.2.2⟩
  · rw [uT_o (by omega)] at h1; rw [e_p5]; rw [uT_o (by omega)]; exact a5 j h1
  · unfold AGW; rw [uT_o (by omega), uT_o (by omega), uT_o (by omega)]; exact b
theorem agc_p7 {M N : mm_M} {p : Nat} {x : Int} (hv : p = M.2.2 78 3) (e : N = wI M p 7 (sI x)) (hx : -2147483648 ≤ x ∧ x ≤ 2147483647) (q : Int × Int × Int × Int) (T : Nat → Int) (h : AGC M q T) : AGC N (x, q.2.1, q.2.2.1, q.2.2.2) T := by
  subst hv
  unfold AGC at *
  rw [wx_r e]
  obtain ⟨⟨a1, a2, a3, a4, a5⟩, b, cp, cv⟩ := h
  obtain ⟨⟨c1, c2, c3, c4⟩, c5, c6⟩ := ag_cd cp cv
  have e_v : N.1 (M.2.2 78 4) = M.1 (M.2.2 78 4) := wc_x e (s_ne cv cp (by decide))
  have e_v1 : N.1 (s_p0 (M.2.2 78 4) 1) = M.1 (s_p0 (M.2.2 78 4) 1) := wc_x e (s_ne c5 cp (by decide))
  have e_v2 : N.1 (s_p0 (M.2.2 78 4) 2) = M.1 (s_p0 (M.2.2 78 4) 2) := wc_x e (s_ne c6 cp (by decide))
  have e_p2 : N.1 (s_p0 (M.2.2 78 3) 2) = M.1 (s_p0 (M.2.2 78 3) 2) := wc_x e (s_ne c1 cp (by decide))
  have e_p3 : N.1 (s_p0 (M.2.2 78 3) 3) = M.1 (s_p0 (M.2.2 78 3) 3) := wc_x e (s_ne c2 cp (by decide))
  have e_p4 : N.1 (s_p0 (M.2.2 78 3) 4) = M.1 (s_p0 (M.2.2 78 3) 4) := wc_x e (s_ne c3 cp (by decide))
  have e_p5 : N.1 (s_p0 (M.2.2 78 3) 5) = M.1 (s_p0 (M.2.2 78 3) 5) := wc_x e (s_ne c4 cp (by decide))
  refine ⟨⟨⟨?_, ?_, ?_, ?_, ?_, ?_, ?_, ?_, ?_⟩, ⟨?_, ?_, ?_, ?_⟩, fun j h1 h2 => ?_, fun j h1 h2 => ?_, fun j h1 => ?_⟩, ?_, cp, cv⟩
  · rw [wx_ne e (by decide)]; exact a1.1
  · rw [wx_ne e (by decide)]; exact a1.2.1
  · rw [wx_ne e (by decide)]; exact a1.2.2.1
  · rw [e_v]; exact a1.2.2.2.1
  · rw [e_v]; exact a1.2.2.2.2.1
  · rw [e_v]; exact a1.2.2.2.2.2.1
  · rw [e_v]; exact a1.2.2.2.2.2.2.1
  · rw [e_v]; exact a1.2.2.2.2.2.2.2.1
  · rw [e_v]; exact a1.2.2.2.2.2.2.2.2
  · rw [wx_at e, sI_t hx]
  · rw [wx_ne e (by decide)]; exact a2.2.1
  · rw [wx_ne e (by decide)]; exact a2.2.2.1
  · rw [wx_ne e (by decide)]; exact a2.2.2.2
  · skip
    have z := a3 j h1 h2
    exact ⟨by rw [e_v1]; exact z.1, by rw [e_v2]; exact z.2⟩
  · skip
    have z := a4 j h1 h2
    exact ⟨by rw [e_p2]; exact z.1, by rw [e_p3]; exact z.2.1, by rw [e_p4]; exact z.2.2⟩
  · rw [e_p5]; exact a5 j h1
  · exact b
theorem agc_p8 {M N : mm_M} {p : Nat} {x : Int} (hv : p = M.2.2 78 3) (e : N = wI M p 8 (sI x)) (hx : -2147483648 ≤ x ∧ x ≤ 2147483647) (q : Int × Int × Int × Int) (T : Nat → Int) (h : AGC M q T) : AGC N (q.1, x, q.2.2.1, q.2.2.2) T := by
  subst hv
  unfold AGC at *
  rw [wx_r e]
  obtain ⟨⟨a1, a2, a3, a4, a5⟩, b, cp, cv⟩ := h
  obtain ⟨⟨c1, c2, c3, c4⟩, c5, c6⟩ := ag_cd cp cv
  have e_v : N.1 (M.2.2 78 4) = M.1 (M.2.2 78 4) := wc_x e (s_ne cv cp (by decide))
  have e_v1 : N.1 (s_p0 (M.2.2 78 4) 1) = M.1 (s_p0 (M.2.2 78 4) 1) := wc_x e (s_ne c5 cp (by decide))
  have e_v2 : N.1 (s_p0 (M.2.2 78 4) 2) = M.1 (s_p0 (M.2.2 78 4) 2) := wc_x e (s_ne c6 cp (by decide))
  have e_p2 : N.1 (s_p0 (M.2.2 78 3) 2) = M.1 (s_p0 (M.2.2 78 3) 2) := wc_x e (s_ne c1 cp (by decide))
  have e_p3 : N.1 (s_p0 (M.2.2 78 3) 3) = M.1 (s_p0 (M.2.2 78 3) 3) := wc_x e (s_ne c2 cp (by decide))
  have e_p4 : N.1 (s_p0 (M.2.2 78 3) 4) = M.1 (s_p0 (M.2.2 78 3) 4) := wc_x e (s_ne c3 cp (by decide))
  have e_p5 : N.1 (s_p0 (M.2.2 78 3) 5) = M.1 (s_p0 (M.2.2 78 3) 5) := wc_x e (s_ne c4 cp (by decide))
  refine ⟨⟨⟨?_, ?_, ?_, ?_, ?_, ?_, ?_, ?_, ?_⟩, ⟨?_, ?_, ?_, ?_⟩, fun j h1 h2 => ?_, fun j h1 h2 => ?_, fun j h1 => ?_⟩, ?_, cp, cv⟩
  · rw [wx_ne e (by decide)]; exact a1.1
  · rw [wx_ne e (by decide)]; exact a1.2.1
  · rw [wx_ne e (by decide)]; exact a1.2.2.1
  · rw [e_v]; exact a1.2.2.2.1
  · rw [e_v]; exact a1.2.2.2.2.1
  · rw [e_v]; exact a1.2.2.2.2.2.1
  · rw [e_v]; exact a1.2.2.2.2.2.2.1
  · rw [e_v]; exact a1.2.2.2.2.2.2.2.1
  · rw [e_v]; exact a1.2.2.2.2.2.2.2.2
  · rw [wx_ne e (by decide)]; exact a2.1
  · rw [wx_at e, sI_t hx]
  · rw [wx_ne e (by decide)]; exact a2.2.2.1
  · rw [wx_ne e (by decide)]; exact a2.2.2.2
  · skip
    have z := a3 j h1 h2
    exact ⟨by rw [e_v1]; exact z.1, by rw [e_v2]; exact z.2⟩
  · skip
    have z := a4 j h1 h2
    exact ⟨by rw [e_p2]; exact z.1, by rw [e_p3]; exact z.2.1, by rw [e_p4]; exact z.2.2⟩
  · rw [e_p5]; exact a5 j h1
  · exact b
theorem agc_p9 {M N : mm_M} {p : Nat} {x : Int} (hv : p = M.2.2 78 3) (e : N = wI M p 9 (sI x)) (hx : -2147483648 ≤ x ∧ x ≤ 2147483647) (q : Int × Int × Int × Int) (T : Nat → Int) (h : AGC M q T) : AGC N (q.1, q.2.1, x, q.2.2.2) T := by
  subst hv
  unfold AGC at *
  rw [wx_r e]
  obtain ⟨⟨a1, a2, a3, a4, a5⟩, b, cp, cv⟩ := h
  obtain ⟨⟨c1, c2, c3, c4⟩, c5, c6⟩ := ag_cd cp cv
  have e_v : N.1 (M.2.2 78 4) = M.1 (M.2.2 78 4) := wc_x e (s_ne cv cp (by decide))
  have e_v1 : N.1 (s_p0 (M.2.2 78 4) 1) = M.1 (s_p0 (M.2.2 78 4) 1) := wc_x e (s_ne c5 cp (by decide))
  have e_v2 : N.1 (s_p0 (M.2.2 78 4) 2) = M.1 (s_p0 (M.2.2 78 4) 2) := wc_x e (s_ne c6 cp (by decide))
  have e_p2 : N.1 (s_p0 (M.2.2 78 3) 2) = M.1 (s_p0 (M.2.2 78 3) 2) := wc_x e (s_ne c1 cp (by decide))
  have e_p3 : N.1 (s_p0 (M.2.2 78 3) 3) = M.1 (s_p0 (M.2.2 78 3) 3) := wc_x e (s_ne c2 cp (by decide))
  have e_p4 : N.1 (s_p0 (M.2.2 78 3) 4) = M.1 (s_p0 (M.2.2 78 3) 4) := wc_x e (s_ne c3 cp (by decide))
  have e_p5 : N.1 (s_p0 (M.2.2 78 3) 5) = M.1 (s_p0 (M.2.2 78 3) 5) := wc_x e (s_ne c4 cp (by decide))
  refine ⟨⟨⟨?_, ?_, ?_, ?_, ?_, ?_, ?_, ?_, ?_⟩, ⟨?_, ?_, ?_, ?_⟩, fun j h1 h2 => ?_, fun j h1 h2 => ?_, fun j h1 => ?_⟩, ?_, cp, cv⟩
  · rw [wx_ne e (by decide)]; exact a1.1
  · rw [wx_ne e (by decide)]; exact a1.2.1
  · rw [wx_ne e (by decide)]; exact a1.2.2.1
  · rw [e_v]; exact a1.2.2.2.1
  · rw [e_v]; exact a1.2.2.2.2.1
  · rw [e_v]; exact a1.2.2.2.2.2.1
  · rw [e_v]; exact a1.2.2.2.2.2.2.1
  · rw [e_v]; exact a1.2.2.2.2.2.2.2.1
  · rw [e_v]; exact a1.2.2.2.2.2.2.2.2
  · rw [wx_ne e (by decide)]; exact a2.1
  · rw [wx_ne e (by decide)]; exact a2.2.1
  · rw [wx_at e, sI_t hx]
  · rw [wx_ne e (by decide)]; exact a2.2.2.2
  · skip
    have z := a3 j h1 h2
    exact ⟨by rw [e_v1]; exact z.1, by rw [e_v2]; exact z.2⟩
  · skip
    have z := a4 j h1 h2
    exact ⟨by rw [e_p2]; exact z.1, by rw [e_p3]; exact z.2.1, by rw [e_p4]; exact z.2.2⟩
  · rw [e_p5]; exact a5 j h1
  · exact b
theorem agc_p10 {M N : mm_M} {p : Nat} {x : Int} (hv : p = M.2.2 78 3) (e : N = wI M p 10 (sI x)) (hx : -2147483648 ≤ x ∧ x ≤ 2147483647) (q : Int × Int × Int × Int) (T : Nat → Int) (h : AGC M q T) : AGC N (q.1, q.2.1, q.2.2.1, x) T := by
  subst hv
  unfold AGC at *
  rw [wx_r e]
  obtain ⟨⟨a1, a2, a3, a4, a5⟩, b, cp, cv⟩ := h
  obtain ⟨⟨c1, c2, c3, c4⟩, c5, c6⟩ := ag_cd cp cv
  have e_v : N.1 (M.2.2 78 4) = M.1 (M.2.2 78 4) := wc_x e (s_ne cv cp (by decide))
  have e_v1 : N.1 (s_p0 (M.2.2 78 4) 1) = M.1 (s_p0 (M.2.2 78 4) 1) := wc_x e (s_ne c5 cp (by decide))
  have e_v2 : N.1 (s_p0 (M.2.2 78 4) 2) = M.1 (s_p0 (M.2.2 78 4) 2) := wc_x e (s_ne c6 cp (by decide))
  have e_p2 : N.1 (s_p0 (M.2.2 78 3) 2) = M.1 (s_p0 (M.2.2 78 3) 2) := wc_x e (s_ne c1 cp (by decide))
  have e_p3 : N.1 (s_p0 (M.2.2 78 3) 3) = M.1 (s_p0 (M.2.2 78 3) 3) := wc_x e (s_ne c2 cp (by decide))
  have e_p4 : N.1 (s_p0 (M.2.2 78 3) 4) = M.1 (s_p0 (M.2.2 78 3) 4) := wc_x e (s_ne c3 cp (by decide))
  have e_p5 : N.1 (s_p0 (M.2.2 78 3) 5) = M.1 (s_p0 (M.2.2 78 3) 5) := wc_x e (s_ne c4 cp (by decide))
  refine ⟨⟨⟨?_, ?_, ?_, ?_, ?_, ?_, ?_, ?_, ?_⟩, ⟨?_, ?_, ?_, ?_⟩, fun j h1 h2 => ?_, fun j h1 h2 => ?_, fun j h1 => ?_⟩, ?_, cp, cv⟩
  · rw [wx_ne e (by decide)]; exact a1.1
  · rw [wx_ne e (by decide)]; exact a1.2.1
  · rw [wx_ne e (by decide)]; exact a1.2.2.1
  · rw [e_v]; exact a1.2.2.2.1
  · rw [e_v]; exact a1.2.2.2.2.1
  · rw [e_v]; exact a1.2.2.2.2.2.1
  · rw [e_v]; exact a1.2.2.2.2.2.2.1
  · rw [e_v]; exact a1.2.2.2.2.2.2.2.1
  · rw [e_v]; exact a1.2.2.2.2.2.2.2.2
  · rw [wx_ne e (by decide)]; exact a2.1
  · rw [wx_ne e (by decide)]; exact a2.2.1
  · rw [wx_ne e (by decide)]; exact a2.2.2.1
  · rw [wx_at e, sI_t hx]
  · skip
    have z := a3 j h1 h2
    exact ⟨by rw [e_v1]; exact z.1, by rw [e_v2]; exact z.2⟩
  · skip
    have z := a4 j h1 h2
    exact ⟨by rw [e_p2]; exact z.1, by rw [e_p3]; exact z.2.1, by rw [e_p4]; exact z.2.2⟩
  · rw [e_p5]; exact a5 j h1
  · exact b
theorem agc_ki {M M1 M2 N : mm_M} {v : Nat} {k x y z : Int} (hv : v = M.2.2 78 4) (e1 : M1 = wI M (s_p0 v 1) k.toNat (sI x)) (e2 : M2 = wI M1 (s_p0 v 2) k.toNat (sI z)) (e3 : N = wI M2 v 0 (sI y)) (hk : k = (M.1 v 0).toInt ∧ 0 ≤ k ∧ k < 8 ∧ y = k + 1 ∧ z = 0) (hx : -2147483648 ≤ x ∧ x ≤ 2147483647) (q : Int × Int × Int × Int) (T : Nat → Int) (h : AGC M q T) : AGC N q (uT (uT (uT T (33 + k).toNat x) (41 + k).toNat 0) 26 (k + 1)) := by
  subst hv
  unfold AGC at *
  rw [wx_r e3, wx_r e2, wx_r e1]
  obtain ⟨⟨a1, a2, a3, a4, a5⟩, b, cp, cv⟩ := h
  obtain ⟨⟨c1, c2, c3, c4⟩, c5, c6⟩ := ag_cd cp cv
  have cell : ∀ i, s_c i ≠ 8 → s_c i ≠ 25 → s_c i ≠ 26 → N.1 i = M.1 i := fun i h8 h25 h26 => (wc_x e3 (fun w => h8 (by rw [w]; exact cv))).trans ((wc_x e2 (fun w => h26 (by rw [w]; exact c6))).trans (wc_x e1 (fun w => h25 (by rw [w]; exact c5))))
  have ep : N.1 (M.2.2 78 3) = M.1 (M.2.2 78 3) := cell _ (by rw [cp]; decide) (by rw [cp]; decide) (by rw [cp]; decide)
  have kv : ∀ j, j ≠ 0 → N.1 (M.2.2 78 4) j = M.1 (M.2.2 78 4) j := fun j hj => (wx_ne e3 hj).trans (by rw [wc_x e2 (s_ne cv c6 (by decide)), wc_x e1 (s_ne cv c5 (by decide))])
  have k1 : N.1 (s_p0 (M.2.2 78 4) 1) = M1.1 (s_p0 (M.2.2 78 4) 1) := (wc_x e3 (s_ne c5 cv (by decide))).trans (wc_x e2 (s_ne c5 c6 (by decide)))
  have k2 : N.1 (s_p0 (M.2.2 78 4) 2) = M2.1 (s_p0 (M.2.2 78 4) 2) := wc_x e3 (s_ne c6 cv (by decide))
  have j2 : M1.1 (s_p0 (M.2.2 78 4) 2) = M.1 (s_p0 (M.2.2 78 4) 2) := wc_x e1 (s_ne c6 c5 (by decide))
  have t26 : uT (uT (uT T (33 + k).toNat x) (41 + k).toNat 0) 26 (k + 1) 26 = k + 1 := uT_s
  have t : ∀ j : Nat, j ≠ 26 → j ≠ (33 + k).toNat → j ≠ (41 + k).toNat → uT (uT (uT T (33 + k).toNat x) (41 + k).toNat 0) 26 (k + 1) j = T j := fun j h1 h2 h3 => by rw [uT_o h1, uT_o h3, uT_o h2]
  have kT : k = T 26 := by rw [hk.1]; exact a1.2.2.2.1
  refine ⟨⟨⟨?_, ?_, ?_, ?_, ?_, ?_, ?_, ?_, ?_⟩, ⟨?_, ?_, ?_, ?_⟩, fun j h1 h2 => ?_, fun j h1 h2 => ?_, fun j h1 => ?_⟩, ?_, cp, cv⟩
  · rw [ep, t 1 (by omega) (by omega) (by omega)]; exact a1.1
  · rw [ep, t 0 (by omega) (by omega) (by omega)]; exact a1.2.1
  · rw [ep, t 280 (by omega) (by omega) (by omega)]; exact a1.2.2.1
  · rw [wx_at e3, sI_t (by omega), t26]; omega
  · rw [kv 3 (by decide), t 27 (by omega) (by omega) (by omega)]; exact a1.2.2.2.2.1
  · rw [kv 4 (by decide), t 28 (by omega) (by omega) (by omega)]; exact a1.2.2.2.2.2.1
  · rw [kv 5 (by decide), t 29 (by omega) (by omega) (by omega)]; exact a1.2.2.2.2.2.2.1
  · rw [kv 6 (by decide), t 30 (by omega) (by omega) (by omega)]; exact a1.2.2.2.2.2.2.2.1
  · rw [kv 8 (by decide), t 32 (by omega) (by omega) (by omega)]; exact a1.2.2.2.2.2.2.2.2
  · rw [ep]; exact a2.1
  · rw [ep]; exact a2.2.1
  · rw [ep]; exact a2.2.2.1
  · rw [ep]; exact a2.2.2.2
  · rw [t26] at h1
    rw [k1, k2]
    by_cases w : j = k.toNat
    · rw [w, wx_at e1, wx_at e2, sI_t hx, sI_t (by omega), uT_o (by omega), uT_o (by omega), show 33 + k.toNat = (33 + k).toNat by omega, uT_s, uT_o (by omega), show 41 + k.toNat = (41 + k).toNat by omega, uT_s]
      exact ⟨rfl, hk.2.2.2.2⟩
    · rw [wx_ne e1 w, wx_ne e2 w, j2, t _ (by omega) (by omega) (by omega), t _ (by omega) (by omega) (by omega)]
      exact a3 j (by omega) h2
  · rw [t 1 (by omega) (by omega) (by omega)] at h1
    rw [cell _ (by rw [c1]; decide) (by rw [c1]; decide) (by rw [c1]; decide), cell _ (by rw [c2]; decide) (by rw [c2]; decide) (by rw [c2]; decide), cell _ (by rw [c3]; decide) (by rw [c3]; decide) (by rw [c3]; decide), t _ (by omega) (by omega) (by omega), t _ (by omega) (by omega) (by omega), t _ (by omega) (by omega) (by omega)]
    exact a4 j h1 h2
  · rw [t 280 (by omega) (by omega) (by omega)] at h1
    rw [cell _ (by rw [c4]; decide) (by rw [c4]; decide) (by rw [c4]; decide), t _ (by omega) (by omega) (by omega)]
    exact a5 j h1
  · unfold AGW; rw [t26, t 280 (by omega) (by omega) (by omega), t 1 (by omega) (by omega) (by omega)]; exact ⟨b.1, by omega, b.2.2⟩
theorem agc_bu {M M1 M2 M3 N : mm_M} {p : Nat} {k x y z z1 : Int} (hv : p = M.2.2 78 3) (e1 : M1 = wI M (s_p0 p 2) k.toNat (sI x)) (e2 : M2 = wI M1 (s_p0 p 3) k.toNat (sI z)) (e3 : M3 = wI M2 (s_p0 p 4) k.toNat (sI z1)) (e4 : N = wI M3 p 0 (sI y)) (hk : k = (M.1 p 0).toInt ∧ 0 ≤ k ∧ k < 6 ∧ y = k + 1 ∧ z = 0 ∧ z1 = 1) (hx : -2147483648 ≤ x ∧ x ≤ 2147483647) (q : Int × Int × Int × Int) (T : Nat → Int) (h : AGC M q T) : AGC N q (uT (uT (uT (uT T (8 + k).toNat x) (14 + k).toNat 0) (20 + k).toNat 1) 1 (k + 1)) := by
  subst hv
  unfold AGC at *
  rw [wx_r e4, wx_r e3, wx_r e2, wx_r e1]
  obtain ⟨⟨a1, a2, a3, a4, a5⟩, b, cp, cv⟩ := h
  obtain ⟨⟨c1, c2, c3, c4⟩, c5, c6⟩ := ag_cd cp cv
  have cell : ∀ i, s_c i ≠ 6 → ¬ (21 ≤ s_c i ∧ s_c i ≤ 23) → N.1 i = M.1 i := fun i h6 h2 => (wc_x e4 (fun w => h6 (by rw [w]; exact cp))).trans ((wc_x e3 (fun w => h2 (by rw [w, c3]; decide))).trans ((wc_x e2 (fun w => h2 (by rw [w, c2]; decide))).trans (wc_x e1 (fun w => h2 (by rw [w, c1]; decide)))))
  have ev : N.1 (M.2.2 78 4) = M.1 (M.2.2 78 4) := cell _ (by rw [cv]; decide) (by rw [cv]; decide)
  have kp : ∀ j, j ≠ 0 → N.1 (M.2.2 78 3) j = M.1 (M.2.2 78 3) j := fun j hj => (wx_ne e4 hj).trans (by rw [wc_x e3 (s_ne cp c3 (by decide)), wc_x e2 (s_ne cp c2 (by decide)), wc_x e1 (s_ne cp c1 (by decide))])
  have k1 : N.1 (s_p0 (M.2.2 78 3) 2) = M1.1 (s_p0 (M.2.2 78 3) 2) := (wc_x e4 (s_ne c1 cp (by decide))).trans ((wc_x e3 (s_ne c1 c3 (by decide))).trans (wc_x e2 (s_ne c1 c2 (by decide))))
  have k2 : N.1 (s_p0 (M.2.2 78 3) 3) = M2.1 (s_p0 (M.2.2 78 3) 3) := (wc_x e4 (s_ne c2 cp (by decide))).trans (wc_x e3 (s_ne c2 c3 (by decide)))
  have k3 : N.1 (s_p0 (M.2.2 78 3) 4) = M3.1 (s_p0 (M.2.2 78 3) 4) := wc_x e4 (s_ne c3 cp (by decide))
  have j2 : M1.1 (s_p0 (M.2.2 78 3) 3) = M.1 (s_p0 (M.2.2 78 3) 3) := wc_x e1 (s_ne c2 c1 (by decide))
  have j3 : M2.1 (s_p0 (M.2.2 78 3) 4) = M.1 (s_p0 (M.2.2 78 3) 4) := (wc_x e2 (s_ne c3 c2 (by decide))).trans (wc_x e1 (s_ne c3 c1 (by decide)))
  have t1 : uT (uT (uT (uT T (8 + k).toNat x) (14 + k).toNat 0) (20 + k).toNat 1) 1 (k + 1) 1 = k + 1 := uT_s
  have t : ∀ j : Nat, j ≠ 1 → j ≠ (8 + k).toNat → j ≠ (14 + k).toNat → j ≠ (20 + k).toNat → uT (uT (uT (uT T (8 + k).toNat x) (14 + k).toNat 0) (20 + k).toNat 1) 1 (k + 1) j = T j := fun j h1 h2 h3 h4 => by rw [uT_o h1, uT_o h4, uT_o h3, uT_o h2]
  have kT : k = T 1 := by rw [hk.1]; exact a1.1
  refine ⟨⟨⟨?_, ?_, ?_, ?_, ?_, ?_, ?_, ?_, ?_⟩, ⟨?_, ?_, ?_, ?_⟩, fun j h1 h2 => ?_, fun j h1 h2 => ?_, fun j h1 => ?_⟩, ?_, cp, cv⟩
  · rw [wx_at e4, sI_t (by omega), t1]; omega
  · rw [kp 1 (by decide), t 0 (by omega) (by omega) (by omega) (by omega)]; exact a1.2.1
  · rw [kp 6 (by decide), t 280 (by omega) (by omega) (by omega) (by omega)]; exact a1.2.2.1
  · rw [ev, t 26 (by omega) (by omega) (by omega) (by omega)]; exact a1.2.2.2.1
  · rw [ev, t 27 (by omega) (by omega) (by omega) (by omega)]; exact a1.2.2.2.2.1
  · rw [ev, t 28 (by omega) (by omega) (by omega) (by omega)]; exact a1.2.2.2.2.2.1
  · rw [ev, t 29 (by omega) (by omega) (by omega) (by omega)]; exact a1.2.2.2.2.2.2.1
  · rw [ev, t 30 (by omega) (by omega) (by omega) (by omega)]; exact a1.2.2.2.2.2.2.2.1
  · rw [ev, t 32 (by omega) (by omega) (by omega) (by omega)]; exact a1.2.2.2.2.2.2.2.2
  · rw [kp 7 (by decide)]; exact a2.1
  · rw [kp 8 (by decide)]; exact a2.2.1
  · rw [kp 9 (by decide)]; exact a2.2.2.1
  · rw [kp 10 (by decide)]; exact a2.2.2.2
  · rw [t 26 (by omega) (by omega) (by omega) (by omega)] at h1
    rw [cell _ (by rw [c5]; decide) (by rw [c5]; decide), cell _ (by rw [c6]; decide) (by rw [c6]; decide), t _ (by omega) (by omega) (by omega) (by omega), t _ (by omega) (by omega) (by omega) (by omega)]
    exact a3 j h1 h2
  · rw [t1] at h1
    rw [k1, k2, k3]
    by_cases w : j = k.toNat
    · rw [w, wx_at e1, wx_at e2, wx_at e3, sI_t hx, sI_t (by omega), sI_t (by omega)]
      refine ⟨?_, ?_, ?_⟩
      · rw [uT_o (by omega), uT_o (by omega), uT_o (by omega), show 8 + k.toNat = (8 + k).toNat by omega, uT_s]
      · rw [uT_o (by omega), uT_o (by omega), show 14 + k.toNat = (14 + k).toNat by omega, uT_s]; exact hk.2.2.2.2.1
      · rw [uT_o (by omega), show 20 + k.toNat = (20 + k).toNat by omega, uT_s]; exact hk.2.2.2.2.2
    · rw [wx_ne e1 w, wx_ne e2 w, wx_ne e3 w, j2, j3, t _ (by omega) (by omega) (by omega) (by omega), t _ (by omega) (by omega) (by omega) (by omega), t _ (by omega) (by omega) (by omega) (by omega)]
      exact a4 j (by omega) h2
  · rw [t 280 (by omega) (by omega) (by omega) (by omega)] at h1
    rw [cell _ (by rw [c4]; decide) (by rw [c4]; decide), t _ (by omega) (by omega) (by omega) (by omega)]
    exact a5 j h1
  · unfold AGW; rw [t1, t 280 (by omega) (by omega) (by omega) (by omega), t 26 (by omega) (by omega) (by omega) (by omega)]; exact ⟨b.1, b.2.1, by omega⟩
/-! flags, marks of the class -/
section RX
variable (f : Nat → Int) (n : Int)
theorem fgc_1 {a i p k x : Int} {M M2 N : mm_M} (h : ∀ q T, AGC M q T → AGC M2 q T) (w : ∀ q T, AGC M2 q T → AGC N q (uT T (41 + k).toNat x)) {a0 : Int} (hp : b01 (PO n i a0 p) = 1) (h0 : a0 = 0) (ht : tkF f n p = 1005) (hx : ¬ a = 0 ∨ x = tkF f n (nxF f n i)) : b01 (CT AGC a M N (fgC f n k i)) = 1 := b01_i (by
  obtain ⟨rfl, _⟩ := po_0 hp h0
  by_cases z : a = 0
  · refine Or.inr (fun q T y => ?_)
    unfold fgC
    rw [if_pos ht, ← hx.resolve_left (fun u => u z)]
    exact w q T (h q T y)
  · exact Or.inl z)
theorem fgc_2 {i p k y : Int} {v : Nat} {M M2 N : mm_M} (a : Int) (h : ∀ q T, AGC M q T → AGC M2 q T) (w : ∀ q T, AGC M2 q T → AGC N q (uT T 27 (orI y (pw2 k)))) (hv : v = M2.2.2 78 4) (hy : y = (M2.1 v 3).toInt) {a0 : Int} (hp : b01 (PO n i a0 p) = 1) (h0 : a0 = 0) (ht : tkF f n p = 1007) : b01 (CT AGC a M N (fgC f n k i)) = 1 := b01_i (Or.inr (fun q T z => by
  obtain ⟨rfl, _⟩ := po_0 hp h0
  have z2 := h q T z
  have e : y = T 27 := by rw [hy, hv]; exact z2.1.1.2.2.2.2.1
  unfold fgC
  rw [if_neg (by omega), if_pos ht, ← e]
  exact w q T z2))
theorem fgc_3 {i p k y : Int} {v : Nat} {M M2 N : mm_M} (a : Int) (h : ∀ q T, AGC M q T → AGC M2 q T) (w : ∀ q T, AGC M2 q T → AGC N q (uT T 28 (orI y (pw2 k)))) (hv : v = M2.2.2 78 4) (hy : y = (M2.1 v 4).toInt) {a0 : Int} (hp : b01 (PO n i a0 p) = 1) (h0 : a0 = 0) (ht : tkF f n p = 1012) : b01 (CT AGC a M N (fgC f n k i)) = 1 := b01_i (Or.inr (fun q T z => by
  obtain ⟨rfl, _⟩ := po_0 hp h0
  have z2 := h q T z
  have e : y = T 28 := by rw [hy, hv]; exact z2.1.1.2.2.2.2.2.1
  unfold fgC
  rw [if_neg (by omega), if_neg (by omega), if_pos ht, ← e]
  exact w q T z2))
theorem fgc_0 {A : mm_M → Int × Int × Int × Int → (Nat → Int) → Prop} {i p k : Int} {M N : mm_M} (a : Int) (h : ∀ q T, A M q T → A N q T) {a0 : Int} (hp : b01 (PO n i a0 p) = 1) (h0 : a0 = 0) (ht : ¬ tkF f n p = 1005 ∧ ¬ tkF f n p = 1007 ∧ ¬ tkF f n p = 1012) : b01 (CT A a M N (fgC f n k i)) = 1 := b01_i (Or.inr (fun q T z => by
  obtain ⟨rfl, _⟩ := po_0 hp h0
  unfold fgC
  rw [if_neg ht.1, if_neg ht.2.1, if_neg ht.2.2]
  exact h q T z))
theorem mkc_1 {A : mm_M → Int × Int × Int × Int → (Nat → Int) → Prop} {a i p k x : Int} {M M2 N : mm_M} (h : ∀ q T, A M q T → A M2 q T) (w : ∀ q T, A M2 q T → A N q (uT T (14 + k).toNat x)) {a0 : Int} (hp : b01 (PO n i a0 p) = 1) (h0 : a0 = 0) (ht : tkF f n p = 1002) (hx : ¬ a = 0 ∨ x = tkF f n (nxF f n i)) : b01 (CT A a M N (mkC f n k i)) = 1 := b01_i (by
  obtain ⟨rfl, _⟩ := po_0 hp h0
  by_cases z : a = 0
  · refine Or.inr (fun q T y => ?_)
    unfold mkC
    rw [if_pos ht, ← hx.resolve_left (fun u => u z)]
    exact w q T (h q T y)
  · exact Or.inl z)
theorem mkc_2 {A : mm_M → Int × Int × Int × Int → (Nat → Int) → Prop} {a i p k x : Int} {M M2 N : mm_M} (h : ∀ q T, A M q T → A M2 q T) (w : ∀ q T, A M2 q T → A N q (uT T (20 + k).toNat x)) {a0 : Int} (hp : b01 (PO n i a0 p) = 1) (h0 : a0 = 0) (ht : tkF f n p = 1013) (hx : ¬ a = 0 ∨ x = tkF f n (nxF f n i)) : b01 (CT A a M N (mkC f n k i)) = 1 := b01_i (by
  obtain ⟨rfl, _⟩ := po_0 hp h0
  by_cases z : a = 0
  · refine Or.inr (fun q T y => ?_)
    unfold mkC
    rw [if_neg (by omega), if_pos ht, ← hx.resolve_left (fun u => u z)]
    exact w q T (h q T y)
  · exact Or.inl z)
theorem mkc_0 {A : mm_M → Int × Int × Int × Int → (Nat → Int) → Prop} {i p k : Int} {M N : mm_M} (a : Int) (h : ∀ q T, A M q T → A N q T) {a0 : Int} (hp : b01 (PO n i a0 p) = 1) (h0 : a0 = 0) (ht : ¬ tkF f n p = 1002 ∧ ¬ tkF f n p = 1013) : b01 (CT A a M N (mkC f n k i)) = 1 := b01_i (Or.inr (fun q T z => by
  obtain ⟨rfl, _⟩ := po_0 hp h0
  unfold mkC
  rw [if_neg ht.1, if_neg ht.2]
  exact h q T z))
end RX
/-! lines of the class -/
def LWQ (q : Int × Int × Int × Int) (T : Nat → Int) : Prop := ((q.1 = q.2.1 ∧ T 2 = 0) ∨ (T 2 = 1 ∧ q.1 = T 4 ∧ q.2.1 = T 4 + T 6)) ∧ ((q.2.2.1 = q.2.2.2 ∧ T 3 = 0) ∨ (T 3 = 1 ∧ q.2.2.1 = T 5 ∧ q.2.2.2 = T 5 + T 7))
def AGX (M : mm_M) (T : Nat → Int) : Prop := ∃ q, AGC M q T ∧ LWQ q T
def AGY (M : mm_M) (_ : Int × Int × Int × Int) (T : Nat → Int) : Prop := AGX M T
theorem ct_x {a : Int} {M N : mm_M} {g : (Nat → Int) → Nat → Int} (h : b01 (CT AGC a M N g) = 1) (e : ∀ T j, 2 ≤ j → j ≤ 7 → g T j = T j) : b01 (CT AGY a M N g) = 1 := b01_i (by
  by_cases c : a = 0
  · refine Or.inr (fun _ T x => ?_)
    obtain ⟨q, x1, x2⟩ := x
    refine ⟨q, (b01_e h).resolve_left (fun w => w c) q T x1, ?_⟩
    unfold LWQ
    rw [e T 2 (by decide) (by decide), e T 3 (by decide) (by decide), e T 4 (by decide) (by decide), e T 5 (by decide) (by decide), e T 6 (by decide) (by decide), e T 7 (by decide) (by decide)]
    exact x2
  · exact Or.inl c)
theorem emT_o (c : Int) (T : Nat → Int) {j : Nat} (h0 : 0 ≤ T 280) (h : j < 280) : emT c T j = T j := by unfold emT; rw [uT_o (by omega), uT_o (by omega)]
theorem emL_o : ∀ (L : List Int) (T : Nat → Int) {j : Nat}, 0 ≤ T 280 → j < 280 → emL L T j = T j
  | [], _, _, _, _ => rfl
  | c :: L, T, j, h0, h => (emL_o L (emT c T) (by unfold emT; rw [uT_s]; omega) h).trans (emT_o c T h0 h)
theorem lpT_k {q : Int → Bool} {st : Int → Int × Int × Int} {GT : Int → (Nat → Int) → Nat → Int} {j : Nat} (hG : ∀ i T, GT i T j = T j) : ∀ (k : Nat) (i : Int) (T : Nat → Int), lpT q st GT k i T j = T j
  | 0, _, _ => rfl
  | k + 1, i, T => by
    rw [lpT]
    repeat' split
    · rw [lpT_k hG k _ _]; exact hG i T
    · rfl
    · rfl
section RX5
variable (f : Nat → Int) (n : Int)
theorem fgC_k {k : Int} (hk : 0 ≤ k) {j : Nat} (hj : j < 27) (i : Int) (T : Nat → Int) : fgC f n k i T j = T j := by
  unfold fgC
  repeat' split
  · exact uT_o (by omega)
  · exact uT_o (by omega)
  · exact uT_o (by omega)
  · rfl
theorem fgT_k {k : Int} (hk : 0 ≤ k) {j : Nat} (hj : j < 27) (i : Int) (T : Nat → Int) : fgT f n k i T j = T j := lpT_k (fun i T => fgC_k f n hk hj i T) _ _ _
theorem mkC_k {k : Int} (hk : 0 ≤ k) {j : Nat} (hj : j < 14 ∨ 26 ≤ j) (hk6 : k < 6) (i : Int) (T : Nat → Int) : mkC f n k i T j = T j := by
  unfold mkC
  repeat' split
  · exact uT_o (by omega)
  · exact uT_o (by omega)
  · rfl
theorem mkT_k {k : Int} (hk : 0 ≤ k) {j : Nat} (hj : j < 14 ∨ 26 ≤ j) (hk6 : k < 6) (i : Int) (T : Nat → Int) : mkT f n k i T j = T j := lpT_k (fun i T => mkC_k f n hk hj hk6 i T) _ _ _
theorem kiB_k {k p : Int} (hk : 0 ≤ k) {j : Nat} (hj : j < 26) (T : Nat → Int) : kiB f n k p T j = T j := by
  unfold kiB; rw [uT_o (by omega), uT_o (by omega), uT_o (by omega)]
theorem buB_k {k p : Int} (hk : 0 ≤ k) {j : Nat} (hj : 2 ≤ j ∧ j < 8) (T : Nat → Int) : buB f n k p T j = T j := by
  unfold buB; rw [uT_o (by omega), uT_o (by omega), uT_o (by omega), uT_o (by omega)]
theorem kiC_k {k : Int} (hk : 0 ≤ k) (i : Int) (T : Nat → Int) (j : Nat) (hj : 2 ≤ j) (h7 : j ≤ 7) : kiC f n k i T j = T j := by
  unfold kiC; rw [fgT_k f n hk (by omega), kiB_k f n hk (by omega)]
theorem buC_k {k : Int} (hk : 0 ≤ k ∧ k < 6) (i : Int) (T : Nat → Int) (j : Nat) (hj : 2 ≤ j) (h7 : j ≤ 7) : buC f n k i T j = T j := by
  unfold buC; rw [mkT_k f n hk.1 (by omega) hk.2, buB_k f n hk.1 (by omega)]
theorem kib_x {A : mm_M → Int × Int × Int × Int → (Nat → Int) → Prop} {a k x p2 : Int} {M M3 N : mm_M} (h : ∀ q T, A M q T → A M3 q T) (w : ∀ q T, A M3 q T → A N q (uT (uT (uT T (33 + k).toNat x) (41 + k).toNat 0) 26 (k + 1))) (hx : ¬ a = 0 ∨ x = tkF f n p2) : b01 (CT A a M N (kiB f n k p2)) = 1 := b01_i (by
  by_cases z : a = 0
  · refine Or.inr (fun q T y => ?_)
    unfold kiB
    rw [← hx.resolve_left (fun u => u z)]
    exact w q T (h q T y)
  · exact Or.inl z)
theorem bub_x {A : mm_M → Int × Int × Int × Int → (Nat → Int) → Prop} {a k x p2 : Int} {M M3 N : mm_M} (h : ∀ q T, A M q T → A M3 q T) (w : ∀ q T, A M3 q T → A N q (uT (uT (uT (uT T (8 + k).toNat x) (14 + k).toNat 0) (20 + k).toNat 1) 1 (k + 1))) (hx : ¬ a = 0 ∨ x = tkF f n p2) : b01 (CT A a M N (buB f n k p2)) = 1 := b01_i (by
  by_cases z : a = 0
  · refine Or.inr (fun q T y => ?_)
    unfold buB
    rw [← hx.resolve_left (fun u => u z)]
    exact w q T (h q T y)
  · exact Or.inl z)
/-- AGC doesn't look at places 2 to 7 -/
theorem agc_27 {M : mm_M} {q : Int × Int × Int × Int} {T T' : Nat → Int} (h : AGC M q T) (e : ∀ j, (j < 2 ∨ 8 ≤ j) → T' j = T j) : AGC M q T' := by
  obtain ⟨⟨a1, a2, a3, a4, a5⟩, b, cp, cv⟩ := h
  refine ⟨⟨⟨?_, ?_, ?_, ?_, ?_, ?_, ?_, ?_, ?_⟩, a2, fun k h1 h2 => ?_, fun k h1 h2 => ?_, fun i hi => ?_⟩, ?_, cp, cv⟩
  · rw [e 1 (by omega)]; exact a1.1
  · rw [e 0 (by omega)]; exact a1.2.1
  · rw [e 280 (by omega)]; exact a1.2.2.1
  · rw [e 26 (by omega)]; exact a1.2.2.2.1
  · rw [e 27 (by omega)]; exact a1.2.2.2.2.1
  · rw [e 28 (by omega)]; exact a1.2.2.2.2.2.1
  · rw [e 29 (by omega)]; exact a1.2.2.2.2.2.2.1
  · rw [e 30 (by omega)]; exact a1.2.2.2.2.2.2.2.1
  · rw [e 32 (by omega)]; exact a1.2.2.2.2.2.2.2.2
  · rw [e 26 (by omega)] at h1; rw [e _ (by omega), e _ (by omega)]; exact a3 k h1 h2
  · rw [e 1 (by omega)] at h1; rw [e _ (by omega), e _ (by omega), e _ (by omega)]; exact a4 k h1 h2
  · rw [e 280 (by omega)] at hi; rw [e _ (by omega)]; exact a5 i hi
  · unfold AGW; rw [e 280 (by omega), e 26 (by omega), e 1 (by omega)]; exact b
theorem lwC_o {l : Nat} (hl : l ≤ 1) (L : List Int) (T : Nat → Int) {j : Nat} (h : j < 2 ∨ 8 ≤ j) : lwC l L T j = emL L T j := by
  unfold lwC; rw [uT_o (by omega), uT_o (by omega), uT_o (by omega)]
/-- a law's line: its codes between its two marks -/
theorem law_x {a x y : Int} {p p' : Nat} {M M2 M3 M4 N : mm_M} {L : List Int} (l : Nat) (hl : l = 0 ∨ l = 1) (h : ∀ q T, AGC M q T → AGC M2 q T) (hp : p = M2.2.2 78 3) (e3 : M3 = wI M2 p (7 + 2 * l) (sI x)) (hx : (-2147483648 ≤ x ∧ x ≤ 2147483647) ∧ x = (M2.1 p 6).toInt) (h4 : b01 (CL AGC a M3 M4 L) = 1) (hp' : p' = M4.2.2 78 3) (eN : N = wI M4 p' (8 + 2 * l) (sI y)) (hy : (-2147483648 ≤ y ∧ y ≤ 2147483647) ∧ y = (M4.1 p' 6).toInt) : b01 (CT AGY a M N (lwC l L)) = 1 := b01_i (by
  by_cases c : a = 0
  · refine Or.inr (fun _ T z => ?_)
    obtain ⟨q, z1, z2⟩ := z
    have k2 := h q T z1
    have x0 : x = T 280 := by rw [hx.2, hp]; exact k2.1.1.2.2.1
    have o : ∀ {j : Nat}, j < 280 → emL L T j = T j := fun h => emL_o L T k2.2.1.1 h
    have w2 : ∀ j : Nat, 2 ≤ j → j ≤ 7 → j ≠ 2 + l → j ≠ 4 + l → j ≠ 6 + l → lwC l L T j = T j := fun j g1 g2 g3 g4 g5 => by
      unfold lwC; rw [uT_o g5, uT_o g4, uT_o g3, o (by omega)]
    have v2 : lwC l L T (2 + l) = 1 := by unfold lwC; rw [uT_o (by omega), uT_o (by omega), uT_s]
    have v4 : lwC l L T (4 + l) = T 280 := by unfold lwC; rw [uT_o (by omega), uT_s]
    have v6 : lwC l L T (6 + l) = emL L T 280 - T 280 := by unfold lwC; rw [uT_s]
    rcases hl with rfl | rfl
    · have k3 : AGC M3 (x, q.2) T := agc_p7 hp e3 hx.1 q T k2
      have k4 := (b01_e h4).resolve_left (fun w => w c) _ _ k3
      have y0 : y = emL L T 280 := by rw [hy.2, hp']; exact k4.1.1.2.2.1
      have kN := agc_p8 hp' eN hy.1 _ _ k4
      refine ⟨(x, y, q.2.2), agc_27 kN (fun j hj => lwC_o (by decide) L T hj), Or.inr ⟨v2, by rw [v4]; exact x0, by rw [v4, v6]; show y = _; omega⟩, ?_⟩
      rw [w2 3 (by decide) (by decide) (by decide) (by decide) (by decide), w2 5 (by decide) (by decide) (by decide) (by decide) (by decide), w2 7 (by decide) (by decide) (by decide) (by decide) (by decide)]
      exact z2.2
    · have k3 : AGC M3 (q.1, q.2.1, x, q.2.2.2) T := agc_p9 hp e3 hx.1 q T k2
      have k4 := (b01_e h4).resolve_left (fun w => w c) _ _ k3
      have y0 : y = emL L T 280 := by rw [hy.2, hp']; exact k4.1.1.2.2.1
      have kN := agc_p10 hp' eN hy.1 _ _ k4
      refine ⟨(q.1, q.2.1, x, y), agc_27 kN (fun j hj => lwC_o (by decide) L T hj), ?_, Or.inr ⟨v2, by rw [v4]; exact x0, by rw [v4, v6]; show y = _; omega⟩⟩
      rw [w2 2 (by decide) (by decide) (by decide) (by decide) (by decide), w2 4 (by decide) (by decide) (by decide) (by decide) (by decide), w2 6 (by decide) (by decide) (by decide) (by decide) (by decide)]
      exact z2.1
  · exact Or.inl c)
theorem agy_78 {M N : mm_M} (h : ∀ q T, AGC M q T → AGC N q T) : ∀ q T, AGY M q T → AGY N q T := fun _ T ⟨q, x, y⟩ => ⟨q, h q T x, y⟩
/-- a line's end -/
theorem ln_x {a x : Int} {p : Nat} {M M1 N : mm_M} (h : ∀ q T, AGC M q T → AGC M1 q T) (hp : p = M1.2.2 78 3) (e : N = wI M1 p 1 (sI x)) (hx : (-2147483648 ≤ x ∧ x ≤ 2147483647) ∧ x = (M1.1 p 1).toInt + 1) : b01 (CT AGY a M N (fun T => uT T 0 (T 0 + 1))) = 1 := b01_i (Or.inr (fun _ T z => by
  obtain ⟨q, z1, z2⟩ := z
  have k1 := h q T z1
  have x0 : x = T 0 + 1 := by rw [hx.2, hp]; have := k1.1.1.2.1; omega
  show AGX N (uT T 0 (T 0 + 1))
  rw [← x0]
  refine ⟨q, agc_p1 hp e hx.1 q T k1, ?_⟩
  unfold LWQ
  rw [uT_o (by decide), uT_o (by decide), uT_o (by decide), uT_o (by decide), uT_o (by decide), uT_o (by decide)]
  exact z2))
/-! lines one by one -/
theorem li_c1 {A : mm_M → Int × Int × Int × Int → (Nat → Int) → Prop} {a i p k b : Int} {M N : mm_M} {g : (Nat → Int) → Nat → Int} (h : b01 (CT A a M N g) = 1) {a0 : Int} (hp : b01 (PO n i a0 p) = 1) (h0 : a0 = 0) (hg : (tkF f n p = 1003 ∧ g = kiC f n k i) ∨ (tkF f n p = 1009 ∧ g = buC f n b i) ∨ (tkF f n p = 1010 ∧ g = waC f n i) ∨ (tkF f n p = 1011 ∧ g = leC f n i)) : b01 (CT A a M N (liC f n k b i)) = 1 := ct_e h (fun _ T => by
  obtain ⟨rfl, _⟩ := po_0 hp h0
  unfold liC
  rcases hg with ⟨t, e⟩ | ⟨t, e⟩ | ⟨t, e⟩ | ⟨t, e⟩
  · rw [if_pos t, e]
  · rw [if_neg (by omega), if_pos t, e]
  · rw [if_neg (by omega), if_neg (by omega), if_pos t, e]
  · rw [if_neg (by omega), if_neg (by omega), if_neg (by omega), if_pos t, e])
/-- all lines: from s with nothing on -/
def LX (A : mm_M → Int × Int × Int × Int → (Nat → Int) → Prop) (f : Nat → Int) (n a s i k b : Int) (MB M : mm_M) : Prop := ¬ a = 0 ∨ ∃ g : (Nat → Int) → Nat → Int, (∀ T, mqC f n s 0 0 T = mqC f n i k b (g T)) ∧ ∀ q T, A MB q T → A M q (g T)
theorem lx_i {A : mm_M → Int × Int × Int × Int → (Nat → Int) → Prop} (a s k b : Int) (M : mm_M) (hk : ¬ a = 0 ∨ (k = 0 ∧ b = 0)) : b01 (LX A f n a s s k b M M) = 1 := b01_i (by
  by_cases z : a = 0
  · obtain ⟨rfl, rfl⟩ := hk.resolve_left (fun w => w z)
    exact Or.inr ⟨fun T => T, fun T => rfl, fun _ _ h => h⟩
  · exact Or.inl z)
theorem lx_p {A : mm_M → Int × Int × Int × Int → (Nat → Int) → Prop} {a1 a2 a3 s i k b k' b' p1 x1 x2 x3 y2 y3 l1 l2 : Int} {MB M M2 N : mm_M} (h : b01 (LX A f n a1 s i k b MB M) = 1) (hp : b01 (PO n i a1 p1) = 1) (ht : ¬ tkF f n p1 = 3001) (hr : b01 (RR (liP f n k b i) a1 x1 a2 x2 y2) = 1) (h2 : b01 (CT A a2 M M2 (liC f n k b i)) = 1) (hr3 : b01 (RR (exP f n 2059 (liP f n k b i).2.2) a2 x2 a3 x3 y3) = 1) (h3 : b01 (CT A a3 M2 N (fun T => uT T 0 (T 0 + 1))) = 1) (hc : b01 (CK a2 k' b' l2 (inc (tkF f n i) 1003 k) (inc (tkF f n i) 1009 b) l1) = 1) : b01 (LX A f n a3 s (exP f n 2059 (liP f n k b i).2.2).2.2 k' b' MB N) = 1 := b01_i (by
  by_cases z : a3 = 0
  · right
    have z2 := rr_z hr3 z
    have z1 := rr_z hr z2
    obtain ⟨rfl, i0, i1⟩ := po_0 hp z1
    obtain ⟨g, e1, e2⟩ := (b01_e h).resolve_left (fun w => w z1)
    have r1 := (rr_v hr z2).1
    have r3 := (rr_v hr3 z).1
    have c := (b01_e hc).resolve_left (fun w => w z2)
    have lp : lnP f n k b p1 = exP f n 2059 (liP f n k b p1).2.2 := by unfold lnP sqP; rw [if_pos r1]
    refine ⟨fun T => lnC f n k b p1 (g T), fun T => ?_, fun q T x => ?_⟩
    · rw [e1 T, mqC_y f n ⟨i0, i1⟩ ht (by rw [lp]; exact r3), lp, c.1, c.2.1]
    · have y := (b01_e h2).resolve_left (fun w => w z2) q _ (e2 q T x)
      exact (b01_e h3).resolve_left (fun w => w z) q _ y
  · exact Or.inl z)
theorem lx_z {A : mm_M → Int × Int × Int × Int → (Nat → Int) → Prop} {a s i k b p : Int} {MB M : mm_M} (h : b01 (LX A f n a s i k b MB M) = 1) (hp : b01 (PO n i a p) = 1) (hx : ¬ a = 0 ∨ tkF f n p = 3001) : b01 (CT A a MB M (mqC f n s 0 0)) = 1 := b01_i (by
  by_cases z : a = 0
  · right
    obtain ⟨rfl, i0, i1⟩ := po_0 hp z
    obtain ⟨g, e1, e2⟩ := (b01_e h).resolve_left (fun w => w z)
    intro q T x
    rw [e1 T, mqC_n f n (hx.resolve_left (fun w => w z))]
    exact e2 q T x
  · exact Or.inl z)
/-- what the text tells stands there -/
def RDX (A : mm_M → Int × Int × Int × Int → (Nat → Int) → Prop) (a : Int) (f : Nat → Int) (n : Int) (N : mm_M) : Prop := ¬ a = 0 ∨ ∃ q, A N q (rdC f n)
theorem rdx_i {A : mm_M → Int × Int × Int × Int → (Nat → Int) → Prop} {a : Int} {MB M : mm_M} (h : b01 (CT A a MB M (mqC f n (hdP f n).2.2 0 0)) = 1) (q : Int × Int × Int × Int) (h0 : ¬ a = 0 ∨ A MB q T0) : b01 (RDX A a f n M) = 1 := b01_i (by
  by_cases z : a = 0
  · exact Or.inr ⟨q, (b01_e h).resolve_left (fun w => w z) q T0 (h0.resolve_left (fun w => w z))⟩
  · exact Or.inl z)
end RX5
theorem lk_z {F : Int → Int × Int × Int} {n s i c m a b a' b' p' : Int} (h : b01 (LK F n s i c m a b a' b' p') = 1) (h0 : a' = 0) : a = 0 := by
  rcases b01_e h with q | q | q | q <;> omega
/-! what a reader writes: its own cells, the plan's, the stock's -/
def RCL (p v : Nat) : List Nat := [78, p, s_p0 p 2, s_p0 p 3, s_p0 p 4, s_p0 p 5, v, s_p0 v 1, s_p0 v 2]
def RFX (M N : mm_M) : Prop := N.2.2 = M.2.2 ∧ (∀ i, i ≠ 78 → N.2.1 i = M.2.1 i) ∧ ∀ i, i ∉ RCL (M.2.2 78 3) (M.2.2 78 4) → N.1 i = M.1 i
theorem rfx_r (M : mm_M) : b01 (RFX M M) = 1 := b01_i ⟨rfl, fun _ _ => rfl, fun _ _ => rfl⟩
theorem rfx_t {M N O : mm_M} (h : b01 (RFX M N) = 1) (h2 : b01 (RFX N O) = 1) : b01 (RFX M O) = 1 := by
  have h := b01_e h
  have h2 := b01_e h2
  refine b01_i ⟨h2.1.trans h.1, fun i hi => (h2.2.1 i hi).trans (h.2.1 i hi), fun i hi => (h2.2.2 i ?_).trans (h.2.2 i hi)⟩
  rw [h.1]; exact hi
theorem rfx_w {M N O : mm_M} {c k : Nat} {x : Int32} (h : b01 (RFX M N) = 1) (e : O = wI N c k x) (hc : c ∈ RCL (M.2.2 78 3) (M.2.2 78 4)) : b01 (RFX M O) = 1 := by
  have h := b01_e h
  exact b01_i ⟨(show O.2.2 = N.2.2 by rw [e]).trans h.1, fun i hi => (show O.2.1 i = N.2.1 i by rw [e]).trans (h.2.1 i hi), fun i hi => (wc_x e (fun z => hi (by rw [z]; exact hc))).trans (h.2.2 i hi)⟩
theorem rfx_i {M N O : mm_M} {c k : Nat} {x : Int32} (h : b01 (RFX M N) = 1) (e : O = wI N c k x) (hc : c = 78) : b01 (RFX M O) = 1 := rfx_w h e (by rw [hc]; simp [RCL])
theorem rfx_p {M N O : mm_M} {c k p : Nat} {x : Int32} (h : b01 (RFX M N) = 1) (e : O = wI N c k x) (hp : p = N.2.2 78 3) (hc : c ∈ ([p, s_p0 p 2, s_p0 p 3, s_p0 p 4, s_p0 p 5] : List Nat)) : b01 (RFX M O) = 1 := by
  have z := b01_e h
  refine rfx_w h e ?_
  have : N.2.2 78 3 = M.2.2 78 3 := by rw [z.1]
  rw [hp, this] at hc
  simp only [RCL, List.mem_cons, List.not_mem_nil, or_false] at hc ⊢
  rcases hc with q | q | q | q | q <;> simp [q]
theorem rfx_v {M N O : mm_M} {c k v : Nat} {x : Int32} (h : b01 (RFX M N) = 1) (e : O = wI N c k x) (hp : v = N.2.2 78 4) (hc : c ∈ ([v, s_p0 v 1, s_p0 v 2] : List Nat)) : b01 (RFX M O) = 1 := by
  have z := b01_e h
  refine rfx_w h e ?_
  have : N.2.2 78 4 = M.2.2 78 4 := by rw [z.1]
  rw [hp, this] at hc
  simp only [RCL, List.mem_cons, List.not_mem_nil, or_false] at hc ⊢
  rcases hc with q | q | q <;> simp [q]
theorem rfx_F {M N O : mm_M} (h : b01 (RFX M N) = 1) (e : FR [78] N O) : b01 (RFX M O) = 1 :=
  rfx_t h (b01_i ⟨e.2.1, fun i hi => funext fun k => e.2.2 i k (by simpa using hi), fun i hi => funext fun k => e.1 i k (fun z => hi (by simp at z; rw [z]; simp [RCL]))⟩)
/-- one cell alone -/
def ONE (M N : mm_M) (c : Nat) : Prop := N.2 = M.2 ∧ ∀ i, i ≠ c → N.1 i = M.1 i
theorem one_r (M : mm_M) (c : Nat) : ONE M M c := ⟨rfl, fun _ _ => rfl⟩
theorem one_w {M N O : mm_M} {c k : Nat} {x : Int32} (h : ONE M N c) (e : O = wI N c k x) : ONE M O c := ⟨(show O.2 = N.2 by rw [e]).trans h.1, fun i hi => (wc_x e hi).trans (h.2 i hi)⟩
/-- the reader's whole work: all but its cells and those of p, v -/
def RDF (M N : mm_M) (p v : Nat) : Prop := ((∀ i, i ≠ 78 → N.2.2 i = M.2.2 i) ∧ ∀ i, i ≠ 78 → i ≠ 79 → i ≠ 80 → N.2.1 i = M.2.1 i) ∧ (∀ i, i ∉ RCL p v → i ≠ 79 → i ≠ 80 → N.1 i = M.1 i) ∧ N.2.2 78 3 = p ∧ N.2.2 78 4 = v
/-- what stands as the first token is come to -/
theorem rd_0 {M Ma Mb Mc Md Me Mf Mg Mh : mm_M} {p v : Nat} (ea : Ma = wP M 78 3 p) (eb : Mb = wP Ma 78 4 v) (hc : b01 (ONE Mb Mc p) = 1) (hd : b01 (ONE Mc Md v) = 1) (he : FR [79, 80] Md Me) {x y z : Int32} {i j k : Nat} (ef : Mf = wI Me 78 i x) (eg : Mg = wI Mf 78 j y) (eh : Mh = wI Mg 78 k z) (cp : s_c p = 6) (cv : s_c v = 8) (zp : (Mc.1 p 0).toInt = 0 ∧ (Mc.1 p 1).toInt = 0 ∧ (Mc.1 p 6).toInt = 0 ∧ (Mc.1 p 7).toInt = 0 ∧ (Mc.1 p 8).toInt = 0 ∧ (Mc.1 p 9).toInt = 0 ∧ (Mc.1 p 10).toInt = 0) (zv : (Md.1 v 0).toInt = 0 ∧ (Md.1 v 3).toInt = 0 ∧ (Md.1 v 4).toInt = 0 ∧ (Md.1 v 5).toInt = 0 ∧ (Md.1 v 6).toInt = 0 ∧ (Md.1 v 8).toInt = 0) : AGX Mh (fun _ => 0) ∧ RDF M Mh p v := by
  have hc := b01_e hc
  have hd := b01_e hd
  have npv : p ≠ v := s_ne cp cv (by decide)
  have k1 : ∀ i, i ≠ 78 → i ≠ 79 → i ≠ 80 → Mh.1 i = Md.1 i := fun i h1 h2 h3 => (wc_x eh h1).trans ((wc_x eg h1).trans ((wc_x ef h1).trans (funext fun k => he.1 i k (by simp; exact ⟨h2, h3⟩))))
  have r1 : Mh.2.2 = Mb.2.2 := (wx_r eh).trans ((wx_r eg).trans ((wx_r ef).trans (he.2.1.trans ((show Md.2.2 = Mc.2.2 by rw [hd.1]).trans (show Mc.2.2 = Mb.2.2 by rw [hc.1])))))
  have rp : Mh.2.2 78 3 = p := by rw [r1, eb, ea]; show u2 (u2 M.2.2 78 3 p) 78 4 v 78 3 = p; rw [u2_b _ _ (by decide)]; exact u2_s _ _ _ _
  have rv : Mh.2.2 78 4 = v := by rw [r1, eb]; show u2 Ma.2.2 78 4 v 78 4 = v; exact u2_s _ _ _ _
  have n78 : ∀ {i c : Nat}, s_c i = c → c ≠ 7 → c ≠ 27 → c ≠ 28 → i ≠ 78 := fun {i c} h h7 _ _ z => h7 (by rw [← h, z]; rfl)
  have ep : Mh.1 p = Mc.1 p := (k1 p (s_ne (c := 6) (d := 7) cp rfl (by decide)) (fun z => by rw [z] at cp; exact absurd cp (by decide)) (fun z => by rw [z] at cp; exact absurd cp (by decide))).trans (hd.2 p npv)
  have ev : Mh.1 v = Md.1 v := k1 v (s_ne (c := 8) (d := 7) cv rfl (by decide)) (fun z => by rw [z] at cv; exact absurd cv (by decide)) (fun z => by rw [z] at cv; exact absurd cv (by decide))
  refine ⟨⟨(0, 0, 0, 0), ?_, Or.inl ⟨rfl, rfl⟩, Or.inl ⟨rfl, rfl⟩⟩, ⟨fun i hi => ?_, fun i hi h9 h80 => ?_⟩, fun i hi h9 h80 => ?_, rp, rv⟩
  · unfold AGC
    rw [rp, rv]
    refine ⟨⟨?_, ?_, fun k h1 _ => absurd (show (k : Int) < 0 from h1) (by omega), fun k h1 _ => absurd (show (k : Int) < 0 from h1) (by omega), fun k h1 => absurd (show (k : Int) < 0 from h1) (by omega)⟩, ⟨by decide, by decide, by decide⟩, cp, cv⟩
    · rw [ep, ev]; exact ⟨zp.1, zp.2.1, zp.2.2.1, zv.1, zv.2.1, zv.2.2.1, zv.2.2.2.1, zv.2.2.2.2.1, zv.2.2.2.2.2⟩
    · rw [ep]; exact ⟨zp.2.2.2.1, zp.2.2.2.2.1, zp.2.2.2.2.2.1, zp.2.2.2.2.2.2⟩
  · rw [r1, eb, ea]; funext b; show u2 (u2 M.2.2 78 3 p) 78 4 v i b = _; rw [u2_a _ _ hi, u2_a _ _ hi]
  · have q : Mh.2.1 i = Md.2.1 i := by
      rw [eh, eg, ef]; exact funext fun k => he.2.2 i k (by simp; exact ⟨h9, h80⟩)
    rw [q, hd.1, hc.1, eb, ea]
  · have h78 : i ≠ 78 := fun z => hi (by rw [z]; simp [RCL])
    have hp : i ≠ p := fun z => hi (by rw [z]; simp [RCL])
    have hv : i ≠ v := fun z => hi (by rw [z]; simp [RCL])
    rw [k1 i h78 h9 h80, hd.2 i hv, hc.2 i hp, eb, ea]
theorem rdf_t {M N O : mm_M} {p v : Nat} (h : RDF M N p v) (h2 : b01 (RFX N O) = 1) : b01 (RDF M O p v) = 1 := by
  have h2 := b01_e h2
  obtain ⟨⟨a, b⟩, c, d, e⟩ := h
  refine b01_i ⟨⟨fun i hi => (by rw [h2.1]; exact a i hi), fun i hi h9 h80 => (h2.2.1 i hi).trans (b i hi h9 h80)⟩, fun i hi h9 h80 => (h2.2.2 i (by rw [d, e]; exact hi)).trans (c i hi h9 h80), by rw [h2.1]; exact d, by rw [h2.1]; exact e⟩
theorem lm_z {f : Nat → Int} {n s k0 m0 l0 i c k m l a b a' b' p' : Int} (h : b01 (LM f n s k0 m0 l0 i c k m l a b a' b' p') = 1) (h0 : a' = 0) : a = 0 := by
  rcases b01_e h with q | q | q
  · omega
  · exact q.1
  · exact q.1
theorem kx_b {pr : Nat → Nat → Bool} {Kz M : mm_M} (h : INV pr Kz M) : (0 ≤ kiX M ∧ kiX M ≤ 8) ∧ 0 ≤ byX M ∧ byX M ≤ 6 := by
  have h3 := h.rm (i := 78) (c := 7) (k := 3) (t := 6) rfl rfl (by decide)
  have h4 := h.rm (i := 78) (c := 7) (k := 4) (t := 8) rfl rfl (by decide)
  exact ⟨h.rd h4 (show s_b 8 0 = (0, 8) from rfl), h.rd h3 (show s_b 6 0 = (0, 6) from rfl)⟩
theorem lx_y {A : mm_M → Int × Int × Int × Int → (Nat → Int) → Prop} {f : Nat → Int} {n a s i k b p s0 k0 m0 l0 c m l a0 b0 b' : Int} {MB M : mm_M} (h : b01 (LX A f n a s i k b MB M) = 1) (hl : b01 (LM f n s0 k0 m0 l0 i c k m l a0 b0 a b' p) = 1) (hx : ¬ a = 0 ∨ n ≤ c ∨ tkF f n p = 3001) : b01 (CT A a MB M (mqC f n s 0 0)) = 1 := by
  by_cases z : a = 0
  · have q : p = i ∧ 0 ≤ i ∧ i ≤ n ∧ c ≤ i := by
      rcases b01_e hl with q | q | q
      · omega
      · exact q.2.2.2.2
      · omega
    refine lx_z f n h (p := p) (b01_i (Or.inr ⟨q.1, q.2.1, q.2.2.1⟩)) ?_
    rcases hx with w | w | w
    · exact Or.inl w
    · right; unfold tkF; rw [if_neg (by omega)]
    · exact Or.inr w
  · exact b01_i (Or.inl z)
theorem hd_e (f : Nat → Int) (n : Int) (h : (exP f n 1008 (runE blB f n 0)).1 = 0) : (hdP f n).2.2 = (exP f n 2059 (exP f n 1008 (runE blB f n 0)).2.2).2.2 := by unfold hdP sqP; rw [if_pos h]
end
