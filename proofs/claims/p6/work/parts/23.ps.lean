/-! THE TEXT: its bytes f, how many n; runs and tokens -/
def smB (c : Int) : Bool := decide (97 ≤ c ∧ c ≤ 122)
def dgB (c : Int) : Bool := decide (48 ≤ c ∧ c ≤ 57)
def blB (c : Int) : Bool := decide (c = 10 ∨ c = 32)
def runF (p : Int → Bool) (f : Nat → Int) : Nat → Nat → Nat
  | 0, i => i
  | k + 1, i => if p (f i) = true then runF p f k (i + 1) else i
/-- the first place from i on, below n, that has not p; n if there is none -/
def runE (p : Int → Bool) (f : Nat → Int) (n i : Int) : Int := (runF p f (n - i).toNat i.toNat : Nat)
theorem runF_ge (p : Int → Bool) (f : Nat → Int) : ∀ k i, i ≤ runF p f k i ∧ runF p f k i ≤ i + k
  | 0, i => ⟨Nat.le_refl _, Nat.le_refl _⟩
  | k + 1, i => by
    rw [runF]
    split
    · have := runF_ge p f k (i + 1); omega
    · omega
theorem runF_in (p : Int → Bool) (f : Nat → Int) : ∀ k i j, i ≤ j → j < runF p f k i → p (f j) = true
  | 0, i, j, h1, h2 => by rw [runF] at h2; omega
  | k + 1, i, j, h1, h2 => by
    rw [runF] at h2
    split at h2
    · rename_i h
      by_cases e : j = i
      · rw [e]; exact h
      · exact runF_in p f k (i + 1) j (by omega) h2
    · omega
theorem runE_le (p : Int → Bool) (f : Nat → Int) (n i : Int) : (0 ≤ i ∧ i ≤ n) → i ≤ runE p f n i ∧ runE p f n i ≤ n := fun h => by
  have := runF_ge p f (n - i).toNat i.toNat
  unfold runE; omega
theorem runE_in (p : Int → Bool) (f : Nat → Int) (n i j : Int) (h : 0 ≤ i ∧ i ≤ j ∧ j < runE p f n i) : p (f j.toNat) = true := by
  unfold runE at h
  exact runF_in p f (n - i).toNat i.toNat j.toNat (by omega) (by omega)
/-- one step -/
theorem runE_s (p : Int → Bool) (f : Nat → Int) (n i : Int) : (0 ≤ i ∧ i < n) → (p (f i.toNat) = true ∧ runE p f n i = runE p f n (i + 1)) ∨ (¬ p (f i.toNat) = true ∧ runE p f n i = i) := fun h => by
  by_cases q : p (f i.toNat) = true
  · refine Or.inl ⟨q, ?_⟩
    unfold runE
    rw [show (n - i).toNat = (n - (i + 1)).toNat + 1 by omega, runF, if_pos q, show (i + 1).toNat = i.toNat + 1 by omega]
  · refine Or.inr ⟨q, ?_⟩
    unfold runE
    rw [show (n - i).toNat = (n - (i + 1)).toNat + 1 by omega, runF, if_neg q]; omega
theorem runE_n (p : Int → Bool) (f : Nat → Int) (n i : Int) : (0 ≤ i ∧ n ≤ i) → runE p f n i = i := fun h => by
  unfold runE
  rw [show (n - i).toNat = 0 by omega, runF]; omega
/-- the same, in numbers: small letters, digits, blanks -/
theorem run_sm (f : Nat → Int) (n i : Int) : (0 ≤ i ∧ i < n) → (97 ≤ f i.toNat ∧ f i.toNat ≤ 122 ∧ runE smB f n i = runE smB f n (i + 1)) ∨ ((f i.toNat < 97 ∨ 122 < f i.toNat) ∧ runE smB f n i = i) := fun h => by
  rcases runE_s smB f n i h with q | q <;> simp only [smB, decide_eq_true_eq] at q
  · exact Or.inl ⟨q.1.1, q.1.2, q.2⟩
  · exact Or.inr ⟨by omega, q.2⟩
theorem run_dg (f : Nat → Int) (n i : Int) : (0 ≤ i ∧ i < n) → (48 ≤ f i.toNat ∧ f i.toNat ≤ 57 ∧ runE dgB f n i = runE dgB f n (i + 1)) ∨ ((f i.toNat < 48 ∨ 57 < f i.toNat) ∧ runE dgB f n i = i) := fun h => by
  rcases runE_s dgB f n i h with q | q <;> simp only [dgB, decide_eq_true_eq] at q
  · exact Or.inl ⟨q.1.1, q.1.2, q.2⟩
  · exact Or.inr ⟨by omega, q.2⟩
theorem run_bl (f : Nat → Int) (n i : Int) : (0 ≤ i ∧ i < n) → ((f i.toNat = 10 ∨ f i.toNat = 32) ∧ runE blB f n i = runE blB f n (i + 1)) ∨ (¬ f i.toNat = 10 ∧ ¬ f i.toNat = 32 ∧ runE blB f n i = i) := fun h => by
  rcases runE_s blB f n i h with q | q <;> simp only [blB, decide_eq_true_eq] at q
  · exact Or.inl q
  · exact Or.inr ⟨by omega, by omega, q.2⟩
/-- a token's end; the number of its digits; the word that it is -/
def teF (f : Nat → Int) (n i : Int) : Int := if smB (f i.toNat) = true then runE smB f n (i + 1) else if dgB (f i.toNat) = true then runE dgB f n (i + 1) else i + 1
theorem teF_s (f : Nat → Int) (n i : Int) : (97 ≤ f i.toNat ∧ f i.toNat ≤ 122 ∧ teF f n i = runE smB f n (i + 1)) ∨ (48 ≤ f i.toNat ∧ f i.toNat ≤ 57 ∧ teF f n i = runE dgB f n (i + 1)) ∨ (¬ (97 ≤ f i.toNat ∧ f i.toNat ≤ 122) ∧ ¬ (48 ≤ f i.toNat ∧ f i.toNat ≤ 57) ∧ teF f n i = i + 1) := by
  unfold teF
  by_cases h1 : smB (f i.toNat) = true
  · rw [if_pos h1]; simp only [smB, decide_eq_true_eq] at h1; exact Or.inl ⟨h1.1, h1.2, rfl⟩
  · rw [if_neg h1]
    simp only [smB, decide_eq_true_eq] at h1
    by_cases h2 : dgB (f i.toNat) = true
    · rw [if_pos h2]; simp only [dgB, decide_eq_true_eq] at h2; exact Or.inr (Or.inl ⟨h2.1, h2.2, rfl⟩)
    · rw [if_neg h2]; simp only [dgB, decide_eq_true_eq] at h2; exact Or.inr (Or.inr ⟨h1, h2, rfl⟩)
theorem teF_le (f : Nat → Int) (n i : Int) : (0 ≤ i ∧ i < n) → i + 1 ≤ teF f n i ∧ teF f n i ≤ n := fun h => by
  have a := runE_le smB f n (i + 1) (by omega)
  have b := runE_le dgB f n (i + 1) (by omega)
  have c := teF_s f n i
  omega
def valF (f : Nat → Int) (i : Int) : Nat → Int
  | 0 => 0
  | k + 1 => 10 * valF f i k + f (i + (k : Int)).toNat - 48
def nxF (f : Nat → Int) (n i : Int) : Int := runE blB f n (teF f n i)
theorem nxF_le (f : Nat → Int) (n i : Int) : (0 ≤ i ∧ i < n) → i + 1 ≤ nxF f n i ∧ nxF f n i ≤ n := fun h => by
  have a := teF_le f n i h
  have b := runE_le blB f n (teF f n i) (by omega)
  unfold nxF; omega
/-! the words -/
def kwL : List (List Int) := [[119, 104, 111], [112, 117, 114, 115, 101], [109, 105, 110, 100], [107, 105, 110, 100], [112, 114, 105, 99, 101], [103, 114, 111, 117, 112], [103, 111, 110, 101], [115, 111, 108, 100], [115, 104, 111, 112], [98, 117, 121, 101, 114], [119, 97, 110, 116, 115], [108, 101, 116, 115], [104, 105, 100, 100, 101, 110], [111, 100, 100, 115], [111, 114], [97, 110, 100], [110, 111, 116]]
def kwF (w : Nat) : List Int := kwL.getD w []
/-- the text from i on, m bytes long, is word w -/
def wmQ (f : Nat → Int) (i m : Int) (w : Nat) : Prop := m = ((kwF w).length : Int) ∧ ∀ s : Nat, s < (kwF w).length → f (i + (s : Int)).toNat = (kwF w).getD s 0
theorem kw_ne : ∀ a, a < 17 → ∀ b, b < 17 → (kwF a).length = (kwF b).length → (∀ s, s < (kwF a).length → (kwF a).getD s 0 = (kwF b).getD s 0) → a = b := by decide +kernel
theorem wmQ_1 {f : Nat → Int} {i m : Int} {a b : Nat} (ha : a < 17) (hb : b < 17) (h1 : wmQ f i m a) (h2 : wmQ f i m b) : a = b :=
  kw_ne a ha b hb (by have := h1.1; have := h2.1; omega) (fun s hs => by rw [← h1.2 s hs, h2.2 s (by have := h1.1; have := h2.1; omega)])
/-- from word w on, k words: which it is -/
noncomputable def wdG (f : Nat → Int) (i m : Int) : Nat → Nat → Int
  | 0, _ => 1017
  | k + 1, w => @ite Int (wmQ f i m w) (Classical.propDecidable _) (1000 + (w : Int)) (wdG f i m k (w + 1))
noncomputable def twF (f : Nat → Int) (i m : Int) : Int := wdG f i m 17 0
theorem wdG_y {f : Nat → Int} {i m : Int} {k w : Nat} (h : wmQ f i m w) : wdG f i m (k + 1) w = 1000 + (w : Int) := by rw [wdG, if_pos h]
theorem wdG_n {f : Nat → Int} {i m : Int} {k w : Nat} (h : ¬ wmQ f i m w) : wdG f i m (k + 1) w = wdG f i m k (w + 1) := by rw [wdG, if_neg h]
theorem wdG_in {f : Nat → Int} {i m : Int} {v : Nat} (hv : v < 17) (h : wmQ f i m v) : ∀ k w, w + k = 17 → w ≤ v → wdG f i m k w = 1000 + (v : Int)
  | 0, w, h1, h2 => by omega
  | k + 1, w, h1, h2 => by
    by_cases q : wmQ f i m w
    · rw [wdG_y q, wmQ_1 (by omega) hv q h]
    · rw [wdG_n q]
      have lt : w < v := by
        rcases Nat.lt_or_ge w v with z | z
        · exact z
        · exfalso; apply q; rw [show w = v by omega]; exact h
      exact wdG_in hv h k (w + 1) (by omega) (by omega)
theorem wdG_out {f : Nat → Int} {i m : Int} (h : ∀ v, v < 17 → ¬ wmQ f i m v) : ∀ k w, w + k ≤ 17 → wdG f i m k w = 1017
  | 0, w, _ => rfl
  | k + 1, w, h1 => by rw [wdG_n (h w (by omega))]; exact wdG_out h k (w + 1) (by omega)
theorem twF_s (f : Nat → Int) (i m : Int) : (∃ v : Nat, v < 17 ∧ wmQ f i m v ∧ twF f i m = 1000 + (v : Int)) ∨ ((∀ v, v < 17 → ¬ wmQ f i m v) ∧ twF f i m = 1017) := by
  by_cases q : ∃ v : Nat, v < 17 ∧ wmQ f i m v
  · obtain ⟨v, hv, h⟩ := q
    exact Or.inl ⟨v, hv, h, wdG_in hv h 17 0 rfl (by omega)⟩
  · exact Or.inr ⟨fun v hv h => q ⟨v, hv, h⟩, wdG_out (fun v hv h => q ⟨v, hv, h⟩) 17 0 (by omega)⟩
theorem twF_b (f : Nat → Int) (i m : Int) : 1000 ≤ twF f i m ∧ twF f i m ≤ 1017 := by
  rcases twF_s f i m with ⟨v, hv, _, e⟩ | ⟨_, e⟩ <;> omega
/-- a token's meaning -/
def sgQ (c : Int) : Prop := c = 59 ∨ c = 58 ∨ c = 43 ∨ c = 45 ∨ c = 42 ∨ c = 40 ∨ c = 41 ∨ c = 91 ∨ c = 93 ∨ c = 61 ∨ c = 60 ∨ c = 62
noncomputable def tmF (f : Nat → Int) (n i : Int) : Int := if smB (f i.toNat) = true then twF f i (teF f n i - i) else if dgB (f i.toNat) = true then (if 3 < teF f n i - i then 3000 else valF f i (teF f n i - i).toNat) else @ite Int (sgQ (f i.toNat)) (Classical.propDecidable _) (2000 + f i.toNat) 3000
noncomputable def tkF (f : Nat → Int) (n i : Int) : Int := if i < n then tmF f n i else 3001
theorem tmF_s (f : Nat → Int) (n i : Int) : (97 ≤ f i.toNat ∧ f i.toNat ≤ 122 ∧ tmF f n i = twF f i (teF f n i - i)) ∨ (48 ≤ f i.toNat ∧ f i.toNat ≤ 57 ∧ (3 < teF f n i - i ∧ tmF f n i = 3000 ∨ teF f n i - i ≤ 3 ∧ tmF f n i = valF f i (teF f n i - i).toNat)) ∨ (¬ (97 ≤ f i.toNat ∧ f i.toNat ≤ 122) ∧ ¬ (48 ≤ f i.toNat ∧ f i.toNat ≤ 57) ∧ (sgQ (f i.toNat) ∧ tmF f n i = 2000 + f i.toNat ∨ ¬ sgQ (f i.toNat) ∧ tmF f n i = 3000)) := by
  unfold tmF
  by_cases h1 : smB (f i.toNat) = true
  · rw [if_pos h1]; simp only [smB, decide_eq_true_eq] at h1; exact Or.inl ⟨h1.1, h1.2, rfl⟩
  · rw [if_neg h1]
    simp only [smB, decide_eq_true_eq] at h1
    by_cases h2 : dgB (f i.toNat) = true
    · rw [if_pos h2]; simp only [dgB, decide_eq_true_eq] at h2
      refine Or.inr (Or.inl ⟨h2.1, h2.2, ?_⟩)
      by_cases h3 : 3 < teF f n i - i
      · rw [if_pos h3]; exact Or.inl ⟨h3, rfl⟩
      · rw [if_neg h3]; exact Or.inr ⟨by omega, rfl⟩
    · rw [if_neg h2]; simp only [dgB, decide_eq_true_eq] at h2
      refine Or.inr (Or.inr ⟨h1, h2, ?_⟩)
      by_cases h3 : sgQ (f i.toNat)
      · rw [if_pos h3]; exact Or.inl ⟨h3, rfl⟩
      · rw [if_neg h3]; exact Or.inr ⟨h3, rfl⟩
theorem tkF_lt (f : Nat → Int) (n i : Int) : (i < n ∧ tkF f n i = tmF f n i) ∨ (n ≤ i ∧ tkF f n i = 3001) := by
  unfold tkF
  by_cases h : i < n
  · rw [if_pos h]; exact Or.inl ⟨h, rfl⟩
  · rw [if_neg h]; exact Or.inr ⟨by omega, rfl⟩
theorem val_b (f : Nat → Int) (n i : Int) (h : 0 ≤ i ∧ i < n) (h2 : 48 ≤ f i.toNat ∧ f i.toNat ≤ 57) (h3 : teF f n i - i ≤ 3) : 0 ≤ valF f i (teF f n i - i).toNat ∧ valF f i (teF f n i - i).toNat ≤ 999 := by
  have a := teF_le f n i h
  have e : teF f n i = runE dgB f n (i + 1) := by have := teF_s f n i; omega
  have d : ∀ j, i ≤ j → j < teF f n i → 48 ≤ f j.toNat ∧ f j.toNat ≤ 57 := fun j h4 h5 => by
    by_cases z : j = i
    · rw [z]; exact h2
    · have := runE_in dgB f n (i + 1) j (by omega)
      simpa only [dgB, decide_eq_true_eq] using this
  rcases (show teF f n i - i = 1 ∨ teF f n i - i = 2 ∨ teF f n i - i = 3 by omega) with q | q | q <;> rw [q]
  · have d0 := d i (by omega) (by omega)
    show 0 ≤ 10 * 0 + f (i + ((0 : Nat) : Int)).toNat - 48 ∧ 10 * 0 + f (i + ((0 : Nat) : Int)).toNat - 48 ≤ 999
    rw [show i + ((0 : Nat) : Int) = i by omega]; omega
  · have d0 := d i (by omega) (by omega)
    have d1 := d (i + 1) (by omega) (by omega)
    show 0 ≤ 10 * (10 * 0 + f (i + ((0 : Nat) : Int)).toNat - 48) + f (i + ((1 : Nat) : Int)).toNat - 48 ∧ 10 * (10 * 0 + f (i + ((0 : Nat) : Int)).toNat - 48) + f (i + ((1 : Nat) : Int)).toNat - 48 ≤ 999
    rw [show i + ((0 : Nat) : Int) = i by omega, show i + ((1 : Nat) : Int) = i + 1 by omega]; omega
  · have d0 := d i (by omega) (by omega)
    have d1 := d (i + 1) (by omega) (by omega)
    have d2 := d (i + 2) (by omega) (by omega)
    show 0 ≤ 10 * (10 * (10 * 0 + f (i + ((0 : Nat) : Int)).toNat - 48) + f (i + ((1 : Nat) : Int)).toNat - 48) + f (i + ((2 : Nat) : Int)).toNat - 48 ∧ 10 * (10 * (10 * 0 + f (i + ((0 : Nat) : Int)).toNat - 48) + f (i + ((1 : Nat) : Int)).toNat - 48) + f (i + ((2 : Nat) : Int)).toNat - 48 ≤ 999
    rw [show i + ((0 : Nat) : Int) = i by omega, show i + ((1 : Nat) : Int) = i + 1 by omega, show i + ((2 : Nat) : Int) = i + 2 by omega]; omega
/-- the tokens there are -/
theorem tkF_v (f : Nat → Int) (n i : Int) : 0 ≤ i → (0 ≤ tkF f n i ∧ tkF f n i ≤ 999 ∧ i < n) ∨ (1000 ≤ tkF f n i ∧ tkF f n i ≤ 1017 ∧ i < n) ∨ ((tkF f n i = 2059 ∨ tkF f n i = 2058 ∨ tkF f n i = 2043 ∨ tkF f n i = 2045 ∨ tkF f n i = 2042 ∨ tkF f n i = 2040 ∨ tkF f n i = 2041 ∨ tkF f n i = 2091 ∨ tkF f n i = 2093 ∨ tkF f n i = 2061 ∨ tkF f n i = 2060 ∨ tkF f n i = 2062) ∧ i < n) ∨ (tkF f n i = 3000 ∧ i < n) ∨ (tkF f n i = 3001 ∧ n ≤ i) := fun h0 => by
  rcases tkF_lt f n i with ⟨h, e⟩ | ⟨h, e⟩
  · rw [e]
    rcases tmF_s f n i with ⟨_, _, q⟩ | ⟨q1, q2, ⟨_, q⟩ | ⟨q3, q⟩⟩ | ⟨_, _, ⟨q1, q⟩ | ⟨_, q⟩⟩
    · have := twF_b f i (teF f n i - i); omega
    · omega
    · have := val_b f n i ⟨h0, h⟩ ⟨q1, q2⟩ q3; omega
    · unfold sgQ at q1; omega
    · omega
  · omega
/-! THE PARSER: a step gives (fault, its place, the place behind) -/
section PS
variable (f : Nat → Int) (n : Int)
noncomputable def flP (i k : Int) : Int := if tkF f n i = 3000 then 1 else k
theorem flP_s (i k : Int) : (tkF f n i = 3000 ∧ flP f n i k = 1) ∨ (¬ tkF f n i = 3000 ∧ flP f n i k = k) := by
  unfold flP; split <;> simp_all
def sqP (a : Int × Int × Int) (F : Int → Int × Int × Int) : Int × Int × Int := if a.1 = 0 then F a.2.2 else a
theorem sqP_s (a : Int × Int × Int) (F : Int → Int × Int × Int) : (a.1 = 0 ∧ (sqP a F).1 = (F a.2.2).1 ∧ (sqP a F).2.1 = (F a.2.2).2.1 ∧ (sqP a F).2.2 = (F a.2.2).2.2) ∨ (¬ a.1 = 0 ∧ (sqP a F).1 = a.1 ∧ (sqP a F).2.1 = a.2.1) := by
  unfold sqP
  by_cases h : a.1 = 0
  · rw [if_pos h]; exact Or.inl ⟨h, rfl, rfl, rfl⟩
  · rw [if_neg h]; exact Or.inr ⟨h, rfl, rfl⟩
/-- a fault at i -/
noncomputable def faP (i k : Int) : Int × Int × Int := (flP f n i k, i, i)
/-- token t is taken -/
noncomputable def exP (t i : Int) : Int × Int × Int := if tkF f n i = t then (0, 0, nxF f n i) else faP f n i 2
theorem exP_s (t i : Int) : (tkF f n i = t ∧ (exP f n t i).1 = 0 ∧ (exP f n t i).2.2 = nxF f n i) ∨ (¬ tkF f n i = t ∧ (exP f n t i).1 = flP f n i 2 ∧ (exP f n t i).2.1 = i) := by
  unfold exP
  by_cases h : tkF f n i = t
  · rw [if_pos h]; exact Or.inl ⟨h, rfl, rfl⟩
  · rw [if_neg h]; exact Or.inr ⟨h, rfl, rfl⟩
noncomputable def nuP (lo hi i : Int) : Int × Int × Int := if 1000 ≤ tkF f n i then faP f n i 2 else if tkF f n i < lo ∨ hi < tkF f n i then faP f n i 3 else (0, 0, nxF f n i)
theorem nuP_s (lo hi i : Int) : (1000 ≤ tkF f n i ∧ (nuP f n lo hi i).1 = flP f n i 2 ∧ (nuP f n lo hi i).2.1 = i) ∨ (tkF f n i < 1000 ∧ (tkF f n i < lo ∨ hi < tkF f n i) ∧ (nuP f n lo hi i).1 = 3 ∧ (nuP f n lo hi i).2.1 = i) ∨ (tkF f n i < 1000 ∧ lo ≤ tkF f n i ∧ tkF f n i ≤ hi ∧ (nuP f n lo hi i).1 = 0 ∧ (nuP f n lo hi i).2.2 = nxF f n i) := by
  unfold nuP
  by_cases h : 1000 ≤ tkF f n i
  · rw [if_pos h]; exact Or.inl ⟨h, rfl, rfl⟩
  · rw [if_neg h]
    by_cases h2 : tkF f n i < lo ∨ hi < tkF f n i
    · rw [if_pos h2]; exact Or.inr (Or.inl ⟨by omega, h2, by show flP f n i 3 = 3; unfold flP; rw [if_neg (by omega)], rfl⟩)
    · rw [if_neg h2]; exact Or.inr (Or.inr ⟨by omega, by omega, by omega, rfl, rfl⟩)
/-- what goes on: from i it comes to a later place -/
def PG (F : Int → Int × Int × Int) : Prop := ∀ i, 0 ≤ i → (F i).1 = 0 → i ≤ n → i < (F i).2.2 ∧ (F i).2.2 ≤ n
def PH (F : Int → Int × Int × Int) : Prop := ∀ i, 0 ≤ i → (F i).1 = 0 → i ≤ n → i ≤ (F i).2.2 ∧ (F i).2.2 ≤ n
/-- a loop: while token i has q, step -/
def lpG (q : Int → Bool) (st : Int → Int × Int × Int) : Nat → Int → Int × Int × Int
  | 0, i => (0, 0, i)
  | k + 1, i => if q i = true then sqP (st i) (lpG q st k) else (0, 0, i)
def lpP (q : Int → Bool) (st : Int → Int × Int × Int) (i : Int) : Int × Int × Int := lpG q st (n + 1 - i).toNat i
theorem lpG_e {q : Int → Bool} {st : Int → Int × Int × Int} (hs : ∀ i, 0 ≤ i → i ≤ n → q i = true → i < n ∧ ((st i).1 = 0 → i < (st i).2.2 ∧ (st i).2.2 ≤ n)) : ∀ (k j : Nat) (i : Int), 0 ≤ i → i ≤ n → (n - i).toNat < k → (n - i).toNat < j → lpG q st k i = lpG q st j i
  | 0, j, i, h0, h1, h2, h3 => by omega
  | k + 1, 0, i, h0, h1, h2, h3 => by omega
  | k + 1, j + 1, i, h0, h1, h2, h3 => by
    rw [lpG, lpG]
    by_cases z : q i = true
    · rw [if_pos z, if_pos z]
      obtain ⟨a, b⟩ := hs i h0 h1 z
      unfold sqP
      by_cases y : (st i).1 = 0
      · rw [if_pos y, if_pos y]
        obtain ⟨c, d⟩ := b y
        exact lpG_e hs k j _ (by omega) d (by omega) (by omega)
      · rw [if_neg y, if_neg y]
    · rw [if_neg z, if_neg z]
theorem lpP_s {q : Int → Bool} {st : Int → Int × Int × Int} (hs : ∀ i, 0 ≤ i → i ≤ n → q i = true → i < n ∧ ((st i).1 = 0 → i < (st i).2.2 ∧ (st i).2.2 ≤ n)) (i : Int) (h0 : 0 ≤ i ∧ i ≤ n) : (q i = true ∧ ¬ (st i).1 = 0 ∧ (lpP n q st i).1 = (st i).1 ∧ (lpP n q st i).2.1 = (st i).2.1) ∨ (q i = true ∧ (st i).1 = 0 ∧ lpP n q st i = lpP n q st (st i).2.2) ∨ (¬ q i = true ∧ lpP n q st i = (0, 0, i)) := by
  unfold lpP
  rw [show (n + 1 - i).toNat = (n - i).toNat + 1 by omega, lpG]
  by_cases z : q i = true
  · rw [if_pos z]
    obtain ⟨a, b⟩ := hs i h0.1 h0.2 z
    by_cases y : (st i).1 = 0
    · obtain ⟨c, d⟩ := b y
      refine Or.inr (Or.inl ⟨z, y, ?_⟩)
      unfold sqP
      rw [if_pos y]
      exact lpG_e n hs _ _ _ (by omega) d (by omega) (by omega)
    · refine Or.inl ⟨z, y, ?_⟩
      unfold sqP
      rw [if_neg y]; exact ⟨rfl, rfl⟩
  · rw [if_neg z]; exact Or.inr (Or.inr ⟨z, rfl⟩)
theorem lpP_h {q : Int → Bool} {st : Int → Int × Int × Int} (hs : ∀ i, 0 ≤ i → i ≤ n → q i = true → i < n ∧ ((st i).1 = 0 → i < (st i).2.2 ∧ (st i).2.2 ≤ n)) : PH n (lpP n q st) := by
  have key : ∀ (k : Nat) (i : Int), 0 ≤ i → i ≤ n → (n - i).toNat < k → (lpP n q st i).1 = 0 → i ≤ (lpP n q st i).2.2 ∧ (lpP n q st i).2.2 ≤ n := by
    intro k
    induction k with
    | zero => intro i h0 h1 h2; omega
    | succ k ih =>
      intro i h0 h1 h2 h3
      rcases lpP_s n hs i ⟨h0, h1⟩ with ⟨_, a, b, _⟩ | ⟨z, a, b⟩ | ⟨_, b⟩
      · omega
      · obtain ⟨c, d⟩ := (hs i h0 h1 z).2 a
        rw [b] at h3 ⊢
        have := ih _ (by omega) d (by omega) h3
        omega
      · rw [b]; exact ⟨Int.le_refl _, h1⟩
  intro i h0 h1 h2
  exact key ((n - i).toNat + 1) i h0 h2 (by omega) h1
theorem nx_b {i : Int} (h0 : 0 ≤ i) (h1 : i < n) : i < nxF f n i ∧ nxF f n i ≤ n := by have := nxF_le f n i ⟨h0, h1⟩; omega
theorem tk_lt {i : Int} (h0 : 0 ≤ i) (h : ¬ tkF f n i = 3001) : i < n := by have := tkF_v f n i h0; omega
theorem sq_g {a : Int × Int × Int} {F : Int → Int × Int × Int} {i : Int} (h0 : 0 ≤ i) (ha : a.1 = 0 → i < a.2.2 ∧ a.2.2 ≤ n) (hF : PH n F) : (sqP a F).1 = 0 → i < (sqP a F).2.2 ∧ (sqP a F).2.2 ≤ n := fun h => by
  have s := sqP_s a F
  rcases s with ⟨s1, s2, s3, s4⟩ | ⟨s1, s2, s3⟩
  · obtain ⟨b, c⟩ := ha s1
    have := hF a.2.2 (by omega) (by omega) c
    omega
  · omega
theorem ex_g (t : Int) (ht : ¬ t = 3001) : PG n (exP f n t) := fun i h0 h h1 => by
  have s := exP_s f n t i
  have v := flP_s f n i 2
  rcases s with ⟨s1, s2, s3⟩ | ⟨s1, s2, s3⟩
  · have := nx_b f n h0 (tk_lt f n h0 (by omega)); omega
  · omega
theorem nu_g (lo hi : Int) : PG n (nuP f n lo hi) := fun i h0 h h1 => by
  have s := nuP_s f n lo hi i
  have v := flP_s f n i 2
  rcases s with ⟨s1, s2, s3⟩ | ⟨s1, _, s2, s3⟩ | ⟨s1, _, _, s2, s3⟩
  · omega
  · omega
  · have := nx_b f n h0 (tk_lt f n h0 (by omega)); omega
theorem PG.h {F : Int → Int × Int × Int} (h : PG n F) : PH n F := fun i h0 h1 h2 => by have := h i h0 h1 h2; omega
/-- token i is one of these -/
noncomputable def tqB (a b : Int) (i : Int) : Bool := decide (tkF f n i = a ∨ tkF f n i = b)
theorem tqB_s (a b i : Int) : (tqB f n a b i = true ∧ (tkF f n i = a ∨ tkF f n i = b)) ∨ (¬ tqB f n a b i = true ∧ ¬ tkF f n i = a ∧ ¬ tkF f n i = b) := by
  unfold tqB
  by_cases h : tkF f n i = a ∨ tkF f n i = b
  · exact Or.inl ⟨decide_eq_true h, h⟩
  · exact Or.inr ⟨fun z => h (of_decide_eq_true z), by omega, by omega⟩
theorem lq_s {a b : Int} (hab : ¬ a = 3001 ∧ ¬ b = 3001) {G : Int → Int × Int × Int} (hG : PG n G) : ∀ i, 0 ≤ i → i ≤ n → tqB f n a b i = true → i < n ∧ ((G (nxF f n i)).1 = 0 → i < (G (nxF f n i)).2.2 ∧ (G (nxF f n i)).2.2 ≤ n) := fun i h0 h1 h2 => by
  have ht : tkF f n i = a ∨ tkF f n i = b := by
    rcases tqB_s f n a b i with ⟨_, q⟩ | ⟨q, _⟩
    · exact q
    · exact absurd h2 q
  have l := tk_lt f n h0 (by omega)
  have m := nx_b f n h0 l
  refine ⟨l, fun h => ?_⟩
  have := hG _ (by omega) h (by omega)
  omega
/-- a loop over tokens a, b: each is taken, then G -/
noncomputable def luP (a b : Int) (G : Int → Int × Int × Int) (i : Int) : Int × Int × Int := lpP n (tqB f n a b) (fun j => G (nxF f n j)) i
theorem luP_s {a b : Int} (hab : ¬ a = 3001 ∧ ¬ b = 3001) {G : Int → Int × Int × Int} (hG : PG n G) (i : Int) (h0 : 0 ≤ i ∧ i ≤ n) : ((tkF f n i = a ∨ tkF f n i = b) ∧ ¬ (G (nxF f n i)).1 = 0 ∧ (luP f n a b G i).1 = (G (nxF f n i)).1 ∧ (luP f n a b G i).2.1 = (G (nxF f n i)).2.1) ∨ ((tkF f n i = a ∨ tkF f n i = b) ∧ (G (nxF f n i)).1 = 0 ∧ (luP f n a b G i).1 = (luP f n a b G (G (nxF f n i)).2.2).1 ∧ (luP f n a b G i).2.1 = (luP f n a b G (G (nxF f n i)).2.2).2.1 ∧ (luP f n a b G i).2.2 = (luP f n a b G (G (nxF f n i)).2.2).2.2) ∨ (¬ tkF f n i = a ∧ ¬ tkF f n i = b ∧ (luP f n a b G i).1 = 0 ∧ (luP f n a b G i).2.2 = i) := by
  have yes : tqB f n a b i = true → tkF f n i = a ∨ tkF f n i = b := fun z => by
    rcases tqB_s f n a b i with ⟨_, q⟩ | ⟨q, _⟩
    · exact q
    · exact absurd z q
  have no : ¬ tqB f n a b i = true → ¬ tkF f n i = a ∧ ¬ tkF f n i = b := fun z => by
    rcases tqB_s f n a b i with ⟨q, _⟩ | ⟨_, q⟩
    · exact absurd q z
    · exact q
  rcases lpP_s n (lq_s f n hab hG) i h0 with ⟨z, x, y, w⟩ | ⟨z, x, y⟩ | ⟨z, y⟩
  · exact Or.inl ⟨yes z, x, y, w⟩
  · refine Or.inr (Or.inl ⟨yes z, x, ?_⟩)
    unfold luP
    rw [y]; exact ⟨rfl, rfl, rfl⟩
  · refine Or.inr (Or.inr ⟨(no z).1, (no z).2, ?_⟩)
    unfold luP
    rw [y]; exact ⟨rfl, rfl⟩
theorem lu_h {a b : Int} (hab : ¬ a = 3001 ∧ ¬ b = 3001) {G : Int → Int × Int × Int} (hG : PG n G) : PH n (luP f n a b G) := lpP_h n (lq_s f n hab hG)
/-- sums: sub is the sum one level deeper; d whether there is none -/
noncomputable def atP (d : Bool) (sub : Int → Int × Int × Int) (i : Int) : Int × Int × Int := if tkF f n i < 1008 then (0, 0, nxF f n i) else if tkF f n i = 2040 then (if d = true then faP f n i 4 else sqP (sub (nxF f n i)) (exP f n 2041)) else faP f n i 2
theorem atP_s (d : Bool) (sub : Int → Int × Int × Int) (i : Int) : (tkF f n i < 1008 ∧ (atP f n d sub i).1 = 0 ∧ (atP f n d sub i).2.2 = nxF f n i) ∨ (tkF f n i = 2040 ∧ d = true ∧ (atP f n d sub i).1 = 4 ∧ (atP f n d sub i).2.1 = i) ∨ (tkF f n i = 2040 ∧ d = false ∧ atP f n d sub i = sqP (sub (nxF f n i)) (exP f n 2041)) ∨ (1008 ≤ tkF f n i ∧ ¬ tkF f n i = 2040 ∧ (atP f n d sub i).1 = flP f n i 2 ∧ (atP f n d sub i).2.1 = i) := by
  unfold atP
  by_cases h : tkF f n i < 1008
  · rw [if_pos h]; exact Or.inl ⟨h, rfl, rfl⟩
  · rw [if_neg h]
    by_cases h2 : tkF f n i = 2040
    · rw [if_pos h2]
      cases d
      · exact Or.inr (Or.inr (Or.inl ⟨h2, rfl, rfl⟩))
      · exact Or.inr (Or.inl ⟨h2, rfl, by show flP f n i 4 = 4; unfold flP; rw [if_neg (by omega)], rfl⟩)
    · rw [if_neg h2]; exact Or.inr (Or.inr (Or.inr ⟨by omega, h2, rfl, rfl⟩))
noncomputable def teP (d : Bool) (sub : Int → Int × Int × Int) (i : Int) : Int × Int × Int := sqP (atP f n d sub i) (luP f n 2042 2042 (atP f n d sub))
noncomputable def suP (d : Bool) (sub : Int → Int × Int × Int) (i : Int) : Int × Int × Int := sqP (teP f n d sub i) (luP f n 2043 2045 (teP f n d sub))
theorem at_g {d : Bool} {sub : Int → Int × Int × Int} (h : d = false → PG n sub) : PG n (atP f n d sub) := fun i h0 h1 h2 => by
  have v := flP_s f n i 2
  rcases atP_s f n d sub i with ⟨a, b, c⟩ | ⟨a, b, c, e⟩ | ⟨a, b, c⟩ | ⟨a, b, c, e⟩
  · have := nx_b f n h0 (tk_lt f n h0 (by omega)); omega
  · omega
  · have l := nx_b f n h0 (tk_lt f n h0 (by omega))
    rw [c] at h1 ⊢
    exact sq_g n h0 (fun z => by have := h b _ (by omega) z l.2; omega) (PG.h n (ex_g f n 2041 (by decide))) h1
  · omega
theorem te_g {d : Bool} {sub : Int → Int × Int × Int} (h : d = false → PG n sub) : PG n (teP f n d sub) := fun i h0 h1 h2 =>
  sq_g n h0 (fun z => at_g f n h i h0 z h2) (lu_h f n (by decide) (at_g f n h)) h1
theorem su_g {d : Bool} {sub : Int → Int × Int × Int} (h : d = false → PG n sub) : PG n (suP f n d sub) := fun i h0 h1 h2 =>
  sq_g n h0 (fun z => te_g f n h i h0 z h2) (lu_h f n (by decide) (te_g f n h)) h1
/-- r levels may come deeper -/
noncomputable def suR : Nat → Int → Int × Int × Int
  | 0 => suP f n true (fun i => (0, 0, i))
  | r + 1 => suP f n false (suR r)
theorem suR_g : ∀ r, PG n (suR f n r)
  | 0 => su_g f n (fun h => by cases h)
  | r + 1 => su_g f n (fun _ => suR_g r)
/-- truths: subU, subT one level deeper -/
noncomputable def unP (d : Bool) (su subU subT : Int → Int × Int × Int) (i : Int) : Int × Int × Int := if tkF f n i = 1016 then (if d = true then faP f n i 4 else subU (nxF f n i)) else if tkF f n i = 2091 then (if d = true then faP f n i 4 else sqP (subT (nxF f n i)) (exP f n 2093)) else sqP (su i) (fun j => if tkF f n j = 2061 ∨ tkF f n j = 2060 ∨ tkF f n j = 2062 then su (nxF f n j) else faP f n j 2)
noncomputable def cmP (su : Int → Int × Int × Int) (j : Int) : Int × Int × Int := if tkF f n j = 2061 ∨ tkF f n j = 2060 ∨ tkF f n j = 2062 then su (nxF f n j) else faP f n j 2
theorem cmP_s (su : Int → Int × Int × Int) (j : Int) : ((tkF f n j = 2061 ∨ tkF f n j = 2060 ∨ tkF f n j = 2062) ∧ (cmP f n su j).1 = (su (nxF f n j)).1 ∧ (cmP f n su j).2.1 = (su (nxF f n j)).2.1 ∧ (cmP f n su j).2.2 = (su (nxF f n j)).2.2) ∨ (¬ tkF f n j = 2061 ∧ ¬ tkF f n j = 2060 ∧ ¬ tkF f n j = 2062 ∧ (cmP f n su j).1 = flP f n j 2 ∧ (cmP f n su j).2.1 = j) := by
  unfold cmP
  by_cases h : tkF f n j = 2061 ∨ tkF f n j = 2060 ∨ tkF f n j = 2062
  · rw [if_pos h]; exact Or.inl ⟨h, rfl, rfl, rfl⟩
  · rw [if_neg h]; exact Or.inr ⟨by omega, by omega, by omega, rfl, rfl⟩
theorem cm_g {su : Int → Int × Int × Int} (h : PG n su) : PG n (cmP f n su) := fun i h0 h1 h2 => by
  have v := flP_s f n i 2
  rcases cmP_s f n su i with ⟨a, b, c, e⟩ | ⟨a, b, c, d, e⟩
  · have l := nx_b f n h0 (tk_lt f n h0 (by omega))
    have := h _ (by omega) (by omega) l.2
    omega
  · omega
theorem unP_s (d : Bool) (su subU subT : Int → Int × Int × Int) (i : Int) : (tkF f n i = 1016 ∧ d = true ∧ (unP f n d su subU subT i).1 = 4 ∧ (unP f n d su subU subT i).2.1 = i) ∨ (tkF f n i = 1016 ∧ d = false ∧ unP f n d su subU subT i = subU (nxF f n i)) ∨ (tkF f n i = 2091 ∧ d = true ∧ (unP f n d su subU subT i).1 = 4 ∧ (unP f n d su subU subT i).2.1 = i) ∨ (tkF f n i = 2091 ∧ d = false ∧ unP f n d su subU subT i = sqP (subT (nxF f n i)) (exP f n 2093)) ∨ (¬ tkF f n i = 1016 ∧ ¬ tkF f n i = 2091 ∧ unP f n d su subU subT i = sqP (su i) (cmP f n su)) := by
  unfold unP
  by_cases h : tkF f n i = 1016
  · rw [if_pos h]
    cases d
    · exact Or.inr (Or.inl ⟨h, rfl, rfl⟩)
    · exact Or.inl ⟨h, rfl, by show flP f n i 4 = 4; unfold flP; rw [if_neg (by omega)], rfl⟩
  · rw [if_neg h]
    by_cases h2 : tkF f n i = 2091
    · rw [if_pos h2]
      cases d
      · exact Or.inr (Or.inr (Or.inr (Or.inl ⟨h2, rfl, rfl⟩)))
      · exact Or.inr (Or.inr (Or.inl ⟨h2, rfl, by show flP f n i 4 = 4; unfold flP; rw [if_neg (by omega)], rfl⟩))
    · rw [if_neg h2]; exact Or.inr (Or.inr (Or.inr (Or.inr ⟨h, h2, rfl⟩)))
theorem un_g {d : Bool} {su subU subT : Int → Int × Int × Int} (hs : PG n su) (hu : d = false → PG n subU) (ht : d = false → PG n subT) : PG n (unP f n d su subU subT) := fun i h0 h1 h2 => by
  rcases unP_s f n d su subU subT i with ⟨a, b, c, e⟩ | ⟨a, b, c⟩ | ⟨a, b, c, e⟩ | ⟨a, b, c⟩ | ⟨a, b, c⟩
  · omega
  · have l := nx_b f n h0 (tk_lt f n h0 (by omega))
    rw [c] at h1 ⊢
    have := hu b _ (by omega) h1 l.2
    omega
  · omega
  · have l := nx_b f n h0 (tk_lt f n h0 (by omega))
    rw [c] at h1 ⊢
    exact sq_g n h0 (fun z => by have := ht b _ (by omega) z l.2; omega) (PG.h n (ex_g f n 2093 (by decide))) h1
  · rw [c] at h1 ⊢
    exact sq_g n h0 (fun z => hs i h0 z h2) (PG.h n (cm_g f n hs)) h1
noncomputable def boP (u : Int → Int × Int × Int) (i : Int) : Int × Int × Int := sqP (u i) (luP f n 1015 1015 u)
noncomputable def trP (u : Int → Int × Int × Int) (i : Int) : Int × Int × Int := sqP (boP f n u i) (luP f n 1014 1014 (boP f n u))
theorem bo_g {u : Int → Int × Int × Int} (h : PG n u) : PG n (boP f n u) := fun i h0 h1 h2 => sq_g n h0 (fun z => h i h0 z h2) (lu_h f n (by decide) h) h1
theorem tr_g {u : Int → Int × Int × Int} (h : PG n u) : PG n (trP f n u) := fun i h0 h1 h2 => sq_g n h0 (fun z => bo_g f n h i h0 z h2) (lu_h f n (by decide) (bo_g f n h)) h1
noncomputable def unR : Nat → Int → Int × Int × Int
  | 0 => unP f n true (suR f n 0) (fun i => (0, 0, i)) (fun i => (0, 0, i))
  | r + 1 => unP f n false (suR f n (r + 1)) (unR r) (trP f n (unR r))
theorem unR_g : ∀ r, PG n (unR f n r)
  | 0 => un_g f n (suR_g f n 0) (fun h => by cases h) (fun h => by cases h)
  | r + 1 => un_g f n (suR_g f n (r + 1)) (fun _ => unR_g r) (fun _ => tr_g f n (unR_g r))
end PS
/-! LINES -/
section PL
variable (f : Nat → Int) (n : Int)
noncomputable def fgB (i : Int) : Bool := decide (tkF f n i = 1005 ∨ tkF f n i = 1007 ∨ tkF f n i = 1012)
noncomputable def fgS (i : Int) : Int × Int × Int := if tkF f n i = 1005 then nuP f n 0 9 (nxF f n i) else (0, 0, nxF f n i)
theorem fg_p : ∀ i, 0 ≤ i → i ≤ n → fgB f n i = true → i < n ∧ ((fgS f n i).1 = 0 → i < (fgS f n i).2.2 ∧ (fgS f n i).2.2 ≤ n) := fun i h0 h1 h2 => by
  unfold fgB at h2
  simp only [decide_eq_true_eq] at h2
  have l := tk_lt f n h0 (by omega)
  have m := nx_b f n h0 l
  refine ⟨l, fun h => ?_⟩
  unfold fgS at h ⊢
  by_cases q : tkF f n i = 1005
  · rw [if_pos q] at h ⊢
    have := nu_g f n 0 9 _ (by omega) h m.2
    omega
  · rw [if_neg q]; exact m
noncomputable def fgP (i : Int) : Int × Int × Int := lpP n (fgB f n) (fgS f n) i
/-- flags: one by one -/
theorem fgP_s (i : Int) (h0 : 0 ≤ i ∧ i ≤ n) : (tkF f n i = 1005 ∧ ¬ (nuP f n 0 9 (nxF f n i)).1 = 0 ∧ (fgP f n i).1 = (nuP f n 0 9 (nxF f n i)).1 ∧ (fgP f n i).2.1 = (nuP f n 0 9 (nxF f n i)).2.1) ∨ (tkF f n i = 1005 ∧ (nuP f n 0 9 (nxF f n i)).1 = 0 ∧ (fgP f n i).1 = (fgP f n (nuP f n 0 9 (nxF f n i)).2.2).1 ∧ (fgP f n i).2.1 = (fgP f n (nuP f n 0 9 (nxF f n i)).2.2).2.1 ∧ (fgP f n i).2.2 = (fgP f n (nuP f n 0 9 (nxF f n i)).2.2).2.2) ∨ ((tkF f n i = 1007 ∨ tkF f n i = 1012) ∧ (fgP f n i).1 = (fgP f n (nxF f n i)).1 ∧ (fgP f n i).2.1 = (fgP f n (nxF f n i)).2.1 ∧ (fgP f n i).2.2 = (fgP f n (nxF f n i)).2.2) ∨ (¬ tkF f n i = 1005 ∧ ¬ tkF f n i = 1007 ∧ ¬ tkF f n i = 1012 ∧ (fgP f n i).1 = 0 ∧ (fgP f n i).2.2 = i) := by
  have key := lpP_s n (fg_p f n) i h0
  have e : ∀ j, fgP f n j = lpP n (fgB f n) (fgS f n) j := fun j => rfl
  rw [e i]
  by_cases q : tkF f n i = 1005
  · have eS : fgS f n i = nuP f n 0 9 (nxF f n i) := by unfold fgS; rw [if_pos q]
    rw [eS] at key
    rcases key with ⟨_, a, b, c⟩ | ⟨_, a, b⟩ | ⟨a, _⟩
    · exact Or.inl ⟨q, a, b, c⟩
    · rw [b]; exact Or.inr (Or.inl ⟨q, a, rfl, rfl, rfl⟩)
    · exact absurd (decide_eq_true (Or.inl q)) a
  · have eS : fgS f n i = (0, 0, nxF f n i) := by unfold fgS; rw [if_neg q]
    rw [eS] at key
    by_cases q2 : tkF f n i = 1007 ∨ tkF f n i = 1012
    · rcases key with ⟨_, a, _, _⟩ | ⟨_, a, b⟩ | ⟨a, _⟩
      · exact absurd rfl a
      · rw [b]; exact Or.inr (Or.inr (Or.inl ⟨q2, rfl, rfl, rfl⟩))
      · exact absurd (decide_eq_true (Or.inr q2)) a
    · rcases key with ⟨a, _, _, _⟩ | ⟨a, _, _⟩ | ⟨_, a⟩
      · have := of_decide_eq_true a; omega
      · have := of_decide_eq_true a; omega
      · rw [a]; exact Or.inr (Or.inr (Or.inr ⟨q, by omega, by omega, rfl, rfl⟩))
theorem fg_h : PH n (fgP f n) := lpP_h n (fg_p f n)
noncomputable def kiT (j : Int) : Int × Int × Int := sqP (nuP f n 1 99 j) (fgP f n)
noncomputable def kiP (k i : Int) : Int × Int × Int := if 8 ≤ k then faP f n i 4 else sqP (exP f n 1004 (nxF f n i)) (kiT f n)
noncomputable def buT (j : Int) : Int × Int × Int := sqP (nuP f n 0 999 j) (luP f n 1002 1013 (nuP f n 0 9))
noncomputable def buP (b i : Int) : Int × Int × Int := if 6 ≤ b then faP f n i 4 else sqP (exP f n 1001 (nxF f n i)) (buT f n)
noncomputable def waP (i : Int) : Int × Int × Int := sqP (exP f n 2058 (nxF f n i)) (suR f n 6)
noncomputable def leP (i : Int) : Int × Int × Int := sqP (exP f n 2058 (nxF f n i)) (trP f n (unR f n 6))
noncomputable def liP (k b i : Int) : Int × Int × Int := if tkF f n i = 1003 then kiP f n k i else if tkF f n i = 1009 then buP f n b i else if tkF f n i = 1010 then waP f n i else if tkF f n i = 1011 then leP f n i else faP f n i 2
theorem liP_s (k b i : Int) : (tkF f n i = 1003 ∧ liP f n k b i = kiP f n k i) ∨ (tkF f n i = 1009 ∧ liP f n k b i = buP f n b i) ∨ (tkF f n i = 1010 ∧ liP f n k b i = waP f n i) ∨ (tkF f n i = 1011 ∧ liP f n k b i = leP f n i) ∨ (¬ tkF f n i = 1003 ∧ ¬ tkF f n i = 1009 ∧ ¬ tkF f n i = 1010 ∧ ¬ tkF f n i = 1011 ∧ (liP f n k b i).1 = flP f n i 2 ∧ (liP f n k b i).2.1 = i) := by
  unfold liP
  by_cases h1 : tkF f n i = 1003
  · rw [if_pos h1]; exact Or.inl ⟨h1, rfl⟩
  rw [if_neg h1]
  by_cases h2 : tkF f n i = 1009
  · rw [if_pos h2]; exact Or.inr (Or.inl ⟨h2, rfl⟩)
  rw [if_neg h2]
  by_cases h3 : tkF f n i = 1010
  · rw [if_pos h3]; exact Or.inr (Or.inr (Or.inl ⟨h3, rfl⟩))
  rw [if_neg h3]
  by_cases h4 : tkF f n i = 1011
  · rw [if_pos h4]; exact Or.inr (Or.inr (Or.inr (Or.inl ⟨h4, rfl⟩)))
  rw [if_neg h4]
  exact Or.inr (Or.inr (Or.inr (Or.inr ⟨h1, h2, h3, h4, rfl, rfl⟩)))
theorem ki_s (k i : Int) : (8 ≤ k ∧ (kiP f n k i).1 = flP f n i 4 ∧ (kiP f n k i).2.1 = i) ∨ (k < 8 ∧ kiP f n k i = sqP (exP f n 1004 (nxF f n i)) (kiT f n)) := by
  unfold kiP
  by_cases h : 8 ≤ k
  · rw [if_pos h]; exact Or.inl ⟨h, rfl, rfl⟩
  · rw [if_neg h]; exact Or.inr ⟨by omega, rfl⟩
theorem bu_s (b i : Int) : (6 ≤ b ∧ (buP f n b i).1 = flP f n i 4 ∧ (buP f n b i).2.1 = i) ∨ (b < 6 ∧ buP f n b i = sqP (exP f n 1001 (nxF f n i)) (buT f n)) := by
  unfold buP
  by_cases h : 6 ≤ b
  · rw [if_pos h]; exact Or.inl ⟨h, rfl, rfl⟩
  · rw [if_neg h]; exact Or.inr ⟨by omega, rfl⟩
theorem sq_g2 {F G : Int → Int × Int × Int} {t i : Int} (ht : ¬ t = 3001) (h0 : 0 ≤ i) (hi : i < n) (hG : PH n G) : (sqP (exP f n t (nxF f n i)) G).1 = 0 → i < (sqP (exP f n t (nxF f n i)) G).2.2 ∧ (sqP (exP f n t (nxF f n i)) G).2.2 ≤ n := by
  have l := nx_b f n h0 hi
  exact sq_g n h0 (fun z => by have := ex_g f n t ht _ (by omega) z l.2; omega) hG
theorem kiT_g : PG n (kiT f n) := fun i h0 h1 h2 => sq_g n h0 (fun z => nu_g f n 1 99 i h0 z h2) (fg_h f n) h1
theorem buT_g : PG n (buT f n) := fun i h0 h1 h2 => sq_g n h0 (fun z => nu_g f n 0 999 i h0 z h2) (lu_h f n (by decide) (nu_g f n 0 9)) h1
theorem li_g (k b : Int) : PG n (liP f n k b) := fun i h0 h1 h2 => by
  have v := flP_s f n i 2
  have v4 := flP_s f n i 4
  rcases liP_s f n k b i with ⟨a, e⟩ | ⟨a, e⟩ | ⟨a, e⟩ | ⟨a, e⟩ | ⟨_, _, _, _, e, _⟩
  · rw [e] at h1 ⊢
    rcases ki_s f n k i with ⟨_, q, _⟩ | ⟨_, q⟩
    · omega
    · rw [q] at h1 ⊢; exact sq_g2 f n (F := kiT f n) (by decide) h0 (tk_lt f n h0 (by omega)) (PG.h n (kiT_g f n)) h1
  · rw [e] at h1 ⊢
    rcases bu_s f n b i with ⟨_, q, _⟩ | ⟨_, q⟩
    · omega
    · rw [q] at h1 ⊢; exact sq_g2 f n (F := kiT f n) (by decide) h0 (tk_lt f n h0 (by omega)) (PG.h n (buT_g f n)) h1
  · rw [e] at h1 ⊢; exact sq_g2 f n (F := kiT f n) (by decide) h0 (tk_lt f n h0 (by omega)) (PG.h n (suR_g f n 6)) h1
  · rw [e] at h1 ⊢; exact sq_g2 f n (F := kiT f n) (by decide) h0 (tk_lt f n h0 (by omega)) (PG.h n (tr_g f n (unR_g f n 6))) h1
  · omega
/-- a line with its end -/
noncomputable def lnP (k b i : Int) : Int × Int × Int := sqP (liP f n k b i) (exP f n 2059)
theorem ln_g (k b : Int) : PG n (lnP f n k b) := fun i h0 h1 h2 => sq_g n h0 (fun z => li_g f n k b i h0 z h2) (PG.h n (ex_g f n 2059 (by decide))) h1
noncomputable def inc (t s k : Int) : Int := if t = s then k + 1 else k
theorem inc_s (t s k : Int) : (t = s ∧ inc t s k = k + 1) ∨ (¬ t = s ∧ inc t s k = k) := by
  unfold inc; split <;> simp_all
/-- all lines: (fault, its place, lines) -/
noncomputable def mnG : Nat → Int → Int → Int → Int → Int × Int × Int
  | 0, _, _, _, l => (0, 0, l)
  | m + 1, i, k, b, l => if tkF f n i = 3001 then (0, 0, l) else if (lnP f n k b i).1 = 0 then mnG m (lnP f n k b i).2.2 (inc (tkF f n i) 1003 k) (inc (tkF f n i) 1009 b) (l + 1) else lnP f n k b i
noncomputable def mnP (i k b l : Int) : Int × Int × Int := mnG f n (n + 1 - i).toNat i k b l
theorem mnG_e : ∀ (m j : Nat) (i k b l : Int), 0 ≤ i → i ≤ n → (n - i).toNat < m → (n - i).toNat < j → mnG f n m i k b l = mnG f n j i k b l
  | 0, j, i, k, b, l, h0, h1, h2, h3 => by omega
  | m + 1, 0, i, k, b, l, h0, h1, h2, h3 => by omega
  | m + 1, j + 1, i, k, b, l, h0, h1, h2, h3 => by
    rw [mnG, mnG]
    by_cases z : tkF f n i = 3001
    · rw [if_pos z, if_pos z]
    · rw [if_neg z, if_neg z]
      by_cases y : (lnP f n k b i).1 = 0
      · rw [if_pos y, if_pos y]
        obtain ⟨c, d⟩ := ln_g f n k b i h0 y h1
        exact mnG_e m j _ _ _ _ (by omega) d (by omega) (by omega)
      · rw [if_neg y, if_neg y]
theorem mnP_s (i k b l : Int) (h : 0 ≤ i ∧ i ≤ n) : (tkF f n i = 3001 ∧ mnP f n i k b l = (0, 0, l)) ∨ (¬ tkF f n i = 3001 ∧ (lnP f n k b i).1 = 0 ∧ mnP f n i k b l = mnP f n (lnP f n k b i).2.2 (inc (tkF f n i) 1003 k) (inc (tkF f n i) 1009 b) (l + 1)) ∨ (¬ tkF f n i = 3001 ∧ ¬ (lnP f n k b i).1 = 0 ∧ mnP f n i k b l = lnP f n k b i) := by
  unfold mnP
  rw [show (n + 1 - i).toNat = (n - i).toNat + 1 by omega, mnG]
  by_cases z : tkF f n i = 3001
  · rw [if_pos z]; exact Or.inl ⟨z, rfl⟩
  · rw [if_neg z]
    by_cases y : (lnP f n k b i).1 = 0
    · obtain ⟨c, d⟩ := ln_g f n k b i h.1 y h.2
      rw [if_pos y]
      exact Or.inr (Or.inl ⟨z, y, mnG_e f n _ _ _ _ _ _ (by omega) d (by omega) (by omega)⟩)
    · rw [if_neg y]; exact Or.inr (Or.inr ⟨z, y, rfl⟩)
/-- the whole text -/
noncomputable def hdP : Int × Int × Int := sqP (exP f n 1008 (runE blB f n 0)) (exP f n 2059)
noncomputable def rdP : Int × Int × Int := if (hdP f n).1 = 0 then mnP f n (hdP f n).2.2 0 0 1 else hdP f n
theorem rdP_s : ((hdP f n).1 = 0 ∧ rdP f n = mnP f n (hdP f n).2.2 0 0 1) ∨ (¬ (hdP f n).1 = 0 ∧ rdP f n = hdP f n) := by
  unfold rdP
  by_cases h : (hdP f n).1 = 0
  · rw [if_pos h]; exact Or.inl ⟨h, rfl⟩
  · rw [if_neg h]; exact Or.inr ⟨h, rfl⟩
end PL
